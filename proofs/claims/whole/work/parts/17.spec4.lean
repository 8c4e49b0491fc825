theorem cut_no {ρ : Row} {y m d : Int} (h : ¬ (-2000 ≤ y ∧ y ≤ 2000)) : cut ρ y m d = -2147483647 := by unfold cut; rw [if_neg h]
theorem mlat_y {ρ : Row} (h : okRow ρ) {d n y m : Int} (hy : -2000 ≤ y ∧ y ≤ 2000) (e : Mb ρ y + m - 1 = mcon ρ d + n) (h1 : 1 ≤ m) (h2 : m ≤ mcnt ρ y) : mlat ρ d n = cut ρ y m (dof ρ d) := by
  have hs := Mb_succ ρ y
  have e1 : ym ρ (mcon ρ d + n) = y := ym_eq h (by omega) (by omega) (Or.inr (by omega)) (Or.inr (by omega))
  unfold mlat
  rw [e1, ← e, show Mb ρ y + m - 1 - Mb ρ y + 1 = m by omega]
theorem mlat_lo {ρ : Row} (h : okRow ρ) {d n : Int} (e : mcon ρ d + n < Mb ρ (-2000)) : mlat ρ d n = -2147483647 := by
  have e1 : ym ρ (mcon ρ d + n) = -2001 := ym_eq h (by omega) (by omega) (Or.inl rfl) (Or.inr e)
  unfold mlat
  rw [e1, cut_no (by omega)]
theorem mlat_hi {ρ : Row} (h : okRow ρ) {d n : Int} (e : Mb ρ 2001 ≤ mcon ρ d + n) : mlat ρ d n = -2147483647 := by
  have e1 : ym ρ (mcon ρ d + n) = 2001 := ym_eq h (by omega) (by omega) (Or.inr e) (Or.inl rfl)
  unfold mlat
  rw [e1, cut_no (by omega)]
theorem wk_cases {L : Int} (h : 2 ≤ L ∧ L ≤ 10) : L = 2 ∨ L = 3 ∨ L = 4 ∨ L = 5 ∨ L = 6 ∨ L = 7 ∨ L = 8 ∨ L = 9 ∨ L = 10 := by omega
theorem wc_t {L z g d wd : Int} (h : 2 ≤ L ∧ L ≤ 10) (hw : 0 ≤ wd ∧ wd < L) (hd : g ≤ d) (e : (z + d) % L = wd) : wcnt (g + (wd - (z + g) % L) % L) L (d + 1) = wcnt (g + (wd - (z + g) % L) % L) L d + 1 ∧ d = g + (wd - (z + g) % L) % L + wcnt (g + (wd - (z + g) % L) % L) L d * L := by
  unfold wcnt
  rcases wk_cases h with q | q | q | q | q | q | q | q | q <;> subst q <;> (split <;> split <;> omega)
theorem wc_f {L z g d wd : Int} (h : 2 ≤ L ∧ L ≤ 10) (hw : 0 ≤ wd ∧ wd < L) (hd : g ≤ d) (e : ¬ (z + d) % L = wd) : wcnt (g + (wd - (z + g) % L) % L) L (d + 1) = wcnt (g + (wd - (z + g) % L) % L) L d := by
  unfold wcnt
  rcases wk_cases h with q | q | q | q | q | q | q | q | q <;> subst q <;> (split <;> split <;> omega)
theorem wc_0 {L z g wd : Int} (h : 2 ≤ L ∧ L ≤ 10) : wcnt (g + (wd - (z + g) % L) % L) L g = 0 := by
  unfold wcnt
  have := Int.emod_nonneg (wd - (z + g) % L) (show L ≠ 0 by omega)
  rw [if_pos (by omega)]
/-- what is found of a month's days with a weekday, once they were counted up to a day -/
def wfnd (bb c F L : Int) : Int := if bb = -1 then (if c = 0 then -2147483647 else F + (c - 1) * L) else if bb ≤ c then F + (bb - 1) * L else -2147483647
theorem wfnd_0 {bb F L : Int} (h : bb = -1 ∨ 1 ≤ bb) : wfnd bb 0 F L = -2147483647 := by
  unfold wfnd
  by_cases q : bb = -1
  · rw [if_pos q, if_pos rfl]
  · rw [if_neg q, if_neg (by omega)]
theorem wfnd_s1 {bb c F L : Int} (h : bb = -1 ∨ bb = c + 1) (hc : 0 ≤ c) : wfnd bb (c + 1) F L = F + c * L := by
  unfold wfnd
  rcases h with q | q
  · rw [if_pos q, if_neg (by omega), show c + 1 - 1 = c by omega]
  · rw [if_neg (by omega), if_pos (by omega), q, show c + 1 - 1 = c by omega]
theorem wfnd_s2 {bb c F L : Int} (h : ¬ bb = -1) (h2 : ¬ c + 1 = bb) : wfnd bb (c + 1) F L = wfnd bb c F L := by
  unfold wfnd
  rw [if_neg h, if_neg h]
  by_cases q : bb ≤ c
  · rw [if_pos q, if_pos (by omega)]
  · rw [if_neg q, if_neg (by omega)]
theorem wcnt_nn {F L d : Int} (hL : 2 ≤ L) : 0 ≤ wcnt F L d := by
  unfold wcnt
  split
  · omega
  · have := Int.ediv_nonneg (show 0 ≤ d - F - 1 by omega) (show 0 ≤ L by omega); omega
/-- the day of a feast by its rule, out of the days of the earlier ones -/
noncomputable def ruled (rw_ : Int → Row) (fe : Int → Int → Int32) (days : Int → Int) (f yr : Int) : Int :=
  if (fe f 0).toInt < 2 then
    (if (fe f 0).toInt = 0 then cut (rw_ (fe f 2).toInt) yr (if (fe f 3).toInt < mcnt (rw_ (fe f 2).toInt) yr then (fe f 3).toInt else mcnt (rw_ (fe f 2).toInt) yr) (fe f 4).toInt
     else win (rw_ (fe f 2).toInt) yr (if (fe f 3).toInt < mcnt (rw_ (fe f 2).toInt) yr then (fe f 3).toInt else mcnt (rw_ (fe f 2).toInt) yr) (fe f 4).toInt (fe f 5).toInt)
  else if days (fe f 2).toInt = -2147483647 then -2147483647
  else if (fe f 0).toInt = 2 then days (fe f 2).toInt + (fe f 3).toInt
  else if (fe f 0).toInt = 3 then wfrom (rw_ (fe f 3).toInt) (days (fe f 2).toInt) (fe f 4).toInt
  else nfrom (rw_ (fe f 3).toInt) (days (fe f 2).toInt) (fe f 4).toInt
/-- a feast that can be: nc calendars, f earlier feasts -/
def okFe (nc f : Int) (q : Int → Int32) : Prop :=
  (0 ≤ (q 1).toInt ∧ (q 1).toInt ≤ 9) ∧
  (((q 0).toInt = 0 ∧ (0 ≤ (q 2).toInt ∧ (q 2).toInt < nc) ∧ (1 ≤ (q 3).toInt ∧ (q 3).toInt ≤ 15) ∧ (1 ≤ (q 4).toInt ∧ (q 4).toInt ≤ 60)) ∨
   ((q 0).toInt = 1 ∧ (0 ≤ (q 2).toInt ∧ (q 2).toInt < nc) ∧ (1 ≤ (q 3).toInt ∧ (q 3).toInt ≤ 15) ∧ ((1 ≤ (q 4).toInt ∧ (q 4).toInt ≤ 5) ∨ (q 4).toInt = -1) ∧ (0 ≤ (q 5).toInt ∧ (q 5).toInt ≤ 9)) ∨
   ((q 0).toInt = 2 ∧ (0 ≤ (q 2).toInt ∧ (q 2).toInt < f) ∧ (-400 ≤ (q 3).toInt ∧ (q 3).toInt ≤ 400)) ∨
   ((q 0).toInt = 3 ∧ (0 ≤ (q 2).toInt ∧ (q 2).toInt < f) ∧ (0 ≤ (q 3).toInt ∧ (q 3).toInt < nc) ∧ (0 ≤ (q 4).toInt ∧ (q 4).toInt ≤ 9)) ∨
   ((q 0).toInt = 4 ∧ (0 ≤ (q 2).toInt ∧ (q 2).toInt < f) ∧ (0 ≤ (q 3).toInt ∧ (q 3).toInt < nc) ∧ (1 ≤ (q 4).toInt ∧ (q 4).toInt ≤ 60)))
/-- the day, if it is one -/
def clampD (d : Int) : Int := if d ≠ -2147483647 ∧ -999999 ≤ d ∧ d ≤ 999999 then d else -2147483647
/-- the days of the first k feasts in a year -/
noncomputable def fdN (rw_ : Int → Row) (fe : Int → Int → Int32) (yr : Int) : Nat → Int → Int
  | 0 => fun _ => -2147483647
  | k + 1 => fun j => if j = k then clampD (ruled rw_ fe (fdN rw_ fe yr k) k yr) else fdN rw_ fe yr k j
noncomputable def fday (rw_ : Int → Row) (fe : Int → Int → Int32) (yr f : Int) : Int := fdN rw_ fe yr (f + 1).toNat f
theorem clampD_bd (d : Int) : clampD d = -2147483647 ∨ (-999999 ≤ clampD d ∧ clampD d ≤ 999999) := by
  unfold clampD
  split
  · next q => exact Or.inr ⟨q.2.1, q.2.2⟩
  · exact Or.inl rfl
