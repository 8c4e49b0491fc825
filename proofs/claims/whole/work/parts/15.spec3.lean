theorem fd_step {ρ : Row} (h : okRow ρ) {y d m : Int} (h1 : 1 ≤ m) (h2 : m ≤ mcnt ρ y) (h3 : mlen ρ y m < d - fst ρ y + 1 - msum ρ y (m - 1).toNat) (h4 : d < fst ρ (y + 1)) : m + 1 ≤ mcnt ρ y := by
  rcases (show m + 1 ≤ mcnt ρ y ∨ m = mcnt ρ y by omega) with q | q
  · exact q
  · exfalso
    have a := msum_all h y
    have b := msum_s (ρ := ρ) (y := y) (m := m) h1
    rw [show m + 1 - 1 = m by omega] at b
    rw [← q] at a
    rw [fst_succ] at h4
    omega
theorem mof_bd {ρ : Row} (h : okRow ρ) (d : Int) : 1 ≤ mof ρ d ∧ mof ρ d ≤ mcnt ρ (yof ρ d) := by
  have key : ∀ k : Nat, 1 ≤ mofN ρ (yof ρ d) (d - fst ρ (yof ρ d)) k ∧ mofN ρ (yof ρ d) (d - fst ρ (yof ρ d)) k ≤ (k : Int) + 1 := by
    intro k
    induction k with
    | zero => rw [mofN]; omega
    | succ k ih => rw [mofN]; split <;> omega
  have h1 := key (mcnt ρ (yof ρ d) - 1).toNat
  have h2 := mcnt_bd h (yof ρ d)
  unfold mof mofY
  omega
/-- where a day lies in its month -/
theorem dof_bd {ρ : Row} (h : okRow ρ) {d : Int} (h1 : fst ρ (-2000) ≤ d) (h2 : d < fst ρ 2001) : 1 ≤ dof ρ d ∧ dof ρ d ≤ mlen ρ (yof ρ d) (mof ρ d) := by
  obtain ⟨-, g1, g2⟩ := yof_in h h1 h2
  have key : ∀ k : Nat, (k : Int) + 1 ≤ mcnt ρ (yof ρ d) → ∃ m : Int, 1 ≤ m ∧ m ≤ (k : Int) + 1 ∧ msum ρ (yof ρ d) (m - 1).toNat ≤ d - fst ρ (yof ρ d) ∧ (m = (k : Int) + 1 ∨ d - fst ρ (yof ρ d) < msum ρ (yof ρ d) m.toNat) := by
    intro k
    induction k with
    | zero => intro _; exact ⟨1, by omega, by omega, by show msum ρ _ 0 ≤ _; rw [msum]; omega, Or.inl (by omega)⟩
    | succ k ih =>
      intro hk
      obtain ⟨m, a1, a2, a3, a4⟩ := ih (by omega)
      rcases a4 with a4 | a4
      · by_cases q : msum ρ (yof ρ d) (m + 1 - 1).toNat ≤ d - fst ρ (yof ρ d)
        · exact ⟨m + 1, by omega, by omega, q, Or.inl (by omega)⟩
        · exact ⟨m, a1, by omega, a3, Or.inr (by rw [show m.toNat = (m + 1 - 1).toNat by omega]; omega)⟩
      · exact ⟨m, a1, by omega, a3, Or.inr a4⟩
  have hc := mcnt_bd h (yof ρ d)
  obtain ⟨m, a1, a2, a3, a4⟩ := key (mcnt ρ (yof ρ d) - 1).toNat (by omega)
  have a5 : d - fst ρ (yof ρ d) < msum ρ (yof ρ d) m.toNat := by
    rcases a4 with a4 | a4
    · have a := msum_all h (yof ρ d)
      rw [show m.toNat = (mcnt ρ (yof ρ d)).toNat by omega, a]
      rw [fst_succ] at g2
      omega
    · exact a4
  have e : mof ρ d = m := mofY_eq h a1 (by omega) a3 a5
  have b := msum_s (ρ := ρ) (y := yof ρ d) (m := m) a1
  rw [show m + 1 - 1 = m by omega] at b
  unfold dof
  rw [e]
  omega
/-- a part of the date of a day -/
noncomputable def pof (ρ : Row) (d part : Int) : Int := if part = 0 then yof ρ d else if part = 1 then mof ρ d else if part = 2 then dof ρ d else if part = 3 then d - fst ρ (yof ρ d) + 1 else wdy ρ d
noncomputable def ylat (ρ : Row) (d n : Int) : Int :=
  if -2000 ≤ yof ρ d + n ∧ yof ρ d + n ≤ 2000 then cut ρ (yof ρ d + n) (if mof ρ d < mcnt ρ (yof ρ d + n) then mof ρ d else mcnt ρ (yof ρ d + n)) (dof ρ d) else -2147483647
noncomputable def nfN (ρ : Row) (num : Int) : Nat → Int → Int
  | 0, _ => -2147483647
  | k + 1, d => if fst ρ (-2000) ≤ d ∧ d < fst ρ 2001 then (if dof ρ d = num then d else nfN ρ num k (d + 1)) else -2147483647
noncomputable def nfrom (ρ : Row) (d num : Int) : Int := nfN ρ num 400 d
theorem nfN_s {ρ : Row} {num d e : Int} (h1 : d ≤ e) (h2 : e < d + 400) : nfN ρ num (d + 400 - e).toNat e = if fst ρ (-2000) ≤ e ∧ e < fst ρ 2001 then (if dof ρ e = num then e else nfN ρ num (d + 400 - (e + 1)).toNat (e + 1)) else -2147483647 := by
  rw [show (d + 400 - e).toNat = (d + 400 - (e + 1)).toNat + 1 by omega, nfN]
/-- the months before a year, from the year 0 on; the year of a counted month -/
noncomputable def MbP (ρ : Row) : Nat → Int
  | 0 => 0
  | k + 1 => MbP ρ k + mcnt ρ k
noncomputable def MbN (ρ : Row) : Nat → Int
  | 0 => 0
  | k + 1 => MbN ρ k - mcnt ρ (-(k + 1))
noncomputable def Mb (ρ : Row) (y : Int) : Int := if 0 ≤ y then MbP ρ y.toNat else MbN ρ (-y).toNat
theorem Mb_succ (ρ : Row) (y : Int) : Mb ρ (y + 1) = Mb ρ y + mcnt ρ y := by
  unfold Mb
  by_cases h : 0 ≤ y
  · rw [if_pos h, if_pos (by omega), show (y + 1).toNat = y.toNat + 1 by omega, MbP, show ((y.toNat : Nat) : Int) = y by omega]
  · rw [if_neg h, show (-y).toNat = (-(y + 1)).toNat + 1 by omega, MbN, show -((((-(y + 1)).toNat : Nat) : Int) + 1) = y by omega]
    by_cases h0 : y = -1
    · subst h0
      show (0 : Int) = 0 - _ + _
      omega
    · rw [if_neg (by omega)]
      omega
theorem Mb_mono {ρ : Row} (h : okRow ρ) {x y : Int} (hxy : x ≤ y) : Mb ρ x + (y - x) ≤ Mb ρ y ∧ Mb ρ y ≤ Mb ρ x + 15 * (y - x) := by
  obtain ⟨k, rfl⟩ : ∃ k : Nat, y = x + k := ⟨(y - x).toNat, by omega⟩
  clear hxy
  induction k with
  | zero => simp
  | succ k ih =>
    have h1 := Mb_succ ρ (x + k)
    have h2 := mcnt_bd h (x + k)
    have e : x + ((k + 1 : Nat) : Int) = x + k + 1 := by omega
    rw [e]
    omega
noncomputable def ymN (ρ : Row) (c : Int) : Nat → Int
  | 0 => -2001
  | k + 1 => if Mb ρ (-2001 + (k + 1)) ≤ c then -2001 + (k + 1) else ymN ρ c k
/-- the greatest year from -2001 to 2001 that has begun by a counted month -/
noncomputable def ym (ρ : Row) (c : Int) : Int := ymN ρ c 4002
theorem ym_eq {ρ : Row} (h : okRow ρ) {c y : Int} (h1 : -2001 ≤ y) (h2 : y ≤ 2001) (h3 : y = -2001 ∨ Mb ρ y ≤ c) (h4 : y = 2001 ∨ c < Mb ρ (y + 1)) : ym ρ c = y := by
  have key : ∀ k : Nat, (k : Int) ≤ 4002 → y ≤ -2001 + k → ymN ρ c k = y := by
    intro k
    induction k with
    | zero => intro _ hy; rw [ymN]; omega
    | succ k ih =>
      intro hk hy
      rw [ymN]
      by_cases he : y = -2001 + ((k + 1 : Nat) : Int)
      · rw [if_pos (by rw [show (-2001 + ((k : Int) + 1)) = y by omega]; omega)]
        omega
      · have hm := Mb_mono h (x := y + 1) (y := -2001 + ((k : Int) + 1)) (by omega)
        rw [if_neg (by omega)]
        exact ih (by omega) (by omega)
  exact key 4002 (by omega) (by omega)
/-- the day some months later -/
noncomputable def mcon (ρ : Row) (d : Int) : Int := Mb ρ (yof ρ d) + mof ρ d - 1
noncomputable def mlat (ρ : Row) (d n : Int) : Int := cut ρ (ym ρ (mcon ρ d + n)) (mcon ρ d + n - Mb ρ (ym ρ (mcon ρ d + n)) + 1) (dof ρ d)
/-- the b-th day with a weekday of a month, or the last one -/
noncomputable def wbeg (ρ : Row) (y m : Int) : Int := dnum ρ y m 1
noncomputable def wfst (ρ : Row) (y m wd : Int) : Int := wbeg ρ y m + (wd - wdy ρ (wbeg ρ y m)) % rv ρ 30
def wcnt (f L d : Int) : Int := if d ≤ f then 0 else (d - f - 1) / L + 1
noncomputable def win (ρ : Row) (y m bb wd : Int) : Int :=
  if rv ρ 30 ≤ wd then -2147483647
  else if bb = -1 then (if wcnt (wfst ρ y m wd) (rv ρ 30) (wbeg ρ y m + mlen ρ y m) = 0 then -2147483647 else wfst ρ y m wd + (wcnt (wfst ρ y m wd) (rv ρ 30) (wbeg ρ y m + mlen ρ y m) - 1) * rv ρ 30)
  else if bb ≤ wcnt (wfst ρ y m wd) (rv ρ 30) (wbeg ρ y m + mlen ρ y m) then wfst ρ y m wd + (bb - 1) * rv ρ 30 else -2147483647
