/-! more of what the class's calendar answers: dates found again, months counted, weekdays in months, numbers of days searched -/
theorem mn_id {a b : Int} (h : a ≤ b) : (if a < b then a else b) = a := by split <;> omega
/-- a date's day is in its year, its month, and has its number -/
theorem date_of {ρ : Row} (h : okRow ρ) {y m d : Int} (hy : -2000 ≤ y ∧ y ≤ 2000) (h1 : 1 ≤ m) (h2 : m ≤ mcnt ρ y) (h3 : 1 ≤ d) (h4 : d ≤ mlen ρ y m) : (fst ρ (-2000) ≤ dnum ρ y m d ∧ dnum ρ y m d < fst ρ 2001) ∧ yof ρ (dnum ρ y m d) = y ∧ mof ρ (dnum ρ y m d) = m ∧ dof ρ (dnum ρ y m d) = d := by
  have a := dnum_in h h1 h2 h3 h4
  have f1 := fst_mono h (x := -2000) (y := y) (by omega)
  have f2 := fst_mono h (x := y + 1) (y := 2001) (by omega)
  have e1 : yof ρ (dnum ρ y m d) = y := yof_eq h (by omega) (by omega) (Or.inr a.1) (Or.inr a.2)
  have s := msum_s (ρ := ρ) (y := y) (m := m) h1
  rw [show m + 1 - 1 = m by omega] at s
  have u : dnum ρ y m d - fst ρ y = d - 1 + msum ρ y (m - 1).toNat := by unfold dnum; omega
  have e2 : mof ρ (dnum ρ y m d) = m := by
    unfold mof
    rw [e1]
    exact mofY_eq h h1 h2 (by omega) (by omega)
  refine ⟨⟨by omega, by omega⟩, e1, e2, ?_⟩
  unfold dof
  rw [e1, e2]
  omega
theorem dnum_next {ρ : Row} {y m : Int} (h1 : 1 ≤ m) : dnum ρ y (m + 1) 1 = dnum ρ y m 1 + mlen ρ y m := by
  have s := msum_s (ρ := ρ) (y := y) (m := m) h1
  unfold dnum
  omega
theorem dnum_year {ρ : Row} (h : okRow ρ) {y m : Int} (h1 : 1 ≤ m) (h2 : m = mcnt ρ y) : dnum ρ (y + 1) 1 1 = dnum ρ y m 1 + mlen ρ y m := by
  have s := msum_s (ρ := ρ) (y := y) (m := m) h1
  rw [show m + 1 - 1 = m by omega] at s
  have a := msum_all h y
  rw [← h2] at a
  have f := fst_succ ρ y
  unfold dnum
  rw [show ((1 : Int) - 1).toNat = 0 from rfl, msum]
  omega
/-- the search for a day's number, past days that don't have it -/
noncomputable def nfM (ρ : Row) (num d e : Int) : Int := nfN ρ num (d + 400 - e).toNat e
theorem nfM_0 {ρ : Row} {num d : Int} : nfM ρ num d d = nfrom ρ d num := by
  unfold nfM nfrom
  rw [show (d + 400 - d).toNat = 400 by omega]
theorem nfM_no {ρ : Row} {num d e : Int} (h : d + 400 ≤ e) : nfM ρ num d e = -2147483647 := by
  unfold nfM
  rw [show (d + 400 - e).toNat = 0 by omega, nfN]
theorem nfM_out {ρ : Row} {num d e : Int} (h : fst ρ 2001 ≤ e) : nfM ρ num d e = -2147483647 := by
  by_cases q : d + 400 ≤ e
  · exact nfM_no q
  · unfold nfM
    rw [show (d + 400 - e).toNat = (d + 400 - (e + 1)).toNat + 1 by omega, nfN, if_neg (by omega)]
theorem nfM_hit {ρ : Row} {num d e : Int} (h : e < d + 400) (hi : fst ρ (-2000) ≤ e ∧ e < fst ρ 2001) (hd : dof ρ e = num) : nfM ρ num d e = e := by
  unfold nfM
  rw [show (d + 400 - e).toNat = (d + 400 - (e + 1)).toNat + 1 by omega, nfN, if_pos hi, if_pos hd]
theorem nfM_s {ρ : Row} {num d e : Int} (hi : fst ρ (-2000) ≤ e ∧ e < fst ρ 2001) (hd : ¬ dof ρ e = num) : nfM ρ num d e = nfM ρ num d (e + 1) := by
  by_cases q : d + 400 ≤ e
  · rw [nfM_no q, nfM_no (by omega)]
  · unfold nfM
    rw [show (d + 400 - e).toNat = (d + 400 - (e + 1)).toNat + 1 by omega, nfN, if_pos hi, if_neg hd]
theorem nfM_skip {ρ : Row} {num d e e1 : Int} (h : e ≤ e1) (hs : ∀ x : Int, e ≤ x → x < e1 → (fst ρ (-2000) ≤ x ∧ x < fst ρ 2001) ∧ ¬ dof ρ x = num) : nfM ρ num d e = nfM ρ num d e1 := by
  obtain ⟨k, rfl⟩ : ∃ k : Nat, e1 = e + k := ⟨(e1 - e).toNat, by omega⟩
  clear h
  induction k with
  | zero => rw [show e + ((0 : Nat) : Int) = e by omega]
  | succ k ih =>
    have h1 := hs (e + k) (by omega) (by omega)
    rw [ih (fun x a b => hs x a (by omega)), nfM_s h1.1 h1.2]
    congr 1
    omega
/-- the greater of two -/
def mxI (a b : Int) : Int := if a ≤ b then b else a
theorem mxI_ge (a b : Int) : a ≤ mxI a b ∧ b ≤ mxI a b ∧ (mxI a b = a ∨ mxI a b = b) := by unfold mxI; split <;> omega
/-- past the days of a month -/
theorem nfM_month {ρ : Row} (h : okRow ρ) {num d y m e1 : Int} (hy : -2000 ≤ y ∧ y ≤ 2000) (h1 : 1 ≤ m) (h2 : m ≤ mcnt ρ y) (he : e1 ≤ dnum ρ y m 1 + mlen ρ y m) (hs : ∀ x : Int, d ≤ x → dnum ρ y m 1 ≤ x → x < e1 → ¬ x - dnum ρ y m 1 + 1 = num) : nfM ρ num d (mxI d (dnum ρ y m 1)) = nfM ρ num d (mxI d (mxI (dnum ρ y m 1) e1)) := by
  have g1 := mxI_ge d (dnum ρ y m 1)
  have g2 := mxI_ge (dnum ρ y m 1) e1
  have g3 := mxI_ge d (mxI (dnum ρ y m 1) e1)
  refine nfM_skip (by omega) (fun x a c => ?_)
  have q := date_of h hy h1 h2 (d := x - dnum ρ y m 1 + 1) (by omega) (by omega)
  have e : dnum ρ y m (x - dnum ρ y m 1 + 1) = x := by rw [dnum_1]; omega
  rw [e] at q
  exact ⟨q.1, fun z => hs x (by omega) (by omega) (by omega) (q.2.2.2.symm.trans z)⟩
theorem nfM_found {ρ : Row} (h : okRow ρ) {num d y m : Int} (hy : -2000 ≤ y ∧ y ≤ 2000) (h1 : 1 ≤ m) (h2 : m ≤ mcnt ρ y) (h3 : 1 ≤ num) (h4 : num ≤ mlen ρ y m) (h5 : d ≤ dnum ρ y m 1 + num - 1) : nfM ρ num d (mxI d (dnum ρ y m 1)) = if dnum ρ y m 1 + num - 1 < d + 400 then dnum ρ y m 1 + num - 1 else -2147483647 := by
  have g1 := mxI_ge d (dnum ρ y m 1)
  rw [nfM_month h hy h1 h2 (e1 := dnum ρ y m 1 + num - 1) (by omega) (fun x a c f => by omega)]
  have g2 := mxI_ge (dnum ρ y m 1) (dnum ρ y m 1 + num - 1)
  have g3 := mxI_ge d (mxI (dnum ρ y m 1) (dnum ρ y m 1 + num - 1))
  rw [show mxI d (mxI (dnum ρ y m 1) (dnum ρ y m 1 + num - 1)) = dnum ρ y m 1 + num - 1 by omega]
  have q := date_of h hy h1 h2 (d := num) h3 h4
  have e : dnum ρ y m num = dnum ρ y m 1 + num - 1 := dnum_1 ρ y m num
  rw [e] at q
  by_cases z : dnum ρ y m 1 + num - 1 < d + 400
  · rw [if_pos z, nfM_hit z q.1 q.2.2.2]
  · rw [if_neg z, nfM_no (by omega)]
theorem nfM_past {ρ : Row} (h : okRow ρ) {num d y m : Int} (hy : -2000 ≤ y ∧ y ≤ 2000) (h1 : 1 ≤ m) (h2 : m ≤ mcnt ρ y) (h3 : ¬ (num ≤ mlen ρ y m ∧ d ≤ dnum ρ y m 1 + num - 1)) : nfM ρ num d (mxI d (dnum ρ y m 1)) = nfM ρ num d (mxI d (dnum ρ y m 1 + mlen ρ y m)) := by
  have l := mlen_bd h h1 h2
  rw [nfM_month h hy h1 h2 (e1 := dnum ρ y m 1 + mlen ρ y m) (by omega) (fun x a c f => by omega)]
  congr 2
  unfold mxI
  rw [if_pos (show dnum ρ y m 1 ≤ dnum ρ y m 1 + mlen ρ y m by omega)]
/-- weekdays in a month -/
theorem wk_last {L z g n wd : Int} (h : 2 ≤ L ∧ L ≤ 10) (hw : 0 ≤ wd ∧ wd < L) (hn : 1 ≤ n) : (wcnt (g + (wd - (z + g) % L) % L) L (g + n) = 0 → g + n - 1 - ((z + (g + n - 1)) % L - wd) % L < g) ∧ (wcnt (g + (wd - (z + g) % L) % L) L (g + n) ≠ 0 → g ≤ g + n - 1 - ((z + (g + n - 1)) % L - wd) % L ∧ g + n - 1 - ((z + (g + n - 1)) % L - wd) % L = g + (wd - (z + g) % L) % L + (wcnt (g + (wd - (z + g) % L) % L) L (g + n) - 1) * L) := by
  unfold wcnt
  rcases wk_cases h with q | q | q | q | q | q | q | q | q <;> subst q <;> (split <;> constructor <;> omega)
theorem wk_nth {L z g n wd k : Int} (h : 2 ≤ L ∧ L ≤ 10) (hk : 1 ≤ k) (hw : 0 ≤ wd ∧ wd < L) (hn : 1 ≤ n) : g + (wd - (z + g) % L) % L + (k - 1) * L ≤ g + n - 1 ↔ k ≤ wcnt (g + (wd - (z + g) % L) % L) L (g + n) := by
  unfold wcnt
  rcases wk_cases h with q | q | q | q | q | q | q | q | q <;> subst q <;> (split <;> constructor <;> intro <;> omega)
/-- whole months, with the class's own day some months later -/
theorem spM_c {ρ : Row} (h : okRow ρ) {a b : Int} (a1 : fst ρ (-2000) ≤ a) (a2 : a < fst ρ 2001) (a3 : -999999 ≤ a ∧ a ≤ 999999) (b1 : fst ρ (-2000) ≤ b) (b2 : b < fst ρ 2001) (b3 : -999999 ≤ b ∧ b ≤ 999999) (hab : a ≤ b) : spM ρ a b = if b < mlc ρ a (mcon ρ b - mcon ρ a) then mcon ρ b - mcon ρ a - 1 else mcon ρ b - mcon ρ a := by
  have ma := mcon_in h a1 a2
  have mb := mcon_in h b1 b2
  have hc := mcon_le h a1 a2 b1 b2 hab
  have da := dof_bd h a1 a2
  have r := mlr_bd h (n := mcon ρ b - mcon ρ a) a1 a2 (by omega) (by omega)
  have e : mlc ρ a (mcon ρ b - mcon ρ a) = mlr ρ a (mcon ρ b - mcon ρ a) := by unfold mlc; rw [if_pos ⟨⟨a1, a2⟩, by omega, by omega⟩]
  have hlow : -999999 ≤ mlr ρ a (mcon ρ b - mcon ρ a) := by
    rcases (show mcon ρ a = mcon ρ b ∨ mcon ρ a < mcon ρ b by omega) with q | q
    · have t := mlat_0 h a1 a2 a3
      rw [mlat_r h (by omega) (by omega)] at t
      rw [show mcon ρ b - mcon ρ a = 0 by omega]
      split at t <;> omega
    · have s := mst_lt h ma.1.1 ma.1.2 mb.1.1 mb.1.2 q
      rw [show mcon ρ a + (mcon ρ b - mcon ρ a) = mcon ρ b by omega] at r
      omega
  rw [e]
  unfold spM
  rw [mlat_r h (by omega) (by omega)]
  by_cases q : mlr ρ a (mcon ρ b - mcon ρ a) ≤ b
  · rw [if_pos (show -999999 ≤ mlr ρ a (mcon ρ b - mcon ρ a) ∧ mlr ρ a (mcon ρ b - mcon ρ a) ≤ 999999 by omega), if_pos (by omega), if_neg (by omega)]
  · rw [if_pos (show b < mlr ρ a (mcon ρ b - mcon ρ a) by omega)]
    by_cases z : -999999 ≤ mlr ρ a (mcon ρ b - mcon ρ a) ∧ mlr ρ a (mcon ρ b - mcon ρ a) ≤ 999999
    · rw [if_pos z, if_neg (by omega)]
    · rw [if_neg z, if_neg (fun w => w.1 rfl)]
theorem spM_bd {ρ : Row} (h : okRow ρ) {a b : Int} (a1 : fst ρ (-2000) ≤ a) (a2 : a < fst ρ 2001) (a3 : -999999 ≤ a ∧ a ≤ 999999) (b1 : fst ρ (-2000) ≤ b) (b2 : b < fst ρ 2001) (b3 : -999999 ≤ b ∧ b ≤ 999999) (hab : a ≤ b) : -1 ≤ spM ρ a b ∧ spM ρ a b ≤ 90000 := by
  have ma := mcon_in h a1 a2
  have mb := mcon_in h b1 b2
  have hc := mcon_le h a1 a2 b1 b2 hab
  have x1 := Mb_bd h (y := -2000) (by omega) (by omega)
  have x2 := Mb_bd h (y := 2001) (by omega) (by omega)
  unfold spM
  split <;> omega
theorem mlc_r {ρ : Row} {d n : Int} (h : (fst ρ (-2000) ≤ d ∧ d < fst ρ 2001) ∧ Mb ρ (-2000) ≤ mcon ρ d + n ∧ mcon ρ d + n < Mb ρ 2001) : mlc ρ d n = mlr ρ d n := if_pos h
/-- a weekday in a month, as the class finds it -/
theorem win_last {ρ : Row} (h : okRow ρ) {y m wd : Int} (hy : -3000 ≤ y ∧ y ≤ 3000) (hm : 1 ≤ m ∧ m ≤ mcnt ρ y) (hw : 0 ≤ wd ∧ wd < rv ρ 30) : toC (win ρ y m (-1) wd) = if dnum ρ y m 1 ≤ dnum ρ y m 1 + mlen ρ y m - 1 - (wdy ρ (dnum ρ y m 1 + mlen ρ y m - 1) - wd) % rv ρ 30 then dnum ρ y m 1 + mlen ρ y m - 1 - (wdy ρ (dnum ρ y m 1 + mlen ρ y m - 1) - wd) % rv ρ 30 else -2147483648 := by
  have hwk := h.wk
  have hml := mlen_bd h hm.1 hm.2
  have hb := dnum_bd h (y := y) (m := m) (d := 1) hy hm.1 hm.2
  have k : (wcnt (wfst ρ y m wd) (rv ρ 30) (wbeg ρ y m + mlen ρ y m) = 0 → dnum ρ y m 1 + mlen ρ y m - 1 - (wdy ρ (dnum ρ y m 1 + mlen ρ y m - 1) - wd) % rv ρ 30 < dnum ρ y m 1) ∧ (wcnt (wfst ρ y m wd) (rv ρ 30) (wbeg ρ y m + mlen ρ y m) ≠ 0 → dnum ρ y m 1 ≤ dnum ρ y m 1 + mlen ρ y m - 1 - (wdy ρ (dnum ρ y m 1 + mlen ρ y m - 1) - wd) % rv ρ 30 ∧ dnum ρ y m 1 + mlen ρ y m - 1 - (wdy ρ (dnum ρ y m 1 + mlen ρ y m - 1) - wd) % rv ρ 30 = wfst ρ y m wd + (wcnt (wfst ρ y m wd) (rv ρ 30) (wbeg ρ y m + mlen ρ y m) - 1) * rv ρ 30) := wk_last (L := rv ρ 30) (z := rv ρ 31) (g := dnum ρ y m 1) (n := mlen ρ y m) (wd := wd) hwk.1 hw hml.1
  have e1 := Int.emod_nonneg (wdy ρ (dnum ρ y m 1 + mlen ρ y m - 1) - wd) (show rv ρ 30 ≠ 0 by omega)
  have e2 := Int.emod_lt_of_pos (wdy ρ (dnum ρ y m 1 + mlen ρ y m - 1) - wd) (show 0 < rv ρ 30 by omega)
  by_cases c : wcnt (wfst ρ y m wd) (rv ρ 30) (wbeg ρ y m + mlen ρ y m) = 0
  · have := k.1 c
    rw [toC_n (by unfold win; rw [if_neg (by omega), if_pos rfl, if_pos c]), if_neg (by omega)]
  · have := k.2 c
    have e : win ρ y m (-1) wd = dnum ρ y m 1 + mlen ρ y m - 1 - (wdy ρ (dnum ρ y m 1 + mlen ρ y m - 1) - wd) % rv ρ 30 := by
      unfold win
      rw [if_neg (by omega), if_pos rfl, if_neg c]
      exact this.2.symm
    rw [if_pos this.1, e, toC_d (by omega)]
theorem win_nth {ρ : Row} (h : okRow ρ) {y m wd nb : Int} (hy : -3000 ≤ y ∧ y ≤ 3000) (hm : 1 ≤ m ∧ m ≤ mcnt ρ y) (hw : 0 ≤ wd ∧ wd < rv ρ 30) (hn : 1 ≤ nb ∧ nb ≤ 5) : toC (win ρ y m nb wd) = if dnum ρ y m 1 + (wd - wdy ρ (dnum ρ y m 1)) % rv ρ 30 + (nb - 1) * rv ρ 30 ≤ dnum ρ y m 1 + mlen ρ y m - 1 then dnum ρ y m 1 + (wd - wdy ρ (dnum ρ y m 1)) % rv ρ 30 + (nb - 1) * rv ρ 30 else -2147483648 := by
  have hwk := h.wk
  have hml := mlen_bd h hm.1 hm.2
  have hb := dnum_bd h (y := y) (m := m) (d := 1) hy hm.1 hm.2
  have k : dnum ρ y m 1 + (wd - wdy ρ (dnum ρ y m 1)) % rv ρ 30 + (nb - 1) * rv ρ 30 ≤ dnum ρ y m 1 + mlen ρ y m - 1 ↔ nb ≤ wcnt (wfst ρ y m wd) (rv ρ 30) (wbeg ρ y m + mlen ρ y m) := wk_nth (L := rv ρ 30) (z := rv ρ 31) (g := dnum ρ y m 1) (n := mlen ρ y m) (wd := wd) (k := nb) hwk.1 hn.1 hw hml.1
  have e1 := Int.emod_nonneg (wd - wdy ρ (dnum ρ y m 1)) (show rv ρ 30 ≠ 0 by omega)
  have e2 := Int.emod_lt_of_pos (wd - wdy ρ (dnum ρ y m 1)) (show 0 < rv ρ 30 by omega)
  have e3 := mlb (x := nb - 1) (y := rv ρ 30) (by omega) (by omega)
  by_cases c : nb ≤ wcnt (wfst ρ y m wd) (rv ρ 30) (wbeg ρ y m + mlen ρ y m)
  · have e : win ρ y m nb wd = dnum ρ y m 1 + (wd - wdy ρ (dnum ρ y m 1)) % rv ρ 30 + (nb - 1) * rv ρ 30 := by
      unfold win
      rw [if_neg (show ¬ rv ρ 30 ≤ wd by omega), if_neg (show ¬ nb = -1 by omega), if_pos c]
      rfl
    rw [if_pos (k.mpr c), e, toC_d (by omega)]
  · rw [toC_n (by unfold win; rw [if_neg (show ¬ rv ρ 30 ≤ wd by omega), if_neg (show ¬ nb = -1 by omega), if_neg c]), if_neg (fun z => c (k.mp z))]
