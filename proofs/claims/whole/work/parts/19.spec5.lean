/-- what is told of a calendar -/
def calp (ρ : Row) (p : Int) : Int := if p = 0 then rv ρ 0 else if p = 1 then rv ρ 15 else if p = 2 then rv ρ 16 else if p = 3 then rv ρ 19 else if p = 7 then reps ρ else rv ρ (30 + p - 4)
theorem dnum_in {ρ : Row} (h : okRow ρ) {y m d : Int} (h1 : 1 ≤ m) (h2 : m ≤ mcnt ρ y) (h3 : 1 ≤ d) (h4 : d ≤ mlen ρ y m) : fst ρ y ≤ dnum ρ y m d ∧ dnum ρ y m d < fst ρ (y + 1) := by
  have a := msum_bd h (y := y) (m - 1).toNat (by omega)
  have b := msum_s (ρ := ρ) (y := y) (m := m) h1
  rw [show m + 1 - 1 = m by omega] at b
  have c := msum_mono h (y := y) (j := m.toNat) (k := (mcnt ρ y).toNat) (by omega) (by omega)
  rw [msum_all h y] at c
  rw [fst_succ]
  unfold dnum
  omega
theorem dnum_date {ρ : Row} (d : Int) : dnum ρ (yof ρ d) (mof ρ d) (dof ρ d) = d := by
  unfold dnum dof
  omega
theorem ylat_0 {ρ : Row} (h : okRow ρ) {d : Int} (h1 : fst ρ (-2000) ≤ d) (h2 : d < fst ρ 2001) (h3 : -999999 ≤ d ∧ d ≤ 999999) : ylat ρ d 0 = d := by
  have a := yof_in h h1 h2
  have b := mof_bd h d
  have c := dof_bd h h1 h2
  have e := dnum_date (ρ := ρ) d
  unfold ylat cut
  rw [show yof ρ d + 0 = yof ρ d by omega, if_pos a.1]
  have e1 : (if mof ρ d < mcnt ρ (yof ρ d) then mof ρ d else mcnt ρ (yof ρ d)) = mof ρ d := by split <;> omega
  have e2 : (if dof ρ d < mlen ρ (yof ρ d) (mof ρ d) then dof ρ d else mlen ρ (yof ρ d) (mof ρ d)) = dof ρ d := by split <;> omega
  rw [e1, e2, e, if_pos a.1, if_pos h3]
theorem mn_bd {a b : Int} (h1 : 1 ≤ a) (h2 : 1 ≤ b) : 1 ≤ (if a < b then a else b) ∧ (if a < b then a else b) ≤ b := by split <;> omega
/-- the day some years later, without the bounds of days -/
noncomputable def ylr (ρ : Row) (d n : Int) : Int := dnum ρ (yof ρ d + n) (if mof ρ d < mcnt ρ (yof ρ d + n) then mof ρ d else mcnt ρ (yof ρ d + n)) (if dof ρ d < mlen ρ (yof ρ d + n) (if mof ρ d < mcnt ρ (yof ρ d + n) then mof ρ d else mcnt ρ (yof ρ d + n)) then dof ρ d else mlen ρ (yof ρ d + n) (if mof ρ d < mcnt ρ (yof ρ d + n) then mof ρ d else mcnt ρ (yof ρ d + n)))
theorem ylat_r {ρ : Row} {d n : Int} (h : -2000 ≤ yof ρ d + n ∧ yof ρ d + n ≤ 2000) : ylat ρ d n = if -999999 ≤ ylr ρ d n ∧ ylr ρ d n ≤ 999999 then ylr ρ d n else -2147483647 := by
  unfold ylat cut ylr
  rw [if_pos h, if_pos h]
theorem ylr_in {ρ : Row} (h : okRow ρ) {d : Int} (h1 : fst ρ (-2000) ≤ d) (h2 : d < fst ρ 2001) (n : Int) : fst ρ (yof ρ d + n) ≤ ylr ρ d n ∧ ylr ρ d n < fst ρ (yof ρ d + n + 1) := by
  have b := mof_bd h d
  have c := dof_bd h h1 h2
  have e := mcnt_bd h (yof ρ d + n)
  have m1 := mn_bd b.1 e.1
  have f := mlen_bd h m1.1 m1.2
  have g := mn_bd c.1 f.1
  exact dnum_in h m1.1 m1.2 g.1 g.2
theorem ylat_there {ρ : Row} (h : okRow ρ) {a b k : Int} (a1 : fst ρ (-2000) ≤ a) (a2 : a < fst ρ 2001) (a3 : -999999 ≤ a ∧ a ≤ 999999) (b1 : fst ρ (-2000) ≤ b) (b2 : b < fst ρ 2001) (b3 : -999999 ≤ b ∧ b ≤ 999999) (hab : a ≤ b) (k0 : 0 ≤ k) (k1 : k = 0 ∨ k < yof ρ b - yof ρ a) : ylat ρ a k ≠ -2147483647 ∧ a ≤ ylat ρ a k ∧ ylat ρ a k ≤ b := by
  by_cases q : k = 0
  · rw [q, ylat_0 h a1 a2 a3]
    omega
  · have ya := yof_in h a1 a2
    have yb := yof_in h b1 b2
    have r := ylr_in h a1 a2 k
    have s1 := fst_mono h (x := yof ρ a + 1) (y := yof ρ a + k) (by omega)
    have s2 := fst_mono h (x := yof ρ a + k + 1) (y := yof ρ b) (by omega)
    rw [ylat_r (by omega), if_pos (by omega)]
    omega
theorem ylat_val {ρ : Row} {d n : Int} (h : ylat ρ d n ≠ -2147483647) : (-2000 ≤ yof ρ d + n ∧ yof ρ d + n ≤ 2000) ∧ (-999999 ≤ ylr ρ d n ∧ ylr ρ d n ≤ 999999) ∧ ylat ρ d n = ylr ρ d n := by
  by_cases q : -2000 ≤ yof ρ d + n ∧ yof ρ d + n ≤ 2000
  · have e := ylat_r q
    by_cases q2 : -999999 ≤ ylr ρ d n ∧ ylr ρ d n ≤ 999999
    · rw [if_pos q2] at e; exact ⟨q, q2, e⟩
    · rw [if_neg q2] at e; exact absurd e h
  · exact absurd (by unfold ylat; rw [if_neg q]) h
/-- the whole years from a day to another -/
noncomputable def spY (ρ : Row) (a b : Int) : Int := if ylat ρ a (yof ρ b - yof ρ a) ≠ -2147483647 ∧ ylat ρ a (yof ρ b - yof ρ a) ≤ b then yof ρ b - yof ρ a else yof ρ b - yof ρ a - 1
theorem yof_le {ρ : Row} (h : okRow ρ) {a b : Int} (a1 : fst ρ (-2000) ≤ a) (a2 : a < fst ρ 2001) (b1 : fst ρ (-2000) ≤ b) (b2 : b < fst ρ 2001) (hab : a ≤ b) : yof ρ a ≤ yof ρ b := by
  have ya := yof_in h a1 a2
  have yb := yof_in h b1 b2
  rcases (show yof ρ a ≤ yof ρ b ∨ yof ρ b < yof ρ a by omega) with q | q
  · exact q
  · have s2 := fst_mono h (x := yof ρ b + 1) (y := yof ρ a) (by omega)
    omega
/-- the months: where one begins, how long it is -/
theorem ym_in {ρ : Row} (h : okRow ρ) {c : Int} (h1 : Mb ρ (-2000) ≤ c) (h2 : c < Mb ρ 2001) : (-2000 ≤ ym ρ c ∧ ym ρ c ≤ 2000) ∧ Mb ρ (ym ρ c) ≤ c ∧ c < Mb ρ (ym ρ c + 1) := by
  have key : ∀ k : Nat, k ≤ 4000 → ∃ y : Int, -2000 ≤ y ∧ y ≤ -2000 + k ∧ Mb ρ y ≤ c ∧ (y = -2000 + k ∨ c < Mb ρ (y + 1)) := by
    intro k
    induction k with
    | zero => intro _; exact ⟨-2000, by omega, by omega, h1, Or.inl (by omega)⟩
    | succ k ih =>
      intro hk
      obtain ⟨y, g1, g2, g3, g4⟩ := ih (by omega)
      rcases g4 with g4 | g4
      · by_cases q : Mb ρ (y + 1) ≤ c
        · exact ⟨y + 1, by omega, by omega, q, Or.inl (by omega)⟩
        · exact ⟨y, g1, by omega, g3, Or.inr (by omega)⟩
      · exact ⟨y, g1, by omega, g3, Or.inr g4⟩
  obtain ⟨y, g1, g2, g3, g4⟩ := key 4000 (by omega)
  have g5 : c < Mb ρ (y + 1) := by
    rcases g4 with g4 | g4
    · rw [show y + 1 = 2001 by omega]; exact h2
    · exact g4
  have e := ym_eq h (c := c) (y := y) (by omega) (by omega) (Or.inr g3) (Or.inr g5)
  rw [e]
  exact ⟨⟨g1, by omega⟩, g3, g5⟩
noncomputable def mon (ρ : Row) (c : Int) : Int := c - Mb ρ (ym ρ c) + 1
noncomputable def mst (ρ : Row) (c : Int) : Int := dnum ρ (ym ρ c) (mon ρ c) 1
noncomputable def mln (ρ : Row) (c : Int) : Int := mlen ρ (ym ρ c) (mon ρ c)
theorem mon_bd {ρ : Row} (h : okRow ρ) {c : Int} (h1 : Mb ρ (-2000) ≤ c) (h2 : c < Mb ρ 2001) : 1 ≤ mon ρ c ∧ mon ρ c ≤ mcnt ρ (ym ρ c) := by
  have a := ym_in h h1 h2
  have b := Mb_succ ρ (ym ρ c)
  unfold mon
  omega
theorem dnum_1 (ρ : Row) (y m d : Int) : dnum ρ y m d = dnum ρ y m 1 + d - 1 := by unfold dnum; omega
theorem mst_lt {ρ : Row} (h : okRow ρ) {c e : Int} (c1 : Mb ρ (-2000) ≤ c) (c2 : c < Mb ρ 2001) (e1 : Mb ρ (-2000) ≤ e) (e2 : e < Mb ρ 2001) (hce : c < e) : mst ρ c + mln ρ c ≤ mst ρ e := by
  have yc := ym_in h c1 c2
  have ye := ym_in h e1 e2
  have mc := mon_bd h c1 c2
  have me := mon_bd h e1 e2
  have lc := mlen_bd h mc.1 mc.2
  have le_ := mlen_bd h me.1 me.2
  rcases (show ym ρ c < ym ρ e ∨ ym ρ c = ym ρ e ∨ ym ρ e < ym ρ c by omega) with q | q | q
  · have a := dnum_in h mc.1 mc.2 lc.1 (Int.le_refl _)
    have a2 := dnum_1 ρ (ym ρ c) (mon ρ c) (mlen ρ (ym ρ c) (mon ρ c))
    have b := dnum_in h me.1 me.2 (Int.le_refl 1) le_.1
    have s := fst_mono h (x := ym ρ c + 1) (y := ym ρ e) (by omega)
    unfold mst mln
    omega
  · have hm : mon ρ c < mon ρ e := by unfold mon; rw [q]; omega
    have b := msum_s (ρ := ρ) (y := ym ρ c) (m := mon ρ c) mc.1
    rw [show mon ρ c + 1 - 1 = mon ρ c by omega] at b
    have s := msum_mono h (y := ym ρ c) (j := (mon ρ c).toNat) (k := (mon ρ e - 1).toNat) (by omega) (by rw [q]; omega)
    unfold mst mln dnum
    rw [← q]
    omega
  · have s := (Mb_mono h (x := ym ρ e + 1) (y := ym ρ c) (by omega)).1
    omega
theorem mcon_in {ρ : Row} (h : okRow ρ) {d : Int} (h1 : fst ρ (-2000) ≤ d) (h2 : d < fst ρ 2001) : (Mb ρ (-2000) ≤ mcon ρ d ∧ mcon ρ d < Mb ρ 2001) ∧ ym ρ (mcon ρ d) = yof ρ d ∧ mon ρ (mcon ρ d) = mof ρ d ∧ mst ρ (mcon ρ d) = d - dof ρ d + 1 ∧ mln ρ (mcon ρ d) = mlen ρ (yof ρ d) (mof ρ d) := by
  have y := yof_in h h1 h2
  have m := mof_bd h d
  have s := Mb_succ ρ (yof ρ d)
  have m1 := (Mb_mono h (x := -2000) (y := yof ρ d) (by omega)).1
  have m2 := (Mb_mono h (x := yof ρ d + 1) (y := 2001) (by omega)).1
  have e : ym ρ (mcon ρ d) = yof ρ d := ym_eq h (by omega) (by omega) (Or.inr (by unfold mcon; omega)) (Or.inr (by unfold mcon; omega))
  have e2 : mon ρ (mcon ρ d) = mof ρ d := by unfold mon; rw [e]; unfold mcon; omega
  have e3 := dnum_date (ρ := ρ) d
  have e4 := dnum_1 ρ (yof ρ d) (mof ρ d) (dof ρ d)
  refine ⟨⟨by unfold mcon; omega, by unfold mcon; omega⟩, e, e2, ?_, ?_⟩
  · unfold mst; rw [e, e2]; omega
  · unfold mln; rw [e, e2]
/-- the day some months later, without the bounds of days -/
noncomputable def mlr (ρ : Row) (d n : Int) : Int := mst ρ (mcon ρ d + n) + (if dof ρ d < mln ρ (mcon ρ d + n) then dof ρ d else mln ρ (mcon ρ d + n)) - 1
theorem mlat_r {ρ : Row} (h : okRow ρ) {d n : Int} (c1 : Mb ρ (-2000) ≤ mcon ρ d + n) (c2 : mcon ρ d + n < Mb ρ 2001) : mlat ρ d n = if -999999 ≤ mlr ρ d n ∧ mlr ρ d n ≤ 999999 then mlr ρ d n else -2147483647 := by
  have y := ym_in h c1 c2
  have e : dnum ρ (ym ρ (mcon ρ d + n)) (mon ρ (mcon ρ d + n)) (if dof ρ d < mln ρ (mcon ρ d + n) then dof ρ d else mln ρ (mcon ρ d + n)) = mlr ρ d n := by rw [dnum_1]; rfl
  have e' : dnum ρ (ym ρ (mcon ρ d + n)) (mcon ρ d + n - Mb ρ (ym ρ (mcon ρ d + n)) + 1) (if dof ρ d < mlen ρ (ym ρ (mcon ρ d + n)) (mcon ρ d + n - Mb ρ (ym ρ (mcon ρ d + n)) + 1) then dof ρ d else mlen ρ (ym ρ (mcon ρ d + n)) (mcon ρ d + n - Mb ρ (ym ρ (mcon ρ d + n)) + 1)) = mlr ρ d n := e
  unfold mlat cut
  rw [if_pos y.1, e']
theorem mlr_bd {ρ : Row} (h : okRow ρ) {d n : Int} (h1 : fst ρ (-2000) ≤ d) (h2 : d < fst ρ 2001) (c1 : Mb ρ (-2000) ≤ mcon ρ d + n) (c2 : mcon ρ d + n < Mb ρ 2001) : mst ρ (mcon ρ d + n) ≤ mlr ρ d n ∧ mlr ρ d n < mst ρ (mcon ρ d + n) + mln ρ (mcon ρ d + n) := by
  have m := mon_bd h c1 c2
  have l : 1 ≤ mln ρ (mcon ρ d + n) ∧ _ := mlen_bd h m.1 m.2
  have c := dof_bd h h1 h2
  unfold mlr
  split <;> omega
theorem mcon_le {ρ : Row} (h : okRow ρ) {a b : Int} (a1 : fst ρ (-2000) ≤ a) (a2 : a < fst ρ 2001) (b1 : fst ρ (-2000) ≤ b) (b2 : b < fst ρ 2001) (hab : a ≤ b) : mcon ρ a ≤ mcon ρ b := by
  have ma := mcon_in h a1 a2
  have mb := mcon_in h b1 b2
  have da := dof_bd h a1 a2
  have db := dof_bd h b1 b2
  rcases (show mcon ρ a ≤ mcon ρ b ∨ mcon ρ b < mcon ρ a by omega) with q | q
  · exact q
  · have s := mst_lt h mb.1.1 mb.1.2 ma.1.1 ma.1.2 q
    omega
theorem mlat_0 {ρ : Row} (h : okRow ρ) {d : Int} (h1 : fst ρ (-2000) ≤ d) (h2 : d < fst ρ 2001) (h3 : -999999 ≤ d ∧ d ≤ 999999) : mlat ρ d 0 = d := by
  have m := mcon_in h h1 h2
  have c := dof_bd h h1 h2
  have e : mlr ρ d 0 = d := by
    unfold mlr
    rw [show mcon ρ d + 0 = mcon ρ d by omega, m.2.2.2.1, m.2.2.2.2]
    split <;> omega
  rw [mlat_r h (by omega) (by omega), e, if_pos h3]
theorem mlat_there {ρ : Row} (h : okRow ρ) {a b k : Int} (a1 : fst ρ (-2000) ≤ a) (a2 : a < fst ρ 2001) (a3 : -999999 ≤ a ∧ a ≤ 999999) (b1 : fst ρ (-2000) ≤ b) (b2 : b < fst ρ 2001) (b3 : -999999 ≤ b ∧ b ≤ 999999) (hab : a ≤ b) (k0 : 0 ≤ k) (k1 : k = 0 ∨ mcon ρ a + k < mcon ρ b) : mlat ρ a k ≠ -2147483647 ∧ a ≤ mlat ρ a k ∧ mlat ρ a k ≤ b := by
  by_cases q : k = 0
  · rw [q, mlat_0 h a1 a2 a3]
    omega
  · have ma := mcon_in h a1 a2
    have mb := mcon_in h b1 b2
    have da := dof_bd h a1 a2
    have db := dof_bd h b1 b2
    have r := mlr_bd h (n := k) a1 a2 (by omega) (by omega)
    have s1 := mst_lt h (c := mcon ρ a) (e := mcon ρ a + k) (by omega) (by omega) (by omega) (by omega) (by omega)
    have s2 := mst_lt h (c := mcon ρ a + k) (e := mcon ρ b) (by omega) (by omega) (by omega) (by omega) (by omega)
    rw [mlat_r h (by omega) (by omega), if_pos (by omega)]
    omega
theorem mlat_past {ρ : Row} (h : okRow ρ) {a b k : Int} (a1 : fst ρ (-2000) ≤ a) (a2 : a < fst ρ 2001) (b1 : fst ρ (-2000) ≤ b) (b2 : b < fst ρ 2001) (k1 : mcon ρ b < mcon ρ a + k) : ¬ (mlat ρ a k ≠ -2147483647 ∧ mlat ρ a k ≤ b) := by
  have mb := mcon_in h b1 b2
  have db := dof_bd h b1 b2
  by_cases q : mcon ρ a + k < Mb ρ 2001
  · have r := mlr_bd h (n := k) a1 a2 (by omega) q
    have s2 := mst_lt h (c := mcon ρ b) (e := mcon ρ a + k) (by omega) (by omega) (by omega) q k1
    rw [mlat_r h (by omega) q]
    split
    · omega
    · exact fun z => z.1 rfl
  · rw [mlat_hi h (by omega)]
    exact fun z => z.1 rfl
/-- the whole months from a day to another -/
noncomputable def spM (ρ : Row) (a b : Int) : Int := if mlat ρ a (mcon ρ b - mcon ρ a) ≠ -2147483647 ∧ mlat ρ a (mcon ρ b - mcon ρ a) ≤ b then mcon ρ b - mcon ρ a else mcon ρ b - mcon ρ a - 1
theorem spM_eq {ρ : Row} (h : okRow ρ) {a b m : Int} (a1 : fst ρ (-2000) ≤ a) (a2 : a < fst ρ 2001) (a3 : -999999 ≤ a ∧ a ≤ 999999) (b1 : fst ρ (-2000) ≤ b) (b2 : b < fst ρ 2001) (b3 : -999999 ≤ b ∧ b ≤ 999999) (hab : a ≤ b) (m0 : 0 ≤ m) (m1 : m = 0 ∨ mlat ρ a m ≠ -2147483647 ∧ mlat ρ a m ≤ b) (m2 : ¬ (mlat ρ a (m + 1) ≠ -2147483647 ∧ mlat ρ a (m + 1) ≤ b)) : m = spM ρ a b := by
  have hc := mcon_le h a1 a2 b1 b2 hab
  have g1 : mcon ρ a + m ≤ mcon ρ b := by
    rcases m1 with q | q
    · omega
    · rcases (show mcon ρ a + m ≤ mcon ρ b ∨ mcon ρ b < mcon ρ a + m by omega) with z | z
      · exact z
      · exact absurd q (mlat_past h a1 a2 b1 b2 z)
  have g2 : mcon ρ b ≤ mcon ρ a + m + 1 := by
    rcases (show mcon ρ b ≤ mcon ρ a + m + 1 ∨ mcon ρ a + (m + 1) < mcon ρ b by omega) with z | z
    · exact z
    · have t := mlat_there h a1 a2 a3 b1 b2 b3 hab (k := m + 1) (by omega) (Or.inr z)
      exact absurd ⟨t.1, t.2.2⟩ m2
  unfold spM
  rcases (show mcon ρ b - mcon ρ a = m ∨ mcon ρ b - mcon ρ a = m + 1 by omega) with q | q
  · rw [q]
    rcases m1 with z | z
    · rw [z] at q ⊢
      have t := mlat_0 h a1 a2 a3
      rw [if_pos (by rw [t]; omega)]
    · rw [if_pos z]
  · rw [q, if_neg m2]
    omega
theorem spY_eq {ρ : Row} (h : okRow ρ) {a b m : Int} (a1 : fst ρ (-2000) ≤ a) (a2 : a < fst ρ 2001) (a3 : -999999 ≤ a ∧ a ≤ 999999) (b1 : fst ρ (-2000) ≤ b) (b2 : b < fst ρ 2001) (b3 : -999999 ≤ b ∧ b ≤ 999999) (hab : a ≤ b) (m0 : 0 ≤ m) (mn : m ≤ yof ρ b - yof ρ a) (m1 : m = 0 ∨ ylat ρ a m ≠ -2147483647 ∧ ylat ρ a m ≤ b) (m2 : m = yof ρ b - yof ρ a ∨ ¬ (ylat ρ a (m + 1) ≠ -2147483647 ∧ ylat ρ a (m + 1) ≤ b)) : m = spY ρ a b := by
  unfold spY
  rcases m2 with q | q
  · rw [← q]
    rcases m1 with z | z
    · rw [z]
      have t := ylat_0 h a1 a2 a3
      rw [if_pos (by rw [t]; omega)]
    · rw [if_pos z]
  · have g2 : yof ρ b - yof ρ a ≤ m + 1 := by
      rcases (show yof ρ b - yof ρ a ≤ m + 1 ∨ m + 1 < yof ρ b - yof ρ a by omega) with z | z
      · exact z
      · have t := ylat_there h a1 a2 a3 b1 b2 b3 hab (k := m + 1) (by omega) (Or.inr z)
        exact absurd ⟨t.1, t.2.2⟩ q
    rcases (show yof ρ b - yof ρ a = m ∨ yof ρ b - yof ρ a = m + 1 by omega) with z | z
    · rw [z]
      rcases m1 with z | z
      · rw [z]
        have t := ylat_0 h a1 a2 a3
        rw [if_pos (by rw [t]; omega)]
      · rw [if_pos z]
    · rw [z, if_neg q]
      omega
theorem spY_found {ρ : Row} (h : okRow ρ) {a b : Int} (a1 : fst ρ (-2000) ≤ a) (a2 : a < fst ρ 2001) (a3 : -999999 ≤ a ∧ a ≤ 999999) (b1 : fst ρ (-2000) ≤ b) (b2 : b < fst ρ 2001) (b3 : -999999 ≤ b ∧ b ≤ 999999) (hab : a ≤ b) : (0 ≤ spY ρ a b ∧ spY ρ a b ≤ yof ρ b - yof ρ a) ∧ ylat ρ a (spY ρ a b) ≠ -2147483647 ∧ a ≤ ylat ρ a (spY ρ a b) ∧ ylat ρ a (spY ρ a b) ≤ b := by
  have hy := yof_le h a1 a2 b1 b2 hab
  by_cases q : ylat ρ a (yof ρ b - yof ρ a) ≠ -2147483647 ∧ ylat ρ a (yof ρ b - yof ρ a) ≤ b
  · have e : spY ρ a b = yof ρ b - yof ρ a := by unfold spY; rw [if_pos q]
    rw [e]
    refine ⟨by omega, q.1, ?_, q.2⟩
    by_cases z : yof ρ b - yof ρ a = 0
    · rw [z, ylat_0 h a1 a2 a3]; exact Int.le_refl _
    · have ya := yof_in h a1 a2
      have v := ylat_val q.1
      have r := ylr_in h a1 a2 (yof ρ b - yof ρ a)
      have s1 := fst_mono h (x := yof ρ a + 1) (y := yof ρ a + (yof ρ b - yof ρ a)) (by omega)
      omega
  · have e : spY ρ a b = yof ρ b - yof ρ a - 1 := by unfold spY; rw [if_neg q]
    have hn : 0 < yof ρ b - yof ρ a := by
      rcases (show 0 < yof ρ b - yof ρ a ∨ yof ρ b - yof ρ a = 0 by omega) with z | z
      · exact z
      · have t := ylat_0 h a1 a2 a3
        exact absurd (by rw [z, t]; omega) q
    have t := ylat_there h a1 a2 a3 b1 b2 b3 hab (k := yof ρ b - yof ρ a - 1) (by omega) (Or.inr (by omega))
    rw [e]
    exact ⟨by omega, t⟩
/-- how many first days of years meet -/
noncomputable def nyc (ρ τ : Row) (y : Int) : Int := if (-2000 ≤ yof τ (fst ρ y) ∧ yof τ (fst ρ y) ≤ 2000) ∧ fst τ (yof τ (fst ρ y)) = fst ρ y then 1 else 0
noncomputable def nyN (ρ τ : Row) (f : Int) : Nat → Int
  | 0 => 0
  | k + 1 => nyN ρ τ f k + nyc ρ τ (f + k)
theorem nyN_s {ρ τ : Row} {f y : Int} (h : f ≤ y) : nyN ρ τ f (y + 1 - f).toNat = nyN ρ τ f (y - f).toNat + nyc ρ τ y := by
  rw [show (y + 1 - f).toNat = (y - f).toNat + 1 by omega, nyN, show f + ((y - f).toNat : Int) = y by omega]
theorem nyc_bd (ρ τ : Row) (y : Int) : 0 ≤ nyc ρ τ y ∧ nyc ρ τ y ≤ 1 := by unfold nyc; split <;> omega
theorem nyN_bd (ρ τ : Row) (f : Int) (k : Nat) : 0 ≤ nyN ρ τ f k ∧ nyN ρ τ f k ≤ k := by
  induction k with
  | zero => rw [nyN]; omega
  | succ k ih => have := nyc_bd ρ τ (f + k); rw [nyN]; omega
theorem rowM_cg {R S : Nat → Nat → Int32} (h : R 2 = S 2) : rowM R = rowM S := by funext c k; unfold rowM; rw [h]
theorem feM_cg {R S : Nat → Nat → Int32} (h : R 16 = S 16) : feM R = feM S := by funext c k; unfold feM; rw [h]
theorem okF_cg {R S : Nat → Nat → Int32} (h : R 2 = S 2) (h4 : R 4 = S 4) {c : Int} : okF R c → okF S c := fun q y h1 h2 => by
  rw [← rowM_cg h, ← h4]
  exact q y h1 h2
/-- nothing but the rows of J is changed -/
def kpR (J : List Nat) (R S : Nat → Nat → Int32) : Prop := ∀ j : Nat, j ∉ J → S j = R j
theorem kpR.rf {J : List Nat} {R : Nat → Nat → Int32} : kpR J R R := fun _ _ => rfl
theorem kpR.up {J : List Nat} {R S : Nat → Nat → Int32} (h : kpR J R S) {j : Nat} {v : Nat → Int32} (hj : j ∈ J) : kpR J R (va_up S j v) := fun i hi => by
  rw [va_up_ne _ _ (fun e => hi (by rw [e]; exact hj))]
  exact h i hi
theorem kpR.tr {J J1 J2 : List Nat} {I I1 I2 : Nat → Nat → Int32} (h : kpR J1 I I1) (h2 : kpR J2 I1 I2) (e1 : ∀ j ∈ J1, j ∈ J) (e2 : ∀ j ∈ J2, j ∈ J) : kpR J I I2 := fun i hi => by
  rw [h2 i (fun q => hi (e2 i q)), h i (fun q => hi (e1 i q))]
theorem kpR.wk {J J1 : List Nat} {I I1 : Nat → Nat → Int32} (h : kpR J1 I I1) (e1 : ∀ j ∈ J1, j ∈ J) : kpR J I I1 := fun i hi => h i (fun q => hi (e1 i q))
theorem wyr_bd {ρ : Row} (h : okRow ρ) {d : Int} (h1 : fst ρ (-2000) ≤ d) (h2 : d < fst ρ 2001) : (-2001 ≤ wyr ρ d ∧ wyr ρ d ≤ 2001) ∧ fw ρ (wyr ρ d) ≤ d ∧ d ≤ fw ρ (wyr ρ d) + 1000 := by
  obtain ⟨g0, g1, g2⟩ := yof_in h h1 h2
  have a1 := fw_bd h (yof ρ d)
  have a2 := fw_bd h (yof ρ d + 1)
  have a3 := h.yl (yof ρ d)
  have a4 := fst_succ ρ (yof ρ d)
  have a5 := fw_bd h (yof ρ d - 1)
  have a6 := h.yl (yof ρ d - 1)
  have a7 := fst_succ ρ (yof ρ d - 1)
  rw [show yof ρ d - 1 + 1 = yof ρ d by omega] at a7
  unfold wyr
  by_cases q1 : d < fw ρ (yof ρ d)
  · rw [if_pos q1]; omega
  · rw [if_neg q1]
    by_cases q2 : fw ρ (yof ρ d + 1) ≤ d
    · rw [if_pos q2]; omega
    · rw [if_neg q2]; omega
theorem dvb {x y : Int} (hx : 0 ≤ x) (hy : 0 < y) : 0 ≤ x / y ∧ x / y ≤ x := ⟨Int.ediv_nonneg hx (by omega), Int.ediv_le_self _ hx⟩
theorem mlb {x y : Int} (hx : 0 ≤ x ∧ x ≤ 10) (hy : 0 ≤ y) : 0 ≤ x * y ∧ x * y ≤ 10 * y := ⟨Int.mul_nonneg hx.1 hy, Int.mul_le_mul_of_nonneg_right hx.2 hy⟩
