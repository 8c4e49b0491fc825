/-- nothing but the numbers of J is changed -/
def kpI (J : List Nat) (I I1 : Nat → Int32) : Prop := ∀ j : Nat, j ∉ J → I1 j = I j
theorem kpI.rf {J : List Nat} {I : Nat → Int32} : kpI J I I := fun _ _ => rfl
theorem kpI.up {J : List Nat} {I I1 : Nat → Int32} (h : kpI J I I1) {j : Nat} {v : Int32} (hj : j ∈ J) : kpI J I (va_up I1 j v) := fun i hi => by
  rw [va_up_ne _ _ (fun e => hi (by rw [e]; exact hj))]
  exact h i hi
theorem kpI.tr {J J1 J2 : List Nat} {I I1 I2 : Nat → Int32} (h : kpI J1 I I1) (h2 : kpI J2 I1 I2) (e1 : ∀ j ∈ J1, j ∈ J) (e2 : ∀ j ∈ J2, j ∈ J) : kpI J I I2 := fun i hi => by
  rw [h2 i (fun q => hi (e2 i q)), h i (fun q => hi (e1 i q))]
theorem kpI.wk {J J1 : List Nat} {I I1 : Nat → Int32} (h : kpI J1 I I1) (e1 : ∀ j ∈ J1, j ∈ J) : kpI J I I1 := fun i hi => h i (fun q => hi (e1 i q))
theorem mlen_0 {ρ : Row} {y m : Int} (h : ¬ (rv ρ 16 = 2 ∧ leap ρ y = true)) : mlen ρ y m = rv ρ m + (if rv ρ 16 = 1 ∧ m = rv ρ 17 ∧ leap ρ y = true then 1 else 0) := by
  unfold mlen
  rw [if_neg (show ¬ ((rv ρ 16 = 2 ∧ leap ρ y = true) ∧ m = rv ρ 17 + 1) from fun q => h q.1), if_neg (show ¬ ((rv ρ 16 = 2 ∧ leap ρ y = true) ∧ rv ρ 17 < m) from fun q => h q.1)]
theorem mlen_a {ρ : Row} {y m : Int} (h : rv ρ 16 = 2 ∧ leap ρ y = true) (h1 : m = rv ρ 17 + 1) : mlen ρ y m = rv ρ 18 := by
  unfold mlen
  rw [if_pos ⟨h, h1⟩]
theorem mlen_b {ρ : Row} {y m : Int} (h : rv ρ 16 = 2 ∧ leap ρ y = true) (h1 : rv ρ 17 + 1 < m) : mlen ρ y m = rv ρ (m - 1) := by
  unfold mlen
  rw [if_neg (show ¬ ((rv ρ 16 = 2 ∧ leap ρ y = true) ∧ m = rv ρ 17 + 1) from fun q => by omega), if_pos ⟨h, by omega⟩]
theorem mlen_c {ρ : Row} {y m : Int} (h : rv ρ 16 = 2 ∧ leap ρ y = true) (h1 : m ≤ rv ρ 17) : mlen ρ y m = rv ρ m := by
  unfold mlen
  rw [if_neg (show ¬ ((rv ρ 16 = 2 ∧ leap ρ y = true) ∧ m = rv ρ 17 + 1) from fun q => by omega), if_neg (show ¬ ((rv ρ 16 = 2 ∧ leap ρ y = true) ∧ rv ρ 17 < m) from fun q => by omega), if_neg (show ¬ (rv ρ 16 = 1 ∧ m = rv ρ 17 ∧ leap ρ y = true) from fun q => by omega)]
  omega
theorem msum_eq0 {ρ : Row} {y : Int} (h : ¬ (rv ρ 16 = 2 ∧ leap ρ y = true)) : ∀ k : Nat, msum ρ y k = sumL ρ k + (if rv ρ 16 = 1 ∧ leap ρ y = true ∧ 1 ≤ rv ρ 17 ∧ rv ρ 17 ≤ k then 1 else 0)
  | 0 => by
    rw [msum, sumL, if_neg (by omega)]
    rfl
  | k + 1 => by
    have e : 1 + (k : Int) = (k : Int) + 1 := by omega
    rw [msum, msum_eq0 h k, sumL, mlen_0 h, e]
    by_cases q1 : rv ρ 16 = 1 ∧ leap ρ y = true ∧ 1 ≤ rv ρ 17 ∧ rv ρ 17 ≤ k
    · rw [if_pos q1, if_neg (show ¬ (rv ρ 16 = 1 ∧ (k : Int) + 1 = rv ρ 17 ∧ leap ρ y = true) from fun q => by omega), if_pos ⟨q1.1, q1.2.1, q1.2.2.1, by omega⟩]
      omega
    · rw [if_neg q1]
      by_cases q2 : rv ρ 16 = 1 ∧ (k : Int) + 1 = rv ρ 17 ∧ leap ρ y = true
      · rw [if_pos q2, if_pos ⟨q2.1, q2.2.2, by omega, by omega⟩]
        omega
      · have q3 : ¬ (rv ρ 16 = 1 ∧ leap ρ y = true ∧ 1 ≤ rv ρ 17 ∧ rv ρ 17 ≤ ((k + 1 : Nat) : Int)) := fun q => q1 ⟨q.1, q.2.1, q.2.2.1, by
          have h3 : ¬ ((k : Int) + 1 = rv ρ 17) := fun z => q2 ⟨q.1, z, q.2.1⟩
          have := q.2.2.2
          omega⟩
        rw [if_neg q2, if_neg q3]
        omega
theorem msum_eq2 {ρ : Row} {y : Int} (h : rv ρ 16 = 2 ∧ leap ρ y = true) (hl : 1 ≤ rv ρ 17) : ∀ k : Nat, msum ρ y k = if (k : Int) ≤ rv ρ 17 then sumL ρ k else sumL ρ (k - 1) + rv ρ 18
  | 0 => by rw [msum, if_pos (by omega), sumL]
  | k + 1 => by
    rw [msum, msum_eq2 h hl k]
    rcases (show (k : Int) + 1 = rv ρ 17 + 1 ∨ rv ρ 17 + 1 < (k : Int) + 1 ∨ (k : Int) + 1 ≤ rv ρ 17 by omega) with q1 | q1 | q1
    · rw [mlen_a h q1, if_pos (by omega), if_neg (by omega)]
      rfl
    · rw [mlen_b h q1, if_neg (by omega), if_neg (by omega)]
      obtain ⟨j, rfl⟩ : ∃ j, k = j + 1 := ⟨k - 1, by omega⟩
      rw [show j + 1 + 1 - 1 = j + 1 from rfl, sumL, show j + 1 - 1 = j from rfl, show (((j + 1 : Nat) : Int) + 1 - 1) = 1 + (j : Int) by omega]
      omega
    · rw [mlen_c h q1, if_pos (by omega), if_pos (by omega), sumL, show 1 + (k : Int) = (k : Int) + 1 by omega]
/-- a year is its months -/
theorem msum_all {ρ : Row} (h : okRow ρ) (y : Int) : msum ρ y (mcnt ρ y).toNat = ylen ρ y := by
  have hm := h.months
  have hk := h.lk
  by_cases q : rv ρ 16 = 2 ∧ leap ρ y = true
  · have hl := h.lm (by omega)
    rw [msum_eq2 q (by omega), mcnt_t q, if_neg (by omega)]
    unfold ylen
    rw [if_neg (fun z => z.elim (by omega) (fun z => by rw [q.2] at z; cases z)), if_neg (by omega), show (rv ρ 0 + 1).toNat - 1 = (rv ρ 0).toNat by omega]
  · rw [msum_eq0 q, mcnt_f q]
    unfold ylen
    by_cases q0 : rv ρ 16 = 0 ∨ leap ρ y = false
    · rw [if_pos q0, if_neg (fun z => q0.elim (by omega) (fun w => by rw [z.2.1] at w; cases w))]
    · have q1 : leap ρ y = true := by
        cases hq : leap ρ y
        · exact absurd (Or.inr hq) q0
        · rfl
      have q2 : rv ρ 16 = 1 := by
        have h1 : ¬ rv ρ 16 = 0 := fun z => q0 (Or.inl z)
        have h2 : ¬ rv ρ 16 = 2 := fun z => q ⟨z, q1⟩
        omega
      have hl := h.lm (by omega)
      rw [if_neg q0, if_pos q2, if_pos ⟨q2, q1, by omega, by omega⟩]
/-- the month and the day of the month of a day -/
noncomputable def mofN (ρ : Row) (y x : Int) : Nat → Int
  | 0 => 1
  | k + 1 => if msum ρ y (k + 1) ≤ x then (k : Int) + 2 else mofN ρ y x k
noncomputable def mofY (ρ : Row) (y d : Int) : Int := mofN ρ y (d - fst ρ y) (mcnt ρ y - 1).toNat
noncomputable def mof (ρ : Row) (d : Int) : Int := mofY ρ (yof ρ d) d
noncomputable def dof (ρ : Row) (d : Int) : Int := d - fst ρ (yof ρ d) + 1 - msum ρ (yof ρ d) (mof ρ d - 1).toNat
theorem msum_mono {ρ : Row} (h : okRow ρ) {y : Int} {j k : Nat} (hjk : j ≤ k) (hk : (k : Int) ≤ mcnt ρ y) : msum ρ y j ≤ msum ρ y k := by
  obtain ⟨i, rfl⟩ : ∃ i, k = j + i := ⟨k - j, by omega⟩
  clear hjk
  induction i with
  | zero => exact Int.le_refl _
  | succ i ih =>
    have h1 := ih (by omega)
    have h2 := mlen_bd h (y := y) (m := ((j + i : Nat) : Int) + 1) (by omega) (by omega)
    rw [← Nat.add_assoc, msum]
    omega
theorem mofY_eq {ρ : Row} (h : okRow ρ) {y d m : Int} (h1 : 1 ≤ m) (h2 : m ≤ mcnt ρ y) (h3 : msum ρ y (m - 1).toNat ≤ d - fst ρ y) (h4 : d - fst ρ y < msum ρ y m.toNat) : mofY ρ y d = m := by
  have key : ∀ k : Nat, (k : Int) + 1 ≤ mcnt ρ y → m ≤ (k : Int) + 1 → mofN ρ y (d - fst ρ y) k = m := by
    intro k
    induction k with
    | zero => intro _ q; rw [mofN]; omega
    | succ k ih =>
      intro q1 q2
      rw [mofN]
      by_cases q : m = (k : Int) + 2
      · rw [if_pos (by rw [show k + 1 = (m - 1).toNat by omega]; exact h3)]
        omega
      · have := msum_mono h (y := y) (j := m.toNat) (k := k + 1) (by omega) (by omega)
        rw [if_neg (by omega)]
        exact ih (by omega) (by omega)
  have := mcnt_bd h y
  exact key _ (by omega) (by omega)
