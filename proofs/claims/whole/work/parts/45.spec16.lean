/-- leap years come again after as many years as the calendar tells -/
theorem gcdI_l {x y : Int} (h : 0 ≤ x) : ∃ a : Int, x = gcdI x y * a := by
  obtain ⟨a, ha⟩ := Nat.gcd_dvd_left x.toNat y.toNat
  refine ⟨a, ?_⟩
  unfold gcdI
  have e : x = (x.toNat : Int) := by omega
  have e2 : (x.toNat : Int) = ((Nat.gcd x.toNat y.toNat * a : Nat) : Int) := congrArg _ ha
  rw [Int.natCast_mul] at e2
  omega
theorem gcdI_r {x y : Int} (h : 0 ≤ y) : ∃ a : Int, y = gcdI x y * a := by
  obtain ⟨a, ha⟩ := Nat.gcd_dvd_right x.toNat y.toNat
  refine ⟨a, ?_⟩
  unfold gcdI
  have e : y = (y.toNat : Int) := by omega
  have e2 : (y.toNat : Int) = ((Nat.gcd x.toNat y.toNat * a : Nat) : Int) := congrArg _ ha
  rw [Int.natCast_mul] at e2
  omega
/-- the least common multiple is one -/
theorem lcm_dvd {x y : Int} (hx : 0 < x) (hy : 0 < y) : x ∣ x / gcdI x y * y ∧ y ∣ x / gcdI x y * y := by
  obtain ⟨a, ha⟩ := gcdI_l (x := x) (y := y) (by omega)
  obtain ⟨c, hc⟩ := gcdI_r (x := x) (y := y) (by omega)
  have g := gcdI_bd (x := x) (y := y) hx
  have e : x / gcdI x y = a := by
    have := Int.mul_ediv_cancel_left a (show gcdI x y ≠ 0 by omega)
    rw [← ha] at this
    exact this
  rw [e]
  refine ⟨⟨c, ?_⟩, ⟨a, Int.mul_comm a y⟩⟩
  have e1 : a * y = a * (gcdI x y * c) := congrArg (a * ·) hc
  have e2 : x * c = gcdI x y * a * c := congrArg (· * c) ha
  rw [e1, e2, ← Int.mul_assoc, Int.mul_comm a]
def okDiv (ρ : Row) : Prop := ∀ k : Int, 0 ≤ k → k < 4 → rv ρ (24 + k) ≠ 0 → 1 ≤ rv ρ (20 + k) ∧ rv ρ (20 + k) ≤ 400
theorem repN_p {ρ : Row} (h : okDiv ρ) : ∀ k : Nat, k ≤ 4 → repN ρ k ≠ 0 → (1 ≤ repN ρ k ∧ repN ρ k ≤ 1000) ∧ ∀ i : Nat, i < k → rv ρ (24 + i) ≠ 0 → rv ρ (20 + i) ∣ repN ρ k
  | 0, _, _ => ⟨by rw [repN]; omega, fun i hi => absurd hi (by omega)⟩
  | k + 1, hk, h0 => by
    rw [repN] at h0 ⊢
    by_cases q : repN ρ k = 0
    · rw [if_pos q] at h0; exact absurd rfl h0
    · rw [if_neg q] at h0 ⊢
      have ih := repN_p h k (by omega) q
      by_cases s : rv ρ (24 + k) ≠ 0
      · rw [if_pos s] at h0 ⊢
        have hd := h k (by omega) (by omega) s
        have l := lcm_dvd (x := repN ρ k) (y := rv ρ (20 + k)) (by omega) (by omega)
        have b := div_mul_ge (x := repN ρ k) (y := rv ρ (20 + k)) (by omega) (by omega)
        by_cases t : 1000 < repN ρ k / gcdI (repN ρ k) (rv ρ (20 + k)) * rv ρ (20 + k)
        · rw [if_pos t] at h0; exact absurd rfl h0
        · rw [if_neg t]
          refine ⟨by omega, fun i hi a => ?_⟩
          rcases (show i < k ∨ i = k by omega) with z | z
          · exact Int.dvd_trans (ih.2 i z a) l.1
          · rw [z]; exact l.2
      · rw [if_neg s] at h0 ⊢
        by_cases t : 1000 < repN ρ k
        · rw [if_pos t] at h0; exact absurd rfl h0
        · rw [if_neg t]
          refine ⟨ih.1, fun i hi a => ?_⟩
          rcases (show i < k ∨ i = k by omega) with z | z
          · exact ih.2 i z a
          · rw [z] at a; exact absurd a s
theorem sgn_per {ρ : Row} {P y : Int} : ∀ k : Nat, (∀ i : Nat, i < k → rv ρ (24 + i) ≠ 0 → rv ρ (20 + i) ∣ P) → sgn ρ (y % P) k = sgn ρ y k
  | 0, _ => rfl
  | k + 1, h => by
    rw [sgn, sgn, sgn_per k (fun i hi => h i (by omega))]
    by_cases s : rv ρ (24 + k) ≠ 0
    · rw [Int.emod_emod_of_dvd y (h k (by omega) s)]
    · rw [if_neg (fun q => s q.1), if_neg (fun q => s q.1)]
/-- leap years by the rest of the year -/
theorem leap_per {ρ : Row} (h : okRow ρ) (hr : reps ρ ≠ 0) (y : Int) : leap ρ (y % reps ρ) = leap ρ y := by
  have e : leapP ρ (y % reps ρ) ↔ leapP ρ y := by
    unfold leapP reps
    unfold reps at hr
    by_cases q : rv ρ 19 = 2
    · rw [if_pos q, if_pos q, if_pos q, Int.emod_emod]
    · rw [if_neg q] at hr
      rw [if_neg q, if_neg q, if_neg q]
      by_cases q1 : rv ρ 19 = 1
      · rw [if_pos q1] at hr ⊢
        have p := repN_p (fun k a c d => h.div a c d) 4 (by omega) hr
        rw [sgn_per 4 p.2]
      · exact ⟨fun z => absurd z.1 q1, fun z => absurd z.1 q1⟩
  exact Bool.eq_iff_iff.mpr (leap_iff.trans (e.trans leap_iff.symm))
theorem reps_bd {ρ : Row} (h : okRow ρ) (hr : reps ρ ≠ 0) : 1 ≤ reps ρ ∧ reps ρ ≤ 1000 := by
  unfold reps at hr ⊢
  by_cases q : rv ρ 19 = 2
  · rw [if_pos q]; have := h.cyc q; omega
  · rw [if_neg q] at hr ⊢
    by_cases q1 : rv ρ 19 = 1
    · rw [if_pos q1] at hr ⊢
      exact (repN_p (fun k a c d => h.div a c d) 4 (by omega) hr).1
    · rw [if_neg q1]; omega
/-- how many of the first years from 0 on are leap years -/
noncomputable def lcN (ρ : Row) : Nat → Int
  | 0 => 0
  | k + 1 => lcN ρ k + (if leap ρ k = true then 1 else 0)
/-- the leap years from 0 up to the one before -/
noncomputable def lpb (ρ : Row) (y : Int) : Int := y / reps ρ * lcN ρ (reps ρ).toNat + lcN ρ (y % reps ρ).toNat
theorem lpb_s {ρ : Row} (h : okRow ρ) (hr : reps ρ ≠ 0) (y : Int) : lpb ρ (y + 1) = lpb ρ y + (if leap ρ y = true then 1 else 0) := by
  have b := reps_bd h hr
  have m0 := Int.emod_nonneg y (show reps ρ ≠ 0 by omega)
  have m1 := Int.emod_lt_of_pos y (show 0 < reps ρ by omega)
  have d := Int.emod_add_mul_ediv y (reps ρ)
  have hl := leap_per h hr y
  have s : lcN ρ (y % reps ρ + 1).toNat = lcN ρ (y % reps ρ).toNat + (if leap ρ y = true then 1 else 0) := by
    rw [show (y % reps ρ + 1).toNat = (y % reps ρ).toNat + 1 by omega, lcN, show (((y % reps ρ).toNat : Nat) : Int) = y % reps ρ by omega, hl]
  unfold lpb
  by_cases q : y % reps ρ + 1 < reps ρ
  · have e1 : (y + 1) / reps ρ = y / reps ρ := by
      rw [show y + 1 = (y % reps ρ + 1) + reps ρ * (y / reps ρ) by omega, Int.add_mul_ediv_left _ _ (by omega), Int.ediv_eq_zero_of_lt (by omega) q]
      omega
    have e2 : (y + 1) % reps ρ = y % reps ρ + 1 := by
      rw [show y + 1 = (y % reps ρ + 1) + reps ρ * (y / reps ρ) by omega, Int.add_mul_emod_self_left, Int.emod_eq_of_lt (by omega) q]
    rw [e1, e2, s]
    omega
  · have e0 : y % reps ρ + 1 = reps ρ := by omega
    have e1 : (y + 1) / reps ρ = y / reps ρ + 1 := by
      rw [show y + 1 = 0 + reps ρ * (y / reps ρ + 1) by rw [Int.mul_add]; omega, Int.add_mul_ediv_left _ _ (by omega)]
      simp
    have e2 : (y + 1) % reps ρ = 0 := by
      rw [show y + 1 = 0 + reps ρ * (y / reps ρ + 1) by rw [Int.mul_add]; omega, Int.add_mul_emod_self_left]
      simp
    rw [e1, e2]
    rw [e0] at s
    rw [Int.add_mul, Int.one_mul, s]
    have : lcN ρ (0 : Int).toNat = 0 := rfl
    omega
/-- the days of a leap year more than of another one -/
noncomputable def extD (ρ : Row) : Int := if rv ρ 16 = 0 then 0 else if rv ρ 16 = 1 then 1 else rv ρ 18
theorem ylen_x (ρ : Row) (y : Int) : ylen ρ y = sumL ρ (rv ρ 0).toNat + (if leap ρ y = true then 1 else 0) * extD ρ := by
  unfold ylen extD
  cases hl : leap ρ y
  · rw [if_pos (Or.inr rfl), if_neg (by decide), Int.zero_mul]
  · rw [if_pos rfl, Int.one_mul]
    by_cases q : rv ρ 16 = 0
    · rw [if_pos (Or.inl q), if_pos q]
    · rw [if_neg (fun z => z.elim q (by decide)), if_neg q]
/-- the first day of a year, by its number -/
theorem fst_lin {ρ : Row} (h : okRow ρ) (hr : reps ρ ≠ 0) (y : Int) : fst ρ y = fst ρ 0 + y * sumL ρ (rv ρ 0).toNat + lpb ρ y * extD ρ := by
  have z0 : lpb ρ 0 = 0 := by
    unfold lpb
    rw [Int.zero_ediv, Int.zero_emod, Int.zero_mul]
    rfl
  have up : ∀ y : Int, fst ρ y = fst ρ 0 + y * sumL ρ (rv ρ 0).toNat + lpb ρ y * extD ρ ↔ fst ρ (y + 1) = fst ρ 0 + (y + 1) * sumL ρ (rv ρ 0).toNat + lpb ρ (y + 1) * extD ρ := fun y => by
    rw [fst_succ, ylen_x, lpb_s h hr, Int.add_mul, Int.one_mul, Int.add_mul]
    omega
  have key : ∀ k : Nat, (fst ρ k = fst ρ 0 + (k : Int) * sumL ρ (rv ρ 0).toNat + lpb ρ k * extD ρ) ∧ (fst ρ (-k) = fst ρ 0 + (-(k : Int)) * sumL ρ (rv ρ 0).toNat + lpb ρ (-k) * extD ρ) := by
    intro k
    induction k with
    | zero =>
      refine ⟨?_, ?_⟩
      · show fst ρ 0 = fst ρ 0 + 0 * _ + lpb ρ 0 * _
        rw [z0]; omega
      · show fst ρ 0 = fst ρ 0 + 0 * _ + lpb ρ 0 * _
        rw [z0]; omega
    | succ k ih =>
      refine ⟨(up k).mp ih.1, ?_⟩
      have e : -((k + 1 : Nat) : Int) = -(k : Int) - 1 := by omega
      rw [e]
      have u := up (-(k : Int) - 1)
      rw [show -(k : Int) - 1 + 1 = -(k : Int) by omega] at u
      exact u.mpr ih.2
  rcases (show 0 ≤ y ∨ y < 0 by omega) with q | q
  · have := (key y.toNat).1
    rw [show ((y.toNat : Nat) : Int) = y by omega] at this
    exact this
  · have := (key (-y).toNat).2
    rw [show -((((-y).toNat : Nat)) : Int) = y by omega] at this
    exact this
/-- the months before a year, by its number -/
theorem Mb_lin {ρ : Row} (h : okRow ρ) (hr : reps ρ ≠ 0) (y : Int) : Mb ρ y = y * rv ρ 0 + (if rv ρ 16 = 2 then lpb ρ y else 0) := by
  have z0 : lpb ρ 0 = 0 := by
    unfold lpb
    rw [Int.zero_ediv, Int.zero_emod, Int.zero_mul]
    rfl
  have m0 : Mb ρ 0 = 0 := rfl
  have mc : ∀ y : Int, mcnt ρ y = rv ρ 0 + (if rv ρ 16 = 2 then (if leap ρ y = true then 1 else 0) else 0) := fun y => by
    unfold mcnt
    by_cases q : rv ρ 16 = 2
    · by_cases q2 : leap ρ y = true
      · rw [if_pos ⟨q, q2⟩, if_pos q, if_pos q2]
      · rw [if_neg (fun z => q2 z.2), if_pos q, if_neg q2]
    · rw [if_neg (fun z => q z.1), if_neg q]
  have up : ∀ y : Int, Mb ρ y = y * rv ρ 0 + (if rv ρ 16 = 2 then lpb ρ y else 0) ↔ Mb ρ (y + 1) = (y + 1) * rv ρ 0 + (if rv ρ 16 = 2 then lpb ρ (y + 1) else 0) := fun y => by
    rw [Mb_succ, mc, lpb_s h hr, Int.add_mul, Int.one_mul]
    by_cases q : rv ρ 16 = 2
    · rw [if_pos q, if_pos q, if_pos q]; omega
    · rw [if_neg q, if_neg q, if_neg q]; omega
  have key : ∀ k : Nat, (Mb ρ k = (k : Int) * rv ρ 0 + (if rv ρ 16 = 2 then lpb ρ k else 0)) ∧ (Mb ρ (-k) = (-(k : Int)) * rv ρ 0 + (if rv ρ 16 = 2 then lpb ρ (-k) else 0)) := by
    intro k
    induction k with
    | zero =>
      have e : (if rv ρ 16 = 2 then lpb ρ 0 else 0) = 0 := by rw [z0]; split <;> rfl
      refine ⟨?_, ?_⟩
      · show Mb ρ 0 = 0 * _ + (if rv ρ 16 = 2 then lpb ρ 0 else 0)
        rw [e, m0]; omega
      · show Mb ρ 0 = 0 * _ + (if rv ρ 16 = 2 then lpb ρ 0 else 0)
        rw [e, m0]; omega
    | succ k ih =>
      refine ⟨(up k).mp ih.1, ?_⟩
      have e : -((k + 1 : Nat) : Int) = -(k : Int) - 1 := by omega
      rw [e]
      have u := up (-(k : Int) - 1)
      rw [show -(k : Int) - 1 + 1 = -(k : Int) by omega] at u
      exact u.mpr ih.2
  rcases (show 0 ≤ y ∨ y < 0 by omega) with q | q
  · have := (key y.toNat).1
    rw [show ((y.toNat : Nat) : Int) = y by omega] at this
    exact this
  · have := (key (-y).toNat).2
    rw [show -((((-y).toNat : Nat)) : Int) = y by omega] at this
    exact this
theorem lcN_bd (ρ : Row) (k : Nat) : 0 ≤ lcN ρ k ∧ lcN ρ k ≤ k := by
  induction k with
  | zero => rw [lcN]; omega
  | succ k ih => rw [lcN]; split <;> omega
theorem lpb_bd {ρ : Row} (h : okRow ρ) (hr : reps ρ ≠ 0) {y : Int} (h1 : -3000 ≤ y) (h2 : y ≤ 3000) : -3000 ≤ lpb ρ y ∧ lpb ρ y ≤ 3000 := by
  have z0 : lpb ρ 0 = 0 := by
    unfold lpb
    rw [Int.zero_ediv, Int.zero_emod, Int.zero_mul]
    rfl
  have key : ∀ k : Nat, (0 ≤ lpb ρ k ∧ lpb ρ k ≤ k) ∧ (-(k : Int) ≤ lpb ρ (-k) ∧ lpb ρ (-k) ≤ 0) := by
    intro k
    induction k with
    | zero => exact ⟨by show 0 ≤ lpb ρ 0 ∧ lpb ρ 0 ≤ 0; omega, by show 0 ≤ lpb ρ 0 ∧ lpb ρ 0 ≤ 0; omega⟩
    | succ k ih =>
      have s1 := lpb_s h hr k
      have s2 := lpb_s h hr (-(k : Int) - 1)
      rw [show -(k : Int) - 1 + 1 = -(k : Int) by omega] at s2
      rw [show ((k + 1 : Nat) : Int) = (k : Int) + 1 by omega, show -((k : Int) + 1) = -(k : Int) - 1 by omega]
      constructor
      · split at s1 <;> omega
      · split at s2 <;> omega
  rcases (show 0 ≤ y ∨ y < 0 by omega) with q | q
  · have := (key y.toNat).1
    rw [show ((y.toNat : Nat) : Int) = y by omega] at this
    omega
  · have := (key (-y).toNat).2
    rw [show -((((-y).toNat : Nat)) : Int) = y by omega] at this
    omega
