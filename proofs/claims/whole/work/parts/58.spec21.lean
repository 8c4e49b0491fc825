/-! divisors and cycles that are possible; the class's reader as a whole -/
def lcmI (x y : Int) : Int := x / gcdI x y * y
theorem repN_cgk {f g : Nat → Int32} : ∀ k : Nat, k ≤ 4 → (∀ j : Nat, j < k → f (20 + j) = g (20 + j) ∧ f (24 + j) = g (24 + j)) → repN (rowQ f) k = repN (rowQ g) k
  | 0, _, _ => rfl
  | k + 1, hk, h => by
    have e1 : rv (rowQ f) (24 + k) = rv (rowQ g) (24 + k) := rv_cg (by rw [show (24 + (k : Int)).toNat = 24 + k by omega]; exact (h k (by omega)).2)
    have e2 : rv (rowQ f) (20 + k) = rv (rowQ g) (20 + k) := rv_cg (by rw [show (20 + (k : Int)).toNat = 20 + k by omega]; exact (h k (by omega)).1)
    rw [repN, repN, repN_cgk k (by omega) (fun j a => h j (by omega)), e1, e2]
theorem repN_tail {f : Nat → Int32} {n : Nat} (hd : pD (rowQ f)) (hz : ∀ j : Nat, n ≤ j → j < 4 → f (24 + j) = 0) : ∀ k : Nat, n ≤ k → k ≤ 4 → repN (rowQ f) k = repN (rowQ f) n
  | 0, h, _ => by rw [show n = 0 by omega]
  | k + 1, h, hk => by
    rcases (show n = k + 1 ∨ n ≤ k by omega) with z | z
    · rw [z]
    · have ih := repN_tail hd hz k z (by omega)
      have e : rv (rowQ f) (24 + k) = 0 := by rw [rowQ_v (by omega), show (24 + (k : Int)).toNat = 24 + k by omega, hz k z (by omega)]; rfl
      rw [repN]
      by_cases q : repN (rowQ f) k = 0
      · rw [if_pos q, ← ih, q]
      · have p := repN_p (ρ := rowQ f) hd k (by omega) q
        have e' : ¬ rv (rowQ f) (24 + (k : Int)) ≠ 0 := fun w => w e
        rw [if_neg q, if_neg e', if_neg (by omega)]
        exact ih
theorem gcd_ge {x y : Int} (hx : 0 < x) (hy : 0 < y) : 1 ≤ lcmI x y := div_mul_ge hx hy
/-- a divisor more -/
theorem rep_div {q : Nat → Int32} {n : Nat} {v s : Int32} (h19 : (q 19).toInt = 1) (hn : n < 4) (hz : ∀ j : Nat, n ≤ j → j < 4 → q (24 + j) = 0) (hs : s ≠ 0) (hd : pD (rowQ q)) (hv : 1 ≤ v.toInt ∧ v.toInt ≤ 400) : reps (rowQ (upd (upd q (20 + n) v) (24 + n) s)) = if reps (rowQ q) = 0 then 0 else if 1000 < lcmI (reps (rowQ q)) v.toInt then 0 else lcmI (reps (rowQ q)) v.toInt := by
  have e : ∀ j : Nat, j ≠ 20 + n → j ≠ 24 + n → upd (upd q (20 + n) v) (24 + n) s j = q j := fun j a c => (upd_n _ _ c).trans (upd_n _ _ a)
  have es : upd (upd q (20 + n) v) (24 + n) s (24 + n) = s := upd_s _ _ _
  have ev : upd (upd q (20 + n) v) (24 + n) s (20 + n) = v := (upd_n _ _ (by omega)).trans (upd_s _ _ _)
  have g1 : rv (rowQ q) 19 = 1 := (rowQ_v (by omega)).trans h19
  have g2 : rv (rowQ (upd (upd q (20 + n) v) (24 + n) s)) 19 = 1 := by rw [rv_cg (k := 19) (e 19 (by omega) (by omega))]; exact g1
  have hs0 : s.toInt ≠ 0 := fun z => hs (Int32.toInt_inj.mp z)
  have hd' : pD (rowQ (upd (upd q (20 + n) v) (24 + n) s)) := by
    intro k k0 k1 k2
    rcases (show k = n ∨ k ≠ n by omega) with z | z
    · rw [rowQ_v (by omega), show (20 + k).toNat = 20 + n by omega, ev]; exact hv
    · rw [rv_cg (e (20 + k).toNat (by omega) (by omega))]
      exact hd k k0 k1 (by rw [← rv_cg (e (24 + k).toNat (by omega) (by omega))]; exact k2)
  have r1 : reps (rowQ q) = repN (rowQ q) n := by
    unfold reps
    rw [if_neg (by omega), if_pos g1]
    exact repN_tail hd hz 4 (by omega) (by omega)
  have r2 : reps (rowQ (upd (upd q (20 + n) v) (24 + n) s)) = repN (rowQ (upd (upd q (20 + n) v) (24 + n) s)) (n + 1) := by
    unfold reps
    rw [if_neg (by omega), if_pos g2]
    exact repN_tail hd' (fun j a c => (e _ (by omega) (by omega)).trans (hz j (by omega) c)) 4 (by omega) (by omega)
  have r3 : repN (rowQ (upd (upd q (20 + n) v) (24 + n) s)) n = repN (rowQ q) n := repN_cgk n (by omega) (fun j a => ⟨e _ (by omega) (by omega), e _ (by omega) (by omega)⟩)
  have rs : rv (rowQ (upd (upd q (20 + n) v) (24 + n) s)) (24 + n) = s.toInt := by rw [rowQ_v (by omega), show (24 + (n : Int)).toNat = 24 + n by omega, es]
  have rw_ : rv (rowQ (upd (upd q (20 + n) v) (24 + n) s)) (20 + n) = v.toInt := by rw [rowQ_v (by omega), show (20 + (n : Int)).toNat = 20 + n by omega, ev]
  rw [r2, repN, r3, rs, rw_, if_pos hs0, ← r1]
  rfl
theorem pW_div {q : Nat → Int32} {g : Bool} {n : Nat} {v s : Int32} (h0 : (q 0).toInt ≤ 14) (h19 : (q 19).toInt = 1) (hn : n < 4) (hz : ∀ j : Nat, n ≤ j → j < 4 → q (24 + j) = 0) (hs : s ≠ 0) : pWB (rowQ (upd (upd q (20 + n) v) (24 + n) s)) g = true ↔ pWB (rowQ q) g = true ∧ ((1 ≤ v.toInt ∧ v.toInt ≤ 400) ∧ lcmI (reps (rowQ q)) v.toInt ≤ 1000) := by
  rw [pWB_iff, pWB_iff]
  have e : ∀ j : Nat, j ≠ 20 + n → j ≠ 24 + n → upd (upd q (20 + n) v) (24 + n) s j = q j := fun j a c => (upd_n _ _ c).trans (upd_n _ _ a)
  have es : upd (upd q (20 + n) v) (24 + n) s (24 + n) = s := upd_s _ _ _
  have ev : upd (upd q (20 + n) v) (24 + n) s (20 + n) = v := (upd_n _ _ (by omega)).trans (upd_s _ _ _)
  have hs0 : s.toInt ≠ 0 := fun z => hs (Int32.toInt_inj.mp z)
  have g1 : rv (rowQ q) 19 = 1 := (rowQ_v (by omega)).trans h19
  have hD : pD (rowQ (upd (upd q (20 + n) v) (24 + n) s)) ↔ pD (rowQ q) ∧ (1 ≤ v.toInt ∧ v.toInt ≤ 400) := by
    constructor
    · intro a
      refine ⟨fun k k0 k1 k2 => ?_, ?_⟩
      · rcases (show k = n ∨ k ≠ n by omega) with z | z
        · exfalso
          apply k2
          rw [rowQ_v (by omega), show (24 + k).toNat = 24 + n by omega, hz n (by omega) hn]
          rfl
        · rw [← rv_cg (e (20 + k).toNat (by omega) (by omega))]
          exact a k k0 k1 (by rw [rv_cg (e (24 + k).toNat (by omega) (by omega))]; exact k2)
      · have := a n (by omega) (by omega) (by rw [rowQ_v (by omega), show (24 + (n : Int)).toNat = 24 + n by omega, es]; exact hs0)
        rw [rowQ_v (by omega), show (20 + (n : Int)).toNat = 20 + n by omega, ev] at this
        exact this
    · rintro ⟨a, hv⟩ k k0 k1 k2
      rcases (show k = n ∨ k ≠ n by omega) with z | z
      · rw [rowQ_v (by omega), show (20 + k).toNat = 20 + n by omega, ev]; exact hv
      · rw [rv_cg (e (20 + k).toNat (by omega) (by omega))]
        exact a k k0 k1 (by rw [← rv_cg (e (24 + k).toNat (by omega) (by omega))]; exact k2)
  unfold possW
  rw [pM_cg (fun j a => e j (by omega) (by omega)) h0, pE_cg (e 15 (by omega) (by omega)), pL_cg (e 0 (by omega) (by omega)) (e 16 (by omega) (by omega)) (e 17 (by omega) (by omega)) (e 18 (by omega) (by omega)), hD, pC_cg (e 19 (by omega) (by omega)) (e 28 (by omega) (by omega)), pK_cg (e 30 (by omega) (by omega)) (e 31 (by omega) (by omega)) (e 32 (by omega) (by omega))]
  constructor
  · rintro ⟨a, c, d, ⟨f, hv⟩, x, y, z⟩
    rw [rep_div h19 hn hz hs f hv] at y
    by_cases w : reps (rowQ q) = 0
    · rw [if_pos w] at y; exact absurd rfl y
    · rw [if_neg w] at y
      by_cases w2 : 1000 < lcmI (reps (rowQ q)) v.toInt
      · rw [if_pos w2] at y; exact absurd rfl y
      · exact ⟨⟨a, c, d, f, x, w, z⟩, hv, by omega⟩
  · rintro ⟨⟨a, c, d, f, x, w, z⟩, hv, hl⟩
    have hrb : 1 ≤ reps (rowQ q) := by
      have p := repN_p (ρ := rowQ q) f 4 (by omega)
      unfold reps at w ⊢
      rw [if_neg (by omega), if_pos g1] at w ⊢
      exact (p w).1.1
    refine ⟨a, c, d, ⟨f, hv⟩, x, ?_, z⟩
    rw [rep_div h19 hn hz hs f hv, if_neg w, if_neg (by omega)]
    have := gcd_ge (x := reps (rowQ q)) (y := v.toInt) (by omega) (by omega)
    omega
theorem repN_zero {f : Nat → Int32} (hz : ∀ j : Nat, j < 4 → f (24 + j) = 0) : ∀ k : Nat, k ≤ 4 → repN (rowQ f) k = 1
  | 0, _ => rfl
  | k + 1, hk => by
    have e : rv (rowQ f) (24 + k) = 0 := by rw [rowQ_v (by omega), show (24 + (k : Int)).toNat = 24 + k by omega, hz k (by omega)]; rfl
    have e' : ¬ rv (rowQ f) (24 + (k : Int)) ≠ 0 := fun w => w e
    rw [repN, repN_zero hz k (by omega), if_neg (by decide), if_neg e', if_neg (by decide)]
/-- the rule by divisors begins -/
theorem rep_rule1 {q : Nat → Int32} (h19 : q 19 = 0) (hz : ∀ j : Nat, j < 4 → q (24 + j) = 0) : reps (rowQ (upd q 19 1)) = 1 ∧ reps (rowQ q) = 1 := by
  have g1 : rv (rowQ q) 19 = 0 := (rowQ_v (by omega)).trans (congrArg Int32.toInt h19)
  have g2 : rv (rowQ (upd q 19 1)) 19 = 1 := (rowQ_v (by omega)).trans (congrArg Int32.toInt (upd_s q 19 1))
  constructor
  · unfold reps
    rw [if_neg (by omega), if_pos g2]
    exact repN_zero (fun j h => (upd_n _ _ (by omega)).trans (hz j h)) 4 (by omega)
  · unfold reps
    rw [if_neg (by omega), if_neg (by omega)]
theorem pW_rule1 {q : Nat → Int32} {g : Bool} (h0 : (q 0).toInt ≤ 14) (h19 : q 19 = 0) (hz : ∀ j : Nat, j < 4 → q (24 + j) = 0) : pWB (rowQ (upd q 19 1)) g = pWB (rowQ q) g := by
  have e : ∀ j : Nat, j ≠ 19 → upd q 19 1 j = q j := fun j a => upd_n _ _ a
  have g1 : rv (rowQ q) 19 = 0 := (rowQ_v (by omega)).trans (congrArg Int32.toInt h19)
  have g2 : rv (rowQ (upd q 19 1)) 19 = 1 := (rowQ_v (by omega)).trans (congrArg Int32.toInt (upd_s q 19 1))
  have r := rep_rule1 h19 hz
  refine Bool.eq_iff_iff.mpr ?_
  rw [pWB_iff, pWB_iff]
  unfold possW
  rw [pM_cg (fun j a => e j (by omega)) h0, pE_cg (e 15 (by omega)), pL_cg (e 0 (by omega)) (e 16 (by omega)) (e 17 (by omega)) (e 18 (by omega)), pD_cg (fun j a _ => e j (by omega)), r.1, r.2, pK_cg (e 30 (by omega)) (e 31 (by omega)) (e 32 (by omega))]
  unfold pC
  rw [g1, g2]
  constructor
  · rintro ⟨a, c, d, f, x, y, z⟩; exact ⟨a, c, d, f, fun w => by omega, y, z⟩
  · rintro ⟨a, c, d, f, x, y, z⟩; exact ⟨a, c, d, f, fun w => by omega, y, z⟩
/-- a cycle -/
theorem pW_cyc {q : Nat → Int32} {v : Int32} (h0 : (q 0).toInt ≤ 14) (h19 : q 19 = 0) : pWB (rowQ (upd (upd q 19 2) 28 v)) false = true ↔ pWB (rowQ q) false = true ∧ (1 ≤ v.toInt ∧ v.toInt ≤ 30) := by
  have e : ∀ j : Nat, j ≠ 19 → j ≠ 28 → upd (upd q 19 2) 28 v j = q j := fun j a c => (upd_n _ _ c).trans (upd_n _ _ a)
  have g1 : rv (rowQ q) 19 = 0 := (rowQ_v (by omega)).trans (congrArg Int32.toInt h19)
  have g2 : rv (rowQ (upd (upd q 19 2) 28 v)) 19 = 2 := (rowQ_v (by omega)).trans (congrArg Int32.toInt ((upd_n _ _ (by decide)).trans (upd_s q 19 2)))
  have g3 : rv (rowQ (upd (upd q 19 2) 28 v)) 28 = v.toInt := (rowQ_v (by omega)).trans (congrArg Int32.toInt (upd_s _ 28 v))
  have r1 : reps (rowQ (upd (upd q 19 2) 28 v)) = v.toInt := by unfold reps; rw [if_pos g2, g3]
  have r2 : reps (rowQ q) = 1 := by unfold reps; rw [if_neg (by omega), if_neg (by omega)]
  rw [pWB_iff, pWB_iff]
  unfold possW
  rw [pM_cg (fun j a => e j (by omega) (by omega)) h0, pE_cg (e 15 (by omega) (by omega)), pL_cg (e 0 (by omega) (by omega)) (e 16 (by omega) (by omega)) (e 17 (by omega) (by omega)) (e 18 (by omega) (by omega)), pD_cg (fun j a _ => e j (by omega) (by omega)), r1, r2, pK_cg (e 30 (by omega) (by omega)) (e 31 (by omega) (by omega)) (e 32 (by omega) (by omega))]
  unfold pC
  rw [g1, g2, g3]
  constructor
  · rintro ⟨a, c, d, f, x, y, z⟩; exact ⟨⟨a, c, d, f, fun w => by omega, by decide, z⟩, (x rfl).1⟩
  · rintro ⟨⟨a, c, d, f, x, y, z⟩, w⟩; exact ⟨a, c, d, f, fun _ => ⟨w, rfl⟩, by omega, z⟩
theorem pW_rem {q q' : Nat → Int32} {g : Bool} {v : Int} (h0 : (q 0).toInt ≤ 14) (h19 : q 19 = 2) (he : ∀ j : Nat, j ≠ 29 → q' j = q j) (hv : 0 ≤ v) : pWB (rowQ q') (g || decide ((q 28).toInt ≤ v)) = true ↔ pWB (rowQ q) g = true ∧ (0 ≤ v ∧ v ≤ (q 28).toInt - 1) := by
  have g1 : rv (rowQ q) 19 = 2 := (rowQ_v (by omega)).trans (congrArg Int32.toInt h19)
  rw [pWB_iff, pWB_iff]
  unfold possW
  rw [pM_cg (fun j a => he j (by omega)) h0, pE_cg (he 15 (by omega)), pL_cg (he 0 (by omega)) (he 16 (by omega)) (he 17 (by omega)) (he 18 (by omega)), pD_cg (fun j a _ => he j (by omega)), pC_cg (he 19 (by omega)) (he 28 (by omega)), reps_cg (fun j a _ => he j (by omega)), pK_cg (he 30 (by omega)) (he 31 (by omega)) (he 32 (by omega))]
  unfold pC
  rw [g1]
  constructor
  · rintro ⟨a, c, d, f, x, y, z⟩
    have x1 := x rfl
    have x2 := Bool.or_eq_false_iff.mp x1.2
    have x3 := of_decide_eq_false x2.2
    exact ⟨⟨a, c, d, f, fun _ => ⟨x1.1, x2.1⟩, y, z⟩, by omega⟩
  · rintro ⟨⟨a, c, d, f, x, y, z⟩, w⟩
    refine ⟨a, c, d, f, fun _ => ⟨(x rfl).1, ?_⟩, y, z⟩
    rw [(x rfl).2, decide_eq_false (by omega)]
    rfl
/-- the least common multiple, as a search over multiples finds it -/
theorem lcmI_nat {x y : Int} (hx : 0 < x) (hy : 0 < y) : lcmI x y = (Nat.lcm x.toNat y.toNat : Nat) := by
  obtain ⟨a, rfl⟩ : ∃ a : Nat, x = a := ⟨x.toNat, by omega⟩
  obtain ⟨c, rfl⟩ : ∃ c : Nat, y = c := ⟨y.toNat, by omega⟩
  unfold lcmI gcdI
  rw [Int.toNat_natCast, Int.toNat_natCast]
  unfold Nat.lcm
  rw [← Int.natCast_ediv, ← Int.natCast_mul, Nat.div_mul_right_comm (Nat.gcd_dvd_left a c)]
theorem lcmI_le {x y m : Int} (hx : 0 < x) (hy : 0 < y) (hm : 0 < m) (h1 : x ∣ m) (h2 : y ∣ m) : lcmI x y ≤ m := by
  rw [lcmI_nat hx hy]
  have a1 : x.toNat ∣ m.toNat := by
    have := Int.natAbs_dvd_natAbs.mpr h1
    rw [show x.toNat = x.natAbs by omega, show m.toNat = m.natAbs by omega]
    exact this
  have a2 : y.toNat ∣ m.toNat := by
    have := Int.natAbs_dvd_natAbs.mpr h2
    rw [show y.toNat = y.natAbs by omega, show m.toNat = m.natAbs by omega]
    exact this
  have := Nat.le_of_dvd (by omega) (Nat.lcm_dvd a1 a2)
  omega
theorem lcmI_mul {x y : Int} (hx : 0 < x) (hy : 0 < y) : ∃ j : Int, 1 ≤ j ∧ lcmI x y = x * j := by
  obtain ⟨j, hj⟩ := (lcm_dvd hx hy).1
  refine ⟨j, ?_, hj⟩
  have h1 := gcd_ge hx hy
  have h2 : lcmI x y = x * j := hj
  rcases (show 1 ≤ j ∨ j ≤ 0 by omega) with q | q
  · exact q
  · have : x * j ≤ 0 := Int.mul_nonpos_of_nonneg_of_nonpos (by omega) q
    omega
/-- the reader's numbers and rows, as the row that is read has them -/
def rdC (q : Nat → Int32) (g : Bool) (A : Nat → Int32) (B : Nat → Nat → Int32) : Prop :=
  ((0 ≤ (q 0).toInt ∧ (q 0).toInt ≤ 14) ∧ A 6 = q 0) ∧
  (∀ j : Int, 0 ≤ j → j < (q 0).toInt → B 1 j.toNat = q (1 + j).toNat) ∧
  ((A 7).toInt = sumL (rowQ q) (q 0).toInt.toNat ∧ 0 ≤ (A 7).toInt ∧ (A 7).toInt ≤ 999999 * (q 0).toInt) ∧
  (A 8 = q 15 ∧ A 9 = q 16 ∧ (q 16 ≠ 0 → A 10 = q 17) ∧ A 11 = (if q 16 = 0 then 0 else if q 16 = 1 then 1 else q 18)) ∧
  (A 12 = q 19 ∧ A 14 = q 29) ∧
  ((0 ≤ (A 13).toInt ∧ (A 13).toInt ≤ 4) ∧ (∀ j : Int, 0 ≤ j → j < (A 13).toInt → B 2 j.toNat = q (20 + j).toNat ∧ (q (24 + j).toNat = 1 ∧ B 3 j.toNat = 1 ∨ q (24 + j).toNat = -1 ∧ B 3 j.toNat = 0)) ∧ (∀ j : Int, (A 13).toInt ≤ j → j < 4 → q (24 + j).toNat = 0)) ∧
  ((q 19 = 2 → A 15 = q 28) ∧ (q 19 ≠ 2 → (1 ≤ (A 15).toInt ∧ (A 15).toInt ≤ 1000) ∧ (pWB (rowQ q) g = true → (A 15).toInt = reps (rowQ q)))) ∧
  (A 16 = q 30 ∧ A 17 = q 31 ∧ A 18 = q 32) ∧ A 5 = bI (pWB (rowQ q) g)
/-- nothing but the reader's own and the text's place and number are changed -/
abbrev rdFI : List Nat := [3, 4, 5, 6, 7, 8, 9, 10, 11, 12, 13, 14, 15, 16, 17, 18]
abbrev rdFR : List Nat := [1, 2, 3]
