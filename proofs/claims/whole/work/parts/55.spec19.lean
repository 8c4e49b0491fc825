/-! THE CLASS'S TEXT: what is read of it -/
def txC (A : Nat → Int32) (B : Nat → Nat → Int32) : Int → Int := fun p => if 0 ≤ p ∧ p < (A 2).toInt then (B 0 p.toNat).toInt else 0
def okTx (A : Nat → Int32) (B : Nat → Nat → Int32) : Prop := (0 ≤ (A 2).toInt ∧ (A 2).toInt ≤ 100) ∧ ∀ j : Int, 0 ≤ j → j < (A 2).toInt → 33 ≤ (B 0 j.toNat).toInt ∧ (B 0 j.toNat).toInt ≤ 126
theorem txC_in {A : Nat → Int32} {B : Nat → Nat → Int32} {p : Int} (h : 0 ≤ p ∧ p < (A 2).toInt) : txC A B p = (B 0 p.toNat).toInt := if_pos h
theorem txC_no {A : Nat → Int32} {B : Nat → Nat → Int32} {p : Int} (h : ¬ (0 ≤ p ∧ p < (A 2).toInt)) : txC A B p = 0 := if_neg h
theorem txC_bd {A : Nat → Int32} {B : Nat → Nat → Int32} (h : okTx A B) (p : Int) : 0 ≤ txC A B p ∧ txC A B p ≤ 126 := by
  by_cases q : 0 ≤ p ∧ p < (A 2).toInt
  · have := h.2 p q.1 q.2; rw [txC_in q]; omega
  · rw [txC_no q]; omega
theorem txC_lt {A : Nat → Int32} {B : Nat → Nat → Int32} {p : Int} (h : txC A B p ≠ 0) : 0 ≤ p ∧ p < (A 2).toInt := by
  by_cases q : 0 ≤ p ∧ p < (A 2).toInt
  · exact q
  · exact absurd (txC_no q) h
theorem txC_cg {A A1 : Nat → Int32} {B B1 : Nat → Nat → Int32} (h : A1 2 = A 2) (h0 : B1 0 = B 0) : txC A1 B1 = txC A B := by
  funext p
  unfold txC
  rw [h, h0]
theorem okTx.cg {A A1 : Nat → Int32} {B B1 : Nat → Nat → Int32} (o : okTx A B) (h : A1 2 = A 2) (h0 : B1 0 = B 0) : okTx A1 B1 := by
  unfold okTx
  rw [h, h0]
  exact o
theorem nar_ch : ∀ k : Nat, k < 127 → narrow .char (.int (i3 k)) = .int (i3 k) := by decide +kernel
theorem nar_c {x : Int32} {v : Int} (e : x.toInt = v) (h0 : 0 ≤ v) (h1 : v ≤ 126) : narrow .char (.int x) = .int x := by
  have h2 := nar_ch v.toNat (by omega)
  have h3 : i3 ((v.toNat : Nat) : Int) = x := by
    rw [show ((v.toNat : Nat) : Int) = x.toInt by omega]
    exact i3_i x
  rw [h3] at h2
  exact h2
theorem num_ge {T : Int → Int} (p : Int) : p ≤ (num T p).2 := numF_bd (T := T) 6 0 p
theorem numF_len {T : Int → Int} {L : Int} (hT : ∀ p : Int, T p ≠ 0 → p < L) : ∀ (k : Nat) (v p : Int), p ≤ L → (numF T k v p).2 ≤ L
  | 0, _, _, h => h
  | k + 1, v, p, h => by
    rw [numF]
    by_cases q : dg T p
    · rw [if_pos q]
      have := hT p (by unfold dg at q; omega)
      exact numF_len hT k _ _ (by omega)
    · rw [if_neg q]; exact h
theorem num_len {A : Nat → Int32} {B : Nat → Nat → Int32} {p : Int} (h : p ≤ (A 2).toInt) : (num (txC A B) p).2 ≤ (A 2).toInt := numF_len (fun _ q => (txC_lt q).2) 6 0 p h
/-- what a number's first digits make -/
theorem numF_pre {T : Int → Int} : ∀ (j : Nat) (v p : Int), 0 ≤ v → 0 ≤ (numF T j v p).1
  | 0, v, _, h => h
  | j + 1, v, p, h => by
    rw [numF]
    by_cases q : dg T p
    · rw [if_pos q]
      unfold dg at q
      exact numF_pre j _ _ (by omega)
    · rw [if_neg q]; exact h
theorem bI_nb (x : Bool) : vp_nar .boolean (bI x) = bI x := by cases x <;> rfl
