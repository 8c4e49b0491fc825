/-- the text that is read: 0 behind its end -/
def tx (I : Nat → Int32) (R : Nat → Nat → Int32) : Int → Int := fun p => if 0 ≤ p ∧ p < (I 10).toInt then (R 9 p.toNat).toInt else 0
theorem tx_cg {I J : Nat → Int32} {R S : Nat → Nat → Int32} (h : J 10 = I 10) (h2 : S 9 = R 9) : tx I R = tx J S := by unfold tx; rw [h, h2]
theorem tx_at {T : Int → Int} {I : Nat → Int32} {R : Nat → Nat → Int32} (hT : T = tx I R) {p c : Int} (hp : 0 ≤ p) (hc : c ≠ 0) : (p < (I 10).toInt ∧ (R 9 p.toNat).toInt = c) ↔ T p = c := by
  rw [hT]
  unfold tx
  by_cases q : 0 ≤ p ∧ p < (I 10).toInt
  · rw [if_pos q]; exact ⟨fun h => h.2, fun h => ⟨q.2, h⟩⟩
  · rw [if_neg q]; exact ⟨fun h => absurd ⟨hp, h.1⟩ q, fun h => absurd h.symm hc⟩
theorem tx_val {T : Int → Int} {I : Nat → Int32} {R : Nat → Nat → Int32} (hT : T = tx I R) {p : Int} (hp : 0 ≤ p) (hn : p < (I 10).toInt) : T p = (R 9 p.toNat).toInt := by
  rw [hT]
  unfold tx
  rw [if_pos ⟨hp, hn⟩]
theorem tx_lt {T : Int → Int} {I : Nat → Int32} {R : Nat → Nat → Int32} (hT : T = tx I R) {p : Int} (h : T p ≠ 0) : p < (I 10).toInt := by
  rw [hT] at h
  unfold tx at h
  by_cases q : 0 ≤ p ∧ p < (I 10).toInt
  · exact q.2
  · rw [if_neg q] at h; exact absurd rfl h
/-- a digit; a number of up to six of them, and where it ends -/
abbrev dg (T : Int → Int) (p : Int) : Prop := 48 ≤ T p ∧ T p ≤ 57
theorem tx_dg {T : Int → Int} {I : Nat → Int32} {R : Nat → Nat → Int32} (hT : T = tx I R) {p : Int} (hp : 0 ≤ p) : (p < (I 10).toInt ∧ 48 ≤ (R 9 p.toNat).toInt ∧ (R 9 p.toNat).toInt ≤ 57) ↔ dg T p := by
  unfold dg
  constructor
  · intro h; rw [tx_val hT hp h.1]; exact h.2
  · intro h
    have h1 := tx_lt hT (p := p) (by omega)
    rw [tx_val hT hp h1] at h
    exact ⟨h1, h⟩
def numF (T : Int → Int) : Nat → Int → Int → Int × Int
  | 0, v, p => (v, p)
  | k + 1, v, p => if dg T p then numF T k (10 * v + T p - 48) (p + 1) else (v, p)
def num (T : Int → Int) (p : Int) : Int × Int := numF T 6 0 p
theorem numF_s {T : Int → Int} {v p j : Int} (h : j < 6) (hd : dg T p) : numF T (6 - (j + 1)).toNat (10 * v + T p - 48) (p + 1) = numF T (6 - j).toNat v p := by
  rw [show (6 - j).toNat = (6 - (j + 1)).toNat + 1 by omega, numF, if_pos hd]
theorem numF_e {T : Int → Int} {v p : Int} (k : Nat) (hd : ¬ dg T p) : numF T k v p = (v, p) := by
  cases k with
  | zero => rfl
  | succ k => rw [numF, if_neg hd]
theorem numF_bd {T : Int → Int} : ∀ (k : Nat) (v p : Int), p ≤ (numF T k v p).2
  | 0, _, _ => Int.le_refl _
  | k + 1, v, p => by
    have := numF_bd (T := T) k (10 * v + T p - 48) (p + 1)
    rw [numF]
    split
    · omega
    · exact Int.le_refl _
theorem num_gt {T : Int → Int} {p : Int} (h : dg T p) : p < (num T p).2 := by
  have := numF_bd (T := T) 5 (10 * 0 + T p - 48) (p + 1)
  unfold num
  rw [numF, if_pos h]
  omega
theorem p10 (k : Nat) : (1 : Int) ≤ 10 ^ k := by
  induction k with
  | zero => decide
  | succ k ih => rw [Int.pow_succ]; omega
theorem num_v {T : Int → Int} (p : Int) : 0 ≤ (num T p).1 ∧ (num T p).1 ≤ 999999 := by
  have key : ∀ (k : Nat) (v p B : Int), 0 ≤ v → v + 1 ≤ B → 0 ≤ (numF T k v p).1 ∧ (numF T k v p).1 + 1 ≤ B * 10 ^ k := by
    intro k
    induction k with
    | zero => intro v p B h1 h2; rw [numF]; simp; omega
    | succ k ih =>
      intro v p B h1 h2
      rw [numF]
      have e : B * 10 ^ (k + 1) = (10 * B) * 10 ^ k := by rw [Int.pow_succ]; ac_rfl
      rw [e]
      split
      · next q =>
        unfold dg at q
        exact ih _ _ _ (by omega) (by omega)
      · have hp := p10 k
        have : 10 * B * 1 ≤ 10 * B * 10 ^ k := Int.mul_le_mul_of_nonneg_left hp (by omega)
        show 0 ≤ v ∧ v + 1 ≤ _
        omega
  have := key 6 0 p 1 (by omega) (by omega)
  unfold num
  omega
def row0 (j : Nat) : Int32 := if j = 32 then 4 else if j = 30 then 7 else 0
def i3 (v : Int) : Int32 := Int32.ofInt v
theorem i3_i (x : Int32) : i3 x.toInt = x := i_of x
