/-- what was read is possible -/
def possR (ρ : Row) (g : Bool) : Prop :=
  (∀ k : Int, 0 ≤ k → k < rv ρ 0 → 1 ≤ rv ρ (1 + k) ∧ rv ρ (1 + k) ≤ 60) ∧ 30 ≤ sumL ρ (rv ρ 0).toNat ∧ (-500000 ≤ rv ρ 15 ∧ rv ρ 15 ≤ 500000) ∧ (rv ρ 16 ≠ 0 → 1 ≤ rv ρ 17 ∧ rv ρ 17 ≤ rv ρ 0) ∧ (rv ρ 16 = 2 → 1 ≤ rv ρ 18 ∧ rv ρ 18 ≤ 60) ∧
  (∀ k : Int, 0 ≤ k → k < 4 → rv ρ (24 + k) ≠ 0 → 1 ≤ rv ρ (20 + k) ∧ rv ρ (20 + k) ≤ 400) ∧ (rv ρ 19 = 2 → (1 ≤ rv ρ 28 ∧ rv ρ 28 ≤ 30) ∧ g = false) ∧ reps ρ ≠ 0 ∧ (2 ≤ rv ρ 30 ∧ rv ρ 30 ≤ 10) ∧ rv ρ 31 < rv ρ 30 ∧ 1 ≤ rv ρ 32 ∧ rv ρ 32 ≤ rv ρ 30
noncomputable def possB (ρ : Row) (g : Bool) : Bool := @decide (possR ρ g) (Classical.propDecidable _)
theorem possB_iff {ρ : Row} {g : Bool} : possB ρ g = true ↔ possR ρ g := by unfold possB; exact @decide_eq_true_iff _ (Classical.propDecidable _)
theorem rowM_rowR {R S : Nat → Nat → Int32} {ca : Int} (h : ∀ k : Int, 0 ≤ k → k < 33 → S 2 ((33 * ca) + k).toNat = R 3 k.toNat) : rowM S ca = rowR R := by
  funext k
  unfold rowM rowR
  by_cases q : 0 ≤ k ∧ k < 33
  · rw [if_pos q, if_pos q]; exact h k q.1 q.2
  · rw [if_neg q, if_neg q]
theorem rowM_out {R S : Nat → Nat → Int32} {ca c : Int} (hc : c ≠ ca) (h0 : 0 ≤ c) (h1 : 0 ≤ ca) (h : ∀ j : Nat, ((j : Int) < 33 * ca ∨ 33 * ca + 33 ≤ (j : Int)) → S 2 j = R 2 j) : rowM S c = rowM R c := by
  funext k
  unfold rowM
  by_cases q : 0 ≤ k ∧ k < 33
  · rw [if_pos q, if_pos q]; exact h _ (by omega)
  · rw [if_neg q, if_neg q]
theorem okF_out {R S : Nat → Nat → Int32} {ca c : Int} (hc : c ≠ ca) (h0 : 0 ≤ c) (h1 : 0 ≤ ca) (hr : rowM S c = rowM R c) (h : ∀ j : Nat, ((j : Int) < 4042 * ca ∨ 4042 * ca + 4042 ≤ (j : Int)) → S 4 j = R 4 j) (o : okF R c) : okF S c := fun y a b => by
  rw [hr, h _ (by omega)]
  exact o y a b
theorem up_s2 {R : Nat → Nat → Int32} {k : Nat} {f : Nat → Int32} {i j : Nat} {v : Int32} (h : j = i) : va_up R k (upd f i v) k j = v := by rw [h]; exact up_s R k f i v
