/-! what months and the first day leave of the flag -/
theorem sMore_g (T : Int → Int) : ∀ (k : Nat) (p : Int) (q : Nat → Int32) (g : Bool), (sMore T k p q g).2.2.2 = g
  | 0, _, _, _ => rfl
  | k + 1, p, q, g => by
    rw [sMore]
    by_cases c : T p = 44
    · rw [if_pos c]
      by_cases c2 : dg T (p + 1)
      · rw [if_pos c2]; exact sMore_g T k _ _ g
      · rw [if_neg c2]
    · rw [if_neg c]
theorem sMonths_g (T : Int → Int) (p : Int) (q : Nat → Int32) (g : Bool) : (sMonths T p q g).2.2.2 = g := by
  unfold sMonths
  by_cases c : T p = 109
  · rw [if_pos c]
    by_cases c2 : dg T (p + 1)
    · rw [if_pos c2]; exact sMore_g T 13 _ _ g
    · rw [if_neg c2]
  · rw [if_neg c]
theorem sFirst_g (T : Int → Int) (p : Int) (q : Nat → Int32) (g : Bool) : (sFirst T p q g).2.2.2 = g := by
  unfold sFirst
  by_cases c : T p = 59
  · rw [if_pos c]
    by_cases c2 : T (p + 1) = 101
    · rw [if_pos c2]
      by_cases c3 : dg T (if T (p + 1 + 1) = 45 then p + 1 + 1 + 1 else p + 1 + 1)
      · rw [if_pos c3]
      · rw [if_neg c3]
    · rw [if_neg c2]
  · rw [if_neg c]
/-- leap years by the divisors that were read -/
theorem rdC_sgn {q : Nat → Int32} {g : Bool} {A : Nat → Int32} {B : Nat → Nat → Int32} (h : rdC q g A B) (yr : Int) : ∀ k : Nat, (A 13).toInt ≤ (k : Int) → k ≤ 4 → sgn (rowQ q) yr k = sgn (rowQ q) yr (A 13).toInt.toNat := by
  have d := h.2.2.2.2.2.1
  intro k
  induction k with
  | zero => intro y _; rw [show (A 13).toInt.toNat = 0 by omega]
  | succ k ih =>
    intro y z
    rcases (show (A 13).toInt = ((k + 1 : Nat) : Int) ∨ (A 13).toInt ≤ (k : Int) by omega) with u | u
    · rw [show (A 13).toInt.toNat = k + 1 by omega]
    · rw [sgn, if_neg (fun w => w.1 (by rw [rowQ_v (by omega), d.2.2 k u (by omega)]; rfl))]
      exact ih u (by omega)
theorem rdC_lp {q : Nat → Int32} {g : Bool} {A : Nat → Int32} {B : Nat → Nat → Int32} (h : rdC q g A B) (ho : okRow (rowQ q)) (h2 : ¬ rv (rowQ q) 19 = 2) (yr : Int) : leapP (rowQ q) yr ↔ 0 < sgn (rowQ q) yr (A 13).toInt.toNat := by
  have d := h.2.2.2.2.2.1
  have e := rdC_sgn h yr 4 (by omega) (by omega)
  unfold leapP
  rw [if_neg h2, e]
  refine ⟨fun y => y.2, fun y => ⟨?_, y⟩⟩
  rcases (show (A 13).toInt = 0 ∨ 0 < (A 13).toInt by omega) with u | u
  · exfalso
    rw [u] at y
    exact absurd (show (0 : Int) < -1 from y) (by decide)
  · have h1 := d.2.1 0 (by omega) u
    exact (ho.2.2.2.2.2.2.2.2.1 0 (by omega) (by omega) (by rw [rowQ_v (by omega)]; rcases h1.2 with y | y <;> rw [y.1] <;> decide)).2.2
