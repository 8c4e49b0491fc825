/-! numbers: an int's value as a whole number -/
theorem i_le (a b : Int32) : a ≤ b ↔ a.toInt ≤ b.toInt := Int32.le_iff_toInt_le
theorem i_lt (a b : Int32) : a < b ↔ a.toInt < b.toInt := Int32.lt_iff_toInt_lt
theorem i_eq (a b : Int32) : a = b ↔ a.toInt = b.toInt := Int32.toInt_inj.symm
theorem i_rng (x : Int32) : -2147483648 ≤ x.toInt ∧ x.toInt < 2147483648 := ⟨Int32.le_toInt x, Int32.toInt_lt x⟩
theorem i_bm (z : Int) : z.bmod (2 ^ 32) = (z + 2147483648) % 4294967296 - 2147483648 := by
  rw [Int.bmod_def]
  split <;> omega
theorem i_add (a b : Int32) : (a + b).toInt = (a.toInt + b.toInt + 2147483648) % 4294967296 - 2147483648 := by rw [Int32.toInt_add, i_bm]
theorem i_sub (a b : Int32) : (a - b).toInt = (a.toInt - b.toInt + 2147483648) % 4294967296 - 2147483648 := by rw [Int32.toInt_sub, i_bm]
theorem i_mul (a b : Int32) : (a * b).toInt = (a.toInt * b.toInt + 2147483648) % 4294967296 - 2147483648 := by rw [Int32.toInt_mul, i_bm]
theorem i_neg (a : Int32) : (-a).toInt = (-a.toInt + 2147483648) % 4294967296 - 2147483648 := by rw [Int32.toInt_neg, i_bm]
theorem i_nat (n : Nat) (h : n < 2147483648) : (OfNat.ofNat n : Int32).toInt = (n : Int) := by
  show (Int32.ofNat n).toInt = n
  exact nI_toInt (by omega)
theorem tn_int {x : Int32} (h : 0 ≤ x.toInt) : (x.toNatClampNeg : Int) = x.toInt := by
  show ((x.toInt.toNat : Nat) : Int) = x.toInt
  omega
theorem tn_eq {x : Int32} {k : Nat} (h : x.toInt = k) : x.toNatClampNeg = k := by
  have := tn_int (x := x) (by omega)
  omega
/-- sums and products that don't run over -/
theorem t_add {a b : Int32} {x y : Int} (ha : a.toInt = x) (hb : b.toInt = y) (h1 : -2147483648 ≤ x + y) (h2 : x + y < 2147483648) : (a + b).toInt = x + y := by rw [i_add, ha, hb]; omega
theorem t_sub {a b : Int32} {x y : Int} (ha : a.toInt = x) (hb : b.toInt = y) (h1 : -2147483648 ≤ x - y) (h2 : x - y < 2147483648) : (a - b).toInt = x - y := by rw [i_sub, ha, hb]; omega
theorem t_mul {a b : Int32} {x y : Int} (ha : a.toInt = x) (hb : b.toInt = y) (h1 : -2147483648 ≤ x * y) (h2 : x * y < 2147483648) : (a * b).toInt = x * y := by rw [i_mul, ha, hb]; omega
theorem bI_t {P : Prop} [Decidable P] : (¬ bI (decide P) = 0) ↔ P := by rw [bI_ne]; exact decide_eq_true_iff
theorem bI_f {P : Prop} [Decidable P] : bI (decide P) = 0 ↔ ¬ P := by rw [bI_eq]; exact decide_eq_false_iff_not
theorem bI_1 {P : Prop} [Decidable P] (h : P) : 1 = bI (decide P) := by rw [decide_eq_true h]; rfl
theorem bI_0 {P : Prop} [Decidable P] (h : ¬ P) : 0 = bI (decide P) := by rw [decide_eq_false h]; rfl
theorem bI_c {P Q : Prop} [Decidable P] [Decidable Q] (h : P ↔ Q) : bI (decide P) = bI (decide Q) := by rw [decide_eq_decide.mpr h]
theorem bI_fit (x : Bool) : fits .boolean (.int (bI x)) = true := by cases x <;> rfl
/-- a loop by a number that falls -/
theorem q_loop {α : Type} (P : α → Prop) (μ : α → Nat) (G : α → Prop) (h : ∀ a, P a → (∀ a', P a' → μ a' < μ a → G a') → G a) : ∀ a, P a → G a := by
  have key : ∀ (k : Nat) (a : α), μ a < k → P a → G a := by
    intro k
    induction k with
    | zero => intro a h1; exact absurd h1 (Nat.not_lt_zero _)
    | succ k ih => intro a h1 hp; exact h a hp (fun a' hp' hlt => ih a' (by omega) hp')
  exact fun a hp => key (μ a + 1) a (Nat.lt_succ_self _) hp
section QT
variable {p : Program} {l : Launch} {e : Env} {R : Room} {s : State} {m : MethodId} {args : Array Value} {below : List Frame} {meth : Method} {c : Code} {H : Heap} {locs : List Loc} {cells slots : Nat} {Q : State → Prop} {pc : Nat} {ls : Array Slot} {rest : List Value}
theorem q_topE {x y : Int32} (h : x = y) (k : W p l e R s m args below meth c H locs cells slots Q (F0 m pc ls (.int y :: rest))) : W p l e R s m args below meth c H locs cells slots Q (F0 m pc ls (.int x :: rest)) := h ▸ k
end QT
theorem t_neg {a : Int32} {x : Int} (ha : a.toInt = x) (h : -2147483648 < x) : (-a).toInt = -x := by
  have := i_rng a
  rw [i_neg, ha]; omega
theorem g_le {a b : Int32} {x y : Int} (ha : a.toInt = x) (hb : b.toInt = y) : a ≤ b ↔ x ≤ y := by rw [i_le, ha, hb]
theorem g_lt {a b : Int32} {x y : Int} (ha : a.toInt = x) (hb : b.toInt = y) : a < b ↔ x < y := by rw [i_lt, ha, hb]
theorem g_eq {a b : Int32} {x y : Int} (ha : a.toInt = x) (hb : b.toInt = y) : a = b ↔ x = y := by rw [i_eq, ha, hb]
theorem g_in {i : Int32} {z : Int} {N : Nat} (hi : i.toInt = z) (h : 0 ≤ z ∧ z < N) : vp_in i N := by rw [vp_in_iff, hi]; exact h
theorem g_tn {i : Int32} {z : Int} (hi : i.toInt = z) : i.toNatClampNeg = z.toNat := by rw [← hi]; rfl
theorem g_ne0 {i : Int32} {z : Int} (hi : i.toInt = z) (h : z ≠ 0) : ¬ i = 0 := fun e => h (by rw [← hi, e]; rfl)
theorem t_div {a b : Int32} {x y : Int} (ha : a.toInt = x) (hb : b.toInt = y) (hx : 0 ≤ x) (hy : 0 < y) : (a / b).toInt = x / y := by
  have h1 := i_rng a
  have h3 : x / y ≤ x := Int.ediv_le_self _ hx
  have h4 : 0 ≤ x / y := Int.ediv_nonneg hx (by omega)
  rw [Int32.toInt_div, ha, hb, Int.tdiv_eq_ediv_of_nonneg hx, i_bm]
  omega
theorem t_rem {a b : Int32} {x y : Int} (ha : a.toInt = x) (hb : b.toInt = y) (hx : 0 ≤ x) (hy : 0 < y) : (a - a / b * b).toInt = x % y := by
  have h1 := i_rng a
  have h3 : x / y ≤ x := Int.ediv_le_self _ hx
  have h4 : 0 ≤ x / y := Int.ediv_nonneg hx (by omega)
  have h5 : x / y * y ≤ x := Int.ediv_mul_le x (by omega)
  have h6 : 0 ≤ x / y * y := Int.mul_nonneg h4 (by omega)
  have h7 := Int.emod_def x y
  rw [Int.mul_comm] at h7
  have q1 : (a / b * b).toInt = x / y * y := t_mul (t_div ha hb hx hy) hb (by omega) (by omega)
  rw [t_sub ha q1 (by omega) (by omega), h7]
theorem i_of (x : Int32) : Int32.ofInt x.toInt = x := Int32.toInt_inj.mp (by rw [Int32.toInt_ofInt, i_bm]; have := i_rng x; omega)
