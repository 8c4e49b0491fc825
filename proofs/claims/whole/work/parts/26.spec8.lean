/-- readings: calendar, order, day; one comes in from behind -/
abbrev Ent : Type := Int × Int × Int
def insF (q : Nat → Ent) (x : Ent) : Nat → (Nat → Ent)
  | 0 => fun j => if j = 0 then x else q j
  | n + 1 => if x.2.2 < (q n).2.2 then (fun j => if j = n + 1 then q n else insF q x n j) else (fun j => if j = n + 1 then x else q j)
theorem insF_cg {q q' : Nat → Ent} {x : Ent} : ∀ n : Nat, (∀ j, j < n → q j = q' j) → ∀ j, j ≤ n → insF q x n j = insF q' x n j
  | 0, _, j, hj => by
    rw [insF, insF]
    show (if j = 0 then x else q j) = (if j = 0 then x else q' j)
    rw [if_pos (by omega), if_pos (by omega)]
  | n + 1, h, j, hj => by
    rw [insF, insF, h n (by omega)]
    by_cases e : x.2.2 < (q' n).2.2
    · rw [if_pos e, if_pos e]
      show (if j = n + 1 then q' n else insF q x n j) = (if j = n + 1 then q' n else insF q' x n j)
      by_cases e2 : j = n + 1
      · rw [if_pos e2, if_pos e2]
      · rw [if_neg e2, if_neg e2]; exact insF_cg n (fun i hi => h i (by omega)) j (by omega)
    · rw [if_neg e, if_neg e]
      show (if j = n + 1 then x else q j) = (if j = n + 1 then x else q' j)
      by_cases e2 : j = n + 1
      · rw [if_pos e2, if_pos e2]
      · rw [if_neg e2, if_neg e2]; exact h j (by omega)
theorem insF_gt {q : Nat → Ent} {x : Ent} {n : Nat} (h : x.2.2 < (q n).2.2) (j : Nat) : insF q x (n + 1) j = if j = n + 1 then q n else insF q x n j := by rw [insF, if_pos h]
theorem insF_le {q : Nat → Ent} {x : Ent} {n : Nat} (h : n = 0 ∨ ¬ x.2.2 < (q (n - 1)).2.2) (j : Nat) (hj : j ≤ n) : insF q x n j = if j = n then x else q j := by
  cases n with
  | zero => rw [insF]
  | succ n =>
    rcases h with h | h
    · omega
    · rw [insF, if_neg (show ¬ x.2.2 < (q n).2.2 from h)]
/-- the readings of three numbers over some calendars -/
def rY (o a c : Int) : Int := if o = 2 then a else c
def rM (o a b : Int) : Int := if o = 1 then a else b
def rD (o a b c : Int) : Int := if o = 0 then a else if o = 1 then b else c
def datd (ρ : Row) (y m d : Int) : Prop := (((-2000 ≤ y ∧ y ≤ 2000) ∧ 1 ≤ m ∧ m ≤ mcnt ρ y) ∧ 1 ≤ d ∧ d ≤ mlen ρ y m) ∧ -999999 ≤ dnum ρ y m d ∧ dnum ρ y m d ≤ 999999
noncomputable def rdS (rw_ : Int → Row) (a b c : Int) (ca o : Int) (s : (Nat → Ent) × Nat) : (Nat → Ent) × Nat :=
  @ite _ (datd (rw_ ca) (rY o a c) (rM o a b) (rD o a b c)) (Classical.propDecidable _) (insF s.1 (ca, o, dnum (rw_ ca) (rY o a c) (rM o a b) (rD o a b c)) s.2, s.2 + 1) s
noncomputable def rdN (rw_ : Int → Row) (a b c : Int) : Nat → (Nat → Ent) × Nat
  | 0 => (fun _ => (0, 0, 0), 0)
  | i + 1 => rdS rw_ a b c ((i / 3 : Nat) : Int) ((i % 3 : Nat) : Int) (rdN rw_ a b c i)
theorem rdN_bd (rw_ : Int → Row) (a b c : Int) (i : Nat) : (rdN rw_ a b c i).2 ≤ i := by
  induction i with
  | zero => exact Nat.le_refl _
  | succ i ih =>
    rw [rdN]
    unfold rdS
    split
    · show (rdN rw_ a b c i).2 + 1 ≤ i + 1; omega
    · omega
theorem rdN_s (rw_ : Int → Row) (a b c : Int) {ca o : Int} (h1 : 0 ≤ ca) (h2 : 0 ≤ o ∧ o < 3) : rdN rw_ a b c (3 * ca + (o + 1)).toNat = rdS rw_ a b c ca o (rdN rw_ a b c (3 * ca + o).toNat) := by
  rw [show (3 * ca + (o + 1)).toNat = (3 * ca + o).toNat + 1 by omega, rdN, show ((((3 * ca + o).toNat / 3 : Nat)) : Int) = ca by omega, show ((((3 * ca + o).toNat % 3 : Nat)) : Int) = o by omega]
theorem rdS_p {rw_ : Int → Row} {a b c ca o : Int} {s : (Nat → Ent) × Nat} (h : datd (rw_ ca) (rY o a c) (rM o a b) (rD o a b c)) : rdS rw_ a b c ca o s = (insF s.1 (ca, o, dnum (rw_ ca) (rY o a c) (rM o a b) (rD o a b c)) s.2, s.2 + 1) := by unfold rdS; rw [if_pos h]
theorem rdS_n {rw_ : Int → Row} {a b c ca o : Int} {s : (Nat → Ent) × Nat} (h : ¬ datd (rw_ ca) (rY o a c) (rM o a b) (rD o a b c)) : rdS rw_ a b c ca o s = s := by unfold rdS; rw [if_neg h]
/-- the rows of readings of the reference -/
def entM (R : Nat → Nat → Int32) (j : Nat) : Ent := ((R 20 j).toInt, (R 21 j).toInt, (R 22 j).toInt)
def rdP (R : Nat → Nat → Int32) (s : (Nat → Ent) × Nat) : Prop := ∀ j : Nat, j < s.2 → entM R j = s.1 j
theorem entM_s {R : Nat → Nat → Int32} {f g h : Nat → Int32} {i : Nat} {u v w : Int32} : entM (va_up (va_up (va_up R 20 (upd f i u)) 21 (upd g i v)) 22 (upd h i w)) i = (u.toInt, v.toInt, w.toInt) := by
  simp [entM, va_up, upd]
theorem entM_n {R : Nat → Nat → Int32} {i j : Nat} {u v w : Int32} (hj : j ≠ i) : entM (va_up (va_up (va_up R 20 (upd (R 20) i u)) 21 (upd (R 21) i v)) 22 (upd (R 22) i w)) j = entM R j := by
  simp [entM, va_up, upd, hj]
theorem rd_step {R S : Nat → Nat → Int32} {q : Nat → Ent} {x : Ent} {N : Nat} {k : Int} (a : ∀ j : Nat, (j : Int) < k → entM R j = q j) (b : ∀ j : Nat, k < (j : Int) → j ≤ N → entM R j = insF q x N j) (c : ∀ j : Nat, (j : Int) ≤ k → insF q x N j = insF q x k.toNat j)
    (h : x.2.2 < (q (k - 1).toNat).2.2) (hk : 0 < k) (e1 : entM S k.toNat = entM R (k - 1).toNat) (e2 : ∀ j : Nat, j ≠ k.toNat → entM S j = entM R j) :
    (∀ j : Nat, (j : Int) < k + -1 → entM S j = q j) ∧ (∀ j : Nat, k + -1 < (j : Int) → j ≤ N → entM S j = insF q x N j) ∧ (∀ j : Nat, (j : Int) ≤ k + -1 → insF q x N j = insF q x (k + -1).toNat j) := by
  have g : ∀ j : Nat, insF q x k.toNat j = if j = k.toNat then q (k - 1).toNat else insF q x (k + -1).toNat j := fun j => by
    rw [show k.toNat = (k - 1).toNat + 1 by omega, insF_gt h, show (k + -1).toNat = (k - 1).toNat by omega]
  refine ⟨fun j hj => (e2 j (by omega)).trans (a j (by omega)), fun j hj hN => ?_, fun j hj => ?_⟩
  · by_cases e : j = k.toNat
    · rw [e, e1, a _ (by omega), c _ (by omega), g, if_pos rfl]
    · rw [e2 j e]; exact b j (by omega) hN
  · rw [c j (by omega), g, if_neg (by omega)]
theorem rd_end {R S : Nat → Nat → Int32} {q : Nat → Ent} {x : Ent} {N : Nat} {k : Int} (a : ∀ j : Nat, (j : Int) < k → entM R j = q j) (b : ∀ j : Nat, k < (j : Int) → j ≤ N → entM R j = insF q x N j) (c : ∀ j : Nat, (j : Int) ≤ k → insF q x N j = insF q x k.toNat j)
    (h : k ≤ 0 ∨ ¬ x.2.2 < (q (k - 1).toNat).2.2) (hk : 0 ≤ k) (e1 : entM S k.toNat = x) (e2 : ∀ j : Nat, j ≠ k.toNat → entM S j = entM R j) : rdP S (insF q x N, N + 1) := by
  intro j hj
  show entM S j = insF q x N j
  have hj2 : j < N + 1 := hj
  have g : ∀ j : Nat, j ≤ k.toNat → insF q x k.toNat j = if j = k.toNat then x else q j := fun j hj => insF_le (by
    rcases h with h | h
    · exact Or.inl (by omega)
    · exact Or.inr (by rw [show k.toNat - 1 = (k - 1).toNat by omega]; exact h)) j hj
  by_cases e : j = k.toNat
  · rw [e, e1, c _ (by omega), g _ (Nat.le_refl _), if_pos rfl]
  · rw [e2 j e]
    rcases (show (j : Int) < k ∨ k < (j : Int) by omega) with z | z
    · rw [a j z, c j (by omega), g j (by omega), if_neg e]
    · exact b j z (by omega)
