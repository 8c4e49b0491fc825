noncomputable def tk (pl : Int → Int) (nf d : Int) : Bool := @decide (∃ f : Int, 0 ≤ f ∧ f < nf ∧ pl f = d) (Classical.propDecidable _)
theorem tk_iff {pl : Int → Int} {nf d : Int} : tk pl nf d = true ↔ ∃ f : Int, 0 ≤ f ∧ f < nf ∧ pl f = d := by unfold tk; exact @decide_eq_true_iff _ (Classical.propDecidable _)
theorem taken_tk {R : Nat → Nat → Int32} {pl : Int → Int} {nf d : Int} (h : ∀ f : Int, 0 ≤ f → f < nf → (R 18 f.toNat).toInt = pl f) : taken R nf d = true ↔ tk pl nf d = true := by
  rw [taken_iff, tk_iff]
  exact ⟨fun ⟨f, a, b, c⟩ => ⟨f, a, b, (h f a b).symm.trans c⟩, fun ⟨f, a, b, c⟩ => ⟨f, a, b, (h f a b).trans c⟩⟩
/-- the first free day from a day on -/
noncomputable def frN (pl : Int → Int) (nf : Int) : Nat → Int → Int
  | 0, d => d
  | k + 1, d => if tk pl nf d = true then frN pl nf k (d + 1) else d
theorem frN_bd (pl : Int → Int) (nf : Int) : ∀ (k : Nat) (d : Int), d ≤ frN pl nf k d ∧ frN pl nf k d ≤ d + k
  | 0, d => by rw [frN]; omega
  | k + 1, d => by
    have := frN_bd pl nf k (d + 1)
    rw [frN]
    split <;> omega
theorem frN_s {pl : Int → Int} {nf x y : Int} (h : x < y) (ht : tk pl nf x = true) : frN pl nf (y - x).toNat x = frN pl nf (y - (x + 1)).toNat (x + 1) := by
  rw [show (y - x).toNat = (y - (x + 1)).toNat + 1 by omega, frN, if_pos ht]
theorem frN_e {pl : Int → Int} {nf x : Int} (k : Nat) (ht : ¬ tk pl nf x = true) : frN pl nf k x = x := by
  cases k with
  | zero => rfl
  | succ k => rw [frN, if_neg ht]
/-- how many of the first places lie from a day on below another -/
def cN (pl : Int → Int) (d e : Int) : Nat → Nat
  | 0 => 0
  | k + 1 => cN pl d e k + (if d ≤ pl k ∧ pl k < e then 1 else 0)
theorem cN_le (pl : Int → Int) (d e : Int) (k : Nat) : cN pl d e k ≤ k := by
  induction k with
  | zero => exact Nat.le_refl _
  | succ k ih => rw [cN]; split <;> omega
theorem cN_mono (pl : Int → Int) (d e : Int) (k : Nat) : cN pl d e k ≤ cN pl d (e + 1) k := by
  induction k with
  | zero => exact Nat.le_refl _
  | succ k ih =>
    rw [cN, cN]
    by_cases q : d ≤ pl k ∧ pl k < e
    · rw [if_pos q, if_pos (by omega)]; omega
    · rw [if_neg q]; omega
theorem cN_s {pl : Int → Int} {d e f : Int} (hd : d ≤ e) (hf : 0 ≤ f) (hp : pl f = e) : ∀ k : Nat, f < k → cN pl d e k + 1 ≤ cN pl d (e + 1) k
  | 0, h => by omega
  | k + 1, h => by
    rw [cN, cN]
    rcases (show f < (k : Int) ∨ f = k by omega) with q | q
    · have ih := cN_s hd hf hp k q
      by_cases q2 : d ≤ pl k ∧ pl k < e
      · rw [if_pos q2, if_pos (by omega)]; omega
      · rw [if_neg q2]; omega
    · have m := cN_mono pl d e k
      rw [← q, hp, if_neg (by omega), if_pos (by omega)]
      omega
theorem cN_0 (pl : Int → Int) (d : Int) (k : Nat) : (0 : Int) ≤ cN pl d d k := by omega
/-- a taken day means a further place -/
theorem cN_tk {pl : Int → Int} {nf d x : Int} (h : d ≤ x) (hc : x - d ≤ cN pl d x nf.toNat) (ht : tk pl nf x = true) : x + 1 - d ≤ cN pl d (x + 1) nf.toNat ∧ x + 1 - d ≤ nf := by
  obtain ⟨f, a, b, c⟩ := tk_iff.mp ht
  have s := cN_s h a c nf.toNat (by omega)
  have l := cN_le pl d (x + 1) nf.toNat
  omega
/-- the placed feasts: the first k of a rank, the ranks from 9 on -/
noncomputable def plI (rk days : Int → Int) (nf r : Int) (pl : Int → Int) : Nat → (Int → Int)
  | 0 => pl
  | k + 1 => if rk k = r ∧ days k ≠ -2147483647 then (fun j => if j = k then frN (plI rk days nf r pl k) nf 8 (days k) else plI rk days nf r pl k j) else plI rk days nf r pl k
noncomputable def plO (rk days : Int → Int) (nf : Int) : Nat → (Int → Int)
  | 0 => fun _ => -2147483647
  | k + 1 => plI rk days nf (9 - k) (plO rk days nf k) nf.toNat
noncomputable def plc (rk days : Int → Int) (nf : Int) : Int → Int := plO rk days nf 10
theorem plO_s {rk days : Int → Int} {nf r : Int} (h : 0 ≤ r ∧ r ≤ 9) : plO rk days nf (9 - (r + -1)).toNat = plI rk days nf r (plO rk days nf (9 - r).toNat) nf.toNat := by
  rw [show (9 - (r + -1)).toNat = (9 - r).toNat + 1 by omega, plO, show (9 - (((9 - r).toNat : Nat) : Int)) = r by omega]
theorem plI_n {rk days : Int → Int} {nf r f : Int} {pl : Int → Int} (hf : 0 ≤ f) (h : ¬ (rk f = r ∧ days f ≠ -2147483647)) : plI rk days nf r pl (f + 1).toNat = plI rk days nf r pl f.toNat := by
  rw [show (f + 1).toNat = f.toNat + 1 by omega, plI, show ((f.toNat : Nat) : Int) = f by omega, if_neg h]
theorem plI_p {rk days : Int → Int} {nf r f : Int} {pl : Int → Int} (hf : 0 ≤ f) (h : rk f = r ∧ days f ≠ -2147483647) (j : Int) : plI rk days nf r pl (f + 1).toNat j = if j = f then frN (plI rk days nf r pl f.toNat) nf 8 (days f) else plI rk days nf r pl f.toNat j := by
  rw [show (f + 1).toNat = f.toNat + 1 by omega, plI, show ((f.toNat : Nat) : Int) = f by omega, if_pos h]
/-- the first place with a day -/
def ffN (pl : Int → Int) (d n : Int) : Nat → Int
  | 0 => -1
  | k + 1 => if pl (n - (k + 1)) = d then n - (k + 1) else ffN pl d n k
theorem ffN_s {pl : Int → Int} {d n f : Int} (h : f < n) : ffN pl d n (n - f).toNat = if pl f = d then f else ffN pl d n (n - (f + 1)).toNat := by
  rw [show (n - f).toNat = (n - (f + 1)).toNat + 1 by omega, ffN, show n - (((n - (f + 1)).toNat : Int) + 1) = f by omega]
/-- the first year of some in which two days meet -/
def mtN (A B : Int → Int) (e : Int) : Nat → Int
  | 0 => -2147483647
  | k + 1 => if A (e - (k + 1)) ≠ -2147483647 ∧ A (e - (k + 1)) = B (e - (k + 1)) then e - (k + 1) else mtN A B e k
theorem mtN_s {A B : Int → Int} {e y : Int} (h : y < e) : mtN A B e (e - y).toNat = if A y ≠ -2147483647 ∧ A y = B y then y else mtN A B e (e - (y + 1)).toNat := by
  rw [show (e - y).toNat = (e - (y + 1)).toNat + 1 by omega, mtN, show e - (((e - (y + 1)).toNat : Int) + 1) = y by omega]
