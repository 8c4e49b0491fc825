/-! THE CALENDAR'S NUMBERS, as both sides have them: a row of 33 ints (by whole-number places) -/
abbrev Row : Type := Int → Int32
def rv (ρ : Row) (k : Int) : Int := (ρ k).toInt
/-- the row of a calendar of the reference -/
def rowM (Rw : Nat → Nat → Int32) (ca : Int) : Row := fun k => Rw 2 (33 * ca + k).toNat
/-- the sign of the last of the first k divisors that divides the year -/
def sgn (ρ : Row) (y : Int) : Nat → Int
  | 0 => -1
  | k + 1 => if rv ρ (24 + k) ≠ 0 ∧ y % rv ρ (20 + k) = 0 then rv ρ (24 + k) else sgn ρ y k
def bitAt (x k : Int32) : Prop := ((x >>> (k &&& 31)) &&& 1) = 1
def leapP (ρ : Row) (y : Int) : Prop := if rv ρ 19 = 2 then bitAt (ρ 29) (Int32.ofInt (y % rv ρ 28)) else rv ρ 19 = 1 ∧ 0 < sgn ρ y 4
noncomputable def leap (ρ : Row) (y : Int) : Bool := @decide (leapP ρ y) (Classical.propDecidable _)
theorem leap_iff {ρ : Row} {y : Int} : leap ρ y = true ↔ leapP ρ y := by unfold leap; exact @decide_eq_true_iff _ (Classical.propDecidable _)
def sumL (ρ : Row) : Nat → Int
  | 0 => 0
  | k + 1 => sumL ρ k + rv ρ (1 + k)
noncomputable def ylen (ρ : Row) (y : Int) : Int := sumL ρ (rv ρ 0).toNat + (if rv ρ 16 = 0 ∨ leap ρ y = false then 0 else if rv ρ 16 = 1 then 1 else rv ρ 18)
noncomputable def fstP (ρ : Row) : Nat → Int
  | 0 => rv ρ 15
  | k + 1 => fstP ρ k + ylen ρ (1 + k)
noncomputable def fstN (ρ : Row) : Nat → Int
  | 0 => rv ρ 15
  | k + 1 => fstN ρ k - ylen ρ (-k)
/-- the first day of a year -/
noncomputable def fst (ρ : Row) (y : Int) : Int := if 1 ≤ y then fstP ρ (y - 1).toNat else fstN ρ (1 - y).toNat
theorem fst_1 {ρ : Row} : fst ρ 1 = rv ρ 15 := rfl
theorem fst_succ (ρ : Row) (y : Int) : fst ρ (y + 1) = fst ρ y + ylen ρ y := by
  unfold fst
  by_cases h : 1 ≤ y
  · rw [if_pos h, if_pos (by omega)]
    have e : (y + 1 - 1).toNat = (y - 1).toNat + 1 := by omega
    rw [e, fstP]
    congr 2
    omega
  · rw [if_neg h]
    by_cases h0 : y = 0
    · subst h0
      show rv ρ 15 = rv ρ 15 - ylen ρ (-((0 : Nat) : Int)) + ylen ρ 0
      simp
    · rw [if_neg (by omega)]
      have e : (1 - y).toNat = (1 - (y + 1)).toNat + 1 := by omega
      rw [e, fstN]
      have e2 : (-((1 - (y + 1)).toNat : Int)) = y := by omega
      rw [e2]
      omega
/-- a row that a calendar can have -/
def okRow (ρ : Row) : Prop :=
  (1 ≤ rv ρ 0 ∧ rv ρ 0 ≤ 14) ∧ (∀ k : Int, 0 ≤ k → k < rv ρ 0 → 1 ≤ rv ρ (1 + k) ∧ rv ρ (1 + k) ≤ 60) ∧ 30 ≤ sumL ρ (rv ρ 0).toNat ∧ (-500000 ≤ rv ρ 15 ∧ rv ρ 15 ≤ 500000) ∧
  (0 ≤ rv ρ 16 ∧ rv ρ 16 ≤ 2) ∧ (rv ρ 16 ≠ 0 → 1 ≤ rv ρ 17 ∧ rv ρ 17 ≤ rv ρ 0) ∧ (rv ρ 16 = 2 → 1 ≤ rv ρ 18 ∧ rv ρ 18 ≤ 60) ∧ (0 ≤ rv ρ 19 ∧ rv ρ 19 ≤ 2) ∧
  (∀ k : Int, 0 ≤ k → k < 4 → rv ρ (24 + k) ≠ 0 → (1 ≤ rv ρ (20 + k) ∧ rv ρ (20 + k) ≤ 400) ∧ (rv ρ (24 + k) = 1 ∨ rv ρ (24 + k) = -1) ∧ rv ρ 19 = 1) ∧ (rv ρ 19 = 2 → 1 ≤ rv ρ 28 ∧ rv ρ 28 ≤ 30) ∧
  (2 ≤ rv ρ 30 ∧ rv ρ 30 ≤ 10) ∧ (0 ≤ rv ρ 31 ∧ rv ρ 31 < rv ρ 30) ∧ (1 ≤ rv ρ 32 ∧ rv ρ 32 ≤ rv ρ 30)
theorem sumL_bd {ρ : Row} (h : ∀ k : Int, 0 ≤ k → k < rv ρ 0 → 1 ≤ rv ρ (1 + k) ∧ rv ρ (1 + k) ≤ 60) : ∀ (k : Nat), (k : Int) ≤ rv ρ 0 → (k : Int) ≤ sumL ρ k ∧ sumL ρ k ≤ 60 * k
  | 0, _ => by simp [sumL]
  | k + 1, hk => by
    have h1 := sumL_bd h k (by omega)
    have h2 := h k (by omega) (by omega)
    rw [sumL]
    omega
theorem okRow.months {ρ : Row} (h : okRow ρ) : 1 ≤ rv ρ 0 ∧ rv ρ 0 ≤ 14 := h.1
theorem okRow.sum {ρ : Row} (h : okRow ρ) : 30 ≤ sumL ρ (rv ρ 0).toNat ∧ sumL ρ (rv ρ 0).toNat ≤ 840 := by
  have h1 := sumL_bd h.2.1 (rv ρ 0).toNat (by have := h.1; omega)
  have := h.1
  exact ⟨h.2.2.1, by omega⟩
theorem okRow.yl {ρ : Row} (h : okRow ρ) (y : Int) : 30 ≤ ylen ρ y ∧ ylen ρ y ≤ 900 := by
  have h1 := h.sum
  have h2 := h.2.2.2.2.2.2.1
  have h3 := h.2.2.2.2.1
  unfold ylen
  split
  · omega
  · split
    · omega
    · have := h2 (by omega); omega
theorem okRow.div {ρ : Row} (h : okRow ρ) {k : Int} (h0 : 0 ≤ k) (h1 : k < 4) (h2 : rv ρ (24 + k) ≠ 0) : 1 ≤ rv ρ (20 + k) ∧ rv ρ (20 + k) ≤ 400 := (h.2.2.2.2.2.2.2.2.1 k h0 h1 h2).1
theorem okRow.cyc {ρ : Row} (h : okRow ρ) (h2 : rv ρ 19 = 2) : 1 ≤ rv ρ 28 ∧ rv ρ 28 ≤ 30 := h.2.2.2.2.2.2.2.2.2.1 h2
theorem okRow.wk {ρ : Row} (h : okRow ρ) : (2 ≤ rv ρ 30 ∧ rv ρ 30 ≤ 10) ∧ (0 ≤ rv ρ 31 ∧ rv ρ 31 < rv ρ 30) ∧ (1 ≤ rv ρ 32 ∧ rv ρ 32 ≤ rv ρ 30) := h.2.2.2.2.2.2.2.2.2.2
theorem okRow.e {ρ : Row} (h : okRow ρ) : -500000 ≤ rv ρ 15 ∧ rv ρ 15 ≤ 500000 := h.2.2.2.1
theorem okRow.lk {ρ : Row} (h : okRow ρ) : 0 ≤ rv ρ 16 ∧ rv ρ 16 ≤ 2 := h.2.2.2.2.1
theorem okRow.lm {ρ : Row} (h : okRow ρ) (h2 : rv ρ 16 ≠ 0) : 1 ≤ rv ρ 17 ∧ rv ρ 17 ≤ rv ρ 0 := h.2.2.2.2.2.1 h2
theorem okRow.ll {ρ : Row} (h : okRow ρ) (h2 : rv ρ 16 = 2) : 1 ≤ rv ρ 18 ∧ rv ρ 18 ≤ 60 := h.2.2.2.2.2.2.1 h2
theorem okRow.ml {ρ : Row} (h : okRow ρ) {k : Int} (h0 : 0 ≤ k) (h1 : k < rv ρ 0) : 1 ≤ rv ρ (1 + k) ∧ rv ρ (1 + k) ≤ 60 := h.2.1 k h0 h1
theorem sgn_t {ρ : Row} {y k : Int} (hk : 0 ≤ k) (h1 : rv ρ (24 + k) ≠ 0) (h2 : y % rv ρ (20 + k) = 0) : sgn ρ y (k + 1).toNat = rv ρ (24 + k) := by
  have e : (k + 1).toNat = k.toNat + 1 := by omega
  have e2 : ((k.toNat : Nat) : Int) = k := by omega
  rw [e, sgn, e2, if_pos ⟨h1, h2⟩]
theorem sgn_f {ρ : Row} {y k : Int} (hk : 0 ≤ k) (h : ¬ (rv ρ (24 + k) ≠ 0 ∧ y % rv ρ (20 + k) = 0)) : sgn ρ y (k + 1).toNat = sgn ρ y k.toNat := by
  have e : (k + 1).toNat = k.toNat + 1 := by omega
  have e2 : ((k.toNat : Nat) : Int) = k := by omega
  rw [e, sgn, e2, if_neg h]
theorem sumL_s {ρ : Row} {k : Int} (hk : 0 ≤ k) : sumL ρ (k + 1).toNat = sumL ρ k.toNat + rv ρ (1 + k) := by
  have e : (k + 1).toNat = k.toNat + 1 := by omega
  have e2 : ((k.toNat : Nat) : Int) = k := by omega
  rw [e, sumL, e2]
theorem sumL_b {ρ : Row} (h : okRow ρ) {k : Int} (h0 : 0 ≤ k) (h1 : k ≤ rv ρ 0) : 0 ≤ sumL ρ k.toNat ∧ sumL ρ k.toNat ≤ 60 * k := by
  have h2 := sumL_bd h.2.1 k.toNat (by omega)
  omega
/-- a leap year's further month is there -/
def hasM (ρ : Row) (y : Int) : Prop := rv ρ 16 = 2 ∧ leap ρ y = true
noncomputable def mcnt (ρ : Row) (y : Int) : Int := rv ρ 0 + (if rv ρ 16 = 2 ∧ leap ρ y = true then 1 else 0)
noncomputable def mlen (ρ : Row) (y m : Int) : Int :=
  if (rv ρ 16 = 2 ∧ leap ρ y = true) ∧ m = rv ρ 17 + 1 then rv ρ 18
  else if (rv ρ 16 = 2 ∧ leap ρ y = true) ∧ rv ρ 17 < m then rv ρ (m - 1)
  else rv ρ m + (if rv ρ 16 = 1 ∧ m = rv ρ 17 ∧ leap ρ y = true then 1 else 0)
noncomputable def msum (ρ : Row) (y : Int) : Nat → Int
  | 0 => 0
  | k + 1 => msum ρ y k + mlen ρ y (k + 1)
/-- the day of a date -/
noncomputable def dnum (ρ : Row) (y m d : Int) : Int := fst ρ y + d - 1 + msum ρ y (m - 1).toNat
def wdy (ρ : Row) (d : Int) : Int := (rv ρ 31 + d) % rv ρ 30
theorem mcnt_bd {ρ : Row} (h : okRow ρ) (y : Int) : 1 ≤ mcnt ρ y ∧ mcnt ρ y ≤ 15 := by
  have := h.months
  unfold mcnt
  split <;> omega
theorem mlen_bd {ρ : Row} (h : okRow ρ) {y m : Int} (h1 : 1 ≤ m) (h2 : m ≤ mcnt ρ y) : 1 ≤ mlen ρ y m ∧ mlen ρ y m ≤ 61 := by
  have hm := h.months
  unfold mcnt at h2
  unfold mlen
  split
  · next q => have := h.ll q.1.1; omega
  · next q =>
    split
    · next q2 =>
      rw [if_pos q2.1] at h2
      have hl := h.lm (by omega)
      have := h.ml (k := m - 2) (by omega) (by omega)
      have e : 1 + (m - 2) = m - 1 := by omega
      rw [e] at this
      omega
    · next q2 =>
      have hx : m ≤ rv ρ 0 := by
        by_cases q3 : rv ρ 16 = 2 ∧ leap ρ y = true
        · have hl := h.lm (by omega)
          have : ¬ rv ρ 17 < m := fun z => q2 ⟨q3, z⟩
          omega
        · rw [if_neg q3] at h2; omega
      have := h.ml (k := m - 1) (by omega) (by omega)
      have e : 1 + (m - 1) = m := by omega
      rw [e] at this
      split <;> omega
theorem msum_s {ρ : Row} {y m : Int} (hm : 1 ≤ m) : msum ρ y (m + 1 - 1).toNat = msum ρ y (m - 1).toNat + mlen ρ y m := by
  have e : (m + 1 - 1).toNat = (m - 1).toNat + 1 := by omega
  have e2 : (((m - 1).toNat : Nat) : Int) + 1 = m := by omega
  rw [e, msum, e2]
theorem msum_bd {ρ : Row} (h : okRow ρ) {y : Int} : ∀ (k : Nat), (k : Int) ≤ mcnt ρ y → (k : Int) ≤ msum ρ y k ∧ msum ρ y k ≤ 61 * k
  | 0, _ => by simp [msum]
  | k + 1, hk => by
    have h1 := msum_bd h (y := y) k (by omega)
    have h2 := mlen_bd h (y := y) (m := k + 1) (by omega) (by omega)
    rw [msum]
    omega
theorem fstP_bd {ρ : Row} (h : okRow ρ) : ∀ k : Nat, rv ρ 15 + 30 * k ≤ fstP ρ k ∧ fstP ρ k ≤ rv ρ 15 + 900 * k
  | 0 => by simp [fstP]
  | k + 1 => by
    have h1 := fstP_bd h k
    have h2 := h.yl (1 + k)
    rw [fstP]
    omega
theorem fstN_bd {ρ : Row} (h : okRow ρ) : ∀ k : Nat, rv ρ 15 - 900 * k ≤ fstN ρ k ∧ fstN ρ k ≤ rv ρ 15 - 30 * k
  | 0 => by simp [fstN]
  | k + 1 => by
    have h1 := fstN_bd h k
    have h2 := h.yl (-k)
    rw [fstN]
    omega
theorem fst_bd {ρ : Row} (h : okRow ρ) {y : Int} (h1 : -3000 ≤ y) (h2 : y ≤ 3000) : -4000000 ≤ fst ρ y ∧ fst ρ y ≤ 4000000 := by
  have he := h.e
  unfold fst
  split
  · have := fstP_bd h (y - 1).toNat; omega
  · have := fstN_bd h (1 - y).toNat; omega
theorem fst_lt {ρ : Row} (h : okRow ρ) (y : Int) : fst ρ y < fst ρ (y + 1) := by
  have := h.yl y
  rw [fst_succ]
  omega
theorem fst_mono {ρ : Row} (h : okRow ρ) {x y : Int} (hxy : x ≤ y) : fst ρ x + 30 * (y - x) ≤ fst ρ y := by
  obtain ⟨k, rfl⟩ : ∃ k : Nat, y = x + k := ⟨(y - x).toNat, by omega⟩
  clear hxy
  induction k with
  | zero => simp
  | succ k ih =>
    have h1 := fst_succ ρ (x + k)
    have h2 := h.yl (x + k)
    have e : x + ((k + 1 : Nat) : Int) = x + k + 1 := by omega
    rw [e]
    omega
/-- the greatest year from -2020 to 2021 that has begun by a day -/
noncomputable def yofN (ρ : Row) (d : Int) : Nat → Int
  | 0 => -2020
  | k + 1 => if fst ρ (-2020 + (k + 1)) ≤ d then -2020 + (k + 1) else yofN ρ d k
noncomputable def yof (ρ : Row) (d : Int) : Int := yofN ρ d 4041
theorem yof_eq {ρ : Row} (h : okRow ρ) {d y : Int} (h1 : -2020 ≤ y) (h2 : y ≤ 2021) (h3 : y = -2020 ∨ fst ρ y ≤ d) (h4 : y = 2021 ∨ d < fst ρ (y + 1)) : yof ρ d = y := by
  have key : ∀ k : Nat, (k : Int) ≤ 4041 → y ≤ -2020 + k → yofN ρ d k = y := by
    intro k
    induction k with
    | zero => intro _ hy; rw [yofN]; omega
    | succ k ih =>
      intro hk hy
      rw [yofN]
      by_cases he : y = -2020 + ((k + 1 : Nat) : Int)
      · have hf : fst ρ y ≤ d := by omega
        rw [if_pos (by have e : (-2020 + ((k : Int) + 1)) = y := by omega
                       rw [e]; exact hf)]
        omega
      · have hm := fst_mono h (x := y + 1) (y := -2020 + ((k : Int) + 1)) (by omega)
        rw [if_neg (by omega)]
        exact ih (by omega) (by omega)
  exact key 4041 (by omega) (by omega)
theorem yof_bd (ρ : Row) (d : Int) : -2020 ≤ yof ρ d ∧ yof ρ d ≤ 2021 := by
  have key : ∀ k : Nat, -2020 ≤ yofN ρ d k ∧ yofN ρ d k ≤ -2020 + k := by
    intro k
    induction k with
    | zero => rw [yofN]; omega
    | succ k ih => rw [yofN]; split <;> omega
  have := key 4041
  unfold yof
  omega
/-- the table of first days of a calendar of the reference -/
def okF (Rw : Nat → Nat → Int32) (ca : Int) : Prop := ∀ y : Int, -2020 ≤ y → y ≤ 2021 → (Rw 4 (((4042 * ca) + y) - (-2020)).toNat).toInt = fst (rowM Rw ca) y
theorem okRow.mb {ρ : Row} (h : okRow ρ) {i : Int} (h0 : 1 ≤ i) (h1 : i ≤ rv ρ 0) : 1 ≤ rv ρ i ∧ rv ρ i ≤ 60 := by
  have := h.ml (k := i - 1) (by omega) (by omega)
  rw [show 1 + (i - 1) = i by omega] at this
  exact this
theorem mcnt_t {ρ : Row} {y : Int} (h : rv ρ 16 = 2 ∧ leap ρ y = true) : mcnt ρ y = rv ρ 0 + 1 := by unfold mcnt; rw [if_pos h]
theorem mcnt_f {ρ : Row} {y : Int} (h : ¬ (rv ρ 16 = 2 ∧ leap ρ y = true)) : mcnt ρ y = rv ρ 0 := by unfold mcnt; rw [if_neg h]; omega
