/-! THE CALENDAR'S NUMBERS, as both sides have them: a row of 33 ints (by whole-number places) -/
abbrev Row : Type := Int → Int32
def rv (ρ : Row) (k : Int) : Int := (ρ k).toInt
/-- the row of a calendar of the reference -/
def rowM (Rw : Nat → Nat → Int32) (ca : Int) : Row := fun k => if 0 ≤ k ∧ k < 33 then Rw 2 ((33 * ca) + k).toNat else 0
theorem rowM_eq {Rw : Nat → Nat → Int32} {ca k : Int} (h : 0 ≤ k ∧ k < 33) : rowM Rw ca k = Rw 2 ((33 * ca) + k).toNat := if_pos h
/-- the sign of the last of the first k divisors that divides the year -/
def sgn (ρ : Row) (y : Int) : Nat → Int
  | 0 => -1
  | k + 1 => if rv ρ (24 + k) ≠ 0 ∧ y % rv ρ (20 + k) = 0 then rv ρ (24 + k) else sgn ρ y k
def bitAt (x k : Int32) : Prop := ((x >>> (k &&& 31)) &&& 1) = 1
def leapP (ρ : Row) (y : Int) : Prop := if rv ρ 19 = 2 then bitAt (ρ 29) (Int32.ofInt (y % rv ρ 28)) else rv ρ 19 = 1 ∧ 0 < sgn ρ y 4
noncomputable def leap (ρ : Row) (y : Int) : Bool := @decide (leapP ρ y) (Classical.propDecidable _)
theorem leap_iff {ρ : Row} {y : Int} : leap ρ y = true ↔ leapP ρ y := by unfold leap; exact @decide_eq_true_iff _ (Classical.propDecidable _)
def sumL (ρ : Row) : Nat → Int
  | 0 => 0
  | k + 1 => sumL ρ k + rv ρ (1 + k)
noncomputable def ylen (ρ : Row) (y : Int) : Int := sumL ρ (rv ρ 0).toNat + (if rv ρ 16 = 0 ∨ leap ρ y = false then 0 else if rv ρ 16 = 1 then 1 else rv ρ 18)
noncomputable def fstP (ρ : Row) : Nat → Int
  | 0 => rv ρ 15
  | k + 1 => fstP ρ k + ylen ρ (1 + k)
noncomputable def fstN (ρ : Row) : Nat → Int
  | 0 => rv ρ 15
  | k + 1 => fstN ρ k - ylen ρ (-k)
/-- the first day of a year -/
noncomputable def fst (ρ : Row) (y : Int) : Int := if 1 ≤ y then fstP ρ (y - 1).toNat else fstN ρ (1 - y).toNat
theorem fst_1 {ρ : Row} : fst ρ 1 = rv ρ 15 := rfl
theorem fst_succ (ρ : Row) (y : Int) : fst ρ (y + 1) = fst ρ y + ylen ρ y := by
  unfold fst
  by_cases h : 1 ≤ y
  · rw [if_pos h, if_pos (by omega)]
    have e : (y + 1 - 1).toNat = (y - 1).toNat + 1 := by omega
    rw [e, fstP]
    congr 2
    omega
  · rw [if_neg h]
    by_cases h0 : y = 0
    · subst h0
      show rv ρ 15 = rv ρ 15 - ylen ρ (-((0 : Nat) : Int)) + ylen ρ 0
      simp
    · rw [if_neg (by omega)]
      have e : (1 - y).toNat = (1 - (y + 1)).toNat + 1 := by omega
      rw [e, fstN]
      have e2 : (-((1 - (y + 1)).toNat : Int)) = y := by omega
      rw [e2]
      omega
/-- a row that a calendar can have -/
def okRow (ρ : Row) : Prop :=
  (1 ≤ rv ρ 0 ∧ rv ρ 0 ≤ 14) ∧ (∀ k : Int, 0 ≤ k → k < rv ρ 0 → 1 ≤ rv ρ (1 + k) ∧ rv ρ (1 + k) ≤ 60) ∧ 30 ≤ sumL ρ (rv ρ 0).toNat ∧ (-500000 ≤ rv ρ 15 ∧ rv ρ 15 ≤ 500000) ∧
  (0 ≤ rv ρ 16 ∧ rv ρ 16 ≤ 2) ∧ (rv ρ 16 ≠ 0 → 1 ≤ rv ρ 17 ∧ rv ρ 17 ≤ rv ρ 0) ∧ (rv ρ 16 = 2 → 1 ≤ rv ρ 18 ∧ rv ρ 18 ≤ 60) ∧ (0 ≤ rv ρ 19 ∧ rv ρ 19 ≤ 2) ∧
  (∀ k : Int, 0 ≤ k → k < 4 → rv ρ (24 + k) ≠ 0 → (1 ≤ rv ρ (20 + k) ∧ rv ρ (20 + k) ≤ 400) ∧ (rv ρ (24 + k) = 1 ∨ rv ρ (24 + k) = -1) ∧ rv ρ 19 = 1) ∧ (rv ρ 19 = 2 → 1 ≤ rv ρ 28 ∧ rv ρ 28 ≤ 30) ∧
  (2 ≤ rv ρ 30 ∧ rv ρ 30 ≤ 10) ∧ (0 ≤ rv ρ 31 ∧ rv ρ 31 < rv ρ 30) ∧ (1 ≤ rv ρ 32 ∧ rv ρ 32 ≤ rv ρ 30)
theorem sumL_bd {ρ : Row} (h : ∀ k : Int, 0 ≤ k → k < rv ρ 0 → 1 ≤ rv ρ (1 + k) ∧ rv ρ (1 + k) ≤ 60) : ∀ (k : Nat), (k : Int) ≤ rv ρ 0 → (k : Int) ≤ sumL ρ k ∧ sumL ρ k ≤ 60 * k
  | 0, _ => by simp [sumL]
  | k + 1, hk => by
    have h1 := sumL_bd h k (by omega)
    have h2 := h k (by omega) (by omega)
    rw [sumL]
    omega
theorem okRow.months {ρ : Row} (h : okRow ρ) : 1 ≤ rv ρ 0 ∧ rv ρ 0 ≤ 14 := h.1
theorem okRow.sum {ρ : Row} (h : okRow ρ) : 30 ≤ sumL ρ (rv ρ 0).toNat ∧ sumL ρ (rv ρ 0).toNat ≤ 840 := by
  have h1 := sumL_bd h.2.1 (rv ρ 0).toNat (by have := h.1; omega)
  have := h.1
  exact ⟨h.2.2.1, by omega⟩
theorem okRow.yl {ρ : Row} (h : okRow ρ) (y : Int) : 30 ≤ ylen ρ y ∧ ylen ρ y ≤ 900 := by
  have h1 := h.sum
  have h2 := h.2.2.2.2.2.2.1
  have h3 := h.2.2.2.2.1
  unfold ylen
  split
  · omega
  · split
    · omega
    · have := h2 (by omega); omega
theorem okRow.div {ρ : Row} (h : okRow ρ) {k : Int} (h0 : 0 ≤ k) (h1 : k < 4) (h2 : rv ρ (24 + k) ≠ 0) : 1 ≤ rv ρ (20 + k) ∧ rv ρ (20 + k) ≤ 400 := (h.2.2.2.2.2.2.2.2.1 k h0 h1 h2).1
theorem okRow.cyc {ρ : Row} (h : okRow ρ) (h2 : rv ρ 19 = 2) : 1 ≤ rv ρ 28 ∧ rv ρ 28 ≤ 30 := h.2.2.2.2.2.2.2.2.2.1 h2
theorem okRow.wk {ρ : Row} (h : okRow ρ) : (2 ≤ rv ρ 30 ∧ rv ρ 30 ≤ 10) ∧ (0 ≤ rv ρ 31 ∧ rv ρ 31 < rv ρ 30) ∧ (1 ≤ rv ρ 32 ∧ rv ρ 32 ≤ rv ρ 30) := h.2.2.2.2.2.2.2.2.2.2
theorem okRow.e {ρ : Row} (h : okRow ρ) : -500000 ≤ rv ρ 15 ∧ rv ρ 15 ≤ 500000 := h.2.2.2.1
theorem okRow.lk {ρ : Row} (h : okRow ρ) : 0 ≤ rv ρ 16 ∧ rv ρ 16 ≤ 2 := h.2.2.2.2.1
theorem okRow.lm {ρ : Row} (h : okRow ρ) (h2 : rv ρ 16 ≠ 0) : 1 ≤ rv ρ 17 ∧ rv ρ 17 ≤ rv ρ 0 := h.2.2.2.2.2.1 h2
theorem okRow.ll {ρ : Row} (h : okRow ρ) (h2 : rv ρ 16 = 2) : 1 ≤ rv ρ 18 ∧ rv ρ 18 ≤ 60 := h.2.2.2.2.2.2.1 h2
theorem okRow.ml {ρ : Row} (h : okRow ρ) {k : Int} (h0 : 0 ≤ k) (h1 : k < rv ρ 0) : 1 ≤ rv ρ (1 + k) ∧ rv ρ (1 + k) ≤ 60 := h.2.1 k h0 h1
theorem sgn_t {ρ : Row} {y k : Int} (hk : 0 ≤ k) (h1 : rv ρ (24 + k) ≠ 0) (h2 : y % rv ρ (20 + k) = 0) : sgn ρ y (k + 1).toNat = rv ρ (24 + k) := by
  have e : (k + 1).toNat = k.toNat + 1 := by omega
  have e2 : ((k.toNat : Nat) : Int) = k := by omega
  rw [e, sgn, e2, if_pos ⟨h1, h2⟩]
theorem sgn_f {ρ : Row} {y k : Int} (hk : 0 ≤ k) (h : ¬ (rv ρ (24 + k) ≠ 0 ∧ y % rv ρ (20 + k) = 0)) : sgn ρ y (k + 1).toNat = sgn ρ y k.toNat := by
  have e : (k + 1).toNat = k.toNat + 1 := by omega
  have e2 : ((k.toNat : Nat) : Int) = k := by omega
  rw [e, sgn, e2, if_neg h]
theorem sumL_s {ρ : Row} {k : Int} (hk : 0 ≤ k) : sumL ρ (k + 1).toNat = sumL ρ k.toNat + rv ρ (1 + k) := by
  have e : (k + 1).toNat = k.toNat + 1 := by omega
  have e2 : ((k.toNat : Nat) : Int) = k := by omega
  rw [e, sumL, e2]
theorem sumL_b {ρ : Row} (h : okRow ρ) {k : Int} (h0 : 0 ≤ k) (h1 : k ≤ rv ρ 0) : 0 ≤ sumL ρ k.toNat ∧ sumL ρ k.toNat ≤ 60 * k := by
  have h2 := sumL_bd h.2.1 k.toNat (by omega)
  omega
/-- a leap year's further month is there -/
def hasM (ρ : Row) (y : Int) : Prop := rv ρ 16 = 2 ∧ leap ρ y = true
noncomputable def mcnt (ρ : Row) (y : Int) : Int := rv ρ 0 + (if rv ρ 16 = 2 ∧ leap ρ y = true then 1 else 0)
noncomputable def mlen (ρ : Row) (y m : Int) : Int :=
  if (rv ρ 16 = 2 ∧ leap ρ y = true) ∧ m = rv ρ 17 + 1 then rv ρ 18
  else if (rv ρ 16 = 2 ∧ leap ρ y = true) ∧ rv ρ 17 < m then rv ρ (m - 1)
  else rv ρ m + (if rv ρ 16 = 1 ∧ m = rv ρ 17 ∧ leap ρ y = true then 1 else 0)
noncomputable def msum (ρ : Row) (y : Int) : Nat → Int
  | 0 => 0
  | k + 1 => msum ρ y k + mlen ρ y (k + 1)
/-- the day of a date -/
noncomputable def dnum (ρ : Row) (y m d : Int) : Int := fst ρ y + d - 1 + msum ρ y (m - 1).toNat
def wdy (ρ : Row) (d : Int) : Int := (rv ρ 31 + d) % rv ρ 30
theorem mcnt_bd {ρ : Row} (h : okRow ρ) (y : Int) : 1 ≤ mcnt ρ y ∧ mcnt ρ y ≤ 15 := by
  have := h.months
  unfold mcnt
  split <;> omega
theorem mlen_bd {ρ : Row} (h : okRow ρ) {y m : Int} (h1 : 1 ≤ m) (h2 : m ≤ mcnt ρ y) : 1 ≤ mlen ρ y m ∧ mlen ρ y m ≤ 61 := by
  have hm := h.months
  unfold mcnt at h2
  unfold mlen
  split
  · next q => have := h.ll q.1.1; omega
  · next q =>
    split
    · next q2 =>
      rw [if_pos q2.1] at h2
      have hl := h.lm (by omega)
      have := h.ml (k := m - 2) (by omega) (by omega)
      have e : 1 + (m - 2) = m - 1 := by omega
      rw [e] at this
      omega
    · next q2 =>
      have hx : m ≤ rv ρ 0 := by
        by_cases q3 : rv ρ 16 = 2 ∧ leap ρ y = true
        · have hl := h.lm (by omega)
          have : ¬ rv ρ 17 < m := fun z => q2 ⟨q3, z⟩
          omega
        · rw [if_neg q3] at h2; omega
      have := h.ml (k := m - 1) (by omega) (by omega)
      have e : 1 + (m - 1) = m := by omega
      rw [e] at this
      split <;> omega
theorem msum_s {ρ : Row} {y m : Int} (hm : 1 ≤ m) : msum ρ y (m + 1 - 1).toNat = msum ρ y (m - 1).toNat + mlen ρ y m := by
  have e : (m + 1 - 1).toNat = (m - 1).toNat + 1 := by omega
  have e2 : (((m - 1).toNat : Nat) : Int) + 1 = m := by omega
  rw [e, msum, e2]
theorem msum_bd {ρ : Row} (h : okRow ρ) {y : Int} : ∀ (k : Nat), (k : Int) ≤ mcnt ρ y → (k : Int) ≤ msum ρ y k ∧ msum ρ y k ≤ 61 * k
  | 0, _ => by simp [msum]
  | k + 1, hk => by
    have h1 := msum_bd h (y := y) k (by omega)
    have h2 := mlen_bd h (y := y) (m := k + 1) (by omega) (by omega)
    rw [msum]
    omega
theorem fstP_bd {ρ : Row} (h : okRow ρ) : ∀ k : Nat, rv ρ 15 + 30 * k ≤ fstP ρ k ∧ fstP ρ k ≤ rv ρ 15 + 900 * k
  | 0 => by simp [fstP]
  | k + 1 => by
    have h1 := fstP_bd h k
    have h2 := h.yl (1 + k)
    rw [fstP]
    omega
theorem fstN_bd {ρ : Row} (h : okRow ρ) : ∀ k : Nat, rv ρ 15 - 900 * k ≤ fstN ρ k ∧ fstN ρ k ≤ rv ρ 15 - 30 * k
  | 0 => by simp [fstN]
  | k + 1 => by
    have h1 := fstN_bd h k
    have h2 := h.yl (-k)
    rw [fstN]
    omega
theorem fst_bd {ρ : Row} (h : okRow ρ) {y : Int} (h1 : -3000 ≤ y) (h2 : y ≤ 3000) : -4000000 ≤ fst ρ y ∧ fst ρ y ≤ 4000000 := by
  have he := h.e
  unfold fst
  split
  · have := fstP_bd h (y - 1).toNat; omega
  · have := fstN_bd h (1 - y).toNat; omega
theorem fst_lt {ρ : Row} (h : okRow ρ) (y : Int) : fst ρ y < fst ρ (y + 1) := by
  have := h.yl y
  rw [fst_succ]
  omega
theorem fst_mono {ρ : Row} (h : okRow ρ) {x y : Int} (hxy : x ≤ y) : fst ρ x + 30 * (y - x) ≤ fst ρ y := by
  obtain ⟨k, rfl⟩ : ∃ k : Nat, y = x + k := ⟨(y - x).toNat, by omega⟩
  clear hxy
  induction k with
  | zero => simp
  | succ k ih =>
    have h1 := fst_succ ρ (x + k)
    have h2 := h.yl (x + k)
    have e : x + ((k + 1 : Nat) : Int) = x + k + 1 := by omega
    rw [e]
    omega
/-- the greatest year from -2020 to 2021 that has begun by a day -/
noncomputable def yofN (ρ : Row) (d : Int) : Nat → Int
  | 0 => -2020
  | k + 1 => if fst ρ (-2020 + (k + 1)) ≤ d then -2020 + (k + 1) else yofN ρ d k
noncomputable def yof (ρ : Row) (d : Int) : Int := yofN ρ d 4041
theorem yof_eq {ρ : Row} (h : okRow ρ) {d y : Int} (h1 : -2020 ≤ y) (h2 : y ≤ 2021) (h3 : y = -2020 ∨ fst ρ y ≤ d) (h4 : y = 2021 ∨ d < fst ρ (y + 1)) : yof ρ d = y := by
  have key : ∀ k : Nat, (k : Int) ≤ 4041 → y ≤ -2020 + k → yofN ρ d k = y := by
    intro k
    induction k with
    | zero => intro _ hy; rw [yofN]; omega
    | succ k ih =>
      intro hk hy
      rw [yofN]
      by_cases he : y = -2020 + ((k + 1 : Nat) : Int)
      · have hf : fst ρ y ≤ d := by omega
        rw [if_pos (by have e : (-2020 + ((k : Int) + 1)) = y := by omega
                       rw [e]; exact hf)]
        omega
      · have hm := fst_mono h (x := y + 1) (y := -2020 + ((k : Int) + 1)) (by omega)
        rw [if_neg (by omega)]
        exact ih (by omega) (by omega)
  exact key 4041 (by omega) (by omega)
theorem yof_bd (ρ : Row) (d : Int) : -2020 ≤ yof ρ d ∧ yof ρ d ≤ 2021 := by
  have key : ∀ k : Nat, -2020 ≤ yofN ρ d k ∧ yofN ρ d k ≤ -2020 + k := by
    intro k
    induction k with
    | zero => rw [yofN]; omega
    | succ k ih => rw [yofN]; split <;> omega
  have := key 4041
  unfold yof
  omega
/-- the table of first days of a calendar of the reference -/
def okF (Rw : Nat → Nat → Int32) (ca : Int) : Prop := ∀ y : Int, -2020 ≤ y → y ≤ 2021 → (Rw 4 (((4042 * ca) + y) - (-2020)).toNat).toInt = fst (rowM Rw ca) y
theorem okRow.mb {ρ : Row} (h : okRow ρ) {i : Int} (h0 : 1 ≤ i) (h1 : i ≤ rv ρ 0) : 1 ≤ rv ρ i ∧ rv ρ i ≤ 60 := by
  have := h.ml (k := i - 1) (by omega) (by omega)
  rw [show 1 + (i - 1) = i by omega] at this
  exact this
theorem mcnt_t {ρ : Row} {y : Int} (h : rv ρ 16 = 2 ∧ leap ρ y = true) : mcnt ρ y = rv ρ 0 + 1 := by unfold mcnt; rw [if_pos h]
theorem mcnt_f {ρ : Row} {y : Int} (h : ¬ (rv ρ 16 = 2 ∧ leap ρ y = true)) : mcnt ρ y = rv ρ 0 := by unfold mcnt; rw [if_neg h]; omega
/-- the codes of a refusal: the first condition that doesn't hold -/
def cd2 (p q : Prop) [Decidable p] [Decidable q] : Int := if p then (if q then 0 else 2) else 1
def cd3 (p q r : Prop) [Decidable p] [Decidable q] [Decidable r] : Int := if p then (if q then (if r then 0 else 3) else 2) else 1
theorem cd2_0 {p q : Prop} [Decidable p] [Decidable q] (hp : p) (hq : q) : cd2 p q = 0 := by rw [cd2, if_pos hp, if_pos hq]
theorem cd2_1 {p q : Prop} [Decidable p] [Decidable q] (hp : ¬ p) : cd2 p q = 1 := by rw [cd2, if_neg hp]
theorem cd2_2 {p q : Prop} [Decidable p] [Decidable q] (hp : p) (hq : ¬ q) : cd2 p q = 2 := by rw [cd2, if_pos hp, if_neg hq]
theorem cd3_0 {p q r : Prop} [Decidable p] [Decidable q] [Decidable r] (hp : p) (hq : q) (hr : r) : cd3 p q r = 0 := by rw [cd3, if_pos hp, if_pos hq, if_pos hr]
theorem cd3_1 {p q r : Prop} [Decidable p] [Decidable q] [Decidable r] (hp : ¬ p) : cd3 p q r = 1 := by rw [cd3, if_neg hp]
theorem cd3_2 {p q r : Prop} [Decidable p] [Decidable q] [Decidable r] (hp : p) (hq : ¬ q) : cd3 p q r = 2 := by rw [cd3, if_pos hp, if_neg hq]
theorem cd3_3 {p q r : Prop} [Decidable p] [Decidable q] [Decidable r] (hp : p) (hq : q) (hr : ¬ r) : cd3 p q r = 3 := by rw [cd3, if_pos hp, if_pos hq, if_neg hr]
theorem cd2_bd (p q : Prop) [Decidable p] [Decidable q] : 0 ≤ cd2 p q ∧ cd2 p q ≤ 2 := by unfold cd2; split <;> (try split) <;> omega
theorem cd3_bd (p q r : Prop) [Decidable p] [Decidable q] [Decidable r] : 0 ≤ cd3 p q r ∧ cd3 p q r ≤ 3 := by unfold cd3; split <;> (try split) <;> (try split) <;> omega
theorem cd2_ok {p q : Prop} [Decidable p] [Decidable q] : cd2 p q ≤ 0 ↔ p ∧ q := by
  unfold cd2
  by_cases hp : p
  · by_cases hq : q
    · rw [if_pos hp, if_pos hq]; exact ⟨fun _ => ⟨hp, hq⟩, fun _ => Int.le_refl 0⟩
    · rw [if_pos hp, if_neg hq]; exact ⟨fun h => absurd h (by decide), fun h => absurd h.2 hq⟩
  · rw [if_neg hp]; exact ⟨fun h => absurd h (by decide), fun h => absurd h.1 hp⟩
theorem cd3_ok {p q r : Prop} [Decidable p] [Decidable q] [Decidable r] : cd3 p q r ≤ 0 ↔ p ∧ q ∧ r := by
  unfold cd3
  by_cases hp : p
  · by_cases hq : q
    · by_cases hr : r
      · rw [if_pos hp, if_pos hq, if_pos hr]; exact ⟨fun _ => ⟨hp, hq, hr⟩, fun _ => Int.le_refl 0⟩
      · rw [if_pos hp, if_pos hq, if_neg hr]; exact ⟨fun h => absurd h (by decide), fun h => absurd h.2.2 hr⟩
    · rw [if_pos hp, if_neg hq]; exact ⟨fun h => absurd h (by decide), fun h => absurd h.2.1 hq⟩
  · rw [if_neg hp]; exact ⟨fun h => absurd h (by decide), fun h => absurd h.1 hp⟩
/-- weeks -/
noncomputable def fw (ρ : Row) (y : Int) : Int := (fst ρ y + rv ρ 32 - 1) - wdy ρ (fst ρ y + rv ρ 32 - 1)
theorem wdy_bd {ρ : Row} (h : okRow ρ) (d : Int) : 0 ≤ wdy ρ d ∧ wdy ρ d < rv ρ 30 := by
  have := h.wk
  exact ⟨Int.emod_nonneg _ (by omega), Int.emod_lt_of_pos _ (by omega)⟩
theorem fw_bd {ρ : Row} (h : okRow ρ) (y : Int) : fst ρ y - 9 ≤ fw ρ y ∧ fw ρ y ≤ fst ρ y + 9 := by
  have h1 := h.wk
  have h2 := wdy_bd h (fst ρ y + rv ρ 32 - 1)
  unfold fw
  omega
theorem fw_mono {ρ : Row} (h : okRow ρ) {x y : Int} (hxy : x < y) : fw ρ x + 12 ≤ fw ρ y := by
  have h1 := fw_bd h x
  have h2 := fw_bd h y
  have h3 := fst_mono h (x := x) (y := y) (by omega)
  omega
/-- the week year of a day -/
noncomputable def wyr (ρ : Row) (d : Int) : Int := if d < fw ρ (yof ρ d) then yof ρ d - 1 else if fw ρ (yof ρ d + 1) ≤ d then yof ρ d + 1 else yof ρ d
theorem yof_in {ρ : Row} (h : okRow ρ) {d : Int} (h1 : fst ρ (-2000) ≤ d) (h2 : d < fst ρ 2001) : (-2000 ≤ yof ρ d ∧ yof ρ d ≤ 2000) ∧ fst ρ (yof ρ d) ≤ d ∧ d < fst ρ (yof ρ d + 1) := by
  have key : ∀ k : Nat, k ≤ 4000 → ∃ y : Int, -2000 ≤ y ∧ y ≤ -2000 + k ∧ fst ρ y ≤ d ∧ (y = -2000 + k ∨ d < fst ρ (y + 1)) := by
    intro k
    induction k with
    | zero => intro _; exact ⟨-2000, by omega, by omega, h1, Or.inl (by omega)⟩
    | succ k ih =>
      intro hk
      obtain ⟨y, g1, g2, g3, g4⟩ := ih (by omega)
      rcases g4 with g4 | g4
      · by_cases q : fst ρ (y + 1) ≤ d
        · exact ⟨y + 1, by omega, by omega, q, Or.inl (by omega)⟩
        · exact ⟨y, g1, by omega, g3, Or.inr (by omega)⟩
      · exact ⟨y, g1, by omega, g3, Or.inr g4⟩
  obtain ⟨y, g1, g2, g3, g4⟩ := key 4000 (by omega)
  have g5 : d < fst ρ (y + 1) := by
    rcases g4 with g4 | g4
    · rw [show y + 1 = 2001 by omega]; exact h2
    · exact g4
  have e := yof_eq h (d := d) (y := y) (by omega) (by omega) (Or.inr g3) (Or.inr g5)
  rw [e]
  exact ⟨⟨g1, by omega⟩, g3, g5⟩
theorem wyr_eq {ρ : Row} (h : okRow ρ) {d y : Int} (h1 : fst ρ (-2000) ≤ d) (h2 : d < fst ρ 2001) (h3 : fw ρ y ≤ d) (h4 : d < fw ρ (y + 1)) : wyr ρ d = y := by
  obtain ⟨g0, g1, g2⟩ := yof_in h h1 h2
  have a1 := fw_bd h (yof ρ d)
  have a2 := fw_bd h (yof ρ d + 1)
  have a3 := fst_mono h (x := yof ρ d) (y := yof ρ d + 1) (by omega)
  have b1 := fw_bd h y
  have b2 := fw_bd h (y + 1)
  have c0 : y - 1 ≤ yof ρ d := by
    rcases (show yof ρ d < y - 1 ∨ y - 1 ≤ yof ρ d by omega) with q | q
    · have m1 := fst_mono h (x := yof ρ d + 1) (y := y - 1) (by omega)
      have m2 := fst_mono h (x := y - 1) (y := y) (by omega)
      omega
    · exact q
  have c1 : yof ρ d ≤ y + 1 := by
    rcases (show y + 1 < yof ρ d ∨ yof ρ d ≤ y + 1 by omega) with q | q
    · have m1 := fst_mono h (x := y + 2) (y := yof ρ d) (by omega)
      have m2 := fst_mono h (x := y + 1) (y := y + 2) (by omega)
      omega
    · exact q
  unfold wyr
  rcases (show yof ρ d = y - 1 ∨ yof ρ d = y ∨ yof ρ d = y + 1 by omega) with e | e | e
  · rw [e] at *
    have := fw_mono h (x := y - 1) (y := y) (by omega)
    rw [if_neg (by omega), show y - 1 + 1 = y by omega, if_pos h3]
  · rw [e] at *
    rw [if_neg (by omega), if_neg (by omega)]
  · rw [e] at *
    rw [if_pos (by omega)]
    omega
/-- the greatest common divisor, the years after which leap years repeat -/
def gcdI (x y : Int) : Int := (Nat.gcd x.toNat y.toNat : Nat)
theorem gcdI_0 {x : Int} (h : 0 ≤ x) : gcdI x 0 = x := by
  unfold gcdI
  rw [show (0 : Int).toNat = 0 from rfl, Nat.gcd_zero_right]
  omega
theorem gcdI_s {x y : Int} (hx : 0 ≤ x) (hy : 0 < y) : gcdI y (x % y) = gcdI x y := by
  unfold gcdI
  rw [Int.toNat_emod hx (by omega), Nat.gcd_comm y.toNat, ← Nat.gcd_rec, Nat.gcd_comm]
theorem gcdI_bd {x y : Int} (hx : 0 < x) : 1 ≤ gcdI x y ∧ gcdI x y ≤ x := by
  have h1 : 0 < x.toNat := by omega
  have h2 := Nat.gcd_pos_of_pos_left y.toNat h1
  have h3 := Nat.le_of_dvd h1 (Nat.gcd_dvd_left x.toNat y.toNat)
  unfold gcdI
  omega
def repN (ρ : Row) : Nat → Int
  | 0 => 1
  | k + 1 => if repN ρ k = 0 then 0 else
      (if 1000 < (if rv ρ (24 + k) ≠ 0 then repN ρ k / gcdI (repN ρ k) (rv ρ (20 + k)) * rv ρ (20 + k) else repN ρ k) then 0
       else (if rv ρ (24 + k) ≠ 0 then repN ρ k / gcdI (repN ρ k) (rv ρ (20 + k)) * rv ρ (20 + k) else repN ρ k))
def reps (ρ : Row) : Int := if rv ρ 19 = 2 then rv ρ 28 else if rv ρ 19 = 1 then repN ρ 4 else 1
/-- a date cut to the month's length; the day with a weekday from a day on; no day -/
noncomputable def cut (ρ : Row) (y m d : Int) : Int :=
  if -2000 ≤ y ∧ y ≤ 2000 then
    (if -999999 ≤ dnum ρ y m (if d < mlen ρ y m then d else mlen ρ y m) ∧ dnum ρ y m (if d < mlen ρ y m then d else mlen ρ y m) ≤ 999999 then dnum ρ y m (if d < mlen ρ y m then d else mlen ρ y m) else -2147483647)
  else -2147483647
noncomputable def inC (ρ : Row) (d : Int) : Bool := decide (fst ρ (-2000) ≤ d ∧ d < fst ρ 2001)
noncomputable def wfrom (ρ : Row) (d wd : Int) : Int :=
  if rv ρ 30 ≤ wd then -2147483647
  else if (fst ρ (-2000) ≤ d ∧ d < fst ρ 2001) ∧ (fst ρ (-2000) ≤ d + (wd - wdy ρ d) % rv ρ 30 ∧ d + (wd - wdy ρ d) % rv ρ 30 < fst ρ 2001) then d + (wd - wdy ρ d) % rv ρ 30 else -2147483647
def feM (Rw : Nat → Nat → Int32) (f k : Int) : Int32 := if 0 ≤ k ∧ k < 6 then Rw 16 ((6 * f) + k).toNat else 0
theorem feM_eq {Rw : Nat → Nat → Int32} {f k : Int} (h : 0 ≤ k ∧ k < 6) : feM Rw f k = Rw 16 ((6 * f) + k).toNat := if_pos h
noncomputable def taken (Rw : Nat → Nat → Int32) (nf d : Int) : Bool := @decide (∃ f : Int, 0 ≤ f ∧ f < nf ∧ (Rw 18 f.toNat).toInt = d) (Classical.propDecidable _)
theorem taken_iff {Rw : Nat → Nat → Int32} {nf d : Int} : taken Rw nf d = true ↔ ∃ f : Int, 0 ≤ f ∧ f < nf ∧ (Rw 18 f.toNat).toInt = d := by unfold taken; exact @decide_eq_true_iff _ (Classical.propDecidable _)
/-- the row that is read -/
def rowR (Rw : Nat → Nat → Int32) : Row := fun k => if 0 ≤ k ∧ k < 33 then Rw 3 k.toNat else 0
theorem rowR_eq {Rw : Nat → Nat → Int32} {k : Int} (h : 0 ≤ k ∧ k < 33) : rowR Rw k = Rw 3 k.toNat := if_pos h
theorem repN_s {ρ : Row} {k : Int} (hk : 0 ≤ k) : repN ρ (k + 1).toNat = if repN ρ k.toNat = 0 then 0 else
      (if 1000 < (if rv ρ (24 + k) ≠ 0 then repN ρ k.toNat / gcdI (repN ρ k.toNat) (rv ρ (20 + k)) * rv ρ (20 + k) else repN ρ k.toNat) then 0
       else (if rv ρ (24 + k) ≠ 0 then repN ρ k.toNat / gcdI (repN ρ k.toNat) (rv ρ (20 + k)) * rv ρ (20 + k) else repN ρ k.toNat)) := by
  have e : (k + 1).toNat = k.toNat + 1 := by omega
  have e2 : ((k.toNat : Nat) : Int) = k := by omega
  rw [e, repN, e2]
theorem repN_0 {ρ : Row} {n : Nat} (h : repN ρ n = 0) (hn : n ≤ 4) : repN ρ 4 = 0 := by
  obtain ⟨j, hj⟩ : ∃ j, 4 = n + j := ⟨4 - n, by omega⟩
  rw [hj]
  clear hj hn
  induction j with
  | zero => exact h
  | succ j ih => rw [← Nat.add_assoc, repN, if_pos ih]
theorem div_mul_bd {x y v : Int} (hx : 0 ≤ x) (hy : 0 < y) (hv : 0 ≤ v) (h2 : x ≤ 1000 := by omega) (h3 : v ≤ 400 := by omega) : 0 ≤ x / y * v ∧ x / y * v ≤ 400000 := by
  have h4 : x / y ≤ x := Int.ediv_le_self _ hx
  have h5 : 0 ≤ x / y := Int.ediv_nonneg hx (by omega)
  refine ⟨Int.mul_nonneg h5 hv, ?_⟩
  have h6 : x / y * v ≤ 1000 * v := Int.mul_le_mul_of_nonneg_right (by omega) hv
  omega
theorem div_mul_ge {x y : Int} (hx : 0 < x) (hy : 0 < y) : 1 ≤ x / gcdI x y * y := by
  have h1 := gcdI_bd (x := x) (y := y) hx
  have h2 : 1 ≤ x / gcdI x y := (Int.le_ediv_iff_mul_le (by omega)).mpr (by omega)
  have h3 : 1 * y ≤ x / gcdI x y * y := Int.mul_le_mul_of_nonneg_right h2 (by omega)
  omega
