/-- a row copied into another from a place on; a row read back from a place of another -/
def cpy (f g : Nat → Int32) (c k : Nat) : Nat → Int32 := fun i => if c ≤ i ∧ i < c + k then g (i - c) else f i
def rdr (f g : Nat → Int32) (c k : Nat) : Nat → Int32 := fun i => if i < k then g (c + i) else f i
theorem cpy_0 (f g : Nat → Int32) (c : Nat) : cpy f g c 0 = f := by
  funext i
  unfold cpy
  rw [if_neg (by omega)]
theorem rdr_0 (f g : Nat → Int32) (c : Nat) : rdr f g c 0 = f := by
  funext i
  unfold rdr
  rw [if_neg (by omega)]
theorem cpy_s (f g : Nat → Int32) (c k : Nat) : upd (cpy f g c k) (c + k) (g k) = cpy f g c (k + 1) := by
  funext i
  unfold cpy
  by_cases q : i = c + k
  · rw [q, upd_s, if_pos (by omega), show c + k - c = k by omega]
  · rw [upd_n _ _ q]
    by_cases q2 : c ≤ i ∧ i < c + k
    · rw [if_pos q2, if_pos (by omega)]
    · rw [if_neg q2, if_neg (by omega)]
theorem rdr_s (f g : Nat → Int32) (c k : Nat) : upd (rdr f g c k) k (g (c + k)) = rdr f g c (k + 1) := by
  funext i
  unfold rdr
  by_cases q : i = k
  · rw [q, upd_s, if_pos (by omega)]
  · rw [upd_n _ _ q]
    by_cases q2 : i < k
    · rw [if_pos q2, if_pos (by omega)]
    · rw [if_neg q2, if_neg (by omega)]
theorem uu {α : Type} (f : Nat → α) (k : Nat) (a c : α) : va_up (va_up f k a) k c = va_up f k c := by
  funext i
  by_cases q : i = k
  · rw [q, va_up_self, va_up_self]
  · rw [va_up_ne _ _ q, va_up_ne _ _ q, va_up_ne _ _ q]
theorem va_id {α : Type} (f : Nat → α) (k : Nat) : va_up f k (f k) = f := by
  funext i
  by_cases q : i = k
  · rw [q, va_up_self]
  · rw [va_up_ne _ _ q]
/-- a state in a row: the calendars, the feasts, how many there are -/
def bkW (f : Nat → Int32) (w : Nat) (c fe : Nat → Int32) (nc nf : Int32) : Nat → Int32 := upd (upd (cpy (cpy f c w 198) fe (w + 198) 48) (w + 246) nc) (w + 247) nf
def bkRow (f : Nat → Int32) (w : Nat) (c : Int) : Row := fun k => if 0 ≤ k ∧ k < 33 then f (w + ((33 * c) + k).toNat) else 0
theorem rowM_bk {R S : Nat → Nat → Int32} {j w : Nat} (h : S 2 = rdr (R 2) (R j) w 198) {c : Int} (h0 : 0 ≤ c) (h1 : c < 6) : rowM S c = bkRow (R j) w c := by
  funext k
  unfold rowM bkRow
  by_cases q : 0 ≤ k ∧ k < 33
  · rw [if_pos q, if_pos q, h]
    unfold rdr
    rw [if_pos (by omega)]
  · rw [if_neg q, if_neg q]
theorem i_eq1 {a : Int32} {x : Int} (e : a.toInt = x) (h : x = 1) : a = 1 := Int32.toInt_inj.mp (by rw [e, h]; rfl)
theorem i_eq0 {a : Int32} {x : Int} (e : a.toInt = x) (h : x = 0) : a = 0 := Int32.toInt_inj.mp (by rw [e, h]; rfl)
/-- a row moved down by a state -/
def shN (f : Nat → Int32) (k : Nat) : Nat → Int32 := fun i => if i < k then f (i + 262) else f i
theorem shN_0 (f : Nat → Int32) : shN f 0 = f := by
  funext i
  unfold shN
  rw [if_neg (by omega)]
theorem shN_s (f : Nat → Int32) (k : Nat) : upd (shN f k) k (shN f k (k + 262)) = shN f (k + 1) := by
  funext i
  by_cases q : i = k
  · rw [q, upd_s]
    unfold shN
    rw [if_neg (by omega), if_pos (by omega)]
  · rw [upd_n _ _ q]
    unfold shN
    by_cases q2 : i < k
    · rw [if_pos q2, if_pos (by omega)]
    · rw [if_neg q2, if_neg (by omega)]
def bkFe (f : Nat → Int32) (w : Nat) (i k : Int) : Int32 := if 0 ≤ k ∧ k < 6 then f (w + 198 + ((6 * i) + k).toNat) else 0
/-- a state that can be -/
def okBk (f : Nat → Int32) (w : Nat) : Prop :=
  (1 ≤ (f (w + 246)).toInt ∧ (f (w + 246)).toInt ≤ 6) ∧ (0 ≤ (f (w + 247)).toInt ∧ (f (w + 247)).toInt ≤ 8) ∧ (∀ c : Int, 0 ≤ c → c < (f (w + 246)).toInt → okRow (bkRow f w c)) ∧ ∀ i : Int, 0 ≤ i → i < (f (w + 247)).toInt → okFe (f (w + 246)).toInt i (bkFe f w i)
/-- where the next state is kept; what is there before -/
def remC (ch : Int) : Int := if ch = 6 then 5 else ch
def remF (f : Nat → Int32) (ch : Int) : Nat → Int32 := if ch = 6 then shN f 1310 else f
