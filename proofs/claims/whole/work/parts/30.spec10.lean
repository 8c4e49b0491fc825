/-- the reading of a calendar: whether it goes on, the place, the row, whether a remainder was too great -/
abbrev PS : Type := Bool × Int × (Nat → Int32) × Bool
def eq33 (f g : Nat → Int32) : Prop := ∀ j : Nat, j < 33 → f j = g j
theorem eq33.rf {f : Nat → Int32} : eq33 f f := fun _ _ => rfl
theorem eq33.up {f g : Nat → Int32} (h : eq33 f g) {i : Nat} {v : Int32} : eq33 (upd f i v) (upd g i v) := fun j hj => by
  have := h j hj
  by_cases q : j = i
  · simp [upd, q]
  · simp [upd, q, this]
theorem eq33.tr {f g k : Nat → Int32} (h : eq33 f g) (h2 : eq33 g k) : eq33 f k := fun j hj => (h j hj).trans (h2 j hj)
theorem upd_s (f : Nat → Int32) (i : Nat) (v : Int32) : upd f i v i = v := by simp [upd]
theorem upd_n (f : Nat → Int32) {i j : Nat} (v : Int32) (h : j ≠ i) : upd f i v j = f j := by simp [upd, h]
def sNum (T : Int → Int) (pl : Nat) (p : Int) (q : Nat → Int32) (g : Bool) : PS := if dg T p then (true, (num T p).2, upd q pl (i3 (num T p).1), g) else (false, p, q, g)
def sMore (T : Int → Int) : Nat → Int → (Nat → Int32) → Bool → PS
  | 0, p, q, g => (true, p, q, g)
  | k + 1, p, q, g => if T p = 44 then (if dg T (p + 1) then sMore T k (num T (p + 1)).2 (upd (upd q (14 - k) (i3 (num T (p + 1)).1)) 0 (q 0 + 1)) g else (false, p + 1, q, g)) else (true, p, q, g)
def sMonths (T : Int → Int) (p : Int) (q : Nat → Int32) (g : Bool) : PS :=
  if T p = 109 then (if dg T (p + 1) then sMore T 13 (num T (p + 1)).2 (upd (upd q 1 (i3 (num T (p + 1)).1)) 0 1) g else (false, p + 1, q, g)) else (false, p, q, g)
def sFirst (T : Int → Int) (p : Int) (q : Nat → Int32) (g : Bool) : PS :=
  if T p = 59 then (if T (p + 1) = 101 then (if dg T (if T (p + 1 + 1) = 45 then p + 1 + 1 + 1 else p + 1 + 1) then
      (true, (num T (if T (p + 1 + 1) = 45 then p + 1 + 1 + 1 else p + 1 + 1)).2, upd (upd q 15 (i3 (num T (if T (p + 1 + 1) = 45 then p + 1 + 1 + 1 else p + 1 + 1)).1)) 15 (if T (p + 1 + 1) = 45 then -(i3 (num T (if T (p + 1 + 1) = 45 then p + 1 + 1 + 1 else p + 1 + 1)).1) else i3 (num T (if T (p + 1 + 1) = 45 then p + 1 + 1 + 1 else p + 1 + 1)).1), g)
    else (false, (if T (p + 1 + 1) = 45 then p + 1 + 1 + 1 else p + 1 + 1), q, g)) else (false, p + 1, q, g)) else (false, p, q, g)
def sLeap (T : Int → Int) (p : Int) (q : Nat → Int32) (g : Bool) : PS :=
  if T p = 59 ∧ T (p + 1) = 100 then (if dg T (p + 2) then (true, (num T (p + 2)).2, upd (upd q 16 1) 17 (i3 (num T (p + 2)).1), g) else (false, p + 2, q, g))
  else if T p = 59 ∧ T (p + 1) = 105 then
    (if dg T (p + 2) then (if T (num T (p + 2)).2 = 44 then (if dg T ((num T (p + 2)).2 + 1) then (true, (num T ((num T (p + 2)).2 + 1)).2, upd (upd (upd q 16 2) 17 (i3 (num T (p + 2)).1)) 18 (i3 (num T ((num T (p + 2)).2 + 1)).1), g) else (false, (num T (p + 2)).2 + 1, q, g)) else (false, (num T (p + 2)).2, q, g)) else (false, p + 2, q, g))
  else (true, p, q, g)
def sDiv (T : Int → Int) : Nat → Int → (Nat → Int32) → Bool → PS
  | 0, p, q, g => (true, p, q, g)
  | k + 1, p, q, g => if dg T p then
      (if T (num T p).2 = 43 ∨ T (num T p).2 = 45 then
        (if 0 < k ∧ dg T ((num T p).2 + 1) then sDiv T k ((num T p).2 + 1) (upd (upd q (20 + (3 - k)) (i3 (num T p).1)) (24 + (3 - k)) (if T (num T p).2 = 43 then 1 else -1)) g
         else (true, (num T p).2 + 1, upd (upd q (20 + (3 - k)) (i3 (num T p).1)) (24 + (3 - k)) (if T (num T p).2 = 43 then 1 else -1), g))
       else (false, (num T p).2, q, g))
    else (false, p, q, g)
def sRem1 (q : Nat → Int32) (v : Int) : Nat → Int32 := if v < 30 then upd q 29 (q 29 ||| ((1 : Int32) <<< (i3 v &&& 31))) else q
def sR1 (T : Int → Int) (p : Int) (q : Nat → Int32) (g : Bool) : PS := if dg T p then (true, (num T p).2, sRem1 q (num T p).1, g || decide ((q 28).toInt ≤ (num T p).1)) else (false, p, q, g)
def sRem (T : Int → Int) : Nat → Int → (Nat → Int32) → Bool → PS
  | 0, p, q, g => (true, p, q, g)
  | k + 1, p, q, g => if (sR1 T p q g).1 = true then (if T (sR1 T p q g).2.1 = 44 then sRem T k ((sR1 T p q g).2.1 + 1) (sR1 T p q g).2.2.1 (sR1 T p q g).2.2.2 else sR1 T p q g) else sR1 T p q g
def sDivs (T : Int → Int) (p : Int) (q : Nat → Int32) (g : Bool) : PS := sDiv T 4 p (upd q 19 1) g
def sCyc (T : Int → Int) (p : Int) (q : Nat → Int32) (g : Bool) : PS :=
  if dg T p then (if T (num T p).2 = 58 then sRem T 100 ((num T p).2 + 1) (upd (upd q 19 2) 28 (i3 (num T p).1)) g else (false, (num T p).2, q, g)) else (false, p, q, g)
def sRule (T : Int → Int) (p : Int) (q : Nat → Int32) (g : Bool) : PS :=
  if T p = 59 ∧ T (p + 1) = 108 then sDivs T (p + 2) q g else if T p = 59 ∧ T (p + 1) = 99 then sCyc T (p + 2) q g else (true, p, q, g)
def sWeeks (T : Int → Int) (p : Int) (q : Nat → Int32) (g : Bool) : PS :=
  if T p = 59 ∧ T (p + 1) = 119 then
    (if dg T (p + 2) then (if T (num T (p + 2)).2 = 44 then (if dg T ((num T (p + 2)).2 + 1) then (if T (num T ((num T (p + 2)).2 + 1)).2 = 44 then (if dg T ((num T ((num T (p + 2)).2 + 1)).2 + 1) then
      (true, (num T ((num T ((num T (p + 2)).2 + 1)).2 + 1)).2, upd (upd (upd q 30 (i3 (num T (p + 2)).1)) 31 (i3 (num T ((num T (p + 2)).2 + 1)).1)) 32 (i3 (num T ((num T ((num T (p + 2)).2 + 1)).2 + 1)).1), g)
      else (false, (num T ((num T (p + 2)).2 + 1)).2 + 1, q, g)) else (false, (num T ((num T (p + 2)).2 + 1)).2, q, g)) else (false, (num T (p + 2)).2 + 1, q, g)) else (false, (num T (p + 2)).2, q, g)) else (false, p + 2, q, g))
  else (true, p, q, g)
def sAnd (s : PS) (f : Int → (Nat → Int32) → Bool → PS) : PS := if s.1 = true then f s.2.1 s.2.2.1 s.2.2.2 else s
theorem sAnd_t {s : PS} {f : Int → (Nat → Int32) → Bool → PS} (h : s.1 = true) : sAnd s f = f s.2.1 s.2.2.1 s.2.2.2 := if_pos h
theorem sAnd_f {s : PS} {f : Int → (Nat → Int32) → Bool → PS} (h : ¬ s.1 = true) : sAnd s f = s := if_neg h
/-- the parts, and what is behind them: len is where the text ends -/
def sParts (T : Int → Int) : PS := sAnd (sMonths T 0 row0 false) (fun p q g => sAnd (sFirst T p q g) (fun p q g => sAnd (sLeap T p q g) (fun p q g => sRule T p q g)))
def sEnd (T : Int → Int) (len : Int) (told : Bool) (p : Int) (q : Nat → Int32) (g : Bool) : PS := if p = len then (true, p, q, g) else (false, (if T p = 59 ∧ told = false then p + 1 else p), q, g)
def sCal (T : Int → Int) (len : Int) : PS := sAnd (sParts T) (fun p q g => sAnd (sWeeks T p q g) (fun p2 q2 g2 => sEnd T len (decide (p < p2)) p2 q2 g2))
theorem upd_upd (f : Nat → Int32) (i : Nat) (v w : Int32) : upd (upd f i v) i w = upd f i w := by
  funext j
  by_cases q : j = i <;> simp [upd, q]
theorem upd_id (f : Nat → Int32) (i : Nat) : upd f i (f i) = f := by
  funext j
  by_cases q : j = i <;> simp [upd, q]
theorem i3_v {T : Int → Int} (p : Int) : (i3 (num T p).1).toInt = (num T p).1 := by
  have := num_v (T := T) p
  unfold i3
  rw [Int32.toInt_ofInt, i_bm]
  omega
theorem bI_b {r : Int32} {x : Bool} (h : r = bI x) : r = bI (decide (x = true)) := by cases x <;> exact h
theorem b_f {x : Bool} (h : ¬ x = true) : x = false := by
  cases x
  · rfl
  · exact absurd rfl h
