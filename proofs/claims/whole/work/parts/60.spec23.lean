/-! the parts of a calendar's text, from behind their letters -/
def sLd (T : Int → Int) (p : Int) (q : Nat → Int32) (g : Bool) : PS := if dg T p then (true, (num T p).2, upd (upd q 16 1) 17 (i3 (num T p).1), g) else (false, p, q, g)
def sLi (T : Int → Int) (p : Int) (q : Nat → Int32) (g : Bool) : PS :=
  if dg T p then (if T (num T p).2 = 44 then (if dg T ((num T p).2 + 1) then (true, (num T ((num T p).2 + 1)).2, upd (upd (upd q 16 2) 17 (i3 (num T p).1)) 18 (i3 (num T ((num T p).2 + 1)).1), g) else (false, (num T p).2 + 1, q, g)) else (false, (num T p).2, q, g)) else (false, p, q, g)
def sWk (T : Int → Int) (p : Int) (q : Nat → Int32) (g : Bool) : PS :=
  if dg T p then (if T (num T p).2 = 44 then (if dg T ((num T p).2 + 1) then (if T (num T ((num T p).2 + 1)).2 = 44 then (if dg T ((num T ((num T p).2 + 1)).2 + 1) then
      (true, (num T ((num T ((num T p).2 + 1)).2 + 1)).2, upd (upd (upd q 30 (i3 (num T p).1)) 31 (i3 (num T ((num T p).2 + 1)).1)) 32 (i3 (num T ((num T ((num T p).2 + 1)).2 + 1)).1), g)
      else (false, (num T ((num T p).2 + 1)).2 + 1, q, g)) else (false, (num T ((num T p).2 + 1)).2, q, g)) else (false, (num T p).2 + 1, q, g)) else (false, (num T p).2, q, g)) else (false, p, q, g)
theorem sLeap_p (T : Int → Int) (p : Int) (q : Nat → Int32) (g : Bool) : sLeap T p q g = if T p = 59 ∧ T (p + 1) = 100 then sLd T (p + 2) q g else if T p = 59 ∧ T (p + 1) = 105 then sLi T (p + 2) q g else (true, p, q, g) := rfl
theorem sWeeks_p (T : Int → Int) (p : Int) (q : Nat → Int32) (g : Bool) : sWeeks T p q g = if T p = 59 ∧ T (p + 1) = 119 then sWk T (p + 2) q g else (true, p, q, g) := rfl
/-- a divisor with its sign -/
def sD1 (T : Int → Int) (p : Int) : Bool × Int := if dg T p then (if T (num T p).2 = 43 then (true, (num T p).2 + 1) else if T (num T p).2 = 45 then (true, (num T p).2 + 1) else (false, (num T p).2)) else (false, p)
theorem i3_t {T : Int → Int} (p : Int) : (i3 (num T p).1).toInt = (num T p).1 := i3_v p
theorem sNumB {T : Int → Int} (p : Int) : 0 ≤ (i3 (num T p).1).toInt ∧ (i3 (num T p).1).toInt ≤ 999999 := by rw [i3_t]; exact num_v p
