/-- a state is read back out of a row -/
def restP (F : Nat → Int32) (w : Nat) (R : Nat → Nat → Int32) (I1 : Nat → Int32) (R1 : Nat → Nat → Int32) : Prop :=
  R1 2 = rdr (R 2) F w 198 ∧ R1 16 = rdr (R 16) F (w + 198) 48 ∧ I1 5 = F (w + 246) ∧ I1 19 = F (w + 247) ∧ ∀ c : Int, 0 ≤ c → c < (F (w + 246)).toInt → okF R1 c
/-- a state is put behind the earlier ones -/
def remR (I : Nat → Int32) (R : Nat → Nat → Int32) : Nat → Int32 := bkW (remF (R 26) (I 28).toInt) (262 * remC (I 28).toInt).toNat (R 2) (R 16) (I 5) (I 19)
/-- a feast behind the others -/
def feW (f : Nat → Int32) (w : Nat) (a b c d e g : Int32) : Nat → Int32 := upd (upd (upd (upd (upd (upd f w a) (w + 1) b) (w + 2) c) (w + 3) d) (w + 4) e) (w + 5) g
