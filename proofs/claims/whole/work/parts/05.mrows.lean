/-! THE REFERENCE: its cells are 45 (the object) and 46 to 59 (its rows); I: its numbers by their fields, R: its rows by their fields -/
def mF (b : Nat) (I : Nat → Int32) : List Value := [.int (I 0), .ref (b + 46), .ref (b + 47), .ref (b + 48), .ref (b + 49), .int (I 5), .int (I 6), .int (I 7), .int (I 8), .ref (b + 50), .int (I 10), .int (I 11), .int (I 12), .int (I 13), .int (I 14), .int (I 15), .ref (b + 51), .ref (b + 52), .ref (b + 53), .int (I 19), .ref (b + 54), .ref (b + 55), .ref (b + 56), .int (I 23), .ref (b + 57), .int (I 25), .ref (b + 58), .ref (b + 59), .int (I 28), .int (I 29), .int (I 30), .int (I 31)]
def mS (t : Nat → ClassId) (b : Nat) (σ0 : qM) (I : Nat → Int32) (R : Nat → Nat → Int32) : qM := fun k => match k with
  | 45 => some (.inr (13, mF b I))
  | 46 => some (.inl (t 0, 12, .inl (R 1)))
  | 47 => some (.inl (t 0, 198, .inl (R 2)))
  | 48 => some (.inl (t 0, 33, .inl (R 3)))
  | 49 => some (.inl (t 0, 24252, .inl (R 4)))
  | 50 => some (.inl (t 0, 100, .inl (R 9)))
  | 51 => some (.inl (t 0, 48, .inl (R 16)))
  | 52 => some (.inl (t 0, 8, .inl (R 17)))
  | 53 => some (.inl (t 0, 8, .inl (R 18)))
  | 54 => some (.inl (t 0, 18, .inl (R 20)))
  | 55 => some (.inl (t 0, 18, .inl (R 21)))
  | 56 => some (.inl (t 0, 18, .inl (R 22)))
  | 57 => some (.inl (t 1, 20, .inl (R 24)))
  | 58 => some (.inl (t 0, 1572, .inl (R 26)))
  | 59 => some (.inl (t 0, 262, .inl (R 27)))
  | k => σ0 k
theorem mS_off {t : Nat → ClassId} {b : Nat} {σ0 : qM} {I I2 : Nat → Int32} {R R2 : Nat → Nat → Int32} {k : Nat} (h : k < 45 ∨ 59 < k) : mS t b σ0 I R k = σ0 k := by
  unfold mS
  split <;> first | rfl | (exfalso; omega)
theorem mSp_0 {t : Nat → ClassId} {b : Nat} {σ0 : qM} {I : Nat → Int32} {R : Nat → Nat → Int32} {v : Int32} : va_up (mS t b σ0 I R) 45 (some (.inr (13, (mF b I).set 0 (.int v)))) = mS t b σ0 (va_up I 0 v) R := by
  funext k
  by_cases h : k = 45
  · subst h
    rw [va_up_self]
    rfl
  · rw [va_up_ne _ _ h]
    unfold mS
    split <;> first | rfl | exact absurd rfl h | (split <;> first | rfl | (exfalso; simp_all))
theorem mSr_1 {t : Nat → ClassId} {b : Nat} {σ0 : qM} {I : Nat → Int32} {R : Nat → Nat → Int32} {f : Nat → Int32} : va_up (mS t b σ0 I R) 46 (some (.inl (t 0, 12, .inl f))) = mS t b σ0 I (va_up R 1 f) := by
  funext k
  by_cases h : k = 46
  · subst h
    rw [va_up_self]
    rfl
  · rw [va_up_ne _ _ h]
    unfold mS
    split <;> first | rfl | exact absurd rfl h | (split <;> first | rfl | (exfalso; simp_all))
theorem mSr_2 {t : Nat → ClassId} {b : Nat} {σ0 : qM} {I : Nat → Int32} {R : Nat → Nat → Int32} {f : Nat → Int32} : va_up (mS t b σ0 I R) 47 (some (.inl (t 0, 198, .inl f))) = mS t b σ0 I (va_up R 2 f) := by
  funext k
  by_cases h : k = 47
  · subst h
    rw [va_up_self]
    rfl
  · rw [va_up_ne _ _ h]
    unfold mS
    split <;> first | rfl | exact absurd rfl h | (split <;> first | rfl | (exfalso; simp_all))
theorem mSr_3 {t : Nat → ClassId} {b : Nat} {σ0 : qM} {I : Nat → Int32} {R : Nat → Nat → Int32} {f : Nat → Int32} : va_up (mS t b σ0 I R) 48 (some (.inl (t 0, 33, .inl f))) = mS t b σ0 I (va_up R 3 f) := by
  funext k
  by_cases h : k = 48
  · subst h
    rw [va_up_self]
    rfl
  · rw [va_up_ne _ _ h]
    unfold mS
    split <;> first | rfl | exact absurd rfl h | (split <;> first | rfl | (exfalso; simp_all))
theorem mSr_4 {t : Nat → ClassId} {b : Nat} {σ0 : qM} {I : Nat → Int32} {R : Nat → Nat → Int32} {f : Nat → Int32} : va_up (mS t b σ0 I R) 49 (some (.inl (t 0, 24252, .inl f))) = mS t b σ0 I (va_up R 4 f) := by
  funext k
  by_cases h : k = 49
  · subst h
    rw [va_up_self]
    rfl
  · rw [va_up_ne _ _ h]
    unfold mS
    split <;> first | rfl | exact absurd rfl h | (split <;> first | rfl | (exfalso; simp_all))
theorem mSp_5 {t : Nat → ClassId} {b : Nat} {σ0 : qM} {I : Nat → Int32} {R : Nat → Nat → Int32} {v : Int32} : va_up (mS t b σ0 I R) 45 (some (.inr (13, (mF b I).set 5 (.int v)))) = mS t b σ0 (va_up I 5 v) R := by
  funext k
  by_cases h : k = 45
  · subst h
    rw [va_up_self]
    rfl
  · rw [va_up_ne _ _ h]
    unfold mS
    split <;> first | rfl | exact absurd rfl h | (split <;> first | rfl | (exfalso; simp_all))
theorem mSp_6 {t : Nat → ClassId} {b : Nat} {σ0 : qM} {I : Nat → Int32} {R : Nat → Nat → Int32} {v : Int32} : va_up (mS t b σ0 I R) 45 (some (.inr (13, (mF b I).set 6 (.int v)))) = mS t b σ0 (va_up I 6 v) R := by
  funext k
  by_cases h : k = 45
  · subst h
    rw [va_up_self]
    rfl
  · rw [va_up_ne _ _ h]
    unfold mS
    split <;> first | rfl | exact absurd rfl h | (split <;> first | rfl | (exfalso; simp_all))
theorem mSp_7 {t : Nat → ClassId} {b : Nat} {σ0 : qM} {I : Nat → Int32} {R : Nat → Nat → Int32} {v : Int32} : va_up (mS t b σ0 I R) 45 (some (.inr (13, (mF b I).set 7 (.int v)))) = mS t b σ0 (va_up I 7 v) R := by
  funext k
  by_cases h : k = 45
  · subst h
    rw [va_up_self]
    rfl
  · rw [va_up_ne _ _ h]
    unfold mS
    split <;> first | rfl | exact absurd rfl h | (split <;> first | rfl | (exfalso; simp_all))
theorem mSp_8 {t : Nat → ClassId} {b : Nat} {σ0 : qM} {I : Nat → Int32} {R : Nat → Nat → Int32} {v : Int32} : va_up (mS t b σ0 I R) 45 (some (.inr (13, (mF b I).set 8 (.int v)))) = mS t b σ0 (va_up I 8 v) R := by
  funext k
  by_cases h : k = 45
  · subst h
    rw [va_up_self]
    rfl
  · rw [va_up_ne _ _ h]
    unfold mS
    split <;> first | rfl | exact absurd rfl h | (split <;> first | rfl | (exfalso; simp_all))
theorem mSr_9 {t : Nat → ClassId} {b : Nat} {σ0 : qM} {I : Nat → Int32} {R : Nat → Nat → Int32} {f : Nat → Int32} : va_up (mS t b σ0 I R) 50 (some (.inl (t 0, 100, .inl f))) = mS t b σ0 I (va_up R 9 f) := by
  funext k
  by_cases h : k = 50
  · subst h
    rw [va_up_self]
    rfl
  · rw [va_up_ne _ _ h]
    unfold mS
    split <;> first | rfl | exact absurd rfl h | (split <;> first | rfl | (exfalso; simp_all))
theorem mSp_10 {t : Nat → ClassId} {b : Nat} {σ0 : qM} {I : Nat → Int32} {R : Nat → Nat → Int32} {v : Int32} : va_up (mS t b σ0 I R) 45 (some (.inr (13, (mF b I).set 10 (.int v)))) = mS t b σ0 (va_up I 10 v) R := by
  funext k
  by_cases h : k = 45
  · subst h
    rw [va_up_self]
    rfl
  · rw [va_up_ne _ _ h]
    unfold mS
    split <;> first | rfl | exact absurd rfl h | (split <;> first | rfl | (exfalso; simp_all))
theorem mSp_11 {t : Nat → ClassId} {b : Nat} {σ0 : qM} {I : Nat → Int32} {R : Nat → Nat → Int32} {v : Int32} : va_up (mS t b σ0 I R) 45 (some (.inr (13, (mF b I).set 11 (.int v)))) = mS t b σ0 (va_up I 11 v) R := by
  funext k
  by_cases h : k = 45
  · subst h
    rw [va_up_self]
    rfl
  · rw [va_up_ne _ _ h]
    unfold mS
    split <;> first | rfl | exact absurd rfl h | (split <;> first | rfl | (exfalso; simp_all))
theorem mSp_12 {t : Nat → ClassId} {b : Nat} {σ0 : qM} {I : Nat → Int32} {R : Nat → Nat → Int32} {v : Int32} : va_up (mS t b σ0 I R) 45 (some (.inr (13, (mF b I).set 12 (.int v)))) = mS t b σ0 (va_up I 12 v) R := by
  funext k
  by_cases h : k = 45
  · subst h
    rw [va_up_self]
    rfl
  · rw [va_up_ne _ _ h]
    unfold mS
    split <;> first | rfl | exact absurd rfl h | (split <;> first | rfl | (exfalso; simp_all))
theorem mSp_13 {t : Nat → ClassId} {b : Nat} {σ0 : qM} {I : Nat → Int32} {R : Nat → Nat → Int32} {v : Int32} : va_up (mS t b σ0 I R) 45 (some (.inr (13, (mF b I).set 13 (.int v)))) = mS t b σ0 (va_up I 13 v) R := by
  funext k
  by_cases h : k = 45
  · subst h
    rw [va_up_self]
    rfl
  · rw [va_up_ne _ _ h]
    unfold mS
    split <;> first | rfl | exact absurd rfl h | (split <;> first | rfl | (exfalso; simp_all))
theorem mSp_14 {t : Nat → ClassId} {b : Nat} {σ0 : qM} {I : Nat → Int32} {R : Nat → Nat → Int32} {v : Int32} : va_up (mS t b σ0 I R) 45 (some (.inr (13, (mF b I).set 14 (.int v)))) = mS t b σ0 (va_up I 14 v) R := by
  funext k
  by_cases h : k = 45
  · subst h
    rw [va_up_self]
    rfl
  · rw [va_up_ne _ _ h]
    unfold mS
    split <;> first | rfl | exact absurd rfl h | (split <;> first | rfl | (exfalso; simp_all))
theorem mSp_15 {t : Nat → ClassId} {b : Nat} {σ0 : qM} {I : Nat → Int32} {R : Nat → Nat → Int32} {v : Int32} : va_up (mS t b σ0 I R) 45 (some (.inr (13, (mF b I).set 15 (.int v)))) = mS t b σ0 (va_up I 15 v) R := by
  funext k
  by_cases h : k = 45
  · subst h
    rw [va_up_self]
    rfl
  · rw [va_up_ne _ _ h]
    unfold mS
    split <;> first | rfl | exact absurd rfl h | (split <;> first | rfl | (exfalso; simp_all))
theorem mSr_16 {t : Nat → ClassId} {b : Nat} {σ0 : qM} {I : Nat → Int32} {R : Nat → Nat → Int32} {f : Nat → Int32} : va_up (mS t b σ0 I R) 51 (some (.inl (t 0, 48, .inl f))) = mS t b σ0 I (va_up R 16 f) := by
  funext k
  by_cases h : k = 51
  · subst h
    rw [va_up_self]
    rfl
  · rw [va_up_ne _ _ h]
    unfold mS
    split <;> first | rfl | exact absurd rfl h | (split <;> first | rfl | (exfalso; simp_all))
theorem mSr_17 {t : Nat → ClassId} {b : Nat} {σ0 : qM} {I : Nat → Int32} {R : Nat → Nat → Int32} {f : Nat → Int32} : va_up (mS t b σ0 I R) 52 (some (.inl (t 0, 8, .inl f))) = mS t b σ0 I (va_up R 17 f) := by
  funext k
  by_cases h : k = 52
  · subst h
    rw [va_up_self]
    rfl
  · rw [va_up_ne _ _ h]
    unfold mS
    split <;> first | rfl | exact absurd rfl h | (split <;> first | rfl | (exfalso; simp_all))
theorem mSr_18 {t : Nat → ClassId} {b : Nat} {σ0 : qM} {I : Nat → Int32} {R : Nat → Nat → Int32} {f : Nat → Int32} : va_up (mS t b σ0 I R) 53 (some (.inl (t 0, 8, .inl f))) = mS t b σ0 I (va_up R 18 f) := by
  funext k
  by_cases h : k = 53
  · subst h
    rw [va_up_self]
    rfl
  · rw [va_up_ne _ _ h]
    unfold mS
    split <;> first | rfl | exact absurd rfl h | (split <;> first | rfl | (exfalso; simp_all))
theorem mSp_19 {t : Nat → ClassId} {b : Nat} {σ0 : qM} {I : Nat → Int32} {R : Nat → Nat → Int32} {v : Int32} : va_up (mS t b σ0 I R) 45 (some (.inr (13, (mF b I).set 19 (.int v)))) = mS t b σ0 (va_up I 19 v) R := by
  funext k
  by_cases h : k = 45
  · subst h
    rw [va_up_self]
    rfl
  · rw [va_up_ne _ _ h]
    unfold mS
    split <;> first | rfl | exact absurd rfl h | (split <;> first | rfl | (exfalso; simp_all))
theorem mSr_20 {t : Nat → ClassId} {b : Nat} {σ0 : qM} {I : Nat → Int32} {R : Nat → Nat → Int32} {f : Nat → Int32} : va_up (mS t b σ0 I R) 54 (some (.inl (t 0, 18, .inl f))) = mS t b σ0 I (va_up R 20 f) := by
  funext k
  by_cases h : k = 54
  · subst h
    rw [va_up_self]
    rfl
  · rw [va_up_ne _ _ h]
    unfold mS
    split <;> first | rfl | exact absurd rfl h | (split <;> first | rfl | (exfalso; simp_all))
theorem mSr_21 {t : Nat → ClassId} {b : Nat} {σ0 : qM} {I : Nat → Int32} {R : Nat → Nat → Int32} {f : Nat → Int32} : va_up (mS t b σ0 I R) 55 (some (.inl (t 0, 18, .inl f))) = mS t b σ0 I (va_up R 21 f) := by
  funext k
  by_cases h : k = 55
  · subst h
    rw [va_up_self]
    rfl
  · rw [va_up_ne _ _ h]
    unfold mS
    split <;> first | rfl | exact absurd rfl h | (split <;> first | rfl | (exfalso; simp_all))
theorem mSr_22 {t : Nat → ClassId} {b : Nat} {σ0 : qM} {I : Nat → Int32} {R : Nat → Nat → Int32} {f : Nat → Int32} : va_up (mS t b σ0 I R) 56 (some (.inl (t 0, 18, .inl f))) = mS t b σ0 I (va_up R 22 f) := by
  funext k
  by_cases h : k = 56
  · subst h
    rw [va_up_self]
    rfl
  · rw [va_up_ne _ _ h]
    unfold mS
    split <;> first | rfl | exact absurd rfl h | (split <;> first | rfl | (exfalso; simp_all))
theorem mSp_23 {t : Nat → ClassId} {b : Nat} {σ0 : qM} {I : Nat → Int32} {R : Nat → Nat → Int32} {v : Int32} : va_up (mS t b σ0 I R) 45 (some (.inr (13, (mF b I).set 23 (.int v)))) = mS t b σ0 (va_up I 23 v) R := by
  funext k
  by_cases h : k = 45
  · subst h
    rw [va_up_self]
    rfl
  · rw [va_up_ne _ _ h]
    unfold mS
    split <;> first | rfl | exact absurd rfl h | (split <;> first | rfl | (exfalso; simp_all))
theorem mSr_24 {t : Nat → ClassId} {b : Nat} {σ0 : qM} {I : Nat → Int32} {R : Nat → Nat → Int32} {f : Nat → Int32} : va_up (mS t b σ0 I R) 57 (some (.inl (t 1, 20, .inl f))) = mS t b σ0 I (va_up R 24 f) := by
  funext k
  by_cases h : k = 57
  · subst h
    rw [va_up_self]
    rfl
  · rw [va_up_ne _ _ h]
    unfold mS
    split <;> first | rfl | exact absurd rfl h | (split <;> first | rfl | (exfalso; simp_all))
theorem mSp_25 {t : Nat → ClassId} {b : Nat} {σ0 : qM} {I : Nat → Int32} {R : Nat → Nat → Int32} {v : Int32} : va_up (mS t b σ0 I R) 45 (some (.inr (13, (mF b I).set 25 (.int v)))) = mS t b σ0 (va_up I 25 v) R := by
  funext k
  by_cases h : k = 45
  · subst h
    rw [va_up_self]
    rfl
  · rw [va_up_ne _ _ h]
    unfold mS
    split <;> first | rfl | exact absurd rfl h | (split <;> first | rfl | (exfalso; simp_all))
theorem mSr_26 {t : Nat → ClassId} {b : Nat} {σ0 : qM} {I : Nat → Int32} {R : Nat → Nat → Int32} {f : Nat → Int32} : va_up (mS t b σ0 I R) 58 (some (.inl (t 0, 1572, .inl f))) = mS t b σ0 I (va_up R 26 f) := by
  funext k
  by_cases h : k = 58
  · subst h
    rw [va_up_self]
    rfl
  · rw [va_up_ne _ _ h]
    unfold mS
    split <;> first | rfl | exact absurd rfl h | (split <;> first | rfl | (exfalso; simp_all))
theorem mSr_27 {t : Nat → ClassId} {b : Nat} {σ0 : qM} {I : Nat → Int32} {R : Nat → Nat → Int32} {f : Nat → Int32} : va_up (mS t b σ0 I R) 59 (some (.inl (t 0, 262, .inl f))) = mS t b σ0 I (va_up R 27 f) := by
  funext k
  by_cases h : k = 59
  · subst h
    rw [va_up_self]
    rfl
  · rw [va_up_ne _ _ h]
    unfold mS
    split <;> first | rfl | exact absurd rfl h | (split <;> first | rfl | (exfalso; simp_all))
theorem mSp_28 {t : Nat → ClassId} {b : Nat} {σ0 : qM} {I : Nat → Int32} {R : Nat → Nat → Int32} {v : Int32} : va_up (mS t b σ0 I R) 45 (some (.inr (13, (mF b I).set 28 (.int v)))) = mS t b σ0 (va_up I 28 v) R := by
  funext k
  by_cases h : k = 45
  · subst h
    rw [va_up_self]
    rfl
  · rw [va_up_ne _ _ h]
    unfold mS
    split <;> first | rfl | exact absurd rfl h | (split <;> first | rfl | (exfalso; simp_all))
theorem mSp_29 {t : Nat → ClassId} {b : Nat} {σ0 : qM} {I : Nat → Int32} {R : Nat → Nat → Int32} {v : Int32} : va_up (mS t b σ0 I R) 45 (some (.inr (13, (mF b I).set 29 (.int v)))) = mS t b σ0 (va_up I 29 v) R := by
  funext k
  by_cases h : k = 45
  · subst h
    rw [va_up_self]
    rfl
  · rw [va_up_ne _ _ h]
    unfold mS
    split <;> first | rfl | exact absurd rfl h | (split <;> first | rfl | (exfalso; simp_all))
theorem mSp_30 {t : Nat → ClassId} {b : Nat} {σ0 : qM} {I : Nat → Int32} {R : Nat → Nat → Int32} {v : Int32} : va_up (mS t b σ0 I R) 45 (some (.inr (13, (mF b I).set 30 (.int v)))) = mS t b σ0 (va_up I 30 v) R := by
  funext k
  by_cases h : k = 45
  · subst h
    rw [va_up_self]
    rfl
  · rw [va_up_ne _ _ h]
    unfold mS
    split <;> first | rfl | exact absurd rfl h | (split <;> first | rfl | (exfalso; simp_all))
theorem mSp_31 {t : Nat → ClassId} {b : Nat} {σ0 : qM} {I : Nat → Int32} {R : Nat → Nat → Int32} {v : Int32} : va_up (mS t b σ0 I R) 45 (some (.inr (13, (mF b I).set 31 (.int v)))) = mS t b σ0 (va_up I 31 v) R := by
  funext k
  by_cases h : k = 45
  · subst h
    rw [va_up_self]
    rfl
  · rw [va_up_ne _ _ h]
    unfold mS
    split <;> first | rfl | exact absurd rfl h | (split <;> first | rfl | (exfalso; simp_all))
section MR
variable {p : Program} {l : Launch} {e : Env} {R : Room} {s : State} {m : MethodId} {args : Array Value} {below : List Frame} {meth : Method} {c : Code} {H : Heap} {locs : List Loc} {cells slots : Nat} {Q : State → Prop}
variable {cc : ByteArray} {mL : Nat} {r : Option FieldType} {D : va_G} {t : Nat → ClassId} {b n : Nat} {σ0 : qM} {I : Nat → Int32} {Rw : Nat → Nat → Int32} {pc : Nat} {ls : Array Slot} {rest : List Value}
theorem mg_thrown (X : qX p s args m meth c RX9 cc mL r D t b) (w : qW D b n (mS t b σ0 I Rw) s H locs) (hdg : decode cc pc = .ok (.getfield 67, 3)) (kk : W p l e R s m args below meth c H locs cells slots Q (F0 m (pc + 3) ls (.int (I 0) :: rest))) : W p l e R s m args below meth c H locs cells slots Q (F0 m pc ls (.ref (b + 45) :: rest)) := q_get X w inX9 rfl 0 (by decide) fl_X9_67 (k := 45) rfl rfl hdg kk
theorem mp_thrown {v : Int32} (X : qX p s args m meth c RX9 cc mL r D t b) (w : qW D b n (mS t b σ0 I Rw) s H locs) (hdg : decode cc pc = .ok (.putfield 67, 3)) (kk : ∀ (H1 : Heap) (locs1 : List Loc), qW D b n (mS t b σ0 (va_up I 0 v) Rw) s H1 locs1 → W p l e R s m args below meth c H1 locs1 cells slots Q (F0 m (pc + 3) ls (rest))) : W p l e R s m args below meth c H locs cells slots Q (F0 m pc ls (.int v :: .ref (b + 45) :: rest)) := q_put X w inX9 tyX9 tyX9_ok nmX9 rfl 0 (by decide) fl_X9_67 rfl (k := 45) rfl rfl rfl (Nat.le_of_ble_eq_true rfl) hdg (fun H1 l1 w1 => kk H1 l1 (mSp_0 ▸ w1))
theorem mg_lengthAtFirst (X : qX p s args m meth c RX9 cc mL r D t b) (w : qW D b n (mS t b σ0 I Rw) s H locs) (hdg : decode cc pc = .ok (.getfield 7, 3)) (kk : W p l e R s m args below meth c H locs cells slots Q (F0 m (pc + 3) ls (.ref (b + 46) :: rest))) : W p l e R s m args below meth c H locs cells slots Q (F0 m pc ls (.ref (b + 45) :: rest)) := q_get X w inX9 rfl 1 (by decide) fl_X9_7 (k := 45) rfl rfl hdg kk
theorem ml_lengthAtFirst (X : qX p s args m meth c RX9 cc mL r D t b) (w : qW D b n (mS t b σ0 I Rw) s H locs) {i : Int32} (hin : vp_in i 12) (hdg : decode cc pc = .ok (.iaload, 1)) (kk : W p l e R s m args below meth c H locs cells slots Q (F0 m (pc + 1) ls (.int (Rw 1 i.toNatClampNeg) :: rest))) : W p l e R s m args below meth c H locs cells slots Q (F0 m pc ls (.int i :: .ref (b + 46) :: rest)) := q_iald X w (k := 46) rfl hin hdg kk
theorem ms_lengthAtFirst (X : qX p s args m meth c RX9 cc mL r D t b) (w : qW D b n (mS t b σ0 I Rw) s H locs) {i x : Int32} (hin : vp_in i 12) (hdg : decode cc pc = .ok (.iastore, 1)) (kk : ∀ (H1 : Heap) (locs1 : List Loc), qW D b n (mS t b σ0 I (va_up Rw 1 (upd (Rw 1) i.toNatClampNeg x))) s H1 locs1 → W p l e R s m args below meth c H1 locs1 cells slots Q (F0 m (pc + 1) ls (rest))) : W p l e R s m args below meth c H locs cells slots Q (F0 m pc ls (.int x :: .int i :: .ref (b + 46) :: rest)) := q_iast X w (k := 46) rfl hin hdg (fun H1 l1 w1 => kk H1 l1 (mSr_1 ▸ w1))
theorem mg_calendar (X : qX p s args m meth c RX9 cc mL r D t b) (w : qW D b n (mS t b σ0 I Rw) s H locs) (hdg : decode cc pc = .ok (.getfield 13, 3)) (kk : W p l e R s m args below meth c H locs cells slots Q (F0 m (pc + 3) ls (.ref (b + 47) :: rest))) : W p l e R s m args below meth c H locs cells slots Q (F0 m pc ls (.ref (b + 45) :: rest)) := q_get X w inX9 rfl 2 (by decide) fl_X9_13 (k := 45) rfl rfl hdg kk
theorem ml_calendar (X : qX p s args m meth c RX9 cc mL r D t b) (w : qW D b n (mS t b σ0 I Rw) s H locs) {i : Int32} (hin : vp_in i 198) (hdg : decode cc pc = .ok (.iaload, 1)) (kk : W p l e R s m args below meth c H locs cells slots Q (F0 m (pc + 1) ls (.int (Rw 2 i.toNatClampNeg) :: rest))) : W p l e R s m args below meth c H locs cells slots Q (F0 m pc ls (.int i :: .ref (b + 47) :: rest)) := q_iald X w (k := 47) rfl hin hdg kk
theorem ms_calendar (X : qX p s args m meth c RX9 cc mL r D t b) (w : qW D b n (mS t b σ0 I Rw) s H locs) {i x : Int32} (hin : vp_in i 198) (hdg : decode cc pc = .ok (.iastore, 1)) (kk : ∀ (H1 : Heap) (locs1 : List Loc), qW D b n (mS t b σ0 I (va_up Rw 2 (upd (Rw 2) i.toNatClampNeg x))) s H1 locs1 → W p l e R s m args below meth c H1 locs1 cells slots Q (F0 m (pc + 1) ls (rest))) : W p l e R s m args below meth c H locs cells slots Q (F0 m pc ls (.int x :: .int i :: .ref (b + 47) :: rest)) := q_iast X w (k := 47) rfl hin hdg (fun H1 l1 w1 => kk H1 l1 (mSr_2 ▸ w1))
theorem mg_read (X : qX p s args m meth c RX9 cc mL r D t b) (w : qW D b n (mS t b σ0 I Rw) s H locs) (hdg : decode cc pc = .ok (.getfield 16, 3)) (kk : W p l e R s m args below meth c H locs cells slots Q (F0 m (pc + 3) ls (.ref (b + 48) :: rest))) : W p l e R s m args below meth c H locs cells slots Q (F0 m pc ls (.ref (b + 45) :: rest)) := q_get X w inX9 rfl 3 (by decide) fl_X9_16 (k := 45) rfl rfl hdg kk
theorem ml_read (X : qX p s args m meth c RX9 cc mL r D t b) (w : qW D b n (mS t b σ0 I Rw) s H locs) {i : Int32} (hin : vp_in i 33) (hdg : decode cc pc = .ok (.iaload, 1)) (kk : W p l e R s m args below meth c H locs cells slots Q (F0 m (pc + 1) ls (.int (Rw 3 i.toNatClampNeg) :: rest))) : W p l e R s m args below meth c H locs cells slots Q (F0 m pc ls (.int i :: .ref (b + 48) :: rest)) := q_iald X w (k := 48) rfl hin hdg kk
theorem ms_read (X : qX p s args m meth c RX9 cc mL r D t b) (w : qW D b n (mS t b σ0 I Rw) s H locs) {i x : Int32} (hin : vp_in i 33) (hdg : decode cc pc = .ok (.iastore, 1)) (kk : ∀ (H1 : Heap) (locs1 : List Loc), qW D b n (mS t b σ0 I (va_up Rw 3 (upd (Rw 3) i.toNatClampNeg x))) s H1 locs1 → W p l e R s m args below meth c H1 locs1 cells slots Q (F0 m (pc + 1) ls (rest))) : W p l e R s m args below meth c H locs cells slots Q (F0 m pc ls (.int x :: .int i :: .ref (b + 48) :: rest)) := q_iast X w (k := 48) rfl hin hdg (fun H1 l1 w1 => kk H1 l1 (mSr_3 ▸ w1))
theorem mg_firstOf (X : qX p s args m meth c RX9 cc mL r D t b) (w : qW D b n (mS t b σ0 I Rw) s H locs) (hdg : decode cc pc = .ok (.getfield 19, 3)) (kk : W p l e R s m args below meth c H locs cells slots Q (F0 m (pc + 3) ls (.ref (b + 49) :: rest))) : W p l e R s m args below meth c H locs cells slots Q (F0 m pc ls (.ref (b + 45) :: rest)) := q_get X w inX9 rfl 4 (by decide) fl_X9_19 (k := 45) rfl rfl hdg kk
theorem ml_firstOf (X : qX p s args m meth c RX9 cc mL r D t b) (w : qW D b n (mS t b σ0 I Rw) s H locs) {i : Int32} (hin : vp_in i 24252) (hdg : decode cc pc = .ok (.iaload, 1)) (kk : W p l e R s m args below meth c H locs cells slots Q (F0 m (pc + 1) ls (.int (Rw 4 i.toNatClampNeg) :: rest))) : W p l e R s m args below meth c H locs cells slots Q (F0 m pc ls (.int i :: .ref (b + 49) :: rest)) := q_iald X w (k := 49) rfl hin hdg kk
theorem ms_firstOf (X : qX p s args m meth c RX9 cc mL r D t b) (w : qW D b n (mS t b σ0 I Rw) s H locs) {i x : Int32} (hin : vp_in i 24252) (hdg : decode cc pc = .ok (.iastore, 1)) (kk : ∀ (H1 : Heap) (locs1 : List Loc), qW D b n (mS t b σ0 I (va_up Rw 4 (upd (Rw 4) i.toNatClampNeg x))) s H1 locs1 → W p l e R s m args below meth c H1 locs1 cells slots Q (F0 m (pc + 1) ls (rest))) : W p l e R s m args below meth c H locs cells slots Q (F0 m pc ls (.int x :: .int i :: .ref (b + 49) :: rest)) := q_iast X w (k := 49) rfl hin hdg (fun H1 l1 w1 => kk H1 l1 (mSr_4 ▸ w1))
theorem mg_calendars (X : qX p s args m meth c RX9 cc mL r D t b) (w : qW D b n (mS t b σ0 I Rw) s H locs) (hdg : decode cc pc = .ok (.getfield 64, 3)) (kk : W p l e R s m args below meth c H locs cells slots Q (F0 m (pc + 3) ls (.int (I 5) :: rest))) : W p l e R s m args below meth c H locs cells slots Q (F0 m pc ls (.ref (b + 45) :: rest)) := q_get X w inX9 rfl 5 (by decide) fl_X9_64 (k := 45) rfl rfl hdg kk
theorem mp_calendars {v : Int32} (X : qX p s args m meth c RX9 cc mL r D t b) (w : qW D b n (mS t b σ0 I Rw) s H locs) (hdg : decode cc pc = .ok (.putfield 64, 3)) (kk : ∀ (H1 : Heap) (locs1 : List Loc), qW D b n (mS t b σ0 (va_up I 5 v) Rw) s H1 locs1 → W p l e R s m args below meth c H1 locs1 cells slots Q (F0 m (pc + 3) ls (rest))) : W p l e R s m args below meth c H locs cells slots Q (F0 m pc ls (.int v :: .ref (b + 45) :: rest)) := q_put X w inX9 tyX9 tyX9_ok nmX9 rfl 5 (by decide) fl_X9_64 rfl (k := 45) rfl rfl rfl (Nat.le_of_ble_eq_true rfl) hdg (fun H1 l1 w1 => kk H1 l1 (mSp_5 ▸ w1))
theorem mg_year (X : qX p s args m meth c RX9 cc mL r D t b) (w : qW D b n (mS t b σ0 I Rw) s H locs) (hdg : decode cc pc = .ok (.getfield 127, 3)) (kk : W p l e R s m args below meth c H locs cells slots Q (F0 m (pc + 3) ls (.int (I 6) :: rest))) : W p l e R s m args below meth c H locs cells slots Q (F0 m pc ls (.ref (b + 45) :: rest)) := q_get X w inX9 rfl 6 (by decide) fl_X9_127 (k := 45) rfl rfl hdg kk
theorem mp_year {v : Int32} (X : qX p s args m meth c RX9 cc mL r D t b) (w : qW D b n (mS t b σ0 I Rw) s H locs) (hdg : decode cc pc = .ok (.putfield 127, 3)) (kk : ∀ (H1 : Heap) (locs1 : List Loc), qW D b n (mS t b σ0 (va_up I 6 v) Rw) s H1 locs1 → W p l e R s m args below meth c H1 locs1 cells slots Q (F0 m (pc + 3) ls (rest))) : W p l e R s m args below meth c H locs cells slots Q (F0 m pc ls (.int v :: .ref (b + 45) :: rest)) := q_put X w inX9 tyX9 tyX9_ok nmX9 rfl 6 (by decide) fl_X9_127 rfl (k := 45) rfl rfl rfl (Nat.le_of_ble_eq_true rfl) hdg (fun H1 l1 w1 => kk H1 l1 (mSp_6 ▸ w1))
theorem mg_month (X : qX p s args m meth c RX9 cc mL r D t b) (w : qW D b n (mS t b σ0 I Rw) s H locs) (hdg : decode cc pc = .ok (.getfield 130, 3)) (kk : W p l e R s m args below meth c H locs cells slots Q (F0 m (pc + 3) ls (.int (I 7) :: rest))) : W p l e R s m args below meth c H locs cells slots Q (F0 m pc ls (.ref (b + 45) :: rest)) := q_get X w inX9 rfl 7 (by decide) fl_X9_130 (k := 45) rfl rfl hdg kk
theorem mp_month {v : Int32} (X : qX p s args m meth c RX9 cc mL r D t b) (w : qW D b n (mS t b σ0 I Rw) s H locs) (hdg : decode cc pc = .ok (.putfield 130, 3)) (kk : ∀ (H1 : Heap) (locs1 : List Loc), qW D b n (mS t b σ0 (va_up I 7 v) Rw) s H1 locs1 → W p l e R s m args below meth c H1 locs1 cells slots Q (F0 m (pc + 3) ls (rest))) : W p l e R s m args below meth c H locs cells slots Q (F0 m pc ls (.int v :: .ref (b + 45) :: rest)) := q_put X w inX9 tyX9 tyX9_ok nmX9 rfl 7 (by decide) fl_X9_130 rfl (k := 45) rfl rfl rfl (Nat.le_of_ble_eq_true rfl) hdg (fun H1 l1 w1 => kk H1 l1 (mSp_7 ▸ w1))
theorem mg_dayOfMonth (X : qX p s args m meth c RX9 cc mL r D t b) (w : qW D b n (mS t b σ0 I Rw) s H locs) (hdg : decode cc pc = .ok (.getfield 133, 3)) (kk : W p l e R s m args below meth c H locs cells slots Q (F0 m (pc + 3) ls (.int (I 8) :: rest))) : W p l e R s m args below meth c H locs cells slots Q (F0 m pc ls (.ref (b + 45) :: rest)) := q_get X w inX9 rfl 8 (by decide) fl_X9_133 (k := 45) rfl rfl hdg kk
theorem mp_dayOfMonth {v : Int32} (X : qX p s args m meth c RX9 cc mL r D t b) (w : qW D b n (mS t b σ0 I Rw) s H locs) (hdg : decode cc pc = .ok (.putfield 133, 3)) (kk : ∀ (H1 : Heap) (locs1 : List Loc), qW D b n (mS t b σ0 (va_up I 8 v) Rw) s H1 locs1 → W p l e R s m args below meth c H1 locs1 cells slots Q (F0 m (pc + 3) ls (rest))) : W p l e R s m args below meth c H locs cells slots Q (F0 m pc ls (.int v :: .ref (b + 45) :: rest)) := q_put X w inX9 tyX9 tyX9_ok nmX9 rfl 8 (by decide) fl_X9_133 rfl (k := 45) rfl rfl rfl (Nat.le_of_ble_eq_true rfl) hdg (fun H1 l1 w1 => kk H1 l1 (mSp_8 ▸ w1))
theorem mg_text (X : qX p s args m meth c RX9 cc mL r D t b) (w : qW D b n (mS t b σ0 I Rw) s H locs) (hdg : decode cc pc = .ok (.getfield 22, 3)) (kk : W p l e R s m args below meth c H locs cells slots Q (F0 m (pc + 3) ls (.ref (b + 50) :: rest))) : W p l e R s m args below meth c H locs cells slots Q (F0 m pc ls (.ref (b + 45) :: rest)) := q_get X w inX9 rfl 9 (by decide) fl_X9_22 (k := 45) rfl rfl hdg kk
theorem ml_text (X : qX p s args m meth c RX9 cc mL r D t b) (w : qW D b n (mS t b σ0 I Rw) s H locs) {i : Int32} (hin : vp_in i 100) (hdg : decode cc pc = .ok (.iaload, 1)) (kk : W p l e R s m args below meth c H locs cells slots Q (F0 m (pc + 1) ls (.int (Rw 9 i.toNatClampNeg) :: rest))) : W p l e R s m args below meth c H locs cells slots Q (F0 m pc ls (.int i :: .ref (b + 50) :: rest)) := q_iald X w (k := 50) rfl hin hdg kk
theorem ms_text (X : qX p s args m meth c RX9 cc mL r D t b) (w : qW D b n (mS t b σ0 I Rw) s H locs) {i x : Int32} (hin : vp_in i 100) (hdg : decode cc pc = .ok (.iastore, 1)) (kk : ∀ (H1 : Heap) (locs1 : List Loc), qW D b n (mS t b σ0 I (va_up Rw 9 (upd (Rw 9) i.toNatClampNeg x))) s H1 locs1 → W p l e R s m args below meth c H1 locs1 cells slots Q (F0 m (pc + 1) ls (rest))) : W p l e R s m args below meth c H locs cells slots Q (F0 m pc ls (.int x :: .int i :: .ref (b + 50) :: rest)) := q_iast X w (k := 50) rfl hin hdg (fun H1 l1 w1 => kk H1 l1 (mSr_9 ▸ w1))
theorem mg_length (X : qX p s args m meth c RX9 cc mL r D t b) (w : qW D b n (mS t b σ0 I Rw) s H locs) (hdg : decode cc pc = .ok (.getfield 147, 3)) (kk : W p l e R s m args below meth c H locs cells slots Q (F0 m (pc + 3) ls (.int (I 10) :: rest))) : W p l e R s m args below meth c H locs cells slots Q (F0 m pc ls (.ref (b + 45) :: rest)) := q_get X w inX9 rfl 10 (by decide) fl_X9_147 (k := 45) rfl rfl hdg kk
theorem mp_length {v : Int32} (X : qX p s args m meth c RX9 cc mL r D t b) (w : qW D b n (mS t b σ0 I Rw) s H locs) (hdg : decode cc pc = .ok (.putfield 147, 3)) (kk : ∀ (H1 : Heap) (locs1 : List Loc), qW D b n (mS t b σ0 (va_up I 10 v) Rw) s H1 locs1 → W p l e R s m args below meth c H1 locs1 cells slots Q (F0 m (pc + 3) ls (rest))) : W p l e R s m args below meth c H locs cells slots Q (F0 m pc ls (.int v :: .ref (b + 45) :: rest)) := q_put X w inX9 tyX9 tyX9_ok nmX9 rfl 10 (by decide) fl_X9_147 rfl (k := 45) rfl rfl rfl (Nat.le_of_ble_eq_true rfl) hdg (fun H1 l1 w1 => kk H1 l1 (mSp_10 ▸ w1))
theorem mg_at (X : qX p s args m meth c RX9 cc mL r D t b) (w : qW D b n (mS t b σ0 I Rw) s H locs) (hdg : decode cc pc = .ok (.getfield 150, 3)) (kk : W p l e R s m args below meth c H locs cells slots Q (F0 m (pc + 3) ls (.int (I 11) :: rest))) : W p l e R s m args below meth c H locs cells slots Q (F0 m pc ls (.ref (b + 45) :: rest)) := q_get X w inX9 rfl 11 (by decide) fl_X9_150 (k := 45) rfl rfl hdg kk
theorem mp_at {v : Int32} (X : qX p s args m meth c RX9 cc mL r D t b) (w : qW D b n (mS t b σ0 I Rw) s H locs) (hdg : decode cc pc = .ok (.putfield 150, 3)) (kk : ∀ (H1 : Heap) (locs1 : List Loc), qW D b n (mS t b σ0 (va_up I 11 v) Rw) s H1 locs1 → W p l e R s m args below meth c H1 locs1 cells slots Q (F0 m (pc + 3) ls (rest))) : W p l e R s m args below meth c H locs cells slots Q (F0 m pc ls (.int v :: .ref (b + 45) :: rest)) := q_put X w inX9 tyX9 tyX9_ok nmX9 rfl 11 (by decide) fl_X9_150 rfl (k := 45) rfl rfl rfl (Nat.le_of_ble_eq_true rfl) hdg (fun H1 l1 w1 => kk H1 l1 (mSp_11 ▸ w1))
theorem mg_faultAt (X : qX p s args m meth c RX9 cc mL r D t b) (w : qW D b n (mS t b σ0 I Rw) s H locs) (hdg : decode cc pc = .ok (.getfield 25, 3)) (kk : W p l e R s m args below meth c H locs cells slots Q (F0 m (pc + 3) ls (.int (I 12) :: rest))) : W p l e R s m args below meth c H locs cells slots Q (F0 m pc ls (.ref (b + 45) :: rest)) := q_get X w inX9 rfl 12 (by decide) fl_X9_25 (k := 45) rfl rfl hdg kk
theorem mp_faultAt {v : Int32} (X : qX p s args m meth c RX9 cc mL r D t b) (w : qW D b n (mS t b σ0 I Rw) s H locs) (hdg : decode cc pc = .ok (.putfield 25, 3)) (kk : ∀ (H1 : Heap) (locs1 : List Loc), qW D b n (mS t b σ0 (va_up I 12 v) Rw) s H1 locs1 → W p l e R s m args below meth c H1 locs1 cells slots Q (F0 m (pc + 3) ls (rest))) : W p l e R s m args below meth c H locs cells slots Q (F0 m pc ls (.int v :: .ref (b + 45) :: rest)) := q_put X w inX9 tyX9 tyX9_ok nmX9 rfl 12 (by decide) fl_X9_25 rfl (k := 45) rfl rfl rfl (Nat.le_of_ble_eq_true rfl) hdg (fun H1 l1 w1 => kk H1 l1 (mSp_12 ▸ w1))
theorem mg_remainder (X : qX p s args m meth c RX9 cc mL r D t b) (w : qW D b n (mS t b σ0 I Rw) s H locs) (hdg : decode cc pc = .ok (.getfield 169, 3)) (kk : W p l e R s m args below meth c H locs cells slots Q (F0 m (pc + 3) ls (.int (I 13) :: rest))) : W p l e R s m args below meth c H locs cells slots Q (F0 m pc ls (.ref (b + 45) :: rest)) := q_get X w inX9 rfl 13 (by decide) fl_X9_169 (k := 45) rfl rfl hdg kk
theorem mp_remainder {v : Int32} (X : qX p s args m meth c RX9 cc mL r D t b) (w : qW D b n (mS t b σ0 I Rw) s H locs) (hdg : decode cc pc = .ok (.putfield 169, 3)) (kk : ∀ (H1 : Heap) (locs1 : List Loc), qW D b n (mS t b σ0 (va_up I 13 v) Rw) s H1 locs1 → W p l e R s m args below meth c H1 locs1 cells slots Q (F0 m (pc + 3) ls (rest))) : W p l e R s m args below meth c H locs cells slots Q (F0 m pc ls (.int v :: .ref (b + 45) :: rest)) := q_put X w inX9 tyX9 tyX9_ok nmX9 rfl 13 (by decide) fl_X9_169 rfl (k := 45) rfl rfl rfl (Nat.le_of_ble_eq_true rfl) hdg (fun H1 l1 w1 => kk H1 l1 (mSp_13 ▸ w1))
theorem mg_isTooGreat (X : qX p s args m meth c RX9 cc mL r D t b) (w : qW D b n (mS t b σ0 I Rw) s H locs) (hdg : decode cc pc = .ok (.getfield 172, 3)) (kk : W p l e R s m args below meth c H locs cells slots Q (F0 m (pc + 3) ls (.int (I 14) :: rest))) : W p l e R s m args below meth c H locs cells slots Q (F0 m pc ls (.ref (b + 45) :: rest)) := q_get X w inX9 rfl 14 (by decide) fl_X9_172 (k := 45) rfl rfl hdg kk
theorem mp_isTooGreat {v : Int32} (X : qX p s args m meth c RX9 cc mL r D t b) (w : qW D b n (mS t b σ0 I Rw) s H locs) (hdg : decode cc pc = .ok (.putfield 172, 3)) (hn : narrow .boolean (.int v) = .int v) (hf : fits .boolean (.int v) = true) (kk : ∀ (H1 : Heap) (locs1 : List Loc), qW D b n (mS t b σ0 (va_up I 14 v) Rw) s H1 locs1 → W p l e R s m args below meth c H1 locs1 cells slots Q (F0 m (pc + 3) ls (rest))) : W p l e R s m args below meth c H locs cells slots Q (F0 m pc ls (.int v :: .ref (b + 45) :: rest)) := q_put X w inX9 tyX9 tyX9_ok nmX9 rfl 14 (by decide) fl_X9_172 rfl (k := 45) rfl hn hf (Nat.le_of_ble_eq_true rfl) hdg (fun H1 l1 w1 => kk H1 l1 (mSp_14 ▸ w1))
theorem mg_isWeeksTold (X : qX p s args m meth c RX9 cc mL r D t b) (w : qW D b n (mS t b σ0 I Rw) s H locs) (hdg : decode cc pc = .ok (.getfield 185, 3)) (kk : W p l e R s m args below meth c H locs cells slots Q (F0 m (pc + 3) ls (.int (I 15) :: rest))) : W p l e R s m args below meth c H locs cells slots Q (F0 m pc ls (.ref (b + 45) :: rest)) := q_get X w inX9 rfl 15 (by decide) fl_X9_185 (k := 45) rfl rfl hdg kk
theorem mp_isWeeksTold {v : Int32} (X : qX p s args m meth c RX9 cc mL r D t b) (w : qW D b n (mS t b σ0 I Rw) s H locs) (hdg : decode cc pc = .ok (.putfield 185, 3)) (hn : narrow .boolean (.int v) = .int v) (hf : fits .boolean (.int v) = true) (kk : ∀ (H1 : Heap) (locs1 : List Loc), qW D b n (mS t b σ0 (va_up I 15 v) Rw) s H1 locs1 → W p l e R s m args below meth c H1 locs1 cells slots Q (F0 m (pc + 3) ls (rest))) : W p l e R s m args below meth c H locs cells slots Q (F0 m pc ls (.int v :: .ref (b + 45) :: rest)) := q_put X w inX9 tyX9 tyX9_ok nmX9 rfl 15 (by decide) fl_X9_185 rfl (k := 45) rfl hn hf (Nat.le_of_ble_eq_true rfl) hdg (fun H1 l1 w1 => kk H1 l1 (mSp_15 ▸ w1))
theorem mg_feast (X : qX p s args m meth c RX9 cc mL r D t b) (w : qW D b n (mS t b σ0 I Rw) s H locs) (hdg : decode cc pc = .ok (.getfield 29, 3)) (kk : W p l e R s m args below meth c H locs cells slots Q (F0 m (pc + 3) ls (.ref (b + 51) :: rest))) : W p l e R s m args below meth c H locs cells slots Q (F0 m pc ls (.ref (b + 45) :: rest)) := q_get X w inX9 rfl 16 (by decide) fl_X9_29 (k := 45) rfl rfl hdg kk
theorem ml_feast (X : qX p s args m meth c RX9 cc mL r D t b) (w : qW D b n (mS t b σ0 I Rw) s H locs) {i : Int32} (hin : vp_in i 48) (hdg : decode cc pc = .ok (.iaload, 1)) (kk : W p l e R s m args below meth c H locs cells slots Q (F0 m (pc + 1) ls (.int (Rw 16 i.toNatClampNeg) :: rest))) : W p l e R s m args below meth c H locs cells slots Q (F0 m pc ls (.int i :: .ref (b + 51) :: rest)) := q_iald X w (k := 51) rfl hin hdg kk
theorem ms_feast (X : qX p s args m meth c RX9 cc mL r D t b) (w : qW D b n (mS t b σ0 I Rw) s H locs) {i x : Int32} (hin : vp_in i 48) (hdg : decode cc pc = .ok (.iastore, 1)) (kk : ∀ (H1 : Heap) (locs1 : List Loc), qW D b n (mS t b σ0 I (va_up Rw 16 (upd (Rw 16) i.toNatClampNeg x))) s H1 locs1 → W p l e R s m args below meth c H1 locs1 cells slots Q (F0 m (pc + 1) ls (rest))) : W p l e R s m args below meth c H locs cells slots Q (F0 m pc ls (.int x :: .int i :: .ref (b + 51) :: rest)) := q_iast X w (k := 51) rfl hin hdg (fun H1 l1 w1 => kk H1 l1 (mSr_16 ▸ w1))
theorem mg_feastDay (X : qX p s args m meth c RX9 cc mL r D t b) (w : qW D b n (mS t b σ0 I Rw) s H locs) (hdg : decode cc pc = .ok (.getfield 32, 3)) (kk : W p l e R s m args below meth c H locs cells slots Q (F0 m (pc + 3) ls (.ref (b + 52) :: rest))) : W p l e R s m args below meth c H locs cells slots Q (F0 m pc ls (.ref (b + 45) :: rest)) := q_get X w inX9 rfl 17 (by decide) fl_X9_32 (k := 45) rfl rfl hdg kk
theorem ml_feastDay (X : qX p s args m meth c RX9 cc mL r D t b) (w : qW D b n (mS t b σ0 I Rw) s H locs) {i : Int32} (hin : vp_in i 8) (hdg : decode cc pc = .ok (.iaload, 1)) (kk : W p l e R s m args below meth c H locs cells slots Q (F0 m (pc + 1) ls (.int (Rw 17 i.toNatClampNeg) :: rest))) : W p l e R s m args below meth c H locs cells slots Q (F0 m pc ls (.int i :: .ref (b + 52) :: rest)) := q_iald X w (k := 52) rfl hin hdg kk
theorem ms_feastDay (X : qX p s args m meth c RX9 cc mL r D t b) (w : qW D b n (mS t b σ0 I Rw) s H locs) {i x : Int32} (hin : vp_in i 8) (hdg : decode cc pc = .ok (.iastore, 1)) (kk : ∀ (H1 : Heap) (locs1 : List Loc), qW D b n (mS t b σ0 I (va_up Rw 17 (upd (Rw 17) i.toNatClampNeg x))) s H1 locs1 → W p l e R s m args below meth c H1 locs1 cells slots Q (F0 m (pc + 1) ls (rest))) : W p l e R s m args below meth c H locs cells slots Q (F0 m pc ls (.int x :: .int i :: .ref (b + 52) :: rest)) := q_iast X w (k := 52) rfl hin hdg (fun H1 l1 w1 => kk H1 l1 (mSr_17 ▸ w1))
theorem mg_placed (X : qX p s args m meth c RX9 cc mL r D t b) (w : qW D b n (mS t b σ0 I Rw) s H locs) (hdg : decode cc pc = .ok (.getfield 35, 3)) (kk : W p l e R s m args below meth c H locs cells slots Q (F0 m (pc + 3) ls (.ref (b + 53) :: rest))) : W p l e R s m args below meth c H locs cells slots Q (F0 m pc ls (.ref (b + 45) :: rest)) := q_get X w inX9 rfl 18 (by decide) fl_X9_35 (k := 45) rfl rfl hdg kk
theorem ml_placed (X : qX p s args m meth c RX9 cc mL r D t b) (w : qW D b n (mS t b σ0 I Rw) s H locs) {i : Int32} (hin : vp_in i 8) (hdg : decode cc pc = .ok (.iaload, 1)) (kk : W p l e R s m args below meth c H locs cells slots Q (F0 m (pc + 1) ls (.int (Rw 18 i.toNatClampNeg) :: rest))) : W p l e R s m args below meth c H locs cells slots Q (F0 m pc ls (.int i :: .ref (b + 53) :: rest)) := q_iald X w (k := 53) rfl hin hdg kk
theorem ms_placed (X : qX p s args m meth c RX9 cc mL r D t b) (w : qW D b n (mS t b σ0 I Rw) s H locs) {i x : Int32} (hin : vp_in i 8) (hdg : decode cc pc = .ok (.iastore, 1)) (kk : ∀ (H1 : Heap) (locs1 : List Loc), qW D b n (mS t b σ0 I (va_up Rw 18 (upd (Rw 18) i.toNatClampNeg x))) s H1 locs1 → W p l e R s m args below meth c H1 locs1 cells slots Q (F0 m (pc + 1) ls (rest))) : W p l e R s m args below meth c H locs cells slots Q (F0 m pc ls (.int x :: .int i :: .ref (b + 53) :: rest)) := q_iast X w (k := 53) rfl hin hdg (fun H1 l1 w1 => kk H1 l1 (mSr_18 ▸ w1))
theorem mg_feasts (X : qX p s args m meth c RX9 cc mL r D t b) (w : qW D b n (mS t b σ0 I Rw) s H locs) (hdg : decode cc pc = .ok (.getfield 278, 3)) (kk : W p l e R s m args below meth c H locs cells slots Q (F0 m (pc + 3) ls (.int (I 19) :: rest))) : W p l e R s m args below meth c H locs cells slots Q (F0 m pc ls (.ref (b + 45) :: rest)) := q_get X w inX9 rfl 19 (by decide) fl_X9_278 (k := 45) rfl rfl hdg kk
theorem mp_feasts {v : Int32} (X : qX p s args m meth c RX9 cc mL r D t b) (w : qW D b n (mS t b σ0 I Rw) s H locs) (hdg : decode cc pc = .ok (.putfield 278, 3)) (kk : ∀ (H1 : Heap) (locs1 : List Loc), qW D b n (mS t b σ0 (va_up I 19 v) Rw) s H1 locs1 → W p l e R s m args below meth c H1 locs1 cells slots Q (F0 m (pc + 3) ls (rest))) : W p l e R s m args below meth c H locs cells slots Q (F0 m pc ls (.int v :: .ref (b + 45) :: rest)) := q_put X w inX9 tyX9 tyX9_ok nmX9 rfl 19 (by decide) fl_X9_278 rfl (k := 45) rfl rfl rfl (Nat.le_of_ble_eq_true rfl) hdg (fun H1 l1 w1 => kk H1 l1 (mSp_19 ▸ w1))
theorem mg_readingCalendar (X : qX p s args m meth c RX9 cc mL r D t b) (w : qW D b n (mS t b σ0 I Rw) s H locs) (hdg : decode cc pc = .ok (.getfield 38, 3)) (kk : W p l e R s m args below meth c H locs cells slots Q (F0 m (pc + 3) ls (.ref (b + 54) :: rest))) : W p l e R s m args below meth c H locs cells slots Q (F0 m pc ls (.ref (b + 45) :: rest)) := q_get X w inX9 rfl 20 (by decide) fl_X9_38 (k := 45) rfl rfl hdg kk
theorem ml_readingCalendar (X : qX p s args m meth c RX9 cc mL r D t b) (w : qW D b n (mS t b σ0 I Rw) s H locs) {i : Int32} (hin : vp_in i 18) (hdg : decode cc pc = .ok (.iaload, 1)) (kk : W p l e R s m args below meth c H locs cells slots Q (F0 m (pc + 1) ls (.int (Rw 20 i.toNatClampNeg) :: rest))) : W p l e R s m args below meth c H locs cells slots Q (F0 m pc ls (.int i :: .ref (b + 54) :: rest)) := q_iald X w (k := 54) rfl hin hdg kk
theorem ms_readingCalendar (X : qX p s args m meth c RX9 cc mL r D t b) (w : qW D b n (mS t b σ0 I Rw) s H locs) {i x : Int32} (hin : vp_in i 18) (hdg : decode cc pc = .ok (.iastore, 1)) (kk : ∀ (H1 : Heap) (locs1 : List Loc), qW D b n (mS t b σ0 I (va_up Rw 20 (upd (Rw 20) i.toNatClampNeg x))) s H1 locs1 → W p l e R s m args below meth c H1 locs1 cells slots Q (F0 m (pc + 1) ls (rest))) : W p l e R s m args below meth c H locs cells slots Q (F0 m pc ls (.int x :: .int i :: .ref (b + 54) :: rest)) := q_iast X w (k := 54) rfl hin hdg (fun H1 l1 w1 => kk H1 l1 (mSr_20 ▸ w1))
theorem mg_readingOrder (X : qX p s args m meth c RX9 cc mL r D t b) (w : qW D b n (mS t b σ0 I Rw) s H locs) (hdg : decode cc pc = .ok (.getfield 41, 3)) (kk : W p l e R s m args below meth c H locs cells slots Q (F0 m (pc + 3) ls (.ref (b + 55) :: rest))) : W p l e R s m args below meth c H locs cells slots Q (F0 m pc ls (.ref (b + 45) :: rest)) := q_get X w inX9 rfl 21 (by decide) fl_X9_41 (k := 45) rfl rfl hdg kk
theorem ml_readingOrder (X : qX p s args m meth c RX9 cc mL r D t b) (w : qW D b n (mS t b σ0 I Rw) s H locs) {i : Int32} (hin : vp_in i 18) (hdg : decode cc pc = .ok (.iaload, 1)) (kk : W p l e R s m args below meth c H locs cells slots Q (F0 m (pc + 1) ls (.int (Rw 21 i.toNatClampNeg) :: rest))) : W p l e R s m args below meth c H locs cells slots Q (F0 m pc ls (.int i :: .ref (b + 55) :: rest)) := q_iald X w (k := 55) rfl hin hdg kk
theorem ms_readingOrder (X : qX p s args m meth c RX9 cc mL r D t b) (w : qW D b n (mS t b σ0 I Rw) s H locs) {i x : Int32} (hin : vp_in i 18) (hdg : decode cc pc = .ok (.iastore, 1)) (kk : ∀ (H1 : Heap) (locs1 : List Loc), qW D b n (mS t b σ0 I (va_up Rw 21 (upd (Rw 21) i.toNatClampNeg x))) s H1 locs1 → W p l e R s m args below meth c H1 locs1 cells slots Q (F0 m (pc + 1) ls (rest))) : W p l e R s m args below meth c H locs cells slots Q (F0 m pc ls (.int x :: .int i :: .ref (b + 55) :: rest)) := q_iast X w (k := 55) rfl hin hdg (fun H1 l1 w1 => kk H1 l1 (mSr_21 ▸ w1))
theorem mg_readingDay (X : qX p s args m meth c RX9 cc mL r D t b) (w : qW D b n (mS t b σ0 I Rw) s H locs) (hdg : decode cc pc = .ok (.getfield 44, 3)) (kk : W p l e R s m args below meth c H locs cells slots Q (F0 m (pc + 3) ls (.ref (b + 56) :: rest))) : W p l e R s m args below meth c H locs cells slots Q (F0 m pc ls (.ref (b + 45) :: rest)) := q_get X w inX9 rfl 22 (by decide) fl_X9_44 (k := 45) rfl rfl hdg kk
theorem ml_readingDay (X : qX p s args m meth c RX9 cc mL r D t b) (w : qW D b n (mS t b σ0 I Rw) s H locs) {i : Int32} (hin : vp_in i 18) (hdg : decode cc pc = .ok (.iaload, 1)) (kk : W p l e R s m args below meth c H locs cells slots Q (F0 m (pc + 1) ls (.int (Rw 22 i.toNatClampNeg) :: rest))) : W p l e R s m args below meth c H locs cells slots Q (F0 m pc ls (.int i :: .ref (b + 56) :: rest)) := q_iald X w (k := 56) rfl hin hdg kk
theorem ms_readingDay (X : qX p s args m meth c RX9 cc mL r D t b) (w : qW D b n (mS t b σ0 I Rw) s H locs) {i x : Int32} (hin : vp_in i 18) (hdg : decode cc pc = .ok (.iastore, 1)) (kk : ∀ (H1 : Heap) (locs1 : List Loc), qW D b n (mS t b σ0 I (va_up Rw 22 (upd (Rw 22) i.toNatClampNeg x))) s H1 locs1 → W p l e R s m args below meth c H1 locs1 cells slots Q (F0 m (pc + 1) ls (rest))) : W p l e R s m args below meth c H locs cells slots Q (F0 m pc ls (.int x :: .int i :: .ref (b + 56) :: rest)) := q_iast X w (k := 56) rfl hin hdg (fun H1 l1 w1 => kk H1 l1 (mSr_22 ▸ w1))
theorem mg_readingMany (X : qX p s args m meth c RX9 cc mL r D t b) (w : qW D b n (mS t b σ0 I Rw) s H locs) (hdg : decode cc pc = .ok (.getfield 316, 3)) (kk : W p l e R s m args below meth c H locs cells slots Q (F0 m (pc + 3) ls (.int (I 23) :: rest))) : W p l e R s m args below meth c H locs cells slots Q (F0 m pc ls (.ref (b + 45) :: rest)) := q_get X w inX9 rfl 23 (by decide) fl_X9_316 (k := 45) rfl rfl hdg kk
theorem mp_readingMany {v : Int32} (X : qX p s args m meth c RX9 cc mL r D t b) (w : qW D b n (mS t b σ0 I Rw) s H locs) (hdg : decode cc pc = .ok (.putfield 316, 3)) (kk : ∀ (H1 : Heap) (locs1 : List Loc), qW D b n (mS t b σ0 (va_up I 23 v) Rw) s H1 locs1 → W p l e R s m args below meth c H1 locs1 cells slots Q (F0 m (pc + 3) ls (rest))) : W p l e R s m args below meth c H locs cells slots Q (F0 m pc ls (.int v :: .ref (b + 45) :: rest)) := q_put X w inX9 tyX9 tyX9_ok nmX9 rfl 23 (by decide) fl_X9_316 rfl (k := 45) rfl rfl rfl (Nat.le_of_ble_eq_true rfl) hdg (fun H1 l1 w1 => kk H1 l1 (mSp_23 ▸ w1))
theorem mg_output (X : qX p s args m meth c RX9 cc mL r D t b) (w : qW D b n (mS t b σ0 I Rw) s H locs) (hdg : decode cc pc = .ok (.getfield 47, 3)) (kk : W p l e R s m args below meth c H locs cells slots Q (F0 m (pc + 3) ls (.ref (b + 57) :: rest))) : W p l e R s m args below meth c H locs cells slots Q (F0 m pc ls (.ref (b + 45) :: rest)) := q_get X w inX9 rfl 24 (by decide) fl_X9_47 (k := 45) rfl rfl hdg kk
theorem ml_output (X : qX p s args m meth c RX9 cc mL r D t b) (w : qW D b n (mS t b σ0 I Rw) s H locs) {i : Int32} (hin : vp_in i 20) (hdg : decode cc pc = .ok (.caload, 1)) (kk : W p l e R s m args below meth c H locs cells slots Q (F0 m (pc + 1) ls (.int (Rw 24 i.toNatClampNeg) :: rest))) : W p l e R s m args below meth c H locs cells slots Q (F0 m pc ls (.int i :: .ref (b + 57) :: rest)) := q_cald X w (k := 57) rfl hin hdg kk
theorem ms_output (X : qX p s args m meth c RX9 cc mL r D t b) (w : qW D b n (mS t b σ0 I Rw) s H locs) {i x : Int32} (hin : vp_in i 20) (hdg : decode cc pc = .ok (.castore, 1)) (kk : ∀ (H1 : Heap) (locs1 : List Loc), qW D b n (mS t b σ0 I (va_up Rw 24 (upd (Rw 24) i.toNatClampNeg (vp_nar .char x)))) s H1 locs1 → W p l e R s m args below meth c H1 locs1 cells slots Q (F0 m (pc + 1) ls (rest))) : W p l e R s m args below meth c H locs cells slots Q (F0 m pc ls (.int x :: .int i :: .ref (b + 57) :: rest)) := q_cast X w (k := 57) rfl hin hdg (fun H1 l1 w1 => kk H1 l1 (mSr_24 ▸ w1))
theorem mg_written (X : qX p s args m meth c RX9 cc mL r D t b) (w : qW D b n (mS t b σ0 I Rw) s H locs) (hdg : decode cc pc = .ok (.getfield 323, 3)) (kk : W p l e R s m args below meth c H locs cells slots Q (F0 m (pc + 3) ls (.int (I 25) :: rest))) : W p l e R s m args below meth c H locs cells slots Q (F0 m pc ls (.ref (b + 45) :: rest)) := q_get X w inX9 rfl 25 (by decide) fl_X9_323 (k := 45) rfl rfl hdg kk
theorem mp_written {v : Int32} (X : qX p s args m meth c RX9 cc mL r D t b) (w : qW D b n (mS t b σ0 I Rw) s H locs) (hdg : decode cc pc = .ok (.putfield 323, 3)) (kk : ∀ (H1 : Heap) (locs1 : List Loc), qW D b n (mS t b σ0 (va_up I 25 v) Rw) s H1 locs1 → W p l e R s m args below meth c H1 locs1 cells slots Q (F0 m (pc + 3) ls (rest))) : W p l e R s m args below meth c H locs cells slots Q (F0 m pc ls (.int v :: .ref (b + 45) :: rest)) := q_put X w inX9 tyX9 tyX9_ok nmX9 rfl 25 (by decide) fl_X9_323 rfl (k := 45) rfl rfl rfl (Nat.le_of_ble_eq_true rfl) hdg (fun H1 l1 w1 => kk H1 l1 (mSp_25 ▸ w1))
theorem mg_earlier (X : qX p s args m meth c RX9 cc mL r D t b) (w : qW D b n (mS t b σ0 I Rw) s H locs) (hdg : decode cc pc = .ok (.getfield 51, 3)) (kk : W p l e R s m args below meth c H locs cells slots Q (F0 m (pc + 3) ls (.ref (b + 58) :: rest))) : W p l e R s m args below meth c H locs cells slots Q (F0 m pc ls (.ref (b + 45) :: rest)) := q_get X w inX9 rfl 26 (by decide) fl_X9_51 (k := 45) rfl rfl hdg kk
theorem ml_earlier (X : qX p s args m meth c RX9 cc mL r D t b) (w : qW D b n (mS t b σ0 I Rw) s H locs) {i : Int32} (hin : vp_in i 1572) (hdg : decode cc pc = .ok (.iaload, 1)) (kk : W p l e R s m args below meth c H locs cells slots Q (F0 m (pc + 1) ls (.int (Rw 26 i.toNatClampNeg) :: rest))) : W p l e R s m args below meth c H locs cells slots Q (F0 m pc ls (.int i :: .ref (b + 58) :: rest)) := q_iald X w (k := 58) rfl hin hdg kk
theorem ms_earlier (X : qX p s args m meth c RX9 cc mL r D t b) (w : qW D b n (mS t b σ0 I Rw) s H locs) {i x : Int32} (hin : vp_in i 1572) (hdg : decode cc pc = .ok (.iastore, 1)) (kk : ∀ (H1 : Heap) (locs1 : List Loc), qW D b n (mS t b σ0 I (va_up Rw 26 (upd (Rw 26) i.toNatClampNeg x))) s H1 locs1 → W p l e R s m args below meth c H1 locs1 cells slots Q (F0 m (pc + 1) ls (rest))) : W p l e R s m args below meth c H locs cells slots Q (F0 m pc ls (.int x :: .int i :: .ref (b + 58) :: rest)) := q_iast X w (k := 58) rfl hin hdg (fun H1 l1 w1 => kk H1 l1 (mSr_26 ▸ w1))
theorem mg_saved (X : qX p s args m meth c RX9 cc mL r D t b) (w : qW D b n (mS t b σ0 I Rw) s H locs) (hdg : decode cc pc = .ok (.getfield 54, 3)) (kk : W p l e R s m args below meth c H locs cells slots Q (F0 m (pc + 3) ls (.ref (b + 59) :: rest))) : W p l e R s m args below meth c H locs cells slots Q (F0 m pc ls (.ref (b + 45) :: rest)) := q_get X w inX9 rfl 27 (by decide) fl_X9_54 (k := 45) rfl rfl hdg kk
theorem ml_saved (X : qX p s args m meth c RX9 cc mL r D t b) (w : qW D b n (mS t b σ0 I Rw) s H locs) {i : Int32} (hin : vp_in i 262) (hdg : decode cc pc = .ok (.iaload, 1)) (kk : W p l e R s m args below meth c H locs cells slots Q (F0 m (pc + 1) ls (.int (Rw 27 i.toNatClampNeg) :: rest))) : W p l e R s m args below meth c H locs cells slots Q (F0 m pc ls (.int i :: .ref (b + 59) :: rest)) := q_iald X w (k := 59) rfl hin hdg kk
theorem ms_saved (X : qX p s args m meth c RX9 cc mL r D t b) (w : qW D b n (mS t b σ0 I Rw) s H locs) {i x : Int32} (hin : vp_in i 262) (hdg : decode cc pc = .ok (.iastore, 1)) (kk : ∀ (H1 : Heap) (locs1 : List Loc), qW D b n (mS t b σ0 I (va_up Rw 27 (upd (Rw 27) i.toNatClampNeg x))) s H1 locs1 → W p l e R s m args below meth c H1 locs1 cells slots Q (F0 m (pc + 1) ls (rest))) : W p l e R s m args below meth c H locs cells slots Q (F0 m pc ls (.int x :: .int i :: .ref (b + 59) :: rest)) := q_iast X w (k := 59) rfl hin hdg (fun H1 l1 w1 => kk H1 l1 (mSr_27 ▸ w1))
theorem mg_changes (X : qX p s args m meth c RX9 cc mL r D t b) (w : qW D b n (mS t b σ0 I Rw) s H locs) (hdg : decode cc pc = .ok (.getfield 349, 3)) (kk : W p l e R s m args below meth c H locs cells slots Q (F0 m (pc + 3) ls (.int (I 28) :: rest))) : W p l e R s m args below meth c H locs cells slots Q (F0 m pc ls (.ref (b + 45) :: rest)) := q_get X w inX9 rfl 28 (by decide) fl_X9_349 (k := 45) rfl rfl hdg kk
theorem mp_changes {v : Int32} (X : qX p s args m meth c RX9 cc mL r D t b) (w : qW D b n (mS t b σ0 I Rw) s H locs) (hdg : decode cc pc = .ok (.putfield 349, 3)) (kk : ∀ (H1 : Heap) (locs1 : List Loc), qW D b n (mS t b σ0 (va_up I 28 v) Rw) s H1 locs1 → W p l e R s m args below meth c H1 locs1 cells slots Q (F0 m (pc + 3) ls (rest))) : W p l e R s m args below meth c H locs cells slots Q (F0 m pc ls (.int v :: .ref (b + 45) :: rest)) := q_put X w inX9 tyX9 tyX9_ok nmX9 rfl 28 (by decide) fl_X9_349 rfl (k := 45) rfl rfl rfl (Nat.le_of_ble_eq_true rfl) hdg (fun H1 l1 w1 => kk H1 l1 (mSp_28 ▸ w1))
theorem mg_cursor (X : qX p s args m meth c RX9 cc mL r D t b) (w : qW D b n (mS t b σ0 I Rw) s H locs) (hdg : decode cc pc = .ok (.getfield 342, 3)) (kk : W p l e R s m args below meth c H locs cells slots Q (F0 m (pc + 3) ls (.int (I 29) :: rest))) : W p l e R s m args below meth c H locs cells slots Q (F0 m pc ls (.ref (b + 45) :: rest)) := q_get X w inX9 rfl 29 (by decide) fl_X9_342 (k := 45) rfl rfl hdg kk
theorem mp_cursor {v : Int32} (X : qX p s args m meth c RX9 cc mL r D t b) (w : qW D b n (mS t b σ0 I Rw) s H locs) (hdg : decode cc pc = .ok (.putfield 342, 3)) (kk : ∀ (H1 : Heap) (locs1 : List Loc), qW D b n (mS t b σ0 (va_up I 29 v) Rw) s H1 locs1 → W p l e R s m args below meth c H1 locs1 cells slots Q (F0 m (pc + 3) ls (rest))) : W p l e R s m args below meth c H locs cells slots Q (F0 m pc ls (.int v :: .ref (b + 45) :: rest)) := q_put X w inX9 tyX9 tyX9_ok nmX9 rfl 29 (by decide) fl_X9_342 rfl (k := 45) rfl rfl rfl (Nat.le_of_ble_eq_true rfl) hdg (fun H1 l1 w1 => kk H1 l1 (mSp_29 ▸ w1))
theorem mg_isSaved (X : qX p s args m meth c RX9 cc mL r D t b) (w : qW D b n (mS t b σ0 I Rw) s H locs) (hdg : decode cc pc = .ok (.getfield 356, 3)) (kk : W p l e R s m args below meth c H locs cells slots Q (F0 m (pc + 3) ls (.int (I 30) :: rest))) : W p l e R s m args below meth c H locs cells slots Q (F0 m pc ls (.ref (b + 45) :: rest)) := q_get X w inX9 rfl 30 (by decide) fl_X9_356 (k := 45) rfl rfl hdg kk
theorem mp_isSaved {v : Int32} (X : qX p s args m meth c RX9 cc mL r D t b) (w : qW D b n (mS t b σ0 I Rw) s H locs) (hdg : decode cc pc = .ok (.putfield 356, 3)) (hn : narrow .boolean (.int v) = .int v) (hf : fits .boolean (.int v) = true) (kk : ∀ (H1 : Heap) (locs1 : List Loc), qW D b n (mS t b σ0 (va_up I 30 v) Rw) s H1 locs1 → W p l e R s m args below meth c H1 locs1 cells slots Q (F0 m (pc + 3) ls (rest))) : W p l e R s m args below meth c H locs cells slots Q (F0 m pc ls (.int v :: .ref (b + 45) :: rest)) := q_put X w inX9 tyX9 tyX9_ok nmX9 rfl 30 (by decide) fl_X9_356 rfl (k := 45) rfl hn hf (Nat.le_of_ble_eq_true rfl) hdg (fun H1 l1 w1 => kk H1 l1 (mSp_30 ▸ w1))
theorem mg_isKeeping (X : qX p s args m meth c RX9 cc mL r D t b) (w : qW D b n (mS t b σ0 I Rw) s H locs) (hdg : decode cc pc = .ok (.getfield 339, 3)) (kk : W p l e R s m args below meth c H locs cells slots Q (F0 m (pc + 3) ls (.int (I 31) :: rest))) : W p l e R s m args below meth c H locs cells slots Q (F0 m pc ls (.ref (b + 45) :: rest)) := q_get X w inX9 rfl 31 (by decide) fl_X9_339 (k := 45) rfl rfl hdg kk
theorem mp_isKeeping {v : Int32} (X : qX p s args m meth c RX9 cc mL r D t b) (w : qW D b n (mS t b σ0 I Rw) s H locs) (hdg : decode cc pc = .ok (.putfield 339, 3)) (hn : narrow .boolean (.int v) = .int v) (hf : fits .boolean (.int v) = true) (kk : ∀ (H1 : Heap) (locs1 : List Loc), qW D b n (mS t b σ0 (va_up I 31 v) Rw) s H1 locs1 → W p l e R s m args below meth c H1 locs1 cells slots Q (F0 m (pc + 3) ls (rest))) : W p l e R s m args below meth c H locs cells slots Q (F0 m pc ls (.int v :: .ref (b + 45) :: rest)) := q_put X w inX9 tyX9 tyX9_ok nmX9 rfl 31 (by decide) fl_X9_339 rfl (k := 45) rfl hn hf (Nat.le_of_ble_eq_true rfl) hdg (fun H1 l1 w1 => kk H1 l1 (mSp_31 ▸ w1))
/-- a method of the reference that changes its numbers and rows alone -/
def mC (l : Launch) (y : MethodName) (cc : ByteArray) (mL : Nat) (r : Option FieldType) (d : Nat) (D : va_G) (t : Nat → ClassId) (b n : Nat) (σ0 : qM) (I : Nat → Int32) (Rw : Nat → Nat → Int32) (As : List Value) (post : Int32 → (Nat → Int32) → (Nat → Nat → Int32) → Prop) : Prop :=
  qC l y cc mL r d 0 0 D t b n (mS t b σ0 I Rw) As (fun z n1 σ1 => n1 = n ∧ ∃ I1 R1, σ1 = mS t b σ0 I1 R1 ∧ post z I1 R1)
def mV (l : Launch) (y : MethodName) (cc : ByteArray) (mL : Nat) (d : Nat) (D : va_G) (t : Nat → ClassId) (b n : Nat) (σ0 : qM) (I : Nat → Int32) (Rw : Nat → Nat → Int32) (As : List Value) (post : (Nat → Int32) → (Nat → Nat → Int32) → Prop) : Prop :=
  qV l y cc mL d 0 0 D t b n (mS t b σ0 I Rw) As (fun n1 σ1 => n1 = n ∧ ∃ I1 R1, σ1 = mS t b σ0 I1 R1 ∧ post I1 R1)
theorem mm_cC {own : String} (X : qX p s args m meth c own cc mL r D t b) (w : qW D b n (mS t b σ0 I Rw) s H locs) {idx : Nat} {y : MethodName} {yc : ByteArray} {ymL : Nat} {yr : Option FieldType} {N d' : Nat} {As : List Value} {post : Int32 → (Nat → Int32) → (Nat → Nat → Int32) → Prop} (hM : mC l y yc ymL yr d' D t b n σ0 I Rw (.ref (b + 45) :: As) post) (cw : qVw own idx y yc ymL yr N) (hc : RX9 = y.cls) (hn : As.length = N) (hR : d' + 1 ≤ R.frames ∧ 8 + (ymL + 11) + 40 * d' ≤ R.locals) {st : List Value} (hst : st = As.reverse ++ .ref (b + 45) :: rest) (hsz : ls.size = mL) (hrm : (rest.map fun v => v.category).sum ≤ 8) (hdg : decode cc pc = .ok (.invokevirtual idx, 3)) (hf : cells + 0 ≤ R.cells ∧ slots + 0 ≤ R.slots)
    (kk : ∀ (z : Int32) (I1 : Nat → Int32) (R1 : Nat → Nat → Int32) (H1 : Heap) (locs1 : List Loc), post z I1 R1 → qW D b n (mS t b σ0 I1 R1) s H1 locs1 → W p l e R s m args below meth c H1 locs1 cells slots Q (F0 m (pc + 3) ls (.int z :: rest))) : W p l e R s m args below meth c H locs cells slots Q (F0 m pc ls st) :=
  q_cCV X w hM cw (k := 45) rfl (by rw [← hc]; rfl) hn hR hst hsz hrm hdg hf (fun z n1 σ1 H1 l1 hp w1 => by
    obtain ⟨rfl, I1, R1, rfl, hp⟩ := hp
    exact kk z I1 R1 H1 l1 hp w1)
theorem mm_cV {own : String} (X : qX p s args m meth c own cc mL r D t b) (w : qW D b n (mS t b σ0 I Rw) s H locs) {idx : Nat} {y : MethodName} {yc : ByteArray} {ymL : Nat} {N d' : Nat} {As : List Value} {post : (Nat → Int32) → (Nat → Nat → Int32) → Prop} (hM : mV l y yc ymL d' D t b n σ0 I Rw (.ref (b + 45) :: As) post) (cw : qVw own idx y yc ymL none N) (hc : RX9 = y.cls) (hn : As.length = N) (hR : d' + 1 ≤ R.frames ∧ 8 + (ymL + 11) + 40 * d' ≤ R.locals) {st : List Value} (hst : st = As.reverse ++ .ref (b + 45) :: rest) (hsz : ls.size = mL) (hrm : (rest.map fun v => v.category).sum ≤ 8) (hdg : decode cc pc = .ok (.invokevirtual idx, 3)) (hf : cells + 0 ≤ R.cells ∧ slots + 0 ≤ R.slots)
    (kk : ∀ (I1 : Nat → Int32) (R1 : Nat → Nat → Int32) (H1 : Heap) (locs1 : List Loc), post I1 R1 → qW D b n (mS t b σ0 I1 R1) s H1 locs1 → W p l e R s m args below meth c H1 locs1 cells slots Q (F0 m (pc + 3) ls rest)) : W p l e R s m args below meth c H locs cells slots Q (F0 m pc ls st) :=
  q_cVV X w hM cw (k := 45) rfl (by rw [← hc]; rfl) hn hR hst hsz hrm hdg hf (fun n1 σ1 H1 l1 hp w1 => by
    obtain ⟨rfl, I1, R1, rfl, hp⟩ := hp
    exact kk I1 R1 H1 l1 hp w1)
theorem mm_cCI {own : String} (X : qX p s args m meth c own cc mL r D t b) (w : qW D b n (mS t b σ0 I Rw) s H locs) {idx : Nat} {y : MethodName} {yc : ByteArray} {ymL : Nat} {yr : Option FieldType} {N d' : Nat} {As : List Value} {post : Int32 → (Nat → Int32) → Prop} (hM : mC l y yc ymL yr d' D t b n σ0 I Rw (.ref (b + 45) :: As) (fun z I1 R1 => R1 = Rw ∧ post z I1)) (cw : qVw own idx y yc ymL yr N) (hc : RX9 = y.cls) (hn : As.length = N) (hR : d' + 1 ≤ R.frames ∧ 8 + (ymL + 11) + 40 * d' ≤ R.locals) {st : List Value} (hst : st = As.reverse ++ .ref (b + 45) :: rest) (hsz : ls.size = mL) (hrm : (rest.map fun v => v.category).sum ≤ 8) (hdg : decode cc pc = .ok (.invokevirtual idx, 3)) (hf : cells + 0 ≤ R.cells ∧ slots + 0 ≤ R.slots)
    (kk : ∀ (z : Int32) (I1 : Nat → Int32) (H1 : Heap) (locs1 : List Loc), post z I1 → qW D b n (mS t b σ0 I1 Rw) s H1 locs1 → W p l e R s m args below meth c H1 locs1 cells slots Q (F0 m (pc + 3) ls (.int z :: rest))) : W p l e R s m args below meth c H locs cells slots Q (F0 m pc ls st) :=
  mm_cC X w hM cw hc hn hR hst hsz hrm hdg hf (fun z I1 R1 H1 l1 hp w1 => by
    obtain ⟨rfl, hp⟩ := hp
    exact kk z I1 H1 l1 hp w1)
theorem mm_cCR {own : String} (X : qX p s args m meth c own cc mL r D t b) (w : qW D b n (mS t b σ0 I Rw) s H locs) {idx : Nat} {y : MethodName} {yc : ByteArray} {ymL : Nat} {yr : Option FieldType} {N d' : Nat} {As : List Value} {post : Int32 → (Nat → Nat → Int32) → Prop} (hM : mC l y yc ymL yr d' D t b n σ0 I Rw (.ref (b + 45) :: As) (fun z I1 R1 => I1 = I ∧ post z R1)) (cw : qVw own idx y yc ymL yr N) (hc : RX9 = y.cls) (hn : As.length = N) (hR : d' + 1 ≤ R.frames ∧ 8 + (ymL + 11) + 40 * d' ≤ R.locals) {st : List Value} (hst : st = As.reverse ++ .ref (b + 45) :: rest) (hsz : ls.size = mL) (hrm : (rest.map fun v => v.category).sum ≤ 8) (hdg : decode cc pc = .ok (.invokevirtual idx, 3)) (hf : cells + 0 ≤ R.cells ∧ slots + 0 ≤ R.slots)
    (kk : ∀ (z : Int32) (R1 : Nat → Nat → Int32) (H1 : Heap) (locs1 : List Loc), post z R1 → qW D b n (mS t b σ0 I R1) s H1 locs1 → W p l e R s m args below meth c H1 locs1 cells slots Q (F0 m (pc + 3) ls (.int z :: rest))) : W p l e R s m args below meth c H locs cells slots Q (F0 m pc ls st) :=
  mm_cC X w hM cw hc hn hR hst hsz hrm hdg hf (fun z I1 R1 H1 l1 hp w1 => by
    obtain ⟨rfl, hp⟩ := hp
    exact kk z R1 H1 l1 hp w1)
theorem mm_cVI {own : String} (X : qX p s args m meth c own cc mL r D t b) (w : qW D b n (mS t b σ0 I Rw) s H locs) {idx : Nat} {y : MethodName} {yc : ByteArray} {ymL : Nat} {N d' : Nat} {As : List Value} {post : (Nat → Int32) → Prop} (hM : mV l y yc ymL d' D t b n σ0 I Rw (.ref (b + 45) :: As) (fun I1 R1 => R1 = Rw ∧ post I1)) (cw : qVw own idx y yc ymL none N) (hc : RX9 = y.cls) (hn : As.length = N) (hR : d' + 1 ≤ R.frames ∧ 8 + (ymL + 11) + 40 * d' ≤ R.locals) {st : List Value} (hst : st = As.reverse ++ .ref (b + 45) :: rest) (hsz : ls.size = mL) (hrm : (rest.map fun v => v.category).sum ≤ 8) (hdg : decode cc pc = .ok (.invokevirtual idx, 3)) (hf : cells + 0 ≤ R.cells ∧ slots + 0 ≤ R.slots)
    (kk : ∀ (I1 : Nat → Int32) (H1 : Heap) (locs1 : List Loc), post I1 → qW D b n (mS t b σ0 I1 Rw) s H1 locs1 → W p l e R s m args below meth c H1 locs1 cells slots Q (F0 m (pc + 3) ls (rest))) : W p l e R s m args below meth c H locs cells slots Q (F0 m pc ls st) :=
  mm_cV X w hM cw hc hn hR hst hsz hrm hdg hf (fun I1 R1 H1 l1 hp w1 => by
    obtain ⟨rfl, hp⟩ := hp
    exact kk I1 H1 l1 hp w1)
theorem mm_cVR {own : String} (X : qX p s args m meth c own cc mL r D t b) (w : qW D b n (mS t b σ0 I Rw) s H locs) {idx : Nat} {y : MethodName} {yc : ByteArray} {ymL : Nat} {N d' : Nat} {As : List Value} {post : (Nat → Nat → Int32) → Prop} (hM : mV l y yc ymL d' D t b n σ0 I Rw (.ref (b + 45) :: As) (fun I1 R1 => I1 = I ∧ post R1)) (cw : qVw own idx y yc ymL none N) (hc : RX9 = y.cls) (hn : As.length = N) (hR : d' + 1 ≤ R.frames ∧ 8 + (ymL + 11) + 40 * d' ≤ R.locals) {st : List Value} (hst : st = As.reverse ++ .ref (b + 45) :: rest) (hsz : ls.size = mL) (hrm : (rest.map fun v => v.category).sum ≤ 8) (hdg : decode cc pc = .ok (.invokevirtual idx, 3)) (hf : cells + 0 ≤ R.cells ∧ slots + 0 ≤ R.slots)
    (kk : ∀ (R1 : Nat → Nat → Int32) (H1 : Heap) (locs1 : List Loc), post R1 → qW D b n (mS t b σ0 I R1) s H1 locs1 → W p l e R s m args below meth c H1 locs1 cells slots Q (F0 m (pc + 3) ls (rest))) : W p l e R s m args below meth c H locs cells slots Q (F0 m pc ls st) :=
  mm_cV X w hM cw hc hn hR hst hsz hrm hdg hf (fun I1 R1 H1 l1 hp w1 => by
    obtain ⟨rfl, hp⟩ := hp
    exact kk R1 H1 l1 hp w1)
end MR
