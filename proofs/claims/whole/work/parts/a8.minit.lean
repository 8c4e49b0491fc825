/-- a world from place 45 on as a list -/
def ovm (L : List va_E) (σ0 : qM) : qM := fun k => if k < 45 then σ0 k else match L[k - 45]? with | some e => some e | none => σ0 k
theorem ovm_set {L : List va_E} {σ0 : qM} {p q : Nat} {e : va_E} (hp : p < L.length) (hq : q = 45 + p) : va_up (ovm L σ0) q (some e) = ovm (L.set p e) σ0 := by
  subst hq
  funext k
  by_cases h : k = 45 + p
  · subst h
    rw [va_up_self]
    unfold ovm
    rw [if_neg (by omega), show 45 + p - 45 = p by omega, List.getElem?_set_self hp]
  · rw [va_up_ne _ _ h]
    unfold ovm
    by_cases h2 : k < 45
    · rw [if_pos h2, if_pos h2]
    · rw [if_neg h2, if_neg h2, List.getElem?_set_ne (by omega)]
theorem ovm_push {L : List va_E} {σ0 : qM} {n : Nat} {e : va_E} (h : 45 + L.length = n) : va_up (ovm L σ0) n (some e) = ovm (L ++ [e]) σ0 := by
  funext k
  by_cases q : k = n
  · rw [q, va_up_self]
    unfold ovm
    rw [if_neg (by omega), List.getElem?_append_right (by omega), show n - 45 - L.length = 0 by omega]
    rfl
  · rw [va_up_ne _ _ q]
    unfold ovm
    by_cases h2 : k < 45
    · rw [if_pos h2, if_pos h2]
    · rw [if_neg h2, if_neg h2]
      by_cases z : k - 45 < L.length
      · rw [List.getElem?_append_left z]
      · rw [List.getElem?_eq_none (by omega), List.getElem?_eq_none (by rw [List.length_append]; show L.length + 1 ≤ k - 45; omega)]
theorem ovm_one {σ0 : qM} {e : va_E} (h : σ0 45 = some e) : ovm [e] σ0 = σ0 := by
  funext k
  unfold ovm
  by_cases h2 : k < 45
  · rw [if_pos h2]
  · rw [if_neg h2]
    by_cases h3 : k = 45
    · rw [h3]
      exact h.symm
    · rw [List.getElem?_eq_none (by show 1 ≤ k - 45; omega)]
/-- the reference's numbers and rows behind its fields' beginnings -/
def laF : Nat → Int32 := (upd (upd (upd (upd (upd (upd (upd (upd (upd (upd (upd (upd (fun _ => 0 : Nat → Int32) 0 31) 1 28) 2 31) 3 30) 4 31) 5 30) 6 31) 7 31) 8 30) 9 31) 10 30) 11 31)
theorem laF_at : ∀ j : Nat, j < 12 → laF j = row00 (1 + j) := by decide +kernel
def I00 : Nat → Int32 := fun j => if j = 12 then -1 else 0
def R00 : Nat → Nat → Int32 := fun j => if j = 1 then laF else fun _ => 0
theorem ovm_mS {t : Nat → ClassId} {b : Nat} {σ0 : qM} {I : Nat → Int32} {R : Nat → Nat → Int32} : ovm [.inr (13, mF b I), .inl (t 0, 12, .inl (R 1)), .inl (t 0, 198, .inl (R 2)), .inl (t 0, 33, .inl (R 3)), .inl (t 0, 24252, .inl (R 4)), .inl (t 0, 100, .inl (R 9)), .inl (t 0, 48, .inl (R 16)), .inl (t 0, 8, .inl (R 17)), .inl (t 0, 8, .inl (R 18)), .inl (t 0, 18, .inl (R 20)), .inl (t 0, 18, .inl (R 21)), .inl (t 0, 18, .inl (R 22)), .inl (t 1, 20, .inl (R 24)), .inl (t 0, 1572, .inl (R 26)), .inl (t 0, 262, .inl (R 27))] σ0 = mS t b σ0 I R := by
  funext k
  by_cases h : k < 45 ∨ 59 < k
  · rw [mS_off (I2 := I) (R2 := R) h]
    unfold ovm
    by_cases h2 : k < 45
    · rw [if_pos h2]
    · rw [if_neg h2, List.getElem?_eq_none (by show 15 ≤ k - 45; omega)]
  · have h2 : k = 45 ∨ k = 46 ∨ k = 47 ∨ k = 48 ∨ k = 49 ∨ k = 50 ∨ k = 51 ∨ k = 52 ∨ k = 53 ∨ k = 54 ∨ k = 55 ∨ k = 56 ∨ k = 57 ∨ k = 58 ∨ k = 59 := by omega
    rcases h2 with rfl | rfl | rfl | rfl | rfl | rfl | rfl | rfl | rfl | rfl | rfl | rfl | rfl | rfl | rfl <;> rfl
theorem r00_hi : ∀ j : Nat, j < 33 → 12 < j → j ≠ 16 → j ≠ 17 → j ≠ 19 → j ≠ 20 → j ≠ 21 → j ≠ 22 → j ≠ 24 → j ≠ 25 → j ≠ 26 → row0 j = row00 j := by
  intro j h1 h2 c16 c17 c19 c20 c21 c22 c24 c25 c26
  have h3 : j = 13 ∨ j = 14 ∨ j = 15 ∨ j = 18 ∨ j = 23 ∨ j = 27 ∨ j = 28 ∨ j = 29 ∨ j = 30 ∨ j = 31 ∨ j = 32 := by omega
  rcases h3 with rfl | rfl | rfl | rfl | rfl | rfl | rfl | rfl | rfl | rfl | rfl <;> decide +kernel
theorem row00_ok : okRow (rowQ row00) := by
  have hps : possR (rowQ (sCal T0 54).2.2.1) (sCal T0 54).2.2.2 := by rw [T0_rowQ, T0_g]; exact row00_poss
  have h : okRow (rowQ (sCal T0 54).2.2.1) := okRow_read (rowQ_at _) (sCal_f T0_ok) hps
  rw [T0_rowQ] at h
  exact h

set_option maxHeartbeats 4000000 in
set_option maxRecDepth 100000 in
theorem c_X9_init (l : Launch) (D : va_G) (t : Nat → ClassId) (b : Nat) (σ0 : qM) (h45 : σ0 45 = some (.inr (13, [.int 0, .null, .null, .null, .null, .int 0, .int 0, .int 0, .int 0, .null, .int 0, .int 0, .int 0, .int 0, .int 0, .int 0, .null, .null, .null, .int 0, .null, .null, .null, .int 0, .null, .int 0, .null, .null, .int 0, .int 0, .int 0, .int 0]))) : qV l yX9_init cX9_init 2 5 14 26567 D t b 46 σ0 [.ref (b + 45)] (fun n1 σ1 => n1 = 60 ∧ ∃ (I1 : Nat → Int32) (R1 : Nat → Nat → Int32), σ1 = mS t b σ0 I1 R1 ∧ kpI [5] I00 I1 ∧ (I1 5).toInt = 1 ∧ kpR [2, 3, 4] R00 R1 ∧ rowM R1 0 = rowQ row00 ∧ okF R1 0) := by
  refine qV.of (by decide +kernel) (Nat.le_of_ble_eq_true rfl) (fun p e s m args below meth c X w hin ls hl => ?_)
  have hx := X.1
  have hb := X.2.1
  have hin := hin rfl
  have hl : lv_has ls 2 [(0, .ref (b + 45))] := hl
  rw [← ovm_one h45] at w
  refine lv_aload_n hx hb dX9_init_0 rfl (lv_at hl 0 rfl) ?_
  refine q_obj X oi_X9 hl.1 ⟨Nat.le_of_ble_eq_true rfl, Nat.le_of_ble_eq_true rfl⟩ (Nat.le_of_ble_eq_true rfl) dX9_init_1 ?_
  refine lv_aload_n hx hb dX9_init_4 rfl (lv_at hl 0 rfl) ?_
  refine lv_bipush (v := 12) hx hb dX9_init_5 (by decide) ?_
  refine q_newa (atype := .int) X w ac_int rfl (fun _ h => by cases h) 0 rfl (a0 := (12, .inl (fun _ => 0))) (N := 12) (fun _ => rfl) (by decide) (by decide) (Nat.le_of_ble_eq_true rfl) (Nat.le_of_ble_eq_true rfl) (Nat.le_of_ble_eq_true rfl) dX9_init_7 (fun H w => ?_)
  rw [ovm_push (n := 46) rfl] at w
  have w : qW D b 47 (ovm ([.inr (13, [.int 0, .null, .null, .null, .null, .int 0, .int 0, .int 0, .int 0, .null, .int 0, .int 0, .int 0, .int 0, .int 0, .int 0, .null, .null, .null, .int 0, .null, .null, .null, .int 0, .null, .int 0, .null, .null, .int 0, .int 0, .int 0, .int 0]), .inl (t 0, 12, .inl (fun _ => 0))] : List va_E) σ0) s H _ := w
  refine lv_dup hx hb dX9_init_9 rfl ?_
  refine lv_iconst (v := 0) hx hb dX9_init_10 (by decide) ?_
  refine lv_bipush (v := 31) hx hb dX9_init_11 (by decide) ?_
  refine q_iast X w (k := 46) (i := 0) (x := 31) rfl (by unfold vp_in; decide) dX9_init_13 (fun H locs w => ?_)
  rw [ovm_set (p := 1) (L := ([.inr (13, [.int 0, .null, .null, .null, .null, .int 0, .int 0, .int 0, .int 0, .null, .int 0, .int 0, .int 0, .int 0, .int 0, .int 0, .null, .null, .null, .int 0, .null, .null, .null, .int 0, .null, .int 0, .null, .null, .int 0, .int 0, .int 0, .int 0]), .inl (t 0, 12, .inl (fun _ => 0))] : List va_E)) (Nat.succ_lt_succ (Nat.succ_pos _)) rfl] at w
  have w : qW D b 47 (ovm ([.inr (13, [.int 0, .null, .null, .null, .null, .int 0, .int 0, .int 0, .int 0, .null, .int 0, .int 0, .int 0, .int 0, .int 0, .int 0, .null, .null, .null, .int 0, .null, .null, .null, .int 0, .null, .int 0, .null, .null, .int 0, .int 0, .int 0, .int 0]), .inl (t 0, 12, .inl (upd (fun _ => 0 : Nat → Int32) 0 31))] : List va_E) σ0) s H locs := w
  refine lv_dup hx hb dX9_init_14 rfl ?_
  refine lv_iconst (v := 1) hx hb dX9_init_15 (by decide) ?_
  refine lv_bipush (v := 28) hx hb dX9_init_16 (by decide) ?_
  refine q_iast X w (k := 46) (i := 1) (x := 28) rfl (by unfold vp_in; decide) dX9_init_18 (fun H locs w => ?_)
  rw [ovm_set (p := 1) (L := ([.inr (13, [.int 0, .null, .null, .null, .null, .int 0, .int 0, .int 0, .int 0, .null, .int 0, .int 0, .int 0, .int 0, .int 0, .int 0, .null, .null, .null, .int 0, .null, .null, .null, .int 0, .null, .int 0, .null, .null, .int 0, .int 0, .int 0, .int 0]), .inl (t 0, 12, .inl (upd (fun _ => 0 : Nat → Int32) 0 31))] : List va_E)) (Nat.succ_lt_succ (Nat.succ_pos _)) rfl] at w
  have w : qW D b 47 (ovm ([.inr (13, [.int 0, .null, .null, .null, .null, .int 0, .int 0, .int 0, .int 0, .null, .int 0, .int 0, .int 0, .int 0, .int 0, .int 0, .null, .null, .null, .int 0, .null, .null, .null, .int 0, .null, .int 0, .null, .null, .int 0, .int 0, .int 0, .int 0]), .inl (t 0, 12, .inl (upd (upd (fun _ => 0 : Nat → Int32) 0 31) 1 28))] : List va_E) σ0) s H locs := w
  refine lv_dup hx hb dX9_init_19 rfl ?_
  refine lv_iconst (v := 2) hx hb dX9_init_20 (by decide) ?_
  refine lv_bipush (v := 31) hx hb dX9_init_21 (by decide) ?_
  refine q_iast X w (k := 46) (i := 2) (x := 31) rfl (by unfold vp_in; decide) dX9_init_23 (fun H locs w => ?_)
  rw [ovm_set (p := 1) (L := ([.inr (13, [.int 0, .null, .null, .null, .null, .int 0, .int 0, .int 0, .int 0, .null, .int 0, .int 0, .int 0, .int 0, .int 0, .int 0, .null, .null, .null, .int 0, .null, .null, .null, .int 0, .null, .int 0, .null, .null, .int 0, .int 0, .int 0, .int 0]), .inl (t 0, 12, .inl (upd (upd (fun _ => 0 : Nat → Int32) 0 31) 1 28))] : List va_E)) (Nat.succ_lt_succ (Nat.succ_pos _)) rfl] at w
  have w : qW D b 47 (ovm ([.inr (13, [.int 0, .null, .null, .null, .null, .int 0, .int 0, .int 0, .int 0, .null, .int 0, .int 0, .int 0, .int 0, .int 0, .int 0, .null, .null, .null, .int 0, .null, .null, .null, .int 0, .null, .int 0, .null, .null, .int 0, .int 0, .int 0, .int 0]), .inl (t 0, 12, .inl (upd (upd (upd (fun _ => 0 : Nat → Int32) 0 31) 1 28) 2 31))] : List va_E) σ0) s H locs := w
  refine lv_dup hx hb dX9_init_24 rfl ?_
  refine lv_iconst (v := 3) hx hb dX9_init_25 (by decide) ?_
  refine lv_bipush (v := 30) hx hb dX9_init_26 (by decide) ?_
  refine q_iast X w (k := 46) (i := 3) (x := 30) rfl (by unfold vp_in; decide) dX9_init_28 (fun H locs w => ?_)
  rw [ovm_set (p := 1) (L := ([.inr (13, [.int 0, .null, .null, .null, .null, .int 0, .int 0, .int 0, .int 0, .null, .int 0, .int 0, .int 0, .int 0, .int 0, .int 0, .null, .null, .null, .int 0, .null, .null, .null, .int 0, .null, .int 0, .null, .null, .int 0, .int 0, .int 0, .int 0]), .inl (t 0, 12, .inl (upd (upd (upd (fun _ => 0 : Nat → Int32) 0 31) 1 28) 2 31))] : List va_E)) (Nat.succ_lt_succ (Nat.succ_pos _)) rfl] at w
  have w : qW D b 47 (ovm ([.inr (13, [.int 0, .null, .null, .null, .null, .int 0, .int 0, .int 0, .int 0, .null, .int 0, .int 0, .int 0, .int 0, .int 0, .int 0, .null, .null, .null, .int 0, .null, .null, .null, .int 0, .null, .int 0, .null, .null, .int 0, .int 0, .int 0, .int 0]), .inl (t 0, 12, .inl (upd (upd (upd (upd (fun _ => 0 : Nat → Int32) 0 31) 1 28) 2 31) 3 30))] : List va_E) σ0) s H locs := w
  refine lv_dup hx hb dX9_init_29 rfl ?_
  refine lv_iconst (v := 4) hx hb dX9_init_30 (by decide) ?_
  refine lv_bipush (v := 31) hx hb dX9_init_31 (by decide) ?_
  refine q_iast X w (k := 46) (i := 4) (x := 31) rfl (by unfold vp_in; decide) dX9_init_33 (fun H locs w => ?_)
  rw [ovm_set (p := 1) (L := ([.inr (13, [.int 0, .null, .null, .null, .null, .int 0, .int 0, .int 0, .int 0, .null, .int 0, .int 0, .int 0, .int 0, .int 0, .int 0, .null, .null, .null, .int 0, .null, .null, .null, .int 0, .null, .int 0, .null, .null, .int 0, .int 0, .int 0, .int 0]), .inl (t 0, 12, .inl (upd (upd (upd (upd (fun _ => 0 : Nat → Int32) 0 31) 1 28) 2 31) 3 30))] : List va_E)) (Nat.succ_lt_succ (Nat.succ_pos _)) rfl] at w
  have w : qW D b 47 (ovm ([.inr (13, [.int 0, .null, .null, .null, .null, .int 0, .int 0, .int 0, .int 0, .null, .int 0, .int 0, .int 0, .int 0, .int 0, .int 0, .null, .null, .null, .int 0, .null, .null, .null, .int 0, .null, .int 0, .null, .null, .int 0, .int 0, .int 0, .int 0]), .inl (t 0, 12, .inl (upd (upd (upd (upd (upd (fun _ => 0 : Nat → Int32) 0 31) 1 28) 2 31) 3 30) 4 31))] : List va_E) σ0) s H locs := w
  refine lv_dup hx hb dX9_init_34 rfl ?_
  refine lv_iconst (v := 5) hx hb dX9_init_35 (by decide) ?_
  refine lv_bipush (v := 30) hx hb dX9_init_36 (by decide) ?_
  refine q_iast X w (k := 46) (i := 5) (x := 30) rfl (by unfold vp_in; decide) dX9_init_38 (fun H locs w => ?_)
  rw [ovm_set (p := 1) (L := ([.inr (13, [.int 0, .null, .null, .null, .null, .int 0, .int 0, .int 0, .int 0, .null, .int 0, .int 0, .int 0, .int 0, .int 0, .int 0, .null, .null, .null, .int 0, .null, .null, .null, .int 0, .null, .int 0, .null, .null, .int 0, .int 0, .int 0, .int 0]), .inl (t 0, 12, .inl (upd (upd (upd (upd (upd (fun _ => 0 : Nat → Int32) 0 31) 1 28) 2 31) 3 30) 4 31))] : List va_E)) (Nat.succ_lt_succ (Nat.succ_pos _)) rfl] at w
  have w : qW D b 47 (ovm ([.inr (13, [.int 0, .null, .null, .null, .null, .int 0, .int 0, .int 0, .int 0, .null, .int 0, .int 0, .int 0, .int 0, .int 0, .int 0, .null, .null, .null, .int 0, .null, .null, .null, .int 0, .null, .int 0, .null, .null, .int 0, .int 0, .int 0, .int 0]), .inl (t 0, 12, .inl (upd (upd (upd (upd (upd (upd (fun _ => 0 : Nat → Int32) 0 31) 1 28) 2 31) 3 30) 4 31) 5 30))] : List va_E) σ0) s H locs := w
  refine lv_dup hx hb dX9_init_39 rfl ?_
  refine lv_bipush (v := 6) hx hb dX9_init_40 (by decide) ?_
  refine lv_bipush (v := 31) hx hb dX9_init_42 (by decide) ?_
  refine q_iast X w (k := 46) (i := 6) (x := 31) rfl (by unfold vp_in; decide) dX9_init_44 (fun H locs w => ?_)
  rw [ovm_set (p := 1) (L := ([.inr (13, [.int 0, .null, .null, .null, .null, .int 0, .int 0, .int 0, .int 0, .null, .int 0, .int 0, .int 0, .int 0, .int 0, .int 0, .null, .null, .null, .int 0, .null, .null, .null, .int 0, .null, .int 0, .null, .null, .int 0, .int 0, .int 0, .int 0]), .inl (t 0, 12, .inl (upd (upd (upd (upd (upd (upd (fun _ => 0 : Nat → Int32) 0 31) 1 28) 2 31) 3 30) 4 31) 5 30))] : List va_E)) (Nat.succ_lt_succ (Nat.succ_pos _)) rfl] at w
  have w : qW D b 47 (ovm ([.inr (13, [.int 0, .null, .null, .null, .null, .int 0, .int 0, .int 0, .int 0, .null, .int 0, .int 0, .int 0, .int 0, .int 0, .int 0, .null, .null, .null, .int 0, .null, .null, .null, .int 0, .null, .int 0, .null, .null, .int 0, .int 0, .int 0, .int 0]), .inl (t 0, 12, .inl (upd (upd (upd (upd (upd (upd (upd (fun _ => 0 : Nat → Int32) 0 31) 1 28) 2 31) 3 30) 4 31) 5 30) 6 31))] : List va_E) σ0) s H locs := w
  refine lv_dup hx hb dX9_init_45 rfl ?_
  refine lv_bipush (v := 7) hx hb dX9_init_46 (by decide) ?_
  refine lv_bipush (v := 31) hx hb dX9_init_48 (by decide) ?_
  refine q_iast X w (k := 46) (i := 7) (x := 31) rfl (by unfold vp_in; decide) dX9_init_50 (fun H locs w => ?_)
  rw [ovm_set (p := 1) (L := ([.inr (13, [.int 0, .null, .null, .null, .null, .int 0, .int 0, .int 0, .int 0, .null, .int 0, .int 0, .int 0, .int 0, .int 0, .int 0, .null, .null, .null, .int 0, .null, .null, .null, .int 0, .null, .int 0, .null, .null, .int 0, .int 0, .int 0, .int 0]), .inl (t 0, 12, .inl (upd (upd (upd (upd (upd (upd (upd (fun _ => 0 : Nat → Int32) 0 31) 1 28) 2 31) 3 30) 4 31) 5 30) 6 31))] : List va_E)) (Nat.succ_lt_succ (Nat.succ_pos _)) rfl] at w
  have w : qW D b 47 (ovm ([.inr (13, [.int 0, .null, .null, .null, .null, .int 0, .int 0, .int 0, .int 0, .null, .int 0, .int 0, .int 0, .int 0, .int 0, .int 0, .null, .null, .null, .int 0, .null, .null, .null, .int 0, .null, .int 0, .null, .null, .int 0, .int 0, .int 0, .int 0]), .inl (t 0, 12, .inl (upd (upd (upd (upd (upd (upd (upd (upd (fun _ => 0 : Nat → Int32) 0 31) 1 28) 2 31) 3 30) 4 31) 5 30) 6 31) 7 31))] : List va_E) σ0) s H locs := w
  refine lv_dup hx hb dX9_init_51 rfl ?_
  refine lv_bipush (v := 8) hx hb dX9_init_52 (by decide) ?_
  refine lv_bipush (v := 30) hx hb dX9_init_54 (by decide) ?_
  refine q_iast X w (k := 46) (i := 8) (x := 30) rfl (by unfold vp_in; decide) dX9_init_56 (fun H locs w => ?_)
  rw [ovm_set (p := 1) (L := ([.inr (13, [.int 0, .null, .null, .null, .null, .int 0, .int 0, .int 0, .int 0, .null, .int 0, .int 0, .int 0, .int 0, .int 0, .int 0, .null, .null, .null, .int 0, .null, .null, .null, .int 0, .null, .int 0, .null, .null, .int 0, .int 0, .int 0, .int 0]), .inl (t 0, 12, .inl (upd (upd (upd (upd (upd (upd (upd (upd (fun _ => 0 : Nat → Int32) 0 31) 1 28) 2 31) 3 30) 4 31) 5 30) 6 31) 7 31))] : List va_E)) (Nat.succ_lt_succ (Nat.succ_pos _)) rfl] at w
  have w : qW D b 47 (ovm ([.inr (13, [.int 0, .null, .null, .null, .null, .int 0, .int 0, .int 0, .int 0, .null, .int 0, .int 0, .int 0, .int 0, .int 0, .int 0, .null, .null, .null, .int 0, .null, .null, .null, .int 0, .null, .int 0, .null, .null, .int 0, .int 0, .int 0, .int 0]), .inl (t 0, 12, .inl (upd (upd (upd (upd (upd (upd (upd (upd (upd (fun _ => 0 : Nat → Int32) 0 31) 1 28) 2 31) 3 30) 4 31) 5 30) 6 31) 7 31) 8 30))] : List va_E) σ0) s H locs := w
  refine lv_dup hx hb dX9_init_57 rfl ?_
  refine lv_bipush (v := 9) hx hb dX9_init_58 (by decide) ?_
  refine lv_bipush (v := 31) hx hb dX9_init_60 (by decide) ?_
  refine q_iast X w (k := 46) (i := 9) (x := 31) rfl (by unfold vp_in; decide) dX9_init_62 (fun H locs w => ?_)
  rw [ovm_set (p := 1) (L := ([.inr (13, [.int 0, .null, .null, .null, .null, .int 0, .int 0, .int 0, .int 0, .null, .int 0, .int 0, .int 0, .int 0, .int 0, .int 0, .null, .null, .null, .int 0, .null, .null, .null, .int 0, .null, .int 0, .null, .null, .int 0, .int 0, .int 0, .int 0]), .inl (t 0, 12, .inl (upd (upd (upd (upd (upd (upd (upd (upd (upd (fun _ => 0 : Nat → Int32) 0 31) 1 28) 2 31) 3 30) 4 31) 5 30) 6 31) 7 31) 8 30))] : List va_E)) (Nat.succ_lt_succ (Nat.succ_pos _)) rfl] at w
  have w : qW D b 47 (ovm ([.inr (13, [.int 0, .null, .null, .null, .null, .int 0, .int 0, .int 0, .int 0, .null, .int 0, .int 0, .int 0, .int 0, .int 0, .int 0, .null, .null, .null, .int 0, .null, .null, .null, .int 0, .null, .int 0, .null, .null, .int 0, .int 0, .int 0, .int 0]), .inl (t 0, 12, .inl (upd (upd (upd (upd (upd (upd (upd (upd (upd (upd (fun _ => 0 : Nat → Int32) 0 31) 1 28) 2 31) 3 30) 4 31) 5 30) 6 31) 7 31) 8 30) 9 31))] : List va_E) σ0) s H locs := w
  refine lv_dup hx hb dX9_init_63 rfl ?_
  refine lv_bipush (v := 10) hx hb dX9_init_64 (by decide) ?_
  refine lv_bipush (v := 30) hx hb dX9_init_66 (by decide) ?_
  refine q_iast X w (k := 46) (i := 10) (x := 30) rfl (by unfold vp_in; decide) dX9_init_68 (fun H locs w => ?_)
  rw [ovm_set (p := 1) (L := ([.inr (13, [.int 0, .null, .null, .null, .null, .int 0, .int 0, .int 0, .int 0, .null, .int 0, .int 0, .int 0, .int 0, .int 0, .int 0, .null, .null, .null, .int 0, .null, .null, .null, .int 0, .null, .int 0, .null, .null, .int 0, .int 0, .int 0, .int 0]), .inl (t 0, 12, .inl (upd (upd (upd (upd (upd (upd (upd (upd (upd (upd (fun _ => 0 : Nat → Int32) 0 31) 1 28) 2 31) 3 30) 4 31) 5 30) 6 31) 7 31) 8 30) 9 31))] : List va_E)) (Nat.succ_lt_succ (Nat.succ_pos _)) rfl] at w
  have w : qW D b 47 (ovm ([.inr (13, [.int 0, .null, .null, .null, .null, .int 0, .int 0, .int 0, .int 0, .null, .int 0, .int 0, .int 0, .int 0, .int 0, .int 0, .null, .null, .null, .int 0, .null, .null, .null, .int 0, .null, .int 0, .null, .null, .int 0, .int 0, .int 0, .int 0]), .inl (t 0, 12, .inl (upd (upd (upd (upd (upd (upd (upd (upd (upd (upd (upd (fun _ => 0 : Nat → Int32) 0 31) 1 28) 2 31) 3 30) 4 31) 5 30) 6 31) 7 31) 8 30) 9 31) 10 30))] : List va_E) σ0) s H locs := w
  refine lv_dup hx hb dX9_init_69 rfl ?_
  refine lv_bipush (v := 11) hx hb dX9_init_70 (by decide) ?_
  refine lv_bipush (v := 31) hx hb dX9_init_72 (by decide) ?_
  refine q_iast X w (k := 46) (i := 11) (x := 31) rfl (by unfold vp_in; decide) dX9_init_74 (fun H locs w => ?_)
  rw [ovm_set (p := 1) (L := ([.inr (13, [.int 0, .null, .null, .null, .null, .int 0, .int 0, .int 0, .int 0, .null, .int 0, .int 0, .int 0, .int 0, .int 0, .int 0, .null, .null, .null, .int 0, .null, .null, .null, .int 0, .null, .int 0, .null, .null, .int 0, .int 0, .int 0, .int 0]), .inl (t 0, 12, .inl (upd (upd (upd (upd (upd (upd (upd (upd (upd (upd (upd (fun _ => 0 : Nat → Int32) 0 31) 1 28) 2 31) 3 30) 4 31) 5 30) 6 31) 7 31) 8 30) 9 31) 10 30))] : List va_E)) (Nat.succ_lt_succ (Nat.succ_pos _)) rfl] at w
  have w : qW D b 47 (ovm ([.inr (13, [.int 0, .null, .null, .null, .null, .int 0, .int 0, .int 0, .int 0, .null, .int 0, .int 0, .int 0, .int 0, .int 0, .int 0, .null, .null, .null, .int 0, .null, .null, .null, .int 0, .null, .int 0, .null, .null, .int 0, .int 0, .int 0, .int 0]), .inl (t 0, 12, .inl (upd (upd (upd (upd (upd (upd (upd (upd (upd (upd (upd (upd (fun _ => 0 : Nat → Int32) 0 31) 1 28) 2 31) 3 30) 4 31) 5 30) 6 31) 7 31) 8 30) 9 31) 10 30) 11 31))] : List va_E) σ0) s H locs := w
  refine q_putF X w inX9 tyX9 tyX9_ok nmX9 rfl 1 (by decide) fl_X9_7 rfl hin rfl (k := 45) rfl (v := .ref (b + 46)) rfl rfl (Nat.le_of_ble_eq_true rfl) dX9_init_75 (fun H locs w => ?_)
  rw [ovm_set (p := 0) (L := ([.inr (13, [.int 0, .null, .null, .null, .null, .int 0, .int 0, .int 0, .int 0, .null, .int 0, .int 0, .int 0, .int 0, .int 0, .int 0, .null, .null, .null, .int 0, .null, .null, .null, .int 0, .null, .int 0, .null, .null, .int 0, .int 0, .int 0, .int 0]), .inl (t 0, 12, .inl (upd (upd (upd (upd (upd (upd (upd (upd (upd (upd (upd (upd (fun _ => 0 : Nat → Int32) 0 31) 1 28) 2 31) 3 30) 4 31) 5 30) 6 31) 7 31) 8 30) 9 31) 10 30) 11 31))] : List va_E)) (Nat.succ_pos _) rfl] at w
  have w : qW D b 47 (ovm ([.inr (13, [.int 0, .ref (b + 46), .null, .null, .null, .int 0, .int 0, .int 0, .int 0, .null, .int 0, .int 0, .int 0, .int 0, .int 0, .int 0, .null, .null, .null, .int 0, .null, .null, .null, .int 0, .null, .int 0, .null, .null, .int 0, .int 0, .int 0, .int 0]), .inl (t 0, 12, .inl (upd (upd (upd (upd (upd (upd (upd (upd (upd (upd (upd (upd (fun _ => 0 : Nat → Int32) 0 31) 1 28) 2 31) 3 30) 4 31) 5 30) 6 31) 7 31) 8 30) 9 31) 10 30) 11 31))] : List va_E) σ0) s H locs := w
  refine lv_aload_n hx hb dX9_init_78 rfl (lv_at hl 0 rfl) ?_
  refine lv_sipush (v := 198) hx hb dX9_init_79 (by decide) ?_
  refine q_newa (atype := .int) X w ac_int rfl (fun _ h => by cases h) 0 rfl (a0 := (198, .inl (fun _ => 0))) (N := 198) (fun _ => rfl) (by decide) (by decide) (Nat.le_of_ble_eq_true rfl) (Nat.le_of_ble_eq_true rfl) (Nat.le_of_ble_eq_true rfl) dX9_init_82 (fun H w => ?_)
  rw [ovm_push (n := 47) rfl] at w
  have w : qW D b 48 (ovm ([.inr (13, [.int 0, .ref (b + 46), .null, .null, .null, .int 0, .int 0, .int 0, .int 0, .null, .int 0, .int 0, .int 0, .int 0, .int 0, .int 0, .null, .null, .null, .int 0, .null, .null, .null, .int 0, .null, .int 0, .null, .null, .int 0, .int 0, .int 0, .int 0]), .inl (t 0, 12, .inl (upd (upd (upd (upd (upd (upd (upd (upd (upd (upd (upd (upd (fun _ => 0 : Nat → Int32) 0 31) 1 28) 2 31) 3 30) 4 31) 5 30) 6 31) 7 31) 8 30) 9 31) 10 30) 11 31)), .inl (t 0, 198, .inl (fun _ => 0))] : List va_E) σ0) s H _ := w
  refine q_putF X w inX9 tyX9 tyX9_ok nmX9 rfl 2 (by decide) fl_X9_13 rfl hin rfl (k := 45) rfl (v := .ref (b + 47)) rfl rfl (Nat.le_of_ble_eq_true rfl) dX9_init_84 (fun H locs w => ?_)
  rw [ovm_set (p := 0) (L := ([.inr (13, [.int 0, .ref (b + 46), .null, .null, .null, .int 0, .int 0, .int 0, .int 0, .null, .int 0, .int 0, .int 0, .int 0, .int 0, .int 0, .null, .null, .null, .int 0, .null, .null, .null, .int 0, .null, .int 0, .null, .null, .int 0, .int 0, .int 0, .int 0]), .inl (t 0, 12, .inl (upd (upd (upd (upd (upd (upd (upd (upd (upd (upd (upd (upd (fun _ => 0 : Nat → Int32) 0 31) 1 28) 2 31) 3 30) 4 31) 5 30) 6 31) 7 31) 8 30) 9 31) 10 30) 11 31)), .inl (t 0, 198, .inl (fun _ => 0))] : List va_E)) (Nat.succ_pos _) rfl] at w
  have w : qW D b 48 (ovm ([.inr (13, [.int 0, .ref (b + 46), .ref (b + 47), .null, .null, .int 0, .int 0, .int 0, .int 0, .null, .int 0, .int 0, .int 0, .int 0, .int 0, .int 0, .null, .null, .null, .int 0, .null, .null, .null, .int 0, .null, .int 0, .null, .null, .int 0, .int 0, .int 0, .int 0]), .inl (t 0, 12, .inl (upd (upd (upd (upd (upd (upd (upd (upd (upd (upd (upd (upd (fun _ => 0 : Nat → Int32) 0 31) 1 28) 2 31) 3 30) 4 31) 5 30) 6 31) 7 31) 8 30) 9 31) 10 30) 11 31)), .inl (t 0, 198, .inl (fun _ => 0))] : List va_E) σ0) s H locs := w
  refine lv_aload_n hx hb dX9_init_87 rfl (lv_at hl 0 rfl) ?_
  refine lv_bipush (v := 33) hx hb dX9_init_88 (by decide) ?_
  refine q_newa (atype := .int) X w ac_int rfl (fun _ h => by cases h) 0 rfl (a0 := (33, .inl (fun _ => 0))) (N := 33) (fun _ => rfl) (by decide) (by decide) (Nat.le_of_ble_eq_true rfl) (Nat.le_of_ble_eq_true rfl) (Nat.le_of_ble_eq_true rfl) dX9_init_90 (fun H w => ?_)
  rw [ovm_push (n := 48) rfl] at w
  have w : qW D b 49 (ovm ([.inr (13, [.int 0, .ref (b + 46), .ref (b + 47), .null, .null, .int 0, .int 0, .int 0, .int 0, .null, .int 0, .int 0, .int 0, .int 0, .int 0, .int 0, .null, .null, .null, .int 0, .null, .null, .null, .int 0, .null, .int 0, .null, .null, .int 0, .int 0, .int 0, .int 0]), .inl (t 0, 12, .inl (upd (upd (upd (upd (upd (upd (upd (upd (upd (upd (upd (upd (fun _ => 0 : Nat → Int32) 0 31) 1 28) 2 31) 3 30) 4 31) 5 30) 6 31) 7 31) 8 30) 9 31) 10 30) 11 31)), .inl (t 0, 198, .inl (fun _ => 0)), .inl (t 0, 33, .inl (fun _ => 0))] : List va_E) σ0) s H _ := w
  refine q_putF X w inX9 tyX9 tyX9_ok nmX9 rfl 3 (by decide) fl_X9_16 rfl hin rfl (k := 45) rfl (v := .ref (b + 48)) rfl rfl (Nat.le_of_ble_eq_true rfl) dX9_init_92 (fun H locs w => ?_)
  rw [ovm_set (p := 0) (L := ([.inr (13, [.int 0, .ref (b + 46), .ref (b + 47), .null, .null, .int 0, .int 0, .int 0, .int 0, .null, .int 0, .int 0, .int 0, .int 0, .int 0, .int 0, .null, .null, .null, .int 0, .null, .null, .null, .int 0, .null, .int 0, .null, .null, .int 0, .int 0, .int 0, .int 0]), .inl (t 0, 12, .inl (upd (upd (upd (upd (upd (upd (upd (upd (upd (upd (upd (upd (fun _ => 0 : Nat → Int32) 0 31) 1 28) 2 31) 3 30) 4 31) 5 30) 6 31) 7 31) 8 30) 9 31) 10 30) 11 31)), .inl (t 0, 198, .inl (fun _ => 0)), .inl (t 0, 33, .inl (fun _ => 0))] : List va_E)) (Nat.succ_pos _) rfl] at w
  have w : qW D b 49 (ovm ([.inr (13, [.int 0, .ref (b + 46), .ref (b + 47), .ref (b + 48), .null, .int 0, .int 0, .int 0, .int 0, .null, .int 0, .int 0, .int 0, .int 0, .int 0, .int 0, .null, .null, .null, .int 0, .null, .null, .null, .int 0, .null, .int 0, .null, .null, .int 0, .int 0, .int 0, .int 0]), .inl (t 0, 12, .inl (upd (upd (upd (upd (upd (upd (upd (upd (upd (upd (upd (upd (fun _ => 0 : Nat → Int32) 0 31) 1 28) 2 31) 3 30) 4 31) 5 30) 6 31) 7 31) 8 30) 9 31) 10 30) 11 31)), .inl (t 0, 198, .inl (fun _ => 0)), .inl (t 0, 33, .inl (fun _ => 0))] : List va_E) σ0) s H locs := w
  refine lv_aload_n hx hb dX9_init_95 rfl (lv_at hl 0 rfl) ?_
  refine lv_sipush (v := 24252) hx hb dX9_init_96 (by decide) ?_
  refine q_newa (atype := .int) X w ac_int rfl (fun _ h => by cases h) 0 rfl (a0 := (24252, .inl (fun _ => 0))) (N := 24252) (fun _ => rfl) (by decide) (by decide) (Nat.le_of_ble_eq_true rfl) (Nat.le_of_ble_eq_true rfl) (Nat.le_of_ble_eq_true rfl) dX9_init_99 (fun H w => ?_)
  rw [ovm_push (n := 49) rfl] at w
  have w : qW D b 50 (ovm ([.inr (13, [.int 0, .ref (b + 46), .ref (b + 47), .ref (b + 48), .null, .int 0, .int 0, .int 0, .int 0, .null, .int 0, .int 0, .int 0, .int 0, .int 0, .int 0, .null, .null, .null, .int 0, .null, .null, .null, .int 0, .null, .int 0, .null, .null, .int 0, .int 0, .int 0, .int 0]), .inl (t 0, 12, .inl (upd (upd (upd (upd (upd (upd (upd (upd (upd (upd (upd (upd (fun _ => 0 : Nat → Int32) 0 31) 1 28) 2 31) 3 30) 4 31) 5 30) 6 31) 7 31) 8 30) 9 31) 10 30) 11 31)), .inl (t 0, 198, .inl (fun _ => 0)), .inl (t 0, 33, .inl (fun _ => 0)), .inl (t 0, 24252, .inl (fun _ => 0))] : List va_E) σ0) s H _ := w
  refine q_putF X w inX9 tyX9 tyX9_ok nmX9 rfl 4 (by decide) fl_X9_19 rfl hin rfl (k := 45) rfl (v := .ref (b + 49)) rfl rfl (Nat.le_of_ble_eq_true rfl) dX9_init_101 (fun H locs w => ?_)
  rw [ovm_set (p := 0) (L := ([.inr (13, [.int 0, .ref (b + 46), .ref (b + 47), .ref (b + 48), .null, .int 0, .int 0, .int 0, .int 0, .null, .int 0, .int 0, .int 0, .int 0, .int 0, .int 0, .null, .null, .null, .int 0, .null, .null, .null, .int 0, .null, .int 0, .null, .null, .int 0, .int 0, .int 0, .int 0]), .inl (t 0, 12, .inl (upd (upd (upd (upd (upd (upd (upd (upd (upd (upd (upd (upd (fun _ => 0 : Nat → Int32) 0 31) 1 28) 2 31) 3 30) 4 31) 5 30) 6 31) 7 31) 8 30) 9 31) 10 30) 11 31)), .inl (t 0, 198, .inl (fun _ => 0)), .inl (t 0, 33, .inl (fun _ => 0)), .inl (t 0, 24252, .inl (fun _ => 0))] : List va_E)) (Nat.succ_pos _) rfl] at w
  have w : qW D b 50 (ovm ([.inr (13, [.int 0, .ref (b + 46), .ref (b + 47), .ref (b + 48), .ref (b + 49), .int 0, .int 0, .int 0, .int 0, .null, .int 0, .int 0, .int 0, .int 0, .int 0, .int 0, .null, .null, .null, .int 0, .null, .null, .null, .int 0, .null, .int 0, .null, .null, .int 0, .int 0, .int 0, .int 0]), .inl (t 0, 12, .inl (upd (upd (upd (upd (upd (upd (upd (upd (upd (upd (upd (upd (fun _ => 0 : Nat → Int32) 0 31) 1 28) 2 31) 3 30) 4 31) 5 30) 6 31) 7 31) 8 30) 9 31) 10 30) 11 31)), .inl (t 0, 198, .inl (fun _ => 0)), .inl (t 0, 33, .inl (fun _ => 0)), .inl (t 0, 24252, .inl (fun _ => 0))] : List va_E) σ0) s H locs := w
  refine lv_aload_n hx hb dX9_init_104 rfl (lv_at hl 0 rfl) ?_
  refine lv_bipush (v := 100) hx hb dX9_init_105 (by decide) ?_
  refine q_newa (atype := .int) X w ac_int rfl (fun _ h => by cases h) 0 rfl (a0 := (100, .inl (fun _ => 0))) (N := 100) (fun _ => rfl) (by decide) (by decide) (Nat.le_of_ble_eq_true rfl) (Nat.le_of_ble_eq_true rfl) (Nat.le_of_ble_eq_true rfl) dX9_init_107 (fun H w => ?_)
  rw [ovm_push (n := 50) rfl] at w
  have w : qW D b 51 (ovm ([.inr (13, [.int 0, .ref (b + 46), .ref (b + 47), .ref (b + 48), .ref (b + 49), .int 0, .int 0, .int 0, .int 0, .null, .int 0, .int 0, .int 0, .int 0, .int 0, .int 0, .null, .null, .null, .int 0, .null, .null, .null, .int 0, .null, .int 0, .null, .null, .int 0, .int 0, .int 0, .int 0]), .inl (t 0, 12, .inl (upd (upd (upd (upd (upd (upd (upd (upd (upd (upd (upd (upd (fun _ => 0 : Nat → Int32) 0 31) 1 28) 2 31) 3 30) 4 31) 5 30) 6 31) 7 31) 8 30) 9 31) 10 30) 11 31)), .inl (t 0, 198, .inl (fun _ => 0)), .inl (t 0, 33, .inl (fun _ => 0)), .inl (t 0, 24252, .inl (fun _ => 0)), .inl (t 0, 100, .inl (fun _ => 0))] : List va_E) σ0) s H _ := w
  refine q_putF X w inX9 tyX9 tyX9_ok nmX9 rfl 9 (by decide) fl_X9_22 rfl hin rfl (k := 45) rfl (v := .ref (b + 50)) rfl rfl (Nat.le_of_ble_eq_true rfl) dX9_init_109 (fun H locs w => ?_)
  rw [ovm_set (p := 0) (L := ([.inr (13, [.int 0, .ref (b + 46), .ref (b + 47), .ref (b + 48), .ref (b + 49), .int 0, .int 0, .int 0, .int 0, .null, .int 0, .int 0, .int 0, .int 0, .int 0, .int 0, .null, .null, .null, .int 0, .null, .null, .null, .int 0, .null, .int 0, .null, .null, .int 0, .int 0, .int 0, .int 0]), .inl (t 0, 12, .inl (upd (upd (upd (upd (upd (upd (upd (upd (upd (upd (upd (upd (fun _ => 0 : Nat → Int32) 0 31) 1 28) 2 31) 3 30) 4 31) 5 30) 6 31) 7 31) 8 30) 9 31) 10 30) 11 31)), .inl (t 0, 198, .inl (fun _ => 0)), .inl (t 0, 33, .inl (fun _ => 0)), .inl (t 0, 24252, .inl (fun _ => 0)), .inl (t 0, 100, .inl (fun _ => 0))] : List va_E)) (Nat.succ_pos _) rfl] at w
  have w : qW D b 51 (ovm ([.inr (13, [.int 0, .ref (b + 46), .ref (b + 47), .ref (b + 48), .ref (b + 49), .int 0, .int 0, .int 0, .int 0, .ref (b + 50), .int 0, .int 0, .int 0, .int 0, .int 0, .int 0, .null, .null, .null, .int 0, .null, .null, .null, .int 0, .null, .int 0, .null, .null, .int 0, .int 0, .int 0, .int 0]), .inl (t 0, 12, .inl (upd (upd (upd (upd (upd (upd (upd (upd (upd (upd (upd (upd (fun _ => 0 : Nat → Int32) 0 31) 1 28) 2 31) 3 30) 4 31) 5 30) 6 31) 7 31) 8 30) 9 31) 10 30) 11 31)), .inl (t 0, 198, .inl (fun _ => 0)), .inl (t 0, 33, .inl (fun _ => 0)), .inl (t 0, 24252, .inl (fun _ => 0)), .inl (t 0, 100, .inl (fun _ => 0))] : List va_E) σ0) s H locs := w
  refine lv_aload_n hx hb dX9_init_112 rfl (lv_at hl 0 rfl) ?_
  refine lv_iconst (v := (-1)) hx hb dX9_init_113 (by decide) ?_
  refine q_put X w inX9 tyX9 tyX9_ok nmX9 rfl 12 (by decide) fl_X9_25 rfl (k := 45) rfl (v := .int (-1)) rfl rfl (Nat.le_of_ble_eq_true rfl) dX9_init_114 (fun H locs w => ?_)
  rw [ovm_set (p := 0) (L := ([.inr (13, [.int 0, .ref (b + 46), .ref (b + 47), .ref (b + 48), .ref (b + 49), .int 0, .int 0, .int 0, .int 0, .ref (b + 50), .int 0, .int 0, .int 0, .int 0, .int 0, .int 0, .null, .null, .null, .int 0, .null, .null, .null, .int 0, .null, .int 0, .null, .null, .int 0, .int 0, .int 0, .int 0]), .inl (t 0, 12, .inl (upd (upd (upd (upd (upd (upd (upd (upd (upd (upd (upd (upd (fun _ => 0 : Nat → Int32) 0 31) 1 28) 2 31) 3 30) 4 31) 5 30) 6 31) 7 31) 8 30) 9 31) 10 30) 11 31)), .inl (t 0, 198, .inl (fun _ => 0)), .inl (t 0, 33, .inl (fun _ => 0)), .inl (t 0, 24252, .inl (fun _ => 0)), .inl (t 0, 100, .inl (fun _ => 0))] : List va_E)) (Nat.succ_pos _) rfl] at w
  have w : qW D b 51 (ovm ([.inr (13, [.int 0, .ref (b + 46), .ref (b + 47), .ref (b + 48), .ref (b + 49), .int 0, .int 0, .int 0, .int 0, .ref (b + 50), .int 0, .int 0, .int (-1), .int 0, .int 0, .int 0, .null, .null, .null, .int 0, .null, .null, .null, .int 0, .null, .int 0, .null, .null, .int 0, .int 0, .int 0, .int 0]), .inl (t 0, 12, .inl (upd (upd (upd (upd (upd (upd (upd (upd (upd (upd (upd (upd (fun _ => 0 : Nat → Int32) 0 31) 1 28) 2 31) 3 30) 4 31) 5 30) 6 31) 7 31) 8 30) 9 31) 10 30) 11 31)), .inl (t 0, 198, .inl (fun _ => 0)), .inl (t 0, 33, .inl (fun _ => 0)), .inl (t 0, 24252, .inl (fun _ => 0)), .inl (t 0, 100, .inl (fun _ => 0))] : List va_E) σ0) s H locs := w
  refine lv_aload_n hx hb dX9_init_117 rfl (lv_at hl 0 rfl) ?_
  refine lv_bipush (v := 48) hx hb dX9_init_118 (by decide) ?_
  refine q_newa (atype := .int) X w ac_int rfl (fun _ h => by cases h) 0 rfl (a0 := (48, .inl (fun _ => 0))) (N := 48) (fun _ => rfl) (by decide) (by decide) (Nat.le_of_ble_eq_true rfl) (Nat.le_of_ble_eq_true rfl) (Nat.le_of_ble_eq_true rfl) dX9_init_120 (fun H w => ?_)
  rw [ovm_push (n := 51) rfl] at w
  have w : qW D b 52 (ovm ([.inr (13, [.int 0, .ref (b + 46), .ref (b + 47), .ref (b + 48), .ref (b + 49), .int 0, .int 0, .int 0, .int 0, .ref (b + 50), .int 0, .int 0, .int (-1), .int 0, .int 0, .int 0, .null, .null, .null, .int 0, .null, .null, .null, .int 0, .null, .int 0, .null, .null, .int 0, .int 0, .int 0, .int 0]), .inl (t 0, 12, .inl (upd (upd (upd (upd (upd (upd (upd (upd (upd (upd (upd (upd (fun _ => 0 : Nat → Int32) 0 31) 1 28) 2 31) 3 30) 4 31) 5 30) 6 31) 7 31) 8 30) 9 31) 10 30) 11 31)), .inl (t 0, 198, .inl (fun _ => 0)), .inl (t 0, 33, .inl (fun _ => 0)), .inl (t 0, 24252, .inl (fun _ => 0)), .inl (t 0, 100, .inl (fun _ => 0)), .inl (t 0, 48, .inl (fun _ => 0))] : List va_E) σ0) s H _ := w
  refine q_putF X w inX9 tyX9 tyX9_ok nmX9 rfl 16 (by decide) fl_X9_29 rfl hin rfl (k := 45) rfl (v := .ref (b + 51)) rfl rfl (Nat.le_of_ble_eq_true rfl) dX9_init_122 (fun H locs w => ?_)
  rw [ovm_set (p := 0) (L := ([.inr (13, [.int 0, .ref (b + 46), .ref (b + 47), .ref (b + 48), .ref (b + 49), .int 0, .int 0, .int 0, .int 0, .ref (b + 50), .int 0, .int 0, .int (-1), .int 0, .int 0, .int 0, .null, .null, .null, .int 0, .null, .null, .null, .int 0, .null, .int 0, .null, .null, .int 0, .int 0, .int 0, .int 0]), .inl (t 0, 12, .inl (upd (upd (upd (upd (upd (upd (upd (upd (upd (upd (upd (upd (fun _ => 0 : Nat → Int32) 0 31) 1 28) 2 31) 3 30) 4 31) 5 30) 6 31) 7 31) 8 30) 9 31) 10 30) 11 31)), .inl (t 0, 198, .inl (fun _ => 0)), .inl (t 0, 33, .inl (fun _ => 0)), .inl (t 0, 24252, .inl (fun _ => 0)), .inl (t 0, 100, .inl (fun _ => 0)), .inl (t 0, 48, .inl (fun _ => 0))] : List va_E)) (Nat.succ_pos _) rfl] at w
  have w : qW D b 52 (ovm ([.inr (13, [.int 0, .ref (b + 46), .ref (b + 47), .ref (b + 48), .ref (b + 49), .int 0, .int 0, .int 0, .int 0, .ref (b + 50), .int 0, .int 0, .int (-1), .int 0, .int 0, .int 0, .ref (b + 51), .null, .null, .int 0, .null, .null, .null, .int 0, .null, .int 0, .null, .null, .int 0, .int 0, .int 0, .int 0]), .inl (t 0, 12, .inl (upd (upd (upd (upd (upd (upd (upd (upd (upd (upd (upd (upd (fun _ => 0 : Nat → Int32) 0 31) 1 28) 2 31) 3 30) 4 31) 5 30) 6 31) 7 31) 8 30) 9 31) 10 30) 11 31)), .inl (t 0, 198, .inl (fun _ => 0)), .inl (t 0, 33, .inl (fun _ => 0)), .inl (t 0, 24252, .inl (fun _ => 0)), .inl (t 0, 100, .inl (fun _ => 0)), .inl (t 0, 48, .inl (fun _ => 0))] : List va_E) σ0) s H locs := w
  refine lv_aload_n hx hb dX9_init_125 rfl (lv_at hl 0 rfl) ?_
  refine lv_bipush (v := 8) hx hb dX9_init_126 (by decide) ?_
  refine q_newa (atype := .int) X w ac_int rfl (fun _ h => by cases h) 0 rfl (a0 := (8, .inl (fun _ => 0))) (N := 8) (fun _ => rfl) (by decide) (by decide) (Nat.le_of_ble_eq_true rfl) (Nat.le_of_ble_eq_true rfl) (Nat.le_of_ble_eq_true rfl) dX9_init_128 (fun H w => ?_)
  rw [ovm_push (n := 52) rfl] at w
  have w : qW D b 53 (ovm ([.inr (13, [.int 0, .ref (b + 46), .ref (b + 47), .ref (b + 48), .ref (b + 49), .int 0, .int 0, .int 0, .int 0, .ref (b + 50), .int 0, .int 0, .int (-1), .int 0, .int 0, .int 0, .ref (b + 51), .null, .null, .int 0, .null, .null, .null, .int 0, .null, .int 0, .null, .null, .int 0, .int 0, .int 0, .int 0]), .inl (t 0, 12, .inl (upd (upd (upd (upd (upd (upd (upd (upd (upd (upd (upd (upd (fun _ => 0 : Nat → Int32) 0 31) 1 28) 2 31) 3 30) 4 31) 5 30) 6 31) 7 31) 8 30) 9 31) 10 30) 11 31)), .inl (t 0, 198, .inl (fun _ => 0)), .inl (t 0, 33, .inl (fun _ => 0)), .inl (t 0, 24252, .inl (fun _ => 0)), .inl (t 0, 100, .inl (fun _ => 0)), .inl (t 0, 48, .inl (fun _ => 0)), .inl (t 0, 8, .inl (fun _ => 0))] : List va_E) σ0) s H _ := w
  refine q_putF X w inX9 tyX9 tyX9_ok nmX9 rfl 17 (by decide) fl_X9_32 rfl hin rfl (k := 45) rfl (v := .ref (b + 52)) rfl rfl (Nat.le_of_ble_eq_true rfl) dX9_init_130 (fun H locs w => ?_)
  rw [ovm_set (p := 0) (L := ([.inr (13, [.int 0, .ref (b + 46), .ref (b + 47), .ref (b + 48), .ref (b + 49), .int 0, .int 0, .int 0, .int 0, .ref (b + 50), .int 0, .int 0, .int (-1), .int 0, .int 0, .int 0, .ref (b + 51), .null, .null, .int 0, .null, .null, .null, .int 0, .null, .int 0, .null, .null, .int 0, .int 0, .int 0, .int 0]), .inl (t 0, 12, .inl (upd (upd (upd (upd (upd (upd (upd (upd (upd (upd (upd (upd (fun _ => 0 : Nat → Int32) 0 31) 1 28) 2 31) 3 30) 4 31) 5 30) 6 31) 7 31) 8 30) 9 31) 10 30) 11 31)), .inl (t 0, 198, .inl (fun _ => 0)), .inl (t 0, 33, .inl (fun _ => 0)), .inl (t 0, 24252, .inl (fun _ => 0)), .inl (t 0, 100, .inl (fun _ => 0)), .inl (t 0, 48, .inl (fun _ => 0)), .inl (t 0, 8, .inl (fun _ => 0))] : List va_E)) (Nat.succ_pos _) rfl] at w
  have w : qW D b 53 (ovm ([.inr (13, [.int 0, .ref (b + 46), .ref (b + 47), .ref (b + 48), .ref (b + 49), .int 0, .int 0, .int 0, .int 0, .ref (b + 50), .int 0, .int 0, .int (-1), .int 0, .int 0, .int 0, .ref (b + 51), .ref (b + 52), .null, .int 0, .null, .null, .null, .int 0, .null, .int 0, .null, .null, .int 0, .int 0, .int 0, .int 0]), .inl (t 0, 12, .inl (upd (upd (upd (upd (upd (upd (upd (upd (upd (upd (upd (upd (fun _ => 0 : Nat → Int32) 0 31) 1 28) 2 31) 3 30) 4 31) 5 30) 6 31) 7 31) 8 30) 9 31) 10 30) 11 31)), .inl (t 0, 198, .inl (fun _ => 0)), .inl (t 0, 33, .inl (fun _ => 0)), .inl (t 0, 24252, .inl (fun _ => 0)), .inl (t 0, 100, .inl (fun _ => 0)), .inl (t 0, 48, .inl (fun _ => 0)), .inl (t 0, 8, .inl (fun _ => 0))] : List va_E) σ0) s H locs := w
  refine lv_aload_n hx hb dX9_init_133 rfl (lv_at hl 0 rfl) ?_
  refine lv_bipush (v := 8) hx hb dX9_init_134 (by decide) ?_
  refine q_newa (atype := .int) X w ac_int rfl (fun _ h => by cases h) 0 rfl (a0 := (8, .inl (fun _ => 0))) (N := 8) (fun _ => rfl) (by decide) (by decide) (Nat.le_of_ble_eq_true rfl) (Nat.le_of_ble_eq_true rfl) (Nat.le_of_ble_eq_true rfl) dX9_init_136 (fun H w => ?_)
  rw [ovm_push (n := 53) rfl] at w
  have w : qW D b 54 (ovm ([.inr (13, [.int 0, .ref (b + 46), .ref (b + 47), .ref (b + 48), .ref (b + 49), .int 0, .int 0, .int 0, .int 0, .ref (b + 50), .int 0, .int 0, .int (-1), .int 0, .int 0, .int 0, .ref (b + 51), .ref (b + 52), .null, .int 0, .null, .null, .null, .int 0, .null, .int 0, .null, .null, .int 0, .int 0, .int 0, .int 0]), .inl (t 0, 12, .inl (upd (upd (upd (upd (upd (upd (upd (upd (upd (upd (upd (upd (fun _ => 0 : Nat → Int32) 0 31) 1 28) 2 31) 3 30) 4 31) 5 30) 6 31) 7 31) 8 30) 9 31) 10 30) 11 31)), .inl (t 0, 198, .inl (fun _ => 0)), .inl (t 0, 33, .inl (fun _ => 0)), .inl (t 0, 24252, .inl (fun _ => 0)), .inl (t 0, 100, .inl (fun _ => 0)), .inl (t 0, 48, .inl (fun _ => 0)), .inl (t 0, 8, .inl (fun _ => 0)), .inl (t 0, 8, .inl (fun _ => 0))] : List va_E) σ0) s H _ := w
  refine q_putF X w inX9 tyX9 tyX9_ok nmX9 rfl 18 (by decide) fl_X9_35 rfl hin rfl (k := 45) rfl (v := .ref (b + 53)) rfl rfl (Nat.le_of_ble_eq_true rfl) dX9_init_138 (fun H locs w => ?_)
  rw [ovm_set (p := 0) (L := ([.inr (13, [.int 0, .ref (b + 46), .ref (b + 47), .ref (b + 48), .ref (b + 49), .int 0, .int 0, .int 0, .int 0, .ref (b + 50), .int 0, .int 0, .int (-1), .int 0, .int 0, .int 0, .ref (b + 51), .ref (b + 52), .null, .int 0, .null, .null, .null, .int 0, .null, .int 0, .null, .null, .int 0, .int 0, .int 0, .int 0]), .inl (t 0, 12, .inl (upd (upd (upd (upd (upd (upd (upd (upd (upd (upd (upd (upd (fun _ => 0 : Nat → Int32) 0 31) 1 28) 2 31) 3 30) 4 31) 5 30) 6 31) 7 31) 8 30) 9 31) 10 30) 11 31)), .inl (t 0, 198, .inl (fun _ => 0)), .inl (t 0, 33, .inl (fun _ => 0)), .inl (t 0, 24252, .inl (fun _ => 0)), .inl (t 0, 100, .inl (fun _ => 0)), .inl (t 0, 48, .inl (fun _ => 0)), .inl (t 0, 8, .inl (fun _ => 0)), .inl (t 0, 8, .inl (fun _ => 0))] : List va_E)) (Nat.succ_pos _) rfl] at w
  have w : qW D b 54 (ovm ([.inr (13, [.int 0, .ref (b + 46), .ref (b + 47), .ref (b + 48), .ref (b + 49), .int 0, .int 0, .int 0, .int 0, .ref (b + 50), .int 0, .int 0, .int (-1), .int 0, .int 0, .int 0, .ref (b + 51), .ref (b + 52), .ref (b + 53), .int 0, .null, .null, .null, .int 0, .null, .int 0, .null, .null, .int 0, .int 0, .int 0, .int 0]), .inl (t 0, 12, .inl (upd (upd (upd (upd (upd (upd (upd (upd (upd (upd (upd (upd (fun _ => 0 : Nat → Int32) 0 31) 1 28) 2 31) 3 30) 4 31) 5 30) 6 31) 7 31) 8 30) 9 31) 10 30) 11 31)), .inl (t 0, 198, .inl (fun _ => 0)), .inl (t 0, 33, .inl (fun _ => 0)), .inl (t 0, 24252, .inl (fun _ => 0)), .inl (t 0, 100, .inl (fun _ => 0)), .inl (t 0, 48, .inl (fun _ => 0)), .inl (t 0, 8, .inl (fun _ => 0)), .inl (t 0, 8, .inl (fun _ => 0))] : List va_E) σ0) s H locs := w
  refine lv_aload_n hx hb dX9_init_141 rfl (lv_at hl 0 rfl) ?_
  refine lv_bipush (v := 18) hx hb dX9_init_142 (by decide) ?_
  refine q_newa (atype := .int) X w ac_int rfl (fun _ h => by cases h) 0 rfl (a0 := (18, .inl (fun _ => 0))) (N := 18) (fun _ => rfl) (by decide) (by decide) (Nat.le_of_ble_eq_true rfl) (Nat.le_of_ble_eq_true rfl) (Nat.le_of_ble_eq_true rfl) dX9_init_144 (fun H w => ?_)
  rw [ovm_push (n := 54) rfl] at w
  have w : qW D b 55 (ovm ([.inr (13, [.int 0, .ref (b + 46), .ref (b + 47), .ref (b + 48), .ref (b + 49), .int 0, .int 0, .int 0, .int 0, .ref (b + 50), .int 0, .int 0, .int (-1), .int 0, .int 0, .int 0, .ref (b + 51), .ref (b + 52), .ref (b + 53), .int 0, .null, .null, .null, .int 0, .null, .int 0, .null, .null, .int 0, .int 0, .int 0, .int 0]), .inl (t 0, 12, .inl (upd (upd (upd (upd (upd (upd (upd (upd (upd (upd (upd (upd (fun _ => 0 : Nat → Int32) 0 31) 1 28) 2 31) 3 30) 4 31) 5 30) 6 31) 7 31) 8 30) 9 31) 10 30) 11 31)), .inl (t 0, 198, .inl (fun _ => 0)), .inl (t 0, 33, .inl (fun _ => 0)), .inl (t 0, 24252, .inl (fun _ => 0)), .inl (t 0, 100, .inl (fun _ => 0)), .inl (t 0, 48, .inl (fun _ => 0)), .inl (t 0, 8, .inl (fun _ => 0)), .inl (t 0, 8, .inl (fun _ => 0)), .inl (t 0, 18, .inl (fun _ => 0))] : List va_E) σ0) s H _ := w
  refine q_putF X w inX9 tyX9 tyX9_ok nmX9 rfl 20 (by decide) fl_X9_38 rfl hin rfl (k := 45) rfl (v := .ref (b + 54)) rfl rfl (Nat.le_of_ble_eq_true rfl) dX9_init_146 (fun H locs w => ?_)
  rw [ovm_set (p := 0) (L := ([.inr (13, [.int 0, .ref (b + 46), .ref (b + 47), .ref (b + 48), .ref (b + 49), .int 0, .int 0, .int 0, .int 0, .ref (b + 50), .int 0, .int 0, .int (-1), .int 0, .int 0, .int 0, .ref (b + 51), .ref (b + 52), .ref (b + 53), .int 0, .null, .null, .null, .int 0, .null, .int 0, .null, .null, .int 0, .int 0, .int 0, .int 0]), .inl (t 0, 12, .inl (upd (upd (upd (upd (upd (upd (upd (upd (upd (upd (upd (upd (fun _ => 0 : Nat → Int32) 0 31) 1 28) 2 31) 3 30) 4 31) 5 30) 6 31) 7 31) 8 30) 9 31) 10 30) 11 31)), .inl (t 0, 198, .inl (fun _ => 0)), .inl (t 0, 33, .inl (fun _ => 0)), .inl (t 0, 24252, .inl (fun _ => 0)), .inl (t 0, 100, .inl (fun _ => 0)), .inl (t 0, 48, .inl (fun _ => 0)), .inl (t 0, 8, .inl (fun _ => 0)), .inl (t 0, 8, .inl (fun _ => 0)), .inl (t 0, 18, .inl (fun _ => 0))] : List va_E)) (Nat.succ_pos _) rfl] at w
  have w : qW D b 55 (ovm ([.inr (13, [.int 0, .ref (b + 46), .ref (b + 47), .ref (b + 48), .ref (b + 49), .int 0, .int 0, .int 0, .int 0, .ref (b + 50), .int 0, .int 0, .int (-1), .int 0, .int 0, .int 0, .ref (b + 51), .ref (b + 52), .ref (b + 53), .int 0, .ref (b + 54), .null, .null, .int 0, .null, .int 0, .null, .null, .int 0, .int 0, .int 0, .int 0]), .inl (t 0, 12, .inl (upd (upd (upd (upd (upd (upd (upd (upd (upd (upd (upd (upd (fun _ => 0 : Nat → Int32) 0 31) 1 28) 2 31) 3 30) 4 31) 5 30) 6 31) 7 31) 8 30) 9 31) 10 30) 11 31)), .inl (t 0, 198, .inl (fun _ => 0)), .inl (t 0, 33, .inl (fun _ => 0)), .inl (t 0, 24252, .inl (fun _ => 0)), .inl (t 0, 100, .inl (fun _ => 0)), .inl (t 0, 48, .inl (fun _ => 0)), .inl (t 0, 8, .inl (fun _ => 0)), .inl (t 0, 8, .inl (fun _ => 0)), .inl (t 0, 18, .inl (fun _ => 0))] : List va_E) σ0) s H locs := w
  refine lv_aload_n hx hb dX9_init_149 rfl (lv_at hl 0 rfl) ?_
  refine lv_bipush (v := 18) hx hb dX9_init_150 (by decide) ?_
  refine q_newa (atype := .int) X w ac_int rfl (fun _ h => by cases h) 0 rfl (a0 := (18, .inl (fun _ => 0))) (N := 18) (fun _ => rfl) (by decide) (by decide) (Nat.le_of_ble_eq_true rfl) (Nat.le_of_ble_eq_true rfl) (Nat.le_of_ble_eq_true rfl) dX9_init_152 (fun H w => ?_)
  rw [ovm_push (n := 55) rfl] at w
  have w : qW D b 56 (ovm ([.inr (13, [.int 0, .ref (b + 46), .ref (b + 47), .ref (b + 48), .ref (b + 49), .int 0, .int 0, .int 0, .int 0, .ref (b + 50), .int 0, .int 0, .int (-1), .int 0, .int 0, .int 0, .ref (b + 51), .ref (b + 52), .ref (b + 53), .int 0, .ref (b + 54), .null, .null, .int 0, .null, .int 0, .null, .null, .int 0, .int 0, .int 0, .int 0]), .inl (t 0, 12, .inl (upd (upd (upd (upd (upd (upd (upd (upd (upd (upd (upd (upd (fun _ => 0 : Nat → Int32) 0 31) 1 28) 2 31) 3 30) 4 31) 5 30) 6 31) 7 31) 8 30) 9 31) 10 30) 11 31)), .inl (t 0, 198, .inl (fun _ => 0)), .inl (t 0, 33, .inl (fun _ => 0)), .inl (t 0, 24252, .inl (fun _ => 0)), .inl (t 0, 100, .inl (fun _ => 0)), .inl (t 0, 48, .inl (fun _ => 0)), .inl (t 0, 8, .inl (fun _ => 0)), .inl (t 0, 8, .inl (fun _ => 0)), .inl (t 0, 18, .inl (fun _ => 0)), .inl (t 0, 18, .inl (fun _ => 0))] : List va_E) σ0) s H _ := w
  refine q_putF X w inX9 tyX9 tyX9_ok nmX9 rfl 21 (by decide) fl_X9_41 rfl hin rfl (k := 45) rfl (v := .ref (b + 55)) rfl rfl (Nat.le_of_ble_eq_true rfl) dX9_init_154 (fun H locs w => ?_)
  rw [ovm_set (p := 0) (L := ([.inr (13, [.int 0, .ref (b + 46), .ref (b + 47), .ref (b + 48), .ref (b + 49), .int 0, .int 0, .int 0, .int 0, .ref (b + 50), .int 0, .int 0, .int (-1), .int 0, .int 0, .int 0, .ref (b + 51), .ref (b + 52), .ref (b + 53), .int 0, .ref (b + 54), .null, .null, .int 0, .null, .int 0, .null, .null, .int 0, .int 0, .int 0, .int 0]), .inl (t 0, 12, .inl (upd (upd (upd (upd (upd (upd (upd (upd (upd (upd (upd (upd (fun _ => 0 : Nat → Int32) 0 31) 1 28) 2 31) 3 30) 4 31) 5 30) 6 31) 7 31) 8 30) 9 31) 10 30) 11 31)), .inl (t 0, 198, .inl (fun _ => 0)), .inl (t 0, 33, .inl (fun _ => 0)), .inl (t 0, 24252, .inl (fun _ => 0)), .inl (t 0, 100, .inl (fun _ => 0)), .inl (t 0, 48, .inl (fun _ => 0)), .inl (t 0, 8, .inl (fun _ => 0)), .inl (t 0, 8, .inl (fun _ => 0)), .inl (t 0, 18, .inl (fun _ => 0)), .inl (t 0, 18, .inl (fun _ => 0))] : List va_E)) (Nat.succ_pos _) rfl] at w
  have w : qW D b 56 (ovm ([.inr (13, [.int 0, .ref (b + 46), .ref (b + 47), .ref (b + 48), .ref (b + 49), .int 0, .int 0, .int 0, .int 0, .ref (b + 50), .int 0, .int 0, .int (-1), .int 0, .int 0, .int 0, .ref (b + 51), .ref (b + 52), .ref (b + 53), .int 0, .ref (b + 54), .ref (b + 55), .null, .int 0, .null, .int 0, .null, .null, .int 0, .int 0, .int 0, .int 0]), .inl (t 0, 12, .inl (upd (upd (upd (upd (upd (upd (upd (upd (upd (upd (upd (upd (fun _ => 0 : Nat → Int32) 0 31) 1 28) 2 31) 3 30) 4 31) 5 30) 6 31) 7 31) 8 30) 9 31) 10 30) 11 31)), .inl (t 0, 198, .inl (fun _ => 0)), .inl (t 0, 33, .inl (fun _ => 0)), .inl (t 0, 24252, .inl (fun _ => 0)), .inl (t 0, 100, .inl (fun _ => 0)), .inl (t 0, 48, .inl (fun _ => 0)), .inl (t 0, 8, .inl (fun _ => 0)), .inl (t 0, 8, .inl (fun _ => 0)), .inl (t 0, 18, .inl (fun _ => 0)), .inl (t 0, 18, .inl (fun _ => 0))] : List va_E) σ0) s H locs := w
  refine lv_aload_n hx hb dX9_init_157 rfl (lv_at hl 0 rfl) ?_
  refine lv_bipush (v := 18) hx hb dX9_init_158 (by decide) ?_
  refine q_newa (atype := .int) X w ac_int rfl (fun _ h => by cases h) 0 rfl (a0 := (18, .inl (fun _ => 0))) (N := 18) (fun _ => rfl) (by decide) (by decide) (Nat.le_of_ble_eq_true rfl) (Nat.le_of_ble_eq_true rfl) (Nat.le_of_ble_eq_true rfl) dX9_init_160 (fun H w => ?_)
  rw [ovm_push (n := 56) rfl] at w
  have w : qW D b 57 (ovm ([.inr (13, [.int 0, .ref (b + 46), .ref (b + 47), .ref (b + 48), .ref (b + 49), .int 0, .int 0, .int 0, .int 0, .ref (b + 50), .int 0, .int 0, .int (-1), .int 0, .int 0, .int 0, .ref (b + 51), .ref (b + 52), .ref (b + 53), .int 0, .ref (b + 54), .ref (b + 55), .null, .int 0, .null, .int 0, .null, .null, .int 0, .int 0, .int 0, .int 0]), .inl (t 0, 12, .inl (upd (upd (upd (upd (upd (upd (upd (upd (upd (upd (upd (upd (fun _ => 0 : Nat → Int32) 0 31) 1 28) 2 31) 3 30) 4 31) 5 30) 6 31) 7 31) 8 30) 9 31) 10 30) 11 31)), .inl (t 0, 198, .inl (fun _ => 0)), .inl (t 0, 33, .inl (fun _ => 0)), .inl (t 0, 24252, .inl (fun _ => 0)), .inl (t 0, 100, .inl (fun _ => 0)), .inl (t 0, 48, .inl (fun _ => 0)), .inl (t 0, 8, .inl (fun _ => 0)), .inl (t 0, 8, .inl (fun _ => 0)), .inl (t 0, 18, .inl (fun _ => 0)), .inl (t 0, 18, .inl (fun _ => 0)), .inl (t 0, 18, .inl (fun _ => 0))] : List va_E) σ0) s H _ := w
  refine q_putF X w inX9 tyX9 tyX9_ok nmX9 rfl 22 (by decide) fl_X9_44 rfl hin rfl (k := 45) rfl (v := .ref (b + 56)) rfl rfl (Nat.le_of_ble_eq_true rfl) dX9_init_162 (fun H locs w => ?_)
  rw [ovm_set (p := 0) (L := ([.inr (13, [.int 0, .ref (b + 46), .ref (b + 47), .ref (b + 48), .ref (b + 49), .int 0, .int 0, .int 0, .int 0, .ref (b + 50), .int 0, .int 0, .int (-1), .int 0, .int 0, .int 0, .ref (b + 51), .ref (b + 52), .ref (b + 53), .int 0, .ref (b + 54), .ref (b + 55), .null, .int 0, .null, .int 0, .null, .null, .int 0, .int 0, .int 0, .int 0]), .inl (t 0, 12, .inl (upd (upd (upd (upd (upd (upd (upd (upd (upd (upd (upd (upd (fun _ => 0 : Nat → Int32) 0 31) 1 28) 2 31) 3 30) 4 31) 5 30) 6 31) 7 31) 8 30) 9 31) 10 30) 11 31)), .inl (t 0, 198, .inl (fun _ => 0)), .inl (t 0, 33, .inl (fun _ => 0)), .inl (t 0, 24252, .inl (fun _ => 0)), .inl (t 0, 100, .inl (fun _ => 0)), .inl (t 0, 48, .inl (fun _ => 0)), .inl (t 0, 8, .inl (fun _ => 0)), .inl (t 0, 8, .inl (fun _ => 0)), .inl (t 0, 18, .inl (fun _ => 0)), .inl (t 0, 18, .inl (fun _ => 0)), .inl (t 0, 18, .inl (fun _ => 0))] : List va_E)) (Nat.succ_pos _) rfl] at w
  have w : qW D b 57 (ovm ([.inr (13, [.int 0, .ref (b + 46), .ref (b + 47), .ref (b + 48), .ref (b + 49), .int 0, .int 0, .int 0, .int 0, .ref (b + 50), .int 0, .int 0, .int (-1), .int 0, .int 0, .int 0, .ref (b + 51), .ref (b + 52), .ref (b + 53), .int 0, .ref (b + 54), .ref (b + 55), .ref (b + 56), .int 0, .null, .int 0, .null, .null, .int 0, .int 0, .int 0, .int 0]), .inl (t 0, 12, .inl (upd (upd (upd (upd (upd (upd (upd (upd (upd (upd (upd (upd (fun _ => 0 : Nat → Int32) 0 31) 1 28) 2 31) 3 30) 4 31) 5 30) 6 31) 7 31) 8 30) 9 31) 10 30) 11 31)), .inl (t 0, 198, .inl (fun _ => 0)), .inl (t 0, 33, .inl (fun _ => 0)), .inl (t 0, 24252, .inl (fun _ => 0)), .inl (t 0, 100, .inl (fun _ => 0)), .inl (t 0, 48, .inl (fun _ => 0)), .inl (t 0, 8, .inl (fun _ => 0)), .inl (t 0, 8, .inl (fun _ => 0)), .inl (t 0, 18, .inl (fun _ => 0)), .inl (t 0, 18, .inl (fun _ => 0)), .inl (t 0, 18, .inl (fun _ => 0))] : List va_E) σ0) s H locs := w
  refine lv_aload_n hx hb dX9_init_165 rfl (lv_at hl 0 rfl) ?_
  refine lv_bipush (v := 20) hx hb dX9_init_166 (by decide) ?_
  refine q_newa (atype := .char) X w ac_char rfl (fun _ h => by cases h) 1 rfl (a0 := (20, .inl (fun _ => 0))) (N := 20) (fun _ => rfl) (by decide) (by decide) (Nat.le_of_ble_eq_true rfl) (Nat.le_of_ble_eq_true rfl) (Nat.le_of_ble_eq_true rfl) dX9_init_168 (fun H w => ?_)
  rw [ovm_push (n := 57) rfl] at w
  have w : qW D b 58 (ovm ([.inr (13, [.int 0, .ref (b + 46), .ref (b + 47), .ref (b + 48), .ref (b + 49), .int 0, .int 0, .int 0, .int 0, .ref (b + 50), .int 0, .int 0, .int (-1), .int 0, .int 0, .int 0, .ref (b + 51), .ref (b + 52), .ref (b + 53), .int 0, .ref (b + 54), .ref (b + 55), .ref (b + 56), .int 0, .null, .int 0, .null, .null, .int 0, .int 0, .int 0, .int 0]), .inl (t 0, 12, .inl (upd (upd (upd (upd (upd (upd (upd (upd (upd (upd (upd (upd (fun _ => 0 : Nat → Int32) 0 31) 1 28) 2 31) 3 30) 4 31) 5 30) 6 31) 7 31) 8 30) 9 31) 10 30) 11 31)), .inl (t 0, 198, .inl (fun _ => 0)), .inl (t 0, 33, .inl (fun _ => 0)), .inl (t 0, 24252, .inl (fun _ => 0)), .inl (t 0, 100, .inl (fun _ => 0)), .inl (t 0, 48, .inl (fun _ => 0)), .inl (t 0, 8, .inl (fun _ => 0)), .inl (t 0, 8, .inl (fun _ => 0)), .inl (t 0, 18, .inl (fun _ => 0)), .inl (t 0, 18, .inl (fun _ => 0)), .inl (t 0, 18, .inl (fun _ => 0)), .inl (t 1, 20, .inl (fun _ => 0))] : List va_E) σ0) s H _ := w
  refine q_putF X w inX9 tyX9 tyX9_ok nmX9 rfl 24 (by decide) fl_X9_47 rfl hin rfl (k := 45) rfl (v := .ref (b + 57)) rfl rfl (Nat.le_of_ble_eq_true rfl) dX9_init_170 (fun H locs w => ?_)
  rw [ovm_set (p := 0) (L := ([.inr (13, [.int 0, .ref (b + 46), .ref (b + 47), .ref (b + 48), .ref (b + 49), .int 0, .int 0, .int 0, .int 0, .ref (b + 50), .int 0, .int 0, .int (-1), .int 0, .int 0, .int 0, .ref (b + 51), .ref (b + 52), .ref (b + 53), .int 0, .ref (b + 54), .ref (b + 55), .ref (b + 56), .int 0, .null, .int 0, .null, .null, .int 0, .int 0, .int 0, .int 0]), .inl (t 0, 12, .inl (upd (upd (upd (upd (upd (upd (upd (upd (upd (upd (upd (upd (fun _ => 0 : Nat → Int32) 0 31) 1 28) 2 31) 3 30) 4 31) 5 30) 6 31) 7 31) 8 30) 9 31) 10 30) 11 31)), .inl (t 0, 198, .inl (fun _ => 0)), .inl (t 0, 33, .inl (fun _ => 0)), .inl (t 0, 24252, .inl (fun _ => 0)), .inl (t 0, 100, .inl (fun _ => 0)), .inl (t 0, 48, .inl (fun _ => 0)), .inl (t 0, 8, .inl (fun _ => 0)), .inl (t 0, 8, .inl (fun _ => 0)), .inl (t 0, 18, .inl (fun _ => 0)), .inl (t 0, 18, .inl (fun _ => 0)), .inl (t 0, 18, .inl (fun _ => 0)), .inl (t 1, 20, .inl (fun _ => 0))] : List va_E)) (Nat.succ_pos _) rfl] at w
  have w : qW D b 58 (ovm ([.inr (13, [.int 0, .ref (b + 46), .ref (b + 47), .ref (b + 48), .ref (b + 49), .int 0, .int 0, .int 0, .int 0, .ref (b + 50), .int 0, .int 0, .int (-1), .int 0, .int 0, .int 0, .ref (b + 51), .ref (b + 52), .ref (b + 53), .int 0, .ref (b + 54), .ref (b + 55), .ref (b + 56), .int 0, .ref (b + 57), .int 0, .null, .null, .int 0, .int 0, .int 0, .int 0]), .inl (t 0, 12, .inl (upd (upd (upd (upd (upd (upd (upd (upd (upd (upd (upd (upd (fun _ => 0 : Nat → Int32) 0 31) 1 28) 2 31) 3 30) 4 31) 5 30) 6 31) 7 31) 8 30) 9 31) 10 30) 11 31)), .inl (t 0, 198, .inl (fun _ => 0)), .inl (t 0, 33, .inl (fun _ => 0)), .inl (t 0, 24252, .inl (fun _ => 0)), .inl (t 0, 100, .inl (fun _ => 0)), .inl (t 0, 48, .inl (fun _ => 0)), .inl (t 0, 8, .inl (fun _ => 0)), .inl (t 0, 8, .inl (fun _ => 0)), .inl (t 0, 18, .inl (fun _ => 0)), .inl (t 0, 18, .inl (fun _ => 0)), .inl (t 0, 18, .inl (fun _ => 0)), .inl (t 1, 20, .inl (fun _ => 0))] : List va_E) σ0) s H locs := w
  refine lv_aload_n hx hb dX9_init_173 rfl (lv_at hl 0 rfl) ?_
  refine lv_sipush (v := 1572) hx hb dX9_init_174 (by decide) ?_
  refine q_newa (atype := .int) X w ac_int rfl (fun _ h => by cases h) 0 rfl (a0 := (1572, .inl (fun _ => 0))) (N := 1572) (fun _ => rfl) (by decide) (by decide) (Nat.le_of_ble_eq_true rfl) (Nat.le_of_ble_eq_true rfl) (Nat.le_of_ble_eq_true rfl) dX9_init_177 (fun H w => ?_)
  rw [ovm_push (n := 58) rfl] at w
  have w : qW D b 59 (ovm ([.inr (13, [.int 0, .ref (b + 46), .ref (b + 47), .ref (b + 48), .ref (b + 49), .int 0, .int 0, .int 0, .int 0, .ref (b + 50), .int 0, .int 0, .int (-1), .int 0, .int 0, .int 0, .ref (b + 51), .ref (b + 52), .ref (b + 53), .int 0, .ref (b + 54), .ref (b + 55), .ref (b + 56), .int 0, .ref (b + 57), .int 0, .null, .null, .int 0, .int 0, .int 0, .int 0]), .inl (t 0, 12, .inl (upd (upd (upd (upd (upd (upd (upd (upd (upd (upd (upd (upd (fun _ => 0 : Nat → Int32) 0 31) 1 28) 2 31) 3 30) 4 31) 5 30) 6 31) 7 31) 8 30) 9 31) 10 30) 11 31)), .inl (t 0, 198, .inl (fun _ => 0)), .inl (t 0, 33, .inl (fun _ => 0)), .inl (t 0, 24252, .inl (fun _ => 0)), .inl (t 0, 100, .inl (fun _ => 0)), .inl (t 0, 48, .inl (fun _ => 0)), .inl (t 0, 8, .inl (fun _ => 0)), .inl (t 0, 8, .inl (fun _ => 0)), .inl (t 0, 18, .inl (fun _ => 0)), .inl (t 0, 18, .inl (fun _ => 0)), .inl (t 0, 18, .inl (fun _ => 0)), .inl (t 1, 20, .inl (fun _ => 0)), .inl (t 0, 1572, .inl (fun _ => 0))] : List va_E) σ0) s H _ := w
  refine q_putF X w inX9 tyX9 tyX9_ok nmX9 rfl 26 (by decide) fl_X9_51 rfl hin rfl (k := 45) rfl (v := .ref (b + 58)) rfl rfl (Nat.le_of_ble_eq_true rfl) dX9_init_179 (fun H locs w => ?_)
  rw [ovm_set (p := 0) (L := ([.inr (13, [.int 0, .ref (b + 46), .ref (b + 47), .ref (b + 48), .ref (b + 49), .int 0, .int 0, .int 0, .int 0, .ref (b + 50), .int 0, .int 0, .int (-1), .int 0, .int 0, .int 0, .ref (b + 51), .ref (b + 52), .ref (b + 53), .int 0, .ref (b + 54), .ref (b + 55), .ref (b + 56), .int 0, .ref (b + 57), .int 0, .null, .null, .int 0, .int 0, .int 0, .int 0]), .inl (t 0, 12, .inl (upd (upd (upd (upd (upd (upd (upd (upd (upd (upd (upd (upd (fun _ => 0 : Nat → Int32) 0 31) 1 28) 2 31) 3 30) 4 31) 5 30) 6 31) 7 31) 8 30) 9 31) 10 30) 11 31)), .inl (t 0, 198, .inl (fun _ => 0)), .inl (t 0, 33, .inl (fun _ => 0)), .inl (t 0, 24252, .inl (fun _ => 0)), .inl (t 0, 100, .inl (fun _ => 0)), .inl (t 0, 48, .inl (fun _ => 0)), .inl (t 0, 8, .inl (fun _ => 0)), .inl (t 0, 8, .inl (fun _ => 0)), .inl (t 0, 18, .inl (fun _ => 0)), .inl (t 0, 18, .inl (fun _ => 0)), .inl (t 0, 18, .inl (fun _ => 0)), .inl (t 1, 20, .inl (fun _ => 0)), .inl (t 0, 1572, .inl (fun _ => 0))] : List va_E)) (Nat.succ_pos _) rfl] at w
  have w : qW D b 59 (ovm ([.inr (13, [.int 0, .ref (b + 46), .ref (b + 47), .ref (b + 48), .ref (b + 49), .int 0, .int 0, .int 0, .int 0, .ref (b + 50), .int 0, .int 0, .int (-1), .int 0, .int 0, .int 0, .ref (b + 51), .ref (b + 52), .ref (b + 53), .int 0, .ref (b + 54), .ref (b + 55), .ref (b + 56), .int 0, .ref (b + 57), .int 0, .ref (b + 58), .null, .int 0, .int 0, .int 0, .int 0]), .inl (t 0, 12, .inl (upd (upd (upd (upd (upd (upd (upd (upd (upd (upd (upd (upd (fun _ => 0 : Nat → Int32) 0 31) 1 28) 2 31) 3 30) 4 31) 5 30) 6 31) 7 31) 8 30) 9 31) 10 30) 11 31)), .inl (t 0, 198, .inl (fun _ => 0)), .inl (t 0, 33, .inl (fun _ => 0)), .inl (t 0, 24252, .inl (fun _ => 0)), .inl (t 0, 100, .inl (fun _ => 0)), .inl (t 0, 48, .inl (fun _ => 0)), .inl (t 0, 8, .inl (fun _ => 0)), .inl (t 0, 8, .inl (fun _ => 0)), .inl (t 0, 18, .inl (fun _ => 0)), .inl (t 0, 18, .inl (fun _ => 0)), .inl (t 0, 18, .inl (fun _ => 0)), .inl (t 1, 20, .inl (fun _ => 0)), .inl (t 0, 1572, .inl (fun _ => 0))] : List va_E) σ0) s H locs := w
  refine lv_aload_n hx hb dX9_init_182 rfl (lv_at hl 0 rfl) ?_
  refine lv_sipush (v := 262) hx hb dX9_init_183 (by decide) ?_
  refine q_newa (atype := .int) X w ac_int rfl (fun _ h => by cases h) 0 rfl (a0 := (262, .inl (fun _ => 0))) (N := 262) (fun _ => rfl) (by decide) (by decide) (Nat.le_of_ble_eq_true rfl) (Nat.le_of_ble_eq_true rfl) (Nat.le_of_ble_eq_true rfl) dX9_init_186 (fun H w => ?_)
  rw [ovm_push (n := 59) rfl] at w
  have w : qW D b 60 (ovm ([.inr (13, [.int 0, .ref (b + 46), .ref (b + 47), .ref (b + 48), .ref (b + 49), .int 0, .int 0, .int 0, .int 0, .ref (b + 50), .int 0, .int 0, .int (-1), .int 0, .int 0, .int 0, .ref (b + 51), .ref (b + 52), .ref (b + 53), .int 0, .ref (b + 54), .ref (b + 55), .ref (b + 56), .int 0, .ref (b + 57), .int 0, .ref (b + 58), .null, .int 0, .int 0, .int 0, .int 0]), .inl (t 0, 12, .inl (upd (upd (upd (upd (upd (upd (upd (upd (upd (upd (upd (upd (fun _ => 0 : Nat → Int32) 0 31) 1 28) 2 31) 3 30) 4 31) 5 30) 6 31) 7 31) 8 30) 9 31) 10 30) 11 31)), .inl (t 0, 198, .inl (fun _ => 0)), .inl (t 0, 33, .inl (fun _ => 0)), .inl (t 0, 24252, .inl (fun _ => 0)), .inl (t 0, 100, .inl (fun _ => 0)), .inl (t 0, 48, .inl (fun _ => 0)), .inl (t 0, 8, .inl (fun _ => 0)), .inl (t 0, 8, .inl (fun _ => 0)), .inl (t 0, 18, .inl (fun _ => 0)), .inl (t 0, 18, .inl (fun _ => 0)), .inl (t 0, 18, .inl (fun _ => 0)), .inl (t 1, 20, .inl (fun _ => 0)), .inl (t 0, 1572, .inl (fun _ => 0)), .inl (t 0, 262, .inl (fun _ => 0))] : List va_E) σ0) s H _ := w
  refine q_putF X w inX9 tyX9 tyX9_ok nmX9 rfl 27 (by decide) fl_X9_54 rfl hin rfl (k := 45) rfl (v := .ref (b + 59)) rfl rfl (Nat.le_of_ble_eq_true rfl) dX9_init_188 (fun H locs w => ?_)
  rw [ovm_set (p := 0) (L := ([.inr (13, [.int 0, .ref (b + 46), .ref (b + 47), .ref (b + 48), .ref (b + 49), .int 0, .int 0, .int 0, .int 0, .ref (b + 50), .int 0, .int 0, .int (-1), .int 0, .int 0, .int 0, .ref (b + 51), .ref (b + 52), .ref (b + 53), .int 0, .ref (b + 54), .ref (b + 55), .ref (b + 56), .int 0, .ref (b + 57), .int 0, .ref (b + 58), .null, .int 0, .int 0, .int 0, .int 0]), .inl (t 0, 12, .inl (upd (upd (upd (upd (upd (upd (upd (upd (upd (upd (upd (upd (fun _ => 0 : Nat → Int32) 0 31) 1 28) 2 31) 3 30) 4 31) 5 30) 6 31) 7 31) 8 30) 9 31) 10 30) 11 31)), .inl (t 0, 198, .inl (fun _ => 0)), .inl (t 0, 33, .inl (fun _ => 0)), .inl (t 0, 24252, .inl (fun _ => 0)), .inl (t 0, 100, .inl (fun _ => 0)), .inl (t 0, 48, .inl (fun _ => 0)), .inl (t 0, 8, .inl (fun _ => 0)), .inl (t 0, 8, .inl (fun _ => 0)), .inl (t 0, 18, .inl (fun _ => 0)), .inl (t 0, 18, .inl (fun _ => 0)), .inl (t 0, 18, .inl (fun _ => 0)), .inl (t 1, 20, .inl (fun _ => 0)), .inl (t 0, 1572, .inl (fun _ => 0)), .inl (t 0, 262, .inl (fun _ => 0))] : List va_E)) (Nat.succ_pos _) rfl] at w
  have w : qW D b 60 (ovm ([.inr (13, [.int 0, .ref (b + 46), .ref (b + 47), .ref (b + 48), .ref (b + 49), .int 0, .int 0, .int 0, .int 0, .ref (b + 50), .int 0, .int 0, .int (-1), .int 0, .int 0, .int 0, .ref (b + 51), .ref (b + 52), .ref (b + 53), .int 0, .ref (b + 54), .ref (b + 55), .ref (b + 56), .int 0, .ref (b + 57), .int 0, .ref (b + 58), .ref (b + 59), .int 0, .int 0, .int 0, .int 0]), .inl (t 0, 12, .inl (upd (upd (upd (upd (upd (upd (upd (upd (upd (upd (upd (upd (fun _ => 0 : Nat → Int32) 0 31) 1 28) 2 31) 3 30) 4 31) 5 30) 6 31) 7 31) 8 30) 9 31) 10 30) 11 31)), .inl (t 0, 198, .inl (fun _ => 0)), .inl (t 0, 33, .inl (fun _ => 0)), .inl (t 0, 24252, .inl (fun _ => 0)), .inl (t 0, 100, .inl (fun _ => 0)), .inl (t 0, 48, .inl (fun _ => 0)), .inl (t 0, 8, .inl (fun _ => 0)), .inl (t 0, 8, .inl (fun _ => 0)), .inl (t 0, 18, .inl (fun _ => 0)), .inl (t 0, 18, .inl (fun _ => 0)), .inl (t 0, 18, .inl (fun _ => 0)), .inl (t 1, 20, .inl (fun _ => 0)), .inl (t 0, 1572, .inl (fun _ => 0)), .inl (t 0, 262, .inl (fun _ => 0))] : List va_E) σ0) s H locs := w
  have w : qW D b 60 (mS t b σ0 I00 R00) s H locs := by rw [← ovm_mS (t := t) (b := b) (I := I00) (R := R00)]; exact w
  obtain ⟨n, hn⟩ : ∃ n : Nat, n = 60 := ⟨_, rfl⟩
  rw [← hn] at w
  refine W.widen (k := 14) (n := 26567) (Nat.le_of_ble_eq_true rfl) (Nat.le_of_ble_eq_true rfl) ?_
  refine lv_aload_n hx hb dX9_init_191 rfl (lv_at hl 0 rfl) ?_
  refine mm_cVR X w (c_X9_clears l D t b n σ0 I00 R00 ) v_X9_57 rfl rfl ⟨Nat.le_of_ble_eq_true rfl, Nat.le_of_ble_eq_true rfl⟩ rfl hl.1 (Nat.le_of_ble_eq_true rfl) dX9_init_192 ⟨Nat.le_of_ble_eq_true rfl, Nat.le_of_ble_eq_true rfl⟩ (fun R_192 H locs z_192 w => ?_)
  obtain ⟨kr_192, zr_192⟩ := z_192
  refine lv_aload_n hx hb dX9_init_195 rfl (lv_at hl 0 rfl) ?_
  refine mg_read X w dX9_init_196 ?_
  refine lv_iconst (v := 0) hx hb dX9_init_199 (by decide) ?_
  refine lv_bipush (v := 12) hx hb dX9_init_200 (by decide) ?_
  refine ms_read (x := 12) X w (g_in (show (0 : Int32).toInt = 0 from rfl) (by omega)) dX9_init_202 (fun H locs w => ?_)
  rw [g_tn (show (0 : Int32).toInt = 0 from rfl)] at w
  obtain ⟨R_202, eR_202⟩ : ∃ z, z = (va_up R_192 3 (upd (R_192 3) (0 : Int).toNat 12)) := ⟨_, rfl⟩
  rw [← eR_202] at w
  refine lv_iconst (v := 0) hx hb dX9_init_203 (by decide) ?_
  refine lv_istore_n (lv' := [(1, .int 0), (0, .ref (b + 45))]) hx hb dX9_init_204 rfl hl (by decide) rfl (fun ls hl => ?_)
  refine q_loop (α := Int32 × Int × (Nat → Nat → Int32)) (fun a => a.1.toInt = a.2.1 ∧ ((0 ≤ a.2.1 ∧ a.2.1 ≤ 12) ∧ kpR [3] R00 a.2.2 ∧ a.2.2 3 0 = 12 ∧ (∀ j : Nat, (j : Int) < a.2.1 → a.2.2 3 (1 + j) = row00 (1 + j)) ∧ ∀ j : Nat, j < 33 → (j = 0 ∨ (a.2.1 : Int) < j) → j ≠ 0 → a.2.2 3 j = row0 j)) (fun a => (12 - a.2.1).toNat) (fun a => ∀ (H : Heap) (locs : List Loc), qW D b n (mS t b σ0 I00 a.2.2) s H locs → ∀ ls : Array Slot, lv_has ls 2 [(1, .int a.1), (0, .ref (b + 45))] → W p l e (qR 5 14 26567) s m args below meth c H locs 14 26567 (MQ below (va_Qv (S := Nat × qM) (fun z7 => (fun n1 σ1 => n1 = 60 ∧ ∃ (I1 : Nat → Int32) (R1 : Nat → Nat → Int32), σ1 = mS t b σ0 I1 R1 ∧ kpI [5] I00 I1 ∧ (I1 5).toInt = 1 ∧ kpR [2, 3, 4] R00 R1 ∧ rowM R1 0 = rowQ row00 ∧ okF R1 0) z7.1 z7.2) (fun z7 T => WB D b z7.1 z7.2 T.heap) (fun q => b ≤ q)) args s 14 26567 (fun q => b ≤ q)) (F0 m 205 ls [])) ?_ ⟨0, 0, R_202⟩ ⟨(show (0 : Int32).toInt = 0 from rfl), by dsimp only; refine ⟨by omega, by rw [eR_202]; exact kpR.up kr_192 (by decide), by rw [eR_202, va_up_self]; exact upd_s _ _ _, fun j hj => by omega, fun j h1 _ h3 => by rw [eR_202, va_up_self, upd_n _ _ (by show j ≠ 0; exact h3)]; exact zr_192 j h1⟩⟩ _ _ w ls (lv_sub hl [0, 1] rfl)
  rintro ⟨v_i, i, R_L205⟩ ⟨q_i, inv_205⟩ ih_205 H locs w ls hl
  dsimp only at q_i inv_205 hl w
  refine lv_iload_n hx hb dX9_init_205 rfl (lv_at hl 0 rfl) ?_
  refine lv_bipush (v := 12) hx hb dX9_init_206 (by decide) ?_
  refine lv_icmp_ge (tgt := 231) hx hb dX9_init_208 (by decide) (fun c_208 => ?_) (fun c_208 => ?_)
  · skip
    have k_208 : 12 ≤ i := (g_le (show (12 : Int32).toInt = 12 from rfl) q_i).mp c_208
    refine lv_aload_n hx hb dX9_init_231 rfl (lv_at hl 1 rfl) ?_
    refine mg_read X w dX9_init_232 ?_
    refine lv_bipush (v := 16) hx hb dX9_init_235 (by decide) ?_
    refine lv_iconst (v := 1) hx hb dX9_init_237 (by decide) ?_
    refine ms_read (x := 1) X w (g_in (show (16 : Int32).toInt = 16 from rfl) (by omega)) dX9_init_238 (fun H locs w => ?_)
    rw [g_tn (show (16 : Int32).toInt = 16 from rfl)] at w
    obtain ⟨R_238, eR_238⟩ : ∃ z, z = (va_up R_L205 3 (upd (R_L205 3) (16 : Int).toNat 1)) := ⟨_, rfl⟩
    rw [← eR_238] at w
    refine lv_aload_n hx hb dX9_init_239 rfl (lv_at hl 1 rfl) ?_
    refine mg_read X w dX9_init_240 ?_
    refine lv_bipush (v := 17) hx hb dX9_init_243 (by decide) ?_
    refine lv_iconst (v := 2) hx hb dX9_init_245 (by decide) ?_
    refine ms_read (x := 2) X w (g_in (show (17 : Int32).toInt = 17 from rfl) (by omega)) dX9_init_246 (fun H locs w => ?_)
    rw [g_tn (show (17 : Int32).toInt = 17 from rfl)] at w
    obtain ⟨R_246, eR_246⟩ : ∃ z, z = (va_up R_238 3 (upd (R_238 3) (17 : Int).toNat 2)) := ⟨_, rfl⟩
    rw [← eR_246] at w
    refine lv_aload_n hx hb dX9_init_247 rfl (lv_at hl 1 rfl) ?_
    refine mg_read X w dX9_init_248 ?_
    refine lv_bipush (v := 19) hx hb dX9_init_251 (by decide) ?_
    refine lv_iconst (v := 1) hx hb dX9_init_253 (by decide) ?_
    refine ms_read (x := 1) X w (g_in (show (19 : Int32).toInt = 19 from rfl) (by omega)) dX9_init_254 (fun H locs w => ?_)
    rw [g_tn (show (19 : Int32).toInt = 19 from rfl)] at w
    obtain ⟨R_254, eR_254⟩ : ∃ z, z = (va_up R_246 3 (upd (R_246 3) (19 : Int).toNat 1)) := ⟨_, rfl⟩
    rw [← eR_254] at w
    refine lv_aload_n hx hb dX9_init_255 rfl (lv_at hl 1 rfl) ?_
    refine mg_read X w dX9_init_256 ?_
    refine lv_bipush (v := 20) hx hb dX9_init_259 (by decide) ?_
    refine lv_iconst (v := 4) hx hb dX9_init_261 (by decide) ?_
    refine ms_read (x := 4) X w (g_in (show (20 : Int32).toInt = 20 from rfl) (by omega)) dX9_init_262 (fun H locs w => ?_)
    rw [g_tn (show (20 : Int32).toInt = 20 from rfl)] at w
    obtain ⟨R_262, eR_262⟩ : ∃ z, z = (va_up R_254 3 (upd (R_254 3) (20 : Int).toNat 4)) := ⟨_, rfl⟩
    rw [← eR_262] at w
    refine lv_aload_n hx hb dX9_init_263 rfl (lv_at hl 1 rfl) ?_
    refine mg_read X w dX9_init_264 ?_
    refine lv_bipush (v := 21) hx hb dX9_init_267 (by decide) ?_
    refine lv_bipush (v := 100) hx hb dX9_init_269 (by decide) ?_
    refine ms_read (x := 100) X w (g_in (show (21 : Int32).toInt = 21 from rfl) (by omega)) dX9_init_271 (fun H locs w => ?_)
    rw [g_tn (show (21 : Int32).toInt = 21 from rfl)] at w
    obtain ⟨R_271, eR_271⟩ : ∃ z, z = (va_up R_262 3 (upd (R_262 3) (21 : Int).toNat 100)) := ⟨_, rfl⟩
    rw [← eR_271] at w
    refine lv_aload_n hx hb dX9_init_272 rfl (lv_at hl 1 rfl) ?_
    refine mg_read X w dX9_init_273 ?_
    refine lv_bipush (v := 22) hx hb dX9_init_276 (by decide) ?_
    refine lv_sipush (v := 400) hx hb dX9_init_278 (by decide) ?_
    refine ms_read (x := 400) X w (g_in (show (22 : Int32).toInt = 22 from rfl) (by omega)) dX9_init_281 (fun H locs w => ?_)
    rw [g_tn (show (22 : Int32).toInt = 22 from rfl)] at w
    obtain ⟨R_281, eR_281⟩ : ∃ z, z = (va_up R_271 3 (upd (R_271 3) (22 : Int).toNat 400)) := ⟨_, rfl⟩
    rw [← eR_281] at w
    refine lv_aload_n hx hb dX9_init_282 rfl (lv_at hl 1 rfl) ?_
    refine mg_read X w dX9_init_283 ?_
    refine lv_bipush (v := 24) hx hb dX9_init_286 (by decide) ?_
    refine lv_iconst (v := 1) hx hb dX9_init_288 (by decide) ?_
    refine ms_read (x := 1) X w (g_in (show (24 : Int32).toInt = 24 from rfl) (by omega)) dX9_init_289 (fun H locs w => ?_)
    rw [g_tn (show (24 : Int32).toInt = 24 from rfl)] at w
    obtain ⟨R_289, eR_289⟩ : ∃ z, z = (va_up R_281 3 (upd (R_281 3) (24 : Int).toNat 1)) := ⟨_, rfl⟩
    rw [← eR_289] at w
    refine lv_aload_n hx hb dX9_init_290 rfl (lv_at hl 1 rfl) ?_
    refine mg_read X w dX9_init_291 ?_
    refine lv_bipush (v := 25) hx hb dX9_init_294 (by decide) ?_
    refine lv_iconst (v := (-1)) hx hb dX9_init_296 (by decide) ?_
    refine ms_read (x := (-1)) X w (g_in (show (25 : Int32).toInt = 25 from rfl) (by omega)) dX9_init_297 (fun H locs w => ?_)
    rw [g_tn (show (25 : Int32).toInt = 25 from rfl)] at w
    obtain ⟨R_297, eR_297⟩ : ∃ z, z = (va_up R_289 3 (upd (R_289 3) (25 : Int).toNat (-1))) := ⟨_, rfl⟩
    rw [← eR_297] at w
    refine lv_aload_n hx hb dX9_init_298 rfl (lv_at hl 1 rfl) ?_
    refine mg_read X w dX9_init_299 ?_
    refine lv_bipush (v := 26) hx hb dX9_init_302 (by decide) ?_
    refine lv_iconst (v := 1) hx hb dX9_init_304 (by decide) ?_
    refine ms_read (x := 1) X w (g_in (show (26 : Int32).toInt = 26 from rfl) (by omega)) dX9_init_305 (fun H locs w => ?_)
    rw [g_tn (show (26 : Int32).toInt = 26 from rfl)] at w
    obtain ⟨R_305, eR_305⟩ : ∃ z, z = (va_up R_297 3 (upd (R_297 3) (26 : Int).toNat 1)) := ⟨_, rfl⟩
    rw [← eR_305] at w
    have hi12 : i = 12 := by omega
    have hR3 : ∀ j : Nat, j < 33 → R_305 3 j = row00 j := by
      intro j hj
      rw [eR_305, va_up_self, eR_297, va_up_self, eR_289, va_up_self, eR_281, va_up_self, eR_271, va_up_self, eR_262, va_up_self, eR_254, va_up_self, eR_246, va_up_self, eR_238, va_up_self]
      by_cases c26 : j = 26
      · subst c26; exact (upd_s _ _ _)
      rw [upd_n _ _ (show j ≠ (26 : Int).toNat from c26)]
      by_cases c25 : j = 25
      · subst c25; exact (upd_s _ _ _)
      rw [upd_n _ _ (show j ≠ (25 : Int).toNat from c25)]
      by_cases c24 : j = 24
      · subst c24; exact (upd_s _ _ _)
      rw [upd_n _ _ (show j ≠ (24 : Int).toNat from c24)]
      by_cases c22 : j = 22
      · subst c22; exact (upd_s _ _ _)
      rw [upd_n _ _ (show j ≠ (22 : Int).toNat from c22)]
      by_cases c21 : j = 21
      · subst c21; exact (upd_s _ _ _)
      rw [upd_n _ _ (show j ≠ (21 : Int).toNat from c21)]
      by_cases c20 : j = 20
      · subst c20; exact (upd_s _ _ _)
      rw [upd_n _ _ (show j ≠ (20 : Int).toNat from c20)]
      by_cases c19 : j = 19
      · subst c19; exact (upd_s _ _ _)
      rw [upd_n _ _ (show j ≠ (19 : Int).toNat from c19)]
      by_cases c17 : j = 17
      · subst c17; exact (upd_s _ _ _)
      rw [upd_n _ _ (show j ≠ (17 : Int).toNat from c17)]
      by_cases c16 : j = 16
      · subst c16; exact (upd_s _ _ _)
      rw [upd_n _ _ (show j ≠ (16 : Int).toNat from c16)]
      by_cases c0 : j = 0
      · subst c0; exact inv_205.2.2.1
      by_cases c12 : j ≤ 12
      · have h := inv_205.2.2.2.1 (j - 1) (by omega); rw [show 1 + (j - 1) = j by omega] at h; exact h
      rw [inv_205.2.2.2.2 j hj (Or.inr (by omega)) c0]
      exact r00_hi j hj (by omega) c16 c17 c19 c20 c21 c22 c24 c25 c26
    have hkr : kpR [2, 3, 4] R00 R_305 := by rw [eR_305, eR_297, eR_289, eR_281, eR_271, eR_262, eR_254, eR_246, eR_238]; exact kpR.up (kpR.up (kpR.up (kpR.up (kpR.up (kpR.up (kpR.up (kpR.up (kpR.up (kpR.wk inv_205.2.1 (by decide)) (by decide)) (by decide)) (by decide)) (by decide)) (by decide)) (by decide)) (by decide)) (by decide)) (by decide)
    have hrow : rowR R_305 = rowQ row00 := rowQ_eq hR3
    have hokr : okRow (rowR R_305) := by rw [hrow]; exact row00_ok
    refine lv_aload_n hx hb dX9_init_306 rfl (lv_at hl 1 rfl) ?_
    refine lv_iconst (v := 0) hx hb dX9_init_307 (by decide) ?_
    refine mm_cVR X w (c_X9_lays l D t b n σ0 I00 R_305 0 0 (show (0 : Int32).toInt = 0 from rfl) (by omega) (by exact hokr)) v_X9_60 rfl rfl ⟨Nat.le_of_ble_eq_true rfl, Nat.le_of_ble_eq_true rfl⟩ rfl hl.1 (Nat.le_of_ble_eq_true rfl) dX9_init_308 ⟨Nat.le_of_ble_eq_true rfl, Nat.le_of_ble_eq_true rfl⟩ (fun R_308 H locs z_308 w => ?_)
    refine lv_aload_n hx hb dX9_init_311 rfl (lv_at hl 1 rfl) ?_
    refine lv_iconst (v := 1) hx hb dX9_init_312 (by decide) ?_
    refine mp_calendars (v := 1) X w dX9_init_313 (fun H locs w => ?_)
    exact q_vret (post := fun n1 σ1 => n1 = 60 ∧ ∃ (I1 : Nat → Int32) (R1 : Nat → Nat → Int32), σ1 = mS t b σ0 I1 R1 ∧ kpI [5] I00 I1 ∧ (I1 5).toInt = 1 ∧ kpR [2, 3, 4] R00 R1 ∧ rowM R1 0 = rowQ row00 ∧ okF R1 0) X w dX9_init_316 ⟨hn, _, _, rfl, kpI.up kpI.rf (by decide), rfl, (hkr.tr z_308.1 (by decide) (by decide)), z_308.2.1.trans hrow, z_308.2.2.1⟩
  · skip
    have k_208 : ¬ (12 ≤ i) := fun h => c_208 ((g_le (show (12 : Int32).toInt = 12 from rfl) q_i).mpr h)
    refine lv_aload_n hx hb dX9_init_211 rfl (lv_at hl 1 rfl) ?_
    refine mg_read X w dX9_init_212 ?_
    refine lv_iconst (v := 1) hx hb dX9_init_215 (by decide) ?_
    refine lv_iload_n hx hb dX9_init_216 rfl (lv_at hl 0 rfl) ?_
    refine lv_iadd hx hb dX9_init_217 ?_
    refine lv_topi (fun x_217 e_217 => ?_)
    have p_217 : x_217.toInt = (1 + i) := by rw [e_217]; exact t_add (show (1 : Int32).toInt = 1 from rfl) q_i (by omega) (by omega)
    refine lv_aload_n hx hb dX9_init_218 rfl (lv_at hl 1 rfl) ?_
    refine mg_lengthAtFirst X w dX9_init_219 ?_
    refine lv_iload_n hx hb dX9_init_222 rfl (lv_at hl 0 rfl) ?_
    refine ml_lengthAtFirst X w (g_in q_i (by omega)) dX9_init_223 ?_
    refine q_topE (y := R_L205 1 i.toNat) (congrArg (R_L205 1) (g_tn q_i)) ?_
    refine ms_read (x := (R_L205 1 i.toNat)) X w (g_in p_217 (by omega)) dX9_init_224 (fun H locs w => ?_)
    rw [g_tn p_217] at w
    obtain ⟨R_224, eR_224⟩ : ∃ z, z = (va_up R_L205 3 (upd (R_L205 3) (1 + i).toNat (R_L205 1 i.toNat))) := ⟨_, rfl⟩
    rw [← eR_224] at w
    obtain ⟨x_225, e_225⟩ : ∃ z : Int32, z = (v_i + 1) := ⟨_, rfl⟩
    have p_225 : x_225.toInt = (i + 1) := by rw [e_225]; exact t_add q_i (show (1 : Int32).toInt = 1 from rfl) (by omega) (by omega)
    refine lv_iinc (v := x_225) (lv' := [(1, .int x_225), (0, .ref (b + 45))]) hx hb dX9_init_225 hl (k := 0) rfl (by rw [e_225]; rfl) (by decide) rfl (fun ls hl => ?_)
    refine lv_goto (tgt := 205) hx hb dX9_init_228 (by decide) ?_
    refine ih_205 ⟨x_225, (i + 1), R_224⟩ ⟨p_225, by dsimp only; refine ⟨by omega, by rw [eR_224]; exact kpR.up inv_205.2.1 (by decide), by rw [eR_224, va_up_self, upd_n _ _ (by omega)]; exact inv_205.2.2.1, fun j hj => ?_, fun j h1 h2 h3 => ?_⟩; (rw [eR_224, va_up_self]; by_cases e : j = i.toNat; (rw [show (1 + i).toNat = 1 + j by omega, upd_s, inv_205.2.1 1 (by decide)]; show laF i.toNat = _; rw [← e]; exact laF_at j (by omega)); (rw [upd_n _ _ (by omega)]; exact inv_205.2.2.2.1 j (by omega))); (rw [eR_224, va_up_self, upd_n _ _ (by omega)]; exact inv_205.2.2.2.2 j h1 (by omega) h3)⟩ (by dsimp only; omega) _ _ w ls (lv_sub hl [0, 1] rfl)
