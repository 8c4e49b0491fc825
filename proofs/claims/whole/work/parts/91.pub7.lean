set_option maxHeartbeats 2000000 in
set_option maxRecDepth 100000 in
theorem c_X8_appendCharacter (l : Launch) (D : va_G) (t : Nat → ClassId) (b n : Nat) (σ0 : qM) (A : Nat → Int32) (B : Nat → Nat → Int32) (P : Nat → Nat → Option Nat) (hl0 : l.stackTraces = false) (h_c : 0 ≤ (A 2).toInt ∧ (A 2).toInt ≤ 100) (a_ch : Int32) (ch : Int) (e_ch : a_ch.toInt = ch) : xC l yX8_appendCharacter cX8_appendCharacter 2 (some .int) 7 2 12 D t b n (cS t b σ0 A B P) [.ref (b + 0), .int a_ch] (fun z n1 σ1 => n1 = n ∧ ∃ A1 B1, σ1 = cS t b σ0 A1 B1 P ∧ kpI [2] A A1 ∧ (A1 2).toInt = (A 2).toInt + 1 ∧ B1 = va_up B 0 (upd (B 0) (A 2).toInt.toNat a_ch) ∧ z = A1 2 ∧ (33 ≤ ch ∧ ch ≤ 126) ∧ (A 2).toInt < 100) (fun E n1 σ1 => σ1 = cS t b σ0 A B P ∧ ((E = "java/lang/IllegalArgumentException" ∧ ¬ (33 ≤ ch ∧ ch ≤ 126)) ∨ (E = "java/lang/IllegalStateException" ∧ (33 ≤ ch ∧ ch ≤ 126) ∧ (A 2).toInt = 100))) := by
  refine xC.of (by decide +kernel) (Nat.le_of_ble_eq_true rfl) (fun p e s m args below meth c X hE hno w ls hl => ?_)
  have hx := X.1
  have hb := X.2.1
  have hl : lv_has ls 2 [(0, .ref (b + 0)), (1, .int a_ch)] := hl
  refine lv_iload_n hx hb dX8_appendCharacter_0 rfl (lv_at hl 1 rfl) ?_
  refine lv_bipush (v := 33) hx hb dX8_appendCharacter_1 (by decide) ?_
  refine lv_bipush (v := 126) hx hb dX8_appendCharacter_3 (by decide) ?_
  refine q_cPS X w (c_X8_isFrom l a_ch 33 126 ch 33 126 e_ch (show (33 : Int32).toInt = 33 from rfl) (show (126 : Int32).toInt = 126 from rfl) D t b n (cS t b σ0 A B P)) v_X8_99 rfl ⟨Nat.le_of_ble_eq_true rfl, Nat.le_of_ble_eq_true rfl⟩ rfl hl.1 (Nat.le_of_ble_eq_true rfl) dX8_appendCharacter_5 ⟨Nat.le_of_ble_eq_true rfl, Nat.le_of_ble_eq_true rfl⟩ (fun r_5 z_5 => ?_)
  refine x_cVS X hE hno w (c_X8_demand l D t b n σ0 A B P hl0 r_5) v_X8_103 rfl ⟨Nat.le_of_ble_eq_true rfl, Nat.le_of_ble_eq_true rfl⟩ rfl hl.1 (Nat.le_of_ble_eq_true rfl) dX8_appendCharacter_8 ⟨Nat.le_of_ble_eq_true rfl, Nat.le_of_ble_eq_true rfl⟩ ⟨Nat.le_of_ble_eq_true rfl, Nat.le_of_ble_eq_true rfl⟩ (fun E n1 σ1 hz => ⟨hz.2.1, Or.inl ⟨hz.1, bI_f.mp (by have y := hz.2.2; rw [z_5] at y; exact y)⟩⟩) (fun n_8 σ_8 H locs z_8 w => ?_)
  rw [z_8.1, z_8.2.1] at w
  have k_8 : 33 ≤ ch ∧ ch ≤ 126 := by have y := z_8.2.2; rw [z_5] at y; exact bI_t.mp y
  refine lv_aload_n hx hb dX8_appendCharacter_11 rfl (lv_at hl 0 rfl) ?_
  refine kg_X8_text X w dX8_appendCharacter_12 ?_
  refine q_cPV X w (c_X7_length l D t b n σ0 A B P ) v_X8_107 (k := 1) rfl rfl rfl ⟨Nat.le_of_ble_eq_true rfl, Nat.le_of_ble_eq_true rfl⟩ rfl hl.1 (Nat.le_of_ble_eq_true rfl) dX8_appendCharacter_15 ⟨Nat.le_of_ble_eq_true rfl, Nat.le_of_ble_eq_true rfl⟩ (fun r_15 z_15 => ?_)
  refine lv_bipush (v := 100) hx hb dX8_appendCharacter_18 (by decide) ?_
  refine lv_icmp_lt (tgt := 33) hx hb dX8_appendCharacter_20 (by decide) (fun c_20 => ?_) (fun c_20 => ?_)
  · skip
    have k_20 : ((A 2).toInt) < 100 := (g_lt (congrArg Int32.toInt z_15) (show (100 : Int32).toInt = 100 from rfl)).mp c_20
    refine lv_aload_n hx hb dX8_appendCharacter_33 rfl (lv_at hl 0 rfl) ?_
    refine kg_X8_text X w dX8_appendCharacter_34 ?_
    refine lv_iload_n hx hb dX8_appendCharacter_37 rfl (lv_at hl 1 rfl) ?_
    refine kk_cVIR X w (c_X7_append l D t b n σ0 A B P a_ch ch e_ch (by first | assumption | omega) (by first | assumption | omega)) v_X8_79 rfl rfl rfl ⟨Nat.le_of_ble_eq_true rfl, Nat.le_of_ble_eq_true rfl⟩ rfl hl.1 (Nat.le_of_ble_eq_true rfl) dX8_appendCharacter_38 ⟨Nat.le_of_ble_eq_true rfl, Nat.le_of_ble_eq_true rfl⟩ (fun A_38 B_38 H locs z_38 w => ?_)
    refine lv_aload_n hx hb dX8_appendCharacter_41 rfl (lv_at hl 0 rfl) ?_
    refine kg_X8_text X w dX8_appendCharacter_42 ?_
    refine q_cPV X w (c_X7_length l D t b n σ0 A_38 B_38 P ) v_X8_107 (k := 1) rfl rfl rfl ⟨Nat.le_of_ble_eq_true rfl, Nat.le_of_ble_eq_true rfl⟩ rfl hl.1 (Nat.le_of_ble_eq_true rfl) dX8_appendCharacter_45 ⟨Nat.le_of_ble_eq_true rfl, Nat.le_of_ble_eq_true rfl⟩ (fun r_45 z_45 => ?_)
    refine vx_ret ?_
    refine W.widen (k := 2) (n := 12) (Nat.le_of_ble_eq_true rfl) (Nat.le_of_ble_eq_true rfl) ?_
    exact q_cret (post := fun z n1 σ1 => n1 = n ∧ ∃ A1 B1, σ1 = cS t b σ0 A1 B1 P ∧ kpI [2] A A1 ∧ (A1 2).toInt = (A 2).toInt + 1 ∧ B1 = va_up B 0 (upd (B 0) (A 2).toInt.toNat a_ch) ∧ z = A1 2 ∧ (33 ≤ ch ∧ ch ≤ 126) ∧ (A 2).toInt < 100) X w dX8_appendCharacter_48 rfl ⟨rfl, _, _, rfl, z_38.1, z_38.2.1, z_38.2.2, z_45, k_8, by omega⟩
  · skip
    have k_20 : ¬ (((A 2).toInt) < 100) := fun h => c_20 ((g_lt (congrArg Int32.toInt z_15) (show (100 : Int32).toInt = 100 from rfl)).mpr h)
    exact x_thr_is hl0 X hE hno w (is := 110) (text := "the text is full") (by decide +kernel) hl.1 dX8_appendCharacter_23 dX8_appendCharacter_26 dX8_appendCharacter_27 dX8_appendCharacter_29 dX8_appendCharacter_32 ⟨Nat.le_of_ble_eq_true rfl, Nat.le_of_ble_eq_true rfl⟩ (Nat.le_of_ble_eq_true rfl) ⟨Nat.le_of_ble_eq_true rfl, Nat.le_of_ble_eq_true rfl⟩ ⟨Nat.le_of_ble_eq_true rfl, Nat.le_of_ble_eq_true rfl⟩ (fun _ => ⟨rfl, Or.inr ⟨rfl, k_8, (by omega)⟩⟩)

theorem rd_add {A0 A A1 : Nat → Int32} {B0 B B1 : Nat → Nat → Int32} {rw_ : Int → Row} {a b c ca o dy : Int} (hk : kpI [36] A0 A) (hr : kpR [6, 7, 8] B0 B) (hn : (A 36).toInt = (rdN rw_ a b c (3 * ca + o).toNat).2) (h0 : 0 ≤ ca) (ho : 0 ≤ o ∧ o < 3) (hdy : dy = dod (rw_ ca) (rY o a c) (rM o a b) (rD o a b c)) (hp : rdP (rdR B) (rdN rw_ a b c (3 * ca + o).toNat))
    (z : ((-999999 ≤ dy ∧ dy ≤ 999999) → kpI [36] A A1 ∧ (A1 36).toInt = (A 36).toInt + 1 ∧ kpR [6, 7, 8] B B1 ∧ rdP (rdR B1) (insF (rdN rw_ a b c (3 * ca + o).toNat).1 (ca, o, dy) (A 36).toInt.toNat, (A 36).toInt.toNat + 1)) ∧ (¬ (-999999 ≤ dy ∧ dy ≤ 999999) → A1 = A ∧ B1 = B)) :
    kpI [36] A0 A1 ∧ kpR [6, 7, 8] B0 B1 ∧ (A1 36).toInt = (rdN rw_ a b c (3 * ca + (o + 1)).toNat).2 ∧ rdP (rdR B1) (rdN rw_ a b c (3 * ca + (o + 1)).toNat) := by
  rw [rdN_s rw_ a b c h0 ho]
  have e : (A 36).toInt.toNat = (rdN rw_ a b c (3 * ca + o).toNat).2 := by omega
  by_cases q : -999999 ≤ dy ∧ dy ≤ 999999
  · obtain ⟨z1, z2, z3, z4⟩ := z.1 q
    have d : datd (rw_ ca) (rY o a c) (rM o a b) (rD o a b c) := dod_iff.mp (by rw [← hdy]; exact q)
    rw [rdS_p d, ← dod_eq d, ← hdy]
    rw [e] at z4
    exact ⟨hk.tr z1 (by decide) (by decide), hr.tr z3 (by decide) (by decide), by show _ = (((rdN rw_ a b c (3 * ca + o).toNat).2 + 1 : Nat) : Int); omega, z4⟩
  · obtain ⟨rfl, rfl⟩ := z.2 q
    have d : ¬ datd (rw_ ca) (rY o a c) (rM o a b) (rD o a b c) := fun y => q (by rw [hdy]; exact dod_iff.mpr y)
    rw [rdS_n d]
    exact ⟨hk, hr, hn, hp⟩
