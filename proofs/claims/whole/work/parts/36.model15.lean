set_option maxHeartbeats 4000000 in
set_option maxRecDepth 100000 in
theorem c_X9_appendCharacter (l : Launch) (D : va_G) (t : Nat → ClassId) (b n : Nat) (σ0 : qM) (I : Nat → Int32) (Rw : Nat → Nat → Int32) (a_ch : Int32) (ch : Int) (e_ch : a_ch.toInt = ch) (h_1 : 0 ≤ (I 10).toInt ∧ (I 10).toInt ≤ 100) : mC l yX9_appendCharacter cX9_appendCharacter 2 (some .int) 1 D t b n σ0 I Rw [.ref (b + 45), .int a_ch] (fun z I1 R1 => kpI [0, 10] I I1 ∧ (I1 0).toInt = (if 33 ≤ ch ∧ ch ≤ 126 then (if (I 10).toInt = 100 then 2 else 0) else 1) ∧ ((I1 0).toInt = 0 → z.toInt = (I 10).toInt + 1 ∧ (I1 10).toInt = (I 10).toInt + 1 ∧ R1 = va_up Rw 9 (upd (Rw 9) (I 10).toInt.toNat a_ch)) ∧ ((I1 0).toInt ≠ 0 → I1 10 = I 10 ∧ R1 = Rw)) := by
  refine qC.of (by decide +kernel) (Nat.le_of_ble_eq_true rfl) (fun p e s m args below meth c X w ls hl => ?_)
  have hx := X.1
  have hb := X.2.1
  have hl : lv_has ls 2 [(0, .ref (b + 45)), (1, .int a_ch)] := hl
  refine lv_iload_n hx hb dX9_appendCharacter_0 rfl (lv_at hl 1 rfl) ?_
  refine lv_bipush (v := 33) hx hb dX9_appendCharacter_1 (by decide) ?_
  refine lv_bipush (v := 126) hx hb dX9_appendCharacter_3 (by decide) ?_
  refine q_cPS X w (c_X9_isBetween l a_ch 33 126 ch 33 126 e_ch (show (33 : Int32).toInt = 33 from rfl) (show (126 : Int32).toInt = 126 from rfl) D t b n (mS t b σ0 I Rw)) v_X9_70 rfl ⟨Nat.le_of_ble_eq_true rfl, Nat.le_of_ble_eq_true rfl⟩ rfl hl.1 (Nat.le_of_ble_eq_true rfl) dX9_appendCharacter_5 ⟨Nat.zero_le _, Nat.zero_le _⟩ (fun r_5 z_5 => ?_)
  refine lv_if_ne (tgt := 17) hx hb dX9_appendCharacter_8 (by decide) (fun c_8 => ?_) (fun c_8 => ?_)
  · skip
    rw [z_5] at c_8
    have k_8 := bI_t.mp c_8
    refine lv_aload_n hx hb dX9_appendCharacter_17 rfl (lv_at hl 0 rfl) ?_
    refine mg_length X w dX9_appendCharacter_18 ?_
    refine lv_bipush (v := 100) hx hb dX9_appendCharacter_21 (by decide) ?_
    refine lv_icmp_ne (tgt := 32) hx hb dX9_appendCharacter_23 (by decide) (fun c_23 => ?_) (fun c_23 => ?_)
    · skip
      have k_23 : ¬ (((I 10).toInt) = 100) := fun h => c_23 ((g_eq rfl (show (100 : Int32).toInt = 100 from rfl)).mpr h)
      refine lv_aload_n hx hb dX9_appendCharacter_32 rfl (lv_at hl 0 rfl) ?_
      refine lv_iconst (v := 0) hx hb dX9_appendCharacter_33 (by decide) ?_
      refine mp_thrown (v := 0) X w dX9_appendCharacter_34 (fun H locs w => ?_)
      refine lv_aload_n hx hb dX9_appendCharacter_37 rfl (lv_at hl 0 rfl) ?_
      refine mg_text X w dX9_appendCharacter_38 ?_
      refine lv_aload_n hx hb dX9_appendCharacter_41 rfl (lv_at hl 0 rfl) ?_
      refine mg_length X w dX9_appendCharacter_42 ?_
      refine lv_iload_n hx hb dX9_appendCharacter_45 rfl (lv_at hl 1 rfl) ?_
      refine ms_text (x := a_ch) X w (g_in (show ((va_up I 0 0) 10).toInt = (I 10).toInt from rfl) (by omega)) dX9_appendCharacter_46 (fun H locs w => ?_)
      rw [g_tn (show ((va_up I 0 0) 10).toInt = (I 10).toInt from rfl)] at w
      refine lv_aload_n hx hb dX9_appendCharacter_47 rfl (lv_at hl 0 rfl) ?_
      refine lv_dup hx hb dX9_appendCharacter_48 rfl ?_
      refine mg_length X w dX9_appendCharacter_49 ?_
      refine lv_iconst (v := 1) hx hb dX9_appendCharacter_52 (by decide) ?_
      refine lv_iadd hx hb dX9_appendCharacter_53 ?_
      refine lv_topi (fun x_53 e_53 => ?_)
      have p_53 : x_53.toInt = (((I 10).toInt) + 1) := by rw [e_53]; exact t_add (show ((va_up I 0 0) 10).toInt = (I 10).toInt from rfl) (show (1 : Int32).toInt = 1 from rfl) (by omega) (by omega)
      refine mp_length (v := x_53) X w dX9_appendCharacter_54 (fun H locs w => ?_)
      refine lv_aload_n hx hb dX9_appendCharacter_57 rfl (lv_at hl 0 rfl) ?_
      refine mg_length X w dX9_appendCharacter_58 ?_
      refine q_topE (y := x_53) rfl ?_
      exact q_cret (post := (fun z n1 σ1 => n1 = n ∧ ∃ I1 R1, σ1 = mS t b σ0 I1 R1 ∧ kpI [0, 10] I I1 ∧ (I1 0).toInt = (if 33 ≤ ch ∧ ch ≤ 126 then (if (I 10).toInt = 100 then 2 else 0) else 1) ∧ ((I1 0).toInt = 0 → z.toInt = (I 10).toInt + 1 ∧ (I1 10).toInt = (I 10).toInt + 1 ∧ R1 = va_up Rw 9 (upd (Rw 9) (I 10).toInt.toNat a_ch)) ∧ ((I1 0).toInt ≠ 0 → I1 10 = I 10 ∧ R1 = Rw))) X w dX9_appendCharacter_61 (rfl) ⟨rfl, _, _, rfl, by exact ⟨kpI.up (kpI.up kpI.rf (by decide)) (by decide), (by rw [if_pos k_8, if_neg k_23]; rfl), fun _ => ⟨p_53, p_53, rfl⟩, fun q => absurd rfl q⟩⟩
    · skip
      have k_23 : ((I 10).toInt) = 100 := (g_eq rfl (show (100 : Int32).toInt = 100 from rfl)).mp c_23
      refine lv_aload_n hx hb dX9_appendCharacter_26 rfl (lv_at hl 0 rfl) ?_
      refine lv_iconst (v := 2) hx hb dX9_appendCharacter_27 (by decide) ?_
      refine mm_cCI X w (c_X9_fails l D t b n σ0 I Rw 2 2 (show (2 : Int32).toInt = 2 from rfl)) v_X9_143 rfl rfl ⟨Nat.le_of_ble_eq_true rfl, Nat.le_of_ble_eq_true rfl⟩ rfl hl.1 (Nat.le_of_ble_eq_true rfl) dX9_appendCharacter_28 ⟨Nat.zero_le _, Nat.zero_le _⟩ (fun r_28 I_28 H locs z_28 w => ?_)
      exact q_cret (post := (fun z n1 σ1 => n1 = n ∧ ∃ I1 R1, σ1 = mS t b σ0 I1 R1 ∧ kpI [0, 10] I I1 ∧ (I1 0).toInt = (if 33 ≤ ch ∧ ch ≤ 126 then (if (I 10).toInt = 100 then 2 else 0) else 1) ∧ ((I1 0).toInt = 0 → z.toInt = (I 10).toInt + 1 ∧ (I1 10).toInt = (I 10).toInt + 1 ∧ R1 = va_up Rw 9 (upd (Rw 9) (I 10).toInt.toNat a_ch)) ∧ ((I1 0).toInt ≠ 0 → I1 10 = I 10 ∧ R1 = Rw))) X w dX9_appendCharacter_31 (rfl) ⟨rfl, _, _, rfl, by exact ⟨z_28.1.wk (by decide), z_28.2.1.trans (by rw [if_pos k_8, if_pos k_23]), fun q => absurd (z_28.2.1.symm.trans q) (by decide), fun _ => ⟨z_28.1 10 (by decide), rfl⟩⟩⟩
  · skip
    rw [z_5] at c_8
    have k_8 := bI_f.mp c_8
    refine lv_aload_n hx hb dX9_appendCharacter_11 rfl (lv_at hl 0 rfl) ?_
    refine lv_iconst (v := 1) hx hb dX9_appendCharacter_12 (by decide) ?_
    refine mm_cCI X w (c_X9_fails l D t b n σ0 I Rw 1 1 (show (1 : Int32).toInt = 1 from rfl)) v_X9_143 rfl rfl ⟨Nat.le_of_ble_eq_true rfl, Nat.le_of_ble_eq_true rfl⟩ rfl hl.1 (Nat.le_of_ble_eq_true rfl) dX9_appendCharacter_13 ⟨Nat.zero_le _, Nat.zero_le _⟩ (fun r_13 I_13 H locs z_13 w => ?_)
    exact q_cret (post := (fun z n1 σ1 => n1 = n ∧ ∃ I1 R1, σ1 = mS t b σ0 I1 R1 ∧ kpI [0, 10] I I1 ∧ (I1 0).toInt = (if 33 ≤ ch ∧ ch ≤ 126 then (if (I 10).toInt = 100 then 2 else 0) else 1) ∧ ((I1 0).toInt = 0 → z.toInt = (I 10).toInt + 1 ∧ (I1 10).toInt = (I 10).toInt + 1 ∧ R1 = va_up Rw 9 (upd (Rw 9) (I 10).toInt.toNat a_ch)) ∧ ((I1 0).toInt ≠ 0 → I1 10 = I 10 ∧ R1 = Rw))) X w dX9_appendCharacter_16 (rfl) ⟨rfl, _, _, rfl, by exact ⟨z_13.1.wk (by decide), z_13.2.1.trans (if_neg k_8).symm, fun q => absurd (z_13.2.1.symm.trans q) (by decide), fun _ => ⟨z_13.1 10 (by decide), rfl⟩⟩⟩

set_option maxHeartbeats 4000000 in
set_option maxRecDepth 100000 in
theorem c_X9_hands_2_26 (l : Launch) (D : va_G) (t : Nat → ClassId) (b n : Nat) (σ0 : qM) (I : Nat → Int32) (Rw : Nat → Nat → Int32) (cu : Int) (kb : Bool) (h_1 : (I 29).toInt = cu) (h_2 : 0 ≤ cu ∧ cu + 198 ≤ 1572) (h_3 : I 31 = bI kb) : mV l yX9_hands cX9_hands 4 0 D t b n σ0 I Rw [.ref (b + 45), .ref (b + 47), .ref (b + 58)] (fun I1 R1 => kpI [29] I I1 ∧ (I1 29).toInt = cu + 198 ∧ (kb = true → R1 = va_up Rw 26 (cpy (Rw 26) (Rw 2) cu.toNat 198)) ∧ (kb = false → R1 = va_up Rw 2 (rdr (Rw 2) (Rw 26) cu.toNat 198))) := by
  refine qV.of (by decide +kernel) (Nat.le_of_ble_eq_true rfl) (fun p e s m args below meth c X w _ ls hl => ?_)
  have hx := X.1
  have hb := X.2.1
  have hl : lv_has ls 4 [(0, .ref (b + 45)), (1, .ref (b + 47)), (2, .ref (b + 58))] := hl
  refine lv_iconst (v := 0) hx hb dX9_hands_0 (by decide) ?_
  refine lv_istore_n (lv' := [(3, .int 0), (0, .ref (b + 45)), (1, .ref (b + 47)), (2, .ref (b + 58))]) hx hb dX9_hands_1 rfl hl (by decide) rfl (fun ls hl => ?_)
  refine q_loop (α := Int32 × Int × (Nat → Int32) × (Nat → Nat → Int32)) (fun a => a.1.toInt = a.2.1 ∧ (kpI [29] I a.2.2.1 ∧ (0 ≤ a.2.1 ∧ a.2.1 ≤ 198) ∧ (a.2.2.1 29).toInt = cu + a.2.1 ∧ (kb = true → a.2.2.2 = va_up Rw 26 (cpy (Rw 26) (Rw 2) cu.toNat a.2.1.toNat)) ∧ (kb = false → a.2.2.2 = va_up Rw 2 (rdr (Rw 2) (Rw 26) cu.toNat a.2.1.toNat)))) (fun a => (198 - a.2.1).toNat) (fun a => ∀ (H : Heap) (locs : List Loc), qW D b n (mS t b σ0 a.2.2.1 a.2.2.2) s H locs → ∀ ls : Array Slot, lv_has ls 4 [(3, .int a.1), (0, .ref (b + 45)), (1, .ref (b + 47)), (2, .ref (b + 58))] → W p l e (qR 0 0 0) s m args below meth c H locs 0 0 (MQ below (va_Qv (S := Nat × qM) (fun u => (fun n1 σ1 => n1 = n ∧ ∃ I1 R1, σ1 = mS t b σ0 I1 R1 ∧ kpI [29] I I1 ∧ (I1 29).toInt = cu + 198 ∧ (kb = true → R1 = va_up Rw 26 (cpy (Rw 26) (Rw 2) cu.toNat 198)) ∧ (kb = false → R1 = va_up Rw 2 (rdr (Rw 2) (Rw 26) cu.toNat 198))) u.1 u.2) (fun u T => WB D b u.1 u.2 T.heap) (fun q => b ≤ q)) args s 0 0 (fun q => b ≤ q)) (F0 m 2 ls [])) ?_ ⟨0, 0, I, Rw⟩ ⟨(show (0 : Int32).toInt = 0 from rfl), by dsimp only; exact ⟨kpI.rf, by omega, by omega, fun _ => by rw [show (0 : Int).toNat = 0 from rfl, cpy_0, va_id], fun _ => by rw [show (0 : Int).toNat = 0 from rfl, rdr_0, va_id]⟩⟩ _ _ w ls (lv_sub hl [0, 1, 2, 3] rfl)
  rintro ⟨v_k, k, I_L2, R_L2⟩ ⟨q_k, inv_2⟩ ih_2 H locs w ls hl
  dsimp only at q_k inv_2 hl w
  refine lv_iload_n hx hb dX9_hands_2 rfl (lv_at hl 0 rfl) ?_
  refine lv_aload_n hx hb dX9_hands_3 rfl (lv_at hl 2 rfl) ?_
  refine q_alen X w 0 rfl (k := 47) rfl dX9_hands_4 ?_
  refine q_topE (y := 198) rfl ?_
  refine lv_icmp_ge (tgt := 52) hx hb dX9_hands_5 (by decide) (fun c_5 => ?_) (fun c_5 => ?_)
  · skip
    have k_5 : 198 ≤ k := (g_le (show (198 : Int32).toInt = 198 from rfl) q_k).mp c_5
    exact q_vret (post := (fun n1 σ1 => n1 = n ∧ ∃ I1 R1, σ1 = mS t b σ0 I1 R1 ∧ kpI [29] I I1 ∧ (I1 29).toInt = cu + 198 ∧ (kb = true → R1 = va_up Rw 26 (cpy (Rw 26) (Rw 2) cu.toNat 198)) ∧ (kb = false → R1 = va_up Rw 2 (rdr (Rw 2) (Rw 26) cu.toNat 198)))) X w dX9_hands_52 ⟨rfl, _, _, rfl, by have ek : k.toNat = 198 := (by omega); rw [ek] at inv_2; exact ⟨inv_2.1, by omega, inv_2.2.2.2.1, inv_2.2.2.2.2⟩⟩
  · skip
    have k_5 : ¬ (198 ≤ k) := fun h => c_5 ((g_le (show (198 : Int32).toInt = 198 from rfl) q_k).mpr h)
    refine lv_aload_n hx hb dX9_hands_8 rfl (lv_at hl 1 rfl) ?_
    refine mg_isKeeping X w dX9_hands_9 ?_
    refine lv_if_eq (tgt := 27) hx hb dX9_hands_12 (by decide) (fun c_12 => ?_) (fun c_12 => ?_)
    · skip
      have k_12 : ((I 31).toInt) = 0 := (g_eq (congrArg Int32.toInt (inv_2.1 31 (by decide))) (show (0 : Int32).toInt = 0 from rfl)).mp c_12
      refine lv_aload_n hx hb dX9_hands_27 rfl (lv_at hl 2 rfl) ?_
      refine lv_iload_n hx hb dX9_hands_28 rfl (lv_at hl 0 rfl) ?_
      refine lv_aload_n hx hb dX9_hands_29 rfl (lv_at hl 3 rfl) ?_
      refine lv_aload_n hx hb dX9_hands_30 rfl (lv_at hl 1 rfl) ?_
      refine mg_cursor X w dX9_hands_31 ?_
      refine ml_earlier X w (g_in rfl (by omega)) dX9_hands_34 ?_
      refine q_topE (y := R_L2 26 ((I_L2 29).toInt).toNat) (congrArg (R_L2 26) (g_tn rfl)) ?_
      refine ms_calendar (x := (R_L2 26 ((I_L2 29).toInt).toNat)) X w (g_in q_k (by omega)) dX9_hands_35 (fun H locs w => ?_)
      rw [g_tn q_k] at w
      refine lv_aload_n hx hb dX9_hands_36 rfl (lv_at hl 1 rfl) ?_
      refine lv_dup hx hb dX9_hands_37 rfl ?_
      refine mg_cursor X w dX9_hands_38 ?_
      refine lv_iconst (v := 1) hx hb dX9_hands_41 (by decide) ?_
      refine lv_iadd hx hb dX9_hands_42 ?_
      refine lv_topi (fun x_42 e_42 => ?_)
      have p_42 : x_42.toInt = (((I_L2 29).toInt) + 1) := by rw [e_42]; exact t_add rfl (show (1 : Int32).toInt = 1 from rfl) (by omega) (by omega)
      refine mp_cursor (v := x_42) X w dX9_hands_43 (fun H locs w => ?_)
      obtain ⟨x_46, e_46⟩ : ∃ z : Int32, z = (v_k + 1) := ⟨_, rfl⟩
      have p_46 : x_46.toInt = (k + 1) := by rw [e_46]; exact t_add q_k (show (1 : Int32).toInt = 1 from rfl) (by omega) (by omega)
      refine lv_iinc (v := x_46) (lv' := [(3, .int x_46), (0, .ref (b + 45)), (1, .ref (b + 47)), (2, .ref (b + 58))]) hx hb dX9_hands_46 hl (k := 0) rfl (by rw [e_46]; rfl) (by decide) rfl (fun ls hl => ?_)
      refine lv_goto (tgt := 2) hx hb dX9_hands_49 (by decide) ?_
      refine ih_2 ⟨x_46, (k + 1), (va_up I_L2 29 x_42), (va_up R_L2 2 (upd (R_L2 2) k.toNat (R_L2 26 ((I_L2 29).toInt).toNat)))⟩ ⟨p_46, by dsimp only; have ek : (k + 1).toNat = k.toNat + 1 := (by omega); exact ⟨inv_2.1.up (by decide), by omega, by show x_42.toInt = _; omega, fun q => absurd (k_12.symm.trans ((congrArg Int32.toInt h_3).trans (by rw [q]))) (by decide), fun q => by have e := inv_2.2.2.2.2 q; rw [show (I_L2 29).toInt.toNat = cu.toNat + k.toNat by omega, e, uu, va_up_self, va_up_ne _ _ (by decide), ek, rdr_s]⟩⟩ (by dsimp only; omega) _ _ w ls (lv_sub hl [0, 1, 2, 3] rfl)
    · skip
      have k_12 : ¬ (((I 31).toInt) = 0) := fun h => c_12 ((g_eq (congrArg Int32.toInt (inv_2.1 31 (by decide))) (show (0 : Int32).toInt = 0 from rfl)).mpr h)
      refine lv_aload_n hx hb dX9_hands_15 rfl (lv_at hl 3 rfl) ?_
      refine lv_aload_n hx hb dX9_hands_16 rfl (lv_at hl 1 rfl) ?_
      refine mg_cursor X w dX9_hands_17 ?_
      refine lv_aload_n hx hb dX9_hands_20 rfl (lv_at hl 2 rfl) ?_
      refine lv_iload_n hx hb dX9_hands_21 rfl (lv_at hl 0 rfl) ?_
      refine ml_calendar X w (g_in q_k (by omega)) dX9_hands_22 ?_
      refine q_topE (y := R_L2 2 k.toNat) (congrArg (R_L2 2) (g_tn q_k)) ?_
      refine ms_earlier (x := (R_L2 2 k.toNat)) X w (g_in rfl (by omega)) dX9_hands_23 (fun H locs w => ?_)
      rw [g_tn rfl] at w
      refine lv_goto (tgt := 36) hx hb dX9_hands_24 (by decide) ?_
      refine lv_aload_n hx hb dX9_hands_36 rfl (lv_at hl 1 rfl) ?_
      refine lv_dup hx hb dX9_hands_37 rfl ?_
      refine mg_cursor X w dX9_hands_38 ?_
      refine lv_iconst (v := 1) hx hb dX9_hands_41 (by decide) ?_
      refine lv_iadd hx hb dX9_hands_42 ?_
      refine lv_topi (fun x_42 e_42 => ?_)
      have p_42 : x_42.toInt = (((I_L2 29).toInt) + 1) := by rw [e_42]; exact t_add rfl (show (1 : Int32).toInt = 1 from rfl) (by omega) (by omega)
      refine mp_cursor (v := x_42) X w dX9_hands_43 (fun H locs w => ?_)
      obtain ⟨x_46, e_46⟩ : ∃ z : Int32, z = (v_k + 1) := ⟨_, rfl⟩
      have p_46 : x_46.toInt = (k + 1) := by rw [e_46]; exact t_add q_k (show (1 : Int32).toInt = 1 from rfl) (by omega) (by omega)
      refine lv_iinc (v := x_46) (lv' := [(3, .int x_46), (0, .ref (b + 45)), (1, .ref (b + 47)), (2, .ref (b + 58))]) hx hb dX9_hands_46 hl (k := 0) rfl (by rw [e_46]; rfl) (by decide) rfl (fun ls hl => ?_)
      refine lv_goto (tgt := 2) hx hb dX9_hands_49 (by decide) ?_
      refine ih_2 ⟨x_46, (k + 1), (va_up I_L2 29 x_42), (va_up R_L2 26 (upd (R_L2 26) ((I_L2 29).toInt).toNat (R_L2 2 k.toNat)))⟩ ⟨p_46, by dsimp only; have ek : (k + 1).toNat = k.toNat + 1 := (by omega); exact ⟨inv_2.1.up (by decide), by omega, by show x_42.toInt = _; omega, fun q => by have e := inv_2.2.2.2.1 q; rw [show (I_L2 29).toInt.toNat = cu.toNat + k.toNat by omega, e, uu, va_up_self, va_up_ne _ _ (by decide), ek, cpy_s], fun q => absurd ((congrArg Int32.toInt h_3).trans (by rw [q]; rfl)) k_12⟩⟩ (by dsimp only; omega) _ _ w ls (lv_sub hl [0, 1, 2, 3] rfl)

set_option maxHeartbeats 4000000 in
set_option maxRecDepth 100000 in
theorem c_X9_hands_16_26 (l : Launch) (D : va_G) (t : Nat → ClassId) (b n : Nat) (σ0 : qM) (I : Nat → Int32) (Rw : Nat → Nat → Int32) (cu : Int) (kb : Bool) (h_1 : (I 29).toInt = cu) (h_2 : 0 ≤ cu ∧ cu + 48 ≤ 1572) (h_3 : I 31 = bI kb) : mV l yX9_hands cX9_hands 4 0 D t b n σ0 I Rw [.ref (b + 45), .ref (b + 51), .ref (b + 58)] (fun I1 R1 => kpI [29] I I1 ∧ (I1 29).toInt = cu + 48 ∧ (kb = true → R1 = va_up Rw 26 (cpy (Rw 26) (Rw 16) cu.toNat 48)) ∧ (kb = false → R1 = va_up Rw 16 (rdr (Rw 16) (Rw 26) cu.toNat 48))) := by
  refine qV.of (by decide +kernel) (Nat.le_of_ble_eq_true rfl) (fun p e s m args below meth c X w _ ls hl => ?_)
  have hx := X.1
  have hb := X.2.1
  have hl : lv_has ls 4 [(0, .ref (b + 45)), (1, .ref (b + 51)), (2, .ref (b + 58))] := hl
  refine lv_iconst (v := 0) hx hb dX9_hands_0 (by decide) ?_
  refine lv_istore_n (lv' := [(3, .int 0), (0, .ref (b + 45)), (1, .ref (b + 51)), (2, .ref (b + 58))]) hx hb dX9_hands_1 rfl hl (by decide) rfl (fun ls hl => ?_)
  refine q_loop (α := Int32 × Int × (Nat → Int32) × (Nat → Nat → Int32)) (fun a => a.1.toInt = a.2.1 ∧ (kpI [29] I a.2.2.1 ∧ (0 ≤ a.2.1 ∧ a.2.1 ≤ 48) ∧ (a.2.2.1 29).toInt = cu + a.2.1 ∧ (kb = true → a.2.2.2 = va_up Rw 26 (cpy (Rw 26) (Rw 16) cu.toNat a.2.1.toNat)) ∧ (kb = false → a.2.2.2 = va_up Rw 16 (rdr (Rw 16) (Rw 26) cu.toNat a.2.1.toNat)))) (fun a => (48 - a.2.1).toNat) (fun a => ∀ (H : Heap) (locs : List Loc), qW D b n (mS t b σ0 a.2.2.1 a.2.2.2) s H locs → ∀ ls : Array Slot, lv_has ls 4 [(3, .int a.1), (0, .ref (b + 45)), (1, .ref (b + 51)), (2, .ref (b + 58))] → W p l e (qR 0 0 0) s m args below meth c H locs 0 0 (MQ below (va_Qv (S := Nat × qM) (fun u => (fun n1 σ1 => n1 = n ∧ ∃ I1 R1, σ1 = mS t b σ0 I1 R1 ∧ kpI [29] I I1 ∧ (I1 29).toInt = cu + 48 ∧ (kb = true → R1 = va_up Rw 26 (cpy (Rw 26) (Rw 16) cu.toNat 48)) ∧ (kb = false → R1 = va_up Rw 16 (rdr (Rw 16) (Rw 26) cu.toNat 48))) u.1 u.2) (fun u T => WB D b u.1 u.2 T.heap) (fun q => b ≤ q)) args s 0 0 (fun q => b ≤ q)) (F0 m 2 ls [])) ?_ ⟨0, 0, I, Rw⟩ ⟨(show (0 : Int32).toInt = 0 from rfl), by dsimp only; exact ⟨kpI.rf, by omega, by omega, fun _ => by rw [show (0 : Int).toNat = 0 from rfl, cpy_0, va_id], fun _ => by rw [show (0 : Int).toNat = 0 from rfl, rdr_0, va_id]⟩⟩ _ _ w ls (lv_sub hl [0, 1, 2, 3] rfl)
  rintro ⟨v_k, k, I_L2, R_L2⟩ ⟨q_k, inv_2⟩ ih_2 H locs w ls hl
  dsimp only at q_k inv_2 hl w
  refine lv_iload_n hx hb dX9_hands_2 rfl (lv_at hl 0 rfl) ?_
  refine lv_aload_n hx hb dX9_hands_3 rfl (lv_at hl 2 rfl) ?_
  refine q_alen X w 0 rfl (k := 51) rfl dX9_hands_4 ?_
  refine q_topE (y := 48) rfl ?_
  refine lv_icmp_ge (tgt := 52) hx hb dX9_hands_5 (by decide) (fun c_5 => ?_) (fun c_5 => ?_)
  · skip
    have k_5 : 48 ≤ k := (g_le (show (48 : Int32).toInt = 48 from rfl) q_k).mp c_5
    exact q_vret (post := (fun n1 σ1 => n1 = n ∧ ∃ I1 R1, σ1 = mS t b σ0 I1 R1 ∧ kpI [29] I I1 ∧ (I1 29).toInt = cu + 48 ∧ (kb = true → R1 = va_up Rw 26 (cpy (Rw 26) (Rw 16) cu.toNat 48)) ∧ (kb = false → R1 = va_up Rw 16 (rdr (Rw 16) (Rw 26) cu.toNat 48)))) X w dX9_hands_52 ⟨rfl, _, _, rfl, by have ek : k.toNat = 48 := (by omega); rw [ek] at inv_2; exact ⟨inv_2.1, by omega, inv_2.2.2.2.1, inv_2.2.2.2.2⟩⟩
  · skip
    have k_5 : ¬ (48 ≤ k) := fun h => c_5 ((g_le (show (48 : Int32).toInt = 48 from rfl) q_k).mpr h)
    refine lv_aload_n hx hb dX9_hands_8 rfl (lv_at hl 1 rfl) ?_
    refine mg_isKeeping X w dX9_hands_9 ?_
    refine lv_if_eq (tgt := 27) hx hb dX9_hands_12 (by decide) (fun c_12 => ?_) (fun c_12 => ?_)
    · skip
      have k_12 : ((I 31).toInt) = 0 := (g_eq (congrArg Int32.toInt (inv_2.1 31 (by decide))) (show (0 : Int32).toInt = 0 from rfl)).mp c_12
      refine lv_aload_n hx hb dX9_hands_27 rfl (lv_at hl 2 rfl) ?_
      refine lv_iload_n hx hb dX9_hands_28 rfl (lv_at hl 0 rfl) ?_
      refine lv_aload_n hx hb dX9_hands_29 rfl (lv_at hl 3 rfl) ?_
      refine lv_aload_n hx hb dX9_hands_30 rfl (lv_at hl 1 rfl) ?_
      refine mg_cursor X w dX9_hands_31 ?_
      refine ml_earlier X w (g_in rfl (by omega)) dX9_hands_34 ?_
      refine q_topE (y := R_L2 26 ((I_L2 29).toInt).toNat) (congrArg (R_L2 26) (g_tn rfl)) ?_
      refine ms_feast (x := (R_L2 26 ((I_L2 29).toInt).toNat)) X w (g_in q_k (by omega)) dX9_hands_35 (fun H locs w => ?_)
      rw [g_tn q_k] at w
      refine lv_aload_n hx hb dX9_hands_36 rfl (lv_at hl 1 rfl) ?_
      refine lv_dup hx hb dX9_hands_37 rfl ?_
      refine mg_cursor X w dX9_hands_38 ?_
      refine lv_iconst (v := 1) hx hb dX9_hands_41 (by decide) ?_
      refine lv_iadd hx hb dX9_hands_42 ?_
      refine lv_topi (fun x_42 e_42 => ?_)
      have p_42 : x_42.toInt = (((I_L2 29).toInt) + 1) := by rw [e_42]; exact t_add rfl (show (1 : Int32).toInt = 1 from rfl) (by omega) (by omega)
      refine mp_cursor (v := x_42) X w dX9_hands_43 (fun H locs w => ?_)
      obtain ⟨x_46, e_46⟩ : ∃ z : Int32, z = (v_k + 1) := ⟨_, rfl⟩
      have p_46 : x_46.toInt = (k + 1) := by rw [e_46]; exact t_add q_k (show (1 : Int32).toInt = 1 from rfl) (by omega) (by omega)
      refine lv_iinc (v := x_46) (lv' := [(3, .int x_46), (0, .ref (b + 45)), (1, .ref (b + 51)), (2, .ref (b + 58))]) hx hb dX9_hands_46 hl (k := 0) rfl (by rw [e_46]; rfl) (by decide) rfl (fun ls hl => ?_)
      refine lv_goto (tgt := 2) hx hb dX9_hands_49 (by decide) ?_
      refine ih_2 ⟨x_46, (k + 1), (va_up I_L2 29 x_42), (va_up R_L2 16 (upd (R_L2 16) k.toNat (R_L2 26 ((I_L2 29).toInt).toNat)))⟩ ⟨p_46, by dsimp only; have ek : (k + 1).toNat = k.toNat + 1 := (by omega); exact ⟨inv_2.1.up (by decide), by omega, by show x_42.toInt = _; omega, fun q => absurd (k_12.symm.trans ((congrArg Int32.toInt h_3).trans (by rw [q]))) (by decide), fun q => by have e := inv_2.2.2.2.2 q; rw [show (I_L2 29).toInt.toNat = cu.toNat + k.toNat by omega, e, uu, va_up_self, va_up_ne _ _ (by decide), ek, rdr_s]⟩⟩ (by dsimp only; omega) _ _ w ls (lv_sub hl [0, 1, 2, 3] rfl)
    · skip
      have k_12 : ¬ (((I 31).toInt) = 0) := fun h => c_12 ((g_eq (congrArg Int32.toInt (inv_2.1 31 (by decide))) (show (0 : Int32).toInt = 0 from rfl)).mpr h)
      refine lv_aload_n hx hb dX9_hands_15 rfl (lv_at hl 3 rfl) ?_
      refine lv_aload_n hx hb dX9_hands_16 rfl (lv_at hl 1 rfl) ?_
      refine mg_cursor X w dX9_hands_17 ?_
      refine lv_aload_n hx hb dX9_hands_20 rfl (lv_at hl 2 rfl) ?_
      refine lv_iload_n hx hb dX9_hands_21 rfl (lv_at hl 0 rfl) ?_
      refine ml_feast X w (g_in q_k (by omega)) dX9_hands_22 ?_
      refine q_topE (y := R_L2 16 k.toNat) (congrArg (R_L2 16) (g_tn q_k)) ?_
      refine ms_earlier (x := (R_L2 16 k.toNat)) X w (g_in rfl (by omega)) dX9_hands_23 (fun H locs w => ?_)
      rw [g_tn rfl] at w
      refine lv_goto (tgt := 36) hx hb dX9_hands_24 (by decide) ?_
      refine lv_aload_n hx hb dX9_hands_36 rfl (lv_at hl 1 rfl) ?_
      refine lv_dup hx hb dX9_hands_37 rfl ?_
      refine mg_cursor X w dX9_hands_38 ?_
      refine lv_iconst (v := 1) hx hb dX9_hands_41 (by decide) ?_
      refine lv_iadd hx hb dX9_hands_42 ?_
      refine lv_topi (fun x_42 e_42 => ?_)
      have p_42 : x_42.toInt = (((I_L2 29).toInt) + 1) := by rw [e_42]; exact t_add rfl (show (1 : Int32).toInt = 1 from rfl) (by omega) (by omega)
      refine mp_cursor (v := x_42) X w dX9_hands_43 (fun H locs w => ?_)
      obtain ⟨x_46, e_46⟩ : ∃ z : Int32, z = (v_k + 1) := ⟨_, rfl⟩
      have p_46 : x_46.toInt = (k + 1) := by rw [e_46]; exact t_add q_k (show (1 : Int32).toInt = 1 from rfl) (by omega) (by omega)
      refine lv_iinc (v := x_46) (lv' := [(3, .int x_46), (0, .ref (b + 45)), (1, .ref (b + 51)), (2, .ref (b + 58))]) hx hb dX9_hands_46 hl (k := 0) rfl (by rw [e_46]; rfl) (by decide) rfl (fun ls hl => ?_)
      refine lv_goto (tgt := 2) hx hb dX9_hands_49 (by decide) ?_
      refine ih_2 ⟨x_46, (k + 1), (va_up I_L2 29 x_42), (va_up R_L2 26 (upd (R_L2 26) ((I_L2 29).toInt).toNat (R_L2 16 k.toNat)))⟩ ⟨p_46, by dsimp only; have ek : (k + 1).toNat = k.toNat + 1 := (by omega); exact ⟨inv_2.1.up (by decide), by omega, by show x_42.toInt = _; omega, fun q => by have e := inv_2.2.2.2.1 q; rw [show (I_L2 29).toInt.toNat = cu.toNat + k.toNat by omega, e, uu, va_up_self, va_up_ne _ _ (by decide), ek, cpy_s], fun q => absurd ((congrArg Int32.toInt h_3).trans (by rw [q]; rfl)) k_12⟩⟩ (by dsimp only; omega) _ _ w ls (lv_sub hl [0, 1, 2, 3] rfl)

set_option maxHeartbeats 4000000 in
set_option maxRecDepth 100000 in
theorem c_X9_hands_2_27 (l : Launch) (D : va_G) (t : Nat → ClassId) (b n : Nat) (σ0 : qM) (I : Nat → Int32) (Rw : Nat → Nat → Int32) (cu : Int) (kb : Bool) (h_1 : (I 29).toInt = cu) (h_2 : 0 ≤ cu ∧ cu + 198 ≤ 262) (h_3 : I 31 = bI kb) : mV l yX9_hands cX9_hands 4 0 D t b n σ0 I Rw [.ref (b + 45), .ref (b + 47), .ref (b + 59)] (fun I1 R1 => kpI [29] I I1 ∧ (I1 29).toInt = cu + 198 ∧ (kb = true → R1 = va_up Rw 27 (cpy (Rw 27) (Rw 2) cu.toNat 198)) ∧ (kb = false → R1 = va_up Rw 2 (rdr (Rw 2) (Rw 27) cu.toNat 198))) := by
  refine qV.of (by decide +kernel) (Nat.le_of_ble_eq_true rfl) (fun p e s m args below meth c X w _ ls hl => ?_)
  have hx := X.1
  have hb := X.2.1
  have hl : lv_has ls 4 [(0, .ref (b + 45)), (1, .ref (b + 47)), (2, .ref (b + 59))] := hl
  refine lv_iconst (v := 0) hx hb dX9_hands_0 (by decide) ?_
  refine lv_istore_n (lv' := [(3, .int 0), (0, .ref (b + 45)), (1, .ref (b + 47)), (2, .ref (b + 59))]) hx hb dX9_hands_1 rfl hl (by decide) rfl (fun ls hl => ?_)
  refine q_loop (α := Int32 × Int × (Nat → Int32) × (Nat → Nat → Int32)) (fun a => a.1.toInt = a.2.1 ∧ (kpI [29] I a.2.2.1 ∧ (0 ≤ a.2.1 ∧ a.2.1 ≤ 198) ∧ (a.2.2.1 29).toInt = cu + a.2.1 ∧ (kb = true → a.2.2.2 = va_up Rw 27 (cpy (Rw 27) (Rw 2) cu.toNat a.2.1.toNat)) ∧ (kb = false → a.2.2.2 = va_up Rw 2 (rdr (Rw 2) (Rw 27) cu.toNat a.2.1.toNat)))) (fun a => (198 - a.2.1).toNat) (fun a => ∀ (H : Heap) (locs : List Loc), qW D b n (mS t b σ0 a.2.2.1 a.2.2.2) s H locs → ∀ ls : Array Slot, lv_has ls 4 [(3, .int a.1), (0, .ref (b + 45)), (1, .ref (b + 47)), (2, .ref (b + 59))] → W p l e (qR 0 0 0) s m args below meth c H locs 0 0 (MQ below (va_Qv (S := Nat × qM) (fun u => (fun n1 σ1 => n1 = n ∧ ∃ I1 R1, σ1 = mS t b σ0 I1 R1 ∧ kpI [29] I I1 ∧ (I1 29).toInt = cu + 198 ∧ (kb = true → R1 = va_up Rw 27 (cpy (Rw 27) (Rw 2) cu.toNat 198)) ∧ (kb = false → R1 = va_up Rw 2 (rdr (Rw 2) (Rw 27) cu.toNat 198))) u.1 u.2) (fun u T => WB D b u.1 u.2 T.heap) (fun q => b ≤ q)) args s 0 0 (fun q => b ≤ q)) (F0 m 2 ls [])) ?_ ⟨0, 0, I, Rw⟩ ⟨(show (0 : Int32).toInt = 0 from rfl), by dsimp only; exact ⟨kpI.rf, by omega, by omega, fun _ => by rw [show (0 : Int).toNat = 0 from rfl, cpy_0, va_id], fun _ => by rw [show (0 : Int).toNat = 0 from rfl, rdr_0, va_id]⟩⟩ _ _ w ls (lv_sub hl [0, 1, 2, 3] rfl)
  rintro ⟨v_k, k, I_L2, R_L2⟩ ⟨q_k, inv_2⟩ ih_2 H locs w ls hl
  dsimp only at q_k inv_2 hl w
  refine lv_iload_n hx hb dX9_hands_2 rfl (lv_at hl 0 rfl) ?_
  refine lv_aload_n hx hb dX9_hands_3 rfl (lv_at hl 2 rfl) ?_
  refine q_alen X w 0 rfl (k := 47) rfl dX9_hands_4 ?_
  refine q_topE (y := 198) rfl ?_
  refine lv_icmp_ge (tgt := 52) hx hb dX9_hands_5 (by decide) (fun c_5 => ?_) (fun c_5 => ?_)
  · skip
    have k_5 : 198 ≤ k := (g_le (show (198 : Int32).toInt = 198 from rfl) q_k).mp c_5
    exact q_vret (post := (fun n1 σ1 => n1 = n ∧ ∃ I1 R1, σ1 = mS t b σ0 I1 R1 ∧ kpI [29] I I1 ∧ (I1 29).toInt = cu + 198 ∧ (kb = true → R1 = va_up Rw 27 (cpy (Rw 27) (Rw 2) cu.toNat 198)) ∧ (kb = false → R1 = va_up Rw 2 (rdr (Rw 2) (Rw 27) cu.toNat 198)))) X w dX9_hands_52 ⟨rfl, _, _, rfl, by have ek : k.toNat = 198 := (by omega); rw [ek] at inv_2; exact ⟨inv_2.1, by omega, inv_2.2.2.2.1, inv_2.2.2.2.2⟩⟩
  · skip
    have k_5 : ¬ (198 ≤ k) := fun h => c_5 ((g_le (show (198 : Int32).toInt = 198 from rfl) q_k).mpr h)
    refine lv_aload_n hx hb dX9_hands_8 rfl (lv_at hl 1 rfl) ?_
    refine mg_isKeeping X w dX9_hands_9 ?_
    refine lv_if_eq (tgt := 27) hx hb dX9_hands_12 (by decide) (fun c_12 => ?_) (fun c_12 => ?_)
    · skip
      have k_12 : ((I 31).toInt) = 0 := (g_eq (congrArg Int32.toInt (inv_2.1 31 (by decide))) (show (0 : Int32).toInt = 0 from rfl)).mp c_12
      refine lv_aload_n hx hb dX9_hands_27 rfl (lv_at hl 2 rfl) ?_
      refine lv_iload_n hx hb dX9_hands_28 rfl (lv_at hl 0 rfl) ?_
      refine lv_aload_n hx hb dX9_hands_29 rfl (lv_at hl 3 rfl) ?_
      refine lv_aload_n hx hb dX9_hands_30 rfl (lv_at hl 1 rfl) ?_
      refine mg_cursor X w dX9_hands_31 ?_
      refine ml_saved X w (g_in rfl (by omega)) dX9_hands_34 ?_
      refine q_topE (y := R_L2 27 ((I_L2 29).toInt).toNat) (congrArg (R_L2 27) (g_tn rfl)) ?_
      refine ms_calendar (x := (R_L2 27 ((I_L2 29).toInt).toNat)) X w (g_in q_k (by omega)) dX9_hands_35 (fun H locs w => ?_)
      rw [g_tn q_k] at w
      refine lv_aload_n hx hb dX9_hands_36 rfl (lv_at hl 1 rfl) ?_
      refine lv_dup hx hb dX9_hands_37 rfl ?_
      refine mg_cursor X w dX9_hands_38 ?_
      refine lv_iconst (v := 1) hx hb dX9_hands_41 (by decide) ?_
      refine lv_iadd hx hb dX9_hands_42 ?_
      refine lv_topi (fun x_42 e_42 => ?_)
      have p_42 : x_42.toInt = (((I_L2 29).toInt) + 1) := by rw [e_42]; exact t_add rfl (show (1 : Int32).toInt = 1 from rfl) (by omega) (by omega)
      refine mp_cursor (v := x_42) X w dX9_hands_43 (fun H locs w => ?_)
      obtain ⟨x_46, e_46⟩ : ∃ z : Int32, z = (v_k + 1) := ⟨_, rfl⟩
      have p_46 : x_46.toInt = (k + 1) := by rw [e_46]; exact t_add q_k (show (1 : Int32).toInt = 1 from rfl) (by omega) (by omega)
      refine lv_iinc (v := x_46) (lv' := [(3, .int x_46), (0, .ref (b + 45)), (1, .ref (b + 47)), (2, .ref (b + 59))]) hx hb dX9_hands_46 hl (k := 0) rfl (by rw [e_46]; rfl) (by decide) rfl (fun ls hl => ?_)
      refine lv_goto (tgt := 2) hx hb dX9_hands_49 (by decide) ?_
      refine ih_2 ⟨x_46, (k + 1), (va_up I_L2 29 x_42), (va_up R_L2 2 (upd (R_L2 2) k.toNat (R_L2 27 ((I_L2 29).toInt).toNat)))⟩ ⟨p_46, by dsimp only; have ek : (k + 1).toNat = k.toNat + 1 := (by omega); exact ⟨inv_2.1.up (by decide), by omega, by show x_42.toInt = _; omega, fun q => absurd (k_12.symm.trans ((congrArg Int32.toInt h_3).trans (by rw [q]))) (by decide), fun q => by have e := inv_2.2.2.2.2 q; rw [show (I_L2 29).toInt.toNat = cu.toNat + k.toNat by omega, e, uu, va_up_self, va_up_ne _ _ (by decide), ek, rdr_s]⟩⟩ (by dsimp only; omega) _ _ w ls (lv_sub hl [0, 1, 2, 3] rfl)
    · skip
      have k_12 : ¬ (((I 31).toInt) = 0) := fun h => c_12 ((g_eq (congrArg Int32.toInt (inv_2.1 31 (by decide))) (show (0 : Int32).toInt = 0 from rfl)).mpr h)
      refine lv_aload_n hx hb dX9_hands_15 rfl (lv_at hl 3 rfl) ?_
      refine lv_aload_n hx hb dX9_hands_16 rfl (lv_at hl 1 rfl) ?_
      refine mg_cursor X w dX9_hands_17 ?_
      refine lv_aload_n hx hb dX9_hands_20 rfl (lv_at hl 2 rfl) ?_
      refine lv_iload_n hx hb dX9_hands_21 rfl (lv_at hl 0 rfl) ?_
      refine ml_calendar X w (g_in q_k (by omega)) dX9_hands_22 ?_
      refine q_topE (y := R_L2 2 k.toNat) (congrArg (R_L2 2) (g_tn q_k)) ?_
      refine ms_saved (x := (R_L2 2 k.toNat)) X w (g_in rfl (by omega)) dX9_hands_23 (fun H locs w => ?_)
      rw [g_tn rfl] at w
      refine lv_goto (tgt := 36) hx hb dX9_hands_24 (by decide) ?_
      refine lv_aload_n hx hb dX9_hands_36 rfl (lv_at hl 1 rfl) ?_
      refine lv_dup hx hb dX9_hands_37 rfl ?_
      refine mg_cursor X w dX9_hands_38 ?_
      refine lv_iconst (v := 1) hx hb dX9_hands_41 (by decide) ?_
      refine lv_iadd hx hb dX9_hands_42 ?_
      refine lv_topi (fun x_42 e_42 => ?_)
      have p_42 : x_42.toInt = (((I_L2 29).toInt) + 1) := by rw [e_42]; exact t_add rfl (show (1 : Int32).toInt = 1 from rfl) (by omega) (by omega)
      refine mp_cursor (v := x_42) X w dX9_hands_43 (fun H locs w => ?_)
      obtain ⟨x_46, e_46⟩ : ∃ z : Int32, z = (v_k + 1) := ⟨_, rfl⟩
      have p_46 : x_46.toInt = (k + 1) := by rw [e_46]; exact t_add q_k (show (1 : Int32).toInt = 1 from rfl) (by omega) (by omega)
      refine lv_iinc (v := x_46) (lv' := [(3, .int x_46), (0, .ref (b + 45)), (1, .ref (b + 47)), (2, .ref (b + 59))]) hx hb dX9_hands_46 hl (k := 0) rfl (by rw [e_46]; rfl) (by decide) rfl (fun ls hl => ?_)
      refine lv_goto (tgt := 2) hx hb dX9_hands_49 (by decide) ?_
      refine ih_2 ⟨x_46, (k + 1), (va_up I_L2 29 x_42), (va_up R_L2 27 (upd (R_L2 27) ((I_L2 29).toInt).toNat (R_L2 2 k.toNat)))⟩ ⟨p_46, by dsimp only; have ek : (k + 1).toNat = k.toNat + 1 := (by omega); exact ⟨inv_2.1.up (by decide), by omega, by show x_42.toInt = _; omega, fun q => by have e := inv_2.2.2.2.1 q; rw [show (I_L2 29).toInt.toNat = cu.toNat + k.toNat by omega, e, uu, va_up_self, va_up_ne _ _ (by decide), ek, cpy_s], fun q => absurd ((congrArg Int32.toInt h_3).trans (by rw [q]; rfl)) k_12⟩⟩ (by dsimp only; omega) _ _ w ls (lv_sub hl [0, 1, 2, 3] rfl)

set_option maxHeartbeats 4000000 in
set_option maxRecDepth 100000 in
theorem c_X9_hands_16_27 (l : Launch) (D : va_G) (t : Nat → ClassId) (b n : Nat) (σ0 : qM) (I : Nat → Int32) (Rw : Nat → Nat → Int32) (cu : Int) (kb : Bool) (h_1 : (I 29).toInt = cu) (h_2 : 0 ≤ cu ∧ cu + 48 ≤ 262) (h_3 : I 31 = bI kb) : mV l yX9_hands cX9_hands 4 0 D t b n σ0 I Rw [.ref (b + 45), .ref (b + 51), .ref (b + 59)] (fun I1 R1 => kpI [29] I I1 ∧ (I1 29).toInt = cu + 48 ∧ (kb = true → R1 = va_up Rw 27 (cpy (Rw 27) (Rw 16) cu.toNat 48)) ∧ (kb = false → R1 = va_up Rw 16 (rdr (Rw 16) (Rw 27) cu.toNat 48))) := by
  refine qV.of (by decide +kernel) (Nat.le_of_ble_eq_true rfl) (fun p e s m args below meth c X w _ ls hl => ?_)
  have hx := X.1
  have hb := X.2.1
  have hl : lv_has ls 4 [(0, .ref (b + 45)), (1, .ref (b + 51)), (2, .ref (b + 59))] := hl
  refine lv_iconst (v := 0) hx hb dX9_hands_0 (by decide) ?_
  refine lv_istore_n (lv' := [(3, .int 0), (0, .ref (b + 45)), (1, .ref (b + 51)), (2, .ref (b + 59))]) hx hb dX9_hands_1 rfl hl (by decide) rfl (fun ls hl => ?_)
  refine q_loop (α := Int32 × Int × (Nat → Int32) × (Nat → Nat → Int32)) (fun a => a.1.toInt = a.2.1 ∧ (kpI [29] I a.2.2.1 ∧ (0 ≤ a.2.1 ∧ a.2.1 ≤ 48) ∧ (a.2.2.1 29).toInt = cu + a.2.1 ∧ (kb = true → a.2.2.2 = va_up Rw 27 (cpy (Rw 27) (Rw 16) cu.toNat a.2.1.toNat)) ∧ (kb = false → a.2.2.2 = va_up Rw 16 (rdr (Rw 16) (Rw 27) cu.toNat a.2.1.toNat)))) (fun a => (48 - a.2.1).toNat) (fun a => ∀ (H : Heap) (locs : List Loc), qW D b n (mS t b σ0 a.2.2.1 a.2.2.2) s H locs → ∀ ls : Array Slot, lv_has ls 4 [(3, .int a.1), (0, .ref (b + 45)), (1, .ref (b + 51)), (2, .ref (b + 59))] → W p l e (qR 0 0 0) s m args below meth c H locs 0 0 (MQ below (va_Qv (S := Nat × qM) (fun u => (fun n1 σ1 => n1 = n ∧ ∃ I1 R1, σ1 = mS t b σ0 I1 R1 ∧ kpI [29] I I1 ∧ (I1 29).toInt = cu + 48 ∧ (kb = true → R1 = va_up Rw 27 (cpy (Rw 27) (Rw 16) cu.toNat 48)) ∧ (kb = false → R1 = va_up Rw 16 (rdr (Rw 16) (Rw 27) cu.toNat 48))) u.1 u.2) (fun u T => WB D b u.1 u.2 T.heap) (fun q => b ≤ q)) args s 0 0 (fun q => b ≤ q)) (F0 m 2 ls [])) ?_ ⟨0, 0, I, Rw⟩ ⟨(show (0 : Int32).toInt = 0 from rfl), by dsimp only; exact ⟨kpI.rf, by omega, by omega, fun _ => by rw [show (0 : Int).toNat = 0 from rfl, cpy_0, va_id], fun _ => by rw [show (0 : Int).toNat = 0 from rfl, rdr_0, va_id]⟩⟩ _ _ w ls (lv_sub hl [0, 1, 2, 3] rfl)
  rintro ⟨v_k, k, I_L2, R_L2⟩ ⟨q_k, inv_2⟩ ih_2 H locs w ls hl
  dsimp only at q_k inv_2 hl w
  refine lv_iload_n hx hb dX9_hands_2 rfl (lv_at hl 0 rfl) ?_
  refine lv_aload_n hx hb dX9_hands_3 rfl (lv_at hl 2 rfl) ?_
  refine q_alen X w 0 rfl (k := 51) rfl dX9_hands_4 ?_
  refine q_topE (y := 48) rfl ?_
  refine lv_icmp_ge (tgt := 52) hx hb dX9_hands_5 (by decide) (fun c_5 => ?_) (fun c_5 => ?_)
  · skip
    have k_5 : 48 ≤ k := (g_le (show (48 : Int32).toInt = 48 from rfl) q_k).mp c_5
    exact q_vret (post := (fun n1 σ1 => n1 = n ∧ ∃ I1 R1, σ1 = mS t b σ0 I1 R1 ∧ kpI [29] I I1 ∧ (I1 29).toInt = cu + 48 ∧ (kb = true → R1 = va_up Rw 27 (cpy (Rw 27) (Rw 16) cu.toNat 48)) ∧ (kb = false → R1 = va_up Rw 16 (rdr (Rw 16) (Rw 27) cu.toNat 48)))) X w dX9_hands_52 ⟨rfl, _, _, rfl, by have ek : k.toNat = 48 := (by omega); rw [ek] at inv_2; exact ⟨inv_2.1, by omega, inv_2.2.2.2.1, inv_2.2.2.2.2⟩⟩
  · skip
    have k_5 : ¬ (48 ≤ k) := fun h => c_5 ((g_le (show (48 : Int32).toInt = 48 from rfl) q_k).mpr h)
    refine lv_aload_n hx hb dX9_hands_8 rfl (lv_at hl 1 rfl) ?_
    refine mg_isKeeping X w dX9_hands_9 ?_
    refine lv_if_eq (tgt := 27) hx hb dX9_hands_12 (by decide) (fun c_12 => ?_) (fun c_12 => ?_)
    · skip
      have k_12 : ((I 31).toInt) = 0 := (g_eq (congrArg Int32.toInt (inv_2.1 31 (by decide))) (show (0 : Int32).toInt = 0 from rfl)).mp c_12
      refine lv_aload_n hx hb dX9_hands_27 rfl (lv_at hl 2 rfl) ?_
      refine lv_iload_n hx hb dX9_hands_28 rfl (lv_at hl 0 rfl) ?_
      refine lv_aload_n hx hb dX9_hands_29 rfl (lv_at hl 3 rfl) ?_
      refine lv_aload_n hx hb dX9_hands_30 rfl (lv_at hl 1 rfl) ?_
      refine mg_cursor X w dX9_hands_31 ?_
      refine ml_saved X w (g_in rfl (by omega)) dX9_hands_34 ?_
      refine q_topE (y := R_L2 27 ((I_L2 29).toInt).toNat) (congrArg (R_L2 27) (g_tn rfl)) ?_
      refine ms_feast (x := (R_L2 27 ((I_L2 29).toInt).toNat)) X w (g_in q_k (by omega)) dX9_hands_35 (fun H locs w => ?_)
      rw [g_tn q_k] at w
      refine lv_aload_n hx hb dX9_hands_36 rfl (lv_at hl 1 rfl) ?_
      refine lv_dup hx hb dX9_hands_37 rfl ?_
      refine mg_cursor X w dX9_hands_38 ?_
      refine lv_iconst (v := 1) hx hb dX9_hands_41 (by decide) ?_
      refine lv_iadd hx hb dX9_hands_42 ?_
      refine lv_topi (fun x_42 e_42 => ?_)
      have p_42 : x_42.toInt = (((I_L2 29).toInt) + 1) := by rw [e_42]; exact t_add rfl (show (1 : Int32).toInt = 1 from rfl) (by omega) (by omega)
      refine mp_cursor (v := x_42) X w dX9_hands_43 (fun H locs w => ?_)
      obtain ⟨x_46, e_46⟩ : ∃ z : Int32, z = (v_k + 1) := ⟨_, rfl⟩
      have p_46 : x_46.toInt = (k + 1) := by rw [e_46]; exact t_add q_k (show (1 : Int32).toInt = 1 from rfl) (by omega) (by omega)
      refine lv_iinc (v := x_46) (lv' := [(3, .int x_46), (0, .ref (b + 45)), (1, .ref (b + 51)), (2, .ref (b + 59))]) hx hb dX9_hands_46 hl (k := 0) rfl (by rw [e_46]; rfl) (by decide) rfl (fun ls hl => ?_)
      refine lv_goto (tgt := 2) hx hb dX9_hands_49 (by decide) ?_
      refine ih_2 ⟨x_46, (k + 1), (va_up I_L2 29 x_42), (va_up R_L2 16 (upd (R_L2 16) k.toNat (R_L2 27 ((I_L2 29).toInt).toNat)))⟩ ⟨p_46, by dsimp only; have ek : (k + 1).toNat = k.toNat + 1 := (by omega); exact ⟨inv_2.1.up (by decide), by omega, by show x_42.toInt = _; omega, fun q => absurd (k_12.symm.trans ((congrArg Int32.toInt h_3).trans (by rw [q]))) (by decide), fun q => by have e := inv_2.2.2.2.2 q; rw [show (I_L2 29).toInt.toNat = cu.toNat + k.toNat by omega, e, uu, va_up_self, va_up_ne _ _ (by decide), ek, rdr_s]⟩⟩ (by dsimp only; omega) _ _ w ls (lv_sub hl [0, 1, 2, 3] rfl)
    · skip
      have k_12 : ¬ (((I 31).toInt) = 0) := fun h => c_12 ((g_eq (congrArg Int32.toInt (inv_2.1 31 (by decide))) (show (0 : Int32).toInt = 0 from rfl)).mpr h)
      refine lv_aload_n hx hb dX9_hands_15 rfl (lv_at hl 3 rfl) ?_
      refine lv_aload_n hx hb dX9_hands_16 rfl (lv_at hl 1 rfl) ?_
      refine mg_cursor X w dX9_hands_17 ?_
      refine lv_aload_n hx hb dX9_hands_20 rfl (lv_at hl 2 rfl) ?_
      refine lv_iload_n hx hb dX9_hands_21 rfl (lv_at hl 0 rfl) ?_
      refine ml_feast X w (g_in q_k (by omega)) dX9_hands_22 ?_
      refine q_topE (y := R_L2 16 k.toNat) (congrArg (R_L2 16) (g_tn q_k)) ?_
      refine ms_saved (x := (R_L2 16 k.toNat)) X w (g_in rfl (by omega)) dX9_hands_23 (fun H locs w => ?_)
      rw [g_tn rfl] at w
      refine lv_goto (tgt := 36) hx hb dX9_hands_24 (by decide) ?_
      refine lv_aload_n hx hb dX9_hands_36 rfl (lv_at hl 1 rfl) ?_
      refine lv_dup hx hb dX9_hands_37 rfl ?_
      refine mg_cursor X w dX9_hands_38 ?_
      refine lv_iconst (v := 1) hx hb dX9_hands_41 (by decide) ?_
      refine lv_iadd hx hb dX9_hands_42 ?_
      refine lv_topi (fun x_42 e_42 => ?_)
      have p_42 : x_42.toInt = (((I_L2 29).toInt) + 1) := by rw [e_42]; exact t_add rfl (show (1 : Int32).toInt = 1 from rfl) (by omega) (by omega)
      refine mp_cursor (v := x_42) X w dX9_hands_43 (fun H locs w => ?_)
      obtain ⟨x_46, e_46⟩ : ∃ z : Int32, z = (v_k + 1) := ⟨_, rfl⟩
      have p_46 : x_46.toInt = (k + 1) := by rw [e_46]; exact t_add q_k (show (1 : Int32).toInt = 1 from rfl) (by omega) (by omega)
      refine lv_iinc (v := x_46) (lv' := [(3, .int x_46), (0, .ref (b + 45)), (1, .ref (b + 51)), (2, .ref (b + 59))]) hx hb dX9_hands_46 hl (k := 0) rfl (by rw [e_46]; rfl) (by decide) rfl (fun ls hl => ?_)
      refine lv_goto (tgt := 2) hx hb dX9_hands_49 (by decide) ?_
      refine ih_2 ⟨x_46, (k + 1), (va_up I_L2 29 x_42), (va_up R_L2 27 (upd (R_L2 27) ((I_L2 29).toInt).toNat (R_L2 16 k.toNat)))⟩ ⟨p_46, by dsimp only; have ek : (k + 1).toNat = k.toNat + 1 := (by omega); exact ⟨inv_2.1.up (by decide), by omega, by show x_42.toInt = _; omega, fun q => by have e := inv_2.2.2.2.1 q; rw [show (I_L2 29).toInt.toNat = cu.toNat + k.toNat by omega, e, uu, va_up_self, va_up_ne _ _ (by decide), ek, cpy_s], fun q => absurd ((congrArg Int32.toInt h_3).trans (by rw [q]; rfl)) k_12⟩⟩ (by dsimp only; omega) _ _ w ls (lv_sub hl [0, 1, 2, 3] rfl)

set_option maxHeartbeats 4000000 in
set_option maxRecDepth 100000 in
theorem c_X9_handsAll_26k (l : Launch) (D : va_G) (t : Nat → ClassId) (b n : Nat) (σ0 : qM) (I : Nat → Int32) (Rw : Nat → Nat → Int32) (a_wh : Int32) (a_kp_ : Int32) (wh : Int) (kp_ : Int) (e_wh : a_wh.toInt = wh) (e_kp_ : a_kp_.toInt = kp_) (h_1 : 0 ≤ wh ∧ wh + 262 ≤ 1572) (h_2 : kp_ = 1) : mV l yX9_handsAll cX9_handsAll 5 1 D t b n σ0 I Rw [.ref (b + 45), .ref (b + 58), .int a_wh, .int a_kp_] (fun I1 R1 => kpI [29, 31] I I1 ∧ R1 = va_up Rw 26 (bkW (Rw 26) wh.toNat (Rw 2) (Rw 16) (I 5) (I 19))) := by
  refine qV.of (by decide +kernel) (Nat.le_of_ble_eq_true rfl) (fun p e s m args below meth c X w _ ls hl => ?_)
  have hx := X.1
  have hb := X.2.1
  have hl : lv_has ls 5 [(0, .ref (b + 45)), (1, .ref (b + 58)), (2, .int a_wh), (3, .int a_kp_)] := hl
  refine lv_aload_n hx hb dX9_handsAll_0 rfl (lv_at hl 0 rfl) ?_
  refine lv_iload_n hx hb dX9_handsAll_1 rfl (lv_at hl 3 rfl) ?_
  refine mp_isKeeping (v := a_kp_) X w dX9_handsAll_2 (by rw [i_eq1 e_kp_ h_2]; rfl) (by rw [i_eq1 e_kp_ h_2]; rfl) (fun H locs w => ?_)
  refine lv_aload_n hx hb dX9_handsAll_5 rfl (lv_at hl 0 rfl) ?_
  refine lv_iload_n hx hb dX9_handsAll_6 rfl (lv_at hl 2 rfl) ?_
  refine mp_cursor (v := a_wh) X w dX9_handsAll_7 (fun H locs w => ?_)
  refine lv_aload_n hx hb dX9_handsAll_10 rfl (lv_at hl 0 rfl) ?_
  refine lv_aload_n hx hb dX9_handsAll_11 rfl (lv_at hl 0 rfl) ?_
  refine mg_calendar X w dX9_handsAll_12 ?_
  refine lv_aload_n hx hb dX9_handsAll_15 rfl (lv_at hl 1 rfl) ?_
  refine mm_cV X w (c_X9_hands_2_26 l D t b n σ0 (va_up (va_up I 31 a_kp_) 29 a_wh) Rw wh true (by exact e_wh) (by omega) (by exact (show (va_up (va_up I 31 a_kp_) 29 a_wh) 31 = bI true from i_eq1 e_kp_ h_2))) v_X9_345 rfl rfl ⟨Nat.le_of_ble_eq_true rfl, Nat.le_of_ble_eq_true rfl⟩ rfl hl.1 (Nat.le_of_ble_eq_true rfl) dX9_handsAll_16 ⟨Nat.zero_le _, Nat.zero_le _⟩ (fun I_16 R_16 H locs z_16 w => ?_)
  refine lv_aload_n hx hb dX9_handsAll_19 rfl (lv_at hl 0 rfl) ?_
  refine lv_aload_n hx hb dX9_handsAll_20 rfl (lv_at hl 0 rfl) ?_
  refine mg_feast X w dX9_handsAll_21 ?_
  refine lv_aload_n hx hb dX9_handsAll_24 rfl (lv_at hl 1 rfl) ?_
  refine mm_cV X w (c_X9_hands_16_26 l D t b n σ0 I_16 R_16 (wh + 198) true (by exact z_16.2.1) (by omega) (by exact (z_16.1 31 (by decide)).trans (show (va_up (va_up I 31 a_kp_) 29 a_wh) 31 = bI true from i_eq1 e_kp_ h_2))) v_X9_345 rfl rfl ⟨Nat.le_of_ble_eq_true rfl, Nat.le_of_ble_eq_true rfl⟩ rfl hl.1 (Nat.le_of_ble_eq_true rfl) dX9_handsAll_25 ⟨Nat.zero_le _, Nat.zero_le _⟩ (fun I_25 R_25 H locs z_25 w => ?_)
  have E29 : (I_25 29).toInt = wh + 246 := z_25.2.1.trans (by omega)
  have E5 : I_25 5 = I 5 := (z_25.1 5 (by decide)).trans (z_16.1 5 (by decide))
  have E19 : I_25 19 = I 19 := (z_25.1 19 (by decide)).trans (z_16.1 19 (by decide))
  have ER : R_25 = va_up Rw 26 (cpy (cpy (Rw 26) (Rw 2) wh.toNat 198) (Rw 16) (wh.toNat + 198) 48) := by rw [z_25.2.2.1 rfl, z_16.2.2.1 rfl, uu, va_up_self, va_up_ne _ _ (by decide), show (wh + 198).toNat = wh.toNat + 198 by omega]
  refine lv_iload_n hx hb dX9_handsAll_28 rfl (lv_at hl 3 rfl) ?_
  refine lv_if_eq (tgt := 55) hx hb dX9_handsAll_29 (by decide) (fun c_29 => ?_) (fun c_29 => ?_)
  · skip
    have k_29 : kp_ = 0 := (g_eq e_kp_ (show (0 : Int32).toInt = 0 from rfl)).mp c_29
    exfalso; omega
  · skip
    have k_29 : ¬ (kp_ = 0) := fun h => c_29 ((g_eq e_kp_ (show (0 : Int32).toInt = 0 from rfl)).mpr h)
    refine lv_aload_n hx hb dX9_handsAll_32 rfl (lv_at hl 1 rfl) ?_
    refine lv_aload_n hx hb dX9_handsAll_33 rfl (lv_at hl 0 rfl) ?_
    refine mg_cursor X w dX9_handsAll_34 ?_
    refine lv_aload_n hx hb dX9_handsAll_37 rfl (lv_at hl 0 rfl) ?_
    refine mg_calendars X w dX9_handsAll_38 ?_
    refine ms_earlier (x := (I_25 5)) X w (g_in rfl (by omega)) dX9_handsAll_41 (fun H locs w => ?_)
    rw [g_tn rfl] at w
    refine lv_aload_n hx hb dX9_handsAll_42 rfl (lv_at hl 1 rfl) ?_
    refine lv_aload_n hx hb dX9_handsAll_43 rfl (lv_at hl 0 rfl) ?_
    refine mg_cursor X w dX9_handsAll_44 ?_
    refine lv_iconst (v := 1) hx hb dX9_handsAll_47 (by decide) ?_
    refine lv_iadd hx hb dX9_handsAll_48 ?_
    refine lv_topi (fun x_48 e_48 => ?_)
    have p_48 : x_48.toInt = (((I_25 29).toInt) + 1) := by rw [e_48]; exact t_add rfl (show (1 : Int32).toInt = 1 from rfl) (by omega) (by omega)
    refine lv_aload_n hx hb dX9_handsAll_49 rfl (lv_at hl 0 rfl) ?_
    refine mg_feasts X w dX9_handsAll_50 ?_
    refine ms_earlier (x := (I_25 19)) X w (g_in p_48 (by omega)) dX9_handsAll_53 (fun H locs w => ?_)
    rw [g_tn p_48] at w
    exact q_vret (post := (fun n1 σ1 => n1 = n ∧ ∃ I1 R1, σ1 = mS t b σ0 I1 R1 ∧ kpI [29, 31] I I1 ∧ R1 = va_up Rw 26 (bkW (Rw 26) wh.toNat (Rw 2) (Rw 16) (I 5) (I 19)))) X w dX9_handsAll_54 ⟨rfl, _, _, rfl, by refine ⟨(kpI.up (J := [29, 31]) (kpI.up (J := [29, 31]) kpI.rf (by decide)) (by decide)).tr (kpI.tr (J := [29, 31]) z_16.1 z_25.1 (by decide) (by decide)) (by decide) (by decide), ?_⟩; unfold bkW; rw [uu, va_up_self, ER, va_up_self, uu, E5, E19, E29, show (wh + 246).toNat = wh.toNat + 246 by omega, show (wh + 246 + 1).toNat = wh.toNat + 247 by omega]⟩

set_option maxHeartbeats 4000000 in
set_option maxRecDepth 100000 in
theorem c_X9_handsAll_27k (l : Launch) (D : va_G) (t : Nat → ClassId) (b n : Nat) (σ0 : qM) (I : Nat → Int32) (Rw : Nat → Nat → Int32) (a_wh : Int32) (a_kp_ : Int32) (wh : Int) (kp_ : Int) (e_wh : a_wh.toInt = wh) (e_kp_ : a_kp_.toInt = kp_) (h_1 : 0 ≤ wh ∧ wh + 262 ≤ 262) (h_2 : kp_ = 1) : mV l yX9_handsAll cX9_handsAll 5 1 D t b n σ0 I Rw [.ref (b + 45), .ref (b + 59), .int a_wh, .int a_kp_] (fun I1 R1 => kpI [29, 31] I I1 ∧ R1 = va_up Rw 27 (bkW (Rw 27) wh.toNat (Rw 2) (Rw 16) (I 5) (I 19))) := by
  refine qV.of (by decide +kernel) (Nat.le_of_ble_eq_true rfl) (fun p e s m args below meth c X w _ ls hl => ?_)
  have hx := X.1
  have hb := X.2.1
  have hl : lv_has ls 5 [(0, .ref (b + 45)), (1, .ref (b + 59)), (2, .int a_wh), (3, .int a_kp_)] := hl
  refine lv_aload_n hx hb dX9_handsAll_0 rfl (lv_at hl 0 rfl) ?_
  refine lv_iload_n hx hb dX9_handsAll_1 rfl (lv_at hl 3 rfl) ?_
  refine mp_isKeeping (v := a_kp_) X w dX9_handsAll_2 (by rw [i_eq1 e_kp_ h_2]; rfl) (by rw [i_eq1 e_kp_ h_2]; rfl) (fun H locs w => ?_)
  refine lv_aload_n hx hb dX9_handsAll_5 rfl (lv_at hl 0 rfl) ?_
  refine lv_iload_n hx hb dX9_handsAll_6 rfl (lv_at hl 2 rfl) ?_
  refine mp_cursor (v := a_wh) X w dX9_handsAll_7 (fun H locs w => ?_)
  refine lv_aload_n hx hb dX9_handsAll_10 rfl (lv_at hl 0 rfl) ?_
  refine lv_aload_n hx hb dX9_handsAll_11 rfl (lv_at hl 0 rfl) ?_
  refine mg_calendar X w dX9_handsAll_12 ?_
  refine lv_aload_n hx hb dX9_handsAll_15 rfl (lv_at hl 1 rfl) ?_
  refine mm_cV X w (c_X9_hands_2_27 l D t b n σ0 (va_up (va_up I 31 a_kp_) 29 a_wh) Rw wh true (by exact e_wh) (by omega) (by exact (show (va_up (va_up I 31 a_kp_) 29 a_wh) 31 = bI true from i_eq1 e_kp_ h_2))) v_X9_345 rfl rfl ⟨Nat.le_of_ble_eq_true rfl, Nat.le_of_ble_eq_true rfl⟩ rfl hl.1 (Nat.le_of_ble_eq_true rfl) dX9_handsAll_16 ⟨Nat.zero_le _, Nat.zero_le _⟩ (fun I_16 R_16 H locs z_16 w => ?_)
  refine lv_aload_n hx hb dX9_handsAll_19 rfl (lv_at hl 0 rfl) ?_
  refine lv_aload_n hx hb dX9_handsAll_20 rfl (lv_at hl 0 rfl) ?_
  refine mg_feast X w dX9_handsAll_21 ?_
  refine lv_aload_n hx hb dX9_handsAll_24 rfl (lv_at hl 1 rfl) ?_
  refine mm_cV X w (c_X9_hands_16_27 l D t b n σ0 I_16 R_16 (wh + 198) true (by exact z_16.2.1) (by omega) (by exact (z_16.1 31 (by decide)).trans (show (va_up (va_up I 31 a_kp_) 29 a_wh) 31 = bI true from i_eq1 e_kp_ h_2))) v_X9_345 rfl rfl ⟨Nat.le_of_ble_eq_true rfl, Nat.le_of_ble_eq_true rfl⟩ rfl hl.1 (Nat.le_of_ble_eq_true rfl) dX9_handsAll_25 ⟨Nat.zero_le _, Nat.zero_le _⟩ (fun I_25 R_25 H locs z_25 w => ?_)
  have E29 : (I_25 29).toInt = wh + 246 := z_25.2.1.trans (by omega)
  have E5 : I_25 5 = I 5 := (z_25.1 5 (by decide)).trans (z_16.1 5 (by decide))
  have E19 : I_25 19 = I 19 := (z_25.1 19 (by decide)).trans (z_16.1 19 (by decide))
  have ER : R_25 = va_up Rw 27 (cpy (cpy (Rw 27) (Rw 2) wh.toNat 198) (Rw 16) (wh.toNat + 198) 48) := by rw [z_25.2.2.1 rfl, z_16.2.2.1 rfl, uu, va_up_self, va_up_ne _ _ (by decide), show (wh + 198).toNat = wh.toNat + 198 by omega]
  refine lv_iload_n hx hb dX9_handsAll_28 rfl (lv_at hl 3 rfl) ?_
  refine lv_if_eq (tgt := 55) hx hb dX9_handsAll_29 (by decide) (fun c_29 => ?_) (fun c_29 => ?_)
  · skip
    have k_29 : kp_ = 0 := (g_eq e_kp_ (show (0 : Int32).toInt = 0 from rfl)).mp c_29
    exfalso; omega
  · skip
    have k_29 : ¬ (kp_ = 0) := fun h => c_29 ((g_eq e_kp_ (show (0 : Int32).toInt = 0 from rfl)).mpr h)
    refine lv_aload_n hx hb dX9_handsAll_32 rfl (lv_at hl 1 rfl) ?_
    refine lv_aload_n hx hb dX9_handsAll_33 rfl (lv_at hl 0 rfl) ?_
    refine mg_cursor X w dX9_handsAll_34 ?_
    refine lv_aload_n hx hb dX9_handsAll_37 rfl (lv_at hl 0 rfl) ?_
    refine mg_calendars X w dX9_handsAll_38 ?_
    refine ms_saved (x := (I_25 5)) X w (g_in rfl (by omega)) dX9_handsAll_41 (fun H locs w => ?_)
    rw [g_tn rfl] at w
    refine lv_aload_n hx hb dX9_handsAll_42 rfl (lv_at hl 1 rfl) ?_
    refine lv_aload_n hx hb dX9_handsAll_43 rfl (lv_at hl 0 rfl) ?_
    refine mg_cursor X w dX9_handsAll_44 ?_
    refine lv_iconst (v := 1) hx hb dX9_handsAll_47 (by decide) ?_
    refine lv_iadd hx hb dX9_handsAll_48 ?_
    refine lv_topi (fun x_48 e_48 => ?_)
    have p_48 : x_48.toInt = (((I_25 29).toInt) + 1) := by rw [e_48]; exact t_add rfl (show (1 : Int32).toInt = 1 from rfl) (by omega) (by omega)
    refine lv_aload_n hx hb dX9_handsAll_49 rfl (lv_at hl 0 rfl) ?_
    refine mg_feasts X w dX9_handsAll_50 ?_
    refine ms_saved (x := (I_25 19)) X w (g_in p_48 (by omega)) dX9_handsAll_53 (fun H locs w => ?_)
    rw [g_tn p_48] at w
    exact q_vret (post := (fun n1 σ1 => n1 = n ∧ ∃ I1 R1, σ1 = mS t b σ0 I1 R1 ∧ kpI [29, 31] I I1 ∧ R1 = va_up Rw 27 (bkW (Rw 27) wh.toNat (Rw 2) (Rw 16) (I 5) (I 19)))) X w dX9_handsAll_54 ⟨rfl, _, _, rfl, by refine ⟨(kpI.up (J := [29, 31]) (kpI.up (J := [29, 31]) kpI.rf (by decide)) (by decide)).tr (kpI.tr (J := [29, 31]) z_16.1 z_25.1 (by decide) (by decide)) (by decide) (by decide), ?_⟩; unfold bkW; rw [uu, va_up_self, ER, va_up_self, uu, E5, E19, E29, show (wh + 246).toNat = wh.toNat + 246 by omega, show (wh + 246 + 1).toNat = wh.toNat + 247 by omega]⟩
