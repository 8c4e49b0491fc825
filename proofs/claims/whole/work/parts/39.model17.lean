set_option maxHeartbeats 4000000 in
set_option maxRecDepth 100000 in
theorem c_X9_undo (l : Launch) (D : va_G) (t : Nat → ClassId) (b n : Nat) (σ0 : qM) (I : Nat → Int32) (Rw : Nat → Nat → Int32) (h_1 : 0 ≤ (I 28).toInt ∧ (I 28).toInt ≤ 6) (h_2 : ∀ i : Int, 0 ≤ i → i < (I 28).toInt → okBk (Rw 26) (262 * i).toNat) : mC l yX9_undo cX9_undo 1 (some .int) 5 D t b n σ0 I Rw [.ref (b + 45)] (fun z I1 R1 => kpI [0, 5, 19, 28, 29, 31] I I1 ∧ (I1 0).toInt = (if (I 28).toInt = 0 then 1 else 0) ∧ ((I 28).toInt = 0 → kpI [0] I I1 ∧ R1 = Rw) ∧ ((I 28).toInt ≠ 0 → z = I1 28 ∧ (I1 28).toInt = (I 28).toInt - 1 ∧ kpR [2, 4, 16] Rw R1 ∧ restP (Rw 26) (262 * ((I 28).toInt - 1)).toNat Rw I1 R1)) := by
  refine qC.of (by decide +kernel) (Nat.le_of_ble_eq_true rfl) (fun p e s m args below meth c X w ls hl => ?_)
  have hx := X.1
  have hb := X.2.1
  have hl : lv_has ls 1 [(0, .ref (b + 45))] := hl
  refine lv_aload_n hx hb dX9_undo_0 rfl (lv_at hl 0 rfl) ?_
  refine mg_changes X w dX9_undo_1 ?_
  refine lv_if_ne (tgt := 13) hx hb dX9_undo_4 (by decide) (fun c_4 => ?_) (fun c_4 => ?_)
  · skip
    have k_4 : ¬ (((I 28).toInt) = 0) := fun h => c_4 ((g_eq rfl (show (0 : Int32).toInt = 0 from rfl)).mpr h)
    refine lv_aload_n hx hb dX9_undo_13 rfl (lv_at hl 0 rfl) ?_
    refine lv_iconst (v := 0) hx hb dX9_undo_14 (by decide) ?_
    refine mp_thrown (v := 0) X w dX9_undo_15 (fun H locs w => ?_)
    refine lv_aload_n hx hb dX9_undo_18 rfl (lv_at hl 0 rfl) ?_
    refine lv_dup hx hb dX9_undo_19 rfl ?_
    refine mg_changes X w dX9_undo_20 ?_
    refine lv_iconst (v := 1) hx hb dX9_undo_23 (by decide) ?_
    refine lv_isub hx hb dX9_undo_24 ?_
    refine lv_topi (fun x_24 e_24 => ?_)
    have p_24 : x_24.toInt = (((I 28).toInt) - 1) := by rw [e_24]; exact t_sub (show ((va_up I 0 0) 28).toInt = (I 28).toInt from rfl) (show (1 : Int32).toInt = 1 from rfl) (by omega) (by omega)
    refine mp_changes (v := x_24) X w dX9_undo_25 (fun H locs w => ?_)
    refine lv_aload_n hx hb dX9_undo_28 rfl (lv_at hl 0 rfl) ?_
    refine lv_aload_n hx hb dX9_undo_29 rfl (lv_at hl 0 rfl) ?_
    refine mg_earlier X w dX9_undo_30 ?_
    refine lv_sipush (v := 262) hx hb dX9_undo_33 (by decide) ?_
    refine lv_aload_n hx hb dX9_undo_36 rfl (lv_at hl 0 rfl) ?_
    refine mg_changes X w dX9_undo_37 ?_
    refine q_topE (y := x_24) rfl ?_
    refine lv_imul hx hb dX9_undo_40 ?_
    refine lv_topi (fun x_40 e_40 => ?_)
    have p_40 : x_40.toInt = (262 * (((I 28).toInt) - 1)) := by rw [e_40]; exact t_mul (show (262 : Int32).toInt = 262 from rfl) p_24 (by omega) (by omega)
    refine lv_iconst (v := 0) hx hb dX9_undo_41 (by decide) ?_
    refine mm_cV X w (c_X9_handsAll_26r l D t b n σ0 (va_up (va_up I 0 0) 28 x_24) Rw x_40 0 (262 * (((I 28).toInt) - 1)) 0 p_40 (show (0 : Int32).toInt = 0 from rfl) (by omega) (by rfl) (by have := (h_2 ((I 28).toInt - 1) (by omega) (by omega)).1; omega) (by exact (h_2 ((I 28).toInt - 1) (by omega) (by omega)).2.2.1)) v_X9_352 rfl rfl ⟨Nat.le_of_ble_eq_true rfl, Nat.le_of_ble_eq_true rfl⟩ rfl hl.1 (Nat.le_of_ble_eq_true rfl) dX9_undo_42 ⟨Nat.zero_le _, Nat.zero_le _⟩ (fun I_42 R_42 H locs z_42 w => ?_)
    refine lv_aload_n hx hb dX9_undo_45 rfl (lv_at hl 0 rfl) ?_
    refine mg_changes X w dX9_undo_46 ?_
    exact q_cret (post := (fun z n1 σ1 => n1 = n ∧ ∃ I1 R1, σ1 = mS t b σ0 I1 R1 ∧ kpI [0, 5, 19, 28, 29, 31] I I1 ∧ (I1 0).toInt = (if (I 28).toInt = 0 then 1 else 0) ∧ ((I 28).toInt = 0 → kpI [0] I I1 ∧ R1 = Rw) ∧ ((I 28).toInt ≠ 0 → z = I1 28 ∧ (I1 28).toInt = (I 28).toInt - 1 ∧ kpR [2, 4, 16] Rw R1 ∧ restP (Rw 26) (262 * ((I 28).toInt - 1)).toNat Rw I1 R1))) X w dX9_undo_49 (rfl) ⟨rfl, _, _, rfl, by exact ⟨kpI.tr (J := [0, 5, 19, 28, 29, 31]) (kpI.up (J := [0, 5, 19, 28, 29, 31]) (kpI.up (J := [0, 5, 19, 28, 29, 31]) kpI.rf (by decide)) (by decide)) z_42.1 (by decide) (by decide), (congrArg Int32.toInt (z_42.1 0 (by decide))).trans (by rw [if_neg k_4]; rfl), fun q => absurd q k_4, fun _ => ⟨rfl, (congrArg Int32.toInt (z_42.1 28 (by decide))).trans p_24, z_42.2.1, z_42.2.2⟩⟩⟩
  · skip
    have k_4 : ((I 28).toInt) = 0 := (g_eq rfl (show (0 : Int32).toInt = 0 from rfl)).mp c_4
    refine lv_aload_n hx hb dX9_undo_7 rfl (lv_at hl 0 rfl) ?_
    refine lv_iconst (v := 1) hx hb dX9_undo_8 (by decide) ?_
    refine mm_cCI X w (c_X9_fails l D t b n σ0 I Rw 1 1 (show (1 : Int32).toInt = 1 from rfl)) v_X9_143 rfl rfl ⟨Nat.le_of_ble_eq_true rfl, Nat.le_of_ble_eq_true rfl⟩ rfl hl.1 (Nat.le_of_ble_eq_true rfl) dX9_undo_9 ⟨Nat.zero_le _, Nat.zero_le _⟩ (fun r_9 I_9 H locs z_9 w => ?_)
    exact q_cret (post := (fun z n1 σ1 => n1 = n ∧ ∃ I1 R1, σ1 = mS t b σ0 I1 R1 ∧ kpI [0, 5, 19, 28, 29, 31] I I1 ∧ (I1 0).toInt = (if (I 28).toInt = 0 then 1 else 0) ∧ ((I 28).toInt = 0 → kpI [0] I I1 ∧ R1 = Rw) ∧ ((I 28).toInt ≠ 0 → z = I1 28 ∧ (I1 28).toInt = (I 28).toInt - 1 ∧ kpR [2, 4, 16] Rw R1 ∧ restP (Rw 26) (262 * ((I 28).toInt - 1)).toNat Rw I1 R1))) X w dX9_undo_12 (rfl) ⟨rfl, _, _, rfl, by exact ⟨z_9.1.wk (by decide), z_9.2.1.trans (if_pos k_4).symm, fun _ => ⟨z_9.1, rfl⟩, fun q => absurd k_4 q⟩⟩

set_option maxHeartbeats 4000000 in
set_option maxRecDepth 100000 in
theorem c_X9_restore (l : Launch) (D : va_G) (t : Nat → ClassId) (b n : Nat) (σ0 : qM) (I : Nat → Int32) (Rw : Nat → Nat → Int32) (h_1 : 0 ≤ (I 28).toInt ∧ (I 28).toInt ≤ 6) (h_2 : (I 30).toInt ≠ 0 → okBk (Rw 27) 0) : mC l yX9_restore cX9_restore 1 (some .int) 5 D t b n σ0 I Rw [.ref (b + 45)] (fun z I1 R1 => kpI [0, 5, 19, 28, 29, 31] I I1 ∧ (I1 0).toInt = (if (I 30).toInt = 0 then 1 else 0) ∧ ((I 30).toInt = 0 → kpI [0] I I1 ∧ R1 = Rw) ∧ ((I 30).toInt ≠ 0 → z = I1 5 ∧ (I1 28).toInt = remC (I 28).toInt + 1 ∧ kpR [2, 4, 16, 26] Rw R1 ∧ R1 26 = remR I Rw ∧ restP (Rw 27) 0 Rw I1 R1)) := by
  refine qC.of (by decide +kernel) (Nat.le_of_ble_eq_true rfl) (fun p e s m args below meth c X w ls hl => ?_)
  have hx := X.1
  have hb := X.2.1
  have hl : lv_has ls 1 [(0, .ref (b + 45))] := hl
  refine lv_aload_n hx hb dX9_restore_0 rfl (lv_at hl 0 rfl) ?_
  refine mg_isSaved X w dX9_restore_1 ?_
  refine lv_if_ne (tgt := 13) hx hb dX9_restore_4 (by decide) (fun c_4 => ?_) (fun c_4 => ?_)
  · skip
    have k_4 : ¬ (((I 30).toInt) = 0) := fun h => c_4 ((g_eq rfl (show (0 : Int32).toInt = 0 from rfl)).mpr h)
    refine lv_aload_n hx hb dX9_restore_13 rfl (lv_at hl 0 rfl) ?_
    refine lv_iconst (v := 0) hx hb dX9_restore_14 (by decide) ?_
    refine mp_thrown (v := 0) X w dX9_restore_15 (fun H locs w => ?_)
    refine lv_aload_n hx hb dX9_restore_18 rfl (lv_at hl 0 rfl) ?_
    refine mm_cV X w (c_X9_remembers l D t b n σ0 (va_up I 0 0) Rw (by first | assumption | omega)) v_X9_218 rfl rfl ⟨Nat.le_of_ble_eq_true rfl, Nat.le_of_ble_eq_true rfl⟩ rfl hl.1 (Nat.le_of_ble_eq_true rfl) dX9_restore_19 ⟨Nat.zero_le _, Nat.zero_le _⟩ (fun I_19 R_19 H locs z_19 w => ?_)
    have e27 : R_19 27 = Rw 27 := by rw [z_19.2.2]; exact va_up_ne _ _ (by decide)
    refine lv_aload_n hx hb dX9_restore_22 rfl (lv_at hl 0 rfl) ?_
    refine lv_aload_n hx hb dX9_restore_23 rfl (lv_at hl 0 rfl) ?_
    refine mg_saved X w dX9_restore_24 ?_
    refine lv_iconst (v := 0) hx hb dX9_restore_27 (by decide) ?_
    refine lv_iconst (v := 0) hx hb dX9_restore_28 (by decide) ?_
    refine mm_cV X w (c_X9_handsAll_27r l D t b n σ0 I_19 R_19 0 0 0 0 (show (0 : Int32).toInt = 0 from rfl) (show (0 : Int32).toInt = 0 from rfl) (by omega) (by rfl) (by rw [e27]; have := (h_2 k_4).1; exact (show 0 ≤ (Rw 27 (0 + 246)).toInt ∧ (Rw 27 (0 + 246)).toInt ≤ 6 from ⟨by omega, this.2⟩)) (by rw [e27]; exact (h_2 k_4).2.2.1)) v_X9_352 rfl rfl ⟨Nat.le_of_ble_eq_true rfl, Nat.le_of_ble_eq_true rfl⟩ rfl hl.1 (Nat.le_of_ble_eq_true rfl) dX9_restore_29 ⟨Nat.zero_le _, Nat.zero_le _⟩ (fun I_29 R_29 H locs z_29 w => ?_)
    refine lv_aload_n hx hb dX9_restore_32 rfl (lv_at hl 0 rfl) ?_
    refine mg_calendars X w dX9_restore_33 ?_
    exact q_cret (post := (fun z n1 σ1 => n1 = n ∧ ∃ I1 R1, σ1 = mS t b σ0 I1 R1 ∧ kpI [0, 5, 19, 28, 29, 31] I I1 ∧ (I1 0).toInt = (if (I 30).toInt = 0 then 1 else 0) ∧ ((I 30).toInt = 0 → kpI [0] I I1 ∧ R1 = Rw) ∧ ((I 30).toInt ≠ 0 → z = I1 5 ∧ (I1 28).toInt = remC (I 28).toInt + 1 ∧ kpR [2, 4, 16, 26] Rw R1 ∧ R1 26 = remR I Rw ∧ restP (Rw 27) 0 Rw I1 R1))) X w dX9_restore_36 (rfl) ⟨rfl, _, _, rfl, by have hR : kpR [26] Rw R_19 := (by rw [z_19.2.2]; exact kpR.up kpR.rf (by decide)); have h26 : R_19 26 = remR I Rw := (by rw [z_19.2.2, va_up_self]; rfl); have e2 : R_19 2 = Rw 2 := hR 2 (by decide); have e16 : R_19 16 = Rw 16 := hR 16 (by decide); have e27 : R_19 27 = Rw 27 := hR 27 (by decide); have z := z_29.2; rw [e2, e16, e27, show (0 : Int).toNat = 0 from rfl, Nat.zero_add, Nat.zero_add, Nat.zero_add] at z; exact ⟨kpI.tr (J := [0, 5, 19, 28, 29, 31]) (kpI.up (J := [0, 5, 19, 28, 29, 31]) kpI.rf (by decide)) (kpI.tr (J := [0, 5, 19, 28, 29, 31]) z_19.1 z_29.1 (by decide) (by decide)) (by decide) (by decide), (congrArg Int32.toInt ((z_29.1 0 (by decide)).trans (z_19.1 0 (by decide)))).trans (by rw [if_neg k_4]; rfl), fun q => absurd q k_4, fun _ => ⟨rfl, (congrArg Int32.toInt (z_29.1 28 (by decide))).trans z_19.2.1, hR.tr z.1 (by decide) (by decide), (z.1 26 (by decide)).trans h26, z.2⟩⟩⟩
  · skip
    have k_4 : ((I 30).toInt) = 0 := (g_eq rfl (show (0 : Int32).toInt = 0 from rfl)).mp c_4
    refine lv_aload_n hx hb dX9_restore_7 rfl (lv_at hl 0 rfl) ?_
    refine lv_iconst (v := 1) hx hb dX9_restore_8 (by decide) ?_
    refine mm_cCI X w (c_X9_fails l D t b n σ0 I Rw 1 1 (show (1 : Int32).toInt = 1 from rfl)) v_X9_143 rfl rfl ⟨Nat.le_of_ble_eq_true rfl, Nat.le_of_ble_eq_true rfl⟩ rfl hl.1 (Nat.le_of_ble_eq_true rfl) dX9_restore_9 ⟨Nat.zero_le _, Nat.zero_le _⟩ (fun r_9 I_9 H locs z_9 w => ?_)
    exact q_cret (post := (fun z n1 σ1 => n1 = n ∧ ∃ I1 R1, σ1 = mS t b σ0 I1 R1 ∧ kpI [0, 5, 19, 28, 29, 31] I I1 ∧ (I1 0).toInt = (if (I 30).toInt = 0 then 1 else 0) ∧ ((I 30).toInt = 0 → kpI [0] I I1 ∧ R1 = Rw) ∧ ((I 30).toInt ≠ 0 → z = I1 5 ∧ (I1 28).toInt = remC (I 28).toInt + 1 ∧ kpR [2, 4, 16, 26] Rw R1 ∧ R1 26 = remR I Rw ∧ restP (Rw 27) 0 Rw I1 R1))) X w dX9_restore_12 (rfl) ⟨rfl, _, _, rfl, by exact ⟨z_9.1.wk (by decide), z_9.2.1.trans (if_pos k_4).symm, fun _ => ⟨z_9.1, rfl⟩, fun q => absurd k_4 q⟩⟩

set_option maxHeartbeats 4000000 in
set_option maxRecDepth 100000 in
theorem c_X9_removeFeast (l : Launch) (D : va_G) (t : Nat → ClassId) (b n : Nat) (σ0 : qM) (I : Nat → Int32) (Rw : Nat → Nat → Int32) (h_1 : 0 ≤ (I 28).toInt ∧ (I 28).toInt ≤ 6) (h_2 : 0 ≤ (I 19).toInt ∧ (I 19).toInt ≤ 8) : mC l yX9_removeFeast cX9_removeFeast 1 (some .int) 3 D t b n σ0 I Rw [.ref (b + 45)] (fun z I1 R1 => kpI [0, 19, 28, 29, 31] I I1 ∧ (I1 0).toInt = (if (I 19).toInt = 0 then 1 else 0) ∧ ((I 19).toInt = 0 → kpI [0] I I1 ∧ R1 = Rw) ∧ ((I 19).toInt ≠ 0 → z = I1 19 ∧ (I1 19).toInt = (I 19).toInt - 1 ∧ (I1 28).toInt = remC (I 28).toInt + 1 ∧ R1 = va_up Rw 26 (remR I Rw))) := by
  refine qC.of (by decide +kernel) (Nat.le_of_ble_eq_true rfl) (fun p e s m args below meth c X w ls hl => ?_)
  have hx := X.1
  have hb := X.2.1
  have hl : lv_has ls 1 [(0, .ref (b + 45))] := hl
  refine lv_aload_n hx hb dX9_removeFeast_0 rfl (lv_at hl 0 rfl) ?_
  refine mg_feasts X w dX9_removeFeast_1 ?_
  refine lv_if_ne (tgt := 13) hx hb dX9_removeFeast_4 (by decide) (fun c_4 => ?_) (fun c_4 => ?_)
  · skip
    have k_4 : ¬ (((I 19).toInt) = 0) := fun h => c_4 ((g_eq rfl (show (0 : Int32).toInt = 0 from rfl)).mpr h)
    refine lv_aload_n hx hb dX9_removeFeast_13 rfl (lv_at hl 0 rfl) ?_
    refine lv_iconst (v := 0) hx hb dX9_removeFeast_14 (by decide) ?_
    refine mp_thrown (v := 0) X w dX9_removeFeast_15 (fun H locs w => ?_)
    refine lv_aload_n hx hb dX9_removeFeast_18 rfl (lv_at hl 0 rfl) ?_
    refine mm_cV X w (c_X9_remembers l D t b n σ0 (va_up I 0 0) Rw (by first | assumption | omega)) v_X9_218 rfl rfl ⟨Nat.le_of_ble_eq_true rfl, Nat.le_of_ble_eq_true rfl⟩ rfl hl.1 (Nat.le_of_ble_eq_true rfl) dX9_removeFeast_19 ⟨Nat.zero_le _, Nat.zero_le _⟩ (fun I_19 R_19 H locs z_19 w => ?_)
    refine lv_aload_n hx hb dX9_removeFeast_22 rfl (lv_at hl 0 rfl) ?_
    refine lv_dup hx hb dX9_removeFeast_23 rfl ?_
    refine mg_feasts X w dX9_removeFeast_24 ?_
    refine lv_iconst (v := 1) hx hb dX9_removeFeast_27 (by decide) ?_
    refine lv_isub hx hb dX9_removeFeast_28 ?_
    refine lv_topi (fun x_28 e_28 => ?_)
    have p_28 : x_28.toInt = (((I 19).toInt) - 1) := by rw [e_28]; exact t_sub ((congrArg Int32.toInt (z_19.1 19 (by decide))).trans rfl) (show (1 : Int32).toInt = 1 from rfl) (by omega) (by omega)
    refine mp_feasts (v := x_28) X w dX9_removeFeast_29 (fun H locs w => ?_)
    refine lv_aload_n hx hb dX9_removeFeast_32 rfl (lv_at hl 0 rfl) ?_
    refine mg_feasts X w dX9_removeFeast_33 ?_
    refine q_topE (y := x_28) rfl ?_
    exact q_cret (post := (fun z n1 σ1 => n1 = n ∧ ∃ I1 R1, σ1 = mS t b σ0 I1 R1 ∧ kpI [0, 19, 28, 29, 31] I I1 ∧ (I1 0).toInt = (if (I 19).toInt = 0 then 1 else 0) ∧ ((I 19).toInt = 0 → kpI [0] I I1 ∧ R1 = Rw) ∧ ((I 19).toInt ≠ 0 → z = I1 19 ∧ (I1 19).toInt = (I 19).toInt - 1 ∧ (I1 28).toInt = remC (I 28).toInt + 1 ∧ R1 = va_up Rw 26 (remR I Rw)))) X w dX9_removeFeast_36 (rfl) ⟨rfl, _, _, rfl, by exact ⟨kpI.up (kpI.tr (J := [0, 19, 28, 29, 31]) (kpI.up (J := [0, 19, 28, 29, 31]) kpI.rf (by decide)) z_19.1 (by decide) (by decide)) (by decide), (congrArg Int32.toInt (z_19.1 0 (by decide))).trans (by rw [if_neg k_4]; rfl), fun q => absurd q k_4, fun _ => ⟨rfl, p_28, z_19.2.1, z_19.2.2⟩⟩⟩
  · skip
    have k_4 : ((I 19).toInt) = 0 := (g_eq rfl (show (0 : Int32).toInt = 0 from rfl)).mp c_4
    refine lv_aload_n hx hb dX9_removeFeast_7 rfl (lv_at hl 0 rfl) ?_
    refine lv_iconst (v := 1) hx hb dX9_removeFeast_8 (by decide) ?_
    refine mm_cCI X w (c_X9_fails l D t b n σ0 I Rw 1 1 (show (1 : Int32).toInt = 1 from rfl)) v_X9_143 rfl rfl ⟨Nat.le_of_ble_eq_true rfl, Nat.le_of_ble_eq_true rfl⟩ rfl hl.1 (Nat.le_of_ble_eq_true rfl) dX9_removeFeast_9 ⟨Nat.zero_le _, Nat.zero_le _⟩ (fun r_9 I_9 H locs z_9 w => ?_)
    exact q_cret (post := (fun z n1 σ1 => n1 = n ∧ ∃ I1 R1, σ1 = mS t b σ0 I1 R1 ∧ kpI [0, 19, 28, 29, 31] I I1 ∧ (I1 0).toInt = (if (I 19).toInt = 0 then 1 else 0) ∧ ((I 19).toInt = 0 → kpI [0] I I1 ∧ R1 = Rw) ∧ ((I 19).toInt ≠ 0 → z = I1 19 ∧ (I1 19).toInt = (I 19).toInt - 1 ∧ (I1 28).toInt = remC (I 28).toInt + 1 ∧ R1 = va_up Rw 26 (remR I Rw)))) X w dX9_removeFeast_12 (rfl) ⟨rfl, _, _, rfl, by exact ⟨z_9.1.wk (by decide), z_9.2.1.trans (if_pos k_4).symm, fun _ => ⟨z_9.1, rfl⟩, fun q => absurd k_4 q⟩⟩

set_option maxHeartbeats 4000000 in
set_option maxRecDepth 100000 in
theorem c_X9_addFeast (l : Launch) (D : va_G) (t : Nat → ClassId) (b n : Nat) (σ0 : qM) (I : Nat → Int32) (Rw : Nat → Nat → Int32) (a_rule : Int32) (a_rank : Int32) (a_wh : Int32) (a_fa : Int32) (a_fb : Int32) (a_fc : Int32) (rule : Int) (rank : Int) (wh : Int) (fa : Int) (fb : Int) (fc : Int) (e_rule : a_rule.toInt = rule) (e_rank : a_rank.toInt = rank) (e_wh : a_wh.toInt = wh) (e_fa : a_fa.toInt = fa) (e_fb : a_fb.toInt = fb) (e_fc : a_fc.toInt = fc) (h_1 : 0 ≤ (I 28).toInt ∧ (I 28).toInt ≤ 6) (h_2 : 0 ≤ (I 19).toInt ∧ (I 19).toInt ≤ 8) : mC l yX9_addFeast cX9_addFeast 8 (some .int) 3 D t b n σ0 I Rw [.ref (b + 45), .int a_rule, .int a_rank, .int a_wh, .int a_fa, .int a_fb, .int a_fc] (fun z I1 R1 => kpI [0, 19, 28, 29, 31] I I1 ∧ (I1 0).toInt = (if (0 ≤ rule ∧ rule ≤ 4) ∧ (0 ≤ rank ∧ rank ≤ 9) ∧ ((rule = 0 ∧ (0 ≤ wh ∧ wh < (I 5).toInt) ∧ (1 ≤ fa ∧ fa ≤ 15) ∧ (1 ≤ fb ∧ fb ≤ 60) ∧ fc = 0) ∨ (rule = 1 ∧ (0 ≤ wh ∧ wh < (I 5).toInt) ∧ (1 ≤ fa ∧ fa ≤ 15) ∧ ((1 ≤ fb ∧ fb ≤ 5) ∨ fb = -1) ∧ (0 ≤ fc ∧ fc ≤ 9)) ∨ (rule = 2 ∧ (0 ≤ wh ∧ wh < (I 19).toInt) ∧ (-400 ≤ fa ∧ fa ≤ 400) ∧ fb = 0 ∧ fc = 0) ∨ (rule = 3 ∧ (0 ≤ wh ∧ wh < (I 19).toInt) ∧ (0 ≤ fa ∧ fa < (I 5).toInt) ∧ (0 ≤ fb ∧ fb ≤ 9) ∧ fc = 0) ∨ (rule = 4 ∧ (0 ≤ wh ∧ wh < (I 19).toInt) ∧ (0 ≤ fa ∧ fa < (I 5).toInt) ∧ (1 ≤ fb ∧ fb ≤ 60) ∧ fc = 0)) then (if (I 19).toInt = 8 then 2 else 0) else 1) ∧ ((I1 0).toInt ≠ 0 → kpI [0] I I1 ∧ R1 = Rw) ∧ ((I1 0).toInt = 0 → z = I 19 ∧ (I1 19).toInt = (I 19).toInt + 1 ∧ (I1 28).toInt = remC (I 28).toInt + 1 ∧ R1 = va_up (va_up Rw 26 (remR I Rw)) 16 (feW (Rw 16) (6 * (I 19).toInt).toNat a_rule a_rank a_wh a_fa a_fb a_fc))) := by
  refine qC.of (by decide +kernel) (Nat.le_of_ble_eq_true rfl) (fun p e s m args below meth c X w ls hl => ?_)
  have hx := X.1
  have hb := X.2.1
  have hl : lv_has ls 8 [(0, .ref (b + 45)), (1, .int a_rule), (2, .int a_rank), (3, .int a_wh), (4, .int a_fa), (5, .int a_fb), (6, .int a_fc)] := hl
  refine lv_iload_n hx hb dX9_addFeast_0 rfl (lv_at hl 1 rfl) ?_
  refine lv_iconst (v := 0) hx hb dX9_addFeast_1 (by decide) ?_
  refine lv_iconst (v := 4) hx hb dX9_addFeast_2 (by decide) ?_
  refine q_cPS X w (c_X9_isBetween l a_rule 0 4 rule 0 4 e_rule (show (0 : Int32).toInt = 0 from rfl) (show (4 : Int32).toInt = 4 from rfl) D t b n (mS t b σ0 I Rw)) v_X9_70 rfl ⟨Nat.le_of_ble_eq_true rfl, Nat.le_of_ble_eq_true rfl⟩ rfl hl.1 (Nat.le_of_ble_eq_true rfl) dX9_addFeast_3 ⟨Nat.zero_le _, Nat.zero_le _⟩ (fun r_3 z_3 => ?_)
  refine lv_if_eq (tgt := 34) hx hb dX9_addFeast_6 (by decide) (fun c_6 => ?_) (fun c_6 => ?_)
  · skip
    rw [z_3] at c_6
    have k_6 := bI_f.mp c_6
    refine lv_aload_n hx hb dX9_addFeast_34 rfl (lv_at hl 0 rfl) ?_
    refine lv_iconst (v := 1) hx hb dX9_addFeast_35 (by decide) ?_
    refine mm_cCI X w (c_X9_fails l D t b n σ0 I Rw 1 1 (show (1 : Int32).toInt = 1 from rfl)) v_X9_143 rfl rfl ⟨Nat.le_of_ble_eq_true rfl, Nat.le_of_ble_eq_true rfl⟩ rfl hl.1 (Nat.le_of_ble_eq_true rfl) dX9_addFeast_36 ⟨Nat.zero_le _, Nat.zero_le _⟩ (fun r_36 I_36 H locs z_36 w => ?_)
    exact q_cret (post := (fun z n1 σ1 => n1 = n ∧ ∃ I1 R1, σ1 = mS t b σ0 I1 R1 ∧ kpI [0, 19, 28, 29, 31] I I1 ∧ (I1 0).toInt = (if (0 ≤ rule ∧ rule ≤ 4) ∧ (0 ≤ rank ∧ rank ≤ 9) ∧ ((rule = 0 ∧ (0 ≤ wh ∧ wh < (I 5).toInt) ∧ (1 ≤ fa ∧ fa ≤ 15) ∧ (1 ≤ fb ∧ fb ≤ 60) ∧ fc = 0) ∨ (rule = 1 ∧ (0 ≤ wh ∧ wh < (I 5).toInt) ∧ (1 ≤ fa ∧ fa ≤ 15) ∧ ((1 ≤ fb ∧ fb ≤ 5) ∨ fb = -1) ∧ (0 ≤ fc ∧ fc ≤ 9)) ∨ (rule = 2 ∧ (0 ≤ wh ∧ wh < (I 19).toInt) ∧ (-400 ≤ fa ∧ fa ≤ 400) ∧ fb = 0 ∧ fc = 0) ∨ (rule = 3 ∧ (0 ≤ wh ∧ wh < (I 19).toInt) ∧ (0 ≤ fa ∧ fa < (I 5).toInt) ∧ (0 ≤ fb ∧ fb ≤ 9) ∧ fc = 0) ∨ (rule = 4 ∧ (0 ≤ wh ∧ wh < (I 19).toInt) ∧ (0 ≤ fa ∧ fa < (I 5).toInt) ∧ (1 ≤ fb ∧ fb ≤ 60) ∧ fc = 0)) then (if (I 19).toInt = 8 then 2 else 0) else 1) ∧ ((I1 0).toInt ≠ 0 → kpI [0] I I1 ∧ R1 = Rw) ∧ ((I1 0).toInt = 0 → z = I 19 ∧ (I1 19).toInt = (I 19).toInt + 1 ∧ (I1 28).toInt = remC (I 28).toInt + 1 ∧ R1 = va_up (va_up Rw 26 (remR I Rw)) 16 (feW (Rw 16) (6 * (I 19).toInt).toNat a_rule a_rank a_wh a_fa a_fb a_fc)))) X w dX9_addFeast_39 (rfl) ⟨rfl, _, _, rfl, by exact ⟨z_36.1.wk (by decide), z_36.2.1.trans (if_neg (fun q => k_6 q.1)).symm, fun _ => ⟨z_36.1, rfl⟩, fun q => absurd (z_36.2.1.symm.trans q) (by decide)⟩⟩
  · skip
    rw [z_3] at c_6
    have k_6 := bI_t.mp c_6
    refine lv_iload_n hx hb dX9_addFeast_9 rfl (lv_at hl 2 rfl) ?_
    refine lv_iconst (v := 0) hx hb dX9_addFeast_10 (by decide) ?_
    refine lv_bipush (v := 9) hx hb dX9_addFeast_11 (by decide) ?_
    refine q_cPS X w (c_X9_isBetween l a_rank 0 9 rank 0 9 e_rank (show (0 : Int32).toInt = 0 from rfl) (show (9 : Int32).toInt = 9 from rfl) D t b n (mS t b σ0 I Rw)) v_X9_70 rfl ⟨Nat.le_of_ble_eq_true rfl, Nat.le_of_ble_eq_true rfl⟩ rfl hl.1 (Nat.le_of_ble_eq_true rfl) dX9_addFeast_13 ⟨Nat.zero_le _, Nat.zero_le _⟩ (fun r_13 z_13 => ?_)
    refine lv_if_eq (tgt := 34) hx hb dX9_addFeast_16 (by decide) (fun c_16 => ?_) (fun c_16 => ?_)
    · skip
      rw [z_13] at c_16
      have k_16 := bI_f.mp c_16
      refine lv_aload_n hx hb dX9_addFeast_34 rfl (lv_at hl 0 rfl) ?_
      refine lv_iconst (v := 1) hx hb dX9_addFeast_35 (by decide) ?_
      refine mm_cCI X w (c_X9_fails l D t b n σ0 I Rw 1 1 (show (1 : Int32).toInt = 1 from rfl)) v_X9_143 rfl rfl ⟨Nat.le_of_ble_eq_true rfl, Nat.le_of_ble_eq_true rfl⟩ rfl hl.1 (Nat.le_of_ble_eq_true rfl) dX9_addFeast_36 ⟨Nat.zero_le _, Nat.zero_le _⟩ (fun r_36 I_36 H locs z_36 w => ?_)
      exact q_cret (post := (fun z n1 σ1 => n1 = n ∧ ∃ I1 R1, σ1 = mS t b σ0 I1 R1 ∧ kpI [0, 19, 28, 29, 31] I I1 ∧ (I1 0).toInt = (if (0 ≤ rule ∧ rule ≤ 4) ∧ (0 ≤ rank ∧ rank ≤ 9) ∧ ((rule = 0 ∧ (0 ≤ wh ∧ wh < (I 5).toInt) ∧ (1 ≤ fa ∧ fa ≤ 15) ∧ (1 ≤ fb ∧ fb ≤ 60) ∧ fc = 0) ∨ (rule = 1 ∧ (0 ≤ wh ∧ wh < (I 5).toInt) ∧ (1 ≤ fa ∧ fa ≤ 15) ∧ ((1 ≤ fb ∧ fb ≤ 5) ∨ fb = -1) ∧ (0 ≤ fc ∧ fc ≤ 9)) ∨ (rule = 2 ∧ (0 ≤ wh ∧ wh < (I 19).toInt) ∧ (-400 ≤ fa ∧ fa ≤ 400) ∧ fb = 0 ∧ fc = 0) ∨ (rule = 3 ∧ (0 ≤ wh ∧ wh < (I 19).toInt) ∧ (0 ≤ fa ∧ fa < (I 5).toInt) ∧ (0 ≤ fb ∧ fb ≤ 9) ∧ fc = 0) ∨ (rule = 4 ∧ (0 ≤ wh ∧ wh < (I 19).toInt) ∧ (0 ≤ fa ∧ fa < (I 5).toInt) ∧ (1 ≤ fb ∧ fb ≤ 60) ∧ fc = 0)) then (if (I 19).toInt = 8 then 2 else 0) else 1) ∧ ((I1 0).toInt ≠ 0 → kpI [0] I I1 ∧ R1 = Rw) ∧ ((I1 0).toInt = 0 → z = I 19 ∧ (I1 19).toInt = (I 19).toInt + 1 ∧ (I1 28).toInt = remC (I 28).toInt + 1 ∧ R1 = va_up (va_up Rw 26 (remR I Rw)) 16 (feW (Rw 16) (6 * (I 19).toInt).toNat a_rule a_rank a_wh a_fa a_fb a_fc)))) X w dX9_addFeast_39 (rfl) ⟨rfl, _, _, rfl, by exact ⟨z_36.1.wk (by decide), z_36.2.1.trans (if_neg (fun q => k_16 q.2.1)).symm, fun _ => ⟨z_36.1, rfl⟩, fun q => absurd (z_36.2.1.symm.trans q) (by decide)⟩⟩
    · skip
      rw [z_13] at c_16
      have k_16 := bI_t.mp c_16
      refine lv_aload_n hx hb dX9_addFeast_19 rfl (lv_at hl 0 rfl) ?_
      refine lv_iload_n hx hb dX9_addFeast_20 rfl (lv_at hl 1 rfl) ?_
      refine lv_iload_n hx hb dX9_addFeast_21 rfl (lv_at hl 3 rfl) ?_
      refine lv_iload hx hb dX9_addFeast_22 (lv_at hl 4 rfl) ?_
      refine lv_iload hx hb dX9_addFeast_24 (lv_at hl 5 rfl) ?_
      refine lv_iload hx hb dX9_addFeast_26 (lv_at hl 6 rfl) ?_
      refine q_cPV X w (c_X9_canBeFeast l D t b n σ0 I Rw a_rule a_wh a_fa a_fb a_fc rule wh fa fb fc e_rule e_wh e_fa e_fb e_fc (by first | assumption | omega)) v_X9_284 (k := 45) rfl rfl rfl ⟨Nat.le_of_ble_eq_true rfl, Nat.le_of_ble_eq_true rfl⟩ rfl hl.1 (Nat.le_of_ble_eq_true rfl) dX9_addFeast_28 ⟨Nat.zero_le _, Nat.zero_le _⟩ (fun r_28 z_28 => ?_)
      refine lv_if_ne (tgt := 40) hx hb dX9_addFeast_31 (by decide) (fun c_31 => ?_) (fun c_31 => ?_)
      · skip
        rw [z_28] at c_31
        have k_31 := bI_t.mp c_31
        refine lv_aload_n hx hb dX9_addFeast_40 rfl (lv_at hl 0 rfl) ?_
        refine mg_feasts X w dX9_addFeast_41 ?_
        refine lv_bipush (v := 8) hx hb dX9_addFeast_44 (by decide) ?_
        refine lv_icmp_ne (tgt := 55) hx hb dX9_addFeast_46 (by decide) (fun c_46 => ?_) (fun c_46 => ?_)
        · skip
          have k_46 : ¬ (((I 19).toInt) = 8) := fun h => c_46 ((g_eq rfl (show (8 : Int32).toInt = 8 from rfl)).mpr h)
          refine lv_aload_n hx hb dX9_addFeast_55 rfl (lv_at hl 0 rfl) ?_
          refine lv_iconst (v := 0) hx hb dX9_addFeast_56 (by decide) ?_
          refine mp_thrown (v := 0) X w dX9_addFeast_57 (fun H locs w => ?_)
          refine lv_aload_n hx hb dX9_addFeast_60 rfl (lv_at hl 0 rfl) ?_
          refine mm_cV X w (c_X9_remembers l D t b n σ0 (va_up I 0 0) Rw (by first | assumption | omega)) v_X9_218 rfl rfl ⟨Nat.le_of_ble_eq_true rfl, Nat.le_of_ble_eq_true rfl⟩ rfl hl.1 (Nat.le_of_ble_eq_true rfl) dX9_addFeast_61 ⟨Nat.zero_le _, Nat.zero_le _⟩ (fun I_61 R_61 H locs z_61 w => ?_)
          refine lv_bipush (v := 6) hx hb dX9_addFeast_64 (by decide) ?_
          refine lv_aload_n hx hb dX9_addFeast_66 rfl (lv_at hl 0 rfl) ?_
          refine mg_feasts X w dX9_addFeast_67 ?_
          refine lv_imul hx hb dX9_addFeast_70 ?_
          refine lv_topi (fun x_70 e_70 => ?_)
          have p_70 : x_70.toInt = (6 * ((I 19).toInt)) := by rw [e_70]; exact t_mul (show (6 : Int32).toInt = 6 from rfl) ((congrArg Int32.toInt (z_61.1 19 (by decide))).trans rfl) (by omega) (by omega)
          refine lv_istore (lv' := [(7, .int x_70), (0, .ref (b + 45)), (1, .int a_rule), (2, .int a_rank), (3, .int a_wh), (4, .int a_fa), (5, .int a_fb), (6, .int a_fc)]) hx hb dX9_addFeast_71 hl (by decide) rfl (fun ls hl => ?_)
          refine lv_aload_n hx hb dX9_addFeast_73 rfl (lv_at hl 1 rfl) ?_
          refine mg_feast X w dX9_addFeast_74 ?_
          refine lv_iload hx hb dX9_addFeast_77 (lv_at hl 0 rfl) ?_
          refine lv_iload_n hx hb dX9_addFeast_79 rfl (lv_at hl 2 rfl) ?_
          refine ms_feast (x := a_rule) X w (g_in p_70 (by omega)) dX9_addFeast_80 (fun H locs w => ?_)
          rw [g_tn p_70] at w
          refine lv_aload_n hx hb dX9_addFeast_81 rfl (lv_at hl 1 rfl) ?_
          refine mg_feast X w dX9_addFeast_82 ?_
          refine lv_iload hx hb dX9_addFeast_85 (lv_at hl 0 rfl) ?_
          refine lv_iconst (v := 1) hx hb dX9_addFeast_87 (by decide) ?_
          refine lv_iadd hx hb dX9_addFeast_88 ?_
          refine lv_topi (fun x_88 e_88 => ?_)
          have p_88 : x_88.toInt = ((6 * ((I 19).toInt)) + 1) := by rw [e_88]; exact t_add p_70 (show (1 : Int32).toInt = 1 from rfl) (by omega) (by omega)
          refine lv_iload_n hx hb dX9_addFeast_89 rfl (lv_at hl 3 rfl) ?_
          refine ms_feast (x := a_rank) X w (g_in p_88 (by omega)) dX9_addFeast_90 (fun H locs w => ?_)
          rw [g_tn p_88] at w
          refine lv_aload_n hx hb dX9_addFeast_91 rfl (lv_at hl 1 rfl) ?_
          refine mg_feast X w dX9_addFeast_92 ?_
          refine lv_iload hx hb dX9_addFeast_95 (lv_at hl 0 rfl) ?_
          refine lv_iconst (v := 2) hx hb dX9_addFeast_97 (by decide) ?_
          refine lv_iadd hx hb dX9_addFeast_98 ?_
          refine lv_topi (fun x_98 e_98 => ?_)
          have p_98 : x_98.toInt = ((6 * ((I 19).toInt)) + 2) := by rw [e_98]; exact t_add p_70 (show (2 : Int32).toInt = 2 from rfl) (by omega) (by omega)
          refine lv_iload_n hx hb dX9_addFeast_99 rfl (lv_at hl 4 rfl) ?_
          refine ms_feast (x := a_wh) X w (g_in p_98 (by omega)) dX9_addFeast_100 (fun H locs w => ?_)
          rw [g_tn p_98] at w
          refine lv_aload_n hx hb dX9_addFeast_101 rfl (lv_at hl 1 rfl) ?_
          refine mg_feast X w dX9_addFeast_102 ?_
          refine lv_iload hx hb dX9_addFeast_105 (lv_at hl 0 rfl) ?_
          refine lv_iconst (v := 3) hx hb dX9_addFeast_107 (by decide) ?_
          refine lv_iadd hx hb dX9_addFeast_108 ?_
          refine lv_topi (fun x_108 e_108 => ?_)
          have p_108 : x_108.toInt = ((6 * ((I 19).toInt)) + 3) := by rw [e_108]; exact t_add p_70 (show (3 : Int32).toInt = 3 from rfl) (by omega) (by omega)
          refine lv_iload hx hb dX9_addFeast_109 (lv_at hl 5 rfl) ?_
          refine ms_feast (x := a_fa) X w (g_in p_108 (by omega)) dX9_addFeast_111 (fun H locs w => ?_)
          rw [g_tn p_108] at w
          refine lv_aload_n hx hb dX9_addFeast_112 rfl (lv_at hl 1 rfl) ?_
          refine mg_feast X w dX9_addFeast_113 ?_
          refine lv_iload hx hb dX9_addFeast_116 (lv_at hl 0 rfl) ?_
          refine lv_iconst (v := 4) hx hb dX9_addFeast_118 (by decide) ?_
          refine lv_iadd hx hb dX9_addFeast_119 ?_
          refine lv_topi (fun x_119 e_119 => ?_)
          have p_119 : x_119.toInt = ((6 * ((I 19).toInt)) + 4) := by rw [e_119]; exact t_add p_70 (show (4 : Int32).toInt = 4 from rfl) (by omega) (by omega)
          refine lv_iload hx hb dX9_addFeast_120 (lv_at hl 6 rfl) ?_
          refine ms_feast (x := a_fb) X w (g_in p_119 (by omega)) dX9_addFeast_122 (fun H locs w => ?_)
          rw [g_tn p_119] at w
          refine lv_aload_n hx hb dX9_addFeast_123 rfl (lv_at hl 1 rfl) ?_
          refine mg_feast X w dX9_addFeast_124 ?_
          refine lv_iload hx hb dX9_addFeast_127 (lv_at hl 0 rfl) ?_
          refine lv_iconst (v := 5) hx hb dX9_addFeast_129 (by decide) ?_
          refine lv_iadd hx hb dX9_addFeast_130 ?_
          refine lv_topi (fun x_130 e_130 => ?_)
          have p_130 : x_130.toInt = ((6 * ((I 19).toInt)) + 5) := by rw [e_130]; exact t_add p_70 (show (5 : Int32).toInt = 5 from rfl) (by omega) (by omega)
          refine lv_iload hx hb dX9_addFeast_131 (lv_at hl 7 rfl) ?_
          refine ms_feast (x := a_fc) X w (g_in p_130 (by omega)) dX9_addFeast_133 (fun H locs w => ?_)
          rw [g_tn p_130] at w
          refine lv_aload_n hx hb dX9_addFeast_134 rfl (lv_at hl 1 rfl) ?_
          refine lv_dup hx hb dX9_addFeast_135 rfl ?_
          refine mg_feasts X w dX9_addFeast_136 ?_
          refine lv_iconst (v := 1) hx hb dX9_addFeast_139 (by decide) ?_
          refine lv_iadd hx hb dX9_addFeast_140 ?_
          refine lv_topi (fun x_140 e_140 => ?_)
          have p_140 : x_140.toInt = (((I 19).toInt) + 1) := by rw [e_140]; exact t_add ((congrArg Int32.toInt (z_61.1 19 (by decide))).trans rfl) (show (1 : Int32).toInt = 1 from rfl) (by omega) (by omega)
          refine mp_feasts (v := x_140) X w dX9_addFeast_141 (fun H locs w => ?_)
          refine lv_aload_n hx hb dX9_addFeast_144 rfl (lv_at hl 1 rfl) ?_
          refine mg_feasts X w dX9_addFeast_145 ?_
          refine q_topE (y := x_140) rfl ?_
          refine lv_iconst (v := 1) hx hb dX9_addFeast_148 (by decide) ?_
          refine lv_isub hx hb dX9_addFeast_149 ?_
          refine lv_topi (fun x_149 e_149 => ?_)
          have p_149 : x_149.toInt = ((((I 19).toInt) + 1) - 1) := by rw [e_149]; exact t_sub p_140 (show (1 : Int32).toInt = 1 from rfl) (by omega) (by omega)
          exact q_cret (post := (fun z n1 σ1 => n1 = n ∧ ∃ I1 R1, σ1 = mS t b σ0 I1 R1 ∧ kpI [0, 19, 28, 29, 31] I I1 ∧ (I1 0).toInt = (if (0 ≤ rule ∧ rule ≤ 4) ∧ (0 ≤ rank ∧ rank ≤ 9) ∧ ((rule = 0 ∧ (0 ≤ wh ∧ wh < (I 5).toInt) ∧ (1 ≤ fa ∧ fa ≤ 15) ∧ (1 ≤ fb ∧ fb ≤ 60) ∧ fc = 0) ∨ (rule = 1 ∧ (0 ≤ wh ∧ wh < (I 5).toInt) ∧ (1 ≤ fa ∧ fa ≤ 15) ∧ ((1 ≤ fb ∧ fb ≤ 5) ∨ fb = -1) ∧ (0 ≤ fc ∧ fc ≤ 9)) ∨ (rule = 2 ∧ (0 ≤ wh ∧ wh < (I 19).toInt) ∧ (-400 ≤ fa ∧ fa ≤ 400) ∧ fb = 0 ∧ fc = 0) ∨ (rule = 3 ∧ (0 ≤ wh ∧ wh < (I 19).toInt) ∧ (0 ≤ fa ∧ fa < (I 5).toInt) ∧ (0 ≤ fb ∧ fb ≤ 9) ∧ fc = 0) ∨ (rule = 4 ∧ (0 ≤ wh ∧ wh < (I 19).toInt) ∧ (0 ≤ fa ∧ fa < (I 5).toInt) ∧ (1 ≤ fb ∧ fb ≤ 60) ∧ fc = 0)) then (if (I 19).toInt = 8 then 2 else 0) else 1) ∧ ((I1 0).toInt ≠ 0 → kpI [0] I I1 ∧ R1 = Rw) ∧ ((I1 0).toInt = 0 → z = I 19 ∧ (I1 19).toInt = (I 19).toInt + 1 ∧ (I1 28).toInt = remC (I 28).toInt + 1 ∧ R1 = va_up (va_up Rw 26 (remR I Rw)) 16 (feW (Rw 16) (6 * (I 19).toInt).toNat a_rule a_rank a_wh a_fa a_fb a_fc)))) X w dX9_addFeast_150 (rfl) ⟨rfl, _, _, rfl, by have hc : (I_61 0).toInt = 0 := congrArg Int32.toInt (z_61.1 0 (by decide)); have h16 : R_61 16 = Rw 16 := (by rw [z_61.2.2]; exact va_up_ne _ _ (by decide)); refine ⟨kpI.up (kpI.tr (J := [0, 19, 28, 29, 31]) (kpI.up (J := [0, 19, 28, 29, 31]) kpI.rf (by decide)) z_61.1 (by decide) (by decide)) (by decide), hc.trans (by rw [if_pos ⟨k_6, k_16, k_31⟩, if_neg k_46]), fun q => absurd hc q, fun _ => ⟨Int32.toInt_inj.mp (by rw [p_149]; omega), p_140, z_61.2.1, ?_⟩⟩; unfold feW; simp only [uu, va_up_self]; rw [h16, z_61.2.2, show (6 * (I 19).toInt + 1).toNat = (6 * (I 19).toInt).toNat + 1 by omega, show (6 * (I 19).toInt + 2).toNat = (6 * (I 19).toInt).toNat + 2 by omega, show (6 * (I 19).toInt + 3).toNat = (6 * (I 19).toInt).toNat + 3 by omega, show (6 * (I 19).toInt + 4).toNat = (6 * (I 19).toInt).toNat + 4 by omega, show (6 * (I 19).toInt + 5).toNat = (6 * (I 19).toInt).toNat + 5 by omega]; rfl⟩
        · skip
          have k_46 : ((I 19).toInt) = 8 := (g_eq rfl (show (8 : Int32).toInt = 8 from rfl)).mp c_46
          refine lv_aload_n hx hb dX9_addFeast_49 rfl (lv_at hl 0 rfl) ?_
          refine lv_iconst (v := 2) hx hb dX9_addFeast_50 (by decide) ?_
          refine mm_cCI X w (c_X9_fails l D t b n σ0 I Rw 2 2 (show (2 : Int32).toInt = 2 from rfl)) v_X9_143 rfl rfl ⟨Nat.le_of_ble_eq_true rfl, Nat.le_of_ble_eq_true rfl⟩ rfl hl.1 (Nat.le_of_ble_eq_true rfl) dX9_addFeast_51 ⟨Nat.zero_le _, Nat.zero_le _⟩ (fun r_51 I_51 H locs z_51 w => ?_)
          exact q_cret (post := (fun z n1 σ1 => n1 = n ∧ ∃ I1 R1, σ1 = mS t b σ0 I1 R1 ∧ kpI [0, 19, 28, 29, 31] I I1 ∧ (I1 0).toInt = (if (0 ≤ rule ∧ rule ≤ 4) ∧ (0 ≤ rank ∧ rank ≤ 9) ∧ ((rule = 0 ∧ (0 ≤ wh ∧ wh < (I 5).toInt) ∧ (1 ≤ fa ∧ fa ≤ 15) ∧ (1 ≤ fb ∧ fb ≤ 60) ∧ fc = 0) ∨ (rule = 1 ∧ (0 ≤ wh ∧ wh < (I 5).toInt) ∧ (1 ≤ fa ∧ fa ≤ 15) ∧ ((1 ≤ fb ∧ fb ≤ 5) ∨ fb = -1) ∧ (0 ≤ fc ∧ fc ≤ 9)) ∨ (rule = 2 ∧ (0 ≤ wh ∧ wh < (I 19).toInt) ∧ (-400 ≤ fa ∧ fa ≤ 400) ∧ fb = 0 ∧ fc = 0) ∨ (rule = 3 ∧ (0 ≤ wh ∧ wh < (I 19).toInt) ∧ (0 ≤ fa ∧ fa < (I 5).toInt) ∧ (0 ≤ fb ∧ fb ≤ 9) ∧ fc = 0) ∨ (rule = 4 ∧ (0 ≤ wh ∧ wh < (I 19).toInt) ∧ (0 ≤ fa ∧ fa < (I 5).toInt) ∧ (1 ≤ fb ∧ fb ≤ 60) ∧ fc = 0)) then (if (I 19).toInt = 8 then 2 else 0) else 1) ∧ ((I1 0).toInt ≠ 0 → kpI [0] I I1 ∧ R1 = Rw) ∧ ((I1 0).toInt = 0 → z = I 19 ∧ (I1 19).toInt = (I 19).toInt + 1 ∧ (I1 28).toInt = remC (I 28).toInt + 1 ∧ R1 = va_up (va_up Rw 26 (remR I Rw)) 16 (feW (Rw 16) (6 * (I 19).toInt).toNat a_rule a_rank a_wh a_fa a_fb a_fc)))) X w dX9_addFeast_54 (rfl) ⟨rfl, _, _, rfl, by exact ⟨z_51.1.wk (by decide), z_51.2.1.trans (by rw [if_pos ⟨k_6, k_16, k_31⟩, if_pos k_46]), fun _ => ⟨z_51.1, rfl⟩, fun q => absurd (z_51.2.1.symm.trans q) (by decide)⟩⟩
      · skip
        rw [z_28] at c_31
        have k_31 := bI_f.mp c_31
        refine lv_aload_n hx hb dX9_addFeast_34 rfl (lv_at hl 0 rfl) ?_
        refine lv_iconst (v := 1) hx hb dX9_addFeast_35 (by decide) ?_
        refine mm_cCI X w (c_X9_fails l D t b n σ0 I Rw 1 1 (show (1 : Int32).toInt = 1 from rfl)) v_X9_143 rfl rfl ⟨Nat.le_of_ble_eq_true rfl, Nat.le_of_ble_eq_true rfl⟩ rfl hl.1 (Nat.le_of_ble_eq_true rfl) dX9_addFeast_36 ⟨Nat.zero_le _, Nat.zero_le _⟩ (fun r_36 I_36 H locs z_36 w => ?_)
        exact q_cret (post := (fun z n1 σ1 => n1 = n ∧ ∃ I1 R1, σ1 = mS t b σ0 I1 R1 ∧ kpI [0, 19, 28, 29, 31] I I1 ∧ (I1 0).toInt = (if (0 ≤ rule ∧ rule ≤ 4) ∧ (0 ≤ rank ∧ rank ≤ 9) ∧ ((rule = 0 ∧ (0 ≤ wh ∧ wh < (I 5).toInt) ∧ (1 ≤ fa ∧ fa ≤ 15) ∧ (1 ≤ fb ∧ fb ≤ 60) ∧ fc = 0) ∨ (rule = 1 ∧ (0 ≤ wh ∧ wh < (I 5).toInt) ∧ (1 ≤ fa ∧ fa ≤ 15) ∧ ((1 ≤ fb ∧ fb ≤ 5) ∨ fb = -1) ∧ (0 ≤ fc ∧ fc ≤ 9)) ∨ (rule = 2 ∧ (0 ≤ wh ∧ wh < (I 19).toInt) ∧ (-400 ≤ fa ∧ fa ≤ 400) ∧ fb = 0 ∧ fc = 0) ∨ (rule = 3 ∧ (0 ≤ wh ∧ wh < (I 19).toInt) ∧ (0 ≤ fa ∧ fa < (I 5).toInt) ∧ (0 ≤ fb ∧ fb ≤ 9) ∧ fc = 0) ∨ (rule = 4 ∧ (0 ≤ wh ∧ wh < (I 19).toInt) ∧ (0 ≤ fa ∧ fa < (I 5).toInt) ∧ (1 ≤ fb ∧ fb ≤ 60) ∧ fc = 0)) then (if (I 19).toInt = 8 then 2 else 0) else 1) ∧ ((I1 0).toInt ≠ 0 → kpI [0] I I1 ∧ R1 = Rw) ∧ ((I1 0).toInt = 0 → z = I 19 ∧ (I1 19).toInt = (I 19).toInt + 1 ∧ (I1 28).toInt = remC (I 28).toInt + 1 ∧ R1 = va_up (va_up Rw 26 (remR I Rw)) 16 (feW (Rw 16) (6 * (I 19).toInt).toNat a_rule a_rank a_wh a_fa a_fb a_fc)))) X w dX9_addFeast_39 (rfl) ⟨rfl, _, _, rfl, by exact ⟨z_36.1.wk (by decide), z_36.2.1.trans (if_neg (fun q => k_31 q.2.2)).symm, fun _ => ⟨z_36.1, rfl⟩, fun q => absurd (z_36.2.1.symm.trans q) (by decide)⟩⟩
