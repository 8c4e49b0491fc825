set_option maxHeartbeats 2000000 in
set_option maxRecDepth 100000 in
theorem c_X8_removeFeast (l : Launch) (D : va_G) (t : Nat → ClassId) (b n : Nat) (σ0 : qM) (A : Nat → Int32) (B : Nat → Nat → Int32) (P : Nat → Nat → Option Nat) (hl0 : l.stackTraces = false) (pm : Nat → Nat) (h_p : hiP pm P) (h_n : 0 ≤ (A 19).toInt ∧ (A 19).toInt ≤ 6) (h_0 : okSt σ0 A P 0) : xC l yX8_removeFeast cX8_removeFeast 1 (some .int) 7 1 6 D t b n (cS t b σ0 A B P) [.ref (b + 0)] (fun z n1 σ1 => n1 = n ∧ ∃ A1 P1, σ1 = cS t b σ0 A1 B P1 ∧ (∃ A2 v, keP A P pm 0 A2 P1 ∧ A1 = va_up A2 21 v ∧ v.toInt = (A 21).toInt - 1) ∧ z = A1 21 ∧ 1 ≤ (A 21).toInt) (fun E n1 σ1 => E = "java/lang/IllegalStateException" ∧ σ1 = cS t b σ0 A B P ∧ (A 21).toInt = 0) := by
  refine xC.of (by decide +kernel) (Nat.le_of_ble_eq_true rfl) (fun p e s m args below meth c X hE hno w ls hl => ?_)
  have hx := X.1
  have hb := X.2.1
  have hl : lv_has ls 1 [(0, .ref (b + 0))] := hl
  have hc0 := h_0.2.1
  have hc1 := h_0.1
  refine lv_aload_n hx hb dX8_removeFeast_0 rfl (lv_at hl 0 rfl) ?_
  refine kg_X8_state X w dX8_removeFeast_1 ?_
  refine q_cPV X w (c_X6_feastCount l D t b n σ0 A B P 0 (by decide)) v_X8_221 (k := 7) rfl rfl rfl ⟨Nat.le_of_ble_eq_true rfl, Nat.le_of_ble_eq_true rfl⟩ rfl hl.1 (Nat.le_of_ble_eq_true rfl) dX8_removeFeast_4 ⟨Nat.le_of_ble_eq_true rfl, Nat.le_of_ble_eq_true rfl⟩ (fun r_4 z_4 => ?_)
  have p_4 : r_4.toInt = (A 21).toInt := congrArg Int32.toInt z_4
  refine lv_iconst (v := 1) hx hb dX8_removeFeast_7 (by decide) ?_
  refine lv_icmp_ge (tgt := 21) hx hb dX8_removeFeast_8 (by decide) (fun c_8 => ?_) (fun c_8 => ?_)
  · skip
    have k_8 : 1 ≤ ((A 21).toInt) := (g_le (show (1 : Int32).toInt = 1 from rfl) p_4).mp c_8
    refine lv_aload_n hx hb dX8_removeFeast_21 rfl (lv_at hl 0 rfl) ?_
    refine kg_X8_history X w dX8_removeFeast_22 ?_
    refine lv_aload_n hx hb dX8_removeFeast_25 rfl (lv_at hl 0 rfl) ?_
    refine kg_X8_state X w dX8_removeFeast_26 ?_
    refine kk_cU X w (c_X3_keep l D t b n σ0 A B P pm h_p h_n 0 (by decide) h_0) v_X8_142 (rc := 13) rfl rfl rfl ⟨Nat.le_of_ble_eq_true rfl, Nat.le_of_ble_eq_true rfl⟩ rfl hl.1 (Nat.le_of_ble_eq_true rfl) dX8_removeFeast_29 ⟨Nat.le_of_ble_eq_true rfl, Nat.le_of_ble_eq_true rfl⟩ (fun A_29 P_29 H locs z_29 w => ?_)
    obtain ⟨pm', kp1, kp2, kp3, kp4, kp5, kp6⟩ := id z_29
    refine lv_aload_n hx hb dX8_removeFeast_32 rfl (lv_at hl 0 rfl) ?_
    refine kg_X8_state X w dX8_removeFeast_33 ?_
    have e21 : (A_29 21).toInt = (A 21).toInt := congrArg Int32.toInt (kp2 21 (by omega) (by omega))
    refine kk_cU X w (c_X6_removeLastFeast l D t b n σ0 A_29 B P_29 0 (by decide) (by show 0 ≤ (A_29 21).toInt ∧ (A_29 21).toInt ≤ 8; have := h_0.2.1; rw [e21]; exact this)) v_X8_241 (rc := 7) rfl rfl rfl ⟨Nat.le_of_ble_eq_true rfl, Nat.le_of_ble_eq_true rfl⟩ rfl hl.1 (Nat.le_of_ble_eq_true rfl) dX8_removeFeast_36 ⟨Nat.le_of_ble_eq_true rfl, Nat.le_of_ble_eq_true rfl⟩ (fun A_36 P_36 H locs z_36 w => ?_)
    refine lv_aload_n hx hb dX8_removeFeast_39 rfl (lv_at hl 0 rfl) ?_
    refine kg_X8_state X w dX8_removeFeast_40 ?_
    refine q_cPV X w (c_X6_feastCount l D t b n σ0 A_36 B P_36 0 (by decide)) v_X8_221 (k := 7) rfl rfl rfl ⟨Nat.le_of_ble_eq_true rfl, Nat.le_of_ble_eq_true rfl⟩ rfl hl.1 (Nat.le_of_ble_eq_true rfl) dX8_removeFeast_43 ⟨Nat.le_of_ble_eq_true rfl, Nat.le_of_ble_eq_true rfl⟩ (fun r_43 z_43 => ?_)
    have p_43 : r_43.toInt = (A_36 21).toInt := congrArg Int32.toInt z_43
    refine vx_ret ?_
    refine W.widen (k := 1) (n := 6) (Nat.le_of_ble_eq_true rfl) (Nat.le_of_ble_eq_true rfl) ?_
    exact q_cret (post := fun z n1 σ1 => n1 = n ∧ ∃ A1 P1, σ1 = cS t b σ0 A1 B P1 ∧ (∃ A2 v, keP A P pm 0 A2 P1 ∧ A1 = va_up A2 21 v ∧ v.toInt = (A 21).toInt - 1) ∧ z = A1 21 ∧ 1 ≤ (A 21).toInt) X w dX8_removeFeast_46 rfl ⟨rfl, _, _, rfl, (by obtain ⟨⟨v, ev, hv⟩, eP⟩ := z_36; subst eP; exact ⟨A_29, v, z_29, ev, hv.trans (by show (if 0 < (A_29 21).toInt - 1 then (A_29 21).toInt - 1 else 0) = _; rw [e21]; split <;> omega)⟩), z_43, by omega⟩
  · skip
    have k_8 : ¬ (1 ≤ ((A 21).toInt)) := fun h => c_8 ((g_le (show (1 : Int32).toInt = 1 from rfl) p_4).mpr h)
    exact x_thr_is hl0 X hE hno w (is := 239) (text := "there are no feasts") (by decide +kernel) hl.1 dX8_removeFeast_11 dX8_removeFeast_14 dX8_removeFeast_15 dX8_removeFeast_17 dX8_removeFeast_20 ⟨Nat.le_of_ble_eq_true rfl, Nat.le_of_ble_eq_true rfl⟩ (Nat.le_of_ble_eq_true rfl) ⟨Nat.le_of_ble_eq_true rfl, Nat.le_of_ble_eq_true rfl⟩ ⟨Nat.le_of_ble_eq_true rfl, Nat.le_of_ble_eq_true rfl⟩ (fun _ => ⟨rfl, rfl, (by have y : 0 ≤ (A 21).toInt ∧ (A 21).toInt ≤ 8 := hc0; omega)⟩)

set_option maxHeartbeats 2000000 in
set_option maxRecDepth 100000 in
theorem c_X8_undo (l : Launch) (D : va_G) (t : Nat → ClassId) (b n : Nat) (σ0 : qM) (A : Nat → Int32) (B : Nat → Nat → Int32) (P : Nat → Nat → Option Nat) (hl0 : l.stackTraces = false) (pm : Nat → Nat) (h_p : hiP pm P) (h_n : 0 ≤ (A 19).toInt ∧ (A 19).toInt ≤ 6) (h_0 : okSt σ0 A P 0) (h_k : 1 ≤ (A 19).toInt → okSt σ0 A P (pm ((A 19).toInt - 1).toNat)) : xC l yX8_undo cX8_undo 1 (some .int) 7 1 6 D t b n (cS t b σ0 A B P) [.ref (b + 0)] (fun z n1 σ1 => n1 = n ∧ ∃ A1 P1, σ1 = cS t b σ0 A1 B P1 ∧ ((∀ k, k ≠ 19 → k ≠ 20 → k ≠ 21 → A1 k = A k) ∧ (∀ k, k ≠ 1 → k ≠ 2 → P1 k = P k) ∧ (A1 19).toInt = (A 19).toInt - 1 ∧ cpSt A P (pm ((A 19).toInt - 1).toNat) A1 P1 0) ∧ z = A1 19 ∧ 1 ≤ (A 19).toInt) (fun E n1 σ1 => E = "java/lang/IllegalStateException" ∧ σ1 = cS t b σ0 A B P ∧ (A 19).toInt = 0) := by
  refine xC.of (by decide +kernel) (Nat.le_of_ble_eq_true rfl) (fun p e s m args below meth c X hE hno w ls hl => ?_)
  have hx := X.1
  have hb := X.2.1
  have hl : lv_has ls 1 [(0, .ref (b + 0))] := hl
  have hc0 := h_0.2.1
  have hc1 := h_0.1
  refine lv_aload_n hx hb dX8_undo_0 rfl (lv_at hl 0 rfl) ?_
  refine kg_X8_history X w dX8_undo_1 ?_
  refine q_cPV X w (c_X3_count l D t b n σ0 A B P) v_X8_317 (k := 13) rfl rfl rfl ⟨Nat.le_of_ble_eq_true rfl, Nat.le_of_ble_eq_true rfl⟩ rfl hl.1 (Nat.le_of_ble_eq_true rfl) dX8_undo_4 ⟨Nat.le_of_ble_eq_true rfl, Nat.le_of_ble_eq_true rfl⟩ (fun r_4 z_4 => ?_)
  refine lv_iconst (v := 1) hx hb dX8_undo_7 (by decide) ?_
  refine lv_icmp_ge (tgt := 22) hx hb dX8_undo_8 (by decide) (fun c_8 => ?_) (fun c_8 => ?_)
  · skip
    have k_8 : 1 ≤ ((A 19).toInt) := (g_le (show (1 : Int32).toInt = 1 from rfl) (congrArg Int32.toInt z_4)).mp c_8
    refine lv_aload_n hx hb dX8_undo_22 rfl (lv_at hl 0 rfl) ?_
    refine kg_X8_history X w dX8_undo_23 ?_
    refine lv_aload_n hx hb dX8_undo_26 rfl (lv_at hl 0 rfl) ?_
    refine kg_X8_state X w dX8_undo_27 ?_
    refine kk_cU X w (c_X3_takeBack l D t b n σ0 A B P pm h_p (by omega) 0 (by decide) (h_k (by omega))) v_X8_320 (rc := 13) rfl rfl rfl ⟨Nat.le_of_ble_eq_true rfl, Nat.le_of_ble_eq_true rfl⟩ rfl hl.1 (Nat.le_of_ble_eq_true rfl) dX8_undo_30 ⟨Nat.le_of_ble_eq_true rfl, Nat.le_of_ble_eq_true rfl⟩ (fun A_30 P_30 H locs z_30 w => ?_)
    refine lv_aload_n hx hb dX8_undo_33 rfl (lv_at hl 0 rfl) ?_
    refine kg_X8_history X w dX8_undo_34 ?_
    refine q_cPV X w (c_X3_count l D t b n σ0 A_30 B P_30) v_X8_317 (k := 13) rfl rfl rfl ⟨Nat.le_of_ble_eq_true rfl, Nat.le_of_ble_eq_true rfl⟩ rfl hl.1 (Nat.le_of_ble_eq_true rfl) dX8_undo_37 ⟨Nat.le_of_ble_eq_true rfl, Nat.le_of_ble_eq_true rfl⟩ (fun r_37 z_37 => ?_)
    refine vx_ret ?_
    refine W.widen (k := 1) (n := 6) (Nat.le_of_ble_eq_true rfl) (Nat.le_of_ble_eq_true rfl) ?_
    exact q_cret (post := fun z n1 σ1 => n1 = n ∧ ∃ A1 P1, σ1 = cS t b σ0 A1 B P1 ∧ ((∀ k, k ≠ 19 → k ≠ 20 → k ≠ 21 → A1 k = A k) ∧ (∀ k, k ≠ 1 → k ≠ 2 → P1 k = P k) ∧ (A1 19).toInt = (A 19).toInt - 1 ∧ cpSt A P (pm ((A 19).toInt - 1).toNat) A1 P1 0) ∧ z = A1 19 ∧ 1 ≤ (A 19).toInt) X w dX8_undo_40 rfl ⟨rfl, _, _, rfl, z_30, z_37, by omega⟩
  · skip
    have k_8 : ¬ (1 ≤ ((A 19).toInt)) := fun h => c_8 ((g_le (show (1 : Int32).toInt = 1 from rfl) (congrArg Int32.toInt z_4)).mpr h)
    exact x_thrW_is hl0 X hE hno w (is := 318) (text := "there is no change to take back") (by decide +kernel) hl.1 dX8_undo_11 dX8_undo_14 dX8_undo_15 dX8_undo_18 dX8_undo_21 ⟨Nat.le_of_ble_eq_true rfl, Nat.le_of_ble_eq_true rfl⟩ (Nat.le_of_ble_eq_true rfl) ⟨Nat.le_of_ble_eq_true rfl, Nat.le_of_ble_eq_true rfl⟩ ⟨Nat.le_of_ble_eq_true rfl, Nat.le_of_ble_eq_true rfl⟩ (fun _ => ⟨rfl, rfl, (by omega)⟩)

set_option maxHeartbeats 2000000 in
set_option maxRecDepth 100000 in
theorem c_X8_save (l : Launch) (D : va_G) (t : Nat → ClassId) (b n : Nat) (σ0 : qM) (A : Nat → Int32) (B : Nat → Nat → Int32) (P : Nat → Nat → Option Nat) (hl0 : l.stackTraces = false) (h_0 : okSt σ0 A P 0) : xC l yX8_save cX8_save 1 (some .int) 7 1 6 D t b n (cS t b σ0 A B P) [.ref (b + 0)] (fun z n1 σ1 => n1 = n ∧ ∃ A1 P1, σ1 = cS t b σ0 A1 B P1 ∧ (∃ A2, keSt A P 1 A2 P1 ∧ cpSt A P 0 A2 P1 1 ∧ A1 = va_up A2 0 1) ∧ z = A1 20) (fun E n1 σ1 => E = "java/lang/IllegalStateException" ∧ σ1 = cS t b σ0 A B P ∧ False) := by
  refine xC.of (by decide +kernel) (Nat.le_of_ble_eq_true rfl) (fun p e s m args below meth c X hE hno w ls hl => ?_)
  have hx := X.1
  have hb := X.2.1
  have hl : lv_has ls 1 [(0, .ref (b + 0))] := hl
  have hc0 := h_0.2.1
  have hc1 := h_0.1
  refine lv_aload_n hx hb dX8_save_0 rfl (lv_at hl 0 rfl) ?_
  refine kg_X8_saved X w dX8_save_1 ?_
  refine lv_aload_n hx hb dX8_save_4 rfl (lv_at hl 0 rfl) ?_
  refine kg_X8_state X w dX8_save_5 ?_
  refine kk_cU X w (c_X6_copyFrom l D t b n σ0 A B P 1 (by decide) 0 (by decide) (by decide) h_0) v_X8_323 (rc := 10) rfl rfl rfl ⟨Nat.le_of_ble_eq_true rfl, Nat.le_of_ble_eq_true rfl⟩ rfl hl.1 (Nat.le_of_ble_eq_true rfl) dX8_save_8 ⟨Nat.le_of_ble_eq_true rfl, Nat.le_of_ble_eq_true rfl⟩ (fun A_8 P_8 H locs z_8 w => ?_)
  refine lv_aload_n hx hb dX8_save_11 rfl (lv_at hl 0 rfl) ?_
  refine lv_iconst (v := 1) hx hb dX8_save_12 (by decide) ?_
  refine kp_X8_somethingSaved (v := 1) X w dX8_save_13 (rfl) (rfl) (fun H locs w => ?_)
  refine lv_aload_n hx hb dX8_save_16 rfl (lv_at hl 0 rfl) ?_
  refine kg_X8_state X w dX8_save_17 ?_
  refine q_cPV X w (c_X6_calendarCount l D t b n σ0 (va_up A_8 0 1) B P_8 0 (by decide)) v_X8_115 (k := 7) rfl rfl rfl ⟨Nat.le_of_ble_eq_true rfl, Nat.le_of_ble_eq_true rfl⟩ rfl hl.1 (Nat.le_of_ble_eq_true rfl) dX8_save_20 ⟨Nat.le_of_ble_eq_true rfl, Nat.le_of_ble_eq_true rfl⟩ (fun r_20 z_20 => ?_)
  have p_20 : r_20.toInt = ((va_up A_8 0 1) 20).toInt := congrArg Int32.toInt z_20
  refine vx_ret ?_
  refine W.widen (k := 1) (n := 6) (Nat.le_of_ble_eq_true rfl) (Nat.le_of_ble_eq_true rfl) ?_
  exact q_cret (post := fun z n1 σ1 => n1 = n ∧ ∃ A1 P1, σ1 = cS t b σ0 A1 B P1 ∧ (∃ A2, keSt A P 1 A2 P1 ∧ cpSt A P 0 A2 P1 1 ∧ A1 = va_up A2 0 1) ∧ z = A1 20) X w dX8_save_23 rfl ⟨rfl, _, _, rfl, ⟨A_8, z_8.1, z_8.2, rfl⟩, z_20⟩

set_option maxHeartbeats 2000000 in
set_option maxRecDepth 100000 in
theorem c_X8_restore (l : Launch) (D : va_G) (t : Nat → ClassId) (b n : Nat) (σ0 : qM) (A : Nat → Int32) (B : Nat → Nat → Int32) (P : Nat → Nat → Option Nat) (hl0 : l.stackTraces = false) (pm : Nat → Nat) (h_p : hiP pm P) (h_n : 0 ≤ (A 19).toInt ∧ (A 19).toInt ≤ 6) (h_0 : okSt σ0 A P 0) (h_1 : okSt σ0 A P 1) : xC l yX8_restore cX8_restore 1 (some .int) 7 1 6 D t b n (cS t b σ0 A B P) [.ref (b + 0)] (fun z n1 σ1 => n1 = n ∧ ∃ A1 P1, σ1 = cS t b σ0 A1 B P1 ∧ (∃ A2 P2, keP A P pm 0 A2 P2 ∧ keSt A2 P2 0 A1 P1 ∧ cpSt A2 P2 1 A1 P1 0) ∧ z = A1 20 ∧ A 0 ≠ 0) (fun E n1 σ1 => E = "java/lang/IllegalStateException" ∧ σ1 = cS t b σ0 A B P ∧ A 0 = 0) := by
  refine xC.of (by decide +kernel) (Nat.le_of_ble_eq_true rfl) (fun p e s m args below meth c X hE hno w ls hl => ?_)
  have hx := X.1
  have hb := X.2.1
  have hl : lv_has ls 1 [(0, .ref (b + 0))] := hl
  have hc0 := h_0.2.1
  have hc1 := h_0.1
  refine lv_aload_n hx hb dX8_restore_0 rfl (lv_at hl 0 rfl) ?_
  refine kg_X8_somethingSaved X w dX8_restore_1 ?_
  refine lv_if_ne (tgt := 18) hx hb dX8_restore_4 (by decide) (fun c_4 => ?_) (fun c_4 => ?_)
  · skip
    have k_4 : ¬ (((A 0).toInt) = 0) := fun h => c_4 ((g_eq rfl (show (0 : Int32).toInt = 0 from rfl)).mpr h)
    refine lv_aload_n hx hb dX8_restore_18 rfl (lv_at hl 0 rfl) ?_
    refine kg_X8_history X w dX8_restore_19 ?_
    refine lv_aload_n hx hb dX8_restore_22 rfl (lv_at hl 0 rfl) ?_
    refine kg_X8_state X w dX8_restore_23 ?_
    refine kk_cU X w (c_X3_keep l D t b n σ0 A B P pm h_p h_n 0 (by decide) h_0) v_X8_142 (rc := 13) rfl rfl rfl ⟨Nat.le_of_ble_eq_true rfl, Nat.le_of_ble_eq_true rfl⟩ rfl hl.1 (Nat.le_of_ble_eq_true rfl) dX8_restore_26 ⟨Nat.le_of_ble_eq_true rfl, Nat.le_of_ble_eq_true rfl⟩ (fun A_26 P_26 H locs z_26 w => ?_)
    obtain ⟨pm', kp1, kp2, kp3, kp4, kp5, kp6⟩ := id z_26
    refine lv_aload_n hx hb dX8_restore_29 rfl (lv_at hl 0 rfl) ?_
    refine kg_X8_state X w dX8_restore_30 ?_
    refine lv_aload_n hx hb dX8_restore_33 rfl (lv_at hl 0 rfl) ?_
    refine kg_X8_saved X w dX8_restore_34 ?_
    have hk1 : okSt σ0 A_26 P_26 1 := h_1.cp ⟨kp2 _ (by decide) (by decide), kp2 _ (by decide) (by decide), fun j _ => congrFun (kp3 _ (by decide) (by decide)) j, fun j _ => congrFun (kp3 _ (by decide) (by decide)) j⟩
    refine kk_cU X w (c_X6_copyFrom l D t b n σ0 A_26 B P_26 0 (by decide) 1 (by decide) (by decide) hk1) v_X8_323 (rc := 7) rfl rfl rfl ⟨Nat.le_of_ble_eq_true rfl, Nat.le_of_ble_eq_true rfl⟩ rfl hl.1 (Nat.le_of_ble_eq_true rfl) dX8_restore_37 ⟨Nat.le_of_ble_eq_true rfl, Nat.le_of_ble_eq_true rfl⟩ (fun A_37 P_37 H locs z_37 w => ?_)
    refine lv_aload_n hx hb dX8_restore_40 rfl (lv_at hl 0 rfl) ?_
    refine kg_X8_state X w dX8_restore_41 ?_
    refine q_cPV X w (c_X6_calendarCount l D t b n σ0 A_37 B P_37 0 (by decide)) v_X8_115 (k := 7) rfl rfl rfl ⟨Nat.le_of_ble_eq_true rfl, Nat.le_of_ble_eq_true rfl⟩ rfl hl.1 (Nat.le_of_ble_eq_true rfl) dX8_restore_44 ⟨Nat.le_of_ble_eq_true rfl, Nat.le_of_ble_eq_true rfl⟩ (fun r_44 z_44 => ?_)
    have p_44 : r_44.toInt = (A_37 20).toInt := congrArg Int32.toInt z_44
    refine vx_ret ?_
    refine W.widen (k := 1) (n := 6) (Nat.le_of_ble_eq_true rfl) (Nat.le_of_ble_eq_true rfl) ?_
    exact q_cret (post := fun z n1 σ1 => n1 = n ∧ ∃ A1 P1, σ1 = cS t b σ0 A1 B P1 ∧ (∃ A2 P2, keP A P pm 0 A2 P2 ∧ keSt A2 P2 0 A1 P1 ∧ cpSt A2 P2 1 A1 P1 0) ∧ z = A1 20 ∧ A 0 ≠ 0) X w dX8_restore_47 rfl ⟨rfl, _, _, rfl, ⟨A_26, P_26, z_26, z_37.1, z_37.2⟩, z_44, (by first | exact c_4 | exact fun z => c_4 z)⟩
  · skip
    have k_4 : ((A 0).toInt) = 0 := (g_eq rfl (show (0 : Int32).toInt = 0 from rfl)).mp c_4
    exact x_thrW_is hl0 X hE hno w (is := 330) (text := "nothing was saved") (by decide +kernel) hl.1 dX8_restore_7 dX8_restore_10 dX8_restore_11 dX8_restore_14 dX8_restore_17 ⟨Nat.le_of_ble_eq_true rfl, Nat.le_of_ble_eq_true rfl⟩ (Nat.le_of_ble_eq_true rfl) ⟨Nat.le_of_ble_eq_true rfl, Nat.le_of_ble_eq_true rfl⟩ ⟨Nat.le_of_ble_eq_true rfl, Nat.le_of_ble_eq_true rfl⟩ (fun _ => ⟨rfl, rfl, (by first | exact c_4 | (by_cases zz : A 0 = 0; exact zz; exact absurd zz c_4))⟩)
