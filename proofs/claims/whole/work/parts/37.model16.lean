set_option maxHeartbeats 4000000 in
set_option maxRecDepth 100000 in
theorem c_X9_handsAll_26r (l : Launch) (D : va_G) (t : Nat → ClassId) (b n : Nat) (σ0 : qM) (I : Nat → Int32) (Rw : Nat → Nat → Int32) (a_wh : Int32) (a_kp_ : Int32) (wh : Int) (kp_ : Int) (e_wh : a_wh.toInt = wh) (e_kp_ : a_kp_.toInt = kp_) (h_1 : 0 ≤ wh ∧ wh + 262 ≤ 1572) (h_2 : kp_ = 0) (h_3 : 0 ≤ ((Rw 26) (wh.toNat + 246)).toInt ∧ ((Rw 26) (wh.toNat + 246)).toInt ≤ 6) (h_4 : ∀ c : Int, 0 ≤ c → c < ((Rw 26) (wh.toNat + 246)).toInt → okRow (bkRow (Rw 26) wh.toNat c)) : mV l yX9_handsAll cX9_handsAll 5 4 D t b n σ0 I Rw [.ref (b + 45), .ref (b + 58), .int a_wh, .int a_kp_] (fun I1 R1 => kpI [5, 19, 29, 31] I I1 ∧ kpR [2, 4, 16] Rw R1 ∧ R1 2 = rdr (Rw 2) (Rw 26) wh.toNat 198 ∧ R1 16 = rdr (Rw 16) (Rw 26) (wh.toNat + 198) 48 ∧ I1 5 = (Rw 26) (wh.toNat + 246) ∧ I1 19 = (Rw 26) (wh.toNat + 247) ∧ ∀ c : Int, 0 ≤ c → c < ((Rw 26) (wh.toNat + 246)).toInt → okF R1 c) := by
  refine qV.of (by decide +kernel) (Nat.le_of_ble_eq_true rfl) (fun p e s m args below meth c X w _ ls hl => ?_)
  have hx := X.1
  have hb := X.2.1
  have hl : lv_has ls 5 [(0, .ref (b + 45)), (1, .ref (b + 58)), (2, .int a_wh), (3, .int a_kp_)] := hl
  refine lv_aload_n hx hb dX9_handsAll_0 rfl (lv_at hl 0 rfl) ?_
  refine lv_iload_n hx hb dX9_handsAll_1 rfl (lv_at hl 3 rfl) ?_
  refine mp_isKeeping (v := a_kp_) X w dX9_handsAll_2 (by rw [i_eq0 e_kp_ h_2]; rfl) (by rw [i_eq0 e_kp_ h_2]; rfl) (fun H locs w => ?_)
  refine lv_aload_n hx hb dX9_handsAll_5 rfl (lv_at hl 0 rfl) ?_
  refine lv_iload_n hx hb dX9_handsAll_6 rfl (lv_at hl 2 rfl) ?_
  refine mp_cursor (v := a_wh) X w dX9_handsAll_7 (fun H locs w => ?_)
  refine lv_aload_n hx hb dX9_handsAll_10 rfl (lv_at hl 0 rfl) ?_
  refine lv_aload_n hx hb dX9_handsAll_11 rfl (lv_at hl 0 rfl) ?_
  refine mg_calendar X w dX9_handsAll_12 ?_
  refine lv_aload_n hx hb dX9_handsAll_15 rfl (lv_at hl 1 rfl) ?_
  refine mm_cV X w (c_X9_hands_2_26 l D t b n σ0 (va_up (va_up I 31 a_kp_) 29 a_wh) Rw wh false (by exact e_wh) (by omega) (by exact (show (va_up (va_up I 31 a_kp_) 29 a_wh) 31 = bI false from i_eq0 e_kp_ h_2))) v_X9_345 rfl rfl ⟨Nat.le_of_ble_eq_true rfl, Nat.le_of_ble_eq_true rfl⟩ rfl hl.1 (Nat.le_of_ble_eq_true rfl) dX9_handsAll_16 ⟨Nat.zero_le _, Nat.zero_le _⟩ (fun I_16 R_16 H locs z_16 w => ?_)
  refine lv_aload_n hx hb dX9_handsAll_19 rfl (lv_at hl 0 rfl) ?_
  refine lv_aload_n hx hb dX9_handsAll_20 rfl (lv_at hl 0 rfl) ?_
  refine mg_feast X w dX9_handsAll_21 ?_
  refine lv_aload_n hx hb dX9_handsAll_24 rfl (lv_at hl 1 rfl) ?_
  refine mm_cV X w (c_X9_hands_16_26 l D t b n σ0 I_16 R_16 (wh + 198) false (by exact z_16.2.1) (by omega) (by exact (z_16.1 31 (by decide)).trans (show (va_up (va_up I 31 a_kp_) 29 a_wh) 31 = bI false from i_eq0 e_kp_ h_2))) v_X9_345 rfl rfl ⟨Nat.le_of_ble_eq_true rfl, Nat.le_of_ble_eq_true rfl⟩ rfl hl.1 (Nat.le_of_ble_eq_true rfl) dX9_handsAll_25 ⟨Nat.zero_le _, Nat.zero_le _⟩ (fun I_25 R_25 H locs z_25 w => ?_)
  have E29 : (I_25 29).toInt = wh + 246 := z_25.2.1.trans (by omega)
  have ER : R_25 = va_up (va_up Rw 2 (rdr (Rw 2) (Rw 26) wh.toNat 198)) 16 (rdr (Rw 16) (Rw 26) (wh.toNat + 198) 48) := by rw [z_25.2.2.2 rfl, z_16.2.2.2 rfl, va_up_ne _ _ (show 16 ≠ 2 by decide), va_up_ne _ _ (show 26 ≠ 2 by decide), show (wh + 198).toNat = wh.toNat + 198 by omega]
  have ER2 : R_25 2 = rdr (Rw 2) (Rw 26) wh.toNat 198 := by rw [ER, va_up_ne _ _ (by decide), va_up_self]
  have ER16 : R_25 16 = rdr (Rw 16) (Rw 26) (wh.toNat + 198) 48 := by rw [ER, va_up_self]
  have EK : kpR [2, 4, 16] Rw R_25 := by rw [ER]; exact kpR.up (kpR.up kpR.rf (by decide)) (by decide)
  refine lv_iload_n hx hb dX9_handsAll_28 rfl (lv_at hl 3 rfl) ?_
  refine lv_if_eq (tgt := 55) hx hb dX9_handsAll_29 (by decide) (fun c_29 => ?_) (fun c_29 => ?_)
  · skip
    have k_29 : kp_ = 0 := (g_eq e_kp_ (show (0 : Int32).toInt = 0 from rfl)).mp c_29
    refine lv_aload_n hx hb dX9_handsAll_55 rfl (lv_at hl 0 rfl) ?_
    refine lv_aload_n hx hb dX9_handsAll_56 rfl (lv_at hl 1 rfl) ?_
    refine lv_aload_n hx hb dX9_handsAll_57 rfl (lv_at hl 0 rfl) ?_
    refine mg_cursor X w dX9_handsAll_58 ?_
    refine ml_earlier X w (g_in rfl (by omega)) dX9_handsAll_61 ?_
    refine q_topE (y := R_25 26 ((I_25 29).toInt).toNat) (congrArg (R_25 26) (g_tn rfl)) ?_
    have y_61 : R_25 26 ((I_25 29).toInt).toNat = (Rw 26) (wh.toNat + 246) := by rw [ER, va_up_ne _ _ (by decide), va_up_ne _ _ (by decide), show ((I_25 29).toInt).toNat = wh.toNat + 246 by omega]
    refine mp_calendars (v := (R_25 26 ((I_25 29).toInt).toNat)) X w dX9_handsAll_62 (fun H locs w => ?_)
    refine lv_aload_n hx hb dX9_handsAll_65 rfl (lv_at hl 0 rfl) ?_
    refine lv_aload_n hx hb dX9_handsAll_66 rfl (lv_at hl 1 rfl) ?_
    refine lv_aload_n hx hb dX9_handsAll_67 rfl (lv_at hl 0 rfl) ?_
    refine mg_cursor X w dX9_handsAll_68 ?_
    refine lv_iconst (v := 1) hx hb dX9_handsAll_71 (by decide) ?_
    refine lv_iadd hx hb dX9_handsAll_72 ?_
    refine lv_topi (fun x_72 e_72 => ?_)
    have p_72 : x_72.toInt = (((I_25 29).toInt) + 1) := by rw [e_72]; exact t_add (show ((va_up I_25 5 (R_25 26 ((I_25 29).toInt).toNat)) 29).toInt = (I_25 29).toInt from rfl) (show (1 : Int32).toInt = 1 from rfl) (by omega) (by omega)
    refine ml_earlier X w (g_in p_72 (by omega)) dX9_handsAll_73 ?_
    refine q_topE (y := R_25 26 (((I_25 29).toInt) + 1).toNat) (congrArg (R_25 26) (g_tn p_72)) ?_
    have y_73 : R_25 26 ((((I_25 29).toInt) + 1)).toNat = (Rw 26) (wh.toNat + 247) := by rw [ER, va_up_ne _ _ (by decide), va_up_ne _ _ (by decide), show ((((I_25 29).toInt) + 1)).toNat = wh.toNat + 247 by omega]
    refine mp_feasts (v := (R_25 26 (((I_25 29).toInt) + 1).toNat)) X w dX9_handsAll_74 (fun H locs w => ?_)
    refine lv_iconst (v := 0) hx hb dX9_handsAll_77 (by decide) ?_
    refine lv_istore (lv' := [(4, .int 0), (0, .ref (b + 45)), (1, .ref (b + 58)), (2, .int a_wh), (3, .int a_kp_)]) hx hb dX9_handsAll_78 hl (by decide) rfl (fun ls hl => ?_)
    refine q_loop (α := Int32 × Int × (Nat → Nat → Int32)) (fun a => a.1.toInt = a.2.1 ∧ (kpR [4] R_25 a.2.2 ∧ (0 ≤ a.2.1 ∧ a.2.1 ≤ ((Rw 26) (wh.toNat + 246)).toInt) ∧ ∀ i : Int, 0 ≤ i → i < a.2.1 → okF a.2.2 i)) (fun a => (((Rw 26) (wh.toNat + 246)).toInt - a.2.1).toNat) (fun a => ∀ (H : Heap) (locs : List Loc), qW D b n (mS t b σ0 (va_up (va_up I_25 5 (R_25 26 ((I_25 29).toInt).toNat)) 19 (R_25 26 (((I_25 29).toInt) + 1).toNat)) a.2.2) s H locs → ∀ ls : Array Slot, lv_has ls 5 [(4, .int a.1), (0, .ref (b + 45)), (1, .ref (b + 58)), (2, .int a_wh), (3, .int a_kp_)] → W p l e (qR 4 0 0) s m args below meth c H locs 0 0 (MQ below (va_Qv (S := Nat × qM) (fun u => (fun n1 σ1 => n1 = n ∧ ∃ I1 R1, σ1 = mS t b σ0 I1 R1 ∧ kpI [5, 19, 29, 31] I I1 ∧ kpR [2, 4, 16] Rw R1 ∧ R1 2 = rdr (Rw 2) (Rw 26) wh.toNat 198 ∧ R1 16 = rdr (Rw 16) (Rw 26) (wh.toNat + 198) 48 ∧ I1 5 = (Rw 26) (wh.toNat + 246) ∧ I1 19 = (Rw 26) (wh.toNat + 247) ∧ ∀ c : Int, 0 ≤ c → c < ((Rw 26) (wh.toNat + 246)).toInt → okF R1 c) u.1 u.2) (fun u T => WB D b u.1 u.2 T.heap) (fun q => b ≤ q)) args s 0 0 (fun q => b ≤ q)) (F0 m 80 ls [])) ?_ ⟨0, 0, R_25⟩ ⟨(show (0 : Int32).toInt = 0 from rfl), by dsimp only; exact ⟨kpR.rf, by omega, fun i a1 a2 => by omega⟩⟩ _ _ w ls (lv_sub hl [0, 1, 2, 3, 4] rfl)
    rintro ⟨v_c_, c_, R_L80⟩ ⟨q_c_, inv_80⟩ ih_80 H locs w ls hl
    dsimp only at q_c_ inv_80 hl w
    have e2 : R_L80 2 = R_25 2 := inv_80.1 2 (by decide)
    refine lv_iload hx hb dX9_handsAll_80 (lv_at hl 0 rfl) ?_
    refine lv_aload_n hx hb dX9_handsAll_82 rfl (lv_at hl 1 rfl) ?_
    refine mg_calendars X w dX9_handsAll_83 ?_
    refine q_topE (y := (R_25 26 ((I_25 29).toInt).toNat)) rfl ?_
    refine lv_icmp_ge (tgt := 101) hx hb dX9_handsAll_86 (by decide) (fun c_86 => ?_) (fun c_86 => ?_)
    · skip
      have k_86 : (((Rw 26) (wh.toNat + 246)).toInt) ≤ c_ := (g_le (congrArg Int32.toInt y_61) q_c_).mp c_86
      exact q_vret (post := (fun n1 σ1 => n1 = n ∧ ∃ I1 R1, σ1 = mS t b σ0 I1 R1 ∧ kpI [5, 19, 29, 31] I I1 ∧ kpR [2, 4, 16] Rw R1 ∧ R1 2 = rdr (Rw 2) (Rw 26) wh.toNat 198 ∧ R1 16 = rdr (Rw 16) (Rw 26) (wh.toNat + 198) 48 ∧ I1 5 = (Rw 26) (wh.toNat + 246) ∧ I1 19 = (Rw 26) (wh.toNat + 247) ∧ ∀ c : Int, 0 ≤ c → c < ((Rw 26) (wh.toNat + 246)).toInt → okF R1 c)) X w dX9_handsAll_101 ⟨rfl, _, _, rfl, by exact ⟨kpI.up (kpI.up ((kpI.up (J := [5, 19, 29, 31]) (kpI.up (J := [5, 19, 29, 31]) kpI.rf (by decide)) (by decide)).tr (kpI.tr (J := [5, 19, 29, 31]) z_16.1 z_25.1 (by decide) (by decide)) (by decide) (by decide)) (by decide)) (by decide), EK.tr inv_80.1 (by decide) (by decide), e2.trans ER2, (inv_80.1 16 (by decide)).trans ER16, y_61, y_73, fun i a1 a2 => inv_80.2.2 i a1 (by omega)⟩⟩
    · skip
      have k_86 : ¬ ((((Rw 26) (wh.toNat + 246)).toInt) ≤ c_) := fun h => c_86 ((g_le (congrArg Int32.toInt y_61) q_c_).mpr h)
      refine lv_aload_n hx hb dX9_handsAll_89 rfl (lv_at hl 1 rfl) ?_
      refine lv_iload hx hb dX9_handsAll_90 (lv_at hl 0 rfl) ?_
      refine mm_cVR X w (c_X9_findFirsts l D t b n σ0 (va_up (va_up I_25 5 (R_25 26 ((I_25 29).toInt).toNat)) 19 (R_25 26 (((I_25 29).toInt) + 1).toNat)) R_L80 v_c_ c_ q_c_ (by omega) (by rw [rowM_cg e2, rowM_bk ER2 (by omega) (by omega)]; exact h_4 c_ (by omega) (by omega))) v_X9_95 rfl rfl ⟨Nat.le_of_ble_eq_true rfl, Nat.le_of_ble_eq_true rfl⟩ rfl hl.1 (Nat.le_of_ble_eq_true rfl) dX9_handsAll_92 ⟨Nat.zero_le _, Nat.zero_le _⟩ (fun R_92 H locs z_92 w => ?_)
      obtain ⟨x_95, e_95⟩ : ∃ z : Int32, z = (v_c_ + 1) := ⟨_, rfl⟩
      have p_95 : x_95.toInt = (c_ + 1) := by rw [e_95]; exact t_add q_c_ (show (1 : Int32).toInt = 1 from rfl) (by omega) (by omega)
      refine lv_iinc (v := x_95) (lv' := [(4, .int x_95), (0, .ref (b + 45)), (1, .ref (b + 58)), (2, .int a_wh), (3, .int a_kp_)]) hx hb dX9_handsAll_95 hl (k := 0) rfl (by rw [e_95]; rfl) (by decide) rfl (fun ls hl => ?_)
      refine lv_goto (tgt := 80) hx hb dX9_handsAll_98 (by decide) ?_
      refine ih_80 ⟨x_95, (c_ + 1), R_92⟩ ⟨p_95, by dsimp only; refine ⟨inv_80.1.tr z_92.1 (by decide) (by decide), by omega, fun i a1 a2 => ?_⟩; by_cases z : i = c_; (rw [z]; exact z_92.2.1); exact okF_out (R := R_L80) (ca := c_) z a1 (by omega) (congrFun (rowM_cg (z_92.1 2 (by decide))) i) (fun j a => z_92.2.2 j (by omega)) (inv_80.2.2 i a1 (by omega))⟩ (by dsimp only; omega) _ _ w ls (lv_sub hl [0, 1, 2, 3, 4] rfl)
  · skip
    have k_29 : ¬ (kp_ = 0) := fun h => c_29 ((g_eq e_kp_ (show (0 : Int32).toInt = 0 from rfl)).mpr h)
    exfalso; omega

set_option maxHeartbeats 4000000 in
set_option maxRecDepth 100000 in
theorem c_X9_handsAll_27r (l : Launch) (D : va_G) (t : Nat → ClassId) (b n : Nat) (σ0 : qM) (I : Nat → Int32) (Rw : Nat → Nat → Int32) (a_wh : Int32) (a_kp_ : Int32) (wh : Int) (kp_ : Int) (e_wh : a_wh.toInt = wh) (e_kp_ : a_kp_.toInt = kp_) (h_1 : 0 ≤ wh ∧ wh + 262 ≤ 262) (h_2 : kp_ = 0) (h_3 : 0 ≤ ((Rw 27) (wh.toNat + 246)).toInt ∧ ((Rw 27) (wh.toNat + 246)).toInt ≤ 6) (h_4 : ∀ c : Int, 0 ≤ c → c < ((Rw 27) (wh.toNat + 246)).toInt → okRow (bkRow (Rw 27) wh.toNat c)) : mV l yX9_handsAll cX9_handsAll 5 4 D t b n σ0 I Rw [.ref (b + 45), .ref (b + 59), .int a_wh, .int a_kp_] (fun I1 R1 => kpI [5, 19, 29, 31] I I1 ∧ kpR [2, 4, 16] Rw R1 ∧ R1 2 = rdr (Rw 2) (Rw 27) wh.toNat 198 ∧ R1 16 = rdr (Rw 16) (Rw 27) (wh.toNat + 198) 48 ∧ I1 5 = (Rw 27) (wh.toNat + 246) ∧ I1 19 = (Rw 27) (wh.toNat + 247) ∧ ∀ c : Int, 0 ≤ c → c < ((Rw 27) (wh.toNat + 246)).toInt → okF R1 c) := by
  refine qV.of (by decide +kernel) (Nat.le_of_ble_eq_true rfl) (fun p e s m args below meth c X w _ ls hl => ?_)
  have hx := X.1
  have hb := X.2.1
  have hl : lv_has ls 5 [(0, .ref (b + 45)), (1, .ref (b + 59)), (2, .int a_wh), (3, .int a_kp_)] := hl
  refine lv_aload_n hx hb dX9_handsAll_0 rfl (lv_at hl 0 rfl) ?_
  refine lv_iload_n hx hb dX9_handsAll_1 rfl (lv_at hl 3 rfl) ?_
  refine mp_isKeeping (v := a_kp_) X w dX9_handsAll_2 (by rw [i_eq0 e_kp_ h_2]; rfl) (by rw [i_eq0 e_kp_ h_2]; rfl) (fun H locs w => ?_)
  refine lv_aload_n hx hb dX9_handsAll_5 rfl (lv_at hl 0 rfl) ?_
  refine lv_iload_n hx hb dX9_handsAll_6 rfl (lv_at hl 2 rfl) ?_
  refine mp_cursor (v := a_wh) X w dX9_handsAll_7 (fun H locs w => ?_)
  refine lv_aload_n hx hb dX9_handsAll_10 rfl (lv_at hl 0 rfl) ?_
  refine lv_aload_n hx hb dX9_handsAll_11 rfl (lv_at hl 0 rfl) ?_
  refine mg_calendar X w dX9_handsAll_12 ?_
  refine lv_aload_n hx hb dX9_handsAll_15 rfl (lv_at hl 1 rfl) ?_
  refine mm_cV X w (c_X9_hands_2_27 l D t b n σ0 (va_up (va_up I 31 a_kp_) 29 a_wh) Rw wh false (by exact e_wh) (by omega) (by exact (show (va_up (va_up I 31 a_kp_) 29 a_wh) 31 = bI false from i_eq0 e_kp_ h_2))) v_X9_345 rfl rfl ⟨Nat.le_of_ble_eq_true rfl, Nat.le_of_ble_eq_true rfl⟩ rfl hl.1 (Nat.le_of_ble_eq_true rfl) dX9_handsAll_16 ⟨Nat.zero_le _, Nat.zero_le _⟩ (fun I_16 R_16 H locs z_16 w => ?_)
  refine lv_aload_n hx hb dX9_handsAll_19 rfl (lv_at hl 0 rfl) ?_
  refine lv_aload_n hx hb dX9_handsAll_20 rfl (lv_at hl 0 rfl) ?_
  refine mg_feast X w dX9_handsAll_21 ?_
  refine lv_aload_n hx hb dX9_handsAll_24 rfl (lv_at hl 1 rfl) ?_
  refine mm_cV X w (c_X9_hands_16_27 l D t b n σ0 I_16 R_16 (wh + 198) false (by exact z_16.2.1) (by omega) (by exact (z_16.1 31 (by decide)).trans (show (va_up (va_up I 31 a_kp_) 29 a_wh) 31 = bI false from i_eq0 e_kp_ h_2))) v_X9_345 rfl rfl ⟨Nat.le_of_ble_eq_true rfl, Nat.le_of_ble_eq_true rfl⟩ rfl hl.1 (Nat.le_of_ble_eq_true rfl) dX9_handsAll_25 ⟨Nat.zero_le _, Nat.zero_le _⟩ (fun I_25 R_25 H locs z_25 w => ?_)
  have E29 : (I_25 29).toInt = wh + 246 := z_25.2.1.trans (by omega)
  have ER : R_25 = va_up (va_up Rw 2 (rdr (Rw 2) (Rw 27) wh.toNat 198)) 16 (rdr (Rw 16) (Rw 27) (wh.toNat + 198) 48) := by rw [z_25.2.2.2 rfl, z_16.2.2.2 rfl, va_up_ne _ _ (show 16 ≠ 2 by decide), va_up_ne _ _ (show 27 ≠ 2 by decide), show (wh + 198).toNat = wh.toNat + 198 by omega]
  have ER2 : R_25 2 = rdr (Rw 2) (Rw 27) wh.toNat 198 := by rw [ER, va_up_ne _ _ (by decide), va_up_self]
  have ER16 : R_25 16 = rdr (Rw 16) (Rw 27) (wh.toNat + 198) 48 := by rw [ER, va_up_self]
  have EK : kpR [2, 4, 16] Rw R_25 := by rw [ER]; exact kpR.up (kpR.up kpR.rf (by decide)) (by decide)
  refine lv_iload_n hx hb dX9_handsAll_28 rfl (lv_at hl 3 rfl) ?_
  refine lv_if_eq (tgt := 55) hx hb dX9_handsAll_29 (by decide) (fun c_29 => ?_) (fun c_29 => ?_)
  · skip
    have k_29 : kp_ = 0 := (g_eq e_kp_ (show (0 : Int32).toInt = 0 from rfl)).mp c_29
    refine lv_aload_n hx hb dX9_handsAll_55 rfl (lv_at hl 0 rfl) ?_
    refine lv_aload_n hx hb dX9_handsAll_56 rfl (lv_at hl 1 rfl) ?_
    refine lv_aload_n hx hb dX9_handsAll_57 rfl (lv_at hl 0 rfl) ?_
    refine mg_cursor X w dX9_handsAll_58 ?_
    refine ml_saved X w (g_in rfl (by omega)) dX9_handsAll_61 ?_
    refine q_topE (y := R_25 27 ((I_25 29).toInt).toNat) (congrArg (R_25 27) (g_tn rfl)) ?_
    have y_61 : R_25 27 ((I_25 29).toInt).toNat = (Rw 27) (wh.toNat + 246) := by rw [ER, va_up_ne _ _ (by decide), va_up_ne _ _ (by decide), show ((I_25 29).toInt).toNat = wh.toNat + 246 by omega]
    refine mp_calendars (v := (R_25 27 ((I_25 29).toInt).toNat)) X w dX9_handsAll_62 (fun H locs w => ?_)
    refine lv_aload_n hx hb dX9_handsAll_65 rfl (lv_at hl 0 rfl) ?_
    refine lv_aload_n hx hb dX9_handsAll_66 rfl (lv_at hl 1 rfl) ?_
    refine lv_aload_n hx hb dX9_handsAll_67 rfl (lv_at hl 0 rfl) ?_
    refine mg_cursor X w dX9_handsAll_68 ?_
    refine lv_iconst (v := 1) hx hb dX9_handsAll_71 (by decide) ?_
    refine lv_iadd hx hb dX9_handsAll_72 ?_
    refine lv_topi (fun x_72 e_72 => ?_)
    have p_72 : x_72.toInt = (((I_25 29).toInt) + 1) := by rw [e_72]; exact t_add (show ((va_up I_25 5 (R_25 27 ((I_25 29).toInt).toNat)) 29).toInt = (I_25 29).toInt from rfl) (show (1 : Int32).toInt = 1 from rfl) (by omega) (by omega)
    refine ml_saved X w (g_in p_72 (by omega)) dX9_handsAll_73 ?_
    refine q_topE (y := R_25 27 (((I_25 29).toInt) + 1).toNat) (congrArg (R_25 27) (g_tn p_72)) ?_
    have y_73 : R_25 27 ((((I_25 29).toInt) + 1)).toNat = (Rw 27) (wh.toNat + 247) := by rw [ER, va_up_ne _ _ (by decide), va_up_ne _ _ (by decide), show ((((I_25 29).toInt) + 1)).toNat = wh.toNat + 247 by omega]
    refine mp_feasts (v := (R_25 27 (((I_25 29).toInt) + 1).toNat)) X w dX9_handsAll_74 (fun H locs w => ?_)
    refine lv_iconst (v := 0) hx hb dX9_handsAll_77 (by decide) ?_
    refine lv_istore (lv' := [(4, .int 0), (0, .ref (b + 45)), (1, .ref (b + 59)), (2, .int a_wh), (3, .int a_kp_)]) hx hb dX9_handsAll_78 hl (by decide) rfl (fun ls hl => ?_)
    refine q_loop (α := Int32 × Int × (Nat → Nat → Int32)) (fun a => a.1.toInt = a.2.1 ∧ (kpR [4] R_25 a.2.2 ∧ (0 ≤ a.2.1 ∧ a.2.1 ≤ ((Rw 27) (wh.toNat + 246)).toInt) ∧ ∀ i : Int, 0 ≤ i → i < a.2.1 → okF a.2.2 i)) (fun a => (((Rw 27) (wh.toNat + 246)).toInt - a.2.1).toNat) (fun a => ∀ (H : Heap) (locs : List Loc), qW D b n (mS t b σ0 (va_up (va_up I_25 5 (R_25 27 ((I_25 29).toInt).toNat)) 19 (R_25 27 (((I_25 29).toInt) + 1).toNat)) a.2.2) s H locs → ∀ ls : Array Slot, lv_has ls 5 [(4, .int a.1), (0, .ref (b + 45)), (1, .ref (b + 59)), (2, .int a_wh), (3, .int a_kp_)] → W p l e (qR 4 0 0) s m args below meth c H locs 0 0 (MQ below (va_Qv (S := Nat × qM) (fun u => (fun n1 σ1 => n1 = n ∧ ∃ I1 R1, σ1 = mS t b σ0 I1 R1 ∧ kpI [5, 19, 29, 31] I I1 ∧ kpR [2, 4, 16] Rw R1 ∧ R1 2 = rdr (Rw 2) (Rw 27) wh.toNat 198 ∧ R1 16 = rdr (Rw 16) (Rw 27) (wh.toNat + 198) 48 ∧ I1 5 = (Rw 27) (wh.toNat + 246) ∧ I1 19 = (Rw 27) (wh.toNat + 247) ∧ ∀ c : Int, 0 ≤ c → c < ((Rw 27) (wh.toNat + 246)).toInt → okF R1 c) u.1 u.2) (fun u T => WB D b u.1 u.2 T.heap) (fun q => b ≤ q)) args s 0 0 (fun q => b ≤ q)) (F0 m 80 ls [])) ?_ ⟨0, 0, R_25⟩ ⟨(show (0 : Int32).toInt = 0 from rfl), by dsimp only; exact ⟨kpR.rf, by omega, fun i a1 a2 => by omega⟩⟩ _ _ w ls (lv_sub hl [0, 1, 2, 3, 4] rfl)
    rintro ⟨v_c_, c_, R_L80⟩ ⟨q_c_, inv_80⟩ ih_80 H locs w ls hl
    dsimp only at q_c_ inv_80 hl w
    have e2 : R_L80 2 = R_25 2 := inv_80.1 2 (by decide)
    refine lv_iload hx hb dX9_handsAll_80 (lv_at hl 0 rfl) ?_
    refine lv_aload_n hx hb dX9_handsAll_82 rfl (lv_at hl 1 rfl) ?_
    refine mg_calendars X w dX9_handsAll_83 ?_
    refine q_topE (y := (R_25 27 ((I_25 29).toInt).toNat)) rfl ?_
    refine lv_icmp_ge (tgt := 101) hx hb dX9_handsAll_86 (by decide) (fun c_86 => ?_) (fun c_86 => ?_)
    · skip
      have k_86 : (((Rw 27) (wh.toNat + 246)).toInt) ≤ c_ := (g_le (congrArg Int32.toInt y_61) q_c_).mp c_86
      exact q_vret (post := (fun n1 σ1 => n1 = n ∧ ∃ I1 R1, σ1 = mS t b σ0 I1 R1 ∧ kpI [5, 19, 29, 31] I I1 ∧ kpR [2, 4, 16] Rw R1 ∧ R1 2 = rdr (Rw 2) (Rw 27) wh.toNat 198 ∧ R1 16 = rdr (Rw 16) (Rw 27) (wh.toNat + 198) 48 ∧ I1 5 = (Rw 27) (wh.toNat + 246) ∧ I1 19 = (Rw 27) (wh.toNat + 247) ∧ ∀ c : Int, 0 ≤ c → c < ((Rw 27) (wh.toNat + 246)).toInt → okF R1 c)) X w dX9_handsAll_101 ⟨rfl, _, _, rfl, by exact ⟨kpI.up (kpI.up ((kpI.up (J := [5, 19, 29, 31]) (kpI.up (J := [5, 19, 29, 31]) kpI.rf (by decide)) (by decide)).tr (kpI.tr (J := [5, 19, 29, 31]) z_16.1 z_25.1 (by decide) (by decide)) (by decide) (by decide)) (by decide)) (by decide), EK.tr inv_80.1 (by decide) (by decide), e2.trans ER2, (inv_80.1 16 (by decide)).trans ER16, y_61, y_73, fun i a1 a2 => inv_80.2.2 i a1 (by omega)⟩⟩
    · skip
      have k_86 : ¬ ((((Rw 27) (wh.toNat + 246)).toInt) ≤ c_) := fun h => c_86 ((g_le (congrArg Int32.toInt y_61) q_c_).mpr h)
      refine lv_aload_n hx hb dX9_handsAll_89 rfl (lv_at hl 1 rfl) ?_
      refine lv_iload hx hb dX9_handsAll_90 (lv_at hl 0 rfl) ?_
      refine mm_cVR X w (c_X9_findFirsts l D t b n σ0 (va_up (va_up I_25 5 (R_25 27 ((I_25 29).toInt).toNat)) 19 (R_25 27 (((I_25 29).toInt) + 1).toNat)) R_L80 v_c_ c_ q_c_ (by omega) (by rw [rowM_cg e2, rowM_bk ER2 (by omega) (by omega)]; exact h_4 c_ (by omega) (by omega))) v_X9_95 rfl rfl ⟨Nat.le_of_ble_eq_true rfl, Nat.le_of_ble_eq_true rfl⟩ rfl hl.1 (Nat.le_of_ble_eq_true rfl) dX9_handsAll_92 ⟨Nat.zero_le _, Nat.zero_le _⟩ (fun R_92 H locs z_92 w => ?_)
      obtain ⟨x_95, e_95⟩ : ∃ z : Int32, z = (v_c_ + 1) := ⟨_, rfl⟩
      have p_95 : x_95.toInt = (c_ + 1) := by rw [e_95]; exact t_add q_c_ (show (1 : Int32).toInt = 1 from rfl) (by omega) (by omega)
      refine lv_iinc (v := x_95) (lv' := [(4, .int x_95), (0, .ref (b + 45)), (1, .ref (b + 59)), (2, .int a_wh), (3, .int a_kp_)]) hx hb dX9_handsAll_95 hl (k := 0) rfl (by rw [e_95]; rfl) (by decide) rfl (fun ls hl => ?_)
      refine lv_goto (tgt := 80) hx hb dX9_handsAll_98 (by decide) ?_
      refine ih_80 ⟨x_95, (c_ + 1), R_92⟩ ⟨p_95, by dsimp only; refine ⟨inv_80.1.tr z_92.1 (by decide) (by decide), by omega, fun i a1 a2 => ?_⟩; by_cases z : i = c_; (rw [z]; exact z_92.2.1); exact okF_out (R := R_L80) (ca := c_) z a1 (by omega) (congrFun (rowM_cg (z_92.1 2 (by decide))) i) (fun j a => z_92.2.2 j (by omega)) (inv_80.2.2 i a1 (by omega))⟩ (by dsimp only; omega) _ _ w ls (lv_sub hl [0, 1, 2, 3, 4] rfl)
  · skip
    have k_29 : ¬ (kp_ = 0) := fun h => c_29 ((g_eq e_kp_ (show (0 : Int32).toInt = 0 from rfl)).mpr h)
    exfalso; omega

set_option maxHeartbeats 4000000 in
set_option maxRecDepth 100000 in
theorem c_X9_remembers (l : Launch) (D : va_G) (t : Nat → ClassId) (b n : Nat) (σ0 : qM) (I : Nat → Int32) (Rw : Nat → Nat → Int32) (h_1 : 0 ≤ (I 28).toInt ∧ (I 28).toInt ≤ 6) : mV l yX9_remembers cX9_remembers 2 2 D t b n σ0 I Rw [.ref (b + 45)] (fun I1 R1 => kpI [28, 29, 31] I I1 ∧ (I1 28).toInt = remC (I 28).toInt + 1 ∧ R1 = va_up Rw 26 (bkW (remF (Rw 26) (I 28).toInt) (262 * remC (I 28).toInt).toNat (Rw 2) (Rw 16) (I 5) (I 19))) := by
  refine qV.of (by decide +kernel) (Nat.le_of_ble_eq_true rfl) (fun p e s m args below meth c X w _ ls hl => ?_)
  have hx := X.1
  have hb := X.2.1
  have hl : lv_has ls 2 [(0, .ref (b + 45))] := hl
  refine lv_aload_n hx hb dX9_remembers_0 rfl (lv_at hl 0 rfl) ?_
  refine mg_changes X w dX9_remembers_1 ?_
  refine lv_bipush (v := 6) hx hb dX9_remembers_4 (by decide) ?_
  refine lv_icmp_ne (tgt := 50) hx hb dX9_remembers_6 (by decide) (fun c_6 => ?_) (fun c_6 => ?_)
  · skip
    have k_6 : ¬ (((I 28).toInt) = 6) := fun h => c_6 ((g_eq rfl (show (6 : Int32).toInt = 6 from rfl)).mpr h)
    refine lv_aload_n hx hb dX9_remembers_50 rfl (lv_at hl 0 rfl) ?_
    refine lv_aload_n hx hb dX9_remembers_51 rfl (lv_at hl 0 rfl) ?_
    refine mg_earlier X w dX9_remembers_52 ?_
    refine lv_sipush (v := 262) hx hb dX9_remembers_55 (by decide) ?_
    refine lv_aload_n hx hb dX9_remembers_58 rfl (lv_at hl 0 rfl) ?_
    refine mg_changes X w dX9_remembers_59 ?_
    refine lv_imul hx hb dX9_remembers_62 ?_
    refine lv_topi (fun x_62 e_62 => ?_)
    have p_62 : x_62.toInt = (262 * ((I 28).toInt)) := by rw [e_62]; exact t_mul (show (262 : Int32).toInt = 262 from rfl) rfl (by omega) (by omega)
    refine lv_iconst (v := 1) hx hb dX9_remembers_63 (by decide) ?_
    refine mm_cV X w (c_X9_handsAll_26k l D t b n σ0 I Rw x_62 1 (262 * ((I 28).toInt)) 1 p_62 (show (1 : Int32).toInt = 1 from rfl) (by first | assumption | omega) (by first | assumption | omega)) v_X9_352 rfl rfl ⟨Nat.le_of_ble_eq_true rfl, Nat.le_of_ble_eq_true rfl⟩ rfl hl.1 (Nat.le_of_ble_eq_true rfl) dX9_remembers_64 ⟨Nat.zero_le _, Nat.zero_le _⟩ (fun I_64 R_64 H locs z_64 w => ?_)
    refine lv_aload_n hx hb dX9_remembers_67 rfl (lv_at hl 0 rfl) ?_
    refine lv_dup hx hb dX9_remembers_68 rfl ?_
    refine mg_changes X w dX9_remembers_69 ?_
    refine lv_iconst (v := 1) hx hb dX9_remembers_72 (by decide) ?_
    refine lv_iadd hx hb dX9_remembers_73 ?_
    refine lv_topi (fun x_73 e_73 => ?_)
    have p_73 : x_73.toInt = (((I 28).toInt) + 1) := by rw [e_73]; exact t_add ((congrArg Int32.toInt (z_64.1 28 (by decide))).trans rfl) (show (1 : Int32).toInt = 1 from rfl) (by omega) (by omega)
    refine mp_changes (v := x_73) X w dX9_remembers_74 (fun H locs w => ?_)
    exact q_vret (post := (fun n1 σ1 => n1 = n ∧ ∃ I1 R1, σ1 = mS t b σ0 I1 R1 ∧ kpI [28, 29, 31] I I1 ∧ (I1 28).toInt = remC (I 28).toInt + 1 ∧ R1 = va_up Rw 26 (bkW (remF (Rw 26) (I 28).toInt) (262 * remC (I 28).toInt).toNat (Rw 2) (Rw 16) (I 5) (I 19)))) X w dX9_remembers_77 ⟨rfl, _, _, rfl, by have hc : remC (I 28).toInt = (I 28).toInt := (by unfold remC; rw [if_neg k_6]); have hf : remF (Rw 26) (I 28).toInt = Rw 26 := (by unfold remF; rw [if_neg k_6]); exact ⟨kpI.up (kpI.tr (J := [28, 29, 31]) (kpI.rf (J := [28, 29, 31])) z_64.1 (by decide) (by decide)) (by decide), by show x_73.toInt = _; omega, by rw [z_64.2, hc, hf]⟩⟩
  · skip
    have k_6 : ((I 28).toInt) = 6 := (g_eq rfl (show (6 : Int32).toInt = 6 from rfl)).mp c_6
    refine lv_iconst (v := 0) hx hb dX9_remembers_9 (by decide) ?_
    refine lv_istore_n (lv' := [(1, .int 0), (0, .ref (b + 45))]) hx hb dX9_remembers_10 rfl hl (by decide) rfl (fun ls hl => ?_)
    refine q_loop (α := Int32 × Int × (Nat → Nat → Int32)) (fun a => a.1.toInt = a.2.1 ∧ ((0 ≤ a.2.1 ∧ a.2.1 ≤ 1310) ∧ a.2.2 = va_up Rw 26 (shN (Rw 26) a.2.1.toNat))) (fun a => (1310 - a.2.1).toNat) (fun a => ∀ (H : Heap) (locs : List Loc), qW D b n (mS t b σ0 I a.2.2) s H locs → ∀ ls : Array Slot, lv_has ls 2 [(1, .int a.1), (0, .ref (b + 45))] → W p l e (qR 2 0 0) s m args below meth c H locs 0 0 (MQ below (va_Qv (S := Nat × qM) (fun u => (fun n1 σ1 => n1 = n ∧ ∃ I1 R1, σ1 = mS t b σ0 I1 R1 ∧ kpI [28, 29, 31] I I1 ∧ (I1 28).toInt = remC (I 28).toInt + 1 ∧ R1 = va_up Rw 26 (bkW (remF (Rw 26) (I 28).toInt) (262 * remC (I 28).toInt).toNat (Rw 2) (Rw 16) (I 5) (I 19))) u.1 u.2) (fun u T => WB D b u.1 u.2 T.heap) (fun q => b ≤ q)) args s 0 0 (fun q => b ≤ q)) (F0 m 11 ls [])) ?_ ⟨0, 0, Rw⟩ ⟨(show (0 : Int32).toInt = 0 from rfl), by dsimp only; exact ⟨by omega, by rw [show (0 : Int).toNat = 0 from rfl, shN_0, va_id]⟩⟩ _ _ w ls (lv_sub hl [0, 1] rfl)
    rintro ⟨v_k, k, R_L11⟩ ⟨q_k, inv_11⟩ ih_11 H locs w ls hl
    dsimp only at q_k inv_11 hl w
    refine lv_iload_n hx hb dX9_remembers_11 rfl (lv_at hl 0 rfl) ?_
    refine lv_sipush (v := 1310) hx hb dX9_remembers_12 (by decide) ?_
    refine lv_icmp_ge (tgt := 40) hx hb dX9_remembers_15 (by decide) (fun c_15 => ?_) (fun c_15 => ?_)
    · skip
      have k_15 : 1310 ≤ k := (g_le (show (1310 : Int32).toInt = 1310 from rfl) q_k).mp c_15
      refine lv_aload_n hx hb dX9_remembers_40 rfl (lv_at hl 1 rfl) ?_
      refine lv_dup hx hb dX9_remembers_41 rfl ?_
      refine mg_changes X w dX9_remembers_42 ?_
      refine lv_iconst (v := 1) hx hb dX9_remembers_45 (by decide) ?_
      refine lv_isub hx hb dX9_remembers_46 ?_
      refine lv_topi (fun x_46 e_46 => ?_)
      have p_46 : x_46.toInt = (((I 28).toInt) - 1) := by rw [e_46]; exact t_sub rfl (show (1 : Int32).toInt = 1 from rfl) (by omega) (by omega)
      refine mp_changes (v := x_46) X w dX9_remembers_47 (fun H locs w => ?_)
      refine lv_aload_n hx hb dX9_remembers_50 rfl (lv_at hl 1 rfl) ?_
      refine lv_aload_n hx hb dX9_remembers_51 rfl (lv_at hl 1 rfl) ?_
      refine mg_earlier X w dX9_remembers_52 ?_
      refine lv_sipush (v := 262) hx hb dX9_remembers_55 (by decide) ?_
      refine lv_aload_n hx hb dX9_remembers_58 rfl (lv_at hl 1 rfl) ?_
      refine mg_changes X w dX9_remembers_59 ?_
      refine q_topE (y := x_46) rfl ?_
      refine lv_imul hx hb dX9_remembers_62 ?_
      refine lv_topi (fun x_62 e_62 => ?_)
      have p_62 : x_62.toInt = (262 * (((I 28).toInt) - 1)) := by rw [e_62]; exact t_mul (show (262 : Int32).toInt = 262 from rfl) p_46 (by omega) (by omega)
      refine lv_iconst (v := 1) hx hb dX9_remembers_63 (by decide) ?_
      refine mm_cV X w (c_X9_handsAll_26k l D t b n σ0 (va_up I 28 x_46) R_L11 x_62 1 (262 * (((I 28).toInt) - 1)) 1 p_62 (show (1 : Int32).toInt = 1 from rfl) (by first | assumption | omega) (by first | assumption | omega)) v_X9_352 rfl rfl ⟨Nat.le_of_ble_eq_true rfl, Nat.le_of_ble_eq_true rfl⟩ rfl hl.1 (Nat.le_of_ble_eq_true rfl) dX9_remembers_64 ⟨Nat.zero_le _, Nat.zero_le _⟩ (fun I_64 R_64 H locs z_64 w => ?_)
      refine lv_aload_n hx hb dX9_remembers_67 rfl (lv_at hl 1 rfl) ?_
      refine lv_dup hx hb dX9_remembers_68 rfl ?_
      refine mg_changes X w dX9_remembers_69 ?_
      refine lv_iconst (v := 1) hx hb dX9_remembers_72 (by decide) ?_
      refine lv_iadd hx hb dX9_remembers_73 ?_
      refine lv_topi (fun x_73 e_73 => ?_)
      have p_73 : x_73.toInt = ((((I 28).toInt) - 1) + 1) := by rw [e_73]; exact t_add ((congrArg Int32.toInt (z_64.1 28 (by decide))).trans p_46) (show (1 : Int32).toInt = 1 from rfl) (by omega) (by omega)
      refine mp_changes (v := x_73) X w dX9_remembers_74 (fun H locs w => ?_)
      exact q_vret (post := (fun n1 σ1 => n1 = n ∧ ∃ I1 R1, σ1 = mS t b σ0 I1 R1 ∧ kpI [28, 29, 31] I I1 ∧ (I1 28).toInt = remC (I 28).toInt + 1 ∧ R1 = va_up Rw 26 (bkW (remF (Rw 26) (I 28).toInt) (262 * remC (I 28).toInt).toNat (Rw 2) (Rw 16) (I 5) (I 19)))) X w dX9_remembers_77 ⟨rfl, _, _, rfl, by have hc : remC (I 28).toInt = 5 := (by unfold remC; rw [if_pos k_6]); have hf : remF (Rw 26) (I 28).toInt = shN (Rw 26) 1310 := (by unfold remF; rw [if_pos k_6]); have e5 : k = 1310 := (by omega); rw [e5] at inv_11; refine ⟨kpI.up (kpI.tr (J := [28, 29, 31]) (kpI.up (J := [28, 29, 31]) kpI.rf (by decide)) z_64.1 (by decide) (by decide)) (by decide), by show x_73.toInt = _; omega, ?_⟩; rw [z_64.2, inv_11.2, hc, hf, uu, va_up_self, va_up_ne _ _ (by decide), va_up_ne _ _ (by decide), show (262 * ((I 28).toInt - 1)).toNat = (262 * 5 : Int).toNat by omega]; rfl⟩
    · skip
      have k_15 : ¬ (1310 ≤ k) := fun h => c_15 ((g_le (show (1310 : Int32).toInt = 1310 from rfl) q_k).mpr h)
      refine lv_aload_n hx hb dX9_remembers_18 rfl (lv_at hl 1 rfl) ?_
      refine mg_earlier X w dX9_remembers_19 ?_
      refine lv_iload_n hx hb dX9_remembers_22 rfl (lv_at hl 0 rfl) ?_
      refine lv_aload_n hx hb dX9_remembers_23 rfl (lv_at hl 1 rfl) ?_
      refine mg_earlier X w dX9_remembers_24 ?_
      refine lv_iload_n hx hb dX9_remembers_27 rfl (lv_at hl 0 rfl) ?_
      refine lv_sipush (v := 262) hx hb dX9_remembers_28 (by decide) ?_
      refine lv_iadd hx hb dX9_remembers_31 ?_
      refine lv_topi (fun x_31 e_31 => ?_)
      have p_31 : x_31.toInt = (k + 262) := by rw [e_31]; exact t_add q_k (show (262 : Int32).toInt = 262 from rfl) (by omega) (by omega)
      refine ml_earlier X w (g_in p_31 (by omega)) dX9_remembers_32 ?_
      refine q_topE (y := R_L11 26 (k + 262).toNat) (congrArg (R_L11 26) (g_tn p_31)) ?_
      refine ms_earlier (x := (R_L11 26 (k + 262).toNat)) X w (g_in q_k (by omega)) dX9_remembers_33 (fun H locs w => ?_)
      rw [g_tn q_k] at w
      obtain ⟨x_34, e_34⟩ : ∃ z : Int32, z = (v_k + 1) := ⟨_, rfl⟩
      have p_34 : x_34.toInt = (k + 1) := by rw [e_34]; exact t_add q_k (show (1 : Int32).toInt = 1 from rfl) (by omega) (by omega)
      refine lv_iinc (v := x_34) (lv' := [(1, .int x_34), (0, .ref (b + 45))]) hx hb dX9_remembers_34 hl (k := 0) rfl (by rw [e_34]; rfl) (by decide) rfl (fun ls hl => ?_)
      refine lv_goto (tgt := 11) hx hb dX9_remembers_37 (by decide) ?_
      refine ih_11 ⟨x_34, (k + 1), (va_up R_L11 26 (upd (R_L11 26) k.toNat (R_L11 26 (k + 262).toNat)))⟩ ⟨p_34, by dsimp only; refine ⟨by omega, ?_⟩; rw [inv_11.2, uu, va_up_self, show (k + 1).toNat = k.toNat + 1 by omega, show (k + 262).toNat = k.toNat + 262 by omega, shN_s]⟩ (by dsimp only; omega) _ _ w ls (lv_sub hl [0, 1] rfl)

set_option maxHeartbeats 4000000 in
set_option maxRecDepth 100000 in
theorem c_X9_save (l : Launch) (D : va_G) (t : Nat → ClassId) (b n : Nat) (σ0 : qM) (I : Nat → Int32) (Rw : Nat → Nat → Int32) : mC l yX9_save cX9_save 1 (some .int) 3 D t b n σ0 I Rw [.ref (b + 45)] (fun z I1 R1 => kpI [0, 29, 30, 31] I I1 ∧ (I1 0).toInt = 0 ∧ z = I 5 ∧ I1 30 = 1 ∧ R1 = va_up Rw 27 (bkW (Rw 27) 0 (Rw 2) (Rw 16) (I 5) (I 19))) := by
  refine qC.of (by decide +kernel) (Nat.le_of_ble_eq_true rfl) (fun p e s m args below meth c X w ls hl => ?_)
  have hx := X.1
  have hb := X.2.1
  have hl : lv_has ls 1 [(0, .ref (b + 45))] := hl
  refine lv_aload_n hx hb dX9_save_0 rfl (lv_at hl 0 rfl) ?_
  refine lv_iconst (v := 0) hx hb dX9_save_1 (by decide) ?_
  refine mp_thrown (v := 0) X w dX9_save_2 (fun H locs w => ?_)
  refine lv_aload_n hx hb dX9_save_5 rfl (lv_at hl 0 rfl) ?_
  refine lv_iconst (v := 1) hx hb dX9_save_6 (by decide) ?_
  refine mp_isSaved (v := 1) X w dX9_save_7 (rfl) (rfl) (fun H locs w => ?_)
  refine lv_aload_n hx hb dX9_save_10 rfl (lv_at hl 0 rfl) ?_
  refine lv_aload_n hx hb dX9_save_11 rfl (lv_at hl 0 rfl) ?_
  refine mg_saved X w dX9_save_12 ?_
  refine lv_iconst (v := 0) hx hb dX9_save_15 (by decide) ?_
  refine lv_iconst (v := 1) hx hb dX9_save_16 (by decide) ?_
  refine mm_cV X w (c_X9_handsAll_27k l D t b n σ0 (va_up (va_up I 0 0) 30 1) Rw 0 1 0 1 (show (0 : Int32).toInt = 0 from rfl) (show (1 : Int32).toInt = 1 from rfl) (by first | assumption | omega) (by first | assumption | omega)) v_X9_352 rfl rfl ⟨Nat.le_of_ble_eq_true rfl, Nat.le_of_ble_eq_true rfl⟩ rfl hl.1 (Nat.le_of_ble_eq_true rfl) dX9_save_17 ⟨Nat.zero_le _, Nat.zero_le _⟩ (fun I_17 R_17 H locs z_17 w => ?_)
  refine lv_aload_n hx hb dX9_save_20 rfl (lv_at hl 0 rfl) ?_
  refine mg_calendars X w dX9_save_21 ?_
  exact q_cret (post := (fun z n1 σ1 => n1 = n ∧ ∃ I1 R1, σ1 = mS t b σ0 I1 R1 ∧ kpI [0, 29, 30, 31] I I1 ∧ (I1 0).toInt = 0 ∧ z = I 5 ∧ I1 30 = 1 ∧ R1 = va_up Rw 27 (bkW (Rw 27) 0 (Rw 2) (Rw 16) (I 5) (I 19)))) X w dX9_save_24 (rfl) ⟨rfl, _, _, rfl, by have hk := kpI.tr (J := [0, 29, 30, 31]) (kpI.up (J := [0, 29, 30, 31]) (kpI.up (J := [0, 29, 30, 31]) kpI.rf (by decide)) (by decide)) z_17.1 (by decide) (by decide); exact ⟨hk, congrArg Int32.toInt (z_17.1 0 (by decide)), hk 5 (by decide), z_17.1 30 (by decide), z_17.2⟩⟩
