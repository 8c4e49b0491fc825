set_option maxHeartbeats 600000 in
set_option maxRecDepth 100000 in
theorem c_X9_output (l : Launch) (D : va_G) (t : Nat → ClassId) (b n : Nat) (σ0 : qM) (I : Nat → Int32) (Rw : Nat → Nat → Int32) (a_ix : Int32) (ix : Int) (e_ix : a_ix.toInt = ix) (h_1 : 0 ≤ (I 25).toInt ∧ (I 25).toInt ≤ 20) (h_2 : ∀ j : Int, 0 ≤ j → j < (I 25).toInt → 0 ≤ (Rw 24 j.toNat).toInt ∧ (Rw 24 j.toNat).toInt < 128) : mC l yX9_output cX9_output 2 (some .char) 1 D t b n σ0 I Rw [.ref (b + 45), .int a_ix] (fun z I1 R1 => R1 = Rw ∧ kpI [0] I I1 ∧ (I1 0).toInt = (if 0 ≤ ix ∧ ix ≤ (I 25).toInt - 1 then 0 else 1) ∧ ((I1 0).toInt = 0 → z.toInt = (Rw 24 ix.toNat).toInt)) := by
  refine qC.of (by decide +kernel) (Nat.le_of_ble_eq_true rfl) (fun p e s m args below meth c X w ls hl => ?_)
  have hx := X.1
  have hb := X.2.1
  have hl : lv_has ls 2 [(0, .ref (b + 45)), (1, .int a_ix)] := hl
  refine lv_aload_n hx hb dX9_output_0 rfl (lv_at hl 0 rfl) ?_
  refine lv_iload_n hx hb dX9_output_1 rfl (lv_at hl 1 rfl) ?_
  refine lv_iconst (v := 0) hx hb dX9_output_2 (by decide) ?_
  refine lv_aload_n hx hb dX9_output_3 rfl (lv_at hl 0 rfl) ?_
  refine mg_written X w dX9_output_4 ?_
  refine lv_iconst (v := 1) hx hb dX9_output_7 (by decide) ?_
  refine lv_isub hx hb dX9_output_8 ?_
  refine lv_topi (fun x_8 e_8 => ?_)
  have p_8 : x_8.toInt = (((I 25).toInt) - 1) := by rw [e_8]; exact t_sub rfl (show (1 : Int32).toInt = 1 from rfl) (by omega) (by omega)
  refine q_cPS X w (c_X9_isBetween l a_ix 0 x_8 ix 0 (((I 25).toInt) - 1) e_ix (show (0 : Int32).toInt = 0 from rfl) p_8 D t b n (mS t b σ0 I Rw)) v_X9_70 rfl ⟨Nat.le_of_ble_eq_true rfl, Nat.le_of_ble_eq_true rfl⟩ rfl hl.1 (Nat.le_of_ble_eq_true rfl) dX9_output_9 ⟨Nat.zero_le _, Nat.zero_le _⟩ (fun r_9 z_9 => ?_)
  refine lv_if_eq (tgt := 19) hx hb dX9_output_12 (by decide) (fun c_12 => ?_) (fun c_12 => ?_)
  · skip
    rw [z_9] at c_12
    have k_12 := bI_f.mp c_12
    refine lv_iconst (v := 1) hx hb dX9_output_19 (by decide) ?_
    refine mp_thrown (v := 1) X w dX9_output_20 (fun H locs w => ?_)
    refine lv_aload_n hx hb dX9_output_23 rfl (lv_at hl 0 rfl) ?_
    refine mg_thrown X w dX9_output_24 ?_
    refine q_topE (y := 1) rfl ?_
    refine lv_if_ne (tgt := 39) hx hb dX9_output_27 (by decide) (fun c_27 => ?_) (fun c_27 => ?_)
    · skip
      have k_27 : ¬ ((1 : Int) = 0) := fun h => c_27 ((g_eq (show (1 : Int32).toInt = 1 from rfl) (show (0 : Int32).toInt = 0 from rfl)).mpr h)
      refine lv_iconst (v := 0) hx hb dX9_output_39 (by decide) ?_
      exact q_cret (post := (fun z n1 σ1 => n1 = n ∧ ∃ I1 R1, σ1 = mS t b σ0 I1 R1 ∧ R1 = Rw ∧ kpI [0] I I1 ∧ (I1 0).toInt = (if 0 ≤ ix ∧ ix ≤ (I 25).toInt - 1 then 0 else 1) ∧ ((I1 0).toInt = 0 → z.toInt = (Rw 24 ix.toNat).toInt))) X w dX9_output_40 (rfl) ⟨rfl, _, _, rfl, rfl, by exact ⟨kpI.up kpI.rf (by decide), (by rw [if_neg k_12]; rfl), fun q => absurd (show (1 : Int) = 0 from q) (by decide)⟩⟩
    · skip
      have k_27 : (1 : Int) = 0 := (g_eq (show (1 : Int32).toInt = 1 from rfl) (show (0 : Int32).toInt = 0 from rfl)).mp c_27
      exact absurd k_27 (by decide)
  · skip
    rw [z_9] at c_12
    have k_12 := bI_t.mp c_12
    refine lv_iconst (v := 0) hx hb dX9_output_15 (by decide) ?_
    refine lv_goto (tgt := 20) hx hb dX9_output_16 (by decide) ?_
    refine mp_thrown (v := 0) X w dX9_output_20 (fun H locs w => ?_)
    refine lv_aload_n hx hb dX9_output_23 rfl (lv_at hl 0 rfl) ?_
    refine mg_thrown X w dX9_output_24 ?_
    refine q_topE (y := 0) rfl ?_
    refine lv_if_ne (tgt := 39) hx hb dX9_output_27 (by decide) (fun c_27 => ?_) (fun c_27 => ?_)
    · skip
      have k_27 : ¬ ((0 : Int) = 0) := fun h => c_27 ((g_eq (show (0 : Int32).toInt = 0 from rfl) (show (0 : Int32).toInt = 0 from rfl)).mpr h)
      exact absurd rfl k_27
    · skip
      have k_27 : (0 : Int) = 0 := (g_eq (show (0 : Int32).toInt = 0 from rfl) (show (0 : Int32).toInt = 0 from rfl)).mp c_27
      refine lv_aload_n hx hb dX9_output_30 rfl (lv_at hl 0 rfl) ?_
      refine mg_output X w dX9_output_31 ?_
      refine lv_iload_n hx hb dX9_output_34 rfl (lv_at hl 1 rfl) ?_
      refine ml_output X w (g_in e_ix (by omega)) dX9_output_35 ?_
      refine q_topE (y := Rw 24 ix.toNat) (congrArg (Rw 24) (g_tn e_ix)) ?_
      refine lv_goto (tgt := 40) hx hb dX9_output_36 (by decide) ?_
      exact q_cret (post := (fun z n1 σ1 => n1 = n ∧ ∃ I1 R1, σ1 = mS t b σ0 I1 R1 ∧ R1 = Rw ∧ kpI [0] I I1 ∧ (I1 0).toInt = (if 0 ≤ ix ∧ ix ≤ (I 25).toInt - 1 then 0 else 1) ∧ ((I1 0).toInt = 0 → z.toInt = (Rw 24 ix.toNat).toInt))) X w dX9_output_40 ((show narrow .char (.int (Rw 24 ix.toNat)) = .int (vp_nar .char (Rw 24 ix.toNat)) from rfl).trans (by rw [(ch_x rfl (h_2 ix (by omega) (by omega)).1 (h_2 ix (by omega) (by omega)).2).2])) ⟨rfl, _, _, rfl, rfl, by exact ⟨kpI.up kpI.rf (by decide), (by rw [if_pos k_12]; rfl), fun _ => rfl⟩⟩

set_option maxHeartbeats 600000 in
set_option maxRecDepth 100000 in
theorem c_X9_write (l : Launch) (D : va_G) (t : Nat → ClassId) (b n : Nat) (σ0 : qM) (I : Nat → Int32) (Rw : Nat → Nat → Int32) (a_ca : Int32) (a_dy : Int32) (ca : Int) (dy : Int) (e_ca : a_ca.toInt = ca) (e_dy : a_dy.toInt = dy) (h_1 : (I 5).toInt ≤ 6) (h_2 : ∀ c : Int, 0 ≤ c → c < (I 5).toInt → okRow (rowM Rw c)) (h_3 : ∀ c : Int, 0 ≤ c → c < (I 5).toInt → okF Rw c) : mC l yX9_write cX9_write 3 (some .int) 6 D t b n σ0 I Rw [.ref (b + 45), .int a_ca, .int a_dy] (fun z I1 R1 => kpI [0, 6, 7, 8, 25] I I1 ∧ kpR [24] Rw R1 ∧ (I1 0).toInt = cd3 (0 ≤ ca ∧ ca < (I 5).toInt) (-999999 ≤ dy ∧ dy ≤ 999999) (fst (rowM Rw ca) (-2000) ≤ dy ∧ dy < fst (rowM Rw ca) 2001) ∧ ((I1 0).toInt = 0 → z = I1 25 ∧ ((I1 25).toInt = (wrt (rowM Rw ca) dy).1 ∧ outP R1 (wrt (rowM Rw ca) dy).1 (wrt (rowM Rw ca) dy).2)) ∧ ((I1 0).toInt ≠ 0 → I1 25 = I 25 ∧ R1 = Rw)) := by
  refine qC.of (by decide +kernel) (Nat.le_of_ble_eq_true rfl) (fun p e s m args below meth c X w ls hl => ?_)
  have hx := X.1
  have hb := X.2.1
  have hl : lv_has ls 3 [(0, .ref (b + 45)), (1, .int a_ca), (2, .int a_dy)] := hl
  refine lv_aload_n hx hb dX9_write_0 rfl (lv_at hl 0 rfl) ?_
  refine lv_iload_n hx hb dX9_write_1 rfl (lv_at hl 1 rfl) ?_
  refine q_cPV X w (c_X9_isCalendar l D t b n σ0 I Rw a_ca ca e_ca) v_X9_221 (k := 45) rfl rfl rfl ⟨Nat.le_of_ble_eq_true rfl, Nat.le_of_ble_eq_true rfl⟩ rfl hl.1 (Nat.le_of_ble_eq_true rfl) dX9_write_2 ⟨Nat.zero_le _, Nat.zero_le _⟩ (fun r_2 z_2 => ?_)
  refine lv_if_ne (tgt := 14) hx hb dX9_write_5 (by decide) (fun c_5 => ?_) (fun c_5 => ?_)
  · skip
    rw [z_2] at c_5
    have k_5 := bI_t.mp c_5
    have hq := h_2 ca k_5.1 k_5.2
    have hF := h_3 ca k_5.1 k_5.2
    refine lv_iload_n hx hb dX9_write_14 rfl (lv_at hl 2 rfl) ?_
    refine q_cPS X w (c_X9_isDay l a_dy dy e_dy D t b n (mS t b σ0 I Rw)) v_X9_238 rfl ⟨Nat.le_of_ble_eq_true rfl, Nat.le_of_ble_eq_true rfl⟩ rfl hl.1 (Nat.le_of_ble_eq_true rfl) dX9_write_15 ⟨Nat.zero_le _, Nat.zero_le _⟩ (fun r_15 z_15 => ?_)
    refine lv_if_ne (tgt := 27) hx hb dX9_write_18 (by decide) (fun c_18 => ?_) (fun c_18 => ?_)
    · skip
      rw [z_15] at c_18
      have k_18 := bI_t.mp c_18
      refine lv_aload_n hx hb dX9_write_27 rfl (lv_at hl 0 rfl) ?_
      refine lv_iload_n hx hb dX9_write_28 rfl (lv_at hl 1 rfl) ?_
      refine lv_iload_n hx hb dX9_write_29 rfl (lv_at hl 2 rfl) ?_
      refine q_cPV X w (c_X9_isInside l D t b n σ0 I Rw a_ca a_dy ca dy e_ca e_dy (by first | assumption | omega) (by first | assumption | omega) (by first | assumption | omega)) v_X9_244 (k := 45) rfl rfl rfl ⟨Nat.le_of_ble_eq_true rfl, Nat.le_of_ble_eq_true rfl⟩ rfl hl.1 (Nat.le_of_ble_eq_true rfl) dX9_write_30 ⟨Nat.zero_le _, Nat.zero_le _⟩ (fun r_30 z_30 => ?_)
      refine lv_if_ne (tgt := 42) hx hb dX9_write_33 (by decide) (fun c_33 => ?_) (fun c_33 => ?_)
      · skip
        rw [z_30] at c_33
        have k_33 := bI_t.mp c_33
        refine lv_aload_n hx hb dX9_write_42 rfl (lv_at hl 0 rfl) ?_
        refine lv_iconst (v := 0) hx hb dX9_write_43 (by decide) ?_
        refine mp_thrown (v := 0) X w dX9_write_44 (fun H locs w => ?_)
        refine lv_aload_n hx hb dX9_write_47 rfl (lv_at hl 0 rfl) ?_
        refine lv_iload_n hx hb dX9_write_48 rfl (lv_at hl 1 rfl) ?_
        refine lv_iload_n hx hb dX9_write_49 rfl (lv_at hl 2 rfl) ?_
        refine mm_cVI X w (c_X9_findDate l D t b n σ0 (va_up I 0 0) Rw a_ca a_dy ca dy e_ca e_dy (by first | assumption | omega) (by first | assumption | omega) (by first | assumption | omega) (by first | assumption | omega)) v_X9_136 rfl rfl ⟨Nat.le_of_ble_eq_true rfl, Nat.le_of_ble_eq_true rfl⟩ rfl hl.1 (Nat.le_of_ble_eq_true rfl) dX9_write_50 ⟨Nat.zero_le _, Nat.zero_le _⟩ (fun I_50 H locs z_50 w => ?_)
        refine lv_aload_n hx hb dX9_write_53 rfl (lv_at hl 0 rfl) ?_
        refine lv_iconst (v := 0) hx hb dX9_write_54 (by decide) ?_
        refine mp_written (v := 0) X w dX9_write_55 (fun H locs w => ?_)
        have KI := kpI.up (J := [0, 6, 7, 8, 25]) (kpI.tr (J := [0, 6, 7, 8, 25]) (kpI.up (J := [0, 6, 7, 8, 25]) kpI.rf (by decide)) z_50.1 (by decide) (by decide)) (j := 25) (v := 0) (by decide)
        have hy := yof_in hq k_33.1 k_33.2
        have hM := mof_bd hq dy
        have hD := dof_bd hq k_33.1 k_33.2
        have hC := mcnt_bd hq (yof (rowM Rw ca) dy)
        have hLm := mlen_bd hq hM.1 hM.2
        have d1 := dN_bd (dof (rowM Rw ca) dy)
        have d2 := dN_bd (mof (rowM Rw ca) dy)
        have d3 : dN (dof (rowM Rw ca) dy) ≤ 2 := dN_2 (by omega)
        have d4 : dN (mof (rowM Rw ca) dy) ≤ 2 := dN_2 (by omega)
        have i25 : ((va_up I_50 25 0) 25).toInt = 0 := rfl
        refine lv_aload_n hx hb dX9_write_58 rfl (lv_at hl 0 rfl) ?_
        refine lv_aload_n hx hb dX9_write_59 rfl (lv_at hl 0 rfl) ?_
        refine mg_dayOfMonth X w dX9_write_60 ?_
        refine mm_cV X w (c_X9_printsNumber l D t b n σ0 (va_up I_50 25 0) Rw ad0.2 ((va_up I_50 25 0) 8) (dof (rowM Rw ca) dy) z_50.2.2.2 (by omega) (by exact ⟨(show (0 : Int) ≤ 0 by omega), (show (0 : Int) ≤ 16 by omega)⟩) (by exact fun j a1 a2 => absurd (show j < 0 from a2) (by omega))) v_X9_330 rfl rfl ⟨Nat.le_of_ble_eq_true rfl, Nat.le_of_ble_eq_true rfl⟩ rfl hl.1 (Nat.le_of_ble_eq_true rfl) dX9_write_63 ⟨Nat.zero_le _, Nat.zero_le _⟩ (fun I_63 R_63 H locs z_63 w => ?_)
        have KR_63 : kpR [24] Rw R_63 := kpR.tr (J := [24]) (kpR.rf (J := [24]) (R := Rw)) z_63.2.1 (by decide) (by decide)
        have W_63 : (I_63 25).toInt = (ad ad0 (dN (dof (rowM Rw ca) dy)) (dD (dof (rowM Rw ca) dy))).1 ∧ outP R_63 (ad ad0 (dN (dof (rowM Rw ca) dy)) (dD (dof (rowM Rw ca) dy))).1 (ad ad0 (dN (dof (rowM Rw ca) dy)) (dD (dof (rowM Rw ca) dy))).2 := by have h := z_63.2.2; rw [(show ((va_up I_50 25 0) 25).toInt = ad0.1 from rfl)] at h; exact h
        have KI_63 := kpI.tr (J := [0, 6, 7, 8, 25]) KI z_63.1 (by decide) (by decide)
        refine lv_aload_n hx hb dX9_write_66 rfl (lv_at hl 0 rfl) ?_
        refine lv_bipush (v := 46) hx hb dX9_write_67 (by decide) ?_
        refine mm_cV X w (c_X9_prints l D t b n σ0 I_63 R_63 46 46 (show (46 : Int32).toInt = 46 from rfl) (by decide) (by omega)) v_X9_326 rfl rfl ⟨Nat.le_of_ble_eq_true rfl, Nat.le_of_ble_eq_true rfl⟩ rfl hl.1 (Nat.le_of_ble_eq_true rfl) dX9_write_69 ⟨Nat.zero_le _, Nat.zero_le _⟩ (fun I_69 R_69 H locs z_69 w => ?_)
        have KR_69 : kpR [24] Rw R_69 := by rw [z_69.2.2]; exact kpR.up KR_63 (by decide)
        have W_69 : (I_69 25).toInt = (ad (ad ad0 (dN (dof (rowM Rw ca) dy)) (dD (dof (rowM Rw ca) dy))) 1 (fun _ => 46)).1 ∧ outP R_69 (ad (ad ad0 (dN (dof (rowM Rw ca) dy)) (dD (dof (rowM Rw ca) dy))) 1 (fun _ => 46)).1 (ad (ad ad0 (dN (dof (rowM Rw ca) dy)) (dD (dof (rowM Rw ca) dy))) 1 (fun _ => 46)).2 := ⟨z_69.2.1.trans (by rw [W_63.1]; rfl), by rw [z_69.2.2, W_63.1]; exact outP_s (by rw [← W_63.1]; omega) W_63.2 rfl⟩
        have KI_69 := kpI.tr (J := [0, 6, 7, 8, 25]) KI_63 z_69.1 (by decide) (by decide)
        refine lv_aload_n hx hb dX9_write_72 rfl (lv_at hl 0 rfl) ?_
        refine lv_aload_n hx hb dX9_write_73 rfl (lv_at hl 0 rfl) ?_
        refine mg_month X w dX9_write_74 ?_
        refine mm_cV X w (c_X9_printsNumber l D t b n σ0 I_69 R_69 ((ad (ad ad0 (dN (dof (rowM Rw ca) dy)) (dD (dof (rowM Rw ca) dy))) 1 (fun _ => 46)).2) (I_69 7) (mof (rowM Rw ca) dy) ((congrArg Int32.toInt (z_69.1 7 (by decide))).trans ((congrArg Int32.toInt (z_63.1 7 (by decide))).trans z_50.2.2.1)) (by omega) (by omega) (by rw [W_69.1]; exact W_69.2)) v_X9_330 rfl rfl ⟨Nat.le_of_ble_eq_true rfl, Nat.le_of_ble_eq_true rfl⟩ rfl hl.1 (Nat.le_of_ble_eq_true rfl) dX9_write_77 ⟨Nat.zero_le _, Nat.zero_le _⟩ (fun I_77 R_77 H locs z_77 w => ?_)
        have KR_77 : kpR [24] Rw R_77 := kpR.tr (J := [24]) KR_69 z_77.2.1 (by decide) (by decide)
        have W_77 : (I_77 25).toInt = (ad (ad (ad ad0 (dN (dof (rowM Rw ca) dy)) (dD (dof (rowM Rw ca) dy))) 1 (fun _ => 46)) (dN (mof (rowM Rw ca) dy)) (dD (mof (rowM Rw ca) dy))).1 ∧ outP R_77 (ad (ad (ad ad0 (dN (dof (rowM Rw ca) dy)) (dD (dof (rowM Rw ca) dy))) 1 (fun _ => 46)) (dN (mof (rowM Rw ca) dy)) (dD (mof (rowM Rw ca) dy))).1 (ad (ad (ad ad0 (dN (dof (rowM Rw ca) dy)) (dD (dof (rowM Rw ca) dy))) 1 (fun _ => 46)) (dN (mof (rowM Rw ca) dy)) (dD (mof (rowM Rw ca) dy))).2 := by have h := z_77.2.2; rw [W_69.1] at h; exact h
        have KI_77 := kpI.tr (J := [0, 6, 7, 8, 25]) KI_69 z_77.1 (by decide) (by decide)
        refine lv_aload_n hx hb dX9_write_80 rfl (lv_at hl 0 rfl) ?_
        refine lv_iload_n hx hb dX9_write_81 rfl (lv_at hl 1 rfl) ?_
        refine lv_aload_n hx hb dX9_write_82 rfl (lv_at hl 0 rfl) ?_
        refine mg_year X w dX9_write_83 ?_
        refine lv_aload_n hx hb dX9_write_86 rfl (lv_at hl 0 rfl) ?_
        refine mg_month X w dX9_write_87 ?_
        refine q_cPV X w (c_X9_isMore l D t b n σ0 I_77 R_77 a_ca (I_77 6) (I_77 7) ca (yof (rowM Rw ca) dy) (mof (rowM Rw ca) dy) e_ca ((congrArg Int32.toInt (z_77.1 6 (by decide))).trans ((congrArg Int32.toInt (z_69.1 6 (by decide))).trans ((congrArg Int32.toInt (z_63.1 6 (by decide))).trans z_50.2.1))) ((congrArg Int32.toInt (z_77.1 7 (by decide))).trans ((congrArg Int32.toInt (z_69.1 7 (by decide))).trans ((congrArg Int32.toInt (z_63.1 7 (by decide))).trans z_50.2.2.1))) (by omega) (by rw [rowM_cg (KR_77 2 (by decide))]; exact hq)) v_X9_107 (k := 45) rfl rfl rfl ⟨Nat.le_of_ble_eq_true rfl, Nat.le_of_ble_eq_true rfl⟩ rfl hl.1 (Nat.le_of_ble_eq_true rfl) dX9_write_90 ⟨Nat.zero_le _, Nat.zero_le _⟩ (fun r_90 z_90 => ?_)
        refine lv_if_eq (tgt := 102) hx hb dX9_write_93 (by decide) (fun c_93 => ?_) (fun c_93 => ?_)
        · skip
          rw [z_90] at c_93
          have k_93 := bI_f.mp c_93
          have kM := k_93
          rw [rowM_cg (KR_77 2 (by decide))] at kM
          refine lv_aload_n hx hb dX9_write_102 rfl (lv_at hl 0 rfl) ?_
          refine lv_bipush (v := 46) hx hb dX9_write_103 (by decide) ?_
          refine mm_cV X w (c_X9_prints l D t b n σ0 I_77 R_77 46 46 (show (46 : Int32).toInt = 46 from rfl) (by decide) (by omega)) v_X9_326 rfl rfl ⟨Nat.le_of_ble_eq_true rfl, Nat.le_of_ble_eq_true rfl⟩ rfl hl.1 (Nat.le_of_ble_eq_true rfl) dX9_write_105 ⟨Nat.zero_le _, Nat.zero_le _⟩ (fun I_105 R_105 H locs z_105 w => ?_)
          have KR_105 : kpR [24] Rw R_105 := by rw [z_105.2.2]; exact kpR.up KR_77 (by decide)
          have W_105 : (I_105 25).toInt = (ad (ad (ad (ad ad0 (dN (dof (rowM Rw ca) dy)) (dD (dof (rowM Rw ca) dy))) 1 (fun _ => 46)) (dN (mof (rowM Rw ca) dy)) (dD (mof (rowM Rw ca) dy))) 1 (fun _ => 46)).1 ∧ outP R_105 (ad (ad (ad (ad ad0 (dN (dof (rowM Rw ca) dy)) (dD (dof (rowM Rw ca) dy))) 1 (fun _ => 46)) (dN (mof (rowM Rw ca) dy)) (dD (mof (rowM Rw ca) dy))) 1 (fun _ => 46)).1 (ad (ad (ad (ad ad0 (dN (dof (rowM Rw ca) dy)) (dD (dof (rowM Rw ca) dy))) 1 (fun _ => 46)) (dN (mof (rowM Rw ca) dy)) (dD (mof (rowM Rw ca) dy))) 1 (fun _ => 46)).2 := ⟨z_105.2.1.trans (by rw [W_77.1]; rfl), by rw [z_105.2.2, W_77.1]; exact outP_s (by rw [← W_77.1]; omega) W_77.2 rfl⟩
          have KI_105 := kpI.tr (J := [0, 6, 7, 8, 25]) KI_77 z_105.1 (by decide) (by decide)
          refine lv_aload_n hx hb dX9_write_108 rfl (lv_at hl 0 rfl) ?_
          refine mg_year X w dX9_write_109 ?_
          refine lv_if_ge (tgt := 121) hx hb dX9_write_112 (by decide) (fun c_112 => ?_) (fun c_112 => ?_)
          · skip
            have k_112 : 0 ≤ (yof (rowM Rw ca) dy) := (g_le (show (0 : Int32).toInt = 0 from rfl) ((congrArg Int32.toInt (z_105.1 6 (by decide))).trans ((congrArg Int32.toInt (z_77.1 6 (by decide))).trans ((congrArg Int32.toInt (z_69.1 6 (by decide))).trans ((congrArg Int32.toInt (z_63.1 6 (by decide))).trans z_50.2.1))))).mp c_112
            refine lv_aload_n hx hb dX9_write_121 rfl (lv_at hl 0 rfl) ?_
            refine lv_aload_n hx hb dX9_write_122 rfl (lv_at hl 0 rfl) ?_
            refine mg_year X w dX9_write_123 ?_
            refine lv_if_ge (tgt := 137) hx hb dX9_write_126 (by decide) (fun c_126 => ?_) (fun c_126 => ?_)
            · skip
              have k_126 : 0 ≤ (yof (rowM Rw ca) dy) := (g_le (show (0 : Int32).toInt = 0 from rfl) ((congrArg Int32.toInt (z_105.1 6 (by decide))).trans ((congrArg Int32.toInt (z_77.1 6 (by decide))).trans ((congrArg Int32.toInt (z_69.1 6 (by decide))).trans ((congrArg Int32.toInt (z_63.1 6 (by decide))).trans z_50.2.1))))).mp c_126
              refine lv_aload_n hx hb dX9_write_137 rfl (lv_at hl 0 rfl) ?_
              refine mg_year X w dX9_write_138 ?_
              refine mm_cV X w (c_X9_printsNumber l D t b n σ0 I_105 R_105 ((ad (ad (ad (ad ad0 (dN (dof (rowM Rw ca) dy)) (dD (dof (rowM Rw ca) dy))) 1 (fun _ => 46)) (dN (mof (rowM Rw ca) dy)) (dD (mof (rowM Rw ca) dy))) 1 (fun _ => 46)).2) (I_105 6) (yof (rowM Rw ca) dy) ((congrArg Int32.toInt (z_105.1 6 (by decide))).trans ((congrArg Int32.toInt (z_77.1 6 (by decide))).trans ((congrArg Int32.toInt (z_69.1 6 (by decide))).trans ((congrArg Int32.toInt (z_63.1 6 (by decide))).trans z_50.2.1)))) (by omega) (by omega) (by rw [W_105.1]; exact W_105.2)) v_X9_330 rfl rfl ⟨Nat.le_of_ble_eq_true rfl, Nat.le_of_ble_eq_true rfl⟩ rfl hl.1 (Nat.le_of_ble_eq_true rfl) dX9_write_141 ⟨Nat.zero_le _, Nat.zero_le _⟩ (fun I_141 R_141 H locs z_141 w => ?_)
              have KR_141 : kpR [24] Rw R_141 := kpR.tr (J := [24]) KR_105 z_141.2.1 (by decide) (by decide)
              have W_141 : (I_141 25).toInt = (ad (ad (ad (ad (ad ad0 (dN (dof (rowM Rw ca) dy)) (dD (dof (rowM Rw ca) dy))) 1 (fun _ => 46)) (dN (mof (rowM Rw ca) dy)) (dD (mof (rowM Rw ca) dy))) 1 (fun _ => 46)) (dN (yof (rowM Rw ca) dy)) (dD (yof (rowM Rw ca) dy))).1 ∧ outP R_141 (ad (ad (ad (ad (ad ad0 (dN (dof (rowM Rw ca) dy)) (dD (dof (rowM Rw ca) dy))) 1 (fun _ => 46)) (dN (mof (rowM Rw ca) dy)) (dD (mof (rowM Rw ca) dy))) 1 (fun _ => 46)) (dN (yof (rowM Rw ca) dy)) (dD (yof (rowM Rw ca) dy))).1 (ad (ad (ad (ad (ad ad0 (dN (dof (rowM Rw ca) dy)) (dD (dof (rowM Rw ca) dy))) 1 (fun _ => 46)) (dN (mof (rowM Rw ca) dy)) (dD (mof (rowM Rw ca) dy))) 1 (fun _ => 46)) (dN (yof (rowM Rw ca) dy)) (dD (yof (rowM Rw ca) dy))).2 := by have h := z_141.2.2; rw [W_105.1] at h; exact h
              have KI_141 := kpI.tr (J := [0, 6, 7, 8, 25]) KI_105 z_141.1 (by decide) (by decide)
              refine lv_aload_n hx hb dX9_write_144 rfl (lv_at hl 0 rfl) ?_
              refine mg_written X w dX9_write_145 ?_
              exact q_cret (post := (fun z n1 σ1 => n1 = n ∧ ∃ I1 R1, σ1 = mS t b σ0 I1 R1 ∧ kpI [0, 6, 7, 8, 25] I I1 ∧ kpR [24] Rw R1 ∧ (I1 0).toInt = cd3 (0 ≤ ca ∧ ca < (I 5).toInt) (-999999 ≤ dy ∧ dy ≤ 999999) (fst (rowM Rw ca) (-2000) ≤ dy ∧ dy < fst (rowM Rw ca) 2001) ∧ ((I1 0).toInt = 0 → z = I1 25 ∧ ((I1 25).toInt = (wrt (rowM Rw ca) dy).1 ∧ outP R1 (wrt (rowM Rw ca) dy).1 (wrt (rowM Rw ca) dy).2)) ∧ ((I1 0).toInt ≠ 0 → I1 25 = I 25 ∧ R1 = Rw))) X w dX9_write_148 (rfl) ⟨rfl, _, _, rfl, by have c0 : (I_141 0).toInt = 0 := congrArg Int32.toInt ((z_141.1 0 (by decide)).trans ((z_105.1 0 (by decide)).trans ((z_77.1 0 (by decide)).trans ((z_69.1 0 (by decide)).trans ((z_63.1 0 (by decide)).trans (z_50.1 0 (by decide))))))); have e : wrt (rowM Rw ca) dy = (ad (ad (ad (ad (ad ad0 (dN (dof (rowM Rw ca) dy)) (dD (dof (rowM Rw ca) dy))) 1 (fun _ => 46)) (dN (mof (rowM Rw ca) dy)) (dD (mof (rowM Rw ca) dy))) 1 (fun _ => 46)) (dN (yof (rowM Rw ca) dy)) (dD (yof (rowM Rw ca) dy))) := (by unfold wrt wrt6 wrt4 absI; rw [if_neg kM]; simp only [if_neg (show ¬ yof (rowM Rw ca) dy < 0 by omega)]); exact ⟨KI_141, KR_141.wk (by decide), c0.trans (by rw [cd3_0 k_5 k_18 k_33]), fun _ => ⟨rfl, by rw [e]; exact W_141⟩, fun q => absurd (c0.trans rfl) q⟩⟩
            · skip
              have k_126 : ¬ (0 ≤ (yof (rowM Rw ca) dy)) := fun h => c_126 ((g_le (show (0 : Int32).toInt = 0 from rfl) ((congrArg Int32.toInt (z_105.1 6 (by decide))).trans ((congrArg Int32.toInt (z_77.1 6 (by decide))).trans ((congrArg Int32.toInt (z_69.1 6 (by decide))).trans ((congrArg Int32.toInt (z_63.1 6 (by decide))).trans z_50.2.1))))).mpr h)
              exact absurd k_126 (by omega)
          · skip
            have k_112 : ¬ (0 ≤ (yof (rowM Rw ca) dy)) := fun h => c_112 ((g_le (show (0 : Int32).toInt = 0 from rfl) ((congrArg Int32.toInt (z_105.1 6 (by decide))).trans ((congrArg Int32.toInt (z_77.1 6 (by decide))).trans ((congrArg Int32.toInt (z_69.1 6 (by decide))).trans ((congrArg Int32.toInt (z_63.1 6 (by decide))).trans z_50.2.1))))).mpr h)
            refine lv_aload_n hx hb dX9_write_115 rfl (lv_at hl 0 rfl) ?_
            refine lv_bipush (v := 45) hx hb dX9_write_116 (by decide) ?_
            refine mm_cV X w (c_X9_prints l D t b n σ0 I_105 R_105 45 45 (show (45 : Int32).toInt = 45 from rfl) (by decide) (by omega)) v_X9_326 rfl rfl ⟨Nat.le_of_ble_eq_true rfl, Nat.le_of_ble_eq_true rfl⟩ rfl hl.1 (Nat.le_of_ble_eq_true rfl) dX9_write_118 ⟨Nat.zero_le _, Nat.zero_le _⟩ (fun I_118 R_118 H locs z_118 w => ?_)
            have KR_118 : kpR [24] Rw R_118 := by rw [z_118.2.2]; exact kpR.up KR_105 (by decide)
            have W_118 : (I_118 25).toInt = (ad (ad (ad (ad (ad ad0 (dN (dof (rowM Rw ca) dy)) (dD (dof (rowM Rw ca) dy))) 1 (fun _ => 46)) (dN (mof (rowM Rw ca) dy)) (dD (mof (rowM Rw ca) dy))) 1 (fun _ => 46)) 1 (fun _ => 45)).1 ∧ outP R_118 (ad (ad (ad (ad (ad ad0 (dN (dof (rowM Rw ca) dy)) (dD (dof (rowM Rw ca) dy))) 1 (fun _ => 46)) (dN (mof (rowM Rw ca) dy)) (dD (mof (rowM Rw ca) dy))) 1 (fun _ => 46)) 1 (fun _ => 45)).1 (ad (ad (ad (ad (ad ad0 (dN (dof (rowM Rw ca) dy)) (dD (dof (rowM Rw ca) dy))) 1 (fun _ => 46)) (dN (mof (rowM Rw ca) dy)) (dD (mof (rowM Rw ca) dy))) 1 (fun _ => 46)) 1 (fun _ => 45)).2 := ⟨z_118.2.1.trans (by rw [W_105.1]; rfl), by rw [z_118.2.2, W_105.1]; exact outP_s (by rw [← W_105.1]; omega) W_105.2 rfl⟩
            have KI_118 := kpI.tr (J := [0, 6, 7, 8, 25]) KI_105 z_118.1 (by decide) (by decide)
            refine lv_aload_n hx hb dX9_write_121 rfl (lv_at hl 0 rfl) ?_
            refine lv_aload_n hx hb dX9_write_122 rfl (lv_at hl 0 rfl) ?_
            refine mg_year X w dX9_write_123 ?_
            refine lv_if_ge (tgt := 137) hx hb dX9_write_126 (by decide) (fun c_126 => ?_) (fun c_126 => ?_)
            · skip
              have k_126 : 0 ≤ (yof (rowM Rw ca) dy) := (g_le (show (0 : Int32).toInt = 0 from rfl) ((congrArg Int32.toInt (z_118.1 6 (by decide))).trans ((congrArg Int32.toInt (z_105.1 6 (by decide))).trans ((congrArg Int32.toInt (z_77.1 6 (by decide))).trans ((congrArg Int32.toInt (z_69.1 6 (by decide))).trans ((congrArg Int32.toInt (z_63.1 6 (by decide))).trans z_50.2.1)))))).mp c_126
              exact absurd k_126 (by omega)
            · skip
              have k_126 : ¬ (0 ≤ (yof (rowM Rw ca) dy)) := fun h => c_126 ((g_le (show (0 : Int32).toInt = 0 from rfl) ((congrArg Int32.toInt (z_118.1 6 (by decide))).trans ((congrArg Int32.toInt (z_105.1 6 (by decide))).trans ((congrArg Int32.toInt (z_77.1 6 (by decide))).trans ((congrArg Int32.toInt (z_69.1 6 (by decide))).trans ((congrArg Int32.toInt (z_63.1 6 (by decide))).trans z_50.2.1)))))).mpr h)
              refine lv_aload_n hx hb dX9_write_129 rfl (lv_at hl 0 rfl) ?_
              refine mg_year X w dX9_write_130 ?_
              refine lv_ineg hx hb dX9_write_133 ?_
              refine lv_topi (fun x_133 e_133 => ?_)
              have p_133 : x_133.toInt = -(yof (rowM Rw ca) dy) := by rw [e_133]; exact t_neg ((congrArg Int32.toInt (z_118.1 6 (by decide))).trans ((congrArg Int32.toInt (z_105.1 6 (by decide))).trans ((congrArg Int32.toInt (z_77.1 6 (by decide))).trans ((congrArg Int32.toInt (z_69.1 6 (by decide))).trans ((congrArg Int32.toInt (z_63.1 6 (by decide))).trans z_50.2.1))))) (by omega)
              refine lv_goto (tgt := 141) hx hb dX9_write_134 (by decide) ?_
              refine mm_cV X w (c_X9_printsNumber l D t b n σ0 I_118 R_118 ((ad (ad (ad (ad (ad ad0 (dN (dof (rowM Rw ca) dy)) (dD (dof (rowM Rw ca) dy))) 1 (fun _ => 46)) (dN (mof (rowM Rw ca) dy)) (dD (mof (rowM Rw ca) dy))) 1 (fun _ => 46)) 1 (fun _ => 45)).2) x_133 (-(yof (rowM Rw ca) dy)) p_133 (by omega) (by omega) (by rw [W_118.1]; exact W_118.2)) v_X9_330 rfl rfl ⟨Nat.le_of_ble_eq_true rfl, Nat.le_of_ble_eq_true rfl⟩ rfl hl.1 (Nat.le_of_ble_eq_true rfl) dX9_write_141 ⟨Nat.zero_le _, Nat.zero_le _⟩ (fun I_141 R_141 H locs z_141 w => ?_)
              have KR_141 : kpR [24] Rw R_141 := kpR.tr (J := [24]) KR_118 z_141.2.1 (by decide) (by decide)
              have W_141 : (I_141 25).toInt = (ad (ad (ad (ad (ad (ad ad0 (dN (dof (rowM Rw ca) dy)) (dD (dof (rowM Rw ca) dy))) 1 (fun _ => 46)) (dN (mof (rowM Rw ca) dy)) (dD (mof (rowM Rw ca) dy))) 1 (fun _ => 46)) 1 (fun _ => 45)) (dN (-(yof (rowM Rw ca) dy))) (dD (-(yof (rowM Rw ca) dy)))).1 ∧ outP R_141 (ad (ad (ad (ad (ad (ad ad0 (dN (dof (rowM Rw ca) dy)) (dD (dof (rowM Rw ca) dy))) 1 (fun _ => 46)) (dN (mof (rowM Rw ca) dy)) (dD (mof (rowM Rw ca) dy))) 1 (fun _ => 46)) 1 (fun _ => 45)) (dN (-(yof (rowM Rw ca) dy))) (dD (-(yof (rowM Rw ca) dy)))).1 (ad (ad (ad (ad (ad (ad ad0 (dN (dof (rowM Rw ca) dy)) (dD (dof (rowM Rw ca) dy))) 1 (fun _ => 46)) (dN (mof (rowM Rw ca) dy)) (dD (mof (rowM Rw ca) dy))) 1 (fun _ => 46)) 1 (fun _ => 45)) (dN (-(yof (rowM Rw ca) dy))) (dD (-(yof (rowM Rw ca) dy)))).2 := by have h := z_141.2.2; rw [W_118.1] at h; exact h
              have KI_141 := kpI.tr (J := [0, 6, 7, 8, 25]) KI_118 z_141.1 (by decide) (by decide)
              refine lv_aload_n hx hb dX9_write_144 rfl (lv_at hl 0 rfl) ?_
              refine mg_written X w dX9_write_145 ?_
              exact q_cret (post := (fun z n1 σ1 => n1 = n ∧ ∃ I1 R1, σ1 = mS t b σ0 I1 R1 ∧ kpI [0, 6, 7, 8, 25] I I1 ∧ kpR [24] Rw R1 ∧ (I1 0).toInt = cd3 (0 ≤ ca ∧ ca < (I 5).toInt) (-999999 ≤ dy ∧ dy ≤ 999999) (fst (rowM Rw ca) (-2000) ≤ dy ∧ dy < fst (rowM Rw ca) 2001) ∧ ((I1 0).toInt = 0 → z = I1 25 ∧ ((I1 25).toInt = (wrt (rowM Rw ca) dy).1 ∧ outP R1 (wrt (rowM Rw ca) dy).1 (wrt (rowM Rw ca) dy).2)) ∧ ((I1 0).toInt ≠ 0 → I1 25 = I 25 ∧ R1 = Rw))) X w dX9_write_148 (rfl) ⟨rfl, _, _, rfl, by have c0 : (I_141 0).toInt = 0 := congrArg Int32.toInt ((z_141.1 0 (by decide)).trans ((z_118.1 0 (by decide)).trans ((z_105.1 0 (by decide)).trans ((z_77.1 0 (by decide)).trans ((z_69.1 0 (by decide)).trans ((z_63.1 0 (by decide)).trans (z_50.1 0 (by decide)))))))); have e : wrt (rowM Rw ca) dy = (ad (ad (ad (ad (ad (ad ad0 (dN (dof (rowM Rw ca) dy)) (dD (dof (rowM Rw ca) dy))) 1 (fun _ => 46)) (dN (mof (rowM Rw ca) dy)) (dD (mof (rowM Rw ca) dy))) 1 (fun _ => 46)) 1 (fun _ => 45)) (dN (-(yof (rowM Rw ca) dy))) (dD (-(yof (rowM Rw ca) dy)))) := (by unfold wrt wrt6 wrt4 absI; rw [if_neg kM]; simp only [if_pos (show yof (rowM Rw ca) dy < 0 by omega)]); exact ⟨KI_141, KR_141.wk (by decide), c0.trans (by rw [cd3_0 k_5 k_18 k_33]), fun _ => ⟨rfl, by rw [e]; exact W_141⟩, fun q => absurd (c0.trans rfl) q⟩⟩
        · skip
          rw [z_90] at c_93
          have k_93 := bI_t.mp c_93
          have kM := k_93
          rw [rowM_cg (KR_77 2 (by decide))] at kM
          refine lv_aload_n hx hb dX9_write_96 rfl (lv_at hl 0 rfl) ?_
          refine lv_bipush (v := 105) hx hb dX9_write_97 (by decide) ?_
          refine mm_cV X w (c_X9_prints l D t b n σ0 I_77 R_77 105 105 (show (105 : Int32).toInt = 105 from rfl) (by decide) (by omega)) v_X9_326 rfl rfl ⟨Nat.le_of_ble_eq_true rfl, Nat.le_of_ble_eq_true rfl⟩ rfl hl.1 (Nat.le_of_ble_eq_true rfl) dX9_write_99 ⟨Nat.zero_le _, Nat.zero_le _⟩ (fun I_99 R_99 H locs z_99 w => ?_)
          have KR_99 : kpR [24] Rw R_99 := by rw [z_99.2.2]; exact kpR.up KR_77 (by decide)
          have W_99 : (I_99 25).toInt = (ad (ad (ad (ad ad0 (dN (dof (rowM Rw ca) dy)) (dD (dof (rowM Rw ca) dy))) 1 (fun _ => 46)) (dN (mof (rowM Rw ca) dy)) (dD (mof (rowM Rw ca) dy))) 1 (fun _ => 105)).1 ∧ outP R_99 (ad (ad (ad (ad ad0 (dN (dof (rowM Rw ca) dy)) (dD (dof (rowM Rw ca) dy))) 1 (fun _ => 46)) (dN (mof (rowM Rw ca) dy)) (dD (mof (rowM Rw ca) dy))) 1 (fun _ => 105)).1 (ad (ad (ad (ad ad0 (dN (dof (rowM Rw ca) dy)) (dD (dof (rowM Rw ca) dy))) 1 (fun _ => 46)) (dN (mof (rowM Rw ca) dy)) (dD (mof (rowM Rw ca) dy))) 1 (fun _ => 105)).2 := ⟨z_99.2.1.trans (by rw [W_77.1]; rfl), by rw [z_99.2.2, W_77.1]; exact outP_s (by rw [← W_77.1]; omega) W_77.2 rfl⟩
          have KI_99 := kpI.tr (J := [0, 6, 7, 8, 25]) KI_77 z_99.1 (by decide) (by decide)
          refine lv_aload_n hx hb dX9_write_102 rfl (lv_at hl 0 rfl) ?_
          refine lv_bipush (v := 46) hx hb dX9_write_103 (by decide) ?_
          refine mm_cV X w (c_X9_prints l D t b n σ0 I_99 R_99 46 46 (show (46 : Int32).toInt = 46 from rfl) (by decide) (by omega)) v_X9_326 rfl rfl ⟨Nat.le_of_ble_eq_true rfl, Nat.le_of_ble_eq_true rfl⟩ rfl hl.1 (Nat.le_of_ble_eq_true rfl) dX9_write_105 ⟨Nat.zero_le _, Nat.zero_le _⟩ (fun I_105 R_105 H locs z_105 w => ?_)
          have KR_105 : kpR [24] Rw R_105 := by rw [z_105.2.2]; exact kpR.up KR_99 (by decide)
          have W_105 : (I_105 25).toInt = (ad (ad (ad (ad (ad ad0 (dN (dof (rowM Rw ca) dy)) (dD (dof (rowM Rw ca) dy))) 1 (fun _ => 46)) (dN (mof (rowM Rw ca) dy)) (dD (mof (rowM Rw ca) dy))) 1 (fun _ => 105)) 1 (fun _ => 46)).1 ∧ outP R_105 (ad (ad (ad (ad (ad ad0 (dN (dof (rowM Rw ca) dy)) (dD (dof (rowM Rw ca) dy))) 1 (fun _ => 46)) (dN (mof (rowM Rw ca) dy)) (dD (mof (rowM Rw ca) dy))) 1 (fun _ => 105)) 1 (fun _ => 46)).1 (ad (ad (ad (ad (ad ad0 (dN (dof (rowM Rw ca) dy)) (dD (dof (rowM Rw ca) dy))) 1 (fun _ => 46)) (dN (mof (rowM Rw ca) dy)) (dD (mof (rowM Rw ca) dy))) 1 (fun _ => 105)) 1 (fun _ => 46)).2 := ⟨z_105.2.1.trans (by rw [W_99.1]; rfl), by rw [z_105.2.2, W_99.1]; exact outP_s (by rw [← W_99.1]; omega) W_99.2 rfl⟩
          have KI_105 := kpI.tr (J := [0, 6, 7, 8, 25]) KI_99 z_105.1 (by decide) (by decide)
          refine lv_aload_n hx hb dX9_write_108 rfl (lv_at hl 0 rfl) ?_
          refine mg_year X w dX9_write_109 ?_
          refine lv_if_ge (tgt := 121) hx hb dX9_write_112 (by decide) (fun c_112 => ?_) (fun c_112 => ?_)
          · skip
            have k_112 : 0 ≤ (yof (rowM Rw ca) dy) := (g_le (show (0 : Int32).toInt = 0 from rfl) ((congrArg Int32.toInt (z_105.1 6 (by decide))).trans ((congrArg Int32.toInt (z_99.1 6 (by decide))).trans ((congrArg Int32.toInt (z_77.1 6 (by decide))).trans ((congrArg Int32.toInt (z_69.1 6 (by decide))).trans ((congrArg Int32.toInt (z_63.1 6 (by decide))).trans z_50.2.1)))))).mp c_112
            refine lv_aload_n hx hb dX9_write_121 rfl (lv_at hl 0 rfl) ?_
            refine lv_aload_n hx hb dX9_write_122 rfl (lv_at hl 0 rfl) ?_
            refine mg_year X w dX9_write_123 ?_
            refine lv_if_ge (tgt := 137) hx hb dX9_write_126 (by decide) (fun c_126 => ?_) (fun c_126 => ?_)
            · skip
              have k_126 : 0 ≤ (yof (rowM Rw ca) dy) := (g_le (show (0 : Int32).toInt = 0 from rfl) ((congrArg Int32.toInt (z_105.1 6 (by decide))).trans ((congrArg Int32.toInt (z_99.1 6 (by decide))).trans ((congrArg Int32.toInt (z_77.1 6 (by decide))).trans ((congrArg Int32.toInt (z_69.1 6 (by decide))).trans ((congrArg Int32.toInt (z_63.1 6 (by decide))).trans z_50.2.1)))))).mp c_126
              refine lv_aload_n hx hb dX9_write_137 rfl (lv_at hl 0 rfl) ?_
              refine mg_year X w dX9_write_138 ?_
              refine mm_cV X w (c_X9_printsNumber l D t b n σ0 I_105 R_105 ((ad (ad (ad (ad (ad ad0 (dN (dof (rowM Rw ca) dy)) (dD (dof (rowM Rw ca) dy))) 1 (fun _ => 46)) (dN (mof (rowM Rw ca) dy)) (dD (mof (rowM Rw ca) dy))) 1 (fun _ => 105)) 1 (fun _ => 46)).2) (I_105 6) (yof (rowM Rw ca) dy) ((congrArg Int32.toInt (z_105.1 6 (by decide))).trans ((congrArg Int32.toInt (z_99.1 6 (by decide))).trans ((congrArg Int32.toInt (z_77.1 6 (by decide))).trans ((congrArg Int32.toInt (z_69.1 6 (by decide))).trans ((congrArg Int32.toInt (z_63.1 6 (by decide))).trans z_50.2.1))))) (by omega) (by omega) (by rw [W_105.1]; exact W_105.2)) v_X9_330 rfl rfl ⟨Nat.le_of_ble_eq_true rfl, Nat.le_of_ble_eq_true rfl⟩ rfl hl.1 (Nat.le_of_ble_eq_true rfl) dX9_write_141 ⟨Nat.zero_le _, Nat.zero_le _⟩ (fun I_141 R_141 H locs z_141 w => ?_)
              have KR_141 : kpR [24] Rw R_141 := kpR.tr (J := [24]) KR_105 z_141.2.1 (by decide) (by decide)
              have W_141 : (I_141 25).toInt = (ad (ad (ad (ad (ad (ad ad0 (dN (dof (rowM Rw ca) dy)) (dD (dof (rowM Rw ca) dy))) 1 (fun _ => 46)) (dN (mof (rowM Rw ca) dy)) (dD (mof (rowM Rw ca) dy))) 1 (fun _ => 105)) 1 (fun _ => 46)) (dN (yof (rowM Rw ca) dy)) (dD (yof (rowM Rw ca) dy))).1 ∧ outP R_141 (ad (ad (ad (ad (ad (ad ad0 (dN (dof (rowM Rw ca) dy)) (dD (dof (rowM Rw ca) dy))) 1 (fun _ => 46)) (dN (mof (rowM Rw ca) dy)) (dD (mof (rowM Rw ca) dy))) 1 (fun _ => 105)) 1 (fun _ => 46)) (dN (yof (rowM Rw ca) dy)) (dD (yof (rowM Rw ca) dy))).1 (ad (ad (ad (ad (ad (ad ad0 (dN (dof (rowM Rw ca) dy)) (dD (dof (rowM Rw ca) dy))) 1 (fun _ => 46)) (dN (mof (rowM Rw ca) dy)) (dD (mof (rowM Rw ca) dy))) 1 (fun _ => 105)) 1 (fun _ => 46)) (dN (yof (rowM Rw ca) dy)) (dD (yof (rowM Rw ca) dy))).2 := by have h := z_141.2.2; rw [W_105.1] at h; exact h
              have KI_141 := kpI.tr (J := [0, 6, 7, 8, 25]) KI_105 z_141.1 (by decide) (by decide)
              refine lv_aload_n hx hb dX9_write_144 rfl (lv_at hl 0 rfl) ?_
              refine mg_written X w dX9_write_145 ?_
              exact q_cret (post := (fun z n1 σ1 => n1 = n ∧ ∃ I1 R1, σ1 = mS t b σ0 I1 R1 ∧ kpI [0, 6, 7, 8, 25] I I1 ∧ kpR [24] Rw R1 ∧ (I1 0).toInt = cd3 (0 ≤ ca ∧ ca < (I 5).toInt) (-999999 ≤ dy ∧ dy ≤ 999999) (fst (rowM Rw ca) (-2000) ≤ dy ∧ dy < fst (rowM Rw ca) 2001) ∧ ((I1 0).toInt = 0 → z = I1 25 ∧ ((I1 25).toInt = (wrt (rowM Rw ca) dy).1 ∧ outP R1 (wrt (rowM Rw ca) dy).1 (wrt (rowM Rw ca) dy).2)) ∧ ((I1 0).toInt ≠ 0 → I1 25 = I 25 ∧ R1 = Rw))) X w dX9_write_148 (rfl) ⟨rfl, _, _, rfl, by have c0 : (I_141 0).toInt = 0 := congrArg Int32.toInt ((z_141.1 0 (by decide)).trans ((z_105.1 0 (by decide)).trans ((z_99.1 0 (by decide)).trans ((z_77.1 0 (by decide)).trans ((z_69.1 0 (by decide)).trans ((z_63.1 0 (by decide)).trans (z_50.1 0 (by decide)))))))); have e : wrt (rowM Rw ca) dy = (ad (ad (ad (ad (ad (ad ad0 (dN (dof (rowM Rw ca) dy)) (dD (dof (rowM Rw ca) dy))) 1 (fun _ => 46)) (dN (mof (rowM Rw ca) dy)) (dD (mof (rowM Rw ca) dy))) 1 (fun _ => 105)) 1 (fun _ => 46)) (dN (yof (rowM Rw ca) dy)) (dD (yof (rowM Rw ca) dy))) := (by unfold wrt wrt6 wrt4 absI; rw [if_pos kM]; simp only [if_neg (show ¬ yof (rowM Rw ca) dy < 0 by omega)]); exact ⟨KI_141, KR_141.wk (by decide), c0.trans (by rw [cd3_0 k_5 k_18 k_33]), fun _ => ⟨rfl, by rw [e]; exact W_141⟩, fun q => absurd (c0.trans rfl) q⟩⟩
            · skip
              have k_126 : ¬ (0 ≤ (yof (rowM Rw ca) dy)) := fun h => c_126 ((g_le (show (0 : Int32).toInt = 0 from rfl) ((congrArg Int32.toInt (z_105.1 6 (by decide))).trans ((congrArg Int32.toInt (z_99.1 6 (by decide))).trans ((congrArg Int32.toInt (z_77.1 6 (by decide))).trans ((congrArg Int32.toInt (z_69.1 6 (by decide))).trans ((congrArg Int32.toInt (z_63.1 6 (by decide))).trans z_50.2.1)))))).mpr h)
              exact absurd k_126 (by omega)
          · skip
            have k_112 : ¬ (0 ≤ (yof (rowM Rw ca) dy)) := fun h => c_112 ((g_le (show (0 : Int32).toInt = 0 from rfl) ((congrArg Int32.toInt (z_105.1 6 (by decide))).trans ((congrArg Int32.toInt (z_99.1 6 (by decide))).trans ((congrArg Int32.toInt (z_77.1 6 (by decide))).trans ((congrArg Int32.toInt (z_69.1 6 (by decide))).trans ((congrArg Int32.toInt (z_63.1 6 (by decide))).trans z_50.2.1)))))).mpr h)
            refine lv_aload_n hx hb dX9_write_115 rfl (lv_at hl 0 rfl) ?_
            refine lv_bipush (v := 45) hx hb dX9_write_116 (by decide) ?_
            refine mm_cV X w (c_X9_prints l D t b n σ0 I_105 R_105 45 45 (show (45 : Int32).toInt = 45 from rfl) (by decide) (by omega)) v_X9_326 rfl rfl ⟨Nat.le_of_ble_eq_true rfl, Nat.le_of_ble_eq_true rfl⟩ rfl hl.1 (Nat.le_of_ble_eq_true rfl) dX9_write_118 ⟨Nat.zero_le _, Nat.zero_le _⟩ (fun I_118 R_118 H locs z_118 w => ?_)
            have KR_118 : kpR [24] Rw R_118 := by rw [z_118.2.2]; exact kpR.up KR_105 (by decide)
            have W_118 : (I_118 25).toInt = (ad (ad (ad (ad (ad (ad ad0 (dN (dof (rowM Rw ca) dy)) (dD (dof (rowM Rw ca) dy))) 1 (fun _ => 46)) (dN (mof (rowM Rw ca) dy)) (dD (mof (rowM Rw ca) dy))) 1 (fun _ => 105)) 1 (fun _ => 46)) 1 (fun _ => 45)).1 ∧ outP R_118 (ad (ad (ad (ad (ad (ad ad0 (dN (dof (rowM Rw ca) dy)) (dD (dof (rowM Rw ca) dy))) 1 (fun _ => 46)) (dN (mof (rowM Rw ca) dy)) (dD (mof (rowM Rw ca) dy))) 1 (fun _ => 105)) 1 (fun _ => 46)) 1 (fun _ => 45)).1 (ad (ad (ad (ad (ad (ad ad0 (dN (dof (rowM Rw ca) dy)) (dD (dof (rowM Rw ca) dy))) 1 (fun _ => 46)) (dN (mof (rowM Rw ca) dy)) (dD (mof (rowM Rw ca) dy))) 1 (fun _ => 105)) 1 (fun _ => 46)) 1 (fun _ => 45)).2 := ⟨z_118.2.1.trans (by rw [W_105.1]; rfl), by rw [z_118.2.2, W_105.1]; exact outP_s (by rw [← W_105.1]; omega) W_105.2 rfl⟩
            have KI_118 := kpI.tr (J := [0, 6, 7, 8, 25]) KI_105 z_118.1 (by decide) (by decide)
            refine lv_aload_n hx hb dX9_write_121 rfl (lv_at hl 0 rfl) ?_
            refine lv_aload_n hx hb dX9_write_122 rfl (lv_at hl 0 rfl) ?_
            refine mg_year X w dX9_write_123 ?_
            refine lv_if_ge (tgt := 137) hx hb dX9_write_126 (by decide) (fun c_126 => ?_) (fun c_126 => ?_)
            · skip
              have k_126 : 0 ≤ (yof (rowM Rw ca) dy) := (g_le (show (0 : Int32).toInt = 0 from rfl) ((congrArg Int32.toInt (z_118.1 6 (by decide))).trans ((congrArg Int32.toInt (z_105.1 6 (by decide))).trans ((congrArg Int32.toInt (z_99.1 6 (by decide))).trans ((congrArg Int32.toInt (z_77.1 6 (by decide))).trans ((congrArg Int32.toInt (z_69.1 6 (by decide))).trans ((congrArg Int32.toInt (z_63.1 6 (by decide))).trans z_50.2.1))))))).mp c_126
              exact absurd k_126 (by omega)
            · skip
              have k_126 : ¬ (0 ≤ (yof (rowM Rw ca) dy)) := fun h => c_126 ((g_le (show (0 : Int32).toInt = 0 from rfl) ((congrArg Int32.toInt (z_118.1 6 (by decide))).trans ((congrArg Int32.toInt (z_105.1 6 (by decide))).trans ((congrArg Int32.toInt (z_99.1 6 (by decide))).trans ((congrArg Int32.toInt (z_77.1 6 (by decide))).trans ((congrArg Int32.toInt (z_69.1 6 (by decide))).trans ((congrArg Int32.toInt (z_63.1 6 (by decide))).trans z_50.2.1))))))).mpr h)
              refine lv_aload_n hx hb dX9_write_129 rfl (lv_at hl 0 rfl) ?_
              refine mg_year X w dX9_write_130 ?_
              refine lv_ineg hx hb dX9_write_133 ?_
              refine lv_topi (fun x_133 e_133 => ?_)
              have p_133 : x_133.toInt = -(yof (rowM Rw ca) dy) := by rw [e_133]; exact t_neg ((congrArg Int32.toInt (z_118.1 6 (by decide))).trans ((congrArg Int32.toInt (z_105.1 6 (by decide))).trans ((congrArg Int32.toInt (z_99.1 6 (by decide))).trans ((congrArg Int32.toInt (z_77.1 6 (by decide))).trans ((congrArg Int32.toInt (z_69.1 6 (by decide))).trans ((congrArg Int32.toInt (z_63.1 6 (by decide))).trans z_50.2.1)))))) (by omega)
              refine lv_goto (tgt := 141) hx hb dX9_write_134 (by decide) ?_
              refine mm_cV X w (c_X9_printsNumber l D t b n σ0 I_118 R_118 ((ad (ad (ad (ad (ad (ad ad0 (dN (dof (rowM Rw ca) dy)) (dD (dof (rowM Rw ca) dy))) 1 (fun _ => 46)) (dN (mof (rowM Rw ca) dy)) (dD (mof (rowM Rw ca) dy))) 1 (fun _ => 105)) 1 (fun _ => 46)) 1 (fun _ => 45)).2) x_133 (-(yof (rowM Rw ca) dy)) p_133 (by omega) (by omega) (by rw [W_118.1]; exact W_118.2)) v_X9_330 rfl rfl ⟨Nat.le_of_ble_eq_true rfl, Nat.le_of_ble_eq_true rfl⟩ rfl hl.1 (Nat.le_of_ble_eq_true rfl) dX9_write_141 ⟨Nat.zero_le _, Nat.zero_le _⟩ (fun I_141 R_141 H locs z_141 w => ?_)
              have KR_141 : kpR [24] Rw R_141 := kpR.tr (J := [24]) KR_118 z_141.2.1 (by decide) (by decide)
              have W_141 : (I_141 25).toInt = (ad (ad (ad (ad (ad (ad (ad ad0 (dN (dof (rowM Rw ca) dy)) (dD (dof (rowM Rw ca) dy))) 1 (fun _ => 46)) (dN (mof (rowM Rw ca) dy)) (dD (mof (rowM Rw ca) dy))) 1 (fun _ => 105)) 1 (fun _ => 46)) 1 (fun _ => 45)) (dN (-(yof (rowM Rw ca) dy))) (dD (-(yof (rowM Rw ca) dy)))).1 ∧ outP R_141 (ad (ad (ad (ad (ad (ad (ad ad0 (dN (dof (rowM Rw ca) dy)) (dD (dof (rowM Rw ca) dy))) 1 (fun _ => 46)) (dN (mof (rowM Rw ca) dy)) (dD (mof (rowM Rw ca) dy))) 1 (fun _ => 105)) 1 (fun _ => 46)) 1 (fun _ => 45)) (dN (-(yof (rowM Rw ca) dy))) (dD (-(yof (rowM Rw ca) dy)))).1 (ad (ad (ad (ad (ad (ad (ad ad0 (dN (dof (rowM Rw ca) dy)) (dD (dof (rowM Rw ca) dy))) 1 (fun _ => 46)) (dN (mof (rowM Rw ca) dy)) (dD (mof (rowM Rw ca) dy))) 1 (fun _ => 105)) 1 (fun _ => 46)) 1 (fun _ => 45)) (dN (-(yof (rowM Rw ca) dy))) (dD (-(yof (rowM Rw ca) dy)))).2 := by have h := z_141.2.2; rw [W_118.1] at h; exact h
              have KI_141 := kpI.tr (J := [0, 6, 7, 8, 25]) KI_118 z_141.1 (by decide) (by decide)
              refine lv_aload_n hx hb dX9_write_144 rfl (lv_at hl 0 rfl) ?_
              refine mg_written X w dX9_write_145 ?_
              exact q_cret (post := (fun z n1 σ1 => n1 = n ∧ ∃ I1 R1, σ1 = mS t b σ0 I1 R1 ∧ kpI [0, 6, 7, 8, 25] I I1 ∧ kpR [24] Rw R1 ∧ (I1 0).toInt = cd3 (0 ≤ ca ∧ ca < (I 5).toInt) (-999999 ≤ dy ∧ dy ≤ 999999) (fst (rowM Rw ca) (-2000) ≤ dy ∧ dy < fst (rowM Rw ca) 2001) ∧ ((I1 0).toInt = 0 → z = I1 25 ∧ ((I1 25).toInt = (wrt (rowM Rw ca) dy).1 ∧ outP R1 (wrt (rowM Rw ca) dy).1 (wrt (rowM Rw ca) dy).2)) ∧ ((I1 0).toInt ≠ 0 → I1 25 = I 25 ∧ R1 = Rw))) X w dX9_write_148 (rfl) ⟨rfl, _, _, rfl, by have c0 : (I_141 0).toInt = 0 := congrArg Int32.toInt ((z_141.1 0 (by decide)).trans ((z_118.1 0 (by decide)).trans ((z_105.1 0 (by decide)).trans ((z_99.1 0 (by decide)).trans ((z_77.1 0 (by decide)).trans ((z_69.1 0 (by decide)).trans ((z_63.1 0 (by decide)).trans (z_50.1 0 (by decide))))))))); have e : wrt (rowM Rw ca) dy = (ad (ad (ad (ad (ad (ad (ad ad0 (dN (dof (rowM Rw ca) dy)) (dD (dof (rowM Rw ca) dy))) 1 (fun _ => 46)) (dN (mof (rowM Rw ca) dy)) (dD (mof (rowM Rw ca) dy))) 1 (fun _ => 105)) 1 (fun _ => 46)) 1 (fun _ => 45)) (dN (-(yof (rowM Rw ca) dy))) (dD (-(yof (rowM Rw ca) dy)))) := (by unfold wrt wrt6 wrt4 absI; rw [if_pos kM]; simp only [if_pos (show yof (rowM Rw ca) dy < 0 by omega)]); exact ⟨KI_141, KR_141.wk (by decide), c0.trans (by rw [cd3_0 k_5 k_18 k_33]), fun _ => ⟨rfl, by rw [e]; exact W_141⟩, fun q => absurd (c0.trans rfl) q⟩⟩
      · skip
        rw [z_30] at c_33
        have k_33 := bI_f.mp c_33
        refine lv_aload_n hx hb dX9_write_36 rfl (lv_at hl 0 rfl) ?_
        refine lv_iconst (v := 3) hx hb dX9_write_37 (by decide) ?_
        refine mm_cCI X w (c_X9_fails l D t b n σ0 I Rw 3 3 (show (3 : Int32).toInt = 3 from rfl)) v_X9_143 rfl rfl ⟨Nat.le_of_ble_eq_true rfl, Nat.le_of_ble_eq_true rfl⟩ rfl hl.1 (Nat.le_of_ble_eq_true rfl) dX9_write_38 ⟨Nat.zero_le _, Nat.zero_le _⟩ (fun r_38 I_38 H locs z_38 w => ?_)
        exact q_cret (post := (fun z n1 σ1 => n1 = n ∧ ∃ I1 R1, σ1 = mS t b σ0 I1 R1 ∧ kpI [0, 6, 7, 8, 25] I I1 ∧ kpR [24] Rw R1 ∧ (I1 0).toInt = cd3 (0 ≤ ca ∧ ca < (I 5).toInt) (-999999 ≤ dy ∧ dy ≤ 999999) (fst (rowM Rw ca) (-2000) ≤ dy ∧ dy < fst (rowM Rw ca) 2001) ∧ ((I1 0).toInt = 0 → z = I1 25 ∧ ((I1 25).toInt = (wrt (rowM Rw ca) dy).1 ∧ outP R1 (wrt (rowM Rw ca) dy).1 (wrt (rowM Rw ca) dy).2)) ∧ ((I1 0).toInt ≠ 0 → I1 25 = I 25 ∧ R1 = Rw))) X w dX9_write_41 (rfl) ⟨rfl, _, _, rfl, by exact ⟨z_38.1.wk (by decide), kpR.rf, z_38.2.1.trans (cd3_3 k_5 k_18 k_33).symm, fun q => absurd (z_38.2.1.symm.trans q) (by decide), fun _ => ⟨z_38.1 25 (by decide), rfl⟩⟩⟩
    · skip
      rw [z_15] at c_18
      have k_18 := bI_f.mp c_18
      refine lv_aload_n hx hb dX9_write_21 rfl (lv_at hl 0 rfl) ?_
      refine lv_iconst (v := 2) hx hb dX9_write_22 (by decide) ?_
      refine mm_cCI X w (c_X9_fails l D t b n σ0 I Rw 2 2 (show (2 : Int32).toInt = 2 from rfl)) v_X9_143 rfl rfl ⟨Nat.le_of_ble_eq_true rfl, Nat.le_of_ble_eq_true rfl⟩ rfl hl.1 (Nat.le_of_ble_eq_true rfl) dX9_write_23 ⟨Nat.zero_le _, Nat.zero_le _⟩ (fun r_23 I_23 H locs z_23 w => ?_)
      exact q_cret (post := (fun z n1 σ1 => n1 = n ∧ ∃ I1 R1, σ1 = mS t b σ0 I1 R1 ∧ kpI [0, 6, 7, 8, 25] I I1 ∧ kpR [24] Rw R1 ∧ (I1 0).toInt = cd3 (0 ≤ ca ∧ ca < (I 5).toInt) (-999999 ≤ dy ∧ dy ≤ 999999) (fst (rowM Rw ca) (-2000) ≤ dy ∧ dy < fst (rowM Rw ca) 2001) ∧ ((I1 0).toInt = 0 → z = I1 25 ∧ ((I1 25).toInt = (wrt (rowM Rw ca) dy).1 ∧ outP R1 (wrt (rowM Rw ca) dy).1 (wrt (rowM Rw ca) dy).2)) ∧ ((I1 0).toInt ≠ 0 → I1 25 = I 25 ∧ R1 = Rw))) X w dX9_write_26 (rfl) ⟨rfl, _, _, rfl, by exact ⟨z_23.1.wk (by decide), kpR.rf, z_23.2.1.trans (cd3_2 k_5 k_18).symm, fun q => absurd (z_23.2.1.symm.trans q) (by decide), fun _ => ⟨z_23.1 25 (by decide), rfl⟩⟩⟩
  · skip
    rw [z_2] at c_5
    have k_5 := bI_f.mp c_5
    refine lv_aload_n hx hb dX9_write_8 rfl (lv_at hl 0 rfl) ?_
    refine lv_iconst (v := 1) hx hb dX9_write_9 (by decide) ?_
    refine mm_cCI X w (c_X9_fails l D t b n σ0 I Rw 1 1 (show (1 : Int32).toInt = 1 from rfl)) v_X9_143 rfl rfl ⟨Nat.le_of_ble_eq_true rfl, Nat.le_of_ble_eq_true rfl⟩ rfl hl.1 (Nat.le_of_ble_eq_true rfl) dX9_write_10 ⟨Nat.zero_le _, Nat.zero_le _⟩ (fun r_10 I_10 H locs z_10 w => ?_)
    exact q_cret (post := (fun z n1 σ1 => n1 = n ∧ ∃ I1 R1, σ1 = mS t b σ0 I1 R1 ∧ kpI [0, 6, 7, 8, 25] I I1 ∧ kpR [24] Rw R1 ∧ (I1 0).toInt = cd3 (0 ≤ ca ∧ ca < (I 5).toInt) (-999999 ≤ dy ∧ dy ≤ 999999) (fst (rowM Rw ca) (-2000) ≤ dy ∧ dy < fst (rowM Rw ca) 2001) ∧ ((I1 0).toInt = 0 → z = I1 25 ∧ ((I1 25).toInt = (wrt (rowM Rw ca) dy).1 ∧ outP R1 (wrt (rowM Rw ca) dy).1 (wrt (rowM Rw ca) dy).2)) ∧ ((I1 0).toInt ≠ 0 → I1 25 = I 25 ∧ R1 = Rw))) X w dX9_write_13 (rfl) ⟨rfl, _, _, rfl, by exact ⟨z_10.1.wk (by decide), kpR.rf, z_10.2.1.trans (cd3_1 k_5).symm, fun q => absurd (z_10.2.1.symm.trans q) (by decide), fun _ => ⟨z_10.1 25 (by decide), rfl⟩⟩⟩
