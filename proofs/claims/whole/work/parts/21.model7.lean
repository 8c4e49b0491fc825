set_option maxHeartbeats 4000000 in
set_option maxRecDepth 100000 in
theorem c_X9_calendar (l : Launch) (D : va_G) (t : Nat → ClassId) (b n : Nat) (σ0 : qM) (I : Nat → Int32) (Rw : Nat → Nat → Int32) (a_ca : Int32) (a_part : Int32) (ca : Int) (part : Int) (e_ca : a_ca.toInt = ca) (e_part : a_part.toInt = part) (h_1 : (I 5).toInt ≤ 6) (h_2 : ∀ c : Int, 0 ≤ c → c < (I 5).toInt → okRow (rowM Rw c)) (h_3 : ∀ c : Int, 0 ≤ c → c < (I 5).toInt → okF Rw c) : mC l yX9_calendar cX9_calendar 3 (some .int) 2 D t b n σ0 I Rw [.ref (b + 45), .int a_ca, .int a_part] (fun z I1 R1 => R1 = Rw ∧ kpI [0, 6, 7, 8] I I1 ∧ (I1 0).toInt = cd2 (0 ≤ ca ∧ ca < (I 5).toInt) (0 ≤ part ∧ part ≤ 7) ∧ ((I1 0).toInt = 0 → z.toInt = calp (rowM Rw ca) part)) := by
  refine qC.of (by decide +kernel) (Nat.le_of_ble_eq_true rfl) (fun p e s m args below meth c X w ls hl => ?_)
  have hx := X.1
  have hb := X.2.1
  have hl : lv_has ls 3 [(0, .ref (b + 45)), (1, .int a_ca), (2, .int a_part)] := hl
  refine lv_aload_n hx hb dX9_calendar_0 rfl (lv_at hl 0 rfl) ?_
  refine lv_iload_n hx hb dX9_calendar_1 rfl (lv_at hl 1 rfl) ?_
  refine q_cPV X w (c_X9_isCalendar l D t b n σ0 I Rw a_ca ca e_ca) v_X9_221 (k := 45) rfl rfl rfl ⟨Nat.le_of_ble_eq_true rfl, Nat.le_of_ble_eq_true rfl⟩ rfl hl.1 (Nat.le_of_ble_eq_true rfl) dX9_calendar_2 ⟨Nat.zero_le _, Nat.zero_le _⟩ (fun r_2 z_2 => ?_)
  refine lv_if_ne (tgt := 14) hx hb dX9_calendar_5 (by decide) (fun c_5 => ?_) (fun c_5 => ?_)
  · skip
    rw [z_2] at c_5
    have k_5 := bI_t.mp c_5
    have hq := h_2 ca k_5.1 k_5.2
    have hF := h_3 ca k_5.1 k_5.2
    refine lv_iload_n hx hb dX9_calendar_14 rfl (lv_at hl 2 rfl) ?_
    refine lv_iconst (v := 0) hx hb dX9_calendar_15 (by decide) ?_
    refine lv_bipush (v := 7) hx hb dX9_calendar_16 (by decide) ?_
    refine q_cPS X w (c_X9_isBetween l a_part 0 7 part 0 7 e_part (show (0 : Int32).toInt = 0 from rfl) (show (7 : Int32).toInt = 7 from rfl) D t b n (mS t b σ0 I Rw)) v_X9_70 rfl ⟨Nat.le_of_ble_eq_true rfl, Nat.le_of_ble_eq_true rfl⟩ rfl hl.1 (Nat.le_of_ble_eq_true rfl) dX9_calendar_18 ⟨Nat.zero_le _, Nat.zero_le _⟩ (fun r_18 z_18 => ?_)
    refine lv_if_ne (tgt := 30) hx hb dX9_calendar_21 (by decide) (fun c_21 => ?_) (fun c_21 => ?_)
    · skip
      rw [z_18] at c_21
      have k_21 := bI_t.mp c_21
      refine lv_aload_n hx hb dX9_calendar_30 rfl (lv_at hl 0 rfl) ?_
      refine lv_iconst (v := 0) hx hb dX9_calendar_31 (by decide) ?_
      refine mp_thrown (v := 0) X w dX9_calendar_32 (fun H locs w => ?_)
      refine lv_iload_n hx hb dX9_calendar_35 rfl (lv_at hl 2 rfl) ?_
      by_cases s_0 : part = 0
      · refine lv_tableIn (tgt := 84) hx hb dX9_calendar_36 (by rw [e_part, s_0]; decide) (by rw [e_part, s_0]; decide) (by rw [e_part, s_0]; rfl) (by decide) ?_
        refine lv_aload_n hx hb dX9_calendar_84 rfl (lv_at hl 0 rfl) ?_
        refine lv_iload_n hx hb dX9_calendar_85 rfl (lv_at hl 1 rfl) ?_
        refine lv_iconst (v := 0) hx hb dX9_calendar_86 (by decide) ?_
        refine q_cPV X w (c_X9_of l D t b n σ0 (va_up I 0 0) Rw a_ca 0 ca 0 e_ca (show (0 : Int32).toInt = 0 from rfl) (by first | assumption | omega) (by first | assumption | omega)) v_X9_80 (k := 45) rfl rfl rfl ⟨Nat.le_of_ble_eq_true rfl, Nat.le_of_ble_eq_true rfl⟩ rfl hl.1 (Nat.le_of_ble_eq_true rfl) dX9_calendar_87 ⟨Nat.zero_le _, Nat.zero_le _⟩ (fun r_87 z_87 => ?_)
        exact q_cret (post := (fun z n1 σ1 => n1 = n ∧ ∃ I1 R1, σ1 = mS t b σ0 I1 R1 ∧ R1 = Rw ∧ kpI [0, 6, 7, 8] I I1 ∧ (I1 0).toInt = cd2 (0 ≤ ca ∧ ca < (I 5).toInt) (0 ≤ part ∧ part ≤ 7) ∧ ((I1 0).toInt = 0 → z.toInt = calp (rowM Rw ca) part))) X w dX9_calendar_90 (rfl) ⟨rfl, _, _, rfl, rfl, by exact ⟨kpI.up (J := [0,6,7,8]) kpI.rf (by decide), (by rw [cd2_0 k_5 k_21]; rfl), fun _ => by rw [calp, if_pos s_0]; exact congrArg Int32.toInt z_87⟩⟩
      by_cases s_1 : part = 1
      · refine lv_tableIn (tgt := 91) hx hb dX9_calendar_36 (by rw [e_part, s_1]; decide) (by rw [e_part, s_1]; decide) (by rw [e_part, s_1]; rfl) (by decide) ?_
        refine lv_aload_n hx hb dX9_calendar_91 rfl (lv_at hl 0 rfl) ?_
        refine lv_iload_n hx hb dX9_calendar_92 rfl (lv_at hl 1 rfl) ?_
        refine lv_bipush (v := 15) hx hb dX9_calendar_93 (by decide) ?_
        refine q_cPV X w (c_X9_of l D t b n σ0 (va_up I 0 0) Rw a_ca 15 ca 15 e_ca (show (15 : Int32).toInt = 15 from rfl) (by first | assumption | omega) (by first | assumption | omega)) v_X9_80 (k := 45) rfl rfl rfl ⟨Nat.le_of_ble_eq_true rfl, Nat.le_of_ble_eq_true rfl⟩ rfl hl.1 (Nat.le_of_ble_eq_true rfl) dX9_calendar_95 ⟨Nat.zero_le _, Nat.zero_le _⟩ (fun r_95 z_95 => ?_)
        exact q_cret (post := (fun z n1 σ1 => n1 = n ∧ ∃ I1 R1, σ1 = mS t b σ0 I1 R1 ∧ R1 = Rw ∧ kpI [0, 6, 7, 8] I I1 ∧ (I1 0).toInt = cd2 (0 ≤ ca ∧ ca < (I 5).toInt) (0 ≤ part ∧ part ≤ 7) ∧ ((I1 0).toInt = 0 → z.toInt = calp (rowM Rw ca) part))) X w dX9_calendar_98 (rfl) ⟨rfl, _, _, rfl, rfl, by exact ⟨kpI.up (J := [0,6,7,8]) kpI.rf (by decide), (by rw [cd2_0 k_5 k_21]; rfl), fun _ => by rw [calp, if_neg s_0, if_pos s_1]; exact congrArg Int32.toInt z_95⟩⟩
      by_cases s_2 : part = 2
      · refine lv_tableIn (tgt := 99) hx hb dX9_calendar_36 (by rw [e_part, s_2]; decide) (by rw [e_part, s_2]; decide) (by rw [e_part, s_2]; rfl) (by decide) ?_
        refine lv_aload_n hx hb dX9_calendar_99 rfl (lv_at hl 0 rfl) ?_
        refine lv_iload_n hx hb dX9_calendar_100 rfl (lv_at hl 1 rfl) ?_
        refine lv_bipush (v := 16) hx hb dX9_calendar_101 (by decide) ?_
        refine q_cPV X w (c_X9_of l D t b n σ0 (va_up I 0 0) Rw a_ca 16 ca 16 e_ca (show (16 : Int32).toInt = 16 from rfl) (by first | assumption | omega) (by first | assumption | omega)) v_X9_80 (k := 45) rfl rfl rfl ⟨Nat.le_of_ble_eq_true rfl, Nat.le_of_ble_eq_true rfl⟩ rfl hl.1 (Nat.le_of_ble_eq_true rfl) dX9_calendar_103 ⟨Nat.zero_le _, Nat.zero_le _⟩ (fun r_103 z_103 => ?_)
        exact q_cret (post := (fun z n1 σ1 => n1 = n ∧ ∃ I1 R1, σ1 = mS t b σ0 I1 R1 ∧ R1 = Rw ∧ kpI [0, 6, 7, 8] I I1 ∧ (I1 0).toInt = cd2 (0 ≤ ca ∧ ca < (I 5).toInt) (0 ≤ part ∧ part ≤ 7) ∧ ((I1 0).toInt = 0 → z.toInt = calp (rowM Rw ca) part))) X w dX9_calendar_106 (rfl) ⟨rfl, _, _, rfl, rfl, by exact ⟨kpI.up (J := [0,6,7,8]) kpI.rf (by decide), (by rw [cd2_0 k_5 k_21]; rfl), fun _ => by rw [calp, if_neg s_0, if_neg s_1, if_pos s_2]; exact congrArg Int32.toInt z_103⟩⟩
      by_cases s_3 : part = 3
      · refine lv_tableIn (tgt := 107) hx hb dX9_calendar_36 (by rw [e_part, s_3]; decide) (by rw [e_part, s_3]; decide) (by rw [e_part, s_3]; rfl) (by decide) ?_
        refine lv_aload_n hx hb dX9_calendar_107 rfl (lv_at hl 0 rfl) ?_
        refine lv_iload_n hx hb dX9_calendar_108 rfl (lv_at hl 1 rfl) ?_
        refine lv_bipush (v := 19) hx hb dX9_calendar_109 (by decide) ?_
        refine q_cPV X w (c_X9_of l D t b n σ0 (va_up I 0 0) Rw a_ca 19 ca 19 e_ca (show (19 : Int32).toInt = 19 from rfl) (by first | assumption | omega) (by first | assumption | omega)) v_X9_80 (k := 45) rfl rfl rfl ⟨Nat.le_of_ble_eq_true rfl, Nat.le_of_ble_eq_true rfl⟩ rfl hl.1 (Nat.le_of_ble_eq_true rfl) dX9_calendar_111 ⟨Nat.zero_le _, Nat.zero_le _⟩ (fun r_111 z_111 => ?_)
        exact q_cret (post := (fun z n1 σ1 => n1 = n ∧ ∃ I1 R1, σ1 = mS t b σ0 I1 R1 ∧ R1 = Rw ∧ kpI [0, 6, 7, 8] I I1 ∧ (I1 0).toInt = cd2 (0 ≤ ca ∧ ca < (I 5).toInt) (0 ≤ part ∧ part ≤ 7) ∧ ((I1 0).toInt = 0 → z.toInt = calp (rowM Rw ca) part))) X w dX9_calendar_114 (rfl) ⟨rfl, _, _, rfl, rfl, by exact ⟨kpI.up (J := [0,6,7,8]) kpI.rf (by decide), (by rw [cd2_0 k_5 k_21]; rfl), fun _ => by rw [calp, if_neg s_0, if_neg s_1, if_neg s_2, if_pos s_3]; exact congrArg Int32.toInt z_111⟩⟩
      by_cases s_4 : part = 4
      · refine lv_tableIn (tgt := 127) hx hb dX9_calendar_36 (by rw [e_part, s_4]; decide) (by rw [e_part, s_4]; decide) (by rw [e_part, s_4]; rfl) (by decide) ?_
        refine lv_aload_n hx hb dX9_calendar_127 rfl (lv_at hl 0 rfl) ?_
        refine lv_iload_n hx hb dX9_calendar_128 rfl (lv_at hl 1 rfl) ?_
        refine lv_bipush (v := 30) hx hb dX9_calendar_129 (by decide) ?_
        refine lv_iload_n hx hb dX9_calendar_131 rfl (lv_at hl 2 rfl) ?_
        refine lv_iadd hx hb dX9_calendar_132 ?_
        refine lv_topi (fun x_132 e_132 => ?_)
        have p_132 : x_132.toInt = (30 + part) := by rw [e_132]; exact t_add (show (30 : Int32).toInt = 30 from rfl) e_part (by omega) (by omega)
        refine lv_iconst (v := 4) hx hb dX9_calendar_133 (by decide) ?_
        refine lv_isub hx hb dX9_calendar_134 ?_
        refine lv_topi (fun x_134 e_134 => ?_)
        have p_134 : x_134.toInt = ((30 + part) - 4) := by rw [e_134]; exact t_sub p_132 (show (4 : Int32).toInt = 4 from rfl) (by omega) (by omega)
        refine q_cPV X w (c_X9_of l D t b n σ0 (va_up I 0 0) Rw a_ca x_134 ca ((30 + part) - 4) e_ca p_134 (by first | assumption | omega) (by first | assumption | omega)) v_X9_80 (k := 45) rfl rfl rfl ⟨Nat.le_of_ble_eq_true rfl, Nat.le_of_ble_eq_true rfl⟩ rfl hl.1 (Nat.le_of_ble_eq_true rfl) dX9_calendar_135 ⟨Nat.zero_le _, Nat.zero_le _⟩ (fun r_135 z_135 => ?_)
        exact q_cret (post := (fun z n1 σ1 => n1 = n ∧ ∃ I1 R1, σ1 = mS t b σ0 I1 R1 ∧ R1 = Rw ∧ kpI [0, 6, 7, 8] I I1 ∧ (I1 0).toInt = cd2 (0 ≤ ca ∧ ca < (I 5).toInt) (0 ≤ part ∧ part ≤ 7) ∧ ((I1 0).toInt = 0 → z.toInt = calp (rowM Rw ca) part))) X w dX9_calendar_138 (rfl) ⟨rfl, _, _, rfl, rfl, by exact ⟨kpI.up (J := [0,6,7,8]) kpI.rf (by decide), (by rw [cd2_0 k_5 k_21]; rfl), fun _ => by rw [calp, if_neg (by omega), if_neg (by omega), if_neg (by omega), if_neg (by omega), if_neg (by omega)]; exact congrArg Int32.toInt z_135⟩⟩
      by_cases s_5 : part = 5
      · refine lv_tableIn (tgt := 127) hx hb dX9_calendar_36 (by rw [e_part, s_5]; decide) (by rw [e_part, s_5]; decide) (by rw [e_part, s_5]; rfl) (by decide) ?_
        refine lv_aload_n hx hb dX9_calendar_127 rfl (lv_at hl 0 rfl) ?_
        refine lv_iload_n hx hb dX9_calendar_128 rfl (lv_at hl 1 rfl) ?_
        refine lv_bipush (v := 30) hx hb dX9_calendar_129 (by decide) ?_
        refine lv_iload_n hx hb dX9_calendar_131 rfl (lv_at hl 2 rfl) ?_
        refine lv_iadd hx hb dX9_calendar_132 ?_
        refine lv_topi (fun x_132 e_132 => ?_)
        have p_132 : x_132.toInt = (30 + part) := by rw [e_132]; exact t_add (show (30 : Int32).toInt = 30 from rfl) e_part (by omega) (by omega)
        refine lv_iconst (v := 4) hx hb dX9_calendar_133 (by decide) ?_
        refine lv_isub hx hb dX9_calendar_134 ?_
        refine lv_topi (fun x_134 e_134 => ?_)
        have p_134 : x_134.toInt = ((30 + part) - 4) := by rw [e_134]; exact t_sub p_132 (show (4 : Int32).toInt = 4 from rfl) (by omega) (by omega)
        refine q_cPV X w (c_X9_of l D t b n σ0 (va_up I 0 0) Rw a_ca x_134 ca ((30 + part) - 4) e_ca p_134 (by first | assumption | omega) (by first | assumption | omega)) v_X9_80 (k := 45) rfl rfl rfl ⟨Nat.le_of_ble_eq_true rfl, Nat.le_of_ble_eq_true rfl⟩ rfl hl.1 (Nat.le_of_ble_eq_true rfl) dX9_calendar_135 ⟨Nat.zero_le _, Nat.zero_le _⟩ (fun r_135 z_135 => ?_)
        exact q_cret (post := (fun z n1 σ1 => n1 = n ∧ ∃ I1 R1, σ1 = mS t b σ0 I1 R1 ∧ R1 = Rw ∧ kpI [0, 6, 7, 8] I I1 ∧ (I1 0).toInt = cd2 (0 ≤ ca ∧ ca < (I 5).toInt) (0 ≤ part ∧ part ≤ 7) ∧ ((I1 0).toInt = 0 → z.toInt = calp (rowM Rw ca) part))) X w dX9_calendar_138 (rfl) ⟨rfl, _, _, rfl, rfl, by exact ⟨kpI.up (J := [0,6,7,8]) kpI.rf (by decide), (by rw [cd2_0 k_5 k_21]; rfl), fun _ => by rw [calp, if_neg (by omega), if_neg (by omega), if_neg (by omega), if_neg (by omega), if_neg (by omega)]; exact congrArg Int32.toInt z_135⟩⟩
      by_cases s_6 : part = 6
      · refine lv_tableIn (tgt := 127) hx hb dX9_calendar_36 (by rw [e_part, s_6]; decide) (by rw [e_part, s_6]; decide) (by rw [e_part, s_6]; rfl) (by decide) ?_
        refine lv_aload_n hx hb dX9_calendar_127 rfl (lv_at hl 0 rfl) ?_
        refine lv_iload_n hx hb dX9_calendar_128 rfl (lv_at hl 1 rfl) ?_
        refine lv_bipush (v := 30) hx hb dX9_calendar_129 (by decide) ?_
        refine lv_iload_n hx hb dX9_calendar_131 rfl (lv_at hl 2 rfl) ?_
        refine lv_iadd hx hb dX9_calendar_132 ?_
        refine lv_topi (fun x_132 e_132 => ?_)
        have p_132 : x_132.toInt = (30 + part) := by rw [e_132]; exact t_add (show (30 : Int32).toInt = 30 from rfl) e_part (by omega) (by omega)
        refine lv_iconst (v := 4) hx hb dX9_calendar_133 (by decide) ?_
        refine lv_isub hx hb dX9_calendar_134 ?_
        refine lv_topi (fun x_134 e_134 => ?_)
        have p_134 : x_134.toInt = ((30 + part) - 4) := by rw [e_134]; exact t_sub p_132 (show (4 : Int32).toInt = 4 from rfl) (by omega) (by omega)
        refine q_cPV X w (c_X9_of l D t b n σ0 (va_up I 0 0) Rw a_ca x_134 ca ((30 + part) - 4) e_ca p_134 (by first | assumption | omega) (by first | assumption | omega)) v_X9_80 (k := 45) rfl rfl rfl ⟨Nat.le_of_ble_eq_true rfl, Nat.le_of_ble_eq_true rfl⟩ rfl hl.1 (Nat.le_of_ble_eq_true rfl) dX9_calendar_135 ⟨Nat.zero_le _, Nat.zero_le _⟩ (fun r_135 z_135 => ?_)
        exact q_cret (post := (fun z n1 σ1 => n1 = n ∧ ∃ I1 R1, σ1 = mS t b σ0 I1 R1 ∧ R1 = Rw ∧ kpI [0, 6, 7, 8] I I1 ∧ (I1 0).toInt = cd2 (0 ≤ ca ∧ ca < (I 5).toInt) (0 ≤ part ∧ part ≤ 7) ∧ ((I1 0).toInt = 0 → z.toInt = calp (rowM Rw ca) part))) X w dX9_calendar_138 (rfl) ⟨rfl, _, _, rfl, rfl, by exact ⟨kpI.up (J := [0,6,7,8]) kpI.rf (by decide), (by rw [cd2_0 k_5 k_21]; rfl), fun _ => by rw [calp, if_neg (by omega), if_neg (by omega), if_neg (by omega), if_neg (by omega), if_neg (by omega)]; exact congrArg Int32.toInt z_135⟩⟩
      by_cases s_7 : part = 7
      · refine lv_tableIn (tgt := 115) hx hb dX9_calendar_36 (by rw [e_part, s_7]; decide) (by rw [e_part, s_7]; decide) (by rw [e_part, s_7]; rfl) (by decide) ?_
        refine lv_aload_n hx hb dX9_calendar_115 rfl (lv_at hl 0 rfl) ?_
        refine mg_calendar X w dX9_calendar_116 ?_
        refine lv_bipush (v := 33) hx hb dX9_calendar_119 (by decide) ?_
        refine lv_iload_n hx hb dX9_calendar_121 rfl (lv_at hl 1 rfl) ?_
        refine lv_imul hx hb dX9_calendar_122 ?_
        refine lv_topi (fun x_122 e_122 => ?_)
        have p_122 : x_122.toInt = (33 * ca) := by rw [e_122]; exact t_mul (show (33 : Int32).toInt = 33 from rfl) e_ca (by omega) (by omega)
        refine q_cPS X w (c_X9_repeats_cal l D t b n σ0 (va_up I 0 0) Rw ca x_122 (33 * ca) p_122 (by rfl) (by exact fun k a b e => hq.div a b e) (by omega)) v_X9_208 rfl ⟨Nat.le_of_ble_eq_true rfl, Nat.le_of_ble_eq_true rfl⟩ rfl hl.1 (Nat.le_of_ble_eq_true rfl) dX9_calendar_123 ⟨Nat.zero_le _, Nat.zero_le _⟩ (fun r_123 z_123 => ?_)
        exact q_cret (post := (fun z n1 σ1 => n1 = n ∧ ∃ I1 R1, σ1 = mS t b σ0 I1 R1 ∧ R1 = Rw ∧ kpI [0, 6, 7, 8] I I1 ∧ (I1 0).toInt = cd2 (0 ≤ ca ∧ ca < (I 5).toInt) (0 ≤ part ∧ part ≤ 7) ∧ ((I1 0).toInt = 0 → z.toInt = calp (rowM Rw ca) part))) X w dX9_calendar_126 (rfl) ⟨rfl, _, _, rfl, rfl, by exact ⟨kpI.up (J := [0,6,7,8]) kpI.rf (by decide), (by rw [cd2_0 k_5 k_21]; rfl), fun _ => by rw [calp, if_neg s_0, if_neg s_1, if_neg s_2, if_neg s_3, if_pos s_7]; exact z_123⟩⟩
      refine lv_tableOut (tgt := 127) hx hb dX9_calendar_36 (by rw [e_part]; omega) (by decide) ?_
      refine lv_aload_n hx hb dX9_calendar_127 rfl (lv_at hl 0 rfl) ?_
      refine lv_iload_n hx hb dX9_calendar_128 rfl (lv_at hl 1 rfl) ?_
      refine lv_bipush (v := 30) hx hb dX9_calendar_129 (by decide) ?_
      refine lv_iload_n hx hb dX9_calendar_131 rfl (lv_at hl 2 rfl) ?_
      refine lv_iadd hx hb dX9_calendar_132 ?_
      refine lv_topi (fun x_132 e_132 => ?_)
      have p_132 : x_132.toInt = (30 + part) := by rw [e_132]; exact t_add (show (30 : Int32).toInt = 30 from rfl) e_part (by omega) (by omega)
      refine lv_iconst (v := 4) hx hb dX9_calendar_133 (by decide) ?_
      refine lv_isub hx hb dX9_calendar_134 ?_
      refine lv_topi (fun x_134 e_134 => ?_)
      have p_134 : x_134.toInt = ((30 + part) - 4) := by rw [e_134]; exact t_sub p_132 (show (4 : Int32).toInt = 4 from rfl) (by omega) (by omega)
      refine q_cPV X w (c_X9_of l D t b n σ0 (va_up I 0 0) Rw a_ca x_134 ca ((30 + part) - 4) e_ca p_134 (by first | assumption | omega) (by first | assumption | omega)) v_X9_80 (k := 45) rfl rfl rfl ⟨Nat.le_of_ble_eq_true rfl, Nat.le_of_ble_eq_true rfl⟩ rfl hl.1 (Nat.le_of_ble_eq_true rfl) dX9_calendar_135 ⟨Nat.zero_le _, Nat.zero_le _⟩ (fun r_135 z_135 => ?_)
      exact q_cret (post := (fun z n1 σ1 => n1 = n ∧ ∃ I1 R1, σ1 = mS t b σ0 I1 R1 ∧ R1 = Rw ∧ kpI [0, 6, 7, 8] I I1 ∧ (I1 0).toInt = cd2 (0 ≤ ca ∧ ca < (I 5).toInt) (0 ≤ part ∧ part ≤ 7) ∧ ((I1 0).toInt = 0 → z.toInt = calp (rowM Rw ca) part))) X w dX9_calendar_138 (rfl) ⟨rfl, _, _, rfl, rfl, by exact ⟨kpI.up (J := [0,6,7,8]) kpI.rf (by decide), (by rw [cd2_0 k_5 k_21]; rfl), fun _ => by rw [calp, if_neg (by omega), if_neg (by omega), if_neg (by omega), if_neg (by omega), if_neg (by omega)]; exact congrArg Int32.toInt z_135⟩⟩
    · skip
      rw [z_18] at c_21
      have k_21 := bI_f.mp c_21
      refine lv_aload_n hx hb dX9_calendar_24 rfl (lv_at hl 0 rfl) ?_
      refine lv_iconst (v := 2) hx hb dX9_calendar_25 (by decide) ?_
      refine mm_cCI X w (c_X9_fails l D t b n σ0 I Rw 2 2 (show (2 : Int32).toInt = 2 from rfl)) v_X9_143 rfl rfl ⟨Nat.le_of_ble_eq_true rfl, Nat.le_of_ble_eq_true rfl⟩ rfl hl.1 (Nat.le_of_ble_eq_true rfl) dX9_calendar_26 ⟨Nat.zero_le _, Nat.zero_le _⟩ (fun r_26 I_26 H locs z_26 w => ?_)
      exact q_cret (post := (fun z n1 σ1 => n1 = n ∧ ∃ I1 R1, σ1 = mS t b σ0 I1 R1 ∧ R1 = Rw ∧ kpI [0, 6, 7, 8] I I1 ∧ (I1 0).toInt = cd2 (0 ≤ ca ∧ ca < (I 5).toInt) (0 ≤ part ∧ part ≤ 7) ∧ ((I1 0).toInt = 0 → z.toInt = calp (rowM Rw ca) part))) X w dX9_calendar_29 (rfl) ⟨rfl, _, _, rfl, rfl, by exact ⟨z_26.1.wk (by decide), z_26.2.1.trans (cd2_2 k_5 k_21).symm, fun q => absurd (z_26.2.1.symm.trans q) (by decide)⟩⟩
  · skip
    rw [z_2] at c_5
    have k_5 := bI_f.mp c_5
    refine lv_aload_n hx hb dX9_calendar_8 rfl (lv_at hl 0 rfl) ?_
    refine lv_iconst (v := 1) hx hb dX9_calendar_9 (by decide) ?_
    refine mm_cCI X w (c_X9_fails l D t b n σ0 I Rw 1 1 (show (1 : Int32).toInt = 1 from rfl)) v_X9_143 rfl rfl ⟨Nat.le_of_ble_eq_true rfl, Nat.le_of_ble_eq_true rfl⟩ rfl hl.1 (Nat.le_of_ble_eq_true rfl) dX9_calendar_10 ⟨Nat.zero_le _, Nat.zero_le _⟩ (fun r_10 I_10 H locs z_10 w => ?_)
    exact q_cret (post := (fun z n1 σ1 => n1 = n ∧ ∃ I1 R1, σ1 = mS t b σ0 I1 R1 ∧ R1 = Rw ∧ kpI [0, 6, 7, 8] I I1 ∧ (I1 0).toInt = cd2 (0 ≤ ca ∧ ca < (I 5).toInt) (0 ≤ part ∧ part ≤ 7) ∧ ((I1 0).toInt = 0 → z.toInt = calp (rowM Rw ca) part))) X w dX9_calendar_13 (rfl) ⟨rfl, _, _, rfl, rfl, by exact ⟨z_10.1.wk (by decide), z_10.2.1.trans (cd2_1 k_5).symm, fun q => absurd (z_10.2.1.symm.trans q) (by decide)⟩⟩

set_option maxHeartbeats 4000000 in
set_option maxRecDepth 100000 in
theorem c_X9_dayOf (l : Launch) (D : va_G) (t : Nat → ClassId) (b n : Nat) (σ0 : qM) (I : Nat → Int32) (Rw : Nat → Nat → Int32) (a_ca : Int32) (a_yr : Int32) (a_mo : Int32) (a_da : Int32) (ca : Int) (yr : Int) (mo : Int) (da : Int) (e_ca : a_ca.toInt = ca) (e_yr : a_yr.toInt = yr) (e_mo : a_mo.toInt = mo) (e_da : a_da.toInt = da) (h_1 : (I 5).toInt ≤ 6) (h_2 : ∀ c : Int, 0 ≤ c → c < (I 5).toInt → okRow (rowM Rw c)) (h_3 : ∀ c : Int, 0 ≤ c → c < (I 5).toInt → okF Rw c) : mC l yX9_dayOf cX9_dayOf 5 (some .int) 7 D t b n σ0 I Rw [.ref (b + 45), .int a_ca, .int a_yr, .int a_mo, .int a_da] (fun z I1 R1 => R1 = Rw ∧ kpI [0, 6, 7, 8] I I1 ∧ (I1 0).toInt = cd2 (0 ≤ ca ∧ ca < (I 5).toInt) ((((-2000 ≤ yr ∧ yr ≤ 2000) ∧ 1 ≤ mo ∧ mo ≤ mcnt (rowM Rw ca) yr) ∧ 1 ≤ da ∧ da ≤ mlen (rowM Rw ca) yr mo) ∧ -999999 ≤ dnum (rowM Rw ca) yr mo da ∧ dnum (rowM Rw ca) yr mo da ≤ 999999) ∧ ((I1 0).toInt = 0 → z.toInt = dnum (rowM Rw ca) yr mo da)) := by
  refine qC.of (by decide +kernel) (Nat.le_of_ble_eq_true rfl) (fun p e s m args below meth c X w ls hl => ?_)
  have hx := X.1
  have hb := X.2.1
  have hl : lv_has ls 5 [(0, .ref (b + 45)), (1, .int a_ca), (2, .int a_yr), (3, .int a_mo), (4, .int a_da)] := hl
  refine lv_aload_n hx hb dX9_dayOf_0 rfl (lv_at hl 0 rfl) ?_
  refine lv_iload_n hx hb dX9_dayOf_1 rfl (lv_at hl 1 rfl) ?_
  refine q_cPV X w (c_X9_isCalendar l D t b n σ0 I Rw a_ca ca e_ca) v_X9_221 (k := 45) rfl rfl rfl ⟨Nat.le_of_ble_eq_true rfl, Nat.le_of_ble_eq_true rfl⟩ rfl hl.1 (Nat.le_of_ble_eq_true rfl) dX9_dayOf_2 ⟨Nat.zero_le _, Nat.zero_le _⟩ (fun r_2 z_2 => ?_)
  refine lv_if_ne (tgt := 14) hx hb dX9_dayOf_5 (by decide) (fun c_5 => ?_) (fun c_5 => ?_)
  · skip
    rw [z_2] at c_5
    have k_5 := bI_t.mp c_5
    have hq := h_2 ca k_5.1 k_5.2
    have hF := h_3 ca k_5.1 k_5.2
    refine lv_aload_n hx hb dX9_dayOf_14 rfl (lv_at hl 0 rfl) ?_
    refine lv_iload_n hx hb dX9_dayOf_15 rfl (lv_at hl 1 rfl) ?_
    refine lv_iload_n hx hb dX9_dayOf_16 rfl (lv_at hl 2 rfl) ?_
    refine lv_iload_n hx hb dX9_dayOf_17 rfl (lv_at hl 3 rfl) ?_
    refine lv_iload hx hb dX9_dayOf_18 (lv_at hl 4 rfl) ?_
    refine q_cPV X w (c_X9_isDatedDay l D t b n σ0 I Rw a_ca a_yr a_mo a_da ca yr mo da e_ca e_yr e_mo e_da (by first | assumption | omega) (by first | assumption | omega) (by first | assumption | omega)) v_X9_241 (k := 45) rfl rfl rfl ⟨Nat.le_of_ble_eq_true rfl, Nat.le_of_ble_eq_true rfl⟩ rfl hl.1 (Nat.le_of_ble_eq_true rfl) dX9_dayOf_20 ⟨Nat.zero_le _, Nat.zero_le _⟩ (fun r_20 z_20 => ?_)
    refine lv_if_ne (tgt := 32) hx hb dX9_dayOf_23 (by decide) (fun c_23 => ?_) (fun c_23 => ?_)
    · skip
      rw [z_20] at c_23
      have k_23 := bI_t.mp c_23
      have hL := mlen_bd hq k_23.1.1.2.1 k_23.1.1.2.2
      refine lv_aload_n hx hb dX9_dayOf_32 rfl (lv_at hl 0 rfl) ?_
      refine lv_iconst (v := 0) hx hb dX9_dayOf_33 (by decide) ?_
      refine mp_thrown (v := 0) X w dX9_dayOf_34 (fun H locs w => ?_)
      refine lv_aload_n hx hb dX9_dayOf_37 rfl (lv_at hl 0 rfl) ?_
      refine lv_iload_n hx hb dX9_dayOf_38 rfl (lv_at hl 1 rfl) ?_
      refine lv_iload_n hx hb dX9_dayOf_39 rfl (lv_at hl 2 rfl) ?_
      refine lv_iload_n hx hb dX9_dayOf_40 rfl (lv_at hl 3 rfl) ?_
      refine lv_iload hx hb dX9_dayOf_41 (lv_at hl 4 rfl) ?_
      refine q_cPV X w (c_X9_dayAt l D t b n σ0 (va_up I 0 0) Rw a_ca a_yr a_mo a_da ca yr mo da e_ca e_yr e_mo e_da (by first | assumption | omega) (by first | assumption | omega) (by first | assumption | omega) (by omega) (by exact k_23.1.1.2) (by omega)) v_X9_234 (k := 45) rfl rfl rfl ⟨Nat.le_of_ble_eq_true rfl, Nat.le_of_ble_eq_true rfl⟩ rfl hl.1 (Nat.le_of_ble_eq_true rfl) dX9_dayOf_43 ⟨Nat.zero_le _, Nat.zero_le _⟩ (fun r_43 z_43 => ?_)
      exact q_cret (post := (fun z n1 σ1 => n1 = n ∧ ∃ I1 R1, σ1 = mS t b σ0 I1 R1 ∧ R1 = Rw ∧ kpI [0, 6, 7, 8] I I1 ∧ (I1 0).toInt = cd2 (0 ≤ ca ∧ ca < (I 5).toInt) ((((-2000 ≤ yr ∧ yr ≤ 2000) ∧ 1 ≤ mo ∧ mo ≤ mcnt (rowM Rw ca) yr) ∧ 1 ≤ da ∧ da ≤ mlen (rowM Rw ca) yr mo) ∧ -999999 ≤ dnum (rowM Rw ca) yr mo da ∧ dnum (rowM Rw ca) yr mo da ≤ 999999) ∧ ((I1 0).toInt = 0 → z.toInt = dnum (rowM Rw ca) yr mo da))) X w dX9_dayOf_46 (rfl) ⟨rfl, _, _, rfl, rfl, by exact ⟨kpI.up (J := [0,6,7,8]) kpI.rf (by decide), (by rw [cd2_0 k_5 k_23]; rfl), fun _ => z_43⟩⟩
    · skip
      rw [z_20] at c_23
      have k_23 := bI_f.mp c_23
      refine lv_aload_n hx hb dX9_dayOf_26 rfl (lv_at hl 0 rfl) ?_
      refine lv_iconst (v := 2) hx hb dX9_dayOf_27 (by decide) ?_
      refine mm_cCI X w (c_X9_fails l D t b n σ0 I Rw 2 2 (show (2 : Int32).toInt = 2 from rfl)) v_X9_143 rfl rfl ⟨Nat.le_of_ble_eq_true rfl, Nat.le_of_ble_eq_true rfl⟩ rfl hl.1 (Nat.le_of_ble_eq_true rfl) dX9_dayOf_28 ⟨Nat.zero_le _, Nat.zero_le _⟩ (fun r_28 I_28 H locs z_28 w => ?_)
      exact q_cret (post := (fun z n1 σ1 => n1 = n ∧ ∃ I1 R1, σ1 = mS t b σ0 I1 R1 ∧ R1 = Rw ∧ kpI [0, 6, 7, 8] I I1 ∧ (I1 0).toInt = cd2 (0 ≤ ca ∧ ca < (I 5).toInt) ((((-2000 ≤ yr ∧ yr ≤ 2000) ∧ 1 ≤ mo ∧ mo ≤ mcnt (rowM Rw ca) yr) ∧ 1 ≤ da ∧ da ≤ mlen (rowM Rw ca) yr mo) ∧ -999999 ≤ dnum (rowM Rw ca) yr mo da ∧ dnum (rowM Rw ca) yr mo da ≤ 999999) ∧ ((I1 0).toInt = 0 → z.toInt = dnum (rowM Rw ca) yr mo da))) X w dX9_dayOf_31 (rfl) ⟨rfl, _, _, rfl, rfl, by exact ⟨z_28.1.wk (by decide), z_28.2.1.trans (cd2_2 k_5 k_23).symm, fun q => absurd (z_28.2.1.symm.trans q) (by decide)⟩⟩
  · skip
    rw [z_2] at c_5
    have k_5 := bI_f.mp c_5
    refine lv_aload_n hx hb dX9_dayOf_8 rfl (lv_at hl 0 rfl) ?_
    refine lv_iconst (v := 1) hx hb dX9_dayOf_9 (by decide) ?_
    refine mm_cCI X w (c_X9_fails l D t b n σ0 I Rw 1 1 (show (1 : Int32).toInt = 1 from rfl)) v_X9_143 rfl rfl ⟨Nat.le_of_ble_eq_true rfl, Nat.le_of_ble_eq_true rfl⟩ rfl hl.1 (Nat.le_of_ble_eq_true rfl) dX9_dayOf_10 ⟨Nat.zero_le _, Nat.zero_le _⟩ (fun r_10 I_10 H locs z_10 w => ?_)
    exact q_cret (post := (fun z n1 σ1 => n1 = n ∧ ∃ I1 R1, σ1 = mS t b σ0 I1 R1 ∧ R1 = Rw ∧ kpI [0, 6, 7, 8] I I1 ∧ (I1 0).toInt = cd2 (0 ≤ ca ∧ ca < (I 5).toInt) ((((-2000 ≤ yr ∧ yr ≤ 2000) ∧ 1 ≤ mo ∧ mo ≤ mcnt (rowM Rw ca) yr) ∧ 1 ≤ da ∧ da ≤ mlen (rowM Rw ca) yr mo) ∧ -999999 ≤ dnum (rowM Rw ca) yr mo da ∧ dnum (rowM Rw ca) yr mo da ≤ 999999) ∧ ((I1 0).toInt = 0 → z.toInt = dnum (rowM Rw ca) yr mo da))) X w dX9_dayOf_13 (rfl) ⟨rfl, _, _, rfl, rfl, by exact ⟨z_10.1.wk (by decide), z_10.2.1.trans (cd2_1 k_5).symm, fun q => absurd (z_10.2.1.symm.trans q) (by decide)⟩⟩

set_option maxHeartbeats 4000000 in
set_option maxRecDepth 100000 in
theorem c_X9_date (l : Launch) (D : va_G) (t : Nat → ClassId) (b n : Nat) (σ0 : qM) (I : Nat → Int32) (Rw : Nat → Nat → Int32) (a_ca : Int32) (a_dy : Int32) (a_part : Int32) (ca : Int) (dy : Int) (part : Int) (e_ca : a_ca.toInt = ca) (e_dy : a_dy.toInt = dy) (e_part : a_part.toInt = part) (h_1 : (I 5).toInt ≤ 6) (h_2 : ∀ c : Int, 0 ≤ c → c < (I 5).toInt → okRow (rowM Rw c)) (h_3 : ∀ c : Int, 0 ≤ c → c < (I 5).toInt → okF Rw c) : mC l yX9_date cX9_date 4 (some .int) 7 D t b n σ0 I Rw [.ref (b + 45), .int a_ca, .int a_dy, .int a_part] (fun z I1 R1 => R1 = Rw ∧ kpI [0, 6, 7, 8] I I1 ∧ (I1 0).toInt = cd3 (0 ≤ ca ∧ ca < (I 5).toInt) ((-999999 ≤ dy ∧ dy ≤ 999999) ∧ 0 ≤ part ∧ part ≤ 4) (fst (rowM Rw ca) (-2000) ≤ dy ∧ dy < fst (rowM Rw ca) 2001) ∧ ((I1 0).toInt = 0 → z.toInt = pof (rowM Rw ca) dy part)) := by
  refine qC.of (by decide +kernel) (Nat.le_of_ble_eq_true rfl) (fun p e s m args below meth c X w ls hl => ?_)
  have hx := X.1
  have hb := X.2.1
  have hl : lv_has ls 4 [(0, .ref (b + 45)), (1, .int a_ca), (2, .int a_dy), (3, .int a_part)] := hl
  refine lv_aload_n hx hb dX9_date_0 rfl (lv_at hl 0 rfl) ?_
  refine lv_iload_n hx hb dX9_date_1 rfl (lv_at hl 1 rfl) ?_
  refine q_cPV X w (c_X9_isCalendar l D t b n σ0 I Rw a_ca ca e_ca) v_X9_221 (k := 45) rfl rfl rfl ⟨Nat.le_of_ble_eq_true rfl, Nat.le_of_ble_eq_true rfl⟩ rfl hl.1 (Nat.le_of_ble_eq_true rfl) dX9_date_2 ⟨Nat.zero_le _, Nat.zero_le _⟩ (fun r_2 z_2 => ?_)
  refine lv_if_ne (tgt := 14) hx hb dX9_date_5 (by decide) (fun c_5 => ?_) (fun c_5 => ?_)
  · skip
    rw [z_2] at c_5
    have k_5 := bI_t.mp c_5
    have hq := h_2 ca k_5.1 k_5.2
    have hF := h_3 ca k_5.1 k_5.2
    refine lv_iload_n hx hb dX9_date_14 rfl (lv_at hl 2 rfl) ?_
    refine q_cPS X w (c_X9_isDay l a_dy dy e_dy D t b n (mS t b σ0 I Rw)) v_X9_238 rfl ⟨Nat.le_of_ble_eq_true rfl, Nat.le_of_ble_eq_true rfl⟩ rfl hl.1 (Nat.le_of_ble_eq_true rfl) dX9_date_15 ⟨Nat.zero_le _, Nat.zero_le _⟩ (fun r_15 z_15 => ?_)
    refine lv_if_eq (tgt := 30) hx hb dX9_date_18 (by decide) (fun c_18 => ?_) (fun c_18 => ?_)
    · skip
      rw [z_15] at c_18
      have k_18 := bI_f.mp c_18
      refine lv_aload_n hx hb dX9_date_30 rfl (lv_at hl 0 rfl) ?_
      refine lv_iconst (v := 2) hx hb dX9_date_31 (by decide) ?_
      refine mm_cCI X w (c_X9_fails l D t b n σ0 I Rw 2 2 (show (2 : Int32).toInt = 2 from rfl)) v_X9_143 rfl rfl ⟨Nat.le_of_ble_eq_true rfl, Nat.le_of_ble_eq_true rfl⟩ rfl hl.1 (Nat.le_of_ble_eq_true rfl) dX9_date_32 ⟨Nat.zero_le _, Nat.zero_le _⟩ (fun r_32 I_32 H locs z_32 w => ?_)
      exact q_cret (post := (fun z n1 σ1 => n1 = n ∧ ∃ I1 R1, σ1 = mS t b σ0 I1 R1 ∧ R1 = Rw ∧ kpI [0, 6, 7, 8] I I1 ∧ (I1 0).toInt = cd3 (0 ≤ ca ∧ ca < (I 5).toInt) ((-999999 ≤ dy ∧ dy ≤ 999999) ∧ 0 ≤ part ∧ part ≤ 4) (fst (rowM Rw ca) (-2000) ≤ dy ∧ dy < fst (rowM Rw ca) 2001) ∧ ((I1 0).toInt = 0 → z.toInt = pof (rowM Rw ca) dy part))) X w dX9_date_35 (rfl) ⟨rfl, _, _, rfl, rfl, by exact ⟨z_32.1.wk (by decide), z_32.2.1.trans (cd3_2 k_5 (fun q => k_18 q.1)).symm, fun q => absurd (z_32.2.1.symm.trans q) (by decide)⟩⟩
    · skip
      rw [z_15] at c_18
      have k_18 := bI_t.mp c_18
      refine lv_iload_n hx hb dX9_date_21 rfl (lv_at hl 3 rfl) ?_
      refine lv_iconst (v := 0) hx hb dX9_date_22 (by decide) ?_
      refine lv_iconst (v := 4) hx hb dX9_date_23 (by decide) ?_
      refine q_cPS X w (c_X9_isBetween l a_part 0 4 part 0 4 e_part (show (0 : Int32).toInt = 0 from rfl) (show (4 : Int32).toInt = 4 from rfl) D t b n (mS t b σ0 I Rw)) v_X9_70 rfl ⟨Nat.le_of_ble_eq_true rfl, Nat.le_of_ble_eq_true rfl⟩ rfl hl.1 (Nat.le_of_ble_eq_true rfl) dX9_date_24 ⟨Nat.zero_le _, Nat.zero_le _⟩ (fun r_24 z_24 => ?_)
      refine lv_if_ne (tgt := 36) hx hb dX9_date_27 (by decide) (fun c_27 => ?_) (fun c_27 => ?_)
      · skip
        rw [z_24] at c_27
        have k_27 := bI_t.mp c_27
        refine lv_aload_n hx hb dX9_date_36 rfl (lv_at hl 0 rfl) ?_
        refine lv_iload_n hx hb dX9_date_37 rfl (lv_at hl 1 rfl) ?_
        refine lv_iload_n hx hb dX9_date_38 rfl (lv_at hl 2 rfl) ?_
        refine q_cPV X w (c_X9_isInside l D t b n σ0 I Rw a_ca a_dy ca dy e_ca e_dy (by first | assumption | omega) (by first | assumption | omega) (by first | assumption | omega)) v_X9_244 (k := 45) rfl rfl rfl ⟨Nat.le_of_ble_eq_true rfl, Nat.le_of_ble_eq_true rfl⟩ rfl hl.1 (Nat.le_of_ble_eq_true rfl) dX9_date_39 ⟨Nat.zero_le _, Nat.zero_le _⟩ (fun r_39 z_39 => ?_)
        refine lv_if_ne (tgt := 51) hx hb dX9_date_42 (by decide) (fun c_42 => ?_) (fun c_42 => ?_)
        · skip
          rw [z_39] at c_42
          have k_42 := bI_t.mp c_42
          refine lv_aload_n hx hb dX9_date_51 rfl (lv_at hl 0 rfl) ?_
          refine lv_iconst (v := 0) hx hb dX9_date_52 (by decide) ?_
          refine mp_thrown (v := 0) X w dX9_date_53 (fun H locs w => ?_)
          refine lv_aload_n hx hb dX9_date_56 rfl (lv_at hl 0 rfl) ?_
          refine lv_iload_n hx hb dX9_date_57 rfl (lv_at hl 1 rfl) ?_
          refine lv_iload_n hx hb dX9_date_58 rfl (lv_at hl 2 rfl) ?_
          refine lv_iload_n hx hb dX9_date_59 rfl (lv_at hl 3 rfl) ?_
          refine mm_cCI X w (c_X9_partOf l D t b n σ0 (va_up I 0 0) Rw a_ca a_dy a_part ca dy part e_ca e_dy e_part (by first | assumption | omega) (by first | assumption | omega) (by first | assumption | omega) (by first | assumption | omega) (by first | assumption | omega)) v_X9_247 rfl rfl ⟨Nat.le_of_ble_eq_true rfl, Nat.le_of_ble_eq_true rfl⟩ rfl hl.1 (Nat.le_of_ble_eq_true rfl) dX9_date_60 ⟨Nat.zero_le _, Nat.zero_le _⟩ (fun r_60 I_60 H locs z_60 w => ?_)
          exact q_cret (post := (fun z n1 σ1 => n1 = n ∧ ∃ I1 R1, σ1 = mS t b σ0 I1 R1 ∧ R1 = Rw ∧ kpI [0, 6, 7, 8] I I1 ∧ (I1 0).toInt = cd3 (0 ≤ ca ∧ ca < (I 5).toInt) ((-999999 ≤ dy ∧ dy ≤ 999999) ∧ 0 ≤ part ∧ part ≤ 4) (fst (rowM Rw ca) (-2000) ≤ dy ∧ dy < fst (rowM Rw ca) 2001) ∧ ((I1 0).toInt = 0 → z.toInt = pof (rowM Rw ca) dy part))) X w dX9_date_63 (rfl) ⟨rfl, _, _, rfl, rfl, by exact ⟨(kpI.up (J := [0]) kpI.rf (by decide)).tr z_60.1 (by decide) (by decide), (by rw [cd3_0 k_5 ⟨k_18, k_27⟩ k_42]; exact congrArg Int32.toInt (z_60.1 0 (by decide))), fun _ => z_60.2.2.2.2⟩⟩
        · skip
          rw [z_39] at c_42
          have k_42 := bI_f.mp c_42
          refine lv_aload_n hx hb dX9_date_45 rfl (lv_at hl 0 rfl) ?_
          refine lv_iconst (v := 3) hx hb dX9_date_46 (by decide) ?_
          refine mm_cCI X w (c_X9_fails l D t b n σ0 I Rw 3 3 (show (3 : Int32).toInt = 3 from rfl)) v_X9_143 rfl rfl ⟨Nat.le_of_ble_eq_true rfl, Nat.le_of_ble_eq_true rfl⟩ rfl hl.1 (Nat.le_of_ble_eq_true rfl) dX9_date_47 ⟨Nat.zero_le _, Nat.zero_le _⟩ (fun r_47 I_47 H locs z_47 w => ?_)
          exact q_cret (post := (fun z n1 σ1 => n1 = n ∧ ∃ I1 R1, σ1 = mS t b σ0 I1 R1 ∧ R1 = Rw ∧ kpI [0, 6, 7, 8] I I1 ∧ (I1 0).toInt = cd3 (0 ≤ ca ∧ ca < (I 5).toInt) ((-999999 ≤ dy ∧ dy ≤ 999999) ∧ 0 ≤ part ∧ part ≤ 4) (fst (rowM Rw ca) (-2000) ≤ dy ∧ dy < fst (rowM Rw ca) 2001) ∧ ((I1 0).toInt = 0 → z.toInt = pof (rowM Rw ca) dy part))) X w dX9_date_50 (rfl) ⟨rfl, _, _, rfl, rfl, by exact ⟨z_47.1.wk (by decide), z_47.2.1.trans (cd3_3 k_5 ⟨k_18, k_27⟩ k_42).symm, fun q => absurd (z_47.2.1.symm.trans q) (by decide)⟩⟩
      · skip
        rw [z_24] at c_27
        have k_27 := bI_f.mp c_27
        refine lv_aload_n hx hb dX9_date_30 rfl (lv_at hl 0 rfl) ?_
        refine lv_iconst (v := 2) hx hb dX9_date_31 (by decide) ?_
        refine mm_cCI X w (c_X9_fails l D t b n σ0 I Rw 2 2 (show (2 : Int32).toInt = 2 from rfl)) v_X9_143 rfl rfl ⟨Nat.le_of_ble_eq_true rfl, Nat.le_of_ble_eq_true rfl⟩ rfl hl.1 (Nat.le_of_ble_eq_true rfl) dX9_date_32 ⟨Nat.zero_le _, Nat.zero_le _⟩ (fun r_32 I_32 H locs z_32 w => ?_)
        exact q_cret (post := (fun z n1 σ1 => n1 = n ∧ ∃ I1 R1, σ1 = mS t b σ0 I1 R1 ∧ R1 = Rw ∧ kpI [0, 6, 7, 8] I I1 ∧ (I1 0).toInt = cd3 (0 ≤ ca ∧ ca < (I 5).toInt) ((-999999 ≤ dy ∧ dy ≤ 999999) ∧ 0 ≤ part ∧ part ≤ 4) (fst (rowM Rw ca) (-2000) ≤ dy ∧ dy < fst (rowM Rw ca) 2001) ∧ ((I1 0).toInt = 0 → z.toInt = pof (rowM Rw ca) dy part))) X w dX9_date_35 (rfl) ⟨rfl, _, _, rfl, rfl, by exact ⟨z_32.1.wk (by decide), z_32.2.1.trans (cd3_2 k_5 (fun q => k_27 q.2)).symm, fun q => absurd (z_32.2.1.symm.trans q) (by decide)⟩⟩
  · skip
    rw [z_2] at c_5
    have k_5 := bI_f.mp c_5
    refine lv_aload_n hx hb dX9_date_8 rfl (lv_at hl 0 rfl) ?_
    refine lv_iconst (v := 1) hx hb dX9_date_9 (by decide) ?_
    refine mm_cCI X w (c_X9_fails l D t b n σ0 I Rw 1 1 (show (1 : Int32).toInt = 1 from rfl)) v_X9_143 rfl rfl ⟨Nat.le_of_ble_eq_true rfl, Nat.le_of_ble_eq_true rfl⟩ rfl hl.1 (Nat.le_of_ble_eq_true rfl) dX9_date_10 ⟨Nat.zero_le _, Nat.zero_le _⟩ (fun r_10 I_10 H locs z_10 w => ?_)
    exact q_cret (post := (fun z n1 σ1 => n1 = n ∧ ∃ I1 R1, σ1 = mS t b σ0 I1 R1 ∧ R1 = Rw ∧ kpI [0, 6, 7, 8] I I1 ∧ (I1 0).toInt = cd3 (0 ≤ ca ∧ ca < (I 5).toInt) ((-999999 ≤ dy ∧ dy ≤ 999999) ∧ 0 ≤ part ∧ part ≤ 4) (fst (rowM Rw ca) (-2000) ≤ dy ∧ dy < fst (rowM Rw ca) 2001) ∧ ((I1 0).toInt = 0 → z.toInt = pof (rowM Rw ca) dy part))) X w dX9_date_13 (rfl) ⟨rfl, _, _, rfl, rfl, by exact ⟨z_10.1.wk (by decide), z_10.2.1.trans (cd3_1 k_5).symm, fun q => absurd (z_10.2.1.symm.trans q) (by decide)⟩⟩

set_option maxHeartbeats 4000000 in
set_option maxRecDepth 100000 in
theorem c_X9_week (l : Launch) (D : va_G) (t : Nat → ClassId) (b n : Nat) (σ0 : qM) (I : Nat → Int32) (Rw : Nat → Nat → Int32) (a_ca : Int32) (a_dy : Int32) (a_part : Int32) (ca : Int) (dy : Int) (part : Int) (e_ca : a_ca.toInt = ca) (e_dy : a_dy.toInt = dy) (e_part : a_part.toInt = part) (h_1 : (I 5).toInt ≤ 6) (h_2 : ∀ c : Int, 0 ≤ c → c < (I 5).toInt → okRow (rowM Rw c)) (h_3 : ∀ c : Int, 0 ≤ c → c < (I 5).toInt → okF Rw c) : mC l yX9_week cX9_week 5 (some .int) 4 D t b n σ0 I Rw [.ref (b + 45), .int a_ca, .int a_dy, .int a_part] (fun z I1 R1 => R1 = Rw ∧ kpI [0, 6, 7, 8] I I1 ∧ (I1 0).toInt = cd3 (0 ≤ ca ∧ ca < (I 5).toInt) ((-999999 ≤ dy ∧ dy ≤ 999999) ∧ 0 ≤ part ∧ part ≤ 1) (fst (rowM Rw ca) (-2000) ≤ dy ∧ dy < fst (rowM Rw ca) 2001) ∧ ((I1 0).toInt = 0 → z.toInt = (if part = 0 then wyr (rowM Rw ca) dy else (dy - fw (rowM Rw ca) (wyr (rowM Rw ca) dy)) / rv (rowM Rw ca) 30 + 1))) := by
  refine qC.of (by decide +kernel) (Nat.le_of_ble_eq_true rfl) (fun p e s m args below meth c X w ls hl => ?_)
  have hx := X.1
  have hb := X.2.1
  have hl : lv_has ls 5 [(0, .ref (b + 45)), (1, .int a_ca), (2, .int a_dy), (3, .int a_part)] := hl
  refine lv_aload_n hx hb dX9_week_0 rfl (lv_at hl 0 rfl) ?_
  refine lv_iload_n hx hb dX9_week_1 rfl (lv_at hl 1 rfl) ?_
  refine q_cPV X w (c_X9_isCalendar l D t b n σ0 I Rw a_ca ca e_ca) v_X9_221 (k := 45) rfl rfl rfl ⟨Nat.le_of_ble_eq_true rfl, Nat.le_of_ble_eq_true rfl⟩ rfl hl.1 (Nat.le_of_ble_eq_true rfl) dX9_week_2 ⟨Nat.zero_le _, Nat.zero_le _⟩ (fun r_2 z_2 => ?_)
  refine lv_if_ne (tgt := 14) hx hb dX9_week_5 (by decide) (fun c_5 => ?_) (fun c_5 => ?_)
  · skip
    rw [z_2] at c_5
    have k_5 := bI_t.mp c_5
    have hq := h_2 ca k_5.1 k_5.2
    have hF := h_3 ca k_5.1 k_5.2
    refine lv_iload_n hx hb dX9_week_14 rfl (lv_at hl 2 rfl) ?_
    refine q_cPS X w (c_X9_isDay l a_dy dy e_dy D t b n (mS t b σ0 I Rw)) v_X9_238 rfl ⟨Nat.le_of_ble_eq_true rfl, Nat.le_of_ble_eq_true rfl⟩ rfl hl.1 (Nat.le_of_ble_eq_true rfl) dX9_week_15 ⟨Nat.zero_le _, Nat.zero_le _⟩ (fun r_15 z_15 => ?_)
    refine lv_if_eq (tgt := 30) hx hb dX9_week_18 (by decide) (fun c_18 => ?_) (fun c_18 => ?_)
    · skip
      rw [z_15] at c_18
      have k_18 := bI_f.mp c_18
      refine lv_aload_n hx hb dX9_week_30 rfl (lv_at hl 0 rfl) ?_
      refine lv_iconst (v := 2) hx hb dX9_week_31 (by decide) ?_
      refine mm_cCI X w (c_X9_fails l D t b n σ0 I Rw 2 2 (show (2 : Int32).toInt = 2 from rfl)) v_X9_143 rfl rfl ⟨Nat.le_of_ble_eq_true rfl, Nat.le_of_ble_eq_true rfl⟩ rfl hl.1 (Nat.le_of_ble_eq_true rfl) dX9_week_32 ⟨Nat.zero_le _, Nat.zero_le _⟩ (fun r_32 I_32 H locs z_32 w => ?_)
      exact q_cret (post := (fun z n1 σ1 => n1 = n ∧ ∃ I1 R1, σ1 = mS t b σ0 I1 R1 ∧ R1 = Rw ∧ kpI [0, 6, 7, 8] I I1 ∧ (I1 0).toInt = cd3 (0 ≤ ca ∧ ca < (I 5).toInt) ((-999999 ≤ dy ∧ dy ≤ 999999) ∧ 0 ≤ part ∧ part ≤ 1) (fst (rowM Rw ca) (-2000) ≤ dy ∧ dy < fst (rowM Rw ca) 2001) ∧ ((I1 0).toInt = 0 → z.toInt = (if part = 0 then wyr (rowM Rw ca) dy else (dy - fw (rowM Rw ca) (wyr (rowM Rw ca) dy)) / rv (rowM Rw ca) 30 + 1)))) X w dX9_week_35 (rfl) ⟨rfl, _, _, rfl, rfl, by exact ⟨z_32.1.wk (by decide), z_32.2.1.trans (cd3_2 k_5 (fun q => k_18 q.1)).symm, fun q => absurd (z_32.2.1.symm.trans q) (by decide)⟩⟩
    · skip
      rw [z_15] at c_18
      have k_18 := bI_t.mp c_18
      refine lv_iload_n hx hb dX9_week_21 rfl (lv_at hl 3 rfl) ?_
      refine lv_iconst (v := 0) hx hb dX9_week_22 (by decide) ?_
      refine lv_iconst (v := 1) hx hb dX9_week_23 (by decide) ?_
      refine q_cPS X w (c_X9_isBetween l a_part 0 1 part 0 1 e_part (show (0 : Int32).toInt = 0 from rfl) (show (1 : Int32).toInt = 1 from rfl) D t b n (mS t b σ0 I Rw)) v_X9_70 rfl ⟨Nat.le_of_ble_eq_true rfl, Nat.le_of_ble_eq_true rfl⟩ rfl hl.1 (Nat.le_of_ble_eq_true rfl) dX9_week_24 ⟨Nat.zero_le _, Nat.zero_le _⟩ (fun r_24 z_24 => ?_)
      refine lv_if_ne (tgt := 36) hx hb dX9_week_27 (by decide) (fun c_27 => ?_) (fun c_27 => ?_)
      · skip
        rw [z_24] at c_27
        have k_27 := bI_t.mp c_27
        refine lv_aload_n hx hb dX9_week_36 rfl (lv_at hl 0 rfl) ?_
        refine lv_iload_n hx hb dX9_week_37 rfl (lv_at hl 1 rfl) ?_
        refine lv_iload_n hx hb dX9_week_38 rfl (lv_at hl 2 rfl) ?_
        refine q_cPV X w (c_X9_isInside l D t b n σ0 I Rw a_ca a_dy ca dy e_ca e_dy (by first | assumption | omega) (by first | assumption | omega) (by first | assumption | omega)) v_X9_244 (k := 45) rfl rfl rfl ⟨Nat.le_of_ble_eq_true rfl, Nat.le_of_ble_eq_true rfl⟩ rfl hl.1 (Nat.le_of_ble_eq_true rfl) dX9_week_39 ⟨Nat.zero_le _, Nat.zero_le _⟩ (fun r_39 z_39 => ?_)
        refine lv_if_ne (tgt := 51) hx hb dX9_week_42 (by decide) (fun c_42 => ?_) (fun c_42 => ?_)
        · skip
          rw [z_39] at c_42
          have k_42 := bI_t.mp c_42
          have hw := hq.wk
          have hy := wyr_bd hq k_42.1 k_42.2
          have hy2 := yof_bd (rowM Rw ca) dy
          have hy3 := yof_in hq k_42.1 k_42.2
          refine lv_aload_n hx hb dX9_week_51 rfl (lv_at hl 0 rfl) ?_
          refine lv_iconst (v := 0) hx hb dX9_week_52 (by decide) ?_
          refine mp_thrown (v := 0) X w dX9_week_53 (fun H locs w => ?_)
          refine lv_aload_n hx hb dX9_week_56 rfl (lv_at hl 0 rfl) ?_
          refine lv_iload_n hx hb dX9_week_57 rfl (lv_at hl 1 rfl) ?_
          refine lv_iload_n hx hb dX9_week_58 rfl (lv_at hl 2 rfl) ?_
          refine q_cPV X w (c_X9_weekYear l D t b n σ0 (va_up I 0 0) Rw a_ca a_dy ca dy e_ca e_dy (by first | assumption | omega) (by first | assumption | omega) (by first | assumption | omega) (by first | assumption | omega)) v_X9_253 (k := 45) rfl rfl rfl ⟨Nat.le_of_ble_eq_true rfl, Nat.le_of_ble_eq_true rfl⟩ rfl hl.1 (Nat.le_of_ble_eq_true rfl) dX9_week_59 ⟨Nat.zero_le _, Nat.zero_le _⟩ (fun r_59 z_59 => ?_)
          refine lv_istore (lv' := [(4, .int r_59), (0, .ref (b + 45)), (1, .int a_ca), (2, .int a_dy), (3, .int a_part)]) hx hb dX9_week_62 hl (by decide) rfl (fun ls hl => ?_)
          refine lv_iload_n hx hb dX9_week_64 rfl (lv_at hl 4 rfl) ?_
          refine lv_if_ne (tgt := 73) hx hb dX9_week_65 (by decide) (fun c_65 => ?_) (fun c_65 => ?_)
          · skip
            have k_65 : ¬ (part = 0) := fun h => c_65 ((g_eq e_part (show (0 : Int32).toInt = 0 from rfl)).mpr h)
            have hdv := dvb (x := dy - fw (rowM Rw ca) (wyr (rowM Rw ca) dy)) (y := rv (rowM Rw ca) 30) (by omega) (by omega)
            refine lv_iload_n hx hb dX9_week_73 rfl (lv_at hl 3 rfl) ?_
            refine lv_aload_n hx hb dX9_week_74 rfl (lv_at hl 1 rfl) ?_
            refine lv_iload_n hx hb dX9_week_75 rfl (lv_at hl 2 rfl) ?_
            refine lv_iload hx hb dX9_week_76 (lv_at hl 0 rfl) ?_
            refine q_cPV X w (c_X9_firstWeek l D t b n σ0 (va_up I 0 0) Rw a_ca r_59 ca (wyr (rowM Rw ca) dy) e_ca z_59 (by first | assumption | omega) (by first | assumption | omega) (by first | assumption | omega) (by first | assumption | omega)) v_X9_250 (k := 45) rfl rfl rfl ⟨Nat.le_of_ble_eq_true rfl, Nat.le_of_ble_eq_true rfl⟩ rfl hl.1 (Nat.le_of_ble_eq_true rfl) dX9_week_78 ⟨Nat.zero_le _, Nat.zero_le _⟩ (fun r_78 z_78 => ?_)
            refine lv_isub hx hb dX9_week_81 ?_
            refine lv_topi (fun x_81 e_81 => ?_)
            have p_81 : x_81.toInt = (dy - (fw (rowM Rw ca) (wyr (rowM Rw ca) dy))) := by rw [e_81]; exact t_sub e_dy z_78 (by omega) (by omega)
            refine lv_aload_n hx hb dX9_week_82 rfl (lv_at hl 1 rfl) ?_
            refine lv_iload_n hx hb dX9_week_83 rfl (lv_at hl 2 rfl) ?_
            refine lv_bipush (v := 30) hx hb dX9_week_84 (by decide) ?_
            refine q_cPV X w (c_X9_of l D t b n σ0 (va_up I 0 0) Rw a_ca 30 ca 30 e_ca (show (30 : Int32).toInt = 30 from rfl) (by first | assumption | omega) (by first | assumption | omega)) v_X9_80 (k := 45) rfl rfl rfl ⟨Nat.le_of_ble_eq_true rfl, Nat.le_of_ble_eq_true rfl⟩ rfl hl.1 (Nat.le_of_ble_eq_true rfl) dX9_week_86 ⟨Nat.zero_le _, Nat.zero_le _⟩ (fun r_86 z_86 => ?_)
            refine lv_idiv hx hb dX9_week_89 (g_ne0 (congrArg Int32.toInt z_86) (show rv (rowM Rw ca) 30 ≠ 0 by omega)) ?_
            refine lv_topi (fun x_89 e_89 => ?_)
            have p_89 : x_89.toInt = ((dy - (fw (rowM Rw ca) (wyr (rowM Rw ca) dy))) / (rv (rowM Rw ca) 30)) := by rw [e_89]; exact t_div p_81 (congrArg Int32.toInt z_86) (by omega) (by omega)
            refine lv_iconst (v := 1) hx hb dX9_week_90 (by decide) ?_
            refine lv_iadd hx hb dX9_week_91 ?_
            refine lv_topi (fun x_91 e_91 => ?_)
            have p_91 : x_91.toInt = (((dy - (fw (rowM Rw ca) (wyr (rowM Rw ca) dy))) / (rv (rowM Rw ca) 30)) + 1) := by rw [e_91]; exact t_add p_89 (show (1 : Int32).toInt = 1 from rfl) (by omega) (by omega)
            exact q_cret (post := (fun z n1 σ1 => n1 = n ∧ ∃ I1 R1, σ1 = mS t b σ0 I1 R1 ∧ R1 = Rw ∧ kpI [0, 6, 7, 8] I I1 ∧ (I1 0).toInt = cd3 (0 ≤ ca ∧ ca < (I 5).toInt) ((-999999 ≤ dy ∧ dy ≤ 999999) ∧ 0 ≤ part ∧ part ≤ 1) (fst (rowM Rw ca) (-2000) ≤ dy ∧ dy < fst (rowM Rw ca) 2001) ∧ ((I1 0).toInt = 0 → z.toInt = (if part = 0 then wyr (rowM Rw ca) dy else (dy - fw (rowM Rw ca) (wyr (rowM Rw ca) dy)) / rv (rowM Rw ca) 30 + 1)))) X w dX9_week_92 (rfl) ⟨rfl, _, _, rfl, rfl, by exact ⟨kpI.up (J := [0,6,7,8]) kpI.rf (by decide), (by rw [cd3_0 k_5 ⟨k_18, k_27⟩ k_42]; rfl), fun _ => by rw [if_neg k_65]; exact p_91⟩⟩
          · skip
            have k_65 : part = 0 := (g_eq e_part (show (0 : Int32).toInt = 0 from rfl)).mp c_65
            refine lv_iload hx hb dX9_week_68 (lv_at hl 0 rfl) ?_
            refine lv_goto (tgt := 92) hx hb dX9_week_70 (by decide) ?_
            exact q_cret (post := (fun z n1 σ1 => n1 = n ∧ ∃ I1 R1, σ1 = mS t b σ0 I1 R1 ∧ R1 = Rw ∧ kpI [0, 6, 7, 8] I I1 ∧ (I1 0).toInt = cd3 (0 ≤ ca ∧ ca < (I 5).toInt) ((-999999 ≤ dy ∧ dy ≤ 999999) ∧ 0 ≤ part ∧ part ≤ 1) (fst (rowM Rw ca) (-2000) ≤ dy ∧ dy < fst (rowM Rw ca) 2001) ∧ ((I1 0).toInt = 0 → z.toInt = (if part = 0 then wyr (rowM Rw ca) dy else (dy - fw (rowM Rw ca) (wyr (rowM Rw ca) dy)) / rv (rowM Rw ca) 30 + 1)))) X w dX9_week_92 (rfl) ⟨rfl, _, _, rfl, rfl, by exact ⟨kpI.up (J := [0,6,7,8]) kpI.rf (by decide), (by rw [cd3_0 k_5 ⟨k_18, k_27⟩ k_42]; rfl), fun _ => by rw [if_pos k_65]; exact z_59⟩⟩
        · skip
          rw [z_39] at c_42
          have k_42 := bI_f.mp c_42
          refine lv_aload_n hx hb dX9_week_45 rfl (lv_at hl 0 rfl) ?_
          refine lv_iconst (v := 3) hx hb dX9_week_46 (by decide) ?_
          refine mm_cCI X w (c_X9_fails l D t b n σ0 I Rw 3 3 (show (3 : Int32).toInt = 3 from rfl)) v_X9_143 rfl rfl ⟨Nat.le_of_ble_eq_true rfl, Nat.le_of_ble_eq_true rfl⟩ rfl hl.1 (Nat.le_of_ble_eq_true rfl) dX9_week_47 ⟨Nat.zero_le _, Nat.zero_le _⟩ (fun r_47 I_47 H locs z_47 w => ?_)
          exact q_cret (post := (fun z n1 σ1 => n1 = n ∧ ∃ I1 R1, σ1 = mS t b σ0 I1 R1 ∧ R1 = Rw ∧ kpI [0, 6, 7, 8] I I1 ∧ (I1 0).toInt = cd3 (0 ≤ ca ∧ ca < (I 5).toInt) ((-999999 ≤ dy ∧ dy ≤ 999999) ∧ 0 ≤ part ∧ part ≤ 1) (fst (rowM Rw ca) (-2000) ≤ dy ∧ dy < fst (rowM Rw ca) 2001) ∧ ((I1 0).toInt = 0 → z.toInt = (if part = 0 then wyr (rowM Rw ca) dy else (dy - fw (rowM Rw ca) (wyr (rowM Rw ca) dy)) / rv (rowM Rw ca) 30 + 1)))) X w dX9_week_50 (rfl) ⟨rfl, _, _, rfl, rfl, by exact ⟨z_47.1.wk (by decide), z_47.2.1.trans (cd3_3 k_5 ⟨k_18, k_27⟩ k_42).symm, fun q => absurd (z_47.2.1.symm.trans q) (by decide)⟩⟩
      · skip
        rw [z_24] at c_27
        have k_27 := bI_f.mp c_27
        refine lv_aload_n hx hb dX9_week_30 rfl (lv_at hl 0 rfl) ?_
        refine lv_iconst (v := 2) hx hb dX9_week_31 (by decide) ?_
        refine mm_cCI X w (c_X9_fails l D t b n σ0 I Rw 2 2 (show (2 : Int32).toInt = 2 from rfl)) v_X9_143 rfl rfl ⟨Nat.le_of_ble_eq_true rfl, Nat.le_of_ble_eq_true rfl⟩ rfl hl.1 (Nat.le_of_ble_eq_true rfl) dX9_week_32 ⟨Nat.zero_le _, Nat.zero_le _⟩ (fun r_32 I_32 H locs z_32 w => ?_)
        exact q_cret (post := (fun z n1 σ1 => n1 = n ∧ ∃ I1 R1, σ1 = mS t b σ0 I1 R1 ∧ R1 = Rw ∧ kpI [0, 6, 7, 8] I I1 ∧ (I1 0).toInt = cd3 (0 ≤ ca ∧ ca < (I 5).toInt) ((-999999 ≤ dy ∧ dy ≤ 999999) ∧ 0 ≤ part ∧ part ≤ 1) (fst (rowM Rw ca) (-2000) ≤ dy ∧ dy < fst (rowM Rw ca) 2001) ∧ ((I1 0).toInt = 0 → z.toInt = (if part = 0 then wyr (rowM Rw ca) dy else (dy - fw (rowM Rw ca) (wyr (rowM Rw ca) dy)) / rv (rowM Rw ca) 30 + 1)))) X w dX9_week_35 (rfl) ⟨rfl, _, _, rfl, rfl, by exact ⟨z_32.1.wk (by decide), z_32.2.1.trans (cd3_2 k_5 (fun q => k_27 q.2)).symm, fun q => absurd (z_32.2.1.symm.trans q) (by decide)⟩⟩
  · skip
    rw [z_2] at c_5
    have k_5 := bI_f.mp c_5
    refine lv_aload_n hx hb dX9_week_8 rfl (lv_at hl 0 rfl) ?_
    refine lv_iconst (v := 1) hx hb dX9_week_9 (by decide) ?_
    refine mm_cCI X w (c_X9_fails l D t b n σ0 I Rw 1 1 (show (1 : Int32).toInt = 1 from rfl)) v_X9_143 rfl rfl ⟨Nat.le_of_ble_eq_true rfl, Nat.le_of_ble_eq_true rfl⟩ rfl hl.1 (Nat.le_of_ble_eq_true rfl) dX9_week_10 ⟨Nat.zero_le _, Nat.zero_le _⟩ (fun r_10 I_10 H locs z_10 w => ?_)
    exact q_cret (post := (fun z n1 σ1 => n1 = n ∧ ∃ I1 R1, σ1 = mS t b σ0 I1 R1 ∧ R1 = Rw ∧ kpI [0, 6, 7, 8] I I1 ∧ (I1 0).toInt = cd3 (0 ≤ ca ∧ ca < (I 5).toInt) ((-999999 ≤ dy ∧ dy ≤ 999999) ∧ 0 ≤ part ∧ part ≤ 1) (fst (rowM Rw ca) (-2000) ≤ dy ∧ dy < fst (rowM Rw ca) 2001) ∧ ((I1 0).toInt = 0 → z.toInt = (if part = 0 then wyr (rowM Rw ca) dy else (dy - fw (rowM Rw ca) (wyr (rowM Rw ca) dy)) / rv (rowM Rw ca) 30 + 1)))) X w dX9_week_13 (rfl) ⟨rfl, _, _, rfl, rfl, by exact ⟨z_10.1.wk (by decide), z_10.2.1.trans (cd3_1 k_5).symm, fun q => absurd (z_10.2.1.symm.trans q) (by decide)⟩⟩

set_option maxHeartbeats 4000000 in
set_option maxRecDepth 100000 in
theorem c_X9_firstDayOfWeek (l : Launch) (D : va_G) (t : Nat → ClassId) (b n : Nat) (σ0 : qM) (I : Nat → Int32) (Rw : Nat → Nat → Int32) (a_ca : Int32) (a_yr : Int32) (a_wk : Int32) (ca : Int) (yr : Int) (wk : Int) (e_ca : a_ca.toInt = ca) (e_yr : a_yr.toInt = yr) (e_wk : a_wk.toInt = wk) (h_1 : (I 5).toInt ≤ 6) (h_2 : ∀ c : Int, 0 ≤ c → c < (I 5).toInt → okRow (rowM Rw c)) (h_3 : ∀ c : Int, 0 ≤ c → c < (I 5).toInt → okF Rw c) : mC l yX9_firstDayOfWeek cX9_firstDayOfWeek 4 (some .int) 4 D t b n σ0 I Rw [.ref (b + 45), .int a_ca, .int a_yr, .int a_wk] (fun z I1 R1 => R1 = Rw ∧ kpI [0, 6, 7, 8] I I1 ∧ (I1 0).toInt = cd2 (0 ≤ ca ∧ ca < (I 5).toInt) ((-2000 ≤ yr ∧ yr ≤ 2000) ∧ 1 ≤ wk ∧ wk ≤ ((fw (rowM Rw ca) (yr + 1) - fw (rowM Rw ca) yr) / rv (rowM Rw ca) 30)) ∧ ((I1 0).toInt = 0 → z.toInt = fw (rowM Rw ca) yr + rv (rowM Rw ca) 30 * (wk - 1))) := by
  refine qC.of (by decide +kernel) (Nat.le_of_ble_eq_true rfl) (fun p e s m args below meth c X w ls hl => ?_)
  have hx := X.1
  have hb := X.2.1
  have hl : lv_has ls 4 [(0, .ref (b + 45)), (1, .int a_ca), (2, .int a_yr), (3, .int a_wk)] := hl
  refine lv_aload_n hx hb dX9_firstDayOfWeek_0 rfl (lv_at hl 0 rfl) ?_
  refine lv_iload_n hx hb dX9_firstDayOfWeek_1 rfl (lv_at hl 1 rfl) ?_
  refine q_cPV X w (c_X9_isCalendar l D t b n σ0 I Rw a_ca ca e_ca) v_X9_221 (k := 45) rfl rfl rfl ⟨Nat.le_of_ble_eq_true rfl, Nat.le_of_ble_eq_true rfl⟩ rfl hl.1 (Nat.le_of_ble_eq_true rfl) dX9_firstDayOfWeek_2 ⟨Nat.zero_le _, Nat.zero_le _⟩ (fun r_2 z_2 => ?_)
  refine lv_if_ne (tgt := 14) hx hb dX9_firstDayOfWeek_5 (by decide) (fun c_5 => ?_) (fun c_5 => ?_)
  · skip
    rw [z_2] at c_5
    have k_5 := bI_t.mp c_5
    have hq := h_2 ca k_5.1 k_5.2
    have hF := h_3 ca k_5.1 k_5.2
    refine lv_iload_n hx hb dX9_firstDayOfWeek_14 rfl (lv_at hl 2 rfl) ?_
    refine q_cPS X w (c_X9_isYear l a_yr yr e_yr D t b n (mS t b σ0 I Rw)) v_X9_110 rfl ⟨Nat.le_of_ble_eq_true rfl, Nat.le_of_ble_eq_true rfl⟩ rfl hl.1 (Nat.le_of_ble_eq_true rfl) dX9_firstDayOfWeek_15 ⟨Nat.zero_le _, Nat.zero_le _⟩ (fun r_15 z_15 => ?_)
    refine lv_if_eq (tgt := 35) hx hb dX9_firstDayOfWeek_18 (by decide) (fun c_18 => ?_) (fun c_18 => ?_)
    · skip
      rw [z_15] at c_18
      have k_18 := bI_f.mp c_18
      refine lv_aload_n hx hb dX9_firstDayOfWeek_35 rfl (lv_at hl 0 rfl) ?_
      refine lv_iconst (v := 2) hx hb dX9_firstDayOfWeek_36 (by decide) ?_
      refine mm_cCI X w (c_X9_fails l D t b n σ0 I Rw 2 2 (show (2 : Int32).toInt = 2 from rfl)) v_X9_143 rfl rfl ⟨Nat.le_of_ble_eq_true rfl, Nat.le_of_ble_eq_true rfl⟩ rfl hl.1 (Nat.le_of_ble_eq_true rfl) dX9_firstDayOfWeek_37 ⟨Nat.zero_le _, Nat.zero_le _⟩ (fun r_37 I_37 H locs z_37 w => ?_)
      exact q_cret (post := (fun z n1 σ1 => n1 = n ∧ ∃ I1 R1, σ1 = mS t b σ0 I1 R1 ∧ R1 = Rw ∧ kpI [0, 6, 7, 8] I I1 ∧ (I1 0).toInt = cd2 (0 ≤ ca ∧ ca < (I 5).toInt) ((-2000 ≤ yr ∧ yr ≤ 2000) ∧ 1 ≤ wk ∧ wk ≤ ((fw (rowM Rw ca) (yr + 1) - fw (rowM Rw ca) yr) / rv (rowM Rw ca) 30)) ∧ ((I1 0).toInt = 0 → z.toInt = fw (rowM Rw ca) yr + rv (rowM Rw ca) 30 * (wk - 1)))) X w dX9_firstDayOfWeek_40 (rfl) ⟨rfl, _, _, rfl, rfl, by exact ⟨z_37.1.wk (by decide), z_37.2.1.trans (cd2_2 k_5 (fun q => k_18 q.1)).symm, fun q => absurd (z_37.2.1.symm.trans q) (by decide)⟩⟩
    · skip
      rw [z_15] at c_18
      have k_18 := bI_t.mp c_18
      refine lv_iload_n hx hb dX9_firstDayOfWeek_21 rfl (lv_at hl 3 rfl) ?_
      refine lv_iconst (v := 1) hx hb dX9_firstDayOfWeek_22 (by decide) ?_
      refine lv_aload_n hx hb dX9_firstDayOfWeek_23 rfl (lv_at hl 0 rfl) ?_
      refine lv_iload_n hx hb dX9_firstDayOfWeek_24 rfl (lv_at hl 1 rfl) ?_
      refine lv_iload_n hx hb dX9_firstDayOfWeek_25 rfl (lv_at hl 2 rfl) ?_
      refine q_cPV X w (c_X9_weeksOf l D t b n σ0 I Rw a_ca a_yr ca yr e_ca e_yr (by first | assumption | omega) (by first | assumption | omega) (by first | assumption | omega) (by first | assumption | omega)) v_X9_256 (k := 45) rfl rfl rfl ⟨Nat.le_of_ble_eq_true rfl, Nat.le_of_ble_eq_true rfl⟩ rfl hl.1 (Nat.le_of_ble_eq_true rfl) dX9_firstDayOfWeek_26 ⟨Nat.zero_le _, Nat.zero_le _⟩ (fun r_26 z_26 => ?_)
      refine q_cPS X w (c_X9_isBetween l a_wk 1 r_26 wk 1 ((fw (rowM Rw ca) (yr + 1) - fw (rowM Rw ca) yr) / rv (rowM Rw ca) 30) e_wk (show (1 : Int32).toInt = 1 from rfl) z_26 D t b n (mS t b σ0 I Rw)) v_X9_70 rfl ⟨Nat.le_of_ble_eq_true rfl, Nat.le_of_ble_eq_true rfl⟩ rfl hl.1 (Nat.le_of_ble_eq_true rfl) dX9_firstDayOfWeek_29 ⟨Nat.zero_le _, Nat.zero_le _⟩ (fun r_29 z_29 => ?_)
      refine lv_if_ne (tgt := 41) hx hb dX9_firstDayOfWeek_32 (by decide) (fun c_32 => ?_) (fun c_32 => ?_)
      · skip
        rw [z_29] at c_32
        have k_32 := bI_t.mp c_32
        have hw := hq.wk
        have hb1 := fw_bd hq yr
        have hb2 := fw_bd hq (yr + 1)
        have hb3 := fst_bd hq (y := yr) (by omega) (by omega)
        have hb4 := hq.yl yr
        have hb5 := fst_succ (rowM Rw ca) yr
        have hdv := dvb (x := fw (rowM Rw ca) (yr + 1) - fw (rowM Rw ca) yr) (y := rv (rowM Rw ca) 30) (by omega) (by omega)
        have hmu := mlb (x := rv (rowM Rw ca) 30) (y := wk - 1) (by omega) (by omega)
        refine lv_aload_n hx hb dX9_firstDayOfWeek_41 rfl (lv_at hl 0 rfl) ?_
        refine lv_iconst (v := 0) hx hb dX9_firstDayOfWeek_42 (by decide) ?_
        refine mp_thrown (v := 0) X w dX9_firstDayOfWeek_43 (fun H locs w => ?_)
        refine lv_aload_n hx hb dX9_firstDayOfWeek_46 rfl (lv_at hl 0 rfl) ?_
        refine lv_iload_n hx hb dX9_firstDayOfWeek_47 rfl (lv_at hl 1 rfl) ?_
        refine lv_iload_n hx hb dX9_firstDayOfWeek_48 rfl (lv_at hl 2 rfl) ?_
        refine q_cPV X w (c_X9_firstWeek l D t b n σ0 (va_up I 0 0) Rw a_ca a_yr ca yr e_ca e_yr (by first | assumption | omega) (by first | assumption | omega) (by first | assumption | omega) (by first | assumption | omega)) v_X9_250 (k := 45) rfl rfl rfl ⟨Nat.le_of_ble_eq_true rfl, Nat.le_of_ble_eq_true rfl⟩ rfl hl.1 (Nat.le_of_ble_eq_true rfl) dX9_firstDayOfWeek_49 ⟨Nat.zero_le _, Nat.zero_le _⟩ (fun r_49 z_49 => ?_)
        refine lv_aload_n hx hb dX9_firstDayOfWeek_52 rfl (lv_at hl 0 rfl) ?_
        refine lv_iload_n hx hb dX9_firstDayOfWeek_53 rfl (lv_at hl 1 rfl) ?_
        refine lv_bipush (v := 30) hx hb dX9_firstDayOfWeek_54 (by decide) ?_
        refine q_cPV X w (c_X9_of l D t b n σ0 (va_up I 0 0) Rw a_ca 30 ca 30 e_ca (show (30 : Int32).toInt = 30 from rfl) (by first | assumption | omega) (by first | assumption | omega)) v_X9_80 (k := 45) rfl rfl rfl ⟨Nat.le_of_ble_eq_true rfl, Nat.le_of_ble_eq_true rfl⟩ rfl hl.1 (Nat.le_of_ble_eq_true rfl) dX9_firstDayOfWeek_56 ⟨Nat.zero_le _, Nat.zero_le _⟩ (fun r_56 z_56 => ?_)
        refine lv_iload_n hx hb dX9_firstDayOfWeek_59 rfl (lv_at hl 3 rfl) ?_
        refine lv_iconst (v := 1) hx hb dX9_firstDayOfWeek_60 (by decide) ?_
        refine lv_isub hx hb dX9_firstDayOfWeek_61 ?_
        refine lv_topi (fun x_61 e_61 => ?_)
        have p_61 : x_61.toInt = (wk - 1) := by rw [e_61]; exact t_sub e_wk (show (1 : Int32).toInt = 1 from rfl) (by omega) (by omega)
        refine lv_imul hx hb dX9_firstDayOfWeek_62 ?_
        refine lv_topi (fun x_62 e_62 => ?_)
        have p_62 : x_62.toInt = ((rv (rowM Rw ca) 30) * (wk - 1)) := by rw [e_62]; exact t_mul (congrArg Int32.toInt z_56) p_61 (by omega) (by omega)
        refine lv_iadd hx hb dX9_firstDayOfWeek_63 ?_
        refine lv_topi (fun x_63 e_63 => ?_)
        have p_63 : x_63.toInt = ((fw (rowM Rw ca) yr) + ((rv (rowM Rw ca) 30) * (wk - 1))) := by rw [e_63]; exact t_add z_49 p_62 (by omega) (by omega)
        exact q_cret (post := (fun z n1 σ1 => n1 = n ∧ ∃ I1 R1, σ1 = mS t b σ0 I1 R1 ∧ R1 = Rw ∧ kpI [0, 6, 7, 8] I I1 ∧ (I1 0).toInt = cd2 (0 ≤ ca ∧ ca < (I 5).toInt) ((-2000 ≤ yr ∧ yr ≤ 2000) ∧ 1 ≤ wk ∧ wk ≤ ((fw (rowM Rw ca) (yr + 1) - fw (rowM Rw ca) yr) / rv (rowM Rw ca) 30)) ∧ ((I1 0).toInt = 0 → z.toInt = fw (rowM Rw ca) yr + rv (rowM Rw ca) 30 * (wk - 1)))) X w dX9_firstDayOfWeek_64 (rfl) ⟨rfl, _, _, rfl, rfl, by exact ⟨kpI.up (J := [0,6,7,8]) kpI.rf (by decide), (by rw [cd2_0 k_5 ⟨k_18, k_32⟩]; rfl), fun _ => p_63⟩⟩
      · skip
        rw [z_29] at c_32
        have k_32 := bI_f.mp c_32
        refine lv_aload_n hx hb dX9_firstDayOfWeek_35 rfl (lv_at hl 0 rfl) ?_
        refine lv_iconst (v := 2) hx hb dX9_firstDayOfWeek_36 (by decide) ?_
        refine mm_cCI X w (c_X9_fails l D t b n σ0 I Rw 2 2 (show (2 : Int32).toInt = 2 from rfl)) v_X9_143 rfl rfl ⟨Nat.le_of_ble_eq_true rfl, Nat.le_of_ble_eq_true rfl⟩ rfl hl.1 (Nat.le_of_ble_eq_true rfl) dX9_firstDayOfWeek_37 ⟨Nat.zero_le _, Nat.zero_le _⟩ (fun r_37 I_37 H locs z_37 w => ?_)
        exact q_cret (post := (fun z n1 σ1 => n1 = n ∧ ∃ I1 R1, σ1 = mS t b σ0 I1 R1 ∧ R1 = Rw ∧ kpI [0, 6, 7, 8] I I1 ∧ (I1 0).toInt = cd2 (0 ≤ ca ∧ ca < (I 5).toInt) ((-2000 ≤ yr ∧ yr ≤ 2000) ∧ 1 ≤ wk ∧ wk ≤ ((fw (rowM Rw ca) (yr + 1) - fw (rowM Rw ca) yr) / rv (rowM Rw ca) 30)) ∧ ((I1 0).toInt = 0 → z.toInt = fw (rowM Rw ca) yr + rv (rowM Rw ca) 30 * (wk - 1)))) X w dX9_firstDayOfWeek_40 (rfl) ⟨rfl, _, _, rfl, rfl, by exact ⟨z_37.1.wk (by decide), z_37.2.1.trans (cd2_2 k_5 (fun q => k_32 q.2)).symm, fun q => absurd (z_37.2.1.symm.trans q) (by decide)⟩⟩
  · skip
    rw [z_2] at c_5
    have k_5 := bI_f.mp c_5
    refine lv_aload_n hx hb dX9_firstDayOfWeek_8 rfl (lv_at hl 0 rfl) ?_
    refine lv_iconst (v := 1) hx hb dX9_firstDayOfWeek_9 (by decide) ?_
    refine mm_cCI X w (c_X9_fails l D t b n σ0 I Rw 1 1 (show (1 : Int32).toInt = 1 from rfl)) v_X9_143 rfl rfl ⟨Nat.le_of_ble_eq_true rfl, Nat.le_of_ble_eq_true rfl⟩ rfl hl.1 (Nat.le_of_ble_eq_true rfl) dX9_firstDayOfWeek_10 ⟨Nat.zero_le _, Nat.zero_le _⟩ (fun r_10 I_10 H locs z_10 w => ?_)
    exact q_cret (post := (fun z n1 σ1 => n1 = n ∧ ∃ I1 R1, σ1 = mS t b σ0 I1 R1 ∧ R1 = Rw ∧ kpI [0, 6, 7, 8] I I1 ∧ (I1 0).toInt = cd2 (0 ≤ ca ∧ ca < (I 5).toInt) ((-2000 ≤ yr ∧ yr ≤ 2000) ∧ 1 ≤ wk ∧ wk ≤ ((fw (rowM Rw ca) (yr + 1) - fw (rowM Rw ca) yr) / rv (rowM Rw ca) 30)) ∧ ((I1 0).toInt = 0 → z.toInt = fw (rowM Rw ca) yr + rv (rowM Rw ca) 30 * (wk - 1)))) X w dX9_firstDayOfWeek_13 (rfl) ⟨rfl, _, _, rfl, rfl, by exact ⟨z_10.1.wk (by decide), z_10.2.1.trans (cd2_1 k_5).symm, fun q => absurd (z_10.2.1.symm.trans q) (by decide)⟩⟩

set_option maxHeartbeats 4000000 in
set_option maxRecDepth 100000 in
theorem c_X9_plus (l : Launch) (D : va_G) (t : Nat → ClassId) (b n : Nat) (σ0 : qM) (I : Nat → Int32) (Rw : Nat → Nat → Int32) (a_ca : Int32) (a_dy : Int32) (a_sh : Int32) (ca : Int) (dy : Int) (sh : Int) (e_ca : a_ca.toInt = ca) (e_dy : a_dy.toInt = dy) (e_sh : a_sh.toInt = sh) (h_1 : (I 5).toInt ≤ 6) (h_2 : ∀ c : Int, 0 ≤ c → c < (I 5).toInt → okRow (rowM Rw c)) (h_3 : ∀ c : Int, 0 ≤ c → c < (I 5).toInt → okF Rw c) : mC l yX9_plus cX9_plus 5 (some .int) 8 D t b n σ0 I Rw [.ref (b + 45), .int a_ca, .int a_dy, .int a_sh] (fun z I1 R1 => R1 = Rw ∧ kpI [0, 6, 7, 8] I I1 ∧ (I1 0).toInt = (if 0 < cd3 (0 ≤ ca ∧ ca < (I 5).toInt) ((-999999 ≤ dy ∧ dy ≤ 999999) ∧ -9999 ≤ sh ∧ sh ≤ 9999) (fst (rowM Rw ca) (-2000) ≤ dy ∧ dy < fst (rowM Rw ca) 2001) then cd3 (0 ≤ ca ∧ ca < (I 5).toInt) ((-999999 ≤ dy ∧ dy ≤ 999999) ∧ -9999 ≤ sh ∧ sh ≤ 9999) (fst (rowM Rw ca) (-2000) ≤ dy ∧ dy < fst (rowM Rw ca) 2001) else if mlat (rowM Rw ca) dy sh = -2147483647 then 3 else 0) ∧ ((I1 0).toInt = 0 → z.toInt = mlat (rowM Rw ca) dy sh)) := by
  refine qC.of (by decide +kernel) (Nat.le_of_ble_eq_true rfl) (fun p e s m args below meth c X w ls hl => ?_)
  have hx := X.1
  have hb := X.2.1
  have hl : lv_has ls 5 [(0, .ref (b + 45)), (1, .int a_ca), (2, .int a_dy), (3, .int a_sh)] := hl
  refine lv_aload_n hx hb dX9_plus_0 rfl (lv_at hl 0 rfl) ?_
  refine lv_iload_n hx hb dX9_plus_1 rfl (lv_at hl 1 rfl) ?_
  refine lv_iload_n hx hb dX9_plus_2 rfl (lv_at hl 2 rfl) ?_
  refine lv_iload_n hx hb dX9_plus_3 rfl (lv_at hl 3 rfl) ?_
  refine lv_sipush (v := 9999) hx hb dX9_plus_4 (by decide) ?_
  refine q_cPV X w (c_X9_notShift l D t b n σ0 I Rw a_ca a_dy a_sh 9999 ca dy sh 9999 e_ca e_dy e_sh (show (9999 : Int32).toInt = 9999 from rfl) (by first | assumption | omega) (by first | assumption | omega) (by first | assumption | omega) (by first | assumption | omega)) v_X9_263 (k := 45) rfl rfl rfl ⟨Nat.le_of_ble_eq_true rfl, Nat.le_of_ble_eq_true rfl⟩ rfl hl.1 (Nat.le_of_ble_eq_true rfl) dX9_plus_7 ⟨Nat.zero_le _, Nat.zero_le _⟩ (fun r_7 z_7 => ?_)
  refine lv_istore (lv' := [(4, .int r_7), (0, .ref (b + 45)), (1, .int a_ca), (2, .int a_dy), (3, .int a_sh)]) hx hb dX9_plus_10 hl (by decide) rfl (fun ls hl => ?_)
  refine lv_iload hx hb dX9_plus_12 (lv_at hl 0 rfl) ?_
  refine lv_if_le (tgt := 26) hx hb dX9_plus_14 (by decide) (fun c_14 => ?_) (fun c_14 => ?_)
  · skip
    have k_14 : (cd3 (0 ≤ ca ∧ ca < (I 5).toInt) ((-999999 ≤ dy ∧ dy ≤ 999999) ∧ -9999 ≤ sh ∧ sh ≤ 9999) (fst (rowM Rw ca) (-2000) ≤ dy ∧ dy < fst (rowM Rw ca) 2001)) ≤ 0 := (g_le z_7 (show (0 : Int32).toInt = 0 from rfl)).mp c_14
    have hC := cd3_ok (p := 0 ≤ ca ∧ ca < (I 5).toInt) (q := (-999999 ≤ dy ∧ dy ≤ 999999) ∧ -9999 ≤ sh ∧ sh ≤ 9999) (r := fst (rowM Rw ca) (-2000) ≤ dy ∧ dy < fst (rowM Rw ca) 2001) |>.mp (by omega)
    have hq := h_2 ca hC.1.1 hC.1.2
    have hF := h_3 ca hC.1.1 hC.1.2
    refine lv_aload_n hx hb dX9_plus_26 rfl (lv_at hl 1 rfl) ?_
    refine lv_aload_n hx hb dX9_plus_27 rfl (lv_at hl 1 rfl) ?_
    refine lv_iload_n hx hb dX9_plus_28 rfl (lv_at hl 2 rfl) ?_
    refine lv_iload_n hx hb dX9_plus_29 rfl (lv_at hl 3 rfl) ?_
    refine lv_iload_n hx hb dX9_plus_30 rfl (lv_at hl 4 rfl) ?_
    refine mm_cCI X w (c_X9_monthsLater l D t b n σ0 I Rw a_ca a_dy a_sh ca dy sh e_ca e_dy e_sh (by first | assumption | omega) (by first | assumption | omega) (by first | assumption | omega) (by first | assumption | omega) (by first | assumption | omega)) v_X9_266 rfl rfl ⟨Nat.le_of_ble_eq_true rfl, Nat.le_of_ble_eq_true rfl⟩ rfl hl.1 (Nat.le_of_ble_eq_true rfl) dX9_plus_31 ⟨Nat.zero_le _, Nat.zero_le _⟩ (fun r_31 I_31 H locs z_31 w => ?_)
    refine mm_cCI X w (c_X9_told l D t b n σ0 I_31 Rw r_31 (mlat (rowM Rw ca) dy sh) z_31.2.2.2.2) v_X9_269 rfl rfl ⟨Nat.le_of_ble_eq_true rfl, Nat.le_of_ble_eq_true rfl⟩ rfl hl.1 (Nat.le_of_ble_eq_true rfl) dX9_plus_34 ⟨Nat.zero_le _, Nat.zero_le _⟩ (fun r_34 I_34 H locs z_34 w => ?_)
    exact q_cret (post := (fun z n1 σ1 => n1 = n ∧ ∃ I1 R1, σ1 = mS t b σ0 I1 R1 ∧ R1 = Rw ∧ kpI [0, 6, 7, 8] I I1 ∧ (I1 0).toInt = (if 0 < cd3 (0 ≤ ca ∧ ca < (I 5).toInt) ((-999999 ≤ dy ∧ dy ≤ 999999) ∧ -9999 ≤ sh ∧ sh ≤ 9999) (fst (rowM Rw ca) (-2000) ≤ dy ∧ dy < fst (rowM Rw ca) 2001) then cd3 (0 ≤ ca ∧ ca < (I 5).toInt) ((-999999 ≤ dy ∧ dy ≤ 999999) ∧ -9999 ≤ sh ∧ sh ≤ 9999) (fst (rowM Rw ca) (-2000) ≤ dy ∧ dy < fst (rowM Rw ca) 2001) else if mlat (rowM Rw ca) dy sh = -2147483647 then 3 else 0) ∧ ((I1 0).toInt = 0 → z.toInt = mlat (rowM Rw ca) dy sh))) X w dX9_plus_37 (rfl) ⟨rfl, _, _, rfl, rfl, by exact ⟨z_31.1.tr z_34.1 (by decide) (by decide), z_34.2.1.trans (if_neg (Int.not_lt.mpr k_14)).symm, fun q => z_34.2.2 (fun e => by have e2 := z_34.2.1; rw [if_pos e] at e2; omega)⟩⟩
  · skip
    have k_14 : ¬ ((cd3 (0 ≤ ca ∧ ca < (I 5).toInt) ((-999999 ≤ dy ∧ dy ≤ 999999) ∧ -9999 ≤ sh ∧ sh ≤ 9999) (fst (rowM Rw ca) (-2000) ≤ dy ∧ dy < fst (rowM Rw ca) 2001)) ≤ 0) := fun h => c_14 ((g_le z_7 (show (0 : Int32).toInt = 0 from rfl)).mpr h)
    refine lv_aload_n hx hb dX9_plus_17 rfl (lv_at hl 1 rfl) ?_
    refine lv_iload hx hb dX9_plus_18 (lv_at hl 0 rfl) ?_
    refine mm_cCI X w (c_X9_fails l D t b n σ0 I Rw r_7 (cd3 (0 ≤ ca ∧ ca < (I 5).toInt) ((-999999 ≤ dy ∧ dy ≤ 999999) ∧ -9999 ≤ sh ∧ sh ≤ 9999) (fst (rowM Rw ca) (-2000) ≤ dy ∧ dy < fst (rowM Rw ca) 2001)) z_7) v_X9_143 rfl rfl ⟨Nat.le_of_ble_eq_true rfl, Nat.le_of_ble_eq_true rfl⟩ rfl hl.1 (Nat.le_of_ble_eq_true rfl) dX9_plus_20 ⟨Nat.zero_le _, Nat.zero_le _⟩ (fun r_20 I_20 H locs z_20 w => ?_)
    refine lv_goto (tgt := 37) hx hb dX9_plus_23 (by decide) ?_
    exact q_cret (post := (fun z n1 σ1 => n1 = n ∧ ∃ I1 R1, σ1 = mS t b σ0 I1 R1 ∧ R1 = Rw ∧ kpI [0, 6, 7, 8] I I1 ∧ (I1 0).toInt = (if 0 < cd3 (0 ≤ ca ∧ ca < (I 5).toInt) ((-999999 ≤ dy ∧ dy ≤ 999999) ∧ -9999 ≤ sh ∧ sh ≤ 9999) (fst (rowM Rw ca) (-2000) ≤ dy ∧ dy < fst (rowM Rw ca) 2001) then cd3 (0 ≤ ca ∧ ca < (I 5).toInt) ((-999999 ≤ dy ∧ dy ≤ 999999) ∧ -9999 ≤ sh ∧ sh ≤ 9999) (fst (rowM Rw ca) (-2000) ≤ dy ∧ dy < fst (rowM Rw ca) 2001) else if mlat (rowM Rw ca) dy sh = -2147483647 then 3 else 0) ∧ ((I1 0).toInt = 0 → z.toInt = mlat (rowM Rw ca) dy sh))) X w dX9_plus_37 (rfl) ⟨rfl, _, _, rfl, rfl, by exact ⟨z_20.1.wk (by decide), z_20.2.1.trans (if_pos (Int.not_le.mp k_14)).symm, fun q => absurd (z_20.2.1.symm.trans q) (by omega)⟩⟩

set_option maxHeartbeats 4000000 in
set_option maxRecDepth 100000 in
theorem c_X9_plusYears (l : Launch) (D : va_G) (t : Nat → ClassId) (b n : Nat) (σ0 : qM) (I : Nat → Int32) (Rw : Nat → Nat → Int32) (a_ca : Int32) (a_dy : Int32) (a_sh : Int32) (ca : Int) (dy : Int) (sh : Int) (e_ca : a_ca.toInt = ca) (e_dy : a_dy.toInt = dy) (e_sh : a_sh.toInt = sh) (h_1 : (I 5).toInt ≤ 6) (h_2 : ∀ c : Int, 0 ≤ c → c < (I 5).toInt → okRow (rowM Rw c)) (h_3 : ∀ c : Int, 0 ≤ c → c < (I 5).toInt → okF Rw c) : mC l yX9_plusYears cX9_plusYears 5 (some .int) 8 D t b n σ0 I Rw [.ref (b + 45), .int a_ca, .int a_dy, .int a_sh] (fun z I1 R1 => R1 = Rw ∧ kpI [0, 6, 7, 8] I I1 ∧ (I1 0).toInt = (if 0 < cd3 (0 ≤ ca ∧ ca < (I 5).toInt) ((-999999 ≤ dy ∧ dy ≤ 999999) ∧ -4000 ≤ sh ∧ sh ≤ 4000) (fst (rowM Rw ca) (-2000) ≤ dy ∧ dy < fst (rowM Rw ca) 2001) then cd3 (0 ≤ ca ∧ ca < (I 5).toInt) ((-999999 ≤ dy ∧ dy ≤ 999999) ∧ -4000 ≤ sh ∧ sh ≤ 4000) (fst (rowM Rw ca) (-2000) ≤ dy ∧ dy < fst (rowM Rw ca) 2001) else if ylat (rowM Rw ca) dy sh = -2147483647 then 3 else 0) ∧ ((I1 0).toInt = 0 → z.toInt = ylat (rowM Rw ca) dy sh)) := by
  refine qC.of (by decide +kernel) (Nat.le_of_ble_eq_true rfl) (fun p e s m args below meth c X w ls hl => ?_)
  have hx := X.1
  have hb := X.2.1
  have hl : lv_has ls 5 [(0, .ref (b + 45)), (1, .int a_ca), (2, .int a_dy), (3, .int a_sh)] := hl
  refine lv_aload_n hx hb dX9_plusYears_0 rfl (lv_at hl 0 rfl) ?_
  refine lv_iload_n hx hb dX9_plusYears_1 rfl (lv_at hl 1 rfl) ?_
  refine lv_iload_n hx hb dX9_plusYears_2 rfl (lv_at hl 2 rfl) ?_
  refine lv_iload_n hx hb dX9_plusYears_3 rfl (lv_at hl 3 rfl) ?_
  refine lv_sipush (v := 4000) hx hb dX9_plusYears_4 (by decide) ?_
  refine q_cPV X w (c_X9_notShift l D t b n σ0 I Rw a_ca a_dy a_sh 4000 ca dy sh 4000 e_ca e_dy e_sh (show (4000 : Int32).toInt = 4000 from rfl) (by first | assumption | omega) (by first | assumption | omega) (by first | assumption | omega) (by first | assumption | omega)) v_X9_263 (k := 45) rfl rfl rfl ⟨Nat.le_of_ble_eq_true rfl, Nat.le_of_ble_eq_true rfl⟩ rfl hl.1 (Nat.le_of_ble_eq_true rfl) dX9_plusYears_7 ⟨Nat.zero_le _, Nat.zero_le _⟩ (fun r_7 z_7 => ?_)
  refine lv_istore (lv' := [(4, .int r_7), (0, .ref (b + 45)), (1, .int a_ca), (2, .int a_dy), (3, .int a_sh)]) hx hb dX9_plusYears_10 hl (by decide) rfl (fun ls hl => ?_)
  refine lv_iload hx hb dX9_plusYears_12 (lv_at hl 0 rfl) ?_
  refine lv_if_le (tgt := 26) hx hb dX9_plusYears_14 (by decide) (fun c_14 => ?_) (fun c_14 => ?_)
  · skip
    have k_14 : (cd3 (0 ≤ ca ∧ ca < (I 5).toInt) ((-999999 ≤ dy ∧ dy ≤ 999999) ∧ -4000 ≤ sh ∧ sh ≤ 4000) (fst (rowM Rw ca) (-2000) ≤ dy ∧ dy < fst (rowM Rw ca) 2001)) ≤ 0 := (g_le z_7 (show (0 : Int32).toInt = 0 from rfl)).mp c_14
    have hC := cd3_ok (p := 0 ≤ ca ∧ ca < (I 5).toInt) (q := (-999999 ≤ dy ∧ dy ≤ 999999) ∧ -4000 ≤ sh ∧ sh ≤ 4000) (r := fst (rowM Rw ca) (-2000) ≤ dy ∧ dy < fst (rowM Rw ca) 2001) |>.mp (by omega)
    have hq := h_2 ca hC.1.1 hC.1.2
    have hF := h_3 ca hC.1.1 hC.1.2
    refine lv_aload_n hx hb dX9_plusYears_26 rfl (lv_at hl 1 rfl) ?_
    refine lv_aload_n hx hb dX9_plusYears_27 rfl (lv_at hl 1 rfl) ?_
    refine lv_iload_n hx hb dX9_plusYears_28 rfl (lv_at hl 2 rfl) ?_
    refine lv_iload_n hx hb dX9_plusYears_29 rfl (lv_at hl 3 rfl) ?_
    refine lv_iload_n hx hb dX9_plusYears_30 rfl (lv_at hl 4 rfl) ?_
    refine mm_cCI X w (c_X9_yearsLater l D t b n σ0 I Rw a_ca a_dy a_sh ca dy sh e_ca e_dy e_sh (by first | assumption | omega) (by first | assumption | omega) (by first | assumption | omega) (by first | assumption | omega) (by first | assumption | omega)) v_X9_272 rfl rfl ⟨Nat.le_of_ble_eq_true rfl, Nat.le_of_ble_eq_true rfl⟩ rfl hl.1 (Nat.le_of_ble_eq_true rfl) dX9_plusYears_31 ⟨Nat.zero_le _, Nat.zero_le _⟩ (fun r_31 I_31 H locs z_31 w => ?_)
    refine mm_cCI X w (c_X9_told l D t b n σ0 I_31 Rw r_31 (ylat (rowM Rw ca) dy sh) z_31.2.2.2.2) v_X9_269 rfl rfl ⟨Nat.le_of_ble_eq_true rfl, Nat.le_of_ble_eq_true rfl⟩ rfl hl.1 (Nat.le_of_ble_eq_true rfl) dX9_plusYears_34 ⟨Nat.zero_le _, Nat.zero_le _⟩ (fun r_34 I_34 H locs z_34 w => ?_)
    exact q_cret (post := (fun z n1 σ1 => n1 = n ∧ ∃ I1 R1, σ1 = mS t b σ0 I1 R1 ∧ R1 = Rw ∧ kpI [0, 6, 7, 8] I I1 ∧ (I1 0).toInt = (if 0 < cd3 (0 ≤ ca ∧ ca < (I 5).toInt) ((-999999 ≤ dy ∧ dy ≤ 999999) ∧ -4000 ≤ sh ∧ sh ≤ 4000) (fst (rowM Rw ca) (-2000) ≤ dy ∧ dy < fst (rowM Rw ca) 2001) then cd3 (0 ≤ ca ∧ ca < (I 5).toInt) ((-999999 ≤ dy ∧ dy ≤ 999999) ∧ -4000 ≤ sh ∧ sh ≤ 4000) (fst (rowM Rw ca) (-2000) ≤ dy ∧ dy < fst (rowM Rw ca) 2001) else if ylat (rowM Rw ca) dy sh = -2147483647 then 3 else 0) ∧ ((I1 0).toInt = 0 → z.toInt = ylat (rowM Rw ca) dy sh))) X w dX9_plusYears_37 (rfl) ⟨rfl, _, _, rfl, rfl, by exact ⟨z_31.1.tr z_34.1 (by decide) (by decide), z_34.2.1.trans (if_neg (Int.not_lt.mpr k_14)).symm, fun q => z_34.2.2 (fun e => by have e2 := z_34.2.1; rw [if_pos e] at e2; omega)⟩⟩
  · skip
    have k_14 : ¬ ((cd3 (0 ≤ ca ∧ ca < (I 5).toInt) ((-999999 ≤ dy ∧ dy ≤ 999999) ∧ -4000 ≤ sh ∧ sh ≤ 4000) (fst (rowM Rw ca) (-2000) ≤ dy ∧ dy < fst (rowM Rw ca) 2001)) ≤ 0) := fun h => c_14 ((g_le z_7 (show (0 : Int32).toInt = 0 from rfl)).mpr h)
    refine lv_aload_n hx hb dX9_plusYears_17 rfl (lv_at hl 1 rfl) ?_
    refine lv_iload hx hb dX9_plusYears_18 (lv_at hl 0 rfl) ?_
    refine mm_cCI X w (c_X9_fails l D t b n σ0 I Rw r_7 (cd3 (0 ≤ ca ∧ ca < (I 5).toInt) ((-999999 ≤ dy ∧ dy ≤ 999999) ∧ -4000 ≤ sh ∧ sh ≤ 4000) (fst (rowM Rw ca) (-2000) ≤ dy ∧ dy < fst (rowM Rw ca) 2001)) z_7) v_X9_143 rfl rfl ⟨Nat.le_of_ble_eq_true rfl, Nat.le_of_ble_eq_true rfl⟩ rfl hl.1 (Nat.le_of_ble_eq_true rfl) dX9_plusYears_20 ⟨Nat.zero_le _, Nat.zero_le _⟩ (fun r_20 I_20 H locs z_20 w => ?_)
    refine lv_goto (tgt := 37) hx hb dX9_plusYears_23 (by decide) ?_
    exact q_cret (post := (fun z n1 σ1 => n1 = n ∧ ∃ I1 R1, σ1 = mS t b σ0 I1 R1 ∧ R1 = Rw ∧ kpI [0, 6, 7, 8] I I1 ∧ (I1 0).toInt = (if 0 < cd3 (0 ≤ ca ∧ ca < (I 5).toInt) ((-999999 ≤ dy ∧ dy ≤ 999999) ∧ -4000 ≤ sh ∧ sh ≤ 4000) (fst (rowM Rw ca) (-2000) ≤ dy ∧ dy < fst (rowM Rw ca) 2001) then cd3 (0 ≤ ca ∧ ca < (I 5).toInt) ((-999999 ≤ dy ∧ dy ≤ 999999) ∧ -4000 ≤ sh ∧ sh ≤ 4000) (fst (rowM Rw ca) (-2000) ≤ dy ∧ dy < fst (rowM Rw ca) 2001) else if ylat (rowM Rw ca) dy sh = -2147483647 then 3 else 0) ∧ ((I1 0).toInt = 0 → z.toInt = ylat (rowM Rw ca) dy sh))) X w dX9_plusYears_37 (rfl) ⟨rfl, _, _, rfl, rfl, by exact ⟨z_20.1.wk (by decide), z_20.2.1.trans (if_pos (Int.not_le.mp k_14)).symm, fun q => absurd (z_20.2.1.symm.trans q) (by omega)⟩⟩
