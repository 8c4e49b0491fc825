set_option maxHeartbeats 4000000 in
set_option maxRecDepth 100000 in
theorem c_X9_months (l : Launch) (D : va_G) (t : Nat → ClassId) (b n : Nat) (σ0 : qM) (I : Nat → Int32) (Rw : Nat → Nat → Int32) (a_ca : Int32) (a_yr : Int32) (ca : Int) (yr : Int) (e_ca : a_ca.toInt = ca) (e_yr : a_yr.toInt = yr) (h_1 : (I 5).toInt ≤ 6) (h_2 : ∀ c : Int, 0 ≤ c → c < (I 5).toInt → okRow (rowM Rw c)) (h_3 : ∀ c : Int, 0 ≤ c → c < (I 5).toInt → okF Rw c) : mC l yX9_months cX9_months 3 (some .int) 4 D t b n σ0 I Rw [.ref (b + 45), .int a_ca, .int a_yr] (fun z I1 R1 => R1 = Rw ∧ kpI [0] I I1 ∧ (I1 0).toInt = cd2 (0 ≤ ca ∧ ca < (I 5).toInt) (-2000 ≤ yr ∧ yr ≤ 2000) ∧ ((I1 0).toInt = 0 → z.toInt = mcnt (rowM Rw ca) yr)) := by
  refine qC.of (by decide +kernel) (Nat.le_of_ble_eq_true rfl) (fun p e s m args below meth c X w ls hl => ?_)
  have hx := X.1
  have hb := X.2.1
  have hl : lv_has ls 3 [(0, .ref (b + 45)), (1, .int a_ca), (2, .int a_yr)] := hl
  refine lv_aload_n hx hb dX9_months_0 rfl (lv_at hl 0 rfl) ?_
  refine lv_aload_n hx hb dX9_months_1 rfl (lv_at hl 0 rfl) ?_
  refine lv_iload_n hx hb dX9_months_2 rfl (lv_at hl 1 rfl) ?_
  refine lv_iload_n hx hb dX9_months_3 rfl (lv_at hl 2 rfl) ?_
  refine q_cPV X w (c_X9_notYear l D t b n σ0 I Rw a_ca a_yr ca yr e_ca e_yr) v_X9_224 (k := 45) rfl rfl rfl ⟨Nat.le_of_ble_eq_true rfl, Nat.le_of_ble_eq_true rfl⟩ rfl hl.1 (Nat.le_of_ble_eq_true rfl) dX9_months_4 ⟨Nat.zero_le _, Nat.zero_le _⟩ (fun r_4 z_4 => ?_)
  refine mp_thrown (v := r_4) X w dX9_months_7 (fun H locs w => ?_)
  refine lv_aload_n hx hb dX9_months_10 rfl (lv_at hl 0 rfl) ?_
  refine mg_thrown X w dX9_months_11 ?_
  refine q_topE (y := r_4) rfl ?_
  refine lv_if_le (tgt := 21) hx hb dX9_months_14 (by decide) (fun c_14 => ?_) (fun c_14 => ?_)
  · skip
    have k_14 : (cd2 (0 ≤ ca ∧ ca < (I 5).toInt) (-2000 ≤ yr ∧ yr ≤ 2000)) ≤ 0 := (g_le z_4 (show (0 : Int32).toInt = 0 from rfl)).mp c_14
    have hC := cd2_ok (p := 0 ≤ ca ∧ ca < (I 5).toInt) (q := -2000 ≤ yr ∧ yr ≤ 2000) |>.mp (by omega)
    have hq := h_2 ca hC.1.1 hC.1.2
    have hF := h_3 ca hC.1.1 hC.1.2
    refine lv_aload_n hx hb dX9_months_21 rfl (lv_at hl 0 rfl) ?_
    refine lv_iload_n hx hb dX9_months_22 rfl (lv_at hl 1 rfl) ?_
    refine lv_iload_n hx hb dX9_months_23 rfl (lv_at hl 2 rfl) ?_
    refine q_cPV X w (c_X9_monthsOf l D t b n σ0 (va_up I 0 r_4) Rw a_ca a_yr ca yr e_ca e_yr (by first | assumption | omega) (by first | assumption | omega)) v_X9_114 (k := 45) rfl rfl rfl ⟨Nat.le_of_ble_eq_true rfl, Nat.le_of_ble_eq_true rfl⟩ rfl hl.1 (Nat.le_of_ble_eq_true rfl) dX9_months_24 ⟨Nat.zero_le _, Nat.zero_le _⟩ (fun r_24 z_24 => ?_)
    exact q_cret (post := (fun z n1 σ1 => n1 = n ∧ ∃ I1 R1, σ1 = mS t b σ0 I1 R1 ∧ R1 = Rw ∧ kpI [0] I I1 ∧ (I1 0).toInt = cd2 (0 ≤ ca ∧ ca < (I 5).toInt) (-2000 ≤ yr ∧ yr ≤ 2000) ∧ ((I1 0).toInt = 0 → z.toInt = mcnt (rowM Rw ca) yr))) X w dX9_months_27 (rfl) ⟨rfl, _, _, rfl, rfl, by exact ⟨kpI.up (J := [0]) kpI.rf (by decide), z_4, fun _ => z_24⟩⟩
  · skip
    have k_14 : ¬ ((cd2 (0 ≤ ca ∧ ca < (I 5).toInt) (-2000 ≤ yr ∧ yr ≤ 2000)) ≤ 0) := fun h => c_14 ((g_le z_4 (show (0 : Int32).toInt = 0 from rfl)).mpr h)
    refine lv_iconst (v := 0) hx hb dX9_months_17 (by decide) ?_
    refine lv_goto (tgt := 27) hx hb dX9_months_18 (by decide) ?_
    exact q_cret (post := (fun z n1 σ1 => n1 = n ∧ ∃ I1 R1, σ1 = mS t b σ0 I1 R1 ∧ R1 = Rw ∧ kpI [0] I I1 ∧ (I1 0).toInt = cd2 (0 ≤ ca ∧ ca < (I 5).toInt) (-2000 ≤ yr ∧ yr ≤ 2000) ∧ ((I1 0).toInt = 0 → z.toInt = mcnt (rowM Rw ca) yr))) X w dX9_months_27 (rfl) ⟨rfl, _, _, rfl, rfl, by exact ⟨kpI.up (J := [0]) kpI.rf (by decide), z_4, fun q => absurd (z_4.symm.trans q) (by omega)⟩⟩

set_option maxHeartbeats 4000000 in
set_option maxRecDepth 100000 in
theorem c_X9_yearLength (l : Launch) (D : va_G) (t : Nat → ClassId) (b n : Nat) (σ0 : qM) (I : Nat → Int32) (Rw : Nat → Nat → Int32) (a_ca : Int32) (a_yr : Int32) (ca : Int) (yr : Int) (e_ca : a_ca.toInt = ca) (e_yr : a_yr.toInt = yr) (h_1 : (I 5).toInt ≤ 6) (h_2 : ∀ c : Int, 0 ≤ c → c < (I 5).toInt → okRow (rowM Rw c)) (h_3 : ∀ c : Int, 0 ≤ c → c < (I 5).toInt → okF Rw c) : mC l yX9_yearLength cX9_yearLength 3 (some .int) 4 D t b n σ0 I Rw [.ref (b + 45), .int a_ca, .int a_yr] (fun z I1 R1 => R1 = Rw ∧ kpI [0] I I1 ∧ (I1 0).toInt = cd2 (0 ≤ ca ∧ ca < (I 5).toInt) (-2000 ≤ yr ∧ yr ≤ 2000) ∧ ((I1 0).toInt = 0 → z.toInt = ylen (rowM Rw ca) yr)) := by
  refine qC.of (by decide +kernel) (Nat.le_of_ble_eq_true rfl) (fun p e s m args below meth c X w ls hl => ?_)
  have hx := X.1
  have hb := X.2.1
  have hl : lv_has ls 3 [(0, .ref (b + 45)), (1, .int a_ca), (2, .int a_yr)] := hl
  refine lv_aload_n hx hb dX9_yearLength_0 rfl (lv_at hl 0 rfl) ?_
  refine lv_aload_n hx hb dX9_yearLength_1 rfl (lv_at hl 0 rfl) ?_
  refine lv_iload_n hx hb dX9_yearLength_2 rfl (lv_at hl 1 rfl) ?_
  refine lv_iload_n hx hb dX9_yearLength_3 rfl (lv_at hl 2 rfl) ?_
  refine q_cPV X w (c_X9_notYear l D t b n σ0 I Rw a_ca a_yr ca yr e_ca e_yr) v_X9_224 (k := 45) rfl rfl rfl ⟨Nat.le_of_ble_eq_true rfl, Nat.le_of_ble_eq_true rfl⟩ rfl hl.1 (Nat.le_of_ble_eq_true rfl) dX9_yearLength_4 ⟨Nat.zero_le _, Nat.zero_le _⟩ (fun r_4 z_4 => ?_)
  refine mp_thrown (v := r_4) X w dX9_yearLength_7 (fun H locs w => ?_)
  refine lv_aload_n hx hb dX9_yearLength_10 rfl (lv_at hl 0 rfl) ?_
  refine mg_thrown X w dX9_yearLength_11 ?_
  refine q_topE (y := r_4) rfl ?_
  refine lv_if_le (tgt := 21) hx hb dX9_yearLength_14 (by decide) (fun c_14 => ?_) (fun c_14 => ?_)
  · skip
    have k_14 : (cd2 (0 ≤ ca ∧ ca < (I 5).toInt) (-2000 ≤ yr ∧ yr ≤ 2000)) ≤ 0 := (g_le z_4 (show (0 : Int32).toInt = 0 from rfl)).mp c_14
    have hC := cd2_ok (p := 0 ≤ ca ∧ ca < (I 5).toInt) (q := -2000 ≤ yr ∧ yr ≤ 2000) |>.mp (by omega)
    have hq := h_2 ca hC.1.1 hC.1.2
    have hF := h_3 ca hC.1.1 hC.1.2
    refine lv_aload_n hx hb dX9_yearLength_21 rfl (lv_at hl 0 rfl) ?_
    refine lv_iload_n hx hb dX9_yearLength_22 rfl (lv_at hl 1 rfl) ?_
    refine lv_iload_n hx hb dX9_yearLength_23 rfl (lv_at hl 2 rfl) ?_
    refine q_cPV X w (c_X9_lengthOf l D t b n σ0 (va_up I 0 r_4) Rw a_ca a_yr ca yr e_ca e_yr (by first | assumption | omega) (by first | assumption | omega)) v_X9_92 (k := 45) rfl rfl rfl ⟨Nat.le_of_ble_eq_true rfl, Nat.le_of_ble_eq_true rfl⟩ rfl hl.1 (Nat.le_of_ble_eq_true rfl) dX9_yearLength_24 ⟨Nat.zero_le _, Nat.zero_le _⟩ (fun r_24 z_24 => ?_)
    exact q_cret (post := (fun z n1 σ1 => n1 = n ∧ ∃ I1 R1, σ1 = mS t b σ0 I1 R1 ∧ R1 = Rw ∧ kpI [0] I I1 ∧ (I1 0).toInt = cd2 (0 ≤ ca ∧ ca < (I 5).toInt) (-2000 ≤ yr ∧ yr ≤ 2000) ∧ ((I1 0).toInt = 0 → z.toInt = ylen (rowM Rw ca) yr))) X w dX9_yearLength_27 (rfl) ⟨rfl, _, _, rfl, rfl, by exact ⟨kpI.up (J := [0]) kpI.rf (by decide), z_4, fun _ => z_24⟩⟩
  · skip
    have k_14 : ¬ ((cd2 (0 ≤ ca ∧ ca < (I 5).toInt) (-2000 ≤ yr ∧ yr ≤ 2000)) ≤ 0) := fun h => c_14 ((g_le z_4 (show (0 : Int32).toInt = 0 from rfl)).mpr h)
    refine lv_iconst (v := 0) hx hb dX9_yearLength_17 (by decide) ?_
    refine lv_goto (tgt := 27) hx hb dX9_yearLength_18 (by decide) ?_
    exact q_cret (post := (fun z n1 σ1 => n1 = n ∧ ∃ I1 R1, σ1 = mS t b σ0 I1 R1 ∧ R1 = Rw ∧ kpI [0] I I1 ∧ (I1 0).toInt = cd2 (0 ≤ ca ∧ ca < (I 5).toInt) (-2000 ≤ yr ∧ yr ≤ 2000) ∧ ((I1 0).toInt = 0 → z.toInt = ylen (rowM Rw ca) yr))) X w dX9_yearLength_27 (rfl) ⟨rfl, _, _, rfl, rfl, by exact ⟨kpI.up (J := [0]) kpI.rf (by decide), z_4, fun q => absurd (z_4.symm.trans q) (by omega)⟩⟩

set_option maxHeartbeats 4000000 in
set_option maxRecDepth 100000 in
theorem c_X9_firstDay (l : Launch) (D : va_G) (t : Nat → ClassId) (b n : Nat) (σ0 : qM) (I : Nat → Int32) (Rw : Nat → Nat → Int32) (a_ca : Int32) (a_yr : Int32) (ca : Int) (yr : Int) (e_ca : a_ca.toInt = ca) (e_yr : a_yr.toInt = yr) (h_1 : (I 5).toInt ≤ 6) (h_2 : ∀ c : Int, 0 ≤ c → c < (I 5).toInt → okRow (rowM Rw c)) (h_3 : ∀ c : Int, 0 ≤ c → c < (I 5).toInt → okF Rw c) : mC l yX9_firstDay cX9_firstDay 3 (some .int) 4 D t b n σ0 I Rw [.ref (b + 45), .int a_ca, .int a_yr] (fun z I1 R1 => R1 = Rw ∧ kpI [0] I I1 ∧ (I1 0).toInt = cd2 (0 ≤ ca ∧ ca < (I 5).toInt) (-2000 ≤ yr ∧ yr ≤ 2000) ∧ ((I1 0).toInt = 0 → z.toInt = fst (rowM Rw ca) yr)) := by
  refine qC.of (by decide +kernel) (Nat.le_of_ble_eq_true rfl) (fun p e s m args below meth c X w ls hl => ?_)
  have hx := X.1
  have hb := X.2.1
  have hl : lv_has ls 3 [(0, .ref (b + 45)), (1, .int a_ca), (2, .int a_yr)] := hl
  refine lv_aload_n hx hb dX9_firstDay_0 rfl (lv_at hl 0 rfl) ?_
  refine lv_aload_n hx hb dX9_firstDay_1 rfl (lv_at hl 0 rfl) ?_
  refine lv_iload_n hx hb dX9_firstDay_2 rfl (lv_at hl 1 rfl) ?_
  refine lv_iload_n hx hb dX9_firstDay_3 rfl (lv_at hl 2 rfl) ?_
  refine q_cPV X w (c_X9_notYear l D t b n σ0 I Rw a_ca a_yr ca yr e_ca e_yr) v_X9_224 (k := 45) rfl rfl rfl ⟨Nat.le_of_ble_eq_true rfl, Nat.le_of_ble_eq_true rfl⟩ rfl hl.1 (Nat.le_of_ble_eq_true rfl) dX9_firstDay_4 ⟨Nat.zero_le _, Nat.zero_le _⟩ (fun r_4 z_4 => ?_)
  refine mp_thrown (v := r_4) X w dX9_firstDay_7 (fun H locs w => ?_)
  refine lv_aload_n hx hb dX9_firstDay_10 rfl (lv_at hl 0 rfl) ?_
  refine mg_thrown X w dX9_firstDay_11 ?_
  refine q_topE (y := r_4) rfl ?_
  refine lv_if_le (tgt := 21) hx hb dX9_firstDay_14 (by decide) (fun c_14 => ?_) (fun c_14 => ?_)
  · skip
    have k_14 : (cd2 (0 ≤ ca ∧ ca < (I 5).toInt) (-2000 ≤ yr ∧ yr ≤ 2000)) ≤ 0 := (g_le z_4 (show (0 : Int32).toInt = 0 from rfl)).mp c_14
    have hC := cd2_ok (p := 0 ≤ ca ∧ ca < (I 5).toInt) (q := -2000 ≤ yr ∧ yr ≤ 2000) |>.mp (by omega)
    have hq := h_2 ca hC.1.1 hC.1.2
    have hF := h_3 ca hC.1.1 hC.1.2
    refine lv_aload_n hx hb dX9_firstDay_21 rfl (lv_at hl 0 rfl) ?_
    refine lv_iload_n hx hb dX9_firstDay_22 rfl (lv_at hl 1 rfl) ?_
    refine lv_iload_n hx hb dX9_firstDay_23 rfl (lv_at hl 2 rfl) ?_
    refine q_cPV X w (c_X9_first l D t b n σ0 (va_up I 0 r_4) Rw a_ca a_yr ca yr e_ca e_yr (by first | assumption | omega) (by first | assumption | omega) (by first | assumption | omega)) v_X9_101 (k := 45) rfl rfl rfl ⟨Nat.le_of_ble_eq_true rfl, Nat.le_of_ble_eq_true rfl⟩ rfl hl.1 (Nat.le_of_ble_eq_true rfl) dX9_firstDay_24 ⟨Nat.zero_le _, Nat.zero_le _⟩ (fun r_24 z_24 => ?_)
    exact q_cret (post := (fun z n1 σ1 => n1 = n ∧ ∃ I1 R1, σ1 = mS t b σ0 I1 R1 ∧ R1 = Rw ∧ kpI [0] I I1 ∧ (I1 0).toInt = cd2 (0 ≤ ca ∧ ca < (I 5).toInt) (-2000 ≤ yr ∧ yr ≤ 2000) ∧ ((I1 0).toInt = 0 → z.toInt = fst (rowM Rw ca) yr))) X w dX9_firstDay_27 (rfl) ⟨rfl, _, _, rfl, rfl, by exact ⟨kpI.up (J := [0]) kpI.rf (by decide), z_4, fun _ => z_24⟩⟩
  · skip
    have k_14 : ¬ ((cd2 (0 ≤ ca ∧ ca < (I 5).toInt) (-2000 ≤ yr ∧ yr ≤ 2000)) ≤ 0) := fun h => c_14 ((g_le z_4 (show (0 : Int32).toInt = 0 from rfl)).mpr h)
    refine lv_iconst (v := 0) hx hb dX9_firstDay_17 (by decide) ?_
    refine lv_goto (tgt := 27) hx hb dX9_firstDay_18 (by decide) ?_
    exact q_cret (post := (fun z n1 σ1 => n1 = n ∧ ∃ I1 R1, σ1 = mS t b σ0 I1 R1 ∧ R1 = Rw ∧ kpI [0] I I1 ∧ (I1 0).toInt = cd2 (0 ≤ ca ∧ ca < (I 5).toInt) (-2000 ≤ yr ∧ yr ≤ 2000) ∧ ((I1 0).toInt = 0 → z.toInt = fst (rowM Rw ca) yr))) X w dX9_firstDay_27 (rfl) ⟨rfl, _, _, rfl, rfl, by exact ⟨kpI.up (J := [0]) kpI.rf (by decide), z_4, fun q => absurd (z_4.symm.trans q) (by omega)⟩⟩

set_option maxHeartbeats 4000000 in
set_option maxRecDepth 100000 in
theorem c_X9_weeks (l : Launch) (D : va_G) (t : Nat → ClassId) (b n : Nat) (σ0 : qM) (I : Nat → Int32) (Rw : Nat → Nat → Int32) (a_ca : Int32) (a_yr : Int32) (ca : Int) (yr : Int) (e_ca : a_ca.toInt = ca) (e_yr : a_yr.toInt = yr) (h_1 : (I 5).toInt ≤ 6) (h_2 : ∀ c : Int, 0 ≤ c → c < (I 5).toInt → okRow (rowM Rw c)) (h_3 : ∀ c : Int, 0 ≤ c → c < (I 5).toInt → okF Rw c) : mC l yX9_weeks cX9_weeks 3 (some .int) 4 D t b n σ0 I Rw [.ref (b + 45), .int a_ca, .int a_yr] (fun z I1 R1 => R1 = Rw ∧ kpI [0] I I1 ∧ (I1 0).toInt = cd2 (0 ≤ ca ∧ ca < (I 5).toInt) (-2000 ≤ yr ∧ yr ≤ 2000) ∧ ((I1 0).toInt = 0 → z.toInt = (fw (rowM Rw ca) (yr + 1) - fw (rowM Rw ca) yr) / rv (rowM Rw ca) 30)) := by
  refine qC.of (by decide +kernel) (Nat.le_of_ble_eq_true rfl) (fun p e s m args below meth c X w ls hl => ?_)
  have hx := X.1
  have hb := X.2.1
  have hl : lv_has ls 3 [(0, .ref (b + 45)), (1, .int a_ca), (2, .int a_yr)] := hl
  refine lv_aload_n hx hb dX9_weeks_0 rfl (lv_at hl 0 rfl) ?_
  refine lv_aload_n hx hb dX9_weeks_1 rfl (lv_at hl 0 rfl) ?_
  refine lv_iload_n hx hb dX9_weeks_2 rfl (lv_at hl 1 rfl) ?_
  refine lv_iload_n hx hb dX9_weeks_3 rfl (lv_at hl 2 rfl) ?_
  refine q_cPV X w (c_X9_notYear l D t b n σ0 I Rw a_ca a_yr ca yr e_ca e_yr) v_X9_224 (k := 45) rfl rfl rfl ⟨Nat.le_of_ble_eq_true rfl, Nat.le_of_ble_eq_true rfl⟩ rfl hl.1 (Nat.le_of_ble_eq_true rfl) dX9_weeks_4 ⟨Nat.zero_le _, Nat.zero_le _⟩ (fun r_4 z_4 => ?_)
  refine mp_thrown (v := r_4) X w dX9_weeks_7 (fun H locs w => ?_)
  refine lv_aload_n hx hb dX9_weeks_10 rfl (lv_at hl 0 rfl) ?_
  refine mg_thrown X w dX9_weeks_11 ?_
  refine q_topE (y := r_4) rfl ?_
  refine lv_if_le (tgt := 21) hx hb dX9_weeks_14 (by decide) (fun c_14 => ?_) (fun c_14 => ?_)
  · skip
    have k_14 : (cd2 (0 ≤ ca ∧ ca < (I 5).toInt) (-2000 ≤ yr ∧ yr ≤ 2000)) ≤ 0 := (g_le z_4 (show (0 : Int32).toInt = 0 from rfl)).mp c_14
    have hC := cd2_ok (p := 0 ≤ ca ∧ ca < (I 5).toInt) (q := -2000 ≤ yr ∧ yr ≤ 2000) |>.mp (by omega)
    have hq := h_2 ca hC.1.1 hC.1.2
    have hF := h_3 ca hC.1.1 hC.1.2
    refine lv_aload_n hx hb dX9_weeks_21 rfl (lv_at hl 0 rfl) ?_
    refine lv_iload_n hx hb dX9_weeks_22 rfl (lv_at hl 1 rfl) ?_
    refine lv_iload_n hx hb dX9_weeks_23 rfl (lv_at hl 2 rfl) ?_
    refine q_cPV X w (c_X9_weeksOf l D t b n σ0 (va_up I 0 r_4) Rw a_ca a_yr ca yr e_ca e_yr (by first | assumption | omega) (by first | assumption | omega) (by first | assumption | omega) (by first | assumption | omega)) v_X9_256 (k := 45) rfl rfl rfl ⟨Nat.le_of_ble_eq_true rfl, Nat.le_of_ble_eq_true rfl⟩ rfl hl.1 (Nat.le_of_ble_eq_true rfl) dX9_weeks_24 ⟨Nat.zero_le _, Nat.zero_le _⟩ (fun r_24 z_24 => ?_)
    exact q_cret (post := (fun z n1 σ1 => n1 = n ∧ ∃ I1 R1, σ1 = mS t b σ0 I1 R1 ∧ R1 = Rw ∧ kpI [0] I I1 ∧ (I1 0).toInt = cd2 (0 ≤ ca ∧ ca < (I 5).toInt) (-2000 ≤ yr ∧ yr ≤ 2000) ∧ ((I1 0).toInt = 0 → z.toInt = (fw (rowM Rw ca) (yr + 1) - fw (rowM Rw ca) yr) / rv (rowM Rw ca) 30))) X w dX9_weeks_27 (rfl) ⟨rfl, _, _, rfl, rfl, by exact ⟨kpI.up (J := [0]) kpI.rf (by decide), z_4, fun _ => z_24⟩⟩
  · skip
    have k_14 : ¬ ((cd2 (0 ≤ ca ∧ ca < (I 5).toInt) (-2000 ≤ yr ∧ yr ≤ 2000)) ≤ 0) := fun h => c_14 ((g_le z_4 (show (0 : Int32).toInt = 0 from rfl)).mpr h)
    refine lv_iconst (v := 0) hx hb dX9_weeks_17 (by decide) ?_
    refine lv_goto (tgt := 27) hx hb dX9_weeks_18 (by decide) ?_
    exact q_cret (post := (fun z n1 σ1 => n1 = n ∧ ∃ I1 R1, σ1 = mS t b σ0 I1 R1 ∧ R1 = Rw ∧ kpI [0] I I1 ∧ (I1 0).toInt = cd2 (0 ≤ ca ∧ ca < (I 5).toInt) (-2000 ≤ yr ∧ yr ≤ 2000) ∧ ((I1 0).toInt = 0 → z.toInt = (fw (rowM Rw ca) (yr + 1) - fw (rowM Rw ca) yr) / rv (rowM Rw ca) 30))) X w dX9_weeks_27 (rfl) ⟨rfl, _, _, rfl, rfl, by exact ⟨kpI.up (J := [0]) kpI.rf (by decide), z_4, fun q => absurd (z_4.symm.trans q) (by omega)⟩⟩

set_option maxHeartbeats 4000000 in
set_option maxRecDepth 100000 in
theorem c_X9_monthLength (l : Launch) (D : va_G) (t : Nat → ClassId) (b n : Nat) (σ0 : qM) (I : Nat → Int32) (Rw : Nat → Nat → Int32) (a_ca : Int32) (a_yr : Int32) (a_mo : Int32) (ca : Int) (yr : Int) (mo : Int) (e_ca : a_ca.toInt = ca) (e_yr : a_yr.toInt = yr) (e_mo : a_mo.toInt = mo) (h_1 : (I 5).toInt ≤ 6) (h_2 : ∀ c : Int, 0 ≤ c → c < (I 5).toInt → okRow (rowM Rw c)) (h_3 : ∀ c : Int, 0 ≤ c → c < (I 5).toInt → okF Rw c) : mC l yX9_monthLength cX9_monthLength 4 (some .int) 6 D t b n σ0 I Rw [.ref (b + 45), .int a_ca, .int a_yr, .int a_mo] (fun z I1 R1 => R1 = Rw ∧ kpI [0] I I1 ∧ (I1 0).toInt = cd2 (0 ≤ ca ∧ ca < (I 5).toInt) ((-2000 ≤ yr ∧ yr ≤ 2000) ∧ 1 ≤ mo ∧ mo ≤ mcnt (rowM Rw ca) yr) ∧ ((I1 0).toInt = 0 → z.toInt = mlen (rowM Rw ca) yr mo)) := by
  refine qC.of (by decide +kernel) (Nat.le_of_ble_eq_true rfl) (fun p e s m args below meth c X w ls hl => ?_)
  have hx := X.1
  have hb := X.2.1
  have hl : lv_has ls 4 [(0, .ref (b + 45)), (1, .int a_ca), (2, .int a_yr), (3, .int a_mo)] := hl
  refine lv_aload_n hx hb dX9_monthLength_0 rfl (lv_at hl 0 rfl) ?_
  refine lv_aload_n hx hb dX9_monthLength_1 rfl (lv_at hl 0 rfl) ?_
  refine lv_iload_n hx hb dX9_monthLength_2 rfl (lv_at hl 1 rfl) ?_
  refine lv_iload_n hx hb dX9_monthLength_3 rfl (lv_at hl 2 rfl) ?_
  refine lv_iload_n hx hb dX9_monthLength_4 rfl (lv_at hl 3 rfl) ?_
  refine q_cPV X w (c_X9_notMonth l D t b n σ0 I Rw a_ca a_yr a_mo ca yr mo e_ca e_yr e_mo (by first | assumption | omega) (by first | assumption | omega)) v_X9_227 (k := 45) rfl rfl rfl ⟨Nat.le_of_ble_eq_true rfl, Nat.le_of_ble_eq_true rfl⟩ rfl hl.1 (Nat.le_of_ble_eq_true rfl) dX9_monthLength_5 ⟨Nat.zero_le _, Nat.zero_le _⟩ (fun r_5 z_5 => ?_)
  refine mp_thrown (v := r_5) X w dX9_monthLength_8 (fun H locs w => ?_)
  refine lv_aload_n hx hb dX9_monthLength_11 rfl (lv_at hl 0 rfl) ?_
  refine mg_thrown X w dX9_monthLength_12 ?_
  refine q_topE (y := r_5) rfl ?_
  refine lv_if_le (tgt := 22) hx hb dX9_monthLength_15 (by decide) (fun c_15 => ?_) (fun c_15 => ?_)
  · skip
    have k_15 : (cd2 (0 ≤ ca ∧ ca < (I 5).toInt) ((-2000 ≤ yr ∧ yr ≤ 2000) ∧ 1 ≤ mo ∧ mo ≤ mcnt (rowM Rw ca) yr)) ≤ 0 := (g_le z_5 (show (0 : Int32).toInt = 0 from rfl)).mp c_15
    have hC := cd2_ok (p := 0 ≤ ca ∧ ca < (I 5).toInt) (q := (-2000 ≤ yr ∧ yr ≤ 2000) ∧ 1 ≤ mo ∧ mo ≤ mcnt (rowM Rw ca) yr) |>.mp (by omega)
    have hq := h_2 ca hC.1.1 hC.1.2
    have hF := h_3 ca hC.1.1 hC.1.2
    refine lv_aload_n hx hb dX9_monthLength_22 rfl (lv_at hl 0 rfl) ?_
    refine lv_iload_n hx hb dX9_monthLength_23 rfl (lv_at hl 1 rfl) ?_
    refine lv_iload_n hx hb dX9_monthLength_24 rfl (lv_at hl 2 rfl) ?_
    refine lv_iload_n hx hb dX9_monthLength_25 rfl (lv_at hl 3 rfl) ?_
    refine q_cPV X w (c_X9_lengthOfMonth l D t b n σ0 (va_up I 0 r_5) Rw a_ca a_yr a_mo ca yr mo e_ca e_yr e_mo (by first | assumption | omega) (by first | assumption | omega) (by first | assumption | omega)) v_X9_120 (k := 45) rfl rfl rfl ⟨Nat.le_of_ble_eq_true rfl, Nat.le_of_ble_eq_true rfl⟩ rfl hl.1 (Nat.le_of_ble_eq_true rfl) dX9_monthLength_26 ⟨Nat.zero_le _, Nat.zero_le _⟩ (fun r_26 z_26 => ?_)
    exact q_cret (post := (fun z n1 σ1 => n1 = n ∧ ∃ I1 R1, σ1 = mS t b σ0 I1 R1 ∧ R1 = Rw ∧ kpI [0] I I1 ∧ (I1 0).toInt = cd2 (0 ≤ ca ∧ ca < (I 5).toInt) ((-2000 ≤ yr ∧ yr ≤ 2000) ∧ 1 ≤ mo ∧ mo ≤ mcnt (rowM Rw ca) yr) ∧ ((I1 0).toInt = 0 → z.toInt = mlen (rowM Rw ca) yr mo))) X w dX9_monthLength_29 (rfl) ⟨rfl, _, _, rfl, rfl, by exact ⟨kpI.up (J := [0]) kpI.rf (by decide), z_5, fun _ => z_26⟩⟩
  · skip
    have k_15 : ¬ ((cd2 (0 ≤ ca ∧ ca < (I 5).toInt) ((-2000 ≤ yr ∧ yr ≤ 2000) ∧ 1 ≤ mo ∧ mo ≤ mcnt (rowM Rw ca) yr)) ≤ 0) := fun h => c_15 ((g_le z_5 (show (0 : Int32).toInt = 0 from rfl)).mpr h)
    refine lv_iconst (v := 0) hx hb dX9_monthLength_18 (by decide) ?_
    refine lv_goto (tgt := 29) hx hb dX9_monthLength_19 (by decide) ?_
    exact q_cret (post := (fun z n1 σ1 => n1 = n ∧ ∃ I1 R1, σ1 = mS t b σ0 I1 R1 ∧ R1 = Rw ∧ kpI [0] I I1 ∧ (I1 0).toInt = cd2 (0 ≤ ca ∧ ca < (I 5).toInt) ((-2000 ≤ yr ∧ yr ≤ 2000) ∧ 1 ≤ mo ∧ mo ≤ mcnt (rowM Rw ca) yr) ∧ ((I1 0).toInt = 0 → z.toInt = mlen (rowM Rw ca) yr mo))) X w dX9_monthLength_29 (rfl) ⟨rfl, _, _, rfl, rfl, by exact ⟨kpI.up (J := [0]) kpI.rf (by decide), z_5, fun q => absurd (z_5.symm.trans q) (by omega)⟩⟩

set_option maxHeartbeats 4000000 in
set_option maxRecDepth 100000 in
theorem c_X9_isLeapYear (l : Launch) (D : va_G) (t : Nat → ClassId) (b n : Nat) (σ0 : qM) (I : Nat → Int32) (Rw : Nat → Nat → Int32) (a_ca : Int32) (a_yr : Int32) (ca : Int) (yr : Int) (e_ca : a_ca.toInt = ca) (e_yr : a_yr.toInt = yr) (h_1 : (I 5).toInt ≤ 6) (h_2 : ∀ c : Int, 0 ≤ c → c < (I 5).toInt → okRow (rowM Rw c)) (h_3 : ∀ c : Int, 0 ≤ c → c < (I 5).toInt → okF Rw c) : mC l yX9_isLeapYear cX9_isLeapYear 3 (some .boolean) 4 D t b n σ0 I Rw [.ref (b + 45), .int a_ca, .int a_yr] (fun z I1 R1 => R1 = Rw ∧ kpI [0] I I1 ∧ (I1 0).toInt = cd2 (0 ≤ ca ∧ ca < (I 5).toInt) (-2000 ≤ yr ∧ yr ≤ 2000) ∧ ((I1 0).toInt = 0 → z = bI (decide (leap (rowM Rw ca) yr = true)))) := by
  refine qC.of (by decide +kernel) (Nat.le_of_ble_eq_true rfl) (fun p e s m args below meth c X w ls hl => ?_)
  have hx := X.1
  have hb := X.2.1
  have hl : lv_has ls 3 [(0, .ref (b + 45)), (1, .int a_ca), (2, .int a_yr)] := hl
  refine lv_aload_n hx hb dX9_isLeapYear_0 rfl (lv_at hl 0 rfl) ?_
  refine lv_aload_n hx hb dX9_isLeapYear_1 rfl (lv_at hl 0 rfl) ?_
  refine lv_iload_n hx hb dX9_isLeapYear_2 rfl (lv_at hl 1 rfl) ?_
  refine lv_iload_n hx hb dX9_isLeapYear_3 rfl (lv_at hl 2 rfl) ?_
  refine q_cPV X w (c_X9_notYear l D t b n σ0 I Rw a_ca a_yr ca yr e_ca e_yr) v_X9_224 (k := 45) rfl rfl rfl ⟨Nat.le_of_ble_eq_true rfl, Nat.le_of_ble_eq_true rfl⟩ rfl hl.1 (Nat.le_of_ble_eq_true rfl) dX9_isLeapYear_4 ⟨Nat.zero_le _, Nat.zero_le _⟩ (fun r_4 z_4 => ?_)
  refine mp_thrown (v := r_4) X w dX9_isLeapYear_7 (fun H locs w => ?_)
  refine lv_aload_n hx hb dX9_isLeapYear_10 rfl (lv_at hl 0 rfl) ?_
  refine mg_thrown X w dX9_isLeapYear_11 ?_
  refine q_topE (y := r_4) rfl ?_
  refine lv_if_ne (tgt := 30) hx hb dX9_isLeapYear_14 (by decide) (fun c_14 => ?_) (fun c_14 => ?_)
  · skip
    have k_14 : ¬ ((cd2 (0 ≤ ca ∧ ca < (I 5).toInt) (-2000 ≤ yr ∧ yr ≤ 2000)) = 0) := fun h => c_14 ((g_eq z_4 (show (0 : Int32).toInt = 0 from rfl)).mpr h)
    refine lv_iconst (v := 0) hx hb dX9_isLeapYear_30 (by decide) ?_
    exact q_cret (post := (fun z n1 σ1 => n1 = n ∧ ∃ I1 R1, σ1 = mS t b σ0 I1 R1 ∧ R1 = Rw ∧ kpI [0] I I1 ∧ (I1 0).toInt = cd2 (0 ≤ ca ∧ ca < (I 5).toInt) (-2000 ≤ yr ∧ yr ≤ 2000) ∧ ((I1 0).toInt = 0 → z = bI (decide (leap (rowM Rw ca) yr = true))))) X w dX9_isLeapYear_31 (rfl) ⟨rfl, _, _, rfl, rfl, by exact ⟨kpI.up (J := [0]) kpI.rf (by decide), z_4, fun q => absurd (z_4.symm.trans q) (by omega)⟩⟩
  · skip
    have k_14 : (cd2 (0 ≤ ca ∧ ca < (I 5).toInt) (-2000 ≤ yr ∧ yr ≤ 2000)) = 0 := (g_eq z_4 (show (0 : Int32).toInt = 0 from rfl)).mp c_14
    have hC := cd2_ok (p := 0 ≤ ca ∧ ca < (I 5).toInt) (q := -2000 ≤ yr ∧ yr ≤ 2000) |>.mp (by omega)
    have hq := h_2 ca hC.1.1 hC.1.2
    have hF := h_3 ca hC.1.1 hC.1.2
    refine lv_aload_n hx hb dX9_isLeapYear_17 rfl (lv_at hl 0 rfl) ?_
    refine lv_iload_n hx hb dX9_isLeapYear_18 rfl (lv_at hl 1 rfl) ?_
    refine lv_iload_n hx hb dX9_isLeapYear_19 rfl (lv_at hl 2 rfl) ?_
    refine q_cPV X w (c_X9_isLeap l D t b n σ0 (va_up I 0 r_4) Rw a_ca a_yr ca yr e_ca e_yr (by first | assumption | omega) (by first | assumption | omega)) v_X9_88 (k := 45) rfl rfl rfl ⟨Nat.le_of_ble_eq_true rfl, Nat.le_of_ble_eq_true rfl⟩ rfl hl.1 (Nat.le_of_ble_eq_true rfl) dX9_isLeapYear_20 ⟨Nat.zero_le _, Nat.zero_le _⟩ (fun r_20 z_20 => ?_)
    refine lv_if_eq (tgt := 30) hx hb dX9_isLeapYear_23 (by decide) (fun c_23 => ?_) (fun c_23 => ?_)
    · skip
      rw [z_20] at c_23
      have k_23 := bI_f.mp c_23
      refine lv_iconst (v := 0) hx hb dX9_isLeapYear_30 (by decide) ?_
      exact q_cret (post := (fun z n1 σ1 => n1 = n ∧ ∃ I1 R1, σ1 = mS t b σ0 I1 R1 ∧ R1 = Rw ∧ kpI [0] I I1 ∧ (I1 0).toInt = cd2 (0 ≤ ca ∧ ca < (I 5).toInt) (-2000 ≤ yr ∧ yr ≤ 2000) ∧ ((I1 0).toInt = 0 → z = bI (decide (leap (rowM Rw ca) yr = true))))) X w dX9_isLeapYear_31 (rfl) ⟨rfl, _, _, rfl, rfl, by exact ⟨kpI.up (J := [0]) kpI.rf (by decide), z_4, fun _ => bI_0 (k_23)⟩⟩
    · skip
      rw [z_20] at c_23
      have k_23 := bI_t.mp c_23
      refine lv_iconst (v := 1) hx hb dX9_isLeapYear_26 (by decide) ?_
      refine lv_goto (tgt := 31) hx hb dX9_isLeapYear_27 (by decide) ?_
      exact q_cret (post := (fun z n1 σ1 => n1 = n ∧ ∃ I1 R1, σ1 = mS t b σ0 I1 R1 ∧ R1 = Rw ∧ kpI [0] I I1 ∧ (I1 0).toInt = cd2 (0 ≤ ca ∧ ca < (I 5).toInt) (-2000 ≤ yr ∧ yr ≤ 2000) ∧ ((I1 0).toInt = 0 → z = bI (decide (leap (rowM Rw ca) yr = true))))) X w dX9_isLeapYear_31 (rfl) ⟨rfl, _, _, rfl, rfl, by exact ⟨kpI.up (J := [0]) kpI.rf (by decide), z_4, fun _ => bI_1 (k_23)⟩⟩

set_option maxHeartbeats 4000000 in
set_option maxRecDepth 100000 in
theorem c_X9_isIntercalary (l : Launch) (D : va_G) (t : Nat → ClassId) (b n : Nat) (σ0 : qM) (I : Nat → Int32) (Rw : Nat → Nat → Int32) (a_ca : Int32) (a_yr : Int32) (a_mo : Int32) (ca : Int) (yr : Int) (mo : Int) (e_ca : a_ca.toInt = ca) (e_yr : a_yr.toInt = yr) (e_mo : a_mo.toInt = mo) (h_1 : (I 5).toInt ≤ 6) (h_2 : ∀ c : Int, 0 ≤ c → c < (I 5).toInt → okRow (rowM Rw c)) (h_3 : ∀ c : Int, 0 ≤ c → c < (I 5).toInt → okF Rw c) : mC l yX9_isIntercalary cX9_isIntercalary 4 (some .boolean) 6 D t b n σ0 I Rw [.ref (b + 45), .int a_ca, .int a_yr, .int a_mo] (fun z I1 R1 => R1 = Rw ∧ kpI [0] I I1 ∧ (I1 0).toInt = cd2 (0 ≤ ca ∧ ca < (I 5).toInt) ((-2000 ≤ yr ∧ yr ≤ 2000) ∧ 1 ≤ mo ∧ mo ≤ mcnt (rowM Rw ca) yr) ∧ ((I1 0).toInt = 0 → z = bI (decide ((rv (rowM Rw ca) 16 = 2 ∧ leap (rowM Rw ca) yr = true) ∧ mo = rv (rowM Rw ca) 17 + 1)))) := by
  refine qC.of (by decide +kernel) (Nat.le_of_ble_eq_true rfl) (fun p e s m args below meth c X w ls hl => ?_)
  have hx := X.1
  have hb := X.2.1
  have hl : lv_has ls 4 [(0, .ref (b + 45)), (1, .int a_ca), (2, .int a_yr), (3, .int a_mo)] := hl
  refine lv_aload_n hx hb dX9_isIntercalary_0 rfl (lv_at hl 0 rfl) ?_
  refine lv_aload_n hx hb dX9_isIntercalary_1 rfl (lv_at hl 0 rfl) ?_
  refine lv_iload_n hx hb dX9_isIntercalary_2 rfl (lv_at hl 1 rfl) ?_
  refine lv_iload_n hx hb dX9_isIntercalary_3 rfl (lv_at hl 2 rfl) ?_
  refine lv_iload_n hx hb dX9_isIntercalary_4 rfl (lv_at hl 3 rfl) ?_
  refine q_cPV X w (c_X9_notMonth l D t b n σ0 I Rw a_ca a_yr a_mo ca yr mo e_ca e_yr e_mo (by first | assumption | omega) (by first | assumption | omega)) v_X9_227 (k := 45) rfl rfl rfl ⟨Nat.le_of_ble_eq_true rfl, Nat.le_of_ble_eq_true rfl⟩ rfl hl.1 (Nat.le_of_ble_eq_true rfl) dX9_isIntercalary_5 ⟨Nat.zero_le _, Nat.zero_le _⟩ (fun r_5 z_5 => ?_)
  refine mp_thrown (v := r_5) X w dX9_isIntercalary_8 (fun H locs w => ?_)
  refine lv_aload_n hx hb dX9_isIntercalary_11 rfl (lv_at hl 0 rfl) ?_
  refine mg_thrown X w dX9_isIntercalary_12 ?_
  refine q_topE (y := r_5) rfl ?_
  refine lv_if_ne (tgt := 32) hx hb dX9_isIntercalary_15 (by decide) (fun c_15 => ?_) (fun c_15 => ?_)
  · skip
    have k_15 : ¬ ((cd2 (0 ≤ ca ∧ ca < (I 5).toInt) ((-2000 ≤ yr ∧ yr ≤ 2000) ∧ 1 ≤ mo ∧ mo ≤ mcnt (rowM Rw ca) yr)) = 0) := fun h => c_15 ((g_eq z_5 (show (0 : Int32).toInt = 0 from rfl)).mpr h)
    refine lv_iconst (v := 0) hx hb dX9_isIntercalary_32 (by decide) ?_
    exact q_cret (post := (fun z n1 σ1 => n1 = n ∧ ∃ I1 R1, σ1 = mS t b σ0 I1 R1 ∧ R1 = Rw ∧ kpI [0] I I1 ∧ (I1 0).toInt = cd2 (0 ≤ ca ∧ ca < (I 5).toInt) ((-2000 ≤ yr ∧ yr ≤ 2000) ∧ 1 ≤ mo ∧ mo ≤ mcnt (rowM Rw ca) yr) ∧ ((I1 0).toInt = 0 → z = bI (decide ((rv (rowM Rw ca) 16 = 2 ∧ leap (rowM Rw ca) yr = true) ∧ mo = rv (rowM Rw ca) 17 + 1))))) X w dX9_isIntercalary_33 (rfl) ⟨rfl, _, _, rfl, rfl, by exact ⟨kpI.up (J := [0]) kpI.rf (by decide), z_5, fun q => absurd (z_5.symm.trans q) (by omega)⟩⟩
  · skip
    have k_15 : (cd2 (0 ≤ ca ∧ ca < (I 5).toInt) ((-2000 ≤ yr ∧ yr ≤ 2000) ∧ 1 ≤ mo ∧ mo ≤ mcnt (rowM Rw ca) yr)) = 0 := (g_eq z_5 (show (0 : Int32).toInt = 0 from rfl)).mp c_15
    have hC := cd2_ok (p := 0 ≤ ca ∧ ca < (I 5).toInt) (q := (-2000 ≤ yr ∧ yr ≤ 2000) ∧ 1 ≤ mo ∧ mo ≤ mcnt (rowM Rw ca) yr) |>.mp (by omega)
    have hq := h_2 ca hC.1.1 hC.1.2
    have hF := h_3 ca hC.1.1 hC.1.2
    refine lv_aload_n hx hb dX9_isIntercalary_18 rfl (lv_at hl 0 rfl) ?_
    refine lv_iload_n hx hb dX9_isIntercalary_19 rfl (lv_at hl 1 rfl) ?_
    refine lv_iload_n hx hb dX9_isIntercalary_20 rfl (lv_at hl 2 rfl) ?_
    refine lv_iload_n hx hb dX9_isIntercalary_21 rfl (lv_at hl 3 rfl) ?_
    refine q_cPV X w (c_X9_isMore l D t b n σ0 (va_up I 0 r_5) Rw a_ca a_yr a_mo ca yr mo e_ca e_yr e_mo (by first | assumption | omega) (by first | assumption | omega)) v_X9_107 (k := 45) rfl rfl rfl ⟨Nat.le_of_ble_eq_true rfl, Nat.le_of_ble_eq_true rfl⟩ rfl hl.1 (Nat.le_of_ble_eq_true rfl) dX9_isIntercalary_22 ⟨Nat.zero_le _, Nat.zero_le _⟩ (fun r_22 z_22 => ?_)
    refine lv_if_eq (tgt := 32) hx hb dX9_isIntercalary_25 (by decide) (fun c_25 => ?_) (fun c_25 => ?_)
    · skip
      rw [z_22] at c_25
      have k_25 := bI_f.mp c_25
      refine lv_iconst (v := 0) hx hb dX9_isIntercalary_32 (by decide) ?_
      exact q_cret (post := (fun z n1 σ1 => n1 = n ∧ ∃ I1 R1, σ1 = mS t b σ0 I1 R1 ∧ R1 = Rw ∧ kpI [0] I I1 ∧ (I1 0).toInt = cd2 (0 ≤ ca ∧ ca < (I 5).toInt) ((-2000 ≤ yr ∧ yr ≤ 2000) ∧ 1 ≤ mo ∧ mo ≤ mcnt (rowM Rw ca) yr) ∧ ((I1 0).toInt = 0 → z = bI (decide ((rv (rowM Rw ca) 16 = 2 ∧ leap (rowM Rw ca) yr = true) ∧ mo = rv (rowM Rw ca) 17 + 1))))) X w dX9_isIntercalary_33 (rfl) ⟨rfl, _, _, rfl, rfl, by exact ⟨kpI.up (J := [0]) kpI.rf (by decide), z_5, fun _ => bI_0 (k_25)⟩⟩
    · skip
      rw [z_22] at c_25
      have k_25 := bI_t.mp c_25
      refine lv_iconst (v := 1) hx hb dX9_isIntercalary_28 (by decide) ?_
      refine lv_goto (tgt := 33) hx hb dX9_isIntercalary_29 (by decide) ?_
      exact q_cret (post := (fun z n1 σ1 => n1 = n ∧ ∃ I1 R1, σ1 = mS t b σ0 I1 R1 ∧ R1 = Rw ∧ kpI [0] I I1 ∧ (I1 0).toInt = cd2 (0 ≤ ca ∧ ca < (I 5).toInt) ((-2000 ≤ yr ∧ yr ≤ 2000) ∧ 1 ≤ mo ∧ mo ≤ mcnt (rowM Rw ca) yr) ∧ ((I1 0).toInt = 0 → z = bI (decide ((rv (rowM Rw ca) 16 = 2 ∧ leap (rowM Rw ca) yr = true) ∧ mo = rv (rowM Rw ca) 17 + 1))))) X w dX9_isIntercalary_33 (rfl) ⟨rfl, _, _, rfl, rfl, by exact ⟨kpI.up (J := [0]) kpI.rf (by decide), z_5, fun _ => bI_1 (k_25)⟩⟩

set_option maxHeartbeats 4000000 in
set_option maxRecDepth 100000 in
theorem c_X9_faultPosition (l : Launch) (D : va_G) (t : Nat → ClassId) (b n : Nat) (σ0 : qM) (I : Nat → Int32) (Rw : Nat → Nat → Int32) : mC l yX9_faultPosition cX9_faultPosition 1 (some .int) 0 D t b n σ0 I Rw [.ref (b + 45)] (fun z I1 R1 => R1 = Rw ∧ kpI [0] I I1 ∧ (I1 0).toInt = 0 ∧ z = I 12) := by
  refine qC.of (by decide +kernel) (Nat.le_of_ble_eq_true rfl) (fun p e s m args below meth c X w ls hl => ?_)
  have hx := X.1
  have hb := X.2.1
  have hl : lv_has ls 1 [(0, .ref (b + 45))] := hl
  refine lv_aload_n hx hb dX9_faultPosition_0 rfl (lv_at hl 0 rfl) ?_
  refine lv_iconst (v := 0) hx hb dX9_faultPosition_1 (by decide) ?_
  refine mp_thrown (v := 0) X w dX9_faultPosition_2 (fun H locs w => ?_)
  refine lv_aload_n hx hb dX9_faultPosition_5 rfl (lv_at hl 0 rfl) ?_
  refine mg_faultAt X w dX9_faultPosition_6 ?_
  exact q_cret (post := (fun z n1 σ1 => n1 = n ∧ ∃ I1 R1, σ1 = mS t b σ0 I1 R1 ∧ R1 = Rw ∧ kpI [0] I I1 ∧ (I1 0).toInt = 0 ∧ z = I 12)) X w dX9_faultPosition_9 (rfl) ⟨rfl, _, _, rfl, rfl, by exact ⟨kpI.up (J := [0]) kpI.rf (by decide), rfl, rfl⟩⟩

set_option maxHeartbeats 4000000 in
set_option maxRecDepth 100000 in
theorem c_X9_calendarCount (l : Launch) (D : va_G) (t : Nat → ClassId) (b n : Nat) (σ0 : qM) (I : Nat → Int32) (Rw : Nat → Nat → Int32) : mC l yX9_calendarCount cX9_calendarCount 1 (some .int) 0 D t b n σ0 I Rw [.ref (b + 45)] (fun z I1 R1 => R1 = Rw ∧ kpI [0] I I1 ∧ (I1 0).toInt = 0 ∧ z = I 5) := by
  refine qC.of (by decide +kernel) (Nat.le_of_ble_eq_true rfl) (fun p e s m args below meth c X w ls hl => ?_)
  have hx := X.1
  have hb := X.2.1
  have hl : lv_has ls 1 [(0, .ref (b + 45))] := hl
  refine lv_aload_n hx hb dX9_calendarCount_0 rfl (lv_at hl 0 rfl) ?_
  refine lv_iconst (v := 0) hx hb dX9_calendarCount_1 (by decide) ?_
  refine mp_thrown (v := 0) X w dX9_calendarCount_2 (fun H locs w => ?_)
  refine lv_aload_n hx hb dX9_calendarCount_5 rfl (lv_at hl 0 rfl) ?_
  refine mg_calendars X w dX9_calendarCount_6 ?_
  exact q_cret (post := (fun z n1 σ1 => n1 = n ∧ ∃ I1 R1, σ1 = mS t b σ0 I1 R1 ∧ R1 = Rw ∧ kpI [0] I I1 ∧ (I1 0).toInt = 0 ∧ z = I 5)) X w dX9_calendarCount_9 (rfl) ⟨rfl, _, _, rfl, rfl, by exact ⟨kpI.up (J := [0]) kpI.rf (by decide), rfl, rfl⟩⟩

set_option maxHeartbeats 4000000 in
set_option maxRecDepth 100000 in
theorem c_X9_feastCount (l : Launch) (D : va_G) (t : Nat → ClassId) (b n : Nat) (σ0 : qM) (I : Nat → Int32) (Rw : Nat → Nat → Int32) : mC l yX9_feastCount cX9_feastCount 1 (some .int) 0 D t b n σ0 I Rw [.ref (b + 45)] (fun z I1 R1 => R1 = Rw ∧ kpI [0] I I1 ∧ (I1 0).toInt = 0 ∧ z = I 19) := by
  refine qC.of (by decide +kernel) (Nat.le_of_ble_eq_true rfl) (fun p e s m args below meth c X w ls hl => ?_)
  have hx := X.1
  have hb := X.2.1
  have hl : lv_has ls 1 [(0, .ref (b + 45))] := hl
  refine lv_aload_n hx hb dX9_feastCount_0 rfl (lv_at hl 0 rfl) ?_
  refine lv_iconst (v := 0) hx hb dX9_feastCount_1 (by decide) ?_
  refine mp_thrown (v := 0) X w dX9_feastCount_2 (fun H locs w => ?_)
  refine lv_aload_n hx hb dX9_feastCount_5 rfl (lv_at hl 0 rfl) ?_
  refine mg_feasts X w dX9_feastCount_6 ?_
  exact q_cret (post := (fun z n1 σ1 => n1 = n ∧ ∃ I1 R1, σ1 = mS t b σ0 I1 R1 ∧ R1 = Rw ∧ kpI [0] I I1 ∧ (I1 0).toInt = 0 ∧ z = I 19)) X w dX9_feastCount_9 (rfl) ⟨rfl, _, _, rfl, rfl, by exact ⟨kpI.up (J := [0]) kpI.rf (by decide), rfl, rfl⟩⟩
