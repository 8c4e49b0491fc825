/-- the codes of the classes that the class throws -/
def xE (E : String) : Int := if E = "java/lang/IndexOutOfBoundsException" then 1 else if E = "java/lang/IllegalArgumentException" then 2 else if E = NS then 3 else 4
theorem xE_io : xE "java/lang/IndexOutOfBoundsException" = 1 := by decide +kernel
theorem xE_ia : xE "java/lang/IllegalArgumentException" = 2 := by decide +kernel
theorem xE_ns : xE NS = 3 := by decide +kernel
theorem xE_is : xE "java/lang/IllegalStateException" = 4 := by decide +kernel

set_option maxHeartbeats 2000000 in
set_option maxRecDepth 100000 in
theorem c_X8_isLeapYear (l : Launch) (D : va_G) (t : Nat → ClassId) (b n : Nat) (σ0 : qM) (A : Nat → Int32) (B : Nat → Nat → Int32) (P : Nat → Nat → Option Nat) (hl0 : l.stackTraces = false) (rw_ : Int → Row) (fe : Int → Int → Int32) (hQ : stQ t b σ0 A P 0 rw_ fe) (a_ca : Int32) (ca : Int) (e_ca : a_ca.toInt = ca) (a_yr : Int32) (yr : Int) (e_yr : a_yr.toInt = yr) : xC l yX8_isLeapYear cX8_isLeapYear 4 (some .boolean) 7 2 12 D t b n (cS t b σ0 A B P) [.ref (b + 0), .int a_ca, .int a_yr] (fun z n1 σ1 => n1 = n ∧ σ1 = cS t b σ0 A B P ∧ cd2 (0 ≤ ca ∧ ca < (A 20).toInt) (-2000 ≤ yr ∧ yr ≤ 2000) = 0 ∧ z = bI (decide (leap (rw_ ca) yr = true))) (fun E n1 σ1 => σ1 = cS t b σ0 A B P ∧ xE E = cd2 (0 ≤ ca ∧ ca < (A 20).toInt) (-2000 ≤ yr ∧ yr ≤ 2000)) := by
  refine xC.of (by decide +kernel) (Nat.le_of_ble_eq_true rfl) (fun p e s m args below meth c X hE hno w ls hl => ?_)
  have hx := X.1
  have hb := X.2.1
  have hl : lv_has ls 4 [(0, .ref (b + 0)), (1, .int a_ca), (2, .int a_yr)] := hl
  have hnn := hQ.1
  refine lv_aload_n hx hb dX8_isLeapYear_0 rfl (lv_at hl 0 rfl) ?_
  refine lv_iload_n hx hb dX8_isLeapYear_1 rfl (lv_at hl 1 rfl) ?_
  refine x_cAV X hE hno w (c_X8_existing l D t b n σ0 A B P hl0 hQ.ok a_ca ca e_ca) v_X8_149 (k := 0) rfl rfl rfl ⟨Nat.le_of_ble_eq_true rfl, Nat.le_of_ble_eq_true rfl⟩ rfl hl.1 (Nat.le_of_ble_eq_true rfl) dX8_isLeapYear_2 ⟨Nat.le_of_ble_eq_true rfl, Nat.le_of_ble_eq_true rfl⟩ ⟨Nat.le_of_ble_eq_true rfl, Nat.le_of_ble_eq_true rfl⟩ (fun E n1 σ1 hz => ⟨hz.2.1, by rw [hz.1]; exact xE_io.trans (cd2_1 hz.2.2).symm⟩) (fun o_2 n_2 σ_2 H locs z_2 w => ?_)
  obtain ⟨en_2, es_2, eo_2, hin_2⟩ := z_2
  rw [en_2, es_2] at w
  obtain ⟨q_2, L_2, C_2, K_2, fl_2, fc_2, eq_2, hbc_2, hcp_2⟩ := hQ.2.1 ca hin_2.1 hin_2.2
  have hcp_2 := hcp_2.cS (A := A) (B := B) (P := P) hbc_2
  have eo_2 : o_2 = some q_2 := eo_2.trans eq_2
  subst eo_2
  have hok_2 : okRow (rw_ ca) := hcp_2.2.2.2.1
  refine lv_astore_n (lv' := [(3, .ref (b + q_2)), (0, .ref (b + 0)), (1, .int a_ca), (2, .int a_yr)]) hx hb dX8_isLeapYear_5 rfl hl (by decide) rfl (fun ls hl => ?_)
  refine lv_iload_n hx hb dX8_isLeapYear_6 rfl (lv_at hl 3 rfl) ?_
  refine q_cPS X w (c_X8_isYear l a_yr yr e_yr D t b n (cS t b σ0 A B P)) v_X8_157 rfl ⟨Nat.le_of_ble_eq_true rfl, Nat.le_of_ble_eq_true rfl⟩ rfl hl.1 (Nat.le_of_ble_eq_true rfl) dX8_isLeapYear_7 ⟨Nat.le_of_ble_eq_true rfl, Nat.le_of_ble_eq_true rfl⟩ (fun r_7 z_7 => ?_)
  refine x_cVS X hE hno w (c_X8_demand l D t b n σ0 A B P hl0 r_7) v_X8_103 rfl ⟨Nat.le_of_ble_eq_true rfl, Nat.le_of_ble_eq_true rfl⟩ rfl hl.1 (Nat.le_of_ble_eq_true rfl) dX8_isLeapYear_10 ⟨Nat.le_of_ble_eq_true rfl, Nat.le_of_ble_eq_true rfl⟩ ⟨Nat.le_of_ble_eq_true rfl, Nat.le_of_ble_eq_true rfl⟩ (fun E n1 σ1 hz => ⟨hz.2.1, by rw [hz.1]; exact xE_ia.trans (cd2_2 hin_2 (bI_f.mp (by have y := hz.2.2; rw [z_7] at y; exact y))).symm⟩) (fun n_10 σ_10 H locs z_10 w => ?_)
  rw [z_10.1, z_10.2.1] at w
  have k_10 : -2000 ≤ yr ∧ yr ≤ 2000 := by have y := z_10.2.2; rw [z_7] at y; exact bI_t.mp y
  refine lv_aload_n hx hb dX8_isLeapYear_13 rfl (lv_at hl 0 rfl) ?_
  refine lv_iload_n hx hb dX8_isLeapYear_14 rfl (lv_at hl 3 rfl) ?_
  refine q_cPV X w (c_X0_leaps l D t b n _ q_2 L_2 C_2 K_2 fl_2 fc_2 _ hcp_2 a_yr yr e_yr ) v_X8_161 (k := q_2) hcp_2.1 rfl rfl ⟨Nat.le_of_ble_eq_true rfl, Nat.le_of_ble_eq_true rfl⟩ rfl hl.1 (Nat.le_of_ble_eq_true rfl) dX8_isLeapYear_15 ⟨Nat.le_of_ble_eq_true rfl, Nat.le_of_ble_eq_true rfl⟩ (fun r_15 z_15 => ?_)
  refine vx_ret ?_
  refine W.widen (k := 2) (n := 12) (Nat.le_of_ble_eq_true rfl) (Nat.le_of_ble_eq_true rfl) ?_
  exact q_cret (post := fun z n1 σ1 => n1 = n ∧ σ1 = cS t b σ0 A B P ∧ cd2 (0 ≤ ca ∧ ca < (A 20).toInt) (-2000 ≤ yr ∧ yr ≤ 2000) = 0 ∧ z = bI (decide (leap (rw_ ca) yr = true))) X w dX8_isLeapYear_18 (by rw [z_15]; exact bI_nar _) ⟨rfl, rfl, cd2_0 hin_2 k_10, z_15⟩

set_option maxHeartbeats 2000000 in
set_option maxRecDepth 100000 in
theorem c_X8_months (l : Launch) (D : va_G) (t : Nat → ClassId) (b n : Nat) (σ0 : qM) (A : Nat → Int32) (B : Nat → Nat → Int32) (P : Nat → Nat → Option Nat) (hl0 : l.stackTraces = false) (rw_ : Int → Row) (fe : Int → Int → Int32) (hQ : stQ t b σ0 A P 0 rw_ fe) (a_ca : Int32) (ca : Int) (e_ca : a_ca.toInt = ca) (a_yr : Int32) (yr : Int) (e_yr : a_yr.toInt = yr) : xC l yX8_months cX8_months 4 (some .int) 7 2 12 D t b n (cS t b σ0 A B P) [.ref (b + 0), .int a_ca, .int a_yr] (fun z n1 σ1 => n1 = n ∧ σ1 = cS t b σ0 A B P ∧ cd2 (0 ≤ ca ∧ ca < (A 20).toInt) (-2000 ≤ yr ∧ yr ≤ 2000) = 0 ∧ z.toInt = mcnt (rw_ ca) yr) (fun E n1 σ1 => σ1 = cS t b σ0 A B P ∧ xE E = cd2 (0 ≤ ca ∧ ca < (A 20).toInt) (-2000 ≤ yr ∧ yr ≤ 2000)) := by
  refine xC.of (by decide +kernel) (Nat.le_of_ble_eq_true rfl) (fun p e s m args below meth c X hE hno w ls hl => ?_)
  have hx := X.1
  have hb := X.2.1
  have hl : lv_has ls 4 [(0, .ref (b + 0)), (1, .int a_ca), (2, .int a_yr)] := hl
  have hnn := hQ.1
  refine lv_aload_n hx hb dX8_months_0 rfl (lv_at hl 0 rfl) ?_
  refine lv_iload_n hx hb dX8_months_1 rfl (lv_at hl 1 rfl) ?_
  refine x_cAV X hE hno w (c_X8_existing l D t b n σ0 A B P hl0 hQ.ok a_ca ca e_ca) v_X8_149 (k := 0) rfl rfl rfl ⟨Nat.le_of_ble_eq_true rfl, Nat.le_of_ble_eq_true rfl⟩ rfl hl.1 (Nat.le_of_ble_eq_true rfl) dX8_months_2 ⟨Nat.le_of_ble_eq_true rfl, Nat.le_of_ble_eq_true rfl⟩ ⟨Nat.le_of_ble_eq_true rfl, Nat.le_of_ble_eq_true rfl⟩ (fun E n1 σ1 hz => ⟨hz.2.1, by rw [hz.1]; exact xE_io.trans (cd2_1 hz.2.2).symm⟩) (fun o_2 n_2 σ_2 H locs z_2 w => ?_)
  obtain ⟨en_2, es_2, eo_2, hin_2⟩ := z_2
  rw [en_2, es_2] at w
  obtain ⟨q_2, L_2, C_2, K_2, fl_2, fc_2, eq_2, hbc_2, hcp_2⟩ := hQ.2.1 ca hin_2.1 hin_2.2
  have hcp_2 := hcp_2.cS (A := A) (B := B) (P := P) hbc_2
  have eo_2 : o_2 = some q_2 := eo_2.trans eq_2
  subst eo_2
  have hok_2 : okRow (rw_ ca) := hcp_2.2.2.2.1
  refine lv_astore_n (lv' := [(3, .ref (b + q_2)), (0, .ref (b + 0)), (1, .int a_ca), (2, .int a_yr)]) hx hb dX8_months_5 rfl hl (by decide) rfl (fun ls hl => ?_)
  refine lv_iload_n hx hb dX8_months_6 rfl (lv_at hl 3 rfl) ?_
  refine q_cPS X w (c_X8_isYear l a_yr yr e_yr D t b n (cS t b σ0 A B P)) v_X8_157 rfl ⟨Nat.le_of_ble_eq_true rfl, Nat.le_of_ble_eq_true rfl⟩ rfl hl.1 (Nat.le_of_ble_eq_true rfl) dX8_months_7 ⟨Nat.le_of_ble_eq_true rfl, Nat.le_of_ble_eq_true rfl⟩ (fun r_7 z_7 => ?_)
  refine x_cVS X hE hno w (c_X8_demand l D t b n σ0 A B P hl0 r_7) v_X8_103 rfl ⟨Nat.le_of_ble_eq_true rfl, Nat.le_of_ble_eq_true rfl⟩ rfl hl.1 (Nat.le_of_ble_eq_true rfl) dX8_months_10 ⟨Nat.le_of_ble_eq_true rfl, Nat.le_of_ble_eq_true rfl⟩ ⟨Nat.le_of_ble_eq_true rfl, Nat.le_of_ble_eq_true rfl⟩ (fun E n1 σ1 hz => ⟨hz.2.1, by rw [hz.1]; exact xE_ia.trans (cd2_2 hin_2 (bI_f.mp (by have y := hz.2.2; rw [z_7] at y; exact y))).symm⟩) (fun n_10 σ_10 H locs z_10 w => ?_)
  rw [z_10.1, z_10.2.1] at w
  have k_10 : -2000 ≤ yr ∧ yr ≤ 2000 := by have y := z_10.2.2; rw [z_7] at y; exact bI_t.mp y
  refine lv_aload_n hx hb dX8_months_13 rfl (lv_at hl 0 rfl) ?_
  refine lv_iload_n hx hb dX8_months_14 rfl (lv_at hl 3 rfl) ?_
  refine q_cPV X w (c_X0_monthCount l D t b n _ q_2 L_2 C_2 K_2 fl_2 fc_2 _ hcp_2 a_yr yr e_yr ) v_X8_164 (k := q_2) hcp_2.1 rfl rfl ⟨Nat.le_of_ble_eq_true rfl, Nat.le_of_ble_eq_true rfl⟩ rfl hl.1 (Nat.le_of_ble_eq_true rfl) dX8_months_15 ⟨Nat.le_of_ble_eq_true rfl, Nat.le_of_ble_eq_true rfl⟩ (fun r_15 z_15 => ?_)
  refine vx_ret ?_
  refine W.widen (k := 2) (n := 12) (Nat.le_of_ble_eq_true rfl) (Nat.le_of_ble_eq_true rfl) ?_
  exact q_cret (post := fun z n1 σ1 => n1 = n ∧ σ1 = cS t b σ0 A B P ∧ cd2 (0 ≤ ca ∧ ca < (A 20).toInt) (-2000 ≤ yr ∧ yr ≤ 2000) = 0 ∧ z.toInt = mcnt (rw_ ca) yr) X w dX8_months_18 rfl ⟨rfl, rfl, cd2_0 hin_2 k_10, z_15⟩

set_option maxHeartbeats 2000000 in
set_option maxRecDepth 100000 in
theorem c_X8_yearLength (l : Launch) (D : va_G) (t : Nat → ClassId) (b n : Nat) (σ0 : qM) (A : Nat → Int32) (B : Nat → Nat → Int32) (P : Nat → Nat → Option Nat) (hl0 : l.stackTraces = false) (rw_ : Int → Row) (fe : Int → Int → Int32) (hQ : stQ t b σ0 A P 0 rw_ fe) (a_ca : Int32) (ca : Int) (e_ca : a_ca.toInt = ca) (a_yr : Int32) (yr : Int) (e_yr : a_yr.toInt = yr) : xC l yX8_yearLength cX8_yearLength 4 (some .int) 7 2 12 D t b n (cS t b σ0 A B P) [.ref (b + 0), .int a_ca, .int a_yr] (fun z n1 σ1 => n1 = n ∧ σ1 = cS t b σ0 A B P ∧ cd2 (0 ≤ ca ∧ ca < (A 20).toInt) (-2000 ≤ yr ∧ yr ≤ 2000) = 0 ∧ z.toInt = ylen (rw_ ca) yr) (fun E n1 σ1 => σ1 = cS t b σ0 A B P ∧ xE E = cd2 (0 ≤ ca ∧ ca < (A 20).toInt) (-2000 ≤ yr ∧ yr ≤ 2000)) := by
  refine xC.of (by decide +kernel) (Nat.le_of_ble_eq_true rfl) (fun p e s m args below meth c X hE hno w ls hl => ?_)
  have hx := X.1
  have hb := X.2.1
  have hl : lv_has ls 4 [(0, .ref (b + 0)), (1, .int a_ca), (2, .int a_yr)] := hl
  have hnn := hQ.1
  refine lv_aload_n hx hb dX8_yearLength_0 rfl (lv_at hl 0 rfl) ?_
  refine lv_iload_n hx hb dX8_yearLength_1 rfl (lv_at hl 1 rfl) ?_
  refine x_cAV X hE hno w (c_X8_existing l D t b n σ0 A B P hl0 hQ.ok a_ca ca e_ca) v_X8_149 (k := 0) rfl rfl rfl ⟨Nat.le_of_ble_eq_true rfl, Nat.le_of_ble_eq_true rfl⟩ rfl hl.1 (Nat.le_of_ble_eq_true rfl) dX8_yearLength_2 ⟨Nat.le_of_ble_eq_true rfl, Nat.le_of_ble_eq_true rfl⟩ ⟨Nat.le_of_ble_eq_true rfl, Nat.le_of_ble_eq_true rfl⟩ (fun E n1 σ1 hz => ⟨hz.2.1, by rw [hz.1]; exact xE_io.trans (cd2_1 hz.2.2).symm⟩) (fun o_2 n_2 σ_2 H locs z_2 w => ?_)
  obtain ⟨en_2, es_2, eo_2, hin_2⟩ := z_2
  rw [en_2, es_2] at w
  obtain ⟨q_2, L_2, C_2, K_2, fl_2, fc_2, eq_2, hbc_2, hcp_2⟩ := hQ.2.1 ca hin_2.1 hin_2.2
  have hcp_2 := hcp_2.cS (A := A) (B := B) (P := P) hbc_2
  have eo_2 : o_2 = some q_2 := eo_2.trans eq_2
  subst eo_2
  have hok_2 : okRow (rw_ ca) := hcp_2.2.2.2.1
  refine lv_astore_n (lv' := [(3, .ref (b + q_2)), (0, .ref (b + 0)), (1, .int a_ca), (2, .int a_yr)]) hx hb dX8_yearLength_5 rfl hl (by decide) rfl (fun ls hl => ?_)
  refine lv_iload_n hx hb dX8_yearLength_6 rfl (lv_at hl 3 rfl) ?_
  refine q_cPS X w (c_X8_isYear l a_yr yr e_yr D t b n (cS t b σ0 A B P)) v_X8_157 rfl ⟨Nat.le_of_ble_eq_true rfl, Nat.le_of_ble_eq_true rfl⟩ rfl hl.1 (Nat.le_of_ble_eq_true rfl) dX8_yearLength_7 ⟨Nat.le_of_ble_eq_true rfl, Nat.le_of_ble_eq_true rfl⟩ (fun r_7 z_7 => ?_)
  refine x_cVS X hE hno w (c_X8_demand l D t b n σ0 A B P hl0 r_7) v_X8_103 rfl ⟨Nat.le_of_ble_eq_true rfl, Nat.le_of_ble_eq_true rfl⟩ rfl hl.1 (Nat.le_of_ble_eq_true rfl) dX8_yearLength_10 ⟨Nat.le_of_ble_eq_true rfl, Nat.le_of_ble_eq_true rfl⟩ ⟨Nat.le_of_ble_eq_true rfl, Nat.le_of_ble_eq_true rfl⟩ (fun E n1 σ1 hz => ⟨hz.2.1, by rw [hz.1]; exact xE_ia.trans (cd2_2 hin_2 (bI_f.mp (by have y := hz.2.2; rw [z_7] at y; exact y))).symm⟩) (fun n_10 σ_10 H locs z_10 w => ?_)
  rw [z_10.1, z_10.2.1] at w
  have k_10 : -2000 ≤ yr ∧ yr ≤ 2000 := by have y := z_10.2.2; rw [z_7] at y; exact bI_t.mp y
  refine lv_aload_n hx hb dX8_yearLength_13 rfl (lv_at hl 0 rfl) ?_
  refine lv_iload_n hx hb dX8_yearLength_14 rfl (lv_at hl 3 rfl) ?_
  refine q_cPV X w (c_X0_lengthOfYear l D t b n _ q_2 L_2 C_2 K_2 fl_2 fc_2 _ hcp_2 a_yr yr e_yr ) v_X8_177 (k := q_2) hcp_2.1 rfl rfl ⟨Nat.le_of_ble_eq_true rfl, Nat.le_of_ble_eq_true rfl⟩ rfl hl.1 (Nat.le_of_ble_eq_true rfl) dX8_yearLength_15 ⟨Nat.le_of_ble_eq_true rfl, Nat.le_of_ble_eq_true rfl⟩ (fun r_15 z_15 => ?_)
  refine vx_ret ?_
  refine W.widen (k := 2) (n := 12) (Nat.le_of_ble_eq_true rfl) (Nat.le_of_ble_eq_true rfl) ?_
  exact q_cret (post := fun z n1 σ1 => n1 = n ∧ σ1 = cS t b σ0 A B P ∧ cd2 (0 ≤ ca ∧ ca < (A 20).toInt) (-2000 ≤ yr ∧ yr ≤ 2000) = 0 ∧ z.toInt = ylen (rw_ ca) yr) X w dX8_yearLength_18 rfl ⟨rfl, rfl, cd2_0 hin_2 k_10, z_15⟩

set_option maxHeartbeats 2000000 in
set_option maxRecDepth 100000 in
theorem c_X8_firstDay (l : Launch) (D : va_G) (t : Nat → ClassId) (b n : Nat) (σ0 : qM) (A : Nat → Int32) (B : Nat → Nat → Int32) (P : Nat → Nat → Option Nat) (hl0 : l.stackTraces = false) (rw_ : Int → Row) (fe : Int → Int → Int32) (hQ : stQ t b σ0 A P 0 rw_ fe) (a_ca : Int32) (ca : Int) (e_ca : a_ca.toInt = ca) (a_yr : Int32) (yr : Int) (e_yr : a_yr.toInt = yr) : xC l yX8_firstDay cX8_firstDay 4 (some .int) 7 2 12 D t b n (cS t b σ0 A B P) [.ref (b + 0), .int a_ca, .int a_yr] (fun z n1 σ1 => n1 = n ∧ σ1 = cS t b σ0 A B P ∧ cd2 (0 ≤ ca ∧ ca < (A 20).toInt) (-2000 ≤ yr ∧ yr ≤ 2000) = 0 ∧ z.toInt = fst (rw_ ca) yr) (fun E n1 σ1 => σ1 = cS t b σ0 A B P ∧ xE E = cd2 (0 ≤ ca ∧ ca < (A 20).toInt) (-2000 ≤ yr ∧ yr ≤ 2000)) := by
  refine xC.of (by decide +kernel) (Nat.le_of_ble_eq_true rfl) (fun p e s m args below meth c X hE hno w ls hl => ?_)
  have hx := X.1
  have hb := X.2.1
  have hl : lv_has ls 4 [(0, .ref (b + 0)), (1, .int a_ca), (2, .int a_yr)] := hl
  have hnn := hQ.1
  refine lv_aload_n hx hb dX8_firstDay_0 rfl (lv_at hl 0 rfl) ?_
  refine lv_iload_n hx hb dX8_firstDay_1 rfl (lv_at hl 1 rfl) ?_
  refine x_cAV X hE hno w (c_X8_existing l D t b n σ0 A B P hl0 hQ.ok a_ca ca e_ca) v_X8_149 (k := 0) rfl rfl rfl ⟨Nat.le_of_ble_eq_true rfl, Nat.le_of_ble_eq_true rfl⟩ rfl hl.1 (Nat.le_of_ble_eq_true rfl) dX8_firstDay_2 ⟨Nat.le_of_ble_eq_true rfl, Nat.le_of_ble_eq_true rfl⟩ ⟨Nat.le_of_ble_eq_true rfl, Nat.le_of_ble_eq_true rfl⟩ (fun E n1 σ1 hz => ⟨hz.2.1, by rw [hz.1]; exact xE_io.trans (cd2_1 hz.2.2).symm⟩) (fun o_2 n_2 σ_2 H locs z_2 w => ?_)
  obtain ⟨en_2, es_2, eo_2, hin_2⟩ := z_2
  rw [en_2, es_2] at w
  obtain ⟨q_2, L_2, C_2, K_2, fl_2, fc_2, eq_2, hbc_2, hcp_2⟩ := hQ.2.1 ca hin_2.1 hin_2.2
  have hcp_2 := hcp_2.cS (A := A) (B := B) (P := P) hbc_2
  have eo_2 : o_2 = some q_2 := eo_2.trans eq_2
  subst eo_2
  have hok_2 : okRow (rw_ ca) := hcp_2.2.2.2.1
  refine lv_astore_n (lv' := [(3, .ref (b + q_2)), (0, .ref (b + 0)), (1, .int a_ca), (2, .int a_yr)]) hx hb dX8_firstDay_5 rfl hl (by decide) rfl (fun ls hl => ?_)
  refine lv_iload_n hx hb dX8_firstDay_6 rfl (lv_at hl 3 rfl) ?_
  refine q_cPS X w (c_X8_isYear l a_yr yr e_yr D t b n (cS t b σ0 A B P)) v_X8_157 rfl ⟨Nat.le_of_ble_eq_true rfl, Nat.le_of_ble_eq_true rfl⟩ rfl hl.1 (Nat.le_of_ble_eq_true rfl) dX8_firstDay_7 ⟨Nat.le_of_ble_eq_true rfl, Nat.le_of_ble_eq_true rfl⟩ (fun r_7 z_7 => ?_)
  refine x_cVS X hE hno w (c_X8_demand l D t b n σ0 A B P hl0 r_7) v_X8_103 rfl ⟨Nat.le_of_ble_eq_true rfl, Nat.le_of_ble_eq_true rfl⟩ rfl hl.1 (Nat.le_of_ble_eq_true rfl) dX8_firstDay_10 ⟨Nat.le_of_ble_eq_true rfl, Nat.le_of_ble_eq_true rfl⟩ ⟨Nat.le_of_ble_eq_true rfl, Nat.le_of_ble_eq_true rfl⟩ (fun E n1 σ1 hz => ⟨hz.2.1, by rw [hz.1]; exact xE_ia.trans (cd2_2 hin_2 (bI_f.mp (by have y := hz.2.2; rw [z_7] at y; exact y))).symm⟩) (fun n_10 σ_10 H locs z_10 w => ?_)
  rw [z_10.1, z_10.2.1] at w
  have k_10 : -2000 ≤ yr ∧ yr ≤ 2000 := by have y := z_10.2.2; rw [z_7] at y; exact bI_t.mp y
  refine lv_aload_n hx hb dX8_firstDay_13 rfl (lv_at hl 0 rfl) ?_
  refine lv_iload_n hx hb dX8_firstDay_14 rfl (lv_at hl 3 rfl) ?_
  refine q_cPV X w (c_X0_startOfYear l D t b n _ q_2 L_2 C_2 K_2 fl_2 fc_2 _ hcp_2 a_yr yr e_yr (by omega)) v_X8_180 (k := q_2) hcp_2.1 rfl rfl ⟨Nat.le_of_ble_eq_true rfl, Nat.le_of_ble_eq_true rfl⟩ rfl hl.1 (Nat.le_of_ble_eq_true rfl) dX8_firstDay_15 ⟨Nat.le_of_ble_eq_true rfl, Nat.le_of_ble_eq_true rfl⟩ (fun r_15 z_15 => ?_)
  refine vx_ret ?_
  refine W.widen (k := 2) (n := 12) (Nat.le_of_ble_eq_true rfl) (Nat.le_of_ble_eq_true rfl) ?_
  exact q_cret (post := fun z n1 σ1 => n1 = n ∧ σ1 = cS t b σ0 A B P ∧ cd2 (0 ≤ ca ∧ ca < (A 20).toInt) (-2000 ≤ yr ∧ yr ≤ 2000) = 0 ∧ z.toInt = fst (rw_ ca) yr) X w dX8_firstDay_18 rfl ⟨rfl, rfl, cd2_0 hin_2 k_10, z_15⟩

set_option maxHeartbeats 2000000 in
set_option maxRecDepth 100000 in
theorem c_X8_monthLength (l : Launch) (D : va_G) (t : Nat → ClassId) (b n : Nat) (σ0 : qM) (A : Nat → Int32) (B : Nat → Nat → Int32) (P : Nat → Nat → Option Nat) (hl0 : l.stackTraces = false) (rw_ : Int → Row) (fe : Int → Int → Int32) (hQ : stQ t b σ0 A P 0 rw_ fe) (a_ca : Int32) (ca : Int) (e_ca : a_ca.toInt = ca) (a_yr : Int32) (yr : Int) (e_yr : a_yr.toInt = yr) (a_mo : Int32) (mo : Int) (e_mo : a_mo.toInt = mo) : xC l yX8_monthLength cX8_monthLength 5 (some .int) 7 2 12 D t b n (cS t b σ0 A B P) [.ref (b + 0), .int a_ca, .int a_yr, .int a_mo] (fun z n1 σ1 => n1 = n ∧ σ1 = cS t b σ0 A B P ∧ cd2 (0 ≤ ca ∧ ca < (A 20).toInt) ((-2000 ≤ yr ∧ yr ≤ 2000) ∧ 1 ≤ mo ∧ mo ≤ mcnt (rw_ ca) yr) = 0 ∧ z.toInt = mlen (rw_ ca) yr mo) (fun E n1 σ1 => σ1 = cS t b σ0 A B P ∧ xE E = cd2 (0 ≤ ca ∧ ca < (A 20).toInt) ((-2000 ≤ yr ∧ yr ≤ 2000) ∧ 1 ≤ mo ∧ mo ≤ mcnt (rw_ ca) yr)) := by
  refine xC.of (by decide +kernel) (Nat.le_of_ble_eq_true rfl) (fun p e s m args below meth c X hE hno w ls hl => ?_)
  have hx := X.1
  have hb := X.2.1
  have hl : lv_has ls 5 [(0, .ref (b + 0)), (1, .int a_ca), (2, .int a_yr), (3, .int a_mo)] := hl
  have hnn := hQ.1
  refine lv_aload_n hx hb dX8_monthLength_0 rfl (lv_at hl 0 rfl) ?_
  refine lv_iload_n hx hb dX8_monthLength_1 rfl (lv_at hl 1 rfl) ?_
  refine x_cAV X hE hno w (c_X8_existing l D t b n σ0 A B P hl0 hQ.ok a_ca ca e_ca) v_X8_149 (k := 0) rfl rfl rfl ⟨Nat.le_of_ble_eq_true rfl, Nat.le_of_ble_eq_true rfl⟩ rfl hl.1 (Nat.le_of_ble_eq_true rfl) dX8_monthLength_2 ⟨Nat.le_of_ble_eq_true rfl, Nat.le_of_ble_eq_true rfl⟩ ⟨Nat.le_of_ble_eq_true rfl, Nat.le_of_ble_eq_true rfl⟩ (fun E n1 σ1 hz => ⟨hz.2.1, by rw [hz.1]; exact xE_io.trans (cd2_1 hz.2.2).symm⟩) (fun o_2 n_2 σ_2 H locs z_2 w => ?_)
  obtain ⟨en_2, es_2, eo_2, hin_2⟩ := z_2
  rw [en_2, es_2] at w
  obtain ⟨q_2, L_2, C_2, K_2, fl_2, fc_2, eq_2, hbc_2, hcp_2⟩ := hQ.2.1 ca hin_2.1 hin_2.2
  have hcp_2 := hcp_2.cS (A := A) (B := B) (P := P) hbc_2
  have eo_2 : o_2 = some q_2 := eo_2.trans eq_2
  subst eo_2
  have hok_2 : okRow (rw_ ca) := hcp_2.2.2.2.1
  refine lv_astore (lv' := [(4, .ref (b + q_2)), (0, .ref (b + 0)), (1, .int a_ca), (2, .int a_yr), (3, .int a_mo)]) hx hb dX8_monthLength_5 hl (by decide) rfl (fun ls hl => ?_)
  refine lv_aload hx hb dX8_monthLength_7 (lv_at hl 0 rfl) ?_
  refine lv_iload_n hx hb dX8_monthLength_9 rfl (lv_at hl 3 rfl) ?_
  refine lv_iload_n hx hb dX8_monthLength_10 rfl (lv_at hl 4 rfl) ?_
  refine q_cPV X w (c_X0_hasMonth l D t b n _ q_2 L_2 C_2 K_2 fl_2 fc_2 _ hcp_2 a_yr a_mo yr mo e_yr e_mo ) v_X8_167 (k := q_2) hcp_2.1 rfl rfl ⟨Nat.le_of_ble_eq_true rfl, Nat.le_of_ble_eq_true rfl⟩ rfl hl.1 (Nat.le_of_ble_eq_true rfl) dX8_monthLength_11 ⟨Nat.le_of_ble_eq_true rfl, Nat.le_of_ble_eq_true rfl⟩ (fun r_11 z_11 => ?_)
  refine x_cVS X hE hno w (c_X8_demand l D t b n σ0 A B P hl0 r_11) v_X8_103 rfl ⟨Nat.le_of_ble_eq_true rfl, Nat.le_of_ble_eq_true rfl⟩ rfl hl.1 (Nat.le_of_ble_eq_true rfl) dX8_monthLength_14 ⟨Nat.le_of_ble_eq_true rfl, Nat.le_of_ble_eq_true rfl⟩ ⟨Nat.le_of_ble_eq_true rfl, Nat.le_of_ble_eq_true rfl⟩ (fun E n1 σ1 hz => ⟨hz.2.1, by rw [hz.1]; exact xE_ia.trans (cd2_2 hin_2 (bI_f.mp (by have y := hz.2.2; rw [z_11] at y; exact y))).symm⟩) (fun n_14 σ_14 H locs z_14 w => ?_)
  rw [z_14.1, z_14.2.1] at w
  have k_14 : (-2000 ≤ yr ∧ yr ≤ 2000) ∧ 1 ≤ mo ∧ mo ≤ mcnt (rw_ ca) yr := by have y := z_14.2.2; rw [z_11] at y; exact bI_t.mp y
  refine lv_aload hx hb dX8_monthLength_17 (lv_at hl 0 rfl) ?_
  refine lv_iload_n hx hb dX8_monthLength_19 rfl (lv_at hl 3 rfl) ?_
  refine lv_iload_n hx hb dX8_monthLength_20 rfl (lv_at hl 4 rfl) ?_
  refine q_cPV X w (c_X0_lengthOfMonth l D t b n _ q_2 L_2 C_2 K_2 fl_2 fc_2 _ hcp_2 a_yr a_mo yr mo e_yr e_mo (by omega)) v_X8_171 (k := q_2) hcp_2.1 rfl rfl ⟨Nat.le_of_ble_eq_true rfl, Nat.le_of_ble_eq_true rfl⟩ rfl hl.1 (Nat.le_of_ble_eq_true rfl) dX8_monthLength_21 ⟨Nat.le_of_ble_eq_true rfl, Nat.le_of_ble_eq_true rfl⟩ (fun r_21 z_21 => ?_)
  refine vx_ret ?_
  refine W.widen (k := 2) (n := 12) (Nat.le_of_ble_eq_true rfl) (Nat.le_of_ble_eq_true rfl) ?_
  exact q_cret (post := fun z n1 σ1 => n1 = n ∧ σ1 = cS t b σ0 A B P ∧ cd2 (0 ≤ ca ∧ ca < (A 20).toInt) ((-2000 ≤ yr ∧ yr ≤ 2000) ∧ 1 ≤ mo ∧ mo ≤ mcnt (rw_ ca) yr) = 0 ∧ z.toInt = mlen (rw_ ca) yr mo) X w dX8_monthLength_24 rfl ⟨rfl, rfl, cd2_0 hin_2 k_14, z_21⟩

set_option maxHeartbeats 2000000 in
set_option maxRecDepth 100000 in
theorem c_X8_isIntercalary (l : Launch) (D : va_G) (t : Nat → ClassId) (b n : Nat) (σ0 : qM) (A : Nat → Int32) (B : Nat → Nat → Int32) (P : Nat → Nat → Option Nat) (hl0 : l.stackTraces = false) (rw_ : Int → Row) (fe : Int → Int → Int32) (hQ : stQ t b σ0 A P 0 rw_ fe) (a_ca : Int32) (ca : Int) (e_ca : a_ca.toInt = ca) (a_yr : Int32) (yr : Int) (e_yr : a_yr.toInt = yr) (a_mo : Int32) (mo : Int) (e_mo : a_mo.toInt = mo) : xC l yX8_isIntercalary cX8_isIntercalary 5 (some .boolean) 7 2 12 D t b n (cS t b σ0 A B P) [.ref (b + 0), .int a_ca, .int a_yr, .int a_mo] (fun z n1 σ1 => n1 = n ∧ σ1 = cS t b σ0 A B P ∧ cd2 (0 ≤ ca ∧ ca < (A 20).toInt) ((-2000 ≤ yr ∧ yr ≤ 2000) ∧ 1 ≤ mo ∧ mo ≤ mcnt (rw_ ca) yr) = 0 ∧ z = bI (decide ((rv (rw_ ca) 16 = 2 ∧ leap (rw_ ca) yr = true) ∧ mo = rv (rw_ ca) 17 + 1))) (fun E n1 σ1 => σ1 = cS t b σ0 A B P ∧ xE E = cd2 (0 ≤ ca ∧ ca < (A 20).toInt) ((-2000 ≤ yr ∧ yr ≤ 2000) ∧ 1 ≤ mo ∧ mo ≤ mcnt (rw_ ca) yr)) := by
  refine xC.of (by decide +kernel) (Nat.le_of_ble_eq_true rfl) (fun p e s m args below meth c X hE hno w ls hl => ?_)
  have hx := X.1
  have hb := X.2.1
  have hl : lv_has ls 5 [(0, .ref (b + 0)), (1, .int a_ca), (2, .int a_yr), (3, .int a_mo)] := hl
  have hnn := hQ.1
  refine lv_aload_n hx hb dX8_isIntercalary_0 rfl (lv_at hl 0 rfl) ?_
  refine lv_iload_n hx hb dX8_isIntercalary_1 rfl (lv_at hl 1 rfl) ?_
  refine x_cAV X hE hno w (c_X8_existing l D t b n σ0 A B P hl0 hQ.ok a_ca ca e_ca) v_X8_149 (k := 0) rfl rfl rfl ⟨Nat.le_of_ble_eq_true rfl, Nat.le_of_ble_eq_true rfl⟩ rfl hl.1 (Nat.le_of_ble_eq_true rfl) dX8_isIntercalary_2 ⟨Nat.le_of_ble_eq_true rfl, Nat.le_of_ble_eq_true rfl⟩ ⟨Nat.le_of_ble_eq_true rfl, Nat.le_of_ble_eq_true rfl⟩ (fun E n1 σ1 hz => ⟨hz.2.1, by rw [hz.1]; exact xE_io.trans (cd2_1 hz.2.2).symm⟩) (fun o_2 n_2 σ_2 H locs z_2 w => ?_)
  obtain ⟨en_2, es_2, eo_2, hin_2⟩ := z_2
  rw [en_2, es_2] at w
  obtain ⟨q_2, L_2, C_2, K_2, fl_2, fc_2, eq_2, hbc_2, hcp_2⟩ := hQ.2.1 ca hin_2.1 hin_2.2
  have hcp_2 := hcp_2.cS (A := A) (B := B) (P := P) hbc_2
  have eo_2 : o_2 = some q_2 := eo_2.trans eq_2
  subst eo_2
  have hok_2 : okRow (rw_ ca) := hcp_2.2.2.2.1
  refine lv_astore (lv' := [(4, .ref (b + q_2)), (0, .ref (b + 0)), (1, .int a_ca), (2, .int a_yr), (3, .int a_mo)]) hx hb dX8_isIntercalary_5 hl (by decide) rfl (fun ls hl => ?_)
  refine lv_aload hx hb dX8_isIntercalary_7 (lv_at hl 0 rfl) ?_
  refine lv_iload_n hx hb dX8_isIntercalary_9 rfl (lv_at hl 3 rfl) ?_
  refine lv_iload_n hx hb dX8_isIntercalary_10 rfl (lv_at hl 4 rfl) ?_
  refine q_cPV X w (c_X0_hasMonth l D t b n _ q_2 L_2 C_2 K_2 fl_2 fc_2 _ hcp_2 a_yr a_mo yr mo e_yr e_mo ) v_X8_167 (k := q_2) hcp_2.1 rfl rfl ⟨Nat.le_of_ble_eq_true rfl, Nat.le_of_ble_eq_true rfl⟩ rfl hl.1 (Nat.le_of_ble_eq_true rfl) dX8_isIntercalary_11 ⟨Nat.le_of_ble_eq_true rfl, Nat.le_of_ble_eq_true rfl⟩ (fun r_11 z_11 => ?_)
  refine x_cVS X hE hno w (c_X8_demand l D t b n σ0 A B P hl0 r_11) v_X8_103 rfl ⟨Nat.le_of_ble_eq_true rfl, Nat.le_of_ble_eq_true rfl⟩ rfl hl.1 (Nat.le_of_ble_eq_true rfl) dX8_isIntercalary_14 ⟨Nat.le_of_ble_eq_true rfl, Nat.le_of_ble_eq_true rfl⟩ ⟨Nat.le_of_ble_eq_true rfl, Nat.le_of_ble_eq_true rfl⟩ (fun E n1 σ1 hz => ⟨hz.2.1, by rw [hz.1]; exact xE_ia.trans (cd2_2 hin_2 (bI_f.mp (by have y := hz.2.2; rw [z_11] at y; exact y))).symm⟩) (fun n_14 σ_14 H locs z_14 w => ?_)
  rw [z_14.1, z_14.2.1] at w
  have k_14 : (-2000 ≤ yr ∧ yr ≤ 2000) ∧ 1 ≤ mo ∧ mo ≤ mcnt (rw_ ca) yr := by have y := z_14.2.2; rw [z_11] at y; exact bI_t.mp y
  refine lv_aload hx hb dX8_isIntercalary_17 (lv_at hl 0 rfl) ?_
  refine lv_iload_n hx hb dX8_isIntercalary_19 rfl (lv_at hl 3 rfl) ?_
  refine lv_iload_n hx hb dX8_isIntercalary_20 rfl (lv_at hl 4 rfl) ?_
  refine q_cPV X w (c_X0_insertsMonth l D t b n _ q_2 L_2 C_2 K_2 fl_2 fc_2 _ hcp_2 a_yr a_mo yr mo e_yr e_mo (by have := mcnt_bd hok_2 yr; omega)) v_X8_174 (k := q_2) hcp_2.1 rfl rfl ⟨Nat.le_of_ble_eq_true rfl, Nat.le_of_ble_eq_true rfl⟩ rfl hl.1 (Nat.le_of_ble_eq_true rfl) dX8_isIntercalary_21 ⟨Nat.le_of_ble_eq_true rfl, Nat.le_of_ble_eq_true rfl⟩ (fun r_21 z_21 => ?_)
  refine vx_ret ?_
  refine W.widen (k := 2) (n := 12) (Nat.le_of_ble_eq_true rfl) (Nat.le_of_ble_eq_true rfl) ?_
  exact q_cret (post := fun z n1 σ1 => n1 = n ∧ σ1 = cS t b σ0 A B P ∧ cd2 (0 ≤ ca ∧ ca < (A 20).toInt) ((-2000 ≤ yr ∧ yr ≤ 2000) ∧ 1 ≤ mo ∧ mo ≤ mcnt (rw_ ca) yr) = 0 ∧ z = bI (decide ((rv (rw_ ca) 16 = 2 ∧ leap (rw_ ca) yr = true) ∧ mo = rv (rw_ ca) 17 + 1))) X w dX8_isIntercalary_24 (by rw [z_21]; exact bI_nar _) ⟨rfl, rfl, cd2_0 hin_2 k_14, z_21⟩
