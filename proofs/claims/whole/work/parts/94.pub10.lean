set_option maxHeartbeats 2000000 in
set_option maxRecDepth 100000 in
theorem c_X8_calendar (l : Launch) (D : va_G) (t : Nat → ClassId) (b n : Nat) (σ0 : qM) (A : Nat → Int32) (B : Nat → Nat → Int32) (P : Nat → Nat → Option Nat) (hl0 : l.stackTraces = false) (rw_ : Int → Row) (fe : Int → Int → Int32) (hQ : stQ t b σ0 A P 0 rw_ fe) (a_ca : Int32) (ca : Int) (e_ca : a_ca.toInt = ca) (a_part : Int32) (part : Int) (e_part : a_part.toInt = part) : xC l yX8_calendar cX8_calendar 4 (some .int) 7 2 12 D t b n (cS t b σ0 A B P) [.ref (b + 0), .int a_ca, .int a_part] (fun z n1 σ1 => n1 = n ∧ σ1 = cS t b σ0 A B P ∧ cd2 (0 ≤ ca ∧ ca < (A 20).toInt) (0 ≤ part ∧ part ≤ 7) = 0 ∧ z.toInt = calp (rw_ ca) part) (fun E n1 σ1 => σ1 = cS t b σ0 A B P ∧ xE E = cd2 (0 ≤ ca ∧ ca < (A 20).toInt) (0 ≤ part ∧ part ≤ 7)) := by
  refine xC.of (by decide +kernel) (Nat.le_of_ble_eq_true rfl) (fun p e s m args below meth c X hE hno w ls hl => ?_)
  have hx := X.1
  have hb := X.2.1
  have hl : lv_has ls 4 [(0, .ref (b + 0)), (1, .int a_ca), (2, .int a_part)] := hl
  have hnn := hQ.1
  refine lv_aload_n hx hb dX8_calendar_0 rfl (lv_at hl 0 rfl) ?_
  refine lv_iload_n hx hb dX8_calendar_1 rfl (lv_at hl 1 rfl) ?_
  refine x_cAV X hE hno w (c_X8_existing l D t b n σ0 A B P hl0 hQ.ok a_ca ca e_ca) v_X8_149 (k := 0) rfl rfl rfl ⟨Nat.le_of_ble_eq_true rfl, Nat.le_of_ble_eq_true rfl⟩ rfl hl.1 (Nat.le_of_ble_eq_true rfl) dX8_calendar_2 ⟨Nat.le_of_ble_eq_true rfl, Nat.le_of_ble_eq_true rfl⟩ ⟨Nat.le_of_ble_eq_true rfl, Nat.le_of_ble_eq_true rfl⟩ (fun E n1 σ1 hz => ⟨hz.2.1, by rw [hz.1]; exact xE_io.trans (cd2_1 hz.2.2).symm⟩) (fun o_2 n_2 σ_2 H locs z_2 w => ?_)
  obtain ⟨en_2, es_2, eo_2, hin_2⟩ := z_2
  rw [en_2, es_2] at w
  obtain ⟨q_2, L_2, C_2, K_2, fl_2, fc_2, eq_2, hbc_2, hcp_2⟩ := hQ.2.1 ca hin_2.1 hin_2.2
  have hcp_2 := hcp_2.cS (A := A) (B := B) (P := P) hbc_2
  have eo_2 : o_2 = some q_2 := eo_2.trans eq_2
  subst eo_2
  have hok_2 : okRow (rw_ ca) := hcp_2.2.2.2.1
  refine lv_astore_n (lv' := [(3, .ref (b + q_2)), (0, .ref (b + 0)), (1, .int a_ca), (2, .int a_part)]) hx hb dX8_calendar_5 rfl hl (by decide) rfl (fun ls hl => ?_)
  refine lv_iload_n hx hb dX8_calendar_6 rfl (lv_at hl 3 rfl) ?_
  refine lv_iconst (v := 0) hx hb dX8_calendar_7 (by decide) ?_
  refine lv_bipush (v := 7) hx hb dX8_calendar_8 (by decide) ?_
  refine q_cPS X w (c_X8_isFrom l a_part 0 7 part 0 7 e_part (show (0 : Int32).toInt = 0 from rfl) (show (7 : Int32).toInt = 7 from rfl) D t b n (cS t b σ0 A B P)) v_X8_99 rfl ⟨Nat.le_of_ble_eq_true rfl, Nat.le_of_ble_eq_true rfl⟩ rfl hl.1 (Nat.le_of_ble_eq_true rfl) dX8_calendar_10 ⟨Nat.le_of_ble_eq_true rfl, Nat.le_of_ble_eq_true rfl⟩ (fun r_10 z_10 => ?_)
  refine x_cVS X hE hno w (c_X8_demand l D t b n σ0 A B P hl0 r_10) v_X8_103 rfl ⟨Nat.le_of_ble_eq_true rfl, Nat.le_of_ble_eq_true rfl⟩ rfl hl.1 (Nat.le_of_ble_eq_true rfl) dX8_calendar_13 ⟨Nat.le_of_ble_eq_true rfl, Nat.le_of_ble_eq_true rfl⟩ ⟨Nat.le_of_ble_eq_true rfl, Nat.le_of_ble_eq_true rfl⟩ (fun E n1 σ1 hz => ⟨hz.2.1, by rw [hz.1]; exact xE_ia.trans (cd2_2 hin_2 (bI_f.mp (by have y := hz.2.2; rw [z_10] at y; exact y))).symm⟩) (fun n_13 σ_13 H locs z_13 w => ?_)
  rw [z_13.1, z_13.2.1] at w
  have k_13 : 0 ≤ part ∧ part ≤ 7 := by have y := z_13.2.2; rw [z_10] at y; exact bI_t.mp y
  refine lv_aload_n hx hb dX8_calendar_16 rfl (lv_at hl 0 rfl) ?_
  refine lv_iload_n hx hb dX8_calendar_17 rfl (lv_at hl 3 rfl) ?_
  refine q_cPV X w (c_X0_describe l D t b n _ q_2 L_2 C_2 K_2 fl_2 fc_2 _ hcp_2 a_part part e_part (by omega)) v_X8_153 (k := q_2) hcp_2.1 rfl rfl ⟨Nat.le_of_ble_eq_true rfl, Nat.le_of_ble_eq_true rfl⟩ rfl hl.1 (Nat.le_of_ble_eq_true rfl) dX8_calendar_18 ⟨Nat.le_of_ble_eq_true rfl, Nat.le_of_ble_eq_true rfl⟩ (fun r_18 z_18 => ?_)
  refine vx_ret ?_
  refine W.widen (k := 2) (n := 12) (Nat.le_of_ble_eq_true rfl) (Nat.le_of_ble_eq_true rfl) ?_
  exact q_cret (post := fun z n1 σ1 => n1 = n ∧ σ1 = cS t b σ0 A B P ∧ cd2 (0 ≤ ca ∧ ca < (A 20).toInt) (0 ≤ part ∧ part ≤ 7) = 0 ∧ z.toInt = calp (rw_ ca) part) X w dX8_calendar_21 rfl ⟨rfl, rfl, cd2_0 hin_2 k_13, z_18⟩
