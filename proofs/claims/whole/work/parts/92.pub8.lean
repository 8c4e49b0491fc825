set_option maxHeartbeats 2000000 in
set_option maxRecDepth 100000 in
theorem c_X8_readings (l : Launch) (D : va_G) (t : Nat → ClassId) (b n : Nat) (σ0 : qM) (A : Nat → Int32) (B : Nat → Nat → Int32) (P : Nat → Nat → Option Nat) (rw_ : Int → Row) (fe : Int → Int → Int32) (hQ : stQ t b σ0 A P 0 rw_ fe) (a_na : Int32) (a_nb : Int32) (a_nx : Int32) (na : Int) (nb : Int) (nx : Int) (e_na : a_na.toInt = na) (e_nb : a_nb.toInt = nb) (e_nx : a_nx.toInt = nx) : kC l yX8_readings cX8_readings 6 (some .int) 6 D t b n σ0 A B P [.ref (b + 0), .int a_na, .int a_nb, .int a_nx] (fun z A1 B1 => kpI [36] A A1 ∧ kpR [6, 7, 8] B B1 ∧ (A1 36).toInt = (rdN rw_ na nb nx (3 * (A 20).toInt).toNat).2 ∧ rdP (rdR B1) (rdN rw_ na nb nx (3 * (A 20).toInt).toNat) ∧ z = A1 36) := by
  refine qC.of (by decide +kernel) (Nat.le_of_ble_eq_true rfl) (fun p e s m args below meth c X w ls hl => ?_)
  have hx := X.1
  have hb := X.2.1
  have hl : lv_has ls 6 [(0, .ref (b + 0)), (1, .int a_na), (2, .int a_nb), (3, .int a_nx)] := hl
  have hnn : (0 ≤ (A 20).toInt ∧ (A 20).toInt ≤ 6) ∧ (0 ≤ (A 21).toInt ∧ (A 21).toInt ≤ 8) := hQ.1
  refine lv_aload_n hx hb dX8_readings_0 rfl (lv_at hl 0 rfl) ?_
  refine kg_X8_found X w dX8_readings_1 ?_
  refine kk_cVI X w (c_X5_clear l D t b n σ0 A B P ) v_X8_276 rfl rfl rfl ⟨Nat.le_of_ble_eq_true rfl, Nat.le_of_ble_eq_true rfl⟩ rfl hl.1 (Nat.le_of_ble_eq_true rfl) dX8_readings_4 ⟨Nat.zero_le _, Nat.zero_le _⟩ (fun A_4 H locs z_4 w => ?_)
  refine lv_iconst (v := 0) hx hb dX8_readings_7 (by decide) ?_
  refine lv_istore (lv' := [(4, .int 0), (0, .ref (b + 0)), (1, .int a_na), (2, .int a_nb), (3, .int a_nx)]) hx hb dX8_readings_8 hl (by decide) rfl (fun ls hl => ?_)
  refine q_loop (α := Int32 × Int × (Nat → Int32) × (Nat → Nat → Int32)) (fun a => a.1.toInt = a.2.1 ∧ (kpI [36] A a.2.2.1 ∧ kpR [6, 7, 8] B a.2.2.2 ∧ (0 ≤ a.2.1 ∧ a.2.1 ≤ (A 20).toInt) ∧ (a.2.2.1 36).toInt = (rdN rw_ na nb nx (3 * a.2.1).toNat).2 ∧ rdP (rdR a.2.2.2) (rdN rw_ na nb nx (3 * a.2.1).toNat))) (fun a => ((A 20).toInt - a.2.1).toNat) (fun a => ∀ (H : Heap) (locs : List Loc), qW D b n (cS t b σ0 a.2.2.1 a.2.2.2 P) s H locs → ∀ ls : Array Slot, lv_has ls 6 [(4, .int a.1), (0, .ref (b + 0)), (1, .int a_na), (2, .int a_nb), (3, .int a_nx)] → W p l e (qR 6 0 0) s m args below meth c H locs 0 0 (MQ below (va_Qi (S := Nat × qM) (fun z u => (fun z n1 σ1 => n1 = n ∧ ∃ A1 B1, σ1 = cS t b σ0 A1 B1 P ∧ kpI [36] A A1 ∧ kpR [6, 7, 8] B B1 ∧ (A1 36).toInt = (rdN rw_ na nb nx (3 * (A 20).toInt).toNat).2 ∧ rdP (rdR B1) (rdN rw_ na nb nx (3 * (A 20).toInt).toNat) ∧ z = A1 36) z u.1 u.2) (fun u T => WB D b u.1 u.2 T.heap) (fun q => b ≤ q)) args s 0 0 (fun q => b ≤ q)) (F0 m 10 ls [])) ?_ ⟨0, 0, A_4, B⟩ ⟨(show (0 : Int32).toInt = 0 from rfl), by dsimp only; exact ⟨(by rw [z_4]; exact kpI.up kpI.rf (by decide)), kpR.rf, by omega, (by rw [z_4]; rfl), fun j hj => absurd hj (Nat.not_lt_zero j)⟩⟩ _ _ w ls (lv_sub hl [0, 1, 2, 3, 4] rfl)
  rintro ⟨v_i, i, I_L10, R_L10⟩ ⟨q_i, inv_10⟩ ih_10 H locs w ls hl
  dsimp only at q_i inv_10 hl w
  have e20 : (I_L10 20).toInt = (A 20).toInt := congrArg Int32.toInt (inv_10.1 20 (by decide))
  have K0 := inv_10.1
  have R0 := inv_10.2.1
  have N0 : (I_L10 36).toInt = (rdN rw_ na nb nx (3 * i + 0).toNat).2 := by rw [Int.add_zero]; exact inv_10.2.2.2.1
  have P0 : rdP (rdR R_L10) (rdN rw_ na nb nx (3 * i + 0).toNat) := by rw [Int.add_zero]; exact inv_10.2.2.2.2
  have hb0 := rdN_bd rw_ na nb nx (3 * i + 0).toNat
  refine lv_iload hx hb dX8_readings_10 (lv_at hl 0 rfl) ?_
  refine lv_aload_n hx hb dX8_readings_12 rfl (lv_at hl 1 rfl) ?_
  refine kg_X8_state X w dX8_readings_13 ?_
  refine q_cPV X w (c_X6_calendarCount l D t b n σ0 I_L10 R_L10 P 0 (by decide)) v_X8_115 (k := 7) rfl rfl rfl ⟨Nat.le_of_ble_eq_true rfl, Nat.le_of_ble_eq_true rfl⟩ rfl hl.1 (Nat.le_of_ble_eq_true rfl) dX8_readings_16 ⟨Nat.le_of_ble_eq_true rfl, Nat.le_of_ble_eq_true rfl⟩ (fun r_16 z_16 => ?_)
  have p_16 : r_16.toInt = (I_L10 20).toInt := congrArg Int32.toInt z_16
  refine lv_icmp_ge (tgt := 98) hx hb dX8_readings_19 (by decide) (fun c_19 => ?_) (fun c_19 => ?_)
  · skip
    have k_19 : ((I_L10 20).toInt) ≤ i := (g_le p_16 q_i).mp c_19
    refine lv_aload_n hx hb dX8_readings_98 rfl (lv_at hl 1 rfl) ?_
    refine kg_X8_found X w dX8_readings_99 ?_
    refine q_cPV X w (c_X5_count l D t b n σ0 I_L10 R_L10 P ) v_X8_284 (k := 36) rfl rfl rfl ⟨Nat.le_of_ble_eq_true rfl, Nat.le_of_ble_eq_true rfl⟩ rfl hl.1 (Nat.le_of_ble_eq_true rfl) dX8_readings_102 ⟨Nat.zero_le _, Nat.zero_le _⟩ (fun r_102 z_102 => ?_)
    exact q_cret (post := (fun z n1 σ1 => n1 = n ∧ ∃ A1 B1, σ1 = cS t b σ0 A1 B1 P ∧ kpI [36] A A1 ∧ kpR [6, 7, 8] B B1 ∧ (A1 36).toInt = (rdN rw_ na nb nx (3 * (A 20).toInt).toNat).2 ∧ rdP (rdR B1) (rdN rw_ na nb nx (3 * (A 20).toInt).toNat) ∧ z = A1 36)) X w dX8_readings_105 (rfl) ⟨rfl, _, _, rfl, by have hi : i = (A 20).toInt := (by omega); subst hi; exact ⟨inv_10.1, inv_10.2.1, inv_10.2.2.2.1, inv_10.2.2.2.2, z_102⟩⟩
  · skip
    have k_19 : ¬ (((I_L10 20).toInt) ≤ i) := fun h => c_19 ((g_le p_16 q_i).mpr h)
    refine lv_aload_n hx hb dX8_readings_22 rfl (lv_at hl 1 rfl) ?_
    refine kg_X8_state X w dX8_readings_23 ?_
    refine lv_iload hx hb dX8_readings_26 (lv_at hl 0 rfl) ?_
    refine kk_cA X w (c_X6_calendarAt l D t b n σ0 I_L10 R_L10 P 0 (by decide) v_i i q_i) v_X8_277 (rc := 7) rfl rfl rfl ⟨Nat.le_of_ble_eq_true rfl, Nat.le_of_ble_eq_true rfl⟩ rfl hl.1 (Nat.le_of_ble_eq_true rfl) dX8_readings_28 ⟨Nat.le_of_ble_eq_true rfl, Nat.le_of_ble_eq_true rfl⟩ (fun H locs w => ?_)
    obtain ⟨q_28, L_28, C_28, K_28, fl_28, fc_28, eq_28, hbc_28, hcp_28⟩ := hQ.2.1 i (by omega) (by show i < (A 20).toInt; omega)
    rw [if_pos (show 0 ≤ i ∧ i < (I_L10 (20 + 2 * 0)).toInt ∧ i < 6 from ⟨by omega, (by show i < (I_L10 20).toInt; omega), by omega⟩), eq_28]
    refine lv_astore (lv' := [(5, .ref (b + q_28)), (4, .int v_i), (0, .ref (b + 0)), (1, .int a_na), (2, .int a_nb), (3, .int a_nx)]) hx hb dX8_readings_31 hl (by decide) rfl (fun ls hl => ?_)
    refine lv_aload hx hb dX8_readings_33 (lv_at hl 0 rfl) ?_
    refine lv_ifnull hx hb dX8_readings_35 ?_
    refine lv_aload_n hx hb dX8_readings_38 rfl (lv_at hl 2 rfl) ?_
    refine kg_X8_found X w dX8_readings_39 ?_
    refine lv_iload hx hb dX8_readings_42 (lv_at hl 1 rfl) ?_
    refine lv_iconst (v := 0) hx hb dX8_readings_44 (by decide) ?_
    refine lv_aload hx hb dX8_readings_45 (lv_at hl 0 rfl) ?_
    refine lv_iload_n hx hb dX8_readings_47 rfl (lv_at hl 5 rfl) ?_
    refine lv_iload_n hx hb dX8_readings_48 rfl (lv_at hl 4 rfl) ?_
    refine lv_iload_n hx hb dX8_readings_49 rfl (lv_at hl 3 rfl) ?_
    have hc_50 := hcp_28.cS (A := I_L10) (B := R_L10) (P := P) hbc_28
    refine q_cPV X w (c_X0_dayOfDate l D t b n _ q_28 L_28 C_28 K_28 fl_28 fc_28 _ hc_50 a_nx a_nb a_na nx nb na e_nx e_nb e_na) v_X8_183 (k := q_28) hc_50.1 rfl rfl ⟨Nat.le_of_ble_eq_true rfl, Nat.le_of_ble_eq_true rfl⟩ rfl hl.1 (Nat.le_of_ble_eq_true rfl) dX8_readings_50 ⟨Nat.le_of_ble_eq_true rfl, Nat.le_of_ble_eq_true rfl⟩ (fun r_50 z_50 => ?_)
    refine kk_cVIR X w (c_X5_addIfDay l D t b n σ0 I_L10 R_L10 P ((rdN rw_ na nb nx (3 * i + 0).toNat).1) v_i 0 r_50 i 0 (dod (rw_ i) nx nb na) q_i (show (0 : Int32).toInt = 0 from rfl) z_50 (by omega) (by have y := P0; rw [show (I_L10 36).toInt.toNat = (rdN rw_ na nb nx (3 * i + 0).toNat).2 by omega]; exact y)) v_X8_280 rfl rfl rfl ⟨Nat.le_of_ble_eq_true rfl, Nat.le_of_ble_eq_true rfl⟩ rfl hl.1 (Nat.le_of_ble_eq_true rfl) dX8_readings_53 ⟨Nat.zero_le _, Nat.zero_le _⟩ (fun A_53 B_53 H locs z_53 w => ?_)
    obtain ⟨K1, R1, N1, P1⟩ := rd_add (a := na) (b := nb) (c := nx) (ca := i) (o := 0) K0 R0 N0 (by omega) (by decide) (by first | rfl | simp [rY, rM, rD]) P0 z_53
    have hb1 := rdN_bd rw_ na nb nx (3 * i + (0 + 1)).toNat
    refine lv_aload_n hx hb dX8_readings_56 rfl (lv_at hl 2 rfl) ?_
    refine kg_X8_found X w dX8_readings_57 ?_
    refine lv_iload hx hb dX8_readings_60 (lv_at hl 1 rfl) ?_
    refine lv_iconst (v := 1) hx hb dX8_readings_62 (by decide) ?_
    refine lv_aload hx hb dX8_readings_63 (lv_at hl 0 rfl) ?_
    refine lv_iload_n hx hb dX8_readings_65 rfl (lv_at hl 5 rfl) ?_
    refine lv_iload_n hx hb dX8_readings_66 rfl (lv_at hl 3 rfl) ?_
    refine lv_iload_n hx hb dX8_readings_67 rfl (lv_at hl 4 rfl) ?_
    have hc_68 := hcp_28.cS (A := A_53) (B := B_53) (P := P) hbc_28
    refine q_cPV X w (c_X0_dayOfDate l D t b n _ q_28 L_28 C_28 K_28 fl_28 fc_28 _ hc_68 a_nx a_na a_nb nx na nb e_nx e_na e_nb) v_X8_183 (k := q_28) hc_68.1 rfl rfl ⟨Nat.le_of_ble_eq_true rfl, Nat.le_of_ble_eq_true rfl⟩ rfl hl.1 (Nat.le_of_ble_eq_true rfl) dX8_readings_68 ⟨Nat.le_of_ble_eq_true rfl, Nat.le_of_ble_eq_true rfl⟩ (fun r_68 z_68 => ?_)
    refine kk_cVIR X w (c_X5_addIfDay l D t b n σ0 A_53 B_53 P ((rdN rw_ na nb nx (3 * i + (0 + 1)).toNat).1) v_i 1 r_68 i 1 (dod (rw_ i) nx na nb) q_i (show (1 : Int32).toInt = 1 from rfl) z_68 (by omega) (by have y := P1; rw [show (A_53 36).toInt.toNat = (rdN rw_ na nb nx (3 * i + (0 + 1)).toNat).2 by omega]; exact y)) v_X8_280 rfl rfl rfl ⟨Nat.le_of_ble_eq_true rfl, Nat.le_of_ble_eq_true rfl⟩ rfl hl.1 (Nat.le_of_ble_eq_true rfl) dX8_readings_71 ⟨Nat.zero_le _, Nat.zero_le _⟩ (fun A_71 B_71 H locs z_71 w => ?_)
    obtain ⟨K2, R2, N2, P2⟩ := rd_add (a := na) (b := nb) (c := nx) (ca := i) (o := 1) K1 R1 N1 (by omega) (by decide) (by first | rfl | simp [rY, rM, rD]) P1 z_71
    have hb2 := rdN_bd rw_ na nb nx (3 * i + (1 + 1)).toNat
    refine lv_aload_n hx hb dX8_readings_74 rfl (lv_at hl 2 rfl) ?_
    refine kg_X8_found X w dX8_readings_75 ?_
    refine lv_iload hx hb dX8_readings_78 (lv_at hl 1 rfl) ?_
    refine lv_iconst (v := 2) hx hb dX8_readings_80 (by decide) ?_
    refine lv_aload hx hb dX8_readings_81 (lv_at hl 0 rfl) ?_
    refine lv_iload_n hx hb dX8_readings_83 rfl (lv_at hl 3 rfl) ?_
    refine lv_iload_n hx hb dX8_readings_84 rfl (lv_at hl 4 rfl) ?_
    refine lv_iload_n hx hb dX8_readings_85 rfl (lv_at hl 5 rfl) ?_
    have hc_86 := hcp_28.cS (A := A_71) (B := B_71) (P := P) hbc_28
    refine q_cPV X w (c_X0_dayOfDate l D t b n _ q_28 L_28 C_28 K_28 fl_28 fc_28 _ hc_86 a_na a_nb a_nx na nb nx e_na e_nb e_nx) v_X8_183 (k := q_28) hc_86.1 rfl rfl ⟨Nat.le_of_ble_eq_true rfl, Nat.le_of_ble_eq_true rfl⟩ rfl hl.1 (Nat.le_of_ble_eq_true rfl) dX8_readings_86 ⟨Nat.le_of_ble_eq_true rfl, Nat.le_of_ble_eq_true rfl⟩ (fun r_86 z_86 => ?_)
    refine kk_cVIR X w (c_X5_addIfDay l D t b n σ0 A_71 B_71 P ((rdN rw_ na nb nx (3 * i + (1 + 1)).toNat).1) v_i 2 r_86 i 2 (dod (rw_ i) na nb nx) q_i (show (2 : Int32).toInt = 2 from rfl) z_86 (by omega) (by have y := P2; rw [show (A_71 36).toInt.toNat = (rdN rw_ na nb nx (3 * i + (1 + 1)).toNat).2 by omega]; exact y)) v_X8_280 rfl rfl rfl ⟨Nat.le_of_ble_eq_true rfl, Nat.le_of_ble_eq_true rfl⟩ rfl hl.1 (Nat.le_of_ble_eq_true rfl) dX8_readings_89 ⟨Nat.zero_le _, Nat.zero_le _⟩ (fun A_89 B_89 H locs z_89 w => ?_)
    obtain ⟨K3, R3, N3, P3⟩ := rd_add (a := na) (b := nb) (c := nx) (ca := i) (o := 2) K2 R2 N2 (by omega) (by decide) (by first | rfl | simp [rY, rM, rD]) P2 z_89
    obtain ⟨x_92, e_92⟩ : ∃ z : Int32, z = (v_i + 1) := ⟨_, rfl⟩
    have p_92 : x_92.toInt = (i + 1) := by rw [e_92]; exact t_add q_i (show (1 : Int32).toInt = 1 from rfl) (by omega) (by omega)
    refine lv_iinc (v := x_92) (lv' := [(4, .int x_92), (5, .ref (b + q_28)), (0, .ref (b + 0)), (1, .int a_na), (2, .int a_nb), (3, .int a_nx)]) hx hb dX8_readings_92 hl (k := 1) rfl (by rw [e_92]; rfl) (by decide) rfl (fun ls hl => ?_)
    refine lv_goto (tgt := 10) hx hb dX8_readings_95 (by decide) ?_
    refine ih_10 ⟨x_92, (i + 1), A_89, B_89⟩ ⟨p_92, by dsimp only; exact ⟨K3, R3, by omega, (by rw [show 3 * (i + 1) = 3 * i + (2 + 1) by omega]; exact N3), (by rw [show 3 * (i + 1) = 3 * i + (2 + 1) by omega]; exact P3)⟩⟩ (by dsimp only; omega) _ _ w ls (lv_sub hl [0, 2, 3, 4, 5] rfl)
