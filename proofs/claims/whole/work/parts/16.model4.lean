set_option maxHeartbeats 4000000 in
set_option maxRecDepth 100000 in
theorem c_X9_thrown (l : Launch) (D : va_G) (t : Nat → ClassId) (b n : Nat) (σ0 : qM) (I : Nat → Int32) (Rw : Nat → Nat → Int32) : qP l yX9_thrown cX9_thrown 1 (some .int) 0 D t b n (mS t b σ0 I Rw) [.ref (b + 45)] (fun z => z = I 0) := by
  refine qP.of (by decide +kernel) (Nat.le_of_ble_eq_true rfl) (fun p e s m args below meth c X w ls hl => ?_)
  have hx := X.1
  have hb := X.2.1
  have hl : lv_has ls 1 [(0, .ref (b + 45))] := hl
  refine lv_aload_n hx hb dX9_thrown_0 rfl (lv_at hl 0 rfl) ?_
  refine mg_thrown X w dX9_thrown_1 ?_
  exact q_pret X w dX9_thrown_4 (by rfl)

set_option maxHeartbeats 4000000 in
set_option maxRecDepth 100000 in
theorem c_X9_fails (l : Launch) (D : va_G) (t : Nat → ClassId) (b n : Nat) (σ0 : qM) (I : Nat → Int32) (Rw : Nat → Nat → Int32) (a_cd : Int32) (cd : Int) (e_cd : a_cd.toInt = cd) : mC l yX9_fails cX9_fails 2 (some .int) 0 D t b n σ0 I Rw [.ref (b + 45), .int a_cd] (fun z I1 R1 => R1 = Rw ∧ kpI [0] I I1 ∧ (I1 0).toInt = cd ∧ z.toInt = 0) := by
  refine qC.of (by decide +kernel) (Nat.le_of_ble_eq_true rfl) (fun p e s m args below meth c X w ls hl => ?_)
  have hx := X.1
  have hb := X.2.1
  have hl : lv_has ls 2 [(0, .ref (b + 45)), (1, .int a_cd)] := hl
  refine lv_aload_n hx hb dX9_fails_0 rfl (lv_at hl 0 rfl) ?_
  refine lv_iload_n hx hb dX9_fails_1 rfl (lv_at hl 1 rfl) ?_
  refine mp_thrown (v := a_cd) X w dX9_fails_2 (fun H locs w => ?_)
  refine lv_iconst (v := 0) hx hb dX9_fails_5 (by decide) ?_
  exact q_cret (post := (fun z n1 σ1 => n1 = n ∧ ∃ I1 R1, σ1 = mS t b σ0 I1 R1 ∧ R1 = Rw ∧ kpI [0] I I1 ∧ (I1 0).toInt = cd ∧ z.toInt = 0)) X w dX9_fails_6 (rfl) ⟨rfl, _, _, rfl, rfl, by exact ⟨kpI.rf.up (by decide), e_cd, rfl⟩⟩

set_option maxHeartbeats 4000000 in
set_option maxRecDepth 100000 in
theorem c_X9_told (l : Launch) (D : va_G) (t : Nat → ClassId) (b n : Nat) (σ0 : qM) (I : Nat → Int32) (Rw : Nat → Nat → Int32) (a_dy : Int32) (dy : Int) (e_dy : a_dy.toInt = dy) : mC l yX9_told cX9_told 2 (some .int) 0 D t b n σ0 I Rw [.ref (b + 45), .int a_dy] (fun z I1 R1 => R1 = Rw ∧ kpI [0] I I1 ∧ (I1 0).toInt = (if dy = -2147483647 then 3 else 0) ∧ (dy ≠ -2147483647 → z.toInt = dy)) := by
  refine qC.of (by decide +kernel) (Nat.le_of_ble_eq_true rfl) (fun p e s m args below meth c X w ls hl => ?_)
  have hx := X.1
  have hb := X.2.1
  have hl : lv_has ls 2 [(0, .ref (b + 45)), (1, .int a_dy)] := hl
  refine lv_aload_n hx hb dX9_told_0 rfl (lv_at hl 0 rfl) ?_
  refine lv_iload_n hx hb dX9_told_1 rfl (lv_at hl 1 rfl) ?_
  refine lv_ldcw hx hb X.2.2.2.1 (X.2.2.1 _ kc_X9_259) dX9_told_2 ?_
  refine lv_icmp_ne (tgt := 12) hx hb dX9_told_5 (by decide) (fun c_5 => ?_) (fun c_5 => ?_)
  · skip
    have k_5 : ¬ (dy = (-2147483647)) := fun h => c_5 ((g_eq e_dy (show ((-2147483647) : Int32).toInt = (-2147483647) from rfl)).mpr h)
    refine lv_iconst (v := 0) hx hb dX9_told_12 (by decide) ?_
    refine mp_thrown (v := 0) X w dX9_told_13 (fun H locs w => ?_)
    refine lv_aload_n hx hb dX9_told_16 rfl (lv_at hl 0 rfl) ?_
    refine mg_thrown X w dX9_told_17 ?_
    refine q_topE (y := 0) rfl ?_
    refine lv_if_le (tgt := 27) hx hb dX9_told_20 (by decide) (fun c_20 => ?_) (fun c_20 => ?_)
    · skip
      have k_20 : (0 : Int) ≤ 0 := (g_le (show (0 : Int32).toInt = 0 from rfl) (show (0 : Int32).toInt = 0 from rfl)).mp c_20
      refine lv_iload_n hx hb dX9_told_27 rfl (lv_at hl 1 rfl) ?_
      exact q_cret (post := (fun z n1 σ1 => n1 = n ∧ ∃ I1 R1, σ1 = mS t b σ0 I1 R1 ∧ R1 = Rw ∧ kpI [0] I I1 ∧ (I1 0).toInt = (if dy = -2147483647 then 3 else 0) ∧ (dy ≠ -2147483647 → z.toInt = dy))) X w dX9_told_28 (rfl) ⟨rfl, _, _, rfl, rfl, by first | (exfalso; omega) | exact ⟨kpI.rf.up (by decide), (by rw [if_neg k_5]; rfl), fun _ => e_dy⟩⟩
    · skip
      have k_20 : ¬ ((0 : Int) ≤ 0) := fun h => c_20 ((g_le (show (0 : Int32).toInt = 0 from rfl) (show (0 : Int32).toInt = 0 from rfl)).mpr h)
      refine lv_iconst (v := 0) hx hb dX9_told_23 (by decide) ?_
      refine lv_goto (tgt := 28) hx hb dX9_told_24 (by decide) ?_
      exact q_cret (post := (fun z n1 σ1 => n1 = n ∧ ∃ I1 R1, σ1 = mS t b σ0 I1 R1 ∧ R1 = Rw ∧ kpI [0] I I1 ∧ (I1 0).toInt = (if dy = -2147483647 then 3 else 0) ∧ (dy ≠ -2147483647 → z.toInt = dy))) X w dX9_told_28 (rfl) ⟨rfl, _, _, rfl, rfl, by first | (exfalso; omega) | exact ⟨kpI.rf.up (by decide), (by rw [if_neg k_5]; rfl), fun _ => e_dy⟩⟩
  · skip
    have k_5 : dy = (-2147483647) := (g_eq e_dy (show ((-2147483647) : Int32).toInt = (-2147483647) from rfl)).mp c_5
    refine lv_iconst (v := 3) hx hb dX9_told_8 (by decide) ?_
    refine lv_goto (tgt := 13) hx hb dX9_told_9 (by decide) ?_
    refine mp_thrown (v := 3) X w dX9_told_13 (fun H locs w => ?_)
    refine lv_aload_n hx hb dX9_told_16 rfl (lv_at hl 0 rfl) ?_
    refine mg_thrown X w dX9_told_17 ?_
    refine q_topE (y := 3) rfl ?_
    refine lv_if_le (tgt := 27) hx hb dX9_told_20 (by decide) (fun c_20 => ?_) (fun c_20 => ?_)
    · skip
      have k_20 : (3 : Int) ≤ 0 := (g_le (show (3 : Int32).toInt = 3 from rfl) (show (0 : Int32).toInt = 0 from rfl)).mp c_20
      refine lv_iload_n hx hb dX9_told_27 rfl (lv_at hl 1 rfl) ?_
      exact q_cret (post := (fun z n1 σ1 => n1 = n ∧ ∃ I1 R1, σ1 = mS t b σ0 I1 R1 ∧ R1 = Rw ∧ kpI [0] I I1 ∧ (I1 0).toInt = (if dy = -2147483647 then 3 else 0) ∧ (dy ≠ -2147483647 → z.toInt = dy))) X w dX9_told_28 (rfl) ⟨rfl, _, _, rfl, rfl, by first | (exfalso; omega) | exact ⟨kpI.rf.up (by decide), (by rw [if_pos k_5]; rfl), fun q => absurd k_5 q⟩⟩
    · skip
      have k_20 : ¬ ((3 : Int) ≤ 0) := fun h => c_20 ((g_le (show (3 : Int32).toInt = 3 from rfl) (show (0 : Int32).toInt = 0 from rfl)).mpr h)
      refine lv_iconst (v := 0) hx hb dX9_told_23 (by decide) ?_
      refine lv_goto (tgt := 28) hx hb dX9_told_24 (by decide) ?_
      exact q_cret (post := (fun z n1 σ1 => n1 = n ∧ ∃ I1 R1, σ1 = mS t b σ0 I1 R1 ∧ R1 = Rw ∧ kpI [0] I I1 ∧ (I1 0).toInt = (if dy = -2147483647 then 3 else 0) ∧ (dy ≠ -2147483647 → z.toInt = dy))) X w dX9_told_28 (rfl) ⟨rfl, _, _, rfl, rfl, by first | (exfalso; omega) | exact ⟨kpI.rf.up (by decide), (by rw [if_pos k_5]; rfl), fun q => absurd k_5 q⟩⟩

set_option maxHeartbeats 4000000 in
set_option maxRecDepth 100000 in
theorem c_X9_findDate (l : Launch) (D : va_G) (t : Nat → ClassId) (b n : Nat) (σ0 : qM) (I : Nat → Int32) (Rw : Nat → Nat → Int32) (a_ca : Int32) (a_dy : Int32) (ca : Int) (dy : Int) (e_ca : a_ca.toInt = ca) (e_dy : a_dy.toInt = dy) (h_1 : 0 ≤ ca ∧ ca < 6) (h_2 : okRow (rowM Rw ca)) (h_3 : okF Rw ca) (h_4 : fst (rowM Rw ca) (-2000) ≤ dy ∧ dy < fst (rowM Rw ca) 2001) : mV l yX9_findDate cX9_findDate 3 5 D t b n σ0 I Rw [.ref (b + 45), .int a_ca, .int a_dy] (fun I1 R1 => R1 = Rw ∧ kpI [6, 7, 8] I I1 ∧ (I1 6).toInt = yof (rowM Rw ca) dy ∧ (I1 7).toInt = mof (rowM Rw ca) dy ∧ (I1 8).toInt = dof (rowM Rw ca) dy) := by
  refine qV.of (by decide +kernel) (Nat.le_of_ble_eq_true rfl) (fun p e s m args below meth c X w _ ls hl => ?_)
  have hx := X.1
  have hb := X.2.1
  have hl : lv_has ls 3 [(0, .ref (b + 45)), (1, .int a_ca), (2, .int a_dy)] := hl
  have hy := yof_in h_2 h_4.1 h_4.2
  have hb1 := fst_bd h_2 (y := yof (rowM Rw ca) dy) (by omega) (by omega)
  have hb2 := fst_bd h_2 (y := yof (rowM Rw ca) dy + 1) (by omega) (by omega)
  have hc := mcnt_bd h_2 (yof (rowM Rw ca) dy)
  refine lv_aload_n hx hb dX9_findDate_0 rfl (lv_at hl 0 rfl) ?_
  refine lv_aload_n hx hb dX9_findDate_1 rfl (lv_at hl 0 rfl) ?_
  refine lv_iload_n hx hb dX9_findDate_2 rfl (lv_at hl 1 rfl) ?_
  refine lv_iload_n hx hb dX9_findDate_3 rfl (lv_at hl 2 rfl) ?_
  refine q_cPV X w (c_X9_yearOf l D t b n σ0 I Rw a_ca a_dy ca dy e_ca e_dy (by first | assumption | omega) (by first | assumption | omega) (by first | assumption | omega)) v_X9_124 (k := 45) rfl rfl rfl ⟨Nat.le_of_ble_eq_true rfl, Nat.le_of_ble_eq_true rfl⟩ rfl hl.1 (Nat.le_of_ble_eq_true rfl) dX9_findDate_4 ⟨Nat.zero_le _, Nat.zero_le _⟩ (fun r_4 z_4 => ?_)
  refine mp_year (v := r_4) X w dX9_findDate_7 (fun H locs w => ?_)
  refine lv_aload_n hx hb dX9_findDate_10 rfl (lv_at hl 0 rfl) ?_
  refine lv_iconst (v := 1) hx hb dX9_findDate_11 (by decide) ?_
  refine mp_month (v := 1) X w dX9_findDate_12 (fun H locs w => ?_)
  refine lv_aload_n hx hb dX9_findDate_15 rfl (lv_at hl 0 rfl) ?_
  refine lv_iload_n hx hb dX9_findDate_16 rfl (lv_at hl 2 rfl) ?_
  refine lv_aload_n hx hb dX9_findDate_17 rfl (lv_at hl 0 rfl) ?_
  refine lv_iload_n hx hb dX9_findDate_18 rfl (lv_at hl 1 rfl) ?_
  refine lv_aload_n hx hb dX9_findDate_19 rfl (lv_at hl 0 rfl) ?_
  refine mg_year X w dX9_findDate_20 ?_
  refine q_topE (y := r_4) rfl ?_
  refine q_cPV X w (c_X9_first l D t b n σ0 (va_up (va_up I 6 r_4) 7 1) Rw a_ca r_4 ca (yof (rowM Rw ca) dy) e_ca z_4 (by first | assumption | omega) (by first | assumption | omega) (by first | assumption | omega)) v_X9_101 (k := 45) rfl rfl rfl ⟨Nat.le_of_ble_eq_true rfl, Nat.le_of_ble_eq_true rfl⟩ rfl hl.1 (Nat.le_of_ble_eq_true rfl) dX9_findDate_23 ⟨Nat.zero_le _, Nat.zero_le _⟩ (fun r_23 z_23 => ?_)
  refine lv_isub hx hb dX9_findDate_26 ?_
  refine lv_topi (fun x_26 e_26 => ?_)
  have p_26 : x_26.toInt = (dy - (fst (rowM Rw ca) (yof (rowM Rw ca) dy))) := by rw [e_26]; exact t_sub e_dy z_23 (by omega) (by omega)
  refine lv_iconst (v := 1) hx hb dX9_findDate_27 (by decide) ?_
  refine lv_iadd hx hb dX9_findDate_28 ?_
  refine lv_topi (fun x_28 e_28 => ?_)
  have p_28 : x_28.toInt = ((dy - (fst (rowM Rw ca) (yof (rowM Rw ca) dy))) + 1) := by rw [e_28]; exact t_add p_26 (show (1 : Int32).toInt = 1 from rfl) (by omega) (by omega)
  refine mp_dayOfMonth (v := x_28) X w dX9_findDate_29 (fun H locs w => ?_)
  refine q_loop (α := Int × (Nat → Int32)) (fun a => (kpI [6,7,8] I a.2 ∧ (a.2 6).toInt = yof (rowM Rw ca) dy ∧ (a.2 7).toInt = a.1 ∧ (a.2 8).toInt = dy - fst (rowM Rw ca) (yof (rowM Rw ca) dy) + 1 - msum (rowM Rw ca) (yof (rowM Rw ca) dy) (a.1 - 1).toNat ∧ 1 ≤ a.1 ∧ a.1 ≤ mcnt (rowM Rw ca) (yof (rowM Rw ca) dy) ∧ 1 ≤ dy - fst (rowM Rw ca) (yof (rowM Rw ca) dy) + 1 - msum (rowM Rw ca) (yof (rowM Rw ca) dy) (a.1 - 1).toNat)) (fun a => (20 - a.1).toNat) (fun a => ∀ (H : Heap) (locs : List Loc), qW D b n (mS t b σ0 a.2 Rw) s H locs → ∀ ls : Array Slot, lv_has ls 3 [(0, .ref (b + 45)), (1, .int a_ca), (2, .int a_dy)] → W p l e (qR 5 0 0) s m args below meth c H locs 0 0 (MQ below (va_Qv (S := Nat × qM) (fun u => (fun n1 σ1 => n1 = n ∧ ∃ I1 R1, σ1 = mS t b σ0 I1 R1 ∧ R1 = Rw ∧ kpI [6, 7, 8] I I1 ∧ (I1 6).toInt = yof (rowM Rw ca) dy ∧ (I1 7).toInt = mof (rowM Rw ca) dy ∧ (I1 8).toInt = dof (rowM Rw ca) dy) u.1 u.2) (fun u T => WB D b u.1 u.2 T.heap) (fun q => b ≤ q)) args s 0 0 (fun q => b ≤ q)) (F0 m 32 ls [])) ?_ ⟨1, (va_up (va_up (va_up I 6 r_4) 7 1) 8 x_28)⟩ (by dsimp only; exact ⟨((kpI.rf.up (by decide)).up (by decide)).up (by decide), z_4, rfl, by show x_28.toInt = _; rw [p_28]; show _ = _ - msum _ _ 0; rw [msum]; omega, by omega, by omega, by show 1 ≤ _ - msum _ _ 0; rw [msum]; omega⟩) _ _ w ls (lv_sub hl [0, 1, 2] rfl)
  rintro ⟨m, I_L32⟩ inv_32 ih_32 H locs w ls hl
  dsimp only at inv_32 hl w
  have hms := msum_bd h_2 (y := yof (rowM Rw ca) dy) (m - 1).toNat (by omega)
  refine lv_aload_n hx hb dX9_findDate_32 rfl (lv_at hl 0 rfl) ?_
  refine mg_dayOfMonth X w dX9_findDate_33 ?_
  refine lv_aload_n hx hb dX9_findDate_36 rfl (lv_at hl 0 rfl) ?_
  refine lv_iload_n hx hb dX9_findDate_37 rfl (lv_at hl 1 rfl) ?_
  refine lv_aload_n hx hb dX9_findDate_38 rfl (lv_at hl 0 rfl) ?_
  refine mg_year X w dX9_findDate_39 ?_
  refine lv_aload_n hx hb dX9_findDate_42 rfl (lv_at hl 0 rfl) ?_
  refine mg_month X w dX9_findDate_43 ?_
  refine q_cPV X w (c_X9_lengthOfMonth l D t b n σ0 I_L32 Rw a_ca (I_L32 6) (I_L32 7) ca (yof (rowM Rw ca) dy) m e_ca inv_32.2.1 inv_32.2.2.1 (by first | assumption | omega) (by first | assumption | omega) (by first | assumption | omega)) v_X9_120 (k := 45) rfl rfl rfl ⟨Nat.le_of_ble_eq_true rfl, Nat.le_of_ble_eq_true rfl⟩ rfl hl.1 (Nat.le_of_ble_eq_true rfl) dX9_findDate_46 ⟨Nat.zero_le _, Nat.zero_le _⟩ (fun r_46 z_46 => ?_)
  refine lv_icmp_le (tgt := 87) hx hb dX9_findDate_49 (by decide) (fun c_49 => ?_) (fun c_49 => ?_)
  · skip
    have k_49 : (dy - fst (rowM Rw ca) (yof (rowM Rw ca) dy) + 1 - msum (rowM Rw ca) (yof (rowM Rw ca) dy) (m - 1).toNat) ≤ (mlen (rowM Rw ca) (yof (rowM Rw ca) dy) m) := (g_le inv_32.2.2.2.1 z_46).mp c_49
    exact q_vret (post := (fun n1 σ1 => n1 = n ∧ ∃ I1 R1, σ1 = mS t b σ0 I1 R1 ∧ R1 = Rw ∧ kpI [6, 7, 8] I I1 ∧ (I1 6).toInt = yof (rowM Rw ca) dy ∧ (I1 7).toInt = mof (rowM Rw ca) dy ∧ (I1 8).toInt = dof (rowM Rw ca) dy)) X w dX9_findDate_87 ⟨rfl, _, _, rfl, rfl, by have ms := msum_s (ρ := rowM Rw ca) (y := yof (rowM Rw ca) dy) (m := m) (by omega); rw [show m + 1 - 1 = m by omega] at ms; have e := mofY_eq h_2 (y := yof (rowM Rw ca) dy) (d := dy) (m := m) (by omega) (by omega) (by omega) (by omega); exact ⟨inv_32.1, inv_32.2.1, by rw [inv_32.2.2.1]; exact e.symm, by rw [inv_32.2.2.2.1]; unfold dof mof; rw [e]⟩⟩
  · skip
    have k_49 : ¬ ((dy - fst (rowM Rw ca) (yof (rowM Rw ca) dy) + 1 - msum (rowM Rw ca) (yof (rowM Rw ca) dy) (m - 1).toNat) ≤ (mlen (rowM Rw ca) (yof (rowM Rw ca) dy) m)) := fun h => c_49 ((g_le inv_32.2.2.2.1 z_46).mpr h)
    have hml := mlen_bd h_2 (y := yof (rowM Rw ca) dy) (m := m) (by omega) (by omega)
    refine lv_aload_n hx hb dX9_findDate_52 rfl (lv_at hl 0 rfl) ?_
    refine lv_dup hx hb dX9_findDate_53 rfl ?_
    refine mg_dayOfMonth X w dX9_findDate_54 ?_
    refine lv_aload_n hx hb dX9_findDate_57 rfl (lv_at hl 0 rfl) ?_
    refine lv_iload_n hx hb dX9_findDate_58 rfl (lv_at hl 1 rfl) ?_
    refine lv_aload_n hx hb dX9_findDate_59 rfl (lv_at hl 0 rfl) ?_
    refine mg_year X w dX9_findDate_60 ?_
    refine lv_aload_n hx hb dX9_findDate_63 rfl (lv_at hl 0 rfl) ?_
    refine mg_month X w dX9_findDate_64 ?_
    refine q_cPV X w (c_X9_lengthOfMonth l D t b n σ0 I_L32 Rw a_ca (I_L32 6) (I_L32 7) ca (yof (rowM Rw ca) dy) m e_ca inv_32.2.1 inv_32.2.2.1 (by first | assumption | omega) (by first | assumption | omega) (by first | assumption | omega)) v_X9_120 (k := 45) rfl rfl rfl ⟨Nat.le_of_ble_eq_true rfl, Nat.le_of_ble_eq_true rfl⟩ rfl hl.1 (Nat.le_of_ble_eq_true rfl) dX9_findDate_67 ⟨Nat.zero_le _, Nat.zero_le _⟩ (fun r_67 z_67 => ?_)
    refine lv_isub hx hb dX9_findDate_70 ?_
    refine lv_topi (fun x_70 e_70 => ?_)
    have p_70 : x_70.toInt = ((dy - fst (rowM Rw ca) (yof (rowM Rw ca) dy) + 1 - msum (rowM Rw ca) (yof (rowM Rw ca) dy) (m - 1).toNat) - (mlen (rowM Rw ca) (yof (rowM Rw ca) dy) m)) := by rw [e_70]; exact t_sub inv_32.2.2.2.1 z_67 (by omega) (by omega)
    refine mp_dayOfMonth (v := x_70) X w dX9_findDate_71 (fun H locs w => ?_)
    refine lv_aload_n hx hb dX9_findDate_74 rfl (lv_at hl 0 rfl) ?_
    refine lv_dup hx hb dX9_findDate_75 rfl ?_
    refine mg_month X w dX9_findDate_76 ?_
    refine lv_iconst (v := 1) hx hb dX9_findDate_79 (by decide) ?_
    refine lv_iadd hx hb dX9_findDate_80 ?_
    refine lv_topi (fun x_80 e_80 => ?_)
    have p_80 : x_80.toInt = (m + 1) := by rw [e_80]; exact t_add inv_32.2.2.1 (show (1 : Int32).toInt = 1 from rfl) (by omega) (by omega)
    refine mp_month (v := x_80) X w dX9_findDate_81 (fun H locs w => ?_)
    refine lv_goto (tgt := 32) hx hb dX9_findDate_84 (by decide) ?_
    refine ih_32 ⟨(m + 1), (va_up (va_up I_L32 8 x_70) 7 x_80)⟩ (by dsimp only; have ms := msum_s (ρ := rowM Rw ca) (y := yof (rowM Rw ca) dy) (m := m) (by omega); have hs := fd_step h_2 (y := yof (rowM Rw ca) dy) (d := dy) (m := m) (by omega) (by omega) (by omega) (by omega); exact ⟨(inv_32.1.up (by decide)).up (by decide), inv_32.2.1, p_80, by show x_70.toInt = _; rw [p_70, ms]; omega, by omega, by omega, by rw [ms]; omega⟩) (by dsimp only; omega) _ _ w ls (lv_sub hl [0, 1, 2] rfl)

set_option maxHeartbeats 4000000 in
set_option maxRecDepth 100000 in
theorem c_X9_partOf (l : Launch) (D : va_G) (t : Nat → ClassId) (b n : Nat) (σ0 : qM) (I : Nat → Int32) (Rw : Nat → Nat → Int32) (a_ca : Int32) (a_dy : Int32) (a_part : Int32) (ca : Int) (dy : Int) (part : Int) (e_ca : a_ca.toInt = ca) (e_dy : a_dy.toInt = dy) (e_part : a_part.toInt = part) (h_1 : 0 ≤ ca ∧ ca < 6) (h_2 : okRow (rowM Rw ca)) (h_3 : okF Rw ca) (h_4 : fst (rowM Rw ca) (-2000) ≤ dy ∧ dy < fst (rowM Rw ca) 2001) (h_5 : 0 ≤ part ∧ part ≤ 4) : mC l yX9_partOf cX9_partOf 4 (some .int) 6 D t b n σ0 I Rw [.ref (b + 45), .int a_ca, .int a_dy, .int a_part] (fun z I1 R1 => R1 = Rw ∧ kpI [6, 7, 8] I I1 ∧ (I1 6).toInt = yof (rowM Rw ca) dy ∧ (I1 7).toInt = mof (rowM Rw ca) dy ∧ (I1 8).toInt = dof (rowM Rw ca) dy ∧ z.toInt = pof (rowM Rw ca) dy part) := by
  refine qC.of (by decide +kernel) (Nat.le_of_ble_eq_true rfl) (fun p e s m args below meth c X w ls hl => ?_)
  have hx := X.1
  have hb := X.2.1
  have hl : lv_has ls 4 [(0, .ref (b + 45)), (1, .int a_ca), (2, .int a_dy), (3, .int a_part)] := hl
  have hy := yof_in h_2 h_4.1 h_4.2
  have hb1 := fst_bd h_2 (y := yof (rowM Rw ca) dy) (by omega) (by omega)
  have hb2 := fst_bd h_2 (y := yof (rowM Rw ca) dy + 1) (by omega) (by omega)
  have hb3 := fst_bd h_2 (y := -2000) (by omega) (by omega)
  have hb4 := fst_bd h_2 (y := 2001) (by omega) (by omega)
  refine lv_aload_n hx hb dX9_partOf_0 rfl (lv_at hl 0 rfl) ?_
  refine lv_iload_n hx hb dX9_partOf_1 rfl (lv_at hl 1 rfl) ?_
  refine lv_iload_n hx hb dX9_partOf_2 rfl (lv_at hl 2 rfl) ?_
  refine mm_cVI X w (c_X9_findDate l D t b n σ0 I Rw a_ca a_dy ca dy e_ca e_dy (by first | assumption | omega) (by first | assumption | omega) (by first | assumption | omega) (by first | assumption | omega)) v_X9_136 rfl rfl ⟨Nat.le_of_ble_eq_true rfl, Nat.le_of_ble_eq_true rfl⟩ rfl hl.1 (Nat.le_of_ble_eq_true rfl) dX9_partOf_3 ⟨Nat.zero_le _, Nat.zero_le _⟩ (fun I_3 H locs z_3 w => ?_)
  refine lv_iload_n hx hb dX9_partOf_6 rfl (lv_at hl 3 rfl) ?_
  by_cases s_0 : part = 0
  · refine lv_tableIn (tgt := 36) hx hb dX9_partOf_7 (by rw [e_part, s_0]; decide) (by rw [e_part, s_0]; decide) (by rw [e_part, s_0]; rfl) (by decide) ?_
    refine lv_aload_n hx hb dX9_partOf_36 rfl (lv_at hl 0 rfl) ?_
    refine mg_year X w dX9_partOf_37 ?_
    exact q_cret (post := (fun z n1 σ1 => n1 = n ∧ ∃ I1 R1, σ1 = mS t b σ0 I1 R1 ∧ R1 = Rw ∧ kpI [6, 7, 8] I I1 ∧ (I1 6).toInt = yof (rowM Rw ca) dy ∧ (I1 7).toInt = mof (rowM Rw ca) dy ∧ (I1 8).toInt = dof (rowM Rw ca) dy ∧ z.toInt = pof (rowM Rw ca) dy part)) X w dX9_partOf_40 (rfl) ⟨rfl, _, _, rfl, rfl, by exact ⟨z_3.1, z_3.2.1, z_3.2.2.1, z_3.2.2.2, by unfold pof; rw [if_pos s_0]; exact z_3.2.1⟩⟩
  by_cases s_1 : part = 1
  · refine lv_tableIn (tgt := 41) hx hb dX9_partOf_7 (by rw [e_part, s_1]; decide) (by rw [e_part, s_1]; decide) (by rw [e_part, s_1]; rfl) (by decide) ?_
    refine lv_aload_n hx hb dX9_partOf_41 rfl (lv_at hl 0 rfl) ?_
    refine mg_month X w dX9_partOf_42 ?_
    exact q_cret (post := (fun z n1 σ1 => n1 = n ∧ ∃ I1 R1, σ1 = mS t b σ0 I1 R1 ∧ R1 = Rw ∧ kpI [6, 7, 8] I I1 ∧ (I1 6).toInt = yof (rowM Rw ca) dy ∧ (I1 7).toInt = mof (rowM Rw ca) dy ∧ (I1 8).toInt = dof (rowM Rw ca) dy ∧ z.toInt = pof (rowM Rw ca) dy part)) X w dX9_partOf_45 (rfl) ⟨rfl, _, _, rfl, rfl, by exact ⟨z_3.1, z_3.2.1, z_3.2.2.1, z_3.2.2.2, by unfold pof; rw [if_neg s_0, if_pos s_1]; exact z_3.2.2.1⟩⟩
  by_cases s_2 : part = 2
  · refine lv_tableIn (tgt := 46) hx hb dX9_partOf_7 (by rw [e_part, s_2]; decide) (by rw [e_part, s_2]; decide) (by rw [e_part, s_2]; rfl) (by decide) ?_
    refine lv_aload_n hx hb dX9_partOf_46 rfl (lv_at hl 0 rfl) ?_
    refine mg_dayOfMonth X w dX9_partOf_47 ?_
    exact q_cret (post := (fun z n1 σ1 => n1 = n ∧ ∃ I1 R1, σ1 = mS t b σ0 I1 R1 ∧ R1 = Rw ∧ kpI [6, 7, 8] I I1 ∧ (I1 6).toInt = yof (rowM Rw ca) dy ∧ (I1 7).toInt = mof (rowM Rw ca) dy ∧ (I1 8).toInt = dof (rowM Rw ca) dy ∧ z.toInt = pof (rowM Rw ca) dy part)) X w dX9_partOf_50 (rfl) ⟨rfl, _, _, rfl, rfl, by exact ⟨z_3.1, z_3.2.1, z_3.2.2.1, z_3.2.2.2, by unfold pof; rw [if_neg s_0, if_neg s_1, if_pos s_2]; exact z_3.2.2.2⟩⟩
  by_cases s_3 : part = 3
  · refine lv_tableIn (tgt := 51) hx hb dX9_partOf_7 (by rw [e_part, s_3]; decide) (by rw [e_part, s_3]; decide) (by rw [e_part, s_3]; rfl) (by decide) ?_
    refine lv_iload_n hx hb dX9_partOf_51 rfl (lv_at hl 2 rfl) ?_
    refine lv_aload_n hx hb dX9_partOf_52 rfl (lv_at hl 0 rfl) ?_
    refine lv_iload_n hx hb dX9_partOf_53 rfl (lv_at hl 1 rfl) ?_
    refine lv_aload_n hx hb dX9_partOf_54 rfl (lv_at hl 0 rfl) ?_
    refine mg_year X w dX9_partOf_55 ?_
    refine q_cPV X w (c_X9_first l D t b n σ0 I_3 Rw a_ca (I_3 6) ca (yof (rowM Rw ca) dy) e_ca z_3.2.1 (by first | assumption | omega) (by first | assumption | omega) (by first | assumption | omega)) v_X9_101 (k := 45) rfl rfl rfl ⟨Nat.le_of_ble_eq_true rfl, Nat.le_of_ble_eq_true rfl⟩ rfl hl.1 (Nat.le_of_ble_eq_true rfl) dX9_partOf_58 ⟨Nat.zero_le _, Nat.zero_le _⟩ (fun r_58 z_58 => ?_)
    refine lv_isub hx hb dX9_partOf_61 ?_
    refine lv_topi (fun x_61 e_61 => ?_)
    have p_61 : x_61.toInt = (dy - (fst (rowM Rw ca) (yof (rowM Rw ca) dy))) := by rw [e_61]; exact t_sub e_dy z_58 (by omega) (by omega)
    refine lv_iconst (v := 1) hx hb dX9_partOf_62 (by decide) ?_
    refine lv_iadd hx hb dX9_partOf_63 ?_
    refine lv_topi (fun x_63 e_63 => ?_)
    have p_63 : x_63.toInt = ((dy - (fst (rowM Rw ca) (yof (rowM Rw ca) dy))) + 1) := by rw [e_63]; exact t_add p_61 (show (1 : Int32).toInt = 1 from rfl) (by omega) (by omega)
    exact q_cret (post := (fun z n1 σ1 => n1 = n ∧ ∃ I1 R1, σ1 = mS t b σ0 I1 R1 ∧ R1 = Rw ∧ kpI [6, 7, 8] I I1 ∧ (I1 6).toInt = yof (rowM Rw ca) dy ∧ (I1 7).toInt = mof (rowM Rw ca) dy ∧ (I1 8).toInt = dof (rowM Rw ca) dy ∧ z.toInt = pof (rowM Rw ca) dy part)) X w dX9_partOf_64 (rfl) ⟨rfl, _, _, rfl, rfl, by exact ⟨z_3.1, z_3.2.1, z_3.2.2.1, z_3.2.2.2, by unfold pof; rw [if_neg s_0, if_neg s_1, if_neg s_2, if_pos s_3]; exact p_63⟩⟩
  refine lv_tableOut (tgt := 65) hx hb dX9_partOf_7 (by rw [e_part]; omega) (by decide) ?_
  refine lv_aload_n hx hb dX9_partOf_65 rfl (lv_at hl 0 rfl) ?_
  refine lv_iload_n hx hb dX9_partOf_66 rfl (lv_at hl 1 rfl) ?_
  refine lv_iload_n hx hb dX9_partOf_67 rfl (lv_at hl 2 rfl) ?_
  refine q_cPV X w (c_X9_weekday l D t b n σ0 I_3 Rw a_ca a_dy ca dy e_ca e_dy (by first | assumption | omega) (by first | assumption | omega) (by first | assumption | omega)) v_X9_140 (k := 45) rfl rfl rfl ⟨Nat.le_of_ble_eq_true rfl, Nat.le_of_ble_eq_true rfl⟩ rfl hl.1 (Nat.le_of_ble_eq_true rfl) dX9_partOf_68 ⟨Nat.zero_le _, Nat.zero_le _⟩ (fun r_68 z_68 => ?_)
  exact q_cret (post := (fun z n1 σ1 => n1 = n ∧ ∃ I1 R1, σ1 = mS t b σ0 I1 R1 ∧ R1 = Rw ∧ kpI [6, 7, 8] I I1 ∧ (I1 6).toInt = yof (rowM Rw ca) dy ∧ (I1 7).toInt = mof (rowM Rw ca) dy ∧ (I1 8).toInt = dof (rowM Rw ca) dy ∧ z.toInt = pof (rowM Rw ca) dy part)) X w dX9_partOf_71 (rfl) ⟨rfl, _, _, rfl, rfl, by exact ⟨z_3.1, z_3.2.1, z_3.2.2.1, z_3.2.2.2, by unfold pof; rw [if_neg s_0, if_neg s_1, if_neg s_2, if_neg s_3]; exact z_68⟩⟩

set_option maxHeartbeats 4000000 in
set_option maxRecDepth 100000 in
theorem c_X9_yearsLater (l : Launch) (D : va_G) (t : Nat → ClassId) (b n : Nat) (σ0 : qM) (I : Nat → Int32) (Rw : Nat → Nat → Int32) (a_ca : Int32) (a_dy : Int32) (a_n_ : Int32) (ca : Int) (dy : Int) (n_ : Int) (e_ca : a_ca.toInt = ca) (e_dy : a_dy.toInt = dy) (e_n_ : a_n_.toInt = n_) (h_1 : 0 ≤ ca ∧ ca < 6) (h_2 : okRow (rowM Rw ca)) (h_3 : okF Rw ca) (h_4 : fst (rowM Rw ca) (-2000) ≤ dy ∧ dy < fst (rowM Rw ca) 2001) (h_5 : -4000 ≤ n_ ∧ n_ ≤ 4000) : mC l yX9_yearsLater cX9_yearsLater 6 (some .int) 7 D t b n σ0 I Rw [.ref (b + 45), .int a_ca, .int a_dy, .int a_n_] (fun z I1 R1 => R1 = Rw ∧ kpI [6, 7, 8] I I1 ∧ (I1 6).toInt = yof (rowM Rw ca) dy ∧ (I1 7).toInt = mof (rowM Rw ca) dy ∧ (I1 8).toInt = dof (rowM Rw ca) dy ∧ z.toInt = ylat (rowM Rw ca) dy n_) := by
  refine qC.of (by decide +kernel) (Nat.le_of_ble_eq_true rfl) (fun p e s m args below meth c X w ls hl => ?_)
  have hx := X.1
  have hb := X.2.1
  have hl : lv_has ls 6 [(0, .ref (b + 45)), (1, .int a_ca), (2, .int a_dy), (3, .int a_n_)] := hl
  have hy := yof_in h_2 h_4.1 h_4.2
  have hM := mof_bd h_2 dy
  have hD := dof_bd h_2 h_4.1 h_4.2
  have hL := mlen_bd h_2 hM.1 hM.2
  have hC := mcnt_bd h_2 (yof (rowM Rw ca) dy + n_)
  refine lv_aload_n hx hb dX9_yearsLater_0 rfl (lv_at hl 0 rfl) ?_
  refine lv_iload_n hx hb dX9_yearsLater_1 rfl (lv_at hl 1 rfl) ?_
  refine lv_iload_n hx hb dX9_yearsLater_2 rfl (lv_at hl 2 rfl) ?_
  refine mm_cVI X w (c_X9_findDate l D t b n σ0 I Rw a_ca a_dy ca dy e_ca e_dy (by first | assumption | omega) (by first | assumption | omega) (by first | assumption | omega) (by first | assumption | omega)) v_X9_136 rfl rfl ⟨Nat.le_of_ble_eq_true rfl, Nat.le_of_ble_eq_true rfl⟩ rfl hl.1 (Nat.le_of_ble_eq_true rfl) dX9_yearsLater_3 ⟨Nat.zero_le _, Nat.zero_le _⟩ (fun I_3 H locs z_3 w => ?_)
  refine lv_aload_n hx hb dX9_yearsLater_6 rfl (lv_at hl 0 rfl) ?_
  refine mg_year X w dX9_yearsLater_7 ?_
  refine lv_iload_n hx hb dX9_yearsLater_10 rfl (lv_at hl 3 rfl) ?_
  refine lv_iadd hx hb dX9_yearsLater_11 ?_
  refine lv_topi (fun x_11 e_11 => ?_)
  have p_11 : x_11.toInt = ((yof (rowM Rw ca) dy) + n_) := by rw [e_11]; exact t_add z_3.2.1 e_n_ (by omega) (by omega)
  refine lv_istore (lv' := [(4, .int x_11), (0, .ref (b + 45)), (1, .int a_ca), (2, .int a_dy), (3, .int a_n_)]) hx hb dX9_yearsLater_12 hl (by decide) rfl (fun ls hl => ?_)
  refine lv_iload hx hb dX9_yearsLater_14 (lv_at hl 0 rfl) ?_
  refine q_cPS X w (c_X9_isYear l x_11 ((yof (rowM Rw ca) dy) + n_) p_11 D t b n (mS t b σ0 I_3 Rw)) v_X9_110 rfl ⟨Nat.le_of_ble_eq_true rfl, Nat.le_of_ble_eq_true rfl⟩ rfl hl.1 (Nat.le_of_ble_eq_true rfl) dX9_yearsLater_16 ⟨Nat.zero_le _, Nat.zero_le _⟩ (fun r_16 z_16 => ?_)
  refine lv_if_ne (tgt := 26) hx hb dX9_yearsLater_19 (by decide) (fun c_19 => ?_) (fun c_19 => ?_)
  · skip
    rw [z_16] at c_19
    have k_19 := bI_t.mp c_19
    refine lv_aload_n hx hb dX9_yearsLater_26 rfl (lv_at hl 1 rfl) ?_
    refine lv_iload_n hx hb dX9_yearsLater_27 rfl (lv_at hl 2 rfl) ?_
    refine lv_iload hx hb dX9_yearsLater_28 (lv_at hl 0 rfl) ?_
    refine q_cPV X w (c_X9_monthsOf l D t b n σ0 I_3 Rw a_ca x_11 ca ((yof (rowM Rw ca) dy) + n_) e_ca p_11 (by first | assumption | omega) (by first | assumption | omega)) v_X9_114 (k := 45) rfl rfl rfl ⟨Nat.le_of_ble_eq_true rfl, Nat.le_of_ble_eq_true rfl⟩ rfl hl.1 (Nat.le_of_ble_eq_true rfl) dX9_yearsLater_30 ⟨Nat.zero_le _, Nat.zero_le _⟩ (fun r_30 z_30 => ?_)
    refine lv_istore (lv' := [(5, .int r_30), (4, .int x_11), (0, .ref (b + 45)), (1, .int a_ca), (2, .int a_dy), (3, .int a_n_)]) hx hb dX9_yearsLater_33 hl (by decide) rfl (fun ls hl => ?_)
    refine lv_aload_n hx hb dX9_yearsLater_35 rfl (lv_at hl 2 rfl) ?_
    refine lv_iload_n hx hb dX9_yearsLater_36 rfl (lv_at hl 3 rfl) ?_
    refine lv_iload hx hb dX9_yearsLater_37 (lv_at hl 1 rfl) ?_
    refine lv_aload_n hx hb dX9_yearsLater_39 rfl (lv_at hl 2 rfl) ?_
    refine mg_month X w dX9_yearsLater_40 ?_
    refine lv_iload hx hb dX9_yearsLater_43 (lv_at hl 0 rfl) ?_
    refine lv_icmp_ge (tgt := 55) hx hb dX9_yearsLater_45 (by decide) (fun c_45 => ?_) (fun c_45 => ?_)
    · skip
      have k_45 : (mcnt (rowM Rw ca) ((yof (rowM Rw ca) dy) + n_)) ≤ (mof (rowM Rw ca) dy) := (g_le z_30 z_3.2.2.1).mp c_45
      refine lv_iload hx hb dX9_yearsLater_55 (lv_at hl 0 rfl) ?_
      refine lv_aload_n hx hb dX9_yearsLater_57 rfl (lv_at hl 2 rfl) ?_
      refine mg_dayOfMonth X w dX9_yearsLater_58 ?_
      refine q_cPV X w (c_X9_cutDate l D t b n σ0 I_3 Rw a_ca x_11 r_30 (I_3 8) ca ((yof (rowM Rw ca) dy) + n_) (mcnt (rowM Rw ca) ((yof (rowM Rw ca) dy) + n_)) (dof (rowM Rw ca) dy) e_ca p_11 z_30 z_3.2.2.2 (by first | assumption | omega) (by first | assumption | omega) (by first | assumption | omega) (by intro _; omega) (by omega)) v_X9_260 (k := 45) rfl rfl rfl ⟨Nat.le_of_ble_eq_true rfl, Nat.le_of_ble_eq_true rfl⟩ rfl hl.1 (Nat.le_of_ble_eq_true rfl) dX9_yearsLater_61 ⟨Nat.zero_le _, Nat.zero_le _⟩ (fun r_61 z_61 => ?_)
      exact q_cret (post := (fun z n1 σ1 => n1 = n ∧ ∃ I1 R1, σ1 = mS t b σ0 I1 R1 ∧ R1 = Rw ∧ kpI [6, 7, 8] I I1 ∧ (I1 6).toInt = yof (rowM Rw ca) dy ∧ (I1 7).toInt = mof (rowM Rw ca) dy ∧ (I1 8).toInt = dof (rowM Rw ca) dy ∧ z.toInt = ylat (rowM Rw ca) dy n_)) X w dX9_yearsLater_64 (rfl) ⟨rfl, _, _, rfl, rfl, by exact ⟨z_3.1, z_3.2.1, z_3.2.2.1, z_3.2.2.2, by unfold ylat; rw [if_pos k_19, if_neg (by omega)]; exact z_61⟩⟩
    · skip
      have k_45 : ¬ ((mcnt (rowM Rw ca) ((yof (rowM Rw ca) dy) + n_)) ≤ (mof (rowM Rw ca) dy)) := fun h => c_45 ((g_le z_30 z_3.2.2.1).mpr h)
      have k_45 : mof (rowM Rw ca) dy < mcnt (rowM Rw ca) (yof (rowM Rw ca) dy + n_) := by omega
      refine lv_aload_n hx hb dX9_yearsLater_48 rfl (lv_at hl 2 rfl) ?_
      refine mg_month X w dX9_yearsLater_49 ?_
      refine lv_goto (tgt := 57) hx hb dX9_yearsLater_52 (by decide) ?_
      refine lv_aload_n hx hb dX9_yearsLater_57 rfl (lv_at hl 2 rfl) ?_
      refine mg_dayOfMonth X w dX9_yearsLater_58 ?_
      refine q_cPV X w (c_X9_cutDate l D t b n σ0 I_3 Rw a_ca x_11 (I_3 7) (I_3 8) ca ((yof (rowM Rw ca) dy) + n_) (mof (rowM Rw ca) dy) (dof (rowM Rw ca) dy) e_ca p_11 z_3.2.2.1 z_3.2.2.2 (by first | assumption | omega) (by first | assumption | omega) (by first | assumption | omega) (by intro _; omega) (by omega)) v_X9_260 (k := 45) rfl rfl rfl ⟨Nat.le_of_ble_eq_true rfl, Nat.le_of_ble_eq_true rfl⟩ rfl hl.1 (Nat.le_of_ble_eq_true rfl) dX9_yearsLater_61 ⟨Nat.zero_le _, Nat.zero_le _⟩ (fun r_61 z_61 => ?_)
      exact q_cret (post := (fun z n1 σ1 => n1 = n ∧ ∃ I1 R1, σ1 = mS t b σ0 I1 R1 ∧ R1 = Rw ∧ kpI [6, 7, 8] I I1 ∧ (I1 6).toInt = yof (rowM Rw ca) dy ∧ (I1 7).toInt = mof (rowM Rw ca) dy ∧ (I1 8).toInt = dof (rowM Rw ca) dy ∧ z.toInt = ylat (rowM Rw ca) dy n_)) X w dX9_yearsLater_64 (rfl) ⟨rfl, _, _, rfl, rfl, by exact ⟨z_3.1, z_3.2.1, z_3.2.2.1, z_3.2.2.2, by unfold ylat; rw [if_pos k_19, if_pos k_45]; exact z_61⟩⟩
  · skip
    rw [z_16] at c_19
    have k_19 := bI_f.mp c_19
    refine lv_ldcw hx hb X.2.2.2.1 (X.2.2.1 _ kc_X9_259) dX9_yearsLater_22 ?_
    exact q_cret (post := (fun z n1 σ1 => n1 = n ∧ ∃ I1 R1, σ1 = mS t b σ0 I1 R1 ∧ R1 = Rw ∧ kpI [6, 7, 8] I I1 ∧ (I1 6).toInt = yof (rowM Rw ca) dy ∧ (I1 7).toInt = mof (rowM Rw ca) dy ∧ (I1 8).toInt = dof (rowM Rw ca) dy ∧ z.toInt = ylat (rowM Rw ca) dy n_)) X w dX9_yearsLater_25 (rfl) ⟨rfl, _, _, rfl, rfl, by exact ⟨z_3.1, z_3.2.1, z_3.2.2.1, z_3.2.2.2, by unfold ylat; rw [if_neg k_19]; rfl⟩⟩

set_option maxHeartbeats 4000000 in
set_option maxRecDepth 100000 in
theorem c_X9_numberFrom (l : Launch) (D : va_G) (t : Nat → ClassId) (b n : Nat) (σ0 : qM) (I : Nat → Int32) (Rw : Nat → Nat → Int32) (a_ca : Int32) (a_dy : Int32) (a_num : Int32) (ca : Int) (dy : Int) (num : Int) (e_ca : a_ca.toInt = ca) (e_dy : a_dy.toInt = dy) (e_num : a_num.toInt = num) (h_1 : 0 ≤ ca ∧ ca < 6) (h_2 : okRow (rowM Rw ca)) (h_3 : okF Rw ca) (h_4 : -1000000 ≤ dy ∧ dy ≤ 1000000) : mC l yX9_numberFrom cX9_numberFrom 5 (some .int) 7 D t b n σ0 I Rw [.ref (b + 45), .int a_ca, .int a_dy, .int a_num] (fun z I1 R1 => R1 = Rw ∧ kpI [6, 7, 8] I I1 ∧ z.toInt = nfrom (rowM Rw ca) dy num) := by
  refine qC.of (by decide +kernel) (Nat.le_of_ble_eq_true rfl) (fun p e s m args below meth c X w ls hl => ?_)
  have hx := X.1
  have hb := X.2.1
  have hl : lv_has ls 5 [(0, .ref (b + 45)), (1, .int a_ca), (2, .int a_dy), (3, .int a_num)] := hl
  refine lv_iload_n hx hb dX9_numberFrom_0 rfl (lv_at hl 2 rfl) ?_
  refine lv_istore (lv' := [(4, .int a_dy), (0, .ref (b + 45)), (1, .int a_ca), (2, .int a_dy), (3, .int a_num)]) hx hb dX9_numberFrom_1 hl (by decide) rfl (fun ls hl => ?_)
  refine q_loop (α := Int32 × Int × (Nat → Int32)) (fun a => a.1.toInt = a.2.1 ∧ (kpI [6,7,8] I a.2.2 ∧ (dy ≤ a.2.1 ∧ a.2.1 ≤ dy + 400) ∧ nfN (rowM Rw ca) num (dy + 400 - a.2.1).toNat a.2.1 = nfrom (rowM Rw ca) dy num)) (fun a => (dy + 400 - a.2.1).toNat) (fun a => ∀ (H : Heap) (locs : List Loc), qW D b n (mS t b σ0 a.2.2 Rw) s H locs → ∀ ls : Array Slot, lv_has ls 5 [(4, .int a.1), (0, .ref (b + 45)), (1, .int a_ca), (2, .int a_dy), (3, .int a_num)] → W p l e (qR 7 0 0) s m args below meth c H locs 0 0 (MQ below (va_Qi (S := Nat × qM) (fun z u => (fun z n1 σ1 => n1 = n ∧ ∃ I1 R1, σ1 = mS t b σ0 I1 R1 ∧ R1 = Rw ∧ kpI [6, 7, 8] I I1 ∧ z.toInt = nfrom (rowM Rw ca) dy num) z u.1 u.2) (fun u T => WB D b u.1 u.2 T.heap) (fun q => b ≤ q)) args s 0 0 (fun q => b ≤ q)) (F0 m 3 ls [])) ?_ ⟨a_dy, dy, I⟩ ⟨e_dy, by dsimp only; exact ⟨kpI.rf, by omega, by rw [show (dy + 400 - dy).toNat = 400 by omega]; rfl⟩⟩ _ _ w ls (lv_sub hl [0, 1, 2, 3, 4] rfl)
  rintro ⟨v_x, x, I_L3⟩ ⟨q_x, inv_3⟩ ih_3 H locs w ls hl
  dsimp only at q_x inv_3 hl w
  refine lv_iload hx hb dX9_numberFrom_3 (lv_at hl 0 rfl) ?_
  refine lv_iload_n hx hb dX9_numberFrom_5 rfl (lv_at hl 3 rfl) ?_
  refine lv_sipush (v := 400) hx hb dX9_numberFrom_6 (by decide) ?_
  refine lv_iadd hx hb dX9_numberFrom_9 ?_
  refine lv_topi (fun x_9 e_9 => ?_)
  have p_9 : x_9.toInt = (dy + 400) := by rw [e_9]; exact t_add e_dy (show (400 : Int32).toInt = 400 from rfl) (by omega) (by omega)
  refine lv_icmp_ge (tgt := 44) hx hb dX9_numberFrom_10 (by decide) (fun c_10 => ?_) (fun c_10 => ?_)
  · skip
    have k_10 : (dy + 400) ≤ x := (g_le p_9 q_x).mp c_10
    refine lv_ldcw hx hb X.2.2.2.1 (X.2.2.1 _ kc_X9_259) dX9_numberFrom_44 ?_
    exact q_cret (post := (fun z n1 σ1 => n1 = n ∧ ∃ I1 R1, σ1 = mS t b σ0 I1 R1 ∧ R1 = Rw ∧ kpI [6, 7, 8] I I1 ∧ z.toInt = nfrom (rowM Rw ca) dy num)) X w dX9_numberFrom_47 (rfl) ⟨rfl, _, _, rfl, rfl, by refine ⟨inv_3.1, ?_⟩; rw [← inv_3.2.2]; rw [show (dy + 400 - x).toNat = 0 by omega]; rfl⟩
  · skip
    have k_10 : ¬ ((dy + 400) ≤ x) := fun h => c_10 ((g_le p_9 q_x).mpr h)
    refine lv_aload_n hx hb dX9_numberFrom_13 rfl (lv_at hl 1 rfl) ?_
    refine lv_iload_n hx hb dX9_numberFrom_14 rfl (lv_at hl 2 rfl) ?_
    refine lv_iload hx hb dX9_numberFrom_15 (lv_at hl 0 rfl) ?_
    refine q_cPV X w (c_X9_isInside l D t b n σ0 I_L3 Rw a_ca v_x ca x e_ca q_x (by first | assumption | omega) (by first | assumption | omega) (by first | assumption | omega)) v_X9_244 (k := 45) rfl rfl rfl ⟨Nat.le_of_ble_eq_true rfl, Nat.le_of_ble_eq_true rfl⟩ rfl hl.1 (Nat.le_of_ble_eq_true rfl) dX9_numberFrom_17 ⟨Nat.zero_le _, Nat.zero_le _⟩ (fun r_17 z_17 => ?_)
    refine lv_if_eq (tgt := 44) hx hb dX9_numberFrom_20 (by decide) (fun c_20 => ?_) (fun c_20 => ?_)
    · skip
      rw [z_17] at c_20
      have k_20 := bI_f.mp c_20
      refine lv_ldcw hx hb X.2.2.2.1 (X.2.2.1 _ kc_X9_259) dX9_numberFrom_44 ?_
      exact q_cret (post := (fun z n1 σ1 => n1 = n ∧ ∃ I1 R1, σ1 = mS t b σ0 I1 R1 ∧ R1 = Rw ∧ kpI [6, 7, 8] I I1 ∧ z.toInt = nfrom (rowM Rw ca) dy num)) X w dX9_numberFrom_47 (rfl) ⟨rfl, _, _, rfl, rfl, by refine ⟨inv_3.1, ?_⟩; rw [← inv_3.2.2]; rw [nfN_s (by omega) (by omega), if_neg k_20]; rfl⟩
    · skip
      rw [z_17] at c_20
      have k_20 := bI_t.mp c_20
      refine lv_aload_n hx hb dX9_numberFrom_23 rfl (lv_at hl 1 rfl) ?_
      refine lv_iload_n hx hb dX9_numberFrom_24 rfl (lv_at hl 2 rfl) ?_
      refine lv_iload hx hb dX9_numberFrom_25 (lv_at hl 0 rfl) ?_
      refine lv_iconst (v := 2) hx hb dX9_numberFrom_27 (by decide) ?_
      refine mm_cCI X w (c_X9_partOf l D t b n σ0 I_L3 Rw a_ca v_x 2 ca x 2 e_ca q_x (show (2 : Int32).toInt = 2 from rfl) (by first | assumption | omega) (by first | assumption | omega) (by first | assumption | omega) (by first | assumption | omega) (by first | assumption | omega)) v_X9_247 rfl rfl ⟨Nat.le_of_ble_eq_true rfl, Nat.le_of_ble_eq_true rfl⟩ rfl hl.1 (Nat.le_of_ble_eq_true rfl) dX9_numberFrom_28 ⟨Nat.zero_le _, Nat.zero_le _⟩ (fun r_28 I_28 H locs z_28 w => ?_)
      refine lv_iload_n hx hb dX9_numberFrom_31 rfl (lv_at hl 4 rfl) ?_
      refine lv_icmp_ne (tgt := 38) hx hb dX9_numberFrom_32 (by decide) (fun c_32 => ?_) (fun c_32 => ?_)
      · skip
        have k_32 : ¬ ((pof (rowM Rw ca) x 2) = num) := fun h => c_32 ((g_eq z_28.2.2.2.2 e_num).mpr h)
        have k_32b : ¬ dof (rowM Rw ca) x = num := fun q => k_32 (by unfold pof; rw [if_neg (by decide), if_neg (by decide), if_pos rfl]; exact q)
        obtain ⟨x_38, e_38⟩ : ∃ z : Int32, z = (v_x + 1) := ⟨_, rfl⟩
        have p_38 : x_38.toInt = (x + 1) := by rw [e_38]; exact t_add q_x (show (1 : Int32).toInt = 1 from rfl) (by omega) (by omega)
        refine lv_iinc (v := x_38) (lv' := [(4, .int x_38), (0, .ref (b + 45)), (1, .int a_ca), (2, .int a_dy), (3, .int a_num)]) hx hb dX9_numberFrom_38 hl (k := 0) rfl (by rw [e_38]; rfl) (by decide) rfl (fun ls hl => ?_)
        refine lv_goto (tgt := 3) hx hb dX9_numberFrom_41 (by decide) ?_
        refine ih_3 ⟨x_38, (x + 1), I_28⟩ ⟨p_38, by dsimp only; refine ⟨inv_3.1.tr z_28.1 (by decide) (by decide), by omega, ?_⟩; rw [← inv_3.2.2, nfN_s (e := x) (by omega) (by omega), if_pos k_20, if_neg k_32b]⟩ (by dsimp only; omega) _ _ w ls (lv_sub hl [0, 1, 2, 3, 4] rfl)
      · skip
        have k_32 : (pof (rowM Rw ca) x 2) = num := (g_eq z_28.2.2.2.2 e_num).mp c_32
        have k_32b : dof (rowM Rw ca) x = num := by rw [← k_32]; unfold pof; rw [if_neg (by decide), if_neg (by decide), if_pos rfl]
        refine lv_iload hx hb dX9_numberFrom_35 (lv_at hl 0 rfl) ?_
        exact q_cret (post := (fun z n1 σ1 => n1 = n ∧ ∃ I1 R1, σ1 = mS t b σ0 I1 R1 ∧ R1 = Rw ∧ kpI [6, 7, 8] I I1 ∧ z.toInt = nfrom (rowM Rw ca) dy num)) X w dX9_numberFrom_37 (rfl) ⟨rfl, _, _, rfl, rfl, by refine ⟨inv_3.1.tr z_28.1 (by decide) (by decide), ?_⟩; rw [← inv_3.2.2]; rw [nfN_s (by omega) (by omega), if_pos k_20, if_pos k_32b]; exact q_x⟩
