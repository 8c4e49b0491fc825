set_option maxHeartbeats 4000000 in
set_option maxRecDepth 100000 in
theorem c_X9_prints (l : Launch) (D : va_G) (t : Nat → ClassId) (b n : Nat) (σ0 : qM) (I : Nat → Int32) (Rw : Nat → Nat → Int32) (a_ch : Int32) (ch : Int) (e_ch : a_ch.toInt = ch) (h_1 : 0 ≤ ch ∧ ch < 128) (h_2 : 0 ≤ (I 25).toInt ∧ (I 25).toInt < 20) : mV l yX9_prints cX9_prints 2 0 D t b n σ0 I Rw [.ref (b + 45), .int a_ch] (fun I1 R1 => kpI [25] I I1 ∧ (I1 25).toInt = (I 25).toInt + 1 ∧ R1 = va_up Rw 24 (upd (Rw 24) (I 25).toInt.toNat a_ch)) := by
  refine qV.of (by decide +kernel) (Nat.le_of_ble_eq_true rfl) (fun p e s m args below meth c X w _ ls hl => ?_)
  have hx := X.1
  have hb := X.2.1
  have hl : lv_has ls 2 [(0, .ref (b + 45)), (1, .int a_ch)] := hl
  refine lv_aload_n hx hb dX9_prints_0 rfl (lv_at hl 0 rfl) ?_
  refine mg_output X w dX9_prints_1 ?_
  refine lv_aload_n hx hb dX9_prints_4 rfl (lv_at hl 0 rfl) ?_
  refine mg_written X w dX9_prints_5 ?_
  refine lv_iload_n hx hb dX9_prints_8 rfl (lv_at hl 1 rfl) ?_
  refine ms_output (x := a_ch) X w (g_in rfl (by omega)) dX9_prints_9 (fun H locs w => ?_)
  rw [g_tn rfl] at w
  refine lv_aload_n hx hb dX9_prints_10 rfl (lv_at hl 0 rfl) ?_
  refine lv_dup hx hb dX9_prints_11 rfl ?_
  refine mg_written X w dX9_prints_12 ?_
  refine lv_iconst (v := 1) hx hb dX9_prints_15 (by decide) ?_
  refine lv_iadd hx hb dX9_prints_16 ?_
  refine lv_topi (fun x_16 e_16 => ?_)
  have p_16 : x_16.toInt = (((I 25).toInt) + 1) := by rw [e_16]; exact t_add rfl (show (1 : Int32).toInt = 1 from rfl) (by omega) (by omega)
  refine mp_written (v := x_16) X w dX9_prints_17 (fun H locs w => ?_)
  exact q_vret (post := (fun n1 σ1 => n1 = n ∧ ∃ I1 R1, σ1 = mS t b σ0 I1 R1 ∧ kpI [25] I I1 ∧ (I1 25).toInt = (I 25).toInt + 1 ∧ R1 = va_up Rw 24 (upd (Rw 24) (I 25).toInt.toNat a_ch))) X w dX9_prints_20 ⟨rfl, _, _, rfl, by exact ⟨kpI.up kpI.rf (by decide), p_16, by rw [(ch_x e_ch h_1.1 h_1.2).2]⟩⟩

set_option maxHeartbeats 4000000 in
set_option maxRecDepth 100000 in
theorem c_X9_printsNumber (l : Launch) (D : va_G) (t : Nat → ClassId) (b n : Nat) (σ0 : qM) (I : Nat → Int32) (Rw : Nat → Nat → Int32) (o : Int → Int) (a_v : Int32) (v : Int) (e_v : a_v.toInt = v) (h_1 : 0 ≤ v ∧ v < 10000) (h_2 : 0 ≤ (I 25).toInt ∧ (I 25).toInt ≤ 16) (h_3 : outP Rw (I 25).toInt o) : mV l yX9_printsNumber cX9_printsNumber 3 1 D t b n σ0 I Rw [.ref (b + 45), .int a_v] (fun I1 R1 => kpI [25] I I1 ∧ kpR [24] Rw R1 ∧ (I1 25).toInt = (I 25).toInt + dN v ∧ outP R1 ((I 25).toInt + dN v) (catI o (I 25).toInt (dD v))) := by
  refine qV.of (by decide +kernel) (Nat.le_of_ble_eq_true rfl) (fun p e s m args below meth c X w _ ls hl => ?_)
  have hx := X.1
  have hb := X.2.1
  have hl : lv_has ls 3 [(0, .ref (b + 45)), (1, .int a_v)] := hl
  have hdn := dN_bd v
  refine lv_iconst (v := 1) hx hb dX9_printsNumber_0 (by decide) ?_
  refine lv_istore_n (lv' := [(2, .int 1), (0, .ref (b + 45)), (1, .int a_v)]) hx hb dX9_printsNumber_1 rfl hl (by decide) rfl (fun ls hl => ?_)
  refine q_loop (α := Int32 × Int) (fun a => a.1.toInt = a.2 ∧ ((a.2 = 1 ∨ a.2 = 10 ∧ 10 ≤ v ∨ a.2 = 100 ∧ 100 ≤ v ∨ a.2 = 1000 ∧ 1000 ≤ v))) (fun a => (1000 - a.2).toNat) (fun a => ∀ ls : Array Slot, lv_has ls 3 [(2, .int a.1), (0, .ref (b + 45)), (1, .int a_v)] → W p l e (qR 1 0 0) s m args below meth c s.heap [] 0 0 (MQ below (va_Qv (S := Nat × qM) (fun u => (fun n1 σ1 => n1 = n ∧ ∃ I1 R1, σ1 = mS t b σ0 I1 R1 ∧ kpI [25] I I1 ∧ kpR [24] Rw R1 ∧ (I1 25).toInt = (I 25).toInt + dN v ∧ outP R1 ((I 25).toInt + dN v) (catI o (I 25).toInt (dD v))) u.1 u.2) (fun u T => WB D b u.1 u.2 T.heap) (fun q => b ≤ q)) args s 0 0 (fun q => b ≤ q)) (F0 m 2 ls [])) ?_ ⟨1, 1⟩ ⟨(show (1 : Int32).toInt = 1 from rfl), by dsimp only; omega⟩ ls (lv_sub hl [0, 1, 2] rfl)
  rintro ⟨v_un, un⟩ ⟨q_un, inv_2⟩ ih_2 ls hl
  dsimp only at q_un inv_2 hl
  have hd2 := Int.ediv_nonneg h_1.1 (show 0 ≤ un by omega)
  have hd3 := Int.ediv_le_self un h_1.1
  refine lv_iload_n hx hb dX9_printsNumber_2 rfl (lv_at hl 2 rfl) ?_
  refine lv_iload_n hx hb dX9_printsNumber_3 rfl (lv_at hl 0 rfl) ?_
  refine lv_idiv hx hb dX9_printsNumber_4 (g_ne0 q_un (by omega)) ?_
  refine lv_topi (fun x_4 e_4 => ?_)
  have p_4 : x_4.toInt = (v / un) := by rw [e_4]; exact t_div e_v q_un (by omega) (by omega)
  refine lv_bipush (v := 9) hx hb dX9_printsNumber_5 (by decide) ?_
  refine lv_icmp_le (tgt := 18) hx hb dX9_printsNumber_7 (by decide) (fun c_7 => ?_) (fun c_7 => ?_)
  · skip
    have k_7 : (v / un) ≤ 9 := (g_le p_4 (show (9 : Int32).toInt = 9 from rfl)).mp c_7
    refine q_loop (α := Int32 × Int × Int × (Nat → Int32) × (Nat → Nat → Int32)) (fun a => a.1.toInt = a.2.1 ∧ (kpI [25] I a.2.2.2.1 ∧ kpR [24] Rw a.2.2.2.2 ∧ (a.2.2.2.1 25).toInt = (I 25).toInt + dN v - a.2.2.1 ∧ (0 ≤ a.2.2.1 ∧ a.2.2.1 ≤ dN v) ∧ ((a.2.2.1 = 0 ∧ a.2.1 = 0) ∨ (a.2.2.1 = 1 ∧ a.2.1 = 1) ∨ (a.2.2.1 = 2 ∧ a.2.1 = 10) ∨ (a.2.2.1 = 3 ∧ a.2.1 = 100) ∨ (a.2.2.1 = 4 ∧ a.2.1 = 1000)) ∧ outP a.2.2.2.2 ((I 25).toInt + dN v - a.2.2.1) (catI o (I 25).toInt (dD v)))) (fun a => a.2.2.1.toNat) (fun a => ∀ (H : Heap) (locs : List Loc), qW D b n (mS t b σ0 a.2.2.2.1 a.2.2.2.2) s H locs → ∀ ls : Array Slot, lv_has ls 3 [(2, .int a.1), (0, .ref (b + 45)), (1, .int a_v)] → W p l e (qR 1 0 0) s m args below meth c H locs 0 0 (MQ below (va_Qv (S := Nat × qM) (fun u => (fun n1 σ1 => n1 = n ∧ ∃ I1 R1, σ1 = mS t b σ0 I1 R1 ∧ kpI [25] I I1 ∧ kpR [24] Rw R1 ∧ (I1 25).toInt = (I 25).toInt + dN v ∧ outP R1 ((I 25).toInt + dN v) (catI o (I 25).toInt (dD v))) u.1 u.2) (fun u T => WB D b u.1 u.2 T.heap) (fun q => b ≤ q)) args s 0 0 (fun q => b ≤ q)) (F0 m 18 ls [])) ?_ ⟨v_un, un, (dN v), I, Rw⟩ ⟨q_un, by dsimp only; have hu := dN_u h_1 inv_2 k_7; exact ⟨kpI.rf, kpR.rf, by omega, by omega, by omega, by rw [show (I 25).toInt + dN v - dN v = (I 25).toInt by omega]; exact outP_cg h_3 (fun j a1 a2 => by unfold catI; rw [if_pos a2])⟩⟩ _ _ w ls (lv_sub hl [0, 1, 2] rfl)
    rintro ⟨v_un, un, r, I_L18, R_L18⟩ ⟨q_un, inv_18⟩ ih_18 H locs w ls hl
    dsimp only at q_un inv_18 hl w
    refine lv_iload_n hx hb dX9_printsNumber_18 rfl (lv_at hl 0 rfl) ?_
    refine lv_if_le (tgt := 44) hx hb dX9_printsNumber_19 (by decide) (fun c_19 => ?_) (fun c_19 => ?_)
    · skip
      have k_19 : un ≤ 0 := (g_le q_un (show (0 : Int32).toInt = 0 from rfl)).mp c_19
      exact q_vret (post := (fun n1 σ1 => n1 = n ∧ ∃ I1 R1, σ1 = mS t b σ0 I1 R1 ∧ kpI [25] I I1 ∧ kpR [24] Rw R1 ∧ (I1 25).toInt = (I 25).toInt + dN v ∧ outP R1 ((I 25).toInt + dN v) (catI o (I 25).toInt (dD v)))) X w dX9_printsNumber_44 ⟨rfl, _, _, rfl, by have er : r = 0 := (by omega); rw [er, show (I 25).toInt + dN v - 0 = (I 25).toInt + dN v by omega] at inv_18; exact ⟨inv_18.1, inv_18.2.1, inv_18.2.2.1, inv_18.2.2.2.2.2⟩⟩
    · skip
      have k_19 : ¬ (un ≤ 0) := fun h => c_19 ((g_le q_un (show (0 : Int32).toInt = 0 from rfl)).mpr h)
      have hpw := pow_d v r un h_1.1 (by omega)
      refine lv_aload_n hx hb dX9_printsNumber_22 rfl (lv_at hl 1 rfl) ?_
      refine lv_bipush (v := 48) hx hb dX9_printsNumber_23 (by decide) ?_
      refine lv_iload_n hx hb dX9_printsNumber_25 rfl (lv_at hl 2 rfl) ?_
      refine lv_iload_n hx hb dX9_printsNumber_26 rfl (lv_at hl 0 rfl) ?_
      refine lv_idiv hx hb dX9_printsNumber_27 (g_ne0 q_un (by omega)) ?_
      refine lv_topi (fun x_27 e_27 => ?_)
      have p_27 : x_27.toInt = (v / un) := by rw [e_27]; exact t_div e_v q_un (by omega) (by omega)
      refine lv_bipush (v := 10) hx hb dX9_printsNumber_28 (by decide) ?_
      refine lv_irem hx hb dX9_printsNumber_30 (by decide) ?_
      refine lv_topi (fun x_30 e_30 => ?_)
      have p_30 : x_30.toInt = ((v / un) % 10) := by rw [e_30]; exact t_rem p_27 (show (10 : Int32).toInt = 10 from rfl) (by omega) (by omega)
      refine lv_iadd hx hb dX9_printsNumber_31 ?_
      refine lv_topi (fun x_31 e_31 => ?_)
      have p_31 : x_31.toInt = (48 + ((v / un) % 10)) := by rw [e_31]; exact t_add (show (48 : Int32).toInt = 48 from rfl) p_30 (by omega) (by omega)
      refine lv_i2c hx hb dX9_printsNumber_32 rfl ?_
      refine lv_topi (fun x_32 e_32 => ?_)
      have p_32 : x_32.toInt = (48 + ((v / un) % 10)) := by rw [e_32]; rw [(ch_x p_31 (by omega) (by omega)).1]; exact p_31
      refine mm_cV X w (c_X9_prints l D t b n σ0 I_L18 R_L18 x_32 (48 + ((v / un) % 10)) p_32 (by omega) (by omega)) v_X9_326 rfl rfl ⟨Nat.le_of_ble_eq_true rfl, Nat.le_of_ble_eq_true rfl⟩ rfl hl.1 (Nat.le_of_ble_eq_true rfl) dX9_printsNumber_33 ⟨Nat.zero_le _, Nat.zero_le _⟩ (fun I_33 R_33 H locs z_33 w => ?_)
      refine lv_iload_n hx hb dX9_printsNumber_36 rfl (lv_at hl 0 rfl) ?_
      refine lv_bipush (v := 10) hx hb dX9_printsNumber_37 (by decide) ?_
      refine lv_idiv hx hb dX9_printsNumber_39 (by decide) ?_
      refine lv_topi (fun x_39 e_39 => ?_)
      have p_39 : x_39.toInt = (un / 10) := by rw [e_39]; exact t_div q_un (show (10 : Int32).toInt = 10 from rfl) (by omega) (by omega)
      refine lv_istore_n (lv' := [(2, .int x_39), (0, .ref (b + 45)), (1, .int a_v)]) hx hb dX9_printsNumber_40 rfl hl (by decide) rfl (fun ls hl => ?_)
      refine lv_goto (tgt := 18) hx hb dX9_printsNumber_41 (by decide) ?_
      refine ih_18 ⟨x_39, (un / 10), (r - 1), I_33, R_33⟩ ⟨p_39, by dsimp only; exact ⟨inv_18.1.tr z_33.1 (by decide) (by decide), by rw [z_33.2.2]; exact inv_18.2.1.up (by decide), by have := z_33.2.1; omega, by omega, by omega, by rw [z_33.2.2, inv_18.2.2.1, show (I 25).toInt + dN v - (r - 1) = (I 25).toInt + dN v - r + 1 by omega]; exact outP_cg (outP_s (by omega) inv_18.2.2.2.2.2 p_32) (fun j a1 a2 => by unfold catI; by_cases z : j < (I 25).toInt + dN v - r; (rw [if_pos z]); (rw [if_neg z, if_neg (by omega)]; unfold dD; rw [show dN v - (j - (I 25).toInt) = r by omega, hpw.1]))⟩⟩ (by dsimp only; omega) _ _ w ls (lv_sub hl [0, 1, 2] rfl)
  · skip
    have k_7 : ¬ ((v / un) ≤ 9) := fun h => c_7 ((g_le p_4 (show (9 : Int32).toInt = 9 from rfl)).mpr h)
    refine lv_iload_n hx hb dX9_printsNumber_10 rfl (lv_at hl 0 rfl) ?_
    refine lv_bipush (v := 10) hx hb dX9_printsNumber_11 (by decide) ?_
    refine lv_imul hx hb dX9_printsNumber_13 ?_
    refine lv_topi (fun x_13 e_13 => ?_)
    have p_13 : x_13.toInt = (un * 10) := by rw [e_13]; exact t_mul q_un (show (10 : Int32).toInt = 10 from rfl) (by omega) (by omega)
    refine lv_istore_n (lv' := [(2, .int x_13), (0, .ref (b + 45)), (1, .int a_v)]) hx hb dX9_printsNumber_14 rfl hl (by decide) rfl (fun ls hl => ?_)
    refine lv_goto (tgt := 2) hx hb dX9_printsNumber_15 (by decide) ?_
    refine ih_2 ⟨x_13, (un * 10)⟩ ⟨p_13, by dsimp only; have hs := un_s h_1 inv_2 k_7; omega⟩ (by dsimp only; have hs := un_s h_1 inv_2 k_7; omega) ls (lv_sub hl [0, 1, 2] rfl)
