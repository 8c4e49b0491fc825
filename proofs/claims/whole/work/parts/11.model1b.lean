set_option maxHeartbeats 4000000 in
set_option maxRecDepth 100000 in
theorem c_X9_lengthOf (l : Launch) (D : va_G) (t : Nat → ClassId) (b n : Nat) (σ0 : qM) (I : Nat → Int32) (Rw : Nat → Nat → Int32) (a_ca : Int32) (a_yr : Int32) (ca : Int) (yr : Int) (e_ca : a_ca.toInt = ca) (e_yr : a_yr.toInt = yr) (h_1 : 0 ≤ ca ∧ ca < 6) (h_2 : okRow (rowM Rw ca)) : qP l yX9_lengthOf cX9_lengthOf 5 (some .int) 2 D t b n (mS t b σ0 I Rw) [.ref (b + 45), .int a_ca, .int a_yr] (fun z => z.toInt = ylen (rowM Rw ca) yr) := by
  refine qP.of (by decide +kernel) (Nat.le_of_ble_eq_true rfl) (fun p e s m args below meth c X w ls hl => ?_)
  have hx := X.1
  have hb := X.2.1
  have hl : lv_has ls 5 [(0, .ref (b + 45)), (1, .int a_ca), (2, .int a_yr)] := hl
  have hm := h_2.months
  refine lv_iconst (v := 0) hx hb dX9_lengthOf_0 (by decide) ?_
  refine lv_istore_n (lv' := [(3, .int 0), (0, .ref (b + 45)), (1, .int a_ca), (2, .int a_yr)]) hx hb dX9_lengthOf_1 rfl hl (by decide) rfl (fun ls hl => ?_)
  refine lv_iconst (v := 0) hx hb dX9_lengthOf_2 (by decide) ?_
  refine lv_istore (lv' := [(4, .int 0), (3, .int 0), (0, .ref (b + 45)), (1, .int a_ca), (2, .int a_yr)]) hx hb dX9_lengthOf_3 hl (by decide) rfl (fun ls hl => ?_)
  refine q_loop (α := Int32 × Int32 × Int × Int) (fun a => a.1.toInt = a.2.2.1 ∧ a.2.1.toInt = a.2.2.2 ∧ ((0 ≤ a.2.2.2 ∧ a.2.2.2 ≤ rv (rowM Rw ca) 0) ∧ a.2.2.1 = sumL (rowM Rw ca) a.2.2.2.toNat)) (fun a => (14 - a.2.2.2).toNat) (fun a => ∀ ls : Array Slot, lv_has ls 5 [(4, .int a.2.1), (3, .int a.1), (0, .ref (b + 45)), (1, .int a_ca), (2, .int a_yr)] → W p l e (qR 2 0 0) s m args below meth c s.heap [] 0 0 (MQ below (vp_Si (fun z => z.toInt = ylen (rowM Rw ca) yr)) args s 0 0 (fun _ => False)) (F0 m 5 ls [])) ?_ ⟨0, 0, 0, 0⟩ ⟨(show (0 : Int32).toInt = 0 from rfl), (show (0 : Int32).toInt = 0 from rfl), by dsimp only; exact ⟨by omega, rfl⟩⟩ ls (lv_sub hl [0, 1, 2, 3, 4] rfl)
  rintro ⟨v_sm, v_k, sm, k⟩ ⟨q_sm, q_k, inv_5⟩ ih_5 ls hl
  dsimp only at q_sm q_k inv_5 hl
  have hm := h_2.months
  have hs := sumL_b h_2 (k := k) (by omega) (by omega)
  refine lv_iload hx hb dX9_lengthOf_5 (lv_at hl 0 rfl) ?_
  refine lv_aload_n hx hb dX9_lengthOf_7 rfl (lv_at hl 2 rfl) ?_
  refine lv_iload_n hx hb dX9_lengthOf_8 rfl (lv_at hl 3 rfl) ?_
  refine lv_iconst (v := 0) hx hb dX9_lengthOf_9 (by decide) ?_
  refine q_cPV X w (c_X9_of l D t b n σ0 I Rw a_ca 0 ca 0 e_ca (show (0 : Int32).toInt = 0 from rfl) (by first | assumption | omega) (by first | assumption | omega)) v_X9_80 (k := 45) rfl rfl rfl ⟨Nat.le_of_ble_eq_true rfl, Nat.le_of_ble_eq_true rfl⟩ rfl hl.1 (Nat.le_of_ble_eq_true rfl) dX9_lengthOf_10 ⟨Nat.zero_le _, Nat.zero_le _⟩ (fun r_10 z_10 => ?_)
  refine lv_icmp_ge (tgt := 34) hx hb dX9_lengthOf_13 (by decide) (fun c_13 => ?_) (fun c_13 => ?_)
  · skip
    have k_13 : (rv (rowM Rw ca) 0) ≤ k := (g_le (congrArg Int32.toInt z_10) q_k).mp c_13
    refine lv_aload_n hx hb dX9_lengthOf_34 rfl (lv_at hl 2 rfl) ?_
    refine lv_iload_n hx hb dX9_lengthOf_35 rfl (lv_at hl 3 rfl) ?_
    refine lv_bipush (v := 16) hx hb dX9_lengthOf_36 (by decide) ?_
    refine q_cPV X w (c_X9_of l D t b n σ0 I Rw a_ca 16 ca 16 e_ca (show (16 : Int32).toInt = 16 from rfl) (by first | assumption | omega) (by first | assumption | omega)) v_X9_80 (k := 45) rfl rfl rfl ⟨Nat.le_of_ble_eq_true rfl, Nat.le_of_ble_eq_true rfl⟩ rfl hl.1 (Nat.le_of_ble_eq_true rfl) dX9_lengthOf_38 ⟨Nat.zero_le _, Nat.zero_le _⟩ (fun r_38 z_38 => ?_)
    refine lv_if_eq (tgt := 53) hx hb dX9_lengthOf_41 (by decide) (fun c_41 => ?_) (fun c_41 => ?_)
    · skip
      have k_41 : (rv (rowM Rw ca) 16) = 0 := (g_eq (congrArg Int32.toInt z_38) (show (0 : Int32).toInt = 0 from rfl)).mp c_41
      refine lv_iload_n hx hb dX9_lengthOf_53 rfl (lv_at hl 1 rfl) ?_
      exact q_pret X w dX9_lengthOf_54 (by rw [show k = rv (rowM Rw ca) 0 by omega] at inv_5; rw [q_sm, inv_5.2]; unfold ylen; first | (rw [if_pos (Or.inl k_41)]; omega) | (rw [if_pos (Or.inr (by simpa using k_50))]; omega))
    · skip
      have k_41 : ¬ ((rv (rowM Rw ca) 16) = 0) := fun h => c_41 ((g_eq (congrArg Int32.toInt z_38) (show (0 : Int32).toInt = 0 from rfl)).mpr h)
      refine lv_aload_n hx hb dX9_lengthOf_44 rfl (lv_at hl 2 rfl) ?_
      refine lv_iload_n hx hb dX9_lengthOf_45 rfl (lv_at hl 3 rfl) ?_
      refine lv_iload_n hx hb dX9_lengthOf_46 rfl (lv_at hl 4 rfl) ?_
      refine q_cPV X w (c_X9_isLeap l D t b n σ0 I Rw a_ca a_yr ca yr e_ca e_yr (by first | assumption | omega) (by first | assumption | omega)) v_X9_88 (k := 45) rfl rfl rfl ⟨Nat.le_of_ble_eq_true rfl, Nat.le_of_ble_eq_true rfl⟩ rfl hl.1 (Nat.le_of_ble_eq_true rfl) dX9_lengthOf_47 ⟨Nat.zero_le _, Nat.zero_le _⟩ (fun r_47 z_47 => ?_)
      refine lv_if_ne (tgt := 55) hx hb dX9_lengthOf_50 (by decide) (fun c_50 => ?_) (fun c_50 => ?_)
      · skip
        rw [z_47] at c_50
        have k_50 := bI_t.mp c_50
        have hL := h_2.ll
        have hK := h_2.lk
        refine lv_iload_n hx hb dX9_lengthOf_55 rfl (lv_at hl 1 rfl) ?_
        refine lv_aload_n hx hb dX9_lengthOf_56 rfl (lv_at hl 2 rfl) ?_
        refine lv_iload_n hx hb dX9_lengthOf_57 rfl (lv_at hl 3 rfl) ?_
        refine lv_bipush (v := 16) hx hb dX9_lengthOf_58 (by decide) ?_
        refine q_cPV X w (c_X9_of l D t b n σ0 I Rw a_ca 16 ca 16 e_ca (show (16 : Int32).toInt = 16 from rfl) (by first | assumption | omega) (by first | assumption | omega)) v_X9_80 (k := 45) rfl rfl rfl ⟨Nat.le_of_ble_eq_true rfl, Nat.le_of_ble_eq_true rfl⟩ rfl hl.1 (Nat.le_of_ble_eq_true rfl) dX9_lengthOf_60 ⟨Nat.zero_le _, Nat.zero_le _⟩ (fun r_60 z_60 => ?_)
        refine lv_iconst (v := 1) hx hb dX9_lengthOf_63 (by decide) ?_
        refine lv_icmp_ne (tgt := 71) hx hb dX9_lengthOf_64 (by decide) (fun c_64 => ?_) (fun c_64 => ?_)
        · skip
          have k_64 : ¬ ((rv (rowM Rw ca) 16) = 1) := fun h => c_64 ((g_eq (congrArg Int32.toInt z_60) (show (1 : Int32).toInt = 1 from rfl)).mpr h)
          have hL2 := h_2.ll (by omega)
          refine lv_aload_n hx hb dX9_lengthOf_71 rfl (lv_at hl 2 rfl) ?_
          refine lv_iload_n hx hb dX9_lengthOf_72 rfl (lv_at hl 3 rfl) ?_
          refine lv_bipush (v := 18) hx hb dX9_lengthOf_73 (by decide) ?_
          refine q_cPV X w (c_X9_of l D t b n σ0 I Rw a_ca 18 ca 18 e_ca (show (18 : Int32).toInt = 18 from rfl) (by first | assumption | omega) (by first | assumption | omega)) v_X9_80 (k := 45) rfl rfl rfl ⟨Nat.le_of_ble_eq_true rfl, Nat.le_of_ble_eq_true rfl⟩ rfl hl.1 (Nat.le_of_ble_eq_true rfl) dX9_lengthOf_75 ⟨Nat.zero_le _, Nat.zero_le _⟩ (fun r_75 z_75 => ?_)
          refine lv_iadd hx hb dX9_lengthOf_78 ?_
          refine lv_topi (fun x_78 e_78 => ?_)
          have p_78 : x_78.toInt = (sm + (rv (rowM Rw ca) 18)) := by rw [e_78]; exact t_add q_sm (congrArg Int32.toInt z_75) (by omega) (by omega)
          exact q_pret X w dX9_lengthOf_79 (by rw [show k = rv (rowM Rw ca) 0 by omega] at inv_5; rw [p_78, inv_5.2]; unfold ylen; rw [if_neg (fun q => q.elim k_41 (fun q => by rw [q] at k_50; exact absurd k_50 (by decide)))]; first | rw [if_pos k_64] | rw [if_neg k_64])
        · skip
          have k_64 : (rv (rowM Rw ca) 16) = 1 := (g_eq (congrArg Int32.toInt z_60) (show (1 : Int32).toInt = 1 from rfl)).mp c_64
          refine lv_iconst (v := 1) hx hb dX9_lengthOf_67 (by decide) ?_
          refine lv_goto (tgt := 78) hx hb dX9_lengthOf_68 (by decide) ?_
          refine lv_iadd hx hb dX9_lengthOf_78 ?_
          refine lv_topi (fun x_78 e_78 => ?_)
          have p_78 : x_78.toInt = (sm + 1) := by rw [e_78]; exact t_add q_sm (show (1 : Int32).toInt = 1 from rfl) (by omega) (by omega)
          exact q_pret X w dX9_lengthOf_79 (by rw [show k = rv (rowM Rw ca) 0 by omega] at inv_5; rw [p_78, inv_5.2]; unfold ylen; rw [if_neg (fun q => q.elim k_41 (fun q => by rw [q] at k_50; exact absurd k_50 (by decide)))]; first | rw [if_pos k_64] | rw [if_neg k_64])
      · skip
        rw [z_47] at c_50
        have k_50 := bI_f.mp c_50
        refine lv_iload_n hx hb dX9_lengthOf_53 rfl (lv_at hl 1 rfl) ?_
        exact q_pret X w dX9_lengthOf_54 (by rw [show k = rv (rowM Rw ca) 0 by omega] at inv_5; rw [q_sm, inv_5.2]; unfold ylen; first | (rw [if_pos (Or.inl k_41)]; omega) | (rw [if_pos (Or.inr (by simpa using k_50))]; omega))
  · skip
    have k_13 : ¬ ((rv (rowM Rw ca) 0) ≤ k) := fun h => c_13 ((g_le (congrArg Int32.toInt z_10) q_k).mpr h)
    have hq := h_2.ml (k := k) (by omega) (by omega)
    refine lv_iload_n hx hb dX9_lengthOf_16 rfl (lv_at hl 1 rfl) ?_
    refine lv_aload_n hx hb dX9_lengthOf_17 rfl (lv_at hl 2 rfl) ?_
    refine lv_iload_n hx hb dX9_lengthOf_18 rfl (lv_at hl 3 rfl) ?_
    refine lv_iconst (v := 1) hx hb dX9_lengthOf_19 (by decide) ?_
    refine lv_iload hx hb dX9_lengthOf_20 (lv_at hl 0 rfl) ?_
    refine lv_iadd hx hb dX9_lengthOf_22 ?_
    refine lv_topi (fun x_22 e_22 => ?_)
    have p_22 : x_22.toInt = (1 + k) := by rw [e_22]; exact t_add (show (1 : Int32).toInt = 1 from rfl) q_k (by omega) (by omega)
    refine q_cPV X w (c_X9_of l D t b n σ0 I Rw a_ca x_22 ca (1 + k) e_ca p_22 (by first | assumption | omega) (by first | assumption | omega)) v_X9_80 (k := 45) rfl rfl rfl ⟨Nat.le_of_ble_eq_true rfl, Nat.le_of_ble_eq_true rfl⟩ rfl hl.1 (Nat.le_of_ble_eq_true rfl) dX9_lengthOf_23 ⟨Nat.zero_le _, Nat.zero_le _⟩ (fun r_23 z_23 => ?_)
    refine lv_iadd hx hb dX9_lengthOf_26 ?_
    refine lv_topi (fun x_26 e_26 => ?_)
    have p_26 : x_26.toInt = (sm + (rv (rowM Rw ca) (1 + k))) := by rw [e_26]; exact t_add q_sm (congrArg Int32.toInt z_23) (by omega) (by omega)
    refine lv_istore_n (lv' := [(3, .int x_26), (4, .int v_k), (0, .ref (b + 45)), (1, .int a_ca), (2, .int a_yr)]) hx hb dX9_lengthOf_27 rfl hl (by decide) rfl (fun ls hl => ?_)
    obtain ⟨x_28, e_28⟩ : ∃ z : Int32, z = (v_k + 1) := ⟨_, rfl⟩
    have p_28 : x_28.toInt = (k + 1) := by rw [e_28]; exact t_add q_k (show (1 : Int32).toInt = 1 from rfl) (by omega) (by omega)
    refine lv_iinc (v := x_28) (lv' := [(4, .int x_28), (3, .int x_26), (0, .ref (b + 45)), (1, .int a_ca), (2, .int a_yr)]) hx hb dX9_lengthOf_28 hl (k := 1) rfl (by rw [e_28]; rfl) (by decide) rfl (fun ls hl => ?_)
    refine lv_goto (tgt := 5) hx hb dX9_lengthOf_31 (by decide) ?_
    refine ih_5 ⟨x_26, x_28, (sm + (rv (rowM Rw ca) (1 + k))), (k + 1)⟩ ⟨p_26, p_28, by refine ⟨(by dsimp only; omega), ?_⟩; dsimp only; rw [sumL_s (by omega), inv_5.2]⟩ (by dsimp only; omega) ls (lv_sub hl [0, 1, 2, 3, 4] rfl)

set_option maxHeartbeats 4000000 in
set_option maxRecDepth 100000 in
theorem c_X9_first (l : Launch) (D : va_G) (t : Nat → ClassId) (b n : Nat) (σ0 : qM) (I : Nat → Int32) (Rw : Nat → Nat → Int32) (a_ca : Int32) (a_yr : Int32) (ca : Int) (yr : Int) (e_ca : a_ca.toInt = ca) (e_yr : a_yr.toInt = yr) (h_1 : 0 ≤ ca ∧ ca < 6) (h_2 : okF Rw ca) (h_3 : -2020 ≤ yr ∧ yr ≤ 2021) : qP l yX9_first cX9_first 3 (some .int) 0 D t b n (mS t b σ0 I Rw) [.ref (b + 45), .int a_ca, .int a_yr] (fun z => z.toInt = fst (rowM Rw ca) yr) := by
  refine qP.of (by decide +kernel) (Nat.le_of_ble_eq_true rfl) (fun p e s m args below meth c X w ls hl => ?_)
  have hx := X.1
  have hb := X.2.1
  have hl : lv_has ls 3 [(0, .ref (b + 45)), (1, .int a_ca), (2, .int a_yr)] := hl
  refine lv_aload_n hx hb dX9_first_0 rfl (lv_at hl 0 rfl) ?_
  refine mg_firstOf X w dX9_first_1 ?_
  refine lv_sipush (v := 4042) hx hb dX9_first_4 (by decide) ?_
  refine lv_iload_n hx hb dX9_first_7 rfl (lv_at hl 1 rfl) ?_
  refine lv_imul hx hb dX9_first_8 ?_
  refine lv_topi (fun x_8 e_8 => ?_)
  have p_8 : x_8.toInt = (4042 * ca) := by rw [e_8]; exact t_mul (show (4042 : Int32).toInt = 4042 from rfl) e_ca (by omega) (by omega)
  refine lv_iload_n hx hb dX9_first_9 rfl (lv_at hl 2 rfl) ?_
  refine lv_iadd hx hb dX9_first_10 ?_
  refine lv_topi (fun x_10 e_10 => ?_)
  have p_10 : x_10.toInt = ((4042 * ca) + yr) := by rw [e_10]; exact t_add p_8 e_yr (by omega) (by omega)
  refine lv_sipush (v := (-2020)) hx hb dX9_first_11 (by decide) ?_
  refine lv_isub hx hb dX9_first_14 ?_
  refine lv_topi (fun x_14 e_14 => ?_)
  have p_14 : x_14.toInt = (((4042 * ca) + yr) - (-2020)) := by rw [e_14]; exact t_sub p_10 (show ((-2020) : Int32).toInt = (-2020) from rfl) (by omega) (by omega)
  refine ml_firstOf X w (g_in p_14 (by omega)) dX9_first_15 ?_
  refine q_topE (y := Rw 4 (((4042 * ca) + yr) - (-2020)).toNat) (congrArg (Rw 4) (g_tn p_14)) ?_
  exact q_pret X w dX9_first_16 (by exact h_2 yr (by omega) (by omega))

set_option maxHeartbeats 4000000 in
set_option maxRecDepth 100000 in
theorem c_X9_yearOf (l : Launch) (D : va_G) (t : Nat → ClassId) (b n : Nat) (σ0 : qM) (I : Nat → Int32) (Rw : Nat → Nat → Int32) (a_ca : Int32) (a_dy : Int32) (ca : Int) (dy : Int) (e_ca : a_ca.toInt = ca) (e_dy : a_dy.toInt = dy) (h_1 : 0 ≤ ca ∧ ca < 6) (h_2 : okRow (rowM Rw ca)) (h_3 : okF Rw ca) : qP l yX9_yearOf cX9_yearOf 6 (some .int) 2 D t b n (mS t b σ0 I Rw) [.ref (b + 45), .int a_ca, .int a_dy] (fun z => z.toInt = yof (rowM Rw ca) dy) := by
  refine qP.of (by decide +kernel) (Nat.le_of_ble_eq_true rfl) (fun p e s m args below meth c X w ls hl => ?_)
  have hx := X.1
  have hb := X.2.1
  have hl : lv_has ls 6 [(0, .ref (b + 45)), (1, .int a_ca), (2, .int a_dy)] := hl
  refine lv_sipush (v := (-2020)) hx hb dX9_yearOf_0 (by decide) ?_
  refine lv_istore_n (lv' := [(3, .int (-2020)), (0, .ref (b + 45)), (1, .int a_ca), (2, .int a_dy)]) hx hb dX9_yearOf_3 rfl hl (by decide) rfl (fun ls hl => ?_)
  refine lv_sipush (v := 2021) hx hb dX9_yearOf_4 (by decide) ?_
  refine lv_istore (lv' := [(4, .int 2021), (3, .int (-2020)), (0, .ref (b + 45)), (1, .int a_ca), (2, .int a_dy)]) hx hb dX9_yearOf_7 hl (by decide) rfl (fun ls hl => ?_)
  refine q_loop (α := Int32 × Int32 × Int × Int) (fun a => a.1.toInt = a.2.2.1 ∧ a.2.1.toInt = a.2.2.2 ∧ ((-2020 ≤ a.2.2.1 ∧ a.2.2.1 ≤ a.2.2.2 ∧ a.2.2.2 ≤ 2021) ∧ (a.2.2.1 = -2020 ∨ fst (rowM Rw ca) a.2.2.1 ≤ dy) ∧ (a.2.2.2 = 2021 ∨ dy < fst (rowM Rw ca) (a.2.2.2 + 1)))) (fun a => (a.2.2.2 - a.2.2.1).toNat) (fun a => ∀ ls : Array Slot, lv_has ls 6 [(4, .int a.2.1), (3, .int a.1), (0, .ref (b + 45)), (1, .int a_ca), (2, .int a_dy)] → W p l e (qR 2 0 0) s m args below meth c s.heap [] 0 0 (MQ below (vp_Si (fun z => z.toInt = yof (rowM Rw ca) dy)) args s 0 0 (fun _ => False)) (F0 m 9 ls [])) ?_ ⟨(-2020), 2021, (-2020), 2021⟩ ⟨(show ((-2020) : Int32).toInt = (-2020) from rfl), (show (2021 : Int32).toInt = 2021 from rfl), by dsimp only; exact ⟨by omega, Or.inl rfl, Or.inl rfl⟩⟩ ls (lv_sub hl [0, 1, 2, 3, 4] rfl)
  rintro ⟨v_lo, v_hi, lo, hi⟩ ⟨q_lo, q_hi, inv_9⟩ ih_9 ls hl
  dsimp only at q_lo q_hi inv_9 hl
  refine lv_iload_n hx hb dX9_yearOf_9 rfl (lv_at hl 1 rfl) ?_
  refine lv_iload hx hb dX9_yearOf_10 (lv_at hl 0 rfl) ?_
  refine lv_icmp_ge (tgt := 53) hx hb dX9_yearOf_12 (by decide) (fun c_12 => ?_) (fun c_12 => ?_)
  · skip
    have k_12 : hi ≤ lo := (g_le q_hi q_lo).mp c_12
    refine lv_iload_n hx hb dX9_yearOf_53 rfl (lv_at hl 1 rfl) ?_
    exact q_pret X w dX9_yearOf_54 (by rw [q_lo]; exact (yof_eq h_2 (by omega) (by omega) inv_9.2.1 (by rw [show lo = hi by omega]; exact inv_9.2.2)).symm)
  · skip
    have k_12 : ¬ (hi ≤ lo) := fun h => c_12 ((g_le q_hi q_lo).mpr h)
    refine lv_iload_n hx hb dX9_yearOf_15 rfl (lv_at hl 1 rfl) ?_
    refine lv_iload hx hb dX9_yearOf_16 (lv_at hl 0 rfl) ?_
    refine lv_iadd hx hb dX9_yearOf_18 ?_
    refine lv_topi (fun x_18 e_18 => ?_)
    have p_18 : x_18.toInt = (lo + hi) := by rw [e_18]; exact t_add q_lo q_hi (by omega) (by omega)
    refine lv_iconst (v := 1) hx hb dX9_yearOf_19 (by decide) ?_
    refine lv_iadd hx hb dX9_yearOf_20 ?_
    refine lv_topi (fun x_20 e_20 => ?_)
    have p_20 : x_20.toInt = ((lo + hi) + 1) := by rw [e_20]; exact t_add p_18 (show (1 : Int32).toInt = 1 from rfl) (by omega) (by omega)
    refine lv_iconst (v := 2) hx hb dX9_yearOf_21 (by decide) ?_
    refine q_cPS X w (c_J9_floorDiv_7cf53 l x_20 2 ((lo + hi) + 1) 2 p_20 (show (2 : Int32).toInt = 2 from rfl) (by first | assumption | omega) D t b n (mS t b σ0 I Rw)) v_X9_98 rfl ⟨Nat.le_of_ble_eq_true rfl, Nat.le_of_ble_eq_true rfl⟩ rfl hl.1 (Nat.le_of_ble_eq_true rfl) dX9_yearOf_22 ⟨Nat.zero_le _, Nat.zero_le _⟩ (fun r_22 z_22 => ?_)
    refine lv_istore (lv' := [(5, .int r_22), (4, .int v_hi), (3, .int v_lo), (0, .ref (b + 45)), (1, .int a_ca), (2, .int a_dy)]) hx hb dX9_yearOf_25 hl (by decide) rfl (fun ls hl => ?_)
    refine lv_aload_n hx hb dX9_yearOf_27 rfl (lv_at hl 3 rfl) ?_
    refine lv_iload_n hx hb dX9_yearOf_28 rfl (lv_at hl 4 rfl) ?_
    refine lv_iload hx hb dX9_yearOf_29 (lv_at hl 0 rfl) ?_
    refine q_cPV X w (c_X9_first l D t b n σ0 I Rw a_ca r_22 ca (((lo + hi) + 1) / 2) e_ca z_22 (by first | assumption | omega) (by first | assumption | omega) (by first | assumption | omega)) v_X9_101 (k := 45) rfl rfl rfl ⟨Nat.le_of_ble_eq_true rfl, Nat.le_of_ble_eq_true rfl⟩ rfl hl.1 (Nat.le_of_ble_eq_true rfl) dX9_yearOf_31 ⟨Nat.zero_le _, Nat.zero_le _⟩ (fun r_31 z_31 => ?_)
    refine lv_iload_n hx hb dX9_yearOf_34 rfl (lv_at hl 5 rfl) ?_
    refine lv_icmp_gt (tgt := 44) hx hb dX9_yearOf_35 (by decide) (fun c_35 => ?_) (fun c_35 => ?_)
    · skip
      have k_35 : dy < (fst (rowM Rw ca) (((lo + hi) + 1) / 2)) := (g_lt e_dy z_31).mp c_35
      refine lv_iload hx hb dX9_yearOf_44 (lv_at hl 0 rfl) ?_
      refine lv_iconst (v := 1) hx hb dX9_yearOf_46 (by decide) ?_
      refine lv_isub hx hb dX9_yearOf_47 ?_
      refine lv_topi (fun x_47 e_47 => ?_)
      have p_47 : x_47.toInt = ((((lo + hi) + 1) / 2) - 1) := by rw [e_47]; exact t_sub z_22 (show (1 : Int32).toInt = 1 from rfl) (by omega) (by omega)
      refine lv_istore (lv' := [(4, .int x_47), (5, .int r_22), (3, .int v_lo), (0, .ref (b + 45)), (1, .int a_ca), (2, .int a_dy)]) hx hb dX9_yearOf_48 hl (by decide) rfl (fun ls hl => ?_)
      refine lv_goto (tgt := 9) hx hb dX9_yearOf_50 (by decide) ?_
      refine ih_9 ⟨v_lo, x_47, lo, ((((lo + hi) + 1) / 2) - 1)⟩ ⟨q_lo, p_47, by refine ⟨(by dsimp only; omega), ?_, ?_⟩ <;> dsimp only <;> first | exact inv_9.2.1 | exact inv_9.2.2 | exact Or.inr (by omega) | (right; rw [Int.sub_add_cancel]; omega)⟩ (by dsimp only; omega) ls (lv_sub hl [0, 2, 3, 4, 5] rfl)
    · skip
      have k_35 : ¬ (dy < (fst (rowM Rw ca) (((lo + hi) + 1) / 2))) := fun h => c_35 ((g_lt e_dy z_31).mpr h)
      refine lv_iload hx hb dX9_yearOf_38 (lv_at hl 0 rfl) ?_
      refine lv_istore_n (lv' := [(3, .int r_22), (5, .int r_22), (4, .int v_hi), (0, .ref (b + 45)), (1, .int a_ca), (2, .int a_dy)]) hx hb dX9_yearOf_40 rfl hl (by decide) rfl (fun ls hl => ?_)
      refine lv_goto (tgt := 50) hx hb dX9_yearOf_41 (by decide) ?_
      refine lv_goto (tgt := 9) hx hb dX9_yearOf_50 (by decide) ?_
      refine ih_9 ⟨r_22, v_hi, (((lo + hi) + 1) / 2), hi⟩ ⟨z_22, q_hi, by refine ⟨(by dsimp only; omega), ?_, ?_⟩ <;> dsimp only <;> first | exact inv_9.2.1 | exact inv_9.2.2 | exact Or.inr (by omega) | (right; rw [Int.sub_add_cancel]; omega)⟩ (by dsimp only; omega) ls (lv_sub hl [2, 0, 3, 4, 5] rfl)

set_option maxHeartbeats 4000000 in
set_option maxRecDepth 100000 in
theorem c_X9_isInside (l : Launch) (D : va_G) (t : Nat → ClassId) (b n : Nat) (σ0 : qM) (I : Nat → Int32) (Rw : Nat → Nat → Int32) (a_ca : Int32) (a_dy : Int32) (ca : Int) (dy : Int) (e_ca : a_ca.toInt = ca) (e_dy : a_dy.toInt = dy) (h_1 : 0 ≤ ca ∧ ca < 6) (h_2 : okRow (rowM Rw ca)) (h_3 : okF Rw ca) : qP l yX9_isInside cX9_isInside 3 (some .boolean) 1 D t b n (mS t b σ0 I Rw) [.ref (b + 45), .int a_ca, .int a_dy] (fun z => z = bI (decide (fst (rowM Rw ca) (-2000) ≤ dy ∧ dy < fst (rowM Rw ca) 2001))) := by
  refine qP.of (by decide +kernel) (Nat.le_of_ble_eq_true rfl) (fun p e s m args below meth c X w ls hl => ?_)
  have hx := X.1
  have hb := X.2.1
  have hl : lv_has ls 3 [(0, .ref (b + 45)), (1, .int a_ca), (2, .int a_dy)] := hl
  refine lv_iload_n hx hb dX9_isInside_0 rfl (lv_at hl 2 rfl) ?_
  refine lv_aload_n hx hb dX9_isInside_1 rfl (lv_at hl 0 rfl) ?_
  refine lv_iload_n hx hb dX9_isInside_2 rfl (lv_at hl 1 rfl) ?_
  refine lv_sipush (v := (-2000)) hx hb dX9_isInside_3 (by decide) ?_
  refine q_cPV X w (c_X9_first l D t b n σ0 I Rw a_ca (-2000) ca (-2000) e_ca (show ((-2000) : Int32).toInt = (-2000) from rfl) (by first | assumption | omega) (by first | assumption | omega) (by first | assumption | omega)) v_X9_101 (k := 45) rfl rfl rfl ⟨Nat.le_of_ble_eq_true rfl, Nat.le_of_ble_eq_true rfl⟩ rfl hl.1 (Nat.le_of_ble_eq_true rfl) dX9_isInside_6 ⟨Nat.zero_le _, Nat.zero_le _⟩ (fun r_6 z_6 => ?_)
  refine lv_icmp_lt (tgt := 28) hx hb dX9_isInside_9 (by decide) (fun c_9 => ?_) (fun c_9 => ?_)
  · skip
    have k_9 : dy < (fst (rowM Rw ca) (-2000)) := (g_lt e_dy z_6).mp c_9
    refine lv_iconst (v := 0) hx hb dX9_isInside_28 (by decide) ?_
    exact q_pretz X w dX9_isInside_29 (rfl) (by exact bI_0 (by omega))
  · skip
    have k_9 : ¬ (dy < (fst (rowM Rw ca) (-2000))) := fun h => c_9 ((g_lt e_dy z_6).mpr h)
    refine lv_iload_n hx hb dX9_isInside_12 rfl (lv_at hl 2 rfl) ?_
    refine lv_aload_n hx hb dX9_isInside_13 rfl (lv_at hl 0 rfl) ?_
    refine lv_iload_n hx hb dX9_isInside_14 rfl (lv_at hl 1 rfl) ?_
    refine lv_sipush (v := 2001) hx hb dX9_isInside_15 (by decide) ?_
    refine q_cPV X w (c_X9_first l D t b n σ0 I Rw a_ca 2001 ca 2001 e_ca (show (2001 : Int32).toInt = 2001 from rfl) (by first | assumption | omega) (by first | assumption | omega) (by first | assumption | omega)) v_X9_101 (k := 45) rfl rfl rfl ⟨Nat.le_of_ble_eq_true rfl, Nat.le_of_ble_eq_true rfl⟩ rfl hl.1 (Nat.le_of_ble_eq_true rfl) dX9_isInside_18 ⟨Nat.zero_le _, Nat.zero_le _⟩ (fun r_18 z_18 => ?_)
    refine lv_icmp_ge (tgt := 28) hx hb dX9_isInside_21 (by decide) (fun c_21 => ?_) (fun c_21 => ?_)
    · skip
      have k_21 : (fst (rowM Rw ca) 2001) ≤ dy := (g_le z_18 e_dy).mp c_21
      refine lv_iconst (v := 0) hx hb dX9_isInside_28 (by decide) ?_
      exact q_pretz X w dX9_isInside_29 (rfl) (by exact bI_0 (by omega))
    · skip
      have k_21 : ¬ ((fst (rowM Rw ca) 2001) ≤ dy) := fun h => c_21 ((g_le z_18 e_dy).mpr h)
      refine lv_iconst (v := 1) hx hb dX9_isInside_24 (by decide) ?_
      refine lv_goto (tgt := 29) hx hb dX9_isInside_25 (by decide) ?_
      exact q_pretz X w dX9_isInside_29 (rfl) (by exact bI_1 (by omega))

set_option maxHeartbeats 4000000 in
set_option maxRecDepth 100000 in
theorem c_X9_hasMore (l : Launch) (D : va_G) (t : Nat → ClassId) (b n : Nat) (σ0 : qM) (I : Nat → Int32) (Rw : Nat → Nat → Int32) (a_ca : Int32) (a_yr : Int32) (ca : Int) (yr : Int) (e_ca : a_ca.toInt = ca) (e_yr : a_yr.toInt = yr) (h_1 : 0 ≤ ca ∧ ca < 6) (h_2 : okRow (rowM Rw ca)) : qP l yX9_hasMore cX9_hasMore 3 (some .boolean) 2 D t b n (mS t b σ0 I Rw) [.ref (b + 45), .int a_ca, .int a_yr] (fun z => z = bI (decide (rv (rowM Rw ca) 16 = 2 ∧ leap (rowM Rw ca) yr = true))) := by
  refine qP.of (by decide +kernel) (Nat.le_of_ble_eq_true rfl) (fun p e s m args below meth c X w ls hl => ?_)
  have hx := X.1
  have hb := X.2.1
  have hl : lv_has ls 3 [(0, .ref (b + 45)), (1, .int a_ca), (2, .int a_yr)] := hl
  refine lv_aload_n hx hb dX9_hasMore_0 rfl (lv_at hl 0 rfl) ?_
  refine lv_iload_n hx hb dX9_hasMore_1 rfl (lv_at hl 1 rfl) ?_
  refine lv_bipush (v := 16) hx hb dX9_hasMore_2 (by decide) ?_
  refine q_cPV X w (c_X9_of l D t b n σ0 I Rw a_ca 16 ca 16 e_ca (show (16 : Int32).toInt = 16 from rfl) (by first | assumption | omega) (by first | assumption | omega)) v_X9_80 (k := 45) rfl rfl rfl ⟨Nat.le_of_ble_eq_true rfl, Nat.le_of_ble_eq_true rfl⟩ rfl hl.1 (Nat.le_of_ble_eq_true rfl) dX9_hasMore_4 ⟨Nat.zero_le _, Nat.zero_le _⟩ (fun r_4 z_4 => ?_)
  refine lv_iconst (v := 2) hx hb dX9_hasMore_7 (by decide) ?_
  refine lv_icmp_ne (tgt := 24) hx hb dX9_hasMore_8 (by decide) (fun c_8 => ?_) (fun c_8 => ?_)
  · skip
    have k_8 : ¬ ((rv (rowM Rw ca) 16) = 2) := fun h => c_8 ((g_eq (congrArg Int32.toInt z_4) (show (2 : Int32).toInt = 2 from rfl)).mpr h)
    refine lv_iconst (v := 0) hx hb dX9_hasMore_24 (by decide) ?_
    exact q_pretz X w dX9_hasMore_25 (rfl) (by exact bI_0 (by first | exact ⟨k_8, k_17⟩ | exact fun q => k_8 q.1 | exact fun q => k_17 q.2))
  · skip
    have k_8 : (rv (rowM Rw ca) 16) = 2 := (g_eq (congrArg Int32.toInt z_4) (show (2 : Int32).toInt = 2 from rfl)).mp c_8
    refine lv_aload_n hx hb dX9_hasMore_11 rfl (lv_at hl 0 rfl) ?_
    refine lv_iload_n hx hb dX9_hasMore_12 rfl (lv_at hl 1 rfl) ?_
    refine lv_iload_n hx hb dX9_hasMore_13 rfl (lv_at hl 2 rfl) ?_
    refine q_cPV X w (c_X9_isLeap l D t b n σ0 I Rw a_ca a_yr ca yr e_ca e_yr (by first | assumption | omega) (by first | assumption | omega)) v_X9_88 (k := 45) rfl rfl rfl ⟨Nat.le_of_ble_eq_true rfl, Nat.le_of_ble_eq_true rfl⟩ rfl hl.1 (Nat.le_of_ble_eq_true rfl) dX9_hasMore_14 ⟨Nat.zero_le _, Nat.zero_le _⟩ (fun r_14 z_14 => ?_)
    refine lv_if_eq (tgt := 24) hx hb dX9_hasMore_17 (by decide) (fun c_17 => ?_) (fun c_17 => ?_)
    · skip
      rw [z_14] at c_17
      have k_17 := bI_f.mp c_17
      refine lv_iconst (v := 0) hx hb dX9_hasMore_24 (by decide) ?_
      exact q_pretz X w dX9_hasMore_25 (rfl) (by exact bI_0 (by first | exact ⟨k_8, k_17⟩ | exact fun q => k_8 q.1 | exact fun q => k_17 q.2))
    · skip
      rw [z_14] at c_17
      have k_17 := bI_t.mp c_17
      refine lv_iconst (v := 1) hx hb dX9_hasMore_20 (by decide) ?_
      refine lv_goto (tgt := 25) hx hb dX9_hasMore_21 (by decide) ?_
      exact q_pretz X w dX9_hasMore_25 (rfl) (by exact bI_1 (by first | exact ⟨k_8, k_17⟩ | exact fun q => k_8 q.1 | exact fun q => k_17 q.2))

set_option maxHeartbeats 4000000 in
set_option maxRecDepth 100000 in
theorem c_X9_monthsOf (l : Launch) (D : va_G) (t : Nat → ClassId) (b n : Nat) (σ0 : qM) (I : Nat → Int32) (Rw : Nat → Nat → Int32) (a_ca : Int32) (a_yr : Int32) (ca : Int) (yr : Int) (e_ca : a_ca.toInt = ca) (e_yr : a_yr.toInt = yr) (h_1 : 0 ≤ ca ∧ ca < 6) (h_2 : okRow (rowM Rw ca)) : qP l yX9_monthsOf cX9_monthsOf 3 (some .int) 3 D t b n (mS t b σ0 I Rw) [.ref (b + 45), .int a_ca, .int a_yr] (fun z => z.toInt = mcnt (rowM Rw ca) yr) := by
  refine qP.of (by decide +kernel) (Nat.le_of_ble_eq_true rfl) (fun p e s m args below meth c X w ls hl => ?_)
  have hx := X.1
  have hb := X.2.1
  have hl : lv_has ls 3 [(0, .ref (b + 45)), (1, .int a_ca), (2, .int a_yr)] := hl
  have hm := h_2.months
  refine lv_aload_n hx hb dX9_monthsOf_0 rfl (lv_at hl 0 rfl) ?_
  refine lv_iload_n hx hb dX9_monthsOf_1 rfl (lv_at hl 1 rfl) ?_
  refine lv_iconst (v := 0) hx hb dX9_monthsOf_2 (by decide) ?_
  refine q_cPV X w (c_X9_of l D t b n σ0 I Rw a_ca 0 ca 0 e_ca (show (0 : Int32).toInt = 0 from rfl) (by first | assumption | omega) (by first | assumption | omega)) v_X9_80 (k := 45) rfl rfl rfl ⟨Nat.le_of_ble_eq_true rfl, Nat.le_of_ble_eq_true rfl⟩ rfl hl.1 (Nat.le_of_ble_eq_true rfl) dX9_monthsOf_3 ⟨Nat.zero_le _, Nat.zero_le _⟩ (fun r_3 z_3 => ?_)
  refine lv_aload_n hx hb dX9_monthsOf_6 rfl (lv_at hl 0 rfl) ?_
  refine lv_iload_n hx hb dX9_monthsOf_7 rfl (lv_at hl 1 rfl) ?_
  refine lv_iload_n hx hb dX9_monthsOf_8 rfl (lv_at hl 2 rfl) ?_
  refine q_cPV X w (c_X9_hasMore l D t b n σ0 I Rw a_ca a_yr ca yr e_ca e_yr (by first | assumption | omega) (by first | assumption | omega)) v_X9_104 (k := 45) rfl rfl rfl ⟨Nat.le_of_ble_eq_true rfl, Nat.le_of_ble_eq_true rfl⟩ rfl hl.1 (Nat.le_of_ble_eq_true rfl) dX9_monthsOf_9 ⟨Nat.zero_le _, Nat.zero_le _⟩ (fun r_9 z_9 => ?_)
  refine lv_if_eq (tgt := 19) hx hb dX9_monthsOf_12 (by decide) (fun c_12 => ?_) (fun c_12 => ?_)
  · skip
    rw [z_9] at c_12
    have k_12 := bI_f.mp c_12
    refine lv_iconst (v := 0) hx hb dX9_monthsOf_19 (by decide) ?_
    refine lv_iadd hx hb dX9_monthsOf_20 ?_
    refine lv_topi (fun x_20 e_20 => ?_)
    have p_20 : x_20.toInt = ((rv (rowM Rw ca) 0) + 0) := by rw [e_20]; exact t_add (congrArg Int32.toInt z_3) (show (0 : Int32).toInt = 0 from rfl) (by omega) (by omega)
    exact q_pret X w dX9_monthsOf_21 (by rw [p_20]; unfold mcnt; first | rw [if_pos k_12] | rw [if_neg k_12])
  · skip
    rw [z_9] at c_12
    have k_12 := bI_t.mp c_12
    refine lv_iconst (v := 1) hx hb dX9_monthsOf_15 (by decide) ?_
    refine lv_goto (tgt := 20) hx hb dX9_monthsOf_16 (by decide) ?_
    refine lv_iadd hx hb dX9_monthsOf_20 ?_
    refine lv_topi (fun x_20 e_20 => ?_)
    have p_20 : x_20.toInt = ((rv (rowM Rw ca) 0) + 1) := by rw [e_20]; exact t_add (congrArg Int32.toInt z_3) (show (1 : Int32).toInt = 1 from rfl) (by omega) (by omega)
    exact q_pret X w dX9_monthsOf_21 (by rw [p_20]; unfold mcnt; first | rw [if_pos k_12] | rw [if_neg k_12])

set_option maxHeartbeats 4000000 in
set_option maxRecDepth 100000 in
theorem c_X9_isMore (l : Launch) (D : va_G) (t : Nat → ClassId) (b n : Nat) (σ0 : qM) (I : Nat → Int32) (Rw : Nat → Nat → Int32) (a_ca : Int32) (a_yr : Int32) (a_mo : Int32) (ca : Int) (yr : Int) (mo : Int) (e_ca : a_ca.toInt = ca) (e_yr : a_yr.toInt = yr) (e_mo : a_mo.toInt = mo) (h_1 : 0 ≤ ca ∧ ca < 6) (h_2 : okRow (rowM Rw ca)) : qP l yX9_isMore cX9_isMore 4 (some .boolean) 3 D t b n (mS t b σ0 I Rw) [.ref (b + 45), .int a_ca, .int a_yr, .int a_mo] (fun z => z = bI (decide ((rv (rowM Rw ca) 16 = 2 ∧ leap (rowM Rw ca) yr = true) ∧ mo = rv (rowM Rw ca) 17 + 1))) := by
  refine qP.of (by decide +kernel) (Nat.le_of_ble_eq_true rfl) (fun p e s m args below meth c X w ls hl => ?_)
  have hx := X.1
  have hb := X.2.1
  have hl : lv_has ls 4 [(0, .ref (b + 45)), (1, .int a_ca), (2, .int a_yr), (3, .int a_mo)] := hl
  refine lv_aload_n hx hb dX9_isMore_0 rfl (lv_at hl 0 rfl) ?_
  refine lv_iload_n hx hb dX9_isMore_1 rfl (lv_at hl 1 rfl) ?_
  refine lv_iload_n hx hb dX9_isMore_2 rfl (lv_at hl 2 rfl) ?_
  refine q_cPV X w (c_X9_hasMore l D t b n σ0 I Rw a_ca a_yr ca yr e_ca e_yr (by first | assumption | omega) (by first | assumption | omega)) v_X9_104 (k := 45) rfl rfl rfl ⟨Nat.le_of_ble_eq_true rfl, Nat.le_of_ble_eq_true rfl⟩ rfl hl.1 (Nat.le_of_ble_eq_true rfl) dX9_isMore_3 ⟨Nat.zero_le _, Nat.zero_le _⟩ (fun r_3 z_3 => ?_)
  refine lv_if_eq (tgt := 26) hx hb dX9_isMore_6 (by decide) (fun c_6 => ?_) (fun c_6 => ?_)
  · skip
    rw [z_3] at c_6
    have k_6 := bI_f.mp c_6
    refine lv_iconst (v := 0) hx hb dX9_isMore_26 (by decide) ?_
    exact q_pretz X w dX9_isMore_27 (rfl) (by exact bI_0 (by first | exact ⟨k_6, k_19⟩ | exact fun q => k_6 q.1 | exact fun q => k_19 q.2))
  · skip
    rw [z_3] at c_6
    have k_6 := bI_t.mp c_6
    have hL := h_2.lm (by omega)
    have hm := h_2.months
    refine lv_iload_n hx hb dX9_isMore_9 rfl (lv_at hl 3 rfl) ?_
    refine lv_aload_n hx hb dX9_isMore_10 rfl (lv_at hl 0 rfl) ?_
    refine lv_iload_n hx hb dX9_isMore_11 rfl (lv_at hl 1 rfl) ?_
    refine lv_bipush (v := 17) hx hb dX9_isMore_12 (by decide) ?_
    refine q_cPV X w (c_X9_of l D t b n σ0 I Rw a_ca 17 ca 17 e_ca (show (17 : Int32).toInt = 17 from rfl) (by first | assumption | omega) (by first | assumption | omega)) v_X9_80 (k := 45) rfl rfl rfl ⟨Nat.le_of_ble_eq_true rfl, Nat.le_of_ble_eq_true rfl⟩ rfl hl.1 (Nat.le_of_ble_eq_true rfl) dX9_isMore_14 ⟨Nat.zero_le _, Nat.zero_le _⟩ (fun r_14 z_14 => ?_)
    refine lv_iconst (v := 1) hx hb dX9_isMore_17 (by decide) ?_
    refine lv_iadd hx hb dX9_isMore_18 ?_
    refine lv_topi (fun x_18 e_18 => ?_)
    have p_18 : x_18.toInt = ((rv (rowM Rw ca) 17) + 1) := by rw [e_18]; exact t_add (congrArg Int32.toInt z_14) (show (1 : Int32).toInt = 1 from rfl) (by omega) (by omega)
    refine lv_icmp_ne (tgt := 26) hx hb dX9_isMore_19 (by decide) (fun c_19 => ?_) (fun c_19 => ?_)
    · skip
      have k_19 : ¬ (mo = ((rv (rowM Rw ca) 17) + 1)) := fun h => c_19 ((g_eq e_mo p_18).mpr h)
      refine lv_iconst (v := 0) hx hb dX9_isMore_26 (by decide) ?_
      exact q_pretz X w dX9_isMore_27 (rfl) (by exact bI_0 (by first | exact ⟨k_6, k_19⟩ | exact fun q => k_6 q.1 | exact fun q => k_19 q.2))
    · skip
      have k_19 : mo = ((rv (rowM Rw ca) 17) + 1) := (g_eq e_mo p_18).mp c_19
      refine lv_iconst (v := 1) hx hb dX9_isMore_22 (by decide) ?_
      refine lv_goto (tgt := 27) hx hb dX9_isMore_23 (by decide) ?_
      exact q_pretz X w dX9_isMore_27 (rfl) (by exact bI_1 (by first | exact ⟨k_6, k_19⟩ | exact fun q => k_6 q.1 | exact fun q => k_19 q.2))

set_option maxHeartbeats 4000000 in
set_option maxRecDepth 100000 in
theorem c_X9_lengthOfMonth (l : Launch) (D : va_G) (t : Nat → ClassId) (b n : Nat) (σ0 : qM) (I : Nat → Int32) (Rw : Nat → Nat → Int32) (a_ca : Int32) (a_yr : Int32) (a_mo : Int32) (ca : Int) (yr : Int) (mo : Int) (e_ca : a_ca.toInt = ca) (e_yr : a_yr.toInt = yr) (e_mo : a_mo.toInt = mo) (h_1 : 0 ≤ ca ∧ ca < 6) (h_2 : okRow (rowM Rw ca)) (h_3 : 1 ≤ mo ∧ mo ≤ mcnt (rowM Rw ca) yr) : qP l yX9_lengthOfMonth cX9_lengthOfMonth 5 (some .int) 4 D t b n (mS t b σ0 I Rw) [.ref (b + 45), .int a_ca, .int a_yr, .int a_mo] (fun z => z.toInt = mlen (rowM Rw ca) yr mo) := by
  refine qP.of (by decide +kernel) (Nat.le_of_ble_eq_true rfl) (fun p e s m args below meth c X w ls hl => ?_)
  have hx := X.1
  have hb := X.2.1
  have hl : lv_has ls 5 [(0, .ref (b + 45)), (1, .int a_ca), (2, .int a_yr), (3, .int a_mo)] := hl
  have hm := h_2.months
  have hc := mcnt_bd h_2 yr
  refine lv_aload_n hx hb dX9_lengthOfMonth_0 rfl (lv_at hl 0 rfl) ?_
  refine lv_iload_n hx hb dX9_lengthOfMonth_1 rfl (lv_at hl 1 rfl) ?_
  refine lv_iload_n hx hb dX9_lengthOfMonth_2 rfl (lv_at hl 2 rfl) ?_
  refine lv_iload_n hx hb dX9_lengthOfMonth_3 rfl (lv_at hl 3 rfl) ?_
  refine q_cPV X w (c_X9_isMore l D t b n σ0 I Rw a_ca a_yr a_mo ca yr mo e_ca e_yr e_mo (by first | assumption | omega) (by first | assumption | omega)) v_X9_107 (k := 45) rfl rfl rfl ⟨Nat.le_of_ble_eq_true rfl, Nat.le_of_ble_eq_true rfl⟩ rfl hl.1 (Nat.le_of_ble_eq_true rfl) dX9_lengthOfMonth_4 ⟨Nat.zero_le _, Nat.zero_le _⟩ (fun r_4 z_4 => ?_)
  refine lv_if_eq (tgt := 18) hx hb dX9_lengthOfMonth_7 (by decide) (fun c_7 => ?_) (fun c_7 => ?_)
  · skip
    rw [z_4] at c_7
    have k_7 := bI_f.mp c_7
    refine lv_aload_n hx hb dX9_lengthOfMonth_18 rfl (lv_at hl 0 rfl) ?_
    refine lv_iload_n hx hb dX9_lengthOfMonth_19 rfl (lv_at hl 1 rfl) ?_
    refine lv_iload_n hx hb dX9_lengthOfMonth_20 rfl (lv_at hl 2 rfl) ?_
    refine q_cPV X w (c_X9_hasMore l D t b n σ0 I Rw a_ca a_yr ca yr e_ca e_yr (by first | assumption | omega) (by first | assumption | omega)) v_X9_104 (k := 45) rfl rfl rfl ⟨Nat.le_of_ble_eq_true rfl, Nat.le_of_ble_eq_true rfl⟩ rfl hl.1 (Nat.le_of_ble_eq_true rfl) dX9_lengthOfMonth_21 ⟨Nat.zero_le _, Nat.zero_le _⟩ (fun r_21 z_21 => ?_)
    refine lv_if_eq (tgt := 44) hx hb dX9_lengthOfMonth_24 (by decide) (fun c_24 => ?_) (fun c_24 => ?_)
    · skip
      rw [z_21] at c_24
      have k_24 := bI_f.mp c_24
      have hu := mcnt_f k_24
      refine lv_iload_n hx hb dX9_lengthOfMonth_44 rfl (lv_at hl 3 rfl) ?_
      refine lv_istore (lv' := [(4, .int a_mo), (0, .ref (b + 45)), (1, .int a_ca), (2, .int a_yr), (3, .int a_mo)]) hx hb dX9_lengthOfMonth_45 hl (by decide) rfl (fun ls hl => ?_)
      have hB := h_2.mb (i := (1 + mo) - 1) (by omega) (by omega)
      refine lv_aload_n hx hb dX9_lengthOfMonth_47 rfl (lv_at hl 1 rfl) ?_
      refine lv_iload_n hx hb dX9_lengthOfMonth_48 rfl (lv_at hl 2 rfl) ?_
      refine lv_iconst (v := 1) hx hb dX9_lengthOfMonth_49 (by decide) ?_
      refine lv_iload hx hb dX9_lengthOfMonth_50 (lv_at hl 0 rfl) ?_
      refine lv_iadd hx hb dX9_lengthOfMonth_52 ?_
      refine lv_topi (fun x_52 e_52 => ?_)
      have p_52 : x_52.toInt = (1 + mo) := by rw [e_52]; exact t_add (show (1 : Int32).toInt = 1 from rfl) e_mo (by omega) (by omega)
      refine lv_iconst (v := 1) hx hb dX9_lengthOfMonth_53 (by decide) ?_
      refine lv_isub hx hb dX9_lengthOfMonth_54 ?_
      refine lv_topi (fun x_54 e_54 => ?_)
      have p_54 : x_54.toInt = ((1 + mo) - 1) := by rw [e_54]; exact t_sub p_52 (show (1 : Int32).toInt = 1 from rfl) (by omega) (by omega)
      refine q_cPV X w (c_X9_of l D t b n σ0 I Rw a_ca x_54 ca ((1 + mo) - 1) e_ca p_54 (by first | assumption | omega) (by first | assumption | omega)) v_X9_80 (k := 45) rfl rfl rfl ⟨Nat.le_of_ble_eq_true rfl, Nat.le_of_ble_eq_true rfl⟩ rfl hl.1 (Nat.le_of_ble_eq_true rfl) dX9_lengthOfMonth_55 ⟨Nat.zero_le _, Nat.zero_le _⟩ (fun r_55 z_55 => ?_)
      refine lv_aload_n hx hb dX9_lengthOfMonth_58 rfl (lv_at hl 1 rfl) ?_
      refine lv_iload_n hx hb dX9_lengthOfMonth_59 rfl (lv_at hl 2 rfl) ?_
      refine lv_bipush (v := 16) hx hb dX9_lengthOfMonth_60 (by decide) ?_
      refine q_cPV X w (c_X9_of l D t b n σ0 I Rw a_ca 16 ca 16 e_ca (show (16 : Int32).toInt = 16 from rfl) (by first | assumption | omega) (by first | assumption | omega)) v_X9_80 (k := 45) rfl rfl rfl ⟨Nat.le_of_ble_eq_true rfl, Nat.le_of_ble_eq_true rfl⟩ rfl hl.1 (Nat.le_of_ble_eq_true rfl) dX9_lengthOfMonth_62 ⟨Nat.zero_le _, Nat.zero_le _⟩ (fun r_62 z_62 => ?_)
      refine lv_iconst (v := 1) hx hb dX9_lengthOfMonth_65 (by decide) ?_
      refine lv_icmp_ne (tgt := 94) hx hb dX9_lengthOfMonth_66 (by decide) (fun c_66 => ?_) (fun c_66 => ?_)
      · skip
        have k_66 : ¬ ((rv (rowM Rw ca) 16) = 1) := fun h => c_66 ((g_eq (congrArg Int32.toInt z_62) (show (1 : Int32).toInt = 1 from rfl)).mpr h)
        refine lv_iconst (v := 0) hx hb dX9_lengthOfMonth_94 (by decide) ?_
        refine lv_iadd hx hb dX9_lengthOfMonth_95 ?_
        refine lv_topi (fun x_95 e_95 => ?_)
        have p_95 : x_95.toInt = ((rv (rowM Rw ca) ((1 + mo) - 1)) + 0) := by rw [e_95]; exact t_add (congrArg Int32.toInt z_55) (show (0 : Int32).toInt = 0 from rfl) (by omega) (by omega)
        exact q_pret X w dX9_lengthOfMonth_96 (by rw [p_95]; unfold mlen; rw [if_neg k_7]; rw [if_neg (fun q => k_24 q.1)]; rw [if_neg (fun q => k_66 q.1), show (1 + mo) - 1 = mo by omega])
      · skip
        have k_66 : (rv (rowM Rw ca) 16) = 1 := (g_eq (congrArg Int32.toInt z_62) (show (1 : Int32).toInt = 1 from rfl)).mp c_66
        refine lv_iload hx hb dX9_lengthOfMonth_69 (lv_at hl 0 rfl) ?_
        refine lv_aload_n hx hb dX9_lengthOfMonth_71 rfl (lv_at hl 1 rfl) ?_
        refine lv_iload_n hx hb dX9_lengthOfMonth_72 rfl (lv_at hl 2 rfl) ?_
        refine lv_bipush (v := 17) hx hb dX9_lengthOfMonth_73 (by decide) ?_
        refine q_cPV X w (c_X9_of l D t b n σ0 I Rw a_ca 17 ca 17 e_ca (show (17 : Int32).toInt = 17 from rfl) (by first | assumption | omega) (by first | assumption | omega)) v_X9_80 (k := 45) rfl rfl rfl ⟨Nat.le_of_ble_eq_true rfl, Nat.le_of_ble_eq_true rfl⟩ rfl hl.1 (Nat.le_of_ble_eq_true rfl) dX9_lengthOfMonth_75 ⟨Nat.zero_le _, Nat.zero_le _⟩ (fun r_75 z_75 => ?_)
        refine lv_icmp_ne (tgt := 94) hx hb dX9_lengthOfMonth_78 (by decide) (fun c_78 => ?_) (fun c_78 => ?_)
        · skip
          have k_78 : ¬ (mo = (rv (rowM Rw ca) 17)) := fun h => c_78 ((g_eq e_mo (congrArg Int32.toInt z_75)).mpr h)
          refine lv_iconst (v := 0) hx hb dX9_lengthOfMonth_94 (by decide) ?_
          refine lv_iadd hx hb dX9_lengthOfMonth_95 ?_
          refine lv_topi (fun x_95 e_95 => ?_)
          have p_95 : x_95.toInt = ((rv (rowM Rw ca) ((1 + mo) - 1)) + 0) := by rw [e_95]; exact t_add (congrArg Int32.toInt z_55) (show (0 : Int32).toInt = 0 from rfl) (by omega) (by omega)
          exact q_pret X w dX9_lengthOfMonth_96 (by rw [p_95]; unfold mlen; rw [if_neg k_7]; rw [if_neg (fun q => k_24 q.1)]; rw [if_neg (fun q => k_78 q.2.1), show (1 + mo) - 1 = mo by omega])
        · skip
          have k_78 : mo = (rv (rowM Rw ca) 17) := (g_eq e_mo (congrArg Int32.toInt z_75)).mp c_78
          refine lv_aload_n hx hb dX9_lengthOfMonth_81 rfl (lv_at hl 1 rfl) ?_
          refine lv_iload_n hx hb dX9_lengthOfMonth_82 rfl (lv_at hl 2 rfl) ?_
          refine lv_iload_n hx hb dX9_lengthOfMonth_83 rfl (lv_at hl 3 rfl) ?_
          refine q_cPV X w (c_X9_isLeap l D t b n σ0 I Rw a_ca a_yr ca yr e_ca e_yr (by first | assumption | omega) (by first | assumption | omega)) v_X9_88 (k := 45) rfl rfl rfl ⟨Nat.le_of_ble_eq_true rfl, Nat.le_of_ble_eq_true rfl⟩ rfl hl.1 (Nat.le_of_ble_eq_true rfl) dX9_lengthOfMonth_84 ⟨Nat.zero_le _, Nat.zero_le _⟩ (fun r_84 z_84 => ?_)
          refine lv_if_eq (tgt := 94) hx hb dX9_lengthOfMonth_87 (by decide) (fun c_87 => ?_) (fun c_87 => ?_)
          · skip
            rw [z_84] at c_87
            have k_87 := bI_f.mp c_87
            refine lv_iconst (v := 0) hx hb dX9_lengthOfMonth_94 (by decide) ?_
            refine lv_iadd hx hb dX9_lengthOfMonth_95 ?_
            refine lv_topi (fun x_95 e_95 => ?_)
            have p_95 : x_95.toInt = ((rv (rowM Rw ca) ((1 + mo) - 1)) + 0) := by rw [e_95]; exact t_add (congrArg Int32.toInt z_55) (show (0 : Int32).toInt = 0 from rfl) (by omega) (by omega)
            exact q_pret X w dX9_lengthOfMonth_96 (by rw [p_95]; unfold mlen; rw [if_neg k_7]; rw [if_neg (fun q => k_24 q.1)]; rw [if_neg (fun q => k_87 q.2.2), show (1 + mo) - 1 = mo by omega])
          · skip
            rw [z_84] at c_87
            have k_87 := bI_t.mp c_87
            refine lv_iconst (v := 1) hx hb dX9_lengthOfMonth_90 (by decide) ?_
            refine lv_goto (tgt := 95) hx hb dX9_lengthOfMonth_91 (by decide) ?_
            refine lv_iadd hx hb dX9_lengthOfMonth_95 ?_
            refine lv_topi (fun x_95 e_95 => ?_)
            have p_95 : x_95.toInt = ((rv (rowM Rw ca) ((1 + mo) - 1)) + 1) := by rw [e_95]; exact t_add (congrArg Int32.toInt z_55) (show (1 : Int32).toInt = 1 from rfl) (by omega) (by omega)
            exact q_pret X w dX9_lengthOfMonth_96 (by rw [p_95]; unfold mlen; rw [if_neg k_7]; rw [if_neg (fun q => k_24 q.1)]; rw [if_pos ⟨k_66, k_78, k_87⟩, show (1 + mo) - 1 = mo by omega])
    · skip
      rw [z_21] at c_24
      have k_24 := bI_t.mp c_24
      have hu := mcnt_t k_24
      have hL := h_2.lm (by omega)
      refine lv_iload_n hx hb dX9_lengthOfMonth_27 rfl (lv_at hl 3 rfl) ?_
      refine lv_aload_n hx hb dX9_lengthOfMonth_28 rfl (lv_at hl 0 rfl) ?_
      refine lv_iload_n hx hb dX9_lengthOfMonth_29 rfl (lv_at hl 1 rfl) ?_
      refine lv_bipush (v := 17) hx hb dX9_lengthOfMonth_30 (by decide) ?_
      refine q_cPV X w (c_X9_of l D t b n σ0 I Rw a_ca 17 ca 17 e_ca (show (17 : Int32).toInt = 17 from rfl) (by first | assumption | omega) (by first | assumption | omega)) v_X9_80 (k := 45) rfl rfl rfl ⟨Nat.le_of_ble_eq_true rfl, Nat.le_of_ble_eq_true rfl⟩ rfl hl.1 (Nat.le_of_ble_eq_true rfl) dX9_lengthOfMonth_32 ⟨Nat.zero_le _, Nat.zero_le _⟩ (fun r_32 z_32 => ?_)
      refine lv_icmp_le (tgt := 44) hx hb dX9_lengthOfMonth_35 (by decide) (fun c_35 => ?_) (fun c_35 => ?_)
      · skip
        have k_35 : mo ≤ (rv (rowM Rw ca) 17) := (g_le e_mo (congrArg Int32.toInt z_32)).mp c_35
        refine lv_iload_n hx hb dX9_lengthOfMonth_44 rfl (lv_at hl 3 rfl) ?_
        refine lv_istore (lv' := [(4, .int a_mo), (0, .ref (b + 45)), (1, .int a_ca), (2, .int a_yr), (3, .int a_mo)]) hx hb dX9_lengthOfMonth_45 hl (by decide) rfl (fun ls hl => ?_)
        have hB := h_2.mb (i := (1 + mo) - 1) (by omega) (by omega)
        refine lv_aload_n hx hb dX9_lengthOfMonth_47 rfl (lv_at hl 1 rfl) ?_
        refine lv_iload_n hx hb dX9_lengthOfMonth_48 rfl (lv_at hl 2 rfl) ?_
        refine lv_iconst (v := 1) hx hb dX9_lengthOfMonth_49 (by decide) ?_
        refine lv_iload hx hb dX9_lengthOfMonth_50 (lv_at hl 0 rfl) ?_
        refine lv_iadd hx hb dX9_lengthOfMonth_52 ?_
        refine lv_topi (fun x_52 e_52 => ?_)
        have p_52 : x_52.toInt = (1 + mo) := by rw [e_52]; exact t_add (show (1 : Int32).toInt = 1 from rfl) e_mo (by omega) (by omega)
        refine lv_iconst (v := 1) hx hb dX9_lengthOfMonth_53 (by decide) ?_
        refine lv_isub hx hb dX9_lengthOfMonth_54 ?_
        refine lv_topi (fun x_54 e_54 => ?_)
        have p_54 : x_54.toInt = ((1 + mo) - 1) := by rw [e_54]; exact t_sub p_52 (show (1 : Int32).toInt = 1 from rfl) (by omega) (by omega)
        refine q_cPV X w (c_X9_of l D t b n σ0 I Rw a_ca x_54 ca ((1 + mo) - 1) e_ca p_54 (by first | assumption | omega) (by first | assumption | omega)) v_X9_80 (k := 45) rfl rfl rfl ⟨Nat.le_of_ble_eq_true rfl, Nat.le_of_ble_eq_true rfl⟩ rfl hl.1 (Nat.le_of_ble_eq_true rfl) dX9_lengthOfMonth_55 ⟨Nat.zero_le _, Nat.zero_le _⟩ (fun r_55 z_55 => ?_)
        refine lv_aload_n hx hb dX9_lengthOfMonth_58 rfl (lv_at hl 1 rfl) ?_
        refine lv_iload_n hx hb dX9_lengthOfMonth_59 rfl (lv_at hl 2 rfl) ?_
        refine lv_bipush (v := 16) hx hb dX9_lengthOfMonth_60 (by decide) ?_
        refine q_cPV X w (c_X9_of l D t b n σ0 I Rw a_ca 16 ca 16 e_ca (show (16 : Int32).toInt = 16 from rfl) (by first | assumption | omega) (by first | assumption | omega)) v_X9_80 (k := 45) rfl rfl rfl ⟨Nat.le_of_ble_eq_true rfl, Nat.le_of_ble_eq_true rfl⟩ rfl hl.1 (Nat.le_of_ble_eq_true rfl) dX9_lengthOfMonth_62 ⟨Nat.zero_le _, Nat.zero_le _⟩ (fun r_62 z_62 => ?_)
        refine lv_iconst (v := 1) hx hb dX9_lengthOfMonth_65 (by decide) ?_
        refine lv_icmp_ne (tgt := 94) hx hb dX9_lengthOfMonth_66 (by decide) (fun c_66 => ?_) (fun c_66 => ?_)
        · skip
          have k_66 : ¬ ((rv (rowM Rw ca) 16) = 1) := fun h => c_66 ((g_eq (congrArg Int32.toInt z_62) (show (1 : Int32).toInt = 1 from rfl)).mpr h)
          refine lv_iconst (v := 0) hx hb dX9_lengthOfMonth_94 (by decide) ?_
          refine lv_iadd hx hb dX9_lengthOfMonth_95 ?_
          refine lv_topi (fun x_95 e_95 => ?_)
          have p_95 : x_95.toInt = ((rv (rowM Rw ca) ((1 + mo) - 1)) + 0) := by rw [e_95]; exact t_add (congrArg Int32.toInt z_55) (show (0 : Int32).toInt = 0 from rfl) (by omega) (by omega)
          exact q_pret X w dX9_lengthOfMonth_96 (by rw [p_95]; unfold mlen; rw [if_neg k_7]; rw [if_neg (fun q => absurd q.2 (by omega))]; rw [if_neg (fun q => k_66 q.1), show (1 + mo) - 1 = mo by omega])
        · skip
          have k_66 : (rv (rowM Rw ca) 16) = 1 := (g_eq (congrArg Int32.toInt z_62) (show (1 : Int32).toInt = 1 from rfl)).mp c_66
          refine lv_iload hx hb dX9_lengthOfMonth_69 (lv_at hl 0 rfl) ?_
          refine lv_aload_n hx hb dX9_lengthOfMonth_71 rfl (lv_at hl 1 rfl) ?_
          refine lv_iload_n hx hb dX9_lengthOfMonth_72 rfl (lv_at hl 2 rfl) ?_
          refine lv_bipush (v := 17) hx hb dX9_lengthOfMonth_73 (by decide) ?_
          refine q_cPV X w (c_X9_of l D t b n σ0 I Rw a_ca 17 ca 17 e_ca (show (17 : Int32).toInt = 17 from rfl) (by first | assumption | omega) (by first | assumption | omega)) v_X9_80 (k := 45) rfl rfl rfl ⟨Nat.le_of_ble_eq_true rfl, Nat.le_of_ble_eq_true rfl⟩ rfl hl.1 (Nat.le_of_ble_eq_true rfl) dX9_lengthOfMonth_75 ⟨Nat.zero_le _, Nat.zero_le _⟩ (fun r_75 z_75 => ?_)
          refine lv_icmp_ne (tgt := 94) hx hb dX9_lengthOfMonth_78 (by decide) (fun c_78 => ?_) (fun c_78 => ?_)
          · skip
            have k_78 : ¬ (mo = (rv (rowM Rw ca) 17)) := fun h => c_78 ((g_eq e_mo (congrArg Int32.toInt z_75)).mpr h)
            refine lv_iconst (v := 0) hx hb dX9_lengthOfMonth_94 (by decide) ?_
            refine lv_iadd hx hb dX9_lengthOfMonth_95 ?_
            refine lv_topi (fun x_95 e_95 => ?_)
            have p_95 : x_95.toInt = ((rv (rowM Rw ca) ((1 + mo) - 1)) + 0) := by rw [e_95]; exact t_add (congrArg Int32.toInt z_55) (show (0 : Int32).toInt = 0 from rfl) (by omega) (by omega)
            exact q_pret X w dX9_lengthOfMonth_96 (by exfalso; omega)
          · skip
            have k_78 : mo = (rv (rowM Rw ca) 17) := (g_eq e_mo (congrArg Int32.toInt z_75)).mp c_78
            refine lv_aload_n hx hb dX9_lengthOfMonth_81 rfl (lv_at hl 1 rfl) ?_
            refine lv_iload_n hx hb dX9_lengthOfMonth_82 rfl (lv_at hl 2 rfl) ?_
            refine lv_iload_n hx hb dX9_lengthOfMonth_83 rfl (lv_at hl 3 rfl) ?_
            refine q_cPV X w (c_X9_isLeap l D t b n σ0 I Rw a_ca a_yr ca yr e_ca e_yr (by first | assumption | omega) (by first | assumption | omega)) v_X9_88 (k := 45) rfl rfl rfl ⟨Nat.le_of_ble_eq_true rfl, Nat.le_of_ble_eq_true rfl⟩ rfl hl.1 (Nat.le_of_ble_eq_true rfl) dX9_lengthOfMonth_84 ⟨Nat.zero_le _, Nat.zero_le _⟩ (fun r_84 z_84 => ?_)
            refine lv_if_eq (tgt := 94) hx hb dX9_lengthOfMonth_87 (by decide) (fun c_87 => ?_) (fun c_87 => ?_)
            · skip
              rw [z_84] at c_87
              have k_87 := bI_f.mp c_87
              refine lv_iconst (v := 0) hx hb dX9_lengthOfMonth_94 (by decide) ?_
              refine lv_iadd hx hb dX9_lengthOfMonth_95 ?_
              refine lv_topi (fun x_95 e_95 => ?_)
              have p_95 : x_95.toInt = ((rv (rowM Rw ca) ((1 + mo) - 1)) + 0) := by rw [e_95]; exact t_add (congrArg Int32.toInt z_55) (show (0 : Int32).toInt = 0 from rfl) (by omega) (by omega)
              exact q_pret X w dX9_lengthOfMonth_96 (by exfalso; omega)
            · skip
              rw [z_84] at c_87
              have k_87 := bI_t.mp c_87
              refine lv_iconst (v := 1) hx hb dX9_lengthOfMonth_90 (by decide) ?_
              refine lv_goto (tgt := 95) hx hb dX9_lengthOfMonth_91 (by decide) ?_
              refine lv_iadd hx hb dX9_lengthOfMonth_95 ?_
              refine lv_topi (fun x_95 e_95 => ?_)
              have p_95 : x_95.toInt = ((rv (rowM Rw ca) ((1 + mo) - 1)) + 1) := by rw [e_95]; exact t_add (congrArg Int32.toInt z_55) (show (1 : Int32).toInt = 1 from rfl) (by omega) (by omega)
              exact q_pret X w dX9_lengthOfMonth_96 (by exfalso; omega)
      · skip
        have k_35 : ¬ (mo ≤ (rv (rowM Rw ca) 17)) := fun h => c_35 ((g_le e_mo (congrArg Int32.toInt z_32)).mpr h)
        refine lv_iload_n hx hb dX9_lengthOfMonth_38 rfl (lv_at hl 3 rfl) ?_
        refine lv_iconst (v := 1) hx hb dX9_lengthOfMonth_39 (by decide) ?_
        refine lv_isub hx hb dX9_lengthOfMonth_40 ?_
        refine lv_topi (fun x_40 e_40 => ?_)
        have p_40 : x_40.toInt = (mo - 1) := by rw [e_40]; exact t_sub e_mo (show (1 : Int32).toInt = 1 from rfl) (by omega) (by omega)
        refine lv_goto (tgt := 45) hx hb dX9_lengthOfMonth_41 (by decide) ?_
        refine lv_istore (lv' := [(4, .int x_40), (0, .ref (b + 45)), (1, .int a_ca), (2, .int a_yr), (3, .int a_mo)]) hx hb dX9_lengthOfMonth_45 hl (by decide) rfl (fun ls hl => ?_)
        have hB := h_2.mb (i := (1 + (mo - 1)) - 1) (by omega) (by omega)
        refine lv_aload_n hx hb dX9_lengthOfMonth_47 rfl (lv_at hl 1 rfl) ?_
        refine lv_iload_n hx hb dX9_lengthOfMonth_48 rfl (lv_at hl 2 rfl) ?_
        refine lv_iconst (v := 1) hx hb dX9_lengthOfMonth_49 (by decide) ?_
        refine lv_iload hx hb dX9_lengthOfMonth_50 (lv_at hl 0 rfl) ?_
        refine lv_iadd hx hb dX9_lengthOfMonth_52 ?_
        refine lv_topi (fun x_52 e_52 => ?_)
        have p_52 : x_52.toInt = (1 + (mo - 1)) := by rw [e_52]; exact t_add (show (1 : Int32).toInt = 1 from rfl) p_40 (by omega) (by omega)
        refine lv_iconst (v := 1) hx hb dX9_lengthOfMonth_53 (by decide) ?_
        refine lv_isub hx hb dX9_lengthOfMonth_54 ?_
        refine lv_topi (fun x_54 e_54 => ?_)
        have p_54 : x_54.toInt = ((1 + (mo - 1)) - 1) := by rw [e_54]; exact t_sub p_52 (show (1 : Int32).toInt = 1 from rfl) (by omega) (by omega)
        refine q_cPV X w (c_X9_of l D t b n σ0 I Rw a_ca x_54 ca ((1 + (mo - 1)) - 1) e_ca p_54 (by first | assumption | omega) (by first | assumption | omega)) v_X9_80 (k := 45) rfl rfl rfl ⟨Nat.le_of_ble_eq_true rfl, Nat.le_of_ble_eq_true rfl⟩ rfl hl.1 (Nat.le_of_ble_eq_true rfl) dX9_lengthOfMonth_55 ⟨Nat.zero_le _, Nat.zero_le _⟩ (fun r_55 z_55 => ?_)
        refine lv_aload_n hx hb dX9_lengthOfMonth_58 rfl (lv_at hl 1 rfl) ?_
        refine lv_iload_n hx hb dX9_lengthOfMonth_59 rfl (lv_at hl 2 rfl) ?_
        refine lv_bipush (v := 16) hx hb dX9_lengthOfMonth_60 (by decide) ?_
        refine q_cPV X w (c_X9_of l D t b n σ0 I Rw a_ca 16 ca 16 e_ca (show (16 : Int32).toInt = 16 from rfl) (by first | assumption | omega) (by first | assumption | omega)) v_X9_80 (k := 45) rfl rfl rfl ⟨Nat.le_of_ble_eq_true rfl, Nat.le_of_ble_eq_true rfl⟩ rfl hl.1 (Nat.le_of_ble_eq_true rfl) dX9_lengthOfMonth_62 ⟨Nat.zero_le _, Nat.zero_le _⟩ (fun r_62 z_62 => ?_)
        refine lv_iconst (v := 1) hx hb dX9_lengthOfMonth_65 (by decide) ?_
        refine lv_icmp_ne (tgt := 94) hx hb dX9_lengthOfMonth_66 (by decide) (fun c_66 => ?_) (fun c_66 => ?_)
        · skip
          have k_66 : ¬ ((rv (rowM Rw ca) 16) = 1) := fun h => c_66 ((g_eq (congrArg Int32.toInt z_62) (show (1 : Int32).toInt = 1 from rfl)).mpr h)
          refine lv_iconst (v := 0) hx hb dX9_lengthOfMonth_94 (by decide) ?_
          refine lv_iadd hx hb dX9_lengthOfMonth_95 ?_
          refine lv_topi (fun x_95 e_95 => ?_)
          have p_95 : x_95.toInt = ((rv (rowM Rw ca) ((1 + (mo - 1)) - 1)) + 0) := by rw [e_95]; exact t_add (congrArg Int32.toInt z_55) (show (0 : Int32).toInt = 0 from rfl) (by omega) (by omega)
          exact q_pret X w dX9_lengthOfMonth_96 (by rw [p_95]; unfold mlen; rw [if_neg k_7]; rw [if_pos ⟨k_24, by omega⟩, show (1 + (mo - 1)) - 1 = mo - 1 by omega]; omega)
        · skip
          have k_66 : (rv (rowM Rw ca) 16) = 1 := (g_eq (congrArg Int32.toInt z_62) (show (1 : Int32).toInt = 1 from rfl)).mp c_66
          refine lv_iload hx hb dX9_lengthOfMonth_69 (lv_at hl 0 rfl) ?_
          refine lv_aload_n hx hb dX9_lengthOfMonth_71 rfl (lv_at hl 1 rfl) ?_
          refine lv_iload_n hx hb dX9_lengthOfMonth_72 rfl (lv_at hl 2 rfl) ?_
          refine lv_bipush (v := 17) hx hb dX9_lengthOfMonth_73 (by decide) ?_
          refine q_cPV X w (c_X9_of l D t b n σ0 I Rw a_ca 17 ca 17 e_ca (show (17 : Int32).toInt = 17 from rfl) (by first | assumption | omega) (by first | assumption | omega)) v_X9_80 (k := 45) rfl rfl rfl ⟨Nat.le_of_ble_eq_true rfl, Nat.le_of_ble_eq_true rfl⟩ rfl hl.1 (Nat.le_of_ble_eq_true rfl) dX9_lengthOfMonth_75 ⟨Nat.zero_le _, Nat.zero_le _⟩ (fun r_75 z_75 => ?_)
          refine lv_icmp_ne (tgt := 94) hx hb dX9_lengthOfMonth_78 (by decide) (fun c_78 => ?_) (fun c_78 => ?_)
          · skip
            have k_78 : ¬ ((mo - 1) = (rv (rowM Rw ca) 17)) := fun h => c_78 ((g_eq p_40 (congrArg Int32.toInt z_75)).mpr h)
            refine lv_iconst (v := 0) hx hb dX9_lengthOfMonth_94 (by decide) ?_
            refine lv_iadd hx hb dX9_lengthOfMonth_95 ?_
            refine lv_topi (fun x_95 e_95 => ?_)
            have p_95 : x_95.toInt = ((rv (rowM Rw ca) ((1 + (mo - 1)) - 1)) + 0) := by rw [e_95]; exact t_add (congrArg Int32.toInt z_55) (show (0 : Int32).toInt = 0 from rfl) (by omega) (by omega)
            exact q_pret X w dX9_lengthOfMonth_96 (by exfalso; omega)
          · skip
            have k_78 : (mo - 1) = (rv (rowM Rw ca) 17) := (g_eq p_40 (congrArg Int32.toInt z_75)).mp c_78
            refine lv_aload_n hx hb dX9_lengthOfMonth_81 rfl (lv_at hl 1 rfl) ?_
            refine lv_iload_n hx hb dX9_lengthOfMonth_82 rfl (lv_at hl 2 rfl) ?_
            refine lv_iload_n hx hb dX9_lengthOfMonth_83 rfl (lv_at hl 3 rfl) ?_
            refine q_cPV X w (c_X9_isLeap l D t b n σ0 I Rw a_ca a_yr ca yr e_ca e_yr (by first | assumption | omega) (by first | assumption | omega)) v_X9_88 (k := 45) rfl rfl rfl ⟨Nat.le_of_ble_eq_true rfl, Nat.le_of_ble_eq_true rfl⟩ rfl hl.1 (Nat.le_of_ble_eq_true rfl) dX9_lengthOfMonth_84 ⟨Nat.zero_le _, Nat.zero_le _⟩ (fun r_84 z_84 => ?_)
            refine lv_if_eq (tgt := 94) hx hb dX9_lengthOfMonth_87 (by decide) (fun c_87 => ?_) (fun c_87 => ?_)
            · skip
              rw [z_84] at c_87
              have k_87 := bI_f.mp c_87
              refine lv_iconst (v := 0) hx hb dX9_lengthOfMonth_94 (by decide) ?_
              refine lv_iadd hx hb dX9_lengthOfMonth_95 ?_
              refine lv_topi (fun x_95 e_95 => ?_)
              have p_95 : x_95.toInt = ((rv (rowM Rw ca) ((1 + (mo - 1)) - 1)) + 0) := by rw [e_95]; exact t_add (congrArg Int32.toInt z_55) (show (0 : Int32).toInt = 0 from rfl) (by omega) (by omega)
              exact q_pret X w dX9_lengthOfMonth_96 (by exfalso; omega)
            · skip
              rw [z_84] at c_87
              have k_87 := bI_t.mp c_87
              refine lv_iconst (v := 1) hx hb dX9_lengthOfMonth_90 (by decide) ?_
              refine lv_goto (tgt := 95) hx hb dX9_lengthOfMonth_91 (by decide) ?_
              refine lv_iadd hx hb dX9_lengthOfMonth_95 ?_
              refine lv_topi (fun x_95 e_95 => ?_)
              have p_95 : x_95.toInt = ((rv (rowM Rw ca) ((1 + (mo - 1)) - 1)) + 1) := by rw [e_95]; exact t_add (congrArg Int32.toInt z_55) (show (1 : Int32).toInt = 1 from rfl) (by omega) (by omega)
              exact q_pret X w dX9_lengthOfMonth_96 (by exfalso; omega)
  · skip
    rw [z_4] at c_7
    have k_7 := bI_t.mp c_7
    have hL := h_2.ll k_7.1.1
    refine lv_aload_n hx hb dX9_lengthOfMonth_10 rfl (lv_at hl 0 rfl) ?_
    refine lv_iload_n hx hb dX9_lengthOfMonth_11 rfl (lv_at hl 1 rfl) ?_
    refine lv_bipush (v := 18) hx hb dX9_lengthOfMonth_12 (by decide) ?_
    refine q_cPV X w (c_X9_of l D t b n σ0 I Rw a_ca 18 ca 18 e_ca (show (18 : Int32).toInt = 18 from rfl) (by first | assumption | omega) (by first | assumption | omega)) v_X9_80 (k := 45) rfl rfl rfl ⟨Nat.le_of_ble_eq_true rfl, Nat.le_of_ble_eq_true rfl⟩ rfl hl.1 (Nat.le_of_ble_eq_true rfl) dX9_lengthOfMonth_14 ⟨Nat.zero_le _, Nat.zero_le _⟩ (fun r_14 z_14 => ?_)
    exact q_pret X w dX9_lengthOfMonth_17 (by rw [congrArg Int32.toInt z_14]; unfold mlen; rw [if_pos k_7]; rfl)

set_option maxHeartbeats 4000000 in
set_option maxRecDepth 100000 in
theorem c_X9_weekday (l : Launch) (D : va_G) (t : Nat → ClassId) (b n : Nat) (σ0 : qM) (I : Nat → Int32) (Rw : Nat → Nat → Int32) (a_ca : Int32) (a_dy : Int32) (ca : Int) (dy : Int) (e_ca : a_ca.toInt = ca) (e_dy : a_dy.toInt = dy) (h_1 : 0 ≤ ca ∧ ca < 6) (h_2 : okRow (rowM Rw ca)) (h_3 : -100000000 ≤ dy ∧ dy ≤ 100000000) : qP l yX9_weekday cX9_weekday 3 (some .int) 1 D t b n (mS t b σ0 I Rw) [.ref (b + 45), .int a_ca, .int a_dy] (fun z => z.toInt = wdy (rowM Rw ca) dy) := by
  refine qP.of (by decide +kernel) (Nat.le_of_ble_eq_true rfl) (fun p e s m args below meth c X w ls hl => ?_)
  have hx := X.1
  have hb := X.2.1
  have hl : lv_has ls 3 [(0, .ref (b + 45)), (1, .int a_ca), (2, .int a_dy)] := hl
  have hw := h_2.wk
  refine lv_aload_n hx hb dX9_weekday_0 rfl (lv_at hl 0 rfl) ?_
  refine lv_iload_n hx hb dX9_weekday_1 rfl (lv_at hl 1 rfl) ?_
  refine lv_bipush (v := 31) hx hb dX9_weekday_2 (by decide) ?_
  refine q_cPV X w (c_X9_of l D t b n σ0 I Rw a_ca 31 ca 31 e_ca (show (31 : Int32).toInt = 31 from rfl) (by first | assumption | omega) (by first | assumption | omega)) v_X9_80 (k := 45) rfl rfl rfl ⟨Nat.le_of_ble_eq_true rfl, Nat.le_of_ble_eq_true rfl⟩ rfl hl.1 (Nat.le_of_ble_eq_true rfl) dX9_weekday_4 ⟨Nat.zero_le _, Nat.zero_le _⟩ (fun r_4 z_4 => ?_)
  refine lv_iload_n hx hb dX9_weekday_7 rfl (lv_at hl 2 rfl) ?_
  refine lv_iadd hx hb dX9_weekday_8 ?_
  refine lv_topi (fun x_8 e_8 => ?_)
  have p_8 : x_8.toInt = ((rv (rowM Rw ca) 31) + dy) := by rw [e_8]; exact t_add (congrArg Int32.toInt z_4) e_dy (by omega) (by omega)
  refine lv_aload_n hx hb dX9_weekday_9 rfl (lv_at hl 0 rfl) ?_
  refine lv_iload_n hx hb dX9_weekday_10 rfl (lv_at hl 1 rfl) ?_
  refine lv_bipush (v := 30) hx hb dX9_weekday_11 (by decide) ?_
  refine q_cPV X w (c_X9_of l D t b n σ0 I Rw a_ca 30 ca 30 e_ca (show (30 : Int32).toInt = 30 from rfl) (by first | assumption | omega) (by first | assumption | omega)) v_X9_80 (k := 45) rfl rfl rfl ⟨Nat.le_of_ble_eq_true rfl, Nat.le_of_ble_eq_true rfl⟩ rfl hl.1 (Nat.le_of_ble_eq_true rfl) dX9_weekday_13 ⟨Nat.zero_le _, Nat.zero_le _⟩ (fun r_13 z_13 => ?_)
  refine q_cPS X w (c_J9_floorMod_7cf53 l x_8 r_13 ((rv (rowM Rw ca) 31) + dy) (rv (rowM Rw ca) 30) p_8 (congrArg Int32.toInt z_13) (by first | assumption | omega) D t b n (mS t b σ0 I Rw)) v_X9_83 rfl ⟨Nat.le_of_ble_eq_true rfl, Nat.le_of_ble_eq_true rfl⟩ rfl hl.1 (Nat.le_of_ble_eq_true rfl) dX9_weekday_16 ⟨Nat.zero_le _, Nat.zero_le _⟩ (fun r_16 z_16 => ?_)
  exact q_pret X w dX9_weekday_19 (by exact z_16)

set_option maxHeartbeats 4000000 in
set_option maxRecDepth 100000 in
theorem c_X9_dayAt (l : Launch) (D : va_G) (t : Nat → ClassId) (b n : Nat) (σ0 : qM) (I : Nat → Int32) (Rw : Nat → Nat → Int32) (a_ca : Int32) (a_yr : Int32) (a_mo : Int32) (a_da : Int32) (ca : Int) (yr : Int) (mo : Int) (da : Int) (e_ca : a_ca.toInt = ca) (e_yr : a_yr.toInt = yr) (e_mo : a_mo.toInt = mo) (e_da : a_da.toInt = da) (h_1 : 0 ≤ ca ∧ ca < 6) (h_2 : okRow (rowM Rw ca)) (h_3 : okF Rw ca) (h_4 : -2020 ≤ yr ∧ yr ≤ 2021) (h_5 : 1 ≤ mo ∧ mo ≤ mcnt (rowM Rw ca) yr) (h_6 : -1000 ≤ da ∧ da ≤ 1000) : qP l yX9_dayAt cX9_dayAt 7 (some .int) 5 D t b n (mS t b σ0 I Rw) [.ref (b + 45), .int a_ca, .int a_yr, .int a_mo, .int a_da] (fun z => z.toInt = dnum (rowM Rw ca) yr mo da) := by
  refine qP.of (by decide +kernel) (Nat.le_of_ble_eq_true rfl) (fun p e s m args below meth c X w ls hl => ?_)
  have hx := X.1
  have hb := X.2.1
  have hl : lv_has ls 7 [(0, .ref (b + 45)), (1, .int a_ca), (2, .int a_yr), (3, .int a_mo), (4, .int a_da)] := hl
  have hf := fst_bd h_2 (y := yr) (by omega) (by omega)
  have hc := mcnt_bd h_2 yr
  refine lv_aload_n hx hb dX9_dayAt_0 rfl (lv_at hl 0 rfl) ?_
  refine lv_iload_n hx hb dX9_dayAt_1 rfl (lv_at hl 1 rfl) ?_
  refine lv_iload_n hx hb dX9_dayAt_2 rfl (lv_at hl 2 rfl) ?_
  refine q_cPV X w (c_X9_first l D t b n σ0 I Rw a_ca a_yr ca yr e_ca e_yr (by first | assumption | omega) (by first | assumption | omega) (by first | assumption | omega)) v_X9_101 (k := 45) rfl rfl rfl ⟨Nat.le_of_ble_eq_true rfl, Nat.le_of_ble_eq_true rfl⟩ rfl hl.1 (Nat.le_of_ble_eq_true rfl) dX9_dayAt_3 ⟨Nat.zero_le _, Nat.zero_le _⟩ (fun r_3 z_3 => ?_)
  refine lv_iload hx hb dX9_dayAt_6 (lv_at hl 4 rfl) ?_
  refine lv_iadd hx hb dX9_dayAt_8 ?_
  refine lv_topi (fun x_8 e_8 => ?_)
  have p_8 : x_8.toInt = ((fst (rowM Rw ca) yr) + da) := by rw [e_8]; exact t_add z_3 e_da (by omega) (by omega)
  refine lv_iconst (v := 1) hx hb dX9_dayAt_9 (by decide) ?_
  refine lv_isub hx hb dX9_dayAt_10 ?_
  refine lv_topi (fun x_10 e_10 => ?_)
  have p_10 : x_10.toInt = (((fst (rowM Rw ca) yr) + da) - 1) := by rw [e_10]; exact t_sub p_8 (show (1 : Int32).toInt = 1 from rfl) (by omega) (by omega)
  refine lv_istore (lv' := [(5, .int x_10), (0, .ref (b + 45)), (1, .int a_ca), (2, .int a_yr), (3, .int a_mo), (4, .int a_da)]) hx hb dX9_dayAt_11 hl (by decide) rfl (fun ls hl => ?_)
  refine lv_iconst (v := 1) hx hb dX9_dayAt_13 (by decide) ?_
  refine lv_istore (lv' := [(6, .int 1), (5, .int x_10), (0, .ref (b + 45)), (1, .int a_ca), (2, .int a_yr), (3, .int a_mo), (4, .int a_da)]) hx hb dX9_dayAt_14 hl (by decide) rfl (fun ls hl => ?_)
  refine q_loop (α := Int32 × Int32 × Int × Int) (fun a => a.1.toInt = a.2.2.1 ∧ a.2.1.toInt = a.2.2.2 ∧ ((1 ≤ a.2.2.2 ∧ a.2.2.2 ≤ mo) ∧ a.2.2.1 = fst (rowM Rw ca) yr + da - 1 + msum (rowM Rw ca) yr (a.2.2.2 - 1).toNat)) (fun a => (mo - a.2.2.2).toNat) (fun a => ∀ ls : Array Slot, lv_has ls 7 [(6, .int a.2.1), (5, .int a.1), (0, .ref (b + 45)), (1, .int a_ca), (2, .int a_yr), (3, .int a_mo), (4, .int a_da)] → W p l e (qR 5 0 0) s m args below meth c s.heap [] 0 0 (MQ below (vp_Si (fun z => z.toInt = dnum (rowM Rw ca) yr mo da)) args s 0 0 (fun _ => False)) (F0 m 16 ls [])) ?_ ⟨x_10, 1, (((fst (rowM Rw ca) yr) + da) - 1), 1⟩ ⟨p_10, (show (1 : Int32).toInt = 1 from rfl), by dsimp only; exact ⟨by omega, by show _ = _ + msum _ _ 0; rw [msum]; omega⟩⟩ ls (lv_sub hl [0, 1, 2, 3, 4, 5, 6] rfl)
  rintro ⟨v_d, v_m, d, m⟩ ⟨q_d, q_m, inv_16⟩ ih_16 ls hl
  dsimp only at q_d q_m inv_16 hl
  have hs := msum_bd h_2 (y := yr) (m - 1).toNat (by omega)
  refine lv_iload hx hb dX9_dayAt_16 (lv_at hl 0 rfl) ?_
  refine lv_iload_n hx hb dX9_dayAt_18 rfl (lv_at hl 5 rfl) ?_
  refine lv_icmp_ge (tgt := 41) hx hb dX9_dayAt_19 (by decide) (fun c_19 => ?_) (fun c_19 => ?_)
  · skip
    have k_19 : mo ≤ m := (g_le e_mo q_m).mp c_19
    refine lv_iload hx hb dX9_dayAt_41 (lv_at hl 1 rfl) ?_
    exact q_pret X w dX9_dayAt_43 (by rw [q_d, inv_16.2, show m = mo by omega]; rfl)
  · skip
    have k_19 : ¬ (mo ≤ m) := fun h => c_19 ((g_le e_mo q_m).mpr h)
    have hq := mlen_bd h_2 (y := yr) (m := m) (by omega) (by omega)
    refine lv_iload hx hb dX9_dayAt_22 (lv_at hl 1 rfl) ?_
    refine lv_aload_n hx hb dX9_dayAt_24 rfl (lv_at hl 2 rfl) ?_
    refine lv_iload_n hx hb dX9_dayAt_25 rfl (lv_at hl 3 rfl) ?_
    refine lv_iload_n hx hb dX9_dayAt_26 rfl (lv_at hl 4 rfl) ?_
    refine lv_iload hx hb dX9_dayAt_27 (lv_at hl 0 rfl) ?_
    refine q_cPV X w (c_X9_lengthOfMonth l D t b n σ0 I Rw a_ca a_yr v_m ca yr m e_ca e_yr q_m (by first | assumption | omega) (by first | assumption | omega) (by first | assumption | omega)) v_X9_120 (k := 45) rfl rfl rfl ⟨Nat.le_of_ble_eq_true rfl, Nat.le_of_ble_eq_true rfl⟩ rfl hl.1 (Nat.le_of_ble_eq_true rfl) dX9_dayAt_29 ⟨Nat.zero_le _, Nat.zero_le _⟩ (fun r_29 z_29 => ?_)
    refine lv_iadd hx hb dX9_dayAt_32 ?_
    refine lv_topi (fun x_32 e_32 => ?_)
    have p_32 : x_32.toInt = (d + (mlen (rowM Rw ca) yr m)) := by rw [e_32]; exact t_add q_d z_29 (by omega) (by omega)
    refine lv_istore (lv' := [(5, .int x_32), (6, .int v_m), (0, .ref (b + 45)), (1, .int a_ca), (2, .int a_yr), (3, .int a_mo), (4, .int a_da)]) hx hb dX9_dayAt_33 hl (by decide) rfl (fun ls hl => ?_)
    obtain ⟨x_35, e_35⟩ : ∃ z : Int32, z = (v_m + 1) := ⟨_, rfl⟩
    have p_35 : x_35.toInt = (m + 1) := by rw [e_35]; exact t_add q_m (show (1 : Int32).toInt = 1 from rfl) (by omega) (by omega)
    refine lv_iinc (v := x_35) (lv' := [(6, .int x_35), (5, .int x_32), (0, .ref (b + 45)), (1, .int a_ca), (2, .int a_yr), (3, .int a_mo), (4, .int a_da)]) hx hb dX9_dayAt_35 hl (k := 1) rfl (by rw [e_35]; rfl) (by decide) rfl (fun ls hl => ?_)
    refine lv_goto (tgt := 16) hx hb dX9_dayAt_38 (by decide) ?_
    refine ih_16 ⟨x_32, x_35, (d + (mlen (rowM Rw ca) yr m)), (m + 1)⟩ ⟨p_32, p_35, by refine ⟨(by dsimp only; omega), ?_⟩; dsimp only; rw [msum_s (by omega), inv_16.2]; omega⟩ (by dsimp only; omega) ls (lv_sub hl [0, 1, 2, 3, 4, 5, 6] rfl)
