set_option maxHeartbeats 4000000 in
set_option maxRecDepth 100000 in
theorem c_X9_repeats_read (l : Launch) (D : va_G) (t : Nat → ClassId) (b n : Nat) (σ0 : qM) (I : Nat → Int32) (Rw : Nat → Nat → Int32) (a_at_ : Int32) (at_ : Int) (e_at_ : a_at_.toInt = at_) (h_1 : at_ = 0) (h_2 : ∀ k : Int, 0 ≤ k → k < 4 → rv (rowR Rw) (24 + k) ≠ 0 → 1 ≤ rv (rowR Rw) (20 + k) ∧ rv (rowR Rw) (20 + k) ≤ 400) : qP l yX9_repeats cX9_repeats 5 (some .int) 1 D t b n (mS t b σ0 I Rw) [.ref (b + 48), .int a_at_] (fun z => z.toInt = reps (rowR Rw)) := by
  refine qP.of (by decide +kernel) (Nat.le_of_ble_eq_true rfl) (fun p e s m args below meth c X w ls hl => ?_)
  have hx := X.1
  have hb := X.2.1
  have hl : lv_has ls 5 [(0, .ref (b + 48)), (1, .int a_at_)] := hl
  have H_div : ∀ k : Int, 0 ≤ k → k < 4 → rv (rowR Rw) (24 + k) ≠ 0 → 1 ≤ rv (rowR Rw) (20 + k) ∧ rv (rowR Rw) (20 + k) ≤ 400 := h_2
  refine lv_aload_n hx hb dX9_repeats_0 rfl (lv_at hl 0 rfl) ?_
  refine lv_iload_n hx hb dX9_repeats_1 rfl (lv_at hl 1 rfl) ?_
  refine lv_bipush (v := 19) hx hb dX9_repeats_2 (by decide) ?_
  refine lv_iadd hx hb dX9_repeats_4 ?_
  refine lv_topi (fun x_4 e_4 => ?_)
  have p_4 : x_4.toInt = (at_ + 19) := by rw [e_4]; exact t_add e_at_ (show (19 : Int32).toInt = 19 from rfl) (by omega) (by omega)
  refine ml_read X w (g_in p_4 (by omega)) dX9_repeats_5 ?_
  refine q_topE (y := Rw 3 (at_ + 19).toNat) (congrArg (Rw 3) (g_tn p_4)) ?_
  have y_5 : Rw 3 ((at_ + 19)).toNat = (rowR Rw) 19 := by rw [rowR_eq (by omega)]; congr 2; omega
  refine lv_iconst (v := 2) hx hb dX9_repeats_6 (by decide) ?_
  refine lv_icmp_ne (tgt := 17) hx hb dX9_repeats_7 (by decide) (fun c_7 => ?_) (fun c_7 => ?_)
  · skip
    have k_7 : ¬ ((rv (rowR Rw) 19) = 2) := fun h => c_7 ((g_eq (congrArg Int32.toInt y_5) (show (2 : Int32).toInt = 2 from rfl)).mpr h)
    refine lv_iconst (v := 1) hx hb dX9_repeats_17 (by decide) ?_
    refine lv_istore_n (lv' := [(2, .int 1), (0, .ref (b + 48)), (1, .int a_at_)]) hx hb dX9_repeats_18 rfl hl (by decide) rfl (fun ls hl => ?_)
    refine lv_iconst (v := 0) hx hb dX9_repeats_19 (by decide) ?_
    refine lv_istore_n (lv' := [(3, .int 0), (2, .int 1), (0, .ref (b + 48)), (1, .int a_at_)]) hx hb dX9_repeats_20 rfl hl (by decide) rfl (fun ls hl => ?_)
    refine q_loop (α := Int32 × Int32 × Int × Int) (fun a => a.1.toInt = a.2.2.1 ∧ a.2.1.toInt = a.2.2.2 ∧ ((0 ≤ a.2.2.2 ∧ a.2.2.2 ≤ 4 ∧ 1 ≤ a.2.2.1 ∧ a.2.2.1 ≤ 1000) ∧ (rv (rowR Rw) 19 = 1 → a.2.2.1 = repN (rowR Rw) a.2.2.2.toNat) ∧ (rv (rowR Rw) 19 ≠ 1 → a.2.2.2 = 0 ∧ a.2.2.1 = 1))) (fun a => (4 - a.2.2.2).toNat) (fun a => ∀ ls : Array Slot, lv_has ls 5 [(3, .int a.2.1), (2, .int a.1), (0, .ref (b + 48)), (1, .int a_at_)] → W p l e (qR 1 0 0) s m args below meth c s.heap [] 0 0 (MQ below (vp_Si (fun z => z.toInt = reps (rowR Rw))) args s 0 0 (fun _ => False)) (F0 m 21 ls [])) ?_ ⟨1, 0, 1, 0⟩ ⟨(show (1 : Int32).toInt = 1 from rfl), (show (0 : Int32).toInt = 0 from rfl), by dsimp only; exact ⟨by omega, fun _ => rfl, fun _ => ⟨rfl, rfl⟩⟩⟩ ls (lv_sub hl [0, 1, 2, 3] rfl)
    rintro ⟨v_al, v_k, al, k⟩ ⟨q_al, q_k, inv_21⟩ ih_21 ls hl
    dsimp only at q_al q_k inv_21 hl
    refine lv_iload_n hx hb dX9_repeats_21 rfl (lv_at hl 0 rfl) ?_
    refine lv_iconst (v := 4) hx hb dX9_repeats_22 (by decide) ?_
    refine lv_icmp_ge (tgt := 84) hx hb dX9_repeats_23 (by decide) (fun c_23 => ?_) (fun c_23 => ?_)
    · skip
      have k_23 : 4 ≤ k := (g_le (show (4 : Int32).toInt = 4 from rfl) q_k).mp c_23
      refine lv_iload_n hx hb dX9_repeats_84 rfl (lv_at hl 1 rfl) ?_
      exact q_pret X w dX9_repeats_85 (by unfold reps; rw [if_neg k_7]; exact dite (rv (rowR Rw) 19 = 1) (fun q0 => by rw [if_pos q0, q_al, inv_21.2.1 q0, show k = 4 by omega]; rfl) (fun q0 => by rw [if_neg q0, q_al]; exact (inv_21.2.2 q0).2))
    · skip
      have k_23 : ¬ (4 ≤ k) := fun h => c_23 ((g_le (show (4 : Int32).toInt = 4 from rfl) q_k).mpr h)
      refine lv_aload_n hx hb dX9_repeats_26 rfl (lv_at hl 2 rfl) ?_
      refine lv_iload_n hx hb dX9_repeats_27 rfl (lv_at hl 3 rfl) ?_
      refine lv_bipush (v := 19) hx hb dX9_repeats_28 (by decide) ?_
      refine lv_iadd hx hb dX9_repeats_30 ?_
      refine lv_topi (fun x_30 e_30 => ?_)
      have p_30 : x_30.toInt = (at_ + 19) := by rw [e_30]; exact t_add e_at_ (show (19 : Int32).toInt = 19 from rfl) (by omega) (by omega)
      refine ml_read X w (g_in p_30 (by omega)) dX9_repeats_31 ?_
      refine q_topE (y := Rw 3 (at_ + 19).toNat) (congrArg (Rw 3) (g_tn p_30)) ?_
      have y_31 : Rw 3 ((at_ + 19)).toNat = (rowR Rw) 19 := by rw [rowR_eq (by omega)]; congr 2; omega
      refine lv_iconst (v := 1) hx hb dX9_repeats_32 (by decide) ?_
      refine lv_icmp_ne (tgt := 84) hx hb dX9_repeats_33 (by decide) (fun c_33 => ?_) (fun c_33 => ?_)
      · skip
        have k_33 : ¬ ((rv (rowR Rw) 19) = 1) := fun h => c_33 ((g_eq (congrArg Int32.toInt y_31) (show (1 : Int32).toInt = 1 from rfl)).mpr h)
        refine lv_iload_n hx hb dX9_repeats_84 rfl (lv_at hl 1 rfl) ?_
        exact q_pret X w dX9_repeats_85 (by unfold reps; rw [if_neg k_7]; rw [if_neg k_33]; rw [q_al]; exact (inv_21.2.2 k_33).2)
      · skip
        have k_33 : (rv (rowR Rw) 19) = 1 := (g_eq (congrArg Int32.toInt y_31) (show (1 : Int32).toInt = 1 from rfl)).mp c_33
        have hd := H_div k (by omega) (by omega)
        refine lv_aload_n hx hb dX9_repeats_36 rfl (lv_at hl 2 rfl) ?_
        refine lv_iload_n hx hb dX9_repeats_37 rfl (lv_at hl 3 rfl) ?_
        refine lv_bipush (v := 20) hx hb dX9_repeats_38 (by decide) ?_
        refine lv_iadd hx hb dX9_repeats_40 ?_
        refine lv_topi (fun x_40 e_40 => ?_)
        have p_40 : x_40.toInt = (at_ + 20) := by rw [e_40]; exact t_add e_at_ (show (20 : Int32).toInt = 20 from rfl) (by omega) (by omega)
        refine lv_iload_n hx hb dX9_repeats_41 rfl (lv_at hl 0 rfl) ?_
        refine lv_iadd hx hb dX9_repeats_42 ?_
        refine lv_topi (fun x_42 e_42 => ?_)
        have p_42 : x_42.toInt = ((at_ + 20) + k) := by rw [e_42]; exact t_add p_40 q_k (by omega) (by omega)
        refine ml_read X w (g_in p_42 (by omega)) dX9_repeats_43 ?_
        refine q_topE (y := Rw 3 ((at_ + 20) + k).toNat) (congrArg (Rw 3) (g_tn p_42)) ?_
        have y_43 : Rw 3 (((at_ + 20) + k)).toNat = (rowR Rw) (20 + k) := by rw [rowR_eq (by omega)]; congr 2; omega
        refine lv_istore (lv' := [(4, .int (Rw 3 ((at_ + 20) + k).toNat)), (3, .int v_k), (2, .int v_al), (0, .ref (b + 48)), (1, .int a_at_)]) hx hb dX9_repeats_44 hl (by decide) rfl (fun ls hl => ?_)
        refine lv_aload_n hx hb dX9_repeats_46 rfl (lv_at hl 3 rfl) ?_
        refine lv_iload_n hx hb dX9_repeats_47 rfl (lv_at hl 4 rfl) ?_
        refine lv_bipush (v := 24) hx hb dX9_repeats_48 (by decide) ?_
        refine lv_iadd hx hb dX9_repeats_50 ?_
        refine lv_topi (fun x_50 e_50 => ?_)
        have p_50 : x_50.toInt = (at_ + 24) := by rw [e_50]; exact t_add e_at_ (show (24 : Int32).toInt = 24 from rfl) (by omega) (by omega)
        refine lv_iload_n hx hb dX9_repeats_51 rfl (lv_at hl 1 rfl) ?_
        refine lv_iadd hx hb dX9_repeats_52 ?_
        refine lv_topi (fun x_52 e_52 => ?_)
        have p_52 : x_52.toInt = ((at_ + 24) + k) := by rw [e_52]; exact t_add p_50 q_k (by omega) (by omega)
        refine ml_read X w (g_in p_52 (by omega)) dX9_repeats_53 ?_
        refine q_topE (y := Rw 3 ((at_ + 24) + k).toNat) (congrArg (Rw 3) (g_tn p_52)) ?_
        have y_53 : Rw 3 (((at_ + 24) + k)).toNat = (rowR Rw) (24 + k) := by rw [rowR_eq (by omega)]; congr 2; omega
        refine lv_if_eq (tgt := 69) hx hb dX9_repeats_54 (by decide) (fun c_54 => ?_) (fun c_54 => ?_)
        · skip
          have k_54 : (rv (rowR Rw) (24 + k)) = 0 := (g_eq (congrArg Int32.toInt y_53) (show (0 : Int32).toInt = 0 from rfl)).mp c_54
          refine lv_iload_n hx hb dX9_repeats_69 rfl (lv_at hl 2 rfl) ?_
          refine lv_sipush (v := 1000) hx hb dX9_repeats_70 (by decide) ?_
          refine lv_icmp_le (tgt := 78) hx hb dX9_repeats_73 (by decide) (fun c_73 => ?_) (fun c_73 => ?_)
          · skip
            have k_73 : al ≤ 1000 := (g_le q_al (show (1000 : Int32).toInt = 1000 from rfl)).mp c_73
            obtain ⟨x_78, e_78⟩ : ∃ z : Int32, z = (v_k + 1) := ⟨_, rfl⟩
            have p_78 : x_78.toInt = (k + 1) := by rw [e_78]; exact t_add q_k (show (1 : Int32).toInt = 1 from rfl) (by omega) (by omega)
            refine lv_iinc (v := x_78) (lv' := [(3, .int x_78), (4, .int (Rw 3 ((at_ + 20) + k).toNat)), (2, .int v_al), (0, .ref (b + 48)), (1, .int a_at_)]) hx hb dX9_repeats_78 hl (k := 1) rfl (by rw [e_78]; rfl) (by decide) rfl (fun ls hl => ?_)
            refine lv_goto (tgt := 21) hx hb dX9_repeats_81 (by decide) ?_
            refine ih_21 ⟨v_al, x_78, al, (k + 1)⟩ ⟨q_al, p_78, by dsimp only; refine ⟨by omega, fun _ => ?_, fun q => absurd k_33 q⟩; rw [repN_s (by omega)]; have q1 := inv_21.2.1 k_33; rw [← q1, if_neg (by omega), if_neg (show ¬ (rv (rowR Rw) (24 + k) ≠ 0) from fun q => q k_54), if_neg (by omega)]⟩ (by dsimp only; omega) ls (lv_sub hl [0, 2, 3, 4] rfl)
          · skip
            have k_73 : ¬ (al ≤ 1000) := fun h => c_73 ((g_le q_al (show (1000 : Int32).toInt = 1000 from rfl)).mpr h)
            refine lv_iconst (v := 0) hx hb dX9_repeats_76 (by decide) ?_
            exact q_pret X w dX9_repeats_77 (by unfold reps; rw [if_neg k_7]; rw [if_pos k_33]; have q1 := inv_21.2.1 k_33; have q2 : repN (rowR Rw) (k + 1).toNat = 0 := (by rw [repN_s (by omega), ← q1, if_neg (by omega), if_neg (show ¬ (rv (rowR Rw) (24 + k) ≠ 0) from fun q => q k_54), if_pos (by omega)]); rw [repN_0 (n := (k + 1).toNat) q2 (by omega)]; rfl)
        · skip
          have k_54 : ¬ ((rv (rowR Rw) (24 + k)) = 0) := fun h => c_54 ((g_eq (congrArg Int32.toInt y_53) (show (0 : Int32).toInt = 0 from rfl)).mpr h)
          have hv := hd k_54
          have hg := gcdI_bd (x := al) (y := rv (rowR Rw) (20 + k)) (by omega)
          refine lv_iload_n hx hb dX9_repeats_57 rfl (lv_at hl 2 rfl) ?_
          refine lv_iload_n hx hb dX9_repeats_58 rfl (lv_at hl 2 rfl) ?_
          refine lv_iload hx hb dX9_repeats_59 (lv_at hl 0 rfl) ?_
          refine q_cPS X w (c_X9_divisor l v_al (Rw 3 ((at_ + 20) + k).toNat) al (rv (rowR Rw) (20 + k)) q_al (congrArg Int32.toInt y_43) (by first | assumption | omega) (by first | assumption | omega) D t b n (mS t b σ0 I Rw)) v_X9_76 rfl ⟨Nat.le_of_ble_eq_true rfl, Nat.le_of_ble_eq_true rfl⟩ rfl hl.1 (Nat.le_of_ble_eq_true rfl) dX9_repeats_61 ⟨Nat.zero_le _, Nat.zero_le _⟩ (fun r_61 z_61 => ?_)
          refine lv_idiv hx hb dX9_repeats_64 (g_ne0 z_61 (by omega)) ?_
          refine lv_topi (fun x_64 e_64 => ?_)
          have p_64 : x_64.toInt = (al / (gcdI al (rv (rowR Rw) (20 + k)))) := by rw [e_64]; exact t_div q_al z_61 (by omega) (by omega)
          refine lv_iload hx hb dX9_repeats_65 (lv_at hl 0 rfl) ?_
          refine lv_imul hx hb dX9_repeats_67 ?_
          refine lv_topi (fun x_67 e_67 => ?_)
          have p_67 : x_67.toInt = ((al / (gcdI al (rv (rowR Rw) (20 + k)))) * (rv (rowR Rw) (20 + k))) := by rw [e_67]; exact t_mul p_64 (congrArg Int32.toInt y_43) (by have hq := div_mul_bd (x := al) (y := gcdI al (rv (rowR Rw) (20 + k))) (v := rv (rowR Rw) (20 + k)) (by omega) (by omega) (by omega); omega) (by have hq := div_mul_bd (x := al) (y := gcdI al (rv (rowR Rw) (20 + k))) (v := rv (rowR Rw) (20 + k)) (by omega) (by omega) (by omega); omega)
          refine lv_istore_n (lv' := [(2, .int x_67), (4, .int (Rw 3 ((at_ + 20) + k).toNat)), (3, .int v_k), (0, .ref (b + 48)), (1, .int a_at_)]) hx hb dX9_repeats_68 rfl hl (by decide) rfl (fun ls hl => ?_)
          have hq := div_mul_bd (x := al) (y := gcdI al (rv (rowR Rw) (20 + k))) (v := rv (rowR Rw) (20 + k)) (by omega) (by omega) (by omega)
          have hq2 := div_mul_ge (x := al) (y := rv (rowR Rw) (20 + k)) (by omega) (by omega)
          refine lv_iload_n hx hb dX9_repeats_69 rfl (lv_at hl 0 rfl) ?_
          refine lv_sipush (v := 1000) hx hb dX9_repeats_70 (by decide) ?_
          refine lv_icmp_le (tgt := 78) hx hb dX9_repeats_73 (by decide) (fun c_73 => ?_) (fun c_73 => ?_)
          · skip
            have k_73 : ((al / (gcdI al (rv (rowR Rw) (20 + k)))) * (rv (rowR Rw) (20 + k))) ≤ 1000 := (g_le p_67 (show (1000 : Int32).toInt = 1000 from rfl)).mp c_73
            obtain ⟨x_78, e_78⟩ : ∃ z : Int32, z = (v_k + 1) := ⟨_, rfl⟩
            have p_78 : x_78.toInt = (k + 1) := by rw [e_78]; exact t_add q_k (show (1 : Int32).toInt = 1 from rfl) (by omega) (by omega)
            refine lv_iinc (v := x_78) (lv' := [(3, .int x_78), (2, .int x_67), (4, .int (Rw 3 ((at_ + 20) + k).toNat)), (0, .ref (b + 48)), (1, .int a_at_)]) hx hb dX9_repeats_78 hl (k := 2) rfl (by rw [e_78]; rfl) (by decide) rfl (fun ls hl => ?_)
            refine lv_goto (tgt := 21) hx hb dX9_repeats_81 (by decide) ?_
            refine ih_21 ⟨x_67, x_78, ((al / (gcdI al (rv (rowR Rw) (20 + k)))) * (rv (rowR Rw) (20 + k))), (k + 1)⟩ ⟨p_67, p_78, by dsimp only; refine ⟨by omega, fun _ => ?_, fun q => absurd k_33 q⟩; rw [repN_s (by omega)]; have q1 := inv_21.2.1 k_33; rw [← q1, if_neg (by omega), if_pos k_54, if_neg (by omega)]⟩ (by dsimp only; omega) ls (lv_sub hl [0, 1, 3, 4] rfl)
          · skip
            have k_73 : ¬ (((al / (gcdI al (rv (rowR Rw) (20 + k)))) * (rv (rowR Rw) (20 + k))) ≤ 1000) := fun h => c_73 ((g_le p_67 (show (1000 : Int32).toInt = 1000 from rfl)).mpr h)
            refine lv_iconst (v := 0) hx hb dX9_repeats_76 (by decide) ?_
            exact q_pret X w dX9_repeats_77 (by unfold reps; rw [if_neg k_7]; rw [if_pos k_33]; have q1 := inv_21.2.1 k_33; have q2 : repN (rowR Rw) (k + 1).toNat = 0 := (by rw [repN_s (by omega), ← q1, if_neg (by omega), if_pos k_54, if_pos (by omega)]); rw [repN_0 (n := (k + 1).toNat) q2 (by omega)]; rfl)
  · skip
    have k_7 : (rv (rowR Rw) 19) = 2 := (g_eq (congrArg Int32.toInt y_5) (show (2 : Int32).toInt = 2 from rfl)).mp c_7
    refine lv_aload_n hx hb dX9_repeats_10 rfl (lv_at hl 0 rfl) ?_
    refine lv_iload_n hx hb dX9_repeats_11 rfl (lv_at hl 1 rfl) ?_
    refine lv_bipush (v := 28) hx hb dX9_repeats_12 (by decide) ?_
    refine lv_iadd hx hb dX9_repeats_14 ?_
    refine lv_topi (fun x_14 e_14 => ?_)
    have p_14 : x_14.toInt = (at_ + 28) := by rw [e_14]; exact t_add e_at_ (show (28 : Int32).toInt = 28 from rfl) (by omega) (by omega)
    refine ml_read X w (g_in p_14 (by omega)) dX9_repeats_15 ?_
    refine q_topE (y := Rw 3 (at_ + 28).toNat) (congrArg (Rw 3) (g_tn p_14)) ?_
    have y_15 : Rw 3 ((at_ + 28)).toNat = (rowR Rw) 28 := by rw [rowR_eq (by omega)]; congr 2; omega
    exact q_pret X w dX9_repeats_16 (by unfold reps; rw [if_pos k_7]; exact (congrArg Int32.toInt y_15))

set_option maxHeartbeats 4000000 in
set_option maxRecDepth 100000 in
theorem c_X9_repeats_cal (l : Launch) (D : va_G) (t : Nat → ClassId) (b n : Nat) (σ0 : qM) (I : Nat → Int32) (Rw : Nat → Nat → Int32) (ca : Int) (a_at_ : Int32) (at_ : Int) (e_at_ : a_at_.toInt = at_) (h_1 : at_ = 33 * ca) (h_2 : ∀ k : Int, 0 ≤ k → k < 4 → rv (rowM Rw ca) (24 + k) ≠ 0 → 1 ≤ rv (rowM Rw ca) (20 + k) ∧ rv (rowM Rw ca) (20 + k) ≤ 400) (h_3 : 0 ≤ ca ∧ ca < 6) : qP l yX9_repeats cX9_repeats 5 (some .int) 1 D t b n (mS t b σ0 I Rw) [.ref (b + 47), .int a_at_] (fun z => z.toInt = reps (rowM Rw ca)) := by
  refine qP.of (by decide +kernel) (Nat.le_of_ble_eq_true rfl) (fun p e s m args below meth c X w ls hl => ?_)
  have hx := X.1
  have hb := X.2.1
  have hl : lv_has ls 5 [(0, .ref (b + 47)), (1, .int a_at_)] := hl
  have H_div : ∀ k : Int, 0 ≤ k → k < 4 → rv (rowM Rw ca) (24 + k) ≠ 0 → 1 ≤ rv (rowM Rw ca) (20 + k) ∧ rv (rowM Rw ca) (20 + k) ≤ 400 := h_2
  refine lv_aload_n hx hb dX9_repeats_0 rfl (lv_at hl 0 rfl) ?_
  refine lv_iload_n hx hb dX9_repeats_1 rfl (lv_at hl 1 rfl) ?_
  refine lv_bipush (v := 19) hx hb dX9_repeats_2 (by decide) ?_
  refine lv_iadd hx hb dX9_repeats_4 ?_
  refine lv_topi (fun x_4 e_4 => ?_)
  have p_4 : x_4.toInt = (at_ + 19) := by rw [e_4]; exact t_add e_at_ (show (19 : Int32).toInt = 19 from rfl) (by omega) (by omega)
  refine ml_calendar X w (g_in p_4 (by omega)) dX9_repeats_5 ?_
  refine q_topE (y := Rw 2 (at_ + 19).toNat) (congrArg (Rw 2) (g_tn p_4)) ?_
  have y_5 : Rw 2 ((at_ + 19)).toNat = (rowM Rw ca) 19 := by rw [rowM_eq (by omega)]; congr 2; omega
  refine lv_iconst (v := 2) hx hb dX9_repeats_6 (by decide) ?_
  refine lv_icmp_ne (tgt := 17) hx hb dX9_repeats_7 (by decide) (fun c_7 => ?_) (fun c_7 => ?_)
  · skip
    have k_7 : ¬ ((rv (rowM Rw ca) 19) = 2) := fun h => c_7 ((g_eq (congrArg Int32.toInt y_5) (show (2 : Int32).toInt = 2 from rfl)).mpr h)
    refine lv_iconst (v := 1) hx hb dX9_repeats_17 (by decide) ?_
    refine lv_istore_n (lv' := [(2, .int 1), (0, .ref (b + 47)), (1, .int a_at_)]) hx hb dX9_repeats_18 rfl hl (by decide) rfl (fun ls hl => ?_)
    refine lv_iconst (v := 0) hx hb dX9_repeats_19 (by decide) ?_
    refine lv_istore_n (lv' := [(3, .int 0), (2, .int 1), (0, .ref (b + 47)), (1, .int a_at_)]) hx hb dX9_repeats_20 rfl hl (by decide) rfl (fun ls hl => ?_)
    refine q_loop (α := Int32 × Int32 × Int × Int) (fun a => a.1.toInt = a.2.2.1 ∧ a.2.1.toInt = a.2.2.2 ∧ ((0 ≤ a.2.2.2 ∧ a.2.2.2 ≤ 4 ∧ 1 ≤ a.2.2.1 ∧ a.2.2.1 ≤ 1000) ∧ (rv (rowM Rw ca) 19 = 1 → a.2.2.1 = repN (rowM Rw ca) a.2.2.2.toNat) ∧ (rv (rowM Rw ca) 19 ≠ 1 → a.2.2.2 = 0 ∧ a.2.2.1 = 1))) (fun a => (4 - a.2.2.2).toNat) (fun a => ∀ ls : Array Slot, lv_has ls 5 [(3, .int a.2.1), (2, .int a.1), (0, .ref (b + 47)), (1, .int a_at_)] → W p l e (qR 1 0 0) s m args below meth c s.heap [] 0 0 (MQ below (vp_Si (fun z => z.toInt = reps (rowM Rw ca))) args s 0 0 (fun _ => False)) (F0 m 21 ls [])) ?_ ⟨1, 0, 1, 0⟩ ⟨(show (1 : Int32).toInt = 1 from rfl), (show (0 : Int32).toInt = 0 from rfl), by dsimp only; exact ⟨by omega, fun _ => rfl, fun _ => ⟨rfl, rfl⟩⟩⟩ ls (lv_sub hl [0, 1, 2, 3] rfl)
    rintro ⟨v_al, v_k, al, k⟩ ⟨q_al, q_k, inv_21⟩ ih_21 ls hl
    dsimp only at q_al q_k inv_21 hl
    refine lv_iload_n hx hb dX9_repeats_21 rfl (lv_at hl 0 rfl) ?_
    refine lv_iconst (v := 4) hx hb dX9_repeats_22 (by decide) ?_
    refine lv_icmp_ge (tgt := 84) hx hb dX9_repeats_23 (by decide) (fun c_23 => ?_) (fun c_23 => ?_)
    · skip
      have k_23 : 4 ≤ k := (g_le (show (4 : Int32).toInt = 4 from rfl) q_k).mp c_23
      refine lv_iload_n hx hb dX9_repeats_84 rfl (lv_at hl 1 rfl) ?_
      exact q_pret X w dX9_repeats_85 (by unfold reps; rw [if_neg k_7]; exact dite (rv (rowM Rw ca) 19 = 1) (fun q0 => by rw [if_pos q0, q_al, inv_21.2.1 q0, show k = 4 by omega]; rfl) (fun q0 => by rw [if_neg q0, q_al]; exact (inv_21.2.2 q0).2))
    · skip
      have k_23 : ¬ (4 ≤ k) := fun h => c_23 ((g_le (show (4 : Int32).toInt = 4 from rfl) q_k).mpr h)
      refine lv_aload_n hx hb dX9_repeats_26 rfl (lv_at hl 2 rfl) ?_
      refine lv_iload_n hx hb dX9_repeats_27 rfl (lv_at hl 3 rfl) ?_
      refine lv_bipush (v := 19) hx hb dX9_repeats_28 (by decide) ?_
      refine lv_iadd hx hb dX9_repeats_30 ?_
      refine lv_topi (fun x_30 e_30 => ?_)
      have p_30 : x_30.toInt = (at_ + 19) := by rw [e_30]; exact t_add e_at_ (show (19 : Int32).toInt = 19 from rfl) (by omega) (by omega)
      refine ml_calendar X w (g_in p_30 (by omega)) dX9_repeats_31 ?_
      refine q_topE (y := Rw 2 (at_ + 19).toNat) (congrArg (Rw 2) (g_tn p_30)) ?_
      have y_31 : Rw 2 ((at_ + 19)).toNat = (rowM Rw ca) 19 := by rw [rowM_eq (by omega)]; congr 2; omega
      refine lv_iconst (v := 1) hx hb dX9_repeats_32 (by decide) ?_
      refine lv_icmp_ne (tgt := 84) hx hb dX9_repeats_33 (by decide) (fun c_33 => ?_) (fun c_33 => ?_)
      · skip
        have k_33 : ¬ ((rv (rowM Rw ca) 19) = 1) := fun h => c_33 ((g_eq (congrArg Int32.toInt y_31) (show (1 : Int32).toInt = 1 from rfl)).mpr h)
        refine lv_iload_n hx hb dX9_repeats_84 rfl (lv_at hl 1 rfl) ?_
        exact q_pret X w dX9_repeats_85 (by unfold reps; rw [if_neg k_7]; rw [if_neg k_33]; rw [q_al]; exact (inv_21.2.2 k_33).2)
      · skip
        have k_33 : (rv (rowM Rw ca) 19) = 1 := (g_eq (congrArg Int32.toInt y_31) (show (1 : Int32).toInt = 1 from rfl)).mp c_33
        have hd := H_div k (by omega) (by omega)
        refine lv_aload_n hx hb dX9_repeats_36 rfl (lv_at hl 2 rfl) ?_
        refine lv_iload_n hx hb dX9_repeats_37 rfl (lv_at hl 3 rfl) ?_
        refine lv_bipush (v := 20) hx hb dX9_repeats_38 (by decide) ?_
        refine lv_iadd hx hb dX9_repeats_40 ?_
        refine lv_topi (fun x_40 e_40 => ?_)
        have p_40 : x_40.toInt = (at_ + 20) := by rw [e_40]; exact t_add e_at_ (show (20 : Int32).toInt = 20 from rfl) (by omega) (by omega)
        refine lv_iload_n hx hb dX9_repeats_41 rfl (lv_at hl 0 rfl) ?_
        refine lv_iadd hx hb dX9_repeats_42 ?_
        refine lv_topi (fun x_42 e_42 => ?_)
        have p_42 : x_42.toInt = ((at_ + 20) + k) := by rw [e_42]; exact t_add p_40 q_k (by omega) (by omega)
        refine ml_calendar X w (g_in p_42 (by omega)) dX9_repeats_43 ?_
        refine q_topE (y := Rw 2 ((at_ + 20) + k).toNat) (congrArg (Rw 2) (g_tn p_42)) ?_
        have y_43 : Rw 2 (((at_ + 20) + k)).toNat = (rowM Rw ca) (20 + k) := by rw [rowM_eq (by omega)]; congr 2; omega
        refine lv_istore (lv' := [(4, .int (Rw 2 ((at_ + 20) + k).toNat)), (3, .int v_k), (2, .int v_al), (0, .ref (b + 47)), (1, .int a_at_)]) hx hb dX9_repeats_44 hl (by decide) rfl (fun ls hl => ?_)
        refine lv_aload_n hx hb dX9_repeats_46 rfl (lv_at hl 3 rfl) ?_
        refine lv_iload_n hx hb dX9_repeats_47 rfl (lv_at hl 4 rfl) ?_
        refine lv_bipush (v := 24) hx hb dX9_repeats_48 (by decide) ?_
        refine lv_iadd hx hb dX9_repeats_50 ?_
        refine lv_topi (fun x_50 e_50 => ?_)
        have p_50 : x_50.toInt = (at_ + 24) := by rw [e_50]; exact t_add e_at_ (show (24 : Int32).toInt = 24 from rfl) (by omega) (by omega)
        refine lv_iload_n hx hb dX9_repeats_51 rfl (lv_at hl 1 rfl) ?_
        refine lv_iadd hx hb dX9_repeats_52 ?_
        refine lv_topi (fun x_52 e_52 => ?_)
        have p_52 : x_52.toInt = ((at_ + 24) + k) := by rw [e_52]; exact t_add p_50 q_k (by omega) (by omega)
        refine ml_calendar X w (g_in p_52 (by omega)) dX9_repeats_53 ?_
        refine q_topE (y := Rw 2 ((at_ + 24) + k).toNat) (congrArg (Rw 2) (g_tn p_52)) ?_
        have y_53 : Rw 2 (((at_ + 24) + k)).toNat = (rowM Rw ca) (24 + k) := by rw [rowM_eq (by omega)]; congr 2; omega
        refine lv_if_eq (tgt := 69) hx hb dX9_repeats_54 (by decide) (fun c_54 => ?_) (fun c_54 => ?_)
        · skip
          have k_54 : (rv (rowM Rw ca) (24 + k)) = 0 := (g_eq (congrArg Int32.toInt y_53) (show (0 : Int32).toInt = 0 from rfl)).mp c_54
          refine lv_iload_n hx hb dX9_repeats_69 rfl (lv_at hl 2 rfl) ?_
          refine lv_sipush (v := 1000) hx hb dX9_repeats_70 (by decide) ?_
          refine lv_icmp_le (tgt := 78) hx hb dX9_repeats_73 (by decide) (fun c_73 => ?_) (fun c_73 => ?_)
          · skip
            have k_73 : al ≤ 1000 := (g_le q_al (show (1000 : Int32).toInt = 1000 from rfl)).mp c_73
            obtain ⟨x_78, e_78⟩ : ∃ z : Int32, z = (v_k + 1) := ⟨_, rfl⟩
            have p_78 : x_78.toInt = (k + 1) := by rw [e_78]; exact t_add q_k (show (1 : Int32).toInt = 1 from rfl) (by omega) (by omega)
            refine lv_iinc (v := x_78) (lv' := [(3, .int x_78), (4, .int (Rw 2 ((at_ + 20) + k).toNat)), (2, .int v_al), (0, .ref (b + 47)), (1, .int a_at_)]) hx hb dX9_repeats_78 hl (k := 1) rfl (by rw [e_78]; rfl) (by decide) rfl (fun ls hl => ?_)
            refine lv_goto (tgt := 21) hx hb dX9_repeats_81 (by decide) ?_
            refine ih_21 ⟨v_al, x_78, al, (k + 1)⟩ ⟨q_al, p_78, by dsimp only; refine ⟨by omega, fun _ => ?_, fun q => absurd k_33 q⟩; rw [repN_s (by omega)]; have q1 := inv_21.2.1 k_33; rw [← q1, if_neg (by omega), if_neg (show ¬ (rv (rowM Rw ca) (24 + k) ≠ 0) from fun q => q k_54), if_neg (by omega)]⟩ (by dsimp only; omega) ls (lv_sub hl [0, 2, 3, 4] rfl)
          · skip
            have k_73 : ¬ (al ≤ 1000) := fun h => c_73 ((g_le q_al (show (1000 : Int32).toInt = 1000 from rfl)).mpr h)
            refine lv_iconst (v := 0) hx hb dX9_repeats_76 (by decide) ?_
            exact q_pret X w dX9_repeats_77 (by unfold reps; rw [if_neg k_7]; rw [if_pos k_33]; have q1 := inv_21.2.1 k_33; have q2 : repN (rowM Rw ca) (k + 1).toNat = 0 := (by rw [repN_s (by omega), ← q1, if_neg (by omega), if_neg (show ¬ (rv (rowM Rw ca) (24 + k) ≠ 0) from fun q => q k_54), if_pos (by omega)]); rw [repN_0 (n := (k + 1).toNat) q2 (by omega)]; rfl)
        · skip
          have k_54 : ¬ ((rv (rowM Rw ca) (24 + k)) = 0) := fun h => c_54 ((g_eq (congrArg Int32.toInt y_53) (show (0 : Int32).toInt = 0 from rfl)).mpr h)
          have hv := hd k_54
          have hg := gcdI_bd (x := al) (y := rv (rowM Rw ca) (20 + k)) (by omega)
          refine lv_iload_n hx hb dX9_repeats_57 rfl (lv_at hl 2 rfl) ?_
          refine lv_iload_n hx hb dX9_repeats_58 rfl (lv_at hl 2 rfl) ?_
          refine lv_iload hx hb dX9_repeats_59 (lv_at hl 0 rfl) ?_
          refine q_cPS X w (c_X9_divisor l v_al (Rw 2 ((at_ + 20) + k).toNat) al (rv (rowM Rw ca) (20 + k)) q_al (congrArg Int32.toInt y_43) (by first | assumption | omega) (by first | assumption | omega) D t b n (mS t b σ0 I Rw)) v_X9_76 rfl ⟨Nat.le_of_ble_eq_true rfl, Nat.le_of_ble_eq_true rfl⟩ rfl hl.1 (Nat.le_of_ble_eq_true rfl) dX9_repeats_61 ⟨Nat.zero_le _, Nat.zero_le _⟩ (fun r_61 z_61 => ?_)
          refine lv_idiv hx hb dX9_repeats_64 (g_ne0 z_61 (by omega)) ?_
          refine lv_topi (fun x_64 e_64 => ?_)
          have p_64 : x_64.toInt = (al / (gcdI al (rv (rowM Rw ca) (20 + k)))) := by rw [e_64]; exact t_div q_al z_61 (by omega) (by omega)
          refine lv_iload hx hb dX9_repeats_65 (lv_at hl 0 rfl) ?_
          refine lv_imul hx hb dX9_repeats_67 ?_
          refine lv_topi (fun x_67 e_67 => ?_)
          have p_67 : x_67.toInt = ((al / (gcdI al (rv (rowM Rw ca) (20 + k)))) * (rv (rowM Rw ca) (20 + k))) := by rw [e_67]; exact t_mul p_64 (congrArg Int32.toInt y_43) (by have hq := div_mul_bd (x := al) (y := gcdI al (rv (rowM Rw ca) (20 + k))) (v := rv (rowM Rw ca) (20 + k)) (by omega) (by omega) (by omega); omega) (by have hq := div_mul_bd (x := al) (y := gcdI al (rv (rowM Rw ca) (20 + k))) (v := rv (rowM Rw ca) (20 + k)) (by omega) (by omega) (by omega); omega)
          refine lv_istore_n (lv' := [(2, .int x_67), (4, .int (Rw 2 ((at_ + 20) + k).toNat)), (3, .int v_k), (0, .ref (b + 47)), (1, .int a_at_)]) hx hb dX9_repeats_68 rfl hl (by decide) rfl (fun ls hl => ?_)
          have hq := div_mul_bd (x := al) (y := gcdI al (rv (rowM Rw ca) (20 + k))) (v := rv (rowM Rw ca) (20 + k)) (by omega) (by omega) (by omega)
          have hq2 := div_mul_ge (x := al) (y := rv (rowM Rw ca) (20 + k)) (by omega) (by omega)
          refine lv_iload_n hx hb dX9_repeats_69 rfl (lv_at hl 0 rfl) ?_
          refine lv_sipush (v := 1000) hx hb dX9_repeats_70 (by decide) ?_
          refine lv_icmp_le (tgt := 78) hx hb dX9_repeats_73 (by decide) (fun c_73 => ?_) (fun c_73 => ?_)
          · skip
            have k_73 : ((al / (gcdI al (rv (rowM Rw ca) (20 + k)))) * (rv (rowM Rw ca) (20 + k))) ≤ 1000 := (g_le p_67 (show (1000 : Int32).toInt = 1000 from rfl)).mp c_73
            obtain ⟨x_78, e_78⟩ : ∃ z : Int32, z = (v_k + 1) := ⟨_, rfl⟩
            have p_78 : x_78.toInt = (k + 1) := by rw [e_78]; exact t_add q_k (show (1 : Int32).toInt = 1 from rfl) (by omega) (by omega)
            refine lv_iinc (v := x_78) (lv' := [(3, .int x_78), (2, .int x_67), (4, .int (Rw 2 ((at_ + 20) + k).toNat)), (0, .ref (b + 47)), (1, .int a_at_)]) hx hb dX9_repeats_78 hl (k := 2) rfl (by rw [e_78]; rfl) (by decide) rfl (fun ls hl => ?_)
            refine lv_goto (tgt := 21) hx hb dX9_repeats_81 (by decide) ?_
            refine ih_21 ⟨x_67, x_78, ((al / (gcdI al (rv (rowM Rw ca) (20 + k)))) * (rv (rowM Rw ca) (20 + k))), (k + 1)⟩ ⟨p_67, p_78, by dsimp only; refine ⟨by omega, fun _ => ?_, fun q => absurd k_33 q⟩; rw [repN_s (by omega)]; have q1 := inv_21.2.1 k_33; rw [← q1, if_neg (by omega), if_pos k_54, if_neg (by omega)]⟩ (by dsimp only; omega) ls (lv_sub hl [0, 1, 3, 4] rfl)
          · skip
            have k_73 : ¬ (((al / (gcdI al (rv (rowM Rw ca) (20 + k)))) * (rv (rowM Rw ca) (20 + k))) ≤ 1000) := fun h => c_73 ((g_le p_67 (show (1000 : Int32).toInt = 1000 from rfl)).mpr h)
            refine lv_iconst (v := 0) hx hb dX9_repeats_76 (by decide) ?_
            exact q_pret X w dX9_repeats_77 (by unfold reps; rw [if_neg k_7]; rw [if_pos k_33]; have q1 := inv_21.2.1 k_33; have q2 : repN (rowM Rw ca) (k + 1).toNat = 0 := (by rw [repN_s (by omega), ← q1, if_neg (by omega), if_pos k_54, if_pos (by omega)]); rw [repN_0 (n := (k + 1).toNat) q2 (by omega)]; rfl)
  · skip
    have k_7 : (rv (rowM Rw ca) 19) = 2 := (g_eq (congrArg Int32.toInt y_5) (show (2 : Int32).toInt = 2 from rfl)).mp c_7
    refine lv_aload_n hx hb dX9_repeats_10 rfl (lv_at hl 0 rfl) ?_
    refine lv_iload_n hx hb dX9_repeats_11 rfl (lv_at hl 1 rfl) ?_
    refine lv_bipush (v := 28) hx hb dX9_repeats_12 (by decide) ?_
    refine lv_iadd hx hb dX9_repeats_14 ?_
    refine lv_topi (fun x_14 e_14 => ?_)
    have p_14 : x_14.toInt = (at_ + 28) := by rw [e_14]; exact t_add e_at_ (show (28 : Int32).toInt = 28 from rfl) (by omega) (by omega)
    refine ml_calendar X w (g_in p_14 (by omega)) dX9_repeats_15 ?_
    refine q_topE (y := Rw 2 (at_ + 28).toNat) (congrArg (Rw 2) (g_tn p_14)) ?_
    have y_15 : Rw 2 ((at_ + 28)).toNat = (rowM Rw ca) 28 := by rw [rowM_eq (by omega)]; congr 2; omega
    exact q_pret X w dX9_repeats_16 (by unfold reps; rw [if_pos k_7]; exact (congrArg Int32.toInt y_15))

set_option maxHeartbeats 4000000 in
set_option maxRecDepth 100000 in
theorem c_X9_ofFeast (l : Launch) (D : va_G) (t : Nat → ClassId) (b n : Nat) (σ0 : qM) (I : Nat → Int32) (Rw : Nat → Nat → Int32) (a_f : Int32) (a_k : Int32) (f : Int) (k : Int) (e_f : a_f.toInt = f) (e_k : a_k.toInt = k) (h_1 : 0 ≤ f ∧ f < 8) (h_2 : 0 ≤ k ∧ k < 6) : qP l yX9_ofFeast cX9_ofFeast 3 (some .int) 0 D t b n (mS t b σ0 I Rw) [.ref (b + 45), .int a_f, .int a_k] (fun z => z = feM Rw f k) := by
  refine qP.of (by decide +kernel) (Nat.le_of_ble_eq_true rfl) (fun p e s m args below meth c X w ls hl => ?_)
  have hx := X.1
  have hb := X.2.1
  have hl : lv_has ls 3 [(0, .ref (b + 45)), (1, .int a_f), (2, .int a_k)] := hl
  refine lv_aload_n hx hb dX9_ofFeast_0 rfl (lv_at hl 0 rfl) ?_
  refine mg_feast X w dX9_ofFeast_1 ?_
  refine lv_bipush (v := 6) hx hb dX9_ofFeast_4 (by decide) ?_
  refine lv_iload_n hx hb dX9_ofFeast_6 rfl (lv_at hl 1 rfl) ?_
  refine lv_imul hx hb dX9_ofFeast_7 ?_
  refine lv_topi (fun x_7 e_7 => ?_)
  have p_7 : x_7.toInt = (6 * f) := by rw [e_7]; exact t_mul (show (6 : Int32).toInt = 6 from rfl) e_f (by omega) (by omega)
  refine lv_iload_n hx hb dX9_ofFeast_8 rfl (lv_at hl 2 rfl) ?_
  refine lv_iadd hx hb dX9_ofFeast_9 ?_
  refine lv_topi (fun x_9 e_9 => ?_)
  have p_9 : x_9.toInt = ((6 * f) + k) := by rw [e_9]; exact t_add p_7 e_k (by omega) (by omega)
  refine ml_feast X w (g_in p_9 (by omega)) dX9_ofFeast_10 ?_
  refine q_topE (y := Rw 16 ((6 * f) + k).toNat) (congrArg (Rw 16) (g_tn p_9)) ?_
  exact q_pret X w dX9_ofFeast_11 (by exact (feM_eq h_2).symm)

set_option maxHeartbeats 4000000 in
set_option maxRecDepth 100000 in
theorem c_X9_isFeast (l : Launch) (D : va_G) (t : Nat → ClassId) (b n : Nat) (σ0 : qM) (I : Nat → Int32) (Rw : Nat → Nat → Int32) (a_f : Int32) (f : Int) (e_f : a_f.toInt = f) : qP l yX9_isFeast cX9_isFeast 2 (some .boolean) 0 D t b n (mS t b σ0 I Rw) [.ref (b + 45), .int a_f] (fun z => z = bI (decide (0 ≤ f ∧ f < (I 19).toInt))) := by
  refine qP.of (by decide +kernel) (Nat.le_of_ble_eq_true rfl) (fun p e s m args below meth c X w ls hl => ?_)
  have hx := X.1
  have hb := X.2.1
  have hl : lv_has ls 2 [(0, .ref (b + 45)), (1, .int a_f)] := hl
  refine lv_iload_n hx hb dX9_isFeast_0 rfl (lv_at hl 1 rfl) ?_
  refine lv_if_lt (tgt := 16) hx hb dX9_isFeast_1 (by decide) (fun c_1 => ?_) (fun c_1 => ?_)
  · skip
    have k_1 : f < 0 := (g_lt e_f (show (0 : Int32).toInt = 0 from rfl)).mp c_1
    refine lv_iconst (v := 0) hx hb dX9_isFeast_16 (by decide) ?_
    exact q_pretz X w dX9_isFeast_17 (rfl) (by exact bI_0 (by omega))
  · skip
    have k_1 : ¬ (f < 0) := fun h => c_1 ((g_lt e_f (show (0 : Int32).toInt = 0 from rfl)).mpr h)
    refine lv_iload_n hx hb dX9_isFeast_4 rfl (lv_at hl 1 rfl) ?_
    refine lv_aload_n hx hb dX9_isFeast_5 rfl (lv_at hl 0 rfl) ?_
    refine mg_feasts X w dX9_isFeast_6 ?_
    refine lv_icmp_ge (tgt := 16) hx hb dX9_isFeast_9 (by decide) (fun c_9 => ?_) (fun c_9 => ?_)
    · skip
      have k_9 : ((I 19).toInt) ≤ f := (g_le rfl e_f).mp c_9
      refine lv_iconst (v := 0) hx hb dX9_isFeast_16 (by decide) ?_
      exact q_pretz X w dX9_isFeast_17 (rfl) (by exact bI_0 (by omega))
    · skip
      have k_9 : ¬ (((I 19).toInt) ≤ f) := fun h => c_9 ((g_le rfl e_f).mpr h)
      refine lv_iconst (v := 1) hx hb dX9_isFeast_12 (by decide) ?_
      refine lv_goto (tgt := 17) hx hb dX9_isFeast_13 (by decide) ?_
      exact q_pretz X w dX9_isFeast_17 (rfl) (by exact bI_1 (by omega))

set_option maxHeartbeats 4000000 in
set_option maxRecDepth 100000 in
theorem c_X9_canBeFeast (l : Launch) (D : va_G) (t : Nat → ClassId) (b n : Nat) (σ0 : qM) (I : Nat → Int32) (Rw : Nat → Nat → Int32) (a_rule : Int32) (a_wh : Int32) (a_fa : Int32) (a_fb : Int32) (a_fc : Int32) (rule : Int) (wh : Int) (fa : Int) (fb : Int) (fc : Int) (e_rule : a_rule.toInt = rule) (e_wh : a_wh.toInt = wh) (e_fa : a_fa.toInt = fa) (e_fb : a_fb.toInt = fb) (e_fc : a_fc.toInt = fc) (h_1 : 0 ≤ rule ∧ rule ≤ 4) : qP l yX9_canBeFeast cX9_canBeFeast 6 (some .boolean) 1 D t b n (mS t b σ0 I Rw) [.ref (b + 45), .int a_rule, .int a_wh, .int a_fa, .int a_fb, .int a_fc] (fun z => z = bI (decide ((rule = 0 ∧ (0 ≤ wh ∧ wh < (I 5).toInt) ∧ (1 ≤ fa ∧ fa ≤ 15) ∧ (1 ≤ fb ∧ fb ≤ 60) ∧ fc = 0) ∨ (rule = 1 ∧ (0 ≤ wh ∧ wh < (I 5).toInt) ∧ (1 ≤ fa ∧ fa ≤ 15) ∧ ((1 ≤ fb ∧ fb ≤ 5) ∨ fb = -1) ∧ (0 ≤ fc ∧ fc ≤ 9)) ∨ (rule = 2 ∧ (0 ≤ wh ∧ wh < (I 19).toInt) ∧ (-400 ≤ fa ∧ fa ≤ 400) ∧ fb = 0 ∧ fc = 0) ∨ (rule = 3 ∧ (0 ≤ wh ∧ wh < (I 19).toInt) ∧ (0 ≤ fa ∧ fa < (I 5).toInt) ∧ (0 ≤ fb ∧ fb ≤ 9) ∧ fc = 0) ∨ (rule = 4 ∧ (0 ≤ wh ∧ wh < (I 19).toInt) ∧ (0 ≤ fa ∧ fa < (I 5).toInt) ∧ (1 ≤ fb ∧ fb ≤ 60) ∧ fc = 0)))) := by
  refine qP.of (by decide +kernel) (Nat.le_of_ble_eq_true rfl) (fun p e s m args below meth c X w ls hl => ?_)
  have hx := X.1
  have hb := X.2.1
  have hl : lv_has ls 6 [(0, .ref (b + 45)), (1, .int a_rule), (2, .int a_wh), (3, .int a_fa), (4, .int a_fb), (5, .int a_fc)] := hl
  refine lv_iload_n hx hb dX9_canBeFeast_0 rfl (lv_at hl 1 rfl) ?_
  by_cases s_0 : rule = 0
  · refine lv_tableIn (tgt := 32) hx hb dX9_canBeFeast_1 (by rw [e_rule, s_0]; decide) (by rw [e_rule, s_0]; decide) (by rw [e_rule, s_0]; rfl) (by decide) ?_
    refine lv_aload_n hx hb dX9_canBeFeast_32 rfl (lv_at hl 0 rfl) ?_
    refine lv_iload_n hx hb dX9_canBeFeast_33 rfl (lv_at hl 2 rfl) ?_
    refine q_cPV X w (c_X9_isCalendar l D t b n σ0 I Rw a_wh wh e_wh) v_X9_221 (k := 45) rfl rfl rfl ⟨Nat.le_of_ble_eq_true rfl, Nat.le_of_ble_eq_true rfl⟩ rfl hl.1 (Nat.le_of_ble_eq_true rfl) dX9_canBeFeast_34 ⟨Nat.zero_le _, Nat.zero_le _⟩ (fun r_34 z_34 => ?_)
    refine lv_if_eq (tgt := 70) hx hb dX9_canBeFeast_37 (by decide) (fun c_37 => ?_) (fun c_37 => ?_)
    · skip
      rw [z_34] at c_37
      have k_37 := bI_f.mp c_37
      refine lv_iconst (v := 0) hx hb dX9_canBeFeast_70 (by decide) ?_
      exact q_pretz X w dX9_canBeFeast_71 (rfl) (by exact bI_0 (by omega))
    · skip
      rw [z_34] at c_37
      have k_37 := bI_t.mp c_37
      refine lv_iload_n hx hb dX9_canBeFeast_40 rfl (lv_at hl 3 rfl) ?_
      refine lv_iconst (v := 1) hx hb dX9_canBeFeast_41 (by decide) ?_
      refine lv_bipush (v := 15) hx hb dX9_canBeFeast_42 (by decide) ?_
      refine q_cPS X w (c_X9_isBetween l a_fa 1 15 fa 1 15 e_fa (show (1 : Int32).toInt = 1 from rfl) (show (15 : Int32).toInt = 15 from rfl) D t b n (mS t b σ0 I Rw)) v_X9_70 rfl ⟨Nat.le_of_ble_eq_true rfl, Nat.le_of_ble_eq_true rfl⟩ rfl hl.1 (Nat.le_of_ble_eq_true rfl) dX9_canBeFeast_44 ⟨Nat.zero_le _, Nat.zero_le _⟩ (fun r_44 z_44 => ?_)
      refine lv_if_eq (tgt := 70) hx hb dX9_canBeFeast_47 (by decide) (fun c_47 => ?_) (fun c_47 => ?_)
      · skip
        rw [z_44] at c_47
        have k_47 := bI_f.mp c_47
        refine lv_iconst (v := 0) hx hb dX9_canBeFeast_70 (by decide) ?_
        exact q_pretz X w dX9_canBeFeast_71 (rfl) (by exact bI_0 (by omega))
      · skip
        rw [z_44] at c_47
        have k_47 := bI_t.mp c_47
        refine lv_iload hx hb dX9_canBeFeast_50 (lv_at hl 4 rfl) ?_
        refine lv_iconst (v := 1) hx hb dX9_canBeFeast_52 (by decide) ?_
        refine lv_bipush (v := 60) hx hb dX9_canBeFeast_53 (by decide) ?_
        refine q_cPS X w (c_X9_isBetween l a_fb 1 60 fb 1 60 e_fb (show (1 : Int32).toInt = 1 from rfl) (show (60 : Int32).toInt = 60 from rfl) D t b n (mS t b σ0 I Rw)) v_X9_70 rfl ⟨Nat.le_of_ble_eq_true rfl, Nat.le_of_ble_eq_true rfl⟩ rfl hl.1 (Nat.le_of_ble_eq_true rfl) dX9_canBeFeast_55 ⟨Nat.zero_le _, Nat.zero_le _⟩ (fun r_55 z_55 => ?_)
        refine lv_if_eq (tgt := 70) hx hb dX9_canBeFeast_58 (by decide) (fun c_58 => ?_) (fun c_58 => ?_)
        · skip
          rw [z_55] at c_58
          have k_58 := bI_f.mp c_58
          refine lv_iconst (v := 0) hx hb dX9_canBeFeast_70 (by decide) ?_
          exact q_pretz X w dX9_canBeFeast_71 (rfl) (by exact bI_0 (by omega))
        · skip
          rw [z_55] at c_58
          have k_58 := bI_t.mp c_58
          refine lv_iload hx hb dX9_canBeFeast_61 (lv_at hl 5 rfl) ?_
          refine lv_if_ne (tgt := 70) hx hb dX9_canBeFeast_63 (by decide) (fun c_63 => ?_) (fun c_63 => ?_)
          · skip
            have k_63 : ¬ (fc = 0) := fun h => c_63 ((g_eq e_fc (show (0 : Int32).toInt = 0 from rfl)).mpr h)
            refine lv_iconst (v := 0) hx hb dX9_canBeFeast_70 (by decide) ?_
            exact q_pretz X w dX9_canBeFeast_71 (rfl) (by exact bI_0 (by omega))
          · skip
            have k_63 : fc = 0 := (g_eq e_fc (show (0 : Int32).toInt = 0 from rfl)).mp c_63
            refine lv_iconst (v := 1) hx hb dX9_canBeFeast_66 (by decide) ?_
            refine lv_goto (tgt := 71) hx hb dX9_canBeFeast_67 (by decide) ?_
            exact q_pretz X w dX9_canBeFeast_71 (rfl) (by exact bI_1 (by omega))
  by_cases s_1 : rule = 1
  · refine lv_tableIn (tgt := 72) hx hb dX9_canBeFeast_1 (by rw [e_rule, s_1]; decide) (by rw [e_rule, s_1]; decide) (by rw [e_rule, s_1]; rfl) (by decide) ?_
    refine lv_aload_n hx hb dX9_canBeFeast_72 rfl (lv_at hl 0 rfl) ?_
    refine lv_iload_n hx hb dX9_canBeFeast_73 rfl (lv_at hl 2 rfl) ?_
    refine q_cPV X w (c_X9_isCalendar l D t b n σ0 I Rw a_wh wh e_wh) v_X9_221 (k := 45) rfl rfl rfl ⟨Nat.le_of_ble_eq_true rfl, Nat.le_of_ble_eq_true rfl⟩ rfl hl.1 (Nat.le_of_ble_eq_true rfl) dX9_canBeFeast_74 ⟨Nat.zero_le _, Nat.zero_le _⟩ (fun r_74 z_74 => ?_)
    refine lv_if_eq (tgt := 121) hx hb dX9_canBeFeast_77 (by decide) (fun c_77 => ?_) (fun c_77 => ?_)
    · skip
      rw [z_74] at c_77
      have k_77 := bI_f.mp c_77
      refine lv_iconst (v := 0) hx hb dX9_canBeFeast_121 (by decide) ?_
      exact q_pretz X w dX9_canBeFeast_122 (rfl) (by exact bI_0 (by omega))
    · skip
      rw [z_74] at c_77
      have k_77 := bI_t.mp c_77
      refine lv_iload_n hx hb dX9_canBeFeast_80 rfl (lv_at hl 3 rfl) ?_
      refine lv_iconst (v := 1) hx hb dX9_canBeFeast_81 (by decide) ?_
      refine lv_bipush (v := 15) hx hb dX9_canBeFeast_82 (by decide) ?_
      refine q_cPS X w (c_X9_isBetween l a_fa 1 15 fa 1 15 e_fa (show (1 : Int32).toInt = 1 from rfl) (show (15 : Int32).toInt = 15 from rfl) D t b n (mS t b σ0 I Rw)) v_X9_70 rfl ⟨Nat.le_of_ble_eq_true rfl, Nat.le_of_ble_eq_true rfl⟩ rfl hl.1 (Nat.le_of_ble_eq_true rfl) dX9_canBeFeast_84 ⟨Nat.zero_le _, Nat.zero_le _⟩ (fun r_84 z_84 => ?_)
      refine lv_if_eq (tgt := 121) hx hb dX9_canBeFeast_87 (by decide) (fun c_87 => ?_) (fun c_87 => ?_)
      · skip
        rw [z_84] at c_87
        have k_87 := bI_f.mp c_87
        refine lv_iconst (v := 0) hx hb dX9_canBeFeast_121 (by decide) ?_
        exact q_pretz X w dX9_canBeFeast_122 (rfl) (by exact bI_0 (by omega))
      · skip
        rw [z_84] at c_87
        have k_87 := bI_t.mp c_87
        refine lv_iload hx hb dX9_canBeFeast_90 (lv_at hl 4 rfl) ?_
        refine lv_iconst (v := 1) hx hb dX9_canBeFeast_92 (by decide) ?_
        refine lv_iconst (v := 5) hx hb dX9_canBeFeast_93 (by decide) ?_
        refine q_cPS X w (c_X9_isBetween l a_fb 1 5 fb 1 5 e_fb (show (1 : Int32).toInt = 1 from rfl) (show (5 : Int32).toInt = 5 from rfl) D t b n (mS t b σ0 I Rw)) v_X9_70 rfl ⟨Nat.le_of_ble_eq_true rfl, Nat.le_of_ble_eq_true rfl⟩ rfl hl.1 (Nat.le_of_ble_eq_true rfl) dX9_canBeFeast_94 ⟨Nat.zero_le _, Nat.zero_le _⟩ (fun r_94 z_94 => ?_)
        refine lv_if_ne (tgt := 106) hx hb dX9_canBeFeast_97 (by decide) (fun c_97 => ?_) (fun c_97 => ?_)
        · skip
          rw [z_94] at c_97
          have k_97 := bI_t.mp c_97
          refine lv_iload hx hb dX9_canBeFeast_106 (lv_at hl 5 rfl) ?_
          refine lv_iconst (v := 0) hx hb dX9_canBeFeast_108 (by decide) ?_
          refine lv_bipush (v := 9) hx hb dX9_canBeFeast_109 (by decide) ?_
          refine q_cPS X w (c_X9_isBetween l a_fc 0 9 fc 0 9 e_fc (show (0 : Int32).toInt = 0 from rfl) (show (9 : Int32).toInt = 9 from rfl) D t b n (mS t b σ0 I Rw)) v_X9_70 rfl ⟨Nat.le_of_ble_eq_true rfl, Nat.le_of_ble_eq_true rfl⟩ rfl hl.1 (Nat.le_of_ble_eq_true rfl) dX9_canBeFeast_111 ⟨Nat.zero_le _, Nat.zero_le _⟩ (fun r_111 z_111 => ?_)
          refine lv_if_eq (tgt := 121) hx hb dX9_canBeFeast_114 (by decide) (fun c_114 => ?_) (fun c_114 => ?_)
          · skip
            rw [z_111] at c_114
            have k_114 := bI_f.mp c_114
            refine lv_iconst (v := 0) hx hb dX9_canBeFeast_121 (by decide) ?_
            exact q_pretz X w dX9_canBeFeast_122 (rfl) (by exact bI_0 (by omega))
          · skip
            rw [z_111] at c_114
            have k_114 := bI_t.mp c_114
            refine lv_iconst (v := 1) hx hb dX9_canBeFeast_117 (by decide) ?_
            refine lv_goto (tgt := 122) hx hb dX9_canBeFeast_118 (by decide) ?_
            exact q_pretz X w dX9_canBeFeast_122 (rfl) (by exact bI_1 (by omega))
        · skip
          rw [z_94] at c_97
          have k_97 := bI_f.mp c_97
          refine lv_iload hx hb dX9_canBeFeast_100 (lv_at hl 4 rfl) ?_
          refine lv_iconst (v := (-1)) hx hb dX9_canBeFeast_102 (by decide) ?_
          refine lv_icmp_ne (tgt := 121) hx hb dX9_canBeFeast_103 (by decide) (fun c_103 => ?_) (fun c_103 => ?_)
          · skip
            have k_103 : ¬ (fb = (-1)) := fun h => c_103 ((g_eq e_fb (show ((-1) : Int32).toInt = (-1) from rfl)).mpr h)
            refine lv_iconst (v := 0) hx hb dX9_canBeFeast_121 (by decide) ?_
            exact q_pretz X w dX9_canBeFeast_122 (rfl) (by exact bI_0 (by omega))
          · skip
            have k_103 : fb = (-1) := (g_eq e_fb (show ((-1) : Int32).toInt = (-1) from rfl)).mp c_103
            refine lv_iload hx hb dX9_canBeFeast_106 (lv_at hl 5 rfl) ?_
            refine lv_iconst (v := 0) hx hb dX9_canBeFeast_108 (by decide) ?_
            refine lv_bipush (v := 9) hx hb dX9_canBeFeast_109 (by decide) ?_
            refine q_cPS X w (c_X9_isBetween l a_fc 0 9 fc 0 9 e_fc (show (0 : Int32).toInt = 0 from rfl) (show (9 : Int32).toInt = 9 from rfl) D t b n (mS t b σ0 I Rw)) v_X9_70 rfl ⟨Nat.le_of_ble_eq_true rfl, Nat.le_of_ble_eq_true rfl⟩ rfl hl.1 (Nat.le_of_ble_eq_true rfl) dX9_canBeFeast_111 ⟨Nat.zero_le _, Nat.zero_le _⟩ (fun r_111 z_111 => ?_)
            refine lv_if_eq (tgt := 121) hx hb dX9_canBeFeast_114 (by decide) (fun c_114 => ?_) (fun c_114 => ?_)
            · skip
              rw [z_111] at c_114
              have k_114 := bI_f.mp c_114
              refine lv_iconst (v := 0) hx hb dX9_canBeFeast_121 (by decide) ?_
              exact q_pretz X w dX9_canBeFeast_122 (rfl) (by exact bI_0 (by omega))
            · skip
              rw [z_111] at c_114
              have k_114 := bI_t.mp c_114
              refine lv_iconst (v := 1) hx hb dX9_canBeFeast_117 (by decide) ?_
              refine lv_goto (tgt := 122) hx hb dX9_canBeFeast_118 (by decide) ?_
              exact q_pretz X w dX9_canBeFeast_122 (rfl) (by exact bI_1 (by omega))
  by_cases s_2 : rule = 2
  · refine lv_tableIn (tgt := 123) hx hb dX9_canBeFeast_1 (by rw [e_rule, s_2]; decide) (by rw [e_rule, s_2]; decide) (by rw [e_rule, s_2]; rfl) (by decide) ?_
    refine lv_aload_n hx hb dX9_canBeFeast_123 rfl (lv_at hl 0 rfl) ?_
    refine lv_iload_n hx hb dX9_canBeFeast_124 rfl (lv_at hl 2 rfl) ?_
    refine q_cPV X w (c_X9_isFeast l D t b n σ0 I Rw a_wh wh e_wh) v_X9_281 (k := 45) rfl rfl rfl ⟨Nat.le_of_ble_eq_true rfl, Nat.le_of_ble_eq_true rfl⟩ rfl hl.1 (Nat.le_of_ble_eq_true rfl) dX9_canBeFeast_125 ⟨Nat.zero_le _, Nat.zero_le _⟩ (fun r_125 z_125 => ?_)
    refine lv_if_eq (tgt := 158) hx hb dX9_canBeFeast_128 (by decide) (fun c_128 => ?_) (fun c_128 => ?_)
    · skip
      rw [z_125] at c_128
      have k_128 := bI_f.mp c_128
      refine lv_iconst (v := 0) hx hb dX9_canBeFeast_158 (by decide) ?_
      exact q_pretz X w dX9_canBeFeast_159 (rfl) (by exact bI_0 (by omega))
    · skip
      rw [z_125] at c_128
      have k_128 := bI_t.mp c_128
      refine lv_iload_n hx hb dX9_canBeFeast_131 rfl (lv_at hl 3 rfl) ?_
      refine lv_sipush (v := (-400)) hx hb dX9_canBeFeast_132 (by decide) ?_
      refine lv_sipush (v := 400) hx hb dX9_canBeFeast_135 (by decide) ?_
      refine q_cPS X w (c_X9_isBetween l a_fa (-400) 400 fa (-400) 400 e_fa (show ((-400) : Int32).toInt = (-400) from rfl) (show (400 : Int32).toInt = 400 from rfl) D t b n (mS t b σ0 I Rw)) v_X9_70 rfl ⟨Nat.le_of_ble_eq_true rfl, Nat.le_of_ble_eq_true rfl⟩ rfl hl.1 (Nat.le_of_ble_eq_true rfl) dX9_canBeFeast_138 ⟨Nat.zero_le _, Nat.zero_le _⟩ (fun r_138 z_138 => ?_)
      refine lv_if_eq (tgt := 158) hx hb dX9_canBeFeast_141 (by decide) (fun c_141 => ?_) (fun c_141 => ?_)
      · skip
        rw [z_138] at c_141
        have k_141 := bI_f.mp c_141
        refine lv_iconst (v := 0) hx hb dX9_canBeFeast_158 (by decide) ?_
        exact q_pretz X w dX9_canBeFeast_159 (rfl) (by exact bI_0 (by omega))
      · skip
        rw [z_138] at c_141
        have k_141 := bI_t.mp c_141
        refine lv_iload hx hb dX9_canBeFeast_144 (lv_at hl 4 rfl) ?_
        refine lv_if_ne (tgt := 158) hx hb dX9_canBeFeast_146 (by decide) (fun c_146 => ?_) (fun c_146 => ?_)
        · skip
          have k_146 : ¬ (fb = 0) := fun h => c_146 ((g_eq e_fb (show (0 : Int32).toInt = 0 from rfl)).mpr h)
          refine lv_iconst (v := 0) hx hb dX9_canBeFeast_158 (by decide) ?_
          exact q_pretz X w dX9_canBeFeast_159 (rfl) (by exact bI_0 (by omega))
        · skip
          have k_146 : fb = 0 := (g_eq e_fb (show (0 : Int32).toInt = 0 from rfl)).mp c_146
          refine lv_iload hx hb dX9_canBeFeast_149 (lv_at hl 5 rfl) ?_
          refine lv_if_ne (tgt := 158) hx hb dX9_canBeFeast_151 (by decide) (fun c_151 => ?_) (fun c_151 => ?_)
          · skip
            have k_151 : ¬ (fc = 0) := fun h => c_151 ((g_eq e_fc (show (0 : Int32).toInt = 0 from rfl)).mpr h)
            refine lv_iconst (v := 0) hx hb dX9_canBeFeast_158 (by decide) ?_
            exact q_pretz X w dX9_canBeFeast_159 (rfl) (by exact bI_0 (by omega))
          · skip
            have k_151 : fc = 0 := (g_eq e_fc (show (0 : Int32).toInt = 0 from rfl)).mp c_151
            refine lv_iconst (v := 1) hx hb dX9_canBeFeast_154 (by decide) ?_
            refine lv_goto (tgt := 159) hx hb dX9_canBeFeast_155 (by decide) ?_
            exact q_pretz X w dX9_canBeFeast_159 (rfl) (by exact bI_1 (by omega))
  by_cases s_3 : rule = 3
  · refine lv_tableIn (tgt := 160) hx hb dX9_canBeFeast_1 (by rw [e_rule, s_3]; decide) (by rw [e_rule, s_3]; decide) (by rw [e_rule, s_3]; rfl) (by decide) ?_
    refine lv_aload_n hx hb dX9_canBeFeast_160 rfl (lv_at hl 0 rfl) ?_
    refine lv_iload_n hx hb dX9_canBeFeast_161 rfl (lv_at hl 2 rfl) ?_
    refine q_cPV X w (c_X9_isFeast l D t b n σ0 I Rw a_wh wh e_wh) v_X9_281 (k := 45) rfl rfl rfl ⟨Nat.le_of_ble_eq_true rfl, Nat.le_of_ble_eq_true rfl⟩ rfl hl.1 (Nat.le_of_ble_eq_true rfl) dX9_canBeFeast_162 ⟨Nat.zero_le _, Nat.zero_le _⟩ (fun r_162 z_162 => ?_)
    refine lv_if_eq (tgt := 196) hx hb dX9_canBeFeast_165 (by decide) (fun c_165 => ?_) (fun c_165 => ?_)
    · skip
      rw [z_162] at c_165
      have k_165 := bI_f.mp c_165
      refine lv_iconst (v := 0) hx hb dX9_canBeFeast_196 (by decide) ?_
      exact q_pretz X w dX9_canBeFeast_197 (rfl) (by exact bI_0 (by omega))
    · skip
      rw [z_162] at c_165
      have k_165 := bI_t.mp c_165
      refine lv_aload_n hx hb dX9_canBeFeast_168 rfl (lv_at hl 0 rfl) ?_
      refine lv_iload_n hx hb dX9_canBeFeast_169 rfl (lv_at hl 3 rfl) ?_
      refine q_cPV X w (c_X9_isCalendar l D t b n σ0 I Rw a_fa fa e_fa) v_X9_221 (k := 45) rfl rfl rfl ⟨Nat.le_of_ble_eq_true rfl, Nat.le_of_ble_eq_true rfl⟩ rfl hl.1 (Nat.le_of_ble_eq_true rfl) dX9_canBeFeast_170 ⟨Nat.zero_le _, Nat.zero_le _⟩ (fun r_170 z_170 => ?_)
      refine lv_if_eq (tgt := 196) hx hb dX9_canBeFeast_173 (by decide) (fun c_173 => ?_) (fun c_173 => ?_)
      · skip
        rw [z_170] at c_173
        have k_173 := bI_f.mp c_173
        refine lv_iconst (v := 0) hx hb dX9_canBeFeast_196 (by decide) ?_
        exact q_pretz X w dX9_canBeFeast_197 (rfl) (by exact bI_0 (by omega))
      · skip
        rw [z_170] at c_173
        have k_173 := bI_t.mp c_173
        refine lv_iload hx hb dX9_canBeFeast_176 (lv_at hl 4 rfl) ?_
        refine lv_iconst (v := 0) hx hb dX9_canBeFeast_178 (by decide) ?_
        refine lv_bipush (v := 9) hx hb dX9_canBeFeast_179 (by decide) ?_
        refine q_cPS X w (c_X9_isBetween l a_fb 0 9 fb 0 9 e_fb (show (0 : Int32).toInt = 0 from rfl) (show (9 : Int32).toInt = 9 from rfl) D t b n (mS t b σ0 I Rw)) v_X9_70 rfl ⟨Nat.le_of_ble_eq_true rfl, Nat.le_of_ble_eq_true rfl⟩ rfl hl.1 (Nat.le_of_ble_eq_true rfl) dX9_canBeFeast_181 ⟨Nat.zero_le _, Nat.zero_le _⟩ (fun r_181 z_181 => ?_)
        refine lv_if_eq (tgt := 196) hx hb dX9_canBeFeast_184 (by decide) (fun c_184 => ?_) (fun c_184 => ?_)
        · skip
          rw [z_181] at c_184
          have k_184 := bI_f.mp c_184
          refine lv_iconst (v := 0) hx hb dX9_canBeFeast_196 (by decide) ?_
          exact q_pretz X w dX9_canBeFeast_197 (rfl) (by exact bI_0 (by omega))
        · skip
          rw [z_181] at c_184
          have k_184 := bI_t.mp c_184
          refine lv_iload hx hb dX9_canBeFeast_187 (lv_at hl 5 rfl) ?_
          refine lv_if_ne (tgt := 196) hx hb dX9_canBeFeast_189 (by decide) (fun c_189 => ?_) (fun c_189 => ?_)
          · skip
            have k_189 : ¬ (fc = 0) := fun h => c_189 ((g_eq e_fc (show (0 : Int32).toInt = 0 from rfl)).mpr h)
            refine lv_iconst (v := 0) hx hb dX9_canBeFeast_196 (by decide) ?_
            exact q_pretz X w dX9_canBeFeast_197 (rfl) (by exact bI_0 (by omega))
          · skip
            have k_189 : fc = 0 := (g_eq e_fc (show (0 : Int32).toInt = 0 from rfl)).mp c_189
            refine lv_iconst (v := 1) hx hb dX9_canBeFeast_192 (by decide) ?_
            refine lv_goto (tgt := 197) hx hb dX9_canBeFeast_193 (by decide) ?_
            exact q_pretz X w dX9_canBeFeast_197 (rfl) (by exact bI_1 (by omega))
  refine lv_tableOut (tgt := 198) hx hb dX9_canBeFeast_1 (by rw [e_rule]; omega) (by decide) ?_
  refine lv_aload_n hx hb dX9_canBeFeast_198 rfl (lv_at hl 0 rfl) ?_
  refine lv_iload_n hx hb dX9_canBeFeast_199 rfl (lv_at hl 2 rfl) ?_
  refine q_cPV X w (c_X9_isFeast l D t b n σ0 I Rw a_wh wh e_wh) v_X9_281 (k := 45) rfl rfl rfl ⟨Nat.le_of_ble_eq_true rfl, Nat.le_of_ble_eq_true rfl⟩ rfl hl.1 (Nat.le_of_ble_eq_true rfl) dX9_canBeFeast_200 ⟨Nat.zero_le _, Nat.zero_le _⟩ (fun r_200 z_200 => ?_)
  refine lv_if_eq (tgt := 234) hx hb dX9_canBeFeast_203 (by decide) (fun c_203 => ?_) (fun c_203 => ?_)
  · skip
    rw [z_200] at c_203
    have k_203 := bI_f.mp c_203
    refine lv_iconst (v := 0) hx hb dX9_canBeFeast_234 (by decide) ?_
    exact q_pretz X w dX9_canBeFeast_235 (rfl) (by exact bI_0 (by omega))
  · skip
    rw [z_200] at c_203
    have k_203 := bI_t.mp c_203
    refine lv_aload_n hx hb dX9_canBeFeast_206 rfl (lv_at hl 0 rfl) ?_
    refine lv_iload_n hx hb dX9_canBeFeast_207 rfl (lv_at hl 3 rfl) ?_
    refine q_cPV X w (c_X9_isCalendar l D t b n σ0 I Rw a_fa fa e_fa) v_X9_221 (k := 45) rfl rfl rfl ⟨Nat.le_of_ble_eq_true rfl, Nat.le_of_ble_eq_true rfl⟩ rfl hl.1 (Nat.le_of_ble_eq_true rfl) dX9_canBeFeast_208 ⟨Nat.zero_le _, Nat.zero_le _⟩ (fun r_208 z_208 => ?_)
    refine lv_if_eq (tgt := 234) hx hb dX9_canBeFeast_211 (by decide) (fun c_211 => ?_) (fun c_211 => ?_)
    · skip
      rw [z_208] at c_211
      have k_211 := bI_f.mp c_211
      refine lv_iconst (v := 0) hx hb dX9_canBeFeast_234 (by decide) ?_
      exact q_pretz X w dX9_canBeFeast_235 (rfl) (by exact bI_0 (by omega))
    · skip
      rw [z_208] at c_211
      have k_211 := bI_t.mp c_211
      refine lv_iload hx hb dX9_canBeFeast_214 (lv_at hl 4 rfl) ?_
      refine lv_iconst (v := 1) hx hb dX9_canBeFeast_216 (by decide) ?_
      refine lv_bipush (v := 60) hx hb dX9_canBeFeast_217 (by decide) ?_
      refine q_cPS X w (c_X9_isBetween l a_fb 1 60 fb 1 60 e_fb (show (1 : Int32).toInt = 1 from rfl) (show (60 : Int32).toInt = 60 from rfl) D t b n (mS t b σ0 I Rw)) v_X9_70 rfl ⟨Nat.le_of_ble_eq_true rfl, Nat.le_of_ble_eq_true rfl⟩ rfl hl.1 (Nat.le_of_ble_eq_true rfl) dX9_canBeFeast_219 ⟨Nat.zero_le _, Nat.zero_le _⟩ (fun r_219 z_219 => ?_)
      refine lv_if_eq (tgt := 234) hx hb dX9_canBeFeast_222 (by decide) (fun c_222 => ?_) (fun c_222 => ?_)
      · skip
        rw [z_219] at c_222
        have k_222 := bI_f.mp c_222
        refine lv_iconst (v := 0) hx hb dX9_canBeFeast_234 (by decide) ?_
        exact q_pretz X w dX9_canBeFeast_235 (rfl) (by exact bI_0 (by omega))
      · skip
        rw [z_219] at c_222
        have k_222 := bI_t.mp c_222
        refine lv_iload hx hb dX9_canBeFeast_225 (lv_at hl 5 rfl) ?_
        refine lv_if_ne (tgt := 234) hx hb dX9_canBeFeast_227 (by decide) (fun c_227 => ?_) (fun c_227 => ?_)
        · skip
          have k_227 : ¬ (fc = 0) := fun h => c_227 ((g_eq e_fc (show (0 : Int32).toInt = 0 from rfl)).mpr h)
          refine lv_iconst (v := 0) hx hb dX9_canBeFeast_234 (by decide) ?_
          exact q_pretz X w dX9_canBeFeast_235 (rfl) (by exact bI_0 (by omega))
        · skip
          have k_227 : fc = 0 := (g_eq e_fc (show (0 : Int32).toInt = 0 from rfl)).mp c_227
          refine lv_iconst (v := 1) hx hb dX9_canBeFeast_230 (by decide) ?_
          refine lv_goto (tgt := 235) hx hb dX9_canBeFeast_231 (by decide) ?_
          exact q_pretz X w dX9_canBeFeast_235 (rfl) (by exact bI_1 (by omega))

set_option maxHeartbeats 4000000 in
set_option maxRecDepth 100000 in
theorem c_X9_notFeast (l : Launch) (D : va_G) (t : Nat → ClassId) (b n : Nat) (σ0 : qM) (I : Nat → Int32) (Rw : Nat → Nat → Int32) (a_f : Int32) (a_yr : Int32) (f : Int) (yr : Int) (e_f : a_f.toInt = f) (e_yr : a_yr.toInt = yr) : qP l yX9_notFeast cX9_notFeast 3 (some .int) 2 D t b n (mS t b σ0 I Rw) [.ref (b + 45), .int a_f, .int a_yr] (fun z => z.toInt = cd2 (0 ≤ f ∧ f < (I 19).toInt) (-2000 ≤ yr ∧ yr ≤ 2000)) := by
  refine qP.of (by decide +kernel) (Nat.le_of_ble_eq_true rfl) (fun p e s m args below meth c X w ls hl => ?_)
  have hx := X.1
  have hb := X.2.1
  have hl : lv_has ls 3 [(0, .ref (b + 45)), (1, .int a_f), (2, .int a_yr)] := hl
  refine lv_aload_n hx hb dX9_notFeast_0 rfl (lv_at hl 0 rfl) ?_
  refine lv_iload_n hx hb dX9_notFeast_1 rfl (lv_at hl 1 rfl) ?_
  refine q_cPV X w (c_X9_isFeast l D t b n σ0 I Rw a_f f e_f) v_X9_281 (k := 45) rfl rfl rfl ⟨Nat.le_of_ble_eq_true rfl, Nat.le_of_ble_eq_true rfl⟩ rfl hl.1 (Nat.le_of_ble_eq_true rfl) dX9_notFeast_2 ⟨Nat.zero_le _, Nat.zero_le _⟩ (fun r_2 z_2 => ?_)
  refine lv_if_ne (tgt := 12) hx hb dX9_notFeast_5 (by decide) (fun c_5 => ?_) (fun c_5 => ?_)
  · skip
    rw [z_2] at c_5
    have k_5 := bI_t.mp c_5
    refine lv_iload_n hx hb dX9_notFeast_12 rfl (lv_at hl 2 rfl) ?_
    refine q_cPS X w (c_X9_isYear l a_yr yr e_yr D t b n (mS t b σ0 I Rw)) v_X9_110 rfl ⟨Nat.le_of_ble_eq_true rfl, Nat.le_of_ble_eq_true rfl⟩ rfl hl.1 (Nat.le_of_ble_eq_true rfl) dX9_notFeast_13 ⟨Nat.zero_le _, Nat.zero_le _⟩ (fun r_13 z_13 => ?_)
    refine lv_if_eq (tgt := 23) hx hb dX9_notFeast_16 (by decide) (fun c_16 => ?_) (fun c_16 => ?_)
    · skip
      rw [z_13] at c_16
      have k_16 := bI_f.mp c_16
      refine lv_iconst (v := 2) hx hb dX9_notFeast_23 (by decide) ?_
      exact q_pret X w dX9_notFeast_24 (by exact (cd2_2 k_5 k_16).symm)
    · skip
      rw [z_13] at c_16
      have k_16 := bI_t.mp c_16
      refine lv_iconst (v := 0) hx hb dX9_notFeast_19 (by decide) ?_
      refine lv_goto (tgt := 24) hx hb dX9_notFeast_20 (by decide) ?_
      exact q_pret X w dX9_notFeast_24 (by exact (cd2_0 k_5 k_16).symm)
  · skip
    rw [z_2] at c_5
    have k_5 := bI_f.mp c_5
    refine lv_iconst (v := 1) hx hb dX9_notFeast_8 (by decide) ?_
    refine lv_goto (tgt := 24) hx hb dX9_notFeast_9 (by decide) ?_
    exact q_pret X w dX9_notFeast_24 (by exact (cd2_1 k_5).symm)

set_option maxHeartbeats 4000000 in
set_option maxRecDepth 100000 in
theorem c_X9_cutDate (l : Launch) (D : va_G) (t : Nat → ClassId) (b n : Nat) (σ0 : qM) (I : Nat → Int32) (Rw : Nat → Nat → Int32) (a_ca : Int32) (a_yr : Int32) (a_mo : Int32) (a_da : Int32) (ca : Int) (yr : Int) (mo : Int) (da : Int) (e_ca : a_ca.toInt = ca) (e_yr : a_yr.toInt = yr) (e_mo : a_mo.toInt = mo) (e_da : a_da.toInt = da) (h_1 : 0 ≤ ca ∧ ca < 6) (h_2 : okRow (rowM Rw ca)) (h_3 : okF Rw ca) (h_4 : (-2000 ≤ yr ∧ yr ≤ 2000) → 1 ≤ mo ∧ mo ≤ mcnt (rowM Rw ca) yr) (h_5 : 0 ≤ da ∧ da ≤ 1000) : qP l yX9_cutDate cX9_cutDate 7 (some .int) 6 D t b n (mS t b σ0 I Rw) [.ref (b + 45), .int a_ca, .int a_yr, .int a_mo, .int a_da] (fun z => z.toInt = cut (rowM Rw ca) yr mo da) := by
  refine qP.of (by decide +kernel) (Nat.le_of_ble_eq_true rfl) (fun p e s m args below meth c X w ls hl => ?_)
  have hx := X.1
  have hb := X.2.1
  have hl : lv_has ls 7 [(0, .ref (b + 45)), (1, .int a_ca), (2, .int a_yr), (3, .int a_mo), (4, .int a_da)] := hl
  refine lv_iload_n hx hb dX9_cutDate_0 rfl (lv_at hl 2 rfl) ?_
  refine q_cPS X w (c_X9_isYear l a_yr yr e_yr D t b n (mS t b σ0 I Rw)) v_X9_110 rfl ⟨Nat.le_of_ble_eq_true rfl, Nat.le_of_ble_eq_true rfl⟩ rfl hl.1 (Nat.le_of_ble_eq_true rfl) dX9_cutDate_1 ⟨Nat.zero_le _, Nat.zero_le _⟩ (fun r_1 z_1 => ?_)
  refine lv_if_ne (tgt := 11) hx hb dX9_cutDate_4 (by decide) (fun c_4 => ?_) (fun c_4 => ?_)
  · skip
    rw [z_1] at c_4
    have k_4 := bI_t.mp c_4
    have hM := h_4 k_4
    have hL := mlen_bd h_2 hM.1 hM.2
    refine lv_aload_n hx hb dX9_cutDate_11 rfl (lv_at hl 0 rfl) ?_
    refine lv_iload_n hx hb dX9_cutDate_12 rfl (lv_at hl 1 rfl) ?_
    refine lv_iload_n hx hb dX9_cutDate_13 rfl (lv_at hl 2 rfl) ?_
    refine lv_iload_n hx hb dX9_cutDate_14 rfl (lv_at hl 3 rfl) ?_
    refine q_cPV X w (c_X9_lengthOfMonth l D t b n σ0 I Rw a_ca a_yr a_mo ca yr mo e_ca e_yr e_mo (by first | assumption | omega) (by first | assumption | omega) (by exact hM)) v_X9_120 (k := 45) rfl rfl rfl ⟨Nat.le_of_ble_eq_true rfl, Nat.le_of_ble_eq_true rfl⟩ rfl hl.1 (Nat.le_of_ble_eq_true rfl) dX9_cutDate_15 ⟨Nat.zero_le _, Nat.zero_le _⟩ (fun r_15 z_15 => ?_)
    refine lv_istore (lv' := [(5, .int r_15), (0, .ref (b + 45)), (1, .int a_ca), (2, .int a_yr), (3, .int a_mo), (4, .int a_da)]) hx hb dX9_cutDate_18 hl (by decide) rfl (fun ls hl => ?_)
    refine lv_aload_n hx hb dX9_cutDate_20 rfl (lv_at hl 1 rfl) ?_
    refine lv_iload_n hx hb dX9_cutDate_21 rfl (lv_at hl 2 rfl) ?_
    refine lv_iload_n hx hb dX9_cutDate_22 rfl (lv_at hl 3 rfl) ?_
    refine lv_iload_n hx hb dX9_cutDate_23 rfl (lv_at hl 4 rfl) ?_
    refine lv_iload hx hb dX9_cutDate_24 (lv_at hl 5 rfl) ?_
    refine lv_iload hx hb dX9_cutDate_26 (lv_at hl 0 rfl) ?_
    refine lv_icmp_ge (tgt := 36) hx hb dX9_cutDate_28 (by decide) (fun c_28 => ?_) (fun c_28 => ?_)
    · skip
      have k_28 : (mlen (rowM Rw ca) yr mo) ≤ da := (g_le z_15 e_da).mp c_28
      refine lv_iload hx hb dX9_cutDate_36 (lv_at hl 0 rfl) ?_
      refine q_cPV X w (c_X9_dayAt l D t b n σ0 I Rw a_ca a_yr a_mo r_15 ca yr mo (mlen (rowM Rw ca) yr mo) e_ca e_yr e_mo z_15 (by first | assumption | omega) (by first | assumption | omega) (by first | assumption | omega) (by omega) (by exact hM) (by omega)) v_X9_234 (k := 45) rfl rfl rfl ⟨Nat.le_of_ble_eq_true rfl, Nat.le_of_ble_eq_true rfl⟩ rfl hl.1 (Nat.le_of_ble_eq_true rfl) dX9_cutDate_38 ⟨Nat.zero_le _, Nat.zero_le _⟩ (fun r_38 z_38 => ?_)
      refine lv_istore (lv' := [(6, .int r_38), (5, .int r_15), (0, .ref (b + 45)), (1, .int a_ca), (2, .int a_yr), (3, .int a_mo), (4, .int a_da)]) hx hb dX9_cutDate_41 hl (by decide) rfl (fun ls hl => ?_)
      refine lv_iload hx hb dX9_cutDate_43 (lv_at hl 0 rfl) ?_
      refine q_cPS X w (c_X9_isDay l r_38 (dnum (rowM Rw ca) yr mo (mlen (rowM Rw ca) yr mo)) z_38 D t b n (mS t b σ0 I Rw)) v_X9_238 rfl ⟨Nat.le_of_ble_eq_true rfl, Nat.le_of_ble_eq_true rfl⟩ rfl hl.1 (Nat.le_of_ble_eq_true rfl) dX9_cutDate_45 ⟨Nat.zero_le _, Nat.zero_le _⟩ (fun r_45 z_45 => ?_)
      refine lv_if_eq (tgt := 56) hx hb dX9_cutDate_48 (by decide) (fun c_48 => ?_) (fun c_48 => ?_)
      · skip
        rw [z_45] at c_48
        have k_48 := bI_f.mp c_48
        refine lv_ldcw hx hb X.2.2.2.1 (X.2.2.1 _ kc_X9_259) dX9_cutDate_56 ?_
        exact q_pret X w dX9_cutDate_59 (by unfold cut; rw [if_pos k_4, if_neg (show ¬ da < mlen (rowM Rw ca) yr mo by omega)]; rw [if_neg k_48]; rfl)
      · skip
        rw [z_45] at c_48
        have k_48 := bI_t.mp c_48
        refine lv_iload hx hb dX9_cutDate_51 (lv_at hl 0 rfl) ?_
        refine lv_goto (tgt := 59) hx hb dX9_cutDate_53 (by decide) ?_
        exact q_pret X w dX9_cutDate_59 (by unfold cut; rw [if_pos k_4, if_neg (show ¬ da < mlen (rowM Rw ca) yr mo by omega)]; rw [if_pos k_48]; exact z_38)
    · skip
      have k_28 : ¬ ((mlen (rowM Rw ca) yr mo) ≤ da) := fun h => c_28 ((g_le z_15 e_da).mpr h)
      refine lv_iload hx hb dX9_cutDate_31 (lv_at hl 5 rfl) ?_
      refine lv_goto (tgt := 38) hx hb dX9_cutDate_33 (by decide) ?_
      refine q_cPV X w (c_X9_dayAt l D t b n σ0 I Rw a_ca a_yr a_mo a_da ca yr mo da e_ca e_yr e_mo e_da (by first | assumption | omega) (by first | assumption | omega) (by first | assumption | omega) (by omega) (by exact hM) (by omega)) v_X9_234 (k := 45) rfl rfl rfl ⟨Nat.le_of_ble_eq_true rfl, Nat.le_of_ble_eq_true rfl⟩ rfl hl.1 (Nat.le_of_ble_eq_true rfl) dX9_cutDate_38 ⟨Nat.zero_le _, Nat.zero_le _⟩ (fun r_38 z_38 => ?_)
      refine lv_istore (lv' := [(6, .int r_38), (5, .int r_15), (0, .ref (b + 45)), (1, .int a_ca), (2, .int a_yr), (3, .int a_mo), (4, .int a_da)]) hx hb dX9_cutDate_41 hl (by decide) rfl (fun ls hl => ?_)
      refine lv_iload hx hb dX9_cutDate_43 (lv_at hl 0 rfl) ?_
      refine q_cPS X w (c_X9_isDay l r_38 (dnum (rowM Rw ca) yr mo da) z_38 D t b n (mS t b σ0 I Rw)) v_X9_238 rfl ⟨Nat.le_of_ble_eq_true rfl, Nat.le_of_ble_eq_true rfl⟩ rfl hl.1 (Nat.le_of_ble_eq_true rfl) dX9_cutDate_45 ⟨Nat.zero_le _, Nat.zero_le _⟩ (fun r_45 z_45 => ?_)
      refine lv_if_eq (tgt := 56) hx hb dX9_cutDate_48 (by decide) (fun c_48 => ?_) (fun c_48 => ?_)
      · skip
        rw [z_45] at c_48
        have k_48 := bI_f.mp c_48
        refine lv_ldcw hx hb X.2.2.2.1 (X.2.2.1 _ kc_X9_259) dX9_cutDate_56 ?_
        exact q_pret X w dX9_cutDate_59 (by unfold cut; rw [if_pos k_4, if_pos (show da < mlen (rowM Rw ca) yr mo by omega)]; rw [if_neg k_48]; rfl)
      · skip
        rw [z_45] at c_48
        have k_48 := bI_t.mp c_48
        refine lv_iload hx hb dX9_cutDate_51 (lv_at hl 0 rfl) ?_
        refine lv_goto (tgt := 59) hx hb dX9_cutDate_53 (by decide) ?_
        exact q_pret X w dX9_cutDate_59 (by unfold cut; rw [if_pos k_4, if_pos (show da < mlen (rowM Rw ca) yr mo by omega)]; rw [if_pos k_48]; exact z_38)
  · skip
    rw [z_1] at c_4
    have k_4 := bI_f.mp c_4
    refine lv_ldcw hx hb X.2.2.2.1 (X.2.2.1 _ kc_X9_259) dX9_cutDate_7 ?_
    exact q_pret X w dX9_cutDate_10 (by unfold cut; rw [if_neg k_4]; rfl)

set_option maxHeartbeats 4000000 in
set_option maxRecDepth 100000 in
theorem c_X9_weekdayFrom (l : Launch) (D : va_G) (t : Nat → ClassId) (b n : Nat) (σ0 : qM) (I : Nat → Int32) (Rw : Nat → Nat → Int32) (a_ca : Int32) (a_dy : Int32) (a_wd : Int32) (ca : Int) (dy : Int) (wd : Int) (e_ca : a_ca.toInt = ca) (e_dy : a_dy.toInt = dy) (e_wd : a_wd.toInt = wd) (h_1 : 0 ≤ ca ∧ ca < 6) (h_2 : okRow (rowM Rw ca)) (h_3 : okF Rw ca) (h_4 : -1000000 ≤ dy ∧ dy ≤ 1000000) (h_5 : 0 ≤ wd ∧ wd ≤ 9) : qP l yX9_weekdayFrom cX9_weekdayFrom 5 (some .int) 2 D t b n (mS t b σ0 I Rw) [.ref (b + 45), .int a_ca, .int a_dy, .int a_wd] (fun z => z.toInt = wfrom (rowM Rw ca) dy wd) := by
  refine qP.of (by decide +kernel) (Nat.le_of_ble_eq_true rfl) (fun p e s m args below meth c X w ls hl => ?_)
  have hx := X.1
  have hb := X.2.1
  have hl : lv_has ls 5 [(0, .ref (b + 45)), (1, .int a_ca), (2, .int a_dy), (3, .int a_wd)] := hl
  have hw := h_2.wk
  have hd := wdy_bd h_2 dy
  refine lv_iload_n hx hb dX9_weekdayFrom_0 rfl (lv_at hl 3 rfl) ?_
  refine lv_aload_n hx hb dX9_weekdayFrom_1 rfl (lv_at hl 0 rfl) ?_
  refine lv_iload_n hx hb dX9_weekdayFrom_2 rfl (lv_at hl 1 rfl) ?_
  refine lv_bipush (v := 30) hx hb dX9_weekdayFrom_3 (by decide) ?_
  refine q_cPV X w (c_X9_of l D t b n σ0 I Rw a_ca 30 ca 30 e_ca (show (30 : Int32).toInt = 30 from rfl) (by first | assumption | omega) (by first | assumption | omega)) v_X9_80 (k := 45) rfl rfl rfl ⟨Nat.le_of_ble_eq_true rfl, Nat.le_of_ble_eq_true rfl⟩ rfl hl.1 (Nat.le_of_ble_eq_true rfl) dX9_weekdayFrom_5 ⟨Nat.zero_le _, Nat.zero_le _⟩ (fun r_5 z_5 => ?_)
  refine lv_icmp_lt (tgt := 15) hx hb dX9_weekdayFrom_8 (by decide) (fun c_8 => ?_) (fun c_8 => ?_)
  · skip
    have k_8 : wd < (rv (rowM Rw ca) 30) := (g_lt e_wd (congrArg Int32.toInt z_5)).mp c_8
    refine lv_iload_n hx hb dX9_weekdayFrom_15 rfl (lv_at hl 2 rfl) ?_
    refine lv_iload_n hx hb dX9_weekdayFrom_16 rfl (lv_at hl 3 rfl) ?_
    refine lv_aload_n hx hb dX9_weekdayFrom_17 rfl (lv_at hl 0 rfl) ?_
    refine lv_iload_n hx hb dX9_weekdayFrom_18 rfl (lv_at hl 1 rfl) ?_
    refine lv_iload_n hx hb dX9_weekdayFrom_19 rfl (lv_at hl 2 rfl) ?_
    refine q_cPV X w (c_X9_weekday l D t b n σ0 I Rw a_ca a_dy ca dy e_ca e_dy (by first | assumption | omega) (by first | assumption | omega) (by first | assumption | omega)) v_X9_140 (k := 45) rfl rfl rfl ⟨Nat.le_of_ble_eq_true rfl, Nat.le_of_ble_eq_true rfl⟩ rfl hl.1 (Nat.le_of_ble_eq_true rfl) dX9_weekdayFrom_20 ⟨Nat.zero_le _, Nat.zero_le _⟩ (fun r_20 z_20 => ?_)
    refine lv_isub hx hb dX9_weekdayFrom_23 ?_
    refine lv_topi (fun x_23 e_23 => ?_)
    have p_23 : x_23.toInt = (wd - (wdy (rowM Rw ca) dy)) := by rw [e_23]; exact t_sub e_wd z_20 (by omega) (by omega)
    refine lv_aload_n hx hb dX9_weekdayFrom_24 rfl (lv_at hl 0 rfl) ?_
    refine lv_iload_n hx hb dX9_weekdayFrom_25 rfl (lv_at hl 1 rfl) ?_
    refine lv_bipush (v := 30) hx hb dX9_weekdayFrom_26 (by decide) ?_
    refine q_cPV X w (c_X9_of l D t b n σ0 I Rw a_ca 30 ca 30 e_ca (show (30 : Int32).toInt = 30 from rfl) (by first | assumption | omega) (by first | assumption | omega)) v_X9_80 (k := 45) rfl rfl rfl ⟨Nat.le_of_ble_eq_true rfl, Nat.le_of_ble_eq_true rfl⟩ rfl hl.1 (Nat.le_of_ble_eq_true rfl) dX9_weekdayFrom_28 ⟨Nat.zero_le _, Nat.zero_le _⟩ (fun r_28 z_28 => ?_)
    refine q_cPS X w (c_J9_floorMod_7cf53 l x_23 r_28 (wd - (wdy (rowM Rw ca) dy)) (rv (rowM Rw ca) 30) p_23 (congrArg Int32.toInt z_28) (by first | assumption | omega) D t b n (mS t b σ0 I Rw)) v_X9_83 rfl ⟨Nat.le_of_ble_eq_true rfl, Nat.le_of_ble_eq_true rfl⟩ rfl hl.1 (Nat.le_of_ble_eq_true rfl) dX9_weekdayFrom_31 ⟨Nat.zero_le _, Nat.zero_le _⟩ (fun r_31 z_31 => ?_)
    have hm := Int.emod_nonneg (wd - wdy (rowM Rw ca) dy) (show rv (rowM Rw ca) 30 ≠ 0 by omega)
    have hm2 := Int.emod_lt_of_pos (wd - wdy (rowM Rw ca) dy) (show 0 < rv (rowM Rw ca) 30 by omega)
    refine lv_iadd hx hb dX9_weekdayFrom_34 ?_
    refine lv_topi (fun x_34 e_34 => ?_)
    have p_34 : x_34.toInt = (dy + ((wd - (wdy (rowM Rw ca) dy)) % (rv (rowM Rw ca) 30))) := by rw [e_34]; exact t_add e_dy z_31 (by omega) (by omega)
    refine lv_istore (lv' := [(4, .int x_34), (0, .ref (b + 45)), (1, .int a_ca), (2, .int a_dy), (3, .int a_wd)]) hx hb dX9_weekdayFrom_35 hl (by decide) rfl (fun ls hl => ?_)
    refine lv_aload_n hx hb dX9_weekdayFrom_37 rfl (lv_at hl 1 rfl) ?_
    refine lv_iload_n hx hb dX9_weekdayFrom_38 rfl (lv_at hl 2 rfl) ?_
    refine lv_iload_n hx hb dX9_weekdayFrom_39 rfl (lv_at hl 3 rfl) ?_
    refine q_cPV X w (c_X9_isInside l D t b n σ0 I Rw a_ca a_dy ca dy e_ca e_dy (by first | assumption | omega) (by first | assumption | omega) (by first | assumption | omega)) v_X9_244 (k := 45) rfl rfl rfl ⟨Nat.le_of_ble_eq_true rfl, Nat.le_of_ble_eq_true rfl⟩ rfl hl.1 (Nat.le_of_ble_eq_true rfl) dX9_weekdayFrom_40 ⟨Nat.zero_le _, Nat.zero_le _⟩ (fun r_40 z_40 => ?_)
    refine lv_if_eq (tgt := 61) hx hb dX9_weekdayFrom_43 (by decide) (fun c_43 => ?_) (fun c_43 => ?_)
    · skip
      rw [z_40] at c_43
      have k_43 := bI_f.mp c_43
      refine lv_ldcw hx hb X.2.2.2.1 (X.2.2.1 _ kc_X9_259) dX9_weekdayFrom_61 ?_
      exact q_pret X w dX9_weekdayFrom_64 (by unfold wfrom; rw [if_neg (by omega)]; rw [if_neg (fun q => k_43 q.1)]; rfl)
    · skip
      rw [z_40] at c_43
      have k_43 := bI_t.mp c_43
      refine lv_aload_n hx hb dX9_weekdayFrom_46 rfl (lv_at hl 1 rfl) ?_
      refine lv_iload_n hx hb dX9_weekdayFrom_47 rfl (lv_at hl 2 rfl) ?_
      refine lv_iload hx hb dX9_weekdayFrom_48 (lv_at hl 0 rfl) ?_
      refine q_cPV X w (c_X9_isInside l D t b n σ0 I Rw a_ca x_34 ca (dy + ((wd - (wdy (rowM Rw ca) dy)) % (rv (rowM Rw ca) 30))) e_ca p_34 (by first | assumption | omega) (by first | assumption | omega) (by first | assumption | omega)) v_X9_244 (k := 45) rfl rfl rfl ⟨Nat.le_of_ble_eq_true rfl, Nat.le_of_ble_eq_true rfl⟩ rfl hl.1 (Nat.le_of_ble_eq_true rfl) dX9_weekdayFrom_50 ⟨Nat.zero_le _, Nat.zero_le _⟩ (fun r_50 z_50 => ?_)
      refine lv_if_eq (tgt := 61) hx hb dX9_weekdayFrom_53 (by decide) (fun c_53 => ?_) (fun c_53 => ?_)
      · skip
        rw [z_50] at c_53
        have k_53 := bI_f.mp c_53
        refine lv_ldcw hx hb X.2.2.2.1 (X.2.2.1 _ kc_X9_259) dX9_weekdayFrom_61 ?_
        exact q_pret X w dX9_weekdayFrom_64 (by unfold wfrom; rw [if_neg (by omega)]; rw [if_neg (fun q => k_53 q.2)]; rfl)
      · skip
        rw [z_50] at c_53
        have k_53 := bI_t.mp c_53
        refine lv_iload hx hb dX9_weekdayFrom_56 (lv_at hl 0 rfl) ?_
        refine lv_goto (tgt := 64) hx hb dX9_weekdayFrom_58 (by decide) ?_
        exact q_pret X w dX9_weekdayFrom_64 (by unfold wfrom; rw [if_neg (by omega)]; rw [if_pos ⟨k_43, k_53⟩]; exact p_34)
  · skip
    have k_8 : ¬ (wd < (rv (rowM Rw ca) 30)) := fun h => c_8 ((g_lt e_wd (congrArg Int32.toInt z_5)).mpr h)
    refine lv_ldcw hx hb X.2.2.2.1 (X.2.2.1 _ kc_X9_259) dX9_weekdayFrom_11 ?_
    exact q_pret X w dX9_weekdayFrom_14 (by unfold wfrom; rw [if_pos (by omega)]; rfl)

set_option maxHeartbeats 4000000 in
set_option maxRecDepth 100000 in
theorem c_X9_isAt (l : Launch) (D : va_G) (t : Nat → ClassId) (b n : Nat) (σ0 : qM) (I : Nat → Int32) (Rw : Nat → Nat → Int32) (a_pl : Int32) (a_ch : Int32) (pl : Int) (ch : Int) (e_pl : a_pl.toInt = pl) (e_ch : a_ch.toInt = ch) (h_1 : 0 ≤ pl ∧ (I 10).toInt ≤ 100) : qP l yX9_isAt cX9_isAt 3 (some .boolean) 0 D t b n (mS t b σ0 I Rw) [.ref (b + 45), .int a_pl, .int a_ch] (fun z => z = bI (decide (pl < (I 10).toInt ∧ (Rw 9 pl.toNat).toInt = ch))) := by
  refine qP.of (by decide +kernel) (Nat.le_of_ble_eq_true rfl) (fun p e s m args below meth c X w ls hl => ?_)
  have hx := X.1
  have hb := X.2.1
  have hl : lv_has ls 3 [(0, .ref (b + 45)), (1, .int a_pl), (2, .int a_ch)] := hl
  refine lv_iload_n hx hb dX9_isAt_0 rfl (lv_at hl 1 rfl) ?_
  refine lv_aload_n hx hb dX9_isAt_1 rfl (lv_at hl 0 rfl) ?_
  refine mg_length X w dX9_isAt_2 ?_
  refine lv_icmp_ge (tgt := 22) hx hb dX9_isAt_5 (by decide) (fun c_5 => ?_) (fun c_5 => ?_)
  · skip
    have k_5 : ((I 10).toInt) ≤ pl := (g_le rfl e_pl).mp c_5
    refine lv_iconst (v := 0) hx hb dX9_isAt_22 (by decide) ?_
    exact q_pretz X w dX9_isAt_23 (rfl) (by exact bI_0 (by first | exact ⟨by omega, k_15⟩ | exact fun q => k_15 q.2 | omega))
  · skip
    have k_5 : ¬ (((I 10).toInt) ≤ pl) := fun h => c_5 ((g_le rfl e_pl).mpr h)
    refine lv_aload_n hx hb dX9_isAt_8 rfl (lv_at hl 0 rfl) ?_
    refine mg_text X w dX9_isAt_9 ?_
    refine lv_iload_n hx hb dX9_isAt_12 rfl (lv_at hl 1 rfl) ?_
    refine ml_text X w (g_in e_pl (by omega)) dX9_isAt_13 ?_
    refine q_topE (y := Rw 9 pl.toNat) (congrArg (Rw 9) (g_tn e_pl)) ?_
    refine lv_iload_n hx hb dX9_isAt_14 rfl (lv_at hl 2 rfl) ?_
    refine lv_icmp_ne (tgt := 22) hx hb dX9_isAt_15 (by decide) (fun c_15 => ?_) (fun c_15 => ?_)
    · skip
      have k_15 : ¬ (((Rw 9 pl.toNat).toInt) = ch) := fun h => c_15 ((g_eq rfl e_ch).mpr h)
      refine lv_iconst (v := 0) hx hb dX9_isAt_22 (by decide) ?_
      exact q_pretz X w dX9_isAt_23 (rfl) (by exact bI_0 (by first | exact ⟨by omega, k_15⟩ | exact fun q => k_15 q.2 | omega))
    · skip
      have k_15 : ((Rw 9 pl.toNat).toInt) = ch := (g_eq rfl e_ch).mp c_15
      refine lv_iconst (v := 1) hx hb dX9_isAt_18 (by decide) ?_
      refine lv_goto (tgt := 23) hx hb dX9_isAt_19 (by decide) ?_
      exact q_pretz X w dX9_isAt_23 (rfl) (by exact bI_1 (by first | exact ⟨by omega, k_15⟩ | exact fun q => k_15 q.2 | omega))

set_option maxHeartbeats 4000000 in
set_option maxRecDepth 100000 in
theorem c_X9_isDigit (l : Launch) (D : va_G) (t : Nat → ClassId) (b n : Nat) (σ0 : qM) (I : Nat → Int32) (Rw : Nat → Nat → Int32) (h_1 : 0 ≤ (I 11).toInt ∧ (I 10).toInt ≤ 100) : qP l yX9_isDigit cX9_isDigit 1 (some .boolean) 1 D t b n (mS t b σ0 I Rw) [.ref (b + 45)] (fun z => z = bI (decide ((I 11).toInt < (I 10).toInt ∧ 48 ≤ (Rw 9 (I 11).toInt.toNat).toInt ∧ (Rw 9 (I 11).toInt.toNat).toInt ≤ 57))) := by
  refine qP.of (by decide +kernel) (Nat.le_of_ble_eq_true rfl) (fun p e s m args below meth c X w ls hl => ?_)
  have hx := X.1
  have hb := X.2.1
  have hl : lv_has ls 1 [(0, .ref (b + 45))] := hl
  refine lv_aload_n hx hb dX9_isDigit_0 rfl (lv_at hl 0 rfl) ?_
  refine mg_at X w dX9_isDigit_1 ?_
  refine lv_aload_n hx hb dX9_isDigit_4 rfl (lv_at hl 0 rfl) ?_
  refine mg_length X w dX9_isDigit_5 ?_
  refine lv_icmp_ge (tgt := 34) hx hb dX9_isDigit_8 (by decide) (fun c_8 => ?_) (fun c_8 => ?_)
  · skip
    have k_8 : ((I 10).toInt) ≤ ((I 11).toInt) := (g_le rfl rfl).mp c_8
    refine lv_iconst (v := 0) hx hb dX9_isDigit_34 (by decide) ?_
    exact q_pretz X w dX9_isDigit_35 (rfl) (by exact bI_0 (by first | exact ⟨by omega, k_27⟩ | exact fun q => k_27 q.2 | omega))
  · skip
    have k_8 : ¬ (((I 10).toInt) ≤ ((I 11).toInt)) := fun h => c_8 ((g_le rfl rfl).mpr h)
    refine lv_aload_n hx hb dX9_isDigit_11 rfl (lv_at hl 0 rfl) ?_
    refine mg_text X w dX9_isDigit_12 ?_
    refine lv_aload_n hx hb dX9_isDigit_15 rfl (lv_at hl 0 rfl) ?_
    refine mg_at X w dX9_isDigit_16 ?_
    refine ml_text X w (g_in rfl (by omega)) dX9_isDigit_19 ?_
    refine q_topE (y := Rw 9 ((I 11).toInt).toNat) (congrArg (Rw 9) (g_tn rfl)) ?_
    refine lv_bipush (v := 48) hx hb dX9_isDigit_20 (by decide) ?_
    refine lv_bipush (v := 57) hx hb dX9_isDigit_22 (by decide) ?_
    refine q_cPS X w (c_X9_isBetween l (Rw 9 ((I 11).toInt).toNat) 48 57 ((Rw 9 ((I 11).toInt).toNat).toInt) 48 57 rfl (show (48 : Int32).toInt = 48 from rfl) (show (57 : Int32).toInt = 57 from rfl) D t b n (mS t b σ0 I Rw)) v_X9_70 rfl ⟨Nat.le_of_ble_eq_true rfl, Nat.le_of_ble_eq_true rfl⟩ rfl hl.1 (Nat.le_of_ble_eq_true rfl) dX9_isDigit_24 ⟨Nat.zero_le _, Nat.zero_le _⟩ (fun r_24 z_24 => ?_)
    refine lv_if_eq (tgt := 34) hx hb dX9_isDigit_27 (by decide) (fun c_27 => ?_) (fun c_27 => ?_)
    · skip
      rw [z_24] at c_27
      have k_27 := bI_f.mp c_27
      refine lv_iconst (v := 0) hx hb dX9_isDigit_34 (by decide) ?_
      exact q_pretz X w dX9_isDigit_35 (rfl) (by exact bI_0 (by first | exact ⟨by omega, k_27⟩ | exact fun q => k_27 q.2 | omega))
    · skip
      rw [z_24] at c_27
      have k_27 := bI_t.mp c_27
      refine lv_iconst (v := 1) hx hb dX9_isDigit_30 (by decide) ?_
      refine lv_goto (tgt := 35) hx hb dX9_isDigit_31 (by decide) ?_
      exact q_pretz X w dX9_isDigit_35 (rfl) (by exact bI_1 (by first | exact ⟨by omega, k_27⟩ | exact fun q => k_27 q.2 | omega))

set_option maxHeartbeats 4000000 in
set_option maxRecDepth 100000 in
theorem c_X9_isTaken (l : Launch) (D : va_G) (t : Nat → ClassId) (b n : Nat) (σ0 : qM) (I : Nat → Int32) (Rw : Nat → Nat → Int32) (a_dy : Int32) (dy : Int) (e_dy : a_dy.toInt = dy) (h_1 : 0 ≤ (I 19).toInt ∧ (I 19).toInt ≤ 8) : qP l yX9_isTaken cX9_isTaken 3 (some .boolean) 0 D t b n (mS t b σ0 I Rw) [.ref (b + 45), .int a_dy] (fun z => z = bI (decide (taken Rw (I 19).toInt dy = true))) := by
  refine qP.of (by decide +kernel) (Nat.le_of_ble_eq_true rfl) (fun p e s m args below meth c X w ls hl => ?_)
  have hx := X.1
  have hb := X.2.1
  have hl : lv_has ls 3 [(0, .ref (b + 45)), (1, .int a_dy)] := hl
  refine lv_iconst (v := 0) hx hb dX9_isTaken_0 (by decide) ?_
  refine lv_istore_n (lv' := [(2, .int 0), (0, .ref (b + 45)), (1, .int a_dy)]) hx hb dX9_isTaken_1 rfl hl (by decide) rfl (fun ls hl => ?_)
  refine q_loop (α := Int32 × Int) (fun a => a.1.toInt = a.2 ∧ ((0 ≤ a.2 ∧ a.2 ≤ (I 19).toInt) ∧ ∀ j : Int, 0 ≤ j → j < a.2 → (Rw 18 j.toNat).toInt ≠ dy)) (fun a => ((I 19).toInt - a.2).toNat) (fun a => ∀ ls : Array Slot, lv_has ls 3 [(2, .int a.1), (0, .ref (b + 45)), (1, .int a_dy)] → W p l e (qR 0 0 0) s m args below meth c s.heap [] 0 0 (MQ below (vp_Si (fun z => z = bI (decide (taken Rw (I 19).toInt dy = true)))) args s 0 0 (fun _ => False)) (F0 m 2 ls [])) ?_ ⟨0, 0⟩ ⟨(show (0 : Int32).toInt = 0 from rfl), by dsimp only; exact ⟨by omega, fun j h1 h2 => by omega⟩⟩ ls (lv_sub hl [0, 1, 2] rfl)
  rintro ⟨v_f, f⟩ ⟨q_f, inv_2⟩ ih_2 ls hl
  dsimp only at q_f inv_2 hl
  refine lv_iload_n hx hb dX9_isTaken_2 rfl (lv_at hl 0 rfl) ?_
  refine lv_aload_n hx hb dX9_isTaken_3 rfl (lv_at hl 1 rfl) ?_
  refine mg_feasts X w dX9_isTaken_4 ?_
  refine lv_icmp_ge (tgt := 28) hx hb dX9_isTaken_7 (by decide) (fun c_7 => ?_) (fun c_7 => ?_)
  · skip
    have k_7 : ((I 19).toInt) ≤ f := (g_le rfl q_f).mp c_7
    refine lv_iconst (v := 0) hx hb dX9_isTaken_28 (by decide) ?_
    exact q_pretz X w dX9_isTaken_29 (rfl) (by exact bI_0 (fun q => by obtain ⟨j, q1, q2, q3⟩ := taken_iff.mp q; exact inv_2.2 j q1 (by omega) q3))
  · skip
    have k_7 : ¬ (((I 19).toInt) ≤ f) := fun h => c_7 ((g_le rfl q_f).mpr h)
    refine lv_aload_n hx hb dX9_isTaken_10 rfl (lv_at hl 1 rfl) ?_
    refine mg_placed X w dX9_isTaken_11 ?_
    refine lv_iload_n hx hb dX9_isTaken_14 rfl (lv_at hl 0 rfl) ?_
    refine ml_placed X w (g_in q_f (by omega)) dX9_isTaken_15 ?_
    refine q_topE (y := Rw 18 f.toNat) (congrArg (Rw 18) (g_tn q_f)) ?_
    refine lv_iload_n hx hb dX9_isTaken_16 rfl (lv_at hl 2 rfl) ?_
    refine lv_icmp_ne (tgt := 22) hx hb dX9_isTaken_17 (by decide) (fun c_17 => ?_) (fun c_17 => ?_)
    · skip
      have k_17 : ¬ (((Rw 18 f.toNat).toInt) = dy) := fun h => c_17 ((g_eq rfl e_dy).mpr h)
      obtain ⟨x_22, e_22⟩ : ∃ z : Int32, z = (v_f + 1) := ⟨_, rfl⟩
      have p_22 : x_22.toInt = (f + 1) := by rw [e_22]; exact t_add q_f (show (1 : Int32).toInt = 1 from rfl) (by omega) (by omega)
      refine lv_iinc (v := x_22) (lv' := [(2, .int x_22), (0, .ref (b + 45)), (1, .int a_dy)]) hx hb dX9_isTaken_22 hl (k := 0) rfl (by rw [e_22]; rfl) (by decide) rfl (fun ls hl => ?_)
      refine lv_goto (tgt := 2) hx hb dX9_isTaken_25 (by decide) ?_
      refine ih_2 ⟨x_22, (f + 1)⟩ ⟨p_22, by dsimp only; refine ⟨by omega, fun j h1 h2 => ?_⟩; rcases (show j < f ∨ j = f by omega) with q | q; exact inv_2.2 j h1 q; rw [q]; exact k_17⟩ (by dsimp only; omega) ls (lv_sub hl [0, 1, 2] rfl)
    · skip
      have k_17 : ((Rw 18 f.toNat).toInt) = dy := (g_eq rfl e_dy).mp c_17
      refine lv_iconst (v := 1) hx hb dX9_isTaken_20 (by decide) ?_
      exact q_pretz X w dX9_isTaken_21 (rfl) (by exact bI_1 (taken_iff.mpr ⟨f, by omega, by omega, k_17⟩))
