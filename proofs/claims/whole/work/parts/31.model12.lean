set_option maxHeartbeats 4000000 in
set_option maxRecDepth 100000 in
theorem c_X9_takesMonths (l : Launch) (D : va_G) (t : Nat → ClassId) (b n : Nat) (σ0 : qM) (I : Nat → Int32) (Rw : Nat → Nat → Int32) (T : Int → Int) (po : Int) (q : Nat → Int32) (gg : Bool) (h_1 : T = tx I Rw) (h_2 : (I 11).toInt = po) (h_3 : 0 ≤ po ∧ po ≤ (I 10).toInt ∧ (I 10).toInt ≤ 100) (h_4 : eq33 (Rw 3) q) (h_5 : I 14 = bI gg) : mC l yX9_takesMonths cX9_takesMonths 1 (some .boolean) 3 D t b n σ0 I Rw [.ref (b + 45)] (fun z I1 R1 => kpI [11, 13, 14] I I1 ∧ kpR [3] Rw R1 ∧ z = bI (sMonths T po q gg).1 ∧ (I1 11).toInt = (sMonths T po q gg).2.1 ∧ (po ≤ (sMonths T po q gg).2.1 ∧ (sMonths T po q gg).2.1 ≤ (I 10).toInt) ∧ ((sMonths T po q gg).1 = true → eq33 (R1 3) (sMonths T po q gg).2.2.1 ∧ I1 14 = bI (sMonths T po q gg).2.2.2)) := by
  refine qC.of (by decide +kernel) (Nat.le_of_ble_eq_true rfl) (fun p e s m args below meth c X w ls hl => ?_)
  have hx := X.1
  have hb := X.2.1
  have hl : lv_has ls 1 [(0, .ref (b + 45))] := hl
  refine lv_aload_n hx hb dX9_takesMonths_0 rfl (lv_at hl 0 rfl) ?_
  refine lv_bipush (v := 109) hx hb dX9_takesMonths_1 (by decide) ?_
  refine mm_cCI X w (c_X9_skips l D t b n σ0 I Rw T po 109 109 (show (109 : Int32).toInt = 109 from rfl) (by exact h_1.trans (tx_cg ((kpI.rf (J := [11,13,14]) (I := I)) 10 (by decide)) ((kpR.rf (J := [3]) (R := Rw)) 9 (by decide)))) (by exact h_2) (by have e10 := congrArg Int32.toInt ((kpI.rf (J := [11,13,14]) (I := I)) 10 (by decide)); exact ⟨by omega, by rw [show (I 10).toInt = (I 10).toInt from e10]; omega, by rw [show (I 10).toInt = (I 10).toInt from e10]; omega⟩) (by decide)) v_X9_160 rfl rfl ⟨Nat.le_of_ble_eq_true rfl, Nat.le_of_ble_eq_true rfl⟩ rfl hl.1 (Nat.le_of_ble_eq_true rfl) dX9_takesMonths_3 ⟨Nat.zero_le _, Nat.zero_le _⟩ (fun r_3 I_3 H locs z_3 w => ?_)
  have K_3 := kpI.tr (J := [11,13,14]) (kpI.rf (J := [11,13,14]) (I := I)) z_3.1 (by decide) (by decide)
  have E_3 := congrArg Int32.toInt ((kpI.rf (J := [11,13,14]) (I := I)) 10 (by decide))
  have G_3 : I_3 14 = bI gg := (z_3.1 14 (by decide)).trans h_5
  refine lv_if_eq (tgt := 17) hx hb dX9_takesMonths_6 (by decide) (fun c_6 => ?_) (fun c_6 => ?_)
  · skip
    rw [z_3.2.1] at c_6
    have k_6 := bI_f.mp c_6
    have P_3 : (I_3 11).toInt = po := z_3.2.2.2.1 k_6
    refine lv_iconst (v := 0) hx hb dX9_takesMonths_17 (by decide) ?_
    exact q_cret (post := (fun z n1 σ1 => n1 = n ∧ ∃ I1 R1, σ1 = mS t b σ0 I1 R1 ∧ kpI [11, 13, 14] I I1 ∧ kpR [3] Rw R1 ∧ z = bI (sMonths T po q gg).1 ∧ (I1 11).toInt = (sMonths T po q gg).2.1 ∧ (po ≤ (sMonths T po q gg).2.1 ∧ (sMonths T po q gg).2.1 ≤ (I 10).toInt) ∧ ((sMonths T po q gg).1 = true → eq33 (R1 3) (sMonths T po q gg).2.2.1 ∧ I1 14 = bI (sMonths T po q gg).2.2.2))) X w dX9_takesMonths_18 (rfl) ⟨rfl, _, _, rfl, by have e : (sMonths T po q gg).1 = false ∧ (sMonths T po q gg).2.1 = po := (by unfold sMonths; rw [if_neg k_6]; exact ⟨rfl, rfl⟩); exact ⟨K_3, (kpR.rf (J := [3]) (R := Rw)), (by rw [e.1]; rfl), (by rw [e.2]; exact P_3), (by rw [e.2]; omega), fun h => absurd (h.symm.trans e.1) (by decide)⟩⟩
  · skip
    rw [z_3.2.1] at c_6
    have k_6 := bI_t.mp c_6
    have P_3 : (I_3 11).toInt = (po + 1) := z_3.2.2.1 k_6
    have B_3 : (po + 1) ≤ (I 10).toInt := by omega
    refine lv_aload_n hx hb dX9_takesMonths_9 rfl (lv_at hl 0 rfl) ?_
    refine lv_iconst (v := 1) hx hb dX9_takesMonths_10 (by decide) ?_
    refine mm_cC X w (c_X9_takes l D t b n σ0 I_3 Rw T (po + 1) 1 1 (show (1 : Int32).toInt = 1 from rfl) (by exact h_1.trans (tx_cg (K_3 10 (by decide)) ((kpR.rf (J := [3]) (R := Rw)) 9 (by decide)))) (by exact P_3) (by have e10 := congrArg Int32.toInt (K_3 10 (by decide)); exact ⟨by omega, by rw [show (I_3 10).toInt = (I 10).toInt from e10]; omega, by rw [show (I_3 10).toInt = (I 10).toInt from e10]; omega⟩) (by decide)) v_X9_163 rfl rfl ⟨Nat.le_of_ble_eq_true rfl, Nat.le_of_ble_eq_true rfl⟩ rfl hl.1 (Nat.le_of_ble_eq_true rfl) dX9_takesMonths_11 ⟨Nat.zero_le _, Nat.zero_le _⟩ (fun r_11 I_11 R_11 H locs z_11 w => ?_)
    have K_11 := kpI.tr (J := [11,13,14]) K_3 z_11.1 (by decide) (by decide)
    have KR_11 := kpR.tr (J := [3]) (kpR.rf (J := [3]) (R := Rw)) z_11.2.1 (by decide) (by decide)
    have E_11 := congrArg Int32.toInt (K_3 10 (by decide))
    have G_11 : I_11 14 = bI gg := (z_11.1 14 (by decide)).trans G_3
    refine lv_if_ne (tgt := 19) hx hb dX9_takesMonths_14 (by decide) (fun c_14 => ?_) (fun c_14 => ?_)
    · skip
      rw [z_11.2.2.1] at c_14
      have k_14 := bI_t.mp c_14
      have P_11 : (I_11 11).toInt = (num T (po + 1)).2 := (z_11.2.2.2.1 k_14).1
      have Q_11 : eq33 (R_11 3) (upd q 1 (i3 (num T (po + 1)).1)) := by rw [(z_11.2.2.2.1 k_14).2]; exact eq33.up h_4
      have B_11 : (po + 1) < (num T (po + 1)).2 ∧ (num T (po + 1)).2 ≤ (I 10).toInt := ⟨num_gt k_14, by omega⟩
      refine lv_aload_n hx hb dX9_takesMonths_19 rfl (lv_at hl 0 rfl) ?_
      refine mg_read X w dX9_takesMonths_20 ?_
      refine lv_iconst (v := 0) hx hb dX9_takesMonths_23 (by decide) ?_
      refine lv_iconst (v := 1) hx hb dX9_takesMonths_24 (by decide) ?_
      refine ms_read (x := 1) X w (g_in (show (0 : Int32).toInt = 0 from rfl) (by omega)) dX9_takesMonths_25 (fun H locs w => ?_)
      rw [g_tn (show (0 : Int32).toInt = 0 from rfl)] at w
      refine q_loop (α := Nat × (Nat → Int32) × (Nat → Int32) × (Nat → Nat → Int32)) (fun a => (kpI [11,13,14] I a.2.2.1 ∧ kpR [3] Rw a.2.2.2 ∧ eq33 (a.2.2.2 3) a.2.1 ∧ a.2.2.1 14 = bI gg ∧ ((0 ≤ (a.2.2.1 11).toInt ∧ po ≤ (a.2.2.1 11).toInt) ∧ (a.2.2.1 11).toInt ≤ (I 10).toInt) ∧ ((a.2.1 0).toInt = 14 - (a.1 : Int) ∧ a.1 ≤ 13) ∧ sMore T a.1 (a.2.2.1 11).toInt a.2.1 gg = sMore T 13 (num T (po + 1)).2 (upd (upd q 1 (i3 (num T (po + 1)).1)) 0 1) gg)) (fun a => a.1) (fun a => ∀ (H : Heap) (locs : List Loc), qW D b n (mS t b σ0 a.2.2.1 a.2.2.2) s H locs → ∀ ls : Array Slot, lv_has ls 1 [(0, .ref (b + 45))] → W p l e (qR 3 0 0) s m args below meth c H locs 0 0 (MQ below (va_Qi (S := Nat × qM) (fun z u => (fun z n1 σ1 => n1 = n ∧ ∃ I1 R1, σ1 = mS t b σ0 I1 R1 ∧ kpI [11, 13, 14] I I1 ∧ kpR [3] Rw R1 ∧ z = bI (sMonths T po q gg).1 ∧ (I1 11).toInt = (sMonths T po q gg).2.1 ∧ (po ≤ (sMonths T po q gg).2.1 ∧ (sMonths T po q gg).2.1 ≤ (I 10).toInt) ∧ ((sMonths T po q gg).1 = true → eq33 (R1 3) (sMonths T po q gg).2.2.1 ∧ I1 14 = bI (sMonths T po q gg).2.2.2)) z u.1 u.2) (fun u T => WB D b u.1 u.2 T.heap) (fun q => b ≤ q)) args s 0 0 (fun q => b ≤ q)) (F0 m 26 ls [])) ?_ ⟨13, (upd (upd q 1 (i3 (num T (po + 1)).1)) 0 1), I_11, (va_up R_11 3 (upd (R_11 3) (0 : Int).toNat 1))⟩ (by dsimp only; exact ⟨K_11, kpR.up (J := [3]) KR_11 (by decide), eq33.up Q_11, G_11, by omega, by rw [upd_s]; exact ⟨rfl, by omega⟩, by rw [P_11]⟩) _ _ w ls (lv_sub hl [0] rfl)
      rintro ⟨k, qq, I_L26, R_L26⟩ inv_26 ih_26 H locs w ls hl
      dsimp only at inv_26 hl w
      have Q0 : R_L26 3 0 = qq 0 := inv_26.2.2.1 0 (by decide)
      have Q0i := congrArg Int32.toInt Q0
      refine lv_aload_n hx hb dX9_takesMonths_26 rfl (lv_at hl 0 rfl) ?_
      refine mg_read X w dX9_takesMonths_27 ?_
      refine lv_iconst (v := 0) hx hb dX9_takesMonths_30 (by decide) ?_
      refine ml_read X w (g_in (show (0 : Int32).toInt = 0 from rfl) (by omega)) dX9_takesMonths_31 ?_
      refine q_topE (y := R_L26 3 (0 : Int).toNat) (congrArg (R_L26 3) (g_tn (show (0 : Int32).toInt = 0 from rfl))) ?_
      refine lv_bipush (v := 14) hx hb dX9_takesMonths_32 (by decide) ?_
      refine lv_icmp_ge (tgt := 76) hx hb dX9_takesMonths_34 (by decide) (fun c_34 => ?_) (fun c_34 => ?_)
      · skip
        have k_34 : 14 ≤ (14 - (k : Int)) := (g_le (show (14 : Int32).toInt = 14 from rfl) (Q0i.trans inv_26.2.2.2.2.2.1.1)).mp c_34
        refine lv_iconst (v := 1) hx hb dX9_takesMonths_76 (by decide) ?_
        exact q_cret (post := (fun z n1 σ1 => n1 = n ∧ ∃ I1 R1, σ1 = mS t b σ0 I1 R1 ∧ kpI [11, 13, 14] I I1 ∧ kpR [3] Rw R1 ∧ z = bI (sMonths T po q gg).1 ∧ (I1 11).toInt = (sMonths T po q gg).2.1 ∧ (po ≤ (sMonths T po q gg).2.1 ∧ (sMonths T po q gg).2.1 ≤ (I 10).toInt) ∧ ((sMonths T po q gg).1 = true → eq33 (R1 3) (sMonths T po q gg).2.2.1 ∧ I1 14 = bI (sMonths T po q gg).2.2.2))) X w dX9_takesMonths_77 (rfl) ⟨rfl, _, _, rfl, by have e : sMonths T po q gg = (true, (I_L26 11).toInt, qq, gg) := (by unfold sMonths; rw [if_pos k_6, if_pos k_14, ← inv_26.2.2.2.2.2.2, show k = 0 by omega, sMore]); rw [e]; exact ⟨inv_26.1, inv_26.2.1, rfl, rfl, (by show po ≤ (I_L26 11).toInt ∧ (I_L26 11).toInt ≤ _; omega), fun _ => ⟨inv_26.2.2.1, inv_26.2.2.2.1⟩⟩⟩
      · skip
        have k_34 : ¬ (14 ≤ (14 - (k : Int))) := fun h => c_34 ((g_le (show (14 : Int32).toInt = 14 from rfl) (Q0i.trans inv_26.2.2.2.2.2.1.1)).mpr h)
        refine lv_aload_n hx hb dX9_takesMonths_37 rfl (lv_at hl 0 rfl) ?_
        refine lv_bipush (v := 44) hx hb dX9_takesMonths_38 (by decide) ?_
        refine mm_cCI X w (c_X9_skips l D t b n σ0 I_L26 R_L26 T ((I_L26 11).toInt) 44 44 (show (44 : Int32).toInt = 44 from rfl) (by exact h_1.trans (tx_cg (inv_26.1 10 (by decide)) (inv_26.2.1 9 (by decide)))) (by exact rfl) (by have e10 := congrArg Int32.toInt (inv_26.1 10 (by decide)); exact ⟨by omega, by rw [show (I_L26 10).toInt = (I 10).toInt from e10]; omega, by rw [show (I_L26 10).toInt = (I 10).toInt from e10]; omega⟩) (by decide)) v_X9_160 rfl rfl ⟨Nat.le_of_ble_eq_true rfl, Nat.le_of_ble_eq_true rfl⟩ rfl hl.1 (Nat.le_of_ble_eq_true rfl) dX9_takesMonths_40 ⟨Nat.zero_le _, Nat.zero_le _⟩ (fun r_40 I_40 H locs z_40 w => ?_)
        have K_40 := kpI.tr (J := [11,13,14]) inv_26.1 z_40.1 (by decide) (by decide)
        have E_40 := congrArg Int32.toInt (inv_26.1 10 (by decide))
        have G_40 : I_40 14 = bI gg := (z_40.1 14 (by decide)).trans inv_26.2.2.2.1
        refine lv_if_eq (tgt := 76) hx hb dX9_takesMonths_43 (by decide) (fun c_43 => ?_) (fun c_43 => ?_)
        · skip
          rw [z_40.2.1] at c_43
          have k_43 := bI_f.mp c_43
          have P_40 : (I_40 11).toInt = (I_L26 11).toInt := z_40.2.2.2.1 k_43
          refine lv_iconst (v := 1) hx hb dX9_takesMonths_76 (by decide) ?_
          exact q_cret (post := (fun z n1 σ1 => n1 = n ∧ ∃ I1 R1, σ1 = mS t b σ0 I1 R1 ∧ kpI [11, 13, 14] I I1 ∧ kpR [3] Rw R1 ∧ z = bI (sMonths T po q gg).1 ∧ (I1 11).toInt = (sMonths T po q gg).2.1 ∧ (po ≤ (sMonths T po q gg).2.1 ∧ (sMonths T po q gg).2.1 ≤ (I 10).toInt) ∧ ((sMonths T po q gg).1 = true → eq33 (R1 3) (sMonths T po q gg).2.2.1 ∧ I1 14 = bI (sMonths T po q gg).2.2.2))) X w dX9_takesMonths_77 (rfl) ⟨rfl, _, _, rfl, by have e : sMonths T po q gg = (true, (I_L26 11).toInt, qq, gg) := (by unfold sMonths; rw [if_pos k_6, if_pos k_14, ← inv_26.2.2.2.2.2.2, show k = k - 1 + 1 by omega, sMore, if_neg k_43]); rw [e]; exact ⟨K_40, inv_26.2.1, rfl, P_40, (by show po ≤ (I_L26 11).toInt ∧ (I_L26 11).toInt ≤ _; omega), fun _ => ⟨inv_26.2.2.1, G_40⟩⟩⟩
        · skip
          rw [z_40.2.1] at c_43
          have k_43 := bI_t.mp c_43
          have P_40 : (I_40 11).toInt = ((I_L26 11).toInt + 1) := z_40.2.2.1 k_43
          have B_40 : ((I_L26 11).toInt + 1) ≤ (I 10).toInt := by omega
          refine lv_aload_n hx hb dX9_takesMonths_46 rfl (lv_at hl 0 rfl) ?_
          refine lv_iconst (v := 1) hx hb dX9_takesMonths_47 (by decide) ?_
          refine lv_aload_n hx hb dX9_takesMonths_48 rfl (lv_at hl 0 rfl) ?_
          refine mg_read X w dX9_takesMonths_49 ?_
          refine lv_iconst (v := 0) hx hb dX9_takesMonths_52 (by decide) ?_
          refine ml_read X w (g_in (show (0 : Int32).toInt = 0 from rfl) (by omega)) dX9_takesMonths_53 ?_
          refine q_topE (y := R_L26 3 (0 : Int).toNat) (congrArg (R_L26 3) (g_tn (show (0 : Int32).toInt = 0 from rfl))) ?_
          refine lv_iadd hx hb dX9_takesMonths_54 ?_
          refine lv_topi (fun x_54 e_54 => ?_)
          have p_54 : x_54.toInt = (1 + (14 - (k : Int))) := by rw [e_54]; exact t_add (show (1 : Int32).toInt = 1 from rfl) (Q0i.trans inv_26.2.2.2.2.2.1.1) (by omega) (by omega)
          refine mm_cC X w (c_X9_takes l D t b n σ0 I_40 R_L26 T ((I_L26 11).toInt + 1) x_54 (1 + (14 - (k : Int))) p_54 (by exact h_1.trans (tx_cg (K_40 10 (by decide)) (inv_26.2.1 9 (by decide)))) (by exact P_40) (by have e10 := congrArg Int32.toInt (K_40 10 (by decide)); exact ⟨by omega, by rw [show (I_40 10).toInt = (I 10).toInt from e10]; omega, by rw [show (I_40 10).toInt = (I 10).toInt from e10]; omega⟩) (by omega)) v_X9_163 rfl rfl ⟨Nat.le_of_ble_eq_true rfl, Nat.le_of_ble_eq_true rfl⟩ rfl hl.1 (Nat.le_of_ble_eq_true rfl) dX9_takesMonths_55 ⟨Nat.zero_le _, Nat.zero_le _⟩ (fun r_55 I_55 R_55 H locs z_55 w => ?_)
          have K_55 := kpI.tr (J := [11,13,14]) K_40 z_55.1 (by decide) (by decide)
          have KR_55 := kpR.tr (J := [3]) inv_26.2.1 z_55.2.1 (by decide) (by decide)
          have E_55 := congrArg Int32.toInt (K_40 10 (by decide))
          have G_55 : I_55 14 = bI gg := (z_55.1 14 (by decide)).trans G_40
          refine lv_if_ne (tgt := 63) hx hb dX9_takesMonths_58 (by decide) (fun c_58 => ?_) (fun c_58 => ?_)
          · skip
            rw [z_55.2.2.1] at c_58
            have k_58 := bI_t.mp c_58
            have P_55 : (I_55 11).toInt = (num T ((I_L26 11).toInt + 1)).2 := (z_55.2.2.2.1 k_58).1
            have Q_55 : eq33 (R_55 3) (upd qq ((1 + (14 - (k : Int)))).toNat (i3 (num T ((I_L26 11).toInt + 1)).1)) := by rw [(z_55.2.2.2.1 k_58).2]; exact eq33.up inv_26.2.2.1
            have B_55 : ((I_L26 11).toInt + 1) < (num T ((I_L26 11).toInt + 1)).2 ∧ (num T ((I_L26 11).toInt + 1)).2 ≤ (I 10).toInt := ⟨num_gt k_58, by omega⟩
            refine lv_aload_n hx hb dX9_takesMonths_63 rfl (lv_at hl 0 rfl) ?_
            refine mg_read X w dX9_takesMonths_64 ?_
            refine lv_iconst (v := 0) hx hb dX9_takesMonths_67 (by decide) ?_
            refine lv_dup2_11 hx hb dX9_takesMonths_68 rfl rfl ?_
            refine ml_read X w (g_in (show (0 : Int32).toInt = 0 from rfl) (by omega)) dX9_takesMonths_69 ?_
            refine q_topE (y := R_55 3 (0 : Int).toNat) (congrArg (R_55 3) (g_tn (show (0 : Int32).toInt = 0 from rfl))) ?_
            have e5 : R_55 3 (0 : Int).toNat = qq 0 := (Q_55 0 (by decide)).trans (upd_n _ _ (by omega))
            refine lv_iconst (v := 1) hx hb dX9_takesMonths_70 (by decide) ?_
            refine lv_iadd hx hb dX9_takesMonths_71 ?_
            refine lv_topi (fun x_71 e_71 => ?_)
            have p_71 : x_71.toInt = ((14 - (k : Int)) + 1) := by rw [e_71]; exact t_add ((congrArg Int32.toInt e5).trans inv_26.2.2.2.2.2.1.1) (show (1 : Int32).toInt = 1 from rfl) (by omega) (by omega)
            refine ms_read (x := x_71) X w (g_in (show (0 : Int32).toInt = 0 from rfl) (by omega)) dX9_takesMonths_72 (fun H locs w => ?_)
            rw [g_tn (show (0 : Int32).toInt = 0 from rfl)] at w
            refine lv_goto (tgt := 26) hx hb dX9_takesMonths_73 (by decide) ?_
            refine ih_26 ⟨(k - 1), (upd (upd qq ((1 + (14 - (k : Int)))).toNat (i3 (num T ((I_L26 11).toInt + 1)).1)) 0 x_71), I_55, (va_up R_55 3 (upd (R_55 3) (0 : Int).toNat x_71))⟩ (by dsimp only; have ek : k = k - 1 + 1 := (by omega); refine ⟨K_55, kpR.up (J := [3]) KR_55 (by decide), eq33.up Q_55, G_55, by omega, ?_, ?_⟩; (rw [upd_s]; exact ⟨by omega, by omega⟩); (have e := inv_26.2.2.2.2.2.2; rw [ek, sMore, if_pos k_43, if_pos k_58] at e; rw [P_55, ← e, show x_71 = qq 0 + 1 by rw [e_71, e5], show (1 + (14 - (k : Int))).toNat = 14 - (k - 1) by omega])) (by dsimp only; omega) _ _ w ls (lv_sub hl [0] rfl)
          · skip
            rw [z_55.2.2.1] at c_58
            have k_58 := bI_f.mp c_58
            have P_55 : (I_55 11).toInt = ((I_L26 11).toInt + 1) := (z_55.2.2.2.2.1 k_58).1
            have Q_55 : eq33 (R_55 3) qq := by rw [(z_55.2.2.2.2.1 k_58).2]; exact inv_26.2.2.1
            refine lv_iconst (v := 0) hx hb dX9_takesMonths_61 (by decide) ?_
            exact q_cret (post := (fun z n1 σ1 => n1 = n ∧ ∃ I1 R1, σ1 = mS t b σ0 I1 R1 ∧ kpI [11, 13, 14] I I1 ∧ kpR [3] Rw R1 ∧ z = bI (sMonths T po q gg).1 ∧ (I1 11).toInt = (sMonths T po q gg).2.1 ∧ (po ≤ (sMonths T po q gg).2.1 ∧ (sMonths T po q gg).2.1 ≤ (I 10).toInt) ∧ ((sMonths T po q gg).1 = true → eq33 (R1 3) (sMonths T po q gg).2.2.1 ∧ I1 14 = bI (sMonths T po q gg).2.2.2))) X w dX9_takesMonths_62 (rfl) ⟨rfl, _, _, rfl, by have e : (sMonths T po q gg).1 = false ∧ (sMonths T po q gg).2.1 = ((I_L26 11).toInt + 1) := (by unfold sMonths; rw [if_pos k_6, if_pos k_14, ← inv_26.2.2.2.2.2.2, show k = k - 1 + 1 by omega, sMore, if_pos k_43, if_neg k_58]; exact ⟨rfl, rfl⟩); exact ⟨K_55, KR_55, (by rw [e.1]; rfl), (by rw [e.2]; exact P_55), (by rw [e.2]; omega), fun h => absurd (h.symm.trans e.1) (by decide)⟩⟩
    · skip
      rw [z_11.2.2.1] at c_14
      have k_14 := bI_f.mp c_14
      have P_11 : (I_11 11).toInt = (po + 1) := (z_11.2.2.2.2.1 k_14).1
      have Q_11 : eq33 (R_11 3) q := by rw [(z_11.2.2.2.2.1 k_14).2]; exact h_4
      refine lv_iconst (v := 0) hx hb dX9_takesMonths_17 (by decide) ?_
      exact q_cret (post := (fun z n1 σ1 => n1 = n ∧ ∃ I1 R1, σ1 = mS t b σ0 I1 R1 ∧ kpI [11, 13, 14] I I1 ∧ kpR [3] Rw R1 ∧ z = bI (sMonths T po q gg).1 ∧ (I1 11).toInt = (sMonths T po q gg).2.1 ∧ (po ≤ (sMonths T po q gg).2.1 ∧ (sMonths T po q gg).2.1 ≤ (I 10).toInt) ∧ ((sMonths T po q gg).1 = true → eq33 (R1 3) (sMonths T po q gg).2.2.1 ∧ I1 14 = bI (sMonths T po q gg).2.2.2))) X w dX9_takesMonths_18 (rfl) ⟨rfl, _, _, rfl, by have e : (sMonths T po q gg).1 = false ∧ (sMonths T po q gg).2.1 = (po + 1) := (by unfold sMonths; rw [if_pos k_6, if_neg k_14]; exact ⟨rfl, rfl⟩); exact ⟨K_11, KR_11, (by rw [e.1]; rfl), (by rw [e.2]; exact P_11), (by rw [e.2]; omega), fun h => absurd (h.symm.trans e.1) (by decide)⟩⟩
