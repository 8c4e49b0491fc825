set_option maxHeartbeats 4000000 in
set_option maxRecDepth 100000 in
theorem c_X9_takesMonths (l : Launch) (D : va_G) (t : Nat → ClassId) (b n : Nat) (σ0 : qM) (I : Nat → Int32) (Rw : Nat → Nat → Int32) (T : Int → Int) (po : Int) (q : Nat → Int32) (gg : Bool) (h_1 : T = tx I Rw) (h_2 : (I 11).toInt = po) (h_3 : 0 ≤ po ∧ po ≤ (I 10).toInt ∧ (I 10).toInt ≤ 100) (h_4 : eq33 (Rw 3) q) (h_5 : I 14 = bI gg) : mC l yX9_takesMonths cX9_takesMonths 1 (some .boolean) 3 D t b n σ0 I Rw [.ref (b + 45)] (fun z I1 R1 => kpI [11, 13, 14] I I1 ∧ kpR [3] Rw R1 ∧ z = bI (sMonths T po q gg).1 ∧ (I1 11).toInt = (sMonths T po q gg).2.1 ∧ (po ≤ (sMonths T po q gg).2.1 ∧ (sMonths T po q gg).2.1 ≤ (I 10).toInt) ∧ ((sMonths T po q gg).1 = true → eq33 (R1 3) (sMonths T po q gg).2.2.1 ∧ I1 14 = bI (sMonths T po q gg).2.2.2)) := by
  refine qC.of (by decide +kernel) (Nat.le_of_ble_eq_true rfl) (fun p e s m args below meth c X w ls hl => ?_)
  have hx := X.1
  have hb := X.2.1
  have hl : lv_has ls 1 [(0, .ref (b + 45))] := hl
  refine lv_aload_n hx hb dX9_takesMonths_0 rfl (lv_at hl 0 rfl) ?_
  refine lv_bipush (v := 109) hx hb dX9_takesMonths_1 (by decide) ?_
  refine mm_cCI X w (c_X9_skips l D t b n σ0 I Rw T po 109 109 (show (109 : Int32).toInt = 109 from rfl) (by exact h_1.trans (tx_cg ((kpI.rf (J := [11,13,14]) (I := I)) 10 (by decide)) ((kpR.rf (J := [3]) (R := Rw)) 9 (by decide)))) (by exact h_2) (by have e10 := congrArg Int32.toInt ((kpI.rf (J := [11,13,14]) (I := I)) 10 (by decide)); exact ⟨by omega, by rw [show (I 10).toInt = (I 10).toInt from e10]; omega, by rw [show (I 10).toInt = (I 10).toInt from e10]; omega⟩) (by decide)) v_X9_160 rfl rfl ⟨Nat.le_of_ble_eq_true rfl, Nat.le_of_ble_eq_true rfl⟩ rfl hl.1 (Nat.le_of_ble_eq_true rfl) dX9_takesMonths_3 ⟨Nat.zero_le _, Nat.zero_le _⟩ (fun r_3 I_3 H locs z_3 w => ?_)
  have K_3 := kpI.tr (J := [11,13,14]) (kpI.rf (J := [11,13,14]) (I := I)) z_3.1 (by decide) (by decide)
  have E_3 : (I 10).toInt = (I 10).toInt := congrArg Int32.toInt ((kpI.rf (J := [11,13,14]) (I := I)) 10 (by decide))
  have G_3 : I_3 14 = bI gg := (z_3.1 14 (by decide)).trans h_5
  refine lv_if_eq (tgt := 17) hx hb dX9_takesMonths_6 (by decide) (fun c_6 => ?_) (fun c_6 => ?_)
  · skip
    rw [z_3.2.1] at c_6
    have k_6 := bI_f.mp c_6
    have P_3 : (I_3 11).toInt = po := z_3.2.2.2.1 k_6
    refine lv_iconst (v := 0) hx hb dX9_takesMonths_17 (by decide) ?_
    exact q_cret (post := (fun z n1 σ1 => n1 = n ∧ ∃ I1 R1, σ1 = mS t b σ0 I1 R1 ∧ kpI [11, 13, 14] I I1 ∧ kpR [3] Rw R1 ∧ z = bI (sMonths T po q gg).1 ∧ (I1 11).toInt = (sMonths T po q gg).2.1 ∧ (po ≤ (sMonths T po q gg).2.1 ∧ (sMonths T po q gg).2.1 ≤ (I 10).toInt) ∧ ((sMonths T po q gg).1 = true → eq33 (R1 3) (sMonths T po q gg).2.2.1 ∧ I1 14 = bI (sMonths T po q gg).2.2.2))) X w dX9_takesMonths_18 (rfl) ⟨rfl, _, _, rfl, by have e : (sMonths T po q gg).1 = false ∧ (sMonths T po q gg).2.1 = po := (by unfold sMonths; rw [if_neg k_6]; exact ⟨rfl, rfl⟩); exact ⟨K_3, (kpR.rf (J := [3]) (R := Rw)), (by rw [e.1]; rfl), (by rw [e.2]; exact P_3), (by rw [e.2]; omega), fun h => absurd (h.symm.trans e.1) (by decide)⟩⟩
  · skip
    rw [z_3.2.1] at c_6
    have k_6 := bI_t.mp c_6
    have P_3 : (I_3 11).toInt = (po + 1) := z_3.2.2.1 k_6
    have B_3 : (po + 1) ≤ (I 10).toInt := by omega
    refine lv_aload_n hx hb dX9_takesMonths_9 rfl (lv_at hl 0 rfl) ?_
    refine lv_iconst (v := 1) hx hb dX9_takesMonths_10 (by decide) ?_
    refine mm_cC X w (c_X9_takes l D t b n σ0 I_3 Rw T (po + 1) 1 1 (show (1 : Int32).toInt = 1 from rfl) (by exact h_1.trans (tx_cg (K_3 10 (by decide)) ((kpR.rf (J := [3]) (R := Rw)) 9 (by decide)))) (by exact P_3) (by have e10 := congrArg Int32.toInt (K_3 10 (by decide)); exact ⟨by omega, by rw [show (I_3 10).toInt = (I 10).toInt from e10]; omega, by rw [show (I_3 10).toInt = (I 10).toInt from e10]; omega⟩) (by decide)) v_X9_163 rfl rfl ⟨Nat.le_of_ble_eq_true rfl, Nat.le_of_ble_eq_true rfl⟩ rfl hl.1 (Nat.le_of_ble_eq_true rfl) dX9_takesMonths_11 ⟨Nat.zero_le _, Nat.zero_le _⟩ (fun r_11 I_11 R_11 H locs z_11 w => ?_)
    have K_11 := kpI.tr (J := [11,13,14]) K_3 z_11.1 (by decide) (by decide)
    have KR_11 := kpR.tr (J := [3]) (kpR.rf (J := [3]) (R := Rw)) z_11.2.1 (by decide) (by decide)
    have E_11 : (I_3 10).toInt = (I 10).toInt := congrArg Int32.toInt (K_3 10 (by decide))
    have G_11 : I_11 14 = bI gg := (z_11.1 14 (by decide)).trans G_3
    refine lv_if_ne (tgt := 19) hx hb dX9_takesMonths_14 (by decide) (fun c_14 => ?_) (fun c_14 => ?_)
    · skip
      rw [z_11.2.2.1] at c_14
      have k_14 := bI_t.mp c_14
      have P_11 : (I_11 11).toInt = (num T (po + 1)).2 := (z_11.2.2.2.1 k_14).1
      have Q_11 : eq33 (R_11 3) (upd q 1 (i3 (num T (po + 1)).1)) := by rw [(z_11.2.2.2.1 k_14).2]; exact eq33.up h_4
      have B_11 : (po + 1) < (num T (po + 1)).2 ∧ (num T (po + 1)).2 ≤ (I 10).toInt := ⟨num_gt k_14, by omega⟩
      refine lv_aload_n hx hb dX9_takesMonths_19 rfl (lv_at hl 0 rfl) ?_
      refine mg_read X w dX9_takesMonths_20 ?_
      refine lv_iconst (v := 0) hx hb dX9_takesMonths_23 (by decide) ?_
      refine lv_iconst (v := 1) hx hb dX9_takesMonths_24 (by decide) ?_
      refine ms_read (x := 1) X w (g_in (show (0 : Int32).toInt = 0 from rfl) (by omega)) dX9_takesMonths_25 (fun H locs w => ?_)
      rw [g_tn (show (0 : Int32).toInt = 0 from rfl)] at w
      refine q_loop (α := Nat × (Nat → Int32) × (Nat → Int32) × (Nat → Nat → Int32)) (fun a => (kpI [11,13,14] I a.2.2.1 ∧ kpR [3] Rw a.2.2.2 ∧ eq33 (a.2.2.2 3) a.2.1 ∧ a.2.2.1 14 = bI gg ∧ ((0 ≤ (a.2.2.1 11).toInt ∧ po ≤ (a.2.2.1 11).toInt) ∧ (a.2.2.1 11).toInt ≤ (I 10).toInt) ∧ ((a.2.1 0).toInt = 14 - (a.1 : Int) ∧ a.1 ≤ 13) ∧ sMore T a.1 (a.2.2.1 11).toInt a.2.1 gg = sMore T 13 (num T (po + 1)).2 (upd (upd q 1 (i3 (num T (po + 1)).1)) 0 1) gg)) (fun a => a.1) (fun a => ∀ (H : Heap) (locs : List Loc), qW D b n (mS t b σ0 a.2.2.1 a.2.2.2) s H locs → ∀ ls : Array Slot, lv_has ls 1 [(0, .ref (b + 45))] → W p l e (qR 3 0 0) s m args below meth c H locs 0 0 (MQ below (va_Qi (S := Nat × qM) (fun z u => (fun z n1 σ1 => n1 = n ∧ ∃ I1 R1, σ1 = mS t b σ0 I1 R1 ∧ kpI [11, 13, 14] I I1 ∧ kpR [3] Rw R1 ∧ z = bI (sMonths T po q gg).1 ∧ (I1 11).toInt = (sMonths T po q gg).2.1 ∧ (po ≤ (sMonths T po q gg).2.1 ∧ (sMonths T po q gg).2.1 ≤ (I 10).toInt) ∧ ((sMonths T po q gg).1 = true → eq33 (R1 3) (sMonths T po q gg).2.2.1 ∧ I1 14 = bI (sMonths T po q gg).2.2.2)) z u.1 u.2) (fun u T => WB D b u.1 u.2 T.heap) (fun q => b ≤ q)) args s 0 0 (fun q => b ≤ q)) (F0 m 26 ls [])) ?_ ⟨13, (upd (upd q 1 (i3 (num T (po + 1)).1)) 0 1), I_11, (va_up R_11 3 (upd (R_11 3) (0 : Int).toNat 1))⟩ (by dsimp only; exact ⟨K_11, kpR.up (J := [3]) KR_11 (by decide), eq33.up Q_11, G_11, by omega, by rw [upd_s]; exact ⟨rfl, by omega⟩, by rw [P_11]⟩) _ _ w ls (lv_sub hl [0] rfl)
      rintro ⟨k, qq, I_L26, R_L26⟩ inv_26 ih_26 H locs w ls hl
      dsimp only at inv_26 hl w
      have Q0 : R_L26 3 0 = qq 0 := inv_26.2.2.1 0 (by decide)
      have Q0i := congrArg Int32.toInt Q0
      refine lv_aload_n hx hb dX9_takesMonths_26 rfl (lv_at hl 0 rfl) ?_
      refine mg_read X w dX9_takesMonths_27 ?_
      refine lv_iconst (v := 0) hx hb dX9_takesMonths_30 (by decide) ?_
      refine ml_read X w (g_in (show (0 : Int32).toInt = 0 from rfl) (by omega)) dX9_takesMonths_31 ?_
      refine q_topE (y := R_L26 3 (0 : Int).toNat) (congrArg (R_L26 3) (g_tn (show (0 : Int32).toInt = 0 from rfl))) ?_
      refine lv_bipush (v := 14) hx hb dX9_takesMonths_32 (by decide) ?_
      refine lv_icmp_ge (tgt := 76) hx hb dX9_takesMonths_34 (by decide) (fun c_34 => ?_) (fun c_34 => ?_)
      · skip
        have k_34 : 14 ≤ (14 - (k : Int)) := (g_le (show (14 : Int32).toInt = 14 from rfl) (Q0i.trans inv_26.2.2.2.2.2.1.1)).mp c_34
        refine lv_iconst (v := 1) hx hb dX9_takesMonths_76 (by decide) ?_
        exact q_cret (post := (fun z n1 σ1 => n1 = n ∧ ∃ I1 R1, σ1 = mS t b σ0 I1 R1 ∧ kpI [11, 13, 14] I I1 ∧ kpR [3] Rw R1 ∧ z = bI (sMonths T po q gg).1 ∧ (I1 11).toInt = (sMonths T po q gg).2.1 ∧ (po ≤ (sMonths T po q gg).2.1 ∧ (sMonths T po q gg).2.1 ≤ (I 10).toInt) ∧ ((sMonths T po q gg).1 = true → eq33 (R1 3) (sMonths T po q gg).2.2.1 ∧ I1 14 = bI (sMonths T po q gg).2.2.2))) X w dX9_takesMonths_77 (rfl) ⟨rfl, _, _, rfl, by have e : sMonths T po q gg = (true, (I_L26 11).toInt, qq, gg) := (by unfold sMonths; rw [if_pos k_6, if_pos k_14, ← inv_26.2.2.2.2.2.2, show k = 0 by omega, sMore]); rw [e]; exact ⟨inv_26.1, inv_26.2.1, rfl, rfl, (by show po ≤ (I_L26 11).toInt ∧ (I_L26 11).toInt ≤ _; omega), fun _ => ⟨inv_26.2.2.1, inv_26.2.2.2.1⟩⟩⟩
      · skip
        have k_34 : ¬ (14 ≤ (14 - (k : Int))) := fun h => c_34 ((g_le (show (14 : Int32).toInt = 14 from rfl) (Q0i.trans inv_26.2.2.2.2.2.1.1)).mpr h)
        refine lv_aload_n hx hb dX9_takesMonths_37 rfl (lv_at hl 0 rfl) ?_
        refine lv_bipush (v := 44) hx hb dX9_takesMonths_38 (by decide) ?_
        refine mm_cCI X w (c_X9_skips l D t b n σ0 I_L26 R_L26 T ((I_L26 11).toInt) 44 44 (show (44 : Int32).toInt = 44 from rfl) (by exact h_1.trans (tx_cg (inv_26.1 10 (by decide)) (inv_26.2.1 9 (by decide)))) (by exact rfl) (by have e10 := congrArg Int32.toInt (inv_26.1 10 (by decide)); exact ⟨by omega, by rw [show (I_L26 10).toInt = (I 10).toInt from e10]; omega, by rw [show (I_L26 10).toInt = (I 10).toInt from e10]; omega⟩) (by decide)) v_X9_160 rfl rfl ⟨Nat.le_of_ble_eq_true rfl, Nat.le_of_ble_eq_true rfl⟩ rfl hl.1 (Nat.le_of_ble_eq_true rfl) dX9_takesMonths_40 ⟨Nat.zero_le _, Nat.zero_le _⟩ (fun r_40 I_40 H locs z_40 w => ?_)
        have K_40 := kpI.tr (J := [11,13,14]) inv_26.1 z_40.1 (by decide) (by decide)
        have E_40 : (I_L26 10).toInt = (I 10).toInt := congrArg Int32.toInt (inv_26.1 10 (by decide))
        have G_40 : I_40 14 = bI gg := (z_40.1 14 (by decide)).trans inv_26.2.2.2.1
        refine lv_if_eq (tgt := 76) hx hb dX9_takesMonths_43 (by decide) (fun c_43 => ?_) (fun c_43 => ?_)
        · skip
          rw [z_40.2.1] at c_43
          have k_43 := bI_f.mp c_43
          have P_40 : (I_40 11).toInt = (I_L26 11).toInt := z_40.2.2.2.1 k_43
          refine lv_iconst (v := 1) hx hb dX9_takesMonths_76 (by decide) ?_
          exact q_cret (post := (fun z n1 σ1 => n1 = n ∧ ∃ I1 R1, σ1 = mS t b σ0 I1 R1 ∧ kpI [11, 13, 14] I I1 ∧ kpR [3] Rw R1 ∧ z = bI (sMonths T po q gg).1 ∧ (I1 11).toInt = (sMonths T po q gg).2.1 ∧ (po ≤ (sMonths T po q gg).2.1 ∧ (sMonths T po q gg).2.1 ≤ (I 10).toInt) ∧ ((sMonths T po q gg).1 = true → eq33 (R1 3) (sMonths T po q gg).2.2.1 ∧ I1 14 = bI (sMonths T po q gg).2.2.2))) X w dX9_takesMonths_77 (rfl) ⟨rfl, _, _, rfl, by have e : sMonths T po q gg = (true, (I_L26 11).toInt, qq, gg) := (by unfold sMonths; rw [if_pos k_6, if_pos k_14, ← inv_26.2.2.2.2.2.2, show k = k - 1 + 1 by omega, sMore, if_neg k_43]); rw [e]; exact ⟨K_40, inv_26.2.1, rfl, P_40, (by show po ≤ (I_L26 11).toInt ∧ (I_L26 11).toInt ≤ _; omega), fun _ => ⟨inv_26.2.2.1, G_40⟩⟩⟩
        · skip
          rw [z_40.2.1] at c_43
          have k_43 := bI_t.mp c_43
          have P_40 : (I_40 11).toInt = ((I_L26 11).toInt + 1) := z_40.2.2.1 k_43
          have B_40 : ((I_L26 11).toInt + 1) ≤ (I 10).toInt := by omega
          refine lv_aload_n hx hb dX9_takesMonths_46 rfl (lv_at hl 0 rfl) ?_
          refine lv_iconst (v := 1) hx hb dX9_takesMonths_47 (by decide) ?_
          refine lv_aload_n hx hb dX9_takesMonths_48 rfl (lv_at hl 0 rfl) ?_
          refine mg_read X w dX9_takesMonths_49 ?_
          refine lv_iconst (v := 0) hx hb dX9_takesMonths_52 (by decide) ?_
          refine ml_read X w (g_in (show (0 : Int32).toInt = 0 from rfl) (by omega)) dX9_takesMonths_53 ?_
          refine q_topE (y := R_L26 3 (0 : Int).toNat) (congrArg (R_L26 3) (g_tn (show (0 : Int32).toInt = 0 from rfl))) ?_
          refine lv_iadd hx hb dX9_takesMonths_54 ?_
          refine lv_topi (fun x_54 e_54 => ?_)
          have p_54 : x_54.toInt = (1 + (14 - (k : Int))) := by rw [e_54]; exact t_add (show (1 : Int32).toInt = 1 from rfl) (Q0i.trans inv_26.2.2.2.2.2.1.1) (by omega) (by omega)
          refine mm_cC X w (c_X9_takes l D t b n σ0 I_40 R_L26 T ((I_L26 11).toInt + 1) x_54 (1 + (14 - (k : Int))) p_54 (by exact h_1.trans (tx_cg (K_40 10 (by decide)) (inv_26.2.1 9 (by decide)))) (by exact P_40) (by have e10 := congrArg Int32.toInt (K_40 10 (by decide)); exact ⟨by omega, by rw [show (I_40 10).toInt = (I 10).toInt from e10]; omega, by rw [show (I_40 10).toInt = (I 10).toInt from e10]; omega⟩) (by omega)) v_X9_163 rfl rfl ⟨Nat.le_of_ble_eq_true rfl, Nat.le_of_ble_eq_true rfl⟩ rfl hl.1 (Nat.le_of_ble_eq_true rfl) dX9_takesMonths_55 ⟨Nat.zero_le _, Nat.zero_le _⟩ (fun r_55 I_55 R_55 H locs z_55 w => ?_)
          have K_55 := kpI.tr (J := [11,13,14]) K_40 z_55.1 (by decide) (by decide)
          have KR_55 := kpR.tr (J := [3]) inv_26.2.1 z_55.2.1 (by decide) (by decide)
          have E_55 : (I_40 10).toInt = (I 10).toInt := congrArg Int32.toInt (K_40 10 (by decide))
          have G_55 : I_55 14 = bI gg := (z_55.1 14 (by decide)).trans G_40
          refine lv_if_ne (tgt := 63) hx hb dX9_takesMonths_58 (by decide) (fun c_58 => ?_) (fun c_58 => ?_)
          · skip
            rw [z_55.2.2.1] at c_58
            have k_58 := bI_t.mp c_58
            have P_55 : (I_55 11).toInt = (num T ((I_L26 11).toInt + 1)).2 := (z_55.2.2.2.1 k_58).1
            have Q_55 : eq33 (R_55 3) (upd qq ((1 + (14 - (k : Int)))).toNat (i3 (num T ((I_L26 11).toInt + 1)).1)) := by rw [(z_55.2.2.2.1 k_58).2]; exact eq33.up inv_26.2.2.1
            have B_55 : ((I_L26 11).toInt + 1) < (num T ((I_L26 11).toInt + 1)).2 ∧ (num T ((I_L26 11).toInt + 1)).2 ≤ (I 10).toInt := ⟨num_gt k_58, by omega⟩
            refine lv_aload_n hx hb dX9_takesMonths_63 rfl (lv_at hl 0 rfl) ?_
            refine mg_read X w dX9_takesMonths_64 ?_
            refine lv_iconst (v := 0) hx hb dX9_takesMonths_67 (by decide) ?_
            refine lv_dup2_11 hx hb dX9_takesMonths_68 rfl rfl ?_
            refine ml_read X w (g_in (show (0 : Int32).toInt = 0 from rfl) (by omega)) dX9_takesMonths_69 ?_
            refine q_topE (y := R_55 3 (0 : Int).toNat) (congrArg (R_55 3) (g_tn (show (0 : Int32).toInt = 0 from rfl))) ?_
            have e5 : R_55 3 (0 : Int).toNat = qq 0 := (Q_55 0 (by decide)).trans (upd_n _ _ (by omega))
            refine lv_iconst (v := 1) hx hb dX9_takesMonths_70 (by decide) ?_
            refine lv_iadd hx hb dX9_takesMonths_71 ?_
            refine lv_topi (fun x_71 e_71 => ?_)
            have p_71 : x_71.toInt = ((14 - (k : Int)) + 1) := by rw [e_71]; exact t_add ((congrArg Int32.toInt e5).trans inv_26.2.2.2.2.2.1.1) (show (1 : Int32).toInt = 1 from rfl) (by omega) (by omega)
            refine ms_read (x := x_71) X w (g_in (show (0 : Int32).toInt = 0 from rfl) (by omega)) dX9_takesMonths_72 (fun H locs w => ?_)
            rw [g_tn (show (0 : Int32).toInt = 0 from rfl)] at w
            refine lv_goto (tgt := 26) hx hb dX9_takesMonths_73 (by decide) ?_
            refine ih_26 ⟨(k - 1), (upd (upd qq ((1 + (14 - (k : Int)))).toNat (i3 (num T ((I_L26 11).toInt + 1)).1)) 0 x_71), I_55, (va_up R_55 3 (upd (R_55 3) (0 : Int).toNat x_71))⟩ (by dsimp only; have ek : k = k - 1 + 1 := (by omega); refine ⟨K_55, kpR.up (J := [3]) KR_55 (by decide), eq33.up Q_55, G_55, by omega, ?_, ?_⟩; (rw [upd_s]; exact ⟨by omega, by omega⟩); (have e := inv_26.2.2.2.2.2.2; rw [ek, sMore, if_pos k_43, if_pos k_58] at e; rw [P_55, ← e, show x_71 = qq 0 + 1 by rw [e_71, e5], show (1 + (14 - (k : Int))).toNat = 14 - (k - 1) by omega])) (by dsimp only; omega) _ _ w ls (lv_sub hl [0] rfl)
          · skip
            rw [z_55.2.2.1] at c_58
            have k_58 := bI_f.mp c_58
            have P_55 : (I_55 11).toInt = ((I_L26 11).toInt + 1) := (z_55.2.2.2.2.1 k_58).1
            have Q_55 : eq33 (R_55 3) qq := by rw [(z_55.2.2.2.2.1 k_58).2]; exact inv_26.2.2.1
            refine lv_iconst (v := 0) hx hb dX9_takesMonths_61 (by decide) ?_
            exact q_cret (post := (fun z n1 σ1 => n1 = n ∧ ∃ I1 R1, σ1 = mS t b σ0 I1 R1 ∧ kpI [11, 13, 14] I I1 ∧ kpR [3] Rw R1 ∧ z = bI (sMonths T po q gg).1 ∧ (I1 11).toInt = (sMonths T po q gg).2.1 ∧ (po ≤ (sMonths T po q gg).2.1 ∧ (sMonths T po q gg).2.1 ≤ (I 10).toInt) ∧ ((sMonths T po q gg).1 = true → eq33 (R1 3) (sMonths T po q gg).2.2.1 ∧ I1 14 = bI (sMonths T po q gg).2.2.2))) X w dX9_takesMonths_62 (rfl) ⟨rfl, _, _, rfl, by have e : (sMonths T po q gg).1 = false ∧ (sMonths T po q gg).2.1 = ((I_L26 11).toInt + 1) := (by unfold sMonths; rw [if_pos k_6, if_pos k_14, ← inv_26.2.2.2.2.2.2, show k = k - 1 + 1 by omega, sMore, if_pos k_43, if_neg k_58]; exact ⟨rfl, rfl⟩); exact ⟨K_55, KR_55, (by rw [e.1]; rfl), (by rw [e.2]; exact P_55), (by rw [e.2]; omega), fun h => absurd (h.symm.trans e.1) (by decide)⟩⟩
    · skip
      rw [z_11.2.2.1] at c_14
      have k_14 := bI_f.mp c_14
      have P_11 : (I_11 11).toInt = (po + 1) := (z_11.2.2.2.2.1 k_14).1
      have Q_11 : eq33 (R_11 3) q := by rw [(z_11.2.2.2.2.1 k_14).2]; exact h_4
      refine lv_iconst (v := 0) hx hb dX9_takesMonths_17 (by decide) ?_
      exact q_cret (post := (fun z n1 σ1 => n1 = n ∧ ∃ I1 R1, σ1 = mS t b σ0 I1 R1 ∧ kpI [11, 13, 14] I I1 ∧ kpR [3] Rw R1 ∧ z = bI (sMonths T po q gg).1 ∧ (I1 11).toInt = (sMonths T po q gg).2.1 ∧ (po ≤ (sMonths T po q gg).2.1 ∧ (sMonths T po q gg).2.1 ≤ (I 10).toInt) ∧ ((sMonths T po q gg).1 = true → eq33 (R1 3) (sMonths T po q gg).2.2.1 ∧ I1 14 = bI (sMonths T po q gg).2.2.2))) X w dX9_takesMonths_18 (rfl) ⟨rfl, _, _, rfl, by have e : (sMonths T po q gg).1 = false ∧ (sMonths T po q gg).2.1 = (po + 1) := (by unfold sMonths; rw [if_pos k_6, if_neg k_14]; exact ⟨rfl, rfl⟩); exact ⟨K_11, KR_11, (by rw [e.1]; rfl), (by rw [e.2]; exact P_11), (by rw [e.2]; omega), fun h => absurd (h.symm.trans e.1) (by decide)⟩⟩

set_option maxHeartbeats 4000000 in
set_option maxRecDepth 100000 in
theorem c_X9_takesFirst (l : Launch) (D : va_G) (t : Nat → ClassId) (b n : Nat) (σ0 : qM) (I : Nat → Int32) (Rw : Nat → Nat → Int32) (T : Int → Int) (po : Int) (q : Nat → Int32) (gg : Bool) (h_1 : T = tx I Rw) (h_2 : (I 11).toInt = po) (h_3 : 0 ≤ po ∧ po ≤ (I 10).toInt ∧ (I 10).toInt ≤ 100) (h_4 : eq33 (Rw 3) q) (h_5 : I 14 = bI gg) : mC l yX9_takesFirst cX9_takesFirst 2 (some .boolean) 3 D t b n σ0 I Rw [.ref (b + 45)] (fun z I1 R1 => kpI [11, 13, 14] I I1 ∧ kpR [3] Rw R1 ∧ z = bI (sFirst T po q gg).1 ∧ (I1 11).toInt = (sFirst T po q gg).2.1 ∧ (po ≤ (sFirst T po q gg).2.1 ∧ (sFirst T po q gg).2.1 ≤ (I 10).toInt) ∧ ((sFirst T po q gg).1 = true → eq33 (R1 3) (sFirst T po q gg).2.2.1 ∧ I1 14 = bI (sFirst T po q gg).2.2.2)) := by
  refine qC.of (by decide +kernel) (Nat.le_of_ble_eq_true rfl) (fun p e s m args below meth c X w ls hl => ?_)
  have hx := X.1
  have hb := X.2.1
  have hl : lv_has ls 2 [(0, .ref (b + 45))] := hl
  refine lv_aload_n hx hb dX9_takesFirst_0 rfl (lv_at hl 0 rfl) ?_
  refine lv_bipush (v := 59) hx hb dX9_takesFirst_1 (by decide) ?_
  refine mm_cCI X w (c_X9_skips l D t b n σ0 I Rw T po 59 59 (show (59 : Int32).toInt = 59 from rfl) (by exact h_1.trans (tx_cg ((kpI.rf (J := [11,13,14]) (I := I)) 10 (by decide)) ((kpR.rf (J := [3]) (R := Rw)) 9 (by decide)))) (by exact h_2) (by have e10 := congrArg Int32.toInt ((kpI.rf (J := [11,13,14]) (I := I)) 10 (by decide)); exact ⟨by omega, by rw [show (I 10).toInt = (I 10).toInt from e10]; omega, by rw [show (I 10).toInt = (I 10).toInt from e10]; omega⟩) (by decide)) v_X9_160 rfl rfl ⟨Nat.le_of_ble_eq_true rfl, Nat.le_of_ble_eq_true rfl⟩ rfl hl.1 (Nat.le_of_ble_eq_true rfl) dX9_takesFirst_3 ⟨Nat.zero_le _, Nat.zero_le _⟩ (fun r_3 I_3 H locs z_3 w => ?_)
  have K_3 := kpI.tr (J := [11,13,14]) (kpI.rf (J := [11,13,14]) (I := I)) z_3.1 (by decide) (by decide)
  have E_3 : (I 10).toInt = (I 10).toInt := congrArg Int32.toInt ((kpI.rf (J := [11,13,14]) (I := I)) 10 (by decide))
  have G_3 : I_3 14 = bI gg := (z_3.1 14 (by decide)).trans h_5
  refine lv_if_eq (tgt := 18) hx hb dX9_takesFirst_6 (by decide) (fun c_6 => ?_) (fun c_6 => ?_)
  · skip
    rw [z_3.2.1] at c_6
    have k_6 := bI_f.mp c_6
    have P_3 : (I_3 11).toInt = po := z_3.2.2.2.1 k_6
    refine lv_iconst (v := 0) hx hb dX9_takesFirst_18 (by decide) ?_
    exact q_cret (post := (fun z n1 σ1 => n1 = n ∧ ∃ I1 R1, σ1 = mS t b σ0 I1 R1 ∧ kpI [11, 13, 14] I I1 ∧ kpR [3] Rw R1 ∧ z = bI (sFirst T po q gg).1 ∧ (I1 11).toInt = (sFirst T po q gg).2.1 ∧ (po ≤ (sFirst T po q gg).2.1 ∧ (sFirst T po q gg).2.1 ≤ (I 10).toInt) ∧ ((sFirst T po q gg).1 = true → eq33 (R1 3) (sFirst T po q gg).2.2.1 ∧ I1 14 = bI (sFirst T po q gg).2.2.2))) X w dX9_takesFirst_19 (rfl) ⟨rfl, _, _, rfl, by have e : (sFirst T po q gg).1 = false ∧ (sFirst T po q gg).2.1 = po := (by unfold sFirst; rw [if_neg k_6]; exact ⟨rfl, rfl⟩); exact ⟨K_3, (kpR.rf (J := [3]) (R := Rw)), (by rw [e.1]; rfl), (by rw [e.2]; exact P_3), (by rw [e.2]; omega), fun h => absurd (h.symm.trans e.1) (by decide)⟩⟩
  · skip
    rw [z_3.2.1] at c_6
    have k_6 := bI_t.mp c_6
    have P_3 : (I_3 11).toInt = (po + 1) := z_3.2.2.1 k_6
    have B_3 : (po + 1) ≤ (I 10).toInt := by omega
    refine lv_aload_n hx hb dX9_takesFirst_9 rfl (lv_at hl 0 rfl) ?_
    refine lv_bipush (v := 101) hx hb dX9_takesFirst_10 (by decide) ?_
    refine mm_cCI X w (c_X9_skips l D t b n σ0 I_3 Rw T (po + 1) 101 101 (show (101 : Int32).toInt = 101 from rfl) (by exact h_1.trans (tx_cg (K_3 10 (by decide)) ((kpR.rf (J := [3]) (R := Rw)) 9 (by decide)))) (by exact P_3) (by have e10 := congrArg Int32.toInt (K_3 10 (by decide)); exact ⟨by omega, by rw [show (I_3 10).toInt = (I 10).toInt from e10]; omega, by rw [show (I_3 10).toInt = (I 10).toInt from e10]; omega⟩) (by decide)) v_X9_160 rfl rfl ⟨Nat.le_of_ble_eq_true rfl, Nat.le_of_ble_eq_true rfl⟩ rfl hl.1 (Nat.le_of_ble_eq_true rfl) dX9_takesFirst_12 ⟨Nat.zero_le _, Nat.zero_le _⟩ (fun r_12 I_12 H locs z_12 w => ?_)
    have K_12 := kpI.tr (J := [11,13,14]) K_3 z_12.1 (by decide) (by decide)
    have E_12 : (I_3 10).toInt = (I 10).toInt := congrArg Int32.toInt (K_3 10 (by decide))
    have G_12 : I_12 14 = bI gg := (z_12.1 14 (by decide)).trans G_3
    refine lv_if_ne (tgt := 20) hx hb dX9_takesFirst_15 (by decide) (fun c_15 => ?_) (fun c_15 => ?_)
    · skip
      rw [z_12.2.1] at c_15
      have k_15 := bI_t.mp c_15
      have P_12 : (I_12 11).toInt = ((po + 1) + 1) := z_12.2.2.1 k_15
      have B_12 : ((po + 1) + 1) ≤ (I 10).toInt := by omega
      refine lv_aload_n hx hb dX9_takesFirst_20 rfl (lv_at hl 0 rfl) ?_
      refine lv_bipush (v := 45) hx hb dX9_takesFirst_21 (by decide) ?_
      refine mm_cCI X w (c_X9_skips l D t b n σ0 I_12 Rw T ((po + 1) + 1) 45 45 (show (45 : Int32).toInt = 45 from rfl) (by exact h_1.trans (tx_cg (K_12 10 (by decide)) ((kpR.rf (J := [3]) (R := Rw)) 9 (by decide)))) (by exact P_12) (by have e10 := congrArg Int32.toInt (K_12 10 (by decide)); exact ⟨by omega, by rw [show (I_12 10).toInt = (I 10).toInt from e10]; omega, by rw [show (I_12 10).toInt = (I 10).toInt from e10]; omega⟩) (by decide)) v_X9_160 rfl rfl ⟨Nat.le_of_ble_eq_true rfl, Nat.le_of_ble_eq_true rfl⟩ rfl hl.1 (Nat.le_of_ble_eq_true rfl) dX9_takesFirst_23 ⟨Nat.zero_le _, Nat.zero_le _⟩ (fun r_23 I_23 H locs z_23 w => ?_)
      have K_23 := kpI.tr (J := [11,13,14]) K_12 z_23.1 (by decide) (by decide)
      have E_23 : (I_12 10).toInt = (I 10).toInt := congrArg Int32.toInt (K_12 10 (by decide))
      have G_23 : I_23 14 = bI gg := (z_23.1 14 (by decide)).trans G_12
      refine lv_istore_n (lv' := [(1, .int r_23), (0, .ref (b + 45))]) hx hb dX9_takesFirst_26 rfl hl (by decide) rfl (fun ls hl => ?_)
      have P_23 : (I_23 11).toInt = (if T (po + 1 + 1) = 45 then po + 1 + 1 + 1 else po + 1 + 1) := by by_cases q : T (po + 1 + 1) = 45; (rw [if_pos q]; exact z_23.2.2.1 q); (rw [if_neg q]; exact z_23.2.2.2.1 q)
      have B_23 : po + 1 + 1 ≤ (if T (po + 1 + 1) = 45 then po + 1 + 1 + 1 else po + 1 + 1) ∧ (if T (po + 1 + 1) = 45 then po + 1 + 1 + 1 else po + 1 + 1) ≤ (I 10).toInt := by rw [← P_23]; exact ⟨by omega, by omega⟩
      refine lv_aload_n hx hb dX9_takesFirst_27 rfl (lv_at hl 1 rfl) ?_
      refine lv_bipush (v := 15) hx hb dX9_takesFirst_28 (by decide) ?_
      refine mm_cC X w (c_X9_takes l D t b n σ0 I_23 Rw T (if T (po + 1 + 1) = 45 then po + 1 + 1 + 1 else po + 1 + 1) 15 15 (show (15 : Int32).toInt = 15 from rfl) (by exact h_1.trans (tx_cg (K_23 10 (by decide)) ((kpR.rf (J := [3]) (R := Rw)) 9 (by decide)))) (by exact P_23) (by have e10 := congrArg Int32.toInt (K_23 10 (by decide)); exact ⟨by omega, by rw [show (I_23 10).toInt = (I 10).toInt from e10]; omega, by rw [show (I_23 10).toInt = (I 10).toInt from e10]; omega⟩) (by decide)) v_X9_163 rfl rfl ⟨Nat.le_of_ble_eq_true rfl, Nat.le_of_ble_eq_true rfl⟩ rfl hl.1 (Nat.le_of_ble_eq_true rfl) dX9_takesFirst_30 ⟨Nat.zero_le _, Nat.zero_le _⟩ (fun r_30 I_30 R_30 H locs z_30 w => ?_)
      have K_30 := kpI.tr (J := [11,13,14]) K_23 z_30.1 (by decide) (by decide)
      have KR_30 := kpR.tr (J := [3]) (kpR.rf (J := [3]) (R := Rw)) z_30.2.1 (by decide) (by decide)
      have E_30 : (I_23 10).toInt = (I 10).toInt := congrArg Int32.toInt (K_23 10 (by decide))
      have G_30 : I_30 14 = bI gg := (z_30.1 14 (by decide)).trans G_23
      refine lv_if_ne (tgt := 38) hx hb dX9_takesFirst_33 (by decide) (fun c_33 => ?_) (fun c_33 => ?_)
      · skip
        rw [z_30.2.2.1] at c_33
        have k_33 := bI_t.mp c_33
        have P_30 : (I_30 11).toInt = (num T (if T (po + 1 + 1) = 45 then po + 1 + 1 + 1 else po + 1 + 1)).2 := (z_30.2.2.2.1 k_33).1
        have Q_30 : eq33 (R_30 3) (upd q 15 (i3 (num T (if T (po + 1 + 1) = 45 then po + 1 + 1 + 1 else po + 1 + 1)).1)) := by rw [(z_30.2.2.2.1 k_33).2]; exact eq33.up h_4
        have B_30 : (if T (po + 1 + 1) = 45 then po + 1 + 1 + 1 else po + 1 + 1) < (num T (if T (po + 1 + 1) = 45 then po + 1 + 1 + 1 else po + 1 + 1)).2 ∧ (num T (if T (po + 1 + 1) = 45 then po + 1 + 1 + 1 else po + 1 + 1)).2 ≤ (I 10).toInt := ⟨num_gt k_33, by omega⟩
        refine lv_aload_n hx hb dX9_takesFirst_38 rfl (lv_at hl 1 rfl) ?_
        refine mg_read X w dX9_takesFirst_39 ?_
        refine lv_bipush (v := 15) hx hb dX9_takesFirst_42 (by decide) ?_
        refine lv_iload_n hx hb dX9_takesFirst_44 rfl (lv_at hl 0 rfl) ?_
        refine lv_if_eq (tgt := 59) hx hb dX9_takesFirst_45 (by decide) (fun c_45 => ?_) (fun c_45 => ?_)
        · skip
          rw [z_23.2.1] at c_45
          have k_45 := bI_f.mp c_45
          refine lv_aload_n hx hb dX9_takesFirst_59 rfl (lv_at hl 1 rfl) ?_
          refine mg_read X w dX9_takesFirst_60 ?_
          refine lv_bipush (v := 15) hx hb dX9_takesFirst_63 (by decide) ?_
          refine ml_read X w (g_in (show (15 : Int32).toInt = 15 from rfl) (by omega)) dX9_takesFirst_65 ?_
          refine q_topE (y := R_30 3 (15 : Int).toNat) (congrArg (R_30 3) (g_tn (show (15 : Int32).toInt = 15 from rfl))) ?_
          have e5 : R_30 3 (15 : Int).toNat = i3 (num T (if T (po + 1 + 1) = 45 then po + 1 + 1 + 1 else po + 1 + 1)).1 := (Q_30 15 (by decide)).trans (upd_s _ _ _)
          refine ms_read (x := (R_30 3 (15 : Int).toNat)) X w (g_in (show (15 : Int32).toInt = 15 from rfl) (by omega)) dX9_takesFirst_66 (fun H locs w => ?_)
          rw [g_tn (show (15 : Int32).toInt = 15 from rfl)] at w
          refine lv_iconst (v := 1) hx hb dX9_takesFirst_67 (by decide) ?_
          exact q_cret (post := (fun z n1 σ1 => n1 = n ∧ ∃ I1 R1, σ1 = mS t b σ0 I1 R1 ∧ kpI [11, 13, 14] I I1 ∧ kpR [3] Rw R1 ∧ z = bI (sFirst T po q gg).1 ∧ (I1 11).toInt = (sFirst T po q gg).2.1 ∧ (po ≤ (sFirst T po q gg).2.1 ∧ (sFirst T po q gg).2.1 ≤ (I 10).toInt) ∧ ((sFirst T po q gg).1 = true → eq33 (R1 3) (sFirst T po q gg).2.2.1 ∧ I1 14 = bI (sFirst T po q gg).2.2.2))) X w dX9_takesFirst_68 (rfl) ⟨rfl, _, _, rfl, by have e : sFirst T po q gg = (true, (num T (if T (po + 1 + 1) = 45 then po + 1 + 1 + 1 else po + 1 + 1)).2, (upd (upd q 15 (i3 (num T (if T (po + 1 + 1) = 45 then po + 1 + 1 + 1 else po + 1 + 1)).1)) 15 (R_30 3 (15 : Int).toNat)), gg) := (by unfold sFirst; rw [if_pos k_6, if_pos k_15, if_pos k_33]; simp only [if_neg k_45, e5]); rw [e]; exact ⟨K_30, (kpR.up (J := [3]) KR_30 (by decide)), rfl, P_30, (by show po ≤ (num T (if T (po + 1 + 1) = 45 then po + 1 + 1 + 1 else po + 1 + 1)).2 ∧ (num T (if T (po + 1 + 1) = 45 then po + 1 + 1 + 1 else po + 1 + 1)).2 ≤ _; omega), fun _ => ⟨(eq33.up Q_30), G_30⟩⟩⟩
        · skip
          rw [z_23.2.1] at c_45
          have k_45 := bI_t.mp c_45
          refine lv_aload_n hx hb dX9_takesFirst_48 rfl (lv_at hl 1 rfl) ?_
          refine mg_read X w dX9_takesFirst_49 ?_
          refine lv_bipush (v := 15) hx hb dX9_takesFirst_52 (by decide) ?_
          refine ml_read X w (g_in (show (15 : Int32).toInt = 15 from rfl) (by omega)) dX9_takesFirst_54 ?_
          refine q_topE (y := R_30 3 (15 : Int).toNat) (congrArg (R_30 3) (g_tn (show (15 : Int32).toInt = 15 from rfl))) ?_
          have e5 : R_30 3 (15 : Int).toNat = i3 (num T (if T (po + 1 + 1) = 45 then po + 1 + 1 + 1 else po + 1 + 1)).1 := (Q_30 15 (by decide)).trans (upd_s _ _ _)
          refine lv_ineg hx hb dX9_takesFirst_55 ?_
          refine lv_goto (tgt := 66) hx hb dX9_takesFirst_56 (by decide) ?_
          refine ms_read (x := (-(R_30 3 (15 : Int).toNat))) X w (g_in (show (15 : Int32).toInt = 15 from rfl) (by omega)) dX9_takesFirst_66 (fun H locs w => ?_)
          rw [g_tn (show (15 : Int32).toInt = 15 from rfl)] at w
          refine lv_iconst (v := 1) hx hb dX9_takesFirst_67 (by decide) ?_
          exact q_cret (post := (fun z n1 σ1 => n1 = n ∧ ∃ I1 R1, σ1 = mS t b σ0 I1 R1 ∧ kpI [11, 13, 14] I I1 ∧ kpR [3] Rw R1 ∧ z = bI (sFirst T po q gg).1 ∧ (I1 11).toInt = (sFirst T po q gg).2.1 ∧ (po ≤ (sFirst T po q gg).2.1 ∧ (sFirst T po q gg).2.1 ≤ (I 10).toInt) ∧ ((sFirst T po q gg).1 = true → eq33 (R1 3) (sFirst T po q gg).2.2.1 ∧ I1 14 = bI (sFirst T po q gg).2.2.2))) X w dX9_takesFirst_68 (rfl) ⟨rfl, _, _, rfl, by have e : sFirst T po q gg = (true, (num T (if T (po + 1 + 1) = 45 then po + 1 + 1 + 1 else po + 1 + 1)).2, (upd (upd q 15 (i3 (num T (if T (po + 1 + 1) = 45 then po + 1 + 1 + 1 else po + 1 + 1)).1)) 15 (-(R_30 3 (15 : Int).toNat))), gg) := (by unfold sFirst; rw [if_pos k_6, if_pos k_15, if_pos k_33]; simp only [if_pos k_45, e5]); rw [e]; exact ⟨K_30, (kpR.up (J := [3]) KR_30 (by decide)), rfl, P_30, (by show po ≤ (num T (if T (po + 1 + 1) = 45 then po + 1 + 1 + 1 else po + 1 + 1)).2 ∧ (num T (if T (po + 1 + 1) = 45 then po + 1 + 1 + 1 else po + 1 + 1)).2 ≤ _; omega), fun _ => ⟨(eq33.up Q_30), G_30⟩⟩⟩
      · skip
        rw [z_30.2.2.1] at c_33
        have k_33 := bI_f.mp c_33
        have P_30 : (I_30 11).toInt = (if T (po + 1 + 1) = 45 then po + 1 + 1 + 1 else po + 1 + 1) := (z_30.2.2.2.2.1 k_33).1
        have Q_30 : eq33 (R_30 3) q := by rw [(z_30.2.2.2.2.1 k_33).2]; exact h_4
        refine lv_iconst (v := 0) hx hb dX9_takesFirst_36 (by decide) ?_
        exact q_cret (post := (fun z n1 σ1 => n1 = n ∧ ∃ I1 R1, σ1 = mS t b σ0 I1 R1 ∧ kpI [11, 13, 14] I I1 ∧ kpR [3] Rw R1 ∧ z = bI (sFirst T po q gg).1 ∧ (I1 11).toInt = (sFirst T po q gg).2.1 ∧ (po ≤ (sFirst T po q gg).2.1 ∧ (sFirst T po q gg).2.1 ≤ (I 10).toInt) ∧ ((sFirst T po q gg).1 = true → eq33 (R1 3) (sFirst T po q gg).2.2.1 ∧ I1 14 = bI (sFirst T po q gg).2.2.2))) X w dX9_takesFirst_37 (rfl) ⟨rfl, _, _, rfl, by have e : (sFirst T po q gg).1 = false ∧ (sFirst T po q gg).2.1 = (if T (po + 1 + 1) = 45 then po + 1 + 1 + 1 else po + 1 + 1) := (by unfold sFirst; rw [if_pos k_6, if_pos k_15, if_neg k_33]; exact ⟨rfl, rfl⟩); exact ⟨K_30, KR_30, (by rw [e.1]; rfl), (by rw [e.2]; exact P_30), (by rw [e.2]; omega), fun h => absurd (h.symm.trans e.1) (by decide)⟩⟩
    · skip
      rw [z_12.2.1] at c_15
      have k_15 := bI_f.mp c_15
      have P_12 : (I_12 11).toInt = (po + 1) := z_12.2.2.2.1 k_15
      refine lv_iconst (v := 0) hx hb dX9_takesFirst_18 (by decide) ?_
      exact q_cret (post := (fun z n1 σ1 => n1 = n ∧ ∃ I1 R1, σ1 = mS t b σ0 I1 R1 ∧ kpI [11, 13, 14] I I1 ∧ kpR [3] Rw R1 ∧ z = bI (sFirst T po q gg).1 ∧ (I1 11).toInt = (sFirst T po q gg).2.1 ∧ (po ≤ (sFirst T po q gg).2.1 ∧ (sFirst T po q gg).2.1 ≤ (I 10).toInt) ∧ ((sFirst T po q gg).1 = true → eq33 (R1 3) (sFirst T po q gg).2.2.1 ∧ I1 14 = bI (sFirst T po q gg).2.2.2))) X w dX9_takesFirst_19 (rfl) ⟨rfl, _, _, rfl, by have e : (sFirst T po q gg).1 = false ∧ (sFirst T po q gg).2.1 = (po + 1) := (by unfold sFirst; rw [if_pos k_6, if_neg k_15]; exact ⟨rfl, rfl⟩); exact ⟨K_12, (kpR.rf (J := [3]) (R := Rw)), (by rw [e.1]; rfl), (by rw [e.2]; exact P_12), (by rw [e.2]; omega), fun h => absurd (h.symm.trans e.1) (by decide)⟩⟩

set_option maxHeartbeats 4000000 in
set_option maxRecDepth 100000 in
theorem c_X9_takesLeap (l : Launch) (D : va_G) (t : Nat → ClassId) (b n : Nat) (σ0 : qM) (I : Nat → Int32) (Rw : Nat → Nat → Int32) (T : Int → Int) (po : Int) (q : Nat → Int32) (gg : Bool) (h_1 : T = tx I Rw) (h_2 : (I 11).toInt = po) (h_3 : 0 ≤ po ∧ po ≤ (I 10).toInt ∧ (I 10).toInt ≤ 100) (h_4 : eq33 (Rw 3) q) (h_5 : I 14 = bI gg) : mC l yX9_takesLeap cX9_takesLeap 1 (some .boolean) 3 D t b n σ0 I Rw [.ref (b + 45)] (fun z I1 R1 => kpI [11, 13, 14] I I1 ∧ kpR [3] Rw R1 ∧ z = bI (sLeap T po q gg).1 ∧ (I1 11).toInt = (sLeap T po q gg).2.1 ∧ (po ≤ (sLeap T po q gg).2.1 ∧ (sLeap T po q gg).2.1 ≤ (I 10).toInt) ∧ ((sLeap T po q gg).1 = true → eq33 (R1 3) (sLeap T po q gg).2.2.1 ∧ I1 14 = bI (sLeap T po q gg).2.2.2)) := by
  refine qC.of (by decide +kernel) (Nat.le_of_ble_eq_true rfl) (fun p e s m args below meth c X w ls hl => ?_)
  have hx := X.1
  have hb := X.2.1
  have hl : lv_has ls 1 [(0, .ref (b + 45))] := hl
  refine lv_aload_n hx hb dX9_takesLeap_0 rfl (lv_at hl 0 rfl) ?_
  refine lv_bipush (v := 100) hx hb dX9_takesLeap_1 (by decide) ?_
  refine mm_cCI X w (c_X9_begins l D t b n σ0 I Rw T po 100 100 (show (100 : Int32).toInt = 100 from rfl) (by exact h_1.trans (tx_cg ((kpI.rf (J := [11,13,14]) (I := I)) 10 (by decide)) ((kpR.rf (J := [3]) (R := Rw)) 9 (by decide)))) (by exact h_2) (by have e10 := congrArg Int32.toInt ((kpI.rf (J := [11,13,14]) (I := I)) 10 (by decide)); exact ⟨by omega, by rw [show (I 10).toInt = (I 10).toInt from e10]; omega, by rw [show (I 10).toInt = (I 10).toInt from e10]; omega⟩) (by decide)) v_X9_166 rfl rfl ⟨Nat.le_of_ble_eq_true rfl, Nat.le_of_ble_eq_true rfl⟩ rfl hl.1 (Nat.le_of_ble_eq_true rfl) dX9_takesLeap_3 ⟨Nat.zero_le _, Nat.zero_le _⟩ (fun r_3 I_3 H locs z_3 w => ?_)
  have K_3 := kpI.tr (J := [11,13,14]) (kpI.rf (J := [11,13,14]) (I := I)) z_3.1 (by decide) (by decide)
  have E_3 : (I 10).toInt = (I 10).toInt := congrArg Int32.toInt ((kpI.rf (J := [11,13,14]) (I := I)) 10 (by decide))
  have G_3 : I_3 14 = bI gg := (z_3.1 14 (by decide)).trans h_5
  refine lv_if_eq (tgt := 24) hx hb dX9_takesLeap_6 (by decide) (fun c_6 => ?_) (fun c_6 => ?_)
  · skip
    rw [z_3.2.1] at c_6
    have k_6 := bI_f.mp c_6
    have P_3 : (I_3 11).toInt = po := z_3.2.2.2.1 k_6
    refine lv_aload_n hx hb dX9_takesLeap_24 rfl (lv_at hl 0 rfl) ?_
    refine lv_bipush (v := 105) hx hb dX9_takesLeap_25 (by decide) ?_
    refine mm_cCI X w (c_X9_begins l D t b n σ0 I_3 Rw T po 105 105 (show (105 : Int32).toInt = 105 from rfl) (by exact h_1.trans (tx_cg (K_3 10 (by decide)) ((kpR.rf (J := [3]) (R := Rw)) 9 (by decide)))) (by exact P_3) (by have e10 := congrArg Int32.toInt (K_3 10 (by decide)); exact ⟨by omega, by rw [show (I_3 10).toInt = (I 10).toInt from e10]; omega, by rw [show (I_3 10).toInt = (I 10).toInt from e10]; omega⟩) (by decide)) v_X9_166 rfl rfl ⟨Nat.le_of_ble_eq_true rfl, Nat.le_of_ble_eq_true rfl⟩ rfl hl.1 (Nat.le_of_ble_eq_true rfl) dX9_takesLeap_27 ⟨Nat.zero_le _, Nat.zero_le _⟩ (fun r_27 I_27 H locs z_27 w => ?_)
    have K_27 := kpI.tr (J := [11,13,14]) K_3 z_27.1 (by decide) (by decide)
    have E_27 : (I_3 10).toInt = (I 10).toInt := congrArg Int32.toInt (K_3 10 (by decide))
    have G_27 : I_27 14 = bI gg := (z_27.1 14 (by decide)).trans G_3
    refine lv_if_ne (tgt := 35) hx hb dX9_takesLeap_30 (by decide) (fun c_30 => ?_) (fun c_30 => ?_)
    · skip
      rw [z_27.2.1] at c_30
      have k_30 := bI_t.mp c_30
      have P_27 : (I_27 11).toInt = (po + 2) := z_27.2.2.1 k_30
      have B_27 : (po + 2) ≤ (I 10).toInt := by omega
      refine lv_aload_n hx hb dX9_takesLeap_35 rfl (lv_at hl 0 rfl) ?_
      refine mg_read X w dX9_takesLeap_36 ?_
      refine lv_bipush (v := 16) hx hb dX9_takesLeap_39 (by decide) ?_
      refine lv_iconst (v := 2) hx hb dX9_takesLeap_41 (by decide) ?_
      refine ms_read (x := 2) X w (g_in (show (16 : Int32).toInt = 16 from rfl) (by omega)) dX9_takesLeap_42 (fun H locs w => ?_)
      rw [g_tn (show (16 : Int32).toInt = 16 from rfl)] at w
      refine lv_aload_n hx hb dX9_takesLeap_43 rfl (lv_at hl 0 rfl) ?_
      refine lv_bipush (v := 17) hx hb dX9_takesLeap_44 (by decide) ?_
      refine mm_cC X w (c_X9_takes l D t b n σ0 I_27 (va_up Rw 3 (upd (Rw 3) (16 : Int).toNat 2)) T (po + 2) 17 17 (show (17 : Int32).toInt = 17 from rfl) (by exact h_1.trans (tx_cg (K_27 10 (by decide)) ((kpR.up (J := [3]) (kpR.rf (J := [3]) (R := Rw)) (by decide)) 9 (by decide)))) (by exact P_27) (by have e10 := congrArg Int32.toInt (K_27 10 (by decide)); exact ⟨by omega, by rw [show (I_27 10).toInt = (I 10).toInt from e10]; omega, by rw [show (I_27 10).toInt = (I 10).toInt from e10]; omega⟩) (by decide)) v_X9_163 rfl rfl ⟨Nat.le_of_ble_eq_true rfl, Nat.le_of_ble_eq_true rfl⟩ rfl hl.1 (Nat.le_of_ble_eq_true rfl) dX9_takesLeap_46 ⟨Nat.zero_le _, Nat.zero_le _⟩ (fun r_46 I_46 R_46 H locs z_46 w => ?_)
      have K_46 := kpI.tr (J := [11,13,14]) K_27 z_46.1 (by decide) (by decide)
      have KR_46 := kpR.tr (J := [3]) (kpR.up (J := [3]) (kpR.rf (J := [3]) (R := Rw)) (by decide)) z_46.2.1 (by decide) (by decide)
      have E_46 : (I_27 10).toInt = (I 10).toInt := congrArg Int32.toInt (K_27 10 (by decide))
      have G_46 : I_46 14 = bI gg := (z_46.1 14 (by decide)).trans G_27
      refine lv_if_eq (tgt := 74) hx hb dX9_takesLeap_49 (by decide) (fun c_49 => ?_) (fun c_49 => ?_)
      · skip
        rw [z_46.2.2.1] at c_49
        have k_49 := bI_f.mp c_49
        have P_46 : (I_46 11).toInt = (po + 2) := (z_46.2.2.2.2.1 k_49).1
        have Q_46 : eq33 (R_46 3) (upd q 16 2) := by rw [(z_46.2.2.2.2.1 k_49).2]; exact (eq33.up h_4)
        refine lv_iconst (v := 0) hx hb dX9_takesLeap_74 (by decide) ?_
        exact q_cret (post := (fun z n1 σ1 => n1 = n ∧ ∃ I1 R1, σ1 = mS t b σ0 I1 R1 ∧ kpI [11, 13, 14] I I1 ∧ kpR [3] Rw R1 ∧ z = bI (sLeap T po q gg).1 ∧ (I1 11).toInt = (sLeap T po q gg).2.1 ∧ (po ≤ (sLeap T po q gg).2.1 ∧ (sLeap T po q gg).2.1 ≤ (I 10).toInt) ∧ ((sLeap T po q gg).1 = true → eq33 (R1 3) (sLeap T po q gg).2.2.1 ∧ I1 14 = bI (sLeap T po q gg).2.2.2))) X w dX9_takesLeap_75 (rfl) ⟨rfl, _, _, rfl, by have e : (sLeap T po q gg).1 = false ∧ (sLeap T po q gg).2.1 = (po + 2) := (by unfold sLeap; rw [if_neg k_6, if_pos k_30, if_neg k_49]; exact ⟨rfl, rfl⟩); exact ⟨K_46, KR_46, (by rw [e.1]; rfl), (by rw [e.2]; exact P_46), (by rw [e.2]; omega), fun h => absurd (h.symm.trans e.1) (by decide)⟩⟩
      · skip
        rw [z_46.2.2.1] at c_49
        have k_49 := bI_t.mp c_49
        have P_46 : (I_46 11).toInt = (num T (po + 2)).2 := (z_46.2.2.2.1 k_49).1
        have Q_46 : eq33 (R_46 3) (upd (upd q 16 2) 17 (i3 (num T (po + 2)).1)) := by rw [(z_46.2.2.2.1 k_49).2]; exact eq33.up (eq33.up h_4)
        have B_46 : (po + 2) < (num T (po + 2)).2 ∧ (num T (po + 2)).2 ≤ (I 10).toInt := ⟨num_gt k_49, by omega⟩
        refine lv_aload_n hx hb dX9_takesLeap_52 rfl (lv_at hl 0 rfl) ?_
        refine lv_bipush (v := 44) hx hb dX9_takesLeap_53 (by decide) ?_
        refine mm_cCI X w (c_X9_skips l D t b n σ0 I_46 R_46 T ((num T (po + 2)).2) 44 44 (show (44 : Int32).toInt = 44 from rfl) (by exact h_1.trans (tx_cg (K_46 10 (by decide)) (KR_46 9 (by decide)))) (by exact P_46) (by have e10 := congrArg Int32.toInt (K_46 10 (by decide)); exact ⟨by omega, by rw [show (I_46 10).toInt = (I 10).toInt from e10]; omega, by rw [show (I_46 10).toInt = (I 10).toInt from e10]; omega⟩) (by decide)) v_X9_160 rfl rfl ⟨Nat.le_of_ble_eq_true rfl, Nat.le_of_ble_eq_true rfl⟩ rfl hl.1 (Nat.le_of_ble_eq_true rfl) dX9_takesLeap_55 ⟨Nat.zero_le _, Nat.zero_le _⟩ (fun r_55 I_55 H locs z_55 w => ?_)
        have K_55 := kpI.tr (J := [11,13,14]) K_46 z_55.1 (by decide) (by decide)
        have E_55 : (I_46 10).toInt = (I 10).toInt := congrArg Int32.toInt (K_46 10 (by decide))
        have G_55 : I_55 14 = bI gg := (z_55.1 14 (by decide)).trans G_46
        refine lv_if_eq (tgt := 74) hx hb dX9_takesLeap_58 (by decide) (fun c_58 => ?_) (fun c_58 => ?_)
        · skip
          rw [z_55.2.1] at c_58
          have k_58 := bI_f.mp c_58
          have P_55 : (I_55 11).toInt = (num T (po + 2)).2 := z_55.2.2.2.1 k_58
          refine lv_iconst (v := 0) hx hb dX9_takesLeap_74 (by decide) ?_
          exact q_cret (post := (fun z n1 σ1 => n1 = n ∧ ∃ I1 R1, σ1 = mS t b σ0 I1 R1 ∧ kpI [11, 13, 14] I I1 ∧ kpR [3] Rw R1 ∧ z = bI (sLeap T po q gg).1 ∧ (I1 11).toInt = (sLeap T po q gg).2.1 ∧ (po ≤ (sLeap T po q gg).2.1 ∧ (sLeap T po q gg).2.1 ≤ (I 10).toInt) ∧ ((sLeap T po q gg).1 = true → eq33 (R1 3) (sLeap T po q gg).2.2.1 ∧ I1 14 = bI (sLeap T po q gg).2.2.2))) X w dX9_takesLeap_75 (rfl) ⟨rfl, _, _, rfl, by have e : (sLeap T po q gg).1 = false ∧ (sLeap T po q gg).2.1 = (num T (po + 2)).2 := (by unfold sLeap; rw [if_neg k_6, if_pos k_30, if_pos k_49, if_neg k_58]; exact ⟨rfl, rfl⟩); exact ⟨K_55, KR_46, (by rw [e.1]; rfl), (by rw [e.2]; exact P_55), (by rw [e.2]; omega), fun h => absurd (h.symm.trans e.1) (by decide)⟩⟩
        · skip
          rw [z_55.2.1] at c_58
          have k_58 := bI_t.mp c_58
          have P_55 : (I_55 11).toInt = ((num T (po + 2)).2 + 1) := z_55.2.2.1 k_58
          have B_55 : ((num T (po + 2)).2 + 1) ≤ (I 10).toInt := by omega
          refine lv_aload_n hx hb dX9_takesLeap_61 rfl (lv_at hl 0 rfl) ?_
          refine lv_bipush (v := 18) hx hb dX9_takesLeap_62 (by decide) ?_
          refine mm_cC X w (c_X9_takes l D t b n σ0 I_55 R_46 T ((num T (po + 2)).2 + 1) 18 18 (show (18 : Int32).toInt = 18 from rfl) (by exact h_1.trans (tx_cg (K_55 10 (by decide)) (KR_46 9 (by decide)))) (by exact P_55) (by have e10 := congrArg Int32.toInt (K_55 10 (by decide)); exact ⟨by omega, by rw [show (I_55 10).toInt = (I 10).toInt from e10]; omega, by rw [show (I_55 10).toInt = (I 10).toInt from e10]; omega⟩) (by decide)) v_X9_163 rfl rfl ⟨Nat.le_of_ble_eq_true rfl, Nat.le_of_ble_eq_true rfl⟩ rfl hl.1 (Nat.le_of_ble_eq_true rfl) dX9_takesLeap_64 ⟨Nat.zero_le _, Nat.zero_le _⟩ (fun r_64 I_64 R_64 H locs z_64 w => ?_)
          have K_64 := kpI.tr (J := [11,13,14]) K_55 z_64.1 (by decide) (by decide)
          have KR_64 := kpR.tr (J := [3]) KR_46 z_64.2.1 (by decide) (by decide)
          have E_64 : (I_55 10).toInt = (I 10).toInt := congrArg Int32.toInt (K_55 10 (by decide))
          have G_64 : I_64 14 = bI gg := (z_64.1 14 (by decide)).trans G_55
          refine lv_if_eq (tgt := 74) hx hb dX9_takesLeap_67 (by decide) (fun c_67 => ?_) (fun c_67 => ?_)
          · skip
            rw [z_64.2.2.1] at c_67
            have k_67 := bI_f.mp c_67
            have P_64 : (I_64 11).toInt = ((num T (po + 2)).2 + 1) := (z_64.2.2.2.2.1 k_67).1
            have Q_64 : eq33 (R_64 3) (upd (upd q 16 2) 17 (i3 (num T (po + 2)).1)) := by rw [(z_64.2.2.2.2.1 k_67).2]; exact Q_46
            refine lv_iconst (v := 0) hx hb dX9_takesLeap_74 (by decide) ?_
            exact q_cret (post := (fun z n1 σ1 => n1 = n ∧ ∃ I1 R1, σ1 = mS t b σ0 I1 R1 ∧ kpI [11, 13, 14] I I1 ∧ kpR [3] Rw R1 ∧ z = bI (sLeap T po q gg).1 ∧ (I1 11).toInt = (sLeap T po q gg).2.1 ∧ (po ≤ (sLeap T po q gg).2.1 ∧ (sLeap T po q gg).2.1 ≤ (I 10).toInt) ∧ ((sLeap T po q gg).1 = true → eq33 (R1 3) (sLeap T po q gg).2.2.1 ∧ I1 14 = bI (sLeap T po q gg).2.2.2))) X w dX9_takesLeap_75 (rfl) ⟨rfl, _, _, rfl, by have e : (sLeap T po q gg).1 = false ∧ (sLeap T po q gg).2.1 = ((num T (po + 2)).2 + 1) := (by unfold sLeap; rw [if_neg k_6, if_pos k_30, if_pos k_49, if_pos k_58, if_neg k_67]; exact ⟨rfl, rfl⟩); exact ⟨K_64, KR_64, (by rw [e.1]; rfl), (by rw [e.2]; exact P_64), (by rw [e.2]; omega), fun h => absurd (h.symm.trans e.1) (by decide)⟩⟩
          · skip
            rw [z_64.2.2.1] at c_67
            have k_67 := bI_t.mp c_67
            have P_64 : (I_64 11).toInt = (num T ((num T (po + 2)).2 + 1)).2 := (z_64.2.2.2.1 k_67).1
            have Q_64 : eq33 (R_64 3) (upd (upd (upd q 16 2) 17 (i3 (num T (po + 2)).1)) 18 (i3 (num T ((num T (po + 2)).2 + 1)).1)) := by rw [(z_64.2.2.2.1 k_67).2]; exact eq33.up Q_46
            have B_64 : ((num T (po + 2)).2 + 1) < (num T ((num T (po + 2)).2 + 1)).2 ∧ (num T ((num T (po + 2)).2 + 1)).2 ≤ (I 10).toInt := ⟨num_gt k_67, by omega⟩
            refine lv_iconst (v := 1) hx hb dX9_takesLeap_70 (by decide) ?_
            refine lv_goto (tgt := 75) hx hb dX9_takesLeap_71 (by decide) ?_
            exact q_cret (post := (fun z n1 σ1 => n1 = n ∧ ∃ I1 R1, σ1 = mS t b σ0 I1 R1 ∧ kpI [11, 13, 14] I I1 ∧ kpR [3] Rw R1 ∧ z = bI (sLeap T po q gg).1 ∧ (I1 11).toInt = (sLeap T po q gg).2.1 ∧ (po ≤ (sLeap T po q gg).2.1 ∧ (sLeap T po q gg).2.1 ≤ (I 10).toInt) ∧ ((sLeap T po q gg).1 = true → eq33 (R1 3) (sLeap T po q gg).2.2.1 ∧ I1 14 = bI (sLeap T po q gg).2.2.2))) X w dX9_takesLeap_75 (rfl) ⟨rfl, _, _, rfl, by have e : sLeap T po q gg = (true, (num T ((num T (po + 2)).2 + 1)).2, (upd (upd (upd q 16 2) 17 (i3 (num T (po + 2)).1)) 18 (i3 (num T ((num T (po + 2)).2 + 1)).1)), gg) := (by unfold sLeap; rw [if_neg k_6, if_pos k_30, if_pos k_49, if_pos k_58, if_pos k_67]); rw [e]; exact ⟨K_64, KR_64, rfl, P_64, (by show po ≤ (num T ((num T (po + 2)).2 + 1)).2 ∧ (num T ((num T (po + 2)).2 + 1)).2 ≤ _; omega), fun _ => ⟨Q_64, G_64⟩⟩⟩
    · skip
      rw [z_27.2.1] at c_30
      have k_30 := bI_f.mp c_30
      have P_27 : (I_27 11).toInt = po := z_27.2.2.2.1 k_30
      refine lv_iconst (v := 1) hx hb dX9_takesLeap_33 (by decide) ?_
      exact q_cret (post := (fun z n1 σ1 => n1 = n ∧ ∃ I1 R1, σ1 = mS t b σ0 I1 R1 ∧ kpI [11, 13, 14] I I1 ∧ kpR [3] Rw R1 ∧ z = bI (sLeap T po q gg).1 ∧ (I1 11).toInt = (sLeap T po q gg).2.1 ∧ (po ≤ (sLeap T po q gg).2.1 ∧ (sLeap T po q gg).2.1 ≤ (I 10).toInt) ∧ ((sLeap T po q gg).1 = true → eq33 (R1 3) (sLeap T po q gg).2.2.1 ∧ I1 14 = bI (sLeap T po q gg).2.2.2))) X w dX9_takesLeap_34 (rfl) ⟨rfl, _, _, rfl, by have e : sLeap T po q gg = (true, po, q, gg) := (by unfold sLeap; rw [if_neg k_6, if_neg k_30]); rw [e]; exact ⟨K_27, (kpR.rf (J := [3]) (R := Rw)), rfl, P_27, (by show po ≤ po ∧ po ≤ _; omega), fun _ => ⟨h_4, G_27⟩⟩⟩
  · skip
    rw [z_3.2.1] at c_6
    have k_6 := bI_t.mp c_6
    have P_3 : (I_3 11).toInt = (po + 2) := z_3.2.2.1 k_6
    have B_3 : (po + 2) ≤ (I 10).toInt := by omega
    refine lv_aload_n hx hb dX9_takesLeap_9 rfl (lv_at hl 0 rfl) ?_
    refine mg_read X w dX9_takesLeap_10 ?_
    refine lv_bipush (v := 16) hx hb dX9_takesLeap_13 (by decide) ?_
    refine lv_iconst (v := 1) hx hb dX9_takesLeap_15 (by decide) ?_
    refine ms_read (x := 1) X w (g_in (show (16 : Int32).toInt = 16 from rfl) (by omega)) dX9_takesLeap_16 (fun H locs w => ?_)
    rw [g_tn (show (16 : Int32).toInt = 16 from rfl)] at w
    refine lv_aload_n hx hb dX9_takesLeap_17 rfl (lv_at hl 0 rfl) ?_
    refine lv_bipush (v := 17) hx hb dX9_takesLeap_18 (by decide) ?_
    refine mm_cC X w (c_X9_takes l D t b n σ0 I_3 (va_up Rw 3 (upd (Rw 3) (16 : Int).toNat 1)) T (po + 2) 17 17 (show (17 : Int32).toInt = 17 from rfl) (by exact h_1.trans (tx_cg (K_3 10 (by decide)) ((kpR.up (J := [3]) (kpR.rf (J := [3]) (R := Rw)) (by decide)) 9 (by decide)))) (by exact P_3) (by have e10 := congrArg Int32.toInt (K_3 10 (by decide)); exact ⟨by omega, by rw [show (I_3 10).toInt = (I 10).toInt from e10]; omega, by rw [show (I_3 10).toInt = (I 10).toInt from e10]; omega⟩) (by decide)) v_X9_163 rfl rfl ⟨Nat.le_of_ble_eq_true rfl, Nat.le_of_ble_eq_true rfl⟩ rfl hl.1 (Nat.le_of_ble_eq_true rfl) dX9_takesLeap_20 ⟨Nat.zero_le _, Nat.zero_le _⟩ (fun r_20 I_20 R_20 H locs z_20 w => ?_)
    have K_20 := kpI.tr (J := [11,13,14]) K_3 z_20.1 (by decide) (by decide)
    have KR_20 := kpR.tr (J := [3]) (kpR.up (J := [3]) (kpR.rf (J := [3]) (R := Rw)) (by decide)) z_20.2.1 (by decide) (by decide)
    have E_20 : (I_3 10).toInt = (I 10).toInt := congrArg Int32.toInt (K_3 10 (by decide))
    have G_20 : I_20 14 = bI gg := (z_20.1 14 (by decide)).trans G_3
    exact q_cret (post := (fun z n1 σ1 => n1 = n ∧ ∃ I1 R1, σ1 = mS t b σ0 I1 R1 ∧ kpI [11, 13, 14] I I1 ∧ kpR [3] Rw R1 ∧ z = bI (sLeap T po q gg).1 ∧ (I1 11).toInt = (sLeap T po q gg).2.1 ∧ (po ≤ (sLeap T po q gg).2.1 ∧ (sLeap T po q gg).2.1 ≤ (I 10).toInt) ∧ ((sLeap T po q gg).1 = true → eq33 (R1 3) (sLeap T po q gg).2.2.1 ∧ I1 14 = bI (sLeap T po q gg).2.2.2))) X w dX9_takesLeap_23 (by rw [z_20.2.2.1]; exact bI_nar _) ⟨rfl, _, _, rfl, by by_cases kk : dg T (po + 2); (have P_20 : (I_20 11).toInt = (num T (po + 2)).2 := (z_20.2.2.2.1 kk).1; have Q_20 : eq33 (R_20 3) (upd (upd q 16 1) 17 (i3 (num T (po + 2)).1)) := (by rw [(z_20.2.2.2.1 kk).2]; exact eq33.up (eq33.up h_4)); have B_20 : (po + 2) < (num T (po + 2)).2 ∧ (num T (po + 2)).2 ≤ (I 10).toInt := ⟨num_gt kk, by omega⟩; have e : sLeap T po q gg = (true, (num T (po + 2)).2, (upd (upd q 16 1) 17 (i3 (num T (po + 2)).1)), gg) := (by unfold sLeap; rw [if_pos k_6, if_pos kk]); rw [e]; exact ⟨K_20, KR_20, z_20.2.2.1.trans (by rw [decide_eq_true kk]), P_20, (by show po ≤ (num T (po + 2)).2 ∧ (num T (po + 2)).2 ≤ _; omega), fun _ => ⟨Q_20, G_20⟩⟩); (have P_20 : (I_20 11).toInt = (po + 2) := (z_20.2.2.2.2.1 kk).1; have Q_20 : eq33 (R_20 3) (upd q 16 1) := (by rw [(z_20.2.2.2.2.1 kk).2]; exact (eq33.up h_4)); have e : (sLeap T po q gg).1 = false ∧ (sLeap T po q gg).2.1 = (po + 2) := (by unfold sLeap; rw [if_pos k_6, if_neg kk]; exact ⟨rfl, rfl⟩); exact ⟨K_20, KR_20, z_20.2.2.1.trans (by rw [e.1, decide_eq_false kk]), (by rw [e.2]; exact P_20), (by rw [e.2]; omega), fun h => absurd (h.symm.trans e.1) (by decide)⟩)⟩

set_option maxHeartbeats 4000000 in
set_option maxRecDepth 100000 in
theorem c_X9_takesWeeks (l : Launch) (D : va_G) (t : Nat → ClassId) (b n : Nat) (σ0 : qM) (I : Nat → Int32) (Rw : Nat → Nat → Int32) (T : Int → Int) (po : Int) (q : Nat → Int32) (gg : Bool) (h_1 : T = tx I Rw) (h_2 : (I 11).toInt = po) (h_3 : 0 ≤ po ∧ po ≤ (I 10).toInt ∧ (I 10).toInt ≤ 100) (h_4 : eq33 (Rw 3) q) (h_5 : I 14 = bI gg) : mC l yX9_takesWeeks cX9_takesWeeks 1 (some .boolean) 3 D t b n σ0 I Rw [.ref (b + 45)] (fun z I1 R1 => kpI [11, 13, 14] I I1 ∧ kpR [3] Rw R1 ∧ z = bI (sWeeks T po q gg).1 ∧ (I1 11).toInt = (sWeeks T po q gg).2.1 ∧ (po ≤ (sWeeks T po q gg).2.1 ∧ (sWeeks T po q gg).2.1 ≤ (I 10).toInt) ∧ ((sWeeks T po q gg).1 = true → eq33 (R1 3) (sWeeks T po q gg).2.2.1 ∧ I1 14 = bI (sWeeks T po q gg).2.2.2)) := by
  refine qC.of (by decide +kernel) (Nat.le_of_ble_eq_true rfl) (fun p e s m args below meth c X w ls hl => ?_)
  have hx := X.1
  have hb := X.2.1
  have hl : lv_has ls 1 [(0, .ref (b + 45))] := hl
  refine lv_aload_n hx hb dX9_takesWeeks_0 rfl (lv_at hl 0 rfl) ?_
  refine lv_bipush (v := 119) hx hb dX9_takesWeeks_1 (by decide) ?_
  refine mm_cCI X w (c_X9_begins l D t b n σ0 I Rw T po 119 119 (show (119 : Int32).toInt = 119 from rfl) (by exact h_1.trans (tx_cg ((kpI.rf (J := [11,13,14]) (I := I)) 10 (by decide)) ((kpR.rf (J := [3]) (R := Rw)) 9 (by decide)))) (by exact h_2) (by have e10 := congrArg Int32.toInt ((kpI.rf (J := [11,13,14]) (I := I)) 10 (by decide)); exact ⟨by omega, by rw [show (I 10).toInt = (I 10).toInt from e10]; omega, by rw [show (I 10).toInt = (I 10).toInt from e10]; omega⟩) (by decide)) v_X9_166 rfl rfl ⟨Nat.le_of_ble_eq_true rfl, Nat.le_of_ble_eq_true rfl⟩ rfl hl.1 (Nat.le_of_ble_eq_true rfl) dX9_takesWeeks_3 ⟨Nat.zero_le _, Nat.zero_le _⟩ (fun r_3 I_3 H locs z_3 w => ?_)
  have K_3 := kpI.tr (J := [11,13,14]) (kpI.rf (J := [11,13,14]) (I := I)) z_3.1 (by decide) (by decide)
  have E_3 : (I 10).toInt = (I 10).toInt := congrArg Int32.toInt ((kpI.rf (J := [11,13,14]) (I := I)) 10 (by decide))
  have G_3 : I_3 14 = bI gg := (z_3.1 14 (by decide)).trans h_5
  refine lv_if_eq (tgt := 54) hx hb dX9_takesWeeks_6 (by decide) (fun c_6 => ?_) (fun c_6 => ?_)
  · skip
    rw [z_3.2.1] at c_6
    have k_6 := bI_f.mp c_6
    have P_3 : (I_3 11).toInt = po := z_3.2.2.2.1 k_6
    refine lv_iconst (v := 1) hx hb dX9_takesWeeks_54 (by decide) ?_
    refine lv_goto (tgt := 59) hx hb dX9_takesWeeks_55 (by decide) ?_
    exact q_cret (post := (fun z n1 σ1 => n1 = n ∧ ∃ I1 R1, σ1 = mS t b σ0 I1 R1 ∧ kpI [11, 13, 14] I I1 ∧ kpR [3] Rw R1 ∧ z = bI (sWeeks T po q gg).1 ∧ (I1 11).toInt = (sWeeks T po q gg).2.1 ∧ (po ≤ (sWeeks T po q gg).2.1 ∧ (sWeeks T po q gg).2.1 ≤ (I 10).toInt) ∧ ((sWeeks T po q gg).1 = true → eq33 (R1 3) (sWeeks T po q gg).2.2.1 ∧ I1 14 = bI (sWeeks T po q gg).2.2.2))) X w dX9_takesWeeks_59 (rfl) ⟨rfl, _, _, rfl, by have e : sWeeks T po q gg = (true, po, q, gg) := (by unfold sWeeks; rw [if_neg k_6]); rw [e]; exact ⟨K_3, (kpR.rf (J := [3]) (R := Rw)), rfl, P_3, (by show po ≤ po ∧ po ≤ _; omega), fun _ => ⟨h_4, G_3⟩⟩⟩
  · skip
    rw [z_3.2.1] at c_6
    have k_6 := bI_t.mp c_6
    have P_3 : (I_3 11).toInt = (po + 2) := z_3.2.2.1 k_6
    have B_3 : (po + 2) ≤ (I 10).toInt := by omega
    refine lv_aload_n hx hb dX9_takesWeeks_9 rfl (lv_at hl 0 rfl) ?_
    refine lv_bipush (v := 30) hx hb dX9_takesWeeks_10 (by decide) ?_
    refine mm_cC X w (c_X9_takes l D t b n σ0 I_3 Rw T (po + 2) 30 30 (show (30 : Int32).toInt = 30 from rfl) (by exact h_1.trans (tx_cg (K_3 10 (by decide)) ((kpR.rf (J := [3]) (R := Rw)) 9 (by decide)))) (by exact P_3) (by have e10 := congrArg Int32.toInt (K_3 10 (by decide)); exact ⟨by omega, by rw [show (I_3 10).toInt = (I 10).toInt from e10]; omega, by rw [show (I_3 10).toInt = (I 10).toInt from e10]; omega⟩) (by decide)) v_X9_163 rfl rfl ⟨Nat.le_of_ble_eq_true rfl, Nat.le_of_ble_eq_true rfl⟩ rfl hl.1 (Nat.le_of_ble_eq_true rfl) dX9_takesWeeks_12 ⟨Nat.zero_le _, Nat.zero_le _⟩ (fun r_12 I_12 R_12 H locs z_12 w => ?_)
    have K_12 := kpI.tr (J := [11,13,14]) K_3 z_12.1 (by decide) (by decide)
    have KR_12 := kpR.tr (J := [3]) (kpR.rf (J := [3]) (R := Rw)) z_12.2.1 (by decide) (by decide)
    have E_12 : (I_3 10).toInt = (I 10).toInt := congrArg Int32.toInt (K_3 10 (by decide))
    have G_12 : I_12 14 = bI gg := (z_12.1 14 (by decide)).trans G_3
    refine lv_if_eq (tgt := 58) hx hb dX9_takesWeeks_15 (by decide) (fun c_15 => ?_) (fun c_15 => ?_)
    · skip
      rw [z_12.2.2.1] at c_15
      have k_15 := bI_f.mp c_15
      have P_12 : (I_12 11).toInt = (po + 2) := (z_12.2.2.2.2.1 k_15).1
      have Q_12 : eq33 (R_12 3) q := by rw [(z_12.2.2.2.2.1 k_15).2]; exact h_4
      refine lv_iconst (v := 0) hx hb dX9_takesWeeks_58 (by decide) ?_
      exact q_cret (post := (fun z n1 σ1 => n1 = n ∧ ∃ I1 R1, σ1 = mS t b σ0 I1 R1 ∧ kpI [11, 13, 14] I I1 ∧ kpR [3] Rw R1 ∧ z = bI (sWeeks T po q gg).1 ∧ (I1 11).toInt = (sWeeks T po q gg).2.1 ∧ (po ≤ (sWeeks T po q gg).2.1 ∧ (sWeeks T po q gg).2.1 ≤ (I 10).toInt) ∧ ((sWeeks T po q gg).1 = true → eq33 (R1 3) (sWeeks T po q gg).2.2.1 ∧ I1 14 = bI (sWeeks T po q gg).2.2.2))) X w dX9_takesWeeks_59 (rfl) ⟨rfl, _, _, rfl, by have e : (sWeeks T po q gg).1 = false ∧ (sWeeks T po q gg).2.1 = (po + 2) := (by unfold sWeeks; rw [if_pos k_6, if_neg k_15]; exact ⟨rfl, rfl⟩); exact ⟨K_12, KR_12, (by rw [e.1]; rfl), (by rw [e.2]; exact P_12), (by rw [e.2]; omega), fun h => absurd (h.symm.trans e.1) (by decide)⟩⟩
    · skip
      rw [z_12.2.2.1] at c_15
      have k_15 := bI_t.mp c_15
      have P_12 : (I_12 11).toInt = (num T (po + 2)).2 := (z_12.2.2.2.1 k_15).1
      have Q_12 : eq33 (R_12 3) (upd q 30 (i3 (num T (po + 2)).1)) := by rw [(z_12.2.2.2.1 k_15).2]; exact eq33.up h_4
      have B_12 : (po + 2) < (num T (po + 2)).2 ∧ (num T (po + 2)).2 ≤ (I 10).toInt := ⟨num_gt k_15, by omega⟩
      refine lv_aload_n hx hb dX9_takesWeeks_18 rfl (lv_at hl 0 rfl) ?_
      refine lv_bipush (v := 44) hx hb dX9_takesWeeks_19 (by decide) ?_
      refine mm_cCI X w (c_X9_skips l D t b n σ0 I_12 R_12 T ((num T (po + 2)).2) 44 44 (show (44 : Int32).toInt = 44 from rfl) (by exact h_1.trans (tx_cg (K_12 10 (by decide)) (KR_12 9 (by decide)))) (by exact P_12) (by have e10 := congrArg Int32.toInt (K_12 10 (by decide)); exact ⟨by omega, by rw [show (I_12 10).toInt = (I 10).toInt from e10]; omega, by rw [show (I_12 10).toInt = (I 10).toInt from e10]; omega⟩) (by decide)) v_X9_160 rfl rfl ⟨Nat.le_of_ble_eq_true rfl, Nat.le_of_ble_eq_true rfl⟩ rfl hl.1 (Nat.le_of_ble_eq_true rfl) dX9_takesWeeks_21 ⟨Nat.zero_le _, Nat.zero_le _⟩ (fun r_21 I_21 H locs z_21 w => ?_)
      have K_21 := kpI.tr (J := [11,13,14]) K_12 z_21.1 (by decide) (by decide)
      have E_21 : (I_12 10).toInt = (I 10).toInt := congrArg Int32.toInt (K_12 10 (by decide))
      have G_21 : I_21 14 = bI gg := (z_21.1 14 (by decide)).trans G_12
      refine lv_if_eq (tgt := 58) hx hb dX9_takesWeeks_24 (by decide) (fun c_24 => ?_) (fun c_24 => ?_)
      · skip
        rw [z_21.2.1] at c_24
        have k_24 := bI_f.mp c_24
        have P_21 : (I_21 11).toInt = (num T (po + 2)).2 := z_21.2.2.2.1 k_24
        refine lv_iconst (v := 0) hx hb dX9_takesWeeks_58 (by decide) ?_
        exact q_cret (post := (fun z n1 σ1 => n1 = n ∧ ∃ I1 R1, σ1 = mS t b σ0 I1 R1 ∧ kpI [11, 13, 14] I I1 ∧ kpR [3] Rw R1 ∧ z = bI (sWeeks T po q gg).1 ∧ (I1 11).toInt = (sWeeks T po q gg).2.1 ∧ (po ≤ (sWeeks T po q gg).2.1 ∧ (sWeeks T po q gg).2.1 ≤ (I 10).toInt) ∧ ((sWeeks T po q gg).1 = true → eq33 (R1 3) (sWeeks T po q gg).2.2.1 ∧ I1 14 = bI (sWeeks T po q gg).2.2.2))) X w dX9_takesWeeks_59 (rfl) ⟨rfl, _, _, rfl, by have e : (sWeeks T po q gg).1 = false ∧ (sWeeks T po q gg).2.1 = (num T (po + 2)).2 := (by unfold sWeeks; rw [if_pos k_6, if_pos k_15, if_neg k_24]; exact ⟨rfl, rfl⟩); exact ⟨K_21, KR_12, (by rw [e.1]; rfl), (by rw [e.2]; exact P_21), (by rw [e.2]; omega), fun h => absurd (h.symm.trans e.1) (by decide)⟩⟩
      · skip
        rw [z_21.2.1] at c_24
        have k_24 := bI_t.mp c_24
        have P_21 : (I_21 11).toInt = ((num T (po + 2)).2 + 1) := z_21.2.2.1 k_24
        have B_21 : ((num T (po + 2)).2 + 1) ≤ (I 10).toInt := by omega
        refine lv_aload_n hx hb dX9_takesWeeks_27 rfl (lv_at hl 0 rfl) ?_
        refine lv_bipush (v := 31) hx hb dX9_takesWeeks_28 (by decide) ?_
        refine mm_cC X w (c_X9_takes l D t b n σ0 I_21 R_12 T ((num T (po + 2)).2 + 1) 31 31 (show (31 : Int32).toInt = 31 from rfl) (by exact h_1.trans (tx_cg (K_21 10 (by decide)) (KR_12 9 (by decide)))) (by exact P_21) (by have e10 := congrArg Int32.toInt (K_21 10 (by decide)); exact ⟨by omega, by rw [show (I_21 10).toInt = (I 10).toInt from e10]; omega, by rw [show (I_21 10).toInt = (I 10).toInt from e10]; omega⟩) (by decide)) v_X9_163 rfl rfl ⟨Nat.le_of_ble_eq_true rfl, Nat.le_of_ble_eq_true rfl⟩ rfl hl.1 (Nat.le_of_ble_eq_true rfl) dX9_takesWeeks_30 ⟨Nat.zero_le _, Nat.zero_le _⟩ (fun r_30 I_30 R_30 H locs z_30 w => ?_)
        have K_30 := kpI.tr (J := [11,13,14]) K_21 z_30.1 (by decide) (by decide)
        have KR_30 := kpR.tr (J := [3]) KR_12 z_30.2.1 (by decide) (by decide)
        have E_30 : (I_21 10).toInt = (I 10).toInt := congrArg Int32.toInt (K_21 10 (by decide))
        have G_30 : I_30 14 = bI gg := (z_30.1 14 (by decide)).trans G_21
        refine lv_if_eq (tgt := 58) hx hb dX9_takesWeeks_33 (by decide) (fun c_33 => ?_) (fun c_33 => ?_)
        · skip
          rw [z_30.2.2.1] at c_33
          have k_33 := bI_f.mp c_33
          have P_30 : (I_30 11).toInt = ((num T (po + 2)).2 + 1) := (z_30.2.2.2.2.1 k_33).1
          have Q_30 : eq33 (R_30 3) (upd q 30 (i3 (num T (po + 2)).1)) := by rw [(z_30.2.2.2.2.1 k_33).2]; exact Q_12
          refine lv_iconst (v := 0) hx hb dX9_takesWeeks_58 (by decide) ?_
          exact q_cret (post := (fun z n1 σ1 => n1 = n ∧ ∃ I1 R1, σ1 = mS t b σ0 I1 R1 ∧ kpI [11, 13, 14] I I1 ∧ kpR [3] Rw R1 ∧ z = bI (sWeeks T po q gg).1 ∧ (I1 11).toInt = (sWeeks T po q gg).2.1 ∧ (po ≤ (sWeeks T po q gg).2.1 ∧ (sWeeks T po q gg).2.1 ≤ (I 10).toInt) ∧ ((sWeeks T po q gg).1 = true → eq33 (R1 3) (sWeeks T po q gg).2.2.1 ∧ I1 14 = bI (sWeeks T po q gg).2.2.2))) X w dX9_takesWeeks_59 (rfl) ⟨rfl, _, _, rfl, by have e : (sWeeks T po q gg).1 = false ∧ (sWeeks T po q gg).2.1 = ((num T (po + 2)).2 + 1) := (by unfold sWeeks; rw [if_pos k_6, if_pos k_15, if_pos k_24, if_neg k_33]; exact ⟨rfl, rfl⟩); exact ⟨K_30, KR_30, (by rw [e.1]; rfl), (by rw [e.2]; exact P_30), (by rw [e.2]; omega), fun h => absurd (h.symm.trans e.1) (by decide)⟩⟩
        · skip
          rw [z_30.2.2.1] at c_33
          have k_33 := bI_t.mp c_33
          have P_30 : (I_30 11).toInt = (num T ((num T (po + 2)).2 + 1)).2 := (z_30.2.2.2.1 k_33).1
          have Q_30 : eq33 (R_30 3) (upd (upd q 30 (i3 (num T (po + 2)).1)) 31 (i3 (num T ((num T (po + 2)).2 + 1)).1)) := by rw [(z_30.2.2.2.1 k_33).2]; exact eq33.up Q_12
          have B_30 : ((num T (po + 2)).2 + 1) < (num T ((num T (po + 2)).2 + 1)).2 ∧ (num T ((num T (po + 2)).2 + 1)).2 ≤ (I 10).toInt := ⟨num_gt k_33, by omega⟩
          refine lv_aload_n hx hb dX9_takesWeeks_36 rfl (lv_at hl 0 rfl) ?_
          refine lv_bipush (v := 44) hx hb dX9_takesWeeks_37 (by decide) ?_
          refine mm_cCI X w (c_X9_skips l D t b n σ0 I_30 R_30 T ((num T ((num T (po + 2)).2 + 1)).2) 44 44 (show (44 : Int32).toInt = 44 from rfl) (by exact h_1.trans (tx_cg (K_30 10 (by decide)) (KR_30 9 (by decide)))) (by exact P_30) (by have e10 := congrArg Int32.toInt (K_30 10 (by decide)); exact ⟨by omega, by rw [show (I_30 10).toInt = (I 10).toInt from e10]; omega, by rw [show (I_30 10).toInt = (I 10).toInt from e10]; omega⟩) (by decide)) v_X9_160 rfl rfl ⟨Nat.le_of_ble_eq_true rfl, Nat.le_of_ble_eq_true rfl⟩ rfl hl.1 (Nat.le_of_ble_eq_true rfl) dX9_takesWeeks_39 ⟨Nat.zero_le _, Nat.zero_le _⟩ (fun r_39 I_39 H locs z_39 w => ?_)
          have K_39 := kpI.tr (J := [11,13,14]) K_30 z_39.1 (by decide) (by decide)
          have E_39 : (I_30 10).toInt = (I 10).toInt := congrArg Int32.toInt (K_30 10 (by decide))
          have G_39 : I_39 14 = bI gg := (z_39.1 14 (by decide)).trans G_30
          refine lv_if_eq (tgt := 58) hx hb dX9_takesWeeks_42 (by decide) (fun c_42 => ?_) (fun c_42 => ?_)
          · skip
            rw [z_39.2.1] at c_42
            have k_42 := bI_f.mp c_42
            have P_39 : (I_39 11).toInt = (num T ((num T (po + 2)).2 + 1)).2 := z_39.2.2.2.1 k_42
            refine lv_iconst (v := 0) hx hb dX9_takesWeeks_58 (by decide) ?_
            exact q_cret (post := (fun z n1 σ1 => n1 = n ∧ ∃ I1 R1, σ1 = mS t b σ0 I1 R1 ∧ kpI [11, 13, 14] I I1 ∧ kpR [3] Rw R1 ∧ z = bI (sWeeks T po q gg).1 ∧ (I1 11).toInt = (sWeeks T po q gg).2.1 ∧ (po ≤ (sWeeks T po q gg).2.1 ∧ (sWeeks T po q gg).2.1 ≤ (I 10).toInt) ∧ ((sWeeks T po q gg).1 = true → eq33 (R1 3) (sWeeks T po q gg).2.2.1 ∧ I1 14 = bI (sWeeks T po q gg).2.2.2))) X w dX9_takesWeeks_59 (rfl) ⟨rfl, _, _, rfl, by have e : (sWeeks T po q gg).1 = false ∧ (sWeeks T po q gg).2.1 = (num T ((num T (po + 2)).2 + 1)).2 := (by unfold sWeeks; rw [if_pos k_6, if_pos k_15, if_pos k_24, if_pos k_33, if_neg k_42]; exact ⟨rfl, rfl⟩); exact ⟨K_39, KR_30, (by rw [e.1]; rfl), (by rw [e.2]; exact P_39), (by rw [e.2]; omega), fun h => absurd (h.symm.trans e.1) (by decide)⟩⟩
          · skip
            rw [z_39.2.1] at c_42
            have k_42 := bI_t.mp c_42
            have P_39 : (I_39 11).toInt = ((num T ((num T (po + 2)).2 + 1)).2 + 1) := z_39.2.2.1 k_42
            have B_39 : ((num T ((num T (po + 2)).2 + 1)).2 + 1) ≤ (I 10).toInt := by omega
            refine lv_aload_n hx hb dX9_takesWeeks_45 rfl (lv_at hl 0 rfl) ?_
            refine lv_bipush (v := 32) hx hb dX9_takesWeeks_46 (by decide) ?_
            refine mm_cC X w (c_X9_takes l D t b n σ0 I_39 R_30 T ((num T ((num T (po + 2)).2 + 1)).2 + 1) 32 32 (show (32 : Int32).toInt = 32 from rfl) (by exact h_1.trans (tx_cg (K_39 10 (by decide)) (KR_30 9 (by decide)))) (by exact P_39) (by have e10 := congrArg Int32.toInt (K_39 10 (by decide)); exact ⟨by omega, by rw [show (I_39 10).toInt = (I 10).toInt from e10]; omega, by rw [show (I_39 10).toInt = (I 10).toInt from e10]; omega⟩) (by decide)) v_X9_163 rfl rfl ⟨Nat.le_of_ble_eq_true rfl, Nat.le_of_ble_eq_true rfl⟩ rfl hl.1 (Nat.le_of_ble_eq_true rfl) dX9_takesWeeks_48 ⟨Nat.zero_le _, Nat.zero_le _⟩ (fun r_48 I_48 R_48 H locs z_48 w => ?_)
            have K_48 := kpI.tr (J := [11,13,14]) K_39 z_48.1 (by decide) (by decide)
            have KR_48 := kpR.tr (J := [3]) KR_30 z_48.2.1 (by decide) (by decide)
            have E_48 : (I_39 10).toInt = (I 10).toInt := congrArg Int32.toInt (K_39 10 (by decide))
            have G_48 : I_48 14 = bI gg := (z_48.1 14 (by decide)).trans G_39
            refine lv_if_eq (tgt := 58) hx hb dX9_takesWeeks_51 (by decide) (fun c_51 => ?_) (fun c_51 => ?_)
            · skip
              rw [z_48.2.2.1] at c_51
              have k_51 := bI_f.mp c_51
              have P_48 : (I_48 11).toInt = ((num T ((num T (po + 2)).2 + 1)).2 + 1) := (z_48.2.2.2.2.1 k_51).1
              have Q_48 : eq33 (R_48 3) (upd (upd q 30 (i3 (num T (po + 2)).1)) 31 (i3 (num T ((num T (po + 2)).2 + 1)).1)) := by rw [(z_48.2.2.2.2.1 k_51).2]; exact Q_30
              refine lv_iconst (v := 0) hx hb dX9_takesWeeks_58 (by decide) ?_
              exact q_cret (post := (fun z n1 σ1 => n1 = n ∧ ∃ I1 R1, σ1 = mS t b σ0 I1 R1 ∧ kpI [11, 13, 14] I I1 ∧ kpR [3] Rw R1 ∧ z = bI (sWeeks T po q gg).1 ∧ (I1 11).toInt = (sWeeks T po q gg).2.1 ∧ (po ≤ (sWeeks T po q gg).2.1 ∧ (sWeeks T po q gg).2.1 ≤ (I 10).toInt) ∧ ((sWeeks T po q gg).1 = true → eq33 (R1 3) (sWeeks T po q gg).2.2.1 ∧ I1 14 = bI (sWeeks T po q gg).2.2.2))) X w dX9_takesWeeks_59 (rfl) ⟨rfl, _, _, rfl, by have e : (sWeeks T po q gg).1 = false ∧ (sWeeks T po q gg).2.1 = ((num T ((num T (po + 2)).2 + 1)).2 + 1) := (by unfold sWeeks; rw [if_pos k_6, if_pos k_15, if_pos k_24, if_pos k_33, if_pos k_42, if_neg k_51]; exact ⟨rfl, rfl⟩); exact ⟨K_48, KR_48, (by rw [e.1]; rfl), (by rw [e.2]; exact P_48), (by rw [e.2]; omega), fun h => absurd (h.symm.trans e.1) (by decide)⟩⟩
            · skip
              rw [z_48.2.2.1] at c_51
              have k_51 := bI_t.mp c_51
              have P_48 : (I_48 11).toInt = (num T ((num T ((num T (po + 2)).2 + 1)).2 + 1)).2 := (z_48.2.2.2.1 k_51).1
              have Q_48 : eq33 (R_48 3) (upd (upd (upd q 30 (i3 (num T (po + 2)).1)) 31 (i3 (num T ((num T (po + 2)).2 + 1)).1)) 32 (i3 (num T ((num T ((num T (po + 2)).2 + 1)).2 + 1)).1)) := by rw [(z_48.2.2.2.1 k_51).2]; exact eq33.up Q_30
              have B_48 : ((num T ((num T (po + 2)).2 + 1)).2 + 1) < (num T ((num T ((num T (po + 2)).2 + 1)).2 + 1)).2 ∧ (num T ((num T ((num T (po + 2)).2 + 1)).2 + 1)).2 ≤ (I 10).toInt := ⟨num_gt k_51, by omega⟩
              refine lv_iconst (v := 1) hx hb dX9_takesWeeks_54 (by decide) ?_
              refine lv_goto (tgt := 59) hx hb dX9_takesWeeks_55 (by decide) ?_
              exact q_cret (post := (fun z n1 σ1 => n1 = n ∧ ∃ I1 R1, σ1 = mS t b σ0 I1 R1 ∧ kpI [11, 13, 14] I I1 ∧ kpR [3] Rw R1 ∧ z = bI (sWeeks T po q gg).1 ∧ (I1 11).toInt = (sWeeks T po q gg).2.1 ∧ (po ≤ (sWeeks T po q gg).2.1 ∧ (sWeeks T po q gg).2.1 ≤ (I 10).toInt) ∧ ((sWeeks T po q gg).1 = true → eq33 (R1 3) (sWeeks T po q gg).2.2.1 ∧ I1 14 = bI (sWeeks T po q gg).2.2.2))) X w dX9_takesWeeks_59 (rfl) ⟨rfl, _, _, rfl, by have e : sWeeks T po q gg = (true, (num T ((num T ((num T (po + 2)).2 + 1)).2 + 1)).2, (upd (upd (upd q 30 (i3 (num T (po + 2)).1)) 31 (i3 (num T ((num T (po + 2)).2 + 1)).1)) 32 (i3 (num T ((num T ((num T (po + 2)).2 + 1)).2 + 1)).1)), gg) := (by unfold sWeeks; rw [if_pos k_6, if_pos k_15, if_pos k_24, if_pos k_33, if_pos k_42, if_pos k_51]); rw [e]; exact ⟨K_48, KR_48, rfl, P_48, (by show po ≤ (num T ((num T ((num T (po + 2)).2 + 1)).2 + 1)).2 ∧ (num T ((num T ((num T (po + 2)).2 + 1)).2 + 1)).2 ≤ _; omega), fun _ => ⟨Q_48, G_48⟩⟩⟩
