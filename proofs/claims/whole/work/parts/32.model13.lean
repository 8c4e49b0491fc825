set_option maxHeartbeats 4000000 in
set_option maxRecDepth 100000 in
theorem c_X9_takesDivisors (l : Launch) (D : va_G) (t : Nat → ClassId) (b n : Nat) (σ0 : qM) (I : Nat → Int32) (Rw : Nat → Nat → Int32) (T : Int → Int) (po : Int) (q : Nat → Int32) (gg : Bool) (h_1 : T = tx I Rw) (h_2 : (I 11).toInt = po) (h_3 : 0 ≤ po ∧ po ≤ (I 10).toInt ∧ (I 10).toInt ≤ 100) (h_4 : eq33 (Rw 3) q) (h_5 : I 14 = bI gg) : mC l yX9_takesDivisors cX9_takesDivisors 2 (some .boolean) 3 D t b n σ0 I Rw [.ref (b + 45)] (fun z I1 R1 => kpI [11, 13, 14] I I1 ∧ kpR [3] Rw R1 ∧ z = bI (sDivs T po q gg).1 ∧ (I1 11).toInt = (sDivs T po q gg).2.1 ∧ (po ≤ (sDivs T po q gg).2.1 ∧ (sDivs T po q gg).2.1 ≤ (I 10).toInt) ∧ ((sDivs T po q gg).1 = true → eq33 (R1 3) (sDivs T po q gg).2.2.1 ∧ I1 14 = bI (sDivs T po q gg).2.2.2)) := by
  refine qC.of (by decide +kernel) (Nat.le_of_ble_eq_true rfl) (fun p e s m args below meth c X w ls hl => ?_)
  have hx := X.1
  have hb := X.2.1
  have hl : lv_has ls 2 [(0, .ref (b + 45))] := hl
  refine lv_aload_n hx hb dX9_takesDivisors_0 rfl (lv_at hl 0 rfl) ?_
  refine mg_read X w dX9_takesDivisors_1 ?_
  refine lv_bipush (v := 19) hx hb dX9_takesDivisors_4 (by decide) ?_
  refine lv_iconst (v := 1) hx hb dX9_takesDivisors_6 (by decide) ?_
  refine ms_read (x := 1) X w (g_in (show (19 : Int32).toInt = 19 from rfl) (by omega)) dX9_takesDivisors_7 (fun H locs w => ?_)
  rw [g_tn (show (19 : Int32).toInt = 19 from rfl)] at w
  refine lv_iconst (v := 0) hx hb dX9_takesDivisors_8 (by decide) ?_
  refine lv_istore_n (lv' := [(1, .int 0), (0, .ref (b + 45))]) hx hb dX9_takesDivisors_9 rfl hl (by decide) rfl (fun ls hl => ?_)
  refine q_loop (α := Int32 × Int × (Nat → Int32) × (Nat → Int32) × (Nat → Nat → Int32)) (fun a => a.1.toInt = a.2.1 ∧ (kpI [11,13,14] I a.2.2.2.1 ∧ kpR [3] Rw a.2.2.2.2 ∧ eq33 (a.2.2.2.2 3) a.2.2.1 ∧ a.2.2.2.1 14 = bI gg ∧ ((0 ≤ (a.2.2.2.1 11).toInt ∧ po ≤ (a.2.2.2.1 11).toInt) ∧ (a.2.2.2.1 11).toInt ≤ (I 10).toInt) ∧ (0 ≤ a.2.1 ∧ a.2.1 ≤ 3) ∧ sDiv T (4 - a.2.1).toNat (a.2.2.2.1 11).toInt a.2.2.1 gg = sDiv T 4 po (upd q 19 1) gg)) (fun a => (4 - a.2.1).toNat) (fun a => ∀ (H : Heap) (locs : List Loc), qW D b n (mS t b σ0 a.2.2.2.1 a.2.2.2.2) s H locs → ∀ ls : Array Slot, lv_has ls 2 [(1, .int a.1), (0, .ref (b + 45))] → W p l e (qR 3 0 0) s m args below meth c H locs 0 0 (MQ below (va_Qi (S := Nat × qM) (fun z u => (fun z n1 σ1 => n1 = n ∧ ∃ I1 R1, σ1 = mS t b σ0 I1 R1 ∧ kpI [11, 13, 14] I I1 ∧ kpR [3] Rw R1 ∧ z = bI (sDivs T po q gg).1 ∧ (I1 11).toInt = (sDivs T po q gg).2.1 ∧ (po ≤ (sDivs T po q gg).2.1 ∧ (sDivs T po q gg).2.1 ≤ (I 10).toInt) ∧ ((sDivs T po q gg).1 = true → eq33 (R1 3) (sDivs T po q gg).2.2.1 ∧ I1 14 = bI (sDivs T po q gg).2.2.2)) z u.1 u.2) (fun u T => WB D b u.1 u.2 T.heap) (fun q => b ≤ q)) args s 0 0 (fun q => b ≤ q)) (F0 m 10 ls [])) ?_ ⟨0, 0, (upd q 19 1), I, (va_up Rw 3 (upd (Rw 3) (19 : Int).toNat 1))⟩ ⟨(show (0 : Int32).toInt = 0 from rfl), by dsimp only; exact ⟨kpI.rf, kpR.up kpR.rf (by decide), eq33.up h_4, h_5, by omega, by omega, by rw [h_2]; rfl⟩⟩ _ _ w ls (lv_sub hl [0, 1] rfl)
  rintro ⟨v_n_, n_, qq, I_L10, R_L10⟩ ⟨q_n_, inv_10⟩ ih_10 H locs w ls hl
  dsimp only at q_n_ inv_10 hl w
  refine lv_aload_n hx hb dX9_takesDivisors_10 rfl (lv_at hl 1 rfl) ?_
  refine lv_bipush (v := 20) hx hb dX9_takesDivisors_11 (by decide) ?_
  refine lv_iload_n hx hb dX9_takesDivisors_13 rfl (lv_at hl 0 rfl) ?_
  refine lv_iadd hx hb dX9_takesDivisors_14 ?_
  refine lv_topi (fun x_14 e_14 => ?_)
  have p_14 : x_14.toInt = (20 + n_) := by rw [e_14]; exact t_add (show (20 : Int32).toInt = 20 from rfl) q_n_ (by omega) (by omega)
  refine mm_cC X w (c_X9_takes l D t b n σ0 I_L10 R_L10 T ((I_L10 11).toInt) x_14 (20 + n_) p_14 (by exact h_1.trans (tx_cg (inv_10.1 10 (by decide)) (inv_10.2.1 9 (by decide)))) (by exact rfl) (by have e10 := congrArg Int32.toInt (inv_10.1 10 (by decide)); exact ⟨by omega, by rw [show (I_L10 10).toInt = (I 10).toInt from e10]; omega, by rw [show (I_L10 10).toInt = (I 10).toInt from e10]; omega⟩) (by omega)) v_X9_163 rfl rfl ⟨Nat.le_of_ble_eq_true rfl, Nat.le_of_ble_eq_true rfl⟩ rfl hl.1 (Nat.le_of_ble_eq_true rfl) dX9_takesDivisors_15 ⟨Nat.zero_le _, Nat.zero_le _⟩ (fun r_15 I_15 R_15 H locs z_15 w => ?_)
  have K_15 := kpI.tr (J := [11,13,14]) inv_10.1 z_15.1 (by decide) (by decide)
  have KR_15 := kpR.tr (J := [3]) inv_10.2.1 z_15.2.1 (by decide) (by decide)
  have E_15 : (I_L10 10).toInt = (I 10).toInt := congrArg Int32.toInt (inv_10.1 10 (by decide))
  have G_15 : I_15 14 = bI gg := (z_15.1 14 (by decide)).trans inv_10.2.2.2.1
  refine lv_if_ne (tgt := 23) hx hb dX9_takesDivisors_18 (by decide) (fun c_18 => ?_) (fun c_18 => ?_)
  · skip
    rw [z_15.2.2.1] at c_18
    have k_18 := bI_t.mp c_18
    have P_15 : (I_15 11).toInt = (num T ((I_L10 11).toInt)).2 := (z_15.2.2.2.1 k_18).1
    have Q_15 : eq33 (R_15 3) (upd qq ((20 + n_)).toNat (i3 (num T ((I_L10 11).toInt)).1)) := by rw [(z_15.2.2.2.1 k_18).2]; exact eq33.up inv_10.2.2.1
    have B_15 : (I_L10 11).toInt < (num T ((I_L10 11).toInt)).2 ∧ (num T ((I_L10 11).toInt)).2 ≤ (I 10).toInt := ⟨num_gt k_18, by omega⟩
    refine lv_aload_n hx hb dX9_takesDivisors_23 rfl (lv_at hl 1 rfl) ?_
    refine mg_read X w dX9_takesDivisors_24 ?_
    refine lv_bipush (v := 24) hx hb dX9_takesDivisors_27 (by decide) ?_
    refine lv_iload_n hx hb dX9_takesDivisors_29 rfl (lv_at hl 0 rfl) ?_
    refine lv_iadd hx hb dX9_takesDivisors_30 ?_
    refine lv_topi (fun x_30 e_30 => ?_)
    have p_30 : x_30.toInt = (24 + n_) := by rw [e_30]; exact t_add (show (24 : Int32).toInt = 24 from rfl) q_n_ (by omega) (by omega)
    refine lv_aload_n hx hb dX9_takesDivisors_31 rfl (lv_at hl 1 rfl) ?_
    refine lv_aload_n hx hb dX9_takesDivisors_32 rfl (lv_at hl 1 rfl) ?_
    refine mg_at X w dX9_takesDivisors_33 ?_
    refine lv_bipush (v := 43) hx hb dX9_takesDivisors_36 (by decide) ?_
    refine q_cPV X w (c_X9_isAt l D t b n σ0 I_15 R_15 (I_15 11) 43 ((I_15 11).toInt) 43 rfl (show (43 : Int32).toInt = 43 from rfl) (by have e10 := congrArg Int32.toInt (K_15 10 (by decide)); rw [show (I_15 10).toInt = (I 10).toInt from e10]; have e11 := P_15; omega)) v_X9_153 (k := 45) rfl rfl rfl ⟨Nat.le_of_ble_eq_true rfl, Nat.le_of_ble_eq_true rfl⟩ rfl hl.1 (Nat.le_of_ble_eq_true rfl) dX9_takesDivisors_38 ⟨Nat.zero_le _, Nat.zero_le _⟩ (fun r_38 z_38 => ?_)
    refine lv_if_eq (tgt := 48) hx hb dX9_takesDivisors_41 (by decide) (fun c_41 => ?_) (fun c_41 => ?_)
    · skip
      rw [z_38] at c_41
      have k_41 := bI_f.mp c_41
      rw [P_15] at k_41
      have k41 : ¬ T (num T (I_L10 11).toInt).2 = 43 := fun z => k_41 ((tx_at (h_1.trans (tx_cg (K_15 10 (by decide)) (KR_15 9 (by decide)))) (by omega) (by decide)).mpr z)
      refine lv_iconst (v := (-1)) hx hb dX9_takesDivisors_48 (by decide) ?_
      refine ms_read (x := (-1)) X w (g_in p_30 (by omega)) dX9_takesDivisors_49 (fun H locs w => ?_)
      rw [g_tn p_30] at w
      refine lv_aload_n hx hb dX9_takesDivisors_50 rfl (lv_at hl 1 rfl) ?_
      refine lv_bipush (v := 43) hx hb dX9_takesDivisors_51 (by decide) ?_
      refine mm_cCI X w (c_X9_skips l D t b n σ0 I_15 (va_up R_15 3 (upd (R_15 3) (24 + n_).toNat (-1))) T ((num T ((I_L10 11).toInt)).2) 43 43 (show (43 : Int32).toInt = 43 from rfl) (by exact h_1.trans (tx_cg (K_15 10 (by decide)) ((kpR.up (J := [3]) KR_15 (by decide)) 9 (by decide)))) (by exact P_15) (by have e10 := congrArg Int32.toInt (K_15 10 (by decide)); exact ⟨by omega, by rw [show (I_15 10).toInt = (I 10).toInt from e10]; omega, by rw [show (I_15 10).toInt = (I 10).toInt from e10]; omega⟩) (by decide)) v_X9_160 rfl rfl ⟨Nat.le_of_ble_eq_true rfl, Nat.le_of_ble_eq_true rfl⟩ rfl hl.1 (Nat.le_of_ble_eq_true rfl) dX9_takesDivisors_53 ⟨Nat.zero_le _, Nat.zero_le _⟩ (fun r_53 I_53 H locs z_53 w => ?_)
      have K_53 := kpI.tr (J := [11,13,14]) K_15 z_53.1 (by decide) (by decide)
      have E_53 : (I_15 10).toInt = (I 10).toInt := congrArg Int32.toInt (K_15 10 (by decide))
      have G_53 : I_53 14 = bI gg := (z_53.1 14 (by decide)).trans G_15
      refine lv_if_ne (tgt := 70) hx hb dX9_takesDivisors_56 (by decide) (fun c_56 => ?_) (fun c_56 => ?_)
      · skip
        rw [z_53.2.1] at c_56
        have k_56 := bI_t.mp c_56
        have P_53 : (I_53 11).toInt = ((num T ((I_L10 11).toInt)).2 + 1) := z_53.2.2.1 k_56
        have B_53 : ((num T ((I_L10 11).toInt)).2 + 1) ≤ (I 10).toInt := by omega
        obtain ⟨x_70, e_70⟩ : ∃ z : Int32, z = (v_n_ + 1) := ⟨_, rfl⟩
        have p_70 : x_70.toInt = (n_ + 1) := by rw [e_70]; exact t_add q_n_ (show (1 : Int32).toInt = 1 from rfl) (by omega) (by omega)
        refine lv_iinc (v := x_70) (lv' := [(1, .int x_70), (0, .ref (b + 45))]) hx hb dX9_takesDivisors_70 hl (k := 0) rfl (by rw [e_70]; rfl) (by decide) rfl (fun ls hl => ?_)
        refine lv_iload_n hx hb dX9_takesDivisors_73 rfl (lv_at hl 0 rfl) ?_
        refine lv_iconst (v := 4) hx hb dX9_takesDivisors_74 (by decide) ?_
        refine lv_icmp_ge (tgt := 85) hx hb dX9_takesDivisors_75 (by decide) (fun c_75 => ?_) (fun c_75 => ?_)
        · skip
          have k_75 : 4 ≤ (n_ + 1) := (g_le (show (4 : Int32).toInt = 4 from rfl) p_70).mp c_75
          refine lv_iconst (v := 1) hx hb dX9_takesDivisors_85 (by decide) ?_
          exact q_cret (post := (fun z n1 σ1 => n1 = n ∧ ∃ I1 R1, σ1 = mS t b σ0 I1 R1 ∧ kpI [11, 13, 14] I I1 ∧ kpR [3] Rw R1 ∧ z = bI (sDivs T po q gg).1 ∧ (I1 11).toInt = (sDivs T po q gg).2.1 ∧ (po ≤ (sDivs T po q gg).2.1 ∧ (sDivs T po q gg).2.1 ≤ (I 10).toInt) ∧ ((sDivs T po q gg).1 = true → eq33 (R1 3) (sDivs T po q gg).2.2.1 ∧ I1 14 = bI (sDivs T po q gg).2.2.2))) X w dX9_takesDivisors_86 (rfl) ⟨rfl, _, _, rfl, by exact absurd k_56 k41⟩
        · skip
          have k_75 : ¬ (4 ≤ (n_ + 1)) := fun h => c_75 ((g_le (show (4 : Int32).toInt = 4 from rfl) p_70).mpr h)
          refine lv_aload_n hx hb dX9_takesDivisors_78 rfl (lv_at hl 1 rfl) ?_
          refine q_cPV X w (c_X9_isDigit l D t b n σ0 I_53 (va_up R_15 3 (upd (R_15 3) (24 + n_).toNat (-1))) (by have e10 := congrArg Int32.toInt (K_53 10 (by decide)); rw [show (I_53 10).toInt = (I 10).toInt from e10]; have e11 := P_53; omega)) v_X9_156 (k := 45) rfl rfl rfl ⟨Nat.le_of_ble_eq_true rfl, Nat.le_of_ble_eq_true rfl⟩ rfl hl.1 (Nat.le_of_ble_eq_true rfl) dX9_takesDivisors_79 ⟨Nat.zero_le _, Nat.zero_le _⟩ (fun r_79 z_79 => ?_)
          refine lv_if_ne (tgt := 10) hx hb dX9_takesDivisors_82 (by decide) (fun c_82 => ?_) (fun c_82 => ?_)
          · skip
            rw [z_79] at c_82
            have k_82 := bI_t.mp c_82
            rw [P_53] at k_82
            have k82 : dg T ((num T (I_L10 11).toInt).2 + 1) := (tx_dg (h_1.trans (tx_cg (K_53 10 (by decide)) ((kpR.up (J := [3]) KR_15 (by decide)) 9 (by decide)))) (by omega)).mp k_82
            refine ih_10 ⟨x_70, (n_ + 1), (upd (upd qq ((20 + n_)).toNat (i3 (num T ((I_L10 11).toInt)).1)) ((24 + n_)).toNat (-1)), I_53, (va_up R_15 3 (upd (R_15 3) (24 + n_).toNat (-1)))⟩ ⟨p_70, by exact absurd k_56 k41⟩ (by dsimp only; omega) _ _ w ls (lv_sub hl [0, 1] rfl)
          · skip
            rw [z_79] at c_82
            have k_82 := bI_f.mp c_82
            rw [P_53] at k_82
            have k82 : ¬ dg T ((num T (I_L10 11).toInt).2 + 1) := fun z => k_82 ((tx_dg (h_1.trans (tx_cg (K_53 10 (by decide)) ((kpR.up (J := [3]) KR_15 (by decide)) 9 (by decide)))) (by omega)).mpr z)
            refine lv_iconst (v := 1) hx hb dX9_takesDivisors_85 (by decide) ?_
            exact q_cret (post := (fun z n1 σ1 => n1 = n ∧ ∃ I1 R1, σ1 = mS t b σ0 I1 R1 ∧ kpI [11, 13, 14] I I1 ∧ kpR [3] Rw R1 ∧ z = bI (sDivs T po q gg).1 ∧ (I1 11).toInt = (sDivs T po q gg).2.1 ∧ (po ≤ (sDivs T po q gg).2.1 ∧ (sDivs T po q gg).2.1 ≤ (I 10).toInt) ∧ ((sDivs T po q gg).1 = true → eq33 (R1 3) (sDivs T po q gg).2.2.1 ∧ I1 14 = bI (sDivs T po q gg).2.2.2))) X w dX9_takesDivisors_86 (rfl) ⟨rfl, _, _, rfl, by exact absurd k_56 k41⟩
      · skip
        rw [z_53.2.1] at c_56
        have k_56 := bI_f.mp c_56
        have P_53 : (I_53 11).toInt = (num T ((I_L10 11).toInt)).2 := z_53.2.2.2.1 k_56
        refine lv_aload_n hx hb dX9_takesDivisors_59 rfl (lv_at hl 1 rfl) ?_
        refine lv_bipush (v := 45) hx hb dX9_takesDivisors_60 (by decide) ?_
        refine mm_cCI X w (c_X9_skips l D t b n σ0 I_53 (va_up R_15 3 (upd (R_15 3) (24 + n_).toNat (-1))) T ((num T ((I_L10 11).toInt)).2) 45 45 (show (45 : Int32).toInt = 45 from rfl) (by exact h_1.trans (tx_cg (K_53 10 (by decide)) ((kpR.up (J := [3]) KR_15 (by decide)) 9 (by decide)))) (by exact P_53) (by have e10 := congrArg Int32.toInt (K_53 10 (by decide)); exact ⟨by omega, by rw [show (I_53 10).toInt = (I 10).toInt from e10]; omega, by rw [show (I_53 10).toInt = (I 10).toInt from e10]; omega⟩) (by decide)) v_X9_160 rfl rfl ⟨Nat.le_of_ble_eq_true rfl, Nat.le_of_ble_eq_true rfl⟩ rfl hl.1 (Nat.le_of_ble_eq_true rfl) dX9_takesDivisors_62 ⟨Nat.zero_le _, Nat.zero_le _⟩ (fun r_62 I_62 H locs z_62 w => ?_)
        have K_62 := kpI.tr (J := [11,13,14]) K_53 z_62.1 (by decide) (by decide)
        have E_62 : (I_53 10).toInt = (I 10).toInt := congrArg Int32.toInt (K_53 10 (by decide))
        have G_62 : I_62 14 = bI gg := (z_62.1 14 (by decide)).trans G_53
        refine lv_if_ne (tgt := 70) hx hb dX9_takesDivisors_65 (by decide) (fun c_65 => ?_) (fun c_65 => ?_)
        · skip
          rw [z_62.2.1] at c_65
          have k_65 := bI_t.mp c_65
          have P_62 : (I_62 11).toInt = ((num T ((I_L10 11).toInt)).2 + 1) := z_62.2.2.1 k_65
          have B_62 : ((num T ((I_L10 11).toInt)).2 + 1) ≤ (I 10).toInt := by omega
          obtain ⟨x_70, e_70⟩ : ∃ z : Int32, z = (v_n_ + 1) := ⟨_, rfl⟩
          have p_70 : x_70.toInt = (n_ + 1) := by rw [e_70]; exact t_add q_n_ (show (1 : Int32).toInt = 1 from rfl) (by omega) (by omega)
          refine lv_iinc (v := x_70) (lv' := [(1, .int x_70), (0, .ref (b + 45))]) hx hb dX9_takesDivisors_70 hl (k := 0) rfl (by rw [e_70]; rfl) (by decide) rfl (fun ls hl => ?_)
          refine lv_iload_n hx hb dX9_takesDivisors_73 rfl (lv_at hl 0 rfl) ?_
          refine lv_iconst (v := 4) hx hb dX9_takesDivisors_74 (by decide) ?_
          refine lv_icmp_ge (tgt := 85) hx hb dX9_takesDivisors_75 (by decide) (fun c_75 => ?_) (fun c_75 => ?_)
          · skip
            have k_75 : 4 ≤ (n_ + 1) := (g_le (show (4 : Int32).toInt = 4 from rfl) p_70).mp c_75
            refine lv_iconst (v := 1) hx hb dX9_takesDivisors_85 (by decide) ?_
            exact q_cret (post := (fun z n1 σ1 => n1 = n ∧ ∃ I1 R1, σ1 = mS t b σ0 I1 R1 ∧ kpI [11, 13, 14] I I1 ∧ kpR [3] Rw R1 ∧ z = bI (sDivs T po q gg).1 ∧ (I1 11).toInt = (sDivs T po q gg).2.1 ∧ (po ≤ (sDivs T po q gg).2.1 ∧ (sDivs T po q gg).2.1 ≤ (I 10).toInt) ∧ ((sDivs T po q gg).1 = true → eq33 (R1 3) (sDivs T po q gg).2.2.1 ∧ I1 14 = bI (sDivs T po q gg).2.2.2))) X w dX9_takesDivisors_86 (rfl) ⟨rfl, _, _, rfl, by have e : sDivs T po q gg = (true, ((num T ((I_L10 11).toInt)).2 + 1), (upd (upd qq ((20 + n_)).toNat (i3 (num T ((I_L10 11).toInt)).1)) ((24 + n_)).toNat (-1)), gg) := (by unfold sDivs; rw [← inv_10.2.2.2.2.2.2, show (4 - n_).toNat = (3 - n_).toNat + 1 by omega, sDiv, if_pos k_18, if_pos (Or.inr k_65), if_neg (fun z => absurd z.1 (by omega)), if_neg k41, show (20 + n_).toNat = 20 + (3 - (3 - n_).toNat) by omega, show (24 + n_).toNat = 24 + (3 - (3 - n_).toNat) by omega]); rw [e]; exact ⟨K_62, (kpR.up (J := [3]) KR_15 (by decide)), rfl, P_62, (by show po ≤ ((num T ((I_L10 11).toInt)).2 + 1) ∧ ((num T ((I_L10 11).toInt)).2 + 1) ≤ _; omega), fun _ => ⟨(eq33.up Q_15), G_62⟩⟩⟩
          · skip
            have k_75 : ¬ (4 ≤ (n_ + 1)) := fun h => c_75 ((g_le (show (4 : Int32).toInt = 4 from rfl) p_70).mpr h)
            refine lv_aload_n hx hb dX9_takesDivisors_78 rfl (lv_at hl 1 rfl) ?_
            refine q_cPV X w (c_X9_isDigit l D t b n σ0 I_62 (va_up R_15 3 (upd (R_15 3) (24 + n_).toNat (-1))) (by have e10 := congrArg Int32.toInt (K_62 10 (by decide)); rw [show (I_62 10).toInt = (I 10).toInt from e10]; have e11 := P_62; omega)) v_X9_156 (k := 45) rfl rfl rfl ⟨Nat.le_of_ble_eq_true rfl, Nat.le_of_ble_eq_true rfl⟩ rfl hl.1 (Nat.le_of_ble_eq_true rfl) dX9_takesDivisors_79 ⟨Nat.zero_le _, Nat.zero_le _⟩ (fun r_79 z_79 => ?_)
            refine lv_if_ne (tgt := 10) hx hb dX9_takesDivisors_82 (by decide) (fun c_82 => ?_) (fun c_82 => ?_)
            · skip
              rw [z_79] at c_82
              have k_82 := bI_t.mp c_82
              rw [P_62] at k_82
              have k82 : dg T ((num T (I_L10 11).toInt).2 + 1) := (tx_dg (h_1.trans (tx_cg (K_62 10 (by decide)) ((kpR.up (J := [3]) KR_15 (by decide)) 9 (by decide)))) (by omega)).mp k_82
              refine ih_10 ⟨x_70, (n_ + 1), (upd (upd qq ((20 + n_)).toNat (i3 (num T ((I_L10 11).toInt)).1)) ((24 + n_)).toNat (-1)), I_62, (va_up R_15 3 (upd (R_15 3) (24 + n_).toNat (-1)))⟩ ⟨p_70, by dsimp only; refine ⟨K_62, (kpR.up (J := [3]) KR_15 (by decide)), (eq33.up Q_15), G_62, by omega, by omega, ?_⟩; have e := inv_10.2.2.2.2.2.2; rw [show (4 - n_).toNat = (3 - n_).toNat + 1 by omega, sDiv, if_pos k_18, if_pos (Or.inr k_65), if_pos ⟨by omega, k82⟩, if_neg k41] at e; rw [P_62, ← e, show (20 + n_).toNat = 20 + (3 - (3 - n_).toNat) by omega, show (24 + n_).toNat = 24 + (3 - (3 - n_).toNat) by omega, show (4 - (n_ + 1)).toNat = (3 - n_).toNat by omega]⟩ (by dsimp only; omega) _ _ w ls (lv_sub hl [0, 1] rfl)
            · skip
              rw [z_79] at c_82
              have k_82 := bI_f.mp c_82
              rw [P_62] at k_82
              have k82 : ¬ dg T ((num T (I_L10 11).toInt).2 + 1) := fun z => k_82 ((tx_dg (h_1.trans (tx_cg (K_62 10 (by decide)) ((kpR.up (J := [3]) KR_15 (by decide)) 9 (by decide)))) (by omega)).mpr z)
              refine lv_iconst (v := 1) hx hb dX9_takesDivisors_85 (by decide) ?_
              exact q_cret (post := (fun z n1 σ1 => n1 = n ∧ ∃ I1 R1, σ1 = mS t b σ0 I1 R1 ∧ kpI [11, 13, 14] I I1 ∧ kpR [3] Rw R1 ∧ z = bI (sDivs T po q gg).1 ∧ (I1 11).toInt = (sDivs T po q gg).2.1 ∧ (po ≤ (sDivs T po q gg).2.1 ∧ (sDivs T po q gg).2.1 ≤ (I 10).toInt) ∧ ((sDivs T po q gg).1 = true → eq33 (R1 3) (sDivs T po q gg).2.2.1 ∧ I1 14 = bI (sDivs T po q gg).2.2.2))) X w dX9_takesDivisors_86 (rfl) ⟨rfl, _, _, rfl, by have e : sDivs T po q gg = (true, ((num T ((I_L10 11).toInt)).2 + 1), (upd (upd qq ((20 + n_)).toNat (i3 (num T ((I_L10 11).toInt)).1)) ((24 + n_)).toNat (-1)), gg) := (by unfold sDivs; rw [← inv_10.2.2.2.2.2.2, show (4 - n_).toNat = (3 - n_).toNat + 1 by omega, sDiv, if_pos k_18, if_pos (Or.inr k_65), if_neg (fun z => k82 z.2), if_neg k41, show (20 + n_).toNat = 20 + (3 - (3 - n_).toNat) by omega, show (24 + n_).toNat = 24 + (3 - (3 - n_).toNat) by omega]); rw [e]; exact ⟨K_62, (kpR.up (J := [3]) KR_15 (by decide)), rfl, P_62, (by show po ≤ ((num T ((I_L10 11).toInt)).2 + 1) ∧ ((num T ((I_L10 11).toInt)).2 + 1) ≤ _; omega), fun _ => ⟨(eq33.up Q_15), G_62⟩⟩⟩
        · skip
          rw [z_62.2.1] at c_65
          have k_65 := bI_f.mp c_65
          have P_62 : (I_62 11).toInt = (num T ((I_L10 11).toInt)).2 := z_62.2.2.2.1 k_65
          refine lv_iconst (v := 0) hx hb dX9_takesDivisors_68 (by decide) ?_
          exact q_cret (post := (fun z n1 σ1 => n1 = n ∧ ∃ I1 R1, σ1 = mS t b σ0 I1 R1 ∧ kpI [11, 13, 14] I I1 ∧ kpR [3] Rw R1 ∧ z = bI (sDivs T po q gg).1 ∧ (I1 11).toInt = (sDivs T po q gg).2.1 ∧ (po ≤ (sDivs T po q gg).2.1 ∧ (sDivs T po q gg).2.1 ≤ (I 10).toInt) ∧ ((sDivs T po q gg).1 = true → eq33 (R1 3) (sDivs T po q gg).2.2.1 ∧ I1 14 = bI (sDivs T po q gg).2.2.2))) X w dX9_takesDivisors_69 (rfl) ⟨rfl, _, _, rfl, by have e : (sDivs T po q gg).1 = false ∧ (sDivs T po q gg).2.1 = (num T ((I_L10 11).toInt)).2 := (by unfold sDivs; rw [← inv_10.2.2.2.2.2.2, show (4 - n_).toNat = (3 - n_).toNat + 1 by omega, sDiv, if_pos k_18, if_neg (fun z => z.elim k_56 k_65)]; exact ⟨rfl, rfl⟩); exact ⟨K_62, (kpR.up (J := [3]) KR_15 (by decide)), (by rw [e.1]; rfl), (by rw [e.2]; exact P_62), (by rw [e.2]; omega), fun h => absurd (h.symm.trans e.1) (by decide)⟩⟩
    · skip
      rw [z_38] at c_41
      have k_41 := bI_t.mp c_41
      rw [P_15] at k_41
      have k41 : T (num T (I_L10 11).toInt).2 = 43 := (tx_at (h_1.trans (tx_cg (K_15 10 (by decide)) (KR_15 9 (by decide)))) (by omega) (by decide)).mp k_41
      refine lv_iconst (v := 1) hx hb dX9_takesDivisors_44 (by decide) ?_
      refine lv_goto (tgt := 49) hx hb dX9_takesDivisors_45 (by decide) ?_
      refine ms_read (x := 1) X w (g_in p_30 (by omega)) dX9_takesDivisors_49 (fun H locs w => ?_)
      rw [g_tn p_30] at w
      refine lv_aload_n hx hb dX9_takesDivisors_50 rfl (lv_at hl 1 rfl) ?_
      refine lv_bipush (v := 43) hx hb dX9_takesDivisors_51 (by decide) ?_
      refine mm_cCI X w (c_X9_skips l D t b n σ0 I_15 (va_up R_15 3 (upd (R_15 3) (24 + n_).toNat 1)) T ((num T ((I_L10 11).toInt)).2) 43 43 (show (43 : Int32).toInt = 43 from rfl) (by exact h_1.trans (tx_cg (K_15 10 (by decide)) ((kpR.up (J := [3]) KR_15 (by decide)) 9 (by decide)))) (by exact P_15) (by have e10 := congrArg Int32.toInt (K_15 10 (by decide)); exact ⟨by omega, by rw [show (I_15 10).toInt = (I 10).toInt from e10]; omega, by rw [show (I_15 10).toInt = (I 10).toInt from e10]; omega⟩) (by decide)) v_X9_160 rfl rfl ⟨Nat.le_of_ble_eq_true rfl, Nat.le_of_ble_eq_true rfl⟩ rfl hl.1 (Nat.le_of_ble_eq_true rfl) dX9_takesDivisors_53 ⟨Nat.zero_le _, Nat.zero_le _⟩ (fun r_53 I_53 H locs z_53 w => ?_)
      have K_53 := kpI.tr (J := [11,13,14]) K_15 z_53.1 (by decide) (by decide)
      have E_53 : (I_15 10).toInt = (I 10).toInt := congrArg Int32.toInt (K_15 10 (by decide))
      have G_53 : I_53 14 = bI gg := (z_53.1 14 (by decide)).trans G_15
      refine lv_if_ne (tgt := 70) hx hb dX9_takesDivisors_56 (by decide) (fun c_56 => ?_) (fun c_56 => ?_)
      · skip
        rw [z_53.2.1] at c_56
        have k_56 := bI_t.mp c_56
        have P_53 : (I_53 11).toInt = ((num T ((I_L10 11).toInt)).2 + 1) := z_53.2.2.1 k_56
        have B_53 : ((num T ((I_L10 11).toInt)).2 + 1) ≤ (I 10).toInt := by omega
        obtain ⟨x_70, e_70⟩ : ∃ z : Int32, z = (v_n_ + 1) := ⟨_, rfl⟩
        have p_70 : x_70.toInt = (n_ + 1) := by rw [e_70]; exact t_add q_n_ (show (1 : Int32).toInt = 1 from rfl) (by omega) (by omega)
        refine lv_iinc (v := x_70) (lv' := [(1, .int x_70), (0, .ref (b + 45))]) hx hb dX9_takesDivisors_70 hl (k := 0) rfl (by rw [e_70]; rfl) (by decide) rfl (fun ls hl => ?_)
        refine lv_iload_n hx hb dX9_takesDivisors_73 rfl (lv_at hl 0 rfl) ?_
        refine lv_iconst (v := 4) hx hb dX9_takesDivisors_74 (by decide) ?_
        refine lv_icmp_ge (tgt := 85) hx hb dX9_takesDivisors_75 (by decide) (fun c_75 => ?_) (fun c_75 => ?_)
        · skip
          have k_75 : 4 ≤ (n_ + 1) := (g_le (show (4 : Int32).toInt = 4 from rfl) p_70).mp c_75
          refine lv_iconst (v := 1) hx hb dX9_takesDivisors_85 (by decide) ?_
          exact q_cret (post := (fun z n1 σ1 => n1 = n ∧ ∃ I1 R1, σ1 = mS t b σ0 I1 R1 ∧ kpI [11, 13, 14] I I1 ∧ kpR [3] Rw R1 ∧ z = bI (sDivs T po q gg).1 ∧ (I1 11).toInt = (sDivs T po q gg).2.1 ∧ (po ≤ (sDivs T po q gg).2.1 ∧ (sDivs T po q gg).2.1 ≤ (I 10).toInt) ∧ ((sDivs T po q gg).1 = true → eq33 (R1 3) (sDivs T po q gg).2.2.1 ∧ I1 14 = bI (sDivs T po q gg).2.2.2))) X w dX9_takesDivisors_86 (rfl) ⟨rfl, _, _, rfl, by have e : sDivs T po q gg = (true, ((num T ((I_L10 11).toInt)).2 + 1), (upd (upd qq ((20 + n_)).toNat (i3 (num T ((I_L10 11).toInt)).1)) ((24 + n_)).toNat 1), gg) := (by unfold sDivs; rw [← inv_10.2.2.2.2.2.2, show (4 - n_).toNat = (3 - n_).toNat + 1 by omega, sDiv, if_pos k_18, if_pos (Or.inl k_56), if_neg (fun z => absurd z.1 (by omega)), if_pos k41, show (20 + n_).toNat = 20 + (3 - (3 - n_).toNat) by omega, show (24 + n_).toNat = 24 + (3 - (3 - n_).toNat) by omega]); rw [e]; exact ⟨K_53, (kpR.up (J := [3]) KR_15 (by decide)), rfl, P_53, (by show po ≤ ((num T ((I_L10 11).toInt)).2 + 1) ∧ ((num T ((I_L10 11).toInt)).2 + 1) ≤ _; omega), fun _ => ⟨(eq33.up Q_15), G_53⟩⟩⟩
        · skip
          have k_75 : ¬ (4 ≤ (n_ + 1)) := fun h => c_75 ((g_le (show (4 : Int32).toInt = 4 from rfl) p_70).mpr h)
          refine lv_aload_n hx hb dX9_takesDivisors_78 rfl (lv_at hl 1 rfl) ?_
          refine q_cPV X w (c_X9_isDigit l D t b n σ0 I_53 (va_up R_15 3 (upd (R_15 3) (24 + n_).toNat 1)) (by have e10 := congrArg Int32.toInt (K_53 10 (by decide)); rw [show (I_53 10).toInt = (I 10).toInt from e10]; have e11 := P_53; omega)) v_X9_156 (k := 45) rfl rfl rfl ⟨Nat.le_of_ble_eq_true rfl, Nat.le_of_ble_eq_true rfl⟩ rfl hl.1 (Nat.le_of_ble_eq_true rfl) dX9_takesDivisors_79 ⟨Nat.zero_le _, Nat.zero_le _⟩ (fun r_79 z_79 => ?_)
          refine lv_if_ne (tgt := 10) hx hb dX9_takesDivisors_82 (by decide) (fun c_82 => ?_) (fun c_82 => ?_)
          · skip
            rw [z_79] at c_82
            have k_82 := bI_t.mp c_82
            rw [P_53] at k_82
            have k82 : dg T ((num T (I_L10 11).toInt).2 + 1) := (tx_dg (h_1.trans (tx_cg (K_53 10 (by decide)) ((kpR.up (J := [3]) KR_15 (by decide)) 9 (by decide)))) (by omega)).mp k_82
            refine ih_10 ⟨x_70, (n_ + 1), (upd (upd qq ((20 + n_)).toNat (i3 (num T ((I_L10 11).toInt)).1)) ((24 + n_)).toNat 1), I_53, (va_up R_15 3 (upd (R_15 3) (24 + n_).toNat 1))⟩ ⟨p_70, by dsimp only; refine ⟨K_53, (kpR.up (J := [3]) KR_15 (by decide)), (eq33.up Q_15), G_53, by omega, by omega, ?_⟩; have e := inv_10.2.2.2.2.2.2; rw [show (4 - n_).toNat = (3 - n_).toNat + 1 by omega, sDiv, if_pos k_18, if_pos (Or.inl k_56), if_pos ⟨by omega, k82⟩, if_pos k41] at e; rw [P_53, ← e, show (20 + n_).toNat = 20 + (3 - (3 - n_).toNat) by omega, show (24 + n_).toNat = 24 + (3 - (3 - n_).toNat) by omega, show (4 - (n_ + 1)).toNat = (3 - n_).toNat by omega]⟩ (by dsimp only; omega) _ _ w ls (lv_sub hl [0, 1] rfl)
          · skip
            rw [z_79] at c_82
            have k_82 := bI_f.mp c_82
            rw [P_53] at k_82
            have k82 : ¬ dg T ((num T (I_L10 11).toInt).2 + 1) := fun z => k_82 ((tx_dg (h_1.trans (tx_cg (K_53 10 (by decide)) ((kpR.up (J := [3]) KR_15 (by decide)) 9 (by decide)))) (by omega)).mpr z)
            refine lv_iconst (v := 1) hx hb dX9_takesDivisors_85 (by decide) ?_
            exact q_cret (post := (fun z n1 σ1 => n1 = n ∧ ∃ I1 R1, σ1 = mS t b σ0 I1 R1 ∧ kpI [11, 13, 14] I I1 ∧ kpR [3] Rw R1 ∧ z = bI (sDivs T po q gg).1 ∧ (I1 11).toInt = (sDivs T po q gg).2.1 ∧ (po ≤ (sDivs T po q gg).2.1 ∧ (sDivs T po q gg).2.1 ≤ (I 10).toInt) ∧ ((sDivs T po q gg).1 = true → eq33 (R1 3) (sDivs T po q gg).2.2.1 ∧ I1 14 = bI (sDivs T po q gg).2.2.2))) X w dX9_takesDivisors_86 (rfl) ⟨rfl, _, _, rfl, by have e : sDivs T po q gg = (true, ((num T ((I_L10 11).toInt)).2 + 1), (upd (upd qq ((20 + n_)).toNat (i3 (num T ((I_L10 11).toInt)).1)) ((24 + n_)).toNat 1), gg) := (by unfold sDivs; rw [← inv_10.2.2.2.2.2.2, show (4 - n_).toNat = (3 - n_).toNat + 1 by omega, sDiv, if_pos k_18, if_pos (Or.inl k_56), if_neg (fun z => k82 z.2), if_pos k41, show (20 + n_).toNat = 20 + (3 - (3 - n_).toNat) by omega, show (24 + n_).toNat = 24 + (3 - (3 - n_).toNat) by omega]); rw [e]; exact ⟨K_53, (kpR.up (J := [3]) KR_15 (by decide)), rfl, P_53, (by show po ≤ ((num T ((I_L10 11).toInt)).2 + 1) ∧ ((num T ((I_L10 11).toInt)).2 + 1) ≤ _; omega), fun _ => ⟨(eq33.up Q_15), G_53⟩⟩⟩
      · skip
        rw [z_53.2.1] at c_56
        have k_56 := bI_f.mp c_56
        have P_53 : (I_53 11).toInt = (num T ((I_L10 11).toInt)).2 := z_53.2.2.2.1 k_56
        refine lv_aload_n hx hb dX9_takesDivisors_59 rfl (lv_at hl 1 rfl) ?_
        refine lv_bipush (v := 45) hx hb dX9_takesDivisors_60 (by decide) ?_
        refine mm_cCI X w (c_X9_skips l D t b n σ0 I_53 (va_up R_15 3 (upd (R_15 3) (24 + n_).toNat 1)) T ((num T ((I_L10 11).toInt)).2) 45 45 (show (45 : Int32).toInt = 45 from rfl) (by exact h_1.trans (tx_cg (K_53 10 (by decide)) ((kpR.up (J := [3]) KR_15 (by decide)) 9 (by decide)))) (by exact P_53) (by have e10 := congrArg Int32.toInt (K_53 10 (by decide)); exact ⟨by omega, by rw [show (I_53 10).toInt = (I 10).toInt from e10]; omega, by rw [show (I_53 10).toInt = (I 10).toInt from e10]; omega⟩) (by decide)) v_X9_160 rfl rfl ⟨Nat.le_of_ble_eq_true rfl, Nat.le_of_ble_eq_true rfl⟩ rfl hl.1 (Nat.le_of_ble_eq_true rfl) dX9_takesDivisors_62 ⟨Nat.zero_le _, Nat.zero_le _⟩ (fun r_62 I_62 H locs z_62 w => ?_)
        have K_62 := kpI.tr (J := [11,13,14]) K_53 z_62.1 (by decide) (by decide)
        have E_62 : (I_53 10).toInt = (I 10).toInt := congrArg Int32.toInt (K_53 10 (by decide))
        have G_62 : I_62 14 = bI gg := (z_62.1 14 (by decide)).trans G_53
        refine lv_if_ne (tgt := 70) hx hb dX9_takesDivisors_65 (by decide) (fun c_65 => ?_) (fun c_65 => ?_)
        · skip
          rw [z_62.2.1] at c_65
          have k_65 := bI_t.mp c_65
          have P_62 : (I_62 11).toInt = ((num T ((I_L10 11).toInt)).2 + 1) := z_62.2.2.1 k_65
          have B_62 : ((num T ((I_L10 11).toInt)).2 + 1) ≤ (I 10).toInt := by omega
          obtain ⟨x_70, e_70⟩ : ∃ z : Int32, z = (v_n_ + 1) := ⟨_, rfl⟩
          have p_70 : x_70.toInt = (n_ + 1) := by rw [e_70]; exact t_add q_n_ (show (1 : Int32).toInt = 1 from rfl) (by omega) (by omega)
          refine lv_iinc (v := x_70) (lv' := [(1, .int x_70), (0, .ref (b + 45))]) hx hb dX9_takesDivisors_70 hl (k := 0) rfl (by rw [e_70]; rfl) (by decide) rfl (fun ls hl => ?_)
          refine lv_iload_n hx hb dX9_takesDivisors_73 rfl (lv_at hl 0 rfl) ?_
          refine lv_iconst (v := 4) hx hb dX9_takesDivisors_74 (by decide) ?_
          refine lv_icmp_ge (tgt := 85) hx hb dX9_takesDivisors_75 (by decide) (fun c_75 => ?_) (fun c_75 => ?_)
          · skip
            have k_75 : 4 ≤ (n_ + 1) := (g_le (show (4 : Int32).toInt = 4 from rfl) p_70).mp c_75
            refine lv_iconst (v := 1) hx hb dX9_takesDivisors_85 (by decide) ?_
            exact q_cret (post := (fun z n1 σ1 => n1 = n ∧ ∃ I1 R1, σ1 = mS t b σ0 I1 R1 ∧ kpI [11, 13, 14] I I1 ∧ kpR [3] Rw R1 ∧ z = bI (sDivs T po q gg).1 ∧ (I1 11).toInt = (sDivs T po q gg).2.1 ∧ (po ≤ (sDivs T po q gg).2.1 ∧ (sDivs T po q gg).2.1 ≤ (I 10).toInt) ∧ ((sDivs T po q gg).1 = true → eq33 (R1 3) (sDivs T po q gg).2.2.1 ∧ I1 14 = bI (sDivs T po q gg).2.2.2))) X w dX9_takesDivisors_86 (rfl) ⟨rfl, _, _, rfl, by exact absurd k41 k_56⟩
          · skip
            have k_75 : ¬ (4 ≤ (n_ + 1)) := fun h => c_75 ((g_le (show (4 : Int32).toInt = 4 from rfl) p_70).mpr h)
            refine lv_aload_n hx hb dX9_takesDivisors_78 rfl (lv_at hl 1 rfl) ?_
            refine q_cPV X w (c_X9_isDigit l D t b n σ0 I_62 (va_up R_15 3 (upd (R_15 3) (24 + n_).toNat 1)) (by have e10 := congrArg Int32.toInt (K_62 10 (by decide)); rw [show (I_62 10).toInt = (I 10).toInt from e10]; have e11 := P_62; omega)) v_X9_156 (k := 45) rfl rfl rfl ⟨Nat.le_of_ble_eq_true rfl, Nat.le_of_ble_eq_true rfl⟩ rfl hl.1 (Nat.le_of_ble_eq_true rfl) dX9_takesDivisors_79 ⟨Nat.zero_le _, Nat.zero_le _⟩ (fun r_79 z_79 => ?_)
            refine lv_if_ne (tgt := 10) hx hb dX9_takesDivisors_82 (by decide) (fun c_82 => ?_) (fun c_82 => ?_)
            · skip
              rw [z_79] at c_82
              have k_82 := bI_t.mp c_82
              rw [P_62] at k_82
              have k82 : dg T ((num T (I_L10 11).toInt).2 + 1) := (tx_dg (h_1.trans (tx_cg (K_62 10 (by decide)) ((kpR.up (J := [3]) KR_15 (by decide)) 9 (by decide)))) (by omega)).mp k_82
              refine ih_10 ⟨x_70, (n_ + 1), (upd (upd qq ((20 + n_)).toNat (i3 (num T ((I_L10 11).toInt)).1)) ((24 + n_)).toNat 1), I_62, (va_up R_15 3 (upd (R_15 3) (24 + n_).toNat 1))⟩ ⟨p_70, by exact absurd k41 k_56⟩ (by dsimp only; omega) _ _ w ls (lv_sub hl [0, 1] rfl)
            · skip
              rw [z_79] at c_82
              have k_82 := bI_f.mp c_82
              rw [P_62] at k_82
              have k82 : ¬ dg T ((num T (I_L10 11).toInt).2 + 1) := fun z => k_82 ((tx_dg (h_1.trans (tx_cg (K_62 10 (by decide)) ((kpR.up (J := [3]) KR_15 (by decide)) 9 (by decide)))) (by omega)).mpr z)
              refine lv_iconst (v := 1) hx hb dX9_takesDivisors_85 (by decide) ?_
              exact q_cret (post := (fun z n1 σ1 => n1 = n ∧ ∃ I1 R1, σ1 = mS t b σ0 I1 R1 ∧ kpI [11, 13, 14] I I1 ∧ kpR [3] Rw R1 ∧ z = bI (sDivs T po q gg).1 ∧ (I1 11).toInt = (sDivs T po q gg).2.1 ∧ (po ≤ (sDivs T po q gg).2.1 ∧ (sDivs T po q gg).2.1 ≤ (I 10).toInt) ∧ ((sDivs T po q gg).1 = true → eq33 (R1 3) (sDivs T po q gg).2.2.1 ∧ I1 14 = bI (sDivs T po q gg).2.2.2))) X w dX9_takesDivisors_86 (rfl) ⟨rfl, _, _, rfl, by exact absurd k41 k_56⟩
        · skip
          rw [z_62.2.1] at c_65
          have k_65 := bI_f.mp c_65
          have P_62 : (I_62 11).toInt = (num T ((I_L10 11).toInt)).2 := z_62.2.2.2.1 k_65
          refine lv_iconst (v := 0) hx hb dX9_takesDivisors_68 (by decide) ?_
          exact q_cret (post := (fun z n1 σ1 => n1 = n ∧ ∃ I1 R1, σ1 = mS t b σ0 I1 R1 ∧ kpI [11, 13, 14] I I1 ∧ kpR [3] Rw R1 ∧ z = bI (sDivs T po q gg).1 ∧ (I1 11).toInt = (sDivs T po q gg).2.1 ∧ (po ≤ (sDivs T po q gg).2.1 ∧ (sDivs T po q gg).2.1 ≤ (I 10).toInt) ∧ ((sDivs T po q gg).1 = true → eq33 (R1 3) (sDivs T po q gg).2.2.1 ∧ I1 14 = bI (sDivs T po q gg).2.2.2))) X w dX9_takesDivisors_69 (rfl) ⟨rfl, _, _, rfl, by exact absurd k41 k_56⟩
  · skip
    rw [z_15.2.2.1] at c_18
    have k_18 := bI_f.mp c_18
    have P_15 : (I_15 11).toInt = (I_L10 11).toInt := (z_15.2.2.2.2.1 k_18).1
    have Q_15 : eq33 (R_15 3) qq := by rw [(z_15.2.2.2.2.1 k_18).2]; exact inv_10.2.2.1
    refine lv_iconst (v := 0) hx hb dX9_takesDivisors_21 (by decide) ?_
    exact q_cret (post := (fun z n1 σ1 => n1 = n ∧ ∃ I1 R1, σ1 = mS t b σ0 I1 R1 ∧ kpI [11, 13, 14] I I1 ∧ kpR [3] Rw R1 ∧ z = bI (sDivs T po q gg).1 ∧ (I1 11).toInt = (sDivs T po q gg).2.1 ∧ (po ≤ (sDivs T po q gg).2.1 ∧ (sDivs T po q gg).2.1 ≤ (I 10).toInt) ∧ ((sDivs T po q gg).1 = true → eq33 (R1 3) (sDivs T po q gg).2.2.1 ∧ I1 14 = bI (sDivs T po q gg).2.2.2))) X w dX9_takesDivisors_22 (rfl) ⟨rfl, _, _, rfl, by have e : (sDivs T po q gg).1 = false ∧ (sDivs T po q gg).2.1 = (I_L10 11).toInt := (by unfold sDivs; rw [← inv_10.2.2.2.2.2.2, show (4 - n_).toNat = (3 - n_).toNat + 1 by omega, sDiv, if_neg k_18]; exact ⟨rfl, rfl⟩); exact ⟨K_15, KR_15, (by rw [e.1]; rfl), (by rw [e.2]; exact P_15), (by rw [e.2]; omega), fun h => absurd (h.symm.trans e.1) (by decide)⟩⟩

set_option maxHeartbeats 4000000 in
set_option maxRecDepth 100000 in
theorem c_X9_takesRemainder (l : Launch) (D : va_G) (t : Nat → ClassId) (b n : Nat) (σ0 : qM) (I : Nat → Int32) (Rw : Nat → Nat → Int32) (T : Int → Int) (po : Int) (q : Nat → Int32) (gg : Bool) (h_1 : T = tx I Rw) (h_2 : (I 11).toInt = po) (h_3 : 0 ≤ po ∧ po ≤ (I 10).toInt ∧ (I 10).toInt ≤ 100) (h_4 : eq33 (Rw 3) q) (h_5 : I 14 = bI gg) : mC l yX9_takesRemainder cX9_takesRemainder 2 (some .boolean) 3 D t b n σ0 I Rw [.ref (b + 45)] (fun z I1 R1 => kpI [11, 13, 14] I I1 ∧ kpR [3] Rw R1 ∧ z = bI (sR1 T po q gg).1 ∧ (I1 11).toInt = (sR1 T po q gg).2.1 ∧ (po ≤ (sR1 T po q gg).2.1 ∧ (sR1 T po q gg).2.1 ≤ (I 10).toInt) ∧ ((sR1 T po q gg).1 = true → eq33 (R1 3) (sR1 T po q gg).2.2.1 ∧ I1 14 = bI (sR1 T po q gg).2.2.2)) := by
  refine qC.of (by decide +kernel) (Nat.le_of_ble_eq_true rfl) (fun p e s m args below meth c X w ls hl => ?_)
  have hx := X.1
  have hb := X.2.1
  have hl : lv_has ls 2 [(0, .ref (b + 45))] := hl
  refine lv_aload_n hx hb dX9_takesRemainder_0 rfl (lv_at hl 0 rfl) ?_
  refine mg_read X w dX9_takesRemainder_1 ?_
  refine lv_bipush (v := 29) hx hb dX9_takesRemainder_4 (by decide) ?_
  refine ml_read X w (g_in (show (29 : Int32).toInt = 29 from rfl) (by omega)) dX9_takesRemainder_6 ?_
  refine q_topE (y := Rw 3 (29 : Int).toNat) (congrArg (Rw 3) (g_tn (show (29 : Int32).toInt = 29 from rfl))) ?_
  refine lv_istore_n (lv' := [(1, .int (Rw 3 (29 : Int).toNat)), (0, .ref (b + 45))]) hx hb dX9_takesRemainder_7 rfl hl (by decide) rfl (fun ls hl => ?_)
  refine lv_aload_n hx hb dX9_takesRemainder_8 rfl (lv_at hl 1 rfl) ?_
  refine lv_bipush (v := 29) hx hb dX9_takesRemainder_9 (by decide) ?_
  refine mm_cC X w (c_X9_takes l D t b n σ0 I Rw T po 29 29 (show (29 : Int32).toInt = 29 from rfl) (by exact h_1.trans (tx_cg ((kpI.rf (J := [11,13,14]) (I := I)) 10 (by decide)) ((kpR.rf (J := [3]) (R := Rw)) 9 (by decide)))) (by exact h_2) (by have e10 := congrArg Int32.toInt ((kpI.rf (J := [11,13,14]) (I := I)) 10 (by decide)); exact ⟨by omega, by rw [show (I 10).toInt = (I 10).toInt from e10]; omega, by rw [show (I 10).toInt = (I 10).toInt from e10]; omega⟩) (by decide)) v_X9_163 rfl rfl ⟨Nat.le_of_ble_eq_true rfl, Nat.le_of_ble_eq_true rfl⟩ rfl hl.1 (Nat.le_of_ble_eq_true rfl) dX9_takesRemainder_11 ⟨Nat.zero_le _, Nat.zero_le _⟩ (fun r_11 I_11 R_11 H locs z_11 w => ?_)
  have K_11 := kpI.tr (J := [11,13,14]) (kpI.rf (J := [11,13,14]) (I := I)) z_11.1 (by decide) (by decide)
  have KR_11 := kpR.tr (J := [3]) (kpR.rf (J := [3]) (R := Rw)) z_11.2.1 (by decide) (by decide)
  have E_11 : (I 10).toInt = (I 10).toInt := congrArg Int32.toInt ((kpI.rf (J := [11,13,14]) (I := I)) 10 (by decide))
  have G_11 : I_11 14 = bI gg := (z_11.1 14 (by decide)).trans h_5
  refine lv_if_ne (tgt := 19) hx hb dX9_takesRemainder_14 (by decide) (fun c_14 => ?_) (fun c_14 => ?_)
  · skip
    rw [z_11.2.2.1] at c_14
    have k_14 := bI_t.mp c_14
    have P_11 : (I_11 11).toInt = (num T po).2 := (z_11.2.2.2.1 k_14).1
    have Q_11 : eq33 (R_11 3) (upd q 29 (i3 (num T po).1)) := by rw [(z_11.2.2.2.1 k_14).2]; exact eq33.up h_4
    have B_11 : po < (num T po).2 ∧ (num T po).2 ≤ (I 10).toInt := ⟨num_gt k_14, by omega⟩
    refine lv_aload_n hx hb dX9_takesRemainder_19 rfl (lv_at hl 1 rfl) ?_
    refine lv_aload_n hx hb dX9_takesRemainder_20 rfl (lv_at hl 1 rfl) ?_
    refine mg_read X w dX9_takesRemainder_21 ?_
    refine lv_bipush (v := 29) hx hb dX9_takesRemainder_24 (by decide) ?_
    refine ml_read X w (g_in (show (29 : Int32).toInt = 29 from rfl) (by omega)) dX9_takesRemainder_26 ?_
    refine q_topE (y := R_11 3 (29 : Int).toNat) (congrArg (R_11 3) (g_tn (show (29 : Int32).toInt = 29 from rfl))) ?_
    have e26 : R_11 3 (29 : Int).toNat = i3 (num T po).1 := (Q_11 29 (by decide)).trans (upd_s _ _ _)
    refine mp_remainder (v := (R_11 3 (29 : Int).toNat)) X w dX9_takesRemainder_27 (fun H locs w => ?_)
    refine lv_aload_n hx hb dX9_takesRemainder_30 rfl (lv_at hl 1 rfl) ?_
    refine mg_read X w dX9_takesRemainder_31 ?_
    refine lv_bipush (v := 29) hx hb dX9_takesRemainder_34 (by decide) ?_
    refine lv_iload_n hx hb dX9_takesRemainder_36 rfl (lv_at hl 0 rfl) ?_
    refine ms_read (x := (Rw 3 (29 : Int).toNat)) X w (g_in (show (29 : Int32).toInt = 29 from rfl) (by omega)) dX9_takesRemainder_37 (fun H locs w => ?_)
    rw [g_tn (show (29 : Int32).toInt = 29 from rfl)] at w
    refine lv_aload_n hx hb dX9_takesRemainder_38 rfl (lv_at hl 1 rfl) ?_
    refine lv_aload_n hx hb dX9_takesRemainder_39 rfl (lv_at hl 1 rfl) ?_
    refine mg_isTooGreat X w dX9_takesRemainder_40 ?_
    refine lv_if_ne (tgt := 60) hx hb dX9_takesRemainder_43 (by decide) (fun c_43 => ?_) (fun c_43 => ?_)
    · skip
      have k_43 : ¬ (((I 14).toInt) = 0) := fun h => c_43 ((g_eq ((congrArg Int32.toInt (z_11.1 14 (by decide))).trans rfl) (show (0 : Int32).toInt = 0 from rfl)).mpr h)
      refine lv_iconst (v := 1) hx hb dX9_takesRemainder_60 (by decide) ?_
      refine lv_goto (tgt := 65) hx hb dX9_takesRemainder_61 (by decide) ?_
      refine mp_isTooGreat (v := 1) X w dX9_takesRemainder_65 (rfl) (rfl) (fun H locs w => ?_)
      refine lv_aload_n hx hb dX9_takesRemainder_68 rfl (lv_at hl 1 rfl) ?_
      refine mg_remainder X w dX9_takesRemainder_69 ?_
      refine q_topE (y := (R_11 3 (29 : Int).toNat)) rfl ?_
      refine lv_bipush (v := 30) hx hb dX9_takesRemainder_72 (by decide) ?_
      refine lv_icmp_ge (tgt := 93) hx hb dX9_takesRemainder_74 (by decide) (fun c_74 => ?_) (fun c_74 => ?_)
      · skip
        have k_74 : 30 ≤ ((num T po).1) := (g_le (show (30 : Int32).toInt = 30 from rfl) ((congrArg Int32.toInt e26).trans (i3_v po))).mp c_74
        refine lv_iconst (v := 1) hx hb dX9_takesRemainder_93 (by decide) ?_
        exact q_cret (post := (fun z n1 σ1 => n1 = n ∧ ∃ I1 R1, σ1 = mS t b σ0 I1 R1 ∧ kpI [11, 13, 14] I I1 ∧ kpR [3] Rw R1 ∧ z = bI (sR1 T po q gg).1 ∧ (I1 11).toInt = (sR1 T po q gg).2.1 ∧ (po ≤ (sR1 T po q gg).2.1 ∧ (sR1 T po q gg).2.1 ≤ (I 10).toInt) ∧ ((sR1 T po q gg).1 = true → eq33 (R1 3) (sR1 T po q gg).2.2.1 ∧ I1 14 = bI (sR1 T po q gg).2.2.2))) X w dX9_takesRemainder_94 (rfl) ⟨rfl, _, _, rfl, by have e0 : Rw 3 (29 : Int).toNat = q 29 := h_4 29 (by decide); have hg : (gg || decide ((q 28).toInt ≤ (num T po).1)) = true := (by cases gg with | true => rfl | false => exact absurd (congrArg Int32.toInt h_5) k_43); have e : sR1 T po q gg = (true, (num T po).2, sRem1 q (num T po).1, true) := (by unfold sR1; rw [if_pos k_14, hg]); have er : (upd (upd q 29 (i3 (num T po).1)) 29 (Rw 3 (29 : Int).toNat)) = sRem1 q (num T po).1 := (by unfold sRem1; rw [if_neg (show ¬ (num T po).1 < 30 by omega), upd_upd, e0, upd_id]); have Q9 : eq33 ((va_up R_11 3 (upd (R_11 3) (29 : Int).toNat (Rw 3 (29 : Int).toNat))) 3) (upd (upd q 29 (i3 (num T po).1)) 29 (Rw 3 (29 : Int).toNat)) := (eq33.up Q_11); rw [er] at Q9; rw [e]; exact ⟨(kpI.up (J := [11,13,14]) (kpI.up (J := [11,13,14]) K_11 (by decide)) (by decide)), (kpR.up (J := [3]) KR_11 (by decide)), rfl, P_11, (by show po ≤ (num T po).2 ∧ (num T po).2 ≤ _; omega), fun _ => ⟨Q9, rfl⟩⟩⟩
      · skip
        have k_74 : ¬ (30 ≤ ((num T po).1)) := fun h => c_74 ((g_le (show (30 : Int32).toInt = 30 from rfl) ((congrArg Int32.toInt e26).trans (i3_v po))).mpr h)
        refine lv_aload_n hx hb dX9_takesRemainder_77 rfl (lv_at hl 1 rfl) ?_
        refine mg_read X w dX9_takesRemainder_78 ?_
        refine lv_bipush (v := 29) hx hb dX9_takesRemainder_81 (by decide) ?_
        refine lv_dup2_11 hx hb dX9_takesRemainder_83 rfl rfl ?_
        refine ml_read X w (g_in (show (29 : Int32).toInt = 29 from rfl) (by omega)) dX9_takesRemainder_84 ?_
        refine q_topE (y := (va_up R_11 3 (upd (R_11 3) (29 : Int).toNat (Rw 3 (29 : Int).toNat))) 3 (29 : Int).toNat) (congrArg ((va_up R_11 3 (upd (R_11 3) (29 : Int).toNat (Rw 3 (29 : Int).toNat))) 3) (g_tn (show (29 : Int32).toInt = 29 from rfl))) ?_
        refine lv_iconst (v := 1) hx hb dX9_takesRemainder_85 (by decide) ?_
        refine lv_aload_n hx hb dX9_takesRemainder_86 rfl (lv_at hl 1 rfl) ?_
        refine mg_remainder X w dX9_takesRemainder_87 ?_
        refine q_topE (y := (R_11 3 (29 : Int).toNat)) rfl ?_
        refine lv_ishl hx hb dX9_takesRemainder_90 ?_
        refine lv_ior hx hb dX9_takesRemainder_91 ?_
        refine ms_read (x := (((va_up R_11 3 (upd (R_11 3) (29 : Int).toNat (Rw 3 (29 : Int).toNat))) 3 (29 : Int).toNat) ||| (1 <<< ((R_11 3 (29 : Int).toNat) &&& 31)))) X w (g_in (show (29 : Int32).toInt = 29 from rfl) (by omega)) dX9_takesRemainder_92 (fun H locs w => ?_)
        rw [g_tn (show (29 : Int32).toInt = 29 from rfl)] at w
        refine lv_iconst (v := 1) hx hb dX9_takesRemainder_93 (by decide) ?_
        exact q_cret (post := (fun z n1 σ1 => n1 = n ∧ ∃ I1 R1, σ1 = mS t b σ0 I1 R1 ∧ kpI [11, 13, 14] I I1 ∧ kpR [3] Rw R1 ∧ z = bI (sR1 T po q gg).1 ∧ (I1 11).toInt = (sR1 T po q gg).2.1 ∧ (po ≤ (sR1 T po q gg).2.1 ∧ (sR1 T po q gg).2.1 ≤ (I 10).toInt) ∧ ((sR1 T po q gg).1 = true → eq33 (R1 3) (sR1 T po q gg).2.2.1 ∧ I1 14 = bI (sR1 T po q gg).2.2.2))) X w dX9_takesRemainder_94 (rfl) ⟨rfl, _, _, rfl, by have e0 : Rw 3 (29 : Int).toNat = q 29 := h_4 29 (by decide); have hg : (gg || decide ((q 28).toInt ≤ (num T po).1)) = true := (by cases gg with | true => rfl | false => exact absurd (congrArg Int32.toInt h_5) k_43); have e : sR1 T po q gg = (true, (num T po).2, sRem1 q (num T po).1, true) := (by unfold sR1; rw [if_pos k_14, hg]); have ev : (((va_up R_11 3 (upd (R_11 3) (29 : Int).toNat (Rw 3 (29 : Int).toNat))) 3 (29 : Int).toNat) ||| (1 <<< ((R_11 3 (29 : Int).toNat) &&& 31))) = q 29 ||| ((1 : Int32) <<< (i3 (num T po).1 &&& 31)) := (by rw [show (va_up R_11 3 (upd (R_11 3) (29 : Int).toNat (Rw 3 (29 : Int).toNat)) 3 (29 : Int).toNat) = q 29 from (up_s _ _ _ _ _).trans e0, e26]); have er : (upd (upd (upd q 29 (i3 (num T po).1)) 29 (Rw 3 (29 : Int).toNat)) 29 (((va_up R_11 3 (upd (R_11 3) (29 : Int).toNat (Rw 3 (29 : Int).toNat))) 3 (29 : Int).toNat) ||| (1 <<< ((R_11 3 (29 : Int).toNat) &&& 31)))) = sRem1 q (num T po).1 := (by unfold sRem1; rw [if_pos (show (num T po).1 < 30 by omega), upd_upd, upd_upd]; rw [ev]); have Q9 : eq33 ((va_up (va_up R_11 3 (upd (R_11 3) (29 : Int).toNat (Rw 3 (29 : Int).toNat))) 3 (upd ((va_up R_11 3 (upd (R_11 3) (29 : Int).toNat (Rw 3 (29 : Int).toNat))) 3) (29 : Int).toNat (((va_up R_11 3 (upd (R_11 3) (29 : Int).toNat (Rw 3 (29 : Int).toNat))) 3 (29 : Int).toNat) ||| (1 <<< ((R_11 3 (29 : Int).toNat) &&& 31))))) 3) (upd (upd (upd q 29 (i3 (num T po).1)) 29 (Rw 3 (29 : Int).toNat)) 29 (((va_up R_11 3 (upd (R_11 3) (29 : Int).toNat (Rw 3 (29 : Int).toNat))) 3 (29 : Int).toNat) ||| (1 <<< ((R_11 3 (29 : Int).toNat) &&& 31)))) := (eq33.up (eq33.up Q_11)); rw [er] at Q9; rw [e]; exact ⟨(kpI.up (J := [11,13,14]) (kpI.up (J := [11,13,14]) K_11 (by decide)) (by decide)), (kpR.up (J := [3]) (kpR.up (J := [3]) KR_11 (by decide)) (by decide)), rfl, P_11, (by show po ≤ (num T po).2 ∧ (num T po).2 ≤ _; omega), fun _ => ⟨Q9, rfl⟩⟩⟩
    · skip
      have k_43 : ((I 14).toInt) = 0 := (g_eq ((congrArg Int32.toInt (z_11.1 14 (by decide))).trans rfl) (show (0 : Int32).toInt = 0 from rfl)).mp c_43
      refine lv_aload_n hx hb dX9_takesRemainder_46 rfl (lv_at hl 1 rfl) ?_
      refine mg_remainder X w dX9_takesRemainder_47 ?_
      refine q_topE (y := (R_11 3 (29 : Int).toNat)) rfl ?_
      refine lv_aload_n hx hb dX9_takesRemainder_50 rfl (lv_at hl 1 rfl) ?_
      refine mg_read X w dX9_takesRemainder_51 ?_
      refine lv_bipush (v := 28) hx hb dX9_takesRemainder_54 (by decide) ?_
      refine ml_read X w (g_in (show (28 : Int32).toInt = 28 from rfl) (by omega)) dX9_takesRemainder_56 ?_
      refine q_topE (y := (va_up R_11 3 (upd (R_11 3) (29 : Int).toNat (Rw 3 (29 : Int).toNat))) 3 (28 : Int).toNat) (congrArg ((va_up R_11 3 (upd (R_11 3) (29 : Int).toNat (Rw 3 (29 : Int).toNat))) 3) (g_tn (show (28 : Int32).toInt = 28 from rfl))) ?_
      have e56 : (va_up R_11 3 (upd (R_11 3) (29 : Int).toNat (Rw 3 (29 : Int).toNat)) 3 (28 : Int).toNat) = q 28 := (up_n _ _ _ _ (by decide)).trans ((Q_11 28 (by decide)).trans (upd_n _ _ (by decide)))
      refine lv_icmp_lt (tgt := 64) hx hb dX9_takesRemainder_57 (by decide) (fun c_57 => ?_) (fun c_57 => ?_)
      · skip
        have k_57 : ((num T po).1) < ((q 28).toInt) := (g_lt ((congrArg Int32.toInt e26).trans (i3_v po)) (congrArg Int32.toInt e56)).mp c_57
        refine lv_iconst (v := 0) hx hb dX9_takesRemainder_64 (by decide) ?_
        refine mp_isTooGreat (v := 0) X w dX9_takesRemainder_65 (rfl) (rfl) (fun H locs w => ?_)
        refine lv_aload_n hx hb dX9_takesRemainder_68 rfl (lv_at hl 1 rfl) ?_
        refine mg_remainder X w dX9_takesRemainder_69 ?_
        refine q_topE (y := (R_11 3 (29 : Int).toNat)) rfl ?_
        refine lv_bipush (v := 30) hx hb dX9_takesRemainder_72 (by decide) ?_
        refine lv_icmp_ge (tgt := 93) hx hb dX9_takesRemainder_74 (by decide) (fun c_74 => ?_) (fun c_74 => ?_)
        · skip
          have k_74 : 30 ≤ ((num T po).1) := (g_le (show (30 : Int32).toInt = 30 from rfl) ((congrArg Int32.toInt e26).trans (i3_v po))).mp c_74
          refine lv_iconst (v := 1) hx hb dX9_takesRemainder_93 (by decide) ?_
          exact q_cret (post := (fun z n1 σ1 => n1 = n ∧ ∃ I1 R1, σ1 = mS t b σ0 I1 R1 ∧ kpI [11, 13, 14] I I1 ∧ kpR [3] Rw R1 ∧ z = bI (sR1 T po q gg).1 ∧ (I1 11).toInt = (sR1 T po q gg).2.1 ∧ (po ≤ (sR1 T po q gg).2.1 ∧ (sR1 T po q gg).2.1 ≤ (I 10).toInt) ∧ ((sR1 T po q gg).1 = true → eq33 (R1 3) (sR1 T po q gg).2.2.1 ∧ I1 14 = bI (sR1 T po q gg).2.2.2))) X w dX9_takesRemainder_94 (rfl) ⟨rfl, _, _, rfl, by have e0 : Rw 3 (29 : Int).toNat = q 29 := h_4 29 (by decide); have hg : (gg || decide ((q 28).toInt ≤ (num T po).1)) = false := (by cases gg with | true => exact absurd ((congrArg Int32.toInt h_5).symm.trans k_43) (by decide) | false => exact decide_eq_false (Int.not_le.mpr k_57)); have e : sR1 T po q gg = (true, (num T po).2, sRem1 q (num T po).1, false) := (by unfold sR1; rw [if_pos k_14, hg]); have er : (upd (upd q 29 (i3 (num T po).1)) 29 (Rw 3 (29 : Int).toNat)) = sRem1 q (num T po).1 := (by unfold sRem1; rw [if_neg (show ¬ (num T po).1 < 30 by omega), upd_upd, e0, upd_id]); have Q9 : eq33 ((va_up R_11 3 (upd (R_11 3) (29 : Int).toNat (Rw 3 (29 : Int).toNat))) 3) (upd (upd q 29 (i3 (num T po).1)) 29 (Rw 3 (29 : Int).toNat)) := (eq33.up Q_11); rw [er] at Q9; rw [e]; exact ⟨(kpI.up (J := [11,13,14]) (kpI.up (J := [11,13,14]) K_11 (by decide)) (by decide)), (kpR.up (J := [3]) KR_11 (by decide)), rfl, P_11, (by show po ≤ (num T po).2 ∧ (num T po).2 ≤ _; omega), fun _ => ⟨Q9, rfl⟩⟩⟩
        · skip
          have k_74 : ¬ (30 ≤ ((num T po).1)) := fun h => c_74 ((g_le (show (30 : Int32).toInt = 30 from rfl) ((congrArg Int32.toInt e26).trans (i3_v po))).mpr h)
          refine lv_aload_n hx hb dX9_takesRemainder_77 rfl (lv_at hl 1 rfl) ?_
          refine mg_read X w dX9_takesRemainder_78 ?_
          refine lv_bipush (v := 29) hx hb dX9_takesRemainder_81 (by decide) ?_
          refine lv_dup2_11 hx hb dX9_takesRemainder_83 rfl rfl ?_
          refine ml_read X w (g_in (show (29 : Int32).toInt = 29 from rfl) (by omega)) dX9_takesRemainder_84 ?_
          refine q_topE (y := (va_up R_11 3 (upd (R_11 3) (29 : Int).toNat (Rw 3 (29 : Int).toNat))) 3 (29 : Int).toNat) (congrArg ((va_up R_11 3 (upd (R_11 3) (29 : Int).toNat (Rw 3 (29 : Int).toNat))) 3) (g_tn (show (29 : Int32).toInt = 29 from rfl))) ?_
          refine lv_iconst (v := 1) hx hb dX9_takesRemainder_85 (by decide) ?_
          refine lv_aload_n hx hb dX9_takesRemainder_86 rfl (lv_at hl 1 rfl) ?_
          refine mg_remainder X w dX9_takesRemainder_87 ?_
          refine q_topE (y := (R_11 3 (29 : Int).toNat)) rfl ?_
          refine lv_ishl hx hb dX9_takesRemainder_90 ?_
          refine lv_ior hx hb dX9_takesRemainder_91 ?_
          refine ms_read (x := (((va_up R_11 3 (upd (R_11 3) (29 : Int).toNat (Rw 3 (29 : Int).toNat))) 3 (29 : Int).toNat) ||| (1 <<< ((R_11 3 (29 : Int).toNat) &&& 31)))) X w (g_in (show (29 : Int32).toInt = 29 from rfl) (by omega)) dX9_takesRemainder_92 (fun H locs w => ?_)
          rw [g_tn (show (29 : Int32).toInt = 29 from rfl)] at w
          refine lv_iconst (v := 1) hx hb dX9_takesRemainder_93 (by decide) ?_
          exact q_cret (post := (fun z n1 σ1 => n1 = n ∧ ∃ I1 R1, σ1 = mS t b σ0 I1 R1 ∧ kpI [11, 13, 14] I I1 ∧ kpR [3] Rw R1 ∧ z = bI (sR1 T po q gg).1 ∧ (I1 11).toInt = (sR1 T po q gg).2.1 ∧ (po ≤ (sR1 T po q gg).2.1 ∧ (sR1 T po q gg).2.1 ≤ (I 10).toInt) ∧ ((sR1 T po q gg).1 = true → eq33 (R1 3) (sR1 T po q gg).2.2.1 ∧ I1 14 = bI (sR1 T po q gg).2.2.2))) X w dX9_takesRemainder_94 (rfl) ⟨rfl, _, _, rfl, by have e0 : Rw 3 (29 : Int).toNat = q 29 := h_4 29 (by decide); have hg : (gg || decide ((q 28).toInt ≤ (num T po).1)) = false := (by cases gg with | true => exact absurd ((congrArg Int32.toInt h_5).symm.trans k_43) (by decide) | false => exact decide_eq_false (Int.not_le.mpr k_57)); have e : sR1 T po q gg = (true, (num T po).2, sRem1 q (num T po).1, false) := (by unfold sR1; rw [if_pos k_14, hg]); have ev : (((va_up R_11 3 (upd (R_11 3) (29 : Int).toNat (Rw 3 (29 : Int).toNat))) 3 (29 : Int).toNat) ||| (1 <<< ((R_11 3 (29 : Int).toNat) &&& 31))) = q 29 ||| ((1 : Int32) <<< (i3 (num T po).1 &&& 31)) := (by rw [show (va_up R_11 3 (upd (R_11 3) (29 : Int).toNat (Rw 3 (29 : Int).toNat)) 3 (29 : Int).toNat) = q 29 from (up_s _ _ _ _ _).trans e0, e26]); have er : (upd (upd (upd q 29 (i3 (num T po).1)) 29 (Rw 3 (29 : Int).toNat)) 29 (((va_up R_11 3 (upd (R_11 3) (29 : Int).toNat (Rw 3 (29 : Int).toNat))) 3 (29 : Int).toNat) ||| (1 <<< ((R_11 3 (29 : Int).toNat) &&& 31)))) = sRem1 q (num T po).1 := (by unfold sRem1; rw [if_pos (show (num T po).1 < 30 by omega), upd_upd, upd_upd]; rw [ev]); have Q9 : eq33 ((va_up (va_up R_11 3 (upd (R_11 3) (29 : Int).toNat (Rw 3 (29 : Int).toNat))) 3 (upd ((va_up R_11 3 (upd (R_11 3) (29 : Int).toNat (Rw 3 (29 : Int).toNat))) 3) (29 : Int).toNat (((va_up R_11 3 (upd (R_11 3) (29 : Int).toNat (Rw 3 (29 : Int).toNat))) 3 (29 : Int).toNat) ||| (1 <<< ((R_11 3 (29 : Int).toNat) &&& 31))))) 3) (upd (upd (upd q 29 (i3 (num T po).1)) 29 (Rw 3 (29 : Int).toNat)) 29 (((va_up R_11 3 (upd (R_11 3) (29 : Int).toNat (Rw 3 (29 : Int).toNat))) 3 (29 : Int).toNat) ||| (1 <<< ((R_11 3 (29 : Int).toNat) &&& 31)))) := (eq33.up (eq33.up Q_11)); rw [er] at Q9; rw [e]; exact ⟨(kpI.up (J := [11,13,14]) (kpI.up (J := [11,13,14]) K_11 (by decide)) (by decide)), (kpR.up (J := [3]) (kpR.up (J := [3]) KR_11 (by decide)) (by decide)), rfl, P_11, (by show po ≤ (num T po).2 ∧ (num T po).2 ≤ _; omega), fun _ => ⟨Q9, rfl⟩⟩⟩
      · skip
        have k_57 : ¬ (((num T po).1) < ((q 28).toInt)) := fun h => c_57 ((g_lt ((congrArg Int32.toInt e26).trans (i3_v po)) (congrArg Int32.toInt e56)).mpr h)
        refine lv_iconst (v := 1) hx hb dX9_takesRemainder_60 (by decide) ?_
        refine lv_goto (tgt := 65) hx hb dX9_takesRemainder_61 (by decide) ?_
        refine mp_isTooGreat (v := 1) X w dX9_takesRemainder_65 (rfl) (rfl) (fun H locs w => ?_)
        refine lv_aload_n hx hb dX9_takesRemainder_68 rfl (lv_at hl 1 rfl) ?_
        refine mg_remainder X w dX9_takesRemainder_69 ?_
        refine q_topE (y := (R_11 3 (29 : Int).toNat)) rfl ?_
        refine lv_bipush (v := 30) hx hb dX9_takesRemainder_72 (by decide) ?_
        refine lv_icmp_ge (tgt := 93) hx hb dX9_takesRemainder_74 (by decide) (fun c_74 => ?_) (fun c_74 => ?_)
        · skip
          have k_74 : 30 ≤ ((num T po).1) := (g_le (show (30 : Int32).toInt = 30 from rfl) ((congrArg Int32.toInt e26).trans (i3_v po))).mp c_74
          refine lv_iconst (v := 1) hx hb dX9_takesRemainder_93 (by decide) ?_
          exact q_cret (post := (fun z n1 σ1 => n1 = n ∧ ∃ I1 R1, σ1 = mS t b σ0 I1 R1 ∧ kpI [11, 13, 14] I I1 ∧ kpR [3] Rw R1 ∧ z = bI (sR1 T po q gg).1 ∧ (I1 11).toInt = (sR1 T po q gg).2.1 ∧ (po ≤ (sR1 T po q gg).2.1 ∧ (sR1 T po q gg).2.1 ≤ (I 10).toInt) ∧ ((sR1 T po q gg).1 = true → eq33 (R1 3) (sR1 T po q gg).2.2.1 ∧ I1 14 = bI (sR1 T po q gg).2.2.2))) X w dX9_takesRemainder_94 (rfl) ⟨rfl, _, _, rfl, by have e0 : Rw 3 (29 : Int).toNat = q 29 := h_4 29 (by decide); have hg : (gg || decide ((q 28).toInt ≤ (num T po).1)) = true := (by cases gg with | true => exact absurd ((congrArg Int32.toInt h_5).symm.trans k_43) (by decide) | false => exact decide_eq_true (Int.not_lt.mp k_57)); have e : sR1 T po q gg = (true, (num T po).2, sRem1 q (num T po).1, true) := (by unfold sR1; rw [if_pos k_14, hg]); have er : (upd (upd q 29 (i3 (num T po).1)) 29 (Rw 3 (29 : Int).toNat)) = sRem1 q (num T po).1 := (by unfold sRem1; rw [if_neg (show ¬ (num T po).1 < 30 by omega), upd_upd, e0, upd_id]); have Q9 : eq33 ((va_up R_11 3 (upd (R_11 3) (29 : Int).toNat (Rw 3 (29 : Int).toNat))) 3) (upd (upd q 29 (i3 (num T po).1)) 29 (Rw 3 (29 : Int).toNat)) := (eq33.up Q_11); rw [er] at Q9; rw [e]; exact ⟨(kpI.up (J := [11,13,14]) (kpI.up (J := [11,13,14]) K_11 (by decide)) (by decide)), (kpR.up (J := [3]) KR_11 (by decide)), rfl, P_11, (by show po ≤ (num T po).2 ∧ (num T po).2 ≤ _; omega), fun _ => ⟨Q9, rfl⟩⟩⟩
        · skip
          have k_74 : ¬ (30 ≤ ((num T po).1)) := fun h => c_74 ((g_le (show (30 : Int32).toInt = 30 from rfl) ((congrArg Int32.toInt e26).trans (i3_v po))).mpr h)
          refine lv_aload_n hx hb dX9_takesRemainder_77 rfl (lv_at hl 1 rfl) ?_
          refine mg_read X w dX9_takesRemainder_78 ?_
          refine lv_bipush (v := 29) hx hb dX9_takesRemainder_81 (by decide) ?_
          refine lv_dup2_11 hx hb dX9_takesRemainder_83 rfl rfl ?_
          refine ml_read X w (g_in (show (29 : Int32).toInt = 29 from rfl) (by omega)) dX9_takesRemainder_84 ?_
          refine q_topE (y := (va_up R_11 3 (upd (R_11 3) (29 : Int).toNat (Rw 3 (29 : Int).toNat))) 3 (29 : Int).toNat) (congrArg ((va_up R_11 3 (upd (R_11 3) (29 : Int).toNat (Rw 3 (29 : Int).toNat))) 3) (g_tn (show (29 : Int32).toInt = 29 from rfl))) ?_
          refine lv_iconst (v := 1) hx hb dX9_takesRemainder_85 (by decide) ?_
          refine lv_aload_n hx hb dX9_takesRemainder_86 rfl (lv_at hl 1 rfl) ?_
          refine mg_remainder X w dX9_takesRemainder_87 ?_
          refine q_topE (y := (R_11 3 (29 : Int).toNat)) rfl ?_
          refine lv_ishl hx hb dX9_takesRemainder_90 ?_
          refine lv_ior hx hb dX9_takesRemainder_91 ?_
          refine ms_read (x := (((va_up R_11 3 (upd (R_11 3) (29 : Int).toNat (Rw 3 (29 : Int).toNat))) 3 (29 : Int).toNat) ||| (1 <<< ((R_11 3 (29 : Int).toNat) &&& 31)))) X w (g_in (show (29 : Int32).toInt = 29 from rfl) (by omega)) dX9_takesRemainder_92 (fun H locs w => ?_)
          rw [g_tn (show (29 : Int32).toInt = 29 from rfl)] at w
          refine lv_iconst (v := 1) hx hb dX9_takesRemainder_93 (by decide) ?_
          exact q_cret (post := (fun z n1 σ1 => n1 = n ∧ ∃ I1 R1, σ1 = mS t b σ0 I1 R1 ∧ kpI [11, 13, 14] I I1 ∧ kpR [3] Rw R1 ∧ z = bI (sR1 T po q gg).1 ∧ (I1 11).toInt = (sR1 T po q gg).2.1 ∧ (po ≤ (sR1 T po q gg).2.1 ∧ (sR1 T po q gg).2.1 ≤ (I 10).toInt) ∧ ((sR1 T po q gg).1 = true → eq33 (R1 3) (sR1 T po q gg).2.2.1 ∧ I1 14 = bI (sR1 T po q gg).2.2.2))) X w dX9_takesRemainder_94 (rfl) ⟨rfl, _, _, rfl, by have e0 : Rw 3 (29 : Int).toNat = q 29 := h_4 29 (by decide); have hg : (gg || decide ((q 28).toInt ≤ (num T po).1)) = true := (by cases gg with | true => exact absurd ((congrArg Int32.toInt h_5).symm.trans k_43) (by decide) | false => exact decide_eq_true (Int.not_lt.mp k_57)); have e : sR1 T po q gg = (true, (num T po).2, sRem1 q (num T po).1, true) := (by unfold sR1; rw [if_pos k_14, hg]); have ev : (((va_up R_11 3 (upd (R_11 3) (29 : Int).toNat (Rw 3 (29 : Int).toNat))) 3 (29 : Int).toNat) ||| (1 <<< ((R_11 3 (29 : Int).toNat) &&& 31))) = q 29 ||| ((1 : Int32) <<< (i3 (num T po).1 &&& 31)) := (by rw [show (va_up R_11 3 (upd (R_11 3) (29 : Int).toNat (Rw 3 (29 : Int).toNat)) 3 (29 : Int).toNat) = q 29 from (up_s _ _ _ _ _).trans e0, e26]); have er : (upd (upd (upd q 29 (i3 (num T po).1)) 29 (Rw 3 (29 : Int).toNat)) 29 (((va_up R_11 3 (upd (R_11 3) (29 : Int).toNat (Rw 3 (29 : Int).toNat))) 3 (29 : Int).toNat) ||| (1 <<< ((R_11 3 (29 : Int).toNat) &&& 31)))) = sRem1 q (num T po).1 := (by unfold sRem1; rw [if_pos (show (num T po).1 < 30 by omega), upd_upd, upd_upd]; rw [ev]); have Q9 : eq33 ((va_up (va_up R_11 3 (upd (R_11 3) (29 : Int).toNat (Rw 3 (29 : Int).toNat))) 3 (upd ((va_up R_11 3 (upd (R_11 3) (29 : Int).toNat (Rw 3 (29 : Int).toNat))) 3) (29 : Int).toNat (((va_up R_11 3 (upd (R_11 3) (29 : Int).toNat (Rw 3 (29 : Int).toNat))) 3 (29 : Int).toNat) ||| (1 <<< ((R_11 3 (29 : Int).toNat) &&& 31))))) 3) (upd (upd (upd q 29 (i3 (num T po).1)) 29 (Rw 3 (29 : Int).toNat)) 29 (((va_up R_11 3 (upd (R_11 3) (29 : Int).toNat (Rw 3 (29 : Int).toNat))) 3 (29 : Int).toNat) ||| (1 <<< ((R_11 3 (29 : Int).toNat) &&& 31)))) := (eq33.up (eq33.up Q_11)); rw [er] at Q9; rw [e]; exact ⟨(kpI.up (J := [11,13,14]) (kpI.up (J := [11,13,14]) K_11 (by decide)) (by decide)), (kpR.up (J := [3]) (kpR.up (J := [3]) KR_11 (by decide)) (by decide)), rfl, P_11, (by show po ≤ (num T po).2 ∧ (num T po).2 ≤ _; omega), fun _ => ⟨Q9, rfl⟩⟩⟩
  · skip
    rw [z_11.2.2.1] at c_14
    have k_14 := bI_f.mp c_14
    have P_11 : (I_11 11).toInt = po := (z_11.2.2.2.2.1 k_14).1
    have Q_11 : eq33 (R_11 3) q := by rw [(z_11.2.2.2.2.1 k_14).2]; exact h_4
    refine lv_iconst (v := 0) hx hb dX9_takesRemainder_17 (by decide) ?_
    exact q_cret (post := (fun z n1 σ1 => n1 = n ∧ ∃ I1 R1, σ1 = mS t b σ0 I1 R1 ∧ kpI [11, 13, 14] I I1 ∧ kpR [3] Rw R1 ∧ z = bI (sR1 T po q gg).1 ∧ (I1 11).toInt = (sR1 T po q gg).2.1 ∧ (po ≤ (sR1 T po q gg).2.1 ∧ (sR1 T po q gg).2.1 ≤ (I 10).toInt) ∧ ((sR1 T po q gg).1 = true → eq33 (R1 3) (sR1 T po q gg).2.2.1 ∧ I1 14 = bI (sR1 T po q gg).2.2.2))) X w dX9_takesRemainder_18 (rfl) ⟨rfl, _, _, rfl, by have e : (sR1 T po q gg).1 = false ∧ (sR1 T po q gg).2.1 = po := (by unfold sR1; rw [if_neg k_14]; exact ⟨rfl, rfl⟩); exact ⟨K_11, KR_11, (by rw [e.1]; rfl), (by rw [e.2]; exact P_11), (by rw [e.2]; omega), fun h => absurd (h.symm.trans e.1) (by decide)⟩⟩

set_option maxHeartbeats 4000000 in
set_option maxRecDepth 100000 in
theorem c_X9_takesCycle (l : Launch) (D : va_G) (t : Nat → ClassId) (b n : Nat) (σ0 : qM) (I : Nat → Int32) (Rw : Nat → Nat → Int32) (T : Int → Int) (po : Int) (q : Nat → Int32) (gg : Bool) (h_1 : T = tx I Rw) (h_2 : (I 11).toInt = po) (h_3 : 0 ≤ po ∧ po ≤ (I 10).toInt ∧ (I 10).toInt ≤ 100) (h_4 : eq33 (Rw 3) q) (h_5 : I 14 = bI gg) : mC l yX9_takesCycle cX9_takesCycle 1 (some .boolean) 4 D t b n σ0 I Rw [.ref (b + 45)] (fun z I1 R1 => kpI [11, 13, 14] I I1 ∧ kpR [3] Rw R1 ∧ z = bI (sCyc T po q gg).1 ∧ (I1 11).toInt = (sCyc T po q gg).2.1 ∧ (po ≤ (sCyc T po q gg).2.1 ∧ (sCyc T po q gg).2.1 ≤ (I 10).toInt) ∧ ((sCyc T po q gg).1 = true → eq33 (R1 3) (sCyc T po q gg).2.2.1 ∧ I1 14 = bI (sCyc T po q gg).2.2.2)) := by
  refine qC.of (by decide +kernel) (Nat.le_of_ble_eq_true rfl) (fun p e s m args below meth c X w ls hl => ?_)
  have hx := X.1
  have hb := X.2.1
  have hl : lv_has ls 1 [(0, .ref (b + 45))] := hl
  refine lv_aload_n hx hb dX9_takesCycle_0 rfl (lv_at hl 0 rfl) ?_
  refine mg_read X w dX9_takesCycle_1 ?_
  refine lv_bipush (v := 19) hx hb dX9_takesCycle_4 (by decide) ?_
  refine lv_iconst (v := 2) hx hb dX9_takesCycle_6 (by decide) ?_
  refine ms_read (x := 2) X w (g_in (show (19 : Int32).toInt = 19 from rfl) (by omega)) dX9_takesCycle_7 (fun H locs w => ?_)
  rw [g_tn (show (19 : Int32).toInt = 19 from rfl)] at w
  refine lv_aload_n hx hb dX9_takesCycle_8 rfl (lv_at hl 0 rfl) ?_
  refine lv_bipush (v := 28) hx hb dX9_takesCycle_9 (by decide) ?_
  refine mm_cC X w (c_X9_takes l D t b n σ0 I (va_up Rw 3 (upd (Rw 3) (19 : Int).toNat 2)) T po 28 28 (show (28 : Int32).toInt = 28 from rfl) (by exact h_1.trans (tx_cg ((kpI.rf (J := [11,13,14]) (I := I)) 10 (by decide)) ((kpR.up (J := [3]) (kpR.rf (J := [3]) (R := Rw)) (by decide)) 9 (by decide)))) (by exact h_2) (by have e10 := congrArg Int32.toInt ((kpI.rf (J := [11,13,14]) (I := I)) 10 (by decide)); exact ⟨by omega, by rw [show (I 10).toInt = (I 10).toInt from e10]; omega, by rw [show (I 10).toInt = (I 10).toInt from e10]; omega⟩) (by decide)) v_X9_163 rfl rfl ⟨Nat.le_of_ble_eq_true rfl, Nat.le_of_ble_eq_true rfl⟩ rfl hl.1 (Nat.le_of_ble_eq_true rfl) dX9_takesCycle_11 ⟨Nat.zero_le _, Nat.zero_le _⟩ (fun r_11 I_11 R_11 H locs z_11 w => ?_)
  have K_11 := kpI.tr (J := [11,13,14]) (kpI.rf (J := [11,13,14]) (I := I)) z_11.1 (by decide) (by decide)
  have KR_11 := kpR.tr (J := [3]) (kpR.up (J := [3]) (kpR.rf (J := [3]) (R := Rw)) (by decide)) z_11.2.1 (by decide) (by decide)
  have E_11 : (I 10).toInt = (I 10).toInt := congrArg Int32.toInt ((kpI.rf (J := [11,13,14]) (I := I)) 10 (by decide))
  have G_11 : I_11 14 = bI gg := (z_11.1 14 (by decide)).trans h_5
  refine lv_if_eq (tgt := 26) hx hb dX9_takesCycle_14 (by decide) (fun c_14 => ?_) (fun c_14 => ?_)
  · skip
    rw [z_11.2.2.1] at c_14
    have k_14 := bI_f.mp c_14
    have P_11 : (I_11 11).toInt = po := (z_11.2.2.2.2.1 k_14).1
    have Q_11 : eq33 (R_11 3) (upd q 19 2) := by rw [(z_11.2.2.2.2.1 k_14).2]; exact (eq33.up h_4)
    refine lv_iconst (v := 0) hx hb dX9_takesCycle_26 (by decide) ?_
    exact q_cret (post := (fun z n1 σ1 => n1 = n ∧ ∃ I1 R1, σ1 = mS t b σ0 I1 R1 ∧ kpI [11, 13, 14] I I1 ∧ kpR [3] Rw R1 ∧ z = bI (sCyc T po q gg).1 ∧ (I1 11).toInt = (sCyc T po q gg).2.1 ∧ (po ≤ (sCyc T po q gg).2.1 ∧ (sCyc T po q gg).2.1 ≤ (I 10).toInt) ∧ ((sCyc T po q gg).1 = true → eq33 (R1 3) (sCyc T po q gg).2.2.1 ∧ I1 14 = bI (sCyc T po q gg).2.2.2))) X w dX9_takesCycle_27 (rfl) ⟨rfl, _, _, rfl, by have e : (sCyc T po q gg).1 = false ∧ (sCyc T po q gg).2.1 = po := (by unfold sCyc; rw [if_neg k_14]; exact ⟨rfl, rfl⟩); exact ⟨K_11, KR_11, (by rw [e.1]; rfl), (by rw [e.2]; exact P_11), (by rw [e.2]; omega), fun h => absurd (h.symm.trans e.1) (by decide)⟩⟩
  · skip
    rw [z_11.2.2.1] at c_14
    have k_14 := bI_t.mp c_14
    have P_11 : (I_11 11).toInt = (num T po).2 := (z_11.2.2.2.1 k_14).1
    have Q_11 : eq33 (R_11 3) (upd (upd q 19 2) 28 (i3 (num T po).1)) := by rw [(z_11.2.2.2.1 k_14).2]; exact eq33.up (eq33.up h_4)
    have B_11 : po < (num T po).2 ∧ (num T po).2 ≤ (I 10).toInt := ⟨num_gt k_14, by omega⟩
    refine lv_aload_n hx hb dX9_takesCycle_17 rfl (lv_at hl 0 rfl) ?_
    refine lv_bipush (v := 58) hx hb dX9_takesCycle_18 (by decide) ?_
    refine mm_cCI X w (c_X9_skips l D t b n σ0 I_11 R_11 T ((num T po).2) 58 58 (show (58 : Int32).toInt = 58 from rfl) (by exact h_1.trans (tx_cg (K_11 10 (by decide)) (KR_11 9 (by decide)))) (by exact P_11) (by have e10 := congrArg Int32.toInt (K_11 10 (by decide)); exact ⟨by omega, by rw [show (I_11 10).toInt = (I 10).toInt from e10]; omega, by rw [show (I_11 10).toInt = (I 10).toInt from e10]; omega⟩) (by decide)) v_X9_160 rfl rfl ⟨Nat.le_of_ble_eq_true rfl, Nat.le_of_ble_eq_true rfl⟩ rfl hl.1 (Nat.le_of_ble_eq_true rfl) dX9_takesCycle_20 ⟨Nat.zero_le _, Nat.zero_le _⟩ (fun r_20 I_20 H locs z_20 w => ?_)
    have K_20 := kpI.tr (J := [11,13,14]) K_11 z_20.1 (by decide) (by decide)
    have E_20 : (I_11 10).toInt = (I 10).toInt := congrArg Int32.toInt (K_11 10 (by decide))
    have G_20 : I_20 14 = bI gg := (z_20.1 14 (by decide)).trans G_11
    refine lv_if_ne (tgt := 28) hx hb dX9_takesCycle_23 (by decide) (fun c_23 => ?_) (fun c_23 => ?_)
    · skip
      rw [z_20.2.1] at c_23
      have k_23 := bI_t.mp c_23
      have P_20 : (I_20 11).toInt = ((num T po).2 + 1) := z_20.2.2.1 k_23
      have B_20 : ((num T po).2 + 1) ≤ (I 10).toInt := by omega
      refine q_loop (α := Nat × (Nat → Int32) × Bool × (Nat → Int32) × (Nat → Nat → Int32)) (fun a => (kpI [11,13,14] I a.2.2.2.1 ∧ kpR [3] Rw a.2.2.2.2 ∧ eq33 (a.2.2.2.2 3) a.2.1 ∧ a.2.2.2.1 14 = bI a.2.2.1 ∧ ((0 ≤ (a.2.2.2.1 11).toInt ∧ po ≤ (a.2.2.2.1 11).toInt) ∧ (a.2.2.2.1 11).toInt ≤ (I 10).toInt) ∧ (I 10).toInt - (a.2.2.2.1 11).toInt + 1 ≤ (a.1 : Int) ∧ sRem T a.1 (a.2.2.2.1 11).toInt a.2.1 a.2.2.1 = sRem T 100 ((num T po).2 + 1) (upd (upd q 19 2) 28 (i3 (num T po).1)) gg)) (fun a => a.1) (fun a => ∀ (H : Heap) (locs : List Loc), qW D b n (mS t b σ0 a.2.2.2.1 a.2.2.2.2) s H locs → ∀ ls : Array Slot, lv_has ls 1 [(0, .ref (b + 45))] → W p l e (qR 4 0 0) s m args below meth c H locs 0 0 (MQ below (va_Qi (S := Nat × qM) (fun z u => (fun z n1 σ1 => n1 = n ∧ ∃ I1 R1, σ1 = mS t b σ0 I1 R1 ∧ kpI [11, 13, 14] I I1 ∧ kpR [3] Rw R1 ∧ z = bI (sCyc T po q gg).1 ∧ (I1 11).toInt = (sCyc T po q gg).2.1 ∧ (po ≤ (sCyc T po q gg).2.1 ∧ (sCyc T po q gg).2.1 ≤ (I 10).toInt) ∧ ((sCyc T po q gg).1 = true → eq33 (R1 3) (sCyc T po q gg).2.2.1 ∧ I1 14 = bI (sCyc T po q gg).2.2.2)) z u.1 u.2) (fun u T => WB D b u.1 u.2 T.heap) (fun q => b ≤ q)) args s 0 0 (fun q => b ≤ q)) (F0 m 28 ls [])) ?_ ⟨100, (upd (upd q 19 2) 28 (i3 (num T po).1)), gg, I_20, R_11⟩ (by dsimp only; exact ⟨K_20, KR_11, Q_11, G_20, by omega, by omega, by rw [P_20]⟩) _ _ w ls (lv_sub hl [0] rfl)
      rintro ⟨k, qq, gb, I_L28, R_L28⟩ inv_28 ih_28 H locs w ls hl
      dsimp only at inv_28 hl w
      refine lv_aload_n hx hb dX9_takesCycle_28 rfl (lv_at hl 0 rfl) ?_
      refine mm_cC X w (c_X9_takesRemainder l D t b n σ0 I_L28 R_L28 T ((I_L28 11).toInt) qq gb (by exact h_1.trans (tx_cg (inv_28.1 10 (by decide)) (inv_28.2.1 9 (by decide)))) (by exact rfl) (by have e10 := congrArg Int32.toInt (inv_28.1 10 (by decide)); exact ⟨by omega, by rw [show (I_L28 10).toInt = (I 10).toInt from e10]; omega, by rw [show (I_L28 10).toInt = (I 10).toInt from e10]; omega⟩) (by exact inv_28.2.2.1) (by exact inv_28.2.2.2.1)) v_X9_176 rfl rfl ⟨Nat.le_of_ble_eq_true rfl, Nat.le_of_ble_eq_true rfl⟩ rfl hl.1 (Nat.le_of_ble_eq_true rfl) dX9_takesCycle_29 ⟨Nat.zero_le _, Nat.zero_le _⟩ (fun r_29 I_29 R_29 H locs z_29 w => ?_)
      have K_29 := kpI.tr (J := [11,13,14]) inv_28.1 z_29.1 (by decide) (by decide)
      have KR_29 := kpR.tr (J := [3]) inv_28.2.1 z_29.2.1 (by decide) (by decide)
      have E_29 : (I_L28 10).toInt = (I 10).toInt := congrArg Int32.toInt (inv_28.1 10 (by decide))
      refine lv_if_ne (tgt := 37) hx hb dX9_takesCycle_32 (by decide) (fun c_32 => ?_) (fun c_32 => ?_)
      · skip
        rw [(bI_b z_29.2.2.1)] at c_32
        have k_32 := bI_t.mp c_32
        have P_29 : (I_29 11).toInt = (sR1 T ((I_L28 11).toInt) qq gb).2.1 := z_29.2.2.2.1
        have B_29 : (I_L28 11).toInt ≤ (sR1 T ((I_L28 11).toInt) qq gb).2.1 ∧ (sR1 T ((I_L28 11).toInt) qq gb).2.1 ≤ (I 10).toInt := ⟨z_29.2.2.2.2.1.1, by have e := z_29.2.2.2.2.1.2; omega⟩
        have Q_29 := (z_29.2.2.2.2.2 k_32).1
        have G_29 := (z_29.2.2.2.2.2 k_32).2
        refine lv_aload_n hx hb dX9_takesCycle_37 rfl (lv_at hl 0 rfl) ?_
        refine lv_bipush (v := 44) hx hb dX9_takesCycle_38 (by decide) ?_
        refine mm_cCI X w (c_X9_skips l D t b n σ0 I_29 R_29 T ((sR1 T ((I_L28 11).toInt) qq gb).2.1) 44 44 (show (44 : Int32).toInt = 44 from rfl) (by exact h_1.trans (tx_cg (K_29 10 (by decide)) (KR_29 9 (by decide)))) (by exact P_29) (by have e10 := congrArg Int32.toInt (K_29 10 (by decide)); exact ⟨by omega, by rw [show (I_29 10).toInt = (I 10).toInt from e10]; omega, by rw [show (I_29 10).toInt = (I 10).toInt from e10]; omega⟩) (by decide)) v_X9_160 rfl rfl ⟨Nat.le_of_ble_eq_true rfl, Nat.le_of_ble_eq_true rfl⟩ rfl hl.1 (Nat.le_of_ble_eq_true rfl) dX9_takesCycle_40 ⟨Nat.zero_le _, Nat.zero_le _⟩ (fun r_40 I_40 H locs z_40 w => ?_)
        have K_40 := kpI.tr (J := [11,13,14]) K_29 z_40.1 (by decide) (by decide)
        have E_40 : (I_29 10).toInt = (I 10).toInt := congrArg Int32.toInt (K_29 10 (by decide))
        have G_40 : I_40 14 = bI ((sR1 T ((I_L28 11).toInt) qq gb).2.2.2) := (z_40.1 14 (by decide)).trans G_29
        refine lv_if_ne (tgt := 28) hx hb dX9_takesCycle_43 (by decide) (fun c_43 => ?_) (fun c_43 => ?_)
        · skip
          rw [z_40.2.1] at c_43
          have k_43 := bI_t.mp c_43
          have P_40 : (I_40 11).toInt = ((sR1 T ((I_L28 11).toInt) qq gb).2.1 + 1) := z_40.2.2.1 k_43
          have B_40 : ((sR1 T ((I_L28 11).toInt) qq gb).2.1 + 1) ≤ (I 10).toInt := by omega
          refine ih_28 ⟨(k - 1), (sR1 T ((I_L28 11).toInt) qq gb).2.2.1, (sR1 T ((I_L28 11).toInt) qq gb).2.2.2, I_40, R_29⟩ (by dsimp only; have ek : k = k - 1 + 1 := (by omega); have e := inv_28.2.2.2.2.2.2; rw [ek, sRem, if_pos k_32, if_pos k_43] at e; exact ⟨K_40, KR_29, Q_29, G_40, by omega, by omega, by rw [P_40, ← e]⟩) (by dsimp only; omega) _ _ w ls (lv_sub hl [0] rfl)
        · skip
          rw [z_40.2.1] at c_43
          have k_43 := bI_f.mp c_43
          have P_40 : (I_40 11).toInt = (sR1 T ((I_L28 11).toInt) qq gb).2.1 := z_40.2.2.2.1 k_43
          refine lv_iconst (v := 1) hx hb dX9_takesCycle_46 (by decide) ?_
          exact q_cret (post := (fun z n1 σ1 => n1 = n ∧ ∃ I1 R1, σ1 = mS t b σ0 I1 R1 ∧ kpI [11, 13, 14] I I1 ∧ kpR [3] Rw R1 ∧ z = bI (sCyc T po q gg).1 ∧ (I1 11).toInt = (sCyc T po q gg).2.1 ∧ (po ≤ (sCyc T po q gg).2.1 ∧ (sCyc T po q gg).2.1 ≤ (I 10).toInt) ∧ ((sCyc T po q gg).1 = true → eq33 (R1 3) (sCyc T po q gg).2.2.1 ∧ I1 14 = bI (sCyc T po q gg).2.2.2))) X w dX9_takesCycle_47 (rfl) ⟨rfl, _, _, rfl, by have ek : k = k - 1 + 1 := (by omega); have e : sCyc T po q gg = (true, (sR1 T ((I_L28 11).toInt) qq gb).2.1, (sR1 T ((I_L28 11).toInt) qq gb).2.2.1, (sR1 T ((I_L28 11).toInt) qq gb).2.2.2) := (by unfold sCyc; rw [if_pos k_14, if_pos k_23, ← inv_28.2.2.2.2.2.2, ek, sRem, if_pos k_32, if_neg k_43]; exact Prod.ext k_32 rfl); rw [e]; exact ⟨K_40, KR_29, rfl, P_40, (by show po ≤ (sR1 T ((I_L28 11).toInt) qq gb).2.1 ∧ (sR1 T ((I_L28 11).toInt) qq gb).2.1 ≤ _; omega), fun _ => ⟨Q_29, G_40⟩⟩⟩
      · skip
        rw [(bI_b z_29.2.2.1)] at c_32
        have k_32 := bI_f.mp c_32
        have P_29 : (I_29 11).toInt = (sR1 T ((I_L28 11).toInt) qq gb).2.1 := z_29.2.2.2.1
        have B_29 : (I_L28 11).toInt ≤ (sR1 T ((I_L28 11).toInt) qq gb).2.1 ∧ (sR1 T ((I_L28 11).toInt) qq gb).2.1 ≤ (I 10).toInt := ⟨z_29.2.2.2.2.1.1, by have e := z_29.2.2.2.2.1.2; omega⟩
        refine lv_iconst (v := 0) hx hb dX9_takesCycle_35 (by decide) ?_
        exact q_cret (post := (fun z n1 σ1 => n1 = n ∧ ∃ I1 R1, σ1 = mS t b σ0 I1 R1 ∧ kpI [11, 13, 14] I I1 ∧ kpR [3] Rw R1 ∧ z = bI (sCyc T po q gg).1 ∧ (I1 11).toInt = (sCyc T po q gg).2.1 ∧ (po ≤ (sCyc T po q gg).2.1 ∧ (sCyc T po q gg).2.1 ≤ (I 10).toInt) ∧ ((sCyc T po q gg).1 = true → eq33 (R1 3) (sCyc T po q gg).2.2.1 ∧ I1 14 = bI (sCyc T po q gg).2.2.2))) X w dX9_takesCycle_36 (rfl) ⟨rfl, _, _, rfl, by have ek : k = k - 1 + 1 := (by omega); have e : (sCyc T po q gg).1 = false ∧ (sCyc T po q gg).2.1 = (sR1 T ((I_L28 11).toInt) qq gb).2.1 := (by unfold sCyc; rw [if_pos k_14, if_pos k_23, ← inv_28.2.2.2.2.2.2, ek, sRem, if_neg k_32]; exact ⟨b_f k_32, rfl⟩); exact ⟨K_29, KR_29, (by rw [e.1]; rfl), (by rw [e.2]; exact P_29), (by rw [e.2]; omega), fun h => absurd (h.symm.trans e.1) (by decide)⟩⟩
    · skip
      rw [z_20.2.1] at c_23
      have k_23 := bI_f.mp c_23
      have P_20 : (I_20 11).toInt = (num T po).2 := z_20.2.2.2.1 k_23
      refine lv_iconst (v := 0) hx hb dX9_takesCycle_26 (by decide) ?_
      exact q_cret (post := (fun z n1 σ1 => n1 = n ∧ ∃ I1 R1, σ1 = mS t b σ0 I1 R1 ∧ kpI [11, 13, 14] I I1 ∧ kpR [3] Rw R1 ∧ z = bI (sCyc T po q gg).1 ∧ (I1 11).toInt = (sCyc T po q gg).2.1 ∧ (po ≤ (sCyc T po q gg).2.1 ∧ (sCyc T po q gg).2.1 ≤ (I 10).toInt) ∧ ((sCyc T po q gg).1 = true → eq33 (R1 3) (sCyc T po q gg).2.2.1 ∧ I1 14 = bI (sCyc T po q gg).2.2.2))) X w dX9_takesCycle_27 (rfl) ⟨rfl, _, _, rfl, by have e : (sCyc T po q gg).1 = false ∧ (sCyc T po q gg).2.1 = (num T po).2 := (by unfold sCyc; rw [if_pos k_14, if_neg k_23]; exact ⟨rfl, rfl⟩); exact ⟨K_20, KR_11, (by rw [e.1]; rfl), (by rw [e.2]; exact P_20), (by rw [e.2]; omega), fun h => absurd (h.symm.trans e.1) (by decide)⟩⟩

set_option maxHeartbeats 4000000 in
set_option maxRecDepth 100000 in
theorem c_X9_takesRule (l : Launch) (D : va_G) (t : Nat → ClassId) (b n : Nat) (σ0 : qM) (I : Nat → Int32) (Rw : Nat → Nat → Int32) (T : Int → Int) (po : Int) (q : Nat → Int32) (gg : Bool) (h_1 : T = tx I Rw) (h_2 : (I 11).toInt = po) (h_3 : 0 ≤ po ∧ po ≤ (I 10).toInt ∧ (I 10).toInt ≤ 100) (h_4 : eq33 (Rw 3) q) (h_5 : I 14 = bI gg) : mC l yX9_takesRule cX9_takesRule 1 (some .boolean) 5 D t b n σ0 I Rw [.ref (b + 45)] (fun z I1 R1 => kpI [11, 13, 14] I I1 ∧ kpR [3] Rw R1 ∧ z = bI (sRule T po q gg).1 ∧ (I1 11).toInt = (sRule T po q gg).2.1 ∧ (po ≤ (sRule T po q gg).2.1 ∧ (sRule T po q gg).2.1 ≤ (I 10).toInt) ∧ ((sRule T po q gg).1 = true → eq33 (R1 3) (sRule T po q gg).2.2.1 ∧ I1 14 = bI (sRule T po q gg).2.2.2)) := by
  refine qC.of (by decide +kernel) (Nat.le_of_ble_eq_true rfl) (fun p e s m args below meth c X w ls hl => ?_)
  have hx := X.1
  have hb := X.2.1
  have hl : lv_has ls 1 [(0, .ref (b + 45))] := hl
  refine lv_aload_n hx hb dX9_takesRule_0 rfl (lv_at hl 0 rfl) ?_
  refine lv_bipush (v := 108) hx hb dX9_takesRule_1 (by decide) ?_
  refine mm_cCI X w (c_X9_begins l D t b n σ0 I Rw T po 108 108 (show (108 : Int32).toInt = 108 from rfl) (by exact h_1.trans (tx_cg ((kpI.rf (J := [11,13,14]) (I := I)) 10 (by decide)) ((kpR.rf (J := [3]) (R := Rw)) 9 (by decide)))) (by exact h_2) (by have e10 := congrArg Int32.toInt ((kpI.rf (J := [11,13,14]) (I := I)) 10 (by decide)); exact ⟨by omega, by rw [show (I 10).toInt = (I 10).toInt from e10]; omega, by rw [show (I 10).toInt = (I 10).toInt from e10]; omega⟩) (by decide)) v_X9_166 rfl rfl ⟨Nat.le_of_ble_eq_true rfl, Nat.le_of_ble_eq_true rfl⟩ rfl hl.1 (Nat.le_of_ble_eq_true rfl) dX9_takesRule_3 ⟨Nat.zero_le _, Nat.zero_le _⟩ (fun r_3 I_3 H locs z_3 w => ?_)
  have K_3 := kpI.tr (J := [11,13,14]) (kpI.rf (J := [11,13,14]) (I := I)) z_3.1 (by decide) (by decide)
  have E_3 : (I 10).toInt = (I 10).toInt := congrArg Int32.toInt ((kpI.rf (J := [11,13,14]) (I := I)) 10 (by decide))
  have G_3 : I_3 14 = bI gg := (z_3.1 14 (by decide)).trans h_5
  refine lv_if_eq (tgt := 16) hx hb dX9_takesRule_6 (by decide) (fun c_6 => ?_) (fun c_6 => ?_)
  · skip
    rw [z_3.2.1] at c_6
    have k_6 := bI_f.mp c_6
    have P_3 : (I_3 11).toInt = po := z_3.2.2.2.1 k_6
    refine lv_aload_n hx hb dX9_takesRule_16 rfl (lv_at hl 0 rfl) ?_
    refine lv_bipush (v := 99) hx hb dX9_takesRule_17 (by decide) ?_
    refine mm_cCI X w (c_X9_begins l D t b n σ0 I_3 Rw T po 99 99 (show (99 : Int32).toInt = 99 from rfl) (by exact h_1.trans (tx_cg (K_3 10 (by decide)) ((kpR.rf (J := [3]) (R := Rw)) 9 (by decide)))) (by exact P_3) (by have e10 := congrArg Int32.toInt (K_3 10 (by decide)); exact ⟨by omega, by rw [show (I_3 10).toInt = (I 10).toInt from e10]; omega, by rw [show (I_3 10).toInt = (I 10).toInt from e10]; omega⟩) (by decide)) v_X9_166 rfl rfl ⟨Nat.le_of_ble_eq_true rfl, Nat.le_of_ble_eq_true rfl⟩ rfl hl.1 (Nat.le_of_ble_eq_true rfl) dX9_takesRule_19 ⟨Nat.zero_le _, Nat.zero_le _⟩ (fun r_19 I_19 H locs z_19 w => ?_)
    have K_19 := kpI.tr (J := [11,13,14]) K_3 z_19.1 (by decide) (by decide)
    have E_19 : (I_3 10).toInt = (I 10).toInt := congrArg Int32.toInt (K_3 10 (by decide))
    have G_19 : I_19 14 = bI gg := (z_19.1 14 (by decide)).trans G_3
    refine lv_if_eq (tgt := 32) hx hb dX9_takesRule_22 (by decide) (fun c_22 => ?_) (fun c_22 => ?_)
    · skip
      rw [z_19.2.1] at c_22
      have k_22 := bI_f.mp c_22
      have P_19 : (I_19 11).toInt = po := z_19.2.2.2.1 k_22
      refine lv_iconst (v := 1) hx hb dX9_takesRule_32 (by decide) ?_
      refine lv_goto (tgt := 37) hx hb dX9_takesRule_33 (by decide) ?_
      exact q_cret (post := (fun z n1 σ1 => n1 = n ∧ ∃ I1 R1, σ1 = mS t b σ0 I1 R1 ∧ kpI [11, 13, 14] I I1 ∧ kpR [3] Rw R1 ∧ z = bI (sRule T po q gg).1 ∧ (I1 11).toInt = (sRule T po q gg).2.1 ∧ (po ≤ (sRule T po q gg).2.1 ∧ (sRule T po q gg).2.1 ≤ (I 10).toInt) ∧ ((sRule T po q gg).1 = true → eq33 (R1 3) (sRule T po q gg).2.2.1 ∧ I1 14 = bI (sRule T po q gg).2.2.2))) X w dX9_takesRule_37 (rfl) ⟨rfl, _, _, rfl, by have e : sRule T po q gg = (true, po, q, gg) := (by unfold sRule; rw [if_neg k_6, if_neg k_22]); rw [e]; exact ⟨K_19, (kpR.rf (J := [3]) (R := Rw)), rfl, P_19, (by show po ≤ po ∧ po ≤ _; omega), fun _ => ⟨h_4, G_19⟩⟩⟩
    · skip
      rw [z_19.2.1] at c_22
      have k_22 := bI_t.mp c_22
      have P_19 : (I_19 11).toInt = (po + 2) := z_19.2.2.1 k_22
      have B_19 : (po + 2) ≤ (I 10).toInt := by omega
      refine lv_aload_n hx hb dX9_takesRule_25 rfl (lv_at hl 0 rfl) ?_
      refine mm_cC X w (c_X9_takesCycle l D t b n σ0 I_19 Rw T (po + 2) q gg (by exact h_1.trans (tx_cg (K_19 10 (by decide)) ((kpR.rf (J := [3]) (R := Rw)) 9 (by decide)))) (by exact P_19) (by have e10 := congrArg Int32.toInt (K_19 10 (by decide)); exact ⟨by omega, by rw [show (I_19 10).toInt = (I 10).toInt from e10]; omega, by rw [show (I_19 10).toInt = (I 10).toInt from e10]; omega⟩) (by exact h_4) (by exact G_19)) v_X9_182 rfl rfl ⟨Nat.le_of_ble_eq_true rfl, Nat.le_of_ble_eq_true rfl⟩ rfl hl.1 (Nat.le_of_ble_eq_true rfl) dX9_takesRule_26 ⟨Nat.zero_le _, Nat.zero_le _⟩ (fun r_26 I_26 R_26 H locs z_26 w => ?_)
      have K_26 := kpI.tr (J := [11,13,14]) K_19 z_26.1 (by decide) (by decide)
      have KR_26 := kpR.tr (J := [3]) (kpR.rf (J := [3]) (R := Rw)) z_26.2.1 (by decide) (by decide)
      have E_26 : (I_19 10).toInt = (I 10).toInt := congrArg Int32.toInt (K_19 10 (by decide))
      refine lv_if_eq (tgt := 36) hx hb dX9_takesRule_29 (by decide) (fun c_29 => ?_) (fun c_29 => ?_)
      · skip
        rw [(bI_b z_26.2.2.1)] at c_29
        have k_29 := bI_f.mp c_29
        have P_26 : (I_26 11).toInt = (sCyc T (po + 2) q gg).2.1 := z_26.2.2.2.1
        have B_26 : (po + 2) ≤ (sCyc T (po + 2) q gg).2.1 ∧ (sCyc T (po + 2) q gg).2.1 ≤ (I 10).toInt := ⟨z_26.2.2.2.2.1.1, by have e := z_26.2.2.2.2.1.2; omega⟩
        refine lv_iconst (v := 0) hx hb dX9_takesRule_36 (by decide) ?_
        exact q_cret (post := (fun z n1 σ1 => n1 = n ∧ ∃ I1 R1, σ1 = mS t b σ0 I1 R1 ∧ kpI [11, 13, 14] I I1 ∧ kpR [3] Rw R1 ∧ z = bI (sRule T po q gg).1 ∧ (I1 11).toInt = (sRule T po q gg).2.1 ∧ (po ≤ (sRule T po q gg).2.1 ∧ (sRule T po q gg).2.1 ≤ (I 10).toInt) ∧ ((sRule T po q gg).1 = true → eq33 (R1 3) (sRule T po q gg).2.2.1 ∧ I1 14 = bI (sRule T po q gg).2.2.2))) X w dX9_takesRule_37 (rfl) ⟨rfl, _, _, rfl, by have e : (sRule T po q gg).1 = false ∧ (sRule T po q gg).2.1 = (sCyc T (po + 2) q gg).2.1 := (by unfold sRule; rw [if_neg k_6, if_pos k_22]; exact ⟨b_f k_29, rfl⟩); exact ⟨K_26, KR_26, (by rw [e.1]; rfl), (by rw [e.2]; exact P_26), (by rw [e.2]; omega), fun h => absurd (h.symm.trans e.1) (by decide)⟩⟩
      · skip
        rw [(bI_b z_26.2.2.1)] at c_29
        have k_29 := bI_t.mp c_29
        have P_26 : (I_26 11).toInt = (sCyc T (po + 2) q gg).2.1 := z_26.2.2.2.1
        have B_26 : (po + 2) ≤ (sCyc T (po + 2) q gg).2.1 ∧ (sCyc T (po + 2) q gg).2.1 ≤ (I 10).toInt := ⟨z_26.2.2.2.2.1.1, by have e := z_26.2.2.2.2.1.2; omega⟩
        have Q_26 := (z_26.2.2.2.2.2 k_29).1
        have G_26 := (z_26.2.2.2.2.2 k_29).2
        refine lv_iconst (v := 1) hx hb dX9_takesRule_32 (by decide) ?_
        refine lv_goto (tgt := 37) hx hb dX9_takesRule_33 (by decide) ?_
        exact q_cret (post := (fun z n1 σ1 => n1 = n ∧ ∃ I1 R1, σ1 = mS t b σ0 I1 R1 ∧ kpI [11, 13, 14] I I1 ∧ kpR [3] Rw R1 ∧ z = bI (sRule T po q gg).1 ∧ (I1 11).toInt = (sRule T po q gg).2.1 ∧ (po ≤ (sRule T po q gg).2.1 ∧ (sRule T po q gg).2.1 ≤ (I 10).toInt) ∧ ((sRule T po q gg).1 = true → eq33 (R1 3) (sRule T po q gg).2.2.1 ∧ I1 14 = bI (sRule T po q gg).2.2.2))) X w dX9_takesRule_37 (rfl) ⟨rfl, _, _, rfl, by have e : sRule T po q gg = (true, (sCyc T (po + 2) q gg).2.1, (sCyc T (po + 2) q gg).2.2.1, (sCyc T (po + 2) q gg).2.2.2) := (by unfold sRule; rw [if_neg k_6, if_pos k_22]; exact Prod.ext k_29 rfl); rw [e]; exact ⟨K_26, KR_26, rfl, P_26, (by show po ≤ (sCyc T (po + 2) q gg).2.1 ∧ (sCyc T (po + 2) q gg).2.1 ≤ _; omega), fun _ => ⟨Q_26, G_26⟩⟩⟩
  · skip
    rw [z_3.2.1] at c_6
    have k_6 := bI_t.mp c_6
    have P_3 : (I_3 11).toInt = (po + 2) := z_3.2.2.1 k_6
    have B_3 : (po + 2) ≤ (I 10).toInt := by omega
    refine lv_aload_n hx hb dX9_takesRule_9 rfl (lv_at hl 0 rfl) ?_
    refine mm_cC X w (c_X9_takesDivisors l D t b n σ0 I_3 Rw T (po + 2) q gg (by exact h_1.trans (tx_cg (K_3 10 (by decide)) ((kpR.rf (J := [3]) (R := Rw)) 9 (by decide)))) (by exact P_3) (by have e10 := congrArg Int32.toInt (K_3 10 (by decide)); exact ⟨by omega, by rw [show (I_3 10).toInt = (I 10).toInt from e10]; omega, by rw [show (I_3 10).toInt = (I 10).toInt from e10]; omega⟩) (by exact h_4) (by exact G_3)) v_X9_179 rfl rfl ⟨Nat.le_of_ble_eq_true rfl, Nat.le_of_ble_eq_true rfl⟩ rfl hl.1 (Nat.le_of_ble_eq_true rfl) dX9_takesRule_10 ⟨Nat.zero_le _, Nat.zero_le _⟩ (fun r_10 I_10 R_10 H locs z_10 w => ?_)
    have K_10 := kpI.tr (J := [11,13,14]) K_3 z_10.1 (by decide) (by decide)
    have KR_10 := kpR.tr (J := [3]) (kpR.rf (J := [3]) (R := Rw)) z_10.2.1 (by decide) (by decide)
    have E_10 : (I_3 10).toInt = (I 10).toInt := congrArg Int32.toInt (K_3 10 (by decide))
    refine lv_goto (tgt := 37) hx hb dX9_takesRule_13 (by decide) ?_
    exact q_cret (post := (fun z n1 σ1 => n1 = n ∧ ∃ I1 R1, σ1 = mS t b σ0 I1 R1 ∧ kpI [11, 13, 14] I I1 ∧ kpR [3] Rw R1 ∧ z = bI (sRule T po q gg).1 ∧ (I1 11).toInt = (sRule T po q gg).2.1 ∧ (po ≤ (sRule T po q gg).2.1 ∧ (sRule T po q gg).2.1 ≤ (I 10).toInt) ∧ ((sRule T po q gg).1 = true → eq33 (R1 3) (sRule T po q gg).2.2.1 ∧ I1 14 = bI (sRule T po q gg).2.2.2))) X w dX9_takesRule_37 (by rw [(bI_b z_10.2.2.1)]; exact bI_nar _) ⟨rfl, _, _, rfl, by have e : sRule T po q gg = sDivs T (po + 2) q gg := (by unfold sRule; rw [if_pos k_6]); rw [e]; exact ⟨K_10, KR_10, z_10.2.2.1, z_10.2.2.2.1, ⟨by have := z_10.2.2.2.2.1.1; omega, by have := z_10.2.2.2.2.1.2; omega⟩, z_10.2.2.2.2.2⟩⟩

set_option maxHeartbeats 4000000 in
set_option maxRecDepth 100000 in
theorem c_X9_endsHere (l : Launch) (D : va_G) (t : Nat → ClassId) (b n : Nat) (σ0 : qM) (I : Nat → Int32) (Rw : Nat → Nat → Int32) (T : Int → Int) (po : Int) (tt : Bool) (h_1 : T = tx I Rw) (h_2 : (I 11).toInt = po) (h_3 : 0 ≤ po ∧ po ≤ (I 10).toInt ∧ (I 10).toInt ≤ 100) (h_4 : I 15 = bI tt) : mC l yX9_endsHere cX9_endsHere 1 (some .boolean) 1 D t b n σ0 I Rw [.ref (b + 45)] (fun z I1 R1 => R1 = Rw ∧ kpI [11] I I1 ∧ z = bI (decide (po = (I 10).toInt)) ∧ (I1 11).toInt = (if po = (I 10).toInt then po else if T po = 59 ∧ tt = false then po + 1 else po)) := by
  refine qC.of (by decide +kernel) (Nat.le_of_ble_eq_true rfl) (fun p e s m args below meth c X w ls hl => ?_)
  have hx := X.1
  have hb := X.2.1
  have hl : lv_has ls 1 [(0, .ref (b + 45))] := hl
  refine lv_aload_n hx hb dX9_endsHere_0 rfl (lv_at hl 0 rfl) ?_
  refine mg_at X w dX9_endsHere_1 ?_
  refine lv_aload_n hx hb dX9_endsHere_4 rfl (lv_at hl 0 rfl) ?_
  refine mg_length X w dX9_endsHere_5 ?_
  refine lv_icmp_ne (tgt := 13) hx hb dX9_endsHere_8 (by decide) (fun c_8 => ?_) (fun c_8 => ?_)
  · skip
    have k_8 : ¬ (((I 11).toInt) = ((I 10).toInt)) := fun h => c_8 ((g_eq rfl rfl).mpr h)
    refine lv_aload_n hx hb dX9_endsHere_13 rfl (lv_at hl 0 rfl) ?_
    refine lv_aload_n hx hb dX9_endsHere_14 rfl (lv_at hl 0 rfl) ?_
    refine mg_at X w dX9_endsHere_15 ?_
    refine lv_bipush (v := 59) hx hb dX9_endsHere_18 (by decide) ?_
    refine q_cPV X w (c_X9_isAt l D t b n σ0 I Rw (I 11) 59 ((I 11).toInt) 59 rfl (show (59 : Int32).toInt = 59 from rfl) (by omega)) v_X9_153 (k := 45) rfl rfl rfl ⟨Nat.le_of_ble_eq_true rfl, Nat.le_of_ble_eq_true rfl⟩ rfl hl.1 (Nat.le_of_ble_eq_true rfl) dX9_endsHere_20 ⟨Nat.zero_le _, Nat.zero_le _⟩ (fun r_20 z_20 => ?_)
    refine lv_if_eq (tgt := 43) hx hb dX9_endsHere_23 (by decide) (fun c_23 => ?_) (fun c_23 => ?_)
    · skip
      rw [z_20] at c_23
      have k_23 := bI_f.mp c_23
      rw [h_2] at k_23
      have k23 : ¬ T po = 59 := fun z => k_23 ((tx_at h_1 (by omega) (by decide)).mpr z)
      refine lv_iconst (v := 0) hx hb dX9_endsHere_43 (by decide) ?_
      exact q_cret (post := (fun z n1 σ1 => n1 = n ∧ ∃ I1 R1, σ1 = mS t b σ0 I1 R1 ∧ R1 = Rw ∧ kpI [11] I I1 ∧ z = bI (decide (po = (I 10).toInt)) ∧ (I1 11).toInt = (if po = (I 10).toInt then po else if T po = 59 ∧ tt = false then po + 1 else po))) X w dX9_endsHere_44 (rfl) ⟨rfl, _, _, rfl, rfl, by exact ⟨kpI.rf, bI_0 (by omega), by rw [if_neg (by omega), if_neg (fun z => k23 z.1)]; exact h_2⟩⟩
    · skip
      rw [z_20] at c_23
      have k_23 := bI_t.mp c_23
      rw [h_2] at k_23
      have k23 : T po = 59 := (tx_at h_1 (by omega) (by decide)).mp k_23
      refine lv_aload_n hx hb dX9_endsHere_26 rfl (lv_at hl 0 rfl) ?_
      refine mg_isWeeksTold X w dX9_endsHere_27 ?_
      refine lv_if_ne (tgt := 43) hx hb dX9_endsHere_30 (by decide) (fun c_30 => ?_) (fun c_30 => ?_)
      · skip
        have k_30 : ¬ (((I 15).toInt) = 0) := fun h => c_30 ((g_eq rfl (show (0 : Int32).toInt = 0 from rfl)).mpr h)
        refine lv_iconst (v := 0) hx hb dX9_endsHere_43 (by decide) ?_
        exact q_cret (post := (fun z n1 σ1 => n1 = n ∧ ∃ I1 R1, σ1 = mS t b σ0 I1 R1 ∧ R1 = Rw ∧ kpI [11] I I1 ∧ z = bI (decide (po = (I 10).toInt)) ∧ (I1 11).toInt = (if po = (I 10).toInt then po else if T po = 59 ∧ tt = false then po + 1 else po))) X w dX9_endsHere_44 (rfl) ⟨rfl, _, _, rfl, rfl, by cases tt with | true => exact ⟨kpI.rf, bI_0 (by omega), by rw [if_neg (by omega), if_neg (fun z => absurd z.2 (by decide))]; exact h_2⟩ | false => exact absurd (congrArg Int32.toInt h_4) k_30⟩
      · skip
        have k_30 : ((I 15).toInt) = 0 := (g_eq rfl (show (0 : Int32).toInt = 0 from rfl)).mp c_30
        refine lv_aload_n hx hb dX9_endsHere_33 rfl (lv_at hl 0 rfl) ?_
        refine lv_dup hx hb dX9_endsHere_34 rfl ?_
        refine mg_at X w dX9_endsHere_35 ?_
        refine lv_iconst (v := 1) hx hb dX9_endsHere_38 (by decide) ?_
        refine lv_iadd hx hb dX9_endsHere_39 ?_
        refine lv_topi (fun x_39 e_39 => ?_)
        have p_39 : x_39.toInt = (((I 11).toInt) + 1) := by rw [e_39]; exact t_add rfl (show (1 : Int32).toInt = 1 from rfl) (by omega) (by omega)
        refine mp_at (v := x_39) X w dX9_endsHere_40 (fun H locs w => ?_)
        refine lv_iconst (v := 0) hx hb dX9_endsHere_43 (by decide) ?_
        exact q_cret (post := (fun z n1 σ1 => n1 = n ∧ ∃ I1 R1, σ1 = mS t b σ0 I1 R1 ∧ R1 = Rw ∧ kpI [11] I I1 ∧ z = bI (decide (po = (I 10).toInt)) ∧ (I1 11).toInt = (if po = (I 10).toInt then po else if T po = 59 ∧ tt = false then po + 1 else po))) X w dX9_endsHere_44 (rfl) ⟨rfl, _, _, rfl, rfl, by cases tt with | true => exact absurd ((congrArg Int32.toInt h_4).symm.trans k_30) (by decide) | false => exact ⟨kpI.up kpI.rf (by decide), bI_0 (by omega), by rw [if_neg (by omega), if_pos ⟨k23, rfl⟩]; exact p_39.trans (by omega)⟩⟩
  · skip
    have k_8 : ((I 11).toInt) = ((I 10).toInt) := (g_eq rfl rfl).mp c_8
    refine lv_iconst (v := 1) hx hb dX9_endsHere_11 (by decide) ?_
    exact q_cret (post := (fun z n1 σ1 => n1 = n ∧ ∃ I1 R1, σ1 = mS t b σ0 I1 R1 ∧ R1 = Rw ∧ kpI [11] I I1 ∧ z = bI (decide (po = (I 10).toInt)) ∧ (I1 11).toInt = (if po = (I 10).toInt then po else if T po = 59 ∧ tt = false then po + 1 else po))) X w dX9_endsHere_12 (rfl) ⟨rfl, _, _, rfl, rfl, by exact ⟨kpI.rf, bI_1 (by omega), by rw [if_pos (by omega)]; exact h_2⟩⟩

set_option maxHeartbeats 4000000 in
set_option maxRecDepth 100000 in
theorem c_X9_takesCalendar (l : Launch) (D : va_G) (t : Nat → ClassId) (b n : Nat) (σ0 : qM) (I : Nat → Int32) (Rw : Nat → Nat → Int32) (T : Int → Int) (h_1 : T = tx I Rw) (h_2 : 0 ≤ (I 10).toInt ∧ (I 10).toInt ≤ 100) : mC l yX9_takesCalendar cX9_takesCalendar 2 (some .boolean) 6 D t b n σ0 I Rw [.ref (b + 45)] (fun z I1 R1 => kpI [11, 13, 14, 15] I I1 ∧ kpR [3] Rw R1 ∧ z = bI (sCal T (I 10).toInt).1 ∧ (I1 11).toInt = (sCal T (I 10).toInt).2.1 ∧ ((sCal T (I 10).toInt).1 = true → eq33 (R1 3) (sCal T (I 10).toInt).2.2.1 ∧ I1 14 = bI (sCal T (I 10).toInt).2.2.2)) := by
  refine qC.of (by decide +kernel) (Nat.le_of_ble_eq_true rfl) (fun p e s m args below meth c X w ls hl => ?_)
  have hx := X.1
  have hb := X.2.1
  have hl : lv_has ls 2 [(0, .ref (b + 45))] := hl
  refine lv_aload_n hx hb dX9_takesCalendar_0 rfl (lv_at hl 0 rfl) ?_
  refine lv_iconst (v := 0) hx hb dX9_takesCalendar_1 (by decide) ?_
  refine mp_at (v := 0) X w dX9_takesCalendar_2 (fun H locs w => ?_)
  refine lv_aload_n hx hb dX9_takesCalendar_5 rfl (lv_at hl 0 rfl) ?_
  refine lv_iconst (v := 0) hx hb dX9_takesCalendar_6 (by decide) ?_
  refine mp_isTooGreat (v := 0) X w dX9_takesCalendar_7 (rfl) (rfl) (fun H locs w => ?_)
  refine lv_aload_n hx hb dX9_takesCalendar_10 rfl (lv_at hl 0 rfl) ?_
  refine lv_iconst (v := 0) hx hb dX9_takesCalendar_11 (by decide) ?_
  refine mp_isWeeksTold (v := 0) X w dX9_takesCalendar_12 (rfl) (rfl) (fun H locs w => ?_)
  refine lv_aload_n hx hb dX9_takesCalendar_15 rfl (lv_at hl 0 rfl) ?_
  refine mm_cVR X w (c_X9_clears l D t b n σ0 (va_up (va_up (va_up I 11 0) 14 0) 15 0) Rw ) v_X9_57 rfl rfl ⟨Nat.le_of_ble_eq_true rfl, Nat.le_of_ble_eq_true rfl⟩ rfl hl.1 (Nat.le_of_ble_eq_true rfl) dX9_takesCalendar_16 ⟨Nat.zero_le _, Nat.zero_le _⟩ (fun R_16 H locs z_16 w => ?_)
  refine lv_aload_n hx hb dX9_takesCalendar_19 rfl (lv_at hl 0 rfl) ?_
  refine mm_cC X w (c_X9_takesMonths l D t b n σ0 (va_up (va_up (va_up I 11 0) 14 0) 15 0) R_16 T 0 row0 false (by exact h_1.trans (tx_cg ((kpI.rf (J := [11,13,14]) (I := (va_up (va_up (va_up I 11 0) 14 0) 15 0))) 10 (by decide)) (z_16.1 9 (by decide)))) (by exact (show ((va_up (va_up (va_up I 11 0) 14 0) 15 0) 11).toInt = 0 from rfl)) (by have e10 := congrArg Int32.toInt ((kpI.rf (J := [11,13,14]) (I := (va_up (va_up (va_up I 11 0) 14 0) 15 0))) 10 (by decide)); exact ⟨by omega, by rw [show ((va_up (va_up (va_up I 11 0) 14 0) 15 0) 10).toInt = (I 10).toInt from e10]; omega, by rw [show ((va_up (va_up (va_up I 11 0) 14 0) 15 0) 10).toInt = (I 10).toInt from e10]; omega⟩) (by exact z_16.2) (by exact (show (va_up (va_up (va_up I 11 0) 14 0) 15 0) 14 = bI false from rfl))) v_X9_188 rfl rfl ⟨Nat.le_of_ble_eq_true rfl, Nat.le_of_ble_eq_true rfl⟩ rfl hl.1 (Nat.le_of_ble_eq_true rfl) dX9_takesCalendar_20 ⟨Nat.zero_le _, Nat.zero_le _⟩ (fun r_20 I_20 R_20 H locs z_20 w => ?_)
  have K_20 := kpI.tr (J := [11,13,14]) (kpI.rf (J := [11,13,14]) (I := (va_up (va_up (va_up I 11 0) 14 0) 15 0))) z_20.1 (by decide) (by decide)
  have KR_20 := kpR.tr (J := [3]) z_16.1 z_20.2.1 (by decide) (by decide)
  have E_20 : ((va_up (va_up (va_up I 11 0) 14 0) 15 0) 10).toInt = (I 10).toInt := congrArg Int32.toInt ((kpI.rf (J := [11,13,14]) (I := (va_up (va_up (va_up I 11 0) 14 0) 15 0))) 10 (by decide))
  obtain ⟨S_20, hS_20⟩ : ∃ x : PS, x = sMonths T 0 row0 false := ⟨_, rfl⟩
  rw [← hS_20] at z_20
  refine lv_if_eq (tgt := 47) hx hb dX9_takesCalendar_23 (by decide) (fun c_23 => ?_) (fun c_23 => ?_)
  · skip
    rw [(bI_b z_20.2.2.1)] at c_23
    have k_23 := bI_f.mp c_23
    have P_20 : (I_20 11).toInt = (S_20).2.1 := z_20.2.2.2.1
    have B_20 : 0 ≤ (S_20).2.1 ∧ (S_20).2.1 ≤ (I 10).toInt := ⟨z_20.2.2.2.2.1.1, by have e := z_20.2.2.2.2.1.2; omega⟩
    refine lv_iconst (v := 0) hx hb dX9_takesCalendar_47 (by decide) ?_
    exact q_cret (post := (fun z n1 σ1 => n1 = n ∧ ∃ I1 R1, σ1 = mS t b σ0 I1 R1 ∧ kpI [11, 13, 14, 15] I I1 ∧ kpR [3] Rw R1 ∧ z = bI (sCal T (I 10).toInt).1 ∧ (I1 11).toInt = (sCal T (I 10).toInt).2.1 ∧ ((sCal T (I 10).toInt).1 = true → eq33 (R1 3) (sCal T (I 10).toInt).2.2.1 ∧ I1 14 = bI (sCal T (I 10).toInt).2.2.2))) X w dX9_takesCalendar_48 (rfl) ⟨rfl, _, _, rfl, by have s1 : sParts T = S_20 := (by unfold sParts; rw [← hS_20, sAnd_f k_23]); have e : sCal T (I 10).toInt = S_20 := (by unfold sCal; rw [s1, sAnd_f k_23]); rw [e]; exact ⟨(kpI.tr (J := [11,13,14,15]) (kpI.up (J := [11,13,14,15]) (kpI.up (J := [11,13,14,15]) (kpI.up (J := [11,13,14,15]) kpI.rf (by decide)) (by decide)) (by decide)) K_20 (by decide) (by decide)), KR_20, (by rw [b_f k_23]; rfl), P_20, fun h => absurd h k_23⟩⟩
  · skip
    rw [(bI_b z_20.2.2.1)] at c_23
    have k_23 := bI_t.mp c_23
    have P_20 : (I_20 11).toInt = (S_20).2.1 := z_20.2.2.2.1
    have B_20 : 0 ≤ (S_20).2.1 ∧ (S_20).2.1 ≤ (I 10).toInt := ⟨z_20.2.2.2.2.1.1, by have e := z_20.2.2.2.2.1.2; omega⟩
    have Q_20 := (z_20.2.2.2.2.2 k_23).1
    have G_20 := (z_20.2.2.2.2.2 k_23).2
    refine lv_aload_n hx hb dX9_takesCalendar_26 rfl (lv_at hl 0 rfl) ?_
    refine mm_cC X w (c_X9_takesFirst l D t b n σ0 I_20 R_20 T S_20.2.1 S_20.2.2.1 S_20.2.2.2 (by exact h_1.trans (tx_cg (K_20 10 (by decide)) (KR_20 9 (by decide)))) (by exact P_20) (by have e10 := congrArg Int32.toInt (K_20 10 (by decide)); exact ⟨by omega, by rw [show (I_20 10).toInt = (I 10).toInt from e10]; omega, by rw [show (I_20 10).toInt = (I 10).toInt from e10]; omega⟩) (by exact Q_20) (by exact G_20)) v_X9_191 rfl rfl ⟨Nat.le_of_ble_eq_true rfl, Nat.le_of_ble_eq_true rfl⟩ rfl hl.1 (Nat.le_of_ble_eq_true rfl) dX9_takesCalendar_27 ⟨Nat.zero_le _, Nat.zero_le _⟩ (fun r_27 I_27 R_27 H locs z_27 w => ?_)
    have K_27 := kpI.tr (J := [11,13,14]) K_20 z_27.1 (by decide) (by decide)
    have KR_27 := kpR.tr (J := [3]) KR_20 z_27.2.1 (by decide) (by decide)
    have E_27 : (I_20 10).toInt = (I 10).toInt := congrArg Int32.toInt (K_20 10 (by decide))
    obtain ⟨S_27, hS_27⟩ : ∃ x : PS, x = sFirst T S_20.2.1 S_20.2.2.1 S_20.2.2.2 := ⟨_, rfl⟩
    rw [← hS_27] at z_27
    refine lv_if_eq (tgt := 47) hx hb dX9_takesCalendar_30 (by decide) (fun c_30 => ?_) (fun c_30 => ?_)
    · skip
      rw [(bI_b z_27.2.2.1)] at c_30
      have k_30 := bI_f.mp c_30
      have P_27 : (I_27 11).toInt = (S_27).2.1 := z_27.2.2.2.1
      have B_27 : S_20.2.1 ≤ (S_27).2.1 ∧ (S_27).2.1 ≤ (I 10).toInt := ⟨z_27.2.2.2.2.1.1, by have e := z_27.2.2.2.2.1.2; omega⟩
      refine lv_iconst (v := 0) hx hb dX9_takesCalendar_47 (by decide) ?_
      exact q_cret (post := (fun z n1 σ1 => n1 = n ∧ ∃ I1 R1, σ1 = mS t b σ0 I1 R1 ∧ kpI [11, 13, 14, 15] I I1 ∧ kpR [3] Rw R1 ∧ z = bI (sCal T (I 10).toInt).1 ∧ (I1 11).toInt = (sCal T (I 10).toInt).2.1 ∧ ((sCal T (I 10).toInt).1 = true → eq33 (R1 3) (sCal T (I 10).toInt).2.2.1 ∧ I1 14 = bI (sCal T (I 10).toInt).2.2.2))) X w dX9_takesCalendar_48 (rfl) ⟨rfl, _, _, rfl, by have s1 : sParts T = S_27 := (by unfold sParts; rw [← hS_20, sAnd_t k_23, ← hS_27, sAnd_f k_30]); have e : sCal T (I 10).toInt = S_27 := (by unfold sCal; rw [s1, sAnd_f k_30]); rw [e]; exact ⟨(kpI.tr (J := [11,13,14,15]) (kpI.up (J := [11,13,14,15]) (kpI.up (J := [11,13,14,15]) (kpI.up (J := [11,13,14,15]) kpI.rf (by decide)) (by decide)) (by decide)) K_27 (by decide) (by decide)), KR_27, (by rw [b_f k_30]; rfl), P_27, fun h => absurd h k_30⟩⟩
    · skip
      rw [(bI_b z_27.2.2.1)] at c_30
      have k_30 := bI_t.mp c_30
      have P_27 : (I_27 11).toInt = (S_27).2.1 := z_27.2.2.2.1
      have B_27 : S_20.2.1 ≤ (S_27).2.1 ∧ (S_27).2.1 ≤ (I 10).toInt := ⟨z_27.2.2.2.2.1.1, by have e := z_27.2.2.2.2.1.2; omega⟩
      have Q_27 := (z_27.2.2.2.2.2 k_30).1
      have G_27 := (z_27.2.2.2.2.2 k_30).2
      refine lv_aload_n hx hb dX9_takesCalendar_33 rfl (lv_at hl 0 rfl) ?_
      refine mm_cC X w (c_X9_takesLeap l D t b n σ0 I_27 R_27 T S_27.2.1 S_27.2.2.1 S_27.2.2.2 (by exact h_1.trans (tx_cg (K_27 10 (by decide)) (KR_27 9 (by decide)))) (by exact P_27) (by have e10 := congrArg Int32.toInt (K_27 10 (by decide)); exact ⟨by omega, by rw [show (I_27 10).toInt = (I 10).toInt from e10]; omega, by rw [show (I_27 10).toInt = (I 10).toInt from e10]; omega⟩) (by exact Q_27) (by exact G_27)) v_X9_194 rfl rfl ⟨Nat.le_of_ble_eq_true rfl, Nat.le_of_ble_eq_true rfl⟩ rfl hl.1 (Nat.le_of_ble_eq_true rfl) dX9_takesCalendar_34 ⟨Nat.zero_le _, Nat.zero_le _⟩ (fun r_34 I_34 R_34 H locs z_34 w => ?_)
      have K_34 := kpI.tr (J := [11,13,14]) K_27 z_34.1 (by decide) (by decide)
      have KR_34 := kpR.tr (J := [3]) KR_27 z_34.2.1 (by decide) (by decide)
      have E_34 : (I_27 10).toInt = (I 10).toInt := congrArg Int32.toInt (K_27 10 (by decide))
      obtain ⟨S_34, hS_34⟩ : ∃ x : PS, x = sLeap T S_27.2.1 S_27.2.2.1 S_27.2.2.2 := ⟨_, rfl⟩
      rw [← hS_34] at z_34
      refine lv_if_eq (tgt := 47) hx hb dX9_takesCalendar_37 (by decide) (fun c_37 => ?_) (fun c_37 => ?_)
      · skip
        rw [(bI_b z_34.2.2.1)] at c_37
        have k_37 := bI_f.mp c_37
        have P_34 : (I_34 11).toInt = (S_34).2.1 := z_34.2.2.2.1
        have B_34 : S_27.2.1 ≤ (S_34).2.1 ∧ (S_34).2.1 ≤ (I 10).toInt := ⟨z_34.2.2.2.2.1.1, by have e := z_34.2.2.2.2.1.2; omega⟩
        refine lv_iconst (v := 0) hx hb dX9_takesCalendar_47 (by decide) ?_
        exact q_cret (post := (fun z n1 σ1 => n1 = n ∧ ∃ I1 R1, σ1 = mS t b σ0 I1 R1 ∧ kpI [11, 13, 14, 15] I I1 ∧ kpR [3] Rw R1 ∧ z = bI (sCal T (I 10).toInt).1 ∧ (I1 11).toInt = (sCal T (I 10).toInt).2.1 ∧ ((sCal T (I 10).toInt).1 = true → eq33 (R1 3) (sCal T (I 10).toInt).2.2.1 ∧ I1 14 = bI (sCal T (I 10).toInt).2.2.2))) X w dX9_takesCalendar_48 (rfl) ⟨rfl, _, _, rfl, by have s1 : sParts T = S_34 := (by unfold sParts; rw [← hS_20, sAnd_t k_23, ← hS_27, sAnd_t k_30, ← hS_34, sAnd_f k_37]); have e : sCal T (I 10).toInt = S_34 := (by unfold sCal; rw [s1, sAnd_f k_37]); rw [e]; exact ⟨(kpI.tr (J := [11,13,14,15]) (kpI.up (J := [11,13,14,15]) (kpI.up (J := [11,13,14,15]) (kpI.up (J := [11,13,14,15]) kpI.rf (by decide)) (by decide)) (by decide)) K_34 (by decide) (by decide)), KR_34, (by rw [b_f k_37]; rfl), P_34, fun h => absurd h k_37⟩⟩
      · skip
        rw [(bI_b z_34.2.2.1)] at c_37
        have k_37 := bI_t.mp c_37
        have P_34 : (I_34 11).toInt = (S_34).2.1 := z_34.2.2.2.1
        have B_34 : S_27.2.1 ≤ (S_34).2.1 ∧ (S_34).2.1 ≤ (I 10).toInt := ⟨z_34.2.2.2.2.1.1, by have e := z_34.2.2.2.2.1.2; omega⟩
        have Q_34 := (z_34.2.2.2.2.2 k_37).1
        have G_34 := (z_34.2.2.2.2.2 k_37).2
        refine lv_aload_n hx hb dX9_takesCalendar_40 rfl (lv_at hl 0 rfl) ?_
        refine mm_cC X w (c_X9_takesRule l D t b n σ0 I_34 R_34 T S_34.2.1 S_34.2.2.1 S_34.2.2.2 (by exact h_1.trans (tx_cg (K_34 10 (by decide)) (KR_34 9 (by decide)))) (by exact P_34) (by have e10 := congrArg Int32.toInt (K_34 10 (by decide)); exact ⟨by omega, by rw [show (I_34 10).toInt = (I 10).toInt from e10]; omega, by rw [show (I_34 10).toInt = (I 10).toInt from e10]; omega⟩) (by exact Q_34) (by exact G_34)) v_X9_197 rfl rfl ⟨Nat.le_of_ble_eq_true rfl, Nat.le_of_ble_eq_true rfl⟩ rfl hl.1 (Nat.le_of_ble_eq_true rfl) dX9_takesCalendar_41 ⟨Nat.zero_le _, Nat.zero_le _⟩ (fun r_41 I_41 R_41 H locs z_41 w => ?_)
        have K_41 := kpI.tr (J := [11,13,14]) K_34 z_41.1 (by decide) (by decide)
        have KR_41 := kpR.tr (J := [3]) KR_34 z_41.2.1 (by decide) (by decide)
        have E_41 : (I_34 10).toInt = (I 10).toInt := congrArg Int32.toInt (K_34 10 (by decide))
        obtain ⟨S_41, hS_41⟩ : ∃ x : PS, x = sRule T S_34.2.1 S_34.2.2.1 S_34.2.2.2 := ⟨_, rfl⟩
        rw [← hS_41] at z_41
        refine lv_if_ne (tgt := 49) hx hb dX9_takesCalendar_44 (by decide) (fun c_44 => ?_) (fun c_44 => ?_)
        · skip
          rw [(bI_b z_41.2.2.1)] at c_44
          have k_44 := bI_t.mp c_44
          have P_41 : (I_41 11).toInt = (S_41).2.1 := z_41.2.2.2.1
          have B_41 : S_34.2.1 ≤ (S_41).2.1 ∧ (S_41).2.1 ≤ (I 10).toInt := ⟨z_41.2.2.2.2.1.1, by have e := z_41.2.2.2.2.1.2; omega⟩
          have Q_41 := (z_41.2.2.2.2.2 k_44).1
          have G_41 := (z_41.2.2.2.2.2 k_44).2
          refine lv_aload_n hx hb dX9_takesCalendar_49 rfl (lv_at hl 0 rfl) ?_
          refine mg_at X w dX9_takesCalendar_50 ?_
          refine lv_istore_n (lv' := [(1, .int (I_41 11)), (0, .ref (b + 45))]) hx hb dX9_takesCalendar_53 rfl hl (by decide) rfl (fun ls hl => ?_)
          refine lv_aload_n hx hb dX9_takesCalendar_54 rfl (lv_at hl 1 rfl) ?_
          refine mm_cC X w (c_X9_takesWeeks l D t b n σ0 I_41 R_41 T S_41.2.1 S_41.2.2.1 S_41.2.2.2 (by exact h_1.trans (tx_cg (K_41 10 (by decide)) (KR_41 9 (by decide)))) (by exact P_41) (by have e10 := congrArg Int32.toInt (K_41 10 (by decide)); exact ⟨by omega, by rw [show (I_41 10).toInt = (I 10).toInt from e10]; omega, by rw [show (I_41 10).toInt = (I 10).toInt from e10]; omega⟩) (by exact Q_41) (by exact G_41)) v_X9_200 rfl rfl ⟨Nat.le_of_ble_eq_true rfl, Nat.le_of_ble_eq_true rfl⟩ rfl hl.1 (Nat.le_of_ble_eq_true rfl) dX9_takesCalendar_55 ⟨Nat.zero_le _, Nat.zero_le _⟩ (fun r_55 I_55 R_55 H locs z_55 w => ?_)
          have K_55 := kpI.tr (J := [11,13,14]) K_41 z_55.1 (by decide) (by decide)
          have KR_55 := kpR.tr (J := [3]) KR_41 z_55.2.1 (by decide) (by decide)
          have E_55 : (I_41 10).toInt = (I 10).toInt := congrArg Int32.toInt (K_41 10 (by decide))
          obtain ⟨S_55, hS_55⟩ : ∃ x : PS, x = sWeeks T S_41.2.1 S_41.2.2.1 S_41.2.2.2 := ⟨_, rfl⟩
          rw [← hS_55] at z_55
          refine lv_if_ne (tgt := 63) hx hb dX9_takesCalendar_58 (by decide) (fun c_58 => ?_) (fun c_58 => ?_)
          · skip
            rw [(bI_b z_55.2.2.1)] at c_58
            have k_58 := bI_t.mp c_58
            have P_55 : (I_55 11).toInt = (S_55).2.1 := z_55.2.2.2.1
            have B_55 : S_41.2.1 ≤ (S_55).2.1 ∧ (S_55).2.1 ≤ (I 10).toInt := ⟨z_55.2.2.2.2.1.1, by have e := z_55.2.2.2.2.1.2; omega⟩
            have Q_55 := (z_55.2.2.2.2.2 k_58).1
            have G_55 := (z_55.2.2.2.2.2 k_58).2
            refine lv_aload_n hx hb dX9_takesCalendar_63 rfl (lv_at hl 1 rfl) ?_
            refine lv_aload_n hx hb dX9_takesCalendar_64 rfl (lv_at hl 1 rfl) ?_
            refine mg_at X w dX9_takesCalendar_65 ?_
            refine lv_iload_n hx hb dX9_takesCalendar_68 rfl (lv_at hl 0 rfl) ?_
            refine lv_icmp_le (tgt := 76) hx hb dX9_takesCalendar_69 (by decide) (fun c_69 => ?_) (fun c_69 => ?_)
            · skip
              have k_69 : ((I_55 11).toInt) ≤ ((I_41 11).toInt) := (g_le rfl rfl).mp c_69
              refine lv_iconst (v := 0) hx hb dX9_takesCalendar_76 (by decide) ?_
              refine mp_isWeeksTold (v := 0) X w dX9_takesCalendar_77 (rfl) (rfl) (fun H locs w => ?_)
              refine lv_aload_n hx hb dX9_takesCalendar_80 rfl (lv_at hl 1 rfl) ?_
              refine mm_cCI X w (c_X9_endsHere l D t b n σ0 (va_up I_55 15 0) R_55 T S_55.2.1 (decide (S_41.2.1 < S_55.2.1)) (by exact h_1.trans (tx_cg (K_55 10 (by decide)) (KR_55 9 (by decide)))) (by exact P_55) (by have e10 : ((va_up I_55 15 0) 10).toInt = (I 10).toInt := congrArg Int32.toInt (K_55 10 (by decide)); rw [e10]; omega) (by rw [decide_eq_false (show ¬ S_41.2.1 < S_55.2.1 by rw [← P_41, ← P_55]; omega)]; rfl)) v_X9_203 rfl rfl ⟨Nat.le_of_ble_eq_true rfl, Nat.le_of_ble_eq_true rfl⟩ rfl hl.1 (Nat.le_of_ble_eq_true rfl) dX9_takesCalendar_81 ⟨Nat.zero_le _, Nat.zero_le _⟩ (fun r_81 I_81 H locs z_81 w => ?_)
              exact q_cret (post := (fun z n1 σ1 => n1 = n ∧ ∃ I1 R1, σ1 = mS t b σ0 I1 R1 ∧ kpI [11, 13, 14, 15] I I1 ∧ kpR [3] Rw R1 ∧ z = bI (sCal T (I 10).toInt).1 ∧ (I1 11).toInt = (sCal T (I 10).toInt).2.1 ∧ ((sCal T (I 10).toInt).1 = true → eq33 (R1 3) (sCal T (I 10).toInt).2.2.1 ∧ I1 14 = bI (sCal T (I 10).toInt).2.2.2))) X w dX9_takesCalendar_84 (by rw [z_81.2.1]; exact bI_nar _) ⟨rfl, _, _, rfl, by have s1 : sParts T = S_41 := (by unfold sParts; rw [← hS_20, sAnd_t k_23, ← hS_27, sAnd_t k_30, ← hS_34, sAnd_t k_37, ← hS_41]); have e : sCal T (I 10).toInt = sEnd T (I 10).toInt (decide (S_41.2.1 < S_55.2.1)) S_55.2.1 S_55.2.2.1 S_55.2.2.2 := (by unfold sCal; rw [s1, sAnd_t k_44, ← hS_55, sAnd_t k_58]); have e10 : ((va_up I_55 15 0) 10).toInt = (I 10).toInt := congrArg Int32.toInt (K_55 10 (by decide)); have z81 := z_81; rw [e10] at z81; rw [e]; unfold sEnd; by_cases kk : S_55.2.1 = (I 10).toInt; (rw [if_pos kk]; rw [if_pos kk] at z81; exact ⟨(kpI.tr (J := [11,13,14,15]) (kpI.up (J := [11,13,14,15]) (kpI.tr (J := [11,13,14,15]) (kpI.up (J := [11,13,14,15]) (kpI.up (J := [11,13,14,15]) (kpI.up (J := [11,13,14,15]) kpI.rf (by decide)) (by decide)) (by decide)) K_55 (by decide) (by decide)) (by decide)) z_81.1 (by decide) (by decide)), KR_55, z81.2.1.trans (by rw [decide_eq_true kk]), z81.2.2, fun _ => ⟨Q_55, (z_81.1 14 (by decide)).trans G_55⟩⟩); (rw [if_neg kk]; rw [if_neg kk] at z81; exact ⟨(kpI.tr (J := [11,13,14,15]) (kpI.up (J := [11,13,14,15]) (kpI.tr (J := [11,13,14,15]) (kpI.up (J := [11,13,14,15]) (kpI.up (J := [11,13,14,15]) (kpI.up (J := [11,13,14,15]) kpI.rf (by decide)) (by decide)) (by decide)) K_55 (by decide) (by decide)) (by decide)) z_81.1 (by decide) (by decide)), KR_55, z81.2.1.trans (by rw [decide_eq_false kk]), z81.2.2, fun h => absurd (show false = true from h) (by decide)⟩)⟩
            · skip
              have k_69 : ¬ (((I_55 11).toInt) ≤ ((I_41 11).toInt)) := fun h => c_69 ((g_le rfl rfl).mpr h)
              refine lv_iconst (v := 1) hx hb dX9_takesCalendar_72 (by decide) ?_
              refine lv_goto (tgt := 77) hx hb dX9_takesCalendar_73 (by decide) ?_
              refine mp_isWeeksTold (v := 1) X w dX9_takesCalendar_77 (rfl) (rfl) (fun H locs w => ?_)
              refine lv_aload_n hx hb dX9_takesCalendar_80 rfl (lv_at hl 1 rfl) ?_
              refine mm_cCI X w (c_X9_endsHere l D t b n σ0 (va_up I_55 15 1) R_55 T S_55.2.1 (decide (S_41.2.1 < S_55.2.1)) (by exact h_1.trans (tx_cg (K_55 10 (by decide)) (KR_55 9 (by decide)))) (by exact P_55) (by have e10 : ((va_up I_55 15 1) 10).toInt = (I 10).toInt := congrArg Int32.toInt (K_55 10 (by decide)); rw [e10]; omega) (by rw [decide_eq_true (show S_41.2.1 < S_55.2.1 by rw [← P_41, ← P_55]; omega)]; rfl)) v_X9_203 rfl rfl ⟨Nat.le_of_ble_eq_true rfl, Nat.le_of_ble_eq_true rfl⟩ rfl hl.1 (Nat.le_of_ble_eq_true rfl) dX9_takesCalendar_81 ⟨Nat.zero_le _, Nat.zero_le _⟩ (fun r_81 I_81 H locs z_81 w => ?_)
              exact q_cret (post := (fun z n1 σ1 => n1 = n ∧ ∃ I1 R1, σ1 = mS t b σ0 I1 R1 ∧ kpI [11, 13, 14, 15] I I1 ∧ kpR [3] Rw R1 ∧ z = bI (sCal T (I 10).toInt).1 ∧ (I1 11).toInt = (sCal T (I 10).toInt).2.1 ∧ ((sCal T (I 10).toInt).1 = true → eq33 (R1 3) (sCal T (I 10).toInt).2.2.1 ∧ I1 14 = bI (sCal T (I 10).toInt).2.2.2))) X w dX9_takesCalendar_84 (by rw [z_81.2.1]; exact bI_nar _) ⟨rfl, _, _, rfl, by have s1 : sParts T = S_41 := (by unfold sParts; rw [← hS_20, sAnd_t k_23, ← hS_27, sAnd_t k_30, ← hS_34, sAnd_t k_37, ← hS_41]); have e : sCal T (I 10).toInt = sEnd T (I 10).toInt (decide (S_41.2.1 < S_55.2.1)) S_55.2.1 S_55.2.2.1 S_55.2.2.2 := (by unfold sCal; rw [s1, sAnd_t k_44, ← hS_55, sAnd_t k_58]); have e10 : ((va_up I_55 15 1) 10).toInt = (I 10).toInt := congrArg Int32.toInt (K_55 10 (by decide)); have z81 := z_81; rw [e10] at z81; rw [e]; unfold sEnd; by_cases kk : S_55.2.1 = (I 10).toInt; (rw [if_pos kk]; rw [if_pos kk] at z81; exact ⟨(kpI.tr (J := [11,13,14,15]) (kpI.up (J := [11,13,14,15]) (kpI.tr (J := [11,13,14,15]) (kpI.up (J := [11,13,14,15]) (kpI.up (J := [11,13,14,15]) (kpI.up (J := [11,13,14,15]) kpI.rf (by decide)) (by decide)) (by decide)) K_55 (by decide) (by decide)) (by decide)) z_81.1 (by decide) (by decide)), KR_55, z81.2.1.trans (by rw [decide_eq_true kk]), z81.2.2, fun _ => ⟨Q_55, (z_81.1 14 (by decide)).trans G_55⟩⟩); (rw [if_neg kk]; rw [if_neg kk] at z81; exact ⟨(kpI.tr (J := [11,13,14,15]) (kpI.up (J := [11,13,14,15]) (kpI.tr (J := [11,13,14,15]) (kpI.up (J := [11,13,14,15]) (kpI.up (J := [11,13,14,15]) (kpI.up (J := [11,13,14,15]) kpI.rf (by decide)) (by decide)) (by decide)) K_55 (by decide) (by decide)) (by decide)) z_81.1 (by decide) (by decide)), KR_55, z81.2.1.trans (by rw [decide_eq_false kk]), z81.2.2, fun h => absurd (show false = true from h) (by decide)⟩)⟩
          · skip
            rw [(bI_b z_55.2.2.1)] at c_58
            have k_58 := bI_f.mp c_58
            have P_55 : (I_55 11).toInt = (S_55).2.1 := z_55.2.2.2.1
            have B_55 : S_41.2.1 ≤ (S_55).2.1 ∧ (S_55).2.1 ≤ (I 10).toInt := ⟨z_55.2.2.2.2.1.1, by have e := z_55.2.2.2.2.1.2; omega⟩
            refine lv_iconst (v := 0) hx hb dX9_takesCalendar_61 (by decide) ?_
            exact q_cret (post := (fun z n1 σ1 => n1 = n ∧ ∃ I1 R1, σ1 = mS t b σ0 I1 R1 ∧ kpI [11, 13, 14, 15] I I1 ∧ kpR [3] Rw R1 ∧ z = bI (sCal T (I 10).toInt).1 ∧ (I1 11).toInt = (sCal T (I 10).toInt).2.1 ∧ ((sCal T (I 10).toInt).1 = true → eq33 (R1 3) (sCal T (I 10).toInt).2.2.1 ∧ I1 14 = bI (sCal T (I 10).toInt).2.2.2))) X w dX9_takesCalendar_62 (rfl) ⟨rfl, _, _, rfl, by have s1 : sParts T = S_41 := (by unfold sParts; rw [← hS_20, sAnd_t k_23, ← hS_27, sAnd_t k_30, ← hS_34, sAnd_t k_37, ← hS_41]); have e : sCal T (I 10).toInt = S_55 := (by unfold sCal; rw [s1, sAnd_t k_44, ← hS_55, sAnd_f k_58]); rw [e]; exact ⟨(kpI.tr (J := [11,13,14,15]) (kpI.up (J := [11,13,14,15]) (kpI.up (J := [11,13,14,15]) (kpI.up (J := [11,13,14,15]) kpI.rf (by decide)) (by decide)) (by decide)) K_55 (by decide) (by decide)), KR_55, (by rw [b_f k_58]; rfl), P_55, fun h => absurd h k_58⟩⟩
        · skip
          rw [(bI_b z_41.2.2.1)] at c_44
          have k_44 := bI_f.mp c_44
          have P_41 : (I_41 11).toInt = (S_41).2.1 := z_41.2.2.2.1
          have B_41 : S_34.2.1 ≤ (S_41).2.1 ∧ (S_41).2.1 ≤ (I 10).toInt := ⟨z_41.2.2.2.2.1.1, by have e := z_41.2.2.2.2.1.2; omega⟩
          refine lv_iconst (v := 0) hx hb dX9_takesCalendar_47 (by decide) ?_
          exact q_cret (post := (fun z n1 σ1 => n1 = n ∧ ∃ I1 R1, σ1 = mS t b σ0 I1 R1 ∧ kpI [11, 13, 14, 15] I I1 ∧ kpR [3] Rw R1 ∧ z = bI (sCal T (I 10).toInt).1 ∧ (I1 11).toInt = (sCal T (I 10).toInt).2.1 ∧ ((sCal T (I 10).toInt).1 = true → eq33 (R1 3) (sCal T (I 10).toInt).2.2.1 ∧ I1 14 = bI (sCal T (I 10).toInt).2.2.2))) X w dX9_takesCalendar_48 (rfl) ⟨rfl, _, _, rfl, by have s1 : sParts T = S_41 := (by unfold sParts; rw [← hS_20, sAnd_t k_23, ← hS_27, sAnd_t k_30, ← hS_34, sAnd_t k_37, ← hS_41]); have e : sCal T (I 10).toInt = S_41 := (by unfold sCal; rw [s1, sAnd_f k_44]); rw [e]; exact ⟨(kpI.tr (J := [11,13,14,15]) (kpI.up (J := [11,13,14,15]) (kpI.up (J := [11,13,14,15]) (kpI.up (J := [11,13,14,15]) kpI.rf (by decide)) (by decide)) (by decide)) K_41 (by decide) (by decide)), KR_41, (by rw [b_f k_44]; rfl), P_41, fun h => absurd h k_44⟩⟩
