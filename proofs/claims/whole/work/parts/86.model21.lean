set_option maxHeartbeats 4000000 in
set_option maxRecDepth 100000 in
theorem c_X9_convert (l : Launch) (D : va_G) (t : Nat → ClassId) (b n : Nat) (σ0 : qM) (I : Nat → Int32) (Rw : Nat → Nat → Int32) (a_ca : Int32) (a_yr : Int32) (a_mo : Int32) (a_da : Int32) (a_cb : Int32) (a_part : Int32) (ca : Int) (yr : Int) (mo : Int) (da : Int) (cb : Int) (part : Int) (e_ca : a_ca.toInt = ca) (e_yr : a_yr.toInt = yr) (e_mo : a_mo.toInt = mo) (e_da : a_da.toInt = da) (e_cb : a_cb.toInt = cb) (e_part : a_part.toInt = part) (h_1 : (I 5).toInt ≤ 6) (h_2 : ∀ c : Int, 0 ≤ c → c < (I 5).toInt → okRow (rowM Rw c)) (h_3 : ∀ c : Int, 0 ≤ c → c < (I 5).toInt → okF Rw c) : mC l yX9_convert cX9_convert 8 (some .int) 7 D t b n σ0 I Rw [.ref (b + 45), .int a_ca, .int a_yr, .int a_mo, .int a_da, .int a_cb, .int a_part] (fun z I1 R1 => R1 = Rw ∧ kpI [0, 6, 7, 8] I I1 ∧ (I1 0).toInt = cd3 ((0 ≤ ca ∧ ca < (I 5).toInt) ∧ 0 ≤ cb ∧ cb < (I 5).toInt) (((((-2000 ≤ yr ∧ yr ≤ 2000) ∧ 1 ≤ mo ∧ mo ≤ mcnt (rowM Rw ca) yr) ∧ 1 ≤ da ∧ da ≤ mlen (rowM Rw ca) yr mo) ∧ -999999 ≤ dnum (rowM Rw ca) yr mo da ∧ dnum (rowM Rw ca) yr mo da ≤ 999999) ∧ 0 ≤ part ∧ part ≤ 4) (fst (rowM Rw cb) (-2000) ≤ dnum (rowM Rw ca) yr mo da ∧ dnum (rowM Rw ca) yr mo da < fst (rowM Rw cb) 2001) ∧ ((I1 0).toInt = 0 → z.toInt = pof (rowM Rw cb) (dnum (rowM Rw ca) yr mo da) part)) := by
  refine qC.of (by decide +kernel) (Nat.le_of_ble_eq_true rfl) (fun p e s m args below meth c X w ls hl => ?_)
  have hx := X.1
  have hb := X.2.1
  have hl : lv_has ls 8 [(0, .ref (b + 45)), (1, .int a_ca), (2, .int a_yr), (3, .int a_mo), (4, .int a_da), (5, .int a_cb), (6, .int a_part)] := hl
  refine lv_aload_n hx hb dX9_convert_0 rfl (lv_at hl 0 rfl) ?_
  refine lv_iload_n hx hb dX9_convert_1 rfl (lv_at hl 1 rfl) ?_
  refine q_cPV X w (c_X9_isCalendar l D t b n σ0 I Rw a_ca ca e_ca) v_X9_221 (k := 45) rfl rfl rfl ⟨Nat.le_of_ble_eq_true rfl, Nat.le_of_ble_eq_true rfl⟩ rfl hl.1 (Nat.le_of_ble_eq_true rfl) dX9_convert_2 ⟨Nat.zero_le _, Nat.zero_le _⟩ (fun r_2 z_2 => ?_)
  refine lv_if_eq (tgt := 17) hx hb dX9_convert_5 (by decide) (fun c_5 => ?_) (fun c_5 => ?_)
  · skip
    rw [z_2] at c_5
    have k_5 := bI_f.mp c_5
    refine lv_aload_n hx hb dX9_convert_17 rfl (lv_at hl 0 rfl) ?_
    refine lv_iconst (v := 1) hx hb dX9_convert_18 (by decide) ?_
    refine mm_cCI X w (c_X9_fails l D t b n σ0 I Rw 1 1 (show (1 : Int32).toInt = 1 from rfl)) v_X9_143 rfl rfl ⟨Nat.le_of_ble_eq_true rfl, Nat.le_of_ble_eq_true rfl⟩ rfl hl.1 (Nat.le_of_ble_eq_true rfl) dX9_convert_19 ⟨Nat.zero_le _, Nat.zero_le _⟩ (fun r_19 I_19 H locs z_19 w => ?_)
    exact q_cret (post := (fun z n1 σ1 => n1 = n ∧ ∃ I1 R1, σ1 = mS t b σ0 I1 R1 ∧ R1 = Rw ∧ kpI [0, 6, 7, 8] I I1 ∧ (I1 0).toInt = cd3 ((0 ≤ ca ∧ ca < (I 5).toInt) ∧ 0 ≤ cb ∧ cb < (I 5).toInt) (((((-2000 ≤ yr ∧ yr ≤ 2000) ∧ 1 ≤ mo ∧ mo ≤ mcnt (rowM Rw ca) yr) ∧ 1 ≤ da ∧ da ≤ mlen (rowM Rw ca) yr mo) ∧ -999999 ≤ dnum (rowM Rw ca) yr mo da ∧ dnum (rowM Rw ca) yr mo da ≤ 999999) ∧ 0 ≤ part ∧ part ≤ 4) (fst (rowM Rw cb) (-2000) ≤ dnum (rowM Rw ca) yr mo da ∧ dnum (rowM Rw ca) yr mo da < fst (rowM Rw cb) 2001) ∧ ((I1 0).toInt = 0 → z.toInt = pof (rowM Rw cb) (dnum (rowM Rw ca) yr mo da) part))) X w dX9_convert_22 (rfl) ⟨rfl, _, _, rfl, rfl, by exact ⟨z_19.1.wk (by decide), z_19.2.1.trans (cd3_1 (fun q => k_5 q.1)).symm, fun q => absurd (z_19.2.1.symm.trans q) (by decide)⟩⟩
  · skip
    rw [z_2] at c_5
    have k_5 := bI_t.mp c_5
    have hq := h_2 ca k_5.1 k_5.2
    have hF := h_3 ca k_5.1 k_5.2
    refine lv_aload_n hx hb dX9_convert_8 rfl (lv_at hl 0 rfl) ?_
    refine lv_iload hx hb dX9_convert_9 (lv_at hl 5 rfl) ?_
    refine q_cPV X w (c_X9_isCalendar l D t b n σ0 I Rw a_cb cb e_cb) v_X9_221 (k := 45) rfl rfl rfl ⟨Nat.le_of_ble_eq_true rfl, Nat.le_of_ble_eq_true rfl⟩ rfl hl.1 (Nat.le_of_ble_eq_true rfl) dX9_convert_11 ⟨Nat.zero_le _, Nat.zero_le _⟩ (fun r_11 z_11 => ?_)
    refine lv_if_ne (tgt := 23) hx hb dX9_convert_14 (by decide) (fun c_14 => ?_) (fun c_14 => ?_)
    · skip
      rw [z_11] at c_14
      have k_14 := bI_t.mp c_14
      have hq2 := h_2 cb k_14.1 k_14.2
      have hF2 := h_3 cb k_14.1 k_14.2
      refine lv_aload_n hx hb dX9_convert_23 rfl (lv_at hl 0 rfl) ?_
      refine lv_iload_n hx hb dX9_convert_24 rfl (lv_at hl 1 rfl) ?_
      refine lv_iload_n hx hb dX9_convert_25 rfl (lv_at hl 2 rfl) ?_
      refine lv_iload_n hx hb dX9_convert_26 rfl (lv_at hl 3 rfl) ?_
      refine lv_iload hx hb dX9_convert_27 (lv_at hl 4 rfl) ?_
      refine q_cPV X w (c_X9_isDatedDay l D t b n σ0 I Rw a_ca a_yr a_mo a_da ca yr mo da e_ca e_yr e_mo e_da (by first | assumption | omega) (by first | assumption | omega) (by first | assumption | omega)) v_X9_241 (k := 45) rfl rfl rfl ⟨Nat.le_of_ble_eq_true rfl, Nat.le_of_ble_eq_true rfl⟩ rfl hl.1 (Nat.le_of_ble_eq_true rfl) dX9_convert_29 ⟨Nat.zero_le _, Nat.zero_le _⟩ (fun r_29 z_29 => ?_)
      refine lv_if_eq (tgt := 45) hx hb dX9_convert_32 (by decide) (fun c_32 => ?_) (fun c_32 => ?_)
      · skip
        rw [z_29] at c_32
        have k_32 := bI_f.mp c_32
        refine lv_aload_n hx hb dX9_convert_45 rfl (lv_at hl 0 rfl) ?_
        refine lv_iconst (v := 2) hx hb dX9_convert_46 (by decide) ?_
        refine mm_cCI X w (c_X9_fails l D t b n σ0 I Rw 2 2 (show (2 : Int32).toInt = 2 from rfl)) v_X9_143 rfl rfl ⟨Nat.le_of_ble_eq_true rfl, Nat.le_of_ble_eq_true rfl⟩ rfl hl.1 (Nat.le_of_ble_eq_true rfl) dX9_convert_47 ⟨Nat.zero_le _, Nat.zero_le _⟩ (fun r_47 I_47 H locs z_47 w => ?_)
        exact q_cret (post := (fun z n1 σ1 => n1 = n ∧ ∃ I1 R1, σ1 = mS t b σ0 I1 R1 ∧ R1 = Rw ∧ kpI [0, 6, 7, 8] I I1 ∧ (I1 0).toInt = cd3 ((0 ≤ ca ∧ ca < (I 5).toInt) ∧ 0 ≤ cb ∧ cb < (I 5).toInt) (((((-2000 ≤ yr ∧ yr ≤ 2000) ∧ 1 ≤ mo ∧ mo ≤ mcnt (rowM Rw ca) yr) ∧ 1 ≤ da ∧ da ≤ mlen (rowM Rw ca) yr mo) ∧ -999999 ≤ dnum (rowM Rw ca) yr mo da ∧ dnum (rowM Rw ca) yr mo da ≤ 999999) ∧ 0 ≤ part ∧ part ≤ 4) (fst (rowM Rw cb) (-2000) ≤ dnum (rowM Rw ca) yr mo da ∧ dnum (rowM Rw ca) yr mo da < fst (rowM Rw cb) 2001) ∧ ((I1 0).toInt = 0 → z.toInt = pof (rowM Rw cb) (dnum (rowM Rw ca) yr mo da) part))) X w dX9_convert_50 (rfl) ⟨rfl, _, _, rfl, rfl, by exact ⟨z_47.1.wk (by decide), z_47.2.1.trans (cd3_2 ⟨k_5, k_14⟩ (fun q => k_32 q.1)).symm, fun q => absurd (z_47.2.1.symm.trans q) (by decide)⟩⟩
      · skip
        rw [z_29] at c_32
        have k_32 := bI_t.mp c_32
        have hL := mlen_bd hq k_32.1.1.2.1 k_32.1.1.2.2
        refine lv_iload hx hb dX9_convert_35 (lv_at hl 6 rfl) ?_
        refine lv_iconst (v := 0) hx hb dX9_convert_37 (by decide) ?_
        refine lv_iconst (v := 4) hx hb dX9_convert_38 (by decide) ?_
        refine q_cPS X w (c_X9_isBetween l a_part 0 4 part 0 4 e_part (show (0 : Int32).toInt = 0 from rfl) (show (4 : Int32).toInt = 4 from rfl) D t b n (mS t b σ0 I Rw)) v_X9_70 rfl ⟨Nat.le_of_ble_eq_true rfl, Nat.le_of_ble_eq_true rfl⟩ rfl hl.1 (Nat.le_of_ble_eq_true rfl) dX9_convert_39 ⟨Nat.zero_le _, Nat.zero_le _⟩ (fun r_39 z_39 => ?_)
        refine lv_if_ne (tgt := 51) hx hb dX9_convert_42 (by decide) (fun c_42 => ?_) (fun c_42 => ?_)
        · skip
          rw [z_39] at c_42
          have k_42 := bI_t.mp c_42
          refine lv_aload_n hx hb dX9_convert_51 rfl (lv_at hl 0 rfl) ?_
          refine lv_iload_n hx hb dX9_convert_52 rfl (lv_at hl 1 rfl) ?_
          refine lv_iload_n hx hb dX9_convert_53 rfl (lv_at hl 2 rfl) ?_
          refine lv_iload_n hx hb dX9_convert_54 rfl (lv_at hl 3 rfl) ?_
          refine lv_iload hx hb dX9_convert_55 (lv_at hl 4 rfl) ?_
          refine q_cPV X w (c_X9_dayAt l D t b n σ0 I Rw a_ca a_yr a_mo a_da ca yr mo da e_ca e_yr e_mo e_da (by first | assumption | omega) (by first | assumption | omega) (by first | assumption | omega) (by omega) (by exact k_32.1.1.2) (by omega)) v_X9_234 (k := 45) rfl rfl rfl ⟨Nat.le_of_ble_eq_true rfl, Nat.le_of_ble_eq_true rfl⟩ rfl hl.1 (Nat.le_of_ble_eq_true rfl) dX9_convert_57 ⟨Nat.zero_le _, Nat.zero_le _⟩ (fun r_57 z_57 => ?_)
          refine lv_istore (lv' := [(7, .int r_57), (0, .ref (b + 45)), (1, .int a_ca), (2, .int a_yr), (3, .int a_mo), (4, .int a_da), (5, .int a_cb), (6, .int a_part)]) hx hb dX9_convert_60 hl (by decide) rfl (fun ls hl => ?_)
          refine lv_aload_n hx hb dX9_convert_62 rfl (lv_at hl 1 rfl) ?_
          refine lv_iload hx hb dX9_convert_63 (lv_at hl 6 rfl) ?_
          refine lv_iload hx hb dX9_convert_65 (lv_at hl 0 rfl) ?_
          refine q_cPV X w (c_X9_isInside l D t b n σ0 I Rw a_cb r_57 cb (dnum (rowM Rw ca) yr mo da) e_cb z_57 (by first | assumption | omega) (by first | assumption | omega) (by first | assumption | omega)) v_X9_244 (k := 45) rfl rfl rfl ⟨Nat.le_of_ble_eq_true rfl, Nat.le_of_ble_eq_true rfl⟩ rfl hl.1 (Nat.le_of_ble_eq_true rfl) dX9_convert_67 ⟨Nat.zero_le _, Nat.zero_le _⟩ (fun r_67 z_67 => ?_)
          refine lv_if_ne (tgt := 79) hx hb dX9_convert_70 (by decide) (fun c_70 => ?_) (fun c_70 => ?_)
          · skip
            rw [z_67] at c_70
            have k_70 := bI_t.mp c_70
            refine lv_aload_n hx hb dX9_convert_79 rfl (lv_at hl 1 rfl) ?_
            refine lv_iconst (v := 0) hx hb dX9_convert_80 (by decide) ?_
            refine mp_thrown (v := 0) X w dX9_convert_81 (fun H locs w => ?_)
            refine lv_aload_n hx hb dX9_convert_84 rfl (lv_at hl 1 rfl) ?_
            refine lv_iload hx hb dX9_convert_85 (lv_at hl 6 rfl) ?_
            refine lv_iload hx hb dX9_convert_87 (lv_at hl 0 rfl) ?_
            refine lv_iload hx hb dX9_convert_89 (lv_at hl 7 rfl) ?_
            refine mm_cCI X w (c_X9_partOf l D t b n σ0 (va_up I 0 0) Rw a_cb r_57 a_part cb (dnum (rowM Rw ca) yr mo da) part e_cb z_57 e_part (by first | assumption | omega) (by first | assumption | omega) (by first | assumption | omega) (by first | assumption | omega) (by first | assumption | omega)) v_X9_247 rfl rfl ⟨Nat.le_of_ble_eq_true rfl, Nat.le_of_ble_eq_true rfl⟩ rfl hl.1 (Nat.le_of_ble_eq_true rfl) dX9_convert_91 ⟨Nat.zero_le _, Nat.zero_le _⟩ (fun r_91 I_91 H locs z_91 w => ?_)
            exact q_cret (post := (fun z n1 σ1 => n1 = n ∧ ∃ I1 R1, σ1 = mS t b σ0 I1 R1 ∧ R1 = Rw ∧ kpI [0, 6, 7, 8] I I1 ∧ (I1 0).toInt = cd3 ((0 ≤ ca ∧ ca < (I 5).toInt) ∧ 0 ≤ cb ∧ cb < (I 5).toInt) (((((-2000 ≤ yr ∧ yr ≤ 2000) ∧ 1 ≤ mo ∧ mo ≤ mcnt (rowM Rw ca) yr) ∧ 1 ≤ da ∧ da ≤ mlen (rowM Rw ca) yr mo) ∧ -999999 ≤ dnum (rowM Rw ca) yr mo da ∧ dnum (rowM Rw ca) yr mo da ≤ 999999) ∧ 0 ≤ part ∧ part ≤ 4) (fst (rowM Rw cb) (-2000) ≤ dnum (rowM Rw ca) yr mo da ∧ dnum (rowM Rw ca) yr mo da < fst (rowM Rw cb) 2001) ∧ ((I1 0).toInt = 0 → z.toInt = pof (rowM Rw cb) (dnum (rowM Rw ca) yr mo da) part))) X w dX9_convert_94 (rfl) ⟨rfl, _, _, rfl, rfl, by exact ⟨(kpI.up (J := [0]) kpI.rf (by decide)).tr z_91.1 (by decide) (by decide), (by rw [cd3_0 ⟨k_5, k_14⟩ ⟨k_32, k_42⟩ k_70]; exact congrArg Int32.toInt (z_91.1 0 (by decide))), fun _ => z_91.2.2.2.2⟩⟩
          · skip
            rw [z_67] at c_70
            have k_70 := bI_f.mp c_70
            refine lv_aload_n hx hb dX9_convert_73 rfl (lv_at hl 1 rfl) ?_
            refine lv_iconst (v := 3) hx hb dX9_convert_74 (by decide) ?_
            refine mm_cCI X w (c_X9_fails l D t b n σ0 I Rw 3 3 (show (3 : Int32).toInt = 3 from rfl)) v_X9_143 rfl rfl ⟨Nat.le_of_ble_eq_true rfl, Nat.le_of_ble_eq_true rfl⟩ rfl hl.1 (Nat.le_of_ble_eq_true rfl) dX9_convert_75 ⟨Nat.zero_le _, Nat.zero_le _⟩ (fun r_75 I_75 H locs z_75 w => ?_)
            exact q_cret (post := (fun z n1 σ1 => n1 = n ∧ ∃ I1 R1, σ1 = mS t b σ0 I1 R1 ∧ R1 = Rw ∧ kpI [0, 6, 7, 8] I I1 ∧ (I1 0).toInt = cd3 ((0 ≤ ca ∧ ca < (I 5).toInt) ∧ 0 ≤ cb ∧ cb < (I 5).toInt) (((((-2000 ≤ yr ∧ yr ≤ 2000) ∧ 1 ≤ mo ∧ mo ≤ mcnt (rowM Rw ca) yr) ∧ 1 ≤ da ∧ da ≤ mlen (rowM Rw ca) yr mo) ∧ -999999 ≤ dnum (rowM Rw ca) yr mo da ∧ dnum (rowM Rw ca) yr mo da ≤ 999999) ∧ 0 ≤ part ∧ part ≤ 4) (fst (rowM Rw cb) (-2000) ≤ dnum (rowM Rw ca) yr mo da ∧ dnum (rowM Rw ca) yr mo da < fst (rowM Rw cb) 2001) ∧ ((I1 0).toInt = 0 → z.toInt = pof (rowM Rw cb) (dnum (rowM Rw ca) yr mo da) part))) X w dX9_convert_78 (rfl) ⟨rfl, _, _, rfl, rfl, by exact ⟨z_75.1.wk (by decide), z_75.2.1.trans (cd3_3 ⟨k_5, k_14⟩ ⟨k_32, k_42⟩ k_70).symm, fun q => absurd (z_75.2.1.symm.trans q) (by decide)⟩⟩
        · skip
          rw [z_39] at c_42
          have k_42 := bI_f.mp c_42
          refine lv_aload_n hx hb dX9_convert_45 rfl (lv_at hl 0 rfl) ?_
          refine lv_iconst (v := 2) hx hb dX9_convert_46 (by decide) ?_
          refine mm_cCI X w (c_X9_fails l D t b n σ0 I Rw 2 2 (show (2 : Int32).toInt = 2 from rfl)) v_X9_143 rfl rfl ⟨Nat.le_of_ble_eq_true rfl, Nat.le_of_ble_eq_true rfl⟩ rfl hl.1 (Nat.le_of_ble_eq_true rfl) dX9_convert_47 ⟨Nat.zero_le _, Nat.zero_le _⟩ (fun r_47 I_47 H locs z_47 w => ?_)
          exact q_cret (post := (fun z n1 σ1 => n1 = n ∧ ∃ I1 R1, σ1 = mS t b σ0 I1 R1 ∧ R1 = Rw ∧ kpI [0, 6, 7, 8] I I1 ∧ (I1 0).toInt = cd3 ((0 ≤ ca ∧ ca < (I 5).toInt) ∧ 0 ≤ cb ∧ cb < (I 5).toInt) (((((-2000 ≤ yr ∧ yr ≤ 2000) ∧ 1 ≤ mo ∧ mo ≤ mcnt (rowM Rw ca) yr) ∧ 1 ≤ da ∧ da ≤ mlen (rowM Rw ca) yr mo) ∧ -999999 ≤ dnum (rowM Rw ca) yr mo da ∧ dnum (rowM Rw ca) yr mo da ≤ 999999) ∧ 0 ≤ part ∧ part ≤ 4) (fst (rowM Rw cb) (-2000) ≤ dnum (rowM Rw ca) yr mo da ∧ dnum (rowM Rw ca) yr mo da < fst (rowM Rw cb) 2001) ∧ ((I1 0).toInt = 0 → z.toInt = pof (rowM Rw cb) (dnum (rowM Rw ca) yr mo da) part))) X w dX9_convert_50 (rfl) ⟨rfl, _, _, rfl, rfl, by exact ⟨z_47.1.wk (by decide), z_47.2.1.trans (cd3_2 ⟨k_5, k_14⟩ (fun q => k_42 q.2)).symm, fun q => absurd (z_47.2.1.symm.trans q) (by decide)⟩⟩
    · skip
      rw [z_11] at c_14
      have k_14 := bI_f.mp c_14
      refine lv_aload_n hx hb dX9_convert_17 rfl (lv_at hl 0 rfl) ?_
      refine lv_iconst (v := 1) hx hb dX9_convert_18 (by decide) ?_
      refine mm_cCI X w (c_X9_fails l D t b n σ0 I Rw 1 1 (show (1 : Int32).toInt = 1 from rfl)) v_X9_143 rfl rfl ⟨Nat.le_of_ble_eq_true rfl, Nat.le_of_ble_eq_true rfl⟩ rfl hl.1 (Nat.le_of_ble_eq_true rfl) dX9_convert_19 ⟨Nat.zero_le _, Nat.zero_le _⟩ (fun r_19 I_19 H locs z_19 w => ?_)
      exact q_cret (post := (fun z n1 σ1 => n1 = n ∧ ∃ I1 R1, σ1 = mS t b σ0 I1 R1 ∧ R1 = Rw ∧ kpI [0, 6, 7, 8] I I1 ∧ (I1 0).toInt = cd3 ((0 ≤ ca ∧ ca < (I 5).toInt) ∧ 0 ≤ cb ∧ cb < (I 5).toInt) (((((-2000 ≤ yr ∧ yr ≤ 2000) ∧ 1 ≤ mo ∧ mo ≤ mcnt (rowM Rw ca) yr) ∧ 1 ≤ da ∧ da ≤ mlen (rowM Rw ca) yr mo) ∧ -999999 ≤ dnum (rowM Rw ca) yr mo da ∧ dnum (rowM Rw ca) yr mo da ≤ 999999) ∧ 0 ≤ part ∧ part ≤ 4) (fst (rowM Rw cb) (-2000) ≤ dnum (rowM Rw ca) yr mo da ∧ dnum (rowM Rw ca) yr mo da < fst (rowM Rw cb) 2001) ∧ ((I1 0).toInt = 0 → z.toInt = pof (rowM Rw cb) (dnum (rowM Rw ca) yr mo da) part))) X w dX9_convert_22 (rfl) ⟨rfl, _, _, rfl, rfl, by exact ⟨z_19.1.wk (by decide), z_19.2.1.trans (cd3_1 (fun q => k_14 q.2)).symm, fun q => absurd (z_19.2.1.symm.trans q) (by decide)⟩⟩
