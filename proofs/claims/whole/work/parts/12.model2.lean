set_option maxHeartbeats 4000000 in
set_option maxRecDepth 100000 in
theorem c_X9_isMonth (l : Launch) (D : va_G) (t : Nat → ClassId) (b n : Nat) (σ0 : qM) (I : Nat → Int32) (Rw : Nat → Nat → Int32) (a_ca : Int32) (a_yr : Int32) (a_mo : Int32) (ca : Int) (yr : Int) (mo : Int) (e_ca : a_ca.toInt = ca) (e_yr : a_yr.toInt = yr) (e_mo : a_mo.toInt = mo) (h_1 : 0 ≤ ca ∧ ca < 6) (h_2 : okRow (rowM Rw ca)) : qP l yX9_isMonth cX9_isMonth 4 (some .boolean) 4 D t b n (mS t b σ0 I Rw) [.ref (b + 45), .int a_ca, .int a_yr, .int a_mo] (fun z => z = bI (decide ((-2000 ≤ yr ∧ yr ≤ 2000) ∧ 1 ≤ mo ∧ mo ≤ mcnt (rowM Rw ca) yr))) := by
  refine qP.of (by decide +kernel) (Nat.le_of_ble_eq_true rfl) (fun p e s m args below meth c X w ls hl => ?_)
  have hx := X.1
  have hb := X.2.1
  have hl : lv_has ls 4 [(0, .ref (b + 45)), (1, .int a_ca), (2, .int a_yr), (3, .int a_mo)] := hl
  refine lv_iload_n hx hb dX9_isMonth_0 rfl (lv_at hl 2 rfl) ?_
  refine q_cPS X w (c_X9_isYear l a_yr yr e_yr D t b n (mS t b σ0 I Rw)) v_X9_110 rfl ⟨Nat.le_of_ble_eq_true rfl, Nat.le_of_ble_eq_true rfl⟩ rfl hl.1 (Nat.le_of_ble_eq_true rfl) dX9_isMonth_1 ⟨Nat.zero_le _, Nat.zero_le _⟩ (fun r_1 z_1 => ?_)
  refine lv_if_eq (tgt := 25) hx hb dX9_isMonth_4 (by decide) (fun c_4 => ?_) (fun c_4 => ?_)
  · skip
    rw [z_1] at c_4
    have k_4 := bI_f.mp c_4
    refine lv_iconst (v := 0) hx hb dX9_isMonth_25 (by decide) ?_
    exact q_pretz X w dX9_isMonth_26 (rfl) (by exact bI_0 (by first | exact ⟨k_4, k_18⟩ | exact fun q => k_4 q.1 | exact fun q => k_18 q.2))
  · skip
    rw [z_1] at c_4
    have k_4 := bI_t.mp c_4
    refine lv_iload_n hx hb dX9_isMonth_7 rfl (lv_at hl 3 rfl) ?_
    refine lv_iconst (v := 1) hx hb dX9_isMonth_8 (by decide) ?_
    refine lv_aload_n hx hb dX9_isMonth_9 rfl (lv_at hl 0 rfl) ?_
    refine lv_iload_n hx hb dX9_isMonth_10 rfl (lv_at hl 1 rfl) ?_
    refine lv_iload_n hx hb dX9_isMonth_11 rfl (lv_at hl 2 rfl) ?_
    refine q_cPV X w (c_X9_monthsOf l D t b n σ0 I Rw a_ca a_yr ca yr e_ca e_yr (by first | assumption | omega) (by first | assumption | omega)) v_X9_114 (k := 45) rfl rfl rfl ⟨Nat.le_of_ble_eq_true rfl, Nat.le_of_ble_eq_true rfl⟩ rfl hl.1 (Nat.le_of_ble_eq_true rfl) dX9_isMonth_12 ⟨Nat.zero_le _, Nat.zero_le _⟩ (fun r_12 z_12 => ?_)
    refine q_cPS X w (c_X9_isBetween l a_mo 1 r_12 mo 1 (mcnt (rowM Rw ca) yr) e_mo (show (1 : Int32).toInt = 1 from rfl) z_12 D t b n (mS t b σ0 I Rw)) v_X9_70 rfl ⟨Nat.le_of_ble_eq_true rfl, Nat.le_of_ble_eq_true rfl⟩ rfl hl.1 (Nat.le_of_ble_eq_true rfl) dX9_isMonth_15 ⟨Nat.zero_le _, Nat.zero_le _⟩ (fun r_15 z_15 => ?_)
    refine lv_if_eq (tgt := 25) hx hb dX9_isMonth_18 (by decide) (fun c_18 => ?_) (fun c_18 => ?_)
    · skip
      rw [z_15] at c_18
      have k_18 := bI_f.mp c_18
      refine lv_iconst (v := 0) hx hb dX9_isMonth_25 (by decide) ?_
      exact q_pretz X w dX9_isMonth_26 (rfl) (by exact bI_0 (by first | exact ⟨k_4, k_18⟩ | exact fun q => k_4 q.1 | exact fun q => k_18 q.2))
    · skip
      rw [z_15] at c_18
      have k_18 := bI_t.mp c_18
      refine lv_iconst (v := 1) hx hb dX9_isMonth_21 (by decide) ?_
      refine lv_goto (tgt := 26) hx hb dX9_isMonth_22 (by decide) ?_
      exact q_pretz X w dX9_isMonth_26 (rfl) (by exact bI_1 (by first | exact ⟨k_4, k_18⟩ | exact fun q => k_4 q.1 | exact fun q => k_18 q.2))

set_option maxHeartbeats 4000000 in
set_option maxRecDepth 100000 in
theorem c_X9_isDate (l : Launch) (D : va_G) (t : Nat → ClassId) (b n : Nat) (σ0 : qM) (I : Nat → Int32) (Rw : Nat → Nat → Int32) (a_ca : Int32) (a_yr : Int32) (a_mo : Int32) (a_da : Int32) (ca : Int) (yr : Int) (mo : Int) (da : Int) (e_ca : a_ca.toInt = ca) (e_yr : a_yr.toInt = yr) (e_mo : a_mo.toInt = mo) (e_da : a_da.toInt = da) (h_1 : 0 ≤ ca ∧ ca < 6) (h_2 : okRow (rowM Rw ca)) : qP l yX9_isDate cX9_isDate 5 (some .boolean) 5 D t b n (mS t b σ0 I Rw) [.ref (b + 45), .int a_ca, .int a_yr, .int a_mo, .int a_da] (fun z => z = bI (decide (((-2000 ≤ yr ∧ yr ≤ 2000) ∧ 1 ≤ mo ∧ mo ≤ mcnt (rowM Rw ca) yr) ∧ 1 ≤ da ∧ da ≤ mlen (rowM Rw ca) yr mo))) := by
  refine qP.of (by decide +kernel) (Nat.le_of_ble_eq_true rfl) (fun p e s m args below meth c X w ls hl => ?_)
  have hx := X.1
  have hb := X.2.1
  have hl : lv_has ls 5 [(0, .ref (b + 45)), (1, .int a_ca), (2, .int a_yr), (3, .int a_mo), (4, .int a_da)] := hl
  refine lv_aload_n hx hb dX9_isDate_0 rfl (lv_at hl 0 rfl) ?_
  refine lv_iload_n hx hb dX9_isDate_1 rfl (lv_at hl 1 rfl) ?_
  refine lv_iload_n hx hb dX9_isDate_2 rfl (lv_at hl 2 rfl) ?_
  refine lv_iload_n hx hb dX9_isDate_3 rfl (lv_at hl 3 rfl) ?_
  refine q_cPV X w (c_X9_isMonth l D t b n σ0 I Rw a_ca a_yr a_mo ca yr mo e_ca e_yr e_mo (by first | assumption | omega) (by first | assumption | omega)) v_X9_117 (k := 45) rfl rfl rfl ⟨Nat.le_of_ble_eq_true rfl, Nat.le_of_ble_eq_true rfl⟩ rfl hl.1 (Nat.le_of_ble_eq_true rfl) dX9_isDate_4 ⟨Nat.zero_le _, Nat.zero_le _⟩ (fun r_4 z_4 => ?_)
  refine lv_if_eq (tgt := 30) hx hb dX9_isDate_7 (by decide) (fun c_7 => ?_) (fun c_7 => ?_)
  · skip
    rw [z_4] at c_7
    have k_7 := bI_f.mp c_7
    refine lv_iconst (v := 0) hx hb dX9_isDate_30 (by decide) ?_
    exact q_pretz X w dX9_isDate_31 (rfl) (by exact bI_0 (by first | exact ⟨k_7, k_23⟩ | exact fun q => k_7 q.1 | exact fun q => k_23 q.2))
  · skip
    rw [z_4] at c_7
    have k_7 := bI_t.mp c_7
    refine lv_iload hx hb dX9_isDate_10 (lv_at hl 4 rfl) ?_
    refine lv_iconst (v := 1) hx hb dX9_isDate_12 (by decide) ?_
    refine lv_aload_n hx hb dX9_isDate_13 rfl (lv_at hl 0 rfl) ?_
    refine lv_iload_n hx hb dX9_isDate_14 rfl (lv_at hl 1 rfl) ?_
    refine lv_iload_n hx hb dX9_isDate_15 rfl (lv_at hl 2 rfl) ?_
    refine lv_iload_n hx hb dX9_isDate_16 rfl (lv_at hl 3 rfl) ?_
    refine q_cPV X w (c_X9_lengthOfMonth l D t b n σ0 I Rw a_ca a_yr a_mo ca yr mo e_ca e_yr e_mo (by first | assumption | omega) (by first | assumption | omega) (by exact k_7.2)) v_X9_120 (k := 45) rfl rfl rfl ⟨Nat.le_of_ble_eq_true rfl, Nat.le_of_ble_eq_true rfl⟩ rfl hl.1 (Nat.le_of_ble_eq_true rfl) dX9_isDate_17 ⟨Nat.zero_le _, Nat.zero_le _⟩ (fun r_17 z_17 => ?_)
    refine q_cPS X w (c_X9_isBetween l a_da 1 r_17 da 1 (mlen (rowM Rw ca) yr mo) e_da (show (1 : Int32).toInt = 1 from rfl) z_17 D t b n (mS t b σ0 I Rw)) v_X9_70 rfl ⟨Nat.le_of_ble_eq_true rfl, Nat.le_of_ble_eq_true rfl⟩ rfl hl.1 (Nat.le_of_ble_eq_true rfl) dX9_isDate_20 ⟨Nat.zero_le _, Nat.zero_le _⟩ (fun r_20 z_20 => ?_)
    refine lv_if_eq (tgt := 30) hx hb dX9_isDate_23 (by decide) (fun c_23 => ?_) (fun c_23 => ?_)
    · skip
      rw [z_20] at c_23
      have k_23 := bI_f.mp c_23
      refine lv_iconst (v := 0) hx hb dX9_isDate_30 (by decide) ?_
      exact q_pretz X w dX9_isDate_31 (rfl) (by exact bI_0 (by first | exact ⟨k_7, k_23⟩ | exact fun q => k_7 q.1 | exact fun q => k_23 q.2))
    · skip
      rw [z_20] at c_23
      have k_23 := bI_t.mp c_23
      refine lv_iconst (v := 1) hx hb dX9_isDate_26 (by decide) ?_
      refine lv_goto (tgt := 31) hx hb dX9_isDate_27 (by decide) ?_
      exact q_pretz X w dX9_isDate_31 (rfl) (by exact bI_1 (by first | exact ⟨k_7, k_23⟩ | exact fun q => k_7 q.1 | exact fun q => k_23 q.2))

set_option maxHeartbeats 4000000 in
set_option maxRecDepth 100000 in
theorem c_X9_isDatedDay (l : Launch) (D : va_G) (t : Nat → ClassId) (b n : Nat) (σ0 : qM) (I : Nat → Int32) (Rw : Nat → Nat → Int32) (a_ca : Int32) (a_yr : Int32) (a_mo : Int32) (a_da : Int32) (ca : Int) (yr : Int) (mo : Int) (da : Int) (e_ca : a_ca.toInt = ca) (e_yr : a_yr.toInt = yr) (e_mo : a_mo.toInt = mo) (e_da : a_da.toInt = da) (h_1 : 0 ≤ ca ∧ ca < 6) (h_2 : okRow (rowM Rw ca)) (h_3 : okF Rw ca) : qP l yX9_isDatedDay cX9_isDatedDay 5 (some .boolean) 6 D t b n (mS t b σ0 I Rw) [.ref (b + 45), .int a_ca, .int a_yr, .int a_mo, .int a_da] (fun z => z = bI (decide ((((-2000 ≤ yr ∧ yr ≤ 2000) ∧ 1 ≤ mo ∧ mo ≤ mcnt (rowM Rw ca) yr) ∧ 1 ≤ da ∧ da ≤ mlen (rowM Rw ca) yr mo) ∧ -999999 ≤ dnum (rowM Rw ca) yr mo da ∧ dnum (rowM Rw ca) yr mo da ≤ 999999))) := by
  refine qP.of (by decide +kernel) (Nat.le_of_ble_eq_true rfl) (fun p e s m args below meth c X w ls hl => ?_)
  have hx := X.1
  have hb := X.2.1
  have hl : lv_has ls 5 [(0, .ref (b + 45)), (1, .int a_ca), (2, .int a_yr), (3, .int a_mo), (4, .int a_da)] := hl
  refine lv_aload_n hx hb dX9_isDatedDay_0 rfl (lv_at hl 0 rfl) ?_
  refine lv_iload_n hx hb dX9_isDatedDay_1 rfl (lv_at hl 1 rfl) ?_
  refine lv_iload_n hx hb dX9_isDatedDay_2 rfl (lv_at hl 2 rfl) ?_
  refine lv_iload_n hx hb dX9_isDatedDay_3 rfl (lv_at hl 3 rfl) ?_
  refine lv_iload hx hb dX9_isDatedDay_4 (lv_at hl 4 rfl) ?_
  refine q_cPV X w (c_X9_isDate l D t b n σ0 I Rw a_ca a_yr a_mo a_da ca yr mo da e_ca e_yr e_mo e_da (by first | assumption | omega) (by first | assumption | omega)) v_X9_230 (k := 45) rfl rfl rfl ⟨Nat.le_of_ble_eq_true rfl, Nat.le_of_ble_eq_true rfl⟩ rfl hl.1 (Nat.le_of_ble_eq_true rfl) dX9_isDatedDay_6 ⟨Nat.zero_le _, Nat.zero_le _⟩ (fun r_6 z_6 => ?_)
  refine lv_if_eq (tgt := 31) hx hb dX9_isDatedDay_9 (by decide) (fun c_9 => ?_) (fun c_9 => ?_)
  · skip
    rw [z_6] at c_9
    have k_9 := bI_f.mp c_9
    refine lv_iconst (v := 0) hx hb dX9_isDatedDay_31 (by decide) ?_
    exact q_pretz X w dX9_isDatedDay_32 (rfl) (by exact bI_0 (by first | exact ⟨k_9, k_24⟩ | exact fun q => k_9 q.1 | exact fun q => k_24 q.2))
  · skip
    rw [z_6] at c_9
    have k_9 := bI_t.mp c_9
    refine lv_aload_n hx hb dX9_isDatedDay_12 rfl (lv_at hl 0 rfl) ?_
    refine lv_iload_n hx hb dX9_isDatedDay_13 rfl (lv_at hl 1 rfl) ?_
    refine lv_iload_n hx hb dX9_isDatedDay_14 rfl (lv_at hl 2 rfl) ?_
    refine lv_iload_n hx hb dX9_isDatedDay_15 rfl (lv_at hl 3 rfl) ?_
    refine lv_iload hx hb dX9_isDatedDay_16 (lv_at hl 4 rfl) ?_
    refine q_cPV X w (c_X9_dayAt l D t b n σ0 I Rw a_ca a_yr a_mo a_da ca yr mo da e_ca e_yr e_mo e_da (by first | assumption | omega) (by first | assumption | omega) (by first | assumption | omega) (by omega) (by exact k_9.1.2) (by have := mlen_bd h_2 k_9.1.2.1 k_9.1.2.2; omega)) v_X9_234 (k := 45) rfl rfl rfl ⟨Nat.le_of_ble_eq_true rfl, Nat.le_of_ble_eq_true rfl⟩ rfl hl.1 (Nat.le_of_ble_eq_true rfl) dX9_isDatedDay_18 ⟨Nat.zero_le _, Nat.zero_le _⟩ (fun r_18 z_18 => ?_)
    refine q_cPS X w (c_X9_isDay l r_18 (dnum (rowM Rw ca) yr mo da) z_18 D t b n (mS t b σ0 I Rw)) v_X9_238 rfl ⟨Nat.le_of_ble_eq_true rfl, Nat.le_of_ble_eq_true rfl⟩ rfl hl.1 (Nat.le_of_ble_eq_true rfl) dX9_isDatedDay_21 ⟨Nat.zero_le _, Nat.zero_le _⟩ (fun r_21 z_21 => ?_)
    refine lv_if_eq (tgt := 31) hx hb dX9_isDatedDay_24 (by decide) (fun c_24 => ?_) (fun c_24 => ?_)
    · skip
      rw [z_21] at c_24
      have k_24 := bI_f.mp c_24
      refine lv_iconst (v := 0) hx hb dX9_isDatedDay_31 (by decide) ?_
      exact q_pretz X w dX9_isDatedDay_32 (rfl) (by exact bI_0 (by first | exact ⟨k_9, k_24⟩ | exact fun q => k_9 q.1 | exact fun q => k_24 q.2))
    · skip
      rw [z_21] at c_24
      have k_24 := bI_t.mp c_24
      refine lv_iconst (v := 1) hx hb dX9_isDatedDay_27 (by decide) ?_
      refine lv_goto (tgt := 32) hx hb dX9_isDatedDay_28 (by decide) ?_
      exact q_pretz X w dX9_isDatedDay_32 (rfl) (by exact bI_1 (by first | exact ⟨k_9, k_24⟩ | exact fun q => k_9 q.1 | exact fun q => k_24 q.2))

set_option maxHeartbeats 4000000 in
set_option maxRecDepth 100000 in
theorem c_X9_notYear (l : Launch) (D : va_G) (t : Nat → ClassId) (b n : Nat) (σ0 : qM) (I : Nat → Int32) (Rw : Nat → Nat → Int32) (a_ca : Int32) (a_yr : Int32) (ca : Int) (yr : Int) (e_ca : a_ca.toInt = ca) (e_yr : a_yr.toInt = yr) : qP l yX9_notYear cX9_notYear 3 (some .int) 2 D t b n (mS t b σ0 I Rw) [.ref (b + 45), .int a_ca, .int a_yr] (fun z => z.toInt = cd2 (0 ≤ ca ∧ ca < (I 5).toInt) (-2000 ≤ yr ∧ yr ≤ 2000)) := by
  refine qP.of (by decide +kernel) (Nat.le_of_ble_eq_true rfl) (fun p e s m args below meth c X w ls hl => ?_)
  have hx := X.1
  have hb := X.2.1
  have hl : lv_has ls 3 [(0, .ref (b + 45)), (1, .int a_ca), (2, .int a_yr)] := hl
  refine lv_aload_n hx hb dX9_notYear_0 rfl (lv_at hl 0 rfl) ?_
  refine lv_iload_n hx hb dX9_notYear_1 rfl (lv_at hl 1 rfl) ?_
  refine q_cPV X w (c_X9_isCalendar l D t b n σ0 I Rw a_ca ca e_ca) v_X9_221 (k := 45) rfl rfl rfl ⟨Nat.le_of_ble_eq_true rfl, Nat.le_of_ble_eq_true rfl⟩ rfl hl.1 (Nat.le_of_ble_eq_true rfl) dX9_notYear_2 ⟨Nat.zero_le _, Nat.zero_le _⟩ (fun r_2 z_2 => ?_)
  refine lv_if_ne (tgt := 12) hx hb dX9_notYear_5 (by decide) (fun c_5 => ?_) (fun c_5 => ?_)
  · skip
    rw [z_2] at c_5
    have k_5 := bI_t.mp c_5
    refine lv_iload_n hx hb dX9_notYear_12 rfl (lv_at hl 2 rfl) ?_
    refine q_cPS X w (c_X9_isYear l a_yr yr e_yr D t b n (mS t b σ0 I Rw)) v_X9_110 rfl ⟨Nat.le_of_ble_eq_true rfl, Nat.le_of_ble_eq_true rfl⟩ rfl hl.1 (Nat.le_of_ble_eq_true rfl) dX9_notYear_13 ⟨Nat.zero_le _, Nat.zero_le _⟩ (fun r_13 z_13 => ?_)
    refine lv_if_eq (tgt := 23) hx hb dX9_notYear_16 (by decide) (fun c_16 => ?_) (fun c_16 => ?_)
    · skip
      rw [z_13] at c_16
      have k_16 := bI_f.mp c_16
      refine lv_iconst (v := 2) hx hb dX9_notYear_23 (by decide) ?_
      exact q_pret X w dX9_notYear_24 (by exact (cd2_2 k_5 k_16).symm)
    · skip
      rw [z_13] at c_16
      have k_16 := bI_t.mp c_16
      refine lv_iconst (v := 0) hx hb dX9_notYear_19 (by decide) ?_
      refine lv_goto (tgt := 24) hx hb dX9_notYear_20 (by decide) ?_
      exact q_pret X w dX9_notYear_24 (by exact (cd2_0 k_5 k_16).symm)
  · skip
    rw [z_2] at c_5
    have k_5 := bI_f.mp c_5
    refine lv_iconst (v := 1) hx hb dX9_notYear_8 (by decide) ?_
    refine lv_goto (tgt := 24) hx hb dX9_notYear_9 (by decide) ?_
    exact q_pret X w dX9_notYear_24 (by exact (cd2_1 k_5).symm)

set_option maxHeartbeats 4000000 in
set_option maxRecDepth 100000 in
theorem c_X9_notMonth (l : Launch) (D : va_G) (t : Nat → ClassId) (b n : Nat) (σ0 : qM) (I : Nat → Int32) (Rw : Nat → Nat → Int32) (a_ca : Int32) (a_yr : Int32) (a_mo : Int32) (ca : Int) (yr : Int) (mo : Int) (e_ca : a_ca.toInt = ca) (e_yr : a_yr.toInt = yr) (e_mo : a_mo.toInt = mo) (h_1 : (I 5).toInt ≤ 6) (h_2 : ∀ c : Int, 0 ≤ c → c < (I 5).toInt → okRow (rowM Rw c)) : qP l yX9_notMonth cX9_notMonth 4 (some .int) 5 D t b n (mS t b σ0 I Rw) [.ref (b + 45), .int a_ca, .int a_yr, .int a_mo] (fun z => z.toInt = cd2 (0 ≤ ca ∧ ca < (I 5).toInt) ((-2000 ≤ yr ∧ yr ≤ 2000) ∧ 1 ≤ mo ∧ mo ≤ mcnt (rowM Rw ca) yr)) := by
  refine qP.of (by decide +kernel) (Nat.le_of_ble_eq_true rfl) (fun p e s m args below meth c X w ls hl => ?_)
  have hx := X.1
  have hb := X.2.1
  have hl : lv_has ls 4 [(0, .ref (b + 45)), (1, .int a_ca), (2, .int a_yr), (3, .int a_mo)] := hl
  refine lv_aload_n hx hb dX9_notMonth_0 rfl (lv_at hl 0 rfl) ?_
  refine lv_iload_n hx hb dX9_notMonth_1 rfl (lv_at hl 1 rfl) ?_
  refine q_cPV X w (c_X9_isCalendar l D t b n σ0 I Rw a_ca ca e_ca) v_X9_221 (k := 45) rfl rfl rfl ⟨Nat.le_of_ble_eq_true rfl, Nat.le_of_ble_eq_true rfl⟩ rfl hl.1 (Nat.le_of_ble_eq_true rfl) dX9_notMonth_2 ⟨Nat.zero_le _, Nat.zero_le _⟩ (fun r_2 z_2 => ?_)
  refine lv_if_ne (tgt := 12) hx hb dX9_notMonth_5 (by decide) (fun c_5 => ?_) (fun c_5 => ?_)
  · skip
    rw [z_2] at c_5
    have k_5 := bI_t.mp c_5
    have hq := h_2 ca k_5.1 k_5.2
    refine lv_aload_n hx hb dX9_notMonth_12 rfl (lv_at hl 0 rfl) ?_
    refine lv_iload_n hx hb dX9_notMonth_13 rfl (lv_at hl 1 rfl) ?_
    refine lv_iload_n hx hb dX9_notMonth_14 rfl (lv_at hl 2 rfl) ?_
    refine lv_iload_n hx hb dX9_notMonth_15 rfl (lv_at hl 3 rfl) ?_
    refine q_cPV X w (c_X9_isMonth l D t b n σ0 I Rw a_ca a_yr a_mo ca yr mo e_ca e_yr e_mo (by first | assumption | omega) (by first | assumption | omega)) v_X9_117 (k := 45) rfl rfl rfl ⟨Nat.le_of_ble_eq_true rfl, Nat.le_of_ble_eq_true rfl⟩ rfl hl.1 (Nat.le_of_ble_eq_true rfl) dX9_notMonth_16 ⟨Nat.zero_le _, Nat.zero_le _⟩ (fun r_16 z_16 => ?_)
    refine lv_if_eq (tgt := 26) hx hb dX9_notMonth_19 (by decide) (fun c_19 => ?_) (fun c_19 => ?_)
    · skip
      rw [z_16] at c_19
      have k_19 := bI_f.mp c_19
      refine lv_iconst (v := 2) hx hb dX9_notMonth_26 (by decide) ?_
      exact q_pret X w dX9_notMonth_27 (by exact (cd2_2 k_5 k_19).symm)
    · skip
      rw [z_16] at c_19
      have k_19 := bI_t.mp c_19
      refine lv_iconst (v := 0) hx hb dX9_notMonth_22 (by decide) ?_
      refine lv_goto (tgt := 27) hx hb dX9_notMonth_23 (by decide) ?_
      exact q_pret X w dX9_notMonth_27 (by exact (cd2_0 k_5 k_19).symm)
  · skip
    rw [z_2] at c_5
    have k_5 := bI_f.mp c_5
    refine lv_iconst (v := 1) hx hb dX9_notMonth_8 (by decide) ?_
    refine lv_goto (tgt := 27) hx hb dX9_notMonth_9 (by decide) ?_
    exact q_pret X w dX9_notMonth_27 (by exact (cd2_1 k_5).symm)

set_option maxHeartbeats 4000000 in
set_option maxRecDepth 100000 in
theorem c_X9_notShift (l : Launch) (D : va_G) (t : Nat → ClassId) (b n : Nat) (σ0 : qM) (I : Nat → Int32) (Rw : Nat → Nat → Int32) (a_ca : Int32) (a_dy : Int32) (a_sh : Int32) (a_most : Int32) (ca : Int) (dy : Int) (sh : Int) (most : Int) (e_ca : a_ca.toInt = ca) (e_dy : a_dy.toInt = dy) (e_sh : a_sh.toInt = sh) (e_most : a_most.toInt = most) (h_1 : (I 5).toInt ≤ 6) (h_2 : ∀ c : Int, 0 ≤ c → c < (I 5).toInt → okRow (rowM Rw c)) (h_3 : ∀ c : Int, 0 ≤ c → c < (I 5).toInt → okF Rw c) (h_4 : 0 ≤ most ∧ most ≤ 9999) : qP l yX9_notShift cX9_notShift 5 (some .int) 2 D t b n (mS t b σ0 I Rw) [.ref (b + 45), .int a_ca, .int a_dy, .int a_sh, .int a_most] (fun z => z.toInt = cd3 (0 ≤ ca ∧ ca < (I 5).toInt) ((-999999 ≤ dy ∧ dy ≤ 999999) ∧ -most ≤ sh ∧ sh ≤ most) (fst (rowM Rw ca) (-2000) ≤ dy ∧ dy < fst (rowM Rw ca) 2001)) := by
  refine qP.of (by decide +kernel) (Nat.le_of_ble_eq_true rfl) (fun p e s m args below meth c X w ls hl => ?_)
  have hx := X.1
  have hb := X.2.1
  have hl : lv_has ls 5 [(0, .ref (b + 45)), (1, .int a_ca), (2, .int a_dy), (3, .int a_sh), (4, .int a_most)] := hl
  refine lv_aload_n hx hb dX9_notShift_0 rfl (lv_at hl 0 rfl) ?_
  refine lv_iload_n hx hb dX9_notShift_1 rfl (lv_at hl 1 rfl) ?_
  refine q_cPV X w (c_X9_isCalendar l D t b n σ0 I Rw a_ca ca e_ca) v_X9_221 (k := 45) rfl rfl rfl ⟨Nat.le_of_ble_eq_true rfl, Nat.le_of_ble_eq_true rfl⟩ rfl hl.1 (Nat.le_of_ble_eq_true rfl) dX9_notShift_2 ⟨Nat.zero_le _, Nat.zero_le _⟩ (fun r_2 z_2 => ?_)
  refine lv_if_ne (tgt := 12) hx hb dX9_notShift_5 (by decide) (fun c_5 => ?_) (fun c_5 => ?_)
  · skip
    rw [z_2] at c_5
    have k_5 := bI_t.mp c_5
    have hq := h_2 ca k_5.1 k_5.2
    have hF := h_3 ca k_5.1 k_5.2
    refine lv_iload_n hx hb dX9_notShift_12 rfl (lv_at hl 2 rfl) ?_
    refine q_cPS X w (c_X9_isDay l a_dy dy e_dy D t b n (mS t b σ0 I Rw)) v_X9_238 rfl ⟨Nat.le_of_ble_eq_true rfl, Nat.le_of_ble_eq_true rfl⟩ rfl hl.1 (Nat.le_of_ble_eq_true rfl) dX9_notShift_13 ⟨Nat.zero_le _, Nat.zero_le _⟩ (fun r_13 z_13 => ?_)
    refine lv_if_eq (tgt := 31) hx hb dX9_notShift_16 (by decide) (fun c_16 => ?_) (fun c_16 => ?_)
    · skip
      rw [z_13] at c_16
      have k_16 := bI_f.mp c_16
      refine lv_iconst (v := 2) hx hb dX9_notShift_31 (by decide) ?_
      refine lv_goto (tgt := 49) hx hb dX9_notShift_32 (by decide) ?_
      exact q_pret X w dX9_notShift_49 (by exact (cd3_2 k_5 (fun q => k_16 q.1)).symm)
    · skip
      rw [z_13] at c_16
      have k_16 := bI_t.mp c_16
      refine lv_iload_n hx hb dX9_notShift_19 rfl (lv_at hl 3 rfl) ?_
      refine lv_iload hx hb dX9_notShift_20 (lv_at hl 4 rfl) ?_
      refine lv_ineg hx hb dX9_notShift_22 ?_
      refine lv_topi (fun x_22 e_22 => ?_)
      have p_22 : x_22.toInt = -most := by rw [e_22]; exact t_neg e_most (by omega)
      refine lv_iload hx hb dX9_notShift_23 (lv_at hl 4 rfl) ?_
      refine q_cPS X w (c_X9_isBetween l a_sh x_22 a_most sh (-most) most e_sh p_22 e_most D t b n (mS t b σ0 I Rw)) v_X9_70 rfl ⟨Nat.le_of_ble_eq_true rfl, Nat.le_of_ble_eq_true rfl⟩ rfl hl.1 (Nat.le_of_ble_eq_true rfl) dX9_notShift_25 ⟨Nat.zero_le _, Nat.zero_le _⟩ (fun r_25 z_25 => ?_)
      refine lv_if_ne (tgt := 35) hx hb dX9_notShift_28 (by decide) (fun c_28 => ?_) (fun c_28 => ?_)
      · skip
        rw [z_25] at c_28
        have k_28 := bI_t.mp c_28
        refine lv_aload_n hx hb dX9_notShift_35 rfl (lv_at hl 0 rfl) ?_
        refine lv_iload_n hx hb dX9_notShift_36 rfl (lv_at hl 1 rfl) ?_
        refine lv_iload_n hx hb dX9_notShift_37 rfl (lv_at hl 2 rfl) ?_
        refine q_cPV X w (c_X9_isInside l D t b n σ0 I Rw a_ca a_dy ca dy e_ca e_dy (by first | assumption | omega) (by first | assumption | omega) (by first | assumption | omega)) v_X9_244 (k := 45) rfl rfl rfl ⟨Nat.le_of_ble_eq_true rfl, Nat.le_of_ble_eq_true rfl⟩ rfl hl.1 (Nat.le_of_ble_eq_true rfl) dX9_notShift_38 ⟨Nat.zero_le _, Nat.zero_le _⟩ (fun r_38 z_38 => ?_)
        refine lv_if_eq (tgt := 48) hx hb dX9_notShift_41 (by decide) (fun c_41 => ?_) (fun c_41 => ?_)
        · skip
          rw [z_38] at c_41
          have k_41 := bI_f.mp c_41
          refine lv_iconst (v := 3) hx hb dX9_notShift_48 (by decide) ?_
          exact q_pret X w dX9_notShift_49 (by exact (cd3_3 k_5 ⟨k_16, k_28⟩ k_41).symm)
        · skip
          rw [z_38] at c_41
          have k_41 := bI_t.mp c_41
          refine lv_iconst (v := 0) hx hb dX9_notShift_44 (by decide) ?_
          refine lv_goto (tgt := 49) hx hb dX9_notShift_45 (by decide) ?_
          exact q_pret X w dX9_notShift_49 (by exact (cd3_0 k_5 ⟨k_16, k_28⟩ k_41).symm)
      · skip
        rw [z_25] at c_28
        have k_28 := bI_f.mp c_28
        refine lv_iconst (v := 2) hx hb dX9_notShift_31 (by decide) ?_
        refine lv_goto (tgt := 49) hx hb dX9_notShift_32 (by decide) ?_
        exact q_pret X w dX9_notShift_49 (by exact (cd3_2 k_5 (fun q => k_28 q.2)).symm)
  · skip
    rw [z_2] at c_5
    have k_5 := bI_f.mp c_5
    refine lv_iconst (v := 1) hx hb dX9_notShift_8 (by decide) ?_
    refine lv_goto (tgt := 49) hx hb dX9_notShift_9 (by decide) ?_
    exact q_pret X w dX9_notShift_49 (by exact (cd3_1 k_5).symm)

set_option maxHeartbeats 4000000 in
set_option maxRecDepth 100000 in
theorem c_X9_isThere (l : Launch) (a_dy : Int32) (a_to : Int32) (dy : Int) (to : Int) (e_dy : a_dy.toInt = dy) (e_to : a_to.toInt = to) : qF l yX9_isThere cX9_isThere 2 (some .boolean) 0 [.int a_dy, .int a_to] (fun z => z = bI (decide (dy ≠ -2147483647 ∧ dy ≤ to))) := by
  intro D t b n σ
  refine qP.of (by decide +kernel) (Nat.le_of_ble_eq_true rfl) (fun p e s m args below meth c X w ls hl => ?_)
  have hx := X.1
  have hb := X.2.1
  have hl : lv_has ls 2 [(0, .int a_dy), (1, .int a_to)] := hl
  refine lv_iload_n hx hb dX9_isThere_0 rfl (lv_at hl 0 rfl) ?_
  refine lv_ldcw hx hb X.2.2.2.1 (X.2.2.1 _ kc_X9_259) dX9_isThere_1 ?_
  refine lv_icmp_eq (tgt := 16) hx hb dX9_isThere_4 (by decide) (fun c_4 => ?_) (fun c_4 => ?_)
  · skip
    have k_4 : dy = (-2147483647) := (g_eq e_dy (show ((-2147483647) : Int32).toInt = (-2147483647) from rfl)).mp c_4
    refine lv_iconst (v := 0) hx hb dX9_isThere_16 (by decide) ?_
    exact q_pretz X w dX9_isThere_17 (rfl) (by exact bI_0 (by omega))
  · skip
    have k_4 : ¬ (dy = (-2147483647)) := fun h => c_4 ((g_eq e_dy (show ((-2147483647) : Int32).toInt = (-2147483647) from rfl)).mpr h)
    refine lv_iload_n hx hb dX9_isThere_7 rfl (lv_at hl 0 rfl) ?_
    refine lv_iload_n hx hb dX9_isThere_8 rfl (lv_at hl 1 rfl) ?_
    refine lv_icmp_gt (tgt := 16) hx hb dX9_isThere_9 (by decide) (fun c_9 => ?_) (fun c_9 => ?_)
    · skip
      have k_9 : to < dy := (g_lt e_to e_dy).mp c_9
      refine lv_iconst (v := 0) hx hb dX9_isThere_16 (by decide) ?_
      exact q_pretz X w dX9_isThere_17 (rfl) (by exact bI_0 (by omega))
    · skip
      have k_9 : ¬ (to < dy) := fun h => c_9 ((g_lt e_to e_dy).mpr h)
      refine lv_iconst (v := 1) hx hb dX9_isThere_12 (by decide) ?_
      refine lv_goto (tgt := 17) hx hb dX9_isThere_13 (by decide) ?_
      exact q_pretz X w dX9_isThere_17 (rfl) (by exact bI_1 (by omega))

set_option maxHeartbeats 4000000 in
set_option maxRecDepth 100000 in
theorem c_X9_firstWeek (l : Launch) (D : va_G) (t : Nat → ClassId) (b n : Nat) (σ0 : qM) (I : Nat → Int32) (Rw : Nat → Nat → Int32) (a_ca : Int32) (a_yr : Int32) (ca : Int) (yr : Int) (e_ca : a_ca.toInt = ca) (e_yr : a_yr.toInt = yr) (h_1 : 0 ≤ ca ∧ ca < 6) (h_2 : okRow (rowM Rw ca)) (h_3 : okF Rw ca) (h_4 : -2020 ≤ yr ∧ yr ≤ 2021) : qP l yX9_firstWeek cX9_firstWeek 4 (some .int) 2 D t b n (mS t b σ0 I Rw) [.ref (b + 45), .int a_ca, .int a_yr] (fun z => z.toInt = fw (rowM Rw ca) yr) := by
  refine qP.of (by decide +kernel) (Nat.le_of_ble_eq_true rfl) (fun p e s m args below meth c X w ls hl => ?_)
  have hx := X.1
  have hb := X.2.1
  have hl : lv_has ls 4 [(0, .ref (b + 45)), (1, .int a_ca), (2, .int a_yr)] := hl
  have hf := fst_bd h_2 (y := yr) (by omega) (by omega)
  have hw := h_2.wk
  have hd := wdy_bd h_2 (fst (rowM Rw ca) yr + rv (rowM Rw ca) 32 - 1)
  refine lv_aload_n hx hb dX9_firstWeek_0 rfl (lv_at hl 0 rfl) ?_
  refine lv_iload_n hx hb dX9_firstWeek_1 rfl (lv_at hl 1 rfl) ?_
  refine lv_iload_n hx hb dX9_firstWeek_2 rfl (lv_at hl 2 rfl) ?_
  refine q_cPV X w (c_X9_first l D t b n σ0 I Rw a_ca a_yr ca yr e_ca e_yr (by first | assumption | omega) (by first | assumption | omega) (by first | assumption | omega)) v_X9_101 (k := 45) rfl rfl rfl ⟨Nat.le_of_ble_eq_true rfl, Nat.le_of_ble_eq_true rfl⟩ rfl hl.1 (Nat.le_of_ble_eq_true rfl) dX9_firstWeek_3 ⟨Nat.zero_le _, Nat.zero_le _⟩ (fun r_3 z_3 => ?_)
  refine lv_aload_n hx hb dX9_firstWeek_6 rfl (lv_at hl 0 rfl) ?_
  refine lv_iload_n hx hb dX9_firstWeek_7 rfl (lv_at hl 1 rfl) ?_
  refine lv_bipush (v := 32) hx hb dX9_firstWeek_8 (by decide) ?_
  refine q_cPV X w (c_X9_of l D t b n σ0 I Rw a_ca 32 ca 32 e_ca (show (32 : Int32).toInt = 32 from rfl) (by first | assumption | omega) (by first | assumption | omega)) v_X9_80 (k := 45) rfl rfl rfl ⟨Nat.le_of_ble_eq_true rfl, Nat.le_of_ble_eq_true rfl⟩ rfl hl.1 (Nat.le_of_ble_eq_true rfl) dX9_firstWeek_10 ⟨Nat.zero_le _, Nat.zero_le _⟩ (fun r_10 z_10 => ?_)
  refine lv_iadd hx hb dX9_firstWeek_13 ?_
  refine lv_topi (fun x_13 e_13 => ?_)
  have p_13 : x_13.toInt = ((fst (rowM Rw ca) yr) + (rv (rowM Rw ca) 32)) := by rw [e_13]; exact t_add z_3 (congrArg Int32.toInt z_10) (by omega) (by omega)
  refine lv_iconst (v := 1) hx hb dX9_firstWeek_14 (by decide) ?_
  refine lv_isub hx hb dX9_firstWeek_15 ?_
  refine lv_topi (fun x_15 e_15 => ?_)
  have p_15 : x_15.toInt = (((fst (rowM Rw ca) yr) + (rv (rowM Rw ca) 32)) - 1) := by rw [e_15]; exact t_sub p_13 (show (1 : Int32).toInt = 1 from rfl) (by omega) (by omega)
  refine lv_istore_n (lv' := [(3, .int x_15), (0, .ref (b + 45)), (1, .int a_ca), (2, .int a_yr)]) hx hb dX9_firstWeek_16 rfl hl (by decide) rfl (fun ls hl => ?_)
  refine lv_iload_n hx hb dX9_firstWeek_17 rfl (lv_at hl 0 rfl) ?_
  refine lv_aload_n hx hb dX9_firstWeek_18 rfl (lv_at hl 1 rfl) ?_
  refine lv_iload_n hx hb dX9_firstWeek_19 rfl (lv_at hl 2 rfl) ?_
  refine lv_iload_n hx hb dX9_firstWeek_20 rfl (lv_at hl 0 rfl) ?_
  refine q_cPV X w (c_X9_weekday l D t b n σ0 I Rw a_ca x_15 ca (((fst (rowM Rw ca) yr) + (rv (rowM Rw ca) 32)) - 1) e_ca p_15 (by first | assumption | omega) (by first | assumption | omega) (by first | assumption | omega)) v_X9_140 (k := 45) rfl rfl rfl ⟨Nat.le_of_ble_eq_true rfl, Nat.le_of_ble_eq_true rfl⟩ rfl hl.1 (Nat.le_of_ble_eq_true rfl) dX9_firstWeek_21 ⟨Nat.zero_le _, Nat.zero_le _⟩ (fun r_21 z_21 => ?_)
  refine lv_isub hx hb dX9_firstWeek_24 ?_
  refine lv_topi (fun x_24 e_24 => ?_)
  have p_24 : x_24.toInt = ((((fst (rowM Rw ca) yr) + (rv (rowM Rw ca) 32)) - 1) - (wdy (rowM Rw ca) (((fst (rowM Rw ca) yr) + (rv (rowM Rw ca) 32)) - 1))) := by rw [e_24]; exact t_sub p_15 z_21 (by omega) (by omega)
  exact q_pret X w dX9_firstWeek_25 (by exact p_24)

set_option maxHeartbeats 4000000 in
set_option maxRecDepth 100000 in
theorem c_X9_weekYear (l : Launch) (D : va_G) (t : Nat → ClassId) (b n : Nat) (σ0 : qM) (I : Nat → Int32) (Rw : Nat → Nat → Int32) (a_ca : Int32) (a_dy : Int32) (ca : Int) (dy : Int) (e_ca : a_ca.toInt = ca) (e_dy : a_dy.toInt = dy) (h_1 : 0 ≤ ca ∧ ca < 6) (h_2 : okRow (rowM Rw ca)) (h_3 : okF Rw ca) (h_4 : fst (rowM Rw ca) (-2000) ≤ dy ∧ dy < fst (rowM Rw ca) 2001) : qP l yX9_weekYear cX9_weekYear 4 (some .int) 3 D t b n (mS t b σ0 I Rw) [.ref (b + 45), .int a_ca, .int a_dy] (fun z => z.toInt = wyr (rowM Rw ca) dy) := by
  refine qP.of (by decide +kernel) (Nat.le_of_ble_eq_true rfl) (fun p e s m args below meth c X w ls hl => ?_)
  have hx := X.1
  have hb := X.2.1
  have hl : lv_has ls 4 [(0, .ref (b + 45)), (1, .int a_ca), (2, .int a_dy)] := hl
  have hy := yof_in h_2 h_4.1 h_4.2
  refine lv_aload_n hx hb dX9_weekYear_0 rfl (lv_at hl 0 rfl) ?_
  refine lv_iload_n hx hb dX9_weekYear_1 rfl (lv_at hl 1 rfl) ?_
  refine lv_iload_n hx hb dX9_weekYear_2 rfl (lv_at hl 2 rfl) ?_
  refine q_cPV X w (c_X9_yearOf l D t b n σ0 I Rw a_ca a_dy ca dy e_ca e_dy (by first | assumption | omega) (by first | assumption | omega) (by first | assumption | omega)) v_X9_124 (k := 45) rfl rfl rfl ⟨Nat.le_of_ble_eq_true rfl, Nat.le_of_ble_eq_true rfl⟩ rfl hl.1 (Nat.le_of_ble_eq_true rfl) dX9_weekYear_3 ⟨Nat.zero_le _, Nat.zero_le _⟩ (fun r_3 z_3 => ?_)
  refine lv_bipush (v := 12) hx hb dX9_weekYear_6 (by decide) ?_
  refine lv_isub hx hb dX9_weekYear_8 ?_
  refine lv_topi (fun x_8 e_8 => ?_)
  have p_8 : x_8.toInt = ((yof (rowM Rw ca) dy) - 12) := by rw [e_8]; exact t_sub z_3 (show (12 : Int32).toInt = 12 from rfl) (by omega) (by omega)
  refine lv_istore_n (lv' := [(3, .int x_8), (0, .ref (b + 45)), (1, .int a_ca), (2, .int a_dy)]) hx hb dX9_weekYear_9 rfl hl (by decide) rfl (fun ls hl => ?_)
  refine lv_iload_n hx hb dX9_weekYear_10 rfl (lv_at hl 0 rfl) ?_
  refine lv_sipush (v := (-2020)) hx hb dX9_weekYear_11 (by decide) ?_
  refine lv_icmp_ge (tgt := 23) hx hb dX9_weekYear_14 (by decide) (fun c_14 => ?_) (fun c_14 => ?_)
  · skip
    have k_14 : (-2020) ≤ ((yof (rowM Rw ca) dy) - 12) := (g_le (show ((-2020) : Int32).toInt = (-2020) from rfl) p_8).mp c_14
    refine lv_iload_n hx hb dX9_weekYear_23 rfl (lv_at hl 0 rfl) ?_
    refine lv_istore_n (lv' := [(3, .int x_8), (0, .ref (b + 45)), (1, .int a_ca), (2, .int a_dy)]) hx hb dX9_weekYear_24 rfl hl (by decide) rfl (fun ls hl => ?_)
    refine q_loop (α := Int32 × Int) (fun a => a.1.toInt = a.2 ∧ ((-2020 ≤ a.2 ∧ a.2 ≤ 2021) ∧ fw (rowM Rw ca) a.2 ≤ dy)) (fun a => (2022 - a.2).toNat) (fun a => ∀ ls : Array Slot, lv_has ls 4 [(3, .int a.1), (0, .ref (b + 45)), (1, .int a_ca), (2, .int a_dy)] → W p l e (qR 3 0 0) s m args below meth c s.heap [] 0 0 (MQ below (vp_Si (fun z => z.toInt = wyr (rowM Rw ca) dy)) args s 0 0 (fun _ => False)) (F0 m 25 ls [])) ?_ ⟨x_8, ((yof (rowM Rw ca) dy) - 12)⟩ ⟨p_8, by dsimp only; refine ⟨by omega, ?_⟩; have a1 := fw_bd h_2 (yof (rowM Rw ca) dy - 12); have a2 := fst_mono h_2 (x := yof (rowM Rw ca) dy - 12) (y := yof (rowM Rw ca) dy) (by omega); omega⟩ ls (lv_sub hl [0, 1, 2, 3] rfl)
    rintro ⟨v_y, y⟩ ⟨q_y, inv_25⟩ ih_25 ls hl
    dsimp only at q_y inv_25 hl
    refine lv_iload_n hx hb dX9_weekYear_25 rfl (lv_at hl 0 rfl) ?_
    refine lv_iconst (v := 1) hx hb dX9_weekYear_26 (by decide) ?_
    refine lv_iadd hx hb dX9_weekYear_27 ?_
    refine lv_topi (fun x_27 e_27 => ?_)
    have p_27 : x_27.toInt = (y + 1) := by rw [e_27]; exact t_add q_y (show (1 : Int32).toInt = 1 from rfl) (by omega) (by omega)
    refine lv_sipush (v := 2022) hx hb dX9_weekYear_28 (by decide) ?_
    refine lv_icmp_ge (tgt := 52) hx hb dX9_weekYear_31 (by decide) (fun c_31 => ?_) (fun c_31 => ?_)
    · skip
      have k_31 : 2022 ≤ (y + 1) := (g_le (show (2022 : Int32).toInt = 2022 from rfl) p_27).mp c_31
      refine lv_iload_n hx hb dX9_weekYear_52 rfl (lv_at hl 0 rfl) ?_
      exact q_pret X w dX9_weekYear_53 (by rw [q_y]; refine (wyr_eq h_2 h_4.1 h_4.2 inv_25.2 ?_).symm; have a1 := fw_bd h_2 2021; have a2 := fst_mono h_2 (x := 2001) (y := 2021) (by omega); rw [show y = 2021 by omega] at inv_25; omega)
    · skip
      have k_31 : ¬ (2022 ≤ (y + 1)) := fun h => c_31 ((g_le (show (2022 : Int32).toInt = 2022 from rfl) p_27).mpr h)
      refine lv_aload_n hx hb dX9_weekYear_34 rfl (lv_at hl 1 rfl) ?_
      refine lv_iload_n hx hb dX9_weekYear_35 rfl (lv_at hl 2 rfl) ?_
      refine lv_iload_n hx hb dX9_weekYear_36 rfl (lv_at hl 0 rfl) ?_
      refine lv_iconst (v := 1) hx hb dX9_weekYear_37 (by decide) ?_
      refine lv_iadd hx hb dX9_weekYear_38 ?_
      refine lv_topi (fun x_38 e_38 => ?_)
      have p_38 : x_38.toInt = (y + 1) := by rw [e_38]; exact t_add q_y (show (1 : Int32).toInt = 1 from rfl) (by omega) (by omega)
      refine q_cPV X w (c_X9_firstWeek l D t b n σ0 I Rw a_ca x_38 ca (y + 1) e_ca p_38 (by first | assumption | omega) (by first | assumption | omega) (by first | assumption | omega) (by first | assumption | omega)) v_X9_250 (k := 45) rfl rfl rfl ⟨Nat.le_of_ble_eq_true rfl, Nat.le_of_ble_eq_true rfl⟩ rfl hl.1 (Nat.le_of_ble_eq_true rfl) dX9_weekYear_39 ⟨Nat.zero_le _, Nat.zero_le _⟩ (fun r_39 z_39 => ?_)
      refine lv_iload_n hx hb dX9_weekYear_42 rfl (lv_at hl 3 rfl) ?_
      refine lv_icmp_gt (tgt := 52) hx hb dX9_weekYear_43 (by decide) (fun c_43 => ?_) (fun c_43 => ?_)
      · skip
        have k_43 : dy < (fw (rowM Rw ca) (y + 1)) := (g_lt e_dy z_39).mp c_43
        refine lv_iload_n hx hb dX9_weekYear_52 rfl (lv_at hl 0 rfl) ?_
        exact q_pret X w dX9_weekYear_53 (by rw [q_y]; refine (wyr_eq h_2 h_4.1 h_4.2 inv_25.2 ?_).symm; omega)
      · skip
        have k_43 : ¬ (dy < (fw (rowM Rw ca) (y + 1))) := fun h => c_43 ((g_lt e_dy z_39).mpr h)
        obtain ⟨x_46, e_46⟩ : ∃ z : Int32, z = (v_y + 1) := ⟨_, rfl⟩
        have p_46 : x_46.toInt = (y + 1) := by rw [e_46]; exact t_add q_y (show (1 : Int32).toInt = 1 from rfl) (by omega) (by omega)
        refine lv_iinc (v := x_46) (lv' := [(3, .int x_46), (0, .ref (b + 45)), (1, .int a_ca), (2, .int a_dy)]) hx hb dX9_weekYear_46 hl (k := 0) rfl (by rw [e_46]; rfl) (by decide) rfl (fun ls hl => ?_)
        refine lv_goto (tgt := 25) hx hb dX9_weekYear_49 (by decide) ?_
        refine ih_25 ⟨x_46, (y + 1)⟩ ⟨p_46, by dsimp only; exact ⟨by omega, by omega⟩⟩ (by dsimp only; omega) ls (lv_sub hl [0, 1, 2, 3] rfl)
  · skip
    have k_14 : ¬ ((-2020) ≤ ((yof (rowM Rw ca) dy) - 12)) := fun h => c_14 ((g_le (show ((-2020) : Int32).toInt = (-2020) from rfl) p_8).mpr h)
    exfalso; omega

set_option maxHeartbeats 4000000 in
set_option maxRecDepth 100000 in
theorem c_X9_weeksOf (l : Launch) (D : va_G) (t : Nat → ClassId) (b n : Nat) (σ0 : qM) (I : Nat → Int32) (Rw : Nat → Nat → Int32) (a_ca : Int32) (a_yr : Int32) (ca : Int) (yr : Int) (e_ca : a_ca.toInt = ca) (e_yr : a_yr.toInt = yr) (h_1 : 0 ≤ ca ∧ ca < 6) (h_2 : okRow (rowM Rw ca)) (h_3 : okF Rw ca) (h_4 : -2000 ≤ yr ∧ yr ≤ 2000) : qP l yX9_weeksOf cX9_weeksOf 3 (some .int) 3 D t b n (mS t b σ0 I Rw) [.ref (b + 45), .int a_ca, .int a_yr] (fun z => z.toInt = (fw (rowM Rw ca) (yr + 1) - fw (rowM Rw ca) yr) / rv (rowM Rw ca) 30) := by
  refine qP.of (by decide +kernel) (Nat.le_of_ble_eq_true rfl) (fun p e s m args below meth c X w ls hl => ?_)
  have hx := X.1
  have hb := X.2.1
  have hl : lv_has ls 3 [(0, .ref (b + 45)), (1, .int a_ca), (2, .int a_yr)] := hl
  have hw := h_2.wk
  have b1 := fw_bd h_2 yr
  have b2 := fw_bd h_2 (yr + 1)
  have b3 := fst_bd h_2 (y := yr) (by omega) (by omega)
  have b4 := fst_bd h_2 (y := yr + 1) (by omega) (by omega)
  have b5 := fw_mono h_2 (x := yr) (y := yr + 1) (by omega)
  refine lv_aload_n hx hb dX9_weeksOf_0 rfl (lv_at hl 0 rfl) ?_
  refine lv_iload_n hx hb dX9_weeksOf_1 rfl (lv_at hl 1 rfl) ?_
  refine lv_iload_n hx hb dX9_weeksOf_2 rfl (lv_at hl 2 rfl) ?_
  refine lv_iconst (v := 1) hx hb dX9_weeksOf_3 (by decide) ?_
  refine lv_iadd hx hb dX9_weeksOf_4 ?_
  refine lv_topi (fun x_4 e_4 => ?_)
  have p_4 : x_4.toInt = (yr + 1) := by rw [e_4]; exact t_add e_yr (show (1 : Int32).toInt = 1 from rfl) (by omega) (by omega)
  refine q_cPV X w (c_X9_firstWeek l D t b n σ0 I Rw a_ca x_4 ca (yr + 1) e_ca p_4 (by first | assumption | omega) (by first | assumption | omega) (by first | assumption | omega) (by first | assumption | omega)) v_X9_250 (k := 45) rfl rfl rfl ⟨Nat.le_of_ble_eq_true rfl, Nat.le_of_ble_eq_true rfl⟩ rfl hl.1 (Nat.le_of_ble_eq_true rfl) dX9_weeksOf_5 ⟨Nat.zero_le _, Nat.zero_le _⟩ (fun r_5 z_5 => ?_)
  refine lv_aload_n hx hb dX9_weeksOf_8 rfl (lv_at hl 0 rfl) ?_
  refine lv_iload_n hx hb dX9_weeksOf_9 rfl (lv_at hl 1 rfl) ?_
  refine lv_iload_n hx hb dX9_weeksOf_10 rfl (lv_at hl 2 rfl) ?_
  refine q_cPV X w (c_X9_firstWeek l D t b n σ0 I Rw a_ca a_yr ca yr e_ca e_yr (by first | assumption | omega) (by first | assumption | omega) (by first | assumption | omega) (by first | assumption | omega)) v_X9_250 (k := 45) rfl rfl rfl ⟨Nat.le_of_ble_eq_true rfl, Nat.le_of_ble_eq_true rfl⟩ rfl hl.1 (Nat.le_of_ble_eq_true rfl) dX9_weeksOf_11 ⟨Nat.zero_le _, Nat.zero_le _⟩ (fun r_11 z_11 => ?_)
  refine lv_isub hx hb dX9_weeksOf_14 ?_
  refine lv_topi (fun x_14 e_14 => ?_)
  have p_14 : x_14.toInt = ((fw (rowM Rw ca) (yr + 1)) - (fw (rowM Rw ca) yr)) := by rw [e_14]; exact t_sub z_5 z_11 (by omega) (by omega)
  refine lv_aload_n hx hb dX9_weeksOf_15 rfl (lv_at hl 0 rfl) ?_
  refine lv_iload_n hx hb dX9_weeksOf_16 rfl (lv_at hl 1 rfl) ?_
  refine lv_bipush (v := 30) hx hb dX9_weeksOf_17 (by decide) ?_
  refine q_cPV X w (c_X9_of l D t b n σ0 I Rw a_ca 30 ca 30 e_ca (show (30 : Int32).toInt = 30 from rfl) (by first | assumption | omega) (by first | assumption | omega)) v_X9_80 (k := 45) rfl rfl rfl ⟨Nat.le_of_ble_eq_true rfl, Nat.le_of_ble_eq_true rfl⟩ rfl hl.1 (Nat.le_of_ble_eq_true rfl) dX9_weeksOf_19 ⟨Nat.zero_le _, Nat.zero_le _⟩ (fun r_19 z_19 => ?_)
  refine lv_idiv hx hb dX9_weeksOf_22 (g_ne0 (congrArg Int32.toInt z_19) (show rv (rowM Rw ca) 30 ≠ 0 by omega)) ?_
  refine lv_topi (fun x_22 e_22 => ?_)
  have p_22 : x_22.toInt = (((fw (rowM Rw ca) (yr + 1)) - (fw (rowM Rw ca) yr)) / (rv (rowM Rw ca) 30)) := by rw [e_22]; exact t_div p_14 (congrArg Int32.toInt z_19) (by omega) (by omega)
  exact q_pret X w dX9_weeksOf_23 (by exact p_22)

set_option maxHeartbeats 4000000 in
set_option maxRecDepth 100000 in
theorem c_X9_divisor (l : Launch) (a_x : Int32) (a_y : Int32) (x : Int) (y : Int) (e_x : a_x.toInt = x) (e_y : a_y.toInt = y) (h_1 : 0 < x) (h_2 : 0 ≤ y) : qF l yX9_divisor cX9_divisor 5 (some .int) 0 [.int a_x, .int a_y] (fun z => z.toInt = gcdI x y) := by
  intro D t b n σ
  refine qP.of (by decide +kernel) (Nat.le_of_ble_eq_true rfl) (fun p e s m args below meth c X w ls hl => ?_)
  have hx := X.1
  have hb := X.2.1
  have hl : lv_has ls 5 [(0, .int a_x), (1, .int a_y)] := hl
  refine lv_iload_n hx hb dX9_divisor_0 rfl (lv_at hl 0 rfl) ?_
  refine lv_istore_n (lv' := [(2, .int a_x), (0, .int a_x), (1, .int a_y)]) hx hb dX9_divisor_1 rfl hl (by decide) rfl (fun ls hl => ?_)
  refine lv_iload_n hx hb dX9_divisor_2 rfl (lv_at hl 2 rfl) ?_
  refine lv_istore_n (lv' := [(3, .int a_y), (2, .int a_x), (0, .int a_x), (1, .int a_y)]) hx hb dX9_divisor_3 rfl hl (by decide) rfl (fun ls hl => ?_)
  refine q_loop (α := Int32 × Int32 × Int × Int) (fun a => a.1.toInt = a.2.2.1 ∧ a.2.1.toInt = a.2.2.2 ∧ ((0 < a.2.2.1 ∧ 0 ≤ a.2.2.2) ∧ gcdI a.2.2.1 a.2.2.2 = gcdI x y)) (fun a => a.2.2.2.toNat) (fun a => ∀ ls : Array Slot, lv_has ls 5 [(3, .int a.2.1), (2, .int a.1), (0, .int a_x), (1, .int a_y)] → W p l e (qR 0 0 0) s m args below meth c s.heap [] 0 0 (MQ below (vp_Si (fun z => z.toInt = gcdI x y)) args s 0 0 (fun _ => False)) (F0 m 4 ls [])) ?_ ⟨a_x, a_y, x, y⟩ ⟨e_x, e_y, by dsimp only; exact ⟨by omega, rfl⟩⟩ ls (lv_sub hl [0, 1, 2, 3] rfl)
  rintro ⟨v_u, v_v, u, v⟩ ⟨q_u, q_v, inv_4⟩ ih_4 ls hl
  dsimp only at q_u q_v inv_4 hl
  refine lv_iload_n hx hb dX9_divisor_4 rfl (lv_at hl 0 rfl) ?_
  refine lv_if_eq (tgt := 21) hx hb dX9_divisor_5 (by decide) (fun c_5 => ?_) (fun c_5 => ?_)
  · skip
    have k_5 : v = 0 := (g_eq q_v (show (0 : Int32).toInt = 0 from rfl)).mp c_5
    refine lv_iload_n hx hb dX9_divisor_21 rfl (lv_at hl 1 rfl) ?_
    exact q_pret X w dX9_divisor_22 (by rw [q_u, ← inv_4.2, k_5, gcdI_0 (by omega)])
  · skip
    have k_5 : ¬ (v = 0) := fun h => c_5 ((g_eq q_v (show (0 : Int32).toInt = 0 from rfl)).mpr h)
    refine lv_iload_n hx hb dX9_divisor_8 rfl (lv_at hl 1 rfl) ?_
    refine lv_iload_n hx hb dX9_divisor_9 rfl (lv_at hl 0 rfl) ?_
    refine lv_irem hx hb dX9_divisor_10 (g_ne0 q_v k_5) ?_
    refine lv_topi (fun x_10 e_10 => ?_)
    have p_10 : x_10.toInt = (u % v) := by rw [e_10]; exact t_rem q_u q_v (by omega) (by omega)
    refine lv_istore (lv' := [(4, .int x_10), (3, .int v_v), (2, .int v_u), (0, .int a_x), (1, .int a_y)]) hx hb dX9_divisor_11 hl (by decide) rfl (fun ls hl => ?_)
    refine lv_iload_n hx hb dX9_divisor_13 rfl (lv_at hl 1 rfl) ?_
    refine lv_istore_n (lv' := [(2, .int v_v), (4, .int x_10), (3, .int v_v), (0, .int a_x), (1, .int a_y)]) hx hb dX9_divisor_14 rfl hl (by decide) rfl (fun ls hl => ?_)
    refine lv_iload hx hb dX9_divisor_15 (lv_at hl 1 rfl) ?_
    refine lv_istore_n (lv' := [(3, .int x_10), (2, .int v_v), (4, .int x_10), (0, .int a_x), (1, .int a_y)]) hx hb dX9_divisor_17 rfl hl (by decide) rfl (fun ls hl => ?_)
    refine lv_goto (tgt := 4) hx hb dX9_divisor_18 (by decide) ?_
    refine ih_4 ⟨v_v, x_10, v, (u % v)⟩ ⟨q_v, p_10, by dsimp only; have hm := Int.emod_nonneg u (show v ≠ 0 by omega); refine ⟨by omega, ?_⟩; rw [gcdI_s (by omega) (by omega)]; exact inv_4.2⟩ (by dsimp only; have := Int.emod_lt_of_pos u (show 0 < v by omega); have := Int.emod_nonneg u (show v ≠ 0 by omega); omega) ls (lv_sub hl [0, 1, 3, 4] rfl)
