set_option maxHeartbeats 4000000 in
set_option maxRecDepth 100000 in
theorem c_X9_span (l : Launch) (D : va_G) (t : Nat → ClassId) (b n : Nat) (σ0 : qM) (I : Nat → Int32) (Rw : Nat → Nat → Int32) (a_ca : Int32) (a_fr : Int32) (a_to : Int32) (a_part : Int32) (ca : Int) (fr : Int) (to : Int) (part : Int) (e_ca : a_ca.toInt = ca) (e_fr : a_fr.toInt = fr) (e_to : a_to.toInt = to) (e_part : a_part.toInt = part) (h_1 : (I 5).toInt ≤ 6) (h_2 : ∀ c : Int, 0 ≤ c → c < (I 5).toInt → okRow (rowM Rw c)) (h_3 : ∀ c : Int, 0 ≤ c → c < (I 5).toInt → okF Rw c) : mC l yX9_span cX9_span 8 (some .int) 8 D t b n σ0 I Rw [.ref (b + 45), .int a_ca, .int a_fr, .int a_to, .int a_part] (fun z I1 R1 => R1 = Rw ∧ kpI [0, 6, 7, 8] I I1 ∧ (I1 0).toInt = cd3 (0 ≤ ca ∧ ca < (I 5).toInt) ((-999999 ≤ fr ∧ fr ≤ 999999) ∧ (fr ≤ to ∧ to ≤ 999999) ∧ 0 ≤ part ∧ part ≤ 2) ((fst (rowM Rw ca) (-2000) ≤ fr ∧ fr < fst (rowM Rw ca) 2001) ∧ fst (rowM Rw ca) (-2000) ≤ to ∧ to < fst (rowM Rw ca) 2001) ∧ ((I1 0).toInt = 0 → z.toInt = (if part = 0 then spY (rowM Rw ca) fr to else if part = 1 then spM (rowM Rw ca) (ylat (rowM Rw ca) fr (spY (rowM Rw ca) fr to)) to else to - mlat (rowM Rw ca) (ylat (rowM Rw ca) fr (spY (rowM Rw ca) fr to)) (spM (rowM Rw ca) (ylat (rowM Rw ca) fr (spY (rowM Rw ca) fr to)) to)))) := by
  refine qC.of (by decide +kernel) (Nat.le_of_ble_eq_true rfl) (fun p e s m args below meth c X w ls hl => ?_)
  have hx := X.1
  have hb := X.2.1
  have hl : lv_has ls 8 [(0, .ref (b + 45)), (1, .int a_ca), (2, .int a_fr), (3, .int a_to), (4, .int a_part)] := hl
  refine lv_aload_n hx hb dX9_span_0 rfl (lv_at hl 0 rfl) ?_
  refine lv_iload_n hx hb dX9_span_1 rfl (lv_at hl 1 rfl) ?_
  refine q_cPV X w (c_X9_isCalendar l D t b n σ0 I Rw a_ca ca e_ca) v_X9_221 (k := 45) rfl rfl rfl ⟨Nat.le_of_ble_eq_true rfl, Nat.le_of_ble_eq_true rfl⟩ rfl hl.1 (Nat.le_of_ble_eq_true rfl) dX9_span_2 ⟨Nat.zero_le _, Nat.zero_le _⟩ (fun r_2 z_2 => ?_)
  refine lv_if_ne (tgt := 14) hx hb dX9_span_5 (by decide) (fun c_5 => ?_) (fun c_5 => ?_)
  · skip
    rw [z_2] at c_5
    have k_5 := bI_t.mp c_5
    have hq := h_2 ca k_5.1 k_5.2
    have hF := h_3 ca k_5.1 k_5.2
    refine lv_iload_n hx hb dX9_span_14 rfl (lv_at hl 2 rfl) ?_
    refine q_cPS X w (c_X9_isDay l a_fr fr e_fr D t b n (mS t b σ0 I Rw)) v_X9_238 rfl ⟨Nat.le_of_ble_eq_true rfl, Nat.le_of_ble_eq_true rfl⟩ rfl hl.1 (Nat.le_of_ble_eq_true rfl) dX9_span_15 ⟨Nat.zero_le _, Nat.zero_le _⟩ (fun r_15 z_15 => ?_)
    refine lv_if_eq (tgt := 41) hx hb dX9_span_18 (by decide) (fun c_18 => ?_) (fun c_18 => ?_)
    · skip
      rw [z_15] at c_18
      have k_18 := bI_f.mp c_18
      refine lv_aload_n hx hb dX9_span_41 rfl (lv_at hl 0 rfl) ?_
      refine lv_iconst (v := 2) hx hb dX9_span_42 (by decide) ?_
      refine mm_cCI X w (c_X9_fails l D t b n σ0 I Rw 2 2 (show (2 : Int32).toInt = 2 from rfl)) v_X9_143 rfl rfl ⟨Nat.le_of_ble_eq_true rfl, Nat.le_of_ble_eq_true rfl⟩ rfl hl.1 (Nat.le_of_ble_eq_true rfl) dX9_span_43 ⟨Nat.zero_le _, Nat.zero_le _⟩ (fun r_43 I_43 H locs z_43 w => ?_)
      exact q_cret (post := (fun z n1 σ1 => n1 = n ∧ ∃ I1 R1, σ1 = mS t b σ0 I1 R1 ∧ R1 = Rw ∧ kpI [0, 6, 7, 8] I I1 ∧ (I1 0).toInt = cd3 (0 ≤ ca ∧ ca < (I 5).toInt) ((-999999 ≤ fr ∧ fr ≤ 999999) ∧ (fr ≤ to ∧ to ≤ 999999) ∧ 0 ≤ part ∧ part ≤ 2) ((fst (rowM Rw ca) (-2000) ≤ fr ∧ fr < fst (rowM Rw ca) 2001) ∧ fst (rowM Rw ca) (-2000) ≤ to ∧ to < fst (rowM Rw ca) 2001) ∧ ((I1 0).toInt = 0 → z.toInt = (if part = 0 then spY (rowM Rw ca) fr to else if part = 1 then spM (rowM Rw ca) (ylat (rowM Rw ca) fr (spY (rowM Rw ca) fr to)) to else to - mlat (rowM Rw ca) (ylat (rowM Rw ca) fr (spY (rowM Rw ca) fr to)) (spM (rowM Rw ca) (ylat (rowM Rw ca) fr (spY (rowM Rw ca) fr to)) to))))) X w dX9_span_46 (rfl) ⟨rfl, _, _, rfl, rfl, by exact ⟨z_43.1.wk (by decide), z_43.2.1.trans (cd3_2 k_5 (fun q => k_18 q.1)).symm, fun q => absurd (z_43.2.1.symm.trans q) (by decide)⟩⟩
    · skip
      rw [z_15] at c_18
      have k_18 := bI_t.mp c_18
      refine lv_iload_n hx hb dX9_span_21 rfl (lv_at hl 3 rfl) ?_
      refine lv_iload_n hx hb dX9_span_22 rfl (lv_at hl 2 rfl) ?_
      refine lv_ldc hx hb X.2.2.2.1 (X.2.2.1 _ kc_X9_75) dX9_span_23 ?_
      refine q_cPS X w (c_X9_isBetween l a_to a_fr 999999 to fr 999999 e_to e_fr (show (999999 : Int32).toInt = 999999 from rfl) D t b n (mS t b σ0 I Rw)) v_X9_70 rfl ⟨Nat.le_of_ble_eq_true rfl, Nat.le_of_ble_eq_true rfl⟩ rfl hl.1 (Nat.le_of_ble_eq_true rfl) dX9_span_25 ⟨Nat.zero_le _, Nat.zero_le _⟩ (fun r_25 z_25 => ?_)
      refine lv_if_eq (tgt := 41) hx hb dX9_span_28 (by decide) (fun c_28 => ?_) (fun c_28 => ?_)
      · skip
        rw [z_25] at c_28
        have k_28 := bI_f.mp c_28
        refine lv_aload_n hx hb dX9_span_41 rfl (lv_at hl 0 rfl) ?_
        refine lv_iconst (v := 2) hx hb dX9_span_42 (by decide) ?_
        refine mm_cCI X w (c_X9_fails l D t b n σ0 I Rw 2 2 (show (2 : Int32).toInt = 2 from rfl)) v_X9_143 rfl rfl ⟨Nat.le_of_ble_eq_true rfl, Nat.le_of_ble_eq_true rfl⟩ rfl hl.1 (Nat.le_of_ble_eq_true rfl) dX9_span_43 ⟨Nat.zero_le _, Nat.zero_le _⟩ (fun r_43 I_43 H locs z_43 w => ?_)
        exact q_cret (post := (fun z n1 σ1 => n1 = n ∧ ∃ I1 R1, σ1 = mS t b σ0 I1 R1 ∧ R1 = Rw ∧ kpI [0, 6, 7, 8] I I1 ∧ (I1 0).toInt = cd3 (0 ≤ ca ∧ ca < (I 5).toInt) ((-999999 ≤ fr ∧ fr ≤ 999999) ∧ (fr ≤ to ∧ to ≤ 999999) ∧ 0 ≤ part ∧ part ≤ 2) ((fst (rowM Rw ca) (-2000) ≤ fr ∧ fr < fst (rowM Rw ca) 2001) ∧ fst (rowM Rw ca) (-2000) ≤ to ∧ to < fst (rowM Rw ca) 2001) ∧ ((I1 0).toInt = 0 → z.toInt = (if part = 0 then spY (rowM Rw ca) fr to else if part = 1 then spM (rowM Rw ca) (ylat (rowM Rw ca) fr (spY (rowM Rw ca) fr to)) to else to - mlat (rowM Rw ca) (ylat (rowM Rw ca) fr (spY (rowM Rw ca) fr to)) (spM (rowM Rw ca) (ylat (rowM Rw ca) fr (spY (rowM Rw ca) fr to)) to))))) X w dX9_span_46 (rfl) ⟨rfl, _, _, rfl, rfl, by exact ⟨z_43.1.wk (by decide), z_43.2.1.trans (cd3_2 k_5 (fun q => k_28 q.2.1)).symm, fun q => absurd (z_43.2.1.symm.trans q) (by decide)⟩⟩
      · skip
        rw [z_25] at c_28
        have k_28 := bI_t.mp c_28
        refine lv_iload hx hb dX9_span_31 (lv_at hl 4 rfl) ?_
        refine lv_iconst (v := 0) hx hb dX9_span_33 (by decide) ?_
        refine lv_iconst (v := 2) hx hb dX9_span_34 (by decide) ?_
        refine q_cPS X w (c_X9_isBetween l a_part 0 2 part 0 2 e_part (show (0 : Int32).toInt = 0 from rfl) (show (2 : Int32).toInt = 2 from rfl) D t b n (mS t b σ0 I Rw)) v_X9_70 rfl ⟨Nat.le_of_ble_eq_true rfl, Nat.le_of_ble_eq_true rfl⟩ rfl hl.1 (Nat.le_of_ble_eq_true rfl) dX9_span_35 ⟨Nat.zero_le _, Nat.zero_le _⟩ (fun r_35 z_35 => ?_)
        refine lv_if_ne (tgt := 47) hx hb dX9_span_38 (by decide) (fun c_38 => ?_) (fun c_38 => ?_)
        · skip
          rw [z_35] at c_38
          have k_38 := bI_t.mp c_38
          refine lv_aload_n hx hb dX9_span_47 rfl (lv_at hl 0 rfl) ?_
          refine lv_iload_n hx hb dX9_span_48 rfl (lv_at hl 1 rfl) ?_
          refine lv_iload_n hx hb dX9_span_49 rfl (lv_at hl 2 rfl) ?_
          refine q_cPV X w (c_X9_isInside l D t b n σ0 I Rw a_ca a_fr ca fr e_ca e_fr (by first | assumption | omega) (by first | assumption | omega) (by first | assumption | omega)) v_X9_244 (k := 45) rfl rfl rfl ⟨Nat.le_of_ble_eq_true rfl, Nat.le_of_ble_eq_true rfl⟩ rfl hl.1 (Nat.le_of_ble_eq_true rfl) dX9_span_50 ⟨Nat.zero_le _, Nat.zero_le _⟩ (fun r_50 z_50 => ?_)
          refine lv_if_eq (tgt := 65) hx hb dX9_span_53 (by decide) (fun c_53 => ?_) (fun c_53 => ?_)
          · skip
            rw [z_50] at c_53
            have k_53 := bI_f.mp c_53
            refine lv_aload_n hx hb dX9_span_65 rfl (lv_at hl 0 rfl) ?_
            refine lv_iconst (v := 3) hx hb dX9_span_66 (by decide) ?_
            refine mm_cCI X w (c_X9_fails l D t b n σ0 I Rw 3 3 (show (3 : Int32).toInt = 3 from rfl)) v_X9_143 rfl rfl ⟨Nat.le_of_ble_eq_true rfl, Nat.le_of_ble_eq_true rfl⟩ rfl hl.1 (Nat.le_of_ble_eq_true rfl) dX9_span_67 ⟨Nat.zero_le _, Nat.zero_le _⟩ (fun r_67 I_67 H locs z_67 w => ?_)
            exact q_cret (post := (fun z n1 σ1 => n1 = n ∧ ∃ I1 R1, σ1 = mS t b σ0 I1 R1 ∧ R1 = Rw ∧ kpI [0, 6, 7, 8] I I1 ∧ (I1 0).toInt = cd3 (0 ≤ ca ∧ ca < (I 5).toInt) ((-999999 ≤ fr ∧ fr ≤ 999999) ∧ (fr ≤ to ∧ to ≤ 999999) ∧ 0 ≤ part ∧ part ≤ 2) ((fst (rowM Rw ca) (-2000) ≤ fr ∧ fr < fst (rowM Rw ca) 2001) ∧ fst (rowM Rw ca) (-2000) ≤ to ∧ to < fst (rowM Rw ca) 2001) ∧ ((I1 0).toInt = 0 → z.toInt = (if part = 0 then spY (rowM Rw ca) fr to else if part = 1 then spM (rowM Rw ca) (ylat (rowM Rw ca) fr (spY (rowM Rw ca) fr to)) to else to - mlat (rowM Rw ca) (ylat (rowM Rw ca) fr (spY (rowM Rw ca) fr to)) (spM (rowM Rw ca) (ylat (rowM Rw ca) fr (spY (rowM Rw ca) fr to)) to))))) X w dX9_span_70 (rfl) ⟨rfl, _, _, rfl, rfl, by exact ⟨z_67.1.wk (by decide), z_67.2.1.trans (cd3_3 k_5 ⟨k_18, k_28, k_38⟩ (fun q => k_53 q.1)).symm, fun q => absurd (z_67.2.1.symm.trans q) (by decide)⟩⟩
          · skip
            rw [z_50] at c_53
            have k_53 := bI_t.mp c_53
            refine lv_aload_n hx hb dX9_span_56 rfl (lv_at hl 0 rfl) ?_
            refine lv_iload_n hx hb dX9_span_57 rfl (lv_at hl 1 rfl) ?_
            refine lv_iload_n hx hb dX9_span_58 rfl (lv_at hl 3 rfl) ?_
            refine q_cPV X w (c_X9_isInside l D t b n σ0 I Rw a_ca a_to ca to e_ca e_to (by first | assumption | omega) (by first | assumption | omega) (by first | assumption | omega)) v_X9_244 (k := 45) rfl rfl rfl ⟨Nat.le_of_ble_eq_true rfl, Nat.le_of_ble_eq_true rfl⟩ rfl hl.1 (Nat.le_of_ble_eq_true rfl) dX9_span_59 ⟨Nat.zero_le _, Nat.zero_le _⟩ (fun r_59 z_59 => ?_)
            refine lv_if_ne (tgt := 71) hx hb dX9_span_62 (by decide) (fun c_62 => ?_) (fun c_62 => ?_)
            · skip
              rw [z_59] at c_62
              have k_62 := bI_t.mp c_62
              have hle := yof_le hq k_53.1 k_53.2 k_62.1 k_62.2 k_28.1
              have hya := yof_in hq k_53.1 k_53.2
              have hyb := yof_in hq k_62.1 k_62.2
              have hto : -999999 ≤ to ∧ to ≤ 999999 := ⟨by omega, by omega⟩
              have hMb := (Mb_mono hq (x := -2000) (y := 2001) (by omega)).2
              refine lv_aload_n hx hb dX9_span_71 rfl (lv_at hl 0 rfl) ?_
              refine lv_iconst (v := 0) hx hb dX9_span_72 (by decide) ?_
              refine mp_thrown (v := 0) X w dX9_span_73 (fun H locs w => ?_)
              refine lv_aload_n hx hb dX9_span_76 rfl (lv_at hl 0 rfl) ?_
              refine lv_iload_n hx hb dX9_span_77 rfl (lv_at hl 1 rfl) ?_
              refine lv_iload_n hx hb dX9_span_78 rfl (lv_at hl 3 rfl) ?_
              refine q_cPV X w (c_X9_yearOf l D t b n σ0 (va_up I 0 0) Rw a_ca a_to ca to e_ca e_to (by first | assumption | omega) (by first | assumption | omega) (by first | assumption | omega)) v_X9_124 (k := 45) rfl rfl rfl ⟨Nat.le_of_ble_eq_true rfl, Nat.le_of_ble_eq_true rfl⟩ rfl hl.1 (Nat.le_of_ble_eq_true rfl) dX9_span_79 ⟨Nat.zero_le _, Nat.zero_le _⟩ (fun r_79 z_79 => ?_)
              refine lv_aload_n hx hb dX9_span_82 rfl (lv_at hl 0 rfl) ?_
              refine lv_iload_n hx hb dX9_span_83 rfl (lv_at hl 1 rfl) ?_
              refine lv_iload_n hx hb dX9_span_84 rfl (lv_at hl 2 rfl) ?_
              refine q_cPV X w (c_X9_yearOf l D t b n σ0 (va_up I 0 0) Rw a_ca a_fr ca fr e_ca e_fr (by first | assumption | omega) (by first | assumption | omega) (by first | assumption | omega)) v_X9_124 (k := 45) rfl rfl rfl ⟨Nat.le_of_ble_eq_true rfl, Nat.le_of_ble_eq_true rfl⟩ rfl hl.1 (Nat.le_of_ble_eq_true rfl) dX9_span_85 ⟨Nat.zero_le _, Nat.zero_le _⟩ (fun r_85 z_85 => ?_)
              refine lv_isub hx hb dX9_span_88 ?_
              refine lv_topi (fun x_88 e_88 => ?_)
              have p_88 : x_88.toInt = ((yof (rowM Rw ca) to) - (yof (rowM Rw ca) fr)) := by rw [e_88]; exact t_sub z_79 z_85 (by omega) (by omega)
              refine lv_istore (lv' := [(5, .int x_88), (0, .ref (b + 45)), (1, .int a_ca), (2, .int a_fr), (3, .int a_to), (4, .int a_part)]) hx hb dX9_span_89 hl (by decide) rfl (fun ls hl => ?_)
              refine q_loop (α := Int32 × Int × (Nat → Int32)) (fun a => a.1.toInt = a.2.1 ∧ ((kpI [0,6,7,8] I a.2.2 ∧ a.2.2 0 = 0) ∧ (0 ≤ a.2.1 ∧ a.2.1 ≤ yof (rowM Rw ca) to - yof (rowM Rw ca) fr) ∧ (a.2.1 = yof (rowM Rw ca) to - yof (rowM Rw ca) fr ∨ ¬ (ylat (rowM Rw ca) fr (a.2.1 + 1) ≠ -2147483647 ∧ ylat (rowM Rw ca) fr (a.2.1 + 1) ≤ to)))) (fun a => a.2.1.toNat) (fun a => ∀ (H : Heap) (locs : List Loc), qW D b n (mS t b σ0 a.2.2 Rw) s H locs → ∀ ls : Array Slot, lv_has ls 8 [(5, .int a.1), (0, .ref (b + 45)), (1, .int a_ca), (2, .int a_fr), (3, .int a_to), (4, .int a_part)] → W p l e (qR 8 0 0) s m args below meth c H locs 0 0 (MQ below (va_Qi (S := Nat × qM) (fun z u => (fun z n1 σ1 => n1 = n ∧ ∃ I1 R1, σ1 = mS t b σ0 I1 R1 ∧ R1 = Rw ∧ kpI [0, 6, 7, 8] I I1 ∧ (I1 0).toInt = cd3 (0 ≤ ca ∧ ca < (I 5).toInt) ((-999999 ≤ fr ∧ fr ≤ 999999) ∧ (fr ≤ to ∧ to ≤ 999999) ∧ 0 ≤ part ∧ part ≤ 2) ((fst (rowM Rw ca) (-2000) ≤ fr ∧ fr < fst (rowM Rw ca) 2001) ∧ fst (rowM Rw ca) (-2000) ≤ to ∧ to < fst (rowM Rw ca) 2001) ∧ ((I1 0).toInt = 0 → z.toInt = (if part = 0 then spY (rowM Rw ca) fr to else if part = 1 then spM (rowM Rw ca) (ylat (rowM Rw ca) fr (spY (rowM Rw ca) fr to)) to else to - mlat (rowM Rw ca) (ylat (rowM Rw ca) fr (spY (rowM Rw ca) fr to)) (spM (rowM Rw ca) (ylat (rowM Rw ca) fr (spY (rowM Rw ca) fr to)) to)))) z u.1 u.2) (fun u T => WB D b u.1 u.2 T.heap) (fun q => b ≤ q)) args s 0 0 (fun q => b ≤ q)) (F0 m 91 ls [])) ?_ ⟨x_88, ((yof (rowM Rw ca) to) - (yof (rowM Rw ca) fr)), (va_up I 0 0)⟩ ⟨p_88, by dsimp only; exact ⟨⟨kpI.up kpI.rf (by decide), rfl⟩, by omega, Or.inl rfl⟩⟩ _ _ w ls (lv_sub hl [0, 1, 2, 3, 4, 5] rfl)
              rintro ⟨v_yrs, yrs, I_L91⟩ ⟨q_yrs, inv_91⟩ ih_91 H locs w ls hl
              dsimp only at q_yrs inv_91 hl w
              refine lv_iload hx hb dX9_span_91 (lv_at hl 0 rfl) ?_
              refine lv_if_le (tgt := 117) hx hb dX9_span_93 (by decide) (fun c_93 => ?_) (fun c_93 => ?_)
              · skip
                have k_93 : yrs ≤ 0 := (g_le q_yrs (show (0 : Int32).toInt = 0 from rfl)).mp c_93
                have hyrs : yrs = spY (rowM Rw ca) fr to := spY_eq hq k_53.1 k_53.2 k_18 k_62.1 k_62.2 hto k_28.1 (by omega) (by omega) (Or.inl (by omega)) inv_91.2.2
                have hfo := spY_found hq k_53.1 k_53.2 k_18 k_62.1 k_62.2 hto k_28.1
                rw [← hyrs] at hfo
                have hm2 := mcon_in hq k_62.1 k_62.2
                have hm1 := mcon_in hq (d := (ylat (rowM Rw ca) fr yrs)) (by omega) (by omega)
                have hle2 := mcon_le hq (a := (ylat (rowM Rw ca) fr yrs)) (b := to) (by omega) (by omega) k_62.1 k_62.2 hfo.2.2.2
                refine lv_aload_n hx hb dX9_span_117 rfl (lv_at hl 1 rfl) ?_
                refine lv_iload_n hx hb dX9_span_118 rfl (lv_at hl 2 rfl) ?_
                refine lv_iload_n hx hb dX9_span_119 rfl (lv_at hl 3 rfl) ?_
                refine lv_iload hx hb dX9_span_120 (lv_at hl 0 rfl) ?_
                refine mm_cCI X w (c_X9_yearsLater l D t b n σ0 I_L91 Rw a_ca a_fr v_yrs ca fr yrs e_ca e_fr q_yrs (by first | assumption | omega) (by first | assumption | omega) (by first | assumption | omega) (by first | assumption | omega) (by omega)) v_X9_272 rfl rfl ⟨Nat.le_of_ble_eq_true rfl, Nat.le_of_ble_eq_true rfl⟩ rfl hl.1 (Nat.le_of_ble_eq_true rfl) dX9_span_122 ⟨Nat.zero_le _, Nat.zero_le _⟩ (fun r_122 I_122 H locs z_122 w => ?_)
                refine lv_istore (lv' := [(6, .int r_122), (5, .int v_yrs), (0, .ref (b + 45)), (1, .int a_ca), (2, .int a_fr), (3, .int a_to), (4, .int a_part)]) hx hb dX9_span_125 hl (by decide) rfl (fun ls hl => ?_)
                refine lv_iconst (v := 0) hx hb dX9_span_127 (by decide) ?_
                refine lv_istore (lv' := [(7, .int 0), (6, .int r_122), (5, .int v_yrs), (0, .ref (b + 45)), (1, .int a_ca), (2, .int a_fr), (3, .int a_to), (4, .int a_part)]) hx hb dX9_span_128 hl (by decide) rfl (fun ls hl => ?_)
                have hK := kpI.tr (J := [0,6,7,8]) inv_91.1.1 z_122.1 (by decide) (by decide)
                have hK0 := (z_122.1 0 (by decide)).trans (inv_91.1.2)
                refine q_loop (α := Int32 × Int × (Nat → Int32)) (fun a => a.1.toInt = a.2.1 ∧ (kpI [0,6,7,8] I a.2.2 ∧ a.2.2 0 = 0 ∧ (0 ≤ a.2.1 ∧ mcon (rowM Rw ca) (ylat (rowM Rw ca) fr yrs) + a.2.1 ≤ mcon (rowM Rw ca) to) ∧ (a.2.1 = 0 ∨ mlat (rowM Rw ca) (ylat (rowM Rw ca) fr yrs) a.2.1 ≠ -2147483647 ∧ mlat (rowM Rw ca) (ylat (rowM Rw ca) fr yrs) a.2.1 ≤ to))) (fun a => (mcon (rowM Rw ca) to - mcon (rowM Rw ca) (ylat (rowM Rw ca) fr yrs) - a.2.1).toNat) (fun a => ∀ (H : Heap) (locs : List Loc), qW D b n (mS t b σ0 a.2.2 Rw) s H locs → ∀ ls : Array Slot, lv_has ls 8 [(7, .int a.1), (6, .int r_122), (5, .int v_yrs), (0, .ref (b + 45)), (1, .int a_ca), (2, .int a_fr), (3, .int a_to), (4, .int a_part)] → W p l e (qR 8 0 0) s m args below meth c H locs 0 0 (MQ below (va_Qi (S := Nat × qM) (fun z u => (fun z n1 σ1 => n1 = n ∧ ∃ I1 R1, σ1 = mS t b σ0 I1 R1 ∧ R1 = Rw ∧ kpI [0, 6, 7, 8] I I1 ∧ (I1 0).toInt = cd3 (0 ≤ ca ∧ ca < (I 5).toInt) ((-999999 ≤ fr ∧ fr ≤ 999999) ∧ (fr ≤ to ∧ to ≤ 999999) ∧ 0 ≤ part ∧ part ≤ 2) ((fst (rowM Rw ca) (-2000) ≤ fr ∧ fr < fst (rowM Rw ca) 2001) ∧ fst (rowM Rw ca) (-2000) ≤ to ∧ to < fst (rowM Rw ca) 2001) ∧ ((I1 0).toInt = 0 → z.toInt = (if part = 0 then spY (rowM Rw ca) fr to else if part = 1 then spM (rowM Rw ca) (ylat (rowM Rw ca) fr (spY (rowM Rw ca) fr to)) to else to - mlat (rowM Rw ca) (ylat (rowM Rw ca) fr (spY (rowM Rw ca) fr to)) (spM (rowM Rw ca) (ylat (rowM Rw ca) fr (spY (rowM Rw ca) fr to)) to)))) z u.1 u.2) (fun u T => WB D b u.1 u.2 T.heap) (fun q => b ≤ q)) args s 0 0 (fun q => b ≤ q)) (F0 m 130 ls [])) ?_ ⟨0, 0, I_122⟩ ⟨(show (0 : Int32).toInt = 0 from rfl), by dsimp only; exact ⟨hK, hK0, by omega, Or.inl rfl⟩⟩ _ _ w ls (lv_sub hl [0, 1, 2, 3, 4, 5, 6, 7] rfl)
                rintro ⟨v_mo, mo, I_L130⟩ ⟨q_mo, inv_130⟩ ih_130 H locs w ls hl
                dsimp only at q_mo inv_130 hl w
                refine lv_aload_n hx hb dX9_span_130 rfl (lv_at hl 3 rfl) ?_
                refine lv_iload_n hx hb dX9_span_131 rfl (lv_at hl 4 rfl) ?_
                refine lv_iload hx hb dX9_span_132 (lv_at hl 1 rfl) ?_
                refine lv_iload hx hb dX9_span_134 (lv_at hl 0 rfl) ?_
                refine lv_iconst (v := 1) hx hb dX9_span_136 (by decide) ?_
                refine lv_iadd hx hb dX9_span_137 ?_
                refine lv_topi (fun x_137 e_137 => ?_)
                have p_137 : x_137.toInt = (mo + 1) := by rw [e_137]; exact t_add q_mo (show (1 : Int32).toInt = 1 from rfl) (by omega) (by omega)
                refine mm_cCI X w (c_X9_monthsLater l D t b n σ0 I_L130 Rw a_ca r_122 x_137 ca (ylat (rowM Rw ca) fr yrs) (mo + 1) e_ca z_122.2.2.2.2 p_137 (by first | assumption | omega) (by first | assumption | omega) (by first | assumption | omega) (by exact ⟨by omega, by omega⟩) (by omega)) v_X9_266 rfl rfl ⟨Nat.le_of_ble_eq_true rfl, Nat.le_of_ble_eq_true rfl⟩ rfl hl.1 (Nat.le_of_ble_eq_true rfl) dX9_span_138 ⟨Nat.zero_le _, Nat.zero_le _⟩ (fun r_138 I_138 H locs z_138 w => ?_)
                refine lv_iload_n hx hb dX9_span_141 rfl (lv_at hl 6 rfl) ?_
                refine q_cPS X w (c_X9_isThere l r_138 a_to (mlat (rowM Rw ca) (ylat (rowM Rw ca) fr yrs) (mo + 1)) to z_138.2.2.2.2 e_to D t b n (mS t b σ0 I_138 Rw)) v_X9_275 rfl ⟨Nat.le_of_ble_eq_true rfl, Nat.le_of_ble_eq_true rfl⟩ rfl hl.1 (Nat.le_of_ble_eq_true rfl) dX9_span_142 ⟨Nat.zero_le _, Nat.zero_le _⟩ (fun r_142 z_142 => ?_)
                refine lv_if_eq (tgt := 154) hx hb dX9_span_145 (by decide) (fun c_145 => ?_) (fun c_145 => ?_)
                · skip
                  rw [z_142] at c_145
                  have k_145 := bI_f.mp c_145
                  have hmon : mo = spM (rowM Rw ca) (ylat (rowM Rw ca) fr yrs) to := spM_eq hq (by omega) (by omega) (by omega) k_62.1 k_62.2 hto hfo.2.2.2 (by omega) inv_130.2.2.2 k_145
                  have hml : mlat (rowM Rw ca) (ylat (rowM Rw ca) fr yrs) mo ≠ -2147483647 := inv_130.2.2.2.elim (fun q => by rw [q, mlat_0 hq (by omega) (by omega) (by omega)]; exact hfo.2.1) (fun q => q.1)
                  have hmr := mlat_rng (rowM Rw ca) (ylat (rowM Rw ca) fr yrs) mo
                  refine lv_iload hx hb dX9_span_154 (lv_at hl 7 rfl) ?_
                  refine lv_if_ne (tgt := 164) hx hb dX9_span_156 (by decide) (fun c_156 => ?_) (fun c_156 => ?_)
                  · skip
                    have k_156 : ¬ (part = 0) := fun h => c_156 ((g_eq e_part (show (0 : Int32).toInt = 0 from rfl)).mpr h)
                    refine lv_iload hx hb dX9_span_164 (lv_at hl 7 rfl) ?_
                    refine lv_iconst (v := 1) hx hb dX9_span_166 (by decide) ?_
                    refine lv_icmp_ne (tgt := 175) hx hb dX9_span_167 (by decide) (fun c_167 => ?_) (fun c_167 => ?_)
                    · skip
                      have k_167 : ¬ (part = 1) := fun h => c_167 ((g_eq e_part (show (1 : Int32).toInt = 1 from rfl)).mpr h)
                      refine lv_iload_n hx hb dX9_span_175 rfl (lv_at hl 6 rfl) ?_
                      refine lv_aload_n hx hb dX9_span_176 rfl (lv_at hl 3 rfl) ?_
                      refine lv_iload_n hx hb dX9_span_177 rfl (lv_at hl 4 rfl) ?_
                      refine lv_iload hx hb dX9_span_178 (lv_at hl 1 rfl) ?_
                      refine lv_iload hx hb dX9_span_180 (lv_at hl 0 rfl) ?_
                      refine mm_cCI X w (c_X9_monthsLater l D t b n σ0 I_138 Rw a_ca r_122 v_mo ca (ylat (rowM Rw ca) fr yrs) mo e_ca z_122.2.2.2.2 q_mo (by first | assumption | omega) (by first | assumption | omega) (by first | assumption | omega) (by exact ⟨by omega, by omega⟩) (by omega)) v_X9_266 rfl rfl ⟨Nat.le_of_ble_eq_true rfl, Nat.le_of_ble_eq_true rfl⟩ rfl hl.1 (Nat.le_of_ble_eq_true rfl) dX9_span_182 ⟨Nat.zero_le _, Nat.zero_le _⟩ (fun r_182 I_182 H locs z_182 w => ?_)
                      refine lv_isub hx hb dX9_span_185 ?_
                      refine lv_topi (fun x_185 e_185 => ?_)
                      have p_185 : x_185.toInt = (to - (mlat (rowM Rw ca) (ylat (rowM Rw ca) fr yrs) mo)) := by rw [e_185]; exact t_sub e_to z_182.2.2.2.2 (by omega) (by omega)
                      exact q_cret (post := (fun z n1 σ1 => n1 = n ∧ ∃ I1 R1, σ1 = mS t b σ0 I1 R1 ∧ R1 = Rw ∧ kpI [0, 6, 7, 8] I I1 ∧ (I1 0).toInt = cd3 (0 ≤ ca ∧ ca < (I 5).toInt) ((-999999 ≤ fr ∧ fr ≤ 999999) ∧ (fr ≤ to ∧ to ≤ 999999) ∧ 0 ≤ part ∧ part ≤ 2) ((fst (rowM Rw ca) (-2000) ≤ fr ∧ fr < fst (rowM Rw ca) 2001) ∧ fst (rowM Rw ca) (-2000) ≤ to ∧ to < fst (rowM Rw ca) 2001) ∧ ((I1 0).toInt = 0 → z.toInt = (if part = 0 then spY (rowM Rw ca) fr to else if part = 1 then spM (rowM Rw ca) (ylat (rowM Rw ca) fr (spY (rowM Rw ca) fr to)) to else to - mlat (rowM Rw ca) (ylat (rowM Rw ca) fr (spY (rowM Rw ca) fr to)) (spM (rowM Rw ca) (ylat (rowM Rw ca) fr (spY (rowM Rw ca) fr to)) to))))) X w dX9_span_186 (rfl) ⟨rfl, _, _, rfl, rfl, by exact ⟨(kpI.tr (J := [0,6,7,8]) (kpI.tr (J := [0,6,7,8]) inv_130.1 z_138.1 (by decide) (by decide)) z_182.1 (by decide) (by decide)), (by rw [cd3_0 k_5 ⟨k_18, k_28, k_38⟩ ⟨k_53, k_62⟩]; exact congrArg Int32.toInt ((z_182.1 0 (by decide)).trans ((z_138.1 0 (by decide)).trans inv_130.2.1))), fun _ => by rw [if_neg k_156, if_neg k_167, ← hyrs, ← hmon]; exact p_185⟩⟩
                    · skip
                      have k_167 : part = 1 := (g_eq e_part (show (1 : Int32).toInt = 1 from rfl)).mp c_167
                      refine lv_iload hx hb dX9_span_170 (lv_at hl 0 rfl) ?_
                      refine lv_goto (tgt := 186) hx hb dX9_span_172 (by decide) ?_
                      exact q_cret (post := (fun z n1 σ1 => n1 = n ∧ ∃ I1 R1, σ1 = mS t b σ0 I1 R1 ∧ R1 = Rw ∧ kpI [0, 6, 7, 8] I I1 ∧ (I1 0).toInt = cd3 (0 ≤ ca ∧ ca < (I 5).toInt) ((-999999 ≤ fr ∧ fr ≤ 999999) ∧ (fr ≤ to ∧ to ≤ 999999) ∧ 0 ≤ part ∧ part ≤ 2) ((fst (rowM Rw ca) (-2000) ≤ fr ∧ fr < fst (rowM Rw ca) 2001) ∧ fst (rowM Rw ca) (-2000) ≤ to ∧ to < fst (rowM Rw ca) 2001) ∧ ((I1 0).toInt = 0 → z.toInt = (if part = 0 then spY (rowM Rw ca) fr to else if part = 1 then spM (rowM Rw ca) (ylat (rowM Rw ca) fr (spY (rowM Rw ca) fr to)) to else to - mlat (rowM Rw ca) (ylat (rowM Rw ca) fr (spY (rowM Rw ca) fr to)) (spM (rowM Rw ca) (ylat (rowM Rw ca) fr (spY (rowM Rw ca) fr to)) to))))) X w dX9_span_186 (rfl) ⟨rfl, _, _, rfl, rfl, by exact ⟨(kpI.tr (J := [0,6,7,8]) inv_130.1 z_138.1 (by decide) (by decide)), (by rw [cd3_0 k_5 ⟨k_18, k_28, k_38⟩ ⟨k_53, k_62⟩]; exact congrArg Int32.toInt ((z_138.1 0 (by decide)).trans inv_130.2.1)), fun _ => by rw [if_neg k_156, if_pos k_167, ← hyrs, ← hmon]; exact q_mo⟩⟩
                  · skip
                    have k_156 : part = 0 := (g_eq e_part (show (0 : Int32).toInt = 0 from rfl)).mp c_156
                    refine lv_iload hx hb dX9_span_159 (lv_at hl 2 rfl) ?_
                    refine lv_goto (tgt := 186) hx hb dX9_span_161 (by decide) ?_
                    exact q_cret (post := (fun z n1 σ1 => n1 = n ∧ ∃ I1 R1, σ1 = mS t b σ0 I1 R1 ∧ R1 = Rw ∧ kpI [0, 6, 7, 8] I I1 ∧ (I1 0).toInt = cd3 (0 ≤ ca ∧ ca < (I 5).toInt) ((-999999 ≤ fr ∧ fr ≤ 999999) ∧ (fr ≤ to ∧ to ≤ 999999) ∧ 0 ≤ part ∧ part ≤ 2) ((fst (rowM Rw ca) (-2000) ≤ fr ∧ fr < fst (rowM Rw ca) 2001) ∧ fst (rowM Rw ca) (-2000) ≤ to ∧ to < fst (rowM Rw ca) 2001) ∧ ((I1 0).toInt = 0 → z.toInt = (if part = 0 then spY (rowM Rw ca) fr to else if part = 1 then spM (rowM Rw ca) (ylat (rowM Rw ca) fr (spY (rowM Rw ca) fr to)) to else to - mlat (rowM Rw ca) (ylat (rowM Rw ca) fr (spY (rowM Rw ca) fr to)) (spM (rowM Rw ca) (ylat (rowM Rw ca) fr (spY (rowM Rw ca) fr to)) to))))) X w dX9_span_186 (rfl) ⟨rfl, _, _, rfl, rfl, by exact ⟨(kpI.tr (J := [0,6,7,8]) inv_130.1 z_138.1 (by decide) (by decide)), (by rw [cd3_0 k_5 ⟨k_18, k_28, k_38⟩ ⟨k_53, k_62⟩]; exact congrArg Int32.toInt ((z_138.1 0 (by decide)).trans inv_130.2.1)), fun _ => by rw [if_pos k_156, ← hyrs]; exact q_yrs⟩⟩
                · skip
                  rw [z_142] at c_145
                  have k_145 := bI_t.mp c_145
                  have hstep : mcon (rowM Rw ca) (ylat (rowM Rw ca) fr yrs) + (mo + 1) ≤ mcon (rowM Rw ca) to := (show mcon (rowM Rw ca) (ylat (rowM Rw ca) fr yrs) + (mo + 1) ≤ mcon (rowM Rw ca) to ∨ mcon (rowM Rw ca) to < mcon (rowM Rw ca) (ylat (rowM Rw ca) fr yrs) + (mo + 1) by omega).elim id (fun z => absurd k_145 (mlat_past hq (by omega) (by omega) k_62.1 k_62.2 z))
                  obtain ⟨x_148, e_148⟩ : ∃ z : Int32, z = (v_mo + 1) := ⟨_, rfl⟩
                  have p_148 : x_148.toInt = (mo + 1) := by rw [e_148]; exact t_add q_mo (show (1 : Int32).toInt = 1 from rfl) (by omega) (by omega)
                  refine lv_iinc (v := x_148) (lv' := [(7, .int x_148), (6, .int r_122), (5, .int v_yrs), (0, .ref (b + 45)), (1, .int a_ca), (2, .int a_fr), (3, .int a_to), (4, .int a_part)]) hx hb dX9_span_148 hl (k := 0) rfl (by rw [e_148]; rfl) (by decide) rfl (fun ls hl => ?_)
                  refine lv_goto (tgt := 130) hx hb dX9_span_151 (by decide) ?_
                  refine ih_130 ⟨x_148, (mo + 1), I_138⟩ ⟨p_148, by dsimp only; exact ⟨inv_130.1.tr z_138.1 (by decide) (by decide), (z_138.1 0 (by decide)).trans inv_130.2.1, by omega, Or.inr k_145⟩⟩ (by dsimp only; omega) _ _ w ls (lv_sub hl [0, 1, 2, 3, 4, 5, 6, 7] rfl)
              · skip
                have k_93 : ¬ (yrs ≤ 0) := fun h => c_93 ((g_le q_yrs (show (0 : Int32).toInt = 0 from rfl)).mpr h)
                refine lv_aload_n hx hb dX9_span_96 rfl (lv_at hl 1 rfl) ?_
                refine lv_iload_n hx hb dX9_span_97 rfl (lv_at hl 2 rfl) ?_
                refine lv_iload_n hx hb dX9_span_98 rfl (lv_at hl 3 rfl) ?_
                refine lv_iload hx hb dX9_span_99 (lv_at hl 0 rfl) ?_
                refine mm_cCI X w (c_X9_yearsLater l D t b n σ0 I_L91 Rw a_ca a_fr v_yrs ca fr yrs e_ca e_fr q_yrs (by first | assumption | omega) (by first | assumption | omega) (by first | assumption | omega) (by first | assumption | omega) (by omega)) v_X9_272 rfl rfl ⟨Nat.le_of_ble_eq_true rfl, Nat.le_of_ble_eq_true rfl⟩ rfl hl.1 (Nat.le_of_ble_eq_true rfl) dX9_span_101 ⟨Nat.zero_le _, Nat.zero_le _⟩ (fun r_101 I_101 H locs z_101 w => ?_)
                refine lv_iload_n hx hb dX9_span_104 rfl (lv_at hl 4 rfl) ?_
                refine q_cPS X w (c_X9_isThere l r_101 a_to (ylat (rowM Rw ca) fr yrs) to z_101.2.2.2.2 e_to D t b n (mS t b σ0 I_101 Rw)) v_X9_275 rfl ⟨Nat.le_of_ble_eq_true rfl, Nat.le_of_ble_eq_true rfl⟩ rfl hl.1 (Nat.le_of_ble_eq_true rfl) dX9_span_105 ⟨Nat.zero_le _, Nat.zero_le _⟩ (fun r_105 z_105 => ?_)
                refine lv_if_ne (tgt := 117) hx hb dX9_span_108 (by decide) (fun c_108 => ?_) (fun c_108 => ?_)
                · skip
                  rw [z_105] at c_108
                  have k_108 := bI_t.mp c_108
                  have hyrs : yrs = spY (rowM Rw ca) fr to := spY_eq hq k_53.1 k_53.2 k_18 k_62.1 k_62.2 hto k_28.1 (by omega) (by omega) (Or.inr k_108) inv_91.2.2
                  have hfo := spY_found hq k_53.1 k_53.2 k_18 k_62.1 k_62.2 hto k_28.1
                  rw [← hyrs] at hfo
                  have hm2 := mcon_in hq k_62.1 k_62.2
                  have hm1 := mcon_in hq (d := (ylat (rowM Rw ca) fr yrs)) (by omega) (by omega)
                  have hle2 := mcon_le hq (a := (ylat (rowM Rw ca) fr yrs)) (b := to) (by omega) (by omega) k_62.1 k_62.2 hfo.2.2.2
                  refine lv_aload_n hx hb dX9_span_117 rfl (lv_at hl 1 rfl) ?_
                  refine lv_iload_n hx hb dX9_span_118 rfl (lv_at hl 2 rfl) ?_
                  refine lv_iload_n hx hb dX9_span_119 rfl (lv_at hl 3 rfl) ?_
                  refine lv_iload hx hb dX9_span_120 (lv_at hl 0 rfl) ?_
                  refine mm_cCI X w (c_X9_yearsLater l D t b n σ0 I_101 Rw a_ca a_fr v_yrs ca fr yrs e_ca e_fr q_yrs (by first | assumption | omega) (by first | assumption | omega) (by first | assumption | omega) (by first | assumption | omega) (by omega)) v_X9_272 rfl rfl ⟨Nat.le_of_ble_eq_true rfl, Nat.le_of_ble_eq_true rfl⟩ rfl hl.1 (Nat.le_of_ble_eq_true rfl) dX9_span_122 ⟨Nat.zero_le _, Nat.zero_le _⟩ (fun r_122 I_122 H locs z_122 w => ?_)
                  refine lv_istore (lv' := [(6, .int r_122), (5, .int v_yrs), (0, .ref (b + 45)), (1, .int a_ca), (2, .int a_fr), (3, .int a_to), (4, .int a_part)]) hx hb dX9_span_125 hl (by decide) rfl (fun ls hl => ?_)
                  refine lv_iconst (v := 0) hx hb dX9_span_127 (by decide) ?_
                  refine lv_istore (lv' := [(7, .int 0), (6, .int r_122), (5, .int v_yrs), (0, .ref (b + 45)), (1, .int a_ca), (2, .int a_fr), (3, .int a_to), (4, .int a_part)]) hx hb dX9_span_128 hl (by decide) rfl (fun ls hl => ?_)
                  have hK := kpI.tr (J := [0,6,7,8]) (kpI.tr (J := [0,6,7,8]) inv_91.1.1 z_101.1 (by decide) (by decide)) z_122.1 (by decide) (by decide)
                  have hK0 := (z_122.1 0 (by decide)).trans ((z_101.1 0 (by decide)).trans inv_91.1.2)
                  refine q_loop (α := Int32 × Int × (Nat → Int32)) (fun a => a.1.toInt = a.2.1 ∧ (kpI [0,6,7,8] I a.2.2 ∧ a.2.2 0 = 0 ∧ (0 ≤ a.2.1 ∧ mcon (rowM Rw ca) (ylat (rowM Rw ca) fr yrs) + a.2.1 ≤ mcon (rowM Rw ca) to) ∧ (a.2.1 = 0 ∨ mlat (rowM Rw ca) (ylat (rowM Rw ca) fr yrs) a.2.1 ≠ -2147483647 ∧ mlat (rowM Rw ca) (ylat (rowM Rw ca) fr yrs) a.2.1 ≤ to))) (fun a => (mcon (rowM Rw ca) to - mcon (rowM Rw ca) (ylat (rowM Rw ca) fr yrs) - a.2.1).toNat) (fun a => ∀ (H : Heap) (locs : List Loc), qW D b n (mS t b σ0 a.2.2 Rw) s H locs → ∀ ls : Array Slot, lv_has ls 8 [(7, .int a.1), (6, .int r_122), (5, .int v_yrs), (0, .ref (b + 45)), (1, .int a_ca), (2, .int a_fr), (3, .int a_to), (4, .int a_part)] → W p l e (qR 8 0 0) s m args below meth c H locs 0 0 (MQ below (va_Qi (S := Nat × qM) (fun z u => (fun z n1 σ1 => n1 = n ∧ ∃ I1 R1, σ1 = mS t b σ0 I1 R1 ∧ R1 = Rw ∧ kpI [0, 6, 7, 8] I I1 ∧ (I1 0).toInt = cd3 (0 ≤ ca ∧ ca < (I 5).toInt) ((-999999 ≤ fr ∧ fr ≤ 999999) ∧ (fr ≤ to ∧ to ≤ 999999) ∧ 0 ≤ part ∧ part ≤ 2) ((fst (rowM Rw ca) (-2000) ≤ fr ∧ fr < fst (rowM Rw ca) 2001) ∧ fst (rowM Rw ca) (-2000) ≤ to ∧ to < fst (rowM Rw ca) 2001) ∧ ((I1 0).toInt = 0 → z.toInt = (if part = 0 then spY (rowM Rw ca) fr to else if part = 1 then spM (rowM Rw ca) (ylat (rowM Rw ca) fr (spY (rowM Rw ca) fr to)) to else to - mlat (rowM Rw ca) (ylat (rowM Rw ca) fr (spY (rowM Rw ca) fr to)) (spM (rowM Rw ca) (ylat (rowM Rw ca) fr (spY (rowM Rw ca) fr to)) to)))) z u.1 u.2) (fun u T => WB D b u.1 u.2 T.heap) (fun q => b ≤ q)) args s 0 0 (fun q => b ≤ q)) (F0 m 130 ls [])) ?_ ⟨0, 0, I_122⟩ ⟨(show (0 : Int32).toInt = 0 from rfl), by dsimp only; exact ⟨hK, hK0, by omega, Or.inl rfl⟩⟩ _ _ w ls (lv_sub hl [0, 1, 2, 3, 4, 5, 6, 7] rfl)
                  rintro ⟨v_mo, mo, I_L130⟩ ⟨q_mo, inv_130⟩ ih_130 H locs w ls hl
                  dsimp only at q_mo inv_130 hl w
                  refine lv_aload_n hx hb dX9_span_130 rfl (lv_at hl 3 rfl) ?_
                  refine lv_iload_n hx hb dX9_span_131 rfl (lv_at hl 4 rfl) ?_
                  refine lv_iload hx hb dX9_span_132 (lv_at hl 1 rfl) ?_
                  refine lv_iload hx hb dX9_span_134 (lv_at hl 0 rfl) ?_
                  refine lv_iconst (v := 1) hx hb dX9_span_136 (by decide) ?_
                  refine lv_iadd hx hb dX9_span_137 ?_
                  refine lv_topi (fun x_137 e_137 => ?_)
                  have p_137 : x_137.toInt = (mo + 1) := by rw [e_137]; exact t_add q_mo (show (1 : Int32).toInt = 1 from rfl) (by omega) (by omega)
                  refine mm_cCI X w (c_X9_monthsLater l D t b n σ0 I_L130 Rw a_ca r_122 x_137 ca (ylat (rowM Rw ca) fr yrs) (mo + 1) e_ca z_122.2.2.2.2 p_137 (by first | assumption | omega) (by first | assumption | omega) (by first | assumption | omega) (by exact ⟨by omega, by omega⟩) (by omega)) v_X9_266 rfl rfl ⟨Nat.le_of_ble_eq_true rfl, Nat.le_of_ble_eq_true rfl⟩ rfl hl.1 (Nat.le_of_ble_eq_true rfl) dX9_span_138 ⟨Nat.zero_le _, Nat.zero_le _⟩ (fun r_138 I_138 H locs z_138 w => ?_)
                  refine lv_iload_n hx hb dX9_span_141 rfl (lv_at hl 6 rfl) ?_
                  refine q_cPS X w (c_X9_isThere l r_138 a_to (mlat (rowM Rw ca) (ylat (rowM Rw ca) fr yrs) (mo + 1)) to z_138.2.2.2.2 e_to D t b n (mS t b σ0 I_138 Rw)) v_X9_275 rfl ⟨Nat.le_of_ble_eq_true rfl, Nat.le_of_ble_eq_true rfl⟩ rfl hl.1 (Nat.le_of_ble_eq_true rfl) dX9_span_142 ⟨Nat.zero_le _, Nat.zero_le _⟩ (fun r_142 z_142 => ?_)
                  refine lv_if_eq (tgt := 154) hx hb dX9_span_145 (by decide) (fun c_145 => ?_) (fun c_145 => ?_)
                  · skip
                    rw [z_142] at c_145
                    have k_145 := bI_f.mp c_145
                    have hmon : mo = spM (rowM Rw ca) (ylat (rowM Rw ca) fr yrs) to := spM_eq hq (by omega) (by omega) (by omega) k_62.1 k_62.2 hto hfo.2.2.2 (by omega) inv_130.2.2.2 k_145
                    have hml : mlat (rowM Rw ca) (ylat (rowM Rw ca) fr yrs) mo ≠ -2147483647 := inv_130.2.2.2.elim (fun q => by rw [q, mlat_0 hq (by omega) (by omega) (by omega)]; exact hfo.2.1) (fun q => q.1)
                    have hmr := mlat_rng (rowM Rw ca) (ylat (rowM Rw ca) fr yrs) mo
                    refine lv_iload hx hb dX9_span_154 (lv_at hl 7 rfl) ?_
                    refine lv_if_ne (tgt := 164) hx hb dX9_span_156 (by decide) (fun c_156 => ?_) (fun c_156 => ?_)
                    · skip
                      have k_156 : ¬ (part = 0) := fun h => c_156 ((g_eq e_part (show (0 : Int32).toInt = 0 from rfl)).mpr h)
                      refine lv_iload hx hb dX9_span_164 (lv_at hl 7 rfl) ?_
                      refine lv_iconst (v := 1) hx hb dX9_span_166 (by decide) ?_
                      refine lv_icmp_ne (tgt := 175) hx hb dX9_span_167 (by decide) (fun c_167 => ?_) (fun c_167 => ?_)
                      · skip
                        have k_167 : ¬ (part = 1) := fun h => c_167 ((g_eq e_part (show (1 : Int32).toInt = 1 from rfl)).mpr h)
                        refine lv_iload_n hx hb dX9_span_175 rfl (lv_at hl 6 rfl) ?_
                        refine lv_aload_n hx hb dX9_span_176 rfl (lv_at hl 3 rfl) ?_
                        refine lv_iload_n hx hb dX9_span_177 rfl (lv_at hl 4 rfl) ?_
                        refine lv_iload hx hb dX9_span_178 (lv_at hl 1 rfl) ?_
                        refine lv_iload hx hb dX9_span_180 (lv_at hl 0 rfl) ?_
                        refine mm_cCI X w (c_X9_monthsLater l D t b n σ0 I_138 Rw a_ca r_122 v_mo ca (ylat (rowM Rw ca) fr yrs) mo e_ca z_122.2.2.2.2 q_mo (by first | assumption | omega) (by first | assumption | omega) (by first | assumption | omega) (by exact ⟨by omega, by omega⟩) (by omega)) v_X9_266 rfl rfl ⟨Nat.le_of_ble_eq_true rfl, Nat.le_of_ble_eq_true rfl⟩ rfl hl.1 (Nat.le_of_ble_eq_true rfl) dX9_span_182 ⟨Nat.zero_le _, Nat.zero_le _⟩ (fun r_182 I_182 H locs z_182 w => ?_)
                        refine lv_isub hx hb dX9_span_185 ?_
                        refine lv_topi (fun x_185 e_185 => ?_)
                        have p_185 : x_185.toInt = (to - (mlat (rowM Rw ca) (ylat (rowM Rw ca) fr yrs) mo)) := by rw [e_185]; exact t_sub e_to z_182.2.2.2.2 (by omega) (by omega)
                        exact q_cret (post := (fun z n1 σ1 => n1 = n ∧ ∃ I1 R1, σ1 = mS t b σ0 I1 R1 ∧ R1 = Rw ∧ kpI [0, 6, 7, 8] I I1 ∧ (I1 0).toInt = cd3 (0 ≤ ca ∧ ca < (I 5).toInt) ((-999999 ≤ fr ∧ fr ≤ 999999) ∧ (fr ≤ to ∧ to ≤ 999999) ∧ 0 ≤ part ∧ part ≤ 2) ((fst (rowM Rw ca) (-2000) ≤ fr ∧ fr < fst (rowM Rw ca) 2001) ∧ fst (rowM Rw ca) (-2000) ≤ to ∧ to < fst (rowM Rw ca) 2001) ∧ ((I1 0).toInt = 0 → z.toInt = (if part = 0 then spY (rowM Rw ca) fr to else if part = 1 then spM (rowM Rw ca) (ylat (rowM Rw ca) fr (spY (rowM Rw ca) fr to)) to else to - mlat (rowM Rw ca) (ylat (rowM Rw ca) fr (spY (rowM Rw ca) fr to)) (spM (rowM Rw ca) (ylat (rowM Rw ca) fr (spY (rowM Rw ca) fr to)) to))))) X w dX9_span_186 (rfl) ⟨rfl, _, _, rfl, rfl, by exact ⟨(kpI.tr (J := [0,6,7,8]) (kpI.tr (J := [0,6,7,8]) inv_130.1 z_138.1 (by decide) (by decide)) z_182.1 (by decide) (by decide)), (by rw [cd3_0 k_5 ⟨k_18, k_28, k_38⟩ ⟨k_53, k_62⟩]; exact congrArg Int32.toInt ((z_182.1 0 (by decide)).trans ((z_138.1 0 (by decide)).trans inv_130.2.1))), fun _ => by rw [if_neg k_156, if_neg k_167, ← hyrs, ← hmon]; exact p_185⟩⟩
                      · skip
                        have k_167 : part = 1 := (g_eq e_part (show (1 : Int32).toInt = 1 from rfl)).mp c_167
                        refine lv_iload hx hb dX9_span_170 (lv_at hl 0 rfl) ?_
                        refine lv_goto (tgt := 186) hx hb dX9_span_172 (by decide) ?_
                        exact q_cret (post := (fun z n1 σ1 => n1 = n ∧ ∃ I1 R1, σ1 = mS t b σ0 I1 R1 ∧ R1 = Rw ∧ kpI [0, 6, 7, 8] I I1 ∧ (I1 0).toInt = cd3 (0 ≤ ca ∧ ca < (I 5).toInt) ((-999999 ≤ fr ∧ fr ≤ 999999) ∧ (fr ≤ to ∧ to ≤ 999999) ∧ 0 ≤ part ∧ part ≤ 2) ((fst (rowM Rw ca) (-2000) ≤ fr ∧ fr < fst (rowM Rw ca) 2001) ∧ fst (rowM Rw ca) (-2000) ≤ to ∧ to < fst (rowM Rw ca) 2001) ∧ ((I1 0).toInt = 0 → z.toInt = (if part = 0 then spY (rowM Rw ca) fr to else if part = 1 then spM (rowM Rw ca) (ylat (rowM Rw ca) fr (spY (rowM Rw ca) fr to)) to else to - mlat (rowM Rw ca) (ylat (rowM Rw ca) fr (spY (rowM Rw ca) fr to)) (spM (rowM Rw ca) (ylat (rowM Rw ca) fr (spY (rowM Rw ca) fr to)) to))))) X w dX9_span_186 (rfl) ⟨rfl, _, _, rfl, rfl, by exact ⟨(kpI.tr (J := [0,6,7,8]) inv_130.1 z_138.1 (by decide) (by decide)), (by rw [cd3_0 k_5 ⟨k_18, k_28, k_38⟩ ⟨k_53, k_62⟩]; exact congrArg Int32.toInt ((z_138.1 0 (by decide)).trans inv_130.2.1)), fun _ => by rw [if_neg k_156, if_pos k_167, ← hyrs, ← hmon]; exact q_mo⟩⟩
                    · skip
                      have k_156 : part = 0 := (g_eq e_part (show (0 : Int32).toInt = 0 from rfl)).mp c_156
                      refine lv_iload hx hb dX9_span_159 (lv_at hl 2 rfl) ?_
                      refine lv_goto (tgt := 186) hx hb dX9_span_161 (by decide) ?_
                      exact q_cret (post := (fun z n1 σ1 => n1 = n ∧ ∃ I1 R1, σ1 = mS t b σ0 I1 R1 ∧ R1 = Rw ∧ kpI [0, 6, 7, 8] I I1 ∧ (I1 0).toInt = cd3 (0 ≤ ca ∧ ca < (I 5).toInt) ((-999999 ≤ fr ∧ fr ≤ 999999) ∧ (fr ≤ to ∧ to ≤ 999999) ∧ 0 ≤ part ∧ part ≤ 2) ((fst (rowM Rw ca) (-2000) ≤ fr ∧ fr < fst (rowM Rw ca) 2001) ∧ fst (rowM Rw ca) (-2000) ≤ to ∧ to < fst (rowM Rw ca) 2001) ∧ ((I1 0).toInt = 0 → z.toInt = (if part = 0 then spY (rowM Rw ca) fr to else if part = 1 then spM (rowM Rw ca) (ylat (rowM Rw ca) fr (spY (rowM Rw ca) fr to)) to else to - mlat (rowM Rw ca) (ylat (rowM Rw ca) fr (spY (rowM Rw ca) fr to)) (spM (rowM Rw ca) (ylat (rowM Rw ca) fr (spY (rowM Rw ca) fr to)) to))))) X w dX9_span_186 (rfl) ⟨rfl, _, _, rfl, rfl, by exact ⟨(kpI.tr (J := [0,6,7,8]) inv_130.1 z_138.1 (by decide) (by decide)), (by rw [cd3_0 k_5 ⟨k_18, k_28, k_38⟩ ⟨k_53, k_62⟩]; exact congrArg Int32.toInt ((z_138.1 0 (by decide)).trans inv_130.2.1)), fun _ => by rw [if_pos k_156, ← hyrs]; exact q_yrs⟩⟩
                  · skip
                    rw [z_142] at c_145
                    have k_145 := bI_t.mp c_145
                    have hstep : mcon (rowM Rw ca) (ylat (rowM Rw ca) fr yrs) + (mo + 1) ≤ mcon (rowM Rw ca) to := (show mcon (rowM Rw ca) (ylat (rowM Rw ca) fr yrs) + (mo + 1) ≤ mcon (rowM Rw ca) to ∨ mcon (rowM Rw ca) to < mcon (rowM Rw ca) (ylat (rowM Rw ca) fr yrs) + (mo + 1) by omega).elim id (fun z => absurd k_145 (mlat_past hq (by omega) (by omega) k_62.1 k_62.2 z))
                    obtain ⟨x_148, e_148⟩ : ∃ z : Int32, z = (v_mo + 1) := ⟨_, rfl⟩
                    have p_148 : x_148.toInt = (mo + 1) := by rw [e_148]; exact t_add q_mo (show (1 : Int32).toInt = 1 from rfl) (by omega) (by omega)
                    refine lv_iinc (v := x_148) (lv' := [(7, .int x_148), (6, .int r_122), (5, .int v_yrs), (0, .ref (b + 45)), (1, .int a_ca), (2, .int a_fr), (3, .int a_to), (4, .int a_part)]) hx hb dX9_span_148 hl (k := 0) rfl (by rw [e_148]; rfl) (by decide) rfl (fun ls hl => ?_)
                    refine lv_goto (tgt := 130) hx hb dX9_span_151 (by decide) ?_
                    refine ih_130 ⟨x_148, (mo + 1), I_138⟩ ⟨p_148, by dsimp only; exact ⟨inv_130.1.tr z_138.1 (by decide) (by decide), (z_138.1 0 (by decide)).trans inv_130.2.1, by omega, Or.inr k_145⟩⟩ (by dsimp only; omega) _ _ w ls (lv_sub hl [0, 1, 2, 3, 4, 5, 6, 7] rfl)
                · skip
                  rw [z_105] at c_108
                  have k_108 := bI_f.mp c_108
                  obtain ⟨x_111, e_111⟩ : ∃ z : Int32, z = (v_yrs + (-1)) := ⟨_, rfl⟩
                  have p_111 : x_111.toInt = (yrs + (-1)) := by rw [e_111]; exact t_add q_yrs (show ((-1) : Int32).toInt = (-1) from rfl) (by omega) (by omega)
                  refine lv_iinc (v := x_111) (lv' := [(5, .int x_111), (0, .ref (b + 45)), (1, .int a_ca), (2, .int a_fr), (3, .int a_to), (4, .int a_part)]) hx hb dX9_span_111 hl (k := 0) rfl (by rw [e_111]; rfl) (by decide) rfl (fun ls hl => ?_)
                  refine lv_goto (tgt := 91) hx hb dX9_span_114 (by decide) ?_
                  refine ih_91 ⟨x_111, (yrs + (-1)), I_101⟩ ⟨p_111, by dsimp only; exact ⟨⟨inv_91.1.1.tr z_101.1 (by decide) (by decide), (z_101.1 0 (by decide)).trans inv_91.1.2⟩, by omega, Or.inr (by rw [show yrs + -1 + 1 = yrs by omega]; exact k_108)⟩⟩ (by dsimp only; omega) _ _ w ls (lv_sub hl [0, 1, 2, 3, 4, 5] rfl)
            · skip
              rw [z_59] at c_62
              have k_62 := bI_f.mp c_62
              refine lv_aload_n hx hb dX9_span_65 rfl (lv_at hl 0 rfl) ?_
              refine lv_iconst (v := 3) hx hb dX9_span_66 (by decide) ?_
              refine mm_cCI X w (c_X9_fails l D t b n σ0 I Rw 3 3 (show (3 : Int32).toInt = 3 from rfl)) v_X9_143 rfl rfl ⟨Nat.le_of_ble_eq_true rfl, Nat.le_of_ble_eq_true rfl⟩ rfl hl.1 (Nat.le_of_ble_eq_true rfl) dX9_span_67 ⟨Nat.zero_le _, Nat.zero_le _⟩ (fun r_67 I_67 H locs z_67 w => ?_)
              exact q_cret (post := (fun z n1 σ1 => n1 = n ∧ ∃ I1 R1, σ1 = mS t b σ0 I1 R1 ∧ R1 = Rw ∧ kpI [0, 6, 7, 8] I I1 ∧ (I1 0).toInt = cd3 (0 ≤ ca ∧ ca < (I 5).toInt) ((-999999 ≤ fr ∧ fr ≤ 999999) ∧ (fr ≤ to ∧ to ≤ 999999) ∧ 0 ≤ part ∧ part ≤ 2) ((fst (rowM Rw ca) (-2000) ≤ fr ∧ fr < fst (rowM Rw ca) 2001) ∧ fst (rowM Rw ca) (-2000) ≤ to ∧ to < fst (rowM Rw ca) 2001) ∧ ((I1 0).toInt = 0 → z.toInt = (if part = 0 then spY (rowM Rw ca) fr to else if part = 1 then spM (rowM Rw ca) (ylat (rowM Rw ca) fr (spY (rowM Rw ca) fr to)) to else to - mlat (rowM Rw ca) (ylat (rowM Rw ca) fr (spY (rowM Rw ca) fr to)) (spM (rowM Rw ca) (ylat (rowM Rw ca) fr (spY (rowM Rw ca) fr to)) to))))) X w dX9_span_70 (rfl) ⟨rfl, _, _, rfl, rfl, by exact ⟨z_67.1.wk (by decide), z_67.2.1.trans (cd3_3 k_5 ⟨k_18, k_28, k_38⟩ (fun q => k_62 q.2)).symm, fun q => absurd (z_67.2.1.symm.trans q) (by decide)⟩⟩
        · skip
          rw [z_35] at c_38
          have k_38 := bI_f.mp c_38
          refine lv_aload_n hx hb dX9_span_41 rfl (lv_at hl 0 rfl) ?_
          refine lv_iconst (v := 2) hx hb dX9_span_42 (by decide) ?_
          refine mm_cCI X w (c_X9_fails l D t b n σ0 I Rw 2 2 (show (2 : Int32).toInt = 2 from rfl)) v_X9_143 rfl rfl ⟨Nat.le_of_ble_eq_true rfl, Nat.le_of_ble_eq_true rfl⟩ rfl hl.1 (Nat.le_of_ble_eq_true rfl) dX9_span_43 ⟨Nat.zero_le _, Nat.zero_le _⟩ (fun r_43 I_43 H locs z_43 w => ?_)
          exact q_cret (post := (fun z n1 σ1 => n1 = n ∧ ∃ I1 R1, σ1 = mS t b σ0 I1 R1 ∧ R1 = Rw ∧ kpI [0, 6, 7, 8] I I1 ∧ (I1 0).toInt = cd3 (0 ≤ ca ∧ ca < (I 5).toInt) ((-999999 ≤ fr ∧ fr ≤ 999999) ∧ (fr ≤ to ∧ to ≤ 999999) ∧ 0 ≤ part ∧ part ≤ 2) ((fst (rowM Rw ca) (-2000) ≤ fr ∧ fr < fst (rowM Rw ca) 2001) ∧ fst (rowM Rw ca) (-2000) ≤ to ∧ to < fst (rowM Rw ca) 2001) ∧ ((I1 0).toInt = 0 → z.toInt = (if part = 0 then spY (rowM Rw ca) fr to else if part = 1 then spM (rowM Rw ca) (ylat (rowM Rw ca) fr (spY (rowM Rw ca) fr to)) to else to - mlat (rowM Rw ca) (ylat (rowM Rw ca) fr (spY (rowM Rw ca) fr to)) (spM (rowM Rw ca) (ylat (rowM Rw ca) fr (spY (rowM Rw ca) fr to)) to))))) X w dX9_span_46 (rfl) ⟨rfl, _, _, rfl, rfl, by exact ⟨z_43.1.wk (by decide), z_43.2.1.trans (cd3_2 k_5 (fun q => k_38 q.2.2)).symm, fun q => absurd (z_43.2.1.symm.trans q) (by decide)⟩⟩
  · skip
    rw [z_2] at c_5
    have k_5 := bI_f.mp c_5
    refine lv_aload_n hx hb dX9_span_8 rfl (lv_at hl 0 rfl) ?_
    refine lv_iconst (v := 1) hx hb dX9_span_9 (by decide) ?_
    refine mm_cCI X w (c_X9_fails l D t b n σ0 I Rw 1 1 (show (1 : Int32).toInt = 1 from rfl)) v_X9_143 rfl rfl ⟨Nat.le_of_ble_eq_true rfl, Nat.le_of_ble_eq_true rfl⟩ rfl hl.1 (Nat.le_of_ble_eq_true rfl) dX9_span_10 ⟨Nat.zero_le _, Nat.zero_le _⟩ (fun r_10 I_10 H locs z_10 w => ?_)
    exact q_cret (post := (fun z n1 σ1 => n1 = n ∧ ∃ I1 R1, σ1 = mS t b σ0 I1 R1 ∧ R1 = Rw ∧ kpI [0, 6, 7, 8] I I1 ∧ (I1 0).toInt = cd3 (0 ≤ ca ∧ ca < (I 5).toInt) ((-999999 ≤ fr ∧ fr ≤ 999999) ∧ (fr ≤ to ∧ to ≤ 999999) ∧ 0 ≤ part ∧ part ≤ 2) ((fst (rowM Rw ca) (-2000) ≤ fr ∧ fr < fst (rowM Rw ca) 2001) ∧ fst (rowM Rw ca) (-2000) ≤ to ∧ to < fst (rowM Rw ca) 2001) ∧ ((I1 0).toInt = 0 → z.toInt = (if part = 0 then spY (rowM Rw ca) fr to else if part = 1 then spM (rowM Rw ca) (ylat (rowM Rw ca) fr (spY (rowM Rw ca) fr to)) to else to - mlat (rowM Rw ca) (ylat (rowM Rw ca) fr (spY (rowM Rw ca) fr to)) (spM (rowM Rw ca) (ylat (rowM Rw ca) fr (spY (rowM Rw ca) fr to)) to))))) X w dX9_span_13 (rfl) ⟨rfl, _, _, rfl, rfl, by exact ⟨z_10.1.wk (by decide), z_10.2.1.trans (cd3_1 k_5).symm, fun q => absurd (z_10.2.1.symm.trans q) (by decide)⟩⟩

set_option maxHeartbeats 4000000 in
set_option maxRecDepth 100000 in
theorem c_X9_newYears (l : Launch) (D : va_G) (t : Nat → ClassId) (b n : Nat) (σ0 : qM) (I : Nat → Int32) (Rw : Nat → Nat → Int32) (a_ca : Int32) (a_co : Int32) (a_fr : Int32) (a_to : Int32) (ca : Int) (co : Int) (fr : Int) (to : Int) (e_ca : a_ca.toInt = ca) (e_co : a_co.toInt = co) (e_fr : a_fr.toInt = fr) (e_to : a_to.toInt = to) (h_1 : (I 5).toInt ≤ 6) (h_2 : ∀ c : Int, 0 ≤ c → c < (I 5).toInt → okRow (rowM Rw c)) (h_3 : ∀ c : Int, 0 ≤ c → c < (I 5).toInt → okF Rw c) : mC l yX9_newYears cX9_newYears 9 (some .int) 3 D t b n σ0 I Rw [.ref (b + 45), .int a_ca, .int a_co, .int a_fr, .int a_to] (fun z I1 R1 => R1 = Rw ∧ kpI [0, 6, 7, 8] I I1 ∧ (I1 0).toInt = cd2 ((0 ≤ ca ∧ ca < (I 5).toInt) ∧ 0 ≤ co ∧ co < (I 5).toInt) ((-2000 ≤ fr ∧ fr ≤ 2000) ∧ fr ≤ to ∧ to ≤ 2000) ∧ ((I1 0).toInt = 0 → z.toInt = nyN (rowM Rw ca) (rowM Rw co) fr (to + 1 - fr).toNat)) := by
  refine qC.of (by decide +kernel) (Nat.le_of_ble_eq_true rfl) (fun p e s m args below meth c X w ls hl => ?_)
  have hx := X.1
  have hb := X.2.1
  have hl : lv_has ls 9 [(0, .ref (b + 45)), (1, .int a_ca), (2, .int a_co), (3, .int a_fr), (4, .int a_to)] := hl
  refine lv_aload_n hx hb dX9_newYears_0 rfl (lv_at hl 0 rfl) ?_
  refine lv_iload_n hx hb dX9_newYears_1 rfl (lv_at hl 1 rfl) ?_
  refine q_cPV X w (c_X9_isCalendar l D t b n σ0 I Rw a_ca ca e_ca) v_X9_221 (k := 45) rfl rfl rfl ⟨Nat.le_of_ble_eq_true rfl, Nat.le_of_ble_eq_true rfl⟩ rfl hl.1 (Nat.le_of_ble_eq_true rfl) dX9_newYears_2 ⟨Nat.zero_le _, Nat.zero_le _⟩ (fun r_2 z_2 => ?_)
  refine lv_if_eq (tgt := 16) hx hb dX9_newYears_5 (by decide) (fun c_5 => ?_) (fun c_5 => ?_)
  · skip
    rw [z_2] at c_5
    have k_5 := bI_f.mp c_5
    refine lv_aload_n hx hb dX9_newYears_16 rfl (lv_at hl 0 rfl) ?_
    refine lv_iconst (v := 1) hx hb dX9_newYears_17 (by decide) ?_
    refine mm_cCI X w (c_X9_fails l D t b n σ0 I Rw 1 1 (show (1 : Int32).toInt = 1 from rfl)) v_X9_143 rfl rfl ⟨Nat.le_of_ble_eq_true rfl, Nat.le_of_ble_eq_true rfl⟩ rfl hl.1 (Nat.le_of_ble_eq_true rfl) dX9_newYears_18 ⟨Nat.zero_le _, Nat.zero_le _⟩ (fun r_18 I_18 H locs z_18 w => ?_)
    exact q_cret (post := (fun z n1 σ1 => n1 = n ∧ ∃ I1 R1, σ1 = mS t b σ0 I1 R1 ∧ R1 = Rw ∧ kpI [0, 6, 7, 8] I I1 ∧ (I1 0).toInt = cd2 ((0 ≤ ca ∧ ca < (I 5).toInt) ∧ 0 ≤ co ∧ co < (I 5).toInt) ((-2000 ≤ fr ∧ fr ≤ 2000) ∧ fr ≤ to ∧ to ≤ 2000) ∧ ((I1 0).toInt = 0 → z.toInt = nyN (rowM Rw ca) (rowM Rw co) fr (to + 1 - fr).toNat))) X w dX9_newYears_21 (rfl) ⟨rfl, _, _, rfl, rfl, by exact ⟨z_18.1.wk (by decide), z_18.2.1.trans (cd2_1 (fun q => k_5 q.1)).symm, fun q => absurd (z_18.2.1.symm.trans q) (by decide)⟩⟩
  · skip
    rw [z_2] at c_5
    have k_5 := bI_t.mp c_5
    refine lv_aload_n hx hb dX9_newYears_8 rfl (lv_at hl 0 rfl) ?_
    refine lv_iload_n hx hb dX9_newYears_9 rfl (lv_at hl 2 rfl) ?_
    refine q_cPV X w (c_X9_isCalendar l D t b n σ0 I Rw a_co co e_co) v_X9_221 (k := 45) rfl rfl rfl ⟨Nat.le_of_ble_eq_true rfl, Nat.le_of_ble_eq_true rfl⟩ rfl hl.1 (Nat.le_of_ble_eq_true rfl) dX9_newYears_10 ⟨Nat.zero_le _, Nat.zero_le _⟩ (fun r_10 z_10 => ?_)
    refine lv_if_ne (tgt := 22) hx hb dX9_newYears_13 (by decide) (fun c_13 => ?_) (fun c_13 => ?_)
    · skip
      rw [z_10] at c_13
      have k_13 := bI_t.mp c_13
      have hq := h_2 ca k_5.1 k_5.2
      have hF := h_3 ca k_5.1 k_5.2
      have hq2 := h_2 co k_13.1 k_13.2
      have hF2 := h_3 co k_13.1 k_13.2
      refine lv_iload_n hx hb dX9_newYears_22 rfl (lv_at hl 3 rfl) ?_
      refine q_cPS X w (c_X9_isYear l a_fr fr e_fr D t b n (mS t b σ0 I Rw)) v_X9_110 rfl ⟨Nat.le_of_ble_eq_true rfl, Nat.le_of_ble_eq_true rfl⟩ rfl hl.1 (Nat.le_of_ble_eq_true rfl) dX9_newYears_23 ⟨Nat.zero_le _, Nat.zero_le _⟩ (fun r_23 z_23 => ?_)
      refine lv_if_eq (tgt := 41) hx hb dX9_newYears_26 (by decide) (fun c_26 => ?_) (fun c_26 => ?_)
      · skip
        rw [z_23] at c_26
        have k_26 := bI_f.mp c_26
        refine lv_aload_n hx hb dX9_newYears_41 rfl (lv_at hl 0 rfl) ?_
        refine lv_iconst (v := 2) hx hb dX9_newYears_42 (by decide) ?_
        refine mm_cCI X w (c_X9_fails l D t b n σ0 I Rw 2 2 (show (2 : Int32).toInt = 2 from rfl)) v_X9_143 rfl rfl ⟨Nat.le_of_ble_eq_true rfl, Nat.le_of_ble_eq_true rfl⟩ rfl hl.1 (Nat.le_of_ble_eq_true rfl) dX9_newYears_43 ⟨Nat.zero_le _, Nat.zero_le _⟩ (fun r_43 I_43 H locs z_43 w => ?_)
        exact q_cret (post := (fun z n1 σ1 => n1 = n ∧ ∃ I1 R1, σ1 = mS t b σ0 I1 R1 ∧ R1 = Rw ∧ kpI [0, 6, 7, 8] I I1 ∧ (I1 0).toInt = cd2 ((0 ≤ ca ∧ ca < (I 5).toInt) ∧ 0 ≤ co ∧ co < (I 5).toInt) ((-2000 ≤ fr ∧ fr ≤ 2000) ∧ fr ≤ to ∧ to ≤ 2000) ∧ ((I1 0).toInt = 0 → z.toInt = nyN (rowM Rw ca) (rowM Rw co) fr (to + 1 - fr).toNat))) X w dX9_newYears_46 (rfl) ⟨rfl, _, _, rfl, rfl, by exact ⟨z_43.1.wk (by decide), z_43.2.1.trans (cd2_2 ⟨k_5, k_13⟩ (fun q => k_26 q.1)).symm, fun q => absurd (z_43.2.1.symm.trans q) (by decide)⟩⟩
      · skip
        rw [z_23] at c_26
        have k_26 := bI_t.mp c_26
        refine lv_iload hx hb dX9_newYears_29 (lv_at hl 4 rfl) ?_
        refine lv_iload_n hx hb dX9_newYears_31 rfl (lv_at hl 3 rfl) ?_
        refine lv_sipush (v := 2000) hx hb dX9_newYears_32 (by decide) ?_
        refine q_cPS X w (c_X9_isBetween l a_to a_fr 2000 to fr 2000 e_to e_fr (show (2000 : Int32).toInt = 2000 from rfl) D t b n (mS t b σ0 I Rw)) v_X9_70 rfl ⟨Nat.le_of_ble_eq_true rfl, Nat.le_of_ble_eq_true rfl⟩ rfl hl.1 (Nat.le_of_ble_eq_true rfl) dX9_newYears_35 ⟨Nat.zero_le _, Nat.zero_le _⟩ (fun r_35 z_35 => ?_)
        refine lv_if_ne (tgt := 47) hx hb dX9_newYears_38 (by decide) (fun c_38 => ?_) (fun c_38 => ?_)
        · skip
          rw [z_35] at c_38
          have k_38 := bI_t.mp c_38
          refine lv_aload_n hx hb dX9_newYears_47 rfl (lv_at hl 0 rfl) ?_
          refine lv_iconst (v := 0) hx hb dX9_newYears_48 (by decide) ?_
          refine mp_thrown (v := 0) X w dX9_newYears_49 (fun H locs w => ?_)
          refine lv_iconst (v := 0) hx hb dX9_newYears_52 (by decide) ?_
          refine lv_istore (lv' := [(5, .int 0), (0, .ref (b + 45)), (1, .int a_ca), (2, .int a_co), (3, .int a_fr), (4, .int a_to)]) hx hb dX9_newYears_53 hl (by decide) rfl (fun ls hl => ?_)
          refine lv_iload_n hx hb dX9_newYears_55 rfl (lv_at hl 4 rfl) ?_
          refine lv_istore (lv' := [(6, .int a_fr), (5, .int 0), (0, .ref (b + 45)), (1, .int a_ca), (2, .int a_co), (3, .int a_fr), (4, .int a_to)]) hx hb dX9_newYears_56 hl (by decide) rfl (fun ls hl => ?_)
          refine q_loop (α := Int32 × Int32 × Int × Int) (fun a => a.1.toInt = a.2.2.1 ∧ a.2.1.toInt = a.2.2.2 ∧ ((fr ≤ a.2.2.2 ∧ a.2.2.2 ≤ to + 1) ∧ a.2.2.1 = nyN (rowM Rw ca) (rowM Rw co) fr (a.2.2.2 - fr).toNat ∧ (0 ≤ a.2.2.1 ∧ a.2.2.1 ≤ a.2.2.2 - fr))) (fun a => (to + 1 - a.2.2.2).toNat) (fun a => ∀ ls : Array Slot, lv_has ls 9 [(6, .int a.2.1), (5, .int a.1), (0, .ref (b + 45)), (1, .int a_ca), (2, .int a_co), (3, .int a_fr), (4, .int a_to)] → W p l e (qR 3 0 0) s m args below meth c H locs 0 0 (MQ below (va_Qi (S := Nat × qM) (fun z u => (fun z n1 σ1 => n1 = n ∧ ∃ I1 R1, σ1 = mS t b σ0 I1 R1 ∧ R1 = Rw ∧ kpI [0, 6, 7, 8] I I1 ∧ (I1 0).toInt = cd2 ((0 ≤ ca ∧ ca < (I 5).toInt) ∧ 0 ≤ co ∧ co < (I 5).toInt) ((-2000 ≤ fr ∧ fr ≤ 2000) ∧ fr ≤ to ∧ to ≤ 2000) ∧ ((I1 0).toInt = 0 → z.toInt = nyN (rowM Rw ca) (rowM Rw co) fr (to + 1 - fr).toNat)) z u.1 u.2) (fun u T => WB D b u.1 u.2 T.heap) (fun q => b ≤ q)) args s 0 0 (fun q => b ≤ q)) (F0 m 58 ls [])) ?_ ⟨0, a_fr, 0, fr⟩ ⟨(show (0 : Int32).toInt = 0 from rfl), e_fr, by dsimp only; exact ⟨by omega, by rw [show (fr - fr).toNat = 0 by omega]; rfl, by omega⟩⟩ ls (lv_sub hl [0, 1, 2, 3, 4, 5, 6] rfl)
          rintro ⟨v_cn, v_y, cn, y⟩ ⟨q_cn, q_y, inv_58⟩ ih_58 ls hl
          dsimp only at q_cn q_y inv_58 hl
          refine lv_iload hx hb dX9_newYears_58 (lv_at hl 0 rfl) ?_
          refine lv_iload hx hb dX9_newYears_60 (lv_at hl 6 rfl) ?_
          refine lv_icmp_gt (tgt := 119) hx hb dX9_newYears_62 (by decide) (fun c_62 => ?_) (fun c_62 => ?_)
          · skip
            have k_62 : to < y := (g_lt e_to q_y).mp c_62
            refine lv_iload hx hb dX9_newYears_119 (lv_at hl 1 rfl) ?_
            exact q_cret (post := (fun z n1 σ1 => n1 = n ∧ ∃ I1 R1, σ1 = mS t b σ0 I1 R1 ∧ R1 = Rw ∧ kpI [0, 6, 7, 8] I I1 ∧ (I1 0).toInt = cd2 ((0 ≤ ca ∧ ca < (I 5).toInt) ∧ 0 ≤ co ∧ co < (I 5).toInt) ((-2000 ≤ fr ∧ fr ≤ 2000) ∧ fr ≤ to ∧ to ≤ 2000) ∧ ((I1 0).toInt = 0 → z.toInt = nyN (rowM Rw ca) (rowM Rw co) fr (to + 1 - fr).toNat))) X w dX9_newYears_121 (rfl) ⟨rfl, _, _, rfl, rfl, by exact ⟨kpI.up (J := [0,6,7,8]) kpI.rf (by decide), (by rw [cd2_0 ⟨k_5, k_13⟩ ⟨k_26, k_38⟩]; rfl), fun _ => by rw [q_cn, inv_58.2.1, show y = to + 1 by omega]⟩⟩
          · skip
            have k_62 : ¬ (to < y) := fun h => c_62 ((g_lt e_to q_y).mpr h)
            refine lv_aload_n hx hb dX9_newYears_65 rfl (lv_at hl 2 rfl) ?_
            refine lv_iload_n hx hb dX9_newYears_66 rfl (lv_at hl 3 rfl) ?_
            refine lv_iload hx hb dX9_newYears_67 (lv_at hl 0 rfl) ?_
            refine q_cPV X w (c_X9_first l D t b n σ0 (va_up I 0 0) Rw a_ca v_y ca y e_ca q_y (by first | assumption | omega) (by first | assumption | omega) (by first | assumption | omega)) v_X9_101 (k := 45) rfl rfl rfl ⟨Nat.le_of_ble_eq_true rfl, Nat.le_of_ble_eq_true rfl⟩ rfl hl.1 (Nat.le_of_ble_eq_true rfl) dX9_newYears_69 ⟨Nat.zero_le _, Nat.zero_le _⟩ (fun r_69 z_69 => ?_)
            refine lv_istore (lv' := [(7, .int r_69), (6, .int v_y), (5, .int v_cn), (0, .ref (b + 45)), (1, .int a_ca), (2, .int a_co), (3, .int a_fr), (4, .int a_to)]) hx hb dX9_newYears_72 hl (by decide) rfl (fun ls hl => ?_)
            refine lv_aload_n hx hb dX9_newYears_74 rfl (lv_at hl 3 rfl) ?_
            refine lv_iload_n hx hb dX9_newYears_75 rfl (lv_at hl 5 rfl) ?_
            refine lv_iload hx hb dX9_newYears_76 (lv_at hl 0 rfl) ?_
            refine q_cPV X w (c_X9_yearOf l D t b n σ0 (va_up I 0 0) Rw a_co r_69 co (fst (rowM Rw ca) y) e_co z_69 (by omega) (by exact hq2) (by exact hF2)) v_X9_124 (k := 45) rfl rfl rfl ⟨Nat.le_of_ble_eq_true rfl, Nat.le_of_ble_eq_true rfl⟩ rfl hl.1 (Nat.le_of_ble_eq_true rfl) dX9_newYears_78 ⟨Nat.zero_le _, Nat.zero_le _⟩ (fun r_78 z_78 => ?_)
            refine lv_istore (lv' := [(8, .int r_78), (7, .int r_69), (6, .int v_y), (5, .int v_cn), (0, .ref (b + 45)), (1, .int a_ca), (2, .int a_co), (3, .int a_fr), (4, .int a_to)]) hx hb dX9_newYears_81 hl (by decide) rfl (fun ls hl => ?_)
            refine lv_iload hx hb dX9_newYears_83 (lv_at hl 3 rfl) ?_
            refine lv_iload hx hb dX9_newYears_85 (lv_at hl 0 rfl) ?_
            refine q_cPS X w (c_X9_isYear l r_78 (yof (rowM Rw co) (fst (rowM Rw ca) y)) z_78 D t b n (mS t b σ0 (va_up I 0 0) Rw)) v_X9_110 rfl ⟨Nat.le_of_ble_eq_true rfl, Nat.le_of_ble_eq_true rfl⟩ rfl hl.1 (Nat.le_of_ble_eq_true rfl) dX9_newYears_87 ⟨Nat.zero_le _, Nat.zero_le _⟩ (fun r_87 z_87 => ?_)
            refine lv_if_eq (tgt := 109) hx hb dX9_newYears_90 (by decide) (fun c_90 => ?_) (fun c_90 => ?_)
            · skip
              rw [z_87] at c_90
              have k_90 := bI_f.mp c_90
              refine lv_iconst (v := 0) hx hb dX9_newYears_109 (by decide) ?_
              refine lv_iadd hx hb dX9_newYears_110 ?_
              refine lv_topi (fun x_110 e_110 => ?_)
              have p_110 : x_110.toInt = (cn + 0) := by rw [e_110]; exact t_add q_cn (show (0 : Int32).toInt = 0 from rfl) (by omega) (by omega)
              refine lv_istore (lv' := [(5, .int x_110), (8, .int r_78), (7, .int r_69), (6, .int v_y), (0, .ref (b + 45)), (1, .int a_ca), (2, .int a_co), (3, .int a_fr), (4, .int a_to)]) hx hb dX9_newYears_111 hl (by decide) rfl (fun ls hl => ?_)
              obtain ⟨x_113, e_113⟩ : ∃ z : Int32, z = (v_y + 1) := ⟨_, rfl⟩
              have p_113 : x_113.toInt = (y + 1) := by rw [e_113]; exact t_add q_y (show (1 : Int32).toInt = 1 from rfl) (by omega) (by omega)
              refine lv_iinc (v := x_113) (lv' := [(6, .int x_113), (5, .int x_110), (8, .int r_78), (7, .int r_69), (0, .ref (b + 45)), (1, .int a_ca), (2, .int a_co), (3, .int a_fr), (4, .int a_to)]) hx hb dX9_newYears_113 hl (k := 3) rfl (by rw [e_113]; rfl) (by decide) rfl (fun ls hl => ?_)
              refine lv_goto (tgt := 58) hx hb dX9_newYears_116 (by decide) ?_
              refine ih_58 ⟨x_110, x_113, (cn + 0), (y + 1)⟩ ⟨p_110, p_113, by dsimp only; refine ⟨by omega, ?_, by omega⟩; rw [nyN_s (by omega), ← inv_58.2.1]; unfold nyc; rw [if_neg (fun q => k_90 q.1)]⟩ (by dsimp only; omega) ls (lv_sub hl [0, 1, 4, 5, 6, 7, 8] rfl)
            · skip
              rw [z_87] at c_90
              have k_90 := bI_t.mp c_90
              refine lv_aload_n hx hb dX9_newYears_93 rfl (lv_at hl 4 rfl) ?_
              refine lv_iload_n hx hb dX9_newYears_94 rfl (lv_at hl 6 rfl) ?_
              refine lv_iload hx hb dX9_newYears_95 (lv_at hl 0 rfl) ?_
              refine q_cPV X w (c_X9_first l D t b n σ0 (va_up I 0 0) Rw a_co r_78 co (yof (rowM Rw co) (fst (rowM Rw ca) y)) e_co z_78 (by omega) (by exact hF2) (by omega)) v_X9_101 (k := 45) rfl rfl rfl ⟨Nat.le_of_ble_eq_true rfl, Nat.le_of_ble_eq_true rfl⟩ rfl hl.1 (Nat.le_of_ble_eq_true rfl) dX9_newYears_97 ⟨Nat.zero_le _, Nat.zero_le _⟩ (fun r_97 z_97 => ?_)
              refine lv_iload hx hb dX9_newYears_100 (lv_at hl 1 rfl) ?_
              refine lv_icmp_ne (tgt := 109) hx hb dX9_newYears_102 (by decide) (fun c_102 => ?_) (fun c_102 => ?_)
              · skip
                have k_102 : ¬ ((fst (rowM Rw co) (yof (rowM Rw co) (fst (rowM Rw ca) y))) = (fst (rowM Rw ca) y)) := fun h => c_102 ((g_eq z_97 z_69).mpr h)
                refine lv_iconst (v := 0) hx hb dX9_newYears_109 (by decide) ?_
                refine lv_iadd hx hb dX9_newYears_110 ?_
                refine lv_topi (fun x_110 e_110 => ?_)
                have p_110 : x_110.toInt = (cn + 0) := by rw [e_110]; exact t_add q_cn (show (0 : Int32).toInt = 0 from rfl) (by omega) (by omega)
                refine lv_istore (lv' := [(5, .int x_110), (8, .int r_78), (7, .int r_69), (6, .int v_y), (0, .ref (b + 45)), (1, .int a_ca), (2, .int a_co), (3, .int a_fr), (4, .int a_to)]) hx hb dX9_newYears_111 hl (by decide) rfl (fun ls hl => ?_)
                obtain ⟨x_113, e_113⟩ : ∃ z : Int32, z = (v_y + 1) := ⟨_, rfl⟩
                have p_113 : x_113.toInt = (y + 1) := by rw [e_113]; exact t_add q_y (show (1 : Int32).toInt = 1 from rfl) (by omega) (by omega)
                refine lv_iinc (v := x_113) (lv' := [(6, .int x_113), (5, .int x_110), (8, .int r_78), (7, .int r_69), (0, .ref (b + 45)), (1, .int a_ca), (2, .int a_co), (3, .int a_fr), (4, .int a_to)]) hx hb dX9_newYears_113 hl (k := 3) rfl (by rw [e_113]; rfl) (by decide) rfl (fun ls hl => ?_)
                refine lv_goto (tgt := 58) hx hb dX9_newYears_116 (by decide) ?_
                refine ih_58 ⟨x_110, x_113, (cn + 0), (y + 1)⟩ ⟨p_110, p_113, by dsimp only; refine ⟨by omega, ?_, by omega⟩; rw [nyN_s (by omega), ← inv_58.2.1]; unfold nyc; rw [if_neg (fun q => k_102 q.2)]⟩ (by dsimp only; omega) ls (lv_sub hl [0, 1, 4, 5, 6, 7, 8] rfl)
              · skip
                have k_102 : (fst (rowM Rw co) (yof (rowM Rw co) (fst (rowM Rw ca) y))) = (fst (rowM Rw ca) y) := (g_eq z_97 z_69).mp c_102
                refine lv_iconst (v := 1) hx hb dX9_newYears_105 (by decide) ?_
                refine lv_goto (tgt := 110) hx hb dX9_newYears_106 (by decide) ?_
                refine lv_iadd hx hb dX9_newYears_110 ?_
                refine lv_topi (fun x_110 e_110 => ?_)
                have p_110 : x_110.toInt = (cn + 1) := by rw [e_110]; exact t_add q_cn (show (1 : Int32).toInt = 1 from rfl) (by omega) (by omega)
                refine lv_istore (lv' := [(5, .int x_110), (8, .int r_78), (7, .int r_69), (6, .int v_y), (0, .ref (b + 45)), (1, .int a_ca), (2, .int a_co), (3, .int a_fr), (4, .int a_to)]) hx hb dX9_newYears_111 hl (by decide) rfl (fun ls hl => ?_)
                obtain ⟨x_113, e_113⟩ : ∃ z : Int32, z = (v_y + 1) := ⟨_, rfl⟩
                have p_113 : x_113.toInt = (y + 1) := by rw [e_113]; exact t_add q_y (show (1 : Int32).toInt = 1 from rfl) (by omega) (by omega)
                refine lv_iinc (v := x_113) (lv' := [(6, .int x_113), (5, .int x_110), (8, .int r_78), (7, .int r_69), (0, .ref (b + 45)), (1, .int a_ca), (2, .int a_co), (3, .int a_fr), (4, .int a_to)]) hx hb dX9_newYears_113 hl (k := 3) rfl (by rw [e_113]; rfl) (by decide) rfl (fun ls hl => ?_)
                refine lv_goto (tgt := 58) hx hb dX9_newYears_116 (by decide) ?_
                refine ih_58 ⟨x_110, x_113, (cn + 1), (y + 1)⟩ ⟨p_110, p_113, by dsimp only; refine ⟨by omega, ?_, by omega⟩; rw [nyN_s (by omega), ← inv_58.2.1]; unfold nyc; rw [if_pos ⟨k_90, k_102⟩]⟩ (by dsimp only; omega) ls (lv_sub hl [0, 1, 4, 5, 6, 7, 8] rfl)
        · skip
          rw [z_35] at c_38
          have k_38 := bI_f.mp c_38
          refine lv_aload_n hx hb dX9_newYears_41 rfl (lv_at hl 0 rfl) ?_
          refine lv_iconst (v := 2) hx hb dX9_newYears_42 (by decide) ?_
          refine mm_cCI X w (c_X9_fails l D t b n σ0 I Rw 2 2 (show (2 : Int32).toInt = 2 from rfl)) v_X9_143 rfl rfl ⟨Nat.le_of_ble_eq_true rfl, Nat.le_of_ble_eq_true rfl⟩ rfl hl.1 (Nat.le_of_ble_eq_true rfl) dX9_newYears_43 ⟨Nat.zero_le _, Nat.zero_le _⟩ (fun r_43 I_43 H locs z_43 w => ?_)
          exact q_cret (post := (fun z n1 σ1 => n1 = n ∧ ∃ I1 R1, σ1 = mS t b σ0 I1 R1 ∧ R1 = Rw ∧ kpI [0, 6, 7, 8] I I1 ∧ (I1 0).toInt = cd2 ((0 ≤ ca ∧ ca < (I 5).toInt) ∧ 0 ≤ co ∧ co < (I 5).toInt) ((-2000 ≤ fr ∧ fr ≤ 2000) ∧ fr ≤ to ∧ to ≤ 2000) ∧ ((I1 0).toInt = 0 → z.toInt = nyN (rowM Rw ca) (rowM Rw co) fr (to + 1 - fr).toNat))) X w dX9_newYears_46 (rfl) ⟨rfl, _, _, rfl, rfl, by exact ⟨z_43.1.wk (by decide), z_43.2.1.trans (cd2_2 ⟨k_5, k_13⟩ (fun q => k_38 q.2)).symm, fun q => absurd (z_43.2.1.symm.trans q) (by decide)⟩⟩
    · skip
      rw [z_10] at c_13
      have k_13 := bI_f.mp c_13
      refine lv_aload_n hx hb dX9_newYears_16 rfl (lv_at hl 0 rfl) ?_
      refine lv_iconst (v := 1) hx hb dX9_newYears_17 (by decide) ?_
      refine mm_cCI X w (c_X9_fails l D t b n σ0 I Rw 1 1 (show (1 : Int32).toInt = 1 from rfl)) v_X9_143 rfl rfl ⟨Nat.le_of_ble_eq_true rfl, Nat.le_of_ble_eq_true rfl⟩ rfl hl.1 (Nat.le_of_ble_eq_true rfl) dX9_newYears_18 ⟨Nat.zero_le _, Nat.zero_le _⟩ (fun r_18 I_18 H locs z_18 w => ?_)
      exact q_cret (post := (fun z n1 σ1 => n1 = n ∧ ∃ I1 R1, σ1 = mS t b σ0 I1 R1 ∧ R1 = Rw ∧ kpI [0, 6, 7, 8] I I1 ∧ (I1 0).toInt = cd2 ((0 ≤ ca ∧ ca < (I 5).toInt) ∧ 0 ≤ co ∧ co < (I 5).toInt) ((-2000 ≤ fr ∧ fr ≤ 2000) ∧ fr ≤ to ∧ to ≤ 2000) ∧ ((I1 0).toInt = 0 → z.toInt = nyN (rowM Rw ca) (rowM Rw co) fr (to + 1 - fr).toNat))) X w dX9_newYears_21 (rfl) ⟨rfl, _, _, rfl, rfl, by exact ⟨z_18.1.wk (by decide), z_18.2.1.trans (cd2_1 (fun q => k_13 q.2)).symm, fun q => absurd (z_18.2.1.symm.trans q) (by decide)⟩⟩

set_option maxHeartbeats 4000000 in
set_option maxRecDepth 100000 in
theorem c_X9_reading (l : Launch) (D : va_G) (t : Nat → ClassId) (b n : Nat) (σ0 : qM) (I : Nat → Int32) (Rw : Nat → Nat → Int32) (a_ix : Int32) (a_part : Int32) (ix : Int) (part : Int) (e_ix : a_ix.toInt = ix) (e_part : a_part.toInt = part) (h_1 : 0 ≤ (I 23).toInt ∧ (I 23).toInt ≤ 18) : mC l yX9_reading cX9_reading 3 (some .int) 1 D t b n σ0 I Rw [.ref (b + 45), .int a_ix, .int a_part] (fun z I1 R1 => R1 = Rw ∧ kpI [0, 6, 7, 8] I I1 ∧ (I1 0).toInt = cd2 (0 ≤ ix ∧ ix ≤ (I 23).toInt - 1) (0 ≤ part ∧ part ≤ 2) ∧ ((I1 0).toInt = 0 → z.toInt = (if part = 0 then (Rw 20 ix.toNat).toInt else if part = 1 then (Rw 21 ix.toNat).toInt else (Rw 22 ix.toNat).toInt))) := by
  refine qC.of (by decide +kernel) (Nat.le_of_ble_eq_true rfl) (fun p e s m args below meth c X w ls hl => ?_)
  have hx := X.1
  have hb := X.2.1
  have hl : lv_has ls 3 [(0, .ref (b + 45)), (1, .int a_ix), (2, .int a_part)] := hl
  refine lv_iload_n hx hb dX9_reading_0 rfl (lv_at hl 1 rfl) ?_
  refine lv_iconst (v := 0) hx hb dX9_reading_1 (by decide) ?_
  refine lv_aload_n hx hb dX9_reading_2 rfl (lv_at hl 0 rfl) ?_
  refine mg_readingMany X w dX9_reading_3 ?_
  refine lv_iconst (v := 1) hx hb dX9_reading_6 (by decide) ?_
  refine lv_isub hx hb dX9_reading_7 ?_
  refine lv_topi (fun x_7 e_7 => ?_)
  have p_7 : x_7.toInt = (((I 23).toInt) - 1) := by rw [e_7]; exact t_sub rfl (show (1 : Int32).toInt = 1 from rfl) (by omega) (by omega)
  refine q_cPS X w (c_X9_isBetween l a_ix 0 x_7 ix 0 (((I 23).toInt) - 1) e_ix (show (0 : Int32).toInt = 0 from rfl) p_7 D t b n (mS t b σ0 I Rw)) v_X9_70 rfl ⟨Nat.le_of_ble_eq_true rfl, Nat.le_of_ble_eq_true rfl⟩ rfl hl.1 (Nat.le_of_ble_eq_true rfl) dX9_reading_8 ⟨Nat.zero_le _, Nat.zero_le _⟩ (fun r_8 z_8 => ?_)
  refine lv_if_ne (tgt := 20) hx hb dX9_reading_11 (by decide) (fun c_11 => ?_) (fun c_11 => ?_)
  · skip
    rw [z_8] at c_11
    have k_11 := bI_t.mp c_11
    refine lv_iload_n hx hb dX9_reading_20 rfl (lv_at hl 2 rfl) ?_
    refine lv_iconst (v := 0) hx hb dX9_reading_21 (by decide) ?_
    refine lv_iconst (v := 2) hx hb dX9_reading_22 (by decide) ?_
    refine q_cPS X w (c_X9_isBetween l a_part 0 2 part 0 2 e_part (show (0 : Int32).toInt = 0 from rfl) (show (2 : Int32).toInt = 2 from rfl) D t b n (mS t b σ0 I Rw)) v_X9_70 rfl ⟨Nat.le_of_ble_eq_true rfl, Nat.le_of_ble_eq_true rfl⟩ rfl hl.1 (Nat.le_of_ble_eq_true rfl) dX9_reading_23 ⟨Nat.zero_le _, Nat.zero_le _⟩ (fun r_23 z_23 => ?_)
    refine lv_if_ne (tgt := 35) hx hb dX9_reading_26 (by decide) (fun c_26 => ?_) (fun c_26 => ?_)
    · skip
      rw [z_23] at c_26
      have k_26 := bI_t.mp c_26
      refine lv_aload_n hx hb dX9_reading_35 rfl (lv_at hl 0 rfl) ?_
      refine lv_iconst (v := 0) hx hb dX9_reading_36 (by decide) ?_
      refine mp_thrown (v := 0) X w dX9_reading_37 (fun H locs w => ?_)
      refine lv_iload_n hx hb dX9_reading_40 rfl (lv_at hl 2 rfl) ?_
      refine lv_if_ne (tgt := 53) hx hb dX9_reading_41 (by decide) (fun c_41 => ?_) (fun c_41 => ?_)
      · skip
        have k_41 : ¬ (part = 0) := fun h => c_41 ((g_eq e_part (show (0 : Int32).toInt = 0 from rfl)).mpr h)
        refine lv_iload_n hx hb dX9_reading_53 rfl (lv_at hl 2 rfl) ?_
        refine lv_iconst (v := 1) hx hb dX9_reading_54 (by decide) ?_
        refine lv_icmp_ne (tgt := 67) hx hb dX9_reading_55 (by decide) (fun c_55 => ?_) (fun c_55 => ?_)
        · skip
          have k_55 : ¬ (part = 1) := fun h => c_55 ((g_eq e_part (show (1 : Int32).toInt = 1 from rfl)).mpr h)
          refine lv_aload_n hx hb dX9_reading_67 rfl (lv_at hl 0 rfl) ?_
          refine mg_readingDay X w dX9_reading_68 ?_
          refine lv_iload_n hx hb dX9_reading_71 rfl (lv_at hl 1 rfl) ?_
          refine ml_readingDay X w (g_in e_ix (by omega)) dX9_reading_72 ?_
          refine q_topE (y := Rw 22 ix.toNat) (congrArg (Rw 22) (g_tn e_ix)) ?_
          exact q_cret (post := (fun z n1 σ1 => n1 = n ∧ ∃ I1 R1, σ1 = mS t b σ0 I1 R1 ∧ R1 = Rw ∧ kpI [0, 6, 7, 8] I I1 ∧ (I1 0).toInt = cd2 (0 ≤ ix ∧ ix ≤ (I 23).toInt - 1) (0 ≤ part ∧ part ≤ 2) ∧ ((I1 0).toInt = 0 → z.toInt = (if part = 0 then (Rw 20 ix.toNat).toInt else if part = 1 then (Rw 21 ix.toNat).toInt else (Rw 22 ix.toNat).toInt)))) X w dX9_reading_73 (rfl) ⟨rfl, _, _, rfl, rfl, by exact ⟨kpI.up (J := [0,6,7,8]) kpI.rf (by decide), (by rw [cd2_0 k_11 k_26]; rfl), fun _ => by rw [if_neg k_41, if_neg k_55]⟩⟩
        · skip
          have k_55 : part = 1 := (g_eq e_part (show (1 : Int32).toInt = 1 from rfl)).mp c_55
          refine lv_aload_n hx hb dX9_reading_58 rfl (lv_at hl 0 rfl) ?_
          refine mg_readingOrder X w dX9_reading_59 ?_
          refine lv_iload_n hx hb dX9_reading_62 rfl (lv_at hl 1 rfl) ?_
          refine ml_readingOrder X w (g_in e_ix (by omega)) dX9_reading_63 ?_
          refine q_topE (y := Rw 21 ix.toNat) (congrArg (Rw 21) (g_tn e_ix)) ?_
          refine lv_goto (tgt := 73) hx hb dX9_reading_64 (by decide) ?_
          exact q_cret (post := (fun z n1 σ1 => n1 = n ∧ ∃ I1 R1, σ1 = mS t b σ0 I1 R1 ∧ R1 = Rw ∧ kpI [0, 6, 7, 8] I I1 ∧ (I1 0).toInt = cd2 (0 ≤ ix ∧ ix ≤ (I 23).toInt - 1) (0 ≤ part ∧ part ≤ 2) ∧ ((I1 0).toInt = 0 → z.toInt = (if part = 0 then (Rw 20 ix.toNat).toInt else if part = 1 then (Rw 21 ix.toNat).toInt else (Rw 22 ix.toNat).toInt)))) X w dX9_reading_73 (rfl) ⟨rfl, _, _, rfl, rfl, by exact ⟨kpI.up (J := [0,6,7,8]) kpI.rf (by decide), (by rw [cd2_0 k_11 k_26]; rfl), fun _ => by rw [if_neg k_41, if_pos k_55]⟩⟩
      · skip
        have k_41 : part = 0 := (g_eq e_part (show (0 : Int32).toInt = 0 from rfl)).mp c_41
        refine lv_aload_n hx hb dX9_reading_44 rfl (lv_at hl 0 rfl) ?_
        refine mg_readingCalendar X w dX9_reading_45 ?_
        refine lv_iload_n hx hb dX9_reading_48 rfl (lv_at hl 1 rfl) ?_
        refine ml_readingCalendar X w (g_in e_ix (by omega)) dX9_reading_49 ?_
        refine q_topE (y := Rw 20 ix.toNat) (congrArg (Rw 20) (g_tn e_ix)) ?_
        refine lv_goto (tgt := 73) hx hb dX9_reading_50 (by decide) ?_
        exact q_cret (post := (fun z n1 σ1 => n1 = n ∧ ∃ I1 R1, σ1 = mS t b σ0 I1 R1 ∧ R1 = Rw ∧ kpI [0, 6, 7, 8] I I1 ∧ (I1 0).toInt = cd2 (0 ≤ ix ∧ ix ≤ (I 23).toInt - 1) (0 ≤ part ∧ part ≤ 2) ∧ ((I1 0).toInt = 0 → z.toInt = (if part = 0 then (Rw 20 ix.toNat).toInt else if part = 1 then (Rw 21 ix.toNat).toInt else (Rw 22 ix.toNat).toInt)))) X w dX9_reading_73 (rfl) ⟨rfl, _, _, rfl, rfl, by exact ⟨kpI.up (J := [0,6,7,8]) kpI.rf (by decide), (by rw [cd2_0 k_11 k_26]; rfl), fun _ => by rw [if_pos k_41]⟩⟩
    · skip
      rw [z_23] at c_26
      have k_26 := bI_f.mp c_26
      refine lv_aload_n hx hb dX9_reading_29 rfl (lv_at hl 0 rfl) ?_
      refine lv_iconst (v := 2) hx hb dX9_reading_30 (by decide) ?_
      refine mm_cCI X w (c_X9_fails l D t b n σ0 I Rw 2 2 (show (2 : Int32).toInt = 2 from rfl)) v_X9_143 rfl rfl ⟨Nat.le_of_ble_eq_true rfl, Nat.le_of_ble_eq_true rfl⟩ rfl hl.1 (Nat.le_of_ble_eq_true rfl) dX9_reading_31 ⟨Nat.zero_le _, Nat.zero_le _⟩ (fun r_31 I_31 H locs z_31 w => ?_)
      exact q_cret (post := (fun z n1 σ1 => n1 = n ∧ ∃ I1 R1, σ1 = mS t b σ0 I1 R1 ∧ R1 = Rw ∧ kpI [0, 6, 7, 8] I I1 ∧ (I1 0).toInt = cd2 (0 ≤ ix ∧ ix ≤ (I 23).toInt - 1) (0 ≤ part ∧ part ≤ 2) ∧ ((I1 0).toInt = 0 → z.toInt = (if part = 0 then (Rw 20 ix.toNat).toInt else if part = 1 then (Rw 21 ix.toNat).toInt else (Rw 22 ix.toNat).toInt)))) X w dX9_reading_34 (rfl) ⟨rfl, _, _, rfl, rfl, by exact ⟨z_31.1.wk (by decide), z_31.2.1.trans (cd2_2 k_11 k_26).symm, fun q => absurd (z_31.2.1.symm.trans q) (by decide)⟩⟩
  · skip
    rw [z_8] at c_11
    have k_11 := bI_f.mp c_11
    refine lv_aload_n hx hb dX9_reading_14 rfl (lv_at hl 0 rfl) ?_
    refine lv_iconst (v := 1) hx hb dX9_reading_15 (by decide) ?_
    refine mm_cCI X w (c_X9_fails l D t b n σ0 I Rw 1 1 (show (1 : Int32).toInt = 1 from rfl)) v_X9_143 rfl rfl ⟨Nat.le_of_ble_eq_true rfl, Nat.le_of_ble_eq_true rfl⟩ rfl hl.1 (Nat.le_of_ble_eq_true rfl) dX9_reading_16 ⟨Nat.zero_le _, Nat.zero_le _⟩ (fun r_16 I_16 H locs z_16 w => ?_)
    exact q_cret (post := (fun z n1 σ1 => n1 = n ∧ ∃ I1 R1, σ1 = mS t b σ0 I1 R1 ∧ R1 = Rw ∧ kpI [0, 6, 7, 8] I I1 ∧ (I1 0).toInt = cd2 (0 ≤ ix ∧ ix ≤ (I 23).toInt - 1) (0 ≤ part ∧ part ≤ 2) ∧ ((I1 0).toInt = 0 → z.toInt = (if part = 0 then (Rw 20 ix.toNat).toInt else if part = 1 then (Rw 21 ix.toNat).toInt else (Rw 22 ix.toNat).toInt)))) X w dX9_reading_19 (rfl) ⟨rfl, _, _, rfl, rfl, by exact ⟨z_16.1.wk (by decide), z_16.2.1.trans (cd2_1 k_11).symm, fun q => absurd (z_16.2.1.symm.trans q) (by decide)⟩⟩

set_option maxHeartbeats 4000000 in
set_option maxRecDepth 100000 in
theorem c_X9_differentDays (l : Launch) (D : va_G) (t : Nat → ClassId) (b n : Nat) (σ0 : qM) (I : Nat → Int32) (Rw : Nat → Nat → Int32) (h_1 : 0 ≤ (I 23).toInt ∧ (I 23).toInt ≤ 18) : mC l yX9_differentDays cX9_differentDays 3 (some .int) 0 D t b n σ0 I Rw [.ref (b + 45)] (fun z I1 R1 => R1 = Rw ∧ kpI [0] I I1 ∧ (I1 0).toInt = 0 ∧ z.toInt = ddN (Rw 22) (I 23).toInt.toNat) := by
  refine qC.of (by decide +kernel) (Nat.le_of_ble_eq_true rfl) (fun p e s m args below meth c X w ls hl => ?_)
  have hx := X.1
  have hb := X.2.1
  have hl : lv_has ls 3 [(0, .ref (b + 45))] := hl
  refine lv_aload_n hx hb dX9_differentDays_0 rfl (lv_at hl 0 rfl) ?_
  refine lv_iconst (v := 0) hx hb dX9_differentDays_1 (by decide) ?_
  refine mp_thrown (v := 0) X w dX9_differentDays_2 (fun H locs w => ?_)
  refine lv_iconst (v := 0) hx hb dX9_differentDays_5 (by decide) ?_
  refine lv_istore_n (lv' := [(1, .int 0), (0, .ref (b + 45))]) hx hb dX9_differentDays_6 rfl hl (by decide) rfl (fun ls hl => ?_)
  refine lv_iconst (v := 0) hx hb dX9_differentDays_7 (by decide) ?_
  refine lv_istore_n (lv' := [(2, .int 0), (1, .int 0), (0, .ref (b + 45))]) hx hb dX9_differentDays_8 rfl hl (by decide) rfl (fun ls hl => ?_)
  refine q_loop (α := Int32 × Int32 × Int × Int) (fun a => a.1.toInt = a.2.2.1 ∧ a.2.1.toInt = a.2.2.2 ∧ ((0 ≤ a.2.2.2 ∧ a.2.2.2 ≤ (I 23).toInt) ∧ a.2.2.1 = ddN (Rw 22) a.2.2.2.toNat ∧ (0 ≤ a.2.2.1 ∧ a.2.2.1 ≤ a.2.2.2))) (fun a => ((I 23).toInt - a.2.2.2).toNat) (fun a => ∀ ls : Array Slot, lv_has ls 3 [(2, .int a.2.1), (1, .int a.1), (0, .ref (b + 45))] → W p l e (qR 0 0 0) s m args below meth c H locs 0 0 (MQ below (va_Qi (S := Nat × qM) (fun z u => (fun z n1 σ1 => n1 = n ∧ ∃ I1 R1, σ1 = mS t b σ0 I1 R1 ∧ R1 = Rw ∧ kpI [0] I I1 ∧ (I1 0).toInt = 0 ∧ z.toInt = ddN (Rw 22) (I 23).toInt.toNat) z u.1 u.2) (fun u T => WB D b u.1 u.2 T.heap) (fun q => b ≤ q)) args s 0 0 (fun q => b ≤ q)) (F0 m 9 ls [])) ?_ ⟨0, 0, 0, 0⟩ ⟨(show (0 : Int32).toInt = 0 from rfl), (show (0 : Int32).toInt = 0 from rfl), by dsimp only; exact ⟨by omega, rfl, by omega⟩⟩ ls (lv_sub hl [0, 1, 2] rfl)
  rintro ⟨v_cn, v_k, cn, k⟩ ⟨q_cn, q_k, inv_9⟩ ih_9 ls hl
  dsimp only at q_cn q_k inv_9 hl
  refine lv_iload_n hx hb dX9_differentDays_9 rfl (lv_at hl 0 rfl) ?_
  refine lv_aload_n hx hb dX9_differentDays_10 rfl (lv_at hl 2 rfl) ?_
  refine mg_readingMany X w dX9_differentDays_11 ?_
  refine lv_icmp_ge (tgt := 52) hx hb dX9_differentDays_14 (by decide) (fun c_14 => ?_) (fun c_14 => ?_)
  · skip
    have k_14 : ((I 23).toInt) ≤ k := (g_le (show ((va_up I 0 0) 23).toInt = (I 23).toInt from rfl) q_k).mp c_14
    refine lv_iload_n hx hb dX9_differentDays_52 rfl (lv_at hl 1 rfl) ?_
    exact q_cret (post := (fun z n1 σ1 => n1 = n ∧ ∃ I1 R1, σ1 = mS t b σ0 I1 R1 ∧ R1 = Rw ∧ kpI [0] I I1 ∧ (I1 0).toInt = 0 ∧ z.toInt = ddN (Rw 22) (I 23).toInt.toNat)) X w dX9_differentDays_53 (rfl) ⟨rfl, _, _, rfl, rfl, by exact ⟨kpI.up (J := [0]) kpI.rf (by decide), rfl, by rw [q_cn, inv_9.2.1, show k = (I 23).toInt by omega]⟩⟩
  · skip
    have k_14 : ¬ (((I 23).toInt) ≤ k) := fun h => c_14 ((g_le (show ((va_up I 0 0) 23).toInt = (I 23).toInt from rfl) q_k).mpr h)
    refine lv_iload_n hx hb dX9_differentDays_17 rfl (lv_at hl 1 rfl) ?_
    refine lv_iload_n hx hb dX9_differentDays_18 rfl (lv_at hl 0 rfl) ?_
    refine lv_if_eq (tgt := 39) hx hb dX9_differentDays_19 (by decide) (fun c_19 => ?_) (fun c_19 => ?_)
    · skip
      have k_19 : k = 0 := (g_eq q_k (show (0 : Int32).toInt = 0 from rfl)).mp c_19
      refine lv_iconst (v := 1) hx hb dX9_differentDays_39 (by decide) ?_
      refine lv_goto (tgt := 44) hx hb dX9_differentDays_40 (by decide) ?_
      refine lv_iadd hx hb dX9_differentDays_44 ?_
      refine lv_topi (fun x_44 e_44 => ?_)
      have p_44 : x_44.toInt = (cn + 1) := by rw [e_44]; exact t_add q_cn (show (1 : Int32).toInt = 1 from rfl) (by omega) (by omega)
      refine lv_istore_n (lv' := [(1, .int x_44), (2, .int v_k), (0, .ref (b + 45))]) hx hb dX9_differentDays_45 rfl hl (by decide) rfl (fun ls hl => ?_)
      obtain ⟨x_46, e_46⟩ : ∃ z : Int32, z = (v_k + 1) := ⟨_, rfl⟩
      have p_46 : x_46.toInt = (k + 1) := by rw [e_46]; exact t_add q_k (show (1 : Int32).toInt = 1 from rfl) (by omega) (by omega)
      refine lv_iinc (v := x_46) (lv' := [(2, .int x_46), (1, .int x_44), (0, .ref (b + 45))]) hx hb dX9_differentDays_46 hl (k := 1) rfl (by rw [e_46]; rfl) (by decide) rfl (fun ls hl => ?_)
      refine lv_goto (tgt := 9) hx hb dX9_differentDays_49 (by decide) ?_
      refine ih_9 ⟨x_44, x_46, (cn + 1), (k + 1)⟩ ⟨p_44, p_46, by dsimp only; refine ⟨by omega, ?_, by omega⟩; rw [ddN_s (by omega), ← inv_9.2.1, if_pos (Or.inl k_19)]⟩ (by dsimp only; omega) ls (lv_sub hl [0, 1, 2] rfl)
    · skip
      have k_19 : ¬ (k = 0) := fun h => c_19 ((g_eq q_k (show (0 : Int32).toInt = 0 from rfl)).mpr h)
      refine lv_aload_n hx hb dX9_differentDays_22 rfl (lv_at hl 2 rfl) ?_
      refine mg_readingDay X w dX9_differentDays_23 ?_
      refine lv_iload_n hx hb dX9_differentDays_26 rfl (lv_at hl 0 rfl) ?_
      refine ml_readingDay X w (g_in q_k (by omega)) dX9_differentDays_27 ?_
      refine q_topE (y := Rw 22 k.toNat) (congrArg (Rw 22) (g_tn q_k)) ?_
      refine lv_aload_n hx hb dX9_differentDays_28 rfl (lv_at hl 2 rfl) ?_
      refine mg_readingDay X w dX9_differentDays_29 ?_
      refine lv_iload_n hx hb dX9_differentDays_32 rfl (lv_at hl 0 rfl) ?_
      refine lv_iconst (v := 1) hx hb dX9_differentDays_33 (by decide) ?_
      refine lv_isub hx hb dX9_differentDays_34 ?_
      refine lv_topi (fun x_34 e_34 => ?_)
      have p_34 : x_34.toInt = (k - 1) := by rw [e_34]; exact t_sub q_k (show (1 : Int32).toInt = 1 from rfl) (by omega) (by omega)
      refine ml_readingDay X w (g_in p_34 (by omega)) dX9_differentDays_35 ?_
      refine q_topE (y := Rw 22 (k - 1).toNat) (congrArg (Rw 22) (g_tn p_34)) ?_
      refine lv_icmp_eq (tgt := 43) hx hb dX9_differentDays_36 (by decide) (fun c_36 => ?_) (fun c_36 => ?_)
      · skip
        have k_36 : ((Rw 22 k.toNat).toInt) = ((Rw 22 (k - 1).toNat).toInt) := (g_eq rfl rfl).mp c_36
        refine lv_iconst (v := 0) hx hb dX9_differentDays_43 (by decide) ?_
        refine lv_iadd hx hb dX9_differentDays_44 ?_
        refine lv_topi (fun x_44 e_44 => ?_)
        have p_44 : x_44.toInt = (cn + 0) := by rw [e_44]; exact t_add q_cn (show (0 : Int32).toInt = 0 from rfl) (by omega) (by omega)
        refine lv_istore_n (lv' := [(1, .int x_44), (2, .int v_k), (0, .ref (b + 45))]) hx hb dX9_differentDays_45 rfl hl (by decide) rfl (fun ls hl => ?_)
        obtain ⟨x_46, e_46⟩ : ∃ z : Int32, z = (v_k + 1) := ⟨_, rfl⟩
        have p_46 : x_46.toInt = (k + 1) := by rw [e_46]; exact t_add q_k (show (1 : Int32).toInt = 1 from rfl) (by omega) (by omega)
        refine lv_iinc (v := x_46) (lv' := [(2, .int x_46), (1, .int x_44), (0, .ref (b + 45))]) hx hb dX9_differentDays_46 hl (k := 1) rfl (by rw [e_46]; rfl) (by decide) rfl (fun ls hl => ?_)
        refine lv_goto (tgt := 9) hx hb dX9_differentDays_49 (by decide) ?_
        refine ih_9 ⟨x_44, x_46, (cn + 0), (k + 1)⟩ ⟨p_44, p_46, by dsimp only; refine ⟨by omega, ?_, by omega⟩; rw [ddN_s (by omega), ← inv_9.2.1, if_neg (fun q => q.elim k_19 (fun e => e k_36))]⟩ (by dsimp only; omega) ls (lv_sub hl [0, 1, 2] rfl)
      · skip
        have k_36 : ¬ (((Rw 22 k.toNat).toInt) = ((Rw 22 (k - 1).toNat).toInt)) := fun h => c_36 ((g_eq rfl rfl).mpr h)
        refine lv_iconst (v := 1) hx hb dX9_differentDays_39 (by decide) ?_
        refine lv_goto (tgt := 44) hx hb dX9_differentDays_40 (by decide) ?_
        refine lv_iadd hx hb dX9_differentDays_44 ?_
        refine lv_topi (fun x_44 e_44 => ?_)
        have p_44 : x_44.toInt = (cn + 1) := by rw [e_44]; exact t_add q_cn (show (1 : Int32).toInt = 1 from rfl) (by omega) (by omega)
        refine lv_istore_n (lv' := [(1, .int x_44), (2, .int v_k), (0, .ref (b + 45))]) hx hb dX9_differentDays_45 rfl hl (by decide) rfl (fun ls hl => ?_)
        obtain ⟨x_46, e_46⟩ : ∃ z : Int32, z = (v_k + 1) := ⟨_, rfl⟩
        have p_46 : x_46.toInt = (k + 1) := by rw [e_46]; exact t_add q_k (show (1 : Int32).toInt = 1 from rfl) (by omega) (by omega)
        refine lv_iinc (v := x_46) (lv' := [(2, .int x_46), (1, .int x_44), (0, .ref (b + 45))]) hx hb dX9_differentDays_46 hl (k := 1) rfl (by rw [e_46]; rfl) (by decide) rfl (fun ls hl => ?_)
        refine lv_goto (tgt := 9) hx hb dX9_differentDays_49 (by decide) ?_
        refine ih_9 ⟨x_44, x_46, (cn + 1), (k + 1)⟩ ⟨p_44, p_46, by dsimp only; refine ⟨by omega, ?_, by omega⟩; rw [ddN_s (by omega), ← inv_9.2.1, if_pos (Or.inr k_36)]⟩ (by dsimp only; omega) ls (lv_sub hl [0, 1, 2] rfl)
