set_option maxHeartbeats 4000000 in
set_option maxRecDepth 100000 in
theorem c_X9_setCalendar (l : Launch) (D : va_G) (t : Nat → ClassId) (b n : Nat) (σ0 : qM) (I : Nat → Int32) (Rw : Nat → Nat → Int32) (T : Int → Int) (a_ca : Int32) (ca : Int) (e_ca : a_ca.toInt = ca) (h_1 : T = tx I Rw) (h_2 : 0 ≤ (I 10).toInt ∧ (I 10).toInt ≤ 100) (h_3 : 1 ≤ (I 5).toInt ∧ (I 5).toInt ≤ 6) (h_4 : 0 ≤ (I 28).toInt ∧ (I 28).toInt ≤ 6) : mC l yX9_setCalendar cX9_setCalendar 3 (some .int) 7 D t b n σ0 I Rw [.ref (b + 45), .int a_ca] (fun z I1 R1 => kpI [0, 5, 10, 11, 12, 13, 14, 15, 28, 29, 31] I I1 ∧ (I1 0).toInt = (if 0 ≤ ca ∧ ca ≤ (if (I 5).toInt < 6 then (I 5).toInt else 5) then (if (sCal T (I 10).toInt).1 = true then (if possB (rowQ (sCal T (I 10).toInt).2.2.1) (sCal T (I 10).toInt).2.2.2 = true then 0 else 3) else 2) else 1) ∧ (I1 10).toInt = 0 ∧ (I1 12).toInt = (if 0 ≤ ca ∧ ca ≤ (if (I 5).toInt < 6 then (I 5).toInt else 5) then (if (sCal T (I 10).toInt).1 = true then -1 else (sCal T (I 10).toInt).2.1) else (I 12).toInt) ∧ ((I1 0).toInt ≠ 0 → kpR [3] Rw R1 ∧ I1 5 = I 5 ∧ I1 28 = I 28) ∧ ((I1 0).toInt = 0 → (I1 28).toInt = remC (I 28).toInt + 1 ∧ R1 26 = remR I Rw ∧ kpR [2, 3, 4, 26] Rw R1 ∧ rowM R1 ca = rowQ (sCal T (I 10).toInt).2.2.1 ∧ okRow (rowM R1 ca) ∧ okF R1 ca ∧ (∀ j : Nat, ((j : Int) < 33 * ca ∨ 33 * ca + 33 ≤ (j : Int)) → R1 2 j = Rw 2 j) ∧ (∀ j : Nat, ((j : Int) < 4042 * ca ∨ 4042 * ca + 4042 ≤ (j : Int)) → R1 4 j = Rw 4 j) ∧ (I1 5).toInt = (if ca = (I 5).toInt then (I 5).toInt + 1 else (I 5).toInt) ∧ z.toInt = rv (rowM R1 ca) 0)) := by
  refine qC.of (by decide +kernel) (Nat.le_of_ble_eq_true rfl) (fun p e s m args below meth c X w ls hl => ?_)
  have hx := X.1
  have hb := X.2.1
  have hl : lv_has ls 3 [(0, .ref (b + 45)), (1, .int a_ca)] := hl
  refine lv_iload_n hx hb dX9_setCalendar_0 rfl (lv_at hl 1 rfl) ?_
  refine lv_iconst (v := 0) hx hb dX9_setCalendar_1 (by decide) ?_
  refine lv_aload_n hx hb dX9_setCalendar_2 rfl (lv_at hl 0 rfl) ?_
  refine mg_calendars X w dX9_setCalendar_3 ?_
  refine lv_bipush (v := 6) hx hb dX9_setCalendar_6 (by decide) ?_
  refine lv_icmp_ge (tgt := 18) hx hb dX9_setCalendar_8 (by decide) (fun c_8 => ?_) (fun c_8 => ?_)
  · skip
    have k_8 : 6 ≤ ((I 5).toInt) := (g_le (show (6 : Int32).toInt = 6 from rfl) rfl).mp c_8
    refine lv_iconst (v := 5) hx hb dX9_setCalendar_18 (by decide) ?_
    refine q_cPS X w (c_X9_isBetween l a_ca 0 5 ca 0 5 e_ca (show (0 : Int32).toInt = 0 from rfl) (show (5 : Int32).toInt = 5 from rfl) D t b n (mS t b σ0 I Rw)) v_X9_70 rfl ⟨Nat.le_of_ble_eq_true rfl, Nat.le_of_ble_eq_true rfl⟩ rfl hl.1 (Nat.le_of_ble_eq_true rfl) dX9_setCalendar_19 ⟨Nat.zero_le _, Nat.zero_le _⟩ (fun r_19 z_19 => ?_)
    refine lv_if_ne (tgt := 36) hx hb dX9_setCalendar_22 (by decide) (fun c_22 => ?_) (fun c_22 => ?_)
    · skip
      rw [z_19] at c_22
      have k_22 := bI_t.mp c_22
      refine lv_aload_n hx hb dX9_setCalendar_36 rfl (lv_at hl 0 rfl) ?_
      refine mm_cC X w (c_X9_takesCalendar l D t b n σ0 I Rw T (by exact h_1) (by exact h_2)) v_X9_212 rfl rfl ⟨Nat.le_of_ble_eq_true rfl, Nat.le_of_ble_eq_true rfl⟩ rfl hl.1 (Nat.le_of_ble_eq_true rfl) dX9_setCalendar_37 ⟨Nat.zero_le _, Nat.zero_le _⟩ (fun r_37 I_37 R_37 H locs z_37 w => ?_)
      refine lv_istore_n (lv' := [(2, .int r_37), (0, .ref (b + 45)), (1, .int a_ca)]) hx hb dX9_setCalendar_40 rfl hl (by decide) rfl (fun ls hl => ?_)
      refine lv_aload_n hx hb dX9_setCalendar_41 rfl (lv_at hl 1 rfl) ?_
      refine lv_iconst (v := 0) hx hb dX9_setCalendar_42 (by decide) ?_
      refine mp_length (v := 0) X w dX9_setCalendar_43 (fun H locs w => ?_)
      refine lv_aload_n hx hb dX9_setCalendar_46 rfl (lv_at hl 1 rfl) ?_
      refine lv_iload_n hx hb dX9_setCalendar_47 rfl (lv_at hl 0 rfl) ?_
      refine lv_if_eq (tgt := 55) hx hb dX9_setCalendar_48 (by decide) (fun c_48 => ?_) (fun c_48 => ?_)
      · skip
        rw [(bI_b z_37.2.2.1)] at c_48
        have k_48 := bI_f.mp c_48
        refine lv_aload_n hx hb dX9_setCalendar_55 rfl (lv_at hl 1 rfl) ?_
        refine mg_at X w dX9_setCalendar_56 ?_
        refine mp_faultAt (v := ((va_up I_37 10 0) 11)) X w dX9_setCalendar_59 (fun H locs w => ?_)
        refine lv_iload_n hx hb dX9_setCalendar_62 rfl (lv_at hl 0 rfl) ?_
        refine lv_if_ne (tgt := 72) hx hb dX9_setCalendar_63 (by decide) (fun c_63 => ?_) (fun c_63 => ?_)
        · skip
          rw [(bI_b z_37.2.2.1)] at c_63
          have k_63 := bI_t.mp c_63
          exact absurd k_63 k_48
        · skip
          rw [(bI_b z_37.2.2.1)] at c_63
          have k_63 := bI_f.mp c_63
          refine lv_aload_n hx hb dX9_setCalendar_66 rfl (lv_at hl 1 rfl) ?_
          refine lv_iconst (v := 2) hx hb dX9_setCalendar_67 (by decide) ?_
          refine mm_cCI X w (c_X9_fails l D t b n σ0 (va_up (va_up I_37 10 0) 12 ((va_up I_37 10 0) 11)) R_37 2 2 (show (2 : Int32).toInt = 2 from rfl)) v_X9_143 rfl rfl ⟨Nat.le_of_ble_eq_true rfl, Nat.le_of_ble_eq_true rfl⟩ rfl hl.1 (Nat.le_of_ble_eq_true rfl) dX9_setCalendar_68 ⟨Nat.zero_le _, Nat.zero_le _⟩ (fun r_68 I_68 H locs z_68 w => ?_)
          exact q_cret (post := (fun z n1 σ1 => n1 = n ∧ ∃ I1 R1, σ1 = mS t b σ0 I1 R1 ∧ kpI [0, 5, 10, 11, 12, 13, 14, 15, 28, 29, 31] I I1 ∧ (I1 0).toInt = (if 0 ≤ ca ∧ ca ≤ (if (I 5).toInt < 6 then (I 5).toInt else 5) then (if (sCal T (I 10).toInt).1 = true then (if possB (rowQ (sCal T (I 10).toInt).2.2.1) (sCal T (I 10).toInt).2.2.2 = true then 0 else 3) else 2) else 1) ∧ (I1 10).toInt = 0 ∧ (I1 12).toInt = (if 0 ≤ ca ∧ ca ≤ (if (I 5).toInt < 6 then (I 5).toInt else 5) then (if (sCal T (I 10).toInt).1 = true then -1 else (sCal T (I 10).toInt).2.1) else (I 12).toInt) ∧ ((I1 0).toInt ≠ 0 → kpR [3] Rw R1 ∧ I1 5 = I 5 ∧ I1 28 = I 28) ∧ ((I1 0).toInt = 0 → (I1 28).toInt = remC (I 28).toInt + 1 ∧ R1 26 = remR I Rw ∧ kpR [2, 3, 4, 26] Rw R1 ∧ rowM R1 ca = rowQ (sCal T (I 10).toInt).2.2.1 ∧ okRow (rowM R1 ca) ∧ okF R1 ca ∧ (∀ j : Nat, ((j : Int) < 33 * ca ∨ 33 * ca + 33 ≤ (j : Int)) → R1 2 j = Rw 2 j) ∧ (∀ j : Nat, ((j : Int) < 4042 * ca ∨ 4042 * ca + 4042 ≤ (j : Int)) → R1 4 j = Rw 4 j) ∧ (I1 5).toInt = (if ca = (I 5).toInt then (I 5).toInt + 1 else (I 5).toInt) ∧ z.toInt = rv (rowM R1 ca) 0))) X w dX9_setCalendar_71 (rfl) ⟨rfl, _, _, rfl, by have hL : (if (I 5).toInt < 6 then (I 5).toInt else 5) = 5 := (if_neg (Int.not_lt.mpr k_8)); have hy : 0 ≤ ca ∧ ca ≤ (if (I 5).toInt < 6 then (I 5).toInt else 5) := (by rw [hL]; exact k_22); have hk := kpI.tr (J := [0, 5, 10, 11, 12, 13, 14, 15, 28, 29, 31]) (kpI.up (J := [0, 5, 10, 11, 12, 13, 14, 15, 28, 29, 31]) (kpI.up (J := [0, 5, 10, 11, 12, 13, 14, 15, 28, 29, 31]) (z_37.1.wk (by decide)) (by decide)) (by decide)) z_68.1 (by decide) (by decide); exact ⟨hk, z_68.2.1.trans (by rw [if_pos hy, if_neg k_63]), congrArg Int32.toInt (z_68.1 10 (by decide)), (congrArg Int32.toInt (z_68.1 12 (by decide))).trans (by rw [if_pos hy, if_neg k_63]; exact z_37.2.2.2.1), fun _ => ⟨z_37.2.1, (z_68.1 5 (by decide)).trans (z_37.1 5 (by decide)), (z_68.1 28 (by decide)).trans (z_37.1 28 (by decide))⟩, fun q => absurd (z_68.2.1.symm.trans q) (by decide)⟩⟩
      · skip
        rw [(bI_b z_37.2.2.1)] at c_48
        have k_48 := bI_t.mp c_48
        refine lv_iconst (v := (-1)) hx hb dX9_setCalendar_51 (by decide) ?_
        refine lv_goto (tgt := 59) hx hb dX9_setCalendar_52 (by decide) ?_
        refine mp_faultAt (v := (-1)) X w dX9_setCalendar_59 (fun H locs w => ?_)
        refine lv_iload_n hx hb dX9_setCalendar_62 rfl (lv_at hl 0 rfl) ?_
        refine lv_if_ne (tgt := 72) hx hb dX9_setCalendar_63 (by decide) (fun c_63 => ?_) (fun c_63 => ?_)
        · skip
          rw [(bI_b z_37.2.2.1)] at c_63
          have k_63 := bI_t.mp c_63
          have hsh := sCal_f k_63
          have heq := (z_37.2.2.2.2 k_63).1
          have eQ : rowR R_37 = rowQ (sCal T (I 10).toInt).2.2.1 := rowQ_eq heq
          refine lv_aload_n hx hb dX9_setCalendar_72 rfl (lv_at hl 1 rfl) ?_
          refine q_cPV X w (c_X9_isPossible l D t b n σ0 (va_up (va_up I_37 10 0) 12 (-1)) R_37 ((sCal T (I 10).toInt).2.2.2) (by rw [eQ]; exact rowQ_0 hsh.1) (by exact (z_37.2.2.2.2 k_63).2)) v_X9_215 (k := 45) rfl rfl rfl ⟨Nat.le_of_ble_eq_true rfl, Nat.le_of_ble_eq_true rfl⟩ rfl hl.1 (Nat.le_of_ble_eq_true rfl) dX9_setCalendar_73 ⟨Nat.zero_le _, Nat.zero_le _⟩ (fun r_73 z_73 => ?_)
          refine lv_if_ne (tgt := 85) hx hb dX9_setCalendar_76 (by decide) (fun c_76 => ?_) (fun c_76 => ?_)
          · skip
            rw [z_73] at c_76
            have k_76 := bI_t.mp c_76
            have hok : okRow (rowR R_37) := by rw [eQ] at k_76 ⊢; exact okRow_read (rowQ_at _) hsh (possB_iff.mp k_76)
            refine lv_aload_n hx hb dX9_setCalendar_85 rfl (lv_at hl 1 rfl) ?_
            refine lv_iconst (v := 0) hx hb dX9_setCalendar_86 (by decide) ?_
            refine mp_thrown (v := 0) X w dX9_setCalendar_87 (fun H locs w => ?_)
            refine lv_aload_n hx hb dX9_setCalendar_90 rfl (lv_at hl 1 rfl) ?_
            refine mm_cV X w (c_X9_remembers l D t b n σ0 (va_up (va_up (va_up I_37 10 0) 12 (-1)) 0 0) R_37 (by rw [show (va_up (va_up (va_up I_37 10 0) 12 (-1)) 0 0) 28 = I 28 from z_37.1 28 (by decide)]; exact h_4)) v_X9_218 rfl rfl ⟨Nat.le_of_ble_eq_true rfl, Nat.le_of_ble_eq_true rfl⟩ rfl hl.1 (Nat.le_of_ble_eq_true rfl) dX9_setCalendar_91 ⟨Nat.zero_le _, Nat.zero_le _⟩ (fun I_91 R_91 H locs z_91 w => ?_)
            have eR : rowR R_91 = rowR R_37 := rowR_cg (by rw [z_91.2.2]; exact va_up_ne _ _ (by decide))
            refine lv_aload_n hx hb dX9_setCalendar_94 rfl (lv_at hl 1 rfl) ?_
            refine lv_iload_n hx hb dX9_setCalendar_95 rfl (lv_at hl 2 rfl) ?_
            refine mm_cVR X w (c_X9_lays l D t b n σ0 I_91 R_91 a_ca ca e_ca (by omega) (by rw [eR]; exact hok)) v_X9_60 rfl rfl ⟨Nat.le_of_ble_eq_true rfl, Nat.le_of_ble_eq_true rfl⟩ rfl hl.1 (Nat.le_of_ble_eq_true rfl) dX9_setCalendar_96 ⟨Nat.zero_le _, Nat.zero_le _⟩ (fun R_96 H locs z_96 w => ?_)
            refine lv_iload_n hx hb dX9_setCalendar_99 rfl (lv_at hl 2 rfl) ?_
            refine lv_aload_n hx hb dX9_setCalendar_100 rfl (lv_at hl 1 rfl) ?_
            refine mg_calendars X w dX9_setCalendar_101 ?_
            refine lv_icmp_ne (tgt := 117) hx hb dX9_setCalendar_104 (by decide) (fun c_104 => ?_) (fun c_104 => ?_)
            · skip
              have k_104 : ¬ (ca = ((I 5).toInt)) := fun h => c_104 ((g_eq e_ca ((congrArg Int32.toInt (z_91.1 5 (by decide))).trans ((congrArg Int32.toInt (z_37.1 5 (by decide))).trans rfl))).mpr h)
              refine lv_aload_n hx hb dX9_setCalendar_117 rfl (lv_at hl 1 rfl) ?_
              refine mg_read X w dX9_setCalendar_118 ?_
              refine lv_iconst (v := 0) hx hb dX9_setCalendar_121 (by decide) ?_
              refine ml_read X w (g_in (show (0 : Int32).toInt = 0 from rfl) (by omega)) dX9_setCalendar_122 ?_
              refine q_topE (y := R_96 3 (0 : Int).toNat) (congrArg (R_96 3) (g_tn (show (0 : Int32).toInt = 0 from rfl))) ?_
              exact q_cret (post := (fun z n1 σ1 => n1 = n ∧ ∃ I1 R1, σ1 = mS t b σ0 I1 R1 ∧ kpI [0, 5, 10, 11, 12, 13, 14, 15, 28, 29, 31] I I1 ∧ (I1 0).toInt = (if 0 ≤ ca ∧ ca ≤ (if (I 5).toInt < 6 then (I 5).toInt else 5) then (if (sCal T (I 10).toInt).1 = true then (if possB (rowQ (sCal T (I 10).toInt).2.2.1) (sCal T (I 10).toInt).2.2.2 = true then 0 else 3) else 2) else 1) ∧ (I1 10).toInt = 0 ∧ (I1 12).toInt = (if 0 ≤ ca ∧ ca ≤ (if (I 5).toInt < 6 then (I 5).toInt else 5) then (if (sCal T (I 10).toInt).1 = true then -1 else (sCal T (I 10).toInt).2.1) else (I 12).toInt) ∧ ((I1 0).toInt ≠ 0 → kpR [3] Rw R1 ∧ I1 5 = I 5 ∧ I1 28 = I 28) ∧ ((I1 0).toInt = 0 → (I1 28).toInt = remC (I 28).toInt + 1 ∧ R1 26 = remR I Rw ∧ kpR [2, 3, 4, 26] Rw R1 ∧ rowM R1 ca = rowQ (sCal T (I 10).toInt).2.2.1 ∧ okRow (rowM R1 ca) ∧ okF R1 ca ∧ (∀ j : Nat, ((j : Int) < 33 * ca ∨ 33 * ca + 33 ≤ (j : Int)) → R1 2 j = Rw 2 j) ∧ (∀ j : Nat, ((j : Int) < 4042 * ca ∨ 4042 * ca + 4042 ≤ (j : Int)) → R1 4 j = Rw 4 j) ∧ (I1 5).toInt = (if ca = (I 5).toInt then (I 5).toInt + 1 else (I 5).toInt) ∧ z.toInt = rv (rowM R1 ca) 0))) X w dX9_setCalendar_123 (rfl) ⟨rfl, _, _, rfl, by have hL : (if (I 5).toInt < 6 then (I 5).toInt else 5) = 5 := (if_neg (Int.not_lt.mpr k_8)); have hy : 0 ≤ ca ∧ ca ≤ (if (I 5).toInt < 6 then (I 5).toInt else 5) := (by rw [hL]; exact k_22); have c0 : (I_91 0).toInt = 0 := congrArg Int32.toInt (z_91.1 0 (by decide)); have hR26 : R_91 26 = remR I Rw := (by rw [z_91.2.2, va_up_self]; unfold remR; rw [show R_37 26 = Rw 26 from z_37.2.1 26 (by decide), show R_37 2 = Rw 2 from z_37.2.1 2 (by decide), show R_37 16 = Rw 16 from z_37.2.1 16 (by decide), show (va_up (va_up (va_up I_37 10 0) 12 (-1)) 0 0) 28 = I 28 from z_37.1 28 (by decide), show (va_up (va_up (va_up I_37 10 0) 12 (-1)) 0 0) 5 = I 5 from z_37.1 5 (by decide), show (va_up (va_up (va_up I_37 10 0) 12 (-1)) 0 0) 19 = I 19 from z_37.1 19 (by decide)]); have hKR : kpR [3, 26] Rw R_91 := (by rw [z_91.2.2]; exact kpR.up (z_37.2.1.wk (by decide)) (by decide)); exact ⟨(kpI.tr (J := [0, 5, 10, 11, 12, 13, 14, 15, 28, 29, 31]) (kpI.up (J := [0, 5, 10, 11, 12, 13, 14, 15, 28, 29, 31]) (kpI.up (J := [0, 5, 10, 11, 12, 13, 14, 15, 28, 29, 31]) (kpI.up (J := [0, 5, 10, 11, 12, 13, 14, 15, 28, 29, 31]) (z_37.1.wk (by decide)) (by decide)) (by decide)) (by decide)) z_91.1 (by decide) (by decide)), c0.trans (by rw [if_pos hy, if_pos k_63, ← eQ, if_pos k_76]), congrArg Int32.toInt (z_91.1 10 (by decide)), (congrArg Int32.toInt (z_91.1 12 (by decide))).trans (by rw [if_pos hy, if_pos k_63]; rfl), fun q => absurd c0 q, fun _ => ⟨z_91.2.1.trans (by rw [show (va_up (va_up (va_up I_37 10 0) 12 (-1)) 0 0) 28 = I 28 from z_37.1 28 (by decide)]), (z_96.1 26 (by decide)).trans hR26, hKR.tr z_96.1 (by decide) (by decide), z_96.2.1.trans (eR.trans eQ), (by rw [z_96.2.1, eR]; exact hok), z_96.2.2.1, (fun j a => (z_96.2.2.2.1 j a).trans (congrFun (hKR 2 (by decide)) j)), (fun j a => (z_96.2.2.2.2 j a).trans (congrFun (hKR 4 (by decide)) j)), (congrArg Int32.toInt ((z_91.1 5 (by decide)).trans (z_37.1 5 (by decide)))).trans (by rw [if_neg k_104]), (congrArg Int32.toInt (congrFun (z_96.1 3 (by decide)) _)).trans (by rw [z_96.2.1]; exact congrArg Int32.toInt (rowR_eq (by omega)).symm)⟩⟩⟩
            · skip
              have k_104 : ca = ((I 5).toInt) := (g_eq e_ca ((congrArg Int32.toInt (z_91.1 5 (by decide))).trans ((congrArg Int32.toInt (z_37.1 5 (by decide))).trans rfl))).mp c_104
              refine lv_aload_n hx hb dX9_setCalendar_107 rfl (lv_at hl 1 rfl) ?_
              refine lv_dup hx hb dX9_setCalendar_108 rfl ?_
              refine mg_calendars X w dX9_setCalendar_109 ?_
              refine lv_iconst (v := 1) hx hb dX9_setCalendar_112 (by decide) ?_
              refine lv_iadd hx hb dX9_setCalendar_113 ?_
              refine lv_topi (fun x_113 e_113 => ?_)
              have p_113 : x_113.toInt = (((I 5).toInt) + 1) := by rw [e_113]; exact t_add ((congrArg Int32.toInt (z_91.1 5 (by decide))).trans ((congrArg Int32.toInt (z_37.1 5 (by decide))).trans rfl)) (show (1 : Int32).toInt = 1 from rfl) (by omega) (by omega)
              refine mp_calendars (v := x_113) X w dX9_setCalendar_114 (fun H locs w => ?_)
              refine lv_aload_n hx hb dX9_setCalendar_117 rfl (lv_at hl 1 rfl) ?_
              refine mg_read X w dX9_setCalendar_118 ?_
              refine lv_iconst (v := 0) hx hb dX9_setCalendar_121 (by decide) ?_
              refine ml_read X w (g_in (show (0 : Int32).toInt = 0 from rfl) (by omega)) dX9_setCalendar_122 ?_
              refine q_topE (y := R_96 3 (0 : Int).toNat) (congrArg (R_96 3) (g_tn (show (0 : Int32).toInt = 0 from rfl))) ?_
              exact q_cret (post := (fun z n1 σ1 => n1 = n ∧ ∃ I1 R1, σ1 = mS t b σ0 I1 R1 ∧ kpI [0, 5, 10, 11, 12, 13, 14, 15, 28, 29, 31] I I1 ∧ (I1 0).toInt = (if 0 ≤ ca ∧ ca ≤ (if (I 5).toInt < 6 then (I 5).toInt else 5) then (if (sCal T (I 10).toInt).1 = true then (if possB (rowQ (sCal T (I 10).toInt).2.2.1) (sCal T (I 10).toInt).2.2.2 = true then 0 else 3) else 2) else 1) ∧ (I1 10).toInt = 0 ∧ (I1 12).toInt = (if 0 ≤ ca ∧ ca ≤ (if (I 5).toInt < 6 then (I 5).toInt else 5) then (if (sCal T (I 10).toInt).1 = true then -1 else (sCal T (I 10).toInt).2.1) else (I 12).toInt) ∧ ((I1 0).toInt ≠ 0 → kpR [3] Rw R1 ∧ I1 5 = I 5 ∧ I1 28 = I 28) ∧ ((I1 0).toInt = 0 → (I1 28).toInt = remC (I 28).toInt + 1 ∧ R1 26 = remR I Rw ∧ kpR [2, 3, 4, 26] Rw R1 ∧ rowM R1 ca = rowQ (sCal T (I 10).toInt).2.2.1 ∧ okRow (rowM R1 ca) ∧ okF R1 ca ∧ (∀ j : Nat, ((j : Int) < 33 * ca ∨ 33 * ca + 33 ≤ (j : Int)) → R1 2 j = Rw 2 j) ∧ (∀ j : Nat, ((j : Int) < 4042 * ca ∨ 4042 * ca + 4042 ≤ (j : Int)) → R1 4 j = Rw 4 j) ∧ (I1 5).toInt = (if ca = (I 5).toInt then (I 5).toInt + 1 else (I 5).toInt) ∧ z.toInt = rv (rowM R1 ca) 0))) X w dX9_setCalendar_123 (rfl) ⟨rfl, _, _, rfl, by have hL : (if (I 5).toInt < 6 then (I 5).toInt else 5) = 5 := (if_neg (Int.not_lt.mpr k_8)); have hy : 0 ≤ ca ∧ ca ≤ (if (I 5).toInt < 6 then (I 5).toInt else 5) := (by rw [hL]; exact k_22); have c0 : ((va_up I_91 5 x_113) 0).toInt = 0 := congrArg Int32.toInt (z_91.1 0 (by decide)); have hR26 : R_91 26 = remR I Rw := (by rw [z_91.2.2, va_up_self]; unfold remR; rw [show R_37 26 = Rw 26 from z_37.2.1 26 (by decide), show R_37 2 = Rw 2 from z_37.2.1 2 (by decide), show R_37 16 = Rw 16 from z_37.2.1 16 (by decide), show (va_up (va_up (va_up I_37 10 0) 12 (-1)) 0 0) 28 = I 28 from z_37.1 28 (by decide), show (va_up (va_up (va_up I_37 10 0) 12 (-1)) 0 0) 5 = I 5 from z_37.1 5 (by decide), show (va_up (va_up (va_up I_37 10 0) 12 (-1)) 0 0) 19 = I 19 from z_37.1 19 (by decide)]); have hKR : kpR [3, 26] Rw R_91 := (by rw [z_91.2.2]; exact kpR.up (z_37.2.1.wk (by decide)) (by decide)); exact ⟨(kpI.up (J := [0, 5, 10, 11, 12, 13, 14, 15, 28, 29, 31]) (kpI.tr (J := [0, 5, 10, 11, 12, 13, 14, 15, 28, 29, 31]) (kpI.up (J := [0, 5, 10, 11, 12, 13, 14, 15, 28, 29, 31]) (kpI.up (J := [0, 5, 10, 11, 12, 13, 14, 15, 28, 29, 31]) (kpI.up (J := [0, 5, 10, 11, 12, 13, 14, 15, 28, 29, 31]) (z_37.1.wk (by decide)) (by decide)) (by decide)) (by decide)) z_91.1 (by decide) (by decide)) (by decide)), c0.trans (by rw [if_pos hy, if_pos k_63, ← eQ, if_pos k_76]), congrArg Int32.toInt (z_91.1 10 (by decide)), (congrArg Int32.toInt (z_91.1 12 (by decide))).trans (by rw [if_pos hy, if_pos k_63]; rfl), fun q => absurd c0 q, fun _ => ⟨z_91.2.1.trans (by rw [show (va_up (va_up (va_up I_37 10 0) 12 (-1)) 0 0) 28 = I 28 from z_37.1 28 (by decide)]), (z_96.1 26 (by decide)).trans hR26, hKR.tr z_96.1 (by decide) (by decide), z_96.2.1.trans (eR.trans eQ), (by rw [z_96.2.1, eR]; exact hok), z_96.2.2.1, (fun j a => (z_96.2.2.2.1 j a).trans (congrFun (hKR 2 (by decide)) j)), (fun j a => (z_96.2.2.2.2 j a).trans (congrFun (hKR 4 (by decide)) j)), p_113.trans (by rw [if_pos k_104]), (congrArg Int32.toInt (congrFun (z_96.1 3 (by decide)) _)).trans (by rw [z_96.2.1]; exact congrArg Int32.toInt (rowR_eq (by omega)).symm)⟩⟩⟩
          · skip
            rw [z_73] at c_76
            have k_76 := bI_f.mp c_76
            refine lv_aload_n hx hb dX9_setCalendar_79 rfl (lv_at hl 1 rfl) ?_
            refine lv_iconst (v := 3) hx hb dX9_setCalendar_80 (by decide) ?_
            refine mm_cCI X w (c_X9_fails l D t b n σ0 (va_up (va_up I_37 10 0) 12 (-1)) R_37 3 3 (show (3 : Int32).toInt = 3 from rfl)) v_X9_143 rfl rfl ⟨Nat.le_of_ble_eq_true rfl, Nat.le_of_ble_eq_true rfl⟩ rfl hl.1 (Nat.le_of_ble_eq_true rfl) dX9_setCalendar_81 ⟨Nat.zero_le _, Nat.zero_le _⟩ (fun r_81 I_81 H locs z_81 w => ?_)
            exact q_cret (post := (fun z n1 σ1 => n1 = n ∧ ∃ I1 R1, σ1 = mS t b σ0 I1 R1 ∧ kpI [0, 5, 10, 11, 12, 13, 14, 15, 28, 29, 31] I I1 ∧ (I1 0).toInt = (if 0 ≤ ca ∧ ca ≤ (if (I 5).toInt < 6 then (I 5).toInt else 5) then (if (sCal T (I 10).toInt).1 = true then (if possB (rowQ (sCal T (I 10).toInt).2.2.1) (sCal T (I 10).toInt).2.2.2 = true then 0 else 3) else 2) else 1) ∧ (I1 10).toInt = 0 ∧ (I1 12).toInt = (if 0 ≤ ca ∧ ca ≤ (if (I 5).toInt < 6 then (I 5).toInt else 5) then (if (sCal T (I 10).toInt).1 = true then -1 else (sCal T (I 10).toInt).2.1) else (I 12).toInt) ∧ ((I1 0).toInt ≠ 0 → kpR [3] Rw R1 ∧ I1 5 = I 5 ∧ I1 28 = I 28) ∧ ((I1 0).toInt = 0 → (I1 28).toInt = remC (I 28).toInt + 1 ∧ R1 26 = remR I Rw ∧ kpR [2, 3, 4, 26] Rw R1 ∧ rowM R1 ca = rowQ (sCal T (I 10).toInt).2.2.1 ∧ okRow (rowM R1 ca) ∧ okF R1 ca ∧ (∀ j : Nat, ((j : Int) < 33 * ca ∨ 33 * ca + 33 ≤ (j : Int)) → R1 2 j = Rw 2 j) ∧ (∀ j : Nat, ((j : Int) < 4042 * ca ∨ 4042 * ca + 4042 ≤ (j : Int)) → R1 4 j = Rw 4 j) ∧ (I1 5).toInt = (if ca = (I 5).toInt then (I 5).toInt + 1 else (I 5).toInt) ∧ z.toInt = rv (rowM R1 ca) 0))) X w dX9_setCalendar_84 (rfl) ⟨rfl, _, _, rfl, by have hL : (if (I 5).toInt < 6 then (I 5).toInt else 5) = 5 := (if_neg (Int.not_lt.mpr k_8)); have hy : 0 ≤ ca ∧ ca ≤ (if (I 5).toInt < 6 then (I 5).toInt else 5) := (by rw [hL]; exact k_22); have hk := kpI.tr (J := [0, 5, 10, 11, 12, 13, 14, 15, 28, 29, 31]) (kpI.up (J := [0, 5, 10, 11, 12, 13, 14, 15, 28, 29, 31]) (kpI.up (J := [0, 5, 10, 11, 12, 13, 14, 15, 28, 29, 31]) (z_37.1.wk (by decide)) (by decide)) (by decide)) z_81.1 (by decide) (by decide); exact ⟨hk, z_81.2.1.trans (by rw [if_pos hy, if_pos k_63, ← eQ, if_neg k_76]), congrArg Int32.toInt (z_81.1 10 (by decide)), (congrArg Int32.toInt (z_81.1 12 (by decide))).trans (by rw [if_pos hy, if_pos k_63]; rfl), fun _ => ⟨z_37.2.1, (z_81.1 5 (by decide)).trans (z_37.1 5 (by decide)), (z_81.1 28 (by decide)).trans (z_37.1 28 (by decide))⟩, fun q => absurd (z_81.2.1.symm.trans q) (by decide)⟩⟩
        · skip
          rw [(bI_b z_37.2.2.1)] at c_63
          have k_63 := bI_f.mp c_63
          exact absurd k_48 k_63
    · skip
      rw [z_19] at c_22
      have k_22 := bI_f.mp c_22
      refine lv_aload_n hx hb dX9_setCalendar_25 rfl (lv_at hl 0 rfl) ?_
      refine lv_iconst (v := 0) hx hb dX9_setCalendar_26 (by decide) ?_
      refine mp_length (v := 0) X w dX9_setCalendar_27 (fun H locs w => ?_)
      refine lv_aload_n hx hb dX9_setCalendar_30 rfl (lv_at hl 0 rfl) ?_
      refine lv_iconst (v := 1) hx hb dX9_setCalendar_31 (by decide) ?_
      refine mm_cCI X w (c_X9_fails l D t b n σ0 (va_up I 10 0) Rw 1 1 (show (1 : Int32).toInt = 1 from rfl)) v_X9_143 rfl rfl ⟨Nat.le_of_ble_eq_true rfl, Nat.le_of_ble_eq_true rfl⟩ rfl hl.1 (Nat.le_of_ble_eq_true rfl) dX9_setCalendar_32 ⟨Nat.zero_le _, Nat.zero_le _⟩ (fun r_32 I_32 H locs z_32 w => ?_)
      exact q_cret (post := (fun z n1 σ1 => n1 = n ∧ ∃ I1 R1, σ1 = mS t b σ0 I1 R1 ∧ kpI [0, 5, 10, 11, 12, 13, 14, 15, 28, 29, 31] I I1 ∧ (I1 0).toInt = (if 0 ≤ ca ∧ ca ≤ (if (I 5).toInt < 6 then (I 5).toInt else 5) then (if (sCal T (I 10).toInt).1 = true then (if possB (rowQ (sCal T (I 10).toInt).2.2.1) (sCal T (I 10).toInt).2.2.2 = true then 0 else 3) else 2) else 1) ∧ (I1 10).toInt = 0 ∧ (I1 12).toInt = (if 0 ≤ ca ∧ ca ≤ (if (I 5).toInt < 6 then (I 5).toInt else 5) then (if (sCal T (I 10).toInt).1 = true then -1 else (sCal T (I 10).toInt).2.1) else (I 12).toInt) ∧ ((I1 0).toInt ≠ 0 → kpR [3] Rw R1 ∧ I1 5 = I 5 ∧ I1 28 = I 28) ∧ ((I1 0).toInt = 0 → (I1 28).toInt = remC (I 28).toInt + 1 ∧ R1 26 = remR I Rw ∧ kpR [2, 3, 4, 26] Rw R1 ∧ rowM R1 ca = rowQ (sCal T (I 10).toInt).2.2.1 ∧ okRow (rowM R1 ca) ∧ okF R1 ca ∧ (∀ j : Nat, ((j : Int) < 33 * ca ∨ 33 * ca + 33 ≤ (j : Int)) → R1 2 j = Rw 2 j) ∧ (∀ j : Nat, ((j : Int) < 4042 * ca ∨ 4042 * ca + 4042 ≤ (j : Int)) → R1 4 j = Rw 4 j) ∧ (I1 5).toInt = (if ca = (I 5).toInt then (I 5).toInt + 1 else (I 5).toInt) ∧ z.toInt = rv (rowM R1 ca) 0))) X w dX9_setCalendar_35 (rfl) ⟨rfl, _, _, rfl, by have hL : (if (I 5).toInt < 6 then (I 5).toInt else 5) = 5 := (if_neg (Int.not_lt.mpr k_8)); have hn : ¬ (0 ≤ ca ∧ ca ≤ (if (I 5).toInt < 6 then (I 5).toInt else 5)) := (by rw [hL]; exact k_22); exact ⟨kpI.tr (J := [0, 5, 10, 11, 12, 13, 14, 15, 28, 29, 31]) (kpI.up (J := [0, 5, 10, 11, 12, 13, 14, 15, 28, 29, 31]) kpI.rf (by decide)) z_32.1 (by decide) (by decide), z_32.2.1.trans (if_neg hn).symm, congrArg Int32.toInt (z_32.1 10 (by decide)), (congrArg Int32.toInt (z_32.1 12 (by decide))).trans (if_neg hn).symm, fun _ => ⟨kpR.rf, z_32.1 5 (by decide), z_32.1 28 (by decide)⟩, fun q => absurd (z_32.2.1.symm.trans q) (by decide)⟩⟩
  · skip
    have k_8 : ¬ (6 ≤ ((I 5).toInt)) := fun h => c_8 ((g_le (show (6 : Int32).toInt = 6 from rfl) rfl).mpr h)
    refine lv_aload_n hx hb dX9_setCalendar_11 rfl (lv_at hl 0 rfl) ?_
    refine mg_calendars X w dX9_setCalendar_12 ?_
    refine lv_goto (tgt := 19) hx hb dX9_setCalendar_15 (by decide) ?_
    refine q_cPS X w (c_X9_isBetween l a_ca 0 (I 5) ca 0 ((I 5).toInt) e_ca (show (0 : Int32).toInt = 0 from rfl) rfl D t b n (mS t b σ0 I Rw)) v_X9_70 rfl ⟨Nat.le_of_ble_eq_true rfl, Nat.le_of_ble_eq_true rfl⟩ rfl hl.1 (Nat.le_of_ble_eq_true rfl) dX9_setCalendar_19 ⟨Nat.zero_le _, Nat.zero_le _⟩ (fun r_19 z_19 => ?_)
    refine lv_if_ne (tgt := 36) hx hb dX9_setCalendar_22 (by decide) (fun c_22 => ?_) (fun c_22 => ?_)
    · skip
      rw [z_19] at c_22
      have k_22 := bI_t.mp c_22
      refine lv_aload_n hx hb dX9_setCalendar_36 rfl (lv_at hl 0 rfl) ?_
      refine mm_cC X w (c_X9_takesCalendar l D t b n σ0 I Rw T (by exact h_1) (by exact h_2)) v_X9_212 rfl rfl ⟨Nat.le_of_ble_eq_true rfl, Nat.le_of_ble_eq_true rfl⟩ rfl hl.1 (Nat.le_of_ble_eq_true rfl) dX9_setCalendar_37 ⟨Nat.zero_le _, Nat.zero_le _⟩ (fun r_37 I_37 R_37 H locs z_37 w => ?_)
      refine lv_istore_n (lv' := [(2, .int r_37), (0, .ref (b + 45)), (1, .int a_ca)]) hx hb dX9_setCalendar_40 rfl hl (by decide) rfl (fun ls hl => ?_)
      refine lv_aload_n hx hb dX9_setCalendar_41 rfl (lv_at hl 1 rfl) ?_
      refine lv_iconst (v := 0) hx hb dX9_setCalendar_42 (by decide) ?_
      refine mp_length (v := 0) X w dX9_setCalendar_43 (fun H locs w => ?_)
      refine lv_aload_n hx hb dX9_setCalendar_46 rfl (lv_at hl 1 rfl) ?_
      refine lv_iload_n hx hb dX9_setCalendar_47 rfl (lv_at hl 0 rfl) ?_
      refine lv_if_eq (tgt := 55) hx hb dX9_setCalendar_48 (by decide) (fun c_48 => ?_) (fun c_48 => ?_)
      · skip
        rw [(bI_b z_37.2.2.1)] at c_48
        have k_48 := bI_f.mp c_48
        refine lv_aload_n hx hb dX9_setCalendar_55 rfl (lv_at hl 1 rfl) ?_
        refine mg_at X w dX9_setCalendar_56 ?_
        refine mp_faultAt (v := ((va_up I_37 10 0) 11)) X w dX9_setCalendar_59 (fun H locs w => ?_)
        refine lv_iload_n hx hb dX9_setCalendar_62 rfl (lv_at hl 0 rfl) ?_
        refine lv_if_ne (tgt := 72) hx hb dX9_setCalendar_63 (by decide) (fun c_63 => ?_) (fun c_63 => ?_)
        · skip
          rw [(bI_b z_37.2.2.1)] at c_63
          have k_63 := bI_t.mp c_63
          exact absurd k_63 k_48
        · skip
          rw [(bI_b z_37.2.2.1)] at c_63
          have k_63 := bI_f.mp c_63
          refine lv_aload_n hx hb dX9_setCalendar_66 rfl (lv_at hl 1 rfl) ?_
          refine lv_iconst (v := 2) hx hb dX9_setCalendar_67 (by decide) ?_
          refine mm_cCI X w (c_X9_fails l D t b n σ0 (va_up (va_up I_37 10 0) 12 ((va_up I_37 10 0) 11)) R_37 2 2 (show (2 : Int32).toInt = 2 from rfl)) v_X9_143 rfl rfl ⟨Nat.le_of_ble_eq_true rfl, Nat.le_of_ble_eq_true rfl⟩ rfl hl.1 (Nat.le_of_ble_eq_true rfl) dX9_setCalendar_68 ⟨Nat.zero_le _, Nat.zero_le _⟩ (fun r_68 I_68 H locs z_68 w => ?_)
          exact q_cret (post := (fun z n1 σ1 => n1 = n ∧ ∃ I1 R1, σ1 = mS t b σ0 I1 R1 ∧ kpI [0, 5, 10, 11, 12, 13, 14, 15, 28, 29, 31] I I1 ∧ (I1 0).toInt = (if 0 ≤ ca ∧ ca ≤ (if (I 5).toInt < 6 then (I 5).toInt else 5) then (if (sCal T (I 10).toInt).1 = true then (if possB (rowQ (sCal T (I 10).toInt).2.2.1) (sCal T (I 10).toInt).2.2.2 = true then 0 else 3) else 2) else 1) ∧ (I1 10).toInt = 0 ∧ (I1 12).toInt = (if 0 ≤ ca ∧ ca ≤ (if (I 5).toInt < 6 then (I 5).toInt else 5) then (if (sCal T (I 10).toInt).1 = true then -1 else (sCal T (I 10).toInt).2.1) else (I 12).toInt) ∧ ((I1 0).toInt ≠ 0 → kpR [3] Rw R1 ∧ I1 5 = I 5 ∧ I1 28 = I 28) ∧ ((I1 0).toInt = 0 → (I1 28).toInt = remC (I 28).toInt + 1 ∧ R1 26 = remR I Rw ∧ kpR [2, 3, 4, 26] Rw R1 ∧ rowM R1 ca = rowQ (sCal T (I 10).toInt).2.2.1 ∧ okRow (rowM R1 ca) ∧ okF R1 ca ∧ (∀ j : Nat, ((j : Int) < 33 * ca ∨ 33 * ca + 33 ≤ (j : Int)) → R1 2 j = Rw 2 j) ∧ (∀ j : Nat, ((j : Int) < 4042 * ca ∨ 4042 * ca + 4042 ≤ (j : Int)) → R1 4 j = Rw 4 j) ∧ (I1 5).toInt = (if ca = (I 5).toInt then (I 5).toInt + 1 else (I 5).toInt) ∧ z.toInt = rv (rowM R1 ca) 0))) X w dX9_setCalendar_71 (rfl) ⟨rfl, _, _, rfl, by have hL : (if (I 5).toInt < 6 then (I 5).toInt else 5) = (I 5).toInt := (if_pos (Int.not_le.mp k_8)); have hy : 0 ≤ ca ∧ ca ≤ (if (I 5).toInt < 6 then (I 5).toInt else 5) := (by rw [hL]; exact k_22); have hk := kpI.tr (J := [0, 5, 10, 11, 12, 13, 14, 15, 28, 29, 31]) (kpI.up (J := [0, 5, 10, 11, 12, 13, 14, 15, 28, 29, 31]) (kpI.up (J := [0, 5, 10, 11, 12, 13, 14, 15, 28, 29, 31]) (z_37.1.wk (by decide)) (by decide)) (by decide)) z_68.1 (by decide) (by decide); exact ⟨hk, z_68.2.1.trans (by rw [if_pos hy, if_neg k_63]), congrArg Int32.toInt (z_68.1 10 (by decide)), (congrArg Int32.toInt (z_68.1 12 (by decide))).trans (by rw [if_pos hy, if_neg k_63]; exact z_37.2.2.2.1), fun _ => ⟨z_37.2.1, (z_68.1 5 (by decide)).trans (z_37.1 5 (by decide)), (z_68.1 28 (by decide)).trans (z_37.1 28 (by decide))⟩, fun q => absurd (z_68.2.1.symm.trans q) (by decide)⟩⟩
      · skip
        rw [(bI_b z_37.2.2.1)] at c_48
        have k_48 := bI_t.mp c_48
        refine lv_iconst (v := (-1)) hx hb dX9_setCalendar_51 (by decide) ?_
        refine lv_goto (tgt := 59) hx hb dX9_setCalendar_52 (by decide) ?_
        refine mp_faultAt (v := (-1)) X w dX9_setCalendar_59 (fun H locs w => ?_)
        refine lv_iload_n hx hb dX9_setCalendar_62 rfl (lv_at hl 0 rfl) ?_
        refine lv_if_ne (tgt := 72) hx hb dX9_setCalendar_63 (by decide) (fun c_63 => ?_) (fun c_63 => ?_)
        · skip
          rw [(bI_b z_37.2.2.1)] at c_63
          have k_63 := bI_t.mp c_63
          have hsh := sCal_f k_63
          have heq := (z_37.2.2.2.2 k_63).1
          have eQ : rowR R_37 = rowQ (sCal T (I 10).toInt).2.2.1 := rowQ_eq heq
          refine lv_aload_n hx hb dX9_setCalendar_72 rfl (lv_at hl 1 rfl) ?_
          refine q_cPV X w (c_X9_isPossible l D t b n σ0 (va_up (va_up I_37 10 0) 12 (-1)) R_37 ((sCal T (I 10).toInt).2.2.2) (by rw [eQ]; exact rowQ_0 hsh.1) (by exact (z_37.2.2.2.2 k_63).2)) v_X9_215 (k := 45) rfl rfl rfl ⟨Nat.le_of_ble_eq_true rfl, Nat.le_of_ble_eq_true rfl⟩ rfl hl.1 (Nat.le_of_ble_eq_true rfl) dX9_setCalendar_73 ⟨Nat.zero_le _, Nat.zero_le _⟩ (fun r_73 z_73 => ?_)
          refine lv_if_ne (tgt := 85) hx hb dX9_setCalendar_76 (by decide) (fun c_76 => ?_) (fun c_76 => ?_)
          · skip
            rw [z_73] at c_76
            have k_76 := bI_t.mp c_76
            have hok : okRow (rowR R_37) := by rw [eQ] at k_76 ⊢; exact okRow_read (rowQ_at _) hsh (possB_iff.mp k_76)
            refine lv_aload_n hx hb dX9_setCalendar_85 rfl (lv_at hl 1 rfl) ?_
            refine lv_iconst (v := 0) hx hb dX9_setCalendar_86 (by decide) ?_
            refine mp_thrown (v := 0) X w dX9_setCalendar_87 (fun H locs w => ?_)
            refine lv_aload_n hx hb dX9_setCalendar_90 rfl (lv_at hl 1 rfl) ?_
            refine mm_cV X w (c_X9_remembers l D t b n σ0 (va_up (va_up (va_up I_37 10 0) 12 (-1)) 0 0) R_37 (by rw [show (va_up (va_up (va_up I_37 10 0) 12 (-1)) 0 0) 28 = I 28 from z_37.1 28 (by decide)]; exact h_4)) v_X9_218 rfl rfl ⟨Nat.le_of_ble_eq_true rfl, Nat.le_of_ble_eq_true rfl⟩ rfl hl.1 (Nat.le_of_ble_eq_true rfl) dX9_setCalendar_91 ⟨Nat.zero_le _, Nat.zero_le _⟩ (fun I_91 R_91 H locs z_91 w => ?_)
            have eR : rowR R_91 = rowR R_37 := rowR_cg (by rw [z_91.2.2]; exact va_up_ne _ _ (by decide))
            refine lv_aload_n hx hb dX9_setCalendar_94 rfl (lv_at hl 1 rfl) ?_
            refine lv_iload_n hx hb dX9_setCalendar_95 rfl (lv_at hl 2 rfl) ?_
            refine mm_cVR X w (c_X9_lays l D t b n σ0 I_91 R_91 a_ca ca e_ca (by omega) (by rw [eR]; exact hok)) v_X9_60 rfl rfl ⟨Nat.le_of_ble_eq_true rfl, Nat.le_of_ble_eq_true rfl⟩ rfl hl.1 (Nat.le_of_ble_eq_true rfl) dX9_setCalendar_96 ⟨Nat.zero_le _, Nat.zero_le _⟩ (fun R_96 H locs z_96 w => ?_)
            refine lv_iload_n hx hb dX9_setCalendar_99 rfl (lv_at hl 2 rfl) ?_
            refine lv_aload_n hx hb dX9_setCalendar_100 rfl (lv_at hl 1 rfl) ?_
            refine mg_calendars X w dX9_setCalendar_101 ?_
            refine lv_icmp_ne (tgt := 117) hx hb dX9_setCalendar_104 (by decide) (fun c_104 => ?_) (fun c_104 => ?_)
            · skip
              have k_104 : ¬ (ca = ((I 5).toInt)) := fun h => c_104 ((g_eq e_ca ((congrArg Int32.toInt (z_91.1 5 (by decide))).trans ((congrArg Int32.toInt (z_37.1 5 (by decide))).trans rfl))).mpr h)
              refine lv_aload_n hx hb dX9_setCalendar_117 rfl (lv_at hl 1 rfl) ?_
              refine mg_read X w dX9_setCalendar_118 ?_
              refine lv_iconst (v := 0) hx hb dX9_setCalendar_121 (by decide) ?_
              refine ml_read X w (g_in (show (0 : Int32).toInt = 0 from rfl) (by omega)) dX9_setCalendar_122 ?_
              refine q_topE (y := R_96 3 (0 : Int).toNat) (congrArg (R_96 3) (g_tn (show (0 : Int32).toInt = 0 from rfl))) ?_
              exact q_cret (post := (fun z n1 σ1 => n1 = n ∧ ∃ I1 R1, σ1 = mS t b σ0 I1 R1 ∧ kpI [0, 5, 10, 11, 12, 13, 14, 15, 28, 29, 31] I I1 ∧ (I1 0).toInt = (if 0 ≤ ca ∧ ca ≤ (if (I 5).toInt < 6 then (I 5).toInt else 5) then (if (sCal T (I 10).toInt).1 = true then (if possB (rowQ (sCal T (I 10).toInt).2.2.1) (sCal T (I 10).toInt).2.2.2 = true then 0 else 3) else 2) else 1) ∧ (I1 10).toInt = 0 ∧ (I1 12).toInt = (if 0 ≤ ca ∧ ca ≤ (if (I 5).toInt < 6 then (I 5).toInt else 5) then (if (sCal T (I 10).toInt).1 = true then -1 else (sCal T (I 10).toInt).2.1) else (I 12).toInt) ∧ ((I1 0).toInt ≠ 0 → kpR [3] Rw R1 ∧ I1 5 = I 5 ∧ I1 28 = I 28) ∧ ((I1 0).toInt = 0 → (I1 28).toInt = remC (I 28).toInt + 1 ∧ R1 26 = remR I Rw ∧ kpR [2, 3, 4, 26] Rw R1 ∧ rowM R1 ca = rowQ (sCal T (I 10).toInt).2.2.1 ∧ okRow (rowM R1 ca) ∧ okF R1 ca ∧ (∀ j : Nat, ((j : Int) < 33 * ca ∨ 33 * ca + 33 ≤ (j : Int)) → R1 2 j = Rw 2 j) ∧ (∀ j : Nat, ((j : Int) < 4042 * ca ∨ 4042 * ca + 4042 ≤ (j : Int)) → R1 4 j = Rw 4 j) ∧ (I1 5).toInt = (if ca = (I 5).toInt then (I 5).toInt + 1 else (I 5).toInt) ∧ z.toInt = rv (rowM R1 ca) 0))) X w dX9_setCalendar_123 (rfl) ⟨rfl, _, _, rfl, by have hL : (if (I 5).toInt < 6 then (I 5).toInt else 5) = (I 5).toInt := (if_pos (Int.not_le.mp k_8)); have hy : 0 ≤ ca ∧ ca ≤ (if (I 5).toInt < 6 then (I 5).toInt else 5) := (by rw [hL]; exact k_22); have c0 : (I_91 0).toInt = 0 := congrArg Int32.toInt (z_91.1 0 (by decide)); have hR26 : R_91 26 = remR I Rw := (by rw [z_91.2.2, va_up_self]; unfold remR; rw [show R_37 26 = Rw 26 from z_37.2.1 26 (by decide), show R_37 2 = Rw 2 from z_37.2.1 2 (by decide), show R_37 16 = Rw 16 from z_37.2.1 16 (by decide), show (va_up (va_up (va_up I_37 10 0) 12 (-1)) 0 0) 28 = I 28 from z_37.1 28 (by decide), show (va_up (va_up (va_up I_37 10 0) 12 (-1)) 0 0) 5 = I 5 from z_37.1 5 (by decide), show (va_up (va_up (va_up I_37 10 0) 12 (-1)) 0 0) 19 = I 19 from z_37.1 19 (by decide)]); have hKR : kpR [3, 26] Rw R_91 := (by rw [z_91.2.2]; exact kpR.up (z_37.2.1.wk (by decide)) (by decide)); exact ⟨(kpI.tr (J := [0, 5, 10, 11, 12, 13, 14, 15, 28, 29, 31]) (kpI.up (J := [0, 5, 10, 11, 12, 13, 14, 15, 28, 29, 31]) (kpI.up (J := [0, 5, 10, 11, 12, 13, 14, 15, 28, 29, 31]) (kpI.up (J := [0, 5, 10, 11, 12, 13, 14, 15, 28, 29, 31]) (z_37.1.wk (by decide)) (by decide)) (by decide)) (by decide)) z_91.1 (by decide) (by decide)), c0.trans (by rw [if_pos hy, if_pos k_63, ← eQ, if_pos k_76]), congrArg Int32.toInt (z_91.1 10 (by decide)), (congrArg Int32.toInt (z_91.1 12 (by decide))).trans (by rw [if_pos hy, if_pos k_63]; rfl), fun q => absurd c0 q, fun _ => ⟨z_91.2.1.trans (by rw [show (va_up (va_up (va_up I_37 10 0) 12 (-1)) 0 0) 28 = I 28 from z_37.1 28 (by decide)]), (z_96.1 26 (by decide)).trans hR26, hKR.tr z_96.1 (by decide) (by decide), z_96.2.1.trans (eR.trans eQ), (by rw [z_96.2.1, eR]; exact hok), z_96.2.2.1, (fun j a => (z_96.2.2.2.1 j a).trans (congrFun (hKR 2 (by decide)) j)), (fun j a => (z_96.2.2.2.2 j a).trans (congrFun (hKR 4 (by decide)) j)), (congrArg Int32.toInt ((z_91.1 5 (by decide)).trans (z_37.1 5 (by decide)))).trans (by rw [if_neg k_104]), (congrArg Int32.toInt (congrFun (z_96.1 3 (by decide)) _)).trans (by rw [z_96.2.1]; exact congrArg Int32.toInt (rowR_eq (by omega)).symm)⟩⟩⟩
            · skip
              have k_104 : ca = ((I 5).toInt) := (g_eq e_ca ((congrArg Int32.toInt (z_91.1 5 (by decide))).trans ((congrArg Int32.toInt (z_37.1 5 (by decide))).trans rfl))).mp c_104
              refine lv_aload_n hx hb dX9_setCalendar_107 rfl (lv_at hl 1 rfl) ?_
              refine lv_dup hx hb dX9_setCalendar_108 rfl ?_
              refine mg_calendars X w dX9_setCalendar_109 ?_
              refine lv_iconst (v := 1) hx hb dX9_setCalendar_112 (by decide) ?_
              refine lv_iadd hx hb dX9_setCalendar_113 ?_
              refine lv_topi (fun x_113 e_113 => ?_)
              have p_113 : x_113.toInt = (((I 5).toInt) + 1) := by rw [e_113]; exact t_add ((congrArg Int32.toInt (z_91.1 5 (by decide))).trans ((congrArg Int32.toInt (z_37.1 5 (by decide))).trans rfl)) (show (1 : Int32).toInt = 1 from rfl) (by omega) (by omega)
              refine mp_calendars (v := x_113) X w dX9_setCalendar_114 (fun H locs w => ?_)
              refine lv_aload_n hx hb dX9_setCalendar_117 rfl (lv_at hl 1 rfl) ?_
              refine mg_read X w dX9_setCalendar_118 ?_
              refine lv_iconst (v := 0) hx hb dX9_setCalendar_121 (by decide) ?_
              refine ml_read X w (g_in (show (0 : Int32).toInt = 0 from rfl) (by omega)) dX9_setCalendar_122 ?_
              refine q_topE (y := R_96 3 (0 : Int).toNat) (congrArg (R_96 3) (g_tn (show (0 : Int32).toInt = 0 from rfl))) ?_
              exact q_cret (post := (fun z n1 σ1 => n1 = n ∧ ∃ I1 R1, σ1 = mS t b σ0 I1 R1 ∧ kpI [0, 5, 10, 11, 12, 13, 14, 15, 28, 29, 31] I I1 ∧ (I1 0).toInt = (if 0 ≤ ca ∧ ca ≤ (if (I 5).toInt < 6 then (I 5).toInt else 5) then (if (sCal T (I 10).toInt).1 = true then (if possB (rowQ (sCal T (I 10).toInt).2.2.1) (sCal T (I 10).toInt).2.2.2 = true then 0 else 3) else 2) else 1) ∧ (I1 10).toInt = 0 ∧ (I1 12).toInt = (if 0 ≤ ca ∧ ca ≤ (if (I 5).toInt < 6 then (I 5).toInt else 5) then (if (sCal T (I 10).toInt).1 = true then -1 else (sCal T (I 10).toInt).2.1) else (I 12).toInt) ∧ ((I1 0).toInt ≠ 0 → kpR [3] Rw R1 ∧ I1 5 = I 5 ∧ I1 28 = I 28) ∧ ((I1 0).toInt = 0 → (I1 28).toInt = remC (I 28).toInt + 1 ∧ R1 26 = remR I Rw ∧ kpR [2, 3, 4, 26] Rw R1 ∧ rowM R1 ca = rowQ (sCal T (I 10).toInt).2.2.1 ∧ okRow (rowM R1 ca) ∧ okF R1 ca ∧ (∀ j : Nat, ((j : Int) < 33 * ca ∨ 33 * ca + 33 ≤ (j : Int)) → R1 2 j = Rw 2 j) ∧ (∀ j : Nat, ((j : Int) < 4042 * ca ∨ 4042 * ca + 4042 ≤ (j : Int)) → R1 4 j = Rw 4 j) ∧ (I1 5).toInt = (if ca = (I 5).toInt then (I 5).toInt + 1 else (I 5).toInt) ∧ z.toInt = rv (rowM R1 ca) 0))) X w dX9_setCalendar_123 (rfl) ⟨rfl, _, _, rfl, by have hL : (if (I 5).toInt < 6 then (I 5).toInt else 5) = (I 5).toInt := (if_pos (Int.not_le.mp k_8)); have hy : 0 ≤ ca ∧ ca ≤ (if (I 5).toInt < 6 then (I 5).toInt else 5) := (by rw [hL]; exact k_22); have c0 : ((va_up I_91 5 x_113) 0).toInt = 0 := congrArg Int32.toInt (z_91.1 0 (by decide)); have hR26 : R_91 26 = remR I Rw := (by rw [z_91.2.2, va_up_self]; unfold remR; rw [show R_37 26 = Rw 26 from z_37.2.1 26 (by decide), show R_37 2 = Rw 2 from z_37.2.1 2 (by decide), show R_37 16 = Rw 16 from z_37.2.1 16 (by decide), show (va_up (va_up (va_up I_37 10 0) 12 (-1)) 0 0) 28 = I 28 from z_37.1 28 (by decide), show (va_up (va_up (va_up I_37 10 0) 12 (-1)) 0 0) 5 = I 5 from z_37.1 5 (by decide), show (va_up (va_up (va_up I_37 10 0) 12 (-1)) 0 0) 19 = I 19 from z_37.1 19 (by decide)]); have hKR : kpR [3, 26] Rw R_91 := (by rw [z_91.2.2]; exact kpR.up (z_37.2.1.wk (by decide)) (by decide)); exact ⟨(kpI.up (J := [0, 5, 10, 11, 12, 13, 14, 15, 28, 29, 31]) (kpI.tr (J := [0, 5, 10, 11, 12, 13, 14, 15, 28, 29, 31]) (kpI.up (J := [0, 5, 10, 11, 12, 13, 14, 15, 28, 29, 31]) (kpI.up (J := [0, 5, 10, 11, 12, 13, 14, 15, 28, 29, 31]) (kpI.up (J := [0, 5, 10, 11, 12, 13, 14, 15, 28, 29, 31]) (z_37.1.wk (by decide)) (by decide)) (by decide)) (by decide)) z_91.1 (by decide) (by decide)) (by decide)), c0.trans (by rw [if_pos hy, if_pos k_63, ← eQ, if_pos k_76]), congrArg Int32.toInt (z_91.1 10 (by decide)), (congrArg Int32.toInt (z_91.1 12 (by decide))).trans (by rw [if_pos hy, if_pos k_63]; rfl), fun q => absurd c0 q, fun _ => ⟨z_91.2.1.trans (by rw [show (va_up (va_up (va_up I_37 10 0) 12 (-1)) 0 0) 28 = I 28 from z_37.1 28 (by decide)]), (z_96.1 26 (by decide)).trans hR26, hKR.tr z_96.1 (by decide) (by decide), z_96.2.1.trans (eR.trans eQ), (by rw [z_96.2.1, eR]; exact hok), z_96.2.2.1, (fun j a => (z_96.2.2.2.1 j a).trans (congrFun (hKR 2 (by decide)) j)), (fun j a => (z_96.2.2.2.2 j a).trans (congrFun (hKR 4 (by decide)) j)), p_113.trans (by rw [if_pos k_104]), (congrArg Int32.toInt (congrFun (z_96.1 3 (by decide)) _)).trans (by rw [z_96.2.1]; exact congrArg Int32.toInt (rowR_eq (by omega)).symm)⟩⟩⟩
          · skip
            rw [z_73] at c_76
            have k_76 := bI_f.mp c_76
            refine lv_aload_n hx hb dX9_setCalendar_79 rfl (lv_at hl 1 rfl) ?_
            refine lv_iconst (v := 3) hx hb dX9_setCalendar_80 (by decide) ?_
            refine mm_cCI X w (c_X9_fails l D t b n σ0 (va_up (va_up I_37 10 0) 12 (-1)) R_37 3 3 (show (3 : Int32).toInt = 3 from rfl)) v_X9_143 rfl rfl ⟨Nat.le_of_ble_eq_true rfl, Nat.le_of_ble_eq_true rfl⟩ rfl hl.1 (Nat.le_of_ble_eq_true rfl) dX9_setCalendar_81 ⟨Nat.zero_le _, Nat.zero_le _⟩ (fun r_81 I_81 H locs z_81 w => ?_)
            exact q_cret (post := (fun z n1 σ1 => n1 = n ∧ ∃ I1 R1, σ1 = mS t b σ0 I1 R1 ∧ kpI [0, 5, 10, 11, 12, 13, 14, 15, 28, 29, 31] I I1 ∧ (I1 0).toInt = (if 0 ≤ ca ∧ ca ≤ (if (I 5).toInt < 6 then (I 5).toInt else 5) then (if (sCal T (I 10).toInt).1 = true then (if possB (rowQ (sCal T (I 10).toInt).2.2.1) (sCal T (I 10).toInt).2.2.2 = true then 0 else 3) else 2) else 1) ∧ (I1 10).toInt = 0 ∧ (I1 12).toInt = (if 0 ≤ ca ∧ ca ≤ (if (I 5).toInt < 6 then (I 5).toInt else 5) then (if (sCal T (I 10).toInt).1 = true then -1 else (sCal T (I 10).toInt).2.1) else (I 12).toInt) ∧ ((I1 0).toInt ≠ 0 → kpR [3] Rw R1 ∧ I1 5 = I 5 ∧ I1 28 = I 28) ∧ ((I1 0).toInt = 0 → (I1 28).toInt = remC (I 28).toInt + 1 ∧ R1 26 = remR I Rw ∧ kpR [2, 3, 4, 26] Rw R1 ∧ rowM R1 ca = rowQ (sCal T (I 10).toInt).2.2.1 ∧ okRow (rowM R1 ca) ∧ okF R1 ca ∧ (∀ j : Nat, ((j : Int) < 33 * ca ∨ 33 * ca + 33 ≤ (j : Int)) → R1 2 j = Rw 2 j) ∧ (∀ j : Nat, ((j : Int) < 4042 * ca ∨ 4042 * ca + 4042 ≤ (j : Int)) → R1 4 j = Rw 4 j) ∧ (I1 5).toInt = (if ca = (I 5).toInt then (I 5).toInt + 1 else (I 5).toInt) ∧ z.toInt = rv (rowM R1 ca) 0))) X w dX9_setCalendar_84 (rfl) ⟨rfl, _, _, rfl, by have hL : (if (I 5).toInt < 6 then (I 5).toInt else 5) = (I 5).toInt := (if_pos (Int.not_le.mp k_8)); have hy : 0 ≤ ca ∧ ca ≤ (if (I 5).toInt < 6 then (I 5).toInt else 5) := (by rw [hL]; exact k_22); have hk := kpI.tr (J := [0, 5, 10, 11, 12, 13, 14, 15, 28, 29, 31]) (kpI.up (J := [0, 5, 10, 11, 12, 13, 14, 15, 28, 29, 31]) (kpI.up (J := [0, 5, 10, 11, 12, 13, 14, 15, 28, 29, 31]) (z_37.1.wk (by decide)) (by decide)) (by decide)) z_81.1 (by decide) (by decide); exact ⟨hk, z_81.2.1.trans (by rw [if_pos hy, if_pos k_63, ← eQ, if_neg k_76]), congrArg Int32.toInt (z_81.1 10 (by decide)), (congrArg Int32.toInt (z_81.1 12 (by decide))).trans (by rw [if_pos hy, if_pos k_63]; rfl), fun _ => ⟨z_37.2.1, (z_81.1 5 (by decide)).trans (z_37.1 5 (by decide)), (z_81.1 28 (by decide)).trans (z_37.1 28 (by decide))⟩, fun q => absurd (z_81.2.1.symm.trans q) (by decide)⟩⟩
        · skip
          rw [(bI_b z_37.2.2.1)] at c_63
          have k_63 := bI_f.mp c_63
          exact absurd k_48 k_63
    · skip
      rw [z_19] at c_22
      have k_22 := bI_f.mp c_22
      refine lv_aload_n hx hb dX9_setCalendar_25 rfl (lv_at hl 0 rfl) ?_
      refine lv_iconst (v := 0) hx hb dX9_setCalendar_26 (by decide) ?_
      refine mp_length (v := 0) X w dX9_setCalendar_27 (fun H locs w => ?_)
      refine lv_aload_n hx hb dX9_setCalendar_30 rfl (lv_at hl 0 rfl) ?_
      refine lv_iconst (v := 1) hx hb dX9_setCalendar_31 (by decide) ?_
      refine mm_cCI X w (c_X9_fails l D t b n σ0 (va_up I 10 0) Rw 1 1 (show (1 : Int32).toInt = 1 from rfl)) v_X9_143 rfl rfl ⟨Nat.le_of_ble_eq_true rfl, Nat.le_of_ble_eq_true rfl⟩ rfl hl.1 (Nat.le_of_ble_eq_true rfl) dX9_setCalendar_32 ⟨Nat.zero_le _, Nat.zero_le _⟩ (fun r_32 I_32 H locs z_32 w => ?_)
      exact q_cret (post := (fun z n1 σ1 => n1 = n ∧ ∃ I1 R1, σ1 = mS t b σ0 I1 R1 ∧ kpI [0, 5, 10, 11, 12, 13, 14, 15, 28, 29, 31] I I1 ∧ (I1 0).toInt = (if 0 ≤ ca ∧ ca ≤ (if (I 5).toInt < 6 then (I 5).toInt else 5) then (if (sCal T (I 10).toInt).1 = true then (if possB (rowQ (sCal T (I 10).toInt).2.2.1) (sCal T (I 10).toInt).2.2.2 = true then 0 else 3) else 2) else 1) ∧ (I1 10).toInt = 0 ∧ (I1 12).toInt = (if 0 ≤ ca ∧ ca ≤ (if (I 5).toInt < 6 then (I 5).toInt else 5) then (if (sCal T (I 10).toInt).1 = true then -1 else (sCal T (I 10).toInt).2.1) else (I 12).toInt) ∧ ((I1 0).toInt ≠ 0 → kpR [3] Rw R1 ∧ I1 5 = I 5 ∧ I1 28 = I 28) ∧ ((I1 0).toInt = 0 → (I1 28).toInt = remC (I 28).toInt + 1 ∧ R1 26 = remR I Rw ∧ kpR [2, 3, 4, 26] Rw R1 ∧ rowM R1 ca = rowQ (sCal T (I 10).toInt).2.2.1 ∧ okRow (rowM R1 ca) ∧ okF R1 ca ∧ (∀ j : Nat, ((j : Int) < 33 * ca ∨ 33 * ca + 33 ≤ (j : Int)) → R1 2 j = Rw 2 j) ∧ (∀ j : Nat, ((j : Int) < 4042 * ca ∨ 4042 * ca + 4042 ≤ (j : Int)) → R1 4 j = Rw 4 j) ∧ (I1 5).toInt = (if ca = (I 5).toInt then (I 5).toInt + 1 else (I 5).toInt) ∧ z.toInt = rv (rowM R1 ca) 0))) X w dX9_setCalendar_35 (rfl) ⟨rfl, _, _, rfl, by have hL : (if (I 5).toInt < 6 then (I 5).toInt else 5) = (I 5).toInt := (if_pos (Int.not_le.mp k_8)); have hn : ¬ (0 ≤ ca ∧ ca ≤ (if (I 5).toInt < 6 then (I 5).toInt else 5)) := (by rw [hL]; exact k_22); exact ⟨kpI.tr (J := [0, 5, 10, 11, 12, 13, 14, 15, 28, 29, 31]) (kpI.up (J := [0, 5, 10, 11, 12, 13, 14, 15, 28, 29, 31]) kpI.rf (by decide)) z_32.1 (by decide) (by decide), z_32.2.1.trans (if_neg hn).symm, congrArg Int32.toInt (z_32.1 10 (by decide)), (congrArg Int32.toInt (z_32.1 12 (by decide))).trans (if_neg hn).symm, fun _ => ⟨kpR.rf, z_32.1 5 (by decide), z_32.1 28 (by decide)⟩, fun q => absurd (z_32.2.1.symm.trans q) (by decide)⟩⟩
