set_option maxHeartbeats 4000000 in
set_option maxRecDepth 100000 in
theorem c_X9_isBetween (l : Launch) (a_v : Int32) (a_lo : Int32) (a_hi : Int32) (v : Int) (lo : Int) (hi : Int) (e_v : a_v.toInt = v) (e_lo : a_lo.toInt = lo) (e_hi : a_hi.toInt = hi) : qF l yX9_isBetween cX9_isBetween 3 (some .boolean) 0 [.int a_v, .int a_lo, .int a_hi] (fun z => z = bI (decide (lo ≤ v ∧ v ≤ hi))) := by
  intro D t b n σ
  refine qP.of (by decide +kernel) (Nat.le_of_ble_eq_true rfl) (fun p e s m args below meth c X w ls hl => ?_)
  have hx := X.1
  have hb := X.2.1
  have hl : lv_has ls 3 [(0, .int a_v), (1, .int a_lo), (2, .int a_hi)] := hl
  refine lv_iload_n hx hb dX9_isBetween_0 rfl (lv_at hl 0 rfl) ?_
  refine lv_iload_n hx hb dX9_isBetween_1 rfl (lv_at hl 1 rfl) ?_
  refine lv_icmp_lt (tgt := 14) hx hb dX9_isBetween_2 (by decide) (fun c_2 => ?_) (fun c_2 => ?_)
  · skip
    have k_2 : v < lo := (g_lt e_v e_lo).mp c_2
    refine lv_iconst (v := 0) hx hb dX9_isBetween_14 (by decide) ?_
    exact q_pretz X w dX9_isBetween_15 (rfl) (by exact bI_0 (by omega))
  · skip
    have k_2 : ¬ (v < lo) := fun h => c_2 ((g_lt e_v e_lo).mpr h)
    refine lv_iload_n hx hb dX9_isBetween_5 rfl (lv_at hl 0 rfl) ?_
    refine lv_iload_n hx hb dX9_isBetween_6 rfl (lv_at hl 2 rfl) ?_
    refine lv_icmp_gt (tgt := 14) hx hb dX9_isBetween_7 (by decide) (fun c_7 => ?_) (fun c_7 => ?_)
    · skip
      have k_7 : hi < v := (g_lt e_hi e_v).mp c_7
      refine lv_iconst (v := 0) hx hb dX9_isBetween_14 (by decide) ?_
      exact q_pretz X w dX9_isBetween_15 (rfl) (by exact bI_0 (by omega))
    · skip
      have k_7 : ¬ (hi < v) := fun h => c_7 ((g_lt e_hi e_v).mpr h)
      refine lv_iconst (v := 1) hx hb dX9_isBetween_10 (by decide) ?_
      refine lv_goto (tgt := 15) hx hb dX9_isBetween_11 (by decide) ?_
      exact q_pretz X w dX9_isBetween_15 (rfl) (by exact bI_1 (by omega))

set_option maxHeartbeats 4000000 in
set_option maxRecDepth 100000 in
theorem c_X9_isYear (l : Launch) (a_yr : Int32) (yr : Int) (e_yr : a_yr.toInt = yr) : qF l yX9_isYear cX9_isYear 1 (some .boolean) 1 [.int a_yr] (fun z => z = bI (decide (-2000 ≤ yr ∧ yr ≤ 2000))) := by
  intro D t b n σ
  refine qP.of (by decide +kernel) (Nat.le_of_ble_eq_true rfl) (fun p e s m args below meth c X w ls hl => ?_)
  have hx := X.1
  have hb := X.2.1
  have hl : lv_has ls 1 [(0, .int a_yr)] := hl
  refine lv_iload_n hx hb dX9_isYear_0 rfl (lv_at hl 0 rfl) ?_
  refine lv_sipush (v := (-2000)) hx hb dX9_isYear_1 (by decide) ?_
  refine lv_sipush (v := 2000) hx hb dX9_isYear_4 (by decide) ?_
  refine q_cPS X w (c_X9_isBetween l a_yr (-2000) 2000 yr (-2000) 2000 e_yr (show ((-2000) : Int32).toInt = (-2000) from rfl) (show (2000 : Int32).toInt = 2000 from rfl) D t b n _) v_X9_70 rfl ⟨Nat.le_of_ble_eq_true rfl, Nat.le_of_ble_eq_true rfl⟩ rfl hl.1 (Nat.le_of_ble_eq_true rfl) dX9_isYear_7 ⟨Nat.zero_le _, Nat.zero_le _⟩ (fun r_7 z_7 => ?_)
  exact q_pretz X w dX9_isYear_10 (by rw [z_7]; exact bI_nar _) (by exact z_7.trans (bI_c (by omega)))

set_option maxHeartbeats 4000000 in
set_option maxRecDepth 100000 in
theorem c_X9_isDay (l : Launch) (a_dy : Int32) (dy : Int) (e_dy : a_dy.toInt = dy) : qF l yX9_isDay cX9_isDay 1 (some .boolean) 1 [.int a_dy] (fun z => z = bI (decide (-999999 ≤ dy ∧ dy ≤ 999999))) := by
  intro D t b n σ
  refine qP.of (by decide +kernel) (Nat.le_of_ble_eq_true rfl) (fun p e s m args below meth c X w ls hl => ?_)
  have hx := X.1
  have hb := X.2.1
  have hl : lv_has ls 1 [(0, .int a_dy)] := hl
  refine lv_iload_n hx hb dX9_isDay_0 rfl (lv_at hl 0 rfl) ?_
  refine lv_ldc hx hb X.2.2.2.1 (X.2.2.1 _ kc_X9_74) dX9_isDay_1 ?_
  refine lv_ldc hx hb X.2.2.2.1 (X.2.2.1 _ kc_X9_75) dX9_isDay_3 ?_
  refine q_cPS X w (c_X9_isBetween l a_dy (-999999) 999999 dy (-999999) 999999 e_dy (show ((-999999) : Int32).toInt = (-999999) from rfl) (show (999999 : Int32).toInt = 999999 from rfl) D t b n _) v_X9_70 rfl ⟨Nat.le_of_ble_eq_true rfl, Nat.le_of_ble_eq_true rfl⟩ rfl hl.1 (Nat.le_of_ble_eq_true rfl) dX9_isDay_5 ⟨Nat.zero_le _, Nat.zero_le _⟩ (fun r_5 z_5 => ?_)
  exact q_pretz X w dX9_isDay_8 (by rw [z_5]; exact bI_nar _) (by exact z_5.trans (bI_c (by omega)))

set_option maxHeartbeats 4000000 in
set_option maxRecDepth 100000 in
theorem c_X9_of (l : Launch) (D : va_G) (t : Nat → ClassId) (b n : Nat) (σ0 : qM) (I : Nat → Int32) (Rw : Nat → Nat → Int32) (a_ca : Int32) (a_k : Int32) (ca : Int) (k : Int) (e_ca : a_ca.toInt = ca) (e_k : a_k.toInt = k) (h_1 : 0 ≤ ca ∧ ca < 6) (h_2 : 0 ≤ k ∧ k < 33) : qP l yX9_of cX9_of 3 (some .int) 0 D t b n (mS t b σ0 I Rw) [.ref (b + 45), .int a_ca, .int a_k] (fun z => z = rowM Rw ca k) := by
  refine qP.of (by decide +kernel) (Nat.le_of_ble_eq_true rfl) (fun p e s m args below meth c X w ls hl => ?_)
  have hx := X.1
  have hb := X.2.1
  have hl : lv_has ls 3 [(0, .ref (b + 45)), (1, .int a_ca), (2, .int a_k)] := hl
  refine lv_aload_n hx hb dX9_of_0 rfl (lv_at hl 0 rfl) ?_
  refine mg_calendar X w dX9_of_1 ?_
  refine lv_bipush (v := 33) hx hb dX9_of_4 (by decide) ?_
  refine lv_iload_n hx hb dX9_of_6 rfl (lv_at hl 1 rfl) ?_
  refine lv_imul hx hb dX9_of_7 ?_
  refine lv_topi (fun x_7 e_7 => ?_)
  have p_7 : x_7.toInt = (33 * ca) := by rw [e_7]; exact t_mul (show (33 : Int32).toInt = 33 from rfl) e_ca (by omega) (by omega)
  refine lv_iload_n hx hb dX9_of_8 rfl (lv_at hl 2 rfl) ?_
  refine lv_iadd hx hb dX9_of_9 ?_
  refine lv_topi (fun x_9 e_9 => ?_)
  have p_9 : x_9.toInt = ((33 * ca) + k) := by rw [e_9]; exact t_add p_7 e_k (by omega) (by omega)
  refine ml_calendar X w (g_in p_9 (by omega)) dX9_of_10 ?_
  refine q_topE (y := Rw 2 ((33 * ca) + k).toNat) (congrArg (Rw 2) (g_tn p_9)) ?_
  exact q_pret X w dX9_of_11 (by exact (rowM_eq h_2).symm)

set_option maxHeartbeats 4000000 in
set_option maxRecDepth 100000 in
theorem c_X9_isCalendar (l : Launch) (D : va_G) (t : Nat → ClassId) (b n : Nat) (σ0 : qM) (I : Nat → Int32) (Rw : Nat → Nat → Int32) (a_ca : Int32) (ca : Int) (e_ca : a_ca.toInt = ca) : qP l yX9_isCalendar cX9_isCalendar 2 (some .boolean) 0 D t b n (mS t b σ0 I Rw) [.ref (b + 45), .int a_ca] (fun z => z = bI (decide (0 ≤ ca ∧ ca < (I 5).toInt))) := by
  refine qP.of (by decide +kernel) (Nat.le_of_ble_eq_true rfl) (fun p e s m args below meth c X w ls hl => ?_)
  have hx := X.1
  have hb := X.2.1
  have hl : lv_has ls 2 [(0, .ref (b + 45)), (1, .int a_ca)] := hl
  refine lv_iload_n hx hb dX9_isCalendar_0 rfl (lv_at hl 1 rfl) ?_
  refine lv_if_lt (tgt := 16) hx hb dX9_isCalendar_1 (by decide) (fun c_1 => ?_) (fun c_1 => ?_)
  · skip
    have k_1 : ca < 0 := (g_lt e_ca (show (0 : Int32).toInt = 0 from rfl)).mp c_1
    refine lv_iconst (v := 0) hx hb dX9_isCalendar_16 (by decide) ?_
    exact q_pretz X w dX9_isCalendar_17 (rfl) (by exact bI_0 (by omega))
  · skip
    have k_1 : ¬ (ca < 0) := fun h => c_1 ((g_lt e_ca (show (0 : Int32).toInt = 0 from rfl)).mpr h)
    refine lv_iload_n hx hb dX9_isCalendar_4 rfl (lv_at hl 1 rfl) ?_
    refine lv_aload_n hx hb dX9_isCalendar_5 rfl (lv_at hl 0 rfl) ?_
    refine mg_calendars X w dX9_isCalendar_6 ?_
    refine lv_icmp_ge (tgt := 16) hx hb dX9_isCalendar_9 (by decide) (fun c_9 => ?_) (fun c_9 => ?_)
    · skip
      have k_9 : ((I 5).toInt) ≤ ca := (g_le rfl e_ca).mp c_9
      refine lv_iconst (v := 0) hx hb dX9_isCalendar_16 (by decide) ?_
      exact q_pretz X w dX9_isCalendar_17 (rfl) (by exact bI_0 (by omega))
    · skip
      have k_9 : ¬ (((I 5).toInt) ≤ ca) := fun h => c_9 ((g_le rfl e_ca).mpr h)
      refine lv_iconst (v := 1) hx hb dX9_isCalendar_12 (by decide) ?_
      refine lv_goto (tgt := 17) hx hb dX9_isCalendar_13 (by decide) ?_
      exact q_pretz X w dX9_isCalendar_17 (rfl) (by exact bI_1 (by omega))

set_option maxHeartbeats 4000000 in
set_option maxRecDepth 100000 in
theorem c_X9_isLeap (l : Launch) (D : va_G) (t : Nat → ClassId) (b n : Nat) (σ0 : qM) (I : Nat → Int32) (Rw : Nat → Nat → Int32) (a_ca : Int32) (a_yr : Int32) (ca : Int) (yr : Int) (e_ca : a_ca.toInt = ca) (e_yr : a_yr.toInt = yr) (h_1 : 0 ≤ ca ∧ ca < 6) (h_2 : okRow (rowM Rw ca)) : qP l yX9_isLeap cX9_isLeap 5 (some .boolean) 1 D t b n (mS t b σ0 I Rw) [.ref (b + 45), .int a_ca, .int a_yr] (fun z => z = bI (decide (leap (rowM Rw ca) yr = true))) := by
  refine qP.of (by decide +kernel) (Nat.le_of_ble_eq_true rfl) (fun p e s m args below meth c X w ls hl => ?_)
  have hx := X.1
  have hb := X.2.1
  have hl : lv_has ls 5 [(0, .ref (b + 45)), (1, .int a_ca), (2, .int a_yr)] := hl
  refine lv_aload_n hx hb dX9_isLeap_0 rfl (lv_at hl 0 rfl) ?_
  refine lv_iload_n hx hb dX9_isLeap_1 rfl (lv_at hl 1 rfl) ?_
  refine lv_bipush (v := 19) hx hb dX9_isLeap_2 (by decide) ?_
  refine q_cPV X w (c_X9_of l D t b n σ0 I Rw a_ca 19 ca 19 e_ca (show (19 : Int32).toInt = 19 from rfl) (by first | assumption | omega) (by first | assumption | omega)) v_X9_80 (k := 45) rfl rfl rfl ⟨Nat.le_of_ble_eq_true rfl, Nat.le_of_ble_eq_true rfl⟩ rfl hl.1 (Nat.le_of_ble_eq_true rfl) dX9_isLeap_4 ⟨Nat.zero_le _, Nat.zero_le _⟩ (fun r_4 z_4 => ?_)
  refine lv_iconst (v := 2) hx hb dX9_isLeap_7 (by decide) ?_
  refine lv_icmp_ne (tgt := 42) hx hb dX9_isLeap_8 (by decide) (fun c_8 => ?_) (fun c_8 => ?_)
  · skip
    have k_8 : ¬ ((rv (rowM Rw ca) 19) = 2) := fun h => c_8 ((g_eq (congrArg Int32.toInt z_4) (show (2 : Int32).toInt = 2 from rfl)).mpr h)
    refine lv_iconst (v := (-1)) hx hb dX9_isLeap_42 (by decide) ?_
    refine lv_istore_n (lv' := [(3, .int (-1)), (0, .ref (b + 45)), (1, .int a_ca), (2, .int a_yr)]) hx hb dX9_isLeap_43 rfl hl (by decide) rfl (fun ls hl => ?_)
    refine lv_iconst (v := 0) hx hb dX9_isLeap_44 (by decide) ?_
    refine lv_istore (lv' := [(4, .int 0), (3, .int (-1)), (0, .ref (b + 45)), (1, .int a_ca), (2, .int a_yr)]) hx hb dX9_isLeap_45 hl (by decide) rfl (fun ls hl => ?_)
    refine q_loop (α := Int32 × Int32 × Int × Int) (fun a => a.1.toInt = a.2.2.1 ∧ a.2.1.toInt = a.2.2.2 ∧ ((0 ≤ a.2.2.2 ∧ a.2.2.2 ≤ 4) ∧ a.2.2.1 = sgn (rowM Rw ca) yr a.2.2.2.toNat)) (fun a => (4 - a.2.2.2).toNat) (fun a => ∀ ls : Array Slot, lv_has ls 5 [(4, .int a.2.1), (3, .int a.1), (0, .ref (b + 45)), (1, .int a_ca), (2, .int a_yr)] → W p l e (qR 1 0 0) s m args below meth c s.heap [] 0 0 (MQ below (vp_Si (fun z => z = bI (decide (leap (rowM Rw ca) yr = true)))) args s 0 0 (fun _ => False)) (F0 m 47 ls [])) ?_ ⟨(-1), 0, (-1), 0⟩ ⟨(show ((-1) : Int32).toInt = (-1) from rfl), (show (0 : Int32).toInt = 0 from rfl), by dsimp only; exact ⟨by omega, rfl⟩⟩ ls (lv_sub hl [0, 1, 2, 3, 4] rfl)
    rintro ⟨v_sg, v_k, sg, k⟩ ⟨q_sg, q_k, inv_47⟩ ih_47 ls hl
    dsimp only at q_sg q_k inv_47 hl
    refine lv_iload hx hb dX9_isLeap_47 (lv_at hl 0 rfl) ?_
    refine lv_iconst (v := 4) hx hb dX9_isLeap_49 (by decide) ?_
    refine lv_icmp_ge (tgt := 100) hx hb dX9_isLeap_50 (by decide) (fun c_50 => ?_) (fun c_50 => ?_)
    · skip
      have k_50 : 4 ≤ k := (g_le (show (4 : Int32).toInt = 4 from rfl) q_k).mp c_50
      refine lv_aload_n hx hb dX9_isLeap_100 rfl (lv_at hl 2 rfl) ?_
      refine lv_iload_n hx hb dX9_isLeap_101 rfl (lv_at hl 3 rfl) ?_
      refine lv_bipush (v := 19) hx hb dX9_isLeap_102 (by decide) ?_
      refine q_cPV X w (c_X9_of l D t b n σ0 I Rw a_ca 19 ca 19 e_ca (show (19 : Int32).toInt = 19 from rfl) (by first | assumption | omega) (by first | assumption | omega)) v_X9_80 (k := 45) rfl rfl rfl ⟨Nat.le_of_ble_eq_true rfl, Nat.le_of_ble_eq_true rfl⟩ rfl hl.1 (Nat.le_of_ble_eq_true rfl) dX9_isLeap_104 ⟨Nat.zero_le _, Nat.zero_le _⟩ (fun r_104 z_104 => ?_)
      refine lv_iconst (v := 1) hx hb dX9_isLeap_107 (by decide) ?_
      refine lv_icmp_ne (tgt := 119) hx hb dX9_isLeap_108 (by decide) (fun c_108 => ?_) (fun c_108 => ?_)
      · skip
        have k_108 : ¬ ((rv (rowM Rw ca) 19) = 1) := fun h => c_108 ((g_eq (congrArg Int32.toInt z_104) (show (1 : Int32).toInt = 1 from rfl)).mpr h)
        refine lv_iconst (v := 0) hx hb dX9_isLeap_119 (by decide) ?_
        exact q_pretz X w dX9_isLeap_120 (rfl) (by exact bI_0 (by rw [leap_iff]; unfold leapP; rw [if_neg k_8]; intro q; first | exact k_108 q.1 | (rw [show k = 4 by omega] at inv_47; rw [inv_47.2] at k_112; exact absurd q.2 (Int.not_lt.mpr k_112))))
      · skip
        have k_108 : (rv (rowM Rw ca) 19) = 1 := (g_eq (congrArg Int32.toInt z_104) (show (1 : Int32).toInt = 1 from rfl)).mp c_108
        refine lv_iload_n hx hb dX9_isLeap_111 rfl (lv_at hl 1 rfl) ?_
        refine lv_if_le (tgt := 119) hx hb dX9_isLeap_112 (by decide) (fun c_112 => ?_) (fun c_112 => ?_)
        · skip
          have k_112 : sg ≤ 0 := (g_le q_sg (show (0 : Int32).toInt = 0 from rfl)).mp c_112
          refine lv_iconst (v := 0) hx hb dX9_isLeap_119 (by decide) ?_
          exact q_pretz X w dX9_isLeap_120 (rfl) (by exact bI_0 (by rw [leap_iff]; unfold leapP; rw [if_neg k_8]; intro q; first | exact k_108 q.1 | (rw [show k = 4 by omega] at inv_47; rw [inv_47.2] at k_112; exact absurd q.2 (Int.not_lt.mpr k_112))))
        · skip
          have k_112 : ¬ (sg ≤ 0) := fun h => c_112 ((g_le q_sg (show (0 : Int32).toInt = 0 from rfl)).mpr h)
          refine lv_iconst (v := 1) hx hb dX9_isLeap_115 (by decide) ?_
          refine lv_goto (tgt := 120) hx hb dX9_isLeap_116 (by decide) ?_
          exact q_pretz X w dX9_isLeap_120 (rfl) (by exact bI_1 (by rw [leap_iff]; unfold leapP; rw [if_neg k_8]; exact ⟨by omega, by rw [show k = 4 by omega] at inv_47; rw [inv_47.2] at k_112; exact Int.not_le.mp k_112⟩))
    · skip
      have k_50 : ¬ (4 ≤ k) := fun h => c_50 ((g_le (show (4 : Int32).toInt = 4 from rfl) q_k).mpr h)
      refine lv_aload_n hx hb dX9_isLeap_53 rfl (lv_at hl 2 rfl) ?_
      refine lv_iload_n hx hb dX9_isLeap_54 rfl (lv_at hl 3 rfl) ?_
      refine lv_bipush (v := 24) hx hb dX9_isLeap_55 (by decide) ?_
      refine lv_iload hx hb dX9_isLeap_57 (lv_at hl 0 rfl) ?_
      refine lv_iadd hx hb dX9_isLeap_59 ?_
      refine lv_topi (fun x_59 e_59 => ?_)
      have p_59 : x_59.toInt = (24 + k) := by rw [e_59]; exact t_add (show (24 : Int32).toInt = 24 from rfl) q_k (by omega) (by omega)
      refine q_cPV X w (c_X9_of l D t b n σ0 I Rw a_ca x_59 ca (24 + k) e_ca p_59 (by first | assumption | omega) (by first | assumption | omega)) v_X9_80 (k := 45) rfl rfl rfl ⟨Nat.le_of_ble_eq_true rfl, Nat.le_of_ble_eq_true rfl⟩ rfl hl.1 (Nat.le_of_ble_eq_true rfl) dX9_isLeap_60 ⟨Nat.zero_le _, Nat.zero_le _⟩ (fun r_60 z_60 => ?_)
      refine lv_if_eq (tgt := 94) hx hb dX9_isLeap_63 (by decide) (fun c_63 => ?_) (fun c_63 => ?_)
      · skip
        have k_63 : (rv (rowM Rw ca) (24 + k)) = 0 := (g_eq (congrArg Int32.toInt z_60) (show (0 : Int32).toInt = 0 from rfl)).mp c_63
        obtain ⟨x_94, e_94⟩ : ∃ z : Int32, z = (v_k + 1) := ⟨_, rfl⟩
        have p_94 : x_94.toInt = (k + 1) := by rw [e_94]; exact t_add q_k (show (1 : Int32).toInt = 1 from rfl) (by omega) (by omega)
        refine lv_iinc (v := x_94) (lv' := [(4, .int x_94), (3, .int v_sg), (0, .ref (b + 45)), (1, .int a_ca), (2, .int a_yr)]) hx hb dX9_isLeap_94 hl (k := 0) rfl (by rw [e_94]; rfl) (by decide) rfl (fun ls hl => ?_)
        refine lv_goto (tgt := 47) hx hb dX9_isLeap_97 (by decide) ?_
        refine ih_47 ⟨v_sg, x_94, sg, (k + 1)⟩ ⟨q_sg, p_94, by refine ⟨(by dsimp only; omega), ?_⟩; dsimp only; rw [sgn_f (by omega)]; exact inv_47.2; omega⟩ (by dsimp only; omega) ls (lv_sub hl [0, 1, 2, 3, 4] rfl)
      · skip
        have k_63 : ¬ ((rv (rowM Rw ca) (24 + k)) = 0) := fun h => c_63 ((g_eq (congrArg Int32.toInt z_60) (show (0 : Int32).toInt = 0 from rfl)).mpr h)
        refine lv_iload_n hx hb dX9_isLeap_66 rfl (lv_at hl 4 rfl) ?_
        refine lv_aload_n hx hb dX9_isLeap_67 rfl (lv_at hl 2 rfl) ?_
        refine lv_iload_n hx hb dX9_isLeap_68 rfl (lv_at hl 3 rfl) ?_
        refine lv_bipush (v := 20) hx hb dX9_isLeap_69 (by decide) ?_
        refine lv_iload hx hb dX9_isLeap_71 (lv_at hl 0 rfl) ?_
        refine lv_iadd hx hb dX9_isLeap_73 ?_
        refine lv_topi (fun x_73 e_73 => ?_)
        have p_73 : x_73.toInt = (20 + k) := by rw [e_73]; exact t_add (show (20 : Int32).toInt = 20 from rfl) q_k (by omega) (by omega)
        refine q_cPV X w (c_X9_of l D t b n σ0 I Rw a_ca x_73 ca (20 + k) e_ca p_73 (by first | assumption | omega) (by first | assumption | omega)) v_X9_80 (k := 45) rfl rfl rfl ⟨Nat.le_of_ble_eq_true rfl, Nat.le_of_ble_eq_true rfl⟩ rfl hl.1 (Nat.le_of_ble_eq_true rfl) dX9_isLeap_74 ⟨Nat.zero_le _, Nat.zero_le _⟩ (fun r_74 z_74 => ?_)
        refine q_cPS X w (c_J9_floorMod_7cf53 l a_yr r_74 yr (rv (rowM Rw ca) (20 + k)) e_yr (congrArg Int32.toInt z_74) (by have := h_2.div (k := k) (by omega) (by omega) k_63; omega) D t b n (mS t b σ0 I Rw)) v_X9_83 rfl ⟨Nat.le_of_ble_eq_true rfl, Nat.le_of_ble_eq_true rfl⟩ rfl hl.1 (Nat.le_of_ble_eq_true rfl) dX9_isLeap_77 ⟨Nat.zero_le _, Nat.zero_le _⟩ (fun r_77 z_77 => ?_)
        refine lv_if_ne (tgt := 94) hx hb dX9_isLeap_80 (by decide) (fun c_80 => ?_) (fun c_80 => ?_)
        · skip
          have k_80 : ¬ ((yr % (rv (rowM Rw ca) (20 + k))) = 0) := fun h => c_80 ((g_eq z_77 (show (0 : Int32).toInt = 0 from rfl)).mpr h)
          obtain ⟨x_94, e_94⟩ : ∃ z : Int32, z = (v_k + 1) := ⟨_, rfl⟩
          have p_94 : x_94.toInt = (k + 1) := by rw [e_94]; exact t_add q_k (show (1 : Int32).toInt = 1 from rfl) (by omega) (by omega)
          refine lv_iinc (v := x_94) (lv' := [(4, .int x_94), (3, .int v_sg), (0, .ref (b + 45)), (1, .int a_ca), (2, .int a_yr)]) hx hb dX9_isLeap_94 hl (k := 0) rfl (by rw [e_94]; rfl) (by decide) rfl (fun ls hl => ?_)
          refine lv_goto (tgt := 47) hx hb dX9_isLeap_97 (by decide) ?_
          refine ih_47 ⟨v_sg, x_94, sg, (k + 1)⟩ ⟨q_sg, p_94, by refine ⟨(by dsimp only; omega), ?_⟩; dsimp only; rw [sgn_f (by omega)]; exact inv_47.2; omega⟩ (by dsimp only; omega) ls (lv_sub hl [0, 1, 2, 3, 4] rfl)
        · skip
          have k_80 : (yr % (rv (rowM Rw ca) (20 + k))) = 0 := (g_eq z_77 (show (0 : Int32).toInt = 0 from rfl)).mp c_80
          refine lv_aload_n hx hb dX9_isLeap_83 rfl (lv_at hl 2 rfl) ?_
          refine lv_iload_n hx hb dX9_isLeap_84 rfl (lv_at hl 3 rfl) ?_
          refine lv_bipush (v := 24) hx hb dX9_isLeap_85 (by decide) ?_
          refine lv_iload hx hb dX9_isLeap_87 (lv_at hl 0 rfl) ?_
          refine lv_iadd hx hb dX9_isLeap_89 ?_
          refine lv_topi (fun x_89 e_89 => ?_)
          have p_89 : x_89.toInt = (24 + k) := by rw [e_89]; exact t_add (show (24 : Int32).toInt = 24 from rfl) q_k (by omega) (by omega)
          refine q_cPV X w (c_X9_of l D t b n σ0 I Rw a_ca x_89 ca (24 + k) e_ca p_89 (by first | assumption | omega) (by first | assumption | omega)) v_X9_80 (k := 45) rfl rfl rfl ⟨Nat.le_of_ble_eq_true rfl, Nat.le_of_ble_eq_true rfl⟩ rfl hl.1 (Nat.le_of_ble_eq_true rfl) dX9_isLeap_90 ⟨Nat.zero_le _, Nat.zero_le _⟩ (fun r_90 z_90 => ?_)
          refine lv_istore_n (lv' := [(3, .int r_90), (4, .int v_k), (0, .ref (b + 45)), (1, .int a_ca), (2, .int a_yr)]) hx hb dX9_isLeap_93 rfl hl (by decide) rfl (fun ls hl => ?_)
          obtain ⟨x_94, e_94⟩ : ∃ z : Int32, z = (v_k + 1) := ⟨_, rfl⟩
          have p_94 : x_94.toInt = (k + 1) := by rw [e_94]; exact t_add q_k (show (1 : Int32).toInt = 1 from rfl) (by omega) (by omega)
          refine lv_iinc (v := x_94) (lv' := [(4, .int x_94), (3, .int r_90), (0, .ref (b + 45)), (1, .int a_ca), (2, .int a_yr)]) hx hb dX9_isLeap_94 hl (k := 1) rfl (by rw [e_94]; rfl) (by decide) rfl (fun ls hl => ?_)
          refine lv_goto (tgt := 47) hx hb dX9_isLeap_97 (by decide) ?_
          refine ih_47 ⟨r_90, x_94, rv (rowM Rw ca) (24 + k), (k + 1)⟩ ⟨congrArg Int32.toInt z_90, p_94, by refine ⟨(by dsimp only; omega), ?_⟩; dsimp only; exact (sgn_t (by omega) k_63 k_80).symm⟩ (by dsimp only; omega) ls (lv_sub hl [0, 1, 2, 3, 4] rfl)
  · skip
    have k_8 : (rv (rowM Rw ca) 19) = 2 := (g_eq (congrArg Int32.toInt z_4) (show (2 : Int32).toInt = 2 from rfl)).mp c_8
    refine lv_aload_n hx hb dX9_isLeap_11 rfl (lv_at hl 0 rfl) ?_
    refine lv_iload_n hx hb dX9_isLeap_12 rfl (lv_at hl 1 rfl) ?_
    refine lv_bipush (v := 29) hx hb dX9_isLeap_13 (by decide) ?_
    refine q_cPV X w (c_X9_of l D t b n σ0 I Rw a_ca 29 ca 29 e_ca (show (29 : Int32).toInt = 29 from rfl) (by first | assumption | omega) (by first | assumption | omega)) v_X9_80 (k := 45) rfl rfl rfl ⟨Nat.le_of_ble_eq_true rfl, Nat.le_of_ble_eq_true rfl⟩ rfl hl.1 (Nat.le_of_ble_eq_true rfl) dX9_isLeap_15 ⟨Nat.zero_le _, Nat.zero_le _⟩ (fun r_15 z_15 => ?_)
    refine lv_iload_n hx hb dX9_isLeap_18 rfl (lv_at hl 2 rfl) ?_
    refine lv_aload_n hx hb dX9_isLeap_19 rfl (lv_at hl 0 rfl) ?_
    refine lv_iload_n hx hb dX9_isLeap_20 rfl (lv_at hl 1 rfl) ?_
    refine lv_bipush (v := 28) hx hb dX9_isLeap_21 (by decide) ?_
    refine q_cPV X w (c_X9_of l D t b n σ0 I Rw a_ca 28 ca 28 e_ca (show (28 : Int32).toInt = 28 from rfl) (by first | assumption | omega) (by first | assumption | omega)) v_X9_80 (k := 45) rfl rfl rfl ⟨Nat.le_of_ble_eq_true rfl, Nat.le_of_ble_eq_true rfl⟩ rfl hl.1 (Nat.le_of_ble_eq_true rfl) dX9_isLeap_23 ⟨Nat.zero_le _, Nat.zero_le _⟩ (fun r_23 z_23 => ?_)
    refine q_cPS X w (c_J9_floorMod_7cf53 l a_yr r_23 yr (rv (rowM Rw ca) 28) e_yr (congrArg Int32.toInt z_23) (by have := h_2.cyc k_8; omega) D t b n (mS t b σ0 I Rw)) v_X9_83 rfl ⟨Nat.le_of_ble_eq_true rfl, Nat.le_of_ble_eq_true rfl⟩ rfl hl.1 (Nat.le_of_ble_eq_true rfl) dX9_isLeap_26 ⟨Nat.zero_le _, Nat.zero_le _⟩ (fun r_26 z_26 => ?_)
    refine lv_ishr hx hb dX9_isLeap_29 ?_
    refine lv_topi (fun x_29 e_29 => ?_)
    have p_29 : x_29.toInt = ((r_15 >>> (r_26 &&& 31))).toInt := by rw [e_29]; all_goals rfl
    refine lv_iconst (v := 1) hx hb dX9_isLeap_30 (by decide) ?_
    refine lv_iand hx hb dX9_isLeap_31 ?_
    refine lv_topi (fun x_31 e_31 => ?_)
    have p_31 : x_31.toInt = (x_29 &&& 1).toInt := by rw [e_31]; all_goals rfl
    refine lv_iconst (v := 1) hx hb dX9_isLeap_32 (by decide) ?_
    refine lv_icmp_ne (tgt := 40) hx hb dX9_isLeap_33 (by decide) (fun c_33 => ?_) (fun c_33 => ?_)
    · skip
      have k_33 : ¬ (((x_29 &&& 1).toInt) = 1) := fun h => c_33 ((g_eq p_31 (show (1 : Int32).toInt = 1 from rfl)).mpr h)
      refine lv_iconst (v := 0) hx hb dX9_isLeap_40 (by decide) ?_
      exact q_pretz X w dX9_isLeap_41 (rfl) (by exact bI_0 (by rw [leap_iff]; unfold leapP; rw [if_pos k_8]; unfold bitAt; rw [← z_15, ← z_26, i_of]; rw [← e_29, ← e_31]; exact c_33))
    · skip
      have k_33 : ((x_29 &&& 1).toInt) = 1 := (g_eq p_31 (show (1 : Int32).toInt = 1 from rfl)).mp c_33
      refine lv_iconst (v := 1) hx hb dX9_isLeap_36 (by decide) ?_
      refine lv_goto (tgt := 41) hx hb dX9_isLeap_37 (by decide) ?_
      exact q_pretz X w dX9_isLeap_41 (rfl) (by exact bI_1 (by rw [leap_iff]; unfold leapP; rw [if_pos k_8]; unfold bitAt; rw [← z_15, ← z_26, i_of]; rw [← e_29, ← e_31]; exact c_33))
