set_option maxHeartbeats 2000000 in
set_option maxRecDepth 100000 in
theorem c_X8_existing (l : Launch) (D : va_G) (t : Nat → ClassId) (b n : Nat) (σ0 : qM) (A : Nat → Int32) (B : Nat → Nat → Int32) (P : Nat → Nat → Option Nat) (hl0 : l.stackTraces = false) (h_1 : okSt σ0 A P 0) (a_ix : Int32) (ix : Int) (e_ix : a_ix.toInt = ix) : xA l yX8_existing cX8_existing 3 (some (.object "CalendarConverter$Calendar")) 6 1 6 D t b n (cS t b σ0 A B P) [.ref (b + 0), .int a_ix] (fun o n1 σ1 => n1 = n ∧ σ1 = cS t b σ0 A B P ∧ o = P 1 ix.toNat ∧ (0 ≤ ix ∧ ix < (A 20).toInt)) (fun E n1 σ1 => E = "java/lang/IndexOutOfBoundsException" ∧ σ1 = cS t b σ0 A B P ∧ ¬ (0 ≤ ix ∧ ix < (A 20).toInt)) := by
  refine xA.of (by decide +kernel) (Nat.le_of_ble_eq_true rfl) (fun p e s m args below meth c X hE hno w ls hl => ?_)
  have hx := X.1
  have hb := X.2.1
  have hl : lv_has ls 3 [(0, .ref (b + 0)), (1, .int a_ix)] := hl
  have hc6 : 0 ≤ (A 20).toInt ∧ (A 20).toInt ≤ 6 := h_1.1
  refine lv_aload_n hx hb dX8_existing_0 rfl (lv_at hl 0 rfl) ?_
  refine kg_X8_state X w dX8_existing_1 ?_
  refine lv_iload_n hx hb dX8_existing_4 rfl (lv_at hl 1 rfl) ?_
  refine kk_cA X w (c_X6_calendarAt l D t b n σ0 A B P 0 (by decide) a_ix ix e_ix) v_X8_277 (rc := 7) rfl rfl rfl ⟨Nat.le_of_ble_eq_true rfl, Nat.le_of_ble_eq_true rfl⟩ rfl hl.1 (Nat.le_of_ble_eq_true rfl) dX8_existing_5 ⟨Nat.le_of_ble_eq_true rfl, Nat.le_of_ble_eq_true rfl⟩ (fun H locs w => ?_)
  by_cases hin : 0 ≤ ix ∧ ix < (A 20).toInt
  · skip
    rw [if_pos (show 0 ≤ ix ∧ ix < (A (20 + 2 * 0)).toInt ∧ ix < 6 from ⟨hin.1, hin.2, by omega⟩)]
    obtain ⟨q, fs, eq, hq, hs⟩ := h_1.2.2.1 ix.toNat (by show ((ix.toNat : Nat) : Int) < (A 20).toInt; omega)
    rw [eq]
    refine lv_astore_n (lv' := [(2, .ref (b + q)), (0, .ref (b + 0)), (1, .int a_ix)]) hx hb dX8_existing_8 rfl hl (by decide) rfl (fun ls hl => ?_)
    refine lv_aload_n hx hb dX8_existing_9 rfl (lv_at hl 0 rfl) ?_
    refine lv_ifnonnull (tgt := 24) hx hb dX8_existing_10 (by decide) ?_
    refine lv_aload_n hx hb dX8_existing_24 rfl (lv_at hl 0 rfl) ?_
    refine vx_ret ?_
    refine W.widen (k := 1) (n := 6) (Nat.le_of_ble_eq_true rfl) (Nat.le_of_ble_eq_true rfl) ?_
    exact q_aret (post := fun o n1 σ1 => n1 = n ∧ σ1 = cS t b σ0 A B P ∧ o = some q ∧ (0 ≤ ix ∧ ix < (A 20).toInt)) (o := some q) X w (Or.inl ⟨_, rfl⟩) rfl dX8_existing_25 ⟨rfl, rfl, rfl, hin⟩
  · skip
    rw [if_neg (show ¬ (0 ≤ ix ∧ ix < (A (20 + 2 * 0)).toInt ∧ ix < 6) from fun z => hin ⟨z.1, z.2.1⟩)]
    refine lv_astore_nN (lv' := [(2, .null), (0, .ref (b + 0)), (1, .int a_ix)]) hx hb dX8_existing_8 rfl hl (by decide) rfl (fun ls hl => ?_)
    refine lv_aload_nN hx hb dX8_existing_9 rfl (lv_at hl 0 rfl) ?_
    refine lv_ifnonnullN hx hb dX8_existing_10 ?_
    exact x_thrW_io hl0 X hE hno w (is := 332) (text := "no such calendar") (by decide +kernel) hl.1 dX8_existing_13 dX8_existing_16 dX8_existing_17 dX8_existing_20 dX8_existing_23 ⟨Nat.le_of_ble_eq_true rfl, Nat.le_of_ble_eq_true rfl⟩ (Nat.le_of_ble_eq_true rfl) ⟨Nat.le_of_ble_eq_true rfl, Nat.le_of_ble_eq_true rfl⟩ ⟨Nat.le_of_ble_eq_true rfl, Nat.le_of_ble_eq_true rfl⟩ (fun _ => ⟨rfl, rfl, hin⟩)

set_option maxHeartbeats 2000000 in
set_option maxRecDepth 100000 in
theorem c_X8_checkFeast (l : Launch) (D : va_G) (t : Nat → ClassId) (b n : Nat) (σ0 : qM) (A : Nat → Int32) (B : Nat → Nat → Int32) (P : Nat → Nat → Option Nat) (hl0 : l.stackTraces = false) (h_1 : okSt σ0 A P 0) (a_ix : Int32) (ix : Int) (e_ix : a_ix.toInt = ix) : xV l yX8_checkFeast cX8_checkFeast 2 none 6 1 6 D t b n (cS t b σ0 A B P) [.ref (b + 0), .int a_ix] (fun n1 σ1 => n1 = n ∧ σ1 = cS t b σ0 A B P ∧ (0 ≤ ix ∧ ix < (A 21).toInt)) (fun E n1 σ1 => E = "java/lang/IndexOutOfBoundsException" ∧ σ1 = cS t b σ0 A B P ∧ ¬ (0 ≤ ix ∧ ix < (A 21).toInt)) := by
  refine xV.of (by decide +kernel) (Nat.le_of_ble_eq_true rfl) (fun p e s m args below meth c X hE hno w ls hl => ?_)
  have hx := X.1
  have hb := X.2.1
  have hl : lv_has ls 2 [(0, .ref (b + 0)), (1, .int a_ix)] := hl
  have hc8 : 0 ≤ (A 21).toInt ∧ (A 21).toInt ≤ 8 := h_1.2.1
  refine lv_iload_n hx hb dX8_checkFeast_0 rfl (lv_at hl 1 rfl) ?_
  refine lv_iconst (v := 0) hx hb dX8_checkFeast_1 (by decide) ?_
  refine lv_aload_n hx hb dX8_checkFeast_2 rfl (lv_at hl 0 rfl) ?_
  refine kg_X8_state X w dX8_checkFeast_3 ?_
  refine q_cPV X w (c_X6_feastCount l D t b n σ0 A B P 0 (by decide)) v_X8_221 (k := 7) rfl rfl rfl ⟨Nat.le_of_ble_eq_true rfl, Nat.le_of_ble_eq_true rfl⟩ rfl hl.1 (Nat.le_of_ble_eq_true rfl) dX8_checkFeast_6 ⟨Nat.le_of_ble_eq_true rfl, Nat.le_of_ble_eq_true rfl⟩ (fun r_6 z_6 => ?_)
  have p_6 : r_6.toInt = (A 21).toInt := congrArg Int32.toInt z_6
  refine lv_iconst (v := 1) hx hb dX8_checkFeast_9 (by decide) ?_
  refine lv_isub hx hb dX8_checkFeast_10 ?_
  refine lv_topi (fun x_10 e_10 => ?_)
  have p_10 : x_10.toInt = (((A 21).toInt) - 1) := by rw [e_10]; exact t_sub p_6 (show (1 : Int32).toInt = 1 from rfl) (by omega) (by omega)
  refine q_cPS X w (c_X8_isFrom l a_ix 0 x_10 ix 0 (((A 21).toInt) - 1) e_ix (show (0 : Int32).toInt = 0 from rfl) p_10 D t b n (cS t b σ0 A B P)) v_X8_99 rfl ⟨Nat.le_of_ble_eq_true rfl, Nat.le_of_ble_eq_true rfl⟩ rfl hl.1 (Nat.le_of_ble_eq_true rfl) dX8_checkFeast_11 ⟨Nat.zero_le _, Nat.zero_le _⟩ (fun r_11 z_11 => ?_)
  refine lv_if_ne (tgt := 28) hx hb dX8_checkFeast_14 (by decide) (fun c_14 => ?_) (fun c_14 => ?_)
  · skip
    rw [z_11] at c_14
    have k_14 := bI_t.mp c_14
    refine vx_ret ?_
    refine W.widen (k := 1) (n := 6) (Nat.le_of_ble_eq_true rfl) (Nat.le_of_ble_eq_true rfl) ?_
    exact q_vret (post := fun n1 σ1 => n1 = n ∧ σ1 = cS t b σ0 A B P ∧ (0 ≤ ix ∧ ix < (A 21).toInt)) X w dX8_checkFeast_28 ⟨rfl, rfl, by omega⟩
  · skip
    rw [z_11] at c_14
    have k_14 := bI_f.mp c_14
    exact x_thrW_io hl0 X hE hno w (is := 334) (text := "no such feast") (by decide +kernel) hl.1 dX8_checkFeast_17 dX8_checkFeast_20 dX8_checkFeast_21 dX8_checkFeast_24 dX8_checkFeast_27 ⟨Nat.le_of_ble_eq_true rfl, Nat.le_of_ble_eq_true rfl⟩ (Nat.le_of_ble_eq_true rfl) ⟨Nat.le_of_ble_eq_true rfl, Nat.le_of_ble_eq_true rfl⟩ ⟨Nat.le_of_ble_eq_true rfl, Nat.le_of_ble_eq_true rfl⟩ (fun _ => ⟨rfl, rfl, fun z => k_14 (by omega)⟩)

set_option maxHeartbeats 2000000 in
set_option maxRecDepth 100000 in
theorem c_X8_present (l : Launch) (D : va_G) (t : Nat → ClassId) (b n : Nat) (σ0 : qM) (A : Nat → Int32) (B : Nat → Nat → Int32) (P : Nat → Nat → Option Nat) (hl0 : l.stackTraces = false) (a_dy : Int32) (dy : Int) (e_dy : a_dy.toInt = dy) : xC l yX8_present cX8_present 1 (some .int) 6 1 6 D t b n (cS t b σ0 A B P) [.int a_dy] (fun z n1 σ1 => n1 = n ∧ σ1 = cS t b σ0 A B P ∧ z = a_dy ∧ (-999999 ≤ dy ∧ dy ≤ 999999)) (fun E n1 σ1 => E = NS ∧ σ1 = cS t b σ0 A B P ∧ ¬ (-999999 ≤ dy ∧ dy ≤ 999999)) := by
  refine xC.of (by decide +kernel) (Nat.le_of_ble_eq_true rfl) (fun p e s m args below meth c X hE hno w ls hl => ?_)
  have hx := X.1
  have hb := X.2.1
  have hl : lv_has ls 1 [(0, .int a_dy)] := hl
  refine lv_iload_n hx hb dX8_present_0 rfl (lv_at hl 0 rfl) ?_
  refine q_cPS X w (c_X8_isDay l a_dy dy e_dy D t b n (cS t b σ0 A B P)) v_X8_187 rfl ⟨Nat.le_of_ble_eq_true rfl, Nat.le_of_ble_eq_true rfl⟩ rfl hl.1 (Nat.le_of_ble_eq_true rfl) dX8_present_1 ⟨Nat.zero_le _, Nat.zero_le _⟩ (fun r_1 z_1 => ?_)
  refine lv_if_ne (tgt := 18) hx hb dX8_present_4 (by decide) (fun c_4 => ?_) (fun c_4 => ?_)
  · skip
    rw [z_1] at c_4
    have k_4 := bI_t.mp c_4
    refine lv_iload_n hx hb dX8_present_18 rfl (lv_at hl 0 rfl) ?_
    refine vx_ret ?_
    refine W.widen (k := 1) (n := 6) (Nat.le_of_ble_eq_true rfl) (Nat.le_of_ble_eq_true rfl) ?_
    exact q_cret (post := fun z n1 σ1 => n1 = n ∧ σ1 = cS t b σ0 A B P ∧ z = a_dy ∧ (-999999 ≤ dy ∧ dy ≤ 999999)) X w dX8_present_19 rfl ⟨rfl, rfl, rfl, k_4⟩
  · skip
    rw [z_1] at c_4
    have k_4 := bI_f.mp c_4
    exact x_thrW_ns hl0 X hE hno w (is := 341) (text := "there is no such day") (by decide +kernel) hl.1 dX8_present_7 dX8_present_10 dX8_present_11 dX8_present_14 dX8_present_17 ⟨Nat.le_of_ble_eq_true rfl, Nat.le_of_ble_eq_true rfl⟩ (Nat.le_of_ble_eq_true rfl) ⟨Nat.le_of_ble_eq_true rfl, Nat.le_of_ble_eq_true rfl⟩ ⟨Nat.le_of_ble_eq_true rfl, Nat.le_of_ble_eq_true rfl⟩ (fun _ => ⟨rfl, rfl, k_4⟩)

set_option maxHeartbeats 2000000 in
set_option maxRecDepth 100000 in
theorem c_X8_demand (l : Launch) (D : va_G) (t : Nat → ClassId) (b n : Nat) (σ0 : qM) (A : Nat → Int32) (B : Nat → Nat → Int32) (P : Nat → Nat → Option Nat) (hl0 : l.stackTraces = false) (a_v : Int32) : xV l yX8_demand cX8_demand 1 none 6 1 6 D t b n (cS t b σ0 A B P) [.int a_v] (fun n1 σ1 => n1 = n ∧ σ1 = cS t b σ0 A B P ∧ ¬ a_v = 0) (fun E n1 σ1 => E = "java/lang/IllegalArgumentException" ∧ σ1 = cS t b σ0 A B P ∧ a_v = 0) := by
  refine xV.of (by decide +kernel) (Nat.le_of_ble_eq_true rfl) (fun p e s m args below meth c X hE hno w ls hl => ?_)
  have hx := X.1
  have hb := X.2.1
  have hl : lv_has ls 1 [(0, .int a_v)] := hl
  refine lv_iload_n hx hb dX8_demand_0 rfl (lv_at hl 0 rfl) ?_
  refine lv_if_ne (tgt := 15) hx hb dX8_demand_1 (by decide) (fun c_1 => ?_) (fun c_1 => ?_)
  · skip
    have k_1 : ¬ (a_v.toInt = 0) := fun h => c_1 ((g_eq rfl (show (0 : Int32).toInt = 0 from rfl)).mpr h)
    refine vx_ret ?_
    refine W.widen (k := 1) (n := 6) (Nat.le_of_ble_eq_true rfl) (Nat.le_of_ble_eq_true rfl) ?_
    exact q_vret (post := fun n1 σ1 => n1 = n ∧ σ1 = cS t b σ0 A B P ∧ ¬ a_v = 0) X w dX8_demand_15 ⟨rfl, rfl, (by first | exact c_1 | exact fun z => c_1 z)⟩
  · skip
    have k_1 : a_v.toInt = 0 := (g_eq rfl (show (0 : Int32).toInt = 0 from rfl)).mp c_1
    exact x_thrW_ia hl0 X hE hno w (is := 343) (text := "a number is out of range") (by decide +kernel) hl.1 dX8_demand_4 dX8_demand_7 dX8_demand_8 dX8_demand_11 dX8_demand_14 ⟨Nat.le_of_ble_eq_true rfl, Nat.le_of_ble_eq_true rfl⟩ (Nat.le_of_ble_eq_true rfl) ⟨Nat.le_of_ble_eq_true rfl, Nat.le_of_ble_eq_true rfl⟩ ⟨Nat.le_of_ble_eq_true rfl, Nat.le_of_ble_eq_true rfl⟩ (fun _ => ⟨rfl, rfl, (by first | exact c_1 | (by_cases zz : a_v = 0; exact zz; exact absurd zz c_1))⟩)

set_option maxHeartbeats 2000000 in
set_option maxRecDepth 100000 in
theorem c_X8_yearInside (l : Launch) (D : va_G) (t : Nat → ClassId) (b n : Nat) (σ0 : qM) (A : Nat → Int32) (B : Nat → Nat → Int32) (P : Nat → Nat → Option Nat) (hl0 : l.stackTraces = false) (q L C : Nat) (K fl fc : Nat → Int32) (ρ : Row) (hP : CalP t b (cS t b σ0 A B P) q L C K fl fc ρ) (a_dy : Int32) (dy : Int) (e_dy : a_dy.toInt = dy) : xC l yX8_yearInside cX8_yearInside 3 (some .int) 6 1 6 D t b n (cS t b σ0 A B P) [.ref (b + q), .int a_dy] (fun z n1 σ1 => n1 = n ∧ σ1 = cS t b σ0 A B P ∧ z.toInt = yoc ρ dy ∧ yoc ρ dy ≠ -2147483648) (fun E n1 σ1 => E = NS ∧ σ1 = cS t b σ0 A B P ∧ yoc ρ dy = -2147483648) := by
  refine xC.of (by decide +kernel) (Nat.le_of_ble_eq_true rfl) (fun p e s m args below meth c X hE hno w ls hl => ?_)
  have hx := X.1
  have hb := X.2.1
  have hl : lv_has ls 3 [(0, .ref (b + q)), (1, .int a_dy)] := hl
  refine lv_aload_n hx hb dX8_yearInside_0 rfl (lv_at hl 0 rfl) ?_
  refine lv_iload_n hx hb dX8_yearInside_1 rfl (lv_at hl 1 rfl) ?_
  refine q_cPV X w (c_X0_yearOf l D t b n _ q L C K fl fc ρ hP a_dy dy e_dy) v_X8_336 (k := q) hP.1 rfl rfl ⟨Nat.le_of_ble_eq_true rfl, Nat.le_of_ble_eq_true rfl⟩ rfl hl.1 (Nat.le_of_ble_eq_true rfl) dX8_yearInside_2 ⟨Nat.le_of_ble_eq_true rfl, Nat.le_of_ble_eq_true rfl⟩ (fun r_2 z_2 => ?_)
  refine lv_istore_n (lv' := [(2, .int r_2), (0, .ref (b + q)), (1, .int a_dy)]) hx hb dX8_yearInside_5 rfl hl (by decide) rfl (fun ls hl => ?_)
  refine lv_iload_n hx hb dX8_yearInside_6 rfl (lv_at hl 0 rfl) ?_
  refine lv_ldcw hx hb X.2.2.2.1 (X.2.2.1 _ kc_X8_260) dX8_yearInside_7 ?_
  refine lv_icmp_ne (tgt := 24) hx hb dX8_yearInside_10 (by decide) (fun c_10 => ?_) (fun c_10 => ?_)
  · skip
    have k_10 : ¬ ((yoc ρ dy) = (-2147483648)) := fun h => c_10 ((g_eq z_2 (show ((-2147483648) : Int32).toInt = (-2147483648) from rfl)).mpr h)
    refine lv_iload_n hx hb dX8_yearInside_24 rfl (lv_at hl 0 rfl) ?_
    refine vx_ret ?_
    refine W.widen (k := 1) (n := 6) (Nat.le_of_ble_eq_true rfl) (Nat.le_of_ble_eq_true rfl) ?_
    exact q_cret (post := fun z n1 σ1 => n1 = n ∧ σ1 = cS t b σ0 A B P ∧ z.toInt = yoc ρ dy ∧ yoc ρ dy ≠ -2147483648) X w dX8_yearInside_25 rfl ⟨rfl, rfl, z_2, k_10⟩
  · skip
    have k_10 : (yoc ρ dy) = (-2147483648) := (g_eq z_2 (show ((-2147483648) : Int32).toInt = (-2147483648) from rfl)).mp c_10
    exact x_thrW_ns hl0 X hE hno w (is := 339) (text := "the day is outside the calendar") (by decide +kernel) hl.1 dX8_yearInside_13 dX8_yearInside_16 dX8_yearInside_17 dX8_yearInside_20 dX8_yearInside_23 ⟨Nat.le_of_ble_eq_true rfl, Nat.le_of_ble_eq_true rfl⟩ (Nat.le_of_ble_eq_true rfl) ⟨Nat.le_of_ble_eq_true rfl, Nat.le_of_ble_eq_true rfl⟩ ⟨Nat.le_of_ble_eq_true rfl, Nat.le_of_ble_eq_true rfl⟩ (fun _ => ⟨rfl, rfl, k_10⟩)

set_option maxHeartbeats 2000000 in
set_option maxRecDepth 100000 in
theorem c_X8_areNumbersOfRule (l : Launch) (D : va_G) (t : Nat → ClassId) (b n : Nat) (σ0 : qM) (A : Nat → Int32) (B : Nat → Nat → Int32) (P : Nat → Nat → Option Nat) (a_ru : Int32) (a_fa : Int32) (a_fb : Int32) (a_fc : Int32) (ru : Int) (fa : Int) (fb : Int) (fc : Int) (e_ru : a_ru.toInt = ru) (e_fa : a_fa.toInt = fa) (e_fb : a_fb.toInt = fb) (e_fc : a_fc.toInt = fc) (h_1 : 0 ≤ ru ∧ ru ≤ 4) (h_2 : 0 ≤ (A 20).toInt ∧ (A 20).toInt ≤ 6) : qP l yX8_areNumbersOfRule cX8_areNumbersOfRule 6 (some .boolean) 1 D t b n (cS t b σ0 A B P) [.ref (b + 0), .int a_ru, .int a_fa, .int a_fb, .int a_fc] (fun z => z = bI (decide ((ru = 0 ∧ (1 ≤ fa ∧ fa ≤ 15) ∧ (1 ≤ fb ∧ fb ≤ 60) ∧ fc = 0) ∨ (ru = 1 ∧ (1 ≤ fa ∧ fa ≤ 15) ∧ ((1 ≤ fb ∧ fb ≤ 5) ∨ fb = -1) ∧ (0 ≤ fc ∧ fc ≤ 9)) ∨ (ru = 2 ∧ (-400 ≤ fa ∧ fa ≤ 400) ∧ fb = 0 ∧ fc = 0) ∨ (ru = 3 ∧ (0 ≤ fa ∧ fa < (A 20).toInt) ∧ (0 ≤ fb ∧ fb ≤ 9) ∧ fc = 0) ∨ (ru = 4 ∧ (0 ≤ fa ∧ fa < (A 20).toInt) ∧ (1 ≤ fb ∧ fb ≤ 60) ∧ fc = 0)))) := by
  refine qP.of (by decide +kernel) (Nat.le_of_ble_eq_true rfl) (fun p e s m args below meth c X w ls hl => ?_)
  have hx := X.1
  have hb := X.2.1
  have hl : lv_has ls 6 [(0, .ref (b + 0)), (1, .int a_ru), (2, .int a_fa), (3, .int a_fb), (4, .int a_fc)] := hl
  refine lv_aload_n hx hb dX8_areNumbersOfRule_0 rfl (lv_at hl 0 rfl) ?_
  refine kg_X8_state X w dX8_areNumbersOfRule_1 ?_
  refine q_cPV X w (c_X6_calendarCount l D t b n σ0 A B P 0 (by decide)) v_X8_115 (k := 7) rfl rfl rfl ⟨Nat.le_of_ble_eq_true rfl, Nat.le_of_ble_eq_true rfl⟩ rfl hl.1 (Nat.le_of_ble_eq_true rfl) dX8_areNumbersOfRule_4 ⟨Nat.le_of_ble_eq_true rfl, Nat.le_of_ble_eq_true rfl⟩ (fun r_4 z_4 => ?_)
  have p_4 : r_4.toInt = (A 20).toInt := congrArg Int32.toInt z_4
  refine lv_iconst (v := 1) hx hb dX8_areNumbersOfRule_7 (by decide) ?_
  refine lv_isub hx hb dX8_areNumbersOfRule_8 ?_
  refine lv_topi (fun x_8 e_8 => ?_)
  have p_8 : x_8.toInt = (((A 20).toInt) - 1) := by rw [e_8]; exact t_sub p_4 (show (1 : Int32).toInt = 1 from rfl) (by omega) (by omega)
  refine lv_istore (lv' := [(5, .int x_8), (0, .ref (b + 0)), (1, .int a_ru), (2, .int a_fa), (3, .int a_fb), (4, .int a_fc)]) hx hb dX8_areNumbersOfRule_9 hl (by decide) rfl (fun ls hl => ?_)
  refine lv_iload_n hx hb dX8_areNumbersOfRule_11 rfl (lv_at hl 2 rfl) ?_
  by_cases s_0 : ru = 0
  · refine lv_tableIn (tgt := 44) hx hb dX8_areNumbersOfRule_12 (by rw [e_ru, s_0]; decide) (by rw [e_ru, s_0]; decide) (by rw [e_ru, s_0]; rfl) (by decide) ?_
    refine lv_iload_n hx hb dX8_areNumbersOfRule_44 rfl (lv_at hl 3 rfl) ?_
    refine lv_iconst (v := 1) hx hb dX8_areNumbersOfRule_45 (by decide) ?_
    refine lv_bipush (v := 15) hx hb dX8_areNumbersOfRule_46 (by decide) ?_
    refine q_cPS X w (c_X8_isFrom l a_fa 1 15 fa 1 15 e_fa (show (1 : Int32).toInt = 1 from rfl) (show (15 : Int32).toInt = 15 from rfl) D t b n (cS t b σ0 A B P)) v_X8_99 rfl ⟨Nat.le_of_ble_eq_true rfl, Nat.le_of_ble_eq_true rfl⟩ rfl hl.1 (Nat.le_of_ble_eq_true rfl) dX8_areNumbersOfRule_48 ⟨Nat.zero_le _, Nat.zero_le _⟩ (fun r_48 z_48 => ?_)
    refine lv_if_eq (tgt := 73) hx hb dX8_areNumbersOfRule_51 (by decide) (fun c_51 => ?_) (fun c_51 => ?_)
    · skip
      rw [z_48] at c_51
      have k_51 := bI_f.mp c_51
      refine lv_iconst (v := 0) hx hb dX8_areNumbersOfRule_73 (by decide) ?_
      exact q_pretz X w dX8_areNumbersOfRule_74 (rfl) (by exact bI_0 (by omega))
    · skip
      rw [z_48] at c_51
      have k_51 := bI_t.mp c_51
      refine lv_iload_n hx hb dX8_areNumbersOfRule_54 rfl (lv_at hl 4 rfl) ?_
      refine lv_iconst (v := 1) hx hb dX8_areNumbersOfRule_55 (by decide) ?_
      refine lv_bipush (v := 60) hx hb dX8_areNumbersOfRule_56 (by decide) ?_
      refine q_cPS X w (c_X8_isFrom l a_fb 1 60 fb 1 60 e_fb (show (1 : Int32).toInt = 1 from rfl) (show (60 : Int32).toInt = 60 from rfl) D t b n (cS t b σ0 A B P)) v_X8_99 rfl ⟨Nat.le_of_ble_eq_true rfl, Nat.le_of_ble_eq_true rfl⟩ rfl hl.1 (Nat.le_of_ble_eq_true rfl) dX8_areNumbersOfRule_58 ⟨Nat.zero_le _, Nat.zero_le _⟩ (fun r_58 z_58 => ?_)
      refine lv_if_eq (tgt := 73) hx hb dX8_areNumbersOfRule_61 (by decide) (fun c_61 => ?_) (fun c_61 => ?_)
      · skip
        rw [z_58] at c_61
        have k_61 := bI_f.mp c_61
        refine lv_iconst (v := 0) hx hb dX8_areNumbersOfRule_73 (by decide) ?_
        exact q_pretz X w dX8_areNumbersOfRule_74 (rfl) (by exact bI_0 (by omega))
      · skip
        rw [z_58] at c_61
        have k_61 := bI_t.mp c_61
        refine lv_iload hx hb dX8_areNumbersOfRule_64 (lv_at hl 5 rfl) ?_
        refine lv_if_ne (tgt := 73) hx hb dX8_areNumbersOfRule_66 (by decide) (fun c_66 => ?_) (fun c_66 => ?_)
        · skip
          have k_66 : ¬ (fc = 0) := fun h => c_66 ((g_eq e_fc (show (0 : Int32).toInt = 0 from rfl)).mpr h)
          refine lv_iconst (v := 0) hx hb dX8_areNumbersOfRule_73 (by decide) ?_
          exact q_pretz X w dX8_areNumbersOfRule_74 (rfl) (by exact bI_0 (by omega))
        · skip
          have k_66 : fc = 0 := (g_eq e_fc (show (0 : Int32).toInt = 0 from rfl)).mp c_66
          refine lv_iconst (v := 1) hx hb dX8_areNumbersOfRule_69 (by decide) ?_
          refine lv_goto (tgt := 74) hx hb dX8_areNumbersOfRule_70 (by decide) ?_
          exact q_pretz X w dX8_areNumbersOfRule_74 (rfl) (by exact bI_1 (by omega))
  by_cases s_1 : ru = 1
  · refine lv_tableIn (tgt := 75) hx hb dX8_areNumbersOfRule_12 (by rw [e_ru, s_1]; decide) (by rw [e_ru, s_1]; decide) (by rw [e_ru, s_1]; rfl) (by decide) ?_
    refine lv_iload_n hx hb dX8_areNumbersOfRule_75 rfl (lv_at hl 3 rfl) ?_
    refine lv_iconst (v := 1) hx hb dX8_areNumbersOfRule_76 (by decide) ?_
    refine lv_bipush (v := 15) hx hb dX8_areNumbersOfRule_77 (by decide) ?_
    refine q_cPS X w (c_X8_isFrom l a_fa 1 15 fa 1 15 e_fa (show (1 : Int32).toInt = 1 from rfl) (show (15 : Int32).toInt = 15 from rfl) D t b n (cS t b σ0 A B P)) v_X8_99 rfl ⟨Nat.le_of_ble_eq_true rfl, Nat.le_of_ble_eq_true rfl⟩ rfl hl.1 (Nat.le_of_ble_eq_true rfl) dX8_areNumbersOfRule_79 ⟨Nat.zero_le _, Nat.zero_le _⟩ (fun r_79 z_79 => ?_)
    refine lv_if_eq (tgt := 114) hx hb dX8_areNumbersOfRule_82 (by decide) (fun c_82 => ?_) (fun c_82 => ?_)
    · skip
      rw [z_79] at c_82
      have k_82 := bI_f.mp c_82
      refine lv_iconst (v := 0) hx hb dX8_areNumbersOfRule_114 (by decide) ?_
      exact q_pretz X w dX8_areNumbersOfRule_115 (rfl) (by exact bI_0 (by omega))
    · skip
      rw [z_79] at c_82
      have k_82 := bI_t.mp c_82
      refine lv_iload_n hx hb dX8_areNumbersOfRule_85 rfl (lv_at hl 4 rfl) ?_
      refine lv_iconst (v := (-1)) hx hb dX8_areNumbersOfRule_86 (by decide) ?_
      refine lv_icmp_eq (tgt := 99) hx hb dX8_areNumbersOfRule_87 (by decide) (fun c_87 => ?_) (fun c_87 => ?_)
      · skip
        have k_87 : fb = (-1) := (g_eq e_fb (show ((-1) : Int32).toInt = (-1) from rfl)).mp c_87
        refine lv_iload hx hb dX8_areNumbersOfRule_99 (lv_at hl 5 rfl) ?_
        refine lv_iconst (v := 0) hx hb dX8_areNumbersOfRule_101 (by decide) ?_
        refine lv_bipush (v := 9) hx hb dX8_areNumbersOfRule_102 (by decide) ?_
        refine q_cPS X w (c_X8_isFrom l a_fc 0 9 fc 0 9 e_fc (show (0 : Int32).toInt = 0 from rfl) (show (9 : Int32).toInt = 9 from rfl) D t b n (cS t b σ0 A B P)) v_X8_99 rfl ⟨Nat.le_of_ble_eq_true rfl, Nat.le_of_ble_eq_true rfl⟩ rfl hl.1 (Nat.le_of_ble_eq_true rfl) dX8_areNumbersOfRule_104 ⟨Nat.zero_le _, Nat.zero_le _⟩ (fun r_104 z_104 => ?_)
        refine lv_if_eq (tgt := 114) hx hb dX8_areNumbersOfRule_107 (by decide) (fun c_107 => ?_) (fun c_107 => ?_)
        · skip
          rw [z_104] at c_107
          have k_107 := bI_f.mp c_107
          refine lv_iconst (v := 0) hx hb dX8_areNumbersOfRule_114 (by decide) ?_
          exact q_pretz X w dX8_areNumbersOfRule_115 (rfl) (by exact bI_0 (by omega))
        · skip
          rw [z_104] at c_107
          have k_107 := bI_t.mp c_107
          refine lv_iconst (v := 1) hx hb dX8_areNumbersOfRule_110 (by decide) ?_
          refine lv_goto (tgt := 115) hx hb dX8_areNumbersOfRule_111 (by decide) ?_
          exact q_pretz X w dX8_areNumbersOfRule_115 (rfl) (by exact bI_1 (by omega))
      · skip
        have k_87 : ¬ (fb = (-1)) := fun h => c_87 ((g_eq e_fb (show ((-1) : Int32).toInt = (-1) from rfl)).mpr h)
        refine lv_iload_n hx hb dX8_areNumbersOfRule_90 rfl (lv_at hl 4 rfl) ?_
        refine lv_iconst (v := 1) hx hb dX8_areNumbersOfRule_91 (by decide) ?_
        refine lv_iconst (v := 5) hx hb dX8_areNumbersOfRule_92 (by decide) ?_
        refine q_cPS X w (c_X8_isFrom l a_fb 1 5 fb 1 5 e_fb (show (1 : Int32).toInt = 1 from rfl) (show (5 : Int32).toInt = 5 from rfl) D t b n (cS t b σ0 A B P)) v_X8_99 rfl ⟨Nat.le_of_ble_eq_true rfl, Nat.le_of_ble_eq_true rfl⟩ rfl hl.1 (Nat.le_of_ble_eq_true rfl) dX8_areNumbersOfRule_93 ⟨Nat.zero_le _, Nat.zero_le _⟩ (fun r_93 z_93 => ?_)
        refine lv_if_eq (tgt := 114) hx hb dX8_areNumbersOfRule_96 (by decide) (fun c_96 => ?_) (fun c_96 => ?_)
        · skip
          rw [z_93] at c_96
          have k_96 := bI_f.mp c_96
          refine lv_iconst (v := 0) hx hb dX8_areNumbersOfRule_114 (by decide) ?_
          exact q_pretz X w dX8_areNumbersOfRule_115 (rfl) (by exact bI_0 (by omega))
        · skip
          rw [z_93] at c_96
          have k_96 := bI_t.mp c_96
          refine lv_iload hx hb dX8_areNumbersOfRule_99 (lv_at hl 5 rfl) ?_
          refine lv_iconst (v := 0) hx hb dX8_areNumbersOfRule_101 (by decide) ?_
          refine lv_bipush (v := 9) hx hb dX8_areNumbersOfRule_102 (by decide) ?_
          refine q_cPS X w (c_X8_isFrom l a_fc 0 9 fc 0 9 e_fc (show (0 : Int32).toInt = 0 from rfl) (show (9 : Int32).toInt = 9 from rfl) D t b n (cS t b σ0 A B P)) v_X8_99 rfl ⟨Nat.le_of_ble_eq_true rfl, Nat.le_of_ble_eq_true rfl⟩ rfl hl.1 (Nat.le_of_ble_eq_true rfl) dX8_areNumbersOfRule_104 ⟨Nat.zero_le _, Nat.zero_le _⟩ (fun r_104 z_104 => ?_)
          refine lv_if_eq (tgt := 114) hx hb dX8_areNumbersOfRule_107 (by decide) (fun c_107 => ?_) (fun c_107 => ?_)
          · skip
            rw [z_104] at c_107
            have k_107 := bI_f.mp c_107
            refine lv_iconst (v := 0) hx hb dX8_areNumbersOfRule_114 (by decide) ?_
            exact q_pretz X w dX8_areNumbersOfRule_115 (rfl) (by exact bI_0 (by omega))
          · skip
            rw [z_104] at c_107
            have k_107 := bI_t.mp c_107
            refine lv_iconst (v := 1) hx hb dX8_areNumbersOfRule_110 (by decide) ?_
            refine lv_goto (tgt := 115) hx hb dX8_areNumbersOfRule_111 (by decide) ?_
            exact q_pretz X w dX8_areNumbersOfRule_115 (rfl) (by exact bI_1 (by omega))
  by_cases s_2 : ru = 2
  · refine lv_tableIn (tgt := 116) hx hb dX8_areNumbersOfRule_12 (by rw [e_ru, s_2]; decide) (by rw [e_ru, s_2]; decide) (by rw [e_ru, s_2]; rfl) (by decide) ?_
    refine lv_iload_n hx hb dX8_areNumbersOfRule_116 rfl (lv_at hl 3 rfl) ?_
    refine lv_sipush (v := (-400)) hx hb dX8_areNumbersOfRule_117 (by decide) ?_
    refine lv_sipush (v := 400) hx hb dX8_areNumbersOfRule_120 (by decide) ?_
    refine q_cPS X w (c_X8_isFrom l a_fa (-400) 400 fa (-400) 400 e_fa (show ((-400) : Int32).toInt = (-400) from rfl) (show (400 : Int32).toInt = 400 from rfl) D t b n (cS t b σ0 A B P)) v_X8_99 rfl ⟨Nat.le_of_ble_eq_true rfl, Nat.le_of_ble_eq_true rfl⟩ rfl hl.1 (Nat.le_of_ble_eq_true rfl) dX8_areNumbersOfRule_123 ⟨Nat.zero_le _, Nat.zero_le _⟩ (fun r_123 z_123 => ?_)
    refine lv_if_eq (tgt := 142) hx hb dX8_areNumbersOfRule_126 (by decide) (fun c_126 => ?_) (fun c_126 => ?_)
    · skip
      rw [z_123] at c_126
      have k_126 := bI_f.mp c_126
      refine lv_iconst (v := 0) hx hb dX8_areNumbersOfRule_142 (by decide) ?_
      exact q_pretz X w dX8_areNumbersOfRule_143 (rfl) (by exact bI_0 (by omega))
    · skip
      rw [z_123] at c_126
      have k_126 := bI_t.mp c_126
      refine lv_iload_n hx hb dX8_areNumbersOfRule_129 rfl (lv_at hl 4 rfl) ?_
      refine lv_if_ne (tgt := 142) hx hb dX8_areNumbersOfRule_130 (by decide) (fun c_130 => ?_) (fun c_130 => ?_)
      · skip
        have k_130 : ¬ (fb = 0) := fun h => c_130 ((g_eq e_fb (show (0 : Int32).toInt = 0 from rfl)).mpr h)
        refine lv_iconst (v := 0) hx hb dX8_areNumbersOfRule_142 (by decide) ?_
        exact q_pretz X w dX8_areNumbersOfRule_143 (rfl) (by exact bI_0 (by omega))
      · skip
        have k_130 : fb = 0 := (g_eq e_fb (show (0 : Int32).toInt = 0 from rfl)).mp c_130
        refine lv_iload hx hb dX8_areNumbersOfRule_133 (lv_at hl 5 rfl) ?_
        refine lv_if_ne (tgt := 142) hx hb dX8_areNumbersOfRule_135 (by decide) (fun c_135 => ?_) (fun c_135 => ?_)
        · skip
          have k_135 : ¬ (fc = 0) := fun h => c_135 ((g_eq e_fc (show (0 : Int32).toInt = 0 from rfl)).mpr h)
          refine lv_iconst (v := 0) hx hb dX8_areNumbersOfRule_142 (by decide) ?_
          exact q_pretz X w dX8_areNumbersOfRule_143 (rfl) (by exact bI_0 (by omega))
        · skip
          have k_135 : fc = 0 := (g_eq e_fc (show (0 : Int32).toInt = 0 from rfl)).mp c_135
          refine lv_iconst (v := 1) hx hb dX8_areNumbersOfRule_138 (by decide) ?_
          refine lv_goto (tgt := 143) hx hb dX8_areNumbersOfRule_139 (by decide) ?_
          exact q_pretz X w dX8_areNumbersOfRule_143 (rfl) (by exact bI_1 (by omega))
  by_cases s_3 : ru = 3
  · refine lv_tableIn (tgt := 144) hx hb dX8_areNumbersOfRule_12 (by rw [e_ru, s_3]; decide) (by rw [e_ru, s_3]; decide) (by rw [e_ru, s_3]; rfl) (by decide) ?_
    refine lv_iload_n hx hb dX8_areNumbersOfRule_144 rfl (lv_at hl 3 rfl) ?_
    refine lv_iconst (v := 0) hx hb dX8_areNumbersOfRule_145 (by decide) ?_
    refine lv_iload hx hb dX8_areNumbersOfRule_146 (lv_at hl 0 rfl) ?_
    refine q_cPS X w (c_X8_isFrom l a_fa 0 x_8 fa 0 (((A 20).toInt) - 1) e_fa (show (0 : Int32).toInt = 0 from rfl) p_8 D t b n (cS t b σ0 A B P)) v_X8_99 rfl ⟨Nat.le_of_ble_eq_true rfl, Nat.le_of_ble_eq_true rfl⟩ rfl hl.1 (Nat.le_of_ble_eq_true rfl) dX8_areNumbersOfRule_148 ⟨Nat.zero_le _, Nat.zero_le _⟩ (fun r_148 z_148 => ?_)
    refine lv_if_eq (tgt := 173) hx hb dX8_areNumbersOfRule_151 (by decide) (fun c_151 => ?_) (fun c_151 => ?_)
    · skip
      rw [z_148] at c_151
      have k_151 := bI_f.mp c_151
      refine lv_iconst (v := 0) hx hb dX8_areNumbersOfRule_173 (by decide) ?_
      exact q_pretz X w dX8_areNumbersOfRule_174 (rfl) (by exact bI_0 (by omega))
    · skip
      rw [z_148] at c_151
      have k_151 := bI_t.mp c_151
      refine lv_iload_n hx hb dX8_areNumbersOfRule_154 rfl (lv_at hl 4 rfl) ?_
      refine lv_iconst (v := 0) hx hb dX8_areNumbersOfRule_155 (by decide) ?_
      refine lv_bipush (v := 9) hx hb dX8_areNumbersOfRule_156 (by decide) ?_
      refine q_cPS X w (c_X8_isFrom l a_fb 0 9 fb 0 9 e_fb (show (0 : Int32).toInt = 0 from rfl) (show (9 : Int32).toInt = 9 from rfl) D t b n (cS t b σ0 A B P)) v_X8_99 rfl ⟨Nat.le_of_ble_eq_true rfl, Nat.le_of_ble_eq_true rfl⟩ rfl hl.1 (Nat.le_of_ble_eq_true rfl) dX8_areNumbersOfRule_158 ⟨Nat.zero_le _, Nat.zero_le _⟩ (fun r_158 z_158 => ?_)
      refine lv_if_eq (tgt := 173) hx hb dX8_areNumbersOfRule_161 (by decide) (fun c_161 => ?_) (fun c_161 => ?_)
      · skip
        rw [z_158] at c_161
        have k_161 := bI_f.mp c_161
        refine lv_iconst (v := 0) hx hb dX8_areNumbersOfRule_173 (by decide) ?_
        exact q_pretz X w dX8_areNumbersOfRule_174 (rfl) (by exact bI_0 (by omega))
      · skip
        rw [z_158] at c_161
        have k_161 := bI_t.mp c_161
        refine lv_iload hx hb dX8_areNumbersOfRule_164 (lv_at hl 5 rfl) ?_
        refine lv_if_ne (tgt := 173) hx hb dX8_areNumbersOfRule_166 (by decide) (fun c_166 => ?_) (fun c_166 => ?_)
        · skip
          have k_166 : ¬ (fc = 0) := fun h => c_166 ((g_eq e_fc (show (0 : Int32).toInt = 0 from rfl)).mpr h)
          refine lv_iconst (v := 0) hx hb dX8_areNumbersOfRule_173 (by decide) ?_
          exact q_pretz X w dX8_areNumbersOfRule_174 (rfl) (by exact bI_0 (by omega))
        · skip
          have k_166 : fc = 0 := (g_eq e_fc (show (0 : Int32).toInt = 0 from rfl)).mp c_166
          refine lv_iconst (v := 1) hx hb dX8_areNumbersOfRule_169 (by decide) ?_
          refine lv_goto (tgt := 174) hx hb dX8_areNumbersOfRule_170 (by decide) ?_
          exact q_pretz X w dX8_areNumbersOfRule_174 (rfl) (by exact bI_1 (by omega))
  refine lv_tableOut (tgt := 175) hx hb dX8_areNumbersOfRule_12 (by rw [e_ru]; omega) (by decide) ?_
  refine lv_iload_n hx hb dX8_areNumbersOfRule_175 rfl (lv_at hl 3 rfl) ?_
  refine lv_iconst (v := 0) hx hb dX8_areNumbersOfRule_176 (by decide) ?_
  refine lv_iload hx hb dX8_areNumbersOfRule_177 (lv_at hl 0 rfl) ?_
  refine q_cPS X w (c_X8_isFrom l a_fa 0 x_8 fa 0 (((A 20).toInt) - 1) e_fa (show (0 : Int32).toInt = 0 from rfl) p_8 D t b n (cS t b σ0 A B P)) v_X8_99 rfl ⟨Nat.le_of_ble_eq_true rfl, Nat.le_of_ble_eq_true rfl⟩ rfl hl.1 (Nat.le_of_ble_eq_true rfl) dX8_areNumbersOfRule_179 ⟨Nat.zero_le _, Nat.zero_le _⟩ (fun r_179 z_179 => ?_)
  refine lv_if_eq (tgt := 204) hx hb dX8_areNumbersOfRule_182 (by decide) (fun c_182 => ?_) (fun c_182 => ?_)
  · skip
    rw [z_179] at c_182
    have k_182 := bI_f.mp c_182
    refine lv_iconst (v := 0) hx hb dX8_areNumbersOfRule_204 (by decide) ?_
    exact q_pretz X w dX8_areNumbersOfRule_205 (rfl) (by exact bI_0 (by omega))
  · skip
    rw [z_179] at c_182
    have k_182 := bI_t.mp c_182
    refine lv_iload_n hx hb dX8_areNumbersOfRule_185 rfl (lv_at hl 4 rfl) ?_
    refine lv_iconst (v := 1) hx hb dX8_areNumbersOfRule_186 (by decide) ?_
    refine lv_bipush (v := 60) hx hb dX8_areNumbersOfRule_187 (by decide) ?_
    refine q_cPS X w (c_X8_isFrom l a_fb 1 60 fb 1 60 e_fb (show (1 : Int32).toInt = 1 from rfl) (show (60 : Int32).toInt = 60 from rfl) D t b n (cS t b σ0 A B P)) v_X8_99 rfl ⟨Nat.le_of_ble_eq_true rfl, Nat.le_of_ble_eq_true rfl⟩ rfl hl.1 (Nat.le_of_ble_eq_true rfl) dX8_areNumbersOfRule_189 ⟨Nat.zero_le _, Nat.zero_le _⟩ (fun r_189 z_189 => ?_)
    refine lv_if_eq (tgt := 204) hx hb dX8_areNumbersOfRule_192 (by decide) (fun c_192 => ?_) (fun c_192 => ?_)
    · skip
      rw [z_189] at c_192
      have k_192 := bI_f.mp c_192
      refine lv_iconst (v := 0) hx hb dX8_areNumbersOfRule_204 (by decide) ?_
      exact q_pretz X w dX8_areNumbersOfRule_205 (rfl) (by exact bI_0 (by omega))
    · skip
      rw [z_189] at c_192
      have k_192 := bI_t.mp c_192
      refine lv_iload hx hb dX8_areNumbersOfRule_195 (lv_at hl 5 rfl) ?_
      refine lv_if_ne (tgt := 204) hx hb dX8_areNumbersOfRule_197 (by decide) (fun c_197 => ?_) (fun c_197 => ?_)
      · skip
        have k_197 : ¬ (fc = 0) := fun h => c_197 ((g_eq e_fc (show (0 : Int32).toInt = 0 from rfl)).mpr h)
        refine lv_iconst (v := 0) hx hb dX8_areNumbersOfRule_204 (by decide) ?_
        exact q_pretz X w dX8_areNumbersOfRule_205 (rfl) (by exact bI_0 (by omega))
      · skip
        have k_197 : fc = 0 := (g_eq e_fc (show (0 : Int32).toInt = 0 from rfl)).mp c_197
        refine lv_iconst (v := 1) hx hb dX8_areNumbersOfRule_200 (by decide) ?_
        refine lv_goto (tgt := 205) hx hb dX8_areNumbersOfRule_201 (by decide) ?_
        exact q_pretz X w dX8_areNumbersOfRule_205 (rfl) (by exact bI_1 (by omega))
