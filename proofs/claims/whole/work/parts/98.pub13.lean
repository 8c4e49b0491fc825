theorem dj_iff {ru wh fa fb fc nc nf : Int} : ((ru = 0 ∧ (0 ≤ wh ∧ wh < nc) ∧ (1 ≤ fa ∧ fa ≤ 15) ∧ (1 ≤ fb ∧ fb ≤ 60) ∧ fc = 0) ∨ (ru = 1 ∧ (0 ≤ wh ∧ wh < nc) ∧ (1 ≤ fa ∧ fa ≤ 15) ∧ ((1 ≤ fb ∧ fb ≤ 5) ∨ fb = -1) ∧ (0 ≤ fc ∧ fc ≤ 9)) ∨ (ru = 2 ∧ (0 ≤ wh ∧ wh < nf) ∧ (-400 ≤ fa ∧ fa ≤ 400) ∧ fb = 0 ∧ fc = 0) ∨ (ru = 3 ∧ (0 ≤ wh ∧ wh < nf) ∧ (0 ≤ fa ∧ fa < nc) ∧ (0 ≤ fb ∧ fb ≤ 9) ∧ fc = 0) ∨ (ru = 4 ∧ (0 ≤ wh ∧ wh < nf) ∧ (0 ≤ fa ∧ fa < nc) ∧ (1 ≤ fb ∧ fb ≤ 60) ∧ fc = 0)) ↔ (((ru = 0 ∧ (1 ≤ fa ∧ fa ≤ 15) ∧ (1 ≤ fb ∧ fb ≤ 60) ∧ fc = 0) ∨ (ru = 1 ∧ (1 ≤ fa ∧ fa ≤ 15) ∧ ((1 ≤ fb ∧ fb ≤ 5) ∨ fb = -1) ∧ (0 ≤ fc ∧ fc ≤ 9)) ∨ (ru = 2 ∧ (-400 ≤ fa ∧ fa ≤ 400) ∧ fb = 0 ∧ fc = 0) ∨ (ru = 3 ∧ (0 ≤ fa ∧ fa < nc) ∧ (0 ≤ fb ∧ fb ≤ 9) ∧ fc = 0) ∨ (ru = 4 ∧ (0 ≤ fa ∧ fa < nc) ∧ (1 ≤ fb ∧ fb ≤ 60) ∧ fc = 0)) ∧ (ru ≤ 1 → 0 ≤ wh ∧ wh < nc) ∧ (1 < ru → 0 ≤ wh ∧ wh < nf)) := by
  constructor
  · rintro (h | h | h | h | h)
    · exact ⟨Or.inl ⟨h.1, h.2.2⟩, fun _ => h.2.1, fun z => by have := h.1; omega⟩
    · exact ⟨Or.inr (Or.inl ⟨h.1, h.2.2⟩), fun _ => h.2.1, fun z => by have := h.1; omega⟩
    · exact ⟨Or.inr (Or.inr (Or.inl ⟨h.1, h.2.2⟩)), fun z => by have := h.1; omega, fun _ => h.2.1⟩
    · exact ⟨Or.inr (Or.inr (Or.inr (Or.inl ⟨h.1, h.2.2⟩))), fun z => by have := h.1; omega, fun _ => h.2.1⟩
    · exact ⟨Or.inr (Or.inr (Or.inr (Or.inr ⟨h.1, h.2.2⟩))), fun z => by have := h.1; omega, fun _ => h.2.1⟩
  · rintro ⟨h | h | h | h | h, h1, h2⟩
    · exact Or.inl ⟨h.1, h1 (by have := h.1; omega), h.2⟩
    · exact Or.inr (Or.inl ⟨h.1, h1 (by have := h.1; omega), h.2⟩)
    · exact Or.inr (Or.inr (Or.inl ⟨h.1, h2 (by have := h.1; omega), h.2⟩))
    · exact Or.inr (Or.inr (Or.inr (Or.inl ⟨h.1, h2 (by have := h.1; omega), h.2⟩)))
    · exact Or.inr (Or.inr (Or.inr (Or.inr ⟨h.1, h2 (by have := h.1; omega), h.2⟩)))

set_option maxHeartbeats 2000000 in
set_option maxRecDepth 100000 in
theorem c_X1_init (l : Launch) (D : va_G) (t : Nat → ClassId) (b n : Nat) (σ0 : qM) (A : Nat → Int32) (B : Nat → Nat → Int32) (P : Nat → Nat → Option Nat) (q : Nat) (a_ru : Int32) (a_rk : Int32) (a_wh : Int32) (a_fa : Int32) (a_fb : Int32) (a_fc : Int32) (hq : 41 < q) (h_5 : σ0 q = some (.inr (5, [.int 0, .int 0, .int 0, .int 0, .int 0, .int 0]))) : qV l yX1_init cX1_init 7 1 0 0 D t b n (cS t b σ0 A B P) [.ref (b + q), .int a_ru, .int a_rk, .int a_wh, .int a_fa, .int a_fb, .int a_fc] (fun n1 σ1 => n1 = n ∧ σ1 = cS t b (va_up σ0 q (some (.inr (5, [.int a_ru, .int a_rk, .int a_wh, .int a_fa, .int a_fb, .int a_fc])))) A B P) := by
  refine qV.of (by decide +kernel) (Nat.le_of_ble_eq_true rfl) (fun p e s m args below meth c X w hin ls hl => ?_)
  have hin := hin rfl
  have hx := X.1
  have hb := X.2.1
  have hl : lv_has ls 7 [(0, .ref (b + q)), (1, .int a_ru), (2, .int a_rk), (3, .int a_wh), (4, .int a_fa), (5, .int a_fb), (6, .int a_fc)] := hl
  have w : qW D b n (cS t b (va_up σ0 q (some (.inr (5, [.int 0, .int 0, .int 0, .int 0, .int 0, .int 0])))) A B P) s s.heap [] := by rw [← h_5, va_id]; exact w
  refine lv_aload_n hx hb dX1_init_0 rfl (lv_at hl 0 rfl) ?_
  refine q_obj X oi_X1 hl.1 ⟨Nat.le_of_ble_eq_true rfl, Nat.le_of_ble_eq_true rfl⟩ (Nat.le_of_ble_eq_true rfl) dX1_init_1 ?_
  refine lv_aload_n hx hb dX1_init_4 rfl (lv_at hl 0 rfl) ?_
  refine lv_iload_n hx hb dX1_init_5 rfl (lv_at hl 1 rfl) ?_
  refine ko_put (v := .int a_ru) X w hq inX1 tyX1 tyX1_ok nmX1 rfl 0 (by decide) fl_X1_7 rfl hin rfl rfl rfl (Nat.le_of_ble_eq_true rfl) dX1_init_6 (fun H locs w => ?_)
  refine lv_aload_n hx hb dX1_init_9 rfl (lv_at hl 0 rfl) ?_
  refine lv_iload_n hx hb dX1_init_10 rfl (lv_at hl 2 rfl) ?_
  refine ko_put (v := .int a_rk) X w hq inX1 tyX1 tyX1_ok nmX1 rfl 1 (by decide) fl_X1_13 rfl hin rfl rfl rfl (Nat.le_of_ble_eq_true rfl) dX1_init_11 (fun H locs w => ?_)
  refine lv_aload_n hx hb dX1_init_14 rfl (lv_at hl 0 rfl) ?_
  refine lv_iload_n hx hb dX1_init_15 rfl (lv_at hl 3 rfl) ?_
  refine ko_put (v := .int a_wh) X w hq inX1 tyX1 tyX1_ok nmX1 rfl 2 (by decide) fl_X1_16 rfl hin rfl rfl rfl (Nat.le_of_ble_eq_true rfl) dX1_init_16 (fun H locs w => ?_)
  refine lv_aload_n hx hb dX1_init_19 rfl (lv_at hl 0 rfl) ?_
  refine lv_iload hx hb dX1_init_20 (lv_at hl 4 rfl) ?_
  refine ko_put (v := .int a_fa) X w hq inX1 tyX1 tyX1_ok nmX1 rfl 3 (by decide) fl_X1_19 rfl hin rfl rfl rfl (Nat.le_of_ble_eq_true rfl) dX1_init_22 (fun H locs w => ?_)
  refine lv_aload_n hx hb dX1_init_25 rfl (lv_at hl 0 rfl) ?_
  refine lv_iload hx hb dX1_init_26 (lv_at hl 5 rfl) ?_
  refine ko_put (v := .int a_fb) X w hq inX1 tyX1 tyX1_ok nmX1 rfl 4 (by decide) fl_X1_22 rfl hin rfl rfl rfl (Nat.le_of_ble_eq_true rfl) dX1_init_28 (fun H locs w => ?_)
  refine lv_aload_n hx hb dX1_init_31 rfl (lv_at hl 0 rfl) ?_
  refine lv_iload hx hb dX1_init_32 (lv_at hl 6 rfl) ?_
  refine ko_put (v := .int a_fc) X w hq inX1 tyX1 tyX1_ok nmX1 rfl 5 (by decide) fl_X1_25 rfl hin rfl rfl rfl (Nat.le_of_ble_eq_true rfl) dX1_init_34 (fun H locs w => ?_)
  exact q_vret (post := fun n1 σ1 => n1 = n ∧ σ1 = cS t b (va_up σ0 q (some (.inr (5, [.int a_ru, .int a_rk, .int a_wh, .int a_fa, .int a_fb, .int a_fc])))) A B P) X w dX1_init_37 ⟨rfl, rfl⟩

set_option maxHeartbeats 2000000 in
set_option maxRecDepth 100000 in
theorem c_X8_addFeast (l : Launch) (D : va_G) (t : Nat → ClassId) (b n : Nat) (σ0 : qM) (A : Nat → Int32) (B : Nat → Nat → Int32) (P : Nat → Nat → Option Nat) (hl0 : l.stackTraces = false) (pm : Nat → Nat) (h_p : hiP pm P) (h_n : 0 ≤ (A 19).toInt ∧ (A 19).toInt ≤ 6) (h_0 : okSt σ0 A P 0) (a_ru : Int32) (ru : Int) (e_ru : a_ru.toInt = ru) (a_rk : Int32) (rk : Int) (e_rk : a_rk.toInt = rk) (a_wh : Int32) (wh : Int) (e_wh : a_wh.toInt = wh) (a_fa : Int32) (fa : Int) (e_fa : a_fa.toInt = fa) (a_fb : Int32) (fb : Int) (e_fb : a_fb.toInt = fb) (a_fc : Int32) (fc : Int) (e_fc : a_fc.toInt = fc) : xC l yX8_addFeast cX8_addFeast 7 (some .int) 7 4 24 D t b n (cS t b σ0 A B P) [.ref (b + 0), .int a_ru, .int a_rk, .int a_wh, .int a_fa, .int a_fb, .int a_fc] (fun z n1 σ1 => (if (0 ≤ ru ∧ ru ≤ 4) ∧ (0 ≤ rk ∧ rk ≤ 9) ∧ ((ru = 0 ∧ (0 ≤ wh ∧ wh < (A 20).toInt) ∧ (1 ≤ fa ∧ fa ≤ 15) ∧ (1 ≤ fb ∧ fb ≤ 60) ∧ fc = 0) ∨ (ru = 1 ∧ (0 ≤ wh ∧ wh < (A 20).toInt) ∧ (1 ≤ fa ∧ fa ≤ 15) ∧ ((1 ≤ fb ∧ fb ≤ 5) ∨ fb = -1) ∧ (0 ≤ fc ∧ fc ≤ 9)) ∨ (ru = 2 ∧ (0 ≤ wh ∧ wh < (A 21).toInt) ∧ (-400 ≤ fa ∧ fa ≤ 400) ∧ fb = 0 ∧ fc = 0) ∨ (ru = 3 ∧ (0 ≤ wh ∧ wh < (A 21).toInt) ∧ (0 ≤ fa ∧ fa < (A 20).toInt) ∧ (0 ≤ fb ∧ fb ≤ 9) ∧ fc = 0) ∨ (ru = 4 ∧ (0 ≤ wh ∧ wh < (A 21).toInt) ∧ (0 ≤ fa ∧ fa < (A 20).toInt) ∧ (1 ≤ fb ∧ fb ≤ 60) ∧ fc = 0)) then (if (A 21).toInt = 8 then (2 : Int) else 0) else 1) = 0 ∧ n1 = n + 1 ∧ ∃ (S1 : qM) (A1 : Nat → Int32) (P1 : Nat → Nat → Option Nat), σ1 = cS t b S1 A1 B P1 ∧ (∀ k, k < n → S1 k = σ0 k) ∧ 41 < n ∧ S1 n = some (.inr (5, [.int a_ru, .int a_rk, .int a_wh, .int a_fa, .int a_fb, .int a_fc])) ∧ (∃ (A2 : Nat → Int32) (P2 : Nat → Nat → Option Nat) (v : Int32), keP A P pm 0 A2 P2 ∧ A1 = va_up A2 21 v ∧ v.toInt = (A 21).toInt + 1 ∧ P1 = va_up P2 2 (va_up (P2 2) (A 21).toInt.toNat (some n))) ∧ z.toInt = (A 21).toInt) (fun E n1 σ1 => σ1 = cS t b σ0 A B P ∧ ((E = "java/lang/IllegalArgumentException" ∧ (if (0 ≤ ru ∧ ru ≤ 4) ∧ (0 ≤ rk ∧ rk ≤ 9) ∧ ((ru = 0 ∧ (0 ≤ wh ∧ wh < (A 20).toInt) ∧ (1 ≤ fa ∧ fa ≤ 15) ∧ (1 ≤ fb ∧ fb ≤ 60) ∧ fc = 0) ∨ (ru = 1 ∧ (0 ≤ wh ∧ wh < (A 20).toInt) ∧ (1 ≤ fa ∧ fa ≤ 15) ∧ ((1 ≤ fb ∧ fb ≤ 5) ∨ fb = -1) ∧ (0 ≤ fc ∧ fc ≤ 9)) ∨ (ru = 2 ∧ (0 ≤ wh ∧ wh < (A 21).toInt) ∧ (-400 ≤ fa ∧ fa ≤ 400) ∧ fb = 0 ∧ fc = 0) ∨ (ru = 3 ∧ (0 ≤ wh ∧ wh < (A 21).toInt) ∧ (0 ≤ fa ∧ fa < (A 20).toInt) ∧ (0 ≤ fb ∧ fb ≤ 9) ∧ fc = 0) ∨ (ru = 4 ∧ (0 ≤ wh ∧ wh < (A 21).toInt) ∧ (0 ≤ fa ∧ fa < (A 20).toInt) ∧ (1 ≤ fb ∧ fb ≤ 60) ∧ fc = 0)) then (if (A 21).toInt = 8 then (2 : Int) else 0) else 1) = 1) ∨ (E = "java/lang/IllegalStateException" ∧ (if (0 ≤ ru ∧ ru ≤ 4) ∧ (0 ≤ rk ∧ rk ≤ 9) ∧ ((ru = 0 ∧ (0 ≤ wh ∧ wh < (A 20).toInt) ∧ (1 ≤ fa ∧ fa ≤ 15) ∧ (1 ≤ fb ∧ fb ≤ 60) ∧ fc = 0) ∨ (ru = 1 ∧ (0 ≤ wh ∧ wh < (A 20).toInt) ∧ (1 ≤ fa ∧ fa ≤ 15) ∧ ((1 ≤ fb ∧ fb ≤ 5) ∨ fb = -1) ∧ (0 ≤ fc ∧ fc ≤ 9)) ∨ (ru = 2 ∧ (0 ≤ wh ∧ wh < (A 21).toInt) ∧ (-400 ≤ fa ∧ fa ≤ 400) ∧ fb = 0 ∧ fc = 0) ∨ (ru = 3 ∧ (0 ≤ wh ∧ wh < (A 21).toInt) ∧ (0 ≤ fa ∧ fa < (A 20).toInt) ∧ (0 ≤ fb ∧ fb ≤ 9) ∧ fc = 0) ∨ (ru = 4 ∧ (0 ≤ wh ∧ wh < (A 21).toInt) ∧ (0 ≤ fa ∧ fa < (A 20).toInt) ∧ (1 ≤ fb ∧ fb ≤ 60) ∧ fc = 0)) then (if (A 21).toInt = 8 then (2 : Int) else 0) else 1) = 2))) := by
  refine xC.of (by decide +kernel) (Nat.le_of_ble_eq_true rfl) (fun p e s m args below meth c X hE hno w ls hl => ?_)
  have hx := X.1
  have hb := X.2.1
  have hl : lv_has ls 7 [(0, .ref (b + 0)), (1, .int a_ru), (2, .int a_rk), (3, .int a_wh), (4, .int a_fa), (5, .int a_fb), (6, .int a_fc)] := hl
  have hc0 := h_0.1
  have hc0 : 0 ≤ (A 20).toInt ∧ (A 20).toInt ≤ 6 := hc0
  have hc1 := h_0.2.1
  have hc1 : 0 ≤ (A 21).toInt ∧ (A 21).toInt ≤ 8 := hc1
  refine lv_iload_n hx hb dX8_addFeast_0 rfl (lv_at hl 1 rfl) ?_
  refine lv_iconst (v := 0) hx hb dX8_addFeast_1 (by decide) ?_
  refine lv_iconst (v := 4) hx hb dX8_addFeast_2 (by decide) ?_
  refine q_cPS X w (c_X8_isFrom l a_ru 0 4 ru 0 4 e_ru (show (0 : Int32).toInt = 0 from rfl) (show (4 : Int32).toInt = 4 from rfl) D t b n (cS t b σ0 A B P)) v_X8_99 rfl ⟨Nat.le_of_ble_eq_true rfl, Nat.le_of_ble_eq_true rfl⟩ rfl hl.1 (Nat.le_of_ble_eq_true rfl) dX8_addFeast_3 ⟨Nat.le_of_ble_eq_true rfl, Nat.le_of_ble_eq_true rfl⟩ (fun r_3 z_3 => ?_)
  refine lv_if_eq (tgt := 23) hx hb dX8_addFeast_6 (by decide) (fun c_6 => ?_) (fun c_6 => ?_)
  · skip
    rw [z_3] at c_6
    have k_6 := bI_f.mp c_6
    refine lv_iconst (v := 0) hx hb dX8_addFeast_23 (by decide) ?_
    refine x_cVS X hE hno w (c_X8_demand l D t b n σ0 A B P hl0 0) v_X8_103 rfl ⟨Nat.le_of_ble_eq_true rfl, Nat.le_of_ble_eq_true rfl⟩ rfl hl.1 (Nat.le_of_ble_eq_true rfl) dX8_addFeast_24 ⟨Nat.le_of_ble_eq_true rfl, Nat.le_of_ble_eq_true rfl⟩ ⟨Nat.le_of_ble_eq_true rfl, Nat.le_of_ble_eq_true rfl⟩ (fun E n1 σ1 hz => ⟨hz.2.1, Or.inl ⟨hz.1, if_neg (fun z => k_6 z.1)⟩⟩) (fun n_24 σ_24 H locs z_24 w => ?_)
    exact absurd rfl z_24.2.2
  · skip
    rw [z_3] at c_6
    have k_6 := bI_t.mp c_6
    refine lv_iload_n hx hb dX8_addFeast_9 rfl (lv_at hl 2 rfl) ?_
    refine lv_iconst (v := 0) hx hb dX8_addFeast_10 (by decide) ?_
    refine lv_bipush (v := 9) hx hb dX8_addFeast_11 (by decide) ?_
    refine q_cPS X w (c_X8_isFrom l a_rk 0 9 rk 0 9 e_rk (show (0 : Int32).toInt = 0 from rfl) (show (9 : Int32).toInt = 9 from rfl) D t b n (cS t b σ0 A B P)) v_X8_99 rfl ⟨Nat.le_of_ble_eq_true rfl, Nat.le_of_ble_eq_true rfl⟩ rfl hl.1 (Nat.le_of_ble_eq_true rfl) dX8_addFeast_13 ⟨Nat.le_of_ble_eq_true rfl, Nat.le_of_ble_eq_true rfl⟩ (fun r_13 z_13 => ?_)
    refine lv_if_eq (tgt := 23) hx hb dX8_addFeast_16 (by decide) (fun c_16 => ?_) (fun c_16 => ?_)
    · skip
      rw [z_13] at c_16
      have k_16 := bI_f.mp c_16
      refine lv_iconst (v := 0) hx hb dX8_addFeast_23 (by decide) ?_
      refine x_cVS X hE hno w (c_X8_demand l D t b n σ0 A B P hl0 0) v_X8_103 rfl ⟨Nat.le_of_ble_eq_true rfl, Nat.le_of_ble_eq_true rfl⟩ rfl hl.1 (Nat.le_of_ble_eq_true rfl) dX8_addFeast_24 ⟨Nat.le_of_ble_eq_true rfl, Nat.le_of_ble_eq_true rfl⟩ ⟨Nat.le_of_ble_eq_true rfl, Nat.le_of_ble_eq_true rfl⟩ (fun E n1 σ1 hz => ⟨hz.2.1, Or.inl ⟨hz.1, if_neg (fun z => k_16 z.2.1)⟩⟩) (fun n_24 σ_24 H locs z_24 w => ?_)
      exact absurd rfl z_24.2.2
    · skip
      rw [z_13] at c_16
      have k_16 := bI_t.mp c_16
      refine lv_iconst (v := 1) hx hb dX8_addFeast_19 (by decide) ?_
      refine lv_goto (tgt := 24) hx hb dX8_addFeast_20 (by decide) ?_
      refine x_cVS X hE hno w (c_X8_demand l D t b n σ0 A B P hl0 1) v_X8_103 rfl ⟨Nat.le_of_ble_eq_true rfl, Nat.le_of_ble_eq_true rfl⟩ rfl hl.1 (Nat.le_of_ble_eq_true rfl) dX8_addFeast_24 ⟨Nat.le_of_ble_eq_true rfl, Nat.le_of_ble_eq_true rfl⟩ ⟨Nat.le_of_ble_eq_true rfl, Nat.le_of_ble_eq_true rfl⟩ (fun E n1 σ1 hz => absurd hz.2.2 (by decide)) (fun n_24 σ_24 H locs z_24 w => ?_)
      rw [z_24.1, z_24.2.1] at w
      refine lv_iload_n hx hb dX8_addFeast_27 rfl (lv_at hl 3 rfl) ?_
      refine lv_iconst (v := 0) hx hb dX8_addFeast_28 (by decide) ?_
      refine lv_iload_n hx hb dX8_addFeast_29 rfl (lv_at hl 1 rfl) ?_
      refine lv_iconst (v := 1) hx hb dX8_addFeast_30 (by decide) ?_
      refine lv_icmp_gt (tgt := 44) hx hb dX8_addFeast_31 (by decide) (fun c_31 => ?_) (fun c_31 => ?_)
      · skip
        have k_31 : 1 < ru := (g_lt (show (1 : Int32).toInt = 1 from rfl) e_ru).mp c_31
        refine lv_aload_n hx hb dX8_addFeast_44 rfl (lv_at hl 0 rfl) ?_
        refine kg_X8_state X w dX8_addFeast_45 ?_
        refine q_cPV X w (c_X6_feastCount l D t b n σ0 A B P 0 (by decide)) v_X8_221 (k := 7) rfl rfl rfl ⟨Nat.le_of_ble_eq_true rfl, Nat.le_of_ble_eq_true rfl⟩ rfl hl.1 (Nat.le_of_ble_eq_true rfl) dX8_addFeast_48 ⟨Nat.le_of_ble_eq_true rfl, Nat.le_of_ble_eq_true rfl⟩ (fun r_48 z_48 => ?_)
        have p_48 : r_48.toInt = (A 21).toInt := congrArg Int32.toInt z_48
        refine lv_iconst (v := 1) hx hb dX8_addFeast_51 (by decide) ?_
        refine lv_isub hx hb dX8_addFeast_52 ?_
        refine lv_topi (fun x_52 e_52 => ?_)
        have p_52 : x_52.toInt = (((A 21).toInt) - 1) := by rw [e_52]; exact t_sub p_48 (show (1 : Int32).toInt = 1 from rfl) (by omega) (by omega)
        refine q_cPS X w (c_X8_isFrom l a_wh 0 x_52 wh 0 (((A 21).toInt) - 1) e_wh (show (0 : Int32).toInt = 0 from rfl) p_52 D t b n (cS t b σ0 A B P)) v_X8_99 rfl ⟨Nat.le_of_ble_eq_true rfl, Nat.le_of_ble_eq_true rfl⟩ rfl hl.1 (Nat.le_of_ble_eq_true rfl) dX8_addFeast_53 ⟨Nat.le_of_ble_eq_true rfl, Nat.le_of_ble_eq_true rfl⟩ (fun r_53 z_53 => ?_)
        refine x_cVS X hE hno w (c_X8_demand l D t b n σ0 A B P hl0 r_53) v_X8_103 rfl ⟨Nat.le_of_ble_eq_true rfl, Nat.le_of_ble_eq_true rfl⟩ rfl hl.1 (Nat.le_of_ble_eq_true rfl) dX8_addFeast_56 ⟨Nat.le_of_ble_eq_true rfl, Nat.le_of_ble_eq_true rfl⟩ ⟨Nat.le_of_ble_eq_true rfl, Nat.le_of_ble_eq_true rfl⟩ (fun E n1 σ1 hz => ⟨hz.2.1, Or.inl ⟨hz.1, if_neg (fun z => (bI_f.mp (by have y := hz.2.2; rw [z_53] at y; exact y)) (by have y := (dj_iff.mp z.2.2).2.2 k_31; omega))⟩⟩) (fun n_56 σ_56 H locs z_56 w => ?_)
        rw [z_56.1, z_56.2.1] at w
        have k_56 : 0 ≤ wh ∧ wh ≤ (((A 21).toInt) - 1) := by have y := z_56.2.2; rw [z_53] at y; exact bI_t.mp y
        have hw : (ru ≤ 1 → 0 ≤ wh ∧ wh < (A 20).toInt) ∧ (1 < ru → 0 ≤ wh ∧ wh < (A 21).toInt) := ⟨fun z => by omega, fun z => by omega⟩
        refine lv_aload_n hx hb dX8_addFeast_59 rfl (lv_at hl 0 rfl) ?_
        refine lv_iload_n hx hb dX8_addFeast_60 rfl (lv_at hl 1 rfl) ?_
        refine lv_iload hx hb dX8_addFeast_61 (lv_at hl 4 rfl) ?_
        refine lv_iload hx hb dX8_addFeast_63 (lv_at hl 5 rfl) ?_
        refine lv_iload hx hb dX8_addFeast_65 (lv_at hl 6 rfl) ?_
        refine q_cPV X w (c_X8_areNumbersOfRule l D t b n σ0 A B P a_ru a_fa a_fb a_fc ru fa fb fc e_ru e_fa e_fb e_fc (by first | assumption | omega) (by first | assumption | omega)) v_X8_224 (k := 0) rfl rfl rfl ⟨Nat.le_of_ble_eq_true rfl, Nat.le_of_ble_eq_true rfl⟩ rfl hl.1 (Nat.le_of_ble_eq_true rfl) dX8_addFeast_67 ⟨Nat.le_of_ble_eq_true rfl, Nat.le_of_ble_eq_true rfl⟩ (fun r_67 z_67 => ?_)
        refine x_cVS X hE hno w (c_X8_demand l D t b n σ0 A B P hl0 r_67) v_X8_103 rfl ⟨Nat.le_of_ble_eq_true rfl, Nat.le_of_ble_eq_true rfl⟩ rfl hl.1 (Nat.le_of_ble_eq_true rfl) dX8_addFeast_70 ⟨Nat.le_of_ble_eq_true rfl, Nat.le_of_ble_eq_true rfl⟩ ⟨Nat.le_of_ble_eq_true rfl, Nat.le_of_ble_eq_true rfl⟩ (fun E n1 σ1 hz => ⟨hz.2.1, Or.inl ⟨hz.1, if_neg (fun z => (bI_f.mp (by have y := hz.2.2; rw [z_67] at y; exact y)) (dj_iff.mp z.2.2).1)⟩⟩) (fun n_70 σ_70 H locs z_70 w => ?_)
        rw [z_70.1, z_70.2.1] at w
        have k_70 : (ru = 0 ∧ (1 ≤ fa ∧ fa ≤ 15) ∧ (1 ≤ fb ∧ fb ≤ 60) ∧ fc = 0) ∨ (ru = 1 ∧ (1 ≤ fa ∧ fa ≤ 15) ∧ ((1 ≤ fb ∧ fb ≤ 5) ∨ fb = -1) ∧ (0 ≤ fc ∧ fc ≤ 9)) ∨ (ru = 2 ∧ (-400 ≤ fa ∧ fa ≤ 400) ∧ fb = 0 ∧ fc = 0) ∨ (ru = 3 ∧ (0 ≤ fa ∧ fa < (A 20).toInt) ∧ (0 ≤ fb ∧ fb ≤ 9) ∧ fc = 0) ∨ (ru = 4 ∧ (0 ≤ fa ∧ fa < (A 20).toInt) ∧ (1 ≤ fb ∧ fb ≤ 60) ∧ fc = 0) := by have y := z_70.2.2; rw [z_67] at y; exact bI_t.mp y
        have hcode : ∀ u : Unit, (if (0 ≤ ru ∧ ru ≤ 4) ∧ (0 ≤ rk ∧ rk ≤ 9) ∧ ((ru = 0 ∧ (0 ≤ wh ∧ wh < (A 20).toInt) ∧ (1 ≤ fa ∧ fa ≤ 15) ∧ (1 ≤ fb ∧ fb ≤ 60) ∧ fc = 0) ∨ (ru = 1 ∧ (0 ≤ wh ∧ wh < (A 20).toInt) ∧ (1 ≤ fa ∧ fa ≤ 15) ∧ ((1 ≤ fb ∧ fb ≤ 5) ∨ fb = -1) ∧ (0 ≤ fc ∧ fc ≤ 9)) ∨ (ru = 2 ∧ (0 ≤ wh ∧ wh < (A 21).toInt) ∧ (-400 ≤ fa ∧ fa ≤ 400) ∧ fb = 0 ∧ fc = 0) ∨ (ru = 3 ∧ (0 ≤ wh ∧ wh < (A 21).toInt) ∧ (0 ≤ fa ∧ fa < (A 20).toInt) ∧ (0 ≤ fb ∧ fb ≤ 9) ∧ fc = 0) ∨ (ru = 4 ∧ (0 ≤ wh ∧ wh < (A 21).toInt) ∧ (0 ≤ fa ∧ fa < (A 20).toInt) ∧ (1 ≤ fb ∧ fb ≤ 60) ∧ fc = 0)) then (if (A 21).toInt = 8 then (2 : Int) else 0) else 1) = (if (A 21).toInt = 8 then (2 : Int) else 0) := fun _ => if_pos ⟨k_6, k_16, dj_iff.mpr ⟨k_70, hw⟩⟩
        clear k_70
        refine lv_aload_n hx hb dX8_addFeast_73 rfl (lv_at hl 0 rfl) ?_
        refine kg_X8_state X w dX8_addFeast_74 ?_
        refine q_cPV X w (c_X6_feastCount l D t b n σ0 A B P 0 (by decide)) v_X8_221 (k := 7) rfl rfl rfl ⟨Nat.le_of_ble_eq_true rfl, Nat.le_of_ble_eq_true rfl⟩ rfl hl.1 (Nat.le_of_ble_eq_true rfl) dX8_addFeast_77 ⟨Nat.le_of_ble_eq_true rfl, Nat.le_of_ble_eq_true rfl⟩ (fun r_77 z_77 => ?_)
        have p_77 : r_77.toInt = (A 21).toInt := congrArg Int32.toInt z_77
        refine lv_bipush (v := 8) hx hb dX8_addFeast_80 (by decide) ?_
        refine lv_icmp_lt (tgt := 95) hx hb dX8_addFeast_82 (by decide) (fun c_82 => ?_) (fun c_82 => ?_)
        · skip
          have k_82 : ((A 21).toInt) < 8 := (g_lt p_77 (show (8 : Int32).toInt = 8 from rfl)).mp c_82
          refine lv_aload_n hx hb dX8_addFeast_95 rfl (lv_at hl 0 rfl) ?_
          refine kg_X8_history X w dX8_addFeast_96 ?_
          refine lv_aload_n hx hb dX8_addFeast_99 rfl (lv_at hl 0 rfl) ?_
          refine kg_X8_state X w dX8_addFeast_100 ?_
          have hw0 := w.1
          refine kk_cU X w (c_X3_keep l D t b n σ0 A B P pm h_p h_n 0 (by decide) h_0) v_X8_142 (rc := 13) rfl rfl rfl ⟨Nat.le_of_ble_eq_true rfl, Nat.le_of_ble_eq_true rfl⟩ rfl hl.1 (Nat.le_of_ble_eq_true rfl) dX8_addFeast_103 ⟨Nat.le_of_ble_eq_true rfl, Nat.le_of_ble_eq_true rfl⟩ (fun A_103 P_103 H locs z_103 w => ?_)
          obtain ⟨pm', kp1, kp2, kp3, kp4, kp5, kp6⟩ := id z_103
          have e21 : (A_103 21).toInt = (A 21).toInt := congrArg Int32.toInt (kp2 21 (by omega) (by omega))
          refine lv_aload_n hx hb dX8_addFeast_106 rfl (lv_at hl 0 rfl) ?_
          refine kg_X8_state X w dX8_addFeast_107 ?_
          have hn110 : 41 < n := w.1.lt (k := 41) rfl
          refine q_new (ci := 5) X w inX1 tyX1 tyX1_ok cl_X8_230 is_X1 ini_X1 rfl (fs := [.int 0, .int 0, .int 0, .int 0, .int 0, .int 0]) (fun j hj => by match j, hj with | 0, _ => rfl | 1, _ => rfl | 2, _ => rfl | 3, _ => rfl | 4, _ => rfl | 5, _ => rfl | j + 6, hj => exact absurd hj (by omega)) (Nat.le_of_ble_eq_true rfl) (Nat.le_of_ble_eq_true rfl) dX8_addFeast_110 (fun H w => ?_)
          rw [cS_up hn110] at w
          refine lv_dup hx hb dX8_addFeast_113 rfl ?_
          refine lv_iload_n hx hb dX8_addFeast_114 rfl (lv_at hl 1 rfl) ?_
          refine lv_iload_n hx hb dX8_addFeast_115 rfl (lv_at hl 2 rfl) ?_
          refine lv_iload_n hx hb dX8_addFeast_116 rfl (lv_at hl 3 rfl) ?_
          refine lv_iload hx hb dX8_addFeast_117 (lv_at hl 4 rfl) ?_
          refine lv_iload hx hb dX8_addFeast_119 (lv_at hl 5 rfl) ?_
          refine lv_iload hx hb dX8_addFeast_121 (lv_at hl 6 rfl) ?_
          refine q_cVI X w (c_X1_init l D t b (n + 1) (va_up σ0 n (some (.inr (5, [.int 0, .int 0, .int 0, .int 0, .int 0, .int 0])))) A_103 B P_103 n a_ru a_rk a_wh a_fa a_fb a_fc hn110 (va_up_self _ _ _)) iw_X8_232 rfl ⟨Nat.le_of_ble_eq_true rfl, Nat.le_of_ble_eq_true rfl⟩ rfl hl.1 (Nat.le_of_ble_eq_true rfl) dX8_addFeast_123 ⟨Nat.le_of_ble_eq_true rfl, Nat.le_of_ble_eq_true rfl⟩ (fun n_123 σ_123 H locs z_123 w => ?_)
          obtain ⟨rfl, rfl⟩ := z_123
          obtain ⟨S1, hS1⟩ : ∃ z : qM, z = (va_up (va_up σ0 n (some (.inr (5, [.int 0, .int 0, .int 0, .int 0, .int 0, .int 0])))) n (some (.inr (5, [.int a_ru, .int a_rk, .int a_wh, .int a_fa, .int a_fb, .int a_fc])))) := ⟨_, rfl⟩
          rw [← hS1] at w
          have hex : ∀ k, k < n → S1 k = σ0 k := fun k hk => by rw [hS1, va_up_ne _ _ (by omega), va_up_ne _ _ (by omega)]
          have hSn : S1 n = some (.inr (5, [.int a_ru, .int a_rk, .int a_wh, .int a_fa, .int a_fb, .int a_fc])) := by rw [hS1]; exact va_up_self _ _ _
          refine kk_cU X w (c_X6_addLastFeast l D t b (n + 1) S1 A_103 B P_103 0 (by decide) (by show 0 ≤ (A_103 21).toInt ∧ (A_103 21).toInt < 8; omega) n _ ⟨hn110, hSn⟩) v_X8_235 (rc := 7) rfl rfl rfl ⟨Nat.le_of_ble_eq_true rfl, Nat.le_of_ble_eq_true rfl⟩ rfl hl.1 (Nat.le_of_ble_eq_true rfl) dX8_addFeast_126 ⟨Nat.le_of_ble_eq_true rfl, Nat.le_of_ble_eq_true rfl⟩ (fun A_126 P_126 H locs z_126 w => ?_)
          obtain ⟨⟨v21, ev, hv⟩, eP⟩ := z_126
          have hv2 : v21.toInt = (A 21).toInt + 1 := hv.trans (by show (A_103 21).toInt + 1 = _; rw [e21])
          have e26 : (A_126 21).toInt = (A 21).toInt + 1 := by rw [ev]; exact hv2
          refine lv_aload_n hx hb dX8_addFeast_129 rfl (lv_at hl 0 rfl) ?_
          refine kg_X8_state X w dX8_addFeast_130 ?_
          refine q_cPV X w (c_X6_feastCount l D t b (n + 1) S1 A_126 B P_126 0 (by decide)) v_X8_221 (k := 7) rfl rfl rfl ⟨Nat.le_of_ble_eq_true rfl, Nat.le_of_ble_eq_true rfl⟩ rfl hl.1 (Nat.le_of_ble_eq_true rfl) dX8_addFeast_133 ⟨Nat.le_of_ble_eq_true rfl, Nat.le_of_ble_eq_true rfl⟩ (fun r_133 z_133 => ?_)
          have p_133 : r_133.toInt = (A 21).toInt + 1 := (congrArg Int32.toInt z_133).trans e26
          refine lv_iconst (v := 1) hx hb dX8_addFeast_136 (by decide) ?_
          refine lv_isub hx hb dX8_addFeast_137 ?_
          refine lv_topi (fun x_137 e_137 => ?_)
          have p_137 : x_137.toInt = (((A 21).toInt + 1) - 1) := by rw [e_137]; exact t_sub p_133 (show (1 : Int32).toInt = 1 from rfl) (by omega) (by omega)
          refine vx_ret ?_
          refine W.widen (k := 4) (n := 24) (Nat.le_of_ble_eq_true rfl) (Nat.le_of_ble_eq_true rfl) ?_
          exact q_cret (post := fun z n1 σ1 => (if (0 ≤ ru ∧ ru ≤ 4) ∧ (0 ≤ rk ∧ rk ≤ 9) ∧ ((ru = 0 ∧ (0 ≤ wh ∧ wh < (A 20).toInt) ∧ (1 ≤ fa ∧ fa ≤ 15) ∧ (1 ≤ fb ∧ fb ≤ 60) ∧ fc = 0) ∨ (ru = 1 ∧ (0 ≤ wh ∧ wh < (A 20).toInt) ∧ (1 ≤ fa ∧ fa ≤ 15) ∧ ((1 ≤ fb ∧ fb ≤ 5) ∨ fb = -1) ∧ (0 ≤ fc ∧ fc ≤ 9)) ∨ (ru = 2 ∧ (0 ≤ wh ∧ wh < (A 21).toInt) ∧ (-400 ≤ fa ∧ fa ≤ 400) ∧ fb = 0 ∧ fc = 0) ∨ (ru = 3 ∧ (0 ≤ wh ∧ wh < (A 21).toInt) ∧ (0 ≤ fa ∧ fa < (A 20).toInt) ∧ (0 ≤ fb ∧ fb ≤ 9) ∧ fc = 0) ∨ (ru = 4 ∧ (0 ≤ wh ∧ wh < (A 21).toInt) ∧ (0 ≤ fa ∧ fa < (A 20).toInt) ∧ (1 ≤ fb ∧ fb ≤ 60) ∧ fc = 0)) then (if (A 21).toInt = 8 then (2 : Int) else 0) else 1) = 0 ∧ n1 = n + 1 ∧ ∃ (S1 : qM) (A1 : Nat → Int32) (P1 : Nat → Nat → Option Nat), σ1 = cS t b S1 A1 B P1 ∧ (∀ k, k < n → S1 k = σ0 k) ∧ 41 < n ∧ S1 n = some (.inr (5, [.int a_ru, .int a_rk, .int a_wh, .int a_fa, .int a_fb, .int a_fc])) ∧ (∃ (A2 : Nat → Int32) (P2 : Nat → Nat → Option Nat) (v : Int32), keP A P pm 0 A2 P2 ∧ A1 = va_up A2 21 v ∧ v.toInt = (A 21).toInt + 1 ∧ P1 = va_up P2 2 (va_up (P2 2) (A 21).toInt.toNat (some n))) ∧ z.toInt = (A 21).toInt) X w dX8_addFeast_138 rfl ⟨(hcode ()).trans (if_neg (by omega)), rfl, S1, A_126, P_126, rfl, hex, hn110, hSn, ⟨A_103, P_103, v21, z_103, ev, hv2, by rw [← e21]; exact eP⟩, (p_137).trans (by omega)⟩
        · skip
          have k_82 : ¬ (((A 21).toInt) < 8) := fun h => c_82 ((g_lt p_77 (show (8 : Int32).toInt = 8 from rfl)).mpr h)
          exact x_thr_is hl0 X hE hno w (is := 228) (text := "there are 8 feasts") (by decide +kernel) hl.1 dX8_addFeast_85 dX8_addFeast_88 dX8_addFeast_89 dX8_addFeast_91 dX8_addFeast_94 ⟨Nat.le_of_ble_eq_true rfl, Nat.le_of_ble_eq_true rfl⟩ (Nat.le_of_ble_eq_true rfl) ⟨Nat.le_of_ble_eq_true rfl, Nat.le_of_ble_eq_true rfl⟩ ⟨Nat.le_of_ble_eq_true rfl, Nat.le_of_ble_eq_true rfl⟩ (fun _ => ⟨rfl, Or.inr ⟨rfl, (hcode ()).trans (if_pos (by omega))⟩⟩)
      · skip
        have k_31 : ¬ (1 < ru) := fun h => c_31 ((g_lt (show (1 : Int32).toInt = 1 from rfl) e_ru).mpr h)
        refine lv_aload_n hx hb dX8_addFeast_34 rfl (lv_at hl 0 rfl) ?_
        refine kg_X8_state X w dX8_addFeast_35 ?_
        refine q_cPV X w (c_X6_calendarCount l D t b n σ0 A B P 0 (by decide)) v_X8_115 (k := 7) rfl rfl rfl ⟨Nat.le_of_ble_eq_true rfl, Nat.le_of_ble_eq_true rfl⟩ rfl hl.1 (Nat.le_of_ble_eq_true rfl) dX8_addFeast_38 ⟨Nat.le_of_ble_eq_true rfl, Nat.le_of_ble_eq_true rfl⟩ (fun r_38 z_38 => ?_)
        have p_38 : r_38.toInt = (A 20).toInt := congrArg Int32.toInt z_38
        refine lv_goto (tgt := 51) hx hb dX8_addFeast_41 (by decide) ?_
        refine lv_iconst (v := 1) hx hb dX8_addFeast_51 (by decide) ?_
        refine lv_isub hx hb dX8_addFeast_52 ?_
        refine lv_topi (fun x_52 e_52 => ?_)
        have p_52 : x_52.toInt = (((A 20).toInt) - 1) := by rw [e_52]; exact t_sub p_38 (show (1 : Int32).toInt = 1 from rfl) (by omega) (by omega)
        refine q_cPS X w (c_X8_isFrom l a_wh 0 x_52 wh 0 (((A 20).toInt) - 1) e_wh (show (0 : Int32).toInt = 0 from rfl) p_52 D t b n (cS t b σ0 A B P)) v_X8_99 rfl ⟨Nat.le_of_ble_eq_true rfl, Nat.le_of_ble_eq_true rfl⟩ rfl hl.1 (Nat.le_of_ble_eq_true rfl) dX8_addFeast_53 ⟨Nat.le_of_ble_eq_true rfl, Nat.le_of_ble_eq_true rfl⟩ (fun r_53 z_53 => ?_)
        refine x_cVS X hE hno w (c_X8_demand l D t b n σ0 A B P hl0 r_53) v_X8_103 rfl ⟨Nat.le_of_ble_eq_true rfl, Nat.le_of_ble_eq_true rfl⟩ rfl hl.1 (Nat.le_of_ble_eq_true rfl) dX8_addFeast_56 ⟨Nat.le_of_ble_eq_true rfl, Nat.le_of_ble_eq_true rfl⟩ ⟨Nat.le_of_ble_eq_true rfl, Nat.le_of_ble_eq_true rfl⟩ (fun E n1 σ1 hz => ⟨hz.2.1, Or.inl ⟨hz.1, if_neg (fun z => (bI_f.mp (by have y := hz.2.2; rw [z_53] at y; exact y)) (by have y := (dj_iff.mp z.2.2).2.1 (by omega); omega))⟩⟩) (fun n_56 σ_56 H locs z_56 w => ?_)
        rw [z_56.1, z_56.2.1] at w
        have k_56 : 0 ≤ wh ∧ wh ≤ (((A 20).toInt) - 1) := by have y := z_56.2.2; rw [z_53] at y; exact bI_t.mp y
        have hw : (ru ≤ 1 → 0 ≤ wh ∧ wh < (A 20).toInt) ∧ (1 < ru → 0 ≤ wh ∧ wh < (A 21).toInt) := ⟨fun z => by omega, fun z => by omega⟩
        refine lv_aload_n hx hb dX8_addFeast_59 rfl (lv_at hl 0 rfl) ?_
        refine lv_iload_n hx hb dX8_addFeast_60 rfl (lv_at hl 1 rfl) ?_
        refine lv_iload hx hb dX8_addFeast_61 (lv_at hl 4 rfl) ?_
        refine lv_iload hx hb dX8_addFeast_63 (lv_at hl 5 rfl) ?_
        refine lv_iload hx hb dX8_addFeast_65 (lv_at hl 6 rfl) ?_
        refine q_cPV X w (c_X8_areNumbersOfRule l D t b n σ0 A B P a_ru a_fa a_fb a_fc ru fa fb fc e_ru e_fa e_fb e_fc (by first | assumption | omega) (by first | assumption | omega)) v_X8_224 (k := 0) rfl rfl rfl ⟨Nat.le_of_ble_eq_true rfl, Nat.le_of_ble_eq_true rfl⟩ rfl hl.1 (Nat.le_of_ble_eq_true rfl) dX8_addFeast_67 ⟨Nat.le_of_ble_eq_true rfl, Nat.le_of_ble_eq_true rfl⟩ (fun r_67 z_67 => ?_)
        refine x_cVS X hE hno w (c_X8_demand l D t b n σ0 A B P hl0 r_67) v_X8_103 rfl ⟨Nat.le_of_ble_eq_true rfl, Nat.le_of_ble_eq_true rfl⟩ rfl hl.1 (Nat.le_of_ble_eq_true rfl) dX8_addFeast_70 ⟨Nat.le_of_ble_eq_true rfl, Nat.le_of_ble_eq_true rfl⟩ ⟨Nat.le_of_ble_eq_true rfl, Nat.le_of_ble_eq_true rfl⟩ (fun E n1 σ1 hz => ⟨hz.2.1, Or.inl ⟨hz.1, if_neg (fun z => (bI_f.mp (by have y := hz.2.2; rw [z_67] at y; exact y)) (dj_iff.mp z.2.2).1)⟩⟩) (fun n_70 σ_70 H locs z_70 w => ?_)
        rw [z_70.1, z_70.2.1] at w
        have k_70 : (ru = 0 ∧ (1 ≤ fa ∧ fa ≤ 15) ∧ (1 ≤ fb ∧ fb ≤ 60) ∧ fc = 0) ∨ (ru = 1 ∧ (1 ≤ fa ∧ fa ≤ 15) ∧ ((1 ≤ fb ∧ fb ≤ 5) ∨ fb = -1) ∧ (0 ≤ fc ∧ fc ≤ 9)) ∨ (ru = 2 ∧ (-400 ≤ fa ∧ fa ≤ 400) ∧ fb = 0 ∧ fc = 0) ∨ (ru = 3 ∧ (0 ≤ fa ∧ fa < (A 20).toInt) ∧ (0 ≤ fb ∧ fb ≤ 9) ∧ fc = 0) ∨ (ru = 4 ∧ (0 ≤ fa ∧ fa < (A 20).toInt) ∧ (1 ≤ fb ∧ fb ≤ 60) ∧ fc = 0) := by have y := z_70.2.2; rw [z_67] at y; exact bI_t.mp y
        have hcode : ∀ u : Unit, (if (0 ≤ ru ∧ ru ≤ 4) ∧ (0 ≤ rk ∧ rk ≤ 9) ∧ ((ru = 0 ∧ (0 ≤ wh ∧ wh < (A 20).toInt) ∧ (1 ≤ fa ∧ fa ≤ 15) ∧ (1 ≤ fb ∧ fb ≤ 60) ∧ fc = 0) ∨ (ru = 1 ∧ (0 ≤ wh ∧ wh < (A 20).toInt) ∧ (1 ≤ fa ∧ fa ≤ 15) ∧ ((1 ≤ fb ∧ fb ≤ 5) ∨ fb = -1) ∧ (0 ≤ fc ∧ fc ≤ 9)) ∨ (ru = 2 ∧ (0 ≤ wh ∧ wh < (A 21).toInt) ∧ (-400 ≤ fa ∧ fa ≤ 400) ∧ fb = 0 ∧ fc = 0) ∨ (ru = 3 ∧ (0 ≤ wh ∧ wh < (A 21).toInt) ∧ (0 ≤ fa ∧ fa < (A 20).toInt) ∧ (0 ≤ fb ∧ fb ≤ 9) ∧ fc = 0) ∨ (ru = 4 ∧ (0 ≤ wh ∧ wh < (A 21).toInt) ∧ (0 ≤ fa ∧ fa < (A 20).toInt) ∧ (1 ≤ fb ∧ fb ≤ 60) ∧ fc = 0)) then (if (A 21).toInt = 8 then (2 : Int) else 0) else 1) = (if (A 21).toInt = 8 then (2 : Int) else 0) := fun _ => if_pos ⟨k_6, k_16, dj_iff.mpr ⟨k_70, hw⟩⟩
        clear k_70
        refine lv_aload_n hx hb dX8_addFeast_73 rfl (lv_at hl 0 rfl) ?_
        refine kg_X8_state X w dX8_addFeast_74 ?_
        refine q_cPV X w (c_X6_feastCount l D t b n σ0 A B P 0 (by decide)) v_X8_221 (k := 7) rfl rfl rfl ⟨Nat.le_of_ble_eq_true rfl, Nat.le_of_ble_eq_true rfl⟩ rfl hl.1 (Nat.le_of_ble_eq_true rfl) dX8_addFeast_77 ⟨Nat.le_of_ble_eq_true rfl, Nat.le_of_ble_eq_true rfl⟩ (fun r_77 z_77 => ?_)
        have p_77 : r_77.toInt = (A 21).toInt := congrArg Int32.toInt z_77
        refine lv_bipush (v := 8) hx hb dX8_addFeast_80 (by decide) ?_
        refine lv_icmp_lt (tgt := 95) hx hb dX8_addFeast_82 (by decide) (fun c_82 => ?_) (fun c_82 => ?_)
        · skip
          have k_82 : ((A 21).toInt) < 8 := (g_lt p_77 (show (8 : Int32).toInt = 8 from rfl)).mp c_82
          refine lv_aload_n hx hb dX8_addFeast_95 rfl (lv_at hl 0 rfl) ?_
          refine kg_X8_history X w dX8_addFeast_96 ?_
          refine lv_aload_n hx hb dX8_addFeast_99 rfl (lv_at hl 0 rfl) ?_
          refine kg_X8_state X w dX8_addFeast_100 ?_
          have hw0 := w.1
          refine kk_cU X w (c_X3_keep l D t b n σ0 A B P pm h_p h_n 0 (by decide) h_0) v_X8_142 (rc := 13) rfl rfl rfl ⟨Nat.le_of_ble_eq_true rfl, Nat.le_of_ble_eq_true rfl⟩ rfl hl.1 (Nat.le_of_ble_eq_true rfl) dX8_addFeast_103 ⟨Nat.le_of_ble_eq_true rfl, Nat.le_of_ble_eq_true rfl⟩ (fun A_103 P_103 H locs z_103 w => ?_)
          obtain ⟨pm', kp1, kp2, kp3, kp4, kp5, kp6⟩ := id z_103
          have e21 : (A_103 21).toInt = (A 21).toInt := congrArg Int32.toInt (kp2 21 (by omega) (by omega))
          refine lv_aload_n hx hb dX8_addFeast_106 rfl (lv_at hl 0 rfl) ?_
          refine kg_X8_state X w dX8_addFeast_107 ?_
          have hn110 : 41 < n := w.1.lt (k := 41) rfl
          refine q_new (ci := 5) X w inX1 tyX1 tyX1_ok cl_X8_230 is_X1 ini_X1 rfl (fs := [.int 0, .int 0, .int 0, .int 0, .int 0, .int 0]) (fun j hj => by match j, hj with | 0, _ => rfl | 1, _ => rfl | 2, _ => rfl | 3, _ => rfl | 4, _ => rfl | 5, _ => rfl | j + 6, hj => exact absurd hj (by omega)) (Nat.le_of_ble_eq_true rfl) (Nat.le_of_ble_eq_true rfl) dX8_addFeast_110 (fun H w => ?_)
          rw [cS_up hn110] at w
          refine lv_dup hx hb dX8_addFeast_113 rfl ?_
          refine lv_iload_n hx hb dX8_addFeast_114 rfl (lv_at hl 1 rfl) ?_
          refine lv_iload_n hx hb dX8_addFeast_115 rfl (lv_at hl 2 rfl) ?_
          refine lv_iload_n hx hb dX8_addFeast_116 rfl (lv_at hl 3 rfl) ?_
          refine lv_iload hx hb dX8_addFeast_117 (lv_at hl 4 rfl) ?_
          refine lv_iload hx hb dX8_addFeast_119 (lv_at hl 5 rfl) ?_
          refine lv_iload hx hb dX8_addFeast_121 (lv_at hl 6 rfl) ?_
          refine q_cVI X w (c_X1_init l D t b (n + 1) (va_up σ0 n (some (.inr (5, [.int 0, .int 0, .int 0, .int 0, .int 0, .int 0])))) A_103 B P_103 n a_ru a_rk a_wh a_fa a_fb a_fc hn110 (va_up_self _ _ _)) iw_X8_232 rfl ⟨Nat.le_of_ble_eq_true rfl, Nat.le_of_ble_eq_true rfl⟩ rfl hl.1 (Nat.le_of_ble_eq_true rfl) dX8_addFeast_123 ⟨Nat.le_of_ble_eq_true rfl, Nat.le_of_ble_eq_true rfl⟩ (fun n_123 σ_123 H locs z_123 w => ?_)
          obtain ⟨rfl, rfl⟩ := z_123
          obtain ⟨S1, hS1⟩ : ∃ z : qM, z = (va_up (va_up σ0 n (some (.inr (5, [.int 0, .int 0, .int 0, .int 0, .int 0, .int 0])))) n (some (.inr (5, [.int a_ru, .int a_rk, .int a_wh, .int a_fa, .int a_fb, .int a_fc])))) := ⟨_, rfl⟩
          rw [← hS1] at w
          have hex : ∀ k, k < n → S1 k = σ0 k := fun k hk => by rw [hS1, va_up_ne _ _ (by omega), va_up_ne _ _ (by omega)]
          have hSn : S1 n = some (.inr (5, [.int a_ru, .int a_rk, .int a_wh, .int a_fa, .int a_fb, .int a_fc])) := by rw [hS1]; exact va_up_self _ _ _
          refine kk_cU X w (c_X6_addLastFeast l D t b (n + 1) S1 A_103 B P_103 0 (by decide) (by show 0 ≤ (A_103 21).toInt ∧ (A_103 21).toInt < 8; omega) n _ ⟨hn110, hSn⟩) v_X8_235 (rc := 7) rfl rfl rfl ⟨Nat.le_of_ble_eq_true rfl, Nat.le_of_ble_eq_true rfl⟩ rfl hl.1 (Nat.le_of_ble_eq_true rfl) dX8_addFeast_126 ⟨Nat.le_of_ble_eq_true rfl, Nat.le_of_ble_eq_true rfl⟩ (fun A_126 P_126 H locs z_126 w => ?_)
          obtain ⟨⟨v21, ev, hv⟩, eP⟩ := z_126
          have hv2 : v21.toInt = (A 21).toInt + 1 := hv.trans (by show (A_103 21).toInt + 1 = _; rw [e21])
          have e26 : (A_126 21).toInt = (A 21).toInt + 1 := by rw [ev]; exact hv2
          refine lv_aload_n hx hb dX8_addFeast_129 rfl (lv_at hl 0 rfl) ?_
          refine kg_X8_state X w dX8_addFeast_130 ?_
          refine q_cPV X w (c_X6_feastCount l D t b (n + 1) S1 A_126 B P_126 0 (by decide)) v_X8_221 (k := 7) rfl rfl rfl ⟨Nat.le_of_ble_eq_true rfl, Nat.le_of_ble_eq_true rfl⟩ rfl hl.1 (Nat.le_of_ble_eq_true rfl) dX8_addFeast_133 ⟨Nat.le_of_ble_eq_true rfl, Nat.le_of_ble_eq_true rfl⟩ (fun r_133 z_133 => ?_)
          have p_133 : r_133.toInt = (A 21).toInt + 1 := (congrArg Int32.toInt z_133).trans e26
          refine lv_iconst (v := 1) hx hb dX8_addFeast_136 (by decide) ?_
          refine lv_isub hx hb dX8_addFeast_137 ?_
          refine lv_topi (fun x_137 e_137 => ?_)
          have p_137 : x_137.toInt = (((A 21).toInt + 1) - 1) := by rw [e_137]; exact t_sub p_133 (show (1 : Int32).toInt = 1 from rfl) (by omega) (by omega)
          refine vx_ret ?_
          refine W.widen (k := 4) (n := 24) (Nat.le_of_ble_eq_true rfl) (Nat.le_of_ble_eq_true rfl) ?_
          exact q_cret (post := fun z n1 σ1 => (if (0 ≤ ru ∧ ru ≤ 4) ∧ (0 ≤ rk ∧ rk ≤ 9) ∧ ((ru = 0 ∧ (0 ≤ wh ∧ wh < (A 20).toInt) ∧ (1 ≤ fa ∧ fa ≤ 15) ∧ (1 ≤ fb ∧ fb ≤ 60) ∧ fc = 0) ∨ (ru = 1 ∧ (0 ≤ wh ∧ wh < (A 20).toInt) ∧ (1 ≤ fa ∧ fa ≤ 15) ∧ ((1 ≤ fb ∧ fb ≤ 5) ∨ fb = -1) ∧ (0 ≤ fc ∧ fc ≤ 9)) ∨ (ru = 2 ∧ (0 ≤ wh ∧ wh < (A 21).toInt) ∧ (-400 ≤ fa ∧ fa ≤ 400) ∧ fb = 0 ∧ fc = 0) ∨ (ru = 3 ∧ (0 ≤ wh ∧ wh < (A 21).toInt) ∧ (0 ≤ fa ∧ fa < (A 20).toInt) ∧ (0 ≤ fb ∧ fb ≤ 9) ∧ fc = 0) ∨ (ru = 4 ∧ (0 ≤ wh ∧ wh < (A 21).toInt) ∧ (0 ≤ fa ∧ fa < (A 20).toInt) ∧ (1 ≤ fb ∧ fb ≤ 60) ∧ fc = 0)) then (if (A 21).toInt = 8 then (2 : Int) else 0) else 1) = 0 ∧ n1 = n + 1 ∧ ∃ (S1 : qM) (A1 : Nat → Int32) (P1 : Nat → Nat → Option Nat), σ1 = cS t b S1 A1 B P1 ∧ (∀ k, k < n → S1 k = σ0 k) ∧ 41 < n ∧ S1 n = some (.inr (5, [.int a_ru, .int a_rk, .int a_wh, .int a_fa, .int a_fb, .int a_fc])) ∧ (∃ (A2 : Nat → Int32) (P2 : Nat → Nat → Option Nat) (v : Int32), keP A P pm 0 A2 P2 ∧ A1 = va_up A2 21 v ∧ v.toInt = (A 21).toInt + 1 ∧ P1 = va_up P2 2 (va_up (P2 2) (A 21).toInt.toNat (some n))) ∧ z.toInt = (A 21).toInt) X w dX8_addFeast_138 rfl ⟨(hcode ()).trans (if_neg (by omega)), rfl, S1, A_126, P_126, rfl, hex, hn110, hSn, ⟨A_103, P_103, v21, z_103, ev, hv2, by rw [← e21]; exact eP⟩, (p_137).trans (by omega)⟩
        · skip
          have k_82 : ¬ (((A 21).toInt) < 8) := fun h => c_82 ((g_lt p_77 (show (8 : Int32).toInt = 8 from rfl)).mpr h)
          exact x_thr_is hl0 X hE hno w (is := 228) (text := "there are 8 feasts") (by decide +kernel) hl.1 dX8_addFeast_85 dX8_addFeast_88 dX8_addFeast_89 dX8_addFeast_91 dX8_addFeast_94 ⟨Nat.le_of_ble_eq_true rfl, Nat.le_of_ble_eq_true rfl⟩ (Nat.le_of_ble_eq_true rfl) ⟨Nat.le_of_ble_eq_true rfl, Nat.le_of_ble_eq_true rfl⟩ ⟨Nat.le_of_ble_eq_true rfl, Nat.le_of_ble_eq_true rfl⟩ (fun _ => ⟨rfl, Or.inr ⟨rfl, (hcode ()).trans (if_pos (by omega))⟩⟩)
