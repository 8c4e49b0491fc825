set_option maxHeartbeats 4000000 in
set_option maxRecDepth 100000 in
theorem c_X9_findFeasts (l : Launch) (D : va_G) (t : Nat → ClassId) (b n : Nat) (σ0 : qM) (I : Nat → Int32) (Rw : Nat → Nat → Int32) (a_yr : Int32) (a_many : Int32) (yr : Int) (many : Int) (e_yr : a_yr.toInt = yr) (e_many : a_many.toInt = many) (h_1 : (I 5).toInt ≤ 6) (h_2 : ∀ c : Int, 0 ≤ c → c < (I 5).toInt → okRow (rowM Rw c)) (h_3 : ∀ c : Int, 0 ≤ c → c < (I 5).toInt → okF Rw c) (h_4 : -2000 ≤ yr ∧ yr ≤ 2000) (h_5 : 0 ≤ many ∧ many ≤ 8) (h_6 : ∀ f : Int, 0 ≤ f → f < many → okFe (I 5).toInt f (feM Rw f)) : mV l yX9_findFeasts cX9_findFeasts 5 9 D t b n σ0 I Rw [.ref (b + 45), .int a_yr, .int a_many] (fun I1 R1 => kpI [6, 7, 8] I I1 ∧ kpR [17] Rw R1 ∧ ∀ j : Int, 0 ≤ j → j < many → (R1 17 j.toNat).toInt = fday (rowM Rw) (feM Rw) yr j) := by
  refine qV.of (by decide +kernel) (Nat.le_of_ble_eq_true rfl) (fun p e s m args below meth c X w _ ls hl => ?_)
  have hx := X.1
  have hb := X.2.1
  have hl : lv_has ls 5 [(0, .ref (b + 45)), (1, .int a_yr), (2, .int a_many)] := hl
  refine lv_iconst (v := 0) hx hb dX9_findFeasts_0 (by decide) ?_
  refine lv_istore_n (lv' := [(3, .int 0), (0, .ref (b + 45)), (1, .int a_yr), (2, .int a_many)]) hx hb dX9_findFeasts_1 rfl hl (by decide) rfl (fun ls hl => ?_)
  refine q_loop (α := Int32 × Int × (Nat → Int32) × (Nat → Nat → Int32)) (fun a => a.1.toInt = a.2.1 ∧ (kpI [6,7,8] I a.2.2.1 ∧ kpR [17] Rw a.2.2.2 ∧ (0 ≤ a.2.1 ∧ a.2.1 ≤ many) ∧ ∀ j : Int, 0 ≤ j → j < a.2.1 → (a.2.2.2 17 j.toNat).toInt = fday (rowM Rw) (feM Rw) yr j)) (fun a => (many - a.2.1).toNat) (fun a => ∀ (H : Heap) (locs : List Loc), qW D b n (mS t b σ0 a.2.2.1 a.2.2.2) s H locs → ∀ ls : Array Slot, lv_has ls 5 [(3, .int a.1), (0, .ref (b + 45)), (1, .int a_yr), (2, .int a_many)] → W p l e (qR 9 0 0) s m args below meth c H locs 0 0 (MQ below (va_Qv (S := Nat × qM) (fun u => (fun n1 σ1 => n1 = n ∧ ∃ I1 R1, σ1 = mS t b σ0 I1 R1 ∧ kpI [6, 7, 8] I I1 ∧ kpR [17] Rw R1 ∧ ∀ j : Int, 0 ≤ j → j < many → (R1 17 j.toNat).toInt = fday (rowM Rw) (feM Rw) yr j) u.1 u.2) (fun u T => WB D b u.1 u.2 T.heap) (fun q => b ≤ q)) args s 0 0 (fun q => b ≤ q)) (F0 m 2 ls [])) ?_ ⟨0, 0, I, Rw⟩ ⟨(show (0 : Int32).toInt = 0 from rfl), by dsimp only; exact ⟨kpI.rf, kpR.rf, by omega, fun j a b => by omega⟩⟩ _ _ w ls (lv_sub hl [0, 1, 2, 3] rfl)
  rintro ⟨v_f, f, I_L2, R_L2⟩ ⟨q_f, inv_2⟩ ih_2 H locs w ls hl
  dsimp only at q_f inv_2 hl w
  have e5 : I_L2 5 = I 5 := inv_2.1 5 (by decide)
  have e2 : R_L2 2 = Rw 2 := inv_2.2.1 2 (by decide)
  have e4 : R_L2 4 = Rw 4 := inv_2.2.1 4 (by decide)
  have e16 : R_L2 16 = Rw 16 := inv_2.2.1 16 (by decide)
  have eM : rowM R_L2 = rowM Rw := rowM_cg e2
  have eF : feM R_L2 = feM Rw := feM_cg e16
  refine lv_iload_n hx hb dX9_findFeasts_2 rfl (lv_at hl 0 rfl) ?_
  refine lv_iload_n hx hb dX9_findFeasts_3 rfl (lv_at hl 3 rfl) ?_
  refine lv_icmp_ge (tgt := 51) hx hb dX9_findFeasts_4 (by decide) (fun c_4 => ?_) (fun c_4 => ?_)
  · skip
    have k_4 : many ≤ f := (g_le e_many q_f).mp c_4
    exact q_vret (post := (fun n1 σ1 => n1 = n ∧ ∃ I1 R1, σ1 = mS t b σ0 I1 R1 ∧ kpI [6, 7, 8] I I1 ∧ kpR [17] Rw R1 ∧ ∀ j : Int, 0 ≤ j → j < many → (R1 17 j.toNat).toInt = fday (rowM Rw) (feM Rw) yr j)) X w dX9_findFeasts_51 ⟨rfl, _, _, rfl, by exact ⟨inv_2.1, inv_2.2.1, fun j a1 a2 => inv_2.2.2.2 j a1 (by omega)⟩⟩
  · skip
    have k_4 : ¬ (many ≤ f) := fun h => c_4 ((g_le e_many q_f).mpr h)
    refine lv_aload_n hx hb dX9_findFeasts_7 rfl (lv_at hl 1 rfl) ?_
    refine lv_iload_n hx hb dX9_findFeasts_8 rfl (lv_at hl 0 rfl) ?_
    refine lv_iload_n hx hb dX9_findFeasts_9 rfl (lv_at hl 2 rfl) ?_
    refine mm_cCI X w (c_X9_ruledDay l D t b n σ0 I_L2 R_L2 v_f a_yr f yr q_f e_yr (by rw [e5]; exact h_1) (by rw [e5, eM]; exact h_2) (by rw [e5]; exact fun c a b => okF_cg e2.symm e4.symm (h_3 c a b)) (by omega) (by rw [e5, eF]; exact h_6 f (by omega) (by omega)) (by exact fun j a b => by rw [inv_2.2.2.2 j a b]; exact fday_bd a) (by first | assumption | omega)) v_X9_301 rfl rfl ⟨Nat.le_of_ble_eq_true rfl, Nat.le_of_ble_eq_true rfl⟩ rfl hl.1 (Nat.le_of_ble_eq_true rfl) dX9_findFeasts_10 ⟨Nat.zero_le _, Nat.zero_le _⟩ (fun r_10 I_10 H locs z_10 w => ?_)
    refine lv_istore (lv' := [(4, .int r_10), (3, .int v_f), (0, .ref (b + 45)), (1, .int a_yr), (2, .int a_many)]) hx hb dX9_findFeasts_13 hl (by decide) rfl (fun ls hl => ?_)
    refine lv_aload_n hx hb dX9_findFeasts_15 rfl (lv_at hl 2 rfl) ?_
    refine mg_feastDay X w dX9_findFeasts_16 ?_
    refine lv_iload_n hx hb dX9_findFeasts_19 rfl (lv_at hl 1 rfl) ?_
    refine lv_iload hx hb dX9_findFeasts_20 (lv_at hl 0 rfl) ?_
    refine lv_ldcw hx hb X.2.2.2.1 (X.2.2.1 _ kc_X9_259) dX9_findFeasts_22 ?_
    refine lv_icmp_eq (tgt := 41) hx hb dX9_findFeasts_25 (by decide) (fun c_25 => ?_) (fun c_25 => ?_)
    · skip
      have k_25 : (ruled (rowM R_L2) (feM R_L2) (fun j => (R_L2 17 j.toNat).toInt) f yr) = (-2147483647) := (g_eq z_10.2 (show ((-2147483647) : Int32).toInt = (-2147483647) from rfl)).mp c_25
      refine lv_ldcw hx hb X.2.2.2.1 (X.2.2.1 _ kc_X9_259) dX9_findFeasts_41 ?_
      refine ms_feastDay (x := (-2147483647)) X w (g_in q_f (by omega)) dX9_findFeasts_44 (fun H locs w => ?_)
      rw [g_tn q_f] at w
      obtain ⟨x_45, e_45⟩ : ∃ z : Int32, z = (v_f + 1) := ⟨_, rfl⟩
      have p_45 : x_45.toInt = (f + 1) := by rw [e_45]; exact t_add q_f (show (1 : Int32).toInt = 1 from rfl) (by omega) (by omega)
      refine lv_iinc (v := x_45) (lv' := [(3, .int x_45), (4, .int r_10), (0, .ref (b + 45)), (1, .int a_yr), (2, .int a_many)]) hx hb dX9_findFeasts_45 hl (k := 1) rfl (by rw [e_45]; rfl) (by decide) rfl (fun ls hl => ?_)
      refine lv_goto (tgt := 2) hx hb dX9_findFeasts_48 (by decide) ?_
      refine ih_2 ⟨x_45, (f + 1), I_10, (va_up R_L2 17 (upd (R_L2 17) f.toNat (-2147483647)))⟩ ⟨p_45, by dsimp only; refine ⟨inv_2.1.tr z_10.1 (by decide) (by decide), inv_2.2.1.up (by decide), by omega, fun j a1 a2 => ?_⟩; rcases (show j < f ∨ j = f by omega) with q | q; (rw [up_n _ _ _ _ (by omega)]; exact inv_2.2.2.2 j a1 q); (rw [q, up_s, fday_eq (by omega) (h_6 f (by omega) (by omega)) inv_2.2.2.2, ← eM, ← eF]; exact (clampD_n (fun q => q.1 k_25)).symm)⟩ (by dsimp only; omega) _ _ w ls (lv_sub hl [0, 2, 3, 4] rfl)
    · skip
      have k_25 : ¬ ((ruled (rowM R_L2) (feM R_L2) (fun j => (R_L2 17 j.toNat).toInt) f yr) = (-2147483647)) := fun h => c_25 ((g_eq z_10.2 (show ((-2147483647) : Int32).toInt = (-2147483647) from rfl)).mpr h)
      refine lv_iload hx hb dX9_findFeasts_28 (lv_at hl 0 rfl) ?_
      refine q_cPS X w (c_X9_isDay l r_10 (ruled (rowM R_L2) (feM R_L2) (fun j => (R_L2 17 j.toNat).toInt) f yr) z_10.2 D t b n (mS t b σ0 I_10 R_L2)) v_X9_238 rfl ⟨Nat.le_of_ble_eq_true rfl, Nat.le_of_ble_eq_true rfl⟩ rfl hl.1 (Nat.le_of_ble_eq_true rfl) dX9_findFeasts_30 ⟨Nat.zero_le _, Nat.zero_le _⟩ (fun r_30 z_30 => ?_)
      refine lv_if_eq (tgt := 41) hx hb dX9_findFeasts_33 (by decide) (fun c_33 => ?_) (fun c_33 => ?_)
      · skip
        rw [z_30] at c_33
        have k_33 := bI_f.mp c_33
        refine lv_ldcw hx hb X.2.2.2.1 (X.2.2.1 _ kc_X9_259) dX9_findFeasts_41 ?_
        refine ms_feastDay (x := (-2147483647)) X w (g_in q_f (by omega)) dX9_findFeasts_44 (fun H locs w => ?_)
        rw [g_tn q_f] at w
        obtain ⟨x_45, e_45⟩ : ∃ z : Int32, z = (v_f + 1) := ⟨_, rfl⟩
        have p_45 : x_45.toInt = (f + 1) := by rw [e_45]; exact t_add q_f (show (1 : Int32).toInt = 1 from rfl) (by omega) (by omega)
        refine lv_iinc (v := x_45) (lv' := [(3, .int x_45), (4, .int r_10), (0, .ref (b + 45)), (1, .int a_yr), (2, .int a_many)]) hx hb dX9_findFeasts_45 hl (k := 1) rfl (by rw [e_45]; rfl) (by decide) rfl (fun ls hl => ?_)
        refine lv_goto (tgt := 2) hx hb dX9_findFeasts_48 (by decide) ?_
        refine ih_2 ⟨x_45, (f + 1), I_10, (va_up R_L2 17 (upd (R_L2 17) f.toNat (-2147483647)))⟩ ⟨p_45, by dsimp only; refine ⟨inv_2.1.tr z_10.1 (by decide) (by decide), inv_2.2.1.up (by decide), by omega, fun j a1 a2 => ?_⟩; rcases (show j < f ∨ j = f by omega) with q | q; (rw [up_n _ _ _ _ (by omega)]; exact inv_2.2.2.2 j a1 q); (rw [q, up_s, fday_eq (by omega) (h_6 f (by omega) (by omega)) inv_2.2.2.2, ← eM, ← eF]; exact (clampD_n (fun q => k_33 q.2)).symm)⟩ (by dsimp only; omega) _ _ w ls (lv_sub hl [0, 2, 3, 4] rfl)
      · skip
        rw [z_30] at c_33
        have k_33 := bI_t.mp c_33
        refine lv_iload hx hb dX9_findFeasts_36 (lv_at hl 0 rfl) ?_
        refine lv_goto (tgt := 44) hx hb dX9_findFeasts_38 (by decide) ?_
        refine ms_feastDay (x := r_10) X w (g_in q_f (by omega)) dX9_findFeasts_44 (fun H locs w => ?_)
        rw [g_tn q_f] at w
        obtain ⟨x_45, e_45⟩ : ∃ z : Int32, z = (v_f + 1) := ⟨_, rfl⟩
        have p_45 : x_45.toInt = (f + 1) := by rw [e_45]; exact t_add q_f (show (1 : Int32).toInt = 1 from rfl) (by omega) (by omega)
        refine lv_iinc (v := x_45) (lv' := [(3, .int x_45), (4, .int r_10), (0, .ref (b + 45)), (1, .int a_yr), (2, .int a_many)]) hx hb dX9_findFeasts_45 hl (k := 1) rfl (by rw [e_45]; rfl) (by decide) rfl (fun ls hl => ?_)
        refine lv_goto (tgt := 2) hx hb dX9_findFeasts_48 (by decide) ?_
        refine ih_2 ⟨x_45, (f + 1), I_10, (va_up R_L2 17 (upd (R_L2 17) f.toNat r_10))⟩ ⟨p_45, by dsimp only; refine ⟨inv_2.1.tr z_10.1 (by decide) (by decide), inv_2.2.1.up (by decide), by omega, fun j a1 a2 => ?_⟩; rcases (show j < f ∨ j = f by omega) with q | q; (rw [up_n _ _ _ _ (by omega)]; exact inv_2.2.2.2 j a1 q); (rw [q, up_s, fday_eq (by omega) (h_6 f (by omega) (by omega)) inv_2.2.2.2, ← eM, ← eF]; exact z_10.2.trans (clampD_p k_25 k_33).symm)⟩ (by dsimp only; omega) _ _ w ls (lv_sub hl [0, 2, 3, 4] rfl)

set_option maxHeartbeats 4000000 in
set_option maxRecDepth 100000 in
theorem c_X9_feast (l : Launch) (D : va_G) (t : Nat → ClassId) (b n : Nat) (σ0 : qM) (I : Nat → Int32) (Rw : Nat → Nat → Int32) (a_f : Int32) (a_yr : Int32) (f : Int) (yr : Int) (e_f : a_f.toInt = f) (e_yr : a_yr.toInt = yr) (h_1 : (I 5).toInt ≤ 6) (h_2 : ∀ c : Int, 0 ≤ c → c < (I 5).toInt → okRow (rowM Rw c)) (h_3 : ∀ c : Int, 0 ≤ c → c < (I 5).toInt → okF Rw c) (h_4 : 0 ≤ (I 19).toInt ∧ (I 19).toInt ≤ 8) (h_5 : ∀ f : Int, 0 ≤ f → f < (I 19).toInt → okFe (I 5).toInt f (feM Rw f)) : mC l yX9_feast cX9_feast 3 (some .int) 10 D t b n σ0 I Rw [.ref (b + 45), .int a_f, .int a_yr] (fun z I1 R1 => kpI [0, 6, 7, 8] I I1 ∧ kpR [17, 18] Rw R1 ∧ (I1 0).toInt = (if 0 < cd2 (0 ≤ f ∧ f < (I 19).toInt) (-2000 ≤ yr ∧ yr ≤ 2000) then cd2 (0 ≤ f ∧ f < (I 19).toInt) (-2000 ≤ yr ∧ yr ≤ 2000) else if fday (rowM Rw) (feM Rw) yr f = -2147483647 then 3 else 0) ∧ ((I1 0).toInt = 0 → z.toInt = fday (rowM Rw) (feM Rw) yr f)) := by
  refine qC.of (by decide +kernel) (Nat.le_of_ble_eq_true rfl) (fun p e s m args below meth c X w ls hl => ?_)
  have hx := X.1
  have hb := X.2.1
  have hl : lv_has ls 3 [(0, .ref (b + 45)), (1, .int a_f), (2, .int a_yr)] := hl
  refine lv_aload_n hx hb dX9_feast_0 rfl (lv_at hl 0 rfl) ?_
  refine lv_aload_n hx hb dX9_feast_1 rfl (lv_at hl 0 rfl) ?_
  refine lv_iload_n hx hb dX9_feast_2 rfl (lv_at hl 1 rfl) ?_
  refine lv_iload_n hx hb dX9_feast_3 rfl (lv_at hl 2 rfl) ?_
  refine q_cPV X w (c_X9_notFeast l D t b n σ0 I Rw a_f a_yr f yr e_f e_yr) v_X9_304 (k := 45) rfl rfl rfl ⟨Nat.le_of_ble_eq_true rfl, Nat.le_of_ble_eq_true rfl⟩ rfl hl.1 (Nat.le_of_ble_eq_true rfl) dX9_feast_4 ⟨Nat.zero_le _, Nat.zero_le _⟩ (fun r_4 z_4 => ?_)
  refine mp_thrown (v := r_4) X w dX9_feast_7 (fun H locs w => ?_)
  refine lv_aload_n hx hb dX9_feast_10 rfl (lv_at hl 0 rfl) ?_
  refine mg_thrown X w dX9_feast_11 ?_
  refine q_topE (y := r_4) rfl ?_
  refine lv_if_le (tgt := 19) hx hb dX9_feast_14 (by decide) (fun c_14 => ?_) (fun c_14 => ?_)
  · skip
    have k_14 : (cd2 (0 ≤ f ∧ f < (I 19).toInt) (-2000 ≤ yr ∧ yr ≤ 2000)) ≤ 0 := (g_le z_4 (show (0 : Int32).toInt = 0 from rfl)).mp c_14
    have hC := cd2_ok (p := 0 ≤ f ∧ f < (I 19).toInt) (q := -2000 ≤ yr ∧ yr ≤ 2000) |>.mp (by omega)
    have e5 : I 5 = (va_up I 0 r_4) 5 := rfl
    refine lv_aload_n hx hb dX9_feast_19 rfl (lv_at hl 0 rfl) ?_
    refine lv_iload_n hx hb dX9_feast_20 rfl (lv_at hl 2 rfl) ?_
    refine lv_iload_n hx hb dX9_feast_21 rfl (lv_at hl 1 rfl) ?_
    refine lv_iconst (v := 1) hx hb dX9_feast_22 (by decide) ?_
    refine lv_iadd hx hb dX9_feast_23 ?_
    refine lv_topi (fun x_23 e_23 => ?_)
    have p_23 : x_23.toInt = (f + 1) := by rw [e_23]; exact t_add e_f (show (1 : Int32).toInt = 1 from rfl) (by omega) (by omega)
    refine mm_cV X w (c_X9_findFeasts l D t b n σ0 (va_up I 0 r_4) Rw a_yr x_23 yr (f + 1) e_yr p_23 (by exact h_1) (by exact h_2) (by exact h_3) (by exact hC.2) (by omega) (by exact fun g a b => h_5 g a (by omega))) v_X9_307 rfl rfl ⟨Nat.le_of_ble_eq_true rfl, Nat.le_of_ble_eq_true rfl⟩ rfl hl.1 (Nat.le_of_ble_eq_true rfl) dX9_feast_24 ⟨Nat.zero_le _, Nat.zero_le _⟩ (fun I_24 R_24 H locs z_24 w => ?_)
    refine lv_aload_n hx hb dX9_feast_27 rfl (lv_at hl 0 rfl) ?_
    refine lv_aload_n hx hb dX9_feast_28 rfl (lv_at hl 0 rfl) ?_
    refine mg_feastDay X w dX9_feast_29 ?_
    refine lv_iload_n hx hb dX9_feast_32 rfl (lv_at hl 1 rfl) ?_
    refine ml_feastDay X w (g_in e_f (by omega)) dX9_feast_33 ?_
    refine q_topE (y := R_24 17 f.toNat) (congrArg (R_24 17) (g_tn e_f)) ?_
    refine mm_cCI X w (c_X9_told l D t b n σ0 I_24 R_24 (R_24 17 f.toNat) ((R_24 17 f.toNat).toInt) rfl) v_X9_269 rfl rfl ⟨Nat.le_of_ble_eq_true rfl, Nat.le_of_ble_eq_true rfl⟩ rfl hl.1 (Nat.le_of_ble_eq_true rfl) dX9_feast_34 ⟨Nat.zero_le _, Nat.zero_le _⟩ (fun r_34 I_34 H locs z_34 w => ?_)
    exact q_cret (post := (fun z n1 σ1 => n1 = n ∧ ∃ I1 R1, σ1 = mS t b σ0 I1 R1 ∧ kpI [0, 6, 7, 8] I I1 ∧ kpR [17, 18] Rw R1 ∧ (I1 0).toInt = (if 0 < cd2 (0 ≤ f ∧ f < (I 19).toInt) (-2000 ≤ yr ∧ yr ≤ 2000) then cd2 (0 ≤ f ∧ f < (I 19).toInt) (-2000 ≤ yr ∧ yr ≤ 2000) else if fday (rowM Rw) (feM Rw) yr f = -2147483647 then 3 else 0) ∧ ((I1 0).toInt = 0 → z.toInt = fday (rowM Rw) (feM Rw) yr f))) X w dX9_feast_37 (rfl) ⟨rfl, _, _, rfl, by have hv : (R_24 17 f.toNat).toInt = fday (rowM Rw) (feM Rw) yr f := z_24.2.2 f hC.1.1 (by omega); exact ⟨kpI.tr (J := [0,6,7,8]) (kpI.up (J := [0]) kpI.rf (by decide)) (kpI.tr (J := [0,6,7,8]) z_24.1 z_34.1 (by decide) (by decide)) (by decide) (by decide), z_24.2.1.wk (by decide), (z_34.2.1.trans (by rw [hv])).trans (if_neg (Int.not_lt.mpr k_14)).symm, fun q => (z_34.2.2 (fun e => by have e2 := z_34.2.1; rw [if_pos e] at e2; omega)).trans hv⟩⟩
  · skip
    have k_14 : ¬ ((cd2 (0 ≤ f ∧ f < (I 19).toInt) (-2000 ≤ yr ∧ yr ≤ 2000)) ≤ 0) := fun h => c_14 ((g_le z_4 (show (0 : Int32).toInt = 0 from rfl)).mpr h)
    refine lv_iconst (v := 0) hx hb dX9_feast_17 (by decide) ?_
    exact q_cret (post := (fun z n1 σ1 => n1 = n ∧ ∃ I1 R1, σ1 = mS t b σ0 I1 R1 ∧ kpI [0, 6, 7, 8] I I1 ∧ kpR [17, 18] Rw R1 ∧ (I1 0).toInt = (if 0 < cd2 (0 ≤ f ∧ f < (I 19).toInt) (-2000 ≤ yr ∧ yr ≤ 2000) then cd2 (0 ≤ f ∧ f < (I 19).toInt) (-2000 ≤ yr ∧ yr ≤ 2000) else if fday (rowM Rw) (feM Rw) yr f = -2147483647 then 3 else 0) ∧ ((I1 0).toInt = 0 → z.toInt = fday (rowM Rw) (feM Rw) yr f))) X w dX9_feast_18 (rfl) ⟨rfl, _, _, rfl, by exact ⟨kpI.up (J := [0,6,7,8]) kpI.rf (by decide), kpR.rf, z_4.trans (if_pos (Int.not_le.mp k_14)).symm, fun q => absurd (z_4.symm.trans q) (by omega)⟩⟩

set_option maxHeartbeats 4000000 in
set_option maxRecDepth 100000 in
theorem c_X9_findPlaced (l : Launch) (D : va_G) (t : Nat → ClassId) (b n : Nat) (σ0 : qM) (I : Nat → Int32) (Rw : Nat → Nat → Int32) (a_yr : Int32) (yr : Int) (e_yr : a_yr.toInt = yr) (h_1 : (I 5).toInt ≤ 6) (h_2 : ∀ c : Int, 0 ≤ c → c < (I 5).toInt → okRow (rowM Rw c)) (h_3 : ∀ c : Int, 0 ≤ c → c < (I 5).toInt → okF Rw c) (h_4 : 0 ≤ (I 19).toInt ∧ (I 19).toInt ≤ 8) (h_5 : ∀ f : Int, 0 ≤ f → f < (I 19).toInt → okFe (I 5).toInt f (feM Rw f)) (h_6 : -2000 ≤ yr ∧ yr ≤ 2000) : mV l yX9_findPlaced cX9_findPlaced 5 10 D t b n σ0 I Rw [.ref (b + 45), .int a_yr] (fun I1 R1 => kpI [6, 7, 8] I I1 ∧ kpR [17, 18] Rw R1 ∧ ∀ j : Int, 0 ≤ j → j < (I 19).toInt → (R1 18 j.toNat).toInt = plc (fun j => (feM Rw j 1).toInt) (fday (rowM Rw) (feM Rw) yr) (I 19).toInt j) := by
  refine qV.of (by decide +kernel) (Nat.le_of_ble_eq_true rfl) (fun p e s m args below meth c X w _ ls hl => ?_)
  have hx := X.1
  have hb := X.2.1
  have hl : lv_has ls 5 [(0, .ref (b + 45)), (1, .int a_yr)] := hl
  refine lv_aload_n hx hb dX9_findPlaced_0 rfl (lv_at hl 0 rfl) ?_
  refine lv_iload_n hx hb dX9_findPlaced_1 rfl (lv_at hl 1 rfl) ?_
  refine lv_aload_n hx hb dX9_findPlaced_2 rfl (lv_at hl 0 rfl) ?_
  refine mg_feasts X w dX9_findPlaced_3 ?_
  refine mm_cV X w (c_X9_findFeasts l D t b n σ0 I Rw a_yr (I 19) yr ((I 19).toInt) e_yr rfl (by exact h_1) (by exact h_2) (by exact h_3) (by exact h_6) (by exact h_4) (by exact h_5)) v_X9_307 rfl rfl ⟨Nat.le_of_ble_eq_true rfl, Nat.le_of_ble_eq_true rfl⟩ rfl hl.1 (Nat.le_of_ble_eq_true rfl) dX9_findPlaced_6 ⟨Nat.zero_le _, Nat.zero_le _⟩ (fun I_6 R_6 H locs z_6 w => ?_)
  have e19 : I_6 19 = I 19 := z_6.1 19 (by decide)
  refine lv_iconst (v := 0) hx hb dX9_findPlaced_9 (by decide) ?_
  refine lv_istore_n (lv' := [(2, .int 0), (0, .ref (b + 45)), (1, .int a_yr)]) hx hb dX9_findPlaced_10 rfl hl (by decide) rfl (fun ls hl => ?_)
  refine q_loop (α := Int32 × Int × (Nat → Nat → Int32)) (fun a => a.1.toInt = a.2.1 ∧ (kpR [17, 18] Rw a.2.2 ∧ (∀ j : Int, 0 ≤ j → j < (I 19).toInt → (a.2.2 17 j.toNat).toInt = fday (rowM Rw) (feM Rw) yr j) ∧ (0 ≤ a.2.1 ∧ a.2.1 ≤ (I 19).toInt) ∧ ∀ j : Int, 0 ≤ j → j < a.2.1 → (a.2.2 18 j.toNat).toInt = -2147483647)) (fun a => ((I 19).toInt - a.2.1).toNat) (fun a => ∀ (H : Heap) (locs : List Loc), qW D b n (mS t b σ0 I_6 a.2.2) s H locs → ∀ ls : Array Slot, lv_has ls 5 [(2, .int a.1), (0, .ref (b + 45)), (1, .int a_yr)] → W p l e (qR 10 0 0) s m args below meth c H locs 0 0 (MQ below (va_Qv (S := Nat × qM) (fun u => (fun n1 σ1 => n1 = n ∧ ∃ I1 R1, σ1 = mS t b σ0 I1 R1 ∧ kpI [6, 7, 8] I I1 ∧ kpR [17, 18] Rw R1 ∧ ∀ j : Int, 0 ≤ j → j < (I 19).toInt → (R1 18 j.toNat).toInt = plc (fun j => (feM Rw j 1).toInt) (fday (rowM Rw) (feM Rw) yr) (I 19).toInt j) u.1 u.2) (fun u T => WB D b u.1 u.2 T.heap) (fun q => b ≤ q)) args s 0 0 (fun q => b ≤ q)) (F0 m 11 ls [])) ?_ ⟨0, 0, R_6⟩ ⟨(show (0 : Int32).toInt = 0 from rfl), by dsimp only; exact ⟨z_6.2.1.wk (by decide), z_6.2.2, by omega, fun j a b => by omega⟩⟩ _ _ w ls (lv_sub hl [0, 1, 2] rfl)
  rintro ⟨v_f, f, R_L11⟩ ⟨q_f, inv_11⟩ ih_11 H locs w ls hl
  dsimp only at q_f inv_11 hl w
  refine lv_iload_n hx hb dX9_findPlaced_11 rfl (lv_at hl 0 rfl) ?_
  refine lv_aload_n hx hb dX9_findPlaced_12 rfl (lv_at hl 1 rfl) ?_
  refine mg_feasts X w dX9_findPlaced_13 ?_
  refine lv_icmp_ge (tgt := 34) hx hb dX9_findPlaced_16 (by decide) (fun c_16 => ?_) (fun c_16 => ?_)
  · skip
    have k_16 : ((I 19).toInt) ≤ f := (g_le ((congrArg Int32.toInt (z_6.1 19 (by decide))).trans rfl) q_f).mp c_16
    refine lv_bipush (v := 9) hx hb dX9_findPlaced_34 (by decide) ?_
    refine lv_istore_n (lv' := [(2, .int 9), (0, .ref (b + 45)), (1, .int a_yr)]) hx hb dX9_findPlaced_36 rfl hl (by decide) rfl (fun ls hl => ?_)
    refine q_loop (α := Int32 × Int × (Nat → Nat → Int32)) (fun a => a.1.toInt = a.2.1 ∧ (kpR [17, 18] Rw a.2.2 ∧ (∀ j : Int, 0 ≤ j → j < (I 19).toInt → (a.2.2 17 j.toNat).toInt = fday (rowM Rw) (feM Rw) yr j) ∧ (-1 ≤ a.2.1 ∧ a.2.1 ≤ 9) ∧ ∀ j : Int, 0 ≤ j → j < (I 19).toInt → (a.2.2 18 j.toNat).toInt = plO (fun j => (feM Rw j 1).toInt) (fday (rowM Rw) (feM Rw) yr) (I 19).toInt (9 - a.2.1).toNat j)) (fun a => (a.2.1 + 1).toNat) (fun a => ∀ (H : Heap) (locs : List Loc), qW D b n (mS t b σ0 I_6 a.2.2) s H locs → ∀ ls : Array Slot, lv_has ls 5 [(2, .int a.1), (0, .ref (b + 45)), (1, .int a_yr)] → W p l e (qR 10 0 0) s m args below meth c H locs 0 0 (MQ below (va_Qv (S := Nat × qM) (fun u => (fun n1 σ1 => n1 = n ∧ ∃ I1 R1, σ1 = mS t b σ0 I1 R1 ∧ kpI [6, 7, 8] I I1 ∧ kpR [17, 18] Rw R1 ∧ ∀ j : Int, 0 ≤ j → j < (I 19).toInt → (R1 18 j.toNat).toInt = plc (fun j => (feM Rw j 1).toInt) (fday (rowM Rw) (feM Rw) yr) (I 19).toInt j) u.1 u.2) (fun u T => WB D b u.1 u.2 T.heap) (fun q => b ≤ q)) args s 0 0 (fun q => b ≤ q)) (F0 m 37 ls [])) ?_ ⟨9, 9, R_L11⟩ ⟨(show (9 : Int32).toInt = 9 from rfl), by dsimp only; exact ⟨inv_11.1, inv_11.2.1, by omega, fun j a1 a2 => inv_11.2.2.2 j a1 (by omega)⟩⟩ _ _ w ls (lv_sub hl [0, 1, 2] rfl)
    rintro ⟨v_r, r, R_L37⟩ ⟨q_r, inv_37⟩ ih_37 H locs w ls hl
    dsimp only at q_r inv_37 hl w
    refine lv_iload_n hx hb dX9_findPlaced_37 rfl (lv_at hl 0 rfl) ?_
    refine lv_if_lt (tgt := 119) hx hb dX9_findPlaced_38 (by decide) (fun c_38 => ?_) (fun c_38 => ?_)
    · skip
      have k_38 : r < 0 := (g_lt q_r (show (0 : Int32).toInt = 0 from rfl)).mp c_38
      exact q_vret (post := (fun n1 σ1 => n1 = n ∧ ∃ I1 R1, σ1 = mS t b σ0 I1 R1 ∧ kpI [6, 7, 8] I I1 ∧ kpR [17, 18] Rw R1 ∧ ∀ j : Int, 0 ≤ j → j < (I 19).toInt → (R1 18 j.toNat).toInt = plc (fun j => (feM Rw j 1).toInt) (fday (rowM Rw) (feM Rw) yr) (I 19).toInt j)) X w dX9_findPlaced_119 ⟨rfl, _, _, rfl, by exact ⟨z_6.1, inv_37.1, fun j a1 a2 => by rw [inv_37.2.2.2 j a1 a2, show r = -1 by omega]; rfl⟩⟩
    · skip
      have k_38 : ¬ (r < 0) := fun h => c_38 ((g_lt q_r (show (0 : Int32).toInt = 0 from rfl)).mpr h)
      refine lv_iconst (v := 0) hx hb dX9_findPlaced_41 (by decide) ?_
      refine lv_istore_n (lv' := [(3, .int 0), (2, .int v_r), (0, .ref (b + 45)), (1, .int a_yr)]) hx hb dX9_findPlaced_42 rfl hl (by decide) rfl (fun ls hl => ?_)
      refine q_loop (α := Int32 × Int × (Nat → Nat → Int32)) (fun a => a.1.toInt = a.2.1 ∧ (kpR [17, 18] Rw a.2.2 ∧ (∀ j : Int, 0 ≤ j → j < (I 19).toInt → (a.2.2 17 j.toNat).toInt = fday (rowM Rw) (feM Rw) yr j) ∧ (0 ≤ a.2.1 ∧ a.2.1 ≤ (I 19).toInt) ∧ ∀ j : Int, 0 ≤ j → j < (I 19).toInt → (a.2.2 18 j.toNat).toInt = (plI (fun j => (feM Rw j 1).toInt) (fday (rowM Rw) (feM Rw) yr) (I 19).toInt r (plO (fun j => (feM Rw j 1).toInt) (fday (rowM Rw) (feM Rw) yr) (I 19).toInt (9 - r).toNat) a.2.1.toNat) j)) (fun a => ((I 19).toInt - a.2.1).toNat) (fun a => ∀ (H : Heap) (locs : List Loc), qW D b n (mS t b σ0 I_6 a.2.2) s H locs → ∀ ls : Array Slot, lv_has ls 5 [(3, .int a.1), (2, .int v_r), (0, .ref (b + 45)), (1, .int a_yr)] → W p l e (qR 10 0 0) s m args below meth c H locs 0 0 (MQ below (va_Qv (S := Nat × qM) (fun u => (fun n1 σ1 => n1 = n ∧ ∃ I1 R1, σ1 = mS t b σ0 I1 R1 ∧ kpI [6, 7, 8] I I1 ∧ kpR [17, 18] Rw R1 ∧ ∀ j : Int, 0 ≤ j → j < (I 19).toInt → (R1 18 j.toNat).toInt = plc (fun j => (feM Rw j 1).toInt) (fday (rowM Rw) (feM Rw) yr) (I 19).toInt j) u.1 u.2) (fun u T => WB D b u.1 u.2 T.heap) (fun q => b ≤ q)) args s 0 0 (fun q => b ≤ q)) (F0 m 43 ls [])) ?_ ⟨0, 0, R_L37⟩ ⟨(show (0 : Int32).toInt = 0 from rfl), by dsimp only; exact ⟨inv_37.1, inv_37.2.1, by omega, inv_37.2.2.2⟩⟩ _ _ w ls (lv_sub hl [0, 1, 2, 3] rfl)
      rintro ⟨v_f, f, R_L43⟩ ⟨q_f, inv_43⟩ ih_43 H locs w ls hl
      dsimp only at q_f inv_43 hl w
      have e16 : R_L43 16 = Rw 16 := inv_43.1 16 (by decide)
      have eF : feM R_L43 = feM Rw := feM_cg e16
      refine lv_iload_n hx hb dX9_findPlaced_43 rfl (lv_at hl 0 rfl) ?_
      refine lv_aload_n hx hb dX9_findPlaced_44 rfl (lv_at hl 2 rfl) ?_
      refine mg_feasts X w dX9_findPlaced_45 ?_
      refine lv_icmp_ge (tgt := 113) hx hb dX9_findPlaced_48 (by decide) (fun c_48 => ?_) (fun c_48 => ?_)
      · skip
        have k_48 : ((I 19).toInt) ≤ f := (g_le ((congrArg Int32.toInt (z_6.1 19 (by decide))).trans rfl) q_f).mp c_48
        obtain ⟨x_113, e_113⟩ : ∃ z : Int32, z = (v_r + (-1)) := ⟨_, rfl⟩
        have p_113 : x_113.toInt = (r + (-1)) := by rw [e_113]; exact t_add q_r (show ((-1) : Int32).toInt = (-1) from rfl) (by omega) (by omega)
        refine lv_iinc (v := x_113) (lv' := [(2, .int x_113), (3, .int v_f), (0, .ref (b + 45)), (1, .int a_yr)]) hx hb dX9_findPlaced_113 hl (k := 1) rfl (by rw [e_113]; rfl) (by decide) rfl (fun ls hl => ?_)
        refine lv_goto (tgt := 37) hx hb dX9_findPlaced_116 (by decide) ?_
        refine ih_37 ⟨x_113, (r + (-1)), R_L43⟩ ⟨p_113, by dsimp only; refine ⟨inv_43.1, inv_43.2.1, by omega, fun j a1 a2 => ?_⟩; rw [plO_s (by omega), inv_43.2.2.2 j a1 a2, show f = (I 19).toInt by omega]⟩ (by dsimp only; omega) _ _ w ls (lv_sub hl [0, 2, 3] rfl)
      · skip
        have k_48 : ¬ (((I 19).toInt) ≤ f) := fun h => c_48 ((g_le ((congrArg Int32.toInt (z_6.1 19 (by decide))).trans rfl) q_f).mpr h)
        refine lv_aload_n hx hb dX9_findPlaced_51 rfl (lv_at hl 2 rfl) ?_
        refine lv_iload_n hx hb dX9_findPlaced_52 rfl (lv_at hl 0 rfl) ?_
        refine lv_iconst (v := 1) hx hb dX9_findPlaced_53 (by decide) ?_
        refine q_cPV X w (c_X9_ofFeast l D t b n σ0 I_6 R_L43 v_f 1 f 1 q_f (show (1 : Int32).toInt = 1 from rfl) (by first | assumption | omega) (by first | assumption | omega)) v_X9_288 (k := 45) rfl rfl rfl ⟨Nat.le_of_ble_eq_true rfl, Nat.le_of_ble_eq_true rfl⟩ rfl hl.1 (Nat.le_of_ble_eq_true rfl) dX9_findPlaced_54 ⟨Nat.zero_le _, Nat.zero_le _⟩ (fun r_54 z_54 => ?_)
        refine lv_iload_n hx hb dX9_findPlaced_57 rfl (lv_at hl 1 rfl) ?_
        refine lv_icmp_ne (tgt := 107) hx hb dX9_findPlaced_58 (by decide) (fun c_58 => ?_) (fun c_58 => ?_)
        · skip
          have k_58 : ¬ (((feM R_L43 f 1).toInt) = r) := fun h => c_58 ((g_eq (congrArg Int32.toInt z_54) q_r).mpr h)
          have k58 : ¬ (feM Rw f 1).toInt = r := fun q => k_58 (by rw [eF]; exact q)
          obtain ⟨x_107, e_107⟩ : ∃ z : Int32, z = (v_f + 1) := ⟨_, rfl⟩
          have p_107 : x_107.toInt = (f + 1) := by rw [e_107]; exact t_add q_f (show (1 : Int32).toInt = 1 from rfl) (by omega) (by omega)
          refine lv_iinc (v := x_107) (lv' := [(3, .int x_107), (2, .int v_r), (0, .ref (b + 45)), (1, .int a_yr)]) hx hb dX9_findPlaced_107 hl (k := 0) rfl (by rw [e_107]; rfl) (by decide) rfl (fun ls hl => ?_)
          refine lv_goto (tgt := 43) hx hb dX9_findPlaced_110 (by decide) ?_
          refine ih_43 ⟨x_107, (f + 1), R_L43⟩ ⟨p_107, by dsimp only; exact ⟨inv_43.1, inv_43.2.1, by omega, fun j a1 a2 => by rw [plI_n (rk := (fun j => (feM Rw j 1).toInt)) (days := (fday (rowM Rw) (feM Rw) yr)) (by omega) (fun q => k58 q.1)]; exact inv_43.2.2.2 j a1 a2⟩⟩ (by dsimp only; omega) _ _ w ls (lv_sub hl [0, 1, 2, 3] rfl)
        · skip
          have k_58 : ((feM R_L43 f 1).toInt) = r := (g_eq (congrArg Int32.toInt z_54) q_r).mp c_58
          have k58 : (feM Rw f 1).toInt = r := by rw [← eF]; exact k_58
          refine lv_aload_n hx hb dX9_findPlaced_61 rfl (lv_at hl 2 rfl) ?_
          refine mg_feastDay X w dX9_findPlaced_62 ?_
          refine lv_iload_n hx hb dX9_findPlaced_65 rfl (lv_at hl 0 rfl) ?_
          refine ml_feastDay X w (g_in q_f (by omega)) dX9_findPlaced_66 ?_
          refine q_topE (y := R_L43 17 f.toNat) (congrArg (R_L43 17) (g_tn q_f)) ?_
          refine lv_ldcw hx hb X.2.2.2.1 (X.2.2.1 _ kc_X9_259) dX9_findPlaced_67 ?_
          refine lv_icmp_ne (tgt := 76) hx hb dX9_findPlaced_70 (by decide) (fun c_70 => ?_) (fun c_70 => ?_)
          · skip
            have k_70 : ¬ (((R_L43 17 f.toNat).toInt) = (-2147483647)) := fun h => c_70 ((g_eq rfl (show ((-2147483647) : Int32).toInt = (-2147483647) from rfl)).mpr h)
            have k70 : (fday (rowM Rw) (feM Rw) yr) f ≠ -2147483647 := fun q => k_70 ((inv_43.2.1 f (by omega) (by omega)).trans q)
            have hdb := fday_bd (rw_ := rowM Rw) (fe := feM Rw) (f := f) (yr := yr) (by omega)
            refine lv_aload_n hx hb dX9_findPlaced_76 rfl (lv_at hl 2 rfl) ?_
            refine mg_feastDay X w dX9_findPlaced_77 ?_
            refine lv_iload_n hx hb dX9_findPlaced_80 rfl (lv_at hl 0 rfl) ?_
            refine ml_feastDay X w (g_in q_f (by omega)) dX9_findPlaced_81 ?_
            refine q_topE (y := R_L43 17 f.toNat) (congrArg (R_L43 17) (g_tn q_f)) ?_
            refine lv_istore (lv' := [(4, .int (R_L43 17 f.toNat)), (3, .int v_f), (2, .int v_r), (0, .ref (b + 45)), (1, .int a_yr)]) hx hb dX9_findPlaced_82 hl (by decide) rfl (fun ls hl => ?_)
            refine q_loop (α := Int32 × Int) (fun a => a.1.toInt = a.2 ∧ (((fday (rowM Rw) (feM Rw) yr) f ≤ a.2 ∧ a.2 ≤ (fday (rowM Rw) (feM Rw) yr) f + 8) ∧ frN (plI (fun j => (feM Rw j 1).toInt) (fday (rowM Rw) (feM Rw) yr) (I 19).toInt r (plO (fun j => (feM Rw j 1).toInt) (fday (rowM Rw) (feM Rw) yr) (I 19).toInt (9 - r).toNat) f.toNat) (I 19).toInt ((fday (rowM Rw) (feM Rw) yr) f + 8 - a.2).toNat a.2 = frN (plI (fun j => (feM Rw j 1).toInt) (fday (rowM Rw) (feM Rw) yr) (I 19).toInt r (plO (fun j => (feM Rw j 1).toInt) (fday (rowM Rw) (feM Rw) yr) (I 19).toInt (9 - r).toNat) f.toNat) (I 19).toInt 8 ((fday (rowM Rw) (feM Rw) yr) f) ∧ a.2 - (fday (rowM Rw) (feM Rw) yr) f ≤ cN (plI (fun j => (feM Rw j 1).toInt) (fday (rowM Rw) (feM Rw) yr) (I 19).toInt r (plO (fun j => (feM Rw j 1).toInt) (fday (rowM Rw) (feM Rw) yr) (I 19).toInt (9 - r).toNat) f.toNat) ((fday (rowM Rw) (feM Rw) yr) f) a.2 (I 19).toInt.toNat)) (fun a => ((fday (rowM Rw) (feM Rw) yr) f + 8 - a.2).toNat) (fun a => ∀ ls : Array Slot, lv_has ls 5 [(4, .int a.1), (3, .int v_f), (2, .int v_r), (0, .ref (b + 45)), (1, .int a_yr)] → W p l e (qR 10 0 0) s m args below meth c H locs 0 0 (MQ below (va_Qv (S := Nat × qM) (fun u => (fun n1 σ1 => n1 = n ∧ ∃ I1 R1, σ1 = mS t b σ0 I1 R1 ∧ kpI [6, 7, 8] I I1 ∧ kpR [17, 18] Rw R1 ∧ ∀ j : Int, 0 ≤ j → j < (I 19).toInt → (R1 18 j.toNat).toInt = plc (fun j => (feM Rw j 1).toInt) (fday (rowM Rw) (feM Rw) yr) (I 19).toInt j) u.1 u.2) (fun u T => WB D b u.1 u.2 T.heap) (fun q => b ≤ q)) args s 0 0 (fun q => b ≤ q)) (F0 m 84 ls [])) ?_ ⟨(R_L43 17 f.toNat), (R_L43 17 f.toNat).toInt⟩ ⟨rfl, by dsimp only; have e := inv_43.2.1 f (by omega) (by omega); rw [e]; exact ⟨by omega, by rw [show ((fday (rowM Rw) (feM Rw) yr) f + 8 - (fday (rowM Rw) (feM Rw) yr) f).toNat = 8 by omega], by omega⟩⟩ ls (lv_sub hl [0, 1, 2, 3, 4] rfl)
            rintro ⟨v_x, x⟩ ⟨q_x, inv_84⟩ ih_84 ls hl
            dsimp only at q_x inv_84 hl
            refine lv_aload_n hx hb dX9_findPlaced_84 rfl (lv_at hl 3 rfl) ?_
            refine lv_iload hx hb dX9_findPlaced_85 (lv_at hl 0 rfl) ?_
            refine q_cPV X w (c_X9_isTaken l D t b n σ0 I_6 R_L43 v_x x q_x (by rw [e19]; exact h_4)) v_X9_310 (k := 45) rfl rfl rfl ⟨Nat.le_of_ble_eq_true rfl, Nat.le_of_ble_eq_true rfl⟩ rfl hl.1 (Nat.le_of_ble_eq_true rfl) dX9_findPlaced_87 ⟨Nat.zero_le _, Nat.zero_le _⟩ (fun r_87 z_87 => ?_)
            refine lv_if_eq (tgt := 99) hx hb dX9_findPlaced_90 (by decide) (fun c_90 => ?_) (fun c_90 => ?_)
            · skip
              rw [z_87] at c_90
              have k_90 := bI_f.mp c_90
              rw [e19] at k_90
              have hnt : ¬ tk (plI (fun j => (feM Rw j 1).toInt) (fday (rowM Rw) (feM Rw) yr) (I 19).toInt r (plO (fun j => (feM Rw j 1).toInt) (fday (rowM Rw) (feM Rw) yr) (I 19).toInt (9 - r).toNat) f.toNat) (I 19).toInt x = true := fun q => k_90 ((taken_tk inv_43.2.2.2).mpr q)
              refine lv_aload_n hx hb dX9_findPlaced_99 rfl (lv_at hl 3 rfl) ?_
              refine mg_placed X w dX9_findPlaced_100 ?_
              refine lv_iload_n hx hb dX9_findPlaced_103 rfl (lv_at hl 1 rfl) ?_
              refine lv_iload hx hb dX9_findPlaced_104 (lv_at hl 0 rfl) ?_
              refine ms_placed (x := v_x) X w (g_in q_f (by omega)) dX9_findPlaced_106 (fun H locs w => ?_)
              rw [g_tn q_f] at w
              obtain ⟨x_107, e_107⟩ : ∃ z : Int32, z = (v_f + 1) := ⟨_, rfl⟩
              have p_107 : x_107.toInt = (f + 1) := by rw [e_107]; exact t_add q_f (show (1 : Int32).toInt = 1 from rfl) (by omega) (by omega)
              refine lv_iinc (v := x_107) (lv' := [(3, .int x_107), (4, .int v_x), (2, .int v_r), (0, .ref (b + 45)), (1, .int a_yr)]) hx hb dX9_findPlaced_107 hl (k := 1) rfl (by rw [e_107]; rfl) (by decide) rfl (fun ls hl => ?_)
              refine lv_goto (tgt := 43) hx hb dX9_findPlaced_110 (by decide) ?_
              refine ih_43 ⟨x_107, (f + 1), (va_up R_L43 18 (upd (R_L43 18) f.toNat v_x))⟩ ⟨p_107, by dsimp only; refine ⟨inv_43.1.up (by decide), fun j a1 a2 => (congrArg Int32.toInt (congrFun (va_up_ne _ _ (by decide)) _)).trans (inv_43.2.1 j a1 a2), by omega, fun j a1 a2 => ?_⟩; rw [plI_p (rk := (fun j => (feM Rw j 1).toInt)) (days := (fday (rowM Rw) (feM Rw) yr)) (by omega) ⟨k58, k70⟩]; by_cases q : j = f; (rw [if_pos q, q, up_s, q_x, ← inv_84.2.1]; exact (frN_e _ hnt).symm); (rw [if_neg q, up_n _ _ _ _ (by omega)]; exact inv_43.2.2.2 j a1 a2)⟩ (by dsimp only; omega) _ _ w ls (lv_sub hl [0, 2, 3, 4] rfl)
            · skip
              rw [z_87] at c_90
              have k_90 := bI_t.mp c_90
              rw [e19] at k_90
              obtain ⟨x_93, e_93⟩ : ∃ z : Int32, z = (v_x + 1) := ⟨_, rfl⟩
              have p_93 : x_93.toInt = (x + 1) := by rw [e_93]; exact t_add q_x (show (1 : Int32).toInt = 1 from rfl) (by omega) (by omega)
              refine lv_iinc (v := x_93) (lv' := [(4, .int x_93), (3, .int v_f), (2, .int v_r), (0, .ref (b + 45)), (1, .int a_yr)]) hx hb dX9_findPlaced_93 hl (k := 0) rfl (by rw [e_93]; rfl) (by decide) rfl (fun ls hl => ?_)
              refine lv_goto (tgt := 84) hx hb dX9_findPlaced_96 (by decide) ?_
              refine ih_84 ⟨x_93, (x + 1)⟩ ⟨p_93, by dsimp only; have ht := (taken_tk inv_43.2.2.2).mp k_90; have hc := cN_tk (by omega) inv_84.2.2 ht; exact ⟨by omega, (frN_s (y := (fday (rowM Rw) (feM Rw) yr) f + 8) (x := x) (by omega) ht).symm.trans inv_84.2.1, hc.1⟩⟩ (by dsimp only; have ht := (taken_tk inv_43.2.2.2).mp k_90; have hc := cN_tk (by omega) inv_84.2.2 ht; omega) ls (lv_sub hl [0, 1, 2, 3, 4] rfl)
          · skip
            have k_70 : ((R_L43 17 f.toNat).toInt) = (-2147483647) := (g_eq rfl (show ((-2147483647) : Int32).toInt = (-2147483647) from rfl)).mp c_70
            have k70 : (fday (rowM Rw) (feM Rw) yr) f = -2147483647 := (inv_43.2.1 f (by omega) (by omega)).symm.trans k_70
            refine lv_goto (tgt := 107) hx hb dX9_findPlaced_73 (by decide) ?_
            obtain ⟨x_107, e_107⟩ : ∃ z : Int32, z = (v_f + 1) := ⟨_, rfl⟩
            have p_107 : x_107.toInt = (f + 1) := by rw [e_107]; exact t_add q_f (show (1 : Int32).toInt = 1 from rfl) (by omega) (by omega)
            refine lv_iinc (v := x_107) (lv' := [(3, .int x_107), (2, .int v_r), (0, .ref (b + 45)), (1, .int a_yr)]) hx hb dX9_findPlaced_107 hl (k := 0) rfl (by rw [e_107]; rfl) (by decide) rfl (fun ls hl => ?_)
            refine lv_goto (tgt := 43) hx hb dX9_findPlaced_110 (by decide) ?_
            refine ih_43 ⟨x_107, (f + 1), R_L43⟩ ⟨p_107, by dsimp only; exact ⟨inv_43.1, inv_43.2.1, by omega, fun j a1 a2 => by rw [plI_n (rk := (fun j => (feM Rw j 1).toInt)) (days := (fday (rowM Rw) (feM Rw) yr)) (by omega) (fun q => q.2 k70)]; exact inv_43.2.2.2 j a1 a2⟩⟩ (by dsimp only; omega) _ _ w ls (lv_sub hl [0, 1, 2, 3] rfl)
  · skip
    have k_16 : ¬ (((I 19).toInt) ≤ f) := fun h => c_16 ((g_le ((congrArg Int32.toInt (z_6.1 19 (by decide))).trans rfl) q_f).mpr h)
    refine lv_aload_n hx hb dX9_findPlaced_19 rfl (lv_at hl 1 rfl) ?_
    refine mg_placed X w dX9_findPlaced_20 ?_
    refine lv_iload_n hx hb dX9_findPlaced_23 rfl (lv_at hl 0 rfl) ?_
    refine lv_ldcw hx hb X.2.2.2.1 (X.2.2.1 _ kc_X9_259) dX9_findPlaced_24 ?_
    refine ms_placed (x := (-2147483647)) X w (g_in q_f (by omega)) dX9_findPlaced_27 (fun H locs w => ?_)
    rw [g_tn q_f] at w
    obtain ⟨x_28, e_28⟩ : ∃ z : Int32, z = (v_f + 1) := ⟨_, rfl⟩
    have p_28 : x_28.toInt = (f + 1) := by rw [e_28]; exact t_add q_f (show (1 : Int32).toInt = 1 from rfl) (by omega) (by omega)
    refine lv_iinc (v := x_28) (lv' := [(2, .int x_28), (0, .ref (b + 45)), (1, .int a_yr)]) hx hb dX9_findPlaced_28 hl (k := 0) rfl (by rw [e_28]; rfl) (by decide) rfl (fun ls hl => ?_)
    refine lv_goto (tgt := 11) hx hb dX9_findPlaced_31 (by decide) ?_
    refine ih_11 ⟨x_28, (f + 1), (va_up R_L11 18 (upd (R_L11 18) f.toNat (-2147483647)))⟩ ⟨p_28, by dsimp only; refine ⟨inv_11.1.up (by decide), fun j a1 a2 => (congrArg Int32.toInt (congrFun (va_up_ne _ _ (by decide)) _)).trans (inv_11.2.1 j a1 a2), by omega, fun j a1 a2 => ?_⟩; rcases (show j < f ∨ j = f by omega) with q | q; (rw [up_n _ _ _ _ (by omega)]; exact inv_11.2.2.2 j a1 q); (rw [q, up_s]; rfl)⟩ (by dsimp only; omega) _ _ w ls (lv_sub hl [0, 1, 2] rfl)

set_option maxHeartbeats 4000000 in
set_option maxRecDepth 100000 in
theorem c_X9_placedFeast (l : Launch) (D : va_G) (t : Nat → ClassId) (b n : Nat) (σ0 : qM) (I : Nat → Int32) (Rw : Nat → Nat → Int32) (a_f : Int32) (a_yr : Int32) (f : Int) (yr : Int) (e_f : a_f.toInt = f) (e_yr : a_yr.toInt = yr) (h_1 : (I 5).toInt ≤ 6) (h_2 : ∀ c : Int, 0 ≤ c → c < (I 5).toInt → okRow (rowM Rw c)) (h_3 : ∀ c : Int, 0 ≤ c → c < (I 5).toInt → okF Rw c) (h_4 : 0 ≤ (I 19).toInt ∧ (I 19).toInt ≤ 8) (h_5 : ∀ f : Int, 0 ≤ f → f < (I 19).toInt → okFe (I 5).toInt f (feM Rw f)) : mC l yX9_placedFeast cX9_placedFeast 3 (some .int) 11 D t b n σ0 I Rw [.ref (b + 45), .int a_f, .int a_yr] (fun z I1 R1 => kpI [0, 6, 7, 8] I I1 ∧ kpR [17, 18] Rw R1 ∧ (I1 0).toInt = (if 0 < cd2 (0 ≤ f ∧ f < (I 19).toInt) (-2000 ≤ yr ∧ yr ≤ 2000) then cd2 (0 ≤ f ∧ f < (I 19).toInt) (-2000 ≤ yr ∧ yr ≤ 2000) else if (plc (fun j => (feM Rw j 1).toInt) (fday (rowM Rw) (feM Rw) yr) (I 19).toInt f) = -2147483647 then 3 else 0) ∧ ((I1 0).toInt = 0 → z.toInt = plc (fun j => (feM Rw j 1).toInt) (fday (rowM Rw) (feM Rw) yr) (I 19).toInt f)) := by
  refine qC.of (by decide +kernel) (Nat.le_of_ble_eq_true rfl) (fun p e s m args below meth c X w ls hl => ?_)
  have hx := X.1
  have hb := X.2.1
  have hl : lv_has ls 3 [(0, .ref (b + 45)), (1, .int a_f), (2, .int a_yr)] := hl
  refine lv_aload_n hx hb dX9_placedFeast_0 rfl (lv_at hl 0 rfl) ?_
  refine lv_aload_n hx hb dX9_placedFeast_1 rfl (lv_at hl 0 rfl) ?_
  refine lv_iload_n hx hb dX9_placedFeast_2 rfl (lv_at hl 1 rfl) ?_
  refine lv_iload_n hx hb dX9_placedFeast_3 rfl (lv_at hl 2 rfl) ?_
  refine q_cPV X w (c_X9_notFeast l D t b n σ0 I Rw a_f a_yr f yr e_f e_yr) v_X9_304 (k := 45) rfl rfl rfl ⟨Nat.le_of_ble_eq_true rfl, Nat.le_of_ble_eq_true rfl⟩ rfl hl.1 (Nat.le_of_ble_eq_true rfl) dX9_placedFeast_4 ⟨Nat.zero_le _, Nat.zero_le _⟩ (fun r_4 z_4 => ?_)
  refine mp_thrown (v := r_4) X w dX9_placedFeast_7 (fun H locs w => ?_)
  refine lv_aload_n hx hb dX9_placedFeast_10 rfl (lv_at hl 0 rfl) ?_
  refine mg_thrown X w dX9_placedFeast_11 ?_
  refine q_topE (y := r_4) rfl ?_
  refine lv_if_le (tgt := 19) hx hb dX9_placedFeast_14 (by decide) (fun c_14 => ?_) (fun c_14 => ?_)
  · skip
    have k_14 : (cd2 (0 ≤ f ∧ f < (I 19).toInt) (-2000 ≤ yr ∧ yr ≤ 2000)) ≤ 0 := (g_le z_4 (show (0 : Int32).toInt = 0 from rfl)).mp c_14
    have hC := cd2_ok (p := 0 ≤ f ∧ f < (I 19).toInt) (q := -2000 ≤ yr ∧ yr ≤ 2000) |>.mp (by omega)
    refine lv_aload_n hx hb dX9_placedFeast_19 rfl (lv_at hl 0 rfl) ?_
    refine lv_iload_n hx hb dX9_placedFeast_20 rfl (lv_at hl 2 rfl) ?_
    refine mm_cV X w (c_X9_findPlaced l D t b n σ0 (va_up I 0 r_4) Rw a_yr yr e_yr (by exact h_1) (by exact h_2) (by exact h_3) (by exact h_4) (by exact h_5) (by exact hC.2)) v_X9_313 rfl rfl ⟨Nat.le_of_ble_eq_true rfl, Nat.le_of_ble_eq_true rfl⟩ rfl hl.1 (Nat.le_of_ble_eq_true rfl) dX9_placedFeast_21 ⟨Nat.zero_le _, Nat.zero_le _⟩ (fun I_21 R_21 H locs z_21 w => ?_)
    refine lv_aload_n hx hb dX9_placedFeast_24 rfl (lv_at hl 0 rfl) ?_
    refine lv_aload_n hx hb dX9_placedFeast_25 rfl (lv_at hl 0 rfl) ?_
    refine mg_placed X w dX9_placedFeast_26 ?_
    refine lv_iload_n hx hb dX9_placedFeast_29 rfl (lv_at hl 1 rfl) ?_
    refine ml_placed X w (g_in e_f (by omega)) dX9_placedFeast_30 ?_
    refine q_topE (y := R_21 18 f.toNat) (congrArg (R_21 18) (g_tn e_f)) ?_
    refine mm_cCI X w (c_X9_told l D t b n σ0 I_21 R_21 (R_21 18 f.toNat) ((R_21 18 f.toNat).toInt) rfl) v_X9_269 rfl rfl ⟨Nat.le_of_ble_eq_true rfl, Nat.le_of_ble_eq_true rfl⟩ rfl hl.1 (Nat.le_of_ble_eq_true rfl) dX9_placedFeast_31 ⟨Nat.zero_le _, Nat.zero_le _⟩ (fun r_31 I_31 H locs z_31 w => ?_)
    exact q_cret (post := (fun z n1 σ1 => n1 = n ∧ ∃ I1 R1, σ1 = mS t b σ0 I1 R1 ∧ kpI [0, 6, 7, 8] I I1 ∧ kpR [17, 18] Rw R1 ∧ (I1 0).toInt = (if 0 < cd2 (0 ≤ f ∧ f < (I 19).toInt) (-2000 ≤ yr ∧ yr ≤ 2000) then cd2 (0 ≤ f ∧ f < (I 19).toInt) (-2000 ≤ yr ∧ yr ≤ 2000) else if (plc (fun j => (feM Rw j 1).toInt) (fday (rowM Rw) (feM Rw) yr) (I 19).toInt f) = -2147483647 then 3 else 0) ∧ ((I1 0).toInt = 0 → z.toInt = plc (fun j => (feM Rw j 1).toInt) (fday (rowM Rw) (feM Rw) yr) (I 19).toInt f))) X w dX9_placedFeast_34 (rfl) ⟨rfl, _, _, rfl, by have hv : (R_21 18 f.toNat).toInt = plc (fun j => (feM Rw j 1).toInt) (fday (rowM Rw) (feM Rw) yr) (I 19).toInt f := z_21.2.2 f hC.1.1 hC.1.2; exact ⟨kpI.tr (J := [0,6,7,8]) (kpI.up (J := [0]) kpI.rf (by decide)) (kpI.tr (J := [0,6,7,8]) z_21.1 z_31.1 (by decide) (by decide)) (by decide) (by decide), z_21.2.1.wk (by decide), (z_31.2.1.trans (by rw [hv])).trans (if_neg (Int.not_lt.mpr k_14)).symm, fun q => (z_31.2.2 (fun e => by have e2 := z_31.2.1; rw [if_pos e] at e2; omega)).trans hv⟩⟩
  · skip
    have k_14 : ¬ ((cd2 (0 ≤ f ∧ f < (I 19).toInt) (-2000 ≤ yr ∧ yr ≤ 2000)) ≤ 0) := fun h => c_14 ((g_le z_4 (show (0 : Int32).toInt = 0 from rfl)).mpr h)
    refine lv_iconst (v := 0) hx hb dX9_placedFeast_17 (by decide) ?_
    exact q_cret (post := (fun z n1 σ1 => n1 = n ∧ ∃ I1 R1, σ1 = mS t b σ0 I1 R1 ∧ kpI [0, 6, 7, 8] I I1 ∧ kpR [17, 18] Rw R1 ∧ (I1 0).toInt = (if 0 < cd2 (0 ≤ f ∧ f < (I 19).toInt) (-2000 ≤ yr ∧ yr ≤ 2000) then cd2 (0 ≤ f ∧ f < (I 19).toInt) (-2000 ≤ yr ∧ yr ≤ 2000) else if (plc (fun j => (feM Rw j 1).toInt) (fday (rowM Rw) (feM Rw) yr) (I 19).toInt f) = -2147483647 then 3 else 0) ∧ ((I1 0).toInt = 0 → z.toInt = plc (fun j => (feM Rw j 1).toInt) (fday (rowM Rw) (feM Rw) yr) (I 19).toInt f))) X w dX9_placedFeast_18 (rfl) ⟨rfl, _, _, rfl, by exact ⟨kpI.up (J := [0,6,7,8]) kpI.rf (by decide), kpR.rf, z_4.trans (if_pos (Int.not_le.mp k_14)).symm, fun q => absurd (z_4.symm.trans q) (by omega)⟩⟩

set_option maxHeartbeats 4000000 in
set_option maxRecDepth 100000 in
theorem c_X9_feastOn (l : Launch) (D : va_G) (t : Nat → ClassId) (b n : Nat) (σ0 : qM) (I : Nat → Int32) (Rw : Nat → Nat → Int32) (a_yr : Int32) (a_dy : Int32) (yr : Int) (dy : Int) (e_yr : a_yr.toInt = yr) (e_dy : a_dy.toInt = dy) (h_1 : (I 5).toInt ≤ 6) (h_2 : ∀ c : Int, 0 ≤ c → c < (I 5).toInt → okRow (rowM Rw c)) (h_3 : ∀ c : Int, 0 ≤ c → c < (I 5).toInt → okF Rw c) (h_4 : 0 ≤ (I 19).toInt ∧ (I 19).toInt ≤ 8) (h_5 : ∀ f : Int, 0 ≤ f → f < (I 19).toInt → okFe (I 5).toInt f (feM Rw f)) : mC l yX9_feastOn cX9_feastOn 4 (some .int) 11 D t b n σ0 I Rw [.ref (b + 45), .int a_yr, .int a_dy] (fun z I1 R1 => kpI [0, 6, 7, 8] I I1 ∧ kpR [17, 18] Rw R1 ∧ (I1 0).toInt = (if (-2000 ≤ yr ∧ yr ≤ 2000) ∧ -999999 ≤ dy ∧ dy ≤ 999999 then (if 0 ≤ ffN (plc (fun j => (feM Rw j 1).toInt) (fday (rowM Rw) (feM Rw) yr) (I 19).toInt) dy (I 19).toInt (I 19).toInt.toNat then 0 else 2) else 1) ∧ ((I1 0).toInt = 0 → z.toInt = ffN (plc (fun j => (feM Rw j 1).toInt) (fday (rowM Rw) (feM Rw) yr) (I 19).toInt) dy (I 19).toInt (I 19).toInt.toNat)) := by
  refine qC.of (by decide +kernel) (Nat.le_of_ble_eq_true rfl) (fun p e s m args below meth c X w ls hl => ?_)
  have hx := X.1
  have hb := X.2.1
  have hl : lv_has ls 4 [(0, .ref (b + 45)), (1, .int a_yr), (2, .int a_dy)] := hl
  refine lv_iload_n hx hb dX9_feastOn_0 rfl (lv_at hl 1 rfl) ?_
  refine q_cPS X w (c_X9_isYear l a_yr yr e_yr D t b n (mS t b σ0 I Rw)) v_X9_110 rfl ⟨Nat.le_of_ble_eq_true rfl, Nat.le_of_ble_eq_true rfl⟩ rfl hl.1 (Nat.le_of_ble_eq_true rfl) dX9_feastOn_1 ⟨Nat.zero_le _, Nat.zero_le _⟩ (fun r_1 z_1 => ?_)
  refine lv_if_eq (tgt := 14) hx hb dX9_feastOn_4 (by decide) (fun c_4 => ?_) (fun c_4 => ?_)
  · skip
    rw [z_1] at c_4
    have k_4 := bI_f.mp c_4
    refine lv_aload_n hx hb dX9_feastOn_14 rfl (lv_at hl 0 rfl) ?_
    refine lv_iconst (v := 1) hx hb dX9_feastOn_15 (by decide) ?_
    refine mm_cCI X w (c_X9_fails l D t b n σ0 I Rw 1 1 (show (1 : Int32).toInt = 1 from rfl)) v_X9_143 rfl rfl ⟨Nat.le_of_ble_eq_true rfl, Nat.le_of_ble_eq_true rfl⟩ rfl hl.1 (Nat.le_of_ble_eq_true rfl) dX9_feastOn_16 ⟨Nat.zero_le _, Nat.zero_le _⟩ (fun r_16 I_16 H locs z_16 w => ?_)
    exact q_cret (post := (fun z n1 σ1 => n1 = n ∧ ∃ I1 R1, σ1 = mS t b σ0 I1 R1 ∧ kpI [0, 6, 7, 8] I I1 ∧ kpR [17, 18] Rw R1 ∧ (I1 0).toInt = (if (-2000 ≤ yr ∧ yr ≤ 2000) ∧ -999999 ≤ dy ∧ dy ≤ 999999 then (if 0 ≤ ffN (plc (fun j => (feM Rw j 1).toInt) (fday (rowM Rw) (feM Rw) yr) (I 19).toInt) dy (I 19).toInt (I 19).toInt.toNat then 0 else 2) else 1) ∧ ((I1 0).toInt = 0 → z.toInt = ffN (plc (fun j => (feM Rw j 1).toInt) (fday (rowM Rw) (feM Rw) yr) (I 19).toInt) dy (I 19).toInt (I 19).toInt.toNat))) X w dX9_feastOn_19 (rfl) ⟨rfl, _, _, rfl, by exact ⟨z_16.1.wk (by decide), kpR.rf, z_16.2.1.trans (if_neg (fun q => k_4 q.1)).symm, fun q => absurd (z_16.2.1.symm.trans q) (by decide)⟩⟩
  · skip
    rw [z_1] at c_4
    have k_4 := bI_t.mp c_4
    refine lv_iload_n hx hb dX9_feastOn_7 rfl (lv_at hl 2 rfl) ?_
    refine q_cPS X w (c_X9_isDay l a_dy dy e_dy D t b n (mS t b σ0 I Rw)) v_X9_238 rfl ⟨Nat.le_of_ble_eq_true rfl, Nat.le_of_ble_eq_true rfl⟩ rfl hl.1 (Nat.le_of_ble_eq_true rfl) dX9_feastOn_8 ⟨Nat.zero_le _, Nat.zero_le _⟩ (fun r_8 z_8 => ?_)
    refine lv_if_ne (tgt := 20) hx hb dX9_feastOn_11 (by decide) (fun c_11 => ?_) (fun c_11 => ?_)
    · skip
      rw [z_8] at c_11
      have k_11 := bI_t.mp c_11
      refine lv_aload_n hx hb dX9_feastOn_20 rfl (lv_at hl 0 rfl) ?_
      refine lv_iload_n hx hb dX9_feastOn_21 rfl (lv_at hl 1 rfl) ?_
      refine mm_cV X w (c_X9_findPlaced l D t b n σ0 I Rw a_yr yr e_yr (by exact h_1) (by exact h_2) (by exact h_3) (by exact h_4) (by exact h_5) (by first | assumption | omega)) v_X9_313 rfl rfl ⟨Nat.le_of_ble_eq_true rfl, Nat.le_of_ble_eq_true rfl⟩ rfl hl.1 (Nat.le_of_ble_eq_true rfl) dX9_feastOn_22 ⟨Nat.zero_le _, Nat.zero_le _⟩ (fun I_22 R_22 H locs z_22 w => ?_)
      refine lv_iconst (v := 0) hx hb dX9_feastOn_25 (by decide) ?_
      refine lv_istore_n (lv' := [(3, .int 0), (0, .ref (b + 45)), (1, .int a_yr), (2, .int a_dy)]) hx hb dX9_feastOn_26 rfl hl (by decide) rfl (fun ls hl => ?_)
      refine q_loop (α := Int32 × Int) (fun a => a.1.toInt = a.2 ∧ ((0 ≤ a.2 ∧ a.2 ≤ (I 19).toInt) ∧ ffN (plc (fun j => (feM Rw j 1).toInt) (fday (rowM Rw) (feM Rw) yr) (I 19).toInt) dy (I 19).toInt ((I 19).toInt - a.2).toNat = ffN (plc (fun j => (feM Rw j 1).toInt) (fday (rowM Rw) (feM Rw) yr) (I 19).toInt) dy (I 19).toInt (I 19).toInt.toNat)) (fun a => ((I 19).toInt - a.2).toNat) (fun a => ∀ ls : Array Slot, lv_has ls 4 [(3, .int a.1), (0, .ref (b + 45)), (1, .int a_yr), (2, .int a_dy)] → W p l e (qR 11 0 0) s m args below meth c H locs 0 0 (MQ below (va_Qi (S := Nat × qM) (fun z u => (fun z n1 σ1 => n1 = n ∧ ∃ I1 R1, σ1 = mS t b σ0 I1 R1 ∧ kpI [0, 6, 7, 8] I I1 ∧ kpR [17, 18] Rw R1 ∧ (I1 0).toInt = (if (-2000 ≤ yr ∧ yr ≤ 2000) ∧ -999999 ≤ dy ∧ dy ≤ 999999 then (if 0 ≤ ffN (plc (fun j => (feM Rw j 1).toInt) (fday (rowM Rw) (feM Rw) yr) (I 19).toInt) dy (I 19).toInt (I 19).toInt.toNat then 0 else 2) else 1) ∧ ((I1 0).toInt = 0 → z.toInt = ffN (plc (fun j => (feM Rw j 1).toInt) (fday (rowM Rw) (feM Rw) yr) (I 19).toInt) dy (I 19).toInt (I 19).toInt.toNat)) z u.1 u.2) (fun u T => WB D b u.1 u.2 T.heap) (fun q => b ≤ q)) args s 0 0 (fun q => b ≤ q)) (F0 m 27 ls [])) ?_ ⟨0, 0⟩ ⟨(show (0 : Int32).toInt = 0 from rfl), by dsimp only; exact ⟨by omega, by rw [show ((I 19).toInt - 0).toNat = (I 19).toInt.toNat by omega]⟩⟩ ls (lv_sub hl [0, 1, 2, 3] rfl)
      rintro ⟨v_f, f⟩ ⟨q_f, inv_27⟩ ih_27 ls hl
      dsimp only at q_f inv_27 hl
      refine lv_iload_n hx hb dX9_feastOn_27 rfl (lv_at hl 0 rfl) ?_
      refine lv_aload_n hx hb dX9_feastOn_28 rfl (lv_at hl 1 rfl) ?_
      refine mg_feasts X w dX9_feastOn_29 ?_
      refine lv_icmp_ge (tgt := 61) hx hb dX9_feastOn_32 (by decide) (fun c_32 => ?_) (fun c_32 => ?_)
      · skip
        have k_32 : ((I 19).toInt) ≤ f := (g_le ((congrArg Int32.toInt (z_22.1 19 (by decide))).trans rfl) q_f).mp c_32
        refine lv_aload_n hx hb dX9_feastOn_61 rfl (lv_at hl 1 rfl) ?_
        refine lv_iconst (v := 2) hx hb dX9_feastOn_62 (by decide) ?_
        refine mm_cCI X w (c_X9_fails l D t b n σ0 I_22 R_22 2 2 (show (2 : Int32).toInt = 2 from rfl)) v_X9_143 rfl rfl ⟨Nat.le_of_ble_eq_true rfl, Nat.le_of_ble_eq_true rfl⟩ rfl hl.1 (Nat.le_of_ble_eq_true rfl) dX9_feastOn_63 ⟨Nat.zero_le _, Nat.zero_le _⟩ (fun r_63 I_63 H locs z_63 w => ?_)
        exact q_cret (post := (fun z n1 σ1 => n1 = n ∧ ∃ I1 R1, σ1 = mS t b σ0 I1 R1 ∧ kpI [0, 6, 7, 8] I I1 ∧ kpR [17, 18] Rw R1 ∧ (I1 0).toInt = (if (-2000 ≤ yr ∧ yr ≤ 2000) ∧ -999999 ≤ dy ∧ dy ≤ 999999 then (if 0 ≤ ffN (plc (fun j => (feM Rw j 1).toInt) (fday (rowM Rw) (feM Rw) yr) (I 19).toInt) dy (I 19).toInt (I 19).toInt.toNat then 0 else 2) else 1) ∧ ((I1 0).toInt = 0 → z.toInt = ffN (plc (fun j => (feM Rw j 1).toInt) (fday (rowM Rw) (feM Rw) yr) (I 19).toInt) dy (I 19).toInt (I 19).toInt.toNat))) X w dX9_feastOn_66 (rfl) ⟨rfl, _, _, rfl, by have e : (-1 : Int) = ffN (plc (fun j => (feM Rw j 1).toInt) (fday (rowM Rw) (feM Rw) yr) (I 19).toInt) dy (I 19).toInt (I 19).toInt.toNat := (by rw [← inv_27.2, show ((I 19).toInt - f).toNat = 0 by omega]; rfl); exact ⟨kpI.tr (J := [0,6,7,8]) z_22.1 z_63.1 (by decide) (by decide), z_22.2.1, z_63.2.1.trans (by rw [if_pos ⟨k_4, k_11⟩, if_neg (by omega)]), fun q => absurd (z_63.2.1.symm.trans q) (by decide)⟩⟩
      · skip
        have k_32 : ¬ (((I 19).toInt) ≤ f) := fun h => c_32 ((g_le ((congrArg Int32.toInt (z_22.1 19 (by decide))).trans rfl) q_f).mpr h)
        refine lv_aload_n hx hb dX9_feastOn_35 rfl (lv_at hl 1 rfl) ?_
        refine mg_placed X w dX9_feastOn_36 ?_
        refine lv_iload_n hx hb dX9_feastOn_39 rfl (lv_at hl 0 rfl) ?_
        refine ml_placed X w (g_in q_f (by omega)) dX9_feastOn_40 ?_
        refine q_topE (y := R_22 18 f.toNat) (congrArg (R_22 18) (g_tn q_f)) ?_
        refine lv_iload_n hx hb dX9_feastOn_41 rfl (lv_at hl 3 rfl) ?_
        refine lv_icmp_eq (tgt := 48) hx hb dX9_feastOn_42 (by decide) (fun c_42 => ?_) (fun c_42 => ?_)
        · skip
          have k_42 : ((R_22 18 f.toNat).toInt) = dy := (g_eq rfl e_dy).mp c_42
          refine lv_aload_n hx hb dX9_feastOn_48 rfl (lv_at hl 1 rfl) ?_
          refine lv_iconst (v := 0) hx hb dX9_feastOn_49 (by decide) ?_
          refine mp_thrown (v := 0) X w dX9_feastOn_50 (fun H locs w => ?_)
          refine lv_iload_n hx hb dX9_feastOn_53 rfl (lv_at hl 0 rfl) ?_
          exact q_cret (post := (fun z n1 σ1 => n1 = n ∧ ∃ I1 R1, σ1 = mS t b σ0 I1 R1 ∧ kpI [0, 6, 7, 8] I I1 ∧ kpR [17, 18] Rw R1 ∧ (I1 0).toInt = (if (-2000 ≤ yr ∧ yr ≤ 2000) ∧ -999999 ≤ dy ∧ dy ≤ 999999 then (if 0 ≤ ffN (plc (fun j => (feM Rw j 1).toInt) (fday (rowM Rw) (feM Rw) yr) (I 19).toInt) dy (I 19).toInt (I 19).toInt.toNat then 0 else 2) else 1) ∧ ((I1 0).toInt = 0 → z.toInt = ffN (plc (fun j => (feM Rw j 1).toInt) (fday (rowM Rw) (feM Rw) yr) (I 19).toInt) dy (I 19).toInt (I 19).toInt.toNat))) X w dX9_feastOn_54 (rfl) ⟨rfl, _, _, rfl, by have e := ffN_s (pl := plc (fun j => (feM Rw j 1).toInt) (fday (rowM Rw) (feM Rw) yr) (I 19).toInt) (d := dy) (n := (I 19).toInt) (f := f) (by omega); rw [if_pos ((z_22.2.2 f (by omega) (by omega)).symm.trans k_42), inv_27.2] at e; exact ⟨(kpI.up (z_22.1.wk (J := [0,6,7,8]) (by decide)) (by decide)), z_22.2.1, (by rw [if_pos ⟨k_4, k_11⟩, e, if_pos (by omega)]; rfl), fun _ => q_f.trans e.symm⟩⟩
        · skip
          have k_42 : ¬ (((R_22 18 f.toNat).toInt) = dy) := fun h => c_42 ((g_eq rfl e_dy).mpr h)
          have k42 : ¬ plc (fun j => (feM Rw j 1).toInt) (fday (rowM Rw) (feM Rw) yr) (I 19).toInt f = dy := fun q => k_42 ((z_22.2.2 f (by omega) (by omega)).trans q)
          refine lv_goto (tgt := 55) hx hb dX9_feastOn_45 (by decide) ?_
          obtain ⟨x_55, e_55⟩ : ∃ z : Int32, z = (v_f + 1) := ⟨_, rfl⟩
          have p_55 : x_55.toInt = (f + 1) := by rw [e_55]; exact t_add q_f (show (1 : Int32).toInt = 1 from rfl) (by omega) (by omega)
          refine lv_iinc (v := x_55) (lv' := [(3, .int x_55), (0, .ref (b + 45)), (1, .int a_yr), (2, .int a_dy)]) hx hb dX9_feastOn_55 hl (k := 0) rfl (by rw [e_55]; rfl) (by decide) rfl (fun ls hl => ?_)
          refine lv_goto (tgt := 27) hx hb dX9_feastOn_58 (by decide) ?_
          refine ih_27 ⟨x_55, (f + 1)⟩ ⟨p_55, by dsimp only; have e := ffN_s (pl := plc (fun j => (feM Rw j 1).toInt) (fday (rowM Rw) (feM Rw) yr) (I 19).toInt) (d := dy) (n := (I 19).toInt) (f := f) (by omega); rw [if_neg k42, inv_27.2] at e; exact ⟨by omega, e.symm⟩⟩ (by dsimp only; omega) ls (lv_sub hl [0, 1, 2, 3] rfl)
    · skip
      rw [z_8] at c_11
      have k_11 := bI_f.mp c_11
      refine lv_aload_n hx hb dX9_feastOn_14 rfl (lv_at hl 0 rfl) ?_
      refine lv_iconst (v := 1) hx hb dX9_feastOn_15 (by decide) ?_
      refine mm_cCI X w (c_X9_fails l D t b n σ0 I Rw 1 1 (show (1 : Int32).toInt = 1 from rfl)) v_X9_143 rfl rfl ⟨Nat.le_of_ble_eq_true rfl, Nat.le_of_ble_eq_true rfl⟩ rfl hl.1 (Nat.le_of_ble_eq_true rfl) dX9_feastOn_16 ⟨Nat.zero_le _, Nat.zero_le _⟩ (fun r_16 I_16 H locs z_16 w => ?_)
      exact q_cret (post := (fun z n1 σ1 => n1 = n ∧ ∃ I1 R1, σ1 = mS t b σ0 I1 R1 ∧ kpI [0, 6, 7, 8] I I1 ∧ kpR [17, 18] Rw R1 ∧ (I1 0).toInt = (if (-2000 ≤ yr ∧ yr ≤ 2000) ∧ -999999 ≤ dy ∧ dy ≤ 999999 then (if 0 ≤ ffN (plc (fun j => (feM Rw j 1).toInt) (fday (rowM Rw) (feM Rw) yr) (I 19).toInt) dy (I 19).toInt (I 19).toInt.toNat then 0 else 2) else 1) ∧ ((I1 0).toInt = 0 → z.toInt = ffN (plc (fun j => (feM Rw j 1).toInt) (fday (rowM Rw) (feM Rw) yr) (I 19).toInt) dy (I 19).toInt (I 19).toInt.toNat))) X w dX9_feastOn_19 (rfl) ⟨rfl, _, _, rfl, by exact ⟨z_16.1.wk (by decide), kpR.rf, z_16.2.1.trans (if_neg (fun q => k_11 q.2)).symm, fun q => absurd (z_16.2.1.symm.trans q) (by decide)⟩⟩

set_option maxHeartbeats 4000000 in
set_option maxRecDepth 100000 in
theorem c_X9_meetingYear (l : Launch) (D : va_G) (t : Nat → ClassId) (b n : Nat) (σ0 : qM) (I : Nat → Int32) (Rw : Nat → Nat → Int32) (a_f : Int32) (a_g : Int32) (a_fr : Int32) (f : Int) (g : Int) (fr : Int) (e_f : a_f.toInt = f) (e_g : a_g.toInt = g) (e_fr : a_fr.toInt = fr) (h_1 : (I 5).toInt ≤ 6) (h_2 : ∀ c : Int, 0 ≤ c → c < (I 5).toInt → okRow (rowM Rw c)) (h_3 : ∀ c : Int, 0 ≤ c → c < (I 5).toInt → okF Rw c) (h_4 : 0 ≤ (I 19).toInt ∧ (I 19).toInt ≤ 8) (h_5 : ∀ f : Int, 0 ≤ f → f < (I 19).toInt → okFe (I 5).toInt f (feM Rw f)) : mC l yX9_meetingYear cX9_meetingYear 5 (some .int) 11 D t b n σ0 I Rw [.ref (b + 45), .int a_f, .int a_g, .int a_fr] (fun z I1 R1 => kpI [0, 6, 7, 8] I I1 ∧ kpR [17, 18] Rw R1 ∧ (I1 0).toInt = (if (0 ≤ f ∧ f < (I 19).toInt) ∧ 0 ≤ g ∧ g < (I 19).toInt then (if f ≠ g ∧ -2000 ≤ fr ∧ fr ≤ 1801 then (if mtN (fun yy => fday (rowM Rw) (feM Rw) yy f) (fun yy => fday (rowM Rw) (feM Rw) yy g) (fr + 200) 200 = -2147483647 then 3 else 0) else 2) else 1) ∧ ((I1 0).toInt = 0 → z.toInt = mtN (fun yy => fday (rowM Rw) (feM Rw) yy f) (fun yy => fday (rowM Rw) (feM Rw) yy g) (fr + 200) 200)) := by
  refine qC.of (by decide +kernel) (Nat.le_of_ble_eq_true rfl) (fun p e s m args below meth c X w ls hl => ?_)
  have hx := X.1
  have hb := X.2.1
  have hl : lv_has ls 5 [(0, .ref (b + 45)), (1, .int a_f), (2, .int a_g), (3, .int a_fr)] := hl
  refine lv_aload_n hx hb dX9_meetingYear_0 rfl (lv_at hl 0 rfl) ?_
  refine lv_iload_n hx hb dX9_meetingYear_1 rfl (lv_at hl 1 rfl) ?_
  refine q_cPV X w (c_X9_isFeast l D t b n σ0 I Rw a_f f e_f) v_X9_281 (k := 45) rfl rfl rfl ⟨Nat.le_of_ble_eq_true rfl, Nat.le_of_ble_eq_true rfl⟩ rfl hl.1 (Nat.le_of_ble_eq_true rfl) dX9_meetingYear_2 ⟨Nat.zero_le _, Nat.zero_le _⟩ (fun r_2 z_2 => ?_)
  refine lv_if_eq (tgt := 16) hx hb dX9_meetingYear_5 (by decide) (fun c_5 => ?_) (fun c_5 => ?_)
  · skip
    rw [z_2] at c_5
    have k_5 := bI_f.mp c_5
    refine lv_aload_n hx hb dX9_meetingYear_16 rfl (lv_at hl 0 rfl) ?_
    refine lv_iconst (v := 1) hx hb dX9_meetingYear_17 (by decide) ?_
    refine mm_cCI X w (c_X9_fails l D t b n σ0 I Rw 1 1 (show (1 : Int32).toInt = 1 from rfl)) v_X9_143 rfl rfl ⟨Nat.le_of_ble_eq_true rfl, Nat.le_of_ble_eq_true rfl⟩ rfl hl.1 (Nat.le_of_ble_eq_true rfl) dX9_meetingYear_18 ⟨Nat.zero_le _, Nat.zero_le _⟩ (fun r_18 I_18 H locs z_18 w => ?_)
    exact q_cret (post := (fun z n1 σ1 => n1 = n ∧ ∃ I1 R1, σ1 = mS t b σ0 I1 R1 ∧ kpI [0, 6, 7, 8] I I1 ∧ kpR [17, 18] Rw R1 ∧ (I1 0).toInt = (if (0 ≤ f ∧ f < (I 19).toInt) ∧ 0 ≤ g ∧ g < (I 19).toInt then (if f ≠ g ∧ -2000 ≤ fr ∧ fr ≤ 1801 then (if mtN (fun yy => fday (rowM Rw) (feM Rw) yy f) (fun yy => fday (rowM Rw) (feM Rw) yy g) (fr + 200) 200 = -2147483647 then 3 else 0) else 2) else 1) ∧ ((I1 0).toInt = 0 → z.toInt = mtN (fun yy => fday (rowM Rw) (feM Rw) yy f) (fun yy => fday (rowM Rw) (feM Rw) yy g) (fr + 200) 200))) X w dX9_meetingYear_21 (rfl) ⟨rfl, _, _, rfl, by exact ⟨z_18.1.wk (by decide), kpR.rf, z_18.2.1.trans (if_neg (fun q => k_5 q.1)).symm, fun q => absurd (z_18.2.1.symm.trans q) (by decide)⟩⟩
  · skip
    rw [z_2] at c_5
    have k_5 := bI_t.mp c_5
    refine lv_aload_n hx hb dX9_meetingYear_8 rfl (lv_at hl 0 rfl) ?_
    refine lv_iload_n hx hb dX9_meetingYear_9 rfl (lv_at hl 2 rfl) ?_
    refine q_cPV X w (c_X9_isFeast l D t b n σ0 I Rw a_g g e_g) v_X9_281 (k := 45) rfl rfl rfl ⟨Nat.le_of_ble_eq_true rfl, Nat.le_of_ble_eq_true rfl⟩ rfl hl.1 (Nat.le_of_ble_eq_true rfl) dX9_meetingYear_10 ⟨Nat.zero_le _, Nat.zero_le _⟩ (fun r_10 z_10 => ?_)
    refine lv_if_ne (tgt := 22) hx hb dX9_meetingYear_13 (by decide) (fun c_13 => ?_) (fun c_13 => ?_)
    · skip
      rw [z_10] at c_13
      have k_13 := bI_t.mp c_13
      refine lv_iload_n hx hb dX9_meetingYear_22 rfl (lv_at hl 1 rfl) ?_
      refine lv_iload_n hx hb dX9_meetingYear_23 rfl (lv_at hl 2 rfl) ?_
      refine lv_icmp_eq (tgt := 40) hx hb dX9_meetingYear_24 (by decide) (fun c_24 => ?_) (fun c_24 => ?_)
      · skip
        have k_24 : f = g := (g_eq e_f e_g).mp c_24
        refine lv_aload_n hx hb dX9_meetingYear_40 rfl (lv_at hl 0 rfl) ?_
        refine lv_iconst (v := 2) hx hb dX9_meetingYear_41 (by decide) ?_
        refine mm_cCI X w (c_X9_fails l D t b n σ0 I Rw 2 2 (show (2 : Int32).toInt = 2 from rfl)) v_X9_143 rfl rfl ⟨Nat.le_of_ble_eq_true rfl, Nat.le_of_ble_eq_true rfl⟩ rfl hl.1 (Nat.le_of_ble_eq_true rfl) dX9_meetingYear_42 ⟨Nat.zero_le _, Nat.zero_le _⟩ (fun r_42 I_42 H locs z_42 w => ?_)
        exact q_cret (post := (fun z n1 σ1 => n1 = n ∧ ∃ I1 R1, σ1 = mS t b σ0 I1 R1 ∧ kpI [0, 6, 7, 8] I I1 ∧ kpR [17, 18] Rw R1 ∧ (I1 0).toInt = (if (0 ≤ f ∧ f < (I 19).toInt) ∧ 0 ≤ g ∧ g < (I 19).toInt then (if f ≠ g ∧ -2000 ≤ fr ∧ fr ≤ 1801 then (if mtN (fun yy => fday (rowM Rw) (feM Rw) yy f) (fun yy => fday (rowM Rw) (feM Rw) yy g) (fr + 200) 200 = -2147483647 then 3 else 0) else 2) else 1) ∧ ((I1 0).toInt = 0 → z.toInt = mtN (fun yy => fday (rowM Rw) (feM Rw) yy f) (fun yy => fday (rowM Rw) (feM Rw) yy g) (fr + 200) 200))) X w dX9_meetingYear_45 (rfl) ⟨rfl, _, _, rfl, by exact ⟨z_42.1.wk (by decide), kpR.rf, z_42.2.1.trans (by rw [if_pos ⟨k_5, k_13⟩, if_neg (fun q => q.1 k_24)]), fun q => absurd (z_42.2.1.symm.trans q) (by decide)⟩⟩
      · skip
        have k_24 : ¬ (f = g) := fun h => c_24 ((g_eq e_f e_g).mpr h)
        refine lv_iload_n hx hb dX9_meetingYear_27 rfl (lv_at hl 3 rfl) ?_
        refine lv_sipush (v := (-2000)) hx hb dX9_meetingYear_28 (by decide) ?_
        refine lv_sipush (v := 1801) hx hb dX9_meetingYear_31 (by decide) ?_
        refine q_cPS X w (c_X9_isBetween l a_fr (-2000) 1801 fr (-2000) 1801 e_fr (show ((-2000) : Int32).toInt = (-2000) from rfl) (show (1801 : Int32).toInt = 1801 from rfl) D t b n (mS t b σ0 I Rw)) v_X9_70 rfl ⟨Nat.le_of_ble_eq_true rfl, Nat.le_of_ble_eq_true rfl⟩ rfl hl.1 (Nat.le_of_ble_eq_true rfl) dX9_meetingYear_34 ⟨Nat.zero_le _, Nat.zero_le _⟩ (fun r_34 z_34 => ?_)
        refine lv_if_ne (tgt := 46) hx hb dX9_meetingYear_37 (by decide) (fun c_37 => ?_) (fun c_37 => ?_)
        · skip
          rw [z_34] at c_37
          have k_37 := bI_t.mp c_37
          refine lv_aload_n hx hb dX9_meetingYear_46 rfl (lv_at hl 0 rfl) ?_
          refine lv_iconst (v := 0) hx hb dX9_meetingYear_47 (by decide) ?_
          refine mp_thrown (v := 0) X w dX9_meetingYear_48 (fun H locs w => ?_)
          refine lv_iload_n hx hb dX9_meetingYear_51 rfl (lv_at hl 3 rfl) ?_
          refine lv_istore (lv' := [(4, .int a_fr), (0, .ref (b + 45)), (1, .int a_f), (2, .int a_g), (3, .int a_fr)]) hx hb dX9_meetingYear_52 hl (by decide) rfl (fun ls hl => ?_)
          refine q_loop (α := Int32 × Int × (Nat → Int32) × (Nat → Nat → Int32)) (fun a => a.1.toInt = a.2.1 ∧ (kpI [0,6,7,8] I a.2.2.1 ∧ kpR [17] Rw a.2.2.2 ∧ a.2.2.1 0 = 0 ∧ (fr ≤ a.2.1 ∧ a.2.1 ≤ fr + 200) ∧ mtN (fun yy => fday (rowM Rw) (feM Rw) yy f) (fun yy => fday (rowM Rw) (feM Rw) yy g) (fr + 200) (fr + 200 - a.2.1).toNat = mtN (fun yy => fday (rowM Rw) (feM Rw) yy f) (fun yy => fday (rowM Rw) (feM Rw) yy g) (fr + 200) 200)) (fun a => (fr + 200 - a.2.1).toNat) (fun a => ∀ (H : Heap) (locs : List Loc), qW D b n (mS t b σ0 a.2.2.1 a.2.2.2) s H locs → ∀ ls : Array Slot, lv_has ls 5 [(4, .int a.1), (0, .ref (b + 45)), (1, .int a_f), (2, .int a_g), (3, .int a_fr)] → W p l e (qR 11 0 0) s m args below meth c H locs 0 0 (MQ below (va_Qi (S := Nat × qM) (fun z u => (fun z n1 σ1 => n1 = n ∧ ∃ I1 R1, σ1 = mS t b σ0 I1 R1 ∧ kpI [0, 6, 7, 8] I I1 ∧ kpR [17, 18] Rw R1 ∧ (I1 0).toInt = (if (0 ≤ f ∧ f < (I 19).toInt) ∧ 0 ≤ g ∧ g < (I 19).toInt then (if f ≠ g ∧ -2000 ≤ fr ∧ fr ≤ 1801 then (if mtN (fun yy => fday (rowM Rw) (feM Rw) yy f) (fun yy => fday (rowM Rw) (feM Rw) yy g) (fr + 200) 200 = -2147483647 then 3 else 0) else 2) else 1) ∧ ((I1 0).toInt = 0 → z.toInt = mtN (fun yy => fday (rowM Rw) (feM Rw) yy f) (fun yy => fday (rowM Rw) (feM Rw) yy g) (fr + 200) 200)) z u.1 u.2) (fun u T => WB D b u.1 u.2 T.heap) (fun q => b ≤ q)) args s 0 0 (fun q => b ≤ q)) (F0 m 54 ls [])) ?_ ⟨a_fr, fr, (va_up I 0 0), Rw⟩ ⟨e_fr, by dsimp only; exact ⟨kpI.up kpI.rf (by decide), kpR.rf, rfl, by omega, by rw [show (fr + 200 - fr).toNat = 200 by omega]⟩⟩ _ _ w ls (lv_sub hl [0, 1, 2, 3, 4] rfl)
          rintro ⟨v_y, y, I_L54, R_L54⟩ ⟨q_y, inv_54⟩ ih_54 H locs w ls hl
          dsimp only at q_y inv_54 hl w
          have e5 : I_L54 5 = I 5 := inv_54.1 5 (by decide)
          have e2 : R_L54 2 = Rw 2 := inv_54.2.1 2 (by decide)
          have e4 : R_L54 4 = Rw 4 := inv_54.2.1 4 (by decide)
          have e16 : R_L54 16 = Rw 16 := inv_54.2.1 16 (by decide)
          have eM : rowM R_L54 = rowM Rw := rowM_cg e2
          have eF : feM R_L54 = feM Rw := feM_cg e16
          refine lv_iload hx hb dX9_meetingYear_54 (lv_at hl 0 rfl) ?_
          refine lv_iload_n hx hb dX9_meetingYear_56 rfl (lv_at hl 4 rfl) ?_
          refine lv_sipush (v := 200) hx hb dX9_meetingYear_57 (by decide) ?_
          refine lv_iadd hx hb dX9_meetingYear_60 ?_
          refine lv_topi (fun x_60 e_60 => ?_)
          have p_60 : x_60.toInt = (fr + 200) := by rw [e_60]; exact t_add e_fr (show (200 : Int32).toInt = 200 from rfl) (by omega) (by omega)
          refine lv_icmp_ge (tgt := 118) hx hb dX9_meetingYear_61 (by decide) (fun c_61 => ?_) (fun c_61 => ?_)
          · skip
            have k_61 : (fr + 200) ≤ y := (g_le p_60 q_y).mp c_61
            refine lv_aload_n hx hb dX9_meetingYear_118 rfl (lv_at hl 1 rfl) ?_
            refine lv_iconst (v := 3) hx hb dX9_meetingYear_119 (by decide) ?_
            refine mm_cCI X w (c_X9_fails l D t b n σ0 I_L54 R_L54 3 3 (show (3 : Int32).toInt = 3 from rfl)) v_X9_143 rfl rfl ⟨Nat.le_of_ble_eq_true rfl, Nat.le_of_ble_eq_true rfl⟩ rfl hl.1 (Nat.le_of_ble_eq_true rfl) dX9_meetingYear_120 ⟨Nat.zero_le _, Nat.zero_le _⟩ (fun r_120 I_120 H locs z_120 w => ?_)
            exact q_cret (post := (fun z n1 σ1 => n1 = n ∧ ∃ I1 R1, σ1 = mS t b σ0 I1 R1 ∧ kpI [0, 6, 7, 8] I I1 ∧ kpR [17, 18] Rw R1 ∧ (I1 0).toInt = (if (0 ≤ f ∧ f < (I 19).toInt) ∧ 0 ≤ g ∧ g < (I 19).toInt then (if f ≠ g ∧ -2000 ≤ fr ∧ fr ≤ 1801 then (if mtN (fun yy => fday (rowM Rw) (feM Rw) yy f) (fun yy => fday (rowM Rw) (feM Rw) yy g) (fr + 200) 200 = -2147483647 then 3 else 0) else 2) else 1) ∧ ((I1 0).toInt = 0 → z.toInt = mtN (fun yy => fday (rowM Rw) (feM Rw) yy f) (fun yy => fday (rowM Rw) (feM Rw) yy g) (fr + 200) 200))) X w dX9_meetingYear_123 (rfl) ⟨rfl, _, _, rfl, by have e : (-2147483647 : Int) = mtN (fun yy => fday (rowM Rw) (feM Rw) yy f) (fun yy => fday (rowM Rw) (feM Rw) yy g) (fr + 200) 200 := (by rw [← inv_54.2.2.2.2, show (fr + 200 - y).toNat = 0 by omega]; rfl); exact ⟨kpI.tr (J := [0,6,7,8]) inv_54.1 z_120.1 (by decide) (by decide), inv_54.2.1.wk (by decide), z_120.2.1.trans (by rw [if_pos ⟨k_5, k_13⟩, if_pos ⟨k_24, k_37⟩, if_pos e.symm]), fun q => absurd (z_120.2.1.symm.trans q) (by decide)⟩⟩
          · skip
            have k_61 : ¬ ((fr + 200) ≤ y) := fun h => c_61 ((g_le p_60 q_y).mpr h)
            refine lv_aload_n hx hb dX9_meetingYear_64 rfl (lv_at hl 1 rfl) ?_
            refine lv_iload hx hb dX9_meetingYear_65 (lv_at hl 0 rfl) ?_
            refine lv_iload_n hx hb dX9_meetingYear_67 rfl (lv_at hl 2 rfl) ?_
            refine lv_iload_n hx hb dX9_meetingYear_68 rfl (lv_at hl 3 rfl) ?_
            refine lv_icmp_le (tgt := 76) hx hb dX9_meetingYear_69 (by decide) (fun c_69 => ?_) (fun c_69 => ?_)
            · skip
              have k_69 : f ≤ g := (g_le e_f e_g).mp c_69
              refine lv_iload_n hx hb dX9_meetingYear_76 rfl (lv_at hl 3 rfl) ?_
              refine lv_iconst (v := 1) hx hb dX9_meetingYear_77 (by decide) ?_
              refine lv_iadd hx hb dX9_meetingYear_78 ?_
              refine lv_topi (fun x_78 e_78 => ?_)
              have p_78 : x_78.toInt = (g + 1) := by rw [e_78]; exact t_add e_g (show (1 : Int32).toInt = 1 from rfl) (by omega) (by omega)
              refine mm_cV X w (c_X9_findFeasts l D t b n σ0 I_L54 R_L54 v_y x_78 y (g + 1) q_y p_78 (by rw [e5]; exact h_1) (by rw [e5, eM]; exact h_2) (by rw [e5]; exact fun c a b => okF_cg e2.symm e4.symm (h_3 c a b)) (by omega) (by omega) (by rw [e5, eF]; exact fun i a b => h_5 i a (by omega))) v_X9_307 rfl rfl ⟨Nat.le_of_ble_eq_true rfl, Nat.le_of_ble_eq_true rfl⟩ rfl hl.1 (Nat.le_of_ble_eq_true rfl) dX9_meetingYear_79 ⟨Nat.zero_le _, Nat.zero_le _⟩ (fun I_79 R_79 H locs z_79 w => ?_)
              have hf1 := z_79.2.2 f (by omega) (by omega)
              rw [eM, eF] at hf1
              have hf2 := z_79.2.2 g (by omega) (by omega)
              rw [eM, eF] at hf2
              refine lv_aload_n hx hb dX9_meetingYear_82 rfl (lv_at hl 1 rfl) ?_
              refine mg_feastDay X w dX9_meetingYear_83 ?_
              refine lv_iload_n hx hb dX9_meetingYear_86 rfl (lv_at hl 2 rfl) ?_
              refine ml_feastDay X w (g_in e_f (by omega)) dX9_meetingYear_87 ?_
              refine q_topE (y := R_79 17 f.toNat) (congrArg (R_79 17) (g_tn e_f)) ?_
              refine lv_ldcw hx hb X.2.2.2.1 (X.2.2.1 _ kc_X9_259) dX9_meetingYear_88 ?_
              refine lv_icmp_eq (tgt := 112) hx hb dX9_meetingYear_91 (by decide) (fun c_91 => ?_) (fun c_91 => ?_)
              · skip
                have k_91 : ((R_79 17 f.toNat).toInt) = (-2147483647) := (g_eq rfl (show ((-2147483647) : Int32).toInt = (-2147483647) from rfl)).mp c_91
                have k91 : fday (rowM Rw) (feM Rw) y f = -2147483647 := hf1.symm.trans k_91
                obtain ⟨x_112, e_112⟩ : ∃ z : Int32, z = (v_y + 1) := ⟨_, rfl⟩
                have p_112 : x_112.toInt = (y + 1) := by rw [e_112]; exact t_add q_y (show (1 : Int32).toInt = 1 from rfl) (by omega) (by omega)
                refine lv_iinc (v := x_112) (lv' := [(4, .int x_112), (0, .ref (b + 45)), (1, .int a_f), (2, .int a_g), (3, .int a_fr)]) hx hb dX9_meetingYear_112 hl (k := 0) rfl (by rw [e_112]; rfl) (by decide) rfl (fun ls hl => ?_)
                refine lv_goto (tgt := 54) hx hb dX9_meetingYear_115 (by decide) ?_
                refine ih_54 ⟨x_112, (y + 1), I_79, R_79⟩ ⟨p_112, by dsimp only; have e := mtN_s (A := fun yy => fday (rowM Rw) (feM Rw) yy f) (B := fun yy => fday (rowM Rw) (feM Rw) yy g) (e := fr + 200) (y := y) (by omega); rw [if_neg (fun q => q.1 k91), inv_54.2.2.2.2] at e; exact ⟨inv_54.1.tr z_79.1 (by decide) (by decide), inv_54.2.1.tr z_79.2.1 (by decide) (by decide), (z_79.1 0 (by decide)).trans inv_54.2.2.1, by omega, e.symm⟩⟩ (by dsimp only; omega) _ _ w ls (lv_sub hl [0, 1, 2, 3, 4] rfl)
              · skip
                have k_91 : ¬ (((R_79 17 f.toNat).toInt) = (-2147483647)) := fun h => c_91 ((g_eq rfl (show ((-2147483647) : Int32).toInt = (-2147483647) from rfl)).mpr h)
                have k91 : fday (rowM Rw) (feM Rw) y f ≠ -2147483647 := fun q => k_91 (hf1.trans q)
                refine lv_aload_n hx hb dX9_meetingYear_94 rfl (lv_at hl 1 rfl) ?_
                refine mg_feastDay X w dX9_meetingYear_95 ?_
                refine lv_iload_n hx hb dX9_meetingYear_98 rfl (lv_at hl 2 rfl) ?_
                refine ml_feastDay X w (g_in e_f (by omega)) dX9_meetingYear_99 ?_
                refine q_topE (y := R_79 17 f.toNat) (congrArg (R_79 17) (g_tn e_f)) ?_
                refine lv_aload_n hx hb dX9_meetingYear_100 rfl (lv_at hl 1 rfl) ?_
                refine mg_feastDay X w dX9_meetingYear_101 ?_
                refine lv_iload_n hx hb dX9_meetingYear_104 rfl (lv_at hl 3 rfl) ?_
                refine ml_feastDay X w (g_in e_g (by omega)) dX9_meetingYear_105 ?_
                refine q_topE (y := R_79 17 g.toNat) (congrArg (R_79 17) (g_tn e_g)) ?_
                refine lv_icmp_ne (tgt := 112) hx hb dX9_meetingYear_106 (by decide) (fun c_106 => ?_) (fun c_106 => ?_)
                · skip
                  have k_106 : ¬ (((R_79 17 f.toNat).toInt) = ((R_79 17 g.toNat).toInt)) := fun h => c_106 ((g_eq rfl rfl).mpr h)
                  have k106 : ¬ fday (rowM Rw) (feM Rw) y f = fday (rowM Rw) (feM Rw) y g := fun q => k_106 (hf1.trans (q.trans hf2.symm))
                  obtain ⟨x_112, e_112⟩ : ∃ z : Int32, z = (v_y + 1) := ⟨_, rfl⟩
                  have p_112 : x_112.toInt = (y + 1) := by rw [e_112]; exact t_add q_y (show (1 : Int32).toInt = 1 from rfl) (by omega) (by omega)
                  refine lv_iinc (v := x_112) (lv' := [(4, .int x_112), (0, .ref (b + 45)), (1, .int a_f), (2, .int a_g), (3, .int a_fr)]) hx hb dX9_meetingYear_112 hl (k := 0) rfl (by rw [e_112]; rfl) (by decide) rfl (fun ls hl => ?_)
                  refine lv_goto (tgt := 54) hx hb dX9_meetingYear_115 (by decide) ?_
                  refine ih_54 ⟨x_112, (y + 1), I_79, R_79⟩ ⟨p_112, by dsimp only; have e := mtN_s (A := fun yy => fday (rowM Rw) (feM Rw) yy f) (B := fun yy => fday (rowM Rw) (feM Rw) yy g) (e := fr + 200) (y := y) (by omega); rw [if_neg (fun q => k106 q.2), inv_54.2.2.2.2] at e; exact ⟨inv_54.1.tr z_79.1 (by decide) (by decide), inv_54.2.1.tr z_79.2.1 (by decide) (by decide), (z_79.1 0 (by decide)).trans inv_54.2.2.1, by omega, e.symm⟩⟩ (by dsimp only; omega) _ _ w ls (lv_sub hl [0, 1, 2, 3, 4] rfl)
                · skip
                  have k_106 : ((R_79 17 f.toNat).toInt) = ((R_79 17 g.toNat).toInt) := (g_eq rfl rfl).mp c_106
                  have k106 : fday (rowM Rw) (feM Rw) y f = fday (rowM Rw) (feM Rw) y g := hf1.symm.trans (k_106.trans hf2)
                  refine lv_iload hx hb dX9_meetingYear_109 (lv_at hl 0 rfl) ?_
                  exact q_cret (post := (fun z n1 σ1 => n1 = n ∧ ∃ I1 R1, σ1 = mS t b σ0 I1 R1 ∧ kpI [0, 6, 7, 8] I I1 ∧ kpR [17, 18] Rw R1 ∧ (I1 0).toInt = (if (0 ≤ f ∧ f < (I 19).toInt) ∧ 0 ≤ g ∧ g < (I 19).toInt then (if f ≠ g ∧ -2000 ≤ fr ∧ fr ≤ 1801 then (if mtN (fun yy => fday (rowM Rw) (feM Rw) yy f) (fun yy => fday (rowM Rw) (feM Rw) yy g) (fr + 200) 200 = -2147483647 then 3 else 0) else 2) else 1) ∧ ((I1 0).toInt = 0 → z.toInt = mtN (fun yy => fday (rowM Rw) (feM Rw) yy f) (fun yy => fday (rowM Rw) (feM Rw) yy g) (fr + 200) 200))) X w dX9_meetingYear_111 (rfl) ⟨rfl, _, _, rfl, by have e := mtN_s (A := fun yy => fday (rowM Rw) (feM Rw) yy f) (B := fun yy => fday (rowM Rw) (feM Rw) yy g) (e := fr + 200) (y := y) (by omega); rw [if_pos ⟨k91, k106⟩, inv_54.2.2.2.2] at e; exact ⟨kpI.tr (J := [0,6,7,8]) inv_54.1 z_79.1 (by decide) (by decide), kpR.tr (J := [17,18]) inv_54.2.1 z_79.2.1 (by decide) (by decide), (congrArg Int32.toInt ((z_79.1 0 (by decide)).trans inv_54.2.2.1)).trans (by rw [if_pos ⟨k_5, k_13⟩, if_pos ⟨k_24, k_37⟩, e, if_neg (by omega)]; rfl), fun _ => q_y.trans e.symm⟩⟩
            · skip
              have k_69 : ¬ (f ≤ g) := fun h => c_69 ((g_le e_f e_g).mpr h)
              refine lv_iload_n hx hb dX9_meetingYear_72 rfl (lv_at hl 2 rfl) ?_
              refine lv_goto (tgt := 77) hx hb dX9_meetingYear_73 (by decide) ?_
              refine lv_iconst (v := 1) hx hb dX9_meetingYear_77 (by decide) ?_
              refine lv_iadd hx hb dX9_meetingYear_78 ?_
              refine lv_topi (fun x_78 e_78 => ?_)
              have p_78 : x_78.toInt = (f + 1) := by rw [e_78]; exact t_add e_f (show (1 : Int32).toInt = 1 from rfl) (by omega) (by omega)
              refine mm_cV X w (c_X9_findFeasts l D t b n σ0 I_L54 R_L54 v_y x_78 y (f + 1) q_y p_78 (by rw [e5]; exact h_1) (by rw [e5, eM]; exact h_2) (by rw [e5]; exact fun c a b => okF_cg e2.symm e4.symm (h_3 c a b)) (by omega) (by omega) (by rw [e5, eF]; exact fun i a b => h_5 i a (by omega))) v_X9_307 rfl rfl ⟨Nat.le_of_ble_eq_true rfl, Nat.le_of_ble_eq_true rfl⟩ rfl hl.1 (Nat.le_of_ble_eq_true rfl) dX9_meetingYear_79 ⟨Nat.zero_le _, Nat.zero_le _⟩ (fun I_79 R_79 H locs z_79 w => ?_)
              have hf1 := z_79.2.2 f (by omega) (by omega)
              rw [eM, eF] at hf1
              have hf2 := z_79.2.2 g (by omega) (by omega)
              rw [eM, eF] at hf2
              refine lv_aload_n hx hb dX9_meetingYear_82 rfl (lv_at hl 1 rfl) ?_
              refine mg_feastDay X w dX9_meetingYear_83 ?_
              refine lv_iload_n hx hb dX9_meetingYear_86 rfl (lv_at hl 2 rfl) ?_
              refine ml_feastDay X w (g_in e_f (by omega)) dX9_meetingYear_87 ?_
              refine q_topE (y := R_79 17 f.toNat) (congrArg (R_79 17) (g_tn e_f)) ?_
              refine lv_ldcw hx hb X.2.2.2.1 (X.2.2.1 _ kc_X9_259) dX9_meetingYear_88 ?_
              refine lv_icmp_eq (tgt := 112) hx hb dX9_meetingYear_91 (by decide) (fun c_91 => ?_) (fun c_91 => ?_)
              · skip
                have k_91 : ((R_79 17 f.toNat).toInt) = (-2147483647) := (g_eq rfl (show ((-2147483647) : Int32).toInt = (-2147483647) from rfl)).mp c_91
                have k91 : fday (rowM Rw) (feM Rw) y f = -2147483647 := hf1.symm.trans k_91
                obtain ⟨x_112, e_112⟩ : ∃ z : Int32, z = (v_y + 1) := ⟨_, rfl⟩
                have p_112 : x_112.toInt = (y + 1) := by rw [e_112]; exact t_add q_y (show (1 : Int32).toInt = 1 from rfl) (by omega) (by omega)
                refine lv_iinc (v := x_112) (lv' := [(4, .int x_112), (0, .ref (b + 45)), (1, .int a_f), (2, .int a_g), (3, .int a_fr)]) hx hb dX9_meetingYear_112 hl (k := 0) rfl (by rw [e_112]; rfl) (by decide) rfl (fun ls hl => ?_)
                refine lv_goto (tgt := 54) hx hb dX9_meetingYear_115 (by decide) ?_
                refine ih_54 ⟨x_112, (y + 1), I_79, R_79⟩ ⟨p_112, by dsimp only; have e := mtN_s (A := fun yy => fday (rowM Rw) (feM Rw) yy f) (B := fun yy => fday (rowM Rw) (feM Rw) yy g) (e := fr + 200) (y := y) (by omega); rw [if_neg (fun q => q.1 k91), inv_54.2.2.2.2] at e; exact ⟨inv_54.1.tr z_79.1 (by decide) (by decide), inv_54.2.1.tr z_79.2.1 (by decide) (by decide), (z_79.1 0 (by decide)).trans inv_54.2.2.1, by omega, e.symm⟩⟩ (by dsimp only; omega) _ _ w ls (lv_sub hl [0, 1, 2, 3, 4] rfl)
              · skip
                have k_91 : ¬ (((R_79 17 f.toNat).toInt) = (-2147483647)) := fun h => c_91 ((g_eq rfl (show ((-2147483647) : Int32).toInt = (-2147483647) from rfl)).mpr h)
                have k91 : fday (rowM Rw) (feM Rw) y f ≠ -2147483647 := fun q => k_91 (hf1.trans q)
                refine lv_aload_n hx hb dX9_meetingYear_94 rfl (lv_at hl 1 rfl) ?_
                refine mg_feastDay X w dX9_meetingYear_95 ?_
                refine lv_iload_n hx hb dX9_meetingYear_98 rfl (lv_at hl 2 rfl) ?_
                refine ml_feastDay X w (g_in e_f (by omega)) dX9_meetingYear_99 ?_
                refine q_topE (y := R_79 17 f.toNat) (congrArg (R_79 17) (g_tn e_f)) ?_
                refine lv_aload_n hx hb dX9_meetingYear_100 rfl (lv_at hl 1 rfl) ?_
                refine mg_feastDay X w dX9_meetingYear_101 ?_
                refine lv_iload_n hx hb dX9_meetingYear_104 rfl (lv_at hl 3 rfl) ?_
                refine ml_feastDay X w (g_in e_g (by omega)) dX9_meetingYear_105 ?_
                refine q_topE (y := R_79 17 g.toNat) (congrArg (R_79 17) (g_tn e_g)) ?_
                refine lv_icmp_ne (tgt := 112) hx hb dX9_meetingYear_106 (by decide) (fun c_106 => ?_) (fun c_106 => ?_)
                · skip
                  have k_106 : ¬ (((R_79 17 f.toNat).toInt) = ((R_79 17 g.toNat).toInt)) := fun h => c_106 ((g_eq rfl rfl).mpr h)
                  have k106 : ¬ fday (rowM Rw) (feM Rw) y f = fday (rowM Rw) (feM Rw) y g := fun q => k_106 (hf1.trans (q.trans hf2.symm))
                  obtain ⟨x_112, e_112⟩ : ∃ z : Int32, z = (v_y + 1) := ⟨_, rfl⟩
                  have p_112 : x_112.toInt = (y + 1) := by rw [e_112]; exact t_add q_y (show (1 : Int32).toInt = 1 from rfl) (by omega) (by omega)
                  refine lv_iinc (v := x_112) (lv' := [(4, .int x_112), (0, .ref (b + 45)), (1, .int a_f), (2, .int a_g), (3, .int a_fr)]) hx hb dX9_meetingYear_112 hl (k := 0) rfl (by rw [e_112]; rfl) (by decide) rfl (fun ls hl => ?_)
                  refine lv_goto (tgt := 54) hx hb dX9_meetingYear_115 (by decide) ?_
                  refine ih_54 ⟨x_112, (y + 1), I_79, R_79⟩ ⟨p_112, by dsimp only; have e := mtN_s (A := fun yy => fday (rowM Rw) (feM Rw) yy f) (B := fun yy => fday (rowM Rw) (feM Rw) yy g) (e := fr + 200) (y := y) (by omega); rw [if_neg (fun q => k106 q.2), inv_54.2.2.2.2] at e; exact ⟨inv_54.1.tr z_79.1 (by decide) (by decide), inv_54.2.1.tr z_79.2.1 (by decide) (by decide), (z_79.1 0 (by decide)).trans inv_54.2.2.1, by omega, e.symm⟩⟩ (by dsimp only; omega) _ _ w ls (lv_sub hl [0, 1, 2, 3, 4] rfl)
                · skip
                  have k_106 : ((R_79 17 f.toNat).toInt) = ((R_79 17 g.toNat).toInt) := (g_eq rfl rfl).mp c_106
                  have k106 : fday (rowM Rw) (feM Rw) y f = fday (rowM Rw) (feM Rw) y g := hf1.symm.trans (k_106.trans hf2)
                  refine lv_iload hx hb dX9_meetingYear_109 (lv_at hl 0 rfl) ?_
                  exact q_cret (post := (fun z n1 σ1 => n1 = n ∧ ∃ I1 R1, σ1 = mS t b σ0 I1 R1 ∧ kpI [0, 6, 7, 8] I I1 ∧ kpR [17, 18] Rw R1 ∧ (I1 0).toInt = (if (0 ≤ f ∧ f < (I 19).toInt) ∧ 0 ≤ g ∧ g < (I 19).toInt then (if f ≠ g ∧ -2000 ≤ fr ∧ fr ≤ 1801 then (if mtN (fun yy => fday (rowM Rw) (feM Rw) yy f) (fun yy => fday (rowM Rw) (feM Rw) yy g) (fr + 200) 200 = -2147483647 then 3 else 0) else 2) else 1) ∧ ((I1 0).toInt = 0 → z.toInt = mtN (fun yy => fday (rowM Rw) (feM Rw) yy f) (fun yy => fday (rowM Rw) (feM Rw) yy g) (fr + 200) 200))) X w dX9_meetingYear_111 (rfl) ⟨rfl, _, _, rfl, by have e := mtN_s (A := fun yy => fday (rowM Rw) (feM Rw) yy f) (B := fun yy => fday (rowM Rw) (feM Rw) yy g) (e := fr + 200) (y := y) (by omega); rw [if_pos ⟨k91, k106⟩, inv_54.2.2.2.2] at e; exact ⟨kpI.tr (J := [0,6,7,8]) inv_54.1 z_79.1 (by decide) (by decide), kpR.tr (J := [17,18]) inv_54.2.1 z_79.2.1 (by decide) (by decide), (congrArg Int32.toInt ((z_79.1 0 (by decide)).trans inv_54.2.2.1)).trans (by rw [if_pos ⟨k_5, k_13⟩, if_pos ⟨k_24, k_37⟩, e, if_neg (by omega)]; rfl), fun _ => q_y.trans e.symm⟩⟩
        · skip
          rw [z_34] at c_37
          have k_37 := bI_f.mp c_37
          refine lv_aload_n hx hb dX9_meetingYear_40 rfl (lv_at hl 0 rfl) ?_
          refine lv_iconst (v := 2) hx hb dX9_meetingYear_41 (by decide) ?_
          refine mm_cCI X w (c_X9_fails l D t b n σ0 I Rw 2 2 (show (2 : Int32).toInt = 2 from rfl)) v_X9_143 rfl rfl ⟨Nat.le_of_ble_eq_true rfl, Nat.le_of_ble_eq_true rfl⟩ rfl hl.1 (Nat.le_of_ble_eq_true rfl) dX9_meetingYear_42 ⟨Nat.zero_le _, Nat.zero_le _⟩ (fun r_42 I_42 H locs z_42 w => ?_)
          exact q_cret (post := (fun z n1 σ1 => n1 = n ∧ ∃ I1 R1, σ1 = mS t b σ0 I1 R1 ∧ kpI [0, 6, 7, 8] I I1 ∧ kpR [17, 18] Rw R1 ∧ (I1 0).toInt = (if (0 ≤ f ∧ f < (I 19).toInt) ∧ 0 ≤ g ∧ g < (I 19).toInt then (if f ≠ g ∧ -2000 ≤ fr ∧ fr ≤ 1801 then (if mtN (fun yy => fday (rowM Rw) (feM Rw) yy f) (fun yy => fday (rowM Rw) (feM Rw) yy g) (fr + 200) 200 = -2147483647 then 3 else 0) else 2) else 1) ∧ ((I1 0).toInt = 0 → z.toInt = mtN (fun yy => fday (rowM Rw) (feM Rw) yy f) (fun yy => fday (rowM Rw) (feM Rw) yy g) (fr + 200) 200))) X w dX9_meetingYear_45 (rfl) ⟨rfl, _, _, rfl, by exact ⟨z_42.1.wk (by decide), kpR.rf, z_42.2.1.trans (by rw [if_pos ⟨k_5, k_13⟩, if_neg (fun q => k_37 q.2)]), fun q => absurd (z_42.2.1.symm.trans q) (by decide)⟩⟩
    · skip
      rw [z_10] at c_13
      have k_13 := bI_f.mp c_13
      refine lv_aload_n hx hb dX9_meetingYear_16 rfl (lv_at hl 0 rfl) ?_
      refine lv_iconst (v := 1) hx hb dX9_meetingYear_17 (by decide) ?_
      refine mm_cCI X w (c_X9_fails l D t b n σ0 I Rw 1 1 (show (1 : Int32).toInt = 1 from rfl)) v_X9_143 rfl rfl ⟨Nat.le_of_ble_eq_true rfl, Nat.le_of_ble_eq_true rfl⟩ rfl hl.1 (Nat.le_of_ble_eq_true rfl) dX9_meetingYear_18 ⟨Nat.zero_le _, Nat.zero_le _⟩ (fun r_18 I_18 H locs z_18 w => ?_)
      exact q_cret (post := (fun z n1 σ1 => n1 = n ∧ ∃ I1 R1, σ1 = mS t b σ0 I1 R1 ∧ kpI [0, 6, 7, 8] I I1 ∧ kpR [17, 18] Rw R1 ∧ (I1 0).toInt = (if (0 ≤ f ∧ f < (I 19).toInt) ∧ 0 ≤ g ∧ g < (I 19).toInt then (if f ≠ g ∧ -2000 ≤ fr ∧ fr ≤ 1801 then (if mtN (fun yy => fday (rowM Rw) (feM Rw) yy f) (fun yy => fday (rowM Rw) (feM Rw) yy g) (fr + 200) 200 = -2147483647 then 3 else 0) else 2) else 1) ∧ ((I1 0).toInt = 0 → z.toInt = mtN (fun yy => fday (rowM Rw) (feM Rw) yy f) (fun yy => fday (rowM Rw) (feM Rw) yy g) (fr + 200) 200))) X w dX9_meetingYear_21 (rfl) ⟨rfl, _, _, rfl, by exact ⟨z_18.1.wk (by decide), kpR.rf, z_18.2.1.trans (if_neg (fun q => k_13 q.2)).symm, fun q => absurd (z_18.2.1.symm.trans q) (by decide)⟩⟩
