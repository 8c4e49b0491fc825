set_option maxHeartbeats 4000000 in
set_option maxRecDepth 100000 in
theorem c_X9_clears (l : Launch) (D : va_G) (t : Nat → ClassId) (b n : Nat) (σ0 : qM) (I : Nat → Int32) (Rw : Nat → Nat → Int32) : mV l yX9_clears cX9_clears 2 0 D t b n σ0 I Rw [.ref (b + 45)] (fun I1 R1 => I1 = I ∧ kpR [3] Rw R1 ∧ ∀ j : Nat, j < 33 → R1 3 j = row0 j) := by
  refine qV.of (by decide +kernel) (Nat.le_of_ble_eq_true rfl) (fun p e s m args below meth c X w _ ls hl => ?_)
  have hx := X.1
  have hb := X.2.1
  have hl : lv_has ls 2 [(0, .ref (b + 45))] := hl
  refine lv_iconst (v := 0) hx hb dX9_clears_0 (by decide) ?_
  refine lv_istore_n (lv' := [(1, .int 0), (0, .ref (b + 45))]) hx hb dX9_clears_1 rfl hl (by decide) rfl (fun ls hl => ?_)
  refine q_loop (α := Int32 × Int × (Nat → Nat → Int32)) (fun a => a.1.toInt = a.2.1 ∧ (kpR [3] Rw a.2.2 ∧ (0 ≤ a.2.1 ∧ a.2.1 ≤ 33) ∧ (∀ j : Nat, (j : Int) < a.2.1 → a.2.2 3 j = 0))) (fun a => (33 - a.2.1).toNat) (fun a => ∀ (H : Heap) (locs : List Loc), qW D b n (mS t b σ0 I a.2.2) s H locs → ∀ ls : Array Slot, lv_has ls 2 [(1, .int a.1), (0, .ref (b + 45))] → W p l e (qR 0 0 0) s m args below meth c H locs 0 0 (MQ below (va_Qv (S := Nat × qM) (fun u => (fun n1 σ1 => n1 = n ∧ ∃ I1 R1, σ1 = mS t b σ0 I1 R1 ∧ I1 = I ∧ kpR [3] Rw R1 ∧ ∀ j : Nat, j < 33 → R1 3 j = row0 j) u.1 u.2) (fun u T => WB D b u.1 u.2 T.heap) (fun q => b ≤ q)) args s 0 0 (fun q => b ≤ q)) (F0 m 2 ls [])) ?_ ⟨0, 0, Rw⟩ ⟨(show (0 : Int32).toInt = 0 from rfl), by dsimp only; exact ⟨kpR.rf, by omega, fun j a => by omega⟩⟩ _ _ w ls (lv_sub hl [0, 1] rfl)
  rintro ⟨v_k, k, R_L2⟩ ⟨q_k, inv_2⟩ ih_2 H locs w ls hl
  dsimp only at q_k inv_2 hl w
  refine lv_iload_n hx hb dX9_clears_2 rfl (lv_at hl 0 rfl) ?_
  refine lv_bipush (v := 33) hx hb dX9_clears_3 (by decide) ?_
  refine lv_icmp_ge (tgt := 21) hx hb dX9_clears_5 (by decide) (fun c_5 => ?_) (fun c_5 => ?_)
  · skip
    have k_5 : 33 ≤ k := (g_le (show (33 : Int32).toInt = 33 from rfl) q_k).mp c_5
    refine lv_aload_n hx hb dX9_clears_21 rfl (lv_at hl 1 rfl) ?_
    refine mg_read X w dX9_clears_22 ?_
    refine lv_bipush (v := 30) hx hb dX9_clears_25 (by decide) ?_
    refine lv_bipush (v := 7) hx hb dX9_clears_27 (by decide) ?_
    refine ms_read (x := 7) X w (g_in (show (30 : Int32).toInt = 30 from rfl) (by omega)) dX9_clears_29 (fun H locs w => ?_)
    rw [g_tn (show (30 : Int32).toInt = 30 from rfl)] at w
    refine lv_aload_n hx hb dX9_clears_30 rfl (lv_at hl 1 rfl) ?_
    refine mg_read X w dX9_clears_31 ?_
    refine lv_bipush (v := 32) hx hb dX9_clears_34 (by decide) ?_
    refine lv_iconst (v := 4) hx hb dX9_clears_36 (by decide) ?_
    refine ms_read (x := 4) X w (g_in (show (32 : Int32).toInt = 32 from rfl) (by omega)) dX9_clears_37 (fun H locs w => ?_)
    rw [g_tn (show (32 : Int32).toInt = 32 from rfl)] at w
    exact q_vret (post := (fun n1 σ1 => n1 = n ∧ ∃ I1 R1, σ1 = mS t b σ0 I1 R1 ∧ I1 = I ∧ kpR [3] Rw R1 ∧ ∀ j : Nat, j < 33 → R1 3 j = row0 j)) X w dX9_clears_38 ⟨rfl, _, _, rfl, rfl, by exact ⟨(inv_2.1.up (by decide)).up (by decide), fun j hj => by unfold row0; by_cases q : j = 32; (rw [if_pos q, q]; exact up_s _ _ _ _ _); (rw [if_neg q]; refine (up_n _ _ _ _ q).trans ?_; by_cases q2 : j = 30; (rw [if_pos q2, q2]; exact up_s _ _ _ _ _); (rw [if_neg q2]; exact (up_n _ _ _ _ q2).trans (inv_2.2.2 j (by omega))))⟩⟩
  · skip
    have k_5 : ¬ (33 ≤ k) := fun h => c_5 ((g_le (show (33 : Int32).toInt = 33 from rfl) q_k).mpr h)
    refine lv_aload_n hx hb dX9_clears_8 rfl (lv_at hl 1 rfl) ?_
    refine mg_read X w dX9_clears_9 ?_
    refine lv_iload_n hx hb dX9_clears_12 rfl (lv_at hl 0 rfl) ?_
    refine lv_iconst (v := 0) hx hb dX9_clears_13 (by decide) ?_
    refine ms_read (x := 0) X w (g_in q_k (by omega)) dX9_clears_14 (fun H locs w => ?_)
    rw [g_tn q_k] at w
    obtain ⟨x_15, e_15⟩ : ∃ z : Int32, z = (v_k + 1) := ⟨_, rfl⟩
    have p_15 : x_15.toInt = (k + 1) := by rw [e_15]; exact t_add q_k (show (1 : Int32).toInt = 1 from rfl) (by omega) (by omega)
    refine lv_iinc (v := x_15) (lv' := [(1, .int x_15), (0, .ref (b + 45))]) hx hb dX9_clears_15 hl (k := 0) rfl (by rw [e_15]; rfl) (by decide) rfl (fun ls hl => ?_)
    refine lv_goto (tgt := 2) hx hb dX9_clears_18 (by decide) ?_
    refine ih_2 ⟨x_15, (k + 1), (va_up R_L2 3 (upd (R_L2 3) k.toNat 0))⟩ ⟨p_15, by dsimp only; refine ⟨inv_2.1.up (by decide), by omega, fun j a => ?_⟩; rcases (show (j : Int) < k ∨ j = k.toNat by omega) with q | q; exact (up_n _ _ _ _ (by omega)).trans (inv_2.2.2 j q); (rw [q]; exact up_s _ _ _ _ _)⟩ (by dsimp only; omega) _ _ w ls (lv_sub hl [0, 1] rfl)

set_option maxHeartbeats 4000000 in
set_option maxRecDepth 100000 in
theorem c_X9_skips (l : Launch) (D : va_G) (t : Nat → ClassId) (b n : Nat) (σ0 : qM) (I : Nat → Int32) (Rw : Nat → Nat → Int32) (T : Int → Int) (po : Int) (a_ch : Int32) (ch : Int) (e_ch : a_ch.toInt = ch) (h_1 : T = tx I Rw) (h_2 : (I 11).toInt = po) (h_3 : 0 ≤ po ∧ po ≤ (I 10).toInt ∧ (I 10).toInt ≤ 100) (h_4 : ch ≠ 0) : mC l yX9_skips cX9_skips 2 (some .boolean) 1 D t b n σ0 I Rw [.ref (b + 45), .int a_ch] (fun z I1 R1 => R1 = Rw ∧ kpI [11] I I1 ∧ z = bI (decide (T po = ch)) ∧ (T po = ch → (I1 11).toInt = po + 1) ∧ (¬ T po = ch → (I1 11).toInt = po) ∧ po ≤ (I1 11).toInt ∧ (I1 11).toInt ≤ (I 10).toInt) := by
  refine qC.of (by decide +kernel) (Nat.le_of_ble_eq_true rfl) (fun p e s m args below meth c X w ls hl => ?_)
  have hx := X.1
  have hb := X.2.1
  have hl : lv_has ls 2 [(0, .ref (b + 45)), (1, .int a_ch)] := hl
  refine lv_aload_n hx hb dX9_skips_0 rfl (lv_at hl 0 rfl) ?_
  refine lv_aload_n hx hb dX9_skips_1 rfl (lv_at hl 0 rfl) ?_
  refine mg_at X w dX9_skips_2 ?_
  refine lv_iload_n hx hb dX9_skips_5 rfl (lv_at hl 1 rfl) ?_
  refine q_cPV X w (c_X9_isAt l D t b n σ0 I Rw (I 11) a_ch ((I 11).toInt) ch rfl e_ch (by omega)) v_X9_153 (k := 45) rfl rfl rfl ⟨Nat.le_of_ble_eq_true rfl, Nat.le_of_ble_eq_true rfl⟩ rfl hl.1 (Nat.le_of_ble_eq_true rfl) dX9_skips_6 ⟨Nat.zero_le _, Nat.zero_le _⟩ (fun r_6 z_6 => ?_)
  refine lv_if_ne (tgt := 14) hx hb dX9_skips_9 (by decide) (fun c_9 => ?_) (fun c_9 => ?_)
  · skip
    rw [z_6] at c_9
    have k_9 := bI_t.mp c_9
    rw [h_2] at k_9
    have k : T po = ch := (tx_at h_1 (by omega) h_4).mp k_9
    refine lv_aload_n hx hb dX9_skips_14 rfl (lv_at hl 0 rfl) ?_
    refine lv_dup hx hb dX9_skips_15 rfl ?_
    refine mg_at X w dX9_skips_16 ?_
    refine lv_iconst (v := 1) hx hb dX9_skips_19 (by decide) ?_
    refine lv_iadd hx hb dX9_skips_20 ?_
    refine lv_topi (fun x_20 e_20 => ?_)
    have p_20 : x_20.toInt = (((I 11).toInt) + 1) := by rw [e_20]; exact t_add rfl (show (1 : Int32).toInt = 1 from rfl) (by omega) (by omega)
    refine mp_at (v := x_20) X w dX9_skips_21 (fun H locs w => ?_)
    refine lv_iconst (v := 1) hx hb dX9_skips_24 (by decide) ?_
    exact q_cret (post := (fun z n1 σ1 => n1 = n ∧ ∃ I1 R1, σ1 = mS t b σ0 I1 R1 ∧ R1 = Rw ∧ kpI [11] I I1 ∧ z = bI (decide (T po = ch)) ∧ (T po = ch → (I1 11).toInt = po + 1) ∧ (¬ T po = ch → (I1 11).toInt = po) ∧ po ≤ (I1 11).toInt ∧ (I1 11).toInt ≤ (I 10).toInt)) X w dX9_skips_25 (rfl) ⟨rfl, _, _, rfl, rfl, by exact ⟨kpI.up kpI.rf (by decide), bI_1 k, fun _ => p_20.trans (by omega), fun q => absurd k q, by show po ≤ x_20.toInt; omega, by show x_20.toInt ≤ _; omega⟩⟩
  · skip
    rw [z_6] at c_9
    have k_9 := bI_f.mp c_9
    rw [h_2] at k_9
    have k : ¬ T po = ch := fun q => k_9 ((tx_at h_1 (by omega) h_4).mpr q)
    refine lv_iconst (v := 0) hx hb dX9_skips_12 (by decide) ?_
    exact q_cret (post := (fun z n1 σ1 => n1 = n ∧ ∃ I1 R1, σ1 = mS t b σ0 I1 R1 ∧ R1 = Rw ∧ kpI [11] I I1 ∧ z = bI (decide (T po = ch)) ∧ (T po = ch → (I1 11).toInt = po + 1) ∧ (¬ T po = ch → (I1 11).toInt = po) ∧ po ≤ (I1 11).toInt ∧ (I1 11).toInt ≤ (I 10).toInt)) X w dX9_skips_13 (rfl) ⟨rfl, _, _, rfl, rfl, by exact ⟨kpI.rf, bI_0 k, fun q => absurd q k, fun _ => h_2, by omega, by omega⟩⟩

set_option maxHeartbeats 4000000 in
set_option maxRecDepth 100000 in
theorem c_X9_takes (l : Launch) (D : va_G) (t : Nat → ClassId) (b n : Nat) (σ0 : qM) (I : Nat → Int32) (Rw : Nat → Nat → Int32) (T : Int → Int) (po : Int) (a_pl : Int32) (pl : Int) (e_pl : a_pl.toInt = pl) (h_1 : T = tx I Rw) (h_2 : (I 11).toInt = po) (h_3 : 0 ≤ po ∧ po ≤ (I 10).toInt ∧ (I 10).toInt ≤ 100) (h_4 : 0 ≤ pl ∧ pl < 33) : mC l yX9_takes cX9_takes 4 (some .boolean) 2 D t b n σ0 I Rw [.ref (b + 45), .int a_pl] (fun z I1 R1 => kpI [11] I I1 ∧ kpR [3] Rw R1 ∧ z = bI (decide (dg T po)) ∧ (dg T po → (I1 11).toInt = (num T po).2 ∧ R1 3 = upd (Rw 3) pl.toNat (i3 (num T po).1)) ∧ (¬ dg T po → (I1 11).toInt = po ∧ R1 3 = Rw 3) ∧ po ≤ (I1 11).toInt ∧ (I1 11).toInt ≤ (I 10).toInt) := by
  refine qC.of (by decide +kernel) (Nat.le_of_ble_eq_true rfl) (fun p e s m args below meth c X w ls hl => ?_)
  have hx := X.1
  have hb := X.2.1
  have hl : lv_has ls 4 [(0, .ref (b + 45)), (1, .int a_pl)] := hl
  refine lv_aload_n hx hb dX9_takes_0 rfl (lv_at hl 0 rfl) ?_
  refine q_cPV X w (c_X9_isDigit l D t b n σ0 I Rw (by omega)) v_X9_156 (k := 45) rfl rfl rfl ⟨Nat.le_of_ble_eq_true rfl, Nat.le_of_ble_eq_true rfl⟩ rfl hl.1 (Nat.le_of_ble_eq_true rfl) dX9_takes_1 ⟨Nat.zero_le _, Nat.zero_le _⟩ (fun r_1 z_1 => ?_)
  refine lv_if_ne (tgt := 9) hx hb dX9_takes_4 (by decide) (fun c_4 => ?_) (fun c_4 => ?_)
  · skip
    rw [z_1] at c_4
    have k_4 := bI_t.mp c_4
    rw [h_2] at k_4
    have k : dg T po := (tx_dg h_1 (by omega)).mp k_4
    refine lv_iconst (v := 0) hx hb dX9_takes_9 (by decide) ?_
    refine lv_istore_n (lv' := [(2, .int 0), (0, .ref (b + 45)), (1, .int a_pl)]) hx hb dX9_takes_10 rfl hl (by decide) rfl (fun ls hl => ?_)
    refine lv_iconst (v := 0) hx hb dX9_takes_11 (by decide) ?_
    refine lv_istore_n (lv' := [(3, .int 0), (2, .int 0), (0, .ref (b + 45)), (1, .int a_pl)]) hx hb dX9_takes_12 rfl hl (by decide) rfl (fun ls hl => ?_)
    refine q_loop (α := Int32 × Int32 × Int × Int × (Nat → Int32)) (fun a => a.1.toInt = a.2.2.1 ∧ a.2.1.toInt = a.2.2.2.1 ∧ (kpI [11] I a.2.2.2.2 ∧ (0 ≤ a.2.2.2.1 ∧ a.2.2.2.1 ≤ 6) ∧ numF T (6 - a.2.2.2.1).toNat a.2.2.1 (a.2.2.2.2 11).toInt = num T po ∧ (po ≤ (a.2.2.2.2 11).toInt ∧ (a.2.2.2.2 11).toInt ≤ (I 10).toInt) ∧ 0 ≤ a.2.2.1 ∧ ((a.2.2.2.1 = 0 ∧ a.2.2.1 < 1) ∨ (a.2.2.2.1 = 1 ∧ a.2.2.1 < 10) ∨ (a.2.2.2.1 = 2 ∧ a.2.2.1 < 100) ∨ (a.2.2.2.1 = 3 ∧ a.2.2.1 < 1000) ∨ (a.2.2.2.1 = 4 ∧ a.2.2.1 < 10000) ∨ (a.2.2.2.1 = 5 ∧ a.2.2.1 < 100000) ∨ (a.2.2.2.1 = 6 ∧ a.2.2.1 < 1000000)))) (fun a => (6 - a.2.2.2.1).toNat) (fun a => ∀ (H : Heap) (locs : List Loc), qW D b n (mS t b σ0 a.2.2.2.2 Rw) s H locs → ∀ ls : Array Slot, lv_has ls 4 [(3, .int a.2.1), (2, .int a.1), (0, .ref (b + 45)), (1, .int a_pl)] → W p l e (qR 2 0 0) s m args below meth c H locs 0 0 (MQ below (va_Qi (S := Nat × qM) (fun z u => (fun z n1 σ1 => n1 = n ∧ ∃ I1 R1, σ1 = mS t b σ0 I1 R1 ∧ kpI [11] I I1 ∧ kpR [3] Rw R1 ∧ z = bI (decide (dg T po)) ∧ (dg T po → (I1 11).toInt = (num T po).2 ∧ R1 3 = upd (Rw 3) pl.toNat (i3 (num T po).1)) ∧ (¬ dg T po → (I1 11).toInt = po ∧ R1 3 = Rw 3) ∧ po ≤ (I1 11).toInt ∧ (I1 11).toInt ≤ (I 10).toInt) z u.1 u.2) (fun u T => WB D b u.1 u.2 T.heap) (fun q => b ≤ q)) args s 0 0 (fun q => b ≤ q)) (F0 m 13 ls [])) ?_ ⟨0, 0, 0, 0, I⟩ ⟨(show (0 : Int32).toInt = 0 from rfl), (show (0 : Int32).toInt = 0 from rfl), by dsimp only; exact ⟨kpI.rf, by omega, by rw [h_2]; rfl, by omega, by omega, by omega⟩⟩ _ _ w ls (lv_sub hl [0, 1, 2, 3] rfl)
    rintro ⟨v_v, v_n_, v, n_, I_L13⟩ ⟨q_v, q_n_, inv_13⟩ ih_13 H locs w ls hl
    dsimp only at q_v q_n_ inv_13 hl w
    have e10 : I_L13 10 = I 10 := inv_13.1 10 (by decide)
    have e10i := congrArg Int32.toInt e10
    have hT13 : T = tx I_L13 Rw := h_1.trans (tx_cg e10 rfl)
    refine lv_iload_n hx hb dX9_takes_13 rfl (lv_at hl 0 rfl) ?_
    refine lv_bipush (v := 6) hx hb dX9_takes_14 (by decide) ?_
    refine lv_icmp_ge (tgt := 60) hx hb dX9_takes_16 (by decide) (fun c_16 => ?_) (fun c_16 => ?_)
    · skip
      have k_16 : 6 ≤ n_ := (g_le (show (6 : Int32).toInt = 6 from rfl) q_n_).mp c_16
      refine lv_aload_n hx hb dX9_takes_60 rfl (lv_at hl 2 rfl) ?_
      refine mg_read X w dX9_takes_61 ?_
      refine lv_iload_n hx hb dX9_takes_64 rfl (lv_at hl 3 rfl) ?_
      refine lv_iload_n hx hb dX9_takes_65 rfl (lv_at hl 1 rfl) ?_
      refine ms_read (x := v_v) X w (g_in e_pl (by omega)) dX9_takes_66 (fun H locs w => ?_)
      rw [g_tn e_pl] at w
      refine lv_iconst (v := 1) hx hb dX9_takes_67 (by decide) ?_
      exact q_cret (post := (fun z n1 σ1 => n1 = n ∧ ∃ I1 R1, σ1 = mS t b σ0 I1 R1 ∧ kpI [11] I I1 ∧ kpR [3] Rw R1 ∧ z = bI (decide (dg T po)) ∧ (dg T po → (I1 11).toInt = (num T po).2 ∧ R1 3 = upd (Rw 3) pl.toNat (i3 (num T po).1)) ∧ (¬ dg T po → (I1 11).toInt = po ∧ R1 3 = Rw 3) ∧ po ≤ (I1 11).toInt ∧ (I1 11).toInt ≤ (I 10).toInt)) X w dX9_takes_68 (rfl) ⟨rfl, _, _, rfl, by have e : num T po = (v, (I_L13 11).toInt) := inv_13.2.2.1.symm.trans (by rw [show (6 - n_).toNat = 0 by omega]; rfl); have hp := inv_13.2.2.2.1; exact ⟨inv_13.1, kpR.up kpR.rf (by decide), bI_1 k, fun _ => ⟨by rw [e], by rw [e, va_up_self]; show upd _ _ v_v = upd _ _ (i3 v); rw [← q_v, i3_i]⟩, fun q => absurd k q, hp⟩⟩
    · skip
      have k_16 : ¬ (6 ≤ n_) := fun h => c_16 ((g_le (show (6 : Int32).toInt = 6 from rfl) q_n_).mpr h)
      refine lv_aload_n hx hb dX9_takes_19 rfl (lv_at hl 2 rfl) ?_
      refine q_cPV X w (c_X9_isDigit l D t b n σ0 I_L13 Rw (by exact ⟨by omega, by omega⟩)) v_X9_156 (k := 45) rfl rfl rfl ⟨Nat.le_of_ble_eq_true rfl, Nat.le_of_ble_eq_true rfl⟩ rfl hl.1 (Nat.le_of_ble_eq_true rfl) dX9_takes_20 ⟨Nat.zero_le _, Nat.zero_le _⟩ (fun r_20 z_20 => ?_)
      refine lv_if_eq (tgt := 60) hx hb dX9_takes_23 (by decide) (fun c_23 => ?_) (fun c_23 => ?_)
      · skip
        rw [z_20] at c_23
        have k_23 := bI_f.mp c_23
        have kd : ¬ dg T (I_L13 11).toInt := fun q => k_23 ((tx_dg hT13 (by omega)).mpr q)
        refine lv_aload_n hx hb dX9_takes_60 rfl (lv_at hl 2 rfl) ?_
        refine mg_read X w dX9_takes_61 ?_
        refine lv_iload_n hx hb dX9_takes_64 rfl (lv_at hl 3 rfl) ?_
        refine lv_iload_n hx hb dX9_takes_65 rfl (lv_at hl 1 rfl) ?_
        refine ms_read (x := v_v) X w (g_in e_pl (by omega)) dX9_takes_66 (fun H locs w => ?_)
        rw [g_tn e_pl] at w
        refine lv_iconst (v := 1) hx hb dX9_takes_67 (by decide) ?_
        exact q_cret (post := (fun z n1 σ1 => n1 = n ∧ ∃ I1 R1, σ1 = mS t b σ0 I1 R1 ∧ kpI [11] I I1 ∧ kpR [3] Rw R1 ∧ z = bI (decide (dg T po)) ∧ (dg T po → (I1 11).toInt = (num T po).2 ∧ R1 3 = upd (Rw 3) pl.toNat (i3 (num T po).1)) ∧ (¬ dg T po → (I1 11).toInt = po ∧ R1 3 = Rw 3) ∧ po ≤ (I1 11).toInt ∧ (I1 11).toInt ≤ (I 10).toInt)) X w dX9_takes_68 (rfl) ⟨rfl, _, _, rfl, by have e : num T po = (v, (I_L13 11).toInt) := inv_13.2.2.1.symm.trans (numF_e _ kd); have hp := inv_13.2.2.2.1; exact ⟨inv_13.1, kpR.up kpR.rf (by decide), bI_1 k, fun _ => ⟨by rw [e], by rw [e, va_up_self]; show upd _ _ v_v = upd _ _ (i3 v); rw [← q_v, i3_i]⟩, fun q => absurd k q, hp⟩⟩
      · skip
        rw [z_20] at c_23
        have k_23 := bI_t.mp c_23
        have kd : dg T (I_L13 11).toInt := (tx_dg hT13 (by omega)).mp k_23
        have hv13 := tx_val hT13 (p := (I_L13 11).toInt) (by omega) (by omega)
        have kd2 := kd
        unfold dg at kd2
        refine lv_bipush (v := 10) hx hb dX9_takes_26 (by decide) ?_
        refine lv_iload_n hx hb dX9_takes_28 rfl (lv_at hl 1 rfl) ?_
        refine lv_imul hx hb dX9_takes_29 ?_
        refine lv_topi (fun x_29 e_29 => ?_)
        have p_29 : x_29.toInt = (10 * v) := by rw [e_29]; exact t_mul (show (10 : Int32).toInt = 10 from rfl) q_v (by omega) (by omega)
        refine lv_aload_n hx hb dX9_takes_30 rfl (lv_at hl 2 rfl) ?_
        refine mg_text X w dX9_takes_31 ?_
        refine lv_aload_n hx hb dX9_takes_34 rfl (lv_at hl 2 rfl) ?_
        refine mg_at X w dX9_takes_35 ?_
        refine ml_text X w (g_in rfl (by omega)) dX9_takes_38 ?_
        refine q_topE (y := Rw 9 ((I_L13 11).toInt).toNat) (congrArg (Rw 9) (g_tn rfl)) ?_
        refine lv_iadd hx hb dX9_takes_39 ?_
        refine lv_topi (fun x_39 e_39 => ?_)
        have p_39 : x_39.toInt = ((10 * v) + ((Rw 9 ((I_L13 11).toInt).toNat).toInt)) := by rw [e_39]; exact t_add p_29 rfl (by omega) (by omega)
        refine lv_bipush (v := 48) hx hb dX9_takes_40 (by decide) ?_
        refine lv_isub hx hb dX9_takes_42 ?_
        refine lv_topi (fun x_42 e_42 => ?_)
        have p_42 : x_42.toInt = (((10 * v) + ((Rw 9 ((I_L13 11).toInt).toNat).toInt)) - 48) := by rw [e_42]; exact t_sub p_39 (show (48 : Int32).toInt = 48 from rfl) (by omega) (by omega)
        refine lv_istore_n (lv' := [(2, .int x_42), (3, .int v_n_), (0, .ref (b + 45)), (1, .int a_pl)]) hx hb dX9_takes_43 rfl hl (by decide) rfl (fun ls hl => ?_)
        refine lv_aload_n hx hb dX9_takes_44 rfl (lv_at hl 2 rfl) ?_
        refine lv_dup hx hb dX9_takes_45 rfl ?_
        refine mg_at X w dX9_takes_46 ?_
        refine lv_iconst (v := 1) hx hb dX9_takes_49 (by decide) ?_
        refine lv_iadd hx hb dX9_takes_50 ?_
        refine lv_topi (fun x_50 e_50 => ?_)
        have p_50 : x_50.toInt = (((I_L13 11).toInt) + 1) := by rw [e_50]; exact t_add rfl (show (1 : Int32).toInt = 1 from rfl) (by omega) (by omega)
        refine mp_at (v := x_50) X w dX9_takes_51 (fun H locs w => ?_)
        obtain ⟨x_54, e_54⟩ : ∃ z : Int32, z = (v_n_ + 1) := ⟨_, rfl⟩
        have p_54 : x_54.toInt = (n_ + 1) := by rw [e_54]; exact t_add q_n_ (show (1 : Int32).toInt = 1 from rfl) (by omega) (by omega)
        refine lv_iinc (v := x_54) (lv' := [(3, .int x_54), (2, .int x_42), (0, .ref (b + 45)), (1, .int a_pl)]) hx hb dX9_takes_54 hl (k := 1) rfl (by rw [e_54]; rfl) (by decide) rfl (fun ls hl => ?_)
        refine lv_goto (tgt := 13) hx hb dX9_takes_57 (by decide) ?_
        refine ih_13 ⟨x_42, x_54, (((10 * v) + ((Rw 9 ((I_L13 11).toInt).toNat).toInt)) - 48), (n_ + 1), (va_up I_L13 11 x_50)⟩ ⟨p_42, p_54, by dsimp only; have e := numF_s (v := v) (show n_ < 6 by omega) kd; exact ⟨inv_13.1.up (by decide), by omega, (by rw [show (va_up I_L13 11 x_50 11).toInt = (I_L13 11).toInt + 1 from p_50, show 10 * v + (Rw 9 (I_L13 11).toInt.toNat).toInt - 48 = 10 * v + T (I_L13 11).toInt - 48 by omega, e]; exact inv_13.2.2.1), by show po ≤ x_50.toInt ∧ x_50.toInt ≤ _; omega, by omega, by omega⟩⟩ (by dsimp only; omega) _ _ w ls (lv_sub hl [0, 1, 2, 3] rfl)
  · skip
    rw [z_1] at c_4
    have k_4 := bI_f.mp c_4
    rw [h_2] at k_4
    have k : ¬ dg T po := fun q => k_4 ((tx_dg h_1 (by omega)).mpr q)
    refine lv_iconst (v := 0) hx hb dX9_takes_7 (by decide) ?_
    exact q_cret (post := (fun z n1 σ1 => n1 = n ∧ ∃ I1 R1, σ1 = mS t b σ0 I1 R1 ∧ kpI [11] I I1 ∧ kpR [3] Rw R1 ∧ z = bI (decide (dg T po)) ∧ (dg T po → (I1 11).toInt = (num T po).2 ∧ R1 3 = upd (Rw 3) pl.toNat (i3 (num T po).1)) ∧ (¬ dg T po → (I1 11).toInt = po ∧ R1 3 = Rw 3) ∧ po ≤ (I1 11).toInt ∧ (I1 11).toInt ≤ (I 10).toInt)) X w dX9_takes_8 (rfl) ⟨rfl, _, _, rfl, by exact ⟨kpI.rf, kpR.rf, bI_0 k, fun q => absurd q k, fun _ => ⟨h_2, rfl⟩, by omega, by omega⟩⟩

set_option maxHeartbeats 4000000 in
set_option maxRecDepth 100000 in
theorem c_X9_begins (l : Launch) (D : va_G) (t : Nat → ClassId) (b n : Nat) (σ0 : qM) (I : Nat → Int32) (Rw : Nat → Nat → Int32) (T : Int → Int) (po : Int) (a_ch : Int32) (ch : Int) (e_ch : a_ch.toInt = ch) (h_1 : T = tx I Rw) (h_2 : (I 11).toInt = po) (h_3 : 0 ≤ po ∧ po ≤ (I 10).toInt ∧ (I 10).toInt ≤ 100) (h_4 : ch ≠ 0) : mC l yX9_begins cX9_begins 2 (some .boolean) 1 D t b n σ0 I Rw [.ref (b + 45), .int a_ch] (fun z I1 R1 => R1 = Rw ∧ kpI [11] I I1 ∧ z = bI (decide (T po = 59 ∧ T (po + 1) = ch)) ∧ (T po = 59 ∧ T (po + 1) = ch → (I1 11).toInt = po + 2) ∧ (¬ (T po = 59 ∧ T (po + 1) = ch) → (I1 11).toInt = po) ∧ po ≤ (I1 11).toInt ∧ (I1 11).toInt ≤ (I 10).toInt) := by
  refine qC.of (by decide +kernel) (Nat.le_of_ble_eq_true rfl) (fun p e s m args below meth c X w ls hl => ?_)
  have hx := X.1
  have hb := X.2.1
  have hl : lv_has ls 2 [(0, .ref (b + 45)), (1, .int a_ch)] := hl
  refine lv_aload_n hx hb dX9_begins_0 rfl (lv_at hl 0 rfl) ?_
  refine lv_aload_n hx hb dX9_begins_1 rfl (lv_at hl 0 rfl) ?_
  refine mg_at X w dX9_begins_2 ?_
  refine lv_bipush (v := 59) hx hb dX9_begins_5 (by decide) ?_
  refine q_cPV X w (c_X9_isAt l D t b n σ0 I Rw (I 11) 59 ((I 11).toInt) 59 rfl (show (59 : Int32).toInt = 59 from rfl) (by omega)) v_X9_153 (k := 45) rfl rfl rfl ⟨Nat.le_of_ble_eq_true rfl, Nat.le_of_ble_eq_true rfl⟩ rfl hl.1 (Nat.le_of_ble_eq_true rfl) dX9_begins_7 ⟨Nat.zero_le _, Nat.zero_le _⟩ (fun r_7 z_7 => ?_)
  refine lv_if_eq (tgt := 27) hx hb dX9_begins_10 (by decide) (fun c_10 => ?_) (fun c_10 => ?_)
  · skip
    rw [z_7] at c_10
    have k_10 := bI_f.mp c_10
    rw [h_2] at k_10
    have k : ¬ (T po = 59 ∧ T (po + 1) = ch) := fun q => k_10 ((tx_at h_1 (by omega) (by decide)).mpr q.1)
    refine lv_iconst (v := 0) hx hb dX9_begins_27 (by decide) ?_
    exact q_cret (post := (fun z n1 σ1 => n1 = n ∧ ∃ I1 R1, σ1 = mS t b σ0 I1 R1 ∧ R1 = Rw ∧ kpI [11] I I1 ∧ z = bI (decide (T po = 59 ∧ T (po + 1) = ch)) ∧ (T po = 59 ∧ T (po + 1) = ch → (I1 11).toInt = po + 2) ∧ (¬ (T po = 59 ∧ T (po + 1) = ch) → (I1 11).toInt = po) ∧ po ≤ (I1 11).toInt ∧ (I1 11).toInt ≤ (I 10).toInt)) X w dX9_begins_28 (rfl) ⟨rfl, _, _, rfl, rfl, by exact ⟨kpI.rf, bI_0 k, fun q => absurd q k, fun _ => h_2, by omega, by omega⟩⟩
  · skip
    rw [z_7] at c_10
    have k_10 := bI_t.mp c_10
    rw [h_2] at k_10
    have k1 : T po = 59 := (tx_at h_1 (by omega) (by decide)).mp k_10
    refine lv_aload_n hx hb dX9_begins_13 rfl (lv_at hl 0 rfl) ?_
    refine lv_aload_n hx hb dX9_begins_14 rfl (lv_at hl 0 rfl) ?_
    refine mg_at X w dX9_begins_15 ?_
    refine lv_iconst (v := 1) hx hb dX9_begins_18 (by decide) ?_
    refine lv_iadd hx hb dX9_begins_19 ?_
    refine lv_topi (fun x_19 e_19 => ?_)
    have p_19 : x_19.toInt = (((I 11).toInt) + 1) := by rw [e_19]; exact t_add rfl (show (1 : Int32).toInt = 1 from rfl) (by omega) (by omega)
    refine lv_iload_n hx hb dX9_begins_20 rfl (lv_at hl 1 rfl) ?_
    refine q_cPV X w (c_X9_isAt l D t b n σ0 I Rw x_19 a_ch (((I 11).toInt) + 1) ch p_19 e_ch (by omega)) v_X9_153 (k := 45) rfl rfl rfl ⟨Nat.le_of_ble_eq_true rfl, Nat.le_of_ble_eq_true rfl⟩ rfl hl.1 (Nat.le_of_ble_eq_true rfl) dX9_begins_21 ⟨Nat.zero_le _, Nat.zero_le _⟩ (fun r_21 z_21 => ?_)
    refine lv_if_ne (tgt := 29) hx hb dX9_begins_24 (by decide) (fun c_24 => ?_) (fun c_24 => ?_)
    · skip
      rw [z_21] at c_24
      have k_24 := bI_t.mp c_24
      rw [h_2] at k_24
      have k : T po = 59 ∧ T (po + 1) = ch := ⟨k1, (tx_at h_1 (by omega) h_4).mp k_24⟩
      refine lv_aload_n hx hb dX9_begins_29 rfl (lv_at hl 0 rfl) ?_
      refine lv_dup hx hb dX9_begins_30 rfl ?_
      refine mg_at X w dX9_begins_31 ?_
      refine lv_iconst (v := 2) hx hb dX9_begins_34 (by decide) ?_
      refine lv_iadd hx hb dX9_begins_35 ?_
      refine lv_topi (fun x_35 e_35 => ?_)
      have p_35 : x_35.toInt = (((I 11).toInt) + 2) := by rw [e_35]; exact t_add rfl (show (2 : Int32).toInt = 2 from rfl) (by omega) (by omega)
      refine mp_at (v := x_35) X w dX9_begins_36 (fun H locs w => ?_)
      refine lv_iconst (v := 1) hx hb dX9_begins_39 (by decide) ?_
      exact q_cret (post := (fun z n1 σ1 => n1 = n ∧ ∃ I1 R1, σ1 = mS t b σ0 I1 R1 ∧ R1 = Rw ∧ kpI [11] I I1 ∧ z = bI (decide (T po = 59 ∧ T (po + 1) = ch)) ∧ (T po = 59 ∧ T (po + 1) = ch → (I1 11).toInt = po + 2) ∧ (¬ (T po = 59 ∧ T (po + 1) = ch) → (I1 11).toInt = po) ∧ po ≤ (I1 11).toInt ∧ (I1 11).toInt ≤ (I 10).toInt)) X w dX9_begins_40 (rfl) ⟨rfl, _, _, rfl, rfl, by exact ⟨kpI.up kpI.rf (by decide), bI_1 k, fun _ => p_35.trans (by omega), fun q => absurd k q, by show po ≤ x_35.toInt; omega, by show x_35.toInt ≤ _; omega⟩⟩
    · skip
      rw [z_21] at c_24
      have k_24 := bI_f.mp c_24
      rw [h_2] at k_24
      have k : ¬ (T po = 59 ∧ T (po + 1) = ch) := fun q => k_24 ((tx_at h_1 (by omega) h_4).mpr q.2)
      refine lv_iconst (v := 0) hx hb dX9_begins_27 (by decide) ?_
      exact q_cret (post := (fun z n1 σ1 => n1 = n ∧ ∃ I1 R1, σ1 = mS t b σ0 I1 R1 ∧ R1 = Rw ∧ kpI [11] I I1 ∧ z = bI (decide (T po = 59 ∧ T (po + 1) = ch)) ∧ (T po = 59 ∧ T (po + 1) = ch → (I1 11).toInt = po + 2) ∧ (¬ (T po = 59 ∧ T (po + 1) = ch) → (I1 11).toInt = po) ∧ po ≤ (I1 11).toInt ∧ (I1 11).toInt ≤ (I 10).toInt)) X w dX9_begins_28 (rfl) ⟨rfl, _, _, rfl, rfl, by exact ⟨kpI.rf, bI_0 k, fun q => absurd q k, fun _ => h_2, by omega, by omega⟩⟩
