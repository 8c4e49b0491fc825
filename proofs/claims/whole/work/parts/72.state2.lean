theorem fo_hi {pm : Nat → Nat} {P P1 : Nat → Nat → Option Nat} (h : hiP pm P) (k1 : ∀ j : Nat, j < 5 → P1 0 j = P 0 (j + 1)) (k2 : P1 0 5 = some (sp (pm 0))) : hiP (fun j => if j < 5 then pm (j + 1) else pm 0) P1 := by
  refine ⟨fun j hj => ?_, fun i j hi hj hh => ?_⟩
  · by_cases c : j < 5
    · rw [k1 j c]
      simp only [if_pos c]
      exact h.1 (j + 1) (by omega)
    · rw [show j = 5 by omega, k2]
      exact ⟨rfl, (h.1 0 (by omega)).2⟩
  · have hh' : (if i < 5 then pm (i + 1) else pm 0) = (if j < 5 then pm (j + 1) else pm 0) := hh
    by_cases c : i < 5 <;> by_cases c2 : j < 5
    · rw [if_pos c, if_pos c2] at hh'
      have := h.2 _ _ (by omega) (by omega) hh'
      omega
    · rw [if_pos c, if_neg c2] at hh'
      have := h.2 _ _ (by omega) (by omega) hh'
      omega
    · rw [if_neg c, if_pos c2] at hh'
      have := h.2 _ _ (by omega) (by omega) hh'
      omega
    · omega

set_option maxHeartbeats 2000000 in
set_option maxRecDepth 100000 in
theorem c_X6_copyFrom (l : Launch) (D : va_G) (t : Nat → ClassId) (b n : Nat) (σ0 : qM) (A : Nat → Int32) (B : Nat → Nat → Int32) (P : Nat → Nat → Option Nat) (u : Nat) (hu : u < 8) (uf : Nat) (hf : uf < 8) (hne : u ≠ uf) (h_1 : okSt σ0 A P uf) : kU l yX6_copyFrom cX6_copyFrom 3 1 D t b n σ0 A B P [.ref (b + sp u), .ref (b + sp uf)] (fun A1 P1 => keSt A P u A1 P1 ∧ cpSt A P uf A1 P1 u) := by
  refine qV.of (by decide +kernel) (Nat.le_of_ble_eq_true rfl) (fun p e s m args below meth c X w _ ls hl => ?_)
  have hx := X.1
  have hb := X.2.1
  have hl : lv_has ls 3 [(0, .ref (b + sp u)), (1, .ref (b + sp uf))] := hl
  refine lv_iconst (v := 0) hx hb dX6_copyFrom_0 (by decide) ?_
  refine lv_istore_n (lv' := [(2, .int 0), (0, .ref (b + sp u)), (1, .ref (b + sp uf))]) hx hb dX6_copyFrom_1 rfl hl (by decide) rfl (fun ls hl => ?_)
  refine q_loop (α := Int32 × Int × (Nat → Nat → Option Nat)) (fun a => a.1.toInt = a.2.1 ∧ ((0 ≤ a.2.1 ∧ a.2.1 ≤ 6) ∧ (∀ k, k ≠ 1 + 2 * u → a.2.2 k = P k) ∧ ∀ j : Nat, (j : Int) < a.2.1 → (j : Int) < (A (20 + 2 * uf)).toInt → a.2.2 (1 + 2 * u) j = P (1 + 2 * uf) j)) (fun a => (6 - a.2.1).toNat) (fun a => ∀ (H : Heap) (locs : List Loc), qW D b n (cS t b σ0 A B a.2.2) s H locs → ∀ ls : Array Slot, lv_has ls 3 [(2, .int a.1), (0, .ref (b + sp u)), (1, .ref (b + sp uf))] → W p l e (qR 1 0 0) s m args below meth c H locs 0 0 (MQ below (va_Qv (S := Nat × qM) (fun z7 => (fun n1 σ1 => n1 = n ∧ ∃ A1 P1, σ1 = cS t b σ0 A1 B P1 ∧ (keSt A P u A1 P1 ∧ cpSt A P uf A1 P1 u)) z7.1 z7.2) (fun z7 T => WB D b z7.1 z7.2 T.heap) (fun q => b ≤ q)) args s 0 0 (fun q => b ≤ q)) (F0 m 2 ls [])) ?_ ⟨0, 0, P⟩ ⟨(show (0 : Int32).toInt = 0 from rfl), by dsimp only; exact ⟨by omega, fun k _ => rfl, fun j h1 _ => by omega⟩⟩ _ _ w ls (lv_sub hl [0, 1, 2] rfl)
  rintro ⟨v_i, i, R_L2⟩ ⟨q_i, inv_2⟩ ih_2 H locs w ls hl
  dsimp only at q_i inv_2 hl w
  have hsr2 : R_L2 (1 + 2 * uf) = P (1 + 2 * uf) := inv_2.2.1 _ (by omega)
  refine lv_iload_n hx hb dX6_copyFrom_2 rfl (lv_at hl 0 rfl) ?_
  refine lv_aload_n hx hb dX6_copyFrom_3 rfl (lv_at hl 1 rfl) ?_
  refine sg_calendars X w hu dX6_copyFrom_4 ?_
  refine sn_cal X w hu dX6_copyFrom_7 ?_
  refine lv_icmp_ge (tgt := 28) hx hb dX6_copyFrom_8 (by decide) (fun c_8 => ?_) (fun c_8 => ?_)
  · skip
    have k_8 : 6 ≤ i := (g_le (show (6 : Int32).toInt = 6 from rfl) q_i).mp c_8
    refine lv_iconst (v := 0) hx hb dX6_copyFrom_28 (by decide) ?_
    refine lv_istore_n (lv' := [(2, .int 0), (0, .ref (b + sp u)), (1, .ref (b + sp uf))]) hx hb dX6_copyFrom_29 rfl hl (by decide) rfl (fun ls hl => ?_)
    refine q_loop (α := Int32 × Int × (Nat → Nat → Option Nat)) (fun a => a.1.toInt = a.2.1 ∧ ((0 ≤ a.2.1 ∧ a.2.1 ≤ 8) ∧ (∀ k, k ≠ 2 + 2 * u → a.2.2 k = R_L2 k) ∧ ∀ j : Nat, (j : Int) < a.2.1 → (j : Int) < (A (21 + 2 * uf)).toInt → a.2.2 (2 + 2 * u) j = P (2 + 2 * uf) j)) (fun a => (8 - a.2.1).toNat) (fun a => ∀ (H : Heap) (locs : List Loc), qW D b n (cS t b σ0 A B a.2.2) s H locs → ∀ ls : Array Slot, lv_has ls 3 [(2, .int a.1), (0, .ref (b + sp u)), (1, .ref (b + sp uf))] → W p l e (qR 1 0 0) s m args below meth c H locs 0 0 (MQ below (va_Qv (S := Nat × qM) (fun z7 => (fun n1 σ1 => n1 = n ∧ ∃ A1 P1, σ1 = cS t b σ0 A1 B P1 ∧ (keSt A P u A1 P1 ∧ cpSt A P uf A1 P1 u)) z7.1 z7.2) (fun z7 T => WB D b z7.1 z7.2 T.heap) (fun q => b ≤ q)) args s 0 0 (fun q => b ≤ q)) (F0 m 30 ls [])) ?_ ⟨0, 0, R_L2⟩ ⟨(show (0 : Int32).toInt = 0 from rfl), by dsimp only; exact ⟨by omega, fun k _ => rfl, fun j h1 _ => by omega⟩⟩ _ _ w ls (lv_sub hl [0, 1, 2] rfl)
    rintro ⟨v_i, i, R_L30⟩ ⟨q_i, inv_30⟩ ih_30 H locs w ls hl
    dsimp only at q_i inv_30 hl w
    have hsr30 : R_L30 (2 + 2 * uf) = P (2 + 2 * uf) := (inv_30.2.1 _ (by omega)).trans (inv_2.2.1 _ (by omega))
    refine lv_iload_n hx hb dX6_copyFrom_30 rfl (lv_at hl 0 rfl) ?_
    refine lv_aload_n hx hb dX6_copyFrom_31 rfl (lv_at hl 1 rfl) ?_
    refine sg_feasts X w hu dX6_copyFrom_32 ?_
    refine sn_fea X w hu dX6_copyFrom_35 ?_
    refine lv_icmp_ge (tgt := 56) hx hb dX6_copyFrom_36 (by decide) (fun c_36 => ?_) (fun c_36 => ?_)
    · skip
      have k_36 : 8 ≤ i := (g_le (show (8 : Int32).toInt = 8 from rfl) q_i).mp c_36
      refine lv_aload_n hx hb dX6_copyFrom_56 rfl (lv_at hl 1 rfl) ?_
      refine lv_aload_n hx hb dX6_copyFrom_57 rfl (lv_at hl 2 rfl) ?_
      refine sg_calendarCount X w hf dX6_copyFrom_58 ?_
      refine sp_calendarCount (v := (A (20 + 2 * uf))) X w hu dX6_copyFrom_61 (fun H locs w => ?_)
      refine lv_aload_n hx hb dX6_copyFrom_64 rfl (lv_at hl 1 rfl) ?_
      refine lv_aload_n hx hb dX6_copyFrom_65 rfl (lv_at hl 2 rfl) ?_
      refine sg_feastCount X w hf dX6_copyFrom_66 ?_
      refine sp_feastCount (v := ((va_up A (20 + 2 * u) (A (20 + 2 * uf))) (21 + 2 * uf))) X w hu dX6_copyFrom_69 (fun H locs w => ?_)
      exact q_vret (post := fun n1 σ1 => n1 = n ∧ ∃ A1 P1, σ1 = cS t b σ0 A1 B P1 ∧ (keSt A P u A1 P1 ∧ cpSt A P uf A1 P1 u)) X w dX6_copyFrom_72 ⟨rfl, _, _, rfl, by exact ⟨⟨fun k k1 k2 => (va_up_ne _ _ k2).trans (va_up_ne _ _ k1), fun k k1 k2 => (inv_30.2.1 k k2).trans (inv_2.2.1 k k1)⟩, (va_up_ne _ _ (by omega)).trans (va_up_self _ _ _), (va_up_self _ _ _).trans (va_up_ne _ _ (by omega)), fun j hj => (congrFun (inv_30.2.1 _ (by omega)) j).trans (inv_2.2.2 j (by have := h_1.1; omega) hj), fun j hj => inv_30.2.2 j (by have := h_1.2.1; omega) hj⟩⟩
    · skip
      have k_36 : ¬ (8 ≤ i) := fun h => c_36 ((g_le (show (8 : Int32).toInt = 8 from rfl) q_i).mpr h)
      refine lv_aload_n hx hb dX6_copyFrom_39 rfl (lv_at hl 1 rfl) ?_
      refine sg_feasts X w hu dX6_copyFrom_40 ?_
      refine lv_iload_n hx hb dX6_copyFrom_43 rfl (lv_at hl 0 rfl) ?_
      refine lv_aload_n hx hb dX6_copyFrom_44 rfl (lv_at hl 2 rfl) ?_
      refine lv_iload_n hx hb dX6_copyFrom_45 rfl (lv_at hl 0 rfl) ?_
      refine kk_cA X w (c_X6_feastAt l D t b n σ0 A B R_L30 uf hf v_i i q_i) v_X6_40 (rc := sp uf) (cS_st hf) rfl rfl ⟨Nat.le_of_ble_eq_true rfl, Nat.le_of_ble_eq_true rfl⟩ rfl hl.1 (Nat.le_of_ble_eq_true rfl) dX6_copyFrom_46 ⟨Nat.le_of_ble_eq_true rfl, Nat.le_of_ble_eq_true rfl⟩ (fun H locs w => ?_)
      refine ss_fea X w hu q_i (o := (if 0 ≤ i ∧ i < (A (21 + 2 * uf)).toInt ∧ i < 8 then R_L30 (2 + 2 * uf) i.toNat else none)) (by omega) (by exact h_1.f hsr30) dX6_copyFrom_49 (fun H locs w => ?_)
      obtain ⟨x_50, e_50⟩ : ∃ z : Int32, z = (v_i + 1) := ⟨_, rfl⟩
      have p_50 : x_50.toInt = (i + 1) := by rw [e_50]; exact t_add q_i (show (1 : Int32).toInt = 1 from rfl) (by omega) (by omega)
      refine lv_iinc (v := x_50) (lv' := [(2, .int x_50), (0, .ref (b + sp u)), (1, .ref (b + sp uf))]) hx hb dX6_copyFrom_50 hl (k := 0) rfl (by rw [e_50]; rfl) (by decide) rfl (fun ls hl => ?_)
      refine lv_goto (tgt := 30) hx hb dX6_copyFrom_53 (by decide) ?_
      refine ih_30 ⟨x_50, (i + 1), (va_up R_L30 (2 + 2 * u) (va_up (R_L30 (2 + 2 * u)) i.toNat (if 0 ≤ i ∧ i < (A (21 + 2 * uf)).toInt ∧ i < 8 then R_L30 (2 + 2 * uf) i.toNat else none)))⟩ ⟨p_50, by dsimp only; exact ⟨by omega, fun k hk => (va_up_ne _ _ hk).trans (inv_30.2.1 k hk), fun j h1 h2 => by rw [va_up_self]; by_cases e : j = i.toNat; (rw [e, va_up_self, if_pos (by omega), hsr30]); (rw [va_up_ne _ _ e]; exact inv_30.2.2 j (by omega) h2)⟩⟩ (by dsimp only; omega) _ _ w ls (lv_sub hl [0, 1, 2] rfl)
  · skip
    have k_8 : ¬ (6 ≤ i) := fun h => c_8 ((g_le (show (6 : Int32).toInt = 6 from rfl) q_i).mpr h)
    refine lv_aload_n hx hb dX6_copyFrom_11 rfl (lv_at hl 1 rfl) ?_
    refine sg_calendars X w hu dX6_copyFrom_12 ?_
    refine lv_iload_n hx hb dX6_copyFrom_15 rfl (lv_at hl 0 rfl) ?_
    refine lv_aload_n hx hb dX6_copyFrom_16 rfl (lv_at hl 2 rfl) ?_
    refine lv_iload_n hx hb dX6_copyFrom_17 rfl (lv_at hl 0 rfl) ?_
    refine kk_cA X w (c_X6_calendarAt l D t b n σ0 A B R_L2 uf hf v_i i q_i) v_X6_36 (rc := sp uf) (cS_st hf) rfl rfl ⟨Nat.le_of_ble_eq_true rfl, Nat.le_of_ble_eq_true rfl⟩ rfl hl.1 (Nat.le_of_ble_eq_true rfl) dX6_copyFrom_18 ⟨Nat.le_of_ble_eq_true rfl, Nat.le_of_ble_eq_true rfl⟩ (fun H locs w => ?_)
    refine ss_cal X w hu q_i (o := (if 0 ≤ i ∧ i < (A (20 + 2 * uf)).toInt ∧ i < 6 then R_L2 (1 + 2 * uf) i.toNat else none)) (by omega) (by exact h_1.c hsr2) dX6_copyFrom_21 (fun H locs w => ?_)
    obtain ⟨x_22, e_22⟩ : ∃ z : Int32, z = (v_i + 1) := ⟨_, rfl⟩
    have p_22 : x_22.toInt = (i + 1) := by rw [e_22]; exact t_add q_i (show (1 : Int32).toInt = 1 from rfl) (by omega) (by omega)
    refine lv_iinc (v := x_22) (lv' := [(2, .int x_22), (0, .ref (b + sp u)), (1, .ref (b + sp uf))]) hx hb dX6_copyFrom_22 hl (k := 0) rfl (by rw [e_22]; rfl) (by decide) rfl (fun ls hl => ?_)
    refine lv_goto (tgt := 2) hx hb dX6_copyFrom_25 (by decide) ?_
    refine ih_2 ⟨x_22, (i + 1), (va_up R_L2 (1 + 2 * u) (va_up (R_L2 (1 + 2 * u)) i.toNat (if 0 ≤ i ∧ i < (A (20 + 2 * uf)).toInt ∧ i < 6 then R_L2 (1 + 2 * uf) i.toNat else none)))⟩ ⟨p_22, by dsimp only; exact ⟨by omega, fun k hk => (va_up_ne _ _ hk).trans (inv_2.2.1 k hk), fun j h1 h2 => by rw [va_up_self]; by_cases e : j = i.toNat; (rw [e, va_up_self, if_pos (by omega), hsr2]); (rw [va_up_ne _ _ e]; exact inv_2.2.2 j (by omega) h2)⟩⟩ (by dsimp only; omega) _ _ w ls (lv_sub hl [0, 1, 2] rfl)

set_option maxHeartbeats 2000000 in
set_option maxRecDepth 100000 in
theorem c_X3_forgetOldest (l : Launch) (D : va_G) (t : Nat → ClassId) (b n : Nat) (σ0 : qM) (A : Nat → Int32) (B : Nat → Nat → Int32) (P : Nat → Nat → Option Nat) (pm : Nat → Nat) (h_1 : hiP pm P) : kU l yX3_forgetOldest cX3_forgetOldest 3 1 D t b n σ0 A B P [.ref (b + 13)] (fun A1 P1 => ((∀ k, k ≠ 19 → A1 k = A k) ∧ (A1 19).toInt = 5) ∧ (∀ k, k ≠ 0 → P1 k = P k) ∧ hiP (fun j => if j < 5 then pm (j + 1) else pm 0) P1) := by
  refine qV.of (by decide +kernel) (Nat.le_of_ble_eq_true rfl) (fun p e s m args below meth c X w _ ls hl => ?_)
  have hx := X.1
  have hb := X.2.1
  have hl : lv_has ls 3 [(0, .ref (b + 13))] := hl
  refine lv_aload_n hx hb dX3_forgetOldest_0 rfl (lv_at hl 0 rfl) ?_
  refine lv_iconst (v := 0) hx hb dX3_forgetOldest_1 (by decide) ?_
  refine kk_cA X w (c_X3_stateAt l D t b n σ0 A B P pm h_1 0 0 (show (0 : Int32).toInt = 0 from rfl) (by omega)) v_X3_25 (rc := 13) rfl rfl rfl ⟨Nat.le_of_ble_eq_true rfl, Nat.le_of_ble_eq_true rfl⟩ rfl hl.1 (Nat.le_of_ble_eq_true rfl) dX3_forgetOldest_2 ⟨Nat.le_of_ble_eq_true rfl, Nat.le_of_ble_eq_true rfl⟩ (fun H locs w => ?_)
  refine lv_astore_n (lv' := [(1, .ref (b + sp (pm (0 : Int).toNat))), (0, .ref (b + 13))]) hx hb dX3_forgetOldest_5 rfl hl (by decide) rfl (fun ls hl => ?_)
  refine lv_iconst (v := 0) hx hb dX3_forgetOldest_6 (by decide) ?_
  refine lv_istore_n (lv' := [(2, .int 0), (1, .ref (b + sp (pm (0 : Int).toNat))), (0, .ref (b + 13))]) hx hb dX3_forgetOldest_7 rfl hl (by decide) rfl (fun ls hl => ?_)
  refine q_loop (α := Int32 × Int × (Nat → Nat → Option Nat)) (fun a => a.1.toInt = a.2.1 ∧ ((0 ≤ a.2.1 ∧ a.2.1 ≤ 5) ∧ (∀ k, k ≠ 0 → a.2.2 k = P k) ∧ (∀ j : Nat, (j : Int) < a.2.1 → a.2.2 0 j = P 0 (j + 1)) ∧ (∀ j : Nat, a.2.1 ≤ (j : Int) → a.2.2 0 j = P 0 j))) (fun a => (5 - a.2.1).toNat) (fun a => ∀ (H : Heap) (locs : List Loc), qW D b n (cS t b σ0 A B a.2.2) s H locs → ∀ ls : Array Slot, lv_has ls 3 [(2, .int a.1), (1, .ref (b + sp (pm (0 : Int).toNat))), (0, .ref (b + 13))] → W p l e (qR 1 0 0) s m args below meth c H locs 0 0 (MQ below (va_Qv (S := Nat × qM) (fun z7 => (fun n1 σ1 => n1 = n ∧ ∃ A1 P1, σ1 = cS t b σ0 A1 B P1 ∧ (((∀ k, k ≠ 19 → A1 k = A k) ∧ (A1 19).toInt = 5) ∧ (∀ k, k ≠ 0 → P1 k = P k) ∧ hiP (fun j => if j < 5 then pm (j + 1) else pm 0) P1)) z7.1 z7.2) (fun z7 T => WB D b z7.1 z7.2 T.heap) (fun q => b ≤ q)) args s 0 0 (fun q => b ≤ q)) (F0 m 8 ls [])) ?_ ⟨0, 0, P⟩ ⟨(show (0 : Int32).toInt = 0 from rfl), by dsimp only; exact ⟨by omega, fun k _ => rfl, fun j h1 => by omega, fun j _ => rfl⟩⟩ _ _ w ls (lv_sub hl [0, 1, 2] rfl)
  rintro ⟨v_i, i, R_L8⟩ ⟨q_i, inv_8⟩ ih_8 H locs w ls hl
  dsimp only at q_i inv_8 hl w
  refine lv_iload_n hx hb dX3_forgetOldest_8 rfl (lv_at hl 0 rfl) ?_
  refine lv_iconst (v := 1) hx hb dX3_forgetOldest_9 (by decide) ?_
  refine lv_iadd hx hb dX3_forgetOldest_10 ?_
  refine lv_topi (fun x_10 e_10 => ?_)
  have p_10 : x_10.toInt = (i + 1) := by rw [e_10]; exact t_add q_i (show (1 : Int32).toInt = 1 from rfl) (by omega) (by omega)
  refine lv_aload_n hx hb dX3_forgetOldest_11 rfl (lv_at hl 2 rfl) ?_
  refine kg_X3_states X w dX3_forgetOldest_12 ?_
  refine sn_his X w dX3_forgetOldest_15 ?_
  refine lv_icmp_ge (tgt := 39) hx hb dX3_forgetOldest_16 (by decide) (fun c_16 => ?_) (fun c_16 => ?_)
  · skip
    have k_16 : 6 ≤ (i + 1) := (g_le (show (6 : Int32).toInt = 6 from rfl) p_10).mp c_16
    refine lv_aload_n hx hb dX3_forgetOldest_39 rfl (lv_at hl 2 rfl) ?_
    refine kg_X3_states X w dX3_forgetOldest_40 ?_
    refine sn_his X w dX3_forgetOldest_43 ?_
    refine lv_if_le (tgt := 60) hx hb dX3_forgetOldest_44 (by decide) (fun c_44 => ?_) (fun c_44 => ?_)
    · skip
      have k_44 : (6 : Int) ≤ 0 := (g_le (show (6 : Int32).toInt = 6 from rfl) (show (0 : Int32).toInt = 0 from rfl)).mp c_44
      exact absurd k_44 (by decide)
    · skip
      have k_44 : ¬ ((6 : Int) ≤ 0) := fun h => c_44 ((g_le (show (6 : Int32).toInt = 6 from rfl) (show (0 : Int32).toInt = 0 from rfl)).mpr h)
      refine lv_aload_n hx hb dX3_forgetOldest_47 rfl (lv_at hl 2 rfl) ?_
      refine kg_X3_states X w dX3_forgetOldest_48 ?_
      refine lv_aload_n hx hb dX3_forgetOldest_51 rfl (lv_at hl 2 rfl) ?_
      refine kg_X3_states X w dX3_forgetOldest_52 ?_
      refine sn_his X w dX3_forgetOldest_55 ?_
      refine lv_iconst (v := 1) hx hb dX3_forgetOldest_56 (by decide) ?_
      refine lv_isub hx hb dX3_forgetOldest_57 ?_
      refine lv_topi (fun x_57 e_57 => ?_)
      have p_57 : x_57.toInt = (6 - 1) := by rw [e_57]; exact t_sub (show (6 : Int32).toInt = 6 from rfl) (show (1 : Int32).toInt = 1 from rfl) (by omega) (by omega)
      refine lv_aload_n hx hb dX3_forgetOldest_58 rfl (lv_at hl 1 rfl) ?_
      refine ss_his X w p_57 (o := (some (sp (pm (0 : Int).toNat)))) (by omega) (by intro z hz; cases hz; exact ⟨_, cS_st (h_1.1 _ (by omega)).2.2⟩) dX3_forgetOldest_59 (fun H locs w => ?_)
      refine lv_aload_n hx hb dX3_forgetOldest_60 rfl (lv_at hl 2 rfl) ?_
      refine lv_aload_n hx hb dX3_forgetOldest_61 rfl (lv_at hl 2 rfl) ?_
      refine kg_X3_states X w dX3_forgetOldest_62 ?_
      refine sn_his X w dX3_forgetOldest_65 ?_
      refine lv_iconst (v := 1) hx hb dX3_forgetOldest_66 (by decide) ?_
      refine lv_isub hx hb dX3_forgetOldest_67 ?_
      refine lv_topi (fun x_67 e_67 => ?_)
      have p_67 : x_67.toInt = (6 - 1) := by rw [e_67]; exact t_sub (show (6 : Int32).toInt = 6 from rfl) (show (1 : Int32).toInt = 1 from rfl) (by omega) (by omega)
      refine kp_X3_count (v := x_67) X w dX3_forgetOldest_68 (fun H locs w => ?_)
      exact q_vret (post := fun n1 σ1 => n1 = n ∧ ∃ A1 P1, σ1 = cS t b σ0 A1 B P1 ∧ (((∀ k, k ≠ 19 → A1 k = A k) ∧ (A1 19).toInt = 5) ∧ (∀ k, k ≠ 0 → P1 k = P k) ∧ hiP (fun j => if j < 5 then pm (j + 1) else pm 0) P1)) X w dX3_forgetOldest_71 ⟨rfl, _, _, rfl, by exact ⟨⟨fun k hk => va_up_ne _ _ hk, p_67⟩, fun k hk => (va_up_ne _ _ hk).trans (inv_8.2.1 k hk), fo_hi h_1 (fun j hj => by rw [va_up_self, va_up_ne _ _ (by omega)]; exact inv_8.2.2.1 j (by omega)) (by rw [va_up_self]; exact va_up_self _ _ _)⟩⟩
  · skip
    have k_16 : ¬ (6 ≤ (i + 1)) := fun h => c_16 ((g_le (show (6 : Int32).toInt = 6 from rfl) p_10).mpr h)
    refine lv_aload_n hx hb dX3_forgetOldest_19 rfl (lv_at hl 2 rfl) ?_
    refine kg_X3_states X w dX3_forgetOldest_20 ?_
    refine lv_iload_n hx hb dX3_forgetOldest_23 rfl (lv_at hl 0 rfl) ?_
    refine lv_aload_n hx hb dX3_forgetOldest_24 rfl (lv_at hl 2 rfl) ?_
    refine kg_X3_states X w dX3_forgetOldest_25 ?_
    refine lv_iload_n hx hb dX3_forgetOldest_28 rfl (lv_at hl 0 rfl) ?_
    refine lv_iconst (v := 1) hx hb dX3_forgetOldest_29 (by decide) ?_
    refine lv_iadd hx hb dX3_forgetOldest_30 ?_
    refine lv_topi (fun x_30 e_30 => ?_)
    have p_30 : x_30.toInt = (i + 1) := by rw [e_30]; exact t_add q_i (show (1 : Int32).toInt = 1 from rfl) (by omega) (by omega)
    refine sl_his X w p_30 (by omega) dX3_forgetOldest_31 ?_
    rw [(inv_8.2.2.2 (i + 1).toNat (by omega)).trans (h_1.1 (i + 1).toNat (by omega)).1]
    refine ss_his X w q_i (o := (some (sp (pm (i + 1).toNat)))) (by omega) (by intro z hz; cases hz; exact ⟨_, cS_st (h_1.1 _ (by omega)).2.2⟩) dX3_forgetOldest_32 (fun H locs w => ?_)
    obtain ⟨x_33, e_33⟩ : ∃ z : Int32, z = (v_i + 1) := ⟨_, rfl⟩
    have p_33 : x_33.toInt = (i + 1) := by rw [e_33]; exact t_add q_i (show (1 : Int32).toInt = 1 from rfl) (by omega) (by omega)
    refine lv_iinc (v := x_33) (lv' := [(2, .int x_33), (1, .ref (b + sp (pm (0 : Int).toNat))), (0, .ref (b + 13))]) hx hb dX3_forgetOldest_33 hl (k := 0) rfl (by rw [e_33]; rfl) (by decide) rfl (fun ls hl => ?_)
    refine lv_goto (tgt := 8) hx hb dX3_forgetOldest_36 (by decide) ?_
    refine ih_8 ⟨x_33, (i + 1), (va_up R_L8 0 (va_up (R_L8 0) i.toNat (some (sp (pm (i + 1).toNat)))))⟩ ⟨p_33, by dsimp only; exact ⟨by omega, fun k hk => (va_up_ne _ _ hk).trans (inv_8.2.1 k hk), fun j h1 => by rw [va_up_self]; by_cases e : j = i.toNat; (rw [e, va_up_self, show (i + 1).toNat = i.toNat + 1 by omega] at *; exact (h_1.1 (i.toNat + 1) (by omega)).1.symm); (rw [va_up_ne _ _ e]; exact inv_8.2.2.1 j (by omega)), fun j h1 => by rw [va_up_self, va_up_ne _ _ (by omega)]; exact inv_8.2.2.2 j (by omega)⟩⟩ (by dsimp only; omega) _ _ w ls (lv_sub hl [0, 1, 2] rfl)
