/-- what is kept by the history -/
def keP (A : Nat → Int32) (P : Nat → Nat → Option Nat) (pm : Nat → Nat) (uf : Nat) (A1 : Nat → Int32) (P1 : Nat → Nat → Option Nat) : Prop := ∃ pm' : Nat → Nat, hiP pm' P1 ∧ (∀ k, k < 24 ∨ 36 ≤ k → k ≠ 19 → A1 k = A k) ∧ (∀ k, 1 ≤ k → k < 5 → P1 k = P k) ∧ (A1 19).toInt = (if (A 19).toInt < 6 then (A 19).toInt + 1 else 6) ∧ cpSt A P uf A1 P1 (pm' ((A1 19).toInt - 1).toNat) ∧ ∀ j : Nat, (j : Int) + 1 < (A1 19).toInt → cpSt A P (pm (if (A 19).toInt < 6 then j else j + 1)) A1 P1 (pm' j)
theorem cp_19 {A A1 : Nat → Int32} {P P1 : Nat → Nat → Option Nat} {u v : Nat} {x : Int32} (h : cpSt A P u A1 P1 v) : cpSt A P u (va_up A1 19 x) P1 v :=
  ⟨(va_up_ne _ _ (by omega)).trans h.1, (va_up_ne _ _ (by omega)).trans h.2.1, h.2.2.1, h.2.2.2⟩
theorem keep_a {A A1 : Nat → Int32} {P P1 : Nat → Nat → Option Nat} {pm : Nat → Nat} {uf : Nat} {v : Int32} (hi : hiP pm P) (h0 : 0 ≤ (A 19).toInt ∧ (A 19).toInt < 6) (hu : uf < 2) (k : keSt A P (pm (A 19).toInt.toNat) A1 P1) (k2 : cpSt A P uf A1 P1 (pm (A 19).toInt.toNat)) (hv : v.toInt = (A 19).toInt + 1) : keP A P pm uf (va_up A1 19 v) P1 := by
  have hp := hi.1 (A 19).toInt.toNat (by omega)
  refine ⟨pm, ⟨fun j hj => ?_, hi.2⟩, fun q h1 h2 => (va_up_ne _ _ h2).trans (k.1 q (by omega) (by omega)), fun q h1 h2 => k.2 q (by omega) (by omega), ?_, ?_, fun j hj => ?_⟩
  · rw [k.2 0 (by omega) (by omega)]
    exact hi.1 j hj
  · rw [va_up_self, if_pos h0.2]
    exact hv
  · rw [va_up_self, show (v.toInt - 1).toNat = (A 19).toInt.toNat by omega]
    exact cp_19 k2
  · rw [va_up_self] at hj
    rw [if_pos h0.2]
    refine cp_19 (cpSt.ke k fun e => ?_)
    have := hi.2 _ _ (by omega) (by omega) e
    omega
theorem keep_b {A A13 A1 : Nat → Int32} {P P13 P1 : Nat → Nat → Option Nat} {pm : Nat → Nat} {uf : Nat} (h2 : 0 ≤ (A 19).toInt ∧ (A 19).toInt ≤ 6) (h6 : (A 19).toInt = 6) (z : ((∀ k, k ≠ 19 → A13 k = A k) ∧ (A13 19).toInt = 5) ∧ (∀ k, k ≠ 0 → P13 k = P k) ∧ hiP (fun j => if j < 5 then pm (j + 1) else pm 0) P13) (hu : uf < 2) (k : keP A13 P13 (fun j => if j < 5 then pm (j + 1) else pm 0) uf A1 P1) : keP A P pm uf A1 P1 := by
  obtain ⟨pm', k1, k2, k3, k4, k5, k6⟩ := k
  have hc : ∀ u v : Nat, cpSt A13 P13 u A1 P1 v → cpSt A P u A1 P1 v := fun u v h => by
    have e1 : A13 (20 + 2 * u) = A (20 + 2 * u) := z.1.1 _ (by omega)
    have e2 : A13 (21 + 2 * u) = A (21 + 2 * u) := z.1.1 _ (by omega)
    have e3 : P13 (1 + 2 * u) = P (1 + 2 * u) := z.2.1 _ (by omega)
    have e4 : P13 (2 + 2 * u) = P (2 + 2 * u) := z.2.1 _ (by omega)
    unfold cpSt at h ⊢
    rw [e1, e2, e3, e4] at h
    exact h
  rw [if_pos (by omega), z.1.2] at k4
  have k7 : (A1 19).toInt = 6 := k4
  refine ⟨pm', k1, fun q h1 h2 => (k2 q h1 h2).trans (z.1.1 q h2), fun q h1 h2 => (k3 q h1 h2).trans (z.2.1 q (by omega)), by rw [if_neg (by omega)]; exact k7, hc _ _ k5, fun j hj => ?_⟩
  have := k6 j hj
  rw [if_pos (by omega)] at this
  rw [if_neg (by omega)]
  have hj5 : j < 5 := by omega
  simp only [if_pos hj5] at this
  exact hc _ _ this

set_option maxHeartbeats 2000000 in
set_option maxRecDepth 100000 in
theorem c_X3_keep (l : Launch) (D : va_G) (t : Nat → ClassId) (b n : Nat) (σ0 : qM) (A : Nat → Int32) (B : Nat → Nat → Int32) (P : Nat → Nat → Option Nat) (pm : Nat → Nat) (h_1 : hiP pm P) (h_2 : 0 ≤ (A 19).toInt ∧ (A 19).toInt ≤ 6) (uf : Nat) (h_5 : uf < 2) (h_4 : okSt σ0 A P uf) : kU l yX3_keep cX3_keep 3 2 D t b n σ0 A B P [.ref (b + 13), .ref (b + sp uf)] (fun A1 P1 => keP A P pm uf A1 P1) := by
  refine qV.of (by decide +kernel) (Nat.le_of_ble_eq_true rfl) (fun p e s m args below meth c X w _ ls hl => ?_)
  have hx := X.1
  have hb := X.2.1
  have hl : lv_has ls 3 [(0, .ref (b + 13)), (1, .ref (b + sp uf))] := hl
  refine lv_aload_n hx hb dX3_keep_0 rfl (lv_at hl 0 rfl) ?_
  refine kg_X3_count X w dX3_keep_1 ?_
  refine lv_aload_n hx hb dX3_keep_4 rfl (lv_at hl 0 rfl) ?_
  refine kg_X3_states X w dX3_keep_5 ?_
  refine sn_his X w dX3_keep_8 ?_
  refine lv_icmp_lt (tgt := 16) hx hb dX3_keep_9 (by decide) (fun c_9 => ?_) (fun c_9 => ?_)
  · skip
    have k_9 : ((A 19).toInt) < 6 := (g_lt rfl (show (6 : Int32).toInt = 6 from rfl)).mp c_9
    refine lv_aload_n hx hb dX3_keep_16 rfl (lv_at hl 0 rfl) ?_
    refine lv_aload_n hx hb dX3_keep_17 rfl (lv_at hl 0 rfl) ?_
    refine kg_X3_count X w dX3_keep_18 ?_
    refine kk_cA X w (c_X3_stateAt l D t b n σ0 A B P pm h_1 (A 19) ((A 19).toInt) rfl (by omega)) v_X3_25 (rc := 13) rfl rfl rfl ⟨Nat.le_of_ble_eq_true rfl, Nat.le_of_ble_eq_true rfl⟩ rfl hl.1 (Nat.le_of_ble_eq_true rfl) dX3_keep_21 ⟨Nat.le_of_ble_eq_true rfl, Nat.le_of_ble_eq_true rfl⟩ (fun H locs w => ?_)
    refine lv_astore_n (lv' := [(2, .ref (b + sp (pm ((A 19).toInt).toNat))), (0, .ref (b + 13)), (1, .ref (b + sp uf))]) hx hb dX3_keep_24 rfl hl (by decide) rfl (fun ls hl => ?_)
    refine lv_aload_n hx hb dX3_keep_25 rfl (lv_at hl 0 rfl) ?_
    refine lv_ifnull hx hb dX3_keep_26 ?_
    refine lv_aload_n hx hb dX3_keep_29 rfl (lv_at hl 0 rfl) ?_
    refine lv_aload_n hx hb dX3_keep_30 rfl (lv_at hl 2 rfl) ?_
    have hc19 : 0 ≤ (A 19).toInt ∧ (A 19).toInt < 6 := by omega
    have hos := h_4
    have hpm := h_1.1 (A 19).toInt.toNat (by omega)
    refine kk_cU X w (c_X6_copyFrom l D t b n σ0 A B P (pm (A 19).toInt.toNat) hpm.2.2 uf (by omega) (by have := hpm.2.1; omega) hos) v_X3_29 (rc := sp (pm (A 19).toInt.toNat)) (cS_st hpm.2.2) rfl rfl ⟨Nat.le_of_ble_eq_true rfl, Nat.le_of_ble_eq_true rfl⟩ rfl hl.1 (Nat.le_of_ble_eq_true rfl) dX3_keep_31 ⟨Nat.le_of_ble_eq_true rfl, Nat.le_of_ble_eq_true rfl⟩ (fun A_31 P_31 H locs z_31 w => ?_)
    have h19 : (A_31 19).toInt = (A 19).toInt := congrArg Int32.toInt (z_31.1.1 19 (by omega) (by omega))
    refine lv_aload_n hx hb dX3_keep_34 rfl (lv_at hl 1 rfl) ?_
    refine lv_dup hx hb dX3_keep_35 rfl ?_
    refine kg_X3_count X w dX3_keep_36 ?_
    refine lv_iconst (v := 1) hx hb dX3_keep_39 (by decide) ?_
    refine lv_iadd hx hb dX3_keep_40 ?_
    refine lv_topi (fun x_40 e_40 => ?_)
    have p_40 : x_40.toInt = (((A 19).toInt) + 1) := by rw [e_40]; exact t_add h19 (show (1 : Int32).toInt = 1 from rfl) (by omega) (by omega)
    refine kp_X3_count (v := x_40) X w dX3_keep_41 (fun H locs w => ?_)
    exact q_vret (post := fun n1 σ1 => n1 = n ∧ ∃ A1 P1, σ1 = cS t b σ0 A1 B P1 ∧ (keP A P pm uf A1 P1)) X w dX3_keep_44 ⟨rfl, _, _, rfl, by exact keep_a h_1 hc19 h_5 z_31.1 z_31.2 p_40⟩
  · skip
    have k_9 : ¬ (((A 19).toInt) < 6) := fun h => c_9 ((g_lt rfl (show (6 : Int32).toInt = 6 from rfl)).mpr h)
    refine lv_aload_n hx hb dX3_keep_12 rfl (lv_at hl 0 rfl) ?_
    refine kk_cU X w (c_X3_forgetOldest l D t b n σ0 A B P pm h_1) v_X3_22 (rc := 13) rfl rfl rfl ⟨Nat.le_of_ble_eq_true rfl, Nat.le_of_ble_eq_true rfl⟩ rfl hl.1 (Nat.le_of_ble_eq_true rfl) dX3_keep_13 ⟨Nat.le_of_ble_eq_true rfl, Nat.le_of_ble_eq_true rfl⟩ (fun A_13 P_13 H locs z_13 w => ?_)
    have hc19 : 0 ≤ (A_13 19).toInt ∧ (A_13 19).toInt < 6 := by omega
    have hos := h_4.cp (A1 := A_13) (P1 := P_13) (v := uf) ⟨z_13.1.1 _ (by omega), z_13.1.1 _ (by omega), fun j _ => by rw [z_13.2.1 _ (by omega)], fun j _ => by rw [z_13.2.1 _ (by omega)]⟩
    refine lv_aload_n hx hb dX3_keep_16 rfl (lv_at hl 0 rfl) ?_
    refine lv_aload_n hx hb dX3_keep_17 rfl (lv_at hl 0 rfl) ?_
    refine kg_X3_count X w dX3_keep_18 ?_
    refine kk_cA X w (c_X3_stateAt l D t b n σ0 A_13 B P_13 (fun j => if j < 5 then pm (j + 1) else pm 0) z_13.2.2 (A_13 19) ((A_13 19).toInt) rfl (by omega)) v_X3_25 (rc := 13) rfl rfl rfl ⟨Nat.le_of_ble_eq_true rfl, Nat.le_of_ble_eq_true rfl⟩ rfl hl.1 (Nat.le_of_ble_eq_true rfl) dX3_keep_21 ⟨Nat.le_of_ble_eq_true rfl, Nat.le_of_ble_eq_true rfl⟩ (fun H locs w => ?_)
    refine lv_astore_n (lv' := [(2, .ref (b + sp ((fun j => if j < 5 then pm (j + 1) else pm 0) ((A_13 19).toInt).toNat))), (0, .ref (b + 13)), (1, .ref (b + sp uf))]) hx hb dX3_keep_24 rfl hl (by decide) rfl (fun ls hl => ?_)
    refine lv_aload_n hx hb dX3_keep_25 rfl (lv_at hl 0 rfl) ?_
    refine lv_ifnull hx hb dX3_keep_26 ?_
    refine lv_aload_n hx hb dX3_keep_29 rfl (lv_at hl 0 rfl) ?_
    refine lv_aload_n hx hb dX3_keep_30 rfl (lv_at hl 2 rfl) ?_
    have hpm := z_13.2.2.1 (A_13 19).toInt.toNat (by omega)
    refine kk_cU X w (c_X6_copyFrom l D t b n σ0 A_13 B P_13 ((fun j => if j < 5 then pm (j + 1) else pm 0) (A_13 19).toInt.toNat) hpm.2.2 uf (by omega) (by have := hpm.2.1; omega) hos) v_X3_29 (rc := sp ((fun j => if j < 5 then pm (j + 1) else pm 0) (A_13 19).toInt.toNat)) (cS_st hpm.2.2) rfl rfl ⟨Nat.le_of_ble_eq_true rfl, Nat.le_of_ble_eq_true rfl⟩ rfl hl.1 (Nat.le_of_ble_eq_true rfl) dX3_keep_31 ⟨Nat.le_of_ble_eq_true rfl, Nat.le_of_ble_eq_true rfl⟩ (fun A_31 P_31 H locs z_31 w => ?_)
    have h19 : (A_31 19).toInt = (A_13 19).toInt := congrArg Int32.toInt (z_31.1.1 19 (by omega) (by omega))
    refine lv_aload_n hx hb dX3_keep_34 rfl (lv_at hl 1 rfl) ?_
    refine lv_dup hx hb dX3_keep_35 rfl ?_
    refine kg_X3_count X w dX3_keep_36 ?_
    refine lv_iconst (v := 1) hx hb dX3_keep_39 (by decide) ?_
    refine lv_iadd hx hb dX3_keep_40 ?_
    refine lv_topi (fun x_40 e_40 => ?_)
    have p_40 : x_40.toInt = (((A_13 19).toInt) + 1) := by rw [e_40]; exact t_add h19 (show (1 : Int32).toInt = 1 from rfl) (by omega) (by omega)
    refine kp_X3_count (v := x_40) X w dX3_keep_41 (fun H locs w => ?_)
    exact q_vret (post := fun n1 σ1 => n1 = n ∧ ∃ A1 P1, σ1 = cS t b σ0 A1 B P1 ∧ (keP A P pm uf A1 P1)) X w dX3_keep_44 ⟨rfl, _, _, rfl, by exact keep_b h_2 (by omega) z_13 h_5 (keep_a z_13.2.2 hc19 h_5 z_31.1 z_31.2 p_40)⟩

set_option maxHeartbeats 2000000 in
set_option maxRecDepth 100000 in
theorem c_X3_takeBack (l : Launch) (D : va_G) (t : Nat → ClassId) (b n : Nat) (σ0 : qM) (A : Nat → Int32) (B : Nat → Nat → Int32) (P : Nat → Nat → Option Nat) (pm : Nat → Nat) (h_1 : hiP pm P) (h_2 : 1 ≤ (A 19).toInt ∧ (A 19).toInt ≤ 6) (u : Nat) (h_5 : u < 2) (h_4 : okSt σ0 A P (pm ((A 19).toInt - 1).toNat)) : kU l yX3_takeBack cX3_takeBack 3 2 D t b n σ0 A B P [.ref (b + 13), .ref (b + sp u)] (fun A1 P1 => (∀ k, k ≠ 19 → k ≠ 20 + 2 * u → k ≠ 21 + 2 * u → A1 k = A k) ∧ (∀ k, k ≠ 1 + 2 * u → k ≠ 2 + 2 * u → P1 k = P k) ∧ (A1 19).toInt = (A 19).toInt - 1 ∧ cpSt A P (pm ((A 19).toInt - 1).toNat) A1 P1 u) := by
  refine qV.of (by decide +kernel) (Nat.le_of_ble_eq_true rfl) (fun p e s m args below meth c X w _ ls hl => ?_)
  have hx := X.1
  have hb := X.2.1
  have hl : lv_has ls 3 [(0, .ref (b + 13)), (1, .ref (b + sp u))] := hl
  refine lv_aload_n hx hb dX3_takeBack_0 rfl (lv_at hl 0 rfl) ?_
  refine lv_aload_n hx hb dX3_takeBack_1 rfl (lv_at hl 0 rfl) ?_
  refine kg_X3_count X w dX3_takeBack_2 ?_
  refine lv_iconst (v := 1) hx hb dX3_takeBack_5 (by decide) ?_
  refine lv_isub hx hb dX3_takeBack_6 ?_
  refine lv_topi (fun x_6 e_6 => ?_)
  have p_6 : x_6.toInt = (((A 19).toInt) - 1) := by rw [e_6]; exact t_sub rfl (show (1 : Int32).toInt = 1 from rfl) (by omega) (by omega)
  refine kk_cA X w (c_X3_stateAt l D t b n σ0 A B P pm h_1 x_6 (((A 19).toInt) - 1) p_6 (by omega)) v_X3_25 (rc := 13) rfl rfl rfl ⟨Nat.le_of_ble_eq_true rfl, Nat.le_of_ble_eq_true rfl⟩ rfl hl.1 (Nat.le_of_ble_eq_true rfl) dX3_takeBack_7 ⟨Nat.le_of_ble_eq_true rfl, Nat.le_of_ble_eq_true rfl⟩ (fun H locs w => ?_)
  refine lv_astore_n (lv' := [(2, .ref (b + sp (pm (((A 19).toInt) - 1).toNat))), (0, .ref (b + 13)), (1, .ref (b + sp u))]) hx hb dX3_takeBack_10 rfl hl (by decide) rfl (fun ls hl => ?_)
  refine lv_aload_n hx hb dX3_takeBack_11 rfl (lv_at hl 0 rfl) ?_
  refine lv_ifnull hx hb dX3_takeBack_12 ?_
  refine lv_aload_n hx hb dX3_takeBack_15 rfl (lv_at hl 2 rfl) ?_
  refine lv_aload_n hx hb dX3_takeBack_16 rfl (lv_at hl 0 rfl) ?_
  have hpm := h_1.1 ((A 19).toInt - 1).toNat (by omega)
  refine kk_cU X w (c_X6_copyFrom l D t b n σ0 A B P u (by omega) (pm ((A 19).toInt - 1).toNat) hpm.2.2 (by have := hpm.2.1; omega) h_4) v_X3_29 (rc := sp u) (cS_st (by omega)) rfl rfl ⟨Nat.le_of_ble_eq_true rfl, Nat.le_of_ble_eq_true rfl⟩ rfl hl.1 (Nat.le_of_ble_eq_true rfl) dX3_takeBack_17 ⟨Nat.le_of_ble_eq_true rfl, Nat.le_of_ble_eq_true rfl⟩ (fun A_17 P_17 H locs z_17 w => ?_)
  have h19 : (A_17 19).toInt = (A 19).toInt := congrArg Int32.toInt (z_17.1.1 19 (by omega) (by omega))
  refine lv_aload_n hx hb dX3_takeBack_20 rfl (lv_at hl 1 rfl) ?_
  refine lv_dup hx hb dX3_takeBack_21 rfl ?_
  refine kg_X3_count X w dX3_takeBack_22 ?_
  refine lv_iconst (v := 1) hx hb dX3_takeBack_25 (by decide) ?_
  refine lv_isub hx hb dX3_takeBack_26 ?_
  refine lv_topi (fun x_26 e_26 => ?_)
  have p_26 : x_26.toInt = (((A 19).toInt) - 1) := by rw [e_26]; exact t_sub h19 (show (1 : Int32).toInt = 1 from rfl) (by omega) (by omega)
  refine kp_X3_count (v := x_26) X w dX3_takeBack_27 (fun H locs w => ?_)
  exact q_vret (post := fun n1 σ1 => n1 = n ∧ ∃ A1 P1, σ1 = cS t b σ0 A1 B P1 ∧ ((∀ k, k ≠ 19 → k ≠ 20 + 2 * u → k ≠ 21 + 2 * u → A1 k = A k) ∧ (∀ k, k ≠ 1 + 2 * u → k ≠ 2 + 2 * u → P1 k = P k) ∧ (A1 19).toInt = (A 19).toInt - 1 ∧ cpSt A P (pm ((A 19).toInt - 1).toNat) A1 P1 u)) X w dX3_takeBack_30 ⟨rfl, _, _, rfl, by exact ⟨fun k a1 a2 a3 => (va_up_ne _ _ a1).trans (z_17.1.1 k a2 a3), z_17.1.2, p_26, cp_19 z_17.2⟩⟩
