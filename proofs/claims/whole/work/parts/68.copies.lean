set_option maxHeartbeats 2000000 in
set_option maxRecDepth 100000 in
theorem c_J7_copyOf (l : Launch) (D : va_G) (t : Nat → ClassId) (b n : Nat) (σ : qM) (k N : Nat) (f : Nat → Int32) (a_ln : Int32) (ln : Int) (e_ln : a_ln.toInt = ln) (h_1 : σ k = some (.inl (t 0, N, .inl f))) (h_2 : 0 ≤ ln ∧ ln ≤ N) (h_3 : N ≤ 14) : qAK l yJ7_copyOf_59c91 cJ7_copyOf_59c91 3 (some (.array .int)) 1 1 14 D t b n σ [.ref (b + k), .int a_ln] (fun o n1 σ1 => o = some n ∧ n1 = n + 1 ∧ ∃ f' : Nat → Int32, σ1 = va_up σ n (some (.inl (t 0, ln.toNat, .inl f'))) ∧ ∀ j : Nat, j < ln.toNat → f' j = f j) := by
  refine qAK.ofF (by decide +kernel) (Nat.le_of_ble_eq_true rfl) (fun p e s m args below meth c X hE w ls hl => ?_)
  have hx := X.1
  have hb := X.2.1
  have hl : lv_has ls 3 [(0, .ref (b + k)), (1, .int a_ln)] := hl
  have hkn : k < n := w.1.lt h_1
  refine lv_iload_n hx hb dJ7_copyOf_59c91_0 rfl (lv_at hl 1 rfl) ?_
  refine lv_aload_n hx hb dJ7_copyOf_59c91_1 rfl (lv_at hl 0 rfl) ?_
  refine q_alen X w 0 rfl (k := k) h_1 dJ7_copyOf_59c91_2 ?_
  refine lv_icmp_ne (tgt := 14) hx hb dJ7_copyOf_59c91_3 (by decide) (fun c_3 => ?_) (fun c_3 => ?_)
  · skip
    have k_3 : ¬ (ln = ((N : Nat) : Int)) := fun h => c_3 ((g_eq e_ln (ofN_t (by omega))).mpr h)
    refine lv_iload_n hx hb dJ7_copyOf_59c91_14 rfl (lv_at hl 1 rfl) ?_
    refine q_newa (atype := .int) X w ac_int rfl (fun _ h => by cases h) 0 rfl (a0 := (ln.toNat, .inl (fun _ => 0))) (N := ln.toNat) (fun _ => rfl) (fun h => by have := (g_lt e_ln (show (0 : Int32).toInt = 0 from rfl)).mp h; omega) (g_tn e_ln) (by show ln.toNat * 4 ≤ 536870912; omega) (Nat.le_of_ble_eq_true rfl) (by show 0 + ln.toNat ≤ 14; omega) dJ7_copyOf_59c91_15 (fun H w => ?_)
    refine lv_astore_n (lv' := [(2, .ref (b + n)), (0, .ref (b + k)), (1, .int a_ln)]) hx hb dJ7_copyOf_59c91_17 rfl hl (by decide) rfl (fun ls hl => ?_)
    refine lv_aload_n hx hb dJ7_copyOf_59c91_18 rfl (lv_at hl 1 rfl) ?_
    refine lv_iconst (v := 0) hx hb dJ7_copyOf_59c91_19 (by decide) ?_
    refine lv_aload_n hx hb dJ7_copyOf_59c91_20 rfl (lv_at hl 0 rfl) ?_
    refine lv_iconst (v := 0) hx hb dJ7_copyOf_59c91_21 (by decide) ?_
    refine lv_aload_n hx hb dJ7_copyOf_59c91_22 rfl (lv_at hl 1 rfl) ?_
    refine q_alen X w 0 rfl (k := k) ((va_up_ne _ _ (Nat.ne_of_lt hkn)).trans h_1) dJ7_copyOf_59c91_23 ?_
    refine lv_iload_n hx hb dJ7_copyOf_59c91_24 rfl (lv_at hl 2 rfl) ?_
    refine q_min X ml_J7_304 ⟨Nat.le_of_ble_eq_true rfl, Nat.le_of_ble_eq_true rfl⟩ ⟨Nat.le_of_ble_eq_true rfl, (by show 0 + ln.toNat + 0 ≤ 14; omega)⟩ hl.1 (Nat.le_of_ble_eq_true rfl) dJ7_copyOf_59c91_25 (fun r_25 z_25 => ?_)
    have p_25 : r_25.toInt = (if ((N : Nat) : Int) < ln then ((N : Nat) : Int) else ln) := by rw [z_25, (ofN_t (by omega)), e_ln]
    refine q_copyi X w (k0 := k) (k1 := n) ((va_up_ne _ _ (Nat.ne_of_lt hkn)).trans h_1) (va_up_self _ _ _) (sp := 0) (dp := 0) (by decide) (by decide) (fun h => by have := (g_lt p_25 (show (0 : Int32).toInt = 0 from rfl)).mp h; omega) (by rw [g_tn p_25]; show 0 + _ ≤ N; omega) (by rw [g_tn p_25]; show 0 + _ ≤ ln.toNat; omega) ⟨Nat.le_of_ble_eq_true rfl, by decide +kernel⟩ hl.1 (Nat.le_of_ble_eq_true rfl) dJ7_copyOf_59c91_28 (fun H locs w => ?_)
    rw [uu] at w
    refine lv_aload_n hx hb dJ7_copyOf_59c91_31 rfl (lv_at hl 0 rfl) ?_
    refine W.widen (k := 1) (n := 14) (Nat.le_of_ble_eq_true rfl) (by show 0 + ln.toNat ≤ 14; omega) ?_
    exact q_aret (o := some n) X w (Or.inr ⟨_, rfl⟩) rfl dJ7_copyOf_59c91_32 ⟨rfl, rfl, _, rfl, fun j hj => by unfold va_cpy; rw [if_pos ⟨Nat.zero_le _, by rw [g_tn p_25]; show j < 0 + _; omega⟩]; show f (0 + (j - 0)) = f j; congr 1; omega⟩
  · skip
    have k_3 : ln = ((N : Nat) : Int) := (g_eq e_ln (ofN_t (by omega))).mp c_3
    refine lv_aload_n hx hb dJ7_copyOf_59c91_6 rfl (lv_at hl 0 rfl) ?_
    refine q_clonei X hE w h_1 ⟨Nat.le_of_ble_eq_true rfl, Nat.le_of_ble_eq_true rfl⟩ (Nat.le_of_ble_eq_true rfl) (by show 0 + N ≤ 14; omega) hl.1 (Nat.le_of_ble_eq_true rfl) dJ7_copyOf_59c91_7 (fun H w => ?_)
    refine q_casti X w (k := n) (va_up_self _ _ _) dJ7_copyOf_59c91_10 ?_
    refine W.widen (k := 1) (n := 14) (Nat.le_of_ble_eq_true rfl) (by show 0 + N ≤ 14; omega) ?_
    exact q_aret (o := some n) X w (Or.inr ⟨_, rfl⟩) rfl dJ7_copyOf_59c91_13 ⟨rfl, rfl, f, by rw [show ln.toNat = N by omega], fun j _ => rfl⟩

set_option maxHeartbeats 2000000 in
set_option maxRecDepth 100000 in
theorem c_X4_copyOfLengths (l : Launch) (D : va_G) (t : Nat → ClassId) (b n : Nat) (σ0 : qM) (A : Nat → Int32) (B : Nat → Nat → Int32) (P : Nat → Nat → Option Nat) (h_1 : 0 ≤ (A 6).toInt ∧ (A 6).toInt ≤ 14) (hn : 41 < n) : qAK l yX4_copyOfLengths cX4_copyOfLengths 1 (some (.array .int)) 2 1 14 D t b n (cS t b σ0 A B P) [.ref (b + 3)] (fun o n1 σ1 => o = some n ∧ n1 = n + 1 ∧ ∃ f' : Nat → Int32, σ1 = cS t b (va_up σ0 n (some (.inl (t 0, (A 6).toInt.toNat, .inl f')))) A B P ∧ ∀ j : Nat, j < (A 6).toInt.toNat → f' j = B 1 j) := by
  refine qAK.of (by decide +kernel) (Nat.le_of_ble_eq_true rfl) (fun p e s m args below meth c X hE w ls hl => ?_)
  have hx := X.1
  have hb := X.2.1
  have hl : lv_has ls 1 [(0, .ref (b + 3))] := hl
  refine lv_aload_n hx hb dX4_copyOfLengths_0 rfl (lv_at hl 0 rfl) ?_
  refine kg_X4_lengths X w dX4_copyOfLengths_1 ?_
  refine lv_iconst (v := 0) hx hb dX4_copyOfLengths_4 (by decide) ?_
  refine lv_aload_n hx hb dX4_copyOfLengths_5 rfl (lv_at hl 0 rfl) ?_
  refine kg_X4_monthCount X w dX4_copyOfLengths_6 ?_
  refine lv_bipush (v := 14) hx hb dX4_copyOfLengths_9 (by decide) ?_
  refine q_min X ml_X4_55 ⟨Nat.le_of_ble_eq_true rfl, Nat.le_of_ble_eq_true rfl⟩ ⟨Nat.zero_le _, Nat.zero_le _⟩ hl.1 (Nat.le_of_ble_eq_true rfl) dX4_copyOfLengths_11 (fun r_11 z_11 => ?_)
  have p_11 : r_11.toInt = (if ((A 6).toInt) < 14 then ((A 6).toInt) else 14) := by rw [z_11, (show (14 : Int32).toInt = 14 from rfl)]
  refine q_max X ml_X4_61 ⟨Nat.le_of_ble_eq_true rfl, Nat.le_of_ble_eq_true rfl⟩ ⟨Nat.zero_le _, Nat.zero_le _⟩ hl.1 (Nat.le_of_ble_eq_true rfl) dX4_copyOfLengths_14 (fun r_14 z_14 => ?_)
  have p_14 : r_14.toInt = (if 0 < (if ((A 6).toInt) < 14 then ((A 6).toInt) else 14) then (if ((A 6).toInt) < 14 then ((A 6).toInt) else 14) else 0) := by rw [z_14, (show (0 : Int32).toInt = 0 from rfl), p_11]
  have p_14 : r_14.toInt = (A 6).toInt := p_14.trans (by split <;> split <;> omega)
  refine q_cASK X hE w (c_J7_copyOf l D t b n _ 4 14 (B 1) r_14 (A 6).toInt p_14 rfl (by omega) (by decide)) v_X4_64 rfl ⟨Nat.le_of_ble_eq_true rfl, Nat.le_of_ble_eq_true rfl⟩ rfl hl.1 (Nat.le_of_ble_eq_true rfl) dX4_copyOfLengths_17 ⟨Nat.le_of_ble_eq_true rfl, Nat.le_of_ble_eq_true rfl⟩ (fun o n1 σ1 H locs z w => ?_)
  obtain ⟨rfl, rfl, f', rfl, hf⟩ := z
  rw [cS_up hn] at w
  exact q_aret (o := some n) X w (Or.inr ⟨_, rfl⟩) rfl dX4_copyOfLengths_20 ⟨rfl, rfl, f', rfl, hf⟩

set_option maxHeartbeats 2000000 in
set_option maxRecDepth 100000 in
theorem c_X4_countLeaps (l : Launch) (D : va_G) (t : Nat → ClassId) (b n : Nat) (σ0 : qM) (A : Nat → Int32) (B : Nat → Nat → Int32) (P : Nat → Nat → Option Nat) (q : Nat → Int32) (g : Bool) (h_1 : rdC q g A B) (h_2 : okRow (rowQ q)) (h_3 : (A 15).toInt = reps (rowQ q)) (h_4 : 1 ≤ reps (rowQ q) ∧ reps (rowQ q) ≤ 1000) (hn : 41 < n) : qA l yX4_countLeaps cX4_countLeaps 3 (some (.array .int)) 1 1 1001 D t b n (cS t b σ0 A B P) [.ref (b + 3)] (fun o n1 σ1 => o = some n ∧ n1 = n + 1 ∧ ∃ fc : Nat → Int32, σ1 = cS t b (va_up σ0 n (some (.inl (t 0, (reps (rowQ q)).toNat + 1, .inl fc)))) A B P ∧ ∀ k : Int, 0 ≤ k → k ≤ reps (rowQ q) → (fc k.toNat).toInt = lcN (rowQ q) k.toNat) := by
  refine qA.of (by decide +kernel) (Nat.le_of_ble_eq_true rfl) (fun p e s m args below meth c X w ls hl => ?_)
  have hx := X.1
  have hb := X.2.1
  have hl : lv_has ls 3 [(0, .ref (b + 3))] := hl
  have hr2 : rv (rowQ q) 19 = 2 → reps (rowQ q) = rv (rowQ q) 28 := fun y => by unfold reps; rw [if_pos y]
  have hlb := lcN_bd (rowQ q)
  refine lv_iconst (v := 1) hx hb dX4_countLeaps_0 (by decide) ?_
  refine lv_aload_n hx hb dX4_countLeaps_1 rfl (lv_at hl 0 rfl) ?_
  refine kg_X4_period X w dX4_countLeaps_2 ?_
  refine lv_sipush (v := 1000) hx hb dX4_countLeaps_5 (by decide) ?_
  refine q_min X ml_X4_55 ⟨Nat.le_of_ble_eq_true rfl, Nat.le_of_ble_eq_true rfl⟩ ⟨Nat.zero_le _, Nat.zero_le _⟩ hl.1 (Nat.le_of_ble_eq_true rfl) dX4_countLeaps_8 (fun r_8 z_8 => ?_)
  have p_8 : r_8.toInt = (if ((A 15).toInt) < 1000 then ((A 15).toInt) else 1000) := by rw [z_8, (show (1000 : Int32).toInt = 1000 from rfl)]
  refine q_max X ml_X4_61 ⟨Nat.le_of_ble_eq_true rfl, Nat.le_of_ble_eq_true rfl⟩ ⟨Nat.zero_le _, Nat.zero_le _⟩ hl.1 (Nat.le_of_ble_eq_true rfl) dX4_countLeaps_11 (fun r_11 z_11 => ?_)
  have p_11 : r_11.toInt = (if 1 < (if ((A 15).toInt) < 1000 then ((A 15).toInt) else 1000) then (if ((A 15).toInt) < 1000 then ((A 15).toInt) else 1000) else 1) := by rw [z_11, (show (1 : Int32).toInt = 1 from rfl), p_8]
  have p_11 : r_11.toInt = reps (rowQ q) := p_11.trans (by split <;> split <;> omega)
  refine lv_iconst (v := 1) hx hb dX4_countLeaps_14 (by decide) ?_
  refine lv_iadd hx hb dX4_countLeaps_15 ?_
  refine lv_topi (fun x_15 e_15 => ?_)
  have p_15 : x_15.toInt = ((reps (rowQ q)) + 1) := by rw [e_15]; exact t_add p_11 (show (1 : Int32).toInt = 1 from rfl) (by omega) (by omega)
  refine q_newa (atype := .int) X w ac_int rfl (fun _ h => by cases h) 0 rfl (a0 := ((reps (rowQ q)).toNat + 1, .inl (fun _ => 0))) (N := (reps (rowQ q)).toNat + 1) (fun _ => rfl) (fun h => by have := (g_lt p_15 (show (0 : Int32).toInt = 0 from rfl)).mp h; omega) ((g_tn p_15).trans (by omega)) (by show ((reps (rowQ q)).toNat + 1) * 4 ≤ 536870912; omega) (Nat.le_of_ble_eq_true rfl) (by show 0 + ((reps (rowQ q)).toNat + 1) ≤ 1001; omega) dX4_countLeaps_16 (fun H w => ?_)
  rw [cS_up hn] at w
  refine W.widen (k := 1) (n := 1001) (Nat.le_of_ble_eq_true rfl) (by show 0 + ((reps (rowQ q)).toNat + 1) ≤ 1001; omega) ?_
  refine lv_astore_n (lv' := [(1, .ref (b + n)), (0, .ref (b + 3))]) hx hb dX4_countLeaps_18 rfl hl (by decide) rfl (fun ls hl => ?_)
  refine lv_iconst (v := 0) hx hb dX4_countLeaps_19 (by decide) ?_
  refine lv_istore_n (lv' := [(2, .int 0), (1, .ref (b + n)), (0, .ref (b + 3))]) hx hb dX4_countLeaps_20 rfl hl (by decide) rfl (fun ls hl => ?_)
  refine q_loop (α := Int32 × Int × (Nat → Int32)) (fun a => a.1.toInt = a.2.1 ∧ ((0 ≤ a.2.1 ∧ a.2.1 ≤ reps (rowQ q)) ∧ ∀ k : Int, 0 ≤ k → k ≤ a.2.1 → (a.2.2 k.toNat).toInt = lcN (rowQ q) k.toNat)) (fun a => (reps (rowQ q) - a.2.1).toNat) (fun a => ∀ (H : Heap) (locs : List Loc), qW D b (n + 1) (cS t b (va_up σ0 n (some (.inl (t 0, (reps (rowQ q)).toNat + 1, .inl a.2.2)))) A B P) s H locs → ∀ ls : Array Slot, lv_has ls 3 [(2, .int a.1), (1, .ref (b + n)), (0, .ref (b + 3))] → W p l e (qR 1 1 1001) s m args below meth c H locs 1 1001 (MQ below (qAQ D b (fun o n1 σ1 => o = some n ∧ n1 = n + 1 ∧ ∃ fc : Nat → Int32, σ1 = cS t b (va_up σ0 n (some (.inl (t 0, (reps (rowQ q)).toNat + 1, .inl fc)))) A B P ∧ ∀ k : Int, 0 ≤ k → k ≤ reps (rowQ q) → (fc k.toNat).toInt = lcN (rowQ q) k.toNat)) args s 1 1001 (fun q => b ≤ q)) (F0 m 21 ls [])) ?_ ⟨0, 0, (fun _ => (0 : Int32))⟩ ⟨(show (0 : Int32).toInt = 0 from rfl), by dsimp only; exact ⟨by omega, fun k a c => by rw [show k = 0 by omega]; rfl⟩⟩ _ _ w ls (lv_sub hl [0, 1, 2] rfl)
  rintro ⟨v_yr, yr, I_L21⟩ ⟨q_yr, inv_21⟩ ih_21 H locs w ls hl
  dsimp only at q_yr inv_21 hl w
  refine lv_iload_n hx hb dX4_countLeaps_21 rfl (lv_at hl 0 rfl) ?_
  refine lv_iconst (v := 1) hx hb dX4_countLeaps_22 (by decide) ?_
  refine lv_iadd hx hb dX4_countLeaps_23 ?_
  refine lv_topi (fun x_23 e_23 => ?_)
  have p_23 : x_23.toInt = (yr + 1) := by rw [e_23]; exact t_add q_yr (show (1 : Int32).toInt = 1 from rfl) (by omega) (by omega)
  refine lv_aload_n hx hb dX4_countLeaps_24 rfl (lv_at hl 1 rfl) ?_
  refine q_alen X w 0 rfl (k := n) ((cS_off hn).trans (va_up_self _ _ _)) dX4_countLeaps_25 ?_
  refine lv_icmp_ge (tgt := 57) hx hb dX4_countLeaps_26 (by decide) (fun c_26 => ?_) (fun c_26 => ?_)
  · skip
    have k_26 : (reps (rowQ q) + 1) ≤ (yr + 1) := (g_le ((ofN_t (by omega)).trans (by omega)) p_23).mp c_26
    refine lv_aload_n hx hb dX4_countLeaps_57 rfl (lv_at hl 1 rfl) ?_
    exact q_aret (o := some n) X w (Or.inr ⟨_, rfl⟩) rfl dX4_countLeaps_58 ⟨rfl, rfl, I_L21, rfl, fun k a c => inv_21.2 k a (by omega)⟩
  · skip
    have k_26 : ¬ ((reps (rowQ q) + 1) ≤ (yr + 1)) := fun h => c_26 ((g_le ((ofN_t (by omega)).trans (by omega)) p_23).mpr h)
    refine lv_aload_n hx hb dX4_countLeaps_29 rfl (lv_at hl 1 rfl) ?_
    refine lv_iload_n hx hb dX4_countLeaps_30 rfl (lv_at hl 0 rfl) ?_
    refine lv_iconst (v := 1) hx hb dX4_countLeaps_31 (by decide) ?_
    refine lv_iadd hx hb dX4_countLeaps_32 ?_
    refine lv_topi (fun x_32 e_32 => ?_)
    have p_32 : x_32.toInt = (yr + 1) := by rw [e_32]; exact t_add q_yr (show (1 : Int32).toInt = 1 from rfl) (by omega) (by omega)
    refine lv_aload_n hx hb dX4_countLeaps_33 rfl (lv_at hl 1 rfl) ?_
    refine lv_iload_n hx hb dX4_countLeaps_34 rfl (lv_at hl 0 rfl) ?_
    refine q_iald X w (k := n) ((cS_off hn).trans (va_up_self _ _ _)) (g_in q_yr (by omega)) dX4_countLeaps_35 ?_
    refine q_topE (y := I_L21 yr.toNat) (congrArg I_L21 (g_tn q_yr)) ?_
    refine lv_aload_n hx hb dX4_countLeaps_36 rfl (lv_at hl 2 rfl) ?_
    refine lv_iload_n hx hb dX4_countLeaps_37 rfl (lv_at hl 0 rfl) ?_
    refine q_cPV X w (c_X4_leapsBy l D t b (n + 1) _ A B P q g v_yr yr q_yr h_1 (by omega) h_2 (fun y => by rw [← hr2 y]; omega)) v_X4_73 (k := 3) rfl rfl rfl ⟨Nat.le_of_ble_eq_true rfl, Nat.le_of_ble_eq_true rfl⟩ rfl hl.1 (Nat.le_of_ble_eq_true rfl) dX4_countLeaps_38 ⟨Nat.le_of_ble_eq_true rfl, Nat.le_of_ble_eq_true rfl⟩ (fun r_38 z_38 => ?_)
    refine lv_if_eq (tgt := 48) hx hb dX4_countLeaps_41 (by decide) (fun c_41 => ?_) (fun c_41 => ?_)
    · skip
      rw [z_38] at c_41
      have k_41 := bI_f.mp c_41
      refine lv_iconst (v := 0) hx hb dX4_countLeaps_48 (by decide) ?_
      have hlb2 := hlb yr.toNat
      refine lv_iadd hx hb dX4_countLeaps_49 ?_
      refine lv_topi (fun x_49 e_49 => ?_)
      have p_49 : x_49.toInt = ((lcN (rowQ q) (yr).toNat) + 0) := by rw [e_49]; exact t_add (inv_21.2 yr (by omega) (by omega)) (show (0 : Int32).toInt = 0 from rfl) (by omega) (by omega)
      refine q_iast X w (k := n) (x := x_49) ((cS_off hn).trans (va_up_self _ _ _)) (g_in p_32 (by omega)) dX4_countLeaps_50 (fun H locs w => ?_)
      rw [cS_up hn, uu, g_tn (show x_32.toInt = (yr + 1) from p_32)] at w
      obtain ⟨x_51, e_51⟩ : ∃ z : Int32, z = (v_yr + 1) := ⟨_, rfl⟩
      have p_51 : x_51.toInt = (yr + 1) := by rw [e_51]; exact t_add q_yr (show (1 : Int32).toInt = 1 from rfl) (by omega) (by omega)
      refine lv_iinc (v := x_51) (lv' := [(2, .int x_51), (1, .ref (b + n)), (0, .ref (b + 3))]) hx hb dX4_countLeaps_51 hl (k := 0) rfl (by rw [e_51]; rfl) (by decide) rfl (fun ls hl => ?_)
      refine lv_goto (tgt := 21) hx hb dX4_countLeaps_54 (by decide) ?_
      refine ih_21 ⟨x_51, (yr + 1), (upd I_L21 (yr + 1).toNat x_49)⟩ ⟨p_51, by dsimp only; refine ⟨by omega, fun k a c => ?_⟩; rcases (show k ≤ yr ∨ k = yr + 1 by omega) with u | u; (rw [pk_un (by omega)]; exact inv_21.2 k a u); (rw [u, pk_us, p_49, show (yr + 1).toNat = yr.toNat + 1 by omega, lcN, show ((yr.toNat : Nat) : Int) = yr by omega, if_neg k_41])⟩ (by dsimp only; omega) _ _ w ls (lv_sub hl [0, 1, 2] rfl)
    · skip
      rw [z_38] at c_41
      have k_41 := bI_t.mp c_41
      refine lv_iconst (v := 1) hx hb dX4_countLeaps_44 (by decide) ?_
      refine lv_goto (tgt := 49) hx hb dX4_countLeaps_45 (by decide) ?_
      have hlb2 := hlb yr.toNat
      refine lv_iadd hx hb dX4_countLeaps_49 ?_
      refine lv_topi (fun x_49 e_49 => ?_)
      have p_49 : x_49.toInt = ((lcN (rowQ q) (yr).toNat) + 1) := by rw [e_49]; exact t_add (inv_21.2 yr (by omega) (by omega)) (show (1 : Int32).toInt = 1 from rfl) (by omega) (by omega)
      refine q_iast X w (k := n) (x := x_49) ((cS_off hn).trans (va_up_self _ _ _)) (g_in p_32 (by omega)) dX4_countLeaps_50 (fun H locs w => ?_)
      rw [cS_up hn, uu, g_tn (show x_32.toInt = (yr + 1) from p_32)] at w
      obtain ⟨x_51, e_51⟩ : ∃ z : Int32, z = (v_yr + 1) := ⟨_, rfl⟩
      have p_51 : x_51.toInt = (yr + 1) := by rw [e_51]; exact t_add q_yr (show (1 : Int32).toInt = 1 from rfl) (by omega) (by omega)
      refine lv_iinc (v := x_51) (lv' := [(2, .int x_51), (1, .ref (b + n)), (0, .ref (b + 3))]) hx hb dX4_countLeaps_51 hl (k := 0) rfl (by rw [e_51]; rfl) (by decide) rfl (fun ls hl => ?_)
      refine lv_goto (tgt := 21) hx hb dX4_countLeaps_54 (by decide) ?_
      refine ih_21 ⟨x_51, (yr + 1), (upd I_L21 (yr + 1).toNat x_49)⟩ ⟨p_51, by dsimp only; refine ⟨by omega, fun k a c => ?_⟩; rcases (show k ≤ yr ∨ k = yr + 1 by omega) with u | u; (rw [pk_un (by omega)]; exact inv_21.2 k a u); (rw [u, pk_us, p_49, show (yr + 1).toNat = yr.toNat + 1 by omega, lcN, show ((yr.toNat : Nat) : Int) = yr by omega, if_pos k_41])⟩ (by dsimp only; omega) _ _ w ls (lv_sub hl [0, 1, 2] rfl)
