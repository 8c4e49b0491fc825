set_option maxHeartbeats 2000000 in
set_option maxRecDepth 100000 in
theorem c_X7_next (l : Launch) (D : va_G) (t : Nat → ClassId) (b n : Nat) (σ0 : qM) (A : Nat → Int32) (B : Nat → Nat → Int32) (P : Nat → Nat → Option Nat) (T : Int → Int) (h_1 : T = txC A B) (h_2 : okTx A B) (h_3 : 0 ≤ (A 3).toInt ∧ (A 3).toInt ≤ (A 2).toInt) : qP l yX7_next cX7_next 2 (some .char) 0 D t b n (cS t b σ0 A B P) [.ref (b + 1)] (fun z => z.toInt = T (A 3).toInt) := by
  refine qP.of (by decide +kernel) (Nat.le_of_ble_eq_true rfl) (fun p e s m args below meth c X w ls hl => ?_)
  have hx := X.1
  have hb := X.2.1
  have hl : lv_has ls 2 [(0, .ref (b + 1))] := hl
  have hbd := txC_bd h_2 (A 3).toInt
  have hL := h_2.1
  refine lv_aload_n hx hb dX7_next_0 rfl (lv_at hl 0 rfl) ?_
  refine kg_X7_position X w dX7_next_1 ?_
  refine lv_if_lt (tgt := 34) hx hb dX7_next_4 (by decide) (fun c_4 => ?_) (fun c_4 => ?_)
  · skip
    have k_4 : ((A 3).toInt) < 0 := (g_lt rfl (show (0 : Int32).toInt = 0 from rfl)).mp c_4
    exfalso; omega
  · skip
    have k_4 : ¬ (((A 3).toInt) < 0) := fun h => c_4 ((g_lt rfl (show (0 : Int32).toInt = 0 from rfl)).mpr h)
    refine lv_aload_n hx hb dX7_next_7 rfl (lv_at hl 0 rfl) ?_
    refine kg_X7_position X w dX7_next_8 ?_
    refine lv_aload_n hx hb dX7_next_11 rfl (lv_at hl 0 rfl) ?_
    refine kg_X7_length X w dX7_next_12 ?_
    refine lv_icmp_ge (tgt := 34) hx hb dX7_next_15 (by decide) (fun c_15 => ?_) (fun c_15 => ?_)
    · skip
      have k_15 : ((A 2).toInt) ≤ ((A 3).toInt) := (g_le rfl rfl).mp c_15
      refine lv_iconst (v := 0) hx hb dX7_next_34 (by decide) ?_
      refine lv_istore_n (lv' := [(1, .int 0), (0, .ref (b + 1))]) hx hb dX7_next_35 rfl hl (by decide) rfl (fun ls hl => ?_)
      refine lv_iload_n hx hb dX7_next_36 rfl (lv_at hl 0 rfl) ?_
      refine lv_if_eq (tgt := 52) hx hb dX7_next_37 (by decide) (fun c_37 => ?_) (fun c_37 => ?_)
      · skip
        have k_37 : (0 : Int) = 0 := (g_eq (show (0 : Int32).toInt = 0 from rfl) (show (0 : Int32).toInt = 0 from rfl)).mp c_37
        refine lv_iconst (v := 0) hx hb dX7_next_52 (by decide) ?_
        exact q_pretz X w dX7_next_53 (rfl) (by rw [h_1, txC_no (fun q => by omega)]; rfl)
      · skip
        have k_37 : ¬ ((0 : Int) = 0) := fun h => c_37 ((g_eq (show (0 : Int32).toInt = 0 from rfl) (show (0 : Int32).toInt = 0 from rfl)).mpr h)
        exact absurd rfl k_37
    · skip
      have k_15 : ¬ (((A 2).toInt) ≤ ((A 3).toInt)) := fun h => c_15 ((g_le rfl rfl).mpr h)
      refine lv_aload_n hx hb dX7_next_18 rfl (lv_at hl 0 rfl) ?_
      refine kg_X7_position X w dX7_next_19 ?_
      refine lv_aload_n hx hb dX7_next_22 rfl (lv_at hl 0 rfl) ?_
      refine kg_X7_characters X w dX7_next_23 ?_
      refine kn_0 X w dX7_next_26 ?_
      refine lv_icmp_ge (tgt := 34) hx hb dX7_next_27 (by decide) (fun c_27 => ?_) (fun c_27 => ?_)
      · skip
        have k_27 : 100 ≤ ((A 3).toInt) := (g_le (show (100 : Int32).toInt = 100 from rfl) rfl).mp c_27
        exfalso; omega
      · skip
        have k_27 : ¬ (100 ≤ ((A 3).toInt)) := fun h => c_27 ((g_le (show (100 : Int32).toInt = 100 from rfl) rfl).mpr h)
        refine lv_iconst (v := 1) hx hb dX7_next_30 (by decide) ?_
        refine lv_goto (tgt := 35) hx hb dX7_next_31 (by decide) ?_
        refine lv_istore_n (lv' := [(1, .int 1), (0, .ref (b + 1))]) hx hb dX7_next_35 rfl hl (by decide) rfl (fun ls hl => ?_)
        refine lv_iload_n hx hb dX7_next_36 rfl (lv_at hl 0 rfl) ?_
        refine lv_if_eq (tgt := 52) hx hb dX7_next_37 (by decide) (fun c_37 => ?_) (fun c_37 => ?_)
        · skip
          have k_37 : (1 : Int) = 0 := (g_eq (show (1 : Int32).toInt = 1 from rfl) (show (0 : Int32).toInt = 0 from rfl)).mp c_37
          exact absurd k_37 (by decide)
        · skip
          have k_37 : ¬ ((1 : Int) = 0) := fun h => c_37 ((g_eq (show (1 : Int32).toInt = 1 from rfl) (show (0 : Int32).toInt = 0 from rfl)).mpr h)
          refine lv_aload_n hx hb dX7_next_40 rfl (lv_at hl 1 rfl) ?_
          refine kg_X7_characters X w dX7_next_41 ?_
          refine lv_aload_n hx hb dX7_next_44 rfl (lv_at hl 1 rfl) ?_
          refine kg_X7_position X w dX7_next_45 ?_
          refine kl_0 X w (g_in rfl (by omega)) dX7_next_48 ?_
          refine q_topE (y := B 0 ((A 3).toInt).toNat) (congrArg (B 0) (g_tn rfl)) ?_
          refine lv_goto (tgt := 53) hx hb dX7_next_49 (by decide) ?_
          exact q_pretz X w dX7_next_53 (nar_c (v := T (A 3).toInt) (by rw [h_1, txC_in ⟨by omega, by omega⟩]) (by rw [h_1]; exact hbd.1) (by rw [h_1]; exact hbd.2)) (by rw [h_1, txC_in ⟨by omega, by omega⟩])

set_option maxHeartbeats 2000000 in
set_option maxRecDepth 100000 in
theorem c_X7_seesDigit (l : Launch) (D : va_G) (t : Nat → ClassId) (b n : Nat) (σ0 : qM) (A : Nat → Int32) (B : Nat → Nat → Int32) (P : Nat → Nat → Option Nat) (T : Int → Int) (h_1 : T = txC A B) (h_2 : okTx A B) (h_3 : 0 ≤ (A 3).toInt ∧ (A 3).toInt ≤ (A 2).toInt) : qP l yX7_seesDigit cX7_seesDigit 2 (some .boolean) 1 D t b n (cS t b σ0 A B P) [.ref (b + 1)] (fun z => z = bI (decide (dg T (A 3).toInt))) := by
  refine qP.of (by decide +kernel) (Nat.le_of_ble_eq_true rfl) (fun p e s m args below meth c X w ls hl => ?_)
  have hx := X.1
  have hb := X.2.1
  have hl : lv_has ls 2 [(0, .ref (b + 1))] := hl
  refine lv_aload_n hx hb dX7_seesDigit_0 rfl (lv_at hl 0 rfl) ?_
  refine q_cPV X w (c_X7_next l D t b n σ0 A B P T (by first | assumption | omega) (by first | assumption | omega) (by first | assumption | omega)) v_X7_25 (k := 1) rfl rfl rfl ⟨Nat.le_of_ble_eq_true rfl, Nat.le_of_ble_eq_true rfl⟩ rfl hl.1 (Nat.le_of_ble_eq_true rfl) dX7_seesDigit_1 ⟨Nat.zero_le _, Nat.zero_le _⟩ (fun r_1 z_1 => ?_)
  refine lv_istore_n (lv' := [(1, .int r_1), (0, .ref (b + 1))]) hx hb dX7_seesDigit_4 rfl hl (by decide) rfl (fun ls hl => ?_)
  refine lv_iload_n hx hb dX7_seesDigit_5 rfl (lv_at hl 0 rfl) ?_
  refine lv_bipush (v := 48) hx hb dX7_seesDigit_6 (by decide) ?_
  refine lv_icmp_lt (tgt := 21) hx hb dX7_seesDigit_8 (by decide) (fun c_8 => ?_) (fun c_8 => ?_)
  · skip
    have k_8 : (T (A 3).toInt) < 48 := (g_lt z_1 (show (48 : Int32).toInt = 48 from rfl)).mp c_8
    refine lv_iconst (v := 0) hx hb dX7_seesDigit_21 (by decide) ?_
    exact q_pretz X w dX7_seesDigit_22 (rfl) (by exact bI_0 (by first | exact ⟨by omega, by omega⟩ | exact fun q => absurd q.1 (by omega) | exact fun q => absurd q.2 (by omega)))
  · skip
    have k_8 : ¬ ((T (A 3).toInt) < 48) := fun h => c_8 ((g_lt z_1 (show (48 : Int32).toInt = 48 from rfl)).mpr h)
    refine lv_iload_n hx hb dX7_seesDigit_11 rfl (lv_at hl 0 rfl) ?_
    refine lv_bipush (v := 57) hx hb dX7_seesDigit_12 (by decide) ?_
    refine lv_icmp_gt (tgt := 21) hx hb dX7_seesDigit_14 (by decide) (fun c_14 => ?_) (fun c_14 => ?_)
    · skip
      have k_14 : 57 < (T (A 3).toInt) := (g_lt (show (57 : Int32).toInt = 57 from rfl) z_1).mp c_14
      refine lv_iconst (v := 0) hx hb dX7_seesDigit_21 (by decide) ?_
      exact q_pretz X w dX7_seesDigit_22 (rfl) (by exact bI_0 (by first | exact ⟨by omega, by omega⟩ | exact fun q => absurd q.1 (by omega) | exact fun q => absurd q.2 (by omega)))
    · skip
      have k_14 : ¬ (57 < (T (A 3).toInt)) := fun h => c_14 ((g_lt (show (57 : Int32).toInt = 57 from rfl) z_1).mpr h)
      refine lv_iconst (v := 1) hx hb dX7_seesDigit_17 (by decide) ?_
      refine lv_goto (tgt := 22) hx hb dX7_seesDigit_18 (by decide) ?_
      exact q_pretz X w dX7_seesDigit_22 (rfl) (by exact bI_1 (by first | exact ⟨by omega, by omega⟩ | exact fun q => absurd q.1 (by omega) | exact fun q => absurd q.2 (by omega)))

set_option maxHeartbeats 2000000 in
set_option maxRecDepth 100000 in
theorem c_X7_accept (l : Launch) (D : va_G) (t : Nat → ClassId) (b n : Nat) (σ0 : qM) (A : Nat → Int32) (B : Nat → Nat → Int32) (P : Nat → Nat → Option Nat) (T : Int → Int) (a_ch : Int32) (ch : Int) (e_ch : a_ch.toInt = ch) (h_1 : T = txC A B) (h_2 : okTx A B) (h_3 : 0 ≤ (A 3).toInt ∧ (A 3).toInt ≤ (A 2).toInt) (h_4 : ch ≠ 0) : kC l yX7_accept cX7_accept 2 (some .boolean) 1 D t b n σ0 A B P [.ref (b + 1), .int a_ch] (fun z A1 B1 => B1 = B ∧ kpI [3] A A1 ∧ z = bI (decide (T (A 3).toInt = ch)) ∧ (A1 3).toInt = (if T (A 3).toInt = ch then (A 3).toInt + 1 else (A 3).toInt) ∧ (A1 3).toInt ≤ (A 2).toInt) := by
  refine qC.of (by decide +kernel) (Nat.le_of_ble_eq_true rfl) (fun p e s m args below meth c X w ls hl => ?_)
  have hx := X.1
  have hb := X.2.1
  have hl : lv_has ls 2 [(0, .ref (b + 1)), (1, .int a_ch)] := hl
  have hL := h_2.1
  refine lv_aload_n hx hb dX7_accept_0 rfl (lv_at hl 0 rfl) ?_
  refine q_cPV X w (c_X7_next l D t b n σ0 A B P T (by first | assumption | omega) (by first | assumption | omega) (by first | assumption | omega)) v_X7_25 (k := 1) rfl rfl rfl ⟨Nat.le_of_ble_eq_true rfl, Nat.le_of_ble_eq_true rfl⟩ rfl hl.1 (Nat.le_of_ble_eq_true rfl) dX7_accept_1 ⟨Nat.zero_le _, Nat.zero_le _⟩ (fun r_1 z_1 => ?_)
  refine lv_iload_n hx hb dX7_accept_4 rfl (lv_at hl 1 rfl) ?_
  refine lv_icmp_eq (tgt := 10) hx hb dX7_accept_5 (by decide) (fun c_5 => ?_) (fun c_5 => ?_)
  · skip
    have k_5 : (T (A 3).toInt) = ch := (g_eq z_1 e_ch).mp c_5
    have hlt := txC_lt (A := A) (B := B) (p := (A 3).toInt) (by rw [← h_1, k_5]; exact h_4)
    refine lv_aload_n hx hb dX7_accept_10 rfl (lv_at hl 0 rfl) ?_
    refine lv_dup hx hb dX7_accept_11 rfl ?_
    refine kg_X7_position X w dX7_accept_12 ?_
    refine lv_iconst (v := 1) hx hb dX7_accept_15 (by decide) ?_
    refine lv_iadd hx hb dX7_accept_16 ?_
    refine lv_topi (fun x_16 e_16 => ?_)
    have p_16 : x_16.toInt = (((A 3).toInt) + 1) := by rw [e_16]; exact t_add rfl (show (1 : Int32).toInt = 1 from rfl) (by omega) (by omega)
    refine kp_X7_position (v := x_16) X w dX7_accept_17 (fun H locs w => ?_)
    refine lv_iconst (v := 1) hx hb dX7_accept_20 (by decide) ?_
    exact q_cret (post := (fun z n1 σ1 => n1 = n ∧ ∃ A1 B1, σ1 = cS t b σ0 A1 B1 P ∧ B1 = B ∧ kpI [3] A A1 ∧ z = bI (decide (T (A 3).toInt = ch)) ∧ (A1 3).toInt = (if T (A 3).toInt = ch then (A 3).toInt + 1 else (A 3).toInt) ∧ (A1 3).toInt ≤ (A 2).toInt)) X w dX7_accept_21 (rfl) ⟨rfl, _, _, rfl, rfl, by exact ⟨kpI.up kpI.rf (by decide), bI_1 k_5, (by rw [if_pos k_5]; exact p_16), (by show x_16.toInt ≤ _; omega)⟩⟩
  · skip
    have k_5 : ¬ ((T (A 3).toInt) = ch) := fun h => c_5 ((g_eq z_1 e_ch).mpr h)
    refine lv_iconst (v := 0) hx hb dX7_accept_8 (by decide) ?_
    exact q_cret (post := (fun z n1 σ1 => n1 = n ∧ ∃ A1 B1, σ1 = cS t b σ0 A1 B1 P ∧ B1 = B ∧ kpI [3] A A1 ∧ z = bI (decide (T (A 3).toInt = ch)) ∧ (A1 3).toInt = (if T (A 3).toInt = ch then (A 3).toInt + 1 else (A 3).toInt) ∧ (A1 3).toInt ≤ (A 2).toInt)) X w dX7_accept_9 (rfl) ⟨rfl, _, _, rfl, rfl, by exact ⟨kpI.rf, bI_0 k_5, (by rw [if_neg k_5]), h_3.2⟩⟩

set_option maxHeartbeats 2000000 in
set_option maxRecDepth 100000 in
theorem c_X7_readNumber (l : Launch) (D : va_G) (t : Nat → ClassId) (b n : Nat) (σ0 : qM) (A : Nat → Int32) (B : Nat → Nat → Int32) (P : Nat → Nat → Option Nat) (T : Int → Int) (h_1 : T = txC A B) (h_2 : okTx A B) (h_3 : 0 ≤ (A 3).toInt ∧ (A 3).toInt ≤ (A 2).toInt) : kC l yX7_readNumber cX7_readNumber 2 (some .boolean) 2 D t b n σ0 A B P [.ref (b + 1)] (fun z A1 B1 => B1 = B ∧ kpI [3, 4] A A1 ∧ z = bI (decide (dg T (A 3).toInt)) ∧ (A1 3).toInt = (num T (A 3).toInt).2 ∧ (A1 4).toInt = (num T (A 3).toInt).1 ∧ (A1 3).toInt ≤ (A 2).toInt) := by
  refine qC.of (by decide +kernel) (Nat.le_of_ble_eq_true rfl) (fun p e s m args below meth c X w ls hl => ?_)
  have hx := X.1
  have hb := X.2.1
  have hl : lv_has ls 2 [(0, .ref (b + 1))] := hl
  have hL := h_2.1
  refine lv_aload_n hx hb dX7_readNumber_0 rfl (lv_at hl 0 rfl) ?_
  refine lv_iconst (v := 0) hx hb dX7_readNumber_1 (by decide) ?_
  refine kp_X7_number (v := 0) X w dX7_readNumber_2 (fun H locs w => ?_)
  refine lv_iconst (v := 0) hx hb dX7_readNumber_5 (by decide) ?_
  refine lv_istore_n (lv' := [(1, .int 0), (0, .ref (b + 1))]) hx hb dX7_readNumber_6 rfl hl (by decide) rfl (fun ls hl => ?_)
  have h00 : (va_up A 4 (0 : Int32) 4).toInt = 0 := rfl
  have h03 : (va_up A 4 (0 : Int32) 3).toInt = (A 3).toInt := rfl
  refine q_loop (α := Int32 × Int × (Nat → Int32)) (fun a => a.1.toInt = a.2.1 ∧ ((0 ≤ a.2.1 ∧ a.2.1 ≤ 6) ∧ kpI [3, 4] A a.2.2 ∧ numF T 6 0 (A 3).toInt = numF T (6 - a.2.1).toNat (a.2.2 4).toInt (a.2.2 3).toInt ∧ (A 3).toInt ≤ (a.2.2 3).toInt ∧ (a.2.2 3).toInt ≤ (A 2).toInt ∧ (0 ≤ (a.2.2 4).toInt ∧ (a.2.1 = 0 → (a.2.2 4).toInt = 0) ∧ (a.2.1 = 1 → (a.2.2 4).toInt ≤ 9) ∧ (a.2.1 = 2 → (a.2.2 4).toInt ≤ 99) ∧ (a.2.1 = 3 → (a.2.2 4).toInt ≤ 999) ∧ (a.2.1 = 4 → (a.2.2 4).toInt ≤ 9999) ∧ (a.2.1 = 5 → (a.2.2 4).toInt ≤ 99999) ∧ (a.2.2 4).toInt ≤ 999999) ∧ (a.2.1 = 0 ↔ ¬ (0 < a.2.1 ∧ dg T (A 3).toInt)) ∧ (a.2.1 = 0 → (a.2.2 3).toInt = (A 3).toInt))) (fun a => (6 - a.2.1).toNat) (fun a => ∀ (H : Heap) (locs : List Loc), qW D b n (cS t b σ0 a.2.2 B P) s H locs → ∀ ls : Array Slot, lv_has ls 2 [(1, .int a.1), (0, .ref (b + 1))] → W p l e (qR 2 0 0) s m args below meth c H locs 0 0 (MQ below (va_Qi (S := Nat × qM) (fun z u => (fun z n1 σ1 => n1 = n ∧ ∃ A1 B1, σ1 = cS t b σ0 A1 B1 P ∧ B1 = B ∧ kpI [3, 4] A A1 ∧ z = bI (decide (dg T (A 3).toInt)) ∧ (A1 3).toInt = (num T (A 3).toInt).2 ∧ (A1 4).toInt = (num T (A 3).toInt).1 ∧ (A1 3).toInt ≤ (A 2).toInt) z u.1 u.2) (fun u T => WB D b u.1 u.2 T.heap) (fun q => b ≤ q)) args s 0 0 (fun q => b ≤ q)) (F0 m 7 ls [])) ?_ ⟨0, 0, (va_up A 4 0)⟩ ⟨(show (0 : Int32).toInt = 0 from rfl), by dsimp only; exact ⟨by omega, kpI.up kpI.rf (by decide), (by rw [h00, h03]; rfl), by omega, by omega, by omega, by omega, by omega⟩⟩ _ _ w ls (lv_sub hl [0, 1] rfl)
  rintro ⟨v_dc, dc, I_L7⟩ ⟨q_dc, inv_7⟩ ih_7 H locs w ls hl
  dsimp only at q_dc inv_7 hl w
  have hT7 : T = txC I_L7 B := by rw [h_1]; exact (txC_cg (inv_7.2.1 2 (by decide)) rfl).symm
  have hO7 : okTx I_L7 B := h_2.cg (inv_7.2.1 2 (by decide)) rfl
  have h27 : (I_L7 2).toInt = (A 2).toInt := congrArg Int32.toInt (inv_7.2.1 2 (by decide))
  refine lv_iload_n hx hb dX7_readNumber_7 rfl (lv_at hl 0 rfl) ?_
  refine lv_bipush (v := 6) hx hb dX7_readNumber_8 (by decide) ?_
  refine lv_icmp_ge (tgt := 55) hx hb dX7_readNumber_10 (by decide) (fun c_10 => ?_) (fun c_10 => ?_)
  · skip
    have k_10 : 6 ≤ dc := (g_le (show (6 : Int32).toInt = 6 from rfl) q_dc).mp c_10
    have hz6 : numF T 6 0 (A 3).toInt = ((I_L7 4).toInt, (I_L7 3).toInt) := by rw [inv_7.2.2.1, show (6 - dc).toNat = 0 by omega]; rfl
    refine lv_iload_n hx hb dX7_readNumber_55 rfl (lv_at hl 0 rfl) ?_
    refine lv_if_le (tgt := 63) hx hb dX7_readNumber_56 (by decide) (fun c_56 => ?_) (fun c_56 => ?_)
    · skip
      have k_56 : dc ≤ 0 := (g_le q_dc (show (0 : Int32).toInt = 0 from rfl)).mp c_56
      refine lv_iconst (v := 0) hx hb dX7_readNumber_63 (by decide) ?_
      exact q_cret (post := (fun z n1 σ1 => n1 = n ∧ ∃ A1 B1, σ1 = cS t b σ0 A1 B1 P ∧ B1 = B ∧ kpI [3, 4] A A1 ∧ z = bI (decide (dg T (A 3).toInt)) ∧ (A1 3).toInt = (num T (A 3).toInt).2 ∧ (A1 4).toInt = (num T (A 3).toInt).1 ∧ (A1 3).toInt ≤ (A 2).toInt)) X w dX7_readNumber_64 (rfl) ⟨rfl, _, _, rfl, rfl, by have hz : numF T 6 0 (A 3).toInt = ((I_L7 4).toInt, (I_L7 3).toInt) := hz6; have hn : num T (A 3).toInt = ((I_L7 4).toInt, (I_L7 3).toInt) := hz; rw [hn]; exact ⟨inv_7.2.1, bI_0 (by exfalso; omega), rfl, rfl, inv_7.2.2.2.2.1⟩⟩
    · skip
      have k_56 : ¬ (dc ≤ 0) := fun h => c_56 ((g_le q_dc (show (0 : Int32).toInt = 0 from rfl)).mpr h)
      refine lv_iconst (v := 1) hx hb dX7_readNumber_59 (by decide) ?_
      refine lv_goto (tgt := 64) hx hb dX7_readNumber_60 (by decide) ?_
      exact q_cret (post := (fun z n1 σ1 => n1 = n ∧ ∃ A1 B1, σ1 = cS t b σ0 A1 B1 P ∧ B1 = B ∧ kpI [3, 4] A A1 ∧ z = bI (decide (dg T (A 3).toInt)) ∧ (A1 3).toInt = (num T (A 3).toInt).2 ∧ (A1 4).toInt = (num T (A 3).toInt).1 ∧ (A1 3).toInt ≤ (A 2).toInt)) X w dX7_readNumber_64 (rfl) ⟨rfl, _, _, rfl, rfl, by have hz : numF T 6 0 (A 3).toInt = ((I_L7 4).toInt, (I_L7 3).toInt) := hz6; have hn : num T (A 3).toInt = ((I_L7 4).toInt, (I_L7 3).toInt) := hz; rw [hn]; exact ⟨inv_7.2.1, bI_1 (by by_cases z : 0 < dc ∧ dg T (A 3).toInt; exact z.2; exact absurd (inv_7.2.2.2.2.2.2.1.mpr z) (by omega)), rfl, rfl, inv_7.2.2.2.2.1⟩⟩
  · skip
    have k_10 : ¬ (6 ≤ dc) := fun h => c_10 ((g_le (show (6 : Int32).toInt = 6 from rfl) q_dc).mpr h)
    refine lv_aload_n hx hb dX7_readNumber_13 rfl (lv_at hl 1 rfl) ?_
    refine q_cPV X w (c_X7_seesDigit l D t b n σ0 I_L7 B P T (by exact hT7) (by exact hO7) (by exact ⟨by omega, by omega⟩)) v_X7_29 (k := 1) rfl rfl rfl ⟨Nat.le_of_ble_eq_true rfl, Nat.le_of_ble_eq_true rfl⟩ rfl hl.1 (Nat.le_of_ble_eq_true rfl) dX7_readNumber_14 ⟨Nat.zero_le _, Nat.zero_le _⟩ (fun r_14 z_14 => ?_)
    refine lv_if_eq (tgt := 55) hx hb dX7_readNumber_17 (by decide) (fun c_17 => ?_) (fun c_17 => ?_)
    · skip
      rw [z_14] at c_17
      have k_17 := bI_f.mp c_17
      have hnd := numF_e (T := T) (v := (I_L7 4).toInt) (6 - dc).toNat k_17
      refine lv_iload_n hx hb dX7_readNumber_55 rfl (lv_at hl 0 rfl) ?_
      refine lv_if_le (tgt := 63) hx hb dX7_readNumber_56 (by decide) (fun c_56 => ?_) (fun c_56 => ?_)
      · skip
        have k_56 : dc ≤ 0 := (g_le q_dc (show (0 : Int32).toInt = 0 from rfl)).mp c_56
        refine lv_iconst (v := 0) hx hb dX7_readNumber_63 (by decide) ?_
        exact q_cret (post := (fun z n1 σ1 => n1 = n ∧ ∃ A1 B1, σ1 = cS t b σ0 A1 B1 P ∧ B1 = B ∧ kpI [3, 4] A A1 ∧ z = bI (decide (dg T (A 3).toInt)) ∧ (A1 3).toInt = (num T (A 3).toInt).2 ∧ (A1 4).toInt = (num T (A 3).toInt).1 ∧ (A1 3).toInt ≤ (A 2).toInt)) X w dX7_readNumber_64 (rfl) ⟨rfl, _, _, rfl, rfl, by have hz : numF T 6 0 (A 3).toInt = ((I_L7 4).toInt, (I_L7 3).toInt) := inv_7.2.2.1.trans hnd; have hn : num T (A 3).toInt = ((I_L7 4).toInt, (I_L7 3).toInt) := hz; rw [hn]; exact ⟨inv_7.2.1, bI_0 (by rw [← inv_7.2.2.2.2.2.2.2 (by omega)]; exact k_17), rfl, rfl, inv_7.2.2.2.2.1⟩⟩
      · skip
        have k_56 : ¬ (dc ≤ 0) := fun h => c_56 ((g_le q_dc (show (0 : Int32).toInt = 0 from rfl)).mpr h)
        refine lv_iconst (v := 1) hx hb dX7_readNumber_59 (by decide) ?_
        refine lv_goto (tgt := 64) hx hb dX7_readNumber_60 (by decide) ?_
        exact q_cret (post := (fun z n1 σ1 => n1 = n ∧ ∃ A1 B1, σ1 = cS t b σ0 A1 B1 P ∧ B1 = B ∧ kpI [3, 4] A A1 ∧ z = bI (decide (dg T (A 3).toInt)) ∧ (A1 3).toInt = (num T (A 3).toInt).2 ∧ (A1 4).toInt = (num T (A 3).toInt).1 ∧ (A1 3).toInt ≤ (A 2).toInt)) X w dX7_readNumber_64 (rfl) ⟨rfl, _, _, rfl, rfl, by have hz : numF T 6 0 (A 3).toInt = ((I_L7 4).toInt, (I_L7 3).toInt) := inv_7.2.2.1.trans hnd; have hn : num T (A 3).toInt = ((I_L7 4).toInt, (I_L7 3).toInt) := hz; rw [hn]; exact ⟨inv_7.2.1, bI_1 (by by_cases z : 0 < dc ∧ dg T (A 3).toInt; exact z.2; exact absurd (inv_7.2.2.2.2.2.2.1.mpr z) (by omega)), rfl, rfl, inv_7.2.2.2.2.1⟩⟩
    · skip
      rw [z_14] at c_17
      have k_17 := bI_t.mp c_17
      have hdd := k_17
      have hlt := txC_lt (A := I_L7) (B := B) (p := (I_L7 3).toInt) (by rw [← hT7]; omega)
      have hn0 := numF_s (T := T) (v := (I_L7 4).toInt) (p := (I_L7 3).toInt) (j := dc) (by omega) hdd
      have hd0 : dg T (A 3).toInt := by by_cases q : dc = 0; (rw [← inv_7.2.2.2.2.2.2.2 q]; exact hdd); (exact (by by_cases z : 0 < dc ∧ dg T (A 3).toInt; exact z.2; exact absurd (inv_7.2.2.2.2.2.2.1.mpr z) q))
      refine lv_aload_n hx hb dX7_readNumber_20 rfl (lv_at hl 1 rfl) ?_
      refine lv_aload_n hx hb dX7_readNumber_21 rfl (lv_at hl 1 rfl) ?_
      refine kg_X7_number X w dX7_readNumber_22 ?_
      refine lv_bipush (v := 10) hx hb dX7_readNumber_25 (by decide) ?_
      refine lv_imul hx hb dX7_readNumber_27 ?_
      refine lv_topi (fun x_27 e_27 => ?_)
      have p_27 : x_27.toInt = (((I_L7 4).toInt) * 10) := by rw [e_27]; exact t_mul rfl (show (10 : Int32).toInt = 10 from rfl) (by omega) (by omega)
      refine lv_aload_n hx hb dX7_readNumber_28 rfl (lv_at hl 1 rfl) ?_
      refine q_cPV X w (c_X7_next l D t b n σ0 I_L7 B P T (by exact hT7) (by exact hO7) (by exact ⟨by omega, by omega⟩)) v_X7_25 (k := 1) rfl rfl rfl ⟨Nat.le_of_ble_eq_true rfl, Nat.le_of_ble_eq_true rfl⟩ rfl hl.1 (Nat.le_of_ble_eq_true rfl) dX7_readNumber_29 ⟨Nat.zero_le _, Nat.zero_le _⟩ (fun r_29 z_29 => ?_)
      refine lv_bipush (v := 48) hx hb dX7_readNumber_32 (by decide) ?_
      refine lv_isub hx hb dX7_readNumber_34 ?_
      refine lv_topi (fun x_34 e_34 => ?_)
      have p_34 : x_34.toInt = ((T (I_L7 3).toInt) - 48) := by rw [e_34]; exact t_sub z_29 (show (48 : Int32).toInt = 48 from rfl) (by omega) (by omega)
      refine lv_iadd hx hb dX7_readNumber_35 ?_
      refine lv_topi (fun x_35 e_35 => ?_)
      have p_35 : x_35.toInt = ((((I_L7 4).toInt) * 10) + ((T (I_L7 3).toInt) - 48)) := by rw [e_35]; exact t_add p_27 p_34 (by omega) (by omega)
      refine kp_X7_number (v := x_35) X w dX7_readNumber_36 (fun H locs w => ?_)
      refine lv_aload_n hx hb dX7_readNumber_39 rfl (lv_at hl 1 rfl) ?_
      refine lv_dup hx hb dX7_readNumber_40 rfl ?_
      refine kg_X7_position X w dX7_readNumber_41 ?_
      refine lv_iconst (v := 1) hx hb dX7_readNumber_44 (by decide) ?_
      refine lv_iadd hx hb dX7_readNumber_45 ?_
      refine lv_topi (fun x_45 e_45 => ?_)
      have p_45 : x_45.toInt = (((I_L7 3).toInt) + 1) := by rw [e_45]; exact t_add (show ((va_up I_L7 4 x_35) 3).toInt = (I_L7 3).toInt from rfl) (show (1 : Int32).toInt = 1 from rfl) (by omega) (by omega)
      refine kp_X7_position (v := x_45) X w dX7_readNumber_46 (fun H locs w => ?_)
      obtain ⟨x_49, e_49⟩ : ∃ z : Int32, z = (v_dc + 1) := ⟨_, rfl⟩
      have p_49 : x_49.toInt = (dc + 1) := by rw [e_49]; exact t_add q_dc (show (1 : Int32).toInt = 1 from rfl) (by omega) (by omega)
      refine lv_iinc (v := x_49) (lv' := [(1, .int x_49), (0, .ref (b + 1))]) hx hb dX7_readNumber_49 hl (k := 0) rfl (by rw [e_49]; rfl) (by decide) rfl (fun ls hl => ?_)
      have hnx : numF T 6 0 (A 3).toInt = numF T (6 - (dc + 1)).toNat x_35.toInt x_45.toInt := by rw [inv_7.2.2.1, ← hn0, p_35, p_45]; congr 1; omega
      refine lv_goto (tgt := 7) hx hb dX7_readNumber_52 (by decide) ?_
      refine ih_7 ⟨x_49, (dc + 1), (va_up (va_up I_L7 4 x_35) 3 x_45)⟩ ⟨p_49, by dsimp only; have h4 : (va_up (va_up I_L7 4 x_35) 3 x_45 4).toInt = x_35.toInt := rfl; have h3 : (va_up (va_up I_L7 4 x_35) 3 x_45 3).toInt = x_45.toInt := rfl; exact ⟨by omega, kpI.up (kpI.up inv_7.2.1 (by decide)) (by decide), (by rw [h4, h3]; exact hnx), by omega, by omega, by omega, (by constructor; (intro q; omega); (intro q; exfalso; exact q ⟨by omega, hd0⟩)), fun q => (by exfalso; omega)⟩⟩ (by dsimp only; omega) _ _ w ls (lv_sub hl [0, 1] rfl)

set_option maxHeartbeats 2000000 in
set_option maxRecDepth 100000 in
theorem c_X7_length (l : Launch) (D : va_G) (t : Nat → ClassId) (b n : Nat) (σ0 : qM) (A : Nat → Int32) (B : Nat → Nat → Int32) (P : Nat → Nat → Option Nat) : qP l yX7_length cX7_length 1 (some .int) 0 D t b n (cS t b σ0 A B P) [.ref (b + 1)] (fun z => z = A 2) := by
  refine qP.of (by decide +kernel) (Nat.le_of_ble_eq_true rfl) (fun p e s m args below meth c X w ls hl => ?_)
  have hx := X.1
  have hb := X.2.1
  have hl : lv_has ls 1 [(0, .ref (b + 1))] := hl
  refine lv_aload_n hx hb dX7_length_0 rfl (lv_at hl 0 rfl) ?_
  refine kg_X7_length X w dX7_length_1 ?_
  exact q_pret X w dX7_length_4 (by rfl)

set_option maxHeartbeats 2000000 in
set_option maxRecDepth 100000 in
theorem c_X7_position (l : Launch) (D : va_G) (t : Nat → ClassId) (b n : Nat) (σ0 : qM) (A : Nat → Int32) (B : Nat → Nat → Int32) (P : Nat → Nat → Option Nat) : qP l yX7_position cX7_position 1 (some .int) 0 D t b n (cS t b σ0 A B P) [.ref (b + 1)] (fun z => z = A 3) := by
  refine qP.of (by decide +kernel) (Nat.le_of_ble_eq_true rfl) (fun p e s m args below meth c X w ls hl => ?_)
  have hx := X.1
  have hb := X.2.1
  have hl : lv_has ls 1 [(0, .ref (b + 1))] := hl
  refine lv_aload_n hx hb dX7_position_0 rfl (lv_at hl 0 rfl) ?_
  refine kg_X7_position X w dX7_position_1 ?_
  exact q_pret X w dX7_position_4 (by rfl)

set_option maxHeartbeats 2000000 in
set_option maxRecDepth 100000 in
theorem c_X7_number (l : Launch) (D : va_G) (t : Nat → ClassId) (b n : Nat) (σ0 : qM) (A : Nat → Int32) (B : Nat → Nat → Int32) (P : Nat → Nat → Option Nat) : qP l yX7_number cX7_number 1 (some .int) 0 D t b n (cS t b σ0 A B P) [.ref (b + 1)] (fun z => z = A 4) := by
  refine qP.of (by decide +kernel) (Nat.le_of_ble_eq_true rfl) (fun p e s m args below meth c X w ls hl => ?_)
  have hx := X.1
  have hb := X.2.1
  have hl : lv_has ls 1 [(0, .ref (b + 1))] := hl
  refine lv_aload_n hx hb dX7_number_0 rfl (lv_at hl 0 rfl) ?_
  refine kg_X7_number X w dX7_number_1 ?_
  exact q_pret X w dX7_number_4 (by rfl)

set_option maxHeartbeats 2000000 in
set_option maxRecDepth 100000 in
theorem c_X7_clear (l : Launch) (D : va_G) (t : Nat → ClassId) (b n : Nat) (σ0 : qM) (A : Nat → Int32) (B : Nat → Nat → Int32) (P : Nat → Nat → Option Nat) : kV l yX7_clear cX7_clear 1 0 D t b n σ0 A B P [.ref (b + 1)] (fun A1 B1 => B1 = B ∧ A1 = va_up A 2 0) := by
  refine qV.of (by decide +kernel) (Nat.le_of_ble_eq_true rfl) (fun p e s m args below meth c X w _ ls hl => ?_)
  have hx := X.1
  have hb := X.2.1
  have hl : lv_has ls 1 [(0, .ref (b + 1))] := hl
  refine lv_aload_n hx hb dX7_clear_0 rfl (lv_at hl 0 rfl) ?_
  refine lv_iconst (v := 0) hx hb dX7_clear_1 (by decide) ?_
  refine kp_X7_length (v := 0) X w dX7_clear_2 (fun H locs w => ?_)
  exact q_vret (post := (fun n1 σ1 => n1 = n ∧ ∃ A1 B1, σ1 = cS t b σ0 A1 B1 P ∧ B1 = B ∧ A1 = va_up A 2 0)) X w dX7_clear_5 ⟨rfl, _, _, rfl, rfl, by rfl⟩

set_option maxHeartbeats 2000000 in
set_option maxRecDepth 100000 in
theorem c_X7_rewind (l : Launch) (D : va_G) (t : Nat → ClassId) (b n : Nat) (σ0 : qM) (A : Nat → Int32) (B : Nat → Nat → Int32) (P : Nat → Nat → Option Nat) : kV l yX7_rewind cX7_rewind 1 0 D t b n σ0 A B P [.ref (b + 1)] (fun A1 B1 => B1 = B ∧ A1 = va_up A 3 0) := by
  refine qV.of (by decide +kernel) (Nat.le_of_ble_eq_true rfl) (fun p e s m args below meth c X w _ ls hl => ?_)
  have hx := X.1
  have hb := X.2.1
  have hl : lv_has ls 1 [(0, .ref (b + 1))] := hl
  refine lv_aload_n hx hb dX7_rewind_0 rfl (lv_at hl 0 rfl) ?_
  refine lv_iconst (v := 0) hx hb dX7_rewind_1 (by decide) ?_
  refine kp_X7_position (v := 0) X w dX7_rewind_2 (fun H locs w => ?_)
  exact q_vret (post := (fun n1 σ1 => n1 = n ∧ ∃ A1 B1, σ1 = cS t b σ0 A1 B1 P ∧ B1 = B ∧ A1 = va_up A 3 0)) X w dX7_rewind_5 ⟨rfl, _, _, rfl, rfl, by rfl⟩

set_option maxHeartbeats 2000000 in
set_option maxRecDepth 100000 in
theorem c_X7_isAtEnd (l : Launch) (D : va_G) (t : Nat → ClassId) (b n : Nat) (σ0 : qM) (A : Nat → Int32) (B : Nat → Nat → Int32) (P : Nat → Nat → Option Nat) : qP l yX7_isAtEnd cX7_isAtEnd 1 (some .boolean) 0 D t b n (cS t b σ0 A B P) [.ref (b + 1)] (fun z => z = bI (decide ((A 2).toInt ≤ (A 3).toInt))) := by
  refine qP.of (by decide +kernel) (Nat.le_of_ble_eq_true rfl) (fun p e s m args below meth c X w ls hl => ?_)
  have hx := X.1
  have hb := X.2.1
  have hl : lv_has ls 1 [(0, .ref (b + 1))] := hl
  refine lv_aload_n hx hb dX7_isAtEnd_0 rfl (lv_at hl 0 rfl) ?_
  refine kg_X7_position X w dX7_isAtEnd_1 ?_
  refine lv_aload_n hx hb dX7_isAtEnd_4 rfl (lv_at hl 0 rfl) ?_
  refine kg_X7_length X w dX7_isAtEnd_5 ?_
  refine lv_icmp_lt (tgt := 15) hx hb dX7_isAtEnd_8 (by decide) (fun c_8 => ?_) (fun c_8 => ?_)
  · skip
    have k_8 : ((A 3).toInt) < ((A 2).toInt) := (g_lt rfl rfl).mp c_8
    refine lv_iconst (v := 0) hx hb dX7_isAtEnd_15 (by decide) ?_
    exact q_pretz X w dX7_isAtEnd_16 (rfl) (by exact bI_0 (by omega))
  · skip
    have k_8 : ¬ (((A 3).toInt) < ((A 2).toInt)) := fun h => c_8 ((g_lt rfl rfl).mpr h)
    refine lv_iconst (v := 1) hx hb dX7_isAtEnd_11 (by decide) ?_
    refine lv_goto (tgt := 16) hx hb dX7_isAtEnd_12 (by decide) ?_
    exact q_pretz X w dX7_isAtEnd_16 (rfl) (by exact bI_1 (by omega))

set_option maxHeartbeats 2000000 in
set_option maxRecDepth 100000 in
theorem c_X7_append (l : Launch) (D : va_G) (t : Nat → ClassId) (b n : Nat) (σ0 : qM) (A : Nat → Int32) (B : Nat → Nat → Int32) (P : Nat → Nat → Option Nat) (a_ch : Int32) (ch : Int) (e_ch : a_ch.toInt = ch) (h_1 : 0 ≤ (A 2).toInt ∧ (A 2).toInt < 100) (h_2 : 33 ≤ ch ∧ ch ≤ 126) : kV l yX7_append cX7_append 2 0 D t b n σ0 A B P [.ref (b + 1), .int a_ch] (fun A1 B1 => kpI [2] A A1 ∧ (A1 2).toInt = (A 2).toInt + 1 ∧ B1 = va_up B 0 (upd (B 0) (A 2).toInt.toNat a_ch)) := by
  refine qV.of (by decide +kernel) (Nat.le_of_ble_eq_true rfl) (fun p e s m args below meth c X w _ ls hl => ?_)
  have hx := X.1
  have hb := X.2.1
  have hl : lv_has ls 2 [(0, .ref (b + 1)), (1, .int a_ch)] := hl
  refine lv_aload_n hx hb dX7_append_0 rfl (lv_at hl 0 rfl) ?_
  refine kg_X7_length X w dX7_append_1 ?_
  refine lv_if_lt (tgt := 40) hx hb dX7_append_4 (by decide) (fun c_4 => ?_) (fun c_4 => ?_)
  · skip
    have k_4 : ((A 2).toInt) < 0 := (g_lt rfl (show (0 : Int32).toInt = 0 from rfl)).mp c_4
    exfalso; omega
  · skip
    have k_4 : ¬ (((A 2).toInt) < 0) := fun h => c_4 ((g_lt rfl (show (0 : Int32).toInt = 0 from rfl)).mpr h)
    refine lv_aload_n hx hb dX7_append_7 rfl (lv_at hl 0 rfl) ?_
    refine kg_X7_length X w dX7_append_8 ?_
    refine lv_aload_n hx hb dX7_append_11 rfl (lv_at hl 0 rfl) ?_
    refine kg_X7_characters X w dX7_append_12 ?_
    refine kn_0 X w dX7_append_15 ?_
    refine lv_icmp_ge (tgt := 40) hx hb dX7_append_16 (by decide) (fun c_16 => ?_) (fun c_16 => ?_)
    · skip
      have k_16 : 100 ≤ ((A 2).toInt) := (g_le (show (100 : Int32).toInt = 100 from rfl) rfl).mp c_16
      exfalso; omega
    · skip
      have k_16 : ¬ (100 ≤ ((A 2).toInt)) := fun h => c_16 ((g_le (show (100 : Int32).toInt = 100 from rfl) rfl).mpr h)
      refine lv_aload_n hx hb dX7_append_19 rfl (lv_at hl 0 rfl) ?_
      refine kg_X7_characters X w dX7_append_20 ?_
      refine lv_aload_n hx hb dX7_append_23 rfl (lv_at hl 0 rfl) ?_
      refine kg_X7_length X w dX7_append_24 ?_
      refine lv_iload_n hx hb dX7_append_27 rfl (lv_at hl 1 rfl) ?_
      refine lv_i2c hx hb dX7_append_28 rfl ?_
      refine lv_topi (fun x_28 e_28 => ?_)
      have p_28 : x_28.toInt = ch := by rw [e_28]; rw [(ch_x e_ch (by omega) (by omega)).1]; exact e_ch
      refine ks_0 (x := x_28) X w (g_in rfl (by omega)) dX7_append_29 (fun H locs w => ?_)
      rw [g_tn rfl] at w
      refine lv_aload_n hx hb dX7_append_30 rfl (lv_at hl 0 rfl) ?_
      refine lv_dup hx hb dX7_append_31 rfl ?_
      refine kg_X7_length X w dX7_append_32 ?_
      refine lv_iconst (v := 1) hx hb dX7_append_35 (by decide) ?_
      refine lv_iadd hx hb dX7_append_36 ?_
      refine lv_topi (fun x_36 e_36 => ?_)
      have p_36 : x_36.toInt = (((A 2).toInt) + 1) := by rw [e_36]; exact t_add rfl (show (1 : Int32).toInt = 1 from rfl) (by omega) (by omega)
      refine kp_X7_length (v := x_36) X w dX7_append_37 (fun H locs w => ?_)
      exact q_vret (post := (fun n1 σ1 => n1 = n ∧ ∃ A1 B1, σ1 = cS t b σ0 A1 B1 P ∧ kpI [2] A A1 ∧ (A1 2).toInt = (A 2).toInt + 1 ∧ B1 = va_up B 0 (upd (B 0) (A 2).toInt.toNat a_ch))) X w dX7_append_40 ⟨rfl, _, _, rfl, by have hch := ch_x e_ch (by omega) (by omega); exact ⟨kpI.up kpI.rf (by decide), p_36, by rw [show x_28 = a_ch from e_28.trans hch.1, hch.2]⟩⟩
