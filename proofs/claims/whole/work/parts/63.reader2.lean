set_option maxHeartbeats 2000000 in
set_option maxRecDepth 100000 in
theorem c_X4_readMonths (l : Launch) (D : va_G) (t : Nat → ClassId) (b n : Nat) (σ0 : qM) (A : Nat → Int32) (B : Nat → Nat → Int32) (P : Nat → Nat → Option Nat) (T : Int → Int) (po : Int) (h_1 : T = txC A B) (h_2 : okTx A B) (h_3 : (A 3).toInt = po) (h_4 : 0 ≤ po ∧ po ≤ (A 2).toInt) (h_5 : rdC row0 false A B) : kC l yX4_readMonths cX4_readMonths 2 (some .boolean) 4 D t b n σ0 A B P [.ref (b + 3)] (fun z A1 B1 => kpI [3, 4, 5, 6, 7] A A1 ∧ kpR [1] B B1 ∧ z = bI (decide ((sMonths T po row0 false).1 = true)) ∧ (A1 3).toInt = (sMonths T po row0 false).2.1 ∧ ((A 3).toInt ≤ (A1 3).toInt ∧ (A1 3).toInt ≤ (A 2).toInt) ∧ ((sMonths T po row0 false).1 = true → rdC (sMonths T po row0 false).2.2.1 (sMonths T po row0 false).2.2.2 A1 B1)) := by
  refine qC.of (by decide +kernel) (Nat.le_of_ble_eq_true rfl) (fun p e s m args below meth c X w ls hl => ?_)
  have hx := X.1
  have hb := X.2.1
  have hl : lv_has ls 2 [(0, .ref (b + 3))] := hl
  refine lv_aload_n hx hb dX4_readMonths_0 rfl (lv_at hl 0 rfl) ?_
  refine kg_X4_text X w dX4_readMonths_1 ?_
  refine lv_bipush (v := 109) hx hb dX4_readMonths_4 (by decide) ?_
  refine kk_cCI X w (c_X7_accept l D t b n σ0 A B P T 109 109 (show (109 : Int32).toInt = 109 from rfl) (by exact h_1.trans (txC_cg ((kpI.rf (J := [3, 4, 5, 6, 7]) (I := A)) 2 (by decide)) ((kpR.rf (J := [1]) (R := B)) 0 (by decide))).symm) (by exact h_2.cg ((kpI.rf (J := [3, 4, 5, 6, 7]) (I := A)) 2 (by decide)) ((kpR.rf (J := [1]) (R := B)) 0 (by decide))) (by have h2 : (A 2).toInt = (A 2).toInt := (congrArg Int32.toInt ((kpI.rf (J := [3, 4, 5, 6, 7]) (I := A)) 2 (by decide))); have h3 : (A 3).toInt = po := ((congrArg Int32.toInt rfl).trans h_3); rw [h2, h3]; exact ⟨Int.le_trans h_4.1 (And.intro (Int.le_refl po) h_4.2).1, (And.intro (Int.le_refl po) h_4.2).2⟩) (by first | assumption | omega)) v_X4_114 rfl rfl rfl ⟨Nat.le_of_ble_eq_true rfl, Nat.le_of_ble_eq_true rfl⟩ rfl hl.1 (Nat.le_of_ble_eq_true rfl) dX4_readMonths_6 ⟨Nat.zero_le _, Nat.zero_le _⟩ (fun r_6 A_6 H locs z_6 w => ?_)
  have KI_6 : kpI [3, 4, 5, 6, 7] A A_6 := kpI.tr (J := [3, 4, 5, 6, 7]) (kpI.rf (J := [3, 4, 5, 6, 7]) (I := A)) z_6.1 (by decide) (by decide)
  have q_6 : (A_6 3).toInt = (if T po = 109 then po + 1 else po) := by have h : (A_6 3).toInt = (if T ((A 3).toInt) = 109 then ((A 3).toInt) + 1 else ((A 3).toInt)) := z_6.2.2.1; rw [show (A 3).toInt = po from ((congrArg Int32.toInt rfl).trans h_3)] at h; exact h
  have b_6 : r_6 = bI (decide (T po = 109)) := by have h : r_6 = bI (decide (T ((A 3).toInt) = 109)) := z_6.2.1; rw [show (A 3).toInt = po from ((congrArg Int32.toInt rfl).trans h_3)] at h; exact h
  have Q_6 : po ≤ (if T po = 109 then po + 1 else po) ∧ (if T po = 109 then po + 1 else po) ≤ (A 2).toInt := ⟨(by have h := (And.intro (Int.le_refl po) h_4.2); split <;> omega), (by rw [← q_6]; exact Int.le_trans z_6.2.2.2 (Int.le_of_eq (congrArg Int32.toInt ((kpI.rf (J := [3, 4, 5, 6, 7]) (I := A)) 2 (by decide)))))⟩
  refine lv_if_eq (tgt := 19) hx hb dX4_readMonths_9 (by decide) (fun c_9 => ?_) (fun c_9 => ?_)
  · skip
    rw [b_6] at c_9
    have k_9 := bI_f.mp c_9
    have p_6 : (A_6 3).toInt = po := q_6.trans (if_neg k_9)
    have Q_6 : po ≤ po ∧ po ≤ (A 2).toInt := by have h := Q_6; rw [show (if T po = 109 then po + 1 else po) = po from q_6.symm.trans p_6] at h; exact h
    refine lv_iconst (v := 0) hx hb dX4_readMonths_19 (by decide) ?_
    exact q_cret (post := (fun z n1 σ1 => n1 = n ∧ ∃ A1 B1, σ1 = cS t b σ0 A1 B1 P ∧ kpI [3, 4, 5, 6, 7] A A1 ∧ kpR [1] B B1 ∧ z = bI (decide ((sMonths T po row0 false).1 = true)) ∧ (A1 3).toInt = (sMonths T po row0 false).2.1 ∧ ((A 3).toInt ≤ (A1 3).toInt ∧ (A1 3).toInt ≤ (A 2).toInt) ∧ ((sMonths T po row0 false).1 = true → rdC (sMonths T po row0 false).2.2.1 (sMonths T po row0 false).2.2.2 A1 B1))) X w dX4_readMonths_20 (rfl) ⟨rfl, _, _, rfl, by have e : sMonths T po row0 false = (false, po, row0, false) := (by unfold sMonths; rw [if_neg k_9]); rw [e]; exact ⟨KI_6, (kpR.rf (J := [1]) (R := B)), rfl, ((congrArg Int32.toInt rfl).trans p_6), (by have h3 : (A_6 3).toInt = po := ((congrArg Int32.toInt rfl).trans p_6); rw [h3, h_3]; exact Q_6), fun h => absurd (show false = true from h) (by decide)⟩⟩
  · skip
    rw [b_6] at c_9
    have k_9 := bI_t.mp c_9
    have p_6 : (A_6 3).toInt = po + 1 := q_6.trans (if_pos k_9)
    have Q_6 : po ≤ po + 1 ∧ po + 1 ≤ (A 2).toInt := by have h := Q_6; rw [show (if T po = 109 then po + 1 else po) = po + 1 from q_6.symm.trans p_6] at h; exact h
    refine lv_aload_n hx hb dX4_readMonths_12 rfl (lv_at hl 0 rfl) ?_
    refine kk_cCIR X w (c_X4_readMonth l D t b n σ0 A_6 B P T (po + 1) (by exact h_1.trans (txC_cg (KI_6 2 (by decide)) ((kpR.rf (J := [1]) (R := B)) 0 (by decide))).symm) (by exact h_2.cg (KI_6 2 (by decide)) ((kpR.rf (J := [1]) (R := B)) 0 (by decide))) (by exact ((congrArg Int32.toInt rfl).trans p_6)) (by have h2 : (A_6 2).toInt = (A 2).toInt := (congrArg Int32.toInt (KI_6 2 (by decide))); rw [h2]; exact ⟨Int.le_trans h_4.1 Q_6.1, Q_6.2⟩) (by rw [z_6.1 6 (by decide), h_5.1.2]; decide) (by rw [z_6.1 7 (by decide)]; have h := h_5.2.2.1; rw [show (row0 0).toInt = 0 from rfl] at h; omega)) v_X4_118 rfl rfl rfl ⟨Nat.le_of_ble_eq_true rfl, Nat.le_of_ble_eq_true rfl⟩ rfl hl.1 (Nat.le_of_ble_eq_true rfl) dX4_readMonths_13 ⟨Nat.zero_le _, Nat.zero_le _⟩ (fun r_13 A_13 B_13 H locs z_13 w => ?_)
    have KI_13 : kpI [3, 4, 5, 6, 7] A A_13 := kpI.tr (J := [3, 4, 5, 6, 7]) KI_6 z_13.1 (by decide) (by decide)
    have KR_13 : kpR [1] B B_13 := kpR.tr (J := [1]) (kpR.rf (J := [1]) (R := B)) z_13.2.1 (by decide) (by decide)
    have q_13 : (A_13 3).toInt = (num T (po + 1)).2 := z_13.2.2.2.1
    have b_13 : r_13 = bI (decide (dg T (po + 1))) := z_13.2.2.1
    have Q_13 : po ≤ (num T (po + 1)).2 ∧ (num T (po + 1)).2 ≤ (A 2).toInt := ⟨(by have h : (A_6 3).toInt ≤ (A_13 3).toInt := z_13.2.2.2.2.1.1; have h3 : (A_6 3).toInt = po + 1 := ((congrArg Int32.toInt rfl).trans p_6); have h4 := Q_6; rw [← q_13]; omega), (by rw [← q_13]; exact Int.le_trans z_13.2.2.2.2.1.2 (Int.le_of_eq (congrArg Int32.toInt (KI_6 2 (by decide)))))⟩
    have M_13 := z_13.2.2.2.2.2
    refine lv_if_ne (tgt := 21) hx hb dX4_readMonths_16 (by decide) (fun c_16 => ?_) (fun c_16 => ?_)
    · skip
      rw [b_13] at c_16
      have k_16 := bI_t.mp c_16
      have p_13 : (A_13 3).toInt = (num T (po + 1)).2 := q_13
      skip
      have M := M_13 k_16
      have hv1 := sNumB (T := T) (po + 1)
      have hC0 := rdC_cg h_5 (kpI.wk (J := [3, 4]) z_6.1 (by decide))
      have hA6 : (A_6 6).toInt = 0 := by rw [z_6.1 6 (by decide), h_5.1.2]; rfl
      have hC1 : rdC (upd (upd row0 1 (i3 (num T (po + 1)).1)) 0 1) false A_13 B_13 := rdC_month (n := 0) (v := i3 (num T (po + 1)).1) hC0 rfl (by omega) rfl z_13.1 (by have h := M.2.2.1; rw [hA6] at h; exact h) hv1 (by rw [M.1, hA6]) (by rw [i3_t]; exact M.2.1) (by rw [i3_t]; exact M.2.2.2) rfl
      refine lv_iconst (v := 1) hx hb dX4_readMonths_21 (by decide) ?_
      refine lv_istore_n (lv' := [(1, .int 1), (0, .ref (b + 3))]) hx hb dX4_readMonths_22 rfl hl (by decide) rfl (fun ls hl => ?_)
      refine q_loop (α := Int32 × Int × (Nat → Int32) × (Nat → Int32) × (Nat → Nat → Int32)) (fun a => a.1.toInt = a.2.1 ∧ ((1 ≤ a.2.1 ∧ a.2.1 ≤ 14) ∧ kpI [3, 4, 5, 6, 7] A a.2.2.2.1 ∧ kpR [1] B a.2.2.2.2 ∧ rdC a.2.2.1 false a.2.2.2.1 a.2.2.2.2 ∧ (a.2.2.1 0).toInt = a.2.1 ∧ (∀ j : Nat, 14 < j → a.2.2.1 j = row0 j) ∧ sMonths T po row0 false = sMore T (14 - a.2.1).toNat (a.2.2.2.1 3).toInt a.2.2.1 false ∧ po ≤ (a.2.2.2.1 3).toInt ∧ (a.2.2.2.1 3).toInt ≤ (A 2).toInt)) (fun a => (14 - a.2.1).toNat) (fun a => ∀ (H : Heap) (locs : List Loc), qW D b n (cS t b σ0 a.2.2.2.1 a.2.2.2.2 P) s H locs → ∀ ls : Array Slot, lv_has ls 2 [(1, .int a.1), (0, .ref (b + 3))] → W p l e (qR 4 0 0) s m args below meth c H locs 0 0 (MQ below (va_Qi (S := Nat × qM) (fun z u => (fun z n1 σ1 => n1 = n ∧ ∃ A1 B1, σ1 = cS t b σ0 A1 B1 P ∧ kpI [3, 4, 5, 6, 7] A A1 ∧ kpR [1] B B1 ∧ z = bI (decide ((sMonths T po row0 false).1 = true)) ∧ (A1 3).toInt = (sMonths T po row0 false).2.1 ∧ ((A 3).toInt ≤ (A1 3).toInt ∧ (A1 3).toInt ≤ (A 2).toInt) ∧ ((sMonths T po row0 false).1 = true → rdC (sMonths T po row0 false).2.2.1 (sMonths T po row0 false).2.2.2 A1 B1)) z u.1 u.2) (fun u T => WB D b u.1 u.2 T.heap) (fun q => b ≤ q)) args s 0 0 (fun q => b ≤ q)) (F0 m 23 ls [])) ?_ ⟨1, 1, (upd (upd row0 1 (i3 (num T (po + 1)).1)) 0 1), A_13, B_13⟩ ⟨(show (1 : Int32).toInt = 1 from rfl), by dsimp only; exact ⟨by omega, KI_13, KR_13, hC1, rfl, (fun j hj => (upd_n _ _ (by omega)).trans (upd_n _ _ (by omega))), (by unfold sMonths; rw [if_pos k_9, if_pos k_16, q_13]; rfl), (by rw [q_13]; exact Q_13.1), (by rw [q_13]; exact Q_13.2)⟩⟩ _ _ w ls (lv_sub hl [0, 1] rfl)
      rintro ⟨v_mo, mo, q, I_L23, R_L23⟩ ⟨q_mo, inv_23⟩ ih_23 H locs w ls hl
      dsimp only at q_mo inv_23 hl w
      refine lv_iload_n hx hb dX4_readMonths_23 rfl (lv_at hl 0 rfl) ?_
      refine lv_bipush (v := 14) hx hb dX4_readMonths_24 (by decide) ?_
      refine lv_icmp_ge (tgt := 56) hx hb dX4_readMonths_26 (by decide) (fun c_26 => ?_) (fun c_26 => ?_)
      · skip
        have k_26 : 14 ≤ mo := (g_le (show (14 : Int32).toInt = 14 from rfl) q_mo).mp c_26
        refine lv_iconst (v := 1) hx hb dX4_readMonths_56 (by decide) ?_
        exact q_cret (post := (fun z n1 σ1 => n1 = n ∧ ∃ A1 B1, σ1 = cS t b σ0 A1 B1 P ∧ kpI [3, 4, 5, 6, 7] A A1 ∧ kpR [1] B B1 ∧ z = bI (decide ((sMonths T po row0 false).1 = true)) ∧ (A1 3).toInt = (sMonths T po row0 false).2.1 ∧ ((A 3).toInt ≤ (A1 3).toInt ∧ (A1 3).toInt ≤ (A 2).toInt) ∧ ((sMonths T po row0 false).1 = true → rdC (sMonths T po row0 false).2.2.1 (sMonths T po row0 false).2.2.2 A1 B1))) X w dX4_readMonths_57 (rfl) ⟨rfl, _, _, rfl, by have e : sMonths T po row0 false = (true, (I_L23 3).toInt, q, false) := inv_23.2.2.2.2.2.2.1.trans (by rw [show (14 - mo).toNat = 0 by omega]; rfl); rw [e]; exact ⟨inv_23.2.1, inv_23.2.2.1, rfl, ((congrArg Int32.toInt rfl).trans rfl), (by have h3 : (I_L23 3).toInt = (I_L23 3).toInt := ((congrArg Int32.toInt rfl).trans rfl); rw [h3, h_3]; exact (And.intro inv_23.2.2.2.2.2.2.2.1 inv_23.2.2.2.2.2.2.2.2)), fun _ => inv_23.2.2.2.1⟩⟩
      · skip
        have k_26 : ¬ (14 ≤ mo) := fun h => c_26 ((g_le (show (14 : Int32).toInt = 14 from rfl) q_mo).mpr h)
        refine lv_aload_n hx hb dX4_readMonths_29 rfl (lv_at hl 1 rfl) ?_
        refine kg_X4_text X w dX4_readMonths_30 ?_
        refine lv_bipush (v := 44) hx hb dX4_readMonths_33 (by decide) ?_
        refine kk_cCI X w (c_X7_accept l D t b n σ0 I_L23 R_L23 P T 44 44 (show (44 : Int32).toInt = 44 from rfl) (by exact h_1.trans (txC_cg (inv_23.2.1 2 (by decide)) (inv_23.2.2.1 0 (by decide))).symm) (by exact h_2.cg (inv_23.2.1 2 (by decide)) (inv_23.2.2.1 0 (by decide))) (by have h2 : (I_L23 2).toInt = (A 2).toInt := (congrArg Int32.toInt (inv_23.2.1 2 (by decide))); have h3 : (I_L23 3).toInt = (I_L23 3).toInt := ((congrArg Int32.toInt rfl).trans rfl); rw [h2, h3]; exact ⟨Int.le_trans h_4.1 (And.intro inv_23.2.2.2.2.2.2.2.1 inv_23.2.2.2.2.2.2.2.2).1, (And.intro inv_23.2.2.2.2.2.2.2.1 inv_23.2.2.2.2.2.2.2.2).2⟩) (by first | assumption | omega)) v_X4_114 rfl rfl rfl ⟨Nat.le_of_ble_eq_true rfl, Nat.le_of_ble_eq_true rfl⟩ rfl hl.1 (Nat.le_of_ble_eq_true rfl) dX4_readMonths_35 ⟨Nat.zero_le _, Nat.zero_le _⟩ (fun r_35 A_35 H locs z_35 w => ?_)
        have KI_35 : kpI [3, 4, 5, 6, 7] A A_35 := kpI.tr (J := [3, 4, 5, 6, 7]) inv_23.2.1 z_35.1 (by decide) (by decide)
        have q_35 : (A_35 3).toInt = (if T ((I_L23 3).toInt) = 44 then ((I_L23 3).toInt) + 1 else ((I_L23 3).toInt)) := by have h : (A_35 3).toInt = (if T ((I_L23 3).toInt) = 44 then ((I_L23 3).toInt) + 1 else ((I_L23 3).toInt)) := z_35.2.2.1; rw [show (I_L23 3).toInt = (I_L23 3).toInt from ((congrArg Int32.toInt rfl).trans rfl)] at h; exact h
        have b_35 : r_35 = bI (decide (T ((I_L23 3).toInt) = 44)) := by have h : r_35 = bI (decide (T ((I_L23 3).toInt) = 44)) := z_35.2.1; rw [show (I_L23 3).toInt = (I_L23 3).toInt from ((congrArg Int32.toInt rfl).trans rfl)] at h; exact h
        have Q_35 : po ≤ (if T ((I_L23 3).toInt) = 44 then ((I_L23 3).toInt) + 1 else ((I_L23 3).toInt)) ∧ (if T ((I_L23 3).toInt) = 44 then ((I_L23 3).toInt) + 1 else ((I_L23 3).toInt)) ≤ (A 2).toInt := ⟨(by have h := (And.intro inv_23.2.2.2.2.2.2.2.1 inv_23.2.2.2.2.2.2.2.2); split <;> omega), (by rw [← q_35]; exact Int.le_trans z_35.2.2.2 (Int.le_of_eq (congrArg Int32.toInt (inv_23.2.1 2 (by decide)))))⟩
        refine lv_if_eq (tgt := 56) hx hb dX4_readMonths_38 (by decide) (fun c_38 => ?_) (fun c_38 => ?_)
        · skip
          rw [b_35] at c_38
          have k_38 := bI_f.mp c_38
          have p_35 : (A_35 3).toInt = (I_L23 3).toInt := q_35.trans (if_neg k_38)
          have Q_35 : po ≤ (I_L23 3).toInt ∧ (I_L23 3).toInt ≤ (A 2).toInt := by have h := Q_35; rw [show (if T ((I_L23 3).toInt) = 44 then ((I_L23 3).toInt) + 1 else ((I_L23 3).toInt)) = (I_L23 3).toInt from q_35.symm.trans p_35] at h; exact h
          refine lv_iconst (v := 1) hx hb dX4_readMonths_56 (by decide) ?_
          exact q_cret (post := (fun z n1 σ1 => n1 = n ∧ ∃ A1 B1, σ1 = cS t b σ0 A1 B1 P ∧ kpI [3, 4, 5, 6, 7] A A1 ∧ kpR [1] B B1 ∧ z = bI (decide ((sMonths T po row0 false).1 = true)) ∧ (A1 3).toInt = (sMonths T po row0 false).2.1 ∧ ((A 3).toInt ≤ (A1 3).toInt ∧ (A1 3).toInt ≤ (A 2).toInt) ∧ ((sMonths T po row0 false).1 = true → rdC (sMonths T po row0 false).2.2.1 (sMonths T po row0 false).2.2.2 A1 B1))) X w dX4_readMonths_57 (rfl) ⟨rfl, _, _, rfl, by have e : sMonths T po row0 false = (true, (I_L23 3).toInt, q, false) := inv_23.2.2.2.2.2.2.1.trans (sMore_e _ k_38); rw [e]; exact ⟨KI_35, inv_23.2.2.1, rfl, ((congrArg Int32.toInt rfl).trans p_35), (by have h3 : (A_35 3).toInt = (I_L23 3).toInt := ((congrArg Int32.toInt rfl).trans p_35); rw [h3, h_3]; exact Q_35), fun _ => rdC_cg inv_23.2.2.2.1 (kpI.wk z_35.1 (by decide))⟩⟩
        · skip
          rw [b_35] at c_38
          have k_38 := bI_t.mp c_38
          have p_35 : (A_35 3).toInt = ((I_L23 3).toInt) + 1 := q_35.trans (if_pos k_38)
          have Q_35 : po ≤ ((I_L23 3).toInt) + 1 ∧ ((I_L23 3).toInt) + 1 ≤ (A 2).toInt := by have h := Q_35; rw [show (if T ((I_L23 3).toInt) = 44 then ((I_L23 3).toInt) + 1 else ((I_L23 3).toInt)) = ((I_L23 3).toInt) + 1 from q_35.symm.trans p_35] at h; exact h
          refine lv_aload_n hx hb dX4_readMonths_41 rfl (lv_at hl 1 rfl) ?_
          refine kk_cCIR X w (c_X4_readMonth l D t b n σ0 A_35 R_L23 P T (((I_L23 3).toInt) + 1) (by exact h_1.trans (txC_cg (KI_35 2 (by decide)) (inv_23.2.2.1 0 (by decide))).symm) (by exact h_2.cg (KI_35 2 (by decide)) (inv_23.2.2.1 0 (by decide))) (by exact ((congrArg Int32.toInt rfl).trans p_35)) (by have h2 : (A_35 2).toInt = (A 2).toInt := (congrArg Int32.toInt (KI_35 2 (by decide))); rw [h2]; exact ⟨Int.le_trans h_4.1 Q_35.1, Q_35.2⟩) (by rw [z_35.1 6 (by decide), inv_23.2.2.2.1.1.2, inv_23.2.2.2.2.1]; omega) (by rw [z_35.1 7 (by decide)]; have h := inv_23.2.2.2.1.2.2.1; rw [inv_23.2.2.2.2.1] at h; omega)) v_X4_118 rfl rfl rfl ⟨Nat.le_of_ble_eq_true rfl, Nat.le_of_ble_eq_true rfl⟩ rfl hl.1 (Nat.le_of_ble_eq_true rfl) dX4_readMonths_42 ⟨Nat.zero_le _, Nat.zero_le _⟩ (fun r_42 A_42 B_42 H locs z_42 w => ?_)
          have KI_42 : kpI [3, 4, 5, 6, 7] A A_42 := kpI.tr (J := [3, 4, 5, 6, 7]) KI_35 z_42.1 (by decide) (by decide)
          have KR_42 : kpR [1] B B_42 := kpR.tr (J := [1]) inv_23.2.2.1 z_42.2.1 (by decide) (by decide)
          have q_42 : (A_42 3).toInt = (num T (((I_L23 3).toInt) + 1)).2 := z_42.2.2.2.1
          have b_42 : r_42 = bI (decide (dg T (((I_L23 3).toInt) + 1))) := z_42.2.2.1
          have Q_42 : po ≤ (num T (((I_L23 3).toInt) + 1)).2 ∧ (num T (((I_L23 3).toInt) + 1)).2 ≤ (A 2).toInt := ⟨(by have h : (A_35 3).toInt ≤ (A_42 3).toInt := z_42.2.2.2.2.1.1; have h3 : (A_35 3).toInt = ((I_L23 3).toInt) + 1 := ((congrArg Int32.toInt rfl).trans p_35); have h4 := Q_35; rw [← q_42]; omega), (by rw [← q_42]; exact Int.le_trans z_42.2.2.2.2.1.2 (Int.le_of_eq (congrArg Int32.toInt (KI_35 2 (by decide)))))⟩
          have M_42 := z_42.2.2.2.2.2
          refine lv_if_ne (tgt := 50) hx hb dX4_readMonths_45 (by decide) (fun c_45 => ?_) (fun c_45 => ?_)
          · skip
            rw [b_42] at c_45
            have k_45 := bI_t.mp c_45
            have p_42 : (A_42 3).toInt = (num T (((I_L23 3).toInt) + 1)).2 := q_42
            skip
            have M := M_42 k_45
            have hv1 := sNumB (T := T) ((I_L23 3).toInt + 1)
            have hC0 := rdC_cg inv_23.2.2.2.1 (kpI.wk (J := [3, 4]) z_35.1 (by decide))
            have hA6 : (A_35 6).toInt = mo := by rw [z_35.1 6 (by decide), inv_23.2.2.2.1.1.2]; exact inv_23.2.2.2.2.1
            have hq0 : (q 0 + 1).toInt = mo + 1 := t_add inv_23.2.2.2.2.1 rfl (by omega) (by omega)
            have hCn : rdC (upd (upd q (1 + mo).toNat (i3 (num T ((I_L23 3).toInt + 1)).1)) 0 (q 0 + 1)) false A_42 B_42 := rdC_month (n := mo) (v := i3 (num T ((I_L23 3).toInt + 1)).1) hC0 inv_23.2.2.2.2.1 (by omega) (inv_23.2.2.2.2.2.1 16 (by decide)) z_42.1 (by have h := M.2.2.1; rw [hA6] at h; exact h) hv1 (by rw [M.1, hA6]) (by rw [i3_t]; exact M.2.1) (by rw [i3_t]; exact M.2.2.2) hq0
            obtain ⟨x_50, e_50⟩ : ∃ z : Int32, z = (v_mo + 1) := ⟨_, rfl⟩
            have p_50 : x_50.toInt = (mo + 1) := by rw [e_50]; exact t_add q_mo (show (1 : Int32).toInt = 1 from rfl) (by omega) (by omega)
            refine lv_iinc (v := x_50) (lv' := [(1, .int x_50), (0, .ref (b + 3))]) hx hb dX4_readMonths_50 hl (k := 0) rfl (by rw [e_50]; rfl) (by decide) rfl (fun ls hl => ?_)
            refine lv_goto (tgt := 23) hx hb dX4_readMonths_53 (by decide) ?_
            refine ih_23 ⟨x_50, (mo + 1), (upd (upd q (1 + mo).toNat (i3 (num T ((I_L23 3).toInt + 1)).1)) 0 (q 0 + 1)), A_42, B_42⟩ ⟨p_50, by dsimp only; exact ⟨by omega, KI_42, KR_42, hCn, hq0, (fun j hj => ((upd_n _ _ (by omega)).trans (upd_n _ _ (by omega))).trans (inv_23.2.2.2.2.2.1 j hj)), (by rw [inv_23.2.2.2.2.2.2.1, sMore_s inv_23.1.1 (by omega) k_38 k_45, q_42]), (by rw [q_42]; exact Q_42.1), (by rw [q_42]; exact Q_42.2)⟩⟩ (by dsimp only; omega) _ _ w ls (lv_sub hl [0, 1] rfl)
          · skip
            rw [b_42] at c_45
            have k_45 := bI_f.mp c_45
            have p_42 : (A_42 3).toInt = ((I_L23 3).toInt) + 1 := q_42.trans (congrArg Prod.snd (numF_e (v := 0) 6 k_45))
            have Q_42 : po ≤ ((I_L23 3).toInt) + 1 ∧ ((I_L23 3).toInt) + 1 ≤ (A 2).toInt := by have h := Q_42; rw [show (num T (((I_L23 3).toInt) + 1)).2 = ((I_L23 3).toInt) + 1 from q_42.symm.trans p_42] at h; exact h
            refine lv_iconst (v := 0) hx hb dX4_readMonths_48 (by decide) ?_
            exact q_cret (post := (fun z n1 σ1 => n1 = n ∧ ∃ A1 B1, σ1 = cS t b σ0 A1 B1 P ∧ kpI [3, 4, 5, 6, 7] A A1 ∧ kpR [1] B B1 ∧ z = bI (decide ((sMonths T po row0 false).1 = true)) ∧ (A1 3).toInt = (sMonths T po row0 false).2.1 ∧ ((A 3).toInt ≤ (A1 3).toInt ∧ (A1 3).toInt ≤ (A 2).toInt) ∧ ((sMonths T po row0 false).1 = true → rdC (sMonths T po row0 false).2.2.1 (sMonths T po row0 false).2.2.2 A1 B1))) X w dX4_readMonths_49 (rfl) ⟨rfl, _, _, rfl, by have e : sMonths T po row0 false = (false, (I_L23 3).toInt + 1, q, false) := inv_23.2.2.2.2.2.2.1.trans (sMore_f0 (by omega) k_38 k_45); rw [e]; exact ⟨KI_42, KR_42, rfl, ((congrArg Int32.toInt rfl).trans p_42), (by have h3 : (A_42 3).toInt = ((I_L23 3).toInt) + 1 := ((congrArg Int32.toInt rfl).trans p_42); rw [h3, h_3]; exact Q_42), fun h => absurd (show false = true from h) (by decide)⟩⟩
    · skip
      rw [b_13] at c_16
      have k_16 := bI_f.mp c_16
      have p_13 : (A_13 3).toInt = po + 1 := q_13.trans (congrArg Prod.snd (numF_e (v := 0) 6 k_16))
      have Q_13 : po ≤ po + 1 ∧ po + 1 ≤ (A 2).toInt := by have h := Q_13; rw [show (num T (po + 1)).2 = po + 1 from q_13.symm.trans p_13] at h; exact h
      refine lv_iconst (v := 0) hx hb dX4_readMonths_19 (by decide) ?_
      exact q_cret (post := (fun z n1 σ1 => n1 = n ∧ ∃ A1 B1, σ1 = cS t b σ0 A1 B1 P ∧ kpI [3, 4, 5, 6, 7] A A1 ∧ kpR [1] B B1 ∧ z = bI (decide ((sMonths T po row0 false).1 = true)) ∧ (A1 3).toInt = (sMonths T po row0 false).2.1 ∧ ((A 3).toInt ≤ (A1 3).toInt ∧ (A1 3).toInt ≤ (A 2).toInt) ∧ ((sMonths T po row0 false).1 = true → rdC (sMonths T po row0 false).2.2.1 (sMonths T po row0 false).2.2.2 A1 B1))) X w dX4_readMonths_20 (rfl) ⟨rfl, _, _, rfl, by have e : sMonths T po row0 false = (false, po + 1, row0, false) := (by unfold sMonths; rw [if_pos k_9, if_neg k_16]); rw [e]; exact ⟨KI_13, KR_13, rfl, ((congrArg Int32.toInt rfl).trans p_13), (by have h3 : (A_13 3).toInt = po + 1 := ((congrArg Int32.toInt rfl).trans p_13); rw [h3, h_3]; exact Q_13), fun h => absurd (show false = true from h) (by decide)⟩⟩
