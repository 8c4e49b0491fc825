set_option maxHeartbeats 2000000 in
set_option maxRecDepth 100000 in
theorem c_X4_readMonths (l : Launch) (D : va_G) (t : Nat → ClassId) (b n : Nat) (σ0 : qM) (A : Nat → Int32) (B : Nat → Nat → Int32) (P : Nat → Nat → Option Nat) (T : Int → Int) (po : Int) (h_1 : T = txC A B) (h_2 : okTx A B) (h_3 : (A 3).toInt = po) (h_4 : 0 ≤ po ∧ po ≤ (A 2).toInt) (h_5 : rdC row0 false A B) : kC l yX4_readMonths cX4_readMonths 2 (some .boolean) 4 D t b n σ0 A B P [.ref (b + 3)] (fun z A1 B1 => kpI [3, 4, 5, 6, 7] A A1 ∧ kpR [1] B B1 ∧ z = bI (decide ((sMonths T po row0 false).1 = true)) ∧ (A1 3).toInt = (sMonths T po row0 false).2.1 ∧ ((A 3).toInt ≤ (A1 3).toInt ∧ (A1 3).toInt ≤ (A 2).toInt) ∧ ((sMonths T po row0 false).1 = true → rdC (sMonths T po row0 false).2.2.1 (sMonths T po row0 false).2.2.2 A1 B1)) := by
  refine qC.of (by decide +kernel) (Nat.le_of_ble_eq_true rfl) (fun p e s m args below meth c X w ls hl => ?_)
  have hx := X.1
  have hb := X.2.1
  have hl : lv_has ls 2 [(0, .ref (b + 3))] := hl
  refine lv_aload_n hx hb dX4_readMonths_0 rfl (lv_at hl 0 rfl) ?_
  refine kg_X4_text X w dX4_readMonths_1 ?_
  refine lv_bipush (v := 109) hx hb dX4_readMonths_4 (by decide) ?_
  refine kk_cCI X w (c_X7_accept l D t b n σ0 A B P T 109 109 (show (109 : Int32).toInt = 109 from rfl) (by exact h_1.trans (txC_cg ((kpI.rf (J := [3, 4, 5, 6, 7]) (I := A)) 2 (by decide)) ((kpR.rf (J := [1]) (R := B)) 0 (by decide))).symm) (by exact h_2.cg ((kpI.rf (J := [3, 4, 5, 6, 7]) (I := A)) 2 (by decide)) ((kpR.rf (J := [1]) (R := B)) 0 (by decide))) (by have h2 : (A 2).toInt = (A 2).toInt := (congrArg Int32.toInt ((kpI.rf (J := [3, 4, 5, 6, 7]) (I := A)) 2 (by decide))); have h3 : (A 3).toInt = po := ((congrArg Int32.toInt rfl).trans h_3); rw [h2, h3]; exact ⟨Int.le_trans h_4.1 (And.intro (Int.le_refl po) h_4.2).1, (And.intro (Int.le_refl po) h_4.2).2⟩) (by first | assumption | omega)) v_X4_114 rfl rfl rfl ⟨Nat.le_of_ble_eq_true rfl, Nat.le_of_ble_eq_true rfl⟩ rfl hl.1 (Nat.le_of_ble_eq_true rfl) dX4_readMonths_6 ⟨Nat.zero_le _, Nat.zero_le _⟩ (fun r_6 A_6 H locs z_6 w => ?_)
  have KI_6 : kpI [3, 4, 5, 6, 7] A A_6 := kpI.tr (J := [3, 4, 5, 6, 7]) (kpI.rf (J := [3, 4, 5, 6, 7]) (I := A)) z_6.1 (by decide) (by decide)
  have q_6 : (A_6 3).toInt = (if T po = 109 then po + 1 else po) := by have h : (A_6 3).toInt = (if T ((A 3).toInt) = 109 then ((A 3).toInt) + 1 else ((A 3).toInt)) := z_6.2.2.1; rw [show (A 3).toInt = po from ((congrArg Int32.toInt rfl).trans h_3)] at h; exact h
  have b_6 : r_6 = bI (decide (T po = 109)) := by have h : r_6 = bI (decide (T ((A 3).toInt) = 109)) := z_6.2.1; rw [show (A 3).toInt = po from ((congrArg Int32.toInt rfl).trans h_3)] at h; exact h
  have Q_6 : po ≤ (if T po = 109 then po + 1 else po) ∧ (if T po = 109 then po + 1 else po) ≤ (A 2).toInt := ⟨(by have h := (And.intro (Int.le_refl po) h_4.2); split <;> omega), (by rw [← q_6]; exact Int.le_trans z_6.2.2.2 (Int.le_of_eq (congrArg Int32.toInt ((kpI.rf (J := [3, 4, 5, 6, 7]) (I := A)) 2 (by decide)))))⟩
  refine lv_if_eq (tgt := 19) hx hb dX4_readMonths_9 (by decide) (fun c_9 => ?_) (fun c_9 => ?_)
  · skip
    rw [b_6] at c_9
    have k_9 := bI_f.mp c_9
    have p_6 : (A_6 3).toInt = po := q_6.trans (if_neg k_9)
    have Q_6 : po ≤ po ∧ po ≤ (A 2).toInt := by have h := Q_6; rw [show (if T po = 109 then po + 1 else po) = po from q_6.symm.trans p_6] at h; exact h
    refine lv_iconst (v := 0) hx hb dX4_readMonths_19 (by decide) ?_
    exact q_cret (post := (fun z n1 σ1 => n1 = n ∧ ∃ A1 B1, σ1 = cS t b σ0 A1 B1 P ∧ kpI [3, 4, 5, 6, 7] A A1 ∧ kpR [1] B B1 ∧ z = bI (decide ((sMonths T po row0 false).1 = true)) ∧ (A1 3).toInt = (sMonths T po row0 false).2.1 ∧ ((A 3).toInt ≤ (A1 3).toInt ∧ (A1 3).toInt ≤ (A 2).toInt) ∧ ((sMonths T po row0 false).1 = true → rdC (sMonths T po row0 false).2.2.1 (sMonths T po row0 false).2.2.2 A1 B1))) X w dX4_readMonths_20 (rfl) ⟨rfl, _, _, rfl, by have e : sMonths T po row0 false = (false, po, row0, false) := (by unfold sMonths; rw [if_neg k_9]); rw [e]; exact ⟨KI_6, (kpR.rf (J := [1]) (R := B)), rfl, ((congrArg Int32.toInt rfl).trans p_6), (by have h3 : (A_6 3).toInt = po := ((congrArg Int32.toInt rfl).trans p_6); rw [h3, h_3]; exact Q_6), fun h => absurd (show false = true from h) (by decide)⟩⟩
  · skip
    rw [b_6] at c_9
    have k_9 := bI_t.mp c_9
    have p_6 : (A_6 3).toInt = po + 1 := q_6.trans (if_pos k_9)
    have Q_6 : po ≤ po + 1 ∧ po + 1 ≤ (A 2).toInt := by have h := Q_6; rw [show (if T po = 109 then po + 1 else po) = po + 1 from q_6.symm.trans p_6] at h; exact h
    refine lv_aload_n hx hb dX4_readMonths_12 rfl (lv_at hl 0 rfl) ?_
    refine kk_cCIR X w (c_X4_readMonth l D t b n σ0 A_6 B P T (po + 1) (by exact h_1.trans (txC_cg (KI_6 2 (by decide)) ((kpR.rf (J := [1]) (R := B)) 0 (by decide))).symm) (by exact h_2.cg (KI_6 2 (by decide)) ((kpR.rf (J := [1]) (R := B)) 0 (by decide))) (by exact ((congrArg Int32.toInt rfl).trans p_6)) (by have h2 : (A_6 2).toInt = (A 2).toInt := (congrArg Int32.toInt (KI_6 2 (by decide))); rw [h2]; exact ⟨Int.le_trans h_4.1 Q_6.1, Q_6.2⟩) (by rw [z_6.1 6 (by decide), h_5.1.2]; decide) (by rw [z_6.1 7 (by decide)]; have h := h_5.2.2.1; rw [show (row0 0).toInt = 0 from rfl] at h; omega)) v_X4_118 rfl rfl rfl ⟨Nat.le_of_ble_eq_true rfl, Nat.le_of_ble_eq_true rfl⟩ rfl hl.1 (Nat.le_of_ble_eq_true rfl) dX4_readMonths_13 ⟨Nat.zero_le _, Nat.zero_le _⟩ (fun r_13 A_13 B_13 H locs z_13 w => ?_)
    have KI_13 : kpI [3, 4, 5, 6, 7] A A_13 := kpI.tr (J := [3, 4, 5, 6, 7]) KI_6 z_13.1 (by decide) (by decide)
    have KR_13 : kpR [1] B B_13 := kpR.tr (J := [1]) (kpR.rf (J := [1]) (R := B)) z_13.2.1 (by decide) (by decide)
    have q_13 : (A_13 3).toInt = (num T (po + 1)).2 := z_13.2.2.2.1
    have b_13 : r_13 = bI (decide (dg T (po + 1))) := z_13.2.2.1
    have Q_13 : po ≤ (num T (po + 1)).2 ∧ (num T (po + 1)).2 ≤ (A 2).toInt := ⟨(by have h : (A_6 3).toInt ≤ (A_13 3).toInt := z_13.2.2.2.2.1.1; have h3 : (A_6 3).toInt = po + 1 := ((congrArg Int32.toInt rfl).trans p_6); have h4 := Q_6; rw [← q_13]; omega), (by rw [← q_13]; exact Int.le_trans z_13.2.2.2.2.1.2 (Int.le_of_eq (congrArg Int32.toInt (KI_6 2 (by decide)))))⟩
    have M_13 := z_13.2.2.2.2.2
    refine lv_if_ne (tgt := 21) hx hb dX4_readMonths_16 (by decide) (fun c_16 => ?_) (fun c_16 => ?_)
    · skip
      rw [b_13] at c_16
      have k_16 := bI_t.mp c_16
      have p_13 : (A_13 3).toInt = (num T (po + 1)).2 := q_13
      skip
      have M := M_13 k_16
      have hv1 := sNumB (T := T) (po + 1)
      have hC0 := rdC_cg h_5 (kpI.wk (J := [3, 4]) z_6.1 (by decide))
      have hA6 : (A_6 6).toInt = 0 := by rw [z_6.1 6 (by decide), h_5.1.2]; rfl
      have hC1 : rdC (upd (upd row0 1 (i3 (num T (po + 1)).1)) 0 1) false A_13 B_13 := rdC_month (n := 0) (v := i3 (num T (po + 1)).1) hC0 rfl (by omega) rfl z_13.1 (by have h := M.2.2.1; rw [hA6] at h; exact h) hv1 (by rw [M.1, hA6]) (by rw [i3_t]; exact M.2.1) (by rw [i3_t]; exact M.2.2.2) rfl
      refine lv_iconst (v := 1) hx hb dX4_readMonths_21 (by decide) ?_
      refine lv_istore_n (lv' := [(1, .int 1), (0, .ref (b + 3))]) hx hb dX4_readMonths_22 rfl hl (by decide) rfl (fun ls hl => ?_)
      refine q_loop (α := Int32 × Int × (Nat → Int32) × (Nat → Int32) × (Nat → Nat → Int32)) (fun a => a.1.toInt = a.2.1 ∧ ((1 ≤ a.2.1 ∧ a.2.1 ≤ 14) ∧ kpI [3, 4, 5, 6, 7] A a.2.2.2.1 ∧ kpR [1] B a.2.2.2.2 ∧ rdC a.2.2.1 false a.2.2.2.1 a.2.2.2.2 ∧ (a.2.2.1 0).toInt = a.2.1 ∧ (∀ j : Nat, 14 < j → a.2.2.1 j = row0 j) ∧ sMonths T po row0 false = sMore T (14 - a.2.1).toNat (a.2.2.2.1 3).toInt a.2.2.1 false ∧ po ≤ (a.2.2.2.1 3).toInt ∧ (a.2.2.2.1 3).toInt ≤ (A 2).toInt)) (fun a => (14 - a.2.1).toNat) (fun a => ∀ (H : Heap) (locs : List Loc), qW D b n (cS t b σ0 a.2.2.2.1 a.2.2.2.2 P) s H locs → ∀ ls : Array Slot, lv_has ls 2 [(1, .int a.1), (0, .ref (b + 3))] → W p l e (qR 4 0 0) s m args below meth c H locs 0 0 (MQ below (va_Qi (S := Nat × qM) (fun z u => (fun z n1 σ1 => n1 = n ∧ ∃ A1 B1, σ1 = cS t b σ0 A1 B1 P ∧ kpI [3, 4, 5, 6, 7] A A1 ∧ kpR [1] B B1 ∧ z = bI (decide ((sMonths T po row0 false).1 = true)) ∧ (A1 3).toInt = (sMonths T po row0 false).2.1 ∧ ((A 3).toInt ≤ (A1 3).toInt ∧ (A1 3).toInt ≤ (A 2).toInt) ∧ ((sMonths T po row0 false).1 = true → rdC (sMonths T po row0 false).2.2.1 (sMonths T po row0 false).2.2.2 A1 B1)) z u.1 u.2) (fun u T => WB D b u.1 u.2 T.heap) (fun q => b ≤ q)) args s 0 0 (fun q => b ≤ q)) (F0 m 23 ls [])) ?_ ⟨1, 1, (upd (upd row0 1 (i3 (num T (po + 1)).1)) 0 1), A_13, B_13⟩ ⟨(show (1 : Int32).toInt = 1 from rfl), by dsimp only; exact ⟨by omega, KI_13, KR_13, hC1, rfl, (fun j hj => (upd_n _ _ (by omega)).trans (upd_n _ _ (by omega))), (by unfold sMonths; rw [if_pos k_9, if_pos k_16, q_13]; rfl), (by rw [q_13]; exact Q_13.1), (by rw [q_13]; exact Q_13.2)⟩⟩ _ _ w ls (lv_sub hl [0, 1] rfl)
      rintro ⟨v_mo, mo, q, I_L23, R_L23⟩ ⟨q_mo, inv_23⟩ ih_23 H locs w ls hl
      dsimp only at q_mo inv_23 hl w
      refine lv_iload_n hx hb dX4_readMonths_23 rfl (lv_at hl 0 rfl) ?_
      refine lv_bipush (v := 14) hx hb dX4_readMonths_24 (by decide) ?_
      refine lv_icmp_ge (tgt := 56) hx hb dX4_readMonths_26 (by decide) (fun c_26 => ?_) (fun c_26 => ?_)
      · skip
        have k_26 : 14 ≤ mo := (g_le (show (14 : Int32).toInt = 14 from rfl) q_mo).mp c_26
        refine lv_iconst (v := 1) hx hb dX4_readMonths_56 (by decide) ?_
        exact q_cret (post := (fun z n1 σ1 => n1 = n ∧ ∃ A1 B1, σ1 = cS t b σ0 A1 B1 P ∧ kpI [3, 4, 5, 6, 7] A A1 ∧ kpR [1] B B1 ∧ z = bI (decide ((sMonths T po row0 false).1 = true)) ∧ (A1 3).toInt = (sMonths T po row0 false).2.1 ∧ ((A 3).toInt ≤ (A1 3).toInt ∧ (A1 3).toInt ≤ (A 2).toInt) ∧ ((sMonths T po row0 false).1 = true → rdC (sMonths T po row0 false).2.2.1 (sMonths T po row0 false).2.2.2 A1 B1))) X w dX4_readMonths_57 (rfl) ⟨rfl, _, _, rfl, by have e : sMonths T po row0 false = (true, (I_L23 3).toInt, q, false) := inv_23.2.2.2.2.2.2.1.trans (by rw [show (14 - mo).toNat = 0 by omega]; rfl); rw [e]; exact ⟨inv_23.2.1, inv_23.2.2.1, rfl, ((congrArg Int32.toInt rfl).trans rfl), (by have h3 : (I_L23 3).toInt = (I_L23 3).toInt := ((congrArg Int32.toInt rfl).trans rfl); rw [h3, h_3]; exact (And.intro inv_23.2.2.2.2.2.2.2.1 inv_23.2.2.2.2.2.2.2.2)), fun _ => inv_23.2.2.2.1⟩⟩
      · skip
        have k_26 : ¬ (14 ≤ mo) := fun h => c_26 ((g_le (show (14 : Int32).toInt = 14 from rfl) q_mo).mpr h)
        refine lv_aload_n hx hb dX4_readMonths_29 rfl (lv_at hl 1 rfl) ?_
        refine kg_X4_text X w dX4_readMonths_30 ?_
        refine lv_bipush (v := 44) hx hb dX4_readMonths_33 (by decide) ?_
        refine kk_cCI X w (c_X7_accept l D t b n σ0 I_L23 R_L23 P T 44 44 (show (44 : Int32).toInt = 44 from rfl) (by exact h_1.trans (txC_cg (inv_23.2.1 2 (by decide)) (inv_23.2.2.1 0 (by decide))).symm) (by exact h_2.cg (inv_23.2.1 2 (by decide)) (inv_23.2.2.1 0 (by decide))) (by have h2 : (I_L23 2).toInt = (A 2).toInt := (congrArg Int32.toInt (inv_23.2.1 2 (by decide))); have h3 : (I_L23 3).toInt = (I_L23 3).toInt := ((congrArg Int32.toInt rfl).trans rfl); rw [h2, h3]; exact ⟨Int.le_trans h_4.1 (And.intro inv_23.2.2.2.2.2.2.2.1 inv_23.2.2.2.2.2.2.2.2).1, (And.intro inv_23.2.2.2.2.2.2.2.1 inv_23.2.2.2.2.2.2.2.2).2⟩) (by first | assumption | omega)) v_X4_114 rfl rfl rfl ⟨Nat.le_of_ble_eq_true rfl, Nat.le_of_ble_eq_true rfl⟩ rfl hl.1 (Nat.le_of_ble_eq_true rfl) dX4_readMonths_35 ⟨Nat.zero_le _, Nat.zero_le _⟩ (fun r_35 A_35 H locs z_35 w => ?_)
        have KI_35 : kpI [3, 4, 5, 6, 7] A A_35 := kpI.tr (J := [3, 4, 5, 6, 7]) inv_23.2.1 z_35.1 (by decide) (by decide)
        have q_35 : (A_35 3).toInt = (if T ((I_L23 3).toInt) = 44 then ((I_L23 3).toInt) + 1 else ((I_L23 3).toInt)) := by have h : (A_35 3).toInt = (if T ((I_L23 3).toInt) = 44 then ((I_L23 3).toInt) + 1 else ((I_L23 3).toInt)) := z_35.2.2.1; rw [show (I_L23 3).toInt = (I_L23 3).toInt from ((congrArg Int32.toInt rfl).trans rfl)] at h; exact h
        have b_35 : r_35 = bI (decide (T ((I_L23 3).toInt) = 44)) := by have h : r_35 = bI (decide (T ((I_L23 3).toInt) = 44)) := z_35.2.1; rw [show (I_L23 3).toInt = (I_L23 3).toInt from ((congrArg Int32.toInt rfl).trans rfl)] at h; exact h
        have Q_35 : po ≤ (if T ((I_L23 3).toInt) = 44 then ((I_L23 3).toInt) + 1 else ((I_L23 3).toInt)) ∧ (if T ((I_L23 3).toInt) = 44 then ((I_L23 3).toInt) + 1 else ((I_L23 3).toInt)) ≤ (A 2).toInt := ⟨(by have h := (And.intro inv_23.2.2.2.2.2.2.2.1 inv_23.2.2.2.2.2.2.2.2); split <;> omega), (by rw [← q_35]; exact Int.le_trans z_35.2.2.2 (Int.le_of_eq (congrArg Int32.toInt (inv_23.2.1 2 (by decide)))))⟩
        refine lv_if_eq (tgt := 56) hx hb dX4_readMonths_38 (by decide) (fun c_38 => ?_) (fun c_38 => ?_)
        · skip
          rw [b_35] at c_38
          have k_38 := bI_f.mp c_38
          have p_35 : (A_35 3).toInt = (I_L23 3).toInt := q_35.trans (if_neg k_38)
          have Q_35 : po ≤ (I_L23 3).toInt ∧ (I_L23 3).toInt ≤ (A 2).toInt := by have h := Q_35; rw [show (if T ((I_L23 3).toInt) = 44 then ((I_L23 3).toInt) + 1 else ((I_L23 3).toInt)) = (I_L23 3).toInt from q_35.symm.trans p_35] at h; exact h
          refine lv_iconst (v := 1) hx hb dX4_readMonths_56 (by decide) ?_
          exact q_cret (post := (fun z n1 σ1 => n1 = n ∧ ∃ A1 B1, σ1 = cS t b σ0 A1 B1 P ∧ kpI [3, 4, 5, 6, 7] A A1 ∧ kpR [1] B B1 ∧ z = bI (decide ((sMonths T po row0 false).1 = true)) ∧ (A1 3).toInt = (sMonths T po row0 false).2.1 ∧ ((A 3).toInt ≤ (A1 3).toInt ∧ (A1 3).toInt ≤ (A 2).toInt) ∧ ((sMonths T po row0 false).1 = true → rdC (sMonths T po row0 false).2.2.1 (sMonths T po row0 false).2.2.2 A1 B1))) X w dX4_readMonths_57 (rfl) ⟨rfl, _, _, rfl, by have e : sMonths T po row0 false = (true, (I_L23 3).toInt, q, false) := inv_23.2.2.2.2.2.2.1.trans (sMore_e _ k_38); rw [e]; exact ⟨KI_35, inv_23.2.2.1, rfl, ((congrArg Int32.toInt rfl).trans p_35), (by have h3 : (A_35 3).toInt = (I_L23 3).toInt := ((congrArg Int32.toInt rfl).trans p_35); rw [h3, h_3]; exact Q_35), fun _ => rdC_cg inv_23.2.2.2.1 (kpI.wk z_35.1 (by decide))⟩⟩
        · skip
          rw [b_35] at c_38
          have k_38 := bI_t.mp c_38
          have p_35 : (A_35 3).toInt = ((I_L23 3).toInt) + 1 := q_35.trans (if_pos k_38)
          have Q_35 : po ≤ ((I_L23 3).toInt) + 1 ∧ ((I_L23 3).toInt) + 1 ≤ (A 2).toInt := by have h := Q_35; rw [show (if T ((I_L23 3).toInt) = 44 then ((I_L23 3).toInt) + 1 else ((I_L23 3).toInt)) = ((I_L23 3).toInt) + 1 from q_35.symm.trans p_35] at h; exact h
          refine lv_aload_n hx hb dX4_readMonths_41 rfl (lv_at hl 1 rfl) ?_
          refine kk_cCIR X w (c_X4_readMonth l D t b n σ0 A_35 R_L23 P T (((I_L23 3).toInt) + 1) (by exact h_1.trans (txC_cg (KI_35 2 (by decide)) (inv_23.2.2.1 0 (by decide))).symm) (by exact h_2.cg (KI_35 2 (by decide)) (inv_23.2.2.1 0 (by decide))) (by exact ((congrArg Int32.toInt rfl).trans p_35)) (by have h2 : (A_35 2).toInt = (A 2).toInt := (congrArg Int32.toInt (KI_35 2 (by decide))); rw [h2]; exact ⟨Int.le_trans h_4.1 Q_35.1, Q_35.2⟩) (by rw [z_35.1 6 (by decide), inv_23.2.2.2.1.1.2, inv_23.2.2.2.2.1]; omega) (by rw [z_35.1 7 (by decide)]; have h := inv_23.2.2.2.1.2.2.1; rw [inv_23.2.2.2.2.1] at h; omega)) v_X4_118 rfl rfl rfl ⟨Nat.le_of_ble_eq_true rfl, Nat.le_of_ble_eq_true rfl⟩ rfl hl.1 (Nat.le_of_ble_eq_true rfl) dX4_readMonths_42 ⟨Nat.zero_le _, Nat.zero_le _⟩ (fun r_42 A_42 B_42 H locs z_42 w => ?_)
          have KI_42 : kpI [3, 4, 5, 6, 7] A A_42 := kpI.tr (J := [3, 4, 5, 6, 7]) KI_35 z_42.1 (by decide) (by decide)
          have KR_42 : kpR [1] B B_42 := kpR.tr (J := [1]) inv_23.2.2.1 z_42.2.1 (by decide) (by decide)
          have q_42 : (A_42 3).toInt = (num T (((I_L23 3).toInt) + 1)).2 := z_42.2.2.2.1
          have b_42 : r_42 = bI (decide (dg T (((I_L23 3).toInt) + 1))) := z_42.2.2.1
          have Q_42 : po ≤ (num T (((I_L23 3).toInt) + 1)).2 ∧ (num T (((I_L23 3).toInt) + 1)).2 ≤ (A 2).toInt := ⟨(by have h : (A_35 3).toInt ≤ (A_42 3).toInt := z_42.2.2.2.2.1.1; have h3 : (A_35 3).toInt = ((I_L23 3).toInt) + 1 := ((congrArg Int32.toInt rfl).trans p_35); have h4 := Q_35; rw [← q_42]; omega), (by rw [← q_42]; exact Int.le_trans z_42.2.2.2.2.1.2 (Int.le_of_eq (congrArg Int32.toInt (KI_35 2 (by decide)))))⟩
          have M_42 := z_42.2.2.2.2.2
          refine lv_if_ne (tgt := 50) hx hb dX4_readMonths_45 (by decide) (fun c_45 => ?_) (fun c_45 => ?_)
          · skip
            rw [b_42] at c_45
            have k_45 := bI_t.mp c_45
            have p_42 : (A_42 3).toInt = (num T (((I_L23 3).toInt) + 1)).2 := q_42
            skip
            have M := M_42 k_45
            have hv1 := sNumB (T := T) ((I_L23 3).toInt + 1)
            have hC0 := rdC_cg inv_23.2.2.2.1 (kpI.wk (J := [3, 4]) z_35.1 (by decide))
            have hA6 : (A_35 6).toInt = mo := by rw [z_35.1 6 (by decide), inv_23.2.2.2.1.1.2]; exact inv_23.2.2.2.2.1
            have hq0 : (q 0 + 1).toInt = mo + 1 := t_add inv_23.2.2.2.2.1 rfl (by omega) (by omega)
            have hCn : rdC (upd (upd q (1 + mo).toNat (i3 (num T ((I_L23 3).toInt + 1)).1)) 0 (q 0 + 1)) false A_42 B_42 := rdC_month (n := mo) (v := i3 (num T ((I_L23 3).toInt + 1)).1) hC0 inv_23.2.2.2.2.1 (by omega) (inv_23.2.2.2.2.2.1 16 (by decide)) z_42.1 (by have h := M.2.2.1; rw [hA6] at h; exact h) hv1 (by rw [M.1, hA6]) (by rw [i3_t]; exact M.2.1) (by rw [i3_t]; exact M.2.2.2) hq0
            obtain ⟨x_50, e_50⟩ : ∃ z : Int32, z = (v_mo + 1) := ⟨_, rfl⟩
            have p_50 : x_50.toInt = (mo + 1) := by rw [e_50]; exact t_add q_mo (show (1 : Int32).toInt = 1 from rfl) (by omega) (by omega)
            refine lv_iinc (v := x_50) (lv' := [(1, .int x_50), (0, .ref (b + 3))]) hx hb dX4_readMonths_50 hl (k := 0) rfl (by rw [e_50]; rfl) (by decide) rfl (fun ls hl => ?_)
            refine lv_goto (tgt := 23) hx hb dX4_readMonths_53 (by decide) ?_
            refine ih_23 ⟨x_50, (mo + 1), (upd (upd q (1 + mo).toNat (i3 (num T ((I_L23 3).toInt + 1)).1)) 0 (q 0 + 1)), A_42, B_42⟩ ⟨p_50, by dsimp only; exact ⟨by omega, KI_42, KR_42, hCn, hq0, (fun j hj => ((upd_n _ _ (by omega)).trans (upd_n _ _ (by omega))).trans (inv_23.2.2.2.2.2.1 j hj)), (by rw [inv_23.2.2.2.2.2.2.1, sMore_s inv_23.1.1 (by omega) k_38 k_45, q_42]), (by rw [q_42]; exact Q_42.1), (by rw [q_42]; exact Q_42.2)⟩⟩ (by dsimp only; omega) _ _ w ls (lv_sub hl [0, 1] rfl)
          · skip
            rw [b_42] at c_45
            have k_45 := bI_f.mp c_45
            have p_42 : (A_42 3).toInt = ((I_L23 3).toInt) + 1 := q_42.trans (congrArg Prod.snd (numF_e (v := 0) 6 k_45))
            have Q_42 : po ≤ ((I_L23 3).toInt) + 1 ∧ ((I_L23 3).toInt) + 1 ≤ (A 2).toInt := by have h := Q_42; rw [show (num T (((I_L23 3).toInt) + 1)).2 = ((I_L23 3).toInt) + 1 from q_42.symm.trans p_42] at h; exact h
            refine lv_iconst (v := 0) hx hb dX4_readMonths_48 (by decide) ?_
            exact q_cret (post := (fun z n1 σ1 => n1 = n ∧ ∃ A1 B1, σ1 = cS t b σ0 A1 B1 P ∧ kpI [3, 4, 5, 6, 7] A A1 ∧ kpR [1] B B1 ∧ z = bI (decide ((sMonths T po row0 false).1 = true)) ∧ (A1 3).toInt = (sMonths T po row0 false).2.1 ∧ ((A 3).toInt ≤ (A1 3).toInt ∧ (A1 3).toInt ≤ (A 2).toInt) ∧ ((sMonths T po row0 false).1 = true → rdC (sMonths T po row0 false).2.2.1 (sMonths T po row0 false).2.2.2 A1 B1))) X w dX4_readMonths_49 (rfl) ⟨rfl, _, _, rfl, by have e : sMonths T po row0 false = (false, (I_L23 3).toInt + 1, q, false) := inv_23.2.2.2.2.2.2.1.trans (sMore_f0 (by omega) k_38 k_45); rw [e]; exact ⟨KI_42, KR_42, rfl, ((congrArg Int32.toInt rfl).trans p_42), (by have h3 : (A_42 3).toInt = ((I_L23 3).toInt) + 1 := ((congrArg Int32.toInt rfl).trans p_42); rw [h3, h_3]; exact Q_42), fun h => absurd (show false = true from h) (by decide)⟩⟩
    · skip
      rw [b_13] at c_16
      have k_16 := bI_f.mp c_16
      have p_13 : (A_13 3).toInt = po + 1 := q_13.trans (congrArg Prod.snd (numF_e (v := 0) 6 k_16))
      have Q_13 : po ≤ po + 1 ∧ po + 1 ≤ (A 2).toInt := by have h := Q_13; rw [show (num T (po + 1)).2 = po + 1 from q_13.symm.trans p_13] at h; exact h
      refine lv_iconst (v := 0) hx hb dX4_readMonths_19 (by decide) ?_
      exact q_cret (post := (fun z n1 σ1 => n1 = n ∧ ∃ A1 B1, σ1 = cS t b σ0 A1 B1 P ∧ kpI [3, 4, 5, 6, 7] A A1 ∧ kpR [1] B B1 ∧ z = bI (decide ((sMonths T po row0 false).1 = true)) ∧ (A1 3).toInt = (sMonths T po row0 false).2.1 ∧ ((A 3).toInt ≤ (A1 3).toInt ∧ (A1 3).toInt ≤ (A 2).toInt) ∧ ((sMonths T po row0 false).1 = true → rdC (sMonths T po row0 false).2.2.1 (sMonths T po row0 false).2.2.2 A1 B1))) X w dX4_readMonths_20 (rfl) ⟨rfl, _, _, rfl, by have e : sMonths T po row0 false = (false, po + 1, row0, false) := (by unfold sMonths; rw [if_pos k_9, if_neg k_16]); rw [e]; exact ⟨KI_13, KR_13, rfl, ((congrArg Int32.toInt rfl).trans p_13), (by have h3 : (A_13 3).toInt = po + 1 := ((congrArg Int32.toInt rfl).trans p_13); rw [h3, h_3]; exact Q_13), fun h => absurd (show false = true from h) (by decide)⟩⟩

set_option maxHeartbeats 2000000 in
set_option maxRecDepth 100000 in
theorem c_X4_readDivisors (l : Launch) (D : va_G) (t : Nat → ClassId) (b n : Nat) (σ0 : qM) (A : Nat → Int32) (B : Nat → Nat → Int32) (P : Nat → Nat → Option Nat) (T : Int → Int) (po : Int) (q : Nat → Int32) (g : Bool) (h_1 : T = txC A B) (h_2 : okTx A B) (h_3 : (A 3).toInt = po) (h_4 : 0 ≤ po ∧ po ≤ (A 2).toInt) (h_5 : rdC q g A B) (h_6 : q 19 = 0) (h_7 : ∀ j : Nat, j < 4 → q (24 + j) = 0) : kC l yX4_readDivisors cX4_readDivisors 2 (some .boolean) 4 D t b n σ0 A B P [.ref (b + 3)] (fun z A1 B1 => kpI [3, 4, 5, 12, 13, 15] A A1 ∧ kpR [2, 3] B B1 ∧ z = bI (decide ((sDivs T po q g).1 = true)) ∧ (A1 3).toInt = (sDivs T po q g).2.1 ∧ ((A 3).toInt ≤ (A1 3).toInt ∧ (A1 3).toInt ≤ (A 2).toInt) ∧ ((sDivs T po q g).1 = true → rdC (sDivs T po q g).2.2.1 (sDivs T po q g).2.2.2 A1 B1)) := by
  refine qC.of (by decide +kernel) (Nat.le_of_ble_eq_true rfl) (fun p e s m args below meth c X w ls hl => ?_)
  have hx := X.1
  have hb := X.2.1
  have hl : lv_has ls 2 [(0, .ref (b + 3))] := hl
  have hC0 : rdC (upd q 19 1) g (va_up A 12 1) B := rdC_rule1 h_5 h_6 h_7 (kpI.up kpI.rf (by decide)) (va_up_self _ _ _)
  have hA13 : (va_up A 12 1 13).toInt = 0 := (show (va_up A 12 1 13).toInt = (A 13).toInt from rfl).trans (rdC_13 h_5 h_7)
  refine lv_aload_n hx hb dX4_readDivisors_0 rfl (lv_at hl 0 rfl) ?_
  refine lv_iconst (v := 1) hx hb dX4_readDivisors_1 (by decide) ?_
  refine kp_X4_rule (v := 1) X w dX4_readDivisors_2 (fun H locs w => ?_)
  refine lv_aload_n hx hb dX4_readDivisors_5 rfl (lv_at hl 0 rfl) ?_
  refine kk_cCIR X w (c_X4_readDivisor l D t b n σ0 (va_up A 12 1) B P T po (by exact h_1.trans (txC_cg ((kpI.up (kpI.rf (J := [3, 4, 5, 12, 13, 15]) (I := A)) (by decide)) 2 (by decide)) ((kpR.rf (J := [2, 3]) (R := B)) 0 (by decide))).symm) (by exact h_2.cg ((kpI.up (kpI.rf (J := [3, 4, 5, 12, 13, 15]) (I := A)) (by decide)) 2 (by decide)) ((kpR.rf (J := [2, 3]) (R := B)) 0 (by decide))) (by exact ((congrArg Int32.toInt rfl).trans h_3)) (by have h2 : ((va_up A 12 1) 2).toInt = (A 2).toInt := (congrArg Int32.toInt ((kpI.up (kpI.rf (J := [3, 4, 5, 12, 13, 15]) (I := A)) (by decide)) 2 (by decide))); rw [h2]; exact ⟨Int.le_trans h_4.1 (And.intro (Int.le_refl po) h_4.2).1, (And.intro (Int.le_refl po) h_4.2).2⟩) (by rw [hA13]; decide) (by exact rdC_15 hC0 (by rw [upd_s]; decide))) v_X4_149 rfl rfl rfl ⟨Nat.le_of_ble_eq_true rfl, Nat.le_of_ble_eq_true rfl⟩ rfl hl.1 (Nat.le_of_ble_eq_true rfl) dX4_readDivisors_6 ⟨Nat.zero_le _, Nat.zero_le _⟩ (fun r_6 A_6 B_6 H locs z_6 w => ?_)
  have KI_6 : kpI [3, 4, 5, 12, 13, 15] A A_6 := kpI.tr (J := [3, 4, 5, 12, 13, 15]) (kpI.up (kpI.rf (J := [3, 4, 5, 12, 13, 15]) (I := A)) (by decide)) z_6.1 (by decide) (by decide)
  have KR_6 : kpR [2, 3] B B_6 := kpR.tr (J := [2, 3]) (kpR.rf (J := [2, 3]) (R := B)) z_6.2.1 (by decide) (by decide)
  have q_6 : (A_6 3).toInt = (sD1 T po).2 := z_6.2.2.2.1
  have b_6 : r_6 = bI (decide ((sD1 T po).1 = true)) := z_6.2.2.1
  have Q_6 : po ≤ (sD1 T po).2 ∧ (sD1 T po).2 ≤ (A 2).toInt := ⟨(by have h : ((va_up A 12 1) 3).toInt ≤ (A_6 3).toInt := z_6.2.2.2.2.1.1; have h3 : ((va_up A 12 1) 3).toInt = po := ((congrArg Int32.toInt rfl).trans h_3); have h4 := (And.intro (Int.le_refl po) h_4.2); rw [← q_6]; omega), (by rw [← q_6]; exact Int.le_trans z_6.2.2.2.2.1.2 (Int.le_of_eq (congrArg Int32.toInt ((kpI.up (kpI.rf (J := [3, 4, 5, 12, 13, 15]) (I := A)) (by decide)) 2 (by decide)))))⟩
  have M_6 := z_6.2.2.2.2.2
  refine lv_if_ne (tgt := 14) hx hb dX4_readDivisors_9 (by decide) (fun c_9 => ?_) (fun c_9 => ?_)
  · skip
    rw [b_6] at c_9
    have k_9 := bI_t.mp c_9
    have M := M_6 k_9
    have hC1 : rdC (sDn T 0 po (upd q 19 1)) g A_6 B_6 := rdC_div (n := 0) hC0 (upd_s _ _ _) hA13 (by omega) sD1_sg z_6.1 (by have h := M.2.1; rw [hA13] at h; exact h) (by rw [M.1, hA13]; rfl) (by rw [i3_t]; exact M.2.2.1) (by rw [i3_t]; exact M.2.2.2)
    refine lv_iconst (v := 1) hx hb dX4_readDivisors_14 (by decide) ?_
    refine lv_istore_n (lv' := [(1, .int 1), (0, .ref (b + 3))]) hx hb dX4_readDivisors_15 rfl hl (by decide) rfl (fun ls hl => ?_)
    refine q_loop (α := Int32 × Int × (Nat → Int32) × (Nat → Int32) × (Nat → Nat → Int32)) (fun a => a.1.toInt = a.2.1 ∧ ((1 ≤ a.2.1 ∧ a.2.1 ≤ 4) ∧ kpI [3, 4, 5, 12, 13, 15] A a.2.2.2.1 ∧ kpR [2, 3] B a.2.2.2.2 ∧ rdC a.2.2.1 g a.2.2.2.1 a.2.2.2.2 ∧ (a.2.2.2.1 13).toInt = a.2.1 ∧ a.2.2.1 19 = 1 ∧ sDivs T po q g = (if 0 < 4 - a.2.1.toNat ∧ dg T (a.2.2.2.1 3).toInt then sDiv T (4 - a.2.1.toNat) (a.2.2.2.1 3).toInt a.2.2.1 g else (true, (a.2.2.2.1 3).toInt, a.2.2.1, g)) ∧ po ≤ (a.2.2.2.1 3).toInt ∧ (a.2.2.2.1 3).toInt ≤ (A 2).toInt)) (fun a => (4 - a.2.1).toNat) (fun a => ∀ (H : Heap) (locs : List Loc), qW D b n (cS t b σ0 a.2.2.2.1 a.2.2.2.2 P) s H locs → ∀ ls : Array Slot, lv_has ls 2 [(1, .int a.1), (0, .ref (b + 3))] → W p l e (qR 4 0 0) s m args below meth c H locs 0 0 (MQ below (va_Qi (S := Nat × qM) (fun z u => (fun z n1 σ1 => n1 = n ∧ ∃ A1 B1, σ1 = cS t b σ0 A1 B1 P ∧ kpI [3, 4, 5, 12, 13, 15] A A1 ∧ kpR [2, 3] B B1 ∧ z = bI (decide ((sDivs T po q g).1 = true)) ∧ (A1 3).toInt = (sDivs T po q g).2.1 ∧ ((A 3).toInt ≤ (A1 3).toInt ∧ (A1 3).toInt ≤ (A 2).toInt) ∧ ((sDivs T po q g).1 = true → rdC (sDivs T po q g).2.2.1 (sDivs T po q g).2.2.2 A1 B1)) z u.1 u.2) (fun u T => WB D b u.1 u.2 T.heap) (fun q => b ≤ q)) args s 0 0 (fun q => b ≤ q)) (F0 m 16 ls [])) ?_ ⟨1, 1, (sDn T 0 po (upd q 19 1)), A_6, B_6⟩ ⟨(show (1 : Int32).toInt = 1 from rfl), by dsimp only; exact ⟨by omega, KI_6, KR_6, hC1, (by rw [M.1, hA13]; rfl), ((sDn_19 T 0 po _ (by omega) 19 (by omega)).trans (upd_s _ _ _)), (by rw [q_6]; unfold sDivs; exact sDiv_t (n := 0) (by omega) k_9), (by rw [q_6]; exact Q_6.1), (by rw [q_6]; exact Q_6.2)⟩⟩ _ _ w ls (lv_sub hl [0, 1] rfl)
    rintro ⟨v_kk, kk, qq, I_L16, R_L16⟩ ⟨q_kk, inv_16⟩ ih_16 H locs w ls hl
    dsimp only at q_kk inv_16 hl w
    refine lv_iload_n hx hb dX4_readDivisors_16 rfl (lv_at hl 0 rfl) ?_
    refine lv_iconst (v := 4) hx hb dX4_readDivisors_17 (by decide) ?_
    refine lv_icmp_ge (tgt := 46) hx hb dX4_readDivisors_18 (by decide) (fun c_18 => ?_) (fun c_18 => ?_)
    · skip
      have k_18 : 4 ≤ kk := (g_le (show (4 : Int32).toInt = 4 from rfl) q_kk).mp c_18
      refine lv_iconst (v := 1) hx hb dX4_readDivisors_46 (by decide) ?_
      exact q_cret (post := (fun z n1 σ1 => n1 = n ∧ ∃ A1 B1, σ1 = cS t b σ0 A1 B1 P ∧ kpI [3, 4, 5, 12, 13, 15] A A1 ∧ kpR [2, 3] B B1 ∧ z = bI (decide ((sDivs T po q g).1 = true)) ∧ (A1 3).toInt = (sDivs T po q g).2.1 ∧ ((A 3).toInt ≤ (A1 3).toInt ∧ (A1 3).toInt ≤ (A 2).toInt) ∧ ((sDivs T po q g).1 = true → rdC (sDivs T po q g).2.2.1 (sDivs T po q g).2.2.2 A1 B1))) X w dX4_readDivisors_47 (rfl) ⟨rfl, _, _, rfl, by have e : sDivs T po q g = (true, (I_L16 3).toInt, qq, g) := (by rw [inv_16.2.2.2.2.2.2.1, if_neg (fun z => absurd z.1 (by omega))]); rw [e]; exact ⟨inv_16.2.1, inv_16.2.2.1, rfl, ((congrArg Int32.toInt rfl).trans rfl), (by have h3 : (I_L16 3).toInt = (I_L16 3).toInt := ((congrArg Int32.toInt rfl).trans rfl); rw [h3, h_3]; exact (And.intro inv_16.2.2.2.2.2.2.2.1 inv_16.2.2.2.2.2.2.2.2)), fun _ => inv_16.2.2.2.1⟩⟩
    · skip
      have k_18 : ¬ (4 ≤ kk) := fun h => c_18 ((g_le (show (4 : Int32).toInt = 4 from rfl) q_kk).mpr h)
      refine lv_aload_n hx hb dX4_readDivisors_21 rfl (lv_at hl 1 rfl) ?_
      refine kg_X4_text X w dX4_readDivisors_22 ?_
      refine q_cPV X w (c_X7_seesDigit l D t b n σ0 I_L16 R_L16 P T (by exact h_1.trans (txC_cg (inv_16.2.1 2 (by decide)) (inv_16.2.2.1 0 (by decide))).symm) (by exact h_2.cg (inv_16.2.1 2 (by decide)) (inv_16.2.2.1 0 (by decide))) (by have h2 : (I_L16 2).toInt = (A 2).toInt := (congrArg Int32.toInt (inv_16.2.1 2 (by decide))); have h3 : (I_L16 3).toInt = (I_L16 3).toInt := ((congrArg Int32.toInt rfl).trans rfl); rw [h2, h3]; exact ⟨Int.le_trans h_4.1 (And.intro inv_16.2.2.2.2.2.2.2.1 inv_16.2.2.2.2.2.2.2.2).1, (And.intro inv_16.2.2.2.2.2.2.2.1 inv_16.2.2.2.2.2.2.2.2).2⟩)) v_X4_152 (k := 1) rfl rfl rfl ⟨Nat.le_of_ble_eq_true rfl, Nat.le_of_ble_eq_true rfl⟩ rfl hl.1 (Nat.le_of_ble_eq_true rfl) dX4_readDivisors_25 ⟨Nat.zero_le _, Nat.zero_le _⟩ (fun r_25 z_25 => ?_)
      have b_25 : r_25 = bI (decide (dg T ((I_L16 3).toInt))) := by have h : r_25 = bI (decide (dg T ((I_L16 3).toInt))) := z_25; rw [show (I_L16 3).toInt = (I_L16 3).toInt from ((congrArg Int32.toInt rfl).trans rfl)] at h; exact h
      refine lv_if_eq (tgt := 46) hx hb dX4_readDivisors_28 (by decide) (fun c_28 => ?_) (fun c_28 => ?_)
      · skip
        rw [b_25] at c_28
        have k_28 := bI_f.mp c_28
        refine lv_iconst (v := 1) hx hb dX4_readDivisors_46 (by decide) ?_
        exact q_cret (post := (fun z n1 σ1 => n1 = n ∧ ∃ A1 B1, σ1 = cS t b σ0 A1 B1 P ∧ kpI [3, 4, 5, 12, 13, 15] A A1 ∧ kpR [2, 3] B B1 ∧ z = bI (decide ((sDivs T po q g).1 = true)) ∧ (A1 3).toInt = (sDivs T po q g).2.1 ∧ ((A 3).toInt ≤ (A1 3).toInt ∧ (A1 3).toInt ≤ (A 2).toInt) ∧ ((sDivs T po q g).1 = true → rdC (sDivs T po q g).2.2.1 (sDivs T po q g).2.2.2 A1 B1))) X w dX4_readDivisors_47 (rfl) ⟨rfl, _, _, rfl, by have e : sDivs T po q g = (true, (I_L16 3).toInt, qq, g) := (by rw [inv_16.2.2.2.2.2.2.1, if_neg (fun z => k_28 z.2)]); rw [e]; exact ⟨inv_16.2.1, inv_16.2.2.1, rfl, ((congrArg Int32.toInt rfl).trans rfl), (by have h3 : (I_L16 3).toInt = (I_L16 3).toInt := ((congrArg Int32.toInt rfl).trans rfl); rw [h3, h_3]; exact (And.intro inv_16.2.2.2.2.2.2.2.1 inv_16.2.2.2.2.2.2.2.2)), fun _ => inv_16.2.2.2.1⟩⟩
      · skip
        rw [b_25] at c_28
        have k_28 := bI_t.mp c_28
        refine lv_aload_n hx hb dX4_readDivisors_31 rfl (lv_at hl 1 rfl) ?_
        refine kk_cCIR X w (c_X4_readDivisor l D t b n σ0 I_L16 R_L16 P T ((I_L16 3).toInt) (by exact h_1.trans (txC_cg (inv_16.2.1 2 (by decide)) (inv_16.2.2.1 0 (by decide))).symm) (by exact h_2.cg (inv_16.2.1 2 (by decide)) (inv_16.2.2.1 0 (by decide))) (by exact ((congrArg Int32.toInt rfl).trans rfl)) (by have h2 : (I_L16 2).toInt = (A 2).toInt := (congrArg Int32.toInt (inv_16.2.1 2 (by decide))); rw [h2]; exact ⟨Int.le_trans h_4.1 (And.intro inv_16.2.2.2.2.2.2.2.1 inv_16.2.2.2.2.2.2.2.2).1, (And.intro inv_16.2.2.2.2.2.2.2.1 inv_16.2.2.2.2.2.2.2.2).2⟩) (by rw [inv_16.2.2.2.2.1]; omega) (by exact rdC_15 inv_16.2.2.2.1 (by rw [inv_16.2.2.2.2.2.1]; decide))) v_X4_149 rfl rfl rfl ⟨Nat.le_of_ble_eq_true rfl, Nat.le_of_ble_eq_true rfl⟩ rfl hl.1 (Nat.le_of_ble_eq_true rfl) dX4_readDivisors_32 ⟨Nat.zero_le _, Nat.zero_le _⟩ (fun r_32 A_32 B_32 H locs z_32 w => ?_)
        have KI_32 : kpI [3, 4, 5, 12, 13, 15] A A_32 := kpI.tr (J := [3, 4, 5, 12, 13, 15]) inv_16.2.1 z_32.1 (by decide) (by decide)
        have KR_32 : kpR [2, 3] B B_32 := kpR.tr (J := [2, 3]) inv_16.2.2.1 z_32.2.1 (by decide) (by decide)
        have q_32 : (A_32 3).toInt = (sD1 T ((I_L16 3).toInt)).2 := z_32.2.2.2.1
        have b_32 : r_32 = bI (decide ((sD1 T ((I_L16 3).toInt)).1 = true)) := z_32.2.2.1
        have Q_32 : po ≤ (sD1 T ((I_L16 3).toInt)).2 ∧ (sD1 T ((I_L16 3).toInt)).2 ≤ (A 2).toInt := ⟨(by have h : (I_L16 3).toInt ≤ (A_32 3).toInt := z_32.2.2.2.2.1.1; have h3 : (I_L16 3).toInt = (I_L16 3).toInt := ((congrArg Int32.toInt rfl).trans rfl); have h4 := (And.intro inv_16.2.2.2.2.2.2.2.1 inv_16.2.2.2.2.2.2.2.2); rw [← q_32]; omega), (by rw [← q_32]; exact Int.le_trans z_32.2.2.2.2.1.2 (Int.le_of_eq (congrArg Int32.toInt (inv_16.2.1 2 (by decide)))))⟩
        have M_32 := z_32.2.2.2.2.2
        refine lv_if_ne (tgt := 40) hx hb dX4_readDivisors_35 (by decide) (fun c_35 => ?_) (fun c_35 => ?_)
        · skip
          rw [b_32] at c_35
          have k_35 := bI_t.mp c_35
          have M := M_32 k_35
          have hk13 : (I_L16 13).toInt = ((kk.toNat : Nat) : Int) := by rw [inv_16.2.2.2.2.1]; omega
          have hCn : rdC (sDn T kk.toNat (I_L16 3).toInt qq) g A_32 B_32 := rdC_div (n := kk.toNat) inv_16.2.2.2.1 inv_16.2.2.2.2.2.1 hk13 (by omega) sD1_sg z_32.1 (by have h := M.2.1; rw [inv_16.2.2.2.2.1] at h; exact h) (by rw [M.1, hk13]) (by rw [i3_t]; exact M.2.2.1) (by rw [i3_t]; exact M.2.2.2)
          obtain ⟨x_40, e_40⟩ : ∃ z : Int32, z = (v_kk + 1) := ⟨_, rfl⟩
          have p_40 : x_40.toInt = (kk + 1) := by rw [e_40]; exact t_add q_kk (show (1 : Int32).toInt = 1 from rfl) (by omega) (by omega)
          refine lv_iinc (v := x_40) (lv' := [(1, .int x_40), (0, .ref (b + 3))]) hx hb dX4_readDivisors_40 hl (k := 0) rfl (by rw [e_40]; rfl) (by decide) rfl (fun ls hl => ?_)
          refine lv_goto (tgt := 16) hx hb dX4_readDivisors_43 (by decide) ?_
          refine ih_16 ⟨x_40, (kk + 1), (sDn T kk.toNat (I_L16 3).toInt qq), A_32, B_32⟩ ⟨p_40, by dsimp only; exact ⟨by omega, KI_32, KR_32, hCn, (by rw [M.1, inv_16.2.2.2.2.1]), ((sDn_19 T kk.toNat _ _ (by omega) 19 (by omega)).trans inv_16.2.2.2.2.2.1), (by rw [inv_16.2.2.2.2.2.2.1, if_pos ⟨by omega, k_28⟩, q_32, sDiv_t (by omega) k_35, show (kk + 1).toNat = kk.toNat + 1 by omega, show 4 - (kk.toNat + 1) = 3 - kk.toNat by omega]), (by rw [q_32]; exact Q_32.1), (by rw [q_32]; exact Q_32.2)⟩⟩ (by dsimp only; omega) _ _ w ls (lv_sub hl [0, 1] rfl)
        · skip
          rw [b_32] at c_35
          have k_35 := bI_f.mp c_35
          refine lv_iconst (v := 0) hx hb dX4_readDivisors_38 (by decide) ?_
          exact q_cret (post := (fun z n1 σ1 => n1 = n ∧ ∃ A1 B1, σ1 = cS t b σ0 A1 B1 P ∧ kpI [3, 4, 5, 12, 13, 15] A A1 ∧ kpR [2, 3] B B1 ∧ z = bI (decide ((sDivs T po q g).1 = true)) ∧ (A1 3).toInt = (sDivs T po q g).2.1 ∧ ((A 3).toInt ≤ (A1 3).toInt ∧ (A1 3).toInt ≤ (A 2).toInt) ∧ ((sDivs T po q g).1 = true → rdC (sDivs T po q g).2.2.1 (sDivs T po q g).2.2.2 A1 B1))) X w dX4_readDivisors_39 (rfl) ⟨rfl, _, _, rfl, by have e : (sDivs T po q g).1 = false ∧ (sDivs T po q g).2.1 = (sD1 T ((I_L16 3).toInt)).2 := (by rw [inv_16.2.2.2.2.2.2.1, if_pos ⟨by omega, k_28⟩, sDiv_no (by omega) k_35]; exact ⟨rfl, rfl⟩); exact ⟨KI_32, KR_32, bI_0 (by rw [e.1]; decide), ((congrArg Int32.toInt rfl).trans q_32).trans e.2.symm, (by have h3 : (A_32 3).toInt = (sD1 T ((I_L16 3).toInt)).2 := ((congrArg Int32.toInt rfl).trans q_32); rw [h3, h_3]; exact Q_32), fun h => absurd (h.symm.trans e.1) (by decide)⟩⟩
  · skip
    rw [b_6] at c_9
    have k_9 := bI_f.mp c_9
    refine lv_iconst (v := 0) hx hb dX4_readDivisors_12 (by decide) ?_
    exact q_cret (post := (fun z n1 σ1 => n1 = n ∧ ∃ A1 B1, σ1 = cS t b σ0 A1 B1 P ∧ kpI [3, 4, 5, 12, 13, 15] A A1 ∧ kpR [2, 3] B B1 ∧ z = bI (decide ((sDivs T po q g).1 = true)) ∧ (A1 3).toInt = (sDivs T po q g).2.1 ∧ ((A 3).toInt ≤ (A1 3).toInt ∧ (A1 3).toInt ≤ (A 2).toInt) ∧ ((sDivs T po q g).1 = true → rdC (sDivs T po q g).2.2.1 (sDivs T po q g).2.2.2 A1 B1))) X w dX4_readDivisors_13 (rfl) ⟨rfl, _, _, rfl, by have e : (sDivs T po q g).1 = false ∧ (sDivs T po q g).2.1 = (sD1 T po).2 := (by unfold sDivs; rw [sDiv_no (n := 0) (by omega) k_9]; exact ⟨rfl, rfl⟩); exact ⟨KI_6, KR_6, bI_0 (by rw [e.1]; decide), ((congrArg Int32.toInt rfl).trans q_6).trans e.2.symm, (by have h3 : (A_6 3).toInt = (sD1 T po).2 := ((congrArg Int32.toInt rfl).trans q_6); rw [h3, h_3]; exact Q_6), fun h => absurd (h.symm.trans e.1) (by decide)⟩⟩

set_option maxHeartbeats 2000000 in
set_option maxRecDepth 100000 in
theorem c_X4_readCycle (l : Launch) (D : va_G) (t : Nat → ClassId) (b n : Nat) (σ0 : qM) (A : Nat → Int32) (B : Nat → Nat → Int32) (P : Nat → Nat → Option Nat) (T : Int → Int) (po : Int) (q : Nat → Int32) (h_1 : T = txC A B) (h_2 : okTx A B) (h_3 : (A 3).toInt = po) (h_4 : 0 ≤ po ∧ po ≤ (A 2).toInt) (h_5 : rdC q false A B) (h_6 : q 19 = 0) : kC l yX4_readCycle cX4_readCycle 2 (some .boolean) 4 D t b n σ0 A B P [.ref (b + 3)] (fun z A1 B1 => B1 = B ∧ kpI [3, 4, 5, 12, 14, 15] A A1 ∧ z = bI (decide ((sCyc T po q false).1 = true)) ∧ (A1 3).toInt = (sCyc T po q false).2.1 ∧ ((A 3).toInt ≤ (A1 3).toInt ∧ (A1 3).toInt ≤ (A 2).toInt) ∧ ((sCyc T po q false).1 = true → rdC (sCyc T po q false).2.2.1 (sCyc T po q false).2.2.2 A1 B)) := by
  refine qC.of (by decide +kernel) (Nat.le_of_ble_eq_true rfl) (fun p e s m args below meth c X w ls hl => ?_)
  have hx := X.1
  have hb := X.2.1
  have hl : lv_has ls 2 [(0, .ref (b + 3))] := hl
  refine lv_aload_n hx hb dX4_readCycle_0 rfl (lv_at hl 0 rfl) ?_
  refine kg_X4_text X w dX4_readCycle_1 ?_
  refine kk_cCI X w (c_X7_readNumber l D t b n σ0 A B P T (by exact h_1.trans (txC_cg ((kpI.rf (J := [3, 4, 5, 12, 14, 15]) (I := A)) 2 (by decide)) ((kpR.rf (J := [1, 2, 3]) (R := B)) 0 (by decide))).symm) (by exact h_2.cg ((kpI.rf (J := [3, 4, 5, 12, 14, 15]) (I := A)) 2 (by decide)) ((kpR.rf (J := [1, 2, 3]) (R := B)) 0 (by decide))) (by have h2 : (A 2).toInt = (A 2).toInt := (congrArg Int32.toInt ((kpI.rf (J := [3, 4, 5, 12, 14, 15]) (I := A)) 2 (by decide))); have h3 : (A 3).toInt = po := ((congrArg Int32.toInt rfl).trans h_3); rw [h2, h3]; exact ⟨Int.le_trans h_4.1 (And.intro (Int.le_refl po) h_4.2).1, (And.intro (Int.le_refl po) h_4.2).2⟩)) v_X4_121 rfl rfl rfl ⟨Nat.le_of_ble_eq_true rfl, Nat.le_of_ble_eq_true rfl⟩ rfl hl.1 (Nat.le_of_ble_eq_true rfl) dX4_readCycle_4 ⟨Nat.zero_le _, Nat.zero_le _⟩ (fun r_4 A_4 H locs z_4 w => ?_)
  have KI_4 : kpI [3, 4, 5, 12, 14, 15] A A_4 := kpI.tr (J := [3, 4, 5, 12, 14, 15]) (kpI.rf (J := [3, 4, 5, 12, 14, 15]) (I := A)) z_4.1 (by decide) (by decide)
  have q_4 : (A_4 3).toInt = (num T po).2 := by have h : (A_4 3).toInt = (num T ((A 3).toInt)).2 := z_4.2.2.1; rw [show (A 3).toInt = po from ((congrArg Int32.toInt rfl).trans h_3)] at h; exact h
  have n_4 : (A_4 4).toInt = (num T po).1 := by have h : (A_4 4).toInt = (num T ((A 3).toInt)).1 := z_4.2.2.2.1; rw [show (A 3).toInt = po from ((congrArg Int32.toInt rfl).trans h_3)] at h; exact h
  have b_4 : r_4 = bI (decide (dg T po)) := by have h : r_4 = bI (decide (dg T ((A 3).toInt))) := z_4.2.1; rw [show (A 3).toInt = po from ((congrArg Int32.toInt rfl).trans h_3)] at h; exact h
  have v_4 := num_v (T := T) po
  have Q_4 : po ≤ (num T po).2 ∧ (num T po).2 ≤ (A 2).toInt := ⟨(by have h := (And.intro (Int.le_refl po) h_4.2); have h2 := num_ge (T := T) po; omega), (by rw [← q_4]; exact Int.le_trans z_4.2.2.2.2 (Int.le_of_eq (congrArg Int32.toInt ((kpI.rf (J := [3, 4, 5, 12, 14, 15]) (I := A)) 2 (by decide)))))⟩
  refine lv_if_ne (tgt := 12) hx hb dX4_readCycle_7 (by decide) (fun c_7 => ?_) (fun c_7 => ?_)
  · skip
    rw [b_4] at c_7
    have k_7 := bI_t.mp c_7
    have p_4 : (A_4 3).toInt = (num T po).2 := q_4
    skip
    refine lv_aload_n hx hb dX4_readCycle_12 rfl (lv_at hl 0 rfl) ?_
    refine lv_iconst (v := 2) hx hb dX4_readCycle_13 (by decide) ?_
    refine kp_X4_rule (v := 2) X w dX4_readCycle_14 (fun H locs w => ?_)
    refine lv_aload_n hx hb dX4_readCycle_17 rfl (lv_at hl 0 rfl) ?_
    refine lv_aload_n hx hb dX4_readCycle_18 rfl (lv_at hl 0 rfl) ?_
    refine kg_X4_text X w dX4_readCycle_19 ?_
    refine q_cPV X w (c_X7_number l D t b n σ0 (va_up A_4 12 2) B P ) v_X4_124 (k := 1) rfl rfl rfl ⟨Nat.le_of_ble_eq_true rfl, Nat.le_of_ble_eq_true rfl⟩ rfl hl.1 (Nat.le_of_ble_eq_true rfl) dX4_readCycle_22 ⟨Nat.zero_le _, Nat.zero_le _⟩ (fun r_22 z_22 => ?_)
    have m_22 : r_22.toInt = (num T po).1 := (congrArg Int32.toInt (z_22.trans rfl)).trans n_4
    have i_22 : r_22 = i3 (num T po).1 := by rw [← m_22]; exact (i3_i _).symm
    refine kp_X4_period (v := r_22) X w dX4_readCycle_25 (fun H locs w => ?_)
    refine lv_aload_n hx hb dX4_readCycle_28 rfl (lv_at hl 0 rfl) ?_
    refine lv_aload_n hx hb dX4_readCycle_29 rfl (lv_at hl 0 rfl) ?_
    refine kg_X4_period X w dX4_readCycle_30 ?_
    refine q_topE (y := r_22) rfl ?_
    refine lv_iconst (v := 1) hx hb dX4_readCycle_33 (by decide) ?_
    refine lv_bipush (v := 30) hx hb dX4_readCycle_34 (by decide) ?_
    refine kk_cVI X w (c_X4_allow l D t b n σ0 (va_up (va_up A_4 12 2) 15 r_22) B P r_22 1 30 ((num T po).1) 1 30 m_22 (show (1 : Int32).toInt = 1 from rfl) (show (30 : Int32).toInt = 30 from rfl)) v_X4_128 rfl rfl rfl ⟨Nat.le_of_ble_eq_true rfl, Nat.le_of_ble_eq_true rfl⟩ rfl hl.1 (Nat.le_of_ble_eq_true rfl) dX4_readCycle_36 ⟨Nat.zero_le _, Nat.zero_le _⟩ (fun A_36 H locs z_36 w => ?_)
    have KI_36 : kpI [3, 4, 5, 12, 14, 15] A A_36 := kpI.tr (J := [3, 4, 5, 12, 14, 15]) (kpI.up (kpI.up KI_4 (by decide)) (by decide)) z_36.1 (by decide) (by decide)
    have f_36 : A_36 5 = (if 1 ≤ ((num T po).1) ∧ ((num T po).1) ≤ 30 then A 5 else 0) := by have h : A_36 5 = (if 1 ≤ ((num T po).1) ∧ ((num T po).1) ≤ 30 then (va_up (va_up A_4 12 2) 15 r_22) 5 else 0) := z_36.2; rw [show (va_up (va_up A_4 12 2) 15 r_22) 5 = A 5 from ((z_4.1 5 (by decide)).trans rfl)] at h; exact h
    have KJ_36 : kpI [3, 4, 5, 12, 15] A A_36 := kpI.tr (J := [3, 4, 5, 12, 15]) (kpI.up (kpI.up (kpI.tr (J := [3, 4, 5, 12, 15]) (kpI.rf (J := [3, 4, 5, 12, 15]) (I := A)) z_4.1 (by decide) (by decide)) (by decide)) (by decide)) z_36.1 (by decide) (by decide)
    refine lv_aload_n hx hb dX4_readCycle_39 rfl (lv_at hl 0 rfl) ?_
    refine kg_X4_text X w dX4_readCycle_40 ?_
    refine lv_bipush (v := 58) hx hb dX4_readCycle_43 (by decide) ?_
    refine kk_cCI X w (c_X7_accept l D t b n σ0 A_36 B P T 58 58 (show (58 : Int32).toInt = 58 from rfl) (by exact h_1.trans (txC_cg (KI_36 2 (by decide)) ((kpR.rf (J := [1, 2, 3]) (R := B)) 0 (by decide))).symm) (by exact h_2.cg (KI_36 2 (by decide)) ((kpR.rf (J := [1, 2, 3]) (R := B)) 0 (by decide))) (by have h2 : (A_36 2).toInt = (A 2).toInt := (congrArg Int32.toInt (KI_36 2 (by decide))); have h3 : (A_36 3).toInt = (num T po).2 := ((congrArg Int32.toInt ((z_36.1 3 (by decide)).trans rfl)).trans p_4); rw [h2, h3]; exact ⟨Int.le_trans h_4.1 Q_4.1, Q_4.2⟩) (by first | assumption | omega)) v_X4_114 rfl rfl rfl ⟨Nat.le_of_ble_eq_true rfl, Nat.le_of_ble_eq_true rfl⟩ rfl hl.1 (Nat.le_of_ble_eq_true rfl) dX4_readCycle_45 ⟨Nat.zero_le _, Nat.zero_le _⟩ (fun r_45 A_45 H locs z_45 w => ?_)
    have KI_45 : kpI [3, 4, 5, 12, 14, 15] A A_45 := kpI.tr (J := [3, 4, 5, 12, 14, 15]) KI_36 z_45.1 (by decide) (by decide)
    have q_45 : (A_45 3).toInt = (if T ((num T po).2) = 58 then ((num T po).2) + 1 else ((num T po).2)) := by have h : (A_45 3).toInt = (if T ((A_36 3).toInt) = 58 then ((A_36 3).toInt) + 1 else ((A_36 3).toInt)) := z_45.2.2.1; rw [show (A_36 3).toInt = (num T po).2 from ((congrArg Int32.toInt ((z_36.1 3 (by decide)).trans rfl)).trans p_4)] at h; exact h
    have b_45 : r_45 = bI (decide (T ((num T po).2) = 58)) := by have h : r_45 = bI (decide (T ((A_36 3).toInt) = 58)) := z_45.2.1; rw [show (A_36 3).toInt = (num T po).2 from ((congrArg Int32.toInt ((z_36.1 3 (by decide)).trans rfl)).trans p_4)] at h; exact h
    have Q_45 : po ≤ (if T ((num T po).2) = 58 then ((num T po).2) + 1 else ((num T po).2)) ∧ (if T ((num T po).2) = 58 then ((num T po).2) + 1 else ((num T po).2)) ≤ (A 2).toInt := ⟨(by have h := Q_4; split <;> omega), (by rw [← q_45]; exact Int.le_trans z_45.2.2.2 (Int.le_of_eq (congrArg Int32.toInt (KI_36 2 (by decide)))))⟩
    refine lv_if_eq (tgt := 58) hx hb dX4_readCycle_48 (by decide) (fun c_48 => ?_) (fun c_48 => ?_)
    · skip
      rw [b_45] at c_48
      have k_48 := bI_f.mp c_48
      have p_45 : (A_45 3).toInt = (num T po).2 := q_45.trans (if_neg k_48)
      have Q_45 : po ≤ (num T po).2 ∧ (num T po).2 ≤ (A 2).toInt := by have h := Q_45; rw [show (if T ((num T po).2) = 58 then ((num T po).2) + 1 else ((num T po).2)) = (num T po).2 from q_45.symm.trans p_45] at h; exact h
      refine lv_iconst (v := 0) hx hb dX4_readCycle_58 (by decide) ?_
      exact q_cret (post := (fun z n1 σ1 => n1 = n ∧ ∃ A1 B1, σ1 = cS t b σ0 A1 B1 P ∧ B1 = B ∧ kpI [3, 4, 5, 12, 14, 15] A A1 ∧ z = bI (decide ((sCyc T po q false).1 = true)) ∧ (A1 3).toInt = (sCyc T po q false).2.1 ∧ ((A 3).toInt ≤ (A1 3).toInt ∧ (A1 3).toInt ≤ (A 2).toInt) ∧ ((sCyc T po q false).1 = true → rdC (sCyc T po q false).2.2.1 (sCyc T po q false).2.2.2 A1 B))) X w dX4_readCycle_59 (rfl) ⟨rfl, _, _, rfl, rfl, by have e : (sCyc T po q false).1 = false ∧ (sCyc T po q false).2.1 = (num T po).2 := (by unfold sCyc; rw [if_pos k_7, if_neg k_48]; exact ⟨rfl, rfl⟩); exact ⟨KI_45, bI_0 (by rw [e.1]; decide), ((congrArg Int32.toInt rfl).trans p_45).trans e.2.symm, (by have h3 : (A_45 3).toInt = (num T po).2 := ((congrArg Int32.toInt rfl).trans p_45); rw [h3, h_3]; exact Q_45), fun h => absurd (h.symm.trans e.1) (by decide)⟩⟩
    · skip
      rw [b_45] at c_48
      have k_48 := bI_t.mp c_48
      have p_45 : (A_45 3).toInt = ((num T po).2) + 1 := q_45.trans (if_pos k_48)
      have Q_45 : po ≤ ((num T po).2) + 1 ∧ ((num T po).2) + 1 ≤ (A 2).toInt := by have h := Q_45; rw [show (if T ((num T po).2) = 58 then ((num T po).2) + 1 else ((num T po).2)) = ((num T po).2) + 1 from q_45.symm.trans p_45] at h; exact h
      have hCc : rdC (upd (upd q 19 2) 28 (i3 (num T po).1)) false A_36 B := rdC_cyc h_5 h_6 (kpI.wk KJ_36 (by decide)) rfl ((z_36.1 12 (by decide)).trans rfl) (((z_36.1 15 (by decide)).trans rfl).trans i_22) (by rw [i3_t]; exact f_36)
      have hCd : rdC (upd (upd q 19 2) 28 (i3 (num T po).1)) false A_45 B := rdC_cg hCc (kpI.wk z_45.1 (by decide))
      have hv1 := sNumB (T := T) po
      have h28 : ((upd (upd q 19 2) 28 (i3 (num T po).1)) 28).toInt = (num T po).1 := by rw [upd_s, i3_t]
      refine lv_aload_n hx hb dX4_readCycle_51 rfl (lv_at hl 0 rfl) ?_
      refine kk_cCI X w (c_X4_readRemainder l D t b n σ0 A_45 B P T (((num T po).2) + 1) (upd (upd q 19 2) 28 (i3 (num T po).1)) false (by exact h_1.trans (txC_cg (KI_45 2 (by decide)) ((kpR.rf (J := [1, 2, 3]) (R := B)) 0 (by decide))).symm) (by exact h_2.cg (KI_45 2 (by decide)) ((kpR.rf (J := [1, 2, 3]) (R := B)) 0 (by decide))) (by exact ((congrArg Int32.toInt rfl).trans p_45)) (by have h2 : (A_45 2).toInt = (A 2).toInt := (congrArg Int32.toInt (KI_45 2 (by decide))); rw [h2]; exact ⟨Int.le_trans h_4.1 Q_45.1, Q_45.2⟩) (by exact hCd) (by exact (upd_n _ _ (by decide)).trans (upd_s _ _ _)) (by rw [h28]; omega)) v_X4_159 rfl rfl rfl ⟨Nat.le_of_ble_eq_true rfl, Nat.le_of_ble_eq_true rfl⟩ rfl hl.1 (Nat.le_of_ble_eq_true rfl) dX4_readCycle_52 ⟨Nat.zero_le _, Nat.zero_le _⟩ (fun r_52 A_52 H locs z_52 w => ?_)
      have KI_52 : kpI [3, 4, 5, 12, 14, 15] A A_52 := kpI.tr (J := [3, 4, 5, 12, 14, 15]) KI_45 z_52.1 (by decide) (by decide)
      have q_52 : (A_52 3).toInt = (sR1 T (((num T po).2) + 1) (upd (upd q 19 2) 28 (i3 (num T po).1)) false).2.1 := z_52.2.2.1
      have b_52 : r_52 = bI (decide ((sR1 T (((num T po).2) + 1) (upd (upd q 19 2) 28 (i3 (num T po).1)) false).1 = true)) := z_52.2.1
      have Q_52 : po ≤ (sR1 T (((num T po).2) + 1) (upd (upd q 19 2) 28 (i3 (num T po).1)) false).2.1 ∧ (sR1 T (((num T po).2) + 1) (upd (upd q 19 2) 28 (i3 (num T po).1)) false).2.1 ≤ (A 2).toInt := ⟨(by have h : (A_45 3).toInt ≤ (A_52 3).toInt := z_52.2.2.2.1.1; have h3 : (A_45 3).toInt = ((num T po).2) + 1 := ((congrArg Int32.toInt rfl).trans p_45); have h4 := Q_45; rw [← q_52]; omega), (by rw [← q_52]; exact Int.le_trans z_52.2.2.2.1.2 (Int.le_of_eq (congrArg Int32.toInt (KI_45 2 (by decide)))))⟩
      have S_52 := z_52.2.2.2.2
      refine lv_if_ne (tgt := 60) hx hb dX4_readCycle_55 (by decide) (fun c_55 => ?_) (fun c_55 => ?_)
      · skip
        rw [b_52] at c_55
        have k_55 := bI_t.mp c_55
        have C_52 := S_52 k_55
        have hr1 := sR1_t k_55
        have hr19 : (sR1 T ((num T po).2 + 1) (upd (upd q 19 2) 28 (i3 (num T po).1)) false).2.2.1 19 = 2 := by rw [hr1.2]; exact (sRem1_j _ _ (by decide)).trans ((upd_n _ _ (by decide)).trans (upd_s _ _ _))
        have hr28 : 0 ≤ ((sR1 T ((num T po).2 + 1) (upd (upd q 19 2) 28 (i3 (num T po).1)) false).2.2.1 28).toInt := by rw [hr1.2]; show 0 ≤ (sRem1 _ _ 28).toInt; rw [sRem1_j _ _ (by decide), h28]; omega
        refine lv_iconst (v := 0) hx hb dX4_readCycle_60 (by decide) ?_
        refine lv_istore_n (lv' := [(1, .int 0), (0, .ref (b + 3))]) hx hb dX4_readCycle_61 rfl hl (by decide) rfl (fun ls hl => ?_)
        refine q_loop (α := Int32 × Int × (Nat → Int32) × Bool × (Nat → Int32)) (fun a => a.1.toInt = a.2.1 ∧ ((0 ≤ a.2.1 ∧ a.2.1 ≤ 100) ∧ kpI [3, 4, 5, 12, 14, 15] A a.2.2.2.2 ∧ rdC a.2.2.1 a.2.2.2.1 a.2.2.2.2 B ∧ a.2.2.1 19 = 2 ∧ 0 ≤ (a.2.2.1 28).toInt ∧ sCyc T po q false = (if T (a.2.2.2.2 3).toInt = 44 then sRem T (99 - a.2.1).toNat ((a.2.2.2.2 3).toInt + 1) a.2.2.1 a.2.2.2.1 else (true, (a.2.2.2.2 3).toInt, a.2.2.1, a.2.2.2.1)) ∧ (po ≤ (a.2.2.2.2 3).toInt ∧ 2 * a.2.1 ≤ (a.2.2.2.2 3).toInt) ∧ (a.2.2.2.2 3).toInt ≤ (A 2).toInt)) (fun a => (100 - a.2.1).toNat) (fun a => ∀ (H : Heap) (locs : List Loc), qW D b n (cS t b σ0 a.2.2.2.2 B P) s H locs → ∀ ls : Array Slot, lv_has ls 2 [(1, .int a.1), (0, .ref (b + 3))] → W p l e (qR 4 0 0) s m args below meth c H locs 0 0 (MQ below (va_Qi (S := Nat × qM) (fun z u => (fun z n1 σ1 => n1 = n ∧ ∃ A1 B1, σ1 = cS t b σ0 A1 B1 P ∧ B1 = B ∧ kpI [3, 4, 5, 12, 14, 15] A A1 ∧ z = bI (decide ((sCyc T po q false).1 = true)) ∧ (A1 3).toInt = (sCyc T po q false).2.1 ∧ ((A 3).toInt ≤ (A1 3).toInt ∧ (A1 3).toInt ≤ (A 2).toInt) ∧ ((sCyc T po q false).1 = true → rdC (sCyc T po q false).2.2.1 (sCyc T po q false).2.2.2 A1 B)) z u.1 u.2) (fun u T => WB D b u.1 u.2 T.heap) (fun q => b ≤ q)) args s 0 0 (fun q => b ≤ q)) (F0 m 62 ls [])) ?_ ⟨0, 0, (sR1 T ((num T po).2 + 1) (upd (upd q 19 2) 28 (i3 (num T po).1)) false).2.2.1, (sR1 T ((num T po).2 + 1) (upd (upd q 19 2) 28 (i3 (num T po).1)) false).2.2.2, A_52⟩ ⟨(show (0 : Int32).toInt = 0 from rfl), by dsimp only; exact ⟨by omega, KI_52, C_52, hr19, hr28, (by rw [q_52]; unfold sCyc; rw [if_pos k_7, if_pos k_48, show (100 : Nat) = 99 + 1 from rfl, sRem, if_pos k_55]; congr 1; rw [hr1.2]), ⟨(by rw [q_52]; exact Q_52.1), (by rw [q_52]; have := Q_52.1; omega)⟩, (by rw [q_52]; exact Q_52.2)⟩⟩ _ _ w ls (lv_sub hl [0, 1] rfl)
        rintro ⟨v_i, i, qq, gg, I_L62⟩ ⟨q_i, inv_62⟩ ih_62 H locs w ls hl
        dsimp only at q_i inv_62 hl w
        refine lv_iload_n hx hb dX4_readCycle_62 rfl (lv_at hl 0 rfl) ?_
        refine lv_bipush (v := 100) hx hb dX4_readCycle_63 (by decide) ?_
        refine lv_icmp_ge (tgt := 95) hx hb dX4_readCycle_65 (by decide) (fun c_65 => ?_) (fun c_65 => ?_)
        · skip
          have k_65 : 100 ≤ i := (g_le (show (100 : Int32).toInt = 100 from rfl) q_i).mp c_65
          exfalso; have hL := h_2.1; omega
        · skip
          have k_65 : ¬ (100 ≤ i) := fun h => c_65 ((g_le (show (100 : Int32).toInt = 100 from rfl) q_i).mpr h)
          refine lv_aload_n hx hb dX4_readCycle_68 rfl (lv_at hl 1 rfl) ?_
          refine kg_X4_text X w dX4_readCycle_69 ?_
          refine lv_bipush (v := 44) hx hb dX4_readCycle_72 (by decide) ?_
          refine kk_cCI X w (c_X7_accept l D t b n σ0 I_L62 B P T 44 44 (show (44 : Int32).toInt = 44 from rfl) (by exact h_1.trans (txC_cg (inv_62.2.1 2 (by decide)) ((kpR.rf (J := [1, 2, 3]) (R := B)) 0 (by decide))).symm) (by exact h_2.cg (inv_62.2.1 2 (by decide)) ((kpR.rf (J := [1, 2, 3]) (R := B)) 0 (by decide))) (by have h2 : (I_L62 2).toInt = (A 2).toInt := (congrArg Int32.toInt (inv_62.2.1 2 (by decide))); have h3 : (I_L62 3).toInt = (I_L62 3).toInt := ((congrArg Int32.toInt rfl).trans rfl); rw [h2, h3]; exact ⟨Int.le_trans h_4.1 (And.intro inv_62.2.2.2.2.2.2.1.1 inv_62.2.2.2.2.2.2.2).1, (And.intro inv_62.2.2.2.2.2.2.1.1 inv_62.2.2.2.2.2.2.2).2⟩) (by first | assumption | omega)) v_X4_114 rfl rfl rfl ⟨Nat.le_of_ble_eq_true rfl, Nat.le_of_ble_eq_true rfl⟩ rfl hl.1 (Nat.le_of_ble_eq_true rfl) dX4_readCycle_74 ⟨Nat.zero_le _, Nat.zero_le _⟩ (fun r_74 A_74 H locs z_74 w => ?_)
          have KI_74 : kpI [3, 4, 5, 12, 14, 15] A A_74 := kpI.tr (J := [3, 4, 5, 12, 14, 15]) inv_62.2.1 z_74.1 (by decide) (by decide)
          have q_74 : (A_74 3).toInt = (if T ((I_L62 3).toInt) = 44 then ((I_L62 3).toInt) + 1 else ((I_L62 3).toInt)) := by have h : (A_74 3).toInt = (if T ((I_L62 3).toInt) = 44 then ((I_L62 3).toInt) + 1 else ((I_L62 3).toInt)) := z_74.2.2.1; rw [show (I_L62 3).toInt = (I_L62 3).toInt from ((congrArg Int32.toInt rfl).trans rfl)] at h; exact h
          have b_74 : r_74 = bI (decide (T ((I_L62 3).toInt) = 44)) := by have h : r_74 = bI (decide (T ((I_L62 3).toInt) = 44)) := z_74.2.1; rw [show (I_L62 3).toInt = (I_L62 3).toInt from ((congrArg Int32.toInt rfl).trans rfl)] at h; exact h
          have Q_74 : po ≤ (if T ((I_L62 3).toInt) = 44 then ((I_L62 3).toInt) + 1 else ((I_L62 3).toInt)) ∧ (if T ((I_L62 3).toInt) = 44 then ((I_L62 3).toInt) + 1 else ((I_L62 3).toInt)) ≤ (A 2).toInt := ⟨(by have h := (And.intro inv_62.2.2.2.2.2.2.1.1 inv_62.2.2.2.2.2.2.2); split <;> omega), (by rw [← q_74]; exact Int.le_trans z_74.2.2.2 (Int.le_of_eq (congrArg Int32.toInt (inv_62.2.1 2 (by decide)))))⟩
          refine lv_if_eq (tgt := 95) hx hb dX4_readCycle_77 (by decide) (fun c_77 => ?_) (fun c_77 => ?_)
          · skip
            rw [b_74] at c_77
            have k_77 := bI_f.mp c_77
            have p_74 : (A_74 3).toInt = (I_L62 3).toInt := q_74.trans (if_neg k_77)
            have Q_74 : po ≤ (I_L62 3).toInt ∧ (I_L62 3).toInt ≤ (A 2).toInt := by have h := Q_74; rw [show (if T ((I_L62 3).toInt) = 44 then ((I_L62 3).toInt) + 1 else ((I_L62 3).toInt)) = (I_L62 3).toInt from q_74.symm.trans p_74] at h; exact h
            refine lv_iconst (v := 1) hx hb dX4_readCycle_95 (by decide) ?_
            exact q_cret (post := (fun z n1 σ1 => n1 = n ∧ ∃ A1 B1, σ1 = cS t b σ0 A1 B1 P ∧ B1 = B ∧ kpI [3, 4, 5, 12, 14, 15] A A1 ∧ z = bI (decide ((sCyc T po q false).1 = true)) ∧ (A1 3).toInt = (sCyc T po q false).2.1 ∧ ((A 3).toInt ≤ (A1 3).toInt ∧ (A1 3).toInt ≤ (A 2).toInt) ∧ ((sCyc T po q false).1 = true → rdC (sCyc T po q false).2.2.1 (sCyc T po q false).2.2.2 A1 B))) X w dX4_readCycle_96 (rfl) ⟨rfl, _, _, rfl, rfl, by have e : sCyc T po q false = (true, (I_L62 3).toInt, qq, gg) := (by rw [inv_62.2.2.2.2.2.1, if_neg k_77]); rw [e]; exact ⟨KI_74, rfl, ((congrArg Int32.toInt rfl).trans p_74), (by have h3 : (A_74 3).toInt = (I_L62 3).toInt := ((congrArg Int32.toInt rfl).trans p_74); rw [h3, h_3]; exact Q_74), fun _ => rdC_cg inv_62.2.2.1 (kpI.wk z_74.1 (by decide))⟩⟩
          · skip
            rw [b_74] at c_77
            have k_77 := bI_t.mp c_77
            have p_74 : (A_74 3).toInt = ((I_L62 3).toInt) + 1 := q_74.trans (if_pos k_77)
            have Q_74 : po ≤ ((I_L62 3).toInt) + 1 ∧ ((I_L62 3).toInt) + 1 ≤ (A 2).toInt := by have h := Q_74; rw [show (if T ((I_L62 3).toInt) = 44 then ((I_L62 3).toInt) + 1 else ((I_L62 3).toInt)) = ((I_L62 3).toInt) + 1 from q_74.symm.trans p_74] at h; exact h
            have hlt := txC_lt (A := A) (B := B) (p := (I_L62 3).toInt) (by rw [← h_1]; omega)
            have hL := h_2.1
            refine lv_aload_n hx hb dX4_readCycle_80 rfl (lv_at hl 1 rfl) ?_
            refine kk_cCI X w (c_X4_readRemainder l D t b n σ0 A_74 B P T (((I_L62 3).toInt) + 1) qq gg (by exact h_1.trans (txC_cg (KI_74 2 (by decide)) ((kpR.rf (J := [1, 2, 3]) (R := B)) 0 (by decide))).symm) (by exact h_2.cg (KI_74 2 (by decide)) ((kpR.rf (J := [1, 2, 3]) (R := B)) 0 (by decide))) (by exact ((congrArg Int32.toInt rfl).trans p_74)) (by have h2 : (A_74 2).toInt = (A 2).toInt := (congrArg Int32.toInt (KI_74 2 (by decide))); rw [h2]; exact ⟨Int.le_trans h_4.1 Q_74.1, Q_74.2⟩) (by exact rdC_cg inv_62.2.2.1 (kpI.wk z_74.1 (by decide))) (by exact inv_62.2.2.2.1) (by exact inv_62.2.2.2.2.1)) v_X4_159 rfl rfl rfl ⟨Nat.le_of_ble_eq_true rfl, Nat.le_of_ble_eq_true rfl⟩ rfl hl.1 (Nat.le_of_ble_eq_true rfl) dX4_readCycle_81 ⟨Nat.zero_le _, Nat.zero_le _⟩ (fun r_81 A_81 H locs z_81 w => ?_)
            have KI_81 : kpI [3, 4, 5, 12, 14, 15] A A_81 := kpI.tr (J := [3, 4, 5, 12, 14, 15]) KI_74 z_81.1 (by decide) (by decide)
            have q_81 : (A_81 3).toInt = (sR1 T (((I_L62 3).toInt) + 1) qq gg).2.1 := z_81.2.2.1
            have b_81 : r_81 = bI (decide ((sR1 T (((I_L62 3).toInt) + 1) qq gg).1 = true)) := z_81.2.1
            have Q_81 : po ≤ (sR1 T (((I_L62 3).toInt) + 1) qq gg).2.1 ∧ (sR1 T (((I_L62 3).toInt) + 1) qq gg).2.1 ≤ (A 2).toInt := ⟨(by have h : (A_74 3).toInt ≤ (A_81 3).toInt := z_81.2.2.2.1.1; have h3 : (A_74 3).toInt = ((I_L62 3).toInt) + 1 := ((congrArg Int32.toInt rfl).trans p_74); have h4 := Q_74; rw [← q_81]; omega), (by rw [← q_81]; exact Int.le_trans z_81.2.2.2.1.2 (Int.le_of_eq (congrArg Int32.toInt (KI_74 2 (by decide)))))⟩
            have S_81 := z_81.2.2.2.2
            refine lv_if_ne (tgt := 89) hx hb dX4_readCycle_84 (by decide) (fun c_84 => ?_) (fun c_84 => ?_)
            · skip
              rw [b_81] at c_84
              have k_84 := bI_t.mp c_84
              have C_81 := S_81 k_84
              have hr1 := sR1_t k_84
              have hr19 : (sR1 T ((I_L62 3).toInt + 1) qq gg).2.2.1 19 = 2 := by rw [hr1.2]; exact (sRem1_j _ _ (by decide)).trans inv_62.2.2.2.1
              have hr28 : 0 ≤ ((sR1 T ((I_L62 3).toInt + 1) qq gg).2.2.1 28).toInt := by rw [hr1.2]; show 0 ≤ (sRem1 _ _ 28).toInt; rw [sRem1_j _ _ (by decide)]; exact inv_62.2.2.2.2.1
              obtain ⟨x_89, e_89⟩ : ∃ z : Int32, z = (v_i + 1) := ⟨_, rfl⟩
              have p_89 : x_89.toInt = (i + 1) := by rw [e_89]; exact t_add q_i (show (1 : Int32).toInt = 1 from rfl) (by omega) (by omega)
              refine lv_iinc (v := x_89) (lv' := [(1, .int x_89), (0, .ref (b + 3))]) hx hb dX4_readCycle_89 hl (k := 0) rfl (by rw [e_89]; rfl) (by decide) rfl (fun ls hl => ?_)
              refine lv_goto (tgt := 62) hx hb dX4_readCycle_92 (by decide) ?_
              refine ih_62 ⟨x_89, (i + 1), (sR1 T ((I_L62 3).toInt + 1) qq gg).2.2.1, (sR1 T ((I_L62 3).toInt + 1) qq gg).2.2.2, A_81⟩ ⟨p_89, by dsimp only; exact ⟨by omega, KI_81, C_81, hr19, hr28, (by rw [inv_62.2.2.2.2.2.1, if_pos k_77, sRem_s (by omega), if_pos k_84, q_81]; congr 1; rw [hr1.2]), ⟨(by rw [q_81]; exact Q_81.1), (by rw [q_81, hr1.2]; have := num_gt hr1.1; show 2 * (i + 1) ≤ (num T ((I_L62 3).toInt + 1)).2; omega)⟩, (by rw [q_81]; exact Q_81.2)⟩⟩ (by dsimp only; omega) _ _ w ls (lv_sub hl [0, 1] rfl)
            · skip
              rw [b_81] at c_84
              have k_84 := bI_f.mp c_84
              refine lv_iconst (v := 0) hx hb dX4_readCycle_87 (by decide) ?_
              exact q_cret (post := (fun z n1 σ1 => n1 = n ∧ ∃ A1 B1, σ1 = cS t b σ0 A1 B1 P ∧ B1 = B ∧ kpI [3, 4, 5, 12, 14, 15] A A1 ∧ z = bI (decide ((sCyc T po q false).1 = true)) ∧ (A1 3).toInt = (sCyc T po q false).2.1 ∧ ((A 3).toInt ≤ (A1 3).toInt ∧ (A1 3).toInt ≤ (A 2).toInt) ∧ ((sCyc T po q false).1 = true → rdC (sCyc T po q false).2.2.1 (sCyc T po q false).2.2.2 A1 B))) X w dX4_readCycle_88 (rfl) ⟨rfl, _, _, rfl, rfl, by have e : (sCyc T po q false).1 = false ∧ (sCyc T po q false).2.1 = (sR1 T (((I_L62 3).toInt) + 1) qq gg).2.1 := (by rw [inv_62.2.2.2.2.2.1, if_pos k_77, sRem_s (by omega), if_neg k_84]; exact ⟨b_f k_84, rfl⟩); exact ⟨KI_81, bI_0 (by rw [e.1]; decide), ((congrArg Int32.toInt rfl).trans q_81).trans e.2.symm, (by have h3 : (A_81 3).toInt = (sR1 T (((I_L62 3).toInt) + 1) qq gg).2.1 := ((congrArg Int32.toInt rfl).trans q_81); rw [h3, h_3]; exact Q_81), fun h => absurd (h.symm.trans e.1) (by decide)⟩⟩
      · skip
        rw [b_52] at c_55
        have k_55 := bI_f.mp c_55
        refine lv_iconst (v := 0) hx hb dX4_readCycle_58 (by decide) ?_
        exact q_cret (post := (fun z n1 σ1 => n1 = n ∧ ∃ A1 B1, σ1 = cS t b σ0 A1 B1 P ∧ B1 = B ∧ kpI [3, 4, 5, 12, 14, 15] A A1 ∧ z = bI (decide ((sCyc T po q false).1 = true)) ∧ (A1 3).toInt = (sCyc T po q false).2.1 ∧ ((A 3).toInt ≤ (A1 3).toInt ∧ (A1 3).toInt ≤ (A 2).toInt) ∧ ((sCyc T po q false).1 = true → rdC (sCyc T po q false).2.2.1 (sCyc T po q false).2.2.2 A1 B))) X w dX4_readCycle_59 (rfl) ⟨rfl, _, _, rfl, rfl, by have e : (sCyc T po q false).1 = false ∧ (sCyc T po q false).2.1 = (sR1 T (((num T po).2) + 1) (upd (upd q 19 2) 28 (i3 (num T po).1)) false).2.1 := (by unfold sCyc; rw [if_pos k_7, if_pos k_48, show (100 : Nat) = 99 + 1 from rfl, sRem, if_neg k_55]; exact ⟨b_f k_55, rfl⟩); exact ⟨KI_52, bI_0 (by rw [e.1]; decide), ((congrArg Int32.toInt rfl).trans q_52).trans e.2.symm, (by have h3 : (A_52 3).toInt = (sR1 T (((num T po).2) + 1) (upd (upd q 19 2) 28 (i3 (num T po).1)) false).2.1 := ((congrArg Int32.toInt rfl).trans q_52); rw [h3, h_3]; exact Q_52), fun h => absurd (h.symm.trans e.1) (by decide)⟩⟩
  · skip
    rw [b_4] at c_7
    have k_7 := bI_f.mp c_7
    have p_4 : (A_4 3).toInt = po := q_4.trans (congrArg Prod.snd (numF_e (v := 0) 6 k_7))
    have Q_4 : po ≤ po ∧ po ≤ (A 2).toInt := by have h := Q_4; rw [show (num T po).2 = po from q_4.symm.trans p_4] at h; exact h
    refine lv_iconst (v := 0) hx hb dX4_readCycle_10 (by decide) ?_
    exact q_cret (post := (fun z n1 σ1 => n1 = n ∧ ∃ A1 B1, σ1 = cS t b σ0 A1 B1 P ∧ B1 = B ∧ kpI [3, 4, 5, 12, 14, 15] A A1 ∧ z = bI (decide ((sCyc T po q false).1 = true)) ∧ (A1 3).toInt = (sCyc T po q false).2.1 ∧ ((A 3).toInt ≤ (A1 3).toInt ∧ (A1 3).toInt ≤ (A 2).toInt) ∧ ((sCyc T po q false).1 = true → rdC (sCyc T po q false).2.2.1 (sCyc T po q false).2.2.2 A1 B))) X w dX4_readCycle_11 (rfl) ⟨rfl, _, _, rfl, rfl, by have e : (sCyc T po q false).1 = false ∧ (sCyc T po q false).2.1 = po := (by unfold sCyc; rw [if_neg k_7]; exact ⟨rfl, rfl⟩); exact ⟨KI_4, bI_0 (by rw [e.1]; decide), ((congrArg Int32.toInt rfl).trans p_4).trans e.2.symm, (by have h3 : (A_4 3).toInt = po := ((congrArg Int32.toInt rfl).trans p_4); rw [h3, h_3]; exact Q_4), fun h => absurd (h.symm.trans e.1) (by decide)⟩⟩

set_option maxHeartbeats 2000000 in
set_option maxRecDepth 100000 in
theorem c_X4_reset (l : Launch) (D : va_G) (t : Nat → ClassId) (b n : Nat) (σ0 : qM) (A : Nat → Int32) (B : Nat → Nat → Int32) (P : Nat → Nat → Option Nat) : kV l yX4_reset cX4_reset 1 1 D t b n σ0 A B P [.ref (b + 3)] (fun A1 B1 => B1 = B ∧ kpI [3, 4, 5, 6, 7, 8, 9, 10, 11, 12, 13, 14, 15, 16, 17, 18] A A1 ∧ (A1 3).toInt = 0 ∧ rdC row0 false A1 B) := by
  refine qV.of (by decide +kernel) (Nat.le_of_ble_eq_true rfl) (fun p e s m args below meth c X w _ ls hl => ?_)
  have hx := X.1
  have hb := X.2.1
  have hl : lv_has ls 1 [(0, .ref (b + 3))] := hl
  refine lv_aload_n hx hb dX4_reset_0 rfl (lv_at hl 0 rfl) ?_
  refine kg_X4_text X w dX4_reset_1 ?_
  refine kk_cVI X w (c_X7_rewind l D t b n σ0 A B P ) v_X4_86 rfl rfl rfl ⟨Nat.le_of_ble_eq_true rfl, Nat.le_of_ble_eq_true rfl⟩ rfl hl.1 (Nat.le_of_ble_eq_true rfl) dX4_reset_4 ⟨Nat.zero_le _, Nat.zero_le _⟩ (fun A_4 H locs z_4 w => ?_)
  subst z_4
  refine lv_aload_n hx hb dX4_reset_7 rfl (lv_at hl 0 rfl) ?_
  refine lv_iconst (v := 1) hx hb dX4_reset_8 (by decide) ?_
  refine kp_X4_possible (v := 1) X w dX4_reset_9 (rfl) (rfl) (fun H locs w => ?_)
  refine lv_aload_n hx hb dX4_reset_12 rfl (lv_at hl 0 rfl) ?_
  refine lv_iconst (v := 0) hx hb dX4_reset_13 (by decide) ?_
  refine kp_X4_monthCount (v := 0) X w dX4_reset_14 (fun H locs w => ?_)
  refine lv_aload_n hx hb dX4_reset_17 rfl (lv_at hl 0 rfl) ?_
  refine lv_iconst (v := 0) hx hb dX4_reset_18 (by decide) ?_
  refine kp_X4_commonLength (v := 0) X w dX4_reset_19 (fun H locs w => ?_)
  refine lv_aload_n hx hb dX4_reset_22 rfl (lv_at hl 0 rfl) ?_
  refine lv_iconst (v := 0) hx hb dX4_reset_23 (by decide) ?_
  refine kp_X4_first (v := 0) X w dX4_reset_24 (fun H locs w => ?_)
  refine lv_aload_n hx hb dX4_reset_27 rfl (lv_at hl 0 rfl) ?_
  refine lv_iconst (v := 0) hx hb dX4_reset_28 (by decide) ?_
  refine kp_X4_leap (v := 0) X w dX4_reset_29 (fun H locs w => ?_)
  refine lv_aload_n hx hb dX4_reset_32 rfl (lv_at hl 0 rfl) ?_
  refine lv_iconst (v := 0) hx hb dX4_reset_33 (by decide) ?_
  refine kp_X4_leapMonth (v := 0) X w dX4_reset_34 (fun H locs w => ?_)
  refine lv_aload_n hx hb dX4_reset_37 rfl (lv_at hl 0 rfl) ?_
  refine lv_iconst (v := 0) hx hb dX4_reset_38 (by decide) ?_
  refine kp_X4_extra (v := 0) X w dX4_reset_39 (fun H locs w => ?_)
  refine lv_aload_n hx hb dX4_reset_42 rfl (lv_at hl 0 rfl) ?_
  refine lv_iconst (v := 0) hx hb dX4_reset_43 (by decide) ?_
  refine kp_X4_rule (v := 0) X w dX4_reset_44 (fun H locs w => ?_)
  refine lv_aload_n hx hb dX4_reset_47 rfl (lv_at hl 0 rfl) ?_
  refine lv_iconst (v := 0) hx hb dX4_reset_48 (by decide) ?_
  refine kp_X4_divisorCount (v := 0) X w dX4_reset_49 (fun H locs w => ?_)
  refine lv_aload_n hx hb dX4_reset_52 rfl (lv_at hl 0 rfl) ?_
  refine lv_iconst (v := 0) hx hb dX4_reset_53 (by decide) ?_
  refine kp_X4_remainders (v := 0) X w dX4_reset_54 (fun H locs w => ?_)
  refine lv_aload_n hx hb dX4_reset_57 rfl (lv_at hl 0 rfl) ?_
  refine lv_iconst (v := 1) hx hb dX4_reset_58 (by decide) ?_
  refine kp_X4_period (v := 1) X w dX4_reset_59 (fun H locs w => ?_)
  refine lv_aload_n hx hb dX4_reset_62 rfl (lv_at hl 0 rfl) ?_
  refine lv_bipush (v := 7) hx hb dX4_reset_63 (by decide) ?_
  refine kp_X4_weekLength (v := 7) X w dX4_reset_65 (fun H locs w => ?_)
  refine lv_aload_n hx hb dX4_reset_68 rfl (lv_at hl 0 rfl) ?_
  refine lv_iconst (v := 0) hx hb dX4_reset_69 (by decide) ?_
  refine kp_X4_zeroWeekday (v := 0) X w dX4_reset_70 (fun H locs w => ?_)
  refine lv_aload_n hx hb dX4_reset_73 rfl (lv_at hl 0 rfl) ?_
  refine lv_iconst (v := 4) hx hb dX4_reset_74 (by decide) ?_
  refine kp_X4_weekDay (v := 4) X w dX4_reset_75 (fun H locs w => ?_)
  exact q_vret (post := (fun n1 σ1 => n1 = n ∧ ∃ A1 B1, σ1 = cS t b σ0 A1 B1 P ∧ B1 = B ∧ kpI [3, 4, 5, 6, 7, 8, 9, 10, 11, 12, 13, 14, 15, 16, 17, 18] A A1 ∧ (A1 3).toInt = 0 ∧ rdC row0 false A1 B)) X w dX4_reset_78 ⟨rfl, _, _, rfl, rfl, by exact ⟨kpI.up (kpI.up (kpI.up (kpI.up (kpI.up (kpI.up (kpI.up (kpI.up (kpI.up (kpI.up (kpI.up (kpI.up (kpI.up (kpI.up (kpI.up (kpI.rf) (by decide)) (by decide)) (by decide)) (by decide)) (by decide)) (by decide)) (by decide)) (by decide)) (by decide)) (by decide)) (by decide)) (by decide)) (by decide)) (by decide)) (by decide), rfl, rdC_0 rfl rfl rfl rfl rfl rfl rfl rfl rfl rfl rfl rfl rfl⟩⟩
