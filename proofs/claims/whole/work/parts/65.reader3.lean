set_option maxHeartbeats 2000000 in
set_option maxRecDepth 100000 in
theorem c_X4_readParts (l : Launch) (D : va_G) (t : Nat → ClassId) (b n : Nat) (σ0 : qM) (A : Nat → Int32) (B : Nat → Nat → Int32) (P : Nat → Nat → Option Nat) (T : Int → Int) (po : Int) (q : Nat → Int32) (h_1 : T = txC A B) (h_2 : okTx A B) (h_3 : (A 3).toInt = po) (h_4 : 0 ≤ po ∧ po ≤ (A 2).toInt) (h_5 : rdC q false A B) (h_6 : ∀ j : Nat, 15 < j → q j = row0 j) : kC l yX4_readParts cX4_readParts 4 (some .boolean) 5 D t b n σ0 A B P [.ref (b + 3)] (fun z A1 B1 => kpI [3, 4, 5, 6, 7, 8, 9, 10, 11, 12, 13, 14, 15, 16, 17, 18] A A1 ∧ kpR [1, 2, 3] B B1 ∧ z = bI (decide ((sPs T 0 po q false).1 = true)) ∧ (A1 3).toInt = (sPs T 0 po q false).2.1 ∧ ((A 3).toInt ≤ (A1 3).toInt ∧ (A1 3).toInt ≤ (A 2).toInt) ∧ ((sPs T 0 po q false).1 = true → rdC (sPs T 0 po q false).2.2.1 (sPs T 0 po q false).2.2.2 A1 B1)) := by
  refine qC.of (by decide +kernel) (Nat.le_of_ble_eq_true rfl) (fun p e s m args below meth c X w ls hl => ?_)
  have hx := X.1
  have hb := X.2.1
  have hl : lv_has ls 4 [(0, .ref (b + 3))] := hl
  refine lv_iconst (v := 0) hx hb dX4_readParts_0 (by decide) ?_
  refine lv_istore_n (lv' := [(1, .int 0), (0, .ref (b + 3))]) hx hb dX4_readParts_1 rfl hl (by decide) rfl (fun ls hl => ?_)
  refine lv_iconst (v := 0) hx hb dX4_readParts_2 (by decide) ?_
  refine lv_istore_n (lv' := [(2, .int 0), (1, .int 0), (0, .ref (b + 3))]) hx hb dX4_readParts_3 rfl hl (by decide) rfl (fun ls hl => ?_)
  refine q_loop (α := Int32 × Int32 × Int × Int × (Nat → Int32) × Bool × (Nat → Int32) × (Nat → Nat → Int32)) (fun a => a.1.toInt = a.2.2.1 ∧ a.2.1.toInt = a.2.2.2.1 ∧ ((0 ≤ a.2.2.2.1 ∧ a.2.2.2.1 ≤ a.2.2.1 ∧ a.2.2.1 ≤ 3) ∧ kpI [3, 4, 5, 6, 7, 8, 9, 10, 11, 12, 13, 14, 15, 16, 17, 18] A a.2.2.2.2.2.2.1 ∧ kpR [1, 2, 3] B a.2.2.2.2.2.2.2 ∧ rdC a.2.2.2.2.1 a.2.2.2.2.2.1 a.2.2.2.2.2.2.1 a.2.2.2.2.2.2.2 ∧ (a.2.2.1 = 0 → ∀ j : Nat, 15 < j → a.2.2.2.2.1 j = row0 j) ∧ (a.2.2.1 ≤ 1 → a.2.2.2.2.2.1 = false ∧ ∀ j : Nat, 18 < j → a.2.2.2.2.1 j = row0 j) ∧ (a.2.2.1 ≤ 2 → ∀ j : Nat, 29 < j → a.2.2.2.2.1 j = row0 j) ∧ sPs T 0 po q false = sPs T a.2.2.1 (a.2.2.2.2.2.2.1 3).toInt a.2.2.2.2.1 a.2.2.2.2.2.1 ∧ po ≤ (a.2.2.2.2.2.2.1 3).toInt ∧ (a.2.2.2.2.2.2.1 3).toInt ≤ (A 2).toInt)) (fun a => (3 - a.2.2.2.1).toNat) (fun a => ∀ (H : Heap) (locs : List Loc), qW D b n (cS t b σ0 a.2.2.2.2.2.2.1 a.2.2.2.2.2.2.2 P) s H locs → ∀ ls : Array Slot, lv_has ls 4 [(2, .int a.2.1), (1, .int a.1), (0, .ref (b + 3))] → W p l e (qR 5 0 0) s m args below meth c H locs 0 0 (MQ below (va_Qi (S := Nat × qM) (fun z u => (fun z n1 σ1 => n1 = n ∧ ∃ A1 B1, σ1 = cS t b σ0 A1 B1 P ∧ kpI [3, 4, 5, 6, 7, 8, 9, 10, 11, 12, 13, 14, 15, 16, 17, 18] A A1 ∧ kpR [1, 2, 3] B B1 ∧ z = bI (decide ((sPs T 0 po q false).1 = true)) ∧ (A1 3).toInt = (sPs T 0 po q false).2.1 ∧ ((A 3).toInt ≤ (A1 3).toInt ∧ (A1 3).toInt ≤ (A 2).toInt) ∧ ((sPs T 0 po q false).1 = true → rdC (sPs T 0 po q false).2.2.1 (sPs T 0 po q false).2.2.2 A1 B1)) z u.1 u.2) (fun u T => WB D b u.1 u.2 T.heap) (fun q => b ≤ q)) args s 0 0 (fun q => b ≤ q)) (F0 m 4 ls [])) ?_ ⟨0, 0, 0, 0, q, false, A, B⟩ ⟨(show (0 : Int32).toInt = 0 from rfl), (show (0 : Int32).toInt = 0 from rfl), by dsimp only; exact ⟨by omega, kpI.rf, kpR.rf, h_5, (fun _ => h_6), (fun _ => ⟨rfl, fun j hj => h_6 j (by omega)⟩), (fun _ j hj => h_6 j (by omega)), (by rw [h_3]), (by omega), (by omega)⟩⟩ _ _ w ls (lv_sub hl [0, 1, 2] rfl)
  rintro ⟨v_sg, v_pt, sg, pt, qq, gg, I_L4, R_L4⟩ ⟨q_sg, q_pt, inv_4⟩ ih_4 H locs w ls hl
  dsimp only at q_sg q_pt inv_4 hl w
  refine lv_iload_n hx hb dX4_readParts_4 rfl (lv_at hl 0 rfl) ?_
  refine lv_iconst (v := 3) hx hb dX4_readParts_5 (by decide) ?_
  refine lv_icmp_ge (tgt := 167) hx hb dX4_readParts_6 (by decide) (fun c_6 => ?_) (fun c_6 => ?_)
  · skip
    have k_6 : 3 ≤ pt := (g_le (show (3 : Int32).toInt = 3 from rfl) q_pt).mp c_6
    refine lv_iconst (v := 1) hx hb dX4_readParts_167 (by decide) ?_
    exact q_cret (post := (fun z n1 σ1 => n1 = n ∧ ∃ A1 B1, σ1 = cS t b σ0 A1 B1 P ∧ kpI [3, 4, 5, 6, 7, 8, 9, 10, 11, 12, 13, 14, 15, 16, 17, 18] A A1 ∧ kpR [1, 2, 3] B B1 ∧ z = bI (decide ((sPs T 0 po q false).1 = true)) ∧ (A1 3).toInt = (sPs T 0 po q false).2.1 ∧ ((A 3).toInt ≤ (A1 3).toInt ∧ (A1 3).toInt ≤ (A 2).toInt) ∧ ((sPs T 0 po q false).1 = true → rdC (sPs T 0 po q false).2.2.1 (sPs T 0 po q false).2.2.2 A1 B1))) X w dX4_readParts_168 (rfl) ⟨rfl, _, _, rfl, by have e : sPs T 0 po q false = (true, (I_L4 3).toInt, qq, gg) := inv_4.2.2.2.2.2.2.2.1.trans (by rw [show sg = 3 by omega]; unfold sPs; rw [if_neg (by decide), if_neg (by decide), if_neg (by decide)]); rw [e]; exact ⟨inv_4.2.1, inv_4.2.2.1, rfl, ((congrArg Int32.toInt rfl).trans rfl), (by have h3 : (I_L4 3).toInt = (I_L4 3).toInt := ((congrArg Int32.toInt rfl).trans rfl); rw [h3, h_3]; exact (And.intro inv_4.2.2.2.2.2.2.2.2.1 inv_4.2.2.2.2.2.2.2.2.2)), fun _ => inv_4.2.2.2.1⟩⟩
  · skip
    have k_6 : ¬ (3 ≤ pt) := fun h => c_6 ((g_le (show (3 : Int32).toInt = 3 from rfl) q_pt).mpr h)
    refine lv_iload_n hx hb dX4_readParts_9 rfl (lv_at hl 1 rfl) ?_
    refine lv_iconst (v := 3) hx hb dX4_readParts_10 (by decide) ?_
    refine lv_icmp_ge (tgt := 167) hx hb dX4_readParts_11 (by decide) (fun c_11 => ?_) (fun c_11 => ?_)
    · skip
      have k_11 : 3 ≤ sg := (g_le (show (3 : Int32).toInt = 3 from rfl) q_sg).mp c_11
      refine lv_iconst (v := 1) hx hb dX4_readParts_167 (by decide) ?_
      exact q_cret (post := (fun z n1 σ1 => n1 = n ∧ ∃ A1 B1, σ1 = cS t b σ0 A1 B1 P ∧ kpI [3, 4, 5, 6, 7, 8, 9, 10, 11, 12, 13, 14, 15, 16, 17, 18] A A1 ∧ kpR [1, 2, 3] B B1 ∧ z = bI (decide ((sPs T 0 po q false).1 = true)) ∧ (A1 3).toInt = (sPs T 0 po q false).2.1 ∧ ((A 3).toInt ≤ (A1 3).toInt ∧ (A1 3).toInt ≤ (A 2).toInt) ∧ ((sPs T 0 po q false).1 = true → rdC (sPs T 0 po q false).2.2.1 (sPs T 0 po q false).2.2.2 A1 B1))) X w dX4_readParts_168 (rfl) ⟨rfl, _, _, rfl, by have e : sPs T 0 po q false = (true, (I_L4 3).toInt, qq, gg) := inv_4.2.2.2.2.2.2.2.1.trans (by rw [show sg = 3 by omega]; unfold sPs; rw [if_neg (by decide), if_neg (by decide), if_neg (by decide)]); rw [e]; exact ⟨inv_4.2.1, inv_4.2.2.1, rfl, ((congrArg Int32.toInt rfl).trans rfl), (by have h3 : (I_L4 3).toInt = (I_L4 3).toInt := ((congrArg Int32.toInt rfl).trans rfl); rw [h3, h_3]; exact (And.intro inv_4.2.2.2.2.2.2.2.2.1 inv_4.2.2.2.2.2.2.2.2.2)), fun _ => inv_4.2.2.2.1⟩⟩
    · skip
      have k_11 : ¬ (3 ≤ sg) := fun h => c_11 ((g_le (show (3 : Int32).toInt = 3 from rfl) q_sg).mpr h)
      refine lv_aload_n hx hb dX4_readParts_14 rfl (lv_at hl 2 rfl) ?_
      refine kg_X4_text X w dX4_readParts_15 ?_
      refine lv_bipush (v := 59) hx hb dX4_readParts_18 (by decide) ?_
      refine kk_cCI X w (c_X7_accept l D t b n σ0 I_L4 R_L4 P T 59 59 (show (59 : Int32).toInt = 59 from rfl) (by exact h_1.trans (txC_cg (inv_4.2.1 2 (by decide)) (inv_4.2.2.1 0 (by decide))).symm) (by exact h_2.cg (inv_4.2.1 2 (by decide)) (inv_4.2.2.1 0 (by decide))) (by have h2 : (I_L4 2).toInt = (A 2).toInt := (congrArg Int32.toInt (inv_4.2.1 2 (by decide))); have h3 : (I_L4 3).toInt = (I_L4 3).toInt := ((congrArg Int32.toInt rfl).trans rfl); rw [h2, h3]; exact ⟨Int.le_trans h_4.1 (And.intro inv_4.2.2.2.2.2.2.2.2.1 inv_4.2.2.2.2.2.2.2.2.2).1, (And.intro inv_4.2.2.2.2.2.2.2.2.1 inv_4.2.2.2.2.2.2.2.2.2).2⟩) (by first | assumption | omega)) v_X4_114 rfl rfl rfl ⟨Nat.le_of_ble_eq_true rfl, Nat.le_of_ble_eq_true rfl⟩ rfl hl.1 (Nat.le_of_ble_eq_true rfl) dX4_readParts_20 ⟨Nat.zero_le _, Nat.zero_le _⟩ (fun r_20 A_20 H locs z_20 w => ?_)
      have KI_20 : kpI [3, 4, 5, 6, 7, 8, 9, 10, 11, 12, 13, 14, 15, 16, 17, 18] A A_20 := kpI.tr (J := [3, 4, 5, 6, 7, 8, 9, 10, 11, 12, 13, 14, 15, 16, 17, 18]) inv_4.2.1 z_20.1 (by decide) (by decide)
      have q_20 : (A_20 3).toInt = (if T ((I_L4 3).toInt) = 59 then ((I_L4 3).toInt) + 1 else ((I_L4 3).toInt)) := by have h : (A_20 3).toInt = (if T ((I_L4 3).toInt) = 59 then ((I_L4 3).toInt) + 1 else ((I_L4 3).toInt)) := z_20.2.2.1; rw [show (I_L4 3).toInt = (I_L4 3).toInt from ((congrArg Int32.toInt rfl).trans rfl)] at h; exact h
      have b_20 : r_20 = bI (decide (T ((I_L4 3).toInt) = 59)) := by have h : r_20 = bI (decide (T ((I_L4 3).toInt) = 59)) := z_20.2.1; rw [show (I_L4 3).toInt = (I_L4 3).toInt from ((congrArg Int32.toInt rfl).trans rfl)] at h; exact h
      have Q_20 : po ≤ (if T ((I_L4 3).toInt) = 59 then ((I_L4 3).toInt) + 1 else ((I_L4 3).toInt)) ∧ (if T ((I_L4 3).toInt) = 59 then ((I_L4 3).toInt) + 1 else ((I_L4 3).toInt)) ≤ (A 2).toInt := ⟨(by have h := (And.intro inv_4.2.2.2.2.2.2.2.2.1 inv_4.2.2.2.2.2.2.2.2.2); split <;> omega), (by rw [← q_20]; exact Int.le_trans z_20.2.2.2 (Int.le_of_eq (congrArg Int32.toInt (inv_4.2.1 2 (by decide)))))⟩
      refine lv_if_eq (tgt := 167) hx hb dX4_readParts_23 (by decide) (fun c_23 => ?_) (fun c_23 => ?_)
      · skip
        rw [b_20] at c_23
        have k_23 := bI_f.mp c_23
        have p_20 : (A_20 3).toInt = (I_L4 3).toInt := q_20.trans (if_neg k_23)
        have Q_20 : po ≤ (I_L4 3).toInt ∧ (I_L4 3).toInt ≤ (A 2).toInt := by have h := Q_20; rw [show (if T ((I_L4 3).toInt) = 59 then ((I_L4 3).toInt) + 1 else ((I_L4 3).toInt)) = (I_L4 3).toInt from q_20.symm.trans p_20] at h; exact h
        refine lv_iconst (v := 1) hx hb dX4_readParts_167 (by decide) ?_
        exact q_cret (post := (fun z n1 σ1 => n1 = n ∧ ∃ A1 B1, σ1 = cS t b σ0 A1 B1 P ∧ kpI [3, 4, 5, 6, 7, 8, 9, 10, 11, 12, 13, 14, 15, 16, 17, 18] A A1 ∧ kpR [1, 2, 3] B B1 ∧ z = bI (decide ((sPs T 0 po q false).1 = true)) ∧ (A1 3).toInt = (sPs T 0 po q false).2.1 ∧ ((A 3).toInt ≤ (A1 3).toInt ∧ (A1 3).toInt ≤ (A 2).toInt) ∧ ((sPs T 0 po q false).1 = true → rdC (sPs T 0 po q false).2.2.1 (sPs T 0 po q false).2.2.2 A1 B1))) X w dX4_readParts_168 (rfl) ⟨rfl, _, _, rfl, by have e : sPs T 0 po q false = (true, (I_L4 3).toInt, qq, gg) := inv_4.2.2.2.2.2.2.2.1.trans (sPs_end k_23); rw [e]; exact ⟨KI_20, inv_4.2.2.1, rfl, ((congrArg Int32.toInt rfl).trans p_20), (by have h3 : (A_20 3).toInt = (I_L4 3).toInt := ((congrArg Int32.toInt rfl).trans p_20); rw [h3, h_3]; exact Q_20), fun _ => rdC_cg inv_4.2.2.2.1 (kpI.wk z_20.1 (by decide))⟩⟩
      · skip
        rw [b_20] at c_23
        have k_23 := bI_t.mp c_23
        have p_20 : (A_20 3).toInt = ((I_L4 3).toInt) + 1 := q_20.trans (if_pos k_23)
        have Q_20 : po ≤ ((I_L4 3).toInt) + 1 ∧ ((I_L4 3).toInt) + 1 ≤ (A 2).toInt := by have h := Q_20; rw [show (if T ((I_L4 3).toInt) = 59 then ((I_L4 3).toInt) + 1 else ((I_L4 3).toInt)) = ((I_L4 3).toInt) + 1 from q_20.symm.trans p_20] at h; exact h
        refine lv_iconst (v := 0) hx hb dX4_readParts_26 (by decide) ?_
        refine lv_istore_n (lv' := [(3, .int 0), (2, .int v_pt), (1, .int v_sg), (0, .ref (b + 3))]) hx hb dX4_readParts_27 rfl hl (by decide) rfl (fun ls hl => ?_)
        refine lv_iload_n hx hb dX4_readParts_28 rfl (lv_at hl 2 rfl) ?_
        refine lv_iconst (v := 1) hx hb dX4_readParts_29 (by decide) ?_
        refine lv_icmp_ge (tgt := 55) hx hb dX4_readParts_30 (by decide) (fun c_30 => ?_) (fun c_30 => ?_)
        · skip
          have k_30 : 1 ≤ sg := (g_le (show (1 : Int32).toInt = 1 from rfl) q_sg).mp c_30
          refine lv_iload_n hx hb dX4_readParts_55 rfl (lv_at hl 2 rfl) ?_
          refine lv_iconst (v := 1) hx hb dX4_readParts_56 (by decide) ?_
          refine lv_icmp_ge (tgt := 82) hx hb dX4_readParts_57 (by decide) (fun c_57 => ?_) (fun c_57 => ?_)
          · skip
            have k_57 : 1 ≤ sg := (g_le (show (1 : Int32).toInt = 1 from rfl) q_sg).mp c_57
            refine lv_iload_n hx hb dX4_readParts_82 rfl (lv_at hl 2 rfl) ?_
            refine lv_iconst (v := 2) hx hb dX4_readParts_83 (by decide) ?_
            refine lv_icmp_ge (tgt := 109) hx hb dX4_readParts_84 (by decide) (fun c_84 => ?_) (fun c_84 => ?_)
            · skip
              have k_84 : 2 ≤ sg := (g_le (show (2 : Int32).toInt = 2 from rfl) q_sg).mp c_84
              refine lv_iload_n hx hb dX4_readParts_109 rfl (lv_at hl 2 rfl) ?_
              refine lv_iconst (v := 2) hx hb dX4_readParts_110 (by decide) ?_
              refine lv_icmp_ge (tgt := 136) hx hb dX4_readParts_111 (by decide) (fun c_111 => ?_) (fun c_111 => ?_)
              · skip
                have k_111 : 2 ≤ sg := (g_le (show (2 : Int32).toInt = 2 from rfl) q_sg).mp c_111
                refine lv_aload_n hx hb dX4_readParts_136 rfl (lv_at hl 3 rfl) ?_
                refine kg_X4_text X w dX4_readParts_137 ?_
                refine lv_bipush (v := 119) hx hb dX4_readParts_140 (by decide) ?_
                refine kk_cCI X w (c_X7_accept l D t b n σ0 A_20 R_L4 P T 119 119 (show (119 : Int32).toInt = 119 from rfl) (by exact h_1.trans (txC_cg (KI_20 2 (by decide)) (inv_4.2.2.1 0 (by decide))).symm) (by exact h_2.cg (KI_20 2 (by decide)) (inv_4.2.2.1 0 (by decide))) (by have h2 : (A_20 2).toInt = (A 2).toInt := (congrArg Int32.toInt (KI_20 2 (by decide))); have h3 : (A_20 3).toInt = ((I_L4 3).toInt) + 1 := ((congrArg Int32.toInt rfl).trans p_20); rw [h2, h3]; exact ⟨Int.le_trans h_4.1 Q_20.1, Q_20.2⟩) (by first | assumption | omega)) v_X4_114 rfl rfl rfl ⟨Nat.le_of_ble_eq_true rfl, Nat.le_of_ble_eq_true rfl⟩ rfl hl.1 (Nat.le_of_ble_eq_true rfl) dX4_readParts_142 ⟨Nat.zero_le _, Nat.zero_le _⟩ (fun r_142 A_142 H locs z_142 w => ?_)
                have KI_142 : kpI [3, 4, 5, 6, 7, 8, 9, 10, 11, 12, 13, 14, 15, 16, 17, 18] A A_142 := kpI.tr (J := [3, 4, 5, 6, 7, 8, 9, 10, 11, 12, 13, 14, 15, 16, 17, 18]) KI_20 z_142.1 (by decide) (by decide)
                have q_142 : (A_142 3).toInt = (if T (((I_L4 3).toInt) + 1) = 119 then (((I_L4 3).toInt) + 1) + 1 else (((I_L4 3).toInt) + 1)) := by have h : (A_142 3).toInt = (if T ((A_20 3).toInt) = 119 then ((A_20 3).toInt) + 1 else ((A_20 3).toInt)) := z_142.2.2.1; rw [show (A_20 3).toInt = ((I_L4 3).toInt) + 1 from ((congrArg Int32.toInt rfl).trans p_20)] at h; exact h
                have b_142 : r_142 = bI (decide (T (((I_L4 3).toInt) + 1) = 119)) := by have h : r_142 = bI (decide (T ((A_20 3).toInt) = 119)) := z_142.2.1; rw [show (A_20 3).toInt = ((I_L4 3).toInt) + 1 from ((congrArg Int32.toInt rfl).trans p_20)] at h; exact h
                have Q_142 : po ≤ (if T (((I_L4 3).toInt) + 1) = 119 then (((I_L4 3).toInt) + 1) + 1 else (((I_L4 3).toInt) + 1)) ∧ (if T (((I_L4 3).toInt) + 1) = 119 then (((I_L4 3).toInt) + 1) + 1 else (((I_L4 3).toInt) + 1)) ≤ (A 2).toInt := ⟨(by have h := Q_20; split <;> omega), (by rw [← q_142]; exact Int.le_trans z_142.2.2.2 (Int.le_of_eq (congrArg Int32.toInt (KI_20 2 (by decide)))))⟩
                refine lv_if_eq (tgt := 155) hx hb dX4_readParts_145 (by decide) (fun c_145 => ?_) (fun c_145 => ?_)
                · skip
                  rw [b_142] at c_145
                  have k_145 := bI_f.mp c_145
                  have p_142 : (A_142 3).toInt = ((I_L4 3).toInt) + 1 := q_142.trans (if_neg k_145)
                  have Q_142 : po ≤ ((I_L4 3).toInt) + 1 ∧ ((I_L4 3).toInt) + 1 ≤ (A 2).toInt := by have h := Q_142; rw [show (if T (((I_L4 3).toInt) + 1) = 119 then (((I_L4 3).toInt) + 1) + 1 else (((I_L4 3).toInt) + 1)) = ((I_L4 3).toInt) + 1 from q_142.symm.trans p_142] at h; exact h
                  refine lv_iload_n hx hb dX4_readParts_155 rfl (lv_at hl 0 rfl) ?_
                  refine lv_if_ne (tgt := 161) hx hb dX4_readParts_156 (by decide) (fun c_156 => ?_) (fun c_156 => ?_)
                  · skip
                    have k_156 : ¬ ((0 : Int) = 0) := fun h => c_156 ((g_eq (show (0 : Int32).toInt = 0 from rfl) (show (0 : Int32).toInt = 0 from rfl)).mpr h)
                    exact absurd rfl k_156
                  · skip
                    have k_156 : (0 : Int) = 0 := (g_eq (show (0 : Int32).toInt = 0 from rfl) (show (0 : Int32).toInt = 0 from rfl)).mp c_156
                    refine lv_iconst (v := 0) hx hb dX4_readParts_159 (by decide) ?_
                    exact q_cret (post := (fun z n1 σ1 => n1 = n ∧ ∃ A1 B1, σ1 = cS t b σ0 A1 B1 P ∧ kpI [3, 4, 5, 6, 7, 8, 9, 10, 11, 12, 13, 14, 15, 16, 17, 18] A A1 ∧ kpR [1, 2, 3] B B1 ∧ z = bI (decide ((sPs T 0 po q false).1 = true)) ∧ (A1 3).toInt = (sPs T 0 po q false).2.1 ∧ ((A 3).toInt ≤ (A1 3).toInt ∧ (A1 3).toInt ≤ (A 2).toInt) ∧ ((sPs T 0 po q false).1 = true → rdC (sPs T 0 po q false).2.2.1 (sPs T 0 po q false).2.2.2 A1 B1))) X w dX4_readParts_160 (rfl) ⟨rfl, _, _, rfl, by have e : (sPs T 0 po q false).1 = false ∧ (sPs T 0 po q false).2.1 = ((I_L4 3).toInt) + 1 := (by rw [inv_4.2.2.2.2.2.2.2.1, sPs_no ⟨by omega, by omega⟩ k_23 (fun y => absurd y (by omega)) (fun y => absurd y (by omega)) (fun y => absurd y (by omega)) (fun y => absurd y (by omega)) k_145]; exact ⟨rfl, rfl⟩); exact ⟨KI_142, inv_4.2.2.1, bI_0 (by rw [e.1]; decide), ((congrArg Int32.toInt rfl).trans p_142).trans e.2.symm, (by have h3 : (A_142 3).toInt = ((I_L4 3).toInt) + 1 := ((congrArg Int32.toInt rfl).trans p_142); rw [h3, h_3]; exact Q_142), fun h => absurd (h.symm.trans e.1) (by decide)⟩⟩
                · skip
                  rw [b_142] at c_145
                  have k_145 := bI_t.mp c_145
                  have p_142 : (A_142 3).toInt = (((I_L4 3).toInt) + 1) + 1 := q_142.trans (if_pos k_145)
                  have Q_142 : po ≤ (((I_L4 3).toInt) + 1) + 1 ∧ (((I_L4 3).toInt) + 1) + 1 ≤ (A 2).toInt := by have h := Q_142; rw [show (if T (((I_L4 3).toInt) + 1) = 119 then (((I_L4 3).toInt) + 1) + 1 else (((I_L4 3).toInt) + 1)) = (((I_L4 3).toInt) + 1) + 1 from q_142.symm.trans p_142] at h; exact h
                  refine lv_iconst (v := 3) hx hb dX4_readParts_148 (by decide) ?_
                  refine lv_istore_n (lv' := [(1, .int 3), (3, .int 0), (2, .int v_pt), (0, .ref (b + 3))]) hx hb dX4_readParts_149 rfl hl (by decide) rfl (fun ls hl => ?_)
                  refine lv_aload_n hx hb dX4_readParts_150 rfl (lv_at hl 3 rfl) ?_
                  refine kk_cCI X w (c_X4_readWeeks l D t b n σ0 A_142 R_L4 P T ((I_L4 3).toInt + 2) qq gg (by exact h_1.trans (txC_cg (KI_142 2 (by decide)) (inv_4.2.2.1 0 (by decide))).symm) (by exact h_2.cg (KI_142 2 (by decide)) (inv_4.2.2.1 0 (by decide))) (by have h3 : (A_142 3).toInt = (((I_L4 3).toInt) + 1) + 1 := ((congrArg Int32.toInt rfl).trans p_142); rw [h3]; omega) (by have h2 : (A_142 2).toInt = (A 2).toInt := (congrArg Int32.toInt (KI_142 2 (by decide))); rw [h2]; have hq := Q_142; omega) (by exact (rdC_cg (rdC_cg inv_4.2.2.2.1 (kpI.wk z_20.1 (by decide))) (kpI.wk z_142.1 (by decide)))) (by exact inv_4.2.2.2.2.2.2.1 (by omega) 30 (by decide)) (by exact inv_4.2.2.2.2.2.2.1 (by omega) 31 (by decide)) (by exact inv_4.2.2.2.2.2.2.1 (by omega) 32 (by decide))) v_X4_146 rfl rfl rfl ⟨Nat.le_of_ble_eq_true rfl, Nat.le_of_ble_eq_true rfl⟩ rfl hl.1 (Nat.le_of_ble_eq_true rfl) dX4_readParts_151 ⟨Nat.zero_le _, Nat.zero_le _⟩ (fun r_151 A_151 H locs z_151 w => ?_)
                  have KI_151 : kpI [3, 4, 5, 6, 7, 8, 9, 10, 11, 12, 13, 14, 15, 16, 17, 18] A A_151 := kpI.tr (J := [3, 4, 5, 6, 7, 8, 9, 10, 11, 12, 13, 14, 15, 16, 17, 18]) KI_142 z_151.1 (by decide) (by decide)
                  have q_151 : (A_151 3).toInt = (sWk T ((I_L4 3).toInt + 2) qq gg).2.1 := z_151.2.2.1
                  have b_151 : r_151 = bI (decide ((sWk T ((I_L4 3).toInt + 2) qq gg).1 = true)) := z_151.2.1
                  have Q_151 : po ≤ (sWk T ((I_L4 3).toInt + 2) qq gg).2.1 ∧ (sWk T ((I_L4 3).toInt + 2) qq gg).2.1 ≤ (A 2).toInt := ⟨(by have h : (A_142 3).toInt ≤ (A_151 3).toInt := z_151.2.2.2.1.1; have h3 : (A_142 3).toInt = (((I_L4 3).toInt) + 1) + 1 := ((congrArg Int32.toInt rfl).trans p_142); have h4 := Q_142; rw [← q_151]; omega), (by rw [← q_151]; exact Int.le_trans z_151.2.2.2.1.2 (Int.le_of_eq (congrArg Int32.toInt (KI_142 2 (by decide)))))⟩
                  have S_151 := z_151.2.2.2.2
                  refine lv_istore_n (lv' := [(3, .int r_151), (1, .int 3), (2, .int v_pt), (0, .ref (b + 3))]) hx hb dX4_readParts_154 rfl hl (by decide) rfl (fun ls hl => ?_)
                  refine lv_iload_n hx hb dX4_readParts_155 rfl (lv_at hl 0 rfl) ?_
                  refine lv_if_ne (tgt := 161) hx hb dX4_readParts_156 (by decide) (fun c_156 => ?_) (fun c_156 => ?_)
                  · skip
                    rw [b_151] at c_156
                    have k_156 := bI_t.mp c_156
                    have C_151 := S_151 k_156
                    obtain ⟨x_161, e_161⟩ : ∃ z : Int32, z = (v_pt + 1) := ⟨_, rfl⟩
                    have p_161 : x_161.toInt = (pt + 1) := by rw [e_161]; exact t_add q_pt (show (1 : Int32).toInt = 1 from rfl) (by omega) (by omega)
                    refine lv_iinc (v := x_161) (lv' := [(2, .int x_161), (3, .int r_151), (1, .int 3), (0, .ref (b + 3))]) hx hb dX4_readParts_161 hl (k := 2) rfl (by rw [e_161]; rfl) (by decide) rfl (fun ls hl => ?_)
                    refine lv_goto (tgt := 4) hx hb dX4_readParts_164 (by decide) ?_
                    refine ih_4 ⟨3, x_161, 3, (pt + 1), (sWk T ((I_L4 3).toInt + 2) qq gg).2.2.1, (sWk T ((I_L4 3).toInt + 2) qq gg).2.2.2, A_151, R_L4⟩ ⟨(show (3 : Int32).toInt = 3 from rfl), p_161, by dsimp only; exact ⟨by omega, KI_151, inv_4.2.2.1, C_151, (fun y => absurd y (by decide)), (fun y => absurd y (by decide)), (fun y => absurd y (by decide)), (by rw [inv_4.2.2.2.2.2.2.2.1, sPs_w ⟨by omega, by omega⟩ k_23 k_145, sAnd_t k_156, q_151]), (by rw [q_151]; exact Q_151.1), (by rw [q_151]; exact Q_151.2)⟩⟩ (by dsimp only; omega) _ _ w ls (lv_sub hl [0, 2, 3] rfl)
                  · skip
                    rw [b_151] at c_156
                    have k_156 := bI_f.mp c_156
                    refine lv_iconst (v := 0) hx hb dX4_readParts_159 (by decide) ?_
                    exact q_cret (post := (fun z n1 σ1 => n1 = n ∧ ∃ A1 B1, σ1 = cS t b σ0 A1 B1 P ∧ kpI [3, 4, 5, 6, 7, 8, 9, 10, 11, 12, 13, 14, 15, 16, 17, 18] A A1 ∧ kpR [1, 2, 3] B B1 ∧ z = bI (decide ((sPs T 0 po q false).1 = true)) ∧ (A1 3).toInt = (sPs T 0 po q false).2.1 ∧ ((A 3).toInt ≤ (A1 3).toInt ∧ (A1 3).toInt ≤ (A 2).toInt) ∧ ((sPs T 0 po q false).1 = true → rdC (sPs T 0 po q false).2.2.1 (sPs T 0 po q false).2.2.2 A1 B1))) X w dX4_readParts_160 (rfl) ⟨rfl, _, _, rfl, by have e : (sPs T 0 po q false).1 = false ∧ (sPs T 0 po q false).2.1 = (sWk T ((I_L4 3).toInt + 2) qq gg).2.1 := (by rw [inv_4.2.2.2.2.2.2.2.1, sPs_w ⟨by omega, by omega⟩ k_23 k_145, sAnd_f k_156]; exact ⟨b_f k_156, rfl⟩); exact ⟨KI_151, inv_4.2.2.1, bI_0 (by rw [e.1]; decide), ((congrArg Int32.toInt rfl).trans q_151).trans e.2.symm, (by have h3 : (A_151 3).toInt = (sWk T ((I_L4 3).toInt + 2) qq gg).2.1 := ((congrArg Int32.toInt rfl).trans q_151); rw [h3, h_3]; exact Q_151), fun h => absurd (h.symm.trans e.1) (by decide)⟩⟩
              · skip
                have k_111 : ¬ (2 ≤ sg) := fun h => c_111 ((g_le (show (2 : Int32).toInt = 2 from rfl) q_sg).mpr h)
                exfalso; omega
            · skip
              have k_84 : ¬ (2 ≤ sg) := fun h => c_84 ((g_le (show (2 : Int32).toInt = 2 from rfl) q_sg).mpr h)
              refine lv_aload_n hx hb dX4_readParts_87 rfl (lv_at hl 3 rfl) ?_
              refine kg_X4_text X w dX4_readParts_88 ?_
              refine lv_bipush (v := 108) hx hb dX4_readParts_91 (by decide) ?_
              refine kk_cCI X w (c_X7_accept l D t b n σ0 A_20 R_L4 P T 108 108 (show (108 : Int32).toInt = 108 from rfl) (by exact h_1.trans (txC_cg (KI_20 2 (by decide)) (inv_4.2.2.1 0 (by decide))).symm) (by exact h_2.cg (KI_20 2 (by decide)) (inv_4.2.2.1 0 (by decide))) (by have h2 : (A_20 2).toInt = (A 2).toInt := (congrArg Int32.toInt (KI_20 2 (by decide))); have h3 : (A_20 3).toInt = ((I_L4 3).toInt) + 1 := ((congrArg Int32.toInt rfl).trans p_20); rw [h2, h3]; exact ⟨Int.le_trans h_4.1 Q_20.1, Q_20.2⟩) (by first | assumption | omega)) v_X4_114 rfl rfl rfl ⟨Nat.le_of_ble_eq_true rfl, Nat.le_of_ble_eq_true rfl⟩ rfl hl.1 (Nat.le_of_ble_eq_true rfl) dX4_readParts_93 ⟨Nat.zero_le _, Nat.zero_le _⟩ (fun r_93 A_93 H locs z_93 w => ?_)
              have KI_93 : kpI [3, 4, 5, 6, 7, 8, 9, 10, 11, 12, 13, 14, 15, 16, 17, 18] A A_93 := kpI.tr (J := [3, 4, 5, 6, 7, 8, 9, 10, 11, 12, 13, 14, 15, 16, 17, 18]) KI_20 z_93.1 (by decide) (by decide)
              have q_93 : (A_93 3).toInt = (if T (((I_L4 3).toInt) + 1) = 108 then (((I_L4 3).toInt) + 1) + 1 else (((I_L4 3).toInt) + 1)) := by have h : (A_93 3).toInt = (if T ((A_20 3).toInt) = 108 then ((A_20 3).toInt) + 1 else ((A_20 3).toInt)) := z_93.2.2.1; rw [show (A_20 3).toInt = ((I_L4 3).toInt) + 1 from ((congrArg Int32.toInt rfl).trans p_20)] at h; exact h
              have b_93 : r_93 = bI (decide (T (((I_L4 3).toInt) + 1) = 108)) := by have h : r_93 = bI (decide (T ((A_20 3).toInt) = 108)) := z_93.2.1; rw [show (A_20 3).toInt = ((I_L4 3).toInt) + 1 from ((congrArg Int32.toInt rfl).trans p_20)] at h; exact h
              have Q_93 : po ≤ (if T (((I_L4 3).toInt) + 1) = 108 then (((I_L4 3).toInt) + 1) + 1 else (((I_L4 3).toInt) + 1)) ∧ (if T (((I_L4 3).toInt) + 1) = 108 then (((I_L4 3).toInt) + 1) + 1 else (((I_L4 3).toInt) + 1)) ≤ (A 2).toInt := ⟨(by have h := Q_20; split <;> omega), (by rw [← q_93]; exact Int.le_trans z_93.2.2.2 (Int.le_of_eq (congrArg Int32.toInt (KI_20 2 (by decide)))))⟩
              refine lv_if_eq (tgt := 109) hx hb dX4_readParts_96 (by decide) (fun c_96 => ?_) (fun c_96 => ?_)
              · skip
                rw [b_93] at c_96
                have k_96 := bI_f.mp c_96
                have p_93 : (A_93 3).toInt = ((I_L4 3).toInt) + 1 := q_93.trans (if_neg k_96)
                have Q_93 : po ≤ ((I_L4 3).toInt) + 1 ∧ ((I_L4 3).toInt) + 1 ≤ (A 2).toInt := by have h := Q_93; rw [show (if T (((I_L4 3).toInt) + 1) = 108 then (((I_L4 3).toInt) + 1) + 1 else (((I_L4 3).toInt) + 1)) = ((I_L4 3).toInt) + 1 from q_93.symm.trans p_93] at h; exact h
                refine lv_iload_n hx hb dX4_readParts_109 rfl (lv_at hl 2 rfl) ?_
                refine lv_iconst (v := 2) hx hb dX4_readParts_110 (by decide) ?_
                refine lv_icmp_ge (tgt := 136) hx hb dX4_readParts_111 (by decide) (fun c_111 => ?_) (fun c_111 => ?_)
                · skip
                  have k_111 : 2 ≤ sg := (g_le (show (2 : Int32).toInt = 2 from rfl) q_sg).mp c_111
                  exfalso; omega
                · skip
                  have k_111 : ¬ (2 ≤ sg) := fun h => c_111 ((g_le (show (2 : Int32).toInt = 2 from rfl) q_sg).mpr h)
                  refine lv_aload_n hx hb dX4_readParts_114 rfl (lv_at hl 3 rfl) ?_
                  refine kg_X4_text X w dX4_readParts_115 ?_
                  refine lv_bipush (v := 99) hx hb dX4_readParts_118 (by decide) ?_
                  refine kk_cCI X w (c_X7_accept l D t b n σ0 A_93 R_L4 P T 99 99 (show (99 : Int32).toInt = 99 from rfl) (by exact h_1.trans (txC_cg (KI_93 2 (by decide)) (inv_4.2.2.1 0 (by decide))).symm) (by exact h_2.cg (KI_93 2 (by decide)) (inv_4.2.2.1 0 (by decide))) (by have h2 : (A_93 2).toInt = (A 2).toInt := (congrArg Int32.toInt (KI_93 2 (by decide))); have h3 : (A_93 3).toInt = ((I_L4 3).toInt) + 1 := ((congrArg Int32.toInt rfl).trans p_93); rw [h2, h3]; exact ⟨Int.le_trans h_4.1 Q_93.1, Q_93.2⟩) (by first | assumption | omega)) v_X4_114 rfl rfl rfl ⟨Nat.le_of_ble_eq_true rfl, Nat.le_of_ble_eq_true rfl⟩ rfl hl.1 (Nat.le_of_ble_eq_true rfl) dX4_readParts_120 ⟨Nat.zero_le _, Nat.zero_le _⟩ (fun r_120 A_120 H locs z_120 w => ?_)
                  have KI_120 : kpI [3, 4, 5, 6, 7, 8, 9, 10, 11, 12, 13, 14, 15, 16, 17, 18] A A_120 := kpI.tr (J := [3, 4, 5, 6, 7, 8, 9, 10, 11, 12, 13, 14, 15, 16, 17, 18]) KI_93 z_120.1 (by decide) (by decide)
                  have q_120 : (A_120 3).toInt = (if T (((I_L4 3).toInt) + 1) = 99 then (((I_L4 3).toInt) + 1) + 1 else (((I_L4 3).toInt) + 1)) := by have h : (A_120 3).toInt = (if T ((A_93 3).toInt) = 99 then ((A_93 3).toInt) + 1 else ((A_93 3).toInt)) := z_120.2.2.1; rw [show (A_93 3).toInt = ((I_L4 3).toInt) + 1 from ((congrArg Int32.toInt rfl).trans p_93)] at h; exact h
                  have b_120 : r_120 = bI (decide (T (((I_L4 3).toInt) + 1) = 99)) := by have h : r_120 = bI (decide (T ((A_93 3).toInt) = 99)) := z_120.2.1; rw [show (A_93 3).toInt = ((I_L4 3).toInt) + 1 from ((congrArg Int32.toInt rfl).trans p_93)] at h; exact h
                  have Q_120 : po ≤ (if T (((I_L4 3).toInt) + 1) = 99 then (((I_L4 3).toInt) + 1) + 1 else (((I_L4 3).toInt) + 1)) ∧ (if T (((I_L4 3).toInt) + 1) = 99 then (((I_L4 3).toInt) + 1) + 1 else (((I_L4 3).toInt) + 1)) ≤ (A 2).toInt := ⟨(by have h := Q_93; split <;> omega), (by rw [← q_120]; exact Int.le_trans z_120.2.2.2 (Int.le_of_eq (congrArg Int32.toInt (KI_93 2 (by decide)))))⟩
                  refine lv_if_eq (tgt := 136) hx hb dX4_readParts_123 (by decide) (fun c_123 => ?_) (fun c_123 => ?_)
                  · skip
                    rw [b_120] at c_123
                    have k_123 := bI_f.mp c_123
                    have p_120 : (A_120 3).toInt = ((I_L4 3).toInt) + 1 := q_120.trans (if_neg k_123)
                    have Q_120 : po ≤ ((I_L4 3).toInt) + 1 ∧ ((I_L4 3).toInt) + 1 ≤ (A 2).toInt := by have h := Q_120; rw [show (if T (((I_L4 3).toInt) + 1) = 99 then (((I_L4 3).toInt) + 1) + 1 else (((I_L4 3).toInt) + 1)) = ((I_L4 3).toInt) + 1 from q_120.symm.trans p_120] at h; exact h
                    refine lv_aload_n hx hb dX4_readParts_136 rfl (lv_at hl 3 rfl) ?_
                    refine kg_X4_text X w dX4_readParts_137 ?_
                    refine lv_bipush (v := 119) hx hb dX4_readParts_140 (by decide) ?_
                    refine kk_cCI X w (c_X7_accept l D t b n σ0 A_120 R_L4 P T 119 119 (show (119 : Int32).toInt = 119 from rfl) (by exact h_1.trans (txC_cg (KI_120 2 (by decide)) (inv_4.2.2.1 0 (by decide))).symm) (by exact h_2.cg (KI_120 2 (by decide)) (inv_4.2.2.1 0 (by decide))) (by have h2 : (A_120 2).toInt = (A 2).toInt := (congrArg Int32.toInt (KI_120 2 (by decide))); have h3 : (A_120 3).toInt = ((I_L4 3).toInt) + 1 := ((congrArg Int32.toInt rfl).trans p_120); rw [h2, h3]; exact ⟨Int.le_trans h_4.1 Q_120.1, Q_120.2⟩) (by first | assumption | omega)) v_X4_114 rfl rfl rfl ⟨Nat.le_of_ble_eq_true rfl, Nat.le_of_ble_eq_true rfl⟩ rfl hl.1 (Nat.le_of_ble_eq_true rfl) dX4_readParts_142 ⟨Nat.zero_le _, Nat.zero_le _⟩ (fun r_142 A_142 H locs z_142 w => ?_)
                    have KI_142 : kpI [3, 4, 5, 6, 7, 8, 9, 10, 11, 12, 13, 14, 15, 16, 17, 18] A A_142 := kpI.tr (J := [3, 4, 5, 6, 7, 8, 9, 10, 11, 12, 13, 14, 15, 16, 17, 18]) KI_120 z_142.1 (by decide) (by decide)
                    have q_142 : (A_142 3).toInt = (if T (((I_L4 3).toInt) + 1) = 119 then (((I_L4 3).toInt) + 1) + 1 else (((I_L4 3).toInt) + 1)) := by have h : (A_142 3).toInt = (if T ((A_120 3).toInt) = 119 then ((A_120 3).toInt) + 1 else ((A_120 3).toInt)) := z_142.2.2.1; rw [show (A_120 3).toInt = ((I_L4 3).toInt) + 1 from ((congrArg Int32.toInt rfl).trans p_120)] at h; exact h
                    have b_142 : r_142 = bI (decide (T (((I_L4 3).toInt) + 1) = 119)) := by have h : r_142 = bI (decide (T ((A_120 3).toInt) = 119)) := z_142.2.1; rw [show (A_120 3).toInt = ((I_L4 3).toInt) + 1 from ((congrArg Int32.toInt rfl).trans p_120)] at h; exact h
                    have Q_142 : po ≤ (if T (((I_L4 3).toInt) + 1) = 119 then (((I_L4 3).toInt) + 1) + 1 else (((I_L4 3).toInt) + 1)) ∧ (if T (((I_L4 3).toInt) + 1) = 119 then (((I_L4 3).toInt) + 1) + 1 else (((I_L4 3).toInt) + 1)) ≤ (A 2).toInt := ⟨(by have h := Q_120; split <;> omega), (by rw [← q_142]; exact Int.le_trans z_142.2.2.2 (Int.le_of_eq (congrArg Int32.toInt (KI_120 2 (by decide)))))⟩
                    refine lv_if_eq (tgt := 155) hx hb dX4_readParts_145 (by decide) (fun c_145 => ?_) (fun c_145 => ?_)
                    · skip
                      rw [b_142] at c_145
                      have k_145 := bI_f.mp c_145
                      have p_142 : (A_142 3).toInt = ((I_L4 3).toInt) + 1 := q_142.trans (if_neg k_145)
                      have Q_142 : po ≤ ((I_L4 3).toInt) + 1 ∧ ((I_L4 3).toInt) + 1 ≤ (A 2).toInt := by have h := Q_142; rw [show (if T (((I_L4 3).toInt) + 1) = 119 then (((I_L4 3).toInt) + 1) + 1 else (((I_L4 3).toInt) + 1)) = ((I_L4 3).toInt) + 1 from q_142.symm.trans p_142] at h; exact h
                      refine lv_iload_n hx hb dX4_readParts_155 rfl (lv_at hl 0 rfl) ?_
                      refine lv_if_ne (tgt := 161) hx hb dX4_readParts_156 (by decide) (fun c_156 => ?_) (fun c_156 => ?_)
                      · skip
                        have k_156 : ¬ ((0 : Int) = 0) := fun h => c_156 ((g_eq (show (0 : Int32).toInt = 0 from rfl) (show (0 : Int32).toInt = 0 from rfl)).mpr h)
                        exact absurd rfl k_156
                      · skip
                        have k_156 : (0 : Int) = 0 := (g_eq (show (0 : Int32).toInt = 0 from rfl) (show (0 : Int32).toInt = 0 from rfl)).mp c_156
                        refine lv_iconst (v := 0) hx hb dX4_readParts_159 (by decide) ?_
                        exact q_cret (post := (fun z n1 σ1 => n1 = n ∧ ∃ A1 B1, σ1 = cS t b σ0 A1 B1 P ∧ kpI [3, 4, 5, 6, 7, 8, 9, 10, 11, 12, 13, 14, 15, 16, 17, 18] A A1 ∧ kpR [1, 2, 3] B B1 ∧ z = bI (decide ((sPs T 0 po q false).1 = true)) ∧ (A1 3).toInt = (sPs T 0 po q false).2.1 ∧ ((A 3).toInt ≤ (A1 3).toInt ∧ (A1 3).toInt ≤ (A 2).toInt) ∧ ((sPs T 0 po q false).1 = true → rdC (sPs T 0 po q false).2.2.1 (sPs T 0 po q false).2.2.2 A1 B1))) X w dX4_readParts_160 (rfl) ⟨rfl, _, _, rfl, by have e : (sPs T 0 po q false).1 = false ∧ (sPs T 0 po q false).2.1 = ((I_L4 3).toInt) + 1 := (by rw [inv_4.2.2.2.2.2.2.2.1, sPs_no ⟨by omega, by omega⟩ k_23 (fun y => absurd y (by omega)) (fun y => absurd y (by omega)) (fun _ => k_96) (fun _ => k_123) k_145]; exact ⟨rfl, rfl⟩); exact ⟨KI_142, inv_4.2.2.1, bI_0 (by rw [e.1]; decide), ((congrArg Int32.toInt rfl).trans p_142).trans e.2.symm, (by have h3 : (A_142 3).toInt = ((I_L4 3).toInt) + 1 := ((congrArg Int32.toInt rfl).trans p_142); rw [h3, h_3]; exact Q_142), fun h => absurd (h.symm.trans e.1) (by decide)⟩⟩
                    · skip
                      rw [b_142] at c_145
                      have k_145 := bI_t.mp c_145
                      have p_142 : (A_142 3).toInt = (((I_L4 3).toInt) + 1) + 1 := q_142.trans (if_pos k_145)
                      have Q_142 : po ≤ (((I_L4 3).toInt) + 1) + 1 ∧ (((I_L4 3).toInt) + 1) + 1 ≤ (A 2).toInt := by have h := Q_142; rw [show (if T (((I_L4 3).toInt) + 1) = 119 then (((I_L4 3).toInt) + 1) + 1 else (((I_L4 3).toInt) + 1)) = (((I_L4 3).toInt) + 1) + 1 from q_142.symm.trans p_142] at h; exact h
                      refine lv_iconst (v := 3) hx hb dX4_readParts_148 (by decide) ?_
                      refine lv_istore_n (lv' := [(1, .int 3), (3, .int 0), (2, .int v_pt), (0, .ref (b + 3))]) hx hb dX4_readParts_149 rfl hl (by decide) rfl (fun ls hl => ?_)
                      refine lv_aload_n hx hb dX4_readParts_150 rfl (lv_at hl 3 rfl) ?_
                      refine kk_cCI X w (c_X4_readWeeks l D t b n σ0 A_142 R_L4 P T ((I_L4 3).toInt + 2) qq gg (by exact h_1.trans (txC_cg (KI_142 2 (by decide)) (inv_4.2.2.1 0 (by decide))).symm) (by exact h_2.cg (KI_142 2 (by decide)) (inv_4.2.2.1 0 (by decide))) (by have h3 : (A_142 3).toInt = (((I_L4 3).toInt) + 1) + 1 := ((congrArg Int32.toInt rfl).trans p_142); rw [h3]; omega) (by have h2 : (A_142 2).toInt = (A 2).toInt := (congrArg Int32.toInt (KI_142 2 (by decide))); rw [h2]; have hq := Q_142; omega) (by exact (rdC_cg (rdC_cg (rdC_cg (rdC_cg inv_4.2.2.2.1 (kpI.wk z_20.1 (by decide))) (kpI.wk z_93.1 (by decide))) (kpI.wk z_120.1 (by decide))) (kpI.wk z_142.1 (by decide)))) (by exact inv_4.2.2.2.2.2.2.1 (by omega) 30 (by decide)) (by exact inv_4.2.2.2.2.2.2.1 (by omega) 31 (by decide)) (by exact inv_4.2.2.2.2.2.2.1 (by omega) 32 (by decide))) v_X4_146 rfl rfl rfl ⟨Nat.le_of_ble_eq_true rfl, Nat.le_of_ble_eq_true rfl⟩ rfl hl.1 (Nat.le_of_ble_eq_true rfl) dX4_readParts_151 ⟨Nat.zero_le _, Nat.zero_le _⟩ (fun r_151 A_151 H locs z_151 w => ?_)
                      have KI_151 : kpI [3, 4, 5, 6, 7, 8, 9, 10, 11, 12, 13, 14, 15, 16, 17, 18] A A_151 := kpI.tr (J := [3, 4, 5, 6, 7, 8, 9, 10, 11, 12, 13, 14, 15, 16, 17, 18]) KI_142 z_151.1 (by decide) (by decide)
                      have q_151 : (A_151 3).toInt = (sWk T ((I_L4 3).toInt + 2) qq gg).2.1 := z_151.2.2.1
                      have b_151 : r_151 = bI (decide ((sWk T ((I_L4 3).toInt + 2) qq gg).1 = true)) := z_151.2.1
                      have Q_151 : po ≤ (sWk T ((I_L4 3).toInt + 2) qq gg).2.1 ∧ (sWk T ((I_L4 3).toInt + 2) qq gg).2.1 ≤ (A 2).toInt := ⟨(by have h : (A_142 3).toInt ≤ (A_151 3).toInt := z_151.2.2.2.1.1; have h3 : (A_142 3).toInt = (((I_L4 3).toInt) + 1) + 1 := ((congrArg Int32.toInt rfl).trans p_142); have h4 := Q_142; rw [← q_151]; omega), (by rw [← q_151]; exact Int.le_trans z_151.2.2.2.1.2 (Int.le_of_eq (congrArg Int32.toInt (KI_142 2 (by decide)))))⟩
                      have S_151 := z_151.2.2.2.2
                      refine lv_istore_n (lv' := [(3, .int r_151), (1, .int 3), (2, .int v_pt), (0, .ref (b + 3))]) hx hb dX4_readParts_154 rfl hl (by decide) rfl (fun ls hl => ?_)
                      refine lv_iload_n hx hb dX4_readParts_155 rfl (lv_at hl 0 rfl) ?_
                      refine lv_if_ne (tgt := 161) hx hb dX4_readParts_156 (by decide) (fun c_156 => ?_) (fun c_156 => ?_)
                      · skip
                        rw [b_151] at c_156
                        have k_156 := bI_t.mp c_156
                        have C_151 := S_151 k_156
                        obtain ⟨x_161, e_161⟩ : ∃ z : Int32, z = (v_pt + 1) := ⟨_, rfl⟩
                        have p_161 : x_161.toInt = (pt + 1) := by rw [e_161]; exact t_add q_pt (show (1 : Int32).toInt = 1 from rfl) (by omega) (by omega)
                        refine lv_iinc (v := x_161) (lv' := [(2, .int x_161), (3, .int r_151), (1, .int 3), (0, .ref (b + 3))]) hx hb dX4_readParts_161 hl (k := 2) rfl (by rw [e_161]; rfl) (by decide) rfl (fun ls hl => ?_)
                        refine lv_goto (tgt := 4) hx hb dX4_readParts_164 (by decide) ?_
                        refine ih_4 ⟨3, x_161, 3, (pt + 1), (sWk T ((I_L4 3).toInt + 2) qq gg).2.2.1, (sWk T ((I_L4 3).toInt + 2) qq gg).2.2.2, A_151, R_L4⟩ ⟨(show (3 : Int32).toInt = 3 from rfl), p_161, by dsimp only; exact ⟨by omega, KI_151, inv_4.2.2.1, C_151, (fun y => absurd y (by decide)), (fun y => absurd y (by decide)), (fun y => absurd y (by decide)), (by rw [inv_4.2.2.2.2.2.2.2.1, sPs_w ⟨by omega, by omega⟩ k_23 k_145, sAnd_t k_156, q_151]), (by rw [q_151]; exact Q_151.1), (by rw [q_151]; exact Q_151.2)⟩⟩ (by dsimp only; omega) _ _ w ls (lv_sub hl [0, 2, 3] rfl)
                      · skip
                        rw [b_151] at c_156
                        have k_156 := bI_f.mp c_156
                        refine lv_iconst (v := 0) hx hb dX4_readParts_159 (by decide) ?_
                        exact q_cret (post := (fun z n1 σ1 => n1 = n ∧ ∃ A1 B1, σ1 = cS t b σ0 A1 B1 P ∧ kpI [3, 4, 5, 6, 7, 8, 9, 10, 11, 12, 13, 14, 15, 16, 17, 18] A A1 ∧ kpR [1, 2, 3] B B1 ∧ z = bI (decide ((sPs T 0 po q false).1 = true)) ∧ (A1 3).toInt = (sPs T 0 po q false).2.1 ∧ ((A 3).toInt ≤ (A1 3).toInt ∧ (A1 3).toInt ≤ (A 2).toInt) ∧ ((sPs T 0 po q false).1 = true → rdC (sPs T 0 po q false).2.2.1 (sPs T 0 po q false).2.2.2 A1 B1))) X w dX4_readParts_160 (rfl) ⟨rfl, _, _, rfl, by have e : (sPs T 0 po q false).1 = false ∧ (sPs T 0 po q false).2.1 = (sWk T ((I_L4 3).toInt + 2) qq gg).2.1 := (by rw [inv_4.2.2.2.2.2.2.2.1, sPs_w ⟨by omega, by omega⟩ k_23 k_145, sAnd_f k_156]; exact ⟨b_f k_156, rfl⟩); exact ⟨KI_151, inv_4.2.2.1, bI_0 (by rw [e.1]; decide), ((congrArg Int32.toInt rfl).trans q_151).trans e.2.symm, (by have h3 : (A_151 3).toInt = (sWk T ((I_L4 3).toInt + 2) qq gg).2.1 := ((congrArg Int32.toInt rfl).trans q_151); rw [h3, h_3]; exact Q_151), fun h => absurd (h.symm.trans e.1) (by decide)⟩⟩
                  · skip
                    rw [b_120] at c_123
                    have k_123 := bI_t.mp c_123
                    have p_120 : (A_120 3).toInt = (((I_L4 3).toInt) + 1) + 1 := q_120.trans (if_pos k_123)
                    have Q_120 : po ≤ (((I_L4 3).toInt) + 1) + 1 ∧ (((I_L4 3).toInt) + 1) + 1 ≤ (A 2).toInt := by have h := Q_120; rw [show (if T (((I_L4 3).toInt) + 1) = 99 then (((I_L4 3).toInt) + 1) + 1 else (((I_L4 3).toInt) + 1)) = (((I_L4 3).toInt) + 1) + 1 from q_120.symm.trans p_120] at h; exact h
                    have hgg := (inv_4.2.2.2.2.2.1 (by omega)).1
                    subst hgg
                    refine lv_iconst (v := 2) hx hb dX4_readParts_126 (by decide) ?_
                    refine lv_istore_n (lv' := [(1, .int 2), (3, .int 0), (2, .int v_pt), (0, .ref (b + 3))]) hx hb dX4_readParts_127 rfl hl (by decide) rfl (fun ls hl => ?_)
                    refine lv_aload_n hx hb dX4_readParts_128 rfl (lv_at hl 3 rfl) ?_
                    refine kk_cCI X w (c_X4_readCycle l D t b n σ0 A_120 R_L4 P T ((I_L4 3).toInt + 2) qq (by exact h_1.trans (txC_cg (KI_120 2 (by decide)) (inv_4.2.2.1 0 (by decide))).symm) (by exact h_2.cg (KI_120 2 (by decide)) (inv_4.2.2.1 0 (by decide))) (by have h3 : (A_120 3).toInt = (((I_L4 3).toInt) + 1) + 1 := ((congrArg Int32.toInt rfl).trans p_120); rw [h3]; omega) (by have h2 : (A_120 2).toInt = (A 2).toInt := (congrArg Int32.toInt (KI_120 2 (by decide))); rw [h2]; have hq := Q_120; omega) (by exact (rdC_cg (rdC_cg (rdC_cg inv_4.2.2.2.1 (kpI.wk z_20.1 (by decide))) (kpI.wk z_93.1 (by decide))) (kpI.wk z_120.1 (by decide)))) (by exact (inv_4.2.2.2.2.2.1 (by omega)).2 19 (by decide))) v_X4_143 rfl rfl rfl ⟨Nat.le_of_ble_eq_true rfl, Nat.le_of_ble_eq_true rfl⟩ rfl hl.1 (Nat.le_of_ble_eq_true rfl) dX4_readParts_129 ⟨Nat.zero_le _, Nat.zero_le _⟩ (fun r_129 A_129 H locs z_129 w => ?_)
                    have KI_129 : kpI [3, 4, 5, 6, 7, 8, 9, 10, 11, 12, 13, 14, 15, 16, 17, 18] A A_129 := kpI.tr (J := [3, 4, 5, 6, 7, 8, 9, 10, 11, 12, 13, 14, 15, 16, 17, 18]) KI_120 z_129.1 (by decide) (by decide)
                    have q_129 : (A_129 3).toInt = (sCyc T ((I_L4 3).toInt + 2) qq false).2.1 := z_129.2.2.1
                    have b_129 : r_129 = bI (decide ((sCyc T ((I_L4 3).toInt + 2) qq false).1 = true)) := z_129.2.1
                    have Q_129 : po ≤ (sCyc T ((I_L4 3).toInt + 2) qq false).2.1 ∧ (sCyc T ((I_L4 3).toInt + 2) qq false).2.1 ≤ (A 2).toInt := ⟨(by have h : (A_120 3).toInt ≤ (A_129 3).toInt := z_129.2.2.2.1.1; have h3 : (A_120 3).toInt = (((I_L4 3).toInt) + 1) + 1 := ((congrArg Int32.toInt rfl).trans p_120); have h4 := Q_120; rw [← q_129]; omega), (by rw [← q_129]; exact Int.le_trans z_129.2.2.2.1.2 (Int.le_of_eq (congrArg Int32.toInt (KI_120 2 (by decide)))))⟩
                    have S_129 := z_129.2.2.2.2
                    refine lv_istore_n (lv' := [(3, .int r_129), (1, .int 2), (2, .int v_pt), (0, .ref (b + 3))]) hx hb dX4_readParts_132 rfl hl (by decide) rfl (fun ls hl => ?_)
                    refine lv_goto (tgt := 155) hx hb dX4_readParts_133 (by decide) ?_
                    refine lv_iload_n hx hb dX4_readParts_155 rfl (lv_at hl 0 rfl) ?_
                    refine lv_if_ne (tgt := 161) hx hb dX4_readParts_156 (by decide) (fun c_156 => ?_) (fun c_156 => ?_)
                    · skip
                      rw [b_129] at c_156
                      have k_156 := bI_t.mp c_156
                      have C_129 := S_129 k_156
                      obtain ⟨x_161, e_161⟩ : ∃ z : Int32, z = (v_pt + 1) := ⟨_, rfl⟩
                      have p_161 : x_161.toInt = (pt + 1) := by rw [e_161]; exact t_add q_pt (show (1 : Int32).toInt = 1 from rfl) (by omega) (by omega)
                      refine lv_iinc (v := x_161) (lv' := [(2, .int x_161), (3, .int r_129), (1, .int 2), (0, .ref (b + 3))]) hx hb dX4_readParts_161 hl (k := 2) rfl (by rw [e_161]; rfl) (by decide) rfl (fun ls hl => ?_)
                      refine lv_goto (tgt := 4) hx hb dX4_readParts_164 (by decide) ?_
                      refine ih_4 ⟨2, x_161, 2, (pt + 1), (sCyc T ((I_L4 3).toInt + 2) qq false).2.2.1, (sCyc T ((I_L4 3).toInt + 2) qq false).2.2.2, A_129, R_L4⟩ ⟨(show (2 : Int32).toInt = 2 from rfl), p_161, by dsimp only; exact ⟨by omega, KI_129, inv_4.2.2.1, C_129, (fun y => absurd y (by decide)), (fun y => absurd y (by decide)), (fun _ j hj => (sCyc_j j hj).trans (inv_4.2.2.2.2.2.2.1 (by omega) j hj)), (by rw [inv_4.2.2.2.2.2.2.2.1, sPs_c ⟨by omega, by omega⟩ k_23 k_123, sAnd_t k_156, q_129]), (by rw [q_129]; exact Q_129.1), (by rw [q_129]; exact Q_129.2)⟩⟩ (by dsimp only; omega) _ _ w ls (lv_sub hl [0, 2, 3] rfl)
                    · skip
                      rw [b_129] at c_156
                      have k_156 := bI_f.mp c_156
                      refine lv_iconst (v := 0) hx hb dX4_readParts_159 (by decide) ?_
                      exact q_cret (post := (fun z n1 σ1 => n1 = n ∧ ∃ A1 B1, σ1 = cS t b σ0 A1 B1 P ∧ kpI [3, 4, 5, 6, 7, 8, 9, 10, 11, 12, 13, 14, 15, 16, 17, 18] A A1 ∧ kpR [1, 2, 3] B B1 ∧ z = bI (decide ((sPs T 0 po q false).1 = true)) ∧ (A1 3).toInt = (sPs T 0 po q false).2.1 ∧ ((A 3).toInt ≤ (A1 3).toInt ∧ (A1 3).toInt ≤ (A 2).toInt) ∧ ((sPs T 0 po q false).1 = true → rdC (sPs T 0 po q false).2.2.1 (sPs T 0 po q false).2.2.2 A1 B1))) X w dX4_readParts_160 (rfl) ⟨rfl, _, _, rfl, by have e : (sPs T 0 po q false).1 = false ∧ (sPs T 0 po q false).2.1 = (sCyc T ((I_L4 3).toInt + 2) qq false).2.1 := (by rw [inv_4.2.2.2.2.2.2.2.1, sPs_c ⟨by omega, by omega⟩ k_23 k_123, sAnd_f k_156]; exact ⟨b_f k_156, rfl⟩); exact ⟨KI_129, inv_4.2.2.1, bI_0 (by rw [e.1]; decide), ((congrArg Int32.toInt rfl).trans q_129).trans e.2.symm, (by have h3 : (A_129 3).toInt = (sCyc T ((I_L4 3).toInt + 2) qq false).2.1 := ((congrArg Int32.toInt rfl).trans q_129); rw [h3, h_3]; exact Q_129), fun h => absurd (h.symm.trans e.1) (by decide)⟩⟩
              · skip
                rw [b_93] at c_96
                have k_96 := bI_t.mp c_96
                have p_93 : (A_93 3).toInt = (((I_L4 3).toInt) + 1) + 1 := q_93.trans (if_pos k_96)
                have Q_93 : po ≤ (((I_L4 3).toInt) + 1) + 1 ∧ (((I_L4 3).toInt) + 1) + 1 ≤ (A 2).toInt := by have h := Q_93; rw [show (if T (((I_L4 3).toInt) + 1) = 108 then (((I_L4 3).toInt) + 1) + 1 else (((I_L4 3).toInt) + 1)) = (((I_L4 3).toInt) + 1) + 1 from q_93.symm.trans p_93] at h; exact h
                refine lv_iconst (v := 2) hx hb dX4_readParts_99 (by decide) ?_
                refine lv_istore_n (lv' := [(1, .int 2), (3, .int 0), (2, .int v_pt), (0, .ref (b + 3))]) hx hb dX4_readParts_100 rfl hl (by decide) rfl (fun ls hl => ?_)
                refine lv_aload_n hx hb dX4_readParts_101 rfl (lv_at hl 3 rfl) ?_
                refine kk_cCIR X w (c_X4_readDivisors l D t b n σ0 A_93 R_L4 P T ((I_L4 3).toInt + 2) qq gg (by exact h_1.trans (txC_cg (KI_93 2 (by decide)) (inv_4.2.2.1 0 (by decide))).symm) (by exact h_2.cg (KI_93 2 (by decide)) (inv_4.2.2.1 0 (by decide))) (by have h3 : (A_93 3).toInt = (((I_L4 3).toInt) + 1) + 1 := ((congrArg Int32.toInt rfl).trans p_93); rw [h3]; omega) (by have h2 : (A_93 2).toInt = (A 2).toInt := (congrArg Int32.toInt (KI_93 2 (by decide))); rw [h2]; have hq := Q_93; omega) (by exact (rdC_cg (rdC_cg inv_4.2.2.2.1 (kpI.wk z_20.1 (by decide))) (kpI.wk z_93.1 (by decide)))) (by exact (inv_4.2.2.2.2.2.1 (by omega)).2 19 (by decide)) (by exact fun j hj => ((inv_4.2.2.2.2.2.1 (by omega)).2 (24 + j) (by omega)).trans (by unfold row0; rw [if_neg (by omega), if_neg (by omega)]))) v_X4_140 rfl rfl rfl ⟨Nat.le_of_ble_eq_true rfl, Nat.le_of_ble_eq_true rfl⟩ rfl hl.1 (Nat.le_of_ble_eq_true rfl) dX4_readParts_102 ⟨Nat.zero_le _, Nat.zero_le _⟩ (fun r_102 A_102 B_102 H locs z_102 w => ?_)
                have KI_102 : kpI [3, 4, 5, 6, 7, 8, 9, 10, 11, 12, 13, 14, 15, 16, 17, 18] A A_102 := kpI.tr (J := [3, 4, 5, 6, 7, 8, 9, 10, 11, 12, 13, 14, 15, 16, 17, 18]) KI_93 z_102.1 (by decide) (by decide)
                have KR_102 : kpR [1, 2, 3] B B_102 := kpR.tr (J := [1, 2, 3]) inv_4.2.2.1 z_102.2.1 (by decide) (by decide)
                have q_102 : (A_102 3).toInt = (sDivs T ((I_L4 3).toInt + 2) qq gg).2.1 := z_102.2.2.2.1
                have b_102 : r_102 = bI (decide ((sDivs T ((I_L4 3).toInt + 2) qq gg).1 = true)) := z_102.2.2.1
                have Q_102 : po ≤ (sDivs T ((I_L4 3).toInt + 2) qq gg).2.1 ∧ (sDivs T ((I_L4 3).toInt + 2) qq gg).2.1 ≤ (A 2).toInt := ⟨(by have h : (A_93 3).toInt ≤ (A_102 3).toInt := z_102.2.2.2.2.1.1; have h3 : (A_93 3).toInt = (((I_L4 3).toInt) + 1) + 1 := ((congrArg Int32.toInt rfl).trans p_93); have h4 := Q_93; rw [← q_102]; omega), (by rw [← q_102]; exact Int.le_trans z_102.2.2.2.2.1.2 (Int.le_of_eq (congrArg Int32.toInt (KI_93 2 (by decide)))))⟩
                have S_102 := z_102.2.2.2.2.2
                refine lv_istore_n (lv' := [(3, .int r_102), (1, .int 2), (2, .int v_pt), (0, .ref (b + 3))]) hx hb dX4_readParts_105 rfl hl (by decide) rfl (fun ls hl => ?_)
                refine lv_goto (tgt := 155) hx hb dX4_readParts_106 (by decide) ?_
                refine lv_iload_n hx hb dX4_readParts_155 rfl (lv_at hl 0 rfl) ?_
                refine lv_if_ne (tgt := 161) hx hb dX4_readParts_156 (by decide) (fun c_156 => ?_) (fun c_156 => ?_)
                · skip
                  rw [b_102] at c_156
                  have k_156 := bI_t.mp c_156
                  have C_102 := S_102 k_156
                  obtain ⟨x_161, e_161⟩ : ∃ z : Int32, z = (v_pt + 1) := ⟨_, rfl⟩
                  have p_161 : x_161.toInt = (pt + 1) := by rw [e_161]; exact t_add q_pt (show (1 : Int32).toInt = 1 from rfl) (by omega) (by omega)
                  refine lv_iinc (v := x_161) (lv' := [(2, .int x_161), (3, .int r_102), (1, .int 2), (0, .ref (b + 3))]) hx hb dX4_readParts_161 hl (k := 2) rfl (by rw [e_161]; rfl) (by decide) rfl (fun ls hl => ?_)
                  refine lv_goto (tgt := 4) hx hb dX4_readParts_164 (by decide) ?_
                  refine ih_4 ⟨2, x_161, 2, (pt + 1), (sDivs T ((I_L4 3).toInt + 2) qq gg).2.2.1, (sDivs T ((I_L4 3).toInt + 2) qq gg).2.2.2, A_102, B_102⟩ ⟨(show (2 : Int32).toInt = 2 from rfl), p_161, by dsimp only; exact ⟨by omega, KI_102, KR_102, C_102, (fun y => absurd y (by decide)), (fun y => absurd y (by decide)), (fun _ j hj => (sDivs_j j hj).trans (inv_4.2.2.2.2.2.2.1 (by omega) j hj)), (by rw [inv_4.2.2.2.2.2.2.2.1, sPs_l ⟨by omega, by omega⟩ k_23 k_96, sAnd_t k_156, q_102]), (by rw [q_102]; exact Q_102.1), (by rw [q_102]; exact Q_102.2)⟩⟩ (by dsimp only; omega) _ _ w ls (lv_sub hl [0, 2, 3] rfl)
                · skip
                  rw [b_102] at c_156
                  have k_156 := bI_f.mp c_156
                  refine lv_iconst (v := 0) hx hb dX4_readParts_159 (by decide) ?_
                  exact q_cret (post := (fun z n1 σ1 => n1 = n ∧ ∃ A1 B1, σ1 = cS t b σ0 A1 B1 P ∧ kpI [3, 4, 5, 6, 7, 8, 9, 10, 11, 12, 13, 14, 15, 16, 17, 18] A A1 ∧ kpR [1, 2, 3] B B1 ∧ z = bI (decide ((sPs T 0 po q false).1 = true)) ∧ (A1 3).toInt = (sPs T 0 po q false).2.1 ∧ ((A 3).toInt ≤ (A1 3).toInt ∧ (A1 3).toInt ≤ (A 2).toInt) ∧ ((sPs T 0 po q false).1 = true → rdC (sPs T 0 po q false).2.2.1 (sPs T 0 po q false).2.2.2 A1 B1))) X w dX4_readParts_160 (rfl) ⟨rfl, _, _, rfl, by have e : (sPs T 0 po q false).1 = false ∧ (sPs T 0 po q false).2.1 = (sDivs T ((I_L4 3).toInt + 2) qq gg).2.1 := (by rw [inv_4.2.2.2.2.2.2.2.1, sPs_l ⟨by omega, by omega⟩ k_23 k_96, sAnd_f k_156]; exact ⟨b_f k_156, rfl⟩); exact ⟨KI_102, KR_102, bI_0 (by rw [e.1]; decide), ((congrArg Int32.toInt rfl).trans q_102).trans e.2.symm, (by have h3 : (A_102 3).toInt = (sDivs T ((I_L4 3).toInt + 2) qq gg).2.1 := ((congrArg Int32.toInt rfl).trans q_102); rw [h3, h_3]; exact Q_102), fun h => absurd (h.symm.trans e.1) (by decide)⟩⟩
          · skip
            have k_57 : ¬ (1 ≤ sg) := fun h => c_57 ((g_le (show (1 : Int32).toInt = 1 from rfl) q_sg).mpr h)
            exfalso; omega
        · skip
          have k_30 : ¬ (1 ≤ sg) := fun h => c_30 ((g_le (show (1 : Int32).toInt = 1 from rfl) q_sg).mpr h)
          refine lv_aload_n hx hb dX4_readParts_33 rfl (lv_at hl 3 rfl) ?_
          refine kg_X4_text X w dX4_readParts_34 ?_
          refine lv_bipush (v := 100) hx hb dX4_readParts_37 (by decide) ?_
          refine kk_cCI X w (c_X7_accept l D t b n σ0 A_20 R_L4 P T 100 100 (show (100 : Int32).toInt = 100 from rfl) (by exact h_1.trans (txC_cg (KI_20 2 (by decide)) (inv_4.2.2.1 0 (by decide))).symm) (by exact h_2.cg (KI_20 2 (by decide)) (inv_4.2.2.1 0 (by decide))) (by have h2 : (A_20 2).toInt = (A 2).toInt := (congrArg Int32.toInt (KI_20 2 (by decide))); have h3 : (A_20 3).toInt = ((I_L4 3).toInt) + 1 := ((congrArg Int32.toInt rfl).trans p_20); rw [h2, h3]; exact ⟨Int.le_trans h_4.1 Q_20.1, Q_20.2⟩) (by first | assumption | omega)) v_X4_114 rfl rfl rfl ⟨Nat.le_of_ble_eq_true rfl, Nat.le_of_ble_eq_true rfl⟩ rfl hl.1 (Nat.le_of_ble_eq_true rfl) dX4_readParts_39 ⟨Nat.zero_le _, Nat.zero_le _⟩ (fun r_39 A_39 H locs z_39 w => ?_)
          have KI_39 : kpI [3, 4, 5, 6, 7, 8, 9, 10, 11, 12, 13, 14, 15, 16, 17, 18] A A_39 := kpI.tr (J := [3, 4, 5, 6, 7, 8, 9, 10, 11, 12, 13, 14, 15, 16, 17, 18]) KI_20 z_39.1 (by decide) (by decide)
          have q_39 : (A_39 3).toInt = (if T (((I_L4 3).toInt) + 1) = 100 then (((I_L4 3).toInt) + 1) + 1 else (((I_L4 3).toInt) + 1)) := by have h : (A_39 3).toInt = (if T ((A_20 3).toInt) = 100 then ((A_20 3).toInt) + 1 else ((A_20 3).toInt)) := z_39.2.2.1; rw [show (A_20 3).toInt = ((I_L4 3).toInt) + 1 from ((congrArg Int32.toInt rfl).trans p_20)] at h; exact h
          have b_39 : r_39 = bI (decide (T (((I_L4 3).toInt) + 1) = 100)) := by have h : r_39 = bI (decide (T ((A_20 3).toInt) = 100)) := z_39.2.1; rw [show (A_20 3).toInt = ((I_L4 3).toInt) + 1 from ((congrArg Int32.toInt rfl).trans p_20)] at h; exact h
          have Q_39 : po ≤ (if T (((I_L4 3).toInt) + 1) = 100 then (((I_L4 3).toInt) + 1) + 1 else (((I_L4 3).toInt) + 1)) ∧ (if T (((I_L4 3).toInt) + 1) = 100 then (((I_L4 3).toInt) + 1) + 1 else (((I_L4 3).toInt) + 1)) ≤ (A 2).toInt := ⟨(by have h := Q_20; split <;> omega), (by rw [← q_39]; exact Int.le_trans z_39.2.2.2 (Int.le_of_eq (congrArg Int32.toInt (KI_20 2 (by decide)))))⟩
          refine lv_if_eq (tgt := 55) hx hb dX4_readParts_42 (by decide) (fun c_42 => ?_) (fun c_42 => ?_)
          · skip
            rw [b_39] at c_42
            have k_42 := bI_f.mp c_42
            have p_39 : (A_39 3).toInt = ((I_L4 3).toInt) + 1 := q_39.trans (if_neg k_42)
            have Q_39 : po ≤ ((I_L4 3).toInt) + 1 ∧ ((I_L4 3).toInt) + 1 ≤ (A 2).toInt := by have h := Q_39; rw [show (if T (((I_L4 3).toInt) + 1) = 100 then (((I_L4 3).toInt) + 1) + 1 else (((I_L4 3).toInt) + 1)) = ((I_L4 3).toInt) + 1 from q_39.symm.trans p_39] at h; exact h
            refine lv_iload_n hx hb dX4_readParts_55 rfl (lv_at hl 2 rfl) ?_
            refine lv_iconst (v := 1) hx hb dX4_readParts_56 (by decide) ?_
            refine lv_icmp_ge (tgt := 82) hx hb dX4_readParts_57 (by decide) (fun c_57 => ?_) (fun c_57 => ?_)
            · skip
              have k_57 : 1 ≤ sg := (g_le (show (1 : Int32).toInt = 1 from rfl) q_sg).mp c_57
              exfalso; omega
            · skip
              have k_57 : ¬ (1 ≤ sg) := fun h => c_57 ((g_le (show (1 : Int32).toInt = 1 from rfl) q_sg).mpr h)
              refine lv_aload_n hx hb dX4_readParts_60 rfl (lv_at hl 3 rfl) ?_
              refine kg_X4_text X w dX4_readParts_61 ?_
              refine lv_bipush (v := 105) hx hb dX4_readParts_64 (by decide) ?_
              refine kk_cCI X w (c_X7_accept l D t b n σ0 A_39 R_L4 P T 105 105 (show (105 : Int32).toInt = 105 from rfl) (by exact h_1.trans (txC_cg (KI_39 2 (by decide)) (inv_4.2.2.1 0 (by decide))).symm) (by exact h_2.cg (KI_39 2 (by decide)) (inv_4.2.2.1 0 (by decide))) (by have h2 : (A_39 2).toInt = (A 2).toInt := (congrArg Int32.toInt (KI_39 2 (by decide))); have h3 : (A_39 3).toInt = ((I_L4 3).toInt) + 1 := ((congrArg Int32.toInt rfl).trans p_39); rw [h2, h3]; exact ⟨Int.le_trans h_4.1 Q_39.1, Q_39.2⟩) (by first | assumption | omega)) v_X4_114 rfl rfl rfl ⟨Nat.le_of_ble_eq_true rfl, Nat.le_of_ble_eq_true rfl⟩ rfl hl.1 (Nat.le_of_ble_eq_true rfl) dX4_readParts_66 ⟨Nat.zero_le _, Nat.zero_le _⟩ (fun r_66 A_66 H locs z_66 w => ?_)
              have KI_66 : kpI [3, 4, 5, 6, 7, 8, 9, 10, 11, 12, 13, 14, 15, 16, 17, 18] A A_66 := kpI.tr (J := [3, 4, 5, 6, 7, 8, 9, 10, 11, 12, 13, 14, 15, 16, 17, 18]) KI_39 z_66.1 (by decide) (by decide)
              have q_66 : (A_66 3).toInt = (if T (((I_L4 3).toInt) + 1) = 105 then (((I_L4 3).toInt) + 1) + 1 else (((I_L4 3).toInt) + 1)) := by have h : (A_66 3).toInt = (if T ((A_39 3).toInt) = 105 then ((A_39 3).toInt) + 1 else ((A_39 3).toInt)) := z_66.2.2.1; rw [show (A_39 3).toInt = ((I_L4 3).toInt) + 1 from ((congrArg Int32.toInt rfl).trans p_39)] at h; exact h
              have b_66 : r_66 = bI (decide (T (((I_L4 3).toInt) + 1) = 105)) := by have h : r_66 = bI (decide (T ((A_39 3).toInt) = 105)) := z_66.2.1; rw [show (A_39 3).toInt = ((I_L4 3).toInt) + 1 from ((congrArg Int32.toInt rfl).trans p_39)] at h; exact h
              have Q_66 : po ≤ (if T (((I_L4 3).toInt) + 1) = 105 then (((I_L4 3).toInt) + 1) + 1 else (((I_L4 3).toInt) + 1)) ∧ (if T (((I_L4 3).toInt) + 1) = 105 then (((I_L4 3).toInt) + 1) + 1 else (((I_L4 3).toInt) + 1)) ≤ (A 2).toInt := ⟨(by have h := Q_39; split <;> omega), (by rw [← q_66]; exact Int.le_trans z_66.2.2.2 (Int.le_of_eq (congrArg Int32.toInt (KI_39 2 (by decide)))))⟩
              refine lv_if_eq (tgt := 82) hx hb dX4_readParts_69 (by decide) (fun c_69 => ?_) (fun c_69 => ?_)
              · skip
                rw [b_66] at c_69
                have k_69 := bI_f.mp c_69
                have p_66 : (A_66 3).toInt = ((I_L4 3).toInt) + 1 := q_66.trans (if_neg k_69)
                have Q_66 : po ≤ ((I_L4 3).toInt) + 1 ∧ ((I_L4 3).toInt) + 1 ≤ (A 2).toInt := by have h := Q_66; rw [show (if T (((I_L4 3).toInt) + 1) = 105 then (((I_L4 3).toInt) + 1) + 1 else (((I_L4 3).toInt) + 1)) = ((I_L4 3).toInt) + 1 from q_66.symm.trans p_66] at h; exact h
                refine lv_iload_n hx hb dX4_readParts_82 rfl (lv_at hl 2 rfl) ?_
                refine lv_iconst (v := 2) hx hb dX4_readParts_83 (by decide) ?_
                refine lv_icmp_ge (tgt := 109) hx hb dX4_readParts_84 (by decide) (fun c_84 => ?_) (fun c_84 => ?_)
                · skip
                  have k_84 : 2 ≤ sg := (g_le (show (2 : Int32).toInt = 2 from rfl) q_sg).mp c_84
                  exfalso; omega
                · skip
                  have k_84 : ¬ (2 ≤ sg) := fun h => c_84 ((g_le (show (2 : Int32).toInt = 2 from rfl) q_sg).mpr h)
                  refine lv_aload_n hx hb dX4_readParts_87 rfl (lv_at hl 3 rfl) ?_
                  refine kg_X4_text X w dX4_readParts_88 ?_
                  refine lv_bipush (v := 108) hx hb dX4_readParts_91 (by decide) ?_
                  refine kk_cCI X w (c_X7_accept l D t b n σ0 A_66 R_L4 P T 108 108 (show (108 : Int32).toInt = 108 from rfl) (by exact h_1.trans (txC_cg (KI_66 2 (by decide)) (inv_4.2.2.1 0 (by decide))).symm) (by exact h_2.cg (KI_66 2 (by decide)) (inv_4.2.2.1 0 (by decide))) (by have h2 : (A_66 2).toInt = (A 2).toInt := (congrArg Int32.toInt (KI_66 2 (by decide))); have h3 : (A_66 3).toInt = ((I_L4 3).toInt) + 1 := ((congrArg Int32.toInt rfl).trans p_66); rw [h2, h3]; exact ⟨Int.le_trans h_4.1 Q_66.1, Q_66.2⟩) (by first | assumption | omega)) v_X4_114 rfl rfl rfl ⟨Nat.le_of_ble_eq_true rfl, Nat.le_of_ble_eq_true rfl⟩ rfl hl.1 (Nat.le_of_ble_eq_true rfl) dX4_readParts_93 ⟨Nat.zero_le _, Nat.zero_le _⟩ (fun r_93 A_93 H locs z_93 w => ?_)
                  have KI_93 : kpI [3, 4, 5, 6, 7, 8, 9, 10, 11, 12, 13, 14, 15, 16, 17, 18] A A_93 := kpI.tr (J := [3, 4, 5, 6, 7, 8, 9, 10, 11, 12, 13, 14, 15, 16, 17, 18]) KI_66 z_93.1 (by decide) (by decide)
                  have q_93 : (A_93 3).toInt = (if T (((I_L4 3).toInt) + 1) = 108 then (((I_L4 3).toInt) + 1) + 1 else (((I_L4 3).toInt) + 1)) := by have h : (A_93 3).toInt = (if T ((A_66 3).toInt) = 108 then ((A_66 3).toInt) + 1 else ((A_66 3).toInt)) := z_93.2.2.1; rw [show (A_66 3).toInt = ((I_L4 3).toInt) + 1 from ((congrArg Int32.toInt rfl).trans p_66)] at h; exact h
                  have b_93 : r_93 = bI (decide (T (((I_L4 3).toInt) + 1) = 108)) := by have h : r_93 = bI (decide (T ((A_66 3).toInt) = 108)) := z_93.2.1; rw [show (A_66 3).toInt = ((I_L4 3).toInt) + 1 from ((congrArg Int32.toInt rfl).trans p_66)] at h; exact h
                  have Q_93 : po ≤ (if T (((I_L4 3).toInt) + 1) = 108 then (((I_L4 3).toInt) + 1) + 1 else (((I_L4 3).toInt) + 1)) ∧ (if T (((I_L4 3).toInt) + 1) = 108 then (((I_L4 3).toInt) + 1) + 1 else (((I_L4 3).toInt) + 1)) ≤ (A 2).toInt := ⟨(by have h := Q_66; split <;> omega), (by rw [← q_93]; exact Int.le_trans z_93.2.2.2 (Int.le_of_eq (congrArg Int32.toInt (KI_66 2 (by decide)))))⟩
                  refine lv_if_eq (tgt := 109) hx hb dX4_readParts_96 (by decide) (fun c_96 => ?_) (fun c_96 => ?_)
                  · skip
                    rw [b_93] at c_96
                    have k_96 := bI_f.mp c_96
                    have p_93 : (A_93 3).toInt = ((I_L4 3).toInt) + 1 := q_93.trans (if_neg k_96)
                    have Q_93 : po ≤ ((I_L4 3).toInt) + 1 ∧ ((I_L4 3).toInt) + 1 ≤ (A 2).toInt := by have h := Q_93; rw [show (if T (((I_L4 3).toInt) + 1) = 108 then (((I_L4 3).toInt) + 1) + 1 else (((I_L4 3).toInt) + 1)) = ((I_L4 3).toInt) + 1 from q_93.symm.trans p_93] at h; exact h
                    refine lv_iload_n hx hb dX4_readParts_109 rfl (lv_at hl 2 rfl) ?_
                    refine lv_iconst (v := 2) hx hb dX4_readParts_110 (by decide) ?_
                    refine lv_icmp_ge (tgt := 136) hx hb dX4_readParts_111 (by decide) (fun c_111 => ?_) (fun c_111 => ?_)
                    · skip
                      have k_111 : 2 ≤ sg := (g_le (show (2 : Int32).toInt = 2 from rfl) q_sg).mp c_111
                      exfalso; omega
                    · skip
                      have k_111 : ¬ (2 ≤ sg) := fun h => c_111 ((g_le (show (2 : Int32).toInt = 2 from rfl) q_sg).mpr h)
                      refine lv_aload_n hx hb dX4_readParts_114 rfl (lv_at hl 3 rfl) ?_
                      refine kg_X4_text X w dX4_readParts_115 ?_
                      refine lv_bipush (v := 99) hx hb dX4_readParts_118 (by decide) ?_
                      refine kk_cCI X w (c_X7_accept l D t b n σ0 A_93 R_L4 P T 99 99 (show (99 : Int32).toInt = 99 from rfl) (by exact h_1.trans (txC_cg (KI_93 2 (by decide)) (inv_4.2.2.1 0 (by decide))).symm) (by exact h_2.cg (KI_93 2 (by decide)) (inv_4.2.2.1 0 (by decide))) (by have h2 : (A_93 2).toInt = (A 2).toInt := (congrArg Int32.toInt (KI_93 2 (by decide))); have h3 : (A_93 3).toInt = ((I_L4 3).toInt) + 1 := ((congrArg Int32.toInt rfl).trans p_93); rw [h2, h3]; exact ⟨Int.le_trans h_4.1 Q_93.1, Q_93.2⟩) (by first | assumption | omega)) v_X4_114 rfl rfl rfl ⟨Nat.le_of_ble_eq_true rfl, Nat.le_of_ble_eq_true rfl⟩ rfl hl.1 (Nat.le_of_ble_eq_true rfl) dX4_readParts_120 ⟨Nat.zero_le _, Nat.zero_le _⟩ (fun r_120 A_120 H locs z_120 w => ?_)
                      have KI_120 : kpI [3, 4, 5, 6, 7, 8, 9, 10, 11, 12, 13, 14, 15, 16, 17, 18] A A_120 := kpI.tr (J := [3, 4, 5, 6, 7, 8, 9, 10, 11, 12, 13, 14, 15, 16, 17, 18]) KI_93 z_120.1 (by decide) (by decide)
                      have q_120 : (A_120 3).toInt = (if T (((I_L4 3).toInt) + 1) = 99 then (((I_L4 3).toInt) + 1) + 1 else (((I_L4 3).toInt) + 1)) := by have h : (A_120 3).toInt = (if T ((A_93 3).toInt) = 99 then ((A_93 3).toInt) + 1 else ((A_93 3).toInt)) := z_120.2.2.1; rw [show (A_93 3).toInt = ((I_L4 3).toInt) + 1 from ((congrArg Int32.toInt rfl).trans p_93)] at h; exact h
                      have b_120 : r_120 = bI (decide (T (((I_L4 3).toInt) + 1) = 99)) := by have h : r_120 = bI (decide (T ((A_93 3).toInt) = 99)) := z_120.2.1; rw [show (A_93 3).toInt = ((I_L4 3).toInt) + 1 from ((congrArg Int32.toInt rfl).trans p_93)] at h; exact h
                      have Q_120 : po ≤ (if T (((I_L4 3).toInt) + 1) = 99 then (((I_L4 3).toInt) + 1) + 1 else (((I_L4 3).toInt) + 1)) ∧ (if T (((I_L4 3).toInt) + 1) = 99 then (((I_L4 3).toInt) + 1) + 1 else (((I_L4 3).toInt) + 1)) ≤ (A 2).toInt := ⟨(by have h := Q_93; split <;> omega), (by rw [← q_120]; exact Int.le_trans z_120.2.2.2 (Int.le_of_eq (congrArg Int32.toInt (KI_93 2 (by decide)))))⟩
                      refine lv_if_eq (tgt := 136) hx hb dX4_readParts_123 (by decide) (fun c_123 => ?_) (fun c_123 => ?_)
                      · skip
                        rw [b_120] at c_123
                        have k_123 := bI_f.mp c_123
                        have p_120 : (A_120 3).toInt = ((I_L4 3).toInt) + 1 := q_120.trans (if_neg k_123)
                        have Q_120 : po ≤ ((I_L4 3).toInt) + 1 ∧ ((I_L4 3).toInt) + 1 ≤ (A 2).toInt := by have h := Q_120; rw [show (if T (((I_L4 3).toInt) + 1) = 99 then (((I_L4 3).toInt) + 1) + 1 else (((I_L4 3).toInt) + 1)) = ((I_L4 3).toInt) + 1 from q_120.symm.trans p_120] at h; exact h
                        refine lv_aload_n hx hb dX4_readParts_136 rfl (lv_at hl 3 rfl) ?_
                        refine kg_X4_text X w dX4_readParts_137 ?_
                        refine lv_bipush (v := 119) hx hb dX4_readParts_140 (by decide) ?_
                        refine kk_cCI X w (c_X7_accept l D t b n σ0 A_120 R_L4 P T 119 119 (show (119 : Int32).toInt = 119 from rfl) (by exact h_1.trans (txC_cg (KI_120 2 (by decide)) (inv_4.2.2.1 0 (by decide))).symm) (by exact h_2.cg (KI_120 2 (by decide)) (inv_4.2.2.1 0 (by decide))) (by have h2 : (A_120 2).toInt = (A 2).toInt := (congrArg Int32.toInt (KI_120 2 (by decide))); have h3 : (A_120 3).toInt = ((I_L4 3).toInt) + 1 := ((congrArg Int32.toInt rfl).trans p_120); rw [h2, h3]; exact ⟨Int.le_trans h_4.1 Q_120.1, Q_120.2⟩) (by first | assumption | omega)) v_X4_114 rfl rfl rfl ⟨Nat.le_of_ble_eq_true rfl, Nat.le_of_ble_eq_true rfl⟩ rfl hl.1 (Nat.le_of_ble_eq_true rfl) dX4_readParts_142 ⟨Nat.zero_le _, Nat.zero_le _⟩ (fun r_142 A_142 H locs z_142 w => ?_)
                        have KI_142 : kpI [3, 4, 5, 6, 7, 8, 9, 10, 11, 12, 13, 14, 15, 16, 17, 18] A A_142 := kpI.tr (J := [3, 4, 5, 6, 7, 8, 9, 10, 11, 12, 13, 14, 15, 16, 17, 18]) KI_120 z_142.1 (by decide) (by decide)
                        have q_142 : (A_142 3).toInt = (if T (((I_L4 3).toInt) + 1) = 119 then (((I_L4 3).toInt) + 1) + 1 else (((I_L4 3).toInt) + 1)) := by have h : (A_142 3).toInt = (if T ((A_120 3).toInt) = 119 then ((A_120 3).toInt) + 1 else ((A_120 3).toInt)) := z_142.2.2.1; rw [show (A_120 3).toInt = ((I_L4 3).toInt) + 1 from ((congrArg Int32.toInt rfl).trans p_120)] at h; exact h
                        have b_142 : r_142 = bI (decide (T (((I_L4 3).toInt) + 1) = 119)) := by have h : r_142 = bI (decide (T ((A_120 3).toInt) = 119)) := z_142.2.1; rw [show (A_120 3).toInt = ((I_L4 3).toInt) + 1 from ((congrArg Int32.toInt rfl).trans p_120)] at h; exact h
                        have Q_142 : po ≤ (if T (((I_L4 3).toInt) + 1) = 119 then (((I_L4 3).toInt) + 1) + 1 else (((I_L4 3).toInt) + 1)) ∧ (if T (((I_L4 3).toInt) + 1) = 119 then (((I_L4 3).toInt) + 1) + 1 else (((I_L4 3).toInt) + 1)) ≤ (A 2).toInt := ⟨(by have h := Q_120; split <;> omega), (by rw [← q_142]; exact Int.le_trans z_142.2.2.2 (Int.le_of_eq (congrArg Int32.toInt (KI_120 2 (by decide)))))⟩
                        refine lv_if_eq (tgt := 155) hx hb dX4_readParts_145 (by decide) (fun c_145 => ?_) (fun c_145 => ?_)
                        · skip
                          rw [b_142] at c_145
                          have k_145 := bI_f.mp c_145
                          have p_142 : (A_142 3).toInt = ((I_L4 3).toInt) + 1 := q_142.trans (if_neg k_145)
                          have Q_142 : po ≤ ((I_L4 3).toInt) + 1 ∧ ((I_L4 3).toInt) + 1 ≤ (A 2).toInt := by have h := Q_142; rw [show (if T (((I_L4 3).toInt) + 1) = 119 then (((I_L4 3).toInt) + 1) + 1 else (((I_L4 3).toInt) + 1)) = ((I_L4 3).toInt) + 1 from q_142.symm.trans p_142] at h; exact h
                          refine lv_iload_n hx hb dX4_readParts_155 rfl (lv_at hl 0 rfl) ?_
                          refine lv_if_ne (tgt := 161) hx hb dX4_readParts_156 (by decide) (fun c_156 => ?_) (fun c_156 => ?_)
                          · skip
                            have k_156 : ¬ ((0 : Int) = 0) := fun h => c_156 ((g_eq (show (0 : Int32).toInt = 0 from rfl) (show (0 : Int32).toInt = 0 from rfl)).mpr h)
                            exact absurd rfl k_156
                          · skip
                            have k_156 : (0 : Int) = 0 := (g_eq (show (0 : Int32).toInt = 0 from rfl) (show (0 : Int32).toInt = 0 from rfl)).mp c_156
                            refine lv_iconst (v := 0) hx hb dX4_readParts_159 (by decide) ?_
                            exact q_cret (post := (fun z n1 σ1 => n1 = n ∧ ∃ A1 B1, σ1 = cS t b σ0 A1 B1 P ∧ kpI [3, 4, 5, 6, 7, 8, 9, 10, 11, 12, 13, 14, 15, 16, 17, 18] A A1 ∧ kpR [1, 2, 3] B B1 ∧ z = bI (decide ((sPs T 0 po q false).1 = true)) ∧ (A1 3).toInt = (sPs T 0 po q false).2.1 ∧ ((A 3).toInt ≤ (A1 3).toInt ∧ (A1 3).toInt ≤ (A 2).toInt) ∧ ((sPs T 0 po q false).1 = true → rdC (sPs T 0 po q false).2.2.1 (sPs T 0 po q false).2.2.2 A1 B1))) X w dX4_readParts_160 (rfl) ⟨rfl, _, _, rfl, by have e : (sPs T 0 po q false).1 = false ∧ (sPs T 0 po q false).2.1 = ((I_L4 3).toInt) + 1 := (by rw [inv_4.2.2.2.2.2.2.2.1, sPs_no ⟨by omega, by omega⟩ k_23 (fun _ => k_42) (fun _ => k_69) (fun _ => k_96) (fun _ => k_123) k_145]; exact ⟨rfl, rfl⟩); exact ⟨KI_142, inv_4.2.2.1, bI_0 (by rw [e.1]; decide), ((congrArg Int32.toInt rfl).trans p_142).trans e.2.symm, (by have h3 : (A_142 3).toInt = ((I_L4 3).toInt) + 1 := ((congrArg Int32.toInt rfl).trans p_142); rw [h3, h_3]; exact Q_142), fun h => absurd (h.symm.trans e.1) (by decide)⟩⟩
                        · skip
                          rw [b_142] at c_145
                          have k_145 := bI_t.mp c_145
                          have p_142 : (A_142 3).toInt = (((I_L4 3).toInt) + 1) + 1 := q_142.trans (if_pos k_145)
                          have Q_142 : po ≤ (((I_L4 3).toInt) + 1) + 1 ∧ (((I_L4 3).toInt) + 1) + 1 ≤ (A 2).toInt := by have h := Q_142; rw [show (if T (((I_L4 3).toInt) + 1) = 119 then (((I_L4 3).toInt) + 1) + 1 else (((I_L4 3).toInt) + 1)) = (((I_L4 3).toInt) + 1) + 1 from q_142.symm.trans p_142] at h; exact h
                          refine lv_iconst (v := 3) hx hb dX4_readParts_148 (by decide) ?_
                          refine lv_istore_n (lv' := [(1, .int 3), (3, .int 0), (2, .int v_pt), (0, .ref (b + 3))]) hx hb dX4_readParts_149 rfl hl (by decide) rfl (fun ls hl => ?_)
                          refine lv_aload_n hx hb dX4_readParts_150 rfl (lv_at hl 3 rfl) ?_
                          refine kk_cCI X w (c_X4_readWeeks l D t b n σ0 A_142 R_L4 P T ((I_L4 3).toInt + 2) qq gg (by exact h_1.trans (txC_cg (KI_142 2 (by decide)) (inv_4.2.2.1 0 (by decide))).symm) (by exact h_2.cg (KI_142 2 (by decide)) (inv_4.2.2.1 0 (by decide))) (by have h3 : (A_142 3).toInt = (((I_L4 3).toInt) + 1) + 1 := ((congrArg Int32.toInt rfl).trans p_142); rw [h3]; omega) (by have h2 : (A_142 2).toInt = (A 2).toInt := (congrArg Int32.toInt (KI_142 2 (by decide))); rw [h2]; have hq := Q_142; omega) (by exact (rdC_cg (rdC_cg (rdC_cg (rdC_cg (rdC_cg (rdC_cg inv_4.2.2.2.1 (kpI.wk z_20.1 (by decide))) (kpI.wk z_39.1 (by decide))) (kpI.wk z_66.1 (by decide))) (kpI.wk z_93.1 (by decide))) (kpI.wk z_120.1 (by decide))) (kpI.wk z_142.1 (by decide)))) (by exact inv_4.2.2.2.2.2.2.1 (by omega) 30 (by decide)) (by exact inv_4.2.2.2.2.2.2.1 (by omega) 31 (by decide)) (by exact inv_4.2.2.2.2.2.2.1 (by omega) 32 (by decide))) v_X4_146 rfl rfl rfl ⟨Nat.le_of_ble_eq_true rfl, Nat.le_of_ble_eq_true rfl⟩ rfl hl.1 (Nat.le_of_ble_eq_true rfl) dX4_readParts_151 ⟨Nat.zero_le _, Nat.zero_le _⟩ (fun r_151 A_151 H locs z_151 w => ?_)
                          have KI_151 : kpI [3, 4, 5, 6, 7, 8, 9, 10, 11, 12, 13, 14, 15, 16, 17, 18] A A_151 := kpI.tr (J := [3, 4, 5, 6, 7, 8, 9, 10, 11, 12, 13, 14, 15, 16, 17, 18]) KI_142 z_151.1 (by decide) (by decide)
                          have q_151 : (A_151 3).toInt = (sWk T ((I_L4 3).toInt + 2) qq gg).2.1 := z_151.2.2.1
                          have b_151 : r_151 = bI (decide ((sWk T ((I_L4 3).toInt + 2) qq gg).1 = true)) := z_151.2.1
                          have Q_151 : po ≤ (sWk T ((I_L4 3).toInt + 2) qq gg).2.1 ∧ (sWk T ((I_L4 3).toInt + 2) qq gg).2.1 ≤ (A 2).toInt := ⟨(by have h : (A_142 3).toInt ≤ (A_151 3).toInt := z_151.2.2.2.1.1; have h3 : (A_142 3).toInt = (((I_L4 3).toInt) + 1) + 1 := ((congrArg Int32.toInt rfl).trans p_142); have h4 := Q_142; rw [← q_151]; omega), (by rw [← q_151]; exact Int.le_trans z_151.2.2.2.1.2 (Int.le_of_eq (congrArg Int32.toInt (KI_142 2 (by decide)))))⟩
                          have S_151 := z_151.2.2.2.2
                          refine lv_istore_n (lv' := [(3, .int r_151), (1, .int 3), (2, .int v_pt), (0, .ref (b + 3))]) hx hb dX4_readParts_154 rfl hl (by decide) rfl (fun ls hl => ?_)
                          refine lv_iload_n hx hb dX4_readParts_155 rfl (lv_at hl 0 rfl) ?_
                          refine lv_if_ne (tgt := 161) hx hb dX4_readParts_156 (by decide) (fun c_156 => ?_) (fun c_156 => ?_)
                          · skip
                            rw [b_151] at c_156
                            have k_156 := bI_t.mp c_156
                            have C_151 := S_151 k_156
                            obtain ⟨x_161, e_161⟩ : ∃ z : Int32, z = (v_pt + 1) := ⟨_, rfl⟩
                            have p_161 : x_161.toInt = (pt + 1) := by rw [e_161]; exact t_add q_pt (show (1 : Int32).toInt = 1 from rfl) (by omega) (by omega)
                            refine lv_iinc (v := x_161) (lv' := [(2, .int x_161), (3, .int r_151), (1, .int 3), (0, .ref (b + 3))]) hx hb dX4_readParts_161 hl (k := 2) rfl (by rw [e_161]; rfl) (by decide) rfl (fun ls hl => ?_)
                            refine lv_goto (tgt := 4) hx hb dX4_readParts_164 (by decide) ?_
                            refine ih_4 ⟨3, x_161, 3, (pt + 1), (sWk T ((I_L4 3).toInt + 2) qq gg).2.2.1, (sWk T ((I_L4 3).toInt + 2) qq gg).2.2.2, A_151, R_L4⟩ ⟨(show (3 : Int32).toInt = 3 from rfl), p_161, by dsimp only; exact ⟨by omega, KI_151, inv_4.2.2.1, C_151, (fun y => absurd y (by decide)), (fun y => absurd y (by decide)), (fun y => absurd y (by decide)), (by rw [inv_4.2.2.2.2.2.2.2.1, sPs_w ⟨by omega, by omega⟩ k_23 k_145, sAnd_t k_156, q_151]), (by rw [q_151]; exact Q_151.1), (by rw [q_151]; exact Q_151.2)⟩⟩ (by dsimp only; omega) _ _ w ls (lv_sub hl [0, 2, 3] rfl)
                          · skip
                            rw [b_151] at c_156
                            have k_156 := bI_f.mp c_156
                            refine lv_iconst (v := 0) hx hb dX4_readParts_159 (by decide) ?_
                            exact q_cret (post := (fun z n1 σ1 => n1 = n ∧ ∃ A1 B1, σ1 = cS t b σ0 A1 B1 P ∧ kpI [3, 4, 5, 6, 7, 8, 9, 10, 11, 12, 13, 14, 15, 16, 17, 18] A A1 ∧ kpR [1, 2, 3] B B1 ∧ z = bI (decide ((sPs T 0 po q false).1 = true)) ∧ (A1 3).toInt = (sPs T 0 po q false).2.1 ∧ ((A 3).toInt ≤ (A1 3).toInt ∧ (A1 3).toInt ≤ (A 2).toInt) ∧ ((sPs T 0 po q false).1 = true → rdC (sPs T 0 po q false).2.2.1 (sPs T 0 po q false).2.2.2 A1 B1))) X w dX4_readParts_160 (rfl) ⟨rfl, _, _, rfl, by have e : (sPs T 0 po q false).1 = false ∧ (sPs T 0 po q false).2.1 = (sWk T ((I_L4 3).toInt + 2) qq gg).2.1 := (by rw [inv_4.2.2.2.2.2.2.2.1, sPs_w ⟨by omega, by omega⟩ k_23 k_145, sAnd_f k_156]; exact ⟨b_f k_156, rfl⟩); exact ⟨KI_151, inv_4.2.2.1, bI_0 (by rw [e.1]; decide), ((congrArg Int32.toInt rfl).trans q_151).trans e.2.symm, (by have h3 : (A_151 3).toInt = (sWk T ((I_L4 3).toInt + 2) qq gg).2.1 := ((congrArg Int32.toInt rfl).trans q_151); rw [h3, h_3]; exact Q_151), fun h => absurd (h.symm.trans e.1) (by decide)⟩⟩
                      · skip
                        rw [b_120] at c_123
                        have k_123 := bI_t.mp c_123
                        have p_120 : (A_120 3).toInt = (((I_L4 3).toInt) + 1) + 1 := q_120.trans (if_pos k_123)
                        have Q_120 : po ≤ (((I_L4 3).toInt) + 1) + 1 ∧ (((I_L4 3).toInt) + 1) + 1 ≤ (A 2).toInt := by have h := Q_120; rw [show (if T (((I_L4 3).toInt) + 1) = 99 then (((I_L4 3).toInt) + 1) + 1 else (((I_L4 3).toInt) + 1)) = (((I_L4 3).toInt) + 1) + 1 from q_120.symm.trans p_120] at h; exact h
                        have hgg := (inv_4.2.2.2.2.2.1 (by omega)).1
                        subst hgg
                        refine lv_iconst (v := 2) hx hb dX4_readParts_126 (by decide) ?_
                        refine lv_istore_n (lv' := [(1, .int 2), (3, .int 0), (2, .int v_pt), (0, .ref (b + 3))]) hx hb dX4_readParts_127 rfl hl (by decide) rfl (fun ls hl => ?_)
                        refine lv_aload_n hx hb dX4_readParts_128 rfl (lv_at hl 3 rfl) ?_
                        refine kk_cCI X w (c_X4_readCycle l D t b n σ0 A_120 R_L4 P T ((I_L4 3).toInt + 2) qq (by exact h_1.trans (txC_cg (KI_120 2 (by decide)) (inv_4.2.2.1 0 (by decide))).symm) (by exact h_2.cg (KI_120 2 (by decide)) (inv_4.2.2.1 0 (by decide))) (by have h3 : (A_120 3).toInt = (((I_L4 3).toInt) + 1) + 1 := ((congrArg Int32.toInt rfl).trans p_120); rw [h3]; omega) (by have h2 : (A_120 2).toInt = (A 2).toInt := (congrArg Int32.toInt (KI_120 2 (by decide))); rw [h2]; have hq := Q_120; omega) (by exact (rdC_cg (rdC_cg (rdC_cg (rdC_cg (rdC_cg inv_4.2.2.2.1 (kpI.wk z_20.1 (by decide))) (kpI.wk z_39.1 (by decide))) (kpI.wk z_66.1 (by decide))) (kpI.wk z_93.1 (by decide))) (kpI.wk z_120.1 (by decide)))) (by exact (inv_4.2.2.2.2.2.1 (by omega)).2 19 (by decide))) v_X4_143 rfl rfl rfl ⟨Nat.le_of_ble_eq_true rfl, Nat.le_of_ble_eq_true rfl⟩ rfl hl.1 (Nat.le_of_ble_eq_true rfl) dX4_readParts_129 ⟨Nat.zero_le _, Nat.zero_le _⟩ (fun r_129 A_129 H locs z_129 w => ?_)
                        have KI_129 : kpI [3, 4, 5, 6, 7, 8, 9, 10, 11, 12, 13, 14, 15, 16, 17, 18] A A_129 := kpI.tr (J := [3, 4, 5, 6, 7, 8, 9, 10, 11, 12, 13, 14, 15, 16, 17, 18]) KI_120 z_129.1 (by decide) (by decide)
                        have q_129 : (A_129 3).toInt = (sCyc T ((I_L4 3).toInt + 2) qq false).2.1 := z_129.2.2.1
                        have b_129 : r_129 = bI (decide ((sCyc T ((I_L4 3).toInt + 2) qq false).1 = true)) := z_129.2.1
                        have Q_129 : po ≤ (sCyc T ((I_L4 3).toInt + 2) qq false).2.1 ∧ (sCyc T ((I_L4 3).toInt + 2) qq false).2.1 ≤ (A 2).toInt := ⟨(by have h : (A_120 3).toInt ≤ (A_129 3).toInt := z_129.2.2.2.1.1; have h3 : (A_120 3).toInt = (((I_L4 3).toInt) + 1) + 1 := ((congrArg Int32.toInt rfl).trans p_120); have h4 := Q_120; rw [← q_129]; omega), (by rw [← q_129]; exact Int.le_trans z_129.2.2.2.1.2 (Int.le_of_eq (congrArg Int32.toInt (KI_120 2 (by decide)))))⟩
                        have S_129 := z_129.2.2.2.2
                        refine lv_istore_n (lv' := [(3, .int r_129), (1, .int 2), (2, .int v_pt), (0, .ref (b + 3))]) hx hb dX4_readParts_132 rfl hl (by decide) rfl (fun ls hl => ?_)
                        refine lv_goto (tgt := 155) hx hb dX4_readParts_133 (by decide) ?_
                        refine lv_iload_n hx hb dX4_readParts_155 rfl (lv_at hl 0 rfl) ?_
                        refine lv_if_ne (tgt := 161) hx hb dX4_readParts_156 (by decide) (fun c_156 => ?_) (fun c_156 => ?_)
                        · skip
                          rw [b_129] at c_156
                          have k_156 := bI_t.mp c_156
                          have C_129 := S_129 k_156
                          obtain ⟨x_161, e_161⟩ : ∃ z : Int32, z = (v_pt + 1) := ⟨_, rfl⟩
                          have p_161 : x_161.toInt = (pt + 1) := by rw [e_161]; exact t_add q_pt (show (1 : Int32).toInt = 1 from rfl) (by omega) (by omega)
                          refine lv_iinc (v := x_161) (lv' := [(2, .int x_161), (3, .int r_129), (1, .int 2), (0, .ref (b + 3))]) hx hb dX4_readParts_161 hl (k := 2) rfl (by rw [e_161]; rfl) (by decide) rfl (fun ls hl => ?_)
                          refine lv_goto (tgt := 4) hx hb dX4_readParts_164 (by decide) ?_
                          refine ih_4 ⟨2, x_161, 2, (pt + 1), (sCyc T ((I_L4 3).toInt + 2) qq false).2.2.1, (sCyc T ((I_L4 3).toInt + 2) qq false).2.2.2, A_129, R_L4⟩ ⟨(show (2 : Int32).toInt = 2 from rfl), p_161, by dsimp only; exact ⟨by omega, KI_129, inv_4.2.2.1, C_129, (fun y => absurd y (by decide)), (fun y => absurd y (by decide)), (fun _ j hj => (sCyc_j j hj).trans (inv_4.2.2.2.2.2.2.1 (by omega) j hj)), (by rw [inv_4.2.2.2.2.2.2.2.1, sPs_c ⟨by omega, by omega⟩ k_23 k_123, sAnd_t k_156, q_129]), (by rw [q_129]; exact Q_129.1), (by rw [q_129]; exact Q_129.2)⟩⟩ (by dsimp only; omega) _ _ w ls (lv_sub hl [0, 2, 3] rfl)
                        · skip
                          rw [b_129] at c_156
                          have k_156 := bI_f.mp c_156
                          refine lv_iconst (v := 0) hx hb dX4_readParts_159 (by decide) ?_
                          exact q_cret (post := (fun z n1 σ1 => n1 = n ∧ ∃ A1 B1, σ1 = cS t b σ0 A1 B1 P ∧ kpI [3, 4, 5, 6, 7, 8, 9, 10, 11, 12, 13, 14, 15, 16, 17, 18] A A1 ∧ kpR [1, 2, 3] B B1 ∧ z = bI (decide ((sPs T 0 po q false).1 = true)) ∧ (A1 3).toInt = (sPs T 0 po q false).2.1 ∧ ((A 3).toInt ≤ (A1 3).toInt ∧ (A1 3).toInt ≤ (A 2).toInt) ∧ ((sPs T 0 po q false).1 = true → rdC (sPs T 0 po q false).2.2.1 (sPs T 0 po q false).2.2.2 A1 B1))) X w dX4_readParts_160 (rfl) ⟨rfl, _, _, rfl, by have e : (sPs T 0 po q false).1 = false ∧ (sPs T 0 po q false).2.1 = (sCyc T ((I_L4 3).toInt + 2) qq false).2.1 := (by rw [inv_4.2.2.2.2.2.2.2.1, sPs_c ⟨by omega, by omega⟩ k_23 k_123, sAnd_f k_156]; exact ⟨b_f k_156, rfl⟩); exact ⟨KI_129, inv_4.2.2.1, bI_0 (by rw [e.1]; decide), ((congrArg Int32.toInt rfl).trans q_129).trans e.2.symm, (by have h3 : (A_129 3).toInt = (sCyc T ((I_L4 3).toInt + 2) qq false).2.1 := ((congrArg Int32.toInt rfl).trans q_129); rw [h3, h_3]; exact Q_129), fun h => absurd (h.symm.trans e.1) (by decide)⟩⟩
                  · skip
                    rw [b_93] at c_96
                    have k_96 := bI_t.mp c_96
                    have p_93 : (A_93 3).toInt = (((I_L4 3).toInt) + 1) + 1 := q_93.trans (if_pos k_96)
                    have Q_93 : po ≤ (((I_L4 3).toInt) + 1) + 1 ∧ (((I_L4 3).toInt) + 1) + 1 ≤ (A 2).toInt := by have h := Q_93; rw [show (if T (((I_L4 3).toInt) + 1) = 108 then (((I_L4 3).toInt) + 1) + 1 else (((I_L4 3).toInt) + 1)) = (((I_L4 3).toInt) + 1) + 1 from q_93.symm.trans p_93] at h; exact h
                    refine lv_iconst (v := 2) hx hb dX4_readParts_99 (by decide) ?_
                    refine lv_istore_n (lv' := [(1, .int 2), (3, .int 0), (2, .int v_pt), (0, .ref (b + 3))]) hx hb dX4_readParts_100 rfl hl (by decide) rfl (fun ls hl => ?_)
                    refine lv_aload_n hx hb dX4_readParts_101 rfl (lv_at hl 3 rfl) ?_
                    refine kk_cCIR X w (c_X4_readDivisors l D t b n σ0 A_93 R_L4 P T ((I_L4 3).toInt + 2) qq gg (by exact h_1.trans (txC_cg (KI_93 2 (by decide)) (inv_4.2.2.1 0 (by decide))).symm) (by exact h_2.cg (KI_93 2 (by decide)) (inv_4.2.2.1 0 (by decide))) (by have h3 : (A_93 3).toInt = (((I_L4 3).toInt) + 1) + 1 := ((congrArg Int32.toInt rfl).trans p_93); rw [h3]; omega) (by have h2 : (A_93 2).toInt = (A 2).toInt := (congrArg Int32.toInt (KI_93 2 (by decide))); rw [h2]; have hq := Q_93; omega) (by exact (rdC_cg (rdC_cg (rdC_cg (rdC_cg inv_4.2.2.2.1 (kpI.wk z_20.1 (by decide))) (kpI.wk z_39.1 (by decide))) (kpI.wk z_66.1 (by decide))) (kpI.wk z_93.1 (by decide)))) (by exact (inv_4.2.2.2.2.2.1 (by omega)).2 19 (by decide)) (by exact fun j hj => ((inv_4.2.2.2.2.2.1 (by omega)).2 (24 + j) (by omega)).trans (by unfold row0; rw [if_neg (by omega), if_neg (by omega)]))) v_X4_140 rfl rfl rfl ⟨Nat.le_of_ble_eq_true rfl, Nat.le_of_ble_eq_true rfl⟩ rfl hl.1 (Nat.le_of_ble_eq_true rfl) dX4_readParts_102 ⟨Nat.zero_le _, Nat.zero_le _⟩ (fun r_102 A_102 B_102 H locs z_102 w => ?_)
                    have KI_102 : kpI [3, 4, 5, 6, 7, 8, 9, 10, 11, 12, 13, 14, 15, 16, 17, 18] A A_102 := kpI.tr (J := [3, 4, 5, 6, 7, 8, 9, 10, 11, 12, 13, 14, 15, 16, 17, 18]) KI_93 z_102.1 (by decide) (by decide)
                    have KR_102 : kpR [1, 2, 3] B B_102 := kpR.tr (J := [1, 2, 3]) inv_4.2.2.1 z_102.2.1 (by decide) (by decide)
                    have q_102 : (A_102 3).toInt = (sDivs T ((I_L4 3).toInt + 2) qq gg).2.1 := z_102.2.2.2.1
                    have b_102 : r_102 = bI (decide ((sDivs T ((I_L4 3).toInt + 2) qq gg).1 = true)) := z_102.2.2.1
                    have Q_102 : po ≤ (sDivs T ((I_L4 3).toInt + 2) qq gg).2.1 ∧ (sDivs T ((I_L4 3).toInt + 2) qq gg).2.1 ≤ (A 2).toInt := ⟨(by have h : (A_93 3).toInt ≤ (A_102 3).toInt := z_102.2.2.2.2.1.1; have h3 : (A_93 3).toInt = (((I_L4 3).toInt) + 1) + 1 := ((congrArg Int32.toInt rfl).trans p_93); have h4 := Q_93; rw [← q_102]; omega), (by rw [← q_102]; exact Int.le_trans z_102.2.2.2.2.1.2 (Int.le_of_eq (congrArg Int32.toInt (KI_93 2 (by decide)))))⟩
                    have S_102 := z_102.2.2.2.2.2
                    refine lv_istore_n (lv' := [(3, .int r_102), (1, .int 2), (2, .int v_pt), (0, .ref (b + 3))]) hx hb dX4_readParts_105 rfl hl (by decide) rfl (fun ls hl => ?_)
                    refine lv_goto (tgt := 155) hx hb dX4_readParts_106 (by decide) ?_
                    refine lv_iload_n hx hb dX4_readParts_155 rfl (lv_at hl 0 rfl) ?_
                    refine lv_if_ne (tgt := 161) hx hb dX4_readParts_156 (by decide) (fun c_156 => ?_) (fun c_156 => ?_)
                    · skip
                      rw [b_102] at c_156
                      have k_156 := bI_t.mp c_156
                      have C_102 := S_102 k_156
                      obtain ⟨x_161, e_161⟩ : ∃ z : Int32, z = (v_pt + 1) := ⟨_, rfl⟩
                      have p_161 : x_161.toInt = (pt + 1) := by rw [e_161]; exact t_add q_pt (show (1 : Int32).toInt = 1 from rfl) (by omega) (by omega)
                      refine lv_iinc (v := x_161) (lv' := [(2, .int x_161), (3, .int r_102), (1, .int 2), (0, .ref (b + 3))]) hx hb dX4_readParts_161 hl (k := 2) rfl (by rw [e_161]; rfl) (by decide) rfl (fun ls hl => ?_)
                      refine lv_goto (tgt := 4) hx hb dX4_readParts_164 (by decide) ?_
                      refine ih_4 ⟨2, x_161, 2, (pt + 1), (sDivs T ((I_L4 3).toInt + 2) qq gg).2.2.1, (sDivs T ((I_L4 3).toInt + 2) qq gg).2.2.2, A_102, B_102⟩ ⟨(show (2 : Int32).toInt = 2 from rfl), p_161, by dsimp only; exact ⟨by omega, KI_102, KR_102, C_102, (fun y => absurd y (by decide)), (fun y => absurd y (by decide)), (fun _ j hj => (sDivs_j j hj).trans (inv_4.2.2.2.2.2.2.1 (by omega) j hj)), (by rw [inv_4.2.2.2.2.2.2.2.1, sPs_l ⟨by omega, by omega⟩ k_23 k_96, sAnd_t k_156, q_102]), (by rw [q_102]; exact Q_102.1), (by rw [q_102]; exact Q_102.2)⟩⟩ (by dsimp only; omega) _ _ w ls (lv_sub hl [0, 2, 3] rfl)
                    · skip
                      rw [b_102] at c_156
                      have k_156 := bI_f.mp c_156
                      refine lv_iconst (v := 0) hx hb dX4_readParts_159 (by decide) ?_
                      exact q_cret (post := (fun z n1 σ1 => n1 = n ∧ ∃ A1 B1, σ1 = cS t b σ0 A1 B1 P ∧ kpI [3, 4, 5, 6, 7, 8, 9, 10, 11, 12, 13, 14, 15, 16, 17, 18] A A1 ∧ kpR [1, 2, 3] B B1 ∧ z = bI (decide ((sPs T 0 po q false).1 = true)) ∧ (A1 3).toInt = (sPs T 0 po q false).2.1 ∧ ((A 3).toInt ≤ (A1 3).toInt ∧ (A1 3).toInt ≤ (A 2).toInt) ∧ ((sPs T 0 po q false).1 = true → rdC (sPs T 0 po q false).2.2.1 (sPs T 0 po q false).2.2.2 A1 B1))) X w dX4_readParts_160 (rfl) ⟨rfl, _, _, rfl, by have e : (sPs T 0 po q false).1 = false ∧ (sPs T 0 po q false).2.1 = (sDivs T ((I_L4 3).toInt + 2) qq gg).2.1 := (by rw [inv_4.2.2.2.2.2.2.2.1, sPs_l ⟨by omega, by omega⟩ k_23 k_96, sAnd_f k_156]; exact ⟨b_f k_156, rfl⟩); exact ⟨KI_102, KR_102, bI_0 (by rw [e.1]; decide), ((congrArg Int32.toInt rfl).trans q_102).trans e.2.symm, (by have h3 : (A_102 3).toInt = (sDivs T ((I_L4 3).toInt + 2) qq gg).2.1 := ((congrArg Int32.toInt rfl).trans q_102); rw [h3, h_3]; exact Q_102), fun h => absurd (h.symm.trans e.1) (by decide)⟩⟩
              · skip
                rw [b_66] at c_69
                have k_69 := bI_t.mp c_69
                have p_66 : (A_66 3).toInt = (((I_L4 3).toInt) + 1) + 1 := q_66.trans (if_pos k_69)
                have Q_66 : po ≤ (((I_L4 3).toInt) + 1) + 1 ∧ (((I_L4 3).toInt) + 1) + 1 ≤ (A 2).toInt := by have h := Q_66; rw [show (if T (((I_L4 3).toInt) + 1) = 105 then (((I_L4 3).toInt) + 1) + 1 else (((I_L4 3).toInt) + 1)) = (((I_L4 3).toInt) + 1) + 1 from q_66.symm.trans p_66] at h; exact h
                refine lv_iconst (v := 1) hx hb dX4_readParts_72 (by decide) ?_
                refine lv_istore_n (lv' := [(1, .int 1), (3, .int 0), (2, .int v_pt), (0, .ref (b + 3))]) hx hb dX4_readParts_73 rfl hl (by decide) rfl (fun ls hl => ?_)
                refine lv_aload_n hx hb dX4_readParts_74 rfl (lv_at hl 3 rfl) ?_
                refine kk_cCI X w (c_X4_readIntercalaryMonth l D t b n σ0 A_66 R_L4 P T ((I_L4 3).toInt + 2) qq gg (by exact h_1.trans (txC_cg (KI_66 2 (by decide)) (inv_4.2.2.1 0 (by decide))).symm) (by exact h_2.cg (KI_66 2 (by decide)) (inv_4.2.2.1 0 (by decide))) (by have h3 : (A_66 3).toInt = (((I_L4 3).toInt) + 1) + 1 := ((congrArg Int32.toInt rfl).trans p_66); rw [h3]; omega) (by have h2 : (A_66 2).toInt = (A 2).toInt := (congrArg Int32.toInt (KI_66 2 (by decide))); rw [h2]; have hq := Q_66; omega) (by exact (rdC_cg (rdC_cg (rdC_cg inv_4.2.2.2.1 (kpI.wk z_20.1 (by decide))) (kpI.wk z_39.1 (by decide))) (kpI.wk z_66.1 (by decide)))) (by exact inv_4.2.2.2.2.1 (by omega) 16 (by decide))) v_X4_137 rfl rfl rfl ⟨Nat.le_of_ble_eq_true rfl, Nat.le_of_ble_eq_true rfl⟩ rfl hl.1 (Nat.le_of_ble_eq_true rfl) dX4_readParts_75 ⟨Nat.zero_le _, Nat.zero_le _⟩ (fun r_75 A_75 H locs z_75 w => ?_)
                have KI_75 : kpI [3, 4, 5, 6, 7, 8, 9, 10, 11, 12, 13, 14, 15, 16, 17, 18] A A_75 := kpI.tr (J := [3, 4, 5, 6, 7, 8, 9, 10, 11, 12, 13, 14, 15, 16, 17, 18]) KI_66 z_75.1 (by decide) (by decide)
                have q_75 : (A_75 3).toInt = (sLi T ((I_L4 3).toInt + 2) qq gg).2.1 := z_75.2.2.1
                have b_75 : r_75 = bI (decide ((sLi T ((I_L4 3).toInt + 2) qq gg).1 = true)) := z_75.2.1
                have Q_75 : po ≤ (sLi T ((I_L4 3).toInt + 2) qq gg).2.1 ∧ (sLi T ((I_L4 3).toInt + 2) qq gg).2.1 ≤ (A 2).toInt := ⟨(by have h : (A_66 3).toInt ≤ (A_75 3).toInt := z_75.2.2.2.1.1; have h3 : (A_66 3).toInt = (((I_L4 3).toInt) + 1) + 1 := ((congrArg Int32.toInt rfl).trans p_66); have h4 := Q_66; rw [← q_75]; omega), (by rw [← q_75]; exact Int.le_trans z_75.2.2.2.1.2 (Int.le_of_eq (congrArg Int32.toInt (KI_66 2 (by decide)))))⟩
                have S_75 := z_75.2.2.2.2
                refine lv_istore_n (lv' := [(3, .int r_75), (1, .int 1), (2, .int v_pt), (0, .ref (b + 3))]) hx hb dX4_readParts_78 rfl hl (by decide) rfl (fun ls hl => ?_)
                refine lv_goto (tgt := 155) hx hb dX4_readParts_79 (by decide) ?_
                refine lv_iload_n hx hb dX4_readParts_155 rfl (lv_at hl 0 rfl) ?_
                refine lv_if_ne (tgt := 161) hx hb dX4_readParts_156 (by decide) (fun c_156 => ?_) (fun c_156 => ?_)
                · skip
                  rw [b_75] at c_156
                  have k_156 := bI_t.mp c_156
                  have C_75 := S_75 k_156
                  obtain ⟨x_161, e_161⟩ : ∃ z : Int32, z = (v_pt + 1) := ⟨_, rfl⟩
                  have p_161 : x_161.toInt = (pt + 1) := by rw [e_161]; exact t_add q_pt (show (1 : Int32).toInt = 1 from rfl) (by omega) (by omega)
                  refine lv_iinc (v := x_161) (lv' := [(2, .int x_161), (3, .int r_75), (1, .int 1), (0, .ref (b + 3))]) hx hb dX4_readParts_161 hl (k := 2) rfl (by rw [e_161]; rfl) (by decide) rfl (fun ls hl => ?_)
                  refine lv_goto (tgt := 4) hx hb dX4_readParts_164 (by decide) ?_
                  refine ih_4 ⟨1, x_161, 1, (pt + 1), (sLi T ((I_L4 3).toInt + 2) qq gg).2.2.1, (sLi T ((I_L4 3).toInt + 2) qq gg).2.2.2, A_75, R_L4⟩ ⟨(show (1 : Int32).toInt = 1 from rfl), p_161, by dsimp only; exact ⟨by omega, KI_75, inv_4.2.2.1, C_75, (fun y => absurd y (by decide)), (fun _ => ⟨(sLi_f k_156).1.trans (inv_4.2.2.2.2.2.1 (by omega)).1, fun j hj => ((sLi_f k_156).2 j hj).trans ((inv_4.2.2.2.2.2.1 (by omega)).2 j hj)⟩), (fun _ j hj => ((sLi_f k_156).2 j (by omega)).trans (inv_4.2.2.2.2.2.2.1 (by omega) j hj)), (by rw [inv_4.2.2.2.2.2.2.2.1, show sg = 0 by omega, sPs_i k_23 k_69, sAnd_t k_156, q_75]), (by rw [q_75]; exact Q_75.1), (by rw [q_75]; exact Q_75.2)⟩⟩ (by dsimp only; omega) _ _ w ls (lv_sub hl [0, 2, 3] rfl)
                · skip
                  rw [b_75] at c_156
                  have k_156 := bI_f.mp c_156
                  refine lv_iconst (v := 0) hx hb dX4_readParts_159 (by decide) ?_
                  exact q_cret (post := (fun z n1 σ1 => n1 = n ∧ ∃ A1 B1, σ1 = cS t b σ0 A1 B1 P ∧ kpI [3, 4, 5, 6, 7, 8, 9, 10, 11, 12, 13, 14, 15, 16, 17, 18] A A1 ∧ kpR [1, 2, 3] B B1 ∧ z = bI (decide ((sPs T 0 po q false).1 = true)) ∧ (A1 3).toInt = (sPs T 0 po q false).2.1 ∧ ((A 3).toInt ≤ (A1 3).toInt ∧ (A1 3).toInt ≤ (A 2).toInt) ∧ ((sPs T 0 po q false).1 = true → rdC (sPs T 0 po q false).2.2.1 (sPs T 0 po q false).2.2.2 A1 B1))) X w dX4_readParts_160 (rfl) ⟨rfl, _, _, rfl, by have e : (sPs T 0 po q false).1 = false ∧ (sPs T 0 po q false).2.1 = (sLi T ((I_L4 3).toInt + 2) qq gg).2.1 := (by rw [inv_4.2.2.2.2.2.2.2.1, show sg = 0 by omega, sPs_i k_23 k_69, sAnd_f k_156]; exact ⟨b_f k_156, rfl⟩); exact ⟨KI_75, inv_4.2.2.1, bI_0 (by rw [e.1]; decide), ((congrArg Int32.toInt rfl).trans q_75).trans e.2.symm, (by have h3 : (A_75 3).toInt = (sLi T ((I_L4 3).toInt + 2) qq gg).2.1 := ((congrArg Int32.toInt rfl).trans q_75); rw [h3, h_3]; exact Q_75), fun h => absurd (h.symm.trans e.1) (by decide)⟩⟩
          · skip
            rw [b_39] at c_42
            have k_42 := bI_t.mp c_42
            have p_39 : (A_39 3).toInt = (((I_L4 3).toInt) + 1) + 1 := q_39.trans (if_pos k_42)
            have Q_39 : po ≤ (((I_L4 3).toInt) + 1) + 1 ∧ (((I_L4 3).toInt) + 1) + 1 ≤ (A 2).toInt := by have h := Q_39; rw [show (if T (((I_L4 3).toInt) + 1) = 100 then (((I_L4 3).toInt) + 1) + 1 else (((I_L4 3).toInt) + 1)) = (((I_L4 3).toInt) + 1) + 1 from q_39.symm.trans p_39] at h; exact h
            refine lv_iconst (v := 1) hx hb dX4_readParts_45 (by decide) ?_
            refine lv_istore_n (lv' := [(1, .int 1), (3, .int 0), (2, .int v_pt), (0, .ref (b + 3))]) hx hb dX4_readParts_46 rfl hl (by decide) rfl (fun ls hl => ?_)
            refine lv_aload_n hx hb dX4_readParts_47 rfl (lv_at hl 3 rfl) ?_
            refine kk_cCI X w (c_X4_readLeapDay l D t b n σ0 A_39 R_L4 P T ((I_L4 3).toInt + 2) qq gg (by exact h_1.trans (txC_cg (KI_39 2 (by decide)) (inv_4.2.2.1 0 (by decide))).symm) (by exact h_2.cg (KI_39 2 (by decide)) (inv_4.2.2.1 0 (by decide))) (by have h3 : (A_39 3).toInt = (((I_L4 3).toInt) + 1) + 1 := ((congrArg Int32.toInt rfl).trans p_39); rw [h3]; omega) (by have h2 : (A_39 2).toInt = (A 2).toInt := (congrArg Int32.toInt (KI_39 2 (by decide))); rw [h2]; have hq := Q_39; omega) (by exact (rdC_cg (rdC_cg inv_4.2.2.2.1 (kpI.wk z_20.1 (by decide))) (kpI.wk z_39.1 (by decide)))) (by exact inv_4.2.2.2.2.1 (by omega) 16 (by decide))) v_X4_134 rfl rfl rfl ⟨Nat.le_of_ble_eq_true rfl, Nat.le_of_ble_eq_true rfl⟩ rfl hl.1 (Nat.le_of_ble_eq_true rfl) dX4_readParts_48 ⟨Nat.zero_le _, Nat.zero_le _⟩ (fun r_48 A_48 H locs z_48 w => ?_)
            have KI_48 : kpI [3, 4, 5, 6, 7, 8, 9, 10, 11, 12, 13, 14, 15, 16, 17, 18] A A_48 := kpI.tr (J := [3, 4, 5, 6, 7, 8, 9, 10, 11, 12, 13, 14, 15, 16, 17, 18]) KI_39 z_48.1 (by decide) (by decide)
            have q_48 : (A_48 3).toInt = (sLd T ((I_L4 3).toInt + 2) qq gg).2.1 := z_48.2.2.1
            have b_48 : r_48 = bI (decide ((sLd T ((I_L4 3).toInt + 2) qq gg).1 = true)) := z_48.2.1
            have Q_48 : po ≤ (sLd T ((I_L4 3).toInt + 2) qq gg).2.1 ∧ (sLd T ((I_L4 3).toInt + 2) qq gg).2.1 ≤ (A 2).toInt := ⟨(by have h : (A_39 3).toInt ≤ (A_48 3).toInt := z_48.2.2.2.1.1; have h3 : (A_39 3).toInt = (((I_L4 3).toInt) + 1) + 1 := ((congrArg Int32.toInt rfl).trans p_39); have h4 := Q_39; rw [← q_48]; omega), (by rw [← q_48]; exact Int.le_trans z_48.2.2.2.1.2 (Int.le_of_eq (congrArg Int32.toInt (KI_39 2 (by decide)))))⟩
            have S_48 := z_48.2.2.2.2
            refine lv_istore_n (lv' := [(3, .int r_48), (1, .int 1), (2, .int v_pt), (0, .ref (b + 3))]) hx hb dX4_readParts_51 rfl hl (by decide) rfl (fun ls hl => ?_)
            refine lv_goto (tgt := 155) hx hb dX4_readParts_52 (by decide) ?_
            refine lv_iload_n hx hb dX4_readParts_155 rfl (lv_at hl 0 rfl) ?_
            refine lv_if_ne (tgt := 161) hx hb dX4_readParts_156 (by decide) (fun c_156 => ?_) (fun c_156 => ?_)
            · skip
              rw [b_48] at c_156
              have k_156 := bI_t.mp c_156
              have C_48 := S_48 k_156
              obtain ⟨x_161, e_161⟩ : ∃ z : Int32, z = (v_pt + 1) := ⟨_, rfl⟩
              have p_161 : x_161.toInt = (pt + 1) := by rw [e_161]; exact t_add q_pt (show (1 : Int32).toInt = 1 from rfl) (by omega) (by omega)
              refine lv_iinc (v := x_161) (lv' := [(2, .int x_161), (3, .int r_48), (1, .int 1), (0, .ref (b + 3))]) hx hb dX4_readParts_161 hl (k := 2) rfl (by rw [e_161]; rfl) (by decide) rfl (fun ls hl => ?_)
              refine lv_goto (tgt := 4) hx hb dX4_readParts_164 (by decide) ?_
              refine ih_4 ⟨1, x_161, 1, (pt + 1), (sLd T ((I_L4 3).toInt + 2) qq gg).2.2.1, (sLd T ((I_L4 3).toInt + 2) qq gg).2.2.2, A_48, R_L4⟩ ⟨(show (1 : Int32).toInt = 1 from rfl), p_161, by dsimp only; exact ⟨by omega, KI_48, inv_4.2.2.1, C_48, (fun y => absurd y (by decide)), (fun _ => ⟨(sLd_f k_156).1.trans (inv_4.2.2.2.2.2.1 (by omega)).1, fun j hj => ((sLd_f k_156).2 j hj).trans ((inv_4.2.2.2.2.2.1 (by omega)).2 j hj)⟩), (fun _ j hj => ((sLd_f k_156).2 j (by omega)).trans (inv_4.2.2.2.2.2.2.1 (by omega) j hj)), (by rw [inv_4.2.2.2.2.2.2.2.1, show sg = 0 by omega, sPs_d k_23 k_42, sAnd_t k_156, q_48]), (by rw [q_48]; exact Q_48.1), (by rw [q_48]; exact Q_48.2)⟩⟩ (by dsimp only; omega) _ _ w ls (lv_sub hl [0, 2, 3] rfl)
            · skip
              rw [b_48] at c_156
              have k_156 := bI_f.mp c_156
              refine lv_iconst (v := 0) hx hb dX4_readParts_159 (by decide) ?_
              exact q_cret (post := (fun z n1 σ1 => n1 = n ∧ ∃ A1 B1, σ1 = cS t b σ0 A1 B1 P ∧ kpI [3, 4, 5, 6, 7, 8, 9, 10, 11, 12, 13, 14, 15, 16, 17, 18] A A1 ∧ kpR [1, 2, 3] B B1 ∧ z = bI (decide ((sPs T 0 po q false).1 = true)) ∧ (A1 3).toInt = (sPs T 0 po q false).2.1 ∧ ((A 3).toInt ≤ (A1 3).toInt ∧ (A1 3).toInt ≤ (A 2).toInt) ∧ ((sPs T 0 po q false).1 = true → rdC (sPs T 0 po q false).2.2.1 (sPs T 0 po q false).2.2.2 A1 B1))) X w dX4_readParts_160 (rfl) ⟨rfl, _, _, rfl, by have e : (sPs T 0 po q false).1 = false ∧ (sPs T 0 po q false).2.1 = (sLd T ((I_L4 3).toInt + 2) qq gg).2.1 := (by rw [inv_4.2.2.2.2.2.2.2.1, show sg = 0 by omega, sPs_d k_23 k_42, sAnd_f k_156]; exact ⟨b_f k_156, rfl⟩); exact ⟨KI_48, inv_4.2.2.1, bI_0 (by rw [e.1]; decide), ((congrArg Int32.toInt rfl).trans q_48).trans e.2.symm, (by have h3 : (A_48 3).toInt = (sLd T ((I_L4 3).toInt + 2) qq gg).2.1 := ((congrArg Int32.toInt rfl).trans q_48); rw [h3, h_3]; exact Q_48), fun h => absurd (h.symm.trans e.1) (by decide)⟩⟩

set_option maxHeartbeats 2000000 in
set_option maxRecDepth 100000 in
theorem c_X4_read (l : Launch) (D : va_G) (t : Nat → ClassId) (b n : Nat) (σ0 : qM) (A : Nat → Int32) (B : Nat → Nat → Int32) (P : Nat → Nat → Option Nat) (T : Int → Int) (h_1 : T = txC A B) (h_2 : okTx A B) : kC l yX4_read cX4_read 1 (some .boolean) 6 D t b n σ0 A B P [.ref (b + 3)] (fun z A1 B1 => kpI [3, 4, 5, 6, 7, 8, 9, 10, 11, 12, 13, 14, 15, 16, 17, 18] A A1 ∧ kpR [1, 2, 3] B B1 ∧ z = bI (decide ((sCal T (A 2).toInt).1 = true)) ∧ (A1 3).toInt = (sCal T (A 2).toInt).2.1 ∧ ((sCal T (A 2).toInt).1 = true → rdC (sCal T (A 2).toInt).2.2.1 (sCal T (A 2).toInt).2.2.2 A1 B1)) := by
  refine qC.of (by decide +kernel) (Nat.le_of_ble_eq_true rfl) (fun p e s m args below meth c X w ls hl => ?_)
  have hx := X.1
  have hb := X.2.1
  have hl : lv_has ls 1 [(0, .ref (b + 3))] := hl
  have h_40 : (0 : Int) ≤ 0 ∧ 0 ≤ (A 2).toInt := ⟨Int.le_refl 0, h_2.1.1⟩
  have hc := cRd_cal (T := T) (len := (A 2).toInt) (by rw [h_1]; exact txC_no (fun y => by omega))
  obtain ⟨po, hpo⟩ : ∃ z : Int, z = 0 := ⟨0, rfl⟩
  have h_4 : 0 ≤ po ∧ po ≤ (A 2).toInt := by rw [hpo]; exact h_40
  have h_41 : po ≤ 0 ∧ 0 ≤ (A 2).toInt := by rw [hpo]; exact h_40
  refine lv_aload_n hx hb dX4_read_0 rfl (lv_at hl 0 rfl) ?_
  refine kk_cVI X w (c_X4_reset l D t b n σ0 A B P ) v_X4_26 rfl rfl rfl ⟨Nat.le_of_ble_eq_true rfl, Nat.le_of_ble_eq_true rfl⟩ rfl hl.1 (Nat.le_of_ble_eq_true rfl) dX4_read_1 ⟨Nat.zero_le _, Nat.zero_le _⟩ (fun A_1 H locs z_1 w => ?_)
  have KI_1 : kpI [3, 4, 5, 6, 7, 8, 9, 10, 11, 12, 13, 14, 15, 16, 17, 18] A A_1 := kpI.tr (J := [3, 4, 5, 6, 7, 8, 9, 10, 11, 12, 13, 14, 15, 16, 17, 18]) (kpI.rf (J := [3, 4, 5, 6, 7, 8, 9, 10, 11, 12, 13, 14, 15, 16, 17, 18]) (I := A)) z_1.1 (by decide) (by decide)
  refine lv_aload_n hx hb dX4_read_4 rfl (lv_at hl 0 rfl) ?_
  refine kk_cCIR X w (c_X4_readMonths l D t b n σ0 A_1 B P T 0 (by exact h_1.trans (txC_cg (KI_1 2 (by decide)) ((kpR.rf (J := [1, 2, 3]) (R := B)) 0 (by decide))).symm) (by exact h_2.cg (KI_1 2 (by decide)) ((kpR.rf (J := [1, 2, 3]) (R := B)) 0 (by decide))) (by exact ((congrArg Int32.toInt rfl).trans z_1.2.1)) (by have h2 : (A_1 2).toInt = (A 2).toInt := (congrArg Int32.toInt (KI_1 2 (by decide))); rw [h2]; exact ⟨Int.le_trans h_4.1 h_41.1, h_41.2⟩) (by exact z_1.2.2)) v_X4_29 rfl rfl rfl ⟨Nat.le_of_ble_eq_true rfl, Nat.le_of_ble_eq_true rfl⟩ rfl hl.1 (Nat.le_of_ble_eq_true rfl) dX4_read_5 ⟨Nat.zero_le _, Nat.zero_le _⟩ (fun r_5 A_5 B_5 H locs z_5 w => ?_)
  have KI_5 : kpI [3, 4, 5, 6, 7, 8, 9, 10, 11, 12, 13, 14, 15, 16, 17, 18] A A_5 := kpI.tr (J := [3, 4, 5, 6, 7, 8, 9, 10, 11, 12, 13, 14, 15, 16, 17, 18]) KI_1 z_5.1 (by decide) (by decide)
  have KR_5 : kpR [1, 2, 3] B B_5 := kpR.tr (J := [1, 2, 3]) (kpR.rf (J := [1, 2, 3]) (R := B)) z_5.2.1 (by decide) (by decide)
  have q_5 : (A_5 3).toInt = (sMonths T 0 row0 false).2.1 := z_5.2.2.2.1
  have b_5 : r_5 = bI (decide ((sMonths T 0 row0 false).1 = true)) := z_5.2.2.1
  have Q_5 : po ≤ (sMonths T 0 row0 false).2.1 ∧ (sMonths T 0 row0 false).2.1 ≤ (A 2).toInt := ⟨(by have h : (A_1 3).toInt ≤ (A_5 3).toInt := z_5.2.2.2.2.1.1; have h3 : (A_1 3).toInt = 0 := ((congrArg Int32.toInt rfl).trans z_1.2.1); have h4 := h_41; rw [← q_5]; omega), (by rw [← q_5]; exact Int.le_trans z_5.2.2.2.2.1.2 (Int.le_of_eq (congrArg Int32.toInt (KI_1 2 (by decide)))))⟩
  have S_5 := z_5.2.2.2.2.2
  refine lv_if_eq (tgt := 39) hx hb dX4_read_8 (by decide) (fun c_8 => ?_) (fun c_8 => ?_)
  · skip
    rw [b_5] at c_8
    have k_8 := bI_f.mp c_8
    refine lv_iconst (v := 0) hx hb dX4_read_39 (by decide) ?_
    exact q_cret (post := (fun z n1 σ1 => n1 = n ∧ ∃ A1 B1, σ1 = cS t b σ0 A1 B1 P ∧ kpI [3, 4, 5, 6, 7, 8, 9, 10, 11, 12, 13, 14, 15, 16, 17, 18] A A1 ∧ kpR [1, 2, 3] B B1 ∧ z = bI (decide ((sCal T (A 2).toInt).1 = true)) ∧ (A1 3).toInt = (sCal T (A 2).toInt).2.1 ∧ ((sCal T (A 2).toInt).1 = true → rdC (sCal T (A 2).toInt).2.2.1 (sCal T (A 2).toInt).2.2.2 A1 B1))) X w dX4_read_40 (rfl) ⟨rfl, _, _, rfl, by have e : (cRd T (A 2).toInt).1 = false ∧ (cRd T (A 2).toInt).2.1 = (sMonths T 0 row0 false).2.1 := (by unfold cRd; rw [sAnd_f k_8]; exact ⟨b_f k_8, rfl⟩); exact ⟨KI_5, KR_5, bI_0 (by rw [← hc.1, e.1]; decide), (((congrArg Int32.toInt rfl).trans q_5).trans e.2.symm).trans hc.2.1, fun h => absurd ((hc.1.trans h).symm.trans e.1) (by decide)⟩⟩
  · skip
    rw [b_5] at c_8
    have k_8 := bI_t.mp c_8
    have C_5 := S_5 k_8
    refine lv_aload_n hx hb dX4_read_11 rfl (lv_at hl 0 rfl) ?_
    refine kk_cCI X w (c_X4_readFirstDay l D t b n σ0 A_5 B_5 P T ((sMonths T 0 row0 false).2.1) ((sMonths T 0 row0 false).2.2.1) ((sMonths T 0 row0 false).2.2.2) (by exact h_1.trans (txC_cg (KI_5 2 (by decide)) (KR_5 0 (by decide))).symm) (by exact h_2.cg (KI_5 2 (by decide)) (KR_5 0 (by decide))) (by exact ((congrArg Int32.toInt rfl).trans q_5)) (by have h2 : (A_5 2).toInt = (A 2).toInt := (congrArg Int32.toInt (KI_5 2 (by decide))); rw [h2]; exact ⟨Int.le_trans h_4.1 Q_5.1, Q_5.2⟩) (by exact C_5) (by exact (sMonths_f k_8).2 15 (by decide))) v_X4_33 rfl rfl rfl ⟨Nat.le_of_ble_eq_true rfl, Nat.le_of_ble_eq_true rfl⟩ rfl hl.1 (Nat.le_of_ble_eq_true rfl) dX4_read_12 ⟨Nat.zero_le _, Nat.zero_le _⟩ (fun r_12 A_12 H locs z_12 w => ?_)
    have KI_12 : kpI [3, 4, 5, 6, 7, 8, 9, 10, 11, 12, 13, 14, 15, 16, 17, 18] A A_12 := kpI.tr (J := [3, 4, 5, 6, 7, 8, 9, 10, 11, 12, 13, 14, 15, 16, 17, 18]) KI_5 z_12.1 (by decide) (by decide)
    have q_12 : (A_12 3).toInt = (sFirst T ((sMonths T 0 row0 false).2.1) ((sMonths T 0 row0 false).2.2.1) ((sMonths T 0 row0 false).2.2.2)).2.1 := z_12.2.2.1
    have b_12 : r_12 = bI (decide ((sFirst T ((sMonths T 0 row0 false).2.1) ((sMonths T 0 row0 false).2.2.1) ((sMonths T 0 row0 false).2.2.2)).1 = true)) := z_12.2.1
    have Q_12 : po ≤ (sFirst T ((sMonths T 0 row0 false).2.1) ((sMonths T 0 row0 false).2.2.1) ((sMonths T 0 row0 false).2.2.2)).2.1 ∧ (sFirst T ((sMonths T 0 row0 false).2.1) ((sMonths T 0 row0 false).2.2.1) ((sMonths T 0 row0 false).2.2.2)).2.1 ≤ (A 2).toInt := ⟨(by have h : (A_5 3).toInt ≤ (A_12 3).toInt := z_12.2.2.2.1.1; have h3 : (A_5 3).toInt = (sMonths T 0 row0 false).2.1 := ((congrArg Int32.toInt rfl).trans q_5); have h4 := Q_5; rw [← q_12]; omega), (by rw [← q_12]; exact Int.le_trans z_12.2.2.2.1.2 (Int.le_of_eq (congrArg Int32.toInt (KI_5 2 (by decide)))))⟩
    have S_12 := z_12.2.2.2.2
    refine lv_if_eq (tgt := 39) hx hb dX4_read_15 (by decide) (fun c_15 => ?_) (fun c_15 => ?_)
    · skip
      rw [b_12] at c_15
      have k_15 := bI_f.mp c_15
      refine lv_iconst (v := 0) hx hb dX4_read_39 (by decide) ?_
      exact q_cret (post := (fun z n1 σ1 => n1 = n ∧ ∃ A1 B1, σ1 = cS t b σ0 A1 B1 P ∧ kpI [3, 4, 5, 6, 7, 8, 9, 10, 11, 12, 13, 14, 15, 16, 17, 18] A A1 ∧ kpR [1, 2, 3] B B1 ∧ z = bI (decide ((sCal T (A 2).toInt).1 = true)) ∧ (A1 3).toInt = (sCal T (A 2).toInt).2.1 ∧ ((sCal T (A 2).toInt).1 = true → rdC (sCal T (A 2).toInt).2.2.1 (sCal T (A 2).toInt).2.2.2 A1 B1))) X w dX4_read_40 (rfl) ⟨rfl, _, _, rfl, by have e : (cRd T (A 2).toInt).1 = false ∧ (cRd T (A 2).toInt).2.1 = (sFirst T ((sMonths T 0 row0 false).2.1) ((sMonths T 0 row0 false).2.2.1) ((sMonths T 0 row0 false).2.2.2)).2.1 := (by unfold cRd; rw [sAnd_t k_8, sAnd_f k_15]; exact ⟨b_f k_15, rfl⟩); exact ⟨KI_12, KR_5, bI_0 (by rw [← hc.1, e.1]; decide), (((congrArg Int32.toInt rfl).trans q_12).trans e.2.symm).trans hc.2.1, fun h => absurd ((hc.1.trans h).symm.trans e.1) (by decide)⟩⟩
    · skip
      rw [b_12] at c_15
      have k_15 := bI_t.mp c_15
      have C_12 := S_12 k_15
      have hg12 : (sFirst T (sMonths T 0 row0 false).2.1 (sMonths T 0 row0 false).2.2.1 (sMonths T 0 row0 false).2.2.2).2.2.2 = false := (sFirst_g _ _ _ _).trans (sMonths_g _ _ _ _)
      refine lv_aload_n hx hb dX4_read_18 rfl (lv_at hl 0 rfl) ?_
      refine kk_cCIR X w (c_X4_readParts l D t b n σ0 A_12 B_5 P T ((sFirst T (sMonths T 0 row0 false).2.1 (sMonths T 0 row0 false).2.2.1 (sMonths T 0 row0 false).2.2.2).2.1) ((sFirst T (sMonths T 0 row0 false).2.1 (sMonths T 0 row0 false).2.2.1 (sMonths T 0 row0 false).2.2.2).2.2.1) (by exact h_1.trans (txC_cg (KI_12 2 (by decide)) (KR_5 0 (by decide))).symm) (by exact h_2.cg (KI_12 2 (by decide)) (KR_5 0 (by decide))) (by exact ((congrArg Int32.toInt rfl).trans q_12)) (by have h2 : (A_12 2).toInt = (A 2).toInt := (congrArg Int32.toInt (KI_12 2 (by decide))); rw [h2]; exact ⟨Int.le_trans h_4.1 Q_12.1, Q_12.2⟩) (by have h := C_12; rw [hg12] at h; exact h) (by exact fun j hj => (sFirst_f k_15 j (by omega)).trans ((sMonths_f k_8).2 j (by omega)))) v_X4_36 rfl rfl rfl ⟨Nat.le_of_ble_eq_true rfl, Nat.le_of_ble_eq_true rfl⟩ rfl hl.1 (Nat.le_of_ble_eq_true rfl) dX4_read_19 ⟨Nat.zero_le _, Nat.zero_le _⟩ (fun r_19 A_19 B_19 H locs z_19 w => ?_)
      have KI_19 : kpI [3, 4, 5, 6, 7, 8, 9, 10, 11, 12, 13, 14, 15, 16, 17, 18] A A_19 := kpI.tr (J := [3, 4, 5, 6, 7, 8, 9, 10, 11, 12, 13, 14, 15, 16, 17, 18]) KI_12 z_19.1 (by decide) (by decide)
      have KR_19 : kpR [1, 2, 3] B B_19 := kpR.tr (J := [1, 2, 3]) KR_5 z_19.2.1 (by decide) (by decide)
      have q_19 : (A_19 3).toInt = (sPs T 0 ((sFirst T (sMonths T 0 row0 false).2.1 (sMonths T 0 row0 false).2.2.1 (sMonths T 0 row0 false).2.2.2).2.1) ((sFirst T (sMonths T 0 row0 false).2.1 (sMonths T 0 row0 false).2.2.1 (sMonths T 0 row0 false).2.2.2).2.2.1) false).2.1 := z_19.2.2.2.1
      have b_19 : r_19 = bI (decide ((sPs T 0 ((sFirst T (sMonths T 0 row0 false).2.1 (sMonths T 0 row0 false).2.2.1 (sMonths T 0 row0 false).2.2.2).2.1) ((sFirst T (sMonths T 0 row0 false).2.1 (sMonths T 0 row0 false).2.2.1 (sMonths T 0 row0 false).2.2.2).2.2.1) false).1 = true)) := z_19.2.2.1
      have Q_19 : po ≤ (sPs T 0 ((sFirst T (sMonths T 0 row0 false).2.1 (sMonths T 0 row0 false).2.2.1 (sMonths T 0 row0 false).2.2.2).2.1) ((sFirst T (sMonths T 0 row0 false).2.1 (sMonths T 0 row0 false).2.2.1 (sMonths T 0 row0 false).2.2.2).2.2.1) false).2.1 ∧ (sPs T 0 ((sFirst T (sMonths T 0 row0 false).2.1 (sMonths T 0 row0 false).2.2.1 (sMonths T 0 row0 false).2.2.2).2.1) ((sFirst T (sMonths T 0 row0 false).2.1 (sMonths T 0 row0 false).2.2.1 (sMonths T 0 row0 false).2.2.2).2.2.1) false).2.1 ≤ (A 2).toInt := ⟨(by have h : (A_12 3).toInt ≤ (A_19 3).toInt := z_19.2.2.2.2.1.1; have h3 : (A_12 3).toInt = (sFirst T ((sMonths T 0 row0 false).2.1) ((sMonths T 0 row0 false).2.2.1) ((sMonths T 0 row0 false).2.2.2)).2.1 := ((congrArg Int32.toInt rfl).trans q_12); have h4 := Q_12; rw [← q_19]; omega), (by rw [← q_19]; exact Int.le_trans z_19.2.2.2.2.1.2 (Int.le_of_eq (congrArg Int32.toInt (KI_12 2 (by decide)))))⟩
      have S_19 := z_19.2.2.2.2.2
      refine lv_if_eq (tgt := 39) hx hb dX4_read_22 (by decide) (fun c_22 => ?_) (fun c_22 => ?_)
      · skip
        rw [b_19] at c_22
        have k_22 := bI_f.mp c_22
        refine lv_iconst (v := 0) hx hb dX4_read_39 (by decide) ?_
        exact q_cret (post := (fun z n1 σ1 => n1 = n ∧ ∃ A1 B1, σ1 = cS t b σ0 A1 B1 P ∧ kpI [3, 4, 5, 6, 7, 8, 9, 10, 11, 12, 13, 14, 15, 16, 17, 18] A A1 ∧ kpR [1, 2, 3] B B1 ∧ z = bI (decide ((sCal T (A 2).toInt).1 = true)) ∧ (A1 3).toInt = (sCal T (A 2).toInt).2.1 ∧ ((sCal T (A 2).toInt).1 = true → rdC (sCal T (A 2).toInt).2.2.1 (sCal T (A 2).toInt).2.2.2 A1 B1))) X w dX4_read_40 (rfl) ⟨rfl, _, _, rfl, by have e : (cRd T (A 2).toInt).1 = false ∧ (cRd T (A 2).toInt).2.1 = (sPs T 0 ((sFirst T (sMonths T 0 row0 false).2.1 (sMonths T 0 row0 false).2.2.1 (sMonths T 0 row0 false).2.2.2).2.1) ((sFirst T (sMonths T 0 row0 false).2.1 (sMonths T 0 row0 false).2.2.1 (sMonths T 0 row0 false).2.2.2).2.2.1) false).2.1 := (by unfold cRd; rw [sAnd_t k_8, sAnd_t k_15, hg12, sAnd_f (s := sP0 T _ _ _) k_22]; exact ⟨b_f k_22, rfl⟩); exact ⟨KI_19, KR_19, bI_0 (by rw [← hc.1, e.1]; decide), (((congrArg Int32.toInt rfl).trans q_19).trans e.2.symm).trans hc.2.1, fun h => absurd ((hc.1.trans h).symm.trans e.1) (by decide)⟩⟩
      · skip
        rw [b_19] at c_22
        have k_22 := bI_t.mp c_22
        have C_19 := S_19 k_22
        refine lv_aload_n hx hb dX4_read_25 rfl (lv_at hl 0 rfl) ?_
        refine kg_X4_text X w dX4_read_26 ?_
        refine q_cPV X w (c_X7_isAtEnd l D t b n σ0 A_19 B_19 P ) v_X4_39 (k := 1) rfl rfl rfl ⟨Nat.le_of_ble_eq_true rfl, Nat.le_of_ble_eq_true rfl⟩ rfl hl.1 (Nat.le_of_ble_eq_true rfl) dX4_read_29 ⟨Nat.zero_le _, Nat.zero_le _⟩ (fun r_29 z_29 => ?_)
        refine lv_if_eq (tgt := 39) hx hb dX4_read_32 (by decide) (fun c_32 => ?_) (fun c_32 => ?_)
        · skip
          rw [z_29] at c_32
          have k_32 := bI_f.mp c_32
          have hl2 : (A_19 2).toInt = (A 2).toInt := congrArg Int32.toInt (KI_19 2 (by decide))
          have hl3 : (A_19 3).toInt = (sPs T 0 ((sFirst T (sMonths T 0 row0 false).2.1 (sMonths T 0 row0 false).2.2.1 (sMonths T 0 row0 false).2.2.2).2.1) ((sFirst T (sMonths T 0 row0 false).2.1 (sMonths T 0 row0 false).2.2.1 (sMonths T 0 row0 false).2.2.2).2.2.1) false).2.1 := q_19
          refine lv_iconst (v := 0) hx hb dX4_read_39 (by decide) ?_
          exact q_cret (post := (fun z n1 σ1 => n1 = n ∧ ∃ A1 B1, σ1 = cS t b σ0 A1 B1 P ∧ kpI [3, 4, 5, 6, 7, 8, 9, 10, 11, 12, 13, 14, 15, 16, 17, 18] A A1 ∧ kpR [1, 2, 3] B B1 ∧ z = bI (decide ((sCal T (A 2).toInt).1 = true)) ∧ (A1 3).toInt = (sCal T (A 2).toInt).2.1 ∧ ((sCal T (A 2).toInt).1 = true → rdC (sCal T (A 2).toInt).2.2.1 (sCal T (A 2).toInt).2.2.2 A1 B1))) X w dX4_read_40 (rfl) ⟨rfl, _, _, rfl, by have e : (cRd T (A 2).toInt).1 = false ∧ (cRd T (A 2).toInt).2.1 = (sPs T 0 ((sFirst T (sMonths T 0 row0 false).2.1 (sMonths T 0 row0 false).2.2.1 (sMonths T 0 row0 false).2.2.2).2.1) ((sFirst T (sMonths T 0 row0 false).2.1 (sMonths T 0 row0 false).2.2.1 (sMonths T 0 row0 false).2.2.2).2.2.1) false).2.1 := (by unfold cRd; rw [sAnd_t k_8, sAnd_t k_15, hg12, sAnd_t (s := sP0 T _ _ _) k_22]; unfold sAt; rw [if_neg (fun y => k_32 (by rw [hl2, hl3]; exact Int.le_of_eq y.symm))]; exact ⟨rfl, rfl⟩); exact ⟨KI_19, KR_19, bI_0 (by rw [← hc.1, e.1]; decide), (((congrArg Int32.toInt rfl).trans q_19).trans e.2.symm).trans hc.2.1, fun h => absurd ((hc.1.trans h).symm.trans e.1) (by decide)⟩⟩
        · skip
          rw [z_29] at c_32
          have k_32 := bI_t.mp c_32
          have hl2 : (A_19 2).toInt = (A 2).toInt := congrArg Int32.toInt (KI_19 2 (by decide))
          have hl3 : (A_19 3).toInt = (sPs T 0 ((sFirst T (sMonths T 0 row0 false).2.1 (sMonths T 0 row0 false).2.2.1 (sMonths T 0 row0 false).2.2.2).2.1) ((sFirst T (sMonths T 0 row0 false).2.1 (sMonths T 0 row0 false).2.2.1 (sMonths T 0 row0 false).2.2.2).2.2.1) false).2.1 := q_19
          refine lv_iconst (v := 1) hx hb dX4_read_35 (by decide) ?_
          refine lv_goto (tgt := 40) hx hb dX4_read_36 (by decide) ?_
          exact q_cret (post := (fun z n1 σ1 => n1 = n ∧ ∃ A1 B1, σ1 = cS t b σ0 A1 B1 P ∧ kpI [3, 4, 5, 6, 7, 8, 9, 10, 11, 12, 13, 14, 15, 16, 17, 18] A A1 ∧ kpR [1, 2, 3] B B1 ∧ z = bI (decide ((sCal T (A 2).toInt).1 = true)) ∧ (A1 3).toInt = (sCal T (A 2).toInt).2.1 ∧ ((sCal T (A 2).toInt).1 = true → rdC (sCal T (A 2).toInt).2.2.1 (sCal T (A 2).toInt).2.2.2 A1 B1))) X w dX4_read_40 (rfl) ⟨rfl, _, _, rfl, by have hp : (sPs T 0 ((sFirst T (sMonths T 0 row0 false).2.1 (sMonths T 0 row0 false).2.2.1 (sMonths T 0 row0 false).2.2.2).2.1) ((sFirst T (sMonths T 0 row0 false).2.1 (sMonths T 0 row0 false).2.2.1 (sMonths T 0 row0 false).2.2.2).2.2.1) false).2.1 = (A 2).toInt := (by have h1 := Q_19.2; have h2 : (A 2).toInt ≤ (sPs T 0 ((sFirst T (sMonths T 0 row0 false).2.1 (sMonths T 0 row0 false).2.2.1 (sMonths T 0 row0 false).2.2.2).2.1) ((sFirst T (sMonths T 0 row0 false).2.1 (sMonths T 0 row0 false).2.2.1 (sMonths T 0 row0 false).2.2.2).2.2.1) false).2.1 := (by rw [← hl2, ← hl3]; exact k_32); omega); have e : cRd T (A 2).toInt = (true, (sPs T 0 ((sFirst T (sMonths T 0 row0 false).2.1 (sMonths T 0 row0 false).2.2.1 (sMonths T 0 row0 false).2.2.2).2.1) ((sFirst T (sMonths T 0 row0 false).2.1 (sMonths T 0 row0 false).2.2.1 (sMonths T 0 row0 false).2.2.2).2.2.1) false).2.1, (sPs T 0 ((sFirst T (sMonths T 0 row0 false).2.1 (sMonths T 0 row0 false).2.2.1 (sMonths T 0 row0 false).2.2.2).2.1) ((sFirst T (sMonths T 0 row0 false).2.1 (sMonths T 0 row0 false).2.2.1 (sMonths T 0 row0 false).2.2.2).2.2.1) false).2.2.1, (sPs T 0 ((sFirst T (sMonths T 0 row0 false).2.1 (sMonths T 0 row0 false).2.2.1 (sMonths T 0 row0 false).2.2.2).2.1) ((sFirst T (sMonths T 0 row0 false).2.1 (sMonths T 0 row0 false).2.2.1 (sMonths T 0 row0 false).2.2.2).2.2.1) false).2.2.2) := (by unfold cRd; rw [sAnd_t k_8, sAnd_t k_15, hg12, sAnd_t (s := sP0 T _ _ _) k_22]; unfold sAt; exact if_pos hp); have e2 := hc.2.2 (by rw [e]); rw [← e2, e]; exact ⟨KI_19, KR_19, rfl, ((congrArg Int32.toInt rfl).trans q_19), fun _ => C_19⟩⟩

set_option maxHeartbeats 2000000 in
set_option maxRecDepth 100000 in
theorem c_X4_isPossible (l : Launch) (D : va_G) (t : Nat → ClassId) (b n : Nat) (σ0 : qM) (A : Nat → Int32) (B : Nat → Nat → Int32) (P : Nat → Nat → Option Nat) : qP l yX4_isPossible cX4_isPossible 1 (some .boolean) 0 D t b n (cS t b σ0 A B P) [.ref (b + 3)] (fun z => z = bI (decide ((A 5).toInt ≠ 0 ∧ 30 ≤ (A 7).toInt))) := by
  refine qP.of (by decide +kernel) (Nat.le_of_ble_eq_true rfl) (fun p e s m args below meth c X w ls hl => ?_)
  have hx := X.1
  have hb := X.2.1
  have hl : lv_has ls 1 [(0, .ref (b + 3))] := hl
  refine lv_aload_n hx hb dX4_isPossible_0 rfl (lv_at hl 0 rfl) ?_
  refine kg_X4_possible X w dX4_isPossible_1 ?_
  refine lv_if_eq (tgt := 20) hx hb dX4_isPossible_4 (by decide) (fun c_4 => ?_) (fun c_4 => ?_)
  · skip
    have k_4 : ((A 5).toInt) = 0 := (g_eq rfl (show (0 : Int32).toInt = 0 from rfl)).mp c_4
    refine lv_iconst (v := 0) hx hb dX4_isPossible_20 (by decide) ?_
    exact q_pretz X w dX4_isPossible_21 (rfl) (by exact bI_0 (by omega))
  · skip
    have k_4 : ¬ (((A 5).toInt) = 0) := fun h => c_4 ((g_eq rfl (show (0 : Int32).toInt = 0 from rfl)).mpr h)
    refine lv_aload_n hx hb dX4_isPossible_7 rfl (lv_at hl 0 rfl) ?_
    refine kg_X4_commonLength X w dX4_isPossible_8 ?_
    refine lv_bipush (v := 30) hx hb dX4_isPossible_11 (by decide) ?_
    refine lv_icmp_lt (tgt := 20) hx hb dX4_isPossible_13 (by decide) (fun c_13 => ?_) (fun c_13 => ?_)
    · skip
      have k_13 : ((A 7).toInt) < 30 := (g_lt rfl (show (30 : Int32).toInt = 30 from rfl)).mp c_13
      refine lv_iconst (v := 0) hx hb dX4_isPossible_20 (by decide) ?_
      exact q_pretz X w dX4_isPossible_21 (rfl) (by exact bI_0 (by omega))
    · skip
      have k_13 : ¬ (((A 7).toInt) < 30) := fun h => c_13 ((g_lt rfl (show (30 : Int32).toInt = 30 from rfl)).mpr h)
      refine lv_iconst (v := 1) hx hb dX4_isPossible_16 (by decide) ?_
      refine lv_goto (tgt := 21) hx hb dX4_isPossible_17 (by decide) ?_
      exact q_pretz X w dX4_isPossible_21 (rfl) (by exact bI_1 (by omega))

set_option maxHeartbeats 2000000 in
set_option maxRecDepth 100000 in
theorem c_X4_leapsBy (l : Launch) (D : va_G) (t : Nat → ClassId) (b n : Nat) (σ0 : qM) (A : Nat → Int32) (B : Nat → Nat → Int32) (P : Nat → Nat → Option Nat) (q : Nat → Int32) (g : Bool) (a_yr : Int32) (yr : Int) (e_yr : a_yr.toInt = yr) (h_1 : rdC q g A B) (h_2 : 0 ≤ yr ∧ yr ≤ 100000) (h_3 : okRow (rowQ q)) (h_4 : rv (rowQ q) 19 = 2 → yr < rv (rowQ q) 28) : qP l yX4_leapsBy cX4_leapsBy 4 (some .boolean) 0 D t b n (cS t b σ0 A B P) [.ref (b + 3), .int a_yr] (fun z => z = bI (decide (leap (rowQ q) yr = true))) := by
  refine qP.of (by decide +kernel) (Nat.le_of_ble_eq_true rfl) (fun p e s m args below meth c X w ls hl => ?_)
  have hx := X.1
  have hb := X.2.1
  have hl : lv_has ls 4 [(0, .ref (b + 3)), (1, .int a_yr)] := hl
  have h_1c := h_1
  obtain ⟨⟨hq0, a6⟩, b1, ⟨a7, a7l, a7u⟩, ⟨a8, a9, a10, a11⟩, ⟨a12, a14⟩, ⟨a13, d1, d2⟩, ⟨p1, p2⟩, ⟨a16, a17, a18⟩, a5⟩ := h_1
  have h19 : (A 12).toInt = rv (rowQ q) 19 := by rw [a12, rowQ_v (by omega)]; rfl
  refine lv_aload_n hx hb dX4_leapsBy_0 rfl (lv_at hl 0 rfl) ?_
  refine kg_X4_rule X w dX4_leapsBy_1 ?_
  refine lv_iconst (v := 2) hx hb dX4_leapsBy_4 (by decide) ?_
  refine lv_icmp_ne (tgt := 26) hx hb dX4_leapsBy_5 (by decide) (fun c_5 => ?_) (fun c_5 => ?_)
  · skip
    have k_5 : ¬ (((A 12).toInt) = 2) := fun h => c_5 ((g_eq rfl (show (2 : Int32).toInt = 2 from rfl)).mpr h)
    refine lv_iconst (v := 0) hx hb dX4_leapsBy_26 (by decide) ?_
    refine lv_istore_n (lv' := [(2, .int 0), (0, .ref (b + 3)), (1, .int a_yr)]) hx hb dX4_leapsBy_27 rfl hl (by decide) rfl (fun ls hl => ?_)
    refine lv_iconst (v := 0) hx hb dX4_leapsBy_28 (by decide) ?_
    refine lv_istore_n (lv' := [(3, .int 0), (2, .int 0), (0, .ref (b + 3)), (1, .int a_yr)]) hx hb dX4_leapsBy_29 rfl hl (by decide) rfl (fun ls hl => ?_)
    refine q_loop (α := Int32 × Int32 × Int × Int) (fun a => a.1.toInt = a.2.2.1 ∧ a.2.1.toInt = a.2.2.2 ∧ ((0 ≤ a.2.2.2 ∧ a.2.2.2 ≤ (A 13).toInt) ∧ a.2.2.1 = (bI (decide (0 < sgn (rowQ q) yr a.2.2.2.toNat))).toInt)) (fun a => ((A 13).toInt - a.2.2.2).toNat) (fun a => ∀ ls : Array Slot, lv_has ls 4 [(3, .int a.2.1), (2, .int a.1), (0, .ref (b + 3)), (1, .int a_yr)] → W p l e (qR 0 0 0) s m args below meth c s.heap [] 0 0 (MQ below (vp_Si (fun z => z = bI (decide (leap (rowQ q) yr = true)))) args s 0 0 (fun _ => False)) (F0 m 30 ls [])) ?_ ⟨0, 0, 0, 0⟩ ⟨(show (0 : Int32).toInt = 0 from rfl), (show (0 : Int32).toInt = 0 from rfl), by dsimp only; exact ⟨by omega, rfl⟩⟩ ls (lv_sub hl [0, 1, 2, 3] rfl)
    rintro ⟨v_lp, v_i, lp, i⟩ ⟨q_lp, q_i, inv_30⟩ ih_30 ls hl
    dsimp only at q_lp q_i inv_30 hl
    refine lv_iload_n hx hb dX4_leapsBy_30 rfl (lv_at hl 0 rfl) ?_
    refine lv_aload_n hx hb dX4_leapsBy_31 rfl (lv_at hl 2 rfl) ?_
    refine kg_X4_divisorCount X w dX4_leapsBy_32 ?_
    refine lv_icmp_ge (tgt := 89) hx hb dX4_leapsBy_35 (by decide) (fun c_35 => ?_) (fun c_35 => ?_)
    · skip
      have k_35 : ((A 13).toInt) ≤ i := (g_le rfl q_i).mp c_35
      have hend : v_lp = bI (decide (0 < sgn (rowQ q) yr (A 13).toInt.toNat)) := (g_eq q_lp rfl).mpr (by rw [inv_30.2, show i = (A 13).toInt by omega])
      have hlp := rdC_lp h_1c h_3 (show ¬ rv (rowQ q) 19 = 2 by omega) yr
      refine lv_iload_n hx hb dX4_leapsBy_89 rfl (lv_at hl 1 rfl) ?_
      exact q_pretz X w dX4_leapsBy_90 (by rw [hend]; exact bI_nar _) (by rw [hend]; exact congrArg bI (Bool.eq_iff_iff.mpr (decide_eq_true_iff.trans ((leap_iff.trans hlp).symm.trans decide_eq_true_iff.symm))))
    · skip
      have k_35 : ¬ (((A 13).toInt) ≤ i) := fun h => c_35 ((g_le rfl q_i).mpr h)
      refine lv_iload_n hx hb dX4_leapsBy_38 rfl (lv_at hl 0 rfl) ?_
      refine lv_aload_n hx hb dX4_leapsBy_39 rfl (lv_at hl 2 rfl) ?_
      refine kg_X4_divisors X w dX4_leapsBy_40 ?_
      refine kn_2 X w dX4_leapsBy_43 ?_
      refine lv_icmp_ge (tgt := 89) hx hb dX4_leapsBy_44 (by decide) (fun c_44 => ?_) (fun c_44 => ?_)
      · skip
        have k_44 : 4 ≤ i := (g_le (show (4 : Int32).toInt = 4 from rfl) q_i).mp c_44
        exfalso; omega
      · skip
        have k_44 : ¬ (4 ≤ i) := fun h => c_44 ((g_le (show (4 : Int32).toInt = 4 from rfl) q_i).mpr h)
        refine lv_iload_n hx hb dX4_leapsBy_47 rfl (lv_at hl 0 rfl) ?_
        refine lv_aload_n hx hb dX4_leapsBy_48 rfl (lv_at hl 2 rfl) ?_
        refine kg_X4_signs X w dX4_leapsBy_49 ?_
        refine kn_3 X w dX4_leapsBy_52 ?_
        refine lv_icmp_ge (tgt := 89) hx hb dX4_leapsBy_53 (by decide) (fun c_53 => ?_) (fun c_53 => ?_)
        · skip
          have k_53 : 4 ≤ i := (g_le (show (4 : Int32).toInt = 4 from rfl) q_i).mp c_53
          exfalso; omega
        · skip
          have k_53 : ¬ (4 ≤ i) := fun h => c_53 ((g_le (show (4 : Int32).toInt = 4 from rfl) q_i).mpr h)
          refine lv_aload_n hx hb dX4_leapsBy_56 rfl (lv_at hl 2 rfl) ?_
          refine kg_X4_divisors X w dX4_leapsBy_57 ?_
          refine lv_iload_n hx hb dX4_leapsBy_60 rfl (lv_at hl 0 rfl) ?_
          refine kl_2 X w (g_in q_i (by omega)) dX4_leapsBy_61 ?_
          refine q_topE (y := B 2 i.toNat) (congrArg (B 2) (g_tn q_i)) ?_
          refine lv_if_le (tgt := 83) hx hb dX4_leapsBy_62 (by decide) (fun c_62 => ?_) (fun c_62 => ?_)
          · skip
            have k_62 : ((B 2 i.toNat).toInt) ≤ 0 := (g_le rfl (show (0 : Int32).toInt = 0 from rfl)).mp c_62
            exfalso; have h1 := d1 i (by omega) (by omega); have h2 := h_3.div (k := i) (by omega) (by omega) (by rw [rowQ_v (by omega)]; rcases h1.2 with y | y <;> rw [y.1] <;> decide); rw [rowQ_v (by omega), ← h1.1] at h2; omega
          · skip
            have k_62 : ¬ (((B 2 i.toNat).toInt) ≤ 0) := fun h => c_62 ((g_le rfl (show (0 : Int32).toInt = 0 from rfl)).mpr h)
            have h1 := d1 i (by omega) (by omega)
            have hv20 : rv (rowQ q) (20 + i) = (B 2 i.toNat).toInt := by rw [rowQ_v (by omega), ← h1.1]
            have hs24 : rv (rowQ q) (24 + i) ≠ 0 := by rw [rowQ_v (by omega)]; rcases h1.2 with y | y <;> rw [y.1] <;> decide
            refine lv_iload_n hx hb dX4_leapsBy_65 rfl (lv_at hl 3 rfl) ?_
            refine lv_aload_n hx hb dX4_leapsBy_66 rfl (lv_at hl 2 rfl) ?_
            refine kg_X4_divisors X w dX4_leapsBy_67 ?_
            refine lv_iload_n hx hb dX4_leapsBy_70 rfl (lv_at hl 0 rfl) ?_
            refine kl_2 X w (g_in q_i (by omega)) dX4_leapsBy_71 ?_
            refine q_topE (y := B 2 i.toNat) (congrArg (B 2) (g_tn q_i)) ?_
            refine lv_irem hx hb dX4_leapsBy_72 (g_ne0 rfl (by omega)) ?_
            refine lv_topi (fun x_72 e_72 => ?_)
            have p_72 : x_72.toInt = (yr % ((B 2 i.toNat).toInt)) := by rw [e_72]; exact t_rem e_yr rfl (by omega) (by omega)
            refine lv_if_ne (tgt := 83) hx hb dX4_leapsBy_73 (by decide) (fun c_73 => ?_) (fun c_73 => ?_)
            · skip
              have k_73 : ¬ ((yr % ((B 2 i.toNat).toInt)) = 0) := fun h => c_73 ((g_eq p_72 (show (0 : Int32).toInt = 0 from rfl)).mpr h)
              obtain ⟨x_83, e_83⟩ : ∃ z : Int32, z = (v_i + 1) := ⟨_, rfl⟩
              have p_83 : x_83.toInt = (i + 1) := by rw [e_83]; exact t_add q_i (show (1 : Int32).toInt = 1 from rfl) (by omega) (by omega)
              refine lv_iinc (v := x_83) (lv' := [(3, .int x_83), (2, .int v_lp), (0, .ref (b + 3)), (1, .int a_yr)]) hx hb dX4_leapsBy_83 hl (k := 0) rfl (by rw [e_83]; rfl) (by decide) rfl (fun ls hl => ?_)
              refine lv_goto (tgt := 30) hx hb dX4_leapsBy_86 (by decide) ?_
              refine ih_30 ⟨v_lp, x_83, lp, (i + 1)⟩ ⟨q_lp, p_83, by dsimp only; refine ⟨by omega, ?_⟩; rw [sgn_f (by omega) (fun y => k_73 (by rw [← hv20]; exact y.2))]; exact inv_30.2⟩ (by dsimp only; omega) ls (lv_sub hl [0, 1, 2, 3] rfl)
            · skip
              have k_73 : (yr % ((B 2 i.toNat).toInt)) = 0 := (g_eq p_72 (show (0 : Int32).toInt = 0 from rfl)).mp c_73
              refine lv_aload_n hx hb dX4_leapsBy_76 rfl (lv_at hl 2 rfl) ?_
              refine kg_X4_signs X w dX4_leapsBy_77 ?_
              refine lv_iload_n hx hb dX4_leapsBy_80 rfl (lv_at hl 0 rfl) ?_
              refine kl_3 X w (g_in q_i (by omega)) dX4_leapsBy_81 ?_
              refine q_topE (y := B 3 i.toNat) (congrArg (B 3) (g_tn q_i)) ?_
              refine lv_istore_n (lv' := [(2, .int (B 3 i.toNat)), (3, .int v_i), (0, .ref (b + 3)), (1, .int a_yr)]) hx hb dX4_leapsBy_82 rfl hl (by decide) rfl (fun ls hl => ?_)
              obtain ⟨x_83, e_83⟩ : ∃ z : Int32, z = (v_i + 1) := ⟨_, rfl⟩
              have p_83 : x_83.toInt = (i + 1) := by rw [e_83]; exact t_add q_i (show (1 : Int32).toInt = 1 from rfl) (by omega) (by omega)
              refine lv_iinc (v := x_83) (lv' := [(3, .int x_83), (2, .int (B 3 i.toNat)), (0, .ref (b + 3)), (1, .int a_yr)]) hx hb dX4_leapsBy_83 hl (k := 1) rfl (by rw [e_83]; rfl) (by decide) rfl (fun ls hl => ?_)
              refine lv_goto (tgt := 30) hx hb dX4_leapsBy_86 (by decide) ?_
              refine ih_30 ⟨(B 3 i.toNat), x_83, (B 3 i.toNat).toInt, (i + 1)⟩ ⟨rfl, p_83, by dsimp only; refine ⟨by omega, ?_⟩; rw [sgn_t (by omega) hs24 (by rw [hv20]; exact k_73), rowQ_v (by omega)]; rcases h1.2 with y | y <;> rw [y.1, y.2] <;> rfl⟩ (by dsimp only; omega) ls (lv_sub hl [0, 1, 2, 3] rfl)
  · skip
    have k_5 : ((A 12).toInt) = 2 := (g_eq rfl (show (2 : Int32).toInt = 2 from rfl)).mp c_5
    have hy28 := h_4 (by omega)
    have hbit : (((rowQ q) 29 >>> (Int32.ofInt (yr % rv (rowQ q) 28) &&& 31)) &&& 1) = (((A 14) >>> (a_yr &&& 31)) &&& 1) := by rw [Int.emod_eq_of_lt (by omega) hy28, ← e_yr, i_of, a14]; rfl
    refine lv_aload_n hx hb dX4_leapsBy_8 rfl (lv_at hl 0 rfl) ?_
    refine kg_X4_remainders X w dX4_leapsBy_9 ?_
    refine lv_iload_n hx hb dX4_leapsBy_12 rfl (lv_at hl 1 rfl) ?_
    refine lv_ishr hx hb dX4_leapsBy_13 ?_
    refine lv_iconst (v := 1) hx hb dX4_leapsBy_14 (by decide) ?_
    refine lv_iand hx hb dX4_leapsBy_15 ?_
    refine lv_iconst (v := 1) hx hb dX4_leapsBy_16 (by decide) ?_
    refine lv_icmp_ne (tgt := 24) hx hb dX4_leapsBy_17 (by decide) (fun c_17 => ?_) (fun c_17 => ?_)
    · skip
      refine lv_iconst (v := 0) hx hb dX4_leapsBy_24 (by decide) ?_
      exact q_pretz X w dX4_leapsBy_25 (rfl) (by exact bI_0 (fun y => c_17 (by have y := leap_iff.mp y; revert y; unfold leapP; rw [if_pos (show rv (rowQ q) 19 = 2 by omega)]; unfold bitAt; rw [hbit]; exact id)))
    · skip
      refine lv_iconst (v := 1) hx hb dX4_leapsBy_20 (by decide) ?_
      refine lv_goto (tgt := 25) hx hb dX4_leapsBy_21 (by decide) ?_
      exact q_pretz X w dX4_leapsBy_25 (rfl) (by exact bI_1 (leap_iff.mpr (by unfold leapP; rw [if_pos (show rv (rowQ q) 19 = 2 by omega)]; unfold bitAt; rw [hbit]; exact c_17)))
