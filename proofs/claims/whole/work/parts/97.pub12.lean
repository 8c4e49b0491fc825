theorem cl_X8_87 : Cond.classLink RX8 87 RX0 ∈ TB := tb_2 142 (by decide +kernel) (by decide +kernel)
theorem is_X0 : Cond.instantiable RX0 15 ∈ TB := tb_2 143 (by decide +kernel) (by decide +kernel)
theorem iw_X8_89 : qIw RX8 89 yX0_init cX0_init 2 1 := ⟨ml_X8_89, im_X0_init, rfl, ini_X0, cd_X0_init, by decide +kernel, by decide +kernel, by decide +kernel⟩
theorem cl_X8_230 : Cond.classLink RX8 230 RX1 ∈ TB := tb_5 64 (by decide +kernel) (by decide +kernel)
theorem is_X1 : Cond.instantiable RX1 6 ∈ TB := tb_5 65 (by decide +kernel) (by decide +kernel)
theorem iw_X8_232 : qIw RX8 232 yX1_init cX1_init 7 6 := ⟨ml_X8_232, im_X1_init, rfl, ini_X1, cd_X1_init, by decide +kernel, by decide +kernel, by decide +kernel⟩
theorem rdC_cg2 {q : Nat → Int32} {g : Bool} {A A1 : Nat → Int32} {B : Nat → Nat → Int32} (h : rdC q g A B) (k : kpI [0, 1, 2, 3, 4, 19, 20, 21] A A1) : rdC q g A1 B := by
  unfold rdC
  rw [k 5 (by decide), k 6 (by decide), k 7 (by decide), k 8 (by decide), k 9 (by decide), k 10 (by decide), k 11 (by decide), k 12 (by decide), k 13 (by decide), k 14 (by decide), k 15 (by decide), k 16 (by decide), k 17 (by decide), k 18 (by decide)]
  exact h
/-- what is possible, as the reader says it -/
theorem rdC_poss {q : Nat → Int32} {g : Bool} {A : Nat → Int32} {B : Nat → Nat → Int32} (h : rdC q g A B) : ((A 5).toInt ≠ 0 ∧ 30 ≤ (A 7).toInt) ↔ possR (rowQ q) g := by
  rw [possR_W, ← pWB_iff]
  have e7 : (A 7).toInt = sumL (rowQ q) (rv (rowQ q) 0).toNat := h.2.2.1.1
  have e5 : A 5 = bI (pWB (rowQ q) g) := h.2.2.2.2.2.2.2.2
  rw [← e7, e5]
  cases pWB (rowQ q) g
  · exact ⟨fun z => absurd rfl z.1, fun z => absurd z.1 (by decide)⟩
  · exact ⟨fun z => ⟨rfl, z.2⟩, fun z => ⟨by decide, z.2⟩⟩
theorem okSt.ext {σ0 σ1 : qM} {A A1 : Nat → Int32} {P : Nat → Nat → Option Nat} {u : Nat} (h : okSt σ0 A P u) (h20 : A1 (20 + 2 * u) = A (20 + 2 * u)) (h21 : A1 (21 + 2 * u) = A (21 + 2 * u)) (he : ∀ q e, 41 < q → σ0 q = some e → σ1 q = some e) : okSt σ1 A1 P u := by
  obtain ⟨a, c, d, e⟩ := h
  refine ⟨by rw [h20]; exact a, by rw [h21]; exact c, fun j hj => ?_, fun j hj => ?_⟩
  · obtain ⟨q, fs, x, y, z⟩ := d j (by rw [← h20]; exact hj)
    exact ⟨q, fs, x, y, he q _ y z⟩
  · obtain ⟨q, fs, x, y, z⟩ := e j (by rw [← h21]; exact hj)
    exact ⟨q, fs, x, y, he q _ y z⟩
/-- what stood in the world's base stays, when cells come behind -/
theorem base_ext {D : va_G} {t : Nat → ClassId} {b n : Nat} {σ0 σ1 : qM} {A : Nat → Int32} {B : Nat → Nat → Int32} {P : Nat → Nat → Option Nat} {H : Heap} (w : WB D b n (cS t b σ0 A B P) H) (h : ∀ k, k < n → σ1 k = σ0 k) : ∀ q e, 41 < q → σ0 q = some e → σ1 q = some e := fun q e hq he =>
  (h q (w.lt ((cS_off hq).trans he))).trans he

set_option maxHeartbeats 2000000 in
set_option maxRecDepth 100000 in
theorem c_X8_setCalendar (l : Launch) (D : va_G) (t : Nat → ClassId) (b n : Nat) (σ0 : qM) (A : Nat → Int32) (B : Nat → Nat → Int32) (P : Nat → Nat → Option Nat) (hl0 : l.stackTraces = false) (pm : Nat → Nat) (h_p : hiP pm P) (h_n : 0 ≤ (A 19).toInt ∧ (A 19).toInt ≤ 6) (h_0 : okSt σ0 A P 0) (T : Int → Int) (h_T : T = txC A B) (h_x : okTx A B) (a_ca : Int32) (ca : Int) (e_ca : a_ca.toInt = ca) : xC l yX8_setCalendar cX8_setCalendar 5 (some .int) 7 3 1030 D t b n (cS t b σ0 A B P) [.ref (b + 0), .int a_ca] (fun z n1 σ1 => (if (0 ≤ ca ∧ ca ≤ (if (A 20).toInt < 6 then (A 20).toInt else 5)) then (if (sCal T (A 2).toInt).1 = true then (if possB (rowQ (sCal T (A 2).toInt).2.2.1) (sCal T (A 2).toInt).2.2.2 = true then (0 : Int) else 3) else 2) else 1) = 0 ∧ n1 = n + 3 ∧ ∃ (S1 : qM) (A1 : Nat → Int32) (B1 : Nat → Nat → Int32) (P1 : Nat → Nat → Option Nat), σ1 = cS t b S1 A1 B1 P1 ∧ (∀ k, k < n → S1 k = σ0 k) ∧ 41 < n ∧ (∃ K fl fc, CalP t b S1 n (n + 1) (n + 2) K fl fc (rowQ (sCal T (A 2).toInt).2.2.1)) ∧ kpR [1, 2, 3] B B1 ∧ (∃ (A0 A2 : Nat → Int32) (P2 : Nat → Nat → Option Nat) (v : Int32), kpI [1, 2, 3, 4, 5, 6, 7, 8, 9, 10, 11, 12, 13, 14, 15, 16, 17, 18] A A0 ∧ (A0 1).toInt = -1 ∧ (A0 2).toInt = 0 ∧ keP A0 P pm 0 A2 P2 ∧ A1 = va_up A2 20 v ∧ v.toInt = (if (A 20).toInt < ca + 1 then ca + 1 else (A 20).toInt) ∧ P1 = va_up P2 1 (va_up (P2 1) ca.toNat (some n))) ∧ z.toInt = rv (rowQ (sCal T (A 2).toInt).2.2.1) 0 ∧ 0 ≤ ca ∧ ca < 6) (fun E n1 σ1 => ∃ (A1 : Nat → Int32) (B1 : Nat → Nat → Int32), σ1 = cS t b σ0 A1 B1 P ∧ kpI [1, 2, 3, 4, 5, 6, 7, 8, 9, 10, 11, 12, 13, 14, 15, 16, 17, 18] A A1 ∧ kpR [1, 2, 3] B B1 ∧ (A1 2).toInt = 0 ∧ (A1 1).toInt = (if (0 ≤ ca ∧ ca ≤ (if (A 20).toInt < 6 then (A 20).toInt else 5)) then (if (sCal T (A 2).toInt).1 = true then -1 else (sCal T (A 2).toInt).2.1) else (A 1).toInt) ∧ ((E = "java/lang/IndexOutOfBoundsException" ∧ (if (0 ≤ ca ∧ ca ≤ (if (A 20).toInt < 6 then (A 20).toInt else 5)) then (if (sCal T (A 2).toInt).1 = true then (if possB (rowQ (sCal T (A 2).toInt).2.2.1) (sCal T (A 2).toInt).2.2.2 = true then (0 : Int) else 3) else 2) else 1) = 1) ∨ (E = "java/lang/IllegalArgumentException" ∧ (if (0 ≤ ca ∧ ca ≤ (if (A 20).toInt < 6 then (A 20).toInt else 5)) then (if (sCal T (A 2).toInt).1 = true then (if possB (rowQ (sCal T (A 2).toInt).2.2.1) (sCal T (A 2).toInt).2.2.2 = true then (0 : Int) else 3) else 2) else 1) = 2) ∨ (E = "java/lang/IllegalStateException" ∧ (if (0 ≤ ca ∧ ca ≤ (if (A 20).toInt < 6 then (A 20).toInt else 5)) then (if (sCal T (A 2).toInt).1 = true then (if possB (rowQ (sCal T (A 2).toInt).2.2.1) (sCal T (A 2).toInt).2.2.2 = true then (0 : Int) else 3) else 2) else 1) = 3))) := by
  refine xC.of (by decide +kernel) (Nat.le_of_ble_eq_true rfl) (fun p e s m args below meth c X hE hno w ls hl => ?_)
  have hx := X.1
  have hb := X.2.1
  have hl : lv_has ls 5 [(0, .ref (b + 0)), (1, .int a_ca)] := hl
  have hc0 := h_0.1
  have hc0 : 0 ≤ (A 20).toInt ∧ (A 20).toInt ≤ 6 := hc0
  have hw0 := w.1
  refine lv_aload_n hx hb dX8_setCalendar_0 rfl (lv_at hl 0 rfl) ?_
  refine kg_X8_state X w dX8_setCalendar_1 ?_
  refine q_cPV X w (c_X6_calendarCount l D t b n σ0 A B P 0 (by decide)) v_X8_115 (k := 7) rfl rfl rfl ⟨Nat.le_of_ble_eq_true rfl, Nat.le_of_ble_eq_true rfl⟩ rfl hl.1 (Nat.le_of_ble_eq_true rfl) dX8_setCalendar_4 ⟨Nat.le_of_ble_eq_true rfl, Nat.le_of_ble_eq_true rfl⟩ (fun r_4 z_4 => ?_)
  have p_4 : r_4.toInt = (A 20).toInt := congrArg Int32.toInt z_4
  refine lv_iconst (v := 5) hx hb dX8_setCalendar_7 (by decide) ?_
  refine q_min X ml_X8_118 ⟨Nat.le_of_ble_eq_true rfl, Nat.le_of_ble_eq_true rfl⟩ ⟨Nat.le_of_ble_eq_true rfl, Nat.le_of_ble_eq_true rfl⟩ hl.1 (Nat.le_of_ble_eq_true rfl) dX8_setCalendar_8 (fun r_8 z_8 => ?_)
  have p_8 : r_8.toInt = (if ((A 20).toInt) < 5 then ((A 20).toInt) else 5) := by rw [z_8, p_4, (show (5 : Int32).toInt = 5 from rfl)]
  have p_8 : r_8.toInt = (if (A 20).toInt < 6 then (A 20).toInt else 5) := p_8.trans (by split <;> split <;> omega)
  refine lv_istore_n (lv' := [(2, .int r_8), (0, .ref (b + 0)), (1, .int a_ca)]) hx hb dX8_setCalendar_11 rfl hl (by decide) rfl (fun ls hl => ?_)
  refine lv_iload_n hx hb dX8_setCalendar_12 rfl (lv_at hl 2 rfl) ?_
  refine lv_iconst (v := 0) hx hb dX8_setCalendar_13 (by decide) ?_
  refine lv_iload_n hx hb dX8_setCalendar_14 rfl (lv_at hl 0 rfl) ?_
  refine q_cPS X w (c_X8_isFrom l a_ca 0 r_8 ca 0 (if (A 20).toInt < 6 then (A 20).toInt else 5) e_ca (show (0 : Int32).toInt = 0 from rfl) p_8 D t b n (cS t b σ0 A B P)) v_X8_99 rfl ⟨Nat.le_of_ble_eq_true rfl, Nat.le_of_ble_eq_true rfl⟩ rfl hl.1 (Nat.le_of_ble_eq_true rfl) dX8_setCalendar_15 ⟨Nat.le_of_ble_eq_true rfl, Nat.le_of_ble_eq_true rfl⟩ (fun r_15 z_15 => ?_)
  refine lv_if_ne (tgt := 38) hx hb dX8_setCalendar_18 (by decide) (fun c_18 => ?_) (fun c_18 => ?_)
  · skip
    rw [z_15] at c_18
    have k_18 := bI_t.mp c_18
    refine lv_aload_n hx hb dX8_setCalendar_38 rfl (lv_at hl 1 rfl) ?_
    refine kg_X8_reader X w dX8_setCalendar_39 ?_
    refine kk_cCIR X w (c_X4_read l D t b n σ0 A B P T (by exact h_T) (by exact h_x)) v_X8_83 rfl rfl rfl ⟨Nat.le_of_ble_eq_true rfl, Nat.le_of_ble_eq_true rfl⟩ rfl hl.1 (Nat.le_of_ble_eq_true rfl) dX8_setCalendar_42 ⟨Nat.le_of_ble_eq_true rfl, Nat.le_of_ble_eq_true rfl⟩ (fun r_42 A_42 B_42 H locs z_42 w => ?_)
    refine lv_istore_n (lv' := [(3, .int r_42), (2, .int r_8), (0, .ref (b + 0)), (1, .int a_ca)]) hx hb dX8_setCalendar_45 rfl hl (by decide) rfl (fun ls hl => ?_)
    refine lv_aload_n hx hb dX8_setCalendar_46 rfl (lv_at hl 2 rfl) ?_
    refine lv_iload_n hx hb dX8_setCalendar_47 rfl (lv_at hl 0 rfl) ?_
    refine lv_if_eq (tgt := 55) hx hb dX8_setCalendar_48 (by decide) (fun c_48 => ?_) (fun c_48 => ?_)
    · skip
      rw [z_42.2.2.1] at c_48
      have k_48 := bI_f.mp c_48
      refine lv_aload_n hx hb dX8_setCalendar_55 rfl (lv_at hl 2 rfl) ?_
      refine kg_X8_text X w dX8_setCalendar_56 ?_
      refine q_cPV X w (c_X7_position l D t b n σ0 A_42 B_42 P ) v_X8_129 (k := 1) rfl rfl rfl ⟨Nat.le_of_ble_eq_true rfl, Nat.le_of_ble_eq_true rfl⟩ rfl hl.1 (Nat.le_of_ble_eq_true rfl) dX8_setCalendar_59 ⟨Nat.le_of_ble_eq_true rfl, Nat.le_of_ble_eq_true rfl⟩ (fun r_59 z_59 => ?_)
      refine kp_X8_fault (v := r_59) X w dX8_setCalendar_62 (fun H locs w => ?_)
      refine lv_aload_n hx hb dX8_setCalendar_65 rfl (lv_at hl 2 rfl) ?_
      refine kg_X8_text X w dX8_setCalendar_66 ?_
      refine kk_cVI X w (c_X7_clear l D t b n σ0 (va_up A_42 1 r_59) B_42 P ) v_X8_96 rfl rfl rfl ⟨Nat.le_of_ble_eq_true rfl, Nat.le_of_ble_eq_true rfl⟩ rfl hl.1 (Nat.le_of_ble_eq_true rfl) dX8_setCalendar_69 ⟨Nat.le_of_ble_eq_true rfl, Nat.le_of_ble_eq_true rfl⟩ (fun A_69 H locs z_69 w => ?_)
      have hf69 : (A_69 1).toInt = (r_59 : Int32).toInt := by rw [z_69]; rfl
      have hk69 : kpI [1, 2, 3, 4, 5, 6, 7, 8, 9, 10, 11, 12, 13, 14, 15, 16, 17, 18] A A_69 := by rw [z_69]; exact (kpI.up (kpI.up (z_42.1.wk (by decide)) (by decide)) (by decide))
      have hk42 : kpI [0, 1, 2, 3, 4, 19, 20, 21] A_42 A_69 := by rw [z_69]; exact (kpI.up (kpI.up kpI.rf (by decide)) (by decide))
      refine lv_iload_n hx hb dX8_setCalendar_72 rfl (lv_at hl 0 rfl) ?_
      refine lv_if_ne (tgt := 86) hx hb dX8_setCalendar_73 (by decide) (fun c_73 => ?_) (fun c_73 => ?_)
      · skip
        rw [z_42.2.2.1] at c_73
        have k_73 := bI_t.mp c_73
        exact absurd k_73 k_48
      · skip
        rw [z_42.2.2.1] at c_73
        have k_73 := bI_f.mp c_73
        exact x_thr_ia hl0 X hE hno w (is := 134) (text := "the text has a fault") (by decide +kernel) hl.1 dX8_setCalendar_76 dX8_setCalendar_79 dX8_setCalendar_80 dX8_setCalendar_82 dX8_setCalendar_85 ⟨Nat.le_of_ble_eq_true rfl, Nat.le_of_ble_eq_true rfl⟩ (Nat.le_of_ble_eq_true rfl) ⟨Nat.le_of_ble_eq_true rfl, Nat.le_of_ble_eq_true rfl⟩ ⟨Nat.le_of_ble_eq_true rfl, Nat.le_of_ble_eq_true rfl⟩ (fun _ => ⟨A_69, B_42, rfl, hk69, z_42.2.1, by rw [z_69]; rfl, by rw [hf69, if_pos k_18, if_neg k_48]; exact (congrArg Int32.toInt z_59).trans z_42.2.2.2.1, Or.inr (Or.inl ⟨rfl, by rw [if_pos k_18, if_neg k_48]⟩)⟩)
    · skip
      rw [z_42.2.2.1] at c_48
      have k_48 := bI_t.mp c_48
      refine lv_iconst (v := (-1)) hx hb dX8_setCalendar_51 (by decide) ?_
      refine lv_goto (tgt := 62) hx hb dX8_setCalendar_52 (by decide) ?_
      refine kp_X8_fault (v := (-1)) X w dX8_setCalendar_62 (fun H locs w => ?_)
      refine lv_aload_n hx hb dX8_setCalendar_65 rfl (lv_at hl 2 rfl) ?_
      refine kg_X8_text X w dX8_setCalendar_66 ?_
      refine kk_cVI X w (c_X7_clear l D t b n σ0 (va_up A_42 1 (-1)) B_42 P ) v_X8_96 rfl rfl rfl ⟨Nat.le_of_ble_eq_true rfl, Nat.le_of_ble_eq_true rfl⟩ rfl hl.1 (Nat.le_of_ble_eq_true rfl) dX8_setCalendar_69 ⟨Nat.le_of_ble_eq_true rfl, Nat.le_of_ble_eq_true rfl⟩ (fun A_69 H locs z_69 w => ?_)
      have hf69 : (A_69 1).toInt = ((-1) : Int32).toInt := by rw [z_69]; rfl
      have hk69 : kpI [1, 2, 3, 4, 5, 6, 7, 8, 9, 10, 11, 12, 13, 14, 15, 16, 17, 18] A A_69 := by rw [z_69]; exact (kpI.up (kpI.up (z_42.1.wk (by decide)) (by decide)) (by decide))
      have hk42 : kpI [0, 1, 2, 3, 4, 19, 20, 21] A_42 A_69 := by rw [z_69]; exact (kpI.up (kpI.up kpI.rf (by decide)) (by decide))
      have hrd : rdC (sCal T (A 2).toInt).2.2.1 (sCal T (A 2).toInt).2.2.2 A_69 B_42 := rdC_cg2 (z_42.2.2.2.2 k_48) hk42
      have hps := rdC_poss hrd
      refine lv_iload_n hx hb dX8_setCalendar_72 rfl (lv_at hl 0 rfl) ?_
      refine lv_if_ne (tgt := 86) hx hb dX8_setCalendar_73 (by decide) (fun c_73 => ?_) (fun c_73 => ?_)
      · skip
        rw [z_42.2.2.1] at c_73
        have k_73 := bI_t.mp c_73
        refine lv_aload_n hx hb dX8_setCalendar_86 rfl (lv_at hl 2 rfl) ?_
        refine kg_X8_reader X w dX8_setCalendar_87 ?_
        refine q_cPV X w (c_X4_isPossible l D t b n σ0 A_69 B_42 P ) v_X8_137 (k := 3) rfl rfl rfl ⟨Nat.le_of_ble_eq_true rfl, Nat.le_of_ble_eq_true rfl⟩ rfl hl.1 (Nat.le_of_ble_eq_true rfl) dX8_setCalendar_90 ⟨Nat.le_of_ble_eq_true rfl, Nat.le_of_ble_eq_true rfl⟩ (fun r_90 z_90 => ?_)
        refine lv_if_ne (tgt := 106) hx hb dX8_setCalendar_93 (by decide) (fun c_93 => ?_) (fun c_93 => ?_)
        · skip
          rw [z_90] at c_93
          have k_93 := bI_t.mp c_93
          have hn106 : 41 < n := w.1.lt (k := 41) rfl
          refine q_new (ci := 4) X w inX0 tyX0 tyX0_ok cl_X8_87 is_X0 ini_X0 rfl (fs := [.null, .int 0, .int 0, .int 0, .int 0, .int 0, .int 0, .int 0, .null, .int 0, .int 0, .int 0, .int 0, .int 0, .int 0]) (fun j hj => by match j, hj with | 0, _ => rfl | 1, _ => rfl | 2, _ => rfl | 3, _ => rfl | 4, _ => rfl | 5, _ => rfl | 6, _ => rfl | 7, _ => rfl | 8, _ => rfl | 9, _ => rfl | 10, _ => rfl | 11, _ => rfl | 12, _ => rfl | 13, _ => rfl | 14, _ => rfl | j + 15, hj => exact absurd hj (by omega)) (Nat.le_of_ble_eq_true rfl) (Nat.le_of_ble_eq_true rfl) dX8_setCalendar_106 (fun H w => ?_)
          rw [cS_up hn106] at w
          refine lv_dup hx hb dX8_setCalendar_109 rfl ?_
          refine lv_aload_n hx hb dX8_setCalendar_110 rfl (lv_at hl 2 rfl) ?_
          refine kg_X8_reader X w dX8_setCalendar_111 ?_
          have hpr : possR (rowQ (sCal T (A 2).toInt).2.2.1) (sCal T (A 2).toInt).2.2.2 := hps.mp k_93
          have hok : okRow (rowQ (sCal T (A 2).toInt).2.2.1) := okRow_read (rowQ_at _) (sCal_f k_48) hpr
          refine q_cVIK X hE.1 w (c_X0_init l D t b (n + 1) (va_up σ0 n (some (.inr (4, [.null, .int 0, .int 0, .int 0, .int 0, .int 0, .int 0, .int 0, .null, .int 0, .int 0, .int 0, .int 0, .int 0, .int 0])))) A_69 B_42 P (sCal T (A 2).toInt).2.2.1 (sCal T (A 2).toInt).2.2.2 n hrd hok (pWB_iff.mpr (possR_W.mp hpr).1) hn106 (va_up_self _ _ _)) iw_X8_89 rfl ⟨Nat.le_of_ble_eq_true rfl, Nat.le_of_ble_eq_true rfl⟩ rfl hl.1 (Nat.le_of_ble_eq_true rfl) dX8_setCalendar_114 ⟨Nat.le_of_ble_eq_true rfl, Nat.le_of_ble_eq_true rfl⟩ (fun n_114 σ_114 H locs z_114 w => ?_)
          obtain ⟨rfl, K, fl, fc, rfl, hK⟩ := z_114
          obtain ⟨S1, hS1⟩ : ∃ z : qM, z = (va_up (va_up (va_up (va_up σ0 n (some (.inr (4, [.null, .int 0, .int 0, .int 0, .int 0, .int 0, .int 0, .int 0, .null, .int 0, .int 0, .int 0, .int 0, .int 0, .int 0])))) (n + 1) (some (.inl (t 0, (rv (rowQ (sCal T (A 2).toInt).2.2.1) 0).toNat, .inl fl)))) (n + 1 + 1) (some (.inl (t 0, (reps (rowQ (sCal T (A 2).toInt).2.2.1)).toNat + 1, .inl fc)))) n (some (.inr (4, kF b (n + 1) (n + 1 + 1) K)))) := ⟨_, rfl⟩
          rw [← hS1] at w
          have hex : ∀ k, k < n → S1 k = σ0 k := fun k hk => by rw [hS1, va_up_ne _ _ (by omega), va_up_ne _ _ (by omega), va_up_ne _ _ (by omega), va_up_ne _ _ (by omega)]
          have hCP : CalP t b S1 n (n + 1) (n + 1 + 1) K fl fc (rowQ (sCal T (A 2).toInt).2.2.1) := by rw [hS1]; exact ⟨va_up_self _ _ _, (va_up_ne _ _ (by omega)).trans ((va_up_ne _ _ (by omega)).trans (va_up_self _ _ _)), (va_up_ne _ _ (by omega)).trans (va_up_self _ _ _), hK⟩
          have hbe := base_ext hw0 hex
          have hok1 : okSt S1 A_69 P 0 := h_0.ext (hk69 20 (by decide)) (hk69 21 (by decide)) hbe
          refine lv_astore (lv' := [(4, .ref (b + n)), (3, .int r_42), (2, .int r_8), (0, .ref (b + 0)), (1, .int a_ca)]) hx hb dX8_setCalendar_117 hl (by decide) rfl (fun ls hl => ?_)
          refine lv_aload_n hx hb dX8_setCalendar_119 rfl (lv_at hl 3 rfl) ?_
          refine kg_X8_history X w dX8_setCalendar_120 ?_
          refine lv_aload_n hx hb dX8_setCalendar_123 rfl (lv_at hl 3 rfl) ?_
          refine kg_X8_state X w dX8_setCalendar_124 ?_
          refine kk_cU X w (c_X3_keep l D t b (n + 1 + 2) S1 A_69 B_42 P pm h_p (by rw [hk69 19 (by decide)]; exact h_n) 0 (by decide) hok1) v_X8_142 (rc := 13) rfl rfl rfl ⟨Nat.le_of_ble_eq_true rfl, Nat.le_of_ble_eq_true rfl⟩ rfl hl.1 (Nat.le_of_ble_eq_true rfl) dX8_setCalendar_127 ⟨Nat.le_of_ble_eq_true rfl, Nat.le_of_ble_eq_true rfl⟩ (fun A_127 P_127 H locs z_127 w => ?_)
          refine lv_aload_n hx hb dX8_setCalendar_130 rfl (lv_at hl 3 rfl) ?_
          refine kg_X8_state X w dX8_setCalendar_131 ?_
          refine lv_iload_n hx hb dX8_setCalendar_134 rfl (lv_at hl 4 rfl) ?_
          refine lv_aload hx hb dX8_setCalendar_135 (lv_at hl 0 rfl) ?_
          obtain ⟨pm', kp1, kp2, kp3, kp4, kp5, kp6⟩ := id z_127
          refine kk_cU X w (c_X6_setCalendarAt l D t b (n + 1 + 2) S1 A_127 B_42 P_127 0 (by decide) a_ca ca e_ca (by have := h_0.1; omega) n _ ⟨hn106, hCP.1⟩) v_X8_92 (rc := 7) rfl rfl rfl ⟨Nat.le_of_ble_eq_true rfl, Nat.le_of_ble_eq_true rfl⟩ rfl hl.1 (Nat.le_of_ble_eq_true rfl) dX8_setCalendar_137 ⟨Nat.le_of_ble_eq_true rfl, Nat.le_of_ble_eq_true rfl⟩ (fun A_137 P_137 H locs z_137 w => ?_)
          refine lv_aload hx hb dX8_setCalendar_140 (lv_at hl 0 rfl) ?_
          have hcp := hCP.cS (A := A_137) (B := B_42) (P := P_137) ⟨hn106, by omega, by omega⟩
          refine q_cPV X w (c_X0_commonMonths l D t b (n + 1 + 2) _ n (n + 1) (n + 1 + 1) K fl fc _ hcp) v_X8_146 (k := n) hcp.1 rfl rfl ⟨Nat.le_of_ble_eq_true rfl, Nat.le_of_ble_eq_true rfl⟩ rfl hl.1 (Nat.le_of_ble_eq_true rfl) dX8_setCalendar_142 ⟨Nat.le_of_ble_eq_true rfl, Nat.le_of_ble_eq_true rfl⟩ (fun r_142 z_142 => ?_)
          refine vx_ret ?_
          refine W.widen (k := 3) (n := 1030) (Nat.le_of_ble_eq_true rfl) (Nat.le_of_ble_eq_true rfl) ?_
          exact q_cret (post := fun z n1 σ1 => (if (0 ≤ ca ∧ ca ≤ (if (A 20).toInt < 6 then (A 20).toInt else 5)) then (if (sCal T (A 2).toInt).1 = true then (if possB (rowQ (sCal T (A 2).toInt).2.2.1) (sCal T (A 2).toInt).2.2.2 = true then (0 : Int) else 3) else 2) else 1) = 0 ∧ n1 = n + 3 ∧ ∃ (S1 : qM) (A1 : Nat → Int32) (B1 : Nat → Nat → Int32) (P1 : Nat → Nat → Option Nat), σ1 = cS t b S1 A1 B1 P1 ∧ (∀ k, k < n → S1 k = σ0 k) ∧ 41 < n ∧ (∃ K fl fc, CalP t b S1 n (n + 1) (n + 2) K fl fc (rowQ (sCal T (A 2).toInt).2.2.1)) ∧ kpR [1, 2, 3] B B1 ∧ (∃ (A0 A2 : Nat → Int32) (P2 : Nat → Nat → Option Nat) (v : Int32), kpI [1, 2, 3, 4, 5, 6, 7, 8, 9, 10, 11, 12, 13, 14, 15, 16, 17, 18] A A0 ∧ (A0 1).toInt = -1 ∧ (A0 2).toInt = 0 ∧ keP A0 P pm 0 A2 P2 ∧ A1 = va_up A2 20 v ∧ v.toInt = (if (A 20).toInt < ca + 1 then ca + 1 else (A 20).toInt) ∧ P1 = va_up P2 1 (va_up (P2 1) ca.toNat (some n))) ∧ z.toInt = rv (rowQ (sCal T (A 2).toInt).2.2.1) 0 ∧ 0 ≤ ca ∧ ca < 6) X w dX8_setCalendar_145 rfl (by obtain ⟨⟨v20, ev, hv⟩, eP⟩ := z_137; have e20 : (A_127 20).toInt = (A 20).toInt := congrArg Int32.toInt ((kp2 20 (by omega) (by omega)).trans (hk69 20 (by decide))); refine ⟨by rw [if_pos k_18, if_pos k_48, if_pos (possB_iff.mpr hpr)], rfl, S1, A_137, B_42, P_137, rfl, hex, hn106, ⟨K, fl, fc, hCP⟩, z_42.2.1, ⟨A_69, A_127, P_127, v20, hk69, by rw [hf69]; rfl, by rw [z_69]; rfl, z_127, ev, ?_, eP⟩, z_142, by have := h_0.1; omega⟩; rw [hv]; show (if (A_127 20).toInt < ca + 1 then ca + 1 else (A_127 20).toInt) = _; rw [e20])
        · skip
          rw [z_90] at c_93
          have k_93 := bI_f.mp c_93
          exact x_thr_is hl0 X hE hno w (is := 140) (text := "the text is not possible") (by decide +kernel) hl.1 dX8_setCalendar_96 dX8_setCalendar_99 dX8_setCalendar_100 dX8_setCalendar_102 dX8_setCalendar_105 ⟨Nat.le_of_ble_eq_true rfl, Nat.le_of_ble_eq_true rfl⟩ (Nat.le_of_ble_eq_true rfl) ⟨Nat.le_of_ble_eq_true rfl, Nat.le_of_ble_eq_true rfl⟩ ⟨Nat.le_of_ble_eq_true rfl, Nat.le_of_ble_eq_true rfl⟩ (fun _ => ⟨A_69, B_42, rfl, hk69, z_42.2.1, by rw [z_69]; rfl, by rw [hf69, if_pos k_18, if_pos k_48]; rfl, Or.inr (Or.inr ⟨rfl, by rw [if_pos k_18, if_pos k_48, if_neg (fun y => k_93 (hps.mpr (possB_iff.mp y)))]⟩)⟩)
      · skip
        rw [z_42.2.2.1] at c_73
        have k_73 := bI_f.mp c_73
        exact absurd k_48 k_73
  · skip
    rw [z_15] at c_18
    have k_18 := bI_f.mp c_18
    refine lv_aload_n hx hb dX8_setCalendar_21 rfl (lv_at hl 1 rfl) ?_
    refine kg_X8_text X w dX8_setCalendar_22 ?_
    refine kk_cVI X w (c_X7_clear l D t b n σ0 A B P ) v_X8_96 rfl rfl rfl ⟨Nat.le_of_ble_eq_true rfl, Nat.le_of_ble_eq_true rfl⟩ rfl hl.1 (Nat.le_of_ble_eq_true rfl) dX8_setCalendar_25 ⟨Nat.le_of_ble_eq_true rfl, Nat.le_of_ble_eq_true rfl⟩ (fun A_25 H locs z_25 w => ?_)
    exact x_thr_io hl0 X hE hno w (is := 126) (text := "no such number for a calendar") (by decide +kernel) hl.1 dX8_setCalendar_28 dX8_setCalendar_31 dX8_setCalendar_32 dX8_setCalendar_34 dX8_setCalendar_37 ⟨Nat.le_of_ble_eq_true rfl, Nat.le_of_ble_eq_true rfl⟩ (Nat.le_of_ble_eq_true rfl) ⟨Nat.le_of_ble_eq_true rfl, Nat.le_of_ble_eq_true rfl⟩ ⟨Nat.le_of_ble_eq_true rfl, Nat.le_of_ble_eq_true rfl⟩ (fun _ => ⟨A_25, B, rfl, by rw [z_25]; exact kpI.up kpI.rf (by decide), kpR.rf, by rw [z_25]; rfl, by rw [z_25, if_neg k_18]; rfl, Or.inl ⟨rfl, if_neg k_18⟩⟩)
