/-- whether a year begins on the first day of a year of another calendar, as the class looks for it -/
theorem nyc_at {ρ τ : Row} (h : okRow τ) {i y : Int} (h0 : -2000 ≤ y ∧ y ≤ 2000) (h1 : y = -2000 ∨ fst τ (y - 1) < fst ρ i) (h2 : y = 2000 ∨ fst ρ i ≤ fst τ y) : nyc ρ τ i = if fst τ y = fst ρ i then 1 else 0 := by
  by_cases c : fst τ y = fst ρ i
  · have e : yof τ (fst ρ i) = y := by
      have l := fst_lt h y
      exact yof_eq h (by omega) (by omega) (Or.inr (by omega)) (Or.inr (by omega))
    unfold nyc
    rw [if_pos c, e, if_pos ⟨h0, c⟩]
  · unfold nyc
    rw [if_neg c, if_neg ?_]
    rintro ⟨k0, k1⟩
    generalize yof τ (fst ρ i) = z at k0 k1
    by_cases q : z < y
    · have m := fst_mono h (show z ≤ y - 1 by omega)
      rcases h1 with h1 | h1 <;> omega
    · have m := fst_mono h (show y ≤ z by omega)
      by_cases q2 : z = y
      · subst q2
        exact c k1
      · rcases h2 with h2 | h2 <;> omega

set_option maxHeartbeats 2000000 in
set_option maxRecDepth 100000 in
theorem c_X8_newYears (l : Launch) (D : va_G) (t : Nat → ClassId) (b n : Nat) (σ0 : qM) (A : Nat → Int32) (B : Nat → Nat → Int32) (P : Nat → Nat → Option Nat) (hl0 : l.stackTraces = false) (rw_ : Int → Row) (fe : Int → Int → Int32) (hQ : stQ t b σ0 A P 0 rw_ fe) (a_ca : Int32) (ca : Int) (e_ca : a_ca.toInt = ca) (a_co : Int32) (co : Int) (e_co : a_co.toInt = co) (a_fr : Int32) (fr : Int) (e_fr : a_fr.toInt = fr) (a_to : Int32) (to : Int) (e_to : a_to.toInt = to) : xC l yX8_newYears cX8_newYears 12 (some .int) 7 3 18 D t b n (cS t b σ0 A B P) [.ref (b + 0), .int a_ca, .int a_co, .int a_fr, .int a_to] (fun z n1 σ1 => n1 = n ∧ σ1 = cS t b σ0 A B P ∧ cd2 ((0 ≤ ca ∧ ca < (A 20).toInt) ∧ 0 ≤ co ∧ co < (A 20).toInt) ((-2000 ≤ fr ∧ fr ≤ 2000) ∧ fr ≤ to ∧ to ≤ 2000) = 0 ∧ z.toInt = nyN (rw_ ca) (rw_ co) fr (to + 1 - fr).toNat) (fun E n1 σ1 => σ1 = cS t b σ0 A B P ∧ xE E = cd2 ((0 ≤ ca ∧ ca < (A 20).toInt) ∧ 0 ≤ co ∧ co < (A 20).toInt) ((-2000 ≤ fr ∧ fr ≤ 2000) ∧ fr ≤ to ∧ to ≤ 2000)) := by
  refine xC.of (by decide +kernel) (Nat.le_of_ble_eq_true rfl) (fun p e s m args below meth c X hE hno w ls hl => ?_)
  have hx := X.1
  have hb := X.2.1
  have hl : lv_has ls 12 [(0, .ref (b + 0)), (1, .int a_ca), (2, .int a_co), (3, .int a_fr), (4, .int a_to)] := hl
  have hnn := hQ.1
  refine lv_aload_n hx hb dX8_newYears_0 rfl (lv_at hl 0 rfl) ?_
  refine lv_iload_n hx hb dX8_newYears_1 rfl (lv_at hl 1 rfl) ?_
  refine x_cAV X hE hno w (c_X8_existing l D t b n σ0 A B P hl0 hQ.ok a_ca ca e_ca) v_X8_149 (k := 0) rfl rfl rfl ⟨Nat.le_of_ble_eq_true rfl, Nat.le_of_ble_eq_true rfl⟩ rfl hl.1 (Nat.le_of_ble_eq_true rfl) dX8_newYears_2 ⟨Nat.le_of_ble_eq_true rfl, Nat.le_of_ble_eq_true rfl⟩ ⟨Nat.le_of_ble_eq_true rfl, Nat.le_of_ble_eq_true rfl⟩ (fun E n1 σ1 hz => ⟨hz.2.1, by rw [hz.1]; exact xE_io.trans (cd2_1 (fun q => hz.2.2 q.1)).symm⟩) (fun o_2 n_2 σ_2 H locs z_2 w => ?_)
  obtain ⟨en_2, es_2, eo_2, hin_2⟩ := z_2
  rw [en_2, es_2] at w
  obtain ⟨q_2, L_2, C_2, K_2, fl_2, fc_2, eq_2, hbc_2, hcp_2⟩ := hQ.2.1 ca hin_2.1 hin_2.2
  have hcp_2 := hcp_2.cS (A := A) (B := B) (P := P) hbc_2
  have eo_2 : o_2 = some q_2 := eo_2.trans eq_2
  subst eo_2
  have hok_2 : okRow (rw_ ca) := hcp_2.2.2.2.1
  refine lv_astore (lv' := [(5, .ref (b + q_2)), (0, .ref (b + 0)), (1, .int a_ca), (2, .int a_co), (3, .int a_fr), (4, .int a_to)]) hx hb dX8_newYears_5 hl (by decide) rfl (fun ls hl => ?_)
  refine lv_aload_n hx hb dX8_newYears_7 rfl (lv_at hl 1 rfl) ?_
  refine lv_iload_n hx hb dX8_newYears_8 rfl (lv_at hl 3 rfl) ?_
  refine x_cAV X hE hno w (c_X8_existing l D t b n σ0 A B P hl0 hQ.ok a_co co e_co) v_X8_149 (k := 0) rfl rfl rfl ⟨Nat.le_of_ble_eq_true rfl, Nat.le_of_ble_eq_true rfl⟩ rfl hl.1 (Nat.le_of_ble_eq_true rfl) dX8_newYears_9 ⟨Nat.le_of_ble_eq_true rfl, Nat.le_of_ble_eq_true rfl⟩ ⟨Nat.le_of_ble_eq_true rfl, Nat.le_of_ble_eq_true rfl⟩ (fun E n1 σ1 hz => ⟨hz.2.1, by rw [hz.1]; exact xE_io.trans (cd2_1 (fun q => hz.2.2 q.2)).symm⟩) (fun o_9 n_9 σ_9 H locs z_9 w => ?_)
  obtain ⟨en_9, es_9, eo_9, hin_9⟩ := z_9
  rw [en_9, es_9] at w
  obtain ⟨q_9, L_9, C_9, K_9, fl_9, fc_9, eq_9, hbc_9, hcp_9⟩ := hQ.2.1 co hin_9.1 hin_9.2
  have hcp_9 := hcp_9.cS (A := A) (B := B) (P := P) hbc_9
  have eo_9 : o_9 = some q_9 := eo_9.trans eq_9
  subst eo_9
  have hok_9 : okRow (rw_ co) := hcp_9.2.2.2.1
  refine lv_astore (lv' := [(6, .ref (b + q_9)), (5, .ref (b + q_2)), (0, .ref (b + 0)), (1, .int a_ca), (2, .int a_co), (3, .int a_fr), (4, .int a_to)]) hx hb dX8_newYears_12 hl (by decide) rfl (fun ls hl => ?_)
  refine lv_iload_n hx hb dX8_newYears_14 rfl (lv_at hl 5 rfl) ?_
  refine q_cPS X w (c_X8_isYear l a_fr fr e_fr D t b n (cS t b σ0 A B P)) v_X8_157 rfl ⟨Nat.le_of_ble_eq_true rfl, Nat.le_of_ble_eq_true rfl⟩ rfl hl.1 (Nat.le_of_ble_eq_true rfl) dX8_newYears_15 ⟨Nat.le_of_ble_eq_true rfl, Nat.le_of_ble_eq_true rfl⟩ (fun r_15 z_15 => ?_)
  refine lv_if_eq (tgt := 39) hx hb dX8_newYears_18 (by decide) (fun c_18 => ?_) (fun c_18 => ?_)
  · skip
    rw [z_15] at c_18
    have k_18 := bI_f.mp c_18
    refine lv_iconst (v := 0) hx hb dX8_newYears_39 (by decide) ?_
    refine x_cVS X hE hno w (c_X8_demand l D t b n σ0 A B P hl0 0) v_X8_103 rfl ⟨Nat.le_of_ble_eq_true rfl, Nat.le_of_ble_eq_true rfl⟩ rfl hl.1 (Nat.le_of_ble_eq_true rfl) dX8_newYears_40 ⟨Nat.le_of_ble_eq_true rfl, Nat.le_of_ble_eq_true rfl⟩ ⟨Nat.le_of_ble_eq_true rfl, Nat.le_of_ble_eq_true rfl⟩ (fun E n1 σ1 hz => ⟨hz.2.1, by rw [hz.1]; exact xE_ia.trans (cd2_2 ⟨hin_2, hin_9⟩ (by omega)).symm⟩) (fun n_40 σ_40 H locs z_40 w => ?_)
    exact absurd rfl z_40.2.2
  · skip
    rw [z_15] at c_18
    have k_18 := bI_t.mp c_18
    refine lv_iload hx hb dX8_newYears_21 (lv_at hl 6 rfl) ?_
    refine q_cPS X w (c_X8_isYear l a_to to e_to D t b n (cS t b σ0 A B P)) v_X8_157 rfl ⟨Nat.le_of_ble_eq_true rfl, Nat.le_of_ble_eq_true rfl⟩ rfl hl.1 (Nat.le_of_ble_eq_true rfl) dX8_newYears_23 ⟨Nat.le_of_ble_eq_true rfl, Nat.le_of_ble_eq_true rfl⟩ (fun r_23 z_23 => ?_)
    refine lv_if_eq (tgt := 39) hx hb dX8_newYears_26 (by decide) (fun c_26 => ?_) (fun c_26 => ?_)
    · skip
      rw [z_23] at c_26
      have k_26 := bI_f.mp c_26
      refine lv_iconst (v := 0) hx hb dX8_newYears_39 (by decide) ?_
      refine x_cVS X hE hno w (c_X8_demand l D t b n σ0 A B P hl0 0) v_X8_103 rfl ⟨Nat.le_of_ble_eq_true rfl, Nat.le_of_ble_eq_true rfl⟩ rfl hl.1 (Nat.le_of_ble_eq_true rfl) dX8_newYears_40 ⟨Nat.le_of_ble_eq_true rfl, Nat.le_of_ble_eq_true rfl⟩ ⟨Nat.le_of_ble_eq_true rfl, Nat.le_of_ble_eq_true rfl⟩ (fun E n1 σ1 hz => ⟨hz.2.1, by rw [hz.1]; exact xE_ia.trans (cd2_2 ⟨hin_2, hin_9⟩ (by omega)).symm⟩) (fun n_40 σ_40 H locs z_40 w => ?_)
      exact absurd rfl z_40.2.2
    · skip
      rw [z_23] at c_26
      have k_26 := bI_t.mp c_26
      refine lv_iload_n hx hb dX8_newYears_29 rfl (lv_at hl 5 rfl) ?_
      refine lv_iload hx hb dX8_newYears_30 (lv_at hl 6 rfl) ?_
      refine lv_icmp_gt (tgt := 39) hx hb dX8_newYears_32 (by decide) (fun c_32 => ?_) (fun c_32 => ?_)
      · skip
        have k_32 : to < fr := (g_lt e_to e_fr).mp c_32
        refine lv_iconst (v := 0) hx hb dX8_newYears_39 (by decide) ?_
        refine x_cVS X hE hno w (c_X8_demand l D t b n σ0 A B P hl0 0) v_X8_103 rfl ⟨Nat.le_of_ble_eq_true rfl, Nat.le_of_ble_eq_true rfl⟩ rfl hl.1 (Nat.le_of_ble_eq_true rfl) dX8_newYears_40 ⟨Nat.le_of_ble_eq_true rfl, Nat.le_of_ble_eq_true rfl⟩ ⟨Nat.le_of_ble_eq_true rfl, Nat.le_of_ble_eq_true rfl⟩ (fun E n1 σ1 hz => ⟨hz.2.1, by rw [hz.1]; exact xE_ia.trans (cd2_2 ⟨hin_2, hin_9⟩ (by omega)).symm⟩) (fun n_40 σ_40 H locs z_40 w => ?_)
        exact absurd rfl z_40.2.2
      · skip
        have k_32 : ¬ (to < fr) := fun h => c_32 ((g_lt e_to e_fr).mpr h)
        refine lv_iconst (v := 1) hx hb dX8_newYears_35 (by decide) ?_
        refine lv_goto (tgt := 40) hx hb dX8_newYears_36 (by decide) ?_
        refine x_cVS X hE hno w (c_X8_demand l D t b n σ0 A B P hl0 1) v_X8_103 rfl ⟨Nat.le_of_ble_eq_true rfl, Nat.le_of_ble_eq_true rfl⟩ rfl hl.1 (Nat.le_of_ble_eq_true rfl) dX8_newYears_40 ⟨Nat.le_of_ble_eq_true rfl, Nat.le_of_ble_eq_true rfl⟩ ⟨Nat.le_of_ble_eq_true rfl, Nat.le_of_ble_eq_true rfl⟩ (fun E n1 σ1 hz => absurd hz.2.2 (by decide)) (fun n_40 σ_40 H locs z_40 w => ?_)
        rw [z_40.1, z_40.2.1] at w
        refine lv_iconst (v := 0) hx hb dX8_newYears_43 (by decide) ?_
        refine lv_istore (lv' := [(7, .int 0), (6, .ref (b + q_9)), (5, .ref (b + q_2)), (0, .ref (b + 0)), (1, .int a_ca), (2, .int a_co), (3, .int a_fr), (4, .int a_to)]) hx hb dX8_newYears_44 hl (by decide) rfl (fun ls hl => ?_)
        refine lv_aload hx hb dX8_newYears_46 (lv_at hl 2 rfl) ?_
        refine lv_iload_n hx hb dX8_newYears_48 rfl (lv_at hl 6 rfl) ?_
        refine q_cPV X w (c_X0_startOfYear l D t b n _ q_2 L_2 C_2 K_2 fl_2 fc_2 _ hcp_2 a_fr fr e_fr (by omega)) v_X8_180 (k := q_2) hcp_2.1 rfl rfl ⟨Nat.le_of_ble_eq_true rfl, Nat.le_of_ble_eq_true rfl⟩ rfl hl.1 (Nat.le_of_ble_eq_true rfl) dX8_newYears_49 ⟨Nat.le_of_ble_eq_true rfl, Nat.le_of_ble_eq_true rfl⟩ (fun r_49 z_49 => ?_)
        refine lv_istore (lv' := [(8, .int r_49), (7, .int 0), (6, .ref (b + q_9)), (5, .ref (b + q_2)), (0, .ref (b + 0)), (1, .int a_ca), (2, .int a_co), (3, .int a_fr), (4, .int a_to)]) hx hb dX8_newYears_52 hl (by decide) rfl (fun ls hl => ?_)
        refine lv_sipush (v := (-2000)) hx hb dX8_newYears_54 (by decide) ?_
        refine lv_istore (lv' := [(9, .int (-2000)), (8, .int r_49), (7, .int 0), (6, .ref (b + q_9)), (5, .ref (b + q_2)), (0, .ref (b + 0)), (1, .int a_ca), (2, .int a_co), (3, .int a_fr), (4, .int a_to)]) hx hb dX8_newYears_57 hl (by decide) rfl (fun ls hl => ?_)
        refine lv_aload hx hb dX8_newYears_59 (lv_at hl 3 rfl) ?_
        refine lv_iload hx hb dX8_newYears_61 (lv_at hl 0 rfl) ?_
        refine q_cPV X w (c_X0_startOfYear l D t b n _ q_9 L_9 C_9 K_9 fl_9 fc_9 _ hcp_9 (-2000) (-2000) (show ((-2000) : Int32).toInt = (-2000) from rfl) (by omega)) v_X8_180 (k := q_9) hcp_9.1 rfl rfl ⟨Nat.le_of_ble_eq_true rfl, Nat.le_of_ble_eq_true rfl⟩ rfl hl.1 (Nat.le_of_ble_eq_true rfl) dX8_newYears_63 ⟨Nat.le_of_ble_eq_true rfl, Nat.le_of_ble_eq_true rfl⟩ (fun r_63 z_63 => ?_)
        obtain ⟨t0, ht0⟩ : ∃ z : Int, z = fst (rw_ co) (-2000) := ⟨_, rfl⟩
        have z_63t : r_63.toInt = t0 := z_63.trans ht0.symm
        refine lv_istore (lv' := [(10, .int r_63), (9, .int (-2000)), (8, .int r_49), (7, .int 0), (6, .ref (b + q_9)), (5, .ref (b + q_2)), (0, .ref (b + 0)), (1, .int a_ca), (2, .int a_co), (3, .int a_fr), (4, .int a_to)]) hx hb dX8_newYears_66 hl (by decide) rfl (fun ls hl => ?_)
        refine lv_iload_n hx hb dX8_newYears_68 rfl (lv_at hl 9 rfl) ?_
        refine lv_istore (lv' := [(11, .int a_fr), (10, .int r_63), (9, .int (-2000)), (8, .int r_49), (7, .int 0), (6, .ref (b + q_9)), (5, .ref (b + q_2)), (0, .ref (b + 0)), (1, .int a_ca), (2, .int a_co), (3, .int a_fr), (4, .int a_to)]) hx hb dX8_newYears_69 hl (by decide) rfl (fun ls hl => ?_)
        refine q_loop (α := Int32 × Int32 × Int32 × Int32 × Int32 × Int × Int × Int × Int × Int) (fun a => a.1.toInt = a.2.2.2.2.2.1 ∧ a.2.1.toInt = a.2.2.2.2.2.2.1 ∧ a.2.2.1.toInt = a.2.2.2.2.2.2.2.1 ∧ a.2.2.2.1.toInt = a.2.2.2.2.2.2.2.2.1 ∧ a.2.2.2.2.1.toInt = a.2.2.2.2.2.2.2.2.2 ∧ (((fr ≤ a.2.2.2.2.2.2.2.2.2 ∧ a.2.2.2.2.2.2.2.2.2 ≤ to + 1) ∧ (-2000 ≤ a.2.2.2.2.2.2.2.1 ∧ a.2.2.2.2.2.2.2.1 ≤ 2000)) ∧ a.2.2.2.2.2.2.1 = fst (rw_ ca) a.2.2.2.2.2.2.2.2.2 ∧ a.2.2.2.2.2.2.2.2.1 = fst (rw_ co) a.2.2.2.2.2.2.2.1 ∧ a.2.2.2.2.2.1 = nyN (rw_ ca) (rw_ co) fr (a.2.2.2.2.2.2.2.2.2 - fr).toNat ∧ (a.2.2.2.2.2.2.2.1 = -2000 ∨ fst (rw_ co) (a.2.2.2.2.2.2.2.1 - 1) < fst (rw_ ca) a.2.2.2.2.2.2.2.2.2))) (fun a => (to + 1 - a.2.2.2.2.2.2.2.2.2).toNat) (fun a => ∀ ls : Array Slot, lv_has ls 12 [(11, .int a.2.2.2.2.1), (10, .int a.2.2.2.1), (9, .int a.2.2.1), (8, .int a.2.1), (7, .int a.1), (6, .ref (b + q_9)), (5, .ref (b + q_2)), (0, .ref (b + 0)), (1, .int a_ca), (2, .int a_co), (3, .int a_fr), (4, .int a_to)] → W p l e (qR 7 3 18) s m args below meth c H locs 3 18 (vx_MQ below (va_Qi (S := Nat × qM) (fun z z7 => (fun z n1 σ1 => n1 = n ∧ σ1 = cS t b σ0 A B P ∧ cd2 ((0 ≤ ca ∧ ca < (A 20).toInt) ∧ 0 ≤ co ∧ co < (A 20).toInt) ((-2000 ≤ fr ∧ fr ≤ 2000) ∧ fr ≤ to ∧ to ≤ 2000) = 0 ∧ z.toInt = nyN (rw_ ca) (rw_ co) fr (to + 1 - fr).toNat) z z7.1 z7.2) (fun z7 T => WB D b z7.1 z7.2 T.heap) (fun q => b ≤ q)) (xX D b (fun E n1 σ1 => σ1 = cS t b σ0 A B P ∧ xE E = cd2 ((0 ≤ ca ∧ ca < (A 20).toInt) ∧ 0 ≤ co ∧ co < (A 20).toInt) ((-2000 ≤ fr ∧ fr ≤ 2000) ∧ fr ≤ to ∧ to ≤ 2000))) args s 3 18 (fun q => b ≤ q)) (F0 m 71 ls [])) ?_ ⟨0, r_49, (-2000), r_63, a_fr, 0, fst (rw_ ca) fr, (-2000), t0, fr⟩ ⟨(show (0 : Int32).toInt = 0 from rfl), z_49, (show ((-2000) : Int32).toInt = (-2000) from rfl), z_63t, e_fr, by dsimp only; exact ⟨by omega, rfl, ht0, (by rw [Int.sub_self]; rfl), Or.inl rfl⟩⟩ ls (lv_sub hl [0, 1, 2, 3, 4, 5, 6, 7, 8, 9, 10, 11] rfl)
        rintro ⟨v_ct, v_sa, v_yr, v_ts, v_i, ct, sa, yr, ts, i⟩ ⟨q_ct, q_sa, q_yr, q_ts, q_i, inv_71⟩ ih_71 ls hl
        dsimp only at q_ct q_sa q_yr q_ts q_i inv_71 hl
        have hba := fst_bd hok_2 (y := i) (by omega) (by omega)
        have hla := hok_2.yl i
        have hnb := nyN_bd (rw_ ca) (rw_ co) fr (i - fr).toNat
        refine lv_iload hx hb dX8_newYears_71 (lv_at hl 0 rfl) ?_
        refine lv_iload hx hb dX8_newYears_73 (lv_at hl 11 rfl) ?_
        refine lv_icmp_gt (tgt := 139) hx hb dX8_newYears_75 (by decide) (fun c_75 => ?_) (fun c_75 => ?_)
        · skip
          have k_75 : to < i := (g_lt e_to q_i).mp c_75
          refine lv_iload hx hb dX8_newYears_139 (lv_at hl 4 rfl) ?_
          refine vx_ret ?_
          refine W.widen (k := 3) (n := 18) (Nat.le_of_ble_eq_true rfl) (Nat.le_of_ble_eq_true rfl) ?_
          exact q_cret (post := fun z n1 σ1 => n1 = n ∧ σ1 = cS t b σ0 A B P ∧ cd2 ((0 ≤ ca ∧ ca < (A 20).toInt) ∧ 0 ≤ co ∧ co < (A 20).toInt) ((-2000 ≤ fr ∧ fr ≤ 2000) ∧ fr ≤ to ∧ to ≤ 2000) = 0 ∧ z.toInt = nyN (rw_ ca) (rw_ co) fr (to + 1 - fr).toNat) X w dX8_newYears_141 rfl ⟨rfl, rfl, cd2_0 ⟨hin_2, hin_9⟩ (by omega), (q_ct).trans (by rw [inv_71.2.2.2.1, show i = to + 1 by omega])⟩
        · skip
          have k_75 : ¬ (to < i) := fun h => c_75 ((g_lt e_to q_i).mpr h)
          refine q_loop (α := Int32 × Int32 × Int × Int) (fun a => a.1.toInt = a.2.2.1 ∧ a.2.1.toInt = a.2.2.2 ∧ ((-2000 ≤ a.2.2.1 ∧ a.2.2.1 ≤ 2000) ∧ a.2.2.2 = fst (rw_ co) a.2.2.1 ∧ (a.2.2.1 = -2000 ∨ fst (rw_ co) (a.2.2.1 - 1) < fst (rw_ ca) i))) (fun a => (2000 - a.2.2.1).toNat) (fun a => ∀ ls : Array Slot, lv_has ls 12 [(11, .int v_i), (10, .int a.2.1), (9, .int a.1), (8, .int v_sa), (7, .int v_ct), (6, .ref (b + q_9)), (5, .ref (b + q_2)), (0, .ref (b + 0)), (1, .int a_ca), (2, .int a_co), (3, .int a_fr), (4, .int a_to)] → W p l e (qR 7 3 18) s m args below meth c H locs 3 18 (vx_MQ below (va_Qi (S := Nat × qM) (fun z z7 => (fun z n1 σ1 => n1 = n ∧ σ1 = cS t b σ0 A B P ∧ cd2 ((0 ≤ ca ∧ ca < (A 20).toInt) ∧ 0 ≤ co ∧ co < (A 20).toInt) ((-2000 ≤ fr ∧ fr ≤ 2000) ∧ fr ≤ to ∧ to ≤ 2000) = 0 ∧ z.toInt = nyN (rw_ ca) (rw_ co) fr (to + 1 - fr).toNat) z z7.1 z7.2) (fun z7 T => WB D b z7.1 z7.2 T.heap) (fun q => b ≤ q)) (xX D b (fun E n1 σ1 => σ1 = cS t b σ0 A B P ∧ xE E = cd2 ((0 ≤ ca ∧ ca < (A 20).toInt) ∧ 0 ≤ co ∧ co < (A 20).toInt) ((-2000 ≤ fr ∧ fr ≤ 2000) ∧ fr ≤ to ∧ to ≤ 2000))) args s 3 18 (fun q => b ≤ q)) (F0 m 78 ls [])) ?_ ⟨v_yr, v_ts, yr, ts⟩ ⟨q_yr, q_ts, by dsimp only; exact ⟨by omega, inv_71.2.2.1, inv_71.2.2.2.2⟩⟩ ls (lv_sub hl [0, 1, 2, 3, 4, 5, 6, 7, 8, 9, 10, 11] rfl)
          rintro ⟨v_yq, v_tq, yq, tq⟩ ⟨q_yq, q_tq, inv_78⟩ ih_78 ls hl
          dsimp only at q_yq q_tq inv_78 hl
          have hbb := fst_bd hok_9 (y := yq) (by omega) (by omega)
          have hlb := hok_9.yl yq
          refine lv_iload hx hb dX8_newYears_78 (lv_at hl 2 rfl) ?_
          refine lv_sipush (v := 2000) hx hb dX8_newYears_80 (by decide) ?_
          refine lv_icmp_ge (tgt := 111) hx hb dX8_newYears_83 (by decide) (fun c_83 => ?_) (fun c_83 => ?_)
          · skip
            have k_83 : 2000 ≤ yq := (g_le (show (2000 : Int32).toInt = 2000 from rfl) q_yq).mp c_83
            refine lv_iload hx hb dX8_newYears_111 (lv_at hl 1 rfl) ?_
            refine lv_iload hx hb dX8_newYears_113 (lv_at hl 3 rfl) ?_
            refine lv_icmp_ne (tgt := 121) hx hb dX8_newYears_115 (by decide) (fun c_115 => ?_) (fun c_115 => ?_)
            · skip
              have k_115 : ¬ (tq = sa) := fun h => c_115 ((g_eq q_tq q_sa).mpr h)
              refine lv_iload hx hb dX8_newYears_121 (lv_at hl 3 rfl) ?_
              refine lv_aload hx hb dX8_newYears_123 (lv_at hl 6 rfl) ?_
              refine lv_iload hx hb dX8_newYears_125 (lv_at hl 0 rfl) ?_
              refine q_cPV X w (c_X0_lengthOfYear l D t b n _ q_2 L_2 C_2 K_2 fl_2 fc_2 _ hcp_2 v_i i q_i ) v_X8_177 (k := q_2) hcp_2.1 rfl rfl ⟨Nat.le_of_ble_eq_true rfl, Nat.le_of_ble_eq_true rfl⟩ rfl hl.1 (Nat.le_of_ble_eq_true rfl) dX8_newYears_127 ⟨Nat.le_of_ble_eq_true rfl, Nat.le_of_ble_eq_true rfl⟩ (fun r_127 z_127 => ?_)
              refine lv_iadd hx hb dX8_newYears_130 ?_
              refine lv_topi (fun x_130 e_130 => ?_)
              have p_130 : x_130.toInt = (sa + (ylen (rw_ ca) i)) := by rw [e_130]; exact t_add q_sa z_127 (by omega) (by omega)
              refine lv_istore (lv' := [(8, .int x_130), (11, .int v_i), (10, .int v_tq), (9, .int v_yq), (7, .int v_ct), (6, .ref (b + q_9)), (5, .ref (b + q_2)), (0, .ref (b + 0)), (1, .int a_ca), (2, .int a_co), (3, .int a_fr), (4, .int a_to)]) hx hb dX8_newYears_131 hl (by decide) rfl (fun ls hl => ?_)
              obtain ⟨x_133, e_133⟩ : ∃ z : Int32, z = (v_i + 1) := ⟨_, rfl⟩
              have p_133 : x_133.toInt = (i + 1) := by rw [e_133]; exact t_add q_i (show (1 : Int32).toInt = 1 from rfl) (by omega) (by omega)
              refine lv_iinc (v := x_133) (lv' := [(11, .int x_133), (8, .int x_130), (10, .int v_tq), (9, .int v_yq), (7, .int v_ct), (6, .ref (b + q_9)), (5, .ref (b + q_2)), (0, .ref (b + 0)), (1, .int a_ca), (2, .int a_co), (3, .int a_fr), (4, .int a_to)]) hx hb dX8_newYears_133 hl (k := 1) rfl (by rw [e_133]; rfl) (by decide) rfl (fun ls hl => ?_)
              refine lv_goto (tgt := 71) hx hb dX8_newYears_136 (by decide) ?_
              refine ih_71 ⟨v_ct, x_130, v_yq, v_tq, x_133, ct, (sa + (ylen (rw_ ca) i)), yq, tq, (i + 1)⟩ ⟨q_ct, p_130, q_yq, q_tq, p_133, by dsimp only; exact ⟨by omega, by have e := fst_succ (rw_ ca) i; omega, inv_78.2.1, by rw [show i + 1 - fr = i + 1 - fr from rfl, nyN_s (by omega), nyc_at hok_9 inv_78.1 inv_78.2.2 (by omega), if_neg (by omega)]; omega, (by have l := fst_lt hok_2 i; omega)⟩⟩ (by dsimp only; omega) ls (lv_sub hl [0, 2, 3, 1, 4, 5, 6, 7, 8, 9, 10, 11] rfl)
            · skip
              have k_115 : tq = sa := (g_eq q_tq q_sa).mp c_115
              obtain ⟨x_118, e_118⟩ : ∃ z : Int32, z = (v_ct + 1) := ⟨_, rfl⟩
              have p_118 : x_118.toInt = (ct + 1) := by rw [e_118]; exact t_add q_ct (show (1 : Int32).toInt = 1 from rfl) (by omega) (by omega)
              refine lv_iinc (v := x_118) (lv' := [(7, .int x_118), (11, .int v_i), (10, .int v_tq), (9, .int v_yq), (8, .int v_sa), (6, .ref (b + q_9)), (5, .ref (b + q_2)), (0, .ref (b + 0)), (1, .int a_ca), (2, .int a_co), (3, .int a_fr), (4, .int a_to)]) hx hb dX8_newYears_118 hl (k := 4) rfl (by rw [e_118]; rfl) (by decide) rfl (fun ls hl => ?_)
              refine lv_iload hx hb dX8_newYears_121 (lv_at hl 4 rfl) ?_
              refine lv_aload hx hb dX8_newYears_123 (lv_at hl 6 rfl) ?_
              refine lv_iload hx hb dX8_newYears_125 (lv_at hl 1 rfl) ?_
              refine q_cPV X w (c_X0_lengthOfYear l D t b n _ q_2 L_2 C_2 K_2 fl_2 fc_2 _ hcp_2 v_i i q_i ) v_X8_177 (k := q_2) hcp_2.1 rfl rfl ⟨Nat.le_of_ble_eq_true rfl, Nat.le_of_ble_eq_true rfl⟩ rfl hl.1 (Nat.le_of_ble_eq_true rfl) dX8_newYears_127 ⟨Nat.le_of_ble_eq_true rfl, Nat.le_of_ble_eq_true rfl⟩ (fun r_127 z_127 => ?_)
              refine lv_iadd hx hb dX8_newYears_130 ?_
              refine lv_topi (fun x_130 e_130 => ?_)
              have p_130 : x_130.toInt = (sa + (ylen (rw_ ca) i)) := by rw [e_130]; exact t_add q_sa z_127 (by omega) (by omega)
              refine lv_istore (lv' := [(8, .int x_130), (7, .int x_118), (11, .int v_i), (10, .int v_tq), (9, .int v_yq), (6, .ref (b + q_9)), (5, .ref (b + q_2)), (0, .ref (b + 0)), (1, .int a_ca), (2, .int a_co), (3, .int a_fr), (4, .int a_to)]) hx hb dX8_newYears_131 hl (by decide) rfl (fun ls hl => ?_)
              obtain ⟨x_133, e_133⟩ : ∃ z : Int32, z = (v_i + 1) := ⟨_, rfl⟩
              have p_133 : x_133.toInt = (i + 1) := by rw [e_133]; exact t_add q_i (show (1 : Int32).toInt = 1 from rfl) (by omega) (by omega)
              refine lv_iinc (v := x_133) (lv' := [(11, .int x_133), (8, .int x_130), (7, .int x_118), (10, .int v_tq), (9, .int v_yq), (6, .ref (b + q_9)), (5, .ref (b + q_2)), (0, .ref (b + 0)), (1, .int a_ca), (2, .int a_co), (3, .int a_fr), (4, .int a_to)]) hx hb dX8_newYears_133 hl (k := 2) rfl (by rw [e_133]; rfl) (by decide) rfl (fun ls hl => ?_)
              refine lv_goto (tgt := 71) hx hb dX8_newYears_136 (by decide) ?_
              refine ih_71 ⟨x_118, x_130, v_yq, v_tq, x_133, (ct + 1), (sa + (ylen (rw_ ca) i)), yq, tq, (i + 1)⟩ ⟨p_118, p_130, q_yq, q_tq, p_133, by dsimp only; exact ⟨by omega, by have e := fst_succ (rw_ ca) i; omega, inv_78.2.1, by rw [show i + 1 - fr = i + 1 - fr from rfl, nyN_s (by omega), nyc_at hok_9 inv_78.1 inv_78.2.2 (by omega), if_pos (by omega)]; omega, (by have l := fst_lt hok_2 i; omega)⟩⟩ (by dsimp only; omega) ls (lv_sub hl [0, 3, 4, 1, 2, 5, 6, 7, 8, 9, 10, 11] rfl)
          · skip
            have k_83 : ¬ (2000 ≤ yq) := fun h => c_83 ((g_le (show (2000 : Int32).toInt = 2000 from rfl) q_yq).mpr h)
            refine lv_iload hx hb dX8_newYears_86 (lv_at hl 1 rfl) ?_
            refine lv_iload hx hb dX8_newYears_88 (lv_at hl 3 rfl) ?_
            refine lv_icmp_ge (tgt := 111) hx hb dX8_newYears_90 (by decide) (fun c_90 => ?_) (fun c_90 => ?_)
            · skip
              have k_90 : sa ≤ tq := (g_le q_sa q_tq).mp c_90
              refine lv_iload hx hb dX8_newYears_111 (lv_at hl 1 rfl) ?_
              refine lv_iload hx hb dX8_newYears_113 (lv_at hl 3 rfl) ?_
              refine lv_icmp_ne (tgt := 121) hx hb dX8_newYears_115 (by decide) (fun c_115 => ?_) (fun c_115 => ?_)
              · skip
                have k_115 : ¬ (tq = sa) := fun h => c_115 ((g_eq q_tq q_sa).mpr h)
                refine lv_iload hx hb dX8_newYears_121 (lv_at hl 3 rfl) ?_
                refine lv_aload hx hb dX8_newYears_123 (lv_at hl 6 rfl) ?_
                refine lv_iload hx hb dX8_newYears_125 (lv_at hl 0 rfl) ?_
                refine q_cPV X w (c_X0_lengthOfYear l D t b n _ q_2 L_2 C_2 K_2 fl_2 fc_2 _ hcp_2 v_i i q_i ) v_X8_177 (k := q_2) hcp_2.1 rfl rfl ⟨Nat.le_of_ble_eq_true rfl, Nat.le_of_ble_eq_true rfl⟩ rfl hl.1 (Nat.le_of_ble_eq_true rfl) dX8_newYears_127 ⟨Nat.le_of_ble_eq_true rfl, Nat.le_of_ble_eq_true rfl⟩ (fun r_127 z_127 => ?_)
                refine lv_iadd hx hb dX8_newYears_130 ?_
                refine lv_topi (fun x_130 e_130 => ?_)
                have p_130 : x_130.toInt = (sa + (ylen (rw_ ca) i)) := by rw [e_130]; exact t_add q_sa z_127 (by omega) (by omega)
                refine lv_istore (lv' := [(8, .int x_130), (11, .int v_i), (10, .int v_tq), (9, .int v_yq), (7, .int v_ct), (6, .ref (b + q_9)), (5, .ref (b + q_2)), (0, .ref (b + 0)), (1, .int a_ca), (2, .int a_co), (3, .int a_fr), (4, .int a_to)]) hx hb dX8_newYears_131 hl (by decide) rfl (fun ls hl => ?_)
                obtain ⟨x_133, e_133⟩ : ∃ z : Int32, z = (v_i + 1) := ⟨_, rfl⟩
                have p_133 : x_133.toInt = (i + 1) := by rw [e_133]; exact t_add q_i (show (1 : Int32).toInt = 1 from rfl) (by omega) (by omega)
                refine lv_iinc (v := x_133) (lv' := [(11, .int x_133), (8, .int x_130), (10, .int v_tq), (9, .int v_yq), (7, .int v_ct), (6, .ref (b + q_9)), (5, .ref (b + q_2)), (0, .ref (b + 0)), (1, .int a_ca), (2, .int a_co), (3, .int a_fr), (4, .int a_to)]) hx hb dX8_newYears_133 hl (k := 1) rfl (by rw [e_133]; rfl) (by decide) rfl (fun ls hl => ?_)
                refine lv_goto (tgt := 71) hx hb dX8_newYears_136 (by decide) ?_
                refine ih_71 ⟨v_ct, x_130, v_yq, v_tq, x_133, ct, (sa + (ylen (rw_ ca) i)), yq, tq, (i + 1)⟩ ⟨q_ct, p_130, q_yq, q_tq, p_133, by dsimp only; exact ⟨by omega, by have e := fst_succ (rw_ ca) i; omega, inv_78.2.1, by rw [show i + 1 - fr = i + 1 - fr from rfl, nyN_s (by omega), nyc_at hok_9 inv_78.1 inv_78.2.2 (by omega), if_neg (by omega)]; omega, (by have l := fst_lt hok_2 i; omega)⟩⟩ (by dsimp only; omega) ls (lv_sub hl [0, 2, 3, 1, 4, 5, 6, 7, 8, 9, 10, 11] rfl)
              · skip
                have k_115 : tq = sa := (g_eq q_tq q_sa).mp c_115
                obtain ⟨x_118, e_118⟩ : ∃ z : Int32, z = (v_ct + 1) := ⟨_, rfl⟩
                have p_118 : x_118.toInt = (ct + 1) := by rw [e_118]; exact t_add q_ct (show (1 : Int32).toInt = 1 from rfl) (by omega) (by omega)
                refine lv_iinc (v := x_118) (lv' := [(7, .int x_118), (11, .int v_i), (10, .int v_tq), (9, .int v_yq), (8, .int v_sa), (6, .ref (b + q_9)), (5, .ref (b + q_2)), (0, .ref (b + 0)), (1, .int a_ca), (2, .int a_co), (3, .int a_fr), (4, .int a_to)]) hx hb dX8_newYears_118 hl (k := 4) rfl (by rw [e_118]; rfl) (by decide) rfl (fun ls hl => ?_)
                refine lv_iload hx hb dX8_newYears_121 (lv_at hl 4 rfl) ?_
                refine lv_aload hx hb dX8_newYears_123 (lv_at hl 6 rfl) ?_
                refine lv_iload hx hb dX8_newYears_125 (lv_at hl 1 rfl) ?_
                refine q_cPV X w (c_X0_lengthOfYear l D t b n _ q_2 L_2 C_2 K_2 fl_2 fc_2 _ hcp_2 v_i i q_i ) v_X8_177 (k := q_2) hcp_2.1 rfl rfl ⟨Nat.le_of_ble_eq_true rfl, Nat.le_of_ble_eq_true rfl⟩ rfl hl.1 (Nat.le_of_ble_eq_true rfl) dX8_newYears_127 ⟨Nat.le_of_ble_eq_true rfl, Nat.le_of_ble_eq_true rfl⟩ (fun r_127 z_127 => ?_)
                refine lv_iadd hx hb dX8_newYears_130 ?_
                refine lv_topi (fun x_130 e_130 => ?_)
                have p_130 : x_130.toInt = (sa + (ylen (rw_ ca) i)) := by rw [e_130]; exact t_add q_sa z_127 (by omega) (by omega)
                refine lv_istore (lv' := [(8, .int x_130), (7, .int x_118), (11, .int v_i), (10, .int v_tq), (9, .int v_yq), (6, .ref (b + q_9)), (5, .ref (b + q_2)), (0, .ref (b + 0)), (1, .int a_ca), (2, .int a_co), (3, .int a_fr), (4, .int a_to)]) hx hb dX8_newYears_131 hl (by decide) rfl (fun ls hl => ?_)
                obtain ⟨x_133, e_133⟩ : ∃ z : Int32, z = (v_i + 1) := ⟨_, rfl⟩
                have p_133 : x_133.toInt = (i + 1) := by rw [e_133]; exact t_add q_i (show (1 : Int32).toInt = 1 from rfl) (by omega) (by omega)
                refine lv_iinc (v := x_133) (lv' := [(11, .int x_133), (8, .int x_130), (7, .int x_118), (10, .int v_tq), (9, .int v_yq), (6, .ref (b + q_9)), (5, .ref (b + q_2)), (0, .ref (b + 0)), (1, .int a_ca), (2, .int a_co), (3, .int a_fr), (4, .int a_to)]) hx hb dX8_newYears_133 hl (k := 2) rfl (by rw [e_133]; rfl) (by decide) rfl (fun ls hl => ?_)
                refine lv_goto (tgt := 71) hx hb dX8_newYears_136 (by decide) ?_
                refine ih_71 ⟨x_118, x_130, v_yq, v_tq, x_133, (ct + 1), (sa + (ylen (rw_ ca) i)), yq, tq, (i + 1)⟩ ⟨p_118, p_130, q_yq, q_tq, p_133, by dsimp only; exact ⟨by omega, by have e := fst_succ (rw_ ca) i; omega, inv_78.2.1, by rw [show i + 1 - fr = i + 1 - fr from rfl, nyN_s (by omega), nyc_at hok_9 inv_78.1 inv_78.2.2 (by omega), if_pos (by omega)]; omega, (by have l := fst_lt hok_2 i; omega)⟩⟩ (by dsimp only; omega) ls (lv_sub hl [0, 3, 4, 1, 2, 5, 6, 7, 8, 9, 10, 11] rfl)
            · skip
              have k_90 : ¬ (sa ≤ tq) := fun h => c_90 ((g_le q_sa q_tq).mpr h)
              refine lv_iload hx hb dX8_newYears_93 (lv_at hl 1 rfl) ?_
              refine lv_aload hx hb dX8_newYears_95 (lv_at hl 5 rfl) ?_
              refine lv_iload hx hb dX8_newYears_97 (lv_at hl 2 rfl) ?_
              refine q_cPV X w (c_X0_lengthOfYear l D t b n _ q_9 L_9 C_9 K_9 fl_9 fc_9 _ hcp_9 v_yq yq q_yq ) v_X8_177 (k := q_9) hcp_9.1 rfl rfl ⟨Nat.le_of_ble_eq_true rfl, Nat.le_of_ble_eq_true rfl⟩ rfl hl.1 (Nat.le_of_ble_eq_true rfl) dX8_newYears_99 ⟨Nat.le_of_ble_eq_true rfl, Nat.le_of_ble_eq_true rfl⟩ (fun r_99 z_99 => ?_)
              refine lv_iadd hx hb dX8_newYears_102 ?_
              refine lv_topi (fun x_102 e_102 => ?_)
              have p_102 : x_102.toInt = (tq + (ylen (rw_ co) yq)) := by rw [e_102]; exact t_add q_tq z_99 (by omega) (by omega)
              refine lv_istore (lv' := [(10, .int x_102), (11, .int v_i), (9, .int v_yq), (8, .int v_sa), (7, .int v_ct), (6, .ref (b + q_9)), (5, .ref (b + q_2)), (0, .ref (b + 0)), (1, .int a_ca), (2, .int a_co), (3, .int a_fr), (4, .int a_to)]) hx hb dX8_newYears_103 hl (by decide) rfl (fun ls hl => ?_)
              obtain ⟨x_105, e_105⟩ : ∃ z : Int32, z = (v_yq + 1) := ⟨_, rfl⟩
              have p_105 : x_105.toInt = (yq + 1) := by rw [e_105]; exact t_add q_yq (show (1 : Int32).toInt = 1 from rfl) (by omega) (by omega)
              refine lv_iinc (v := x_105) (lv' := [(9, .int x_105), (10, .int x_102), (11, .int v_i), (8, .int v_sa), (7, .int v_ct), (6, .ref (b + q_9)), (5, .ref (b + q_2)), (0, .ref (b + 0)), (1, .int a_ca), (2, .int a_co), (3, .int a_fr), (4, .int a_to)]) hx hb dX8_newYears_105 hl (k := 2) rfl (by rw [e_105]; rfl) (by decide) rfl (fun ls hl => ?_)
              refine lv_goto (tgt := 78) hx hb dX8_newYears_108 (by decide) ?_
              refine ih_78 ⟨x_105, x_102, (yq + 1), (tq + (ylen (rw_ co) yq))⟩ ⟨p_105, p_102, by dsimp only; exact ⟨by omega, by have e := fst_succ (rw_ co) yq; omega, Or.inr (by rw [show yq + 1 - 1 = yq by omega]; omega)⟩⟩ (by dsimp only; omega) ls (lv_sub hl [2, 1, 0, 3, 4, 5, 6, 7, 8, 9, 10, 11] rfl)
