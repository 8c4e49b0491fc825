/-- the day found by whole months is there -/
theorem spM_found {ρ : Row} (h : okRow ρ) {a b : Int} (a1 : fst ρ (-2000) ≤ a) (a2 : a < fst ρ 2001) (a3 : -999999 ≤ a ∧ a ≤ 999999) (b1 : fst ρ (-2000) ≤ b) (b2 : b < fst ρ 2001) (b3 : -999999 ≤ b ∧ b ≤ 999999) (hab : a ≤ b) : mlat ρ a (spM ρ a b) ≠ -2147483647 ∧ a ≤ mlat ρ a (spM ρ a b) ∧ mlat ρ a (spM ρ a b) ≤ b := by
  have hm := mcon_le h a1 a2 b1 b2 hab
  by_cases q : mlat ρ a (mcon ρ b - mcon ρ a) ≠ -2147483647 ∧ mlat ρ a (mcon ρ b - mcon ρ a) ≤ b
  · have e : spM ρ a b = mcon ρ b - mcon ρ a := by unfold spM; rw [if_pos q]
    rw [e]
    refine ⟨q.1, ?_, q.2⟩
    by_cases z : mcon ρ b - mcon ρ a = 0
    · rw [z, mlat_0 h a1 a2 a3]; exact Int.le_refl _
    · have ma := mcon_in h a1 a2
      have mb := mcon_in h b1 b2
      have da := dof_bd h a1 a2
      have r := mlr_bd h (n := mcon ρ b - mcon ρ a) a1 a2 (by omega) (by omega)
      have s1 := mst_lt h (c := mcon ρ a) (e := mcon ρ a + (mcon ρ b - mcon ρ a)) (by omega) (by omega) (by omega) (by omega) (by omega)
      have v := mlat_r h (d := a) (n := mcon ρ b - mcon ρ a) (by omega) (by omega)
      by_cases u : -999999 ≤ mlr ρ a (mcon ρ b - mcon ρ a) ∧ mlr ρ a (mcon ρ b - mcon ρ a) ≤ 999999
      · rw [if_pos u] at v
        omega
      · rw [if_neg u] at v
        exact absurd v q.1
  · have e : spM ρ a b = mcon ρ b - mcon ρ a - 1 := by unfold spM; rw [if_neg q]
    have hn : 0 < mcon ρ b - mcon ρ a := by
      rcases (show 0 < mcon ρ b - mcon ρ a ∨ mcon ρ b - mcon ρ a = 0 by omega) with z | z
      · exact z
      · have t := mlat_0 h a1 a2 a3
        exact absurd (by rw [z, t]; omega) q
    have t := mlat_there h a1 a2 a3 b1 b2 b3 hab (k := mcon ρ b - mcon ρ a - 1) (by omega) (Or.inr (by omega))
    rw [e]
    exact t

set_option maxHeartbeats 2000000 in
set_option maxRecDepth 100000 in
theorem c_X8_span (l : Launch) (D : va_G) (t : Nat → ClassId) (b n : Nat) (σ0 : qM) (A : Nat → Int32) (B : Nat → Nat → Int32) (P : Nat → Nat → Option Nat) (hl0 : l.stackTraces = false) (rw_ : Int → Row) (fe : Int → Int → Int32) (hQ : stQ t b σ0 A P 0 rw_ fe) (a_ca : Int32) (ca : Int) (e_ca : a_ca.toInt = ca) (a_fr : Int32) (fr : Int) (e_fr : a_fr.toInt = fr) (a_to : Int32) (to : Int) (e_to : a_to.toInt = to) (a_part : Int32) (part : Int) (e_part : a_part.toInt = part) : xC l yX8_span cX8_span 9 (some .int) 8 5 30 D t b n (cS t b σ0 A B P) [.ref (b + 0), .int a_ca, .int a_fr, .int a_to, .int a_part] (fun z n1 σ1 => n1 = n ∧ σ1 = cS t b σ0 A B P ∧ cd3 (0 ≤ ca ∧ ca < (A 20).toInt) ((-999999 ≤ fr ∧ fr ≤ 999999) ∧ (fr ≤ to ∧ to ≤ 999999) ∧ 0 ≤ part ∧ part ≤ 2) ((fst (rw_ ca) (-2000) ≤ fr ∧ fr < fst (rw_ ca) 2001) ∧ fst (rw_ ca) (-2000) ≤ to ∧ to < fst (rw_ ca) 2001) = 0 ∧ z.toInt = (if part = 0 then spY (rw_ ca) fr to else if part = 1 then spM (rw_ ca) (ylat (rw_ ca) fr (spY (rw_ ca) fr to)) to else to - mlat (rw_ ca) (ylat (rw_ ca) fr (spY (rw_ ca) fr to)) (spM (rw_ ca) (ylat (rw_ ca) fr (spY (rw_ ca) fr to)) to))) (fun E n1 σ1 => σ1 = cS t b σ0 A B P ∧ xE E = cd3 (0 ≤ ca ∧ ca < (A 20).toInt) ((-999999 ≤ fr ∧ fr ≤ 999999) ∧ (fr ≤ to ∧ to ≤ 999999) ∧ 0 ≤ part ∧ part ≤ 2) ((fst (rw_ ca) (-2000) ≤ fr ∧ fr < fst (rw_ ca) 2001) ∧ fst (rw_ ca) (-2000) ≤ to ∧ to < fst (rw_ ca) 2001)) := by
  refine xC.of (by decide +kernel) (Nat.le_of_ble_eq_true rfl) (fun p e s m args below meth c X hE hno w ls hl => ?_)
  have hx := X.1
  have hb := X.2.1
  have hl : lv_has ls 9 [(0, .ref (b + 0)), (1, .int a_ca), (2, .int a_fr), (3, .int a_to), (4, .int a_part)] := hl
  have hnn := hQ.1
  refine lv_aload_n hx hb dX8_span_0 rfl (lv_at hl 0 rfl) ?_
  refine lv_iload_n hx hb dX8_span_1 rfl (lv_at hl 1 rfl) ?_
  refine x_cAV X hE hno w (c_X8_existing l D t b n σ0 A B P hl0 hQ.ok a_ca ca e_ca) v_X8_149 (k := 0) rfl rfl rfl ⟨Nat.le_of_ble_eq_true rfl, Nat.le_of_ble_eq_true rfl⟩ rfl hl.1 (Nat.le_of_ble_eq_true rfl) dX8_span_2 ⟨Nat.le_of_ble_eq_true rfl, Nat.le_of_ble_eq_true rfl⟩ ⟨Nat.le_of_ble_eq_true rfl, Nat.le_of_ble_eq_true rfl⟩ (fun E n1 σ1 hz => ⟨hz.2.1, by rw [hz.1]; exact xE_io.trans (cd3_1 hz.2.2).symm⟩) (fun o_2 n_2 σ_2 H locs z_2 w => ?_)
  obtain ⟨en_2, es_2, eo_2, hin_2⟩ := z_2
  rw [en_2, es_2] at w
  obtain ⟨q_2, L_2, C_2, K_2, fl_2, fc_2, eq_2, hbc_2, hcp_2⟩ := hQ.2.1 ca hin_2.1 hin_2.2
  have hcp_2 := hcp_2.cS (A := A) (B := B) (P := P) hbc_2
  have eo_2 : o_2 = some q_2 := eo_2.trans eq_2
  subst eo_2
  have hok_2 : okRow (rw_ ca) := hcp_2.2.2.2.1
  refine lv_astore (lv' := [(5, .ref (b + q_2)), (0, .ref (b + 0)), (1, .int a_ca), (2, .int a_fr), (3, .int a_to), (4, .int a_part)]) hx hb dX8_span_5 hl (by decide) rfl (fun ls hl => ?_)
  refine lv_iload_n hx hb dX8_span_7 rfl (lv_at hl 3 rfl) ?_
  refine q_cPS X w (c_X8_isDay l a_fr fr e_fr D t b n (cS t b σ0 A B P)) v_X8_187 rfl ⟨Nat.le_of_ble_eq_true rfl, Nat.le_of_ble_eq_true rfl⟩ rfl hl.1 (Nat.le_of_ble_eq_true rfl) dX8_span_8 ⟨Nat.le_of_ble_eq_true rfl, Nat.le_of_ble_eq_true rfl⟩ (fun r_8 z_8 => ?_)
  refine lv_if_eq (tgt := 40) hx hb dX8_span_11 (by decide) (fun c_11 => ?_) (fun c_11 => ?_)
  · skip
    rw [z_8] at c_11
    have k_11 := bI_f.mp c_11
    refine lv_iconst (v := 0) hx hb dX8_span_40 (by decide) ?_
    refine x_cVS X hE hno w (c_X8_demand l D t b n σ0 A B P hl0 0) v_X8_103 rfl ⟨Nat.le_of_ble_eq_true rfl, Nat.le_of_ble_eq_true rfl⟩ rfl hl.1 (Nat.le_of_ble_eq_true rfl) dX8_span_41 ⟨Nat.le_of_ble_eq_true rfl, Nat.le_of_ble_eq_true rfl⟩ ⟨Nat.le_of_ble_eq_true rfl, Nat.le_of_ble_eq_true rfl⟩ (fun E n1 σ1 hz => ⟨hz.2.1, by rw [hz.1]; exact xE_ia.trans (cd3_2 hin_2 (by omega)).symm⟩) (fun n_41 σ_41 H locs z_41 w => ?_)
    exact absurd rfl z_41.2.2
  · skip
    rw [z_8] at c_11
    have k_11 := bI_t.mp c_11
    refine lv_iload_n hx hb dX8_span_14 rfl (lv_at hl 4 rfl) ?_
    refine q_cPS X w (c_X8_isDay l a_to to e_to D t b n (cS t b σ0 A B P)) v_X8_187 rfl ⟨Nat.le_of_ble_eq_true rfl, Nat.le_of_ble_eq_true rfl⟩ rfl hl.1 (Nat.le_of_ble_eq_true rfl) dX8_span_15 ⟨Nat.le_of_ble_eq_true rfl, Nat.le_of_ble_eq_true rfl⟩ (fun r_15 z_15 => ?_)
    refine lv_if_eq (tgt := 40) hx hb dX8_span_18 (by decide) (fun c_18 => ?_) (fun c_18 => ?_)
    · skip
      rw [z_15] at c_18
      have k_18 := bI_f.mp c_18
      refine lv_iconst (v := 0) hx hb dX8_span_40 (by decide) ?_
      refine x_cVS X hE hno w (c_X8_demand l D t b n σ0 A B P hl0 0) v_X8_103 rfl ⟨Nat.le_of_ble_eq_true rfl, Nat.le_of_ble_eq_true rfl⟩ rfl hl.1 (Nat.le_of_ble_eq_true rfl) dX8_span_41 ⟨Nat.le_of_ble_eq_true rfl, Nat.le_of_ble_eq_true rfl⟩ ⟨Nat.le_of_ble_eq_true rfl, Nat.le_of_ble_eq_true rfl⟩ (fun E n1 σ1 hz => ⟨hz.2.1, by rw [hz.1]; exact xE_ia.trans (cd3_2 hin_2 (by omega)).symm⟩) (fun n_41 σ_41 H locs z_41 w => ?_)
      exact absurd rfl z_41.2.2
    · skip
      rw [z_15] at c_18
      have k_18 := bI_t.mp c_18
      refine lv_iload_n hx hb dX8_span_21 rfl (lv_at hl 3 rfl) ?_
      refine lv_iload_n hx hb dX8_span_22 rfl (lv_at hl 4 rfl) ?_
      refine lv_icmp_gt (tgt := 40) hx hb dX8_span_23 (by decide) (fun c_23 => ?_) (fun c_23 => ?_)
      · skip
        have k_23 : to < fr := (g_lt e_to e_fr).mp c_23
        refine lv_iconst (v := 0) hx hb dX8_span_40 (by decide) ?_
        refine x_cVS X hE hno w (c_X8_demand l D t b n σ0 A B P hl0 0) v_X8_103 rfl ⟨Nat.le_of_ble_eq_true rfl, Nat.le_of_ble_eq_true rfl⟩ rfl hl.1 (Nat.le_of_ble_eq_true rfl) dX8_span_41 ⟨Nat.le_of_ble_eq_true rfl, Nat.le_of_ble_eq_true rfl⟩ ⟨Nat.le_of_ble_eq_true rfl, Nat.le_of_ble_eq_true rfl⟩ (fun E n1 σ1 hz => ⟨hz.2.1, by rw [hz.1]; exact xE_ia.trans (cd3_2 hin_2 (by omega)).symm⟩) (fun n_41 σ_41 H locs z_41 w => ?_)
        exact absurd rfl z_41.2.2
      · skip
        have k_23 : ¬ (to < fr) := fun h => c_23 ((g_lt e_to e_fr).mpr h)
        refine lv_iload hx hb dX8_span_26 (lv_at hl 5 rfl) ?_
        refine lv_iconst (v := 0) hx hb dX8_span_28 (by decide) ?_
        refine lv_iconst (v := 2) hx hb dX8_span_29 (by decide) ?_
        refine q_cPS X w (c_X8_isFrom l a_part 0 2 part 0 2 e_part (show (0 : Int32).toInt = 0 from rfl) (show (2 : Int32).toInt = 2 from rfl) D t b n (cS t b σ0 A B P)) v_X8_99 rfl ⟨Nat.le_of_ble_eq_true rfl, Nat.le_of_ble_eq_true rfl⟩ rfl hl.1 (Nat.le_of_ble_eq_true rfl) dX8_span_30 ⟨Nat.le_of_ble_eq_true rfl, Nat.le_of_ble_eq_true rfl⟩ (fun r_30 z_30 => ?_)
        refine lv_if_eq (tgt := 40) hx hb dX8_span_33 (by decide) (fun c_33 => ?_) (fun c_33 => ?_)
        · skip
          rw [z_30] at c_33
          have k_33 := bI_f.mp c_33
          refine lv_iconst (v := 0) hx hb dX8_span_40 (by decide) ?_
          refine x_cVS X hE hno w (c_X8_demand l D t b n σ0 A B P hl0 0) v_X8_103 rfl ⟨Nat.le_of_ble_eq_true rfl, Nat.le_of_ble_eq_true rfl⟩ rfl hl.1 (Nat.le_of_ble_eq_true rfl) dX8_span_41 ⟨Nat.le_of_ble_eq_true rfl, Nat.le_of_ble_eq_true rfl⟩ ⟨Nat.le_of_ble_eq_true rfl, Nat.le_of_ble_eq_true rfl⟩ (fun E n1 σ1 hz => ⟨hz.2.1, by rw [hz.1]; exact xE_ia.trans (cd3_2 hin_2 (by omega)).symm⟩) (fun n_41 σ_41 H locs z_41 w => ?_)
          exact absurd rfl z_41.2.2
        · skip
          rw [z_30] at c_33
          have k_33 := bI_t.mp c_33
          refine lv_iconst (v := 1) hx hb dX8_span_36 (by decide) ?_
          refine lv_goto (tgt := 41) hx hb dX8_span_37 (by decide) ?_
          refine x_cVS X hE hno w (c_X8_demand l D t b n σ0 A B P hl0 1) v_X8_103 rfl ⟨Nat.le_of_ble_eq_true rfl, Nat.le_of_ble_eq_true rfl⟩ rfl hl.1 (Nat.le_of_ble_eq_true rfl) dX8_span_41 ⟨Nat.le_of_ble_eq_true rfl, Nat.le_of_ble_eq_true rfl⟩ ⟨Nat.le_of_ble_eq_true rfl, Nat.le_of_ble_eq_true rfl⟩ (fun E n1 σ1 hz => absurd hz.2.2 (by decide)) (fun n_41 σ_41 H locs z_41 w => ?_)
          rw [z_41.1, z_41.2.1] at w
          refine lv_aload hx hb dX8_span_44 (lv_at hl 0 rfl) ?_
          refine lv_iload_n hx hb dX8_span_46 rfl (lv_at hl 4 rfl) ?_
          refine x_cCS X hE hno w (c_X8_yearInside l D t b n σ0 A B P hl0 q_2 L_2 C_2 K_2 fl_2 fc_2 _ hcp_2 a_to to e_to) v_X8_190 rfl ⟨Nat.le_of_ble_eq_true rfl, Nat.le_of_ble_eq_true rfl⟩ rfl hl.1 (Nat.le_of_ble_eq_true rfl) dX8_span_47 ⟨Nat.le_of_ble_eq_true rfl, Nat.le_of_ble_eq_true rfl⟩ ⟨Nat.le_of_ble_eq_true rfl, Nat.le_of_ble_eq_true rfl⟩ (fun E n1 σ1 hz => ⟨hz.2.1, by rw [hz.1]; exact xE_ns.trans (cd3_3 hin_2 (by omega) (fun q => ((yoc_iff hok_2).mp hz.2.2) q.2)).symm⟩) (fun r_47 n_47 σ_47 H locs z_47 w => ?_)
          rw [z_47.1, z_47.2.1] at w
          have hi_47 : fst (rw_ ca) (-2000) ≤ to ∧ to < fst (rw_ ca) 2001 := by by_cases y : fst (rw_ ca) (-2000) ≤ to ∧ to < fst (rw_ ca) 2001; (exact y); (exact absurd ((yoc_iff hok_2).mpr y) z_47.2.2.2)
          have hy_47 : r_47.toInt = yof (rw_ ca) to := z_47.2.2.1.trans (if_pos hi_47)
          refine lv_aload hx hb dX8_span_50 (lv_at hl 0 rfl) ?_
          refine lv_iload_n hx hb dX8_span_52 rfl (lv_at hl 3 rfl) ?_
          refine x_cCS X hE hno w (c_X8_yearInside l D t b n σ0 A B P hl0 q_2 L_2 C_2 K_2 fl_2 fc_2 _ hcp_2 a_fr fr e_fr) v_X8_190 rfl ⟨Nat.le_of_ble_eq_true rfl, Nat.le_of_ble_eq_true rfl⟩ rfl hl.1 (Nat.le_of_ble_eq_true rfl) dX8_span_53 ⟨Nat.le_of_ble_eq_true rfl, Nat.le_of_ble_eq_true rfl⟩ ⟨Nat.le_of_ble_eq_true rfl, Nat.le_of_ble_eq_true rfl⟩ (fun E n1 σ1 hz => ⟨hz.2.1, by rw [hz.1]; exact xE_ns.trans (cd3_3 hin_2 (by omega) (fun q => ((yoc_iff hok_2).mp hz.2.2) q.1)).symm⟩) (fun r_53 n_53 σ_53 H locs z_53 w => ?_)
          rw [z_53.1, z_53.2.1] at w
          have hi_53 : fst (rw_ ca) (-2000) ≤ fr ∧ fr < fst (rw_ ca) 2001 := by by_cases y : fst (rw_ ca) (-2000) ≤ fr ∧ fr < fst (rw_ ca) 2001; (exact y); (exact absurd ((yoc_iff hok_2).mpr y) z_53.2.2.2)
          have hy_53 : r_53.toInt = yof (rw_ ca) fr := z_53.2.2.1.trans (if_pos hi_53)
          have yb := yof_in hok_2 hi_47.1 hi_47.2
          have ya := yof_in hok_2 hi_53.1 hi_53.2
          have yab := yof_le hok_2 hi_53.1 hi_53.2 hi_47.1 hi_47.2 (by omega)
          refine lv_isub hx hb dX8_span_56 ?_
          refine lv_topi (fun x_56 e_56 => ?_)
          have p_56 : x_56.toInt = ((yof (rw_ ca) to) - (yof (rw_ ca) fr)) := by rw [e_56]; exact t_sub hy_47 hy_53 (by omega) (by omega)
          refine lv_istore (lv' := [(6, .int x_56), (5, .ref (b + q_2)), (0, .ref (b + 0)), (1, .int a_ca), (2, .int a_fr), (3, .int a_to), (4, .int a_part)]) hx hb dX8_span_57 hl (by decide) rfl (fun ls hl => ?_)
          refine lv_aload hx hb dX8_span_59 (lv_at hl 1 rfl) ?_
          refine lv_iload_n hx hb dX8_span_61 rfl (lv_at hl 4 rfl) ?_
          refine lv_iload hx hb dX8_span_62 (lv_at hl 0 rfl) ?_
          refine q_cPV X w (c_X0_yearsLater l D t b n _ q_2 L_2 C_2 K_2 fl_2 fc_2 _ hcp_2 a_fr x_56 fr ((yof (rw_ ca) to) - (yof (rw_ ca) fr)) e_fr p_56 (by omega)) v_X8_215 (k := q_2) hcp_2.1 rfl rfl ⟨Nat.le_of_ble_eq_true rfl, Nat.le_of_ble_eq_true rfl⟩ rfl hl.1 (Nat.le_of_ble_eq_true rfl) dX8_span_64 ⟨Nat.le_of_ble_eq_true rfl, Nat.le_of_ble_eq_true rfl⟩ (fun r_64 z_64 => ?_)
          refine lv_iload_n hx hb dX8_span_67 rfl (lv_at hl 5 rfl) ?_
          refine lv_icmp_le (tgt := 74) hx hb dX8_span_68 (by decide) (fun c_68 => ?_) (fun c_68 => ?_)
          · skip
            have k_68 : (ylc (rw_ ca) fr ((yof (rw_ ca) to) - (yof (rw_ ca) fr))) ≤ to := (g_le z_64 e_to).mp c_68
            have hs : x_56.toInt = spY (rw_ ca) fr to := by rw [spY_c hok_2 hi_53.1 hi_53.2 (by omega) hi_47.1 hi_47.2 (by omega) (by omega), if_neg (by omega)]; exact p_56.trans (by omega)
            have hfo := spY_found hok_2 hi_53.1 hi_53.2 (by omega) hi_47.1 hi_47.2 (by omega) (show fr ≤ to by omega)
            refine lv_iload hx hb dX8_span_74 (lv_at hl 6 rfl) ?_
            refine lv_if_ne (tgt := 82) hx hb dX8_span_76 (by decide) (fun c_76 => ?_) (fun c_76 => ?_)
            · skip
              have k_76 : ¬ (part = 0) := fun h => c_76 ((g_eq e_part (show (0 : Int32).toInt = 0 from rfl)).mpr h)
              refine lv_aload hx hb dX8_span_82 (lv_at hl 1 rfl) ?_
              refine lv_iload_n hx hb dX8_span_84 rfl (lv_at hl 4 rfl) ?_
              refine lv_iload hx hb dX8_span_85 (lv_at hl 0 rfl) ?_
              refine q_cPV X w (c_X0_yearsLater l D t b n _ q_2 L_2 C_2 K_2 fl_2 fc_2 _ hcp_2 a_fr x_56 fr (spY (rw_ ca) fr to) e_fr hs (by omega)) v_X8_215 (k := q_2) hcp_2.1 rfl rfl ⟨Nat.le_of_ble_eq_true rfl, Nat.le_of_ble_eq_true rfl⟩ rfl hl.1 (Nat.le_of_ble_eq_true rfl) dX8_span_87 ⟨Nat.le_of_ble_eq_true rfl, Nat.le_of_ble_eq_true rfl⟩ (fun r_87 z_87 => ?_)
              have hd_87 : r_87.toInt = ylat (rw_ ca) fr (spY (rw_ ca) fr to) := z_87.trans (ylc_eq (ylc_day.mpr ⟨hi_53, hfo.2.1⟩))
              refine lv_istore (lv' := [(7, .int r_87), (6, .int x_56), (5, .ref (b + q_2)), (0, .ref (b + 0)), (1, .int a_ca), (2, .int a_fr), (3, .int a_to), (4, .int a_part)]) hx hb dX8_span_90 hl (by decide) rfl (fun ls hl => ?_)
              refine lv_aload hx hb dX8_span_92 (lv_at hl 2 rfl) ?_
              refine lv_iload hx hb dX8_span_94 (lv_at hl 0 rfl) ?_
              refine lv_iload_n hx hb dX8_span_96 rfl (lv_at hl 6 rfl) ?_
              refine q_cPV X w (c_X0_monthsBetween l D t b n _ q_2 L_2 C_2 K_2 fl_2 fc_2 _ hcp_2 r_87 a_to (ylat (rw_ ca) fr (spY (rw_ ca) fr to)) to hd_87 e_to (by omega) (by omega) (by omega) (by omega) (by omega)) v_X8_218 (k := q_2) hcp_2.1 rfl rfl ⟨Nat.le_of_ble_eq_true rfl, Nat.le_of_ble_eq_true rfl⟩ rfl hl.1 (Nat.le_of_ble_eq_true rfl) dX8_span_97 ⟨Nat.le_of_ble_eq_true rfl, Nat.le_of_ble_eq_true rfl⟩ (fun r_97 z_97 => ?_)
              refine lv_istore (lv' := [(8, .int r_97), (7, .int r_87), (6, .int x_56), (5, .ref (b + q_2)), (0, .ref (b + 0)), (1, .int a_ca), (2, .int a_fr), (3, .int a_to), (4, .int a_part)]) hx hb dX8_span_100 hl (by decide) rfl (fun ls hl => ?_)
              refine lv_iload hx hb dX8_span_102 (lv_at hl 8 rfl) ?_
              refine lv_iconst (v := 1) hx hb dX8_span_104 (by decide) ?_
              refine lv_icmp_ne (tgt := 113) hx hb dX8_span_105 (by decide) (fun c_105 => ?_) (fun c_105 => ?_)
              · skip
                have k_105 : ¬ (part = 1) := fun h => c_105 ((g_eq e_part (show (1 : Int32).toInt = 1 from rfl)).mpr h)
                have hmb := spM_bd hok_2 (a := ylat (rw_ ca) fr (spY (rw_ ca) fr to)) (b := to) (by omega) (by omega) (by omega) hi_47.1 hi_47.2 (by omega) (by omega)
                refine lv_iload_n hx hb dX8_span_113 rfl (lv_at hl 7 rfl) ?_
                refine lv_aload hx hb dX8_span_114 (lv_at hl 3 rfl) ?_
                refine lv_iload hx hb dX8_span_116 (lv_at hl 1 rfl) ?_
                refine lv_iload hx hb dX8_span_118 (lv_at hl 0 rfl) ?_
                refine q_cPV X w (c_X0_monthsLater l D t b n _ q_2 L_2 C_2 K_2 fl_2 fc_2 _ hcp_2 r_87 r_97 (ylat (rw_ ca) fr (spY (rw_ ca) fr to)) (spM (rw_ ca) (ylat (rw_ ca) fr (spY (rw_ ca) fr to)) to) hd_87 z_97 (by omega)) v_X8_209 (k := q_2) hcp_2.1 rfl rfl ⟨Nat.le_of_ble_eq_true rfl, Nat.le_of_ble_eq_true rfl⟩ rfl hl.1 (Nat.le_of_ble_eq_true rfl) dX8_span_120 ⟨Nat.le_of_ble_eq_true rfl, Nat.le_of_ble_eq_true rfl⟩ (fun r_120 z_120 => ?_)
                have hfm := spM_found hok_2 (a := ylat (rw_ ca) fr (spY (rw_ ca) fr to)) (b := to) (by omega) (by omega) (by omega) hi_47.1 hi_47.2 (by omega) (by omega)
                have hd_120 : r_120.toInt = mlat (rw_ ca) (ylat (rw_ ca) fr (spY (rw_ ca) fr to)) (spM (rw_ ca) (ylat (rw_ ca) fr (spY (rw_ ca) fr to)) to) := z_120.trans (mlc_eq hok_2 ((mlc_day hok_2).mpr ⟨⟨by omega, by omega⟩, hfm.1⟩))
                refine lv_isub hx hb dX8_span_123 ?_
                refine lv_topi (fun x_123 e_123 => ?_)
                have p_123 : x_123.toInt = (to - (mlat (rw_ ca) (ylat (rw_ ca) fr (spY (rw_ ca) fr to)) (spM (rw_ ca) (ylat (rw_ ca) fr (spY (rw_ ca) fr to)) to))) := by rw [e_123]; exact t_sub e_to hd_120 (by omega) (by omega)
                refine vx_ret ?_
                refine W.widen (k := 5) (n := 30) (Nat.le_of_ble_eq_true rfl) (Nat.le_of_ble_eq_true rfl) ?_
                exact q_cret (post := fun z n1 σ1 => n1 = n ∧ σ1 = cS t b σ0 A B P ∧ cd3 (0 ≤ ca ∧ ca < (A 20).toInt) ((-999999 ≤ fr ∧ fr ≤ 999999) ∧ (fr ≤ to ∧ to ≤ 999999) ∧ 0 ≤ part ∧ part ≤ 2) ((fst (rw_ ca) (-2000) ≤ fr ∧ fr < fst (rw_ ca) 2001) ∧ fst (rw_ ca) (-2000) ≤ to ∧ to < fst (rw_ ca) 2001) = 0 ∧ z.toInt = (if part = 0 then spY (rw_ ca) fr to else if part = 1 then spM (rw_ ca) (ylat (rw_ ca) fr (spY (rw_ ca) fr to)) to else to - mlat (rw_ ca) (ylat (rw_ ca) fr (spY (rw_ ca) fr to)) (spM (rw_ ca) (ylat (rw_ ca) fr (spY (rw_ ca) fr to)) to))) X w dX8_span_124 rfl ⟨rfl, rfl, cd3_0 hin_2 (by omega) ⟨hi_53, hi_47⟩, by rw [if_neg k_76, if_neg k_105]; exact p_123⟩
              · skip
                have k_105 : part = 1 := (g_eq e_part (show (1 : Int32).toInt = 1 from rfl)).mp c_105
                refine lv_iload hx hb dX8_span_108 (lv_at hl 0 rfl) ?_
                refine lv_goto (tgt := 124) hx hb dX8_span_110 (by decide) ?_
                refine vx_ret ?_
                refine W.widen (k := 5) (n := 30) (Nat.le_of_ble_eq_true rfl) (Nat.le_of_ble_eq_true rfl) ?_
                exact q_cret (post := fun z n1 σ1 => n1 = n ∧ σ1 = cS t b σ0 A B P ∧ cd3 (0 ≤ ca ∧ ca < (A 20).toInt) ((-999999 ≤ fr ∧ fr ≤ 999999) ∧ (fr ≤ to ∧ to ≤ 999999) ∧ 0 ≤ part ∧ part ≤ 2) ((fst (rw_ ca) (-2000) ≤ fr ∧ fr < fst (rw_ ca) 2001) ∧ fst (rw_ ca) (-2000) ≤ to ∧ to < fst (rw_ ca) 2001) = 0 ∧ z.toInt = (if part = 0 then spY (rw_ ca) fr to else if part = 1 then spM (rw_ ca) (ylat (rw_ ca) fr (spY (rw_ ca) fr to)) to else to - mlat (rw_ ca) (ylat (rw_ ca) fr (spY (rw_ ca) fr to)) (spM (rw_ ca) (ylat (rw_ ca) fr (spY (rw_ ca) fr to)) to))) X w dX8_span_124 rfl ⟨rfl, rfl, cd3_0 hin_2 (by omega) ⟨hi_53, hi_47⟩, by rw [if_neg k_76, if_pos k_105]; exact z_97⟩
            · skip
              have k_76 : part = 0 := (g_eq e_part (show (0 : Int32).toInt = 0 from rfl)).mp c_76
              refine lv_iload hx hb dX8_span_79 (lv_at hl 0 rfl) ?_
              refine vx_ret ?_
              refine W.widen (k := 5) (n := 30) (Nat.le_of_ble_eq_true rfl) (Nat.le_of_ble_eq_true rfl) ?_
              exact q_cret (post := fun z n1 σ1 => n1 = n ∧ σ1 = cS t b σ0 A B P ∧ cd3 (0 ≤ ca ∧ ca < (A 20).toInt) ((-999999 ≤ fr ∧ fr ≤ 999999) ∧ (fr ≤ to ∧ to ≤ 999999) ∧ 0 ≤ part ∧ part ≤ 2) ((fst (rw_ ca) (-2000) ≤ fr ∧ fr < fst (rw_ ca) 2001) ∧ fst (rw_ ca) (-2000) ≤ to ∧ to < fst (rw_ ca) 2001) = 0 ∧ z.toInt = (if part = 0 then spY (rw_ ca) fr to else if part = 1 then spM (rw_ ca) (ylat (rw_ ca) fr (spY (rw_ ca) fr to)) to else to - mlat (rw_ ca) (ylat (rw_ ca) fr (spY (rw_ ca) fr to)) (spM (rw_ ca) (ylat (rw_ ca) fr (spY (rw_ ca) fr to)) to))) X w dX8_span_81 rfl ⟨rfl, rfl, cd3_0 hin_2 (by omega) ⟨hi_53, hi_47⟩, by rw [if_pos k_76]; exact hs⟩
          · skip
            have k_68 : ¬ ((ylc (rw_ ca) fr ((yof (rw_ ca) to) - (yof (rw_ ca) fr))) ≤ to) := fun h => c_68 ((g_le z_64 e_to).mpr h)
            obtain ⟨x_71, e_71⟩ : ∃ z : Int32, z = (x_56 + (-1)) := ⟨_, rfl⟩
            have p_71 : x_71.toInt = (((yof (rw_ ca) to) - (yof (rw_ ca) fr)) + (-1)) := by rw [e_71]; exact t_add p_56 (show ((-1) : Int32).toInt = (-1) from rfl) (by omega) (by omega)
            refine lv_iinc (v := x_71) (lv' := [(6, .int x_71), (5, .ref (b + q_2)), (0, .ref (b + 0)), (1, .int a_ca), (2, .int a_fr), (3, .int a_to), (4, .int a_part)]) hx hb dX8_span_71 hl (k := 0) rfl (by rw [e_71]; rfl) (by decide) rfl (fun ls hl => ?_)
            have hs : x_71.toInt = spY (rw_ ca) fr to := by rw [spY_c hok_2 hi_53.1 hi_53.2 (by omega) hi_47.1 hi_47.2 (by omega) (by omega), if_pos (by omega)]; exact p_71.trans (by omega)
            have hfo := spY_found hok_2 hi_53.1 hi_53.2 (by omega) hi_47.1 hi_47.2 (by omega) (show fr ≤ to by omega)
            refine lv_iload hx hb dX8_span_74 (lv_at hl 6 rfl) ?_
            refine lv_if_ne (tgt := 82) hx hb dX8_span_76 (by decide) (fun c_76 => ?_) (fun c_76 => ?_)
            · skip
              have k_76 : ¬ (part = 0) := fun h => c_76 ((g_eq e_part (show (0 : Int32).toInt = 0 from rfl)).mpr h)
              refine lv_aload hx hb dX8_span_82 (lv_at hl 1 rfl) ?_
              refine lv_iload_n hx hb dX8_span_84 rfl (lv_at hl 4 rfl) ?_
              refine lv_iload hx hb dX8_span_85 (lv_at hl 0 rfl) ?_
              refine q_cPV X w (c_X0_yearsLater l D t b n _ q_2 L_2 C_2 K_2 fl_2 fc_2 _ hcp_2 a_fr x_71 fr (spY (rw_ ca) fr to) e_fr hs (by omega)) v_X8_215 (k := q_2) hcp_2.1 rfl rfl ⟨Nat.le_of_ble_eq_true rfl, Nat.le_of_ble_eq_true rfl⟩ rfl hl.1 (Nat.le_of_ble_eq_true rfl) dX8_span_87 ⟨Nat.le_of_ble_eq_true rfl, Nat.le_of_ble_eq_true rfl⟩ (fun r_87 z_87 => ?_)
              have hd_87 : r_87.toInt = ylat (rw_ ca) fr (spY (rw_ ca) fr to) := z_87.trans (ylc_eq (ylc_day.mpr ⟨hi_53, hfo.2.1⟩))
              refine lv_istore (lv' := [(7, .int r_87), (6, .int x_71), (5, .ref (b + q_2)), (0, .ref (b + 0)), (1, .int a_ca), (2, .int a_fr), (3, .int a_to), (4, .int a_part)]) hx hb dX8_span_90 hl (by decide) rfl (fun ls hl => ?_)
              refine lv_aload hx hb dX8_span_92 (lv_at hl 2 rfl) ?_
              refine lv_iload hx hb dX8_span_94 (lv_at hl 0 rfl) ?_
              refine lv_iload_n hx hb dX8_span_96 rfl (lv_at hl 6 rfl) ?_
              refine q_cPV X w (c_X0_monthsBetween l D t b n _ q_2 L_2 C_2 K_2 fl_2 fc_2 _ hcp_2 r_87 a_to (ylat (rw_ ca) fr (spY (rw_ ca) fr to)) to hd_87 e_to (by omega) (by omega) (by omega) (by omega) (by omega)) v_X8_218 (k := q_2) hcp_2.1 rfl rfl ⟨Nat.le_of_ble_eq_true rfl, Nat.le_of_ble_eq_true rfl⟩ rfl hl.1 (Nat.le_of_ble_eq_true rfl) dX8_span_97 ⟨Nat.le_of_ble_eq_true rfl, Nat.le_of_ble_eq_true rfl⟩ (fun r_97 z_97 => ?_)
              refine lv_istore (lv' := [(8, .int r_97), (7, .int r_87), (6, .int x_71), (5, .ref (b + q_2)), (0, .ref (b + 0)), (1, .int a_ca), (2, .int a_fr), (3, .int a_to), (4, .int a_part)]) hx hb dX8_span_100 hl (by decide) rfl (fun ls hl => ?_)
              refine lv_iload hx hb dX8_span_102 (lv_at hl 8 rfl) ?_
              refine lv_iconst (v := 1) hx hb dX8_span_104 (by decide) ?_
              refine lv_icmp_ne (tgt := 113) hx hb dX8_span_105 (by decide) (fun c_105 => ?_) (fun c_105 => ?_)
              · skip
                have k_105 : ¬ (part = 1) := fun h => c_105 ((g_eq e_part (show (1 : Int32).toInt = 1 from rfl)).mpr h)
                have hmb := spM_bd hok_2 (a := ylat (rw_ ca) fr (spY (rw_ ca) fr to)) (b := to) (by omega) (by omega) (by omega) hi_47.1 hi_47.2 (by omega) (by omega)
                refine lv_iload_n hx hb dX8_span_113 rfl (lv_at hl 7 rfl) ?_
                refine lv_aload hx hb dX8_span_114 (lv_at hl 3 rfl) ?_
                refine lv_iload hx hb dX8_span_116 (lv_at hl 1 rfl) ?_
                refine lv_iload hx hb dX8_span_118 (lv_at hl 0 rfl) ?_
                refine q_cPV X w (c_X0_monthsLater l D t b n _ q_2 L_2 C_2 K_2 fl_2 fc_2 _ hcp_2 r_87 r_97 (ylat (rw_ ca) fr (spY (rw_ ca) fr to)) (spM (rw_ ca) (ylat (rw_ ca) fr (spY (rw_ ca) fr to)) to) hd_87 z_97 (by omega)) v_X8_209 (k := q_2) hcp_2.1 rfl rfl ⟨Nat.le_of_ble_eq_true rfl, Nat.le_of_ble_eq_true rfl⟩ rfl hl.1 (Nat.le_of_ble_eq_true rfl) dX8_span_120 ⟨Nat.le_of_ble_eq_true rfl, Nat.le_of_ble_eq_true rfl⟩ (fun r_120 z_120 => ?_)
                have hfm := spM_found hok_2 (a := ylat (rw_ ca) fr (spY (rw_ ca) fr to)) (b := to) (by omega) (by omega) (by omega) hi_47.1 hi_47.2 (by omega) (by omega)
                have hd_120 : r_120.toInt = mlat (rw_ ca) (ylat (rw_ ca) fr (spY (rw_ ca) fr to)) (spM (rw_ ca) (ylat (rw_ ca) fr (spY (rw_ ca) fr to)) to) := z_120.trans (mlc_eq hok_2 ((mlc_day hok_2).mpr ⟨⟨by omega, by omega⟩, hfm.1⟩))
                refine lv_isub hx hb dX8_span_123 ?_
                refine lv_topi (fun x_123 e_123 => ?_)
                have p_123 : x_123.toInt = (to - (mlat (rw_ ca) (ylat (rw_ ca) fr (spY (rw_ ca) fr to)) (spM (rw_ ca) (ylat (rw_ ca) fr (spY (rw_ ca) fr to)) to))) := by rw [e_123]; exact t_sub e_to hd_120 (by omega) (by omega)
                refine vx_ret ?_
                refine W.widen (k := 5) (n := 30) (Nat.le_of_ble_eq_true rfl) (Nat.le_of_ble_eq_true rfl) ?_
                exact q_cret (post := fun z n1 σ1 => n1 = n ∧ σ1 = cS t b σ0 A B P ∧ cd3 (0 ≤ ca ∧ ca < (A 20).toInt) ((-999999 ≤ fr ∧ fr ≤ 999999) ∧ (fr ≤ to ∧ to ≤ 999999) ∧ 0 ≤ part ∧ part ≤ 2) ((fst (rw_ ca) (-2000) ≤ fr ∧ fr < fst (rw_ ca) 2001) ∧ fst (rw_ ca) (-2000) ≤ to ∧ to < fst (rw_ ca) 2001) = 0 ∧ z.toInt = (if part = 0 then spY (rw_ ca) fr to else if part = 1 then spM (rw_ ca) (ylat (rw_ ca) fr (spY (rw_ ca) fr to)) to else to - mlat (rw_ ca) (ylat (rw_ ca) fr (spY (rw_ ca) fr to)) (spM (rw_ ca) (ylat (rw_ ca) fr (spY (rw_ ca) fr to)) to))) X w dX8_span_124 rfl ⟨rfl, rfl, cd3_0 hin_2 (by omega) ⟨hi_53, hi_47⟩, by rw [if_neg k_76, if_neg k_105]; exact p_123⟩
              · skip
                have k_105 : part = 1 := (g_eq e_part (show (1 : Int32).toInt = 1 from rfl)).mp c_105
                refine lv_iload hx hb dX8_span_108 (lv_at hl 0 rfl) ?_
                refine lv_goto (tgt := 124) hx hb dX8_span_110 (by decide) ?_
                refine vx_ret ?_
                refine W.widen (k := 5) (n := 30) (Nat.le_of_ble_eq_true rfl) (Nat.le_of_ble_eq_true rfl) ?_
                exact q_cret (post := fun z n1 σ1 => n1 = n ∧ σ1 = cS t b σ0 A B P ∧ cd3 (0 ≤ ca ∧ ca < (A 20).toInt) ((-999999 ≤ fr ∧ fr ≤ 999999) ∧ (fr ≤ to ∧ to ≤ 999999) ∧ 0 ≤ part ∧ part ≤ 2) ((fst (rw_ ca) (-2000) ≤ fr ∧ fr < fst (rw_ ca) 2001) ∧ fst (rw_ ca) (-2000) ≤ to ∧ to < fst (rw_ ca) 2001) = 0 ∧ z.toInt = (if part = 0 then spY (rw_ ca) fr to else if part = 1 then spM (rw_ ca) (ylat (rw_ ca) fr (spY (rw_ ca) fr to)) to else to - mlat (rw_ ca) (ylat (rw_ ca) fr (spY (rw_ ca) fr to)) (spM (rw_ ca) (ylat (rw_ ca) fr (spY (rw_ ca) fr to)) to))) X w dX8_span_124 rfl ⟨rfl, rfl, cd3_0 hin_2 (by omega) ⟨hi_53, hi_47⟩, by rw [if_neg k_76, if_pos k_105]; exact z_97⟩
            · skip
              have k_76 : part = 0 := (g_eq e_part (show (0 : Int32).toInt = 0 from rfl)).mp c_76
              refine lv_iload hx hb dX8_span_79 (lv_at hl 0 rfl) ?_
              refine vx_ret ?_
              refine W.widen (k := 5) (n := 30) (Nat.le_of_ble_eq_true rfl) (Nat.le_of_ble_eq_true rfl) ?_
              exact q_cret (post := fun z n1 σ1 => n1 = n ∧ σ1 = cS t b σ0 A B P ∧ cd3 (0 ≤ ca ∧ ca < (A 20).toInt) ((-999999 ≤ fr ∧ fr ≤ 999999) ∧ (fr ≤ to ∧ to ≤ 999999) ∧ 0 ≤ part ∧ part ≤ 2) ((fst (rw_ ca) (-2000) ≤ fr ∧ fr < fst (rw_ ca) 2001) ∧ fst (rw_ ca) (-2000) ≤ to ∧ to < fst (rw_ ca) 2001) = 0 ∧ z.toInt = (if part = 0 then spY (rw_ ca) fr to else if part = 1 then spM (rw_ ca) (ylat (rw_ ca) fr (spY (rw_ ca) fr to)) to else to - mlat (rw_ ca) (ylat (rw_ ca) fr (spY (rw_ ca) fr to)) (spM (rw_ ca) (ylat (rw_ ca) fr (spY (rw_ ca) fr to)) to))) X w dX8_span_81 rfl ⟨rfl, rfl, cd3_0 hin_2 (by omega) ⟨hi_53, hi_47⟩, by rw [if_pos k_76]; exact hs⟩
