theorem dod_iff {ρ : Row} {y m d : Int} : (-999999 ≤ dod ρ y m d ∧ dod ρ y m d ≤ 999999) ↔ ((((-2000 ≤ y ∧ y ≤ 2000) ∧ 1 ≤ m ∧ m ≤ mcnt ρ y) ∧ 1 ≤ d ∧ d ≤ mlen ρ y m) ∧ -999999 ≤ dnum ρ y m d ∧ dnum ρ y m d ≤ 999999) := by
  unfold dod
  by_cases c : ((-2000 ≤ y ∧ y ≤ 2000) ∧ 1 ≤ m ∧ m ≤ mcnt ρ y) ∧ 1 ≤ d ∧ d ≤ mlen ρ y m
  · rw [if_pos c]
    exact ⟨fun h => ⟨c, h⟩, fun h => h.2⟩
  · rw [if_neg c]
    exact ⟨fun h => by omega, fun h => absurd h.1 c⟩
theorem dod_eq {ρ : Row} {y m d : Int} (h : (((-2000 ≤ y ∧ y ≤ 2000) ∧ 1 ≤ m ∧ m ≤ mcnt ρ y) ∧ 1 ≤ d ∧ d ≤ mlen ρ y m) ∧ -999999 ≤ dnum ρ y m d ∧ dnum ρ y m d ≤ 999999) : dod ρ y m d = dnum ρ y m d := if_pos h.1
theorem wk_ct {ρ : Row} (h : okRow ρ) (y : Int) : (fw ρ (y + 1) - fw ρ y) / rv ρ 30 ≤ 1000 := by
  have a := fw_bd h y
  have c := fw_bd h (y + 1)
  have d := h.yl y
  have e := fst_succ ρ y
  have f := fw_mono h (show y < y + 1 by omega)
  have g := Int.ediv_le_self (rv ρ 30) (show 0 ≤ fw ρ (y + 1) - fw ρ y by omega)
  omega

set_option maxHeartbeats 2000000 in
set_option maxRecDepth 100000 in
theorem c_X8_dayOf (l : Launch) (D : va_G) (t : Nat → ClassId) (b n : Nat) (σ0 : qM) (A : Nat → Int32) (B : Nat → Nat → Int32) (P : Nat → Nat → Option Nat) (hl0 : l.stackTraces = false) (rw_ : Int → Row) (fe : Int → Int → Int32) (hQ : stQ t b σ0 A P 0 rw_ fe) (a_ca : Int32) (ca : Int) (e_ca : a_ca.toInt = ca) (a_yr : Int32) (yr : Int) (e_yr : a_yr.toInt = yr) (a_mo : Int32) (mo : Int) (e_mo : a_mo.toInt = mo) (a_da : Int32) (da : Int) (e_da : a_da.toInt = da) : xC l yX8_dayOf cX8_dayOf 6 (some .int) 7 2 12 D t b n (cS t b σ0 A B P) [.ref (b + 0), .int a_ca, .int a_yr, .int a_mo, .int a_da] (fun z n1 σ1 => n1 = n ∧ σ1 = cS t b σ0 A B P ∧ cd2 (0 ≤ ca ∧ ca < (A 20).toInt) ((((-2000 ≤ yr ∧ yr ≤ 2000) ∧ 1 ≤ mo ∧ mo ≤ mcnt (rw_ ca) yr) ∧ 1 ≤ da ∧ da ≤ mlen (rw_ ca) yr mo) ∧ -999999 ≤ dnum (rw_ ca) yr mo da ∧ dnum (rw_ ca) yr mo da ≤ 999999) = 0 ∧ z.toInt = dnum (rw_ ca) yr mo da) (fun E n1 σ1 => σ1 = cS t b σ0 A B P ∧ xE E = cd2 (0 ≤ ca ∧ ca < (A 20).toInt) ((((-2000 ≤ yr ∧ yr ≤ 2000) ∧ 1 ≤ mo ∧ mo ≤ mcnt (rw_ ca) yr) ∧ 1 ≤ da ∧ da ≤ mlen (rw_ ca) yr mo) ∧ -999999 ≤ dnum (rw_ ca) yr mo da ∧ dnum (rw_ ca) yr mo da ≤ 999999)) := by
  refine xC.of (by decide +kernel) (Nat.le_of_ble_eq_true rfl) (fun p e s m args below meth c X hE hno w ls hl => ?_)
  have hx := X.1
  have hb := X.2.1
  have hl : lv_has ls 6 [(0, .ref (b + 0)), (1, .int a_ca), (2, .int a_yr), (3, .int a_mo), (4, .int a_da)] := hl
  have hnn := hQ.1
  refine lv_aload_n hx hb dX8_dayOf_0 rfl (lv_at hl 0 rfl) ?_
  refine lv_iload_n hx hb dX8_dayOf_1 rfl (lv_at hl 1 rfl) ?_
  refine x_cAV X hE hno w (c_X8_existing l D t b n σ0 A B P hl0 hQ.ok a_ca ca e_ca) v_X8_149 (k := 0) rfl rfl rfl ⟨Nat.le_of_ble_eq_true rfl, Nat.le_of_ble_eq_true rfl⟩ rfl hl.1 (Nat.le_of_ble_eq_true rfl) dX8_dayOf_2 ⟨Nat.le_of_ble_eq_true rfl, Nat.le_of_ble_eq_true rfl⟩ ⟨Nat.le_of_ble_eq_true rfl, Nat.le_of_ble_eq_true rfl⟩ (fun E n1 σ1 hz => ⟨hz.2.1, by rw [hz.1]; exact xE_io.trans (cd2_1 hz.2.2).symm⟩) (fun o_2 n_2 σ_2 H locs z_2 w => ?_)
  obtain ⟨en_2, es_2, eo_2, hin_2⟩ := z_2
  rw [en_2, es_2] at w
  obtain ⟨q_2, L_2, C_2, K_2, fl_2, fc_2, eq_2, hbc_2, hcp_2⟩ := hQ.2.1 ca hin_2.1 hin_2.2
  have hcp_2 := hcp_2.cS (A := A) (B := B) (P := P) hbc_2
  have eo_2 : o_2 = some q_2 := eo_2.trans eq_2
  subst eo_2
  have hok_2 : okRow (rw_ ca) := hcp_2.2.2.2.1
  refine lv_iload_n hx hb dX8_dayOf_5 rfl (lv_at hl 2 rfl) ?_
  refine lv_iload_n hx hb dX8_dayOf_6 rfl (lv_at hl 3 rfl) ?_
  refine lv_iload hx hb dX8_dayOf_7 (lv_at hl 4 rfl) ?_
  refine q_cPV X w (c_X0_dayOfDate l D t b n _ q_2 L_2 C_2 K_2 fl_2 fc_2 _ hcp_2 a_yr a_mo a_da yr mo da e_yr e_mo e_da ) v_X8_183 (k := q_2) hcp_2.1 rfl rfl ⟨Nat.le_of_ble_eq_true rfl, Nat.le_of_ble_eq_true rfl⟩ rfl hl.1 (Nat.le_of_ble_eq_true rfl) dX8_dayOf_9 ⟨Nat.le_of_ble_eq_true rfl, Nat.le_of_ble_eq_true rfl⟩ (fun r_9 z_9 => ?_)
  refine lv_istore (lv' := [(5, .int r_9), (0, .ref (b + 0)), (1, .int a_ca), (2, .int a_yr), (3, .int a_mo), (4, .int a_da)]) hx hb dX8_dayOf_12 hl (by decide) rfl (fun ls hl => ?_)
  refine lv_iload hx hb dX8_dayOf_14 (lv_at hl 0 rfl) ?_
  refine q_cPS X w (c_X8_isDay l r_9 (dod (rw_ ca) yr mo da) z_9 D t b n (cS t b σ0 A B P)) v_X8_187 rfl ⟨Nat.le_of_ble_eq_true rfl, Nat.le_of_ble_eq_true rfl⟩ rfl hl.1 (Nat.le_of_ble_eq_true rfl) dX8_dayOf_16 ⟨Nat.le_of_ble_eq_true rfl, Nat.le_of_ble_eq_true rfl⟩ (fun r_16 z_16 => ?_)
  refine x_cVS X hE hno w (c_X8_demand l D t b n σ0 A B P hl0 r_16) v_X8_103 rfl ⟨Nat.le_of_ble_eq_true rfl, Nat.le_of_ble_eq_true rfl⟩ rfl hl.1 (Nat.le_of_ble_eq_true rfl) dX8_dayOf_19 ⟨Nat.le_of_ble_eq_true rfl, Nat.le_of_ble_eq_true rfl⟩ ⟨Nat.le_of_ble_eq_true rfl, Nat.le_of_ble_eq_true rfl⟩ (fun E n1 σ1 hz => ⟨hz.2.1, by rw [hz.1]; exact xE_ia.trans (cd2_2 hin_2 (fun y => (bI_f.mp (by have y := hz.2.2; rw [z_16] at y; exact y)) (dod_iff.mpr y))).symm⟩) (fun n_19 σ_19 H locs z_19 w => ?_)
  rw [z_19.1, z_19.2.1] at w
  have k_19 : -999999 ≤ (dod (rw_ ca) yr mo da) ∧ (dod (rw_ ca) yr mo da) ≤ 999999 := by have y := z_19.2.2; rw [z_16] at y; exact bI_t.mp y
  refine lv_iload hx hb dX8_dayOf_22 (lv_at hl 0 rfl) ?_
  refine vx_ret ?_
  refine W.widen (k := 2) (n := 12) (Nat.le_of_ble_eq_true rfl) (Nat.le_of_ble_eq_true rfl) ?_
  exact q_cret (post := fun z n1 σ1 => n1 = n ∧ σ1 = cS t b σ0 A B P ∧ cd2 (0 ≤ ca ∧ ca < (A 20).toInt) ((((-2000 ≤ yr ∧ yr ≤ 2000) ∧ 1 ≤ mo ∧ mo ≤ mcnt (rw_ ca) yr) ∧ 1 ≤ da ∧ da ≤ mlen (rw_ ca) yr mo) ∧ -999999 ≤ dnum (rw_ ca) yr mo da ∧ dnum (rw_ ca) yr mo da ≤ 999999) = 0 ∧ z.toInt = dnum (rw_ ca) yr mo da) X w dX8_dayOf_24 rfl ⟨rfl, rfl, cd2_0 hin_2 (dod_iff.mp k_19), z_9.trans (dod_eq (dod_iff.mp k_19))⟩

set_option maxHeartbeats 2000000 in
set_option maxRecDepth 100000 in
theorem c_X8_date (l : Launch) (D : va_G) (t : Nat → ClassId) (b n : Nat) (σ0 : qM) (A : Nat → Int32) (B : Nat → Nat → Int32) (P : Nat → Nat → Option Nat) (hl0 : l.stackTraces = false) (rw_ : Int → Row) (fe : Int → Int → Int32) (hQ : stQ t b σ0 A P 0 rw_ fe) (a_ca : Int32) (ca : Int) (e_ca : a_ca.toInt = ca) (a_dy : Int32) (dy : Int) (e_dy : a_dy.toInt = dy) (a_part : Int32) (part : Int) (e_part : a_part.toInt = part) : xC l yX8_date cX8_date 5 (some .int) 7 3 18 D t b n (cS t b σ0 A B P) [.ref (b + 0), .int a_ca, .int a_dy, .int a_part] (fun z n1 σ1 => n1 = n ∧ σ1 = cS t b σ0 A B P ∧ cd3 (0 ≤ ca ∧ ca < (A 20).toInt) ((-999999 ≤ dy ∧ dy ≤ 999999) ∧ 0 ≤ part ∧ part ≤ 4) (fst (rw_ ca) (-2000) ≤ dy ∧ dy < fst (rw_ ca) 2001) = 0 ∧ z.toInt = pof (rw_ ca) dy part) (fun E n1 σ1 => σ1 = cS t b σ0 A B P ∧ xE E = cd3 (0 ≤ ca ∧ ca < (A 20).toInt) ((-999999 ≤ dy ∧ dy ≤ 999999) ∧ 0 ≤ part ∧ part ≤ 4) (fst (rw_ ca) (-2000) ≤ dy ∧ dy < fst (rw_ ca) 2001)) := by
  refine xC.of (by decide +kernel) (Nat.le_of_ble_eq_true rfl) (fun p e s m args below meth c X hE hno w ls hl => ?_)
  have hx := X.1
  have hb := X.2.1
  have hl : lv_has ls 5 [(0, .ref (b + 0)), (1, .int a_ca), (2, .int a_dy), (3, .int a_part)] := hl
  have hnn := hQ.1
  refine lv_aload_n hx hb dX8_date_0 rfl (lv_at hl 0 rfl) ?_
  refine lv_iload_n hx hb dX8_date_1 rfl (lv_at hl 1 rfl) ?_
  refine x_cAV X hE hno w (c_X8_existing l D t b n σ0 A B P hl0 hQ.ok a_ca ca e_ca) v_X8_149 (k := 0) rfl rfl rfl ⟨Nat.le_of_ble_eq_true rfl, Nat.le_of_ble_eq_true rfl⟩ rfl hl.1 (Nat.le_of_ble_eq_true rfl) dX8_date_2 ⟨Nat.le_of_ble_eq_true rfl, Nat.le_of_ble_eq_true rfl⟩ ⟨Nat.le_of_ble_eq_true rfl, Nat.le_of_ble_eq_true rfl⟩ (fun E n1 σ1 hz => ⟨hz.2.1, by rw [hz.1]; exact xE_io.trans (cd3_1 hz.2.2).symm⟩) (fun o_2 n_2 σ_2 H locs z_2 w => ?_)
  obtain ⟨en_2, es_2, eo_2, hin_2⟩ := z_2
  rw [en_2, es_2] at w
  obtain ⟨q_2, L_2, C_2, K_2, fl_2, fc_2, eq_2, hbc_2, hcp_2⟩ := hQ.2.1 ca hin_2.1 hin_2.2
  have hcp_2 := hcp_2.cS (A := A) (B := B) (P := P) hbc_2
  have eo_2 : o_2 = some q_2 := eo_2.trans eq_2
  subst eo_2
  have hok_2 : okRow (rw_ ca) := hcp_2.2.2.2.1
  refine lv_astore (lv' := [(4, .ref (b + q_2)), (0, .ref (b + 0)), (1, .int a_ca), (2, .int a_dy), (3, .int a_part)]) hx hb dX8_date_5 hl (by decide) rfl (fun ls hl => ?_)
  refine lv_iload_n hx hb dX8_date_7 rfl (lv_at hl 3 rfl) ?_
  refine q_cPS X w (c_X8_isDay l a_dy dy e_dy D t b n (cS t b σ0 A B P)) v_X8_187 rfl ⟨Nat.le_of_ble_eq_true rfl, Nat.le_of_ble_eq_true rfl⟩ rfl hl.1 (Nat.le_of_ble_eq_true rfl) dX8_date_8 ⟨Nat.le_of_ble_eq_true rfl, Nat.le_of_ble_eq_true rfl⟩ (fun r_8 z_8 => ?_)
  refine lv_if_eq (tgt := 27) hx hb dX8_date_11 (by decide) (fun c_11 => ?_) (fun c_11 => ?_)
  · skip
    rw [z_8] at c_11
    have k_11 := bI_f.mp c_11
    refine lv_iconst (v := 0) hx hb dX8_date_27 (by decide) ?_
    refine x_cVS X hE hno w (c_X8_demand l D t b n σ0 A B P hl0 0) v_X8_103 rfl ⟨Nat.le_of_ble_eq_true rfl, Nat.le_of_ble_eq_true rfl⟩ rfl hl.1 (Nat.le_of_ble_eq_true rfl) dX8_date_28 ⟨Nat.le_of_ble_eq_true rfl, Nat.le_of_ble_eq_true rfl⟩ ⟨Nat.le_of_ble_eq_true rfl, Nat.le_of_ble_eq_true rfl⟩ (fun E n1 σ1 hz => ⟨hz.2.1, by rw [hz.1]; exact xE_ia.trans (cd3_2 hin_2 (by omega)).symm⟩) (fun n_28 σ_28 H locs z_28 w => ?_)
    exact absurd rfl z_28.2.2
  · skip
    rw [z_8] at c_11
    have k_11 := bI_t.mp c_11
    refine lv_iload_n hx hb dX8_date_14 rfl (lv_at hl 4 rfl) ?_
    refine lv_iconst (v := 0) hx hb dX8_date_15 (by decide) ?_
    refine lv_iconst (v := 4) hx hb dX8_date_16 (by decide) ?_
    refine q_cPS X w (c_X8_isFrom l a_part 0 4 part 0 4 e_part (show (0 : Int32).toInt = 0 from rfl) (show (4 : Int32).toInt = 4 from rfl) D t b n (cS t b σ0 A B P)) v_X8_99 rfl ⟨Nat.le_of_ble_eq_true rfl, Nat.le_of_ble_eq_true rfl⟩ rfl hl.1 (Nat.le_of_ble_eq_true rfl) dX8_date_17 ⟨Nat.le_of_ble_eq_true rfl, Nat.le_of_ble_eq_true rfl⟩ (fun r_17 z_17 => ?_)
    refine lv_if_eq (tgt := 27) hx hb dX8_date_20 (by decide) (fun c_20 => ?_) (fun c_20 => ?_)
    · skip
      rw [z_17] at c_20
      have k_20 := bI_f.mp c_20
      refine lv_iconst (v := 0) hx hb dX8_date_27 (by decide) ?_
      refine x_cVS X hE hno w (c_X8_demand l D t b n σ0 A B P hl0 0) v_X8_103 rfl ⟨Nat.le_of_ble_eq_true rfl, Nat.le_of_ble_eq_true rfl⟩ rfl hl.1 (Nat.le_of_ble_eq_true rfl) dX8_date_28 ⟨Nat.le_of_ble_eq_true rfl, Nat.le_of_ble_eq_true rfl⟩ ⟨Nat.le_of_ble_eq_true rfl, Nat.le_of_ble_eq_true rfl⟩ (fun E n1 σ1 hz => ⟨hz.2.1, by rw [hz.1]; exact xE_ia.trans (cd3_2 hin_2 (by omega)).symm⟩) (fun n_28 σ_28 H locs z_28 w => ?_)
      exact absurd rfl z_28.2.2
    · skip
      rw [z_17] at c_20
      have k_20 := bI_t.mp c_20
      refine lv_iconst (v := 1) hx hb dX8_date_23 (by decide) ?_
      refine lv_goto (tgt := 28) hx hb dX8_date_24 (by decide) ?_
      refine x_cVS X hE hno w (c_X8_demand l D t b n σ0 A B P hl0 1) v_X8_103 rfl ⟨Nat.le_of_ble_eq_true rfl, Nat.le_of_ble_eq_true rfl⟩ rfl hl.1 (Nat.le_of_ble_eq_true rfl) dX8_date_28 ⟨Nat.le_of_ble_eq_true rfl, Nat.le_of_ble_eq_true rfl⟩ ⟨Nat.le_of_ble_eq_true rfl, Nat.le_of_ble_eq_true rfl⟩ (fun E n1 σ1 hz => absurd hz.2.2 (by decide)) (fun n_28 σ_28 H locs z_28 w => ?_)
      rw [z_28.1, z_28.2.1] at w
      refine lv_aload hx hb dX8_date_31 (lv_at hl 0 rfl) ?_
      refine lv_aload hx hb dX8_date_33 (lv_at hl 0 rfl) ?_
      refine lv_iload_n hx hb dX8_date_35 rfl (lv_at hl 3 rfl) ?_
      refine x_cCS X hE hno w (c_X8_yearInside l D t b n σ0 A B P hl0 q_2 L_2 C_2 K_2 fl_2 fc_2 _ hcp_2 a_dy dy e_dy) v_X8_190 rfl ⟨Nat.le_of_ble_eq_true rfl, Nat.le_of_ble_eq_true rfl⟩ rfl hl.1 (Nat.le_of_ble_eq_true rfl) dX8_date_36 ⟨Nat.le_of_ble_eq_true rfl, Nat.le_of_ble_eq_true rfl⟩ ⟨Nat.le_of_ble_eq_true rfl, Nat.le_of_ble_eq_true rfl⟩ (fun E n1 σ1 hz => ⟨hz.2.1, by rw [hz.1]; exact xE_ns.trans (cd3_3 hin_2 (by omega) ((yoc_iff hok_2).mp hz.2.2)).symm⟩) (fun r_36 n_36 σ_36 H locs z_36 w => ?_)
      rw [z_36.1, z_36.2.1] at w
      have hi_36 : fst (rw_ ca) (-2000) ≤ dy ∧ dy < fst (rw_ ca) 2001 := by by_cases y : fst (rw_ ca) (-2000) ≤ dy ∧ dy < fst (rw_ ca) 2001; (exact y); (exact absurd ((yoc_iff hok_2).mpr y) z_36.2.2.2)
      have hy_36 : r_36.toInt = yof (rw_ ca) dy := z_36.2.2.1.trans (if_pos hi_36)
      refine lv_iload_n hx hb dX8_date_39 rfl (lv_at hl 3 rfl) ?_
      refine lv_iload_n hx hb dX8_date_40 rfl (lv_at hl 4 rfl) ?_
      refine q_cPV X w (c_X0_partOfDate l D t b n _ q_2 L_2 C_2 K_2 fl_2 fc_2 _ hcp_2 r_36 a_dy a_part (yof (rw_ ca) dy) dy part hy_36 e_dy e_part (by exact hi_36) (by rfl) (by omega)) v_X8_194 (k := q_2) hcp_2.1 rfl rfl ⟨Nat.le_of_ble_eq_true rfl, Nat.le_of_ble_eq_true rfl⟩ rfl hl.1 (Nat.le_of_ble_eq_true rfl) dX8_date_41 ⟨Nat.le_of_ble_eq_true rfl, Nat.le_of_ble_eq_true rfl⟩ (fun r_41 z_41 => ?_)
      refine vx_ret ?_
      refine W.widen (k := 3) (n := 18) (Nat.le_of_ble_eq_true rfl) (Nat.le_of_ble_eq_true rfl) ?_
      exact q_cret (post := fun z n1 σ1 => n1 = n ∧ σ1 = cS t b σ0 A B P ∧ cd3 (0 ≤ ca ∧ ca < (A 20).toInt) ((-999999 ≤ dy ∧ dy ≤ 999999) ∧ 0 ≤ part ∧ part ≤ 4) (fst (rw_ ca) (-2000) ≤ dy ∧ dy < fst (rw_ ca) 2001) = 0 ∧ z.toInt = pof (rw_ ca) dy part) X w dX8_date_44 rfl ⟨rfl, rfl, cd3_0 hin_2 (by omega) hi_36, z_41⟩

set_option maxHeartbeats 2000000 in
set_option maxRecDepth 100000 in
theorem c_X8_week (l : Launch) (D : va_G) (t : Nat → ClassId) (b n : Nat) (σ0 : qM) (A : Nat → Int32) (B : Nat → Nat → Int32) (P : Nat → Nat → Option Nat) (hl0 : l.stackTraces = false) (rw_ : Int → Row) (fe : Int → Int → Int32) (hQ : stQ t b σ0 A P 0 rw_ fe) (a_ca : Int32) (ca : Int) (e_ca : a_ca.toInt = ca) (a_dy : Int32) (dy : Int) (e_dy : a_dy.toInt = dy) (a_part : Int32) (part : Int) (e_part : a_part.toInt = part) : xC l yX8_week cX8_week 6 (some .int) 7 3 18 D t b n (cS t b σ0 A B P) [.ref (b + 0), .int a_ca, .int a_dy, .int a_part] (fun z n1 σ1 => n1 = n ∧ σ1 = cS t b σ0 A B P ∧ cd3 (0 ≤ ca ∧ ca < (A 20).toInt) ((-999999 ≤ dy ∧ dy ≤ 999999) ∧ 0 ≤ part ∧ part ≤ 1) (fst (rw_ ca) (-2000) ≤ dy ∧ dy < fst (rw_ ca) 2001) = 0 ∧ z.toInt = (if part = 0 then wyr (rw_ ca) dy else (dy - fw (rw_ ca) (wyr (rw_ ca) dy)) / rv (rw_ ca) 30 + 1)) (fun E n1 σ1 => σ1 = cS t b σ0 A B P ∧ xE E = cd3 (0 ≤ ca ∧ ca < (A 20).toInt) ((-999999 ≤ dy ∧ dy ≤ 999999) ∧ 0 ≤ part ∧ part ≤ 1) (fst (rw_ ca) (-2000) ≤ dy ∧ dy < fst (rw_ ca) 2001)) := by
  refine xC.of (by decide +kernel) (Nat.le_of_ble_eq_true rfl) (fun p e s m args below meth c X hE hno w ls hl => ?_)
  have hx := X.1
  have hb := X.2.1
  have hl : lv_has ls 6 [(0, .ref (b + 0)), (1, .int a_ca), (2, .int a_dy), (3, .int a_part)] := hl
  have hnn := hQ.1
  refine lv_aload_n hx hb dX8_week_0 rfl (lv_at hl 0 rfl) ?_
  refine lv_iload_n hx hb dX8_week_1 rfl (lv_at hl 1 rfl) ?_
  refine x_cAV X hE hno w (c_X8_existing l D t b n σ0 A B P hl0 hQ.ok a_ca ca e_ca) v_X8_149 (k := 0) rfl rfl rfl ⟨Nat.le_of_ble_eq_true rfl, Nat.le_of_ble_eq_true rfl⟩ rfl hl.1 (Nat.le_of_ble_eq_true rfl) dX8_week_2 ⟨Nat.le_of_ble_eq_true rfl, Nat.le_of_ble_eq_true rfl⟩ ⟨Nat.le_of_ble_eq_true rfl, Nat.le_of_ble_eq_true rfl⟩ (fun E n1 σ1 hz => ⟨hz.2.1, by rw [hz.1]; exact xE_io.trans (cd3_1 hz.2.2).symm⟩) (fun o_2 n_2 σ_2 H locs z_2 w => ?_)
  obtain ⟨en_2, es_2, eo_2, hin_2⟩ := z_2
  rw [en_2, es_2] at w
  obtain ⟨q_2, L_2, C_2, K_2, fl_2, fc_2, eq_2, hbc_2, hcp_2⟩ := hQ.2.1 ca hin_2.1 hin_2.2
  have hcp_2 := hcp_2.cS (A := A) (B := B) (P := P) hbc_2
  have eo_2 : o_2 = some q_2 := eo_2.trans eq_2
  subst eo_2
  have hok_2 : okRow (rw_ ca) := hcp_2.2.2.2.1
  refine lv_astore (lv' := [(4, .ref (b + q_2)), (0, .ref (b + 0)), (1, .int a_ca), (2, .int a_dy), (3, .int a_part)]) hx hb dX8_week_5 hl (by decide) rfl (fun ls hl => ?_)
  refine lv_iload_n hx hb dX8_week_7 rfl (lv_at hl 3 rfl) ?_
  refine q_cPS X w (c_X8_isDay l a_dy dy e_dy D t b n (cS t b σ0 A B P)) v_X8_187 rfl ⟨Nat.le_of_ble_eq_true rfl, Nat.le_of_ble_eq_true rfl⟩ rfl hl.1 (Nat.le_of_ble_eq_true rfl) dX8_week_8 ⟨Nat.le_of_ble_eq_true rfl, Nat.le_of_ble_eq_true rfl⟩ (fun r_8 z_8 => ?_)
  refine lv_if_eq (tgt := 27) hx hb dX8_week_11 (by decide) (fun c_11 => ?_) (fun c_11 => ?_)
  · skip
    rw [z_8] at c_11
    have k_11 := bI_f.mp c_11
    refine lv_iconst (v := 0) hx hb dX8_week_27 (by decide) ?_
    refine x_cVS X hE hno w (c_X8_demand l D t b n σ0 A B P hl0 0) v_X8_103 rfl ⟨Nat.le_of_ble_eq_true rfl, Nat.le_of_ble_eq_true rfl⟩ rfl hl.1 (Nat.le_of_ble_eq_true rfl) dX8_week_28 ⟨Nat.le_of_ble_eq_true rfl, Nat.le_of_ble_eq_true rfl⟩ ⟨Nat.le_of_ble_eq_true rfl, Nat.le_of_ble_eq_true rfl⟩ (fun E n1 σ1 hz => ⟨hz.2.1, by rw [hz.1]; exact xE_ia.trans (cd3_2 hin_2 (by omega)).symm⟩) (fun n_28 σ_28 H locs z_28 w => ?_)
    exact absurd rfl z_28.2.2
  · skip
    rw [z_8] at c_11
    have k_11 := bI_t.mp c_11
    refine lv_iload_n hx hb dX8_week_14 rfl (lv_at hl 4 rfl) ?_
    refine lv_iconst (v := 0) hx hb dX8_week_15 (by decide) ?_
    refine lv_iconst (v := 1) hx hb dX8_week_16 (by decide) ?_
    refine q_cPS X w (c_X8_isFrom l a_part 0 1 part 0 1 e_part (show (0 : Int32).toInt = 0 from rfl) (show (1 : Int32).toInt = 1 from rfl) D t b n (cS t b σ0 A B P)) v_X8_99 rfl ⟨Nat.le_of_ble_eq_true rfl, Nat.le_of_ble_eq_true rfl⟩ rfl hl.1 (Nat.le_of_ble_eq_true rfl) dX8_week_17 ⟨Nat.le_of_ble_eq_true rfl, Nat.le_of_ble_eq_true rfl⟩ (fun r_17 z_17 => ?_)
    refine lv_if_eq (tgt := 27) hx hb dX8_week_20 (by decide) (fun c_20 => ?_) (fun c_20 => ?_)
    · skip
      rw [z_17] at c_20
      have k_20 := bI_f.mp c_20
      refine lv_iconst (v := 0) hx hb dX8_week_27 (by decide) ?_
      refine x_cVS X hE hno w (c_X8_demand l D t b n σ0 A B P hl0 0) v_X8_103 rfl ⟨Nat.le_of_ble_eq_true rfl, Nat.le_of_ble_eq_true rfl⟩ rfl hl.1 (Nat.le_of_ble_eq_true rfl) dX8_week_28 ⟨Nat.le_of_ble_eq_true rfl, Nat.le_of_ble_eq_true rfl⟩ ⟨Nat.le_of_ble_eq_true rfl, Nat.le_of_ble_eq_true rfl⟩ (fun E n1 σ1 hz => ⟨hz.2.1, by rw [hz.1]; exact xE_ia.trans (cd3_2 hin_2 (by omega)).symm⟩) (fun n_28 σ_28 H locs z_28 w => ?_)
      exact absurd rfl z_28.2.2
    · skip
      rw [z_17] at c_20
      have k_20 := bI_t.mp c_20
      refine lv_iconst (v := 1) hx hb dX8_week_23 (by decide) ?_
      refine lv_goto (tgt := 28) hx hb dX8_week_24 (by decide) ?_
      refine x_cVS X hE hno w (c_X8_demand l D t b n σ0 A B P hl0 1) v_X8_103 rfl ⟨Nat.le_of_ble_eq_true rfl, Nat.le_of_ble_eq_true rfl⟩ rfl hl.1 (Nat.le_of_ble_eq_true rfl) dX8_week_28 ⟨Nat.le_of_ble_eq_true rfl, Nat.le_of_ble_eq_true rfl⟩ ⟨Nat.le_of_ble_eq_true rfl, Nat.le_of_ble_eq_true rfl⟩ (fun E n1 σ1 hz => absurd hz.2.2 (by decide)) (fun n_28 σ_28 H locs z_28 w => ?_)
      rw [z_28.1, z_28.2.1] at w
      refine lv_aload hx hb dX8_week_31 (lv_at hl 0 rfl) ?_
      refine lv_aload hx hb dX8_week_33 (lv_at hl 0 rfl) ?_
      refine lv_iload_n hx hb dX8_week_35 rfl (lv_at hl 3 rfl) ?_
      refine x_cCS X hE hno w (c_X8_yearInside l D t b n σ0 A B P hl0 q_2 L_2 C_2 K_2 fl_2 fc_2 _ hcp_2 a_dy dy e_dy) v_X8_190 rfl ⟨Nat.le_of_ble_eq_true rfl, Nat.le_of_ble_eq_true rfl⟩ rfl hl.1 (Nat.le_of_ble_eq_true rfl) dX8_week_36 ⟨Nat.le_of_ble_eq_true rfl, Nat.le_of_ble_eq_true rfl⟩ ⟨Nat.le_of_ble_eq_true rfl, Nat.le_of_ble_eq_true rfl⟩ (fun E n1 σ1 hz => ⟨hz.2.1, by rw [hz.1]; exact xE_ns.trans (cd3_3 hin_2 (by omega) ((yoc_iff hok_2).mp hz.2.2)).symm⟩) (fun r_36 n_36 σ_36 H locs z_36 w => ?_)
      rw [z_36.1, z_36.2.1] at w
      have hi_36 : fst (rw_ ca) (-2000) ≤ dy ∧ dy < fst (rw_ ca) 2001 := by by_cases y : fst (rw_ ca) (-2000) ≤ dy ∧ dy < fst (rw_ ca) 2001; (exact y); (exact absurd ((yoc_iff hok_2).mpr y) z_36.2.2.2)
      have hy_36 : r_36.toInt = yof (rw_ ca) dy := z_36.2.2.1.trans (if_pos hi_36)
      refine lv_iload_n hx hb dX8_week_39 rfl (lv_at hl 3 rfl) ?_
      refine q_cPV X w (c_X0_weekYearOf l D t b n _ q_2 L_2 C_2 K_2 fl_2 fc_2 _ hcp_2 r_36 a_dy (yof (rw_ ca) dy) dy hy_36 e_dy (by exact hi_36) (by rfl)) v_X8_197 (k := q_2) hcp_2.1 rfl rfl ⟨Nat.le_of_ble_eq_true rfl, Nat.le_of_ble_eq_true rfl⟩ rfl hl.1 (Nat.le_of_ble_eq_true rfl) dX8_week_40 ⟨Nat.le_of_ble_eq_true rfl, Nat.le_of_ble_eq_true rfl⟩ (fun r_40 z_40 => ?_)
      refine lv_istore (lv' := [(5, .int r_40), (4, .ref (b + q_2)), (0, .ref (b + 0)), (1, .int a_ca), (2, .int a_dy), (3, .int a_part)]) hx hb dX8_week_43 hl (by decide) rfl (fun ls hl => ?_)
      refine lv_iload_n hx hb dX8_week_45 rfl (lv_at hl 5 rfl) ?_
      refine lv_if_ne (tgt := 54) hx hb dX8_week_46 (by decide) (fun c_46 => ?_) (fun c_46 => ?_)
      · skip
        have k_46 : ¬ (part = 0) := fun h => c_46 ((g_eq e_part (show (0 : Int32).toInt = 0 from rfl)).mpr h)
        refine lv_aload hx hb dX8_week_54 (lv_at hl 1 rfl) ?_
        refine lv_iload hx hb dX8_week_56 (lv_at hl 0 rfl) ?_
        refine lv_iload_n hx hb dX8_week_58 rfl (lv_at hl 4 rfl) ?_
        refine q_cPV X w (c_X0_weekNumber l D t b n _ q_2 L_2 C_2 K_2 fl_2 fc_2 _ hcp_2 r_40 a_dy (wyr (rw_ ca) dy) dy z_40 e_dy (by exact (wyr_bd hok_2 hi_36.1 hi_36.2).1) (by exact (wyr_bd hok_2 hi_36.1 hi_36.2).2)) v_X8_200 (k := q_2) hcp_2.1 rfl rfl ⟨Nat.le_of_ble_eq_true rfl, Nat.le_of_ble_eq_true rfl⟩ rfl hl.1 (Nat.le_of_ble_eq_true rfl) dX8_week_59 ⟨Nat.le_of_ble_eq_true rfl, Nat.le_of_ble_eq_true rfl⟩ (fun r_59 z_59 => ?_)
        refine vx_ret ?_
        refine W.widen (k := 3) (n := 18) (Nat.le_of_ble_eq_true rfl) (Nat.le_of_ble_eq_true rfl) ?_
        exact q_cret (post := fun z n1 σ1 => n1 = n ∧ σ1 = cS t b σ0 A B P ∧ cd3 (0 ≤ ca ∧ ca < (A 20).toInt) ((-999999 ≤ dy ∧ dy ≤ 999999) ∧ 0 ≤ part ∧ part ≤ 1) (fst (rw_ ca) (-2000) ≤ dy ∧ dy < fst (rw_ ca) 2001) = 0 ∧ z.toInt = (if part = 0 then wyr (rw_ ca) dy else (dy - fw (rw_ ca) (wyr (rw_ ca) dy)) / rv (rw_ ca) 30 + 1)) X w dX8_week_62 rfl ⟨rfl, rfl, cd3_0 hin_2 (by omega) hi_36, by rw [if_neg k_46]; exact z_59⟩
      · skip
        have k_46 : part = 0 := (g_eq e_part (show (0 : Int32).toInt = 0 from rfl)).mp c_46
        refine lv_iload hx hb dX8_week_49 (lv_at hl 0 rfl) ?_
        refine lv_goto (tgt := 62) hx hb dX8_week_51 (by decide) ?_
        refine vx_ret ?_
        refine W.widen (k := 3) (n := 18) (Nat.le_of_ble_eq_true rfl) (Nat.le_of_ble_eq_true rfl) ?_
        exact q_cret (post := fun z n1 σ1 => n1 = n ∧ σ1 = cS t b σ0 A B P ∧ cd3 (0 ≤ ca ∧ ca < (A 20).toInt) ((-999999 ≤ dy ∧ dy ≤ 999999) ∧ 0 ≤ part ∧ part ≤ 1) (fst (rw_ ca) (-2000) ≤ dy ∧ dy < fst (rw_ ca) 2001) = 0 ∧ z.toInt = (if part = 0 then wyr (rw_ ca) dy else (dy - fw (rw_ ca) (wyr (rw_ ca) dy)) / rv (rw_ ca) 30 + 1)) X w dX8_week_62 rfl ⟨rfl, rfl, cd3_0 hin_2 (by omega) hi_36, by rw [if_pos k_46]; exact z_40⟩

set_option maxHeartbeats 2000000 in
set_option maxRecDepth 100000 in
theorem c_X8_weeks (l : Launch) (D : va_G) (t : Nat → ClassId) (b n : Nat) (σ0 : qM) (A : Nat → Int32) (B : Nat → Nat → Int32) (P : Nat → Nat → Option Nat) (hl0 : l.stackTraces = false) (rw_ : Int → Row) (fe : Int → Int → Int32) (hQ : stQ t b σ0 A P 0 rw_ fe) (a_ca : Int32) (ca : Int) (e_ca : a_ca.toInt = ca) (a_yr : Int32) (yr : Int) (e_yr : a_yr.toInt = yr) : xC l yX8_weeks cX8_weeks 4 (some .int) 7 2 12 D t b n (cS t b σ0 A B P) [.ref (b + 0), .int a_ca, .int a_yr] (fun z n1 σ1 => n1 = n ∧ σ1 = cS t b σ0 A B P ∧ cd2 (0 ≤ ca ∧ ca < (A 20).toInt) (-2000 ≤ yr ∧ yr ≤ 2000) = 0 ∧ z.toInt = (fw (rw_ ca) (yr + 1) - fw (rw_ ca) yr) / rv (rw_ ca) 30) (fun E n1 σ1 => σ1 = cS t b σ0 A B P ∧ xE E = cd2 (0 ≤ ca ∧ ca < (A 20).toInt) (-2000 ≤ yr ∧ yr ≤ 2000)) := by
  refine xC.of (by decide +kernel) (Nat.le_of_ble_eq_true rfl) (fun p e s m args below meth c X hE hno w ls hl => ?_)
  have hx := X.1
  have hb := X.2.1
  have hl : lv_has ls 4 [(0, .ref (b + 0)), (1, .int a_ca), (2, .int a_yr)] := hl
  have hnn := hQ.1
  refine lv_aload_n hx hb dX8_weeks_0 rfl (lv_at hl 0 rfl) ?_
  refine lv_iload_n hx hb dX8_weeks_1 rfl (lv_at hl 1 rfl) ?_
  refine x_cAV X hE hno w (c_X8_existing l D t b n σ0 A B P hl0 hQ.ok a_ca ca e_ca) v_X8_149 (k := 0) rfl rfl rfl ⟨Nat.le_of_ble_eq_true rfl, Nat.le_of_ble_eq_true rfl⟩ rfl hl.1 (Nat.le_of_ble_eq_true rfl) dX8_weeks_2 ⟨Nat.le_of_ble_eq_true rfl, Nat.le_of_ble_eq_true rfl⟩ ⟨Nat.le_of_ble_eq_true rfl, Nat.le_of_ble_eq_true rfl⟩ (fun E n1 σ1 hz => ⟨hz.2.1, by rw [hz.1]; exact xE_io.trans (cd2_1 hz.2.2).symm⟩) (fun o_2 n_2 σ_2 H locs z_2 w => ?_)
  obtain ⟨en_2, es_2, eo_2, hin_2⟩ := z_2
  rw [en_2, es_2] at w
  obtain ⟨q_2, L_2, C_2, K_2, fl_2, fc_2, eq_2, hbc_2, hcp_2⟩ := hQ.2.1 ca hin_2.1 hin_2.2
  have hcp_2 := hcp_2.cS (A := A) (B := B) (P := P) hbc_2
  have eo_2 : o_2 = some q_2 := eo_2.trans eq_2
  subst eo_2
  have hok_2 : okRow (rw_ ca) := hcp_2.2.2.2.1
  refine lv_astore_n (lv' := [(3, .ref (b + q_2)), (0, .ref (b + 0)), (1, .int a_ca), (2, .int a_yr)]) hx hb dX8_weeks_5 rfl hl (by decide) rfl (fun ls hl => ?_)
  refine lv_iload_n hx hb dX8_weeks_6 rfl (lv_at hl 3 rfl) ?_
  refine q_cPS X w (c_X8_isYear l a_yr yr e_yr D t b n (cS t b σ0 A B P)) v_X8_157 rfl ⟨Nat.le_of_ble_eq_true rfl, Nat.le_of_ble_eq_true rfl⟩ rfl hl.1 (Nat.le_of_ble_eq_true rfl) dX8_weeks_7 ⟨Nat.le_of_ble_eq_true rfl, Nat.le_of_ble_eq_true rfl⟩ (fun r_7 z_7 => ?_)
  refine x_cVS X hE hno w (c_X8_demand l D t b n σ0 A B P hl0 r_7) v_X8_103 rfl ⟨Nat.le_of_ble_eq_true rfl, Nat.le_of_ble_eq_true rfl⟩ rfl hl.1 (Nat.le_of_ble_eq_true rfl) dX8_weeks_10 ⟨Nat.le_of_ble_eq_true rfl, Nat.le_of_ble_eq_true rfl⟩ ⟨Nat.le_of_ble_eq_true rfl, Nat.le_of_ble_eq_true rfl⟩ (fun E n1 σ1 hz => ⟨hz.2.1, by rw [hz.1]; exact xE_ia.trans (cd2_2 hin_2 (bI_f.mp (by have y := hz.2.2; rw [z_7] at y; exact y))).symm⟩) (fun n_10 σ_10 H locs z_10 w => ?_)
  rw [z_10.1, z_10.2.1] at w
  have k_10 : -2000 ≤ yr ∧ yr ≤ 2000 := by have y := z_10.2.2; rw [z_7] at y; exact bI_t.mp y
  refine lv_aload_n hx hb dX8_weeks_13 rfl (lv_at hl 0 rfl) ?_
  refine lv_iload_n hx hb dX8_weeks_14 rfl (lv_at hl 3 rfl) ?_
  refine q_cPV X w (c_X0_weekCount l D t b n _ q_2 L_2 C_2 K_2 fl_2 fc_2 _ hcp_2 a_yr yr e_yr (by omega)) v_X8_203 (k := q_2) hcp_2.1 rfl rfl ⟨Nat.le_of_ble_eq_true rfl, Nat.le_of_ble_eq_true rfl⟩ rfl hl.1 (Nat.le_of_ble_eq_true rfl) dX8_weeks_15 ⟨Nat.le_of_ble_eq_true rfl, Nat.le_of_ble_eq_true rfl⟩ (fun r_15 z_15 => ?_)
  refine vx_ret ?_
  refine W.widen (k := 2) (n := 12) (Nat.le_of_ble_eq_true rfl) (Nat.le_of_ble_eq_true rfl) ?_
  exact q_cret (post := fun z n1 σ1 => n1 = n ∧ σ1 = cS t b σ0 A B P ∧ cd2 (0 ≤ ca ∧ ca < (A 20).toInt) (-2000 ≤ yr ∧ yr ≤ 2000) = 0 ∧ z.toInt = (fw (rw_ ca) (yr + 1) - fw (rw_ ca) yr) / rv (rw_ ca) 30) X w dX8_weeks_18 rfl ⟨rfl, rfl, cd2_0 hin_2 k_10, z_15⟩

set_option maxHeartbeats 2000000 in
set_option maxRecDepth 100000 in
theorem c_X8_firstDayOfWeek (l : Launch) (D : va_G) (t : Nat → ClassId) (b n : Nat) (σ0 : qM) (A : Nat → Int32) (B : Nat → Nat → Int32) (P : Nat → Nat → Option Nat) (hl0 : l.stackTraces = false) (rw_ : Int → Row) (fe : Int → Int → Int32) (hQ : stQ t b σ0 A P 0 rw_ fe) (a_ca : Int32) (ca : Int) (e_ca : a_ca.toInt = ca) (a_yr : Int32) (yr : Int) (e_yr : a_yr.toInt = yr) (a_wk : Int32) (wk : Int) (e_wk : a_wk.toInt = wk) : xC l yX8_firstDayOfWeek cX8_firstDayOfWeek 5 (some .int) 7 2 12 D t b n (cS t b σ0 A B P) [.ref (b + 0), .int a_ca, .int a_yr, .int a_wk] (fun z n1 σ1 => n1 = n ∧ σ1 = cS t b σ0 A B P ∧ cd2 (0 ≤ ca ∧ ca < (A 20).toInt) ((-2000 ≤ yr ∧ yr ≤ 2000) ∧ 1 ≤ wk ∧ wk ≤ ((fw (rw_ ca) (yr + 1) - fw (rw_ ca) yr) / rv (rw_ ca) 30)) = 0 ∧ z.toInt = fw (rw_ ca) yr + rv (rw_ ca) 30 * (wk - 1)) (fun E n1 σ1 => σ1 = cS t b σ0 A B P ∧ xE E = cd2 (0 ≤ ca ∧ ca < (A 20).toInt) ((-2000 ≤ yr ∧ yr ≤ 2000) ∧ 1 ≤ wk ∧ wk ≤ ((fw (rw_ ca) (yr + 1) - fw (rw_ ca) yr) / rv (rw_ ca) 30))) := by
  refine xC.of (by decide +kernel) (Nat.le_of_ble_eq_true rfl) (fun p e s m args below meth c X hE hno w ls hl => ?_)
  have hx := X.1
  have hb := X.2.1
  have hl : lv_has ls 5 [(0, .ref (b + 0)), (1, .int a_ca), (2, .int a_yr), (3, .int a_wk)] := hl
  have hnn := hQ.1
  refine lv_aload_n hx hb dX8_firstDayOfWeek_0 rfl (lv_at hl 0 rfl) ?_
  refine lv_iload_n hx hb dX8_firstDayOfWeek_1 rfl (lv_at hl 1 rfl) ?_
  refine x_cAV X hE hno w (c_X8_existing l D t b n σ0 A B P hl0 hQ.ok a_ca ca e_ca) v_X8_149 (k := 0) rfl rfl rfl ⟨Nat.le_of_ble_eq_true rfl, Nat.le_of_ble_eq_true rfl⟩ rfl hl.1 (Nat.le_of_ble_eq_true rfl) dX8_firstDayOfWeek_2 ⟨Nat.le_of_ble_eq_true rfl, Nat.le_of_ble_eq_true rfl⟩ ⟨Nat.le_of_ble_eq_true rfl, Nat.le_of_ble_eq_true rfl⟩ (fun E n1 σ1 hz => ⟨hz.2.1, by rw [hz.1]; exact xE_io.trans (cd2_1 hz.2.2).symm⟩) (fun o_2 n_2 σ_2 H locs z_2 w => ?_)
  obtain ⟨en_2, es_2, eo_2, hin_2⟩ := z_2
  rw [en_2, es_2] at w
  obtain ⟨q_2, L_2, C_2, K_2, fl_2, fc_2, eq_2, hbc_2, hcp_2⟩ := hQ.2.1 ca hin_2.1 hin_2.2
  have hcp_2 := hcp_2.cS (A := A) (B := B) (P := P) hbc_2
  have eo_2 : o_2 = some q_2 := eo_2.trans eq_2
  subst eo_2
  have hok_2 : okRow (rw_ ca) := hcp_2.2.2.2.1
  refine lv_astore (lv' := [(4, .ref (b + q_2)), (0, .ref (b + 0)), (1, .int a_ca), (2, .int a_yr), (3, .int a_wk)]) hx hb dX8_firstDayOfWeek_5 hl (by decide) rfl (fun ls hl => ?_)
  refine lv_iload_n hx hb dX8_firstDayOfWeek_7 rfl (lv_at hl 3 rfl) ?_
  refine q_cPS X w (c_X8_isYear l a_yr yr e_yr D t b n (cS t b σ0 A B P)) v_X8_157 rfl ⟨Nat.le_of_ble_eq_true rfl, Nat.le_of_ble_eq_true rfl⟩ rfl hl.1 (Nat.le_of_ble_eq_true rfl) dX8_firstDayOfWeek_8 ⟨Nat.le_of_ble_eq_true rfl, Nat.le_of_ble_eq_true rfl⟩ (fun r_8 z_8 => ?_)
  refine lv_if_eq (tgt := 32) hx hb dX8_firstDayOfWeek_11 (by decide) (fun c_11 => ?_) (fun c_11 => ?_)
  · skip
    rw [z_8] at c_11
    have k_11 := bI_f.mp c_11
    refine lv_iconst (v := 0) hx hb dX8_firstDayOfWeek_32 (by decide) ?_
    refine x_cVS X hE hno w (c_X8_demand l D t b n σ0 A B P hl0 0) v_X8_103 rfl ⟨Nat.le_of_ble_eq_true rfl, Nat.le_of_ble_eq_true rfl⟩ rfl hl.1 (Nat.le_of_ble_eq_true rfl) dX8_firstDayOfWeek_33 ⟨Nat.le_of_ble_eq_true rfl, Nat.le_of_ble_eq_true rfl⟩ ⟨Nat.le_of_ble_eq_true rfl, Nat.le_of_ble_eq_true rfl⟩ (fun E n1 σ1 hz => ⟨hz.2.1, by rw [hz.1]; exact xE_ia.trans (cd2_2 hin_2 (by omega)).symm⟩) (fun n_33 σ_33 H locs z_33 w => ?_)
    exact absurd rfl z_33.2.2
  · skip
    rw [z_8] at c_11
    have k_11 := bI_t.mp c_11
    refine lv_iload_n hx hb dX8_firstDayOfWeek_14 rfl (lv_at hl 4 rfl) ?_
    refine lv_iconst (v := 1) hx hb dX8_firstDayOfWeek_15 (by decide) ?_
    refine lv_aload hx hb dX8_firstDayOfWeek_16 (lv_at hl 0 rfl) ?_
    refine lv_iload_n hx hb dX8_firstDayOfWeek_18 rfl (lv_at hl 3 rfl) ?_
    refine q_cPV X w (c_X0_weekCount l D t b n _ q_2 L_2 C_2 K_2 fl_2 fc_2 _ hcp_2 a_yr yr e_yr (by omega)) v_X8_203 (k := q_2) hcp_2.1 rfl rfl ⟨Nat.le_of_ble_eq_true rfl, Nat.le_of_ble_eq_true rfl⟩ rfl hl.1 (Nat.le_of_ble_eq_true rfl) dX8_firstDayOfWeek_19 ⟨Nat.le_of_ble_eq_true rfl, Nat.le_of_ble_eq_true rfl⟩ (fun r_19 z_19 => ?_)
    refine q_cPS X w (c_X8_isFrom l a_wk 1 r_19 wk 1 ((fw (rw_ ca) (yr + 1) - fw (rw_ ca) yr) / rv (rw_ ca) 30) e_wk (show (1 : Int32).toInt = 1 from rfl) z_19 D t b n (cS t b σ0 A B P)) v_X8_99 rfl ⟨Nat.le_of_ble_eq_true rfl, Nat.le_of_ble_eq_true rfl⟩ rfl hl.1 (Nat.le_of_ble_eq_true rfl) dX8_firstDayOfWeek_22 ⟨Nat.le_of_ble_eq_true rfl, Nat.le_of_ble_eq_true rfl⟩ (fun r_22 z_22 => ?_)
    refine lv_if_eq (tgt := 32) hx hb dX8_firstDayOfWeek_25 (by decide) (fun c_25 => ?_) (fun c_25 => ?_)
    · skip
      rw [z_22] at c_25
      have k_25 := bI_f.mp c_25
      refine lv_iconst (v := 0) hx hb dX8_firstDayOfWeek_32 (by decide) ?_
      refine x_cVS X hE hno w (c_X8_demand l D t b n σ0 A B P hl0 0) v_X8_103 rfl ⟨Nat.le_of_ble_eq_true rfl, Nat.le_of_ble_eq_true rfl⟩ rfl hl.1 (Nat.le_of_ble_eq_true rfl) dX8_firstDayOfWeek_33 ⟨Nat.le_of_ble_eq_true rfl, Nat.le_of_ble_eq_true rfl⟩ ⟨Nat.le_of_ble_eq_true rfl, Nat.le_of_ble_eq_true rfl⟩ (fun E n1 σ1 hz => ⟨hz.2.1, by rw [hz.1]; exact xE_ia.trans (cd2_2 hin_2 (by omega)).symm⟩) (fun n_33 σ_33 H locs z_33 w => ?_)
      exact absurd rfl z_33.2.2
    · skip
      rw [z_22] at c_25
      have k_25 := bI_t.mp c_25
      refine lv_iconst (v := 1) hx hb dX8_firstDayOfWeek_28 (by decide) ?_
      refine lv_goto (tgt := 33) hx hb dX8_firstDayOfWeek_29 (by decide) ?_
      refine x_cVS X hE hno w (c_X8_demand l D t b n σ0 A B P hl0 1) v_X8_103 rfl ⟨Nat.le_of_ble_eq_true rfl, Nat.le_of_ble_eq_true rfl⟩ rfl hl.1 (Nat.le_of_ble_eq_true rfl) dX8_firstDayOfWeek_33 ⟨Nat.le_of_ble_eq_true rfl, Nat.le_of_ble_eq_true rfl⟩ ⟨Nat.le_of_ble_eq_true rfl, Nat.le_of_ble_eq_true rfl⟩ (fun E n1 σ1 hz => absurd hz.2.2 (by decide)) (fun n_33 σ_33 H locs z_33 w => ?_)
      rw [z_33.1, z_33.2.1] at w
      refine lv_aload hx hb dX8_firstDayOfWeek_36 (lv_at hl 0 rfl) ?_
      refine lv_iload_n hx hb dX8_firstDayOfWeek_38 rfl (lv_at hl 3 rfl) ?_
      refine lv_iload_n hx hb dX8_firstDayOfWeek_39 rfl (lv_at hl 4 rfl) ?_
      refine q_cPV X w (c_X0_startOfWeek l D t b n _ q_2 L_2 C_2 K_2 fl_2 fc_2 _ hcp_2 a_yr a_wk yr wk e_yr e_wk (by omega) (by have := wk_ct hok_2 yr; omega)) v_X8_206 (k := q_2) hcp_2.1 rfl rfl ⟨Nat.le_of_ble_eq_true rfl, Nat.le_of_ble_eq_true rfl⟩ rfl hl.1 (Nat.le_of_ble_eq_true rfl) dX8_firstDayOfWeek_40 ⟨Nat.le_of_ble_eq_true rfl, Nat.le_of_ble_eq_true rfl⟩ (fun r_40 z_40 => ?_)
      refine vx_ret ?_
      refine W.widen (k := 2) (n := 12) (Nat.le_of_ble_eq_true rfl) (Nat.le_of_ble_eq_true rfl) ?_
      exact q_cret (post := fun z n1 σ1 => n1 = n ∧ σ1 = cS t b σ0 A B P ∧ cd2 (0 ≤ ca ∧ ca < (A 20).toInt) ((-2000 ≤ yr ∧ yr ≤ 2000) ∧ 1 ≤ wk ∧ wk ≤ ((fw (rw_ ca) (yr + 1) - fw (rw_ ca) yr) / rv (rw_ ca) 30)) = 0 ∧ z.toInt = fw (rw_ ca) yr + rv (rw_ ca) 30 * (wk - 1)) X w dX8_firstDayOfWeek_43 rfl ⟨rfl, rfl, cd2_0 hin_2 (by omega), z_40⟩
