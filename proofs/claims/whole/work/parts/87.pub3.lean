theorem mlc_day {ρ : Row} (h : okRow ρ) {d n : Int} : (-999999 ≤ mlc ρ d n ∧ mlc ρ d n ≤ 999999) ↔ (fst ρ (-2000) ≤ d ∧ d < fst ρ 2001) ∧ mlat ρ d n ≠ -2147483647 := by
  by_cases c : (fst ρ (-2000) ≤ d ∧ d < fst ρ 2001) ∧ Mb ρ (-2000) ≤ mcon ρ d + n ∧ mcon ρ d + n < Mb ρ 2001
  · rw [mlc_r c, mlat_r h c.2.1 c.2.2]
    by_cases q : -999999 ≤ mlr ρ d n ∧ mlr ρ d n ≤ 999999
    · rw [if_pos q]
      exact ⟨fun _ => ⟨c.1, by omega⟩, fun _ => q⟩
    · rw [if_neg q]
      exact ⟨fun z => absurd z q, fun z => absurd rfl z.2⟩
  · have e : mlc ρ d n = -2147483648 := if_neg c
    rw [e]
    refine ⟨fun z => by omega, fun z => ?_⟩
    exfalso
    by_cases q : Mb ρ (-2000) ≤ mcon ρ d + n
    · exact z.2 (mlat_hi h (by
        by_cases q2 : mcon ρ d + n < Mb ρ 2001
        · exact absurd ⟨z.1, q, q2⟩ c
        · omega))
    · exact z.2 (mlat_lo h (by omega))
theorem mlc_eq {ρ : Row} (h : okRow ρ) {d n : Int} (k : -999999 ≤ mlc ρ d n ∧ mlc ρ d n ≤ 999999) : mlc ρ d n = mlat ρ d n := by
  by_cases c : (fst ρ (-2000) ≤ d ∧ d < fst ρ 2001) ∧ Mb ρ (-2000) ≤ mcon ρ d + n ∧ mcon ρ d + n < Mb ρ 2001
  · rw [mlc_r c] at k ⊢
    rw [mlat_r h c.2.1 c.2.2, if_pos k]
  · have e : mlc ρ d n = -2147483648 := if_neg c
    rw [e] at k
    omega
theorem ylc_day {ρ : Row} {d n : Int} : (-999999 ≤ ylc ρ d n ∧ ylc ρ d n ≤ 999999) ↔ (fst ρ (-2000) ≤ d ∧ d < fst ρ 2001) ∧ ylat ρ d n ≠ -2147483647 := by
  by_cases c : (fst ρ (-2000) ≤ d ∧ d < fst ρ 2001) ∧ -2000 ≤ yof ρ d + n ∧ yof ρ d + n ≤ 2000
  · have e : ylc ρ d n = ylr ρ d n := if_pos c
    rw [e, ylat_r c.2]
    by_cases q : -999999 ≤ ylr ρ d n ∧ ylr ρ d n ≤ 999999
    · rw [if_pos q]
      exact ⟨fun _ => ⟨c.1, by omega⟩, fun _ => q⟩
    · rw [if_neg q]
      exact ⟨fun z => absurd z q, fun z => absurd rfl z.2⟩
  · have e : ylc ρ d n = -2147483648 := if_neg c
    rw [e]
    exact ⟨fun z => by omega, fun z => absurd ⟨z.1, (ylat_val z.2).1⟩ c⟩
theorem ylc_eq {ρ : Row} {d n : Int} (k : -999999 ≤ ylc ρ d n ∧ ylc ρ d n ≤ 999999) : ylc ρ d n = ylat ρ d n := by
  by_cases c : (fst ρ (-2000) ≤ d ∧ d < fst ρ 2001) ∧ -2000 ≤ yof ρ d + n ∧ yof ρ d + n ≤ 2000
  · have e : ylc ρ d n = ylr ρ d n := if_pos c
    rw [e] at k ⊢
    rw [ylat_r c.2, if_pos k]
  · have e : ylc ρ d n = -2147483648 := if_neg c
    rw [e] at k
    omega
/-- the code where a shift may find no day -/
theorem cdS_1 {p q r : Prop} [Decidable p] [Decidable q] [Decidable r] {x : Int} (hp : ¬ p) : (if 0 < cd3 p q r then cd3 p q r else if x = -2147483647 then 3 else 0) = 1 := by rw [cd3_1 hp]; rfl
theorem cdS_2 {p q r : Prop} [Decidable p] [Decidable q] [Decidable r] {x : Int} (hp : p) (hq : ¬ q) : (if 0 < cd3 p q r then cd3 p q r else if x = -2147483647 then 3 else 0) = 2 := by rw [cd3_2 hp hq]; rfl
theorem cdS_3 {p q r : Prop} [Decidable p] [Decidable q] [Decidable r] {x : Int} (hp : p) (hq : q) (h : ¬ (r ∧ x ≠ -2147483647)) : (if 0 < cd3 p q r then cd3 p q r else if x = -2147483647 then 3 else 0) = 3 := by
  by_cases c : r
  · have e : x = -2147483647 := by
      by_cases y : x = -2147483647
      · exact y
      · exact absurd ⟨c, y⟩ h
    rw [cd3_0 hp hq c, e]
    rfl
  · rw [cd3_3 hp hq c]
    rfl
theorem cdS_0 {p q r : Prop} [Decidable p] [Decidable q] [Decidable r] {x : Int} (hp : p) (hq : q) (hr : r) (hx : x ≠ -2147483647) : (if 0 < cd3 p q r then cd3 p q r else if x = -2147483647 then 3 else 0) = 0 := by
  rw [cd3_0 hp hq hr, if_neg (by omega), if_neg hx]

set_option maxHeartbeats 2000000 in
set_option maxRecDepth 100000 in
theorem c_X8_convert (l : Launch) (D : va_G) (t : Nat → ClassId) (b n : Nat) (σ0 : qM) (A : Nat → Int32) (B : Nat → Nat → Int32) (P : Nat → Nat → Option Nat) (hl0 : l.stackTraces = false) (rw_ : Int → Row) (fe : Int → Int → Int32) (hQ : stQ t b σ0 A P 0 rw_ fe) (a_ca : Int32) (ca : Int) (e_ca : a_ca.toInt = ca) (a_yr : Int32) (yr : Int) (e_yr : a_yr.toInt = yr) (a_mo : Int32) (mo : Int) (e_mo : a_mo.toInt = mo) (a_da : Int32) (da : Int) (e_da : a_da.toInt = da) (a_cb : Int32) (cb : Int) (e_cb : a_cb.toInt = cb) (a_part : Int32) (part : Int) (e_part : a_part.toInt = part) : xC l yX8_convert cX8_convert 10 (some .int) 7 4 24 D t b n (cS t b σ0 A B P) [.ref (b + 0), .int a_ca, .int a_yr, .int a_mo, .int a_da, .int a_cb, .int a_part] (fun z n1 σ1 => n1 = n ∧ σ1 = cS t b σ0 A B P ∧ cd3 ((0 ≤ ca ∧ ca < (A 20).toInt) ∧ 0 ≤ cb ∧ cb < (A 20).toInt) (((((-2000 ≤ yr ∧ yr ≤ 2000) ∧ 1 ≤ mo ∧ mo ≤ mcnt (rw_ ca) yr) ∧ 1 ≤ da ∧ da ≤ mlen (rw_ ca) yr mo) ∧ -999999 ≤ dnum (rw_ ca) yr mo da ∧ dnum (rw_ ca) yr mo da ≤ 999999) ∧ 0 ≤ part ∧ part ≤ 4) (fst (rw_ cb) (-2000) ≤ dnum (rw_ ca) yr mo da ∧ dnum (rw_ ca) yr mo da < fst (rw_ cb) 2001) = 0 ∧ z.toInt = pof (rw_ cb) (dnum (rw_ ca) yr mo da) part) (fun E n1 σ1 => σ1 = cS t b σ0 A B P ∧ xE E = cd3 ((0 ≤ ca ∧ ca < (A 20).toInt) ∧ 0 ≤ cb ∧ cb < (A 20).toInt) (((((-2000 ≤ yr ∧ yr ≤ 2000) ∧ 1 ≤ mo ∧ mo ≤ mcnt (rw_ ca) yr) ∧ 1 ≤ da ∧ da ≤ mlen (rw_ ca) yr mo) ∧ -999999 ≤ dnum (rw_ ca) yr mo da ∧ dnum (rw_ ca) yr mo da ≤ 999999) ∧ 0 ≤ part ∧ part ≤ 4) (fst (rw_ cb) (-2000) ≤ dnum (rw_ ca) yr mo da ∧ dnum (rw_ ca) yr mo da < fst (rw_ cb) 2001)) := by
  refine xC.of (by decide +kernel) (Nat.le_of_ble_eq_true rfl) (fun p e s m args below meth c X hE hno w ls hl => ?_)
  have hx := X.1
  have hb := X.2.1
  have hl : lv_has ls 10 [(0, .ref (b + 0)), (1, .int a_ca), (2, .int a_yr), (3, .int a_mo), (4, .int a_da), (5, .int a_cb), (6, .int a_part)] := hl
  have hnn := hQ.1
  refine lv_aload_n hx hb dX8_convert_0 rfl (lv_at hl 0 rfl) ?_
  refine lv_iload_n hx hb dX8_convert_1 rfl (lv_at hl 1 rfl) ?_
  refine x_cAV X hE hno w (c_X8_existing l D t b n σ0 A B P hl0 hQ.ok a_ca ca e_ca) v_X8_149 (k := 0) rfl rfl rfl ⟨Nat.le_of_ble_eq_true rfl, Nat.le_of_ble_eq_true rfl⟩ rfl hl.1 (Nat.le_of_ble_eq_true rfl) dX8_convert_2 ⟨Nat.le_of_ble_eq_true rfl, Nat.le_of_ble_eq_true rfl⟩ ⟨Nat.le_of_ble_eq_true rfl, Nat.le_of_ble_eq_true rfl⟩ (fun E n1 σ1 hz => ⟨hz.2.1, by rw [hz.1]; exact xE_io.trans (cd3_1 (fun q => hz.2.2 q.1)).symm⟩) (fun o_2 n_2 σ_2 H locs z_2 w => ?_)
  obtain ⟨en_2, es_2, eo_2, hin_2⟩ := z_2
  rw [en_2, es_2] at w
  obtain ⟨q_2, L_2, C_2, K_2, fl_2, fc_2, eq_2, hbc_2, hcp_2⟩ := hQ.2.1 ca hin_2.1 hin_2.2
  have hcp_2 := hcp_2.cS (A := A) (B := B) (P := P) hbc_2
  have eo_2 : o_2 = some q_2 := eo_2.trans eq_2
  subst eo_2
  have hok_2 : okRow (rw_ ca) := hcp_2.2.2.2.1
  refine lv_astore (lv' := [(7, .ref (b + q_2)), (0, .ref (b + 0)), (1, .int a_ca), (2, .int a_yr), (3, .int a_mo), (4, .int a_da), (5, .int a_cb), (6, .int a_part)]) hx hb dX8_convert_5 hl (by decide) rfl (fun ls hl => ?_)
  refine lv_aload_n hx hb dX8_convert_7 rfl (lv_at hl 1 rfl) ?_
  refine lv_iload hx hb dX8_convert_8 (lv_at hl 6 rfl) ?_
  refine x_cAV X hE hno w (c_X8_existing l D t b n σ0 A B P hl0 hQ.ok a_cb cb e_cb) v_X8_149 (k := 0) rfl rfl rfl ⟨Nat.le_of_ble_eq_true rfl, Nat.le_of_ble_eq_true rfl⟩ rfl hl.1 (Nat.le_of_ble_eq_true rfl) dX8_convert_10 ⟨Nat.le_of_ble_eq_true rfl, Nat.le_of_ble_eq_true rfl⟩ ⟨Nat.le_of_ble_eq_true rfl, Nat.le_of_ble_eq_true rfl⟩ (fun E n1 σ1 hz => ⟨hz.2.1, by rw [hz.1]; exact xE_io.trans (cd3_1 (fun q => hz.2.2 q.2)).symm⟩) (fun o_10 n_10 σ_10 H locs z_10 w => ?_)
  obtain ⟨en_10, es_10, eo_10, hin_10⟩ := z_10
  rw [en_10, es_10] at w
  obtain ⟨q_10, L_10, C_10, K_10, fl_10, fc_10, eq_10, hbc_10, hcp_10⟩ := hQ.2.1 cb hin_10.1 hin_10.2
  have hcp_10 := hcp_10.cS (A := A) (B := B) (P := P) hbc_10
  have eo_10 : o_10 = some q_10 := eo_10.trans eq_10
  subst eo_10
  have hok_10 : okRow (rw_ cb) := hcp_10.2.2.2.1
  refine lv_astore (lv' := [(8, .ref (b + q_10)), (7, .ref (b + q_2)), (0, .ref (b + 0)), (1, .int a_ca), (2, .int a_yr), (3, .int a_mo), (4, .int a_da), (5, .int a_cb), (6, .int a_part)]) hx hb dX8_convert_13 hl (by decide) rfl (fun ls hl => ?_)
  refine lv_aload hx hb dX8_convert_15 (lv_at hl 1 rfl) ?_
  refine lv_iload_n hx hb dX8_convert_17 rfl (lv_at hl 4 rfl) ?_
  refine lv_iload_n hx hb dX8_convert_18 rfl (lv_at hl 5 rfl) ?_
  refine lv_iload hx hb dX8_convert_19 (lv_at hl 6 rfl) ?_
  refine q_cPV X w (c_X0_dayOfDate l D t b n _ q_2 L_2 C_2 K_2 fl_2 fc_2 _ hcp_2 a_yr a_mo a_da yr mo da e_yr e_mo e_da ) v_X8_183 (k := q_2) hcp_2.1 rfl rfl ⟨Nat.le_of_ble_eq_true rfl, Nat.le_of_ble_eq_true rfl⟩ rfl hl.1 (Nat.le_of_ble_eq_true rfl) dX8_convert_21 ⟨Nat.le_of_ble_eq_true rfl, Nat.le_of_ble_eq_true rfl⟩ (fun r_21 z_21 => ?_)
  refine lv_istore (lv' := [(9, .int r_21), (8, .ref (b + q_10)), (7, .ref (b + q_2)), (0, .ref (b + 0)), (1, .int a_ca), (2, .int a_yr), (3, .int a_mo), (4, .int a_da), (5, .int a_cb), (6, .int a_part)]) hx hb dX8_convert_24 hl (by decide) rfl (fun ls hl => ?_)
  refine lv_iload hx hb dX8_convert_26 (lv_at hl 0 rfl) ?_
  refine q_cPS X w (c_X8_isDay l r_21 (dod (rw_ ca) yr mo da) z_21 D t b n (cS t b σ0 A B P)) v_X8_187 rfl ⟨Nat.le_of_ble_eq_true rfl, Nat.le_of_ble_eq_true rfl⟩ rfl hl.1 (Nat.le_of_ble_eq_true rfl) dX8_convert_28 ⟨Nat.le_of_ble_eq_true rfl, Nat.le_of_ble_eq_true rfl⟩ (fun r_28 z_28 => ?_)
  refine lv_if_eq (tgt := 48) hx hb dX8_convert_31 (by decide) (fun c_31 => ?_) (fun c_31 => ?_)
  · skip
    rw [z_28] at c_31
    have k_31 := bI_f.mp c_31
    refine lv_iconst (v := 0) hx hb dX8_convert_48 (by decide) ?_
    refine x_cVS X hE hno w (c_X8_demand l D t b n σ0 A B P hl0 0) v_X8_103 rfl ⟨Nat.le_of_ble_eq_true rfl, Nat.le_of_ble_eq_true rfl⟩ rfl hl.1 (Nat.le_of_ble_eq_true rfl) dX8_convert_49 ⟨Nat.le_of_ble_eq_true rfl, Nat.le_of_ble_eq_true rfl⟩ ⟨Nat.le_of_ble_eq_true rfl, Nat.le_of_ble_eq_true rfl⟩ (fun E n1 σ1 hz => ⟨hz.2.1, by rw [hz.1]; exact xE_ia.trans (cd3_2 ⟨hin_2, hin_10⟩ (fun q => k_31 (dod_iff.mpr q.1))).symm⟩) (fun n_49 σ_49 H locs z_49 w => ?_)
    exact absurd rfl z_49.2.2
  · skip
    rw [z_28] at c_31
    have k_31 := bI_t.mp c_31
    have hde := dod_eq (dod_iff.mp k_31)
    refine lv_iload hx hb dX8_convert_34 (lv_at hl 9 rfl) ?_
    refine lv_iconst (v := 0) hx hb dX8_convert_36 (by decide) ?_
    refine lv_iconst (v := 4) hx hb dX8_convert_37 (by decide) ?_
    refine q_cPS X w (c_X8_isFrom l a_part 0 4 part 0 4 e_part (show (0 : Int32).toInt = 0 from rfl) (show (4 : Int32).toInt = 4 from rfl) D t b n (cS t b σ0 A B P)) v_X8_99 rfl ⟨Nat.le_of_ble_eq_true rfl, Nat.le_of_ble_eq_true rfl⟩ rfl hl.1 (Nat.le_of_ble_eq_true rfl) dX8_convert_38 ⟨Nat.le_of_ble_eq_true rfl, Nat.le_of_ble_eq_true rfl⟩ (fun r_38 z_38 => ?_)
    refine lv_if_eq (tgt := 48) hx hb dX8_convert_41 (by decide) (fun c_41 => ?_) (fun c_41 => ?_)
    · skip
      rw [z_38] at c_41
      have k_41 := bI_f.mp c_41
      refine lv_iconst (v := 0) hx hb dX8_convert_48 (by decide) ?_
      refine x_cVS X hE hno w (c_X8_demand l D t b n σ0 A B P hl0 0) v_X8_103 rfl ⟨Nat.le_of_ble_eq_true rfl, Nat.le_of_ble_eq_true rfl⟩ rfl hl.1 (Nat.le_of_ble_eq_true rfl) dX8_convert_49 ⟨Nat.le_of_ble_eq_true rfl, Nat.le_of_ble_eq_true rfl⟩ ⟨Nat.le_of_ble_eq_true rfl, Nat.le_of_ble_eq_true rfl⟩ (fun E n1 σ1 hz => ⟨hz.2.1, by rw [hz.1]; exact xE_ia.trans (cd3_2 ⟨hin_2, hin_10⟩ (fun q => k_41 q.2)).symm⟩) (fun n_49 σ_49 H locs z_49 w => ?_)
      exact absurd rfl z_49.2.2
    · skip
      rw [z_38] at c_41
      have k_41 := bI_t.mp c_41
      refine lv_iconst (v := 1) hx hb dX8_convert_44 (by decide) ?_
      refine lv_goto (tgt := 49) hx hb dX8_convert_45 (by decide) ?_
      refine x_cVS X hE hno w (c_X8_demand l D t b n σ0 A B P hl0 1) v_X8_103 rfl ⟨Nat.le_of_ble_eq_true rfl, Nat.le_of_ble_eq_true rfl⟩ rfl hl.1 (Nat.le_of_ble_eq_true rfl) dX8_convert_49 ⟨Nat.le_of_ble_eq_true rfl, Nat.le_of_ble_eq_true rfl⟩ ⟨Nat.le_of_ble_eq_true rfl, Nat.le_of_ble_eq_true rfl⟩ (fun E n1 σ1 hz => absurd hz.2.2 (by decide)) (fun n_49 σ_49 H locs z_49 w => ?_)
      rw [z_49.1, z_49.2.1] at w
      refine lv_aload hx hb dX8_convert_52 (lv_at hl 1 rfl) ?_
      refine lv_aload hx hb dX8_convert_54 (lv_at hl 1 rfl) ?_
      refine lv_iload hx hb dX8_convert_56 (lv_at hl 0 rfl) ?_
      refine x_cCS X hE hno w (c_X8_yearInside l D t b n σ0 A B P hl0 q_10 L_10 C_10 K_10 fl_10 fc_10 _ hcp_10 r_21 (dod (rw_ ca) yr mo da) z_21) v_X8_190 rfl ⟨Nat.le_of_ble_eq_true rfl, Nat.le_of_ble_eq_true rfl⟩ rfl hl.1 (Nat.le_of_ble_eq_true rfl) dX8_convert_58 ⟨Nat.le_of_ble_eq_true rfl, Nat.le_of_ble_eq_true rfl⟩ ⟨Nat.le_of_ble_eq_true rfl, Nat.le_of_ble_eq_true rfl⟩ (fun E n1 σ1 hz => ⟨hz.2.1, by rw [hz.1]; exact xE_ns.trans (cd3_3 ⟨hin_2, hin_10⟩ ⟨dod_iff.mp k_31, k_41⟩ (by have y := (yoc_iff hok_10).mp hz.2.2; rw [hde] at y; exact y)).symm⟩) (fun r_58 n_58 σ_58 H locs z_58 w => ?_)
      rw [z_58.1, z_58.2.1] at w
      have hi_58 : fst (rw_ cb) (-2000) ≤ (dod (rw_ ca) yr mo da) ∧ (dod (rw_ ca) yr mo da) < fst (rw_ cb) 2001 := by by_cases y : fst (rw_ cb) (-2000) ≤ (dod (rw_ ca) yr mo da) ∧ (dod (rw_ ca) yr mo da) < fst (rw_ cb) 2001; (exact y); (exact absurd ((yoc_iff hok_10).mpr y) z_58.2.2.2)
      have hy_58 : r_58.toInt = yof (rw_ cb) (dod (rw_ ca) yr mo da) := z_58.2.2.1.trans (if_pos hi_58)
      refine lv_iload hx hb dX8_convert_61 (lv_at hl 0 rfl) ?_
      refine lv_iload hx hb dX8_convert_63 (lv_at hl 9 rfl) ?_
      refine q_cPV X w (c_X0_partOfDate l D t b n _ q_10 L_10 C_10 K_10 fl_10 fc_10 _ hcp_10 r_58 r_21 a_part (yof (rw_ cb) (dod (rw_ ca) yr mo da)) (dod (rw_ ca) yr mo da) part hy_58 z_21 e_part (by exact hi_58) (by rfl) (by omega)) v_X8_194 (k := q_10) hcp_10.1 rfl rfl ⟨Nat.le_of_ble_eq_true rfl, Nat.le_of_ble_eq_true rfl⟩ rfl hl.1 (Nat.le_of_ble_eq_true rfl) dX8_convert_65 ⟨Nat.le_of_ble_eq_true rfl, Nat.le_of_ble_eq_true rfl⟩ (fun r_65 z_65 => ?_)
      refine vx_ret ?_
      refine W.widen (k := 4) (n := 24) (Nat.le_of_ble_eq_true rfl) (Nat.le_of_ble_eq_true rfl) ?_
      exact q_cret (post := fun z n1 σ1 => n1 = n ∧ σ1 = cS t b σ0 A B P ∧ cd3 ((0 ≤ ca ∧ ca < (A 20).toInt) ∧ 0 ≤ cb ∧ cb < (A 20).toInt) (((((-2000 ≤ yr ∧ yr ≤ 2000) ∧ 1 ≤ mo ∧ mo ≤ mcnt (rw_ ca) yr) ∧ 1 ≤ da ∧ da ≤ mlen (rw_ ca) yr mo) ∧ -999999 ≤ dnum (rw_ ca) yr mo da ∧ dnum (rw_ ca) yr mo da ≤ 999999) ∧ 0 ≤ part ∧ part ≤ 4) (fst (rw_ cb) (-2000) ≤ dnum (rw_ ca) yr mo da ∧ dnum (rw_ ca) yr mo da < fst (rw_ cb) 2001) = 0 ∧ z.toInt = pof (rw_ cb) (dnum (rw_ ca) yr mo da) part) X w dX8_convert_68 rfl ⟨rfl, rfl, cd3_0 ⟨hin_2, hin_10⟩ ⟨dod_iff.mp k_31, k_41⟩ (by rw [← hde]; exact hi_58), by rw [← hde]; exact z_65⟩

set_option maxHeartbeats 2000000 in
set_option maxRecDepth 100000 in
theorem c_X8_plus (l : Launch) (D : va_G) (t : Nat → ClassId) (b n : Nat) (σ0 : qM) (A : Nat → Int32) (B : Nat → Nat → Int32) (P : Nat → Nat → Option Nat) (hl0 : l.stackTraces = false) (rw_ : Int → Row) (fe : Int → Int → Int32) (hQ : stQ t b σ0 A P 0 rw_ fe) (a_ca : Int32) (ca : Int) (e_ca : a_ca.toInt = ca) (a_dy : Int32) (dy : Int) (e_dy : a_dy.toInt = dy) (a_sh : Int32) (sh : Int) (e_sh : a_sh.toInt = sh) : xC l yX8_plus cX8_plus 5 (some .int) 7 3 18 D t b n (cS t b σ0 A B P) [.ref (b + 0), .int a_ca, .int a_dy, .int a_sh] (fun z n1 σ1 => n1 = n ∧ σ1 = cS t b σ0 A B P ∧ (if 0 < cd3 (0 ≤ ca ∧ ca < (A 20).toInt) ((-999999 ≤ dy ∧ dy ≤ 999999) ∧ -9999 ≤ sh ∧ sh ≤ 9999) (fst (rw_ ca) (-2000) ≤ dy ∧ dy < fst (rw_ ca) 2001) then cd3 (0 ≤ ca ∧ ca < (A 20).toInt) ((-999999 ≤ dy ∧ dy ≤ 999999) ∧ -9999 ≤ sh ∧ sh ≤ 9999) (fst (rw_ ca) (-2000) ≤ dy ∧ dy < fst (rw_ ca) 2001) else if mlat (rw_ ca) dy sh = -2147483647 then 3 else 0) = 0 ∧ z.toInt = mlat (rw_ ca) dy sh) (fun E n1 σ1 => σ1 = cS t b σ0 A B P ∧ xE E = (if 0 < cd3 (0 ≤ ca ∧ ca < (A 20).toInt) ((-999999 ≤ dy ∧ dy ≤ 999999) ∧ -9999 ≤ sh ∧ sh ≤ 9999) (fst (rw_ ca) (-2000) ≤ dy ∧ dy < fst (rw_ ca) 2001) then cd3 (0 ≤ ca ∧ ca < (A 20).toInt) ((-999999 ≤ dy ∧ dy ≤ 999999) ∧ -9999 ≤ sh ∧ sh ≤ 9999) (fst (rw_ ca) (-2000) ≤ dy ∧ dy < fst (rw_ ca) 2001) else if mlat (rw_ ca) dy sh = -2147483647 then 3 else 0)) := by
  refine xC.of (by decide +kernel) (Nat.le_of_ble_eq_true rfl) (fun p e s m args below meth c X hE hno w ls hl => ?_)
  have hx := X.1
  have hb := X.2.1
  have hl : lv_has ls 5 [(0, .ref (b + 0)), (1, .int a_ca), (2, .int a_dy), (3, .int a_sh)] := hl
  have hnn := hQ.1
  refine lv_aload_n hx hb dX8_plus_0 rfl (lv_at hl 0 rfl) ?_
  refine lv_iload_n hx hb dX8_plus_1 rfl (lv_at hl 1 rfl) ?_
  refine x_cAV X hE hno w (c_X8_existing l D t b n σ0 A B P hl0 hQ.ok a_ca ca e_ca) v_X8_149 (k := 0) rfl rfl rfl ⟨Nat.le_of_ble_eq_true rfl, Nat.le_of_ble_eq_true rfl⟩ rfl hl.1 (Nat.le_of_ble_eq_true rfl) dX8_plus_2 ⟨Nat.le_of_ble_eq_true rfl, Nat.le_of_ble_eq_true rfl⟩ ⟨Nat.le_of_ble_eq_true rfl, Nat.le_of_ble_eq_true rfl⟩ (fun E n1 σ1 hz => ⟨hz.2.1, by rw [hz.1]; exact xE_io.trans (cdS_1 hz.2.2).symm⟩) (fun o_2 n_2 σ_2 H locs z_2 w => ?_)
  obtain ⟨en_2, es_2, eo_2, hin_2⟩ := z_2
  rw [en_2, es_2] at w
  obtain ⟨q_2, L_2, C_2, K_2, fl_2, fc_2, eq_2, hbc_2, hcp_2⟩ := hQ.2.1 ca hin_2.1 hin_2.2
  have hcp_2 := hcp_2.cS (A := A) (B := B) (P := P) hbc_2
  have eo_2 : o_2 = some q_2 := eo_2.trans eq_2
  subst eo_2
  have hok_2 : okRow (rw_ ca) := hcp_2.2.2.2.1
  refine lv_astore (lv' := [(4, .ref (b + q_2)), (0, .ref (b + 0)), (1, .int a_ca), (2, .int a_dy), (3, .int a_sh)]) hx hb dX8_plus_5 hl (by decide) rfl (fun ls hl => ?_)
  refine lv_iload_n hx hb dX8_plus_7 rfl (lv_at hl 3 rfl) ?_
  refine q_cPS X w (c_X8_isDay l a_dy dy e_dy D t b n (cS t b σ0 A B P)) v_X8_187 rfl ⟨Nat.le_of_ble_eq_true rfl, Nat.le_of_ble_eq_true rfl⟩ rfl hl.1 (Nat.le_of_ble_eq_true rfl) dX8_plus_8 ⟨Nat.le_of_ble_eq_true rfl, Nat.le_of_ble_eq_true rfl⟩ (fun r_8 z_8 => ?_)
  refine lv_if_eq (tgt := 31) hx hb dX8_plus_11 (by decide) (fun c_11 => ?_) (fun c_11 => ?_)
  · skip
    rw [z_8] at c_11
    have k_11 := bI_f.mp c_11
    refine lv_iconst (v := 0) hx hb dX8_plus_31 (by decide) ?_
    refine x_cVS X hE hno w (c_X8_demand l D t b n σ0 A B P hl0 0) v_X8_103 rfl ⟨Nat.le_of_ble_eq_true rfl, Nat.le_of_ble_eq_true rfl⟩ rfl hl.1 (Nat.le_of_ble_eq_true rfl) dX8_plus_32 ⟨Nat.le_of_ble_eq_true rfl, Nat.le_of_ble_eq_true rfl⟩ ⟨Nat.le_of_ble_eq_true rfl, Nat.le_of_ble_eq_true rfl⟩ (fun E n1 σ1 hz => ⟨hz.2.1, by rw [hz.1]; exact xE_ia.trans (cdS_2 hin_2 (by omega)).symm⟩) (fun n_32 σ_32 H locs z_32 w => ?_)
    exact absurd rfl z_32.2.2
  · skip
    rw [z_8] at c_11
    have k_11 := bI_t.mp c_11
    refine lv_iload_n hx hb dX8_plus_14 rfl (lv_at hl 4 rfl) ?_
    refine lv_sipush (v := (-9999)) hx hb dX8_plus_15 (by decide) ?_
    refine lv_sipush (v := 9999) hx hb dX8_plus_18 (by decide) ?_
    refine q_cPS X w (c_X8_isFrom l a_sh (-9999) 9999 sh (-9999) 9999 e_sh (show ((-9999) : Int32).toInt = (-9999) from rfl) (show (9999 : Int32).toInt = 9999 from rfl) D t b n (cS t b σ0 A B P)) v_X8_99 rfl ⟨Nat.le_of_ble_eq_true rfl, Nat.le_of_ble_eq_true rfl⟩ rfl hl.1 (Nat.le_of_ble_eq_true rfl) dX8_plus_21 ⟨Nat.le_of_ble_eq_true rfl, Nat.le_of_ble_eq_true rfl⟩ (fun r_21 z_21 => ?_)
    refine lv_if_eq (tgt := 31) hx hb dX8_plus_24 (by decide) (fun c_24 => ?_) (fun c_24 => ?_)
    · skip
      rw [z_21] at c_24
      have k_24 := bI_f.mp c_24
      refine lv_iconst (v := 0) hx hb dX8_plus_31 (by decide) ?_
      refine x_cVS X hE hno w (c_X8_demand l D t b n σ0 A B P hl0 0) v_X8_103 rfl ⟨Nat.le_of_ble_eq_true rfl, Nat.le_of_ble_eq_true rfl⟩ rfl hl.1 (Nat.le_of_ble_eq_true rfl) dX8_plus_32 ⟨Nat.le_of_ble_eq_true rfl, Nat.le_of_ble_eq_true rfl⟩ ⟨Nat.le_of_ble_eq_true rfl, Nat.le_of_ble_eq_true rfl⟩ (fun E n1 σ1 hz => ⟨hz.2.1, by rw [hz.1]; exact xE_ia.trans (cdS_2 hin_2 (by omega)).symm⟩) (fun n_32 σ_32 H locs z_32 w => ?_)
      exact absurd rfl z_32.2.2
    · skip
      rw [z_21] at c_24
      have k_24 := bI_t.mp c_24
      refine lv_iconst (v := 1) hx hb dX8_plus_27 (by decide) ?_
      refine lv_goto (tgt := 32) hx hb dX8_plus_28 (by decide) ?_
      refine x_cVS X hE hno w (c_X8_demand l D t b n σ0 A B P hl0 1) v_X8_103 rfl ⟨Nat.le_of_ble_eq_true rfl, Nat.le_of_ble_eq_true rfl⟩ rfl hl.1 (Nat.le_of_ble_eq_true rfl) dX8_plus_32 ⟨Nat.le_of_ble_eq_true rfl, Nat.le_of_ble_eq_true rfl⟩ ⟨Nat.le_of_ble_eq_true rfl, Nat.le_of_ble_eq_true rfl⟩ (fun E n1 σ1 hz => absurd hz.2.2 (by decide)) (fun n_32 σ_32 H locs z_32 w => ?_)
      rw [z_32.1, z_32.2.1] at w
      refine lv_aload hx hb dX8_plus_35 (lv_at hl 0 rfl) ?_
      refine lv_iload_n hx hb dX8_plus_37 rfl (lv_at hl 3 rfl) ?_
      refine lv_iload_n hx hb dX8_plus_38 rfl (lv_at hl 4 rfl) ?_
      refine q_cPV X w (c_X0_monthsLater l D t b n _ q_2 L_2 C_2 K_2 fl_2 fc_2 _ hcp_2 a_dy a_sh dy sh e_dy e_sh (by omega)) v_X8_209 (k := q_2) hcp_2.1 rfl rfl ⟨Nat.le_of_ble_eq_true rfl, Nat.le_of_ble_eq_true rfl⟩ rfl hl.1 (Nat.le_of_ble_eq_true rfl) dX8_plus_39 ⟨Nat.le_of_ble_eq_true rfl, Nat.le_of_ble_eq_true rfl⟩ (fun r_39 z_39 => ?_)
      refine x_cCS X hE hno w (c_X8_present l D t b n σ0 A B P hl0 r_39 (mlc (rw_ ca) dy sh) z_39) v_X8_212 rfl ⟨Nat.le_of_ble_eq_true rfl, Nat.le_of_ble_eq_true rfl⟩ rfl hl.1 (Nat.le_of_ble_eq_true rfl) dX8_plus_42 ⟨Nat.le_of_ble_eq_true rfl, Nat.le_of_ble_eq_true rfl⟩ ⟨Nat.le_of_ble_eq_true rfl, Nat.le_of_ble_eq_true rfl⟩ (fun E n1 σ1 hz => ⟨hz.2.1, by rw [hz.1]; exact xE_ns.trans (cdS_3 hin_2 (by omega) (fun y => hz.2.2 ((mlc_day hok_2).mpr y))).symm⟩) (fun r_42 n_42 σ_42 H locs z_42 w => ?_)
      rw [z_42.1, z_42.2.1] at w
      have hp_42 := z_42.2.2.2
      refine vx_ret ?_
      refine W.widen (k := 3) (n := 18) (Nat.le_of_ble_eq_true rfl) (Nat.le_of_ble_eq_true rfl) ?_
      exact q_cret (post := fun z n1 σ1 => n1 = n ∧ σ1 = cS t b σ0 A B P ∧ (if 0 < cd3 (0 ≤ ca ∧ ca < (A 20).toInt) ((-999999 ≤ dy ∧ dy ≤ 999999) ∧ -9999 ≤ sh ∧ sh ≤ 9999) (fst (rw_ ca) (-2000) ≤ dy ∧ dy < fst (rw_ ca) 2001) then cd3 (0 ≤ ca ∧ ca < (A 20).toInt) ((-999999 ≤ dy ∧ dy ≤ 999999) ∧ -9999 ≤ sh ∧ sh ≤ 9999) (fst (rw_ ca) (-2000) ≤ dy ∧ dy < fst (rw_ ca) 2001) else if mlat (rw_ ca) dy sh = -2147483647 then 3 else 0) = 0 ∧ z.toInt = mlat (rw_ ca) dy sh) X w dX8_plus_45 rfl ⟨rfl, rfl, cdS_0 hin_2 (by omega) ((mlc_day hok_2).mp hp_42).1 ((mlc_day hok_2).mp hp_42).2, (((congrArg Int32.toInt z_42.2.2.1).trans z_39)).trans (mlc_eq hok_2 hp_42)⟩

set_option maxHeartbeats 2000000 in
set_option maxRecDepth 100000 in
theorem c_X8_plusYears (l : Launch) (D : va_G) (t : Nat → ClassId) (b n : Nat) (σ0 : qM) (A : Nat → Int32) (B : Nat → Nat → Int32) (P : Nat → Nat → Option Nat) (hl0 : l.stackTraces = false) (rw_ : Int → Row) (fe : Int → Int → Int32) (hQ : stQ t b σ0 A P 0 rw_ fe) (a_ca : Int32) (ca : Int) (e_ca : a_ca.toInt = ca) (a_dy : Int32) (dy : Int) (e_dy : a_dy.toInt = dy) (a_sh : Int32) (sh : Int) (e_sh : a_sh.toInt = sh) : xC l yX8_plusYears cX8_plusYears 5 (some .int) 7 3 18 D t b n (cS t b σ0 A B P) [.ref (b + 0), .int a_ca, .int a_dy, .int a_sh] (fun z n1 σ1 => n1 = n ∧ σ1 = cS t b σ0 A B P ∧ (if 0 < cd3 (0 ≤ ca ∧ ca < (A 20).toInt) ((-999999 ≤ dy ∧ dy ≤ 999999) ∧ -4000 ≤ sh ∧ sh ≤ 4000) (fst (rw_ ca) (-2000) ≤ dy ∧ dy < fst (rw_ ca) 2001) then cd3 (0 ≤ ca ∧ ca < (A 20).toInt) ((-999999 ≤ dy ∧ dy ≤ 999999) ∧ -4000 ≤ sh ∧ sh ≤ 4000) (fst (rw_ ca) (-2000) ≤ dy ∧ dy < fst (rw_ ca) 2001) else if ylat (rw_ ca) dy sh = -2147483647 then 3 else 0) = 0 ∧ z.toInt = ylat (rw_ ca) dy sh) (fun E n1 σ1 => σ1 = cS t b σ0 A B P ∧ xE E = (if 0 < cd3 (0 ≤ ca ∧ ca < (A 20).toInt) ((-999999 ≤ dy ∧ dy ≤ 999999) ∧ -4000 ≤ sh ∧ sh ≤ 4000) (fst (rw_ ca) (-2000) ≤ dy ∧ dy < fst (rw_ ca) 2001) then cd3 (0 ≤ ca ∧ ca < (A 20).toInt) ((-999999 ≤ dy ∧ dy ≤ 999999) ∧ -4000 ≤ sh ∧ sh ≤ 4000) (fst (rw_ ca) (-2000) ≤ dy ∧ dy < fst (rw_ ca) 2001) else if ylat (rw_ ca) dy sh = -2147483647 then 3 else 0)) := by
  refine xC.of (by decide +kernel) (Nat.le_of_ble_eq_true rfl) (fun p e s m args below meth c X hE hno w ls hl => ?_)
  have hx := X.1
  have hb := X.2.1
  have hl : lv_has ls 5 [(0, .ref (b + 0)), (1, .int a_ca), (2, .int a_dy), (3, .int a_sh)] := hl
  have hnn := hQ.1
  refine lv_aload_n hx hb dX8_plusYears_0 rfl (lv_at hl 0 rfl) ?_
  refine lv_iload_n hx hb dX8_plusYears_1 rfl (lv_at hl 1 rfl) ?_
  refine x_cAV X hE hno w (c_X8_existing l D t b n σ0 A B P hl0 hQ.ok a_ca ca e_ca) v_X8_149 (k := 0) rfl rfl rfl ⟨Nat.le_of_ble_eq_true rfl, Nat.le_of_ble_eq_true rfl⟩ rfl hl.1 (Nat.le_of_ble_eq_true rfl) dX8_plusYears_2 ⟨Nat.le_of_ble_eq_true rfl, Nat.le_of_ble_eq_true rfl⟩ ⟨Nat.le_of_ble_eq_true rfl, Nat.le_of_ble_eq_true rfl⟩ (fun E n1 σ1 hz => ⟨hz.2.1, by rw [hz.1]; exact xE_io.trans (cdS_1 hz.2.2).symm⟩) (fun o_2 n_2 σ_2 H locs z_2 w => ?_)
  obtain ⟨en_2, es_2, eo_2, hin_2⟩ := z_2
  rw [en_2, es_2] at w
  obtain ⟨q_2, L_2, C_2, K_2, fl_2, fc_2, eq_2, hbc_2, hcp_2⟩ := hQ.2.1 ca hin_2.1 hin_2.2
  have hcp_2 := hcp_2.cS (A := A) (B := B) (P := P) hbc_2
  have eo_2 : o_2 = some q_2 := eo_2.trans eq_2
  subst eo_2
  have hok_2 : okRow (rw_ ca) := hcp_2.2.2.2.1
  refine lv_astore (lv' := [(4, .ref (b + q_2)), (0, .ref (b + 0)), (1, .int a_ca), (2, .int a_dy), (3, .int a_sh)]) hx hb dX8_plusYears_5 hl (by decide) rfl (fun ls hl => ?_)
  refine lv_iload_n hx hb dX8_plusYears_7 rfl (lv_at hl 3 rfl) ?_
  refine q_cPS X w (c_X8_isDay l a_dy dy e_dy D t b n (cS t b σ0 A B P)) v_X8_187 rfl ⟨Nat.le_of_ble_eq_true rfl, Nat.le_of_ble_eq_true rfl⟩ rfl hl.1 (Nat.le_of_ble_eq_true rfl) dX8_plusYears_8 ⟨Nat.le_of_ble_eq_true rfl, Nat.le_of_ble_eq_true rfl⟩ (fun r_8 z_8 => ?_)
  refine lv_if_eq (tgt := 31) hx hb dX8_plusYears_11 (by decide) (fun c_11 => ?_) (fun c_11 => ?_)
  · skip
    rw [z_8] at c_11
    have k_11 := bI_f.mp c_11
    refine lv_iconst (v := 0) hx hb dX8_plusYears_31 (by decide) ?_
    refine x_cVS X hE hno w (c_X8_demand l D t b n σ0 A B P hl0 0) v_X8_103 rfl ⟨Nat.le_of_ble_eq_true rfl, Nat.le_of_ble_eq_true rfl⟩ rfl hl.1 (Nat.le_of_ble_eq_true rfl) dX8_plusYears_32 ⟨Nat.le_of_ble_eq_true rfl, Nat.le_of_ble_eq_true rfl⟩ ⟨Nat.le_of_ble_eq_true rfl, Nat.le_of_ble_eq_true rfl⟩ (fun E n1 σ1 hz => ⟨hz.2.1, by rw [hz.1]; exact xE_ia.trans (cdS_2 hin_2 (by omega)).symm⟩) (fun n_32 σ_32 H locs z_32 w => ?_)
    exact absurd rfl z_32.2.2
  · skip
    rw [z_8] at c_11
    have k_11 := bI_t.mp c_11
    refine lv_iload_n hx hb dX8_plusYears_14 rfl (lv_at hl 4 rfl) ?_
    refine lv_sipush (v := (-4000)) hx hb dX8_plusYears_15 (by decide) ?_
    refine lv_sipush (v := 4000) hx hb dX8_plusYears_18 (by decide) ?_
    refine q_cPS X w (c_X8_isFrom l a_sh (-4000) 4000 sh (-4000) 4000 e_sh (show ((-4000) : Int32).toInt = (-4000) from rfl) (show (4000 : Int32).toInt = 4000 from rfl) D t b n (cS t b σ0 A B P)) v_X8_99 rfl ⟨Nat.le_of_ble_eq_true rfl, Nat.le_of_ble_eq_true rfl⟩ rfl hl.1 (Nat.le_of_ble_eq_true rfl) dX8_plusYears_21 ⟨Nat.le_of_ble_eq_true rfl, Nat.le_of_ble_eq_true rfl⟩ (fun r_21 z_21 => ?_)
    refine lv_if_eq (tgt := 31) hx hb dX8_plusYears_24 (by decide) (fun c_24 => ?_) (fun c_24 => ?_)
    · skip
      rw [z_21] at c_24
      have k_24 := bI_f.mp c_24
      refine lv_iconst (v := 0) hx hb dX8_plusYears_31 (by decide) ?_
      refine x_cVS X hE hno w (c_X8_demand l D t b n σ0 A B P hl0 0) v_X8_103 rfl ⟨Nat.le_of_ble_eq_true rfl, Nat.le_of_ble_eq_true rfl⟩ rfl hl.1 (Nat.le_of_ble_eq_true rfl) dX8_plusYears_32 ⟨Nat.le_of_ble_eq_true rfl, Nat.le_of_ble_eq_true rfl⟩ ⟨Nat.le_of_ble_eq_true rfl, Nat.le_of_ble_eq_true rfl⟩ (fun E n1 σ1 hz => ⟨hz.2.1, by rw [hz.1]; exact xE_ia.trans (cdS_2 hin_2 (by omega)).symm⟩) (fun n_32 σ_32 H locs z_32 w => ?_)
      exact absurd rfl z_32.2.2
    · skip
      rw [z_21] at c_24
      have k_24 := bI_t.mp c_24
      refine lv_iconst (v := 1) hx hb dX8_plusYears_27 (by decide) ?_
      refine lv_goto (tgt := 32) hx hb dX8_plusYears_28 (by decide) ?_
      refine x_cVS X hE hno w (c_X8_demand l D t b n σ0 A B P hl0 1) v_X8_103 rfl ⟨Nat.le_of_ble_eq_true rfl, Nat.le_of_ble_eq_true rfl⟩ rfl hl.1 (Nat.le_of_ble_eq_true rfl) dX8_plusYears_32 ⟨Nat.le_of_ble_eq_true rfl, Nat.le_of_ble_eq_true rfl⟩ ⟨Nat.le_of_ble_eq_true rfl, Nat.le_of_ble_eq_true rfl⟩ (fun E n1 σ1 hz => absurd hz.2.2 (by decide)) (fun n_32 σ_32 H locs z_32 w => ?_)
      rw [z_32.1, z_32.2.1] at w
      refine lv_aload hx hb dX8_plusYears_35 (lv_at hl 0 rfl) ?_
      refine lv_iload_n hx hb dX8_plusYears_37 rfl (lv_at hl 3 rfl) ?_
      refine lv_iload_n hx hb dX8_plusYears_38 rfl (lv_at hl 4 rfl) ?_
      refine q_cPV X w (c_X0_yearsLater l D t b n _ q_2 L_2 C_2 K_2 fl_2 fc_2 _ hcp_2 a_dy a_sh dy sh e_dy e_sh (by omega)) v_X8_215 (k := q_2) hcp_2.1 rfl rfl ⟨Nat.le_of_ble_eq_true rfl, Nat.le_of_ble_eq_true rfl⟩ rfl hl.1 (Nat.le_of_ble_eq_true rfl) dX8_plusYears_39 ⟨Nat.le_of_ble_eq_true rfl, Nat.le_of_ble_eq_true rfl⟩ (fun r_39 z_39 => ?_)
      refine x_cCS X hE hno w (c_X8_present l D t b n σ0 A B P hl0 r_39 (ylc (rw_ ca) dy sh) z_39) v_X8_212 rfl ⟨Nat.le_of_ble_eq_true rfl, Nat.le_of_ble_eq_true rfl⟩ rfl hl.1 (Nat.le_of_ble_eq_true rfl) dX8_plusYears_42 ⟨Nat.le_of_ble_eq_true rfl, Nat.le_of_ble_eq_true rfl⟩ ⟨Nat.le_of_ble_eq_true rfl, Nat.le_of_ble_eq_true rfl⟩ (fun E n1 σ1 hz => ⟨hz.2.1, by rw [hz.1]; exact xE_ns.trans (cdS_3 hin_2 (by omega) (fun y => hz.2.2 (ylc_day.mpr y))).symm⟩) (fun r_42 n_42 σ_42 H locs z_42 w => ?_)
      rw [z_42.1, z_42.2.1] at w
      have hp_42 := z_42.2.2.2
      refine vx_ret ?_
      refine W.widen (k := 3) (n := 18) (Nat.le_of_ble_eq_true rfl) (Nat.le_of_ble_eq_true rfl) ?_
      exact q_cret (post := fun z n1 σ1 => n1 = n ∧ σ1 = cS t b σ0 A B P ∧ (if 0 < cd3 (0 ≤ ca ∧ ca < (A 20).toInt) ((-999999 ≤ dy ∧ dy ≤ 999999) ∧ -4000 ≤ sh ∧ sh ≤ 4000) (fst (rw_ ca) (-2000) ≤ dy ∧ dy < fst (rw_ ca) 2001) then cd3 (0 ≤ ca ∧ ca < (A 20).toInt) ((-999999 ≤ dy ∧ dy ≤ 999999) ∧ -4000 ≤ sh ∧ sh ≤ 4000) (fst (rw_ ca) (-2000) ≤ dy ∧ dy < fst (rw_ ca) 2001) else if ylat (rw_ ca) dy sh = -2147483647 then 3 else 0) = 0 ∧ z.toInt = ylat (rw_ ca) dy sh) X w dX8_plusYears_45 rfl ⟨rfl, rfl, cdS_0 hin_2 (by omega) (ylc_day.mp hp_42).1 (ylc_day.mp hp_42).2, (((congrArg Int32.toInt z_42.2.2.1).trans z_39)).trans (ylc_eq hp_42)⟩

set_option maxHeartbeats 2000000 in
set_option maxRecDepth 100000 in
theorem c_X8_calendarCount (l : Launch) (D : va_G) (t : Nat → ClassId) (b n : Nat) (σ0 : qM) (A : Nat → Int32) (B : Nat → Nat → Int32) (P : Nat → Nat → Option Nat) : qP l yX8_calendarCount cX8_calendarCount 1 (some .int) 1 D t b n (cS t b σ0 A B P) [.ref (b + 0)] (fun z => z = A 20) := by
  refine qP.of (by decide +kernel) (Nat.le_of_ble_eq_true rfl) (fun p e s m args below meth c X w ls hl => ?_)
  have hx := X.1
  have hb := X.2.1
  have hl : lv_has ls 1 [(0, .ref (b + 0))] := hl
  refine lv_aload_n hx hb dX8_calendarCount_0 rfl (lv_at hl 0 rfl) ?_
  refine kg_X8_state X w dX8_calendarCount_1 ?_
  refine q_cPV X w (c_X6_calendarCount l D t b n σ0 A B P 0 (by decide)) v_X8_115 (k := 7) rfl rfl rfl ⟨Nat.le_of_ble_eq_true rfl, Nat.le_of_ble_eq_true rfl⟩ rfl hl.1 (Nat.le_of_ble_eq_true rfl) dX8_calendarCount_4 ⟨Nat.le_of_ble_eq_true rfl, Nat.le_of_ble_eq_true rfl⟩ (fun r_4 z_4 => ?_)
  have p_4 : r_4.toInt = (A 20).toInt := congrArg Int32.toInt z_4
  exact q_pret X w dX8_calendarCount_7 (by exact z_4)

set_option maxHeartbeats 2000000 in
set_option maxRecDepth 100000 in
theorem c_X8_feastCount (l : Launch) (D : va_G) (t : Nat → ClassId) (b n : Nat) (σ0 : qM) (A : Nat → Int32) (B : Nat → Nat → Int32) (P : Nat → Nat → Option Nat) : qP l yX8_feastCount cX8_feastCount 1 (some .int) 1 D t b n (cS t b σ0 A B P) [.ref (b + 0)] (fun z => z = A 21) := by
  refine qP.of (by decide +kernel) (Nat.le_of_ble_eq_true rfl) (fun p e s m args below meth c X w ls hl => ?_)
  have hx := X.1
  have hb := X.2.1
  have hl : lv_has ls 1 [(0, .ref (b + 0))] := hl
  refine lv_aload_n hx hb dX8_feastCount_0 rfl (lv_at hl 0 rfl) ?_
  refine kg_X8_state X w dX8_feastCount_1 ?_
  refine q_cPV X w (c_X6_feastCount l D t b n σ0 A B P 0 (by decide)) v_X8_221 (k := 7) rfl rfl rfl ⟨Nat.le_of_ble_eq_true rfl, Nat.le_of_ble_eq_true rfl⟩ rfl hl.1 (Nat.le_of_ble_eq_true rfl) dX8_feastCount_4 ⟨Nat.le_of_ble_eq_true rfl, Nat.le_of_ble_eq_true rfl⟩ (fun r_4 z_4 => ?_)
  have p_4 : r_4.toInt = (A 21).toInt := congrArg Int32.toInt z_4
  exact q_pret X w dX8_feastCount_7 (by exact z_4)

set_option maxHeartbeats 2000000 in
set_option maxRecDepth 100000 in
theorem c_X8_faultPosition (l : Launch) (D : va_G) (t : Nat → ClassId) (b n : Nat) (σ0 : qM) (A : Nat → Int32) (B : Nat → Nat → Int32) (P : Nat → Nat → Option Nat) : qP l yX8_faultPosition cX8_faultPosition 1 (some .int) 0 D t b n (cS t b σ0 A B P) [.ref (b + 0)] (fun z => z = A 1) := by
  refine qP.of (by decide +kernel) (Nat.le_of_ble_eq_true rfl) (fun p e s m args below meth c X w ls hl => ?_)
  have hx := X.1
  have hb := X.2.1
  have hl : lv_has ls 1 [(0, .ref (b + 0))] := hl
  refine lv_aload_n hx hb dX8_faultPosition_0 rfl (lv_at hl 0 rfl) ?_
  refine kg_X8_fault X w dX8_faultPosition_1 ?_
  exact q_pret X w dX8_faultPosition_4 (by rfl)
