theorem ffN_plQ {B : Nat → Nat → Int32} {nf d : Int} {pl : Int → Int} (h : plQ B nf pl) (hn : 0 ≤ nf ∧ nf ≤ 8) (hd : -999999 ≤ d) : ∀ m : Nat, (m : Int) ≤ nf → ffN (plB B) d 8 (8 - (nf - m)).toNat = ffN pl d nf m
  | 0, _ => by
    show _ = (-1 : Int)
    rcases ffN_iff (plB B) d 8 (8 - (nf - (0 : Nat))).toNat (by omega) with ⟨a, -⟩ | ⟨a, c⟩
    · exact a
    · exfalso
      have e := h.1 (ffN (plB B) d 8 (8 - (nf - (0 : Nat))).toNat) (by omega) a.2
      rw [h.2 _ (by omega)] at e
      have e2 : (-2147483648 : Int) = d := (show toC (-2147483647) = -2147483648 from rfl).symm.trans (e.symm.trans c)
      omega
  | m + 1, hm => by
    have e := ffN_s (pl := plB B) (d := d) (n := 8) (f := nf - ((m + 1 : Nat) : Int)) (by omega)
    have k : plB B (nf - ((m + 1 : Nat) : Int)) = toC (pl (nf - ((m + 1 : Nat) : Int))) := h.1 _ (by omega) (by omega)
    rw [e, k, show nf - ((m + 1 : Nat) : Int) + 1 = nf - m by omega, ffN_plQ h hn hd m (by omega)]
    show _ = (if pl (nf - ((m : Int) + 1)) = d then nf - ((m : Int) + 1) else ffN pl d nf m)
    rw [show ((m + 1 : Nat) : Int) = (m : Int) + 1 by omega]
    by_cases c : pl (nf - ((m : Int) + 1)) = d
    · rw [if_pos c, if_pos ((toC_ge hd).mpr c)]
    · rw [if_neg c, if_neg (fun z => c ((toC_ge hd).mp z))]

set_option maxHeartbeats 2000000 in
set_option maxRecDepth 100000 in
theorem c_X8_feastOn (l : Launch) (D : va_G) (t : Nat → ClassId) (b n : Nat) (σ0 : qM) (A : Nat → Int32) (B : Nat → Nat → Int32) (P : Nat → Nat → Option Nat) (hl0 : l.stackTraces = false) (rw_ : Int → Row) (fe : Int → Int → Int32) (hQ : stQ t b σ0 A P 0 rw_ fe) (a_yr : Int32) (yr : Int) (e_yr : a_yr.toInt = yr) (a_dy : Int32) (dy : Int) (e_dy : a_dy.toInt = dy) : xC l yX8_feastOn cX8_feastOn 4 (some .int) 8 3 18 D t b n (cS t b σ0 A B P) [.ref (b + 0), .int a_yr, .int a_dy] (fun z n1 σ1 => n1 = n ∧ (∃ B1, σ1 = cS t b σ0 A B1 P ∧ kpR [4, 5] B B1) ∧ (if (-2000 ≤ yr ∧ yr ≤ 2000) ∧ -999999 ≤ dy ∧ dy ≤ 999999 then (if 0 ≤ ffN (plc (fun j => (fe j 1).toInt) (fday rw_ fe yr) (A 21).toInt) dy (A 21).toInt (A 21).toInt.toNat then 0 else 2) else 1) = 0 ∧ z.toInt = ffN (plc (fun j => (fe j 1).toInt) (fday rw_ fe yr) (A 21).toInt) dy (A 21).toInt (A 21).toInt.toNat) (fun E n1 σ1 => (∃ B1, σ1 = cS t b σ0 A B1 P ∧ kpR [4, 5] B B1) ∧ xE E = (if (-2000 ≤ yr ∧ yr ≤ 2000) ∧ -999999 ≤ dy ∧ dy ≤ 999999 then (if 0 ≤ ffN (plc (fun j => (fe j 1).toInt) (fday rw_ fe yr) (A 21).toInt) dy (A 21).toInt (A 21).toInt.toNat then 0 else 3) else 2)) := by
  refine xC.of (by decide +kernel) (Nat.le_of_ble_eq_true rfl) (fun p e s m args below meth c X hE hno w ls hl => ?_)
  have hx := X.1
  have hb := X.2.1
  have hl : lv_has ls 4 [(0, .ref (b + 0)), (1, .int a_yr), (2, .int a_dy)] := hl
  have hnn : (0 ≤ (A 20).toInt ∧ (A 20).toInt ≤ 6) ∧ (0 ≤ (A 21).toInt ∧ (A 21).toInt ≤ 8) := hQ.1
  refine lv_iload_n hx hb dX8_feastOn_0 rfl (lv_at hl 1 rfl) ?_
  refine q_cPS X w (c_X8_isYear l a_yr yr e_yr D t b n (cS t b σ0 A B P)) v_X8_157 rfl ⟨Nat.le_of_ble_eq_true rfl, Nat.le_of_ble_eq_true rfl⟩ rfl hl.1 (Nat.le_of_ble_eq_true rfl) dX8_feastOn_1 ⟨Nat.le_of_ble_eq_true rfl, Nat.le_of_ble_eq_true rfl⟩ (fun r_1 z_1 => ?_)
  refine lv_if_eq (tgt := 18) hx hb dX8_feastOn_4 (by decide) (fun c_4 => ?_) (fun c_4 => ?_)
  · skip
    rw [z_1] at c_4
    have k_4 := bI_f.mp c_4
    refine lv_iconst (v := 0) hx hb dX8_feastOn_18 (by decide) ?_
    refine x_cVS X hE hno w (c_X8_demand l D t b n σ0 A B P hl0 0) v_X8_103 rfl ⟨Nat.le_of_ble_eq_true rfl, Nat.le_of_ble_eq_true rfl⟩ rfl hl.1 (Nat.le_of_ble_eq_true rfl) dX8_feastOn_19 ⟨Nat.le_of_ble_eq_true rfl, Nat.le_of_ble_eq_true rfl⟩ ⟨Nat.le_of_ble_eq_true rfl, Nat.le_of_ble_eq_true rfl⟩ (fun E n1 σ1 hz => ⟨⟨_, hz.2.1, kpR.rf⟩, by rw [hz.1, if_neg (by omega)]; exact xE_ia⟩) (fun n_19 σ_19 H locs z_19 w => ?_)
    exact absurd rfl z_19.2.2
  · skip
    rw [z_1] at c_4
    have k_4 := bI_t.mp c_4
    refine lv_iload_n hx hb dX8_feastOn_7 rfl (lv_at hl 2 rfl) ?_
    refine q_cPS X w (c_X8_isDay l a_dy dy e_dy D t b n (cS t b σ0 A B P)) v_X8_187 rfl ⟨Nat.le_of_ble_eq_true rfl, Nat.le_of_ble_eq_true rfl⟩ rfl hl.1 (Nat.le_of_ble_eq_true rfl) dX8_feastOn_8 ⟨Nat.le_of_ble_eq_true rfl, Nat.le_of_ble_eq_true rfl⟩ (fun r_8 z_8 => ?_)
    refine lv_if_eq (tgt := 18) hx hb dX8_feastOn_11 (by decide) (fun c_11 => ?_) (fun c_11 => ?_)
    · skip
      rw [z_8] at c_11
      have k_11 := bI_f.mp c_11
      refine lv_iconst (v := 0) hx hb dX8_feastOn_18 (by decide) ?_
      refine x_cVS X hE hno w (c_X8_demand l D t b n σ0 A B P hl0 0) v_X8_103 rfl ⟨Nat.le_of_ble_eq_true rfl, Nat.le_of_ble_eq_true rfl⟩ rfl hl.1 (Nat.le_of_ble_eq_true rfl) dX8_feastOn_19 ⟨Nat.le_of_ble_eq_true rfl, Nat.le_of_ble_eq_true rfl⟩ ⟨Nat.le_of_ble_eq_true rfl, Nat.le_of_ble_eq_true rfl⟩ (fun E n1 σ1 hz => ⟨⟨_, hz.2.1, kpR.rf⟩, by rw [hz.1, if_neg (by omega)]; exact xE_ia⟩) (fun n_19 σ_19 H locs z_19 w => ?_)
      exact absurd rfl z_19.2.2
    · skip
      rw [z_8] at c_11
      have k_11 := bI_t.mp c_11
      refine lv_iconst (v := 1) hx hb dX8_feastOn_14 (by decide) ?_
      refine lv_goto (tgt := 19) hx hb dX8_feastOn_15 (by decide) ?_
      refine x_cVS X hE hno w (c_X8_demand l D t b n σ0 A B P hl0 1) v_X8_103 rfl ⟨Nat.le_of_ble_eq_true rfl, Nat.le_of_ble_eq_true rfl⟩ rfl hl.1 (Nat.le_of_ble_eq_true rfl) dX8_feastOn_19 ⟨Nat.le_of_ble_eq_true rfl, Nat.le_of_ble_eq_true rfl⟩ ⟨Nat.le_of_ble_eq_true rfl, Nat.le_of_ble_eq_true rfl⟩ (fun E n1 σ1 hz => absurd hz.2.2 (by decide)) (fun n_19 σ_19 H locs z_19 w => ?_)
      rw [z_19.1, z_19.2.1] at w
      refine lv_aload_n hx hb dX8_feastOn_22 rfl (lv_at hl 0 rfl) ?_
      refine kg_X8_feastDays X w dX8_feastOn_23 ?_
      refine lv_aload_n hx hb dX8_feastOn_26 rfl (lv_at hl 0 rfl) ?_
      refine kg_X8_state X w dX8_feastOn_27 ?_
      refine lv_aload_n hx hb dX8_feastOn_30 rfl (lv_at hl 0 rfl) ?_
      refine kg_X8_state X w dX8_feastOn_31 ?_
      refine q_cPV X w (c_X6_feastCount l D t b n σ0 A B P 0 (by decide)) v_X8_221 (k := 7) rfl rfl rfl ⟨Nat.le_of_ble_eq_true rfl, Nat.le_of_ble_eq_true rfl⟩ rfl hl.1 (Nat.le_of_ble_eq_true rfl) dX8_feastOn_34 ⟨Nat.le_of_ble_eq_true rfl, Nat.le_of_ble_eq_true rfl⟩ (fun r_34 z_34 => ?_)
      have p_34 : r_34.toInt = (A 21).toInt := congrArg Int32.toInt z_34
      refine lv_iload_n hx hb dX8_feastOn_37 rfl (lv_at hl 1 rfl) ?_
      refine kk_cVR X w (c_X2_find l D t b n σ0 A B P rw_ fe 0 (by decide) hQ r_34 a_yr ((A 21).toInt) yr p_34 e_yr (by first | assumption | omega) (by show 0 ≤ _ ∧ _ ≤ (A 21).toInt; omega)) v_X8_247 rfl rfl rfl ⟨Nat.le_of_ble_eq_true rfl, Nat.le_of_ble_eq_true rfl⟩ rfl hl.1 (Nat.le_of_ble_eq_true rfl) dX8_feastOn_38 ⟨Nat.le_of_ble_eq_true rfl, Nat.le_of_ble_eq_true rfl⟩ (fun B_38 H locs z_38 w => ?_)
      refine lv_aload_n hx hb dX8_feastOn_41 rfl (lv_at hl 0 rfl) ?_
      refine kg_X8_feastDays X w dX8_feastOn_42 ?_
      refine lv_aload_n hx hb dX8_feastOn_45 rfl (lv_at hl 0 rfl) ?_
      refine kg_X8_state X w dX8_feastOn_46 ?_
      refine kk_cVR X w (c_X2_place l D t b n σ0 A B_38 P rw_ fe 0 (by decide) hQ (fday rw_ fe yr) (fun j j0 j1 => ⟨z_38.2.1 j j0 j1, fday_bd j0⟩)) v_X8_254 rfl rfl rfl ⟨Nat.le_of_ble_eq_true rfl, Nat.le_of_ble_eq_true rfl⟩ rfl hl.1 (Nat.le_of_ble_eq_true rfl) dX8_feastOn_49 ⟨Nat.le_of_ble_eq_true rfl, Nat.le_of_ble_eq_true rfl⟩ (fun B_49 H locs z_49 w => ?_)
      refine lv_aload_n hx hb dX8_feastOn_52 rfl (lv_at hl 0 rfl) ?_
      refine kg_X8_feastDays X w dX8_feastOn_53 ?_
      refine lv_iload_n hx hb dX8_feastOn_56 rfl (lv_at hl 2 rfl) ?_
      refine q_cPV X w (c_X2_feastPlacedOn l D t b n σ0 A B_49 P a_dy dy e_dy) v_X8_266 (k := 33) rfl rfl rfl ⟨Nat.le_of_ble_eq_true rfl, Nat.le_of_ble_eq_true rfl⟩ rfl hl.1 (Nat.le_of_ble_eq_true rfl) dX8_feastOn_57 ⟨Nat.le_of_ble_eq_true rfl, Nat.le_of_ble_eq_true rfl⟩ (fun r_57 z_57 => ?_)
      have hd_57 : r_57.toInt = ffN (plc (fun j => (fe j 1).toInt) (fday rw_ fe yr) (A 21).toInt) dy (A 21).toInt (A 21).toInt.toNat := z_57.trans (by have y := ffN_plQ (nf := (A 21).toInt) z_49.2 (show 0 ≤ (A 21).toInt ∧ (A 21).toInt ≤ 8 from hnn.2) (d := dy) (by omega) (A 21).toInt.toNat (by omega); rw [show (8 - ((A 21).toInt - (((A 21).toInt.toNat : Nat) : Int))).toNat = 8 by omega] at y; exact y)
      refine lv_istore_n (lv' := [(3, .int r_57), (0, .ref (b + 0)), (1, .int a_yr), (2, .int a_dy)]) hx hb dX8_feastOn_60 rfl hl (by decide) rfl (fun ls hl => ?_)
      refine lv_iload_n hx hb dX8_feastOn_61 rfl (lv_at hl 0 rfl) ?_
      refine lv_if_ge (tgt := 76) hx hb dX8_feastOn_62 (by decide) (fun c_62 => ?_) (fun c_62 => ?_)
      · skip
        have k_62 : 0 ≤ (ffN (plc (fun j => (fe j 1).toInt) (fday rw_ fe yr) (A 21).toInt) dy (A 21).toInt (A 21).toInt.toNat) := (g_le (show (0 : Int32).toInt = 0 from rfl) hd_57).mp c_62
        refine lv_iload_n hx hb dX8_feastOn_76 rfl (lv_at hl 0 rfl) ?_
        refine vx_ret ?_
        refine W.widen (k := 3) (n := 18) (Nat.le_of_ble_eq_true rfl) (Nat.le_of_ble_eq_true rfl) ?_
        exact q_cret (post := fun z n1 σ1 => n1 = n ∧ (∃ B1, σ1 = cS t b σ0 A B1 P ∧ kpR [4, 5] B B1) ∧ (if (-2000 ≤ yr ∧ yr ≤ 2000) ∧ -999999 ≤ dy ∧ dy ≤ 999999 then (if 0 ≤ ffN (plc (fun j => (fe j 1).toInt) (fday rw_ fe yr) (A 21).toInt) dy (A 21).toInt (A 21).toInt.toNat then 0 else 2) else 1) = 0 ∧ z.toInt = ffN (plc (fun j => (fe j 1).toInt) (fday rw_ fe yr) (A 21).toInt) dy (A 21).toInt (A 21).toInt.toNat) X w dX8_feastOn_77 rfl ⟨rfl, ⟨_, rfl, (z_38.1.tr z_49.1 (by decide) (by decide))⟩, (by rw [if_pos (by omega), if_pos (by omega)]), hd_57⟩
      · skip
        have k_62 : ¬ (0 ≤ (ffN (plc (fun j => (fe j 1).toInt) (fday rw_ fe yr) (A 21).toInt) dy (A 21).toInt (A 21).toInt.toNat)) := fun h => c_62 ((g_le (show (0 : Int32).toInt = 0 from rfl) hd_57).mpr h)
        exact x_thrW_ns hl0 X hE hno w (is := 269) (text := "no feast is placed on this day") (by decide +kernel) hl.1 dX8_feastOn_65 dX8_feastOn_68 dX8_feastOn_69 dX8_feastOn_72 dX8_feastOn_75 ⟨Nat.le_of_ble_eq_true rfl, Nat.le_of_ble_eq_true rfl⟩ (Nat.le_of_ble_eq_true rfl) ⟨Nat.le_of_ble_eq_true rfl, Nat.le_of_ble_eq_true rfl⟩ ⟨Nat.le_of_ble_eq_true rfl, Nat.le_of_ble_eq_true rfl⟩ (fun _ => ⟨⟨_, rfl, (z_38.1.tr z_49.1 (by decide) (by decide))⟩, (by rw [if_pos (by omega), if_neg (by omega)]; exact xE_ns)⟩)

set_option maxHeartbeats 2000000 in
set_option maxRecDepth 100000 in
theorem c_X8_reading (l : Launch) (D : va_G) (t : Nat → ClassId) (b n : Nat) (σ0 : qM) (A : Nat → Int32) (B : Nat → Nat → Int32) (P : Nat → Nat → Option Nat) (hl0 : l.stackTraces = false) (h_c : 0 ≤ (A 36).toInt ∧ (A 36).toInt ≤ 18) (a_ix : Int32) (ix : Int) (e_ix : a_ix.toInt = ix) (a_part : Int32) (part : Int) (e_part : a_part.toInt = part) : xC l yX8_reading cX8_reading 3 (some .int) 7 2 12 D t b n (cS t b σ0 A B P) [.ref (b + 0), .int a_ix, .int a_part] (fun z n1 σ1 => n1 = n ∧ σ1 = cS t b σ0 A B P ∧ cd2 (0 ≤ ix ∧ ix ≤ (A 36).toInt - 1) (0 ≤ part ∧ part ≤ 2) = 0 ∧ z.toInt = (if part = 0 then (B 6 ix.toNat).toInt else if part = 1 then (B 7 ix.toNat).toInt else (B 8 ix.toNat).toInt)) (fun E n1 σ1 => σ1 = cS t b σ0 A B P ∧ xE E = cd2 (0 ≤ ix ∧ ix ≤ (A 36).toInt - 1) (0 ≤ part ∧ part ≤ 2)) := by
  refine xC.of (by decide +kernel) (Nat.le_of_ble_eq_true rfl) (fun p e s m args below meth c X hE hno w ls hl => ?_)
  have hx := X.1
  have hb := X.2.1
  have hl : lv_has ls 3 [(0, .ref (b + 0)), (1, .int a_ix), (2, .int a_part)] := hl
  refine lv_iload_n hx hb dX8_reading_0 rfl (lv_at hl 1 rfl) ?_
  refine lv_iconst (v := 0) hx hb dX8_reading_1 (by decide) ?_
  refine lv_aload_n hx hb dX8_reading_2 rfl (lv_at hl 0 rfl) ?_
  refine kg_X8_found X w dX8_reading_3 ?_
  refine q_cPV X w (c_X5_count l D t b n σ0 A B P ) v_X8_284 (k := 36) rfl rfl rfl ⟨Nat.le_of_ble_eq_true rfl, Nat.le_of_ble_eq_true rfl⟩ rfl hl.1 (Nat.le_of_ble_eq_true rfl) dX8_reading_6 ⟨Nat.le_of_ble_eq_true rfl, Nat.le_of_ble_eq_true rfl⟩ (fun r_6 z_6 => ?_)
  refine lv_iconst (v := 1) hx hb dX8_reading_9 (by decide) ?_
  refine lv_isub hx hb dX8_reading_10 ?_
  refine lv_topi (fun x_10 e_10 => ?_)
  have p_10 : x_10.toInt = (((A 36).toInt) - 1) := by rw [e_10]; exact t_sub (congrArg Int32.toInt z_6) (show (1 : Int32).toInt = 1 from rfl) (by omega) (by omega)
  refine q_cPS X w (c_X8_isFrom l a_ix 0 x_10 ix 0 (((A 36).toInt) - 1) e_ix (show (0 : Int32).toInt = 0 from rfl) p_10 D t b n (cS t b σ0 A B P)) v_X8_99 rfl ⟨Nat.le_of_ble_eq_true rfl, Nat.le_of_ble_eq_true rfl⟩ rfl hl.1 (Nat.le_of_ble_eq_true rfl) dX8_reading_11 ⟨Nat.le_of_ble_eq_true rfl, Nat.le_of_ble_eq_true rfl⟩ (fun r_11 z_11 => ?_)
  refine lv_if_ne (tgt := 28) hx hb dX8_reading_14 (by decide) (fun c_14 => ?_) (fun c_14 => ?_)
  · skip
    rw [z_11] at c_14
    have k_14 := bI_t.mp c_14
    refine lv_iload_n hx hb dX8_reading_28 rfl (lv_at hl 2 rfl) ?_
    refine lv_iconst (v := 0) hx hb dX8_reading_29 (by decide) ?_
    refine lv_iconst (v := 2) hx hb dX8_reading_30 (by decide) ?_
    refine q_cPS X w (c_X8_isFrom l a_part 0 2 part 0 2 e_part (show (0 : Int32).toInt = 0 from rfl) (show (2 : Int32).toInt = 2 from rfl) D t b n (cS t b σ0 A B P)) v_X8_99 rfl ⟨Nat.le_of_ble_eq_true rfl, Nat.le_of_ble_eq_true rfl⟩ rfl hl.1 (Nat.le_of_ble_eq_true rfl) dX8_reading_31 ⟨Nat.le_of_ble_eq_true rfl, Nat.le_of_ble_eq_true rfl⟩ (fun r_31 z_31 => ?_)
    refine x_cVS X hE hno w (c_X8_demand l D t b n σ0 A B P hl0 r_31) v_X8_103 rfl ⟨Nat.le_of_ble_eq_true rfl, Nat.le_of_ble_eq_true rfl⟩ rfl hl.1 (Nat.le_of_ble_eq_true rfl) dX8_reading_34 ⟨Nat.le_of_ble_eq_true rfl, Nat.le_of_ble_eq_true rfl⟩ ⟨Nat.le_of_ble_eq_true rfl, Nat.le_of_ble_eq_true rfl⟩ (fun E n1 σ1 hz => ⟨hz.2.1, by rw [hz.1]; exact xE_ia.trans (cd2_2 (by omega) (bI_f.mp (by have y := hz.2.2; rw [z_31] at y; exact y))).symm⟩) (fun n_34 σ_34 H locs z_34 w => ?_)
    rw [z_34.1, z_34.2.1] at w
    have k_34 : 0 ≤ part ∧ part ≤ 2 := by have y := z_34.2.2; rw [z_31] at y; exact bI_t.mp y
    refine lv_aload_n hx hb dX8_reading_37 rfl (lv_at hl 0 rfl) ?_
    refine kg_X8_found X w dX8_reading_38 ?_
    refine lv_iload_n hx hb dX8_reading_41 rfl (lv_at hl 1 rfl) ?_
    refine lv_iload_n hx hb dX8_reading_42 rfl (lv_at hl 2 rfl) ?_
    refine q_cPV X w (c_X5_partAt l D t b n σ0 A B P a_ix a_part ix part e_ix e_part (by first | assumption | omega)) v_X8_289 (k := 36) rfl rfl rfl ⟨Nat.le_of_ble_eq_true rfl, Nat.le_of_ble_eq_true rfl⟩ rfl hl.1 (Nat.le_of_ble_eq_true rfl) dX8_reading_43 ⟨Nat.le_of_ble_eq_true rfl, Nat.le_of_ble_eq_true rfl⟩ (fun r_43 z_43 => ?_)
    refine vx_ret ?_
    refine W.widen (k := 2) (n := 12) (Nat.le_of_ble_eq_true rfl) (Nat.le_of_ble_eq_true rfl) ?_
    exact q_cret (post := fun z n1 σ1 => n1 = n ∧ σ1 = cS t b σ0 A B P ∧ cd2 (0 ≤ ix ∧ ix ≤ (A 36).toInt - 1) (0 ≤ part ∧ part ≤ 2) = 0 ∧ z.toInt = (if part = 0 then (B 6 ix.toNat).toInt else if part = 1 then (B 7 ix.toNat).toInt else (B 8 ix.toNat).toInt)) X w dX8_reading_46 rfl ⟨rfl, rfl, cd2_0 (by omega) k_34, z_43⟩
  · skip
    rw [z_11] at c_14
    have k_14 := bI_f.mp c_14
    exact x_thrW_io hl0 X hE hno w (is := 287) (text := "no such reading") (by decide +kernel) hl.1 dX8_reading_17 dX8_reading_20 dX8_reading_21 dX8_reading_24 dX8_reading_27 ⟨Nat.le_of_ble_eq_true rfl, Nat.le_of_ble_eq_true rfl⟩ (Nat.le_of_ble_eq_true rfl) ⟨Nat.le_of_ble_eq_true rfl, Nat.le_of_ble_eq_true rfl⟩ ⟨Nat.le_of_ble_eq_true rfl, Nat.le_of_ble_eq_true rfl⟩ (fun _ => ⟨rfl, xE_io.trans (cd2_1 (by omega)).symm⟩)

set_option maxHeartbeats 2000000 in
set_option maxRecDepth 100000 in
theorem c_X8_differentDays (l : Launch) (D : va_G) (t : Nat → ClassId) (b n : Nat) (σ0 : qM) (A : Nat → Int32) (B : Nat → Nat → Int32) (P : Nat → Nat → Option Nat) (h_1 : 0 ≤ (A 36).toInt ∧ (A 36).toInt ≤ 18) : qP l yX8_differentDays cX8_differentDays 1 (some .int) 1 D t b n (cS t b σ0 A B P) [.ref (b + 0)] (fun z => z.toInt = ddN (B 8) (A 36).toInt.toNat) := by
  refine qP.of (by decide +kernel) (Nat.le_of_ble_eq_true rfl) (fun p e s m args below meth c X w ls hl => ?_)
  have hx := X.1
  have hb := X.2.1
  have hl : lv_has ls 1 [(0, .ref (b + 0))] := hl
  refine lv_aload_n hx hb dX8_differentDays_0 rfl (lv_at hl 0 rfl) ?_
  refine kg_X8_found X w dX8_differentDays_1 ?_
  refine q_cPV X w (c_X5_distinctDays l D t b n σ0 A B P (by first | assumption | omega)) v_X8_292 (k := 36) rfl rfl rfl ⟨Nat.le_of_ble_eq_true rfl, Nat.le_of_ble_eq_true rfl⟩ rfl hl.1 (Nat.le_of_ble_eq_true rfl) dX8_differentDays_4 ⟨Nat.zero_le _, Nat.zero_le _⟩ (fun r_4 z_4 => ?_)
  exact q_pret X w dX8_differentDays_7 (by exact z_4)
