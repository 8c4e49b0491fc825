set_option maxHeartbeats 2000000 in
set_option maxRecDepth 100000 in
theorem c_X8_meetingYear (l : Launch) (D : va_G) (t : Nat → ClassId) (b n : Nat) (σ0 : qM) (A : Nat → Int32) (B : Nat → Nat → Int32) (P : Nat → Nat → Option Nat) (hl0 : l.stackTraces = false) (rw_ : Int → Row) (fe : Int → Int → Int32) (hQ : stQ t b σ0 A P 0 rw_ fe) (a_f : Int32) (f : Int) (e_f : a_f.toInt = f) (a_g : Int32) (g : Int) (e_g : a_g.toInt = g) (a_fr : Int32) (fr : Int) (e_fr : a_fr.toInt = fr) : xC l yX8_meetingYear cX8_meetingYear 7 (some .int) 8 4 24 D t b n (cS t b σ0 A B P) [.ref (b + 0), .int a_f, .int a_g, .int a_fr] (fun z n1 σ1 => n1 = n ∧ (∃ B1, σ1 = cS t b σ0 A B1 P ∧ kpR [4, 5] B B1) ∧ (if (0 ≤ f ∧ f < (A 21).toInt) ∧ 0 ≤ g ∧ g < (A 21).toInt then (if f ≠ g ∧ -2000 ≤ fr ∧ fr ≤ 1801 then (if mtN (fun yy => fday rw_ fe yy f) (fun yy => fday rw_ fe yy g) (fr + 200) 200 = -2147483647 then 3 else 0) else 2) else 1) = 0 ∧ z.toInt = mtN (fun yy => fday rw_ fe yy f) (fun yy => fday rw_ fe yy g) (fr + 200) 200) (fun E n1 σ1 => (∃ B1, σ1 = cS t b σ0 A B1 P ∧ kpR [4, 5] B B1) ∧ xE E = (if (0 ≤ f ∧ f < (A 21).toInt) ∧ 0 ≤ g ∧ g < (A 21).toInt then (if f ≠ g ∧ -2000 ≤ fr ∧ fr ≤ 1801 then (if mtN (fun yy => fday rw_ fe yy f) (fun yy => fday rw_ fe yy g) (fr + 200) 200 = -2147483647 then 3 else 0) else 2) else 1)) := by
  refine xC.of (by decide +kernel) (Nat.le_of_ble_eq_true rfl) (fun p e s m args below meth c X hE hno w ls hl => ?_)
  have hx := X.1
  have hb := X.2.1
  have hl : lv_has ls 7 [(0, .ref (b + 0)), (1, .int a_f), (2, .int a_g), (3, .int a_fr)] := hl
  have hnn : (0 ≤ (A 20).toInt ∧ (A 20).toInt ≤ 6) ∧ (0 ≤ (A 21).toInt ∧ (A 21).toInt ≤ 8) := hQ.1
  refine lv_aload_n hx hb dX8_meetingYear_0 rfl (lv_at hl 0 rfl) ?_
  refine lv_iload_n hx hb dX8_meetingYear_1 rfl (lv_at hl 1 rfl) ?_
  refine x_cVV X hE hno w (c_X8_checkFeast l D t b n σ0 A B P hl0 hQ.ok a_f f e_f) v_X8_244 (k := 0) rfl rfl rfl ⟨Nat.le_of_ble_eq_true rfl, Nat.le_of_ble_eq_true rfl⟩ rfl hl.1 (Nat.le_of_ble_eq_true rfl) dX8_meetingYear_2 ⟨Nat.le_of_ble_eq_true rfl, Nat.le_of_ble_eq_true rfl⟩ ⟨Nat.le_of_ble_eq_true rfl, Nat.le_of_ble_eq_true rfl⟩ (fun E n1 σ1 hz => ⟨⟨_, hz.2.1, kpR.rf⟩, by rw [hz.1, if_neg (fun q => hz.2.2 q.1)]; exact xE_io⟩) (fun n_2 σ_2 H locs z_2 w => ?_)
  rw [z_2.1, z_2.2.1] at w
  have hin_2 := z_2.2.2
  refine lv_aload_n hx hb dX8_meetingYear_5 rfl (lv_at hl 0 rfl) ?_
  refine lv_iload_n hx hb dX8_meetingYear_6 rfl (lv_at hl 2 rfl) ?_
  refine x_cVV X hE hno w (c_X8_checkFeast l D t b n σ0 A B P hl0 hQ.ok a_g g e_g) v_X8_244 (k := 0) rfl rfl rfl ⟨Nat.le_of_ble_eq_true rfl, Nat.le_of_ble_eq_true rfl⟩ rfl hl.1 (Nat.le_of_ble_eq_true rfl) dX8_meetingYear_7 ⟨Nat.le_of_ble_eq_true rfl, Nat.le_of_ble_eq_true rfl⟩ ⟨Nat.le_of_ble_eq_true rfl, Nat.le_of_ble_eq_true rfl⟩ (fun E n1 σ1 hz => ⟨⟨_, hz.2.1, kpR.rf⟩, by rw [hz.1, if_neg (fun q => hz.2.2 q.2)]; exact xE_io⟩) (fun n_7 σ_7 H locs z_7 w => ?_)
  rw [z_7.1, z_7.2.1] at w
  have hin_7 := z_7.2.2
  refine lv_iload_n hx hb dX8_meetingYear_10 rfl (lv_at hl 1 rfl) ?_
  refine lv_iload_n hx hb dX8_meetingYear_11 rfl (lv_at hl 2 rfl) ?_
  refine lv_icmp_eq (tgt := 32) hx hb dX8_meetingYear_12 (by decide) (fun c_12 => ?_) (fun c_12 => ?_)
  · skip
    have k_12 : f = g := (g_eq e_f e_g).mp c_12
    refine lv_iconst (v := 0) hx hb dX8_meetingYear_32 (by decide) ?_
    refine x_cVS X hE hno w (c_X8_demand l D t b n σ0 A B P hl0 0) v_X8_103 rfl ⟨Nat.le_of_ble_eq_true rfl, Nat.le_of_ble_eq_true rfl⟩ rfl hl.1 (Nat.le_of_ble_eq_true rfl) dX8_meetingYear_33 ⟨Nat.le_of_ble_eq_true rfl, Nat.le_of_ble_eq_true rfl⟩ ⟨Nat.le_of_ble_eq_true rfl, Nat.le_of_ble_eq_true rfl⟩ (fun E n1 σ1 hz => ⟨⟨_, hz.2.1, kpR.rf⟩, by rw [hz.1, if_pos ⟨hin_2, hin_7⟩, if_neg (by omega)]; exact xE_ia⟩) (fun n_33 σ_33 H locs z_33 w => ?_)
    exact absurd rfl z_33.2.2
  · skip
    have k_12 : ¬ (f = g) := fun h => c_12 ((g_eq e_f e_g).mpr h)
    refine lv_iload_n hx hb dX8_meetingYear_15 rfl (lv_at hl 3 rfl) ?_
    refine lv_sipush (v := (-2000)) hx hb dX8_meetingYear_16 (by decide) ?_
    refine lv_sipush (v := 1801) hx hb dX8_meetingYear_19 (by decide) ?_
    refine q_cPS X w (c_X8_isFrom l a_fr (-2000) 1801 fr (-2000) 1801 e_fr (show ((-2000) : Int32).toInt = (-2000) from rfl) (show (1801 : Int32).toInt = 1801 from rfl) D t b n (cS t b σ0 A B P)) v_X8_99 rfl ⟨Nat.le_of_ble_eq_true rfl, Nat.le_of_ble_eq_true rfl⟩ rfl hl.1 (Nat.le_of_ble_eq_true rfl) dX8_meetingYear_22 ⟨Nat.le_of_ble_eq_true rfl, Nat.le_of_ble_eq_true rfl⟩ (fun r_22 z_22 => ?_)
    refine lv_if_eq (tgt := 32) hx hb dX8_meetingYear_25 (by decide) (fun c_25 => ?_) (fun c_25 => ?_)
    · skip
      rw [z_22] at c_25
      have k_25 := bI_f.mp c_25
      refine lv_iconst (v := 0) hx hb dX8_meetingYear_32 (by decide) ?_
      refine x_cVS X hE hno w (c_X8_demand l D t b n σ0 A B P hl0 0) v_X8_103 rfl ⟨Nat.le_of_ble_eq_true rfl, Nat.le_of_ble_eq_true rfl⟩ rfl hl.1 (Nat.le_of_ble_eq_true rfl) dX8_meetingYear_33 ⟨Nat.le_of_ble_eq_true rfl, Nat.le_of_ble_eq_true rfl⟩ ⟨Nat.le_of_ble_eq_true rfl, Nat.le_of_ble_eq_true rfl⟩ (fun E n1 σ1 hz => ⟨⟨_, hz.2.1, kpR.rf⟩, by rw [hz.1, if_pos ⟨hin_2, hin_7⟩, if_neg (by omega)]; exact xE_ia⟩) (fun n_33 σ_33 H locs z_33 w => ?_)
      exact absurd rfl z_33.2.2
    · skip
      rw [z_22] at c_25
      have k_25 := bI_t.mp c_25
      refine lv_iconst (v := 1) hx hb dX8_meetingYear_28 (by decide) ?_
      refine lv_goto (tgt := 33) hx hb dX8_meetingYear_29 (by decide) ?_
      refine x_cVS X hE hno w (c_X8_demand l D t b n σ0 A B P hl0 1) v_X8_103 rfl ⟨Nat.le_of_ble_eq_true rfl, Nat.le_of_ble_eq_true rfl⟩ rfl hl.1 (Nat.le_of_ble_eq_true rfl) dX8_meetingYear_33 ⟨Nat.le_of_ble_eq_true rfl, Nat.le_of_ble_eq_true rfl⟩ ⟨Nat.le_of_ble_eq_true rfl, Nat.le_of_ble_eq_true rfl⟩ (fun E n1 σ1 hz => absurd hz.2.2 (by decide)) (fun n_33 σ_33 H locs z_33 w => ?_)
      rw [z_33.1, z_33.2.1] at w
      refine lv_iload_n hx hb dX8_meetingYear_36 rfl (lv_at hl 1 rfl) ?_
      refine lv_iload_n hx hb dX8_meetingYear_37 rfl (lv_at hl 2 rfl) ?_
      refine q_max X ml_X8_271 ⟨Nat.le_of_ble_eq_true rfl, Nat.le_of_ble_eq_true rfl⟩ ⟨Nat.le_of_ble_eq_true rfl, Nat.le_of_ble_eq_true rfl⟩ hl.1 (Nat.le_of_ble_eq_true rfl) dX8_meetingYear_38 (fun r_38 z_38 => ?_)
      have p_38 : r_38.toInt = (if f < g then g else f) := by rw [z_38, e_f, e_g]
      have p_38 : r_38.toInt = (if f < g then g else f) := p_38.trans (by rfl)
      refine lv_iconst (v := 1) hx hb dX8_meetingYear_41 (by decide) ?_
      refine lv_iadd hx hb dX8_meetingYear_42 ?_
      refine lv_topi (fun x_42 e_42 => ?_)
      have p_42 : x_42.toInt = ((if f < g then g else f) + 1) := by rw [e_42]; exact t_add p_38 (show (1 : Int32).toInt = 1 from rfl) (by omega) (by omega)
      refine lv_istore (lv' := [(4, .int x_42), (0, .ref (b + 0)), (1, .int a_f), (2, .int a_g), (3, .int a_fr)]) hx hb dX8_meetingYear_43 hl (by decide) rfl (fun ls hl => ?_)
      refine lv_iconst (v := 0) hx hb dX8_meetingYear_45 (by decide) ?_
      refine lv_istore (lv' := [(5, .int 0), (4, .int x_42), (0, .ref (b + 0)), (1, .int a_f), (2, .int a_g), (3, .int a_fr)]) hx hb dX8_meetingYear_46 hl (by decide) rfl (fun ls hl => ?_)
      refine q_loop (α := Int32 × Int × (Nat → Nat → Int32)) (fun a => a.1.toInt = a.2.1 ∧ ((0 ≤ a.2.1 ∧ a.2.1 ≤ 200) ∧ kpR [4] B a.2.2 ∧ mtN (fun yy => fday rw_ fe yy f) (fun yy => fday rw_ fe yy g) (fr + 200) 200 = mtN (fun yy => fday rw_ fe yy f) (fun yy => fday rw_ fe yy g) (fr + 200) (fr + 200 - (fr + a.2.1)).toNat)) (fun a => (200 - a.2.1).toNat) (fun a => ∀ (H : Heap) (locs : List Loc), qW D b n (cS t b σ0 A a.2.2 P) s H locs → ∀ ls : Array Slot, lv_has ls 7 [(5, .int a.1), (4, .int x_42), (0, .ref (b + 0)), (1, .int a_f), (2, .int a_g), (3, .int a_fr)] → W p l e (qR 8 4 24) s m args below meth c H locs 3 18 (vx_MQ below (va_Qi (S := Nat × qM) (fun z z7 => (fun z n1 σ1 => n1 = n ∧ (∃ B1, σ1 = cS t b σ0 A B1 P ∧ kpR [4, 5] B B1) ∧ (if (0 ≤ f ∧ f < (A 21).toInt) ∧ 0 ≤ g ∧ g < (A 21).toInt then (if f ≠ g ∧ -2000 ≤ fr ∧ fr ≤ 1801 then (if mtN (fun yy => fday rw_ fe yy f) (fun yy => fday rw_ fe yy g) (fr + 200) 200 = -2147483647 then 3 else 0) else 2) else 1) = 0 ∧ z.toInt = mtN (fun yy => fday rw_ fe yy f) (fun yy => fday rw_ fe yy g) (fr + 200) 200) z z7.1 z7.2) (fun z7 T => WB D b z7.1 z7.2 T.heap) (fun q => b ≤ q)) (xX D b (fun E n1 σ1 => (∃ B1, σ1 = cS t b σ0 A B1 P ∧ kpR [4, 5] B B1) ∧ xE E = (if (0 ≤ f ∧ f < (A 21).toInt) ∧ 0 ≤ g ∧ g < (A 21).toInt then (if f ≠ g ∧ -2000 ≤ fr ∧ fr ≤ 1801 then (if mtN (fun yy => fday rw_ fe yy f) (fun yy => fday rw_ fe yy g) (fr + 200) 200 = -2147483647 then 3 else 0) else 2) else 1))) args s 4 24 (fun q => b ≤ q)) (F0 m 48 ls [])) ?_ ⟨0, 0, B⟩ ⟨(show (0 : Int32).toInt = 0 from rfl), by dsimp only; exact ⟨by omega, kpR.rf, by rw [show (fr + 200 - (fr + 0)).toNat = 200 by omega]⟩⟩ _ _ w ls (lv_sub hl [0, 1, 2, 3, 4, 5] rfl)
      rintro ⟨v_i, i, R_L48⟩ ⟨q_i, inv_48⟩ ih_48 H locs w ls hl
      dsimp only at q_i inv_48 hl w
      have hfb : (fday rw_ fe (fr + i) f = -2147483647 ∨ -999999 ≤ fday rw_ fe (fr + i) f) ∧ (fday rw_ fe (fr + i) g = -2147483647 ∨ -999999 ≤ fday rw_ fe (fr + i) g) := by have y1 := fday_bd (rw_ := rw_) (fe := fe) (f := f) (yr := fr + i) (by omega); have y2 := fday_bd (rw_ := rw_) (fe := fe) (f := g) (yr := fr + i) (by omega); omega
      refine lv_iload hx hb dX8_meetingYear_48 (lv_at hl 0 rfl) ?_
      refine lv_sipush (v := 200) hx hb dX8_meetingYear_50 (by decide) ?_
      refine lv_icmp_ge (tgt := 115) hx hb dX8_meetingYear_53 (by decide) (fun c_53 => ?_) (fun c_53 => ?_)
      · skip
        have k_53 : 200 ≤ i := (g_le (show (200 : Int32).toInt = 200 from rfl) q_i).mp c_53
        exact x_thrW_ns hl0 X hE hno w (is := 274) (text := "the feasts do not meet in these years") (by decide +kernel) hl.1 dX8_meetingYear_115 dX8_meetingYear_118 dX8_meetingYear_119 dX8_meetingYear_122 dX8_meetingYear_125 ⟨Nat.le_of_ble_eq_true rfl, Nat.le_of_ble_eq_true rfl⟩ (Nat.le_of_ble_eq_true rfl) ⟨Nat.le_of_ble_eq_true rfl, Nat.le_of_ble_eq_true rfl⟩ ⟨Nat.le_of_ble_eq_true rfl, Nat.le_of_ble_eq_true rfl⟩ (fun _ => ⟨⟨_, rfl, inv_48.2.1.wk (by decide)⟩, (by rw [if_pos ⟨hin_2, hin_7⟩, if_pos (by omega), if_pos (inv_48.2.2.trans (by rw [show (fr + 200 - (fr + i)).toNat = 0 by omega]; rfl))]; exact xE_ns)⟩)
      · skip
        have k_53 : ¬ (200 ≤ i) := fun h => c_53 ((g_le (show (200 : Int32).toInt = 200 from rfl) q_i).mpr h)
        refine lv_aload_n hx hb dX8_meetingYear_56 rfl (lv_at hl 2 rfl) ?_
        refine kg_X8_feastDays X w dX8_meetingYear_57 ?_
        refine lv_aload_n hx hb dX8_meetingYear_60 rfl (lv_at hl 2 rfl) ?_
        refine kg_X8_state X w dX8_meetingYear_61 ?_
        refine lv_iload hx hb dX8_meetingYear_64 (lv_at hl 1 rfl) ?_
        refine lv_iload_n hx hb dX8_meetingYear_66 rfl (lv_at hl 5 rfl) ?_
        refine lv_iload hx hb dX8_meetingYear_67 (lv_at hl 0 rfl) ?_
        refine lv_iadd hx hb dX8_meetingYear_69 ?_
        refine lv_topi (fun x_69 e_69 => ?_)
        have p_69 : x_69.toInt = (fr + i) := by rw [e_69]; exact t_add e_fr q_i (by omega) (by omega)
        refine kk_cVR X w (c_X2_find l D t b n σ0 A R_L48 P rw_ fe 0 (by decide) hQ x_42 x_69 ((if f < g then g else f) + 1) (fr + i) p_42 p_69 (by omega) (by show 0 ≤ _ ∧ _ ≤ (A 21).toInt; omega)) v_X8_247 rfl rfl rfl ⟨Nat.le_of_ble_eq_true rfl, Nat.le_of_ble_eq_true rfl⟩ rfl hl.1 (Nat.le_of_ble_eq_true rfl) dX8_meetingYear_70 ⟨Nat.le_of_ble_eq_true rfl, Nat.le_of_ble_eq_true rfl⟩ (fun B_70 H locs z_70 w => ?_)
        refine lv_aload_n hx hb dX8_meetingYear_73 rfl (lv_at hl 2 rfl) ?_
        refine kg_X8_feastDays X w dX8_meetingYear_74 ?_
        refine lv_iload_n hx hb dX8_meetingYear_77 rfl (lv_at hl 3 rfl) ?_
        refine q_cPV X w (c_X2_dayAt l D t b n σ0 A B_70 P a_f f e_f) v_X8_251 (k := 33) rfl rfl rfl ⟨Nat.le_of_ble_eq_true rfl, Nat.le_of_ble_eq_true rfl⟩ rfl hl.1 (Nat.le_of_ble_eq_true rfl) dX8_meetingYear_78 ⟨Nat.le_of_ble_eq_true rfl, Nat.le_of_ble_eq_true rfl⟩ (fun r_78 z_78 => ?_)
        have hd_78 : r_78.toInt = toC (fday rw_ fe (fr + i) f) := by rw [z_78, if_pos (by omega)]; exact z_70.2.1 f (by omega) (by omega)
        refine lv_istore (lv' := [(6, .int r_78), (5, .int v_i), (4, .int x_42), (0, .ref (b + 0)), (1, .int a_f), (2, .int a_g), (3, .int a_fr)]) hx hb dX8_meetingYear_81 hl (by decide) rfl (fun ls hl => ?_)
        refine lv_iload hx hb dX8_meetingYear_83 (lv_at hl 0 rfl) ?_
        refine lv_ldcw hx hb X.2.2.2.1 (X.2.2.1 _ kc_X8_260) dX8_meetingYear_85 ?_
        refine lv_icmp_eq (tgt := 109) hx hb dX8_meetingYear_88 (by decide) (fun c_88 => ?_) (fun c_88 => ?_)
        · skip
          have k_88 : (toC (fday rw_ fe (fr + i) f)) = (-2147483648) := (g_eq hd_78 (show ((-2147483648) : Int32).toInt = (-2147483648) from rfl)).mp c_88
          obtain ⟨x_109, e_109⟩ : ∃ z : Int32, z = (v_i + 1) := ⟨_, rfl⟩
          have p_109 : x_109.toInt = (i + 1) := by rw [e_109]; exact t_add q_i (show (1 : Int32).toInt = 1 from rfl) (by omega) (by omega)
          refine lv_iinc (v := x_109) (lv' := [(5, .int x_109), (6, .int r_78), (4, .int x_42), (0, .ref (b + 0)), (1, .int a_f), (2, .int a_g), (3, .int a_fr)]) hx hb dX8_meetingYear_109 hl (k := 1) rfl (by rw [e_109]; rfl) (by decide) rfl (fun ls hl => ?_)
          refine lv_goto (tgt := 48) hx hb dX8_meetingYear_112 (by decide) ?_
          refine ih_48 ⟨x_109, (i + 1), B_70⟩ ⟨p_109, by dsimp only; refine ⟨by omega, inv_48.2.1.tr z_70.1 (by decide) (by decide), inv_48.2.2.trans ?_⟩; rw [mtN_s (by omega), if_neg (fun y => y.1 ((toC_none hfb.1).mp k_88)), show fr + i + 1 = fr + (i + 1) by omega]⟩ (by dsimp only; omega) _ _ w ls (lv_sub hl [0, 2, 3, 4, 5, 6] rfl)
        · skip
          have k_88 : ¬ ((toC (fday rw_ fe (fr + i) f)) = (-2147483648)) := fun h => c_88 ((g_eq hd_78 (show ((-2147483648) : Int32).toInt = (-2147483648) from rfl)).mpr h)
          refine lv_iload hx hb dX8_meetingYear_91 (lv_at hl 0 rfl) ?_
          refine lv_aload_n hx hb dX8_meetingYear_93 rfl (lv_at hl 3 rfl) ?_
          refine kg_X8_feastDays X w dX8_meetingYear_94 ?_
          refine lv_iload_n hx hb dX8_meetingYear_97 rfl (lv_at hl 5 rfl) ?_
          refine q_cPV X w (c_X2_dayAt l D t b n σ0 A B_70 P a_g g e_g) v_X8_251 (k := 33) rfl rfl rfl ⟨Nat.le_of_ble_eq_true rfl, Nat.le_of_ble_eq_true rfl⟩ rfl hl.1 (Nat.le_of_ble_eq_true rfl) dX8_meetingYear_98 ⟨Nat.le_of_ble_eq_true rfl, Nat.le_of_ble_eq_true rfl⟩ (fun r_98 z_98 => ?_)
          have hd_98 : r_98.toInt = toC (fday rw_ fe (fr + i) g) := by rw [z_98, if_pos (by omega)]; exact z_70.2.1 g (by omega) (by omega)
          refine lv_icmp_ne (tgt := 109) hx hb dX8_meetingYear_101 (by decide) (fun c_101 => ?_) (fun c_101 => ?_)
          · skip
            have k_101 : ¬ ((toC (fday rw_ fe (fr + i) f)) = (toC (fday rw_ fe (fr + i) g))) := fun h => c_101 ((g_eq hd_78 hd_98).mpr h)
            obtain ⟨x_109, e_109⟩ : ∃ z : Int32, z = (v_i + 1) := ⟨_, rfl⟩
            have p_109 : x_109.toInt = (i + 1) := by rw [e_109]; exact t_add q_i (show (1 : Int32).toInt = 1 from rfl) (by omega) (by omega)
            refine lv_iinc (v := x_109) (lv' := [(5, .int x_109), (6, .int r_78), (4, .int x_42), (0, .ref (b + 0)), (1, .int a_f), (2, .int a_g), (3, .int a_fr)]) hx hb dX8_meetingYear_109 hl (k := 1) rfl (by rw [e_109]; rfl) (by decide) rfl (fun ls hl => ?_)
            refine lv_goto (tgt := 48) hx hb dX8_meetingYear_112 (by decide) ?_
            refine ih_48 ⟨x_109, (i + 1), B_70⟩ ⟨p_109, by dsimp only; refine ⟨by omega, inv_48.2.1.tr z_70.1 (by decide) (by decide), inv_48.2.2.trans ?_⟩; rw [mtN_s (by omega), if_neg (fun y => k_101 (by rw [show fday rw_ fe (fr + i) f = fday rw_ fe (fr + i) g from y.2])), show fr + i + 1 = fr + (i + 1) by omega]⟩ (by dsimp only; omega) _ _ w ls (lv_sub hl [0, 2, 3, 4, 5, 6] rfl)
          · skip
            have k_101 : (toC (fday rw_ fe (fr + i) f)) = (toC (fday rw_ fe (fr + i) g)) := (g_eq hd_78 hd_98).mp c_101
            refine lv_iload_n hx hb dX8_meetingYear_104 rfl (lv_at hl 6 rfl) ?_
            refine lv_iload hx hb dX8_meetingYear_105 (lv_at hl 1 rfl) ?_
            refine lv_iadd hx hb dX8_meetingYear_107 ?_
            refine lv_topi (fun x_107 e_107 => ?_)
            have p_107 : x_107.toInt = (fr + i) := by rw [e_107]; exact t_add e_fr q_i (by omega) (by omega)
            refine vx_ret ?_
            refine W.widen (k := 4) (n := 24) (Nat.le_of_ble_eq_true rfl) (Nat.le_of_ble_eq_true rfl) ?_
            exact q_cret (post := fun z n1 σ1 => n1 = n ∧ (∃ B1, σ1 = cS t b σ0 A B1 P ∧ kpR [4, 5] B B1) ∧ (if (0 ≤ f ∧ f < (A 21).toInt) ∧ 0 ≤ g ∧ g < (A 21).toInt then (if f ≠ g ∧ -2000 ≤ fr ∧ fr ≤ 1801 then (if mtN (fun yy => fday rw_ fe yy f) (fun yy => fday rw_ fe yy g) (fr + 200) 200 = -2147483647 then 3 else 0) else 2) else 1) = 0 ∧ z.toInt = mtN (fun yy => fday rw_ fe yy f) (fun yy => fday rw_ fe yy g) (fr + 200) 200) X w dX8_meetingYear_108 rfl (by have hne : fday rw_ fe (fr + i) f ≠ -2147483647 := (fun y => k_88 ((toC_none hfb.1).mpr y)); have heq : fday rw_ fe (fr + i) f = fday rw_ fe (fr + i) g := (by have y := k_101; rw [toC_d hne] at y; exact ((toC_ge (by omega)).mp y.symm).symm); have hm : mtN (fun yy => fday rw_ fe yy f) (fun yy => fday rw_ fe yy g) (fr + 200) 200 = fr + i := inv_48.2.2.trans (by rw [mtN_s (by omega), if_pos ⟨hne, heq⟩]); exact ⟨rfl, ⟨_, rfl, (inv_48.2.1.tr z_70.1 (by decide) (by decide))⟩, (by rw [if_pos ⟨hin_2, hin_7⟩, if_pos (by omega), if_neg (by rw [hm]; omega)]), (p_107).trans hm.symm⟩)
