set_option maxHeartbeats 4000000 in
set_option maxRecDepth 100000 in
theorem c_X0_monthOf (l : Launch) (D : va_G) (t : Nat → ClassId) (b n : Nat) (σ : qM) (q L C : Nat) (K fl fc : Nat → Int32) (ρ : Row) (hP : CalP t b σ q L C K fl fc ρ) (a_yr : Int32) (a_dy : Int32) (yr : Int) (dy : Int) (e_yr : a_yr.toInt = yr) (e_dy : a_dy.toInt = dy) (h_1 : fst ρ (-2000) ≤ dy ∧ dy < fst ρ 2001) (h_2 : yr = yof ρ dy) : qP l yX0_monthOf cX0_monthOf 7 (some .int) 4 D t b n σ [.ref (b + q), .int a_yr, .int a_dy] (fun z => z.toInt = mof ρ dy) := by
  refine qP.of (by decide +kernel) (Nat.le_of_ble_eq_true rfl) (fun p e s m args below meth c X w ls hl => ?_)
  have hx := X.1
  have hb := X.2.1
  have hl : lv_has ls 7 [(0, .ref (b + q)), (1, .int a_yr), (2, .int a_dy)] := hl
  obtain ⟨hO, hR, k1, k2, k3, k4, k5, k6, k7, k9, k10, k11, k12, k13, k14, kl, kc⟩ := hP.2.2.2
  have hm := hO.months
  have hrb := reps_bd hO hR
  have hy := yof_in hO h_1.1 h_1.2
  have hmo := mof_bd hO dy
  have hdo := dof_bd hO h_1.1 h_1.2
  rw [← h_2] at hy hmo hdo
  have hmb := mcnt_bd hO yr
  have hf0 := fst_bd hO (y := yr) (by omega) (by omega)
  have hf1 := fst_bd hO (y := -2000) (by omega) (by omega)
  have hf2 := fst_bd hO (y := 2001) (by omega) (by omega)
  refine lv_aload_n hx hb dX0_monthOf_0 rfl (lv_at hl 0 rfl) ?_
  refine lv_iload_n hx hb dX0_monthOf_1 rfl (lv_at hl 1 rfl) ?_
  refine q_cPV X w (c_X0_leaps l D t b n σ q L C K fl fc ρ hP a_yr yr e_yr) v_X0_92 (k := q) hP.1 rfl rfl ⟨Nat.le_of_ble_eq_true rfl, Nat.le_of_ble_eq_true rfl⟩ rfl hl.1 (Nat.le_of_ble_eq_true rfl) dX0_monthOf_2 ⟨Nat.zero_le _, Nat.zero_le _⟩ (fun r_2 z_2 => ?_)
  refine lv_istore_n (lv' := [(3, .int r_2), (0, .ref (b + q)), (1, .int a_yr), (2, .int a_dy)]) hx hb dX0_monthOf_5 rfl hl (by decide) rfl (fun ls hl => ?_)
  refine lv_aload_n hx hb dX0_monthOf_6 rfl (lv_at hl 1 rfl) ?_
  refine lv_iload_n hx hb dX0_monthOf_7 rfl (lv_at hl 0 rfl) ?_
  refine q_cPV X w (c_X0_monthCountIn l D t b n σ q L C K fl fc ρ hP yr r_2 (r_2).toInt rfl (by exact z_2)) v_X0_96 (k := q) hP.1 rfl rfl ⟨Nat.le_of_ble_eq_true rfl, Nat.le_of_ble_eq_true rfl⟩ rfl hl.1 (Nat.le_of_ble_eq_true rfl) dX0_monthOf_8 ⟨Nat.zero_le _, Nat.zero_le _⟩ (fun r_8 z_8 => ?_)
  refine lv_istore (lv' := [(4, .int r_8), (3, .int r_2), (0, .ref (b + q)), (1, .int a_yr), (2, .int a_dy)]) hx hb dX0_monthOf_11 hl (by decide) rfl (fun ls hl => ?_)
  refine lv_aload_n hx hb dX0_monthOf_13 rfl (lv_at hl 2 rfl) ?_
  refine lv_iload_n hx hb dX0_monthOf_14 rfl (lv_at hl 3 rfl) ?_
  refine q_cPV X w (c_X0_startOfYear l D t b n σ q L C K fl fc ρ hP a_yr yr e_yr (by first | assumption | omega)) v_X0_74 (k := q) hP.1 rfl rfl ⟨Nat.le_of_ble_eq_true rfl, Nat.le_of_ble_eq_true rfl⟩ rfl hl.1 (Nat.le_of_ble_eq_true rfl) dX0_monthOf_15 ⟨Nat.zero_le _, Nat.zero_le _⟩ (fun r_15 z_15 => ?_)
  refine lv_aload_n hx hb dX0_monthOf_18 rfl (lv_at hl 2 rfl) ?_
  refine lv_iload_n hx hb dX0_monthOf_19 rfl (lv_at hl 1 rfl) ?_
  refine lv_iconst (v := 1) hx hb dX0_monthOf_20 (by decide) ?_
  refine q_cPV X w (c_X0_lengthIn l D t b n σ q L C K fl fc ρ hP yr r_2 1 (r_2).toInt 1 rfl (show (1 : Int32).toInt = 1 from rfl) (by exact z_2) (by omega)) v_X0_110 (k := q) hP.1 rfl rfl ⟨Nat.le_of_ble_eq_true rfl, Nat.le_of_ble_eq_true rfl⟩ rfl hl.1 (Nat.le_of_ble_eq_true rfl) dX0_monthOf_21 ⟨Nat.zero_le _, Nat.zero_le _⟩ (fun r_21 z_21 => ?_)
  have hl1 := mlen_bd hO (y := yr) (m := 1) (by omega) (by omega)
  refine lv_iadd hx hb dX0_monthOf_24 ?_
  refine lv_topi (fun x_24 e_24 => ?_)
  have p_24 : x_24.toInt = ((fst ρ yr) + (mlen ρ yr 1)) := by rw [e_24]; exact t_add z_15 z_21 (by omega) (by omega)
  refine lv_istore (lv' := [(5, .int x_24), (4, .int r_8), (3, .int r_2), (0, .ref (b + q)), (1, .int a_yr), (2, .int a_dy)]) hx hb dX0_monthOf_25 hl (by decide) rfl (fun ls hl => ?_)
  refine lv_iconst (v := 1) hx hb dX0_monthOf_27 (by decide) ?_
  refine lv_istore (lv' := [(6, .int 1), (5, .int x_24), (4, .int r_8), (3, .int r_2), (0, .ref (b + q)), (1, .int a_yr), (2, .int a_dy)]) hx hb dX0_monthOf_28 hl (by decide) rfl (fun ls hl => ?_)
  have hs1 : msum ρ yr (1 : Int).toNat = mlen ρ yr 1 := by have h := msum_s (ρ := ρ) (y := yr) (m := 1) (by omega); rw [show ((1 : Int) - 1).toNat = 0 from rfl, msum, show ((1 : Int) + 1 - 1).toNat = (1 : Int).toNat from rfl] at h; omega
  have hs0 : msum ρ yr ((1 : Int) - 1).toNat = 0 := rfl
  refine q_loop (α := Int32 × Int32 × Int × Int) (fun a => a.1.toInt = a.2.2.1 ∧ a.2.1.toInt = a.2.2.2 ∧ ((1 ≤ a.2.2.2 ∧ a.2.2.2 ≤ mcnt ρ yr) ∧ a.2.2.1 = fst ρ yr + msum ρ yr a.2.2.2.toNat ∧ msum ρ yr (a.2.2.2 - 1).toNat ≤ dy - fst ρ yr)) (fun a => (mcnt ρ yr - a.2.2.2).toNat) (fun a => ∀ ls : Array Slot, lv_has ls 7 [(6, .int a.2.1), (5, .int a.1), (4, .int r_8), (3, .int r_2), (0, .ref (b + q)), (1, .int a_yr), (2, .int a_dy)] → W p l e (qR 4 0 0) s m args below meth c s.heap [] 0 0 (MQ below (vp_Si (fun z => z.toInt = mof ρ dy)) args s 0 0 (fun _ => False)) (F0 m 30 ls [])) ?_ ⟨x_24, 1, ((fst ρ yr) + (mlen ρ yr 1)), 1⟩ ⟨p_24, (show (1 : Int32).toInt = 1 from rfl), by dsimp only; exact ⟨by omega, by omega, by omega⟩⟩ ls (lv_sub hl [0, 1, 2, 3, 4, 5, 6] rfl)
  rintro ⟨v_nx, v_mo, nx, mo⟩ ⟨q_nx, q_mo, inv_30⟩ ih_30 ls hl
  dsimp only at q_nx q_mo inv_30 hl
  have hms := msum_bd hO (y := yr) mo.toNat (by omega)
  refine lv_iload hx hb dX0_monthOf_30 (lv_at hl 0 rfl) ?_
  refine lv_iload hx hb dX0_monthOf_32 (lv_at hl 2 rfl) ?_
  refine lv_icmp_ge (tgt := 63) hx hb dX0_monthOf_34 (by decide) (fun c_34 => ?_) (fun c_34 => ?_)
  · skip
    have k_34 : (mcnt ρ yr) ≤ mo := (g_le z_8 q_mo).mp c_34
    refine lv_iload hx hb dX0_monthOf_63 (lv_at hl 0 rfl) ?_
    exact q_pret X w dX0_monthOf_65 (by have e : mofY ρ yr dy = mo := mofY_eq hO (by omega) (by omega) inv_30.2.2 (by have ha := msum_all hO yr; have hs := fst_succ ρ yr; rw [show mo = mcnt ρ yr by omega, ha]; omega); rw [q_mo]; unfold mof; rw [← h_2, e])
  · skip
    have k_34 : ¬ ((mcnt ρ yr) ≤ mo) := fun h => c_34 ((g_le z_8 q_mo).mpr h)
    refine lv_iload hx hb dX0_monthOf_37 (lv_at hl 1 rfl) ?_
    refine lv_iload_n hx hb dX0_monthOf_39 rfl (lv_at hl 6 rfl) ?_
    refine lv_icmp_gt (tgt := 63) hx hb dX0_monthOf_40 (by decide) (fun c_40 => ?_) (fun c_40 => ?_)
    · skip
      have k_40 : dy < nx := (g_lt e_dy q_nx).mp c_40
      refine lv_iload hx hb dX0_monthOf_63 (lv_at hl 0 rfl) ?_
      exact q_pret X w dX0_monthOf_65 (by have e : mofY ρ yr dy = mo := mofY_eq hO (by omega) (by omega) inv_30.2.2 (by omega); rw [q_mo]; unfold mof; rw [← h_2, e])
    · skip
      have k_40 : ¬ (dy < nx) := fun h => c_40 ((g_lt e_dy q_nx).mpr h)
      refine lv_iload hx hb dX0_monthOf_43 (lv_at hl 1 rfl) ?_
      refine lv_aload_n hx hb dX0_monthOf_45 rfl (lv_at hl 4 rfl) ?_
      refine lv_iload_n hx hb dX0_monthOf_46 rfl (lv_at hl 3 rfl) ?_
      refine lv_iload hx hb dX0_monthOf_47 (lv_at hl 0 rfl) ?_
      refine lv_iconst (v := 1) hx hb dX0_monthOf_49 (by decide) ?_
      refine lv_iadd hx hb dX0_monthOf_50 ?_
      refine lv_topi (fun x_50 e_50 => ?_)
      have p_50 : x_50.toInt = (mo + 1) := by rw [e_50]; exact t_add q_mo (show (1 : Int32).toInt = 1 from rfl) (by omega) (by omega)
      refine q_cPV X w (c_X0_lengthIn l D t b n σ q L C K fl fc ρ hP yr r_2 x_50 (r_2).toInt (mo + 1) rfl p_50 (by exact z_2) (by omega)) v_X0_110 (k := q) hP.1 rfl rfl ⟨Nat.le_of_ble_eq_true rfl, Nat.le_of_ble_eq_true rfl⟩ rfl hl.1 (Nat.le_of_ble_eq_true rfl) dX0_monthOf_51 ⟨Nat.zero_le _, Nat.zero_le _⟩ (fun r_51 z_51 => ?_)
      have hl2 := mlen_bd hO (y := yr) (m := mo + 1) (by omega) (by omega)
      refine lv_iadd hx hb dX0_monthOf_54 ?_
      refine lv_topi (fun x_54 e_54 => ?_)
      have p_54 : x_54.toInt = (nx + (mlen ρ yr (mo + 1))) := by rw [e_54]; exact t_add q_nx z_51 (by omega) (by omega)
      refine lv_istore (lv' := [(5, .int x_54), (6, .int v_mo), (4, .int r_8), (3, .int r_2), (0, .ref (b + q)), (1, .int a_yr), (2, .int a_dy)]) hx hb dX0_monthOf_55 hl (by decide) rfl (fun ls hl => ?_)
      obtain ⟨x_57, e_57⟩ : ∃ z : Int32, z = (v_mo + 1) := ⟨_, rfl⟩
      have p_57 : x_57.toInt = (mo + 1) := by rw [e_57]; exact t_add q_mo (show (1 : Int32).toInt = 1 from rfl) (by omega) (by omega)
      refine lv_iinc (v := x_57) (lv' := [(6, .int x_57), (5, .int x_54), (4, .int r_8), (3, .int r_2), (0, .ref (b + q)), (1, .int a_yr), (2, .int a_dy)]) hx hb dX0_monthOf_57 hl (k := 1) rfl (by rw [e_57]; rfl) (by decide) rfl (fun ls hl => ?_)
      refine lv_goto (tgt := 30) hx hb dX0_monthOf_60 (by decide) ?_
      refine ih_30 ⟨x_54, x_57, (nx + (mlen ρ yr (mo + 1))), (mo + 1)⟩ ⟨p_54, p_57, by dsimp only; have hs := msum_s (ρ := ρ) (y := yr) (m := mo + 1) (by omega); rw [show mo + 1 + 1 - 1 = mo + 1 by omega, show mo + 1 - 1 = mo by omega] at hs; exact ⟨by omega, by omega, by rw [show mo + 1 - 1 = mo by omega]; omega⟩⟩ (by dsimp only; omega) ls (lv_sub hl [0, 1, 2, 3, 4, 5, 6] rfl)

set_option maxHeartbeats 4000000 in
set_option maxRecDepth 100000 in
theorem c_X0_dayOfMonth (l : Launch) (D : va_G) (t : Nat → ClassId) (b n : Nat) (σ : qM) (q L C : Nat) (K fl fc : Nat → Int32) (ρ : Row) (hP : CalP t b σ q L C K fl fc ρ) (a_yr : Int32) (a_dy : Int32) (yr : Int) (dy : Int) (e_yr : a_yr.toInt = yr) (e_dy : a_dy.toInt = dy) (h_1 : fst ρ (-2000) ≤ dy ∧ dy < fst ρ 2001) (h_2 : yr = yof ρ dy) : qP l yX0_dayOfMonth cX0_dayOfMonth 3 (some .int) 5 D t b n σ [.ref (b + q), .int a_yr, .int a_dy] (fun z => z.toInt = dof ρ dy) := by
  refine qP.of (by decide +kernel) (Nat.le_of_ble_eq_true rfl) (fun p e s m args below meth c X w ls hl => ?_)
  have hx := X.1
  have hb := X.2.1
  have hl : lv_has ls 3 [(0, .ref (b + q)), (1, .int a_yr), (2, .int a_dy)] := hl
  obtain ⟨hO, hR, k1, k2, k3, k4, k5, k6, k7, k9, k10, k11, k12, k13, k14, kl, kc⟩ := hP.2.2.2
  have hm := hO.months
  have hrb := reps_bd hO hR
  have hy := yof_in hO h_1.1 h_1.2
  have hmo := mof_bd hO dy
  have hdo := dof_bd hO h_1.1 h_1.2
  rw [← h_2] at hy hmo hdo
  have hmb := mcnt_bd hO yr
  have hf0 := fst_bd hO (y := yr) (by omega) (by omega)
  have hf1 := fst_bd hO (y := -2000) (by omega) (by omega)
  have hf2 := fst_bd hO (y := 2001) (by omega) (by omega)
  have hdb := dnum_bd hO (y := yr) (m := mof ρ dy) (d := 1) (by omega) hmo.1 hmo.2
  refine lv_iload_n hx hb dX0_dayOfMonth_0 rfl (lv_at hl 2 rfl) ?_
  refine lv_aload_n hx hb dX0_dayOfMonth_1 rfl (lv_at hl 0 rfl) ?_
  refine lv_iload_n hx hb dX0_dayOfMonth_2 rfl (lv_at hl 1 rfl) ?_
  refine lv_aload_n hx hb dX0_dayOfMonth_3 rfl (lv_at hl 0 rfl) ?_
  refine lv_iload_n hx hb dX0_dayOfMonth_4 rfl (lv_at hl 1 rfl) ?_
  refine lv_iload_n hx hb dX0_dayOfMonth_5 rfl (lv_at hl 2 rfl) ?_
  refine q_cPV X w (c_X0_monthOf l D t b n σ q L C K fl fc ρ hP a_yr a_dy yr dy e_yr e_dy (by first | assumption | omega) (by first | assumption | omega)) v_X0_131 (k := q) hP.1 rfl rfl ⟨Nat.le_of_ble_eq_true rfl, Nat.le_of_ble_eq_true rfl⟩ rfl hl.1 (Nat.le_of_ble_eq_true rfl) dX0_dayOfMonth_6 ⟨Nat.zero_le _, Nat.zero_le _⟩ (fun r_6 z_6 => ?_)
  refine q_cPV X w (c_X0_startOfMonth l D t b n σ q L C K fl fc ρ hP a_yr r_6 yr (mof ρ dy) e_yr z_6 (by first | assumption | omega) (by first | assumption | omega)) v_X0_122 (k := q) hP.1 rfl rfl ⟨Nat.le_of_ble_eq_true rfl, Nat.le_of_ble_eq_true rfl⟩ rfl hl.1 (Nat.le_of_ble_eq_true rfl) dX0_dayOfMonth_9 ⟨Nat.zero_le _, Nat.zero_le _⟩ (fun r_9 z_9 => ?_)
  refine lv_isub hx hb dX0_dayOfMonth_12 ?_
  refine lv_topi (fun x_12 e_12 => ?_)
  have p_12 : x_12.toInt = (dy - (dnum ρ yr (mof ρ dy) 1)) := by rw [e_12]; exact t_sub e_dy z_9 (by omega) (by omega)
  refine lv_iconst (v := 1) hx hb dX0_dayOfMonth_13 (by decide) ?_
  refine lv_iadd hx hb dX0_dayOfMonth_14 ?_
  refine lv_topi (fun x_14 e_14 => ?_)
  have p_14 : x_14.toInt = ((dy - (dnum ρ yr (mof ρ dy) 1)) + 1) := by rw [e_14]; exact t_add p_12 (show (1 : Int32).toInt = 1 from rfl) (by omega) (by omega)
  exact q_pret X w dX0_dayOfMonth_15 (by rw [p_14]; unfold dof dnum; rw [← h_2]; omega)

set_option maxHeartbeats 4000000 in
set_option maxRecDepth 100000 in
theorem c_X0_partOfDate (l : Launch) (D : va_G) (t : Nat → ClassId) (b n : Nat) (σ : qM) (q L C : Nat) (K fl fc : Nat → Int32) (ρ : Row) (hP : CalP t b σ q L C K fl fc ρ) (a_yr : Int32) (a_dy : Int32) (a_pt : Int32) (yr : Int) (dy : Int) (pt : Int) (e_yr : a_yr.toInt = yr) (e_dy : a_dy.toInt = dy) (e_pt : a_pt.toInt = pt) (h_1 : fst ρ (-2000) ≤ dy ∧ dy < fst ρ 2001) (h_2 : yr = yof ρ dy) (h_3 : 0 ≤ pt ∧ pt ≤ 4) : qP l yX0_partOfDate cX0_partOfDate 4 (some .int) 6 D t b n σ [.ref (b + q), .int a_yr, .int a_dy, .int a_pt] (fun z => z.toInt = pof ρ dy pt) := by
  refine qP.of (by decide +kernel) (Nat.le_of_ble_eq_true rfl) (fun p e s m args below meth c X w ls hl => ?_)
  have hx := X.1
  have hb := X.2.1
  have hl : lv_has ls 4 [(0, .ref (b + q)), (1, .int a_yr), (2, .int a_dy), (3, .int a_pt)] := hl
  obtain ⟨hO, hR, k1, k2, k3, k4, k5, k6, k7, k9, k10, k11, k12, k13, k14, kl, kc⟩ := hP.2.2.2
  have hm := hO.months
  have hrb := reps_bd hO hR
  have hy := yof_in hO h_1.1 h_1.2
  have hmo := mof_bd hO dy
  have hdo := dof_bd hO h_1.1 h_1.2
  rw [← h_2] at hy hmo hdo
  have hmb := mcnt_bd hO yr
  have hf0 := fst_bd hO (y := yr) (by omega) (by omega)
  have hf1 := fst_bd hO (y := -2000) (by omega) (by omega)
  have hf2 := fst_bd hO (y := 2001) (by omega) (by omega)
  refine lv_iload_n hx hb dX0_partOfDate_0 rfl (lv_at hl 3 rfl) ?_
  by_cases s_0 : pt = 0
  · refine lv_tableIn (tgt := 32) hx hb dX0_partOfDate_1 (by rw [e_pt, s_0]; decide) (by rw [e_pt, s_0]; decide) (by rw [e_pt, s_0]; rfl) (by decide) ?_
    refine lv_iload_n hx hb dX0_partOfDate_32 rfl (lv_at hl 1 rfl) ?_
    exact q_pret X w dX0_partOfDate_33 (by unfold pof; rw [e_yr, if_pos s_0]; exact h_2)
  by_cases s_1 : pt = 1
  · refine lv_tableIn (tgt := 34) hx hb dX0_partOfDate_1 (by rw [e_pt, s_1]; decide) (by rw [e_pt, s_1]; decide) (by rw [e_pt, s_1]; rfl) (by decide) ?_
    refine lv_aload_n hx hb dX0_partOfDate_34 rfl (lv_at hl 0 rfl) ?_
    refine lv_iload_n hx hb dX0_partOfDate_35 rfl (lv_at hl 1 rfl) ?_
    refine lv_iload_n hx hb dX0_partOfDate_36 rfl (lv_at hl 2 rfl) ?_
    refine q_cPV X w (c_X0_monthOf l D t b n σ q L C K fl fc ρ hP a_yr a_dy yr dy e_yr e_dy (by first | assumption | omega) (by first | assumption | omega)) v_X0_131 (k := q) hP.1 rfl rfl ⟨Nat.le_of_ble_eq_true rfl, Nat.le_of_ble_eq_true rfl⟩ rfl hl.1 (Nat.le_of_ble_eq_true rfl) dX0_partOfDate_37 ⟨Nat.zero_le _, Nat.zero_le _⟩ (fun r_37 z_37 => ?_)
    exact q_pret X w dX0_partOfDate_40 (by unfold pof; rw [z_37, if_neg s_0, if_pos s_1])
  by_cases s_2 : pt = 2
  · refine lv_tableIn (tgt := 41) hx hb dX0_partOfDate_1 (by rw [e_pt, s_2]; decide) (by rw [e_pt, s_2]; decide) (by rw [e_pt, s_2]; rfl) (by decide) ?_
    refine lv_aload_n hx hb dX0_partOfDate_41 rfl (lv_at hl 0 rfl) ?_
    refine lv_iload_n hx hb dX0_partOfDate_42 rfl (lv_at hl 1 rfl) ?_
    refine lv_iload_n hx hb dX0_partOfDate_43 rfl (lv_at hl 2 rfl) ?_
    refine q_cPV X w (c_X0_dayOfMonth l D t b n σ q L C K fl fc ρ hP a_yr a_dy yr dy e_yr e_dy (by first | assumption | omega) (by first | assumption | omega)) v_X0_134 (k := q) hP.1 rfl rfl ⟨Nat.le_of_ble_eq_true rfl, Nat.le_of_ble_eq_true rfl⟩ rfl hl.1 (Nat.le_of_ble_eq_true rfl) dX0_partOfDate_44 ⟨Nat.zero_le _, Nat.zero_le _⟩ (fun r_44 z_44 => ?_)
    exact q_pret X w dX0_partOfDate_47 (by unfold pof; rw [z_44, if_neg s_0, if_neg s_1, if_pos s_2])
  by_cases s_3 : pt = 3
  · refine lv_tableIn (tgt := 48) hx hb dX0_partOfDate_1 (by rw [e_pt, s_3]; decide) (by rw [e_pt, s_3]; decide) (by rw [e_pt, s_3]; rfl) (by decide) ?_
    refine lv_iload_n hx hb dX0_partOfDate_48 rfl (lv_at hl 2 rfl) ?_
    refine lv_aload_n hx hb dX0_partOfDate_49 rfl (lv_at hl 0 rfl) ?_
    refine lv_iload_n hx hb dX0_partOfDate_50 rfl (lv_at hl 1 rfl) ?_
    refine q_cPV X w (c_X0_startOfYear l D t b n σ q L C K fl fc ρ hP a_yr yr e_yr (by first | assumption | omega)) v_X0_74 (k := q) hP.1 rfl rfl ⟨Nat.le_of_ble_eq_true rfl, Nat.le_of_ble_eq_true rfl⟩ rfl hl.1 (Nat.le_of_ble_eq_true rfl) dX0_partOfDate_51 ⟨Nat.zero_le _, Nat.zero_le _⟩ (fun r_51 z_51 => ?_)
    refine lv_isub hx hb dX0_partOfDate_54 ?_
    refine lv_topi (fun x_54 e_54 => ?_)
    have p_54 : x_54.toInt = (dy - (fst ρ yr)) := by rw [e_54]; exact t_sub e_dy z_51 (by omega) (by omega)
    refine lv_iconst (v := 1) hx hb dX0_partOfDate_55 (by decide) ?_
    refine lv_iadd hx hb dX0_partOfDate_56 ?_
    refine lv_topi (fun x_56 e_56 => ?_)
    have p_56 : x_56.toInt = ((dy - (fst ρ yr)) + 1) := by rw [e_56]; exact t_add p_54 (show (1 : Int32).toInt = 1 from rfl) (by omega) (by omega)
    exact q_pret X w dX0_partOfDate_57 (by unfold pof; rw [p_56, if_neg s_0, if_neg s_1, if_neg s_2, if_pos s_3]; rw [← h_2])
  refine lv_tableOut (tgt := 58) hx hb dX0_partOfDate_1 (by rw [e_pt]; omega) (by decide) ?_
  refine lv_aload_n hx hb dX0_partOfDate_58 rfl (lv_at hl 0 rfl) ?_
  refine lv_iload_n hx hb dX0_partOfDate_59 rfl (lv_at hl 2 rfl) ?_
  refine q_cPV X w (c_X0_weekdayOf l D t b n σ q L C K fl fc ρ hP a_dy dy e_dy (by first | assumption | omega)) v_X0_137 (k := q) hP.1 rfl rfl ⟨Nat.le_of_ble_eq_true rfl, Nat.le_of_ble_eq_true rfl⟩ rfl hl.1 (Nat.le_of_ble_eq_true rfl) dX0_partOfDate_60 ⟨Nat.zero_le _, Nat.zero_le _⟩ (fun r_60 z_60 => ?_)
  exact q_pret X w dX0_partOfDate_63 (by unfold pof; rw [z_60, if_neg s_0, if_neg s_1, if_neg s_2, if_neg s_3])

set_option maxHeartbeats 4000000 in
set_option maxRecDepth 100000 in
theorem c_X0_weekCount (l : Launch) (D : va_G) (t : Nat → ClassId) (b n : Nat) (σ : qM) (q L C : Nat) (K fl fc : Nat → Int32) (ρ : Row) (hP : CalP t b σ q L C K fl fc ρ) (a_yr : Int32) (yr : Int) (e_yr : a_yr.toInt = yr) (h_1 : -2000 ≤ yr ∧ yr ≤ 2000) : qP l yX0_weekCount cX0_weekCount 3 (some .int) 5 D t b n σ [.ref (b + q), .int a_yr] (fun z => z.toInt = (fw ρ (yr + 1) - fw ρ yr) / rv ρ 30) := by
  refine qP.of (by decide +kernel) (Nat.le_of_ble_eq_true rfl) (fun p e s m args below meth c X w ls hl => ?_)
  have hx := X.1
  have hb := X.2.1
  have hl : lv_has ls 3 [(0, .ref (b + q)), (1, .int a_yr)] := hl
  obtain ⟨hO, hR, k1, k2, k3, k4, k5, k6, k7, k9, k10, k11, k12, k13, k14, kl, kc⟩ := hP.2.2.2
  have hm := hO.months
  have hrb := reps_bd hO hR
  have hw := hO.wk
  have b0 := fw_bd hO (yr)
  have b1 := fw_bd hO (yr + 1)
  have c0 := fst_bd hO (y := yr) (by omega) (by omega)
  have c1 := fst_bd hO (y := yr + 1) (by omega) (by omega)
  have b5 := fw_mono hO (x := yr) (y := yr + 1) (by omega)
  refine lv_aload_n hx hb dX0_weekCount_0 rfl (lv_at hl 0 rfl) ?_
  refine lv_iload_n hx hb dX0_weekCount_1 rfl (lv_at hl 1 rfl) ?_
  refine lv_iconst (v := 1) hx hb dX0_weekCount_2 (by decide) ?_
  refine lv_iadd hx hb dX0_weekCount_3 ?_
  refine lv_topi (fun x_3 e_3 => ?_)
  have p_3 : x_3.toInt = (yr + 1) := by rw [e_3]; exact t_add e_yr (show (1 : Int32).toInt = 1 from rfl) (by omega) (by omega)
  refine lv_iconst (v := 1) hx hb dX0_weekCount_4 (by decide) ?_
  refine q_cPV X w (c_X0_startOfWeek l D t b n σ q L C K fl fc ρ hP x_3 1 (yr + 1) 1 p_3 (show (1 : Int32).toInt = 1 from rfl) (by first | assumption | omega) (by first | assumption | omega)) v_X0_140 (k := q) hP.1 rfl rfl ⟨Nat.le_of_ble_eq_true rfl, Nat.le_of_ble_eq_true rfl⟩ rfl hl.1 (Nat.le_of_ble_eq_true rfl) dX0_weekCount_5 ⟨Nat.zero_le _, Nat.zero_le _⟩ (fun r_5 z_5 => ?_)
  refine lv_aload_n hx hb dX0_weekCount_8 rfl (lv_at hl 0 rfl) ?_
  refine lv_iload_n hx hb dX0_weekCount_9 rfl (lv_at hl 1 rfl) ?_
  refine lv_iconst (v := 1) hx hb dX0_weekCount_10 (by decide) ?_
  refine q_cPV X w (c_X0_startOfWeek l D t b n σ q L C K fl fc ρ hP a_yr 1 yr 1 e_yr (show (1 : Int32).toInt = 1 from rfl) (by first | assumption | omega) (by first | assumption | omega)) v_X0_140 (k := q) hP.1 rfl rfl ⟨Nat.le_of_ble_eq_true rfl, Nat.le_of_ble_eq_true rfl⟩ rfl hl.1 (Nat.le_of_ble_eq_true rfl) dX0_weekCount_11 ⟨Nat.zero_le _, Nat.zero_le _⟩ (fun r_11 z_11 => ?_)
  refine lv_isub hx hb dX0_weekCount_14 ?_
  refine lv_topi (fun x_14 e_14 => ?_)
  have p_14 : x_14.toInt = ((fw ρ (yr + 1) + rv ρ 30 * (1 - 1)) - (fw ρ yr + rv ρ 30 * (1 - 1))) := by rw [e_14]; exact t_sub z_5 z_11 (by omega) (by omega)
  refine lv_istore_n (lv' := [(2, .int x_14), (0, .ref (b + q)), (1, .int a_yr)]) hx hb dX0_weekCount_15 rfl hl (by decide) rfl (fun ls hl => ?_)
  refine lv_aload_n hx hb dX0_weekCount_16 rfl (lv_at hl 1 rfl) ?_
  refine cg_weekLength X w hP dX0_weekCount_17 ?_
  refine lv_if_le (tgt := 32) hx hb dX0_weekCount_20 (by decide) (fun c_20 => ?_) (fun c_20 => ?_)
  · skip
    have k_20 : (rv ρ 30) ≤ 0 := (g_le k9 (show (0 : Int32).toInt = 0 from rfl)).mp c_20
    exfalso; omega
  · skip
    have k_20 : ¬ ((rv ρ 30) ≤ 0) := fun h => c_20 ((g_le k9 (show (0 : Int32).toInt = 0 from rfl)).mpr h)
    refine lv_iload_n hx hb dX0_weekCount_23 rfl (lv_at hl 0 rfl) ?_
    refine lv_aload_n hx hb dX0_weekCount_24 rfl (lv_at hl 1 rfl) ?_
    refine cg_weekLength X w hP dX0_weekCount_25 ?_
    refine lv_idiv hx hb dX0_weekCount_28 (g_ne0 k9 (show rv ρ 30 ≠ 0 by omega)) ?_
    refine lv_topi (fun x_28 e_28 => ?_)
    have p_28 : x_28.toInt = (((fw ρ (yr + 1) + rv ρ 30 * (1 - 1)) - (fw ρ yr + rv ρ 30 * (1 - 1))) / (rv ρ 30)) := by rw [e_28]; exact t_div p_14 k9 (by omega) (by omega)
    refine lv_goto (tgt := 33) hx hb dX0_weekCount_29 (by decide) ?_
    exact q_pret X w dX0_weekCount_33 (by rw [p_28]; congr 1; omega)

set_option maxHeartbeats 4000000 in
set_option maxRecDepth 100000 in
theorem c_X0_weekYearOf (l : Launch) (D : va_G) (t : Nat → ClassId) (b n : Nat) (σ : qM) (q L C : Nat) (K fl fc : Nat → Int32) (ρ : Row) (hP : CalP t b σ q L C K fl fc ρ) (a_yr : Int32) (a_dy : Int32) (yr : Int) (dy : Int) (e_yr : a_yr.toInt = yr) (e_dy : a_dy.toInt = dy) (h_1 : fst ρ (-2000) ≤ dy ∧ dy < fst ρ 2001) (h_2 : yr = yof ρ dy) : qP l yX0_weekYearOf cX0_weekYearOf 3 (some .int) 5 D t b n σ [.ref (b + q), .int a_yr, .int a_dy] (fun z => z.toInt = wyr ρ dy) := by
  refine qP.of (by decide +kernel) (Nat.le_of_ble_eq_true rfl) (fun p e s m args below meth c X w ls hl => ?_)
  have hx := X.1
  have hb := X.2.1
  have hl : lv_has ls 3 [(0, .ref (b + q)), (1, .int a_yr), (2, .int a_dy)] := hl
  obtain ⟨hO, hR, k1, k2, k3, k4, k5, k6, k7, k9, k10, k11, k12, k13, k14, kl, kc⟩ := hP.2.2.2
  have hm := hO.months
  have hrb := reps_bd hO hR
  have hy := yof_in hO h_1.1 h_1.2
  rw [← h_2] at hy
  have hw := hO.wk
  have b0 := fw_bd hO (yr)
  have b1 := fw_bd hO (yr + 1)
  have c0 := fst_bd hO (y := yr) (by omega) (by omega)
  have c1 := fst_bd hO (y := yr + 1) (by omega) (by omega)
  refine lv_iload_n hx hb dX0_weekYearOf_0 rfl (lv_at hl 2 rfl) ?_
  refine lv_aload_n hx hb dX0_weekYearOf_1 rfl (lv_at hl 0 rfl) ?_
  refine lv_iload_n hx hb dX0_weekYearOf_2 rfl (lv_at hl 1 rfl) ?_
  refine lv_iconst (v := 1) hx hb dX0_weekYearOf_3 (by decide) ?_
  refine q_cPV X w (c_X0_startOfWeek l D t b n σ q L C K fl fc ρ hP a_yr 1 yr 1 e_yr (show (1 : Int32).toInt = 1 from rfl) (by first | assumption | omega) (by first | assumption | omega)) v_X0_140 (k := q) hP.1 rfl rfl ⟨Nat.le_of_ble_eq_true rfl, Nat.le_of_ble_eq_true rfl⟩ rfl hl.1 (Nat.le_of_ble_eq_true rfl) dX0_weekYearOf_4 ⟨Nat.zero_le _, Nat.zero_le _⟩ (fun r_4 z_4 => ?_)
  refine lv_icmp_ge (tgt := 14) hx hb dX0_weekYearOf_7 (by decide) (fun c_7 => ?_) (fun c_7 => ?_)
  · skip
    have k_7 : (fw ρ yr + rv ρ 30 * (1 - 1)) ≤ dy := (g_le z_4 e_dy).mp c_7
    refine lv_iload_n hx hb dX0_weekYearOf_14 rfl (lv_at hl 2 rfl) ?_
    refine lv_aload_n hx hb dX0_weekYearOf_15 rfl (lv_at hl 0 rfl) ?_
    refine lv_iload_n hx hb dX0_weekYearOf_16 rfl (lv_at hl 1 rfl) ?_
    refine lv_iconst (v := 1) hx hb dX0_weekYearOf_17 (by decide) ?_
    refine lv_iadd hx hb dX0_weekYearOf_18 ?_
    refine lv_topi (fun x_18 e_18 => ?_)
    have p_18 : x_18.toInt = (yr + 1) := by rw [e_18]; exact t_add e_yr (show (1 : Int32).toInt = 1 from rfl) (by omega) (by omega)
    refine lv_iconst (v := 1) hx hb dX0_weekYearOf_19 (by decide) ?_
    refine q_cPV X w (c_X0_startOfWeek l D t b n σ q L C K fl fc ρ hP x_18 1 (yr + 1) 1 p_18 (show (1 : Int32).toInt = 1 from rfl) (by first | assumption | omega) (by first | assumption | omega)) v_X0_140 (k := q) hP.1 rfl rfl ⟨Nat.le_of_ble_eq_true rfl, Nat.le_of_ble_eq_true rfl⟩ rfl hl.1 (Nat.le_of_ble_eq_true rfl) dX0_weekYearOf_20 ⟨Nat.zero_le _, Nat.zero_le _⟩ (fun r_20 z_20 => ?_)
    refine lv_icmp_lt (tgt := 32) hx hb dX0_weekYearOf_23 (by decide) (fun c_23 => ?_) (fun c_23 => ?_)
    · skip
      have k_23 : dy < (fw ρ (yr + 1) + rv ρ 30 * (1 - 1)) := (g_lt e_dy z_20).mp c_23
      refine lv_iload_n hx hb dX0_weekYearOf_32 rfl (lv_at hl 1 rfl) ?_
      exact q_pret X w dX0_weekYearOf_33 (by unfold wyr; rw [← h_2, if_neg (show ¬ dy < fw ρ yr by omega), if_neg (show ¬ fw ρ (yr + 1) ≤ dy by omega)]; exact e_yr)
    · skip
      have k_23 : ¬ (dy < (fw ρ (yr + 1) + rv ρ 30 * (1 - 1))) := fun h => c_23 ((g_lt e_dy z_20).mpr h)
      refine lv_iload_n hx hb dX0_weekYearOf_26 rfl (lv_at hl 1 rfl) ?_
      refine lv_iconst (v := 1) hx hb dX0_weekYearOf_27 (by decide) ?_
      refine lv_iadd hx hb dX0_weekYearOf_28 ?_
      refine lv_topi (fun x_28 e_28 => ?_)
      have p_28 : x_28.toInt = (yr + 1) := by rw [e_28]; exact t_add e_yr (show (1 : Int32).toInt = 1 from rfl) (by omega) (by omega)
      refine lv_goto (tgt := 33) hx hb dX0_weekYearOf_29 (by decide) ?_
      exact q_pret X w dX0_weekYearOf_33 (by unfold wyr; rw [← h_2, if_neg (show ¬ dy < fw ρ yr by omega), if_pos (show fw ρ (yr + 1) ≤ dy by omega)]; exact p_28)
  · skip
    have k_7 : ¬ ((fw ρ yr + rv ρ 30 * (1 - 1)) ≤ dy) := fun h => c_7 ((g_le z_4 e_dy).mpr h)
    refine lv_iload_n hx hb dX0_weekYearOf_10 rfl (lv_at hl 1 rfl) ?_
    refine lv_iconst (v := 1) hx hb dX0_weekYearOf_11 (by decide) ?_
    refine lv_isub hx hb dX0_weekYearOf_12 ?_
    refine lv_topi (fun x_12 e_12 => ?_)
    have p_12 : x_12.toInt = (yr - 1) := by rw [e_12]; exact t_sub e_yr (show (1 : Int32).toInt = 1 from rfl) (by omega) (by omega)
    exact q_pret X w dX0_weekYearOf_13 (by unfold wyr; rw [← h_2, if_pos (by omega)]; exact p_12)

set_option maxHeartbeats 4000000 in
set_option maxRecDepth 100000 in
theorem c_X0_weekNumber (l : Launch) (D : va_G) (t : Nat → ClassId) (b n : Nat) (σ : qM) (q L C : Nat) (K fl fc : Nat → Int32) (ρ : Row) (hP : CalP t b σ q L C K fl fc ρ) (a_wy : Int32) (a_dy : Int32) (wy : Int) (dy : Int) (e_wy : a_wy.toInt = wy) (e_dy : a_dy.toInt = dy) (h_1 : -2001 ≤ wy ∧ wy ≤ 2001) (h_2 : fw ρ wy ≤ dy ∧ dy ≤ fw ρ wy + 1000) : qP l yX0_weekNumber cX0_weekNumber 4 (some .int) 5 D t b n σ [.ref (b + q), .int a_wy, .int a_dy] (fun z => z.toInt = (dy - fw ρ wy) / rv ρ 30 + 1) := by
  refine qP.of (by decide +kernel) (Nat.le_of_ble_eq_true rfl) (fun p e s m args below meth c X w ls hl => ?_)
  have hx := X.1
  have hb := X.2.1
  have hl : lv_has ls 4 [(0, .ref (b + q)), (1, .int a_wy), (2, .int a_dy)] := hl
  obtain ⟨hO, hR, k1, k2, k3, k4, k5, k6, k7, k9, k10, k11, k12, k13, k14, kl, kc⟩ := hP.2.2.2
  have hm := hO.months
  have hrb := reps_bd hO hR
  have hw := hO.wk
  have b0 := fw_bd hO wy
  have c0 := fst_bd hO (y := wy) (by omega) (by omega)
  have hdv := dvb (x := dy - fw ρ wy) (y := rv ρ 30) (by omega) (by omega)
  refine lv_iload_n hx hb dX0_weekNumber_0 rfl (lv_at hl 2 rfl) ?_
  refine lv_aload_n hx hb dX0_weekNumber_1 rfl (lv_at hl 0 rfl) ?_
  refine lv_iload_n hx hb dX0_weekNumber_2 rfl (lv_at hl 1 rfl) ?_
  refine lv_iconst (v := 1) hx hb dX0_weekNumber_3 (by decide) ?_
  refine q_cPV X w (c_X0_startOfWeek l D t b n σ q L C K fl fc ρ hP a_wy 1 wy 1 e_wy (show (1 : Int32).toInt = 1 from rfl) (by first | assumption | omega) (by first | assumption | omega)) v_X0_140 (k := q) hP.1 rfl rfl ⟨Nat.le_of_ble_eq_true rfl, Nat.le_of_ble_eq_true rfl⟩ rfl hl.1 (Nat.le_of_ble_eq_true rfl) dX0_weekNumber_4 ⟨Nat.zero_le _, Nat.zero_le _⟩ (fun r_4 z_4 => ?_)
  refine lv_isub hx hb dX0_weekNumber_7 ?_
  refine lv_topi (fun x_7 e_7 => ?_)
  have p_7 : x_7.toInt = (dy - (fw ρ wy + rv ρ 30 * (1 - 1))) := by rw [e_7]; exact t_sub e_dy z_4 (by omega) (by omega)
  refine lv_istore_n (lv' := [(3, .int x_7), (0, .ref (b + q)), (1, .int a_wy), (2, .int a_dy)]) hx hb dX0_weekNumber_8 rfl hl (by decide) rfl (fun ls hl => ?_)
  refine lv_aload_n hx hb dX0_weekNumber_9 rfl (lv_at hl 1 rfl) ?_
  refine cg_weekLength X w hP dX0_weekNumber_10 ?_
  refine lv_if_le (tgt := 27) hx hb dX0_weekNumber_13 (by decide) (fun c_13 => ?_) (fun c_13 => ?_)
  · skip
    have k_13 : (rv ρ 30) ≤ 0 := (g_le k9 (show (0 : Int32).toInt = 0 from rfl)).mp c_13
    exfalso; omega
  · skip
    have k_13 : ¬ ((rv ρ 30) ≤ 0) := fun h => c_13 ((g_le k9 (show (0 : Int32).toInt = 0 from rfl)).mpr h)
    refine lv_iload_n hx hb dX0_weekNumber_16 rfl (lv_at hl 0 rfl) ?_
    refine lv_aload_n hx hb dX0_weekNumber_17 rfl (lv_at hl 1 rfl) ?_
    refine cg_weekLength X w hP dX0_weekNumber_18 ?_
    refine lv_idiv hx hb dX0_weekNumber_21 (g_ne0 k9 (show rv ρ 30 ≠ 0 by omega)) ?_
    refine lv_topi (fun x_21 e_21 => ?_)
    have p_21 : x_21.toInt = ((dy - fw ρ wy) / rv ρ 30) := by rw [e_21]; rw [show dy - fw ρ wy = (dy - (fw ρ wy + rv ρ 30 * (1 - 1))) by omega]; exact t_div p_7 k9 (by omega) (by omega)
    refine lv_iconst (v := 1) hx hb dX0_weekNumber_22 (by decide) ?_
    refine lv_iadd hx hb dX0_weekNumber_23 ?_
    refine lv_topi (fun x_23 e_23 => ?_)
    have p_23 : x_23.toInt = (((dy - fw ρ wy) / rv ρ 30) + 1) := by rw [e_23]; exact t_add p_21 (show (1 : Int32).toInt = 1 from rfl) (by omega) (by omega)
    refine lv_goto (tgt := 28) hx hb dX0_weekNumber_24 (by decide) ?_
    exact q_pret X w dX0_weekNumber_28 (by exact p_23)

set_option maxHeartbeats 4000000 in
set_option maxRecDepth 100000 in
theorem c_X0_yearsLater (l : Launch) (D : va_G) (t : Nat → ClassId) (b n : Nat) (σ : qM) (q L C : Nat) (K fl fc : Nat → Int32) (ρ : Row) (hP : CalP t b σ q L C K fl fc ρ) (a_dy : Int32) (a_sh : Int32) (dy : Int) (sh : Int) (e_dy : a_dy.toInt = dy) (e_sh : a_sh.toInt = sh) (h_1 : -5000 ≤ sh ∧ sh ≤ 5000) : qP l yX0_yearsLater cX0_yearsLater 4 (some .int) 6 D t b n σ [.ref (b + q), .int a_dy, .int a_sh] (fun z => z.toInt = ylc ρ dy sh) := by
  refine qP.of (by decide +kernel) (Nat.le_of_ble_eq_true rfl) (fun p e s m args below meth c X w ls hl => ?_)
  have hx := X.1
  have hb := X.2.1
  have hl : lv_has ls 4 [(0, .ref (b + q)), (1, .int a_dy), (2, .int a_sh)] := hl
  obtain ⟨hO, hR, k1, k2, k3, k4, k5, k6, k7, k9, k10, k11, k12, k13, k14, kl, kc⟩ := hP.2.2.2
  have hm := hO.months
  have hrb := reps_bd hO hR
  refine lv_aload_n hx hb dX0_yearsLater_0 rfl (lv_at hl 0 rfl) ?_
  refine lv_iload_n hx hb dX0_yearsLater_1 rfl (lv_at hl 1 rfl) ?_
  refine q_cPV X w (c_X0_yearOf l D t b n σ q L C K fl fc ρ hP a_dy dy e_dy) v_X0_143 (k := q) hP.1 rfl rfl ⟨Nat.le_of_ble_eq_true rfl, Nat.le_of_ble_eq_true rfl⟩ rfl hl.1 (Nat.le_of_ble_eq_true rfl) dX0_yearsLater_2 ⟨Nat.zero_le _, Nat.zero_le _⟩ (fun r_2 z_2 => ?_)
  refine lv_istore_n (lv' := [(3, .int r_2), (0, .ref (b + q)), (1, .int a_dy), (2, .int a_sh)]) hx hb dX0_yearsLater_5 rfl hl (by decide) rfl (fun ls hl => ?_)
  refine lv_iload_n hx hb dX0_yearsLater_6 rfl (lv_at hl 0 rfl) ?_
  refine lv_ldc hx hb X.2.2.2.1 (X.2.2.1 _ kc_X0_121) dX0_yearsLater_7 ?_
  refine lv_icmp_eq (tgt := 21) hx hb dX0_yearsLater_9 (by decide) (fun c_9 => ?_) (fun c_9 => ?_)
  · skip
    have k_9 : (yoc ρ dy) = (-2147483648) := (g_eq z_2 (show ((-2147483648) : Int32).toInt = (-2147483648) from rfl)).mp c_9
    refine lv_ldc hx hb X.2.2.2.1 (X.2.2.1 _ kc_X0_121) dX0_yearsLater_21 ?_
    exact q_pret X w dX0_yearsLater_23 (by unfold ylc; rw [if_neg (fun q => (yoc_iff hO).mp k_9 q.1)]; rfl)
  · skip
    have k_9 : ¬ ((yoc ρ dy) = (-2147483648)) := fun h => c_9 ((g_eq z_2 (show ((-2147483648) : Int32).toInt = (-2147483648) from rfl)).mpr h)
    have hin : fst ρ (-2000) ≤ dy ∧ dy < fst ρ 2001 := by by_cases q : fst ρ (-2000) ≤ dy ∧ dy < fst ρ 2001; exact q; exact absurd (yoc_no q) k_9
    have hyo := yoc_in hin
    have hy := yof_in hO hin.1 hin.2
    have hmo := mof_bd hO dy
    have hdo := dof_bd hO hin.1 hin.2
    refine lv_iload_n hx hb dX0_yearsLater_12 rfl (lv_at hl 0 rfl) ?_
    refine lv_iload_n hx hb dX0_yearsLater_13 rfl (lv_at hl 3 rfl) ?_
    refine lv_iadd hx hb dX0_yearsLater_14 ?_
    refine lv_topi (fun x_14 e_14 => ?_)
    have p_14 : x_14.toInt = ((yoc ρ dy) + sh) := by rw [e_14]; exact t_add z_2 e_sh (by omega) (by omega)
    refine q_cPSN X w (c_X8_isYear l x_14 ((yoc ρ dy) + sh) p_14 D t b n _) nv_X0_100 rfl ⟨Nat.le_of_ble_eq_true rfl, Nat.le_of_ble_eq_true rfl⟩ rfl hl.1 (Nat.le_of_ble_eq_true rfl) dX0_yearsLater_15 ⟨Nat.zero_le _, Nat.zero_le _⟩ (fun r_15 z_15 => ?_)
    refine lv_if_ne (tgt := 24) hx hb dX0_yearsLater_18 (by decide) (fun c_18 => ?_) (fun c_18 => ?_)
    · skip
      rw [z_15] at c_18
      have k_18 := bI_t.mp c_18
      refine lv_aload_n hx hb dX0_yearsLater_24 rfl (lv_at hl 1 rfl) ?_
      refine lv_iload_n hx hb dX0_yearsLater_25 rfl (lv_at hl 0 rfl) ?_
      refine lv_iload_n hx hb dX0_yearsLater_26 rfl (lv_at hl 3 rfl) ?_
      refine lv_iadd hx hb dX0_yearsLater_27 ?_
      refine lv_topi (fun x_27 e_27 => ?_)
      have p_27 : x_27.toInt = ((yoc ρ dy) + sh) := by rw [e_27]; exact t_add z_2 e_sh (by omega) (by omega)
      refine lv_aload_n hx hb dX0_yearsLater_28 rfl (lv_at hl 1 rfl) ?_
      refine lv_iload_n hx hb dX0_yearsLater_29 rfl (lv_at hl 0 rfl) ?_
      refine lv_iload_n hx hb dX0_yearsLater_30 rfl (lv_at hl 2 rfl) ?_
      refine q_cPV X w (c_X0_monthOf l D t b n σ q L C K fl fc ρ hP r_2 a_dy (yoc ρ dy) dy z_2 e_dy (by exact hin) (by exact hyo)) v_X0_131 (k := q) hP.1 rfl rfl ⟨Nat.le_of_ble_eq_true rfl, Nat.le_of_ble_eq_true rfl⟩ rfl hl.1 (Nat.le_of_ble_eq_true rfl) dX0_yearsLater_31 ⟨Nat.zero_le _, Nat.zero_le _⟩ (fun r_31 z_31 => ?_)
      refine lv_aload_n hx hb dX0_yearsLater_34 rfl (lv_at hl 1 rfl) ?_
      refine lv_iload_n hx hb dX0_yearsLater_35 rfl (lv_at hl 0 rfl) ?_
      refine lv_iload_n hx hb dX0_yearsLater_36 rfl (lv_at hl 2 rfl) ?_
      refine q_cPV X w (c_X0_dayOfMonth l D t b n σ q L C K fl fc ρ hP r_2 a_dy (yoc ρ dy) dy z_2 e_dy (by exact hin) (by exact hyo)) v_X0_134 (k := q) hP.1 rfl rfl ⟨Nat.le_of_ble_eq_true rfl, Nat.le_of_ble_eq_true rfl⟩ rfl hl.1 (Nat.le_of_ble_eq_true rfl) dX0_yearsLater_37 ⟨Nat.zero_le _, Nat.zero_le _⟩ (fun r_37 z_37 => ?_)
      refine q_cPV X w (c_X0_nearestDay l D t b n σ q L C K fl fc ρ hP x_27 r_31 r_37 ((yoc ρ dy) + sh) (mof ρ dy) (dof ρ dy) p_27 z_31 z_37 (by first | assumption | omega) (by first | assumption | omega) (by first | assumption | omega)) v_X0_146 (k := q) hP.1 rfl rfl ⟨Nat.le_of_ble_eq_true rfl, Nat.le_of_ble_eq_true rfl⟩ rfl hl.1 (Nat.le_of_ble_eq_true rfl) dX0_yearsLater_40 ⟨Nat.zero_le _, Nat.zero_le _⟩ (fun r_40 z_40 => ?_)
      exact q_pret X w dX0_yearsLater_43 (by unfold ylc; rw [if_pos ⟨hin, by omega⟩]; have h := z_40; rw [hyo] at h; exact h)
    · skip
      rw [z_15] at c_18
      have k_18 := bI_f.mp c_18
      refine lv_ldc hx hb X.2.2.2.1 (X.2.2.1 _ kc_X0_121) dX0_yearsLater_21 ?_
      exact q_pret X w dX0_yearsLater_23 (by unfold ylc; rw [if_neg (fun q => k_18 (by omega))]; rfl)

set_option maxHeartbeats 4000000 in
set_option maxRecDepth 100000 in
theorem c_X0_countedMonthOf (l : Launch) (D : va_G) (t : Nat → ClassId) (b n : Nat) (σ : qM) (q L C : Nat) (K fl fc : Nat → Int32) (ρ : Row) (hP : CalP t b σ q L C K fl fc ρ) (a_dy : Int32) (dy : Int) (e_dy : a_dy.toInt = dy) (h_1 : fst ρ (-2000) ≤ dy ∧ dy < fst ρ 2001) : qP l yX0_countedMonthOf cX0_countedMonthOf 3 (some .int) 5 D t b n σ [.ref (b + q), .int a_dy] (fun z => z.toInt = mcon ρ dy) := by
  refine qP.of (by decide +kernel) (Nat.le_of_ble_eq_true rfl) (fun p e s m args below meth c X w ls hl => ?_)
  have hx := X.1
  have hb := X.2.1
  have hl : lv_has ls 3 [(0, .ref (b + q)), (1, .int a_dy)] := hl
  obtain ⟨hO, hR, k1, k2, k3, k4, k5, k6, k7, k9, k10, k11, k12, k13, k14, kl, kc⟩ := hP.2.2.2
  have hm := hO.months
  have hrb := reps_bd hO hR
  have hyo := yoc_in h_1
  have hy := yof_in hO h_1.1 h_1.2
  have hmo := mof_bd hO dy
  have hmb := mcnt_bd hO (yof ρ dy)
  have hMb := Mb_bd hO (y := yoc ρ dy) (by omega) (by omega)
  refine lv_aload_n hx hb dX0_countedMonthOf_0 rfl (lv_at hl 0 rfl) ?_
  refine lv_iload_n hx hb dX0_countedMonthOf_1 rfl (lv_at hl 1 rfl) ?_
  refine q_cPV X w (c_X0_yearOf l D t b n σ q L C K fl fc ρ hP a_dy dy e_dy) v_X0_143 (k := q) hP.1 rfl rfl ⟨Nat.le_of_ble_eq_true rfl, Nat.le_of_ble_eq_true rfl⟩ rfl hl.1 (Nat.le_of_ble_eq_true rfl) dX0_countedMonthOf_2 ⟨Nat.zero_le _, Nat.zero_le _⟩ (fun r_2 z_2 => ?_)
  refine lv_istore_n (lv' := [(2, .int r_2), (0, .ref (b + q)), (1, .int a_dy)]) hx hb dX0_countedMonthOf_5 rfl hl (by decide) rfl (fun ls hl => ?_)
  refine lv_iload_n hx hb dX0_countedMonthOf_6 rfl (lv_at hl 0 rfl) ?_
  refine lv_ldc hx hb X.2.2.2.1 (X.2.2.1 _ kc_X0_121) dX0_countedMonthOf_7 ?_
  refine lv_icmp_ne (tgt := 16) hx hb dX0_countedMonthOf_9 (by decide) (fun c_9 => ?_) (fun c_9 => ?_)
  · skip
    have k_9 : ¬ ((yoc ρ dy) = (-2147483648)) := fun h => c_9 ((g_eq z_2 (show ((-2147483648) : Int32).toInt = (-2147483648) from rfl)).mpr h)
    refine lv_aload_n hx hb dX0_countedMonthOf_16 rfl (lv_at hl 1 rfl) ?_
    refine lv_iload_n hx hb dX0_countedMonthOf_17 rfl (lv_at hl 0 rfl) ?_
    refine q_cPV X w (c_X0_monthsBefore l D t b n σ q L C K fl fc ρ hP r_2 (yoc ρ dy) z_2 (by first | assumption | omega)) v_X0_150 (k := q) hP.1 rfl rfl ⟨Nat.le_of_ble_eq_true rfl, Nat.le_of_ble_eq_true rfl⟩ rfl hl.1 (Nat.le_of_ble_eq_true rfl) dX0_countedMonthOf_18 ⟨Nat.zero_le _, Nat.zero_le _⟩ (fun r_18 z_18 => ?_)
    refine lv_aload_n hx hb dX0_countedMonthOf_21 rfl (lv_at hl 1 rfl) ?_
    refine lv_iload_n hx hb dX0_countedMonthOf_22 rfl (lv_at hl 0 rfl) ?_
    refine lv_iload_n hx hb dX0_countedMonthOf_23 rfl (lv_at hl 2 rfl) ?_
    refine q_cPV X w (c_X0_monthOf l D t b n σ q L C K fl fc ρ hP r_2 a_dy (yoc ρ dy) dy z_2 e_dy (by first | assumption | omega) (by exact hyo)) v_X0_131 (k := q) hP.1 rfl rfl ⟨Nat.le_of_ble_eq_true rfl, Nat.le_of_ble_eq_true rfl⟩ rfl hl.1 (Nat.le_of_ble_eq_true rfl) dX0_countedMonthOf_24 ⟨Nat.zero_le _, Nat.zero_le _⟩ (fun r_24 z_24 => ?_)
    refine lv_iadd hx hb dX0_countedMonthOf_27 ?_
    refine lv_topi (fun x_27 e_27 => ?_)
    have p_27 : x_27.toInt = ((Mb ρ (yoc ρ dy)) + (mof ρ dy)) := by rw [e_27]; exact t_add z_18 z_24 (by omega) (by omega)
    refine lv_iconst (v := 1) hx hb dX0_countedMonthOf_28 (by decide) ?_
    refine lv_isub hx hb dX0_countedMonthOf_29 ?_
    refine lv_topi (fun x_29 e_29 => ?_)
    have p_29 : x_29.toInt = (((Mb ρ (yoc ρ dy)) + (mof ρ dy)) - 1) := by rw [e_29]; exact t_sub p_27 (show (1 : Int32).toInt = 1 from rfl) (by omega) (by omega)
    exact q_pret X w dX0_countedMonthOf_30 (by rw [p_29]; unfold mcon; rw [hyo])
  · skip
    have k_9 : (yoc ρ dy) = (-2147483648) := (g_eq z_2 (show ((-2147483648) : Int32).toInt = (-2147483648) from rfl)).mp c_9
    exfalso; omega

set_option maxHeartbeats 4000000 in
set_option maxRecDepth 100000 in
theorem c_X0_yearOfCountedMonth (l : Launch) (D : va_G) (t : Nat → ClassId) (b n : Nat) (σ : qM) (q L C : Nat) (K fl fc : Nat → Int32) (ρ : Row) (hP : CalP t b σ q L C K fl fc ρ) (a_dy : Int32) (dy : Int) (e_dy : a_dy.toInt = dy) : qP l yX0_yearOfCountedMonth cX0_yearOfCountedMonth 6 (some .int) 4 D t b n σ [.ref (b + q), .int a_dy] (fun z => z.toInt = ymc ρ dy) := by
  refine qP.of (by decide +kernel) (Nat.le_of_ble_eq_true rfl) (fun p e s m args below meth c X w ls hl => ?_)
  have hx := X.1
  have hb := X.2.1
  have hl : lv_has ls 6 [(0, .ref (b + q)), (1, .int a_dy)] := hl
  obtain ⟨hO, hR, k1, k2, k3, k4, k5, k6, k7, k9, k10, k11, k12, k13, k14, kl, kc⟩ := hP.2.2.2
  have hm := hO.months
  have hrb := reps_bd hO hR
  refine lv_iload_n hx hb dX0_yearOfCountedMonth_0 rfl (lv_at hl 1 rfl) ?_
  refine lv_aload_n hx hb dX0_yearOfCountedMonth_1 rfl (lv_at hl 0 rfl) ?_
  refine lv_sipush (v := (-2000)) hx hb dX0_yearOfCountedMonth_2 (by decide) ?_
  refine q_cPV X w (c_X0_monthsBefore l D t b n σ q L C K fl fc ρ hP (-2000) (-2000) (show ((-2000) : Int32).toInt = (-2000) from rfl) (by first | assumption | omega)) v_X0_150 (k := q) hP.1 rfl rfl ⟨Nat.le_of_ble_eq_true rfl, Nat.le_of_ble_eq_true rfl⟩ rfl hl.1 (Nat.le_of_ble_eq_true rfl) dX0_yearOfCountedMonth_5 ⟨Nat.zero_le _, Nat.zero_le _⟩ (fun r_5 z_5 => ?_)
  refine lv_icmp_lt (tgt := 22) hx hb dX0_yearOfCountedMonth_8 (by decide) (fun c_8 => ?_) (fun c_8 => ?_)
  · skip
    have k_8 : dy < (Mb ρ (-2000)) := (g_lt e_dy z_5).mp c_8
    refine lv_ldc hx hb X.2.2.2.1 (X.2.2.1 _ kc_X0_121) dX0_yearOfCountedMonth_22 ?_
    exact q_pret X w dX0_yearOfCountedMonth_24 (by unfold ymc; rw [if_neg (fun q => absurd q.1 (by omega))]; rfl)
  · skip
    have k_8 : ¬ (dy < (Mb ρ (-2000))) := fun h => c_8 ((g_lt e_dy z_5).mpr h)
    refine lv_iload_n hx hb dX0_yearOfCountedMonth_11 rfl (lv_at hl 1 rfl) ?_
    refine lv_aload_n hx hb dX0_yearOfCountedMonth_12 rfl (lv_at hl 0 rfl) ?_
    refine lv_sipush (v := 2001) hx hb dX0_yearOfCountedMonth_13 (by decide) ?_
    refine q_cPV X w (c_X0_monthsBefore l D t b n σ q L C K fl fc ρ hP 2001 2001 (show (2001 : Int32).toInt = 2001 from rfl) (by first | assumption | omega)) v_X0_150 (k := q) hP.1 rfl rfl ⟨Nat.le_of_ble_eq_true rfl, Nat.le_of_ble_eq_true rfl⟩ rfl hl.1 (Nat.le_of_ble_eq_true rfl) dX0_yearOfCountedMonth_16 ⟨Nat.zero_le _, Nat.zero_le _⟩ (fun r_16 z_16 => ?_)
    refine lv_icmp_lt (tgt := 25) hx hb dX0_yearOfCountedMonth_19 (by decide) (fun c_19 => ?_) (fun c_19 => ?_)
    · skip
      have k_19 : dy < (Mb ρ 2001) := (g_lt e_dy z_16).mp c_19
      refine lv_sipush (v := (-2000)) hx hb dX0_yearOfCountedMonth_25 (by decide) ?_
      refine lv_istore_n (lv' := [(2, .int (-2000)), (0, .ref (b + q)), (1, .int a_dy)]) hx hb dX0_yearOfCountedMonth_28 rfl hl (by decide) rfl (fun ls hl => ?_)
      refine lv_sipush (v := 2000) hx hb dX0_yearOfCountedMonth_29 (by decide) ?_
      refine lv_istore_n (lv' := [(3, .int 2000), (2, .int (-2000)), (0, .ref (b + q)), (1, .int a_dy)]) hx hb dX0_yearOfCountedMonth_32 rfl hl (by decide) rfl (fun ls hl => ?_)
      refine lv_iconst (v := 0) hx hb dX0_yearOfCountedMonth_33 (by decide) ?_
      refine lv_istore (lv' := [(4, .int 0), (3, .int 2000), (2, .int (-2000)), (0, .ref (b + q)), (1, .int a_dy)]) hx hb dX0_yearOfCountedMonth_34 hl (by decide) rfl (fun ls hl => ?_)
      refine q_loop (α := Int32 × Int32 × Int32 × Int × Int × Int) (fun a => a.1.toInt = a.2.2.2.1 ∧ a.2.1.toInt = a.2.2.2.2.1 ∧ a.2.2.1.toInt = a.2.2.2.2.2 ∧ (((-2000 ≤ a.2.2.2.1 ∧ a.2.2.2.2.1 ≤ 2000) ∧ a.2.2.2.1 ≤ a.2.2.2.2.1 ∧ (0 ≤ a.2.2.2.2.2 ∧ a.2.2.2.2.2 ≤ 32)) ∧ Mb ρ a.2.2.2.1 ≤ dy ∧ dy < Mb ρ (a.2.2.2.2.1 + 1) ∧ a.2.2.2.2.1 - a.2.2.2.1 ≤ hB a.2.2.2.2.2)) (fun a => (32 - a.2.2.2.2.2).toNat) (fun a => ∀ ls : Array Slot, lv_has ls 6 [(4, .int a.2.2.1), (3, .int a.2.1), (2, .int a.1), (0, .ref (b + q)), (1, .int a_dy)] → W p l e (qR 4 0 0) s m args below meth c s.heap [] 0 0 (MQ below (vp_Si (fun z => z.toInt = ymc ρ dy)) args s 0 0 (fun _ => False)) (F0 m 36 ls [])) ?_ ⟨(-2000), 2000, 0, (-2000), 2000, 0⟩ ⟨(show ((-2000) : Int32).toInt = (-2000) from rfl), (show (2000 : Int32).toInt = 2000 from rfl), (show (0 : Int32).toInt = 0 from rfl), by dsimp only; rw [hB_0]; exact ⟨by omega, by omega, (by rw [show (2000 : Int) + 1 = 2001 from rfl]; omega), by omega⟩⟩ ls (lv_sub hl [0, 1, 2, 3, 4] rfl)
      rintro ⟨v_lo, v_hi, v_i, lo, hi, i⟩ ⟨q_lo, q_hi, q_i, inv_36⟩ ih_36 ls hl
      dsimp only at q_lo q_hi q_i inv_36 hl
      refine lv_iload hx hb dX0_yearOfCountedMonth_36 (lv_at hl 0 rfl) ?_
      refine lv_bipush (v := 32) hx hb dX0_yearOfCountedMonth_38 (by decide) ?_
      refine lv_icmp_ge (tgt := 86) hx hb dX0_yearOfCountedMonth_40 (by decide) (fun c_40 => ?_) (fun c_40 => ?_)
      · skip
        have k_40 : 32 ≤ i := (g_le (show (32 : Int32).toInt = 32 from rfl) q_i).mp c_40
        refine lv_iload_n hx hb dX0_yearOfCountedMonth_86 rfl (lv_at hl 2 rfl) ?_
        exact q_pret X w dX0_yearOfCountedMonth_87 (by have heq : lo = hi := (by have hz := hB_32; have hi32 : i = 32 := (by omega); rw [hi32] at inv_36; omega); unfold ymc; rw [q_lo, if_pos (by omega)]; exact (ym_eq hO (by omega) (by omega) (Or.inr inv_36.2.1) (Or.inr (by rw [heq]; exact inv_36.2.2.1))).symm)
      · skip
        have k_40 : ¬ (32 ≤ i) := fun h => c_40 ((g_le (show (32 : Int32).toInt = 32 from rfl) q_i).mpr h)
        refine lv_iload_n hx hb dX0_yearOfCountedMonth_43 rfl (lv_at hl 2 rfl) ?_
        refine lv_iload_n hx hb dX0_yearOfCountedMonth_44 rfl (lv_at hl 1 rfl) ?_
        refine lv_icmp_ge (tgt := 86) hx hb dX0_yearOfCountedMonth_45 (by decide) (fun c_45 => ?_) (fun c_45 => ?_)
        · skip
          have k_45 : hi ≤ lo := (g_le q_hi q_lo).mp c_45
          refine lv_iload_n hx hb dX0_yearOfCountedMonth_86 rfl (lv_at hl 2 rfl) ?_
          exact q_pret X w dX0_yearOfCountedMonth_87 (by have heq : lo = hi := (by omega); unfold ymc; rw [q_lo, if_pos (by omega)]; exact (ym_eq hO (by omega) (by omega) (Or.inr inv_36.2.1) (Or.inr (by rw [heq]; exact inv_36.2.2.1))).symm)
        · skip
          have k_45 : ¬ (hi ≤ lo) := fun h => c_45 ((g_le q_hi q_lo).mpr h)
          refine lv_iload_n hx hb dX0_yearOfCountedMonth_48 rfl (lv_at hl 2 rfl) ?_
          refine lv_iload_n hx hb dX0_yearOfCountedMonth_49 rfl (lv_at hl 1 rfl) ?_
          refine lv_iload_n hx hb dX0_yearOfCountedMonth_50 rfl (lv_at hl 2 rfl) ?_
          refine lv_isub hx hb dX0_yearOfCountedMonth_51 ?_
          refine lv_topi (fun x_51 e_51 => ?_)
          have p_51 : x_51.toInt = (hi - lo) := by rw [e_51]; exact t_sub q_hi q_lo (by omega) (by omega)
          refine lv_iconst (v := 1) hx hb dX0_yearOfCountedMonth_52 (by decide) ?_
          refine lv_iadd hx hb dX0_yearOfCountedMonth_53 ?_
          refine lv_topi (fun x_53 e_53 => ?_)
          have p_53 : x_53.toInt = ((hi - lo) + 1) := by rw [e_53]; exact t_add p_51 (show (1 : Int32).toInt = 1 from rfl) (by omega) (by omega)
          refine lv_iconst (v := 2) hx hb dX0_yearOfCountedMonth_54 (by decide) ?_
          have hq0 := Int.ediv_nonneg (show 0 ≤ hi - lo + 1 by omega) (show (0 : Int) ≤ 2 by omega)
          have hq1 : (hi - lo + 1) / 2 ≤ hi - lo := by omega
          refine lv_idiv hx hb dX0_yearOfCountedMonth_55 (by decide) ?_
          refine lv_topi (fun x_55 e_55 => ?_)
          have p_55 : x_55.toInt = (((hi - lo) + 1) / 2) := by rw [e_55]; exact t_div p_53 (show (2 : Int32).toInt = 2 from rfl) (by omega) (by omega)
          refine lv_iadd hx hb dX0_yearOfCountedMonth_56 ?_
          refine lv_topi (fun x_56 e_56 => ?_)
          have p_56 : x_56.toInt = (lo + (((hi - lo) + 1) / 2)) := by rw [e_56]; exact t_add q_lo p_55 (by omega) (by omega)
          refine lv_istore (lv' := [(5, .int x_56), (4, .int v_i), (3, .int v_hi), (2, .int v_lo), (0, .ref (b + q)), (1, .int a_dy)]) hx hb dX0_yearOfCountedMonth_57 hl (by decide) rfl (fun ls hl => ?_)
          refine lv_aload_n hx hb dX0_yearOfCountedMonth_59 rfl (lv_at hl 4 rfl) ?_
          refine lv_iload hx hb dX0_yearOfCountedMonth_60 (lv_at hl 0 rfl) ?_
          refine q_cPV X w (c_X0_monthsBefore l D t b n σ q L C K fl fc ρ hP x_56 (lo + (((hi - lo) + 1) / 2)) p_56 (by first | assumption | omega)) v_X0_150 (k := q) hP.1 rfl rfl ⟨Nat.le_of_ble_eq_true rfl, Nat.le_of_ble_eq_true rfl⟩ rfl hl.1 (Nat.le_of_ble_eq_true rfl) dX0_yearOfCountedMonth_62 ⟨Nat.zero_le _, Nat.zero_le _⟩ (fun r_62 z_62 => ?_)
          refine lv_iload_n hx hb dX0_yearOfCountedMonth_65 rfl (lv_at hl 5 rfl) ?_
          refine lv_icmp_gt (tgt := 75) hx hb dX0_yearOfCountedMonth_66 (by decide) (fun c_66 => ?_) (fun c_66 => ?_)
          · skip
            have k_66 : dy < (Mb ρ (lo + (((hi - lo) + 1) / 2))) := (g_lt e_dy z_62).mp c_66
            refine lv_iload hx hb dX0_yearOfCountedMonth_75 (lv_at hl 0 rfl) ?_
            refine lv_iconst (v := 1) hx hb dX0_yearOfCountedMonth_77 (by decide) ?_
            refine lv_isub hx hb dX0_yearOfCountedMonth_78 ?_
            refine lv_topi (fun x_78 e_78 => ?_)
            have p_78 : x_78.toInt = ((lo + (((hi - lo) + 1) / 2)) - 1) := by rw [e_78]; exact t_sub p_56 (show (1 : Int32).toInt = 1 from rfl) (by omega) (by omega)
            refine lv_istore_n (lv' := [(3, .int x_78), (5, .int x_56), (4, .int v_i), (2, .int v_lo), (0, .ref (b + q)), (1, .int a_dy)]) hx hb dX0_yearOfCountedMonth_79 rfl hl (by decide) rfl (fun ls hl => ?_)
            obtain ⟨x_80, e_80⟩ : ∃ z : Int32, z = (v_i + 1) := ⟨_, rfl⟩
            have p_80 : x_80.toInt = (i + 1) := by rw [e_80]; exact t_add q_i (show (1 : Int32).toInt = 1 from rfl) (by omega) (by omega)
            refine lv_iinc (v := x_80) (lv' := [(4, .int x_80), (3, .int x_78), (5, .int x_56), (2, .int v_lo), (0, .ref (b + q)), (1, .int a_dy)]) hx hb dX0_yearOfCountedMonth_80 hl (k := 2) rfl (by rw [e_80]; rfl) (by decide) rfl (fun ls hl => ?_)
            refine lv_goto (tgt := 36) hx hb dX0_yearOfCountedMonth_83 (by decide) ?_
            refine ih_36 ⟨v_lo, x_78, x_80, lo, ((lo + (((hi - lo) + 1) / 2)) - 1), (i + 1)⟩ ⟨q_lo, p_78, p_80, by dsimp only; have hs := hB_s (i := i) (by omega); exact ⟨by omega, (by first | assumption | omega), (by first | omega | (rw [show lo + (hi - lo + 1) / 2 - 1 + 1 = lo + (hi - lo + 1) / 2 by omega]; omega)), by omega⟩⟩ (by dsimp only; omega) ls (lv_sub hl [0, 1, 3, 4, 5] rfl)
          · skip
            have k_66 : ¬ (dy < (Mb ρ (lo + (((hi - lo) + 1) / 2)))) := fun h => c_66 ((g_lt e_dy z_62).mpr h)
            refine lv_iload hx hb dX0_yearOfCountedMonth_69 (lv_at hl 0 rfl) ?_
            refine lv_istore_n (lv' := [(2, .int x_56), (5, .int x_56), (4, .int v_i), (3, .int v_hi), (0, .ref (b + q)), (1, .int a_dy)]) hx hb dX0_yearOfCountedMonth_71 rfl hl (by decide) rfl (fun ls hl => ?_)
            refine lv_goto (tgt := 80) hx hb dX0_yearOfCountedMonth_72 (by decide) ?_
            obtain ⟨x_80, e_80⟩ : ∃ z : Int32, z = (v_i + 1) := ⟨_, rfl⟩
            have p_80 : x_80.toInt = (i + 1) := by rw [e_80]; exact t_add q_i (show (1 : Int32).toInt = 1 from rfl) (by omega) (by omega)
            refine lv_iinc (v := x_80) (lv' := [(4, .int x_80), (2, .int x_56), (5, .int x_56), (3, .int v_hi), (0, .ref (b + q)), (1, .int a_dy)]) hx hb dX0_yearOfCountedMonth_80 hl (k := 2) rfl (by rw [e_80]; rfl) (by decide) rfl (fun ls hl => ?_)
            refine lv_goto (tgt := 36) hx hb dX0_yearOfCountedMonth_83 (by decide) ?_
            refine ih_36 ⟨x_56, v_hi, x_80, (lo + (((hi - lo) + 1) / 2)), hi, (i + 1)⟩ ⟨p_56, q_hi, p_80, by dsimp only; have hs := hB_s (i := i) (by omega); exact ⟨by omega, (by first | assumption | omega), (by first | omega | (rw [show lo + (hi - lo + 1) / 2 - 1 + 1 = lo + (hi - lo + 1) / 2 by omega]; omega)), by omega⟩⟩ (by dsimp only; omega) ls (lv_sub hl [0, 3, 1, 4, 5] rfl)
    · skip
      have k_19 : ¬ (dy < (Mb ρ 2001)) := fun h => c_19 ((g_lt e_dy z_16).mpr h)
      refine lv_ldc hx hb X.2.2.2.1 (X.2.2.1 _ kc_X0_121) dX0_yearOfCountedMonth_22 ?_
      exact q_pret X w dX0_yearOfCountedMonth_24 (by unfold ymc; rw [if_neg (fun q => absurd q.2 (by omega))]; rfl)

set_option maxHeartbeats 4000000 in
set_option maxRecDepth 100000 in
theorem c_X0_monthsLater (l : Launch) (D : va_G) (t : Nat → ClassId) (b n : Nat) (σ : qM) (q L C : Nat) (K fl fc : Nat → Int32) (ρ : Row) (hP : CalP t b σ q L C K fl fc ρ) (a_dy : Int32) (a_sh : Int32) (dy : Int) (sh : Int) (e_dy : a_dy.toInt = dy) (e_sh : a_sh.toInt = sh) (h_1 : -100000 ≤ sh ∧ sh ≤ 100000) : qP l yX0_monthsLater cX0_monthsLater 6 (some .int) 6 D t b n σ [.ref (b + q), .int a_dy, .int a_sh] (fun z => z.toInt = mlc ρ dy sh) := by
  refine qP.of (by decide +kernel) (Nat.le_of_ble_eq_true rfl) (fun p e s m args below meth c X w ls hl => ?_)
  have hx := X.1
  have hb := X.2.1
  have hl : lv_has ls 6 [(0, .ref (b + q)), (1, .int a_dy), (2, .int a_sh)] := hl
  obtain ⟨hO, hR, k1, k2, k3, k4, k5, k6, k7, k9, k10, k11, k12, k13, k14, kl, kc⟩ := hP.2.2.2
  have hm := hO.months
  have hrb := reps_bd hO hR
  refine lv_aload_n hx hb dX0_monthsLater_0 rfl (lv_at hl 0 rfl) ?_
  refine lv_iload_n hx hb dX0_monthsLater_1 rfl (lv_at hl 1 rfl) ?_
  refine q_cPV X w (c_X0_yearOf l D t b n σ q L C K fl fc ρ hP a_dy dy e_dy) v_X0_143 (k := q) hP.1 rfl rfl ⟨Nat.le_of_ble_eq_true rfl, Nat.le_of_ble_eq_true rfl⟩ rfl hl.1 (Nat.le_of_ble_eq_true rfl) dX0_monthsLater_2 ⟨Nat.zero_le _, Nat.zero_le _⟩ (fun r_2 z_2 => ?_)
  refine lv_istore_n (lv' := [(3, .int r_2), (0, .ref (b + q)), (1, .int a_dy), (2, .int a_sh)]) hx hb dX0_monthsLater_5 rfl hl (by decide) rfl (fun ls hl => ?_)
  refine lv_iload_n hx hb dX0_monthsLater_6 rfl (lv_at hl 0 rfl) ?_
  refine lv_ldc hx hb X.2.2.2.1 (X.2.2.1 _ kc_X0_121) dX0_monthsLater_7 ?_
  refine lv_icmp_ne (tgt := 15) hx hb dX0_monthsLater_9 (by decide) (fun c_9 => ?_) (fun c_9 => ?_)
  · skip
    have k_9 : ¬ ((yoc ρ dy) = (-2147483648)) := fun h => c_9 ((g_eq z_2 (show ((-2147483648) : Int32).toInt = (-2147483648) from rfl)).mpr h)
    have hin : fst ρ (-2000) ≤ dy ∧ dy < fst ρ 2001 := by by_cases q : fst ρ (-2000) ≤ dy ∧ dy < fst ρ 2001; exact q; exact absurd (yoc_no q) k_9
    have hyo := yoc_in hin
    have hy := yof_in hO hin.1 hin.2
    have hmo := mof_bd hO dy
    have hdo := dof_bd hO hin.1 hin.2
    have hmb := mcnt_bd hO (yof ρ dy)
    have hMb := Mb_bd hO (y := yoc ρ dy) (by omega) (by omega)
    refine lv_aload_n hx hb dX0_monthsLater_15 rfl (lv_at hl 1 rfl) ?_
    refine lv_iload_n hx hb dX0_monthsLater_16 rfl (lv_at hl 0 rfl) ?_
    refine q_cPV X w (c_X0_monthsBefore l D t b n σ q L C K fl fc ρ hP r_2 (yoc ρ dy) z_2 (by first | assumption | omega)) v_X0_150 (k := q) hP.1 rfl rfl ⟨Nat.le_of_ble_eq_true rfl, Nat.le_of_ble_eq_true rfl⟩ rfl hl.1 (Nat.le_of_ble_eq_true rfl) dX0_monthsLater_17 ⟨Nat.zero_le _, Nat.zero_le _⟩ (fun r_17 z_17 => ?_)
    refine lv_aload_n hx hb dX0_monthsLater_20 rfl (lv_at hl 1 rfl) ?_
    refine lv_iload_n hx hb dX0_monthsLater_21 rfl (lv_at hl 0 rfl) ?_
    refine lv_iload_n hx hb dX0_monthsLater_22 rfl (lv_at hl 2 rfl) ?_
    refine q_cPV X w (c_X0_monthOf l D t b n σ q L C K fl fc ρ hP r_2 a_dy (yoc ρ dy) dy z_2 e_dy (by exact hin) (by exact hyo)) v_X0_131 (k := q) hP.1 rfl rfl ⟨Nat.le_of_ble_eq_true rfl, Nat.le_of_ble_eq_true rfl⟩ rfl hl.1 (Nat.le_of_ble_eq_true rfl) dX0_monthsLater_23 ⟨Nat.zero_le _, Nat.zero_le _⟩ (fun r_23 z_23 => ?_)
    refine lv_iadd hx hb dX0_monthsLater_26 ?_
    refine lv_topi (fun x_26 e_26 => ?_)
    have p_26 : x_26.toInt = ((Mb ρ (yoc ρ dy)) + (mof ρ dy)) := by rw [e_26]; exact t_add z_17 z_23 (by omega) (by omega)
    refine lv_iconst (v := 1) hx hb dX0_monthsLater_27 (by decide) ?_
    refine lv_isub hx hb dX0_monthsLater_28 ?_
    refine lv_topi (fun x_28 e_28 => ?_)
    have p_28 : x_28.toInt = (((Mb ρ (yoc ρ dy)) + (mof ρ dy)) - 1) := by rw [e_28]; exact t_sub p_26 (show (1 : Int32).toInt = 1 from rfl) (by omega) (by omega)
    refine lv_iload_n hx hb dX0_monthsLater_29 rfl (lv_at hl 3 rfl) ?_
    refine lv_iadd hx hb dX0_monthsLater_30 ?_
    refine lv_topi (fun x_30 e_30 => ?_)
    have p_30 : x_30.toInt = ((((Mb ρ (yoc ρ dy)) + (mof ρ dy)) - 1) + sh) := by rw [e_30]; exact t_add p_28 e_sh (by omega) (by omega)
    obtain ⟨tg, htg⟩ : ∃ z : Int, z = mcon ρ dy + sh := ⟨_, rfl⟩
    have p_tg : x_30.toInt = tg := by rw [p_30, htg]; unfold mcon; rw [hyo]
    refine lv_istore (lv' := [(4, .int x_30), (3, .int r_2), (0, .ref (b + q)), (1, .int a_dy), (2, .int a_sh)]) hx hb dX0_monthsLater_31 hl (by decide) rfl (fun ls hl => ?_)
    refine lv_aload_n hx hb dX0_monthsLater_33 rfl (lv_at hl 2 rfl) ?_
    refine lv_iload hx hb dX0_monthsLater_34 (lv_at hl 0 rfl) ?_
    refine q_cPV X w (c_X0_yearOfCountedMonth l D t b n σ q L C K fl fc ρ hP x_30 tg p_tg) v_X0_153 (k := q) hP.1 rfl rfl ⟨Nat.le_of_ble_eq_true rfl, Nat.le_of_ble_eq_true rfl⟩ rfl hl.1 (Nat.le_of_ble_eq_true rfl) dX0_monthsLater_36 ⟨Nat.zero_le _, Nat.zero_le _⟩ (fun r_36 z_36 => ?_)
    refine lv_istore (lv' := [(5, .int r_36), (4, .int x_30), (3, .int r_2), (0, .ref (b + q)), (1, .int a_dy), (2, .int a_sh)]) hx hb dX0_monthsLater_39 hl (by decide) rfl (fun ls hl => ?_)
    refine lv_iload hx hb dX0_monthsLater_41 (lv_at hl 0 rfl) ?_
    refine lv_ldc hx hb X.2.2.2.1 (X.2.2.1 _ kc_X0_121) dX0_monthsLater_43 ?_
    refine lv_icmp_ne (tgt := 51) hx hb dX0_monthsLater_45 (by decide) (fun c_45 => ?_) (fun c_45 => ?_)
    · skip
      have k_45 : ¬ ((ymc ρ tg) = (-2147483648)) := fun h => c_45 ((g_eq z_36 (show ((-2147483648) : Int32).toInt = (-2147483648) from rfl)).mpr h)
      have hin2 : Mb ρ (-2000) ≤ tg ∧ tg < Mb ρ 2001 := by by_cases q : Mb ρ (-2000) ≤ tg ∧ tg < Mb ρ 2001; exact q; exact absurd (if_neg q) k_45
      have hym : ymc ρ tg = ym ρ tg := if_pos hin2
      have hy2 := ym_in hO hin2.1 hin2.2
      have hmn := mon_bd hO hin2.1 hin2.2
      have hMn : mon ρ tg = tg - Mb ρ (ym ρ tg) + 1 := rfl
      have hMb2 := Mb_bd hO (y := ymc ρ tg) (by omega) (by omega)
      have hMb1 := Mb_bd hO (y := -2000) (by omega) (by omega)
      have hMb3 := Mb_bd hO (y := 2001) (by omega) (by omega)
      have hMe : Mb ρ (ymc ρ tg) = Mb ρ (ym ρ tg) := by rw [hym]
      refine lv_aload_n hx hb dX0_monthsLater_51 rfl (lv_at hl 3 rfl) ?_
      refine lv_iload hx hb dX0_monthsLater_52 (lv_at hl 0 rfl) ?_
      refine lv_iload hx hb dX0_monthsLater_54 (lv_at hl 1 rfl) ?_
      refine lv_aload_n hx hb dX0_monthsLater_56 rfl (lv_at hl 3 rfl) ?_
      refine lv_iload hx hb dX0_monthsLater_57 (lv_at hl 0 rfl) ?_
      refine q_cPV X w (c_X0_monthsBefore l D t b n σ q L C K fl fc ρ hP r_36 (ymc ρ tg) z_36 (by first | assumption | omega)) v_X0_150 (k := q) hP.1 rfl rfl ⟨Nat.le_of_ble_eq_true rfl, Nat.le_of_ble_eq_true rfl⟩ rfl hl.1 (Nat.le_of_ble_eq_true rfl) dX0_monthsLater_59 ⟨Nat.zero_le _, Nat.zero_le _⟩ (fun r_59 z_59 => ?_)
      refine lv_isub hx hb dX0_monthsLater_62 ?_
      refine lv_topi (fun x_62 e_62 => ?_)
      have p_62 : x_62.toInt = (tg - (Mb ρ (ymc ρ tg))) := by rw [e_62]; exact t_sub p_tg z_59 (by omega) (by omega)
      refine lv_iconst (v := 1) hx hb dX0_monthsLater_63 (by decide) ?_
      refine lv_iadd hx hb dX0_monthsLater_64 ?_
      refine lv_topi (fun x_64 e_64 => ?_)
      have p_64 : x_64.toInt = ((tg - (Mb ρ (ymc ρ tg))) + 1) := by rw [e_64]; exact t_add p_62 (show (1 : Int32).toInt = 1 from rfl) (by omega) (by omega)
      refine lv_aload_n hx hb dX0_monthsLater_65 rfl (lv_at hl 3 rfl) ?_
      refine lv_iload_n hx hb dX0_monthsLater_66 rfl (lv_at hl 2 rfl) ?_
      refine lv_iload_n hx hb dX0_monthsLater_67 rfl (lv_at hl 4 rfl) ?_
      refine q_cPV X w (c_X0_dayOfMonth l D t b n σ q L C K fl fc ρ hP r_2 a_dy (yoc ρ dy) dy z_2 e_dy (by exact hin) (by exact hyo)) v_X0_134 (k := q) hP.1 rfl rfl ⟨Nat.le_of_ble_eq_true rfl, Nat.le_of_ble_eq_true rfl⟩ rfl hl.1 (Nat.le_of_ble_eq_true rfl) dX0_monthsLater_68 ⟨Nat.zero_le _, Nat.zero_le _⟩ (fun r_68 z_68 => ?_)
      refine q_cPV X w (c_X0_nearestDay l D t b n σ q L C K fl fc ρ hP r_36 x_64 r_68 (ymc ρ tg) ((tg - (Mb ρ (ymc ρ tg))) + 1) (dof ρ dy) z_36 p_64 z_68 (by first | assumption | omega) (by first | assumption | omega) (by first | assumption | omega)) v_X0_146 (k := q) hP.1 rfl rfl ⟨Nat.le_of_ble_eq_true rfl, Nat.le_of_ble_eq_true rfl⟩ rfl hl.1 (Nat.le_of_ble_eq_true rfl) dX0_monthsLater_71 ⟨Nat.zero_le _, Nat.zero_le _⟩ (fun r_71 z_71 => ?_)
      exact q_pret X w dX0_monthsLater_74 (by have h := z_71; rw [hym, show tg - Mb ρ (ym ρ tg) + 1 = mon ρ tg from rfl, mn_id hmn.2, dnum_1] at h; rw [mlc_r ⟨hin, by omega, by omega⟩, h]; unfold mlr mst mln; rw [← htg])
    · skip
      have k_45 : (ymc ρ tg) = (-2147483648) := (g_eq z_36 (show ((-2147483648) : Int32).toInt = (-2147483648) from rfl)).mp c_45
      refine lv_ldc hx hb X.2.2.2.1 (X.2.2.1 _ kc_X0_121) dX0_monthsLater_48 ?_
      exact q_pret X w dX0_monthsLater_50 (by unfold mlc; rw [if_neg (fun q => ?_)]; exact rfl; have h2 := ym_in hO (c := tg) (by omega) (by omega); unfold ymc at k_45; rw [if_pos (by omega)] at k_45; omega)
  · skip
    have k_9 : (yoc ρ dy) = (-2147483648) := (g_eq z_2 (show ((-2147483648) : Int32).toInt = (-2147483648) from rfl)).mp c_9
    refine lv_ldc hx hb X.2.2.2.1 (X.2.2.1 _ kc_X0_121) dX0_monthsLater_12 ?_
    exact q_pret X w dX0_monthsLater_14 (by unfold mlc; rw [if_neg (fun q => (yoc_iff hO).mp k_9 q.1)]; rfl)

set_option maxHeartbeats 4000000 in
set_option maxRecDepth 100000 in
theorem c_X0_monthsBetween (l : Launch) (D : va_G) (t : Nat → ClassId) (b n : Nat) (σ : qM) (q L C : Nat) (K fl fc : Nat → Int32) (ρ : Row) (hP : CalP t b σ q L C K fl fc ρ) (a_fr : Int32) (a_to : Int32) (fr : Int) (to : Int) (e_fr : a_fr.toInt = fr) (e_to : a_to.toInt = to) (h_1 : fst ρ (-2000) ≤ fr ∧ fr < fst ρ 2001) (h_2 : fst ρ (-2000) ≤ to ∧ to < fst ρ 2001) (h_3 : -999999 ≤ fr ∧ fr ≤ 999999) (h_4 : -999999 ≤ to ∧ to ≤ 999999) (h_5 : fr ≤ to) : qP l yX0_monthsBetween cX0_monthsBetween 4 (some .int) 7 D t b n σ [.ref (b + q), .int a_fr, .int a_to] (fun z => z.toInt = spM ρ fr to) := by
  refine qP.of (by decide +kernel) (Nat.le_of_ble_eq_true rfl) (fun p e s m args below meth c X w ls hl => ?_)
  have hx := X.1
  have hb := X.2.1
  have hl : lv_has ls 4 [(0, .ref (b + q)), (1, .int a_fr), (2, .int a_to)] := hl
  obtain ⟨hO, hR, k1, k2, k3, k4, k5, k6, k7, k9, k10, k11, k12, k13, k14, kl, kc⟩ := hP.2.2.2
  have hm := hO.months
  have hrb := reps_bd hO hR
  have ma := mcon_in hO h_1.1 h_1.2
  have mb := mcon_in hO h_2.1 h_2.2
  have x1 := Mb_bd hO (y := -2000) (by omega) (by omega)
  have x2 := Mb_bd hO (y := 2001) (by omega) (by omega)
  have hsp := spM_c hO h_1.1 h_1.2 h_3 h_2.1 h_2.2 h_4 h_5
  refine lv_aload_n hx hb dX0_monthsBetween_0 rfl (lv_at hl 0 rfl) ?_
  refine lv_iload_n hx hb dX0_monthsBetween_1 rfl (lv_at hl 2 rfl) ?_
  refine q_cPV X w (c_X0_countedMonthOf l D t b n σ q L C K fl fc ρ hP a_to to e_to (by first | assumption | omega)) v_X0_156 (k := q) hP.1 rfl rfl ⟨Nat.le_of_ble_eq_true rfl, Nat.le_of_ble_eq_true rfl⟩ rfl hl.1 (Nat.le_of_ble_eq_true rfl) dX0_monthsBetween_2 ⟨Nat.zero_le _, Nat.zero_le _⟩ (fun r_2 z_2 => ?_)
  refine lv_aload_n hx hb dX0_monthsBetween_5 rfl (lv_at hl 0 rfl) ?_
  refine lv_iload_n hx hb dX0_monthsBetween_6 rfl (lv_at hl 1 rfl) ?_
  refine q_cPV X w (c_X0_countedMonthOf l D t b n σ q L C K fl fc ρ hP a_fr fr e_fr (by first | assumption | omega)) v_X0_156 (k := q) hP.1 rfl rfl ⟨Nat.le_of_ble_eq_true rfl, Nat.le_of_ble_eq_true rfl⟩ rfl hl.1 (Nat.le_of_ble_eq_true rfl) dX0_monthsBetween_7 ⟨Nat.zero_le _, Nat.zero_le _⟩ (fun r_7 z_7 => ?_)
  refine lv_isub hx hb dX0_monthsBetween_10 ?_
  refine lv_topi (fun x_10 e_10 => ?_)
  have p_10 : x_10.toInt = ((mcon ρ to) - (mcon ρ fr)) := by rw [e_10]; exact t_sub z_2 z_7 (by omega) (by omega)
  refine lv_istore_n (lv' := [(3, .int x_10), (0, .ref (b + q)), (1, .int a_fr), (2, .int a_to)]) hx hb dX0_monthsBetween_11 rfl hl (by decide) rfl (fun ls hl => ?_)
  refine lv_aload_n hx hb dX0_monthsBetween_12 rfl (lv_at hl 1 rfl) ?_
  refine lv_iload_n hx hb dX0_monthsBetween_13 rfl (lv_at hl 2 rfl) ?_
  refine lv_iload_n hx hb dX0_monthsBetween_14 rfl (lv_at hl 0 rfl) ?_
  refine q_cPV X w (c_X0_monthsLater l D t b n σ q L C K fl fc ρ hP a_fr x_10 fr ((mcon ρ to) - (mcon ρ fr)) e_fr p_10 (by first | assumption | omega)) v_X0_159 (k := q) hP.1 rfl rfl ⟨Nat.le_of_ble_eq_true rfl, Nat.le_of_ble_eq_true rfl⟩ rfl hl.1 (Nat.le_of_ble_eq_true rfl) dX0_monthsBetween_15 ⟨Nat.zero_le _, Nat.zero_le _⟩ (fun r_15 z_15 => ?_)
  refine lv_iload_n hx hb dX0_monthsBetween_18 rfl (lv_at hl 3 rfl) ?_
  refine lv_icmp_le (tgt := 28) hx hb dX0_monthsBetween_19 (by decide) (fun c_19 => ?_) (fun c_19 => ?_)
  · skip
    have k_19 : (mlc ρ fr ((mcon ρ to) - (mcon ρ fr))) ≤ to := (g_le z_15 e_to).mp c_19
    refine lv_iload_n hx hb dX0_monthsBetween_28 rfl (lv_at hl 0 rfl) ?_
    exact q_pret X w dX0_monthsBetween_29 (by rw [hsp, if_neg (by omega)]; exact p_10)
  · skip
    have k_19 : ¬ ((mlc ρ fr ((mcon ρ to) - (mcon ρ fr))) ≤ to) := fun h => c_19 ((g_le z_15 e_to).mpr h)
    refine lv_iload_n hx hb dX0_monthsBetween_22 rfl (lv_at hl 0 rfl) ?_
    refine lv_iconst (v := 1) hx hb dX0_monthsBetween_23 (by decide) ?_
    refine lv_isub hx hb dX0_monthsBetween_24 ?_
    refine lv_topi (fun x_24 e_24 => ?_)
    have p_24 : x_24.toInt = (((mcon ρ to) - (mcon ρ fr)) - 1) := by rw [e_24]; exact t_sub p_10 (show (1 : Int32).toInt = 1 from rfl) (by omega) (by omega)
    refine lv_goto (tgt := 29) hx hb dX0_monthsBetween_25 (by decide) ?_
    exact q_pret X w dX0_monthsBetween_29 (by rw [hsp, if_pos (by omega)]; exact p_24)

set_option maxHeartbeats 4000000 in
set_option maxRecDepth 100000 in
theorem c_X0_weekdayInMonth (l : Launch) (D : va_G) (t : Nat → ClassId) (b n : Nat) (σ : qM) (q L C : Nat) (K fl fc : Nat → Int32) (ρ : Row) (hP : CalP t b σ q L C K fl fc ρ) (a_yr : Int32) (a_mo : Int32) (a_nb : Int32) (a_wd : Int32) (yr : Int) (mo : Int) (nb : Int) (wd : Int) (e_yr : a_yr.toInt = yr) (e_mo : a_mo.toInt = mo) (e_nb : a_nb.toInt = nb) (e_wd : a_wd.toInt = wd) (h_1 : -2000 ≤ yr ∧ yr ≤ 2000) (h_2 : 1 ≤ mo ∧ mo ≤ 15) (h_3 : nb = -1 ∨ (1 ≤ nb ∧ nb ≤ 5)) (h_4 : 0 ≤ wd ∧ wd ≤ 9) : qP l yX0_weekdayInMonth cX0_weekdayInMonth 9 (some .int) 5 D t b n σ [.ref (b + q), .int a_yr, .int a_mo, .int a_nb, .int a_wd] (fun z => z.toInt = toC (win ρ yr (if mo < mcnt ρ yr then mo else mcnt ρ yr) nb wd)) := by
  refine qP.of (by decide +kernel) (Nat.le_of_ble_eq_true rfl) (fun p e s m args below meth c X w ls hl => ?_)
  have hx := X.1
  have hb := X.2.1
  have hl : lv_has ls 9 [(0, .ref (b + q)), (1, .int a_yr), (2, .int a_mo), (3, .int a_nb), (4, .int a_wd)] := hl
  obtain ⟨hO, hR, k1, k2, k3, k4, k5, k6, k7, k9, k10, k11, k12, k13, k14, kl, kc⟩ := hP.2.2.2
  have hm := hO.months
  have hrb := reps_bd hO hR
  have hw := hO.wk
  have hmb := mcnt_bd hO yr
  have hmn := mn_bd (a := mo) (b := mcnt ρ yr) h_2.1 hmb.1
  have hdb := dnum_bd hO (y := yr) (m := (if mo < mcnt ρ yr then mo else mcnt ρ yr)) (d := 1) (by omega) hmn.1 hmn.2
  have hml := mlen_bd hO hmn.1 hmn.2
  refine lv_iload hx hb dX0_weekdayInMonth_0 (lv_at hl 4 rfl) ?_
  refine lv_aload_n hx hb dX0_weekdayInMonth_2 rfl (lv_at hl 0 rfl) ?_
  refine cg_weekLength X w hP dX0_weekdayInMonth_3 ?_
  refine lv_icmp_ge (tgt := 17) hx hb dX0_weekdayInMonth_6 (by decide) (fun c_6 => ?_) (fun c_6 => ?_)
  · skip
    have k_6 : (rv ρ 30) ≤ wd := (g_le k9 e_wd).mp c_6
    refine lv_ldc hx hb X.2.2.2.1 (X.2.2.1 _ kc_X0_121) dX0_weekdayInMonth_17 ?_
    exact q_pret X w dX0_weekdayInMonth_19 (by rw [toC_n (by unfold win; rw [if_pos (by omega)])]; rfl)
  · skip
    have k_6 : ¬ ((rv ρ 30) ≤ wd) := fun h => c_6 ((g_le k9 e_wd).mpr h)
    refine lv_aload_n hx hb dX0_weekdayInMonth_9 rfl (lv_at hl 0 rfl) ?_
    refine cg_weekLength X w hP dX0_weekdayInMonth_10 ?_
    refine lv_iconst (v := 1) hx hb dX0_weekdayInMonth_13 (by decide) ?_
    refine lv_icmp_ge (tgt := 20) hx hb dX0_weekdayInMonth_14 (by decide) (fun c_14 => ?_) (fun c_14 => ?_)
    · skip
      have k_14 : 1 ≤ (rv ρ 30) := (g_le (show (1 : Int32).toInt = 1 from rfl) k9).mp c_14
      have hm0 := Int.emod_nonneg (wd - wdy ρ (dnum ρ yr (if mo < mcnt ρ yr then mo else mcnt ρ yr) 1)) (show rv ρ 30 ≠ 0 by omega)
      have hm1 := Int.emod_lt_of_pos (wd - wdy ρ (dnum ρ yr (if mo < mcnt ρ yr then mo else mcnt ρ yr) 1)) (show 0 < rv ρ 30 by omega)
      have hd0 := wdy_bd hO (dnum ρ yr (if mo < mcnt ρ yr then mo else mcnt ρ yr) 1)
      have hd1 := wdy_bd hO (dnum ρ yr (if mo < mcnt ρ yr then mo else mcnt ρ yr) 1 + mlen ρ yr (if mo < mcnt ρ yr then mo else mcnt ρ yr) - 1)
      have hm2 := Int.emod_nonneg (wdy ρ (dnum ρ yr (if mo < mcnt ρ yr then mo else mcnt ρ yr) 1 + mlen ρ yr (if mo < mcnt ρ yr then mo else mcnt ρ yr) - 1) - wd) (show rv ρ 30 ≠ 0 by omega)
      have hm3 := Int.emod_lt_of_pos (wdy ρ (dnum ρ yr (if mo < mcnt ρ yr then mo else mcnt ρ yr) 1 + mlen ρ yr (if mo < mcnt ρ yr then mo else mcnt ρ yr) - 1) - wd) (show 0 < rv ρ 30 by omega)
      refine lv_iload_n hx hb dX0_weekdayInMonth_20 rfl (lv_at hl 2 rfl) ?_
      refine lv_aload_n hx hb dX0_weekdayInMonth_21 rfl (lv_at hl 0 rfl) ?_
      refine lv_iload_n hx hb dX0_weekdayInMonth_22 rfl (lv_at hl 1 rfl) ?_
      refine q_cPV X w (c_X0_monthCount l D t b n σ q L C K fl fc ρ hP a_yr yr e_yr) v_X0_103 (k := q) hP.1 rfl rfl ⟨Nat.le_of_ble_eq_true rfl, Nat.le_of_ble_eq_true rfl⟩ rfl hl.1 (Nat.le_of_ble_eq_true rfl) dX0_weekdayInMonth_23 ⟨Nat.zero_le _, Nat.zero_le _⟩ (fun r_23 z_23 => ?_)
      refine q_min X ml_X0_125 ⟨Nat.le_of_ble_eq_true rfl, Nat.le_of_ble_eq_true rfl⟩ ⟨Nat.zero_le _, Nat.zero_le _⟩ hl.1 (Nat.le_of_ble_eq_true rfl) dX0_weekdayInMonth_26 (fun r_26 z_26 => ?_)
      have p_26 : r_26.toInt = (if mo < (mcnt ρ yr) then mo else (mcnt ρ yr)) := by rw [z_26, e_mo, z_23]
      refine lv_istore (lv' := [(5, .int r_26), (0, .ref (b + q)), (1, .int a_yr), (2, .int a_mo), (3, .int a_nb), (4, .int a_wd)]) hx hb dX0_weekdayInMonth_29 hl (by decide) rfl (fun ls hl => ?_)
      refine lv_aload_n hx hb dX0_weekdayInMonth_31 rfl (lv_at hl 1 rfl) ?_
      refine lv_iload_n hx hb dX0_weekdayInMonth_32 rfl (lv_at hl 2 rfl) ?_
      refine lv_iload hx hb dX0_weekdayInMonth_33 (lv_at hl 0 rfl) ?_
      refine q_cPV X w (c_X0_startOfMonth l D t b n σ q L C K fl fc ρ hP a_yr r_26 yr (if mo < (mcnt ρ yr) then mo else (mcnt ρ yr)) e_yr p_26 (by first | assumption | omega) (by exact hmn)) v_X0_122 (k := q) hP.1 rfl rfl ⟨Nat.le_of_ble_eq_true rfl, Nat.le_of_ble_eq_true rfl⟩ rfl hl.1 (Nat.le_of_ble_eq_true rfl) dX0_weekdayInMonth_35 ⟨Nat.zero_le _, Nat.zero_le _⟩ (fun r_35 z_35 => ?_)
      refine lv_istore (lv' := [(6, .int r_35), (5, .int r_26), (0, .ref (b + q)), (1, .int a_yr), (2, .int a_mo), (3, .int a_nb), (4, .int a_wd)]) hx hb dX0_weekdayInMonth_38 hl (by decide) rfl (fun ls hl => ?_)
      refine lv_iload hx hb dX0_weekdayInMonth_40 (lv_at hl 0 rfl) ?_
      refine lv_aload_n hx hb dX0_weekdayInMonth_42 rfl (lv_at hl 2 rfl) ?_
      refine lv_iload_n hx hb dX0_weekdayInMonth_43 rfl (lv_at hl 3 rfl) ?_
      refine lv_iload hx hb dX0_weekdayInMonth_44 (lv_at hl 1 rfl) ?_
      refine q_cPV X w (c_X0_lengthOfMonth l D t b n σ q L C K fl fc ρ hP a_yr r_26 yr (if mo < (mcnt ρ yr) then mo else (mcnt ρ yr)) e_yr p_26 (by exact hmn)) v_X0_118 (k := q) hP.1 rfl rfl ⟨Nat.le_of_ble_eq_true rfl, Nat.le_of_ble_eq_true rfl⟩ rfl hl.1 (Nat.le_of_ble_eq_true rfl) dX0_weekdayInMonth_46 ⟨Nat.zero_le _, Nat.zero_le _⟩ (fun r_46 z_46 => ?_)
      refine lv_iadd hx hb dX0_weekdayInMonth_49 ?_
      refine lv_topi (fun x_49 e_49 => ?_)
      have p_49 : x_49.toInt = ((dnum ρ yr (if mo < (mcnt ρ yr) then mo else (mcnt ρ yr)) 1) + (mlen ρ yr (if mo < (mcnt ρ yr) then mo else (mcnt ρ yr)))) := by rw [e_49]; exact t_add z_35 z_46 (by omega) (by omega)
      refine lv_iconst (v := 1) hx hb dX0_weekdayInMonth_50 (by decide) ?_
      refine lv_isub hx hb dX0_weekdayInMonth_51 ?_
      refine lv_topi (fun x_51 e_51 => ?_)
      have p_51 : x_51.toInt = (((dnum ρ yr (if mo < (mcnt ρ yr) then mo else (mcnt ρ yr)) 1) + (mlen ρ yr (if mo < (mcnt ρ yr) then mo else (mcnt ρ yr)))) - 1) := by rw [e_51]; exact t_sub p_49 (show (1 : Int32).toInt = 1 from rfl) (by omega) (by omega)
      refine lv_istore (lv' := [(7, .int x_51), (6, .int r_35), (5, .int r_26), (0, .ref (b + q)), (1, .int a_yr), (2, .int a_mo), (3, .int a_nb), (4, .int a_wd)]) hx hb dX0_weekdayInMonth_52 hl (by decide) rfl (fun ls hl => ?_)
      refine lv_iload_n hx hb dX0_weekdayInMonth_54 rfl (lv_at hl 6 rfl) ?_
      refine lv_if_ge (tgt := 82) hx hb dX0_weekdayInMonth_55 (by decide) (fun c_55 => ?_) (fun c_55 => ?_)
      · skip
        have k_55 : 0 ≤ nb := (g_le (show (0 : Int32).toInt = 0 from rfl) e_nb).mp c_55
        have hpb := mlb (x := nb - 1) (y := rv ρ 30) (by omega) (by omega)
        refine lv_iload hx hb dX0_weekdayInMonth_82 (lv_at hl 1 rfl) ?_
        refine lv_iload hx hb dX0_weekdayInMonth_84 (lv_at hl 7 rfl) ?_
        refine lv_aload_n hx hb dX0_weekdayInMonth_86 rfl (lv_at hl 3 rfl) ?_
        refine lv_iload hx hb dX0_weekdayInMonth_87 (lv_at hl 1 rfl) ?_
        refine q_cPV X w (c_X0_weekdayOf l D t b n σ q L C K fl fc ρ hP r_35 (dnum ρ yr (if mo < (mcnt ρ yr) then mo else (mcnt ρ yr)) 1) z_35 (by first | assumption | omega)) v_X0_137 (k := q) hP.1 rfl rfl ⟨Nat.le_of_ble_eq_true rfl, Nat.le_of_ble_eq_true rfl⟩ rfl hl.1 (Nat.le_of_ble_eq_true rfl) dX0_weekdayInMonth_89 ⟨Nat.zero_le _, Nat.zero_le _⟩ (fun r_89 z_89 => ?_)
        refine lv_isub hx hb dX0_weekdayInMonth_92 ?_
        refine lv_topi (fun x_92 e_92 => ?_)
        have p_92 : x_92.toInt = (wd - (wdy ρ (dnum ρ yr (if mo < (mcnt ρ yr) then mo else (mcnt ρ yr)) 1))) := by rw [e_92]; exact t_sub e_wd z_89 (by omega) (by omega)
        refine lv_aload_n hx hb dX0_weekdayInMonth_93 rfl (lv_at hl 3 rfl) ?_
        refine cg_weekLength X w hP dX0_weekdayInMonth_94 ?_
        refine q_cPS X w (c_J9_floorMod_7cf53 l x_92 (K 9) (wd - (wdy ρ (dnum ρ yr (if mo < (mcnt ρ yr) then mo else (mcnt ρ yr)) 1))) (rv ρ 30) p_92 k9 (by first | assumption | omega) D t b n _) v_X0_86 rfl ⟨Nat.le_of_ble_eq_true rfl, Nat.le_of_ble_eq_true rfl⟩ rfl hl.1 (Nat.le_of_ble_eq_true rfl) dX0_weekdayInMonth_97 ⟨Nat.zero_le _, Nat.zero_le _⟩ (fun r_97 z_97 => ?_)
        refine lv_iadd hx hb dX0_weekdayInMonth_100 ?_
        refine lv_topi (fun x_100 e_100 => ?_)
        have p_100 : x_100.toInt = ((dnum ρ yr (if mo < (mcnt ρ yr) then mo else (mcnt ρ yr)) 1) + ((wd - (wdy ρ (dnum ρ yr (if mo < (mcnt ρ yr) then mo else (mcnt ρ yr)) 1))) % (rv ρ 30))) := by rw [e_100]; exact t_add z_35 z_97 (by omega) (by omega)
        refine lv_iload_n hx hb dX0_weekdayInMonth_101 rfl (lv_at hl 6 rfl) ?_
        refine lv_iconst (v := 1) hx hb dX0_weekdayInMonth_102 (by decide) ?_
        refine lv_isub hx hb dX0_weekdayInMonth_103 ?_
        refine lv_topi (fun x_103 e_103 => ?_)
        have p_103 : x_103.toInt = (nb - 1) := by rw [e_103]; exact t_sub e_nb (show (1 : Int32).toInt = 1 from rfl) (by omega) (by omega)
        refine lv_aload_n hx hb dX0_weekdayInMonth_104 rfl (lv_at hl 3 rfl) ?_
        refine cg_weekLength X w hP dX0_weekdayInMonth_105 ?_
        refine lv_imul hx hb dX0_weekdayInMonth_108 ?_
        refine lv_topi (fun x_108 e_108 => ?_)
        have p_108 : x_108.toInt = ((nb - 1) * (rv ρ 30)) := by rw [e_108]; exact t_mul p_103 k9 (by omega) (by omega)
        refine lv_iadd hx hb dX0_weekdayInMonth_109 ?_
        refine lv_topi (fun x_109 e_109 => ?_)
        have p_109 : x_109.toInt = (((dnum ρ yr (if mo < (mcnt ρ yr) then mo else (mcnt ρ yr)) 1) + ((wd - (wdy ρ (dnum ρ yr (if mo < (mcnt ρ yr) then mo else (mcnt ρ yr)) 1))) % (rv ρ 30))) + ((nb - 1) * (rv ρ 30))) := by rw [e_109]; exact t_add p_100 p_108 (by omega) (by omega)
        refine lv_istore (lv' := [(8, .int x_109), (7, .int x_51), (6, .int r_35), (5, .int r_26), (0, .ref (b + q)), (1, .int a_yr), (2, .int a_mo), (3, .int a_nb), (4, .int a_wd)]) hx hb dX0_weekdayInMonth_110 hl (by decide) rfl (fun ls hl => ?_)
        refine lv_iload hx hb dX0_weekdayInMonth_112 (lv_at hl 0 rfl) ?_
        refine lv_iload hx hb dX0_weekdayInMonth_114 (lv_at hl 2 rfl) ?_
        refine lv_iload hx hb dX0_weekdayInMonth_116 (lv_at hl 1 rfl) ?_
        refine q_cPSN X w (c_X8_isFrom l x_109 r_35 x_51 (((dnum ρ yr (if mo < (mcnt ρ yr) then mo else (mcnt ρ yr)) 1) + ((wd - (wdy ρ (dnum ρ yr (if mo < (mcnt ρ yr) then mo else (mcnt ρ yr)) 1))) % (rv ρ 30))) + ((nb - 1) * (rv ρ 30))) (dnum ρ yr (if mo < (mcnt ρ yr) then mo else (mcnt ρ yr)) 1) (((dnum ρ yr (if mo < (mcnt ρ yr) then mo else (mcnt ρ yr)) 1) + (mlen ρ yr (if mo < (mcnt ρ yr) then mo else (mcnt ρ yr)))) - 1) p_109 z_35 p_51 D t b n _) nv_X0_106 rfl ⟨Nat.le_of_ble_eq_true rfl, Nat.le_of_ble_eq_true rfl⟩ rfl hl.1 (Nat.le_of_ble_eq_true rfl) dX0_weekdayInMonth_118 ⟨Nat.zero_le _, Nat.zero_le _⟩ (fun r_118 z_118 => ?_)
        refine lv_if_eq (tgt := 129) hx hb dX0_weekdayInMonth_121 (by decide) (fun c_121 => ?_) (fun c_121 => ?_)
        · skip
          rw [z_118] at c_121
          have k_121 := bI_f.mp c_121
          refine lv_ldc hx hb X.2.2.2.1 (X.2.2.1 _ kc_X0_121) dX0_weekdayInMonth_129 ?_
          exact q_pret X w dX0_weekdayInMonth_131 (by rw [win_nth hO (by omega) hmn (by omega) (by omega), if_neg (fun q => k_121 ⟨by omega, by omega⟩)]; rfl)
        · skip
          rw [z_118] at c_121
          have k_121 := bI_t.mp c_121
          refine lv_iload hx hb dX0_weekdayInMonth_124 (lv_at hl 0 rfl) ?_
          refine lv_goto (tgt := 131) hx hb dX0_weekdayInMonth_126 (by decide) ?_
          exact q_pret X w dX0_weekdayInMonth_131 (by rw [win_nth hO (by omega) hmn (by omega) (by omega), if_pos (by omega)]; exact p_109)
      · skip
        have k_55 : ¬ (0 ≤ nb) := fun h => c_55 ((g_le (show (0 : Int32).toInt = 0 from rfl) e_nb).mpr h)
        refine lv_iload hx hb dX0_weekdayInMonth_58 (lv_at hl 0 rfl) ?_
        refine lv_aload_n hx hb dX0_weekdayInMonth_60 rfl (lv_at hl 3 rfl) ?_
        refine lv_iload hx hb dX0_weekdayInMonth_61 (lv_at hl 0 rfl) ?_
        refine q_cPV X w (c_X0_weekdayOf l D t b n σ q L C K fl fc ρ hP x_51 (((dnum ρ yr (if mo < (mcnt ρ yr) then mo else (mcnt ρ yr)) 1) + (mlen ρ yr (if mo < (mcnt ρ yr) then mo else (mcnt ρ yr)))) - 1) p_51 (by first | assumption | omega)) v_X0_137 (k := q) hP.1 rfl rfl ⟨Nat.le_of_ble_eq_true rfl, Nat.le_of_ble_eq_true rfl⟩ rfl hl.1 (Nat.le_of_ble_eq_true rfl) dX0_weekdayInMonth_63 ⟨Nat.zero_le _, Nat.zero_le _⟩ (fun r_63 z_63 => ?_)
        refine lv_iload hx hb dX0_weekdayInMonth_66 (lv_at hl 7 rfl) ?_
        refine lv_isub hx hb dX0_weekdayInMonth_68 ?_
        refine lv_topi (fun x_68 e_68 => ?_)
        have p_68 : x_68.toInt = ((wdy ρ (((dnum ρ yr (if mo < (mcnt ρ yr) then mo else (mcnt ρ yr)) 1) + (mlen ρ yr (if mo < (mcnt ρ yr) then mo else (mcnt ρ yr)))) - 1)) - wd) := by rw [e_68]; exact t_sub z_63 e_wd (by omega) (by omega)
        refine lv_aload_n hx hb dX0_weekdayInMonth_69 rfl (lv_at hl 3 rfl) ?_
        refine cg_weekLength X w hP dX0_weekdayInMonth_70 ?_
        refine q_cPS X w (c_J9_floorMod_7cf53 l x_68 (K 9) ((wdy ρ (((dnum ρ yr (if mo < (mcnt ρ yr) then mo else (mcnt ρ yr)) 1) + (mlen ρ yr (if mo < (mcnt ρ yr) then mo else (mcnt ρ yr)))) - 1)) - wd) (rv ρ 30) p_68 k9 (by first | assumption | omega) D t b n _) v_X0_86 rfl ⟨Nat.le_of_ble_eq_true rfl, Nat.le_of_ble_eq_true rfl⟩ rfl hl.1 (Nat.le_of_ble_eq_true rfl) dX0_weekdayInMonth_73 ⟨Nat.zero_le _, Nat.zero_le _⟩ (fun r_73 z_73 => ?_)
        refine lv_isub hx hb dX0_weekdayInMonth_76 ?_
        refine lv_topi (fun x_76 e_76 => ?_)
        have p_76 : x_76.toInt = ((((dnum ρ yr (if mo < (mcnt ρ yr) then mo else (mcnt ρ yr)) 1) + (mlen ρ yr (if mo < (mcnt ρ yr) then mo else (mcnt ρ yr)))) - 1) - (((wdy ρ (((dnum ρ yr (if mo < (mcnt ρ yr) then mo else (mcnt ρ yr)) 1) + (mlen ρ yr (if mo < (mcnt ρ yr) then mo else (mcnt ρ yr)))) - 1)) - wd) % (rv ρ 30))) := by rw [e_76]; exact t_sub p_51 z_73 (by omega) (by omega)
        refine lv_istore (lv' := [(8, .int x_76), (7, .int x_51), (6, .int r_35), (5, .int r_26), (0, .ref (b + q)), (1, .int a_yr), (2, .int a_mo), (3, .int a_nb), (4, .int a_wd)]) hx hb dX0_weekdayInMonth_77 hl (by decide) rfl (fun ls hl => ?_)
        refine lv_goto (tgt := 112) hx hb dX0_weekdayInMonth_79 (by decide) ?_
        refine lv_iload hx hb dX0_weekdayInMonth_112 (lv_at hl 0 rfl) ?_
        refine lv_iload hx hb dX0_weekdayInMonth_114 (lv_at hl 2 rfl) ?_
        refine lv_iload hx hb dX0_weekdayInMonth_116 (lv_at hl 1 rfl) ?_
        refine q_cPSN X w (c_X8_isFrom l x_76 r_35 x_51 ((((dnum ρ yr (if mo < (mcnt ρ yr) then mo else (mcnt ρ yr)) 1) + (mlen ρ yr (if mo < (mcnt ρ yr) then mo else (mcnt ρ yr)))) - 1) - (((wdy ρ (((dnum ρ yr (if mo < (mcnt ρ yr) then mo else (mcnt ρ yr)) 1) + (mlen ρ yr (if mo < (mcnt ρ yr) then mo else (mcnt ρ yr)))) - 1)) - wd) % (rv ρ 30))) (dnum ρ yr (if mo < (mcnt ρ yr) then mo else (mcnt ρ yr)) 1) (((dnum ρ yr (if mo < (mcnt ρ yr) then mo else (mcnt ρ yr)) 1) + (mlen ρ yr (if mo < (mcnt ρ yr) then mo else (mcnt ρ yr)))) - 1) p_76 z_35 p_51 D t b n _) nv_X0_106 rfl ⟨Nat.le_of_ble_eq_true rfl, Nat.le_of_ble_eq_true rfl⟩ rfl hl.1 (Nat.le_of_ble_eq_true rfl) dX0_weekdayInMonth_118 ⟨Nat.zero_le _, Nat.zero_le _⟩ (fun r_118 z_118 => ?_)
        refine lv_if_eq (tgt := 129) hx hb dX0_weekdayInMonth_121 (by decide) (fun c_121 => ?_) (fun c_121 => ?_)
        · skip
          rw [z_118] at c_121
          have k_121 := bI_f.mp c_121
          refine lv_ldc hx hb X.2.2.2.1 (X.2.2.1 _ kc_X0_121) dX0_weekdayInMonth_129 ?_
          exact q_pret X w dX0_weekdayInMonth_131 (by have hnb : nb = -1 := (by omega); rw [hnb, win_last hO (by omega) hmn (by omega), if_neg (fun q => k_121 ⟨by omega, by omega⟩)]; rfl)
        · skip
          rw [z_118] at c_121
          have k_121 := bI_t.mp c_121
          refine lv_iload hx hb dX0_weekdayInMonth_124 (lv_at hl 0 rfl) ?_
          refine lv_goto (tgt := 131) hx hb dX0_weekdayInMonth_126 (by decide) ?_
          exact q_pret X w dX0_weekdayInMonth_131 (by have hnb : nb = -1 := (by omega); rw [hnb, win_last hO (by omega) hmn (by omega), if_pos (by omega)]; exact p_76)
    · skip
      have k_14 : ¬ (1 ≤ (rv ρ 30)) := fun h => c_14 ((g_le (show (1 : Int32).toInt = 1 from rfl) k9).mpr h)
      exfalso; omega

set_option maxHeartbeats 4000000 in
set_option maxRecDepth 100000 in
theorem c_X0_nextWeekday (l : Launch) (D : va_G) (t : Nat → ClassId) (b n : Nat) (σ : qM) (q L C : Nat) (K fl fc : Nat → Int32) (ρ : Row) (hP : CalP t b σ q L C K fl fc ρ) (a_dy : Int32) (a_wd : Int32) (dy : Int) (wd : Int) (e_dy : a_dy.toInt = dy) (e_wd : a_wd.toInt = wd) (h_1 : -999999 ≤ dy ∧ dy ≤ 999999) (h_2 : 0 ≤ wd ∧ wd ≤ 9) : qP l yX0_nextWeekday cX0_nextWeekday 4 (some .int) 2 D t b n σ [.ref (b + q), .int a_dy, .int a_wd] (fun z => z.toInt = toC (wfrom ρ dy wd)) := by
  refine qP.of (by decide +kernel) (Nat.le_of_ble_eq_true rfl) (fun p e s m args below meth c X w ls hl => ?_)
  have hx := X.1
  have hb := X.2.1
  have hl : lv_has ls 4 [(0, .ref (b + q)), (1, .int a_dy), (2, .int a_wd)] := hl
  obtain ⟨hO, hR, k1, k2, k3, k4, k5, k6, k7, k9, k10, k11, k12, k13, k14, kl, kc⟩ := hP.2.2.2
  have hm := hO.months
  have hrb := reps_bd hO hR
  have hw := hO.wk
  have hd0 := wdy_bd hO dy
  have hm0 := Int.emod_nonneg (wd - wdy ρ dy) (show rv ρ 30 ≠ 0 by omega)
  have hm1 := Int.emod_lt_of_pos (wd - wdy ρ dy) (show 0 < rv ρ 30 by omega)
  refine lv_iload_n hx hb dX0_nextWeekday_0 rfl (lv_at hl 2 rfl) ?_
  refine lv_aload_n hx hb dX0_nextWeekday_1 rfl (lv_at hl 0 rfl) ?_
  refine cg_weekLength X w hP dX0_nextWeekday_2 ?_
  refine lv_icmp_ge (tgt := 24) hx hb dX0_nextWeekday_5 (by decide) (fun c_5 => ?_) (fun c_5 => ?_)
  · skip
    have k_5 : (rv ρ 30) ≤ wd := (g_le k9 e_wd).mp c_5
    refine lv_ldc hx hb X.2.2.2.1 (X.2.2.1 _ kc_X0_121) dX0_nextWeekday_24 ?_
    exact q_pret X w dX0_nextWeekday_26 (by rw [toC_n (by unfold wfrom; rw [if_pos (by omega)])]; rfl)
  · skip
    have k_5 : ¬ ((rv ρ 30) ≤ wd) := fun h => c_5 ((g_le k9 e_wd).mpr h)
    refine lv_aload_n hx hb dX0_nextWeekday_8 rfl (lv_at hl 0 rfl) ?_
    refine cg_weekLength X w hP dX0_nextWeekday_9 ?_
    refine lv_iconst (v := 1) hx hb dX0_nextWeekday_12 (by decide) ?_
    refine lv_icmp_lt (tgt := 24) hx hb dX0_nextWeekday_13 (by decide) (fun c_13 => ?_) (fun c_13 => ?_)
    · skip
      have k_13 : (rv ρ 30) < 1 := (g_lt k9 (show (1 : Int32).toInt = 1 from rfl)).mp c_13
      exfalso; omega
    · skip
      have k_13 : ¬ ((rv ρ 30) < 1) := fun h => c_13 ((g_lt k9 (show (1 : Int32).toInt = 1 from rfl)).mpr h)
      refine lv_aload_n hx hb dX0_nextWeekday_16 rfl (lv_at hl 0 rfl) ?_
      refine lv_iload_n hx hb dX0_nextWeekday_17 rfl (lv_at hl 1 rfl) ?_
      refine q_cPV X w (c_X0_holds l D t b n σ q L C K fl fc ρ hP a_dy dy e_dy) v_X0_128 (k := q) hP.1 rfl rfl ⟨Nat.le_of_ble_eq_true rfl, Nat.le_of_ble_eq_true rfl⟩ rfl hl.1 (Nat.le_of_ble_eq_true rfl) dX0_nextWeekday_18 ⟨Nat.zero_le _, Nat.zero_le _⟩ (fun r_18 z_18 => ?_)
      refine lv_if_ne (tgt := 27) hx hb dX0_nextWeekday_21 (by decide) (fun c_21 => ?_) (fun c_21 => ?_)
      · skip
        rw [z_18] at c_21
        have k_21 := bI_t.mp c_21
        refine lv_iload_n hx hb dX0_nextWeekday_27 rfl (lv_at hl 1 rfl) ?_
        refine lv_iload_n hx hb dX0_nextWeekday_28 rfl (lv_at hl 2 rfl) ?_
        refine lv_aload_n hx hb dX0_nextWeekday_29 rfl (lv_at hl 0 rfl) ?_
        refine lv_iload_n hx hb dX0_nextWeekday_30 rfl (lv_at hl 1 rfl) ?_
        refine q_cPV X w (c_X0_weekdayOf l D t b n σ q L C K fl fc ρ hP a_dy dy e_dy (by first | assumption | omega)) v_X0_137 (k := q) hP.1 rfl rfl ⟨Nat.le_of_ble_eq_true rfl, Nat.le_of_ble_eq_true rfl⟩ rfl hl.1 (Nat.le_of_ble_eq_true rfl) dX0_nextWeekday_31 ⟨Nat.zero_le _, Nat.zero_le _⟩ (fun r_31 z_31 => ?_)
        refine lv_isub hx hb dX0_nextWeekday_34 ?_
        refine lv_topi (fun x_34 e_34 => ?_)
        have p_34 : x_34.toInt = (wd - (wdy ρ dy)) := by rw [e_34]; exact t_sub e_wd z_31 (by omega) (by omega)
        refine lv_aload_n hx hb dX0_nextWeekday_35 rfl (lv_at hl 0 rfl) ?_
        refine cg_weekLength X w hP dX0_nextWeekday_36 ?_
        refine q_cPS X w (c_J9_floorMod_7cf53 l x_34 (K 9) (wd - (wdy ρ dy)) (rv ρ 30) p_34 k9 (by first | assumption | omega) D t b n _) v_X0_86 rfl ⟨Nat.le_of_ble_eq_true rfl, Nat.le_of_ble_eq_true rfl⟩ rfl hl.1 (Nat.le_of_ble_eq_true rfl) dX0_nextWeekday_39 ⟨Nat.zero_le _, Nat.zero_le _⟩ (fun r_39 z_39 => ?_)
        refine lv_iadd hx hb dX0_nextWeekday_42 ?_
        refine lv_topi (fun x_42 e_42 => ?_)
        have p_42 : x_42.toInt = (dy + ((wd - (wdy ρ dy)) % (rv ρ 30))) := by rw [e_42]; exact t_add e_dy z_39 (by omega) (by omega)
        refine lv_istore_n (lv' := [(3, .int x_42), (0, .ref (b + q)), (1, .int a_dy), (2, .int a_wd)]) hx hb dX0_nextWeekday_43 rfl hl (by decide) rfl (fun ls hl => ?_)
        refine lv_aload_n hx hb dX0_nextWeekday_44 rfl (lv_at hl 1 rfl) ?_
        refine lv_iload_n hx hb dX0_nextWeekday_45 rfl (lv_at hl 0 rfl) ?_
        refine q_cPV X w (c_X0_holds l D t b n σ q L C K fl fc ρ hP x_42 (dy + ((wd - (wdy ρ dy)) % (rv ρ 30))) p_42) v_X0_128 (k := q) hP.1 rfl rfl ⟨Nat.le_of_ble_eq_true rfl, Nat.le_of_ble_eq_true rfl⟩ rfl hl.1 (Nat.le_of_ble_eq_true rfl) dX0_nextWeekday_46 ⟨Nat.zero_le _, Nat.zero_le _⟩ (fun r_46 z_46 => ?_)
        refine lv_if_eq (tgt := 56) hx hb dX0_nextWeekday_49 (by decide) (fun c_49 => ?_) (fun c_49 => ?_)
        · skip
          rw [z_46] at c_49
          have k_49 := bI_f.mp c_49
          refine lv_ldc hx hb X.2.2.2.1 (X.2.2.1 _ kc_X0_121) dX0_nextWeekday_56 ?_
          exact q_pret X w dX0_nextWeekday_58 (by rw [toC_n (by unfold wfrom; rw [if_neg (show ¬ rv ρ 30 ≤ wd by omega), if_neg (fun q => k_49 q.2)])]; rfl)
        · skip
          rw [z_46] at c_49
          have k_49 := bI_t.mp c_49
          refine lv_iload_n hx hb dX0_nextWeekday_52 rfl (lv_at hl 0 rfl) ?_
          refine lv_goto (tgt := 58) hx hb dX0_nextWeekday_53 (by decide) ?_
          exact q_pret X w dX0_nextWeekday_58 (by have e : wfrom ρ dy wd = dy + (wd - wdy ρ dy) % rv ρ 30 := (by unfold wfrom; rw [if_neg (show ¬ rv ρ 30 ≤ wd by omega), if_pos ⟨k_21, k_49⟩]); rw [toC_d (by omega), e]; exact p_42)
      · skip
        rw [z_18] at c_21
        have k_21 := bI_f.mp c_21
        refine lv_ldc hx hb X.2.2.2.1 (X.2.2.1 _ kc_X0_121) dX0_nextWeekday_24 ?_
        exact q_pret X w dX0_nextWeekday_26 (by rw [toC_n (by unfold wfrom; rw [if_neg (show ¬ rv ρ 30 ≤ wd by omega), if_neg (fun q => k_21 q.1)])]; rfl)

set_option maxHeartbeats 4000000 in
set_option maxRecDepth 100000 in
theorem c_X0_nextNumbered (l : Launch) (D : va_G) (t : Nat → ClassId) (b n : Nat) (σ : qM) (q L C : Nat) (K fl fc : Nat → Int32) (ρ : Row) (hP : CalP t b σ q L C K fl fc ρ) (a_dy : Int32) (a_nm : Int32) (dy : Int) (nm : Int) (e_dy : a_dy.toInt = dy) (e_nm : a_nm.toInt = nm) (h_1 : -999999 ≤ dy ∧ dy ≤ 999999) (h_2 : 1 ≤ nm ∧ nm ≤ 60) : qP l yX0_nextNumbered cX0_nextNumbered 10 (some .int) 5 D t b n σ [.ref (b + q), .int a_dy, .int a_nm] (fun z => z.toInt = toC (nfrom ρ dy nm)) := by
  refine qP.of (by decide +kernel) (Nat.le_of_ble_eq_true rfl) (fun p e s m args below meth c X w ls hl => ?_)
  have hx := X.1
  have hb := X.2.1
  have hl : lv_has ls 10 [(0, .ref (b + q)), (1, .int a_dy), (2, .int a_nm)] := hl
  obtain ⟨hO, hR, k1, k2, k3, k4, k5, k6, k7, k9, k10, k11, k12, k13, k14, kl, kc⟩ := hP.2.2.2
  have hm := hO.months
  have hrb := reps_bd hO hR
  refine lv_aload_n hx hb dX0_nextNumbered_0 rfl (lv_at hl 0 rfl) ?_
  refine lv_iload_n hx hb dX0_nextNumbered_1 rfl (lv_at hl 1 rfl) ?_
  refine q_cPV X w (c_X0_yearOf l D t b n σ q L C K fl fc ρ hP a_dy dy e_dy) v_X0_143 (k := q) hP.1 rfl rfl ⟨Nat.le_of_ble_eq_true rfl, Nat.le_of_ble_eq_true rfl⟩ rfl hl.1 (Nat.le_of_ble_eq_true rfl) dX0_nextNumbered_2 ⟨Nat.zero_le _, Nat.zero_le _⟩ (fun r_2 z_2 => ?_)
  refine lv_istore_n (lv' := [(3, .int r_2), (0, .ref (b + q)), (1, .int a_dy), (2, .int a_nm)]) hx hb dX0_nextNumbered_5 rfl hl (by decide) rfl (fun ls hl => ?_)
  refine lv_iload_n hx hb dX0_nextNumbered_6 rfl (lv_at hl 0 rfl) ?_
  refine lv_ldc hx hb X.2.2.2.1 (X.2.2.1 _ kc_X0_121) dX0_nextNumbered_7 ?_
  refine lv_icmp_ne (tgt := 15) hx hb dX0_nextNumbered_9 (by decide) (fun c_9 => ?_) (fun c_9 => ?_)
  · skip
    have k_9 : ¬ ((yoc ρ dy) = (-2147483648)) := fun h => c_9 ((g_eq z_2 (show ((-2147483648) : Int32).toInt = (-2147483648) from rfl)).mpr h)
    have hin : fst ρ (-2000) ≤ dy ∧ dy < fst ρ 2001 := by by_cases q : fst ρ (-2000) ≤ dy ∧ dy < fst ρ 2001; exact q; exact absurd (yoc_no q) k_9
    have hyo := yoc_in hin
    have hy := yof_in hO hin.1 hin.2
    have hmo := mof_bd hO dy
    have hdo := dof_bd hO hin.1 hin.2
    have hmb0 := mcnt_bd hO (yof ρ dy)
    have hmo2 : mof ρ dy ≤ mcnt ρ (yoc ρ dy) := by rw [hyo]; exact hmo.2
    refine lv_aload_n hx hb dX0_nextNumbered_15 rfl (lv_at hl 1 rfl) ?_
    refine lv_iload_n hx hb dX0_nextNumbered_16 rfl (lv_at hl 0 rfl) ?_
    refine lv_iload_n hx hb dX0_nextNumbered_17 rfl (lv_at hl 2 rfl) ?_
    refine q_cPV X w (c_X0_monthOf l D t b n σ q L C K fl fc ρ hP r_2 a_dy (yoc ρ dy) dy z_2 e_dy (by exact hin) (by exact hyo)) v_X0_131 (k := q) hP.1 rfl rfl ⟨Nat.le_of_ble_eq_true rfl, Nat.le_of_ble_eq_true rfl⟩ rfl hl.1 (Nat.le_of_ble_eq_true rfl) dX0_nextNumbered_18 ⟨Nat.zero_le _, Nat.zero_le _⟩ (fun r_18 z_18 => ?_)
    refine lv_istore (lv' := [(4, .int r_18), (3, .int r_2), (0, .ref (b + q)), (1, .int a_dy), (2, .int a_nm)]) hx hb dX0_nextNumbered_21 hl (by decide) rfl (fun ls hl => ?_)
    refine lv_aload_n hx hb dX0_nextNumbered_23 rfl (lv_at hl 2 rfl) ?_
    refine lv_iload_n hx hb dX0_nextNumbered_24 rfl (lv_at hl 1 rfl) ?_
    refine lv_iload hx hb dX0_nextNumbered_25 (lv_at hl 0 rfl) ?_
    refine q_cPV X w (c_X0_startOfMonth l D t b n σ q L C K fl fc ρ hP r_2 r_18 (yoc ρ dy) (mof ρ dy) z_2 z_18 (by first | assumption | omega) (by first | assumption | omega)) v_X0_122 (k := q) hP.1 rfl rfl ⟨Nat.le_of_ble_eq_true rfl, Nat.le_of_ble_eq_true rfl⟩ rfl hl.1 (Nat.le_of_ble_eq_true rfl) dX0_nextNumbered_27 ⟨Nat.zero_le _, Nat.zero_le _⟩ (fun r_27 z_27 => ?_)
    refine lv_istore (lv' := [(5, .int r_27), (4, .int r_18), (3, .int r_2), (0, .ref (b + q)), (1, .int a_dy), (2, .int a_nm)]) hx hb dX0_nextNumbered_30 hl (by decide) rfl (fun ls hl => ?_)
    refine lv_aload_n hx hb dX0_nextNumbered_32 rfl (lv_at hl 3 rfl) ?_
    refine lv_iload_n hx hb dX0_nextNumbered_33 rfl (lv_at hl 2 rfl) ?_
    refine q_cPV X w (c_X0_leaps l D t b n σ q L C K fl fc ρ hP r_2 (yoc ρ dy) z_2) v_X0_92 (k := q) hP.1 rfl rfl ⟨Nat.le_of_ble_eq_true rfl, Nat.le_of_ble_eq_true rfl⟩ rfl hl.1 (Nat.le_of_ble_eq_true rfl) dX0_nextNumbered_34 ⟨Nat.zero_le _, Nat.zero_le _⟩ (fun r_34 z_34 => ?_)
    refine lv_istore (lv' := [(6, .int r_34), (5, .int r_27), (4, .int r_18), (3, .int r_2), (0, .ref (b + q)), (1, .int a_dy), (2, .int a_nm)]) hx hb dX0_nextNumbered_37 hl (by decide) rfl (fun ls hl => ?_)
    have hdd := dnum_date (ρ := ρ) dy
    have hd1 := dnum_1 ρ (yof ρ dy) (mof ρ dy) (dof ρ dy)
    have hle := mlen_bd hO hmo.1 hmo.2
    have hso : dnum ρ (yoc ρ dy) (mof ρ dy) 1 = dy - dof ρ dy + 1 := by rw [hyo]; omega
    have hnf : nfrom ρ dy nm = nfM ρ nm dy (mxI dy (dnum ρ (yoc ρ dy) (mof ρ dy) 1)) := by rw [← nfM_0]; congr 1; rw [hso]; have := mxI_ge dy (dy - dof ρ dy + 1); omega
    refine lv_iconst (v := 0) hx hb dX0_nextNumbered_39 (by decide) ?_
    refine lv_istore (lv' := [(7, .int 0), (6, .int r_34), (5, .int r_27), (4, .int r_18), (3, .int r_2), (0, .ref (b + q)), (1, .int a_dy), (2, .int a_nm)]) hx hb dX0_nextNumbered_40 hl (by decide) rfl (fun ls hl => ?_)
    refine q_loop (α := Int32 × Int32 × Int32 × Int32 × Int32 × Int × Int × Int × Int × Int) (fun a => a.1.toInt = a.2.2.2.2.2.1 ∧ a.2.1.toInt = a.2.2.2.2.2.2.1 ∧ a.2.2.1.toInt = a.2.2.2.2.2.2.2.1 ∧ a.2.2.2.1.toInt = a.2.2.2.2.2.2.2.2.1 ∧ a.2.2.2.2.1.toInt = a.2.2.2.2.2.2.2.2.2 ∧ (((-2000 ≤ a.2.2.2.2.2.1 ∧ a.2.2.2.2.2.1 ≤ 2000) ∧ (1 ≤ a.2.2.2.2.2.2.1 ∧ a.2.2.2.2.2.2.1 ≤ mcnt ρ a.2.2.2.2.2.1) ∧ (0 ≤ a.2.2.2.2.2.2.2.2.2 ∧ a.2.2.2.2.2.2.2.2.2 ≤ 800) ∧ dy - 61 + a.2.2.2.2.2.2.2.2.2 ≤ a.2.2.2.2.2.2.2.1 ∧ a.2.2.2.2.2.2.2.1 ≤ dy + 461) ∧ a.2.2.2.2.2.2.2.2.1 = (bI (decide (leap ρ a.2.2.2.2.2.1 = true))).toInt ∧ a.2.2.2.2.2.2.2.1 = dnum ρ a.2.2.2.2.2.1 a.2.2.2.2.2.2.1 1 ∧ nfrom ρ dy nm = nfM ρ nm dy (mxI dy a.2.2.2.2.2.2.2.1))) (fun a => (800 - a.2.2.2.2.2.2.2.2.2).toNat) (fun a => ∀ ls : Array Slot, lv_has ls 10 [(7, .int a.2.2.2.2.1), (6, .int a.2.2.2.1), (5, .int a.2.2.1), (4, .int a.2.1), (3, .int a.1), (0, .ref (b + q)), (1, .int a_dy), (2, .int a_nm)] → W p l e (qR 5 0 0) s m args below meth c s.heap [] 0 0 (MQ below (vp_Si (fun z => z.toInt = toC (nfrom ρ dy nm))) args s 0 0 (fun _ => False)) (F0 m 42 ls [])) ?_ ⟨r_2, r_18, r_27, r_34, 0, yoc ρ dy, mof ρ dy, dnum ρ (yoc ρ dy) (mof ρ dy) 1, (r_34).toInt, 0⟩ ⟨z_2, z_18, z_27, rfl, (show (0 : Int32).toInt = 0 from rfl), by dsimp only; exact ⟨⟨by omega, by omega, by omega, by omega, by omega⟩, congrArg Int32.toInt z_34, rfl, hnf⟩⟩ ls (lv_sub hl [0, 1, 2, 3, 4, 5, 6, 7] rfl)
    rintro ⟨v_yr, v_mo, v_so, v_il, v_i, yr, mo, so, il, i⟩ ⟨q_yr, q_mo, q_so, q_il, q_i, inv_42⟩ ih_42 ls hl
    dsimp only at q_yr q_mo q_so q_il q_i inv_42 hl
    have hmb := mcnt_bd hO yr
    have hml := mlen_bd hO inv_42.1.2.1.1 inv_42.1.2.1.2
    refine lv_iload hx hb dX0_nextNumbered_42 (lv_at hl 0 rfl) ?_
    refine lv_sipush (v := 800) hx hb dX0_nextNumbered_44 (by decide) ?_
    refine lv_icmp_ge (tgt := 158) hx hb dX0_nextNumbered_47 (by decide) (fun c_47 => ?_) (fun c_47 => ?_)
    · skip
      have k_47 : 800 ≤ i := (g_le (show (800 : Int32).toInt = 800 from rfl) q_i).mp c_47
      refine lv_ldc hx hb X.2.2.2.1 (X.2.2.1 _ kc_X0_121) dX0_nextNumbered_158 ?_
      exact q_pret X w dX0_nextNumbered_160 (by rw [inv_42.2.2.2, nfM_no (by have := mxI_ge dy so; omega)]; rfl)
    · skip
      have k_47 : ¬ (800 ≤ i) := fun h => c_47 ((g_le (show (800 : Int32).toInt = 800 from rfl) q_i).mpr h)
      refine lv_iload hx hb dX0_nextNumbered_50 (lv_at hl 2 rfl) ?_
      refine lv_iload_n hx hb dX0_nextNumbered_52 rfl (lv_at hl 6 rfl) ?_
      refine lv_sipush (v := 400) hx hb dX0_nextNumbered_53 (by decide) ?_
      refine lv_iadd hx hb dX0_nextNumbered_56 ?_
      refine lv_topi (fun x_56 e_56 => ?_)
      have p_56 : x_56.toInt = (dy + 400) := by rw [e_56]; exact t_add e_dy (show (400 : Int32).toInt = 400 from rfl) (by omega) (by omega)
      refine lv_icmp_ge (tgt := 158) hx hb dX0_nextNumbered_57 (by decide) (fun c_57 => ?_) (fun c_57 => ?_)
      · skip
        have k_57 : (dy + 400) ≤ so := (g_le p_56 q_so).mp c_57
        refine lv_ldc hx hb X.2.2.2.1 (X.2.2.1 _ kc_X0_121) dX0_nextNumbered_158 ?_
        exact q_pret X w dX0_nextNumbered_160 (by rw [inv_42.2.2.2, nfM_no (by have := mxI_ge dy so; omega)]; rfl)
      · skip
        have k_57 : ¬ ((dy + 400) ≤ so) := fun h => c_57 ((g_le p_56 q_so).mpr h)
        refine lv_aload_n hx hb dX0_nextNumbered_60 rfl (lv_at hl 5 rfl) ?_
        refine lv_iload hx hb dX0_nextNumbered_61 (lv_at hl 1 rfl) ?_
        refine lv_iload hx hb dX0_nextNumbered_63 (lv_at hl 3 rfl) ?_
        refine q_cPV X w (c_X0_lengthIn l D t b n σ q L C K fl fc ρ hP yr v_il v_mo il mo q_il q_mo (by exact (g_eq q_il rfl).mpr inv_42.2.1) (by exact inv_42.1.2.1)) v_X0_110 (k := q) hP.1 rfl rfl ⟨Nat.le_of_ble_eq_true rfl, Nat.le_of_ble_eq_true rfl⟩ rfl hl.1 (Nat.le_of_ble_eq_true rfl) dX0_nextNumbered_65 ⟨Nat.zero_le _, Nat.zero_le _⟩ (fun r_65 z_65 => ?_)
        refine lv_istore (lv' := [(8, .int r_65), (7, .int v_i), (6, .int v_il), (5, .int v_so), (4, .int v_mo), (3, .int v_yr), (0, .ref (b + q)), (1, .int a_dy), (2, .int a_nm)]) hx hb dX0_nextNumbered_68 hl (by decide) rfl (fun ls hl => ?_)
        refine lv_iload hx hb dX0_nextNumbered_70 (lv_at hl 3 rfl) ?_
        refine lv_iload_n hx hb dX0_nextNumbered_72 rfl (lv_at hl 8 rfl) ?_
        refine lv_iadd hx hb dX0_nextNumbered_73 ?_
        refine lv_topi (fun x_73 e_73 => ?_)
        have p_73 : x_73.toInt = (so + nm) := by rw [e_73]; exact t_add q_so e_nm (by omega) (by omega)
        refine lv_iconst (v := 1) hx hb dX0_nextNumbered_74 (by decide) ?_
        refine lv_isub hx hb dX0_nextNumbered_75 ?_
        refine lv_topi (fun x_75 e_75 => ?_)
        have p_75 : x_75.toInt = ((so + nm) - 1) := by rw [e_75]; exact t_sub p_73 (show (1 : Int32).toInt = 1 from rfl) (by omega) (by omega)
        refine lv_istore (lv' := [(9, .int x_75), (8, .int r_65), (7, .int v_i), (6, .int v_il), (5, .int v_so), (4, .int v_mo), (3, .int v_yr), (0, .ref (b + q)), (1, .int a_dy), (2, .int a_nm)]) hx hb dX0_nextNumbered_76 hl (by decide) rfl (fun ls hl => ?_)
        refine lv_iload_n hx hb dX0_nextNumbered_78 rfl (lv_at hl 9 rfl) ?_
        refine lv_iload hx hb dX0_nextNumbered_79 (lv_at hl 1 rfl) ?_
        refine lv_icmp_gt (tgt := 108) hx hb dX0_nextNumbered_81 (by decide) (fun c_81 => ?_) (fun c_81 => ?_)
        · skip
          have k_81 : (mlen ρ yr mo) < nm := (g_lt z_65 e_nm).mp c_81
          have hpast := nfM_past hO (d := dy) (num := nm) inv_42.1.1 inv_42.1.2.1.1 inv_42.1.2.1.2 (fun q => by omega)
          refine lv_iload hx hb dX0_nextNumbered_108 (lv_at hl 4 rfl) ?_
          refine lv_iload hx hb dX0_nextNumbered_110 (lv_at hl 1 rfl) ?_
          refine lv_iadd hx hb dX0_nextNumbered_112 ?_
          refine lv_topi (fun x_112 e_112 => ?_)
          have p_112 : x_112.toInt = (so + (mlen ρ yr mo)) := by rw [e_112]; exact t_add q_so z_65 (by omega) (by omega)
          refine lv_istore (lv' := [(5, .int x_112), (9, .int x_75), (8, .int r_65), (7, .int v_i), (6, .int v_il), (4, .int v_mo), (3, .int v_yr), (0, .ref (b + q)), (1, .int a_dy), (2, .int a_nm)]) hx hb dX0_nextNumbered_113 hl (by decide) rfl (fun ls hl => ?_)
          obtain ⟨x_115, e_115⟩ : ∃ z : Int32, z = (v_mo + 1) := ⟨_, rfl⟩
          have p_115 : x_115.toInt = (mo + 1) := by rw [e_115]; exact t_add q_mo (show (1 : Int32).toInt = 1 from rfl) (by omega) (by omega)
          refine lv_iinc (v := x_115) (lv' := [(4, .int x_115), (5, .int x_112), (9, .int x_75), (8, .int r_65), (7, .int v_i), (6, .int v_il), (3, .int v_yr), (0, .ref (b + q)), (1, .int a_dy), (2, .int a_nm)]) hx hb dX0_nextNumbered_115 hl (k := 5) rfl (by rw [e_115]; rfl) (by decide) rfl (fun ls hl => ?_)
          refine lv_iload hx hb dX0_nextNumbered_118 (lv_at hl 0 rfl) ?_
          refine lv_aload_n hx hb dX0_nextNumbered_120 rfl (lv_at hl 7 rfl) ?_
          refine lv_iload hx hb dX0_nextNumbered_121 (lv_at hl 5 rfl) ?_
          refine q_cPV X w (c_X0_monthCountIn l D t b n σ q L C K fl fc ρ hP yr v_il il q_il (by exact (g_eq q_il rfl).mpr inv_42.2.1)) v_X0_96 (k := q) hP.1 rfl rfl ⟨Nat.le_of_ble_eq_true rfl, Nat.le_of_ble_eq_true rfl⟩ rfl hl.1 (Nat.le_of_ble_eq_true rfl) dX0_nextNumbered_123 ⟨Nat.zero_le _, Nat.zero_le _⟩ (fun r_123 z_123 => ?_)
          refine lv_icmp_le (tgt := 142) hx hb dX0_nextNumbered_126 (by decide) (fun c_126 => ?_) (fun c_126 => ?_)
          · skip
            have k_126 : (mo + 1) ≤ (mcnt ρ yr) := (g_le p_115 z_123).mp c_126
            refine lv_iload_n hx hb dX0_nextNumbered_142 rfl (lv_at hl 6 rfl) ?_
            refine lv_sipush (v := 2000) hx hb dX0_nextNumbered_143 (by decide) ?_
            refine lv_icmp_le (tgt := 152) hx hb dX0_nextNumbered_146 (by decide) (fun c_146 => ?_) (fun c_146 => ?_)
            · skip
              have k_146 : yr ≤ 2000 := (g_le q_yr (show (2000 : Int32).toInt = 2000 from rfl)).mp c_146
              obtain ⟨x_152, e_152⟩ : ∃ z : Int32, z = (v_i + 1) := ⟨_, rfl⟩
              have p_152 : x_152.toInt = (i + 1) := by rw [e_152]; exact t_add q_i (show (1 : Int32).toInt = 1 from rfl) (by omega) (by omega)
              refine lv_iinc (v := x_152) (lv' := [(7, .int x_152), (4, .int x_115), (5, .int x_112), (9, .int x_75), (8, .int r_65), (6, .int v_il), (3, .int v_yr), (0, .ref (b + q)), (1, .int a_dy), (2, .int a_nm)]) hx hb dX0_nextNumbered_152 hl (k := 4) rfl (by rw [e_152]; rfl) (by decide) rfl (fun ls hl => ?_)
              refine lv_goto (tgt := 42) hx hb dX0_nextNumbered_155 (by decide) ?_
              refine ih_42 ⟨v_yr, x_115, x_112, v_il, x_152, yr, (mo + 1), (so + (mlen ρ yr mo)), il, (i + 1)⟩ ⟨q_yr, p_115, p_112, q_il, p_152, by dsimp only; have hn := dnum_next (ρ := ρ) (y := yr) (m := mo) inv_42.1.2.1.1; refine ⟨⟨by omega, by omega, by omega, by omega, by omega⟩, inv_42.2.1, by omega, ?_⟩; rw [inv_42.2.2.2, inv_42.2.2.1]; exact hpast⟩ (by dsimp only; omega) ls (lv_sub hl [0, 5, 2, 1, 6, 7, 8, 9] rfl)
            · skip
              have k_146 : ¬ (yr ≤ 2000) := fun h => c_146 ((g_le q_yr (show (2000 : Int32).toInt = 2000 from rfl)).mpr h)
              refine lv_ldc hx hb X.2.2.2.1 (X.2.2.1 _ kc_X0_121) dX0_nextNumbered_149 ?_
              exact q_pret X w dX0_nextNumbered_151 (by rw [inv_42.2.2.2, inv_42.2.2.1, hpast, nfM_out ?_]; exact rfl; have hn := dnum_year hO (y := yr) (m := mo) inv_42.1.2.1.1 (by omega); have hz := mxI_ge dy (dnum ρ yr mo 1 + mlen ρ yr mo); have e0 : dnum ρ (yr + 1) 1 1 = fst ρ (yr + 1) := (by unfold dnum; rw [show ((1 : Int) - 1).toNat = 0 from rfl, msum]; omega); rw [show yr + 1 = 2001 by omega] at e0 hn; omega)
          · skip
            have k_126 : ¬ ((mo + 1) ≤ (mcnt ρ yr)) := fun h => c_126 ((g_le p_115 z_123).mpr h)
            refine lv_iconst (v := 1) hx hb dX0_nextNumbered_129 (by decide) ?_
            refine lv_istore (lv' := [(4, .int 1), (5, .int x_112), (9, .int x_75), (8, .int r_65), (7, .int v_i), (6, .int v_il), (3, .int v_yr), (0, .ref (b + q)), (1, .int a_dy), (2, .int a_nm)]) hx hb dX0_nextNumbered_130 hl (by decide) rfl (fun ls hl => ?_)
            obtain ⟨x_132, e_132⟩ : ∃ z : Int32, z = (v_yr + 1) := ⟨_, rfl⟩
            have p_132 : x_132.toInt = (yr + 1) := by rw [e_132]; exact t_add q_yr (show (1 : Int32).toInt = 1 from rfl) (by omega) (by omega)
            refine lv_iinc (v := x_132) (lv' := [(3, .int x_132), (4, .int 1), (5, .int x_112), (9, .int x_75), (8, .int r_65), (7, .int v_i), (6, .int v_il), (0, .ref (b + q)), (1, .int a_dy), (2, .int a_nm)]) hx hb dX0_nextNumbered_132 hl (k := 6) rfl (by rw [e_132]; rfl) (by decide) rfl (fun ls hl => ?_)
            refine lv_aload_n hx hb dX0_nextNumbered_135 rfl (lv_at hl 7 rfl) ?_
            refine lv_iload_n hx hb dX0_nextNumbered_136 rfl (lv_at hl 0 rfl) ?_
            refine q_cPV X w (c_X0_leaps l D t b n σ q L C K fl fc ρ hP x_132 (yr + 1) p_132) v_X0_92 (k := q) hP.1 rfl rfl ⟨Nat.le_of_ble_eq_true rfl, Nat.le_of_ble_eq_true rfl⟩ rfl hl.1 (Nat.le_of_ble_eq_true rfl) dX0_nextNumbered_137 ⟨Nat.zero_le _, Nat.zero_le _⟩ (fun r_137 z_137 => ?_)
            refine lv_istore (lv' := [(6, .int r_137), (3, .int x_132), (4, .int 1), (5, .int x_112), (9, .int x_75), (8, .int r_65), (7, .int v_i), (0, .ref (b + q)), (1, .int a_dy), (2, .int a_nm)]) hx hb dX0_nextNumbered_140 hl (by decide) rfl (fun ls hl => ?_)
            refine lv_iload_n hx hb dX0_nextNumbered_142 rfl (lv_at hl 1 rfl) ?_
            refine lv_sipush (v := 2000) hx hb dX0_nextNumbered_143 (by decide) ?_
            refine lv_icmp_le (tgt := 152) hx hb dX0_nextNumbered_146 (by decide) (fun c_146 => ?_) (fun c_146 => ?_)
            · skip
              have k_146 : (yr + 1) ≤ 2000 := (g_le p_132 (show (2000 : Int32).toInt = 2000 from rfl)).mp c_146
              obtain ⟨x_152, e_152⟩ : ∃ z : Int32, z = (v_i + 1) := ⟨_, rfl⟩
              have p_152 : x_152.toInt = (i + 1) := by rw [e_152]; exact t_add q_i (show (1 : Int32).toInt = 1 from rfl) (by omega) (by omega)
              refine lv_iinc (v := x_152) (lv' := [(7, .int x_152), (6, .int r_137), (3, .int x_132), (4, .int 1), (5, .int x_112), (9, .int x_75), (8, .int r_65), (0, .ref (b + q)), (1, .int a_dy), (2, .int a_nm)]) hx hb dX0_nextNumbered_152 hl (k := 6) rfl (by rw [e_152]; rfl) (by decide) rfl (fun ls hl => ?_)
              refine lv_goto (tgt := 42) hx hb dX0_nextNumbered_155 (by decide) ?_
              refine ih_42 ⟨x_132, 1, x_112, r_137, x_152, (yr + 1), 1, (so + (mlen ρ yr mo)), (r_137).toInt, (i + 1)⟩ ⟨p_132, (show (1 : Int32).toInt = 1 from rfl), p_112, rfl, p_152, by dsimp only; have hn := dnum_year hO (y := yr) (m := mo) inv_42.1.2.1.1 (by omega); have hmb2 := mcnt_bd hO (yr + 1); refine ⟨⟨by omega, by omega, by omega, by omega, by omega⟩, congrArg Int32.toInt z_137, by omega, ?_⟩; rw [inv_42.2.2.2, inv_42.2.2.1]; exact hpast⟩ (by dsimp only; omega) ls (lv_sub hl [0, 1, 4, 3, 2, 7, 8, 9] rfl)
            · skip
              have k_146 : ¬ ((yr + 1) ≤ 2000) := fun h => c_146 ((g_le p_132 (show (2000 : Int32).toInt = 2000 from rfl)).mpr h)
              refine lv_ldc hx hb X.2.2.2.1 (X.2.2.1 _ kc_X0_121) dX0_nextNumbered_149 ?_
              exact q_pret X w dX0_nextNumbered_151 (by rw [inv_42.2.2.2, inv_42.2.2.1, hpast, nfM_out ?_]; exact rfl; have hn := dnum_year hO (y := yr) (m := mo) inv_42.1.2.1.1 (by omega); have hz := mxI_ge dy (dnum ρ yr mo 1 + mlen ρ yr mo); have e0 : dnum ρ (yr + 1) 1 1 = fst ρ (yr + 1) := (by unfold dnum; rw [show ((1 : Int) - 1).toNat = 0 from rfl, msum]; omega); rw [show yr + 1 = 2001 by omega] at e0 hn; omega)
        · skip
          have k_81 : ¬ ((mlen ρ yr mo) < nm) := fun h => c_81 ((g_lt z_65 e_nm).mpr h)
          refine lv_iload hx hb dX0_nextNumbered_84 (lv_at hl 0 rfl) ?_
          refine lv_iload_n hx hb dX0_nextNumbered_86 rfl (lv_at hl 8 rfl) ?_
          refine lv_icmp_lt (tgt := 108) hx hb dX0_nextNumbered_87 (by decide) (fun c_87 => ?_) (fun c_87 => ?_)
          · skip
            have k_87 : ((so + nm) - 1) < dy := (g_lt p_75 e_dy).mp c_87
            have hpast := nfM_past hO (d := dy) (num := nm) inv_42.1.1 inv_42.1.2.1.1 inv_42.1.2.1.2 (fun q => by omega)
            refine lv_iload hx hb dX0_nextNumbered_108 (lv_at hl 4 rfl) ?_
            refine lv_iload hx hb dX0_nextNumbered_110 (lv_at hl 1 rfl) ?_
            refine lv_iadd hx hb dX0_nextNumbered_112 ?_
            refine lv_topi (fun x_112 e_112 => ?_)
            have p_112 : x_112.toInt = (so + (mlen ρ yr mo)) := by rw [e_112]; exact t_add q_so z_65 (by omega) (by omega)
            refine lv_istore (lv' := [(5, .int x_112), (9, .int x_75), (8, .int r_65), (7, .int v_i), (6, .int v_il), (4, .int v_mo), (3, .int v_yr), (0, .ref (b + q)), (1, .int a_dy), (2, .int a_nm)]) hx hb dX0_nextNumbered_113 hl (by decide) rfl (fun ls hl => ?_)
            obtain ⟨x_115, e_115⟩ : ∃ z : Int32, z = (v_mo + 1) := ⟨_, rfl⟩
            have p_115 : x_115.toInt = (mo + 1) := by rw [e_115]; exact t_add q_mo (show (1 : Int32).toInt = 1 from rfl) (by omega) (by omega)
            refine lv_iinc (v := x_115) (lv' := [(4, .int x_115), (5, .int x_112), (9, .int x_75), (8, .int r_65), (7, .int v_i), (6, .int v_il), (3, .int v_yr), (0, .ref (b + q)), (1, .int a_dy), (2, .int a_nm)]) hx hb dX0_nextNumbered_115 hl (k := 5) rfl (by rw [e_115]; rfl) (by decide) rfl (fun ls hl => ?_)
            refine lv_iload hx hb dX0_nextNumbered_118 (lv_at hl 0 rfl) ?_
            refine lv_aload_n hx hb dX0_nextNumbered_120 rfl (lv_at hl 7 rfl) ?_
            refine lv_iload hx hb dX0_nextNumbered_121 (lv_at hl 5 rfl) ?_
            refine q_cPV X w (c_X0_monthCountIn l D t b n σ q L C K fl fc ρ hP yr v_il il q_il (by exact (g_eq q_il rfl).mpr inv_42.2.1)) v_X0_96 (k := q) hP.1 rfl rfl ⟨Nat.le_of_ble_eq_true rfl, Nat.le_of_ble_eq_true rfl⟩ rfl hl.1 (Nat.le_of_ble_eq_true rfl) dX0_nextNumbered_123 ⟨Nat.zero_le _, Nat.zero_le _⟩ (fun r_123 z_123 => ?_)
            refine lv_icmp_le (tgt := 142) hx hb dX0_nextNumbered_126 (by decide) (fun c_126 => ?_) (fun c_126 => ?_)
            · skip
              have k_126 : (mo + 1) ≤ (mcnt ρ yr) := (g_le p_115 z_123).mp c_126
              refine lv_iload_n hx hb dX0_nextNumbered_142 rfl (lv_at hl 6 rfl) ?_
              refine lv_sipush (v := 2000) hx hb dX0_nextNumbered_143 (by decide) ?_
              refine lv_icmp_le (tgt := 152) hx hb dX0_nextNumbered_146 (by decide) (fun c_146 => ?_) (fun c_146 => ?_)
              · skip
                have k_146 : yr ≤ 2000 := (g_le q_yr (show (2000 : Int32).toInt = 2000 from rfl)).mp c_146
                obtain ⟨x_152, e_152⟩ : ∃ z : Int32, z = (v_i + 1) := ⟨_, rfl⟩
                have p_152 : x_152.toInt = (i + 1) := by rw [e_152]; exact t_add q_i (show (1 : Int32).toInt = 1 from rfl) (by omega) (by omega)
                refine lv_iinc (v := x_152) (lv' := [(7, .int x_152), (4, .int x_115), (5, .int x_112), (9, .int x_75), (8, .int r_65), (6, .int v_il), (3, .int v_yr), (0, .ref (b + q)), (1, .int a_dy), (2, .int a_nm)]) hx hb dX0_nextNumbered_152 hl (k := 4) rfl (by rw [e_152]; rfl) (by decide) rfl (fun ls hl => ?_)
                refine lv_goto (tgt := 42) hx hb dX0_nextNumbered_155 (by decide) ?_
                refine ih_42 ⟨v_yr, x_115, x_112, v_il, x_152, yr, (mo + 1), (so + (mlen ρ yr mo)), il, (i + 1)⟩ ⟨q_yr, p_115, p_112, q_il, p_152, by dsimp only; have hn := dnum_next (ρ := ρ) (y := yr) (m := mo) inv_42.1.2.1.1; refine ⟨⟨by omega, by omega, by omega, by omega, by omega⟩, inv_42.2.1, by omega, ?_⟩; rw [inv_42.2.2.2, inv_42.2.2.1]; exact hpast⟩ (by dsimp only; omega) ls (lv_sub hl [0, 5, 2, 1, 6, 7, 8, 9] rfl)
              · skip
                have k_146 : ¬ (yr ≤ 2000) := fun h => c_146 ((g_le q_yr (show (2000 : Int32).toInt = 2000 from rfl)).mpr h)
                refine lv_ldc hx hb X.2.2.2.1 (X.2.2.1 _ kc_X0_121) dX0_nextNumbered_149 ?_
                exact q_pret X w dX0_nextNumbered_151 (by rw [inv_42.2.2.2, inv_42.2.2.1, hpast, nfM_out ?_]; exact rfl; have hn := dnum_year hO (y := yr) (m := mo) inv_42.1.2.1.1 (by omega); have hz := mxI_ge dy (dnum ρ yr mo 1 + mlen ρ yr mo); have e0 : dnum ρ (yr + 1) 1 1 = fst ρ (yr + 1) := (by unfold dnum; rw [show ((1 : Int) - 1).toNat = 0 from rfl, msum]; omega); rw [show yr + 1 = 2001 by omega] at e0 hn; omega)
            · skip
              have k_126 : ¬ ((mo + 1) ≤ (mcnt ρ yr)) := fun h => c_126 ((g_le p_115 z_123).mpr h)
              refine lv_iconst (v := 1) hx hb dX0_nextNumbered_129 (by decide) ?_
              refine lv_istore (lv' := [(4, .int 1), (5, .int x_112), (9, .int x_75), (8, .int r_65), (7, .int v_i), (6, .int v_il), (3, .int v_yr), (0, .ref (b + q)), (1, .int a_dy), (2, .int a_nm)]) hx hb dX0_nextNumbered_130 hl (by decide) rfl (fun ls hl => ?_)
              obtain ⟨x_132, e_132⟩ : ∃ z : Int32, z = (v_yr + 1) := ⟨_, rfl⟩
              have p_132 : x_132.toInt = (yr + 1) := by rw [e_132]; exact t_add q_yr (show (1 : Int32).toInt = 1 from rfl) (by omega) (by omega)
              refine lv_iinc (v := x_132) (lv' := [(3, .int x_132), (4, .int 1), (5, .int x_112), (9, .int x_75), (8, .int r_65), (7, .int v_i), (6, .int v_il), (0, .ref (b + q)), (1, .int a_dy), (2, .int a_nm)]) hx hb dX0_nextNumbered_132 hl (k := 6) rfl (by rw [e_132]; rfl) (by decide) rfl (fun ls hl => ?_)
              refine lv_aload_n hx hb dX0_nextNumbered_135 rfl (lv_at hl 7 rfl) ?_
              refine lv_iload_n hx hb dX0_nextNumbered_136 rfl (lv_at hl 0 rfl) ?_
              refine q_cPV X w (c_X0_leaps l D t b n σ q L C K fl fc ρ hP x_132 (yr + 1) p_132) v_X0_92 (k := q) hP.1 rfl rfl ⟨Nat.le_of_ble_eq_true rfl, Nat.le_of_ble_eq_true rfl⟩ rfl hl.1 (Nat.le_of_ble_eq_true rfl) dX0_nextNumbered_137 ⟨Nat.zero_le _, Nat.zero_le _⟩ (fun r_137 z_137 => ?_)
              refine lv_istore (lv' := [(6, .int r_137), (3, .int x_132), (4, .int 1), (5, .int x_112), (9, .int x_75), (8, .int r_65), (7, .int v_i), (0, .ref (b + q)), (1, .int a_dy), (2, .int a_nm)]) hx hb dX0_nextNumbered_140 hl (by decide) rfl (fun ls hl => ?_)
              refine lv_iload_n hx hb dX0_nextNumbered_142 rfl (lv_at hl 1 rfl) ?_
              refine lv_sipush (v := 2000) hx hb dX0_nextNumbered_143 (by decide) ?_
              refine lv_icmp_le (tgt := 152) hx hb dX0_nextNumbered_146 (by decide) (fun c_146 => ?_) (fun c_146 => ?_)
              · skip
                have k_146 : (yr + 1) ≤ 2000 := (g_le p_132 (show (2000 : Int32).toInt = 2000 from rfl)).mp c_146
                obtain ⟨x_152, e_152⟩ : ∃ z : Int32, z = (v_i + 1) := ⟨_, rfl⟩
                have p_152 : x_152.toInt = (i + 1) := by rw [e_152]; exact t_add q_i (show (1 : Int32).toInt = 1 from rfl) (by omega) (by omega)
                refine lv_iinc (v := x_152) (lv' := [(7, .int x_152), (6, .int r_137), (3, .int x_132), (4, .int 1), (5, .int x_112), (9, .int x_75), (8, .int r_65), (0, .ref (b + q)), (1, .int a_dy), (2, .int a_nm)]) hx hb dX0_nextNumbered_152 hl (k := 6) rfl (by rw [e_152]; rfl) (by decide) rfl (fun ls hl => ?_)
                refine lv_goto (tgt := 42) hx hb dX0_nextNumbered_155 (by decide) ?_
                refine ih_42 ⟨x_132, 1, x_112, r_137, x_152, (yr + 1), 1, (so + (mlen ρ yr mo)), (r_137).toInt, (i + 1)⟩ ⟨p_132, (show (1 : Int32).toInt = 1 from rfl), p_112, rfl, p_152, by dsimp only; have hn := dnum_year hO (y := yr) (m := mo) inv_42.1.2.1.1 (by omega); have hmb2 := mcnt_bd hO (yr + 1); refine ⟨⟨by omega, by omega, by omega, by omega, by omega⟩, congrArg Int32.toInt z_137, by omega, ?_⟩; rw [inv_42.2.2.2, inv_42.2.2.1]; exact hpast⟩ (by dsimp only; omega) ls (lv_sub hl [0, 1, 4, 3, 2, 7, 8, 9] rfl)
              · skip
                have k_146 : ¬ ((yr + 1) ≤ 2000) := fun h => c_146 ((g_le p_132 (show (2000 : Int32).toInt = 2000 from rfl)).mpr h)
                refine lv_ldc hx hb X.2.2.2.1 (X.2.2.1 _ kc_X0_121) dX0_nextNumbered_149 ?_
                exact q_pret X w dX0_nextNumbered_151 (by rw [inv_42.2.2.2, inv_42.2.2.1, hpast, nfM_out ?_]; exact rfl; have hn := dnum_year hO (y := yr) (m := mo) inv_42.1.2.1.1 (by omega); have hz := mxI_ge dy (dnum ρ yr mo 1 + mlen ρ yr mo); have e0 : dnum ρ (yr + 1) 1 1 = fst ρ (yr + 1) := (by unfold dnum; rw [show ((1 : Int) - 1).toNat = 0 from rfl, msum]; omega); rw [show yr + 1 = 2001 by omega] at e0 hn; omega)
          · skip
            have k_87 : ¬ (((so + nm) - 1) < dy) := fun h => c_87 ((g_lt p_75 e_dy).mpr h)
            refine lv_iload hx hb dX0_nextNumbered_90 (lv_at hl 0 rfl) ?_
            refine lv_iload_n hx hb dX0_nextNumbered_92 rfl (lv_at hl 8 rfl) ?_
            refine lv_sipush (v := 400) hx hb dX0_nextNumbered_93 (by decide) ?_
            refine lv_iadd hx hb dX0_nextNumbered_96 ?_
            refine lv_topi (fun x_96 e_96 => ?_)
            have p_96 : x_96.toInt = (dy + 400) := by rw [e_96]; exact t_add e_dy (show (400 : Int32).toInt = 400 from rfl) (by omega) (by omega)
            refine lv_icmp_ge (tgt := 105) hx hb dX0_nextNumbered_97 (by decide) (fun c_97 => ?_) (fun c_97 => ?_)
            · skip
              have k_97 : (dy + 400) ≤ ((so + nm) - 1) := (g_le p_96 p_75).mp c_97
              refine lv_ldc hx hb X.2.2.2.1 (X.2.2.1 _ kc_X0_121) dX0_nextNumbered_105 ?_
              exact q_pret X w dX0_nextNumbered_107 (by have hf := nfM_found hO (d := dy) (num := nm) inv_42.1.1 inv_42.1.2.1.1 inv_42.1.2.1.2 h_2.1 (by omega) (by omega); rw [inv_42.2.2.2, inv_42.2.2.1, hf, if_neg (by omega)]; rfl)
            · skip
              have k_97 : ¬ ((dy + 400) ≤ ((so + nm) - 1)) := fun h => c_97 ((g_le p_96 p_75).mpr h)
              refine lv_iload hx hb dX0_nextNumbered_100 (lv_at hl 0 rfl) ?_
              refine lv_goto (tgt := 107) hx hb dX0_nextNumbered_102 (by decide) ?_
              exact q_pret X w dX0_nextNumbered_107 (by have hf := nfM_found hO (d := dy) (num := nm) inv_42.1.1 inv_42.1.2.1.1 inv_42.1.2.1.2 h_2.1 (by omega) (by omega); rw [inv_42.2.2.2, inv_42.2.2.1, hf, if_pos (by omega), toC_d (by omega)]; exact p_75.trans (by omega))
  · skip
    have k_9 : (yoc ρ dy) = (-2147483648) := (g_eq z_2 (show ((-2147483648) : Int32).toInt = (-2147483648) from rfl)).mp c_9
    refine lv_ldc hx hb X.2.2.2.1 (X.2.2.1 _ kc_X0_121) dX0_nextNumbered_12 ?_
    exact q_pret X w dX0_nextNumbered_14 (by rw [toC_n (by unfold nfrom; rw [show (400 : Nat) = 399 + 1 from rfl, nfN, if_neg ((yoc_iff hO).mp k_9)])]; rfl)

set_option maxHeartbeats 4000000 in
set_option maxRecDepth 100000 in
theorem c_X0_describe (l : Launch) (D : va_G) (t : Nat → ClassId) (b n : Nat) (σ : qM) (q L C : Nat) (K fl fc : Nat → Int32) (ρ : Row) (hP : CalP t b σ q L C K fl fc ρ) (a_pt : Int32) (pt : Int) (e_pt : a_pt.toInt = pt) (h_1 : 0 ≤ pt ∧ pt ≤ 7) : qP l yX0_describe cX0_describe 2 (some .int) 0 D t b n σ [.ref (b + q), .int a_pt] (fun z => z.toInt = calp ρ pt) := by
  refine qP.of (by decide +kernel) (Nat.le_of_ble_eq_true rfl) (fun p e s m args below meth c X w ls hl => ?_)
  have hx := X.1
  have hb := X.2.1
  have hl : lv_has ls 2 [(0, .ref (b + q)), (1, .int a_pt)] := hl
  obtain ⟨hO, hR, k1, k2, k3, k4, k5, k6, k7, k9, k10, k11, k12, k13, k14, kl, kc⟩ := hP.2.2.2
  have hm := hO.months
  have hrb := reps_bd hO hR
  refine lv_iload_n hx hb dX0_describe_0 rfl (lv_at hl 1 rfl) ?_
  by_cases s_0 : pt = 0
  · refine lv_tableIn (tgt := 44) hx hb dX0_describe_1 (by rw [e_pt, s_0]; decide) (by rw [e_pt, s_0]; decide) (by rw [e_pt, s_0]; rfl) (by decide) ?_
    refine lv_aload_n hx hb dX0_describe_44 rfl (lv_at hl 0 rfl) ?_
    refine cg_lengths X w hP dX0_describe_45 ?_
    refine cn_lengths X w hP dX0_describe_48 ?_
    exact q_pret X w dX0_describe_49 (by unfold calp; rw [if_pos s_0]; exact ((ofN_t (by omega)).trans (by omega)))
  by_cases s_1 : pt = 1
  · refine lv_tableIn (tgt := 50) hx hb dX0_describe_1 (by rw [e_pt, s_1]; decide) (by rw [e_pt, s_1]; decide) (by rw [e_pt, s_1]; rfl) (by decide) ?_
    refine lv_aload_n hx hb dX0_describe_50 rfl (lv_at hl 0 rfl) ?_
    refine cg_first X w hP dX0_describe_51 ?_
    exact q_pret X w dX0_describe_54 (by unfold calp; rw [if_neg s_0, if_pos s_1]; exact k2)
  by_cases s_2 : pt = 2
  · refine lv_tableIn (tgt := 55) hx hb dX0_describe_1 (by rw [e_pt, s_2]; decide) (by rw [e_pt, s_2]; decide) (by rw [e_pt, s_2]; rfl) (by decide) ?_
    refine lv_aload_n hx hb dX0_describe_55 rfl (lv_at hl 0 rfl) ?_
    refine cg_leap X w hP dX0_describe_56 ?_
    exact q_pret X w dX0_describe_59 (by unfold calp; rw [if_neg s_0, if_neg s_1, if_pos s_2]; exact k3)
  by_cases s_3 : pt = 3
  · refine lv_tableIn (tgt := 60) hx hb dX0_describe_1 (by rw [e_pt, s_3]; decide) (by rw [e_pt, s_3]; decide) (by rw [e_pt, s_3]; rfl) (by decide) ?_
    refine lv_aload_n hx hb dX0_describe_60 rfl (lv_at hl 0 rfl) ?_
    refine cg_rule X w hP dX0_describe_61 ?_
    exact q_pret X w dX0_describe_64 (by unfold calp; rw [if_neg s_0, if_neg s_1, if_neg s_2, if_pos s_3]; exact k6)
  by_cases s_4 : pt = 4
  · refine lv_tableIn (tgt := 65) hx hb dX0_describe_1 (by rw [e_pt, s_4]; decide) (by rw [e_pt, s_4]; decide) (by rw [e_pt, s_4]; rfl) (by decide) ?_
    refine lv_aload_n hx hb dX0_describe_65 rfl (lv_at hl 0 rfl) ?_
    refine cg_weekLength X w hP dX0_describe_66 ?_
    exact q_pret X w dX0_describe_69 (by unfold calp; rw [k9, if_neg s_0, if_neg s_1, if_neg s_2, if_neg s_3, if_neg (show ¬ pt = 7 by omega), s_4]; rfl)
  by_cases s_5 : pt = 5
  · refine lv_tableIn (tgt := 70) hx hb dX0_describe_1 (by rw [e_pt, s_5]; decide) (by rw [e_pt, s_5]; decide) (by rw [e_pt, s_5]; rfl) (by decide) ?_
    refine lv_aload_n hx hb dX0_describe_70 rfl (lv_at hl 0 rfl) ?_
    refine cg_zeroWeekday X w hP dX0_describe_71 ?_
    exact q_pret X w dX0_describe_74 (by unfold calp; rw [k10, if_neg s_0, if_neg s_1, if_neg s_2, if_neg s_3, if_neg (show ¬ pt = 7 by omega), s_5]; rfl)
  by_cases s_6 : pt = 6
  · refine lv_tableIn (tgt := 75) hx hb dX0_describe_1 (by rw [e_pt, s_6]; decide) (by rw [e_pt, s_6]; decide) (by rw [e_pt, s_6]; rfl) (by decide) ?_
    refine lv_aload_n hx hb dX0_describe_75 rfl (lv_at hl 0 rfl) ?_
    refine cg_weekDay X w hP dX0_describe_76 ?_
    exact q_pret X w dX0_describe_79 (by unfold calp; rw [k11, if_neg s_0, if_neg s_1, if_neg s_2, if_neg s_3, if_neg (show ¬ pt = 7 by omega), s_6]; rfl)
  refine lv_tableOut (tgt := 80) hx hb dX0_describe_1 (by rw [e_pt]; omega) (by decide) ?_
  refine lv_aload_n hx hb dX0_describe_80 rfl (lv_at hl 0 rfl) ?_
  refine cg_period X w hP dX0_describe_81 ?_
  exact q_pret X w dX0_describe_84 (by unfold calp; rw [if_neg s_0, if_neg s_1, if_neg s_2, if_neg s_3, if_pos (show pt = 7 by omega)]; exact k7)

set_option maxHeartbeats 4000000 in
set_option maxRecDepth 100000 in
theorem c_X0_commonMonths (l : Launch) (D : va_G) (t : Nat → ClassId) (b n : Nat) (σ : qM) (q L C : Nat) (K fl fc : Nat → Int32) (ρ : Row) (hP : CalP t b σ q L C K fl fc ρ) : qP l yX0_commonMonths cX0_commonMonths 1 (some .int) 0 D t b n σ [.ref (b + q)] (fun z => z.toInt = rv ρ 0) := by
  refine qP.of (by decide +kernel) (Nat.le_of_ble_eq_true rfl) (fun p e s m args below meth c X w ls hl => ?_)
  have hx := X.1
  have hb := X.2.1
  have hl : lv_has ls 1 [(0, .ref (b + q))] := hl
  obtain ⟨hO, hR, k1, k2, k3, k4, k5, k6, k7, k9, k10, k11, k12, k13, k14, kl, kc⟩ := hP.2.2.2
  have hm := hO.months
  have hrb := reps_bd hO hR
  refine lv_aload_n hx hb dX0_commonMonths_0 rfl (lv_at hl 0 rfl) ?_
  refine cg_lengths X w hP dX0_commonMonths_1 ?_
  refine cn_lengths X w hP dX0_commonMonths_4 ?_
  exact q_pret X w dX0_commonMonths_5 (by exact ((ofN_t (by omega)).trans (by omega)))
