set_option maxHeartbeats 4000000 in
set_option maxRecDepth 100000 in
theorem c_X0_leaps (l : Launch) (D : va_G) (t : Nat → ClassId) (b n : Nat) (σ : qM) (q L C : Nat) (K fl fc : Nat → Int32) (ρ : Row) (hP : CalP t b σ q L C K fl fc ρ) (a_yr : Int32) (yr : Int) (e_yr : a_yr.toInt = yr) : qP l yX0_leaps cX0_leaps 3 (some .boolean) 1 D t b n σ [.ref (b + q), .int a_yr] (fun z => z = bI (decide (leap ρ yr = true))) := by
  refine qP.of (by decide +kernel) (Nat.le_of_ble_eq_true rfl) (fun p e s m args below meth c X w ls hl => ?_)
  have hx := X.1
  have hb := X.2.1
  have hl : lv_has ls 3 [(0, .ref (b + q)), (1, .int a_yr)] := hl
  obtain ⟨hO, hR, k1, k2, k3, k4, k5, k6, k7, k9, k10, k11, k12, k13, k14, kl, kc⟩ := hP.2.2.2
  have hm := hO.months
  have hrb := reps_bd hO hR
  refine lv_aload_n hx hb dX0_leaps_0 rfl (lv_at hl 0 rfl) ?_
  refine cg_period X w hP dX0_leaps_1 ?_
  refine lv_if_le (tgt := 18) hx hb dX0_leaps_4 (by decide) (fun c_4 => ?_) (fun c_4 => ?_)
  · skip
    have k_4 : (reps ρ) ≤ 0 := (g_le k7 (show (0 : Int32).toInt = 0 from rfl)).mp c_4
    exfalso; omega
  · skip
    have k_4 : ¬ ((reps ρ) ≤ 0) := fun h => c_4 ((g_le k7 (show (0 : Int32).toInt = 0 from rfl)).mpr h)
    refine lv_iload_n hx hb dX0_leaps_7 rfl (lv_at hl 1 rfl) ?_
    refine lv_aload_n hx hb dX0_leaps_8 rfl (lv_at hl 0 rfl) ?_
    refine cg_period X w hP dX0_leaps_9 ?_
    refine q_cPS X w (c_J9_floorMod_7cf53 l a_yr (K 7) yr (reps ρ) e_yr k7 (by first | assumption | omega) D t b n _) v_X0_86 rfl ⟨Nat.le_of_ble_eq_true rfl, Nat.le_of_ble_eq_true rfl⟩ rfl hl.1 (Nat.le_of_ble_eq_true rfl) dX0_leaps_12 ⟨Nat.zero_le _, Nat.zero_le _⟩ (fun r_12 z_12 => ?_)
    refine lv_goto (tgt := 19) hx hb dX0_leaps_15 (by decide) ?_
    refine lv_istore_n (lv' := [(2, .int r_12), (0, .ref (b + q)), (1, .int a_yr)]) hx hb dX0_leaps_19 rfl hl (by decide) rfl (fun ls hl => ?_)
    refine lv_iload_n hx hb dX0_leaps_20 rfl (lv_at hl 0 rfl) ?_
    have hm0 := Int.emod_nonneg yr (show reps ρ ≠ 0 from hR)
    refine lv_if_lt (tgt := 35) hx hb dX0_leaps_21 (by decide) (fun c_21 => ?_) (fun c_21 => ?_)
    · skip
      have k_21 : (yr % (reps ρ)) < 0 := (g_lt z_12 (show (0 : Int32).toInt = 0 from rfl)).mp c_21
      exfalso; omega
    · skip
      have k_21 : ¬ ((yr % (reps ρ)) < 0) := fun h => c_21 ((g_lt z_12 (show (0 : Int32).toInt = 0 from rfl)).mpr h)
      have hm0 := Int.emod_nonneg yr (show reps ρ ≠ 0 from hR)
      have hm1 := Int.emod_lt_of_pos yr (show 0 < reps ρ by omega)
      refine lv_iload_n hx hb dX0_leaps_24 rfl (lv_at hl 0 rfl) ?_
      refine lv_iconst (v := 1) hx hb dX0_leaps_25 (by decide) ?_
      refine lv_iadd hx hb dX0_leaps_26 ?_
      refine lv_topi (fun x_26 e_26 => ?_)
      have p_26 : x_26.toInt = ((yr % (reps ρ)) + 1) := by rw [e_26]; exact t_add z_12 (show (1 : Int32).toInt = 1 from rfl) (by omega) (by omega)
      refine lv_aload_n hx hb dX0_leaps_27 rfl (lv_at hl 1 rfl) ?_
      refine cg_leapCounts X w hP dX0_leaps_28 ?_
      refine cn_leapCounts X w hP dX0_leaps_31 ?_
      have hm1 := Int.emod_lt_of_pos yr (show 0 < reps ρ by omega)
      refine lv_icmp_lt (tgt := 37) hx hb dX0_leaps_32 (by decide) (fun c_32 => ?_) (fun c_32 => ?_)
      · skip
        have k_32 : ((yr % (reps ρ)) + 1) < (reps ρ + 1) := (g_lt p_26 ((ofN_t (by omega)).trans (by omega))).mp c_32
        refine lv_aload_n hx hb dX0_leaps_37 rfl (lv_at hl 1 rfl) ?_
        refine cg_leapCounts X w hP dX0_leaps_38 ?_
        refine lv_iload_n hx hb dX0_leaps_41 rfl (lv_at hl 0 rfl) ?_
        refine lv_iconst (v := 1) hx hb dX0_leaps_42 (by decide) ?_
        refine lv_iadd hx hb dX0_leaps_43 ?_
        refine lv_topi (fun x_43 e_43 => ?_)
        have p_43 : x_43.toInt = ((yr % (reps ρ)) + 1) := by rw [e_43]; exact t_add z_12 (show (1 : Int32).toInt = 1 from rfl) (by omega) (by omega)
        refine cl_leapCounts X w hP (g_in p_43 (by omega)) dX0_leaps_44 ?_
        refine q_topE (y := fc ((yr % (reps ρ)) + 1).toNat) (congrArg fc (g_tn p_43)) ?_
        refine lv_aload_n hx hb dX0_leaps_45 rfl (lv_at hl 1 rfl) ?_
        refine cg_leapCounts X w hP dX0_leaps_46 ?_
        refine lv_iload_n hx hb dX0_leaps_49 rfl (lv_at hl 0 rfl) ?_
        refine cl_leapCounts X w hP (g_in z_12 (by omega)) dX0_leaps_50 ?_
        refine q_topE (y := fc (yr % (reps ρ)).toNat) (congrArg fc (g_tn z_12)) ?_
        have hs : lcN ρ (yr % reps ρ + 1).toNat = lcN ρ (yr % reps ρ).toNat + (if leap ρ yr = true then 1 else 0) := by rw [show (yr % reps ρ + 1).toNat = (yr % reps ρ).toNat + 1 by omega, lcN, show (((yr % reps ρ).toNat : Nat) : Int) = yr % reps ρ by omega, leap_per hO hR yr]
        refine lv_icmp_le (tgt := 58) hx hb dX0_leaps_51 (by decide) (fun c_51 => ?_) (fun c_51 => ?_)
        · skip
          have k_51 : (lcN ρ (((yr % (reps ρ)) + 1)).toNat) ≤ (lcN ρ ((yr % (reps ρ))).toNat) := (g_le (kc ((yr % (reps ρ)) + 1) (by omega) (by omega)) (kc (yr % (reps ρ)) (by omega) (by omega))).mp c_51
          refine lv_iconst (v := 0) hx hb dX0_leaps_58 (by decide) ?_
          exact q_pretz X w dX0_leaps_59 (rfl) (by exact bI_0 (fun y => by rw [if_pos y] at hs; omega))
        · skip
          have k_51 : ¬ ((lcN ρ (((yr % (reps ρ)) + 1)).toNat) ≤ (lcN ρ ((yr % (reps ρ))).toNat)) := fun h => c_51 ((g_le (kc ((yr % (reps ρ)) + 1) (by omega) (by omega)) (kc (yr % (reps ρ)) (by omega) (by omega))).mpr h)
          refine lv_iconst (v := 1) hx hb dX0_leaps_54 (by decide) ?_
          refine lv_goto (tgt := 59) hx hb dX0_leaps_55 (by decide) ?_
          exact q_pretz X w dX0_leaps_59 (rfl) (by exact bI_1 (by by_cases y : leap ρ yr = true; exact y; (rw [if_neg y] at hs; omega)))
      · skip
        have k_32 : ¬ (((yr % (reps ρ)) + 1) < (reps ρ + 1)) := fun h => c_32 ((g_lt p_26 ((ofN_t (by omega)).trans (by omega))).mpr h)
        exfalso; omega

set_option maxHeartbeats 4000000 in
set_option maxRecDepth 100000 in
theorem c_X0_leapYearsBefore (l : Launch) (D : va_G) (t : Nat → ClassId) (b n : Nat) (σ : qM) (q L C : Nat) (K fl fc : Nat → Int32) (ρ : Row) (hP : CalP t b σ q L C K fl fc ρ) (a_yr : Int32) (yr : Int) (e_yr : a_yr.toInt = yr) (h_1 : -3000 ≤ yr ∧ yr ≤ 3000) : qP l yX0_leapYearsBefore cX0_leapYearsBefore 4 (some .int) 2 D t b n σ [.ref (b + q), .int a_yr] (fun z => z.toInt = lpb ρ yr) := by
  refine qP.of (by decide +kernel) (Nat.le_of_ble_eq_true rfl) (fun p e s m args below meth c X w ls hl => ?_)
  have hx := X.1
  have hb := X.2.1
  have hl : lv_has ls 4 [(0, .ref (b + q)), (1, .int a_yr)] := hl
  obtain ⟨hO, hR, k1, k2, k3, k4, k5, k6, k7, k9, k10, k11, k12, k13, k14, kl, kc⟩ := hP.2.2.2
  have hm := hO.months
  have hrb := reps_bd hO hR
  have hm0 := Int.emod_nonneg yr (show reps ρ ≠ 0 from hR)
  have hm1 := Int.emod_lt_of_pos yr (show 0 < reps ρ by omega)
  have hdv := Int.emod_add_mul_ediv yr (reps ρ)
  have hcm := Int.mul_comm (reps ρ) (yr / reps ρ)
  have hdb := ediv_b h_1 hrb.1
  have hlc := lcN_bd ρ (reps ρ).toNat
  have hlr := lcN_bd ρ (yr % reps ρ).toNat
  have hlr2 := lcN_bd ρ (yr - yr / reps ρ * reps ρ).toNat
  have hmb := mulb (x := yr / reps ρ) (y := lcN ρ (reps ρ).toNat) hdb (by omega)
  refine lv_aload_n hx hb dX0_leapYearsBefore_0 rfl (lv_at hl 0 rfl) ?_
  refine cg_period X w hP dX0_leapYearsBefore_1 ?_
  refine lv_iconst (v := 1) hx hb dX0_leapYearsBefore_4 (by decide) ?_
  refine lv_icmp_lt (tgt := 20) hx hb dX0_leapYearsBefore_5 (by decide) (fun c_5 => ?_) (fun c_5 => ?_)
  · skip
    have k_5 : (reps ρ) < 1 := (g_lt k7 (show (1 : Int32).toInt = 1 from rfl)).mp c_5
    exfalso; omega
  · skip
    have k_5 : ¬ ((reps ρ) < 1) := fun h => c_5 ((g_lt k7 (show (1 : Int32).toInt = 1 from rfl)).mpr h)
    refine lv_aload_n hx hb dX0_leapYearsBefore_8 rfl (lv_at hl 0 rfl) ?_
    refine cg_period X w hP dX0_leapYearsBefore_9 ?_
    refine lv_aload_n hx hb dX0_leapYearsBefore_12 rfl (lv_at hl 0 rfl) ?_
    refine cg_leapCounts X w hP dX0_leapYearsBefore_13 ?_
    refine cn_leapCounts X w hP dX0_leapYearsBefore_16 ?_
    refine lv_icmp_lt (tgt := 22) hx hb dX0_leapYearsBefore_17 (by decide) (fun c_17 => ?_) (fun c_17 => ?_)
    · skip
      have k_17 : (reps ρ) < (reps ρ + 1) := (g_lt k7 ((ofN_t (by omega)).trans (by omega))).mp c_17
      refine lv_iload_n hx hb dX0_leapYearsBefore_22 rfl (lv_at hl 1 rfl) ?_
      refine lv_aload_n hx hb dX0_leapYearsBefore_23 rfl (lv_at hl 0 rfl) ?_
      refine cg_period X w hP dX0_leapYearsBefore_24 ?_
      refine q_cPS X w (c_J9_floorDiv_7cf53 l a_yr (K 7) yr (reps ρ) e_yr k7 (by first | assumption | omega) D t b n _) v_X0_162 rfl ⟨Nat.le_of_ble_eq_true rfl, Nat.le_of_ble_eq_true rfl⟩ rfl hl.1 (Nat.le_of_ble_eq_true rfl) dX0_leapYearsBefore_27 ⟨Nat.zero_le _, Nat.zero_le _⟩ (fun r_27 z_27 => ?_)
      refine lv_istore_n (lv' := [(2, .int r_27), (0, .ref (b + q)), (1, .int a_yr)]) hx hb dX0_leapYearsBefore_30 rfl hl (by decide) rfl (fun ls hl => ?_)
      refine lv_iload_n hx hb dX0_leapYearsBefore_31 rfl (lv_at hl 2 rfl) ?_
      refine lv_iload_n hx hb dX0_leapYearsBefore_32 rfl (lv_at hl 0 rfl) ?_
      refine lv_aload_n hx hb dX0_leapYearsBefore_33 rfl (lv_at hl 1 rfl) ?_
      refine cg_period X w hP dX0_leapYearsBefore_34 ?_
      refine lv_imul hx hb dX0_leapYearsBefore_37 ?_
      refine lv_topi (fun x_37 e_37 => ?_)
      have p_37 : x_37.toInt = ((yr / (reps ρ)) * (reps ρ)) := by rw [e_37]; exact t_mul z_27 k7 (by omega) (by omega)
      refine lv_isub hx hb dX0_leapYearsBefore_38 ?_
      refine lv_topi (fun x_38 e_38 => ?_)
      have p_38 : x_38.toInt = (yr - ((yr / (reps ρ)) * (reps ρ))) := by rw [e_38]; exact t_sub e_yr p_37 (by omega) (by omega)
      refine lv_istore_n (lv' := [(3, .int x_38), (2, .int r_27), (0, .ref (b + q)), (1, .int a_yr)]) hx hb dX0_leapYearsBefore_39 rfl hl (by decide) rfl (fun ls hl => ?_)
      refine lv_iload_n hx hb dX0_leapYearsBefore_40 rfl (lv_at hl 0 rfl) ?_
      refine lv_if_lt (tgt := 53) hx hb dX0_leapYearsBefore_41 (by decide) (fun c_41 => ?_) (fun c_41 => ?_)
      · skip
        have k_41 : (yr - ((yr / (reps ρ)) * (reps ρ))) < 0 := (g_lt p_38 (show (0 : Int32).toInt = 0 from rfl)).mp c_41
        exfalso; omega
      · skip
        have k_41 : ¬ ((yr - ((yr / (reps ρ)) * (reps ρ))) < 0) := fun h => c_41 ((g_lt p_38 (show (0 : Int32).toInt = 0 from rfl)).mpr h)
        refine lv_iload_n hx hb dX0_leapYearsBefore_44 rfl (lv_at hl 0 rfl) ?_
        refine lv_aload_n hx hb dX0_leapYearsBefore_45 rfl (lv_at hl 2 rfl) ?_
        refine cg_leapCounts X w hP dX0_leapYearsBefore_46 ?_
        refine cn_leapCounts X w hP dX0_leapYearsBefore_49 ?_
        refine lv_icmp_lt (tgt := 55) hx hb dX0_leapYearsBefore_50 (by decide) (fun c_50 => ?_) (fun c_50 => ?_)
        · skip
          have k_50 : (yr - ((yr / (reps ρ)) * (reps ρ))) < (reps ρ + 1) := (g_lt p_38 ((ofN_t (by omega)).trans (by omega))).mp c_50
          refine lv_iload_n hx hb dX0_leapYearsBefore_55 rfl (lv_at hl 1 rfl) ?_
          refine lv_aload_n hx hb dX0_leapYearsBefore_56 rfl (lv_at hl 2 rfl) ?_
          refine cg_leapCounts X w hP dX0_leapYearsBefore_57 ?_
          refine lv_aload_n hx hb dX0_leapYearsBefore_60 rfl (lv_at hl 2 rfl) ?_
          refine cg_period X w hP dX0_leapYearsBefore_61 ?_
          refine cl_leapCounts X w hP (g_in k7 (by omega)) dX0_leapYearsBefore_64 ?_
          refine q_topE (y := fc (reps ρ).toNat) (congrArg fc (g_tn k7)) ?_
          refine lv_imul hx hb dX0_leapYearsBefore_65 ?_
          refine lv_topi (fun x_65 e_65 => ?_)
          have p_65 : x_65.toInt = ((yr / (reps ρ)) * (lcN ρ ((reps ρ)).toNat)) := by rw [e_65]; exact t_mul z_27 (kc (reps ρ) (by omega) (by omega)) (by omega) (by omega)
          refine lv_aload_n hx hb dX0_leapYearsBefore_66 rfl (lv_at hl 2 rfl) ?_
          refine cg_leapCounts X w hP dX0_leapYearsBefore_67 ?_
          refine lv_iload_n hx hb dX0_leapYearsBefore_70 rfl (lv_at hl 0 rfl) ?_
          refine cl_leapCounts X w hP (g_in p_38 (by omega)) dX0_leapYearsBefore_71 ?_
          refine q_topE (y := fc (yr - ((yr / (reps ρ)) * (reps ρ))).toNat) (congrArg fc (g_tn p_38)) ?_
          refine lv_iadd hx hb dX0_leapYearsBefore_72 ?_
          refine lv_topi (fun x_72 e_72 => ?_)
          have p_72 : x_72.toInt = (((yr / (reps ρ)) * (lcN ρ ((reps ρ)).toNat)) + (lcN ρ ((yr - ((yr / (reps ρ)) * (reps ρ)))).toNat)) := by rw [e_72]; exact t_add p_65 (kc (yr - ((yr / (reps ρ)) * (reps ρ))) (by omega) (by omega)) (by omega) (by omega)
          exact q_pret X w dX0_leapYearsBefore_73 (by unfold lpb; rw [p_72, show yr - yr / reps ρ * reps ρ = yr % reps ρ by omega])
        · skip
          have k_50 : ¬ ((yr - ((yr / (reps ρ)) * (reps ρ))) < (reps ρ + 1)) := fun h => c_50 ((g_lt p_38 ((ofN_t (by omega)).trans (by omega))).mpr h)
          exfalso; omega
    · skip
      have k_17 : ¬ ((reps ρ) < (reps ρ + 1)) := fun h => c_17 ((g_lt k7 ((ofN_t (by omega)).trans (by omega))).mpr h)
      exfalso; omega

set_option maxHeartbeats 4000000 in
set_option maxRecDepth 100000 in
theorem c_X0_lengthOfYear (l : Launch) (D : va_G) (t : Nat → ClassId) (b n : Nat) (σ : qM) (q L C : Nat) (K fl fc : Nat → Int32) (ρ : Row) (hP : CalP t b σ q L C K fl fc ρ) (a_yr : Int32) (yr : Int) (e_yr : a_yr.toInt = yr) : qP l yX0_lengthOfYear cX0_lengthOfYear 2 (some .int) 2 D t b n σ [.ref (b + q), .int a_yr] (fun z => z.toInt = ylen ρ yr) := by
  refine qP.of (by decide +kernel) (Nat.le_of_ble_eq_true rfl) (fun p e s m args below meth c X w ls hl => ?_)
  have hx := X.1
  have hb := X.2.1
  have hl : lv_has ls 2 [(0, .ref (b + q)), (1, .int a_yr)] := hl
  obtain ⟨hO, hR, k1, k2, k3, k4, k5, k6, k7, k9, k10, k11, k12, k13, k14, kl, kc⟩ := hP.2.2.2
  have hm := hO.months
  have hrb := reps_bd hO hR
  have hs := hO.sum
  have hxb := extD_bd hO
  refine lv_aload_n hx hb dX0_lengthOfYear_0 rfl (lv_at hl 0 rfl) ?_
  refine lv_iload_n hx hb dX0_lengthOfYear_1 rfl (lv_at hl 1 rfl) ?_
  refine q_cPV X w (c_X0_leaps l D t b n σ q L C K fl fc ρ hP a_yr yr e_yr) v_X0_92 (k := q) hP.1 rfl rfl ⟨Nat.le_of_ble_eq_true rfl, Nat.le_of_ble_eq_true rfl⟩ rfl hl.1 (Nat.le_of_ble_eq_true rfl) dX0_lengthOfYear_2 ⟨Nat.zero_le _, Nat.zero_le _⟩ (fun r_2 z_2 => ?_)
  refine lv_if_eq (tgt := 20) hx hb dX0_lengthOfYear_5 (by decide) (fun c_5 => ?_) (fun c_5 => ?_)
  · skip
    rw [z_2] at c_5
    have k_5 := bI_f.mp c_5
    refine lv_aload_n hx hb dX0_lengthOfYear_20 rfl (lv_at hl 0 rfl) ?_
    refine cg_commonLength X w hP dX0_lengthOfYear_21 ?_
    exact q_pret X w dX0_lengthOfYear_24 (by rw [k1, ylen_x, if_neg k_5]; omega)
  · skip
    rw [z_2] at c_5
    have k_5 := bI_t.mp c_5
    refine lv_aload_n hx hb dX0_lengthOfYear_8 rfl (lv_at hl 0 rfl) ?_
    refine cg_commonLength X w hP dX0_lengthOfYear_9 ?_
    refine lv_aload_n hx hb dX0_lengthOfYear_12 rfl (lv_at hl 0 rfl) ?_
    refine cg_extra X w hP dX0_lengthOfYear_13 ?_
    refine lv_iadd hx hb dX0_lengthOfYear_16 ?_
    refine lv_topi (fun x_16 e_16 => ?_)
    have p_16 : x_16.toInt = ((sumL ρ (rv ρ 0).toNat) + (extD ρ)) := by rw [e_16]; exact t_add k1 k5 (by omega) (by omega)
    refine lv_goto (tgt := 24) hx hb dX0_lengthOfYear_17 (by decide) ?_
    exact q_pret X w dX0_lengthOfYear_24 (by rw [p_16, ylen_x, if_pos k_5]; omega)

set_option maxHeartbeats 4000000 in
set_option maxRecDepth 100000 in
theorem c_X0_startOfYear (l : Launch) (D : va_G) (t : Nat → ClassId) (b n : Nat) (σ : qM) (q L C : Nat) (K fl fc : Nat → Int32) (ρ : Row) (hP : CalP t b σ q L C K fl fc ρ) (a_yr : Int32) (yr : Int) (e_yr : a_yr.toInt = yr) (h_1 : -3000 ≤ yr ∧ yr ≤ 3000) : qP l yX0_startOfYear cX0_startOfYear 2 (some .int) 3 D t b n σ [.ref (b + q), .int a_yr] (fun z => z.toInt = fst ρ yr) := by
  refine qP.of (by decide +kernel) (Nat.le_of_ble_eq_true rfl) (fun p e s m args below meth c X w ls hl => ?_)
  have hx := X.1
  have hb := X.2.1
  have hl : lv_has ls 2 [(0, .ref (b + q)), (1, .int a_yr)] := hl
  obtain ⟨hO, hR, k1, k2, k3, k4, k5, k6, k7, k9, k10, k11, k12, k13, k14, kl, kc⟩ := hP.2.2.2
  have hm := hO.months
  have hrb := reps_bd hO hR
  have hs := hO.sum
  have hxb := extD_bd hO
  have hlb := lpb_bd hO hR h_1.1 h_1.2
  have hm1 := mulb (x := yr) (y := sumL ρ (rv ρ 0).toNat) h_1 (by omega)
  have hm2 := mulb (x := lpb ρ yr) (y := extD ρ) hlb (by omega)
  have hf0 := fst_bd hO (y := 0) (by omega) (by omega)
  refine lv_aload_n hx hb dX0_startOfYear_0 rfl (lv_at hl 0 rfl) ?_
  refine cg_startOfZero X w hP dX0_startOfYear_1 ?_
  refine lv_iload_n hx hb dX0_startOfYear_4 rfl (lv_at hl 1 rfl) ?_
  refine lv_aload_n hx hb dX0_startOfYear_5 rfl (lv_at hl 0 rfl) ?_
  refine cg_commonLength X w hP dX0_startOfYear_6 ?_
  refine lv_imul hx hb dX0_startOfYear_9 ?_
  refine lv_topi (fun x_9 e_9 => ?_)
  have p_9 : x_9.toInt = (yr * (sumL ρ (rv ρ 0).toNat)) := by rw [e_9]; exact t_mul e_yr k1 (by omega) (by omega)
  refine lv_iadd hx hb dX0_startOfYear_10 ?_
  refine lv_topi (fun x_10 e_10 => ?_)
  have p_10 : x_10.toInt = ((fst ρ 0) + (yr * (sumL ρ (rv ρ 0).toNat))) := by rw [e_10]; exact t_add k12 p_9 (by omega) (by omega)
  refine lv_aload_n hx hb dX0_startOfYear_11 rfl (lv_at hl 0 rfl) ?_
  refine lv_iload_n hx hb dX0_startOfYear_12 rfl (lv_at hl 1 rfl) ?_
  refine q_cPV X w (c_X0_leapYearsBefore l D t b n σ q L C K fl fc ρ hP a_yr yr e_yr (by first | assumption | omega)) v_X0_83 (k := q) hP.1 rfl rfl ⟨Nat.le_of_ble_eq_true rfl, Nat.le_of_ble_eq_true rfl⟩ rfl hl.1 (Nat.le_of_ble_eq_true rfl) dX0_startOfYear_13 ⟨Nat.zero_le _, Nat.zero_le _⟩ (fun r_13 z_13 => ?_)
  refine lv_aload_n hx hb dX0_startOfYear_16 rfl (lv_at hl 0 rfl) ?_
  refine cg_extra X w hP dX0_startOfYear_17 ?_
  refine lv_imul hx hb dX0_startOfYear_20 ?_
  refine lv_topi (fun x_20 e_20 => ?_)
  have p_20 : x_20.toInt = ((lpb ρ yr) * (extD ρ)) := by rw [e_20]; exact t_mul z_13 k5 (by omega) (by omega)
  refine lv_iadd hx hb dX0_startOfYear_21 ?_
  refine lv_topi (fun x_21 e_21 => ?_)
  have p_21 : x_21.toInt = (((fst ρ 0) + (yr * (sumL ρ (rv ρ 0).toNat))) + ((lpb ρ yr) * (extD ρ))) := by rw [e_21]; exact t_add p_10 p_20 (by omega) (by omega)
  exact q_pret X w dX0_startOfYear_22 (by exact p_21.trans (fst_lin hO hR yr).symm)

set_option maxHeartbeats 4000000 in
set_option maxRecDepth 100000 in
theorem c_X0_holds (l : Launch) (D : va_G) (t : Nat → ClassId) (b n : Nat) (σ : qM) (q L C : Nat) (K fl fc : Nat → Int32) (ρ : Row) (hP : CalP t b σ q L C K fl fc ρ) (a_dy : Int32) (dy : Int) (e_dy : a_dy.toInt = dy) : qP l yX0_holds cX0_holds 2 (some .boolean) 0 D t b n σ [.ref (b + q), .int a_dy] (fun z => z = bI (decide (fst ρ (-2000) ≤ dy ∧ dy < fst ρ 2001))) := by
  refine qP.of (by decide +kernel) (Nat.le_of_ble_eq_true rfl) (fun p e s m args below meth c X w ls hl => ?_)
  have hx := X.1
  have hb := X.2.1
  have hl : lv_has ls 2 [(0, .ref (b + q)), (1, .int a_dy)] := hl
  obtain ⟨hO, hR, k1, k2, k3, k4, k5, k6, k7, k9, k10, k11, k12, k13, k14, kl, kc⟩ := hP.2.2.2
  have hm := hO.months
  have hrb := reps_bd hO hR
  refine lv_iload_n hx hb dX0_holds_0 rfl (lv_at hl 1 rfl) ?_
  refine lv_aload_n hx hb dX0_holds_1 rfl (lv_at hl 0 rfl) ?_
  refine cg_begin X w hP dX0_holds_2 ?_
  refine lv_icmp_lt (tgt := 20) hx hb dX0_holds_5 (by decide) (fun c_5 => ?_) (fun c_5 => ?_)
  · skip
    have k_5 : dy < (fst ρ (-2000)) := (g_lt e_dy k13).mp c_5
    refine lv_iconst (v := 0) hx hb dX0_holds_20 (by decide) ?_
    exact q_pretz X w dX0_holds_21 (rfl) (by exact bI_0 (by omega))
  · skip
    have k_5 : ¬ (dy < (fst ρ (-2000))) := fun h => c_5 ((g_lt e_dy k13).mpr h)
    refine lv_iload_n hx hb dX0_holds_8 rfl (lv_at hl 1 rfl) ?_
    refine lv_aload_n hx hb dX0_holds_9 rfl (lv_at hl 0 rfl) ?_
    refine cg_end X w hP dX0_holds_10 ?_
    refine lv_icmp_ge (tgt := 20) hx hb dX0_holds_13 (by decide) (fun c_13 => ?_) (fun c_13 => ?_)
    · skip
      have k_13 : (fst ρ 2001) ≤ dy := (g_le k14 e_dy).mp c_13
      refine lv_iconst (v := 0) hx hb dX0_holds_20 (by decide) ?_
      exact q_pretz X w dX0_holds_21 (rfl) (by exact bI_0 (by omega))
    · skip
      have k_13 : ¬ ((fst ρ 2001) ≤ dy) := fun h => c_13 ((g_le k14 e_dy).mpr h)
      refine lv_iconst (v := 1) hx hb dX0_holds_16 (by decide) ?_
      refine lv_goto (tgt := 21) hx hb dX0_holds_17 (by decide) ?_
      exact q_pretz X w dX0_holds_21 (rfl) (by exact bI_1 (by omega))

set_option maxHeartbeats 4000000 in
set_option maxRecDepth 100000 in
theorem c_X0_weekdayOf (l : Launch) (D : va_G) (t : Nat → ClassId) (b n : Nat) (σ : qM) (q L C : Nat) (K fl fc : Nat → Int32) (ρ : Row) (hP : CalP t b σ q L C K fl fc ρ) (a_dy : Int32) (dy : Int) (e_dy : a_dy.toInt = dy) (h_1 : -100000000 ≤ dy ∧ dy ≤ 100000000) : qP l yX0_weekdayOf cX0_weekdayOf 2 (some .int) 1 D t b n σ [.ref (b + q), .int a_dy] (fun z => z.toInt = wdy ρ dy) := by
  refine qP.of (by decide +kernel) (Nat.le_of_ble_eq_true rfl) (fun p e s m args below meth c X w ls hl => ?_)
  have hx := X.1
  have hb := X.2.1
  have hl : lv_has ls 2 [(0, .ref (b + q)), (1, .int a_dy)] := hl
  obtain ⟨hO, hR, k1, k2, k3, k4, k5, k6, k7, k9, k10, k11, k12, k13, k14, kl, kc⟩ := hP.2.2.2
  have hm := hO.months
  have hrb := reps_bd hO hR
  have hw := hO.wk
  refine lv_aload_n hx hb dX0_weekdayOf_0 rfl (lv_at hl 0 rfl) ?_
  refine cg_weekLength X w hP dX0_weekdayOf_1 ?_
  refine lv_if_le (tgt := 23) hx hb dX0_weekdayOf_4 (by decide) (fun c_4 => ?_) (fun c_4 => ?_)
  · skip
    have k_4 : (rv ρ 30) ≤ 0 := (g_le k9 (show (0 : Int32).toInt = 0 from rfl)).mp c_4
    exfalso; omega
  · skip
    have k_4 : ¬ ((rv ρ 30) ≤ 0) := fun h => c_4 ((g_le k9 (show (0 : Int32).toInt = 0 from rfl)).mpr h)
    refine lv_iload_n hx hb dX0_weekdayOf_7 rfl (lv_at hl 1 rfl) ?_
    refine lv_aload_n hx hb dX0_weekdayOf_8 rfl (lv_at hl 0 rfl) ?_
    refine cg_zeroWeekday X w hP dX0_weekdayOf_9 ?_
    refine lv_iadd hx hb dX0_weekdayOf_12 ?_
    refine lv_topi (fun x_12 e_12 => ?_)
    have p_12 : x_12.toInt = (dy + (rv ρ 31)) := by rw [e_12]; exact t_add e_dy k10 (by omega) (by omega)
    refine lv_aload_n hx hb dX0_weekdayOf_13 rfl (lv_at hl 0 rfl) ?_
    refine cg_weekLength X w hP dX0_weekdayOf_14 ?_
    refine q_cPS X w (c_J9_floorMod_7cf53 l x_12 (K 9) (dy + (rv ρ 31)) (rv ρ 30) p_12 k9 (by first | assumption | omega) D t b n _) v_X0_86 rfl ⟨Nat.le_of_ble_eq_true rfl, Nat.le_of_ble_eq_true rfl⟩ rfl hl.1 (Nat.le_of_ble_eq_true rfl) dX0_weekdayOf_17 ⟨Nat.zero_le _, Nat.zero_le _⟩ (fun r_17 z_17 => ?_)
    refine lv_goto (tgt := 24) hx hb dX0_weekdayOf_20 (by decide) ?_
    exact q_pret X w dX0_weekdayOf_24 (by unfold wdy; rw [show rv ρ 31 + dy = dy + rv ρ 31 by omega]; exact z_17)

set_option maxHeartbeats 4000000 in
set_option maxRecDepth 100000 in
theorem c_X0_monthsBefore (l : Launch) (D : va_G) (t : Nat → ClassId) (b n : Nat) (σ : qM) (q L C : Nat) (K fl fc : Nat → Int32) (ρ : Row) (hP : CalP t b σ q L C K fl fc ρ) (a_yr : Int32) (yr : Int) (e_yr : a_yr.toInt = yr) (h_1 : -3000 ≤ yr ∧ yr ≤ 3000) : qP l yX0_monthsBefore cX0_monthsBefore 3 (some .int) 3 D t b n σ [.ref (b + q), .int a_yr] (fun z => z.toInt = Mb ρ yr) := by
  refine qP.of (by decide +kernel) (Nat.le_of_ble_eq_true rfl) (fun p e s m args below meth c X w ls hl => ?_)
  have hx := X.1
  have hb := X.2.1
  have hl : lv_has ls 3 [(0, .ref (b + q)), (1, .int a_yr)] := hl
  obtain ⟨hO, hR, k1, k2, k3, k4, k5, k6, k7, k9, k10, k11, k12, k13, k14, kl, kc⟩ := hP.2.2.2
  have hm := hO.months
  have hrb := reps_bd hO hR
  have hlb := lpb_bd hO hR h_1.1 h_1.2
  have hm1 := mulb (x := yr) (y := rv ρ 0) h_1 (by omega)
  refine lv_iload_n hx hb dX0_monthsBefore_0 rfl (lv_at hl 1 rfl) ?_
  refine lv_aload_n hx hb dX0_monthsBefore_1 rfl (lv_at hl 0 rfl) ?_
  refine cg_lengths X w hP dX0_monthsBefore_2 ?_
  refine cn_lengths X w hP dX0_monthsBefore_5 ?_
  refine lv_imul hx hb dX0_monthsBefore_6 ?_
  refine lv_topi (fun x_6 e_6 => ?_)
  have p_6 : x_6.toInt = (yr * (rv ρ 0)) := by rw [e_6]; exact t_mul e_yr ((ofN_t (by omega)).trans (by omega)) (by omega) (by omega)
  refine lv_istore_n (lv' := [(2, .int x_6), (0, .ref (b + q)), (1, .int a_yr)]) hx hb dX0_monthsBefore_7 rfl hl (by decide) rfl (fun ls hl => ?_)
  refine lv_aload_n hx hb dX0_monthsBefore_8 rfl (lv_at hl 1 rfl) ?_
  refine cg_leap X w hP dX0_monthsBefore_9 ?_
  refine lv_iconst (v := 2) hx hb dX0_monthsBefore_12 (by decide) ?_
  refine lv_icmp_ne (tgt := 26) hx hb dX0_monthsBefore_13 (by decide) (fun c_13 => ?_) (fun c_13 => ?_)
  · skip
    have k_13 : ¬ ((rv ρ 16) = 2) := fun h => c_13 ((g_eq k3 (show (2 : Int32).toInt = 2 from rfl)).mpr h)
    refine lv_iload_n hx hb dX0_monthsBefore_26 rfl (lv_at hl 0 rfl) ?_
    exact q_pret X w dX0_monthsBefore_27 (by rw [Mb_lin hO hR, if_neg k_13]; exact p_6.trans (by omega))
  · skip
    have k_13 : (rv ρ 16) = 2 := (g_eq k3 (show (2 : Int32).toInt = 2 from rfl)).mp c_13
    refine lv_iload_n hx hb dX0_monthsBefore_16 rfl (lv_at hl 0 rfl) ?_
    refine lv_aload_n hx hb dX0_monthsBefore_17 rfl (lv_at hl 1 rfl) ?_
    refine lv_iload_n hx hb dX0_monthsBefore_18 rfl (lv_at hl 2 rfl) ?_
    refine q_cPV X w (c_X0_leapYearsBefore l D t b n σ q L C K fl fc ρ hP a_yr yr e_yr (by first | assumption | omega)) v_X0_83 (k := q) hP.1 rfl rfl ⟨Nat.le_of_ble_eq_true rfl, Nat.le_of_ble_eq_true rfl⟩ rfl hl.1 (Nat.le_of_ble_eq_true rfl) dX0_monthsBefore_19 ⟨Nat.zero_le _, Nat.zero_le _⟩ (fun r_19 z_19 => ?_)
    refine lv_iadd hx hb dX0_monthsBefore_22 ?_
    refine lv_topi (fun x_22 e_22 => ?_)
    have p_22 : x_22.toInt = ((yr * (rv ρ 0)) + (lpb ρ yr)) := by rw [e_22]; exact t_add p_6 z_19 (by omega) (by omega)
    refine lv_goto (tgt := 27) hx hb dX0_monthsBefore_23 (by decide) ?_
    exact q_pret X w dX0_monthsBefore_27 (by rw [Mb_lin hO hR, if_pos k_13]; exact p_22)

set_option maxHeartbeats 4000000 in
set_option maxRecDepth 100000 in
theorem c_X0_startOfWeek (l : Launch) (D : va_G) (t : Nat → ClassId) (b n : Nat) (σ : qM) (q L C : Nat) (K fl fc : Nat → Int32) (ρ : Row) (hP : CalP t b σ q L C K fl fc ρ) (a_yr : Int32) (a_wk : Int32) (yr : Int) (wk : Int) (e_yr : a_yr.toInt = yr) (e_wk : a_wk.toInt = wk) (h_1 : -2100 ≤ yr ∧ yr ≤ 2100) (h_2 : -1000 ≤ wk ∧ wk ≤ 1000) : qP l yX0_startOfWeek cX0_startOfWeek 4 (some .int) 4 D t b n σ [.ref (b + q), .int a_yr, .int a_wk] (fun z => z.toInt = fw ρ yr + rv ρ 30 * (wk - 1)) := by
  refine qP.of (by decide +kernel) (Nat.le_of_ble_eq_true rfl) (fun p e s m args below meth c X w ls hl => ?_)
  have hx := X.1
  have hb := X.2.1
  have hl : lv_has ls 4 [(0, .ref (b + q)), (1, .int a_yr), (2, .int a_wk)] := hl
  obtain ⟨hO, hR, k1, k2, k3, k4, k5, k6, k7, k9, k10, k11, k12, k13, k14, kl, kc⟩ := hP.2.2.2
  have hm := hO.months
  have hrb := reps_bd hO hR
  have hw := hO.wk
  have hf := fst_bd hO (y := yr) (by omega) (by omega)
  have hd := wdy_bd hO (fst ρ yr + rv ρ 32 - 1)
  have hm1 := mulb (x := wk - 1) (y := rv ρ 30) (by omega) (by omega)
  refine lv_aload_n hx hb dX0_startOfWeek_0 rfl (lv_at hl 0 rfl) ?_
  refine lv_iload_n hx hb dX0_startOfWeek_1 rfl (lv_at hl 1 rfl) ?_
  refine q_cPV X w (c_X0_startOfYear l D t b n σ q L C K fl fc ρ hP a_yr yr e_yr (by first | assumption | omega)) v_X0_74 (k := q) hP.1 rfl rfl ⟨Nat.le_of_ble_eq_true rfl, Nat.le_of_ble_eq_true rfl⟩ rfl hl.1 (Nat.le_of_ble_eq_true rfl) dX0_startOfWeek_2 ⟨Nat.zero_le _, Nat.zero_le _⟩ (fun r_2 z_2 => ?_)
  refine lv_aload_n hx hb dX0_startOfWeek_5 rfl (lv_at hl 0 rfl) ?_
  refine cg_weekDay X w hP dX0_startOfWeek_6 ?_
  refine lv_iadd hx hb dX0_startOfWeek_9 ?_
  refine lv_topi (fun x_9 e_9 => ?_)
  have p_9 : x_9.toInt = ((fst ρ yr) + (rv ρ 32)) := by rw [e_9]; exact t_add z_2 k11 (by omega) (by omega)
  refine lv_iconst (v := 1) hx hb dX0_startOfWeek_10 (by decide) ?_
  refine lv_isub hx hb dX0_startOfWeek_11 ?_
  refine lv_topi (fun x_11 e_11 => ?_)
  have p_11 : x_11.toInt = (((fst ρ yr) + (rv ρ 32)) - 1) := by rw [e_11]; exact t_sub p_9 (show (1 : Int32).toInt = 1 from rfl) (by omega) (by omega)
  refine lv_istore_n (lv' := [(3, .int x_11), (0, .ref (b + q)), (1, .int a_yr), (2, .int a_wk)]) hx hb dX0_startOfWeek_12 rfl hl (by decide) rfl (fun ls hl => ?_)
  refine lv_iload_n hx hb dX0_startOfWeek_13 rfl (lv_at hl 0 rfl) ?_
  refine lv_aload_n hx hb dX0_startOfWeek_14 rfl (lv_at hl 1 rfl) ?_
  refine lv_iload_n hx hb dX0_startOfWeek_15 rfl (lv_at hl 0 rfl) ?_
  refine q_cPV X w (c_X0_weekdayOf l D t b n σ q L C K fl fc ρ hP x_11 (((fst ρ yr) + (rv ρ 32)) - 1) p_11 (by first | assumption | omega)) v_X0_137 (k := q) hP.1 rfl rfl ⟨Nat.le_of_ble_eq_true rfl, Nat.le_of_ble_eq_true rfl⟩ rfl hl.1 (Nat.le_of_ble_eq_true rfl) dX0_startOfWeek_16 ⟨Nat.zero_le _, Nat.zero_le _⟩ (fun r_16 z_16 => ?_)
  refine lv_isub hx hb dX0_startOfWeek_19 ?_
  refine lv_topi (fun x_19 e_19 => ?_)
  have p_19 : x_19.toInt = ((((fst ρ yr) + (rv ρ 32)) - 1) - (wdy ρ (((fst ρ yr) + (rv ρ 32)) - 1))) := by rw [e_19]; exact t_sub p_11 z_16 (by omega) (by omega)
  refine lv_iload_n hx hb dX0_startOfWeek_20 rfl (lv_at hl 3 rfl) ?_
  refine lv_iconst (v := 1) hx hb dX0_startOfWeek_21 (by decide) ?_
  refine lv_isub hx hb dX0_startOfWeek_22 ?_
  refine lv_topi (fun x_22 e_22 => ?_)
  have p_22 : x_22.toInt = (wk - 1) := by rw [e_22]; exact t_sub e_wk (show (1 : Int32).toInt = 1 from rfl) (by omega) (by omega)
  refine lv_aload_n hx hb dX0_startOfWeek_23 rfl (lv_at hl 1 rfl) ?_
  refine cg_weekLength X w hP dX0_startOfWeek_24 ?_
  refine lv_imul hx hb dX0_startOfWeek_27 ?_
  refine lv_topi (fun x_27 e_27 => ?_)
  have p_27 : x_27.toInt = ((wk - 1) * (rv ρ 30)) := by rw [e_27]; exact t_mul p_22 k9 (by omega) (by omega)
  refine lv_iadd hx hb dX0_startOfWeek_28 ?_
  refine lv_topi (fun x_28 e_28 => ?_)
  have p_28 : x_28.toInt = (((((fst ρ yr) + (rv ρ 32)) - 1) - (wdy ρ (((fst ρ yr) + (rv ρ 32)) - 1))) + ((wk - 1) * (rv ρ 30))) := by rw [e_28]; exact t_add p_19 p_27 (by omega) (by omega)
  exact q_pret X w dX0_startOfWeek_29 (by unfold fw; rw [Int.mul_comm (rv ρ 30)]; exact p_28)

set_option maxHeartbeats 4000000 in
set_option maxRecDepth 100000 in
theorem c_X0_monthCountIn (l : Launch) (D : va_G) (t : Nat → ClassId) (b n : Nat) (σ : qM) (q L C : Nat) (K fl fc : Nat → Int32) (ρ : Row) (hP : CalP t b σ q L C K fl fc ρ) (yr : Int) (a_il : Int32) (il : Int) (e_il : a_il.toInt = il) (h_1 : a_il = bI (decide (leap ρ yr = true))) : qP l yX0_monthCountIn cX0_monthCountIn 2 (some .int) 0 D t b n σ [.ref (b + q), .int a_il] (fun z => z.toInt = mcnt ρ yr) := by
  refine qP.of (by decide +kernel) (Nat.le_of_ble_eq_true rfl) (fun p e s m args below meth c X w ls hl => ?_)
  have hx := X.1
  have hb := X.2.1
  have hl : lv_has ls 2 [(0, .ref (b + q)), (1, .int a_il)] := hl
  obtain ⟨hO, hR, k1, k2, k3, k4, k5, k6, k7, k9, k10, k11, k12, k13, k14, kl, kc⟩ := hP.2.2.2
  have hm := hO.months
  have hrb := reps_bd hO hR
  have hil : il = if leap ρ yr = true then 1 else 0 := by rw [← e_il, h_1]; by_cases y : leap ρ yr = true; (rw [if_pos y, decide_eq_true y]; rfl); (rw [if_neg y, decide_eq_false y]; rfl)
  refine lv_iload_n hx hb dX0_monthCountIn_0 rfl (lv_at hl 1 rfl) ?_
  refine lv_if_eq (tgt := 22) hx hb dX0_monthCountIn_1 (by decide) (fun c_1 => ?_) (fun c_1 => ?_)
  · skip
    have k_1 : il = 0 := (g_eq e_il (show (0 : Int32).toInt = 0 from rfl)).mp c_1
    have y : ¬ leap ρ yr = true := fun y => by rw [if_pos y] at hil; omega
    refine lv_aload_n hx hb dX0_monthCountIn_22 rfl (lv_at hl 0 rfl) ?_
    refine cg_lengths X w hP dX0_monthCountIn_23 ?_
    refine cn_lengths X w hP dX0_monthCountIn_26 ?_
    exact q_pret X w dX0_monthCountIn_27 (by rw [mcnt_f (fun z => y z.2)]; exact ((ofN_t (by omega)).trans (by omega)))
  · skip
    have k_1 : ¬ (il = 0) := fun h => c_1 ((g_eq e_il (show (0 : Int32).toInt = 0 from rfl)).mpr h)
    have y : leap ρ yr = true := by by_cases y : leap ρ yr = true; exact y; (rw [if_neg y] at hil; omega)
    refine lv_aload_n hx hb dX0_monthCountIn_4 rfl (lv_at hl 0 rfl) ?_
    refine cg_leap X w hP dX0_monthCountIn_5 ?_
    refine lv_iconst (v := 2) hx hb dX0_monthCountIn_8 (by decide) ?_
    refine lv_icmp_ne (tgt := 22) hx hb dX0_monthCountIn_9 (by decide) (fun c_9 => ?_) (fun c_9 => ?_)
    · skip
      have k_9 : ¬ ((rv ρ 16) = 2) := fun h => c_9 ((g_eq k3 (show (2 : Int32).toInt = 2 from rfl)).mpr h)
      refine lv_aload_n hx hb dX0_monthCountIn_22 rfl (lv_at hl 0 rfl) ?_
      refine cg_lengths X w hP dX0_monthCountIn_23 ?_
      refine cn_lengths X w hP dX0_monthCountIn_26 ?_
      exact q_pret X w dX0_monthCountIn_27 (by rw [mcnt_f (fun z => k_9 z.1)]; exact ((ofN_t (by omega)).trans (by omega)))
    · skip
      have k_9 : (rv ρ 16) = 2 := (g_eq k3 (show (2 : Int32).toInt = 2 from rfl)).mp c_9
      refine lv_aload_n hx hb dX0_monthCountIn_12 rfl (lv_at hl 0 rfl) ?_
      refine cg_lengths X w hP dX0_monthCountIn_13 ?_
      refine cn_lengths X w hP dX0_monthCountIn_16 ?_
      refine lv_iconst (v := 1) hx hb dX0_monthCountIn_17 (by decide) ?_
      refine lv_iadd hx hb dX0_monthCountIn_18 ?_
      refine lv_topi (fun x_18 e_18 => ?_)
      have p_18 : x_18.toInt = ((rv ρ 0) + 1) := by rw [e_18]; exact t_add ((ofN_t (by omega)).trans (by omega)) (show (1 : Int32).toInt = 1 from rfl) (by omega) (by omega)
      refine lv_goto (tgt := 27) hx hb dX0_monthCountIn_19 (by decide) ?_
      exact q_pret X w dX0_monthCountIn_27 (by rw [mcnt_t ⟨k_9, y⟩]; exact p_18)

set_option maxHeartbeats 4000000 in
set_option maxRecDepth 100000 in
theorem c_X0_monthCount (l : Launch) (D : va_G) (t : Nat → ClassId) (b n : Nat) (σ : qM) (q L C : Nat) (K fl fc : Nat → Int32) (ρ : Row) (hP : CalP t b σ q L C K fl fc ρ) (a_yr : Int32) (yr : Int) (e_yr : a_yr.toInt = yr) : qP l yX0_monthCount cX0_monthCount 2 (some .int) 2 D t b n σ [.ref (b + q), .int a_yr] (fun z => z.toInt = mcnt ρ yr) := by
  refine qP.of (by decide +kernel) (Nat.le_of_ble_eq_true rfl) (fun p e s m args below meth c X w ls hl => ?_)
  have hx := X.1
  have hb := X.2.1
  have hl : lv_has ls 2 [(0, .ref (b + q)), (1, .int a_yr)] := hl
  obtain ⟨hO, hR, k1, k2, k3, k4, k5, k6, k7, k9, k10, k11, k12, k13, k14, kl, kc⟩ := hP.2.2.2
  have hm := hO.months
  have hrb := reps_bd hO hR
  refine lv_aload_n hx hb dX0_monthCount_0 rfl (lv_at hl 0 rfl) ?_
  refine lv_aload_n hx hb dX0_monthCount_1 rfl (lv_at hl 0 rfl) ?_
  refine lv_iload_n hx hb dX0_monthCount_2 rfl (lv_at hl 1 rfl) ?_
  refine q_cPV X w (c_X0_leaps l D t b n σ q L C K fl fc ρ hP a_yr yr e_yr) v_X0_92 (k := q) hP.1 rfl rfl ⟨Nat.le_of_ble_eq_true rfl, Nat.le_of_ble_eq_true rfl⟩ rfl hl.1 (Nat.le_of_ble_eq_true rfl) dX0_monthCount_3 ⟨Nat.zero_le _, Nat.zero_le _⟩ (fun r_3 z_3 => ?_)
  refine q_cPV X w (c_X0_monthCountIn l D t b n σ q L C K fl fc ρ hP yr r_3 (r_3).toInt rfl (by exact z_3)) v_X0_96 (k := q) hP.1 rfl rfl ⟨Nat.le_of_ble_eq_true rfl, Nat.le_of_ble_eq_true rfl⟩ rfl hl.1 (Nat.le_of_ble_eq_true rfl) dX0_monthCount_6 ⟨Nat.zero_le _, Nat.zero_le _⟩ (fun r_6 z_6 => ?_)
  exact q_pret X w dX0_monthCount_9 (by exact z_6)
