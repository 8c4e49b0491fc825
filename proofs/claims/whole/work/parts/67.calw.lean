/-! the class's calendar while it is being made -/
def CalW (t : Nat → ClassId) (b : Nat) (σ : qM) (q L C : Nat) (K : Nat → Int32) (fl fc : Nat → Int32) (ρ : Row) : Prop :=
  σ q = some (.inr (4, kF b L C K)) ∧ σ L = some (.inl (t 0, (rv ρ 0).toNat, .inl fl)) ∧ σ C = some (.inl (t 0, (reps ρ).toNat + 1, .inl fc)) ∧ okRow ρ ∧ reps ρ ≠ 0 ∧ (K 1).toInt = sumL ρ (rv ρ 0).toNat ∧ (K 5).toInt = extD ρ ∧ (K 7).toInt = reps ρ ∧ ∀ k : Int, 0 ≤ k → k ≤ reps ρ → (fc k.toNat).toInt = lcN ρ k.toNat

set_option maxHeartbeats 4000000 in
set_option maxRecDepth 100000 in
theorem c_X0_leaps_w (l : Launch) (D : va_G) (t : Nat → ClassId) (b n : Nat) (σ : qM) (q L C : Nat) (K fl fc : Nat → Int32) (ρ : Row) (hP : CalW t b σ q L C K fl fc ρ) (a_yr : Int32) (yr : Int) (e_yr : a_yr.toInt = yr) : qP l yX0_leaps cX0_leaps 3 (some .boolean) 1 D t b n σ [.ref (b + q), .int a_yr] (fun z => z = bI (decide (leap ρ yr = true))) := by
  refine qP.of (by decide +kernel) (Nat.le_of_ble_eq_true rfl) (fun p e s m args below meth c X w ls hl => ?_)
  have hx := X.1
  have hb := X.2.1
  have hl : lv_has ls 3 [(0, .ref (b + q)), (1, .int a_yr)] := hl
  obtain ⟨hO, hR, k1, k5, k7, kc⟩ := hP.2.2.2
  have hm := hO.months
  have hrb := reps_bd hO hR
  refine lv_aload_n hx hb dX0_leaps_0 rfl (lv_at hl 0 rfl) ?_
  refine q_get X w inX0 rfl 7 (by decide) fl_X0_52 (k := q) hP.1 rfl dX0_leaps_1 ?_
  refine lv_if_le (tgt := 18) hx hb dX0_leaps_4 (by decide) (fun c_4 => ?_) (fun c_4 => ?_)
  · skip
    have k_4 : (reps ρ) ≤ 0 := (g_le k7 (show (0 : Int32).toInt = 0 from rfl)).mp c_4
    exfalso; omega
  · skip
    have k_4 : ¬ ((reps ρ) ≤ 0) := fun h => c_4 ((g_le k7 (show (0 : Int32).toInt = 0 from rfl)).mpr h)
    refine lv_iload_n hx hb dX0_leaps_7 rfl (lv_at hl 1 rfl) ?_
    refine lv_aload_n hx hb dX0_leaps_8 rfl (lv_at hl 0 rfl) ?_
    refine q_get X w inX0 rfl 7 (by decide) fl_X0_52 (k := q) hP.1 rfl dX0_leaps_9 ?_
    refine q_cPS X w (c_J9_floorMod_7cf53 l a_yr (K 7) yr (reps ρ) e_yr k7 (by first | assumption | omega) D t b n _) v_X0_86 rfl ⟨Nat.le_of_ble_eq_true rfl, Nat.le_of_ble_eq_true rfl⟩ rfl hl.1 (Nat.le_of_ble_eq_true rfl) dX0_leaps_12 ⟨Nat.zero_le _, Nat.zero_le _⟩ (fun r_12 z_12 => ?_)
    refine lv_goto (tgt := 19) hx hb dX0_leaps_15 (by decide) ?_
    refine lv_istore_n (lv' := [(2, .int r_12), (0, .ref (b + q)), (1, .int a_yr)]) hx hb dX0_leaps_19 rfl hl (by decide) rfl (fun ls hl => ?_)
    refine lv_iload_n hx hb dX0_leaps_20 rfl (lv_at hl 0 rfl) ?_
    have hm0 := Int.emod_nonneg yr (show reps ρ ≠ 0 from hR)
    refine lv_if_lt (tgt := 35) hx hb dX0_leaps_21 (by decide) (fun c_21 => ?_) (fun c_21 => ?_)
    · skip
      have k_21 : (yr % (reps ρ)) < 0 := (g_lt z_12 (show (0 : Int32).toInt = 0 from rfl)).mp c_21
      exfalso; omega
    · skip
      have k_21 : ¬ ((yr % (reps ρ)) < 0) := fun h => c_21 ((g_lt z_12 (show (0 : Int32).toInt = 0 from rfl)).mpr h)
      have hm0 := Int.emod_nonneg yr (show reps ρ ≠ 0 from hR)
      have hm1 := Int.emod_lt_of_pos yr (show 0 < reps ρ by omega)
      refine lv_iload_n hx hb dX0_leaps_24 rfl (lv_at hl 0 rfl) ?_
      refine lv_iconst (v := 1) hx hb dX0_leaps_25 (by decide) ?_
      refine lv_iadd hx hb dX0_leaps_26 ?_
      refine lv_topi (fun x_26 e_26 => ?_)
      have p_26 : x_26.toInt = ((yr % (reps ρ)) + 1) := by rw [e_26]; exact t_add z_12 (show (1 : Int32).toInt = 1 from rfl) (by omega) (by omega)
      refine lv_aload_n hx hb dX0_leaps_27 rfl (lv_at hl 1 rfl) ?_
      refine q_get X w inX0 rfl 8 (by decide) fl_X0_49 (k := q) hP.1 rfl dX0_leaps_28 ?_
      refine q_alen X w 0 rfl (k := C) hP.2.2.1 dX0_leaps_31 ?_
      have hm1 := Int.emod_lt_of_pos yr (show 0 < reps ρ by omega)
      refine lv_icmp_lt (tgt := 37) hx hb dX0_leaps_32 (by decide) (fun c_32 => ?_) (fun c_32 => ?_)
      · skip
        have k_32 : ((yr % (reps ρ)) + 1) < (reps ρ + 1) := (g_lt p_26 ((ofN_t (by omega)).trans (by omega))).mp c_32
        refine lv_aload_n hx hb dX0_leaps_37 rfl (lv_at hl 1 rfl) ?_
        refine q_get X w inX0 rfl 8 (by decide) fl_X0_49 (k := q) hP.1 rfl dX0_leaps_38 ?_
        refine lv_iload_n hx hb dX0_leaps_41 rfl (lv_at hl 0 rfl) ?_
        refine lv_iconst (v := 1) hx hb dX0_leaps_42 (by decide) ?_
        refine lv_iadd hx hb dX0_leaps_43 ?_
        refine lv_topi (fun x_43 e_43 => ?_)
        have p_43 : x_43.toInt = ((yr % (reps ρ)) + 1) := by rw [e_43]; exact t_add z_12 (show (1 : Int32).toInt = 1 from rfl) (by omega) (by omega)
        refine q_iald X w (k := C) hP.2.2.1 (g_in p_43 (by omega)) dX0_leaps_44 ?_
        refine q_topE (y := fc ((yr % (reps ρ)) + 1).toNat) (congrArg fc (g_tn p_43)) ?_
        refine lv_aload_n hx hb dX0_leaps_45 rfl (lv_at hl 1 rfl) ?_
        refine q_get X w inX0 rfl 8 (by decide) fl_X0_49 (k := q) hP.1 rfl dX0_leaps_46 ?_
        refine lv_iload_n hx hb dX0_leaps_49 rfl (lv_at hl 0 rfl) ?_
        refine q_iald X w (k := C) hP.2.2.1 (g_in z_12 (by omega)) dX0_leaps_50 ?_
        refine q_topE (y := fc (yr % (reps ρ)).toNat) (congrArg fc (g_tn z_12)) ?_
        have hs : lcN ρ (yr % reps ρ + 1).toNat = lcN ρ (yr % reps ρ).toNat + (if leap ρ yr = true then 1 else 0) := by rw [show (yr % reps ρ + 1).toNat = (yr % reps ρ).toNat + 1 by omega, lcN, show (((yr % reps ρ).toNat : Nat) : Int) = yr % reps ρ by omega, leap_per hO hR yr]
        refine lv_icmp_le (tgt := 58) hx hb dX0_leaps_51 (by decide) (fun c_51 => ?_) (fun c_51 => ?_)
        · skip
          have k_51 : (lcN ρ (((yr % (reps ρ)) + 1)).toNat) ≤ (lcN ρ ((yr % (reps ρ))).toNat) := (g_le (kc ((yr % (reps ρ)) + 1) (by omega) (by omega)) (kc (yr % (reps ρ)) (by omega) (by omega))).mp c_51
          refine lv_iconst (v := 0) hx hb dX0_leaps_58 (by decide) ?_
          exact q_pretz X w dX0_leaps_59 (rfl) (by exact bI_0 (fun y => by rw [if_pos y] at hs; omega))
        · skip
          have k_51 : ¬ ((lcN ρ (((yr % (reps ρ)) + 1)).toNat) ≤ (lcN ρ ((yr % (reps ρ))).toNat)) := fun h => c_51 ((g_le (kc ((yr % (reps ρ)) + 1) (by omega) (by omega)) (kc (yr % (reps ρ)) (by omega) (by omega))).mpr h)
          refine lv_iconst (v := 1) hx hb dX0_leaps_54 (by decide) ?_
          refine lv_goto (tgt := 59) hx hb dX0_leaps_55 (by decide) ?_
          exact q_pretz X w dX0_leaps_59 (rfl) (by exact bI_1 (by by_cases y : leap ρ yr = true; exact y; (rw [if_neg y] at hs; omega)))
      · skip
        have k_32 : ¬ (((yr % (reps ρ)) + 1) < (reps ρ + 1)) := fun h => c_32 ((g_lt p_26 ((ofN_t (by omega)).trans (by omega))).mpr h)
        exfalso; omega

set_option maxHeartbeats 4000000 in
set_option maxRecDepth 100000 in
theorem c_X0_leapYearsBefore_w (l : Launch) (D : va_G) (t : Nat → ClassId) (b n : Nat) (σ : qM) (q L C : Nat) (K fl fc : Nat → Int32) (ρ : Row) (hP : CalW t b σ q L C K fl fc ρ) (a_yr : Int32) (yr : Int) (e_yr : a_yr.toInt = yr) (h_1 : -3000 ≤ yr ∧ yr ≤ 3000) : qP l yX0_leapYearsBefore cX0_leapYearsBefore 4 (some .int) 2 D t b n σ [.ref (b + q), .int a_yr] (fun z => z.toInt = lpb ρ yr) := by
  refine qP.of (by decide +kernel) (Nat.le_of_ble_eq_true rfl) (fun p e s m args below meth c X w ls hl => ?_)
  have hx := X.1
  have hb := X.2.1
  have hl : lv_has ls 4 [(0, .ref (b + q)), (1, .int a_yr)] := hl
  obtain ⟨hO, hR, k1, k5, k7, kc⟩ := hP.2.2.2
  have hm := hO.months
  have hrb := reps_bd hO hR
  have hm0 := Int.emod_nonneg yr (show reps ρ ≠ 0 from hR)
  have hm1 := Int.emod_lt_of_pos yr (show 0 < reps ρ by omega)
  have hdv := Int.emod_add_mul_ediv yr (reps ρ)
  have hcm := Int.mul_comm (reps ρ) (yr / reps ρ)
  have hdb := ediv_b h_1 hrb.1
  have hlc := lcN_bd ρ (reps ρ).toNat
  have hlr := lcN_bd ρ (yr % reps ρ).toNat
  have hlr2 := lcN_bd ρ (yr - yr / reps ρ * reps ρ).toNat
  have hmb := mulb (x := yr / reps ρ) (y := lcN ρ (reps ρ).toNat) hdb (by omega)
  refine lv_aload_n hx hb dX0_leapYearsBefore_0 rfl (lv_at hl 0 rfl) ?_
  refine q_get X w inX0 rfl 7 (by decide) fl_X0_52 (k := q) hP.1 rfl dX0_leapYearsBefore_1 ?_
  refine lv_iconst (v := 1) hx hb dX0_leapYearsBefore_4 (by decide) ?_
  refine lv_icmp_lt (tgt := 20) hx hb dX0_leapYearsBefore_5 (by decide) (fun c_5 => ?_) (fun c_5 => ?_)
  · skip
    have k_5 : (reps ρ) < 1 := (g_lt k7 (show (1 : Int32).toInt = 1 from rfl)).mp c_5
    exfalso; omega
  · skip
    have k_5 : ¬ ((reps ρ) < 1) := fun h => c_5 ((g_lt k7 (show (1 : Int32).toInt = 1 from rfl)).mpr h)
    refine lv_aload_n hx hb dX0_leapYearsBefore_8 rfl (lv_at hl 0 rfl) ?_
    refine q_get X w inX0 rfl 7 (by decide) fl_X0_52 (k := q) hP.1 rfl dX0_leapYearsBefore_9 ?_
    refine lv_aload_n hx hb dX0_leapYearsBefore_12 rfl (lv_at hl 0 rfl) ?_
    refine q_get X w inX0 rfl 8 (by decide) fl_X0_49 (k := q) hP.1 rfl dX0_leapYearsBefore_13 ?_
    refine q_alen X w 0 rfl (k := C) hP.2.2.1 dX0_leapYearsBefore_16 ?_
    refine lv_icmp_lt (tgt := 22) hx hb dX0_leapYearsBefore_17 (by decide) (fun c_17 => ?_) (fun c_17 => ?_)
    · skip
      have k_17 : (reps ρ) < (reps ρ + 1) := (g_lt k7 ((ofN_t (by omega)).trans (by omega))).mp c_17
      refine lv_iload_n hx hb dX0_leapYearsBefore_22 rfl (lv_at hl 1 rfl) ?_
      refine lv_aload_n hx hb dX0_leapYearsBefore_23 rfl (lv_at hl 0 rfl) ?_
      refine q_get X w inX0 rfl 7 (by decide) fl_X0_52 (k := q) hP.1 rfl dX0_leapYearsBefore_24 ?_
      refine q_cPS X w (c_J9_floorDiv_7cf53 l a_yr (K 7) yr (reps ρ) e_yr k7 (by first | assumption | omega) D t b n _) v_X0_162 rfl ⟨Nat.le_of_ble_eq_true rfl, Nat.le_of_ble_eq_true rfl⟩ rfl hl.1 (Nat.le_of_ble_eq_true rfl) dX0_leapYearsBefore_27 ⟨Nat.zero_le _, Nat.zero_le _⟩ (fun r_27 z_27 => ?_)
      refine lv_istore_n (lv' := [(2, .int r_27), (0, .ref (b + q)), (1, .int a_yr)]) hx hb dX0_leapYearsBefore_30 rfl hl (by decide) rfl (fun ls hl => ?_)
      refine lv_iload_n hx hb dX0_leapYearsBefore_31 rfl (lv_at hl 2 rfl) ?_
      refine lv_iload_n hx hb dX0_leapYearsBefore_32 rfl (lv_at hl 0 rfl) ?_
      refine lv_aload_n hx hb dX0_leapYearsBefore_33 rfl (lv_at hl 1 rfl) ?_
      refine q_get X w inX0 rfl 7 (by decide) fl_X0_52 (k := q) hP.1 rfl dX0_leapYearsBefore_34 ?_
      refine lv_imul hx hb dX0_leapYearsBefore_37 ?_
      refine lv_topi (fun x_37 e_37 => ?_)
      have p_37 : x_37.toInt = ((yr / (reps ρ)) * (reps ρ)) := by rw [e_37]; exact t_mul z_27 k7 (by omega) (by omega)
      refine lv_isub hx hb dX0_leapYearsBefore_38 ?_
      refine lv_topi (fun x_38 e_38 => ?_)
      have p_38 : x_38.toInt = (yr - ((yr / (reps ρ)) * (reps ρ))) := by rw [e_38]; exact t_sub e_yr p_37 (by omega) (by omega)
      refine lv_istore_n (lv' := [(3, .int x_38), (2, .int r_27), (0, .ref (b + q)), (1, .int a_yr)]) hx hb dX0_leapYearsBefore_39 rfl hl (by decide) rfl (fun ls hl => ?_)
      refine lv_iload_n hx hb dX0_leapYearsBefore_40 rfl (lv_at hl 0 rfl) ?_
      refine lv_if_lt (tgt := 53) hx hb dX0_leapYearsBefore_41 (by decide) (fun c_41 => ?_) (fun c_41 => ?_)
      · skip
        have k_41 : (yr - ((yr / (reps ρ)) * (reps ρ))) < 0 := (g_lt p_38 (show (0 : Int32).toInt = 0 from rfl)).mp c_41
        exfalso; omega
      · skip
        have k_41 : ¬ ((yr - ((yr / (reps ρ)) * (reps ρ))) < 0) := fun h => c_41 ((g_lt p_38 (show (0 : Int32).toInt = 0 from rfl)).mpr h)
        refine lv_iload_n hx hb dX0_leapYearsBefore_44 rfl (lv_at hl 0 rfl) ?_
        refine lv_aload_n hx hb dX0_leapYearsBefore_45 rfl (lv_at hl 2 rfl) ?_
        refine q_get X w inX0 rfl 8 (by decide) fl_X0_49 (k := q) hP.1 rfl dX0_leapYearsBefore_46 ?_
        refine q_alen X w 0 rfl (k := C) hP.2.2.1 dX0_leapYearsBefore_49 ?_
        refine lv_icmp_lt (tgt := 55) hx hb dX0_leapYearsBefore_50 (by decide) (fun c_50 => ?_) (fun c_50 => ?_)
        · skip
          have k_50 : (yr - ((yr / (reps ρ)) * (reps ρ))) < (reps ρ + 1) := (g_lt p_38 ((ofN_t (by omega)).trans (by omega))).mp c_50
          refine lv_iload_n hx hb dX0_leapYearsBefore_55 rfl (lv_at hl 1 rfl) ?_
          refine lv_aload_n hx hb dX0_leapYearsBefore_56 rfl (lv_at hl 2 rfl) ?_
          refine q_get X w inX0 rfl 8 (by decide) fl_X0_49 (k := q) hP.1 rfl dX0_leapYearsBefore_57 ?_
          refine lv_aload_n hx hb dX0_leapYearsBefore_60 rfl (lv_at hl 2 rfl) ?_
          refine q_get X w inX0 rfl 7 (by decide) fl_X0_52 (k := q) hP.1 rfl dX0_leapYearsBefore_61 ?_
          refine q_iald X w (k := C) hP.2.2.1 (g_in k7 (by omega)) dX0_leapYearsBefore_64 ?_
          refine q_topE (y := fc (reps ρ).toNat) (congrArg fc (g_tn k7)) ?_
          refine lv_imul hx hb dX0_leapYearsBefore_65 ?_
          refine lv_topi (fun x_65 e_65 => ?_)
          have p_65 : x_65.toInt = ((yr / (reps ρ)) * (lcN ρ ((reps ρ)).toNat)) := by rw [e_65]; exact t_mul z_27 (kc (reps ρ) (by omega) (by omega)) (by omega) (by omega)
          refine lv_aload_n hx hb dX0_leapYearsBefore_66 rfl (lv_at hl 2 rfl) ?_
          refine q_get X w inX0 rfl 8 (by decide) fl_X0_49 (k := q) hP.1 rfl dX0_leapYearsBefore_67 ?_
          refine lv_iload_n hx hb dX0_leapYearsBefore_70 rfl (lv_at hl 0 rfl) ?_
          refine q_iald X w (k := C) hP.2.2.1 (g_in p_38 (by omega)) dX0_leapYearsBefore_71 ?_
          refine q_topE (y := fc (yr - ((yr / (reps ρ)) * (reps ρ))).toNat) (congrArg fc (g_tn p_38)) ?_
          refine lv_iadd hx hb dX0_leapYearsBefore_72 ?_
          refine lv_topi (fun x_72 e_72 => ?_)
          have p_72 : x_72.toInt = (((yr / (reps ρ)) * (lcN ρ ((reps ρ)).toNat)) + (lcN ρ ((yr - ((yr / (reps ρ)) * (reps ρ)))).toNat)) := by rw [e_72]; exact t_add p_65 (kc (yr - ((yr / (reps ρ)) * (reps ρ))) (by omega) (by omega)) (by omega) (by omega)
          exact q_pret X w dX0_leapYearsBefore_73 (by unfold lpb; rw [p_72, show yr - yr / reps ρ * reps ρ = yr % reps ρ by omega])
        · skip
          have k_50 : ¬ ((yr - ((yr / (reps ρ)) * (reps ρ))) < (reps ρ + 1)) := fun h => c_50 ((g_lt p_38 ((ofN_t (by omega)).trans (by omega))).mpr h)
          exfalso; omega
    · skip
      have k_17 : ¬ ((reps ρ) < (reps ρ + 1)) := fun h => c_17 ((g_lt k7 ((ofN_t (by omega)).trans (by omega))).mpr h)
      exfalso; omega

set_option maxHeartbeats 4000000 in
set_option maxRecDepth 100000 in
theorem c_X0_lengthOfYear_w (l : Launch) (D : va_G) (t : Nat → ClassId) (b n : Nat) (σ : qM) (q L C : Nat) (K fl fc : Nat → Int32) (ρ : Row) (hP : CalW t b σ q L C K fl fc ρ) (a_yr : Int32) (yr : Int) (e_yr : a_yr.toInt = yr) : qP l yX0_lengthOfYear cX0_lengthOfYear 2 (some .int) 2 D t b n σ [.ref (b + q), .int a_yr] (fun z => z.toInt = ylen ρ yr) := by
  refine qP.of (by decide +kernel) (Nat.le_of_ble_eq_true rfl) (fun p e s m args below meth c X w ls hl => ?_)
  have hx := X.1
  have hb := X.2.1
  have hl : lv_has ls 2 [(0, .ref (b + q)), (1, .int a_yr)] := hl
  obtain ⟨hO, hR, k1, k5, k7, kc⟩ := hP.2.2.2
  have hm := hO.months
  have hrb := reps_bd hO hR
  have hs := hO.sum
  have hxb := extD_bd hO
  refine lv_aload_n hx hb dX0_lengthOfYear_0 rfl (lv_at hl 0 rfl) ?_
  refine lv_iload_n hx hb dX0_lengthOfYear_1 rfl (lv_at hl 1 rfl) ?_
  refine q_cPV X w (c_X0_leaps_w l D t b n σ q L C K fl fc ρ hP a_yr yr e_yr) v_X0_92 (k := q) hP.1 rfl rfl ⟨Nat.le_of_ble_eq_true rfl, Nat.le_of_ble_eq_true rfl⟩ rfl hl.1 (Nat.le_of_ble_eq_true rfl) dX0_lengthOfYear_2 ⟨Nat.zero_le _, Nat.zero_le _⟩ (fun r_2 z_2 => ?_)
  refine lv_if_eq (tgt := 20) hx hb dX0_lengthOfYear_5 (by decide) (fun c_5 => ?_) (fun c_5 => ?_)
  · skip
    rw [z_2] at c_5
    have k_5 := bI_f.mp c_5
    refine lv_aload_n hx hb dX0_lengthOfYear_20 rfl (lv_at hl 0 rfl) ?_
    refine q_get X w inX0 rfl 1 (by decide) fl_X0_25 (k := q) hP.1 rfl dX0_lengthOfYear_21 ?_
    exact q_pret X w dX0_lengthOfYear_24 (by rw [k1, ylen_x, if_neg k_5]; omega)
  · skip
    rw [z_2] at c_5
    have k_5 := bI_t.mp c_5
    refine lv_aload_n hx hb dX0_lengthOfYear_8 rfl (lv_at hl 0 rfl) ?_
    refine q_get X w inX0 rfl 1 (by decide) fl_X0_25 (k := q) hP.1 rfl dX0_lengthOfYear_9 ?_
    refine lv_aload_n hx hb dX0_lengthOfYear_12 rfl (lv_at hl 0 rfl) ?_
    refine q_get X w inX0 rfl 5 (by decide) fl_X0_41 (k := q) hP.1 rfl dX0_lengthOfYear_13 ?_
    refine lv_iadd hx hb dX0_lengthOfYear_16 ?_
    refine lv_topi (fun x_16 e_16 => ?_)
    have p_16 : x_16.toInt = ((sumL ρ (rv ρ 0).toNat) + (extD ρ)) := by rw [e_16]; exact t_add k1 k5 (by omega) (by omega)
    refine lv_goto (tgt := 24) hx hb dX0_lengthOfYear_17 (by decide) ?_
    exact q_pret X w dX0_lengthOfYear_24 (by rw [p_16, ylen_x, if_pos k_5]; omega)

set_option maxHeartbeats 4000000 in
set_option maxRecDepth 100000 in
theorem c_X0_startOfYear_w (l : Launch) (D : va_G) (t : Nat → ClassId) (b n : Nat) (σ : qM) (q L C : Nat) (K fl fc : Nat → Int32) (ρ : Row) (hP : CalW t b σ q L C K fl fc ρ) (a_yr : Int32) (yr : Int) (e_yr : a_yr.toInt = yr) (h_1 : -3000 ≤ yr ∧ yr ≤ 3000) (h_2 : (K 12).toInt = fst ρ 0) : qP l yX0_startOfYear cX0_startOfYear 2 (some .int) 3 D t b n σ [.ref (b + q), .int a_yr] (fun z => z.toInt = fst ρ yr) := by
  refine qP.of (by decide +kernel) (Nat.le_of_ble_eq_true rfl) (fun p e s m args below meth c X w ls hl => ?_)
  have hx := X.1
  have hb := X.2.1
  have hl : lv_has ls 2 [(0, .ref (b + q)), (1, .int a_yr)] := hl
  obtain ⟨hO, hR, k1, k5, k7, kc⟩ := hP.2.2.2
  have hm := hO.months
  have hrb := reps_bd hO hR
  have h_k12 := h_2
  have hs := hO.sum
  have hxb := extD_bd hO
  have hlb := lpb_bd hO hR h_1.1 h_1.2
  have hm1 := mulb (x := yr) (y := sumL ρ (rv ρ 0).toNat) h_1 (by omega)
  have hm2 := mulb (x := lpb ρ yr) (y := extD ρ) hlb (by omega)
  have hf0 := fst_bd hO (y := 0) (by omega) (by omega)
  refine lv_aload_n hx hb dX0_startOfYear_0 rfl (lv_at hl 0 rfl) ?_
  refine q_get X w inX0 rfl 12 (by decide) fl_X0_71 (k := q) hP.1 rfl dX0_startOfYear_1 ?_
  refine lv_iload_n hx hb dX0_startOfYear_4 rfl (lv_at hl 1 rfl) ?_
  refine lv_aload_n hx hb dX0_startOfYear_5 rfl (lv_at hl 0 rfl) ?_
  refine q_get X w inX0 rfl 1 (by decide) fl_X0_25 (k := q) hP.1 rfl dX0_startOfYear_6 ?_
  refine lv_imul hx hb dX0_startOfYear_9 ?_
  refine lv_topi (fun x_9 e_9 => ?_)
  have p_9 : x_9.toInt = (yr * (sumL ρ (rv ρ 0).toNat)) := by rw [e_9]; exact t_mul e_yr k1 (by omega) (by omega)
  refine lv_iadd hx hb dX0_startOfYear_10 ?_
  refine lv_topi (fun x_10 e_10 => ?_)
  have p_10 : x_10.toInt = ((fst ρ 0) + (yr * (sumL ρ (rv ρ 0).toNat))) := by rw [e_10]; exact t_add h_k12 p_9 (by omega) (by omega)
  refine lv_aload_n hx hb dX0_startOfYear_11 rfl (lv_at hl 0 rfl) ?_
  refine lv_iload_n hx hb dX0_startOfYear_12 rfl (lv_at hl 1 rfl) ?_
  refine q_cPV X w (c_X0_leapYearsBefore_w l D t b n σ q L C K fl fc ρ hP a_yr yr e_yr (by first | assumption | omega)) v_X0_83 (k := q) hP.1 rfl rfl ⟨Nat.le_of_ble_eq_true rfl, Nat.le_of_ble_eq_true rfl⟩ rfl hl.1 (Nat.le_of_ble_eq_true rfl) dX0_startOfYear_13 ⟨Nat.zero_le _, Nat.zero_le _⟩ (fun r_13 z_13 => ?_)
  refine lv_aload_n hx hb dX0_startOfYear_16 rfl (lv_at hl 0 rfl) ?_
  refine q_get X w inX0 rfl 5 (by decide) fl_X0_41 (k := q) hP.1 rfl dX0_startOfYear_17 ?_
  refine lv_imul hx hb dX0_startOfYear_20 ?_
  refine lv_topi (fun x_20 e_20 => ?_)
  have p_20 : x_20.toInt = ((lpb ρ yr) * (extD ρ)) := by rw [e_20]; exact t_mul z_13 k5 (by omega) (by omega)
  refine lv_iadd hx hb dX0_startOfYear_21 ?_
  refine lv_topi (fun x_21 e_21 => ?_)
  have p_21 : x_21.toInt = (((fst ρ 0) + (yr * (sumL ρ (rv ρ 0).toNat))) + ((lpb ρ yr) * (extD ρ))) := by rw [e_21]; exact t_add p_10 p_20 (by omega) (by omega)
  exact q_pret X w dX0_startOfYear_22 (by exact p_21.trans (fst_lin hO hR yr).symm)
