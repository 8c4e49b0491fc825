set_option maxHeartbeats 4000000 in
set_option maxRecDepth 100000 in
theorem c_X0_leaps (l : Launch) (D : va_G) (t : Nat → ClassId) (b n : Nat) (σ : qM) (q L C : Nat) (K fl fc : Nat → Int32) (ρ : Row) (hP : CalP t b σ q L C K fl fc ρ) (a_yr : Int32) (yr : Int) (e_yr : a_yr.toInt = yr) : qP l yX0_leaps cX0_leaps 3 (some .boolean) 1 D t b n σ [.ref (b + q), .int a_yr] (fun z => z = bI (decide (leap ρ yr = true))) := by
  refine qP.of (by decide +kernel) (Nat.le_of_ble_eq_true rfl) (fun p e s m args below meth c X w ls hl => ?_)
  have hx := X.1
  have hb := X.2.1
  have hl : lv_has ls 3 [(0, .ref (b + q)), (1, .int a_yr)] := hl
  obtain ⟨hO, hR, k1, k2, k3, k4, k5, k6, k7, k9, k10, k11, k12, k13, k14, kl, kc⟩ := hP.2.2.2
  have hm := hO.months
  have hrb := reps_bd hO hR
  refine lv_aload_n hx hb dX0_leaps_0 rfl (lv_at hl 0 rfl) ?_
  refine cg_period X w hP dX0_leaps_1 ?_
  refine lv_if_le (tgt := 18) hx hb dX0_leaps_4 (by decide) (fun c_4 => ?_) (fun c_4 => ?_)
  · skip
    have k_4 : (reps ρ) ≤ 0 := (g_le k7 (show (0 : Int32).toInt = 0 from rfl)).mp c_4
    exfalso; omega
  · skip
    have k_4 : ¬ ((reps ρ) ≤ 0) := fun h => c_4 ((g_le k7 (show (0 : Int32).toInt = 0 from rfl)).mpr h)
    refine lv_iload_n hx hb dX0_leaps_7 rfl (lv_at hl 1 rfl) ?_
    refine lv_aload_n hx hb dX0_leaps_8 rfl (lv_at hl 0 rfl) ?_
    refine cg_period X w hP dX0_leaps_9 ?_
    refine q_cPS X w (c_J9_floorMod_7cf53 l a_yr (K 7) yr (reps ρ) e_yr k7 (by first | assumption | omega) D t b n _) v_X0_86 rfl ⟨Nat.le_of_ble_eq_true rfl, Nat.le_of_ble_eq_true rfl⟩ rfl hl.1 (Nat.le_of_ble_eq_true rfl) dX0_leaps_12 ⟨Nat.zero_le _, Nat.zero_le _⟩ (fun r_12 z_12 => ?_)
    refine lv_goto (tgt := 19) hx hb dX0_leaps_15 (by decide) ?_
    refine lv_istore_n (lv' := [(2, .int r_12), (0, .ref (b + q)), (1, .int a_yr)]) hx hb dX0_leaps_19 rfl hl (by decide) rfl (fun ls hl => ?_)
    refine lv_iload_n hx hb dX0_leaps_20 rfl (lv_at hl 0 rfl) ?_
    have hm0 := Int.emod_nonneg yr (show reps ρ ≠ 0 from hR)
    refine lv_if_lt (tgt := 35) hx hb dX0_leaps_21 (by decide) (fun c_21 => ?_) (fun c_21 => ?_)
    · skip
      have k_21 : (yr % (reps ρ)) < 0 := (g_lt z_12 (show (0 : Int32).toInt = 0 from rfl)).mp c_21
      exfalso; omega
    · skip
      have k_21 : ¬ ((yr % (reps ρ)) < 0) := fun h => c_21 ((g_lt z_12 (show (0 : Int32).toInt = 0 from rfl)).mpr h)
      have hm0 := Int.emod_nonneg yr (show reps ρ ≠ 0 from hR)
      have hm1 := Int.emod_lt_of_pos yr (show 0 < reps ρ by omega)
      refine lv_iload_n hx hb dX0_leaps_24 rfl (lv_at hl 0 rfl) ?_
      refine lv_iconst (v := 1) hx hb dX0_leaps_25 (by decide) ?_
      refine lv_iadd hx hb dX0_leaps_26 ?_
      refine lv_topi (fun x_26 e_26 => ?_)
      have p_26 : x_26.toInt = ((yr % (reps ρ)) + 1) := by rw [e_26]; exact t_add z_12 (show (1 : Int32).toInt = 1 from rfl) (by omega) (by omega)
      refine lv_aload_n hx hb dX0_leaps_27 rfl (lv_at hl 1 rfl) ?_
      refine cg_leapCounts X w hP dX0_leaps_28 ?_
      refine cn_leapCounts X w hP dX0_leaps_31 ?_
      have hm1 := Int.emod_lt_of_pos yr (show 0 < reps ρ by omega)
      refine lv_icmp_lt (tgt := 37) hx hb dX0_leaps_32 (by decide) (fun c_32 => ?_) (fun c_32 => ?_)
      · skip
        have k_32 : ((yr % (reps ρ)) + 1) < (reps ρ + 1) := (g_lt p_26 ((ofN_t (by omega)).trans (by omega))).mp c_32
        refine lv_aload_n hx hb dX0_leaps_37 rfl (lv_at hl 1 rfl) ?_
        refine cg_leapCounts X w hP dX0_leaps_38 ?_
        refine lv_iload_n hx hb dX0_leaps_41 rfl (lv_at hl 0 rfl) ?_
        refine lv_iconst (v := 1) hx hb dX0_leaps_42 (by decide) ?_
        refine lv_iadd hx hb dX0_leaps_43 ?_
        refine lv_topi (fun x_43 e_43 => ?_)
        have p_43 : x_43.toInt = ((yr % (reps ρ)) + 1) := by rw [e_43]; exact t_add z_12 (show (1 : Int32).toInt = 1 from rfl) (by omega) (by omega)
        refine cl_leapCounts X w hP (g_in p_43 (by omega)) dX0_leaps_44 ?_
        refine q_topE (y := fc ((yr % (reps ρ)) + 1).toNat) (congrArg fc (g_tn p_43)) ?_
        refine lv_aload_n hx hb dX0_leaps_45 rfl (lv_at hl 1 rfl) ?_
        refine cg_leapCounts X w hP dX0_leaps_46 ?_
        refine lv_iload_n hx hb dX0_leaps_49 rfl (lv_at hl 0 rfl) ?_
        refine cl_leapCounts X w hP (g_in z_12 (by omega)) dX0_leaps_50 ?_
        refine q_topE (y := fc (yr % (reps ρ)).toNat) (congrArg fc (g_tn z_12)) ?_
        have hs : lcN ρ (yr % reps ρ + 1).toNat = lcN ρ (yr % reps ρ).toNat + (if leap ρ yr = true then 1 else 0) := by rw [show (yr % reps ρ + 1).toNat = (yr % reps ρ).toNat + 1 by omega, lcN, show (((yr % reps ρ).toNat : Nat) : Int) = yr % reps ρ by omega, leap_per hO hR yr]
        refine lv_icmp_le (tgt := 58) hx hb dX0_leaps_51 (by decide) (fun c_51 => ?_) (fun c_51 => ?_)
        · skip
          have k_51 : (lcN ρ (((yr % (reps ρ)) + 1)).toNat) ≤ (lcN ρ ((yr % (reps ρ))).toNat) := (g_le (kc ((yr % (reps ρ)) + 1) (by omega) (by omega)) (kc (yr % (reps ρ)) (by omega) (by omega))).mp c_51
          refine lv_iconst (v := 0) hx hb dX0_leaps_58 (by decide) ?_
          exact q_pretz X w dX0_leaps_59 (rfl) (by exact bI_0 (fun y => by rw [if_pos y] at hs; omega))
        · skip
          have k_51 : ¬ ((lcN ρ (((yr % (reps ρ)) + 1)).toNat) ≤ (lcN ρ ((yr % (reps ρ))).toNat)) := fun h => c_51 ((g_le (kc ((yr % (reps ρ)) + 1) (by omega) (by omega)) (kc (yr % (reps ρ)) (by omega) (by omega))).mpr h)
          refine lv_iconst (v := 1) hx hb dX0_leaps_54 (by decide) ?_
          refine lv_goto (tgt := 59) hx hb dX0_leaps_55 (by decide) ?_
          exact q_pretz X w dX0_leaps_59 (rfl) (by exact bI_1 (by by_cases y : leap ρ yr = true; exact y; (rw [if_neg y] at hs; omega)))
      · skip
        have k_32 : ¬ (((yr % (reps ρ)) + 1) < (reps ρ + 1)) := fun h => c_32 ((g_lt p_26 ((ofN_t (by omega)).trans (by omega))).mpr h)
        exfalso; omega
