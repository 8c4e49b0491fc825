set_option maxHeartbeats 4000000 in
set_option maxRecDepth 100000 in
theorem c_X8_isFrom (l : Launch) (a_v : Int32) (a_lo : Int32) (a_hi : Int32) (v : Int) (lo : Int) (hi : Int) (e_v : a_v.toInt = v) (e_lo : a_lo.toInt = lo) (e_hi : a_hi.toInt = hi) : qF l yX8_isFrom cX8_isFrom 3 (some .boolean) 0 [.int a_v, .int a_lo, .int a_hi] (fun z => z = bI (decide (lo ≤ v ∧ v ≤ hi))) := by
  intro D t b n σ
  refine qP.of (by decide +kernel) (Nat.le_of_ble_eq_true rfl) (fun p e s m args below meth c X w ls hl => ?_)
  have hx := X.1
  have hb := X.2.1
  have hl : lv_has ls 3 [(0, .int a_v), (1, .int a_lo), (2, .int a_hi)] := hl
  refine lv_iload_n hx hb dX8_isFrom_0 rfl (lv_at hl 0 rfl) ?_
  refine lv_iload_n hx hb dX8_isFrom_1 rfl (lv_at hl 1 rfl) ?_
  refine lv_icmp_lt (tgt := 14) hx hb dX8_isFrom_2 (by decide) (fun c_2 => ?_) (fun c_2 => ?_)
  · skip
    have k_2 : v < lo := (g_lt e_v e_lo).mp c_2
    refine lv_iconst (v := 0) hx hb dX8_isFrom_14 (by decide) ?_
    exact q_pretz X w dX8_isFrom_15 (rfl) (by exact bI_0 (by omega))
  · skip
    have k_2 : ¬ (v < lo) := fun h => c_2 ((g_lt e_v e_lo).mpr h)
    refine lv_iload_n hx hb dX8_isFrom_5 rfl (lv_at hl 0 rfl) ?_
    refine lv_iload_n hx hb dX8_isFrom_6 rfl (lv_at hl 2 rfl) ?_
    refine lv_icmp_gt (tgt := 14) hx hb dX8_isFrom_7 (by decide) (fun c_7 => ?_) (fun c_7 => ?_)
    · skip
      have k_7 : hi < v := (g_lt e_hi e_v).mp c_7
      refine lv_iconst (v := 0) hx hb dX8_isFrom_14 (by decide) ?_
      exact q_pretz X w dX8_isFrom_15 (rfl) (by exact bI_0 (by omega))
    · skip
      have k_7 : ¬ (hi < v) := fun h => c_7 ((g_lt e_hi e_v).mpr h)
      refine lv_iconst (v := 1) hx hb dX8_isFrom_10 (by decide) ?_
      refine lv_goto (tgt := 15) hx hb dX8_isFrom_11 (by decide) ?_
      exact q_pretz X w dX8_isFrom_15 (rfl) (by exact bI_1 (by omega))

set_option maxHeartbeats 4000000 in
set_option maxRecDepth 100000 in
theorem c_X8_isYear (l : Launch) (a_yr : Int32) (yr : Int) (e_yr : a_yr.toInt = yr) : qF l yX8_isYear cX8_isYear 1 (some .boolean) 0 [.int a_yr] (fun z => z = bI (decide (-2000 ≤ yr ∧ yr ≤ 2000))) := by
  intro D t b n σ
  refine qP.of (by decide +kernel) (Nat.le_of_ble_eq_true rfl) (fun p e s m args below meth c X w ls hl => ?_)
  have hx := X.1
  have hb := X.2.1
  have hl : lv_has ls 1 [(0, .int a_yr)] := hl
  refine lv_iload_n hx hb dX8_isYear_0 rfl (lv_at hl 0 rfl) ?_
  refine lv_sipush (v := (-2000)) hx hb dX8_isYear_1 (by decide) ?_
  refine lv_icmp_lt (tgt := 18) hx hb dX8_isYear_4 (by decide) (fun c_4 => ?_) (fun c_4 => ?_)
  · skip
    have k_4 : yr < (-2000) := (g_lt e_yr (show ((-2000) : Int32).toInt = (-2000) from rfl)).mp c_4
    refine lv_iconst (v := 0) hx hb dX8_isYear_18 (by decide) ?_
    exact q_pretz X w dX8_isYear_19 (rfl) (by exact bI_0 (by omega))
  · skip
    have k_4 : ¬ (yr < (-2000)) := fun h => c_4 ((g_lt e_yr (show ((-2000) : Int32).toInt = (-2000) from rfl)).mpr h)
    refine lv_iload_n hx hb dX8_isYear_7 rfl (lv_at hl 0 rfl) ?_
    refine lv_sipush (v := 2000) hx hb dX8_isYear_8 (by decide) ?_
    refine lv_icmp_gt (tgt := 18) hx hb dX8_isYear_11 (by decide) (fun c_11 => ?_) (fun c_11 => ?_)
    · skip
      have k_11 : 2000 < yr := (g_lt (show (2000 : Int32).toInt = 2000 from rfl) e_yr).mp c_11
      refine lv_iconst (v := 0) hx hb dX8_isYear_18 (by decide) ?_
      exact q_pretz X w dX8_isYear_19 (rfl) (by exact bI_0 (by omega))
    · skip
      have k_11 : ¬ (2000 < yr) := fun h => c_11 ((g_lt (show (2000 : Int32).toInt = 2000 from rfl) e_yr).mpr h)
      refine lv_iconst (v := 1) hx hb dX8_isYear_14 (by decide) ?_
      refine lv_goto (tgt := 19) hx hb dX8_isYear_15 (by decide) ?_
      exact q_pretz X w dX8_isYear_19 (rfl) (by exact bI_1 (by omega))

set_option maxHeartbeats 4000000 in
set_option maxRecDepth 100000 in
theorem c_X8_isDay (l : Launch) (a_dy : Int32) (dy : Int) (e_dy : a_dy.toInt = dy) : qF l yX8_isDay cX8_isDay 1 (some .boolean) 0 [.int a_dy] (fun z => z = bI (decide (-999999 ≤ dy ∧ dy ≤ 999999))) := by
  intro D t b n σ
  refine qP.of (by decide +kernel) (Nat.le_of_ble_eq_true rfl) (fun p e s m args below meth c X w ls hl => ?_)
  have hx := X.1
  have hb := X.2.1
  have hl : lv_has ls 1 [(0, .int a_dy)] := hl
  refine lv_iload_n hx hb dX8_isDay_0 rfl (lv_at hl 0 rfl) ?_
  refine lv_ldcw hx hb X.2.2.2.1 (X.2.2.1 _ kc_X8_345) dX8_isDay_1 ?_
  refine lv_icmp_lt (tgt := 18) hx hb dX8_isDay_4 (by decide) (fun c_4 => ?_) (fun c_4 => ?_)
  · skip
    have k_4 : dy < (-999999) := (g_lt e_dy (show ((-999999) : Int32).toInt = (-999999) from rfl)).mp c_4
    refine lv_iconst (v := 0) hx hb dX8_isDay_18 (by decide) ?_
    exact q_pretz X w dX8_isDay_19 (rfl) (by exact bI_0 (by omega))
  · skip
    have k_4 : ¬ (dy < (-999999)) := fun h => c_4 ((g_lt e_dy (show ((-999999) : Int32).toInt = (-999999) from rfl)).mpr h)
    refine lv_iload_n hx hb dX8_isDay_7 rfl (lv_at hl 0 rfl) ?_
    refine lv_ldcw hx hb X.2.2.2.1 (X.2.2.1 _ kc_X8_346) dX8_isDay_8 ?_
    refine lv_icmp_gt (tgt := 18) hx hb dX8_isDay_11 (by decide) (fun c_11 => ?_) (fun c_11 => ?_)
    · skip
      have k_11 : 999999 < dy := (g_lt (show (999999 : Int32).toInt = 999999 from rfl) e_dy).mp c_11
      refine lv_iconst (v := 0) hx hb dX8_isDay_18 (by decide) ?_
      exact q_pretz X w dX8_isDay_19 (rfl) (by exact bI_0 (by omega))
    · skip
      have k_11 : ¬ (999999 < dy) := fun h => c_11 ((g_lt (show (999999 : Int32).toInt = 999999 from rfl) e_dy).mpr h)
      refine lv_iconst (v := 1) hx hb dX8_isDay_14 (by decide) ?_
      refine lv_goto (tgt := 19) hx hb dX8_isDay_15 (by decide) ?_
      exact q_pretz X w dX8_isDay_19 (rfl) (by exact bI_1 (by omega))

set_option maxHeartbeats 4000000 in
set_option maxRecDepth 100000 in
theorem c_X0_lengthIn (l : Launch) (D : va_G) (t : Nat → ClassId) (b n : Nat) (σ : qM) (q L C : Nat) (K fl fc : Nat → Int32) (ρ : Row) (hP : CalP t b σ q L C K fl fc ρ) (yr : Int) (a_il : Int32) (a_mo : Int32) (il : Int) (mo : Int) (e_il : a_il.toInt = il) (e_mo : a_mo.toInt = mo) (h_1 : a_il = bI (decide (leap ρ yr = true))) (h_2 : 1 ≤ mo ∧ mo ≤ mcnt ρ yr) : qP l yX0_lengthIn cX0_lengthIn 5 (some .int) 0 D t b n σ [.ref (b + q), .int a_il, .int a_mo] (fun z => z.toInt = mlen ρ yr mo) := by
  refine qP.of (by decide +kernel) (Nat.le_of_ble_eq_true rfl) (fun p e s m args below meth c X w ls hl => ?_)
  have hx := X.1
  have hb := X.2.1
  have hl : lv_has ls 5 [(0, .ref (b + q)), (1, .int a_il), (2, .int a_mo)] := hl
  obtain ⟨hO, hR, k1, k2, k3, k4, k5, k6, k7, k9, k10, k11, k12, k13, k14, kl, kc⟩ := hP.2.2.2
  have hm := hO.months
  have hrb := reps_bd hO hR
  have hil : il = if leap ρ yr = true then 1 else 0 := by rw [← e_il, h_1]; by_cases y : leap ρ yr = true; (rw [if_pos y, decide_eq_true y]; rfl); (rw [if_neg y, decide_eq_false y]; rfl)
  have hmb := mcnt_bd hO yr
  have hxb := extD_bd hO
  refine lv_iload_n hx hb dX0_lengthIn_0 rfl (lv_at hl 2 rfl) ?_
  refine lv_iconst (v := 1) hx hb dX0_lengthIn_1 (by decide) ?_
  refine lv_isub hx hb dX0_lengthIn_2 ?_
  refine lv_topi (fun x_2 e_2 => ?_)
  have p_2 : x_2.toInt = (mo - 1) := by rw [e_2]; exact t_sub e_mo (show (1 : Int32).toInt = 1 from rfl) (by omega) (by omega)
  refine lv_istore_n (lv' := [(3, .int x_2), (0, .ref (b + q)), (1, .int a_il), (2, .int a_mo)]) hx hb dX0_lengthIn_3 rfl hl (by decide) rfl (fun ls hl => ?_)
  refine lv_iload_n hx hb dX0_lengthIn_4 rfl (lv_at hl 2 rfl) ?_
  refine lv_if_eq (tgt := 42) hx hb dX0_lengthIn_5 (by decide) (fun c_5 => ?_) (fun c_5 => ?_)
  · skip
    have k_5 : il = 0 := (g_eq e_il (show (0 : Int32).toInt = 0 from rfl)).mp c_5
    have y : ¬ leap ρ yr = true := fun y => by rw [if_pos y] at hil; omega
    have hmc : mcnt ρ yr = rv ρ 0 := mcnt_f (fun z => y z.2)
    refine lv_iload_n hx hb dX0_lengthIn_42 rfl (lv_at hl 0 rfl) ?_
    refine lv_if_lt (tgt := 64) hx hb dX0_lengthIn_43 (by decide) (fun c_43 => ?_) (fun c_43 => ?_)
    · skip
      have k_43 : (mo - 1) < 0 := (g_lt p_2 (show (0 : Int32).toInt = 0 from rfl)).mp c_43
      exfalso; omega
    · skip
      have k_43 : ¬ ((mo - 1) < 0) := fun h => c_43 ((g_lt p_2 (show (0 : Int32).toInt = 0 from rfl)).mpr h)
      refine lv_iload_n hx hb dX0_lengthIn_46 rfl (lv_at hl 0 rfl) ?_
      refine lv_aload_n hx hb dX0_lengthIn_47 rfl (lv_at hl 1 rfl) ?_
      refine cg_lengths X w hP dX0_lengthIn_48 ?_
      refine cn_lengths X w hP dX0_lengthIn_51 ?_
      refine lv_icmp_ge (tgt := 64) hx hb dX0_lengthIn_52 (by decide) (fun c_52 => ?_) (fun c_52 => ?_)
      · skip
        have k_52 : (rv ρ 0) ≤ (mo - 1) := (g_le ((ofN_t (by omega)).trans (by omega)) p_2).mp c_52
        exfalso; omega
      · skip
        have k_52 : ¬ ((rv ρ 0) ≤ (mo - 1)) := fun h => c_52 ((g_le ((ofN_t (by omega)).trans (by omega)) p_2).mpr h)
        refine lv_aload_n hx hb dX0_lengthIn_55 rfl (lv_at hl 1 rfl) ?_
        refine cg_lengths X w hP dX0_lengthIn_56 ?_
        refine lv_iload_n hx hb dX0_lengthIn_59 rfl (lv_at hl 0 rfl) ?_
        refine cl_lengths X w hP (g_in p_2 (by omega)) dX0_lengthIn_60 ?_
        refine q_topE (y := fl (mo - 1).toNat) (congrArg fl (g_tn p_2)) ?_
        refine lv_goto (tgt := 65) hx hb dX0_lengthIn_61 (by decide) ?_
        have hml := hO.mb (i := 1 + (mo - 1)) (by omega) (by omega)
        refine lv_istore (lv' := [(4, .int (fl (mo - 1).toNat)), (3, .int x_2), (0, .ref (b + q)), (1, .int a_il), (2, .int a_mo)]) hx hb dX0_lengthIn_65 hl (by decide) rfl (fun ls hl => ?_)
        refine lv_iload_n hx hb dX0_lengthIn_67 rfl (lv_at hl 3 rfl) ?_
        refine lv_if_eq (tgt := 97) hx hb dX0_lengthIn_68 (by decide) (fun c_68 => ?_) (fun c_68 => ?_)
        · skip
          have k_68 : il = 0 := (g_eq e_il (show (0 : Int32).toInt = 0 from rfl)).mp c_68
          refine lv_iload hx hb dX0_lengthIn_97 (lv_at hl 0 rfl) ?_
          exact q_pret X w dX0_lengthIn_99 (by rw [(kl (mo - 1) (by omega) (by omega)), mlen_0 (fun z => y z.2), if_neg (fun z => y z.2.2), show 1 + (mo - 1) = mo by omega]; omega)
        · skip
          have k_68 : ¬ (il = 0) := fun h => c_68 ((g_eq e_il (show (0 : Int32).toInt = 0 from rfl)).mpr h)
          exact absurd k_5 k_68
  · skip
    have k_5 : ¬ (il = 0) := fun h => c_5 ((g_eq e_il (show (0 : Int32).toInt = 0 from rfl)).mpr h)
    have y : leap ρ yr = true := by by_cases y : leap ρ yr = true; exact y; (rw [if_neg y] at hil; omega)
    refine lv_aload_n hx hb dX0_lengthIn_8 rfl (lv_at hl 1 rfl) ?_
    refine cg_leap X w hP dX0_lengthIn_9 ?_
    refine lv_iconst (v := 2) hx hb dX0_lengthIn_12 (by decide) ?_
    refine lv_icmp_ne (tgt := 42) hx hb dX0_lengthIn_13 (by decide) (fun c_13 => ?_) (fun c_13 => ?_)
    · skip
      have k_13 : ¬ ((rv ρ 16) = 2) := fun h => c_13 ((g_eq k3 (show (2 : Int32).toInt = 2 from rfl)).mpr h)
      have hmc : mcnt ρ yr = rv ρ 0 := mcnt_f (fun z => k_13 z.1)
      refine lv_iload_n hx hb dX0_lengthIn_42 rfl (lv_at hl 0 rfl) ?_
      refine lv_if_lt (tgt := 64) hx hb dX0_lengthIn_43 (by decide) (fun c_43 => ?_) (fun c_43 => ?_)
      · skip
        have k_43 : (mo - 1) < 0 := (g_lt p_2 (show (0 : Int32).toInt = 0 from rfl)).mp c_43
        exfalso; omega
      · skip
        have k_43 : ¬ ((mo - 1) < 0) := fun h => c_43 ((g_lt p_2 (show (0 : Int32).toInt = 0 from rfl)).mpr h)
        refine lv_iload_n hx hb dX0_lengthIn_46 rfl (lv_at hl 0 rfl) ?_
        refine lv_aload_n hx hb dX0_lengthIn_47 rfl (lv_at hl 1 rfl) ?_
        refine cg_lengths X w hP dX0_lengthIn_48 ?_
        refine cn_lengths X w hP dX0_lengthIn_51 ?_
        refine lv_icmp_ge (tgt := 64) hx hb dX0_lengthIn_52 (by decide) (fun c_52 => ?_) (fun c_52 => ?_)
        · skip
          have k_52 : (rv ρ 0) ≤ (mo - 1) := (g_le ((ofN_t (by omega)).trans (by omega)) p_2).mp c_52
          exfalso; omega
        · skip
          have k_52 : ¬ ((rv ρ 0) ≤ (mo - 1)) := fun h => c_52 ((g_le ((ofN_t (by omega)).trans (by omega)) p_2).mpr h)
          refine lv_aload_n hx hb dX0_lengthIn_55 rfl (lv_at hl 1 rfl) ?_
          refine cg_lengths X w hP dX0_lengthIn_56 ?_
          refine lv_iload_n hx hb dX0_lengthIn_59 rfl (lv_at hl 0 rfl) ?_
          refine cl_lengths X w hP (g_in p_2 (by omega)) dX0_lengthIn_60 ?_
          refine q_topE (y := fl (mo - 1).toNat) (congrArg fl (g_tn p_2)) ?_
          refine lv_goto (tgt := 65) hx hb dX0_lengthIn_61 (by decide) ?_
          have hml := hO.mb (i := 1 + (mo - 1)) (by omega) (by omega)
          refine lv_istore (lv' := [(4, .int (fl (mo - 1).toNat)), (3, .int x_2), (0, .ref (b + q)), (1, .int a_il), (2, .int a_mo)]) hx hb dX0_lengthIn_65 hl (by decide) rfl (fun ls hl => ?_)
          refine lv_iload_n hx hb dX0_lengthIn_67 rfl (lv_at hl 3 rfl) ?_
          refine lv_if_eq (tgt := 97) hx hb dX0_lengthIn_68 (by decide) (fun c_68 => ?_) (fun c_68 => ?_)
          · skip
            have k_68 : il = 0 := (g_eq e_il (show (0 : Int32).toInt = 0 from rfl)).mp c_68
            exact absurd k_68 k_5
          · skip
            have k_68 : ¬ (il = 0) := fun h => c_68 ((g_eq e_il (show (0 : Int32).toInt = 0 from rfl)).mpr h)
            refine lv_aload_n hx hb dX0_lengthIn_71 rfl (lv_at hl 2 rfl) ?_
            refine cg_leap X w hP dX0_lengthIn_72 ?_
            refine lv_iconst (v := 1) hx hb dX0_lengthIn_75 (by decide) ?_
            refine lv_icmp_ne (tgt := 97) hx hb dX0_lengthIn_76 (by decide) (fun c_76 => ?_) (fun c_76 => ?_)
            · skip
              have k_76 : ¬ ((rv ρ 16) = 1) := fun h => c_76 ((g_eq k3 (show (1 : Int32).toInt = 1 from rfl)).mpr h)
              refine lv_iload hx hb dX0_lengthIn_97 (lv_at hl 0 rfl) ?_
              exact q_pret X w dX0_lengthIn_99 (by rw [(kl (mo - 1) (by omega) (by omega)), mlen_0 (fun z => k_13 z.1), if_neg (fun z => k_76 z.1), show 1 + (mo - 1) = mo by omega]; omega)
            · skip
              have k_76 : (rv ρ 16) = 1 := (g_eq k3 (show (1 : Int32).toInt = 1 from rfl)).mp c_76
              have h4 := k4 (by omega)
              refine lv_iload_n hx hb dX0_lengthIn_79 rfl (lv_at hl 4 rfl) ?_
              refine lv_aload_n hx hb dX0_lengthIn_80 rfl (lv_at hl 2 rfl) ?_
              refine cg_leapMonth X w hP dX0_lengthIn_81 ?_
              refine lv_icmp_ne (tgt := 97) hx hb dX0_lengthIn_84 (by decide) (fun c_84 => ?_) (fun c_84 => ?_)
              · skip
                have k_84 : ¬ (mo = ((K 4).toInt)) := fun h => c_84 ((g_eq e_mo rfl).mpr h)
                refine lv_iload hx hb dX0_lengthIn_97 (lv_at hl 0 rfl) ?_
                exact q_pret X w dX0_lengthIn_99 (by rw [(kl (mo - 1) (by omega) (by omega)), mlen_0 (fun z => k_13 z.1), if_neg (fun z => k_84 (z.2.1.trans h4.symm)), show 1 + (mo - 1) = mo by omega]; omega)
              · skip
                have k_84 : mo = ((K 4).toInt) := (g_eq e_mo rfl).mp c_84
                refine lv_iload hx hb dX0_lengthIn_87 (lv_at hl 0 rfl) ?_
                refine lv_aload_n hx hb dX0_lengthIn_89 rfl (lv_at hl 2 rfl) ?_
                refine cg_extra X w hP dX0_lengthIn_90 ?_
                refine lv_iadd hx hb dX0_lengthIn_93 ?_
                refine lv_topi (fun x_93 e_93 => ?_)
                have p_93 : x_93.toInt = ((rv ρ (1 + (mo - 1))) + (extD ρ)) := by rw [e_93]; exact t_add (kl (mo - 1) (by omega) (by omega)) k5 (by omega) (by omega)
                refine lv_goto (tgt := 99) hx hb dX0_lengthIn_94 (by decide) ?_
                exact q_pret X w dX0_lengthIn_99 (by have hx : extD ρ = 1 := (by unfold extD; rw [if_neg (show ¬ rv ρ 16 = 0 by omega), if_pos k_76]); rw [p_93, mlen_0 (fun z => k_13 z.1), if_pos ⟨k_76, k_84.trans h4, y⟩, show 1 + (mo - 1) = mo by omega]; omega)
    · skip
      have k_13 : (rv ρ 16) = 2 := (g_eq k3 (show (2 : Int32).toInt = 2 from rfl)).mp c_13
      have hmc : mcnt ρ yr = rv ρ 0 + 1 := mcnt_t ⟨k_13, y⟩
      have h4 := k4 (by omega)
      have hlm := hO.lm (by omega)
      refine lv_iload_n hx hb dX0_lengthIn_16 rfl (lv_at hl 3 rfl) ?_
      refine lv_aload_n hx hb dX0_lengthIn_17 rfl (lv_at hl 1 rfl) ?_
      refine cg_leapMonth X w hP dX0_lengthIn_18 ?_
      refine lv_icmp_le (tgt := 42) hx hb dX0_lengthIn_21 (by decide) (fun c_21 => ?_) (fun c_21 => ?_)
      · skip
        have k_21 : mo ≤ ((K 4).toInt) := (g_le e_mo rfl).mp c_21
        refine lv_iload_n hx hb dX0_lengthIn_42 rfl (lv_at hl 0 rfl) ?_
        refine lv_if_lt (tgt := 64) hx hb dX0_lengthIn_43 (by decide) (fun c_43 => ?_) (fun c_43 => ?_)
        · skip
          have k_43 : (mo - 1) < 0 := (g_lt p_2 (show (0 : Int32).toInt = 0 from rfl)).mp c_43
          exfalso; omega
        · skip
          have k_43 : ¬ ((mo - 1) < 0) := fun h => c_43 ((g_lt p_2 (show (0 : Int32).toInt = 0 from rfl)).mpr h)
          refine lv_iload_n hx hb dX0_lengthIn_46 rfl (lv_at hl 0 rfl) ?_
          refine lv_aload_n hx hb dX0_lengthIn_47 rfl (lv_at hl 1 rfl) ?_
          refine cg_lengths X w hP dX0_lengthIn_48 ?_
          refine cn_lengths X w hP dX0_lengthIn_51 ?_
          refine lv_icmp_ge (tgt := 64) hx hb dX0_lengthIn_52 (by decide) (fun c_52 => ?_) (fun c_52 => ?_)
          · skip
            have k_52 : (rv ρ 0) ≤ (mo - 1) := (g_le ((ofN_t (by omega)).trans (by omega)) p_2).mp c_52
            exfalso; omega
          · skip
            have k_52 : ¬ ((rv ρ 0) ≤ (mo - 1)) := fun h => c_52 ((g_le ((ofN_t (by omega)).trans (by omega)) p_2).mpr h)
            refine lv_aload_n hx hb dX0_lengthIn_55 rfl (lv_at hl 1 rfl) ?_
            refine cg_lengths X w hP dX0_lengthIn_56 ?_
            refine lv_iload_n hx hb dX0_lengthIn_59 rfl (lv_at hl 0 rfl) ?_
            refine cl_lengths X w hP (g_in p_2 (by omega)) dX0_lengthIn_60 ?_
            refine q_topE (y := fl (mo - 1).toNat) (congrArg fl (g_tn p_2)) ?_
            refine lv_goto (tgt := 65) hx hb dX0_lengthIn_61 (by decide) ?_
            have hml := hO.mb (i := 1 + (mo - 1)) (by omega) (by omega)
            refine lv_istore (lv' := [(4, .int (fl (mo - 1).toNat)), (3, .int x_2), (0, .ref (b + q)), (1, .int a_il), (2, .int a_mo)]) hx hb dX0_lengthIn_65 hl (by decide) rfl (fun ls hl => ?_)
            refine lv_iload_n hx hb dX0_lengthIn_67 rfl (lv_at hl 3 rfl) ?_
            refine lv_if_eq (tgt := 97) hx hb dX0_lengthIn_68 (by decide) (fun c_68 => ?_) (fun c_68 => ?_)
            · skip
              have k_68 : il = 0 := (g_eq e_il (show (0 : Int32).toInt = 0 from rfl)).mp c_68
              exact absurd k_68 k_5
            · skip
              have k_68 : ¬ (il = 0) := fun h => c_68 ((g_eq e_il (show (0 : Int32).toInt = 0 from rfl)).mpr h)
              refine lv_aload_n hx hb dX0_lengthIn_71 rfl (lv_at hl 2 rfl) ?_
              refine cg_leap X w hP dX0_lengthIn_72 ?_
              refine lv_iconst (v := 1) hx hb dX0_lengthIn_75 (by decide) ?_
              refine lv_icmp_ne (tgt := 97) hx hb dX0_lengthIn_76 (by decide) (fun c_76 => ?_) (fun c_76 => ?_)
              · skip
                have k_76 : ¬ ((rv ρ 16) = 1) := fun h => c_76 ((g_eq k3 (show (1 : Int32).toInt = 1 from rfl)).mpr h)
                refine lv_iload hx hb dX0_lengthIn_97 (lv_at hl 0 rfl) ?_
                exact q_pret X w dX0_lengthIn_99 (by rw [(kl (mo - 1) (by omega) (by omega)), mlen_c ⟨k_13, y⟩ (by omega), show 1 + (mo - 1) = mo by omega])
              · skip
                have k_76 : (rv ρ 16) = 1 := (g_eq k3 (show (1 : Int32).toInt = 1 from rfl)).mp c_76
                exfalso; omega
      · skip
        have k_21 : ¬ (mo ≤ ((K 4).toInt)) := fun h => c_21 ((g_le e_mo rfl).mpr h)
        refine lv_iload_n hx hb dX0_lengthIn_24 rfl (lv_at hl 3 rfl) ?_
        refine lv_aload_n hx hb dX0_lengthIn_25 rfl (lv_at hl 1 rfl) ?_
        refine cg_leapMonth X w hP dX0_lengthIn_26 ?_
        refine lv_iconst (v := 1) hx hb dX0_lengthIn_29 (by decide) ?_
        refine lv_iadd hx hb dX0_lengthIn_30 ?_
        refine lv_topi (fun x_30 e_30 => ?_)
        have p_30 : x_30.toInt = (((K 4).toInt) + 1) := by rw [e_30]; exact t_add rfl (show (1 : Int32).toInt = 1 from rfl) (by omega) (by omega)
        refine lv_icmp_ne (tgt := 39) hx hb dX0_lengthIn_31 (by decide) (fun c_31 => ?_) (fun c_31 => ?_)
        · skip
          have k_31 : ¬ (mo = (((K 4).toInt) + 1)) := fun h => c_31 ((g_eq e_mo p_30).mpr h)
          obtain ⟨x_39, e_39⟩ : ∃ z : Int32, z = (x_2 + (-1)) := ⟨_, rfl⟩
          have p_39 : x_39.toInt = ((mo - 1) + (-1)) := by rw [e_39]; exact t_add p_2 (show ((-1) : Int32).toInt = (-1) from rfl) (by omega) (by omega)
          refine lv_iinc (v := x_39) (lv' := [(3, .int x_39), (0, .ref (b + q)), (1, .int a_il), (2, .int a_mo)]) hx hb dX0_lengthIn_39 hl (k := 0) rfl (by rw [e_39]; rfl) (by decide) rfl (fun ls hl => ?_)
          refine lv_iload_n hx hb dX0_lengthIn_42 rfl (lv_at hl 0 rfl) ?_
          refine lv_if_lt (tgt := 64) hx hb dX0_lengthIn_43 (by decide) (fun c_43 => ?_) (fun c_43 => ?_)
          · skip
            have k_43 : ((mo - 1) + (-1)) < 0 := (g_lt p_39 (show (0 : Int32).toInt = 0 from rfl)).mp c_43
            exfalso; omega
          · skip
            have k_43 : ¬ (((mo - 1) + (-1)) < 0) := fun h => c_43 ((g_lt p_39 (show (0 : Int32).toInt = 0 from rfl)).mpr h)
            refine lv_iload_n hx hb dX0_lengthIn_46 rfl (lv_at hl 0 rfl) ?_
            refine lv_aload_n hx hb dX0_lengthIn_47 rfl (lv_at hl 1 rfl) ?_
            refine cg_lengths X w hP dX0_lengthIn_48 ?_
            refine cn_lengths X w hP dX0_lengthIn_51 ?_
            refine lv_icmp_ge (tgt := 64) hx hb dX0_lengthIn_52 (by decide) (fun c_52 => ?_) (fun c_52 => ?_)
            · skip
              have k_52 : (rv ρ 0) ≤ ((mo - 1) + (-1)) := (g_le ((ofN_t (by omega)).trans (by omega)) p_39).mp c_52
              exfalso; omega
            · skip
              have k_52 : ¬ ((rv ρ 0) ≤ ((mo - 1) + (-1))) := fun h => c_52 ((g_le ((ofN_t (by omega)).trans (by omega)) p_39).mpr h)
              refine lv_aload_n hx hb dX0_lengthIn_55 rfl (lv_at hl 1 rfl) ?_
              refine cg_lengths X w hP dX0_lengthIn_56 ?_
              refine lv_iload_n hx hb dX0_lengthIn_59 rfl (lv_at hl 0 rfl) ?_
              refine cl_lengths X w hP (g_in p_39 (by omega)) dX0_lengthIn_60 ?_
              refine q_topE (y := fl ((mo - 1) + (-1)).toNat) (congrArg fl (g_tn p_39)) ?_
              refine lv_goto (tgt := 65) hx hb dX0_lengthIn_61 (by decide) ?_
              have hml := hO.mb (i := 1 + ((mo - 1) + (-1))) (by omega) (by omega)
              refine lv_istore (lv' := [(4, .int (fl ((mo - 1) + (-1)).toNat)), (3, .int x_39), (0, .ref (b + q)), (1, .int a_il), (2, .int a_mo)]) hx hb dX0_lengthIn_65 hl (by decide) rfl (fun ls hl => ?_)
              refine lv_iload_n hx hb dX0_lengthIn_67 rfl (lv_at hl 3 rfl) ?_
              refine lv_if_eq (tgt := 97) hx hb dX0_lengthIn_68 (by decide) (fun c_68 => ?_) (fun c_68 => ?_)
              · skip
                have k_68 : il = 0 := (g_eq e_il (show (0 : Int32).toInt = 0 from rfl)).mp c_68
                exact absurd k_68 k_5
              · skip
                have k_68 : ¬ (il = 0) := fun h => c_68 ((g_eq e_il (show (0 : Int32).toInt = 0 from rfl)).mpr h)
                refine lv_aload_n hx hb dX0_lengthIn_71 rfl (lv_at hl 2 rfl) ?_
                refine cg_leap X w hP dX0_lengthIn_72 ?_
                refine lv_iconst (v := 1) hx hb dX0_lengthIn_75 (by decide) ?_
                refine lv_icmp_ne (tgt := 97) hx hb dX0_lengthIn_76 (by decide) (fun c_76 => ?_) (fun c_76 => ?_)
                · skip
                  have k_76 : ¬ ((rv ρ 16) = 1) := fun h => c_76 ((g_eq k3 (show (1 : Int32).toInt = 1 from rfl)).mpr h)
                  refine lv_iload hx hb dX0_lengthIn_97 (lv_at hl 0 rfl) ?_
                  exact q_pret X w dX0_lengthIn_99 (by rw [(kl ((mo - 1) + (-1)) (by omega) (by omega)), mlen_b ⟨k_13, y⟩ (by omega), show 1 + (mo - 1 + -1) = mo - 1 by omega])
                · skip
                  have k_76 : (rv ρ 16) = 1 := (g_eq k3 (show (1 : Int32).toInt = 1 from rfl)).mp c_76
                  exfalso; omega
        · skip
          have k_31 : mo = (((K 4).toInt) + 1) := (g_eq e_mo p_30).mp c_31
          refine lv_aload_n hx hb dX0_lengthIn_34 rfl (lv_at hl 1 rfl) ?_
          refine cg_extra X w hP dX0_lengthIn_35 ?_
          exact q_pret X w dX0_lengthIn_38 (by rw [k5, mlen_a ⟨k_13, y⟩ (by omega)]; unfold extD; rw [if_neg (show ¬ rv ρ 16 = 0 by omega), if_neg (show ¬ rv ρ 16 = 1 by omega)])

set_option maxHeartbeats 4000000 in
set_option maxRecDepth 100000 in
theorem c_X0_lengthOfMonth (l : Launch) (D : va_G) (t : Nat → ClassId) (b n : Nat) (σ : qM) (q L C : Nat) (K fl fc : Nat → Int32) (ρ : Row) (hP : CalP t b σ q L C K fl fc ρ) (a_yr : Int32) (a_mo : Int32) (yr : Int) (mo : Int) (e_yr : a_yr.toInt = yr) (e_mo : a_mo.toInt = mo) (h_1 : 1 ≤ mo ∧ mo ≤ mcnt ρ yr) : qP l yX0_lengthOfMonth cX0_lengthOfMonth 3 (some .int) 2 D t b n σ [.ref (b + q), .int a_yr, .int a_mo] (fun z => z.toInt = mlen ρ yr mo) := by
  refine qP.of (by decide +kernel) (Nat.le_of_ble_eq_true rfl) (fun p e s m args below meth c X w ls hl => ?_)
  have hx := X.1
  have hb := X.2.1
  have hl : lv_has ls 3 [(0, .ref (b + q)), (1, .int a_yr), (2, .int a_mo)] := hl
  obtain ⟨hO, hR, k1, k2, k3, k4, k5, k6, k7, k9, k10, k11, k12, k13, k14, kl, kc⟩ := hP.2.2.2
  have hm := hO.months
  have hrb := reps_bd hO hR
  refine lv_aload_n hx hb dX0_lengthOfMonth_0 rfl (lv_at hl 0 rfl) ?_
  refine lv_aload_n hx hb dX0_lengthOfMonth_1 rfl (lv_at hl 0 rfl) ?_
  refine lv_iload_n hx hb dX0_lengthOfMonth_2 rfl (lv_at hl 1 rfl) ?_
  refine q_cPV X w (c_X0_leaps l D t b n σ q L C K fl fc ρ hP a_yr yr e_yr) v_X0_92 (k := q) hP.1 rfl rfl ⟨Nat.le_of_ble_eq_true rfl, Nat.le_of_ble_eq_true rfl⟩ rfl hl.1 (Nat.le_of_ble_eq_true rfl) dX0_lengthOfMonth_3 ⟨Nat.zero_le _, Nat.zero_le _⟩ (fun r_3 z_3 => ?_)
  refine lv_iload_n hx hb dX0_lengthOfMonth_6 rfl (lv_at hl 2 rfl) ?_
  refine q_cPV X w (c_X0_lengthIn l D t b n σ q L C K fl fc ρ hP yr r_3 a_mo (r_3).toInt mo rfl e_mo (by exact z_3) (by first | assumption | omega)) v_X0_110 (k := q) hP.1 rfl rfl ⟨Nat.le_of_ble_eq_true rfl, Nat.le_of_ble_eq_true rfl⟩ rfl hl.1 (Nat.le_of_ble_eq_true rfl) dX0_lengthOfMonth_7 ⟨Nat.zero_le _, Nat.zero_le _⟩ (fun r_7 z_7 => ?_)
  exact q_pret X w dX0_lengthOfMonth_10 (by exact z_7)

set_option maxHeartbeats 4000000 in
set_option maxRecDepth 100000 in
theorem c_X0_startOfMonth (l : Launch) (D : va_G) (t : Nat → ClassId) (b n : Nat) (σ : qM) (q L C : Nat) (K fl fc : Nat → Int32) (ρ : Row) (hP : CalP t b σ q L C K fl fc ρ) (a_yr : Int32) (a_mo : Int32) (yr : Int) (mo : Int) (e_yr : a_yr.toInt = yr) (e_mo : a_mo.toInt = mo) (h_1 : -2100 ≤ yr ∧ yr ≤ 2100) (h_2 : 1 ≤ mo ∧ mo ≤ mcnt ρ yr) : qP l yX0_startOfMonth cX0_startOfMonth 6 (some .int) 4 D t b n σ [.ref (b + q), .int a_yr, .int a_mo] (fun z => z.toInt = dnum ρ yr mo 1) := by
  refine qP.of (by decide +kernel) (Nat.le_of_ble_eq_true rfl) (fun p e s m args below meth c X w ls hl => ?_)
  have hx := X.1
  have hb := X.2.1
  have hl : lv_has ls 6 [(0, .ref (b + q)), (1, .int a_yr), (2, .int a_mo)] := hl
  obtain ⟨hO, hR, k1, k2, k3, k4, k5, k6, k7, k9, k10, k11, k12, k13, k14, kl, kc⟩ := hP.2.2.2
  have hm := hO.months
  have hrb := reps_bd hO hR
  have hmb := mcnt_bd hO yr
  have hf := fst_bd hO (y := yr) (by omega) (by omega)
  refine lv_aload_n hx hb dX0_startOfMonth_0 rfl (lv_at hl 0 rfl) ?_
  refine lv_iload_n hx hb dX0_startOfMonth_1 rfl (lv_at hl 1 rfl) ?_
  refine q_cPV X w (c_X0_leaps l D t b n σ q L C K fl fc ρ hP a_yr yr e_yr) v_X0_92 (k := q) hP.1 rfl rfl ⟨Nat.le_of_ble_eq_true rfl, Nat.le_of_ble_eq_true rfl⟩ rfl hl.1 (Nat.le_of_ble_eq_true rfl) dX0_startOfMonth_2 ⟨Nat.zero_le _, Nat.zero_le _⟩ (fun r_2 z_2 => ?_)
  refine lv_istore_n (lv' := [(3, .int r_2), (0, .ref (b + q)), (1, .int a_yr), (2, .int a_mo)]) hx hb dX0_startOfMonth_5 rfl hl (by decide) rfl (fun ls hl => ?_)
  refine lv_aload_n hx hb dX0_startOfMonth_6 rfl (lv_at hl 1 rfl) ?_
  refine lv_iload_n hx hb dX0_startOfMonth_7 rfl (lv_at hl 2 rfl) ?_
  refine q_cPV X w (c_X0_startOfYear l D t b n σ q L C K fl fc ρ hP a_yr yr e_yr (by first | assumption | omega)) v_X0_74 (k := q) hP.1 rfl rfl ⟨Nat.le_of_ble_eq_true rfl, Nat.le_of_ble_eq_true rfl⟩ rfl hl.1 (Nat.le_of_ble_eq_true rfl) dX0_startOfMonth_8 ⟨Nat.zero_le _, Nat.zero_le _⟩ (fun r_8 z_8 => ?_)
  refine lv_istore (lv' := [(4, .int r_8), (3, .int r_2), (0, .ref (b + q)), (1, .int a_yr), (2, .int a_mo)]) hx hb dX0_startOfMonth_11 hl (by decide) rfl (fun ls hl => ?_)
  refine lv_iconst (v := 1) hx hb dX0_startOfMonth_13 (by decide) ?_
  refine lv_istore (lv' := [(5, .int 1), (4, .int r_8), (3, .int r_2), (0, .ref (b + q)), (1, .int a_yr), (2, .int a_mo)]) hx hb dX0_startOfMonth_14 hl (by decide) rfl (fun ls hl => ?_)
  refine q_loop (α := Int32 × Int32 × Int × Int) (fun a => a.1.toInt = a.2.2.1 ∧ a.2.1.toInt = a.2.2.2 ∧ ((1 ≤ a.2.2.2 ∧ a.2.2.2 ≤ mo) ∧ a.2.2.1 = fst ρ yr + msum ρ yr (a.2.2.2 - 1).toNat)) (fun a => (mo - a.2.2.2).toNat) (fun a => ∀ ls : Array Slot, lv_has ls 6 [(5, .int a.2.1), (4, .int a.1), (3, .int r_2), (0, .ref (b + q)), (1, .int a_yr), (2, .int a_mo)] → W p l e (qR 4 0 0) s m args below meth c s.heap [] 0 0 (MQ below (vp_Si (fun z => z.toInt = dnum ρ yr mo 1)) args s 0 0 (fun _ => False)) (F0 m 16 ls [])) ?_ ⟨r_8, 1, fst ρ yr, 1⟩ ⟨z_8, (show (1 : Int32).toInt = 1 from rfl), by dsimp only; exact ⟨by omega, (by rw [show ((1 : Int) - 1).toNat = 0 from rfl, msum]; omega)⟩⟩ ls (lv_sub hl [0, 1, 2, 3, 4, 5] rfl)
  rintro ⟨v_so, v_i, so, i⟩ ⟨q_so, q_i, inv_16⟩ ih_16 ls hl
  dsimp only at q_so q_i inv_16 hl
  have hms := msum_bd hO (y := yr) (i - 1).toNat (by omega)
  refine lv_iload hx hb dX0_startOfMonth_16 (lv_at hl 0 rfl) ?_
  refine lv_iload_n hx hb dX0_startOfMonth_18 rfl (lv_at hl 5 rfl) ?_
  refine lv_icmp_ge (tgt := 47) hx hb dX0_startOfMonth_19 (by decide) (fun c_19 => ?_) (fun c_19 => ?_)
  · skip
    have k_19 : mo ≤ i := (g_le e_mo q_i).mp c_19
    refine lv_iload hx hb dX0_startOfMonth_47 (lv_at hl 1 rfl) ?_
    exact q_pret X w dX0_startOfMonth_49 (by rw [q_so, inv_16.2, show i = mo by omega]; unfold dnum; omega)
  · skip
    have k_19 : ¬ (mo ≤ i) := fun h => c_19 ((g_le e_mo q_i).mpr h)
    refine lv_iload hx hb dX0_startOfMonth_22 (lv_at hl 0 rfl) ?_
    refine lv_bipush (v := 14) hx hb dX0_startOfMonth_24 (by decide) ?_
    refine lv_icmp_gt (tgt := 47) hx hb dX0_startOfMonth_26 (by decide) (fun c_26 => ?_) (fun c_26 => ?_)
    · skip
      have k_26 : 14 < i := (g_lt (show (14 : Int32).toInt = 14 from rfl) q_i).mp c_26
      exfalso; omega
    · skip
      have k_26 : ¬ (14 < i) := fun h => c_26 ((g_lt (show (14 : Int32).toInt = 14 from rfl) q_i).mpr h)
      refine lv_iload hx hb dX0_startOfMonth_29 (lv_at hl 1 rfl) ?_
      refine lv_aload_n hx hb dX0_startOfMonth_31 rfl (lv_at hl 3 rfl) ?_
      refine lv_iload_n hx hb dX0_startOfMonth_32 rfl (lv_at hl 2 rfl) ?_
      refine lv_iload hx hb dX0_startOfMonth_33 (lv_at hl 0 rfl) ?_
      refine q_cPV X w (c_X0_lengthIn l D t b n σ q L C K fl fc ρ hP yr r_2 v_i (r_2).toInt i rfl q_i (by exact z_2) (by first | assumption | omega)) v_X0_110 (k := q) hP.1 rfl rfl ⟨Nat.le_of_ble_eq_true rfl, Nat.le_of_ble_eq_true rfl⟩ rfl hl.1 (Nat.le_of_ble_eq_true rfl) dX0_startOfMonth_35 ⟨Nat.zero_le _, Nat.zero_le _⟩ (fun r_35 z_35 => ?_)
      have hl1 := mlen_bd hO (y := yr) (m := i) (by omega) (by omega)
      refine lv_iadd hx hb dX0_startOfMonth_38 ?_
      refine lv_topi (fun x_38 e_38 => ?_)
      have p_38 : x_38.toInt = (so + (mlen ρ yr i)) := by rw [e_38]; exact t_add q_so z_35 (by omega) (by omega)
      refine lv_istore (lv' := [(4, .int x_38), (5, .int v_i), (3, .int r_2), (0, .ref (b + q)), (1, .int a_yr), (2, .int a_mo)]) hx hb dX0_startOfMonth_39 hl (by decide) rfl (fun ls hl => ?_)
      obtain ⟨x_41, e_41⟩ : ∃ z : Int32, z = (v_i + 1) := ⟨_, rfl⟩
      have p_41 : x_41.toInt = (i + 1) := by rw [e_41]; exact t_add q_i (show (1 : Int32).toInt = 1 from rfl) (by omega) (by omega)
      refine lv_iinc (v := x_41) (lv' := [(5, .int x_41), (4, .int x_38), (3, .int r_2), (0, .ref (b + q)), (1, .int a_yr), (2, .int a_mo)]) hx hb dX0_startOfMonth_41 hl (k := 1) rfl (by rw [e_41]; rfl) (by decide) rfl (fun ls hl => ?_)
      refine lv_goto (tgt := 16) hx hb dX0_startOfMonth_44 (by decide) ?_
      refine ih_16 ⟨x_38, x_41, (so + (mlen ρ yr i)), (i + 1)⟩ ⟨p_38, p_41, by dsimp only; have hs := msum_s (ρ := ρ) (y := yr) (m := i) (by omega); omega⟩ (by dsimp only; omega) ls (lv_sub hl [0, 1, 2, 3, 4, 5] rfl)

set_option maxHeartbeats 4000000 in
set_option maxRecDepth 100000 in
theorem c_X0_hasMonth (l : Launch) (D : va_G) (t : Nat → ClassId) (b n : Nat) (σ : qM) (q L C : Nat) (K fl fc : Nat → Int32) (ρ : Row) (hP : CalP t b σ q L C K fl fc ρ) (a_yr : Int32) (a_mo : Int32) (yr : Int) (mo : Int) (e_yr : a_yr.toInt = yr) (e_mo : a_mo.toInt = mo) : qP l yX0_hasMonth cX0_hasMonth 3 (some .boolean) 3 D t b n σ [.ref (b + q), .int a_yr, .int a_mo] (fun z => z = bI (decide ((-2000 ≤ yr ∧ yr ≤ 2000) ∧ 1 ≤ mo ∧ mo ≤ mcnt ρ yr))) := by
  refine qP.of (by decide +kernel) (Nat.le_of_ble_eq_true rfl) (fun p e s m args below meth c X w ls hl => ?_)
  have hx := X.1
  have hb := X.2.1
  have hl : lv_has ls 3 [(0, .ref (b + q)), (1, .int a_yr), (2, .int a_mo)] := hl
  obtain ⟨hO, hR, k1, k2, k3, k4, k5, k6, k7, k9, k10, k11, k12, k13, k14, kl, kc⟩ := hP.2.2.2
  have hm := hO.months
  have hrb := reps_bd hO hR
  refine lv_iload_n hx hb dX0_hasMonth_0 rfl (lv_at hl 1 rfl) ?_
  refine q_cPSN X w (c_X8_isYear l a_yr yr e_yr D t b n _) nv_X0_100 rfl ⟨Nat.le_of_ble_eq_true rfl, Nat.le_of_ble_eq_true rfl⟩ rfl hl.1 (Nat.le_of_ble_eq_true rfl) dX0_hasMonth_1 ⟨Nat.zero_le _, Nat.zero_le _⟩ (fun r_1 z_1 => ?_)
  refine lv_if_eq (tgt := 24) hx hb dX0_hasMonth_4 (by decide) (fun c_4 => ?_) (fun c_4 => ?_)
  · skip
    rw [z_1] at c_4
    have k_4 := bI_f.mp c_4
    refine lv_iconst (v := 0) hx hb dX0_hasMonth_24 (by decide) ?_
    exact q_pretz X w dX0_hasMonth_25 (rfl) (by exact bI_0 (by first | exact ⟨k_4, k_17⟩ | exact fun q => k_4 q.1 | exact fun q => k_17 q.2))
  · skip
    rw [z_1] at c_4
    have k_4 := bI_t.mp c_4
    refine lv_iload_n hx hb dX0_hasMonth_7 rfl (lv_at hl 2 rfl) ?_
    refine lv_iconst (v := 1) hx hb dX0_hasMonth_8 (by decide) ?_
    refine lv_aload_n hx hb dX0_hasMonth_9 rfl (lv_at hl 0 rfl) ?_
    refine lv_iload_n hx hb dX0_hasMonth_10 rfl (lv_at hl 1 rfl) ?_
    refine q_cPV X w (c_X0_monthCount l D t b n σ q L C K fl fc ρ hP a_yr yr e_yr) v_X0_103 (k := q) hP.1 rfl rfl ⟨Nat.le_of_ble_eq_true rfl, Nat.le_of_ble_eq_true rfl⟩ rfl hl.1 (Nat.le_of_ble_eq_true rfl) dX0_hasMonth_11 ⟨Nat.zero_le _, Nat.zero_le _⟩ (fun r_11 z_11 => ?_)
    refine q_cPSN X w (c_X8_isFrom l a_mo 1 r_11 mo 1 (mcnt ρ yr) e_mo (show (1 : Int32).toInt = 1 from rfl) z_11 D t b n _) nv_X0_106 rfl ⟨Nat.le_of_ble_eq_true rfl, Nat.le_of_ble_eq_true rfl⟩ rfl hl.1 (Nat.le_of_ble_eq_true rfl) dX0_hasMonth_14 ⟨Nat.zero_le _, Nat.zero_le _⟩ (fun r_14 z_14 => ?_)
    refine lv_if_eq (tgt := 24) hx hb dX0_hasMonth_17 (by decide) (fun c_17 => ?_) (fun c_17 => ?_)
    · skip
      rw [z_14] at c_17
      have k_17 := bI_f.mp c_17
      refine lv_iconst (v := 0) hx hb dX0_hasMonth_24 (by decide) ?_
      exact q_pretz X w dX0_hasMonth_25 (rfl) (by exact bI_0 (by first | exact ⟨k_4, k_17⟩ | exact fun q => k_4 q.1 | exact fun q => k_17 q.2))
    · skip
      rw [z_14] at c_17
      have k_17 := bI_t.mp c_17
      refine lv_iconst (v := 1) hx hb dX0_hasMonth_20 (by decide) ?_
      refine lv_goto (tgt := 25) hx hb dX0_hasMonth_21 (by decide) ?_
      exact q_pretz X w dX0_hasMonth_25 (rfl) (by exact bI_1 (by first | exact ⟨k_4, k_17⟩ | exact fun q => k_4 q.1 | exact fun q => k_17 q.2))

set_option maxHeartbeats 4000000 in
set_option maxRecDepth 100000 in
theorem c_X0_insertsMonth (l : Launch) (D : va_G) (t : Nat → ClassId) (b n : Nat) (σ : qM) (q L C : Nat) (K fl fc : Nat → Int32) (ρ : Row) (hP : CalP t b σ q L C K fl fc ρ) (a_yr : Int32) (a_mo : Int32) (yr : Int) (mo : Int) (e_yr : a_yr.toInt = yr) (e_mo : a_mo.toInt = mo) (h_1 : 0 ≤ mo ∧ mo ≤ 200) : qP l yX0_insertsMonth cX0_insertsMonth 3 (some .boolean) 2 D t b n σ [.ref (b + q), .int a_yr, .int a_mo] (fun z => z = bI (decide ((rv ρ 16 = 2 ∧ leap ρ yr = true) ∧ mo = rv ρ 17 + 1))) := by
  refine qP.of (by decide +kernel) (Nat.le_of_ble_eq_true rfl) (fun p e s m args below meth c X w ls hl => ?_)
  have hx := X.1
  have hb := X.2.1
  have hl : lv_has ls 3 [(0, .ref (b + q)), (1, .int a_yr), (2, .int a_mo)] := hl
  obtain ⟨hO, hR, k1, k2, k3, k4, k5, k6, k7, k9, k10, k11, k12, k13, k14, kl, kc⟩ := hP.2.2.2
  have hm := hO.months
  have hrb := reps_bd hO hR
  refine lv_aload_n hx hb dX0_insertsMonth_0 rfl (lv_at hl 0 rfl) ?_
  refine cg_leap X w hP dX0_insertsMonth_1 ?_
  refine lv_iconst (v := 2) hx hb dX0_insertsMonth_4 (by decide) ?_
  refine lv_icmp_ne (tgt := 30) hx hb dX0_insertsMonth_5 (by decide) (fun c_5 => ?_) (fun c_5 => ?_)
  · skip
    have k_5 : ¬ ((rv ρ 16) = 2) := fun h => c_5 ((g_eq k3 (show (2 : Int32).toInt = 2 from rfl)).mpr h)
    refine lv_iconst (v := 0) hx hb dX0_insertsMonth_30 (by decide) ?_
    exact q_pretz X w dX0_insertsMonth_31 (rfl) (by exact bI_0 (by first | exact ⟨⟨k_5, k_23⟩, by omega⟩ | exact fun q => k_5 q.1.1 | exact fun q => k_23 q.1.2 | exact fun q => k_15 (by omega)))
  · skip
    have k_5 : (rv ρ 16) = 2 := (g_eq k3 (show (2 : Int32).toInt = 2 from rfl)).mp c_5
    have h4 := k4 (by omega)
    have hlm := hO.lm (by omega)
    refine lv_iload_n hx hb dX0_insertsMonth_8 rfl (lv_at hl 2 rfl) ?_
    refine lv_aload_n hx hb dX0_insertsMonth_9 rfl (lv_at hl 0 rfl) ?_
    refine cg_leapMonth X w hP dX0_insertsMonth_10 ?_
    refine lv_iconst (v := 1) hx hb dX0_insertsMonth_13 (by decide) ?_
    refine lv_iadd hx hb dX0_insertsMonth_14 ?_
    refine lv_topi (fun x_14 e_14 => ?_)
    have p_14 : x_14.toInt = (((K 4).toInt) + 1) := by rw [e_14]; exact t_add rfl (show (1 : Int32).toInt = 1 from rfl) (by omega) (by omega)
    refine lv_icmp_ne (tgt := 30) hx hb dX0_insertsMonth_15 (by decide) (fun c_15 => ?_) (fun c_15 => ?_)
    · skip
      have k_15 : ¬ (mo = (((K 4).toInt) + 1)) := fun h => c_15 ((g_eq e_mo p_14).mpr h)
      refine lv_iconst (v := 0) hx hb dX0_insertsMonth_30 (by decide) ?_
      exact q_pretz X w dX0_insertsMonth_31 (rfl) (by exact bI_0 (by first | exact ⟨⟨k_5, k_23⟩, by omega⟩ | exact fun q => k_5 q.1.1 | exact fun q => k_23 q.1.2 | exact fun q => k_15 (by omega)))
    · skip
      have k_15 : mo = (((K 4).toInt) + 1) := (g_eq e_mo p_14).mp c_15
      refine lv_aload_n hx hb dX0_insertsMonth_18 rfl (lv_at hl 0 rfl) ?_
      refine lv_iload_n hx hb dX0_insertsMonth_19 rfl (lv_at hl 1 rfl) ?_
      refine q_cPV X w (c_X0_leaps l D t b n σ q L C K fl fc ρ hP a_yr yr e_yr) v_X0_92 (k := q) hP.1 rfl rfl ⟨Nat.le_of_ble_eq_true rfl, Nat.le_of_ble_eq_true rfl⟩ rfl hl.1 (Nat.le_of_ble_eq_true rfl) dX0_insertsMonth_20 ⟨Nat.zero_le _, Nat.zero_le _⟩ (fun r_20 z_20 => ?_)
      refine lv_if_eq (tgt := 30) hx hb dX0_insertsMonth_23 (by decide) (fun c_23 => ?_) (fun c_23 => ?_)
      · skip
        rw [z_20] at c_23
        have k_23 := bI_f.mp c_23
        refine lv_iconst (v := 0) hx hb dX0_insertsMonth_30 (by decide) ?_
        exact q_pretz X w dX0_insertsMonth_31 (rfl) (by exact bI_0 (by first | exact ⟨⟨k_5, k_23⟩, by omega⟩ | exact fun q => k_5 q.1.1 | exact fun q => k_23 q.1.2 | exact fun q => k_15 (by omega)))
      · skip
        rw [z_20] at c_23
        have k_23 := bI_t.mp c_23
        refine lv_iconst (v := 1) hx hb dX0_insertsMonth_26 (by decide) ?_
        refine lv_goto (tgt := 31) hx hb dX0_insertsMonth_27 (by decide) ?_
        exact q_pretz X w dX0_insertsMonth_31 (rfl) (by exact bI_1 (by first | exact ⟨⟨k_5, k_23⟩, by omega⟩ | exact fun q => k_5 q.1.1 | exact fun q => k_23 q.1.2 | exact fun q => k_15 (by omega)))

set_option maxHeartbeats 4000000 in
set_option maxRecDepth 100000 in
theorem c_X0_dayOfDate (l : Launch) (D : va_G) (t : Nat → ClassId) (b n : Nat) (σ : qM) (q L C : Nat) (K fl fc : Nat → Int32) (ρ : Row) (hP : CalP t b σ q L C K fl fc ρ) (a_yr : Int32) (a_mo : Int32) (a_da : Int32) (yr : Int) (mo : Int) (da : Int) (e_yr : a_yr.toInt = yr) (e_mo : a_mo.toInt = mo) (e_da : a_da.toInt = da) : qP l yX0_dayOfDate cX0_dayOfDate 4 (some .int) 5 D t b n σ [.ref (b + q), .int a_yr, .int a_mo, .int a_da] (fun z => z.toInt = dod ρ yr mo da) := by
  refine qP.of (by decide +kernel) (Nat.le_of_ble_eq_true rfl) (fun p e s m args below meth c X w ls hl => ?_)
  have hx := X.1
  have hb := X.2.1
  have hl : lv_has ls 4 [(0, .ref (b + q)), (1, .int a_yr), (2, .int a_mo), (3, .int a_da)] := hl
  obtain ⟨hO, hR, k1, k2, k3, k4, k5, k6, k7, k9, k10, k11, k12, k13, k14, kl, kc⟩ := hP.2.2.2
  have hm := hO.months
  have hrb := reps_bd hO hR
  refine lv_aload_n hx hb dX0_dayOfDate_0 rfl (lv_at hl 0 rfl) ?_
  refine lv_iload_n hx hb dX0_dayOfDate_1 rfl (lv_at hl 1 rfl) ?_
  refine lv_iload_n hx hb dX0_dayOfDate_2 rfl (lv_at hl 2 rfl) ?_
  refine q_cPV X w (c_X0_hasMonth l D t b n σ q L C K fl fc ρ hP a_yr a_mo yr mo e_yr e_mo) v_X0_114 (k := q) hP.1 rfl rfl ⟨Nat.le_of_ble_eq_true rfl, Nat.le_of_ble_eq_true rfl⟩ rfl hl.1 (Nat.le_of_ble_eq_true rfl) dX0_dayOfDate_3 ⟨Nat.zero_le _, Nat.zero_le _⟩ (fun r_3 z_3 => ?_)
  refine lv_if_eq (tgt := 23) hx hb dX0_dayOfDate_6 (by decide) (fun c_6 => ?_) (fun c_6 => ?_)
  · skip
    rw [z_3] at c_6
    have k_6 := bI_f.mp c_6
    refine lv_ldc hx hb X.2.2.2.1 (X.2.2.1 _ kc_X0_121) dX0_dayOfDate_23 ?_
    exact q_pret X w dX0_dayOfDate_25 (by unfold dod; rw [if_neg (fun q => k_6 q.1)]; rfl)
  · skip
    rw [z_3] at c_6
    have k_6 := bI_t.mp c_6
    refine lv_iload_n hx hb dX0_dayOfDate_9 rfl (lv_at hl 3 rfl) ?_
    refine lv_iconst (v := 1) hx hb dX0_dayOfDate_10 (by decide) ?_
    refine lv_aload_n hx hb dX0_dayOfDate_11 rfl (lv_at hl 0 rfl) ?_
    refine lv_iload_n hx hb dX0_dayOfDate_12 rfl (lv_at hl 1 rfl) ?_
    refine lv_iload_n hx hb dX0_dayOfDate_13 rfl (lv_at hl 2 rfl) ?_
    refine q_cPV X w (c_X0_lengthOfMonth l D t b n σ q L C K fl fc ρ hP a_yr a_mo yr mo e_yr e_mo (by exact k_6.2)) v_X0_118 (k := q) hP.1 rfl rfl ⟨Nat.le_of_ble_eq_true rfl, Nat.le_of_ble_eq_true rfl⟩ rfl hl.1 (Nat.le_of_ble_eq_true rfl) dX0_dayOfDate_14 ⟨Nat.zero_le _, Nat.zero_le _⟩ (fun r_14 z_14 => ?_)
    refine q_cPSN X w (c_X8_isFrom l a_da 1 r_14 da 1 (mlen ρ yr mo) e_da (show (1 : Int32).toInt = 1 from rfl) z_14 D t b n _) nv_X0_106 rfl ⟨Nat.le_of_ble_eq_true rfl, Nat.le_of_ble_eq_true rfl⟩ rfl hl.1 (Nat.le_of_ble_eq_true rfl) dX0_dayOfDate_17 ⟨Nat.zero_le _, Nat.zero_le _⟩ (fun r_17 z_17 => ?_)
    refine lv_if_ne (tgt := 26) hx hb dX0_dayOfDate_20 (by decide) (fun c_20 => ?_) (fun c_20 => ?_)
    · skip
      rw [z_17] at c_20
      have k_20 := bI_t.mp c_20
      have hb1 := dnum_bd hO (y := yr) (m := mo) (d := 1) (by omega) k_6.2.1 k_6.2.2
      have hb2 := mlen_bd hO k_6.2.1 k_6.2.2
      refine lv_aload_n hx hb dX0_dayOfDate_26 rfl (lv_at hl 0 rfl) ?_
      refine lv_iload_n hx hb dX0_dayOfDate_27 rfl (lv_at hl 1 rfl) ?_
      refine lv_iload_n hx hb dX0_dayOfDate_28 rfl (lv_at hl 2 rfl) ?_
      refine q_cPV X w (c_X0_startOfMonth l D t b n σ q L C K fl fc ρ hP a_yr a_mo yr mo e_yr e_mo (by omega) (by exact k_6.2)) v_X0_122 (k := q) hP.1 rfl rfl ⟨Nat.le_of_ble_eq_true rfl, Nat.le_of_ble_eq_true rfl⟩ rfl hl.1 (Nat.le_of_ble_eq_true rfl) dX0_dayOfDate_29 ⟨Nat.zero_le _, Nat.zero_le _⟩ (fun r_29 z_29 => ?_)
      refine lv_iload_n hx hb dX0_dayOfDate_32 rfl (lv_at hl 3 rfl) ?_
      refine lv_iadd hx hb dX0_dayOfDate_33 ?_
      refine lv_topi (fun x_33 e_33 => ?_)
      have p_33 : x_33.toInt = ((dnum ρ yr mo 1) + da) := by rw [e_33]; exact t_add z_29 e_da (by omega) (by omega)
      refine lv_iconst (v := 1) hx hb dX0_dayOfDate_34 (by decide) ?_
      refine lv_isub hx hb dX0_dayOfDate_35 ?_
      refine lv_topi (fun x_35 e_35 => ?_)
      have p_35 : x_35.toInt = (((dnum ρ yr mo 1) + da) - 1) := by rw [e_35]; exact t_sub p_33 (show (1 : Int32).toInt = 1 from rfl) (by omega) (by omega)
      exact q_pret X w dX0_dayOfDate_36 (by rw [p_35]; unfold dod; rw [if_pos ⟨k_6, k_20⟩, dnum_1 ρ yr mo da])
    · skip
      rw [z_17] at c_20
      have k_20 := bI_f.mp c_20
      refine lv_ldc hx hb X.2.2.2.1 (X.2.2.1 _ kc_X0_121) dX0_dayOfDate_23 ?_
      exact q_pret X w dX0_dayOfDate_25 (by unfold dod; rw [if_neg (fun q => k_20 q.2)]; rfl)

set_option maxHeartbeats 4000000 in
set_option maxRecDepth 100000 in
theorem c_X0_nearestDay (l : Launch) (D : va_G) (t : Nat → ClassId) (b n : Nat) (σ : qM) (q L C : Nat) (K fl fc : Nat → Int32) (ρ : Row) (hP : CalP t b σ q L C K fl fc ρ) (a_yr : Int32) (a_mo : Int32) (a_da : Int32) (yr : Int) (mo : Int) (da : Int) (e_yr : a_yr.toInt = yr) (e_mo : a_mo.toInt = mo) (e_da : a_da.toInt = da) (h_1 : -2100 ≤ yr ∧ yr ≤ 2100) (h_2 : 1 ≤ mo) (h_3 : 1 ≤ da) : qP l yX0_nearestDay cX0_nearestDay 6 (some .int) 5 D t b n σ [.ref (b + q), .int a_yr, .int a_mo, .int a_da] (fun z => z.toInt = dnum ρ yr (if mo < mcnt ρ yr then mo else mcnt ρ yr) (if da < mlen ρ yr (if mo < mcnt ρ yr then mo else mcnt ρ yr) then da else mlen ρ yr (if mo < mcnt ρ yr then mo else mcnt ρ yr))) := by
  refine qP.of (by decide +kernel) (Nat.le_of_ble_eq_true rfl) (fun p e s m args below meth c X w ls hl => ?_)
  have hx := X.1
  have hb := X.2.1
  have hl : lv_has ls 6 [(0, .ref (b + q)), (1, .int a_yr), (2, .int a_mo), (3, .int a_da)] := hl
  obtain ⟨hO, hR, k1, k2, k3, k4, k5, k6, k7, k9, k10, k11, k12, k13, k14, kl, kc⟩ := hP.2.2.2
  have hm := hO.months
  have hrb := reps_bd hO hR
  have hmb := mcnt_bd hO yr
  have hmn := mn_bd (a := mo) (b := mcnt ρ yr) h_2 hmb.1
  have hb1 := dnum_bd hO (y := yr) (d := 1) (by omega) hmn.1 hmn.2
  have hb2 := mlen_bd hO hmn.1 hmn.2
  have hdn := mn_bd (a := da) h_3 hb2.1
  refine lv_iload_n hx hb dX0_nearestDay_0 rfl (lv_at hl 2 rfl) ?_
  refine lv_aload_n hx hb dX0_nearestDay_1 rfl (lv_at hl 0 rfl) ?_
  refine lv_iload_n hx hb dX0_nearestDay_2 rfl (lv_at hl 1 rfl) ?_
  refine q_cPV X w (c_X0_monthCount l D t b n σ q L C K fl fc ρ hP a_yr yr e_yr) v_X0_103 (k := q) hP.1 rfl rfl ⟨Nat.le_of_ble_eq_true rfl, Nat.le_of_ble_eq_true rfl⟩ rfl hl.1 (Nat.le_of_ble_eq_true rfl) dX0_nearestDay_3 ⟨Nat.zero_le _, Nat.zero_le _⟩ (fun r_3 z_3 => ?_)
  refine q_min X ml_X0_125 ⟨Nat.le_of_ble_eq_true rfl, Nat.le_of_ble_eq_true rfl⟩ ⟨Nat.zero_le _, Nat.zero_le _⟩ hl.1 (Nat.le_of_ble_eq_true rfl) dX0_nearestDay_6 (fun r_6 z_6 => ?_)
  have p_6 : r_6.toInt = (if mo < (mcnt ρ yr) then mo else (mcnt ρ yr)) := by rw [z_6, e_mo, z_3]
  refine lv_istore (lv' := [(4, .int r_6), (0, .ref (b + q)), (1, .int a_yr), (2, .int a_mo), (3, .int a_da)]) hx hb dX0_nearestDay_9 hl (by decide) rfl (fun ls hl => ?_)
  refine lv_iload_n hx hb dX0_nearestDay_11 rfl (lv_at hl 4 rfl) ?_
  refine lv_aload_n hx hb dX0_nearestDay_12 rfl (lv_at hl 1 rfl) ?_
  refine lv_iload_n hx hb dX0_nearestDay_13 rfl (lv_at hl 2 rfl) ?_
  refine lv_iload hx hb dX0_nearestDay_14 (lv_at hl 0 rfl) ?_
  refine q_cPV X w (c_X0_lengthOfMonth l D t b n σ q L C K fl fc ρ hP a_yr r_6 yr (if mo < (mcnt ρ yr) then mo else (mcnt ρ yr)) e_yr p_6 (by exact hmn)) v_X0_118 (k := q) hP.1 rfl rfl ⟨Nat.le_of_ble_eq_true rfl, Nat.le_of_ble_eq_true rfl⟩ rfl hl.1 (Nat.le_of_ble_eq_true rfl) dX0_nearestDay_16 ⟨Nat.zero_le _, Nat.zero_le _⟩ (fun r_16 z_16 => ?_)
  refine q_min X ml_X0_125 ⟨Nat.le_of_ble_eq_true rfl, Nat.le_of_ble_eq_true rfl⟩ ⟨Nat.zero_le _, Nat.zero_le _⟩ hl.1 (Nat.le_of_ble_eq_true rfl) dX0_nearestDay_19 (fun r_19 z_19 => ?_)
  have p_19 : r_19.toInt = (if da < (mlen ρ yr (if mo < (mcnt ρ yr) then mo else (mcnt ρ yr))) then da else (mlen ρ yr (if mo < (mcnt ρ yr) then mo else (mcnt ρ yr)))) := by rw [z_19, e_da, z_16]
  refine lv_istore (lv' := [(5, .int r_19), (4, .int r_6), (0, .ref (b + q)), (1, .int a_yr), (2, .int a_mo), (3, .int a_da)]) hx hb dX0_nearestDay_22 hl (by decide) rfl (fun ls hl => ?_)
  refine lv_aload_n hx hb dX0_nearestDay_24 rfl (lv_at hl 2 rfl) ?_
  refine lv_iload_n hx hb dX0_nearestDay_25 rfl (lv_at hl 3 rfl) ?_
  refine lv_iload hx hb dX0_nearestDay_26 (lv_at hl 1 rfl) ?_
  refine q_cPV X w (c_X0_startOfMonth l D t b n σ q L C K fl fc ρ hP a_yr r_6 yr (if mo < (mcnt ρ yr) then mo else (mcnt ρ yr)) e_yr p_6 (by first | assumption | omega) (by exact hmn)) v_X0_122 (k := q) hP.1 rfl rfl ⟨Nat.le_of_ble_eq_true rfl, Nat.le_of_ble_eq_true rfl⟩ rfl hl.1 (Nat.le_of_ble_eq_true rfl) dX0_nearestDay_28 ⟨Nat.zero_le _, Nat.zero_le _⟩ (fun r_28 z_28 => ?_)
  refine lv_iload hx hb dX0_nearestDay_31 (lv_at hl 0 rfl) ?_
  refine lv_iadd hx hb dX0_nearestDay_33 ?_
  refine lv_topi (fun x_33 e_33 => ?_)
  have p_33 : x_33.toInt = ((dnum ρ yr (if mo < (mcnt ρ yr) then mo else (mcnt ρ yr)) 1) + (if da < (mlen ρ yr (if mo < (mcnt ρ yr) then mo else (mcnt ρ yr))) then da else (mlen ρ yr (if mo < (mcnt ρ yr) then mo else (mcnt ρ yr))))) := by rw [e_33]; exact t_add z_28 p_19 (by omega) (by omega)
  refine lv_iconst (v := 1) hx hb dX0_nearestDay_34 (by decide) ?_
  refine lv_isub hx hb dX0_nearestDay_35 ?_
  refine lv_topi (fun x_35 e_35 => ?_)
  have p_35 : x_35.toInt = (((dnum ρ yr (if mo < (mcnt ρ yr) then mo else (mcnt ρ yr)) 1) + (if da < (mlen ρ yr (if mo < (mcnt ρ yr) then mo else (mcnt ρ yr))) then da else (mlen ρ yr (if mo < (mcnt ρ yr) then mo else (mcnt ρ yr))))) - 1) := by rw [e_35]; exact t_sub p_33 (show (1 : Int32).toInt = 1 from rfl) (by omega) (by omega)
  exact q_pret X w dX0_nearestDay_36 (by rw [p_35]; exact (dnum_1 ρ yr _ _).symm)

set_option maxHeartbeats 4000000 in
set_option maxRecDepth 100000 in
theorem c_X0_yearOf (l : Launch) (D : va_G) (t : Nat → ClassId) (b n : Nat) (σ : qM) (q L C : Nat) (K fl fc : Nat → Int32) (ρ : Row) (hP : CalP t b σ q L C K fl fc ρ) (a_dy : Int32) (dy : Int) (e_dy : a_dy.toInt = dy) : qP l yX0_yearOf cX0_yearOf 6 (some .int) 4 D t b n σ [.ref (b + q), .int a_dy] (fun z => z.toInt = yoc ρ dy) := by
  refine qP.of (by decide +kernel) (Nat.le_of_ble_eq_true rfl) (fun p e s m args below meth c X w ls hl => ?_)
  have hx := X.1
  have hb := X.2.1
  have hl : lv_has ls 6 [(0, .ref (b + q)), (1, .int a_dy)] := hl
  obtain ⟨hO, hR, k1, k2, k3, k4, k5, k6, k7, k9, k10, k11, k12, k13, k14, kl, kc⟩ := hP.2.2.2
  have hm := hO.months
  have hrb := reps_bd hO hR
  refine lv_aload_n hx hb dX0_yearOf_0 rfl (lv_at hl 0 rfl) ?_
  refine lv_iload_n hx hb dX0_yearOf_1 rfl (lv_at hl 1 rfl) ?_
  refine q_cPV X w (c_X0_holds l D t b n σ q L C K fl fc ρ hP a_dy dy e_dy) v_X0_128 (k := q) hP.1 rfl rfl ⟨Nat.le_of_ble_eq_true rfl, Nat.le_of_ble_eq_true rfl⟩ rfl hl.1 (Nat.le_of_ble_eq_true rfl) dX0_yearOf_2 ⟨Nat.zero_le _, Nat.zero_le _⟩ (fun r_2 z_2 => ?_)
  refine lv_if_ne (tgt := 11) hx hb dX0_yearOf_5 (by decide) (fun c_5 => ?_) (fun c_5 => ?_)
  · skip
    rw [z_2] at c_5
    have k_5 := bI_t.mp c_5
    refine lv_sipush (v := (-2000)) hx hb dX0_yearOf_11 (by decide) ?_
    refine lv_istore_n (lv' := [(2, .int (-2000)), (0, .ref (b + q)), (1, .int a_dy)]) hx hb dX0_yearOf_14 rfl hl (by decide) rfl (fun ls hl => ?_)
    refine lv_sipush (v := 2000) hx hb dX0_yearOf_15 (by decide) ?_
    refine lv_istore_n (lv' := [(3, .int 2000), (2, .int (-2000)), (0, .ref (b + q)), (1, .int a_dy)]) hx hb dX0_yearOf_18 rfl hl (by decide) rfl (fun ls hl => ?_)
    refine lv_iconst (v := 0) hx hb dX0_yearOf_19 (by decide) ?_
    refine lv_istore (lv' := [(4, .int 0), (3, .int 2000), (2, .int (-2000)), (0, .ref (b + q)), (1, .int a_dy)]) hx hb dX0_yearOf_20 hl (by decide) rfl (fun ls hl => ?_)
    refine q_loop (α := Int32 × Int32 × Int32 × Int × Int × Int) (fun a => a.1.toInt = a.2.2.2.1 ∧ a.2.1.toInt = a.2.2.2.2.1 ∧ a.2.2.1.toInt = a.2.2.2.2.2 ∧ (((-2000 ≤ a.2.2.2.1 ∧ a.2.2.2.2.1 ≤ 2000) ∧ a.2.2.2.1 ≤ a.2.2.2.2.1 ∧ (0 ≤ a.2.2.2.2.2 ∧ a.2.2.2.2.2 ≤ 32)) ∧ fst ρ a.2.2.2.1 ≤ dy ∧ dy < fst ρ (a.2.2.2.2.1 + 1) ∧ a.2.2.2.2.1 - a.2.2.2.1 ≤ hB a.2.2.2.2.2)) (fun a => (32 - a.2.2.2.2.2).toNat) (fun a => ∀ ls : Array Slot, lv_has ls 6 [(4, .int a.2.2.1), (3, .int a.2.1), (2, .int a.1), (0, .ref (b + q)), (1, .int a_dy)] → W p l e (qR 4 0 0) s m args below meth c s.heap [] 0 0 (MQ below (vp_Si (fun z => z.toInt = yoc ρ dy)) args s 0 0 (fun _ => False)) (F0 m 22 ls [])) ?_ ⟨(-2000), 2000, 0, (-2000), 2000, 0⟩ ⟨(show ((-2000) : Int32).toInt = (-2000) from rfl), (show (2000 : Int32).toInt = 2000 from rfl), (show (0 : Int32).toInt = 0 from rfl), by dsimp only; rw [hB_0]; exact ⟨by omega, by omega, (by rw [show (2000 : Int) + 1 = 2001 from rfl]; omega), by omega⟩⟩ ls (lv_sub hl [0, 1, 2, 3, 4] rfl)
    rintro ⟨v_lo, v_hi, v_i, lo, hi, i⟩ ⟨q_lo, q_hi, q_i, inv_22⟩ ih_22 ls hl
    dsimp only at q_lo q_hi q_i inv_22 hl
    refine lv_iload hx hb dX0_yearOf_22 (lv_at hl 0 rfl) ?_
    refine lv_bipush (v := 32) hx hb dX0_yearOf_24 (by decide) ?_
    refine lv_icmp_ge (tgt := 72) hx hb dX0_yearOf_26 (by decide) (fun c_26 => ?_) (fun c_26 => ?_)
    · skip
      have k_26 : 32 ≤ i := (g_le (show (32 : Int32).toInt = 32 from rfl) q_i).mp c_26
      refine lv_iload_n hx hb dX0_yearOf_72 rfl (lv_at hl 2 rfl) ?_
      exact q_pret X w dX0_yearOf_73 (by have heq : lo = hi := (by have hz := hB_32; have hi32 : i = 32 := (by omega); rw [hi32] at inv_22; omega); rw [q_lo, yoc_in k_5]; exact (yof_eq hO (by omega) (by omega) (Or.inr inv_22.2.1) (Or.inr (by rw [heq]; exact inv_22.2.2.1))).symm)
    · skip
      have k_26 : ¬ (32 ≤ i) := fun h => c_26 ((g_le (show (32 : Int32).toInt = 32 from rfl) q_i).mpr h)
      refine lv_iload_n hx hb dX0_yearOf_29 rfl (lv_at hl 2 rfl) ?_
      refine lv_iload_n hx hb dX0_yearOf_30 rfl (lv_at hl 1 rfl) ?_
      refine lv_icmp_ge (tgt := 72) hx hb dX0_yearOf_31 (by decide) (fun c_31 => ?_) (fun c_31 => ?_)
      · skip
        have k_31 : hi ≤ lo := (g_le q_hi q_lo).mp c_31
        refine lv_iload_n hx hb dX0_yearOf_72 rfl (lv_at hl 2 rfl) ?_
        exact q_pret X w dX0_yearOf_73 (by have heq : lo = hi := (by omega); rw [q_lo, yoc_in k_5]; exact (yof_eq hO (by omega) (by omega) (Or.inr inv_22.2.1) (Or.inr (by rw [heq]; exact inv_22.2.2.1))).symm)
      · skip
        have k_31 : ¬ (hi ≤ lo) := fun h => c_31 ((g_le q_hi q_lo).mpr h)
        refine lv_iload_n hx hb dX0_yearOf_34 rfl (lv_at hl 2 rfl) ?_
        refine lv_iload_n hx hb dX0_yearOf_35 rfl (lv_at hl 1 rfl) ?_
        refine lv_iload_n hx hb dX0_yearOf_36 rfl (lv_at hl 2 rfl) ?_
        refine lv_isub hx hb dX0_yearOf_37 ?_
        refine lv_topi (fun x_37 e_37 => ?_)
        have p_37 : x_37.toInt = (hi - lo) := by rw [e_37]; exact t_sub q_hi q_lo (by omega) (by omega)
        refine lv_iconst (v := 1) hx hb dX0_yearOf_38 (by decide) ?_
        refine lv_iadd hx hb dX0_yearOf_39 ?_
        refine lv_topi (fun x_39 e_39 => ?_)
        have p_39 : x_39.toInt = ((hi - lo) + 1) := by rw [e_39]; exact t_add p_37 (show (1 : Int32).toInt = 1 from rfl) (by omega) (by omega)
        refine lv_iconst (v := 2) hx hb dX0_yearOf_40 (by decide) ?_
        have hq0 := Int.ediv_nonneg (show 0 ≤ hi - lo + 1 by omega) (show (0 : Int) ≤ 2 by omega)
        have hq1 : (hi - lo + 1) / 2 ≤ hi - lo := by omega
        refine lv_idiv hx hb dX0_yearOf_41 (by decide) ?_
        refine lv_topi (fun x_41 e_41 => ?_)
        have p_41 : x_41.toInt = (((hi - lo) + 1) / 2) := by rw [e_41]; exact t_div p_39 (show (2 : Int32).toInt = 2 from rfl) (by omega) (by omega)
        refine lv_iadd hx hb dX0_yearOf_42 ?_
        refine lv_topi (fun x_42 e_42 => ?_)
        have p_42 : x_42.toInt = (lo + (((hi - lo) + 1) / 2)) := by rw [e_42]; exact t_add q_lo p_41 (by omega) (by omega)
        refine lv_istore (lv' := [(5, .int x_42), (4, .int v_i), (3, .int v_hi), (2, .int v_lo), (0, .ref (b + q)), (1, .int a_dy)]) hx hb dX0_yearOf_43 hl (by decide) rfl (fun ls hl => ?_)
        refine lv_aload_n hx hb dX0_yearOf_45 rfl (lv_at hl 4 rfl) ?_
        refine lv_iload hx hb dX0_yearOf_46 (lv_at hl 0 rfl) ?_
        refine q_cPV X w (c_X0_startOfYear l D t b n σ q L C K fl fc ρ hP x_42 (lo + (((hi - lo) + 1) / 2)) p_42 (by first | assumption | omega)) v_X0_74 (k := q) hP.1 rfl rfl ⟨Nat.le_of_ble_eq_true rfl, Nat.le_of_ble_eq_true rfl⟩ rfl hl.1 (Nat.le_of_ble_eq_true rfl) dX0_yearOf_48 ⟨Nat.zero_le _, Nat.zero_le _⟩ (fun r_48 z_48 => ?_)
        refine lv_iload_n hx hb dX0_yearOf_51 rfl (lv_at hl 5 rfl) ?_
        refine lv_icmp_gt (tgt := 61) hx hb dX0_yearOf_52 (by decide) (fun c_52 => ?_) (fun c_52 => ?_)
        · skip
          have k_52 : dy < (fst ρ (lo + (((hi - lo) + 1) / 2))) := (g_lt e_dy z_48).mp c_52
          refine lv_iload hx hb dX0_yearOf_61 (lv_at hl 0 rfl) ?_
          refine lv_iconst (v := 1) hx hb dX0_yearOf_63 (by decide) ?_
          refine lv_isub hx hb dX0_yearOf_64 ?_
          refine lv_topi (fun x_64 e_64 => ?_)
          have p_64 : x_64.toInt = ((lo + (((hi - lo) + 1) / 2)) - 1) := by rw [e_64]; exact t_sub p_42 (show (1 : Int32).toInt = 1 from rfl) (by omega) (by omega)
          refine lv_istore_n (lv' := [(3, .int x_64), (5, .int x_42), (4, .int v_i), (2, .int v_lo), (0, .ref (b + q)), (1, .int a_dy)]) hx hb dX0_yearOf_65 rfl hl (by decide) rfl (fun ls hl => ?_)
          obtain ⟨x_66, e_66⟩ : ∃ z : Int32, z = (v_i + 1) := ⟨_, rfl⟩
          have p_66 : x_66.toInt = (i + 1) := by rw [e_66]; exact t_add q_i (show (1 : Int32).toInt = 1 from rfl) (by omega) (by omega)
          refine lv_iinc (v := x_66) (lv' := [(4, .int x_66), (3, .int x_64), (5, .int x_42), (2, .int v_lo), (0, .ref (b + q)), (1, .int a_dy)]) hx hb dX0_yearOf_66 hl (k := 2) rfl (by rw [e_66]; rfl) (by decide) rfl (fun ls hl => ?_)
          refine lv_goto (tgt := 22) hx hb dX0_yearOf_69 (by decide) ?_
          refine ih_22 ⟨v_lo, x_64, x_66, lo, ((lo + (((hi - lo) + 1) / 2)) - 1), (i + 1)⟩ ⟨q_lo, p_64, p_66, by dsimp only; have hs := hB_s (i := i) (by omega); exact ⟨by omega, (by first | assumption | omega), (by first | omega | (rw [show lo + (hi - lo + 1) / 2 - 1 + 1 = lo + (hi - lo + 1) / 2 by omega]; omega)), by omega⟩⟩ (by dsimp only; omega) ls (lv_sub hl [0, 1, 3, 4, 5] rfl)
        · skip
          have k_52 : ¬ (dy < (fst ρ (lo + (((hi - lo) + 1) / 2)))) := fun h => c_52 ((g_lt e_dy z_48).mpr h)
          refine lv_iload hx hb dX0_yearOf_55 (lv_at hl 0 rfl) ?_
          refine lv_istore_n (lv' := [(2, .int x_42), (5, .int x_42), (4, .int v_i), (3, .int v_hi), (0, .ref (b + q)), (1, .int a_dy)]) hx hb dX0_yearOf_57 rfl hl (by decide) rfl (fun ls hl => ?_)
          refine lv_goto (tgt := 66) hx hb dX0_yearOf_58 (by decide) ?_
          obtain ⟨x_66, e_66⟩ : ∃ z : Int32, z = (v_i + 1) := ⟨_, rfl⟩
          have p_66 : x_66.toInt = (i + 1) := by rw [e_66]; exact t_add q_i (show (1 : Int32).toInt = 1 from rfl) (by omega) (by omega)
          refine lv_iinc (v := x_66) (lv' := [(4, .int x_66), (2, .int x_42), (5, .int x_42), (3, .int v_hi), (0, .ref (b + q)), (1, .int a_dy)]) hx hb dX0_yearOf_66 hl (k := 2) rfl (by rw [e_66]; rfl) (by decide) rfl (fun ls hl => ?_)
          refine lv_goto (tgt := 22) hx hb dX0_yearOf_69 (by decide) ?_
          refine ih_22 ⟨x_42, v_hi, x_66, (lo + (((hi - lo) + 1) / 2)), hi, (i + 1)⟩ ⟨p_42, q_hi, p_66, by dsimp only; have hs := hB_s (i := i) (by omega); exact ⟨by omega, (by first | assumption | omega), (by first | omega | (rw [show lo + (hi - lo + 1) / 2 - 1 + 1 = lo + (hi - lo + 1) / 2 by omega]; omega)), by omega⟩⟩ (by dsimp only; omega) ls (lv_sub hl [0, 3, 1, 4, 5] rfl)
  · skip
    rw [z_2] at c_5
    have k_5 := bI_f.mp c_5
    refine lv_ldc hx hb X.2.2.2.1 (X.2.2.1 _ kc_X0_121) dX0_yearOf_8 ?_
    exact q_pret X w dX0_yearOf_10 (by rw [yoc_no k_5]; rfl)
