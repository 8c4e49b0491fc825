set_option maxHeartbeats 2000000 in
set_option maxRecDepth 100000 in
theorem c_X4_allow (l : Launch) (D : va_G) (t : Nat → ClassId) (b n : Nat) (σ0 : qM) (A : Nat → Int32) (B : Nat → Nat → Int32) (P : Nat → Nat → Option Nat) (a_v : Int32) (a_lo : Int32) (a_hi : Int32) (v : Int) (lo : Int) (hi : Int) (e_v : a_v.toInt = v) (e_lo : a_lo.toInt = lo) (e_hi : a_hi.toInt = hi) : kV l yX4_allow cX4_allow 4 1 D t b n σ0 A B P [.ref (b + 3), .int a_v, .int a_lo, .int a_hi] (fun A1 B1 => B1 = B ∧ kpI [5] A A1 ∧ A1 5 = (if lo ≤ v ∧ v ≤ hi then A 5 else 0)) := by
  refine qV.of (by decide +kernel) (Nat.le_of_ble_eq_true rfl) (fun p e s m args below meth c X w _ ls hl => ?_)
  have hx := X.1
  have hb := X.2.1
  have hl : lv_has ls 4 [(0, .ref (b + 3)), (1, .int a_v), (2, .int a_lo), (3, .int a_hi)] := hl
  refine lv_iload_n hx hb dX4_allow_0 rfl (lv_at hl 1 rfl) ?_
  refine lv_iload_n hx hb dX4_allow_1 rfl (lv_at hl 2 rfl) ?_
  refine lv_iload_n hx hb dX4_allow_2 rfl (lv_at hl 3 rfl) ?_
  refine q_cPSN X w (c_X8_isFrom l a_v a_lo a_hi v lo hi e_v e_lo e_hi D t b n (cS t b σ0 A B P)) nv_X4_110 rfl ⟨Nat.le_of_ble_eq_true rfl, Nat.le_of_ble_eq_true rfl⟩ rfl hl.1 (Nat.le_of_ble_eq_true rfl) dX4_allow_3 ⟨Nat.zero_le _, Nat.zero_le _⟩ (fun r_3 z_3 => ?_)
  refine lv_if_ne (tgt := 14) hx hb dX4_allow_6 (by decide) (fun c_6 => ?_) (fun c_6 => ?_)
  · skip
    rw [z_3] at c_6
    have k_6 := bI_t.mp c_6
    exact q_vret (post := (fun n1 σ1 => n1 = n ∧ ∃ A1 B1, σ1 = cS t b σ0 A1 B1 P ∧ B1 = B ∧ kpI [5] A A1 ∧ A1 5 = (if lo ≤ v ∧ v ≤ hi then A 5 else 0))) X w dX4_allow_14 ⟨rfl, _, _, rfl, rfl, by exact ⟨kpI.rf, (by rw [if_pos k_6])⟩⟩
  · skip
    rw [z_3] at c_6
    have k_6 := bI_f.mp c_6
    refine lv_aload_n hx hb dX4_allow_9 rfl (lv_at hl 0 rfl) ?_
    refine lv_iconst (v := 0) hx hb dX4_allow_10 (by decide) ?_
    refine kp_X4_possible (v := 0) X w dX4_allow_11 (rfl) (rfl) (fun H locs w => ?_)
    exact q_vret (post := (fun n1 σ1 => n1 = n ∧ ∃ A1 B1, σ1 = cS t b σ0 A1 B1 P ∧ B1 = B ∧ kpI [5] A A1 ∧ A1 5 = (if lo ≤ v ∧ v ≤ hi then A 5 else 0))) X w dX4_allow_14 ⟨rfl, _, _, rfl, rfl, by exact ⟨kpI.up kpI.rf (by decide), (by rw [if_neg k_6]; rfl)⟩⟩

set_option maxHeartbeats 2000000 in
set_option maxRecDepth 100000 in
theorem c_X4_widenPeriod (l : Launch) (D : va_G) (t : Nat → ClassId) (b n : Nat) (σ0 : qM) (A : Nat → Int32) (B : Nat → Nat → Int32) (P : Nat → Nat → Option Nat) (a_dv : Int32) (dv : Int) (e_dv : a_dv.toInt = dv) (h_1 : 1 ≤ (A 15).toInt ∧ (A 15).toInt ≤ 1000) : kV l yX4_widenPeriod cX4_widenPeriod 4 0 D t b n σ0 A B P [.ref (b + 3), .int a_dv] (fun A1 B1 => B1 = B ∧ kpI [5, 15] A A1 ∧ A1 5 = (if (1 ≤ dv ∧ dv ≤ 400) ∧ lcmI (A 15).toInt dv ≤ 1000 then A 5 else 0) ∧ (A1 15).toInt = (if (1 ≤ dv ∧ dv ≤ 400) ∧ lcmI (A 15).toInt dv ≤ 1000 then lcmI (A 15).toInt dv else (A 15).toInt)) := by
  refine qV.of (by decide +kernel) (Nat.le_of_ble_eq_true rfl) (fun p e s m args below meth c X w _ ls hl => ?_)
  have hx := X.1
  have hb := X.2.1
  have hl : lv_has ls 4 [(0, .ref (b + 3)), (1, .int a_dv)] := hl
  refine lv_iload_n hx hb dX4_widenPeriod_0 rfl (lv_at hl 1 rfl) ?_
  refine lv_iconst (v := 1) hx hb dX4_widenPeriod_1 (by decide) ?_
  refine lv_icmp_lt (tgt := 12) hx hb dX4_widenPeriod_2 (by decide) (fun c_2 => ?_) (fun c_2 => ?_)
  · skip
    have k_2 : dv < 1 := (g_lt e_dv (show (1 : Int32).toInt = 1 from rfl)).mp c_2
    refine lv_aload_n hx hb dX4_widenPeriod_12 rfl (lv_at hl 0 rfl) ?_
    refine lv_iconst (v := 0) hx hb dX4_widenPeriod_13 (by decide) ?_
    refine kp_X4_possible (v := 0) X w dX4_widenPeriod_14 (rfl) (rfl) (fun H locs w => ?_)
    exact q_vret (post := (fun n1 σ1 => n1 = n ∧ ∃ A1 B1, σ1 = cS t b σ0 A1 B1 P ∧ B1 = B ∧ kpI [5, 15] A A1 ∧ A1 5 = (if (1 ≤ dv ∧ dv ≤ 400) ∧ lcmI (A 15).toInt dv ≤ 1000 then A 5 else 0) ∧ (A1 15).toInt = (if (1 ≤ dv ∧ dv ≤ 400) ∧ lcmI (A 15).toInt dv ≤ 1000 then lcmI (A 15).toInt dv else (A 15).toInt))) X w dX4_widenPeriod_17 ⟨rfl, _, _, rfl, rfl, by exact ⟨kpI.up kpI.rf (by decide), (by rw [if_neg (fun q => by omega)]; rfl), (by rw [if_neg (fun q => by omega)]; rfl)⟩⟩
  · skip
    have k_2 : ¬ (dv < 1) := fun h => c_2 ((g_lt e_dv (show (1 : Int32).toInt = 1 from rfl)).mpr h)
    refine lv_iload_n hx hb dX4_widenPeriod_5 rfl (lv_at hl 1 rfl) ?_
    refine lv_sipush (v := 400) hx hb dX4_widenPeriod_6 (by decide) ?_
    refine lv_icmp_le (tgt := 18) hx hb dX4_widenPeriod_9 (by decide) (fun c_9 => ?_) (fun c_9 => ?_)
    · skip
      have k_9 : dv ≤ 400 := (g_le e_dv (show (400 : Int32).toInt = 400 from rfl)).mp c_9
      refine lv_aload_n hx hb dX4_widenPeriod_18 rfl (lv_at hl 0 rfl) ?_
      refine kg_X4_period X w dX4_widenPeriod_19 ?_
      refine lv_istore_n (lv' := [(2, .int (A 15)), (0, .ref (b + 3)), (1, .int a_dv)]) hx hb dX4_widenPeriod_22 rfl hl (by decide) rfl (fun ls hl => ?_)
      refine lv_iconst (v := 0) hx hb dX4_widenPeriod_23 (by decide) ?_
      refine lv_istore_n (lv' := [(3, .int 0), (2, .int (A 15)), (0, .ref (b + 3)), (1, .int a_dv)]) hx hb dX4_widenPeriod_24 rfl hl (by decide) rfl (fun ls hl => ?_)
      refine q_loop (α := Int32 × Int32 × Int × Int) (fun a => a.1.toInt = a.2.2.1 ∧ a.2.1.toInt = a.2.2.2 ∧ (((0 ≤ a.2.2.2 ∧ a.2.2.2 ≤ 1000) ∧ (1 ≤ dv ∧ dv ≤ 400)) ∧ a.2.2.1 = (A 15).toInt * (a.2.2.2 + 1) ∧ (0 < a.2.2.1 ∧ a.2.2.1 ≤ 2000) ∧ ∀ j : Int, 1 ≤ j → j ≤ a.2.2.2 → ¬ dv ∣ (A 15).toInt * j)) (fun a => (1000 - a.2.2.2).toNat) (fun a => ∀ ls : Array Slot, lv_has ls 4 [(3, .int a.2.1), (2, .int a.1), (0, .ref (b + 3)), (1, .int a_dv)] → W p l e (qR 0 0 0) s m args below meth c s.heap [] 0 0 (MQ below (va_Qv (S := Nat × qM) (fun u => (fun n1 σ1 => n1 = n ∧ ∃ A1 B1, σ1 = cS t b σ0 A1 B1 P ∧ B1 = B ∧ kpI [5, 15] A A1 ∧ A1 5 = (if (1 ≤ dv ∧ dv ≤ 400) ∧ lcmI (A 15).toInt dv ≤ 1000 then A 5 else 0) ∧ (A1 15).toInt = (if (1 ≤ dv ∧ dv ≤ 400) ∧ lcmI (A 15).toInt dv ≤ 1000 then lcmI (A 15).toInt dv else (A 15).toInt)) u.1 u.2) (fun u T => WB D b u.1 u.2 T.heap) (fun q => b ≤ q)) args s 0 0 (fun q => b ≤ q)) (F0 m 25 ls [])) ?_ ⟨(A 15), 0, (A 15).toInt, 0⟩ ⟨rfl, (show (0 : Int32).toInt = 0 from rfl), by dsimp only; exact ⟨by omega, by omega, by omega, fun j a b => by omega⟩⟩ ls (lv_sub hl [0, 1, 2, 3] rfl)
      rintro ⟨v_mu, v_i, mu, i⟩ ⟨q_mu, q_i, inv_25⟩ ih_25 ls hl
      dsimp only at q_mu q_i inv_25 hl
      refine lv_iload_n hx hb dX4_widenPeriod_25 rfl (lv_at hl 0 rfl) ?_
      refine lv_sipush (v := 1000) hx hb dX4_widenPeriod_26 (by decide) ?_
      refine lv_icmp_ge (tgt := 58) hx hb dX4_widenPeriod_29 (by decide) (fun c_29 => ?_) (fun c_29 => ?_)
      · skip
        have k_29 : 1000 ≤ i := (g_le (show (1000 : Int32).toInt = 1000 from rfl) q_i).mp c_29
        refine lv_iload_n hx hb dX4_widenPeriod_58 rfl (lv_at hl 1 rfl) ?_
        refine lv_sipush (v := 1000) hx hb dX4_widenPeriod_59 (by decide) ?_
        refine lv_icmp_le (tgt := 73) hx hb dX4_widenPeriod_62 (by decide) (fun c_62 => ?_) (fun c_62 => ?_)
        · skip
          have k_62 : mu ≤ 1000 := (g_le q_mu (show (1000 : Int32).toInt = 1000 from rfl)).mp c_62
          exfalso; have h1001 : 1 * (i + 1) ≤ (A 15).toInt * (i + 1) := Int.mul_le_mul_of_nonneg_right (by omega) (by omega); omega
        · skip
          have k_62 : ¬ (mu ≤ 1000) := fun h => c_62 ((g_le q_mu (show (1000 : Int32).toInt = 1000 from rfl)).mpr h)
          refine lv_aload_n hx hb dX4_widenPeriod_65 rfl (lv_at hl 2 rfl) ?_
          refine lv_iconst (v := 0) hx hb dX4_widenPeriod_66 (by decide) ?_
          refine kp_X4_possible (v := 0) X w dX4_widenPeriod_67 (rfl) (rfl) (fun H locs w => ?_)
          refine lv_goto (tgt := 78) hx hb dX4_widenPeriod_70 (by decide) ?_
          exact q_vret (post := (fun n1 σ1 => n1 = n ∧ ∃ A1 B1, σ1 = cS t b σ0 A1 B1 P ∧ B1 = B ∧ kpI [5, 15] A A1 ∧ A1 5 = (if (1 ≤ dv ∧ dv ≤ 400) ∧ lcmI (A 15).toInt dv ≤ 1000 then A 5 else 0) ∧ (A1 15).toInt = (if (1 ≤ dv ∧ dv ≤ 400) ∧ lcmI (A 15).toInt dv ≤ 1000 then lcmI (A 15).toInt dv else (A 15).toInt))) X w dX4_widenPeriod_78 ⟨rfl, _, _, rfl, rfl, by have hl := lcmI_mul (x := (A 15).toInt) (y := dv) (by omega) (by omega); obtain ⟨j, hj, hl⟩ := hl; have hd := (lcm_dvd (x := (A 15).toInt) (y := dv) (by omega) (by omega)).2; have hge : i + 1 ≤ j := (by rcases (show i + 1 ≤ j ∨ j ≤ i by omega) with z | z; exact z; exact absurd (by rw [← hl]; exact hd) (inv_25.2.2.2 j hj z)); have hmu : mu ≤ lcmI (A 15).toInt dv := (by rw [inv_25.2.1, hl]; exact Int.mul_le_mul_of_nonneg_left hge (by omega)); exact ⟨kpI.up kpI.rf (by decide), (by rw [if_neg (fun q => by omega)]; rfl), (by rw [if_neg (fun q => by omega)]; rfl)⟩⟩
      · skip
        have k_29 : ¬ (1000 ≤ i) := fun h => c_29 ((g_le (show (1000 : Int32).toInt = 1000 from rfl) q_i).mpr h)
        refine lv_iload_n hx hb dX4_widenPeriod_32 rfl (lv_at hl 1 rfl) ?_
        refine lv_sipush (v := 1000) hx hb dX4_widenPeriod_33 (by decide) ?_
        refine lv_icmp_gt (tgt := 58) hx hb dX4_widenPeriod_36 (by decide) (fun c_36 => ?_) (fun c_36 => ?_)
        · skip
          have k_36 : 1000 < mu := (g_lt (show (1000 : Int32).toInt = 1000 from rfl) q_mu).mp c_36
          refine lv_iload_n hx hb dX4_widenPeriod_58 rfl (lv_at hl 1 rfl) ?_
          refine lv_sipush (v := 1000) hx hb dX4_widenPeriod_59 (by decide) ?_
          refine lv_icmp_le (tgt := 73) hx hb dX4_widenPeriod_62 (by decide) (fun c_62 => ?_) (fun c_62 => ?_)
          · skip
            have k_62 : mu ≤ 1000 := (g_le q_mu (show (1000 : Int32).toInt = 1000 from rfl)).mp c_62
            exfalso; omega
          · skip
            have k_62 : ¬ (mu ≤ 1000) := fun h => c_62 ((g_le q_mu (show (1000 : Int32).toInt = 1000 from rfl)).mpr h)
            refine lv_aload_n hx hb dX4_widenPeriod_65 rfl (lv_at hl 2 rfl) ?_
            refine lv_iconst (v := 0) hx hb dX4_widenPeriod_66 (by decide) ?_
            refine kp_X4_possible (v := 0) X w dX4_widenPeriod_67 (rfl) (rfl) (fun H locs w => ?_)
            refine lv_goto (tgt := 78) hx hb dX4_widenPeriod_70 (by decide) ?_
            exact q_vret (post := (fun n1 σ1 => n1 = n ∧ ∃ A1 B1, σ1 = cS t b σ0 A1 B1 P ∧ B1 = B ∧ kpI [5, 15] A A1 ∧ A1 5 = (if (1 ≤ dv ∧ dv ≤ 400) ∧ lcmI (A 15).toInt dv ≤ 1000 then A 5 else 0) ∧ (A1 15).toInt = (if (1 ≤ dv ∧ dv ≤ 400) ∧ lcmI (A 15).toInt dv ≤ 1000 then lcmI (A 15).toInt dv else (A 15).toInt))) X w dX4_widenPeriod_78 ⟨rfl, _, _, rfl, rfl, by have hl := lcmI_mul (x := (A 15).toInt) (y := dv) (by omega) (by omega); obtain ⟨j, hj, hl⟩ := hl; have hd := (lcm_dvd (x := (A 15).toInt) (y := dv) (by omega) (by omega)).2; have hge : i + 1 ≤ j := (by rcases (show i + 1 ≤ j ∨ j ≤ i by omega) with z | z; exact z; exact absurd (by rw [← hl]; exact hd) (inv_25.2.2.2 j hj z)); have hmu : mu ≤ lcmI (A 15).toInt dv := (by rw [inv_25.2.1, hl]; exact Int.mul_le_mul_of_nonneg_left hge (by omega)); exact ⟨kpI.up kpI.rf (by decide), (by rw [if_neg (fun q => by omega)]; rfl), (by rw [if_neg (fun q => by omega)]; rfl)⟩⟩
        · skip
          have k_36 : ¬ (1000 < mu) := fun h => c_36 ((g_lt (show (1000 : Int32).toInt = 1000 from rfl) q_mu).mpr h)
          refine lv_iload_n hx hb dX4_widenPeriod_39 rfl (lv_at hl 1 rfl) ?_
          refine lv_iload_n hx hb dX4_widenPeriod_40 rfl (lv_at hl 3 rfl) ?_
          refine lv_irem hx hb dX4_widenPeriod_41 (g_ne0 e_dv (by omega)) ?_
          refine lv_topi (fun x_41 e_41 => ?_)
          have p_41 : x_41.toInt = (mu % dv) := by rw [e_41]; exact t_rem q_mu e_dv (by omega) (by omega)
          refine lv_if_eq (tgt := 58) hx hb dX4_widenPeriod_42 (by decide) (fun c_42 => ?_) (fun c_42 => ?_)
          · skip
            have k_42 : (mu % dv) = 0 := (g_eq p_41 (show (0 : Int32).toInt = 0 from rfl)).mp c_42
            refine lv_iload_n hx hb dX4_widenPeriod_58 rfl (lv_at hl 1 rfl) ?_
            refine lv_sipush (v := 1000) hx hb dX4_widenPeriod_59 (by decide) ?_
            refine lv_icmp_le (tgt := 73) hx hb dX4_widenPeriod_62 (by decide) (fun c_62 => ?_) (fun c_62 => ?_)
            · skip
              have k_62 : mu ≤ 1000 := (g_le q_mu (show (1000 : Int32).toInt = 1000 from rfl)).mp c_62
              refine lv_aload_n hx hb dX4_widenPeriod_73 rfl (lv_at hl 2 rfl) ?_
              refine lv_iload_n hx hb dX4_widenPeriod_74 rfl (lv_at hl 1 rfl) ?_
              refine kp_X4_period (v := v_mu) X w dX4_widenPeriod_75 (fun H locs w => ?_)
              exact q_vret (post := (fun n1 σ1 => n1 = n ∧ ∃ A1 B1, σ1 = cS t b σ0 A1 B1 P ∧ B1 = B ∧ kpI [5, 15] A A1 ∧ A1 5 = (if (1 ≤ dv ∧ dv ≤ 400) ∧ lcmI (A 15).toInt dv ≤ 1000 then A 5 else 0) ∧ (A1 15).toInt = (if (1 ≤ dv ∧ dv ≤ 400) ∧ lcmI (A 15).toInt dv ≤ 1000 then lcmI (A 15).toInt dv else (A 15).toInt))) X w dX4_widenPeriod_78 ⟨rfl, _, _, rfl, rfl, by have hl := lcmI_mul (x := (A 15).toInt) (y := dv) (by omega) (by omega); obtain ⟨j, hj, hl⟩ := hl; have hd := (lcm_dvd (x := (A 15).toInt) (y := dv) (by omega) (by omega)).2; have hge : i + 1 ≤ j := (by rcases (show i + 1 ≤ j ∨ j ≤ i by omega) with z | z; exact z; exact absurd (by rw [← hl]; exact hd) (inv_25.2.2.2 j hj z)); have hmu : mu ≤ lcmI (A 15).toInt dv := (by rw [inv_25.2.1, hl]; exact Int.mul_le_mul_of_nonneg_left hge (by omega)); have hle : lcmI (A 15).toInt dv ≤ mu := lcmI_le (by omega) (by omega) (by omega) ⟨i + 1, inv_25.2.1⟩ (Int.dvd_of_emod_eq_zero k_42); exact ⟨kpI.up kpI.rf (by decide), (by rw [if_pos ⟨by omega, by omega⟩]; rfl), (by rw [if_pos ⟨by omega, by omega⟩]; show v_mu.toInt = _; rw [q_mu]; omega)⟩⟩
            · skip
              have k_62 : ¬ (mu ≤ 1000) := fun h => c_62 ((g_le q_mu (show (1000 : Int32).toInt = 1000 from rfl)).mpr h)
              refine lv_aload_n hx hb dX4_widenPeriod_65 rfl (lv_at hl 2 rfl) ?_
              refine lv_iconst (v := 0) hx hb dX4_widenPeriod_66 (by decide) ?_
              refine kp_X4_possible (v := 0) X w dX4_widenPeriod_67 (rfl) (rfl) (fun H locs w => ?_)
              refine lv_goto (tgt := 78) hx hb dX4_widenPeriod_70 (by decide) ?_
              exact q_vret (post := (fun n1 σ1 => n1 = n ∧ ∃ A1 B1, σ1 = cS t b σ0 A1 B1 P ∧ B1 = B ∧ kpI [5, 15] A A1 ∧ A1 5 = (if (1 ≤ dv ∧ dv ≤ 400) ∧ lcmI (A 15).toInt dv ≤ 1000 then A 5 else 0) ∧ (A1 15).toInt = (if (1 ≤ dv ∧ dv ≤ 400) ∧ lcmI (A 15).toInt dv ≤ 1000 then lcmI (A 15).toInt dv else (A 15).toInt))) X w dX4_widenPeriod_78 ⟨rfl, _, _, rfl, rfl, by have hl := lcmI_mul (x := (A 15).toInt) (y := dv) (by omega) (by omega); obtain ⟨j, hj, hl⟩ := hl; have hd := (lcm_dvd (x := (A 15).toInt) (y := dv) (by omega) (by omega)).2; have hge : i + 1 ≤ j := (by rcases (show i + 1 ≤ j ∨ j ≤ i by omega) with z | z; exact z; exact absurd (by rw [← hl]; exact hd) (inv_25.2.2.2 j hj z)); have hmu : mu ≤ lcmI (A 15).toInt dv := (by rw [inv_25.2.1, hl]; exact Int.mul_le_mul_of_nonneg_left hge (by omega)); exact ⟨kpI.up kpI.rf (by decide), (by rw [if_neg (fun q => by omega)]; rfl), (by rw [if_neg (fun q => by omega)]; rfl)⟩⟩
          · skip
            have k_42 : ¬ ((mu % dv) = 0) := fun h => c_42 ((g_eq p_41 (show (0 : Int32).toInt = 0 from rfl)).mpr h)
            refine lv_iload_n hx hb dX4_widenPeriod_45 rfl (lv_at hl 1 rfl) ?_
            refine lv_aload_n hx hb dX4_widenPeriod_46 rfl (lv_at hl 2 rfl) ?_
            refine kg_X4_period X w dX4_widenPeriod_47 ?_
            refine lv_iadd hx hb dX4_widenPeriod_50 ?_
            refine lv_topi (fun x_50 e_50 => ?_)
            have p_50 : x_50.toInt = (mu + ((A 15).toInt)) := by rw [e_50]; exact t_add q_mu rfl (by omega) (by omega)
            refine lv_istore_n (lv' := [(2, .int x_50), (3, .int v_i), (0, .ref (b + 3)), (1, .int a_dv)]) hx hb dX4_widenPeriod_51 rfl hl (by decide) rfl (fun ls hl => ?_)
            obtain ⟨x_52, e_52⟩ : ∃ z : Int32, z = (v_i + 1) := ⟨_, rfl⟩
            have p_52 : x_52.toInt = (i + 1) := by rw [e_52]; exact t_add q_i (show (1 : Int32).toInt = 1 from rfl) (by omega) (by omega)
            refine lv_iinc (v := x_52) (lv' := [(3, .int x_52), (2, .int x_50), (0, .ref (b + 3)), (1, .int a_dv)]) hx hb dX4_widenPeriod_52 hl (k := 1) rfl (by rw [e_52]; rfl) (by decide) rfl (fun ls hl => ?_)
            refine lv_goto (tgt := 25) hx hb dX4_widenPeriod_55 (by decide) ?_
            refine ih_25 ⟨x_50, x_52, (mu + ((A 15).toInt)), (i + 1)⟩ ⟨p_50, p_52, by dsimp only; refine ⟨by omega, (by rw [show i + 1 + 1 = (i + 1) + 1 from rfl, Int.mul_add (A 15).toInt (i + 1) 1]; omega), by omega, fun j a b => ?_⟩; rcases (show j ≤ i ∨ j = i + 1 by omega) with z | z; exact inv_25.2.2.2 j a z; (rw [z, ← inv_25.2.1]; exact fun y => k_42 (Int.emod_eq_zero_of_dvd y))⟩ (by dsimp only; omega) ls (lv_sub hl [0, 1, 2, 3] rfl)
    · skip
      have k_9 : ¬ (dv ≤ 400) := fun h => c_9 ((g_le e_dv (show (400 : Int32).toInt = 400 from rfl)).mpr h)
      refine lv_aload_n hx hb dX4_widenPeriod_12 rfl (lv_at hl 0 rfl) ?_
      refine lv_iconst (v := 0) hx hb dX4_widenPeriod_13 (by decide) ?_
      refine kp_X4_possible (v := 0) X w dX4_widenPeriod_14 (rfl) (rfl) (fun H locs w => ?_)
      exact q_vret (post := (fun n1 σ1 => n1 = n ∧ ∃ A1 B1, σ1 = cS t b σ0 A1 B1 P ∧ B1 = B ∧ kpI [5, 15] A A1 ∧ A1 5 = (if (1 ≤ dv ∧ dv ≤ 400) ∧ lcmI (A 15).toInt dv ≤ 1000 then A 5 else 0) ∧ (A1 15).toInt = (if (1 ≤ dv ∧ dv ≤ 400) ∧ lcmI (A 15).toInt dv ≤ 1000 then lcmI (A 15).toInt dv else (A 15).toInt))) X w dX4_widenPeriod_17 ⟨rfl, _, _, rfl, rfl, by exact ⟨kpI.up kpI.rf (by decide), (by rw [if_neg (fun q => by omega)]; rfl), (by rw [if_neg (fun q => by omega)]; rfl)⟩⟩

set_option maxHeartbeats 2000000 in
set_option maxRecDepth 100000 in
theorem c_X4_readMonth (l : Launch) (D : va_G) (t : Nat → ClassId) (b n : Nat) (σ0 : qM) (A : Nat → Int32) (B : Nat → Nat → Int32) (P : Nat → Nat → Option Nat) (T : Int → Int) (po : Int) (h_1 : T = txC A B) (h_2 : okTx A B) (h_3 : (A 3).toInt = po) (h_4 : 0 ≤ po ∧ po ≤ (A 2).toInt) (h_5 : 0 ≤ (A 6).toInt ∧ (A 6).toInt < 14) (h_6 : 0 ≤ (A 7).toInt ∧ (A 7).toInt ≤ 14000000) : kC l yX4_readMonth cX4_readMonth 1 (some .boolean) 3 D t b n σ0 A B P [.ref (b + 3)] (fun z A1 B1 => kpI [3, 4, 5, 6, 7] A A1 ∧ kpR [1] B B1 ∧ z = bI (decide (dg T po)) ∧ (A1 3).toInt = (num T po).2 ∧ ((A 3).toInt ≤ (A1 3).toInt ∧ (A1 3).toInt ≤ (A 2).toInt) ∧ (dg T po → (A1 6).toInt = (A 6).toInt + 1 ∧ (A1 7).toInt = (A 7).toInt + (num T po).1 ∧ B1 = va_up B 1 (upd (B 1) (A 6).toInt.toNat (i3 (num T po).1)) ∧ A1 5 = (if 1 ≤ (num T po).1 ∧ (num T po).1 ≤ 60 then A 5 else 0))) := by
  refine qC.of (by decide +kernel) (Nat.le_of_ble_eq_true rfl) (fun p e s m args below meth c X w ls hl => ?_)
  have hx := X.1
  have hb := X.2.1
  have hl : lv_has ls 1 [(0, .ref (b + 3))] := hl
  refine lv_aload_n hx hb dX4_readMonth_0 rfl (lv_at hl 0 rfl) ?_
  refine kg_X4_text X w dX4_readMonth_1 ?_
  refine kk_cCI X w (c_X7_readNumber l D t b n σ0 A B P T (by exact h_1.trans (txC_cg ((kpI.rf (J := [3, 4, 5, 6, 7]) (I := A)) 2 (by decide)) ((kpR.rf (J := [1]) (R := B)) 0 (by decide))).symm) (by exact h_2.cg ((kpI.rf (J := [3, 4, 5, 6, 7]) (I := A)) 2 (by decide)) ((kpR.rf (J := [1]) (R := B)) 0 (by decide))) (by have h2 : (A 2).toInt = (A 2).toInt := (congrArg Int32.toInt ((kpI.rf (J := [3, 4, 5, 6, 7]) (I := A)) 2 (by decide))); have h3 : (A 3).toInt = po := ((congrArg Int32.toInt rfl).trans h_3); rw [h2, h3]; exact ⟨Int.le_trans h_4.1 (And.intro (Int.le_refl po) h_4.2).1, (And.intro (Int.le_refl po) h_4.2).2⟩)) v_X4_121 rfl rfl rfl ⟨Nat.le_of_ble_eq_true rfl, Nat.le_of_ble_eq_true rfl⟩ rfl hl.1 (Nat.le_of_ble_eq_true rfl) dX4_readMonth_4 ⟨Nat.zero_le _, Nat.zero_le _⟩ (fun r_4 A_4 H locs z_4 w => ?_)
  have KI_4 : kpI [3, 4, 5, 6, 7] A A_4 := kpI.tr (J := [3, 4, 5, 6, 7]) (kpI.rf (J := [3, 4, 5, 6, 7]) (I := A)) z_4.1 (by decide) (by decide)
  have q_4 : (A_4 3).toInt = (num T po).2 := by have h : (A_4 3).toInt = (num T ((A 3).toInt)).2 := z_4.2.2.1; rw [show (A 3).toInt = po from ((congrArg Int32.toInt rfl).trans h_3)] at h; exact h
  have n_4 : (A_4 4).toInt = (num T po).1 := by have h : (A_4 4).toInt = (num T ((A 3).toInt)).1 := z_4.2.2.2.1; rw [show (A 3).toInt = po from ((congrArg Int32.toInt rfl).trans h_3)] at h; exact h
  have b_4 : r_4 = bI (decide (dg T po)) := by have h : r_4 = bI (decide (dg T ((A 3).toInt))) := z_4.2.1; rw [show (A 3).toInt = po from ((congrArg Int32.toInt rfl).trans h_3)] at h; exact h
  have v_4 := num_v (T := T) po
  have Q_4 : po ≤ (num T po).2 ∧ (num T po).2 ≤ (A 2).toInt := ⟨(by have h := (And.intro (Int.le_refl po) h_4.2); have h2 := num_ge (T := T) po; omega), (by rw [← q_4]; exact Int.le_trans z_4.2.2.2.2 (Int.le_of_eq (congrArg Int32.toInt ((kpI.rf (J := [3, 4, 5, 6, 7]) (I := A)) 2 (by decide)))))⟩
  refine lv_if_ne (tgt := 12) hx hb dX4_readMonth_7 (by decide) (fun c_7 => ?_) (fun c_7 => ?_)
  · skip
    rw [b_4] at c_7
    have k_7 := bI_t.mp c_7
    have p_4 : (A_4 3).toInt = (num T po).2 := q_4
    skip
    refine lv_aload_n hx hb dX4_readMonth_12 rfl (lv_at hl 0 rfl) ?_
    refine lv_aload_n hx hb dX4_readMonth_13 rfl (lv_at hl 0 rfl) ?_
    refine kg_X4_text X w dX4_readMonth_14 ?_
    refine q_cPV X w (c_X7_number l D t b n σ0 A_4 B P ) v_X4_124 (k := 1) rfl rfl rfl ⟨Nat.le_of_ble_eq_true rfl, Nat.le_of_ble_eq_true rfl⟩ rfl hl.1 (Nat.le_of_ble_eq_true rfl) dX4_readMonth_17 ⟨Nat.zero_le _, Nat.zero_le _⟩ (fun r_17 z_17 => ?_)
    have m_17 : r_17.toInt = (num T po).1 := (congrArg Int32.toInt (z_17.trans rfl)).trans n_4
    have i_17 : r_17 = i3 (num T po).1 := by rw [← m_17]; exact (i3_i _).symm
    refine lv_iconst (v := 1) hx hb dX4_readMonth_20 (by decide) ?_
    refine lv_bipush (v := 60) hx hb dX4_readMonth_21 (by decide) ?_
    refine kk_cVI X w (c_X4_allow l D t b n σ0 A_4 B P r_17 1 60 ((num T po).1) 1 60 m_17 (show (1 : Int32).toInt = 1 from rfl) (show (60 : Int32).toInt = 60 from rfl)) v_X4_128 rfl rfl rfl ⟨Nat.le_of_ble_eq_true rfl, Nat.le_of_ble_eq_true rfl⟩ rfl hl.1 (Nat.le_of_ble_eq_true rfl) dX4_readMonth_23 ⟨Nat.zero_le _, Nat.zero_le _⟩ (fun A_23 H locs z_23 w => ?_)
    have KI_23 : kpI [3, 4, 5, 6, 7] A A_23 := kpI.tr (J := [3, 4, 5, 6, 7]) KI_4 z_23.1 (by decide) (by decide)
    have f_23 : A_23 5 = (if 1 ≤ ((num T po).1) ∧ ((num T po).1) ≤ 60 then A 5 else 0) := by have h : A_23 5 = (if 1 ≤ ((num T po).1) ∧ ((num T po).1) ≤ 60 then A_4 5 else 0) := z_23.2; rw [show A_4 5 = A 5 from ((z_4.1 5 (by decide)).trans rfl)] at h; exact h
    refine lv_aload_n hx hb dX4_readMonth_26 rfl (lv_at hl 0 rfl) ?_
    refine lv_dup hx hb dX4_readMonth_27 rfl ?_
    refine kg_X4_commonLength X w dX4_readMonth_28 ?_
    refine lv_aload_n hx hb dX4_readMonth_31 rfl (lv_at hl 0 rfl) ?_
    refine kg_X4_text X w dX4_readMonth_32 ?_
    refine q_cPV X w (c_X7_number l D t b n σ0 A_23 B P ) v_X4_124 (k := 1) rfl rfl rfl ⟨Nat.le_of_ble_eq_true rfl, Nat.le_of_ble_eq_true rfl⟩ rfl hl.1 (Nat.le_of_ble_eq_true rfl) dX4_readMonth_35 ⟨Nat.zero_le _, Nat.zero_le _⟩ (fun r_35 z_35 => ?_)
    have m_35 : r_35.toInt = (num T po).1 := (congrArg Int32.toInt (z_35.trans ((z_23.1 4 (by decide)).trans rfl))).trans n_4
    have i_35 : r_35 = i3 (num T po).1 := by rw [← m_35]; exact (i3_i _).symm
    refine lv_iadd hx hb dX4_readMonth_38 ?_
    refine lv_topi (fun x_38 e_38 => ?_)
    have p_38 : x_38.toInt = (((A 7).toInt) + ((num T po).1)) := by rw [e_38]; exact t_add ((congrArg Int32.toInt (z_23.1 7 (by decide))).trans ((congrArg Int32.toInt (z_4.1 7 (by decide))).trans rfl)) m_35 (by omega) (by omega)
    refine kp_X4_commonLength (v := x_38) X w dX4_readMonth_39 (fun H locs w => ?_)
    refine lv_aload_n hx hb dX4_readMonth_42 rfl (lv_at hl 0 rfl) ?_
    refine kg_X4_monthCount X w dX4_readMonth_43 ?_
    refine lv_if_lt (tgt := 87) hx hb dX4_readMonth_46 (by decide) (fun c_46 => ?_) (fun c_46 => ?_)
    · skip
      have k_46 : ((A 6).toInt) < 0 := (g_lt ((congrArg Int32.toInt (z_23.1 6 (by decide))).trans ((congrArg Int32.toInt (z_4.1 6 (by decide))).trans rfl)) (show (0 : Int32).toInt = 0 from rfl)).mp c_46
      exfalso; omega
    · skip
      have k_46 : ¬ (((A 6).toInt) < 0) := fun h => c_46 ((g_lt ((congrArg Int32.toInt (z_23.1 6 (by decide))).trans ((congrArg Int32.toInt (z_4.1 6 (by decide))).trans rfl)) (show (0 : Int32).toInt = 0 from rfl)).mpr h)
      refine lv_aload_n hx hb dX4_readMonth_49 rfl (lv_at hl 0 rfl) ?_
      refine kg_X4_monthCount X w dX4_readMonth_50 ?_
      refine lv_aload_n hx hb dX4_readMonth_53 rfl (lv_at hl 0 rfl) ?_
      refine kg_X4_lengths X w dX4_readMonth_54 ?_
      refine kn_1 X w dX4_readMonth_57 ?_
      refine lv_icmp_ge (tgt := 87) hx hb dX4_readMonth_58 (by decide) (fun c_58 => ?_) (fun c_58 => ?_)
      · skip
        have k_58 : 14 ≤ ((A 6).toInt) := (g_le (show (14 : Int32).toInt = 14 from rfl) ((congrArg Int32.toInt (z_23.1 6 (by decide))).trans ((congrArg Int32.toInt (z_4.1 6 (by decide))).trans rfl))).mp c_58
        exfalso; omega
      · skip
        have k_58 : ¬ (14 ≤ ((A 6).toInt)) := fun h => c_58 ((g_le (show (14 : Int32).toInt = 14 from rfl) ((congrArg Int32.toInt (z_23.1 6 (by decide))).trans ((congrArg Int32.toInt (z_4.1 6 (by decide))).trans rfl))).mpr h)
        refine lv_aload_n hx hb dX4_readMonth_61 rfl (lv_at hl 0 rfl) ?_
        refine kg_X4_lengths X w dX4_readMonth_62 ?_
        refine lv_aload_n hx hb dX4_readMonth_65 rfl (lv_at hl 0 rfl) ?_
        refine kg_X4_monthCount X w dX4_readMonth_66 ?_
        refine lv_aload_n hx hb dX4_readMonth_69 rfl (lv_at hl 0 rfl) ?_
        refine kg_X4_text X w dX4_readMonth_70 ?_
        refine q_cPV X w (c_X7_number l D t b n σ0 (va_up A_23 7 x_38) B P ) v_X4_124 (k := 1) rfl rfl rfl ⟨Nat.le_of_ble_eq_true rfl, Nat.le_of_ble_eq_true rfl⟩ rfl hl.1 (Nat.le_of_ble_eq_true rfl) dX4_readMonth_73 ⟨Nat.zero_le _, Nat.zero_le _⟩ (fun r_73 z_73 => ?_)
        have m_73 : r_73.toInt = (num T po).1 := (congrArg Int32.toInt (z_73.trans ((z_23.1 4 (by decide)).trans rfl))).trans n_4
        have i_73 : r_73 = i3 (num T po).1 := by rw [← m_73]; exact (i3_i _).symm
        refine ks_1 (x := r_73) X w (g_in ((congrArg Int32.toInt (z_23.1 6 (by decide))).trans ((congrArg Int32.toInt (z_4.1 6 (by decide))).trans rfl)) (by omega)) dX4_readMonth_76 (fun H locs w => ?_)
        rw [g_tn (show ((va_up A_23 7 x_38) 6).toInt = (A 6).toInt from ((congrArg Int32.toInt (z_23.1 6 (by decide))).trans ((congrArg Int32.toInt (z_4.1 6 (by decide))).trans rfl)))] at w
        refine lv_aload_n hx hb dX4_readMonth_77 rfl (lv_at hl 0 rfl) ?_
        refine lv_dup hx hb dX4_readMonth_78 rfl ?_
        refine kg_X4_monthCount X w dX4_readMonth_79 ?_
        refine lv_iconst (v := 1) hx hb dX4_readMonth_82 (by decide) ?_
        refine lv_iadd hx hb dX4_readMonth_83 ?_
        refine lv_topi (fun x_83 e_83 => ?_)
        have p_83 : x_83.toInt = (((A 6).toInt) + 1) := by rw [e_83]; exact t_add ((congrArg Int32.toInt (z_23.1 6 (by decide))).trans ((congrArg Int32.toInt (z_4.1 6 (by decide))).trans rfl)) (show (1 : Int32).toInt = 1 from rfl) (by omega) (by omega)
        refine kp_X4_monthCount (v := x_83) X w dX4_readMonth_84 (fun H locs w => ?_)
        refine lv_iconst (v := 1) hx hb dX4_readMonth_87 (by decide) ?_
        exact q_cret (post := (fun z n1 σ1 => n1 = n ∧ ∃ A1 B1, σ1 = cS t b σ0 A1 B1 P ∧ kpI [3, 4, 5, 6, 7] A A1 ∧ kpR [1] B B1 ∧ z = bI (decide (dg T po)) ∧ (A1 3).toInt = (num T po).2 ∧ ((A 3).toInt ≤ (A1 3).toInt ∧ (A1 3).toInt ≤ (A 2).toInt) ∧ (dg T po → (A1 6).toInt = (A 6).toInt + 1 ∧ (A1 7).toInt = (A 7).toInt + (num T po).1 ∧ B1 = va_up B 1 (upd (B 1) (A 6).toInt.toNat (i3 (num T po).1)) ∧ A1 5 = (if 1 ≤ (num T po).1 ∧ (num T po).1 ≤ 60 then A 5 else 0)))) X w dX4_readMonth_88 (rfl) ⟨rfl, _, _, rfl, by exact ⟨(kpI.up (kpI.up KI_23 (by decide)) (by decide)), (kpR.up (kpR.rf (J := [1]) (R := B)) (by decide)), bI_1 k_7, ((congrArg Int32.toInt ((z_23.1 3 (by decide)).trans rfl)).trans p_4), (by have h3 : ((va_up (va_up A_23 7 x_38) 6 x_83) 3).toInt = (num T po).2 := ((congrArg Int32.toInt ((z_23.1 3 (by decide)).trans rfl)).trans p_4); rw [h3, h_3]; exact Q_4), fun _ => ⟨p_83, p_38, (by rw [i_73]), f_23⟩⟩⟩
  · skip
    rw [b_4] at c_7
    have k_7 := bI_f.mp c_7
    have p_4 : (A_4 3).toInt = po := q_4.trans (congrArg Prod.snd (numF_e (v := 0) 6 k_7))
    have Q_4 : po ≤ po ∧ po ≤ (A 2).toInt := by have h := Q_4; rw [show (num T po).2 = po from q_4.symm.trans p_4] at h; exact h
    refine lv_iconst (v := 0) hx hb dX4_readMonth_10 (by decide) ?_
    exact q_cret (post := (fun z n1 σ1 => n1 = n ∧ ∃ A1 B1, σ1 = cS t b σ0 A1 B1 P ∧ kpI [3, 4, 5, 6, 7] A A1 ∧ kpR [1] B B1 ∧ z = bI (decide (dg T po)) ∧ (A1 3).toInt = (num T po).2 ∧ ((A 3).toInt ≤ (A1 3).toInt ∧ (A1 3).toInt ≤ (A 2).toInt) ∧ (dg T po → (A1 6).toInt = (A 6).toInt + 1 ∧ (A1 7).toInt = (A 7).toInt + (num T po).1 ∧ B1 = va_up B 1 (upd (B 1) (A 6).toInt.toNat (i3 (num T po).1)) ∧ A1 5 = (if 1 ≤ (num T po).1 ∧ (num T po).1 ≤ 60 then A 5 else 0)))) X w dX4_readMonth_11 (rfl) ⟨rfl, _, _, rfl, by exact ⟨KI_4, (kpR.rf (J := [1]) (R := B)), bI_0 k_7, q_4, (by have h3 : (A_4 3).toInt = po := ((congrArg Int32.toInt rfl).trans p_4); rw [h3, h_3]; exact Q_4), fun h => absurd h k_7⟩⟩

set_option maxHeartbeats 2000000 in
set_option maxRecDepth 100000 in
theorem c_X4_readFirstDay (l : Launch) (D : va_G) (t : Nat → ClassId) (b n : Nat) (σ0 : qM) (A : Nat → Int32) (B : Nat → Nat → Int32) (P : Nat → Nat → Option Nat) (T : Int → Int) (po : Int) (q : Nat → Int32) (g : Bool) (h_1 : T = txC A B) (h_2 : okTx A B) (h_3 : (A 3).toInt = po) (h_4 : 0 ≤ po ∧ po ≤ (A 2).toInt) (h_5 : rdC q g A B) (h_6 : q 15 = 0) : kC l yX4_readFirstDay cX4_readFirstDay 2 (some .boolean) 3 D t b n σ0 A B P [.ref (b + 3)] (fun z A1 B1 => B1 = B ∧ kpI [3, 4, 5, 8] A A1 ∧ z = bI (decide ((sFirst T po q g).1 = true)) ∧ (A1 3).toInt = (sFirst T po q g).2.1 ∧ ((A 3).toInt ≤ (A1 3).toInt ∧ (A1 3).toInt ≤ (A 2).toInt) ∧ ((sFirst T po q g).1 = true → rdC (sFirst T po q g).2.2.1 (sFirst T po q g).2.2.2 A1 B)) := by
  refine qC.of (by decide +kernel) (Nat.le_of_ble_eq_true rfl) (fun p e s m args below meth c X w ls hl => ?_)
  have hx := X.1
  have hb := X.2.1
  have hl : lv_has ls 2 [(0, .ref (b + 3))] := hl
  refine lv_aload_n hx hb dX4_readFirstDay_0 rfl (lv_at hl 0 rfl) ?_
  refine kg_X4_text X w dX4_readFirstDay_1 ?_
  refine lv_bipush (v := 59) hx hb dX4_readFirstDay_4 (by decide) ?_
  refine kk_cCI X w (c_X7_accept l D t b n σ0 A B P T 59 59 (show (59 : Int32).toInt = 59 from rfl) (by exact h_1.trans (txC_cg ((kpI.rf (J := [3, 4, 5, 8]) (I := A)) 2 (by decide)) ((kpR.rf (J := [1, 2, 3]) (R := B)) 0 (by decide))).symm) (by exact h_2.cg ((kpI.rf (J := [3, 4, 5, 8]) (I := A)) 2 (by decide)) ((kpR.rf (J := [1, 2, 3]) (R := B)) 0 (by decide))) (by have h2 : (A 2).toInt = (A 2).toInt := (congrArg Int32.toInt ((kpI.rf (J := [3, 4, 5, 8]) (I := A)) 2 (by decide))); have h3 : (A 3).toInt = po := ((congrArg Int32.toInt rfl).trans h_3); rw [h2, h3]; exact ⟨Int.le_trans h_4.1 (And.intro (Int.le_refl po) h_4.2).1, (And.intro (Int.le_refl po) h_4.2).2⟩) (by first | assumption | omega)) v_X4_114 rfl rfl rfl ⟨Nat.le_of_ble_eq_true rfl, Nat.le_of_ble_eq_true rfl⟩ rfl hl.1 (Nat.le_of_ble_eq_true rfl) dX4_readFirstDay_6 ⟨Nat.zero_le _, Nat.zero_le _⟩ (fun r_6 A_6 H locs z_6 w => ?_)
  have KI_6 : kpI [3, 4, 5, 8] A A_6 := kpI.tr (J := [3, 4, 5, 8]) (kpI.rf (J := [3, 4, 5, 8]) (I := A)) z_6.1 (by decide) (by decide)
  have q_6 : (A_6 3).toInt = (if T po = 59 then po + 1 else po) := by have h : (A_6 3).toInt = (if T ((A 3).toInt) = 59 then ((A 3).toInt) + 1 else ((A 3).toInt)) := z_6.2.2.1; rw [show (A 3).toInt = po from ((congrArg Int32.toInt rfl).trans h_3)] at h; exact h
  have b_6 : r_6 = bI (decide (T po = 59)) := by have h : r_6 = bI (decide (T ((A 3).toInt) = 59)) := z_6.2.1; rw [show (A 3).toInt = po from ((congrArg Int32.toInt rfl).trans h_3)] at h; exact h
  have Q_6 : po ≤ (if T po = 59 then po + 1 else po) ∧ (if T po = 59 then po + 1 else po) ≤ (A 2).toInt := ⟨(by have h := (And.intro (Int.le_refl po) h_4.2); split <;> omega), (by rw [← q_6]; exact Int.le_trans z_6.2.2.2 (Int.le_of_eq (congrArg Int32.toInt ((kpI.rf (J := [3, 4, 5, 8]) (I := A)) 2 (by decide)))))⟩
  refine lv_if_eq (tgt := 24) hx hb dX4_readFirstDay_9 (by decide) (fun c_9 => ?_) (fun c_9 => ?_)
  · skip
    rw [b_6] at c_9
    have k_9 := bI_f.mp c_9
    have p_6 : (A_6 3).toInt = po := q_6.trans (if_neg k_9)
    have Q_6 : po ≤ po ∧ po ≤ (A 2).toInt := by have h := Q_6; rw [show (if T po = 59 then po + 1 else po) = po from q_6.symm.trans p_6] at h; exact h
    refine lv_iconst (v := 0) hx hb dX4_readFirstDay_24 (by decide) ?_
    exact q_cret (post := (fun z n1 σ1 => n1 = n ∧ ∃ A1 B1, σ1 = cS t b σ0 A1 B1 P ∧ B1 = B ∧ kpI [3, 4, 5, 8] A A1 ∧ z = bI (decide ((sFirst T po q g).1 = true)) ∧ (A1 3).toInt = (sFirst T po q g).2.1 ∧ ((A 3).toInt ≤ (A1 3).toInt ∧ (A1 3).toInt ≤ (A 2).toInt) ∧ ((sFirst T po q g).1 = true → rdC (sFirst T po q g).2.2.1 (sFirst T po q g).2.2.2 A1 B))) X w dX4_readFirstDay_25 (rfl) ⟨rfl, _, _, rfl, rfl, by have e : (sFirst T po q g).1 = false ∧ (sFirst T po q g).2.1 = po := (by unfold sFirst; rw [if_neg k_9]; exact ⟨rfl, rfl⟩); exact ⟨KI_6, bI_0 (by rw [e.1]; decide), ((congrArg Int32.toInt rfl).trans p_6).trans e.2.symm, (by have h3 : (A_6 3).toInt = po := ((congrArg Int32.toInt rfl).trans p_6); rw [h3, h_3]; exact Q_6), fun h => absurd (h.symm.trans e.1) (by decide)⟩⟩
  · skip
    rw [b_6] at c_9
    have k_9 := bI_t.mp c_9
    have p_6 : (A_6 3).toInt = po + 1 := q_6.trans (if_pos k_9)
    have Q_6 : po ≤ po + 1 ∧ po + 1 ≤ (A 2).toInt := by have h := Q_6; rw [show (if T po = 59 then po + 1 else po) = po + 1 from q_6.symm.trans p_6] at h; exact h
    refine lv_aload_n hx hb dX4_readFirstDay_12 rfl (lv_at hl 0 rfl) ?_
    refine kg_X4_text X w dX4_readFirstDay_13 ?_
    refine lv_bipush (v := 101) hx hb dX4_readFirstDay_16 (by decide) ?_
    refine kk_cCI X w (c_X7_accept l D t b n σ0 A_6 B P T 101 101 (show (101 : Int32).toInt = 101 from rfl) (by exact h_1.trans (txC_cg (KI_6 2 (by decide)) ((kpR.rf (J := [1, 2, 3]) (R := B)) 0 (by decide))).symm) (by exact h_2.cg (KI_6 2 (by decide)) ((kpR.rf (J := [1, 2, 3]) (R := B)) 0 (by decide))) (by have h2 : (A_6 2).toInt = (A 2).toInt := (congrArg Int32.toInt (KI_6 2 (by decide))); have h3 : (A_6 3).toInt = po + 1 := ((congrArg Int32.toInt rfl).trans p_6); rw [h2, h3]; exact ⟨Int.le_trans h_4.1 Q_6.1, Q_6.2⟩) (by first | assumption | omega)) v_X4_114 rfl rfl rfl ⟨Nat.le_of_ble_eq_true rfl, Nat.le_of_ble_eq_true rfl⟩ rfl hl.1 (Nat.le_of_ble_eq_true rfl) dX4_readFirstDay_18 ⟨Nat.zero_le _, Nat.zero_le _⟩ (fun r_18 A_18 H locs z_18 w => ?_)
    have KI_18 : kpI [3, 4, 5, 8] A A_18 := kpI.tr (J := [3, 4, 5, 8]) KI_6 z_18.1 (by decide) (by decide)
    have q_18 : (A_18 3).toInt = (if T (po + 1) = 101 then (po + 1) + 1 else (po + 1)) := by have h : (A_18 3).toInt = (if T ((A_6 3).toInt) = 101 then ((A_6 3).toInt) + 1 else ((A_6 3).toInt)) := z_18.2.2.1; rw [show (A_6 3).toInt = po + 1 from ((congrArg Int32.toInt rfl).trans p_6)] at h; exact h
    have b_18 : r_18 = bI (decide (T (po + 1) = 101)) := by have h : r_18 = bI (decide (T ((A_6 3).toInt) = 101)) := z_18.2.1; rw [show (A_6 3).toInt = po + 1 from ((congrArg Int32.toInt rfl).trans p_6)] at h; exact h
    have Q_18 : po ≤ (if T (po + 1) = 101 then (po + 1) + 1 else (po + 1)) ∧ (if T (po + 1) = 101 then (po + 1) + 1 else (po + 1)) ≤ (A 2).toInt := ⟨(by have h := Q_6; split <;> omega), (by rw [← q_18]; exact Int.le_trans z_18.2.2.2 (Int.le_of_eq (congrArg Int32.toInt (KI_6 2 (by decide)))))⟩
    refine lv_if_ne (tgt := 26) hx hb dX4_readFirstDay_21 (by decide) (fun c_21 => ?_) (fun c_21 => ?_)
    · skip
      rw [b_18] at c_21
      have k_21 := bI_t.mp c_21
      have p_18 : (A_18 3).toInt = (po + 1) + 1 := q_18.trans (if_pos k_21)
      have Q_18 : po ≤ (po + 1) + 1 ∧ (po + 1) + 1 ≤ (A 2).toInt := by have h := Q_18; rw [show (if T (po + 1) = 101 then (po + 1) + 1 else (po + 1)) = (po + 1) + 1 from q_18.symm.trans p_18] at h; exact h
      refine lv_aload_n hx hb dX4_readFirstDay_26 rfl (lv_at hl 0 rfl) ?_
      refine kg_X4_text X w dX4_readFirstDay_27 ?_
      refine lv_bipush (v := 45) hx hb dX4_readFirstDay_30 (by decide) ?_
      refine kk_cCI X w (c_X7_accept l D t b n σ0 A_18 B P T 45 45 (show (45 : Int32).toInt = 45 from rfl) (by exact h_1.trans (txC_cg (KI_18 2 (by decide)) ((kpR.rf (J := [1, 2, 3]) (R := B)) 0 (by decide))).symm) (by exact h_2.cg (KI_18 2 (by decide)) ((kpR.rf (J := [1, 2, 3]) (R := B)) 0 (by decide))) (by have h2 : (A_18 2).toInt = (A 2).toInt := (congrArg Int32.toInt (KI_18 2 (by decide))); have h3 : (A_18 3).toInt = (po + 1) + 1 := ((congrArg Int32.toInt rfl).trans p_18); rw [h2, h3]; exact ⟨Int.le_trans h_4.1 Q_18.1, Q_18.2⟩) (by first | assumption | omega)) v_X4_114 rfl rfl rfl ⟨Nat.le_of_ble_eq_true rfl, Nat.le_of_ble_eq_true rfl⟩ rfl hl.1 (Nat.le_of_ble_eq_true rfl) dX4_readFirstDay_32 ⟨Nat.zero_le _, Nat.zero_le _⟩ (fun r_32 A_32 H locs z_32 w => ?_)
      have KI_32 : kpI [3, 4, 5, 8] A A_32 := kpI.tr (J := [3, 4, 5, 8]) KI_18 z_32.1 (by decide) (by decide)
      have q_32 : (A_32 3).toInt = (if T ((po + 1) + 1) = 45 then ((po + 1) + 1) + 1 else ((po + 1) + 1)) := by have h : (A_32 3).toInt = (if T ((A_18 3).toInt) = 45 then ((A_18 3).toInt) + 1 else ((A_18 3).toInt)) := z_32.2.2.1; rw [show (A_18 3).toInt = (po + 1) + 1 from ((congrArg Int32.toInt rfl).trans p_18)] at h; exact h
      have b_32 : r_32 = bI (decide (T ((po + 1) + 1) = 45)) := by have h : r_32 = bI (decide (T ((A_18 3).toInt) = 45)) := z_32.2.1; rw [show (A_18 3).toInt = (po + 1) + 1 from ((congrArg Int32.toInt rfl).trans p_18)] at h; exact h
      have Q_32 : po ≤ (if T ((po + 1) + 1) = 45 then ((po + 1) + 1) + 1 else ((po + 1) + 1)) ∧ (if T ((po + 1) + 1) = 45 then ((po + 1) + 1) + 1 else ((po + 1) + 1)) ≤ (A 2).toInt := ⟨(by have h := Q_18; split <;> omega), (by rw [← q_32]; exact Int.le_trans z_32.2.2.2 (Int.le_of_eq (congrArg Int32.toInt (KI_18 2 (by decide)))))⟩
      refine lv_istore_n (lv' := [(1, .int r_32), (0, .ref (b + 3))]) hx hb dX4_readFirstDay_35 rfl hl (by decide) rfl (fun ls hl => ?_)
      refine lv_aload_n hx hb dX4_readFirstDay_36 rfl (lv_at hl 1 rfl) ?_
      refine kg_X4_text X w dX4_readFirstDay_37 ?_
      refine kk_cCI X w (c_X7_readNumber l D t b n σ0 A_32 B P T (by exact h_1.trans (txC_cg (KI_32 2 (by decide)) ((kpR.rf (J := [1, 2, 3]) (R := B)) 0 (by decide))).symm) (by exact h_2.cg (KI_32 2 (by decide)) ((kpR.rf (J := [1, 2, 3]) (R := B)) 0 (by decide))) (by have h2 : (A_32 2).toInt = (A 2).toInt := (congrArg Int32.toInt (KI_32 2 (by decide))); have h3 : (A_32 3).toInt = (if T ((po + 1) + 1) = 45 then ((po + 1) + 1) + 1 else ((po + 1) + 1)) := ((congrArg Int32.toInt rfl).trans q_32); rw [h2, h3]; exact ⟨Int.le_trans h_4.1 Q_32.1, Q_32.2⟩)) v_X4_121 rfl rfl rfl ⟨Nat.le_of_ble_eq_true rfl, Nat.le_of_ble_eq_true rfl⟩ rfl hl.1 (Nat.le_of_ble_eq_true rfl) dX4_readFirstDay_40 ⟨Nat.zero_le _, Nat.zero_le _⟩ (fun r_40 A_40 H locs z_40 w => ?_)
      have KI_40 : kpI [3, 4, 5, 8] A A_40 := kpI.tr (J := [3, 4, 5, 8]) KI_32 z_40.1 (by decide) (by decide)
      have q_40 : (A_40 3).toInt = (num T (if T ((po + 1) + 1) = 45 then ((po + 1) + 1) + 1 else ((po + 1) + 1))).2 := by have h : (A_40 3).toInt = (num T ((A_32 3).toInt)).2 := z_40.2.2.1; rw [show (A_32 3).toInt = (if T ((po + 1) + 1) = 45 then ((po + 1) + 1) + 1 else ((po + 1) + 1)) from ((congrArg Int32.toInt rfl).trans q_32)] at h; exact h
      have n_40 : (A_40 4).toInt = (num T (if T ((po + 1) + 1) = 45 then ((po + 1) + 1) + 1 else ((po + 1) + 1))).1 := by have h : (A_40 4).toInt = (num T ((A_32 3).toInt)).1 := z_40.2.2.2.1; rw [show (A_32 3).toInt = (if T ((po + 1) + 1) = 45 then ((po + 1) + 1) + 1 else ((po + 1) + 1)) from ((congrArg Int32.toInt rfl).trans q_32)] at h; exact h
      have b_40 : r_40 = bI (decide (dg T (if T ((po + 1) + 1) = 45 then ((po + 1) + 1) + 1 else ((po + 1) + 1)))) := by have h : r_40 = bI (decide (dg T ((A_32 3).toInt))) := z_40.2.1; rw [show (A_32 3).toInt = (if T ((po + 1) + 1) = 45 then ((po + 1) + 1) + 1 else ((po + 1) + 1)) from ((congrArg Int32.toInt rfl).trans q_32)] at h; exact h
      have v_40 := num_v (T := T) (if T ((po + 1) + 1) = 45 then ((po + 1) + 1) + 1 else ((po + 1) + 1))
      have Q_40 : po ≤ (num T (if T ((po + 1) + 1) = 45 then ((po + 1) + 1) + 1 else ((po + 1) + 1))).2 ∧ (num T (if T ((po + 1) + 1) = 45 then ((po + 1) + 1) + 1 else ((po + 1) + 1))).2 ≤ (A 2).toInt := ⟨(by have h := Q_32; have h2 := num_ge (T := T) (if T ((po + 1) + 1) = 45 then ((po + 1) + 1) + 1 else ((po + 1) + 1)); omega), (by rw [← q_40]; exact Int.le_trans z_40.2.2.2.2 (Int.le_of_eq (congrArg Int32.toInt (KI_32 2 (by decide)))))⟩
      refine lv_if_ne (tgt := 48) hx hb dX4_readFirstDay_43 (by decide) (fun c_43 => ?_) (fun c_43 => ?_)
      · skip
        rw [b_40] at c_43
        have k_43 := bI_t.mp c_43
        have p_40 : (A_40 3).toInt = (num T (if T ((po + 1) + 1) = 45 then ((po + 1) + 1) + 1 else ((po + 1) + 1))).2 := q_40
        skip
        refine lv_aload_n hx hb dX4_readFirstDay_48 rfl (lv_at hl 1 rfl) ?_
        refine lv_iload_n hx hb dX4_readFirstDay_49 rfl (lv_at hl 0 rfl) ?_
        refine lv_if_eq (tgt := 64) hx hb dX4_readFirstDay_50 (by decide) (fun c_50 => ?_) (fun c_50 => ?_)
        · skip
          rw [b_32] at c_50
          have k_50 := bI_f.mp c_50
          have p_32 : (A_32 3).toInt = (po + 1) + 1 := q_32.trans (if_neg k_50)
          refine lv_aload_n hx hb dX4_readFirstDay_64 rfl (lv_at hl 1 rfl) ?_
          refine kg_X4_text X w dX4_readFirstDay_65 ?_
          refine q_cPV X w (c_X7_number l D t b n σ0 A_40 B P ) v_X4_124 (k := 1) rfl rfl rfl ⟨Nat.le_of_ble_eq_true rfl, Nat.le_of_ble_eq_true rfl⟩ rfl hl.1 (Nat.le_of_ble_eq_true rfl) dX4_readFirstDay_68 ⟨Nat.zero_le _, Nat.zero_le _⟩ (fun r_68 z_68 => ?_)
          have m_68 : r_68.toInt = (num T (if T ((po + 1) + 1) = 45 then ((po + 1) + 1) + 1 else ((po + 1) + 1))).1 := (congrArg Int32.toInt (z_68.trans rfl)).trans n_40
          have i_68 : r_68 = i3 (num T (if T ((po + 1) + 1) = 45 then ((po + 1) + 1) + 1 else ((po + 1) + 1))).1 := by rw [← m_68]; exact (i3_i _).symm
          refine kp_X4_first (v := r_68) X w dX4_readFirstDay_71 (fun H locs w => ?_)
          refine lv_aload_n hx hb dX4_readFirstDay_74 rfl (lv_at hl 1 rfl) ?_
          refine lv_aload_n hx hb dX4_readFirstDay_75 rfl (lv_at hl 1 rfl) ?_
          refine kg_X4_first X w dX4_readFirstDay_76 ?_
          refine q_topE (y := r_68) rfl ?_
          refine lv_ldc hx hb X.2.2.2.1 (X.2.2.1 _ kc_X4_132) dX4_readFirstDay_79 ?_
          refine lv_ldc hx hb X.2.2.2.1 (X.2.2.1 _ kc_X4_133) dX4_readFirstDay_81 ?_
          refine kk_cVI X w (c_X4_allow l D t b n σ0 (va_up A_40 8 r_68) B P r_68 (-500000) 500000 ((num T (if T ((po + 1) + 1) = 45 then ((po + 1) + 1) + 1 else ((po + 1) + 1))).1) (-500000) 500000 m_68 (show ((-500000) : Int32).toInt = (-500000) from rfl) (show (500000 : Int32).toInt = 500000 from rfl)) v_X4_128 rfl rfl rfl ⟨Nat.le_of_ble_eq_true rfl, Nat.le_of_ble_eq_true rfl⟩ rfl hl.1 (Nat.le_of_ble_eq_true rfl) dX4_readFirstDay_83 ⟨Nat.zero_le _, Nat.zero_le _⟩ (fun A_83 H locs z_83 w => ?_)
          have KI_83 : kpI [3, 4, 5, 8] A A_83 := kpI.tr (J := [3, 4, 5, 8]) (kpI.up KI_40 (by decide)) z_83.1 (by decide) (by decide)
          have f_83 : A_83 5 = (if (-500000) ≤ ((num T (if T ((po + 1) + 1) = 45 then ((po + 1) + 1) + 1 else ((po + 1) + 1))).1) ∧ ((num T (if T ((po + 1) + 1) = 45 then ((po + 1) + 1) + 1 else ((po + 1) + 1))).1) ≤ 500000 then A 5 else 0) := by have h : A_83 5 = (if (-500000) ≤ ((num T (if T ((po + 1) + 1) = 45 then ((po + 1) + 1) + 1 else ((po + 1) + 1))).1) ∧ ((num T (if T ((po + 1) + 1) = 45 then ((po + 1) + 1) + 1 else ((po + 1) + 1))).1) ≤ 500000 then (va_up A_40 8 r_68) 5 else 0) := z_83.2; rw [show (va_up A_40 8 r_68) 5 = A 5 from ((z_40.1 5 (by decide)).trans ((z_32.1 5 (by decide)).trans ((z_18.1 5 (by decide)).trans ((z_6.1 5 (by decide)).trans rfl))))] at h; exact h
          refine lv_iconst (v := 1) hx hb dX4_readFirstDay_86 (by decide) ?_
          exact q_cret (post := (fun z n1 σ1 => n1 = n ∧ ∃ A1 B1, σ1 = cS t b σ0 A1 B1 P ∧ B1 = B ∧ kpI [3, 4, 5, 8] A A1 ∧ z = bI (decide ((sFirst T po q g).1 = true)) ∧ (A1 3).toInt = (sFirst T po q g).2.1 ∧ ((A 3).toInt ≤ (A1 3).toInt ∧ (A1 3).toInt ≤ (A 2).toInt) ∧ ((sFirst T po q g).1 = true → rdC (sFirst T po q g).2.2.1 (sFirst T po q g).2.2.2 A1 B))) X w dX4_readFirstDay_87 (rfl) ⟨rfl, _, _, rfl, rfl, by have e : sFirst T po q g = (true, (num T (if T (po + 1 + 1) = 45 then po + 1 + 1 + 1 else po + 1 + 1)).2, upd (upd q 15 (i3 (num T (if T (po + 1 + 1) = 45 then po + 1 + 1 + 1 else po + 1 + 1)).1)) 15 (if T (po + 1 + 1) = 45 then -(i3 (num T (if T (po + 1 + 1) = 45 then po + 1 + 1 + 1 else po + 1 + 1)).1) else (i3 (num T (if T (po + 1 + 1) = 45 then po + 1 + 1 + 1 else po + 1 + 1)).1)), g) := (by unfold sFirst; rw [if_pos k_9, if_pos k_21, if_pos k_43]); rw [e]; exact ⟨KI_83, rfl, ((congrArg Int32.toInt ((z_83.1 3 (by decide)).trans rfl)).trans p_40), (by have h3 : (A_83 3).toInt = (num T (if T ((po + 1) + 1) = 45 then ((po + 1) + 1) + 1 else ((po + 1) + 1))).2 := ((congrArg Int32.toInt ((z_83.1 3 (by decide)).trans rfl)).trans p_40); rw [h3, h_3]; exact Q_40), fun _ => (by show rdC (upd (upd q 15 (i3 (num T (if T (po + 1 + 1) = 45 then po + 1 + 1 + 1 else po + 1 + 1)).1)) 15 (if T (po + 1 + 1) = 45 then -(i3 (num T (if T (po + 1 + 1) = 45 then po + 1 + 1 + 1 else po + 1 + 1)).1) else (i3 (num T (if T (po + 1 + 1) = 45 then po + 1 + 1 + 1 else po + 1 + 1)).1))) g _ _; rw [show (if T (po + 1 + 1) = 45 then -(i3 (num T (if T (po + 1 + 1) = 45 then po + 1 + 1 + 1 else po + 1 + 1)).1) else (i3 (num T (if T (po + 1 + 1) = 45 then po + 1 + 1 + 1 else po + 1 + 1)).1)) = r_68 from (by rw [if_neg k_50, i_68])]; exact rdC_first h_5 h_6 KI_83 rfl (z_83.1 8 (by decide)) (by rw [m_68]; exact f_83))⟩⟩
        · skip
          rw [b_32] at c_50
          have k_50 := bI_t.mp c_50
          have p_32 : (A_32 3).toInt = ((po + 1) + 1) + 1 := q_32.trans (if_pos k_50)
          refine lv_aload_n hx hb dX4_readFirstDay_53 rfl (lv_at hl 1 rfl) ?_
          refine kg_X4_text X w dX4_readFirstDay_54 ?_
          refine q_cPV X w (c_X7_number l D t b n σ0 A_40 B P ) v_X4_124 (k := 1) rfl rfl rfl ⟨Nat.le_of_ble_eq_true rfl, Nat.le_of_ble_eq_true rfl⟩ rfl hl.1 (Nat.le_of_ble_eq_true rfl) dX4_readFirstDay_57 ⟨Nat.zero_le _, Nat.zero_le _⟩ (fun r_57 z_57 => ?_)
          have m_57 : r_57.toInt = (num T (if T ((po + 1) + 1) = 45 then ((po + 1) + 1) + 1 else ((po + 1) + 1))).1 := (congrArg Int32.toInt (z_57.trans rfl)).trans n_40
          have i_57 : r_57 = i3 (num T (if T ((po + 1) + 1) = 45 then ((po + 1) + 1) + 1 else ((po + 1) + 1))).1 := by rw [← m_57]; exact (i3_i _).symm
          refine lv_ineg hx hb dX4_readFirstDay_60 ?_
          refine lv_topi (fun x_60 e_60 => ?_)
          have p_60 : x_60.toInt = -((num T (if T ((po + 1) + 1) = 45 then ((po + 1) + 1) + 1 else ((po + 1) + 1))).1) := by rw [e_60]; exact t_neg m_57 (by omega)
          refine lv_goto (tgt := 71) hx hb dX4_readFirstDay_61 (by decide) ?_
          refine kp_X4_first (v := x_60) X w dX4_readFirstDay_71 (fun H locs w => ?_)
          refine lv_aload_n hx hb dX4_readFirstDay_74 rfl (lv_at hl 1 rfl) ?_
          refine lv_aload_n hx hb dX4_readFirstDay_75 rfl (lv_at hl 1 rfl) ?_
          refine kg_X4_first X w dX4_readFirstDay_76 ?_
          refine q_topE (y := x_60) rfl ?_
          refine lv_ldc hx hb X.2.2.2.1 (X.2.2.1 _ kc_X4_132) dX4_readFirstDay_79 ?_
          refine lv_ldc hx hb X.2.2.2.1 (X.2.2.1 _ kc_X4_133) dX4_readFirstDay_81 ?_
          refine kk_cVI X w (c_X4_allow l D t b n σ0 (va_up A_40 8 x_60) B P x_60 (-500000) 500000 (-((num T (if T ((po + 1) + 1) = 45 then ((po + 1) + 1) + 1 else ((po + 1) + 1))).1)) (-500000) 500000 p_60 (show ((-500000) : Int32).toInt = (-500000) from rfl) (show (500000 : Int32).toInt = 500000 from rfl)) v_X4_128 rfl rfl rfl ⟨Nat.le_of_ble_eq_true rfl, Nat.le_of_ble_eq_true rfl⟩ rfl hl.1 (Nat.le_of_ble_eq_true rfl) dX4_readFirstDay_83 ⟨Nat.zero_le _, Nat.zero_le _⟩ (fun A_83 H locs z_83 w => ?_)
          have KI_83 : kpI [3, 4, 5, 8] A A_83 := kpI.tr (J := [3, 4, 5, 8]) (kpI.up KI_40 (by decide)) z_83.1 (by decide) (by decide)
          have f_83 : A_83 5 = (if (-500000) ≤ (-((num T (if T ((po + 1) + 1) = 45 then ((po + 1) + 1) + 1 else ((po + 1) + 1))).1)) ∧ (-((num T (if T ((po + 1) + 1) = 45 then ((po + 1) + 1) + 1 else ((po + 1) + 1))).1)) ≤ 500000 then A 5 else 0) := by have h : A_83 5 = (if (-500000) ≤ (-((num T (if T ((po + 1) + 1) = 45 then ((po + 1) + 1) + 1 else ((po + 1) + 1))).1)) ∧ (-((num T (if T ((po + 1) + 1) = 45 then ((po + 1) + 1) + 1 else ((po + 1) + 1))).1)) ≤ 500000 then (va_up A_40 8 x_60) 5 else 0) := z_83.2; rw [show (va_up A_40 8 x_60) 5 = A 5 from ((z_40.1 5 (by decide)).trans ((z_32.1 5 (by decide)).trans ((z_18.1 5 (by decide)).trans ((z_6.1 5 (by decide)).trans rfl))))] at h; exact h
          refine lv_iconst (v := 1) hx hb dX4_readFirstDay_86 (by decide) ?_
          exact q_cret (post := (fun z n1 σ1 => n1 = n ∧ ∃ A1 B1, σ1 = cS t b σ0 A1 B1 P ∧ B1 = B ∧ kpI [3, 4, 5, 8] A A1 ∧ z = bI (decide ((sFirst T po q g).1 = true)) ∧ (A1 3).toInt = (sFirst T po q g).2.1 ∧ ((A 3).toInt ≤ (A1 3).toInt ∧ (A1 3).toInt ≤ (A 2).toInt) ∧ ((sFirst T po q g).1 = true → rdC (sFirst T po q g).2.2.1 (sFirst T po q g).2.2.2 A1 B))) X w dX4_readFirstDay_87 (rfl) ⟨rfl, _, _, rfl, rfl, by have e : sFirst T po q g = (true, (num T (if T (po + 1 + 1) = 45 then po + 1 + 1 + 1 else po + 1 + 1)).2, upd (upd q 15 (i3 (num T (if T (po + 1 + 1) = 45 then po + 1 + 1 + 1 else po + 1 + 1)).1)) 15 (if T (po + 1 + 1) = 45 then -(i3 (num T (if T (po + 1 + 1) = 45 then po + 1 + 1 + 1 else po + 1 + 1)).1) else (i3 (num T (if T (po + 1 + 1) = 45 then po + 1 + 1 + 1 else po + 1 + 1)).1)), g) := (by unfold sFirst; rw [if_pos k_9, if_pos k_21, if_pos k_43]); rw [e]; exact ⟨KI_83, rfl, ((congrArg Int32.toInt ((z_83.1 3 (by decide)).trans rfl)).trans p_40), (by have h3 : (A_83 3).toInt = (num T (if T ((po + 1) + 1) = 45 then ((po + 1) + 1) + 1 else ((po + 1) + 1))).2 := ((congrArg Int32.toInt ((z_83.1 3 (by decide)).trans rfl)).trans p_40); rw [h3, h_3]; exact Q_40), fun _ => (by show rdC (upd (upd q 15 (i3 (num T (if T (po + 1 + 1) = 45 then po + 1 + 1 + 1 else po + 1 + 1)).1)) 15 (if T (po + 1 + 1) = 45 then -(i3 (num T (if T (po + 1 + 1) = 45 then po + 1 + 1 + 1 else po + 1 + 1)).1) else (i3 (num T (if T (po + 1 + 1) = 45 then po + 1 + 1 + 1 else po + 1 + 1)).1))) g _ _; rw [show (if T (po + 1 + 1) = 45 then -(i3 (num T (if T (po + 1 + 1) = 45 then po + 1 + 1 + 1 else po + 1 + 1)).1) else (i3 (num T (if T (po + 1 + 1) = 45 then po + 1 + 1 + 1 else po + 1 + 1)).1)) = x_60 from (by rw [if_pos k_50, e_60, i_57])]; exact rdC_first h_5 h_6 KI_83 rfl (z_83.1 8 (by decide)) (by rw [p_60]; exact f_83))⟩⟩
      · skip
        rw [b_40] at c_43
        have k_43 := bI_f.mp c_43
        have p_40 : (A_40 3).toInt = (if T ((po + 1) + 1) = 45 then ((po + 1) + 1) + 1 else ((po + 1) + 1)) := q_40.trans (congrArg Prod.snd (numF_e (v := 0) 6 k_43))
        have Q_40 : po ≤ (if T ((po + 1) + 1) = 45 then ((po + 1) + 1) + 1 else ((po + 1) + 1)) ∧ (if T ((po + 1) + 1) = 45 then ((po + 1) + 1) + 1 else ((po + 1) + 1)) ≤ (A 2).toInt := by have h := Q_40; rw [show (num T (if T ((po + 1) + 1) = 45 then ((po + 1) + 1) + 1 else ((po + 1) + 1))).2 = (if T ((po + 1) + 1) = 45 then ((po + 1) + 1) + 1 else ((po + 1) + 1)) from q_40.symm.trans p_40] at h; exact h
        refine lv_iconst (v := 0) hx hb dX4_readFirstDay_46 (by decide) ?_
        exact q_cret (post := (fun z n1 σ1 => n1 = n ∧ ∃ A1 B1, σ1 = cS t b σ0 A1 B1 P ∧ B1 = B ∧ kpI [3, 4, 5, 8] A A1 ∧ z = bI (decide ((sFirst T po q g).1 = true)) ∧ (A1 3).toInt = (sFirst T po q g).2.1 ∧ ((A 3).toInt ≤ (A1 3).toInt ∧ (A1 3).toInt ≤ (A 2).toInt) ∧ ((sFirst T po q g).1 = true → rdC (sFirst T po q g).2.2.1 (sFirst T po q g).2.2.2 A1 B))) X w dX4_readFirstDay_47 (rfl) ⟨rfl, _, _, rfl, rfl, by have e : (sFirst T po q g).1 = false ∧ (sFirst T po q g).2.1 = (if T ((po + 1) + 1) = 45 then ((po + 1) + 1) + 1 else ((po + 1) + 1)) := (by unfold sFirst; rw [if_pos k_9, if_pos k_21, if_neg k_43]; exact ⟨rfl, rfl⟩); exact ⟨KI_40, bI_0 (by rw [e.1]; decide), ((congrArg Int32.toInt rfl).trans p_40).trans e.2.symm, (by have h3 : (A_40 3).toInt = (if T ((po + 1) + 1) = 45 then ((po + 1) + 1) + 1 else ((po + 1) + 1)) := ((congrArg Int32.toInt rfl).trans p_40); rw [h3, h_3]; exact Q_40), fun h => absurd (h.symm.trans e.1) (by decide)⟩⟩
    · skip
      rw [b_18] at c_21
      have k_21 := bI_f.mp c_21
      have p_18 : (A_18 3).toInt = po + 1 := q_18.trans (if_neg k_21)
      have Q_18 : po ≤ po + 1 ∧ po + 1 ≤ (A 2).toInt := by have h := Q_18; rw [show (if T (po + 1) = 101 then (po + 1) + 1 else (po + 1)) = po + 1 from q_18.symm.trans p_18] at h; exact h
      refine lv_iconst (v := 0) hx hb dX4_readFirstDay_24 (by decide) ?_
      exact q_cret (post := (fun z n1 σ1 => n1 = n ∧ ∃ A1 B1, σ1 = cS t b σ0 A1 B1 P ∧ B1 = B ∧ kpI [3, 4, 5, 8] A A1 ∧ z = bI (decide ((sFirst T po q g).1 = true)) ∧ (A1 3).toInt = (sFirst T po q g).2.1 ∧ ((A 3).toInt ≤ (A1 3).toInt ∧ (A1 3).toInt ≤ (A 2).toInt) ∧ ((sFirst T po q g).1 = true → rdC (sFirst T po q g).2.2.1 (sFirst T po q g).2.2.2 A1 B))) X w dX4_readFirstDay_25 (rfl) ⟨rfl, _, _, rfl, rfl, by have e : (sFirst T po q g).1 = false ∧ (sFirst T po q g).2.1 = po + 1 := (by unfold sFirst; rw [if_pos k_9, if_neg k_21]; exact ⟨rfl, rfl⟩); exact ⟨KI_18, bI_0 (by rw [e.1]; decide), ((congrArg Int32.toInt rfl).trans p_18).trans e.2.symm, (by have h3 : (A_18 3).toInt = po + 1 := ((congrArg Int32.toInt rfl).trans p_18); rw [h3, h_3]; exact Q_18), fun h => absurd (h.symm.trans e.1) (by decide)⟩⟩

set_option maxHeartbeats 2000000 in
set_option maxRecDepth 100000 in
theorem c_X4_readLeapDay (l : Launch) (D : va_G) (t : Nat → ClassId) (b n : Nat) (σ0 : qM) (A : Nat → Int32) (B : Nat → Nat → Int32) (P : Nat → Nat → Option Nat) (T : Int → Int) (po : Int) (q : Nat → Int32) (g : Bool) (h_1 : T = txC A B) (h_2 : okTx A B) (h_3 : (A 3).toInt = po) (h_4 : 0 ≤ po ∧ po ≤ (A 2).toInt) (h_5 : rdC q g A B) (h_6 : q 16 = 0) : kC l yX4_readLeapDay cX4_readLeapDay 1 (some .boolean) 3 D t b n σ0 A B P [.ref (b + 3)] (fun z A1 B1 => B1 = B ∧ kpI [3, 4, 5, 9, 10, 11] A A1 ∧ z = bI (decide ((sLd T po q g).1 = true)) ∧ (A1 3).toInt = (sLd T po q g).2.1 ∧ ((A 3).toInt ≤ (A1 3).toInt ∧ (A1 3).toInt ≤ (A 2).toInt) ∧ ((sLd T po q g).1 = true → rdC (sLd T po q g).2.2.1 (sLd T po q g).2.2.2 A1 B)) := by
  refine qC.of (by decide +kernel) (Nat.le_of_ble_eq_true rfl) (fun p e s m args below meth c X w ls hl => ?_)
  have hx := X.1
  have hb := X.2.1
  have hl : lv_has ls 1 [(0, .ref (b + 3))] := hl
  refine lv_aload_n hx hb dX4_readLeapDay_0 rfl (lv_at hl 0 rfl) ?_
  refine kg_X4_text X w dX4_readLeapDay_1 ?_
  refine kk_cCI X w (c_X7_readNumber l D t b n σ0 A B P T (by exact h_1.trans (txC_cg ((kpI.rf (J := [3, 4, 5, 9, 10, 11]) (I := A)) 2 (by decide)) ((kpR.rf (J := [1, 2, 3]) (R := B)) 0 (by decide))).symm) (by exact h_2.cg ((kpI.rf (J := [3, 4, 5, 9, 10, 11]) (I := A)) 2 (by decide)) ((kpR.rf (J := [1, 2, 3]) (R := B)) 0 (by decide))) (by have h2 : (A 2).toInt = (A 2).toInt := (congrArg Int32.toInt ((kpI.rf (J := [3, 4, 5, 9, 10, 11]) (I := A)) 2 (by decide))); have h3 : (A 3).toInt = po := ((congrArg Int32.toInt rfl).trans h_3); rw [h2, h3]; exact ⟨Int.le_trans h_4.1 (And.intro (Int.le_refl po) h_4.2).1, (And.intro (Int.le_refl po) h_4.2).2⟩)) v_X4_121 rfl rfl rfl ⟨Nat.le_of_ble_eq_true rfl, Nat.le_of_ble_eq_true rfl⟩ rfl hl.1 (Nat.le_of_ble_eq_true rfl) dX4_readLeapDay_4 ⟨Nat.zero_le _, Nat.zero_le _⟩ (fun r_4 A_4 H locs z_4 w => ?_)
  have KI_4 : kpI [3, 4, 5, 9, 10, 11] A A_4 := kpI.tr (J := [3, 4, 5, 9, 10, 11]) (kpI.rf (J := [3, 4, 5, 9, 10, 11]) (I := A)) z_4.1 (by decide) (by decide)
  have q_4 : (A_4 3).toInt = (num T po).2 := by have h : (A_4 3).toInt = (num T ((A 3).toInt)).2 := z_4.2.2.1; rw [show (A 3).toInt = po from ((congrArg Int32.toInt rfl).trans h_3)] at h; exact h
  have n_4 : (A_4 4).toInt = (num T po).1 := by have h : (A_4 4).toInt = (num T ((A 3).toInt)).1 := z_4.2.2.2.1; rw [show (A 3).toInt = po from ((congrArg Int32.toInt rfl).trans h_3)] at h; exact h
  have b_4 : r_4 = bI (decide (dg T po)) := by have h : r_4 = bI (decide (dg T ((A 3).toInt))) := z_4.2.1; rw [show (A 3).toInt = po from ((congrArg Int32.toInt rfl).trans h_3)] at h; exact h
  have v_4 := num_v (T := T) po
  have Q_4 : po ≤ (num T po).2 ∧ (num T po).2 ≤ (A 2).toInt := ⟨(by have h := (And.intro (Int.le_refl po) h_4.2); have h2 := num_ge (T := T) po; omega), (by rw [← q_4]; exact Int.le_trans z_4.2.2.2.2 (Int.le_of_eq (congrArg Int32.toInt ((kpI.rf (J := [3, 4, 5, 9, 10, 11]) (I := A)) 2 (by decide)))))⟩
  refine lv_if_ne (tgt := 12) hx hb dX4_readLeapDay_7 (by decide) (fun c_7 => ?_) (fun c_7 => ?_)
  · skip
    rw [b_4] at c_7
    have k_7 := bI_t.mp c_7
    have p_4 : (A_4 3).toInt = (num T po).2 := q_4
    skip
    refine lv_aload_n hx hb dX4_readLeapDay_12 rfl (lv_at hl 0 rfl) ?_
    refine lv_iconst (v := 1) hx hb dX4_readLeapDay_13 (by decide) ?_
    refine kp_X4_leap (v := 1) X w dX4_readLeapDay_14 (fun H locs w => ?_)
    refine lv_aload_n hx hb dX4_readLeapDay_17 rfl (lv_at hl 0 rfl) ?_
    refine lv_aload_n hx hb dX4_readLeapDay_18 rfl (lv_at hl 0 rfl) ?_
    refine kg_X4_text X w dX4_readLeapDay_19 ?_
    refine q_cPV X w (c_X7_number l D t b n σ0 (va_up A_4 9 1) B P ) v_X4_124 (k := 1) rfl rfl rfl ⟨Nat.le_of_ble_eq_true rfl, Nat.le_of_ble_eq_true rfl⟩ rfl hl.1 (Nat.le_of_ble_eq_true rfl) dX4_readLeapDay_22 ⟨Nat.zero_le _, Nat.zero_le _⟩ (fun r_22 z_22 => ?_)
    have m_22 : r_22.toInt = (num T po).1 := (congrArg Int32.toInt (z_22.trans rfl)).trans n_4
    have i_22 : r_22 = i3 (num T po).1 := by rw [← m_22]; exact (i3_i _).symm
    refine kp_X4_leapMonth (v := r_22) X w dX4_readLeapDay_25 (fun H locs w => ?_)
    refine lv_aload_n hx hb dX4_readLeapDay_28 rfl (lv_at hl 0 rfl) ?_
    refine lv_iconst (v := 1) hx hb dX4_readLeapDay_29 (by decide) ?_
    refine kp_X4_extra (v := 1) X w dX4_readLeapDay_30 (fun H locs w => ?_)
    refine lv_aload_n hx hb dX4_readLeapDay_33 rfl (lv_at hl 0 rfl) ?_
    refine lv_aload_n hx hb dX4_readLeapDay_34 rfl (lv_at hl 0 rfl) ?_
    refine kg_X4_leapMonth X w dX4_readLeapDay_35 ?_
    refine q_topE (y := r_22) rfl ?_
    refine lv_iconst (v := 1) hx hb dX4_readLeapDay_38 (by decide) ?_
    refine lv_aload_n hx hb dX4_readLeapDay_39 rfl (lv_at hl 0 rfl) ?_
    refine kg_X4_monthCount X w dX4_readLeapDay_40 ?_
    refine kk_cVI X w (c_X4_allow l D t b n σ0 (va_up (va_up (va_up A_4 9 1) 10 r_22) 11 1) B P r_22 1 ((va_up (va_up (va_up A_4 9 1) 10 r_22) 11 1) 6) ((num T po).1) 1 ((A 6).toInt) m_22 (show (1 : Int32).toInt = 1 from rfl) ((congrArg Int32.toInt (z_4.1 6 (by decide))).trans rfl)) v_X4_128 rfl rfl rfl ⟨Nat.le_of_ble_eq_true rfl, Nat.le_of_ble_eq_true rfl⟩ rfl hl.1 (Nat.le_of_ble_eq_true rfl) dX4_readLeapDay_43 ⟨Nat.zero_le _, Nat.zero_le _⟩ (fun A_43 H locs z_43 w => ?_)
    have KI_43 : kpI [3, 4, 5, 9, 10, 11] A A_43 := kpI.tr (J := [3, 4, 5, 9, 10, 11]) (kpI.up (kpI.up (kpI.up KI_4 (by decide)) (by decide)) (by decide)) z_43.1 (by decide) (by decide)
    have f_43 : A_43 5 = (if 1 ≤ ((num T po).1) ∧ ((num T po).1) ≤ ((A 6).toInt) then A 5 else 0) := by have h : A_43 5 = (if 1 ≤ ((num T po).1) ∧ ((num T po).1) ≤ ((A 6).toInt) then (va_up (va_up (va_up A_4 9 1) 10 r_22) 11 1) 5 else 0) := z_43.2; rw [show (va_up (va_up (va_up A_4 9 1) 10 r_22) 11 1) 5 = A 5 from ((z_4.1 5 (by decide)).trans rfl)] at h; exact h
    refine lv_iconst (v := 1) hx hb dX4_readLeapDay_46 (by decide) ?_
    exact q_cret (post := (fun z n1 σ1 => n1 = n ∧ ∃ A1 B1, σ1 = cS t b σ0 A1 B1 P ∧ B1 = B ∧ kpI [3, 4, 5, 9, 10, 11] A A1 ∧ z = bI (decide ((sLd T po q g).1 = true)) ∧ (A1 3).toInt = (sLd T po q g).2.1 ∧ ((A 3).toInt ≤ (A1 3).toInt ∧ (A1 3).toInt ≤ (A 2).toInt) ∧ ((sLd T po q g).1 = true → rdC (sLd T po q g).2.2.1 (sLd T po q g).2.2.2 A1 B))) X w dX4_readLeapDay_47 (rfl) ⟨rfl, _, _, rfl, rfl, by have e : sLd T po q g = (true, (num T po).2, upd (upd q 16 1) 17 (i3 (num T po).1), g) := (by unfold sLd; rw [if_pos k_7]); rw [e]; exact ⟨KI_43, rfl, ((congrArg Int32.toInt ((z_43.1 3 (by decide)).trans rfl)).trans p_4), (by have h3 : (A_43 3).toInt = (num T po).2 := ((congrArg Int32.toInt ((z_43.1 3 (by decide)).trans rfl)).trans p_4); rw [h3, h_3]; exact Q_4), fun _ => rdC_leapd h_5 h_6 KI_43 rfl ((z_43.1 9 (by decide)).trans rfl) (((z_43.1 10 (by decide)).trans rfl).trans i_22) ((z_43.1 11 (by decide)).trans rfl) (by rw [i3_t, ← h_5.1.2]; exact f_43)⟩⟩
  · skip
    rw [b_4] at c_7
    have k_7 := bI_f.mp c_7
    have p_4 : (A_4 3).toInt = po := q_4.trans (congrArg Prod.snd (numF_e (v := 0) 6 k_7))
    have Q_4 : po ≤ po ∧ po ≤ (A 2).toInt := by have h := Q_4; rw [show (num T po).2 = po from q_4.symm.trans p_4] at h; exact h
    refine lv_iconst (v := 0) hx hb dX4_readLeapDay_10 (by decide) ?_
    exact q_cret (post := (fun z n1 σ1 => n1 = n ∧ ∃ A1 B1, σ1 = cS t b σ0 A1 B1 P ∧ B1 = B ∧ kpI [3, 4, 5, 9, 10, 11] A A1 ∧ z = bI (decide ((sLd T po q g).1 = true)) ∧ (A1 3).toInt = (sLd T po q g).2.1 ∧ ((A 3).toInt ≤ (A1 3).toInt ∧ (A1 3).toInt ≤ (A 2).toInt) ∧ ((sLd T po q g).1 = true → rdC (sLd T po q g).2.2.1 (sLd T po q g).2.2.2 A1 B))) X w dX4_readLeapDay_11 (rfl) ⟨rfl, _, _, rfl, rfl, by have e : (sLd T po q g).1 = false ∧ (sLd T po q g).2.1 = po := (by unfold sLd; rw [if_neg k_7]; exact ⟨rfl, rfl⟩); exact ⟨KI_4, bI_0 (by rw [e.1]; decide), ((congrArg Int32.toInt rfl).trans p_4).trans e.2.symm, (by have h3 : (A_4 3).toInt = po := ((congrArg Int32.toInt rfl).trans p_4); rw [h3, h_3]; exact Q_4), fun h => absurd (h.symm.trans e.1) (by decide)⟩⟩

set_option maxHeartbeats 2000000 in
set_option maxRecDepth 100000 in
theorem c_X4_readIntercalaryMonth (l : Launch) (D : va_G) (t : Nat → ClassId) (b n : Nat) (σ0 : qM) (A : Nat → Int32) (B : Nat → Nat → Int32) (P : Nat → Nat → Option Nat) (T : Int → Int) (po : Int) (q : Nat → Int32) (g : Bool) (h_1 : T = txC A B) (h_2 : okTx A B) (h_3 : (A 3).toInt = po) (h_4 : 0 ≤ po ∧ po ≤ (A 2).toInt) (h_5 : rdC q g A B) (h_6 : q 16 = 0) : kC l yX4_readIntercalaryMonth cX4_readIntercalaryMonth 1 (some .boolean) 3 D t b n σ0 A B P [.ref (b + 3)] (fun z A1 B1 => B1 = B ∧ kpI [3, 4, 5, 9, 10, 11] A A1 ∧ z = bI (decide ((sLi T po q g).1 = true)) ∧ (A1 3).toInt = (sLi T po q g).2.1 ∧ ((A 3).toInt ≤ (A1 3).toInt ∧ (A1 3).toInt ≤ (A 2).toInt) ∧ ((sLi T po q g).1 = true → rdC (sLi T po q g).2.2.1 (sLi T po q g).2.2.2 A1 B)) := by
  refine qC.of (by decide +kernel) (Nat.le_of_ble_eq_true rfl) (fun p e s m args below meth c X w ls hl => ?_)
  have hx := X.1
  have hb := X.2.1
  have hl : lv_has ls 1 [(0, .ref (b + 3))] := hl
  refine lv_aload_n hx hb dX4_readIntercalaryMonth_0 rfl (lv_at hl 0 rfl) ?_
  refine kg_X4_text X w dX4_readIntercalaryMonth_1 ?_
  refine kk_cCI X w (c_X7_readNumber l D t b n σ0 A B P T (by exact h_1.trans (txC_cg ((kpI.rf (J := [3, 4, 5, 9, 10, 11]) (I := A)) 2 (by decide)) ((kpR.rf (J := [1, 2, 3]) (R := B)) 0 (by decide))).symm) (by exact h_2.cg ((kpI.rf (J := [3, 4, 5, 9, 10, 11]) (I := A)) 2 (by decide)) ((kpR.rf (J := [1, 2, 3]) (R := B)) 0 (by decide))) (by have h2 : (A 2).toInt = (A 2).toInt := (congrArg Int32.toInt ((kpI.rf (J := [3, 4, 5, 9, 10, 11]) (I := A)) 2 (by decide))); have h3 : (A 3).toInt = po := ((congrArg Int32.toInt rfl).trans h_3); rw [h2, h3]; exact ⟨Int.le_trans h_4.1 (And.intro (Int.le_refl po) h_4.2).1, (And.intro (Int.le_refl po) h_4.2).2⟩)) v_X4_121 rfl rfl rfl ⟨Nat.le_of_ble_eq_true rfl, Nat.le_of_ble_eq_true rfl⟩ rfl hl.1 (Nat.le_of_ble_eq_true rfl) dX4_readIntercalaryMonth_4 ⟨Nat.zero_le _, Nat.zero_le _⟩ (fun r_4 A_4 H locs z_4 w => ?_)
  have KI_4 : kpI [3, 4, 5, 9, 10, 11] A A_4 := kpI.tr (J := [3, 4, 5, 9, 10, 11]) (kpI.rf (J := [3, 4, 5, 9, 10, 11]) (I := A)) z_4.1 (by decide) (by decide)
  have q_4 : (A_4 3).toInt = (num T po).2 := by have h : (A_4 3).toInt = (num T ((A 3).toInt)).2 := z_4.2.2.1; rw [show (A 3).toInt = po from ((congrArg Int32.toInt rfl).trans h_3)] at h; exact h
  have n_4 : (A_4 4).toInt = (num T po).1 := by have h : (A_4 4).toInt = (num T ((A 3).toInt)).1 := z_4.2.2.2.1; rw [show (A 3).toInt = po from ((congrArg Int32.toInt rfl).trans h_3)] at h; exact h
  have b_4 : r_4 = bI (decide (dg T po)) := by have h : r_4 = bI (decide (dg T ((A 3).toInt))) := z_4.2.1; rw [show (A 3).toInt = po from ((congrArg Int32.toInt rfl).trans h_3)] at h; exact h
  have v_4 := num_v (T := T) po
  have Q_4 : po ≤ (num T po).2 ∧ (num T po).2 ≤ (A 2).toInt := ⟨(by have h := (And.intro (Int.le_refl po) h_4.2); have h2 := num_ge (T := T) po; omega), (by rw [← q_4]; exact Int.le_trans z_4.2.2.2.2 (Int.le_of_eq (congrArg Int32.toInt ((kpI.rf (J := [3, 4, 5, 9, 10, 11]) (I := A)) 2 (by decide)))))⟩
  refine lv_if_ne (tgt := 12) hx hb dX4_readIntercalaryMonth_7 (by decide) (fun c_7 => ?_) (fun c_7 => ?_)
  · skip
    rw [b_4] at c_7
    have k_7 := bI_t.mp c_7
    have p_4 : (A_4 3).toInt = (num T po).2 := q_4
    skip
    refine lv_aload_n hx hb dX4_readIntercalaryMonth_12 rfl (lv_at hl 0 rfl) ?_
    refine lv_iconst (v := 2) hx hb dX4_readIntercalaryMonth_13 (by decide) ?_
    refine kp_X4_leap (v := 2) X w dX4_readIntercalaryMonth_14 (fun H locs w => ?_)
    refine lv_aload_n hx hb dX4_readIntercalaryMonth_17 rfl (lv_at hl 0 rfl) ?_
    refine lv_aload_n hx hb dX4_readIntercalaryMonth_18 rfl (lv_at hl 0 rfl) ?_
    refine kg_X4_text X w dX4_readIntercalaryMonth_19 ?_
    refine q_cPV X w (c_X7_number l D t b n σ0 (va_up A_4 9 2) B P ) v_X4_124 (k := 1) rfl rfl rfl ⟨Nat.le_of_ble_eq_true rfl, Nat.le_of_ble_eq_true rfl⟩ rfl hl.1 (Nat.le_of_ble_eq_true rfl) dX4_readIntercalaryMonth_22 ⟨Nat.zero_le _, Nat.zero_le _⟩ (fun r_22 z_22 => ?_)
    have m_22 : r_22.toInt = (num T po).1 := (congrArg Int32.toInt (z_22.trans rfl)).trans n_4
    have i_22 : r_22 = i3 (num T po).1 := by rw [← m_22]; exact (i3_i _).symm
    refine kp_X4_leapMonth (v := r_22) X w dX4_readIntercalaryMonth_25 (fun H locs w => ?_)
    refine lv_aload_n hx hb dX4_readIntercalaryMonth_28 rfl (lv_at hl 0 rfl) ?_
    refine lv_aload_n hx hb dX4_readIntercalaryMonth_29 rfl (lv_at hl 0 rfl) ?_
    refine kg_X4_leapMonth X w dX4_readIntercalaryMonth_30 ?_
    refine q_topE (y := r_22) rfl ?_
    refine lv_iconst (v := 1) hx hb dX4_readIntercalaryMonth_33 (by decide) ?_
    refine lv_aload_n hx hb dX4_readIntercalaryMonth_34 rfl (lv_at hl 0 rfl) ?_
    refine kg_X4_monthCount X w dX4_readIntercalaryMonth_35 ?_
    refine kk_cVI X w (c_X4_allow l D t b n σ0 (va_up (va_up A_4 9 2) 10 r_22) B P r_22 1 ((va_up (va_up A_4 9 2) 10 r_22) 6) ((num T po).1) 1 ((A 6).toInt) m_22 (show (1 : Int32).toInt = 1 from rfl) ((congrArg Int32.toInt (z_4.1 6 (by decide))).trans rfl)) v_X4_128 rfl rfl rfl ⟨Nat.le_of_ble_eq_true rfl, Nat.le_of_ble_eq_true rfl⟩ rfl hl.1 (Nat.le_of_ble_eq_true rfl) dX4_readIntercalaryMonth_38 ⟨Nat.zero_le _, Nat.zero_le _⟩ (fun A_38 H locs z_38 w => ?_)
    have KI_38 : kpI [3, 4, 5, 9, 10, 11] A A_38 := kpI.tr (J := [3, 4, 5, 9, 10, 11]) (kpI.up (kpI.up KI_4 (by decide)) (by decide)) z_38.1 (by decide) (by decide)
    have f_38 : A_38 5 = (if 1 ≤ ((num T po).1) ∧ ((num T po).1) ≤ ((A 6).toInt) then A 5 else 0) := by have h : A_38 5 = (if 1 ≤ ((num T po).1) ∧ ((num T po).1) ≤ ((A 6).toInt) then (va_up (va_up A_4 9 2) 10 r_22) 5 else 0) := z_38.2; rw [show (va_up (va_up A_4 9 2) 10 r_22) 5 = A 5 from ((z_4.1 5 (by decide)).trans rfl)] at h; exact h
    refine lv_aload_n hx hb dX4_readIntercalaryMonth_41 rfl (lv_at hl 0 rfl) ?_
    refine kg_X4_text X w dX4_readIntercalaryMonth_42 ?_
    refine lv_bipush (v := 44) hx hb dX4_readIntercalaryMonth_45 (by decide) ?_
    refine kk_cCI X w (c_X7_accept l D t b n σ0 A_38 B P T 44 44 (show (44 : Int32).toInt = 44 from rfl) (by exact h_1.trans (txC_cg (KI_38 2 (by decide)) ((kpR.rf (J := [1, 2, 3]) (R := B)) 0 (by decide))).symm) (by exact h_2.cg (KI_38 2 (by decide)) ((kpR.rf (J := [1, 2, 3]) (R := B)) 0 (by decide))) (by have h2 : (A_38 2).toInt = (A 2).toInt := (congrArg Int32.toInt (KI_38 2 (by decide))); have h3 : (A_38 3).toInt = (num T po).2 := ((congrArg Int32.toInt ((z_38.1 3 (by decide)).trans rfl)).trans p_4); rw [h2, h3]; exact ⟨Int.le_trans h_4.1 Q_4.1, Q_4.2⟩) (by first | assumption | omega)) v_X4_114 rfl rfl rfl ⟨Nat.le_of_ble_eq_true rfl, Nat.le_of_ble_eq_true rfl⟩ rfl hl.1 (Nat.le_of_ble_eq_true rfl) dX4_readIntercalaryMonth_47 ⟨Nat.zero_le _, Nat.zero_le _⟩ (fun r_47 A_47 H locs z_47 w => ?_)
    have KI_47 : kpI [3, 4, 5, 9, 10, 11] A A_47 := kpI.tr (J := [3, 4, 5, 9, 10, 11]) KI_38 z_47.1 (by decide) (by decide)
    have q_47 : (A_47 3).toInt = (if T ((num T po).2) = 44 then ((num T po).2) + 1 else ((num T po).2)) := by have h : (A_47 3).toInt = (if T ((A_38 3).toInt) = 44 then ((A_38 3).toInt) + 1 else ((A_38 3).toInt)) := z_47.2.2.1; rw [show (A_38 3).toInt = (num T po).2 from ((congrArg Int32.toInt ((z_38.1 3 (by decide)).trans rfl)).trans p_4)] at h; exact h
    have b_47 : r_47 = bI (decide (T ((num T po).2) = 44)) := by have h : r_47 = bI (decide (T ((A_38 3).toInt) = 44)) := z_47.2.1; rw [show (A_38 3).toInt = (num T po).2 from ((congrArg Int32.toInt ((z_38.1 3 (by decide)).trans rfl)).trans p_4)] at h; exact h
    have Q_47 : po ≤ (if T ((num T po).2) = 44 then ((num T po).2) + 1 else ((num T po).2)) ∧ (if T ((num T po).2) = 44 then ((num T po).2) + 1 else ((num T po).2)) ≤ (A 2).toInt := ⟨(by have h := Q_4; split <;> omega), (by rw [← q_47]; exact Int.le_trans z_47.2.2.2 (Int.le_of_eq (congrArg Int32.toInt (KI_38 2 (by decide)))))⟩
    refine lv_if_eq (tgt := 63) hx hb dX4_readIntercalaryMonth_50 (by decide) (fun c_50 => ?_) (fun c_50 => ?_)
    · skip
      rw [b_47] at c_50
      have k_50 := bI_f.mp c_50
      have p_47 : (A_47 3).toInt = (num T po).2 := q_47.trans (if_neg k_50)
      have Q_47 : po ≤ (num T po).2 ∧ (num T po).2 ≤ (A 2).toInt := by have h := Q_47; rw [show (if T ((num T po).2) = 44 then ((num T po).2) + 1 else ((num T po).2)) = (num T po).2 from q_47.symm.trans p_47] at h; exact h
      refine lv_iconst (v := 0) hx hb dX4_readIntercalaryMonth_63 (by decide) ?_
      exact q_cret (post := (fun z n1 σ1 => n1 = n ∧ ∃ A1 B1, σ1 = cS t b σ0 A1 B1 P ∧ B1 = B ∧ kpI [3, 4, 5, 9, 10, 11] A A1 ∧ z = bI (decide ((sLi T po q g).1 = true)) ∧ (A1 3).toInt = (sLi T po q g).2.1 ∧ ((A 3).toInt ≤ (A1 3).toInt ∧ (A1 3).toInt ≤ (A 2).toInt) ∧ ((sLi T po q g).1 = true → rdC (sLi T po q g).2.2.1 (sLi T po q g).2.2.2 A1 B))) X w dX4_readIntercalaryMonth_64 (rfl) ⟨rfl, _, _, rfl, rfl, by have e : (sLi T po q g).1 = false ∧ (sLi T po q g).2.1 = (num T po).2 := (by unfold sLi; rw [if_pos k_7, if_neg k_50]; exact ⟨rfl, rfl⟩); exact ⟨KI_47, bI_0 (by rw [e.1]; decide), ((congrArg Int32.toInt rfl).trans p_47).trans e.2.symm, (by have h3 : (A_47 3).toInt = (num T po).2 := ((congrArg Int32.toInt rfl).trans p_47); rw [h3, h_3]; exact Q_47), fun h => absurd (h.symm.trans e.1) (by decide)⟩⟩
    · skip
      rw [b_47] at c_50
      have k_50 := bI_t.mp c_50
      have p_47 : (A_47 3).toInt = ((num T po).2) + 1 := q_47.trans (if_pos k_50)
      have Q_47 : po ≤ ((num T po).2) + 1 ∧ ((num T po).2) + 1 ≤ (A 2).toInt := by have h := Q_47; rw [show (if T ((num T po).2) = 44 then ((num T po).2) + 1 else ((num T po).2)) = ((num T po).2) + 1 from q_47.symm.trans p_47] at h; exact h
      refine lv_aload_n hx hb dX4_readIntercalaryMonth_53 rfl (lv_at hl 0 rfl) ?_
      refine kg_X4_text X w dX4_readIntercalaryMonth_54 ?_
      refine kk_cCI X w (c_X7_readNumber l D t b n σ0 A_47 B P T (by exact h_1.trans (txC_cg (KI_47 2 (by decide)) ((kpR.rf (J := [1, 2, 3]) (R := B)) 0 (by decide))).symm) (by exact h_2.cg (KI_47 2 (by decide)) ((kpR.rf (J := [1, 2, 3]) (R := B)) 0 (by decide))) (by have h2 : (A_47 2).toInt = (A 2).toInt := (congrArg Int32.toInt (KI_47 2 (by decide))); have h3 : (A_47 3).toInt = ((num T po).2) + 1 := ((congrArg Int32.toInt rfl).trans p_47); rw [h2, h3]; exact ⟨Int.le_trans h_4.1 Q_47.1, Q_47.2⟩)) v_X4_121 rfl rfl rfl ⟨Nat.le_of_ble_eq_true rfl, Nat.le_of_ble_eq_true rfl⟩ rfl hl.1 (Nat.le_of_ble_eq_true rfl) dX4_readIntercalaryMonth_57 ⟨Nat.zero_le _, Nat.zero_le _⟩ (fun r_57 A_57 H locs z_57 w => ?_)
      have KI_57 : kpI [3, 4, 5, 9, 10, 11] A A_57 := kpI.tr (J := [3, 4, 5, 9, 10, 11]) KI_47 z_57.1 (by decide) (by decide)
      have q_57 : (A_57 3).toInt = (num T (((num T po).2) + 1)).2 := by have h : (A_57 3).toInt = (num T ((A_47 3).toInt)).2 := z_57.2.2.1; rw [show (A_47 3).toInt = ((num T po).2) + 1 from ((congrArg Int32.toInt rfl).trans p_47)] at h; exact h
      have n_57 : (A_57 4).toInt = (num T (((num T po).2) + 1)).1 := by have h : (A_57 4).toInt = (num T ((A_47 3).toInt)).1 := z_57.2.2.2.1; rw [show (A_47 3).toInt = ((num T po).2) + 1 from ((congrArg Int32.toInt rfl).trans p_47)] at h; exact h
      have b_57 : r_57 = bI (decide (dg T (((num T po).2) + 1))) := by have h : r_57 = bI (decide (dg T ((A_47 3).toInt))) := z_57.2.1; rw [show (A_47 3).toInt = ((num T po).2) + 1 from ((congrArg Int32.toInt rfl).trans p_47)] at h; exact h
      have v_57 := num_v (T := T) (((num T po).2) + 1)
      have Q_57 : po ≤ (num T (((num T po).2) + 1)).2 ∧ (num T (((num T po).2) + 1)).2 ≤ (A 2).toInt := ⟨(by have h := Q_47; have h2 := num_ge (T := T) (((num T po).2) + 1); omega), (by rw [← q_57]; exact Int.le_trans z_57.2.2.2.2 (Int.le_of_eq (congrArg Int32.toInt (KI_47 2 (by decide)))))⟩
      refine lv_if_ne (tgt := 65) hx hb dX4_readIntercalaryMonth_60 (by decide) (fun c_60 => ?_) (fun c_60 => ?_)
      · skip
        rw [b_57] at c_60
        have k_60 := bI_t.mp c_60
        have p_57 : (A_57 3).toInt = (num T (((num T po).2) + 1)).2 := q_57
        skip
        refine lv_aload_n hx hb dX4_readIntercalaryMonth_65 rfl (lv_at hl 0 rfl) ?_
        refine lv_aload_n hx hb dX4_readIntercalaryMonth_66 rfl (lv_at hl 0 rfl) ?_
        refine kg_X4_text X w dX4_readIntercalaryMonth_67 ?_
        refine q_cPV X w (c_X7_number l D t b n σ0 A_57 B P ) v_X4_124 (k := 1) rfl rfl rfl ⟨Nat.le_of_ble_eq_true rfl, Nat.le_of_ble_eq_true rfl⟩ rfl hl.1 (Nat.le_of_ble_eq_true rfl) dX4_readIntercalaryMonth_70 ⟨Nat.zero_le _, Nat.zero_le _⟩ (fun r_70 z_70 => ?_)
        have m_70 : r_70.toInt = (num T (((num T po).2) + 1)).1 := (congrArg Int32.toInt (z_70.trans rfl)).trans n_57
        have i_70 : r_70 = i3 (num T (((num T po).2) + 1)).1 := by rw [← m_70]; exact (i3_i _).symm
        refine kp_X4_extra (v := r_70) X w dX4_readIntercalaryMonth_73 (fun H locs w => ?_)
        refine lv_aload_n hx hb dX4_readIntercalaryMonth_76 rfl (lv_at hl 0 rfl) ?_
        refine lv_aload_n hx hb dX4_readIntercalaryMonth_77 rfl (lv_at hl 0 rfl) ?_
        refine kg_X4_extra X w dX4_readIntercalaryMonth_78 ?_
        refine q_topE (y := r_70) rfl ?_
        refine lv_iconst (v := 1) hx hb dX4_readIntercalaryMonth_81 (by decide) ?_
        refine lv_bipush (v := 60) hx hb dX4_readIntercalaryMonth_82 (by decide) ?_
        refine kk_cVI X w (c_X4_allow l D t b n σ0 (va_up A_57 11 r_70) B P r_70 1 60 ((num T (((num T po).2) + 1)).1) 1 60 m_70 (show (1 : Int32).toInt = 1 from rfl) (show (60 : Int32).toInt = 60 from rfl)) v_X4_128 rfl rfl rfl ⟨Nat.le_of_ble_eq_true rfl, Nat.le_of_ble_eq_true rfl⟩ rfl hl.1 (Nat.le_of_ble_eq_true rfl) dX4_readIntercalaryMonth_84 ⟨Nat.zero_le _, Nat.zero_le _⟩ (fun A_84 H locs z_84 w => ?_)
        have KI_84 : kpI [3, 4, 5, 9, 10, 11] A A_84 := kpI.tr (J := [3, 4, 5, 9, 10, 11]) (kpI.up KI_57 (by decide)) z_84.1 (by decide) (by decide)
        have f_84 : A_84 5 = (if 1 ≤ ((num T (((num T po).2) + 1)).1) ∧ ((num T (((num T po).2) + 1)).1) ≤ 60 then (if 1 ≤ ((num T po).1) ∧ ((num T po).1) ≤ ((A 6).toInt) then A 5 else 0) else 0) := by have h : A_84 5 = (if 1 ≤ ((num T (((num T po).2) + 1)).1) ∧ ((num T (((num T po).2) + 1)).1) ≤ 60 then (va_up A_57 11 r_70) 5 else 0) := z_84.2; rw [show (va_up A_57 11 r_70) 5 = (if 1 ≤ ((num T po).1) ∧ ((num T po).1) ≤ ((A 6).toInt) then A 5 else 0) from ((z_57.1 5 (by decide)).trans ((z_47.1 5 (by decide)).trans f_38))] at h; exact h
        refine lv_iconst (v := 1) hx hb dX4_readIntercalaryMonth_87 (by decide) ?_
        exact q_cret (post := (fun z n1 σ1 => n1 = n ∧ ∃ A1 B1, σ1 = cS t b σ0 A1 B1 P ∧ B1 = B ∧ kpI [3, 4, 5, 9, 10, 11] A A1 ∧ z = bI (decide ((sLi T po q g).1 = true)) ∧ (A1 3).toInt = (sLi T po q g).2.1 ∧ ((A 3).toInt ≤ (A1 3).toInt ∧ (A1 3).toInt ≤ (A 2).toInt) ∧ ((sLi T po q g).1 = true → rdC (sLi T po q g).2.2.1 (sLi T po q g).2.2.2 A1 B))) X w dX4_readIntercalaryMonth_88 (rfl) ⟨rfl, _, _, rfl, rfl, by have e : sLi T po q g = (true, (num T ((num T po).2 + 1)).2, upd (upd (upd q 16 2) 17 (i3 (num T po).1)) 18 (i3 (num T ((num T po).2 + 1)).1), g) := (by unfold sLi; rw [if_pos k_7, if_pos k_50, if_pos k_60]); rw [e]; exact ⟨KI_84, rfl, ((congrArg Int32.toInt ((z_84.1 3 (by decide)).trans rfl)).trans p_57), (by have h3 : (A_84 3).toInt = (num T (((num T po).2) + 1)).2 := ((congrArg Int32.toInt ((z_84.1 3 (by decide)).trans rfl)).trans p_57); rw [h3, h_3]; exact Q_57), fun _ => rdC_leapi h_5 h_6 KI_84 rfl ((z_84.1 9 (by decide)).trans ((z_57.1 9 (by decide)).trans ((z_47.1 9 (by decide)).trans ((z_38.1 9 (by decide)).trans rfl)))) (((z_84.1 10 (by decide)).trans ((z_57.1 10 (by decide)).trans ((z_47.1 10 (by decide)).trans ((z_38.1 10 (by decide)).trans rfl)))).trans i_22) (((z_84.1 11 (by decide)).trans rfl).trans i_70) (by rw [i3_t, i3_t, ← h_5.1.2]; exact f_84)⟩⟩
      · skip
        rw [b_57] at c_60
        have k_60 := bI_f.mp c_60
        have p_57 : (A_57 3).toInt = ((num T po).2) + 1 := q_57.trans (congrArg Prod.snd (numF_e (v := 0) 6 k_60))
        have Q_57 : po ≤ ((num T po).2) + 1 ∧ ((num T po).2) + 1 ≤ (A 2).toInt := by have h := Q_57; rw [show (num T (((num T po).2) + 1)).2 = ((num T po).2) + 1 from q_57.symm.trans p_57] at h; exact h
        refine lv_iconst (v := 0) hx hb dX4_readIntercalaryMonth_63 (by decide) ?_
        exact q_cret (post := (fun z n1 σ1 => n1 = n ∧ ∃ A1 B1, σ1 = cS t b σ0 A1 B1 P ∧ B1 = B ∧ kpI [3, 4, 5, 9, 10, 11] A A1 ∧ z = bI (decide ((sLi T po q g).1 = true)) ∧ (A1 3).toInt = (sLi T po q g).2.1 ∧ ((A 3).toInt ≤ (A1 3).toInt ∧ (A1 3).toInt ≤ (A 2).toInt) ∧ ((sLi T po q g).1 = true → rdC (sLi T po q g).2.2.1 (sLi T po q g).2.2.2 A1 B))) X w dX4_readIntercalaryMonth_64 (rfl) ⟨rfl, _, _, rfl, rfl, by have e : (sLi T po q g).1 = false ∧ (sLi T po q g).2.1 = ((num T po).2) + 1 := (by unfold sLi; rw [if_pos k_7, if_pos k_50, if_neg k_60]; exact ⟨rfl, rfl⟩); exact ⟨KI_57, bI_0 (by rw [e.1]; decide), ((congrArg Int32.toInt rfl).trans p_57).trans e.2.symm, (by have h3 : (A_57 3).toInt = ((num T po).2) + 1 := ((congrArg Int32.toInt rfl).trans p_57); rw [h3, h_3]; exact Q_57), fun h => absurd (h.symm.trans e.1) (by decide)⟩⟩
  · skip
    rw [b_4] at c_7
    have k_7 := bI_f.mp c_7
    have p_4 : (A_4 3).toInt = po := q_4.trans (congrArg Prod.snd (numF_e (v := 0) 6 k_7))
    have Q_4 : po ≤ po ∧ po ≤ (A 2).toInt := by have h := Q_4; rw [show (num T po).2 = po from q_4.symm.trans p_4] at h; exact h
    refine lv_iconst (v := 0) hx hb dX4_readIntercalaryMonth_10 (by decide) ?_
    exact q_cret (post := (fun z n1 σ1 => n1 = n ∧ ∃ A1 B1, σ1 = cS t b σ0 A1 B1 P ∧ B1 = B ∧ kpI [3, 4, 5, 9, 10, 11] A A1 ∧ z = bI (decide ((sLi T po q g).1 = true)) ∧ (A1 3).toInt = (sLi T po q g).2.1 ∧ ((A 3).toInt ≤ (A1 3).toInt ∧ (A1 3).toInt ≤ (A 2).toInt) ∧ ((sLi T po q g).1 = true → rdC (sLi T po q g).2.2.1 (sLi T po q g).2.2.2 A1 B))) X w dX4_readIntercalaryMonth_11 (rfl) ⟨rfl, _, _, rfl, rfl, by have e : (sLi T po q g).1 = false ∧ (sLi T po q g).2.1 = po := (by unfold sLi; rw [if_neg k_7]; exact ⟨rfl, rfl⟩); exact ⟨KI_4, bI_0 (by rw [e.1]; decide), ((congrArg Int32.toInt rfl).trans p_4).trans e.2.symm, (by have h3 : (A_4 3).toInt = po := ((congrArg Int32.toInt rfl).trans p_4); rw [h3, h_3]; exact Q_4), fun h => absurd (h.symm.trans e.1) (by decide)⟩⟩

set_option maxHeartbeats 2000000 in
set_option maxRecDepth 100000 in
theorem c_X4_readWeeks (l : Launch) (D : va_G) (t : Nat → ClassId) (b n : Nat) (σ0 : qM) (A : Nat → Int32) (B : Nat → Nat → Int32) (P : Nat → Nat → Option Nat) (T : Int → Int) (po : Int) (q : Nat → Int32) (g : Bool) (h_1 : T = txC A B) (h_2 : okTx A B) (h_3 : (A 3).toInt = po) (h_4 : 0 ≤ po ∧ po ≤ (A 2).toInt) (h_5 : rdC q g A B) (h_6 : q 30 = 7) (h_7 : q 31 = 0) (h_8 : q 32 = 4) : kC l yX4_readWeeks cX4_readWeeks 1 (some .boolean) 3 D t b n σ0 A B P [.ref (b + 3)] (fun z A1 B1 => B1 = B ∧ kpI [3, 4, 5, 16, 17, 18] A A1 ∧ z = bI (decide ((sWk T po q g).1 = true)) ∧ (A1 3).toInt = (sWk T po q g).2.1 ∧ ((A 3).toInt ≤ (A1 3).toInt ∧ (A1 3).toInt ≤ (A 2).toInt) ∧ ((sWk T po q g).1 = true → rdC (sWk T po q g).2.2.1 (sWk T po q g).2.2.2 A1 B)) := by
  refine qC.of (by decide +kernel) (Nat.le_of_ble_eq_true rfl) (fun p e s m args below meth c X w ls hl => ?_)
  have hx := X.1
  have hb := X.2.1
  have hl : lv_has ls 1 [(0, .ref (b + 3))] := hl
  refine lv_aload_n hx hb dX4_readWeeks_0 rfl (lv_at hl 0 rfl) ?_
  refine kg_X4_text X w dX4_readWeeks_1 ?_
  refine kk_cCI X w (c_X7_readNumber l D t b n σ0 A B P T (by exact h_1.trans (txC_cg ((kpI.rf (J := [3, 4, 5, 16, 17, 18]) (I := A)) 2 (by decide)) ((kpR.rf (J := [1, 2, 3]) (R := B)) 0 (by decide))).symm) (by exact h_2.cg ((kpI.rf (J := [3, 4, 5, 16, 17, 18]) (I := A)) 2 (by decide)) ((kpR.rf (J := [1, 2, 3]) (R := B)) 0 (by decide))) (by have h2 : (A 2).toInt = (A 2).toInt := (congrArg Int32.toInt ((kpI.rf (J := [3, 4, 5, 16, 17, 18]) (I := A)) 2 (by decide))); have h3 : (A 3).toInt = po := ((congrArg Int32.toInt rfl).trans h_3); rw [h2, h3]; exact ⟨Int.le_trans h_4.1 (And.intro (Int.le_refl po) h_4.2).1, (And.intro (Int.le_refl po) h_4.2).2⟩)) v_X4_121 rfl rfl rfl ⟨Nat.le_of_ble_eq_true rfl, Nat.le_of_ble_eq_true rfl⟩ rfl hl.1 (Nat.le_of_ble_eq_true rfl) dX4_readWeeks_4 ⟨Nat.zero_le _, Nat.zero_le _⟩ (fun r_4 A_4 H locs z_4 w => ?_)
  have KI_4 : kpI [3, 4, 5, 16, 17, 18] A A_4 := kpI.tr (J := [3, 4, 5, 16, 17, 18]) (kpI.rf (J := [3, 4, 5, 16, 17, 18]) (I := A)) z_4.1 (by decide) (by decide)
  have q_4 : (A_4 3).toInt = (num T po).2 := by have h : (A_4 3).toInt = (num T ((A 3).toInt)).2 := z_4.2.2.1; rw [show (A 3).toInt = po from ((congrArg Int32.toInt rfl).trans h_3)] at h; exact h
  have n_4 : (A_4 4).toInt = (num T po).1 := by have h : (A_4 4).toInt = (num T ((A 3).toInt)).1 := z_4.2.2.2.1; rw [show (A 3).toInt = po from ((congrArg Int32.toInt rfl).trans h_3)] at h; exact h
  have b_4 : r_4 = bI (decide (dg T po)) := by have h : r_4 = bI (decide (dg T ((A 3).toInt))) := z_4.2.1; rw [show (A 3).toInt = po from ((congrArg Int32.toInt rfl).trans h_3)] at h; exact h
  have v_4 := num_v (T := T) po
  have Q_4 : po ≤ (num T po).2 ∧ (num T po).2 ≤ (A 2).toInt := ⟨(by have h := (And.intro (Int.le_refl po) h_4.2); have h2 := num_ge (T := T) po; omega), (by rw [← q_4]; exact Int.le_trans z_4.2.2.2.2 (Int.le_of_eq (congrArg Int32.toInt ((kpI.rf (J := [3, 4, 5, 16, 17, 18]) (I := A)) 2 (by decide)))))⟩
  refine lv_if_ne (tgt := 12) hx hb dX4_readWeeks_7 (by decide) (fun c_7 => ?_) (fun c_7 => ?_)
  · skip
    rw [b_4] at c_7
    have k_7 := bI_t.mp c_7
    have p_4 : (A_4 3).toInt = (num T po).2 := q_4
    skip
    refine lv_aload_n hx hb dX4_readWeeks_12 rfl (lv_at hl 0 rfl) ?_
    refine lv_aload_n hx hb dX4_readWeeks_13 rfl (lv_at hl 0 rfl) ?_
    refine kg_X4_text X w dX4_readWeeks_14 ?_
    refine q_cPV X w (c_X7_number l D t b n σ0 A_4 B P ) v_X4_124 (k := 1) rfl rfl rfl ⟨Nat.le_of_ble_eq_true rfl, Nat.le_of_ble_eq_true rfl⟩ rfl hl.1 (Nat.le_of_ble_eq_true rfl) dX4_readWeeks_17 ⟨Nat.zero_le _, Nat.zero_le _⟩ (fun r_17 z_17 => ?_)
    have m_17 : r_17.toInt = (num T po).1 := (congrArg Int32.toInt (z_17.trans rfl)).trans n_4
    have i_17 : r_17 = i3 (num T po).1 := by rw [← m_17]; exact (i3_i _).symm
    refine kp_X4_weekLength (v := r_17) X w dX4_readWeeks_20 (fun H locs w => ?_)
    refine lv_aload_n hx hb dX4_readWeeks_23 rfl (lv_at hl 0 rfl) ?_
    refine lv_aload_n hx hb dX4_readWeeks_24 rfl (lv_at hl 0 rfl) ?_
    refine kg_X4_weekLength X w dX4_readWeeks_25 ?_
    refine q_topE (y := r_17) rfl ?_
    refine lv_iconst (v := 2) hx hb dX4_readWeeks_28 (by decide) ?_
    refine lv_bipush (v := 10) hx hb dX4_readWeeks_29 (by decide) ?_
    refine kk_cVI X w (c_X4_allow l D t b n σ0 (va_up A_4 16 r_17) B P r_17 2 10 ((num T po).1) 2 10 m_17 (show (2 : Int32).toInt = 2 from rfl) (show (10 : Int32).toInt = 10 from rfl)) v_X4_128 rfl rfl rfl ⟨Nat.le_of_ble_eq_true rfl, Nat.le_of_ble_eq_true rfl⟩ rfl hl.1 (Nat.le_of_ble_eq_true rfl) dX4_readWeeks_31 ⟨Nat.zero_le _, Nat.zero_le _⟩ (fun A_31 H locs z_31 w => ?_)
    have KI_31 : kpI [3, 4, 5, 16, 17, 18] A A_31 := kpI.tr (J := [3, 4, 5, 16, 17, 18]) (kpI.up KI_4 (by decide)) z_31.1 (by decide) (by decide)
    have f_31 : A_31 5 = (if 2 ≤ ((num T po).1) ∧ ((num T po).1) ≤ 10 then A 5 else 0) := by have h : A_31 5 = (if 2 ≤ ((num T po).1) ∧ ((num T po).1) ≤ 10 then (va_up A_4 16 r_17) 5 else 0) := z_31.2; rw [show (va_up A_4 16 r_17) 5 = A 5 from ((z_4.1 5 (by decide)).trans rfl)] at h; exact h
    refine lv_aload_n hx hb dX4_readWeeks_34 rfl (lv_at hl 0 rfl) ?_
    refine kg_X4_text X w dX4_readWeeks_35 ?_
    refine lv_bipush (v := 44) hx hb dX4_readWeeks_38 (by decide) ?_
    refine kk_cCI X w (c_X7_accept l D t b n σ0 A_31 B P T 44 44 (show (44 : Int32).toInt = 44 from rfl) (by exact h_1.trans (txC_cg (KI_31 2 (by decide)) ((kpR.rf (J := [1, 2, 3]) (R := B)) 0 (by decide))).symm) (by exact h_2.cg (KI_31 2 (by decide)) ((kpR.rf (J := [1, 2, 3]) (R := B)) 0 (by decide))) (by have h2 : (A_31 2).toInt = (A 2).toInt := (congrArg Int32.toInt (KI_31 2 (by decide))); have h3 : (A_31 3).toInt = (num T po).2 := ((congrArg Int32.toInt ((z_31.1 3 (by decide)).trans rfl)).trans p_4); rw [h2, h3]; exact ⟨Int.le_trans h_4.1 Q_4.1, Q_4.2⟩) (by first | assumption | omega)) v_X4_114 rfl rfl rfl ⟨Nat.le_of_ble_eq_true rfl, Nat.le_of_ble_eq_true rfl⟩ rfl hl.1 (Nat.le_of_ble_eq_true rfl) dX4_readWeeks_40 ⟨Nat.zero_le _, Nat.zero_le _⟩ (fun r_40 A_40 H locs z_40 w => ?_)
    have KI_40 : kpI [3, 4, 5, 16, 17, 18] A A_40 := kpI.tr (J := [3, 4, 5, 16, 17, 18]) KI_31 z_40.1 (by decide) (by decide)
    have q_40 : (A_40 3).toInt = (if T ((num T po).2) = 44 then ((num T po).2) + 1 else ((num T po).2)) := by have h : (A_40 3).toInt = (if T ((A_31 3).toInt) = 44 then ((A_31 3).toInt) + 1 else ((A_31 3).toInt)) := z_40.2.2.1; rw [show (A_31 3).toInt = (num T po).2 from ((congrArg Int32.toInt ((z_31.1 3 (by decide)).trans rfl)).trans p_4)] at h; exact h
    have b_40 : r_40 = bI (decide (T ((num T po).2) = 44)) := by have h : r_40 = bI (decide (T ((A_31 3).toInt) = 44)) := z_40.2.1; rw [show (A_31 3).toInt = (num T po).2 from ((congrArg Int32.toInt ((z_31.1 3 (by decide)).trans rfl)).trans p_4)] at h; exact h
    have Q_40 : po ≤ (if T ((num T po).2) = 44 then ((num T po).2) + 1 else ((num T po).2)) ∧ (if T ((num T po).2) = 44 then ((num T po).2) + 1 else ((num T po).2)) ≤ (A 2).toInt := ⟨(by have h := Q_4; split <;> omega), (by rw [← q_40]; exact Int.le_trans z_40.2.2.2 (Int.le_of_eq (congrArg Int32.toInt (KI_31 2 (by decide)))))⟩
    refine lv_if_eq (tgt := 56) hx hb dX4_readWeeks_43 (by decide) (fun c_43 => ?_) (fun c_43 => ?_)
    · skip
      rw [b_40] at c_43
      have k_43 := bI_f.mp c_43
      have p_40 : (A_40 3).toInt = (num T po).2 := q_40.trans (if_neg k_43)
      have Q_40 : po ≤ (num T po).2 ∧ (num T po).2 ≤ (A 2).toInt := by have h := Q_40; rw [show (if T ((num T po).2) = 44 then ((num T po).2) + 1 else ((num T po).2)) = (num T po).2 from q_40.symm.trans p_40] at h; exact h
      refine lv_iconst (v := 0) hx hb dX4_readWeeks_56 (by decide) ?_
      exact q_cret (post := (fun z n1 σ1 => n1 = n ∧ ∃ A1 B1, σ1 = cS t b σ0 A1 B1 P ∧ B1 = B ∧ kpI [3, 4, 5, 16, 17, 18] A A1 ∧ z = bI (decide ((sWk T po q g).1 = true)) ∧ (A1 3).toInt = (sWk T po q g).2.1 ∧ ((A 3).toInt ≤ (A1 3).toInt ∧ (A1 3).toInt ≤ (A 2).toInt) ∧ ((sWk T po q g).1 = true → rdC (sWk T po q g).2.2.1 (sWk T po q g).2.2.2 A1 B))) X w dX4_readWeeks_57 (rfl) ⟨rfl, _, _, rfl, rfl, by have e : (sWk T po q g).1 = false ∧ (sWk T po q g).2.1 = (num T po).2 := (by unfold sWk; rw [if_pos k_7, if_neg k_43]; exact ⟨rfl, rfl⟩); exact ⟨KI_40, bI_0 (by rw [e.1]; decide), ((congrArg Int32.toInt rfl).trans p_40).trans e.2.symm, (by have h3 : (A_40 3).toInt = (num T po).2 := ((congrArg Int32.toInt rfl).trans p_40); rw [h3, h_3]; exact Q_40), fun h => absurd (h.symm.trans e.1) (by decide)⟩⟩
    · skip
      rw [b_40] at c_43
      have k_43 := bI_t.mp c_43
      have p_40 : (A_40 3).toInt = ((num T po).2) + 1 := q_40.trans (if_pos k_43)
      have Q_40 : po ≤ ((num T po).2) + 1 ∧ ((num T po).2) + 1 ≤ (A 2).toInt := by have h := Q_40; rw [show (if T ((num T po).2) = 44 then ((num T po).2) + 1 else ((num T po).2)) = ((num T po).2) + 1 from q_40.symm.trans p_40] at h; exact h
      refine lv_aload_n hx hb dX4_readWeeks_46 rfl (lv_at hl 0 rfl) ?_
      refine kg_X4_text X w dX4_readWeeks_47 ?_
      refine kk_cCI X w (c_X7_readNumber l D t b n σ0 A_40 B P T (by exact h_1.trans (txC_cg (KI_40 2 (by decide)) ((kpR.rf (J := [1, 2, 3]) (R := B)) 0 (by decide))).symm) (by exact h_2.cg (KI_40 2 (by decide)) ((kpR.rf (J := [1, 2, 3]) (R := B)) 0 (by decide))) (by have h2 : (A_40 2).toInt = (A 2).toInt := (congrArg Int32.toInt (KI_40 2 (by decide))); have h3 : (A_40 3).toInt = ((num T po).2) + 1 := ((congrArg Int32.toInt rfl).trans p_40); rw [h2, h3]; exact ⟨Int.le_trans h_4.1 Q_40.1, Q_40.2⟩)) v_X4_121 rfl rfl rfl ⟨Nat.le_of_ble_eq_true rfl, Nat.le_of_ble_eq_true rfl⟩ rfl hl.1 (Nat.le_of_ble_eq_true rfl) dX4_readWeeks_50 ⟨Nat.zero_le _, Nat.zero_le _⟩ (fun r_50 A_50 H locs z_50 w => ?_)
      have KI_50 : kpI [3, 4, 5, 16, 17, 18] A A_50 := kpI.tr (J := [3, 4, 5, 16, 17, 18]) KI_40 z_50.1 (by decide) (by decide)
      have q_50 : (A_50 3).toInt = (num T (((num T po).2) + 1)).2 := by have h : (A_50 3).toInt = (num T ((A_40 3).toInt)).2 := z_50.2.2.1; rw [show (A_40 3).toInt = ((num T po).2) + 1 from ((congrArg Int32.toInt rfl).trans p_40)] at h; exact h
      have n_50 : (A_50 4).toInt = (num T (((num T po).2) + 1)).1 := by have h : (A_50 4).toInt = (num T ((A_40 3).toInt)).1 := z_50.2.2.2.1; rw [show (A_40 3).toInt = ((num T po).2) + 1 from ((congrArg Int32.toInt rfl).trans p_40)] at h; exact h
      have b_50 : r_50 = bI (decide (dg T (((num T po).2) + 1))) := by have h : r_50 = bI (decide (dg T ((A_40 3).toInt))) := z_50.2.1; rw [show (A_40 3).toInt = ((num T po).2) + 1 from ((congrArg Int32.toInt rfl).trans p_40)] at h; exact h
      have v_50 := num_v (T := T) (((num T po).2) + 1)
      have Q_50 : po ≤ (num T (((num T po).2) + 1)).2 ∧ (num T (((num T po).2) + 1)).2 ≤ (A 2).toInt := ⟨(by have h := Q_40; have h2 := num_ge (T := T) (((num T po).2) + 1); omega), (by rw [← q_50]; exact Int.le_trans z_50.2.2.2.2 (Int.le_of_eq (congrArg Int32.toInt (KI_40 2 (by decide)))))⟩
      refine lv_if_ne (tgt := 58) hx hb dX4_readWeeks_53 (by decide) (fun c_53 => ?_) (fun c_53 => ?_)
      · skip
        rw [b_50] at c_53
        have k_53 := bI_t.mp c_53
        have p_50 : (A_50 3).toInt = (num T (((num T po).2) + 1)).2 := q_50
        skip
        refine lv_aload_n hx hb dX4_readWeeks_58 rfl (lv_at hl 0 rfl) ?_
        refine lv_aload_n hx hb dX4_readWeeks_59 rfl (lv_at hl 0 rfl) ?_
        refine kg_X4_text X w dX4_readWeeks_60 ?_
        refine q_cPV X w (c_X7_number l D t b n σ0 A_50 B P ) v_X4_124 (k := 1) rfl rfl rfl ⟨Nat.le_of_ble_eq_true rfl, Nat.le_of_ble_eq_true rfl⟩ rfl hl.1 (Nat.le_of_ble_eq_true rfl) dX4_readWeeks_63 ⟨Nat.zero_le _, Nat.zero_le _⟩ (fun r_63 z_63 => ?_)
        have m_63 : r_63.toInt = (num T (((num T po).2) + 1)).1 := (congrArg Int32.toInt (z_63.trans rfl)).trans n_50
        have i_63 : r_63 = i3 (num T (((num T po).2) + 1)).1 := by rw [← m_63]; exact (i3_i _).symm
        refine kp_X4_zeroWeekday (v := r_63) X w dX4_readWeeks_66 (fun H locs w => ?_)
        refine lv_aload_n hx hb dX4_readWeeks_69 rfl (lv_at hl 0 rfl) ?_
        refine lv_aload_n hx hb dX4_readWeeks_70 rfl (lv_at hl 0 rfl) ?_
        refine kg_X4_zeroWeekday X w dX4_readWeeks_71 ?_
        refine q_topE (y := r_63) rfl ?_
        refine lv_iconst (v := 0) hx hb dX4_readWeeks_74 (by decide) ?_
        refine lv_aload_n hx hb dX4_readWeeks_75 rfl (lv_at hl 0 rfl) ?_
        refine kg_X4_weekLength X w dX4_readWeeks_76 ?_
        refine lv_iconst (v := 1) hx hb dX4_readWeeks_79 (by decide) ?_
        refine lv_isub hx hb dX4_readWeeks_80 ?_
        refine lv_topi (fun x_80 e_80 => ?_)
        have p_80 : x_80.toInt = (((num T po).1) - 1) := by rw [e_80]; exact t_sub ((congrArg Int32.toInt (z_50.1 16 (by decide))).trans ((congrArg Int32.toInt (z_40.1 16 (by decide))).trans ((congrArg Int32.toInt (z_31.1 16 (by decide))).trans m_17))) (show (1 : Int32).toInt = 1 from rfl) (by omega) (by omega)
        refine kk_cVI X w (c_X4_allow l D t b n σ0 (va_up A_50 17 r_63) B P r_63 0 x_80 ((num T (((num T po).2) + 1)).1) 0 (((num T po).1) - 1) m_63 (show (0 : Int32).toInt = 0 from rfl) p_80) v_X4_128 rfl rfl rfl ⟨Nat.le_of_ble_eq_true rfl, Nat.le_of_ble_eq_true rfl⟩ rfl hl.1 (Nat.le_of_ble_eq_true rfl) dX4_readWeeks_81 ⟨Nat.zero_le _, Nat.zero_le _⟩ (fun A_81 H locs z_81 w => ?_)
        have KI_81 : kpI [3, 4, 5, 16, 17, 18] A A_81 := kpI.tr (J := [3, 4, 5, 16, 17, 18]) (kpI.up KI_50 (by decide)) z_81.1 (by decide) (by decide)
        have f_81 : A_81 5 = (if 0 ≤ ((num T (((num T po).2) + 1)).1) ∧ ((num T (((num T po).2) + 1)).1) ≤ (((num T po).1) - 1) then (if 2 ≤ ((num T po).1) ∧ ((num T po).1) ≤ 10 then A 5 else 0) else 0) := by have h : A_81 5 = (if 0 ≤ ((num T (((num T po).2) + 1)).1) ∧ ((num T (((num T po).2) + 1)).1) ≤ (((num T po).1) - 1) then (va_up A_50 17 r_63) 5 else 0) := z_81.2; rw [show (va_up A_50 17 r_63) 5 = (if 2 ≤ ((num T po).1) ∧ ((num T po).1) ≤ 10 then A 5 else 0) from ((z_50.1 5 (by decide)).trans ((z_40.1 5 (by decide)).trans f_31))] at h; exact h
        refine lv_aload_n hx hb dX4_readWeeks_84 rfl (lv_at hl 0 rfl) ?_
        refine kg_X4_text X w dX4_readWeeks_85 ?_
        refine lv_bipush (v := 44) hx hb dX4_readWeeks_88 (by decide) ?_
        refine kk_cCI X w (c_X7_accept l D t b n σ0 A_81 B P T 44 44 (show (44 : Int32).toInt = 44 from rfl) (by exact h_1.trans (txC_cg (KI_81 2 (by decide)) ((kpR.rf (J := [1, 2, 3]) (R := B)) 0 (by decide))).symm) (by exact h_2.cg (KI_81 2 (by decide)) ((kpR.rf (J := [1, 2, 3]) (R := B)) 0 (by decide))) (by have h2 : (A_81 2).toInt = (A 2).toInt := (congrArg Int32.toInt (KI_81 2 (by decide))); have h3 : (A_81 3).toInt = (num T (((num T po).2) + 1)).2 := ((congrArg Int32.toInt ((z_81.1 3 (by decide)).trans rfl)).trans p_50); rw [h2, h3]; exact ⟨Int.le_trans h_4.1 Q_50.1, Q_50.2⟩) (by first | assumption | omega)) v_X4_114 rfl rfl rfl ⟨Nat.le_of_ble_eq_true rfl, Nat.le_of_ble_eq_true rfl⟩ rfl hl.1 (Nat.le_of_ble_eq_true rfl) dX4_readWeeks_90 ⟨Nat.zero_le _, Nat.zero_le _⟩ (fun r_90 A_90 H locs z_90 w => ?_)
        have KI_90 : kpI [3, 4, 5, 16, 17, 18] A A_90 := kpI.tr (J := [3, 4, 5, 16, 17, 18]) KI_81 z_90.1 (by decide) (by decide)
        have q_90 : (A_90 3).toInt = (if T ((num T (((num T po).2) + 1)).2) = 44 then ((num T (((num T po).2) + 1)).2) + 1 else ((num T (((num T po).2) + 1)).2)) := by have h : (A_90 3).toInt = (if T ((A_81 3).toInt) = 44 then ((A_81 3).toInt) + 1 else ((A_81 3).toInt)) := z_90.2.2.1; rw [show (A_81 3).toInt = (num T (((num T po).2) + 1)).2 from ((congrArg Int32.toInt ((z_81.1 3 (by decide)).trans rfl)).trans p_50)] at h; exact h
        have b_90 : r_90 = bI (decide (T ((num T (((num T po).2) + 1)).2) = 44)) := by have h : r_90 = bI (decide (T ((A_81 3).toInt) = 44)) := z_90.2.1; rw [show (A_81 3).toInt = (num T (((num T po).2) + 1)).2 from ((congrArg Int32.toInt ((z_81.1 3 (by decide)).trans rfl)).trans p_50)] at h; exact h
        have Q_90 : po ≤ (if T ((num T (((num T po).2) + 1)).2) = 44 then ((num T (((num T po).2) + 1)).2) + 1 else ((num T (((num T po).2) + 1)).2)) ∧ (if T ((num T (((num T po).2) + 1)).2) = 44 then ((num T (((num T po).2) + 1)).2) + 1 else ((num T (((num T po).2) + 1)).2)) ≤ (A 2).toInt := ⟨(by have h := Q_50; split <;> omega), (by rw [← q_90]; exact Int.le_trans z_90.2.2.2 (Int.le_of_eq (congrArg Int32.toInt (KI_81 2 (by decide)))))⟩
        refine lv_if_eq (tgt := 106) hx hb dX4_readWeeks_93 (by decide) (fun c_93 => ?_) (fun c_93 => ?_)
        · skip
          rw [b_90] at c_93
          have k_93 := bI_f.mp c_93
          have p_90 : (A_90 3).toInt = (num T (((num T po).2) + 1)).2 := q_90.trans (if_neg k_93)
          have Q_90 : po ≤ (num T (((num T po).2) + 1)).2 ∧ (num T (((num T po).2) + 1)).2 ≤ (A 2).toInt := by have h := Q_90; rw [show (if T ((num T (((num T po).2) + 1)).2) = 44 then ((num T (((num T po).2) + 1)).2) + 1 else ((num T (((num T po).2) + 1)).2)) = (num T (((num T po).2) + 1)).2 from q_90.symm.trans p_90] at h; exact h
          refine lv_iconst (v := 0) hx hb dX4_readWeeks_106 (by decide) ?_
          exact q_cret (post := (fun z n1 σ1 => n1 = n ∧ ∃ A1 B1, σ1 = cS t b σ0 A1 B1 P ∧ B1 = B ∧ kpI [3, 4, 5, 16, 17, 18] A A1 ∧ z = bI (decide ((sWk T po q g).1 = true)) ∧ (A1 3).toInt = (sWk T po q g).2.1 ∧ ((A 3).toInt ≤ (A1 3).toInt ∧ (A1 3).toInt ≤ (A 2).toInt) ∧ ((sWk T po q g).1 = true → rdC (sWk T po q g).2.2.1 (sWk T po q g).2.2.2 A1 B))) X w dX4_readWeeks_107 (rfl) ⟨rfl, _, _, rfl, rfl, by have e : (sWk T po q g).1 = false ∧ (sWk T po q g).2.1 = (num T (((num T po).2) + 1)).2 := (by unfold sWk; rw [if_pos k_7, if_pos k_43, if_pos k_53, if_neg k_93]; exact ⟨rfl, rfl⟩); exact ⟨KI_90, bI_0 (by rw [e.1]; decide), ((congrArg Int32.toInt rfl).trans p_90).trans e.2.symm, (by have h3 : (A_90 3).toInt = (num T (((num T po).2) + 1)).2 := ((congrArg Int32.toInt rfl).trans p_90); rw [h3, h_3]; exact Q_90), fun h => absurd (h.symm.trans e.1) (by decide)⟩⟩
        · skip
          rw [b_90] at c_93
          have k_93 := bI_t.mp c_93
          have p_90 : (A_90 3).toInt = ((num T (((num T po).2) + 1)).2) + 1 := q_90.trans (if_pos k_93)
          have Q_90 : po ≤ ((num T (((num T po).2) + 1)).2) + 1 ∧ ((num T (((num T po).2) + 1)).2) + 1 ≤ (A 2).toInt := by have h := Q_90; rw [show (if T ((num T (((num T po).2) + 1)).2) = 44 then ((num T (((num T po).2) + 1)).2) + 1 else ((num T (((num T po).2) + 1)).2)) = ((num T (((num T po).2) + 1)).2) + 1 from q_90.symm.trans p_90] at h; exact h
          refine lv_aload_n hx hb dX4_readWeeks_96 rfl (lv_at hl 0 rfl) ?_
          refine kg_X4_text X w dX4_readWeeks_97 ?_
          refine kk_cCI X w (c_X7_readNumber l D t b n σ0 A_90 B P T (by exact h_1.trans (txC_cg (KI_90 2 (by decide)) ((kpR.rf (J := [1, 2, 3]) (R := B)) 0 (by decide))).symm) (by exact h_2.cg (KI_90 2 (by decide)) ((kpR.rf (J := [1, 2, 3]) (R := B)) 0 (by decide))) (by have h2 : (A_90 2).toInt = (A 2).toInt := (congrArg Int32.toInt (KI_90 2 (by decide))); have h3 : (A_90 3).toInt = ((num T (((num T po).2) + 1)).2) + 1 := ((congrArg Int32.toInt rfl).trans p_90); rw [h2, h3]; exact ⟨Int.le_trans h_4.1 Q_90.1, Q_90.2⟩)) v_X4_121 rfl rfl rfl ⟨Nat.le_of_ble_eq_true rfl, Nat.le_of_ble_eq_true rfl⟩ rfl hl.1 (Nat.le_of_ble_eq_true rfl) dX4_readWeeks_100 ⟨Nat.zero_le _, Nat.zero_le _⟩ (fun r_100 A_100 H locs z_100 w => ?_)
          have KI_100 : kpI [3, 4, 5, 16, 17, 18] A A_100 := kpI.tr (J := [3, 4, 5, 16, 17, 18]) KI_90 z_100.1 (by decide) (by decide)
          have q_100 : (A_100 3).toInt = (num T (((num T (((num T po).2) + 1)).2) + 1)).2 := by have h : (A_100 3).toInt = (num T ((A_90 3).toInt)).2 := z_100.2.2.1; rw [show (A_90 3).toInt = ((num T (((num T po).2) + 1)).2) + 1 from ((congrArg Int32.toInt rfl).trans p_90)] at h; exact h
          have n_100 : (A_100 4).toInt = (num T (((num T (((num T po).2) + 1)).2) + 1)).1 := by have h : (A_100 4).toInt = (num T ((A_90 3).toInt)).1 := z_100.2.2.2.1; rw [show (A_90 3).toInt = ((num T (((num T po).2) + 1)).2) + 1 from ((congrArg Int32.toInt rfl).trans p_90)] at h; exact h
          have b_100 : r_100 = bI (decide (dg T (((num T (((num T po).2) + 1)).2) + 1))) := by have h : r_100 = bI (decide (dg T ((A_90 3).toInt))) := z_100.2.1; rw [show (A_90 3).toInt = ((num T (((num T po).2) + 1)).2) + 1 from ((congrArg Int32.toInt rfl).trans p_90)] at h; exact h
          have v_100 := num_v (T := T) (((num T (((num T po).2) + 1)).2) + 1)
          have Q_100 : po ≤ (num T (((num T (((num T po).2) + 1)).2) + 1)).2 ∧ (num T (((num T (((num T po).2) + 1)).2) + 1)).2 ≤ (A 2).toInt := ⟨(by have h := Q_90; have h2 := num_ge (T := T) (((num T (((num T po).2) + 1)).2) + 1); omega), (by rw [← q_100]; exact Int.le_trans z_100.2.2.2.2 (Int.le_of_eq (congrArg Int32.toInt (KI_90 2 (by decide)))))⟩
          refine lv_if_ne (tgt := 108) hx hb dX4_readWeeks_103 (by decide) (fun c_103 => ?_) (fun c_103 => ?_)
          · skip
            rw [b_100] at c_103
            have k_103 := bI_t.mp c_103
            have p_100 : (A_100 3).toInt = (num T (((num T (((num T po).2) + 1)).2) + 1)).2 := q_100
            skip
            refine lv_aload_n hx hb dX4_readWeeks_108 rfl (lv_at hl 0 rfl) ?_
            refine lv_aload_n hx hb dX4_readWeeks_109 rfl (lv_at hl 0 rfl) ?_
            refine kg_X4_text X w dX4_readWeeks_110 ?_
            refine q_cPV X w (c_X7_number l D t b n σ0 A_100 B P ) v_X4_124 (k := 1) rfl rfl rfl ⟨Nat.le_of_ble_eq_true rfl, Nat.le_of_ble_eq_true rfl⟩ rfl hl.1 (Nat.le_of_ble_eq_true rfl) dX4_readWeeks_113 ⟨Nat.zero_le _, Nat.zero_le _⟩ (fun r_113 z_113 => ?_)
            have m_113 : r_113.toInt = (num T (((num T (((num T po).2) + 1)).2) + 1)).1 := (congrArg Int32.toInt (z_113.trans rfl)).trans n_100
            have i_113 : r_113 = i3 (num T (((num T (((num T po).2) + 1)).2) + 1)).1 := by rw [← m_113]; exact (i3_i _).symm
            refine kp_X4_weekDay (v := r_113) X w dX4_readWeeks_116 (fun H locs w => ?_)
            refine lv_aload_n hx hb dX4_readWeeks_119 rfl (lv_at hl 0 rfl) ?_
            refine lv_aload_n hx hb dX4_readWeeks_120 rfl (lv_at hl 0 rfl) ?_
            refine kg_X4_weekDay X w dX4_readWeeks_121 ?_
            refine q_topE (y := r_113) rfl ?_
            refine lv_iconst (v := 1) hx hb dX4_readWeeks_124 (by decide) ?_
            refine lv_aload_n hx hb dX4_readWeeks_125 rfl (lv_at hl 0 rfl) ?_
            refine kg_X4_weekLength X w dX4_readWeeks_126 ?_
            refine kk_cVI X w (c_X4_allow l D t b n σ0 (va_up A_100 18 r_113) B P r_113 1 ((va_up A_100 18 r_113) 16) ((num T (((num T (((num T po).2) + 1)).2) + 1)).1) 1 ((num T po).1) m_113 (show (1 : Int32).toInt = 1 from rfl) ((congrArg Int32.toInt (z_100.1 16 (by decide))).trans ((congrArg Int32.toInt (z_90.1 16 (by decide))).trans ((congrArg Int32.toInt (z_81.1 16 (by decide))).trans ((congrArg Int32.toInt (z_50.1 16 (by decide))).trans ((congrArg Int32.toInt (z_40.1 16 (by decide))).trans ((congrArg Int32.toInt (z_31.1 16 (by decide))).trans m_17))))))) v_X4_128 rfl rfl rfl ⟨Nat.le_of_ble_eq_true rfl, Nat.le_of_ble_eq_true rfl⟩ rfl hl.1 (Nat.le_of_ble_eq_true rfl) dX4_readWeeks_129 ⟨Nat.zero_le _, Nat.zero_le _⟩ (fun A_129 H locs z_129 w => ?_)
            have KI_129 : kpI [3, 4, 5, 16, 17, 18] A A_129 := kpI.tr (J := [3, 4, 5, 16, 17, 18]) (kpI.up KI_100 (by decide)) z_129.1 (by decide) (by decide)
            have f_129 : A_129 5 = (if 1 ≤ ((num T (((num T (((num T po).2) + 1)).2) + 1)).1) ∧ ((num T (((num T (((num T po).2) + 1)).2) + 1)).1) ≤ ((num T po).1) then (if 0 ≤ ((num T (((num T po).2) + 1)).1) ∧ ((num T (((num T po).2) + 1)).1) ≤ (((num T po).1) - 1) then (if 2 ≤ ((num T po).1) ∧ ((num T po).1) ≤ 10 then A 5 else 0) else 0) else 0) := by have h : A_129 5 = (if 1 ≤ ((num T (((num T (((num T po).2) + 1)).2) + 1)).1) ∧ ((num T (((num T (((num T po).2) + 1)).2) + 1)).1) ≤ ((num T po).1) then (va_up A_100 18 r_113) 5 else 0) := z_129.2; rw [show (va_up A_100 18 r_113) 5 = (if 0 ≤ ((num T (((num T po).2) + 1)).1) ∧ ((num T (((num T po).2) + 1)).1) ≤ (((num T po).1) - 1) then (if 2 ≤ ((num T po).1) ∧ ((num T po).1) ≤ 10 then A 5 else 0) else 0) from ((z_100.1 5 (by decide)).trans ((z_90.1 5 (by decide)).trans f_81))] at h; exact h
            refine lv_iconst (v := 1) hx hb dX4_readWeeks_132 (by decide) ?_
            exact q_cret (post := (fun z n1 σ1 => n1 = n ∧ ∃ A1 B1, σ1 = cS t b σ0 A1 B1 P ∧ B1 = B ∧ kpI [3, 4, 5, 16, 17, 18] A A1 ∧ z = bI (decide ((sWk T po q g).1 = true)) ∧ (A1 3).toInt = (sWk T po q g).2.1 ∧ ((A 3).toInt ≤ (A1 3).toInt ∧ (A1 3).toInt ≤ (A 2).toInt) ∧ ((sWk T po q g).1 = true → rdC (sWk T po q g).2.2.1 (sWk T po q g).2.2.2 A1 B))) X w dX4_readWeeks_133 (rfl) ⟨rfl, _, _, rfl, rfl, by have e : sWk T po q g = (true, (num T ((num T ((num T po).2 + 1)).2 + 1)).2, upd (upd (upd q 30 (i3 (num T po).1)) 31 (i3 (num T ((num T po).2 + 1)).1)) 32 (i3 (num T ((num T ((num T po).2 + 1)).2 + 1)).1), g) := (by unfold sWk; rw [if_pos k_7, if_pos k_43, if_pos k_53, if_pos k_93, if_pos k_103]); rw [e]; exact ⟨KI_129, rfl, ((congrArg Int32.toInt ((z_129.1 3 (by decide)).trans rfl)).trans p_100), (by have h3 : (A_129 3).toInt = (num T (((num T (((num T po).2) + 1)).2) + 1)).2 := ((congrArg Int32.toInt ((z_129.1 3 (by decide)).trans rfl)).trans p_100); rw [h3, h_3]; exact Q_100), fun _ => rdC_weeks h_5 h_6 h_7 h_8 KI_129 rfl (sNumB _).1 (((z_129.1 16 (by decide)).trans ((z_100.1 16 (by decide)).trans ((z_90.1 16 (by decide)).trans ((z_81.1 16 (by decide)).trans ((z_50.1 16 (by decide)).trans ((z_40.1 16 (by decide)).trans ((z_31.1 16 (by decide)).trans rfl))))))).trans i_17) (((z_129.1 17 (by decide)).trans ((z_100.1 17 (by decide)).trans ((z_90.1 17 (by decide)).trans ((z_81.1 17 (by decide)).trans rfl)))).trans i_63) (((z_129.1 18 (by decide)).trans rfl).trans i_113) (by simp only [i3_t]; exact f_129)⟩⟩
          · skip
            rw [b_100] at c_103
            have k_103 := bI_f.mp c_103
            have p_100 : (A_100 3).toInt = ((num T (((num T po).2) + 1)).2) + 1 := q_100.trans (congrArg Prod.snd (numF_e (v := 0) 6 k_103))
            have Q_100 : po ≤ ((num T (((num T po).2) + 1)).2) + 1 ∧ ((num T (((num T po).2) + 1)).2) + 1 ≤ (A 2).toInt := by have h := Q_100; rw [show (num T (((num T (((num T po).2) + 1)).2) + 1)).2 = ((num T (((num T po).2) + 1)).2) + 1 from q_100.symm.trans p_100] at h; exact h
            refine lv_iconst (v := 0) hx hb dX4_readWeeks_106 (by decide) ?_
            exact q_cret (post := (fun z n1 σ1 => n1 = n ∧ ∃ A1 B1, σ1 = cS t b σ0 A1 B1 P ∧ B1 = B ∧ kpI [3, 4, 5, 16, 17, 18] A A1 ∧ z = bI (decide ((sWk T po q g).1 = true)) ∧ (A1 3).toInt = (sWk T po q g).2.1 ∧ ((A 3).toInt ≤ (A1 3).toInt ∧ (A1 3).toInt ≤ (A 2).toInt) ∧ ((sWk T po q g).1 = true → rdC (sWk T po q g).2.2.1 (sWk T po q g).2.2.2 A1 B))) X w dX4_readWeeks_107 (rfl) ⟨rfl, _, _, rfl, rfl, by have e : (sWk T po q g).1 = false ∧ (sWk T po q g).2.1 = ((num T (((num T po).2) + 1)).2) + 1 := (by unfold sWk; rw [if_pos k_7, if_pos k_43, if_pos k_53, if_pos k_93, if_neg k_103]; exact ⟨rfl, rfl⟩); exact ⟨KI_100, bI_0 (by rw [e.1]; decide), ((congrArg Int32.toInt rfl).trans p_100).trans e.2.symm, (by have h3 : (A_100 3).toInt = ((num T (((num T po).2) + 1)).2) + 1 := ((congrArg Int32.toInt rfl).trans p_100); rw [h3, h_3]; exact Q_100), fun h => absurd (h.symm.trans e.1) (by decide)⟩⟩
      · skip
        rw [b_50] at c_53
        have k_53 := bI_f.mp c_53
        have p_50 : (A_50 3).toInt = ((num T po).2) + 1 := q_50.trans (congrArg Prod.snd (numF_e (v := 0) 6 k_53))
        have Q_50 : po ≤ ((num T po).2) + 1 ∧ ((num T po).2) + 1 ≤ (A 2).toInt := by have h := Q_50; rw [show (num T (((num T po).2) + 1)).2 = ((num T po).2) + 1 from q_50.symm.trans p_50] at h; exact h
        refine lv_iconst (v := 0) hx hb dX4_readWeeks_56 (by decide) ?_
        exact q_cret (post := (fun z n1 σ1 => n1 = n ∧ ∃ A1 B1, σ1 = cS t b σ0 A1 B1 P ∧ B1 = B ∧ kpI [3, 4, 5, 16, 17, 18] A A1 ∧ z = bI (decide ((sWk T po q g).1 = true)) ∧ (A1 3).toInt = (sWk T po q g).2.1 ∧ ((A 3).toInt ≤ (A1 3).toInt ∧ (A1 3).toInt ≤ (A 2).toInt) ∧ ((sWk T po q g).1 = true → rdC (sWk T po q g).2.2.1 (sWk T po q g).2.2.2 A1 B))) X w dX4_readWeeks_57 (rfl) ⟨rfl, _, _, rfl, rfl, by have e : (sWk T po q g).1 = false ∧ (sWk T po q g).2.1 = ((num T po).2) + 1 := (by unfold sWk; rw [if_pos k_7, if_pos k_43, if_neg k_53]; exact ⟨rfl, rfl⟩); exact ⟨KI_50, bI_0 (by rw [e.1]; decide), ((congrArg Int32.toInt rfl).trans p_50).trans e.2.symm, (by have h3 : (A_50 3).toInt = ((num T po).2) + 1 := ((congrArg Int32.toInt rfl).trans p_50); rw [h3, h_3]; exact Q_50), fun h => absurd (h.symm.trans e.1) (by decide)⟩⟩
  · skip
    rw [b_4] at c_7
    have k_7 := bI_f.mp c_7
    have p_4 : (A_4 3).toInt = po := q_4.trans (congrArg Prod.snd (numF_e (v := 0) 6 k_7))
    have Q_4 : po ≤ po ∧ po ≤ (A 2).toInt := by have h := Q_4; rw [show (num T po).2 = po from q_4.symm.trans p_4] at h; exact h
    refine lv_iconst (v := 0) hx hb dX4_readWeeks_10 (by decide) ?_
    exact q_cret (post := (fun z n1 σ1 => n1 = n ∧ ∃ A1 B1, σ1 = cS t b σ0 A1 B1 P ∧ B1 = B ∧ kpI [3, 4, 5, 16, 17, 18] A A1 ∧ z = bI (decide ((sWk T po q g).1 = true)) ∧ (A1 3).toInt = (sWk T po q g).2.1 ∧ ((A 3).toInt ≤ (A1 3).toInt ∧ (A1 3).toInt ≤ (A 2).toInt) ∧ ((sWk T po q g).1 = true → rdC (sWk T po q g).2.2.1 (sWk T po q g).2.2.2 A1 B))) X w dX4_readWeeks_11 (rfl) ⟨rfl, _, _, rfl, rfl, by have e : (sWk T po q g).1 = false ∧ (sWk T po q g).2.1 = po := (by unfold sWk; rw [if_neg k_7]; exact ⟨rfl, rfl⟩); exact ⟨KI_4, bI_0 (by rw [e.1]; decide), ((congrArg Int32.toInt rfl).trans p_4).trans e.2.symm, (by have h3 : (A_4 3).toInt = po := ((congrArg Int32.toInt rfl).trans p_4); rw [h3, h_3]; exact Q_4), fun h => absurd (h.symm.trans e.1) (by decide)⟩⟩

set_option maxHeartbeats 2000000 in
set_option maxRecDepth 100000 in
theorem c_X4_readRemainder (l : Launch) (D : va_G) (t : Nat → ClassId) (b n : Nat) (σ0 : qM) (A : Nat → Int32) (B : Nat → Nat → Int32) (P : Nat → Nat → Option Nat) (T : Int → Int) (po : Int) (q : Nat → Int32) (g : Bool) (h_1 : T = txC A B) (h_2 : okTx A B) (h_3 : (A 3).toInt = po) (h_4 : 0 ≤ po ∧ po ≤ (A 2).toInt) (h_5 : rdC q g A B) (h_6 : q 19 = 2) (h_7 : 0 ≤ (q 28).toInt) : kC l yX4_readRemainder cX4_readRemainder 1 (some .boolean) 3 D t b n σ0 A B P [.ref (b + 3)] (fun z A1 B1 => B1 = B ∧ kpI [3, 4, 5, 14] A A1 ∧ z = bI (decide ((sR1 T po q g).1 = true)) ∧ (A1 3).toInt = (sR1 T po q g).2.1 ∧ ((A 3).toInt ≤ (A1 3).toInt ∧ (A1 3).toInt ≤ (A 2).toInt) ∧ ((sR1 T po q g).1 = true → rdC (sR1 T po q g).2.2.1 (sR1 T po q g).2.2.2 A1 B)) := by
  refine qC.of (by decide +kernel) (Nat.le_of_ble_eq_true rfl) (fun p e s m args below meth c X w ls hl => ?_)
  have hx := X.1
  have hb := X.2.1
  have hl : lv_has ls 1 [(0, .ref (b + 3))] := hl
  have hp15 := h_5.2.2.2.2.2.2.1.1 h_6
  have hb15 : 0 ≤ (A 15).toInt := by rw [hp15]; exact h_7
  have hr15 := i_rng (A 15)
  refine lv_aload_n hx hb dX4_readRemainder_0 rfl (lv_at hl 0 rfl) ?_
  refine kg_X4_text X w dX4_readRemainder_1 ?_
  refine kk_cCI X w (c_X7_readNumber l D t b n σ0 A B P T (by exact h_1.trans (txC_cg ((kpI.rf (J := [3, 4, 5, 14]) (I := A)) 2 (by decide)) ((kpR.rf (J := [1, 2, 3]) (R := B)) 0 (by decide))).symm) (by exact h_2.cg ((kpI.rf (J := [3, 4, 5, 14]) (I := A)) 2 (by decide)) ((kpR.rf (J := [1, 2, 3]) (R := B)) 0 (by decide))) (by have h2 : (A 2).toInt = (A 2).toInt := (congrArg Int32.toInt ((kpI.rf (J := [3, 4, 5, 14]) (I := A)) 2 (by decide))); have h3 : (A 3).toInt = po := ((congrArg Int32.toInt rfl).trans h_3); rw [h2, h3]; exact ⟨Int.le_trans h_4.1 (And.intro (Int.le_refl po) h_4.2).1, (And.intro (Int.le_refl po) h_4.2).2⟩)) v_X4_121 rfl rfl rfl ⟨Nat.le_of_ble_eq_true rfl, Nat.le_of_ble_eq_true rfl⟩ rfl hl.1 (Nat.le_of_ble_eq_true rfl) dX4_readRemainder_4 ⟨Nat.zero_le _, Nat.zero_le _⟩ (fun r_4 A_4 H locs z_4 w => ?_)
  have KI_4 : kpI [3, 4, 5, 14] A A_4 := kpI.tr (J := [3, 4, 5, 14]) (kpI.rf (J := [3, 4, 5, 14]) (I := A)) z_4.1 (by decide) (by decide)
  have q_4 : (A_4 3).toInt = (num T po).2 := by have h : (A_4 3).toInt = (num T ((A 3).toInt)).2 := z_4.2.2.1; rw [show (A 3).toInt = po from ((congrArg Int32.toInt rfl).trans h_3)] at h; exact h
  have n_4 : (A_4 4).toInt = (num T po).1 := by have h : (A_4 4).toInt = (num T ((A 3).toInt)).1 := z_4.2.2.2.1; rw [show (A 3).toInt = po from ((congrArg Int32.toInt rfl).trans h_3)] at h; exact h
  have b_4 : r_4 = bI (decide (dg T po)) := by have h : r_4 = bI (decide (dg T ((A 3).toInt))) := z_4.2.1; rw [show (A 3).toInt = po from ((congrArg Int32.toInt rfl).trans h_3)] at h; exact h
  have v_4 := num_v (T := T) po
  have Q_4 : po ≤ (num T po).2 ∧ (num T po).2 ≤ (A 2).toInt := ⟨(by have h := (And.intro (Int.le_refl po) h_4.2); have h2 := num_ge (T := T) po; omega), (by rw [← q_4]; exact Int.le_trans z_4.2.2.2.2 (Int.le_of_eq (congrArg Int32.toInt ((kpI.rf (J := [3, 4, 5, 14]) (I := A)) 2 (by decide)))))⟩
  refine lv_if_ne (tgt := 12) hx hb dX4_readRemainder_7 (by decide) (fun c_7 => ?_) (fun c_7 => ?_)
  · skip
    rw [b_4] at c_7
    have k_7 := bI_t.mp c_7
    have p_4 : (A_4 3).toInt = (num T po).2 := q_4
    skip
    refine lv_aload_n hx hb dX4_readRemainder_12 rfl (lv_at hl 0 rfl) ?_
    refine lv_aload_n hx hb dX4_readRemainder_13 rfl (lv_at hl 0 rfl) ?_
    refine kg_X4_text X w dX4_readRemainder_14 ?_
    refine q_cPV X w (c_X7_number l D t b n σ0 A_4 B P ) v_X4_124 (k := 1) rfl rfl rfl ⟨Nat.le_of_ble_eq_true rfl, Nat.le_of_ble_eq_true rfl⟩ rfl hl.1 (Nat.le_of_ble_eq_true rfl) dX4_readRemainder_17 ⟨Nat.zero_le _, Nat.zero_le _⟩ (fun r_17 z_17 => ?_)
    have m_17 : r_17.toInt = (num T po).1 := (congrArg Int32.toInt (z_17.trans rfl)).trans n_4
    have i_17 : r_17 = i3 (num T po).1 := by rw [← m_17]; exact (i3_i _).symm
    refine lv_iconst (v := 0) hx hb dX4_readRemainder_20 (by decide) ?_
    refine lv_aload_n hx hb dX4_readRemainder_21 rfl (lv_at hl 0 rfl) ?_
    refine kg_X4_period X w dX4_readRemainder_22 ?_
    refine lv_iconst (v := 1) hx hb dX4_readRemainder_25 (by decide) ?_
    refine lv_isub hx hb dX4_readRemainder_26 ?_
    refine lv_topi (fun x_26 e_26 => ?_)
    have p_26 : x_26.toInt = (((A 15).toInt) - 1) := by rw [e_26]; exact t_sub ((congrArg Int32.toInt (z_4.1 15 (by decide))).trans rfl) (show (1 : Int32).toInt = 1 from rfl) (by omega) (by omega)
    refine kk_cVI X w (c_X4_allow l D t b n σ0 A_4 B P r_17 0 x_26 ((num T po).1) 0 (((A 15).toInt) - 1) m_17 (show (0 : Int32).toInt = 0 from rfl) p_26) v_X4_128 rfl rfl rfl ⟨Nat.le_of_ble_eq_true rfl, Nat.le_of_ble_eq_true rfl⟩ rfl hl.1 (Nat.le_of_ble_eq_true rfl) dX4_readRemainder_27 ⟨Nat.zero_le _, Nat.zero_le _⟩ (fun A_27 H locs z_27 w => ?_)
    have KI_27 : kpI [3, 4, 5, 14] A A_27 := kpI.tr (J := [3, 4, 5, 14]) KI_4 z_27.1 (by decide) (by decide)
    have f_27 : A_27 5 = (if 0 ≤ ((num T po).1) ∧ ((num T po).1) ≤ (((A 15).toInt) - 1) then A 5 else 0) := by have h : A_27 5 = (if 0 ≤ ((num T po).1) ∧ ((num T po).1) ≤ (((A 15).toInt) - 1) then A_4 5 else 0) := z_27.2; rw [show A_4 5 = A 5 from ((z_4.1 5 (by decide)).trans rfl)] at h; exact h
    refine lv_aload_n hx hb dX4_readRemainder_30 rfl (lv_at hl 0 rfl) ?_
    refine kg_X4_text X w dX4_readRemainder_31 ?_
    refine q_cPV X w (c_X7_number l D t b n σ0 A_27 B P ) v_X4_124 (k := 1) rfl rfl rfl ⟨Nat.le_of_ble_eq_true rfl, Nat.le_of_ble_eq_true rfl⟩ rfl hl.1 (Nat.le_of_ble_eq_true rfl) dX4_readRemainder_34 ⟨Nat.zero_le _, Nat.zero_le _⟩ (fun r_34 z_34 => ?_)
    have m_34 : r_34.toInt = (num T po).1 := (congrArg Int32.toInt (z_34.trans ((z_27.1 4 (by decide)).trans rfl))).trans n_4
    have i_34 : r_34 = i3 (num T po).1 := by rw [← m_34]; exact (i3_i _).symm
    refine lv_bipush (v := 30) hx hb dX4_readRemainder_37 (by decide) ?_
    refine lv_icmp_ge (tgt := 60) hx hb dX4_readRemainder_39 (by decide) (fun c_39 => ?_) (fun c_39 => ?_)
    · skip
      have k_39 : 30 ≤ ((num T po).1) := (g_le (show (30 : Int32).toInt = 30 from rfl) m_34).mp c_39
      refine lv_iconst (v := 1) hx hb dX4_readRemainder_60 (by decide) ?_
      exact q_cret (post := (fun z n1 σ1 => n1 = n ∧ ∃ A1 B1, σ1 = cS t b σ0 A1 B1 P ∧ B1 = B ∧ kpI [3, 4, 5, 14] A A1 ∧ z = bI (decide ((sR1 T po q g).1 = true)) ∧ (A1 3).toInt = (sR1 T po q g).2.1 ∧ ((A 3).toInt ≤ (A1 3).toInt ∧ (A1 3).toInt ≤ (A 2).toInt) ∧ ((sR1 T po q g).1 = true → rdC (sR1 T po q g).2.2.1 (sR1 T po q g).2.2.2 A1 B))) X w dX4_readRemainder_61 (rfl) ⟨rfl, _, _, rfl, rfl, by have e : sR1 T po q g = (true, (num T po).2, sRem1 q (num T po).1, g || decide ((q 28).toInt ≤ (num T po).1)) := (by unfold sR1; rw [if_pos k_7]); rw [e]; exact ⟨KI_27, rfl, ((congrArg Int32.toInt ((z_27.1 3 (by decide)).trans rfl)).trans p_4), (by have h3 : (A_27 3).toInt = (num T po).2 := ((congrArg Int32.toInt ((z_27.1 3 (by decide)).trans rfl)).trans p_4); rw [h3, h_3]; exact Q_4), fun _ => rdC_rem h_5 h_6 KI_27 rfl v_4 (by rw [if_neg (show ¬ (num T po).1 < 30 by omega)]; exact ((z_27.1 14 (by decide)).trans ((z_4.1 14 (by decide)).trans rfl))) (by rw [← h_5.2.2.2.2.2.2.1.1 h_6]; exact f_27)⟩⟩
    · skip
      have k_39 : ¬ (30 ≤ ((num T po).1)) := fun h => c_39 ((g_le (show (30 : Int32).toInt = 30 from rfl) m_34).mpr h)
      refine lv_aload_n hx hb dX4_readRemainder_42 rfl (lv_at hl 0 rfl) ?_
      refine lv_dup hx hb dX4_readRemainder_43 rfl ?_
      refine kg_X4_remainders X w dX4_readRemainder_44 ?_
      refine lv_iconst (v := 1) hx hb dX4_readRemainder_47 (by decide) ?_
      refine lv_aload_n hx hb dX4_readRemainder_48 rfl (lv_at hl 0 rfl) ?_
      refine kg_X4_text X w dX4_readRemainder_49 ?_
      refine q_cPV X w (c_X7_number l D t b n σ0 A_27 B P ) v_X4_124 (k := 1) rfl rfl rfl ⟨Nat.le_of_ble_eq_true rfl, Nat.le_of_ble_eq_true rfl⟩ rfl hl.1 (Nat.le_of_ble_eq_true rfl) dX4_readRemainder_52 ⟨Nat.zero_le _, Nat.zero_le _⟩ (fun r_52 z_52 => ?_)
      have m_52 : r_52.toInt = (num T po).1 := (congrArg Int32.toInt (z_52.trans ((z_27.1 4 (by decide)).trans rfl))).trans n_4
      have i_52 : r_52 = i3 (num T po).1 := by rw [← m_52]; exact (i3_i _).symm
      refine lv_ishl hx hb dX4_readRemainder_55 ?_
      refine lv_ior hx hb dX4_readRemainder_56 ?_
      refine kp_X4_remainders (v := ((A_27 14) ||| (1 <<< (r_52 &&& 31)))) X w dX4_readRemainder_57 (fun H locs w => ?_)
      refine lv_iconst (v := 1) hx hb dX4_readRemainder_60 (by decide) ?_
      exact q_cret (post := (fun z n1 σ1 => n1 = n ∧ ∃ A1 B1, σ1 = cS t b σ0 A1 B1 P ∧ B1 = B ∧ kpI [3, 4, 5, 14] A A1 ∧ z = bI (decide ((sR1 T po q g).1 = true)) ∧ (A1 3).toInt = (sR1 T po q g).2.1 ∧ ((A 3).toInt ≤ (A1 3).toInt ∧ (A1 3).toInt ≤ (A 2).toInt) ∧ ((sR1 T po q g).1 = true → rdC (sR1 T po q g).2.2.1 (sR1 T po q g).2.2.2 A1 B))) X w dX4_readRemainder_61 (rfl) ⟨rfl, _, _, rfl, rfl, by have e : sR1 T po q g = (true, (num T po).2, sRem1 q (num T po).1, g || decide ((q 28).toInt ≤ (num T po).1)) := (by unfold sR1; rw [if_pos k_7]); rw [e]; exact ⟨(kpI.up KI_27 (by decide)), rfl, ((congrArg Int32.toInt ((z_27.1 3 (by decide)).trans rfl)).trans p_4), (by have h3 : ((va_up A_27 14 ((A_27 14) ||| (1 <<< (r_52 &&& 31)))) 3).toInt = (num T po).2 := ((congrArg Int32.toInt ((z_27.1 3 (by decide)).trans rfl)).trans p_4); rw [h3, h_3]; exact Q_4), fun _ => rdC_rem h_5 h_6 (kpI.up KI_27 (by decide)) rfl v_4 (by rw [if_pos (show (num T po).1 < 30 by omega), ← i_52]; exact congrArg (· ||| (1 <<< (r_52 &&& 31))) ((z_27.1 14 (by decide)).trans ((z_4.1 14 (by decide)).trans rfl))) (by rw [← h_5.2.2.2.2.2.2.1.1 h_6]; exact f_27)⟩⟩
  · skip
    rw [b_4] at c_7
    have k_7 := bI_f.mp c_7
    have p_4 : (A_4 3).toInt = po := q_4.trans (congrArg Prod.snd (numF_e (v := 0) 6 k_7))
    have Q_4 : po ≤ po ∧ po ≤ (A 2).toInt := by have h := Q_4; rw [show (num T po).2 = po from q_4.symm.trans p_4] at h; exact h
    refine lv_iconst (v := 0) hx hb dX4_readRemainder_10 (by decide) ?_
    exact q_cret (post := (fun z n1 σ1 => n1 = n ∧ ∃ A1 B1, σ1 = cS t b σ0 A1 B1 P ∧ B1 = B ∧ kpI [3, 4, 5, 14] A A1 ∧ z = bI (decide ((sR1 T po q g).1 = true)) ∧ (A1 3).toInt = (sR1 T po q g).2.1 ∧ ((A 3).toInt ≤ (A1 3).toInt ∧ (A1 3).toInt ≤ (A 2).toInt) ∧ ((sR1 T po q g).1 = true → rdC (sR1 T po q g).2.2.1 (sR1 T po q g).2.2.2 A1 B))) X w dX4_readRemainder_11 (rfl) ⟨rfl, _, _, rfl, rfl, by have e : (sR1 T po q g).1 = false ∧ (sR1 T po q g).2.1 = po := (by unfold sR1; rw [if_neg k_7]; exact ⟨rfl, rfl⟩); exact ⟨KI_4, bI_0 (by rw [e.1]; decide), ((congrArg Int32.toInt rfl).trans p_4).trans e.2.symm, (by have h3 : (A_4 3).toInt = po := ((congrArg Int32.toInt rfl).trans p_4); rw [h3, h_3]; exact Q_4), fun h => absurd (h.symm.trans e.1) (by decide)⟩⟩

set_option maxHeartbeats 2000000 in
set_option maxRecDepth 100000 in
theorem c_X4_readDivisor (l : Launch) (D : va_G) (t : Nat → ClassId) (b n : Nat) (σ0 : qM) (A : Nat → Int32) (B : Nat → Nat → Int32) (P : Nat → Nat → Option Nat) (T : Int → Int) (po : Int) (h_1 : T = txC A B) (h_2 : okTx A B) (h_3 : (A 3).toInt = po) (h_4 : 0 ≤ po ∧ po ≤ (A 2).toInt) (h_5 : 0 ≤ (A 13).toInt ∧ (A 13).toInt < 4) (h_6 : 1 ≤ (A 15).toInt ∧ (A 15).toInt ≤ 1000) : kC l yX4_readDivisor cX4_readDivisor 3 (some .boolean) 3 D t b n σ0 A B P [.ref (b + 3)] (fun z A1 B1 => kpI [3, 4, 5, 13, 15] A A1 ∧ kpR [2, 3] B B1 ∧ z = bI (decide ((sD1 T po).1 = true)) ∧ (A1 3).toInt = (sD1 T po).2 ∧ ((A 3).toInt ≤ (A1 3).toInt ∧ (A1 3).toInt ≤ (A 2).toInt) ∧ ((sD1 T po).1 = true → (A1 13).toInt = (A 13).toInt + 1 ∧ B1 = va_up (va_up B 2 (upd (B 2) (A 13).toInt.toNat (i3 (num T po).1))) 3 (upd (B 3) (A 13).toInt.toNat (bI (decide (T (num T po).2 = 43)))) ∧ A1 5 = (if (1 ≤ (num T po).1 ∧ (num T po).1 ≤ 400) ∧ lcmI (A 15).toInt (num T po).1 ≤ 1000 then A 5 else 0) ∧ (A1 15).toInt = (if (1 ≤ (num T po).1 ∧ (num T po).1 ≤ 400) ∧ lcmI (A 15).toInt (num T po).1 ≤ 1000 then lcmI (A 15).toInt (num T po).1 else (A 15).toInt))) := by
  refine qC.of (by decide +kernel) (Nat.le_of_ble_eq_true rfl) (fun p e s m args below meth c X w ls hl => ?_)
  have hx := X.1
  have hb := X.2.1
  have hl : lv_has ls 3 [(0, .ref (b + 3))] := hl
  refine lv_aload_n hx hb dX4_readDivisor_0 rfl (lv_at hl 0 rfl) ?_
  refine kg_X4_text X w dX4_readDivisor_1 ?_
  refine kk_cCI X w (c_X7_readNumber l D t b n σ0 A B P T (by exact h_1.trans (txC_cg ((kpI.rf (J := [3, 4, 5, 13, 15]) (I := A)) 2 (by decide)) ((kpR.rf (J := [2, 3]) (R := B)) 0 (by decide))).symm) (by exact h_2.cg ((kpI.rf (J := [3, 4, 5, 13, 15]) (I := A)) 2 (by decide)) ((kpR.rf (J := [2, 3]) (R := B)) 0 (by decide))) (by have h2 : (A 2).toInt = (A 2).toInt := (congrArg Int32.toInt ((kpI.rf (J := [3, 4, 5, 13, 15]) (I := A)) 2 (by decide))); have h3 : (A 3).toInt = po := ((congrArg Int32.toInt rfl).trans h_3); rw [h2, h3]; exact ⟨Int.le_trans h_4.1 (And.intro (Int.le_refl po) h_4.2).1, (And.intro (Int.le_refl po) h_4.2).2⟩)) v_X4_121 rfl rfl rfl ⟨Nat.le_of_ble_eq_true rfl, Nat.le_of_ble_eq_true rfl⟩ rfl hl.1 (Nat.le_of_ble_eq_true rfl) dX4_readDivisor_4 ⟨Nat.zero_le _, Nat.zero_le _⟩ (fun r_4 A_4 H locs z_4 w => ?_)
  have KI_4 : kpI [3, 4, 5, 13, 15] A A_4 := kpI.tr (J := [3, 4, 5, 13, 15]) (kpI.rf (J := [3, 4, 5, 13, 15]) (I := A)) z_4.1 (by decide) (by decide)
  have q_4 : (A_4 3).toInt = (num T po).2 := by have h : (A_4 3).toInt = (num T ((A 3).toInt)).2 := z_4.2.2.1; rw [show (A 3).toInt = po from ((congrArg Int32.toInt rfl).trans h_3)] at h; exact h
  have n_4 : (A_4 4).toInt = (num T po).1 := by have h : (A_4 4).toInt = (num T ((A 3).toInt)).1 := z_4.2.2.2.1; rw [show (A 3).toInt = po from ((congrArg Int32.toInt rfl).trans h_3)] at h; exact h
  have b_4 : r_4 = bI (decide (dg T po)) := by have h : r_4 = bI (decide (dg T ((A 3).toInt))) := z_4.2.1; rw [show (A 3).toInt = po from ((congrArg Int32.toInt rfl).trans h_3)] at h; exact h
  have v_4 := num_v (T := T) po
  have Q_4 : po ≤ (num T po).2 ∧ (num T po).2 ≤ (A 2).toInt := ⟨(by have h := (And.intro (Int.le_refl po) h_4.2); have h2 := num_ge (T := T) po; omega), (by rw [← q_4]; exact Int.le_trans z_4.2.2.2.2 (Int.le_of_eq (congrArg Int32.toInt ((kpI.rf (J := [3, 4, 5, 13, 15]) (I := A)) 2 (by decide)))))⟩
  refine lv_if_ne (tgt := 12) hx hb dX4_readDivisor_7 (by decide) (fun c_7 => ?_) (fun c_7 => ?_)
  · skip
    rw [b_4] at c_7
    have k_7 := bI_t.mp c_7
    have p_4 : (A_4 3).toInt = (num T po).2 := q_4
    skip
    refine lv_aload_n hx hb dX4_readDivisor_12 rfl (lv_at hl 0 rfl) ?_
    refine kg_X4_text X w dX4_readDivisor_13 ?_
    refine q_cPV X w (c_X7_number l D t b n σ0 A_4 B P ) v_X4_124 (k := 1) rfl rfl rfl ⟨Nat.le_of_ble_eq_true rfl, Nat.le_of_ble_eq_true rfl⟩ rfl hl.1 (Nat.le_of_ble_eq_true rfl) dX4_readDivisor_16 ⟨Nat.zero_le _, Nat.zero_le _⟩ (fun r_16 z_16 => ?_)
    have m_16 : r_16.toInt = (num T po).1 := (congrArg Int32.toInt (z_16.trans rfl)).trans n_4
    have i_16 : r_16 = i3 (num T po).1 := by rw [← m_16]; exact (i3_i _).symm
    refine lv_istore_n (lv' := [(1, .int r_16), (0, .ref (b + 3))]) hx hb dX4_readDivisor_19 rfl hl (by decide) rfl (fun ls hl => ?_)
    refine lv_aload_n hx hb dX4_readDivisor_20 rfl (lv_at hl 1 rfl) ?_
    refine kg_X4_text X w dX4_readDivisor_21 ?_
    refine lv_bipush (v := 43) hx hb dX4_readDivisor_24 (by decide) ?_
    refine kk_cCI X w (c_X7_accept l D t b n σ0 A_4 B P T 43 43 (show (43 : Int32).toInt = 43 from rfl) (by exact h_1.trans (txC_cg (KI_4 2 (by decide)) ((kpR.rf (J := [2, 3]) (R := B)) 0 (by decide))).symm) (by exact h_2.cg (KI_4 2 (by decide)) ((kpR.rf (J := [2, 3]) (R := B)) 0 (by decide))) (by have h2 : (A_4 2).toInt = (A 2).toInt := (congrArg Int32.toInt (KI_4 2 (by decide))); have h3 : (A_4 3).toInt = (num T po).2 := ((congrArg Int32.toInt rfl).trans p_4); rw [h2, h3]; exact ⟨Int.le_trans h_4.1 Q_4.1, Q_4.2⟩) (by first | assumption | omega)) v_X4_114 rfl rfl rfl ⟨Nat.le_of_ble_eq_true rfl, Nat.le_of_ble_eq_true rfl⟩ rfl hl.1 (Nat.le_of_ble_eq_true rfl) dX4_readDivisor_26 ⟨Nat.zero_le _, Nat.zero_le _⟩ (fun r_26 A_26 H locs z_26 w => ?_)
    have KI_26 : kpI [3, 4, 5, 13, 15] A A_26 := kpI.tr (J := [3, 4, 5, 13, 15]) KI_4 z_26.1 (by decide) (by decide)
    have q_26 : (A_26 3).toInt = (if T ((num T po).2) = 43 then ((num T po).2) + 1 else ((num T po).2)) := by have h : (A_26 3).toInt = (if T ((A_4 3).toInt) = 43 then ((A_4 3).toInt) + 1 else ((A_4 3).toInt)) := z_26.2.2.1; rw [show (A_4 3).toInt = (num T po).2 from ((congrArg Int32.toInt rfl).trans p_4)] at h; exact h
    have b_26 : r_26 = bI (decide (T ((num T po).2) = 43)) := by have h : r_26 = bI (decide (T ((A_4 3).toInt) = 43)) := z_26.2.1; rw [show (A_4 3).toInt = (num T po).2 from ((congrArg Int32.toInt rfl).trans p_4)] at h; exact h
    have Q_26 : po ≤ (if T ((num T po).2) = 43 then ((num T po).2) + 1 else ((num T po).2)) ∧ (if T ((num T po).2) = 43 then ((num T po).2) + 1 else ((num T po).2)) ≤ (A 2).toInt := ⟨(by have h := Q_4; split <;> omega), (by rw [← q_26]; exact Int.le_trans z_26.2.2.2 (Int.le_of_eq (congrArg Int32.toInt (KI_4 2 (by decide)))))⟩
    refine lv_istore_n (lv' := [(2, .int r_26), (1, .int r_16), (0, .ref (b + 3))]) hx hb dX4_readDivisor_29 rfl hl (by decide) rfl (fun ls hl => ?_)
    refine lv_iload_n hx hb dX4_readDivisor_30 rfl (lv_at hl 0 rfl) ?_
    refine lv_if_ne (tgt := 48) hx hb dX4_readDivisor_31 (by decide) (fun c_31 => ?_) (fun c_31 => ?_)
    · skip
      rw [b_26] at c_31
      have k_31 := bI_t.mp c_31
      have p_26 : (A_26 3).toInt = ((num T po).2) + 1 := q_26.trans (if_pos k_31)
      have Q_26 : po ≤ ((num T po).2) + 1 ∧ ((num T po).2) + 1 ≤ (A 2).toInt := by have h := Q_26; rw [show (if T ((num T po).2) = 43 then ((num T po).2) + 1 else ((num T po).2)) = ((num T po).2) + 1 from q_26.symm.trans p_26] at h; exact h
      refine lv_aload_n hx hb dX4_readDivisor_48 rfl (lv_at hl 2 rfl) ?_
      refine kg_X4_divisorCount X w dX4_readDivisor_49 ?_
      refine lv_if_lt (tgt := 109) hx hb dX4_readDivisor_52 (by decide) (fun c_52 => ?_) (fun c_52 => ?_)
      · skip
        have k_52 : ((A 13).toInt) < 0 := (g_lt ((congrArg Int32.toInt (z_26.1 13 (by decide))).trans ((congrArg Int32.toInt (z_4.1 13 (by decide))).trans rfl)) (show (0 : Int32).toInt = 0 from rfl)).mp c_52
        exfalso; omega
      · skip
        have k_52 : ¬ (((A 13).toInt) < 0) := fun h => c_52 ((g_lt ((congrArg Int32.toInt (z_26.1 13 (by decide))).trans ((congrArg Int32.toInt (z_4.1 13 (by decide))).trans rfl)) (show (0 : Int32).toInt = 0 from rfl)).mpr h)
        refine lv_aload_n hx hb dX4_readDivisor_55 rfl (lv_at hl 2 rfl) ?_
        refine kg_X4_divisorCount X w dX4_readDivisor_56 ?_
        refine lv_aload_n hx hb dX4_readDivisor_59 rfl (lv_at hl 2 rfl) ?_
        refine kg_X4_divisors X w dX4_readDivisor_60 ?_
        refine kn_2 X w dX4_readDivisor_63 ?_
        refine lv_icmp_ge (tgt := 109) hx hb dX4_readDivisor_64 (by decide) (fun c_64 => ?_) (fun c_64 => ?_)
        · skip
          have k_64 : 4 ≤ ((A 13).toInt) := (g_le (show (4 : Int32).toInt = 4 from rfl) ((congrArg Int32.toInt (z_26.1 13 (by decide))).trans ((congrArg Int32.toInt (z_4.1 13 (by decide))).trans rfl))).mp c_64
          exfalso; omega
        · skip
          have k_64 : ¬ (4 ≤ ((A 13).toInt)) := fun h => c_64 ((g_le (show (4 : Int32).toInt = 4 from rfl) ((congrArg Int32.toInt (z_26.1 13 (by decide))).trans ((congrArg Int32.toInt (z_4.1 13 (by decide))).trans rfl))).mpr h)
          refine lv_aload_n hx hb dX4_readDivisor_67 rfl (lv_at hl 2 rfl) ?_
          refine kg_X4_divisorCount X w dX4_readDivisor_68 ?_
          refine lv_aload_n hx hb dX4_readDivisor_71 rfl (lv_at hl 2 rfl) ?_
          refine kg_X4_signs X w dX4_readDivisor_72 ?_
          refine kn_3 X w dX4_readDivisor_75 ?_
          refine lv_icmp_ge (tgt := 109) hx hb dX4_readDivisor_76 (by decide) (fun c_76 => ?_) (fun c_76 => ?_)
          · skip
            have k_76 : 4 ≤ ((A 13).toInt) := (g_le (show (4 : Int32).toInt = 4 from rfl) ((congrArg Int32.toInt (z_26.1 13 (by decide))).trans ((congrArg Int32.toInt (z_4.1 13 (by decide))).trans rfl))).mp c_76
            exfalso; omega
          · skip
            have k_76 : ¬ (4 ≤ ((A 13).toInt)) := fun h => c_76 ((g_le (show (4 : Int32).toInt = 4 from rfl) ((congrArg Int32.toInt (z_26.1 13 (by decide))).trans ((congrArg Int32.toInt (z_4.1 13 (by decide))).trans rfl))).mpr h)
            refine lv_aload_n hx hb dX4_readDivisor_79 rfl (lv_at hl 2 rfl) ?_
            refine kg_X4_divisors X w dX4_readDivisor_80 ?_
            refine lv_aload_n hx hb dX4_readDivisor_83 rfl (lv_at hl 2 rfl) ?_
            refine kg_X4_divisorCount X w dX4_readDivisor_84 ?_
            refine lv_iload_n hx hb dX4_readDivisor_87 rfl (lv_at hl 1 rfl) ?_
            refine ks_2 (x := r_16) X w (g_in ((congrArg Int32.toInt (z_26.1 13 (by decide))).trans ((congrArg Int32.toInt (z_4.1 13 (by decide))).trans rfl)) (by omega)) dX4_readDivisor_88 (fun H locs w => ?_)
            rw [g_tn (show (A_26 13).toInt = (A 13).toInt from ((congrArg Int32.toInt (z_26.1 13 (by decide))).trans ((congrArg Int32.toInt (z_4.1 13 (by decide))).trans rfl)))] at w
            refine lv_aload_n hx hb dX4_readDivisor_89 rfl (lv_at hl 2 rfl) ?_
            refine kg_X4_signs X w dX4_readDivisor_90 ?_
            refine lv_aload_n hx hb dX4_readDivisor_93 rfl (lv_at hl 2 rfl) ?_
            refine kg_X4_divisorCount X w dX4_readDivisor_94 ?_
            refine lv_iload_n hx hb dX4_readDivisor_97 rfl (lv_at hl 0 rfl) ?_
            refine ks_3 (x := r_26) X w (g_in ((congrArg Int32.toInt (z_26.1 13 (by decide))).trans ((congrArg Int32.toInt (z_4.1 13 (by decide))).trans rfl)) (by omega)) (by rw [b_26]; exact bI_nb _) dX4_readDivisor_98 (fun H locs w => ?_)
            rw [g_tn (show (A_26 13).toInt = (A 13).toInt from ((congrArg Int32.toInt (z_26.1 13 (by decide))).trans ((congrArg Int32.toInt (z_4.1 13 (by decide))).trans rfl)))] at w
            refine lv_aload_n hx hb dX4_readDivisor_99 rfl (lv_at hl 2 rfl) ?_
            refine lv_dup hx hb dX4_readDivisor_100 rfl ?_
            refine kg_X4_divisorCount X w dX4_readDivisor_101 ?_
            refine lv_iconst (v := 1) hx hb dX4_readDivisor_104 (by decide) ?_
            refine lv_iadd hx hb dX4_readDivisor_105 ?_
            refine lv_topi (fun x_105 e_105 => ?_)
            have p_105 : x_105.toInt = (((A 13).toInt) + 1) := by rw [e_105]; exact t_add ((congrArg Int32.toInt (z_26.1 13 (by decide))).trans ((congrArg Int32.toInt (z_4.1 13 (by decide))).trans rfl)) (show (1 : Int32).toInt = 1 from rfl) (by omega) (by omega)
            refine kp_X4_divisorCount (v := x_105) X w dX4_readDivisor_106 (fun H locs w => ?_)
            refine lv_aload_n hx hb dX4_readDivisor_109 rfl (lv_at hl 2 rfl) ?_
            refine lv_iload_n hx hb dX4_readDivisor_110 rfl (lv_at hl 1 rfl) ?_
            refine kk_cVI X w (c_X4_widenPeriod l D t b n σ0 (va_up A_26 13 x_105) (va_up (va_up B 2 (upd (B 2) ((A 13).toInt).toNat r_16)) 3 (upd ((va_up B 2 (upd (B 2) ((A 13).toInt).toNat r_16)) 3) ((A 13).toInt).toNat r_26)) P r_16 ((num T po).1) m_16 (by have h : (va_up A_26 13 x_105) 15 = A 15 := ((z_26.1 15 (by decide)).trans ((z_4.1 15 (by decide)).trans rfl)); rw [h]; exact h_6)) v_X4_155 rfl rfl rfl ⟨Nat.le_of_ble_eq_true rfl, Nat.le_of_ble_eq_true rfl⟩ rfl hl.1 (Nat.le_of_ble_eq_true rfl) dX4_readDivisor_111 ⟨Nat.zero_le _, Nat.zero_le _⟩ (fun A_111 H locs z_111 w => ?_)
            have KI_111 : kpI [3, 4, 5, 13, 15] A A_111 := kpI.tr (J := [3, 4, 5, 13, 15]) (kpI.up KI_26 (by decide)) z_111.1 (by decide) (by decide)
            have f_111 : A_111 5 = (if (1 ≤ ((num T po).1) ∧ ((num T po).1) ≤ 400) ∧ lcmI (A 15).toInt ((num T po).1) ≤ 1000 then A 5 else 0) := by have h : A_111 5 = (if (1 ≤ ((num T po).1) ∧ ((num T po).1) ≤ 400) ∧ lcmI ((va_up A_26 13 x_105) 15).toInt ((num T po).1) ≤ 1000 then (va_up A_26 13 x_105) 5 else 0) := z_111.2.1; rw [show (va_up A_26 13 x_105) 5 = A 5 from ((z_26.1 5 (by decide)).trans ((z_4.1 5 (by decide)).trans rfl)), show (va_up A_26 13 x_105) 15 = A 15 from ((z_26.1 15 (by decide)).trans ((z_4.1 15 (by decide)).trans rfl))] at h; exact h
            have g_111 : (A_111 15).toInt = (if (1 ≤ ((num T po).1) ∧ ((num T po).1) ≤ 400) ∧ lcmI (A 15).toInt ((num T po).1) ≤ 1000 then lcmI (A 15).toInt ((num T po).1) else (A 15).toInt) := by have h : (A_111 15).toInt = (if (1 ≤ ((num T po).1) ∧ ((num T po).1) ≤ 400) ∧ lcmI ((va_up A_26 13 x_105) 15).toInt ((num T po).1) ≤ 1000 then lcmI ((va_up A_26 13 x_105) 15).toInt ((num T po).1) else ((va_up A_26 13 x_105) 15).toInt) := z_111.2.2; rw [show (va_up A_26 13 x_105) 15 = A 15 from ((z_26.1 15 (by decide)).trans ((z_4.1 15 (by decide)).trans rfl))] at h; exact h
            refine lv_iconst (v := 1) hx hb dX4_readDivisor_114 (by decide) ?_
            exact q_cret (post := (fun z n1 σ1 => n1 = n ∧ ∃ A1 B1, σ1 = cS t b σ0 A1 B1 P ∧ kpI [3, 4, 5, 13, 15] A A1 ∧ kpR [2, 3] B B1 ∧ z = bI (decide ((sD1 T po).1 = true)) ∧ (A1 3).toInt = (sD1 T po).2 ∧ ((A 3).toInt ≤ (A1 3).toInt ∧ (A1 3).toInt ≤ (A 2).toInt) ∧ ((sD1 T po).1 = true → (A1 13).toInt = (A 13).toInt + 1 ∧ B1 = va_up (va_up B 2 (upd (B 2) (A 13).toInt.toNat (i3 (num T po).1))) 3 (upd (B 3) (A 13).toInt.toNat (bI (decide (T (num T po).2 = 43)))) ∧ A1 5 = (if (1 ≤ (num T po).1 ∧ (num T po).1 ≤ 400) ∧ lcmI (A 15).toInt (num T po).1 ≤ 1000 then A 5 else 0) ∧ (A1 15).toInt = (if (1 ≤ (num T po).1 ∧ (num T po).1 ≤ 400) ∧ lcmI (A 15).toInt (num T po).1 ≤ 1000 then lcmI (A 15).toInt (num T po).1 else (A 15).toInt)))) X w dX4_readDivisor_115 (rfl) ⟨rfl, _, _, rfl, by have e : sD1 T po = (true, ((num T po).2) + 1) := (by unfold sD1; rw [if_pos k_7, if_pos k_31]); rw [e]; exact ⟨KI_111, (kpR.up (kpR.up (kpR.rf (J := [2, 3]) (R := B)) (by decide)) (by decide)), rfl, ((congrArg Int32.toInt ((z_111.1 3 (by decide)).trans rfl)).trans p_26), (by have h3 : (A_111 3).toInt = ((num T po).2) + 1 := ((congrArg Int32.toInt ((z_111.1 3 (by decide)).trans rfl)).trans p_26); rw [h3, h_3]; exact Q_26), fun _ => ⟨(congrArg Int32.toInt ((z_111.1 13 (by decide)).trans rfl)).trans p_105, (by rw [← i_16, ← b_26]; rfl), f_111, g_111⟩⟩⟩
    · skip
      rw [b_26] at c_31
      have k_31 := bI_f.mp c_31
      have p_26 : (A_26 3).toInt = (num T po).2 := q_26.trans (if_neg k_31)
      have Q_26 : po ≤ (num T po).2 ∧ (num T po).2 ≤ (A 2).toInt := by have h := Q_26; rw [show (if T ((num T po).2) = 43 then ((num T po).2) + 1 else ((num T po).2)) = (num T po).2 from q_26.symm.trans p_26] at h; exact h
      refine lv_aload_n hx hb dX4_readDivisor_34 rfl (lv_at hl 2 rfl) ?_
      refine kg_X4_text X w dX4_readDivisor_35 ?_
      refine lv_bipush (v := 45) hx hb dX4_readDivisor_38 (by decide) ?_
      refine kk_cCI X w (c_X7_accept l D t b n σ0 A_26 B P T 45 45 (show (45 : Int32).toInt = 45 from rfl) (by exact h_1.trans (txC_cg (KI_26 2 (by decide)) ((kpR.rf (J := [2, 3]) (R := B)) 0 (by decide))).symm) (by exact h_2.cg (KI_26 2 (by decide)) ((kpR.rf (J := [2, 3]) (R := B)) 0 (by decide))) (by have h2 : (A_26 2).toInt = (A 2).toInt := (congrArg Int32.toInt (KI_26 2 (by decide))); have h3 : (A_26 3).toInt = (num T po).2 := ((congrArg Int32.toInt rfl).trans p_26); rw [h2, h3]; exact ⟨Int.le_trans h_4.1 Q_26.1, Q_26.2⟩) (by first | assumption | omega)) v_X4_114 rfl rfl rfl ⟨Nat.le_of_ble_eq_true rfl, Nat.le_of_ble_eq_true rfl⟩ rfl hl.1 (Nat.le_of_ble_eq_true rfl) dX4_readDivisor_40 ⟨Nat.zero_le _, Nat.zero_le _⟩ (fun r_40 A_40 H locs z_40 w => ?_)
      have KI_40 : kpI [3, 4, 5, 13, 15] A A_40 := kpI.tr (J := [3, 4, 5, 13, 15]) KI_26 z_40.1 (by decide) (by decide)
      have q_40 : (A_40 3).toInt = (if T ((num T po).2) = 45 then ((num T po).2) + 1 else ((num T po).2)) := by have h : (A_40 3).toInt = (if T ((A_26 3).toInt) = 45 then ((A_26 3).toInt) + 1 else ((A_26 3).toInt)) := z_40.2.2.1; rw [show (A_26 3).toInt = (num T po).2 from ((congrArg Int32.toInt rfl).trans p_26)] at h; exact h
      have b_40 : r_40 = bI (decide (T ((num T po).2) = 45)) := by have h : r_40 = bI (decide (T ((A_26 3).toInt) = 45)) := z_40.2.1; rw [show (A_26 3).toInt = (num T po).2 from ((congrArg Int32.toInt rfl).trans p_26)] at h; exact h
      have Q_40 : po ≤ (if T ((num T po).2) = 45 then ((num T po).2) + 1 else ((num T po).2)) ∧ (if T ((num T po).2) = 45 then ((num T po).2) + 1 else ((num T po).2)) ≤ (A 2).toInt := ⟨(by have h := Q_26; split <;> omega), (by rw [← q_40]; exact Int.le_trans z_40.2.2.2 (Int.le_of_eq (congrArg Int32.toInt (KI_26 2 (by decide)))))⟩
      refine lv_if_ne (tgt := 48) hx hb dX4_readDivisor_43 (by decide) (fun c_43 => ?_) (fun c_43 => ?_)
      · skip
        rw [b_40] at c_43
        have k_43 := bI_t.mp c_43
        have p_40 : (A_40 3).toInt = ((num T po).2) + 1 := q_40.trans (if_pos k_43)
        have Q_40 : po ≤ ((num T po).2) + 1 ∧ ((num T po).2) + 1 ≤ (A 2).toInt := by have h := Q_40; rw [show (if T ((num T po).2) = 45 then ((num T po).2) + 1 else ((num T po).2)) = ((num T po).2) + 1 from q_40.symm.trans p_40] at h; exact h
        refine lv_aload_n hx hb dX4_readDivisor_48 rfl (lv_at hl 2 rfl) ?_
        refine kg_X4_divisorCount X w dX4_readDivisor_49 ?_
        refine lv_if_lt (tgt := 109) hx hb dX4_readDivisor_52 (by decide) (fun c_52 => ?_) (fun c_52 => ?_)
        · skip
          have k_52 : ((A 13).toInt) < 0 := (g_lt ((congrArg Int32.toInt (z_40.1 13 (by decide))).trans ((congrArg Int32.toInt (z_26.1 13 (by decide))).trans ((congrArg Int32.toInt (z_4.1 13 (by decide))).trans rfl))) (show (0 : Int32).toInt = 0 from rfl)).mp c_52
          exfalso; omega
        · skip
          have k_52 : ¬ (((A 13).toInt) < 0) := fun h => c_52 ((g_lt ((congrArg Int32.toInt (z_40.1 13 (by decide))).trans ((congrArg Int32.toInt (z_26.1 13 (by decide))).trans ((congrArg Int32.toInt (z_4.1 13 (by decide))).trans rfl))) (show (0 : Int32).toInt = 0 from rfl)).mpr h)
          refine lv_aload_n hx hb dX4_readDivisor_55 rfl (lv_at hl 2 rfl) ?_
          refine kg_X4_divisorCount X w dX4_readDivisor_56 ?_
          refine lv_aload_n hx hb dX4_readDivisor_59 rfl (lv_at hl 2 rfl) ?_
          refine kg_X4_divisors X w dX4_readDivisor_60 ?_
          refine kn_2 X w dX4_readDivisor_63 ?_
          refine lv_icmp_ge (tgt := 109) hx hb dX4_readDivisor_64 (by decide) (fun c_64 => ?_) (fun c_64 => ?_)
          · skip
            have k_64 : 4 ≤ ((A 13).toInt) := (g_le (show (4 : Int32).toInt = 4 from rfl) ((congrArg Int32.toInt (z_40.1 13 (by decide))).trans ((congrArg Int32.toInt (z_26.1 13 (by decide))).trans ((congrArg Int32.toInt (z_4.1 13 (by decide))).trans rfl)))).mp c_64
            exfalso; omega
          · skip
            have k_64 : ¬ (4 ≤ ((A 13).toInt)) := fun h => c_64 ((g_le (show (4 : Int32).toInt = 4 from rfl) ((congrArg Int32.toInt (z_40.1 13 (by decide))).trans ((congrArg Int32.toInt (z_26.1 13 (by decide))).trans ((congrArg Int32.toInt (z_4.1 13 (by decide))).trans rfl)))).mpr h)
            refine lv_aload_n hx hb dX4_readDivisor_67 rfl (lv_at hl 2 rfl) ?_
            refine kg_X4_divisorCount X w dX4_readDivisor_68 ?_
            refine lv_aload_n hx hb dX4_readDivisor_71 rfl (lv_at hl 2 rfl) ?_
            refine kg_X4_signs X w dX4_readDivisor_72 ?_
            refine kn_3 X w dX4_readDivisor_75 ?_
            refine lv_icmp_ge (tgt := 109) hx hb dX4_readDivisor_76 (by decide) (fun c_76 => ?_) (fun c_76 => ?_)
            · skip
              have k_76 : 4 ≤ ((A 13).toInt) := (g_le (show (4 : Int32).toInt = 4 from rfl) ((congrArg Int32.toInt (z_40.1 13 (by decide))).trans ((congrArg Int32.toInt (z_26.1 13 (by decide))).trans ((congrArg Int32.toInt (z_4.1 13 (by decide))).trans rfl)))).mp c_76
              exfalso; omega
            · skip
              have k_76 : ¬ (4 ≤ ((A 13).toInt)) := fun h => c_76 ((g_le (show (4 : Int32).toInt = 4 from rfl) ((congrArg Int32.toInt (z_40.1 13 (by decide))).trans ((congrArg Int32.toInt (z_26.1 13 (by decide))).trans ((congrArg Int32.toInt (z_4.1 13 (by decide))).trans rfl)))).mpr h)
              refine lv_aload_n hx hb dX4_readDivisor_79 rfl (lv_at hl 2 rfl) ?_
              refine kg_X4_divisors X w dX4_readDivisor_80 ?_
              refine lv_aload_n hx hb dX4_readDivisor_83 rfl (lv_at hl 2 rfl) ?_
              refine kg_X4_divisorCount X w dX4_readDivisor_84 ?_
              refine lv_iload_n hx hb dX4_readDivisor_87 rfl (lv_at hl 1 rfl) ?_
              refine ks_2 (x := r_16) X w (g_in ((congrArg Int32.toInt (z_40.1 13 (by decide))).trans ((congrArg Int32.toInt (z_26.1 13 (by decide))).trans ((congrArg Int32.toInt (z_4.1 13 (by decide))).trans rfl))) (by omega)) dX4_readDivisor_88 (fun H locs w => ?_)
              rw [g_tn (show (A_40 13).toInt = (A 13).toInt from ((congrArg Int32.toInt (z_40.1 13 (by decide))).trans ((congrArg Int32.toInt (z_26.1 13 (by decide))).trans ((congrArg Int32.toInt (z_4.1 13 (by decide))).trans rfl))))] at w
              refine lv_aload_n hx hb dX4_readDivisor_89 rfl (lv_at hl 2 rfl) ?_
              refine kg_X4_signs X w dX4_readDivisor_90 ?_
              refine lv_aload_n hx hb dX4_readDivisor_93 rfl (lv_at hl 2 rfl) ?_
              refine kg_X4_divisorCount X w dX4_readDivisor_94 ?_
              refine lv_iload_n hx hb dX4_readDivisor_97 rfl (lv_at hl 0 rfl) ?_
              refine ks_3 (x := r_26) X w (g_in ((congrArg Int32.toInt (z_40.1 13 (by decide))).trans ((congrArg Int32.toInt (z_26.1 13 (by decide))).trans ((congrArg Int32.toInt (z_4.1 13 (by decide))).trans rfl))) (by omega)) (by rw [b_26]; exact bI_nb _) dX4_readDivisor_98 (fun H locs w => ?_)
              rw [g_tn (show (A_40 13).toInt = (A 13).toInt from ((congrArg Int32.toInt (z_40.1 13 (by decide))).trans ((congrArg Int32.toInt (z_26.1 13 (by decide))).trans ((congrArg Int32.toInt (z_4.1 13 (by decide))).trans rfl))))] at w
              refine lv_aload_n hx hb dX4_readDivisor_99 rfl (lv_at hl 2 rfl) ?_
              refine lv_dup hx hb dX4_readDivisor_100 rfl ?_
              refine kg_X4_divisorCount X w dX4_readDivisor_101 ?_
              refine lv_iconst (v := 1) hx hb dX4_readDivisor_104 (by decide) ?_
              refine lv_iadd hx hb dX4_readDivisor_105 ?_
              refine lv_topi (fun x_105 e_105 => ?_)
              have p_105 : x_105.toInt = (((A 13).toInt) + 1) := by rw [e_105]; exact t_add ((congrArg Int32.toInt (z_40.1 13 (by decide))).trans ((congrArg Int32.toInt (z_26.1 13 (by decide))).trans ((congrArg Int32.toInt (z_4.1 13 (by decide))).trans rfl))) (show (1 : Int32).toInt = 1 from rfl) (by omega) (by omega)
              refine kp_X4_divisorCount (v := x_105) X w dX4_readDivisor_106 (fun H locs w => ?_)
              refine lv_aload_n hx hb dX4_readDivisor_109 rfl (lv_at hl 2 rfl) ?_
              refine lv_iload_n hx hb dX4_readDivisor_110 rfl (lv_at hl 1 rfl) ?_
              refine kk_cVI X w (c_X4_widenPeriod l D t b n σ0 (va_up A_40 13 x_105) (va_up (va_up B 2 (upd (B 2) ((A 13).toInt).toNat r_16)) 3 (upd ((va_up B 2 (upd (B 2) ((A 13).toInt).toNat r_16)) 3) ((A 13).toInt).toNat r_26)) P r_16 ((num T po).1) m_16 (by have h : (va_up A_40 13 x_105) 15 = A 15 := ((z_40.1 15 (by decide)).trans ((z_26.1 15 (by decide)).trans ((z_4.1 15 (by decide)).trans rfl))); rw [h]; exact h_6)) v_X4_155 rfl rfl rfl ⟨Nat.le_of_ble_eq_true rfl, Nat.le_of_ble_eq_true rfl⟩ rfl hl.1 (Nat.le_of_ble_eq_true rfl) dX4_readDivisor_111 ⟨Nat.zero_le _, Nat.zero_le _⟩ (fun A_111 H locs z_111 w => ?_)
              have KI_111 : kpI [3, 4, 5, 13, 15] A A_111 := kpI.tr (J := [3, 4, 5, 13, 15]) (kpI.up KI_40 (by decide)) z_111.1 (by decide) (by decide)
              have f_111 : A_111 5 = (if (1 ≤ ((num T po).1) ∧ ((num T po).1) ≤ 400) ∧ lcmI (A 15).toInt ((num T po).1) ≤ 1000 then A 5 else 0) := by have h : A_111 5 = (if (1 ≤ ((num T po).1) ∧ ((num T po).1) ≤ 400) ∧ lcmI ((va_up A_40 13 x_105) 15).toInt ((num T po).1) ≤ 1000 then (va_up A_40 13 x_105) 5 else 0) := z_111.2.1; rw [show (va_up A_40 13 x_105) 5 = A 5 from ((z_40.1 5 (by decide)).trans ((z_26.1 5 (by decide)).trans ((z_4.1 5 (by decide)).trans rfl))), show (va_up A_40 13 x_105) 15 = A 15 from ((z_40.1 15 (by decide)).trans ((z_26.1 15 (by decide)).trans ((z_4.1 15 (by decide)).trans rfl)))] at h; exact h
              have g_111 : (A_111 15).toInt = (if (1 ≤ ((num T po).1) ∧ ((num T po).1) ≤ 400) ∧ lcmI (A 15).toInt ((num T po).1) ≤ 1000 then lcmI (A 15).toInt ((num T po).1) else (A 15).toInt) := by have h : (A_111 15).toInt = (if (1 ≤ ((num T po).1) ∧ ((num T po).1) ≤ 400) ∧ lcmI ((va_up A_40 13 x_105) 15).toInt ((num T po).1) ≤ 1000 then lcmI ((va_up A_40 13 x_105) 15).toInt ((num T po).1) else ((va_up A_40 13 x_105) 15).toInt) := z_111.2.2; rw [show (va_up A_40 13 x_105) 15 = A 15 from ((z_40.1 15 (by decide)).trans ((z_26.1 15 (by decide)).trans ((z_4.1 15 (by decide)).trans rfl)))] at h; exact h
              refine lv_iconst (v := 1) hx hb dX4_readDivisor_114 (by decide) ?_
              exact q_cret (post := (fun z n1 σ1 => n1 = n ∧ ∃ A1 B1, σ1 = cS t b σ0 A1 B1 P ∧ kpI [3, 4, 5, 13, 15] A A1 ∧ kpR [2, 3] B B1 ∧ z = bI (decide ((sD1 T po).1 = true)) ∧ (A1 3).toInt = (sD1 T po).2 ∧ ((A 3).toInt ≤ (A1 3).toInt ∧ (A1 3).toInt ≤ (A 2).toInt) ∧ ((sD1 T po).1 = true → (A1 13).toInt = (A 13).toInt + 1 ∧ B1 = va_up (va_up B 2 (upd (B 2) (A 13).toInt.toNat (i3 (num T po).1))) 3 (upd (B 3) (A 13).toInt.toNat (bI (decide (T (num T po).2 = 43)))) ∧ A1 5 = (if (1 ≤ (num T po).1 ∧ (num T po).1 ≤ 400) ∧ lcmI (A 15).toInt (num T po).1 ≤ 1000 then A 5 else 0) ∧ (A1 15).toInt = (if (1 ≤ (num T po).1 ∧ (num T po).1 ≤ 400) ∧ lcmI (A 15).toInt (num T po).1 ≤ 1000 then lcmI (A 15).toInt (num T po).1 else (A 15).toInt)))) X w dX4_readDivisor_115 (rfl) ⟨rfl, _, _, rfl, by have e : sD1 T po = (true, ((num T po).2) + 1) := (by unfold sD1; rw [if_pos k_7, if_neg k_31, if_pos k_43]); rw [e]; exact ⟨KI_111, (kpR.up (kpR.up (kpR.rf (J := [2, 3]) (R := B)) (by decide)) (by decide)), rfl, ((congrArg Int32.toInt ((z_111.1 3 (by decide)).trans rfl)).trans p_40), (by have h3 : (A_111 3).toInt = ((num T po).2) + 1 := ((congrArg Int32.toInt ((z_111.1 3 (by decide)).trans rfl)).trans p_40); rw [h3, h_3]; exact Q_40), fun _ => ⟨(congrArg Int32.toInt ((z_111.1 13 (by decide)).trans rfl)).trans p_105, (by rw [← i_16, ← b_26]; rfl), f_111, g_111⟩⟩⟩
      · skip
        rw [b_40] at c_43
        have k_43 := bI_f.mp c_43
        have p_40 : (A_40 3).toInt = (num T po).2 := q_40.trans (if_neg k_43)
        have Q_40 : po ≤ (num T po).2 ∧ (num T po).2 ≤ (A 2).toInt := by have h := Q_40; rw [show (if T ((num T po).2) = 45 then ((num T po).2) + 1 else ((num T po).2)) = (num T po).2 from q_40.symm.trans p_40] at h; exact h
        refine lv_iconst (v := 0) hx hb dX4_readDivisor_46 (by decide) ?_
        exact q_cret (post := (fun z n1 σ1 => n1 = n ∧ ∃ A1 B1, σ1 = cS t b σ0 A1 B1 P ∧ kpI [3, 4, 5, 13, 15] A A1 ∧ kpR [2, 3] B B1 ∧ z = bI (decide ((sD1 T po).1 = true)) ∧ (A1 3).toInt = (sD1 T po).2 ∧ ((A 3).toInt ≤ (A1 3).toInt ∧ (A1 3).toInt ≤ (A 2).toInt) ∧ ((sD1 T po).1 = true → (A1 13).toInt = (A 13).toInt + 1 ∧ B1 = va_up (va_up B 2 (upd (B 2) (A 13).toInt.toNat (i3 (num T po).1))) 3 (upd (B 3) (A 13).toInt.toNat (bI (decide (T (num T po).2 = 43)))) ∧ A1 5 = (if (1 ≤ (num T po).1 ∧ (num T po).1 ≤ 400) ∧ lcmI (A 15).toInt (num T po).1 ≤ 1000 then A 5 else 0) ∧ (A1 15).toInt = (if (1 ≤ (num T po).1 ∧ (num T po).1 ≤ 400) ∧ lcmI (A 15).toInt (num T po).1 ≤ 1000 then lcmI (A 15).toInt (num T po).1 else (A 15).toInt)))) X w dX4_readDivisor_47 (rfl) ⟨rfl, _, _, rfl, by have e : sD1 T po = (false, (num T po).2) := (by unfold sD1; rw [if_pos k_7, if_neg k_31, if_neg k_43]); rw [e]; exact ⟨KI_40, (kpR.rf (J := [2, 3]) (R := B)), rfl, ((congrArg Int32.toInt rfl).trans p_40), (by have h3 : (A_40 3).toInt = (num T po).2 := ((congrArg Int32.toInt rfl).trans p_40); rw [h3, h_3]; exact Q_40), fun h => absurd (show false = true from h) (by decide)⟩⟩
  · skip
    rw [b_4] at c_7
    have k_7 := bI_f.mp c_7
    have p_4 : (A_4 3).toInt = po := q_4.trans (congrArg Prod.snd (numF_e (v := 0) 6 k_7))
    have Q_4 : po ≤ po ∧ po ≤ (A 2).toInt := by have h := Q_4; rw [show (num T po).2 = po from q_4.symm.trans p_4] at h; exact h
    refine lv_iconst (v := 0) hx hb dX4_readDivisor_10 (by decide) ?_
    exact q_cret (post := (fun z n1 σ1 => n1 = n ∧ ∃ A1 B1, σ1 = cS t b σ0 A1 B1 P ∧ kpI [3, 4, 5, 13, 15] A A1 ∧ kpR [2, 3] B B1 ∧ z = bI (decide ((sD1 T po).1 = true)) ∧ (A1 3).toInt = (sD1 T po).2 ∧ ((A 3).toInt ≤ (A1 3).toInt ∧ (A1 3).toInt ≤ (A 2).toInt) ∧ ((sD1 T po).1 = true → (A1 13).toInt = (A 13).toInt + 1 ∧ B1 = va_up (va_up B 2 (upd (B 2) (A 13).toInt.toNat (i3 (num T po).1))) 3 (upd (B 3) (A 13).toInt.toNat (bI (decide (T (num T po).2 = 43)))) ∧ A1 5 = (if (1 ≤ (num T po).1 ∧ (num T po).1 ≤ 400) ∧ lcmI (A 15).toInt (num T po).1 ≤ 1000 then A 5 else 0) ∧ (A1 15).toInt = (if (1 ≤ (num T po).1 ∧ (num T po).1 ≤ 400) ∧ lcmI (A 15).toInt (num T po).1 ≤ 1000 then lcmI (A 15).toInt (num T po).1 else (A 15).toInt)))) X w dX4_readDivisor_11 (rfl) ⟨rfl, _, _, rfl, by have e : sD1 T po = (false, po) := (by unfold sD1; rw [if_neg k_7]); rw [e]; exact ⟨KI_4, (kpR.rf (J := [2, 3]) (R := B)), rfl, ((congrArg Int32.toInt rfl).trans p_4), (by have h3 : (A_4 3).toInt = po := ((congrArg Int32.toInt rfl).trans p_4); rw [h3, h_3]; exact Q_4), fun h => absurd (show false = true from h) (by decide)⟩⟩
