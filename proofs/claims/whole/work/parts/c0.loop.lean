/-! THE LAW: its loop, its beginning -/
theorem cl_L_8 : Cond.classLink RL 8 RX8 ∈ TB := tb_1 32 (by decide +kernel) (by decide +kernel)
theorem cl_L_125 : Cond.classLink RL 125 RX9 ∈ TB := tb_7 64 (by decide +kernel) (by decide +kernel)
theorem is_X8 : Cond.instantiable RX8 10 ∈ TB := tb_1 33 (by decide +kernel) (by decide +kernel)
theorem is_X9 : Cond.instantiable RX9 32 ∈ TB := tb_7 65 (by decide +kernel) (by decide +kernel)
theorem ac_long : Cond.arrayClass .long ∈ TB := tb_9 133 (by decide +kernel) (by decide +kernel)
theorem ac_double : Cond.arrayClass .double ∈ TB := tb_9 134 (by decide +kernel) (by decide +kernel)
theorem ofn_L {L : Nat} (h : L ≤ 3584) : (Int32.ofNat L).toInt = (L : Int) := nI_toInt (by omega)
set_option maxHeartbeats 4000000 in
set_option maxRecDepth 100000 in
theorem law_turn {p : Program} {l : Launch} {e : Env} {s : State} {m : MethodId} {below : List Frame} {meth : Method} {c : Code} {H : Heap} {locs : List Loc} {cells slots : Nat} {Q : State → Prop} {r : Option FieldType} {D : va_G} {t : Nat → ClassId} {b n : Nat} {σ : qM} {sc L : Nat} {xs : Nat → Int32} {ls : Array Slot} {i : Int32} {i0 : Int} (hl0 : l.stackTraces = false) (X : qX p s #[.ref sc] m meth c RL cL_law 9 r D t b) (hE : XK s) (hS : SK b s) (hXs : va_X sc L xs s s.heap) (hbl : sc < s.heap.size) (hbA : ¬ b ≤ sc) (hi : i.toInt = i0) (h0 : 0 ≤ i0 ∧ i0 ≤ L ∧ L ≤ 3584) (hcs : cells + 8 ≤ 601024 ∧ slots + 1100 ≤ 7293034) (w : qW D b n σ s H locs) (hI : LI t b σ) (hl : lv_has ls 9 [(5, .int i), (0, .ref sc), (1, .ref (b + 0)), (2, .ref (b + 45)), (3, .ref (b + 60)), (4, .ref (b + 61))]) (hdone : W p l e room_1 s m #[.ref sc] below meth c H locs cells slots Q (F0 m 2714 ls [.int 1])) (kk : i0 + 7 ≤ L → ∀ (n : Nat) (σ : qM) (H : Heap) (locs : List Loc) (ls : Array Slot) (i : Int32), i.toInt = i0 + 7 → LI t b σ → qW D b n σ s H locs → lv_has ls 9 [(5, .int i), (0, .ref sc), (1, .ref (b + 0)), (2, .ref (b + 45)), (3, .ref (b + 60)), (4, .ref (b + 61))] → W p l e room_1 s m #[.ref sc] below meth c H locs (cells + 8) (slots + 1100) Q (F0 m 28 ls [])) : W p l e room_1 s m #[.ref sc] below meth c H locs cells slots Q (F0 m 28 ls []) := by
  have hx := X.1
  have hb := X.2.1
  have tail : i0 + 7 ≤ L → ∀ (n : Nat) (σ : qM) (H : Heap) (locs : List Loc) (ls : Array Slot), LI t b σ → qW D b n σ s H locs → lv_has ls 9 [(5, .int i), (0, .ref sc), (1, .ref (b + 0)), (2, .ref (b + 45)), (3, .ref (b + 60)), (4, .ref (b + 61))] → W p l e room_1 s m #[.ref sc] below meth c H locs (cells + 8) (slots + 1100) Q (F0 m 2707 ls []) := fun h7 n σ H locs ls hI w hl => by
    obtain ⟨x_2707, e_2707⟩ : ∃ z : Int32, z = (i + 7) := ⟨_, rfl⟩
    have p_2707 : x_2707.toInt = (i0 + 7) := by rw [e_2707]; exact t_add hi (show (7 : Int32).toInt = 7 from rfl) (by omega) (by omega)
    refine lv_iinc (v := x_2707) (lv' := [(5, .int x_2707), (0, .ref sc), (1, .ref (b + 0)), (2, .ref (b + 45)), (3, .ref (b + 60)), (4, .ref (b + 61))]) hx hb dL_law_2707 hl (k := 0) rfl (by rw [e_2707]; rfl) (by decide) rfl (fun ls hl => ?_)
    refine lv_goto (tgt := 28) hx hb dL_law_2710 (by decide) ?_
    exact kk h7 _ _ _ _ _ _ p_2707 hI w (lv_sub hl [0, 1, 2, 3, 4, 5] rfl)
  refine lv_iload hx hb dL_law_28 (lv_at hl 0 rfl) ?_
  refine lv_aload_n hx hb dL_law_30 rfl (lv_at hl 1 rfl) ?_
  refine va_slen hx hb hXs hbl hbA w.2.1 dL_law_31 ?_
  refine lv_topi (fun x_31 e_31 => ?_)
  have p_31 : x_31.toInt = (L : Int) := by rw [e_31]; exact ofn_L h0.2.2
  refine lv_bipush (v := 7) hx hb dL_law_32 (by decide) ?_
  refine lv_isub hx hb dL_law_34 ?_
  refine lv_topi (fun x_34 e_34 => ?_)
  have p_34 : x_34.toInt = ((L : Int) - 7) := by rw [e_34]; exact t_sub p_31 (show (7 : Int32).toInt = 7 from rfl) (by omega) (by omega)
  refine lv_icmp_gt (tgt := 2713) hx hb dL_law_35 (by decide) (fun c_35 => ?_) (fun c_35 => ?_)
  · skip
    have k_35 : ((L : Int) - 7) < i0 := (g_lt p_34 hi).mp c_35
    refine lv_iconst (v := 1) hx hb dL_law_2713 (by decide) ?_
    exact hdone
  · skip
    have k_35 : ¬ (((L : Int) - 7) < i0) := fun h => c_35 ((g_lt p_34 hi).mpr h)
    have h7 : i0 + 7 ≤ L := by omega
    have k63 := and63 (xs i0.toNat)
    refine lv_aload_n hx hb dL_law_38 rfl (lv_at hl 1 rfl) ?_
    refine lv_iload hx hb dL_law_39 (lv_at hl 0 rfl) ?_
    refine va_sld hx hb hXs hbl hbA w.2.1 (g_in hi (by omega)) dL_law_41 ?_
    refine q_topE (y := xs i0.toNat) (congrArg xs (g_tn hi)) ?_
    refine lv_bipush (v := 63) hx hb dL_law_42 (by decide) ?_
    refine lv_iand hx hb dL_law_44 ?_
    refine lv_topi (fun x_44 e_44 => ?_)
    have p_44 : x_44.toInt = ((xs i0.toNat) &&& 63).toInt := by rw [e_44]; skip
    by_cases s_0 : ((xs i0.toNat) &&& 63).toInt = 0
    · refine lv_tableIn (tgt := 212) hx hb dL_law_45 (by rw [p_44, s_0]; decide) (by rw [p_44, s_0]; decide) (by rw [p_44, s_0]; rfl) (by decide) ?_
      exact law_0 hl0 X hE hS hXs hbl hbA hi ⟨h0.1, h7, h0.2.2⟩ hcs w hI hl (fun n σ H locs ls hI w hl => tail h7 n σ H locs ls hI w hl)
    by_cases s_1 : ((xs i0.toNat) &&& 63).toInt = 1
    · refine lv_tableIn (tgt := 268) hx hb dL_law_45 (by rw [p_44, s_1]; decide) (by rw [p_44, s_1]; decide) (by rw [p_44, s_1]; rfl) (by decide) ?_
      exact law_1 hl0 X hE hS hXs hbl hbA hi ⟨h0.1, h7, h0.2.2⟩ hcs w hI hl (fun n σ H locs ls hI w hl => tail h7 n σ H locs ls hI w hl)
    by_cases s_2 : ((xs i0.toNat) &&& 63).toInt = 2
    · refine lv_tableIn (tgt := 324) hx hb dL_law_45 (by rw [p_44, s_2]; decide) (by rw [p_44, s_2]; decide) (by rw [p_44, s_2]; rfl) (by decide) ?_
      exact law_2 hl0 X hE hS hXs hbl hbA hi ⟨h0.1, h7, h0.2.2⟩ hcs w hI hl (fun n σ H locs ls hI w hl => tail h7 n σ H locs ls hI w hl)
    by_cases s_3 : ((xs i0.toNat) &&& 63).toInt = 3
    · refine lv_tableIn (tgt := 337) hx hb dL_law_45 (by rw [p_44, s_3]; decide) (by rw [p_44, s_3]; decide) (by rw [p_44, s_3]; rfl) (by decide) ?_
      exact law_3 hl0 X hE hS hXs hbl hbA hi ⟨h0.1, h7, h0.2.2⟩ hcs w hI hl (fun n σ H locs ls hI w hl => tail h7 n σ H locs ls hI w hl)
    by_cases s_4 : ((xs i0.toNat) &&& 63).toInt = 4
    · refine lv_tableIn (tgt := 350) hx hb dL_law_45 (by rw [p_44, s_4]; decide) (by rw [p_44, s_4]; decide) (by rw [p_44, s_4]; rfl) (by decide) ?_
      exact law_4 hl0 X hE hS hXs hbl hbA hi ⟨h0.1, h7, h0.2.2⟩ hcs w hI hl (fun n σ H locs ls hI w hl => tail h7 n σ H locs ls hI w hl)
    by_cases s_5 : ((xs i0.toNat) &&& 63).toInt = 5
    · refine lv_tableIn (tgt := 418) hx hb dL_law_45 (by rw [p_44, s_5]; decide) (by rw [p_44, s_5]; decide) (by rw [p_44, s_5]; rfl) (by decide) ?_
      exact law_5 hl0 X hE hS hXs hbl hbA hi ⟨h0.1, h7, h0.2.2⟩ hcs w hI hl (fun n σ H locs ls hI w hl => tail h7 n σ H locs ls hI w hl)
    by_cases s_6 : ((xs i0.toNat) &&& 63).toInt = 6
    · refine lv_tableIn (tgt := 493) hx hb dL_law_45 (by rw [p_44, s_6]; decide) (by rw [p_44, s_6]; decide) (by rw [p_44, s_6]; rfl) (by decide) ?_
      exact law_6 hl0 X hE hS hXs hbl hbA hi ⟨h0.1, h7, h0.2.2⟩ hcs w hI hl (fun n σ H locs ls hI w hl => tail h7 n σ H locs ls hI w hl)
    by_cases s_7 : ((xs i0.toNat) &&& 63).toInt = 7
    · refine lv_tableIn (tgt := 561) hx hb dL_law_45 (by rw [p_44, s_7]; decide) (by rw [p_44, s_7]; decide) (by rw [p_44, s_7]; rfl) (by decide) ?_
      exact law_7 hl0 X hE hS hXs hbl hbA hi ⟨h0.1, h7, h0.2.2⟩ hcs w hI hl (fun n σ H locs ls hI w hl => tail h7 n σ H locs ls hI w hl)
    by_cases s_8 : ((xs i0.toNat) &&& 63).toInt = 8
    · refine lv_tableIn (tgt := 641) hx hb dL_law_45 (by rw [p_44, s_8]; decide) (by rw [p_44, s_8]; decide) (by rw [p_44, s_8]; rfl) (by decide) ?_
      exact law_8 hl0 X hE hS hXs hbl hbA hi ⟨h0.1, h7, h0.2.2⟩ hcs w hI hl (fun n σ H locs ls hI w hl => tail h7 n σ H locs ls hI w hl)
    by_cases s_9 : ((xs i0.toNat) &&& 63).toInt = 9
    · refine lv_tableIn (tgt := 728) hx hb dL_law_45 (by rw [p_44, s_9]; decide) (by rw [p_44, s_9]; decide) (by rw [p_44, s_9]; rfl) (by decide) ?_
      exact law_9 hl0 X hE hS hXs hbl hbA hi ⟨h0.1, h7, h0.2.2⟩ hcs w hI hl (fun n σ H locs ls hI w hl => tail h7 n σ H locs ls hI w hl)
    by_cases s_10 : ((xs i0.toNat) &&& 63).toInt = 10
    · refine lv_tableIn (tgt := 796) hx hb dL_law_45 (by rw [p_44, s_10]; decide) (by rw [p_44, s_10]; decide) (by rw [p_44, s_10]; rfl) (by decide) ?_
      exact law_10 hl0 X hE hS hXs hbl hbA hi ⟨h0.1, h7, h0.2.2⟩ hcs w hI hl (fun n σ H locs ls hI w hl => tail h7 n σ H locs ls hI w hl)
    by_cases s_11 : ((xs i0.toNat) &&& 63).toInt = 11
    · refine lv_tableIn (tgt := 864) hx hb dL_law_45 (by rw [p_44, s_11]; decide) (by rw [p_44, s_11]; decide) (by rw [p_44, s_11]; rfl) (by decide) ?_
      exact law_11 hl0 X hE hS hXs hbl hbA hi ⟨h0.1, h7, h0.2.2⟩ hcs w hI hl (fun n σ H locs ls hI w hl => tail h7 n σ H locs ls hI w hl)
    by_cases s_12 : ((xs i0.toNat) &&& 63).toInt = 12
    · refine lv_tableIn (tgt := 956) hx hb dL_law_45 (by rw [p_44, s_12]; decide) (by rw [p_44, s_12]; decide) (by rw [p_44, s_12]; rfl) (by decide) ?_
      exact law_12 hl0 X hE hS hXs hbl hbA hi ⟨h0.1, h7, h0.2.2⟩ hcs w hI hl (fun n σ H locs ls hI w hl => tail h7 n σ H locs ls hI w hl)
    by_cases s_13 : ((xs i0.toNat) &&& 63).toInt = 13
    · refine lv_tableIn (tgt := 1036) hx hb dL_law_45 (by rw [p_44, s_13]; decide) (by rw [p_44, s_13]; decide) (by rw [p_44, s_13]; rfl) (by decide) ?_
      exact law_13 hl0 X hE hS hXs hbl hbA hi ⟨h0.1, h7, h0.2.2⟩ hcs w hI hl (fun n σ H locs ls hI w hl => tail h7 n σ H locs ls hI w hl)
    by_cases s_14 : ((xs i0.toNat) &&& 63).toInt = 14
    · refine lv_tableIn (tgt := 1154) hx hb dL_law_45 (by rw [p_44, s_14]; decide) (by rw [p_44, s_14]; decide) (by rw [p_44, s_14]; rfl) (by decide) ?_
      exact law_14 hl0 X hE hS hXs hbl hbA hi ⟨h0.1, h7, h0.2.2⟩ hcs w hI hl (fun n σ H locs ls hI w hl => tail h7 n σ H locs ls hI w hl)
    by_cases s_15 : ((xs i0.toNat) &&& 63).toInt = 15
    · refine lv_tableIn (tgt := 1234) hx hb dL_law_45 (by rw [p_44, s_15]; decide) (by rw [p_44, s_15]; decide) (by rw [p_44, s_15]; rfl) (by decide) ?_
      exact law_15 hl0 X hE hS hXs hbl hbA hi ⟨h0.1, h7, h0.2.2⟩ hcs w hI hl (fun n σ H locs ls hI w hl => tail h7 n σ H locs ls hI w hl)
    by_cases s_16 : ((xs i0.toNat) &&& 63).toInt = 16
    · refine lv_tableIn (tgt := 1302) hx hb dL_law_45 (by rw [p_44, s_16]; decide) (by rw [p_44, s_16]; decide) (by rw [p_44, s_16]; rfl) (by decide) ?_
      exact law_16 hl0 X hE hS hXs hbl hbA hi ⟨h0.1, h7, h0.2.2⟩ hcs w hI hl (fun n σ H locs ls hI w hl => tail h7 n σ H locs ls hI w hl)
    by_cases s_17 : ((xs i0.toNat) &&& 63).toInt = 17
    · refine lv_tableIn (tgt := 1382) hx hb dL_law_45 (by rw [p_44, s_17]; decide) (by rw [p_44, s_17]; decide) (by rw [p_44, s_17]; rfl) (by decide) ?_
      exact law_17 hl0 X hE hS hXs hbl hbA hi ⟨h0.1, h7, h0.2.2⟩ hcs w hI hl (fun n σ H locs ls hI w hl => tail h7 n σ H locs ls hI w hl)
    by_cases s_18 : ((xs i0.toNat) &&& 63).toInt = 18
    · refine lv_tableIn (tgt := 1462) hx hb dL_law_45 (by rw [p_44, s_18]; decide) (by rw [p_44, s_18]; decide) (by rw [p_44, s_18]; rfl) (by decide) ?_
      exact law_18 hl0 X hE hS hXs hbl hbA hi ⟨h0.1, h7, h0.2.2⟩ hcs w hI hl (fun n σ H locs ls hI w hl => tail h7 n σ H locs ls hI w hl)
    by_cases s_19 : ((xs i0.toNat) &&& 63).toInt = 19
    · refine lv_tableIn (tgt := 1542) hx hb dL_law_45 (by rw [p_44, s_19]; decide) (by rw [p_44, s_19]; decide) (by rw [p_44, s_19]; rfl) (by decide) ?_
      exact law_19 hl0 X hE hS hXs hbl hbA hi ⟨h0.1, h7, h0.2.2⟩ hcs w hI hl (fun n σ H locs ls hI w hl => tail h7 n σ H locs ls hI w hl)
    by_cases s_20 : ((xs i0.toNat) &&& 63).toInt = 20
    · refine lv_tableIn (tgt := 1634) hx hb dL_law_45 (by rw [p_44, s_20]; decide) (by rw [p_44, s_20]; decide) (by rw [p_44, s_20]; rfl) (by decide) ?_
      exact law_20 hl0 X hE hS hXs hbl hbA hi ⟨h0.1, h7, h0.2.2⟩ hcs w hI hl (fun n σ H locs ls hI w hl => tail h7 n σ H locs ls hI w hl)
    by_cases s_21 : ((xs i0.toNat) &&& 63).toInt = 21
    · refine lv_tableIn (tgt := 1752) hx hb dL_law_45 (by rw [p_44, s_21]; decide) (by rw [p_44, s_21]; decide) (by rw [p_44, s_21]; rfl) (by decide) ?_
      exact law_21 hl0 X hE hS hXs hbl hbA hi ⟨h0.1, h7, h0.2.2⟩ hcs w hI hl (fun n σ H locs ls hI w hl => tail h7 n σ H locs ls hI w hl)
    by_cases s_22 : ((xs i0.toNat) &&& 63).toInt = 22
    · refine lv_tableIn (tgt := 1796) hx hb dL_law_45 (by rw [p_44, s_22]; decide) (by rw [p_44, s_22]; decide) (by rw [p_44, s_22]; rfl) (by decide) ?_
      exact law_22 hl0 X hE hS hXs hbl hbA hi ⟨h0.1, h7, h0.2.2⟩ hcs w hI hl (fun n σ H locs ls hI w hl => tail h7 n σ H locs ls hI w hl)
    by_cases s_23 : ((xs i0.toNat) &&& 63).toInt = 23
    · refine lv_tableIn (tgt := 1809) hx hb dL_law_45 (by rw [p_44, s_23]; decide) (by rw [p_44, s_23]; decide) (by rw [p_44, s_23]; rfl) (by decide) ?_
      exact law_23 hl0 X hE hS hXs hbl hbA hi ⟨h0.1, h7, h0.2.2⟩ hcs w hI hl (fun n σ H locs ls hI w hl => tail h7 n σ H locs ls hI w hl)
    by_cases s_24 : ((xs i0.toNat) &&& 63).toInt = 24
    · refine lv_tableIn (tgt := 1877) hx hb dL_law_45 (by rw [p_44, s_24]; decide) (by rw [p_44, s_24]; decide) (by rw [p_44, s_24]; rfl) (by decide) ?_
      exact law_24 hl0 X hE hS hXs hbl hbA hi ⟨h0.1, h7, h0.2.2⟩ hcs w hI hl (fun n σ H locs ls hI w hl => tail h7 n σ H locs ls hI w hl)
    by_cases s_25 : ((xs i0.toNat) &&& 63).toInt = 25
    · refine lv_tableIn (tgt := 1945) hx hb dL_law_45 (by rw [p_44, s_25]; decide) (by rw [p_44, s_25]; decide) (by rw [p_44, s_25]; rfl) (by decide) ?_
      exact law_25 hl0 X hE hS hXs hbl hbA hi ⟨h0.1, h7, h0.2.2⟩ hcs w hI hl (fun n σ H locs ls hI w hl => tail h7 n σ H locs ls hI w hl)
    by_cases s_26 : ((xs i0.toNat) &&& 63).toInt = 26
    · refine lv_tableIn (tgt := 2013) hx hb dL_law_45 (by rw [p_44, s_26]; decide) (by rw [p_44, s_26]; decide) (by rw [p_44, s_26]; rfl) (by decide) ?_
      exact law_26 hl0 X hE hS hXs hbl hbA hi ⟨h0.1, h7, h0.2.2⟩ hcs w hI hl (fun n σ H locs ls hI w hl => tail h7 n σ H locs ls hI w hl)
    by_cases s_27 : ((xs i0.toNat) &&& 63).toInt = 27
    · refine lv_tableIn (tgt := 2093) hx hb dL_law_45 (by rw [p_44, s_27]; decide) (by rw [p_44, s_27]; decide) (by rw [p_44, s_27]; rfl) (by decide) ?_
      exact law_27 hl0 X hE hS hXs hbl hbA hi ⟨h0.1, h7, h0.2.2⟩ hcs w hI hl (fun n σ H locs ls hI w hl => tail h7 n σ H locs ls hI w hl)
    by_cases s_28 : ((xs i0.toNat) &&& 63).toInt = 28
    · refine lv_tableIn (tgt := 2142) hx hb dL_law_45 (by rw [p_44, s_28]; decide) (by rw [p_44, s_28]; decide) (by rw [p_44, s_28]; rfl) (by decide) ?_
      exact law_28 hl0 X hE hS hXs hbl hbA hi ⟨h0.1, h7, h0.2.2⟩ hcs w hI hl (fun n σ H locs ls hI w hl => tail h7 n σ H locs ls hI w hl)
    by_cases s_29 : ((xs i0.toNat) &&& 63).toInt = 29
    · refine lv_tableIn (tgt := 2210) hx hb dL_law_45 (by rw [p_44, s_29]; decide) (by rw [p_44, s_29]; decide) (by rw [p_44, s_29]; rfl) (by decide) ?_
      exact law_29 hl0 X hE hS hXs hbl hbA hi ⟨h0.1, h7, h0.2.2⟩ hcs w hI hl (fun n σ H locs ls hI w hl => tail h7 n σ H locs ls hI w hl)
    by_cases s_30 : ((xs i0.toNat) &&& 63).toInt = 30
    · refine lv_tableIn (tgt := 2223) hx hb dL_law_45 (by rw [p_44, s_30]; decide) (by rw [p_44, s_30]; decide) (by rw [p_44, s_30]; rfl) (by decide) ?_
      exact law_30 hl0 X hE hS hXs hbl hbA hi ⟨h0.1, h7, h0.2.2⟩ hcs w hI hl (fun n σ H locs ls hI w hl => tail h7 n σ H locs ls hI w hl)
    by_cases s_31 : ((xs i0.toNat) &&& 63).toInt = 31
    · refine lv_tableIn (tgt := 2291) hx hb dL_law_45 (by rw [p_44, s_31]; decide) (by rw [p_44, s_31]; decide) (by rw [p_44, s_31]; rfl) (by decide) ?_
      exact law_31 hl0 X hE hS hXs hbl hbA hi ⟨h0.1, h7, h0.2.2⟩ hcs w hI hl (fun n σ H locs ls hI w hl => tail h7 n σ H locs ls hI w hl)
    by_cases s_32 : ((xs i0.toNat) &&& 63).toInt = 32
    · refine lv_tableIn (tgt := 2347) hx hb dL_law_45 (by rw [p_44, s_32]; decide) (by rw [p_44, s_32]; decide) (by rw [p_44, s_32]; rfl) (by decide) ?_
      exact law_32 hl0 X hE hS hXs hbl hbA hi ⟨h0.1, h7, h0.2.2⟩ hcs w hI hl (fun n σ H locs ls hI w hl => tail h7 n σ H locs ls hI w hl)
    by_cases s_33 : ((xs i0.toNat) &&& 63).toInt = 33
    · refine lv_tableIn (tgt := 2439) hx hb dL_law_45 (by rw [p_44, s_33]; decide) (by rw [p_44, s_33]; decide) (by rw [p_44, s_33]; rfl) (by decide) ?_
      exact law_33 hl0 X hE hS hXs hbl hbA hi ⟨h0.1, h7, h0.2.2⟩ hcs w hI hl (fun n σ H locs ls hI w hl => tail h7 n σ H locs ls hI w hl)
    by_cases s_34 : ((xs i0.toNat) &&& 63).toInt = 34
    · refine lv_tableIn (tgt := 2516) hx hb dL_law_45 (by rw [p_44, s_34]; decide) (by rw [p_44, s_34]; decide) (by rw [p_44, s_34]; rfl) (by decide) ?_
      exact law_34 hl0 X hE hS hXs hbl hbA hi ⟨h0.1, h7, h0.2.2⟩ hcs w hI hl (fun n σ H locs ls hI w hl => tail h7 n σ H locs ls hI w hl)
    by_cases s_35 : ((xs i0.toNat) &&& 63).toInt = 35
    · refine lv_tableIn (tgt := 2606) hx hb dL_law_45 (by rw [p_44, s_35]; decide) (by rw [p_44, s_35]; decide) (by rw [p_44, s_35]; rfl) (by decide) ?_
      exact law_35 hl0 X hE hS hXs hbl hbA hi ⟨h0.1, h7, h0.2.2⟩ hcs w hI hl (fun n σ H locs ls hI w hl => tail h7 n σ H locs ls hI w hl)
    by_cases s_36 : ((xs i0.toNat) &&& 63).toInt = 36
    · refine lv_tableIn (tgt := 2650) hx hb dL_law_45 (by rw [p_44, s_36]; decide) (by rw [p_44, s_36]; decide) (by rw [p_44, s_36]; rfl) (by decide) ?_
      exact law_36 hl0 X hE hS hXs hbl hbA hi ⟨h0.1, h7, h0.2.2⟩ hcs w hI hl (fun n σ H locs ls hI w hl => tail h7 n σ H locs ls hI w hl)
    by_cases s_37 : ((xs i0.toNat) &&& 63).toInt = 37
    · refine lv_tableIn (tgt := 2663) hx hb dL_law_45 (by rw [p_44, s_37]; decide) (by rw [p_44, s_37]; decide) (by rw [p_44, s_37]; rfl) (by decide) ?_
      exact law_37 hl0 X hE hS hXs hbl hbA hi ⟨h0.1, h7, h0.2.2⟩ hcs w hI hl (fun n σ H locs ls hI w hl => tail h7 n σ H locs ls hI w hl)
    refine lv_tableOut (tgt := 2707) hx hb dL_law_45 (by rw [p_44]; omega) (by decide) ?_
    refine W.widen (k := cells + 8) (n := slots + 1100) (Nat.le_add_right _ _) (Nat.le_add_right _ _) ?_
    exact tail h7 _ _ _ _ _ hI w hl

theorem law_loop {p : Program} {l : Launch} {e : Env} {s : State} {m : MethodId} {below : List Frame} {meth : Method} {c : Code} {Q : State → Prop} {r : Option FieldType} {D : va_G} {t : Nat → ClassId} {b : Nat} {sc L : Nat} {xs : Nat → Int32} (hl0 : l.stackTraces = false) (X : qX p s #[.ref sc] m meth c RL cL_law 9 r D t b) (hE : XK s) (hS : SK b s) (hXs : va_X sc L xs s s.heap) (hbl : sc < s.heap.size) (hbA : ¬ b ≤ sc) (hL : L ≤ 3584) (hdone : ∀ (n : Nat) (σ : qM) (H : Heap) (locs : List Loc) (ls : Array Slot) (cells slots : Nat), qW D b n σ s H locs → cells ≤ 601024 → slots ≤ 7293034 → W p l e room_1 s m #[.ref sc] below meth c H locs cells slots Q (F0 m 2714 ls [.int 1])) : ∀ (k j : Nat), 7 * j ≤ L → L < 7 * j + 7 * k + 7 → ∀ (n : Nat) (σ : qM) (H : Heap) (locs : List Loc) (ls : Array Slot) (i : Int32), i.toInt = 7 * (j : Int) → LI t b σ → qW D b n σ s H locs → lv_has ls 9 [(5, .int i), (0, .ref sc), (1, .ref (b + 0)), (2, .ref (b + 45)), (3, .ref (b + 60)), (4, .ref (b + 61))] → W p l e room_1 s m #[.ref sc] below meth c H locs (128 + 8 * j) (30000 + 1100 * j) Q (F0 m 28 ls []) := by
  intro k
  induction k with
  | zero =>
    intro j h1 h2 n σ H locs ls i hi hI w hl
    exact law_turn hl0 X hE hS hXs hbl hbA hi ⟨by omega, by omega, hL⟩ ⟨by omega, by omega⟩ w hI hl (hdone _ _ _ _ _ _ _ w (by omega) (by omega)) (fun h7 => absurd h7 (by omega))
  | succ k ih =>
    intro j h1 h2 n σ H locs ls i hi hI w hl
    refine law_turn hl0 X hE hS hXs hbl hbA hi ⟨by omega, by omega, hL⟩ ⟨by omega, by omega⟩ w hI hl (hdone _ _ _ _ _ _ _ w (by omega) (by omega)) (fun h7 n σ H locs ls i hi hI w hl => ?_)
    have h := ih (j + 1) (by omega) (by omega) n σ H locs ls i (by omega) hI w hl
    rw [show 128 + 8 * (j + 1) = 128 + 8 * j + 8 by omega, show 30000 + 1100 * (j + 1) = 30000 + 1100 * j + 1100 by omega] at h
    exact h

theorem LI.start {t : Nat → ClassId} {b : Nat} {S1 σ0 : qM} {A1 : Nat → Int32} {B1 : Nat → Nat → Int32} {P1 : Nat → Nat → Option Nat} {I1 : Nat → Int32} {R1 : Nat → Nat → Int32} {e45 : va_E}
    (hS : σ0 = va_up (cS t b S1 A1 B1 P1) 45 (some e45)) (hcal : ∃ K fl fc, CalP t b S1 42 43 44 K fl fc (rowQ (sCal T0 54).2.2.1))
    (hA : kpI [2, 3, 4, 5, 6, 7, 8, 9, 10, 11, 12, 13, 14, 15, 16, 17, 18, 20] A00 A1 ∧ (A1 2).toInt = 0 ∧ (A1 20).toInt = 1) (hP : P1 = va_up P00 1 (va_up (P00 1) 0 (some 42)))
    (hI : kpI [5] I00 I1) (h5 : (I1 5).toInt = 1) (hr : rowM R1 0 = rowQ row00) (hf : okF R1 0) : LI t b (va_up (va_up (mS t b σ0 I1 R1) 60 (some (o6 t (fun _ => 0)))) 61 (some (o7 t (fun _ => 0)))) := by
  obtain ⟨K, fl, fc, q1, q2, q3, q4⟩ := hcal
  obtain ⟨hk, a2, a20⟩ := hA
  have z1 : A1 1 = -1 := hk 1 (by decide)
  have z2 : A1 2 = 0 := Int32.toInt_inj.mp a2
  have z0 : A1 0 = 0 := hk 0 (by decide)
  have i5 : I1 5 = 1 := Int32.toInt_inj.mp h5
  have z20 : A1 20 = 1 := Int32.toInt_inj.mp a20
  have hz : ∀ k, 19 ≤ k → k ≠ 20 → A1 k = 0 := fun k k1 k2 => by
    rw [hk k (by simp; omega)]
    show (if k = 1 then (-1 : Int32) else 0) = 0
    rw [if_neg (by omega)]
  have hi : ∀ k, k ≠ 5 → k ≠ 12 → I1 k = 0 := fun k k1 k2 => by
    rw [hI k (by simp; omega)]
    show (if k = 12 then (-1 : Int32) else 0) = 0
    rw [if_neg k2]
  have i12 : I1 12 = -1 := hI 12 (by decide)
  have hP0 : P1 0 = P00 0 := by rw [hP, va_up_ne _ _ (by decide)]
  have hP1 : P1 1 0 = some 42 := by rw [hP, va_up_self, va_up_self]
  have hoff : ∀ k, (k < 45 ∨ 59 < k) → k ≠ 45 → k ≠ 60 → k ≠ 61 → va_up (va_up (mS t b σ0 I1 R1) 60 (some (o6 t (fun _ => 0)))) 61 (some (o7 t (fun _ => 0))) k = cS t b S1 A1 B1 P1 k := fun k k1 k2 k3 k4 => by
    rw [va_up_ne _ _ k4, va_up_ne _ _ k3, mS_off (I2 := I1) (R2 := R1) k1, hS, va_up_ne _ _ k2]
  refine ⟨A1, B1, P1, I1, R1, fun j => j + 2, fun k => if k = 42 ∨ k = 43 ∨ k = 44 then S1 k else none, ⟨cS_self (σ' := S1) fun k hk => hoff k (by omega) (by omega) (by omega) (by omega), mS_self (σ' := σ0) fun k k1 k2 => by rw [va_up_ne _ _ (by omega), va_up_ne _ _ (by omega)], ⟨_, by rw [va_up_ne _ _ (by decide), va_up_self]⟩, ⟨_, va_up_self _ _ _⟩, fun k e he => ?_⟩, ?_⟩
  · by_cases c : k = 42 ∨ k = 43 ∨ k = 44
    · have he : (if k = 42 ∨ k = 43 ∨ k = 44 then S1 k else none) = some e := he
      rw [if_pos c] at he
      refine ⟨Or.inl (by omega), ?_⟩
      rw [hoff k (by omega) (by omega) (by omega) (by omega), cS_off (by omega)]
      exact he
    · have he : (if k = 42 ∨ k = 43 ∨ k = 44 then S1 k else none) = some e := he
      rw [if_neg c] at he
      cases he
  · refine ⟨⟨by rw [z2, hi 10 (by decide) (by decide)], by rw [hi 10 (by decide) (by decide)]; decide, fun j hj => ?_⟩, by rw [z1, i12], ⟨by rw [z20, i5], by rw [hz 21 (by decide) (by decide), hi 19 (by decide) (by decide)], by rw [i5]; decide, ⟨⟨?_, ?_⟩, fun j j0 j1 => ?_, fun f f0 f1 => ?_, fun f f0 f1 => ?_⟩, fun c c0 c1 => ?_⟩, ⟨by rw [z0, hi 30 (by decide) (by decide)], fun h => absurd (hi 30 (by decide) (by decide)) h, fun _ => ⟨hz 22 (by decide) (by decide), hz 23 (by decide) (by decide)⟩⟩, ⟨?_, by rw [hz 19 (by decide) (by decide), hi 28 (by decide) (by decide)], by rw [hi 28 (by decide) (by decide)]; decide, fun i hh => ?_⟩, ⟨by rw [hz 36 (by decide) (by decide), hi 23 (by decide) (by decide)], by rw [hi 23 (by decide) (by decide)]; decide, fun j hj => ?_⟩, ⟨by rw [hz 37 (by decide) (by decide), hi 25 (by decide) (by decide)], by rw [hi 25 (by decide) (by decide)]; decide, fun j hj => ?_⟩⟩
    · rw [hi 10 (by decide) (by decide)] at hj
      have hj : (j : Int) < 0 := hj
      omega
    · show 0 ≤ (A1 20).toInt ∧ (A1 20).toInt ≤ 6
      rw [a20]
      decide
    · show 0 ≤ (A1 21).toInt ∧ (A1 21).toInt ≤ 8
      rw [hz 21 (by decide) (by decide)]
      decide
    · have j1 : j < (A1 20).toInt := j1
      rw [a20] at j1
      have e : j = 0 := by omega
      subst e
      show CalQ t b _ (P1 1 0) (rowM R1 0)
      rw [hP1, hr, ← T0_rowQ]
      exact ⟨42, 43, 44, K, fl, fc, rfl, ⟨by decide, by decide, by decide⟩, q1, q2, q3, q4⟩
    · have f1 : f < (A1 21).toInt := f1
      rw [hz 21 (by decide) (by decide)] at f1
      have f1 : f < 0 := f1
      omega
    · have f1 : f < (A1 21).toInt := f1
      rw [hz 21 (by decide) (by decide)] at f1
      have f1 : f < 0 := f1
      omega
    · rw [h5] at c1
      have e : c = 0 := by omega
      subst e
      exact hf
    · obtain ⟨h1, h2⟩ := P00_hi
      exact ⟨fun j hj => by rw [hP0]; exact h1 j hj, h2⟩
    · rw [hi 28 (by decide) (by decide)] at hh
      have hh : (i : Int) < 0 := hh
      omega
    · rw [hi 23 (by decide) (by decide)] at hj
      have hj : (j : Int) < 0 := hj
      omega
    · rw [hi 25 (by decide) (by decide)] at hj
      have hj : (j : Int) < 0 := hj
      omega

set_option maxHeartbeats 4000000 in
set_option maxRecDepth 100000 in
theorem law_entry {p : Program} {l : Launch} {e : Env} {s : State} {m : MethodId} {below : List Frame} {meth : Method} {c : Code} {Q : State → Prop} {r : Option FieldType} {D : va_G} {t : Nat → ClassId} {b : Nat} {sc L : Nat} {xs : Nat → Int32} {ls : Array Slot} {a av : Nat} (hl0 : l.stackTraces = false) (X : qX p s #[.ref sc] m meth c RL cL_law 9 r D t b) (hE : XK s) (hS : SK b s) (hXs : va_X sc L xs s s.heap) (hbl : sc < s.heap.size) (hbA : ¬ b ≤ sc) (hLK : LK b a av s) (hbs : s.heap.size = b) (hL : L ≤ 3584) (hl : lv_has ls 9 [(0, .ref sc)]) (hdone : ∀ (n : Nat) (σ : qM) (H : Heap) (locs : List Loc) (ls : Array Slot) (cells slots : Nat), qW D b n σ s H locs → cells ≤ 601024 → slots ≤ 7293034 → W p l e room_1 s m #[.ref sc] below meth c H locs cells slots Q (F0 m 2714 ls [.int 1])) : W p l e room_1 s m #[.ref sc] below meth c s.heap [] 0 0 Q (F0 m 0 ls []) := by
  have hx := X.1
  have hb := X.2.1
  have w : qW D b 0 (fun _ => none : qM) s s.heap [] := ⟨⟨hbs, fun k e h => by cases h⟩, va_S.rf, Nat.le_of_eq hbs.symm⟩
  refine q_new (ci := 12) X w inX8 tyX8 tyX8_ok cl_L_8 is_X8 ini_X8 rfl (fs := [.null, .null, .null, .null, .null, .null, .null, .null, .int 0, .int 0]) (fun j hj => by match j, hj with | 0, _ => rfl | 1, _ => rfl | 2, _ => rfl | 3, _ => rfl | 4, _ => rfl | 5, _ => rfl | 6, _ => rfl | 7, _ => rfl | 8, _ => rfl | 9, _ => rfl) (Nat.le_of_ble_eq_true rfl) (Nat.le_of_ble_eq_true rfl) dL_law_0 (fun H w => ?_)
  refine lv_dup hx hb dL_law_3 rfl ?_
  have e0 : va_up (fun _ => none : qM) 0 (some (.inr (12, [.null, .null, .null, .null, .null, .null, .null, .null, .int 0, .int 0]))) = ovl [.inr (12, [.null, .null, .null, .null, .null, .null, .null, .null, .int 0, .int 0])] (fun _ => none : qM) := ovl_push (L := []) rfl
  rw [e0] at w
  refine q_cVIL X hE.1 hS hLK w (c_X8_init l D t b (fun _ => none : qM) a av) iL_124 rfl ⟨Nat.le_of_ble_eq_true rfl, Nat.le_of_ble_eq_true rfl⟩ rfl hl.1 (Nat.le_of_ble_eq_true rfl) dL_law_4 ⟨Nat.le_of_ble_eq_true rfl, Nat.le_of_ble_eq_true rfl⟩ (fun n1 σ1 H locs hz w => ?_)
  obtain ⟨hn1, S1, A1, B1, P1, es1, hcal, ⟨v1, hkA, ha2, ha20⟩, hP1⟩ := hz
  rw [hn1, es1] at w
  refine lv_astore_n (lv' := [(1, .ref (b + 0)), (0, .ref sc)]) hx hb dL_law_7 rfl hl (by decide) rfl (fun ls hl => ?_)
  refine q_new (ci := 13) X w inX9 tyX9 tyX9_ok cl_L_125 is_X9 ini_X9 rfl (fs := [.int 0, .null, .null, .null, .null, .int 0, .int 0, .int 0, .int 0, .null, .int 0, .int 0, .int 0, .int 0, .int 0, .int 0, .null, .null, .null, .int 0, .null, .null, .null, .int 0, .null, .int 0, .null, .null, .int 0, .int 0, .int 0, .int 0]) (fun j hj => by match j, hj with | 0, _ => rfl | 1, _ => rfl | 2, _ => rfl | 3, _ => rfl | 4, _ => rfl | 5, _ => rfl | 6, _ => rfl | 7, _ => rfl | 8, _ => rfl | 9, _ => rfl | 10, _ => rfl | 11, _ => rfl | 12, _ => rfl | 13, _ => rfl | 14, _ => rfl | 15, _ => rfl | 16, _ => rfl | 17, _ => rfl | 18, _ => rfl | 19, _ => rfl | 20, _ => rfl | 21, _ => rfl | 22, _ => rfl | 23, _ => rfl | 24, _ => rfl | 25, _ => rfl | 26, _ => rfl | 27, _ => rfl | 28, _ => rfl | 29, _ => rfl | 30, _ => rfl | 31, _ => rfl | k + 32, hj => exact absurd hj (by omega)) (Nat.le_of_ble_eq_true rfl) (Nat.le_of_ble_eq_true rfl) dL_law_8 (fun H w => ?_)
  refine lv_dup hx hb dL_law_11 rfl ?_
  refine q_cVI X w (c_X9_init l D t b _ (va_up_self _ _ _)) iL_127 rfl ⟨Nat.le_of_ble_eq_true rfl, Nat.le_of_ble_eq_true rfl⟩ rfl hl.1 (Nat.le_of_ble_eq_true rfl) dL_law_12 ⟨Nat.le_of_ble_eq_true rfl, Nat.le_of_ble_eq_true rfl⟩ (fun n2 σ2 H locs hz w => ?_)
  obtain ⟨hn2, I1, R1, es2, hkI, hi5, hkR, hr0, hf0⟩ := hz
  rw [hn2, es2] at w
  refine lv_astore_n (lv' := [(2, .ref (b + 45)), (1, .ref (b + 0)), (0, .ref sc)]) hx hb dL_law_15 rfl hl (by decide) rfl (fun ls hl => ?_)
  refine lv_iconst (v := 1) hx hb dL_law_16 (by decide) ?_
  refine q_newa (atype := .long) X w ac_long rfl (fun _ h => by cases h) 7 rfl (a0 := (1, .inr (.inl (fun _ => 0)))) (N := 1) (fun _ => rfl) (by decide) (by decide) (Nat.le_of_ble_eq_true rfl) (Nat.le_of_ble_eq_true rfl) (Nat.le_of_ble_eq_true rfl) dL_law_17 (fun H w => ?_)
  refine lv_astore_n (lv' := [(3, .ref (b + 60)), (2, .ref (b + 45)), (1, .ref (b + 0)), (0, .ref sc)]) hx hb dL_law_19 rfl hl (by decide) rfl (fun ls hl => ?_)
  refine lv_iconst (v := 1) hx hb dL_law_20 (by decide) ?_
  refine q_newa (atype := .double) X w ac_double rfl (fun _ h => by cases h) 8 rfl (a0 := (1, .inr (.inr (.inr (.inl (fun _ => 0)))))) (N := 1) (fun _ => rfl) (by decide) (by decide) (Nat.le_of_ble_eq_true rfl) (Nat.le_of_ble_eq_true rfl) (Nat.le_of_ble_eq_true rfl) dL_law_21 (fun H w => ?_)
  refine lv_astore (lv' := [(4, .ref (b + 61)), (3, .ref (b + 60)), (2, .ref (b + 45)), (1, .ref (b + 0)), (0, .ref sc)]) hx hb dL_law_23 hl (by decide) rfl (fun ls hl => ?_)
  refine lv_iconst (v := 0) hx hb dL_law_25 (by decide) ?_
  refine lv_istore (lv' := [(5, .int 0), (4, .ref (b + 61)), (3, .ref (b + 60)), (2, .ref (b + 45)), (1, .ref (b + 0)), (0, .ref sc)]) hx hb dL_law_26 hl (by decide) rfl (fun ls hl => ?_)
  refine W.widen (k := 128 + 8 * 0) (n := 30000 + 1100 * 0) (Nat.le_of_ble_eq_true rfl) (Nat.le_of_ble_eq_true rfl) ?_
  exact law_loop hl0 X hE hS hXs hbl hbA hL hdone 512 0 (by omega) (by omega) _ _ _ _ _ _ (by decide) (LI.start rfl hcal ⟨hkA, ha2, ha20⟩ hP1 hkI hi5 hr0 hf0) w (lv_sub hl [0, 5, 4, 3, 2, 1] rfl)
