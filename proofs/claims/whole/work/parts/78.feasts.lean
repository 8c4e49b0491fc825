set_option maxHeartbeats 2000000 in
set_option maxRecDepth 100000 in
theorem c_X2_dayAt (l : Launch) (D : va_G) (t : Nat → ClassId) (b n : Nat) (σ0 : qM) (A : Nat → Int32) (B : Nat → Nat → Int32) (P : Nat → Nat → Option Nat) (a_ix : Int32) (ix : Int) (e_ix : a_ix.toInt = ix) : qP l yX2_dayAt cX2_dayAt 2 (some .int) 0 D t b n (cS t b σ0 A B P) [.ref (b + 33), .int a_ix] (fun z => z.toInt = (if 0 ≤ ix ∧ ix < 8 then (B 4 ix.toNat).toInt else -2147483648)) := by
  refine qP.of (by decide +kernel) (Nat.le_of_ble_eq_true rfl) (fun p e s m args below meth c X w ls hl => ?_)
  have hx := X.1
  have hb := X.2.1
  have hl : lv_has ls 2 [(0, .ref (b + 33)), (1, .int a_ix)] := hl
  refine lv_iload_n hx hb dX2_dayAt_0 rfl (lv_at hl 1 rfl) ?_
  refine lv_if_lt (tgt := 22) hx hb dX2_dayAt_1 (by decide) (fun c_1 => ?_) (fun c_1 => ?_)
  · skip
    have k_1 : ix < 0 := (g_lt e_ix (show (0 : Int32).toInt = 0 from rfl)).mp c_1
    refine lv_ldc hx hb X.2.2.2.1 (X.2.2.1 _ kc_X2_18) dX2_dayAt_22 ?_
    exact q_pret X w dX2_dayAt_24 (by rw [if_neg (by omega)]; rfl)
  · skip
    have k_1 : ¬ (ix < 0) := fun h => c_1 ((g_lt e_ix (show (0 : Int32).toInt = 0 from rfl)).mpr h)
    refine lv_iload_n hx hb dX2_dayAt_4 rfl (lv_at hl 1 rfl) ?_
    refine lv_aload_n hx hb dX2_dayAt_5 rfl (lv_at hl 0 rfl) ?_
    refine kg_X2_days X w dX2_dayAt_6 ?_
    refine kn_4 X w dX2_dayAt_9 ?_
    refine lv_icmp_ge (tgt := 22) hx hb dX2_dayAt_10 (by decide) (fun c_10 => ?_) (fun c_10 => ?_)
    · skip
      have k_10 : 8 ≤ ix := (g_le (show (8 : Int32).toInt = 8 from rfl) e_ix).mp c_10
      refine lv_ldc hx hb X.2.2.2.1 (X.2.2.1 _ kc_X2_18) dX2_dayAt_22 ?_
      exact q_pret X w dX2_dayAt_24 (by rw [if_neg (by omega)]; rfl)
    · skip
      have k_10 : ¬ (8 ≤ ix) := fun h => c_10 ((g_le (show (8 : Int32).toInt = 8 from rfl) e_ix).mpr h)
      refine lv_aload_n hx hb dX2_dayAt_13 rfl (lv_at hl 0 rfl) ?_
      refine kg_X2_days X w dX2_dayAt_14 ?_
      refine lv_iload_n hx hb dX2_dayAt_17 rfl (lv_at hl 1 rfl) ?_
      refine kl_4 X w (g_in e_ix (by omega)) dX2_dayAt_18 ?_
      refine q_topE (y := B 4 ix.toNat) (congrArg (B 4) (g_tn e_ix)) ?_
      refine lv_goto (tgt := 24) hx hb dX2_dayAt_19 (by decide) ?_
      exact q_pret X w dX2_dayAt_24 (by rw [if_pos (by omega)])

set_option maxHeartbeats 2000000 in
set_option maxRecDepth 100000 in
theorem c_X2_placeAt (l : Launch) (D : va_G) (t : Nat → ClassId) (b n : Nat) (σ0 : qM) (A : Nat → Int32) (B : Nat → Nat → Int32) (P : Nat → Nat → Option Nat) (a_ix : Int32) (ix : Int) (e_ix : a_ix.toInt = ix) : qP l yX2_placeAt cX2_placeAt 2 (some .int) 0 D t b n (cS t b σ0 A B P) [.ref (b + 33), .int a_ix] (fun z => z.toInt = (if 0 ≤ ix ∧ ix < 8 then (B 5 ix.toNat).toInt else -2147483648)) := by
  refine qP.of (by decide +kernel) (Nat.le_of_ble_eq_true rfl) (fun p e s m args below meth c X w ls hl => ?_)
  have hx := X.1
  have hb := X.2.1
  have hl : lv_has ls 2 [(0, .ref (b + 33)), (1, .int a_ix)] := hl
  refine lv_iload_n hx hb dX2_placeAt_0 rfl (lv_at hl 1 rfl) ?_
  refine lv_if_lt (tgt := 22) hx hb dX2_placeAt_1 (by decide) (fun c_1 => ?_) (fun c_1 => ?_)
  · skip
    have k_1 : ix < 0 := (g_lt e_ix (show (0 : Int32).toInt = 0 from rfl)).mp c_1
    refine lv_ldc hx hb X.2.2.2.1 (X.2.2.1 _ kc_X2_18) dX2_placeAt_22 ?_
    exact q_pret X w dX2_placeAt_24 (by rw [if_neg (by omega)]; rfl)
  · skip
    have k_1 : ¬ (ix < 0) := fun h => c_1 ((g_lt e_ix (show (0 : Int32).toInt = 0 from rfl)).mpr h)
    refine lv_iload_n hx hb dX2_placeAt_4 rfl (lv_at hl 1 rfl) ?_
    refine lv_aload_n hx hb dX2_placeAt_5 rfl (lv_at hl 0 rfl) ?_
    refine kg_X2_places X w dX2_placeAt_6 ?_
    refine kn_5 X w dX2_placeAt_9 ?_
    refine lv_icmp_ge (tgt := 22) hx hb dX2_placeAt_10 (by decide) (fun c_10 => ?_) (fun c_10 => ?_)
    · skip
      have k_10 : 8 ≤ ix := (g_le (show (8 : Int32).toInt = 8 from rfl) e_ix).mp c_10
      refine lv_ldc hx hb X.2.2.2.1 (X.2.2.1 _ kc_X2_18) dX2_placeAt_22 ?_
      exact q_pret X w dX2_placeAt_24 (by rw [if_neg (by omega)]; rfl)
    · skip
      have k_10 : ¬ (8 ≤ ix) := fun h => c_10 ((g_le (show (8 : Int32).toInt = 8 from rfl) e_ix).mpr h)
      refine lv_aload_n hx hb dX2_placeAt_13 rfl (lv_at hl 0 rfl) ?_
      refine kg_X2_places X w dX2_placeAt_14 ?_
      refine lv_iload_n hx hb dX2_placeAt_17 rfl (lv_at hl 1 rfl) ?_
      refine kl_5 X w (g_in e_ix (by omega)) dX2_placeAt_18 ?_
      refine q_topE (y := B 5 ix.toNat) (congrArg (B 5) (g_tn e_ix)) ?_
      refine lv_goto (tgt := 24) hx hb dX2_placeAt_19 (by decide) ?_
      exact q_pret X w dX2_placeAt_24 (by rw [if_pos (by omega)])

set_option maxHeartbeats 2000000 in
set_option maxRecDepth 100000 in
theorem c_X2_feastPlacedOn (l : Launch) (D : va_G) (t : Nat → ClassId) (b n : Nat) (σ0 : qM) (A : Nat → Int32) (B : Nat → Nat → Int32) (P : Nat → Nat → Option Nat) (a_dy : Int32) (dy : Int) (e_dy : a_dy.toInt = dy) : qP l yX2_feastPlacedOn cX2_feastPlacedOn 3 (some .int) 0 D t b n (cS t b σ0 A B P) [.ref (b + 33), .int a_dy] (fun z => z.toInt = ffN (plB B) dy 8 8) := by
  refine qP.of (by decide +kernel) (Nat.le_of_ble_eq_true rfl) (fun p e s m args below meth c X w ls hl => ?_)
  have hx := X.1
  have hb := X.2.1
  have hl : lv_has ls 3 [(0, .ref (b + 33)), (1, .int a_dy)] := hl
  refine lv_iconst (v := 0) hx hb dX2_feastPlacedOn_0 (by decide) ?_
  refine lv_istore_n (lv' := [(2, .int 0), (0, .ref (b + 33)), (1, .int a_dy)]) hx hb dX2_feastPlacedOn_1 rfl hl (by decide) rfl (fun ls hl => ?_)
  refine q_loop (α := Int32 × Int) (fun a => a.1.toInt = a.2 ∧ ((0 ≤ a.2 ∧ a.2 ≤ 8) ∧ ffN (plB B) dy 8 8 = ffN (plB B) dy 8 (8 - a.2).toNat)) (fun a => (8 - a.2).toNat) (fun a => ∀ ls : Array Slot, lv_has ls 3 [(2, .int a.1), (0, .ref (b + 33)), (1, .int a_dy)] → W p l e (qR 0 0 0) s m args below meth c s.heap [] 0 0 (MQ below (vp_Si (fun z => z.toInt = ffN (plB B) dy 8 8)) args s 0 0 (fun _ => False)) (F0 m 2 ls [])) ?_ ⟨0, 0⟩ ⟨(show (0 : Int32).toInt = 0 from rfl), by dsimp only; exact ⟨by omega, rfl⟩⟩ ls (lv_sub hl [0, 1, 2] rfl)
  rintro ⟨v_i, i⟩ ⟨q_i, inv_2⟩ ih_2 ls hl
  dsimp only at q_i inv_2 hl
  refine lv_iload_n hx hb dX2_feastPlacedOn_2 rfl (lv_at hl 0 rfl) ?_
  refine lv_aload_n hx hb dX2_feastPlacedOn_3 rfl (lv_at hl 1 rfl) ?_
  refine kg_X2_places X w dX2_feastPlacedOn_4 ?_
  refine kn_5 X w dX2_feastPlacedOn_7 ?_
  refine lv_icmp_ge (tgt := 29) hx hb dX2_feastPlacedOn_8 (by decide) (fun c_8 => ?_) (fun c_8 => ?_)
  · skip
    have k_8 : 8 ≤ i := (g_le (show (8 : Int32).toInt = 8 from rfl) q_i).mp c_8
    refine lv_iconst (v := (-1)) hx hb dX2_feastPlacedOn_29 (by decide) ?_
    exact q_pret X w dX2_feastPlacedOn_30 (by rw [inv_2.2, show (8 - i).toNat = 0 by omega]; rfl)
  · skip
    have k_8 : ¬ (8 ≤ i) := fun h => c_8 ((g_le (show (8 : Int32).toInt = 8 from rfl) q_i).mpr h)
    refine lv_aload_n hx hb dX2_feastPlacedOn_11 rfl (lv_at hl 1 rfl) ?_
    refine kg_X2_places X w dX2_feastPlacedOn_12 ?_
    refine lv_iload_n hx hb dX2_feastPlacedOn_15 rfl (lv_at hl 0 rfl) ?_
    refine kl_5 X w (g_in q_i (by omega)) dX2_feastPlacedOn_16 ?_
    refine q_topE (y := B 5 i.toNat) (congrArg (B 5) (g_tn q_i)) ?_
    refine lv_iload_n hx hb dX2_feastPlacedOn_17 rfl (lv_at hl 2 rfl) ?_
    refine lv_icmp_ne (tgt := 23) hx hb dX2_feastPlacedOn_18 (by decide) (fun c_18 => ?_) (fun c_18 => ?_)
    · skip
      have k_18 : ¬ (((B 5 i.toNat).toInt) = dy) := fun h => c_18 ((g_eq rfl e_dy).mpr h)
      obtain ⟨x_23, e_23⟩ : ∃ z : Int32, z = (v_i + 1) := ⟨_, rfl⟩
      have p_23 : x_23.toInt = (i + 1) := by rw [e_23]; exact t_add q_i (show (1 : Int32).toInt = 1 from rfl) (by omega) (by omega)
      refine lv_iinc (v := x_23) (lv' := [(2, .int x_23), (0, .ref (b + 33)), (1, .int a_dy)]) hx hb dX2_feastPlacedOn_23 hl (k := 0) rfl (by rw [e_23]; rfl) (by decide) rfl (fun ls hl => ?_)
      refine lv_goto (tgt := 2) hx hb dX2_feastPlacedOn_26 (by decide) ?_
      refine ih_2 ⟨x_23, (i + 1)⟩ ⟨p_23, by dsimp only; exact ⟨by omega, inv_2.2.trans ((ffN_s (by omega)).trans (if_neg k_18))⟩⟩ (by dsimp only; omega) ls (lv_sub hl [0, 1, 2] rfl)
    · skip
      have k_18 : ((B 5 i.toNat).toInt) = dy := (g_eq rfl e_dy).mp c_18
      refine lv_iload_n hx hb dX2_feastPlacedOn_21 rfl (lv_at hl 0 rfl) ?_
      exact q_pret X w dX2_feastPlacedOn_22 (by rw [q_i, inv_2.2, ffN_s (by omega)]; exact (if_pos k_18).symm)

set_option maxHeartbeats 2000000 in
set_option maxRecDepth 100000 in
theorem c_X2_firstFree (l : Launch) (D : va_G) (t : Nat → ClassId) (b n : Nat) (σ0 : qM) (A : Nat → Int32) (B : Nat → Nat → Int32) (P : Nat → Nat → Option Nat) (a_dy : Int32) (dy : Int) (e_dy : a_dy.toInt = dy) (h_1 : -999999 ≤ dy ∧ dy ≤ 999999) : qP l yX2_firstFree cX2_firstFree 4 (some .int) 1 D t b n (cS t b σ0 A B P) [.ref (b + 33), .int a_dy] (fun z => z.toInt = frN (plB B) 8 8 dy) := by
  refine qP.of (by decide +kernel) (Nat.le_of_ble_eq_true rfl) (fun p e s m args below meth c X w ls hl => ?_)
  have hx := X.1
  have hb := X.2.1
  have hl : lv_has ls 4 [(0, .ref (b + 33)), (1, .int a_dy)] := hl
  refine lv_iload_n hx hb dX2_firstFree_0 rfl (lv_at hl 1 rfl) ?_
  refine lv_istore_n (lv' := [(2, .int a_dy), (0, .ref (b + 33)), (1, .int a_dy)]) hx hb dX2_firstFree_1 rfl hl (by decide) rfl (fun ls hl => ?_)
  refine lv_iconst (v := 0) hx hb dX2_firstFree_2 (by decide) ?_
  refine lv_istore_n (lv' := [(3, .int 0), (2, .int a_dy), (0, .ref (b + 33)), (1, .int a_dy)]) hx hb dX2_firstFree_3 rfl hl (by decide) rfl (fun ls hl => ?_)
  refine q_loop (α := Int32 × Int32 × Int × Int) (fun a => a.1.toInt = a.2.2.1 ∧ a.2.1.toInt = a.2.2.2 ∧ ((0 ≤ a.2.2.2 ∧ a.2.2.2 ≤ 8 ∧ a.2.2.1 = dy + a.2.2.2) ∧ frN (plB B) 8 8 dy = frN (plB B) 8 (dy + 8 - a.2.2.1).toNat a.2.2.1)) (fun a => (8 - a.2.2.2).toNat) (fun a => ∀ ls : Array Slot, lv_has ls 4 [(3, .int a.2.1), (2, .int a.1), (0, .ref (b + 33)), (1, .int a_dy)] → W p l e (qR 1 0 0) s m args below meth c s.heap [] 0 0 (MQ below (vp_Si (fun z => z.toInt = frN (plB B) 8 8 dy)) args s 0 0 (fun _ => False)) (F0 m 4 ls [])) ?_ ⟨a_dy, 0, dy, 0⟩ ⟨e_dy, (show (0 : Int32).toInt = 0 from rfl), by dsimp only; exact ⟨by omega, by rw [show (dy + 8 - dy).toNat = 8 by omega]⟩⟩ ls (lv_sub hl [0, 1, 2, 3] rfl)
  rintro ⟨v_dd, v_i, dd, i⟩ ⟨q_dd, q_i, inv_4⟩ ih_4 ls hl
  dsimp only at q_dd q_i inv_4 hl
  refine lv_iload_n hx hb dX2_firstFree_4 rfl (lv_at hl 0 rfl) ?_
  refine lv_bipush (v := 8) hx hb dX2_firstFree_5 (by decide) ?_
  refine lv_icmp_ge (tgt := 27) hx hb dX2_firstFree_7 (by decide) (fun c_7 => ?_) (fun c_7 => ?_)
  · skip
    have k_7 : 8 ≤ i := (g_le (show (8 : Int32).toInt = 8 from rfl) q_i).mp c_7
    refine lv_iload_n hx hb dX2_firstFree_27 rfl (lv_at hl 1 rfl) ?_
    exact q_pret X w dX2_firstFree_28 (by rw [q_dd, inv_4.2, show (dy + 8 - dd).toNat = 0 by omega]; rfl)
  · skip
    have k_7 : ¬ (8 ≤ i) := fun h => c_7 ((g_le (show (8 : Int32).toInt = 8 from rfl) q_i).mpr h)
    refine lv_aload_n hx hb dX2_firstFree_10 rfl (lv_at hl 2 rfl) ?_
    refine lv_iload_n hx hb dX2_firstFree_11 rfl (lv_at hl 1 rfl) ?_
    refine q_cPV X w (c_X2_feastPlacedOn l D t b n σ0 A B P v_dd dd q_dd) v_X2_88 (k := 33) rfl rfl rfl ⟨Nat.le_of_ble_eq_true rfl, Nat.le_of_ble_eq_true rfl⟩ rfl hl.1 (Nat.le_of_ble_eq_true rfl) dX2_firstFree_12 ⟨Nat.zero_le _, Nat.zero_le _⟩ (fun r_12 z_12 => ?_)
    refine lv_if_lt (tgt := 27) hx hb dX2_firstFree_15 (by decide) (fun c_15 => ?_) (fun c_15 => ?_)
    · skip
      have k_15 : (ffN (plB B) dd 8 8) < 0 := (g_lt z_12 (show (0 : Int32).toInt = 0 from rfl)).mp c_15
      refine lv_iload_n hx hb dX2_firstFree_27 rfl (lv_at hl 1 rfl) ?_
      exact q_pret X w dX2_firstFree_28 (by rw [q_dd, inv_4.2]; exact (frN_e _ (fun q => absurd (ffN_tk.mpr q) (by omega))).symm)
    · skip
      have k_15 : ¬ ((ffN (plB B) dd 8 8) < 0) := fun h => c_15 ((g_lt z_12 (show (0 : Int32).toInt = 0 from rfl)).mpr h)
      obtain ⟨x_18, e_18⟩ : ∃ z : Int32, z = (v_dd + 1) := ⟨_, rfl⟩
      have p_18 : x_18.toInt = (dd + 1) := by rw [e_18]; exact t_add q_dd (show (1 : Int32).toInt = 1 from rfl) (by omega) (by omega)
      refine lv_iinc (v := x_18) (lv' := [(2, .int x_18), (3, .int v_i), (0, .ref (b + 33)), (1, .int a_dy)]) hx hb dX2_firstFree_18 hl (k := 1) rfl (by rw [e_18]; rfl) (by decide) rfl (fun ls hl => ?_)
      obtain ⟨x_21, e_21⟩ : ∃ z : Int32, z = (v_i + 1) := ⟨_, rfl⟩
      have p_21 : x_21.toInt = (i + 1) := by rw [e_21]; exact t_add q_i (show (1 : Int32).toInt = 1 from rfl) (by omega) (by omega)
      refine lv_iinc (v := x_21) (lv' := [(3, .int x_21), (2, .int x_18), (0, .ref (b + 33)), (1, .int a_dy)]) hx hb dX2_firstFree_21 hl (k := 1) rfl (by rw [e_21]; rfl) (by decide) rfl (fun ls hl => ?_)
      refine lv_goto (tgt := 4) hx hb dX2_firstFree_24 (by decide) ?_
      refine ih_4 ⟨x_18, x_21, (dd + 1), (i + 1)⟩ ⟨p_18, p_21, by dsimp only; exact ⟨by omega, inv_4.2.trans (frN_s (y := dy + 8) (x := dd) (by omega) (ffN_tk.mp (Int.not_lt.mp k_15)))⟩⟩ (by dsimp only; omega) ls (lv_sub hl [0, 1, 2, 3] rfl)

set_option maxHeartbeats 2000000 in
set_option maxRecDepth 100000 in
theorem c_X2_dayBy (l : Launch) (D : va_G) (t : Nat → ClassId) (b n : Nat) (σ0 : qM) (A : Nat → Int32) (B : Nat → Nat → Int32) (P : Nat → Nat → Option Nat) (rw_ : Int → Row) (fe : Int → Int → Int32) (u : Nat) (hu : u < 8) (hQ : stQ t b σ0 A P u rw_ fe) (days : Int → Int) (f : Int) (h_f : 0 ≤ f ∧ f < (A (21 + 2 * u)).toInt) (q : Nat) (hq : 41 < q) (hfe : σ0 q = some (.inr (5, feF (fe f)))) (hd : ∀ g : Int, 0 ≤ g → g < f → (B 4 g.toNat).toInt = toC (days g) ∧ (days g = -2147483647 ∨ (-999999 ≤ days g ∧ days g ≤ 999999))) (a_yr : Int32) (yr : Int) (e_yr : a_yr.toInt = yr) (h_1 : -2000 ≤ yr ∧ yr ≤ 2000) : kC l yX2_dayBy cX2_dayBy 7 (some .int) 6 D t b n σ0 A B P [.ref (b + 33), .ref (b + sp u), .ref (b + q), .int a_yr] (fun z A1 B1 => A1 = A ∧ B1 = B ∧ cC z.toInt = toC (clampD (ruled rw_ fe days f yr))) := by
  refine qC.of (by decide +kernel) (Nat.le_of_ble_eq_true rfl) (fun p e s m args below meth c X w ls hl => ?_)
  have hx := X.1
  have hb := X.2.1
  have hl : lv_has ls 7 [(0, .ref (b + 33)), (1, .ref (b + sp u)), (2, .ref (b + q)), (3, .int a_yr)] := hl
  have h_2 := h_1
  have hok := hQ.2.2.2 f h_f.1 h_f.2
  have hnn := hQ.1
  obtain ⟨hrk, hk⟩ := hok
  refine lv_aload_n hx hb dX2_dayBy_0 rfl (lv_at hl 2 rfl) ?_
  refine q_getN X w inX1 rfl 0 (by decide) (List.mem_of_getElem? (i := 9) rfl) (k := q) ((cS_off hq).trans hfe) rfl dX2_dayBy_1 ?_
  refine lv_if_eq (tgt := 15) hx hb dX2_dayBy_4 (by decide) (fun c_4 => ?_) (fun c_4 => ?_)
  · skip
    have k_4 : ((fe f 0).toInt) = 0 := (g_eq (show (fe f 0).toInt = (fe f 0).toInt from rfl) (show (0 : Int32).toInt = 0 from rfl)).mp c_4
    refine lv_iconst (v := 1) hx hb dX2_dayBy_15 (by decide) ?_
    refine lv_goto (tgt := 20) hx hb dX2_dayBy_16 (by decide) ?_
    refine lv_istore (lv' := [(4, .int 1), (0, .ref (b + 33)), (1, .ref (b + sp u)), (2, .ref (b + q)), (3, .int a_yr)]) hx hb dX2_dayBy_20 hl (by decide) rfl (fun ls hl => ?_)
    refine lv_iload hx hb dX2_dayBy_22 (lv_at hl 0 rfl) ?_
    refine lv_if_eq (tgt := 32) hx hb dX2_dayBy_24 (by decide) (fun c_24 => ?_) (fun c_24 => ?_)
    · skip
      have k_24 : (1 : Int) = 0 := (g_eq (show (1 : Int32).toInt = 1 from rfl) (show (0 : Int32).toInt = 0 from rfl)).mp c_24
      exfalso; exact absurd k_24 (by decide)
    · skip
      have k_24 : ¬ ((1 : Int) = 0) := fun h => c_24 ((g_eq (show (1 : Int32).toInt = 1 from rfl) (show (0 : Int32).toInt = 0 from rfl)).mpr h)
      refine lv_ldc hx hb X.2.2.2.1 (X.2.2.1 _ kc_X2_18) dX2_dayBy_27 ?_
      refine lv_goto (tgt := 40) hx hb dX2_dayBy_29 (by decide) ?_
      refine lv_istore (lv' := [(5, .int (-2147483648)), (4, .int 1), (0, .ref (b + 33)), (1, .ref (b + sp u)), (2, .ref (b + q)), (3, .int a_yr)]) hx hb dX2_dayBy_40 hl (by decide) rfl (fun ls hl => ?_)
      refine lv_iload hx hb dX2_dayBy_42 (lv_at hl 1 rfl) ?_
      refine lv_if_ne (tgt := 57) hx hb dX2_dayBy_44 (by decide) (fun c_44 => ?_) (fun c_44 => ?_)
      · skip
        have k_44 : ¬ ((1 : Int) = 0) := fun h => c_44 ((g_eq (show (1 : Int32).toInt = 1 from rfl) (show (0 : Int32).toInt = 0 from rfl)).mpr h)
        refine lv_aload_n hx hb dX2_dayBy_57 rfl (lv_at hl 4 rfl) ?_
        refine q_getN X w inX1 rfl 0 (by decide) (List.mem_of_getElem? (i := 9) rfl) (k := q) ((cS_off hq).trans hfe) rfl dX2_dayBy_58 ?_
        refine lv_iconst (v := 2) hx hb dX2_dayBy_61 (by decide) ?_
        refine lv_icmp_ne (tgt := 73) hx hb dX2_dayBy_62 (by decide) (fun c_62 => ?_) (fun c_62 => ?_)
        · skip
          have k_62 : ¬ (((fe f 0).toInt) = 2) := fun h => c_62 ((g_eq (show (fe f 0).toInt = (fe f 0).toInt from rfl) (show (2 : Int32).toInt = 2 from rfl)).mpr h)
          refine lv_aload_n hx hb dX2_dayBy_73 rfl (lv_at hl 3 rfl) ?_
          refine lv_iload hx hb dX2_dayBy_74 (lv_at hl 1 rfl) ?_
          refine lv_if_eq (tgt := 86) hx hb dX2_dayBy_76 (by decide) (fun c_76 => ?_) (fun c_76 => ?_)
          · skip
            have k_76 : (1 : Int) = 0 := (g_eq (show (1 : Int32).toInt = 1 from rfl) (show (0 : Int32).toInt = 0 from rfl)).mp c_76
            exfalso; exact absurd k_76 (by decide)
          · skip
            have k_76 : ¬ ((1 : Int) = 0) := fun h => c_76 ((g_eq (show (1 : Int32).toInt = 1 from rfl) (show (0 : Int32).toInt = 0 from rfl)).mpr h)
            refine lv_aload_n hx hb dX2_dayBy_79 rfl (lv_at hl 4 rfl) ?_
            refine q_getN X w inX1 rfl 2 (by decide) (List.mem_of_getElem? (i := 11) rfl) (k := q) ((cS_off hq).trans hfe) rfl dX2_dayBy_80 ?_
            refine lv_goto (tgt := 90) hx hb dX2_dayBy_83 (by decide) ?_
            refine kk_cA X w (c_X6_calendarAt l D t b n σ0 A B P u hu (fe f 2) ((fe f 2).toInt) (show (fe f 2).toInt = (fe f 2).toInt from rfl)) v_X2_61 (rc := sp u) (cS_st hu) rfl rfl ⟨Nat.le_of_ble_eq_true rfl, Nat.le_of_ble_eq_true rfl⟩ rfl hl.1 (Nat.le_of_ble_eq_true rfl) dX2_dayBy_90 ⟨Nat.le_of_ble_eq_true rfl, Nat.le_of_ble_eq_true rfl⟩ (fun H locs w => ?_)
            obtain ⟨qc, L, C, K, fl, fc, eqc, hbc, hcp⟩ := hQ.2.1 ((fe f 2).toInt) (by omega) (by omega)
            have hcp := hcp.cS (A := A) (B := B) (P := P) hbc
            rw [if_pos (show 0 ≤ (fe f 2).toInt ∧ (fe f 2).toInt < (A (20 + 2 * u)).toInt ∧ (fe f 2).toInt < 6 by omega), eqc]
            refine lv_astore (lv' := [(6, .ref (b + qc)), (5, .int (-2147483648)), (4, .int 1), (0, .ref (b + 33)), (1, .ref (b + sp u)), (2, .ref (b + q)), (3, .int a_yr)]) hx hb dX2_dayBy_93 hl (by decide) rfl (fun ls hl => ?_)
            refine lv_aload hx hb dX2_dayBy_95 (lv_at hl 0 rfl) ?_
            refine lv_ifnonnull (tgt := 103) hx hb dX2_dayBy_97 (by decide) ?_
            refine lv_aload_n hx hb dX2_dayBy_103 rfl (lv_at hl 5 rfl) ?_
            refine q_getN X w inX1 rfl 0 (by decide) (List.mem_of_getElem? (i := 9) rfl) (k := q) ((cS_off hq).trans hfe) rfl dX2_dayBy_104 ?_
            by_cases s_0 : (fe f 0).toInt = 0
            · refine lv_tableIn (tgt := 136) hx hb dX2_dayBy_107 (by rw [(show (fe f 0).toInt = (fe f 0).toInt from rfl), s_0]; decide) (by rw [(show (fe f 0).toInt = (fe f 0).toInt from rfl), s_0]; decide) (by rw [(show (fe f 0).toInt = (fe f 0).toInt from rfl), s_0]; rfl) (by decide) ?_
              refine lv_aload hx hb dX2_dayBy_136 (lv_at hl 0 rfl) ?_
              refine lv_iload_n hx hb dX2_dayBy_138 rfl (lv_at hl 6 rfl) ?_
              refine lv_aload_n hx hb dX2_dayBy_139 rfl (lv_at hl 5 rfl) ?_
              refine q_getN X w inX1 rfl 3 (by decide) (List.mem_of_getElem? (i := 12) rfl) (k := q) ((cS_off hq).trans hfe) rfl dX2_dayBy_140 ?_
              refine lv_aload_n hx hb dX2_dayBy_143 rfl (lv_at hl 5 rfl) ?_
              refine q_getN X w inX1 rfl 4 (by decide) (List.mem_of_getElem? (i := 13) rfl) (k := q) ((cS_off hq).trans hfe) rfl dX2_dayBy_144 ?_
              refine q_cPV X w (c_X0_nearestDay l D t b n _ qc L C K fl fc _ hcp a_yr (fe f 3) (fe f 4) yr ((fe f 3).toInt) ((fe f 4).toInt) e_yr (show (fe f 3).toInt = (fe f 3).toInt from rfl) (show (fe f 4).toInt = (fe f 4).toInt from rfl) (by omega) (by omega) (by omega)) v_X2_68 (k := qc) hcp.1 rfl rfl ⟨Nat.le_of_ble_eq_true rfl, Nat.le_of_ble_eq_true rfl⟩ rfl hl.1 (Nat.le_of_ble_eq_true rfl) dX2_dayBy_147 ⟨Nat.le_of_ble_eq_true rfl, Nat.le_of_ble_eq_true rfl⟩ (fun r_147 z_147 => ?_)
              exact q_cret (post := (fun z n1 σ1 => n1 = n ∧ ∃ A1 B1, σ1 = cS t b σ0 A1 B1 P ∧ A1 = A ∧ B1 = B ∧ cC z.toInt = toC (clampD (ruled rw_ fe days f yr)))) X w dX2_dayBy_150 (rfl) ⟨rfl, _, _, rfl, by have e : ruled rw_ fe days f yr = cut (rw_ (fe f 2).toInt) yr (if (fe f 3).toInt < mcnt (rw_ (fe f 2).toInt) yr then (fe f 3).toInt else mcnt (rw_ (fe f 2).toInt) yr) (fe f 4).toInt := (by unfold ruled; rw [if_pos (by omega), if_pos (by omega)]); exact ⟨rfl, rfl, by rw [e, z_147]; exact cC_cut h_2⟩⟩
            by_cases s_1 : (fe f 0).toInt = 1
            · exfalso; omega
            by_cases s_2 : (fe f 0).toInt = 2
            · exfalso; omega
            by_cases s_3 : (fe f 0).toInt = 3
            · exfalso; omega
            exfalso; omega
        · skip
          have k_62 : ((fe f 0).toInt) = 2 := (g_eq (show (fe f 0).toInt = (fe f 0).toInt from rfl) (show (2 : Int32).toInt = 2 from rfl)).mp c_62
          exfalso; omega
      · skip
        have k_44 : (1 : Int) = 0 := (g_eq (show (1 : Int32).toInt = 1 from rfl) (show (0 : Int32).toInt = 0 from rfl)).mp c_44
        exfalso; first | exact k_44 rfl | exact absurd k_44 (by decide)
  · skip
    have k_4 : ¬ (((fe f 0).toInt) = 0) := fun h => c_4 ((g_eq (show (fe f 0).toInt = (fe f 0).toInt from rfl) (show (0 : Int32).toInt = 0 from rfl)).mpr h)
    refine lv_aload_n hx hb dX2_dayBy_7 rfl (lv_at hl 2 rfl) ?_
    refine q_getN X w inX1 rfl 0 (by decide) (List.mem_of_getElem? (i := 9) rfl) (k := q) ((cS_off hq).trans hfe) rfl dX2_dayBy_8 ?_
    refine lv_iconst (v := 1) hx hb dX2_dayBy_11 (by decide) ?_
    refine lv_icmp_ne (tgt := 19) hx hb dX2_dayBy_12 (by decide) (fun c_12 => ?_) (fun c_12 => ?_)
    · skip
      have k_12 : ¬ (((fe f 0).toInt) = 1) := fun h => c_12 ((g_eq (show (fe f 0).toInt = (fe f 0).toInt from rfl) (show (1 : Int32).toInt = 1 from rfl)).mpr h)
      refine lv_iconst (v := 0) hx hb dX2_dayBy_19 (by decide) ?_
      refine lv_istore (lv' := [(4, .int 0), (0, .ref (b + 33)), (1, .ref (b + sp u)), (2, .ref (b + q)), (3, .int a_yr)]) hx hb dX2_dayBy_20 hl (by decide) rfl (fun ls hl => ?_)
      refine lv_iload hx hb dX2_dayBy_22 (lv_at hl 0 rfl) ?_
      refine lv_if_eq (tgt := 32) hx hb dX2_dayBy_24 (by decide) (fun c_24 => ?_) (fun c_24 => ?_)
      · skip
        have k_24 : (0 : Int) = 0 := (g_eq (show (0 : Int32).toInt = 0 from rfl) (show (0 : Int32).toInt = 0 from rfl)).mp c_24
        refine lv_aload_n hx hb dX2_dayBy_32 rfl (lv_at hl 1 rfl) ?_
        refine lv_aload_n hx hb dX2_dayBy_33 rfl (lv_at hl 3 rfl) ?_
        refine q_getN X w inX1 rfl 2 (by decide) (List.mem_of_getElem? (i := 11) rfl) (k := q) ((cS_off hq).trans hfe) rfl dX2_dayBy_34 ?_
        refine q_cPV X w (c_X2_dayAt l D t b n σ0 A B P (fe f 2) ((fe f 2).toInt) (show (fe f 2).toInt = (fe f 2).toInt from rfl)) v_X2_55 (k := 33) rfl rfl rfl ⟨Nat.le_of_ble_eq_true rfl, Nat.le_of_ble_eq_true rfl⟩ rfl hl.1 (Nat.le_of_ble_eq_true rfl) dX2_dayBy_37 ⟨Nat.zero_le _, Nat.zero_le _⟩ (fun r_37 z_37 => ?_)
        have hdz : r_37.toInt = toC (days (fe f 2).toInt) := by rw [z_37, if_pos (by omega)]; exact (hd _ (by omega) (by omega)).1
        refine lv_istore (lv' := [(5, .int r_37), (4, .int 0), (0, .ref (b + 33)), (1, .ref (b + sp u)), (2, .ref (b + q)), (3, .int a_yr)]) hx hb dX2_dayBy_40 hl (by decide) rfl (fun ls hl => ?_)
        refine lv_iload hx hb dX2_dayBy_42 (lv_at hl 1 rfl) ?_
        refine lv_if_ne (tgt := 57) hx hb dX2_dayBy_44 (by decide) (fun c_44 => ?_) (fun c_44 => ?_)
        · skip
          have k_44 : ¬ ((0 : Int) = 0) := fun h => c_44 ((g_eq (show (0 : Int32).toInt = 0 from rfl) (show (0 : Int32).toInt = 0 from rfl)).mpr h)
          exfalso; exact absurd k_44 (by decide)
        · skip
          have k_44 : (0 : Int) = 0 := (g_eq (show (0 : Int32).toInt = 0 from rfl) (show (0 : Int32).toInt = 0 from rfl)).mp c_44
          refine lv_iload hx hb dX2_dayBy_47 (lv_at hl 0 rfl) ?_
          refine lv_ldc hx hb X.2.2.2.1 (X.2.2.1 _ kc_X2_18) dX2_dayBy_49 ?_
          refine lv_icmp_ne (tgt := 57) hx hb dX2_dayBy_51 (by decide) (fun c_51 => ?_) (fun c_51 => ?_)
          · skip
            have k_51 : ¬ ((toC (days (fe f 2).toInt)) = (-2147483648)) := fun h => c_51 ((g_eq hdz (show ((-2147483648) : Int32).toInt = (-2147483648) from rfl)).mpr h)
            have hne : days (fe f 2).toInt ≠ -2147483647 := fun z => k_51 (toC_n z)
            have hdb := (hd (fe f 2).toInt (by omega) (by omega)).2
            have hdr : -999999 ≤ toC (days (fe f 2).toInt) ∧ toC (days (fe f 2).toInt) ≤ 999999 := by rw [toC_d hne]; omega
            refine lv_aload_n hx hb dX2_dayBy_57 rfl (lv_at hl 4 rfl) ?_
            refine q_getN X w inX1 rfl 0 (by decide) (List.mem_of_getElem? (i := 9) rfl) (k := q) ((cS_off hq).trans hfe) rfl dX2_dayBy_58 ?_
            refine lv_iconst (v := 2) hx hb dX2_dayBy_61 (by decide) ?_
            refine lv_icmp_ne (tgt := 73) hx hb dX2_dayBy_62 (by decide) (fun c_62 => ?_) (fun c_62 => ?_)
            · skip
              have k_62 : ¬ (((fe f 0).toInt) = 2) := fun h => c_62 ((g_eq (show (fe f 0).toInt = (fe f 0).toInt from rfl) (show (2 : Int32).toInt = 2 from rfl)).mpr h)
              refine lv_aload_n hx hb dX2_dayBy_73 rfl (lv_at hl 3 rfl) ?_
              refine lv_iload hx hb dX2_dayBy_74 (lv_at hl 1 rfl) ?_
              refine lv_if_eq (tgt := 86) hx hb dX2_dayBy_76 (by decide) (fun c_76 => ?_) (fun c_76 => ?_)
              · skip
                have k_76 : (0 : Int) = 0 := (g_eq (show (0 : Int32).toInt = 0 from rfl) (show (0 : Int32).toInt = 0 from rfl)).mp c_76
                refine lv_aload_n hx hb dX2_dayBy_86 rfl (lv_at hl 4 rfl) ?_
                refine q_getN X w inX1 rfl 3 (by decide) (List.mem_of_getElem? (i := 12) rfl) (k := q) ((cS_off hq).trans hfe) rfl dX2_dayBy_87 ?_
                refine kk_cA X w (c_X6_calendarAt l D t b n σ0 A B P u hu (fe f 3) ((fe f 3).toInt) (show (fe f 3).toInt = (fe f 3).toInt from rfl)) v_X2_61 (rc := sp u) (cS_st hu) rfl rfl ⟨Nat.le_of_ble_eq_true rfl, Nat.le_of_ble_eq_true rfl⟩ rfl hl.1 (Nat.le_of_ble_eq_true rfl) dX2_dayBy_90 ⟨Nat.le_of_ble_eq_true rfl, Nat.le_of_ble_eq_true rfl⟩ (fun H locs w => ?_)
                obtain ⟨qc, L, C, K, fl, fc, eqc, hbc, hcp⟩ := hQ.2.1 ((fe f 3).toInt) (by omega) (by omega)
                have hcp := hcp.cS (A := A) (B := B) (P := P) hbc
                rw [if_pos (show 0 ≤ (fe f 3).toInt ∧ (fe f 3).toInt < (A (20 + 2 * u)).toInt ∧ (fe f 3).toInt < 6 by omega), eqc]
                refine lv_astore (lv' := [(6, .ref (b + qc)), (5, .int r_37), (4, .int 0), (0, .ref (b + 33)), (1, .ref (b + sp u)), (2, .ref (b + q)), (3, .int a_yr)]) hx hb dX2_dayBy_93 hl (by decide) rfl (fun ls hl => ?_)
                refine lv_aload hx hb dX2_dayBy_95 (lv_at hl 0 rfl) ?_
                refine lv_ifnonnull (tgt := 103) hx hb dX2_dayBy_97 (by decide) ?_
                refine lv_aload_n hx hb dX2_dayBy_103 rfl (lv_at hl 5 rfl) ?_
                refine q_getN X w inX1 rfl 0 (by decide) (List.mem_of_getElem? (i := 9) rfl) (k := q) ((cS_off hq).trans hfe) rfl dX2_dayBy_104 ?_
                by_cases s_0 : (fe f 0).toInt = 0
                · exfalso; omega
                by_cases s_1 : (fe f 0).toInt = 1
                · exfalso; omega
                by_cases s_2 : (fe f 0).toInt = 2
                · exfalso; omega
                by_cases s_3 : (fe f 0).toInt = 3
                · refine lv_tableIn (tgt := 170) hx hb dX2_dayBy_107 (by rw [(show (fe f 0).toInt = (fe f 0).toInt from rfl), s_3]; decide) (by rw [(show (fe f 0).toInt = (fe f 0).toInt from rfl), s_3]; decide) (by rw [(show (fe f 0).toInt = (fe f 0).toInt from rfl), s_3]; rfl) (by decide) ?_
                  refine lv_aload hx hb dX2_dayBy_170 (lv_at hl 0 rfl) ?_
                  refine lv_iload hx hb dX2_dayBy_172 (lv_at hl 1 rfl) ?_
                  refine lv_aload_n hx hb dX2_dayBy_174 rfl (lv_at hl 5 rfl) ?_
                  refine q_getN X w inX1 rfl 4 (by decide) (List.mem_of_getElem? (i := 13) rfl) (k := q) ((cS_off hq).trans hfe) rfl dX2_dayBy_175 ?_
                  refine q_cPV X w (c_X0_nextWeekday l D t b n _ qc L C K fl fc _ hcp r_37 (fe f 4) (toC (days (fe f 2).toInt)) ((fe f 4).toInt) hdz (show (fe f 4).toInt = (fe f 4).toInt from rfl) (by omega) (by omega)) v_X2_81 (k := qc) hcp.1 rfl rfl ⟨Nat.le_of_ble_eq_true rfl, Nat.le_of_ble_eq_true rfl⟩ rfl hl.1 (Nat.le_of_ble_eq_true rfl) dX2_dayBy_178 ⟨Nat.le_of_ble_eq_true rfl, Nat.le_of_ble_eq_true rfl⟩ (fun r_178 z_178 => ?_)
                  exact q_cret (post := (fun z n1 σ1 => n1 = n ∧ ∃ A1 B1, σ1 = cS t b σ0 A1 B1 P ∧ A1 = A ∧ B1 = B ∧ cC z.toInt = toC (clampD (ruled rw_ fe days f yr)))) X w dX2_dayBy_181 (rfl) ⟨rfl, _, _, rfl, by have e : ruled rw_ fe days f yr = wfrom (rw_ (fe f 3).toInt) (days (fe f 2).toInt) (fe f 4).toInt := (by unfold ruled; rw [if_neg (by omega), if_neg hne, if_neg (by omega), if_pos (by omega)]); exact ⟨rfl, rfl, by rw [e]; exact cC_of (z_178.trans (by rw [toC_d hne]))⟩⟩
                refine lv_tableOut (tgt := 182) hx hb dX2_dayBy_107 (by rw [(show (fe f 0).toInt = (fe f 0).toInt from rfl)]; omega) (by decide) ?_
                refine lv_aload hx hb dX2_dayBy_182 (lv_at hl 0 rfl) ?_
                refine lv_iload hx hb dX2_dayBy_184 (lv_at hl 1 rfl) ?_
                refine lv_aload_n hx hb dX2_dayBy_186 rfl (lv_at hl 5 rfl) ?_
                refine q_getN X w inX1 rfl 4 (by decide) (List.mem_of_getElem? (i := 13) rfl) (k := q) ((cS_off hq).trans hfe) rfl dX2_dayBy_187 ?_
                refine q_cPV X w (c_X0_nextNumbered l D t b n _ qc L C K fl fc _ hcp r_37 (fe f 4) (toC (days (fe f 2).toInt)) ((fe f 4).toInt) hdz (show (fe f 4).toInt = (fe f 4).toInt from rfl) (by omega) (by omega)) v_X2_85 (k := qc) hcp.1 rfl rfl ⟨Nat.le_of_ble_eq_true rfl, Nat.le_of_ble_eq_true rfl⟩ rfl hl.1 (Nat.le_of_ble_eq_true rfl) dX2_dayBy_190 ⟨Nat.le_of_ble_eq_true rfl, Nat.le_of_ble_eq_true rfl⟩ (fun r_190 z_190 => ?_)
                exact q_cret (post := (fun z n1 σ1 => n1 = n ∧ ∃ A1 B1, σ1 = cS t b σ0 A1 B1 P ∧ A1 = A ∧ B1 = B ∧ cC z.toInt = toC (clampD (ruled rw_ fe days f yr)))) X w dX2_dayBy_193 (rfl) ⟨rfl, _, _, rfl, by have e : ruled rw_ fe days f yr = nfrom (rw_ (fe f 3).toInt) (days (fe f 2).toInt) (fe f 4).toInt := (by unfold ruled; rw [if_neg (by omega), if_neg hne, if_neg (by omega), if_neg (by omega)]); exact ⟨rfl, rfl, by rw [e]; exact cC_of (z_190.trans (by rw [toC_d hne]))⟩⟩
              · skip
                have k_76 : ¬ ((0 : Int) = 0) := fun h => c_76 ((g_eq (show (0 : Int32).toInt = 0 from rfl) (show (0 : Int32).toInt = 0 from rfl)).mpr h)
                exfalso; first | exact k_76 rfl | exact absurd k_76 (by decide)
            · skip
              have k_62 : ((fe f 0).toInt) = 2 := (g_eq (show (fe f 0).toInt = (fe f 0).toInt from rfl) (show (2 : Int32).toInt = 2 from rfl)).mp c_62
              refine lv_iload hx hb dX2_dayBy_65 (lv_at hl 0 rfl) ?_
              refine lv_aload_n hx hb dX2_dayBy_67 rfl (lv_at hl 4 rfl) ?_
              refine q_getN X w inX1 rfl 3 (by decide) (List.mem_of_getElem? (i := 12) rfl) (k := q) ((cS_off hq).trans hfe) rfl dX2_dayBy_68 ?_
              refine lv_iadd hx hb dX2_dayBy_71 ?_
              refine lv_topi (fun x_71 e_71 => ?_)
              have p_71 : x_71.toInt = ((toC (days (fe f 2).toInt)) + ((fe f 3).toInt)) := by rw [e_71]; exact t_add hdz (show (fe f 3).toInt = (fe f 3).toInt from rfl) (by omega) (by omega)
              exact q_cret (post := (fun z n1 σ1 => n1 = n ∧ ∃ A1 B1, σ1 = cS t b σ0 A1 B1 P ∧ A1 = A ∧ B1 = B ∧ cC z.toInt = toC (clampD (ruled rw_ fe days f yr)))) X w dX2_dayBy_72 (rfl) ⟨rfl, _, _, rfl, by have e : ruled rw_ fe days f yr = days (fe f 2).toInt + (fe f 3).toInt := (by unfold ruled; rw [if_neg (by omega), if_neg hne, if_pos k_62]); exact ⟨rfl, rfl, by rw [e]; exact cC_of ((p_71.trans (by rw [toC_d hne])).trans (toC_d (by have := (hd (fe f 2).toInt (by omega) (by omega)).2; omega)).symm)⟩⟩
          · skip
            have k_51 : (toC (days (fe f 2).toInt)) = (-2147483648) := (g_eq hdz (show ((-2147483648) : Int32).toInt = (-2147483648) from rfl)).mp c_51
            refine lv_ldc hx hb X.2.2.2.1 (X.2.2.1 _ kc_X2_18) dX2_dayBy_54 ?_
            exact q_cret (post := (fun z n1 σ1 => n1 = n ∧ ∃ A1 B1, σ1 = cS t b σ0 A1 B1 P ∧ A1 = A ∧ B1 = B ∧ cC z.toInt = toC (clampD (ruled rw_ fe days f yr)))) X w dX2_dayBy_56 (rfl) ⟨rfl, _, _, rfl, by have e : ruled rw_ fe days f yr = -2147483647 := (by unfold ruled; rw [if_neg (by omega), if_pos ((toC_in (hd _ (by omega) (by omega)).2).mp k_51)]); exact ⟨rfl, rfl, cC_of (by rw [e]; rfl)⟩⟩
      · skip
        have k_24 : ¬ ((0 : Int) = 0) := fun h => c_24 ((g_eq (show (0 : Int32).toInt = 0 from rfl) (show (0 : Int32).toInt = 0 from rfl)).mpr h)
        exfalso; first | exact k_24 rfl | exact absurd k_24 (by decide)
    · skip
      have k_12 : ((fe f 0).toInt) = 1 := (g_eq (show (fe f 0).toInt = (fe f 0).toInt from rfl) (show (1 : Int32).toInt = 1 from rfl)).mp c_12
      refine lv_iconst (v := 1) hx hb dX2_dayBy_15 (by decide) ?_
      refine lv_goto (tgt := 20) hx hb dX2_dayBy_16 (by decide) ?_
      refine lv_istore (lv' := [(4, .int 1), (0, .ref (b + 33)), (1, .ref (b + sp u)), (2, .ref (b + q)), (3, .int a_yr)]) hx hb dX2_dayBy_20 hl (by decide) rfl (fun ls hl => ?_)
      refine lv_iload hx hb dX2_dayBy_22 (lv_at hl 0 rfl) ?_
      refine lv_if_eq (tgt := 32) hx hb dX2_dayBy_24 (by decide) (fun c_24 => ?_) (fun c_24 => ?_)
      · skip
        have k_24 : (1 : Int) = 0 := (g_eq (show (1 : Int32).toInt = 1 from rfl) (show (0 : Int32).toInt = 0 from rfl)).mp c_24
        exfalso; exact absurd k_24 (by decide)
      · skip
        have k_24 : ¬ ((1 : Int) = 0) := fun h => c_24 ((g_eq (show (1 : Int32).toInt = 1 from rfl) (show (0 : Int32).toInt = 0 from rfl)).mpr h)
        refine lv_ldc hx hb X.2.2.2.1 (X.2.2.1 _ kc_X2_18) dX2_dayBy_27 ?_
        refine lv_goto (tgt := 40) hx hb dX2_dayBy_29 (by decide) ?_
        refine lv_istore (lv' := [(5, .int (-2147483648)), (4, .int 1), (0, .ref (b + 33)), (1, .ref (b + sp u)), (2, .ref (b + q)), (3, .int a_yr)]) hx hb dX2_dayBy_40 hl (by decide) rfl (fun ls hl => ?_)
        refine lv_iload hx hb dX2_dayBy_42 (lv_at hl 1 rfl) ?_
        refine lv_if_ne (tgt := 57) hx hb dX2_dayBy_44 (by decide) (fun c_44 => ?_) (fun c_44 => ?_)
        · skip
          have k_44 : ¬ ((1 : Int) = 0) := fun h => c_44 ((g_eq (show (1 : Int32).toInt = 1 from rfl) (show (0 : Int32).toInt = 0 from rfl)).mpr h)
          refine lv_aload_n hx hb dX2_dayBy_57 rfl (lv_at hl 4 rfl) ?_
          refine q_getN X w inX1 rfl 0 (by decide) (List.mem_of_getElem? (i := 9) rfl) (k := q) ((cS_off hq).trans hfe) rfl dX2_dayBy_58 ?_
          refine lv_iconst (v := 2) hx hb dX2_dayBy_61 (by decide) ?_
          refine lv_icmp_ne (tgt := 73) hx hb dX2_dayBy_62 (by decide) (fun c_62 => ?_) (fun c_62 => ?_)
          · skip
            have k_62 : ¬ (((fe f 0).toInt) = 2) := fun h => c_62 ((g_eq (show (fe f 0).toInt = (fe f 0).toInt from rfl) (show (2 : Int32).toInt = 2 from rfl)).mpr h)
            refine lv_aload_n hx hb dX2_dayBy_73 rfl (lv_at hl 3 rfl) ?_
            refine lv_iload hx hb dX2_dayBy_74 (lv_at hl 1 rfl) ?_
            refine lv_if_eq (tgt := 86) hx hb dX2_dayBy_76 (by decide) (fun c_76 => ?_) (fun c_76 => ?_)
            · skip
              have k_76 : (1 : Int) = 0 := (g_eq (show (1 : Int32).toInt = 1 from rfl) (show (0 : Int32).toInt = 0 from rfl)).mp c_76
              exfalso; exact absurd k_76 (by decide)
            · skip
              have k_76 : ¬ ((1 : Int) = 0) := fun h => c_76 ((g_eq (show (1 : Int32).toInt = 1 from rfl) (show (0 : Int32).toInt = 0 from rfl)).mpr h)
              refine lv_aload_n hx hb dX2_dayBy_79 rfl (lv_at hl 4 rfl) ?_
              refine q_getN X w inX1 rfl 2 (by decide) (List.mem_of_getElem? (i := 11) rfl) (k := q) ((cS_off hq).trans hfe) rfl dX2_dayBy_80 ?_
              refine lv_goto (tgt := 90) hx hb dX2_dayBy_83 (by decide) ?_
              refine kk_cA X w (c_X6_calendarAt l D t b n σ0 A B P u hu (fe f 2) ((fe f 2).toInt) (show (fe f 2).toInt = (fe f 2).toInt from rfl)) v_X2_61 (rc := sp u) (cS_st hu) rfl rfl ⟨Nat.le_of_ble_eq_true rfl, Nat.le_of_ble_eq_true rfl⟩ rfl hl.1 (Nat.le_of_ble_eq_true rfl) dX2_dayBy_90 ⟨Nat.le_of_ble_eq_true rfl, Nat.le_of_ble_eq_true rfl⟩ (fun H locs w => ?_)
              obtain ⟨qc, L, C, K, fl, fc, eqc, hbc, hcp⟩ := hQ.2.1 ((fe f 2).toInt) (by omega) (by omega)
              have hcp := hcp.cS (A := A) (B := B) (P := P) hbc
              rw [if_pos (show 0 ≤ (fe f 2).toInt ∧ (fe f 2).toInt < (A (20 + 2 * u)).toInt ∧ (fe f 2).toInt < 6 by omega), eqc]
              refine lv_astore (lv' := [(6, .ref (b + qc)), (5, .int (-2147483648)), (4, .int 1), (0, .ref (b + 33)), (1, .ref (b + sp u)), (2, .ref (b + q)), (3, .int a_yr)]) hx hb dX2_dayBy_93 hl (by decide) rfl (fun ls hl => ?_)
              refine lv_aload hx hb dX2_dayBy_95 (lv_at hl 0 rfl) ?_
              refine lv_ifnonnull (tgt := 103) hx hb dX2_dayBy_97 (by decide) ?_
              refine lv_aload_n hx hb dX2_dayBy_103 rfl (lv_at hl 5 rfl) ?_
              refine q_getN X w inX1 rfl 0 (by decide) (List.mem_of_getElem? (i := 9) rfl) (k := q) ((cS_off hq).trans hfe) rfl dX2_dayBy_104 ?_
              by_cases s_0 : (fe f 0).toInt = 0
              · exfalso; omega
              by_cases s_1 : (fe f 0).toInt = 1
              · refine lv_tableIn (tgt := 151) hx hb dX2_dayBy_107 (by rw [(show (fe f 0).toInt = (fe f 0).toInt from rfl), s_1]; decide) (by rw [(show (fe f 0).toInt = (fe f 0).toInt from rfl), s_1]; decide) (by rw [(show (fe f 0).toInt = (fe f 0).toInt from rfl), s_1]; rfl) (by decide) ?_
                refine lv_aload hx hb dX2_dayBy_151 (lv_at hl 0 rfl) ?_
                refine lv_iload_n hx hb dX2_dayBy_153 rfl (lv_at hl 6 rfl) ?_
                refine lv_aload_n hx hb dX2_dayBy_154 rfl (lv_at hl 5 rfl) ?_
                refine q_getN X w inX1 rfl 3 (by decide) (List.mem_of_getElem? (i := 12) rfl) (k := q) ((cS_off hq).trans hfe) rfl dX2_dayBy_155 ?_
                refine lv_aload_n hx hb dX2_dayBy_158 rfl (lv_at hl 5 rfl) ?_
                refine q_getN X w inX1 rfl 4 (by decide) (List.mem_of_getElem? (i := 13) rfl) (k := q) ((cS_off hq).trans hfe) rfl dX2_dayBy_159 ?_
                refine lv_aload_n hx hb dX2_dayBy_162 rfl (lv_at hl 5 rfl) ?_
                refine q_getN X w inX1 rfl 5 (by decide) (List.mem_of_getElem? (i := 14) rfl) (k := q) ((cS_off hq).trans hfe) rfl dX2_dayBy_163 ?_
                refine q_cPV X w (c_X0_weekdayInMonth l D t b n _ qc L C K fl fc _ hcp a_yr (fe f 3) (fe f 4) (fe f 5) yr ((fe f 3).toInt) ((fe f 4).toInt) ((fe f 5).toInt) e_yr (show (fe f 3).toInt = (fe f 3).toInt from rfl) (show (fe f 4).toInt = (fe f 4).toInt from rfl) (show (fe f 5).toInt = (fe f 5).toInt from rfl) (by omega) (by omega) (by omega) (by omega)) v_X2_77 (k := qc) hcp.1 rfl rfl ⟨Nat.le_of_ble_eq_true rfl, Nat.le_of_ble_eq_true rfl⟩ rfl hl.1 (Nat.le_of_ble_eq_true rfl) dX2_dayBy_166 ⟨Nat.le_of_ble_eq_true rfl, Nat.le_of_ble_eq_true rfl⟩ (fun r_166 z_166 => ?_)
                exact q_cret (post := (fun z n1 σ1 => n1 = n ∧ ∃ A1 B1, σ1 = cS t b σ0 A1 B1 P ∧ A1 = A ∧ B1 = B ∧ cC z.toInt = toC (clampD (ruled rw_ fe days f yr)))) X w dX2_dayBy_169 (rfl) ⟨rfl, _, _, rfl, by have e : ruled rw_ fe days f yr = win (rw_ (fe f 2).toInt) yr (if (fe f 3).toInt < mcnt (rw_ (fe f 2).toInt) yr then (fe f 3).toInt else mcnt (rw_ (fe f 2).toInt) yr) (fe f 4).toInt (fe f 5).toInt := (by unfold ruled; rw [if_pos (by omega), if_neg (by omega)]); exact ⟨rfl, rfl, by rw [e]; exact cC_of z_166⟩⟩
              by_cases s_2 : (fe f 0).toInt = 2
              · exfalso; omega
              by_cases s_3 : (fe f 0).toInt = 3
              · exfalso; omega
              exfalso; omega
          · skip
            have k_62 : ((fe f 0).toInt) = 2 := (g_eq (show (fe f 0).toInt = (fe f 0).toInt from rfl) (show (2 : Int32).toInt = 2 from rfl)).mp c_62
            exfalso; omega
        · skip
          have k_44 : (1 : Int) = 0 := (g_eq (show (1 : Int32).toInt = 1 from rfl) (show (0 : Int32).toInt = 0 from rfl)).mp c_44
          exfalso; first | exact k_44 rfl | exact absurd k_44 (by decide)
