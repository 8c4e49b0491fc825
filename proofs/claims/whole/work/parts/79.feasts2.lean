section
variable {t : Nat → ClassId} {b : Nat} {σ0 : qM} {A : Nat → Int32} {B : Nat → Nat → Int32} {P : Nat → Nat → Option Nat}
theorem cS_r34 {f : Nat → Int32} : va_up (cS t b σ0 A B P) 34 (some (.inl (t 0, 8, .inl f))) = cS t b σ0 A (va_up B 4 f) P := (ovl_set (Nat.le_of_ble_eq_true rfl)).trans rfl
theorem cS_r35 {f : Nat → Int32} : va_up (cS t b σ0 A B P) 35 (some (.inl (t 0, 8, .inl f))) = cS t b σ0 A (va_up B 5 f) P := (ovl_set (Nat.le_of_ble_eq_true rfl)).trans rfl
end
theorem plQ_n {B : Nat → Nat → Int32} {rk days pl : Int → Int} {nf r f : Int} (h : plQ B nf (plI rk days nf r pl (if f < nf then f else nf).toNat)) (h0 : 0 ≤ f) (hn : ¬ (f < nf ∧ rk f = r ∧ days f ≠ -2147483647)) : plQ B nf (plI rk days nf r pl (if f + 1 < nf then f + 1 else nf).toNat) := by
  by_cases c : f < nf
  · rw [if_pos c] at h
    have e : plI rk days nf r pl (f + 1).toNat = plI rk days nf r pl f.toNat := plI_n h0 (fun z => hn ⟨c, z⟩)
    rw [show (if f + 1 < nf then f + 1 else nf) = f + 1 by split <;> omega, e]
    exact h
  · rw [if_neg c] at h
    rw [if_neg (by omega)]
    exact h
theorem plQ_p {B : Nat → Nat → Int32} {rk days pl : Int → Int} {nf r f : Int} {v : Int32} (h : plQ B nf (plI rk days nf r pl (if f < nf then f else nf).toNat)) (h0 : 0 ≤ f) (h1 : f < nf) (h8 : nf ≤ 8) (hk : rk f = r ∧ days f ≠ -2147483647) (hv : v.toInt = frN (plB B) 8 8 (days f)) (hd : -999999 ≤ days f) : plQ (va_up B 5 (upd (B 5) f.toNat v)) nf (plI rk days nf r pl (if f + 1 < nf then f + 1 else nf).toNat) := by
  rw [if_pos h1] at h
  rw [show (if f + 1 < nf then f + 1 else nf) = f + 1 by split <;> omega]
  have e : ∀ j : Int, plI rk days nf r pl (f + 1).toNat j = if j = f then frN (plI rk days nf r pl f.toNat) nf 8 (days f) else plI rk days nf r pl f.toNat j := plI_p h0 hk
  have hb := frN_bd (plI rk days nf r pl f.toNat) nf 8 (days f)
  refine ⟨fun j j0 j8 => ?_, fun j hj => ?_⟩
  · rw [e, va_up_self]
    by_cases c : j = f
    · rw [if_pos c, c, upd_s, hv, h.fr h8 hd, toC_d (by omega)]
    · rw [if_neg c, upd_n _ _ (by omega)]
      exact h.1 j j0 j8
  · rw [e, if_neg (by omega)]
    exact h.2 j hj

set_option maxHeartbeats 2000000 in
set_option maxRecDepth 100000 in
theorem c_X2_find (l : Launch) (D : va_G) (t : Nat → ClassId) (b n : Nat) (σ0 : qM) (A : Nat → Int32) (B : Nat → Nat → Int32) (P : Nat → Nat → Option Nat) (rw_ : Int → Row) (fe : Int → Int → Int32) (u : Nat) (hu : u < 8) (hQ : stQ t b σ0 A P u rw_ fe) (a_many : Int32) (a_yr : Int32) (many : Int) (yr : Int) (e_many : a_many.toInt = many) (e_yr : a_yr.toInt = yr) (h_1 : -2000 ≤ yr ∧ yr ≤ 2000) (h_2 : 0 ≤ many ∧ many ≤ (A (21 + 2 * u)).toInt) : kV l yX2_find cX2_find 7 7 D t b n σ0 A B P [.ref (b + 33), .ref (b + sp u), .int a_many, .int a_yr] (fun A1 B1 => A1 = A ∧ kpR [4] B B1 ∧ (∀ j : Int, 0 ≤ j → j < many → (B1 4 j.toNat).toInt = toC (fday rw_ fe yr j)) ∧ (∀ j : Int, many ≤ j → j < 8 → (B1 4 j.toNat).toInt = -2147483648)) := by
  refine qV.of (by decide +kernel) (Nat.le_of_ble_eq_true rfl) (fun p e s m args below meth c X w _ ls hl => ?_)
  have hx := X.1
  have hb := X.2.1
  have hl : lv_has ls 7 [(0, .ref (b + 33)), (1, .ref (b + sp u)), (2, .int a_many), (3, .int a_yr)] := hl
  have hnn := hQ.1
  refine lv_aload_n hx hb dX2_find_0 rfl (lv_at hl 0 rfl) ?_
  refine kg_X2_days X w dX2_find_1 ?_
  refine lv_ldc hx hb X.2.2.2.1 (X.2.2.1 _ kc_X2_18) dX2_find_4 ?_
  refine q_cVS X w (c_J7_fill l D t b n _ 34 (B 4) (-2147483648) rfl) v_X2_19 rfl ⟨Nat.le_of_ble_eq_true rfl, Nat.le_of_ble_eq_true rfl⟩ rfl hl.1 (Nat.le_of_ble_eq_true rfl) dX2_find_6 ⟨Nat.le_of_ble_eq_true rfl, Nat.le_of_ble_eq_true rfl⟩ (fun n_6 σ_6 H locs z_6 w => ?_)
  obtain ⟨en_6, f_6, es_6, hf_6⟩ := z_6
  rw [en_6, es_6, cS_r34] at w
  refine lv_iconst (v := 0) hx hb dX2_find_9 (by decide) ?_
  refine lv_istore (lv' := [(4, .int 0), (0, .ref (b + 33)), (1, .ref (b + sp u)), (2, .int a_many), (3, .int a_yr)]) hx hb dX2_find_10 hl (by decide) rfl (fun ls hl => ?_)
  refine q_loop (α := Int32 × Int × (Nat → Nat → Int32)) (fun a => a.1.toInt = a.2.1 ∧ ((0 ≤ a.2.1 ∧ a.2.1 ≤ many) ∧ kpR [4] B a.2.2 ∧ (∀ j : Int, 0 ≤ j → j < a.2.1 → (a.2.2 4 j.toNat).toInt = toC (fday rw_ fe yr j)) ∧ (∀ j : Int, a.2.1 ≤ j → j < 8 → (a.2.2 4 j.toNat).toInt = -2147483648))) (fun a => (many - a.2.1).toNat) (fun a => ∀ (H : Heap) (locs : List Loc), qW D b n (cS t b σ0 A a.2.2 P) s H locs → ∀ ls : Array Slot, lv_has ls 7 [(4, .int a.1), (0, .ref (b + 33)), (1, .ref (b + sp u)), (2, .int a_many), (3, .int a_yr)] → W p l e (qR 7 0 0) s m args below meth c H locs 0 0 (MQ below (va_Qv (S := Nat × qM) (fun z7 => (fun n1 σ1 => n1 = n ∧ ∃ A1 B1, σ1 = cS t b σ0 A1 B1 P ∧ A1 = A ∧ kpR [4] B B1 ∧ (∀ j : Int, 0 ≤ j → j < many → (B1 4 j.toNat).toInt = toC (fday rw_ fe yr j)) ∧ (∀ j : Int, many ≤ j → j < 8 → (B1 4 j.toNat).toInt = -2147483648)) z7.1 z7.2) (fun z7 T => WB D b z7.1 z7.2 T.heap) (fun q => b ≤ q)) args s 0 0 (fun q => b ≤ q)) (F0 m 12 ls [])) ?_ ⟨0, 0, (va_up B 4 f_6)⟩ ⟨(show (0 : Int32).toInt = 0 from rfl), by dsimp only; exact ⟨by omega, kpR.up kpR.rf (by decide), fun j j0 j1 => by omega, fun j j0 j1 => by rw [va_up_self, hf_6 _ (by omega)]; rfl⟩⟩ _ _ w ls (lv_sub hl [0, 1, 2, 3, 4] rfl)
  rintro ⟨v_i, i, R_L12⟩ ⟨q_i, inv_12⟩ ih_12 H locs w ls hl
  dsimp only at q_i inv_12 hl w
  refine lv_iload hx hb dX2_find_12 (lv_at hl 0 rfl) ?_
  refine lv_iload_n hx hb dX2_find_14 rfl (lv_at hl 3 rfl) ?_
  refine lv_icmp_ge (tgt := 79) hx hb dX2_find_15 (by decide) (fun c_15 => ?_) (fun c_15 => ?_)
  · skip
    have k_15 : many ≤ i := (g_le e_many q_i).mp c_15
    exact q_vret (post := (fun n1 σ1 => n1 = n ∧ ∃ A1 B1, σ1 = cS t b σ0 A1 B1 P ∧ A1 = A ∧ kpR [4] B B1 ∧ (∀ j : Int, 0 ≤ j → j < many → (B1 4 j.toNat).toInt = toC (fday rw_ fe yr j)) ∧ (∀ j : Int, many ≤ j → j < 8 → (B1 4 j.toNat).toInt = -2147483648))) X w dX2_find_79 ⟨rfl, _, _, rfl, rfl, by exact ⟨inv_12.2.1, fun j j0 j1 => inv_12.2.2.1 j j0 (by omega), fun j j0 j1 => inv_12.2.2.2 j (by omega) j1⟩⟩
  · skip
    have k_15 : ¬ (many ≤ i) := fun h => c_15 ((g_le e_many q_i).mpr h)
    refine lv_iload hx hb dX2_find_18 (lv_at hl 0 rfl) ?_
    refine lv_aload_n hx hb dX2_find_20 rfl (lv_at hl 1 rfl) ?_
    refine kg_X2_days X w dX2_find_21 ?_
    refine kn_4 X w dX2_find_24 ?_
    refine lv_icmp_ge (tgt := 79) hx hb dX2_find_25 (by decide) (fun c_25 => ?_) (fun c_25 => ?_)
    · skip
      have k_25 : 8 ≤ i := (g_le (show (8 : Int32).toInt = 8 from rfl) q_i).mp c_25
      exfalso; omega
    · skip
      have k_25 : ¬ (8 ≤ i) := fun h => c_25 ((g_le (show (8 : Int32).toInt = 8 from rfl) q_i).mpr h)
      refine lv_aload_n hx hb dX2_find_28 rfl (lv_at hl 2 rfl) ?_
      refine lv_iload hx hb dX2_find_29 (lv_at hl 0 rfl) ?_
      refine kk_cA X w (c_X6_feastAt l D t b n σ0 A R_L12 P u hu v_i i q_i) v_X2_25 (rc := sp u) (cS_st hu) rfl rfl ⟨Nat.le_of_ble_eq_true rfl, Nat.le_of_ble_eq_true rfl⟩ rfl hl.1 (Nat.le_of_ble_eq_true rfl) dX2_find_31 ⟨Nat.le_of_ble_eq_true rfl, Nat.le_of_ble_eq_true rfl⟩ (fun H locs w => ?_)
      obtain ⟨q, eqf, hq, hfe⟩ := hQ.2.2.1 i (by omega) (by omega)
      rw [if_pos (show 0 ≤ i ∧ i < (A (21 + 2 * u)).toInt ∧ i < 8 by omega), eqf]
      refine lv_astore (lv' := [(5, .ref (b + q)), (4, .int v_i), (0, .ref (b + 33)), (1, .ref (b + sp u)), (2, .int a_many), (3, .int a_yr)]) hx hb dX2_find_34 hl (by decide) rfl (fun ls hl => ?_)
      refine lv_aload hx hb dX2_find_36 (lv_at hl 0 rfl) ?_
      refine lv_ifnull hx hb dX2_find_38 ?_
      refine lv_aload_n hx hb dX2_find_41 rfl (lv_at hl 2 rfl) ?_
      refine lv_aload_n hx hb dX2_find_42 rfl (lv_at hl 3 rfl) ?_
      refine lv_aload hx hb dX2_find_43 (lv_at hl 0 rfl) ?_
      refine lv_iload_n hx hb dX2_find_45 rfl (lv_at hl 5 rfl) ?_
      refine kk_cCIR X w (c_X2_dayBy l D t b n σ0 A R_L12 P rw_ fe u hu hQ (fday rw_ fe yr) i (⟨by omega, by omega⟩) q hq hfe (fun g g0 g1 => ⟨inv_12.2.2.1 g g0 g1, fday_bd g0⟩) a_yr yr e_yr (by first | assumption | omega)) v_X2_31 rfl rfl rfl ⟨Nat.le_of_ble_eq_true rfl, Nat.le_of_ble_eq_true rfl⟩ rfl hl.1 (Nat.le_of_ble_eq_true rfl) dX2_find_46 ⟨Nat.zero_le _, Nat.zero_le _⟩ (fun r_46 A_46 B_46 H locs z_46 w => ?_)
      rw [z_46.1, z_46.2.1] at w
      refine lv_istore (lv' := [(6, .int r_46), (5, .ref (b + q)), (4, .int v_i), (0, .ref (b + 33)), (1, .ref (b + sp u)), (2, .int a_many), (3, .int a_yr)]) hx hb dX2_find_49 hl (by decide) rfl (fun ls hl => ?_)
      refine lv_aload_n hx hb dX2_find_51 rfl (lv_at hl 3 rfl) ?_
      refine kg_X2_days X w dX2_find_52 ?_
      refine lv_iload hx hb dX2_find_55 (lv_at hl 2 rfl) ?_
      refine lv_iload hx hb dX2_find_57 (lv_at hl 0 rfl) ?_
      refine q_cPSN X w (c_X8_isDay l r_46 (r_46).toInt rfl D t b n (cS t b σ0 A R_L12 P)) nv_X2_35 rfl ⟨Nat.le_of_ble_eq_true rfl, Nat.le_of_ble_eq_true rfl⟩ rfl hl.1 (Nat.le_of_ble_eq_true rfl) dX2_find_59 ⟨Nat.zero_le _, Nat.zero_le _⟩ (fun r_59 z_59 => ?_)
      refine lv_if_eq (tgt := 70) hx hb dX2_find_62 (by decide) (fun c_62 => ?_) (fun c_62 => ?_)
      · skip
        rw [z_59] at c_62
        have k_62 := bI_f.mp c_62
        refine lv_ldc hx hb X.2.2.2.1 (X.2.2.1 _ kc_X2_18) dX2_find_70 ?_
        refine ks_4 (x := (-2147483648)) X w (g_in q_i (by omega)) dX2_find_72 (fun H locs w => ?_)
        rw [g_tn (show v_i.toInt = i from q_i)] at w
        obtain ⟨x_73, e_73⟩ : ∃ z : Int32, z = (v_i + 1) := ⟨_, rfl⟩
        have p_73 : x_73.toInt = (i + 1) := by rw [e_73]; exact t_add q_i (show (1 : Int32).toInt = 1 from rfl) (by omega) (by omega)
        refine lv_iinc (v := x_73) (lv' := [(4, .int x_73), (6, .int r_46), (5, .ref (b + q)), (0, .ref (b + 33)), (1, .ref (b + sp u)), (2, .int a_many), (3, .int a_yr)]) hx hb dX2_find_73 hl (k := 2) rfl (by rw [e_73]; rfl) (by decide) rfl (fun ls hl => ?_)
        refine lv_goto (tgt := 12) hx hb dX2_find_76 (by decide) ?_
        refine ih_12 ⟨x_73, (i + 1), (va_up R_L12 4 (upd (R_L12 4) i.toNat (-2147483648)))⟩ ⟨p_73, by dsimp only; have hv : (-2147483648 : Int) = toC (fday rw_ fe yr i) := (by rw [fday_eq (d1 := fday rw_ fe yr) (by omega) (hQ.2.2.2 i (by omega) (by omega)) (fun _ _ _ => rfl), ← z_46.2.2]; exact (if_neg k_62).symm); exact ⟨by omega, inv_12.2.1.up (by decide), fun j j0 j1 => by rw [va_up_self]; by_cases c : j = i; (rw [c, upd_s]; exact (show _ = _ from hv)); (rw [upd_n _ _ (by omega)]; exact inv_12.2.2.1 j j0 (by omega)), fun j j0 j1 => by rw [va_up_self, upd_n _ _ (by omega)]; exact inv_12.2.2.2 j (by omega) j1⟩⟩ (by dsimp only; omega) _ _ w ls (lv_sub hl [0, 3, 4, 5, 6] rfl)
      · skip
        rw [z_59] at c_62
        have k_62 := bI_t.mp c_62
        refine lv_iload hx hb dX2_find_65 (lv_at hl 0 rfl) ?_
        refine lv_goto (tgt := 72) hx hb dX2_find_67 (by decide) ?_
        refine ks_4 (x := r_46) X w (g_in q_i (by omega)) dX2_find_72 (fun H locs w => ?_)
        rw [g_tn (show v_i.toInt = i from q_i)] at w
        obtain ⟨x_73, e_73⟩ : ∃ z : Int32, z = (v_i + 1) := ⟨_, rfl⟩
        have p_73 : x_73.toInt = (i + 1) := by rw [e_73]; exact t_add q_i (show (1 : Int32).toInt = 1 from rfl) (by omega) (by omega)
        refine lv_iinc (v := x_73) (lv' := [(4, .int x_73), (6, .int r_46), (5, .ref (b + q)), (0, .ref (b + 33)), (1, .ref (b + sp u)), (2, .int a_many), (3, .int a_yr)]) hx hb dX2_find_73 hl (k := 2) rfl (by rw [e_73]; rfl) (by decide) rfl (fun ls hl => ?_)
        refine lv_goto (tgt := 12) hx hb dX2_find_76 (by decide) ?_
        refine ih_12 ⟨x_73, (i + 1), (va_up R_L12 4 (upd (R_L12 4) i.toNat r_46))⟩ ⟨p_73, by dsimp only; have hv : r_46.toInt = toC (fday rw_ fe yr i) := (by rw [fday_eq (d1 := fday rw_ fe yr) (by omega) (hQ.2.2.2 i (by omega) (by omega)) (fun _ _ _ => rfl), ← z_46.2.2]; exact (if_pos k_62).symm); exact ⟨by omega, inv_12.2.1.up (by decide), fun j j0 j1 => by rw [va_up_self]; by_cases c : j = i; (rw [c, upd_s]; exact hv); (rw [upd_n _ _ (by omega)]; exact inv_12.2.2.1 j j0 (by omega)), fun j j0 j1 => by rw [va_up_self, upd_n _ _ (by omega)]; exact inv_12.2.2.2 j (by omega) j1⟩⟩ (by dsimp only; omega) _ _ w ls (lv_sub hl [0, 3, 4, 5, 6] rfl)

set_option maxHeartbeats 2000000 in
set_option maxRecDepth 100000 in
theorem c_X2_place (l : Launch) (D : va_G) (t : Nat → ClassId) (b n : Nat) (σ0 : qM) (A : Nat → Int32) (B : Nat → Nat → Int32) (P : Nat → Nat → Option Nat) (rw_ : Int → Row) (fe : Int → Int → Int32) (u : Nat) (hu : u < 8) (hQ : stQ t b σ0 A P u rw_ fe) (days : Int → Int) (hd : ∀ j : Int, 0 ≤ j → j < (A (21 + 2 * u)).toInt → (B 4 j.toNat).toInt = toC (days j) ∧ (days j = -2147483647 ∨ (-999999 ≤ days j ∧ days j ≤ 999999))) : kV l yX2_place cX2_place 5 2 D t b n σ0 A B P [.ref (b + 33), .ref (b + sp u)] (fun A1 B1 => A1 = A ∧ kpR [5] B B1 ∧ plQ B1 (A (21 + 2 * u)).toInt (plc (fun j => (fe j 1).toInt) days (A (21 + 2 * u)).toInt)) := by
  refine qV.of (by decide +kernel) (Nat.le_of_ble_eq_true rfl) (fun p e s m args below meth c X w _ ls hl => ?_)
  have hx := X.1
  have hb := X.2.1
  have hl : lv_has ls 5 [(0, .ref (b + 33)), (1, .ref (b + sp u))] := hl
  have hnn := hQ.1
  refine lv_aload_n hx hb dX2_place_0 rfl (lv_at hl 0 rfl) ?_
  refine kg_X2_places X w dX2_place_1 ?_
  refine lv_ldc hx hb X.2.2.2.1 (X.2.2.1 _ kc_X2_18) dX2_place_4 ?_
  refine q_cVS X w (c_J7_fill l D t b n _ 35 (B 5) (-2147483648) rfl) v_X2_19 rfl ⟨Nat.le_of_ble_eq_true rfl, Nat.le_of_ble_eq_true rfl⟩ rfl hl.1 (Nat.le_of_ble_eq_true rfl) dX2_place_6 ⟨Nat.le_of_ble_eq_true rfl, Nat.le_of_ble_eq_true rfl⟩ (fun n_6 σ_6 H locs z_6 w => ?_)
  obtain ⟨en_6, f_6, es_6, hf_6⟩ := z_6
  rw [en_6, es_6, cS_r35] at w
  refine lv_bipush (v := 9) hx hb dX2_place_9 (by decide) ?_
  refine lv_istore_n (lv' := [(2, .int 9), (0, .ref (b + 33)), (1, .ref (b + sp u))]) hx hb dX2_place_11 rfl hl (by decide) rfl (fun ls hl => ?_)
  refine q_loop (α := Int32 × Int × (Nat → Nat → Int32)) (fun a => a.1.toInt = a.2.1 ∧ ((-1 ≤ a.2.1 ∧ a.2.1 ≤ 9) ∧ kpR [5] B a.2.2 ∧ plQ a.2.2 (A (21 + 2 * u)).toInt (plO (fun j => (fe j 1).toInt) days (A (21 + 2 * u)).toInt (9 - a.2.1).toNat))) (fun a => (a.2.1 + 1).toNat) (fun a => ∀ (H : Heap) (locs : List Loc), qW D b n (cS t b σ0 A a.2.2 P) s H locs → ∀ ls : Array Slot, lv_has ls 5 [(2, .int a.1), (0, .ref (b + 33)), (1, .ref (b + sp u))] → W p l e (qR 2 0 0) s m args below meth c H locs 0 0 (MQ below (va_Qv (S := Nat × qM) (fun z7 => (fun n1 σ1 => n1 = n ∧ ∃ A1 B1, σ1 = cS t b σ0 A1 B1 P ∧ A1 = A ∧ kpR [5] B B1 ∧ plQ B1 (A (21 + 2 * u)).toInt (plc (fun j => (fe j 1).toInt) days (A (21 + 2 * u)).toInt)) z7.1 z7.2) (fun z7 T => WB D b z7.1 z7.2 T.heap) (fun q => b ≤ q)) args s 0 0 (fun q => b ≤ q)) (F0 m 12 ls [])) ?_ ⟨9, 9, (va_up B 5 f_6)⟩ ⟨(show (9 : Int32).toInt = 9 from rfl), by dsimp only; exact ⟨by omega, kpR.up kpR.rf (by decide), fun j j0 j8 => by rw [va_up_self, hf_6 _ (by omega)]; rfl, fun j _ => rfl⟩⟩ _ _ w ls (lv_sub hl [0, 1, 2] rfl)
  rintro ⟨v_r, r, R_L12⟩ ⟨q_r, inv_12⟩ ih_12 H locs w ls hl
  dsimp only at q_r inv_12 hl w
  refine lv_iload_n hx hb dX2_place_12 rfl (lv_at hl 0 rfl) ?_
  refine lv_if_lt (tgt := 96) hx hb dX2_place_13 (by decide) (fun c_13 => ?_) (fun c_13 => ?_)
  · skip
    have k_13 : r < 0 := (g_lt q_r (show (0 : Int32).toInt = 0 from rfl)).mp c_13
    exact q_vret (post := (fun n1 σ1 => n1 = n ∧ ∃ A1 B1, σ1 = cS t b σ0 A1 B1 P ∧ A1 = A ∧ kpR [5] B B1 ∧ plQ B1 (A (21 + 2 * u)).toInt (plc (fun j => (fe j 1).toInt) days (A (21 + 2 * u)).toInt))) X w dX2_place_96 ⟨rfl, _, _, rfl, rfl, by refine ⟨inv_12.2.1, ?_⟩; have hz := inv_12.2.2; rw [show r = -1 by omega] at hz; exact hz⟩
  · skip
    have k_13 : ¬ (r < 0) := fun h => c_13 ((g_lt q_r (show (0 : Int32).toInt = 0 from rfl)).mpr h)
    refine lv_iconst (v := 0) hx hb dX2_place_16 (by decide) ?_
    refine lv_istore_n (lv' := [(3, .int 0), (2, .int v_r), (0, .ref (b + 33)), (1, .ref (b + sp u))]) hx hb dX2_place_17 rfl hl (by decide) rfl (fun ls hl => ?_)
    refine q_loop (α := Int32 × Int × (Nat → Nat → Int32)) (fun a => a.1.toInt = a.2.1 ∧ ((0 ≤ a.2.1 ∧ a.2.1 ≤ 8) ∧ kpR [5] B a.2.2 ∧ plQ a.2.2 (A (21 + 2 * u)).toInt (plI (fun j => (fe j 1).toInt) days (A (21 + 2 * u)).toInt r (plO (fun j => (fe j 1).toInt) days (A (21 + 2 * u)).toInt (9 - r).toNat) (if a.2.1 < (A (21 + 2 * u)).toInt then a.2.1 else (A (21 + 2 * u)).toInt).toNat))) (fun a => (8 - a.2.1).toNat) (fun a => ∀ (H : Heap) (locs : List Loc), qW D b n (cS t b σ0 A a.2.2 P) s H locs → ∀ ls : Array Slot, lv_has ls 5 [(3, .int a.1), (2, .int v_r), (0, .ref (b + 33)), (1, .ref (b + sp u))] → W p l e (qR 2 0 0) s m args below meth c H locs 0 0 (MQ below (va_Qv (S := Nat × qM) (fun z7 => (fun n1 σ1 => n1 = n ∧ ∃ A1 B1, σ1 = cS t b σ0 A1 B1 P ∧ A1 = A ∧ kpR [5] B B1 ∧ plQ B1 (A (21 + 2 * u)).toInt (plc (fun j => (fe j 1).toInt) days (A (21 + 2 * u)).toInt)) z7.1 z7.2) (fun z7 T => WB D b z7.1 z7.2 T.heap) (fun q => b ≤ q)) args s 0 0 (fun q => b ≤ q)) (F0 m 18 ls [])) ?_ ⟨0, 0, R_L12⟩ ⟨(show (0 : Int32).toInt = 0 from rfl), by dsimp only; refine ⟨by omega, inv_12.2.1, ?_⟩; rw [show (if (0 : Int) < (A (21 + 2 * u)).toInt then 0 else (A (21 + 2 * u)).toInt) = 0 by split <;> omega]; exact inv_12.2.2⟩ _ _ w ls (lv_sub hl [0, 1, 2, 3] rfl)
    rintro ⟨v_f, f, R_L18⟩ ⟨q_f, inv_18⟩ ih_18 H locs w ls hl
    dsimp only at q_f inv_18 hl w
    refine lv_iload_n hx hb dX2_place_18 rfl (lv_at hl 0 rfl) ?_
    refine lv_aload_n hx hb dX2_place_19 rfl (lv_at hl 2 rfl) ?_
    refine kg_X2_places X w dX2_place_20 ?_
    refine kn_5 X w dX2_place_23 ?_
    refine lv_icmp_ge (tgt := 90) hx hb dX2_place_24 (by decide) (fun c_24 => ?_) (fun c_24 => ?_)
    · skip
      have k_24 : 8 ≤ f := (g_le (show (8 : Int32).toInt = 8 from rfl) q_f).mp c_24
      obtain ⟨x_90, e_90⟩ : ∃ z : Int32, z = (v_r + (-1)) := ⟨_, rfl⟩
      have p_90 : x_90.toInt = (r + (-1)) := by rw [e_90]; exact t_add q_r (show ((-1) : Int32).toInt = (-1) from rfl) (by omega) (by omega)
      refine lv_iinc (v := x_90) (lv' := [(2, .int x_90), (3, .int v_f), (0, .ref (b + 33)), (1, .ref (b + sp u))]) hx hb dX2_place_90 hl (k := 1) rfl (by rw [e_90]; rfl) (by decide) rfl (fun ls hl => ?_)
      refine lv_goto (tgt := 12) hx hb dX2_place_93 (by decide) ?_
      refine ih_12 ⟨x_90, (r + (-1)), R_L18⟩ ⟨p_90, by dsimp only; refine ⟨by omega, inv_18.2.1, ?_⟩; rw [plO_s (by omega)]; have hz := inv_18.2.2; rw [show (if f < (A (21 + 2 * u)).toInt then f else (A (21 + 2 * u)).toInt) = (A (21 + 2 * u)).toInt by split <;> omega] at hz; exact hz⟩ (by dsimp only; omega) _ _ w ls (lv_sub hl [0, 2, 3] rfl)
    · skip
      have k_24 : ¬ (8 ≤ f) := fun h => c_24 ((g_le (show (8 : Int32).toInt = 8 from rfl) q_f).mpr h)
      refine lv_iload_n hx hb dX2_place_27 rfl (lv_at hl 0 rfl) ?_
      refine lv_aload_n hx hb dX2_place_28 rfl (lv_at hl 2 rfl) ?_
      refine kg_X2_days X w dX2_place_29 ?_
      refine kn_4 X w dX2_place_32 ?_
      refine lv_icmp_ge (tgt := 90) hx hb dX2_place_33 (by decide) (fun c_33 => ?_) (fun c_33 => ?_)
      · skip
        have k_33 : 8 ≤ f := (g_le (show (8 : Int32).toInt = 8 from rfl) q_f).mp c_33
        exfalso; omega
      · skip
        have k_33 : ¬ (8 ≤ f) := fun h => c_33 ((g_le (show (8 : Int32).toInt = 8 from rfl) q_f).mpr h)
        refine lv_aload_n hx hb dX2_place_36 rfl (lv_at hl 3 rfl) ?_
        refine lv_iload_n hx hb dX2_place_37 rfl (lv_at hl 0 rfl) ?_
        refine kk_cA X w (c_X6_feastAt l D t b n σ0 A R_L18 P u hu v_f f q_f) v_X2_25 (rc := sp u) (cS_st hu) rfl rfl ⟨Nat.le_of_ble_eq_true rfl, Nat.le_of_ble_eq_true rfl⟩ rfl hl.1 (Nat.le_of_ble_eq_true rfl) dX2_place_38 ⟨Nat.le_of_ble_eq_true rfl, Nat.le_of_ble_eq_true rfl⟩ (fun H locs w => ?_)
        by_cases hfn : f < (A (21 + 2 * u)).toInt
        · skip
          obtain ⟨q, eqf, hq, hfe⟩ := hQ.2.2.1 f (by omega) hfn
          rw [if_pos (show 0 ≤ f ∧ f < (A (21 + 2 * u)).toInt ∧ f < 8 by omega), eqf]
          refine lv_astore (lv' := [(4, .ref (b + q)), (3, .int v_f), (2, .int v_r), (0, .ref (b + 33)), (1, .ref (b + sp u))]) hx hb dX2_place_41 hl (by decide) rfl (fun ls hl => ?_)
          refine lv_aload hx hb dX2_place_43 (lv_at hl 0 rfl) ?_
          refine lv_ifnull hx hb dX2_place_45 ?_
          refine lv_aload hx hb dX2_place_48 (lv_at hl 0 rfl) ?_
          refine q_getN X w inX1 rfl 1 (by decide) (List.mem_of_getElem? (i := 10) rfl) (k := q) ((cS_off hq).trans hfe) rfl dX2_place_50 ?_
          refine lv_iload_n hx hb dX2_place_53 rfl (lv_at hl 2 rfl) ?_
          refine lv_icmp_ne (tgt := 84) hx hb dX2_place_54 (by decide) (fun c_54 => ?_) (fun c_54 => ?_)
          · skip
            have k_54 : ¬ (((fe f 1).toInt) = r) := fun h => c_54 ((g_eq (show (fe f 1).toInt = (fe f 1).toInt from rfl) q_r).mpr h)
            obtain ⟨x_84, e_84⟩ : ∃ z : Int32, z = (v_f + 1) := ⟨_, rfl⟩
            have p_84 : x_84.toInt = (f + 1) := by rw [e_84]; exact t_add q_f (show (1 : Int32).toInt = 1 from rfl) (by omega) (by omega)
            refine lv_iinc (v := x_84) (lv' := [(3, .int x_84), (4, .ref (b + q)), (2, .int v_r), (0, .ref (b + 33)), (1, .ref (b + sp u))]) hx hb dX2_place_84 hl (k := 1) rfl (by rw [e_84]; rfl) (by decide) rfl (fun ls hl => ?_)
            refine lv_goto (tgt := 18) hx hb dX2_place_87 (by decide) ?_
            refine ih_18 ⟨x_84, (f + 1), R_L18⟩ ⟨p_84, by dsimp only; exact ⟨by omega, inv_18.2.1, plQ_n inv_18.2.2 (by omega) (fun z => k_54 z.2.1)⟩⟩ (by dsimp only; omega) _ _ w ls (lv_sub hl [0, 2, 3, 4] rfl)
          · skip
            have k_54 : ((fe f 1).toInt) = r := (g_eq (show (fe f 1).toInt = (fe f 1).toInt from rfl) q_r).mp c_54
            refine lv_aload_n hx hb dX2_place_57 rfl (lv_at hl 3 rfl) ?_
            refine kg_X2_days X w dX2_place_58 ?_
            refine lv_iload_n hx hb dX2_place_61 rfl (lv_at hl 1 rfl) ?_
            refine kl_4 X w (g_in q_f (by omega)) dX2_place_62 ?_
            refine q_topE (y := R_L18 4 f.toNat) (congrArg (R_L18 4) (g_tn q_f)) ?_
            refine lv_ldc hx hb X.2.2.2.1 (X.2.2.1 _ kc_X2_18) dX2_place_63 ?_
            refine lv_icmp_eq (tgt := 84) hx hb dX2_place_65 (by decide) (fun c_65 => ?_) (fun c_65 => ?_)
            · skip
              have k_65 : (toC (days f)) = (-2147483648) := (g_eq ((congrArg Int32.toInt (congrFun (inv_18.2.1 4 (by decide)) f.toNat)).trans (hd f (by omega) hfn).1) (show ((-2147483648) : Int32).toInt = (-2147483648) from rfl)).mp c_65
              obtain ⟨x_84, e_84⟩ : ∃ z : Int32, z = (v_f + 1) := ⟨_, rfl⟩
              have p_84 : x_84.toInt = (f + 1) := by rw [e_84]; exact t_add q_f (show (1 : Int32).toInt = 1 from rfl) (by omega) (by omega)
              refine lv_iinc (v := x_84) (lv' := [(3, .int x_84), (4, .ref (b + q)), (2, .int v_r), (0, .ref (b + 33)), (1, .ref (b + sp u))]) hx hb dX2_place_84 hl (k := 1) rfl (by rw [e_84]; rfl) (by decide) rfl (fun ls hl => ?_)
              refine lv_goto (tgt := 18) hx hb dX2_place_87 (by decide) ?_
              refine ih_18 ⟨x_84, (f + 1), R_L18⟩ ⟨p_84, by dsimp only; exact ⟨by omega, inv_18.2.1, plQ_n inv_18.2.2 (by omega) (fun z => z.2.2 ((toC_in (hd f (by omega) hfn).2).mp k_65))⟩⟩ (by dsimp only; omega) _ _ w ls (lv_sub hl [0, 2, 3, 4] rfl)
            · skip
              have k_65 : ¬ ((toC (days f)) = (-2147483648)) := fun h => c_65 ((g_eq ((congrArg Int32.toInt (congrFun (inv_18.2.1 4 (by decide)) f.toNat)).trans (hd f (by omega) hfn).1) (show ((-2147483648) : Int32).toInt = (-2147483648) from rfl)).mpr h)
              have hne : days f ≠ -2147483647 := fun z => k_65 (toC_n z)
              have hdb := (hd f (by omega) hfn).2
              have hdr : -999999 ≤ toC (days f) ∧ toC (days f) ≤ 999999 := by rw [toC_d hne]; omega
              refine lv_aload_n hx hb dX2_place_68 rfl (lv_at hl 3 rfl) ?_
              refine kg_X2_places X w dX2_place_69 ?_
              refine lv_iload_n hx hb dX2_place_72 rfl (lv_at hl 1 rfl) ?_
              refine lv_aload_n hx hb dX2_place_73 rfl (lv_at hl 3 rfl) ?_
              refine lv_aload_n hx hb dX2_place_74 rfl (lv_at hl 3 rfl) ?_
              refine kg_X2_days X w dX2_place_75 ?_
              refine lv_iload_n hx hb dX2_place_78 rfl (lv_at hl 1 rfl) ?_
              refine kl_4 X w (g_in q_f (by omega)) dX2_place_79 ?_
              refine q_topE (y := R_L18 4 f.toNat) (congrArg (R_L18 4) (g_tn q_f)) ?_
              refine q_cPV X w (c_X2_firstFree l D t b n σ0 A R_L18 P (R_L18 4 f.toNat) (toC (days f)) ((congrArg Int32.toInt (congrFun (inv_18.2.1 4 (by decide)) f.toNat)).trans (hd f (by omega) hfn).1) (by first | assumption | omega)) v_X2_45 (k := 33) rfl rfl rfl ⟨Nat.le_of_ble_eq_true rfl, Nat.le_of_ble_eq_true rfl⟩ rfl hl.1 (Nat.le_of_ble_eq_true rfl) dX2_place_80 ⟨Nat.zero_le _, Nat.zero_le _⟩ (fun r_80 z_80 => ?_)
              refine ks_5 (x := r_80) X w (g_in q_f (by omega)) dX2_place_83 (fun H locs w => ?_)
              rw [g_tn (show v_f.toInt = f from q_f)] at w
              obtain ⟨x_84, e_84⟩ : ∃ z : Int32, z = (v_f + 1) := ⟨_, rfl⟩
              have p_84 : x_84.toInt = (f + 1) := by rw [e_84]; exact t_add q_f (show (1 : Int32).toInt = 1 from rfl) (by omega) (by omega)
              refine lv_iinc (v := x_84) (lv' := [(3, .int x_84), (4, .ref (b + q)), (2, .int v_r), (0, .ref (b + 33)), (1, .ref (b + sp u))]) hx hb dX2_place_84 hl (k := 1) rfl (by rw [e_84]; rfl) (by decide) rfl (fun ls hl => ?_)
              refine lv_goto (tgt := 18) hx hb dX2_place_87 (by decide) ?_
              refine ih_18 ⟨x_84, (f + 1), (va_up R_L18 5 (upd (R_L18 5) f.toNat r_80))⟩ ⟨p_84, by dsimp only; exact ⟨by omega, inv_18.2.1.up (by decide), plQ_p inv_18.2.2 (by omega) hfn (by omega) ⟨k_54, hne⟩ (by rw [z_80, toC_d hne]) (by omega)⟩⟩ (by dsimp only; omega) _ _ w ls (lv_sub hl [0, 2, 3, 4] rfl)
        · skip
          rw [if_neg (by omega)]
          refine lv_astoreN (lv' := [(4, .null), (3, .int v_f), (2, .int v_r), (0, .ref (b + 33)), (1, .ref (b + sp u))]) hx hb dX2_place_41 hl (by decide) rfl (fun ls hl => ?_)
          refine lv_aloadN hx hb dX2_place_43 (lv_at hl 0 rfl) ?_
          refine lv_ifnullN (tgt := 84) hx hb dX2_place_45 (by decide) ?_
          obtain ⟨x_84, e_84⟩ : ∃ z : Int32, z = (v_f + 1) := ⟨_, rfl⟩
          have p_84 : x_84.toInt = (f + 1) := by rw [e_84]; exact t_add q_f (show (1 : Int32).toInt = 1 from rfl) (by omega) (by omega)
          refine lv_iinc (v := x_84) (lv' := [(3, .int x_84), (4, .null), (2, .int v_r), (0, .ref (b + 33)), (1, .ref (b + sp u))]) hx hb dX2_place_84 hl (k := 1) rfl (by rw [e_84]; rfl) (by decide) rfl (fun ls hl => ?_)
          refine lv_goto (tgt := 18) hx hb dX2_place_87 (by decide) ?_
          refine ih_18 ⟨x_84, (f + 1), R_L18⟩ ⟨p_84, by dsimp only; exact ⟨by omega, inv_18.2.1, plQ_n inv_18.2.2 (by omega) (fun z => hfn z.1)⟩⟩ (by dsimp only; omega) _ _ w ls (lv_sub hl [0, 2, 3, 4] rfl)
