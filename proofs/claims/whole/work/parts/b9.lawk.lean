/-! THE LAW'S OWN WALK -/
theorem cap8 {cells slots a c : Nat} (h : cells + 8 ≤ 601024 ∧ slots + 1100 ≤ 7293034) (ha : a ≤ 8) (hc : c ≤ 1100) : cells + a ≤ room_1.cells ∧ slots + c ≤ room_1.slots :=
  ⟨Nat.le_trans (Nat.add_le_add_left ha _) h.1, Nat.le_trans (Nat.add_le_add_left hc _) h.2⟩
theorem lcz {x : Int64} {y : Int32} {v : Int} (h1 : x.toInt = v) (h2 : y.toInt = v) : lg_cmp x y.toInt64 = 0 := by
  have h : x = y.toInt64 := Int64.toInt_inj.mp (h1.trans (h2.symm.trans (Int32.toInt_toInt64 y).symm))
  unfold lg_cmp
  rw [h, if_neg (Int64.lt_irrefl), if_pos rfl]
theorem lcz0 {x : Int64} (h1 : x.toInt = 0) : lg_cmp x 0 = 0 := by
  have h : x = 0 := Int64.toInt_inj.mp h1
  rw [h]
  decide
theorem lcz1 {x : Int64} {y : Int32} {v : Int} (h1 : x.toInt = v) (h01 : v = 0 ∨ v = 1) (h2 : y.toInt = v) (hc : ¬ y = 0) : lg_cmp x 1 = 0 := by
  have e : v = 1 := by
    rcases h01 with q | q
    · exact absurd (Int32.toInt_inj.mp (h2.trans (q.trans (show (0 : Int) = (0 : Int32).toInt from rfl)))) hc
    · exact q
  have h : x = 1 := Int64.toInt_inj.mp (h1.trans e)
  rw [h]
  decide
theorem LI.c0 {t : Nat → ClassId} {b : Nat} {σ : qM} (h : LI t b σ) : ∃ fs, σ 0 = some (.inr (12, fs)) := by
  obtain ⟨A, B, P, I, R, pm, φ, hW, hC⟩ := h
  exact ⟨_, (congrFun hW.1 0).trans rfl⟩
theorem and63 (x : Int32) : 0 ≤ (x &&& 63).toInt := by
  have h : (x &&& 63).toBitVec.toNat ≤ 63 := by
    show (x.toBitVec &&& (63 : Int32).toBitVec).toNat ≤ 63
    rw [BitVec.toNat_and]
    exact Nat.and_le_right
  show 0 ≤ (x &&& 63).toBitVec.toInt
  rw [BitVec.toInt_eq_toNat_of_lt (by omega)]
  exact Int.natCast_nonneg _

set_option maxHeartbeats 1000000 in
set_option maxRecDepth 100000 in
theorem law_0 {p : Program} {l : Launch} {e : Env} {s : State} {m : MethodId} {below : List Frame} {meth : Method} {c : Code} {H : Heap} {locs : List Loc} {cells slots : Nat} {Q : State → Prop} {r : Option FieldType} {D : va_G} {t : Nat → ClassId} {b n : Nat} {σ : qM} {sc L : Nat} {xs : Nat → Int32} {ls : Array Slot} {i : Int32} {i0 : Int} (hl0 : l.stackTraces = false) (X : qX p s #[.ref sc] m meth c RL cL_law 9 r D t b) (hE : XK s) (hS : SK b s) (hXs : va_X sc L xs s s.heap) (hbl : sc < s.heap.size) (hbA : ¬ b ≤ sc) (hi : i.toInt = i0) (h0 : 0 ≤ i0 ∧ i0 + 7 ≤ L ∧ L ≤ 3584) (hcs : cells + 8 ≤ 601024 ∧ slots + 1100 ≤ 7293034) (w : qW D b n σ s H locs) (hI : LI t b σ) (hl : lv_has ls 9 [(5, .int i), (0, .ref sc), (1, .ref (b + 0)), (2, .ref (b + 45)), (3, .ref (b + 60)), (4, .ref (b + 61))]) (kk : ∀ (n : Nat) (σ : qM) (H : Heap) (locs : List Loc) (ls : Array Slot), LI t b σ → qW D b n σ s H locs → lv_has ls 9 [(5, .int i), (0, .ref sc), (1, .ref (b + 0)), (2, .ref (b + 45)), (3, .ref (b + 60)), (4, .ref (b + 61))] → W p l e room_1 s m #[.ref sc] below meth c H locs (cells + 8) (slots + 1100) Q (F0 m 2707 ls [])) : W p l e room_1 s m #[.ref sc] below meth c H locs cells slots Q (F0 m 212 ls []) := by
  have hx := X.1
  have hb := X.2.1
  refine lv_aload_n hx hb dL_law_212 rfl (lv_at hl 2 rfl) ?_
  refine lv_aload_n hx hb dL_law_213 rfl (lv_at hl 1 rfl) ?_
  refine lv_iload hx hb dL_law_214 (lv_at hl 0 rfl) ?_
  refine lv_iconst (v := 1) hx hb dL_law_216 (by decide) ?_
  refine lv_iadd hx hb dL_law_217 ?_
  refine lv_topi (fun x_217 e_217 => ?_)
  have p_217 : x_217.toInt = (i0 + 1) := by rw [e_217]; exact t_add hi (show (1 : Int32).toInt = 1 from rfl) (by omega) (by omega)
  refine va_sld hx hb hXs hbl hbA w.2.1 (g_in p_217 (by omega)) dL_law_218 ?_
  refine q_topE (y := xs (i0 + 1).toNat) (congrArg xs (g_tn p_217)) ?_
  refine lv_aload_n hx hb dL_law_219 rfl (lv_at hl 4 rfl) ?_
  refine q_cL X hE hS w (k_appendCharacter (l := l) (D := D) hl0 hI (xs (i0 + 1).toNat)) vL_128 rfl ⟨Nat.le_of_ble_eq_true rfl, Nat.le_of_ble_eq_true rfl⟩ rfl hl.1 (Nat.le_of_ble_eq_true rfl) dL_law_220 (cap8 hcs (by decide) (by decide)) (fun z n2 σ2 H locs hz2 w => ?_)
  refine W.widen (k := cells + 8) (n := slots + 1100) (Nat.add_le_add_left (by decide) _) (Nat.add_le_add_left (by decide) _) ?_
  obtain ⟨cd, vl, hz, ⟨f, hf, hfv⟩, I1, R1, pm, es, hM, hpost⟩ := hz2
  have w : qW D b n2 (mS t b σ2 I1 R1) s H locs := by rw [← es]; exact w
  refine lv_istore (lv' := [(6, .int z), (5, .int i), (0, .ref sc), (1, .ref (b + 0)), (2, .ref (b + 45)), (3, .ref (b + 60)), (4, .ref (b + 61))]) hx hb dL_law_223 hl (by decide) rfl (fun ls hl => ?_)
  refine lv_aload_n hx hb dL_law_225 rfl (lv_at hl 4 rfl) ?_
  refine lv_aload_n hx hb dL_law_226 rfl (lv_at hl 2 rfl) ?_
  refine lv_iload hx hb dL_law_227 (lv_at hl 1 rfl) ?_
  refine lv_iconst (v := 1) hx hb dL_law_229 (by decide) ?_
  refine lv_iadd hx hb dL_law_230 ?_
  refine lv_topi (fun x_230 e_230 => ?_)
  have p_230 : x_230.toInt = (i0 + 1) := by rw [e_230]; exact t_add hi (show (1 : Int32).toInt = 1 from rfl) (by omega) (by omega)
  refine va_sld hx hb hXs hbl hbA w.2.1 (g_in p_230 (by omega)) dL_law_231 ?_
  refine q_topE (y := xs (i0 + 1).toNat) (congrArg xs (g_tn p_230)) ?_
  refine mm_cC X w hM vL_133 rfl rfl ⟨Nat.le_of_ble_eq_true rfl, Nat.le_of_ble_eq_true rfl⟩ rfl hl.1 (Nat.le_of_ble_eq_true rfl) dL_law_232 hcs (fun y I2 R2 H locs hp2 w => ?_)
  obtain ⟨m1, m2, hI⟩ := hpost y I2 R2 hp2
  refine lv_istore (lv' := [(7, .int y), (6, .int z), (5, .int i), (0, .ref sc), (1, .ref (b + 0)), (2, .ref (b + 45)), (3, .ref (b + 60)), (4, .ref (b + 61))]) hx hb dL_law_235 hl (by decide) rfl (fun ls hl => ?_)
  refine lv_aload_n hx hb dL_law_237 rfl (lv_at hl 5 rfl) ?_
  refine q_cPV X w (c_X9_thrown l D t b _ _ I2 R2) vL_134 (k := 45) rfl rfl rfl ⟨Nat.le_of_ble_eq_true rfl, Nat.le_of_ble_eq_true rfl⟩ rfl hl.1 (Nat.le_of_ble_eq_true rfl) dL_law_238 hcs (fun th ht => ?_)
  refine lv_iload hx hb dL_law_241 (lv_at hl 1 rfl) ?_
  refine lv_icmp_eq (tgt := 248) hx hb dL_law_243 (by decide) (fun c_243 => ?_) (fun c_243 => ?_)
  · skip
    refine lv_iload hx hb dL_law_248 (lv_at hl 1 rfl) ?_
    refine lv_if_ne (tgt := 265) hx hb dL_law_250 (by decide) (fun c_250 => ?_) (fun c_250 => ?_)
    · skip
      refine lv_goto (tgt := 2707) hx hb dL_law_265 (by decide) ?_
      exact kk _ _ _ _ _ hI w (lv_sub hl [2, 3, 4, 5, 6, 7] rfl)
    · skip
      have hcd : cd = 0 := by rw [← hz, c_250]; rfl
      refine lv_aload_n hx hb dL_law_253 rfl (lv_at hl 6 rfl) ?_
      refine lv_iconst (v := 0) hx hb dL_law_254 (by decide) ?_
      refine q_lald X w (k := 60) (f := f) ((mS_off (I2 := I2) (R2 := R2) (by omega)).trans hf) (i := 0) (by unfold vp_in; decide) dL_law_255 ?_
      refine lv_iload hx hb dL_law_256 (lv_at hl 0 rfl) ?_
      refine lv_i2l (v := y.toInt64) hx hb dL_law_258 rfl ?_
      refine W.lcmp hx hb dL_law_259 ?_
      refine q_topE (y := 0) (lcz (hfv hcd) (m2 hcd)) ?_
      refine lv_if_eq (tgt := 265) hx hb dL_law_260 (by decide) (fun c_260 => ?_) (fun c_260 => ?_)
      · skip
        refine lv_goto (tgt := 2707) hx hb dL_law_265 (by decide) ?_
        exact kk _ _ _ _ _ hI w (lv_sub hl [2, 3, 4, 5, 6, 7] rfl)
      · skip
        exact absurd rfl c_260
  · skip
    exact absurd (Int32.toInt_inj.mp ((congrArg Int32.toInt ht).trans (m1.trans hz.symm))) c_243

set_option maxHeartbeats 1000000 in
set_option maxRecDepth 100000 in
theorem law_1 {p : Program} {l : Launch} {e : Env} {s : State} {m : MethodId} {below : List Frame} {meth : Method} {c : Code} {H : Heap} {locs : List Loc} {cells slots : Nat} {Q : State → Prop} {r : Option FieldType} {D : va_G} {t : Nat → ClassId} {b n : Nat} {σ : qM} {sc L : Nat} {xs : Nat → Int32} {ls : Array Slot} {i : Int32} {i0 : Int} (hl0 : l.stackTraces = false) (X : qX p s #[.ref sc] m meth c RL cL_law 9 r D t b) (hE : XK s) (hS : SK b s) (hXs : va_X sc L xs s s.heap) (hbl : sc < s.heap.size) (hbA : ¬ b ≤ sc) (hi : i.toInt = i0) (h0 : 0 ≤ i0 ∧ i0 + 7 ≤ L ∧ L ≤ 3584) (hcs : cells + 8 ≤ 601024 ∧ slots + 1100 ≤ 7293034) (w : qW D b n σ s H locs) (hI : LI t b σ) (hl : lv_has ls 9 [(5, .int i), (0, .ref sc), (1, .ref (b + 0)), (2, .ref (b + 45)), (3, .ref (b + 60)), (4, .ref (b + 61))]) (kk : ∀ (n : Nat) (σ : qM) (H : Heap) (locs : List Loc) (ls : Array Slot), LI t b σ → qW D b n σ s H locs → lv_has ls 9 [(5, .int i), (0, .ref sc), (1, .ref (b + 0)), (2, .ref (b + 45)), (3, .ref (b + 60)), (4, .ref (b + 61))] → W p l e room_1 s m #[.ref sc] below meth c H locs (cells + 8) (slots + 1100) Q (F0 m 2707 ls [])) : W p l e room_1 s m #[.ref sc] below meth c H locs cells slots Q (F0 m 268 ls []) := by
  have hx := X.1
  have hb := X.2.1
  refine lv_aload_n hx hb dL_law_268 rfl (lv_at hl 2 rfl) ?_
  refine lv_aload_n hx hb dL_law_269 rfl (lv_at hl 1 rfl) ?_
  refine lv_iload hx hb dL_law_270 (lv_at hl 0 rfl) ?_
  refine lv_iconst (v := 1) hx hb dL_law_272 (by decide) ?_
  refine lv_iadd hx hb dL_law_273 ?_
  refine lv_topi (fun x_273 e_273 => ?_)
  have p_273 : x_273.toInt = (i0 + 1) := by rw [e_273]; exact t_add hi (show (1 : Int32).toInt = 1 from rfl) (by omega) (by omega)
  refine va_sld hx hb hXs hbl hbA w.2.1 (g_in p_273 (by omega)) dL_law_274 ?_
  refine q_topE (y := xs (i0 + 1).toNat) (congrArg xs (g_tn p_273)) ?_
  refine lv_aload_n hx hb dL_law_275 rfl (lv_at hl 4 rfl) ?_
  refine q_cL X hE hS w (k_setCalendar (l := l) (D := D) hl0 hI (xs (i0 + 1).toNat)) vL_137 rfl ⟨Nat.le_of_ble_eq_true rfl, Nat.le_of_ble_eq_true rfl⟩ rfl hl.1 (Nat.le_of_ble_eq_true rfl) dL_law_276 (cap8 hcs (by decide) (by decide)) (fun z n2 σ2 H locs hz2 w => ?_)
  refine W.widen (k := cells + 8) (n := slots + 1100) (Nat.add_le_add_left (by decide) _) (Nat.add_le_add_left (by decide) _) ?_
  obtain ⟨cd, vl, hz, ⟨f, hf, hfv⟩, I1, R1, pm, es, hM, hpost⟩ := hz2
  have w : qW D b n2 (mS t b σ2 I1 R1) s H locs := by rw [← es]; exact w
  refine lv_istore (lv' := [(6, .int z), (5, .int i), (0, .ref sc), (1, .ref (b + 0)), (2, .ref (b + 45)), (3, .ref (b + 60)), (4, .ref (b + 61))]) hx hb dL_law_279 hl (by decide) rfl (fun ls hl => ?_)
  refine lv_aload_n hx hb dL_law_281 rfl (lv_at hl 4 rfl) ?_
  refine lv_aload_n hx hb dL_law_282 rfl (lv_at hl 2 rfl) ?_
  refine lv_iload hx hb dL_law_283 (lv_at hl 1 rfl) ?_
  refine lv_iconst (v := 1) hx hb dL_law_285 (by decide) ?_
  refine lv_iadd hx hb dL_law_286 ?_
  refine lv_topi (fun x_286 e_286 => ?_)
  have p_286 : x_286.toInt = (i0 + 1) := by rw [e_286]; exact t_add hi (show (1 : Int32).toInt = 1 from rfl) (by omega) (by omega)
  refine va_sld hx hb hXs hbl hbA w.2.1 (g_in p_286 (by omega)) dL_law_287 ?_
  refine q_topE (y := xs (i0 + 1).toNat) (congrArg xs (g_tn p_286)) ?_
  refine mm_cC X w hM vL_139 rfl rfl ⟨Nat.le_of_ble_eq_true rfl, Nat.le_of_ble_eq_true rfl⟩ rfl hl.1 (Nat.le_of_ble_eq_true rfl) dL_law_288 hcs (fun y I2 R2 H locs hp2 w => ?_)
  obtain ⟨m1, m2, hI⟩ := hpost y I2 R2 hp2
  refine lv_istore (lv' := [(7, .int y), (6, .int z), (5, .int i), (0, .ref sc), (1, .ref (b + 0)), (2, .ref (b + 45)), (3, .ref (b + 60)), (4, .ref (b + 61))]) hx hb dL_law_291 hl (by decide) rfl (fun ls hl => ?_)
  refine lv_aload_n hx hb dL_law_293 rfl (lv_at hl 5 rfl) ?_
  refine q_cPV X w (c_X9_thrown l D t b _ _ I2 R2) vL_134 (k := 45) rfl rfl rfl ⟨Nat.le_of_ble_eq_true rfl, Nat.le_of_ble_eq_true rfl⟩ rfl hl.1 (Nat.le_of_ble_eq_true rfl) dL_law_294 hcs (fun th ht => ?_)
  refine lv_iload hx hb dL_law_297 (lv_at hl 1 rfl) ?_
  refine lv_icmp_eq (tgt := 304) hx hb dL_law_299 (by decide) (fun c_299 => ?_) (fun c_299 => ?_)
  · skip
    refine lv_iload hx hb dL_law_304 (lv_at hl 1 rfl) ?_
    refine lv_if_ne (tgt := 321) hx hb dL_law_306 (by decide) (fun c_306 => ?_) (fun c_306 => ?_)
    · skip
      refine lv_goto (tgt := 2707) hx hb dL_law_321 (by decide) ?_
      exact kk _ _ _ _ _ hI w (lv_sub hl [2, 3, 4, 5, 6, 7] rfl)
    · skip
      have hcd : cd = 0 := by rw [← hz, c_306]; rfl
      refine lv_aload_n hx hb dL_law_309 rfl (lv_at hl 6 rfl) ?_
      refine lv_iconst (v := 0) hx hb dL_law_310 (by decide) ?_
      refine q_lald X w (k := 60) (f := f) ((mS_off (I2 := I2) (R2 := R2) (by omega)).trans hf) (i := 0) (by unfold vp_in; decide) dL_law_311 ?_
      refine lv_iload hx hb dL_law_312 (lv_at hl 0 rfl) ?_
      refine lv_i2l (v := y.toInt64) hx hb dL_law_314 rfl ?_
      refine W.lcmp hx hb dL_law_315 ?_
      refine q_topE (y := 0) (lcz (hfv hcd) (m2 hcd)) ?_
      refine lv_if_eq (tgt := 321) hx hb dL_law_316 (by decide) (fun c_316 => ?_) (fun c_316 => ?_)
      · skip
        refine lv_goto (tgt := 2707) hx hb dL_law_321 (by decide) ?_
        exact kk _ _ _ _ _ hI w (lv_sub hl [2, 3, 4, 5, 6, 7] rfl)
      · skip
        exact absurd rfl c_316
  · skip
    exact absurd (Int32.toInt_inj.mp ((congrArg Int32.toInt ht).trans (m1.trans hz.symm))) c_299

set_option maxHeartbeats 1000000 in
set_option maxRecDepth 100000 in
theorem law_2 {p : Program} {l : Launch} {e : Env} {s : State} {m : MethodId} {below : List Frame} {meth : Method} {c : Code} {H : Heap} {locs : List Loc} {cells slots : Nat} {Q : State → Prop} {r : Option FieldType} {D : va_G} {t : Nat → ClassId} {b n : Nat} {σ : qM} {sc L : Nat} {xs : Nat → Int32} {ls : Array Slot} {i : Int32} {i0 : Int} (hl0 : l.stackTraces = false) (X : qX p s #[.ref sc] m meth c RL cL_law 9 r D t b) (hE : XK s) (hS : SK b s) (hXs : va_X sc L xs s s.heap) (hbl : sc < s.heap.size) (hbA : ¬ b ≤ sc) (hi : i.toInt = i0) (h0 : 0 ≤ i0 ∧ i0 + 7 ≤ L ∧ L ≤ 3584) (hcs : cells + 8 ≤ 601024 ∧ slots + 1100 ≤ 7293034) (w : qW D b n σ s H locs) (hI : LI t b σ) (hl : lv_has ls 9 [(5, .int i), (0, .ref sc), (1, .ref (b + 0)), (2, .ref (b + 45)), (3, .ref (b + 60)), (4, .ref (b + 61))]) (kk : ∀ (n : Nat) (σ : qM) (H : Heap) (locs : List Loc) (ls : Array Slot), LI t b σ → qW D b n σ s H locs → lv_has ls 9 [(5, .int i), (0, .ref sc), (1, .ref (b + 0)), (2, .ref (b + 45)), (3, .ref (b + 60)), (4, .ref (b + 61))] → W p l e room_1 s m #[.ref sc] below meth c H locs (cells + 8) (slots + 1100) Q (F0 m 2707 ls [])) : W p l e room_1 s m #[.ref sc] below meth c H locs cells slots Q (F0 m 324 ls []) := by
  have hx := X.1
  have hb := X.2.1
  refine lv_aload_n hx hb dL_law_324 rfl (lv_at hl 2 rfl) ?_
  obtain ⟨fs0, h0c⟩ := hI.c0
  refine W.widen (k := cells + 8) (n := slots + 1100) (Nat.le_add_right _ _) (Nat.le_add_right _ _) ?_
  obtain ⟨px, vl, hP, hv, I1, R1, pm, es, hM, hpost⟩ := d_faultPosition (l := l) (D := D) (n := n) hI
  refine q_cPV X w hP vL_140 (k := 0) h0c rfl rfl ⟨Nat.le_of_ble_eq_true rfl, Nat.le_of_ble_eq_true rfl⟩ rfl hl.1 (Nat.le_of_ble_eq_true rfl) dL_law_325 hcs (fun z hz2 => ?_)
  have hz := hv z hz2
  have w : qW D b n (mS t b σ I1 R1) s H locs := by rw [← es]; exact w
  refine lv_aload_n hx hb dL_law_328 rfl (lv_at hl 3 rfl) ?_
  refine mm_cC X w hM vL_143 rfl rfl ⟨Nat.le_of_ble_eq_true rfl, Nat.le_of_ble_eq_true rfl⟩ rfl hl.1 (Nat.le_of_ble_eq_true rfl) dL_law_329 hcs (fun y I2 R2 H locs hp2 w => ?_)
  obtain ⟨m1, m2, hI⟩ := hpost y I2 R2 hp2
  refine lv_icmp_eq (tgt := 2707) hx hb dL_law_332 (by decide) (fun c_332 => ?_) (fun c_332 => ?_)
  · skip
    exact kk _ _ _ _ _ hI w (lv_sub hl [0, 1, 2, 3, 4, 5] rfl)
  · skip
    exact absurd (Int32.toInt_inj.mp (hz.trans (m2 rfl).symm)) c_332

set_option maxHeartbeats 1000000 in
set_option maxRecDepth 100000 in
theorem law_3 {p : Program} {l : Launch} {e : Env} {s : State} {m : MethodId} {below : List Frame} {meth : Method} {c : Code} {H : Heap} {locs : List Loc} {cells slots : Nat} {Q : State → Prop} {r : Option FieldType} {D : va_G} {t : Nat → ClassId} {b n : Nat} {σ : qM} {sc L : Nat} {xs : Nat → Int32} {ls : Array Slot} {i : Int32} {i0 : Int} (hl0 : l.stackTraces = false) (X : qX p s #[.ref sc] m meth c RL cL_law 9 r D t b) (hE : XK s) (hS : SK b s) (hXs : va_X sc L xs s s.heap) (hbl : sc < s.heap.size) (hbA : ¬ b ≤ sc) (hi : i.toInt = i0) (h0 : 0 ≤ i0 ∧ i0 + 7 ≤ L ∧ L ≤ 3584) (hcs : cells + 8 ≤ 601024 ∧ slots + 1100 ≤ 7293034) (w : qW D b n σ s H locs) (hI : LI t b σ) (hl : lv_has ls 9 [(5, .int i), (0, .ref sc), (1, .ref (b + 0)), (2, .ref (b + 45)), (3, .ref (b + 60)), (4, .ref (b + 61))]) (kk : ∀ (n : Nat) (σ : qM) (H : Heap) (locs : List Loc) (ls : Array Slot), LI t b σ → qW D b n σ s H locs → lv_has ls 9 [(5, .int i), (0, .ref sc), (1, .ref (b + 0)), (2, .ref (b + 45)), (3, .ref (b + 60)), (4, .ref (b + 61))] → W p l e room_1 s m #[.ref sc] below meth c H locs (cells + 8) (slots + 1100) Q (F0 m 2707 ls [])) : W p l e room_1 s m #[.ref sc] below meth c H locs cells slots Q (F0 m 337 ls []) := by
  have hx := X.1
  have hb := X.2.1
  refine lv_aload_n hx hb dL_law_337 rfl (lv_at hl 2 rfl) ?_
  obtain ⟨fs0, h0c⟩ := hI.c0
  refine W.widen (k := cells + 8) (n := slots + 1100) (Nat.le_add_right _ _) (Nat.le_add_right _ _) ?_
  obtain ⟨px, vl, hP, hv, I1, R1, pm, es, hM, hpost⟩ := d_calendarCount (l := l) (D := D) (n := n) hI
  refine q_cPV X w hP vL_144 (k := 0) h0c rfl rfl ⟨Nat.le_of_ble_eq_true rfl, Nat.le_of_ble_eq_true rfl⟩ rfl hl.1 (Nat.le_of_ble_eq_true rfl) dL_law_338 hcs (fun z hz2 => ?_)
  have hz := hv z hz2
  have w : qW D b n (mS t b σ I1 R1) s H locs := by rw [← es]; exact w
  refine lv_aload_n hx hb dL_law_341 rfl (lv_at hl 3 rfl) ?_
  refine mm_cC X w hM vL_147 rfl rfl ⟨Nat.le_of_ble_eq_true rfl, Nat.le_of_ble_eq_true rfl⟩ rfl hl.1 (Nat.le_of_ble_eq_true rfl) dL_law_342 hcs (fun y I2 R2 H locs hp2 w => ?_)
  obtain ⟨m1, m2, hI⟩ := hpost y I2 R2 hp2
  refine lv_icmp_eq (tgt := 2707) hx hb dL_law_345 (by decide) (fun c_345 => ?_) (fun c_345 => ?_)
  · skip
    exact kk _ _ _ _ _ hI w (lv_sub hl [0, 1, 2, 3, 4, 5] rfl)
  · skip
    exact absurd (Int32.toInt_inj.mp (hz.trans (m2 rfl).symm)) c_345

set_option maxHeartbeats 1000000 in
set_option maxRecDepth 100000 in
theorem law_4 {p : Program} {l : Launch} {e : Env} {s : State} {m : MethodId} {below : List Frame} {meth : Method} {c : Code} {H : Heap} {locs : List Loc} {cells slots : Nat} {Q : State → Prop} {r : Option FieldType} {D : va_G} {t : Nat → ClassId} {b n : Nat} {σ : qM} {sc L : Nat} {xs : Nat → Int32} {ls : Array Slot} {i : Int32} {i0 : Int} (hl0 : l.stackTraces = false) (X : qX p s #[.ref sc] m meth c RL cL_law 9 r D t b) (hE : XK s) (hS : SK b s) (hXs : va_X sc L xs s s.heap) (hbl : sc < s.heap.size) (hbA : ¬ b ≤ sc) (hi : i.toInt = i0) (h0 : 0 ≤ i0 ∧ i0 + 7 ≤ L ∧ L ≤ 3584) (hcs : cells + 8 ≤ 601024 ∧ slots + 1100 ≤ 7293034) (w : qW D b n σ s H locs) (hI : LI t b σ) (hl : lv_has ls 9 [(5, .int i), (0, .ref sc), (1, .ref (b + 0)), (2, .ref (b + 45)), (3, .ref (b + 60)), (4, .ref (b + 61))]) (kk : ∀ (n : Nat) (σ : qM) (H : Heap) (locs : List Loc) (ls : Array Slot), LI t b σ → qW D b n σ s H locs → lv_has ls 9 [(5, .int i), (0, .ref sc), (1, .ref (b + 0)), (2, .ref (b + 45)), (3, .ref (b + 60)), (4, .ref (b + 61))] → W p l e room_1 s m #[.ref sc] below meth c H locs (cells + 8) (slots + 1100) Q (F0 m 2707 ls [])) : W p l e room_1 s m #[.ref sc] below meth c H locs cells slots Q (F0 m 350 ls []) := by
  have hx := X.1
  have hb := X.2.1
  refine lv_aload_n hx hb dL_law_350 rfl (lv_at hl 2 rfl) ?_
  refine lv_aload_n hx hb dL_law_351 rfl (lv_at hl 1 rfl) ?_
  refine lv_iload hx hb dL_law_352 (lv_at hl 0 rfl) ?_
  refine lv_iconst (v := 1) hx hb dL_law_354 (by decide) ?_
  refine lv_iadd hx hb dL_law_355 ?_
  refine lv_topi (fun x_355 e_355 => ?_)
  have p_355 : x_355.toInt = (i0 + 1) := by rw [e_355]; exact t_add hi (show (1 : Int32).toInt = 1 from rfl) (by omega) (by omega)
  refine va_sld hx hb hXs hbl hbA w.2.1 (g_in p_355 (by omega)) dL_law_356 ?_
  refine q_topE (y := xs (i0 + 1).toNat) (congrArg xs (g_tn p_355)) ?_
  refine lv_aload_n hx hb dL_law_357 rfl (lv_at hl 1 rfl) ?_
  refine lv_iload hx hb dL_law_358 (lv_at hl 0 rfl) ?_
  refine lv_iconst (v := 2) hx hb dL_law_360 (by decide) ?_
  refine lv_iadd hx hb dL_law_361 ?_
  refine lv_topi (fun x_361 e_361 => ?_)
  have p_361 : x_361.toInt = (i0 + 2) := by rw [e_361]; exact t_add hi (show (2 : Int32).toInt = 2 from rfl) (by omega) (by omega)
  refine va_sld hx hb hXs hbl hbA w.2.1 (g_in p_361 (by omega)) dL_law_362 ?_
  refine q_topE (y := xs (i0 + 2).toNat) (congrArg xs (g_tn p_361)) ?_
  refine lv_aload_n hx hb dL_law_363 rfl (lv_at hl 4 rfl) ?_
  refine q_cL X hE hS w (k_calendar (l := l) (D := D) hl0 hI (xs (i0 + 1).toNat) (xs (i0 + 2).toNat)) vL_148 rfl ⟨Nat.le_of_ble_eq_true rfl, Nat.le_of_ble_eq_true rfl⟩ rfl hl.1 (Nat.le_of_ble_eq_true rfl) dL_law_364 (cap8 hcs (by decide) (by decide)) (fun z n2 σ2 H locs hz2 w => ?_)
  refine W.widen (k := cells + 8) (n := slots + 1100) (Nat.add_le_add_left (by decide) _) (Nat.add_le_add_left (by decide) _) ?_
  obtain ⟨cd, vl, hz, ⟨f, hf, hfv⟩, I1, R1, pm, es, hM, hpost⟩ := hz2
  have w : qW D b n2 (mS t b σ2 I1 R1) s H locs := by rw [← es]; exact w
  refine lv_istore (lv' := [(6, .int z), (5, .int i), (0, .ref sc), (1, .ref (b + 0)), (2, .ref (b + 45)), (3, .ref (b + 60)), (4, .ref (b + 61))]) hx hb dL_law_367 hl (by decide) rfl (fun ls hl => ?_)
  refine lv_aload_n hx hb dL_law_369 rfl (lv_at hl 4 rfl) ?_
  refine lv_aload_n hx hb dL_law_370 rfl (lv_at hl 2 rfl) ?_
  refine lv_iload hx hb dL_law_371 (lv_at hl 1 rfl) ?_
  refine lv_iconst (v := 1) hx hb dL_law_373 (by decide) ?_
  refine lv_iadd hx hb dL_law_374 ?_
  refine lv_topi (fun x_374 e_374 => ?_)
  have p_374 : x_374.toInt = (i0 + 1) := by rw [e_374]; exact t_add hi (show (1 : Int32).toInt = 1 from rfl) (by omega) (by omega)
  refine va_sld hx hb hXs hbl hbA w.2.1 (g_in p_374 (by omega)) dL_law_375 ?_
  refine q_topE (y := xs (i0 + 1).toNat) (congrArg xs (g_tn p_374)) ?_
  refine lv_aload_n hx hb dL_law_376 rfl (lv_at hl 2 rfl) ?_
  refine lv_iload hx hb dL_law_377 (lv_at hl 1 rfl) ?_
  refine lv_iconst (v := 2) hx hb dL_law_379 (by decide) ?_
  refine lv_iadd hx hb dL_law_380 ?_
  refine lv_topi (fun x_380 e_380 => ?_)
  have p_380 : x_380.toInt = (i0 + 2) := by rw [e_380]; exact t_add hi (show (2 : Int32).toInt = 2 from rfl) (by omega) (by omega)
  refine va_sld hx hb hXs hbl hbA w.2.1 (g_in p_380 (by omega)) dL_law_381 ?_
  refine q_topE (y := xs (i0 + 2).toNat) (congrArg xs (g_tn p_380)) ?_
  refine mm_cC X w hM vL_151 rfl rfl ⟨Nat.le_of_ble_eq_true rfl, Nat.le_of_ble_eq_true rfl⟩ rfl hl.1 (Nat.le_of_ble_eq_true rfl) dL_law_382 hcs (fun y I2 R2 H locs hp2 w => ?_)
  obtain ⟨m1, m2, hI⟩ := hpost y I2 R2 hp2
  refine lv_istore (lv' := [(7, .int y), (6, .int z), (5, .int i), (0, .ref sc), (1, .ref (b + 0)), (2, .ref (b + 45)), (3, .ref (b + 60)), (4, .ref (b + 61))]) hx hb dL_law_385 hl (by decide) rfl (fun ls hl => ?_)
  refine lv_aload_n hx hb dL_law_387 rfl (lv_at hl 5 rfl) ?_
  refine q_cPV X w (c_X9_thrown l D t b _ _ I2 R2) vL_134 (k := 45) rfl rfl rfl ⟨Nat.le_of_ble_eq_true rfl, Nat.le_of_ble_eq_true rfl⟩ rfl hl.1 (Nat.le_of_ble_eq_true rfl) dL_law_388 hcs (fun th ht => ?_)
  refine lv_iload hx hb dL_law_391 (lv_at hl 1 rfl) ?_
  refine lv_icmp_eq (tgt := 398) hx hb dL_law_393 (by decide) (fun c_393 => ?_) (fun c_393 => ?_)
  · skip
    refine lv_iload hx hb dL_law_398 (lv_at hl 1 rfl) ?_
    refine lv_if_ne (tgt := 415) hx hb dL_law_400 (by decide) (fun c_400 => ?_) (fun c_400 => ?_)
    · skip
      refine lv_goto (tgt := 2707) hx hb dL_law_415 (by decide) ?_
      exact kk _ _ _ _ _ hI w (lv_sub hl [2, 3, 4, 5, 6, 7] rfl)
    · skip
      have hcd : cd = 0 := by rw [← hz, c_400]; rfl
      refine lv_aload_n hx hb dL_law_403 rfl (lv_at hl 6 rfl) ?_
      refine lv_iconst (v := 0) hx hb dL_law_404 (by decide) ?_
      refine q_lald X w (k := 60) (f := f) ((mS_off (I2 := I2) (R2 := R2) (by omega)).trans hf) (i := 0) (by unfold vp_in; decide) dL_law_405 ?_
      refine lv_iload hx hb dL_law_406 (lv_at hl 0 rfl) ?_
      refine lv_i2l (v := y.toInt64) hx hb dL_law_408 rfl ?_
      refine W.lcmp hx hb dL_law_409 ?_
      refine q_topE (y := 0) (lcz (hfv hcd) (m2 hcd)) ?_
      refine lv_if_eq (tgt := 415) hx hb dL_law_410 (by decide) (fun c_410 => ?_) (fun c_410 => ?_)
      · skip
        refine lv_goto (tgt := 2707) hx hb dL_law_415 (by decide) ?_
        exact kk _ _ _ _ _ hI w (lv_sub hl [2, 3, 4, 5, 6, 7] rfl)
      · skip
        exact absurd rfl c_410
  · skip
    exact absurd (Int32.toInt_inj.mp ((congrArg Int32.toInt ht).trans (m1.trans hz.symm))) c_393

set_option maxHeartbeats 1000000 in
set_option maxRecDepth 100000 in
theorem law_5 {p : Program} {l : Launch} {e : Env} {s : State} {m : MethodId} {below : List Frame} {meth : Method} {c : Code} {H : Heap} {locs : List Loc} {cells slots : Nat} {Q : State → Prop} {r : Option FieldType} {D : va_G} {t : Nat → ClassId} {b n : Nat} {σ : qM} {sc L : Nat} {xs : Nat → Int32} {ls : Array Slot} {i : Int32} {i0 : Int} (hl0 : l.stackTraces = false) (X : qX p s #[.ref sc] m meth c RL cL_law 9 r D t b) (hE : XK s) (hS : SK b s) (hXs : va_X sc L xs s s.heap) (hbl : sc < s.heap.size) (hbA : ¬ b ≤ sc) (hi : i.toInt = i0) (h0 : 0 ≤ i0 ∧ i0 + 7 ≤ L ∧ L ≤ 3584) (hcs : cells + 8 ≤ 601024 ∧ slots + 1100 ≤ 7293034) (w : qW D b n σ s H locs) (hI : LI t b σ) (hl : lv_has ls 9 [(5, .int i), (0, .ref sc), (1, .ref (b + 0)), (2, .ref (b + 45)), (3, .ref (b + 60)), (4, .ref (b + 61))]) (kk : ∀ (n : Nat) (σ : qM) (H : Heap) (locs : List Loc) (ls : Array Slot), LI t b σ → qW D b n σ s H locs → lv_has ls 9 [(5, .int i), (0, .ref sc), (1, .ref (b + 0)), (2, .ref (b + 45)), (3, .ref (b + 60)), (4, .ref (b + 61))] → W p l e room_1 s m #[.ref sc] below meth c H locs (cells + 8) (slots + 1100) Q (F0 m 2707 ls [])) : W p l e room_1 s m #[.ref sc] below meth c H locs cells slots Q (F0 m 418 ls []) := by
  have hx := X.1
  have hb := X.2.1
  refine lv_aload_n hx hb dL_law_418 rfl (lv_at hl 2 rfl) ?_
  refine lv_aload_n hx hb dL_law_419 rfl (lv_at hl 1 rfl) ?_
  refine lv_iload hx hb dL_law_420 (lv_at hl 0 rfl) ?_
  refine lv_iconst (v := 1) hx hb dL_law_422 (by decide) ?_
  refine lv_iadd hx hb dL_law_423 ?_
  refine lv_topi (fun x_423 e_423 => ?_)
  have p_423 : x_423.toInt = (i0 + 1) := by rw [e_423]; exact t_add hi (show (1 : Int32).toInt = 1 from rfl) (by omega) (by omega)
  refine va_sld hx hb hXs hbl hbA w.2.1 (g_in p_423 (by omega)) dL_law_424 ?_
  refine q_topE (y := xs (i0 + 1).toNat) (congrArg xs (g_tn p_423)) ?_
  refine lv_aload_n hx hb dL_law_425 rfl (lv_at hl 1 rfl) ?_
  refine lv_iload hx hb dL_law_426 (lv_at hl 0 rfl) ?_
  refine lv_iconst (v := 2) hx hb dL_law_428 (by decide) ?_
  refine lv_iadd hx hb dL_law_429 ?_
  refine lv_topi (fun x_429 e_429 => ?_)
  have p_429 : x_429.toInt = (i0 + 2) := by rw [e_429]; exact t_add hi (show (2 : Int32).toInt = 2 from rfl) (by omega) (by omega)
  refine va_sld hx hb hXs hbl hbA w.2.1 (g_in p_429 (by omega)) dL_law_430 ?_
  refine q_topE (y := xs (i0 + 2).toNat) (congrArg xs (g_tn p_429)) ?_
  refine lv_aload_n hx hb dL_law_431 rfl (lv_at hl 4 rfl) ?_
  refine q_cL X hE hS w (k_isLeapYear (l := l) (D := D) hl0 hI (xs (i0 + 1).toNat) (xs (i0 + 2).toNat)) vL_152 rfl ⟨Nat.le_of_ble_eq_true rfl, Nat.le_of_ble_eq_true rfl⟩ rfl hl.1 (Nat.le_of_ble_eq_true rfl) dL_law_432 (cap8 hcs (by decide) (by decide)) (fun z n2 σ2 H locs hz2 w => ?_)
  refine W.widen (k := cells + 8) (n := slots + 1100) (Nat.add_le_add_left (by decide) _) (Nat.add_le_add_left (by decide) _) ?_
  obtain ⟨cd, vl, hz, ⟨f, hf, hfv⟩, I1, R1, pm, es, hM, hpost⟩ := hz2
  have w : qW D b n2 (mS t b σ2 I1 R1) s H locs := by rw [← es]; exact w
  refine lv_istore (lv' := [(6, .int z), (5, .int i), (0, .ref sc), (1, .ref (b + 0)), (2, .ref (b + 45)), (3, .ref (b + 60)), (4, .ref (b + 61))]) hx hb dL_law_435 hl (by decide) rfl (fun ls hl => ?_)
  refine lv_aload_n hx hb dL_law_437 rfl (lv_at hl 4 rfl) ?_
  refine lv_aload_n hx hb dL_law_438 rfl (lv_at hl 2 rfl) ?_
  refine lv_iload hx hb dL_law_439 (lv_at hl 1 rfl) ?_
  refine lv_iconst (v := 1) hx hb dL_law_441 (by decide) ?_
  refine lv_iadd hx hb dL_law_442 ?_
  refine lv_topi (fun x_442 e_442 => ?_)
  have p_442 : x_442.toInt = (i0 + 1) := by rw [e_442]; exact t_add hi (show (1 : Int32).toInt = 1 from rfl) (by omega) (by omega)
  refine va_sld hx hb hXs hbl hbA w.2.1 (g_in p_442 (by omega)) dL_law_443 ?_
  refine q_topE (y := xs (i0 + 1).toNat) (congrArg xs (g_tn p_442)) ?_
  refine lv_aload_n hx hb dL_law_444 rfl (lv_at hl 2 rfl) ?_
  refine lv_iload hx hb dL_law_445 (lv_at hl 1 rfl) ?_
  refine lv_iconst (v := 2) hx hb dL_law_447 (by decide) ?_
  refine lv_iadd hx hb dL_law_448 ?_
  refine lv_topi (fun x_448 e_448 => ?_)
  have p_448 : x_448.toInt = (i0 + 2) := by rw [e_448]; exact t_add hi (show (2 : Int32).toInt = 2 from rfl) (by omega) (by omega)
  refine va_sld hx hb hXs hbl hbA w.2.1 (g_in p_448 (by omega)) dL_law_449 ?_
  refine q_topE (y := xs (i0 + 2).toNat) (congrArg xs (g_tn p_448)) ?_
  refine mm_cC X w hM vL_154 rfl rfl ⟨Nat.le_of_ble_eq_true rfl, Nat.le_of_ble_eq_true rfl⟩ rfl hl.1 (Nat.le_of_ble_eq_true rfl) dL_law_450 hcs (fun y I2 R2 H locs hp2 w => ?_)
  obtain ⟨m1, m2, hI⟩ := hpost y I2 R2 hp2
  refine lv_istore (lv' := [(7, .int y), (6, .int z), (5, .int i), (0, .ref sc), (1, .ref (b + 0)), (2, .ref (b + 45)), (3, .ref (b + 60)), (4, .ref (b + 61))]) hx hb dL_law_453 hl (by decide) rfl (fun ls hl => ?_)
  refine lv_aload_n hx hb dL_law_455 rfl (lv_at hl 5 rfl) ?_
  refine q_cPV X w (c_X9_thrown l D t b _ _ I2 R2) vL_134 (k := 45) rfl rfl rfl ⟨Nat.le_of_ble_eq_true rfl, Nat.le_of_ble_eq_true rfl⟩ rfl hl.1 (Nat.le_of_ble_eq_true rfl) dL_law_456 hcs (fun th ht => ?_)
  refine lv_iload hx hb dL_law_459 (lv_at hl 1 rfl) ?_
  refine lv_icmp_eq (tgt := 466) hx hb dL_law_461 (by decide) (fun c_461 => ?_) (fun c_461 => ?_)
  · skip
    refine lv_iload hx hb dL_law_466 (lv_at hl 1 rfl) ?_
    refine lv_if_ne (tgt := 490) hx hb dL_law_468 (by decide) (fun c_468 => ?_) (fun c_468 => ?_)
    · skip
      refine lv_goto (tgt := 2707) hx hb dL_law_490 (by decide) ?_
      exact kk _ _ _ _ _ hI w (lv_sub hl [2, 3, 4, 5, 6, 7] rfl)
    · skip
      have hcd : cd = 0 := by rw [← hz, c_468]; rfl
      refine lv_aload_n hx hb dL_law_471 rfl (lv_at hl 6 rfl) ?_
      refine lv_iconst (v := 0) hx hb dL_law_472 (by decide) ?_
      refine q_lald X w (k := 60) (f := f) ((mS_off (I2 := I2) (R2 := R2) (by omega)).trans hf) (i := 0) (by unfold vp_in; decide) dL_law_473 ?_
      refine lv_iload hx hb dL_law_474 (lv_at hl 0 rfl) ?_
      refine lv_if_eq (tgt := 483) hx hb dL_law_476 (by decide) (fun c_476 => ?_) (fun c_476 => ?_)
      · skip
        refine lv_lconst (v := 0) hx hb dL_law_483 rfl ?_
        refine W.lcmp hx hb dL_law_484 ?_
        refine q_topE (y := 0) (lcz0 ((hfv hcd).1.trans ((m2 hcd).symm.trans (by rw [c_476]; rfl)))) ?_
        refine lv_if_eq (tgt := 490) hx hb dL_law_485 (by decide) (fun c_485 => ?_) (fun c_485 => ?_)
        · skip
          refine lv_goto (tgt := 2707) hx hb dL_law_490 (by decide) ?_
          exact kk _ _ _ _ _ hI w (lv_sub hl [2, 3, 4, 5, 6, 7] rfl)
        · skip
          exact absurd rfl c_485
      · skip
        refine lv_lconst (v := 1) hx hb dL_law_479 rfl ?_
        refine lv_goto (tgt := 484) hx hb dL_law_480 (by decide) ?_
        refine W.lcmp hx hb dL_law_484 ?_
        refine q_topE (y := 0) (lcz1 (hfv hcd).1 (hfv hcd).2 (m2 hcd) c_476) ?_
        refine lv_if_eq (tgt := 490) hx hb dL_law_485 (by decide) (fun c_485 => ?_) (fun c_485 => ?_)
        · skip
          refine lv_goto (tgt := 2707) hx hb dL_law_490 (by decide) ?_
          exact kk _ _ _ _ _ hI w (lv_sub hl [2, 3, 4, 5, 6, 7] rfl)
        · skip
          exact absurd rfl c_485
  · skip
    exact absurd (Int32.toInt_inj.mp ((congrArg Int32.toInt ht).trans (m1.trans hz.symm))) c_461

set_option maxHeartbeats 1000000 in
set_option maxRecDepth 100000 in
theorem law_6 {p : Program} {l : Launch} {e : Env} {s : State} {m : MethodId} {below : List Frame} {meth : Method} {c : Code} {H : Heap} {locs : List Loc} {cells slots : Nat} {Q : State → Prop} {r : Option FieldType} {D : va_G} {t : Nat → ClassId} {b n : Nat} {σ : qM} {sc L : Nat} {xs : Nat → Int32} {ls : Array Slot} {i : Int32} {i0 : Int} (hl0 : l.stackTraces = false) (X : qX p s #[.ref sc] m meth c RL cL_law 9 r D t b) (hE : XK s) (hS : SK b s) (hXs : va_X sc L xs s s.heap) (hbl : sc < s.heap.size) (hbA : ¬ b ≤ sc) (hi : i.toInt = i0) (h0 : 0 ≤ i0 ∧ i0 + 7 ≤ L ∧ L ≤ 3584) (hcs : cells + 8 ≤ 601024 ∧ slots + 1100 ≤ 7293034) (w : qW D b n σ s H locs) (hI : LI t b σ) (hl : lv_has ls 9 [(5, .int i), (0, .ref sc), (1, .ref (b + 0)), (2, .ref (b + 45)), (3, .ref (b + 60)), (4, .ref (b + 61))]) (kk : ∀ (n : Nat) (σ : qM) (H : Heap) (locs : List Loc) (ls : Array Slot), LI t b σ → qW D b n σ s H locs → lv_has ls 9 [(5, .int i), (0, .ref sc), (1, .ref (b + 0)), (2, .ref (b + 45)), (3, .ref (b + 60)), (4, .ref (b + 61))] → W p l e room_1 s m #[.ref sc] below meth c H locs (cells + 8) (slots + 1100) Q (F0 m 2707 ls [])) : W p l e room_1 s m #[.ref sc] below meth c H locs cells slots Q (F0 m 493 ls []) := by
  have hx := X.1
  have hb := X.2.1
  refine lv_aload_n hx hb dL_law_493 rfl (lv_at hl 2 rfl) ?_
  refine lv_aload_n hx hb dL_law_494 rfl (lv_at hl 1 rfl) ?_
  refine lv_iload hx hb dL_law_495 (lv_at hl 0 rfl) ?_
  refine lv_iconst (v := 1) hx hb dL_law_497 (by decide) ?_
  refine lv_iadd hx hb dL_law_498 ?_
  refine lv_topi (fun x_498 e_498 => ?_)
  have p_498 : x_498.toInt = (i0 + 1) := by rw [e_498]; exact t_add hi (show (1 : Int32).toInt = 1 from rfl) (by omega) (by omega)
  refine va_sld hx hb hXs hbl hbA w.2.1 (g_in p_498 (by omega)) dL_law_499 ?_
  refine q_topE (y := xs (i0 + 1).toNat) (congrArg xs (g_tn p_498)) ?_
  refine lv_aload_n hx hb dL_law_500 rfl (lv_at hl 1 rfl) ?_
  refine lv_iload hx hb dL_law_501 (lv_at hl 0 rfl) ?_
  refine lv_iconst (v := 2) hx hb dL_law_503 (by decide) ?_
  refine lv_iadd hx hb dL_law_504 ?_
  refine lv_topi (fun x_504 e_504 => ?_)
  have p_504 : x_504.toInt = (i0 + 2) := by rw [e_504]; exact t_add hi (show (2 : Int32).toInt = 2 from rfl) (by omega) (by omega)
  refine va_sld hx hb hXs hbl hbA w.2.1 (g_in p_504 (by omega)) dL_law_505 ?_
  refine q_topE (y := xs (i0 + 2).toNat) (congrArg xs (g_tn p_504)) ?_
  refine lv_aload_n hx hb dL_law_506 rfl (lv_at hl 4 rfl) ?_
  refine q_cL X hE hS w (k_months (l := l) (D := D) hl0 hI (xs (i0 + 1).toNat) (xs (i0 + 2).toNat)) vL_155 rfl ⟨Nat.le_of_ble_eq_true rfl, Nat.le_of_ble_eq_true rfl⟩ rfl hl.1 (Nat.le_of_ble_eq_true rfl) dL_law_507 (cap8 hcs (by decide) (by decide)) (fun z n2 σ2 H locs hz2 w => ?_)
  refine W.widen (k := cells + 8) (n := slots + 1100) (Nat.add_le_add_left (by decide) _) (Nat.add_le_add_left (by decide) _) ?_
  obtain ⟨cd, vl, hz, ⟨f, hf, hfv⟩, I1, R1, pm, es, hM, hpost⟩ := hz2
  have w : qW D b n2 (mS t b σ2 I1 R1) s H locs := by rw [← es]; exact w
  refine lv_istore (lv' := [(6, .int z), (5, .int i), (0, .ref sc), (1, .ref (b + 0)), (2, .ref (b + 45)), (3, .ref (b + 60)), (4, .ref (b + 61))]) hx hb dL_law_510 hl (by decide) rfl (fun ls hl => ?_)
  refine lv_aload_n hx hb dL_law_512 rfl (lv_at hl 4 rfl) ?_
  refine lv_aload_n hx hb dL_law_513 rfl (lv_at hl 2 rfl) ?_
  refine lv_iload hx hb dL_law_514 (lv_at hl 1 rfl) ?_
  refine lv_iconst (v := 1) hx hb dL_law_516 (by decide) ?_
  refine lv_iadd hx hb dL_law_517 ?_
  refine lv_topi (fun x_517 e_517 => ?_)
  have p_517 : x_517.toInt = (i0 + 1) := by rw [e_517]; exact t_add hi (show (1 : Int32).toInt = 1 from rfl) (by omega) (by omega)
  refine va_sld hx hb hXs hbl hbA w.2.1 (g_in p_517 (by omega)) dL_law_518 ?_
  refine q_topE (y := xs (i0 + 1).toNat) (congrArg xs (g_tn p_517)) ?_
  refine lv_aload_n hx hb dL_law_519 rfl (lv_at hl 2 rfl) ?_
  refine lv_iload hx hb dL_law_520 (lv_at hl 1 rfl) ?_
  refine lv_iconst (v := 2) hx hb dL_law_522 (by decide) ?_
  refine lv_iadd hx hb dL_law_523 ?_
  refine lv_topi (fun x_523 e_523 => ?_)
  have p_523 : x_523.toInt = (i0 + 2) := by rw [e_523]; exact t_add hi (show (2 : Int32).toInt = 2 from rfl) (by omega) (by omega)
  refine va_sld hx hb hXs hbl hbA w.2.1 (g_in p_523 (by omega)) dL_law_524 ?_
  refine q_topE (y := xs (i0 + 2).toNat) (congrArg xs (g_tn p_523)) ?_
  refine mm_cC X w hM vL_157 rfl rfl ⟨Nat.le_of_ble_eq_true rfl, Nat.le_of_ble_eq_true rfl⟩ rfl hl.1 (Nat.le_of_ble_eq_true rfl) dL_law_525 hcs (fun y I2 R2 H locs hp2 w => ?_)
  obtain ⟨m1, m2, hI⟩ := hpost y I2 R2 hp2
  refine lv_istore (lv' := [(7, .int y), (6, .int z), (5, .int i), (0, .ref sc), (1, .ref (b + 0)), (2, .ref (b + 45)), (3, .ref (b + 60)), (4, .ref (b + 61))]) hx hb dL_law_528 hl (by decide) rfl (fun ls hl => ?_)
  refine lv_aload_n hx hb dL_law_530 rfl (lv_at hl 5 rfl) ?_
  refine q_cPV X w (c_X9_thrown l D t b _ _ I2 R2) vL_134 (k := 45) rfl rfl rfl ⟨Nat.le_of_ble_eq_true rfl, Nat.le_of_ble_eq_true rfl⟩ rfl hl.1 (Nat.le_of_ble_eq_true rfl) dL_law_531 hcs (fun th ht => ?_)
  refine lv_iload hx hb dL_law_534 (lv_at hl 1 rfl) ?_
  refine lv_icmp_eq (tgt := 541) hx hb dL_law_536 (by decide) (fun c_536 => ?_) (fun c_536 => ?_)
  · skip
    refine lv_iload hx hb dL_law_541 (lv_at hl 1 rfl) ?_
    refine lv_if_ne (tgt := 558) hx hb dL_law_543 (by decide) (fun c_543 => ?_) (fun c_543 => ?_)
    · skip
      refine lv_goto (tgt := 2707) hx hb dL_law_558 (by decide) ?_
      exact kk _ _ _ _ _ hI w (lv_sub hl [2, 3, 4, 5, 6, 7] rfl)
    · skip
      have hcd : cd = 0 := by rw [← hz, c_543]; rfl
      refine lv_aload_n hx hb dL_law_546 rfl (lv_at hl 6 rfl) ?_
      refine lv_iconst (v := 0) hx hb dL_law_547 (by decide) ?_
      refine q_lald X w (k := 60) (f := f) ((mS_off (I2 := I2) (R2 := R2) (by omega)).trans hf) (i := 0) (by unfold vp_in; decide) dL_law_548 ?_
      refine lv_iload hx hb dL_law_549 (lv_at hl 0 rfl) ?_
      refine lv_i2l (v := y.toInt64) hx hb dL_law_551 rfl ?_
      refine W.lcmp hx hb dL_law_552 ?_
      refine q_topE (y := 0) (lcz (hfv hcd) (m2 hcd)) ?_
      refine lv_if_eq (tgt := 558) hx hb dL_law_553 (by decide) (fun c_553 => ?_) (fun c_553 => ?_)
      · skip
        refine lv_goto (tgt := 2707) hx hb dL_law_558 (by decide) ?_
        exact kk _ _ _ _ _ hI w (lv_sub hl [2, 3, 4, 5, 6, 7] rfl)
      · skip
        exact absurd rfl c_553
  · skip
    exact absurd (Int32.toInt_inj.mp ((congrArg Int32.toInt ht).trans (m1.trans hz.symm))) c_536

set_option maxHeartbeats 1000000 in
set_option maxRecDepth 100000 in
theorem law_7 {p : Program} {l : Launch} {e : Env} {s : State} {m : MethodId} {below : List Frame} {meth : Method} {c : Code} {H : Heap} {locs : List Loc} {cells slots : Nat} {Q : State → Prop} {r : Option FieldType} {D : va_G} {t : Nat → ClassId} {b n : Nat} {σ : qM} {sc L : Nat} {xs : Nat → Int32} {ls : Array Slot} {i : Int32} {i0 : Int} (hl0 : l.stackTraces = false) (X : qX p s #[.ref sc] m meth c RL cL_law 9 r D t b) (hE : XK s) (hS : SK b s) (hXs : va_X sc L xs s s.heap) (hbl : sc < s.heap.size) (hbA : ¬ b ≤ sc) (hi : i.toInt = i0) (h0 : 0 ≤ i0 ∧ i0 + 7 ≤ L ∧ L ≤ 3584) (hcs : cells + 8 ≤ 601024 ∧ slots + 1100 ≤ 7293034) (w : qW D b n σ s H locs) (hI : LI t b σ) (hl : lv_has ls 9 [(5, .int i), (0, .ref sc), (1, .ref (b + 0)), (2, .ref (b + 45)), (3, .ref (b + 60)), (4, .ref (b + 61))]) (kk : ∀ (n : Nat) (σ : qM) (H : Heap) (locs : List Loc) (ls : Array Slot), LI t b σ → qW D b n σ s H locs → lv_has ls 9 [(5, .int i), (0, .ref sc), (1, .ref (b + 0)), (2, .ref (b + 45)), (3, .ref (b + 60)), (4, .ref (b + 61))] → W p l e room_1 s m #[.ref sc] below meth c H locs (cells + 8) (slots + 1100) Q (F0 m 2707 ls [])) : W p l e room_1 s m #[.ref sc] below meth c H locs cells slots Q (F0 m 561 ls []) := by
  have hx := X.1
  have hb := X.2.1
  refine lv_aload_n hx hb dL_law_561 rfl (lv_at hl 2 rfl) ?_
  refine lv_aload_n hx hb dL_law_562 rfl (lv_at hl 1 rfl) ?_
  refine lv_iload hx hb dL_law_563 (lv_at hl 0 rfl) ?_
  refine lv_iconst (v := 1) hx hb dL_law_565 (by decide) ?_
  refine lv_iadd hx hb dL_law_566 ?_
  refine lv_topi (fun x_566 e_566 => ?_)
  have p_566 : x_566.toInt = (i0 + 1) := by rw [e_566]; exact t_add hi (show (1 : Int32).toInt = 1 from rfl) (by omega) (by omega)
  refine va_sld hx hb hXs hbl hbA w.2.1 (g_in p_566 (by omega)) dL_law_567 ?_
  refine q_topE (y := xs (i0 + 1).toNat) (congrArg xs (g_tn p_566)) ?_
  refine lv_aload_n hx hb dL_law_568 rfl (lv_at hl 1 rfl) ?_
  refine lv_iload hx hb dL_law_569 (lv_at hl 0 rfl) ?_
  refine lv_iconst (v := 2) hx hb dL_law_571 (by decide) ?_
  refine lv_iadd hx hb dL_law_572 ?_
  refine lv_topi (fun x_572 e_572 => ?_)
  have p_572 : x_572.toInt = (i0 + 2) := by rw [e_572]; exact t_add hi (show (2 : Int32).toInt = 2 from rfl) (by omega) (by omega)
  refine va_sld hx hb hXs hbl hbA w.2.1 (g_in p_572 (by omega)) dL_law_573 ?_
  refine q_topE (y := xs (i0 + 2).toNat) (congrArg xs (g_tn p_572)) ?_
  refine lv_aload_n hx hb dL_law_574 rfl (lv_at hl 1 rfl) ?_
  refine lv_iload hx hb dL_law_575 (lv_at hl 0 rfl) ?_
  refine lv_iconst (v := 3) hx hb dL_law_577 (by decide) ?_
  refine lv_iadd hx hb dL_law_578 ?_
  refine lv_topi (fun x_578 e_578 => ?_)
  have p_578 : x_578.toInt = (i0 + 3) := by rw [e_578]; exact t_add hi (show (3 : Int32).toInt = 3 from rfl) (by omega) (by omega)
  refine va_sld hx hb hXs hbl hbA w.2.1 (g_in p_578 (by omega)) dL_law_579 ?_
  refine q_topE (y := xs (i0 + 3).toNat) (congrArg xs (g_tn p_578)) ?_
  refine lv_aload_n hx hb dL_law_580 rfl (lv_at hl 4 rfl) ?_
  refine q_cL X hE hS w (k_monthLength (l := l) (D := D) hl0 hI (xs (i0 + 1).toNat) (xs (i0 + 2).toNat) (xs (i0 + 3).toNat)) vL_158 rfl ⟨Nat.le_of_ble_eq_true rfl, Nat.le_of_ble_eq_true rfl⟩ rfl hl.1 (Nat.le_of_ble_eq_true rfl) dL_law_581 (cap8 hcs (by decide) (by decide)) (fun z n2 σ2 H locs hz2 w => ?_)
  refine W.widen (k := cells + 8) (n := slots + 1100) (Nat.add_le_add_left (by decide) _) (Nat.add_le_add_left (by decide) _) ?_
  obtain ⟨cd, vl, hz, ⟨f, hf, hfv⟩, I1, R1, pm, es, hM, hpost⟩ := hz2
  have w : qW D b n2 (mS t b σ2 I1 R1) s H locs := by rw [← es]; exact w
  refine lv_istore (lv' := [(6, .int z), (5, .int i), (0, .ref sc), (1, .ref (b + 0)), (2, .ref (b + 45)), (3, .ref (b + 60)), (4, .ref (b + 61))]) hx hb dL_law_584 hl (by decide) rfl (fun ls hl => ?_)
  refine lv_aload_n hx hb dL_law_586 rfl (lv_at hl 4 rfl) ?_
  refine lv_aload_n hx hb dL_law_587 rfl (lv_at hl 2 rfl) ?_
  refine lv_iload hx hb dL_law_588 (lv_at hl 1 rfl) ?_
  refine lv_iconst (v := 1) hx hb dL_law_590 (by decide) ?_
  refine lv_iadd hx hb dL_law_591 ?_
  refine lv_topi (fun x_591 e_591 => ?_)
  have p_591 : x_591.toInt = (i0 + 1) := by rw [e_591]; exact t_add hi (show (1 : Int32).toInt = 1 from rfl) (by omega) (by omega)
  refine va_sld hx hb hXs hbl hbA w.2.1 (g_in p_591 (by omega)) dL_law_592 ?_
  refine q_topE (y := xs (i0 + 1).toNat) (congrArg xs (g_tn p_591)) ?_
  refine lv_aload_n hx hb dL_law_593 rfl (lv_at hl 2 rfl) ?_
  refine lv_iload hx hb dL_law_594 (lv_at hl 1 rfl) ?_
  refine lv_iconst (v := 2) hx hb dL_law_596 (by decide) ?_
  refine lv_iadd hx hb dL_law_597 ?_
  refine lv_topi (fun x_597 e_597 => ?_)
  have p_597 : x_597.toInt = (i0 + 2) := by rw [e_597]; exact t_add hi (show (2 : Int32).toInt = 2 from rfl) (by omega) (by omega)
  refine va_sld hx hb hXs hbl hbA w.2.1 (g_in p_597 (by omega)) dL_law_598 ?_
  refine q_topE (y := xs (i0 + 2).toNat) (congrArg xs (g_tn p_597)) ?_
  refine lv_aload_n hx hb dL_law_599 rfl (lv_at hl 2 rfl) ?_
  refine lv_iload hx hb dL_law_600 (lv_at hl 1 rfl) ?_
  refine lv_iconst (v := 3) hx hb dL_law_602 (by decide) ?_
  refine lv_iadd hx hb dL_law_603 ?_
  refine lv_topi (fun x_603 e_603 => ?_)
  have p_603 : x_603.toInt = (i0 + 3) := by rw [e_603]; exact t_add hi (show (3 : Int32).toInt = 3 from rfl) (by omega) (by omega)
  refine va_sld hx hb hXs hbl hbA w.2.1 (g_in p_603 (by omega)) dL_law_604 ?_
  refine q_topE (y := xs (i0 + 3).toNat) (congrArg xs (g_tn p_603)) ?_
  refine mm_cC X w hM vL_161 rfl rfl ⟨Nat.le_of_ble_eq_true rfl, Nat.le_of_ble_eq_true rfl⟩ rfl hl.1 (Nat.le_of_ble_eq_true rfl) dL_law_605 hcs (fun y I2 R2 H locs hp2 w => ?_)
  obtain ⟨m1, m2, hI⟩ := hpost y I2 R2 hp2
  refine lv_istore (lv' := [(7, .int y), (6, .int z), (5, .int i), (0, .ref sc), (1, .ref (b + 0)), (2, .ref (b + 45)), (3, .ref (b + 60)), (4, .ref (b + 61))]) hx hb dL_law_608 hl (by decide) rfl (fun ls hl => ?_)
  refine lv_aload_n hx hb dL_law_610 rfl (lv_at hl 5 rfl) ?_
  refine q_cPV X w (c_X9_thrown l D t b _ _ I2 R2) vL_134 (k := 45) rfl rfl rfl ⟨Nat.le_of_ble_eq_true rfl, Nat.le_of_ble_eq_true rfl⟩ rfl hl.1 (Nat.le_of_ble_eq_true rfl) dL_law_611 hcs (fun th ht => ?_)
  refine lv_iload hx hb dL_law_614 (lv_at hl 1 rfl) ?_
  refine lv_icmp_eq (tgt := 621) hx hb dL_law_616 (by decide) (fun c_616 => ?_) (fun c_616 => ?_)
  · skip
    refine lv_iload hx hb dL_law_621 (lv_at hl 1 rfl) ?_
    refine lv_if_ne (tgt := 638) hx hb dL_law_623 (by decide) (fun c_623 => ?_) (fun c_623 => ?_)
    · skip
      refine lv_goto (tgt := 2707) hx hb dL_law_638 (by decide) ?_
      exact kk _ _ _ _ _ hI w (lv_sub hl [2, 3, 4, 5, 6, 7] rfl)
    · skip
      have hcd : cd = 0 := by rw [← hz, c_623]; rfl
      refine lv_aload_n hx hb dL_law_626 rfl (lv_at hl 6 rfl) ?_
      refine lv_iconst (v := 0) hx hb dL_law_627 (by decide) ?_
      refine q_lald X w (k := 60) (f := f) ((mS_off (I2 := I2) (R2 := R2) (by omega)).trans hf) (i := 0) (by unfold vp_in; decide) dL_law_628 ?_
      refine lv_iload hx hb dL_law_629 (lv_at hl 0 rfl) ?_
      refine lv_i2l (v := y.toInt64) hx hb dL_law_631 rfl ?_
      refine W.lcmp hx hb dL_law_632 ?_
      refine q_topE (y := 0) (lcz (hfv hcd) (m2 hcd)) ?_
      refine lv_if_eq (tgt := 638) hx hb dL_law_633 (by decide) (fun c_633 => ?_) (fun c_633 => ?_)
      · skip
        refine lv_goto (tgt := 2707) hx hb dL_law_638 (by decide) ?_
        exact kk _ _ _ _ _ hI w (lv_sub hl [2, 3, 4, 5, 6, 7] rfl)
      · skip
        exact absurd rfl c_633
  · skip
    exact absurd (Int32.toInt_inj.mp ((congrArg Int32.toInt ht).trans (m1.trans hz.symm))) c_616

set_option maxHeartbeats 1000000 in
set_option maxRecDepth 100000 in
theorem law_8 {p : Program} {l : Launch} {e : Env} {s : State} {m : MethodId} {below : List Frame} {meth : Method} {c : Code} {H : Heap} {locs : List Loc} {cells slots : Nat} {Q : State → Prop} {r : Option FieldType} {D : va_G} {t : Nat → ClassId} {b n : Nat} {σ : qM} {sc L : Nat} {xs : Nat → Int32} {ls : Array Slot} {i : Int32} {i0 : Int} (hl0 : l.stackTraces = false) (X : qX p s #[.ref sc] m meth c RL cL_law 9 r D t b) (hE : XK s) (hS : SK b s) (hXs : va_X sc L xs s s.heap) (hbl : sc < s.heap.size) (hbA : ¬ b ≤ sc) (hi : i.toInt = i0) (h0 : 0 ≤ i0 ∧ i0 + 7 ≤ L ∧ L ≤ 3584) (hcs : cells + 8 ≤ 601024 ∧ slots + 1100 ≤ 7293034) (w : qW D b n σ s H locs) (hI : LI t b σ) (hl : lv_has ls 9 [(5, .int i), (0, .ref sc), (1, .ref (b + 0)), (2, .ref (b + 45)), (3, .ref (b + 60)), (4, .ref (b + 61))]) (kk : ∀ (n : Nat) (σ : qM) (H : Heap) (locs : List Loc) (ls : Array Slot), LI t b σ → qW D b n σ s H locs → lv_has ls 9 [(5, .int i), (0, .ref sc), (1, .ref (b + 0)), (2, .ref (b + 45)), (3, .ref (b + 60)), (4, .ref (b + 61))] → W p l e room_1 s m #[.ref sc] below meth c H locs (cells + 8) (slots + 1100) Q (F0 m 2707 ls [])) : W p l e room_1 s m #[.ref sc] below meth c H locs cells slots Q (F0 m 641 ls []) := by
  have hx := X.1
  have hb := X.2.1
  refine lv_aload_n hx hb dL_law_641 rfl (lv_at hl 2 rfl) ?_
  refine lv_aload_n hx hb dL_law_642 rfl (lv_at hl 1 rfl) ?_
  refine lv_iload hx hb dL_law_643 (lv_at hl 0 rfl) ?_
  refine lv_iconst (v := 1) hx hb dL_law_645 (by decide) ?_
  refine lv_iadd hx hb dL_law_646 ?_
  refine lv_topi (fun x_646 e_646 => ?_)
  have p_646 : x_646.toInt = (i0 + 1) := by rw [e_646]; exact t_add hi (show (1 : Int32).toInt = 1 from rfl) (by omega) (by omega)
  refine va_sld hx hb hXs hbl hbA w.2.1 (g_in p_646 (by omega)) dL_law_647 ?_
  refine q_topE (y := xs (i0 + 1).toNat) (congrArg xs (g_tn p_646)) ?_
  refine lv_aload_n hx hb dL_law_648 rfl (lv_at hl 1 rfl) ?_
  refine lv_iload hx hb dL_law_649 (lv_at hl 0 rfl) ?_
  refine lv_iconst (v := 2) hx hb dL_law_651 (by decide) ?_
  refine lv_iadd hx hb dL_law_652 ?_
  refine lv_topi (fun x_652 e_652 => ?_)
  have p_652 : x_652.toInt = (i0 + 2) := by rw [e_652]; exact t_add hi (show (2 : Int32).toInt = 2 from rfl) (by omega) (by omega)
  refine va_sld hx hb hXs hbl hbA w.2.1 (g_in p_652 (by omega)) dL_law_653 ?_
  refine q_topE (y := xs (i0 + 2).toNat) (congrArg xs (g_tn p_652)) ?_
  refine lv_aload_n hx hb dL_law_654 rfl (lv_at hl 1 rfl) ?_
  refine lv_iload hx hb dL_law_655 (lv_at hl 0 rfl) ?_
  refine lv_iconst (v := 3) hx hb dL_law_657 (by decide) ?_
  refine lv_iadd hx hb dL_law_658 ?_
  refine lv_topi (fun x_658 e_658 => ?_)
  have p_658 : x_658.toInt = (i0 + 3) := by rw [e_658]; exact t_add hi (show (3 : Int32).toInt = 3 from rfl) (by omega) (by omega)
  refine va_sld hx hb hXs hbl hbA w.2.1 (g_in p_658 (by omega)) dL_law_659 ?_
  refine q_topE (y := xs (i0 + 3).toNat) (congrArg xs (g_tn p_658)) ?_
  refine lv_aload_n hx hb dL_law_660 rfl (lv_at hl 4 rfl) ?_
  refine q_cL X hE hS w (k_isIntercalary (l := l) (D := D) hl0 hI (xs (i0 + 1).toNat) (xs (i0 + 2).toNat) (xs (i0 + 3).toNat)) vL_162 rfl ⟨Nat.le_of_ble_eq_true rfl, Nat.le_of_ble_eq_true rfl⟩ rfl hl.1 (Nat.le_of_ble_eq_true rfl) dL_law_661 (cap8 hcs (by decide) (by decide)) (fun z n2 σ2 H locs hz2 w => ?_)
  refine W.widen (k := cells + 8) (n := slots + 1100) (Nat.add_le_add_left (by decide) _) (Nat.add_le_add_left (by decide) _) ?_
  obtain ⟨cd, vl, hz, ⟨f, hf, hfv⟩, I1, R1, pm, es, hM, hpost⟩ := hz2
  have w : qW D b n2 (mS t b σ2 I1 R1) s H locs := by rw [← es]; exact w
  refine lv_istore (lv' := [(6, .int z), (5, .int i), (0, .ref sc), (1, .ref (b + 0)), (2, .ref (b + 45)), (3, .ref (b + 60)), (4, .ref (b + 61))]) hx hb dL_law_664 hl (by decide) rfl (fun ls hl => ?_)
  refine lv_aload_n hx hb dL_law_666 rfl (lv_at hl 4 rfl) ?_
  refine lv_aload_n hx hb dL_law_667 rfl (lv_at hl 2 rfl) ?_
  refine lv_iload hx hb dL_law_668 (lv_at hl 1 rfl) ?_
  refine lv_iconst (v := 1) hx hb dL_law_670 (by decide) ?_
  refine lv_iadd hx hb dL_law_671 ?_
  refine lv_topi (fun x_671 e_671 => ?_)
  have p_671 : x_671.toInt = (i0 + 1) := by rw [e_671]; exact t_add hi (show (1 : Int32).toInt = 1 from rfl) (by omega) (by omega)
  refine va_sld hx hb hXs hbl hbA w.2.1 (g_in p_671 (by omega)) dL_law_672 ?_
  refine q_topE (y := xs (i0 + 1).toNat) (congrArg xs (g_tn p_671)) ?_
  refine lv_aload_n hx hb dL_law_673 rfl (lv_at hl 2 rfl) ?_
  refine lv_iload hx hb dL_law_674 (lv_at hl 1 rfl) ?_
  refine lv_iconst (v := 2) hx hb dL_law_676 (by decide) ?_
  refine lv_iadd hx hb dL_law_677 ?_
  refine lv_topi (fun x_677 e_677 => ?_)
  have p_677 : x_677.toInt = (i0 + 2) := by rw [e_677]; exact t_add hi (show (2 : Int32).toInt = 2 from rfl) (by omega) (by omega)
  refine va_sld hx hb hXs hbl hbA w.2.1 (g_in p_677 (by omega)) dL_law_678 ?_
  refine q_topE (y := xs (i0 + 2).toNat) (congrArg xs (g_tn p_677)) ?_
  refine lv_aload_n hx hb dL_law_679 rfl (lv_at hl 2 rfl) ?_
  refine lv_iload hx hb dL_law_680 (lv_at hl 1 rfl) ?_
  refine lv_iconst (v := 3) hx hb dL_law_682 (by decide) ?_
  refine lv_iadd hx hb dL_law_683 ?_
  refine lv_topi (fun x_683 e_683 => ?_)
  have p_683 : x_683.toInt = (i0 + 3) := by rw [e_683]; exact t_add hi (show (3 : Int32).toInt = 3 from rfl) (by omega) (by omega)
  refine va_sld hx hb hXs hbl hbA w.2.1 (g_in p_683 (by omega)) dL_law_684 ?_
  refine q_topE (y := xs (i0 + 3).toNat) (congrArg xs (g_tn p_683)) ?_
  refine mm_cC X w hM vL_164 rfl rfl ⟨Nat.le_of_ble_eq_true rfl, Nat.le_of_ble_eq_true rfl⟩ rfl hl.1 (Nat.le_of_ble_eq_true rfl) dL_law_685 hcs (fun y I2 R2 H locs hp2 w => ?_)
  obtain ⟨m1, m2, hI⟩ := hpost y I2 R2 hp2
  refine lv_istore (lv' := [(7, .int y), (6, .int z), (5, .int i), (0, .ref sc), (1, .ref (b + 0)), (2, .ref (b + 45)), (3, .ref (b + 60)), (4, .ref (b + 61))]) hx hb dL_law_688 hl (by decide) rfl (fun ls hl => ?_)
  refine lv_aload_n hx hb dL_law_690 rfl (lv_at hl 5 rfl) ?_
  refine q_cPV X w (c_X9_thrown l D t b _ _ I2 R2) vL_134 (k := 45) rfl rfl rfl ⟨Nat.le_of_ble_eq_true rfl, Nat.le_of_ble_eq_true rfl⟩ rfl hl.1 (Nat.le_of_ble_eq_true rfl) dL_law_691 hcs (fun th ht => ?_)
  refine lv_iload hx hb dL_law_694 (lv_at hl 1 rfl) ?_
  refine lv_icmp_eq (tgt := 701) hx hb dL_law_696 (by decide) (fun c_696 => ?_) (fun c_696 => ?_)
  · skip
    refine lv_iload hx hb dL_law_701 (lv_at hl 1 rfl) ?_
    refine lv_if_ne (tgt := 725) hx hb dL_law_703 (by decide) (fun c_703 => ?_) (fun c_703 => ?_)
    · skip
      refine lv_goto (tgt := 2707) hx hb dL_law_725 (by decide) ?_
      exact kk _ _ _ _ _ hI w (lv_sub hl [2, 3, 4, 5, 6, 7] rfl)
    · skip
      have hcd : cd = 0 := by rw [← hz, c_703]; rfl
      refine lv_aload_n hx hb dL_law_706 rfl (lv_at hl 6 rfl) ?_
      refine lv_iconst (v := 0) hx hb dL_law_707 (by decide) ?_
      refine q_lald X w (k := 60) (f := f) ((mS_off (I2 := I2) (R2 := R2) (by omega)).trans hf) (i := 0) (by unfold vp_in; decide) dL_law_708 ?_
      refine lv_iload hx hb dL_law_709 (lv_at hl 0 rfl) ?_
      refine lv_if_eq (tgt := 718) hx hb dL_law_711 (by decide) (fun c_711 => ?_) (fun c_711 => ?_)
      · skip
        refine lv_lconst (v := 0) hx hb dL_law_718 rfl ?_
        refine W.lcmp hx hb dL_law_719 ?_
        refine q_topE (y := 0) (lcz0 ((hfv hcd).1.trans ((m2 hcd).symm.trans (by rw [c_711]; rfl)))) ?_
        refine lv_if_eq (tgt := 725) hx hb dL_law_720 (by decide) (fun c_720 => ?_) (fun c_720 => ?_)
        · skip
          refine lv_goto (tgt := 2707) hx hb dL_law_725 (by decide) ?_
          exact kk _ _ _ _ _ hI w (lv_sub hl [2, 3, 4, 5, 6, 7] rfl)
        · skip
          exact absurd rfl c_720
      · skip
        refine lv_lconst (v := 1) hx hb dL_law_714 rfl ?_
        refine lv_goto (tgt := 719) hx hb dL_law_715 (by decide) ?_
        refine W.lcmp hx hb dL_law_719 ?_
        refine q_topE (y := 0) (lcz1 (hfv hcd).1 (hfv hcd).2 (m2 hcd) c_711) ?_
        refine lv_if_eq (tgt := 725) hx hb dL_law_720 (by decide) (fun c_720 => ?_) (fun c_720 => ?_)
        · skip
          refine lv_goto (tgt := 2707) hx hb dL_law_725 (by decide) ?_
          exact kk _ _ _ _ _ hI w (lv_sub hl [2, 3, 4, 5, 6, 7] rfl)
        · skip
          exact absurd rfl c_720
  · skip
    exact absurd (Int32.toInt_inj.mp ((congrArg Int32.toInt ht).trans (m1.trans hz.symm))) c_696

set_option maxHeartbeats 1000000 in
set_option maxRecDepth 100000 in
theorem law_9 {p : Program} {l : Launch} {e : Env} {s : State} {m : MethodId} {below : List Frame} {meth : Method} {c : Code} {H : Heap} {locs : List Loc} {cells slots : Nat} {Q : State → Prop} {r : Option FieldType} {D : va_G} {t : Nat → ClassId} {b n : Nat} {σ : qM} {sc L : Nat} {xs : Nat → Int32} {ls : Array Slot} {i : Int32} {i0 : Int} (hl0 : l.stackTraces = false) (X : qX p s #[.ref sc] m meth c RL cL_law 9 r D t b) (hE : XK s) (hS : SK b s) (hXs : va_X sc L xs s s.heap) (hbl : sc < s.heap.size) (hbA : ¬ b ≤ sc) (hi : i.toInt = i0) (h0 : 0 ≤ i0 ∧ i0 + 7 ≤ L ∧ L ≤ 3584) (hcs : cells + 8 ≤ 601024 ∧ slots + 1100 ≤ 7293034) (w : qW D b n σ s H locs) (hI : LI t b σ) (hl : lv_has ls 9 [(5, .int i), (0, .ref sc), (1, .ref (b + 0)), (2, .ref (b + 45)), (3, .ref (b + 60)), (4, .ref (b + 61))]) (kk : ∀ (n : Nat) (σ : qM) (H : Heap) (locs : List Loc) (ls : Array Slot), LI t b σ → qW D b n σ s H locs → lv_has ls 9 [(5, .int i), (0, .ref sc), (1, .ref (b + 0)), (2, .ref (b + 45)), (3, .ref (b + 60)), (4, .ref (b + 61))] → W p l e room_1 s m #[.ref sc] below meth c H locs (cells + 8) (slots + 1100) Q (F0 m 2707 ls [])) : W p l e room_1 s m #[.ref sc] below meth c H locs cells slots Q (F0 m 728 ls []) := by
  have hx := X.1
  have hb := X.2.1
  refine lv_aload_n hx hb dL_law_728 rfl (lv_at hl 2 rfl) ?_
  refine lv_aload_n hx hb dL_law_729 rfl (lv_at hl 1 rfl) ?_
  refine lv_iload hx hb dL_law_730 (lv_at hl 0 rfl) ?_
  refine lv_iconst (v := 1) hx hb dL_law_732 (by decide) ?_
  refine lv_iadd hx hb dL_law_733 ?_
  refine lv_topi (fun x_733 e_733 => ?_)
  have p_733 : x_733.toInt = (i0 + 1) := by rw [e_733]; exact t_add hi (show (1 : Int32).toInt = 1 from rfl) (by omega) (by omega)
  refine va_sld hx hb hXs hbl hbA w.2.1 (g_in p_733 (by omega)) dL_law_734 ?_
  refine q_topE (y := xs (i0 + 1).toNat) (congrArg xs (g_tn p_733)) ?_
  refine lv_aload_n hx hb dL_law_735 rfl (lv_at hl 1 rfl) ?_
  refine lv_iload hx hb dL_law_736 (lv_at hl 0 rfl) ?_
  refine lv_iconst (v := 2) hx hb dL_law_738 (by decide) ?_
  refine lv_iadd hx hb dL_law_739 ?_
  refine lv_topi (fun x_739 e_739 => ?_)
  have p_739 : x_739.toInt = (i0 + 2) := by rw [e_739]; exact t_add hi (show (2 : Int32).toInt = 2 from rfl) (by omega) (by omega)
  refine va_sld hx hb hXs hbl hbA w.2.1 (g_in p_739 (by omega)) dL_law_740 ?_
  refine q_topE (y := xs (i0 + 2).toNat) (congrArg xs (g_tn p_739)) ?_
  refine lv_aload_n hx hb dL_law_741 rfl (lv_at hl 4 rfl) ?_
  refine q_cL X hE hS w (k_yearLength (l := l) (D := D) hl0 hI (xs (i0 + 1).toNat) (xs (i0 + 2).toNat)) vL_165 rfl ⟨Nat.le_of_ble_eq_true rfl, Nat.le_of_ble_eq_true rfl⟩ rfl hl.1 (Nat.le_of_ble_eq_true rfl) dL_law_742 (cap8 hcs (by decide) (by decide)) (fun z n2 σ2 H locs hz2 w => ?_)
  refine W.widen (k := cells + 8) (n := slots + 1100) (Nat.add_le_add_left (by decide) _) (Nat.add_le_add_left (by decide) _) ?_
  obtain ⟨cd, vl, hz, ⟨f, hf, hfv⟩, I1, R1, pm, es, hM, hpost⟩ := hz2
  have w : qW D b n2 (mS t b σ2 I1 R1) s H locs := by rw [← es]; exact w
  refine lv_istore (lv' := [(6, .int z), (5, .int i), (0, .ref sc), (1, .ref (b + 0)), (2, .ref (b + 45)), (3, .ref (b + 60)), (4, .ref (b + 61))]) hx hb dL_law_745 hl (by decide) rfl (fun ls hl => ?_)
  refine lv_aload_n hx hb dL_law_747 rfl (lv_at hl 4 rfl) ?_
  refine lv_aload_n hx hb dL_law_748 rfl (lv_at hl 2 rfl) ?_
  refine lv_iload hx hb dL_law_749 (lv_at hl 1 rfl) ?_
  refine lv_iconst (v := 1) hx hb dL_law_751 (by decide) ?_
  refine lv_iadd hx hb dL_law_752 ?_
  refine lv_topi (fun x_752 e_752 => ?_)
  have p_752 : x_752.toInt = (i0 + 1) := by rw [e_752]; exact t_add hi (show (1 : Int32).toInt = 1 from rfl) (by omega) (by omega)
  refine va_sld hx hb hXs hbl hbA w.2.1 (g_in p_752 (by omega)) dL_law_753 ?_
  refine q_topE (y := xs (i0 + 1).toNat) (congrArg xs (g_tn p_752)) ?_
  refine lv_aload_n hx hb dL_law_754 rfl (lv_at hl 2 rfl) ?_
  refine lv_iload hx hb dL_law_755 (lv_at hl 1 rfl) ?_
  refine lv_iconst (v := 2) hx hb dL_law_757 (by decide) ?_
  refine lv_iadd hx hb dL_law_758 ?_
  refine lv_topi (fun x_758 e_758 => ?_)
  have p_758 : x_758.toInt = (i0 + 2) := by rw [e_758]; exact t_add hi (show (2 : Int32).toInt = 2 from rfl) (by omega) (by omega)
  refine va_sld hx hb hXs hbl hbA w.2.1 (g_in p_758 (by omega)) dL_law_759 ?_
  refine q_topE (y := xs (i0 + 2).toNat) (congrArg xs (g_tn p_758)) ?_
  refine mm_cC X w hM vL_167 rfl rfl ⟨Nat.le_of_ble_eq_true rfl, Nat.le_of_ble_eq_true rfl⟩ rfl hl.1 (Nat.le_of_ble_eq_true rfl) dL_law_760 hcs (fun y I2 R2 H locs hp2 w => ?_)
  obtain ⟨m1, m2, hI⟩ := hpost y I2 R2 hp2
  refine lv_istore (lv' := [(7, .int y), (6, .int z), (5, .int i), (0, .ref sc), (1, .ref (b + 0)), (2, .ref (b + 45)), (3, .ref (b + 60)), (4, .ref (b + 61))]) hx hb dL_law_763 hl (by decide) rfl (fun ls hl => ?_)
  refine lv_aload_n hx hb dL_law_765 rfl (lv_at hl 5 rfl) ?_
  refine q_cPV X w (c_X9_thrown l D t b _ _ I2 R2) vL_134 (k := 45) rfl rfl rfl ⟨Nat.le_of_ble_eq_true rfl, Nat.le_of_ble_eq_true rfl⟩ rfl hl.1 (Nat.le_of_ble_eq_true rfl) dL_law_766 hcs (fun th ht => ?_)
  refine lv_iload hx hb dL_law_769 (lv_at hl 1 rfl) ?_
  refine lv_icmp_eq (tgt := 776) hx hb dL_law_771 (by decide) (fun c_771 => ?_) (fun c_771 => ?_)
  · skip
    refine lv_iload hx hb dL_law_776 (lv_at hl 1 rfl) ?_
    refine lv_if_ne (tgt := 793) hx hb dL_law_778 (by decide) (fun c_778 => ?_) (fun c_778 => ?_)
    · skip
      refine lv_goto (tgt := 2707) hx hb dL_law_793 (by decide) ?_
      exact kk _ _ _ _ _ hI w (lv_sub hl [2, 3, 4, 5, 6, 7] rfl)
    · skip
      have hcd : cd = 0 := by rw [← hz, c_778]; rfl
      refine lv_aload_n hx hb dL_law_781 rfl (lv_at hl 6 rfl) ?_
      refine lv_iconst (v := 0) hx hb dL_law_782 (by decide) ?_
      refine q_lald X w (k := 60) (f := f) ((mS_off (I2 := I2) (R2 := R2) (by omega)).trans hf) (i := 0) (by unfold vp_in; decide) dL_law_783 ?_
      refine lv_iload hx hb dL_law_784 (lv_at hl 0 rfl) ?_
      refine lv_i2l (v := y.toInt64) hx hb dL_law_786 rfl ?_
      refine W.lcmp hx hb dL_law_787 ?_
      refine q_topE (y := 0) (lcz (hfv hcd) (m2 hcd)) ?_
      refine lv_if_eq (tgt := 793) hx hb dL_law_788 (by decide) (fun c_788 => ?_) (fun c_788 => ?_)
      · skip
        refine lv_goto (tgt := 2707) hx hb dL_law_793 (by decide) ?_
        exact kk _ _ _ _ _ hI w (lv_sub hl [2, 3, 4, 5, 6, 7] rfl)
      · skip
        exact absurd rfl c_788
  · skip
    exact absurd (Int32.toInt_inj.mp ((congrArg Int32.toInt ht).trans (m1.trans hz.symm))) c_771

set_option maxHeartbeats 1000000 in
set_option maxRecDepth 100000 in
theorem law_10 {p : Program} {l : Launch} {e : Env} {s : State} {m : MethodId} {below : List Frame} {meth : Method} {c : Code} {H : Heap} {locs : List Loc} {cells slots : Nat} {Q : State → Prop} {r : Option FieldType} {D : va_G} {t : Nat → ClassId} {b n : Nat} {σ : qM} {sc L : Nat} {xs : Nat → Int32} {ls : Array Slot} {i : Int32} {i0 : Int} (hl0 : l.stackTraces = false) (X : qX p s #[.ref sc] m meth c RL cL_law 9 r D t b) (hE : XK s) (hS : SK b s) (hXs : va_X sc L xs s s.heap) (hbl : sc < s.heap.size) (hbA : ¬ b ≤ sc) (hi : i.toInt = i0) (h0 : 0 ≤ i0 ∧ i0 + 7 ≤ L ∧ L ≤ 3584) (hcs : cells + 8 ≤ 601024 ∧ slots + 1100 ≤ 7293034) (w : qW D b n σ s H locs) (hI : LI t b σ) (hl : lv_has ls 9 [(5, .int i), (0, .ref sc), (1, .ref (b + 0)), (2, .ref (b + 45)), (3, .ref (b + 60)), (4, .ref (b + 61))]) (kk : ∀ (n : Nat) (σ : qM) (H : Heap) (locs : List Loc) (ls : Array Slot), LI t b σ → qW D b n σ s H locs → lv_has ls 9 [(5, .int i), (0, .ref sc), (1, .ref (b + 0)), (2, .ref (b + 45)), (3, .ref (b + 60)), (4, .ref (b + 61))] → W p l e room_1 s m #[.ref sc] below meth c H locs (cells + 8) (slots + 1100) Q (F0 m 2707 ls [])) : W p l e room_1 s m #[.ref sc] below meth c H locs cells slots Q (F0 m 796 ls []) := by
  have hx := X.1
  have hb := X.2.1
  refine lv_aload_n hx hb dL_law_796 rfl (lv_at hl 2 rfl) ?_
  refine lv_aload_n hx hb dL_law_797 rfl (lv_at hl 1 rfl) ?_
  refine lv_iload hx hb dL_law_798 (lv_at hl 0 rfl) ?_
  refine lv_iconst (v := 1) hx hb dL_law_800 (by decide) ?_
  refine lv_iadd hx hb dL_law_801 ?_
  refine lv_topi (fun x_801 e_801 => ?_)
  have p_801 : x_801.toInt = (i0 + 1) := by rw [e_801]; exact t_add hi (show (1 : Int32).toInt = 1 from rfl) (by omega) (by omega)
  refine va_sld hx hb hXs hbl hbA w.2.1 (g_in p_801 (by omega)) dL_law_802 ?_
  refine q_topE (y := xs (i0 + 1).toNat) (congrArg xs (g_tn p_801)) ?_
  refine lv_aload_n hx hb dL_law_803 rfl (lv_at hl 1 rfl) ?_
  refine lv_iload hx hb dL_law_804 (lv_at hl 0 rfl) ?_
  refine lv_iconst (v := 2) hx hb dL_law_806 (by decide) ?_
  refine lv_iadd hx hb dL_law_807 ?_
  refine lv_topi (fun x_807 e_807 => ?_)
  have p_807 : x_807.toInt = (i0 + 2) := by rw [e_807]; exact t_add hi (show (2 : Int32).toInt = 2 from rfl) (by omega) (by omega)
  refine va_sld hx hb hXs hbl hbA w.2.1 (g_in p_807 (by omega)) dL_law_808 ?_
  refine q_topE (y := xs (i0 + 2).toNat) (congrArg xs (g_tn p_807)) ?_
  refine lv_aload_n hx hb dL_law_809 rfl (lv_at hl 4 rfl) ?_
  refine q_cL X hE hS w (k_firstDay (l := l) (D := D) hl0 hI (xs (i0 + 1).toNat) (xs (i0 + 2).toNat)) vL_168 rfl ⟨Nat.le_of_ble_eq_true rfl, Nat.le_of_ble_eq_true rfl⟩ rfl hl.1 (Nat.le_of_ble_eq_true rfl) dL_law_810 (cap8 hcs (by decide) (by decide)) (fun z n2 σ2 H locs hz2 w => ?_)
  refine W.widen (k := cells + 8) (n := slots + 1100) (Nat.add_le_add_left (by decide) _) (Nat.add_le_add_left (by decide) _) ?_
  obtain ⟨cd, vl, hz, ⟨f, hf, hfv⟩, I1, R1, pm, es, hM, hpost⟩ := hz2
  have w : qW D b n2 (mS t b σ2 I1 R1) s H locs := by rw [← es]; exact w
  refine lv_istore (lv' := [(6, .int z), (5, .int i), (0, .ref sc), (1, .ref (b + 0)), (2, .ref (b + 45)), (3, .ref (b + 60)), (4, .ref (b + 61))]) hx hb dL_law_813 hl (by decide) rfl (fun ls hl => ?_)
  refine lv_aload_n hx hb dL_law_815 rfl (lv_at hl 4 rfl) ?_
  refine lv_aload_n hx hb dL_law_816 rfl (lv_at hl 2 rfl) ?_
  refine lv_iload hx hb dL_law_817 (lv_at hl 1 rfl) ?_
  refine lv_iconst (v := 1) hx hb dL_law_819 (by decide) ?_
  refine lv_iadd hx hb dL_law_820 ?_
  refine lv_topi (fun x_820 e_820 => ?_)
  have p_820 : x_820.toInt = (i0 + 1) := by rw [e_820]; exact t_add hi (show (1 : Int32).toInt = 1 from rfl) (by omega) (by omega)
  refine va_sld hx hb hXs hbl hbA w.2.1 (g_in p_820 (by omega)) dL_law_821 ?_
  refine q_topE (y := xs (i0 + 1).toNat) (congrArg xs (g_tn p_820)) ?_
  refine lv_aload_n hx hb dL_law_822 rfl (lv_at hl 2 rfl) ?_
  refine lv_iload hx hb dL_law_823 (lv_at hl 1 rfl) ?_
  refine lv_iconst (v := 2) hx hb dL_law_825 (by decide) ?_
  refine lv_iadd hx hb dL_law_826 ?_
  refine lv_topi (fun x_826 e_826 => ?_)
  have p_826 : x_826.toInt = (i0 + 2) := by rw [e_826]; exact t_add hi (show (2 : Int32).toInt = 2 from rfl) (by omega) (by omega)
  refine va_sld hx hb hXs hbl hbA w.2.1 (g_in p_826 (by omega)) dL_law_827 ?_
  refine q_topE (y := xs (i0 + 2).toNat) (congrArg xs (g_tn p_826)) ?_
  refine mm_cC X w hM vL_170 rfl rfl ⟨Nat.le_of_ble_eq_true rfl, Nat.le_of_ble_eq_true rfl⟩ rfl hl.1 (Nat.le_of_ble_eq_true rfl) dL_law_828 hcs (fun y I2 R2 H locs hp2 w => ?_)
  obtain ⟨m1, m2, hI⟩ := hpost y I2 R2 hp2
  refine lv_istore (lv' := [(7, .int y), (6, .int z), (5, .int i), (0, .ref sc), (1, .ref (b + 0)), (2, .ref (b + 45)), (3, .ref (b + 60)), (4, .ref (b + 61))]) hx hb dL_law_831 hl (by decide) rfl (fun ls hl => ?_)
  refine lv_aload_n hx hb dL_law_833 rfl (lv_at hl 5 rfl) ?_
  refine q_cPV X w (c_X9_thrown l D t b _ _ I2 R2) vL_134 (k := 45) rfl rfl rfl ⟨Nat.le_of_ble_eq_true rfl, Nat.le_of_ble_eq_true rfl⟩ rfl hl.1 (Nat.le_of_ble_eq_true rfl) dL_law_834 hcs (fun th ht => ?_)
  refine lv_iload hx hb dL_law_837 (lv_at hl 1 rfl) ?_
  refine lv_icmp_eq (tgt := 844) hx hb dL_law_839 (by decide) (fun c_839 => ?_) (fun c_839 => ?_)
  · skip
    refine lv_iload hx hb dL_law_844 (lv_at hl 1 rfl) ?_
    refine lv_if_ne (tgt := 861) hx hb dL_law_846 (by decide) (fun c_846 => ?_) (fun c_846 => ?_)
    · skip
      refine lv_goto (tgt := 2707) hx hb dL_law_861 (by decide) ?_
      exact kk _ _ _ _ _ hI w (lv_sub hl [2, 3, 4, 5, 6, 7] rfl)
    · skip
      have hcd : cd = 0 := by rw [← hz, c_846]; rfl
      refine lv_aload_n hx hb dL_law_849 rfl (lv_at hl 6 rfl) ?_
      refine lv_iconst (v := 0) hx hb dL_law_850 (by decide) ?_
      refine q_lald X w (k := 60) (f := f) ((mS_off (I2 := I2) (R2 := R2) (by omega)).trans hf) (i := 0) (by unfold vp_in; decide) dL_law_851 ?_
      refine lv_iload hx hb dL_law_852 (lv_at hl 0 rfl) ?_
      refine lv_i2l (v := y.toInt64) hx hb dL_law_854 rfl ?_
      refine W.lcmp hx hb dL_law_855 ?_
      refine q_topE (y := 0) (lcz (hfv hcd) (m2 hcd)) ?_
      refine lv_if_eq (tgt := 861) hx hb dL_law_856 (by decide) (fun c_856 => ?_) (fun c_856 => ?_)
      · skip
        refine lv_goto (tgt := 2707) hx hb dL_law_861 (by decide) ?_
        exact kk _ _ _ _ _ hI w (lv_sub hl [2, 3, 4, 5, 6, 7] rfl)
      · skip
        exact absurd rfl c_856
  · skip
    exact absurd (Int32.toInt_inj.mp ((congrArg Int32.toInt ht).trans (m1.trans hz.symm))) c_839

set_option maxHeartbeats 1000000 in
set_option maxRecDepth 100000 in
theorem law_11 {p : Program} {l : Launch} {e : Env} {s : State} {m : MethodId} {below : List Frame} {meth : Method} {c : Code} {H : Heap} {locs : List Loc} {cells slots : Nat} {Q : State → Prop} {r : Option FieldType} {D : va_G} {t : Nat → ClassId} {b n : Nat} {σ : qM} {sc L : Nat} {xs : Nat → Int32} {ls : Array Slot} {i : Int32} {i0 : Int} (hl0 : l.stackTraces = false) (X : qX p s #[.ref sc] m meth c RL cL_law 9 r D t b) (hE : XK s) (hS : SK b s) (hXs : va_X sc L xs s s.heap) (hbl : sc < s.heap.size) (hbA : ¬ b ≤ sc) (hi : i.toInt = i0) (h0 : 0 ≤ i0 ∧ i0 + 7 ≤ L ∧ L ≤ 3584) (hcs : cells + 8 ≤ 601024 ∧ slots + 1100 ≤ 7293034) (w : qW D b n σ s H locs) (hI : LI t b σ) (hl : lv_has ls 9 [(5, .int i), (0, .ref sc), (1, .ref (b + 0)), (2, .ref (b + 45)), (3, .ref (b + 60)), (4, .ref (b + 61))]) (kk : ∀ (n : Nat) (σ : qM) (H : Heap) (locs : List Loc) (ls : Array Slot), LI t b σ → qW D b n σ s H locs → lv_has ls 9 [(5, .int i), (0, .ref sc), (1, .ref (b + 0)), (2, .ref (b + 45)), (3, .ref (b + 60)), (4, .ref (b + 61))] → W p l e room_1 s m #[.ref sc] below meth c H locs (cells + 8) (slots + 1100) Q (F0 m 2707 ls [])) : W p l e room_1 s m #[.ref sc] below meth c H locs cells slots Q (F0 m 864 ls []) := by
  have hx := X.1
  have hb := X.2.1
  refine lv_aload_n hx hb dL_law_864 rfl (lv_at hl 2 rfl) ?_
  refine lv_aload_n hx hb dL_law_865 rfl (lv_at hl 1 rfl) ?_
  refine lv_iload hx hb dL_law_866 (lv_at hl 0 rfl) ?_
  refine lv_iconst (v := 1) hx hb dL_law_868 (by decide) ?_
  refine lv_iadd hx hb dL_law_869 ?_
  refine lv_topi (fun x_869 e_869 => ?_)
  have p_869 : x_869.toInt = (i0 + 1) := by rw [e_869]; exact t_add hi (show (1 : Int32).toInt = 1 from rfl) (by omega) (by omega)
  refine va_sld hx hb hXs hbl hbA w.2.1 (g_in p_869 (by omega)) dL_law_870 ?_
  refine q_topE (y := xs (i0 + 1).toNat) (congrArg xs (g_tn p_869)) ?_
  refine lv_aload_n hx hb dL_law_871 rfl (lv_at hl 1 rfl) ?_
  refine lv_iload hx hb dL_law_872 (lv_at hl 0 rfl) ?_
  refine lv_iconst (v := 2) hx hb dL_law_874 (by decide) ?_
  refine lv_iadd hx hb dL_law_875 ?_
  refine lv_topi (fun x_875 e_875 => ?_)
  have p_875 : x_875.toInt = (i0 + 2) := by rw [e_875]; exact t_add hi (show (2 : Int32).toInt = 2 from rfl) (by omega) (by omega)
  refine va_sld hx hb hXs hbl hbA w.2.1 (g_in p_875 (by omega)) dL_law_876 ?_
  refine q_topE (y := xs (i0 + 2).toNat) (congrArg xs (g_tn p_875)) ?_
  refine lv_aload_n hx hb dL_law_877 rfl (lv_at hl 1 rfl) ?_
  refine lv_iload hx hb dL_law_878 (lv_at hl 0 rfl) ?_
  refine lv_iconst (v := 3) hx hb dL_law_880 (by decide) ?_
  refine lv_iadd hx hb dL_law_881 ?_
  refine lv_topi (fun x_881 e_881 => ?_)
  have p_881 : x_881.toInt = (i0 + 3) := by rw [e_881]; exact t_add hi (show (3 : Int32).toInt = 3 from rfl) (by omega) (by omega)
  refine va_sld hx hb hXs hbl hbA w.2.1 (g_in p_881 (by omega)) dL_law_882 ?_
  refine q_topE (y := xs (i0 + 3).toNat) (congrArg xs (g_tn p_881)) ?_
  refine lv_aload_n hx hb dL_law_883 rfl (lv_at hl 1 rfl) ?_
  refine lv_iload hx hb dL_law_884 (lv_at hl 0 rfl) ?_
  refine lv_iconst (v := 4) hx hb dL_law_886 (by decide) ?_
  refine lv_iadd hx hb dL_law_887 ?_
  refine lv_topi (fun x_887 e_887 => ?_)
  have p_887 : x_887.toInt = (i0 + 4) := by rw [e_887]; exact t_add hi (show (4 : Int32).toInt = 4 from rfl) (by omega) (by omega)
  refine va_sld hx hb hXs hbl hbA w.2.1 (g_in p_887 (by omega)) dL_law_888 ?_
  refine q_topE (y := xs (i0 + 4).toNat) (congrArg xs (g_tn p_887)) ?_
  refine lv_aload_n hx hb dL_law_889 rfl (lv_at hl 4 rfl) ?_
  refine q_cL X hE hS w (k_dayOf (l := l) (D := D) hl0 hI (xs (i0 + 1).toNat) (xs (i0 + 2).toNat) (xs (i0 + 3).toNat) (xs (i0 + 4).toNat)) vL_171 rfl ⟨Nat.le_of_ble_eq_true rfl, Nat.le_of_ble_eq_true rfl⟩ rfl hl.1 (Nat.le_of_ble_eq_true rfl) dL_law_890 (cap8 hcs (by decide) (by decide)) (fun z n2 σ2 H locs hz2 w => ?_)
  refine W.widen (k := cells + 8) (n := slots + 1100) (Nat.add_le_add_left (by decide) _) (Nat.add_le_add_left (by decide) _) ?_
  obtain ⟨cd, vl, hz, ⟨f, hf, hfv⟩, I1, R1, pm, es, hM, hpost⟩ := hz2
  have w : qW D b n2 (mS t b σ2 I1 R1) s H locs := by rw [← es]; exact w
  refine lv_istore (lv' := [(6, .int z), (5, .int i), (0, .ref sc), (1, .ref (b + 0)), (2, .ref (b + 45)), (3, .ref (b + 60)), (4, .ref (b + 61))]) hx hb dL_law_893 hl (by decide) rfl (fun ls hl => ?_)
  refine lv_aload_n hx hb dL_law_895 rfl (lv_at hl 4 rfl) ?_
  refine lv_aload_n hx hb dL_law_896 rfl (lv_at hl 2 rfl) ?_
  refine lv_iload hx hb dL_law_897 (lv_at hl 1 rfl) ?_
  refine lv_iconst (v := 1) hx hb dL_law_899 (by decide) ?_
  refine lv_iadd hx hb dL_law_900 ?_
  refine lv_topi (fun x_900 e_900 => ?_)
  have p_900 : x_900.toInt = (i0 + 1) := by rw [e_900]; exact t_add hi (show (1 : Int32).toInt = 1 from rfl) (by omega) (by omega)
  refine va_sld hx hb hXs hbl hbA w.2.1 (g_in p_900 (by omega)) dL_law_901 ?_
  refine q_topE (y := xs (i0 + 1).toNat) (congrArg xs (g_tn p_900)) ?_
  refine lv_aload_n hx hb dL_law_902 rfl (lv_at hl 2 rfl) ?_
  refine lv_iload hx hb dL_law_903 (lv_at hl 1 rfl) ?_
  refine lv_iconst (v := 2) hx hb dL_law_905 (by decide) ?_
  refine lv_iadd hx hb dL_law_906 ?_
  refine lv_topi (fun x_906 e_906 => ?_)
  have p_906 : x_906.toInt = (i0 + 2) := by rw [e_906]; exact t_add hi (show (2 : Int32).toInt = 2 from rfl) (by omega) (by omega)
  refine va_sld hx hb hXs hbl hbA w.2.1 (g_in p_906 (by omega)) dL_law_907 ?_
  refine q_topE (y := xs (i0 + 2).toNat) (congrArg xs (g_tn p_906)) ?_
  refine lv_aload_n hx hb dL_law_908 rfl (lv_at hl 2 rfl) ?_
  refine lv_iload hx hb dL_law_909 (lv_at hl 1 rfl) ?_
  refine lv_iconst (v := 3) hx hb dL_law_911 (by decide) ?_
  refine lv_iadd hx hb dL_law_912 ?_
  refine lv_topi (fun x_912 e_912 => ?_)
  have p_912 : x_912.toInt = (i0 + 3) := by rw [e_912]; exact t_add hi (show (3 : Int32).toInt = 3 from rfl) (by omega) (by omega)
  refine va_sld hx hb hXs hbl hbA w.2.1 (g_in p_912 (by omega)) dL_law_913 ?_
  refine q_topE (y := xs (i0 + 3).toNat) (congrArg xs (g_tn p_912)) ?_
  refine lv_aload_n hx hb dL_law_914 rfl (lv_at hl 2 rfl) ?_
  refine lv_iload hx hb dL_law_915 (lv_at hl 1 rfl) ?_
  refine lv_iconst (v := 4) hx hb dL_law_917 (by decide) ?_
  refine lv_iadd hx hb dL_law_918 ?_
  refine lv_topi (fun x_918 e_918 => ?_)
  have p_918 : x_918.toInt = (i0 + 4) := by rw [e_918]; exact t_add hi (show (4 : Int32).toInt = 4 from rfl) (by omega) (by omega)
  refine va_sld hx hb hXs hbl hbA w.2.1 (g_in p_918 (by omega)) dL_law_919 ?_
  refine q_topE (y := xs (i0 + 4).toNat) (congrArg xs (g_tn p_918)) ?_
  refine mm_cC X w hM vL_174 rfl rfl ⟨Nat.le_of_ble_eq_true rfl, Nat.le_of_ble_eq_true rfl⟩ rfl hl.1 (Nat.le_of_ble_eq_true rfl) dL_law_920 hcs (fun y I2 R2 H locs hp2 w => ?_)
  obtain ⟨m1, m2, hI⟩ := hpost y I2 R2 hp2
  refine lv_istore (lv' := [(7, .int y), (6, .int z), (5, .int i), (0, .ref sc), (1, .ref (b + 0)), (2, .ref (b + 45)), (3, .ref (b + 60)), (4, .ref (b + 61))]) hx hb dL_law_923 hl (by decide) rfl (fun ls hl => ?_)
  refine lv_aload_n hx hb dL_law_925 rfl (lv_at hl 5 rfl) ?_
  refine q_cPV X w (c_X9_thrown l D t b _ _ I2 R2) vL_134 (k := 45) rfl rfl rfl ⟨Nat.le_of_ble_eq_true rfl, Nat.le_of_ble_eq_true rfl⟩ rfl hl.1 (Nat.le_of_ble_eq_true rfl) dL_law_926 hcs (fun th ht => ?_)
  refine lv_iload hx hb dL_law_929 (lv_at hl 1 rfl) ?_
  refine lv_icmp_eq (tgt := 936) hx hb dL_law_931 (by decide) (fun c_931 => ?_) (fun c_931 => ?_)
  · skip
    refine lv_iload hx hb dL_law_936 (lv_at hl 1 rfl) ?_
    refine lv_if_ne (tgt := 953) hx hb dL_law_938 (by decide) (fun c_938 => ?_) (fun c_938 => ?_)
    · skip
      refine lv_goto (tgt := 2707) hx hb dL_law_953 (by decide) ?_
      exact kk _ _ _ _ _ hI w (lv_sub hl [2, 3, 4, 5, 6, 7] rfl)
    · skip
      have hcd : cd = 0 := by rw [← hz, c_938]; rfl
      refine lv_aload_n hx hb dL_law_941 rfl (lv_at hl 6 rfl) ?_
      refine lv_iconst (v := 0) hx hb dL_law_942 (by decide) ?_
      refine q_lald X w (k := 60) (f := f) ((mS_off (I2 := I2) (R2 := R2) (by omega)).trans hf) (i := 0) (by unfold vp_in; decide) dL_law_943 ?_
      refine lv_iload hx hb dL_law_944 (lv_at hl 0 rfl) ?_
      refine lv_i2l (v := y.toInt64) hx hb dL_law_946 rfl ?_
      refine W.lcmp hx hb dL_law_947 ?_
      refine q_topE (y := 0) (lcz (hfv hcd) (m2 hcd)) ?_
      refine lv_if_eq (tgt := 953) hx hb dL_law_948 (by decide) (fun c_948 => ?_) (fun c_948 => ?_)
      · skip
        refine lv_goto (tgt := 2707) hx hb dL_law_953 (by decide) ?_
        exact kk _ _ _ _ _ hI w (lv_sub hl [2, 3, 4, 5, 6, 7] rfl)
      · skip
        exact absurd rfl c_948
  · skip
    exact absurd (Int32.toInt_inj.mp ((congrArg Int32.toInt ht).trans (m1.trans hz.symm))) c_931

set_option maxHeartbeats 1000000 in
set_option maxRecDepth 100000 in
theorem law_12 {p : Program} {l : Launch} {e : Env} {s : State} {m : MethodId} {below : List Frame} {meth : Method} {c : Code} {H : Heap} {locs : List Loc} {cells slots : Nat} {Q : State → Prop} {r : Option FieldType} {D : va_G} {t : Nat → ClassId} {b n : Nat} {σ : qM} {sc L : Nat} {xs : Nat → Int32} {ls : Array Slot} {i : Int32} {i0 : Int} (hl0 : l.stackTraces = false) (X : qX p s #[.ref sc] m meth c RL cL_law 9 r D t b) (hE : XK s) (hS : SK b s) (hXs : va_X sc L xs s s.heap) (hbl : sc < s.heap.size) (hbA : ¬ b ≤ sc) (hi : i.toInt = i0) (h0 : 0 ≤ i0 ∧ i0 + 7 ≤ L ∧ L ≤ 3584) (hcs : cells + 8 ≤ 601024 ∧ slots + 1100 ≤ 7293034) (w : qW D b n σ s H locs) (hI : LI t b σ) (hl : lv_has ls 9 [(5, .int i), (0, .ref sc), (1, .ref (b + 0)), (2, .ref (b + 45)), (3, .ref (b + 60)), (4, .ref (b + 61))]) (kk : ∀ (n : Nat) (σ : qM) (H : Heap) (locs : List Loc) (ls : Array Slot), LI t b σ → qW D b n σ s H locs → lv_has ls 9 [(5, .int i), (0, .ref sc), (1, .ref (b + 0)), (2, .ref (b + 45)), (3, .ref (b + 60)), (4, .ref (b + 61))] → W p l e room_1 s m #[.ref sc] below meth c H locs (cells + 8) (slots + 1100) Q (F0 m 2707 ls [])) : W p l e room_1 s m #[.ref sc] below meth c H locs cells slots Q (F0 m 956 ls []) := by
  have hx := X.1
  have hb := X.2.1
  refine lv_aload_n hx hb dL_law_956 rfl (lv_at hl 2 rfl) ?_
  refine lv_aload_n hx hb dL_law_957 rfl (lv_at hl 1 rfl) ?_
  refine lv_iload hx hb dL_law_958 (lv_at hl 0 rfl) ?_
  refine lv_iconst (v := 1) hx hb dL_law_960 (by decide) ?_
  refine lv_iadd hx hb dL_law_961 ?_
  refine lv_topi (fun x_961 e_961 => ?_)
  have p_961 : x_961.toInt = (i0 + 1) := by rw [e_961]; exact t_add hi (show (1 : Int32).toInt = 1 from rfl) (by omega) (by omega)
  refine va_sld hx hb hXs hbl hbA w.2.1 (g_in p_961 (by omega)) dL_law_962 ?_
  refine q_topE (y := xs (i0 + 1).toNat) (congrArg xs (g_tn p_961)) ?_
  refine lv_aload_n hx hb dL_law_963 rfl (lv_at hl 1 rfl) ?_
  refine lv_iload hx hb dL_law_964 (lv_at hl 0 rfl) ?_
  refine lv_iconst (v := 2) hx hb dL_law_966 (by decide) ?_
  refine lv_iadd hx hb dL_law_967 ?_
  refine lv_topi (fun x_967 e_967 => ?_)
  have p_967 : x_967.toInt = (i0 + 2) := by rw [e_967]; exact t_add hi (show (2 : Int32).toInt = 2 from rfl) (by omega) (by omega)
  refine va_sld hx hb hXs hbl hbA w.2.1 (g_in p_967 (by omega)) dL_law_968 ?_
  refine q_topE (y := xs (i0 + 2).toNat) (congrArg xs (g_tn p_967)) ?_
  refine lv_aload_n hx hb dL_law_969 rfl (lv_at hl 1 rfl) ?_
  refine lv_iload hx hb dL_law_970 (lv_at hl 0 rfl) ?_
  refine lv_iconst (v := 3) hx hb dL_law_972 (by decide) ?_
  refine lv_iadd hx hb dL_law_973 ?_
  refine lv_topi (fun x_973 e_973 => ?_)
  have p_973 : x_973.toInt = (i0 + 3) := by rw [e_973]; exact t_add hi (show (3 : Int32).toInt = 3 from rfl) (by omega) (by omega)
  refine va_sld hx hb hXs hbl hbA w.2.1 (g_in p_973 (by omega)) dL_law_974 ?_
  refine q_topE (y := xs (i0 + 3).toNat) (congrArg xs (g_tn p_973)) ?_
  refine lv_aload_n hx hb dL_law_975 rfl (lv_at hl 4 rfl) ?_
  refine q_cL X hE hS w (k_date (l := l) (D := D) hl0 hI (xs (i0 + 1).toNat) (xs (i0 + 2).toNat) (xs (i0 + 3).toNat)) vL_175 rfl ⟨Nat.le_of_ble_eq_true rfl, Nat.le_of_ble_eq_true rfl⟩ rfl hl.1 (Nat.le_of_ble_eq_true rfl) dL_law_976 (cap8 hcs (by decide) (by decide)) (fun z n2 σ2 H locs hz2 w => ?_)
  refine W.widen (k := cells + 8) (n := slots + 1100) (Nat.add_le_add_left (by decide) _) (Nat.add_le_add_left (by decide) _) ?_
  obtain ⟨cd, vl, hz, ⟨f, hf, hfv⟩, I1, R1, pm, es, hM, hpost⟩ := hz2
  have w : qW D b n2 (mS t b σ2 I1 R1) s H locs := by rw [← es]; exact w
  refine lv_istore (lv' := [(6, .int z), (5, .int i), (0, .ref sc), (1, .ref (b + 0)), (2, .ref (b + 45)), (3, .ref (b + 60)), (4, .ref (b + 61))]) hx hb dL_law_979 hl (by decide) rfl (fun ls hl => ?_)
  refine lv_aload_n hx hb dL_law_981 rfl (lv_at hl 4 rfl) ?_
  refine lv_aload_n hx hb dL_law_982 rfl (lv_at hl 2 rfl) ?_
  refine lv_iload hx hb dL_law_983 (lv_at hl 1 rfl) ?_
  refine lv_iconst (v := 1) hx hb dL_law_985 (by decide) ?_
  refine lv_iadd hx hb dL_law_986 ?_
  refine lv_topi (fun x_986 e_986 => ?_)
  have p_986 : x_986.toInt = (i0 + 1) := by rw [e_986]; exact t_add hi (show (1 : Int32).toInt = 1 from rfl) (by omega) (by omega)
  refine va_sld hx hb hXs hbl hbA w.2.1 (g_in p_986 (by omega)) dL_law_987 ?_
  refine q_topE (y := xs (i0 + 1).toNat) (congrArg xs (g_tn p_986)) ?_
  refine lv_aload_n hx hb dL_law_988 rfl (lv_at hl 2 rfl) ?_
  refine lv_iload hx hb dL_law_989 (lv_at hl 1 rfl) ?_
  refine lv_iconst (v := 2) hx hb dL_law_991 (by decide) ?_
  refine lv_iadd hx hb dL_law_992 ?_
  refine lv_topi (fun x_992 e_992 => ?_)
  have p_992 : x_992.toInt = (i0 + 2) := by rw [e_992]; exact t_add hi (show (2 : Int32).toInt = 2 from rfl) (by omega) (by omega)
  refine va_sld hx hb hXs hbl hbA w.2.1 (g_in p_992 (by omega)) dL_law_993 ?_
  refine q_topE (y := xs (i0 + 2).toNat) (congrArg xs (g_tn p_992)) ?_
  refine lv_aload_n hx hb dL_law_994 rfl (lv_at hl 2 rfl) ?_
  refine lv_iload hx hb dL_law_995 (lv_at hl 1 rfl) ?_
  refine lv_iconst (v := 3) hx hb dL_law_997 (by decide) ?_
  refine lv_iadd hx hb dL_law_998 ?_
  refine lv_topi (fun x_998 e_998 => ?_)
  have p_998 : x_998.toInt = (i0 + 3) := by rw [e_998]; exact t_add hi (show (3 : Int32).toInt = 3 from rfl) (by omega) (by omega)
  refine va_sld hx hb hXs hbl hbA w.2.1 (g_in p_998 (by omega)) dL_law_999 ?_
  refine q_topE (y := xs (i0 + 3).toNat) (congrArg xs (g_tn p_998)) ?_
  refine mm_cC X w hM vL_177 rfl rfl ⟨Nat.le_of_ble_eq_true rfl, Nat.le_of_ble_eq_true rfl⟩ rfl hl.1 (Nat.le_of_ble_eq_true rfl) dL_law_1000 hcs (fun y I2 R2 H locs hp2 w => ?_)
  obtain ⟨m1, m2, hI⟩ := hpost y I2 R2 hp2
  refine lv_istore (lv' := [(7, .int y), (6, .int z), (5, .int i), (0, .ref sc), (1, .ref (b + 0)), (2, .ref (b + 45)), (3, .ref (b + 60)), (4, .ref (b + 61))]) hx hb dL_law_1003 hl (by decide) rfl (fun ls hl => ?_)
  refine lv_aload_n hx hb dL_law_1005 rfl (lv_at hl 5 rfl) ?_
  refine q_cPV X w (c_X9_thrown l D t b _ _ I2 R2) vL_134 (k := 45) rfl rfl rfl ⟨Nat.le_of_ble_eq_true rfl, Nat.le_of_ble_eq_true rfl⟩ rfl hl.1 (Nat.le_of_ble_eq_true rfl) dL_law_1006 hcs (fun th ht => ?_)
  refine lv_iload hx hb dL_law_1009 (lv_at hl 1 rfl) ?_
  refine lv_icmp_eq (tgt := 1016) hx hb dL_law_1011 (by decide) (fun c_1011 => ?_) (fun c_1011 => ?_)
  · skip
    refine lv_iload hx hb dL_law_1016 (lv_at hl 1 rfl) ?_
    refine lv_if_ne (tgt := 1033) hx hb dL_law_1018 (by decide) (fun c_1018 => ?_) (fun c_1018 => ?_)
    · skip
      refine lv_goto (tgt := 2707) hx hb dL_law_1033 (by decide) ?_
      exact kk _ _ _ _ _ hI w (lv_sub hl [2, 3, 4, 5, 6, 7] rfl)
    · skip
      have hcd : cd = 0 := by rw [← hz, c_1018]; rfl
      refine lv_aload_n hx hb dL_law_1021 rfl (lv_at hl 6 rfl) ?_
      refine lv_iconst (v := 0) hx hb dL_law_1022 (by decide) ?_
      refine q_lald X w (k := 60) (f := f) ((mS_off (I2 := I2) (R2 := R2) (by omega)).trans hf) (i := 0) (by unfold vp_in; decide) dL_law_1023 ?_
      refine lv_iload hx hb dL_law_1024 (lv_at hl 0 rfl) ?_
      refine lv_i2l (v := y.toInt64) hx hb dL_law_1026 rfl ?_
      refine W.lcmp hx hb dL_law_1027 ?_
      refine q_topE (y := 0) (lcz (hfv hcd) (m2 hcd)) ?_
      refine lv_if_eq (tgt := 1033) hx hb dL_law_1028 (by decide) (fun c_1028 => ?_) (fun c_1028 => ?_)
      · skip
        refine lv_goto (tgt := 2707) hx hb dL_law_1033 (by decide) ?_
        exact kk _ _ _ _ _ hI w (lv_sub hl [2, 3, 4, 5, 6, 7] rfl)
      · skip
        exact absurd rfl c_1028
  · skip
    exact absurd (Int32.toInt_inj.mp ((congrArg Int32.toInt ht).trans (m1.trans hz.symm))) c_1011

set_option maxHeartbeats 1000000 in
set_option maxRecDepth 100000 in
theorem law_13 {p : Program} {l : Launch} {e : Env} {s : State} {m : MethodId} {below : List Frame} {meth : Method} {c : Code} {H : Heap} {locs : List Loc} {cells slots : Nat} {Q : State → Prop} {r : Option FieldType} {D : va_G} {t : Nat → ClassId} {b n : Nat} {σ : qM} {sc L : Nat} {xs : Nat → Int32} {ls : Array Slot} {i : Int32} {i0 : Int} (hl0 : l.stackTraces = false) (X : qX p s #[.ref sc] m meth c RL cL_law 9 r D t b) (hE : XK s) (hS : SK b s) (hXs : va_X sc L xs s s.heap) (hbl : sc < s.heap.size) (hbA : ¬ b ≤ sc) (hi : i.toInt = i0) (h0 : 0 ≤ i0 ∧ i0 + 7 ≤ L ∧ L ≤ 3584) (hcs : cells + 8 ≤ 601024 ∧ slots + 1100 ≤ 7293034) (w : qW D b n σ s H locs) (hI : LI t b σ) (hl : lv_has ls 9 [(5, .int i), (0, .ref sc), (1, .ref (b + 0)), (2, .ref (b + 45)), (3, .ref (b + 60)), (4, .ref (b + 61))]) (kk : ∀ (n : Nat) (σ : qM) (H : Heap) (locs : List Loc) (ls : Array Slot), LI t b σ → qW D b n σ s H locs → lv_has ls 9 [(5, .int i), (0, .ref sc), (1, .ref (b + 0)), (2, .ref (b + 45)), (3, .ref (b + 60)), (4, .ref (b + 61))] → W p l e room_1 s m #[.ref sc] below meth c H locs (cells + 8) (slots + 1100) Q (F0 m 2707 ls [])) : W p l e room_1 s m #[.ref sc] below meth c H locs cells slots Q (F0 m 1036 ls []) := by
  have hx := X.1
  have hb := X.2.1
  refine lv_aload_n hx hb dL_law_1036 rfl (lv_at hl 2 rfl) ?_
  refine lv_aload_n hx hb dL_law_1037 rfl (lv_at hl 1 rfl) ?_
  refine lv_iload hx hb dL_law_1038 (lv_at hl 0 rfl) ?_
  refine lv_iconst (v := 1) hx hb dL_law_1040 (by decide) ?_
  refine lv_iadd hx hb dL_law_1041 ?_
  refine lv_topi (fun x_1041 e_1041 => ?_)
  have p_1041 : x_1041.toInt = (i0 + 1) := by rw [e_1041]; exact t_add hi (show (1 : Int32).toInt = 1 from rfl) (by omega) (by omega)
  refine va_sld hx hb hXs hbl hbA w.2.1 (g_in p_1041 (by omega)) dL_law_1042 ?_
  refine q_topE (y := xs (i0 + 1).toNat) (congrArg xs (g_tn p_1041)) ?_
  refine lv_aload_n hx hb dL_law_1043 rfl (lv_at hl 1 rfl) ?_
  refine lv_iload hx hb dL_law_1044 (lv_at hl 0 rfl) ?_
  refine lv_iconst (v := 2) hx hb dL_law_1046 (by decide) ?_
  refine lv_iadd hx hb dL_law_1047 ?_
  refine lv_topi (fun x_1047 e_1047 => ?_)
  have p_1047 : x_1047.toInt = (i0 + 2) := by rw [e_1047]; exact t_add hi (show (2 : Int32).toInt = 2 from rfl) (by omega) (by omega)
  refine va_sld hx hb hXs hbl hbA w.2.1 (g_in p_1047 (by omega)) dL_law_1048 ?_
  refine q_topE (y := xs (i0 + 2).toNat) (congrArg xs (g_tn p_1047)) ?_
  refine lv_aload_n hx hb dL_law_1049 rfl (lv_at hl 1 rfl) ?_
  refine lv_iload hx hb dL_law_1050 (lv_at hl 0 rfl) ?_
  refine lv_iconst (v := 3) hx hb dL_law_1052 (by decide) ?_
  refine lv_iadd hx hb dL_law_1053 ?_
  refine lv_topi (fun x_1053 e_1053 => ?_)
  have p_1053 : x_1053.toInt = (i0 + 3) := by rw [e_1053]; exact t_add hi (show (3 : Int32).toInt = 3 from rfl) (by omega) (by omega)
  refine va_sld hx hb hXs hbl hbA w.2.1 (g_in p_1053 (by omega)) dL_law_1054 ?_
  refine q_topE (y := xs (i0 + 3).toNat) (congrArg xs (g_tn p_1053)) ?_
  refine lv_aload_n hx hb dL_law_1055 rfl (lv_at hl 1 rfl) ?_
  refine lv_iload hx hb dL_law_1056 (lv_at hl 0 rfl) ?_
  refine lv_iconst (v := 4) hx hb dL_law_1058 (by decide) ?_
  refine lv_iadd hx hb dL_law_1059 ?_
  refine lv_topi (fun x_1059 e_1059 => ?_)
  have p_1059 : x_1059.toInt = (i0 + 4) := by rw [e_1059]; exact t_add hi (show (4 : Int32).toInt = 4 from rfl) (by omega) (by omega)
  refine va_sld hx hb hXs hbl hbA w.2.1 (g_in p_1059 (by omega)) dL_law_1060 ?_
  refine q_topE (y := xs (i0 + 4).toNat) (congrArg xs (g_tn p_1059)) ?_
  refine lv_aload_n hx hb dL_law_1061 rfl (lv_at hl 1 rfl) ?_
  refine lv_iload hx hb dL_law_1062 (lv_at hl 0 rfl) ?_
  refine lv_iconst (v := 5) hx hb dL_law_1064 (by decide) ?_
  refine lv_iadd hx hb dL_law_1065 ?_
  refine lv_topi (fun x_1065 e_1065 => ?_)
  have p_1065 : x_1065.toInt = (i0 + 5) := by rw [e_1065]; exact t_add hi (show (5 : Int32).toInt = 5 from rfl) (by omega) (by omega)
  refine va_sld hx hb hXs hbl hbA w.2.1 (g_in p_1065 (by omega)) dL_law_1066 ?_
  refine q_topE (y := xs (i0 + 5).toNat) (congrArg xs (g_tn p_1065)) ?_
  refine lv_aload_n hx hb dL_law_1067 rfl (lv_at hl 1 rfl) ?_
  refine lv_iload hx hb dL_law_1068 (lv_at hl 0 rfl) ?_
  refine lv_bipush (v := 6) hx hb dL_law_1070 (by decide) ?_
  refine lv_iadd hx hb dL_law_1072 ?_
  refine lv_topi (fun x_1072 e_1072 => ?_)
  have p_1072 : x_1072.toInt = (i0 + 6) := by rw [e_1072]; exact t_add hi (show (6 : Int32).toInt = 6 from rfl) (by omega) (by omega)
  refine va_sld hx hb hXs hbl hbA w.2.1 (g_in p_1072 (by omega)) dL_law_1073 ?_
  refine q_topE (y := xs (i0 + 6).toNat) (congrArg xs (g_tn p_1072)) ?_
  refine lv_aload_n hx hb dL_law_1074 rfl (lv_at hl 4 rfl) ?_
  refine q_cL X hE hS w (k_convert (l := l) (D := D) hl0 hI (xs (i0 + 1).toNat) (xs (i0 + 2).toNat) (xs (i0 + 3).toNat) (xs (i0 + 4).toNat) (xs (i0 + 5).toNat) (xs (i0 + 6).toNat)) vL_178 rfl ⟨Nat.le_of_ble_eq_true rfl, Nat.le_of_ble_eq_true rfl⟩ rfl hl.1 (Nat.le_of_ble_eq_true rfl) dL_law_1075 (cap8 hcs (by decide) (by decide)) (fun z n2 σ2 H locs hz2 w => ?_)
  refine W.widen (k := cells + 8) (n := slots + 1100) (Nat.add_le_add_left (by decide) _) (Nat.add_le_add_left (by decide) _) ?_
  obtain ⟨cd, vl, hz, ⟨f, hf, hfv⟩, I1, R1, pm, es, hM, hpost⟩ := hz2
  have w : qW D b n2 (mS t b σ2 I1 R1) s H locs := by rw [← es]; exact w
  refine lv_istore (lv' := [(6, .int z), (5, .int i), (0, .ref sc), (1, .ref (b + 0)), (2, .ref (b + 45)), (3, .ref (b + 60)), (4, .ref (b + 61))]) hx hb dL_law_1078 hl (by decide) rfl (fun ls hl => ?_)
  refine lv_aload_n hx hb dL_law_1080 rfl (lv_at hl 4 rfl) ?_
  refine lv_aload_n hx hb dL_law_1081 rfl (lv_at hl 2 rfl) ?_
  refine lv_iload hx hb dL_law_1082 (lv_at hl 1 rfl) ?_
  refine lv_iconst (v := 1) hx hb dL_law_1084 (by decide) ?_
  refine lv_iadd hx hb dL_law_1085 ?_
  refine lv_topi (fun x_1085 e_1085 => ?_)
  have p_1085 : x_1085.toInt = (i0 + 1) := by rw [e_1085]; exact t_add hi (show (1 : Int32).toInt = 1 from rfl) (by omega) (by omega)
  refine va_sld hx hb hXs hbl hbA w.2.1 (g_in p_1085 (by omega)) dL_law_1086 ?_
  refine q_topE (y := xs (i0 + 1).toNat) (congrArg xs (g_tn p_1085)) ?_
  refine lv_aload_n hx hb dL_law_1087 rfl (lv_at hl 2 rfl) ?_
  refine lv_iload hx hb dL_law_1088 (lv_at hl 1 rfl) ?_
  refine lv_iconst (v := 2) hx hb dL_law_1090 (by decide) ?_
  refine lv_iadd hx hb dL_law_1091 ?_
  refine lv_topi (fun x_1091 e_1091 => ?_)
  have p_1091 : x_1091.toInt = (i0 + 2) := by rw [e_1091]; exact t_add hi (show (2 : Int32).toInt = 2 from rfl) (by omega) (by omega)
  refine va_sld hx hb hXs hbl hbA w.2.1 (g_in p_1091 (by omega)) dL_law_1092 ?_
  refine q_topE (y := xs (i0 + 2).toNat) (congrArg xs (g_tn p_1091)) ?_
  refine lv_aload_n hx hb dL_law_1093 rfl (lv_at hl 2 rfl) ?_
  refine lv_iload hx hb dL_law_1094 (lv_at hl 1 rfl) ?_
  refine lv_iconst (v := 3) hx hb dL_law_1096 (by decide) ?_
  refine lv_iadd hx hb dL_law_1097 ?_
  refine lv_topi (fun x_1097 e_1097 => ?_)
  have p_1097 : x_1097.toInt = (i0 + 3) := by rw [e_1097]; exact t_add hi (show (3 : Int32).toInt = 3 from rfl) (by omega) (by omega)
  refine va_sld hx hb hXs hbl hbA w.2.1 (g_in p_1097 (by omega)) dL_law_1098 ?_
  refine q_topE (y := xs (i0 + 3).toNat) (congrArg xs (g_tn p_1097)) ?_
  refine lv_aload_n hx hb dL_law_1099 rfl (lv_at hl 2 rfl) ?_
  refine lv_iload hx hb dL_law_1100 (lv_at hl 1 rfl) ?_
  refine lv_iconst (v := 4) hx hb dL_law_1102 (by decide) ?_
  refine lv_iadd hx hb dL_law_1103 ?_
  refine lv_topi (fun x_1103 e_1103 => ?_)
  have p_1103 : x_1103.toInt = (i0 + 4) := by rw [e_1103]; exact t_add hi (show (4 : Int32).toInt = 4 from rfl) (by omega) (by omega)
  refine va_sld hx hb hXs hbl hbA w.2.1 (g_in p_1103 (by omega)) dL_law_1104 ?_
  refine q_topE (y := xs (i0 + 4).toNat) (congrArg xs (g_tn p_1103)) ?_
  refine lv_aload_n hx hb dL_law_1105 rfl (lv_at hl 2 rfl) ?_
  refine lv_iload hx hb dL_law_1106 (lv_at hl 1 rfl) ?_
  refine lv_iconst (v := 5) hx hb dL_law_1108 (by decide) ?_
  refine lv_iadd hx hb dL_law_1109 ?_
  refine lv_topi (fun x_1109 e_1109 => ?_)
  have p_1109 : x_1109.toInt = (i0 + 5) := by rw [e_1109]; exact t_add hi (show (5 : Int32).toInt = 5 from rfl) (by omega) (by omega)
  refine va_sld hx hb hXs hbl hbA w.2.1 (g_in p_1109 (by omega)) dL_law_1110 ?_
  refine q_topE (y := xs (i0 + 5).toNat) (congrArg xs (g_tn p_1109)) ?_
  refine lv_aload_n hx hb dL_law_1111 rfl (lv_at hl 2 rfl) ?_
  refine lv_iload hx hb dL_law_1112 (lv_at hl 1 rfl) ?_
  refine lv_bipush (v := 6) hx hb dL_law_1114 (by decide) ?_
  refine lv_iadd hx hb dL_law_1116 ?_
  refine lv_topi (fun x_1116 e_1116 => ?_)
  have p_1116 : x_1116.toInt = (i0 + 6) := by rw [e_1116]; exact t_add hi (show (6 : Int32).toInt = 6 from rfl) (by omega) (by omega)
  refine va_sld hx hb hXs hbl hbA w.2.1 (g_in p_1116 (by omega)) dL_law_1117 ?_
  refine q_topE (y := xs (i0 + 6).toNat) (congrArg xs (g_tn p_1116)) ?_
  refine mm_cC X w hM vL_181 rfl rfl ⟨Nat.le_of_ble_eq_true rfl, Nat.le_of_ble_eq_true rfl⟩ rfl hl.1 (Nat.le_of_ble_eq_true rfl) dL_law_1118 hcs (fun y I2 R2 H locs hp2 w => ?_)
  obtain ⟨m1, m2, hI⟩ := hpost y I2 R2 hp2
  refine lv_istore (lv' := [(7, .int y), (6, .int z), (5, .int i), (0, .ref sc), (1, .ref (b + 0)), (2, .ref (b + 45)), (3, .ref (b + 60)), (4, .ref (b + 61))]) hx hb dL_law_1121 hl (by decide) rfl (fun ls hl => ?_)
  refine lv_aload_n hx hb dL_law_1123 rfl (lv_at hl 5 rfl) ?_
  refine q_cPV X w (c_X9_thrown l D t b _ _ I2 R2) vL_134 (k := 45) rfl rfl rfl ⟨Nat.le_of_ble_eq_true rfl, Nat.le_of_ble_eq_true rfl⟩ rfl hl.1 (Nat.le_of_ble_eq_true rfl) dL_law_1124 hcs (fun th ht => ?_)
  refine lv_iload hx hb dL_law_1127 (lv_at hl 1 rfl) ?_
  refine lv_icmp_eq (tgt := 1134) hx hb dL_law_1129 (by decide) (fun c_1129 => ?_) (fun c_1129 => ?_)
  · skip
    refine lv_iload hx hb dL_law_1134 (lv_at hl 1 rfl) ?_
    refine lv_if_ne (tgt := 1151) hx hb dL_law_1136 (by decide) (fun c_1136 => ?_) (fun c_1136 => ?_)
    · skip
      refine lv_goto (tgt := 2707) hx hb dL_law_1151 (by decide) ?_
      exact kk _ _ _ _ _ hI w (lv_sub hl [2, 3, 4, 5, 6, 7] rfl)
    · skip
      have hcd : cd = 0 := by rw [← hz, c_1136]; rfl
      refine lv_aload_n hx hb dL_law_1139 rfl (lv_at hl 6 rfl) ?_
      refine lv_iconst (v := 0) hx hb dL_law_1140 (by decide) ?_
      refine q_lald X w (k := 60) (f := f) ((mS_off (I2 := I2) (R2 := R2) (by omega)).trans hf) (i := 0) (by unfold vp_in; decide) dL_law_1141 ?_
      refine lv_iload hx hb dL_law_1142 (lv_at hl 0 rfl) ?_
      refine lv_i2l (v := y.toInt64) hx hb dL_law_1144 rfl ?_
      refine W.lcmp hx hb dL_law_1145 ?_
      refine q_topE (y := 0) (lcz (hfv hcd) (m2 hcd)) ?_
      refine lv_if_eq (tgt := 1151) hx hb dL_law_1146 (by decide) (fun c_1146 => ?_) (fun c_1146 => ?_)
      · skip
        refine lv_goto (tgt := 2707) hx hb dL_law_1151 (by decide) ?_
        exact kk _ _ _ _ _ hI w (lv_sub hl [2, 3, 4, 5, 6, 7] rfl)
      · skip
        exact absurd rfl c_1146
  · skip
    exact absurd (Int32.toInt_inj.mp ((congrArg Int32.toInt ht).trans (m1.trans hz.symm))) c_1129

set_option maxHeartbeats 1000000 in
set_option maxRecDepth 100000 in
theorem law_14 {p : Program} {l : Launch} {e : Env} {s : State} {m : MethodId} {below : List Frame} {meth : Method} {c : Code} {H : Heap} {locs : List Loc} {cells slots : Nat} {Q : State → Prop} {r : Option FieldType} {D : va_G} {t : Nat → ClassId} {b n : Nat} {σ : qM} {sc L : Nat} {xs : Nat → Int32} {ls : Array Slot} {i : Int32} {i0 : Int} (hl0 : l.stackTraces = false) (X : qX p s #[.ref sc] m meth c RL cL_law 9 r D t b) (hE : XK s) (hS : SK b s) (hXs : va_X sc L xs s s.heap) (hbl : sc < s.heap.size) (hbA : ¬ b ≤ sc) (hi : i.toInt = i0) (h0 : 0 ≤ i0 ∧ i0 + 7 ≤ L ∧ L ≤ 3584) (hcs : cells + 8 ≤ 601024 ∧ slots + 1100 ≤ 7293034) (w : qW D b n σ s H locs) (hI : LI t b σ) (hl : lv_has ls 9 [(5, .int i), (0, .ref sc), (1, .ref (b + 0)), (2, .ref (b + 45)), (3, .ref (b + 60)), (4, .ref (b + 61))]) (kk : ∀ (n : Nat) (σ : qM) (H : Heap) (locs : List Loc) (ls : Array Slot), LI t b σ → qW D b n σ s H locs → lv_has ls 9 [(5, .int i), (0, .ref sc), (1, .ref (b + 0)), (2, .ref (b + 45)), (3, .ref (b + 60)), (4, .ref (b + 61))] → W p l e room_1 s m #[.ref sc] below meth c H locs (cells + 8) (slots + 1100) Q (F0 m 2707 ls [])) : W p l e room_1 s m #[.ref sc] below meth c H locs cells slots Q (F0 m 1154 ls []) := by
  have hx := X.1
  have hb := X.2.1
  refine lv_aload_n hx hb dL_law_1154 rfl (lv_at hl 2 rfl) ?_
  refine lv_aload_n hx hb dL_law_1155 rfl (lv_at hl 1 rfl) ?_
  refine lv_iload hx hb dL_law_1156 (lv_at hl 0 rfl) ?_
  refine lv_iconst (v := 1) hx hb dL_law_1158 (by decide) ?_
  refine lv_iadd hx hb dL_law_1159 ?_
  refine lv_topi (fun x_1159 e_1159 => ?_)
  have p_1159 : x_1159.toInt = (i0 + 1) := by rw [e_1159]; exact t_add hi (show (1 : Int32).toInt = 1 from rfl) (by omega) (by omega)
  refine va_sld hx hb hXs hbl hbA w.2.1 (g_in p_1159 (by omega)) dL_law_1160 ?_
  refine q_topE (y := xs (i0 + 1).toNat) (congrArg xs (g_tn p_1159)) ?_
  refine lv_aload_n hx hb dL_law_1161 rfl (lv_at hl 1 rfl) ?_
  refine lv_iload hx hb dL_law_1162 (lv_at hl 0 rfl) ?_
  refine lv_iconst (v := 2) hx hb dL_law_1164 (by decide) ?_
  refine lv_iadd hx hb dL_law_1165 ?_
  refine lv_topi (fun x_1165 e_1165 => ?_)
  have p_1165 : x_1165.toInt = (i0 + 2) := by rw [e_1165]; exact t_add hi (show (2 : Int32).toInt = 2 from rfl) (by omega) (by omega)
  refine va_sld hx hb hXs hbl hbA w.2.1 (g_in p_1165 (by omega)) dL_law_1166 ?_
  refine q_topE (y := xs (i0 + 2).toNat) (congrArg xs (g_tn p_1165)) ?_
  refine lv_aload_n hx hb dL_law_1167 rfl (lv_at hl 1 rfl) ?_
  refine lv_iload hx hb dL_law_1168 (lv_at hl 0 rfl) ?_
  refine lv_iconst (v := 3) hx hb dL_law_1170 (by decide) ?_
  refine lv_iadd hx hb dL_law_1171 ?_
  refine lv_topi (fun x_1171 e_1171 => ?_)
  have p_1171 : x_1171.toInt = (i0 + 3) := by rw [e_1171]; exact t_add hi (show (3 : Int32).toInt = 3 from rfl) (by omega) (by omega)
  refine va_sld hx hb hXs hbl hbA w.2.1 (g_in p_1171 (by omega)) dL_law_1172 ?_
  refine q_topE (y := xs (i0 + 3).toNat) (congrArg xs (g_tn p_1171)) ?_
  refine lv_aload_n hx hb dL_law_1173 rfl (lv_at hl 4 rfl) ?_
  refine q_cL X hE hS w (k_week (l := l) (D := D) hl0 hI (xs (i0 + 1).toNat) (xs (i0 + 2).toNat) (xs (i0 + 3).toNat)) vL_182 rfl ⟨Nat.le_of_ble_eq_true rfl, Nat.le_of_ble_eq_true rfl⟩ rfl hl.1 (Nat.le_of_ble_eq_true rfl) dL_law_1174 (cap8 hcs (by decide) (by decide)) (fun z n2 σ2 H locs hz2 w => ?_)
  refine W.widen (k := cells + 8) (n := slots + 1100) (Nat.add_le_add_left (by decide) _) (Nat.add_le_add_left (by decide) _) ?_
  obtain ⟨cd, vl, hz, ⟨f, hf, hfv⟩, I1, R1, pm, es, hM, hpost⟩ := hz2
  have w : qW D b n2 (mS t b σ2 I1 R1) s H locs := by rw [← es]; exact w
  refine lv_istore (lv' := [(6, .int z), (5, .int i), (0, .ref sc), (1, .ref (b + 0)), (2, .ref (b + 45)), (3, .ref (b + 60)), (4, .ref (b + 61))]) hx hb dL_law_1177 hl (by decide) rfl (fun ls hl => ?_)
  refine lv_aload_n hx hb dL_law_1179 rfl (lv_at hl 4 rfl) ?_
  refine lv_aload_n hx hb dL_law_1180 rfl (lv_at hl 2 rfl) ?_
  refine lv_iload hx hb dL_law_1181 (lv_at hl 1 rfl) ?_
  refine lv_iconst (v := 1) hx hb dL_law_1183 (by decide) ?_
  refine lv_iadd hx hb dL_law_1184 ?_
  refine lv_topi (fun x_1184 e_1184 => ?_)
  have p_1184 : x_1184.toInt = (i0 + 1) := by rw [e_1184]; exact t_add hi (show (1 : Int32).toInt = 1 from rfl) (by omega) (by omega)
  refine va_sld hx hb hXs hbl hbA w.2.1 (g_in p_1184 (by omega)) dL_law_1185 ?_
  refine q_topE (y := xs (i0 + 1).toNat) (congrArg xs (g_tn p_1184)) ?_
  refine lv_aload_n hx hb dL_law_1186 rfl (lv_at hl 2 rfl) ?_
  refine lv_iload hx hb dL_law_1187 (lv_at hl 1 rfl) ?_
  refine lv_iconst (v := 2) hx hb dL_law_1189 (by decide) ?_
  refine lv_iadd hx hb dL_law_1190 ?_
  refine lv_topi (fun x_1190 e_1190 => ?_)
  have p_1190 : x_1190.toInt = (i0 + 2) := by rw [e_1190]; exact t_add hi (show (2 : Int32).toInt = 2 from rfl) (by omega) (by omega)
  refine va_sld hx hb hXs hbl hbA w.2.1 (g_in p_1190 (by omega)) dL_law_1191 ?_
  refine q_topE (y := xs (i0 + 2).toNat) (congrArg xs (g_tn p_1190)) ?_
  refine lv_aload_n hx hb dL_law_1192 rfl (lv_at hl 2 rfl) ?_
  refine lv_iload hx hb dL_law_1193 (lv_at hl 1 rfl) ?_
  refine lv_iconst (v := 3) hx hb dL_law_1195 (by decide) ?_
  refine lv_iadd hx hb dL_law_1196 ?_
  refine lv_topi (fun x_1196 e_1196 => ?_)
  have p_1196 : x_1196.toInt = (i0 + 3) := by rw [e_1196]; exact t_add hi (show (3 : Int32).toInt = 3 from rfl) (by omega) (by omega)
  refine va_sld hx hb hXs hbl hbA w.2.1 (g_in p_1196 (by omega)) dL_law_1197 ?_
  refine q_topE (y := xs (i0 + 3).toNat) (congrArg xs (g_tn p_1196)) ?_
  refine mm_cC X w hM vL_184 rfl rfl ⟨Nat.le_of_ble_eq_true rfl, Nat.le_of_ble_eq_true rfl⟩ rfl hl.1 (Nat.le_of_ble_eq_true rfl) dL_law_1198 hcs (fun y I2 R2 H locs hp2 w => ?_)
  obtain ⟨m1, m2, hI⟩ := hpost y I2 R2 hp2
  refine lv_istore (lv' := [(7, .int y), (6, .int z), (5, .int i), (0, .ref sc), (1, .ref (b + 0)), (2, .ref (b + 45)), (3, .ref (b + 60)), (4, .ref (b + 61))]) hx hb dL_law_1201 hl (by decide) rfl (fun ls hl => ?_)
  refine lv_aload_n hx hb dL_law_1203 rfl (lv_at hl 5 rfl) ?_
  refine q_cPV X w (c_X9_thrown l D t b _ _ I2 R2) vL_134 (k := 45) rfl rfl rfl ⟨Nat.le_of_ble_eq_true rfl, Nat.le_of_ble_eq_true rfl⟩ rfl hl.1 (Nat.le_of_ble_eq_true rfl) dL_law_1204 hcs (fun th ht => ?_)
  refine lv_iload hx hb dL_law_1207 (lv_at hl 1 rfl) ?_
  refine lv_icmp_eq (tgt := 1214) hx hb dL_law_1209 (by decide) (fun c_1209 => ?_) (fun c_1209 => ?_)
  · skip
    refine lv_iload hx hb dL_law_1214 (lv_at hl 1 rfl) ?_
    refine lv_if_ne (tgt := 1231) hx hb dL_law_1216 (by decide) (fun c_1216 => ?_) (fun c_1216 => ?_)
    · skip
      refine lv_goto (tgt := 2707) hx hb dL_law_1231 (by decide) ?_
      exact kk _ _ _ _ _ hI w (lv_sub hl [2, 3, 4, 5, 6, 7] rfl)
    · skip
      have hcd : cd = 0 := by rw [← hz, c_1216]; rfl
      refine lv_aload_n hx hb dL_law_1219 rfl (lv_at hl 6 rfl) ?_
      refine lv_iconst (v := 0) hx hb dL_law_1220 (by decide) ?_
      refine q_lald X w (k := 60) (f := f) ((mS_off (I2 := I2) (R2 := R2) (by omega)).trans hf) (i := 0) (by unfold vp_in; decide) dL_law_1221 ?_
      refine lv_iload hx hb dL_law_1222 (lv_at hl 0 rfl) ?_
      refine lv_i2l (v := y.toInt64) hx hb dL_law_1224 rfl ?_
      refine W.lcmp hx hb dL_law_1225 ?_
      refine q_topE (y := 0) (lcz (hfv hcd) (m2 hcd)) ?_
      refine lv_if_eq (tgt := 1231) hx hb dL_law_1226 (by decide) (fun c_1226 => ?_) (fun c_1226 => ?_)
      · skip
        refine lv_goto (tgt := 2707) hx hb dL_law_1231 (by decide) ?_
        exact kk _ _ _ _ _ hI w (lv_sub hl [2, 3, 4, 5, 6, 7] rfl)
      · skip
        exact absurd rfl c_1226
  · skip
    exact absurd (Int32.toInt_inj.mp ((congrArg Int32.toInt ht).trans (m1.trans hz.symm))) c_1209

set_option maxHeartbeats 1000000 in
set_option maxRecDepth 100000 in
theorem law_15 {p : Program} {l : Launch} {e : Env} {s : State} {m : MethodId} {below : List Frame} {meth : Method} {c : Code} {H : Heap} {locs : List Loc} {cells slots : Nat} {Q : State → Prop} {r : Option FieldType} {D : va_G} {t : Nat → ClassId} {b n : Nat} {σ : qM} {sc L : Nat} {xs : Nat → Int32} {ls : Array Slot} {i : Int32} {i0 : Int} (hl0 : l.stackTraces = false) (X : qX p s #[.ref sc] m meth c RL cL_law 9 r D t b) (hE : XK s) (hS : SK b s) (hXs : va_X sc L xs s s.heap) (hbl : sc < s.heap.size) (hbA : ¬ b ≤ sc) (hi : i.toInt = i0) (h0 : 0 ≤ i0 ∧ i0 + 7 ≤ L ∧ L ≤ 3584) (hcs : cells + 8 ≤ 601024 ∧ slots + 1100 ≤ 7293034) (w : qW D b n σ s H locs) (hI : LI t b σ) (hl : lv_has ls 9 [(5, .int i), (0, .ref sc), (1, .ref (b + 0)), (2, .ref (b + 45)), (3, .ref (b + 60)), (4, .ref (b + 61))]) (kk : ∀ (n : Nat) (σ : qM) (H : Heap) (locs : List Loc) (ls : Array Slot), LI t b σ → qW D b n σ s H locs → lv_has ls 9 [(5, .int i), (0, .ref sc), (1, .ref (b + 0)), (2, .ref (b + 45)), (3, .ref (b + 60)), (4, .ref (b + 61))] → W p l e room_1 s m #[.ref sc] below meth c H locs (cells + 8) (slots + 1100) Q (F0 m 2707 ls [])) : W p l e room_1 s m #[.ref sc] below meth c H locs cells slots Q (F0 m 1234 ls []) := by
  have hx := X.1
  have hb := X.2.1
  refine lv_aload_n hx hb dL_law_1234 rfl (lv_at hl 2 rfl) ?_
  refine lv_aload_n hx hb dL_law_1235 rfl (lv_at hl 1 rfl) ?_
  refine lv_iload hx hb dL_law_1236 (lv_at hl 0 rfl) ?_
  refine lv_iconst (v := 1) hx hb dL_law_1238 (by decide) ?_
  refine lv_iadd hx hb dL_law_1239 ?_
  refine lv_topi (fun x_1239 e_1239 => ?_)
  have p_1239 : x_1239.toInt = (i0 + 1) := by rw [e_1239]; exact t_add hi (show (1 : Int32).toInt = 1 from rfl) (by omega) (by omega)
  refine va_sld hx hb hXs hbl hbA w.2.1 (g_in p_1239 (by omega)) dL_law_1240 ?_
  refine q_topE (y := xs (i0 + 1).toNat) (congrArg xs (g_tn p_1239)) ?_
  refine lv_aload_n hx hb dL_law_1241 rfl (lv_at hl 1 rfl) ?_
  refine lv_iload hx hb dL_law_1242 (lv_at hl 0 rfl) ?_
  refine lv_iconst (v := 2) hx hb dL_law_1244 (by decide) ?_
  refine lv_iadd hx hb dL_law_1245 ?_
  refine lv_topi (fun x_1245 e_1245 => ?_)
  have p_1245 : x_1245.toInt = (i0 + 2) := by rw [e_1245]; exact t_add hi (show (2 : Int32).toInt = 2 from rfl) (by omega) (by omega)
  refine va_sld hx hb hXs hbl hbA w.2.1 (g_in p_1245 (by omega)) dL_law_1246 ?_
  refine q_topE (y := xs (i0 + 2).toNat) (congrArg xs (g_tn p_1245)) ?_
  refine lv_aload_n hx hb dL_law_1247 rfl (lv_at hl 4 rfl) ?_
  refine q_cL X hE hS w (k_weeks (l := l) (D := D) hl0 hI (xs (i0 + 1).toNat) (xs (i0 + 2).toNat)) vL_185 rfl ⟨Nat.le_of_ble_eq_true rfl, Nat.le_of_ble_eq_true rfl⟩ rfl hl.1 (Nat.le_of_ble_eq_true rfl) dL_law_1248 (cap8 hcs (by decide) (by decide)) (fun z n2 σ2 H locs hz2 w => ?_)
  refine W.widen (k := cells + 8) (n := slots + 1100) (Nat.add_le_add_left (by decide) _) (Nat.add_le_add_left (by decide) _) ?_
  obtain ⟨cd, vl, hz, ⟨f, hf, hfv⟩, I1, R1, pm, es, hM, hpost⟩ := hz2
  have w : qW D b n2 (mS t b σ2 I1 R1) s H locs := by rw [← es]; exact w
  refine lv_istore (lv' := [(6, .int z), (5, .int i), (0, .ref sc), (1, .ref (b + 0)), (2, .ref (b + 45)), (3, .ref (b + 60)), (4, .ref (b + 61))]) hx hb dL_law_1251 hl (by decide) rfl (fun ls hl => ?_)
  refine lv_aload_n hx hb dL_law_1253 rfl (lv_at hl 4 rfl) ?_
  refine lv_aload_n hx hb dL_law_1254 rfl (lv_at hl 2 rfl) ?_
  refine lv_iload hx hb dL_law_1255 (lv_at hl 1 rfl) ?_
  refine lv_iconst (v := 1) hx hb dL_law_1257 (by decide) ?_
  refine lv_iadd hx hb dL_law_1258 ?_
  refine lv_topi (fun x_1258 e_1258 => ?_)
  have p_1258 : x_1258.toInt = (i0 + 1) := by rw [e_1258]; exact t_add hi (show (1 : Int32).toInt = 1 from rfl) (by omega) (by omega)
  refine va_sld hx hb hXs hbl hbA w.2.1 (g_in p_1258 (by omega)) dL_law_1259 ?_
  refine q_topE (y := xs (i0 + 1).toNat) (congrArg xs (g_tn p_1258)) ?_
  refine lv_aload_n hx hb dL_law_1260 rfl (lv_at hl 2 rfl) ?_
  refine lv_iload hx hb dL_law_1261 (lv_at hl 1 rfl) ?_
  refine lv_iconst (v := 2) hx hb dL_law_1263 (by decide) ?_
  refine lv_iadd hx hb dL_law_1264 ?_
  refine lv_topi (fun x_1264 e_1264 => ?_)
  have p_1264 : x_1264.toInt = (i0 + 2) := by rw [e_1264]; exact t_add hi (show (2 : Int32).toInt = 2 from rfl) (by omega) (by omega)
  refine va_sld hx hb hXs hbl hbA w.2.1 (g_in p_1264 (by omega)) dL_law_1265 ?_
  refine q_topE (y := xs (i0 + 2).toNat) (congrArg xs (g_tn p_1264)) ?_
  refine mm_cC X w hM vL_187 rfl rfl ⟨Nat.le_of_ble_eq_true rfl, Nat.le_of_ble_eq_true rfl⟩ rfl hl.1 (Nat.le_of_ble_eq_true rfl) dL_law_1266 hcs (fun y I2 R2 H locs hp2 w => ?_)
  obtain ⟨m1, m2, hI⟩ := hpost y I2 R2 hp2
  refine lv_istore (lv' := [(7, .int y), (6, .int z), (5, .int i), (0, .ref sc), (1, .ref (b + 0)), (2, .ref (b + 45)), (3, .ref (b + 60)), (4, .ref (b + 61))]) hx hb dL_law_1269 hl (by decide) rfl (fun ls hl => ?_)
  refine lv_aload_n hx hb dL_law_1271 rfl (lv_at hl 5 rfl) ?_
  refine q_cPV X w (c_X9_thrown l D t b _ _ I2 R2) vL_134 (k := 45) rfl rfl rfl ⟨Nat.le_of_ble_eq_true rfl, Nat.le_of_ble_eq_true rfl⟩ rfl hl.1 (Nat.le_of_ble_eq_true rfl) dL_law_1272 hcs (fun th ht => ?_)
  refine lv_iload hx hb dL_law_1275 (lv_at hl 1 rfl) ?_
  refine lv_icmp_eq (tgt := 1282) hx hb dL_law_1277 (by decide) (fun c_1277 => ?_) (fun c_1277 => ?_)
  · skip
    refine lv_iload hx hb dL_law_1282 (lv_at hl 1 rfl) ?_
    refine lv_if_ne (tgt := 1299) hx hb dL_law_1284 (by decide) (fun c_1284 => ?_) (fun c_1284 => ?_)
    · skip
      refine lv_goto (tgt := 2707) hx hb dL_law_1299 (by decide) ?_
      exact kk _ _ _ _ _ hI w (lv_sub hl [2, 3, 4, 5, 6, 7] rfl)
    · skip
      have hcd : cd = 0 := by rw [← hz, c_1284]; rfl
      refine lv_aload_n hx hb dL_law_1287 rfl (lv_at hl 6 rfl) ?_
      refine lv_iconst (v := 0) hx hb dL_law_1288 (by decide) ?_
      refine q_lald X w (k := 60) (f := f) ((mS_off (I2 := I2) (R2 := R2) (by omega)).trans hf) (i := 0) (by unfold vp_in; decide) dL_law_1289 ?_
      refine lv_iload hx hb dL_law_1290 (lv_at hl 0 rfl) ?_
      refine lv_i2l (v := y.toInt64) hx hb dL_law_1292 rfl ?_
      refine W.lcmp hx hb dL_law_1293 ?_
      refine q_topE (y := 0) (lcz (hfv hcd) (m2 hcd)) ?_
      refine lv_if_eq (tgt := 1299) hx hb dL_law_1294 (by decide) (fun c_1294 => ?_) (fun c_1294 => ?_)
      · skip
        refine lv_goto (tgt := 2707) hx hb dL_law_1299 (by decide) ?_
        exact kk _ _ _ _ _ hI w (lv_sub hl [2, 3, 4, 5, 6, 7] rfl)
      · skip
        exact absurd rfl c_1294
  · skip
    exact absurd (Int32.toInt_inj.mp ((congrArg Int32.toInt ht).trans (m1.trans hz.symm))) c_1277

set_option maxHeartbeats 1000000 in
set_option maxRecDepth 100000 in
theorem law_16 {p : Program} {l : Launch} {e : Env} {s : State} {m : MethodId} {below : List Frame} {meth : Method} {c : Code} {H : Heap} {locs : List Loc} {cells slots : Nat} {Q : State → Prop} {r : Option FieldType} {D : va_G} {t : Nat → ClassId} {b n : Nat} {σ : qM} {sc L : Nat} {xs : Nat → Int32} {ls : Array Slot} {i : Int32} {i0 : Int} (hl0 : l.stackTraces = false) (X : qX p s #[.ref sc] m meth c RL cL_law 9 r D t b) (hE : XK s) (hS : SK b s) (hXs : va_X sc L xs s s.heap) (hbl : sc < s.heap.size) (hbA : ¬ b ≤ sc) (hi : i.toInt = i0) (h0 : 0 ≤ i0 ∧ i0 + 7 ≤ L ∧ L ≤ 3584) (hcs : cells + 8 ≤ 601024 ∧ slots + 1100 ≤ 7293034) (w : qW D b n σ s H locs) (hI : LI t b σ) (hl : lv_has ls 9 [(5, .int i), (0, .ref sc), (1, .ref (b + 0)), (2, .ref (b + 45)), (3, .ref (b + 60)), (4, .ref (b + 61))]) (kk : ∀ (n : Nat) (σ : qM) (H : Heap) (locs : List Loc) (ls : Array Slot), LI t b σ → qW D b n σ s H locs → lv_has ls 9 [(5, .int i), (0, .ref sc), (1, .ref (b + 0)), (2, .ref (b + 45)), (3, .ref (b + 60)), (4, .ref (b + 61))] → W p l e room_1 s m #[.ref sc] below meth c H locs (cells + 8) (slots + 1100) Q (F0 m 2707 ls [])) : W p l e room_1 s m #[.ref sc] below meth c H locs cells slots Q (F0 m 1302 ls []) := by
  have hx := X.1
  have hb := X.2.1
  refine lv_aload_n hx hb dL_law_1302 rfl (lv_at hl 2 rfl) ?_
  refine lv_aload_n hx hb dL_law_1303 rfl (lv_at hl 1 rfl) ?_
  refine lv_iload hx hb dL_law_1304 (lv_at hl 0 rfl) ?_
  refine lv_iconst (v := 1) hx hb dL_law_1306 (by decide) ?_
  refine lv_iadd hx hb dL_law_1307 ?_
  refine lv_topi (fun x_1307 e_1307 => ?_)
  have p_1307 : x_1307.toInt = (i0 + 1) := by rw [e_1307]; exact t_add hi (show (1 : Int32).toInt = 1 from rfl) (by omega) (by omega)
  refine va_sld hx hb hXs hbl hbA w.2.1 (g_in p_1307 (by omega)) dL_law_1308 ?_
  refine q_topE (y := xs (i0 + 1).toNat) (congrArg xs (g_tn p_1307)) ?_
  refine lv_aload_n hx hb dL_law_1309 rfl (lv_at hl 1 rfl) ?_
  refine lv_iload hx hb dL_law_1310 (lv_at hl 0 rfl) ?_
  refine lv_iconst (v := 2) hx hb dL_law_1312 (by decide) ?_
  refine lv_iadd hx hb dL_law_1313 ?_
  refine lv_topi (fun x_1313 e_1313 => ?_)
  have p_1313 : x_1313.toInt = (i0 + 2) := by rw [e_1313]; exact t_add hi (show (2 : Int32).toInt = 2 from rfl) (by omega) (by omega)
  refine va_sld hx hb hXs hbl hbA w.2.1 (g_in p_1313 (by omega)) dL_law_1314 ?_
  refine q_topE (y := xs (i0 + 2).toNat) (congrArg xs (g_tn p_1313)) ?_
  refine lv_aload_n hx hb dL_law_1315 rfl (lv_at hl 1 rfl) ?_
  refine lv_iload hx hb dL_law_1316 (lv_at hl 0 rfl) ?_
  refine lv_iconst (v := 3) hx hb dL_law_1318 (by decide) ?_
  refine lv_iadd hx hb dL_law_1319 ?_
  refine lv_topi (fun x_1319 e_1319 => ?_)
  have p_1319 : x_1319.toInt = (i0 + 3) := by rw [e_1319]; exact t_add hi (show (3 : Int32).toInt = 3 from rfl) (by omega) (by omega)
  refine va_sld hx hb hXs hbl hbA w.2.1 (g_in p_1319 (by omega)) dL_law_1320 ?_
  refine q_topE (y := xs (i0 + 3).toNat) (congrArg xs (g_tn p_1319)) ?_
  refine lv_aload_n hx hb dL_law_1321 rfl (lv_at hl 4 rfl) ?_
  refine q_cL X hE hS w (k_firstDayOfWeek (l := l) (D := D) hl0 hI (xs (i0 + 1).toNat) (xs (i0 + 2).toNat) (xs (i0 + 3).toNat)) vL_188 rfl ⟨Nat.le_of_ble_eq_true rfl, Nat.le_of_ble_eq_true rfl⟩ rfl hl.1 (Nat.le_of_ble_eq_true rfl) dL_law_1322 (cap8 hcs (by decide) (by decide)) (fun z n2 σ2 H locs hz2 w => ?_)
  refine W.widen (k := cells + 8) (n := slots + 1100) (Nat.add_le_add_left (by decide) _) (Nat.add_le_add_left (by decide) _) ?_
  obtain ⟨cd, vl, hz, ⟨f, hf, hfv⟩, I1, R1, pm, es, hM, hpost⟩ := hz2
  have w : qW D b n2 (mS t b σ2 I1 R1) s H locs := by rw [← es]; exact w
  refine lv_istore (lv' := [(6, .int z), (5, .int i), (0, .ref sc), (1, .ref (b + 0)), (2, .ref (b + 45)), (3, .ref (b + 60)), (4, .ref (b + 61))]) hx hb dL_law_1325 hl (by decide) rfl (fun ls hl => ?_)
  refine lv_aload_n hx hb dL_law_1327 rfl (lv_at hl 4 rfl) ?_
  refine lv_aload_n hx hb dL_law_1328 rfl (lv_at hl 2 rfl) ?_
  refine lv_iload hx hb dL_law_1329 (lv_at hl 1 rfl) ?_
  refine lv_iconst (v := 1) hx hb dL_law_1331 (by decide) ?_
  refine lv_iadd hx hb dL_law_1332 ?_
  refine lv_topi (fun x_1332 e_1332 => ?_)
  have p_1332 : x_1332.toInt = (i0 + 1) := by rw [e_1332]; exact t_add hi (show (1 : Int32).toInt = 1 from rfl) (by omega) (by omega)
  refine va_sld hx hb hXs hbl hbA w.2.1 (g_in p_1332 (by omega)) dL_law_1333 ?_
  refine q_topE (y := xs (i0 + 1).toNat) (congrArg xs (g_tn p_1332)) ?_
  refine lv_aload_n hx hb dL_law_1334 rfl (lv_at hl 2 rfl) ?_
  refine lv_iload hx hb dL_law_1335 (lv_at hl 1 rfl) ?_
  refine lv_iconst (v := 2) hx hb dL_law_1337 (by decide) ?_
  refine lv_iadd hx hb dL_law_1338 ?_
  refine lv_topi (fun x_1338 e_1338 => ?_)
  have p_1338 : x_1338.toInt = (i0 + 2) := by rw [e_1338]; exact t_add hi (show (2 : Int32).toInt = 2 from rfl) (by omega) (by omega)
  refine va_sld hx hb hXs hbl hbA w.2.1 (g_in p_1338 (by omega)) dL_law_1339 ?_
  refine q_topE (y := xs (i0 + 2).toNat) (congrArg xs (g_tn p_1338)) ?_
  refine lv_aload_n hx hb dL_law_1340 rfl (lv_at hl 2 rfl) ?_
  refine lv_iload hx hb dL_law_1341 (lv_at hl 1 rfl) ?_
  refine lv_iconst (v := 3) hx hb dL_law_1343 (by decide) ?_
  refine lv_iadd hx hb dL_law_1344 ?_
  refine lv_topi (fun x_1344 e_1344 => ?_)
  have p_1344 : x_1344.toInt = (i0 + 3) := by rw [e_1344]; exact t_add hi (show (3 : Int32).toInt = 3 from rfl) (by omega) (by omega)
  refine va_sld hx hb hXs hbl hbA w.2.1 (g_in p_1344 (by omega)) dL_law_1345 ?_
  refine q_topE (y := xs (i0 + 3).toNat) (congrArg xs (g_tn p_1344)) ?_
  refine mm_cC X w hM vL_190 rfl rfl ⟨Nat.le_of_ble_eq_true rfl, Nat.le_of_ble_eq_true rfl⟩ rfl hl.1 (Nat.le_of_ble_eq_true rfl) dL_law_1346 hcs (fun y I2 R2 H locs hp2 w => ?_)
  obtain ⟨m1, m2, hI⟩ := hpost y I2 R2 hp2
  refine lv_istore (lv' := [(7, .int y), (6, .int z), (5, .int i), (0, .ref sc), (1, .ref (b + 0)), (2, .ref (b + 45)), (3, .ref (b + 60)), (4, .ref (b + 61))]) hx hb dL_law_1349 hl (by decide) rfl (fun ls hl => ?_)
  refine lv_aload_n hx hb dL_law_1351 rfl (lv_at hl 5 rfl) ?_
  refine q_cPV X w (c_X9_thrown l D t b _ _ I2 R2) vL_134 (k := 45) rfl rfl rfl ⟨Nat.le_of_ble_eq_true rfl, Nat.le_of_ble_eq_true rfl⟩ rfl hl.1 (Nat.le_of_ble_eq_true rfl) dL_law_1352 hcs (fun th ht => ?_)
  refine lv_iload hx hb dL_law_1355 (lv_at hl 1 rfl) ?_
  refine lv_icmp_eq (tgt := 1362) hx hb dL_law_1357 (by decide) (fun c_1357 => ?_) (fun c_1357 => ?_)
  · skip
    refine lv_iload hx hb dL_law_1362 (lv_at hl 1 rfl) ?_
    refine lv_if_ne (tgt := 1379) hx hb dL_law_1364 (by decide) (fun c_1364 => ?_) (fun c_1364 => ?_)
    · skip
      refine lv_goto (tgt := 2707) hx hb dL_law_1379 (by decide) ?_
      exact kk _ _ _ _ _ hI w (lv_sub hl [2, 3, 4, 5, 6, 7] rfl)
    · skip
      have hcd : cd = 0 := by rw [← hz, c_1364]; rfl
      refine lv_aload_n hx hb dL_law_1367 rfl (lv_at hl 6 rfl) ?_
      refine lv_iconst (v := 0) hx hb dL_law_1368 (by decide) ?_
      refine q_lald X w (k := 60) (f := f) ((mS_off (I2 := I2) (R2 := R2) (by omega)).trans hf) (i := 0) (by unfold vp_in; decide) dL_law_1369 ?_
      refine lv_iload hx hb dL_law_1370 (lv_at hl 0 rfl) ?_
      refine lv_i2l (v := y.toInt64) hx hb dL_law_1372 rfl ?_
      refine W.lcmp hx hb dL_law_1373 ?_
      refine q_topE (y := 0) (lcz (hfv hcd) (m2 hcd)) ?_
      refine lv_if_eq (tgt := 1379) hx hb dL_law_1374 (by decide) (fun c_1374 => ?_) (fun c_1374 => ?_)
      · skip
        refine lv_goto (tgt := 2707) hx hb dL_law_1379 (by decide) ?_
        exact kk _ _ _ _ _ hI w (lv_sub hl [2, 3, 4, 5, 6, 7] rfl)
      · skip
        exact absurd rfl c_1374
  · skip
    exact absurd (Int32.toInt_inj.mp ((congrArg Int32.toInt ht).trans (m1.trans hz.symm))) c_1357

set_option maxHeartbeats 1000000 in
set_option maxRecDepth 100000 in
theorem law_17 {p : Program} {l : Launch} {e : Env} {s : State} {m : MethodId} {below : List Frame} {meth : Method} {c : Code} {H : Heap} {locs : List Loc} {cells slots : Nat} {Q : State → Prop} {r : Option FieldType} {D : va_G} {t : Nat → ClassId} {b n : Nat} {σ : qM} {sc L : Nat} {xs : Nat → Int32} {ls : Array Slot} {i : Int32} {i0 : Int} (hl0 : l.stackTraces = false) (X : qX p s #[.ref sc] m meth c RL cL_law 9 r D t b) (hE : XK s) (hS : SK b s) (hXs : va_X sc L xs s s.heap) (hbl : sc < s.heap.size) (hbA : ¬ b ≤ sc) (hi : i.toInt = i0) (h0 : 0 ≤ i0 ∧ i0 + 7 ≤ L ∧ L ≤ 3584) (hcs : cells + 8 ≤ 601024 ∧ slots + 1100 ≤ 7293034) (w : qW D b n σ s H locs) (hI : LI t b σ) (hl : lv_has ls 9 [(5, .int i), (0, .ref sc), (1, .ref (b + 0)), (2, .ref (b + 45)), (3, .ref (b + 60)), (4, .ref (b + 61))]) (kk : ∀ (n : Nat) (σ : qM) (H : Heap) (locs : List Loc) (ls : Array Slot), LI t b σ → qW D b n σ s H locs → lv_has ls 9 [(5, .int i), (0, .ref sc), (1, .ref (b + 0)), (2, .ref (b + 45)), (3, .ref (b + 60)), (4, .ref (b + 61))] → W p l e room_1 s m #[.ref sc] below meth c H locs (cells + 8) (slots + 1100) Q (F0 m 2707 ls [])) : W p l e room_1 s m #[.ref sc] below meth c H locs cells slots Q (F0 m 1382 ls []) := by
  have hx := X.1
  have hb := X.2.1
  refine lv_aload_n hx hb dL_law_1382 rfl (lv_at hl 2 rfl) ?_
  refine lv_aload_n hx hb dL_law_1383 rfl (lv_at hl 1 rfl) ?_
  refine lv_iload hx hb dL_law_1384 (lv_at hl 0 rfl) ?_
  refine lv_iconst (v := 1) hx hb dL_law_1386 (by decide) ?_
  refine lv_iadd hx hb dL_law_1387 ?_
  refine lv_topi (fun x_1387 e_1387 => ?_)
  have p_1387 : x_1387.toInt = (i0 + 1) := by rw [e_1387]; exact t_add hi (show (1 : Int32).toInt = 1 from rfl) (by omega) (by omega)
  refine va_sld hx hb hXs hbl hbA w.2.1 (g_in p_1387 (by omega)) dL_law_1388 ?_
  refine q_topE (y := xs (i0 + 1).toNat) (congrArg xs (g_tn p_1387)) ?_
  refine lv_aload_n hx hb dL_law_1389 rfl (lv_at hl 1 rfl) ?_
  refine lv_iload hx hb dL_law_1390 (lv_at hl 0 rfl) ?_
  refine lv_iconst (v := 2) hx hb dL_law_1392 (by decide) ?_
  refine lv_iadd hx hb dL_law_1393 ?_
  refine lv_topi (fun x_1393 e_1393 => ?_)
  have p_1393 : x_1393.toInt = (i0 + 2) := by rw [e_1393]; exact t_add hi (show (2 : Int32).toInt = 2 from rfl) (by omega) (by omega)
  refine va_sld hx hb hXs hbl hbA w.2.1 (g_in p_1393 (by omega)) dL_law_1394 ?_
  refine q_topE (y := xs (i0 + 2).toNat) (congrArg xs (g_tn p_1393)) ?_
  refine lv_aload_n hx hb dL_law_1395 rfl (lv_at hl 1 rfl) ?_
  refine lv_iload hx hb dL_law_1396 (lv_at hl 0 rfl) ?_
  refine lv_iconst (v := 3) hx hb dL_law_1398 (by decide) ?_
  refine lv_iadd hx hb dL_law_1399 ?_
  refine lv_topi (fun x_1399 e_1399 => ?_)
  have p_1399 : x_1399.toInt = (i0 + 3) := by rw [e_1399]; exact t_add hi (show (3 : Int32).toInt = 3 from rfl) (by omega) (by omega)
  refine va_sld hx hb hXs hbl hbA w.2.1 (g_in p_1399 (by omega)) dL_law_1400 ?_
  refine q_topE (y := xs (i0 + 3).toNat) (congrArg xs (g_tn p_1399)) ?_
  refine lv_aload_n hx hb dL_law_1401 rfl (lv_at hl 4 rfl) ?_
  refine q_cL X hE hS w (k_plus (l := l) (D := D) hl0 hI (xs (i0 + 1).toNat) (xs (i0 + 2).toNat) (xs (i0 + 3).toNat)) vL_191 rfl ⟨Nat.le_of_ble_eq_true rfl, Nat.le_of_ble_eq_true rfl⟩ rfl hl.1 (Nat.le_of_ble_eq_true rfl) dL_law_1402 (cap8 hcs (by decide) (by decide)) (fun z n2 σ2 H locs hz2 w => ?_)
  refine W.widen (k := cells + 8) (n := slots + 1100) (Nat.add_le_add_left (by decide) _) (Nat.add_le_add_left (by decide) _) ?_
  obtain ⟨cd, vl, hz, ⟨f, hf, hfv⟩, I1, R1, pm, es, hM, hpost⟩ := hz2
  have w : qW D b n2 (mS t b σ2 I1 R1) s H locs := by rw [← es]; exact w
  refine lv_istore (lv' := [(6, .int z), (5, .int i), (0, .ref sc), (1, .ref (b + 0)), (2, .ref (b + 45)), (3, .ref (b + 60)), (4, .ref (b + 61))]) hx hb dL_law_1405 hl (by decide) rfl (fun ls hl => ?_)
  refine lv_aload_n hx hb dL_law_1407 rfl (lv_at hl 4 rfl) ?_
  refine lv_aload_n hx hb dL_law_1408 rfl (lv_at hl 2 rfl) ?_
  refine lv_iload hx hb dL_law_1409 (lv_at hl 1 rfl) ?_
  refine lv_iconst (v := 1) hx hb dL_law_1411 (by decide) ?_
  refine lv_iadd hx hb dL_law_1412 ?_
  refine lv_topi (fun x_1412 e_1412 => ?_)
  have p_1412 : x_1412.toInt = (i0 + 1) := by rw [e_1412]; exact t_add hi (show (1 : Int32).toInt = 1 from rfl) (by omega) (by omega)
  refine va_sld hx hb hXs hbl hbA w.2.1 (g_in p_1412 (by omega)) dL_law_1413 ?_
  refine q_topE (y := xs (i0 + 1).toNat) (congrArg xs (g_tn p_1412)) ?_
  refine lv_aload_n hx hb dL_law_1414 rfl (lv_at hl 2 rfl) ?_
  refine lv_iload hx hb dL_law_1415 (lv_at hl 1 rfl) ?_
  refine lv_iconst (v := 2) hx hb dL_law_1417 (by decide) ?_
  refine lv_iadd hx hb dL_law_1418 ?_
  refine lv_topi (fun x_1418 e_1418 => ?_)
  have p_1418 : x_1418.toInt = (i0 + 2) := by rw [e_1418]; exact t_add hi (show (2 : Int32).toInt = 2 from rfl) (by omega) (by omega)
  refine va_sld hx hb hXs hbl hbA w.2.1 (g_in p_1418 (by omega)) dL_law_1419 ?_
  refine q_topE (y := xs (i0 + 2).toNat) (congrArg xs (g_tn p_1418)) ?_
  refine lv_aload_n hx hb dL_law_1420 rfl (lv_at hl 2 rfl) ?_
  refine lv_iload hx hb dL_law_1421 (lv_at hl 1 rfl) ?_
  refine lv_iconst (v := 3) hx hb dL_law_1423 (by decide) ?_
  refine lv_iadd hx hb dL_law_1424 ?_
  refine lv_topi (fun x_1424 e_1424 => ?_)
  have p_1424 : x_1424.toInt = (i0 + 3) := by rw [e_1424]; exact t_add hi (show (3 : Int32).toInt = 3 from rfl) (by omega) (by omega)
  refine va_sld hx hb hXs hbl hbA w.2.1 (g_in p_1424 (by omega)) dL_law_1425 ?_
  refine q_topE (y := xs (i0 + 3).toNat) (congrArg xs (g_tn p_1424)) ?_
  refine mm_cC X w hM vL_193 rfl rfl ⟨Nat.le_of_ble_eq_true rfl, Nat.le_of_ble_eq_true rfl⟩ rfl hl.1 (Nat.le_of_ble_eq_true rfl) dL_law_1426 hcs (fun y I2 R2 H locs hp2 w => ?_)
  obtain ⟨m1, m2, hI⟩ := hpost y I2 R2 hp2
  refine lv_istore (lv' := [(7, .int y), (6, .int z), (5, .int i), (0, .ref sc), (1, .ref (b + 0)), (2, .ref (b + 45)), (3, .ref (b + 60)), (4, .ref (b + 61))]) hx hb dL_law_1429 hl (by decide) rfl (fun ls hl => ?_)
  refine lv_aload_n hx hb dL_law_1431 rfl (lv_at hl 5 rfl) ?_
  refine q_cPV X w (c_X9_thrown l D t b _ _ I2 R2) vL_134 (k := 45) rfl rfl rfl ⟨Nat.le_of_ble_eq_true rfl, Nat.le_of_ble_eq_true rfl⟩ rfl hl.1 (Nat.le_of_ble_eq_true rfl) dL_law_1432 hcs (fun th ht => ?_)
  refine lv_iload hx hb dL_law_1435 (lv_at hl 1 rfl) ?_
  refine lv_icmp_eq (tgt := 1442) hx hb dL_law_1437 (by decide) (fun c_1437 => ?_) (fun c_1437 => ?_)
  · skip
    refine lv_iload hx hb dL_law_1442 (lv_at hl 1 rfl) ?_
    refine lv_if_ne (tgt := 1459) hx hb dL_law_1444 (by decide) (fun c_1444 => ?_) (fun c_1444 => ?_)
    · skip
      refine lv_goto (tgt := 2707) hx hb dL_law_1459 (by decide) ?_
      exact kk _ _ _ _ _ hI w (lv_sub hl [2, 3, 4, 5, 6, 7] rfl)
    · skip
      have hcd : cd = 0 := by rw [← hz, c_1444]; rfl
      refine lv_aload_n hx hb dL_law_1447 rfl (lv_at hl 6 rfl) ?_
      refine lv_iconst (v := 0) hx hb dL_law_1448 (by decide) ?_
      refine q_lald X w (k := 60) (f := f) ((mS_off (I2 := I2) (R2 := R2) (by omega)).trans hf) (i := 0) (by unfold vp_in; decide) dL_law_1449 ?_
      refine lv_iload hx hb dL_law_1450 (lv_at hl 0 rfl) ?_
      refine lv_i2l (v := y.toInt64) hx hb dL_law_1452 rfl ?_
      refine W.lcmp hx hb dL_law_1453 ?_
      refine q_topE (y := 0) (lcz (hfv hcd) (m2 hcd)) ?_
      refine lv_if_eq (tgt := 1459) hx hb dL_law_1454 (by decide) (fun c_1454 => ?_) (fun c_1454 => ?_)
      · skip
        refine lv_goto (tgt := 2707) hx hb dL_law_1459 (by decide) ?_
        exact kk _ _ _ _ _ hI w (lv_sub hl [2, 3, 4, 5, 6, 7] rfl)
      · skip
        exact absurd rfl c_1454
  · skip
    exact absurd (Int32.toInt_inj.mp ((congrArg Int32.toInt ht).trans (m1.trans hz.symm))) c_1437

set_option maxHeartbeats 1000000 in
set_option maxRecDepth 100000 in
theorem law_18 {p : Program} {l : Launch} {e : Env} {s : State} {m : MethodId} {below : List Frame} {meth : Method} {c : Code} {H : Heap} {locs : List Loc} {cells slots : Nat} {Q : State → Prop} {r : Option FieldType} {D : va_G} {t : Nat → ClassId} {b n : Nat} {σ : qM} {sc L : Nat} {xs : Nat → Int32} {ls : Array Slot} {i : Int32} {i0 : Int} (hl0 : l.stackTraces = false) (X : qX p s #[.ref sc] m meth c RL cL_law 9 r D t b) (hE : XK s) (hS : SK b s) (hXs : va_X sc L xs s s.heap) (hbl : sc < s.heap.size) (hbA : ¬ b ≤ sc) (hi : i.toInt = i0) (h0 : 0 ≤ i0 ∧ i0 + 7 ≤ L ∧ L ≤ 3584) (hcs : cells + 8 ≤ 601024 ∧ slots + 1100 ≤ 7293034) (w : qW D b n σ s H locs) (hI : LI t b σ) (hl : lv_has ls 9 [(5, .int i), (0, .ref sc), (1, .ref (b + 0)), (2, .ref (b + 45)), (3, .ref (b + 60)), (4, .ref (b + 61))]) (kk : ∀ (n : Nat) (σ : qM) (H : Heap) (locs : List Loc) (ls : Array Slot), LI t b σ → qW D b n σ s H locs → lv_has ls 9 [(5, .int i), (0, .ref sc), (1, .ref (b + 0)), (2, .ref (b + 45)), (3, .ref (b + 60)), (4, .ref (b + 61))] → W p l e room_1 s m #[.ref sc] below meth c H locs (cells + 8) (slots + 1100) Q (F0 m 2707 ls [])) : W p l e room_1 s m #[.ref sc] below meth c H locs cells slots Q (F0 m 1462 ls []) := by
  have hx := X.1
  have hb := X.2.1
  refine lv_aload_n hx hb dL_law_1462 rfl (lv_at hl 2 rfl) ?_
  refine lv_aload_n hx hb dL_law_1463 rfl (lv_at hl 1 rfl) ?_
  refine lv_iload hx hb dL_law_1464 (lv_at hl 0 rfl) ?_
  refine lv_iconst (v := 1) hx hb dL_law_1466 (by decide) ?_
  refine lv_iadd hx hb dL_law_1467 ?_
  refine lv_topi (fun x_1467 e_1467 => ?_)
  have p_1467 : x_1467.toInt = (i0 + 1) := by rw [e_1467]; exact t_add hi (show (1 : Int32).toInt = 1 from rfl) (by omega) (by omega)
  refine va_sld hx hb hXs hbl hbA w.2.1 (g_in p_1467 (by omega)) dL_law_1468 ?_
  refine q_topE (y := xs (i0 + 1).toNat) (congrArg xs (g_tn p_1467)) ?_
  refine lv_aload_n hx hb dL_law_1469 rfl (lv_at hl 1 rfl) ?_
  refine lv_iload hx hb dL_law_1470 (lv_at hl 0 rfl) ?_
  refine lv_iconst (v := 2) hx hb dL_law_1472 (by decide) ?_
  refine lv_iadd hx hb dL_law_1473 ?_
  refine lv_topi (fun x_1473 e_1473 => ?_)
  have p_1473 : x_1473.toInt = (i0 + 2) := by rw [e_1473]; exact t_add hi (show (2 : Int32).toInt = 2 from rfl) (by omega) (by omega)
  refine va_sld hx hb hXs hbl hbA w.2.1 (g_in p_1473 (by omega)) dL_law_1474 ?_
  refine q_topE (y := xs (i0 + 2).toNat) (congrArg xs (g_tn p_1473)) ?_
  refine lv_aload_n hx hb dL_law_1475 rfl (lv_at hl 1 rfl) ?_
  refine lv_iload hx hb dL_law_1476 (lv_at hl 0 rfl) ?_
  refine lv_iconst (v := 3) hx hb dL_law_1478 (by decide) ?_
  refine lv_iadd hx hb dL_law_1479 ?_
  refine lv_topi (fun x_1479 e_1479 => ?_)
  have p_1479 : x_1479.toInt = (i0 + 3) := by rw [e_1479]; exact t_add hi (show (3 : Int32).toInt = 3 from rfl) (by omega) (by omega)
  refine va_sld hx hb hXs hbl hbA w.2.1 (g_in p_1479 (by omega)) dL_law_1480 ?_
  refine q_topE (y := xs (i0 + 3).toNat) (congrArg xs (g_tn p_1479)) ?_
  refine lv_aload_n hx hb dL_law_1481 rfl (lv_at hl 4 rfl) ?_
  refine q_cL X hE hS w (k_plusYears (l := l) (D := D) hl0 hI (xs (i0 + 1).toNat) (xs (i0 + 2).toNat) (xs (i0 + 3).toNat)) vL_194 rfl ⟨Nat.le_of_ble_eq_true rfl, Nat.le_of_ble_eq_true rfl⟩ rfl hl.1 (Nat.le_of_ble_eq_true rfl) dL_law_1482 (cap8 hcs (by decide) (by decide)) (fun z n2 σ2 H locs hz2 w => ?_)
  refine W.widen (k := cells + 8) (n := slots + 1100) (Nat.add_le_add_left (by decide) _) (Nat.add_le_add_left (by decide) _) ?_
  obtain ⟨cd, vl, hz, ⟨f, hf, hfv⟩, I1, R1, pm, es, hM, hpost⟩ := hz2
  have w : qW D b n2 (mS t b σ2 I1 R1) s H locs := by rw [← es]; exact w
  refine lv_istore (lv' := [(6, .int z), (5, .int i), (0, .ref sc), (1, .ref (b + 0)), (2, .ref (b + 45)), (3, .ref (b + 60)), (4, .ref (b + 61))]) hx hb dL_law_1485 hl (by decide) rfl (fun ls hl => ?_)
  refine lv_aload_n hx hb dL_law_1487 rfl (lv_at hl 4 rfl) ?_
  refine lv_aload_n hx hb dL_law_1488 rfl (lv_at hl 2 rfl) ?_
  refine lv_iload hx hb dL_law_1489 (lv_at hl 1 rfl) ?_
  refine lv_iconst (v := 1) hx hb dL_law_1491 (by decide) ?_
  refine lv_iadd hx hb dL_law_1492 ?_
  refine lv_topi (fun x_1492 e_1492 => ?_)
  have p_1492 : x_1492.toInt = (i0 + 1) := by rw [e_1492]; exact t_add hi (show (1 : Int32).toInt = 1 from rfl) (by omega) (by omega)
  refine va_sld hx hb hXs hbl hbA w.2.1 (g_in p_1492 (by omega)) dL_law_1493 ?_
  refine q_topE (y := xs (i0 + 1).toNat) (congrArg xs (g_tn p_1492)) ?_
  refine lv_aload_n hx hb dL_law_1494 rfl (lv_at hl 2 rfl) ?_
  refine lv_iload hx hb dL_law_1495 (lv_at hl 1 rfl) ?_
  refine lv_iconst (v := 2) hx hb dL_law_1497 (by decide) ?_
  refine lv_iadd hx hb dL_law_1498 ?_
  refine lv_topi (fun x_1498 e_1498 => ?_)
  have p_1498 : x_1498.toInt = (i0 + 2) := by rw [e_1498]; exact t_add hi (show (2 : Int32).toInt = 2 from rfl) (by omega) (by omega)
  refine va_sld hx hb hXs hbl hbA w.2.1 (g_in p_1498 (by omega)) dL_law_1499 ?_
  refine q_topE (y := xs (i0 + 2).toNat) (congrArg xs (g_tn p_1498)) ?_
  refine lv_aload_n hx hb dL_law_1500 rfl (lv_at hl 2 rfl) ?_
  refine lv_iload hx hb dL_law_1501 (lv_at hl 1 rfl) ?_
  refine lv_iconst (v := 3) hx hb dL_law_1503 (by decide) ?_
  refine lv_iadd hx hb dL_law_1504 ?_
  refine lv_topi (fun x_1504 e_1504 => ?_)
  have p_1504 : x_1504.toInt = (i0 + 3) := by rw [e_1504]; exact t_add hi (show (3 : Int32).toInt = 3 from rfl) (by omega) (by omega)
  refine va_sld hx hb hXs hbl hbA w.2.1 (g_in p_1504 (by omega)) dL_law_1505 ?_
  refine q_topE (y := xs (i0 + 3).toNat) (congrArg xs (g_tn p_1504)) ?_
  refine mm_cC X w hM vL_196 rfl rfl ⟨Nat.le_of_ble_eq_true rfl, Nat.le_of_ble_eq_true rfl⟩ rfl hl.1 (Nat.le_of_ble_eq_true rfl) dL_law_1506 hcs (fun y I2 R2 H locs hp2 w => ?_)
  obtain ⟨m1, m2, hI⟩ := hpost y I2 R2 hp2
  refine lv_istore (lv' := [(7, .int y), (6, .int z), (5, .int i), (0, .ref sc), (1, .ref (b + 0)), (2, .ref (b + 45)), (3, .ref (b + 60)), (4, .ref (b + 61))]) hx hb dL_law_1509 hl (by decide) rfl (fun ls hl => ?_)
  refine lv_aload_n hx hb dL_law_1511 rfl (lv_at hl 5 rfl) ?_
  refine q_cPV X w (c_X9_thrown l D t b _ _ I2 R2) vL_134 (k := 45) rfl rfl rfl ⟨Nat.le_of_ble_eq_true rfl, Nat.le_of_ble_eq_true rfl⟩ rfl hl.1 (Nat.le_of_ble_eq_true rfl) dL_law_1512 hcs (fun th ht => ?_)
  refine lv_iload hx hb dL_law_1515 (lv_at hl 1 rfl) ?_
  refine lv_icmp_eq (tgt := 1522) hx hb dL_law_1517 (by decide) (fun c_1517 => ?_) (fun c_1517 => ?_)
  · skip
    refine lv_iload hx hb dL_law_1522 (lv_at hl 1 rfl) ?_
    refine lv_if_ne (tgt := 1539) hx hb dL_law_1524 (by decide) (fun c_1524 => ?_) (fun c_1524 => ?_)
    · skip
      refine lv_goto (tgt := 2707) hx hb dL_law_1539 (by decide) ?_
      exact kk _ _ _ _ _ hI w (lv_sub hl [2, 3, 4, 5, 6, 7] rfl)
    · skip
      have hcd : cd = 0 := by rw [← hz, c_1524]; rfl
      refine lv_aload_n hx hb dL_law_1527 rfl (lv_at hl 6 rfl) ?_
      refine lv_iconst (v := 0) hx hb dL_law_1528 (by decide) ?_
      refine q_lald X w (k := 60) (f := f) ((mS_off (I2 := I2) (R2 := R2) (by omega)).trans hf) (i := 0) (by unfold vp_in; decide) dL_law_1529 ?_
      refine lv_iload hx hb dL_law_1530 (lv_at hl 0 rfl) ?_
      refine lv_i2l (v := y.toInt64) hx hb dL_law_1532 rfl ?_
      refine W.lcmp hx hb dL_law_1533 ?_
      refine q_topE (y := 0) (lcz (hfv hcd) (m2 hcd)) ?_
      refine lv_if_eq (tgt := 1539) hx hb dL_law_1534 (by decide) (fun c_1534 => ?_) (fun c_1534 => ?_)
      · skip
        refine lv_goto (tgt := 2707) hx hb dL_law_1539 (by decide) ?_
        exact kk _ _ _ _ _ hI w (lv_sub hl [2, 3, 4, 5, 6, 7] rfl)
      · skip
        exact absurd rfl c_1534
  · skip
    exact absurd (Int32.toInt_inj.mp ((congrArg Int32.toInt ht).trans (m1.trans hz.symm))) c_1517

set_option maxHeartbeats 1000000 in
set_option maxRecDepth 100000 in
theorem law_19 {p : Program} {l : Launch} {e : Env} {s : State} {m : MethodId} {below : List Frame} {meth : Method} {c : Code} {H : Heap} {locs : List Loc} {cells slots : Nat} {Q : State → Prop} {r : Option FieldType} {D : va_G} {t : Nat → ClassId} {b n : Nat} {σ : qM} {sc L : Nat} {xs : Nat → Int32} {ls : Array Slot} {i : Int32} {i0 : Int} (hl0 : l.stackTraces = false) (X : qX p s #[.ref sc] m meth c RL cL_law 9 r D t b) (hE : XK s) (hS : SK b s) (hXs : va_X sc L xs s s.heap) (hbl : sc < s.heap.size) (hbA : ¬ b ≤ sc) (hi : i.toInt = i0) (h0 : 0 ≤ i0 ∧ i0 + 7 ≤ L ∧ L ≤ 3584) (hcs : cells + 8 ≤ 601024 ∧ slots + 1100 ≤ 7293034) (w : qW D b n σ s H locs) (hI : LI t b σ) (hl : lv_has ls 9 [(5, .int i), (0, .ref sc), (1, .ref (b + 0)), (2, .ref (b + 45)), (3, .ref (b + 60)), (4, .ref (b + 61))]) (kk : ∀ (n : Nat) (σ : qM) (H : Heap) (locs : List Loc) (ls : Array Slot), LI t b σ → qW D b n σ s H locs → lv_has ls 9 [(5, .int i), (0, .ref sc), (1, .ref (b + 0)), (2, .ref (b + 45)), (3, .ref (b + 60)), (4, .ref (b + 61))] → W p l e room_1 s m #[.ref sc] below meth c H locs (cells + 8) (slots + 1100) Q (F0 m 2707 ls [])) : W p l e room_1 s m #[.ref sc] below meth c H locs cells slots Q (F0 m 1542 ls []) := by
  have hx := X.1
  have hb := X.2.1
  refine lv_aload_n hx hb dL_law_1542 rfl (lv_at hl 2 rfl) ?_
  refine lv_aload_n hx hb dL_law_1543 rfl (lv_at hl 1 rfl) ?_
  refine lv_iload hx hb dL_law_1544 (lv_at hl 0 rfl) ?_
  refine lv_iconst (v := 1) hx hb dL_law_1546 (by decide) ?_
  refine lv_iadd hx hb dL_law_1547 ?_
  refine lv_topi (fun x_1547 e_1547 => ?_)
  have p_1547 : x_1547.toInt = (i0 + 1) := by rw [e_1547]; exact t_add hi (show (1 : Int32).toInt = 1 from rfl) (by omega) (by omega)
  refine va_sld hx hb hXs hbl hbA w.2.1 (g_in p_1547 (by omega)) dL_law_1548 ?_
  refine q_topE (y := xs (i0 + 1).toNat) (congrArg xs (g_tn p_1547)) ?_
  refine lv_aload_n hx hb dL_law_1549 rfl (lv_at hl 1 rfl) ?_
  refine lv_iload hx hb dL_law_1550 (lv_at hl 0 rfl) ?_
  refine lv_iconst (v := 2) hx hb dL_law_1552 (by decide) ?_
  refine lv_iadd hx hb dL_law_1553 ?_
  refine lv_topi (fun x_1553 e_1553 => ?_)
  have p_1553 : x_1553.toInt = (i0 + 2) := by rw [e_1553]; exact t_add hi (show (2 : Int32).toInt = 2 from rfl) (by omega) (by omega)
  refine va_sld hx hb hXs hbl hbA w.2.1 (g_in p_1553 (by omega)) dL_law_1554 ?_
  refine q_topE (y := xs (i0 + 2).toNat) (congrArg xs (g_tn p_1553)) ?_
  refine lv_aload_n hx hb dL_law_1555 rfl (lv_at hl 1 rfl) ?_
  refine lv_iload hx hb dL_law_1556 (lv_at hl 0 rfl) ?_
  refine lv_iconst (v := 3) hx hb dL_law_1558 (by decide) ?_
  refine lv_iadd hx hb dL_law_1559 ?_
  refine lv_topi (fun x_1559 e_1559 => ?_)
  have p_1559 : x_1559.toInt = (i0 + 3) := by rw [e_1559]; exact t_add hi (show (3 : Int32).toInt = 3 from rfl) (by omega) (by omega)
  refine va_sld hx hb hXs hbl hbA w.2.1 (g_in p_1559 (by omega)) dL_law_1560 ?_
  refine q_topE (y := xs (i0 + 3).toNat) (congrArg xs (g_tn p_1559)) ?_
  refine lv_aload_n hx hb dL_law_1561 rfl (lv_at hl 1 rfl) ?_
  refine lv_iload hx hb dL_law_1562 (lv_at hl 0 rfl) ?_
  refine lv_iconst (v := 4) hx hb dL_law_1564 (by decide) ?_
  refine lv_iadd hx hb dL_law_1565 ?_
  refine lv_topi (fun x_1565 e_1565 => ?_)
  have p_1565 : x_1565.toInt = (i0 + 4) := by rw [e_1565]; exact t_add hi (show (4 : Int32).toInt = 4 from rfl) (by omega) (by omega)
  refine va_sld hx hb hXs hbl hbA w.2.1 (g_in p_1565 (by omega)) dL_law_1566 ?_
  refine q_topE (y := xs (i0 + 4).toNat) (congrArg xs (g_tn p_1565)) ?_
  refine lv_aload_n hx hb dL_law_1567 rfl (lv_at hl 4 rfl) ?_
  refine q_cL X hE hS w (k_span (l := l) (D := D) hl0 hI (xs (i0 + 1).toNat) (xs (i0 + 2).toNat) (xs (i0 + 3).toNat) (xs (i0 + 4).toNat)) vL_197 rfl ⟨Nat.le_of_ble_eq_true rfl, Nat.le_of_ble_eq_true rfl⟩ rfl hl.1 (Nat.le_of_ble_eq_true rfl) dL_law_1568 (cap8 hcs (by decide) (by decide)) (fun z n2 σ2 H locs hz2 w => ?_)
  refine W.widen (k := cells + 8) (n := slots + 1100) (Nat.add_le_add_left (by decide) _) (Nat.add_le_add_left (by decide) _) ?_
  obtain ⟨cd, vl, hz, ⟨f, hf, hfv⟩, I1, R1, pm, es, hM, hpost⟩ := hz2
  have w : qW D b n2 (mS t b σ2 I1 R1) s H locs := by rw [← es]; exact w
  refine lv_istore (lv' := [(6, .int z), (5, .int i), (0, .ref sc), (1, .ref (b + 0)), (2, .ref (b + 45)), (3, .ref (b + 60)), (4, .ref (b + 61))]) hx hb dL_law_1571 hl (by decide) rfl (fun ls hl => ?_)
  refine lv_aload_n hx hb dL_law_1573 rfl (lv_at hl 4 rfl) ?_
  refine lv_aload_n hx hb dL_law_1574 rfl (lv_at hl 2 rfl) ?_
  refine lv_iload hx hb dL_law_1575 (lv_at hl 1 rfl) ?_
  refine lv_iconst (v := 1) hx hb dL_law_1577 (by decide) ?_
  refine lv_iadd hx hb dL_law_1578 ?_
  refine lv_topi (fun x_1578 e_1578 => ?_)
  have p_1578 : x_1578.toInt = (i0 + 1) := by rw [e_1578]; exact t_add hi (show (1 : Int32).toInt = 1 from rfl) (by omega) (by omega)
  refine va_sld hx hb hXs hbl hbA w.2.1 (g_in p_1578 (by omega)) dL_law_1579 ?_
  refine q_topE (y := xs (i0 + 1).toNat) (congrArg xs (g_tn p_1578)) ?_
  refine lv_aload_n hx hb dL_law_1580 rfl (lv_at hl 2 rfl) ?_
  refine lv_iload hx hb dL_law_1581 (lv_at hl 1 rfl) ?_
  refine lv_iconst (v := 2) hx hb dL_law_1583 (by decide) ?_
  refine lv_iadd hx hb dL_law_1584 ?_
  refine lv_topi (fun x_1584 e_1584 => ?_)
  have p_1584 : x_1584.toInt = (i0 + 2) := by rw [e_1584]; exact t_add hi (show (2 : Int32).toInt = 2 from rfl) (by omega) (by omega)
  refine va_sld hx hb hXs hbl hbA w.2.1 (g_in p_1584 (by omega)) dL_law_1585 ?_
  refine q_topE (y := xs (i0 + 2).toNat) (congrArg xs (g_tn p_1584)) ?_
  refine lv_aload_n hx hb dL_law_1586 rfl (lv_at hl 2 rfl) ?_
  refine lv_iload hx hb dL_law_1587 (lv_at hl 1 rfl) ?_
  refine lv_iconst (v := 3) hx hb dL_law_1589 (by decide) ?_
  refine lv_iadd hx hb dL_law_1590 ?_
  refine lv_topi (fun x_1590 e_1590 => ?_)
  have p_1590 : x_1590.toInt = (i0 + 3) := by rw [e_1590]; exact t_add hi (show (3 : Int32).toInt = 3 from rfl) (by omega) (by omega)
  refine va_sld hx hb hXs hbl hbA w.2.1 (g_in p_1590 (by omega)) dL_law_1591 ?_
  refine q_topE (y := xs (i0 + 3).toNat) (congrArg xs (g_tn p_1590)) ?_
  refine lv_aload_n hx hb dL_law_1592 rfl (lv_at hl 2 rfl) ?_
  refine lv_iload hx hb dL_law_1593 (lv_at hl 1 rfl) ?_
  refine lv_iconst (v := 4) hx hb dL_law_1595 (by decide) ?_
  refine lv_iadd hx hb dL_law_1596 ?_
  refine lv_topi (fun x_1596 e_1596 => ?_)
  have p_1596 : x_1596.toInt = (i0 + 4) := by rw [e_1596]; exact t_add hi (show (4 : Int32).toInt = 4 from rfl) (by omega) (by omega)
  refine va_sld hx hb hXs hbl hbA w.2.1 (g_in p_1596 (by omega)) dL_law_1597 ?_
  refine q_topE (y := xs (i0 + 4).toNat) (congrArg xs (g_tn p_1596)) ?_
  refine mm_cC X w hM vL_199 rfl rfl ⟨Nat.le_of_ble_eq_true rfl, Nat.le_of_ble_eq_true rfl⟩ rfl hl.1 (Nat.le_of_ble_eq_true rfl) dL_law_1598 hcs (fun y I2 R2 H locs hp2 w => ?_)
  obtain ⟨m1, m2, hI⟩ := hpost y I2 R2 hp2
  refine lv_istore (lv' := [(7, .int y), (6, .int z), (5, .int i), (0, .ref sc), (1, .ref (b + 0)), (2, .ref (b + 45)), (3, .ref (b + 60)), (4, .ref (b + 61))]) hx hb dL_law_1601 hl (by decide) rfl (fun ls hl => ?_)
  refine lv_aload_n hx hb dL_law_1603 rfl (lv_at hl 5 rfl) ?_
  refine q_cPV X w (c_X9_thrown l D t b _ _ I2 R2) vL_134 (k := 45) rfl rfl rfl ⟨Nat.le_of_ble_eq_true rfl, Nat.le_of_ble_eq_true rfl⟩ rfl hl.1 (Nat.le_of_ble_eq_true rfl) dL_law_1604 hcs (fun th ht => ?_)
  refine lv_iload hx hb dL_law_1607 (lv_at hl 1 rfl) ?_
  refine lv_icmp_eq (tgt := 1614) hx hb dL_law_1609 (by decide) (fun c_1609 => ?_) (fun c_1609 => ?_)
  · skip
    refine lv_iload hx hb dL_law_1614 (lv_at hl 1 rfl) ?_
    refine lv_if_ne (tgt := 1631) hx hb dL_law_1616 (by decide) (fun c_1616 => ?_) (fun c_1616 => ?_)
    · skip
      refine lv_goto (tgt := 2707) hx hb dL_law_1631 (by decide) ?_
      exact kk _ _ _ _ _ hI w (lv_sub hl [2, 3, 4, 5, 6, 7] rfl)
    · skip
      have hcd : cd = 0 := by rw [← hz, c_1616]; rfl
      refine lv_aload_n hx hb dL_law_1619 rfl (lv_at hl 6 rfl) ?_
      refine lv_iconst (v := 0) hx hb dL_law_1620 (by decide) ?_
      refine q_lald X w (k := 60) (f := f) ((mS_off (I2 := I2) (R2 := R2) (by omega)).trans hf) (i := 0) (by unfold vp_in; decide) dL_law_1621 ?_
      refine lv_iload hx hb dL_law_1622 (lv_at hl 0 rfl) ?_
      refine lv_i2l (v := y.toInt64) hx hb dL_law_1624 rfl ?_
      refine W.lcmp hx hb dL_law_1625 ?_
      refine q_topE (y := 0) (lcz (hfv hcd) (m2 hcd)) ?_
      refine lv_if_eq (tgt := 1631) hx hb dL_law_1626 (by decide) (fun c_1626 => ?_) (fun c_1626 => ?_)
      · skip
        refine lv_goto (tgt := 2707) hx hb dL_law_1631 (by decide) ?_
        exact kk _ _ _ _ _ hI w (lv_sub hl [2, 3, 4, 5, 6, 7] rfl)
      · skip
        exact absurd rfl c_1626
  · skip
    exact absurd (Int32.toInt_inj.mp ((congrArg Int32.toInt ht).trans (m1.trans hz.symm))) c_1609

set_option maxHeartbeats 1000000 in
set_option maxRecDepth 100000 in
theorem law_20 {p : Program} {l : Launch} {e : Env} {s : State} {m : MethodId} {below : List Frame} {meth : Method} {c : Code} {H : Heap} {locs : List Loc} {cells slots : Nat} {Q : State → Prop} {r : Option FieldType} {D : va_G} {t : Nat → ClassId} {b n : Nat} {σ : qM} {sc L : Nat} {xs : Nat → Int32} {ls : Array Slot} {i : Int32} {i0 : Int} (hl0 : l.stackTraces = false) (X : qX p s #[.ref sc] m meth c RL cL_law 9 r D t b) (hE : XK s) (hS : SK b s) (hXs : va_X sc L xs s s.heap) (hbl : sc < s.heap.size) (hbA : ¬ b ≤ sc) (hi : i.toInt = i0) (h0 : 0 ≤ i0 ∧ i0 + 7 ≤ L ∧ L ≤ 3584) (hcs : cells + 8 ≤ 601024 ∧ slots + 1100 ≤ 7293034) (w : qW D b n σ s H locs) (hI : LI t b σ) (hl : lv_has ls 9 [(5, .int i), (0, .ref sc), (1, .ref (b + 0)), (2, .ref (b + 45)), (3, .ref (b + 60)), (4, .ref (b + 61))]) (kk : ∀ (n : Nat) (σ : qM) (H : Heap) (locs : List Loc) (ls : Array Slot), LI t b σ → qW D b n σ s H locs → lv_has ls 9 [(5, .int i), (0, .ref sc), (1, .ref (b + 0)), (2, .ref (b + 45)), (3, .ref (b + 60)), (4, .ref (b + 61))] → W p l e room_1 s m #[.ref sc] below meth c H locs (cells + 8) (slots + 1100) Q (F0 m 2707 ls [])) : W p l e room_1 s m #[.ref sc] below meth c H locs cells slots Q (F0 m 1634 ls []) := by
  have hx := X.1
  have hb := X.2.1
  refine lv_aload_n hx hb dL_law_1634 rfl (lv_at hl 2 rfl) ?_
  refine lv_aload_n hx hb dL_law_1635 rfl (lv_at hl 1 rfl) ?_
  refine lv_iload hx hb dL_law_1636 (lv_at hl 0 rfl) ?_
  refine lv_iconst (v := 1) hx hb dL_law_1638 (by decide) ?_
  refine lv_iadd hx hb dL_law_1639 ?_
  refine lv_topi (fun x_1639 e_1639 => ?_)
  have p_1639 : x_1639.toInt = (i0 + 1) := by rw [e_1639]; exact t_add hi (show (1 : Int32).toInt = 1 from rfl) (by omega) (by omega)
  refine va_sld hx hb hXs hbl hbA w.2.1 (g_in p_1639 (by omega)) dL_law_1640 ?_
  refine q_topE (y := xs (i0 + 1).toNat) (congrArg xs (g_tn p_1639)) ?_
  refine lv_aload_n hx hb dL_law_1641 rfl (lv_at hl 1 rfl) ?_
  refine lv_iload hx hb dL_law_1642 (lv_at hl 0 rfl) ?_
  refine lv_iconst (v := 2) hx hb dL_law_1644 (by decide) ?_
  refine lv_iadd hx hb dL_law_1645 ?_
  refine lv_topi (fun x_1645 e_1645 => ?_)
  have p_1645 : x_1645.toInt = (i0 + 2) := by rw [e_1645]; exact t_add hi (show (2 : Int32).toInt = 2 from rfl) (by omega) (by omega)
  refine va_sld hx hb hXs hbl hbA w.2.1 (g_in p_1645 (by omega)) dL_law_1646 ?_
  refine q_topE (y := xs (i0 + 2).toNat) (congrArg xs (g_tn p_1645)) ?_
  refine lv_aload_n hx hb dL_law_1647 rfl (lv_at hl 1 rfl) ?_
  refine lv_iload hx hb dL_law_1648 (lv_at hl 0 rfl) ?_
  refine lv_iconst (v := 3) hx hb dL_law_1650 (by decide) ?_
  refine lv_iadd hx hb dL_law_1651 ?_
  refine lv_topi (fun x_1651 e_1651 => ?_)
  have p_1651 : x_1651.toInt = (i0 + 3) := by rw [e_1651]; exact t_add hi (show (3 : Int32).toInt = 3 from rfl) (by omega) (by omega)
  refine va_sld hx hb hXs hbl hbA w.2.1 (g_in p_1651 (by omega)) dL_law_1652 ?_
  refine q_topE (y := xs (i0 + 3).toNat) (congrArg xs (g_tn p_1651)) ?_
  refine lv_aload_n hx hb dL_law_1653 rfl (lv_at hl 1 rfl) ?_
  refine lv_iload hx hb dL_law_1654 (lv_at hl 0 rfl) ?_
  refine lv_iconst (v := 4) hx hb dL_law_1656 (by decide) ?_
  refine lv_iadd hx hb dL_law_1657 ?_
  refine lv_topi (fun x_1657 e_1657 => ?_)
  have p_1657 : x_1657.toInt = (i0 + 4) := by rw [e_1657]; exact t_add hi (show (4 : Int32).toInt = 4 from rfl) (by omega) (by omega)
  refine va_sld hx hb hXs hbl hbA w.2.1 (g_in p_1657 (by omega)) dL_law_1658 ?_
  refine q_topE (y := xs (i0 + 4).toNat) (congrArg xs (g_tn p_1657)) ?_
  refine lv_aload_n hx hb dL_law_1659 rfl (lv_at hl 1 rfl) ?_
  refine lv_iload hx hb dL_law_1660 (lv_at hl 0 rfl) ?_
  refine lv_iconst (v := 5) hx hb dL_law_1662 (by decide) ?_
  refine lv_iadd hx hb dL_law_1663 ?_
  refine lv_topi (fun x_1663 e_1663 => ?_)
  have p_1663 : x_1663.toInt = (i0 + 5) := by rw [e_1663]; exact t_add hi (show (5 : Int32).toInt = 5 from rfl) (by omega) (by omega)
  refine va_sld hx hb hXs hbl hbA w.2.1 (g_in p_1663 (by omega)) dL_law_1664 ?_
  refine q_topE (y := xs (i0 + 5).toNat) (congrArg xs (g_tn p_1663)) ?_
  refine lv_aload_n hx hb dL_law_1665 rfl (lv_at hl 1 rfl) ?_
  refine lv_iload hx hb dL_law_1666 (lv_at hl 0 rfl) ?_
  refine lv_bipush (v := 6) hx hb dL_law_1668 (by decide) ?_
  refine lv_iadd hx hb dL_law_1670 ?_
  refine lv_topi (fun x_1670 e_1670 => ?_)
  have p_1670 : x_1670.toInt = (i0 + 6) := by rw [e_1670]; exact t_add hi (show (6 : Int32).toInt = 6 from rfl) (by omega) (by omega)
  refine va_sld hx hb hXs hbl hbA w.2.1 (g_in p_1670 (by omega)) dL_law_1671 ?_
  refine q_topE (y := xs (i0 + 6).toNat) (congrArg xs (g_tn p_1670)) ?_
  refine lv_aload_n hx hb dL_law_1672 rfl (lv_at hl 4 rfl) ?_
  refine q_cL X hE hS w (k_addFeast (l := l) (D := D) hl0 hI (xs (i0 + 1).toNat) (xs (i0 + 2).toNat) (xs (i0 + 3).toNat) (xs (i0 + 4).toNat) (xs (i0 + 5).toNat) (xs (i0 + 6).toNat)) vL_200 rfl ⟨Nat.le_of_ble_eq_true rfl, Nat.le_of_ble_eq_true rfl⟩ rfl hl.1 (Nat.le_of_ble_eq_true rfl) dL_law_1673 (cap8 hcs (by decide) (by decide)) (fun z n2 σ2 H locs hz2 w => ?_)
  refine W.widen (k := cells + 8) (n := slots + 1100) (Nat.add_le_add_left (by decide) _) (Nat.add_le_add_left (by decide) _) ?_
  obtain ⟨cd, vl, hz, ⟨f, hf, hfv⟩, I1, R1, pm, es, hM, hpost⟩ := hz2
  have w : qW D b n2 (mS t b σ2 I1 R1) s H locs := by rw [← es]; exact w
  refine lv_istore (lv' := [(6, .int z), (5, .int i), (0, .ref sc), (1, .ref (b + 0)), (2, .ref (b + 45)), (3, .ref (b + 60)), (4, .ref (b + 61))]) hx hb dL_law_1676 hl (by decide) rfl (fun ls hl => ?_)
  refine lv_aload_n hx hb dL_law_1678 rfl (lv_at hl 4 rfl) ?_
  refine lv_aload_n hx hb dL_law_1679 rfl (lv_at hl 2 rfl) ?_
  refine lv_iload hx hb dL_law_1680 (lv_at hl 1 rfl) ?_
  refine lv_iconst (v := 1) hx hb dL_law_1682 (by decide) ?_
  refine lv_iadd hx hb dL_law_1683 ?_
  refine lv_topi (fun x_1683 e_1683 => ?_)
  have p_1683 : x_1683.toInt = (i0 + 1) := by rw [e_1683]; exact t_add hi (show (1 : Int32).toInt = 1 from rfl) (by omega) (by omega)
  refine va_sld hx hb hXs hbl hbA w.2.1 (g_in p_1683 (by omega)) dL_law_1684 ?_
  refine q_topE (y := xs (i0 + 1).toNat) (congrArg xs (g_tn p_1683)) ?_
  refine lv_aload_n hx hb dL_law_1685 rfl (lv_at hl 2 rfl) ?_
  refine lv_iload hx hb dL_law_1686 (lv_at hl 1 rfl) ?_
  refine lv_iconst (v := 2) hx hb dL_law_1688 (by decide) ?_
  refine lv_iadd hx hb dL_law_1689 ?_
  refine lv_topi (fun x_1689 e_1689 => ?_)
  have p_1689 : x_1689.toInt = (i0 + 2) := by rw [e_1689]; exact t_add hi (show (2 : Int32).toInt = 2 from rfl) (by omega) (by omega)
  refine va_sld hx hb hXs hbl hbA w.2.1 (g_in p_1689 (by omega)) dL_law_1690 ?_
  refine q_topE (y := xs (i0 + 2).toNat) (congrArg xs (g_tn p_1689)) ?_
  refine lv_aload_n hx hb dL_law_1691 rfl (lv_at hl 2 rfl) ?_
  refine lv_iload hx hb dL_law_1692 (lv_at hl 1 rfl) ?_
  refine lv_iconst (v := 3) hx hb dL_law_1694 (by decide) ?_
  refine lv_iadd hx hb dL_law_1695 ?_
  refine lv_topi (fun x_1695 e_1695 => ?_)
  have p_1695 : x_1695.toInt = (i0 + 3) := by rw [e_1695]; exact t_add hi (show (3 : Int32).toInt = 3 from rfl) (by omega) (by omega)
  refine va_sld hx hb hXs hbl hbA w.2.1 (g_in p_1695 (by omega)) dL_law_1696 ?_
  refine q_topE (y := xs (i0 + 3).toNat) (congrArg xs (g_tn p_1695)) ?_
  refine lv_aload_n hx hb dL_law_1697 rfl (lv_at hl 2 rfl) ?_
  refine lv_iload hx hb dL_law_1698 (lv_at hl 1 rfl) ?_
  refine lv_iconst (v := 4) hx hb dL_law_1700 (by decide) ?_
  refine lv_iadd hx hb dL_law_1701 ?_
  refine lv_topi (fun x_1701 e_1701 => ?_)
  have p_1701 : x_1701.toInt = (i0 + 4) := by rw [e_1701]; exact t_add hi (show (4 : Int32).toInt = 4 from rfl) (by omega) (by omega)
  refine va_sld hx hb hXs hbl hbA w.2.1 (g_in p_1701 (by omega)) dL_law_1702 ?_
  refine q_topE (y := xs (i0 + 4).toNat) (congrArg xs (g_tn p_1701)) ?_
  refine lv_aload_n hx hb dL_law_1703 rfl (lv_at hl 2 rfl) ?_
  refine lv_iload hx hb dL_law_1704 (lv_at hl 1 rfl) ?_
  refine lv_iconst (v := 5) hx hb dL_law_1706 (by decide) ?_
  refine lv_iadd hx hb dL_law_1707 ?_
  refine lv_topi (fun x_1707 e_1707 => ?_)
  have p_1707 : x_1707.toInt = (i0 + 5) := by rw [e_1707]; exact t_add hi (show (5 : Int32).toInt = 5 from rfl) (by omega) (by omega)
  refine va_sld hx hb hXs hbl hbA w.2.1 (g_in p_1707 (by omega)) dL_law_1708 ?_
  refine q_topE (y := xs (i0 + 5).toNat) (congrArg xs (g_tn p_1707)) ?_
  refine lv_aload_n hx hb dL_law_1709 rfl (lv_at hl 2 rfl) ?_
  refine lv_iload hx hb dL_law_1710 (lv_at hl 1 rfl) ?_
  refine lv_bipush (v := 6) hx hb dL_law_1712 (by decide) ?_
  refine lv_iadd hx hb dL_law_1714 ?_
  refine lv_topi (fun x_1714 e_1714 => ?_)
  have p_1714 : x_1714.toInt = (i0 + 6) := by rw [e_1714]; exact t_add hi (show (6 : Int32).toInt = 6 from rfl) (by omega) (by omega)
  refine va_sld hx hb hXs hbl hbA w.2.1 (g_in p_1714 (by omega)) dL_law_1715 ?_
  refine q_topE (y := xs (i0 + 6).toNat) (congrArg xs (g_tn p_1714)) ?_
  refine mm_cC X w hM vL_202 rfl rfl ⟨Nat.le_of_ble_eq_true rfl, Nat.le_of_ble_eq_true rfl⟩ rfl hl.1 (Nat.le_of_ble_eq_true rfl) dL_law_1716 hcs (fun y I2 R2 H locs hp2 w => ?_)
  obtain ⟨m1, m2, hI⟩ := hpost y I2 R2 hp2
  refine lv_istore (lv' := [(7, .int y), (6, .int z), (5, .int i), (0, .ref sc), (1, .ref (b + 0)), (2, .ref (b + 45)), (3, .ref (b + 60)), (4, .ref (b + 61))]) hx hb dL_law_1719 hl (by decide) rfl (fun ls hl => ?_)
  refine lv_aload_n hx hb dL_law_1721 rfl (lv_at hl 5 rfl) ?_
  refine q_cPV X w (c_X9_thrown l D t b _ _ I2 R2) vL_134 (k := 45) rfl rfl rfl ⟨Nat.le_of_ble_eq_true rfl, Nat.le_of_ble_eq_true rfl⟩ rfl hl.1 (Nat.le_of_ble_eq_true rfl) dL_law_1722 hcs (fun th ht => ?_)
  refine lv_iload hx hb dL_law_1725 (lv_at hl 1 rfl) ?_
  refine lv_icmp_eq (tgt := 1732) hx hb dL_law_1727 (by decide) (fun c_1727 => ?_) (fun c_1727 => ?_)
  · skip
    refine lv_iload hx hb dL_law_1732 (lv_at hl 1 rfl) ?_
    refine lv_if_ne (tgt := 1749) hx hb dL_law_1734 (by decide) (fun c_1734 => ?_) (fun c_1734 => ?_)
    · skip
      refine lv_goto (tgt := 2707) hx hb dL_law_1749 (by decide) ?_
      exact kk _ _ _ _ _ hI w (lv_sub hl [2, 3, 4, 5, 6, 7] rfl)
    · skip
      have hcd : cd = 0 := by rw [← hz, c_1734]; rfl
      refine lv_aload_n hx hb dL_law_1737 rfl (lv_at hl 6 rfl) ?_
      refine lv_iconst (v := 0) hx hb dL_law_1738 (by decide) ?_
      refine q_lald X w (k := 60) (f := f) ((mS_off (I2 := I2) (R2 := R2) (by omega)).trans hf) (i := 0) (by unfold vp_in; decide) dL_law_1739 ?_
      refine lv_iload hx hb dL_law_1740 (lv_at hl 0 rfl) ?_
      refine lv_i2l (v := y.toInt64) hx hb dL_law_1742 rfl ?_
      refine W.lcmp hx hb dL_law_1743 ?_
      refine q_topE (y := 0) (lcz (hfv hcd) (m2 hcd)) ?_
      refine lv_if_eq (tgt := 1749) hx hb dL_law_1744 (by decide) (fun c_1744 => ?_) (fun c_1744 => ?_)
      · skip
        refine lv_goto (tgt := 2707) hx hb dL_law_1749 (by decide) ?_
        exact kk _ _ _ _ _ hI w (lv_sub hl [2, 3, 4, 5, 6, 7] rfl)
      · skip
        exact absurd rfl c_1744
  · skip
    exact absurd (Int32.toInt_inj.mp ((congrArg Int32.toInt ht).trans (m1.trans hz.symm))) c_1727

set_option maxHeartbeats 1000000 in
set_option maxRecDepth 100000 in
theorem law_21 {p : Program} {l : Launch} {e : Env} {s : State} {m : MethodId} {below : List Frame} {meth : Method} {c : Code} {H : Heap} {locs : List Loc} {cells slots : Nat} {Q : State → Prop} {r : Option FieldType} {D : va_G} {t : Nat → ClassId} {b n : Nat} {σ : qM} {sc L : Nat} {xs : Nat → Int32} {ls : Array Slot} {i : Int32} {i0 : Int} (hl0 : l.stackTraces = false) (X : qX p s #[.ref sc] m meth c RL cL_law 9 r D t b) (hE : XK s) (hS : SK b s) (hXs : va_X sc L xs s s.heap) (hbl : sc < s.heap.size) (hbA : ¬ b ≤ sc) (hi : i.toInt = i0) (h0 : 0 ≤ i0 ∧ i0 + 7 ≤ L ∧ L ≤ 3584) (hcs : cells + 8 ≤ 601024 ∧ slots + 1100 ≤ 7293034) (w : qW D b n σ s H locs) (hI : LI t b σ) (hl : lv_has ls 9 [(5, .int i), (0, .ref sc), (1, .ref (b + 0)), (2, .ref (b + 45)), (3, .ref (b + 60)), (4, .ref (b + 61))]) (kk : ∀ (n : Nat) (σ : qM) (H : Heap) (locs : List Loc) (ls : Array Slot), LI t b σ → qW D b n σ s H locs → lv_has ls 9 [(5, .int i), (0, .ref sc), (1, .ref (b + 0)), (2, .ref (b + 45)), (3, .ref (b + 60)), (4, .ref (b + 61))] → W p l e room_1 s m #[.ref sc] below meth c H locs (cells + 8) (slots + 1100) Q (F0 m 2707 ls [])) : W p l e room_1 s m #[.ref sc] below meth c H locs cells slots Q (F0 m 1752 ls []) := by
  have hx := X.1
  have hb := X.2.1
  refine lv_aload_n hx hb dL_law_1752 rfl (lv_at hl 2 rfl) ?_
  refine lv_aload_n hx hb dL_law_1753 rfl (lv_at hl 4 rfl) ?_
  refine q_cL X hE hS w (k_removeFeast (l := l) (D := D) hl0 hI ) vL_203 rfl ⟨Nat.le_of_ble_eq_true rfl, Nat.le_of_ble_eq_true rfl⟩ rfl hl.1 (Nat.le_of_ble_eq_true rfl) dL_law_1754 (cap8 hcs (by decide) (by decide)) (fun z n2 σ2 H locs hz2 w => ?_)
  refine W.widen (k := cells + 8) (n := slots + 1100) (Nat.add_le_add_left (by decide) _) (Nat.add_le_add_left (by decide) _) ?_
  obtain ⟨cd, vl, hz, ⟨f, hf, hfv⟩, I1, R1, pm, es, hM, hpost⟩ := hz2
  have w : qW D b n2 (mS t b σ2 I1 R1) s H locs := by rw [← es]; exact w
  refine lv_istore (lv' := [(6, .int z), (5, .int i), (0, .ref sc), (1, .ref (b + 0)), (2, .ref (b + 45)), (3, .ref (b + 60)), (4, .ref (b + 61))]) hx hb dL_law_1757 hl (by decide) rfl (fun ls hl => ?_)
  refine lv_aload_n hx hb dL_law_1759 rfl (lv_at hl 4 rfl) ?_
  refine mm_cC X w hM vL_206 rfl rfl ⟨Nat.le_of_ble_eq_true rfl, Nat.le_of_ble_eq_true rfl⟩ rfl hl.1 (Nat.le_of_ble_eq_true rfl) dL_law_1760 hcs (fun y I2 R2 H locs hp2 w => ?_)
  obtain ⟨m1, m2, hI⟩ := hpost y I2 R2 hp2
  refine lv_istore (lv' := [(7, .int y), (6, .int z), (5, .int i), (0, .ref sc), (1, .ref (b + 0)), (2, .ref (b + 45)), (3, .ref (b + 60)), (4, .ref (b + 61))]) hx hb dL_law_1763 hl (by decide) rfl (fun ls hl => ?_)
  refine lv_aload_n hx hb dL_law_1765 rfl (lv_at hl 5 rfl) ?_
  refine q_cPV X w (c_X9_thrown l D t b _ _ I2 R2) vL_134 (k := 45) rfl rfl rfl ⟨Nat.le_of_ble_eq_true rfl, Nat.le_of_ble_eq_true rfl⟩ rfl hl.1 (Nat.le_of_ble_eq_true rfl) dL_law_1766 hcs (fun th ht => ?_)
  refine lv_iload hx hb dL_law_1769 (lv_at hl 1 rfl) ?_
  refine lv_icmp_eq (tgt := 1776) hx hb dL_law_1771 (by decide) (fun c_1771 => ?_) (fun c_1771 => ?_)
  · skip
    refine lv_iload hx hb dL_law_1776 (lv_at hl 1 rfl) ?_
    refine lv_if_ne (tgt := 1793) hx hb dL_law_1778 (by decide) (fun c_1778 => ?_) (fun c_1778 => ?_)
    · skip
      refine lv_goto (tgt := 2707) hx hb dL_law_1793 (by decide) ?_
      exact kk _ _ _ _ _ hI w (lv_sub hl [2, 3, 4, 5, 6, 7] rfl)
    · skip
      have hcd : cd = 0 := by rw [← hz, c_1778]; rfl
      refine lv_aload_n hx hb dL_law_1781 rfl (lv_at hl 6 rfl) ?_
      refine lv_iconst (v := 0) hx hb dL_law_1782 (by decide) ?_
      refine q_lald X w (k := 60) (f := f) ((mS_off (I2 := I2) (R2 := R2) (by omega)).trans hf) (i := 0) (by unfold vp_in; decide) dL_law_1783 ?_
      refine lv_iload hx hb dL_law_1784 (lv_at hl 0 rfl) ?_
      refine lv_i2l (v := y.toInt64) hx hb dL_law_1786 rfl ?_
      refine W.lcmp hx hb dL_law_1787 ?_
      refine q_topE (y := 0) (lcz (hfv hcd) (m2 hcd)) ?_
      refine lv_if_eq (tgt := 1793) hx hb dL_law_1788 (by decide) (fun c_1788 => ?_) (fun c_1788 => ?_)
      · skip
        refine lv_goto (tgt := 2707) hx hb dL_law_1793 (by decide) ?_
        exact kk _ _ _ _ _ hI w (lv_sub hl [2, 3, 4, 5, 6, 7] rfl)
      · skip
        exact absurd rfl c_1788
  · skip
    exact absurd (Int32.toInt_inj.mp ((congrArg Int32.toInt ht).trans (m1.trans hz.symm))) c_1771

set_option maxHeartbeats 1000000 in
set_option maxRecDepth 100000 in
theorem law_22 {p : Program} {l : Launch} {e : Env} {s : State} {m : MethodId} {below : List Frame} {meth : Method} {c : Code} {H : Heap} {locs : List Loc} {cells slots : Nat} {Q : State → Prop} {r : Option FieldType} {D : va_G} {t : Nat → ClassId} {b n : Nat} {σ : qM} {sc L : Nat} {xs : Nat → Int32} {ls : Array Slot} {i : Int32} {i0 : Int} (hl0 : l.stackTraces = false) (X : qX p s #[.ref sc] m meth c RL cL_law 9 r D t b) (hE : XK s) (hS : SK b s) (hXs : va_X sc L xs s s.heap) (hbl : sc < s.heap.size) (hbA : ¬ b ≤ sc) (hi : i.toInt = i0) (h0 : 0 ≤ i0 ∧ i0 + 7 ≤ L ∧ L ≤ 3584) (hcs : cells + 8 ≤ 601024 ∧ slots + 1100 ≤ 7293034) (w : qW D b n σ s H locs) (hI : LI t b σ) (hl : lv_has ls 9 [(5, .int i), (0, .ref sc), (1, .ref (b + 0)), (2, .ref (b + 45)), (3, .ref (b + 60)), (4, .ref (b + 61))]) (kk : ∀ (n : Nat) (σ : qM) (H : Heap) (locs : List Loc) (ls : Array Slot), LI t b σ → qW D b n σ s H locs → lv_has ls 9 [(5, .int i), (0, .ref sc), (1, .ref (b + 0)), (2, .ref (b + 45)), (3, .ref (b + 60)), (4, .ref (b + 61))] → W p l e room_1 s m #[.ref sc] below meth c H locs (cells + 8) (slots + 1100) Q (F0 m 2707 ls [])) : W p l e room_1 s m #[.ref sc] below meth c H locs cells slots Q (F0 m 1796 ls []) := by
  have hx := X.1
  have hb := X.2.1
  refine lv_aload_n hx hb dL_law_1796 rfl (lv_at hl 2 rfl) ?_
  obtain ⟨fs0, h0c⟩ := hI.c0
  refine W.widen (k := cells + 8) (n := slots + 1100) (Nat.le_add_right _ _) (Nat.le_add_right _ _) ?_
  obtain ⟨px, vl, hP, hv, I1, R1, pm, es, hM, hpost⟩ := d_feastCount (l := l) (D := D) (n := n) hI
  refine q_cPV X w hP vL_207 (k := 0) h0c rfl rfl ⟨Nat.le_of_ble_eq_true rfl, Nat.le_of_ble_eq_true rfl⟩ rfl hl.1 (Nat.le_of_ble_eq_true rfl) dL_law_1797 hcs (fun z hz2 => ?_)
  have hz := hv z hz2
  have w : qW D b n (mS t b σ I1 R1) s H locs := by rw [← es]; exact w
  refine lv_aload_n hx hb dL_law_1800 rfl (lv_at hl 3 rfl) ?_
  refine mm_cC X w hM vL_210 rfl rfl ⟨Nat.le_of_ble_eq_true rfl, Nat.le_of_ble_eq_true rfl⟩ rfl hl.1 (Nat.le_of_ble_eq_true rfl) dL_law_1801 hcs (fun y I2 R2 H locs hp2 w => ?_)
  obtain ⟨m1, m2, hI⟩ := hpost y I2 R2 hp2
  refine lv_icmp_eq (tgt := 2707) hx hb dL_law_1804 (by decide) (fun c_1804 => ?_) (fun c_1804 => ?_)
  · skip
    exact kk _ _ _ _ _ hI w (lv_sub hl [0, 1, 2, 3, 4, 5] rfl)
  · skip
    exact absurd (Int32.toInt_inj.mp (hz.trans (m2 rfl).symm)) c_1804

set_option maxHeartbeats 1000000 in
set_option maxRecDepth 100000 in
theorem law_23 {p : Program} {l : Launch} {e : Env} {s : State} {m : MethodId} {below : List Frame} {meth : Method} {c : Code} {H : Heap} {locs : List Loc} {cells slots : Nat} {Q : State → Prop} {r : Option FieldType} {D : va_G} {t : Nat → ClassId} {b n : Nat} {σ : qM} {sc L : Nat} {xs : Nat → Int32} {ls : Array Slot} {i : Int32} {i0 : Int} (hl0 : l.stackTraces = false) (X : qX p s #[.ref sc] m meth c RL cL_law 9 r D t b) (hE : XK s) (hS : SK b s) (hXs : va_X sc L xs s s.heap) (hbl : sc < s.heap.size) (hbA : ¬ b ≤ sc) (hi : i.toInt = i0) (h0 : 0 ≤ i0 ∧ i0 + 7 ≤ L ∧ L ≤ 3584) (hcs : cells + 8 ≤ 601024 ∧ slots + 1100 ≤ 7293034) (w : qW D b n σ s H locs) (hI : LI t b σ) (hl : lv_has ls 9 [(5, .int i), (0, .ref sc), (1, .ref (b + 0)), (2, .ref (b + 45)), (3, .ref (b + 60)), (4, .ref (b + 61))]) (kk : ∀ (n : Nat) (σ : qM) (H : Heap) (locs : List Loc) (ls : Array Slot), LI t b σ → qW D b n σ s H locs → lv_has ls 9 [(5, .int i), (0, .ref sc), (1, .ref (b + 0)), (2, .ref (b + 45)), (3, .ref (b + 60)), (4, .ref (b + 61))] → W p l e room_1 s m #[.ref sc] below meth c H locs (cells + 8) (slots + 1100) Q (F0 m 2707 ls [])) : W p l e room_1 s m #[.ref sc] below meth c H locs cells slots Q (F0 m 1809 ls []) := by
  have hx := X.1
  have hb := X.2.1
  refine lv_aload_n hx hb dL_law_1809 rfl (lv_at hl 2 rfl) ?_
  refine lv_aload_n hx hb dL_law_1810 rfl (lv_at hl 1 rfl) ?_
  refine lv_iload hx hb dL_law_1811 (lv_at hl 0 rfl) ?_
  refine lv_iconst (v := 1) hx hb dL_law_1813 (by decide) ?_
  refine lv_iadd hx hb dL_law_1814 ?_
  refine lv_topi (fun x_1814 e_1814 => ?_)
  have p_1814 : x_1814.toInt = (i0 + 1) := by rw [e_1814]; exact t_add hi (show (1 : Int32).toInt = 1 from rfl) (by omega) (by omega)
  refine va_sld hx hb hXs hbl hbA w.2.1 (g_in p_1814 (by omega)) dL_law_1815 ?_
  refine q_topE (y := xs (i0 + 1).toNat) (congrArg xs (g_tn p_1814)) ?_
  refine lv_aload_n hx hb dL_law_1816 rfl (lv_at hl 1 rfl) ?_
  refine lv_iload hx hb dL_law_1817 (lv_at hl 0 rfl) ?_
  refine lv_iconst (v := 2) hx hb dL_law_1819 (by decide) ?_
  refine lv_iadd hx hb dL_law_1820 ?_
  refine lv_topi (fun x_1820 e_1820 => ?_)
  have p_1820 : x_1820.toInt = (i0 + 2) := by rw [e_1820]; exact t_add hi (show (2 : Int32).toInt = 2 from rfl) (by omega) (by omega)
  refine va_sld hx hb hXs hbl hbA w.2.1 (g_in p_1820 (by omega)) dL_law_1821 ?_
  refine q_topE (y := xs (i0 + 2).toNat) (congrArg xs (g_tn p_1820)) ?_
  refine lv_aload_n hx hb dL_law_1822 rfl (lv_at hl 4 rfl) ?_
  refine q_cL X hE hS w (k_feast (l := l) (D := D) hl0 hI (xs (i0 + 1).toNat) (xs (i0 + 2).toNat)) vL_211 rfl ⟨Nat.le_of_ble_eq_true rfl, Nat.le_of_ble_eq_true rfl⟩ rfl hl.1 (Nat.le_of_ble_eq_true rfl) dL_law_1823 (cap8 hcs (by decide) (by decide)) (fun z n2 σ2 H locs hz2 w => ?_)
  refine W.widen (k := cells + 8) (n := slots + 1100) (Nat.add_le_add_left (by decide) _) (Nat.add_le_add_left (by decide) _) ?_
  obtain ⟨cd, vl, hz, ⟨f, hf, hfv⟩, I1, R1, pm, es, hM, hpost⟩ := hz2
  have w : qW D b n2 (mS t b σ2 I1 R1) s H locs := by rw [← es]; exact w
  refine lv_istore (lv' := [(6, .int z), (5, .int i), (0, .ref sc), (1, .ref (b + 0)), (2, .ref (b + 45)), (3, .ref (b + 60)), (4, .ref (b + 61))]) hx hb dL_law_1826 hl (by decide) rfl (fun ls hl => ?_)
  refine lv_aload_n hx hb dL_law_1828 rfl (lv_at hl 4 rfl) ?_
  refine lv_aload_n hx hb dL_law_1829 rfl (lv_at hl 2 rfl) ?_
  refine lv_iload hx hb dL_law_1830 (lv_at hl 1 rfl) ?_
  refine lv_iconst (v := 1) hx hb dL_law_1832 (by decide) ?_
  refine lv_iadd hx hb dL_law_1833 ?_
  refine lv_topi (fun x_1833 e_1833 => ?_)
  have p_1833 : x_1833.toInt = (i0 + 1) := by rw [e_1833]; exact t_add hi (show (1 : Int32).toInt = 1 from rfl) (by omega) (by omega)
  refine va_sld hx hb hXs hbl hbA w.2.1 (g_in p_1833 (by omega)) dL_law_1834 ?_
  refine q_topE (y := xs (i0 + 1).toNat) (congrArg xs (g_tn p_1833)) ?_
  refine lv_aload_n hx hb dL_law_1835 rfl (lv_at hl 2 rfl) ?_
  refine lv_iload hx hb dL_law_1836 (lv_at hl 1 rfl) ?_
  refine lv_iconst (v := 2) hx hb dL_law_1838 (by decide) ?_
  refine lv_iadd hx hb dL_law_1839 ?_
  refine lv_topi (fun x_1839 e_1839 => ?_)
  have p_1839 : x_1839.toInt = (i0 + 2) := by rw [e_1839]; exact t_add hi (show (2 : Int32).toInt = 2 from rfl) (by omega) (by omega)
  refine va_sld hx hb hXs hbl hbA w.2.1 (g_in p_1839 (by omega)) dL_law_1840 ?_
  refine q_topE (y := xs (i0 + 2).toNat) (congrArg xs (g_tn p_1839)) ?_
  refine mm_cC X w hM vL_213 rfl rfl ⟨Nat.le_of_ble_eq_true rfl, Nat.le_of_ble_eq_true rfl⟩ rfl hl.1 (Nat.le_of_ble_eq_true rfl) dL_law_1841 hcs (fun y I2 R2 H locs hp2 w => ?_)
  obtain ⟨m1, m2, hI⟩ := hpost y I2 R2 hp2
  refine lv_istore (lv' := [(7, .int y), (6, .int z), (5, .int i), (0, .ref sc), (1, .ref (b + 0)), (2, .ref (b + 45)), (3, .ref (b + 60)), (4, .ref (b + 61))]) hx hb dL_law_1844 hl (by decide) rfl (fun ls hl => ?_)
  refine lv_aload_n hx hb dL_law_1846 rfl (lv_at hl 5 rfl) ?_
  refine q_cPV X w (c_X9_thrown l D t b _ _ I2 R2) vL_134 (k := 45) rfl rfl rfl ⟨Nat.le_of_ble_eq_true rfl, Nat.le_of_ble_eq_true rfl⟩ rfl hl.1 (Nat.le_of_ble_eq_true rfl) dL_law_1847 hcs (fun th ht => ?_)
  refine lv_iload hx hb dL_law_1850 (lv_at hl 1 rfl) ?_
  refine lv_icmp_eq (tgt := 1857) hx hb dL_law_1852 (by decide) (fun c_1852 => ?_) (fun c_1852 => ?_)
  · skip
    refine lv_iload hx hb dL_law_1857 (lv_at hl 1 rfl) ?_
    refine lv_if_ne (tgt := 1874) hx hb dL_law_1859 (by decide) (fun c_1859 => ?_) (fun c_1859 => ?_)
    · skip
      refine lv_goto (tgt := 2707) hx hb dL_law_1874 (by decide) ?_
      exact kk _ _ _ _ _ hI w (lv_sub hl [2, 3, 4, 5, 6, 7] rfl)
    · skip
      have hcd : cd = 0 := by rw [← hz, c_1859]; rfl
      refine lv_aload_n hx hb dL_law_1862 rfl (lv_at hl 6 rfl) ?_
      refine lv_iconst (v := 0) hx hb dL_law_1863 (by decide) ?_
      refine q_lald X w (k := 60) (f := f) ((mS_off (I2 := I2) (R2 := R2) (by omega)).trans hf) (i := 0) (by unfold vp_in; decide) dL_law_1864 ?_
      refine lv_iload hx hb dL_law_1865 (lv_at hl 0 rfl) ?_
      refine lv_i2l (v := y.toInt64) hx hb dL_law_1867 rfl ?_
      refine W.lcmp hx hb dL_law_1868 ?_
      refine q_topE (y := 0) (lcz (hfv hcd) (m2 hcd)) ?_
      refine lv_if_eq (tgt := 1874) hx hb dL_law_1869 (by decide) (fun c_1869 => ?_) (fun c_1869 => ?_)
      · skip
        refine lv_goto (tgt := 2707) hx hb dL_law_1874 (by decide) ?_
        exact kk _ _ _ _ _ hI w (lv_sub hl [2, 3, 4, 5, 6, 7] rfl)
      · skip
        exact absurd rfl c_1869
  · skip
    exact absurd (Int32.toInt_inj.mp ((congrArg Int32.toInt ht).trans (m1.trans hz.symm))) c_1852

set_option maxHeartbeats 1000000 in
set_option maxRecDepth 100000 in
theorem law_24 {p : Program} {l : Launch} {e : Env} {s : State} {m : MethodId} {below : List Frame} {meth : Method} {c : Code} {H : Heap} {locs : List Loc} {cells slots : Nat} {Q : State → Prop} {r : Option FieldType} {D : va_G} {t : Nat → ClassId} {b n : Nat} {σ : qM} {sc L : Nat} {xs : Nat → Int32} {ls : Array Slot} {i : Int32} {i0 : Int} (hl0 : l.stackTraces = false) (X : qX p s #[.ref sc] m meth c RL cL_law 9 r D t b) (hE : XK s) (hS : SK b s) (hXs : va_X sc L xs s s.heap) (hbl : sc < s.heap.size) (hbA : ¬ b ≤ sc) (hi : i.toInt = i0) (h0 : 0 ≤ i0 ∧ i0 + 7 ≤ L ∧ L ≤ 3584) (hcs : cells + 8 ≤ 601024 ∧ slots + 1100 ≤ 7293034) (w : qW D b n σ s H locs) (hI : LI t b σ) (hl : lv_has ls 9 [(5, .int i), (0, .ref sc), (1, .ref (b + 0)), (2, .ref (b + 45)), (3, .ref (b + 60)), (4, .ref (b + 61))]) (kk : ∀ (n : Nat) (σ : qM) (H : Heap) (locs : List Loc) (ls : Array Slot), LI t b σ → qW D b n σ s H locs → lv_has ls 9 [(5, .int i), (0, .ref sc), (1, .ref (b + 0)), (2, .ref (b + 45)), (3, .ref (b + 60)), (4, .ref (b + 61))] → W p l e room_1 s m #[.ref sc] below meth c H locs (cells + 8) (slots + 1100) Q (F0 m 2707 ls [])) : W p l e room_1 s m #[.ref sc] below meth c H locs cells slots Q (F0 m 1877 ls []) := by
  have hx := X.1
  have hb := X.2.1
  refine lv_aload_n hx hb dL_law_1877 rfl (lv_at hl 2 rfl) ?_
  refine lv_aload_n hx hb dL_law_1878 rfl (lv_at hl 1 rfl) ?_
  refine lv_iload hx hb dL_law_1879 (lv_at hl 0 rfl) ?_
  refine lv_iconst (v := 1) hx hb dL_law_1881 (by decide) ?_
  refine lv_iadd hx hb dL_law_1882 ?_
  refine lv_topi (fun x_1882 e_1882 => ?_)
  have p_1882 : x_1882.toInt = (i0 + 1) := by rw [e_1882]; exact t_add hi (show (1 : Int32).toInt = 1 from rfl) (by omega) (by omega)
  refine va_sld hx hb hXs hbl hbA w.2.1 (g_in p_1882 (by omega)) dL_law_1883 ?_
  refine q_topE (y := xs (i0 + 1).toNat) (congrArg xs (g_tn p_1882)) ?_
  refine lv_aload_n hx hb dL_law_1884 rfl (lv_at hl 1 rfl) ?_
  refine lv_iload hx hb dL_law_1885 (lv_at hl 0 rfl) ?_
  refine lv_iconst (v := 2) hx hb dL_law_1887 (by decide) ?_
  refine lv_iadd hx hb dL_law_1888 ?_
  refine lv_topi (fun x_1888 e_1888 => ?_)
  have p_1888 : x_1888.toInt = (i0 + 2) := by rw [e_1888]; exact t_add hi (show (2 : Int32).toInt = 2 from rfl) (by omega) (by omega)
  refine va_sld hx hb hXs hbl hbA w.2.1 (g_in p_1888 (by omega)) dL_law_1889 ?_
  refine q_topE (y := xs (i0 + 2).toNat) (congrArg xs (g_tn p_1888)) ?_
  refine lv_aload_n hx hb dL_law_1890 rfl (lv_at hl 4 rfl) ?_
  refine q_cL X hE hS w (k_placedFeast (l := l) (D := D) hl0 hI (xs (i0 + 1).toNat) (xs (i0 + 2).toNat)) vL_214 rfl ⟨Nat.le_of_ble_eq_true rfl, Nat.le_of_ble_eq_true rfl⟩ rfl hl.1 (Nat.le_of_ble_eq_true rfl) dL_law_1891 (cap8 hcs (by decide) (by decide)) (fun z n2 σ2 H locs hz2 w => ?_)
  refine W.widen (k := cells + 8) (n := slots + 1100) (Nat.add_le_add_left (by decide) _) (Nat.add_le_add_left (by decide) _) ?_
  obtain ⟨cd, vl, hz, ⟨f, hf, hfv⟩, I1, R1, pm, es, hM, hpost⟩ := hz2
  have w : qW D b n2 (mS t b σ2 I1 R1) s H locs := by rw [← es]; exact w
  refine lv_istore (lv' := [(6, .int z), (5, .int i), (0, .ref sc), (1, .ref (b + 0)), (2, .ref (b + 45)), (3, .ref (b + 60)), (4, .ref (b + 61))]) hx hb dL_law_1894 hl (by decide) rfl (fun ls hl => ?_)
  refine lv_aload_n hx hb dL_law_1896 rfl (lv_at hl 4 rfl) ?_
  refine lv_aload_n hx hb dL_law_1897 rfl (lv_at hl 2 rfl) ?_
  refine lv_iload hx hb dL_law_1898 (lv_at hl 1 rfl) ?_
  refine lv_iconst (v := 1) hx hb dL_law_1900 (by decide) ?_
  refine lv_iadd hx hb dL_law_1901 ?_
  refine lv_topi (fun x_1901 e_1901 => ?_)
  have p_1901 : x_1901.toInt = (i0 + 1) := by rw [e_1901]; exact t_add hi (show (1 : Int32).toInt = 1 from rfl) (by omega) (by omega)
  refine va_sld hx hb hXs hbl hbA w.2.1 (g_in p_1901 (by omega)) dL_law_1902 ?_
  refine q_topE (y := xs (i0 + 1).toNat) (congrArg xs (g_tn p_1901)) ?_
  refine lv_aload_n hx hb dL_law_1903 rfl (lv_at hl 2 rfl) ?_
  refine lv_iload hx hb dL_law_1904 (lv_at hl 1 rfl) ?_
  refine lv_iconst (v := 2) hx hb dL_law_1906 (by decide) ?_
  refine lv_iadd hx hb dL_law_1907 ?_
  refine lv_topi (fun x_1907 e_1907 => ?_)
  have p_1907 : x_1907.toInt = (i0 + 2) := by rw [e_1907]; exact t_add hi (show (2 : Int32).toInt = 2 from rfl) (by omega) (by omega)
  refine va_sld hx hb hXs hbl hbA w.2.1 (g_in p_1907 (by omega)) dL_law_1908 ?_
  refine q_topE (y := xs (i0 + 2).toNat) (congrArg xs (g_tn p_1907)) ?_
  refine mm_cC X w hM vL_216 rfl rfl ⟨Nat.le_of_ble_eq_true rfl, Nat.le_of_ble_eq_true rfl⟩ rfl hl.1 (Nat.le_of_ble_eq_true rfl) dL_law_1909 hcs (fun y I2 R2 H locs hp2 w => ?_)
  obtain ⟨m1, m2, hI⟩ := hpost y I2 R2 hp2
  refine lv_istore (lv' := [(7, .int y), (6, .int z), (5, .int i), (0, .ref sc), (1, .ref (b + 0)), (2, .ref (b + 45)), (3, .ref (b + 60)), (4, .ref (b + 61))]) hx hb dL_law_1912 hl (by decide) rfl (fun ls hl => ?_)
  refine lv_aload_n hx hb dL_law_1914 rfl (lv_at hl 5 rfl) ?_
  refine q_cPV X w (c_X9_thrown l D t b _ _ I2 R2) vL_134 (k := 45) rfl rfl rfl ⟨Nat.le_of_ble_eq_true rfl, Nat.le_of_ble_eq_true rfl⟩ rfl hl.1 (Nat.le_of_ble_eq_true rfl) dL_law_1915 hcs (fun th ht => ?_)
  refine lv_iload hx hb dL_law_1918 (lv_at hl 1 rfl) ?_
  refine lv_icmp_eq (tgt := 1925) hx hb dL_law_1920 (by decide) (fun c_1920 => ?_) (fun c_1920 => ?_)
  · skip
    refine lv_iload hx hb dL_law_1925 (lv_at hl 1 rfl) ?_
    refine lv_if_ne (tgt := 1942) hx hb dL_law_1927 (by decide) (fun c_1927 => ?_) (fun c_1927 => ?_)
    · skip
      refine lv_goto (tgt := 2707) hx hb dL_law_1942 (by decide) ?_
      exact kk _ _ _ _ _ hI w (lv_sub hl [2, 3, 4, 5, 6, 7] rfl)
    · skip
      have hcd : cd = 0 := by rw [← hz, c_1927]; rfl
      refine lv_aload_n hx hb dL_law_1930 rfl (lv_at hl 6 rfl) ?_
      refine lv_iconst (v := 0) hx hb dL_law_1931 (by decide) ?_
      refine q_lald X w (k := 60) (f := f) ((mS_off (I2 := I2) (R2 := R2) (by omega)).trans hf) (i := 0) (by unfold vp_in; decide) dL_law_1932 ?_
      refine lv_iload hx hb dL_law_1933 (lv_at hl 0 rfl) ?_
      refine lv_i2l (v := y.toInt64) hx hb dL_law_1935 rfl ?_
      refine W.lcmp hx hb dL_law_1936 ?_
      refine q_topE (y := 0) (lcz (hfv hcd) (m2 hcd)) ?_
      refine lv_if_eq (tgt := 1942) hx hb dL_law_1937 (by decide) (fun c_1937 => ?_) (fun c_1937 => ?_)
      · skip
        refine lv_goto (tgt := 2707) hx hb dL_law_1942 (by decide) ?_
        exact kk _ _ _ _ _ hI w (lv_sub hl [2, 3, 4, 5, 6, 7] rfl)
      · skip
        exact absurd rfl c_1937
  · skip
    exact absurd (Int32.toInt_inj.mp ((congrArg Int32.toInt ht).trans (m1.trans hz.symm))) c_1920

set_option maxHeartbeats 1000000 in
set_option maxRecDepth 100000 in
theorem law_25 {p : Program} {l : Launch} {e : Env} {s : State} {m : MethodId} {below : List Frame} {meth : Method} {c : Code} {H : Heap} {locs : List Loc} {cells slots : Nat} {Q : State → Prop} {r : Option FieldType} {D : va_G} {t : Nat → ClassId} {b n : Nat} {σ : qM} {sc L : Nat} {xs : Nat → Int32} {ls : Array Slot} {i : Int32} {i0 : Int} (hl0 : l.stackTraces = false) (X : qX p s #[.ref sc] m meth c RL cL_law 9 r D t b) (hE : XK s) (hS : SK b s) (hXs : va_X sc L xs s s.heap) (hbl : sc < s.heap.size) (hbA : ¬ b ≤ sc) (hi : i.toInt = i0) (h0 : 0 ≤ i0 ∧ i0 + 7 ≤ L ∧ L ≤ 3584) (hcs : cells + 8 ≤ 601024 ∧ slots + 1100 ≤ 7293034) (w : qW D b n σ s H locs) (hI : LI t b σ) (hl : lv_has ls 9 [(5, .int i), (0, .ref sc), (1, .ref (b + 0)), (2, .ref (b + 45)), (3, .ref (b + 60)), (4, .ref (b + 61))]) (kk : ∀ (n : Nat) (σ : qM) (H : Heap) (locs : List Loc) (ls : Array Slot), LI t b σ → qW D b n σ s H locs → lv_has ls 9 [(5, .int i), (0, .ref sc), (1, .ref (b + 0)), (2, .ref (b + 45)), (3, .ref (b + 60)), (4, .ref (b + 61))] → W p l e room_1 s m #[.ref sc] below meth c H locs (cells + 8) (slots + 1100) Q (F0 m 2707 ls [])) : W p l e room_1 s m #[.ref sc] below meth c H locs cells slots Q (F0 m 1945 ls []) := by
  have hx := X.1
  have hb := X.2.1
  refine lv_aload_n hx hb dL_law_1945 rfl (lv_at hl 2 rfl) ?_
  refine lv_aload_n hx hb dL_law_1946 rfl (lv_at hl 1 rfl) ?_
  refine lv_iload hx hb dL_law_1947 (lv_at hl 0 rfl) ?_
  refine lv_iconst (v := 1) hx hb dL_law_1949 (by decide) ?_
  refine lv_iadd hx hb dL_law_1950 ?_
  refine lv_topi (fun x_1950 e_1950 => ?_)
  have p_1950 : x_1950.toInt = (i0 + 1) := by rw [e_1950]; exact t_add hi (show (1 : Int32).toInt = 1 from rfl) (by omega) (by omega)
  refine va_sld hx hb hXs hbl hbA w.2.1 (g_in p_1950 (by omega)) dL_law_1951 ?_
  refine q_topE (y := xs (i0 + 1).toNat) (congrArg xs (g_tn p_1950)) ?_
  refine lv_aload_n hx hb dL_law_1952 rfl (lv_at hl 1 rfl) ?_
  refine lv_iload hx hb dL_law_1953 (lv_at hl 0 rfl) ?_
  refine lv_iconst (v := 2) hx hb dL_law_1955 (by decide) ?_
  refine lv_iadd hx hb dL_law_1956 ?_
  refine lv_topi (fun x_1956 e_1956 => ?_)
  have p_1956 : x_1956.toInt = (i0 + 2) := by rw [e_1956]; exact t_add hi (show (2 : Int32).toInt = 2 from rfl) (by omega) (by omega)
  refine va_sld hx hb hXs hbl hbA w.2.1 (g_in p_1956 (by omega)) dL_law_1957 ?_
  refine q_topE (y := xs (i0 + 2).toNat) (congrArg xs (g_tn p_1956)) ?_
  refine lv_aload_n hx hb dL_law_1958 rfl (lv_at hl 4 rfl) ?_
  refine q_cL X hE hS w (k_feastOn (l := l) (D := D) hl0 hI (xs (i0 + 1).toNat) (xs (i0 + 2).toNat)) vL_217 rfl ⟨Nat.le_of_ble_eq_true rfl, Nat.le_of_ble_eq_true rfl⟩ rfl hl.1 (Nat.le_of_ble_eq_true rfl) dL_law_1959 (cap8 hcs (by decide) (by decide)) (fun z n2 σ2 H locs hz2 w => ?_)
  refine W.widen (k := cells + 8) (n := slots + 1100) (Nat.add_le_add_left (by decide) _) (Nat.add_le_add_left (by decide) _) ?_
  obtain ⟨cd, vl, hz, ⟨f, hf, hfv⟩, I1, R1, pm, es, hM, hpost⟩ := hz2
  have w : qW D b n2 (mS t b σ2 I1 R1) s H locs := by rw [← es]; exact w
  refine lv_istore (lv' := [(6, .int z), (5, .int i), (0, .ref sc), (1, .ref (b + 0)), (2, .ref (b + 45)), (3, .ref (b + 60)), (4, .ref (b + 61))]) hx hb dL_law_1962 hl (by decide) rfl (fun ls hl => ?_)
  refine lv_aload_n hx hb dL_law_1964 rfl (lv_at hl 4 rfl) ?_
  refine lv_aload_n hx hb dL_law_1965 rfl (lv_at hl 2 rfl) ?_
  refine lv_iload hx hb dL_law_1966 (lv_at hl 1 rfl) ?_
  refine lv_iconst (v := 1) hx hb dL_law_1968 (by decide) ?_
  refine lv_iadd hx hb dL_law_1969 ?_
  refine lv_topi (fun x_1969 e_1969 => ?_)
  have p_1969 : x_1969.toInt = (i0 + 1) := by rw [e_1969]; exact t_add hi (show (1 : Int32).toInt = 1 from rfl) (by omega) (by omega)
  refine va_sld hx hb hXs hbl hbA w.2.1 (g_in p_1969 (by omega)) dL_law_1970 ?_
  refine q_topE (y := xs (i0 + 1).toNat) (congrArg xs (g_tn p_1969)) ?_
  refine lv_aload_n hx hb dL_law_1971 rfl (lv_at hl 2 rfl) ?_
  refine lv_iload hx hb dL_law_1972 (lv_at hl 1 rfl) ?_
  refine lv_iconst (v := 2) hx hb dL_law_1974 (by decide) ?_
  refine lv_iadd hx hb dL_law_1975 ?_
  refine lv_topi (fun x_1975 e_1975 => ?_)
  have p_1975 : x_1975.toInt = (i0 + 2) := by rw [e_1975]; exact t_add hi (show (2 : Int32).toInt = 2 from rfl) (by omega) (by omega)
  refine va_sld hx hb hXs hbl hbA w.2.1 (g_in p_1975 (by omega)) dL_law_1976 ?_
  refine q_topE (y := xs (i0 + 2).toNat) (congrArg xs (g_tn p_1975)) ?_
  refine mm_cC X w hM vL_219 rfl rfl ⟨Nat.le_of_ble_eq_true rfl, Nat.le_of_ble_eq_true rfl⟩ rfl hl.1 (Nat.le_of_ble_eq_true rfl) dL_law_1977 hcs (fun y I2 R2 H locs hp2 w => ?_)
  obtain ⟨m1, m2, hI⟩ := hpost y I2 R2 hp2
  refine lv_istore (lv' := [(7, .int y), (6, .int z), (5, .int i), (0, .ref sc), (1, .ref (b + 0)), (2, .ref (b + 45)), (3, .ref (b + 60)), (4, .ref (b + 61))]) hx hb dL_law_1980 hl (by decide) rfl (fun ls hl => ?_)
  refine lv_aload_n hx hb dL_law_1982 rfl (lv_at hl 5 rfl) ?_
  refine q_cPV X w (c_X9_thrown l D t b _ _ I2 R2) vL_134 (k := 45) rfl rfl rfl ⟨Nat.le_of_ble_eq_true rfl, Nat.le_of_ble_eq_true rfl⟩ rfl hl.1 (Nat.le_of_ble_eq_true rfl) dL_law_1983 hcs (fun th ht => ?_)
  refine lv_iload hx hb dL_law_1986 (lv_at hl 1 rfl) ?_
  refine lv_icmp_eq (tgt := 1993) hx hb dL_law_1988 (by decide) (fun c_1988 => ?_) (fun c_1988 => ?_)
  · skip
    refine lv_iload hx hb dL_law_1993 (lv_at hl 1 rfl) ?_
    refine lv_if_ne (tgt := 2010) hx hb dL_law_1995 (by decide) (fun c_1995 => ?_) (fun c_1995 => ?_)
    · skip
      refine lv_goto (tgt := 2707) hx hb dL_law_2010 (by decide) ?_
      exact kk _ _ _ _ _ hI w (lv_sub hl [2, 3, 4, 5, 6, 7] rfl)
    · skip
      have hcd : cd = 0 := by rw [← hz, c_1995]; rfl
      refine lv_aload_n hx hb dL_law_1998 rfl (lv_at hl 6 rfl) ?_
      refine lv_iconst (v := 0) hx hb dL_law_1999 (by decide) ?_
      refine q_lald X w (k := 60) (f := f) ((mS_off (I2 := I2) (R2 := R2) (by omega)).trans hf) (i := 0) (by unfold vp_in; decide) dL_law_2000 ?_
      refine lv_iload hx hb dL_law_2001 (lv_at hl 0 rfl) ?_
      refine lv_i2l (v := y.toInt64) hx hb dL_law_2003 rfl ?_
      refine W.lcmp hx hb dL_law_2004 ?_
      refine q_topE (y := 0) (lcz (hfv hcd) (m2 hcd)) ?_
      refine lv_if_eq (tgt := 2010) hx hb dL_law_2005 (by decide) (fun c_2005 => ?_) (fun c_2005 => ?_)
      · skip
        refine lv_goto (tgt := 2707) hx hb dL_law_2010 (by decide) ?_
        exact kk _ _ _ _ _ hI w (lv_sub hl [2, 3, 4, 5, 6, 7] rfl)
      · skip
        exact absurd rfl c_2005
  · skip
    exact absurd (Int32.toInt_inj.mp ((congrArg Int32.toInt ht).trans (m1.trans hz.symm))) c_1988

set_option maxHeartbeats 1000000 in
set_option maxRecDepth 100000 in
theorem law_26 {p : Program} {l : Launch} {e : Env} {s : State} {m : MethodId} {below : List Frame} {meth : Method} {c : Code} {H : Heap} {locs : List Loc} {cells slots : Nat} {Q : State → Prop} {r : Option FieldType} {D : va_G} {t : Nat → ClassId} {b n : Nat} {σ : qM} {sc L : Nat} {xs : Nat → Int32} {ls : Array Slot} {i : Int32} {i0 : Int} (hl0 : l.stackTraces = false) (X : qX p s #[.ref sc] m meth c RL cL_law 9 r D t b) (hE : XK s) (hS : SK b s) (hXs : va_X sc L xs s s.heap) (hbl : sc < s.heap.size) (hbA : ¬ b ≤ sc) (hi : i.toInt = i0) (h0 : 0 ≤ i0 ∧ i0 + 7 ≤ L ∧ L ≤ 3584) (hcs : cells + 8 ≤ 601024 ∧ slots + 1100 ≤ 7293034) (w : qW D b n σ s H locs) (hI : LI t b σ) (hl : lv_has ls 9 [(5, .int i), (0, .ref sc), (1, .ref (b + 0)), (2, .ref (b + 45)), (3, .ref (b + 60)), (4, .ref (b + 61))]) (kk : ∀ (n : Nat) (σ : qM) (H : Heap) (locs : List Loc) (ls : Array Slot), LI t b σ → qW D b n σ s H locs → lv_has ls 9 [(5, .int i), (0, .ref sc), (1, .ref (b + 0)), (2, .ref (b + 45)), (3, .ref (b + 60)), (4, .ref (b + 61))] → W p l e room_1 s m #[.ref sc] below meth c H locs (cells + 8) (slots + 1100) Q (F0 m 2707 ls [])) : W p l e room_1 s m #[.ref sc] below meth c H locs cells slots Q (F0 m 2013 ls []) := by
  have hx := X.1
  have hb := X.2.1
  refine lv_aload_n hx hb dL_law_2013 rfl (lv_at hl 2 rfl) ?_
  refine lv_aload_n hx hb dL_law_2014 rfl (lv_at hl 1 rfl) ?_
  refine lv_iload hx hb dL_law_2015 (lv_at hl 0 rfl) ?_
  refine lv_iconst (v := 1) hx hb dL_law_2017 (by decide) ?_
  refine lv_iadd hx hb dL_law_2018 ?_
  refine lv_topi (fun x_2018 e_2018 => ?_)
  have p_2018 : x_2018.toInt = (i0 + 1) := by rw [e_2018]; exact t_add hi (show (1 : Int32).toInt = 1 from rfl) (by omega) (by omega)
  refine va_sld hx hb hXs hbl hbA w.2.1 (g_in p_2018 (by omega)) dL_law_2019 ?_
  refine q_topE (y := xs (i0 + 1).toNat) (congrArg xs (g_tn p_2018)) ?_
  refine lv_aload_n hx hb dL_law_2020 rfl (lv_at hl 1 rfl) ?_
  refine lv_iload hx hb dL_law_2021 (lv_at hl 0 rfl) ?_
  refine lv_iconst (v := 2) hx hb dL_law_2023 (by decide) ?_
  refine lv_iadd hx hb dL_law_2024 ?_
  refine lv_topi (fun x_2024 e_2024 => ?_)
  have p_2024 : x_2024.toInt = (i0 + 2) := by rw [e_2024]; exact t_add hi (show (2 : Int32).toInt = 2 from rfl) (by omega) (by omega)
  refine va_sld hx hb hXs hbl hbA w.2.1 (g_in p_2024 (by omega)) dL_law_2025 ?_
  refine q_topE (y := xs (i0 + 2).toNat) (congrArg xs (g_tn p_2024)) ?_
  refine lv_aload_n hx hb dL_law_2026 rfl (lv_at hl 1 rfl) ?_
  refine lv_iload hx hb dL_law_2027 (lv_at hl 0 rfl) ?_
  refine lv_iconst (v := 3) hx hb dL_law_2029 (by decide) ?_
  refine lv_iadd hx hb dL_law_2030 ?_
  refine lv_topi (fun x_2030 e_2030 => ?_)
  have p_2030 : x_2030.toInt = (i0 + 3) := by rw [e_2030]; exact t_add hi (show (3 : Int32).toInt = 3 from rfl) (by omega) (by omega)
  refine va_sld hx hb hXs hbl hbA w.2.1 (g_in p_2030 (by omega)) dL_law_2031 ?_
  refine q_topE (y := xs (i0 + 3).toNat) (congrArg xs (g_tn p_2030)) ?_
  refine lv_aload_n hx hb dL_law_2032 rfl (lv_at hl 4 rfl) ?_
  refine q_cL X hE hS w (k_meetingYear (l := l) (D := D) hl0 hI (xs (i0 + 1).toNat) (xs (i0 + 2).toNat) (xs (i0 + 3).toNat)) vL_220 rfl ⟨Nat.le_of_ble_eq_true rfl, Nat.le_of_ble_eq_true rfl⟩ rfl hl.1 (Nat.le_of_ble_eq_true rfl) dL_law_2033 (cap8 hcs (by decide) (by decide)) (fun z n2 σ2 H locs hz2 w => ?_)
  refine W.widen (k := cells + 8) (n := slots + 1100) (Nat.add_le_add_left (by decide) _) (Nat.add_le_add_left (by decide) _) ?_
  obtain ⟨cd, vl, hz, ⟨f, hf, hfv⟩, I1, R1, pm, es, hM, hpost⟩ := hz2
  have w : qW D b n2 (mS t b σ2 I1 R1) s H locs := by rw [← es]; exact w
  refine lv_istore (lv' := [(6, .int z), (5, .int i), (0, .ref sc), (1, .ref (b + 0)), (2, .ref (b + 45)), (3, .ref (b + 60)), (4, .ref (b + 61))]) hx hb dL_law_2036 hl (by decide) rfl (fun ls hl => ?_)
  refine lv_aload_n hx hb dL_law_2038 rfl (lv_at hl 4 rfl) ?_
  refine lv_aload_n hx hb dL_law_2039 rfl (lv_at hl 2 rfl) ?_
  refine lv_iload hx hb dL_law_2040 (lv_at hl 1 rfl) ?_
  refine lv_iconst (v := 1) hx hb dL_law_2042 (by decide) ?_
  refine lv_iadd hx hb dL_law_2043 ?_
  refine lv_topi (fun x_2043 e_2043 => ?_)
  have p_2043 : x_2043.toInt = (i0 + 1) := by rw [e_2043]; exact t_add hi (show (1 : Int32).toInt = 1 from rfl) (by omega) (by omega)
  refine va_sld hx hb hXs hbl hbA w.2.1 (g_in p_2043 (by omega)) dL_law_2044 ?_
  refine q_topE (y := xs (i0 + 1).toNat) (congrArg xs (g_tn p_2043)) ?_
  refine lv_aload_n hx hb dL_law_2045 rfl (lv_at hl 2 rfl) ?_
  refine lv_iload hx hb dL_law_2046 (lv_at hl 1 rfl) ?_
  refine lv_iconst (v := 2) hx hb dL_law_2048 (by decide) ?_
  refine lv_iadd hx hb dL_law_2049 ?_
  refine lv_topi (fun x_2049 e_2049 => ?_)
  have p_2049 : x_2049.toInt = (i0 + 2) := by rw [e_2049]; exact t_add hi (show (2 : Int32).toInt = 2 from rfl) (by omega) (by omega)
  refine va_sld hx hb hXs hbl hbA w.2.1 (g_in p_2049 (by omega)) dL_law_2050 ?_
  refine q_topE (y := xs (i0 + 2).toNat) (congrArg xs (g_tn p_2049)) ?_
  refine lv_aload_n hx hb dL_law_2051 rfl (lv_at hl 2 rfl) ?_
  refine lv_iload hx hb dL_law_2052 (lv_at hl 1 rfl) ?_
  refine lv_iconst (v := 3) hx hb dL_law_2054 (by decide) ?_
  refine lv_iadd hx hb dL_law_2055 ?_
  refine lv_topi (fun x_2055 e_2055 => ?_)
  have p_2055 : x_2055.toInt = (i0 + 3) := by rw [e_2055]; exact t_add hi (show (3 : Int32).toInt = 3 from rfl) (by omega) (by omega)
  refine va_sld hx hb hXs hbl hbA w.2.1 (g_in p_2055 (by omega)) dL_law_2056 ?_
  refine q_topE (y := xs (i0 + 3).toNat) (congrArg xs (g_tn p_2055)) ?_
  refine mm_cC X w hM vL_222 rfl rfl ⟨Nat.le_of_ble_eq_true rfl, Nat.le_of_ble_eq_true rfl⟩ rfl hl.1 (Nat.le_of_ble_eq_true rfl) dL_law_2057 hcs (fun y I2 R2 H locs hp2 w => ?_)
  obtain ⟨m1, m2, hI⟩ := hpost y I2 R2 hp2
  refine lv_istore (lv' := [(7, .int y), (6, .int z), (5, .int i), (0, .ref sc), (1, .ref (b + 0)), (2, .ref (b + 45)), (3, .ref (b + 60)), (4, .ref (b + 61))]) hx hb dL_law_2060 hl (by decide) rfl (fun ls hl => ?_)
  refine lv_aload_n hx hb dL_law_2062 rfl (lv_at hl 5 rfl) ?_
  refine q_cPV X w (c_X9_thrown l D t b _ _ I2 R2) vL_134 (k := 45) rfl rfl rfl ⟨Nat.le_of_ble_eq_true rfl, Nat.le_of_ble_eq_true rfl⟩ rfl hl.1 (Nat.le_of_ble_eq_true rfl) dL_law_2063 hcs (fun th ht => ?_)
  refine lv_iload hx hb dL_law_2066 (lv_at hl 1 rfl) ?_
  refine lv_icmp_eq (tgt := 2073) hx hb dL_law_2068 (by decide) (fun c_2068 => ?_) (fun c_2068 => ?_)
  · skip
    refine lv_iload hx hb dL_law_2073 (lv_at hl 1 rfl) ?_
    refine lv_if_ne (tgt := 2090) hx hb dL_law_2075 (by decide) (fun c_2075 => ?_) (fun c_2075 => ?_)
    · skip
      refine lv_goto (tgt := 2707) hx hb dL_law_2090 (by decide) ?_
      exact kk _ _ _ _ _ hI w (lv_sub hl [2, 3, 4, 5, 6, 7] rfl)
    · skip
      have hcd : cd = 0 := by rw [← hz, c_2075]; rfl
      refine lv_aload_n hx hb dL_law_2078 rfl (lv_at hl 6 rfl) ?_
      refine lv_iconst (v := 0) hx hb dL_law_2079 (by decide) ?_
      refine q_lald X w (k := 60) (f := f) ((mS_off (I2 := I2) (R2 := R2) (by omega)).trans hf) (i := 0) (by unfold vp_in; decide) dL_law_2080 ?_
      refine lv_iload hx hb dL_law_2081 (lv_at hl 0 rfl) ?_
      refine lv_i2l (v := y.toInt64) hx hb dL_law_2083 rfl ?_
      refine W.lcmp hx hb dL_law_2084 ?_
      refine q_topE (y := 0) (lcz (hfv hcd) (m2 hcd)) ?_
      refine lv_if_eq (tgt := 2090) hx hb dL_law_2085 (by decide) (fun c_2085 => ?_) (fun c_2085 => ?_)
      · skip
        refine lv_goto (tgt := 2707) hx hb dL_law_2090 (by decide) ?_
        exact kk _ _ _ _ _ hI w (lv_sub hl [2, 3, 4, 5, 6, 7] rfl)
      · skip
        exact absurd rfl c_2085
  · skip
    exact absurd (Int32.toInt_inj.mp ((congrArg Int32.toInt ht).trans (m1.trans hz.symm))) c_2068

set_option maxHeartbeats 1000000 in
set_option maxRecDepth 100000 in
theorem law_27 {p : Program} {l : Launch} {e : Env} {s : State} {m : MethodId} {below : List Frame} {meth : Method} {c : Code} {H : Heap} {locs : List Loc} {cells slots : Nat} {Q : State → Prop} {r : Option FieldType} {D : va_G} {t : Nat → ClassId} {b n : Nat} {σ : qM} {sc L : Nat} {xs : Nat → Int32} {ls : Array Slot} {i : Int32} {i0 : Int} (hl0 : l.stackTraces = false) (X : qX p s #[.ref sc] m meth c RL cL_law 9 r D t b) (hE : XK s) (hS : SK b s) (hXs : va_X sc L xs s s.heap) (hbl : sc < s.heap.size) (hbA : ¬ b ≤ sc) (hi : i.toInt = i0) (h0 : 0 ≤ i0 ∧ i0 + 7 ≤ L ∧ L ≤ 3584) (hcs : cells + 8 ≤ 601024 ∧ slots + 1100 ≤ 7293034) (w : qW D b n σ s H locs) (hI : LI t b σ) (hl : lv_has ls 9 [(5, .int i), (0, .ref sc), (1, .ref (b + 0)), (2, .ref (b + 45)), (3, .ref (b + 60)), (4, .ref (b + 61))]) (kk : ∀ (n : Nat) (σ : qM) (H : Heap) (locs : List Loc) (ls : Array Slot), LI t b σ → qW D b n σ s H locs → lv_has ls 9 [(5, .int i), (0, .ref sc), (1, .ref (b + 0)), (2, .ref (b + 45)), (3, .ref (b + 60)), (4, .ref (b + 61))] → W p l e room_1 s m #[.ref sc] below meth c H locs (cells + 8) (slots + 1100) Q (F0 m 2707 ls [])) : W p l e room_1 s m #[.ref sc] below meth c H locs cells slots Q (F0 m 2093 ls []) := by
  have hx := X.1
  have hb := X.2.1
  refine lv_aload_n hx hb dL_law_2093 rfl (lv_at hl 2 rfl) ?_
  refine lv_aload_n hx hb dL_law_2094 rfl (lv_at hl 1 rfl) ?_
  refine lv_iload hx hb dL_law_2095 (lv_at hl 0 rfl) ?_
  refine lv_iconst (v := 1) hx hb dL_law_2097 (by decide) ?_
  refine lv_iadd hx hb dL_law_2098 ?_
  refine lv_topi (fun x_2098 e_2098 => ?_)
  have p_2098 : x_2098.toInt = (i0 + 1) := by rw [e_2098]; exact t_add hi (show (1 : Int32).toInt = 1 from rfl) (by omega) (by omega)
  refine va_sld hx hb hXs hbl hbA w.2.1 (g_in p_2098 (by omega)) dL_law_2099 ?_
  refine q_topE (y := xs (i0 + 1).toNat) (congrArg xs (g_tn p_2098)) ?_
  refine lv_aload_n hx hb dL_law_2100 rfl (lv_at hl 1 rfl) ?_
  refine lv_iload hx hb dL_law_2101 (lv_at hl 0 rfl) ?_
  refine lv_iconst (v := 2) hx hb dL_law_2103 (by decide) ?_
  refine lv_iadd hx hb dL_law_2104 ?_
  refine lv_topi (fun x_2104 e_2104 => ?_)
  have p_2104 : x_2104.toInt = (i0 + 2) := by rw [e_2104]; exact t_add hi (show (2 : Int32).toInt = 2 from rfl) (by omega) (by omega)
  refine va_sld hx hb hXs hbl hbA w.2.1 (g_in p_2104 (by omega)) dL_law_2105 ?_
  refine q_topE (y := xs (i0 + 2).toNat) (congrArg xs (g_tn p_2104)) ?_
  refine lv_aload_n hx hb dL_law_2106 rfl (lv_at hl 1 rfl) ?_
  refine lv_iload hx hb dL_law_2107 (lv_at hl 0 rfl) ?_
  refine lv_iconst (v := 3) hx hb dL_law_2109 (by decide) ?_
  refine lv_iadd hx hb dL_law_2110 ?_
  refine lv_topi (fun x_2110 e_2110 => ?_)
  have p_2110 : x_2110.toInt = (i0 + 3) := by rw [e_2110]; exact t_add hi (show (3 : Int32).toInt = 3 from rfl) (by omega) (by omega)
  refine va_sld hx hb hXs hbl hbA w.2.1 (g_in p_2110 (by omega)) dL_law_2111 ?_
  refine q_topE (y := xs (i0 + 3).toNat) (congrArg xs (g_tn p_2110)) ?_
  obtain ⟨fs0, h0c⟩ := hI.c0
  refine W.widen (k := cells + 8) (n := slots + 1100) (Nat.le_add_right _ _) (Nat.le_add_right _ _) ?_
  obtain ⟨px, hP, hv⟩ := d_readings (l := l) (D := D) (n := n) hI (xs (i0 + 1).toNat) (xs (i0 + 2).toNat) (xs (i0 + 3).toNat)
  refine q_cCV X w hP vL_223 (k := 0) h0c rfl rfl ⟨Nat.le_of_ble_eq_true rfl, Nat.le_of_ble_eq_true rfl⟩ rfl hl.1 (Nat.le_of_ble_eq_true rfl) dL_law_2112 hcs (fun z n2 σ2 H locs hz2 w => ?_)
  obtain ⟨h60, vl, hz, I1, R1, pm, es, hM, hpost⟩ := hv z n2 σ2 hz2
  have w : qW D b n2 (mS t b σ2 I1 R1) s H locs := by rw [← es]; exact w
  refine lv_aload_n hx hb dL_law_2115 rfl (lv_at hl 3 rfl) ?_
  refine lv_aload_n hx hb dL_law_2116 rfl (lv_at hl 1 rfl) ?_
  refine lv_iload hx hb dL_law_2117 (lv_at hl 0 rfl) ?_
  refine lv_iconst (v := 1) hx hb dL_law_2119 (by decide) ?_
  refine lv_iadd hx hb dL_law_2120 ?_
  refine lv_topi (fun x_2120 e_2120 => ?_)
  have p_2120 : x_2120.toInt = (i0 + 1) := by rw [e_2120]; exact t_add hi (show (1 : Int32).toInt = 1 from rfl) (by omega) (by omega)
  refine va_sld hx hb hXs hbl hbA w.2.1 (g_in p_2120 (by omega)) dL_law_2121 ?_
  refine q_topE (y := xs (i0 + 1).toNat) (congrArg xs (g_tn p_2120)) ?_
  refine lv_aload_n hx hb dL_law_2122 rfl (lv_at hl 1 rfl) ?_
  refine lv_iload hx hb dL_law_2123 (lv_at hl 0 rfl) ?_
  refine lv_iconst (v := 2) hx hb dL_law_2125 (by decide) ?_
  refine lv_iadd hx hb dL_law_2126 ?_
  refine lv_topi (fun x_2126 e_2126 => ?_)
  have p_2126 : x_2126.toInt = (i0 + 2) := by rw [e_2126]; exact t_add hi (show (2 : Int32).toInt = 2 from rfl) (by omega) (by omega)
  refine va_sld hx hb hXs hbl hbA w.2.1 (g_in p_2126 (by omega)) dL_law_2127 ?_
  refine q_topE (y := xs (i0 + 2).toNat) (congrArg xs (g_tn p_2126)) ?_
  refine lv_aload_n hx hb dL_law_2128 rfl (lv_at hl 1 rfl) ?_
  refine lv_iload hx hb dL_law_2129 (lv_at hl 0 rfl) ?_
  refine lv_iconst (v := 3) hx hb dL_law_2131 (by decide) ?_
  refine lv_iadd hx hb dL_law_2132 ?_
  refine lv_topi (fun x_2132 e_2132 => ?_)
  have p_2132 : x_2132.toInt = (i0 + 3) := by rw [e_2132]; exact t_add hi (show (3 : Int32).toInt = 3 from rfl) (by omega) (by omega)
  refine va_sld hx hb hXs hbl hbA w.2.1 (g_in p_2132 (by omega)) dL_law_2133 ?_
  refine q_topE (y := xs (i0 + 3).toNat) (congrArg xs (g_tn p_2132)) ?_
  refine mm_cC X w hM vL_226 rfl rfl ⟨Nat.le_of_ble_eq_true rfl, Nat.le_of_ble_eq_true rfl⟩ rfl hl.1 (Nat.le_of_ble_eq_true rfl) dL_law_2134 hcs (fun y I2 R2 H locs hp2 w => ?_)
  obtain ⟨m1, m2, hI⟩ := hpost y I2 R2 hp2
  refine lv_icmp_eq (tgt := 2707) hx hb dL_law_2137 (by decide) (fun c_2137 => ?_) (fun c_2137 => ?_)
  · skip
    exact kk _ _ _ _ _ hI w (lv_sub hl [0, 1, 2, 3, 4, 5] rfl)
  · skip
    exact absurd (Int32.toInt_inj.mp (hz.trans (m2 rfl).symm)) c_2137

set_option maxHeartbeats 1000000 in
set_option maxRecDepth 100000 in
theorem law_28 {p : Program} {l : Launch} {e : Env} {s : State} {m : MethodId} {below : List Frame} {meth : Method} {c : Code} {H : Heap} {locs : List Loc} {cells slots : Nat} {Q : State → Prop} {r : Option FieldType} {D : va_G} {t : Nat → ClassId} {b n : Nat} {σ : qM} {sc L : Nat} {xs : Nat → Int32} {ls : Array Slot} {i : Int32} {i0 : Int} (hl0 : l.stackTraces = false) (X : qX p s #[.ref sc] m meth c RL cL_law 9 r D t b) (hE : XK s) (hS : SK b s) (hXs : va_X sc L xs s s.heap) (hbl : sc < s.heap.size) (hbA : ¬ b ≤ sc) (hi : i.toInt = i0) (h0 : 0 ≤ i0 ∧ i0 + 7 ≤ L ∧ L ≤ 3584) (hcs : cells + 8 ≤ 601024 ∧ slots + 1100 ≤ 7293034) (w : qW D b n σ s H locs) (hI : LI t b σ) (hl : lv_has ls 9 [(5, .int i), (0, .ref sc), (1, .ref (b + 0)), (2, .ref (b + 45)), (3, .ref (b + 60)), (4, .ref (b + 61))]) (kk : ∀ (n : Nat) (σ : qM) (H : Heap) (locs : List Loc) (ls : Array Slot), LI t b σ → qW D b n σ s H locs → lv_has ls 9 [(5, .int i), (0, .ref sc), (1, .ref (b + 0)), (2, .ref (b + 45)), (3, .ref (b + 60)), (4, .ref (b + 61))] → W p l e room_1 s m #[.ref sc] below meth c H locs (cells + 8) (slots + 1100) Q (F0 m 2707 ls [])) : W p l e room_1 s m #[.ref sc] below meth c H locs cells slots Q (F0 m 2142 ls []) := by
  have hx := X.1
  have hb := X.2.1
  refine lv_aload_n hx hb dL_law_2142 rfl (lv_at hl 2 rfl) ?_
  refine lv_aload_n hx hb dL_law_2143 rfl (lv_at hl 1 rfl) ?_
  refine lv_iload hx hb dL_law_2144 (lv_at hl 0 rfl) ?_
  refine lv_iconst (v := 1) hx hb dL_law_2146 (by decide) ?_
  refine lv_iadd hx hb dL_law_2147 ?_
  refine lv_topi (fun x_2147 e_2147 => ?_)
  have p_2147 : x_2147.toInt = (i0 + 1) := by rw [e_2147]; exact t_add hi (show (1 : Int32).toInt = 1 from rfl) (by omega) (by omega)
  refine va_sld hx hb hXs hbl hbA w.2.1 (g_in p_2147 (by omega)) dL_law_2148 ?_
  refine q_topE (y := xs (i0 + 1).toNat) (congrArg xs (g_tn p_2147)) ?_
  refine lv_aload_n hx hb dL_law_2149 rfl (lv_at hl 1 rfl) ?_
  refine lv_iload hx hb dL_law_2150 (lv_at hl 0 rfl) ?_
  refine lv_iconst (v := 2) hx hb dL_law_2152 (by decide) ?_
  refine lv_iadd hx hb dL_law_2153 ?_
  refine lv_topi (fun x_2153 e_2153 => ?_)
  have p_2153 : x_2153.toInt = (i0 + 2) := by rw [e_2153]; exact t_add hi (show (2 : Int32).toInt = 2 from rfl) (by omega) (by omega)
  refine va_sld hx hb hXs hbl hbA w.2.1 (g_in p_2153 (by omega)) dL_law_2154 ?_
  refine q_topE (y := xs (i0 + 2).toNat) (congrArg xs (g_tn p_2153)) ?_
  refine lv_aload_n hx hb dL_law_2155 rfl (lv_at hl 4 rfl) ?_
  refine q_cL X hE hS w (k_reading (l := l) (D := D) hl0 hI (xs (i0 + 1).toNat) (xs (i0 + 2).toNat)) vL_227 rfl ⟨Nat.le_of_ble_eq_true rfl, Nat.le_of_ble_eq_true rfl⟩ rfl hl.1 (Nat.le_of_ble_eq_true rfl) dL_law_2156 (cap8 hcs (by decide) (by decide)) (fun z n2 σ2 H locs hz2 w => ?_)
  refine W.widen (k := cells + 8) (n := slots + 1100) (Nat.add_le_add_left (by decide) _) (Nat.add_le_add_left (by decide) _) ?_
  obtain ⟨cd, vl, hz, ⟨f, hf, hfv⟩, I1, R1, pm, es, hM, hpost⟩ := hz2
  have w : qW D b n2 (mS t b σ2 I1 R1) s H locs := by rw [← es]; exact w
  refine lv_istore (lv' := [(6, .int z), (5, .int i), (0, .ref sc), (1, .ref (b + 0)), (2, .ref (b + 45)), (3, .ref (b + 60)), (4, .ref (b + 61))]) hx hb dL_law_2159 hl (by decide) rfl (fun ls hl => ?_)
  refine lv_aload_n hx hb dL_law_2161 rfl (lv_at hl 4 rfl) ?_
  refine lv_aload_n hx hb dL_law_2162 rfl (lv_at hl 2 rfl) ?_
  refine lv_iload hx hb dL_law_2163 (lv_at hl 1 rfl) ?_
  refine lv_iconst (v := 1) hx hb dL_law_2165 (by decide) ?_
  refine lv_iadd hx hb dL_law_2166 ?_
  refine lv_topi (fun x_2166 e_2166 => ?_)
  have p_2166 : x_2166.toInt = (i0 + 1) := by rw [e_2166]; exact t_add hi (show (1 : Int32).toInt = 1 from rfl) (by omega) (by omega)
  refine va_sld hx hb hXs hbl hbA w.2.1 (g_in p_2166 (by omega)) dL_law_2167 ?_
  refine q_topE (y := xs (i0 + 1).toNat) (congrArg xs (g_tn p_2166)) ?_
  refine lv_aload_n hx hb dL_law_2168 rfl (lv_at hl 2 rfl) ?_
  refine lv_iload hx hb dL_law_2169 (lv_at hl 1 rfl) ?_
  refine lv_iconst (v := 2) hx hb dL_law_2171 (by decide) ?_
  refine lv_iadd hx hb dL_law_2172 ?_
  refine lv_topi (fun x_2172 e_2172 => ?_)
  have p_2172 : x_2172.toInt = (i0 + 2) := by rw [e_2172]; exact t_add hi (show (2 : Int32).toInt = 2 from rfl) (by omega) (by omega)
  refine va_sld hx hb hXs hbl hbA w.2.1 (g_in p_2172 (by omega)) dL_law_2173 ?_
  refine q_topE (y := xs (i0 + 2).toNat) (congrArg xs (g_tn p_2172)) ?_
  refine mm_cC X w hM vL_229 rfl rfl ⟨Nat.le_of_ble_eq_true rfl, Nat.le_of_ble_eq_true rfl⟩ rfl hl.1 (Nat.le_of_ble_eq_true rfl) dL_law_2174 hcs (fun y I2 R2 H locs hp2 w => ?_)
  obtain ⟨m1, m2, hI⟩ := hpost y I2 R2 hp2
  refine lv_istore (lv' := [(7, .int y), (6, .int z), (5, .int i), (0, .ref sc), (1, .ref (b + 0)), (2, .ref (b + 45)), (3, .ref (b + 60)), (4, .ref (b + 61))]) hx hb dL_law_2177 hl (by decide) rfl (fun ls hl => ?_)
  refine lv_aload_n hx hb dL_law_2179 rfl (lv_at hl 5 rfl) ?_
  refine q_cPV X w (c_X9_thrown l D t b _ _ I2 R2) vL_134 (k := 45) rfl rfl rfl ⟨Nat.le_of_ble_eq_true rfl, Nat.le_of_ble_eq_true rfl⟩ rfl hl.1 (Nat.le_of_ble_eq_true rfl) dL_law_2180 hcs (fun th ht => ?_)
  refine lv_iload hx hb dL_law_2183 (lv_at hl 1 rfl) ?_
  refine lv_icmp_eq (tgt := 2190) hx hb dL_law_2185 (by decide) (fun c_2185 => ?_) (fun c_2185 => ?_)
  · skip
    refine lv_iload hx hb dL_law_2190 (lv_at hl 1 rfl) ?_
    refine lv_if_ne (tgt := 2207) hx hb dL_law_2192 (by decide) (fun c_2192 => ?_) (fun c_2192 => ?_)
    · skip
      refine lv_goto (tgt := 2707) hx hb dL_law_2207 (by decide) ?_
      exact kk _ _ _ _ _ hI w (lv_sub hl [2, 3, 4, 5, 6, 7] rfl)
    · skip
      have hcd : cd = 0 := by rw [← hz, c_2192]; rfl
      refine lv_aload_n hx hb dL_law_2195 rfl (lv_at hl 6 rfl) ?_
      refine lv_iconst (v := 0) hx hb dL_law_2196 (by decide) ?_
      refine q_lald X w (k := 60) (f := f) ((mS_off (I2 := I2) (R2 := R2) (by omega)).trans hf) (i := 0) (by unfold vp_in; decide) dL_law_2197 ?_
      refine lv_iload hx hb dL_law_2198 (lv_at hl 0 rfl) ?_
      refine lv_i2l (v := y.toInt64) hx hb dL_law_2200 rfl ?_
      refine W.lcmp hx hb dL_law_2201 ?_
      refine q_topE (y := 0) (lcz (hfv hcd) (m2 hcd)) ?_
      refine lv_if_eq (tgt := 2207) hx hb dL_law_2202 (by decide) (fun c_2202 => ?_) (fun c_2202 => ?_)
      · skip
        refine lv_goto (tgt := 2707) hx hb dL_law_2207 (by decide) ?_
        exact kk _ _ _ _ _ hI w (lv_sub hl [2, 3, 4, 5, 6, 7] rfl)
      · skip
        exact absurd rfl c_2202
  · skip
    exact absurd (Int32.toInt_inj.mp ((congrArg Int32.toInt ht).trans (m1.trans hz.symm))) c_2185

set_option maxHeartbeats 1000000 in
set_option maxRecDepth 100000 in
theorem law_29 {p : Program} {l : Launch} {e : Env} {s : State} {m : MethodId} {below : List Frame} {meth : Method} {c : Code} {H : Heap} {locs : List Loc} {cells slots : Nat} {Q : State → Prop} {r : Option FieldType} {D : va_G} {t : Nat → ClassId} {b n : Nat} {σ : qM} {sc L : Nat} {xs : Nat → Int32} {ls : Array Slot} {i : Int32} {i0 : Int} (hl0 : l.stackTraces = false) (X : qX p s #[.ref sc] m meth c RL cL_law 9 r D t b) (hE : XK s) (hS : SK b s) (hXs : va_X sc L xs s s.heap) (hbl : sc < s.heap.size) (hbA : ¬ b ≤ sc) (hi : i.toInt = i0) (h0 : 0 ≤ i0 ∧ i0 + 7 ≤ L ∧ L ≤ 3584) (hcs : cells + 8 ≤ 601024 ∧ slots + 1100 ≤ 7293034) (w : qW D b n σ s H locs) (hI : LI t b σ) (hl : lv_has ls 9 [(5, .int i), (0, .ref sc), (1, .ref (b + 0)), (2, .ref (b + 45)), (3, .ref (b + 60)), (4, .ref (b + 61))]) (kk : ∀ (n : Nat) (σ : qM) (H : Heap) (locs : List Loc) (ls : Array Slot), LI t b σ → qW D b n σ s H locs → lv_has ls 9 [(5, .int i), (0, .ref sc), (1, .ref (b + 0)), (2, .ref (b + 45)), (3, .ref (b + 60)), (4, .ref (b + 61))] → W p l e room_1 s m #[.ref sc] below meth c H locs (cells + 8) (slots + 1100) Q (F0 m 2707 ls [])) : W p l e room_1 s m #[.ref sc] below meth c H locs cells slots Q (F0 m 2210 ls []) := by
  have hx := X.1
  have hb := X.2.1
  refine lv_aload_n hx hb dL_law_2210 rfl (lv_at hl 2 rfl) ?_
  obtain ⟨fs0, h0c⟩ := hI.c0
  refine W.widen (k := cells + 8) (n := slots + 1100) (Nat.le_add_right _ _) (Nat.le_add_right _ _) ?_
  obtain ⟨px, vl, hP, hv, I1, R1, pm, es, hM, hpost⟩ := d_differentDays (l := l) (D := D) (n := n) hI
  refine q_cPV X w hP vL_230 (k := 0) h0c rfl rfl ⟨Nat.le_of_ble_eq_true rfl, Nat.le_of_ble_eq_true rfl⟩ rfl hl.1 (Nat.le_of_ble_eq_true rfl) dL_law_2211 hcs (fun z hz2 => ?_)
  have hz := hv z hz2
  have w : qW D b n (mS t b σ I1 R1) s H locs := by rw [← es]; exact w
  refine lv_aload_n hx hb dL_law_2214 rfl (lv_at hl 3 rfl) ?_
  refine mm_cC X w hM vL_233 rfl rfl ⟨Nat.le_of_ble_eq_true rfl, Nat.le_of_ble_eq_true rfl⟩ rfl hl.1 (Nat.le_of_ble_eq_true rfl) dL_law_2215 hcs (fun y I2 R2 H locs hp2 w => ?_)
  obtain ⟨m1, m2, hI⟩ := hpost y I2 R2 hp2
  refine lv_icmp_eq (tgt := 2707) hx hb dL_law_2218 (by decide) (fun c_2218 => ?_) (fun c_2218 => ?_)
  · skip
    exact kk _ _ _ _ _ hI w (lv_sub hl [0, 1, 2, 3, 4, 5] rfl)
  · skip
    exact absurd (Int32.toInt_inj.mp (hz.trans (m2 rfl).symm)) c_2218

set_option maxHeartbeats 1000000 in
set_option maxRecDepth 100000 in
theorem law_30 {p : Program} {l : Launch} {e : Env} {s : State} {m : MethodId} {below : List Frame} {meth : Method} {c : Code} {H : Heap} {locs : List Loc} {cells slots : Nat} {Q : State → Prop} {r : Option FieldType} {D : va_G} {t : Nat → ClassId} {b n : Nat} {σ : qM} {sc L : Nat} {xs : Nat → Int32} {ls : Array Slot} {i : Int32} {i0 : Int} (hl0 : l.stackTraces = false) (X : qX p s #[.ref sc] m meth c RL cL_law 9 r D t b) (hE : XK s) (hS : SK b s) (hXs : va_X sc L xs s s.heap) (hbl : sc < s.heap.size) (hbA : ¬ b ≤ sc) (hi : i.toInt = i0) (h0 : 0 ≤ i0 ∧ i0 + 7 ≤ L ∧ L ≤ 3584) (hcs : cells + 8 ≤ 601024 ∧ slots + 1100 ≤ 7293034) (w : qW D b n σ s H locs) (hI : LI t b σ) (hl : lv_has ls 9 [(5, .int i), (0, .ref sc), (1, .ref (b + 0)), (2, .ref (b + 45)), (3, .ref (b + 60)), (4, .ref (b + 61))]) (kk : ∀ (n : Nat) (σ : qM) (H : Heap) (locs : List Loc) (ls : Array Slot), LI t b σ → qW D b n σ s H locs → lv_has ls 9 [(5, .int i), (0, .ref sc), (1, .ref (b + 0)), (2, .ref (b + 45)), (3, .ref (b + 60)), (4, .ref (b + 61))] → W p l e room_1 s m #[.ref sc] below meth c H locs (cells + 8) (slots + 1100) Q (F0 m 2707 ls [])) : W p l e room_1 s m #[.ref sc] below meth c H locs cells slots Q (F0 m 2223 ls []) := by
  have hx := X.1
  have hb := X.2.1
  refine lv_aload_n hx hb dL_law_2223 rfl (lv_at hl 2 rfl) ?_
  refine lv_aload_n hx hb dL_law_2224 rfl (lv_at hl 1 rfl) ?_
  refine lv_iload hx hb dL_law_2225 (lv_at hl 0 rfl) ?_
  refine lv_iconst (v := 1) hx hb dL_law_2227 (by decide) ?_
  refine lv_iadd hx hb dL_law_2228 ?_
  refine lv_topi (fun x_2228 e_2228 => ?_)
  have p_2228 : x_2228.toInt = (i0 + 1) := by rw [e_2228]; exact t_add hi (show (1 : Int32).toInt = 1 from rfl) (by omega) (by omega)
  refine va_sld hx hb hXs hbl hbA w.2.1 (g_in p_2228 (by omega)) dL_law_2229 ?_
  refine q_topE (y := xs (i0 + 1).toNat) (congrArg xs (g_tn p_2228)) ?_
  refine lv_aload_n hx hb dL_law_2230 rfl (lv_at hl 1 rfl) ?_
  refine lv_iload hx hb dL_law_2231 (lv_at hl 0 rfl) ?_
  refine lv_iconst (v := 2) hx hb dL_law_2233 (by decide) ?_
  refine lv_iadd hx hb dL_law_2234 ?_
  refine lv_topi (fun x_2234 e_2234 => ?_)
  have p_2234 : x_2234.toInt = (i0 + 2) := by rw [e_2234]; exact t_add hi (show (2 : Int32).toInt = 2 from rfl) (by omega) (by omega)
  refine va_sld hx hb hXs hbl hbA w.2.1 (g_in p_2234 (by omega)) dL_law_2235 ?_
  refine q_topE (y := xs (i0 + 2).toNat) (congrArg xs (g_tn p_2234)) ?_
  refine lv_aload_n hx hb dL_law_2236 rfl (lv_at hl 4 rfl) ?_
  refine q_cL X hE hS w (k_write (l := l) (D := D) hl0 hI (xs (i0 + 1).toNat) (xs (i0 + 2).toNat)) vL_234 rfl ⟨Nat.le_of_ble_eq_true rfl, Nat.le_of_ble_eq_true rfl⟩ rfl hl.1 (Nat.le_of_ble_eq_true rfl) dL_law_2237 (cap8 hcs (by decide) (by decide)) (fun z n2 σ2 H locs hz2 w => ?_)
  refine W.widen (k := cells + 8) (n := slots + 1100) (Nat.add_le_add_left (by decide) _) (Nat.add_le_add_left (by decide) _) ?_
  obtain ⟨cd, vl, hz, ⟨f, hf, hfv⟩, I1, R1, pm, es, hM, hpost⟩ := hz2
  have w : qW D b n2 (mS t b σ2 I1 R1) s H locs := by rw [← es]; exact w
  refine lv_istore (lv' := [(6, .int z), (5, .int i), (0, .ref sc), (1, .ref (b + 0)), (2, .ref (b + 45)), (3, .ref (b + 60)), (4, .ref (b + 61))]) hx hb dL_law_2240 hl (by decide) rfl (fun ls hl => ?_)
  refine lv_aload_n hx hb dL_law_2242 rfl (lv_at hl 4 rfl) ?_
  refine lv_aload_n hx hb dL_law_2243 rfl (lv_at hl 2 rfl) ?_
  refine lv_iload hx hb dL_law_2244 (lv_at hl 1 rfl) ?_
  refine lv_iconst (v := 1) hx hb dL_law_2246 (by decide) ?_
  refine lv_iadd hx hb dL_law_2247 ?_
  refine lv_topi (fun x_2247 e_2247 => ?_)
  have p_2247 : x_2247.toInt = (i0 + 1) := by rw [e_2247]; exact t_add hi (show (1 : Int32).toInt = 1 from rfl) (by omega) (by omega)
  refine va_sld hx hb hXs hbl hbA w.2.1 (g_in p_2247 (by omega)) dL_law_2248 ?_
  refine q_topE (y := xs (i0 + 1).toNat) (congrArg xs (g_tn p_2247)) ?_
  refine lv_aload_n hx hb dL_law_2249 rfl (lv_at hl 2 rfl) ?_
  refine lv_iload hx hb dL_law_2250 (lv_at hl 1 rfl) ?_
  refine lv_iconst (v := 2) hx hb dL_law_2252 (by decide) ?_
  refine lv_iadd hx hb dL_law_2253 ?_
  refine lv_topi (fun x_2253 e_2253 => ?_)
  have p_2253 : x_2253.toInt = (i0 + 2) := by rw [e_2253]; exact t_add hi (show (2 : Int32).toInt = 2 from rfl) (by omega) (by omega)
  refine va_sld hx hb hXs hbl hbA w.2.1 (g_in p_2253 (by omega)) dL_law_2254 ?_
  refine q_topE (y := xs (i0 + 2).toNat) (congrArg xs (g_tn p_2253)) ?_
  refine mm_cC X w hM vL_236 rfl rfl ⟨Nat.le_of_ble_eq_true rfl, Nat.le_of_ble_eq_true rfl⟩ rfl hl.1 (Nat.le_of_ble_eq_true rfl) dL_law_2255 hcs (fun y I2 R2 H locs hp2 w => ?_)
  obtain ⟨m1, m2, hI⟩ := hpost y I2 R2 hp2
  refine lv_istore (lv' := [(7, .int y), (6, .int z), (5, .int i), (0, .ref sc), (1, .ref (b + 0)), (2, .ref (b + 45)), (3, .ref (b + 60)), (4, .ref (b + 61))]) hx hb dL_law_2258 hl (by decide) rfl (fun ls hl => ?_)
  refine lv_aload_n hx hb dL_law_2260 rfl (lv_at hl 5 rfl) ?_
  refine q_cPV X w (c_X9_thrown l D t b _ _ I2 R2) vL_134 (k := 45) rfl rfl rfl ⟨Nat.le_of_ble_eq_true rfl, Nat.le_of_ble_eq_true rfl⟩ rfl hl.1 (Nat.le_of_ble_eq_true rfl) dL_law_2261 hcs (fun th ht => ?_)
  refine lv_iload hx hb dL_law_2264 (lv_at hl 1 rfl) ?_
  refine lv_icmp_eq (tgt := 2271) hx hb dL_law_2266 (by decide) (fun c_2266 => ?_) (fun c_2266 => ?_)
  · skip
    refine lv_iload hx hb dL_law_2271 (lv_at hl 1 rfl) ?_
    refine lv_if_ne (tgt := 2288) hx hb dL_law_2273 (by decide) (fun c_2273 => ?_) (fun c_2273 => ?_)
    · skip
      refine lv_goto (tgt := 2707) hx hb dL_law_2288 (by decide) ?_
      exact kk _ _ _ _ _ hI w (lv_sub hl [2, 3, 4, 5, 6, 7] rfl)
    · skip
      have hcd : cd = 0 := by rw [← hz, c_2273]; rfl
      refine lv_aload_n hx hb dL_law_2276 rfl (lv_at hl 6 rfl) ?_
      refine lv_iconst (v := 0) hx hb dL_law_2277 (by decide) ?_
      refine q_lald X w (k := 60) (f := f) ((mS_off (I2 := I2) (R2 := R2) (by omega)).trans hf) (i := 0) (by unfold vp_in; decide) dL_law_2278 ?_
      refine lv_iload hx hb dL_law_2279 (lv_at hl 0 rfl) ?_
      refine lv_i2l (v := y.toInt64) hx hb dL_law_2281 rfl ?_
      refine W.lcmp hx hb dL_law_2282 ?_
      refine q_topE (y := 0) (lcz (hfv hcd) (m2 hcd)) ?_
      refine lv_if_eq (tgt := 2288) hx hb dL_law_2283 (by decide) (fun c_2283 => ?_) (fun c_2283 => ?_)
      · skip
        refine lv_goto (tgt := 2707) hx hb dL_law_2288 (by decide) ?_
        exact kk _ _ _ _ _ hI w (lv_sub hl [2, 3, 4, 5, 6, 7] rfl)
      · skip
        exact absurd rfl c_2283
  · skip
    exact absurd (Int32.toInt_inj.mp ((congrArg Int32.toInt ht).trans (m1.trans hz.symm))) c_2266

set_option maxHeartbeats 1000000 in
set_option maxRecDepth 100000 in
theorem law_31 {p : Program} {l : Launch} {e : Env} {s : State} {m : MethodId} {below : List Frame} {meth : Method} {c : Code} {H : Heap} {locs : List Loc} {cells slots : Nat} {Q : State → Prop} {r : Option FieldType} {D : va_G} {t : Nat → ClassId} {b n : Nat} {σ : qM} {sc L : Nat} {xs : Nat → Int32} {ls : Array Slot} {i : Int32} {i0 : Int} (hl0 : l.stackTraces = false) (X : qX p s #[.ref sc] m meth c RL cL_law 9 r D t b) (hE : XK s) (hS : SK b s) (hXs : va_X sc L xs s s.heap) (hbl : sc < s.heap.size) (hbA : ¬ b ≤ sc) (hi : i.toInt = i0) (h0 : 0 ≤ i0 ∧ i0 + 7 ≤ L ∧ L ≤ 3584) (hcs : cells + 8 ≤ 601024 ∧ slots + 1100 ≤ 7293034) (w : qW D b n σ s H locs) (hI : LI t b σ) (hl : lv_has ls 9 [(5, .int i), (0, .ref sc), (1, .ref (b + 0)), (2, .ref (b + 45)), (3, .ref (b + 60)), (4, .ref (b + 61))]) (kk : ∀ (n : Nat) (σ : qM) (H : Heap) (locs : List Loc) (ls : Array Slot), LI t b σ → qW D b n σ s H locs → lv_has ls 9 [(5, .int i), (0, .ref sc), (1, .ref (b + 0)), (2, .ref (b + 45)), (3, .ref (b + 60)), (4, .ref (b + 61))] → W p l e room_1 s m #[.ref sc] below meth c H locs (cells + 8) (slots + 1100) Q (F0 m 2707 ls [])) : W p l e room_1 s m #[.ref sc] below meth c H locs cells slots Q (F0 m 2291 ls []) := by
  have hx := X.1
  have hb := X.2.1
  refine lv_aload_n hx hb dL_law_2291 rfl (lv_at hl 2 rfl) ?_
  refine lv_aload_n hx hb dL_law_2292 rfl (lv_at hl 1 rfl) ?_
  refine lv_iload hx hb dL_law_2293 (lv_at hl 0 rfl) ?_
  refine lv_iconst (v := 1) hx hb dL_law_2295 (by decide) ?_
  refine lv_iadd hx hb dL_law_2296 ?_
  refine lv_topi (fun x_2296 e_2296 => ?_)
  have p_2296 : x_2296.toInt = (i0 + 1) := by rw [e_2296]; exact t_add hi (show (1 : Int32).toInt = 1 from rfl) (by omega) (by omega)
  refine va_sld hx hb hXs hbl hbA w.2.1 (g_in p_2296 (by omega)) dL_law_2297 ?_
  refine q_topE (y := xs (i0 + 1).toNat) (congrArg xs (g_tn p_2296)) ?_
  refine lv_aload_n hx hb dL_law_2298 rfl (lv_at hl 4 rfl) ?_
  refine q_cL X hE hS w (k_output (l := l) (D := D) hl0 hI (xs (i0 + 1).toNat)) vL_237 rfl ⟨Nat.le_of_ble_eq_true rfl, Nat.le_of_ble_eq_true rfl⟩ rfl hl.1 (Nat.le_of_ble_eq_true rfl) dL_law_2299 (cap8 hcs (by decide) (by decide)) (fun z n2 σ2 H locs hz2 w => ?_)
  refine W.widen (k := cells + 8) (n := slots + 1100) (Nat.add_le_add_left (by decide) _) (Nat.add_le_add_left (by decide) _) ?_
  obtain ⟨cd, vl, hz, ⟨f, hf, hfv⟩, I1, R1, pm, es, hM, hpost⟩ := hz2
  have w : qW D b n2 (mS t b σ2 I1 R1) s H locs := by rw [← es]; exact w
  refine lv_istore (lv' := [(6, .int z), (5, .int i), (0, .ref sc), (1, .ref (b + 0)), (2, .ref (b + 45)), (3, .ref (b + 60)), (4, .ref (b + 61))]) hx hb dL_law_2302 hl (by decide) rfl (fun ls hl => ?_)
  refine lv_aload_n hx hb dL_law_2304 rfl (lv_at hl 4 rfl) ?_
  refine lv_aload_n hx hb dL_law_2305 rfl (lv_at hl 2 rfl) ?_
  refine lv_iload hx hb dL_law_2306 (lv_at hl 1 rfl) ?_
  refine lv_iconst (v := 1) hx hb dL_law_2308 (by decide) ?_
  refine lv_iadd hx hb dL_law_2309 ?_
  refine lv_topi (fun x_2309 e_2309 => ?_)
  have p_2309 : x_2309.toInt = (i0 + 1) := by rw [e_2309]; exact t_add hi (show (1 : Int32).toInt = 1 from rfl) (by omega) (by omega)
  refine va_sld hx hb hXs hbl hbA w.2.1 (g_in p_2309 (by omega)) dL_law_2310 ?_
  refine q_topE (y := xs (i0 + 1).toNat) (congrArg xs (g_tn p_2309)) ?_
  refine mm_cC X w hM vL_239 rfl rfl ⟨Nat.le_of_ble_eq_true rfl, Nat.le_of_ble_eq_true rfl⟩ rfl hl.1 (Nat.le_of_ble_eq_true rfl) dL_law_2311 hcs (fun y I2 R2 H locs hp2 w => ?_)
  obtain ⟨m1, m2, hI⟩ := hpost y I2 R2 hp2
  refine lv_istore (lv' := [(7, .int y), (6, .int z), (5, .int i), (0, .ref sc), (1, .ref (b + 0)), (2, .ref (b + 45)), (3, .ref (b + 60)), (4, .ref (b + 61))]) hx hb dL_law_2314 hl (by decide) rfl (fun ls hl => ?_)
  refine lv_aload_n hx hb dL_law_2316 rfl (lv_at hl 5 rfl) ?_
  refine q_cPV X w (c_X9_thrown l D t b _ _ I2 R2) vL_134 (k := 45) rfl rfl rfl ⟨Nat.le_of_ble_eq_true rfl, Nat.le_of_ble_eq_true rfl⟩ rfl hl.1 (Nat.le_of_ble_eq_true rfl) dL_law_2317 hcs (fun th ht => ?_)
  refine lv_iload hx hb dL_law_2320 (lv_at hl 1 rfl) ?_
  refine lv_icmp_eq (tgt := 2327) hx hb dL_law_2322 (by decide) (fun c_2322 => ?_) (fun c_2322 => ?_)
  · skip
    refine lv_iload hx hb dL_law_2327 (lv_at hl 1 rfl) ?_
    refine lv_if_ne (tgt := 2344) hx hb dL_law_2329 (by decide) (fun c_2329 => ?_) (fun c_2329 => ?_)
    · skip
      refine lv_goto (tgt := 2707) hx hb dL_law_2344 (by decide) ?_
      exact kk _ _ _ _ _ hI w (lv_sub hl [2, 3, 4, 5, 6, 7] rfl)
    · skip
      have hcd : cd = 0 := by rw [← hz, c_2329]; rfl
      refine lv_aload_n hx hb dL_law_2332 rfl (lv_at hl 6 rfl) ?_
      refine lv_iconst (v := 0) hx hb dL_law_2333 (by decide) ?_
      refine q_lald X w (k := 60) (f := f) ((mS_off (I2 := I2) (R2 := R2) (by omega)).trans hf) (i := 0) (by unfold vp_in; decide) dL_law_2334 ?_
      refine lv_iload hx hb dL_law_2335 (lv_at hl 0 rfl) ?_
      refine lv_i2l (v := y.toInt64) hx hb dL_law_2337 rfl ?_
      refine W.lcmp hx hb dL_law_2338 ?_
      refine q_topE (y := 0) (lcz (hfv hcd) (m2 hcd)) ?_
      refine lv_if_eq (tgt := 2344) hx hb dL_law_2339 (by decide) (fun c_2339 => ?_) (fun c_2339 => ?_)
      · skip
        refine lv_goto (tgt := 2707) hx hb dL_law_2344 (by decide) ?_
        exact kk _ _ _ _ _ hI w (lv_sub hl [2, 3, 4, 5, 6, 7] rfl)
      · skip
        exact absurd rfl c_2339
  · skip
    exact absurd (Int32.toInt_inj.mp ((congrArg Int32.toInt ht).trans (m1.trans hz.symm))) c_2322

set_option maxHeartbeats 1000000 in
set_option maxRecDepth 100000 in
theorem law_32 {p : Program} {l : Launch} {e : Env} {s : State} {m : MethodId} {below : List Frame} {meth : Method} {c : Code} {H : Heap} {locs : List Loc} {cells slots : Nat} {Q : State → Prop} {r : Option FieldType} {D : va_G} {t : Nat → ClassId} {b n : Nat} {σ : qM} {sc L : Nat} {xs : Nat → Int32} {ls : Array Slot} {i : Int32} {i0 : Int} (hl0 : l.stackTraces = false) (X : qX p s #[.ref sc] m meth c RL cL_law 9 r D t b) (hE : XK s) (hS : SK b s) (hXs : va_X sc L xs s s.heap) (hbl : sc < s.heap.size) (hbA : ¬ b ≤ sc) (hi : i.toInt = i0) (h0 : 0 ≤ i0 ∧ i0 + 7 ≤ L ∧ L ≤ 3584) (hcs : cells + 8 ≤ 601024 ∧ slots + 1100 ≤ 7293034) (w : qW D b n σ s H locs) (hI : LI t b σ) (hl : lv_has ls 9 [(5, .int i), (0, .ref sc), (1, .ref (b + 0)), (2, .ref (b + 45)), (3, .ref (b + 60)), (4, .ref (b + 61))]) (kk : ∀ (n : Nat) (σ : qM) (H : Heap) (locs : List Loc) (ls : Array Slot), LI t b σ → qW D b n σ s H locs → lv_has ls 9 [(5, .int i), (0, .ref sc), (1, .ref (b + 0)), (2, .ref (b + 45)), (3, .ref (b + 60)), (4, .ref (b + 61))] → W p l e room_1 s m #[.ref sc] below meth c H locs (cells + 8) (slots + 1100) Q (F0 m 2707 ls [])) : W p l e room_1 s m #[.ref sc] below meth c H locs cells slots Q (F0 m 2347 ls []) := by
  have hx := X.1
  have hb := X.2.1
  refine lv_aload_n hx hb dL_law_2347 rfl (lv_at hl 2 rfl) ?_
  refine lv_aload_n hx hb dL_law_2348 rfl (lv_at hl 1 rfl) ?_
  refine lv_iload hx hb dL_law_2349 (lv_at hl 0 rfl) ?_
  refine lv_iconst (v := 1) hx hb dL_law_2351 (by decide) ?_
  refine lv_iadd hx hb dL_law_2352 ?_
  refine lv_topi (fun x_2352 e_2352 => ?_)
  have p_2352 : x_2352.toInt = (i0 + 1) := by rw [e_2352]; exact t_add hi (show (1 : Int32).toInt = 1 from rfl) (by omega) (by omega)
  refine va_sld hx hb hXs hbl hbA w.2.1 (g_in p_2352 (by omega)) dL_law_2353 ?_
  refine q_topE (y := xs (i0 + 1).toNat) (congrArg xs (g_tn p_2352)) ?_
  refine lv_aload_n hx hb dL_law_2354 rfl (lv_at hl 1 rfl) ?_
  refine lv_iload hx hb dL_law_2355 (lv_at hl 0 rfl) ?_
  refine lv_iconst (v := 2) hx hb dL_law_2357 (by decide) ?_
  refine lv_iadd hx hb dL_law_2358 ?_
  refine lv_topi (fun x_2358 e_2358 => ?_)
  have p_2358 : x_2358.toInt = (i0 + 2) := by rw [e_2358]; exact t_add hi (show (2 : Int32).toInt = 2 from rfl) (by omega) (by omega)
  refine va_sld hx hb hXs hbl hbA w.2.1 (g_in p_2358 (by omega)) dL_law_2359 ?_
  refine q_topE (y := xs (i0 + 2).toNat) (congrArg xs (g_tn p_2358)) ?_
  refine lv_aload_n hx hb dL_law_2360 rfl (lv_at hl 1 rfl) ?_
  refine lv_iload hx hb dL_law_2361 (lv_at hl 0 rfl) ?_
  refine lv_iconst (v := 3) hx hb dL_law_2363 (by decide) ?_
  refine lv_iadd hx hb dL_law_2364 ?_
  refine lv_topi (fun x_2364 e_2364 => ?_)
  have p_2364 : x_2364.toInt = (i0 + 3) := by rw [e_2364]; exact t_add hi (show (3 : Int32).toInt = 3 from rfl) (by omega) (by omega)
  refine va_sld hx hb hXs hbl hbA w.2.1 (g_in p_2364 (by omega)) dL_law_2365 ?_
  refine q_topE (y := xs (i0 + 3).toNat) (congrArg xs (g_tn p_2364)) ?_
  refine lv_aload_n hx hb dL_law_2366 rfl (lv_at hl 1 rfl) ?_
  refine lv_iload hx hb dL_law_2367 (lv_at hl 0 rfl) ?_
  refine lv_iconst (v := 4) hx hb dL_law_2369 (by decide) ?_
  refine lv_iadd hx hb dL_law_2370 ?_
  refine lv_topi (fun x_2370 e_2370 => ?_)
  have p_2370 : x_2370.toInt = (i0 + 4) := by rw [e_2370]; exact t_add hi (show (4 : Int32).toInt = 4 from rfl) (by omega) (by omega)
  refine va_sld hx hb hXs hbl hbA w.2.1 (g_in p_2370 (by omega)) dL_law_2371 ?_
  refine q_topE (y := xs (i0 + 4).toNat) (congrArg xs (g_tn p_2370)) ?_
  refine lv_aload_n hx hb dL_law_2372 rfl (lv_at hl 4 rfl) ?_
  refine q_cL X hE hS w (k_newYears (l := l) (D := D) hl0 hI (xs (i0 + 1).toNat) (xs (i0 + 2).toNat) (xs (i0 + 3).toNat) (xs (i0 + 4).toNat)) vL_240 rfl ⟨Nat.le_of_ble_eq_true rfl, Nat.le_of_ble_eq_true rfl⟩ rfl hl.1 (Nat.le_of_ble_eq_true rfl) dL_law_2373 (cap8 hcs (by decide) (by decide)) (fun z n2 σ2 H locs hz2 w => ?_)
  refine W.widen (k := cells + 8) (n := slots + 1100) (Nat.add_le_add_left (by decide) _) (Nat.add_le_add_left (by decide) _) ?_
  obtain ⟨cd, vl, hz, ⟨f, hf, hfv⟩, I1, R1, pm, es, hM, hpost⟩ := hz2
  have w : qW D b n2 (mS t b σ2 I1 R1) s H locs := by rw [← es]; exact w
  refine lv_istore (lv' := [(6, .int z), (5, .int i), (0, .ref sc), (1, .ref (b + 0)), (2, .ref (b + 45)), (3, .ref (b + 60)), (4, .ref (b + 61))]) hx hb dL_law_2376 hl (by decide) rfl (fun ls hl => ?_)
  refine lv_aload_n hx hb dL_law_2378 rfl (lv_at hl 4 rfl) ?_
  refine lv_aload_n hx hb dL_law_2379 rfl (lv_at hl 2 rfl) ?_
  refine lv_iload hx hb dL_law_2380 (lv_at hl 1 rfl) ?_
  refine lv_iconst (v := 1) hx hb dL_law_2382 (by decide) ?_
  refine lv_iadd hx hb dL_law_2383 ?_
  refine lv_topi (fun x_2383 e_2383 => ?_)
  have p_2383 : x_2383.toInt = (i0 + 1) := by rw [e_2383]; exact t_add hi (show (1 : Int32).toInt = 1 from rfl) (by omega) (by omega)
  refine va_sld hx hb hXs hbl hbA w.2.1 (g_in p_2383 (by omega)) dL_law_2384 ?_
  refine q_topE (y := xs (i0 + 1).toNat) (congrArg xs (g_tn p_2383)) ?_
  refine lv_aload_n hx hb dL_law_2385 rfl (lv_at hl 2 rfl) ?_
  refine lv_iload hx hb dL_law_2386 (lv_at hl 1 rfl) ?_
  refine lv_iconst (v := 2) hx hb dL_law_2388 (by decide) ?_
  refine lv_iadd hx hb dL_law_2389 ?_
  refine lv_topi (fun x_2389 e_2389 => ?_)
  have p_2389 : x_2389.toInt = (i0 + 2) := by rw [e_2389]; exact t_add hi (show (2 : Int32).toInt = 2 from rfl) (by omega) (by omega)
  refine va_sld hx hb hXs hbl hbA w.2.1 (g_in p_2389 (by omega)) dL_law_2390 ?_
  refine q_topE (y := xs (i0 + 2).toNat) (congrArg xs (g_tn p_2389)) ?_
  refine lv_aload_n hx hb dL_law_2391 rfl (lv_at hl 2 rfl) ?_
  refine lv_iload hx hb dL_law_2392 (lv_at hl 1 rfl) ?_
  refine lv_iconst (v := 3) hx hb dL_law_2394 (by decide) ?_
  refine lv_iadd hx hb dL_law_2395 ?_
  refine lv_topi (fun x_2395 e_2395 => ?_)
  have p_2395 : x_2395.toInt = (i0 + 3) := by rw [e_2395]; exact t_add hi (show (3 : Int32).toInt = 3 from rfl) (by omega) (by omega)
  refine va_sld hx hb hXs hbl hbA w.2.1 (g_in p_2395 (by omega)) dL_law_2396 ?_
  refine q_topE (y := xs (i0 + 3).toNat) (congrArg xs (g_tn p_2395)) ?_
  refine lv_aload_n hx hb dL_law_2397 rfl (lv_at hl 2 rfl) ?_
  refine lv_iload hx hb dL_law_2398 (lv_at hl 1 rfl) ?_
  refine lv_iconst (v := 4) hx hb dL_law_2400 (by decide) ?_
  refine lv_iadd hx hb dL_law_2401 ?_
  refine lv_topi (fun x_2401 e_2401 => ?_)
  have p_2401 : x_2401.toInt = (i0 + 4) := by rw [e_2401]; exact t_add hi (show (4 : Int32).toInt = 4 from rfl) (by omega) (by omega)
  refine va_sld hx hb hXs hbl hbA w.2.1 (g_in p_2401 (by omega)) dL_law_2402 ?_
  refine q_topE (y := xs (i0 + 4).toNat) (congrArg xs (g_tn p_2401)) ?_
  refine mm_cC X w hM vL_242 rfl rfl ⟨Nat.le_of_ble_eq_true rfl, Nat.le_of_ble_eq_true rfl⟩ rfl hl.1 (Nat.le_of_ble_eq_true rfl) dL_law_2403 hcs (fun y I2 R2 H locs hp2 w => ?_)
  obtain ⟨m1, m2, hI⟩ := hpost y I2 R2 hp2
  refine lv_istore (lv' := [(7, .int y), (6, .int z), (5, .int i), (0, .ref sc), (1, .ref (b + 0)), (2, .ref (b + 45)), (3, .ref (b + 60)), (4, .ref (b + 61))]) hx hb dL_law_2406 hl (by decide) rfl (fun ls hl => ?_)
  refine lv_aload_n hx hb dL_law_2408 rfl (lv_at hl 5 rfl) ?_
  refine q_cPV X w (c_X9_thrown l D t b _ _ I2 R2) vL_134 (k := 45) rfl rfl rfl ⟨Nat.le_of_ble_eq_true rfl, Nat.le_of_ble_eq_true rfl⟩ rfl hl.1 (Nat.le_of_ble_eq_true rfl) dL_law_2409 hcs (fun th ht => ?_)
  refine lv_iload hx hb dL_law_2412 (lv_at hl 1 rfl) ?_
  refine lv_icmp_eq (tgt := 2419) hx hb dL_law_2414 (by decide) (fun c_2414 => ?_) (fun c_2414 => ?_)
  · skip
    refine lv_iload hx hb dL_law_2419 (lv_at hl 1 rfl) ?_
    refine lv_if_ne (tgt := 2436) hx hb dL_law_2421 (by decide) (fun c_2421 => ?_) (fun c_2421 => ?_)
    · skip
      refine lv_goto (tgt := 2707) hx hb dL_law_2436 (by decide) ?_
      exact kk _ _ _ _ _ hI w (lv_sub hl [2, 3, 4, 5, 6, 7] rfl)
    · skip
      have hcd : cd = 0 := by rw [← hz, c_2421]; rfl
      refine lv_aload_n hx hb dL_law_2424 rfl (lv_at hl 6 rfl) ?_
      refine lv_iconst (v := 0) hx hb dL_law_2425 (by decide) ?_
      refine q_lald X w (k := 60) (f := f) ((mS_off (I2 := I2) (R2 := R2) (by omega)).trans hf) (i := 0) (by unfold vp_in; decide) dL_law_2426 ?_
      refine lv_iload hx hb dL_law_2427 (lv_at hl 0 rfl) ?_
      refine lv_i2l (v := y.toInt64) hx hb dL_law_2429 rfl ?_
      refine W.lcmp hx hb dL_law_2430 ?_
      refine q_topE (y := 0) (lcz (hfv hcd) (m2 hcd)) ?_
      refine lv_if_eq (tgt := 2436) hx hb dL_law_2431 (by decide) (fun c_2431 => ?_) (fun c_2431 => ?_)
      · skip
        refine lv_goto (tgt := 2707) hx hb dL_law_2436 (by decide) ?_
        exact kk _ _ _ _ _ hI w (lv_sub hl [2, 3, 4, 5, 6, 7] rfl)
      · skip
        exact absurd rfl c_2431
  · skip
    exact absurd (Int32.toInt_inj.mp ((congrArg Int32.toInt ht).trans (m1.trans hz.symm))) c_2414

set_option maxHeartbeats 1000000 in
set_option maxRecDepth 100000 in
theorem law_33 {p : Program} {l : Launch} {e : Env} {s : State} {m : MethodId} {below : List Frame} {meth : Method} {c : Code} {H : Heap} {locs : List Loc} {cells slots : Nat} {Q : State → Prop} {r : Option FieldType} {D : va_G} {t : Nat → ClassId} {b n : Nat} {σ : qM} {sc L : Nat} {xs : Nat → Int32} {ls : Array Slot} {i : Int32} {i0 : Int} (hl0 : l.stackTraces = false) (X : qX p s #[.ref sc] m meth c RL cL_law 9 r D t b) (hE : XK s) (hS : SK b s) (hXs : va_X sc L xs s s.heap) (hbl : sc < s.heap.size) (hbA : ¬ b ≤ sc) (hi : i.toInt = i0) (h0 : 0 ≤ i0 ∧ i0 + 7 ≤ L ∧ L ≤ 3584) (hcs : cells + 8 ≤ 601024 ∧ slots + 1100 ≤ 7293034) (w : qW D b n σ s H locs) (hI : LI t b σ) (hl : lv_has ls 9 [(5, .int i), (0, .ref sc), (1, .ref (b + 0)), (2, .ref (b + 45)), (3, .ref (b + 60)), (4, .ref (b + 61))]) (kk : ∀ (n : Nat) (σ : qM) (H : Heap) (locs : List Loc) (ls : Array Slot), LI t b σ → qW D b n σ s H locs → lv_has ls 9 [(5, .int i), (0, .ref sc), (1, .ref (b + 0)), (2, .ref (b + 45)), (3, .ref (b + 60)), (4, .ref (b + 61))] → W p l e room_1 s m #[.ref sc] below meth c H locs (cells + 8) (slots + 1100) Q (F0 m 2707 ls [])) : W p l e room_1 s m #[.ref sc] below meth c H locs cells slots Q (F0 m 2439 ls []) := by
  have hx := X.1
  have hb := X.2.1
  refine lv_aload_n hx hb dL_law_2439 rfl (lv_at hl 2 rfl) ?_
  refine lv_aload_n hx hb dL_law_2440 rfl (lv_at hl 1 rfl) ?_
  refine lv_iload hx hb dL_law_2441 (lv_at hl 0 rfl) ?_
  refine lv_iconst (v := 1) hx hb dL_law_2443 (by decide) ?_
  refine lv_iadd hx hb dL_law_2444 ?_
  refine lv_topi (fun x_2444 e_2444 => ?_)
  have p_2444 : x_2444.toInt = (i0 + 1) := by rw [e_2444]; exact t_add hi (show (1 : Int32).toInt = 1 from rfl) (by omega) (by omega)
  refine va_sld hx hb hXs hbl hbA w.2.1 (g_in p_2444 (by omega)) dL_law_2445 ?_
  refine q_topE (y := xs (i0 + 1).toNat) (congrArg xs (g_tn p_2444)) ?_
  refine lv_aload hx hb dL_law_2446 (lv_at hl 5 rfl) ?_
  refine q_cL X hE hS w (k_averageYear (l := l) (D := D) hl0 hI (xs (i0 + 1).toNat)) vL_243 rfl ⟨Nat.le_of_ble_eq_true rfl, Nat.le_of_ble_eq_true rfl⟩ rfl hl.1 (Nat.le_of_ble_eq_true rfl) dL_law_2448 (cap8 hcs (by decide) (by decide)) (fun z n2 σ2 H locs hz2 w => ?_)
  refine W.widen (k := cells + 8) (n := slots + 1100) (Nat.add_le_add_left (by decide) _) (Nat.add_le_add_left (by decide) _) ?_
  obtain ⟨cd, x9, hz, ⟨f, hf, hfx⟩, pm, hM, ⟨I9, R9, e9⟩, hpost⟩ := hz2
  refine lv_istore (lv' := [(6, .int z), (5, .int i), (0, .ref sc), (1, .ref (b + 0)), (2, .ref (b + 45)), (3, .ref (b + 60)), (4, .ref (b + 61))]) hx hb dL_law_2451 hl (by decide) rfl (fun ls hl => ?_)
  refine lv_aload_n hx hb dL_law_2453 rfl (lv_at hl 4 rfl) ?_
  refine lv_aload_n hx hb dL_law_2454 rfl (lv_at hl 2 rfl) ?_
  refine lv_iload hx hb dL_law_2455 (lv_at hl 1 rfl) ?_
  refine lv_iconst (v := 1) hx hb dL_law_2457 (by decide) ?_
  refine lv_iadd hx hb dL_law_2458 ?_
  refine lv_topi (fun x_2458 e_2458 => ?_)
  have p_2458 : x_2458.toInt = (i0 + 1) := by rw [e_2458]; exact t_add hi (show (1 : Int32).toInt = 1 from rfl) (by omega) (by omega)
  refine va_sld hx hb hXs hbl hbA w.2.1 (g_in p_2458 (by omega)) dL_law_2459 ?_
  refine q_topE (y := xs (i0 + 1).toNat) (congrArg xs (g_tn p_2458)) ?_
  refine g_cV X w hM vL_246 (k := 45) ((congrFun e9 45).trans rfl) rfl rfl ⟨Nat.le_of_ble_eq_true rfl, Nat.le_of_ble_eq_true rfl⟩ rfl hl.1 (Nat.le_of_ble_eq_true rfl) dL_law_2460 hcs (fun v2 n3 σ3 H locs hp2 w => ?_)
  obtain ⟨hn3, h61, u, I2, R2, hv, e3, m1, m2, hI⟩ := hpost _ _ _ hp2
  rw [hv]
  have w : qW D b n3 (mS t b σ3 I2 R2) s H locs := by rw [← e3]; exact w
  have hI : LI t b (mS t b σ3 I2 R2) := by rw [← e3]; exact hI
  refine lv_dstore (lv' := [(7, .double u), (6, .int z), (5, .int i), (0, .ref sc), (1, .ref (b + 0)), (2, .ref (b + 45)), (3, .ref (b + 60)), (4, .ref (b + 61))]) hx hb dL_law_2463 hl (by decide) rfl (fun ls hl => ?_)
  refine lv_aload_n hx hb dL_law_2465 rfl (lv_at hl 5 rfl) ?_
  refine q_cPV X w (c_X9_thrown l D t b _ _ I2 R2) vL_134 (k := 45) rfl rfl rfl ⟨Nat.le_of_ble_eq_true rfl, Nat.le_of_ble_eq_true rfl⟩ rfl hl.1 (Nat.le_of_ble_eq_true rfl) dL_law_2466 hcs (fun th ht => ?_)
  refine lv_iload hx hb dL_law_2469 (lv_at hl 1 rfl) ?_
  refine lv_icmp_eq (tgt := 2476) hx hb dL_law_2471 (by decide) (fun c_2471 => ?_) (fun c_2471 => ?_)
  · skip
    refine lv_iload hx hb dL_law_2476 (lv_at hl 1 rfl) ?_
    refine lv_if_ne (tgt := 2513) hx hb dL_law_2478 (by decide) (fun c_2478 => ?_) (fun c_2478 => ?_)
    · skip
      refine lv_goto (tgt := 2707) hx hb dL_law_2513 (by decide) ?_
      exact kk _ _ _ _ _ hI w (lv_sub hl [2, 3, 4, 5, 6, 7] rfl)
    · skip
      have hcd : cd = 0 := by rw [← hz, c_2478]; rfl
      refine lv_aload hx hb dL_law_2481 (lv_at hl 7 rfl) ?_
      refine lv_iconst (v := 0) hx hb dL_law_2483 (by decide) ?_
      refine q_dald X w (k := 61) (f := f) ((mS_off (I2 := I2) (R2 := R2) (by omega)).trans (h61.trans hf)) (i := 0) (by unfold vp_in; decide) dL_law_2484 ?_
      refine lv_dload hx hb dL_law_2485 (lv_at hl 0 rfl) ?_
      refine lv_dcmp hx hb dL_law_2487 ?_
      refine q_topE (y := 0) (show Op.cmpValue (FP.dcmp (f 0) u) .l = 0 by rw [(hfx hcd).1, m2 hcd, (hfx hcd).2]; rfl) ?_
      refine lv_if_eq (tgt := 2513) hx hb dL_law_2488 (by decide) (fun c_2488 => ?_) (fun c_2488 => ?_)
      · skip
        refine lv_goto (tgt := 2707) hx hb dL_law_2513 (by decide) ?_
        exact kk _ _ _ _ _ hI w (lv_sub hl [2, 3, 4, 5, 6, 7] rfl)
      · skip
        exact absurd rfl c_2488
  · skip
    exact absurd (Int32.toInt_inj.mp ((congrArg Int32.toInt ht).trans (m1.trans hz.symm))) c_2471

set_option maxHeartbeats 1000000 in
set_option maxRecDepth 100000 in
theorem law_34 {p : Program} {l : Launch} {e : Env} {s : State} {m : MethodId} {below : List Frame} {meth : Method} {c : Code} {H : Heap} {locs : List Loc} {cells slots : Nat} {Q : State → Prop} {r : Option FieldType} {D : va_G} {t : Nat → ClassId} {b n : Nat} {σ : qM} {sc L : Nat} {xs : Nat → Int32} {ls : Array Slot} {i : Int32} {i0 : Int} (hl0 : l.stackTraces = false) (X : qX p s #[.ref sc] m meth c RL cL_law 9 r D t b) (hE : XK s) (hS : SK b s) (hXs : va_X sc L xs s s.heap) (hbl : sc < s.heap.size) (hbA : ¬ b ≤ sc) (hi : i.toInt = i0) (h0 : 0 ≤ i0 ∧ i0 + 7 ≤ L ∧ L ≤ 3584) (hcs : cells + 8 ≤ 601024 ∧ slots + 1100 ≤ 7293034) (w : qW D b n σ s H locs) (hI : LI t b σ) (hl : lv_has ls 9 [(5, .int i), (0, .ref sc), (1, .ref (b + 0)), (2, .ref (b + 45)), (3, .ref (b + 60)), (4, .ref (b + 61))]) (kk : ∀ (n : Nat) (σ : qM) (H : Heap) (locs : List Loc) (ls : Array Slot), LI t b σ → qW D b n σ s H locs → lv_has ls 9 [(5, .int i), (0, .ref sc), (1, .ref (b + 0)), (2, .ref (b + 45)), (3, .ref (b + 60)), (4, .ref (b + 61))] → W p l e room_1 s m #[.ref sc] below meth c H locs (cells + 8) (slots + 1100) Q (F0 m 2707 ls [])) : W p l e room_1 s m #[.ref sc] below meth c H locs cells slots Q (F0 m 2516 ls []) := by
  have hx := X.1
  have hb := X.2.1
  refine lv_aload_n hx hb dL_law_2516 rfl (lv_at hl 2 rfl) ?_
  refine lv_aload_n hx hb dL_law_2517 rfl (lv_at hl 1 rfl) ?_
  refine lv_iload hx hb dL_law_2518 (lv_at hl 0 rfl) ?_
  refine lv_iconst (v := 1) hx hb dL_law_2520 (by decide) ?_
  refine lv_iadd hx hb dL_law_2521 ?_
  refine lv_topi (fun x_2521 e_2521 => ?_)
  have p_2521 : x_2521.toInt = (i0 + 1) := by rw [e_2521]; exact t_add hi (show (1 : Int32).toInt = 1 from rfl) (by omega) (by omega)
  refine va_sld hx hb hXs hbl hbA w.2.1 (g_in p_2521 (by omega)) dL_law_2522 ?_
  refine q_topE (y := xs (i0 + 1).toNat) (congrArg xs (g_tn p_2521)) ?_
  refine lv_aload_n hx hb dL_law_2523 rfl (lv_at hl 1 rfl) ?_
  refine lv_iload hx hb dL_law_2524 (lv_at hl 0 rfl) ?_
  refine lv_iconst (v := 2) hx hb dL_law_2526 (by decide) ?_
  refine lv_iadd hx hb dL_law_2527 ?_
  refine lv_topi (fun x_2527 e_2527 => ?_)
  have p_2527 : x_2527.toInt = (i0 + 2) := by rw [e_2527]; exact t_add hi (show (2 : Int32).toInt = 2 from rfl) (by omega) (by omega)
  refine va_sld hx hb hXs hbl hbA w.2.1 (g_in p_2527 (by omega)) dL_law_2528 ?_
  refine q_topE (y := xs (i0 + 2).toNat) (congrArg xs (g_tn p_2527)) ?_
  refine lv_aload hx hb dL_law_2529 (lv_at hl 5 rfl) ?_
  refine q_cL X hE hS w (k_drift (l := l) (D := D) hl0 hI (xs (i0 + 1).toNat) (xs (i0 + 2).toNat)) vL_247 rfl ⟨Nat.le_of_ble_eq_true rfl, Nat.le_of_ble_eq_true rfl⟩ rfl hl.1 (Nat.le_of_ble_eq_true rfl) dL_law_2531 (cap8 hcs (by decide) (by decide)) (fun z n2 σ2 H locs hz2 w => ?_)
  refine W.widen (k := cells + 8) (n := slots + 1100) (Nat.add_le_add_left (by decide) _) (Nat.add_le_add_left (by decide) _) ?_
  obtain ⟨cd, x9, hz, ⟨f, hf, hfx⟩, pm, hM, ⟨I9, R9, e9⟩, hpost⟩ := hz2
  refine lv_istore (lv' := [(6, .int z), (5, .int i), (0, .ref sc), (1, .ref (b + 0)), (2, .ref (b + 45)), (3, .ref (b + 60)), (4, .ref (b + 61))]) hx hb dL_law_2534 hl (by decide) rfl (fun ls hl => ?_)
  refine lv_aload_n hx hb dL_law_2536 rfl (lv_at hl 4 rfl) ?_
  refine lv_aload_n hx hb dL_law_2537 rfl (lv_at hl 2 rfl) ?_
  refine lv_iload hx hb dL_law_2538 (lv_at hl 1 rfl) ?_
  refine lv_iconst (v := 1) hx hb dL_law_2540 (by decide) ?_
  refine lv_iadd hx hb dL_law_2541 ?_
  refine lv_topi (fun x_2541 e_2541 => ?_)
  have p_2541 : x_2541.toInt = (i0 + 1) := by rw [e_2541]; exact t_add hi (show (1 : Int32).toInt = 1 from rfl) (by omega) (by omega)
  refine va_sld hx hb hXs hbl hbA w.2.1 (g_in p_2541 (by omega)) dL_law_2542 ?_
  refine q_topE (y := xs (i0 + 1).toNat) (congrArg xs (g_tn p_2541)) ?_
  refine lv_aload_n hx hb dL_law_2543 rfl (lv_at hl 2 rfl) ?_
  refine lv_iload hx hb dL_law_2544 (lv_at hl 1 rfl) ?_
  refine lv_iconst (v := 2) hx hb dL_law_2546 (by decide) ?_
  refine lv_iadd hx hb dL_law_2547 ?_
  refine lv_topi (fun x_2547 e_2547 => ?_)
  have p_2547 : x_2547.toInt = (i0 + 2) := by rw [e_2547]; exact t_add hi (show (2 : Int32).toInt = 2 from rfl) (by omega) (by omega)
  refine va_sld hx hb hXs hbl hbA w.2.1 (g_in p_2547 (by omega)) dL_law_2548 ?_
  refine q_topE (y := xs (i0 + 2).toNat) (congrArg xs (g_tn p_2547)) ?_
  refine g_cV X w hM vL_250 (k := 45) ((congrFun e9 45).trans rfl) rfl rfl ⟨Nat.le_of_ble_eq_true rfl, Nat.le_of_ble_eq_true rfl⟩ rfl hl.1 (Nat.le_of_ble_eq_true rfl) dL_law_2549 hcs (fun v2 n3 σ3 H locs hp2 w => ?_)
  obtain ⟨hn3, h61, u, I2, R2, hv, e3, m1, m2, hI⟩ := hpost _ _ _ hp2
  rw [hv]
  have w : qW D b n3 (mS t b σ3 I2 R2) s H locs := by rw [← e3]; exact w
  have hI : LI t b (mS t b σ3 I2 R2) := by rw [← e3]; exact hI
  refine lv_fstore (lv' := [(7, .float u), (6, .int z), (5, .int i), (0, .ref sc), (1, .ref (b + 0)), (2, .ref (b + 45)), (3, .ref (b + 60)), (4, .ref (b + 61))]) hx hb dL_law_2552 hl (by decide) rfl (fun ls hl => ?_)
  refine lv_aload_n hx hb dL_law_2554 rfl (lv_at hl 5 rfl) ?_
  refine q_cPV X w (c_X9_thrown l D t b _ _ I2 R2) vL_134 (k := 45) rfl rfl rfl ⟨Nat.le_of_ble_eq_true rfl, Nat.le_of_ble_eq_true rfl⟩ rfl hl.1 (Nat.le_of_ble_eq_true rfl) dL_law_2555 hcs (fun th ht => ?_)
  refine lv_iload hx hb dL_law_2558 (lv_at hl 1 rfl) ?_
  refine lv_icmp_eq (tgt := 2565) hx hb dL_law_2560 (by decide) (fun c_2560 => ?_) (fun c_2560 => ?_)
  · skip
    refine lv_iload hx hb dL_law_2565 (lv_at hl 1 rfl) ?_
    refine lv_if_ne (tgt := 2603) hx hb dL_law_2567 (by decide) (fun c_2567 => ?_) (fun c_2567 => ?_)
    · skip
      refine lv_goto (tgt := 2707) hx hb dL_law_2603 (by decide) ?_
      exact kk _ _ _ _ _ hI w (lv_sub hl [2, 3, 4, 5, 6, 7] rfl)
    · skip
      have hcd : cd = 0 := by rw [← hz, c_2567]; rfl
      refine lv_aload hx hb dL_law_2570 (lv_at hl 7 rfl) ?_
      refine lv_iconst (v := 0) hx hb dL_law_2572 (by decide) ?_
      refine q_dald X w (k := 61) (f := f) ((mS_off (I2 := I2) (R2 := R2) (by omega)).trans (h61.trans hf)) (i := 0) (by unfold vp_in; decide) dL_law_2573 ?_
      refine lv_fload hx hb dL_law_2574 (lv_at hl 0 rfl) ?_
      refine lv_f2d hx hb dL_law_2576 (by rw [m2 hcd]; exact (hfx hcd).2.1) ?_
      refine lv_dcmp hx hb dL_law_2577 ?_
      refine q_topE (y := 0) (show Op.cmpValue (FP.dcmp (f 0) (FP.f2d u)) .l = 0 by rw [(hfx hcd).1, m2 hcd, (hfx hcd).2.2]; rfl) ?_
      refine lv_if_eq (tgt := 2603) hx hb dL_law_2578 (by decide) (fun c_2578 => ?_) (fun c_2578 => ?_)
      · skip
        refine lv_goto (tgt := 2707) hx hb dL_law_2603 (by decide) ?_
        exact kk _ _ _ _ _ hI w (lv_sub hl [2, 3, 4, 5, 6, 7] rfl)
      · skip
        exact absurd rfl c_2578
  · skip
    exact absurd (Int32.toInt_inj.mp ((congrArg Int32.toInt ht).trans (m1.trans hz.symm))) c_2560

set_option maxHeartbeats 1000000 in
set_option maxRecDepth 100000 in
theorem law_35 {p : Program} {l : Launch} {e : Env} {s : State} {m : MethodId} {below : List Frame} {meth : Method} {c : Code} {H : Heap} {locs : List Loc} {cells slots : Nat} {Q : State → Prop} {r : Option FieldType} {D : va_G} {t : Nat → ClassId} {b n : Nat} {σ : qM} {sc L : Nat} {xs : Nat → Int32} {ls : Array Slot} {i : Int32} {i0 : Int} (hl0 : l.stackTraces = false) (X : qX p s #[.ref sc] m meth c RL cL_law 9 r D t b) (hE : XK s) (hS : SK b s) (hXs : va_X sc L xs s s.heap) (hbl : sc < s.heap.size) (hbA : ¬ b ≤ sc) (hi : i.toInt = i0) (h0 : 0 ≤ i0 ∧ i0 + 7 ≤ L ∧ L ≤ 3584) (hcs : cells + 8 ≤ 601024 ∧ slots + 1100 ≤ 7293034) (w : qW D b n σ s H locs) (hI : LI t b σ) (hl : lv_has ls 9 [(5, .int i), (0, .ref sc), (1, .ref (b + 0)), (2, .ref (b + 45)), (3, .ref (b + 60)), (4, .ref (b + 61))]) (kk : ∀ (n : Nat) (σ : qM) (H : Heap) (locs : List Loc) (ls : Array Slot), LI t b σ → qW D b n σ s H locs → lv_has ls 9 [(5, .int i), (0, .ref sc), (1, .ref (b + 0)), (2, .ref (b + 45)), (3, .ref (b + 60)), (4, .ref (b + 61))] → W p l e room_1 s m #[.ref sc] below meth c H locs (cells + 8) (slots + 1100) Q (F0 m 2707 ls [])) : W p l e room_1 s m #[.ref sc] below meth c H locs cells slots Q (F0 m 2606 ls []) := by
  have hx := X.1
  have hb := X.2.1
  refine lv_aload_n hx hb dL_law_2606 rfl (lv_at hl 2 rfl) ?_
  refine lv_aload_n hx hb dL_law_2607 rfl (lv_at hl 4 rfl) ?_
  refine q_cL X hE hS w (k_undo (l := l) (D := D) hl0 hI ) vL_251 rfl ⟨Nat.le_of_ble_eq_true rfl, Nat.le_of_ble_eq_true rfl⟩ rfl hl.1 (Nat.le_of_ble_eq_true rfl) dL_law_2608 (cap8 hcs (by decide) (by decide)) (fun z n2 σ2 H locs hz2 w => ?_)
  refine W.widen (k := cells + 8) (n := slots + 1100) (Nat.add_le_add_left (by decide) _) (Nat.add_le_add_left (by decide) _) ?_
  obtain ⟨cd, vl, hz, ⟨f, hf, hfv⟩, I1, R1, pm, es, hM, hpost⟩ := hz2
  have w : qW D b n2 (mS t b σ2 I1 R1) s H locs := by rw [← es]; exact w
  refine lv_istore (lv' := [(6, .int z), (5, .int i), (0, .ref sc), (1, .ref (b + 0)), (2, .ref (b + 45)), (3, .ref (b + 60)), (4, .ref (b + 61))]) hx hb dL_law_2611 hl (by decide) rfl (fun ls hl => ?_)
  refine lv_aload_n hx hb dL_law_2613 rfl (lv_at hl 4 rfl) ?_
  refine mm_cC X w hM vL_253 rfl rfl ⟨Nat.le_of_ble_eq_true rfl, Nat.le_of_ble_eq_true rfl⟩ rfl hl.1 (Nat.le_of_ble_eq_true rfl) dL_law_2614 hcs (fun y I2 R2 H locs hp2 w => ?_)
  obtain ⟨m1, m2, hI⟩ := hpost y I2 R2 hp2
  refine lv_istore (lv' := [(7, .int y), (6, .int z), (5, .int i), (0, .ref sc), (1, .ref (b + 0)), (2, .ref (b + 45)), (3, .ref (b + 60)), (4, .ref (b + 61))]) hx hb dL_law_2617 hl (by decide) rfl (fun ls hl => ?_)
  refine lv_aload_n hx hb dL_law_2619 rfl (lv_at hl 5 rfl) ?_
  refine q_cPV X w (c_X9_thrown l D t b _ _ I2 R2) vL_134 (k := 45) rfl rfl rfl ⟨Nat.le_of_ble_eq_true rfl, Nat.le_of_ble_eq_true rfl⟩ rfl hl.1 (Nat.le_of_ble_eq_true rfl) dL_law_2620 hcs (fun th ht => ?_)
  refine lv_iload hx hb dL_law_2623 (lv_at hl 1 rfl) ?_
  refine lv_icmp_eq (tgt := 2630) hx hb dL_law_2625 (by decide) (fun c_2625 => ?_) (fun c_2625 => ?_)
  · skip
    refine lv_iload hx hb dL_law_2630 (lv_at hl 1 rfl) ?_
    refine lv_if_ne (tgt := 2647) hx hb dL_law_2632 (by decide) (fun c_2632 => ?_) (fun c_2632 => ?_)
    · skip
      refine lv_goto (tgt := 2707) hx hb dL_law_2647 (by decide) ?_
      exact kk _ _ _ _ _ hI w (lv_sub hl [2, 3, 4, 5, 6, 7] rfl)
    · skip
      have hcd : cd = 0 := by rw [← hz, c_2632]; rfl
      refine lv_aload_n hx hb dL_law_2635 rfl (lv_at hl 6 rfl) ?_
      refine lv_iconst (v := 0) hx hb dL_law_2636 (by decide) ?_
      refine q_lald X w (k := 60) (f := f) ((mS_off (I2 := I2) (R2 := R2) (by omega)).trans hf) (i := 0) (by unfold vp_in; decide) dL_law_2637 ?_
      refine lv_iload hx hb dL_law_2638 (lv_at hl 0 rfl) ?_
      refine lv_i2l (v := y.toInt64) hx hb dL_law_2640 rfl ?_
      refine W.lcmp hx hb dL_law_2641 ?_
      refine q_topE (y := 0) (lcz (hfv hcd) (m2 hcd)) ?_
      refine lv_if_eq (tgt := 2647) hx hb dL_law_2642 (by decide) (fun c_2642 => ?_) (fun c_2642 => ?_)
      · skip
        refine lv_goto (tgt := 2707) hx hb dL_law_2647 (by decide) ?_
        exact kk _ _ _ _ _ hI w (lv_sub hl [2, 3, 4, 5, 6, 7] rfl)
      · skip
        exact absurd rfl c_2642
  · skip
    exact absurd (Int32.toInt_inj.mp ((congrArg Int32.toInt ht).trans (m1.trans hz.symm))) c_2625

set_option maxHeartbeats 1000000 in
set_option maxRecDepth 100000 in
theorem law_36 {p : Program} {l : Launch} {e : Env} {s : State} {m : MethodId} {below : List Frame} {meth : Method} {c : Code} {H : Heap} {locs : List Loc} {cells slots : Nat} {Q : State → Prop} {r : Option FieldType} {D : va_G} {t : Nat → ClassId} {b n : Nat} {σ : qM} {sc L : Nat} {xs : Nat → Int32} {ls : Array Slot} {i : Int32} {i0 : Int} (hl0 : l.stackTraces = false) (X : qX p s #[.ref sc] m meth c RL cL_law 9 r D t b) (hE : XK s) (hS : SK b s) (hXs : va_X sc L xs s s.heap) (hbl : sc < s.heap.size) (hbA : ¬ b ≤ sc) (hi : i.toInt = i0) (h0 : 0 ≤ i0 ∧ i0 + 7 ≤ L ∧ L ≤ 3584) (hcs : cells + 8 ≤ 601024 ∧ slots + 1100 ≤ 7293034) (w : qW D b n σ s H locs) (hI : LI t b σ) (hl : lv_has ls 9 [(5, .int i), (0, .ref sc), (1, .ref (b + 0)), (2, .ref (b + 45)), (3, .ref (b + 60)), (4, .ref (b + 61))]) (kk : ∀ (n : Nat) (σ : qM) (H : Heap) (locs : List Loc) (ls : Array Slot), LI t b σ → qW D b n σ s H locs → lv_has ls 9 [(5, .int i), (0, .ref sc), (1, .ref (b + 0)), (2, .ref (b + 45)), (3, .ref (b + 60)), (4, .ref (b + 61))] → W p l e room_1 s m #[.ref sc] below meth c H locs (cells + 8) (slots + 1100) Q (F0 m 2707 ls [])) : W p l e room_1 s m #[.ref sc] below meth c H locs cells slots Q (F0 m 2650 ls []) := by
  have hx := X.1
  have hb := X.2.1
  refine lv_aload_n hx hb dL_law_2650 rfl (lv_at hl 2 rfl) ?_
  obtain ⟨fs0, h0c⟩ := hI.c0
  obtain ⟨px, xp, hP, hno, hv⟩ := d_save (l := l) (D := D) (n := n) hl0 hI
  refine w_cX X hE w hP vL_254 (k := 0) h0c rfl rfl ⟨Nat.le_of_ble_eq_true rfl, Nat.le_of_ble_eq_true rfl⟩ rfl hl.1 (Nat.le_of_ble_eq_true rfl) dL_law_2651 (cap8 hcs (by decide) (by decide)) (fun E ce q9 n1 σ1 H1 locs1 hx9 => absurd hx9 (hno E n1 σ1)) (fun z n2 σ2 H locs hz2 w => ?_)
  refine W.widen (k := cells + 8) (n := slots + 1100) (Nat.add_le_add_left (by decide) _) (Nat.add_le_add_left (by decide) _) ?_
  obtain ⟨h60, vl, hz, I1, R1, pm, es, hM, hpost⟩ := hv z n2 σ2 hz2
  have w : qW D b n2 (mS t b σ2 I1 R1) s H locs := by rw [← es]; exact w
  refine lv_aload_n hx hb dL_law_2654 rfl (lv_at hl 3 rfl) ?_
  refine mm_cC X w hM vL_257 rfl rfl ⟨Nat.le_of_ble_eq_true rfl, Nat.le_of_ble_eq_true rfl⟩ rfl hl.1 (Nat.le_of_ble_eq_true rfl) dL_law_2655 hcs (fun y I2 R2 H locs hp2 w => ?_)
  obtain ⟨m1, m2, hI⟩ := hpost y I2 R2 hp2
  refine lv_icmp_eq (tgt := 2707) hx hb dL_law_2658 (by decide) (fun c_2658 => ?_) (fun c_2658 => ?_)
  · skip
    exact kk _ _ _ _ _ hI w (lv_sub hl [0, 1, 2, 3, 4, 5] rfl)
  · skip
    exact absurd (Int32.toInt_inj.mp (hz.trans (m2 rfl).symm)) c_2658

set_option maxHeartbeats 1000000 in
set_option maxRecDepth 100000 in
theorem law_37 {p : Program} {l : Launch} {e : Env} {s : State} {m : MethodId} {below : List Frame} {meth : Method} {c : Code} {H : Heap} {locs : List Loc} {cells slots : Nat} {Q : State → Prop} {r : Option FieldType} {D : va_G} {t : Nat → ClassId} {b n : Nat} {σ : qM} {sc L : Nat} {xs : Nat → Int32} {ls : Array Slot} {i : Int32} {i0 : Int} (hl0 : l.stackTraces = false) (X : qX p s #[.ref sc] m meth c RL cL_law 9 r D t b) (hE : XK s) (hS : SK b s) (hXs : va_X sc L xs s s.heap) (hbl : sc < s.heap.size) (hbA : ¬ b ≤ sc) (hi : i.toInt = i0) (h0 : 0 ≤ i0 ∧ i0 + 7 ≤ L ∧ L ≤ 3584) (hcs : cells + 8 ≤ 601024 ∧ slots + 1100 ≤ 7293034) (w : qW D b n σ s H locs) (hI : LI t b σ) (hl : lv_has ls 9 [(5, .int i), (0, .ref sc), (1, .ref (b + 0)), (2, .ref (b + 45)), (3, .ref (b + 60)), (4, .ref (b + 61))]) (kk : ∀ (n : Nat) (σ : qM) (H : Heap) (locs : List Loc) (ls : Array Slot), LI t b σ → qW D b n σ s H locs → lv_has ls 9 [(5, .int i), (0, .ref sc), (1, .ref (b + 0)), (2, .ref (b + 45)), (3, .ref (b + 60)), (4, .ref (b + 61))] → W p l e room_1 s m #[.ref sc] below meth c H locs (cells + 8) (slots + 1100) Q (F0 m 2707 ls [])) : W p l e room_1 s m #[.ref sc] below meth c H locs cells slots Q (F0 m 2663 ls []) := by
  have hx := X.1
  have hb := X.2.1
  refine lv_aload_n hx hb dL_law_2663 rfl (lv_at hl 2 rfl) ?_
  refine lv_aload_n hx hb dL_law_2664 rfl (lv_at hl 4 rfl) ?_
  refine q_cL X hE hS w (k_restore (l := l) (D := D) hl0 hI ) vL_258 rfl ⟨Nat.le_of_ble_eq_true rfl, Nat.le_of_ble_eq_true rfl⟩ rfl hl.1 (Nat.le_of_ble_eq_true rfl) dL_law_2665 (cap8 hcs (by decide) (by decide)) (fun z n2 σ2 H locs hz2 w => ?_)
  refine W.widen (k := cells + 8) (n := slots + 1100) (Nat.add_le_add_left (by decide) _) (Nat.add_le_add_left (by decide) _) ?_
  obtain ⟨cd, vl, hz, ⟨f, hf, hfv⟩, I1, R1, pm, es, hM, hpost⟩ := hz2
  have w : qW D b n2 (mS t b σ2 I1 R1) s H locs := by rw [← es]; exact w
  refine lv_istore (lv' := [(6, .int z), (5, .int i), (0, .ref sc), (1, .ref (b + 0)), (2, .ref (b + 45)), (3, .ref (b + 60)), (4, .ref (b + 61))]) hx hb dL_law_2668 hl (by decide) rfl (fun ls hl => ?_)
  refine lv_aload_n hx hb dL_law_2670 rfl (lv_at hl 4 rfl) ?_
  refine mm_cC X w hM vL_260 rfl rfl ⟨Nat.le_of_ble_eq_true rfl, Nat.le_of_ble_eq_true rfl⟩ rfl hl.1 (Nat.le_of_ble_eq_true rfl) dL_law_2671 hcs (fun y I2 R2 H locs hp2 w => ?_)
  obtain ⟨m1, m2, hI⟩ := hpost y I2 R2 hp2
  refine lv_istore (lv' := [(7, .int y), (6, .int z), (5, .int i), (0, .ref sc), (1, .ref (b + 0)), (2, .ref (b + 45)), (3, .ref (b + 60)), (4, .ref (b + 61))]) hx hb dL_law_2674 hl (by decide) rfl (fun ls hl => ?_)
  refine lv_aload_n hx hb dL_law_2676 rfl (lv_at hl 5 rfl) ?_
  refine q_cPV X w (c_X9_thrown l D t b _ _ I2 R2) vL_134 (k := 45) rfl rfl rfl ⟨Nat.le_of_ble_eq_true rfl, Nat.le_of_ble_eq_true rfl⟩ rfl hl.1 (Nat.le_of_ble_eq_true rfl) dL_law_2677 hcs (fun th ht => ?_)
  refine lv_iload hx hb dL_law_2680 (lv_at hl 1 rfl) ?_
  refine lv_icmp_eq (tgt := 2687) hx hb dL_law_2682 (by decide) (fun c_2682 => ?_) (fun c_2682 => ?_)
  · skip
    refine lv_iload hx hb dL_law_2687 (lv_at hl 1 rfl) ?_
    refine lv_if_ne (tgt := 2704) hx hb dL_law_2689 (by decide) (fun c_2689 => ?_) (fun c_2689 => ?_)
    · skip
      refine lv_goto (tgt := 2707) hx hb dL_law_2704 (by decide) ?_
      exact kk _ _ _ _ _ hI w (lv_sub hl [2, 3, 4, 5, 6, 7] rfl)
    · skip
      have hcd : cd = 0 := by rw [← hz, c_2689]; rfl
      refine lv_aload_n hx hb dL_law_2692 rfl (lv_at hl 6 rfl) ?_
      refine lv_iconst (v := 0) hx hb dL_law_2693 (by decide) ?_
      refine q_lald X w (k := 60) (f := f) ((mS_off (I2 := I2) (R2 := R2) (by omega)).trans hf) (i := 0) (by unfold vp_in; decide) dL_law_2694 ?_
      refine lv_iload hx hb dL_law_2695 (lv_at hl 0 rfl) ?_
      refine lv_i2l (v := y.toInt64) hx hb dL_law_2697 rfl ?_
      refine W.lcmp hx hb dL_law_2698 ?_
      refine q_topE (y := 0) (lcz (hfv hcd) (m2 hcd)) ?_
      refine lv_if_eq (tgt := 2704) hx hb dL_law_2699 (by decide) (fun c_2699 => ?_) (fun c_2699 => ?_)
      · skip
        refine lv_goto (tgt := 2707) hx hb dL_law_2704 (by decide) ?_
        exact kk _ _ _ _ _ hI w (lv_sub hl [2, 3, 4, 5, 6, 7] rfl)
      · skip
        exact absurd rfl c_2699
  · skip
    exact absurd (Int32.toInt_inj.mp ((congrArg Int32.toInt ht).trans (m1.trans hz.symm))) c_2682
