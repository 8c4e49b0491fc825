theorem kd_X9_337 : Cond.constantDouble RX9 337 (4636737291354636288 : UInt64) ∈ TB := tb_9 120 (by decide +kernel) (by decide +kernel)
theorem kd_X8_315 : Cond.constantDouble RX8 315 (4636737291354636288 : UInt64) ∈ TB := tb_7 39 (by decide +kernel) (by decide +kernel)
/-- the mean year of a calendar; how far two drift apart in a hundred years -/
noncomputable def avgD (ρ : Row) : UInt64 := FP.ddiv (FP.i2d (i3 (fst ρ (reps ρ + 1) - fst ρ 1))) (FP.i2d (i3 (reps ρ)))
noncomputable def drD (ρ τ : Row) : UInt32 := FP.d2f (FP.dmul (FP.dsub (avgD ρ) (avgD τ)) 4636737291354636288)
theorem i3_rng {v : Int} (h1 : -2147483648 ≤ v) (h2 : v ≤ 2147483647) : (i3 v).toInt = v := Int32.toInt_ofInt_of_le (by omega) (by omega)
theorem avg_dec {ρ : Row} (h : okRow ρ) (hr : reps ρ ≠ 0) : ∃ s c q, FP.Core.decode FP.Core.b64 (avgD ρ).toNat = .fin s c q := by
  have hb := reps_bd h hr
  exact (div_dec _ _ (by rw [i3_rng (by omega) (by omega)]; exact hr)).2
theorem avg_period {ρ : Row} (h : okRow ρ) (hr : reps ρ ≠ 0) : reps ρ * sumL ρ (rv ρ 0).toNat + lpb ρ (reps ρ) * extD ρ = fst ρ (reps ρ + 1) - fst ρ 1 := by
  have e1 := fst_lin h hr (reps ρ)
  have e2 := fst_succ ρ (reps ρ)
  have e3 := fst_succ ρ 0
  have e4 : leap ρ (reps ρ) = leap ρ 0 := by
    have a := leap_per h hr (reps ρ)
    rw [Int.emod_self] at a
    exact a.symm
  have e5 := ylen_x ρ (reps ρ)
  have e6 := ylen_x ρ 0
  rw [e4] at e5
  rw [show (0 : Int) + 1 = 1 from rfl] at e3
  omega
section GQ
variable {p : Program} {l : Launch} {e : Env} {R : Room} {s : State} {m : MethodId} {args : Array Value} {below : List Frame} {meth : Method} {c : Code} {H : Heap} {locs : List Loc} {cells slots : Nat} {Q : State → Prop}
variable {own : String} {cc : ByteArray} {mL : Nat} {r : Option FieldType} {D : va_G} {t : Nat → ClassId} {b n : Nat} {σ : qM} {pc : Nat} {ls : Array Slot} {rest : List Value}
/-! contracts of methods that answer any value -/
def gQ (D : va_G) (b : Nat) (post : Option Value → Nat → qM → Prop) : Array Value → State → Outcome → State → Prop := fun _ st oc T => (∃ (v : Option Value) (n1 : Nat) (σ1 : qM), oc = .returned v ∧ post v n1 σ1 ∧ WB D b n1 σ1 T.heap) ∧ va_F (fun q => b ≤ q) st T
def qG (l : Launch) (y : MethodName) (cc : ByteArray) (mL : Nat) (r : Option FieldType) (d mc ms : Nat) (D : va_G) (t : Nat → ClassId) (b n : Nat) (σ : qM) (As : List Value) (post : Option Value → Nat → qM → Prop) : Prop :=
  Met l y (.code y cc mL r :: TB) (qR d mc ms) (qPre D t b n σ As) (gQ D b post) mc ms (fun q => b ≤ q)
theorem qG.of {y : MethodName} {d mc ms : Nat} {As : List Value} {post : Option Value → Nat → qM → Prop} (hy : plainName y.cls = true) (hA : (lg_sl As).length ≤ mL)
    (k : ∀ (p : Program) (e : Env) (s : State) (m : MethodId) (args : Array Value) (below : List Frame) (meth : Method) (c : Code), qX p s args m meth c y.cls cc mL r D t b → qW D b n σ s s.heap [] → ∀ ls : Array Slot, lv_has ls mL (lv_args 0 As) →
      W p l e (qR d mc ms) s m args below meth c s.heap [] 0 0 (MQ below (gQ D b post) args s mc ms (fun q => b ≤ q)) (F0 m 0 ls [])) : qG l y cc mL r d mc ms D t b n σ As post := by
  refine Met.ofW (cc := cc) (maxL := mL) (ret := r) hy rfl ?_
  intro p e s m args below meth c s₁ B hml hv
  obtain ⟨rfl, hw, hG⟩ := hv
  have hts := atoms_spec (ws := Cond.code y cc mL r :: TB) B.pre
  refine q_start hA (fun ls hl => ?_)
  exact k p e s m _ below meth c ⟨B.exec, B.bytes, fun w h => hts w (List.mem_cons_of_mem _ h), findClass_of_methodNamed B.named, hml, B.returns, B.notSynchronized, hG⟩ ⟨hw, va_S.rf, by rw [hw.1]; exact Nat.le_add_right _ _⟩ ls hl
def xG (l : Launch) (y : MethodName) (cc : ByteArray) (mL : Nat) (r : Option FieldType) (d mc ms : Nat) (D : va_G) (t : Nat → ClassId) (b n : Nat) (σ : qM) (As : List Value) (post : Option Value → Nat → qM → Prop) (xp : String → Nat → qM → Prop) : Prop :=
  vx_Met l y (.code y cc mL r :: TB) (qR d mc ms) (qPreX D t b n σ As) (gQ D b post) (xX D b xp) mc ms (fun q => b ≤ q)
theorem xG.of {y : MethodName} {d mc ms : Nat} {As : List Value} {post : Option Value → Nat → qM → Prop} {xp : String → Nat → qM → Prop} (hy : plainName y.cls = true) (hA : (lg_sl As).length ≤ mL)
    (k : ∀ (p : Program) (e : Env) (s : State) (m : MethodId) (args : Array Value) (below : List Frame) (meth : Method) (c : Code), qX p s args m meth c y.cls cc mL r D t b → XK s → (∀ x ∈ c.exceptionTable.toList, False) → qW D b n σ s s.heap [] → ∀ ls : Array Slot, lv_has ls mL (lv_args 0 As) →
      W p l e (qR d mc ms) s m args below meth c s.heap [] 0 0 (vx_MQ below (gQ D b post) (xX D b xp) args s mc ms (fun q => b ≤ q)) (F0 m 0 ls [])) : xG l y cc mL r d mc ms D t b n σ As post xp := by
  refine vx_ofW (cc := cc) (maxL := mL) (ret := r) hy rfl ?_
  intro p e s m args below meth c s₁ B hml hno hv
  obtain ⟨rfl, hw, hG, hE⟩ := hv
  have hts := atoms_spec (ws := Cond.code y cc mL r :: TB) B.pre
  refine q_start hA (fun ls hl => ?_)
  exact k p e s m _ below meth c ⟨B.exec, B.bytes, fun w h => hts w (List.mem_cons_of_mem _ h), findClass_of_methodNamed B.named, hml, B.returns, B.notSynchronized, hG⟩ hE hno ⟨hw, va_S.rf, by rw [hw.1]; exact Nat.le_add_right _ _⟩ ls hl
theorem g_dret {post : Option Value → Nat → qM → Prop} {v : UInt64} (X : qX p s args m meth c own cc mL (some .double) D t b) (w : qW D b n σ s H locs) (hdg : decode cc pc = .ok (.dreturn, 1)) (hp : post (some (.double v)) n σ) : W p l e R s m args below meth c H locs cells slots (MQ below (gQ D b post) args s cells slots (fun q => b ≤ q)) (F0 m pc ls [.double v]) :=
  W.dret (v := v) X.1 X.2.1 X.2.2.2.2.2.1 (fun T ht _ => ⟨⟨_, n, σ, rfl, hp, by rw [ht]; exact w.1⟩, w.2.1.F ht⟩) w.2.1.2.2 hdg X.2.2.2.2.2.2.1
theorem g_fret {post : Option Value → Nat → qM → Prop} {v : UInt32} (X : qX p s args m meth c own cc mL (some .float) D t b) (w : qW D b n σ s H locs) (hdg : decode cc pc = .ok (.freturn, 1)) (hp : post (some (.float v)) n σ) : W p l e R s m args below meth c H locs cells slots (MQ below (gQ D b post) args s cells slots (fun q => b ≤ q)) (F0 m pc ls [.float v]) :=
  W.fret (v := v) X.1 X.2.1 X.2.2.2.2.2.1 (fun T ht _ => ⟨⟨_, n, σ, rfl, hp, by rw [ht]; exact w.1⟩, w.2.1.F ht⟩) w.2.1.2.2 hdg X.2.2.2.2.2.2.1
theorem g_go {post : Option Value → Nat → qM → Prop} {a : Array Value} {st0 : List Value} {mc ms : Nat} (w : qW D b n σ s H locs) (hr : va_Run p l e R s m args below meth c H locs cells slots mc ms (F0 m pc ls st0) rest (gQ D b post a) (fun q => b ≤ q))
    (kk : ∀ (v : Option Value) (n1 : Nat) (σ1 : qM) (H1 : Heap) (locs1 : List Loc), post v n1 σ1 → qW D b n1 σ1 s H1 locs1 → W p l e R s m args below meth c H1 locs1 (cells + mc) (slots + ms) Q (F0 m (pc + 3) ls (v.toList ++ rest))) : W p l e R s m args below meth c H locs cells slots Q (F0 m pc ls st0) := by
  intro T hT Y
  obtain ⟨v, st₀, t1, T', L, h0, X', hL, e1, e2, ⟨⟨v2, n1, σ1, hv, hp, hB⟩, hz, hk⟩, st⟩ := hr T hT Y
  cases hv
  rw [h0] at hz hk
  obtain ⟨t2, a1, b1⟩ := kk v n1 σ1 T'.heap (locs ++ L) hp ⟨by rw [e1]; exact hB, ⟨Nat.le_trans w.2.1.1 (by rw [e1]; exact hz), fun q h1 h2 => by rw [e1, hk q (Nat.lt_of_lt_of_le h1 w.2.1.1) h2]; exact w.2.1.2.1 q h1 h2, fun q hq => by
      rcases List.mem_append.mp hq with h | h
      · exact w.2.1.2.2 q h
      · exact hL q h⟩, w.2.2⟩ T' rfl X'
  exact ⟨t2, st t2 a1, b1⟩
theorem g_cV (X : qX p s args m meth c own cc mL r D t b) (w : qW D b n σ s H locs) {idx : Nat} {y : MethodName} {yc : ByteArray} {ymL : Nat} {yr : Option FieldType} {N d' mc ms k : Nat} {As : List Value} {post : Option Value → Nat → qM → Prop} (hM : qG l y yc ymL yr d' mc ms D t b n σ (.ref (b + k) :: As) post) (cw : qVw own idx y yc ymL yr N) {ci : Nat} {fs : List Value} {T : u_T} {NF : Nat} (hk : σ k = some (.inr (ci, fs))) (hc : vwCl[ci]? = some (y.cls, T, NF)) (hn : As.length = N) (hR : d' + 1 ≤ R.frames ∧ 8 + (ymL + 11) + 40 * d' ≤ R.locals) {st : List Value} (hst : st = As.reverse ++ .ref (b + k) :: rest) (hsz : ls.size = mL) (hrm : (rest.map fun v => v.category).sum ≤ 8) (hdg : decode cc pc = .ok (.invokevirtual idx, 3)) (hf : cells + mc ≤ R.cells ∧ slots + ms ≤ R.slots)
    (kk : ∀ (v : Option Value) (n1 : Nat) (σ1 : qM) (H1 : Heap) (locs1 : List Loc), post v n1 σ1 → qW D b n1 σ1 s H1 locs1 → W p l e R s m args below meth c H1 locs1 (cells + mc) (slots + ms) Q (F0 m (pc + 3) ls (v.toList ++ rest))) : W p l e R s m args below meth c H locs cells slots Q (F0 m pc ls st) :=
  g_go w (va_runV ⟨X.1, X.2.1, X.2.2.2.2.1, X.2.2.2.1, X.2.2.1⟩ hM (cw.cw X.2.2.1 hR) (q_preV X w hk hc) rfl hn hsz hst (lv_room hrm) hdg hf) kk
end GQ

set_option maxHeartbeats 2000000 in
set_option maxRecDepth 100000 in
theorem c_X9_average (l : Launch) (D : va_G) (t : Nat → ClassId) (b n : Nat) (σ0 : qM) (I : Nat → Int32) (Rw : Nat → Nat → Int32) (a_ca : Int32) (ca : Int) (e_ca : a_ca.toInt = ca) (h_1 : 0 ≤ ca ∧ ca < 6) (h_2 : okRow (rowM Rw ca)) (h_3 : okF Rw ca) (h_4 : reps (rowM Rw ca) ≠ 0) : qG l yX9_average cX9_average 3 (some .double) 2 0 0 D t b n (mS t b σ0 I Rw) [.ref (b + 45), .int a_ca] (fun v n1 σ1 => v = some (.double (avgD (rowM Rw ca))) ∧ n1 = n ∧ σ1 = mS t b σ0 I Rw) := by
  refine qG.of (by decide +kernel) (Nat.le_of_ble_eq_true rfl) (fun p e s m args below meth c X w ls hl => ?_)
  have hx := X.1
  have hb := X.2.1
  have hl : lv_has ls 3 [(0, .ref (b + 45)), (1, .int a_ca)] := hl
  have hrb := reps_bd h_2 h_4
  have hf1 := fst_bd h_2 (y := reps (rowM Rw ca) + 1) (by omega) (by omega)
  have hf2 := fst_bd h_2 (y := 1) (by omega) (by omega)
  refine lv_aload_n hx hb dX9_average_0 rfl (lv_at hl 0 rfl) ?_
  refine mg_calendar X w dX9_average_1 ?_
  refine lv_bipush (v := 33) hx hb dX9_average_4 (by decide) ?_
  refine lv_iload_n hx hb dX9_average_6 rfl (lv_at hl 1 rfl) ?_
  refine lv_imul hx hb dX9_average_7 ?_
  refine lv_topi (fun x_7 e_7 => ?_)
  have p_7 : x_7.toInt = (33 * ca) := by rw [e_7]; exact t_mul (show (33 : Int32).toInt = 33 from rfl) e_ca (by omega) (by omega)
  refine q_cPS X w (c_X9_repeats_cal l D t b n σ0 I Rw ca x_7 (33 * ca) p_7 (by omega) (by exact fun k a1 a2 a3 => h_2.div a1 a2 a3) (by omega)) v_X9_208 rfl ⟨Nat.le_of_ble_eq_true rfl, Nat.le_of_ble_eq_true rfl⟩ rfl hl.1 (Nat.le_of_ble_eq_true rfl) dX9_average_8 ⟨Nat.zero_le _, Nat.zero_le _⟩ (fun r_8 z_8 => ?_)
  refine lv_istore_n (lv' := [(2, .int r_8), (0, .ref (b + 45)), (1, .int a_ca)]) hx hb dX9_average_11 rfl hl (by decide) rfl (fun ls hl => ?_)
  refine lv_aload_n hx hb dX9_average_12 rfl (lv_at hl 1 rfl) ?_
  refine lv_iload_n hx hb dX9_average_13 rfl (lv_at hl 2 rfl) ?_
  refine lv_iload_n hx hb dX9_average_14 rfl (lv_at hl 0 rfl) ?_
  refine lv_iconst (v := 1) hx hb dX9_average_15 (by decide) ?_
  refine lv_iadd hx hb dX9_average_16 ?_
  refine lv_topi (fun x_16 e_16 => ?_)
  have p_16 : x_16.toInt = ((reps (rowM Rw ca)) + 1) := by rw [e_16]; exact t_add z_8 (show (1 : Int32).toInt = 1 from rfl) (by omega) (by omega)
  refine q_cPV X w (c_X9_first l D t b n σ0 I Rw a_ca x_16 ca ((reps (rowM Rw ca)) + 1) e_ca p_16 (by omega) (by exact h_3) (by omega)) v_X9_101 (k := 45) rfl rfl rfl ⟨Nat.le_of_ble_eq_true rfl, Nat.le_of_ble_eq_true rfl⟩ rfl hl.1 (Nat.le_of_ble_eq_true rfl) dX9_average_17 ⟨Nat.zero_le _, Nat.zero_le _⟩ (fun r_17 z_17 => ?_)
  refine lv_aload_n hx hb dX9_average_20 rfl (lv_at hl 1 rfl) ?_
  refine lv_iload_n hx hb dX9_average_21 rfl (lv_at hl 2 rfl) ?_
  refine lv_iconst (v := 1) hx hb dX9_average_22 (by decide) ?_
  refine q_cPV X w (c_X9_first l D t b n σ0 I Rw a_ca 1 ca 1 e_ca (show (1 : Int32).toInt = 1 from rfl) (by omega) (by exact h_3) (by omega)) v_X9_101 (k := 45) rfl rfl rfl ⟨Nat.le_of_ble_eq_true rfl, Nat.le_of_ble_eq_true rfl⟩ rfl hl.1 (Nat.le_of_ble_eq_true rfl) dX9_average_23 ⟨Nat.zero_le _, Nat.zero_le _⟩ (fun r_23 z_23 => ?_)
  refine lv_isub hx hb dX9_average_26 ?_
  refine lv_topi (fun x_26 e_26 => ?_)
  have p_26 : x_26.toInt = ((fst (rowM Rw ca) ((reps (rowM Rw ca)) + 1)) - (fst (rowM Rw ca) 1)) := by rw [e_26]; exact t_sub z_17 z_23 (by omega) (by omega)
  refine lv_i2d hx hb dX9_average_27 ?_
  refine lv_iload_n hx hb dX9_average_28 rfl (lv_at hl 0 rfl) ?_
  refine lv_i2d hx hb dX9_average_29 ?_
  refine lv_ddiv hx hb dX9_average_30 (div_dec _ _ (by rw [show (r_8).toInt = reps (rowM Rw ca) from z_8]; omega)).1 ?_
  rw [show FP.ddiv (FP.i2d x_26) (FP.i2d r_8) = avgD (rowM Rw ca) from (by unfold avgD; rw [← show (x_26).toInt = fst (rowM Rw ca) (reps (rowM Rw ca) + 1) - fst (rowM Rw ca) 1 from p_26, ← show (r_8).toInt = reps (rowM Rw ca) from z_8, i3_i, i3_i])] 
  exact g_dret (post := fun v n1 σ1 => v = some (.double (avgD (rowM Rw ca))) ∧ n1 = n ∧ σ1 = mS t b σ0 I Rw) X w dX9_average_31 (⟨rfl, rfl, rfl⟩)

set_option maxHeartbeats 2000000 in
set_option maxRecDepth 100000 in
theorem c_X9_averageYear (l : Launch) (D : va_G) (t : Nat → ClassId) (b n : Nat) (σ0 : qM) (I : Nat → Int32) (Rw : Nat → Nat → Int32) (a_ca : Int32) (ca : Int) (e_ca : a_ca.toInt = ca) (h_1 : (I 5).toInt ≤ 6) (h_2 : ∀ c : Int, 0 ≤ c → c < (I 5).toInt → okRow (rowM Rw c)) (h_3 : ∀ c : Int, 0 ≤ c → c < (I 5).toInt → okF Rw c) (h_4 : ∀ c : Int, 0 ≤ c → c < (I 5).toInt → reps (rowM Rw c) ≠ 0) : qG l yX9_averageYear cX9_averageYear 2 (some .double) 3 0 0 D t b n (mS t b σ0 I Rw) [.ref (b + 45), .int a_ca] (fun v n1 σ1 => ∃ u, v = some (.double u) ∧ n1 = n ∧ ∃ I1, σ1 = mS t b σ0 I1 Rw ∧ kpI [0] I I1 ∧ (I1 0).toInt = (if 0 ≤ ca ∧ ca < (I 5).toInt then 0 else 1) ∧ ((I1 0).toInt = 0 → u = avgD (rowM Rw ca))) := by
  refine qG.of (by decide +kernel) (Nat.le_of_ble_eq_true rfl) (fun p e s m args below meth c X w ls hl => ?_)
  have hx := X.1
  have hb := X.2.1
  have hl : lv_has ls 2 [(0, .ref (b + 45)), (1, .int a_ca)] := hl
  refine lv_aload_n hx hb dX9_averageYear_0 rfl (lv_at hl 0 rfl) ?_
  refine lv_aload_n hx hb dX9_averageYear_1 rfl (lv_at hl 0 rfl) ?_
  refine lv_iload_n hx hb dX9_averageYear_2 rfl (lv_at hl 1 rfl) ?_
  refine q_cPV X w (c_X9_isCalendar l D t b n σ0 I Rw a_ca ca e_ca) v_X9_221 (k := 45) rfl rfl rfl ⟨Nat.le_of_ble_eq_true rfl, Nat.le_of_ble_eq_true rfl⟩ rfl hl.1 (Nat.le_of_ble_eq_true rfl) dX9_averageYear_3 ⟨Nat.zero_le _, Nat.zero_le _⟩ (fun r_3 z_3 => ?_)
  refine lv_if_eq (tgt := 13) hx hb dX9_averageYear_6 (by decide) (fun c_6 => ?_) (fun c_6 => ?_)
  · skip
    rw [z_3] at c_6
    have k_6 := bI_f.mp c_6
    refine lv_iconst (v := 1) hx hb dX9_averageYear_13 (by decide) ?_
    refine mp_thrown (v := 1) X w dX9_averageYear_14 (fun H locs w => ?_)
    refine lv_aload_n hx hb dX9_averageYear_17 rfl (lv_at hl 0 rfl) ?_
    refine mg_thrown X w dX9_averageYear_18 ?_
    refine q_topE (y := 1) rfl ?_
    refine lv_if_le (tgt := 28) hx hb dX9_averageYear_21 (by decide) (fun c_21 => ?_) (fun c_21 => ?_)
    · skip
      have k_21 : (1 : Int) ≤ 0 := (g_le (show (1 : Int32).toInt = 1 from rfl) (show (0 : Int32).toInt = 0 from rfl)).mp c_21
      omega
    · skip
      have k_21 : ¬ ((1 : Int) ≤ 0) := fun h => c_21 ((g_le (show (1 : Int32).toInt = 1 from rfl) (show (0 : Int32).toInt = 0 from rfl)).mpr h)
      refine lv_dconst0 hx hb dX9_averageYear_24 ?_
      refine lv_goto (tgt := 33) hx hb dX9_averageYear_25 (by decide) ?_
      exact g_dret (post := fun v n1 σ1 => ∃ u, v = some (.double u) ∧ n1 = n ∧ ∃ I1, σ1 = mS t b σ0 I1 Rw ∧ kpI [0] I I1 ∧ (I1 0).toInt = (if 0 ≤ ca ∧ ca < (I 5).toInt then 0 else 1) ∧ ((I1 0).toInt = 0 → u = avgD (rowM Rw ca))) X w dX9_averageYear_33 (⟨_, rfl, rfl, _, rfl, kpI.up kpI.rf (by decide), (by rw [va_up_self, if_neg k_6]; rfl), fun z => absurd z (by rw [va_up_self]; decide)⟩)
  · skip
    rw [z_3] at c_6
    have k_6 := bI_t.mp c_6
    refine lv_iconst (v := 0) hx hb dX9_averageYear_9 (by decide) ?_
    refine lv_goto (tgt := 14) hx hb dX9_averageYear_10 (by decide) ?_
    refine mp_thrown (v := 0) X w dX9_averageYear_14 (fun H locs w => ?_)
    refine lv_aload_n hx hb dX9_averageYear_17 rfl (lv_at hl 0 rfl) ?_
    refine mg_thrown X w dX9_averageYear_18 ?_
    refine q_topE (y := 0) rfl ?_
    refine lv_if_le (tgt := 28) hx hb dX9_averageYear_21 (by decide) (fun c_21 => ?_) (fun c_21 => ?_)
    · skip
      have k_21 : (0 : Int) ≤ 0 := (g_le (show (0 : Int32).toInt = 0 from rfl) (show (0 : Int32).toInt = 0 from rfl)).mp c_21
      refine lv_aload_n hx hb dX9_averageYear_28 rfl (lv_at hl 0 rfl) ?_
      refine lv_iload_n hx hb dX9_averageYear_29 rfl (lv_at hl 1 rfl) ?_
      refine g_cV X w (c_X9_average l D t b n σ0 (va_up I 0 0) Rw a_ca ca e_ca (by omega) (h_2 ca k_6.1 k_6.2) (h_3 ca k_6.1 k_6.2) (h_4 ca k_6.1 k_6.2)) v_X9_333 (k := 45) rfl rfl rfl ⟨Nat.le_of_ble_eq_true rfl, Nat.le_of_ble_eq_true rfl⟩ rfl hl.1 (Nat.le_of_ble_eq_true rfl) dX9_averageYear_30 ⟨Nat.le_of_ble_eq_true rfl, Nat.le_of_ble_eq_true rfl⟩ (fun v_30 n_30 σ_30 H locs z_30 w => ?_)
      obtain ⟨rfl, en, es⟩ := z_30
      rw [en, es] at w
      have dc_30 := avg_dec (h_2 ca k_6.1 k_6.2) (h_4 ca k_6.1 k_6.2)
      show W _ _ _ _ _ _ _ _ _ _ _ _ _ _ _ (F0 _ _ _ ([.double (avgD (rowM Rw ca))]))
      exact g_dret (post := fun v n1 σ1 => ∃ u, v = some (.double u) ∧ n1 = n ∧ ∃ I1, σ1 = mS t b σ0 I1 Rw ∧ kpI [0] I I1 ∧ (I1 0).toInt = (if 0 ≤ ca ∧ ca < (I 5).toInt then 0 else 1) ∧ ((I1 0).toInt = 0 → u = avgD (rowM Rw ca))) X w dX9_averageYear_33 (⟨_, rfl, rfl, _, rfl, kpI.up kpI.rf (by decide), (by rw [va_up_self, if_pos k_6]; rfl), fun _ => rfl⟩)
    · skip
      have k_21 : ¬ ((0 : Int) ≤ 0) := fun h => c_21 ((g_le (show (0 : Int32).toInt = 0 from rfl) (show (0 : Int32).toInt = 0 from rfl)).mpr h)
      omega

set_option maxHeartbeats 2000000 in
set_option maxRecDepth 100000 in
theorem c_X9_drift (l : Launch) (D : va_G) (t : Nat → ClassId) (b n : Nat) (σ0 : qM) (I : Nat → Int32) (Rw : Nat → Nat → Int32) (a_ca : Int32) (ca : Int) (e_ca : a_ca.toInt = ca) (a_cb : Int32) (cb : Int) (e_cb : a_cb.toInt = cb) (h_1 : (I 5).toInt ≤ 6) (h_2 : ∀ c : Int, 0 ≤ c → c < (I 5).toInt → okRow (rowM Rw c)) (h_3 : ∀ c : Int, 0 ≤ c → c < (I 5).toInt → okF Rw c) (h_4 : ∀ c : Int, 0 ≤ c → c < (I 5).toInt → reps (rowM Rw c) ≠ 0) : qG l yX9_drift cX9_drift 3 (some .float) 3 0 0 D t b n (mS t b σ0 I Rw) [.ref (b + 45), .int a_ca, .int a_cb] (fun v n1 σ1 => ∃ u, v = some (.float u) ∧ n1 = n ∧ ∃ I1, σ1 = mS t b σ0 I1 Rw ∧ kpI [0] I I1 ∧ (I1 0).toInt = (if (0 ≤ ca ∧ ca < (I 5).toInt) ∧ 0 ≤ cb ∧ cb < (I 5).toInt then 0 else 1) ∧ ((I1 0).toInt = 0 → u = drD (rowM Rw ca) (rowM Rw cb))) := by
  refine qG.of (by decide +kernel) (Nat.le_of_ble_eq_true rfl) (fun p e s m args below meth c X w ls hl => ?_)
  have hx := X.1
  have hb := X.2.1
  have hl : lv_has ls 3 [(0, .ref (b + 45)), (1, .int a_ca), (2, .int a_cb)] := hl
  refine lv_aload_n hx hb dX9_drift_0 rfl (lv_at hl 0 rfl) ?_
  refine lv_aload_n hx hb dX9_drift_1 rfl (lv_at hl 0 rfl) ?_
  refine lv_iload_n hx hb dX9_drift_2 rfl (lv_at hl 1 rfl) ?_
  refine q_cPV X w (c_X9_isCalendar l D t b n σ0 I Rw a_ca ca e_ca) v_X9_221 (k := 45) rfl rfl rfl ⟨Nat.le_of_ble_eq_true rfl, Nat.le_of_ble_eq_true rfl⟩ rfl hl.1 (Nat.le_of_ble_eq_true rfl) dX9_drift_3 ⟨Nat.zero_le _, Nat.zero_le _⟩ (fun r_3 z_3 => ?_)
  refine lv_if_eq (tgt := 21) hx hb dX9_drift_6 (by decide) (fun c_6 => ?_) (fun c_6 => ?_)
  · skip
    rw [z_3] at c_6
    have k_6 := bI_f.mp c_6
    refine lv_iconst (v := 1) hx hb dX9_drift_21 (by decide) ?_
    refine mp_thrown (v := 1) X w dX9_drift_22 (fun H locs w => ?_)
    refine lv_aload_n hx hb dX9_drift_25 rfl (lv_at hl 0 rfl) ?_
    refine mg_thrown X w dX9_drift_26 ?_
    refine q_topE (y := 1) rfl ?_
    refine lv_if_le (tgt := 36) hx hb dX9_drift_29 (by decide) (fun c_29 => ?_) (fun c_29 => ?_)
    · skip
      have k_29 : (1 : Int) ≤ 0 := (g_le (show (1 : Int32).toInt = 1 from rfl) (show (0 : Int32).toInt = 0 from rfl)).mp c_29
      omega
    · skip
      have k_29 : ¬ ((1 : Int) ≤ 0) := fun h => c_29 ((g_le (show (1 : Int32).toInt = 1 from rfl) (show (0 : Int32).toInt = 0 from rfl)).mpr h)
      refine lv_fconst0 hx hb dX9_drift_32 ?_
      refine lv_goto (tgt := 52) hx hb dX9_drift_33 (by decide) ?_
      exact g_fret (post := fun v n1 σ1 => ∃ u, v = some (.float u) ∧ n1 = n ∧ ∃ I1, σ1 = mS t b σ0 I1 Rw ∧ kpI [0] I I1 ∧ (I1 0).toInt = (if (0 ≤ ca ∧ ca < (I 5).toInt) ∧ 0 ≤ cb ∧ cb < (I 5).toInt then 0 else 1) ∧ ((I1 0).toInt = 0 → u = drD (rowM Rw ca) (rowM Rw cb))) X w dX9_drift_52 (⟨_, rfl, rfl, _, rfl, kpI.up kpI.rf (by decide), (by rw [va_up_self, if_neg (fun z => k_6 z.1)]; rfl), fun z => absurd z (by rw [va_up_self]; decide)⟩)
  · skip
    rw [z_3] at c_6
    have k_6 := bI_t.mp c_6
    refine lv_aload_n hx hb dX9_drift_9 rfl (lv_at hl 0 rfl) ?_
    refine lv_iload_n hx hb dX9_drift_10 rfl (lv_at hl 2 rfl) ?_
    refine q_cPV X w (c_X9_isCalendar l D t b n σ0 I Rw a_cb cb e_cb) v_X9_221 (k := 45) rfl rfl rfl ⟨Nat.le_of_ble_eq_true rfl, Nat.le_of_ble_eq_true rfl⟩ rfl hl.1 (Nat.le_of_ble_eq_true rfl) dX9_drift_11 ⟨Nat.zero_le _, Nat.zero_le _⟩ (fun r_11 z_11 => ?_)
    refine lv_if_eq (tgt := 21) hx hb dX9_drift_14 (by decide) (fun c_14 => ?_) (fun c_14 => ?_)
    · skip
      rw [z_11] at c_14
      have k_14 := bI_f.mp c_14
      refine lv_iconst (v := 1) hx hb dX9_drift_21 (by decide) ?_
      refine mp_thrown (v := 1) X w dX9_drift_22 (fun H locs w => ?_)
      refine lv_aload_n hx hb dX9_drift_25 rfl (lv_at hl 0 rfl) ?_
      refine mg_thrown X w dX9_drift_26 ?_
      refine q_topE (y := 1) rfl ?_
      refine lv_if_le (tgt := 36) hx hb dX9_drift_29 (by decide) (fun c_29 => ?_) (fun c_29 => ?_)
      · skip
        have k_29 : (1 : Int) ≤ 0 := (g_le (show (1 : Int32).toInt = 1 from rfl) (show (0 : Int32).toInt = 0 from rfl)).mp c_29
        omega
      · skip
        have k_29 : ¬ ((1 : Int) ≤ 0) := fun h => c_29 ((g_le (show (1 : Int32).toInt = 1 from rfl) (show (0 : Int32).toInt = 0 from rfl)).mpr h)
        refine lv_fconst0 hx hb dX9_drift_32 ?_
        refine lv_goto (tgt := 52) hx hb dX9_drift_33 (by decide) ?_
        exact g_fret (post := fun v n1 σ1 => ∃ u, v = some (.float u) ∧ n1 = n ∧ ∃ I1, σ1 = mS t b σ0 I1 Rw ∧ kpI [0] I I1 ∧ (I1 0).toInt = (if (0 ≤ ca ∧ ca < (I 5).toInt) ∧ 0 ≤ cb ∧ cb < (I 5).toInt then 0 else 1) ∧ ((I1 0).toInt = 0 → u = drD (rowM Rw ca) (rowM Rw cb))) X w dX9_drift_52 (⟨_, rfl, rfl, _, rfl, kpI.up kpI.rf (by decide), (by rw [va_up_self, if_neg (fun z => k_14 z.2)]; rfl), fun z => absurd z (by rw [va_up_self]; decide)⟩)
    · skip
      rw [z_11] at c_14
      have k_14 := bI_t.mp c_14
      refine lv_iconst (v := 0) hx hb dX9_drift_17 (by decide) ?_
      refine lv_goto (tgt := 22) hx hb dX9_drift_18 (by decide) ?_
      refine mp_thrown (v := 0) X w dX9_drift_22 (fun H locs w => ?_)
      refine lv_aload_n hx hb dX9_drift_25 rfl (lv_at hl 0 rfl) ?_
      refine mg_thrown X w dX9_drift_26 ?_
      refine q_topE (y := 0) rfl ?_
      refine lv_if_le (tgt := 36) hx hb dX9_drift_29 (by decide) (fun c_29 => ?_) (fun c_29 => ?_)
      · skip
        have k_29 : (0 : Int) ≤ 0 := (g_le (show (0 : Int32).toInt = 0 from rfl) (show (0 : Int32).toInt = 0 from rfl)).mp c_29
        refine lv_aload_n hx hb dX9_drift_36 rfl (lv_at hl 0 rfl) ?_
        refine lv_iload_n hx hb dX9_drift_37 rfl (lv_at hl 1 rfl) ?_
        refine g_cV X w (c_X9_average l D t b n σ0 (va_up I 0 0) Rw a_ca ca e_ca (by omega) (h_2 ca k_6.1 k_6.2) (h_3 ca k_6.1 k_6.2) (h_4 ca k_6.1 k_6.2)) v_X9_333 (k := 45) rfl rfl rfl ⟨Nat.le_of_ble_eq_true rfl, Nat.le_of_ble_eq_true rfl⟩ rfl hl.1 (Nat.le_of_ble_eq_true rfl) dX9_drift_38 ⟨Nat.le_of_ble_eq_true rfl, Nat.le_of_ble_eq_true rfl⟩ (fun v_38 n_38 σ_38 H locs z_38 w => ?_)
        obtain ⟨rfl, en, es⟩ := z_38
        rw [en, es] at w
        have dc_38 := avg_dec (h_2 ca k_6.1 k_6.2) (h_4 ca k_6.1 k_6.2)
        show W _ _ _ _ _ _ _ _ _ _ _ _ _ _ _ (F0 _ _ _ ([.double (avgD (rowM Rw ca))]))
        refine lv_aload_n hx hb dX9_drift_41 rfl (lv_at hl 0 rfl) ?_
        refine lv_iload_n hx hb dX9_drift_42 rfl (lv_at hl 2 rfl) ?_
        refine g_cV X w (c_X9_average l D t b n σ0 (va_up I 0 0) Rw a_cb cb e_cb (by omega) (h_2 cb k_14.1 k_14.2) (h_3 cb k_14.1 k_14.2) (h_4 cb k_14.1 k_14.2)) v_X9_333 (k := 45) rfl rfl rfl ⟨Nat.le_of_ble_eq_true rfl, Nat.le_of_ble_eq_true rfl⟩ rfl hl.1 (Nat.le_of_ble_eq_true rfl) dX9_drift_43 ⟨Nat.le_of_ble_eq_true rfl, Nat.le_of_ble_eq_true rfl⟩ (fun v_43 n_43 σ_43 H locs z_43 w => ?_)
        obtain ⟨rfl, en, es⟩ := z_43
        rw [en, es] at w
        have dc_43 := avg_dec (h_2 cb k_14.1 k_14.2) (h_4 cb k_14.1 k_14.2)
        show W _ _ _ _ _ _ _ _ _ _ _ _ _ _ _ (F0 _ _ _ ([.double (avgD (rowM Rw cb)), .double (avgD (rowM Rw ca))]))
        have hsd := sub_dec dc_38 dc_43
        refine lv_dsub hx hb dX9_drift_46 hsd.1 ?_
        refine lv_ldc2d hx hb X.2.2.2.1 (X.2.2.1 _ kd_X9_337) dX9_drift_47 ?_
        have hmd := mul_dec hsd.2
        refine lv_dmul hx hb dX9_drift_50 hmd.1 ?_
        refine lv_d2f hx hb dX9_drift_51 (d2f_dec hmd.2) ?_
        exact g_fret (post := fun v n1 σ1 => ∃ u, v = some (.float u) ∧ n1 = n ∧ ∃ I1, σ1 = mS t b σ0 I1 Rw ∧ kpI [0] I I1 ∧ (I1 0).toInt = (if (0 ≤ ca ∧ ca < (I 5).toInt) ∧ 0 ≤ cb ∧ cb < (I 5).toInt then 0 else 1) ∧ ((I1 0).toInt = 0 → u = drD (rowM Rw ca) (rowM Rw cb))) X w dX9_drift_52 (⟨_, rfl, rfl, _, rfl, kpI.up kpI.rf (by decide), (by rw [va_up_self, if_pos ⟨k_6, k_14⟩]; rfl), fun _ => rfl⟩)
      · skip
        have k_29 : ¬ ((0 : Int) ≤ 0) := fun h => c_29 ((g_le (show (0 : Int32).toInt = 0 from rfl) (show (0 : Int32).toInt = 0 from rfl)).mpr h)
        omega

set_option maxHeartbeats 2000000 in
set_option maxRecDepth 100000 in
theorem c_X0_averageLength (l : Launch) (D : va_G) (t : Nat → ClassId) (b n : Nat) (σ : qM) (q L C : Nat) (K fl fc : Nat → Int32) (ρ : Row) (hP : CalP t b σ q L C K fl fc ρ)  : qG l yX0_averageLength cX0_averageLength 3 (some .double) 4 0 0 D t b n σ [.ref (b + q)] (fun v n1 σ1 => v = some (.double (avgD ρ)) ∧ n1 = n ∧ σ1 = σ) := by
  refine qG.of (by decide +kernel) (Nat.le_of_ble_eq_true rfl) (fun p e s m args below meth c X w ls hl => ?_)
  have hx := X.1
  have hb := X.2.1
  have hl : lv_has ls 3 [(0, .ref (b + q))] := hl
  obtain ⟨hO, hR, k1, k2, k3, k4, k5, k6, k7, k9, k10, k11, k12, k13, k14, kl, kc⟩ := hP.2.2.2
  have hm := hO.months
  have hrb := reps_bd hO hR
  have hs := hO.sum
  have hxb := extD_bd hO
  have hlb := lpb_bd hO hR (y := reps ρ) (by omega) (by omega)
  have hm1 := mulb (x := reps ρ) (y := sumL ρ (rv ρ 0).toNat) (by omega) (by omega)
  have hm2 := mulb (x := lpb ρ (reps ρ)) (y := extD ρ) hlb (by omega)
  refine lv_aload_n hx hb dX0_averageLength_0 rfl (lv_at hl 0 rfl) ?_
  refine lv_aload_n hx hb dX0_averageLength_1 rfl (lv_at hl 0 rfl) ?_
  refine cg_period X w hP dX0_averageLength_2 ?_
  refine q_cPV X w (c_X0_leapYearsBefore l D t b n σ q L C K fl fc ρ hP (K 7) (reps ρ) k7 (by first | assumption | omega)) v_X0_83 (k := q) hP.1 rfl rfl ⟨Nat.le_of_ble_eq_true rfl, Nat.le_of_ble_eq_true rfl⟩ rfl hl.1 (Nat.le_of_ble_eq_true rfl) dX0_averageLength_5 ⟨Nat.zero_le _, Nat.zero_le _⟩ (fun r_5 z_5 => ?_)
  refine lv_istore_n (lv' := [(1, .int r_5), (0, .ref (b + q))]) hx hb dX0_averageLength_8 rfl hl (by decide) rfl (fun ls hl => ?_)
  refine lv_aload_n hx hb dX0_averageLength_9 rfl (lv_at hl 1 rfl) ?_
  refine cg_period X w hP dX0_averageLength_10 ?_
  refine lv_aload_n hx hb dX0_averageLength_13 rfl (lv_at hl 1 rfl) ?_
  refine cg_commonLength X w hP dX0_averageLength_14 ?_
  refine lv_imul hx hb dX0_averageLength_17 ?_
  refine lv_topi (fun x_17 e_17 => ?_)
  have p_17 : x_17.toInt = ((reps ρ) * (sumL ρ (rv ρ 0).toNat)) := by rw [e_17]; exact t_mul k7 k1 (by omega) (by omega)
  refine lv_iload_n hx hb dX0_averageLength_18 rfl (lv_at hl 0 rfl) ?_
  refine lv_aload_n hx hb dX0_averageLength_19 rfl (lv_at hl 1 rfl) ?_
  refine cg_extra X w hP dX0_averageLength_20 ?_
  refine lv_imul hx hb dX0_averageLength_23 ?_
  refine lv_topi (fun x_23 e_23 => ?_)
  have p_23 : x_23.toInt = ((lpb ρ (reps ρ)) * (extD ρ)) := by rw [e_23]; exact t_mul z_5 k5 (by omega) (by omega)
  refine lv_iadd hx hb dX0_averageLength_24 ?_
  refine lv_topi (fun x_24 e_24 => ?_)
  have p_24 : x_24.toInt = (((reps ρ) * (sumL ρ (rv ρ 0).toNat)) + ((lpb ρ (reps ρ)) * (extD ρ))) := by rw [e_24]; exact t_add p_17 p_23 (by omega) (by omega)
  refine lv_istore_n (lv' := [(2, .int x_24), (1, .int r_5), (0, .ref (b + q))]) hx hb dX0_averageLength_25 rfl hl (by decide) rfl (fun ls hl => ?_)
  refine lv_aload_n hx hb dX0_averageLength_26 rfl (lv_at hl 2 rfl) ?_
  refine cg_period X w hP dX0_averageLength_27 ?_
  refine lv_if_le (tgt := 44) hx hb dX0_averageLength_30 (by decide) (fun c_30 => ?_) (fun c_30 => ?_)
  · skip
    have k_30 : (reps ρ) ≤ 0 := (g_le k7 (show (0 : Int32).toInt = 0 from rfl)).mp c_30
    exfalso; omega
  · skip
    have k_30 : ¬ ((reps ρ) ≤ 0) := fun h => c_30 ((g_le k7 (show (0 : Int32).toInt = 0 from rfl)).mpr h)
    refine lv_iload_n hx hb dX0_averageLength_33 rfl (lv_at hl 0 rfl) ?_
    refine lv_i2d hx hb dX0_averageLength_34 ?_
    refine lv_aload_n hx hb dX0_averageLength_35 rfl (lv_at hl 2 rfl) ?_
    refine cg_period X w hP dX0_averageLength_36 ?_
    refine lv_i2d hx hb dX0_averageLength_39 ?_
    refine lv_ddiv hx hb dX0_averageLength_40 (div_dec _ _ (by rw [show ((K 7)).toInt = reps ρ from k7]; omega)).1 ?_
    rw [show FP.ddiv (FP.i2d x_24) (FP.i2d (K 7)) = avgD ρ from (by unfold avgD; rw [← show (x_24).toInt = fst ρ (reps ρ + 1) - fst ρ 1 from p_24.trans (avg_period hO hR), ← show ((K 7)).toInt = reps ρ from k7, i3_i, i3_i])] 
    refine lv_goto (tgt := 45) hx hb dX0_averageLength_41 (by decide) ?_
    exact g_dret (post := fun v n1 σ1 => v = some (.double (avgD ρ)) ∧ n1 = n ∧ σ1 = σ) X w dX0_averageLength_45 (⟨rfl, rfl, rfl⟩)

set_option maxHeartbeats 2000000 in
set_option maxRecDepth 100000 in
theorem c_X8_averageYear (l : Launch) (D : va_G) (t : Nat → ClassId) (b n : Nat) (σ0 : qM) (A : Nat → Int32) (B : Nat → Nat → Int32) (P : Nat → Nat → Option Nat) (hl0 : l.stackTraces = false) (rw_ : Int → Row) (fe : Int → Int → Int32) (hQ : stQ t b σ0 A P 0 rw_ fe) (a_ca : Int32) (ca : Int) (e_ca : a_ca.toInt = ca) : xG l yX8_averageYear cX8_averageYear 2 (some .double) 7 2 12 D t b n (cS t b σ0 A B P) [.ref (b + 0), .int a_ca] (fun v n1 σ1 => v = some (.double (avgD (rw_ ca))) ∧ n1 = n ∧ σ1 = cS t b σ0 A B P ∧ (if 0 ≤ ca ∧ ca < (A 20).toInt then (0 : Int) else 1) = 0) (fun E n1 σ1 => σ1 = cS t b σ0 A B P ∧ xE E = (if 0 ≤ ca ∧ ca < (A 20).toInt then (0 : Int) else 1)) := by
  refine xG.of (by decide +kernel) (Nat.le_of_ble_eq_true rfl) (fun p e s m args below meth c X hE hno w ls hl => ?_)
  have hx := X.1
  have hb := X.2.1
  have hl : lv_has ls 2 [(0, .ref (b + 0)), (1, .int a_ca)] := hl
  have hnn := hQ.1
  refine lv_aload_n hx hb dX8_averageYear_0 rfl (lv_at hl 0 rfl) ?_
  refine lv_iload_n hx hb dX8_averageYear_1 rfl (lv_at hl 1 rfl) ?_
  refine x_cAV X hE hno w (c_X8_existing l D t b n σ0 A B P hl0 hQ.ok a_ca ca e_ca) v_X8_149 (k := 0) rfl rfl rfl ⟨Nat.le_of_ble_eq_true rfl, Nat.le_of_ble_eq_true rfl⟩ rfl hl.1 (Nat.le_of_ble_eq_true rfl) dX8_averageYear_2 ⟨Nat.le_of_ble_eq_true rfl, Nat.le_of_ble_eq_true rfl⟩ ⟨Nat.le_of_ble_eq_true rfl, Nat.le_of_ble_eq_true rfl⟩ (fun E n1 σ1 hz => ⟨hz.2.1, by rw [hz.1]; exact xE_io.trans (if_neg (fun y => hz.2.2 y)).symm⟩) (fun o_2 n_2 σ_2 H locs z_2 w => ?_)
  obtain ⟨en_2, es_2, eo_2, hin_2⟩ := z_2
  rw [en_2, es_2] at w
  obtain ⟨q_2, L_2, C_2, K_2, fl_2, fc_2, eq_2, hbc_2, hcp_2⟩ := hQ.2.1 ca hin_2.1 hin_2.2
  have hcp_2 := hcp_2.cS (A := A) (B := B) (P := P) hbc_2
  have eo_2 : o_2 = some q_2 := eo_2.trans eq_2
  subst eo_2
  have hok_2 : okRow (rw_ ca) := hcp_2.2.2.2.1
  refine g_cV X w (c_X0_averageLength l D t b n _ q_2 L_2 C_2 K_2 fl_2 fc_2 _ hcp_2) v_X8_311 (k := q_2) hcp_2.1 rfl rfl ⟨Nat.le_of_ble_eq_true rfl, Nat.le_of_ble_eq_true rfl⟩ rfl hl.1 (Nat.le_of_ble_eq_true rfl) dX8_averageYear_5 ⟨Nat.le_of_ble_eq_true rfl, Nat.le_of_ble_eq_true rfl⟩ (fun v_5 n_5 σ_5 H locs z_5 w => ?_)
  obtain ⟨rfl, en, es⟩ := z_5
  rw [en, es] at w
  have dc_5 := avg_dec hok_2 hcp_2.2.2.2.2.1
  show W _ _ _ _ _ _ _ _ _ _ _ _ _ _ _ (F0 _ _ _ ([.double (avgD (rw_ ca))]))
  refine vx_ret ?_
  refine W.widen (k := 2) (n := 12) (Nat.le_of_ble_eq_true rfl) (Nat.le_of_ble_eq_true rfl) ?_
  exact g_dret (post := fun v n1 σ1 => v = some (.double (avgD (rw_ ca))) ∧ n1 = n ∧ σ1 = cS t b σ0 A B P ∧ (if 0 ≤ ca ∧ ca < (A 20).toInt then (0 : Int) else 1) = 0) X w dX8_averageYear_8 (⟨rfl, rfl, rfl, if_pos hin_2⟩)

set_option maxHeartbeats 2000000 in
set_option maxRecDepth 100000 in
theorem c_X8_drift (l : Launch) (D : va_G) (t : Nat → ClassId) (b n : Nat) (σ0 : qM) (A : Nat → Int32) (B : Nat → Nat → Int32) (P : Nat → Nat → Option Nat) (hl0 : l.stackTraces = false) (rw_ : Int → Row) (fe : Int → Int → Int32) (hQ : stQ t b σ0 A P 0 rw_ fe) (a_ca : Int32) (ca : Int) (e_ca : a_ca.toInt = ca) (a_cb : Int32) (cb : Int) (e_cb : a_cb.toInt = cb) : xG l yX8_drift cX8_drift 5 (some .float) 7 2 12 D t b n (cS t b σ0 A B P) [.ref (b + 0), .int a_ca, .int a_cb] (fun v n1 σ1 => v = some (.float (drD (rw_ ca) (rw_ cb))) ∧ n1 = n ∧ σ1 = cS t b σ0 A B P ∧ (if (0 ≤ ca ∧ ca < (A 20).toInt) ∧ 0 ≤ cb ∧ cb < (A 20).toInt then (0 : Int) else 1) = 0) (fun E n1 σ1 => σ1 = cS t b σ0 A B P ∧ xE E = (if (0 ≤ ca ∧ ca < (A 20).toInt) ∧ 0 ≤ cb ∧ cb < (A 20).toInt then (0 : Int) else 1)) := by
  refine xG.of (by decide +kernel) (Nat.le_of_ble_eq_true rfl) (fun p e s m args below meth c X hE hno w ls hl => ?_)
  have hx := X.1
  have hb := X.2.1
  have hl : lv_has ls 5 [(0, .ref (b + 0)), (1, .int a_ca), (2, .int a_cb)] := hl
  have hnn := hQ.1
  refine lv_aload_n hx hb dX8_drift_0 rfl (lv_at hl 0 rfl) ?_
  refine lv_iload_n hx hb dX8_drift_1 rfl (lv_at hl 1 rfl) ?_
  refine x_cAV X hE hno w (c_X8_existing l D t b n σ0 A B P hl0 hQ.ok a_ca ca e_ca) v_X8_149 (k := 0) rfl rfl rfl ⟨Nat.le_of_ble_eq_true rfl, Nat.le_of_ble_eq_true rfl⟩ rfl hl.1 (Nat.le_of_ble_eq_true rfl) dX8_drift_2 ⟨Nat.le_of_ble_eq_true rfl, Nat.le_of_ble_eq_true rfl⟩ ⟨Nat.le_of_ble_eq_true rfl, Nat.le_of_ble_eq_true rfl⟩ (fun E n1 σ1 hz => ⟨hz.2.1, by rw [hz.1]; exact xE_io.trans (if_neg (fun y => hz.2.2 y.1)).symm⟩) (fun o_2 n_2 σ_2 H locs z_2 w => ?_)
  obtain ⟨en_2, es_2, eo_2, hin_2⟩ := z_2
  rw [en_2, es_2] at w
  obtain ⟨q_2, L_2, C_2, K_2, fl_2, fc_2, eq_2, hbc_2, hcp_2⟩ := hQ.2.1 ca hin_2.1 hin_2.2
  have hcp_2 := hcp_2.cS (A := A) (B := B) (P := P) hbc_2
  have eo_2 : o_2 = some q_2 := eo_2.trans eq_2
  subst eo_2
  have hok_2 : okRow (rw_ ca) := hcp_2.2.2.2.1
  refine lv_astore_n (lv' := [(3, .ref (b + q_2)), (0, .ref (b + 0)), (1, .int a_ca), (2, .int a_cb)]) hx hb dX8_drift_5 rfl hl (by decide) rfl (fun ls hl => ?_)
  refine lv_aload_n hx hb dX8_drift_6 rfl (lv_at hl 1 rfl) ?_
  refine lv_iload_n hx hb dX8_drift_7 rfl (lv_at hl 3 rfl) ?_
  refine x_cAV X hE hno w (c_X8_existing l D t b n σ0 A B P hl0 hQ.ok a_cb cb e_cb) v_X8_149 (k := 0) rfl rfl rfl ⟨Nat.le_of_ble_eq_true rfl, Nat.le_of_ble_eq_true rfl⟩ rfl hl.1 (Nat.le_of_ble_eq_true rfl) dX8_drift_8 ⟨Nat.le_of_ble_eq_true rfl, Nat.le_of_ble_eq_true rfl⟩ ⟨Nat.le_of_ble_eq_true rfl, Nat.le_of_ble_eq_true rfl⟩ (fun E n1 σ1 hz => ⟨hz.2.1, by rw [hz.1]; exact xE_io.trans (if_neg (fun y => hz.2.2 y.2)).symm⟩) (fun o_8 n_8 σ_8 H locs z_8 w => ?_)
  obtain ⟨en_8, es_8, eo_8, hin_8⟩ := z_8
  rw [en_8, es_8] at w
  obtain ⟨q_8, L_8, C_8, K_8, fl_8, fc_8, eq_8, hbc_8, hcp_8⟩ := hQ.2.1 cb hin_8.1 hin_8.2
  have hcp_8 := hcp_8.cS (A := A) (B := B) (P := P) hbc_8
  have eo_8 : o_8 = some q_8 := eo_8.trans eq_8
  subst eo_8
  have hok_8 : okRow (rw_ cb) := hcp_8.2.2.2.1
  refine lv_astore (lv' := [(4, .ref (b + q_8)), (3, .ref (b + q_2)), (0, .ref (b + 0)), (1, .int a_ca), (2, .int a_cb)]) hx hb dX8_drift_11 hl (by decide) rfl (fun ls hl => ?_)
  refine lv_aload_n hx hb dX8_drift_13 rfl (lv_at hl 1 rfl) ?_
  refine g_cV X w (c_X0_averageLength l D t b n _ q_2 L_2 C_2 K_2 fl_2 fc_2 _ hcp_2) v_X8_311 (k := q_2) hcp_2.1 rfl rfl ⟨Nat.le_of_ble_eq_true rfl, Nat.le_of_ble_eq_true rfl⟩ rfl hl.1 (Nat.le_of_ble_eq_true rfl) dX8_drift_14 ⟨Nat.le_of_ble_eq_true rfl, Nat.le_of_ble_eq_true rfl⟩ (fun v_14 n_14 σ_14 H locs z_14 w => ?_)
  obtain ⟨rfl, en, es⟩ := z_14
  rw [en, es] at w
  have dc_14 := avg_dec hok_2 hcp_2.2.2.2.2.1
  show W _ _ _ _ _ _ _ _ _ _ _ _ _ _ _ (F0 _ _ _ ([.double (avgD (rw_ ca))]))
  refine lv_aload hx hb dX8_drift_17 (lv_at hl 0 rfl) ?_
  refine g_cV X w (c_X0_averageLength l D t b n _ q_8 L_8 C_8 K_8 fl_8 fc_8 _ hcp_8) v_X8_311 (k := q_8) hcp_8.1 rfl rfl ⟨Nat.le_of_ble_eq_true rfl, Nat.le_of_ble_eq_true rfl⟩ rfl hl.1 (Nat.le_of_ble_eq_true rfl) dX8_drift_19 ⟨Nat.le_of_ble_eq_true rfl, Nat.le_of_ble_eq_true rfl⟩ (fun v_19 n_19 σ_19 H locs z_19 w => ?_)
  obtain ⟨rfl, en, es⟩ := z_19
  rw [en, es] at w
  have dc_19 := avg_dec hok_8 hcp_8.2.2.2.2.1
  show W _ _ _ _ _ _ _ _ _ _ _ _ _ _ _ (F0 _ _ _ ([.double (avgD (rw_ cb)), .double (avgD (rw_ ca))]))
  have hsd := sub_dec dc_14 dc_19
  refine lv_dsub hx hb dX8_drift_22 hsd.1 ?_
  refine lv_ldc2d hx hb X.2.2.2.1 (X.2.2.1 _ kd_X8_315) dX8_drift_23 ?_
  have hmd := mul_dec hsd.2
  refine lv_dmul hx hb dX8_drift_26 hmd.1 ?_
  refine lv_d2f hx hb dX8_drift_27 (d2f_dec hmd.2) ?_
  refine vx_ret ?_
  refine W.widen (k := 2) (n := 12) (Nat.le_of_ble_eq_true rfl) (Nat.le_of_ble_eq_true rfl) ?_
  exact g_fret (post := fun v n1 σ1 => v = some (.float (drD (rw_ ca) (rw_ cb))) ∧ n1 = n ∧ σ1 = cS t b σ0 A B P ∧ (if (0 ≤ ca ∧ ca < (A 20).toInt) ∧ 0 ≤ cb ∧ cb < (A 20).toInt then (0 : Int) else 1) = 0) X w dX8_drift_28 (⟨rfl, rfl, rfl, if_pos ⟨hin_2, hin_8⟩⟩)
