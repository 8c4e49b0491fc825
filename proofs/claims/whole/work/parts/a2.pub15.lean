theorem apI_p {s : Int × (Int → Int)} {v : Int} (h : 0 ≤ v) : apI s v = ad s (dN v) (dD v) := by
  unfold apI absI
  rw [if_neg (by omega), if_neg (by omega)]
section YQ
variable {l : Launch} {cc : ByteArray} {mL : Nat} {r : Option FieldType} {D : va_G} {t : Nat → ClassId} {b n : Nat} {σ : qM}
/-! contracts that return or throw, where the JDK's statics are read too -/
def qPreY (D : va_G) (t : Nat → ClassId) (b n : Nat) (σ : qM) (As : List Value) : Array Value → State → Prop := va_Pc As (fun U => WB D b n σ U.heap ∧ GP D t b U ∧ XK U ∧ SK b U)
theorem qPreY.blind {As : List Value} : FrameBlind (qPreY D t b n σ As) := fun _ _ _ _ q => ⟨q.1, q.2.1, q.2.2.1.blind, q.2.2.2.1.blind, q.2.2.2.2.blind⟩
def yC (l : Launch) (y : MethodName) (cc : ByteArray) (mL : Nat) (r : Option FieldType) (d mc ms : Nat) (D : va_G) (t : Nat → ClassId) (b n : Nat) (σ : qM) (As : List Value) (post : Int32 → Nat → qM → Prop) (xp : String → Nat → qM → Prop) : Prop :=
  vx_Met l y (.code y cc mL r :: TB) (qR d mc ms) (qPreY D t b n σ As) (va_Qi (S := Nat × qM) (fun z u => post z u.1 u.2) (fun u T => WB D b u.1 u.2 T.heap) (fun q => b ≤ q)) (xX D b xp) mc ms (fun q => b ≤ q)
theorem yC.of {y : MethodName} {d mc ms : Nat} {As : List Value} {post : Int32 → Nat → qM → Prop} {xp : String → Nat → qM → Prop} (hy : plainName y.cls = true) (hA : (lg_sl As).length ≤ mL)
    (k : ∀ (p : Program) (e : Env) (s : State) (m : MethodId) (args : Array Value) (below : List Frame) (meth : Method) (c : Code), qX p s args m meth c y.cls cc mL r D t b → XK s → SK b s → (∀ x ∈ c.exceptionTable.toList, False) → qW D b n σ s s.heap [] → ∀ ls : Array Slot, lv_has ls mL (lv_args 0 As) →
      W p l e (qR d mc ms) s m args below meth c s.heap [] 0 0 (vx_MQ below (va_Qi (S := Nat × qM) (fun z u => post z u.1 u.2) (fun u T => WB D b u.1 u.2 T.heap) (fun q => b ≤ q)) (xX D b xp) args s mc ms (fun q => b ≤ q)) (F0 m 0 ls [])) : yC l y cc mL r d mc ms D t b n σ As post xp := by
  refine vx_ofW (cc := cc) (maxL := mL) (ret := r) hy rfl ?_
  intro p e s m args below meth c s₁ B hml hno hv
  obtain ⟨rfl, hw, hG, hE, hS⟩ := hv
  have hts := atoms_spec (ws := Cond.code y cc mL r :: TB) B.pre
  refine q_start hA (fun ls hl => ?_)
  exact k p e s m _ below meth c ⟨B.exec, B.bytes, fun w h => hts w (List.mem_cons_of_mem _ h), findClass_of_methodNamed B.named, hml, B.returns, B.notSynchronized, hG⟩ hE hS hno ⟨hw, va_S.rf, by rw [hw.1]; exact Nat.le_add_right _ _⟩ ls hl
end YQ

set_option maxHeartbeats 2000000 in
set_option maxRecDepth 100000 in
theorem c_X8_write (l : Launch) (D : va_G) (t : Nat → ClassId) (b n : Nat) (σ0 : qM) (A : Nat → Int32) (B : Nat → Nat → Int32) (P : Nat → Nat → Option Nat) (hl0 : l.stackTraces = false) (rw_ : Int → Row) (fe : Int → Int → Int32) (hQ : stQ t b σ0 A P 0 rw_ fe) (h_c : 0 ≤ (A 37).toInt ∧ (A 37).toInt ≤ 16) (a_ca : Int32) (ca : Int) (e_ca : a_ca.toInt = ca) (a_dy : Int32) (dy : Int) (e_dy : a_dy.toInt = dy) : yC l yX8_write cX8_write 6 (some .int) 7 3 18 D t b n (cS t b σ0 A B P) [.ref (b + 0), .int a_ca, .int a_dy] (fun z n1 σ1 => n1 = n ∧ ∃ A1 B1, σ1 = cS t b σ0 A1 B1 P ∧ cd3 (0 ≤ ca ∧ ca < (A 20).toInt) (-999999 ≤ dy ∧ dy ≤ 999999) (fst (rw_ ca) (-2000) ≤ dy ∧ dy < fst (rw_ ca) 2001) = 0 ∧ z = A1 37 ∧ kpI [37, 38] A A1 ∧ kpR [9] B B1 ∧ sbQ A1 B1 (wrt (rw_ ca) dy)) (fun E n1 σ1 => σ1 = cS t b σ0 A B P ∧ xE E = cd3 (0 ≤ ca ∧ ca < (A 20).toInt) (-999999 ≤ dy ∧ dy ≤ 999999) (fst (rw_ ca) (-2000) ≤ dy ∧ dy < fst (rw_ ca) 2001)) := by
  refine yC.of (by decide +kernel) (Nat.le_of_ble_eq_true rfl) (fun p e s m args below meth c X hE hS hno w ls hl => ?_)
  have hx := X.1
  have hb := X.2.1
  have hl : lv_has ls 6 [(0, .ref (b + 0)), (1, .int a_ca), (2, .int a_dy)] := hl
  have hnn := hQ.1
  refine lv_aload_n hx hb dX8_write_0 rfl (lv_at hl 0 rfl) ?_
  refine lv_iload_n hx hb dX8_write_1 rfl (lv_at hl 1 rfl) ?_
  refine x_cAV X hE hno w (c_X8_existing l D t b n σ0 A B P hl0 hQ.ok a_ca ca e_ca) v_X8_149 (k := 0) rfl rfl rfl ⟨Nat.le_of_ble_eq_true rfl, Nat.le_of_ble_eq_true rfl⟩ rfl hl.1 (Nat.le_of_ble_eq_true rfl) dX8_write_2 ⟨Nat.le_of_ble_eq_true rfl, Nat.le_of_ble_eq_true rfl⟩ ⟨Nat.le_of_ble_eq_true rfl, Nat.le_of_ble_eq_true rfl⟩ (fun E n1 σ1 hz => ⟨hz.2.1, by rw [hz.1]; exact xE_io.trans (cd3_1 hz.2.2).symm⟩) (fun o_2 n_2 σ_2 H locs z_2 w => ?_)
  obtain ⟨en_2, es_2, eo_2, hin_2⟩ := z_2
  rw [en_2, es_2] at w
  obtain ⟨q_2, L_2, C_2, K_2, fl_2, fc_2, eq_2, hbc_2, hcp_2⟩ := hQ.2.1 ca hin_2.1 hin_2.2
  have hcb_2 := hcp_2
  have hcp_2 := hcp_2.cS (A := A) (B := B) (P := P) hbc_2
  have eo_2 : o_2 = some q_2 := eo_2.trans eq_2
  subst eo_2
  have hok_2 : okRow (rw_ ca) := hcp_2.2.2.2.1
  refine lv_astore_n (lv' := [(3, .ref (b + q_2)), (0, .ref (b + 0)), (1, .int a_ca), (2, .int a_dy)]) hx hb dX8_write_5 rfl hl (by decide) rfl (fun ls hl => ?_)
  refine lv_iload_n hx hb dX8_write_6 rfl (lv_at hl 3 rfl) ?_
  refine q_cPS X w (c_X8_isDay l a_dy dy e_dy D t b n (cS t b σ0 A B P)) v_X8_187 rfl ⟨Nat.le_of_ble_eq_true rfl, Nat.le_of_ble_eq_true rfl⟩ rfl hl.1 (Nat.le_of_ble_eq_true rfl) dX8_write_7 ⟨Nat.le_of_ble_eq_true rfl, Nat.le_of_ble_eq_true rfl⟩ (fun r_7 z_7 => ?_)
  refine x_cVS X hE hno w (c_X8_demand l D t b n σ0 A B P hl0 r_7) v_X8_103 rfl ⟨Nat.le_of_ble_eq_true rfl, Nat.le_of_ble_eq_true rfl⟩ rfl hl.1 (Nat.le_of_ble_eq_true rfl) dX8_write_10 ⟨Nat.le_of_ble_eq_true rfl, Nat.le_of_ble_eq_true rfl⟩ ⟨Nat.le_of_ble_eq_true rfl, Nat.le_of_ble_eq_true rfl⟩ (fun E n1 σ1 hz => ⟨hz.2.1, by rw [hz.1]; exact xE_ia.trans (cd3_2 hin_2 (bI_f.mp (by have y := hz.2.2; rw [z_7] at y; exact y))).symm⟩) (fun n_10 σ_10 H locs z_10 w => ?_)
  rw [z_10.1, z_10.2.1] at w
  have k_10 : -999999 ≤ dy ∧ dy ≤ 999999 := by have y := z_10.2.2; rw [z_7] at y; exact bI_t.mp y
  refine lv_aload_n hx hb dX8_write_13 rfl (lv_at hl 0 rfl) ?_
  refine lv_iload_n hx hb dX8_write_14 rfl (lv_at hl 3 rfl) ?_
  refine x_cCS X hE hno w (c_X8_yearInside l D t b n σ0 A B P hl0 q_2 L_2 C_2 K_2 fl_2 fc_2 _ hcp_2 a_dy dy e_dy) v_X8_190 rfl ⟨Nat.le_of_ble_eq_true rfl, Nat.le_of_ble_eq_true rfl⟩ rfl hl.1 (Nat.le_of_ble_eq_true rfl) dX8_write_15 ⟨Nat.le_of_ble_eq_true rfl, Nat.le_of_ble_eq_true rfl⟩ ⟨Nat.le_of_ble_eq_true rfl, Nat.le_of_ble_eq_true rfl⟩ (fun E n1 σ1 hz => ⟨hz.2.1, by rw [hz.1]; exact xE_ns.trans (cd3_3 hin_2 (k_10) ((yoc_iff hok_2).mp hz.2.2)).symm⟩) (fun r_15 n_15 σ_15 H locs z_15 w => ?_)
  rw [z_15.1, z_15.2.1] at w
  have hi_15 : fst (rw_ ca) (-2000) ≤ dy ∧ dy < fst (rw_ ca) 2001 := by by_cases y : fst (rw_ ca) (-2000) ≤ dy ∧ dy < fst (rw_ ca) 2001; (exact y); (exact absurd ((yoc_iff hok_2).mpr y) z_15.2.2.2)
  have hy_15 : r_15.toInt = yof (rw_ ca) dy := z_15.2.2.1.trans (if_pos hi_15)
  refine lv_istore (lv' := [(4, .int r_15), (3, .ref (b + q_2)), (0, .ref (b + 0)), (1, .int a_ca), (2, .int a_dy)]) hx hb dX8_write_18 hl (by decide) rfl (fun ls hl => ?_)
  have hy := yof_in hok_2 hi_15.1 hi_15.2
  have hM := mof_bd hok_2 dy
  have hD := dof_bd hok_2 hi_15.1 hi_15.2
  have hC := mcnt_bd hok_2 (yof (rw_ ca) dy)
  have hLm := mlen_bd hok_2 hM.1 hM.2
  have d3 : dN (dof (rw_ ca) dy) ≤ 2 := dN_2 (by omega)
  have d4 : dN (mof (rw_ ca) dy) ≤ 2 := dN_2 (by omega)
  have d5 := dN_bd (dof (rw_ ca) dy)
  have d6 := dN_bd (mof (rw_ ca) dy)
  refine lv_aload_n hx hb dX8_write_20 rfl (lv_at hl 1 rfl) ?_
  refine lv_iload hx hb dX8_write_21 (lv_at hl 0 rfl) ?_
  refine lv_iload_n hx hb dX8_write_23 rfl (lv_at hl 4 rfl) ?_
  refine q_cPV X w (c_X0_monthOf l D t b n _ q_2 L_2 C_2 K_2 fl_2 fc_2 _ hcp_2 r_15 a_dy (yof (rw_ ca) dy) dy hy_15 e_dy (by exact hi_15) (by rfl)) v_X8_295 (k := q_2) hcp_2.1 rfl rfl ⟨Nat.le_of_ble_eq_true rfl, Nat.le_of_ble_eq_true rfl⟩ rfl hl.1 (Nat.le_of_ble_eq_true rfl) dX8_write_24 ⟨Nat.le_of_ble_eq_true rfl, Nat.le_of_ble_eq_true rfl⟩ (fun r_24 z_24 => ?_)
  refine lv_istore (lv' := [(5, .int r_24), (4, .int r_15), (3, .ref (b + q_2)), (0, .ref (b + 0)), (1, .int a_ca), (2, .int a_dy)]) hx hb dX8_write_27 hl (by decide) rfl (fun ls hl => ?_)
  refine lv_aload_n hx hb dX8_write_29 rfl (lv_at hl 3 rfl) ?_
  refine kg_X8_written X w dX8_write_30 ?_
  refine lv_iconst (v := 0) hx hb dX8_write_33 (by decide) ?_
  refine j_cV X hS w (c_J4_setLength_d00df l D t b n σ0 A B P h_c) v_X8_298 rfl rfl ⟨Nat.le_of_ble_eq_true rfl, Nat.le_of_ble_eq_true rfl⟩ rfl hl.1 (Nat.le_of_ble_eq_true rfl) dX8_write_34 ⟨Nat.le_of_ble_eq_true rfl, Nat.le_of_ble_eq_true rfl⟩ (fun v_34 A_34 B_34 H locs z_34 w => ?_)
  obtain ⟨rfl, kk_34, z0, ez2⟩ := z_34
  rw [ez2] at w
  have zs_34 : sbQ A_34 B ad0 := ⟨by rw [z0]; rfl, fun j a1 a2 => absurd (show j < 0 from a2) (by omega)⟩
  have kr_34 : kpR [9] B B := kpR.rf
  have hcp_2 := hcb_2.cS (A := A_34) (B := B) (P := P) hbc_2
  have ln_34 : ad0.1 = 0 := rfl
  show W _ _ _ _ _ _ _ _ _ _ _ _ _ _ _ (F0 _ _ _ ([]))
  refine lv_aload_n hx hb dX8_write_37 rfl (lv_at hl 3 rfl) ?_
  refine kg_X8_written X w dX8_write_38 ?_
  refine lv_aload_n hx hb dX8_write_41 rfl (lv_at hl 2 rfl) ?_
  refine lv_iload hx hb dX8_write_42 (lv_at hl 1 rfl) ?_
  refine lv_iload_n hx hb dX8_write_44 rfl (lv_at hl 5 rfl) ?_
  refine lv_iconst (v := 2) hx hb dX8_write_45 (by decide) ?_
  refine q_cPV X w (c_X0_partOfDate l D t b n _ q_2 L_2 C_2 K_2 fl_2 fc_2 _ hcp_2 r_15 a_dy 2 (yof (rw_ ca) dy) dy 2 hy_15 e_dy (show (2 : Int32).toInt = 2 from rfl) (by exact hi_15) (by rfl) (by omega)) v_X8_194 (k := q_2) hcp_2.1 rfl rfl ⟨Nat.le_of_ble_eq_true rfl, Nat.le_of_ble_eq_true rfl⟩ rfl hl.1 (Nat.le_of_ble_eq_true rfl) dX8_write_46 ⟨Nat.le_of_ble_eq_true rfl, Nat.le_of_ble_eq_true rfl⟩ (fun r_46 z_46 => ?_)
  skip
  refine j_cV X hS w (c_J4_append_bf812 l D t b n σ0 A_34 B P r_46 (dof (rw_ ca) dy) z_46 ad0 zs_34 (by omega) (by rw [show absI (dof (rw_ ca) dy) = (dof (rw_ ca) dy) from if_neg (by omega), if_neg (show ¬ (dof (rw_ ca) dy) < 0 by omega)]; omega)) v_X8_301 rfl rfl ⟨Nat.le_of_ble_eq_true rfl, Nat.le_of_ble_eq_true rfl⟩ rfl hl.1 (Nat.le_of_ble_eq_true rfl) dX8_write_49 ⟨Nat.le_of_ble_eq_true rfl, Nat.le_of_ble_eq_true rfl⟩ (fun v_49 A_49 B_49 H locs z_49 w => ?_)
  obtain ⟨rfl, zk, zr, zs_49⟩ := z_49
  have kk_49 : kpI [37, 38] A A_49 := kk_34.tr zk (by decide) (by decide)
  have kr_49 : kpR [9] B B_49 := kr_34.tr zr (by decide) (by decide)
  rw [apI_p (show 0 ≤ dof (rw_ ca) dy by omega)] at zs_49
  obtain ⟨s_49, hs_49⟩ : ∃ z, z = ad ad0 (dN (dof (rw_ ca) dy)) (dD (dof (rw_ ca) dy)) := ⟨_, rfl⟩
  rw [← hs_49] at zs_49
  have ln_49 : s_49.1 = ad0.1 + dN (dof (rw_ ca) dy) := by rw [hs_49]; rfl
  have hcp_2 := hcb_2.cS (A := A_49) (B := B_49) (P := P) hbc_2
  show W _ _ _ _ _ _ _ _ _ _ _ _ _ _ _ (F0 _ _ _ ([.ref (b + 40)]))
  refine lv_bipush (v := 46) hx hb dX8_write_52 (by decide) ?_
  refine j_cV X hS w (c_J4_append_cf468 l D t b n σ0 A_49 B_49 P 46 46 (show (46 : Int32).toInt = 46 from rfl) s_49 zs_49 (by omega) (by omega)) v_X8_304 rfl rfl ⟨Nat.le_of_ble_eq_true rfl, Nat.le_of_ble_eq_true rfl⟩ rfl hl.1 (Nat.le_of_ble_eq_true rfl) dX8_write_54 ⟨Nat.le_of_ble_eq_true rfl, Nat.le_of_ble_eq_true rfl⟩ (fun v_54 A_54 B_54 H locs z_54 w => ?_)
  obtain ⟨rfl, zk, zr, zs_54⟩ := z_54
  have kk_54 : kpI [37, 38] A A_54 := kk_49.tr zk (by decide) (by decide)
  have kr_54 : kpR [9] B B_54 := kr_49.tr zr (by decide) (by decide)
  obtain ⟨s_54, hs_54⟩ : ∃ z, z = ad s_49 1 (fun _ => 46) := ⟨_, rfl⟩
  rw [← hs_54] at zs_54
  have ln_54 : s_54.1 = s_49.1 + 1 := by rw [hs_54]; rfl
  have hcp_2 := hcb_2.cS (A := A_54) (B := B_54) (P := P) hbc_2
  show W _ _ _ _ _ _ _ _ _ _ _ _ _ _ _ (F0 _ _ _ ([.ref (b + 40)]))
  refine lv_iload hx hb dX8_write_57 (lv_at hl 0 rfl) ?_
  refine j_cV X hS w (c_J4_append_bf812 l D t b n σ0 A_54 B_54 P r_24 (mof (rw_ ca) dy) z_24 s_54 zs_54 (by omega) (by rw [show absI (mof (rw_ ca) dy) = (mof (rw_ ca) dy) from if_neg (by omega), if_neg (show ¬ (mof (rw_ ca) dy) < 0 by omega)]; omega)) v_X8_301 rfl rfl ⟨Nat.le_of_ble_eq_true rfl, Nat.le_of_ble_eq_true rfl⟩ rfl hl.1 (Nat.le_of_ble_eq_true rfl) dX8_write_59 ⟨Nat.le_of_ble_eq_true rfl, Nat.le_of_ble_eq_true rfl⟩ (fun v_59 A_59 B_59 H locs z_59 w => ?_)
  obtain ⟨rfl, zk, zr, zs_59⟩ := z_59
  have kk_59 : kpI [37, 38] A A_59 := kk_54.tr zk (by decide) (by decide)
  have kr_59 : kpR [9] B B_59 := kr_54.tr zr (by decide) (by decide)
  rw [apI_p (show 0 ≤ mof (rw_ ca) dy by omega)] at zs_59
  obtain ⟨s_59, hs_59⟩ : ∃ z, z = ad s_54 (dN (mof (rw_ ca) dy)) (dD (mof (rw_ ca) dy)) := ⟨_, rfl⟩
  rw [← hs_59] at zs_59
  have ln_59 : s_59.1 = s_54.1 + dN (mof (rw_ ca) dy) := by rw [hs_59]; rfl
  have hcp_2 := hcb_2.cS (A := A_59) (B := B_59) (P := P) hbc_2
  show W _ _ _ _ _ _ _ _ _ _ _ _ _ _ _ (F0 _ _ _ ([.ref (b + 40)]))
  refine lv_pop hx hb dX8_write_62 rfl ?_
  refine lv_aload_n hx hb dX8_write_63 rfl (lv_at hl 2 rfl) ?_
  refine lv_iload hx hb dX8_write_64 (lv_at hl 1 rfl) ?_
  refine lv_iload hx hb dX8_write_66 (lv_at hl 0 rfl) ?_
  refine q_cPV X w (c_X0_insertsMonth l D t b n _ q_2 L_2 C_2 K_2 fl_2 fc_2 _ hcp_2 r_15 r_24 (yof (rw_ ca) dy) (mof (rw_ ca) dy) hy_15 z_24 (by omega)) v_X8_174 (k := q_2) hcp_2.1 rfl rfl ⟨Nat.le_of_ble_eq_true rfl, Nat.le_of_ble_eq_true rfl⟩ rfl hl.1 (Nat.le_of_ble_eq_true rfl) dX8_write_68 ⟨Nat.le_of_ble_eq_true rfl, Nat.le_of_ble_eq_true rfl⟩ (fun r_68 z_68 => ?_)
  refine lv_if_eq (tgt := 84) hx hb dX8_write_71 (by decide) (fun c_71 => ?_) (fun c_71 => ?_)
  · skip
    rw [z_68] at c_71
    have k_71 := bI_f.mp c_71
    refine lv_aload_n hx hb dX8_write_84 rfl (lv_at hl 3 rfl) ?_
    refine kg_X8_written X w dX8_write_85 ?_
    refine lv_bipush (v := 46) hx hb dX8_write_88 (by decide) ?_
    refine j_cV X hS w (c_J4_append_cf468 l D t b n σ0 A_59 B_59 P 46 46 (show (46 : Int32).toInt = 46 from rfl) s_59 zs_59 (by omega) (by omega)) v_X8_304 rfl rfl ⟨Nat.le_of_ble_eq_true rfl, Nat.le_of_ble_eq_true rfl⟩ rfl hl.1 (Nat.le_of_ble_eq_true rfl) dX8_write_90 ⟨Nat.le_of_ble_eq_true rfl, Nat.le_of_ble_eq_true rfl⟩ (fun v_90 A_90 B_90 H locs z_90 w => ?_)
    obtain ⟨rfl, zk, zr, zs_90⟩ := z_90
    have kk_90 : kpI [37, 38] A A_90 := kk_59.tr zk (by decide) (by decide)
    have kr_90 : kpR [9] B B_90 := kr_59.tr zr (by decide) (by decide)
    obtain ⟨s_90, hs_90⟩ : ∃ z, z = ad s_59 1 (fun _ => 46) := ⟨_, rfl⟩
    rw [← hs_90] at zs_90
    have ln_90 : s_90.1 = s_59.1 + 1 := by rw [hs_90]; rfl
    have hcp_2 := hcb_2.cS (A := A_90) (B := B_90) (P := P) hbc_2
    show W _ _ _ _ _ _ _ _ _ _ _ _ _ _ _ (F0 _ _ _ ([.ref (b + 40)]))
    refine lv_iload hx hb dX8_write_93 (lv_at hl 1 rfl) ?_
    refine j_cV X hS w (c_J4_append_bf812 l D t b n σ0 A_90 B_90 P r_15 (yof (rw_ ca) dy) hy_15 s_90 zs_90 (by omega) (by have := dN_bd (absI (yof (rw_ ca) dy)); split <;> omega)) v_X8_301 rfl rfl ⟨Nat.le_of_ble_eq_true rfl, Nat.le_of_ble_eq_true rfl⟩ rfl hl.1 (Nat.le_of_ble_eq_true rfl) dX8_write_95 ⟨Nat.le_of_ble_eq_true rfl, Nat.le_of_ble_eq_true rfl⟩ (fun v_95 A_95 B_95 H locs z_95 w => ?_)
    obtain ⟨rfl, zk, zr, zs_95⟩ := z_95
    have kk_95 : kpI [37, 38] A A_95 := kk_90.tr zk (by decide) (by decide)
    have kr_95 : kpR [9] B B_95 := kr_90.tr zr (by decide) (by decide)
    have hcp_2 := hcb_2.cS (A := A_95) (B := B_95) (P := P) hbc_2
    show W _ _ _ _ _ _ _ _ _ _ _ _ _ _ _ (F0 _ _ _ ([.ref (b + 40)]))
    refine lv_pop hx hb dX8_write_98 rfl ?_
    refine lv_aload_n hx hb dX8_write_99 rfl (lv_at hl 3 rfl) ?_
    refine kg_X8_written X w dX8_write_100 ?_
    refine j_cV X hS w (c_J4_length_8abf5 l D t b n σ0 A_95 B_95 P) v_X8_307 rfl rfl ⟨Nat.le_of_ble_eq_true rfl, Nat.le_of_ble_eq_true rfl⟩ rfl hl.1 (Nat.le_of_ble_eq_true rfl) dX8_write_103 ⟨Nat.le_of_ble_eq_true rfl, Nat.le_of_ble_eq_true rfl⟩ (fun v_103 A_103 B_103 H locs z_103 w => ?_)
    obtain ⟨rfl, ez1, ez2⟩ := z_103
    rw [ez1, ez2] at w
    show W _ _ _ _ _ _ _ _ _ _ _ _ _ _ _ (F0 _ _ _ ([.int (A_95 37)]))
    refine vx_ret ?_
    refine W.widen (k := 3) (n := 18) (Nat.le_of_ble_eq_true rfl) (Nat.le_of_ble_eq_true rfl) ?_
    exact q_cret (post := fun z n1 σ1 => n1 = n ∧ ∃ A1 B1, σ1 = cS t b σ0 A1 B1 P ∧ cd3 (0 ≤ ca ∧ ca < (A 20).toInt) (-999999 ≤ dy ∧ dy ≤ 999999) (fst (rw_ ca) (-2000) ≤ dy ∧ dy < fst (rw_ ca) 2001) = 0 ∧ z = A1 37 ∧ kpI [37, 38] A A1 ∧ kpR [9] B B1 ∧ sbQ A1 B1 (wrt (rw_ ca) dy)) X w dX8_write_106 rfl ⟨rfl, A_95, B_95, rfl, cd3_0 hin_2 k_10 hi_15, rfl, kk_95, kr_95, (by have e : wrt (rw_ ca) dy = apI s_90 (yof (rw_ ca) dy) := (by unfold wrt wrt6 wrt4; rw [if_neg k_71]; rw [hs_90, hs_59, hs_54, hs_49]; rfl); rw [e]; exact zs_95)⟩
  · skip
    rw [z_68] at c_71
    have k_71 := bI_t.mp c_71
    refine lv_aload_n hx hb dX8_write_74 rfl (lv_at hl 3 rfl) ?_
    refine kg_X8_written X w dX8_write_75 ?_
    refine lv_bipush (v := 105) hx hb dX8_write_78 (by decide) ?_
    refine j_cV X hS w (c_J4_append_cf468 l D t b n σ0 A_59 B_59 P 105 105 (show (105 : Int32).toInt = 105 from rfl) s_59 zs_59 (by omega) (by omega)) v_X8_304 rfl rfl ⟨Nat.le_of_ble_eq_true rfl, Nat.le_of_ble_eq_true rfl⟩ rfl hl.1 (Nat.le_of_ble_eq_true rfl) dX8_write_80 ⟨Nat.le_of_ble_eq_true rfl, Nat.le_of_ble_eq_true rfl⟩ (fun v_80 A_80 B_80 H locs z_80 w => ?_)
    obtain ⟨rfl, zk, zr, zs_80⟩ := z_80
    have kk_80 : kpI [37, 38] A A_80 := kk_59.tr zk (by decide) (by decide)
    have kr_80 : kpR [9] B B_80 := kr_59.tr zr (by decide) (by decide)
    obtain ⟨s_80, hs_80⟩ : ∃ z, z = ad s_59 1 (fun _ => 105) := ⟨_, rfl⟩
    rw [← hs_80] at zs_80
    have ln_80 : s_80.1 = s_59.1 + 1 := by rw [hs_80]; rfl
    have hcp_2 := hcb_2.cS (A := A_80) (B := B_80) (P := P) hbc_2
    show W _ _ _ _ _ _ _ _ _ _ _ _ _ _ _ (F0 _ _ _ ([.ref (b + 40)]))
    refine lv_pop hx hb dX8_write_83 rfl ?_
    refine lv_aload_n hx hb dX8_write_84 rfl (lv_at hl 3 rfl) ?_
    refine kg_X8_written X w dX8_write_85 ?_
    refine lv_bipush (v := 46) hx hb dX8_write_88 (by decide) ?_
    refine j_cV X hS w (c_J4_append_cf468 l D t b n σ0 A_80 B_80 P 46 46 (show (46 : Int32).toInt = 46 from rfl) s_80 zs_80 (by omega) (by omega)) v_X8_304 rfl rfl ⟨Nat.le_of_ble_eq_true rfl, Nat.le_of_ble_eq_true rfl⟩ rfl hl.1 (Nat.le_of_ble_eq_true rfl) dX8_write_90 ⟨Nat.le_of_ble_eq_true rfl, Nat.le_of_ble_eq_true rfl⟩ (fun v_90 A_90 B_90 H locs z_90 w => ?_)
    obtain ⟨rfl, zk, zr, zs_90⟩ := z_90
    have kk_90 : kpI [37, 38] A A_90 := kk_80.tr zk (by decide) (by decide)
    have kr_90 : kpR [9] B B_90 := kr_80.tr zr (by decide) (by decide)
    obtain ⟨s_90, hs_90⟩ : ∃ z, z = ad s_80 1 (fun _ => 46) := ⟨_, rfl⟩
    rw [← hs_90] at zs_90
    have ln_90 : s_90.1 = s_80.1 + 1 := by rw [hs_90]; rfl
    have hcp_2 := hcb_2.cS (A := A_90) (B := B_90) (P := P) hbc_2
    show W _ _ _ _ _ _ _ _ _ _ _ _ _ _ _ (F0 _ _ _ ([.ref (b + 40)]))
    refine lv_iload hx hb dX8_write_93 (lv_at hl 1 rfl) ?_
    refine j_cV X hS w (c_J4_append_bf812 l D t b n σ0 A_90 B_90 P r_15 (yof (rw_ ca) dy) hy_15 s_90 zs_90 (by omega) (by have := dN_bd (absI (yof (rw_ ca) dy)); split <;> omega)) v_X8_301 rfl rfl ⟨Nat.le_of_ble_eq_true rfl, Nat.le_of_ble_eq_true rfl⟩ rfl hl.1 (Nat.le_of_ble_eq_true rfl) dX8_write_95 ⟨Nat.le_of_ble_eq_true rfl, Nat.le_of_ble_eq_true rfl⟩ (fun v_95 A_95 B_95 H locs z_95 w => ?_)
    obtain ⟨rfl, zk, zr, zs_95⟩ := z_95
    have kk_95 : kpI [37, 38] A A_95 := kk_90.tr zk (by decide) (by decide)
    have kr_95 : kpR [9] B B_95 := kr_90.tr zr (by decide) (by decide)
    have hcp_2 := hcb_2.cS (A := A_95) (B := B_95) (P := P) hbc_2
    show W _ _ _ _ _ _ _ _ _ _ _ _ _ _ _ (F0 _ _ _ ([.ref (b + 40)]))
    refine lv_pop hx hb dX8_write_98 rfl ?_
    refine lv_aload_n hx hb dX8_write_99 rfl (lv_at hl 3 rfl) ?_
    refine kg_X8_written X w dX8_write_100 ?_
    refine j_cV X hS w (c_J4_length_8abf5 l D t b n σ0 A_95 B_95 P) v_X8_307 rfl rfl ⟨Nat.le_of_ble_eq_true rfl, Nat.le_of_ble_eq_true rfl⟩ rfl hl.1 (Nat.le_of_ble_eq_true rfl) dX8_write_103 ⟨Nat.le_of_ble_eq_true rfl, Nat.le_of_ble_eq_true rfl⟩ (fun v_103 A_103 B_103 H locs z_103 w => ?_)
    obtain ⟨rfl, ez1, ez2⟩ := z_103
    rw [ez1, ez2] at w
    show W _ _ _ _ _ _ _ _ _ _ _ _ _ _ _ (F0 _ _ _ ([.int (A_95 37)]))
    refine vx_ret ?_
    refine W.widen (k := 3) (n := 18) (Nat.le_of_ble_eq_true rfl) (Nat.le_of_ble_eq_true rfl) ?_
    exact q_cret (post := fun z n1 σ1 => n1 = n ∧ ∃ A1 B1, σ1 = cS t b σ0 A1 B1 P ∧ cd3 (0 ≤ ca ∧ ca < (A 20).toInt) (-999999 ≤ dy ∧ dy ≤ 999999) (fst (rw_ ca) (-2000) ≤ dy ∧ dy < fst (rw_ ca) 2001) = 0 ∧ z = A1 37 ∧ kpI [37, 38] A A1 ∧ kpR [9] B B1 ∧ sbQ A1 B1 (wrt (rw_ ca) dy)) X w dX8_write_106 rfl ⟨rfl, A_95, B_95, rfl, cd3_0 hin_2 k_10 hi_15, rfl, kk_95, kr_95, (by have e : wrt (rw_ ca) dy = apI s_90 (yof (rw_ ca) dy) := (by unfold wrt wrt6 wrt4; rw [if_pos k_71]; rw [hs_90, hs_80, hs_59, hs_54, hs_49]; rfl); rw [e]; exact zs_95)⟩

set_option maxHeartbeats 2000000 in
set_option maxRecDepth 100000 in
theorem c_X8_output (l : Launch) (D : va_G) (t : Nat → ClassId) (b n : Nat) (σ0 : qM) (A : Nat → Int32) (B : Nat → Nat → Int32) (P : Nat → Nat → Option Nat) (hl0 : l.stackTraces = false) (h_c : 0 ≤ (A 37).toInt ∧ (A 37).toInt ≤ 16) (h_b : ∀ j : Int, 0 ≤ j → j < (A 37).toInt → 0 ≤ (B 9 j.toNat).toInt ∧ (B 9 j.toNat).toInt < 128) (a_ix : Int32) (ix : Int) (e_ix : a_ix.toInt = ix) : yC l yX8_output cX8_output 2 (some .char) 7 1 6 D t b n (cS t b σ0 A B P) [.ref (b + 0), .int a_ix] (fun z n1 σ1 => n1 = n ∧ σ1 = cS t b σ0 A B P ∧ (if 0 ≤ ix ∧ ix ≤ (A 37).toInt - 1 then (0 : Int) else 1) = 0 ∧ z = B 9 ix.toNat) (fun E n1 σ1 => σ1 = cS t b σ0 A B P ∧ xE E = (if 0 ≤ ix ∧ ix ≤ (A 37).toInt - 1 then (0 : Int) else 1)) := by
  refine yC.of (by decide +kernel) (Nat.le_of_ble_eq_true rfl) (fun p e s m args below meth c X hE hS hno w ls hl => ?_)
  have hx := X.1
  have hb := X.2.1
  have hl : lv_has ls 2 [(0, .ref (b + 0)), (1, .int a_ix)] := hl
  refine lv_iload_n hx hb dX8_output_0 rfl (lv_at hl 1 rfl) ?_
  refine lv_iconst (v := 0) hx hb dX8_output_1 (by decide) ?_
  refine lv_aload_n hx hb dX8_output_2 rfl (lv_at hl 0 rfl) ?_
  refine kg_X8_written X w dX8_output_3 ?_
  refine j_cV X hS w (c_J4_length_8abf5 l D t b n σ0 A B P) v_X8_307 rfl rfl ⟨Nat.le_of_ble_eq_true rfl, Nat.le_of_ble_eq_true rfl⟩ rfl hl.1 (Nat.le_of_ble_eq_true rfl) dX8_output_6 ⟨Nat.le_of_ble_eq_true rfl, Nat.le_of_ble_eq_true rfl⟩ (fun v_6 A_6 B_6 H locs z_6 w => ?_)
  obtain ⟨rfl, ez1, ez2⟩ := z_6
  rw [ez1, ez2] at w
  show W _ _ _ _ _ _ _ _ _ _ _ _ _ _ _ (F0 _ _ _ ([.int (A 37), .int 0, .int a_ix]))
  refine lv_iconst (v := 1) hx hb dX8_output_9 (by decide) ?_
  refine lv_isub hx hb dX8_output_10 ?_
  refine lv_topi (fun x_10 e_10 => ?_)
  have p_10 : x_10.toInt = (((A 37).toInt) - 1) := by rw [e_10]; exact t_sub rfl (show (1 : Int32).toInt = 1 from rfl) (by omega) (by omega)
  refine q_cPS X w (c_X8_isFrom l a_ix 0 x_10 ix 0 (((A 37).toInt) - 1) e_ix (show (0 : Int32).toInt = 0 from rfl) p_10 D t b n (cS t b σ0 A B P)) v_X8_99 rfl ⟨Nat.le_of_ble_eq_true rfl, Nat.le_of_ble_eq_true rfl⟩ rfl hl.1 (Nat.le_of_ble_eq_true rfl) dX8_output_11 ⟨Nat.le_of_ble_eq_true rfl, Nat.le_of_ble_eq_true rfl⟩ (fun r_11 z_11 => ?_)
  refine lv_if_ne (tgt := 28) hx hb dX8_output_14 (by decide) (fun c_14 => ?_) (fun c_14 => ?_)
  · skip
    rw [z_11] at c_14
    have k_14 := bI_t.mp c_14
    refine lv_aload_n hx hb dX8_output_28 rfl (lv_at hl 0 rfl) ?_
    refine kg_X8_written X w dX8_output_29 ?_
    refine lv_iload_n hx hb dX8_output_32 rfl (lv_at hl 1 rfl) ?_
    refine j_cV X hS w (c_J4_charAt_5068e l D t b n σ0 A B P a_ix ix e_ix (by omega) (by omega) (h_b ix (by omega) (by omega))) v_X8_310 rfl rfl ⟨Nat.le_of_ble_eq_true rfl, Nat.le_of_ble_eq_true rfl⟩ rfl hl.1 (Nat.le_of_ble_eq_true rfl) dX8_output_33 ⟨Nat.le_of_ble_eq_true rfl, Nat.le_of_ble_eq_true rfl⟩ (fun v_33 A_33 B_33 H locs z_33 w => ?_)
    obtain ⟨rfl, ez1, ez2⟩ := z_33
    rw [ez1, ez2] at w
    show W _ _ _ _ _ _ _ _ _ _ _ _ _ _ _ (F0 _ _ _ ([.int (B 9 ix.toNat)]))
    refine vx_ret ?_
    refine W.widen (k := 1) (n := 6) (Nat.le_of_ble_eq_true rfl) (Nat.le_of_ble_eq_true rfl) ?_
    exact q_cret (post := fun z n1 σ1 => n1 = n ∧ σ1 = cS t b σ0 A B P ∧ (if 0 ≤ ix ∧ ix ≤ (A 37).toInt - 1 then (0 : Int) else 1) = 0 ∧ z = B 9 ix.toNat) X w dX8_output_36 (by show Value.int (vp_nar .char _) = _; rw [(ch_x (x := B 9 ix.toNat) rfl (h_b ix (by omega) (by omega)).1 (h_b ix (by omega) (by omega)).2).2]) ⟨rfl, rfl, if_pos k_14, rfl⟩
  · skip
    rw [z_11] at c_14
    have k_14 := bI_f.mp c_14
    exact x_thrW_io hl0 X hE hno w (is := 308) (text := "no such index") (by decide +kernel) hl.1 dX8_output_17 dX8_output_20 dX8_output_21 dX8_output_24 dX8_output_27 ⟨Nat.le_of_ble_eq_true rfl, Nat.le_of_ble_eq_true rfl⟩ (Nat.le_of_ble_eq_true rfl) ⟨Nat.le_of_ble_eq_true rfl, Nat.le_of_ble_eq_true rfl⟩ ⟨Nat.le_of_ble_eq_true rfl, Nat.le_of_ble_eq_true rfl⟩ (fun _ => ⟨rfl, by rw [if_neg k_14]; exact xE_io⟩)
