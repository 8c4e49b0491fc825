section Q2
variable {p : Program} {l : Launch} {e : Env} {R : Room} {s : State} {m : MethodId} {args : Array Value} {below : List Frame} {meth : Method} {c : Code} {H : Heap} {locs : List Loc} {cells slots : Nat} {Q : State → Prop}
variable {own : String} {cc : ByteArray} {mL : Nat} {r : Option FieldType} {D : va_G} {t : Nat → ClassId} {b n : Nat} {σ : qM} {pc : Nat} {ls : Array Slot} {rest : List Value}
/-- the words of a call of a nest mate's static method -/
def qNSw (own : String) (idx : Nat) (y : MethodName) (yc : ByteArray) (ymL : Nat) (yr : Option FieldType) (N : Nat) : Prop :=
  (own, idx, y, RX8) ∈ qNM ∧ Cond.static y ∈ TB ∧ Cond.initialized y.cls ∈ TB ∧ Cond.code y yc ymL yr ∈ TB ∧ y.cls ≠ "java/lang/invoke/MethodHandle" ∧ y.cls ≠ "java/lang/invoke/VarHandle" ∧ (parseMethodDescriptor y.desc).map (fun d => d.parameters.length) = some N
theorem qNSw.cn {idx : Nat} {y : MethodName} {yc : ByteArray} {ymL : Nat} {yr : Option FieldType} {N d' mc ms : Nat} (h : qNSw own idx y yc ymL yr N) (hts : ∀ w ∈ TB, w.before args s = true) (hG : GP D t b s) (hR : d' + 1 ≤ R.frames ∧ 8 + (ymL + 11) + 40 * d' ≤ R.locals) : va_CN R s args own idx y RX8 yc ymL yr (.code y yc ymL yr :: TB) (qR d' mc ms) mc ms N ∧ (Cond.static y).before args s = true ∧ True := by
  obtain ⟨h1, h2, h4, h5, h6, h7, h8⟩ := h
  refine ⟨⟨⟨rfl, rfl, hR.1, hR.2, q_ws hts h5, List.mem_cons_self⟩, hts _ h5, hts _ h4, ⟨h6, h7⟩, fun sig h => ?_, va_Nw.use rfl (hG.2.2.2.2.2.1 _ h1)⟩, hts _ h2, trivial⟩
  rw [h] at h8
  exact (Option.some.inj h8).symm
theorem q_cPSN (X : qX p s args m meth c own cc mL r D t b) (w : qW D b n σ s H locs) {idx : Nat} {y : MethodName} {yc : ByteArray} {ymL : Nat} {yr : Option FieldType} {N d' : Nat} {As : List Value} {post : Int32 → Prop} (hM : qP l y yc ymL yr d' D t b n σ As post) (cw : qNSw own idx y yc ymL yr N) (hn : As.length = N) (hR : d' + 1 ≤ R.frames ∧ 8 + (ymL + 11) + 40 * d' ≤ R.locals) {st : List Value} (hst : st = As.reverse ++ rest) (hsz : ls.size = mL) (hrm : (rest.map fun v => v.category).sum ≤ 8) (hdg : decode cc pc = .ok (.invokestatic idx, 3)) (hf : cells + 0 ≤ R.cells ∧ slots + 0 ≤ R.slots)
    (kk : ∀ z : Int32, post z → W p l e R s m args below meth c H locs cells slots Q (F0 m (pc + 3) ls (.int z :: rest))) : W p l e R s m args below meth c H locs cells slots Q (F0 m pc ls st) :=
  vp_callSi (fun T hT XX => by
    obtain ⟨v, st0, t0, T', L, h0, X', hL, e1, e2, hq, st1⟩ := va_runSN ⟨X.1, X.2.1, X.2.2.2.2.1, X.2.2.2.1, X.2.2.1⟩ hM (cw.cn X.2.2.1 X.2.2.2.2.2.2.2 hR) (q_preS X w) rfl hn hsz hst (lv_room hrm) hdg hf T hT XX
    exact ⟨v, st0, t0, T', L, h0, X', hL, e1, hq, st1⟩) kk
theorem i_min (x y : Int32) : (if y < x then y else x).toInt = if x.toInt < y.toInt then x.toInt else y.toInt := by
  by_cases h : y < x
  · have h1 := Int32.lt_iff_toInt_lt.mp h
    rw [if_pos h, if_neg (by omega)]
  · have h1 : ¬ y.toInt < x.toInt := fun q => h (Int32.lt_iff_toInt_lt.mpr q)
    rw [if_neg h]
    split <;> omega
theorem i_max (x y : Int32) : (if x < y then y else x).toInt = if x.toInt < y.toInt then y.toInt else x.toInt := by
  by_cases h : x < y
  · have h1 := Int32.lt_iff_toInt_lt.mp h
    rw [if_pos h, if_pos (by omega)]
  · have h1 : ¬ x.toInt < y.toInt := fun q => h (Int32.lt_iff_toInt_lt.mpr q)
    rw [if_neg h, if_neg (by omega)]
theorem m_min_st : Cond.static Lib.Math.min.name ∈ TB := tb_2 153 (by decide +kernel) (by decide +kernel)
theorem m_min_ini : Cond.initialized "java/lang/Math" ∈ TB := tb_1 15 (by decide +kernel) (by decide +kernel)
theorem m_min_cd : Cond.code Lib.Math.min.name Lib.Math.min.code 2 (some .int) ∈ TB := tb_2 154 (by decide +kernel) (by decide +kernel)
theorem q_min (X : qX p s args m meth c own cc mL r D t b) {idx : Nat} {x y : Int32} (hl : Cond.methodLink own idx Lib.Math.min.name ∈ TB) (hR : 1 ≤ R.frames ∧ 21 ≤ R.locals) (hf : cells + 0 ≤ R.cells ∧ slots + 0 ≤ R.slots) (hsz : ls.size = mL) (hrm : (rest.map fun v => v.category).sum ≤ 8) (hdg : decode cc pc = .ok (.invokestatic idx, 3))
    (kk : ∀ z : Int32, z.toInt = (if x.toInt < y.toInt then x.toInt else y.toInt) → W p l e R s m args below meth c H locs cells slots Q (F0 m (pc + 3) ls (.int z :: rest))) : W p l e R s m args below meth c H locs cells slots Q (F0 m pc ls (.int y :: .int x :: rest)) :=
  va_mmin X.1 X.2.1 (X.2.2.2.2.1.trans hsz.symm) X.2.2.2.1 (X.2.2.1 _ hl) (X.2.2.1 _ m_min_st) (X.2.2.1 _ m_min_ini) (X.2.2.1 _ m_min_cd) hR.1 (Nat.le_trans (Nat.add_le_add_right hrm 13) hR.2) hf.1 hf.2 hdg (kk _ (i_min x y))
theorem ml_X0_125 : Cond.methodLink RX0 125 Lib.Math.min.name ∈ TB := tb_5 20 (by decide +kernel) (by decide +kernel)
theorem ml_X4_55 : Cond.methodLink RX4 55 Lib.Math.min.name ∈ TB := tb_2 152 (by decide +kernel) (by decide +kernel)
theorem ml_X8_118 : Cond.methodLink RX8 118 Lib.Math.min.name ∈ TB := tb_4 18 (by decide +kernel) (by decide +kernel)
theorem m_max_st : Cond.static Lib.Math.max.name ∈ TB := tb_2 156 (by decide +kernel) (by decide +kernel)
theorem m_max_ini : Cond.initialized "java/lang/Math" ∈ TB := tb_1 15 (by decide +kernel) (by decide +kernel)
theorem m_max_cd : Cond.code Lib.Math.max.name Lib.Math.max.code 2 (some .int) ∈ TB := tb_2 157 (by decide +kernel) (by decide +kernel)
theorem q_max (X : qX p s args m meth c own cc mL r D t b) {idx : Nat} {x y : Int32} (hl : Cond.methodLink own idx Lib.Math.max.name ∈ TB) (hR : 1 ≤ R.frames ∧ 21 ≤ R.locals) (hf : cells + 0 ≤ R.cells ∧ slots + 0 ≤ R.slots) (hsz : ls.size = mL) (hrm : (rest.map fun v => v.category).sum ≤ 8) (hdg : decode cc pc = .ok (.invokestatic idx, 3))
    (kk : ∀ z : Int32, z.toInt = (if x.toInt < y.toInt then y.toInt else x.toInt) → W p l e R s m args below meth c H locs cells slots Q (F0 m (pc + 3) ls (.int z :: rest))) : W p l e R s m args below meth c H locs cells slots Q (F0 m pc ls (.int y :: .int x :: rest)) :=
  va_mmax X.1 X.2.1 (X.2.2.2.2.1.trans hsz.symm) X.2.2.2.1 (X.2.2.1 _ hl) (X.2.2.1 _ m_max_st) (X.2.2.1 _ m_max_ini) (X.2.2.1 _ m_max_cd) hR.1 (Nat.le_trans (Nat.add_le_add_right hrm 13) hR.2) hf.1 hf.2 hdg (kk _ (i_max x y))
theorem ml_X4_61 : Cond.methodLink RX4 61 Lib.Math.max.name ∈ TB := tb_2 155 (by decide +kernel) (by decide +kernel)
theorem ml_X6_30 : Cond.methodLink RX6 30 Lib.Math.max.name ∈ TB := tb_3 12 (by decide +kernel) (by decide +kernel)
theorem ml_X8_271 : Cond.methodLink RX8 271 Lib.Math.max.name ∈ TB := tb_5 196 (by decide +kernel) (by decide +kernel)
end Q2
theorem nv_X0_100 : qNSw RX0 100 yX8_isYear cX8_isYear 1 (some .boolean) 1 := ⟨List.mem_of_getElem? (i := 6) rfl, st_X8_isYear, ini_X8, cd_X8_isYear, by decide +kernel, by decide +kernel, by decide +kernel⟩
theorem nv_X0_106 : qNSw RX0 106 yX8_isFrom cX8_isFrom 3 (some .boolean) 3 := ⟨List.mem_of_getElem? (i := 7) rfl, st_X8_isFrom, ini_X8, cd_X8_isFrom, by decide +kernel, by decide +kernel, by decide +kernel⟩
theorem nv_X2_35 : qNSw RX2 35 yX8_isDay cX8_isDay 1 (some .boolean) 1 := ⟨List.mem_of_getElem? (i := 9) rfl, st_X8_isDay, ini_X8, cd_X8_isDay, by decide +kernel, by decide +kernel, by decide +kernel⟩
theorem nv_X4_110 : qNSw RX4 110 yX8_isFrom cX8_isFrom 3 (some .boolean) 3 := ⟨List.mem_of_getElem? (i := 5) rfl, st_X8_isFrom, ini_X8, cd_X8_isFrom, by decide +kernel, by decide +kernel, by decide +kernel⟩
theorem nv_X5_25 : qNSw RX5 25 yX8_isDay cX8_isDay 1 (some .boolean) 1 := ⟨List.mem_of_getElem? (i := 8) rfl, st_X8_isDay, ini_X8, cd_X8_isDay, by decide +kernel, by decide +kernel, by decide +kernel⟩
