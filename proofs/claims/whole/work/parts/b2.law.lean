theorem cd_L_appendCharacter : Cond.codeWith yL_appendCharacter cL_appendCharacter 4 (some .int) [(0, 9, 12, 13), (0, 9, 15, 15)] ∈ TB := tb_3 149 (by decide +kernel) (by decide +kernel)
theorem st_L_appendCharacter : Cond.static yL_appendCharacter ∈ TB := tb_3 148 (by decide +kernel) (by decide +kernel)
theorem cd_L_setCalendar : Cond.codeWith yL_setCalendar cL_setCalendar 4 (some .int) [(0, 9, 12, 20), (0, 9, 15, 13), (0, 9, 18, 15)] ∈ TB := tb_4 12 (by decide +kernel) (by decide +kernel)
theorem st_L_setCalendar : Cond.static yL_setCalendar ∈ TB := tb_4 11 (by decide +kernel) (by decide +kernel)
theorem cd_L_calendar : Cond.codeWith yL_calendar cL_calendar 5 (some .int) [(0, 10, 13, 20), (0, 10, 17, 13)] ∈ TB := tb_4 64 (by decide +kernel) (by decide +kernel)
theorem st_L_calendar : Cond.static yL_calendar ∈ TB := tb_4 63 (by decide +kernel) (by decide +kernel)
theorem cd_L_isLeapYear : Cond.codeWith yL_isLeapYear cL_isLeapYear 5 (some .int) [(0, 17, 20, 20), (0, 17, 24, 13)] ∈ TB := tb_4 80 (by decide +kernel) (by decide +kernel)
theorem st_L_isLeapYear : Cond.static yL_isLeapYear ∈ TB := tb_4 79 (by decide +kernel) (by decide +kernel)
theorem cd_L_months : Cond.codeWith yL_months cL_months 5 (some .int) [(0, 10, 13, 20), (0, 10, 17, 13)] ∈ TB := tb_4 89 (by decide +kernel) (by decide +kernel)
theorem st_L_months : Cond.static yL_months ∈ TB := tb_4 88 (by decide +kernel) (by decide +kernel)
theorem cd_L_monthLength : Cond.codeWith yL_monthLength cL_monthLength 6 (some .int) [(0, 12, 15, 20), (0, 12, 19, 13)] ∈ TB := tb_4 97 (by decide +kernel) (by decide +kernel)
theorem st_L_monthLength : Cond.static yL_monthLength ∈ TB := tb_4 96 (by decide +kernel) (by decide +kernel)
theorem cd_L_isIntercalary : Cond.codeWith yL_isIntercalary cL_isIntercalary 6 (some .int) [(0, 19, 22, 20), (0, 19, 26, 13)] ∈ TB := tb_4 106 (by decide +kernel) (by decide +kernel)
theorem st_L_isIntercalary : Cond.static yL_isIntercalary ∈ TB := tb_4 105 (by decide +kernel) (by decide +kernel)
theorem cd_L_yearLength : Cond.codeWith yL_yearLength cL_yearLength 5 (some .int) [(0, 10, 13, 20), (0, 10, 17, 13)] ∈ TB := tb_4 117 (by decide +kernel) (by decide +kernel)
theorem st_L_yearLength : Cond.static yL_yearLength ∈ TB := tb_4 116 (by decide +kernel) (by decide +kernel)
theorem cd_L_firstDay : Cond.codeWith yL_firstDay cL_firstDay 5 (some .int) [(0, 10, 13, 20), (0, 10, 17, 13)] ∈ TB := tb_4 125 (by decide +kernel) (by decide +kernel)
theorem st_L_firstDay : Cond.static yL_firstDay ∈ TB := tb_4 124 (by decide +kernel) (by decide +kernel)
theorem cd_L_dayOf : Cond.codeWith yL_dayOf cL_dayOf 7 (some .int) [(0, 14, 17, 20), (0, 14, 21, 13)] ∈ TB := tb_4 133 (by decide +kernel) (by decide +kernel)
theorem st_L_dayOf : Cond.static yL_dayOf ∈ TB := tb_4 132 (by decide +kernel) (by decide +kernel)
theorem cd_L_date : Cond.codeWith yL_date cL_date 6 (some .int) [(0, 12, 15, 20), (0, 12, 19, 13), (0, 12, 23, 54)] ∈ TB := tb_4 141 (by decide +kernel) (by decide +kernel)
theorem st_L_date : Cond.static yL_date ∈ TB := tb_4 140 (by decide +kernel) (by decide +kernel)
theorem cd_L_convert : Cond.codeWith yL_convert cL_convert 9 (some .int) [(0, 18, 21, 20), (0, 18, 25, 13), (0, 18, 29, 54)] ∈ TB := tb_4 193 (by decide +kernel) (by decide +kernel)
theorem st_L_convert : Cond.static yL_convert ∈ TB := tb_4 192 (by decide +kernel) (by decide +kernel)
theorem cd_L_week : Cond.codeWith yL_week cL_week 6 (some .int) [(0, 12, 15, 20), (0, 12, 19, 13), (0, 12, 23, 54)] ∈ TB := tb_4 200 (by decide +kernel) (by decide +kernel)
theorem st_L_week : Cond.static yL_week ∈ TB := tb_4 199 (by decide +kernel) (by decide +kernel)
theorem cd_L_weeks : Cond.codeWith yL_weeks cL_weeks 5 (some .int) [(0, 10, 13, 20), (0, 10, 17, 13)] ∈ TB := tb_4 219 (by decide +kernel) (by decide +kernel)
theorem st_L_weeks : Cond.static yL_weeks ∈ TB := tb_4 218 (by decide +kernel) (by decide +kernel)
theorem cd_L_firstDayOfWeek : Cond.codeWith yL_firstDayOfWeek cL_firstDayOfWeek 6 (some .int) [(0, 12, 15, 20), (0, 12, 19, 13)] ∈ TB := tb_4 230 (by decide +kernel) (by decide +kernel)
theorem st_L_firstDayOfWeek : Cond.static yL_firstDayOfWeek ∈ TB := tb_4 229 (by decide +kernel) (by decide +kernel)
theorem cd_L_plus : Cond.codeWith yL_plus cL_plus 6 (some .int) [(0, 12, 15, 20), (0, 12, 19, 13), (0, 12, 23, 54)] ∈ TB := tb_4 238 (by decide +kernel) (by decide +kernel)
theorem st_L_plus : Cond.static yL_plus ∈ TB := tb_4 237 (by decide +kernel) (by decide +kernel)
theorem cd_L_plusYears : Cond.codeWith yL_plusYears cL_plusYears 6 (some .int) [(0, 12, 15, 20), (0, 12, 19, 13), (0, 12, 23, 54)] ∈ TB := tb_5 27 (by decide +kernel) (by decide +kernel)
theorem st_L_plusYears : Cond.static yL_plusYears ∈ TB := tb_5 26 (by decide +kernel) (by decide +kernel)
theorem cd_L_span : Cond.codeWith yL_span cL_span 7 (some .int) [(0, 14, 17, 20), (0, 14, 21, 13), (0, 14, 25, 54)] ∈ TB := tb_5 38 (by decide +kernel) (by decide +kernel)
theorem st_L_span : Cond.static yL_span ∈ TB := tb_5 37 (by decide +kernel) (by decide +kernel)
theorem cd_L_addFeast : Cond.codeWith yL_addFeast cL_addFeast 9 (some .int) [(0, 18, 21, 13), (0, 18, 25, 15)] ∈ TB := tb_5 54 (by decide +kernel) (by decide +kernel)
theorem st_L_addFeast : Cond.static yL_addFeast ∈ TB := tb_5 53 (by decide +kernel) (by decide +kernel)
theorem cd_L_removeFeast : Cond.codeWith yL_removeFeast cL_removeFeast 3 (some .int) [(0, 8, 11, 15)] ∈ TB := tb_5 101 (by decide +kernel) (by decide +kernel)
theorem st_L_removeFeast : Cond.static yL_removeFeast ∈ TB := tb_5 100 (by decide +kernel) (by decide +kernel)
theorem cd_L_feast : Cond.codeWith yL_feast cL_feast 5 (some .int) [(0, 10, 13, 20), (0, 10, 17, 13), (0, 10, 21, 54)] ∈ TB := tb_5 113 (by decide +kernel) (by decide +kernel)
theorem st_L_feast : Cond.static yL_feast ∈ TB := tb_5 112 (by decide +kernel) (by decide +kernel)
theorem cd_L_placedFeast : Cond.codeWith yL_placedFeast cL_placedFeast 5 (some .int) [(0, 10, 13, 20), (0, 10, 17, 13), (0, 10, 21, 54)] ∈ TB := tb_5 158 (by decide +kernel) (by decide +kernel)
theorem st_L_placedFeast : Cond.static yL_placedFeast ∈ TB := tb_5 157 (by decide +kernel) (by decide +kernel)
theorem cd_L_feastOn : Cond.codeWith yL_feastOn cL_feastOn 5 (some .int) [(0, 10, 13, 13), (0, 10, 17, 54)] ∈ TB := tb_5 182 (by decide +kernel) (by decide +kernel)
theorem st_L_feastOn : Cond.static yL_feastOn ∈ TB := tb_5 181 (by decide +kernel) (by decide +kernel)
theorem cd_L_meetingYear : Cond.codeWith yL_meetingYear cL_meetingYear 6 (some .int) [(0, 12, 15, 20), (0, 12, 19, 13), (0, 12, 23, 54)] ∈ TB := tb_5 191 (by decide +kernel) (by decide +kernel)
theorem st_L_meetingYear : Cond.static yL_meetingYear ∈ TB := tb_5 190 (by decide +kernel) (by decide +kernel)
theorem cd_L_reading : Cond.codeWith yL_reading cL_reading 5 (some .int) [(0, 10, 13, 20), (0, 10, 17, 13)] ∈ TB := tb_5 200 (by decide +kernel) (by decide +kernel)
theorem st_L_reading : Cond.static yL_reading ∈ TB := tb_5 199 (by decide +kernel) (by decide +kernel)
theorem cd_L_write : Cond.codeWith yL_write cL_write 5 (some .int) [(0, 10, 13, 20), (0, 10, 17, 13), (0, 10, 21, 54)] ∈ TB := tb_5 212 (by decide +kernel) (by decide +kernel)
theorem st_L_write : Cond.static yL_write ∈ TB := tb_5 211 (by decide +kernel) (by decide +kernel)
theorem cd_L_output : Cond.codeWith yL_output cL_output 4 (some .int) [(0, 9, 12, 20)] ∈ TB := tb_6 238 (by decide +kernel) (by decide +kernel)
theorem st_L_output : Cond.static yL_output ∈ TB := tb_6 237 (by decide +kernel) (by decide +kernel)
theorem cd_L_newYears : Cond.codeWith yL_newYears cL_newYears 7 (some .int) [(0, 14, 17, 20), (0, 14, 21, 13)] ∈ TB := tb_7 16 (by decide +kernel) (by decide +kernel)
theorem st_L_newYears : Cond.static yL_newYears ∈ TB := tb_7 15 (by decide +kernel) (by decide +kernel)
theorem cd_L_averageYear : Cond.codeWith yL_averageYear cL_averageYear 4 (some .int) [(0, 8, 11, 20)] ∈ TB := tb_7 23 (by decide +kernel) (by decide +kernel)
theorem st_L_averageYear : Cond.static yL_averageYear ∈ TB := tb_7 22 (by decide +kernel) (by decide +kernel)
theorem cd_L_drift : Cond.codeWith yL_drift cL_drift 5 (some .int) [(0, 10, 13, 20)] ∈ TB := tb_7 34 (by decide +kernel) (by decide +kernel)
theorem st_L_drift : Cond.static yL_drift ∈ TB := tb_7 33 (by decide +kernel) (by decide +kernel)
theorem cd_L_undo : Cond.codeWith yL_undo cL_undo 3 (some .int) [(0, 8, 11, 15)] ∈ TB := tb_7 42 (by decide +kernel) (by decide +kernel)
theorem st_L_undo : Cond.static yL_undo ∈ TB := tb_7 41 (by decide +kernel) (by decide +kernel)
theorem cd_L_restore : Cond.codeWith yL_restore cL_restore 3 (some .int) [(0, 8, 11, 15)] ∈ TB := tb_7 58 (by decide +kernel) (by decide +kernel)
theorem st_L_restore : Cond.static yL_restore ∈ TB := tb_7 57 (by decide +kernel) (by decide +kernel)
theorem cl_L_13 : Cond.classLink RL 13 "java/lang/IllegalArgumentException" ∈ TB := tb_3 150 (by decide +kernel) (by decide +kernel)
theorem cl_L_15 : Cond.classLink RL 15 "java/lang/IllegalStateException" ∈ TB := tb_3 151 (by decide +kernel) (by decide +kernel)
theorem cl_L_20 : Cond.classLink RL 20 "java/lang/IndexOutOfBoundsException" ∈ TB := tb_4 13 (by decide +kernel) (by decide +kernel)
theorem cl_L_54 : Cond.classLink RL 54 "java/util/NoSuchElementException" ∈ TB := tb_4 142 (by decide +kernel) (by decide +kernel)
section LR
variable {p : Program} {l : Launch} {e : Env} {R : Room} {s : State} {m : MethodId} {args : Array Value} {below : List Frame} {meth : Method} {c : Code} {H : Heap} {locs : List Loc} {cells slots : Nat} {Q : State → Prop}
variable {own : String} {cc : ByteArray} {mL : Nat} {r : Option FieldType} {D : va_G} {t : Nat → ClassId} {b n : Nat} {σ : qM} {pc : Nat} {ls : Array Slot} {rest : List Value}
/-- a contract of a method with a table of handlers -/
theorem Met.ofWH {y : MethodName} {ws ws' : List Cond} {rm : Room} {Pc : Array Value → State → Prop} {Qc : Array Value → State → Outcome → State → Prop} {mc ms : Nat} {free : Addr → Prop} {cc : ByteArray} {maxL : Nat} {ret : Option FieldType} {hh : List (Nat × Nat × Nat × Nat)}
    (hy : plainName y.cls = true) (hw : ws = Cond.codeWith y cc maxL ret hh :: ws')
    (body : ∀ p e s m args below meth c s₁, BodyLoose p l y (headSpec ws rm) cc maxL ret e s m args below meth c s₁ → c.maxLocals = maxL → Pc args s →
      W p l e (headSpec ws rm).room s m args below meth c s.heap [] 0 0 (MQ below Qc args s mc ms free) (entryFrame m args maxL)) : Met l y ws rm Pc Qc mc ms free := by
  refine MetFree.of_bodyS (code := cc) (maxLocals := maxL) (ret := ret) hy ?_ ?_
  · intro args s m h hn
    obtain ⟨m9, meth, c, hn9, h1, h2, h3, h4, -, h5, h6, -⟩ := Cond.codeWith_spec (atoms_spec (ws := ws) h _ (by rw [hw]; exact List.mem_cons_self))
    cases hn.symm.trans hn9
    exact ⟨meth, c, h1, h2, h3, h4, h5, h6⟩
  · intro p e s m args below meth c s₁ B hml hP _
    have hh0 : s₁.heap = s.heap := by rw [B.state]; rfl
    obtain ⟨t, a1, o, b1, b2, b3⟩ := body p e s m args below meth c s₁ B hml hP s₁ hh0 (Stand.of_body B)
    exact ⟨t, o, a1, b1, b2, ⟨b3.1, b3.2⟩⟩
def lC (l : Launch) (y : MethodName) (cc : ByteArray) (mL : Nat) (hh : List (Nat × Nat × Nat × Nat)) (d mc ms : Nat) (D : va_G) (t : Nat → ClassId) (b n : Nat) (σ : qM) (As : List Value) (post : Int32 → Nat → qM → Prop) : Prop :=
  Met l y (.codeWith y cc mL (some .int) hh :: TB) (qR d mc ms) (qPreY D t b n σ As) (va_Qi (S := Nat × qM) (fun z u => post z u.1 u.2) (fun u T => WB D b u.1 u.2 T.heap) (fun q => b ≤ q)) mc ms (fun q => b ≤ q)
theorem lC.of {y : MethodName} {hh : List (Nat × Nat × Nat × Nat)} {d mc ms : Nat} {As : List Value} {post : Int32 → Nat → qM → Prop} (hy : plainName y.cls = true) (hA : (lg_sl As).length ≤ mL)
    (k : ∀ (p : Program) (e : Env) (s : State) (m : MethodId) (args : Array Value) (below : List Frame) (meth : Method) (c : Code), qX p s args m meth c y.cls cc mL (some .int) D t b → XK s → SK b s → c.exceptionTable.toList = tableOf hh → qW D b n σ s s.heap [] → ∀ ls : Array Slot, lv_has ls mL (lv_args 0 As) →
      W p l e (qR d mc ms) s m args below meth c s.heap [] 0 0 (MQ below (va_Qi (S := Nat × qM) (fun z u => post z u.1 u.2) (fun u T => WB D b u.1 u.2 T.heap) (fun q => b ≤ q)) args s mc ms (fun q => b ≤ q)) (F0 m 0 ls [])) : lC l y cc mL hh d mc ms D t b n σ As post := by
  refine Met.ofWH (cc := cc) (maxL := mL) (ret := some .int) (hh := hh) hy rfl ?_
  intro p e s m args below meth c s₁ B hml hv
  obtain ⟨rfl, hw, hG, hE, hS⟩ := hv
  have hts := atoms_spec (ws := Cond.codeWith y cc mL (some .int) hh :: TB) B.pre
  refine q_start hA (fun ls hl => ?_)
  exact k p e s m _ below meth c ⟨B.exec, B.bytes, fun w h => hts w (List.mem_cons_of_mem _ h), findClass_of_methodNamed B.named, hml, B.returns, B.notSynchronized, hG⟩ hE hS (vx_table (x := y) B (hts _ List.mem_cons_self)) ⟨hw, va_S.rf, by rw [hw.1]; exact Nat.le_add_right _ _⟩ ls hl
def qLw (own : String) (idx : Nat) (y : MethodName) (yc : ByteArray) (ymL : Nat) (hh : List (Nat × Nat × Nat × Nat)) (N : Nat) : Prop :=
  Cond.methodLink own idx y ∈ TB ∧ Cond.static y ∈ TB ∧ Cond.initialized y.cls ∈ TB ∧ Cond.codeWith y yc ymL (some .int) hh ∈ TB ∧ y.cls ≠ "java/lang/invoke/MethodHandle" ∧ y.cls ≠ "java/lang/invoke/VarHandle" ∧ (parseMethodDescriptor y.desc).map (fun d => d.parameters.length) = some N
theorem qLw.cw {idx : Nat} {y : MethodName} {yc : ByteArray} {ymL : Nat} {hh : List (Nat × Nat × Nat × Nat)} {N d' mc ms : Nat} (h : qLw own idx y yc ymL hh N) (hts : ∀ w ∈ TB, w.before args s = true) (hR : d' + 1 ≤ R.frames ∧ 8 + (ymL + 11) + 40 * d' ≤ R.locals) : vx_CSW R s args own idx y yc ymL (some .int) hh (.codeWith y yc ymL (some .int) hh :: TB) (qR d' mc ms) mc ms N := by
  obtain ⟨h1, h2, h3, h4, h5, h6, h7⟩ := h
  refine ⟨⟨rfl, rfl, hR.1, hR.2, ?_, List.mem_cons_self⟩, hts _ h4, hts _ h3, ⟨h5, h6⟩, fun sig h => ?_, hts _ h1, hts _ h2⟩
  · intro w hw a' U hW
    have h8 : w ∈ TB := (List.mem_cons.mp hw).elim (fun e => e ▸ h4) id
    exact word_at hW (good_of_word (tb_good h8)) (hts w h8)
  · rw [h] at h7
    exact (Option.some.inj h7).symm
theorem q_preSY (X : qX p s args m meth c own cc mL r D t b) (hE : XK s) (hS : SK b s) (w : qW D b n σ s H locs) {As : List Value} : PreS s H (qPreY D t b n σ As) As :=
  ⟨qPreY.blind, fun _ hU hW => ⟨rfl, by rw [hU]; exact w.1, X.2.2.2.2.2.2.2.at w.2.1 hU hW, hE.at hW, hS.at w.2.1 hU hW⟩⟩
theorem q_preVY (X : qX p s args m meth c own cc mL r D t b) (hE : XK s) (hS : SK b s) (w : qW D b n σ s H locs) {ci k : Nat} {fs : List Value} {C : String} {T : u_T} {N : Nat} (hk : σ k = some (.inr (ci, fs))) (hc : vwCl[ci]? = some (C, T, N)) {As : List Value} : PreV s H C (b + k) (qPreY D t b n σ (.ref (b + k) :: As)) As :=
  ⟨qPreY.blind, va_recv (q := (C, T, N)) X.2.2.2.2.2.2.2.1 (w.1.one hk) hc (q0 := 0) rfl, fun _ hU hW => ⟨rfl, by rw [hU]; exact w.1, X.2.2.2.2.2.2.2.at w.2.1 hU hW, hE.at hW, hS.at w.2.1 hU hW⟩⟩
/-- the law's call of a method of its own -/
theorem q_cL (X : qX p s args m meth c own cc mL r D t b) (hE : XK s) (hS : SK b s) (w : qW D b n σ s H locs) {idx : Nat} {y : MethodName} {yc : ByteArray} {ymL : Nat} {hh : List (Nat × Nat × Nat × Nat)} {N d' mc ms : Nat} {As : List Value} {post : Int32 → Nat → qM → Prop} (hM : lC l y yc ymL hh d' mc ms D t b n σ As post) (cw : qLw own idx y yc ymL hh N) (hn : As.length = N) (hR : d' + 1 ≤ R.frames ∧ 8 + (ymL + 11) + 40 * d' ≤ R.locals) {st : List Value} (hst : st = As.reverse ++ rest) (hsz : ls.size = mL) (hrm : (rest.map fun v => v.category).sum ≤ 8) (hdg : decode cc pc = .ok (.invokestatic idx, 3)) (hf : cells + mc ≤ R.cells ∧ slots + ms ≤ R.slots)
    (kk : ∀ (z : Int32) (n1 : Nat) (σ1 : qM) (H1 : Heap) (locs1 : List Loc), post z n1 σ1 → qW D b n1 σ1 s H1 locs1 → W p l e R s m args below meth c H1 locs1 (cells + mc) (slots + ms) Q (F0 m (pc + 3) ls (.int z :: rest))) : W p l e R s m args below meth c H locs cells slots Q (F0 m pc ls st) :=
  va_calli (vx_runSW ⟨X.1, X.2.1, X.2.2.2.2.1, X.2.2.2.1, X.2.2.1⟩ hM (cw.cw X.2.2.1 hR) (q_preSY X hE hS w) rfl hn hsz hst (lv_room hrm) hdg hf) w.2.1 (fun _ _ h => h) (fun _ h => h)
    (fun z u T H1 locs1 ht _ hp hB _ _ hS => kk z u.1 u.2 H1 locs1 hp ⟨by rw [← ht]; exact hB, hS, w.2.2⟩)
/-- a call of the class's method that may throw; both ends told -/
theorem w_cX (X : qX p s args m meth c own cc mL r D t b) (hE : XK s) (w : qW D b n σ s H locs) {xq : String → Nat → qM → Prop} {idx : Nat} {y : MethodName} {yc : ByteArray} {ymL : Nat} {yr : Option FieldType} {N d' mc ms k : Nat} {As : List Value} {post : Int32 → Nat → qM → Prop} (hM : xC l y yc ymL yr d' mc ms D t b n σ (.ref (b + k) :: As) post xq) (cw : qVw own idx y yc ymL yr N) {ci : Nat} {fs : List Value} {T : u_T} {NF : Nat} (hk : σ k = some (.inr (ci, fs))) (hc : vwCl[ci]? = some (y.cls, T, NF)) (hn : As.length = N) (hR : d' + 1 ≤ R.frames ∧ 8 + (ymL + 11) + 40 * d' ≤ R.locals) {st : List Value} (hst : st = As.reverse ++ .ref (b + k) :: rest) (hsz : ls.size = mL) (hrm : (rest.map fun v => v.category).sum ≤ 8) (hdg : decode cc pc = .ok (.invokevirtual idx, 3)) (hf : cells + mc ≤ R.cells ∧ slots + ms ≤ R.slots)
    (kx : ∀ (E : String) (ce : Cell) (q9 : Addr) (n1 : Nat) (σ1 : qM) (H1 : Heap) (locs1 : List Loc), xq E n1 σ1 → qW D b n1 σ1 s H1 locs1 → H1[q9]? = some ce → ce.vm = .none → s.vm.findClass E = some ce.cls → vx_W p l e R s m args below meth c H1 locs1 (cells + mc) (slots + ms) Q (F0 m pc ls rest) q9)
    (kk : ∀ (z : Int32) (n1 : Nat) (σ1 : qM) (H1 : Heap) (locs1 : List Loc), post z n1 σ1 → qW D b n1 σ1 s H1 locs1 → W p l e R s m args below meth c H1 locs1 (cells + mc) (slots + ms) Q (F0 m (pc + 3) ls (.int z :: rest))) : W p l e R s m args below meth c H locs cells slots Q (F0 m pc ls st) :=
  vx_calli (vx_runV ⟨X.1, X.2.1, X.2.2.2.2.1, X.2.2.2.1, X.2.2.1⟩ hM (cw.cw X.2.2.1 hR) (q_preVX X hE w hk hc) rfl hn hsz hst (lv_room hrm) hdg hf) w.2.1 (fun _ _ h => h) (fun _ h => h) (fun _ _ h => h)
    (fun E ce q9 u t' H1 locs1 ht _ _ hB _ _ hS hcell hv hcl => kx E ce q9 u.1 u.2 H1 locs1 hB.1 ⟨by rw [← ht]; exact hB.2, hS, w.2.2⟩ hcell hv hcl)
    (fun z u T H1 locs1 ht _ hp hB _ _ hS => kk z u.1 u.2 H1 locs1 hp ⟨by rw [← ht]; exact hB, hS, w.2.2⟩)
theorem w_cY (X : qX p s args m meth c own cc mL r D t b) (hE : XK s) (hS : SK b s) (w : qW D b n σ s H locs) {xq : String → Nat → qM → Prop} {idx : Nat} {y : MethodName} {yc : ByteArray} {ymL : Nat} {yr : Option FieldType} {N d' mc ms k : Nat} {As : List Value} {post : Int32 → Nat → qM → Prop} (hM : yC l y yc ymL yr d' mc ms D t b n σ (.ref (b + k) :: As) post xq) (cw : qVw own idx y yc ymL yr N) {ci : Nat} {fs : List Value} {T : u_T} {NF : Nat} (hk : σ k = some (.inr (ci, fs))) (hc : vwCl[ci]? = some (y.cls, T, NF)) (hn : As.length = N) (hR : d' + 1 ≤ R.frames ∧ 8 + (ymL + 11) + 40 * d' ≤ R.locals) {st : List Value} (hst : st = As.reverse ++ .ref (b + k) :: rest) (hsz : ls.size = mL) (hrm : (rest.map fun v => v.category).sum ≤ 8) (hdg : decode cc pc = .ok (.invokevirtual idx, 3)) (hf : cells + mc ≤ R.cells ∧ slots + ms ≤ R.slots)
    (kx : ∀ (E : String) (ce : Cell) (q9 : Addr) (n1 : Nat) (σ1 : qM) (H1 : Heap) (locs1 : List Loc), xq E n1 σ1 → qW D b n1 σ1 s H1 locs1 → H1[q9]? = some ce → ce.vm = .none → s.vm.findClass E = some ce.cls → vx_W p l e R s m args below meth c H1 locs1 (cells + mc) (slots + ms) Q (F0 m pc ls rest) q9)
    (kk : ∀ (z : Int32) (n1 : Nat) (σ1 : qM) (H1 : Heap) (locs1 : List Loc), post z n1 σ1 → qW D b n1 σ1 s H1 locs1 → W p l e R s m args below meth c H1 locs1 (cells + mc) (slots + ms) Q (F0 m (pc + 3) ls (.int z :: rest))) : W p l e R s m args below meth c H locs cells slots Q (F0 m pc ls st) :=
  vx_calli (vx_runV ⟨X.1, X.2.1, X.2.2.2.2.1, X.2.2.2.1, X.2.2.1⟩ hM (cw.cw X.2.2.1 hR) (q_preVY X hE hS w hk hc) rfl hn hsz hst (lv_room hrm) hdg hf) w.2.1 (fun _ _ h => h) (fun _ h => h) (fun _ _ h => h)
    (fun E ce q9 u t' H1 locs1 ht _ _ hB _ _ hS hcell hv hcl => kx E ce q9 u.1 u.2 H1 locs1 hB.1 ⟨by rw [← ht]; exact hB.2, hS, w.2.2⟩ hcell hv hcl)
    (fun z u T H1 locs1 ht _ hp hB _ _ hS => kk z u.1 u.2 H1 locs1 hp ⟨by rw [← ht]; exact hB, hS, w.2.2⟩)
theorem w_cG (X : qX p s args m meth c own cc mL r D t b) (hE : XK s) (w : qW D b n σ s H locs) {xq : String → Nat → qM → Prop} {idx : Nat} {y : MethodName} {yc : ByteArray} {ymL : Nat} {yr : Option FieldType} {N d' mc ms k : Nat} {As : List Value} {post : Option Value → Nat → qM → Prop} (hM : xG l y yc ymL yr d' mc ms D t b n σ (.ref (b + k) :: As) post xq) (cw : qVw own idx y yc ymL yr N) {ci : Nat} {fs : List Value} {T : u_T} {NF : Nat} (hk : σ k = some (.inr (ci, fs))) (hc : vwCl[ci]? = some (y.cls, T, NF)) (hn : As.length = N) (hR : d' + 1 ≤ R.frames ∧ 8 + (ymL + 11) + 40 * d' ≤ R.locals) {st : List Value} (hst : st = As.reverse ++ .ref (b + k) :: rest) (hsz : ls.size = mL) (hrm : (rest.map fun v => v.category).sum ≤ 8) (hdg : decode cc pc = .ok (.invokevirtual idx, 3)) (hf : cells + mc ≤ R.cells ∧ slots + ms ≤ R.slots)
    (kx : ∀ (E : String) (ce : Cell) (q9 : Addr) (n1 : Nat) (σ1 : qM) (H1 : Heap) (locs1 : List Loc), xq E n1 σ1 → qW D b n1 σ1 s H1 locs1 → H1[q9]? = some ce → ce.vm = .none → s.vm.findClass E = some ce.cls → vx_W p l e R s m args below meth c H1 locs1 (cells + mc) (slots + ms) Q (F0 m pc ls rest) q9)
    (kk : ∀ (v : Option Value) (n1 : Nat) (σ1 : qM) (H1 : Heap) (locs1 : List Loc), post v n1 σ1 → qW D b n1 σ1 s H1 locs1 → W p l e R s m args below meth c H1 locs1 (cells + mc) (slots + ms) Q (F0 m (pc + 3) ls (v.toList ++ rest))) : W p l e R s m args below meth c H locs cells slots Q (F0 m pc ls st) := by
  have hr := vx_runV (l := l) (e := e) (below := below) (meth := meth) (locs := locs) ⟨X.1, X.2.1, X.2.2.2.2.1, X.2.2.2.1, X.2.2.1⟩ hM (cw.cw X.2.2.1 hR) (q_preVX X hE w hk hc) (g := F0 m pc ls st) rfl hn hsz hst (lv_room hrm) hdg hf
  intro T hT Y
  rcases hr T hT Y with ⟨v, st₀, t1, T', L, h0, X', hL, e1, e2, ⟨⟨v2, n1, σ1, hv, hp, hb⟩, hF⟩, st⟩ | ⟨q, st₀, t1, T', L, E, ce, h0, X', hL, e1, e2, ⟨u, hp, hb, hF⟩, hce, hcv, hcl, st⟩
  · cases hv
    obtain ⟨k1, k2, k3⟩ := vx_keep (A0 := fun q => b ≤ q) (A1 := fun q => b ≤ q) h0 e1 w.2.1 (fun _ _ h => h) (fun _ h => h) hL hF
    obtain ⟨t2, a1, b1⟩ := kk v n1 σ1 T'.heap (locs ++ L) hp ⟨by rw [e1]; exact hb, k3, w.2.2⟩ T' rfl X'
    exact ⟨t2, st t2 a1, b1⟩
  · obtain ⟨k1, k2, k3⟩ := vx_keep (A0 := fun q => b ≤ q) (A1 := fun q => b ≤ q) h0 e1 w.2.1 (fun _ _ h => h) (fun _ h => h) hL hF
    obtain ⟨t2, a1, b1⟩ := kx E ce q u.1 u.2 T'.heap (locs ++ L) hb.1 ⟨by rw [e1]; exact hb.2, k3, w.2.2⟩ (by rw [e1]; exact hce) hcv hcl T' rfl X'
    exact ⟨t2, st.trans a1, b1⟩
/-- caught by the law's handler -/
theorem l_catch {hh : List (Nat × Nat × Nat × Nat)} (X : qX p s args m meth c RL cc mL r D t b) (hT : c.exceptionTable.toList = tableOf hh) (pre suf : List (Nat × Nat × Nat × Nat)) (x : Nat × Nat × Nat × Nat) (hs : hh = pre ++ x :: suf) {E : String} (hE : E ∈ qE) (hl : Cond.classLink RL x.2.2.2 E ∈ TB) (h0 : x.2.2.2 ≠ 0) (hc : covers ⟨x.1, x.2.1, x.2.2.1, x.2.2.2⟩ pc = true) (hp : ∀ z ∈ pre, z.2.2.2 ≠ 0 ∧ ∃ nm, nm ∈ qE ∧ E ≠ nm ∧ Cond.classLink RL z.2.2.2 nm ∈ TB) {ce : Cell} {q : Addr} (hcell : H[q]? = some ce) (hv : ce.vm = .none) (hcl : s.vm.findClass E = some ce.cls)
    (kk : W p l e R s m args below meth c H locs cells slots Q (F0 m x.2.2.1 ls [.ref q])) : vx_W p l e R s m args below meth c H locs cells slots Q (F0 m pc ls rest) q := by
  refine vx_catch X.2.2.2.1 (tableOf pre) ⟨x.1, x.2.1, x.2.2.1, x.2.2.2⟩ (tableOf suf) (by rw [hT, hs]; simp [tableOf]) (fun z hz => ?_) hc h0 (X.2.2.1 _ hl) (va_Nw.use rfl (X.2.2.2.2.2.2.2.2.2.2.2.2.2.1 _ hE)) hcell hv hcl kk
  obtain ⟨z0, hz0, rfl⟩ := List.mem_map.mp hz
  obtain ⟨p1, nm, p2, p3, p4⟩ := hp z0 hz0
  exact Or.inr ⟨p1, nm, X.2.2.1 _ p4, X.2.2.2.2.2.2.2.2.2.2.2.2.2.2 _ hE _ p2 p3⟩
theorem q_last (X : qX p s args m meth c own cc mL r D t b) (w : qW D b n σ s H locs) {k N : Nat} {f : Nat → Int64} (hk : σ k = some (.inl (t 7, N, .inr (.inl f)))) {i : Int32} {x : Int64} (hin : vp_in i N) (hdg : decode cc pc = .ok (.lastore, 1))
    (kk : ∀ (H1 : Heap) (locs1 : List Loc), qW D b n (va_up σ k (some (.inl (t 7, N, .inr (.inl (vp_updL f i.toNatClampNeg x)))))) s H1 locs1 → W p l e R s m args below meth c H1 locs1 cells slots Q (F0 m (pc + 1) ls rest)) : W p l e R s m args below meth c H locs cells slots Q (F0 m pc ls (.long x :: .int i :: .ref (b + k) :: rest)) := by
  have hK := X.2.2.2.2.2.2.2.1
  refine W.last X.1 X.2.1 (w.1.2 k _ hk) ((hK.2 7 _ rfl).1 N (fun j => .long (f j))) (fun q => by cases q) (by show ¬ (i < 0 ∨ (arrV _ _ _).slots.size ≤ _); rw [arrV_size]; exact hin) rfl rfl hdg fun H1 e1 z oq => ?_
  refine kk H1 _ ⟨w.1.up z oq ?_, w.2.1.put z oq (Nat.le_add_right _ _), w.2.2⟩
  show H1[b + k]? = some (vp_cell _ _)
  rw [e1]
  rw [vp_cell_l, vp_cell_l, arrV_store]
  congr 2
  funext q
  by_cases hq : q = i.toNatClampNeg
  · subst hq
    simp [updV, vp_updL]
  · simp [updV, vp_updL, hq]
theorem q_dast (X : qX p s args m meth c own cc mL r D t b) (w : qW D b n σ s H locs) {k N : Nat} {f : Nat → UInt64} (hk : σ k = some (.inl (t 8, N, .inr (.inr (.inr (.inl f)))))) {i : Int32} {x : UInt64} (hin : vp_in i N) (hdg : decode cc pc = .ok (.dastore, 1))
    (kk : ∀ (H1 : Heap) (locs1 : List Loc), qW D b n (va_up σ k (some (.inl (t 8, N, .inr (.inr (.inr (.inl (vf_upd f i.toNatClampNeg x)))))))) s H1 locs1 → W p l e R s m args below meth c H1 locs1 cells slots Q (F0 m (pc + 1) ls rest)) : W p l e R s m args below meth c H locs cells slots Q (F0 m pc ls (.double x :: .int i :: .ref (b + k) :: rest)) := by
  have hK := X.2.2.2.2.2.2.2.1
  refine W.dast X.1 X.2.1 (w.1.2 k _ hk) ((hK.2 8 _ rfl).1 N (fun j => .double (f j))) (fun q => by cases q) (by show ¬ (i < 0 ∨ (arrV _ _ _).slots.size ≤ _); rw [arrV_size]; exact hin) rfl rfl hdg fun H1 e1 z oq => ?_
  refine kk H1 _ ⟨w.1.up z oq ?_, w.2.1.put z oq (Nat.le_add_right _ _), w.2.2⟩
  show H1[b + k]? = some (vp_cell _ _)
  rw [e1]
  rw [vp_cell_d, vp_cell_d, arrV_store]
  congr 2
  funext q
  by_cases hq : q = i.toNatClampNeg
  · subst hq
    simp [updV, vf_upd]
  · simp [updV, vf_upd, hq]
theorem q_lald (X : qX p s args m meth c own cc mL r D t b) (w : qW D b n σ s H locs) {k N : Nat} {f : Nat → Int64} (hk : σ k = some (.inl (t 7, N, .inr (.inl f)))) {i : Int32} (hin : vp_in i N) (hdg : decode cc pc = .ok (.laload, 1))
    (kk : W p l e R s m args below meth c H locs cells slots Q (F0 m (pc + 1) ls (.long (f i.toNatClampNeg) :: rest))) : W p l e R s m args below meth c H locs cells slots Q (F0 m pc ls (.int i :: .ref (b + k) :: rest)) :=
  va_lald X.1 X.2.1 X.2.2.2.2.2.2.2.1 (w.1.one hk) 0 7 rfl rfl hin hdg kk
theorem q_dald (X : qX p s args m meth c own cc mL r D t b) (w : qW D b n σ s H locs) {k N : Nat} {f : Nat → UInt64} (hk : σ k = some (.inl (t 8, N, .inr (.inr (.inr (.inl f)))))) {i : Int32} (hin : vp_in i N) (hdg : decode cc pc = .ok (.daload, 1))
    (kk : W p l e R s m args below meth c H locs cells slots Q (F0 m (pc + 1) ls (.double (f i.toNatClampNeg) :: rest))) : W p l e R s m args below meth c H locs cells slots Q (F0 m pc ls (.int i :: .ref (b + k) :: rest)) :=
  va_dald X.1 X.2.1 X.2.2.2.2.2.2.2.1 (w.1.one hk) 0 8 rfl rfl hin hdg kk
end LR

theorem vL_7 : qVw RL 7 yX8_appendCharacter cX8_appendCharacter 2 (some .int) 1 := ⟨tb_3 152 (by decide +kernel) (by decide +kernel), im_X8_appendCharacter, se_X8_appendCharacter, ini_X8, cd_X8_appendCharacter, by decide +kernel, by decide +kernel, by decide +kernel⟩
theorem vL_17 : qVw RL 17 yX8_setCalendar cX8_setCalendar 5 (some .int) 1 := ⟨tb_4 14 (by decide +kernel) (by decide +kernel), im_X8_setCalendar, se_X8_setCalendar, ini_X8, cd_X8_setCalendar, by decide +kernel, by decide +kernel, by decide +kernel⟩
theorem vL_22 : qVw RL 22 yX8_calendar cX8_calendar 4 (some .int) 2 := ⟨tb_4 65 (by decide +kernel) (by decide +kernel), im_X8_calendar, se_X8_calendar, ini_X8, cd_X8_calendar, by decide +kernel, by decide +kernel, by decide +kernel⟩
theorem vL_26 : qVw RL 26 yX8_isLeapYear cX8_isLeapYear 4 (some .boolean) 2 := ⟨tb_4 81 (by decide +kernel) (by decide +kernel), im_X8_isLeapYear, se_X8_isLeapYear, ini_X8, cd_X8_isLeapYear, by decide +kernel, by decide +kernel, by decide +kernel⟩
theorem vL_30 : qVw RL 30 yX8_months cX8_months 4 (some .int) 2 := ⟨tb_4 90 (by decide +kernel) (by decide +kernel), im_X8_months, se_X8_months, ini_X8, cd_X8_months, by decide +kernel, by decide +kernel, by decide +kernel⟩
theorem vL_33 : qVw RL 33 yX8_monthLength cX8_monthLength 5 (some .int) 3 := ⟨tb_4 98 (by decide +kernel) (by decide +kernel), im_X8_monthLength, se_X8_monthLength, ini_X8, cd_X8_monthLength, by decide +kernel, by decide +kernel, by decide +kernel⟩
theorem vL_37 : qVw RL 37 yX8_isIntercalary cX8_isIntercalary 5 (some .boolean) 3 := ⟨tb_4 107 (by decide +kernel) (by decide +kernel), im_X8_isIntercalary, se_X8_isIntercalary, ini_X8, cd_X8_isIntercalary, by decide +kernel, by decide +kernel, by decide +kernel⟩
theorem vL_41 : qVw RL 41 yX8_yearLength cX8_yearLength 4 (some .int) 2 := ⟨tb_4 118 (by decide +kernel) (by decide +kernel), im_X8_yearLength, se_X8_yearLength, ini_X8, cd_X8_yearLength, by decide +kernel, by decide +kernel, by decide +kernel⟩
theorem vL_44 : qVw RL 44 yX8_firstDay cX8_firstDay 4 (some .int) 2 := ⟨tb_4 126 (by decide +kernel) (by decide +kernel), im_X8_firstDay, se_X8_firstDay, ini_X8, cd_X8_firstDay, by decide +kernel, by decide +kernel, by decide +kernel⟩
theorem vL_47 : qVw RL 47 yX8_dayOf cX8_dayOf 6 (some .int) 4 := ⟨tb_4 134 (by decide +kernel) (by decide +kernel), im_X8_dayOf, se_X8_dayOf, ini_X8, cd_X8_dayOf, by decide +kernel, by decide +kernel, by decide +kernel⟩
theorem vL_51 : qVw RL 51 yX8_date cX8_date 5 (some .int) 3 := ⟨tb_4 143 (by decide +kernel) (by decide +kernel), im_X8_date, se_X8_date, ini_X8, cd_X8_date, by decide +kernel, by decide +kernel, by decide +kernel⟩
theorem vL_56 : qVw RL 56 yX8_convert cX8_convert 10 (some .int) 6 := ⟨tb_4 194 (by decide +kernel) (by decide +kernel), im_X8_convert, se_X8_convert, ini_X8, cd_X8_convert, by decide +kernel, by decide +kernel, by decide +kernel⟩
theorem vL_60 : qVw RL 60 yX8_week cX8_week 6 (some .int) 3 := ⟨tb_4 201 (by decide +kernel) (by decide +kernel), im_X8_week, se_X8_week, ini_X8, cd_X8_week, by decide +kernel, by decide +kernel, by decide +kernel⟩
theorem vL_63 : qVw RL 63 yX8_weeks cX8_weeks 4 (some .int) 2 := ⟨tb_4 220 (by decide +kernel) (by decide +kernel), im_X8_weeks, se_X8_weeks, ini_X8, cd_X8_weeks, by decide +kernel, by decide +kernel, by decide +kernel⟩
theorem vL_66 : qVw RL 66 yX8_firstDayOfWeek cX8_firstDayOfWeek 5 (some .int) 3 := ⟨tb_4 231 (by decide +kernel) (by decide +kernel), im_X8_firstDayOfWeek, se_X8_firstDayOfWeek, ini_X8, cd_X8_firstDayOfWeek, by decide +kernel, by decide +kernel, by decide +kernel⟩
theorem vL_69 : qVw RL 69 yX8_plus cX8_plus 5 (some .int) 3 := ⟨tb_4 239 (by decide +kernel) (by decide +kernel), im_X8_plus, se_X8_plus, ini_X8, cd_X8_plus, by decide +kernel, by decide +kernel, by decide +kernel⟩
theorem vL_72 : qVw RL 72 yX8_plusYears cX8_plusYears 5 (some .int) 3 := ⟨tb_5 28 (by decide +kernel) (by decide +kernel), im_X8_plusYears, se_X8_plusYears, ini_X8, cd_X8_plusYears, by decide +kernel, by decide +kernel, by decide +kernel⟩
theorem vL_75 : qVw RL 75 yX8_span cX8_span 9 (some .int) 4 := ⟨tb_5 39 (by decide +kernel) (by decide +kernel), im_X8_span, se_X8_span, ini_X8, cd_X8_span, by decide +kernel, by decide +kernel, by decide +kernel⟩
theorem vL_78 : qVw RL 78 yX8_addFeast cX8_addFeast 7 (some .int) 6 := ⟨tb_5 55 (by decide +kernel) (by decide +kernel), im_X8_addFeast, se_X8_addFeast, ini_X8, cd_X8_addFeast, by decide +kernel, by decide +kernel, by decide +kernel⟩
theorem vL_81 : qVw RL 81 yX8_removeFeast cX8_removeFeast 1 (some .int) 0 := ⟨tb_5 102 (by decide +kernel) (by decide +kernel), im_X8_removeFeast, se_X8_removeFeast, ini_X8, cd_X8_removeFeast, by decide +kernel, by decide +kernel, by decide +kernel⟩
theorem vL_85 : qVw RL 85 yX8_feast cX8_feast 3 (some .int) 2 := ⟨tb_5 114 (by decide +kernel) (by decide +kernel), im_X8_feast, se_X8_feast, ini_X8, cd_X8_feast, by decide +kernel, by decide +kernel, by decide +kernel⟩
theorem vL_88 : qVw RL 88 yX8_placedFeast cX8_placedFeast 4 (some .int) 2 := ⟨tb_5 159 (by decide +kernel) (by decide +kernel), im_X8_placedFeast, se_X8_placedFeast, ini_X8, cd_X8_placedFeast, by decide +kernel, by decide +kernel, by decide +kernel⟩
theorem vL_91 : qVw RL 91 yX8_feastOn cX8_feastOn 4 (some .int) 2 := ⟨tb_5 183 (by decide +kernel) (by decide +kernel), im_X8_feastOn, se_X8_feastOn, ini_X8, cd_X8_feastOn, by decide +kernel, by decide +kernel, by decide +kernel⟩
theorem vL_94 : qVw RL 94 yX8_meetingYear cX8_meetingYear 7 (some .int) 3 := ⟨tb_5 192 (by decide +kernel) (by decide +kernel), im_X8_meetingYear, se_X8_meetingYear, ini_X8, cd_X8_meetingYear, by decide +kernel, by decide +kernel, by decide +kernel⟩
theorem vL_97 : qVw RL 97 yX8_reading cX8_reading 3 (some .int) 2 := ⟨tb_5 201 (by decide +kernel) (by decide +kernel), im_X8_reading, se_X8_reading, ini_X8, cd_X8_reading, by decide +kernel, by decide +kernel, by decide +kernel⟩
theorem vL_100 : qVw RL 100 yX8_write cX8_write 6 (some .int) 2 := ⟨tb_5 213 (by decide +kernel) (by decide +kernel), im_X8_write, se_X8_write, ini_X8, cd_X8_write, by decide +kernel, by decide +kernel, by decide +kernel⟩
theorem vL_103 : qVw RL 103 yX8_output cX8_output 2 (some .char) 1 := ⟨tb_6 239 (by decide +kernel) (by decide +kernel), im_X8_output, se_X8_output, ini_X8, cd_X8_output, by decide +kernel, by decide +kernel, by decide +kernel⟩
theorem vL_107 : qVw RL 107 yX8_newYears cX8_newYears 12 (some .int) 4 := ⟨tb_7 17 (by decide +kernel) (by decide +kernel), im_X8_newYears, se_X8_newYears, ini_X8, cd_X8_newYears, by decide +kernel, by decide +kernel, by decide +kernel⟩
theorem vL_110 : qVw RL 110 yX8_averageYear cX8_averageYear 2 (some .double) 1 := ⟨tb_7 24 (by decide +kernel) (by decide +kernel), im_X8_averageYear, se_X8_averageYear, ini_X8, cd_X8_averageYear, by decide +kernel, by decide +kernel, by decide +kernel⟩
theorem vL_114 : qVw RL 114 yX8_drift cX8_drift 5 (some .float) 2 := ⟨tb_7 35 (by decide +kernel) (by decide +kernel), im_X8_drift, se_X8_drift, ini_X8, cd_X8_drift, by decide +kernel, by decide +kernel, by decide +kernel⟩
theorem vL_118 : qVw RL 118 yX8_undo cX8_undo 1 (some .int) 0 := ⟨tb_7 43 (by decide +kernel) (by decide +kernel), im_X8_undo, se_X8_undo, ini_X8, cd_X8_undo, by decide +kernel, by decide +kernel, by decide +kernel⟩
theorem vL_121 : qVw RL 121 yX8_restore cX8_restore 1 (some .int) 0 := ⟨tb_7 59 (by decide +kernel) (by decide +kernel), im_X8_restore, se_X8_restore, ini_X8, cd_X8_restore, by decide +kernel, by decide +kernel, by decide +kernel⟩
theorem iL_124 : qIw RL 124 yX8_init cX8_init 2 0 := ⟨tb_1 34 (by decide +kernel) (by decide +kernel), im_X8_init, rfl, ini_X8, cd_X8_init, by decide +kernel, by decide +kernel, by decide +kernel⟩
theorem iL_127 : qIw RL 127 yX9_init cX9_init 2 0 := ⟨tb_7 66 (by decide +kernel) (by decide +kernel), im_X9_init, rfl, ini_X9, cd_X9_init, by decide +kernel, by decide +kernel, by decide +kernel⟩
theorem vL_128 : qLw RL 128 yL_appendCharacter cL_appendCharacter 4 [(0, 9, 12, 13), (0, 9, 15, 15)] 3 := ⟨tb_3 147 (by decide +kernel) (by decide +kernel), st_L_appendCharacter, ini_L, cd_L_appendCharacter, by decide +kernel, by decide +kernel, by decide +kernel⟩
theorem vL_133 : qVw RL 133 yX9_appendCharacter cX9_appendCharacter 2 (some .int) 1 := ⟨tb_7 196 (by decide +kernel) (by decide +kernel), im_X9_appendCharacter, se_X9_appendCharacter, ini_X9, cd_X9_appendCharacter, by decide +kernel, by decide +kernel, by decide +kernel⟩
theorem vL_134 : qVw RL 134 yX9_thrown cX9_thrown 1 (some .int) 0 := ⟨tb_7 192 (by decide +kernel) (by decide +kernel), im_X9_thrown, se_X9_thrown, ini_X9, cd_X9_thrown, by decide +kernel, by decide +kernel, by decide +kernel⟩
theorem vL_137 : qLw RL 137 yL_setCalendar cL_setCalendar 4 [(0, 9, 12, 20), (0, 9, 15, 13), (0, 9, 18, 15)] 3 := ⟨tb_4 10 (by decide +kernel) (by decide +kernel), st_L_setCalendar, ini_L, cd_L_setCalendar, by decide +kernel, by decide +kernel, by decide +kernel⟩
theorem vL_139 : qVw RL 139 yX9_setCalendar cX9_setCalendar 3 (some .int) 1 := ⟨tb_7 207 (by decide +kernel) (by decide +kernel), im_X9_setCalendar, se_X9_setCalendar, ini_X9, cd_X9_setCalendar, by decide +kernel, by decide +kernel, by decide +kernel⟩
theorem vL_140 : qVw RL 140 yX8_faultPosition cX8_faultPosition 1 (some .int) 0 := ⟨tb_3 48 (by decide +kernel) (by decide +kernel), im_X8_faultPosition, se_X8_faultPosition, ini_X8, cd_X8_faultPosition, by decide +kernel, by decide +kernel, by decide +kernel⟩
theorem vL_143 : qVw RL 143 yX9_faultPosition cX9_faultPosition 1 (some .int) 0 := ⟨tb_8 55 (by decide +kernel) (by decide +kernel), im_X9_faultPosition, se_X9_faultPosition, ini_X9, cd_X9_faultPosition, by decide +kernel, by decide +kernel, by decide +kernel⟩
theorem vL_144 : qVw RL 144 yX8_calendarCount cX8_calendarCount 1 (some .int) 0 := ⟨tb_3 52 (by decide +kernel) (by decide +kernel), im_X8_calendarCount, se_X8_calendarCount, ini_X8, cd_X8_calendarCount, by decide +kernel, by decide +kernel, by decide +kernel⟩
theorem vL_147 : qVw RL 147 yX9_calendarCount cX9_calendarCount 1 (some .int) 0 := ⟨tb_8 59 (by decide +kernel) (by decide +kernel), im_X9_calendarCount, se_X9_calendarCount, ini_X9, cd_X9_calendarCount, by decide +kernel, by decide +kernel, by decide +kernel⟩
theorem vL_148 : qLw RL 148 yL_calendar cL_calendar 5 [(0, 10, 13, 20), (0, 10, 17, 13)] 4 := ⟨tb_4 62 (by decide +kernel) (by decide +kernel), st_L_calendar, ini_L, cd_L_calendar, by decide +kernel, by decide +kernel, by decide +kernel⟩
theorem vL_151 : qVw RL 151 yX9_calendar cX9_calendar 3 (some .int) 2 := ⟨tb_8 63 (by decide +kernel) (by decide +kernel), im_X9_calendar, se_X9_calendar, ini_X9, cd_X9_calendar, by decide +kernel, by decide +kernel, by decide +kernel⟩
theorem vL_152 : qLw RL 152 yL_isLeapYear cL_isLeapYear 5 [(0, 17, 20, 20), (0, 17, 24, 13)] 4 := ⟨tb_4 78 (by decide +kernel) (by decide +kernel), st_L_isLeapYear, ini_L, cd_L_isLeapYear, by decide +kernel, by decide +kernel, by decide +kernel⟩
theorem vL_154 : qVw RL 154 yX9_isLeapYear cX9_isLeapYear 3 (some .boolean) 2 := ⟨tb_8 71 (by decide +kernel) (by decide +kernel), im_X9_isLeapYear, se_X9_isLeapYear, ini_X9, cd_X9_isLeapYear, by decide +kernel, by decide +kernel, by decide +kernel⟩
theorem vL_155 : qLw RL 155 yL_months cL_months 5 [(0, 10, 13, 20), (0, 10, 17, 13)] 4 := ⟨tb_4 87 (by decide +kernel) (by decide +kernel), st_L_months, ini_L, cd_L_months, by decide +kernel, by decide +kernel, by decide +kernel⟩
theorem vL_157 : qVw RL 157 yX9_months cX9_months 3 (some .int) 2 := ⟨tb_8 82 (by decide +kernel) (by decide +kernel), im_X9_months, se_X9_months, ini_X9, cd_X9_months, by decide +kernel, by decide +kernel, by decide +kernel⟩
theorem vL_158 : qLw RL 158 yL_monthLength cL_monthLength 6 [(0, 12, 15, 20), (0, 12, 19, 13)] 5 := ⟨tb_4 95 (by decide +kernel) (by decide +kernel), st_L_monthLength, ini_L, cd_L_monthLength, by decide +kernel, by decide +kernel, by decide +kernel⟩
theorem vL_161 : qVw RL 161 yX9_monthLength cX9_monthLength 4 (some .int) 3 := ⟨tb_8 94 (by decide +kernel) (by decide +kernel), im_X9_monthLength, se_X9_monthLength, ini_X9, cd_X9_monthLength, by decide +kernel, by decide +kernel, by decide +kernel⟩
theorem vL_162 : qLw RL 162 yL_isIntercalary cL_isIntercalary 6 [(0, 19, 22, 20), (0, 19, 26, 13)] 5 := ⟨tb_4 104 (by decide +kernel) (by decide +kernel), st_L_isIntercalary, ini_L, cd_L_isIntercalary, by decide +kernel, by decide +kernel, by decide +kernel⟩
theorem vL_164 : qVw RL 164 yX9_isIntercalary cX9_isIntercalary 4 (some .boolean) 3 := ⟨tb_8 114 (by decide +kernel) (by decide +kernel), im_X9_isIntercalary, se_X9_isIntercalary, ini_X9, cd_X9_isIntercalary, by decide +kernel, by decide +kernel, by decide +kernel⟩
theorem vL_165 : qLw RL 165 yL_yearLength cL_yearLength 5 [(0, 10, 13, 20), (0, 10, 17, 13)] 4 := ⟨tb_4 115 (by decide +kernel) (by decide +kernel), st_L_yearLength, ini_L, cd_L_yearLength, by decide +kernel, by decide +kernel, by decide +kernel⟩
theorem vL_167 : qVw RL 167 yX9_yearLength cX9_yearLength 3 (some .int) 2 := ⟨tb_8 118 (by decide +kernel) (by decide +kernel), im_X9_yearLength, se_X9_yearLength, ini_X9, cd_X9_yearLength, by decide +kernel, by decide +kernel, by decide +kernel⟩
theorem vL_168 : qLw RL 168 yL_firstDay cL_firstDay 5 [(0, 10, 13, 20), (0, 10, 17, 13)] 4 := ⟨tb_4 123 (by decide +kernel) (by decide +kernel), st_L_firstDay, ini_L, cd_L_firstDay, by decide +kernel, by decide +kernel, by decide +kernel⟩
theorem vL_170 : qVw RL 170 yX9_firstDay cX9_firstDay 3 (some .int) 2 := ⟨tb_8 122 (by decide +kernel) (by decide +kernel), im_X9_firstDay, se_X9_firstDay, ini_X9, cd_X9_firstDay, by decide +kernel, by decide +kernel, by decide +kernel⟩
theorem vL_171 : qLw RL 171 yL_dayOf cL_dayOf 7 [(0, 14, 17, 20), (0, 14, 21, 13)] 6 := ⟨tb_4 131 (by decide +kernel) (by decide +kernel), st_L_dayOf, ini_L, cd_L_dayOf, by decide +kernel, by decide +kernel, by decide +kernel⟩
theorem vL_174 : qVw RL 174 yX9_dayOf cX9_dayOf 5 (some .int) 4 := ⟨tb_8 130 (by decide +kernel) (by decide +kernel), im_X9_dayOf, se_X9_dayOf, ini_X9, cd_X9_dayOf, by decide +kernel, by decide +kernel, by decide +kernel⟩
theorem vL_175 : qLw RL 175 yL_date cL_date 6 [(0, 12, 15, 20), (0, 12, 19, 13), (0, 12, 23, 54)] 5 := ⟨tb_4 139 (by decide +kernel) (by decide +kernel), st_L_date, ini_L, cd_L_date, by decide +kernel, by decide +kernel, by decide +kernel⟩
theorem vL_177 : qVw RL 177 yX9_date cX9_date 4 (some .int) 3 := ⟨tb_8 151 (by decide +kernel) (by decide +kernel), im_X9_date, se_X9_date, ini_X9, cd_X9_date, by decide +kernel, by decide +kernel, by decide +kernel⟩
theorem vL_178 : qLw RL 178 yL_convert cL_convert 9 [(0, 18, 21, 20), (0, 18, 25, 13), (0, 18, 29, 54)] 8 := ⟨tb_4 191 (by decide +kernel) (by decide +kernel), st_L_convert, ini_L, cd_L_convert, by decide +kernel, by decide +kernel, by decide +kernel⟩
theorem vL_181 : qVw RL 181 yX9_convert cX9_convert 8 (some .int) 6 := ⟨tb_8 176 (by decide +kernel) (by decide +kernel), im_X9_convert, se_X9_convert, ini_X9, cd_X9_convert, by decide +kernel, by decide +kernel, by decide +kernel⟩
theorem vL_182 : qLw RL 182 yL_week cL_week 6 [(0, 12, 15, 20), (0, 12, 19, 13), (0, 12, 23, 54)] 5 := ⟨tb_4 198 (by decide +kernel) (by decide +kernel), st_L_week, ini_L, cd_L_week, by decide +kernel, by decide +kernel, by decide +kernel⟩
theorem vL_184 : qVw RL 184 yX9_week cX9_week 5 (some .int) 3 := ⟨tb_8 180 (by decide +kernel) (by decide +kernel), im_X9_week, se_X9_week, ini_X9, cd_X9_week, by decide +kernel, by decide +kernel, by decide +kernel⟩
theorem vL_185 : qLw RL 185 yL_weeks cL_weeks 5 [(0, 10, 13, 20), (0, 10, 17, 13)] 4 := ⟨tb_4 217 (by decide +kernel) (by decide +kernel), st_L_weeks, ini_L, cd_L_weeks, by decide +kernel, by decide +kernel, by decide +kernel⟩
theorem vL_187 : qVw RL 187 yX9_weeks cX9_weeks 3 (some .int) 2 := ⟨tb_8 192 (by decide +kernel) (by decide +kernel), im_X9_weeks, se_X9_weeks, ini_X9, cd_X9_weeks, by decide +kernel, by decide +kernel, by decide +kernel⟩
theorem vL_188 : qLw RL 188 yL_firstDayOfWeek cL_firstDayOfWeek 6 [(0, 12, 15, 20), (0, 12, 19, 13)] 5 := ⟨tb_4 228 (by decide +kernel) (by decide +kernel), st_L_firstDayOfWeek, ini_L, cd_L_firstDayOfWeek, by decide +kernel, by decide +kernel, by decide +kernel⟩
theorem vL_190 : qVw RL 190 yX9_firstDayOfWeek cX9_firstDayOfWeek 4 (some .int) 3 := ⟨tb_8 200 (by decide +kernel) (by decide +kernel), im_X9_firstDayOfWeek, se_X9_firstDayOfWeek, ini_X9, cd_X9_firstDayOfWeek, by decide +kernel, by decide +kernel, by decide +kernel⟩
theorem vL_191 : qLw RL 191 yL_plus cL_plus 6 [(0, 12, 15, 20), (0, 12, 19, 13), (0, 12, 23, 54)] 5 := ⟨tb_4 236 (by decide +kernel) (by decide +kernel), st_L_plus, ini_L, cd_L_plus, by decide +kernel, by decide +kernel, by decide +kernel⟩
theorem vL_193 : qVw RL 193 yX9_plus cX9_plus 5 (some .int) 3 := ⟨tb_8 204 (by decide +kernel) (by decide +kernel), im_X9_plus, se_X9_plus, ini_X9, cd_X9_plus, by decide +kernel, by decide +kernel, by decide +kernel⟩
theorem vL_194 : qLw RL 194 yL_plusYears cL_plusYears 6 [(0, 12, 15, 20), (0, 12, 19, 13), (0, 12, 23, 54)] 5 := ⟨tb_5 25 (by decide +kernel) (by decide +kernel), st_L_plusYears, ini_L, cd_L_plusYears, by decide +kernel, by decide +kernel, by decide +kernel⟩
theorem vL_196 : qVw RL 196 yX9_plusYears cX9_plusYears 5 (some .int) 3 := ⟨tb_8 225 (by decide +kernel) (by decide +kernel), im_X9_plusYears, se_X9_plusYears, ini_X9, cd_X9_plusYears, by decide +kernel, by decide +kernel, by decide +kernel⟩
theorem vL_197 : qLw RL 197 yL_span cL_span 7 [(0, 14, 17, 20), (0, 14, 21, 13), (0, 14, 25, 54)] 6 := ⟨tb_5 36 (by decide +kernel) (by decide +kernel), st_L_span, ini_L, cd_L_span, by decide +kernel, by decide +kernel, by decide +kernel⟩
theorem vL_199 : qVw RL 199 yX9_span cX9_span 8 (some .int) 4 := ⟨tb_8 233 (by decide +kernel) (by decide +kernel), im_X9_span, se_X9_span, ini_X9, cd_X9_span, by decide +kernel, by decide +kernel, by decide +kernel⟩
theorem vL_200 : qLw RL 200 yL_addFeast cL_addFeast 9 [(0, 18, 21, 13), (0, 18, 25, 15)] 8 := ⟨tb_5 52 (by decide +kernel) (by decide +kernel), st_L_addFeast, ini_L, cd_L_addFeast, by decide +kernel, by decide +kernel, by decide +kernel⟩
theorem vL_202 : qVw RL 202 yX9_addFeast cX9_addFeast 8 (some .int) 6 := ⟨tb_9 0 (by decide +kernel) (by decide +kernel), im_X9_addFeast, se_X9_addFeast, ini_X9, cd_X9_addFeast, by decide +kernel, by decide +kernel, by decide +kernel⟩
theorem vL_203 : qLw RL 203 yL_removeFeast cL_removeFeast 3 [(0, 8, 11, 15)] 2 := ⟨tb_5 99 (by decide +kernel) (by decide +kernel), st_L_removeFeast, ini_L, cd_L_removeFeast, by decide +kernel, by decide +kernel, by decide +kernel⟩
theorem vL_206 : qVw RL 206 yX9_removeFeast cX9_removeFeast 1 (some .int) 0 := ⟨tb_9 12 (by decide +kernel) (by decide +kernel), im_X9_removeFeast, se_X9_removeFeast, ini_X9, cd_X9_removeFeast, by decide +kernel, by decide +kernel, by decide +kernel⟩
theorem vL_207 : qVw RL 207 yX8_feastCount cX8_feastCount 1 (some .int) 0 := ⟨tb_3 60 (by decide +kernel) (by decide +kernel), im_X8_feastCount, se_X8_feastCount, ini_X8, cd_X8_feastCount, by decide +kernel, by decide +kernel, by decide +kernel⟩
theorem vL_210 : qVw RL 210 yX9_feastCount cX9_feastCount 1 (some .int) 0 := ⟨tb_9 16 (by decide +kernel) (by decide +kernel), im_X9_feastCount, se_X9_feastCount, ini_X9, cd_X9_feastCount, by decide +kernel, by decide +kernel, by decide +kernel⟩
theorem vL_211 : qLw RL 211 yL_feast cL_feast 5 [(0, 10, 13, 20), (0, 10, 17, 13), (0, 10, 21, 54)] 4 := ⟨tb_5 111 (by decide +kernel) (by decide +kernel), st_L_feast, ini_L, cd_L_feast, by decide +kernel, by decide +kernel, by decide +kernel⟩
theorem vL_213 : qVw RL 213 yX9_feast cX9_feast 3 (some .int) 2 := ⟨tb_9 20 (by decide +kernel) (by decide +kernel), im_X9_feast, se_X9_feast, ini_X9, cd_X9_feast, by decide +kernel, by decide +kernel, by decide +kernel⟩
theorem vL_214 : qLw RL 214 yL_placedFeast cL_placedFeast 5 [(0, 10, 13, 20), (0, 10, 17, 13), (0, 10, 21, 54)] 4 := ⟨tb_5 156 (by decide +kernel) (by decide +kernel), st_L_placedFeast, ini_L, cd_L_placedFeast, by decide +kernel, by decide +kernel, by decide +kernel⟩
theorem vL_216 : qVw RL 216 yX9_placedFeast cX9_placedFeast 3 (some .int) 2 := ⟨tb_9 52 (by decide +kernel) (by decide +kernel), im_X9_placedFeast, se_X9_placedFeast, ini_X9, cd_X9_placedFeast, by decide +kernel, by decide +kernel, by decide +kernel⟩
theorem vL_217 : qLw RL 217 yL_feastOn cL_feastOn 5 [(0, 10, 13, 13), (0, 10, 17, 54)] 4 := ⟨tb_5 180 (by decide +kernel) (by decide +kernel), st_L_feastOn, ini_L, cd_L_feastOn, by decide +kernel, by decide +kernel, by decide +kernel⟩
theorem vL_219 : qVw RL 219 yX9_feastOn cX9_feastOn 4 (some .int) 2 := ⟨tb_9 64 (by decide +kernel) (by decide +kernel), im_X9_feastOn, se_X9_feastOn, ini_X9, cd_X9_feastOn, by decide +kernel, by decide +kernel, by decide +kernel⟩
theorem vL_220 : qLw RL 220 yL_meetingYear cL_meetingYear 6 [(0, 12, 15, 20), (0, 12, 19, 13), (0, 12, 23, 54)] 5 := ⟨tb_5 189 (by decide +kernel) (by decide +kernel), st_L_meetingYear, ini_L, cd_L_meetingYear, by decide +kernel, by decide +kernel, by decide +kernel⟩
theorem vL_222 : qVw RL 222 yX9_meetingYear cX9_meetingYear 5 (some .int) 3 := ⟨tb_9 68 (by decide +kernel) (by decide +kernel), im_X9_meetingYear, se_X9_meetingYear, ini_X9, cd_X9_meetingYear, by decide +kernel, by decide +kernel, by decide +kernel⟩
theorem vL_223 : qVw RL 223 yX8_readings cX8_readings 6 (some .int) 3 := ⟨tb_3 68 (by decide +kernel) (by decide +kernel), im_X8_readings, se_X8_readings, ini_X8, cd_X8_readings, by decide +kernel, by decide +kernel, by decide +kernel⟩
theorem vL_226 : qVw RL 226 yX9_readings cX9_readings 9 (some .int) 3 := ⟨tb_9 72 (by decide +kernel) (by decide +kernel), im_X9_readings, se_X9_readings, ini_X9, cd_X9_readings, by decide +kernel, by decide +kernel, by decide +kernel⟩
theorem vL_227 : qLw RL 227 yL_reading cL_reading 5 [(0, 10, 13, 20), (0, 10, 17, 13)] 4 := ⟨tb_5 198 (by decide +kernel) (by decide +kernel), st_L_reading, ini_L, cd_L_reading, by decide +kernel, by decide +kernel, by decide +kernel⟩
theorem vL_229 : qVw RL 229 yX9_reading cX9_reading 3 (some .int) 2 := ⟨tb_9 80 (by decide +kernel) (by decide +kernel), im_X9_reading, se_X9_reading, ini_X9, cd_X9_reading, by decide +kernel, by decide +kernel, by decide +kernel⟩
theorem vL_230 : qVw RL 230 yX8_differentDays cX8_differentDays 1 (some .int) 0 := ⟨tb_3 126 (by decide +kernel) (by decide +kernel), im_X8_differentDays, se_X8_differentDays, ini_X8, cd_X8_differentDays, by decide +kernel, by decide +kernel, by decide +kernel⟩
theorem vL_233 : qVw RL 233 yX9_differentDays cX9_differentDays 3 (some .int) 0 := ⟨tb_9 84 (by decide +kernel) (by decide +kernel), im_X9_differentDays, se_X9_differentDays, ini_X9, cd_X9_differentDays, by decide +kernel, by decide +kernel, by decide +kernel⟩
theorem vL_234 : qLw RL 234 yL_write cL_write 5 [(0, 10, 13, 20), (0, 10, 17, 13), (0, 10, 21, 54)] 4 := ⟨tb_5 210 (by decide +kernel) (by decide +kernel), st_L_write, ini_L, cd_L_write, by decide +kernel, by decide +kernel, by decide +kernel⟩
theorem vL_236 : qVw RL 236 yX9_write cX9_write 3 (some .int) 2 := ⟨tb_9 88 (by decide +kernel) (by decide +kernel), im_X9_write, se_X9_write, ini_X9, cd_X9_write, by decide +kernel, by decide +kernel, by decide +kernel⟩
theorem vL_237 : qLw RL 237 yL_output cL_output 4 [(0, 9, 12, 20)] 3 := ⟨tb_6 236 (by decide +kernel) (by decide +kernel), st_L_output, ini_L, cd_L_output, by decide +kernel, by decide +kernel, by decide +kernel⟩
theorem vL_239 : qVw RL 239 yX9_output cX9_output 2 (some .char) 1 := ⟨tb_9 100 (by decide +kernel) (by decide +kernel), im_X9_output, se_X9_output, ini_X9, cd_X9_output, by decide +kernel, by decide +kernel, by decide +kernel⟩
theorem vL_240 : qLw RL 240 yL_newYears cL_newYears 7 [(0, 14, 17, 20), (0, 14, 21, 13)] 6 := ⟨tb_7 14 (by decide +kernel) (by decide +kernel), st_L_newYears, ini_L, cd_L_newYears, by decide +kernel, by decide +kernel, by decide +kernel⟩
theorem vL_242 : qVw RL 242 yX9_newYears cX9_newYears 9 (some .int) 4 := ⟨tb_9 104 (by decide +kernel) (by decide +kernel), im_X9_newYears, se_X9_newYears, ini_X9, cd_X9_newYears, by decide +kernel, by decide +kernel, by decide +kernel⟩
theorem vL_243 : qLw RL 243 yL_averageYear cL_averageYear 4 [(0, 8, 11, 20)] 3 := ⟨tb_7 21 (by decide +kernel) (by decide +kernel), st_L_averageYear, ini_L, cd_L_averageYear, by decide +kernel, by decide +kernel, by decide +kernel⟩
theorem vL_246 : qVw RL 246 yX9_averageYear cX9_averageYear 2 (some .double) 1 := ⟨tb_9 108 (by decide +kernel) (by decide +kernel), im_X9_averageYear, se_X9_averageYear, ini_X9, cd_X9_averageYear, by decide +kernel, by decide +kernel, by decide +kernel⟩
theorem vL_247 : qLw RL 247 yL_drift cL_drift 5 [(0, 10, 13, 20)] 4 := ⟨tb_7 32 (by decide +kernel) (by decide +kernel), st_L_drift, ini_L, cd_L_drift, by decide +kernel, by decide +kernel, by decide +kernel⟩
theorem vL_250 : qVw RL 250 yX9_drift cX9_drift 3 (some .float) 2 := ⟨tb_9 116 (by decide +kernel) (by decide +kernel), im_X9_drift, se_X9_drift, ini_X9, cd_X9_drift, by decide +kernel, by decide +kernel, by decide +kernel⟩
theorem vL_251 : qLw RL 251 yL_undo cL_undo 3 [(0, 8, 11, 15)] 2 := ⟨tb_7 40 (by decide +kernel) (by decide +kernel), st_L_undo, ini_L, cd_L_undo, by decide +kernel, by decide +kernel, by decide +kernel⟩
theorem vL_253 : qVw RL 253 yX9_undo cX9_undo 1 (some .int) 0 := ⟨tb_9 121 (by decide +kernel) (by decide +kernel), im_X9_undo, se_X9_undo, ini_X9, cd_X9_undo, by decide +kernel, by decide +kernel, by decide +kernel⟩
theorem vL_254 : qVw RL 254 yX8_save cX8_save 1 (some .int) 0 := ⟨tb_3 134 (by decide +kernel) (by decide +kernel), im_X8_save, se_X8_save, ini_X8, cd_X8_save, by decide +kernel, by decide +kernel, by decide +kernel⟩
theorem vL_257 : qVw RL 257 yX9_save cX9_save 1 (some .int) 0 := ⟨tb_9 125 (by decide +kernel) (by decide +kernel), im_X9_save, se_X9_save, ini_X9, cd_X9_save, by decide +kernel, by decide +kernel, by decide +kernel⟩
theorem vL_258 : qLw RL 258 yL_restore cL_restore 3 [(0, 8, 11, 15)] 2 := ⟨tb_7 56 (by decide +kernel) (by decide +kernel), st_L_restore, ini_L, cd_L_restore, by decide +kernel, by decide +kernel, by decide +kernel⟩
theorem vL_260 : qVw RL 260 yX9_restore cX9_restore 1 (some .int) 0 := ⟨tb_9 129 (by decide +kernel) (by decide +kernel), im_X9_restore, se_X9_restore, ini_X9, cd_X9_restore, by decide +kernel, by decide +kernel, by decide +kernel⟩
