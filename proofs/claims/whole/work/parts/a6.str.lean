theorem cd_J0_coder_7d493 : Cond.code yJ0_coder_7d493 cJ0_coder_7d493 1 (some .byte) ∈ TB := tb_2 4 (by decide +kernel) (by decide +kernel)
theorem im_J0_coder_7d493 : Cond.instanceMethod yJ0_coder_7d493 ∈ TB := tb_2 2 (by decide +kernel) (by decide +kernel)
theorem se_J0_coder_7d493 : Cond.selects RJ0 yJ0_coder_7d493 yJ0_coder_7d493 ∈ TB := tb_2 3 (by decide +kernel) (by decide +kernel)
theorem dJ0_coder_7d493_0 : decode cJ0_coder_7d493 0 = .ok (.getstatic 38, 3) := by decide +kernel
theorem dJ0_coder_7d493_3 : decode cJ0_coder_7d493 3 = .ok (.ifCond .eq 10, 3) := by decide +kernel
theorem dJ0_coder_7d493_6 : decode cJ0_coder_7d493 6 = .ok (.aload_n 0, 1) := by decide +kernel
theorem dJ0_coder_7d493_7 : decode cJ0_coder_7d493 7 = .ok (.getfield 15, 3) := by decide +kernel
theorem dJ0_coder_7d493_10 : decode cJ0_coder_7d493 10 = .ok (.goto 4, 3) := by decide +kernel
theorem dJ0_coder_7d493_13 : decode cJ0_coder_7d493 13 = .ok (.iconst 1, 1) := by decide +kernel
theorem dJ0_coder_7d493_14 : decode cJ0_coder_7d493 14 = .ok (.ireturn, 1) := by decide +kernel
theorem cd_J0_isLatin1_aae02 : Cond.code yJ0_isLatin1_aae02 cJ0_isLatin1_aae02 1 (some .boolean) ∈ TB := tb_2 13 (by decide +kernel) (by decide +kernel)
theorem im_J0_isLatin1_aae02 : Cond.instanceMethod yJ0_isLatin1_aae02 ∈ TB := tb_2 11 (by decide +kernel) (by decide +kernel)
theorem se_J0_isLatin1_aae02 : Cond.selects RJ0 yJ0_isLatin1_aae02 yJ0_isLatin1_aae02 ∈ TB := tb_2 12 (by decide +kernel) (by decide +kernel)
theorem dJ0_isLatin1_aae02_0 : decode cJ0_isLatin1_aae02 0 = .ok (.getstatic 38, 3) := by decide +kernel
theorem dJ0_isLatin1_aae02_3 : decode cJ0_isLatin1_aae02 3 = .ok (.ifCond .eq 14, 3) := by decide +kernel
theorem dJ0_isLatin1_aae02_6 : decode cJ0_isLatin1_aae02 6 = .ok (.aload_n 0, 1) := by decide +kernel
theorem dJ0_isLatin1_aae02_7 : decode cJ0_isLatin1_aae02 7 = .ok (.getfield 15, 3) := by decide +kernel
theorem dJ0_isLatin1_aae02_10 : decode cJ0_isLatin1_aae02 10 = .ok (.ifCond .ne 7, 3) := by decide +kernel
theorem dJ0_isLatin1_aae02_13 : decode cJ0_isLatin1_aae02 13 = .ok (.iconst 1, 1) := by decide +kernel
theorem dJ0_isLatin1_aae02_14 : decode cJ0_isLatin1_aae02 14 = .ok (.goto 4, 3) := by decide +kernel
theorem dJ0_isLatin1_aae02_17 : decode cJ0_isLatin1_aae02 17 = .ok (.iconst 0, 1) := by decide +kernel
theorem dJ0_isLatin1_aae02_18 : decode cJ0_isLatin1_aae02 18 = .ok (.ireturn, 1) := by decide +kernel
set_option maxRecDepth 20000 in
theorem cd_J0_length_8abf5 : Cond.code yJ0_length_8abf5 cJ0_length_8abf5 1 (some .int) ∈ TB := tb_2 0 (by decide +kernel) (by decide +kernel)
theorem im_J0_length_8abf5 : Cond.instanceMethod yJ0_length_8abf5 ∈ TB := tb_1 238 (by decide +kernel) (by decide +kernel)
theorem se_J0_length_8abf5 : Cond.selects RJ0 yJ0_length_8abf5 yJ0_length_8abf5 ∈ TB := tb_1 239 (by decide +kernel) (by decide +kernel)
theorem dJ0_length_8abf5_0 : decode cJ0_length_8abf5 0 = .ok (.aload_n 0, 1) := by decide +kernel
theorem dJ0_length_8abf5_1 : decode cJ0_length_8abf5 1 = .ok (.getfield 9, 3) := by decide +kernel
theorem dJ0_length_8abf5_4 : decode cJ0_length_8abf5 4 = .ok (.arraylength, 1) := by decide +kernel
theorem dJ0_length_8abf5_5 : decode cJ0_length_8abf5 5 = .ok (.aload_n 0, 1) := by decide +kernel
theorem dJ0_length_8abf5_6 : decode cJ0_length_8abf5 6 = .ok (.invokevirtual 335, 3) := by decide +kernel
theorem dJ0_length_8abf5_9 : decode cJ0_length_8abf5 9 = .ok (.ishr, 1) := by decide +kernel
theorem dJ0_length_8abf5_10 : decode cJ0_length_8abf5 10 = .ok (.ireturn, 1) := by decide +kernel
set_option maxRecDepth 20000 in
theorem cd_J1_charAt_3b067 : Cond.code yJ1_charAt_3b067 cJ1_charAt_3b067 2 (some .char) ∈ TB := tb_2 16 (by decide +kernel) (by decide +kernel)
theorem st_J1_charAt_3b067 : Cond.static yJ1_charAt_3b067 ∈ TB := tb_2 15 (by decide +kernel) (by decide +kernel)
theorem dJ1_charAt_3b067_0 : decode cJ1_charAt_3b067 0 = .ok (.iload_n 1, 1) := by decide +kernel
theorem dJ1_charAt_3b067_1 : decode cJ1_charAt_3b067 1 = .ok (.aload_n 0, 1) := by decide +kernel
theorem dJ1_charAt_3b067_2 : decode cJ1_charAt_3b067 2 = .ok (.arraylength, 1) := by decide +kernel
theorem dJ1_charAt_3b067_3 : decode cJ1_charAt_3b067 3 = .ok (.invokestatic 9, 3) := by decide +kernel
theorem dJ1_charAt_3b067_6 : decode cJ1_charAt_3b067 6 = .ok (.aload_n 0, 1) := by decide +kernel
theorem dJ1_charAt_3b067_7 : decode cJ1_charAt_3b067 7 = .ok (.iload_n 1, 1) := by decide +kernel
theorem dJ1_charAt_3b067_8 : decode cJ1_charAt_3b067 8 = .ok (.baload, 1) := by decide +kernel
theorem dJ1_charAt_3b067_9 : decode cJ1_charAt_3b067 9 = .ok (.sipush 255, 3) := by decide +kernel
theorem dJ1_charAt_3b067_12 : decode cJ1_charAt_3b067 12 = .ok (.iand, 1) := by decide +kernel
theorem dJ1_charAt_3b067_13 : decode cJ1_charAt_3b067 13 = .ok (.i2c, 1) := by decide +kernel
theorem dJ1_charAt_3b067_14 : decode cJ1_charAt_3b067 14 = .ok (.ireturn, 1) := by decide +kernel
theorem cd_J0_charAt_5068e : Cond.code yJ0_charAt_5068e cJ0_charAt_5068e 2 (some .char) ∈ TB := tb_2 9 (by decide +kernel) (by decide +kernel)
theorem im_J0_charAt_5068e : Cond.instanceMethod yJ0_charAt_5068e ∈ TB := tb_2 7 (by decide +kernel) (by decide +kernel)
theorem se_J0_charAt_5068e : Cond.selects RJ0 yJ0_charAt_5068e yJ0_charAt_5068e ∈ TB := tb_2 8 (by decide +kernel) (by decide +kernel)
theorem dJ0_charAt_5068e_0 : decode cJ0_charAt_5068e 0 = .ok (.aload_n 0, 1) := by decide +kernel
theorem dJ0_charAt_5068e_1 : decode cJ0_charAt_5068e 1 = .ok (.invokevirtual 492, 3) := by decide +kernel
theorem dJ0_charAt_5068e_4 : decode cJ0_charAt_5068e 4 = .ok (.ifCond .eq 12, 3) := by decide +kernel
theorem dJ0_charAt_5068e_7 : decode cJ0_charAt_5068e 7 = .ok (.aload_n 0, 1) := by decide +kernel
theorem dJ0_charAt_5068e_8 : decode cJ0_charAt_5068e 8 = .ok (.getfield 9, 3) := by decide +kernel
theorem dJ0_charAt_5068e_11 : decode cJ0_charAt_5068e 11 = .ok (.iload_n 1, 1) := by decide +kernel
theorem dJ0_charAt_5068e_12 : decode cJ0_charAt_5068e 12 = .ok (.invokestatic 495, 3) := by decide +kernel
theorem dJ0_charAt_5068e_15 : decode cJ0_charAt_5068e 15 = .ok (.ireturn, 1) := by decide +kernel
theorem dJ0_charAt_5068e_16 : decode cJ0_charAt_5068e 16 = .ok (.aload_n 0, 1) := by decide +kernel
theorem dJ0_charAt_5068e_17 : decode cJ0_charAt_5068e 17 = .ok (.getfield 9, 3) := by decide +kernel
theorem dJ0_charAt_5068e_20 : decode cJ0_charAt_5068e 20 = .ok (.iload_n 1, 1) := by decide +kernel
theorem dJ0_charAt_5068e_21 : decode cJ0_charAt_5068e 21 = .ok (.invokestatic 498, 3) := by decide +kernel
theorem dJ0_charAt_5068e_24 : decode cJ0_charAt_5068e 24 = .ok (.ireturn, 1) := by decide +kernel
set_option maxRecDepth 20000 in
theorem v_J0_335 : qVw RJ0 335 yJ0_coder_7d493 cJ0_coder_7d493 1 (some .byte) 0 := ⟨tb_2 1 (by decide +kernel) (by decide +kernel), im_J0_coder_7d493, se_J0_coder_7d493, ini_J0, cd_J0_coder_7d493, by decide +kernel, by decide +kernel, by decide +kernel⟩
theorem v_J0_492 : qVw RJ0 492 yJ0_isLatin1_aae02 cJ0_isLatin1_aae02 1 (some .boolean) 0 := ⟨tb_2 10 (by decide +kernel) (by decide +kernel), im_J0_isLatin1_aae02, se_J0_isLatin1_aae02, ini_J0, cd_J0_isLatin1_aae02, by decide +kernel, by decide +kernel, by decide +kernel⟩
theorem v_J0_495 : qSw RJ0 495 yJ1_charAt_3b067 cJ1_charAt_3b067 2 (some .char) 2 := ⟨tb_2 14 (by decide +kernel) (by decide +kernel), st_J1_charAt_3b067, ini_J1, cd_J1_charAt_3b067, by decide +kernel, by decide +kernel, by decide +kernel⟩
theorem v_J1_9 : qSw RJ1 9 yJ0_checkIndex_df160 cJ0_checkIndex_df160 2 none 2 := ⟨tb_2 17 (by decide +kernel) (by decide +kernel), st_J0_checkIndex_df160, ini_J0, cd_J0_checkIndex_df160, by decide +kernel, by decide +kernel, by decide +kernel⟩
theorem v_X8_69 : qVw RX8 69 yJ0_length_8abf5 cJ0_length_8abf5 1 (some .int) 0 := ⟨tb_1 237 (by decide +kernel) (by decide +kernel), im_J0_length_8abf5, se_J0_length_8abf5, ini_J0, cd_J0_length_8abf5, by decide +kernel, by decide +kernel, by decide +kernel⟩
theorem v_X8_75 : qVw RX8 75 yJ0_charAt_5068e cJ0_charAt_5068e 2 (some .char) 1 := ⟨tb_2 6 (by decide +kernel) (by decide +kernel), im_J0_charAt_5068e, se_J0_charAt_5068e, ini_J0, cd_J0_charAt_5068e, by decide +kernel, by decide +kernel, by decide +kernel⟩
theorem fs_J0_38 : Cond.fieldLink RJ0 38 "java/lang/String" "COMPACT_STRINGS" "Z" ∈ TB := tb_2 5 (by decide +kernel) (by decide +kernel)
theorem fs_J0_9 : Cond.fieldLink RJ0 9 "java/lang/String" "value" "[B" ∈ TB := tb_6 163 (by decide +kernel) (by decide +kernel)
theorem fs_J0_15 : Cond.fieldLink RJ0 15 "java/lang/String" "coder" "B" ∈ TB := tb_6 164 (by decide +kernel) (by decide +kernel)
/-- the text of the first calendar, byte by byte -/
def TXF : List Int32 := [109, 51, 49, 44, 50, 56, 44, 51, 49, 44, 51, 48, 44, 51, 49, 44, 51, 48, 44, 51, 49, 44, 51, 49, 44, 51, 48, 44, 51, 49, 44, 51, 48, 44, 51, 49, 59, 101, 48, 59, 100, 50, 59, 108, 52, 43, 49, 48, 48, 45, 52, 48, 48, 43]
theorem txf_at : ∀ j : Nat, j < 54 → (33 ≤ (TXF.getD j 0).toInt ∧ (TXF.getD j 0).toInt ≤ 126) ∧ ((TXF.getD j 0 &&& 255).toUInt32 % 65536).toInt32 = TXF.getD j 0 := by decide +kernel
/-- the text constant at a, its bytes at av -/
def LK (b a av : Nat) (U : State) : Prop := vk_R RX8 67 "m31,28,31,30,31,30,31,31,30,31,30,31;e0;d2;l4+100-400+" a U ∧ va_O "java/lang/String" a (fun q => b ≤ q) U U.heap ∧ va_OF "java/lang/String" "coder" "B" (.int 0) a (fun q => b ≤ q) U U.heap ∧
  va_OF "java/lang/String" "value" "[B" (.ref av) a (fun q => b ≤ q) U U.heap ∧ va_T .byte av 54 (fun j => .int (TXF.getD j 0)) (fun q => b ≤ q) U U.heap
theorem LK.at {b a av : Nat} {s U : State} {H : Heap} {locs : List Loc} (h : LK b a av s) (hS : va_S (fun q => b ≤ q) s.heap H locs) (hU : U.heap = H) (hW : s.WarmedH U.vm) : LK b a av U := by
  have hk : ∀ a : Nat, a < s.heap.size → ¬ b ≤ a → U.heap[a]? = s.heap[a]? := fun a h1 h2 => by rw [hU]; exact hS.2.1 a h1 h2
  obtain ⟨h1, h2, h3, h4, h5⟩ := h
  exact ⟨vk_R.warm hW h1, (va_O.moved hW.alike h2).kept hk, (va_OF.moved hW.alike h3).kept hk, (va_OF.moved hW.alike h4).kept hk, (va_T.moved hW.alike h5).kept hk⟩
theorem LK.blind {b a av : Nat} {U : State} {g : JFrame} {mk : MethodId} {as : Array Value} (h : LK b a av U) : LK b a av (U.calling g mk as) := by
  obtain ⟨h1, h2, h3, h4, h5⟩ := h
  exact ⟨vk_R.same (u := U) (U := U.calling g mk as) rfl h1, va_O.moved (u := U) (U := U.calling g mk as) (Vm.Alike.refl U.vm) h2, va_OF.moved (u := U) (U := U.calling g mk as) (Vm.Alike.refl U.vm) h3, va_OF.moved (u := U) (U := U.calling g mk as) (Vm.Alike.refl U.vm) h4, va_T.moved (u := U) (U := U.calling g mk as) (Vm.Alike.refl U.vm) h5⟩
section LKQ
variable {p : Program} {l : Launch} {e : Env} {R : Room} {s : State} {m : MethodId} {args : Array Value} {below : List Frame} {meth : Method} {c : Code} {H : Heap} {locs : List Loc} {cells slots : Nat} {Q : State → Prop}
variable {own : String} {cc : ByteArray} {mL : Nat} {r : Option FieldType} {D : va_G} {t : Nat → ClassId} {b n a av : Nat} {σ0 : qM} {A : Nat → Int32} {B : Nat → Nat → Int32} {P : Nat → Nat → Option Nat} {pc : Nat} {ls : Array Slot} {rest : List Value}
def lPre (D : va_G) (t : Nat → ClassId) (b n : Nat) (σ : qM) (a av : Nat) (As : List Value) : Array Value → State → Prop := va_Pc As (fun U => WB D b n σ U.heap ∧ GP D t b U ∧ SK b U ∧ LK b a av U)
theorem lPre.blind {σ : qM} {As : List Value} : FrameBlind (lPre D t b n σ a av As) := fun _ _ _ _ q => ⟨q.1, q.2.1, q.2.2.1.blind, q.2.2.2.1.blind, q.2.2.2.2.blind⟩
def lM (l : Launch) (y : MethodName) (cc : ByteArray) (mL : Nat) (r : Option FieldType) (d : Nat) (D : va_G) (t : Nat → ClassId) (b n : Nat) (σ0 : qM) (A : Nat → Int32) (B : Nat → Nat → Int32) (P : Nat → Nat → Option Nat) (a av : Nat) (As : List Value) (post : Option Value → (Nat → Int32) → (Nat → Nat → Int32) → Prop) : Prop :=
  Met l y (.code y cc mL r :: TB) (qR d 0 0) (lPre D t b n (cS t b σ0 A B P) a av As) (jQ D t b n σ0 P post) 0 0 (fun q => b ≤ q)
theorem lM.of {y : MethodName} {d : Nat} {As : List Value} {post : Option Value → (Nat → Int32) → (Nat → Nat → Int32) → Prop} (hy : plainFor y = true) (hA : (lg_sl As).length ≤ mL)
    (k : ∀ (p : Program) (e : Env) (s : State) (m : MethodId) (args : Array Value) (below : List Frame) (meth : Method) (c : Code), qX p s args m meth c y.cls cc mL r D t b → SK b s → LK b a av s → qW D b n (cS t b σ0 A B P) s s.heap [] → ∀ ls : Array Slot, lv_has ls mL (lv_args 0 As) →
      W p l e (qR d 0 0) s m args below meth c s.heap [] 0 0 (MQ below (jQ D t b n σ0 P post) args s 0 0 (fun q => b ≤ q)) (F0 m 0 ls [])) : lM l y cc mL r d D t b n σ0 A B P a av As post := by
  refine va_MetF (cc := cc) (maxL := mL) (ret := r) hy rfl ?_
  intro p e s m args below meth c s₁ B hml hv
  obtain ⟨rfl, hw, hG, hE, hL⟩ := hv
  have hts := atoms_spec (ws := Cond.code y cc mL r :: TB) B.pre
  refine q_start hA (fun ls hl => ?_)
  exact k p e s m _ below meth c ⟨B.exec, B.bytes, fun w h => hts w (List.mem_cons_of_mem _ h), findClass_of_methodNamed B.named, hml, B.returns, B.notSynchronized, hG⟩ hE hL ⟨hw, va_S.rf, by rw [hw.1]; exact Nat.le_add_right _ _⟩ ls hl
theorem l_preV (X : qX p s args m meth c own cc mL r D t b) (hS : SK b s) (hL : LK b a av s) (w : qW D b n (cS t b σ0 A B P) s H locs) {As : List Value} : PreV s H "java/lang/String" a (lPre D t b n (cS t b σ0 A B P) a av (.ref a :: As)) As :=
  ⟨lPre.blind, by obtain ⟨cell, h1, h2, h3, -⟩ := hL.2.1.kept w.2.1.2.1; exact ⟨cell, h1, h2, h3⟩, fun _ hU hW => ⟨rfl, by rw [hU]; exact w.1, X.2.2.2.2.2.2.2.at w.2.1 hU hW, hS.at w.2.1 hU hW, hL.at w.2.1 hU hW⟩⟩
theorem l_preS (X : qX p s args m meth c own cc mL r D t b) (hS : SK b s) (hL : LK b a av s) (w : qW D b n (cS t b σ0 A B P) s H locs) {As : List Value} : PreS s H (lPre D t b n (cS t b σ0 A B P) a av As) As :=
  ⟨lPre.blind, fun _ hU hW => ⟨rfl, by rw [hU]; exact w.1, X.2.2.2.2.2.2.2.at w.2.1 hU hW, hS.at w.2.1 hU hW, hL.at w.2.1 hU hW⟩⟩
theorem l_cV (X : qX p s args m meth c own cc mL r D t b) (hS : SK b s) (hL : LK b a av s) (w : qW D b n (cS t b σ0 A B P) s H locs) {idx : Nat} {y : MethodName} {yc : ByteArray} {ymL : Nat} {yr : Option FieldType} {N d' : Nat} {As : List Value} {post : Option Value → (Nat → Int32) → (Nat → Nat → Int32) → Prop} (hM : lM l y yc ymL yr d' D t b n σ0 A B P a av (.ref a :: As) post) (cw : qVw own idx y yc ymL yr N) (hy : y.cls = "java/lang/String") (hn : As.length = N) (hR : d' + 1 ≤ R.frames ∧ 8 + (ymL + 11) + 40 * d' ≤ R.locals) {st : List Value} (hst : st = As.reverse ++ .ref a :: rest) (hsz : ls.size = mL) (hrm : (rest.map fun v => v.category).sum ≤ 8) (hdg : decode cc pc = .ok (.invokevirtual idx, 3)) (hf : cells + 0 ≤ R.cells ∧ slots + 0 ≤ R.slots)
    (kk : ∀ (v : Option Value) (A1 : Nat → Int32) (B1 : Nat → Nat → Int32) (H1 : Heap) (locs1 : List Loc), post v A1 B1 → qW D b n (cS t b σ0 A1 B1 P) s H1 locs1 → W p l e R s m args below meth c H1 locs1 cells slots Q (F0 m (pc + 3) ls (v.toList ++ rest))) : W p l e R s m args below meth c H locs cells slots Q (F0 m pc ls st) :=
  j_go w (va_runV ⟨X.1, X.2.1, X.2.2.2.2.1, X.2.2.2.1, X.2.2.1⟩ hM (cw.cw X.2.2.1 hR) (by rw [hy]; exact l_preV X hS hL w) rfl hn hsz hst (lv_room hrm) hdg hf) kk
theorem l_cS (X : qX p s args m meth c own cc mL r D t b) (hS : SK b s) (hL : LK b a av s) (w : qW D b n (cS t b σ0 A B P) s H locs) {idx : Nat} {y : MethodName} {yc : ByteArray} {ymL : Nat} {yr : Option FieldType} {N d' : Nat} {As : List Value} {post : Option Value → (Nat → Int32) → (Nat → Nat → Int32) → Prop} (hM : lM l y yc ymL yr d' D t b n σ0 A B P a av As post) (cw : qSw own idx y yc ymL yr N) (hn : As.length = N) (hR : d' + 1 ≤ R.frames ∧ 8 + (ymL + 11) + 40 * d' ≤ R.locals) {st : List Value} (hst : st = As.reverse ++ rest) (hsz : ls.size = mL) (hrm : (rest.map fun v => v.category).sum ≤ 8) (hdg : decode cc pc = .ok (.invokestatic idx, 3)) (hf : cells + 0 ≤ R.cells ∧ slots + 0 ≤ R.slots)
    (kk : ∀ (v : Option Value) (A1 : Nat → Int32) (B1 : Nat → Nat → Int32) (H1 : Heap) (locs1 : List Loc), post v A1 B1 → qW D b n (cS t b σ0 A1 B1 P) s H1 locs1 → W p l e R s m args below meth c H1 locs1 cells slots Q (F0 m (pc + 3) ls (v.toList ++ rest))) : W p l e R s m args below meth c H locs cells slots Q (F0 m pc ls st) :=
  j_go w (va_runS ⟨X.1, X.2.1, X.2.2.2.2.1, X.2.2.2.1, X.2.2.1⟩ hM (cw.cw X.2.2.1 hR) (l_preS X hS hL w) rfl hn hsz hst (lv_room hrm) hdg hf) kk
theorem l_fld (X : qX p s args m meth c own cc mL r D t b) (w : qW D b n (cS t b σ0 A B P) s H locs) {nm d : String} {v : Value} {index : Nat} (hF : va_OF "java/lang/String" nm d v a (fun q => b ≤ q) s s.heap) (hlink : Cond.fieldLink own index "java/lang/String" nm d ∈ TB) (hdg : decode cc pc = .ok (.getfield index, 3))
    (kk : W p l e R s m args below meth c H locs cells slots Q (F0 m (pc + 3) ls (v :: rest))) : W p l e R s m args below meth c H locs cells slots Q (F0 m pc ls (.ref a :: rest)) :=
  vk_getf X.1 X.2.1 hF w.2.1 X.2.2.2.1 (X.2.2.1 _ hlink) (fun _ h => h) hdg kk
end LKQ

set_option maxHeartbeats 2000000 in
set_option maxRecDepth 100000 in
theorem c_J0_coder_7d493 (l : Launch) (D : va_G) (t : Nat → ClassId) (b n : Nat) (σ0 : qM) (A : Nat → Int32) (B : Nat → Nat → Int32) (P : Nat → Nat → Option Nat) (a av : Nat) : lM l yJ0_coder_7d493 cJ0_coder_7d493 1 (some .byte) 0 D t b n σ0 A B P a av [.ref a] (fun v A1 B1 => v = some (.int 0) ∧ A1 = A ∧ B1 = B) := by
  refine lM.of (by decide +kernel) (Nat.le_of_ble_eq_true rfl) (fun p e s m args below meth c X hS hL w ls hl => ?_)
  have hx := X.1
  have hb := X.2.1
  have hl : lv_has ls 1 [(0, .ref a)] := hl
  refine j_gets X w hS.1 fs_J0_38 dJ0_coder_7d493_0 ?_
  refine lv_if_eq (tgt := 13) hx hb dJ0_coder_7d493_3 (by decide) (fun c_3 => absurd c_3 (by decide)) (fun c_3 => ?_)
  refine lv_aload_n hx hb dJ0_coder_7d493_6 rfl (lv_at hl 0 rfl) ?_
  refine l_fld X w hL.2.2.1 fs_J0_15 dJ0_coder_7d493_7 ?_
  refine lv_goto (tgt := 14) hx hb dJ0_coder_7d493_10 (by decide) ?_
  exact j_iret (post := fun v A1 B1 => v = some (.int 0) ∧ A1 = A ∧ B1 = B) X w dJ0_coder_7d493_14 (rfl) ⟨rfl, rfl, rfl⟩

set_option maxHeartbeats 2000000 in
set_option maxRecDepth 100000 in
theorem c_J0_isLatin1_aae02 (l : Launch) (D : va_G) (t : Nat → ClassId) (b n : Nat) (σ0 : qM) (A : Nat → Int32) (B : Nat → Nat → Int32) (P : Nat → Nat → Option Nat) (a av : Nat) : lM l yJ0_isLatin1_aae02 cJ0_isLatin1_aae02 1 (some .boolean) 0 D t b n σ0 A B P a av [.ref a] (fun v A1 B1 => v = some (.int 1) ∧ A1 = A ∧ B1 = B) := by
  refine lM.of (by decide +kernel) (Nat.le_of_ble_eq_true rfl) (fun p e s m args below meth c X hS hL w ls hl => ?_)
  have hx := X.1
  have hb := X.2.1
  have hl : lv_has ls 1 [(0, .ref a)] := hl
  refine j_gets X w hS.1 fs_J0_38 dJ0_isLatin1_aae02_0 ?_
  refine lv_if_eq (tgt := 17) hx hb dJ0_isLatin1_aae02_3 (by decide) (fun c_3 => absurd c_3 (by decide)) (fun c_3 => ?_)
  refine lv_aload_n hx hb dJ0_isLatin1_aae02_6 rfl (lv_at hl 0 rfl) ?_
  refine l_fld X w hL.2.2.1 fs_J0_15 dJ0_isLatin1_aae02_7 ?_
  refine lv_if_ne (tgt := 17) hx hb dJ0_isLatin1_aae02_10 (by decide) (fun c_10 => absurd rfl c_10) (fun c_10 => ?_)
  refine lv_iconst (v := 1) hx hb dJ0_isLatin1_aae02_13 (by decide) ?_
  refine lv_goto (tgt := 18) hx hb dJ0_isLatin1_aae02_14 (by decide) ?_
  exact j_iret (post := fun v A1 B1 => v = some (.int 1) ∧ A1 = A ∧ B1 = B) X w dJ0_isLatin1_aae02_18 (rfl) ⟨rfl, rfl, rfl⟩

set_option maxHeartbeats 2000000 in
set_option maxRecDepth 100000 in
theorem c_J0_length_8abf5 (l : Launch) (D : va_G) (t : Nat → ClassId) (b n : Nat) (σ0 : qM) (A : Nat → Int32) (B : Nat → Nat → Int32) (P : Nat → Nat → Option Nat) (a av : Nat) : lM l yJ0_length_8abf5 cJ0_length_8abf5 1 (some .int) 1 D t b n σ0 A B P a av [.ref a] (fun v A1 B1 => v = some (.int 54) ∧ A1 = A ∧ B1 = B) := by
  refine lM.of (by decide +kernel) (Nat.le_of_ble_eq_true rfl) (fun p e s m args below meth c X hS hL w ls hl => ?_)
  have hx := X.1
  have hb := X.2.1
  have hl : lv_has ls 1 [(0, .ref a)] := hl
  refine lv_aload_n hx hb dJ0_length_8abf5_0 rfl (lv_at hl 0 rfl) ?_
  refine l_fld X w hL.2.2.2.1 fs_J0_9 dJ0_length_8abf5_1 ?_
  refine va_tlen hx hb hL.2.2.2.2 w.2.1 (v := 54) rfl dJ0_length_8abf5_4 ?_
  refine lv_aload_n hx hb dJ0_length_8abf5_5 rfl (lv_at hl 0 rfl) ?_
  refine l_cV X hS hL w (c_J0_coder_7d493 l D t b n σ0 A B P a av) v_J0_335 rfl rfl ⟨Nat.le_of_ble_eq_true rfl, Nat.le_of_ble_eq_true rfl⟩ rfl hl.1 (Nat.le_of_ble_eq_true rfl) dJ0_length_8abf5_6 ⟨Nat.le_of_ble_eq_true rfl, Nat.le_of_ble_eq_true rfl⟩ (fun v_6 A_6 B_6 H locs z_6 w => ?_)
  obtain ⟨rfl, ez1, ez2⟩ := z_6
  rw [ez1, ez2] at w
  show W _ _ _ _ _ _ _ _ _ _ _ _ _ _ _ (F0 _ _ _ ([.int 0, .int 54]))
  refine lv_ishr hx hb dJ0_length_8abf5_9 ?_
  refine q_topE (y := 54) (by decide) ?_
  exact j_iret (post := fun v A1 B1 => v = some (.int 54) ∧ A1 = _ ∧ B1 = _) X w dJ0_length_8abf5_10 (rfl) ⟨rfl, rfl, rfl⟩

theorem txf_nar : ∀ j : Nat, j < 54 → narrow .char (.int (TXF.getD j 0)) = .int (TXF.getD j 0) := by decide +kernel
set_option maxHeartbeats 2000000 in
set_option maxRecDepth 100000 in
theorem c_J1_charAt_3b067 (l : Launch) (D : va_G) (t : Nat → ClassId) (b n : Nat) (σ0 : qM) (A : Nat → Int32) (B : Nat → Nat → Int32) (P : Nat → Nat → Option Nat) (a av : Nat) (a_k : Int32) (k : Int) (e_k : a_k.toInt = k) (h_1 : 0 ≤ k ∧ k < 54) : lM l yJ1_charAt_3b067 cJ1_charAt_3b067 2 (some .char) 2 D t b n σ0 A B P a av [.ref av, .int a_k] (fun v A1 B1 => v = some (.int (TXF.getD k.toNat 0)) ∧ A1 = A ∧ B1 = B) := by
  refine lM.of (by decide +kernel) (Nat.le_of_ble_eq_true rfl) (fun p e s m args below meth c X hS hL w ls hl => ?_)
  have hx := X.1
  have hb := X.2.1
  have hl : lv_has ls 2 [(0, .ref av), (1, .int a_k)] := hl
  refine lv_iload_n hx hb dJ1_charAt_3b067_0 rfl (lv_at hl 1 rfl) ?_
  refine lv_aload_n hx hb dJ1_charAt_3b067_1 rfl (lv_at hl 0 rfl) ?_
  refine va_tlen hx hb hL.2.2.2.2 w.2.1 (v := 54) rfl dJ1_charAt_3b067_2 ?_
  refine j_cS X hS w (c_J0_checkIndex_df160 l D t b n σ0 A B P a_k 54 k 54 e_k (show (54 : Int32).toInt = 54 from rfl) h_1) v_J1_9 rfl ⟨Nat.le_of_ble_eq_true rfl, Nat.le_of_ble_eq_true rfl⟩ rfl hl.1 (Nat.le_of_ble_eq_true rfl) dJ1_charAt_3b067_3 ⟨Nat.le_of_ble_eq_true rfl, Nat.le_of_ble_eq_true rfl⟩ (fun v_3 A_3 B_3 H locs z_3 w => ?_)
  obtain ⟨rfl, ez1, ez2⟩ := z_3
  rw [ez1, ez2] at w
  show W _ _ _ _ _ _ _ _ _ _ _ _ _ _ _ (F0 _ _ _ ([]))
  refine lv_aload_n hx hb dJ1_charAt_3b067_6 rfl (lv_at hl 0 rfl) ?_
  refine lv_iload_n hx hb dJ1_charAt_3b067_7 rfl (lv_at hl 1 rfl) ?_
  refine va_tb (v := .int (TXF.getD k.toNat 0)) hx hb hL.2.2.2.2 w.2.1 (g_in e_k h_1) (by rw [g_tn e_k]) dJ1_charAt_3b067_8 ?_
  refine lv_sipush (v := 255) hx hb dJ1_charAt_3b067_9 (by decide) ?_
  refine lv_iand hx hb dJ1_charAt_3b067_12 ?_
  refine lv_i2c hx hb dJ1_charAt_3b067_13 rfl ?_
  have ht := txf_at k.toNat (by omega)
  refine q_topE (y := TXF.getD k.toNat 0) ht.2 ?_
  exact j_iret (post := fun v A1 B1 => v = some (.int (TXF.getD k.toNat 0)) ∧ A1 = _ ∧ B1 = _) X w dJ1_charAt_3b067_14 (txf_nar k.toNat (by omega)) ⟨rfl, rfl, rfl⟩

set_option maxHeartbeats 2000000 in
set_option maxRecDepth 100000 in
theorem c_J0_charAt_5068e (l : Launch) (D : va_G) (t : Nat → ClassId) (b n : Nat) (σ0 : qM) (A : Nat → Int32) (B : Nat → Nat → Int32) (P : Nat → Nat → Option Nat) (a av : Nat) (a_k : Int32) (k : Int) (e_k : a_k.toInt = k) (h_1 : 0 ≤ k ∧ k < 54) : lM l yJ0_charAt_5068e cJ0_charAt_5068e 2 (some .char) 3 D t b n σ0 A B P a av [.ref a, .int a_k] (fun v A1 B1 => v = some (.int (TXF.getD k.toNat 0)) ∧ A1 = A ∧ B1 = B) := by
  refine lM.of (by decide +kernel) (Nat.le_of_ble_eq_true rfl) (fun p e s m args below meth c X hS hL w ls hl => ?_)
  have hx := X.1
  have hb := X.2.1
  have hl : lv_has ls 2 [(0, .ref a), (1, .int a_k)] := hl
  refine lv_aload_n hx hb dJ0_charAt_5068e_0 rfl (lv_at hl 0 rfl) ?_
  refine l_cV X hS hL w (c_J0_isLatin1_aae02 l D t b n σ0 A B P a av) v_J0_492 rfl rfl ⟨Nat.le_of_ble_eq_true rfl, Nat.le_of_ble_eq_true rfl⟩ rfl hl.1 (Nat.le_of_ble_eq_true rfl) dJ0_charAt_5068e_1 ⟨Nat.le_of_ble_eq_true rfl, Nat.le_of_ble_eq_true rfl⟩ (fun v_1 A_1 B_1 H locs z_1 w => ?_)
  obtain ⟨rfl, ez1, ez2⟩ := z_1
  rw [ez1, ez2] at w
  show W _ _ _ _ _ _ _ _ _ _ _ _ _ _ _ (F0 _ _ _ ([.int 1]))
  refine lv_if_eq (tgt := 16) hx hb dJ0_charAt_5068e_4 (by decide) (fun c_4 => absurd c_4 (by decide)) (fun c_4 => ?_)
  refine lv_aload_n hx hb dJ0_charAt_5068e_7 rfl (lv_at hl 0 rfl) ?_
  refine l_fld X w hL.2.2.2.1 fs_J0_9 dJ0_charAt_5068e_8 ?_
  refine lv_iload_n hx hb dJ0_charAt_5068e_11 rfl (lv_at hl 1 rfl) ?_
  refine l_cS X hS hL w (c_J1_charAt_3b067 l D t b n σ0 _ _ P a av a_k k e_k h_1) v_J0_495 rfl ⟨Nat.le_of_ble_eq_true rfl, Nat.le_of_ble_eq_true rfl⟩ rfl hl.1 (Nat.le_of_ble_eq_true rfl) dJ0_charAt_5068e_12 ⟨Nat.le_of_ble_eq_true rfl, Nat.le_of_ble_eq_true rfl⟩ (fun v_12 A_12 B_12 H locs z_12 w => ?_)
  obtain ⟨rfl, ez1, ez2⟩ := z_12
  rw [ez1, ez2] at w
  show W _ _ _ _ _ _ _ _ _ _ _ _ _ _ _ (F0 _ _ _ ([.int (TXF.getD k.toNat 0)]))
  exact j_iret (post := fun v A1 B1 => v = some (.int (TXF.getD k.toNat 0)) ∧ A1 = _ ∧ B1 = _) X w dJ0_charAt_5068e_15 (txf_nar k.toNat (by omega)) ⟨rfl, rfl, rfl⟩

