theorem ovl_at {L : List va_E} {σ0 : qM} {k : Nat} {e : va_E} (h : L[k]? = some e) : ovl L σ0 k = some e := by
  unfold ovl
  rw [h]
theorem ovl_push {L : List va_E} {σ0 : qM} {n : Nat} {e : va_E} (h : L.length = n) : va_up (ovl L σ0) n (some e) = ovl (L ++ [e]) σ0 := by
  funext k
  by_cases q : k = n
  · rw [q, va_up_self]
    unfold ovl
    rw [List.getElem?_append_right (by omega), h, Nat.sub_self]
    rfl
  · rw [va_up_ne _ _ q]
    unfold ovl
    by_cases z : k < L.length
    · rw [List.getElem?_append_left z]
    · rw [List.getElem?_eq_none (by omega), List.getElem?_eq_none (by rw [List.length_append]; show L.length + 1 ≤ k; omega)]
theorem l_app {L : List va_E} {k : Nat} {x e : va_E} (h : L[k]? = some x) : (L ++ [e])[k]? = some x := by
  rw [List.getElem?_append_left (List.getElem?_eq_some_iff.mp h).1]
  exact h
theorem l_ne {L : List va_E} {j k : Nat} {x e : va_E} (h : L[j]? = some x) (hjk : k ≠ j) : (L.set k e)[j]? = some x := by
  rw [List.getElem?_set_ne hjk]
  exact h
theorem l_new {L : List va_E} {n : Nat} {e : va_E} (h : L.length = n) : (L ++ [e])[n]? = some e := by
  rw [← h, List.getElem?_append_right (Nat.le_refl _), Nat.sub_self]
  rfl
theorem l_lt {L : List va_E} {k : Nat} {x : va_E} (h : L[k]? = some x) : k < L.length := (List.getElem?_eq_some_iff.mp h).1
section CT
variable {p : Program} {l : Launch} {e : Env} {R : Room} {s : State} {m : MethodId} {args : Array Value} {below : List Frame} {meth : Method} {c : Code} {H : Heap} {locs : List Loc} {cells slots : Nat} {Q : State → Prop}
variable {own : String} {cc : ByteArray} {mL : Nat} {r : Option FieldType} {D : va_G} {t : Nat → ClassId} {b n : Nat} {σ : qM} {pc : Nat} {ls : Array Slot} {rest : List Value}
theorem q_anewa (X : qX p s args m meth c own cc mL r D t b) (w : qW D b n σ s H locs) {C : String} {index : Nat} (hcl : Cond.classLink own index C ∈ TB) (hover : va_AO C s) (i0 : Nat) (ht : (qT t)[i0]? = some (t i0, .object C)) {x : Int32} {N : Nat} (hn : ¬ x < 0) (hN : x.toNatClampNeg = N) (hbytes : N * 4 ≤ 536870912) (hcells : cells + 1 ≤ R.cells) (hslots : slots + N ≤ R.slots) (hdg : decode cc pc = .ok (.anewarray index, 3))
    (kk : ∀ H1 : Heap, qW D b (n + 1) (va_up σ n (some (.inl (t i0, N, .inr (.inr (.inr (.inr (fun j => ((fun _ => none : Nat → Option Nat) j).map (b + ·))))))))) s H1 locs → W p l e R s m args below meth c H1 locs (cells + 1) (slots + N) Q (F0 m (pc + 3) ls (.ref (b + n) :: rest))) : W p l e R s m args below meth c H locs cells slots Q (F0 m pc ls (.int x :: rest)) := by
  subst hN
  refine W.anew X.1 X.2.1 X.2.2.2.1 (X.2.2.1 _ hcl) (va_AO.use hover) rfl hdg rfl hn hbytes hcells hslots fun cA kA comp f1 f2 f3 f4 => ?_
  have hid : cA = t i0 := by
    obtain ⟨_, _, _, _, _, h4⟩ := (X.2.2.2.2.2.2.2.1.2 i0 _ ht).2
    exact Option.some.inj (f1.symm.trans h4)
  subst hid
  have e0 : H.size = b + n := w.1.1
  generalize hH1 : H.push ({ cls := t i0, slots := Array.replicate x.toNatClampNeg .null, vm := .none } : Cell) = H1
  have z1 : H1.size = H.size + 1 := by rw [← hH1, Array.size_push]
  have e1 : H1[b + n]? = some (arrV (t i0) x.toNatClampNeg (fun _ => .null)) := by rw [← hH1, ← e0, Array.getElem?_push_size, ← arrV_new]
  have o1 : ∀ q : Nat, q < H.size → H1[q]? = H[q]? := fun q hq => by rw [← hH1, Array.getElem?_push, if_neg (Nat.ne_of_lt hq)]
  rw [e0]
  exact kk H1 ⟨w.1.push z1 o1 e1, ⟨Nat.le_trans w.2.1.1 (by omega), fun x h1 h2 => (o1 x (Nat.lt_of_lt_of_le h1 w.2.1.1)).trans (w.2.1.2.1 x h1 h2), w.2.1.2.2⟩, w.2.2⟩
/-- a constructor that reads the JDK's statics -/
def qVS (l : Launch) (y : MethodName) (cc : ByteArray) (mL : Nat) (d mc ms : Nat) (D : va_G) (t : Nat → ClassId) (b n : Nat) (σ : qM) (As : List Value) (post : Nat → qM → Prop) : Prop :=
  Met l y (.code y cc mL none :: TB) (qR d mc ms) (jPre D t b n σ As) (va_Qv (S := Nat × qM) (fun u => post u.1 u.2) (fun u T => WB D b u.1 u.2 T.heap) (fun q => b ≤ q)) mc ms (fun q => b ≤ q)
theorem qVS.of {y : MethodName} {d mc ms : Nat} {As : List Value} {post : Nat → qM → Prop} (hy : plainFor y = true) (hA : (lg_sl As).length ≤ mL)
    (k : ∀ (p : Program) (e : Env) (s : State) (m : MethodId) (args : Array Value) (below : List Frame) (meth : Method) (c : Code), qX p s args m meth c y.cls cc mL none D t b → SK b s → qW D b n σ s s.heap [] → ∀ ls : Array Slot, lv_has ls mL (lv_args 0 As) →
      W p l e (qR d mc ms) s m args below meth c s.heap [] 0 0 (MQ below (va_Qv (S := Nat × qM) (fun u => post u.1 u.2) (fun u T => WB D b u.1 u.2 T.heap) (fun q => b ≤ q)) args s mc ms (fun q => b ≤ q)) (F0 m 0 ls [])) : qVS l y cc mL d mc ms D t b n σ As post := by
  refine va_MetF (cc := cc) (maxL := mL) (ret := none) hy rfl ?_
  intro p e s m args below meth c s₁ B hml hv
  obtain ⟨rfl, hw, hG, hE⟩ := hv
  have hts := atoms_spec (ws := Cond.code y cc mL none :: TB) B.pre
  refine q_start hA (fun ls hl => ?_)
  exact k p e s m _ below meth c ⟨B.exec, B.bytes, fun w h => hts w (List.mem_cons_of_mem _ h), findClass_of_methodNamed B.named, hml, B.returns, B.notSynchronized, hG⟩ hE ⟨hw, va_S.rf, by rw [hw.1]; exact Nat.le_add_right _ _⟩ ls hl
theorem q_cVIS (X : qX p s args m meth c own cc mL r D t b) (hS : SK b s) (w : qW D b n σ s H locs) {idx : Nat} {y : MethodName} {yc : ByteArray} {ymL : Nat} {N d' mc ms k : Nat} {As : List Value} {post : Nat → qM → Prop} (hM : qVS l y yc ymL d' mc ms D t b n σ (.ref (b + k) :: As) post) (cw : qIw own idx y yc ymL N) (hn : As.length = N) (hR : d' + 1 ≤ R.frames ∧ 8 + (ymL + 11) + 40 * d' ≤ R.locals) {st : List Value} (hst : st = As.reverse ++ .ref (b + k) :: rest) (hsz : ls.size = mL) (hrm : (rest.map fun v => v.category).sum ≤ 8) (hdg : decode cc pc = .ok (.invokespecial idx, 3)) (hf : cells + mc ≤ R.cells ∧ slots + ms ≤ R.slots)
    (kk : ∀ (n1 : Nat) (σ1 : qM) (H1 : Heap) (locs1 : List Loc), post n1 σ1 → qW D b n1 σ1 s H1 locs1 → W p l e R s m args below meth c H1 locs1 (cells + mc) (slots + ms) Q (F0 m (pc + 3) ls rest)) : W p l e R s m args below meth c H locs cells slots Q (F0 m pc ls st) :=
  va_callv (va_runI ⟨X.1, X.2.1, X.2.2.2.2.1, X.2.2.2.1, X.2.2.1⟩ hM (cw.cw X.2.2.1 hR) (⟨jPre.blind, fun _ hU hW => ⟨rfl, by rw [hU]; exact w.1, X.2.2.2.2.2.2.2.at w.2.1 hU hW, hS.at w.2.1 hU hW⟩⟩ : PreS s H (jPre D t b n σ (.ref (b + k) :: As)) (.ref (b + k) :: As)) rfl hn hsz hst (lv_room hrm) hdg hf) w.2.1 (fun _ _ h => h) (fun _ h => h)
    (fun u T H1 locs1 ht _ hp hB _ _ hS => kk u.1 u.2 H1 locs1 hp ⟨by rw [← ht]; exact hB, hS, w.2.2⟩)
end CT
theorem ac_char : Cond.arrayClass .char ∈ TB := tb_1 59 (by decide +kernel) (by decide +kernel)
theorem ac_boolean : Cond.arrayClass .boolean ∈ TB := tb_1 131 (by decide +kernel) (by decide +kernel)
theorem ac_byte : Cond.arrayClass .byte ∈ TB := tb_1 235 (by decide +kernel) (by decide +kernel)
theorem cl_X6_9 : Cond.classLink RX6 9 "CalendarConverter$Calendar" ∈ TB := tb_1 138 (by decide +kernel) (by decide +kernel)
theorem cl_X6_17 : Cond.classLink RX6 17 "CalendarConverter$Feast" ∈ TB := tb_1 140 (by decide +kernel) (by decide +kernel)
theorem cl_X3_9 : Cond.classLink RX3 9 "CalendarConverter$State" ∈ TB := tb_1 161 (by decide +kernel) (by decide +kernel)
theorem is_X6 : Cond.instantiable RX6 4 ∈ TB := tb_1 133 (by decide +kernel) (by decide +kernel)
theorem nw_X3_17 : qNIw RX3 17 yX6_init cX6_init 1 0 := ⟨by decide +kernel, im_X6_init, rfl, ini_X6, cd_X6_init, by decide +kernel, by decide +kernel, by decide +kernel⟩
theorem oi_J5 : Cond.methodLink RJ5 3 Lib.objectInit ∈ TB := tb_1 211 (by decide +kernel) (by decide +kernel)
theorem iw_J4_1 : qIw RJ4 1 yJ5_init_d00df cJ5_init_d00df 2 1 := ⟨tb_1 208 (by decide +kernel) (by decide +kernel), im_J5_init_d00df, rfl, ini_J5, cd_J5_init_d00df, by decide +kernel, by decide +kernel, by decide +kernel⟩

set_option maxHeartbeats 2000000 in
set_option maxRecDepth 100000 in
theorem c_X7_init (l : Launch) (D : va_G) (t : Nat → ClassId) (b n : Nat) (σ0 : qM) (L : List va_E) (k : Nat) (hL : L.length = n) (hk : L[k]? = some (.inr (11, [.null, .int 0, .int 0, .int 0]))) : qV l yX7_init cX7_init 1 1 1 100 D t b n (ovl L σ0) [.ref (b + k)] (fun n1 σ1 => n1 = n + 1 ∧ σ1 = ovl ((L ++ [(.inl (t 1, 100, .inl (fun _ => 0)) : va_E)]).set k ((.inr (11, [.ref (b + n), .int 0, .int 0, .int 0]) : va_E))) σ0) := by
  refine qV.of (by decide +kernel) (Nat.le_of_ble_eq_true rfl) (fun p e s m args below meth c X w hin ls hl => ?_)
  have hin := hin rfl
  have hx := X.1
  have hb := X.2.1
  have hkn : k < n := hL ▸ l_lt hk
  have hl : lv_has ls 1 [(0, .ref (b + k))] := hl
  refine lv_aload_n hx hb dX7_init_0 rfl (lv_at hl 0 rfl) ?_
  refine q_obj X oi_X7 hl.1 ⟨Nat.le_of_ble_eq_true rfl, Nat.le_of_ble_eq_true rfl⟩ (Nat.le_of_ble_eq_true rfl) dX7_init_1 ?_
  refine lv_aload_n hx hb dX7_init_4 rfl (lv_at hl 0 rfl) ?_
  refine lv_bipush (v := 100) hx hb dX7_init_5 (by decide) ?_
  refine q_newa (atype := .char) X w ac_char rfl (fun _ h => by cases h) 1 rfl (a0 := (100, .inl (fun _ => 0))) (N := 100) (fun _ => rfl) (by decide) (by decide) (by decide) (Nat.le_of_ble_eq_true rfl) (Nat.le_of_ble_eq_true rfl) dX7_init_7 (fun H w => ?_)
  rw [ovl_push hL] at w
  obtain ⟨L_7_1, eL_7_1⟩ : ∃ z, z = (L ++ [(.inl (t 1, 100, .inl (fun _ => 0)) : va_E)]) := ⟨_, rfl⟩
  rw [← eL_7_1] at w
  have hk := l_app (e := .inl (t 1, 100, .inl (fun _ => 0))) hk
  rw [← eL_7_1] at hk
  have hL : L_7_1.length = (n + 1) := by rw [eL_7_1, List.length_append, hL]; rfl
  have hkl := l_lt hk
  refine q_putF X w inX7 tyX7 tyX7_ok nmX7 rfl 0 (by decide) fl_X7_9 rfl hin rfl (k := k) (ovl_at hk) (v := .ref (b + n)) rfl rfl (Nat.le_of_ble_eq_true rfl) dX7_init_9 (fun H locs w => ?_)
  rw [ovl_set hkl] at w
  obtain ⟨L_9_2, eL_9_2⟩ : ∃ z, z = L_7_1.set k (.inr (11, [.ref (b + n), .int 0, .int 0, .int 0]) : va_E) := ⟨_, rfl⟩
  have w : qW D b (n + 1) (ovl L_9_2 σ0) s H locs := by rw [eL_9_2]; exact w
  have hk : L_9_2[k]? = some (.inr (11, [.ref (b + n), .int 0, .int 0, .int 0])) := by rw [eL_9_2]; exact List.getElem?_set_self hkl
  have hL : L_9_2.length = (n + 1) := by rw [eL_9_2, List.length_set]; exact hL
  exact q_vret (post := fun n1 σ1 => n1 = n + 1 ∧ σ1 = ovl ((L ++ [(.inl (t 1, 100, .inl (fun _ => 0)) : va_E)]).set k ((.inr (11, [.ref (b + n), .int 0, .int 0, .int 0]) : va_E))) σ0) X w dX7_init_12 ⟨rfl, by rw [eL_9_2, eL_7_1]⟩

set_option maxHeartbeats 2000000 in
set_option maxRecDepth 100000 in
theorem c_X4_init (l : Launch) (D : va_G) (t : Nat → ClassId) (b n : Nat) (σ0 : qM) (L : List va_E) (k : Nat) (kt : Nat) (hL : L.length = n) (hk : L[k]? = some (.inr (8, [.null, .null, .null, .null, .int 0, .int 0, .int 0, .int 0, .int 0, .int 0, .int 0, .int 0, .int 0, .int 0, .int 0, .int 0, .int 0, .int 0]))) : qV l yX4_init cX4_init 2 1 3 22 D t b n (ovl L σ0) [.ref (b + k), .ref (b + kt)] (fun n1 σ1 => n1 = n + 3 ∧ σ1 = ovl (((((((L ++ [(.inl (t 0, 14, .inl (fun _ => 0)) : va_E)]).set k ((.inr (8, [.null, .ref (b + n), .null, .null, .int 0, .int 0, .int 0, .int 0, .int 0, .int 0, .int 0, .int 0, .int 0, .int 0, .int 0, .int 0, .int 0, .int 0]) : va_E))) ++ [(.inl (t 0, 4, .inl (fun _ => 0)) : va_E)]).set k ((.inr (8, [.null, .ref (b + n), .ref (b + (n + 1)), .null, .int 0, .int 0, .int 0, .int 0, .int 0, .int 0, .int 0, .int 0, .int 0, .int 0, .int 0, .int 0, .int 0, .int 0]) : va_E))) ++ [(.inl (t 2, 4, .inl (fun _ => 0)) : va_E)]).set k ((.inr (8, [.null, .ref (b + n), .ref (b + (n + 1)), .ref (b + (n + 1 + 1)), .int 0, .int 0, .int 0, .int 0, .int 0, .int 0, .int 0, .int 0, .int 0, .int 0, .int 0, .int 0, .int 0, .int 0]) : va_E))).set k ((.inr (8, [.ref (b + kt), .ref (b + n), .ref (b + (n + 1)), .ref (b + (n + 1 + 1)), .int 0, .int 0, .int 0, .int 0, .int 0, .int 0, .int 0, .int 0, .int 0, .int 0, .int 0, .int 0, .int 0, .int 0]) : va_E))) σ0) := by
  refine qV.of (by decide +kernel) (Nat.le_of_ble_eq_true rfl) (fun p e s m args below meth c X w hin ls hl => ?_)
  have hin := hin rfl
  have hx := X.1
  have hb := X.2.1
  have hkn : k < n := hL ▸ l_lt hk
  have hl : lv_has ls 2 [(0, .ref (b + k)), (1, .ref (b + kt))] := hl
  refine lv_aload_n hx hb dX4_init_0 rfl (lv_at hl 0 rfl) ?_
  refine q_obj X oi_X4 hl.1 ⟨Nat.le_of_ble_eq_true rfl, Nat.le_of_ble_eq_true rfl⟩ (Nat.le_of_ble_eq_true rfl) dX4_init_1 ?_
  refine lv_aload_n hx hb dX4_init_4 rfl (lv_at hl 0 rfl) ?_
  refine lv_bipush (v := 14) hx hb dX4_init_5 (by decide) ?_
  refine q_newa (atype := .int) X w ac_int rfl (fun _ h => by cases h) 0 rfl (a0 := (14, .inl (fun _ => 0))) (N := 14) (fun _ => rfl) (by decide) (by decide) (by decide) (Nat.le_of_ble_eq_true rfl) (Nat.le_of_ble_eq_true rfl) dX4_init_7 (fun H w => ?_)
  rw [ovl_push hL] at w
  obtain ⟨L_7_1, eL_7_1⟩ : ∃ z, z = (L ++ [(.inl (t 0, 14, .inl (fun _ => 0)) : va_E)]) := ⟨_, rfl⟩
  rw [← eL_7_1] at w
  have hk := l_app (e := .inl (t 0, 14, .inl (fun _ => 0))) hk
  rw [← eL_7_1] at hk
  have hL : L_7_1.length = (n + 1) := by rw [eL_7_1, List.length_append, hL]; rfl
  have hkl := l_lt hk
  refine q_putF X w inX4 tyX4 tyX4_ok nmX4 rfl 1 (by decide) fl_X4_9 rfl hin rfl (k := k) (ovl_at hk) (v := .ref (b + n)) rfl rfl (Nat.le_of_ble_eq_true rfl) dX4_init_9 (fun H locs w => ?_)
  rw [ovl_set hkl] at w
  obtain ⟨L_9_2, eL_9_2⟩ : ∃ z, z = L_7_1.set k (.inr (8, [.null, .ref (b + n), .null, .null, .int 0, .int 0, .int 0, .int 0, .int 0, .int 0, .int 0, .int 0, .int 0, .int 0, .int 0, .int 0, .int 0, .int 0]) : va_E) := ⟨_, rfl⟩
  have w : qW D b (n + 1) (ovl L_9_2 σ0) s H locs := by rw [eL_9_2]; exact w
  have hk : L_9_2[k]? = some (.inr (8, [.null, .ref (b + n), .null, .null, .int 0, .int 0, .int 0, .int 0, .int 0, .int 0, .int 0, .int 0, .int 0, .int 0, .int 0, .int 0, .int 0, .int 0])) := by rw [eL_9_2]; exact List.getElem?_set_self hkl
  have hL : L_9_2.length = (n + 1) := by rw [eL_9_2, List.length_set]; exact hL
  refine lv_aload_n hx hb dX4_init_12 rfl (lv_at hl 0 rfl) ?_
  refine lv_iconst (v := 4) hx hb dX4_init_13 (by decide) ?_
  refine q_newa (atype := .int) X w ac_int rfl (fun _ h => by cases h) 0 rfl (a0 := (4, .inl (fun _ => 0))) (N := 4) (fun _ => rfl) (by decide) (by decide) (by decide) (Nat.le_of_ble_eq_true rfl) (Nat.le_of_ble_eq_true rfl) dX4_init_14 (fun H w => ?_)
  rw [ovl_push hL] at w
  obtain ⟨L_14_3, eL_14_3⟩ : ∃ z, z = (L_9_2 ++ [(.inl (t 0, 4, .inl (fun _ => 0)) : va_E)]) := ⟨_, rfl⟩
  rw [← eL_14_3] at w
  have hk := l_app (e := .inl (t 0, 4, .inl (fun _ => 0))) hk
  rw [← eL_14_3] at hk
  have hL : L_14_3.length = (n + 1 + 1) := by rw [eL_14_3, List.length_append, hL]; rfl
  have hkl := l_lt hk
  refine q_putF X w inX4 tyX4 tyX4_ok nmX4 rfl 2 (by decide) fl_X4_15 rfl hin rfl (k := k) (ovl_at hk) (v := .ref (b + (n + 1))) rfl rfl (Nat.le_of_ble_eq_true rfl) dX4_init_16 (fun H locs w => ?_)
  rw [ovl_set hkl] at w
  obtain ⟨L_16_4, eL_16_4⟩ : ∃ z, z = L_14_3.set k (.inr (8, [.null, .ref (b + n), .ref (b + (n + 1)), .null, .int 0, .int 0, .int 0, .int 0, .int 0, .int 0, .int 0, .int 0, .int 0, .int 0, .int 0, .int 0, .int 0, .int 0]) : va_E) := ⟨_, rfl⟩
  have w : qW D b (n + 1 + 1) (ovl L_16_4 σ0) s H locs := by rw [eL_16_4]; exact w
  have hk : L_16_4[k]? = some (.inr (8, [.null, .ref (b + n), .ref (b + (n + 1)), .null, .int 0, .int 0, .int 0, .int 0, .int 0, .int 0, .int 0, .int 0, .int 0, .int 0, .int 0, .int 0, .int 0, .int 0])) := by rw [eL_16_4]; exact List.getElem?_set_self hkl
  have hL : L_16_4.length = (n + 1 + 1) := by rw [eL_16_4, List.length_set]; exact hL
  refine lv_aload_n hx hb dX4_init_19 rfl (lv_at hl 0 rfl) ?_
  refine lv_iconst (v := 4) hx hb dX4_init_20 (by decide) ?_
  refine q_newa (atype := .boolean) X w ac_boolean rfl (fun _ h => by cases h) 2 rfl (a0 := (4, .inl (fun _ => 0))) (N := 4) (fun _ => rfl) (by decide) (by decide) (by decide) (Nat.le_of_ble_eq_true rfl) (Nat.le_of_ble_eq_true rfl) dX4_init_21 (fun H w => ?_)
  rw [ovl_push hL] at w
  obtain ⟨L_21_5, eL_21_5⟩ : ∃ z, z = (L_16_4 ++ [(.inl (t 2, 4, .inl (fun _ => 0)) : va_E)]) := ⟨_, rfl⟩
  rw [← eL_21_5] at w
  have hk := l_app (e := .inl (t 2, 4, .inl (fun _ => 0))) hk
  rw [← eL_21_5] at hk
  have hL : L_21_5.length = (n + 1 + 1 + 1) := by rw [eL_21_5, List.length_append, hL]; rfl
  have hkl := l_lt hk
  refine q_putF X w inX4 tyX4 tyX4_ok nmX4 rfl 3 (by decide) fl_X4_18 rfl hin rfl (k := k) (ovl_at hk) (v := .ref (b + (n + 1 + 1))) rfl rfl (Nat.le_of_ble_eq_true rfl) dX4_init_23 (fun H locs w => ?_)
  rw [ovl_set hkl] at w
  obtain ⟨L_23_6, eL_23_6⟩ : ∃ z, z = L_21_5.set k (.inr (8, [.null, .ref (b + n), .ref (b + (n + 1)), .ref (b + (n + 1 + 1)), .int 0, .int 0, .int 0, .int 0, .int 0, .int 0, .int 0, .int 0, .int 0, .int 0, .int 0, .int 0, .int 0, .int 0]) : va_E) := ⟨_, rfl⟩
  have w : qW D b (n + 1 + 1 + 1) (ovl L_23_6 σ0) s H locs := by rw [eL_23_6]; exact w
  have hk : L_23_6[k]? = some (.inr (8, [.null, .ref (b + n), .ref (b + (n + 1)), .ref (b + (n + 1 + 1)), .int 0, .int 0, .int 0, .int 0, .int 0, .int 0, .int 0, .int 0, .int 0, .int 0, .int 0, .int 0, .int 0, .int 0])) := by rw [eL_23_6]; exact List.getElem?_set_self hkl
  have hL : L_23_6.length = (n + 1 + 1 + 1) := by rw [eL_23_6, List.length_set]; exact hL
  refine lv_aload_n hx hb dX4_init_26 rfl (lv_at hl 0 rfl) ?_
  refine lv_aload_n hx hb dX4_init_27 rfl (lv_at hl 1 rfl) ?_
  have hkl := l_lt hk
  refine q_putF X w inX4 tyX4 tyX4_ok nmX4 rfl 0 (by decide) fl_X4_22 rfl hin rfl (k := k) (ovl_at hk) (v := .ref (b + kt)) rfl rfl (Nat.le_of_ble_eq_true rfl) dX4_init_28 (fun H locs w => ?_)
  rw [ovl_set hkl] at w
  obtain ⟨L_28_7, eL_28_7⟩ : ∃ z, z = L_23_6.set k (.inr (8, [.ref (b + kt), .ref (b + n), .ref (b + (n + 1)), .ref (b + (n + 1 + 1)), .int 0, .int 0, .int 0, .int 0, .int 0, .int 0, .int 0, .int 0, .int 0, .int 0, .int 0, .int 0, .int 0, .int 0]) : va_E) := ⟨_, rfl⟩
  have w : qW D b (n + 1 + 1 + 1) (ovl L_28_7 σ0) s H locs := by rw [eL_28_7]; exact w
  have hk : L_28_7[k]? = some (.inr (8, [.ref (b + kt), .ref (b + n), .ref (b + (n + 1)), .ref (b + (n + 1 + 1)), .int 0, .int 0, .int 0, .int 0, .int 0, .int 0, .int 0, .int 0, .int 0, .int 0, .int 0, .int 0, .int 0, .int 0])) := by rw [eL_28_7]; exact List.getElem?_set_self hkl
  have hL : L_28_7.length = (n + 1 + 1 + 1) := by rw [eL_28_7, List.length_set]; exact hL
  exact q_vret (post := fun n1 σ1 => n1 = n + 3 ∧ σ1 = ovl (((((((L ++ [(.inl (t 0, 14, .inl (fun _ => 0)) : va_E)]).set k ((.inr (8, [.null, .ref (b + n), .null, .null, .int 0, .int 0, .int 0, .int 0, .int 0, .int 0, .int 0, .int 0, .int 0, .int 0, .int 0, .int 0, .int 0, .int 0]) : va_E))) ++ [(.inl (t 0, 4, .inl (fun _ => 0)) : va_E)]).set k ((.inr (8, [.null, .ref (b + n), .ref (b + (n + 1)), .null, .int 0, .int 0, .int 0, .int 0, .int 0, .int 0, .int 0, .int 0, .int 0, .int 0, .int 0, .int 0, .int 0, .int 0]) : va_E))) ++ [(.inl (t 2, 4, .inl (fun _ => 0)) : va_E)]).set k ((.inr (8, [.null, .ref (b + n), .ref (b + (n + 1)), .ref (b + (n + 1 + 1)), .int 0, .int 0, .int 0, .int 0, .int 0, .int 0, .int 0, .int 0, .int 0, .int 0, .int 0, .int 0, .int 0, .int 0]) : va_E))).set k ((.inr (8, [.ref (b + kt), .ref (b + n), .ref (b + (n + 1)), .ref (b + (n + 1 + 1)), .int 0, .int 0, .int 0, .int 0, .int 0, .int 0, .int 0, .int 0, .int 0, .int 0, .int 0, .int 0, .int 0, .int 0]) : va_E))) σ0) X w dX4_init_31 ⟨rfl, by rw [eL_28_7, eL_23_6, eL_21_5, eL_16_4, eL_14_3, eL_9_2, eL_7_1]⟩

set_option maxHeartbeats 2000000 in
set_option maxRecDepth 100000 in
theorem c_X2_init (l : Launch) (D : va_G) (t : Nat → ClassId) (b n : Nat) (σ0 : qM) (L : List va_E) (k : Nat) (hL : L.length = n) (hk : L[k]? = some (.inr (6, [.null, .null]))) : qV l yX2_init cX2_init 1 1 2 16 D t b n (ovl L σ0) [.ref (b + k)] (fun n1 σ1 => n1 = n + 2 ∧ σ1 = ovl ((((L ++ [(.inl (t 0, 8, .inl (fun _ => 0)) : va_E)]).set k ((.inr (6, [.ref (b + n), .null]) : va_E))) ++ [(.inl (t 0, 8, .inl (fun _ => 0)) : va_E)]).set k ((.inr (6, [.ref (b + n), .ref (b + (n + 1))]) : va_E))) σ0) := by
  refine qV.of (by decide +kernel) (Nat.le_of_ble_eq_true rfl) (fun p e s m args below meth c X w hin ls hl => ?_)
  have hin := hin rfl
  have hx := X.1
  have hb := X.2.1
  have hkn : k < n := hL ▸ l_lt hk
  have hl : lv_has ls 1 [(0, .ref (b + k))] := hl
  refine lv_aload_n hx hb dX2_init_0 rfl (lv_at hl 0 rfl) ?_
  refine q_obj X oi_X2 hl.1 ⟨Nat.le_of_ble_eq_true rfl, Nat.le_of_ble_eq_true rfl⟩ (Nat.le_of_ble_eq_true rfl) dX2_init_1 ?_
  refine lv_aload_n hx hb dX2_init_4 rfl (lv_at hl 0 rfl) ?_
  refine lv_bipush (v := 8) hx hb dX2_init_5 (by decide) ?_
  refine q_newa (atype := .int) X w ac_int rfl (fun _ h => by cases h) 0 rfl (a0 := (8, .inl (fun _ => 0))) (N := 8) (fun _ => rfl) (by decide) (by decide) (by decide) (Nat.le_of_ble_eq_true rfl) (Nat.le_of_ble_eq_true rfl) dX2_init_7 (fun H w => ?_)
  rw [ovl_push hL] at w
  obtain ⟨L_7_1, eL_7_1⟩ : ∃ z, z = (L ++ [(.inl (t 0, 8, .inl (fun _ => 0)) : va_E)]) := ⟨_, rfl⟩
  rw [← eL_7_1] at w
  have hk := l_app (e := .inl (t 0, 8, .inl (fun _ => 0))) hk
  rw [← eL_7_1] at hk
  have hL : L_7_1.length = (n + 1) := by rw [eL_7_1, List.length_append, hL]; rfl
  have hkl := l_lt hk
  refine q_putF X w inX2 tyX2 tyX2_ok nmX2 rfl 0 (by decide) fl_X2_9 rfl hin rfl (k := k) (ovl_at hk) (v := .ref (b + n)) rfl rfl (Nat.le_of_ble_eq_true rfl) dX2_init_9 (fun H locs w => ?_)
  rw [ovl_set hkl] at w
  obtain ⟨L_9_2, eL_9_2⟩ : ∃ z, z = L_7_1.set k (.inr (6, [.ref (b + n), .null]) : va_E) := ⟨_, rfl⟩
  have w : qW D b (n + 1) (ovl L_9_2 σ0) s H locs := by rw [eL_9_2]; exact w
  have hk : L_9_2[k]? = some (.inr (6, [.ref (b + n), .null])) := by rw [eL_9_2]; exact List.getElem?_set_self hkl
  have hL : L_9_2.length = (n + 1) := by rw [eL_9_2, List.length_set]; exact hL
  refine lv_aload_n hx hb dX2_init_12 rfl (lv_at hl 0 rfl) ?_
  refine lv_bipush (v := 8) hx hb dX2_init_13 (by decide) ?_
  refine q_newa (atype := .int) X w ac_int rfl (fun _ h => by cases h) 0 rfl (a0 := (8, .inl (fun _ => 0))) (N := 8) (fun _ => rfl) (by decide) (by decide) (by decide) (Nat.le_of_ble_eq_true rfl) (Nat.le_of_ble_eq_true rfl) dX2_init_15 (fun H w => ?_)
  rw [ovl_push hL] at w
  obtain ⟨L_15_3, eL_15_3⟩ : ∃ z, z = (L_9_2 ++ [(.inl (t 0, 8, .inl (fun _ => 0)) : va_E)]) := ⟨_, rfl⟩
  rw [← eL_15_3] at w
  have hk := l_app (e := .inl (t 0, 8, .inl (fun _ => 0))) hk
  rw [← eL_15_3] at hk
  have hL : L_15_3.length = (n + 1 + 1) := by rw [eL_15_3, List.length_append, hL]; rfl
  have hkl := l_lt hk
  refine q_putF X w inX2 tyX2 tyX2_ok nmX2 rfl 1 (by decide) fl_X2_15 rfl hin rfl (k := k) (ovl_at hk) (v := .ref (b + (n + 1))) rfl rfl (Nat.le_of_ble_eq_true rfl) dX2_init_17 (fun H locs w => ?_)
  rw [ovl_set hkl] at w
  obtain ⟨L_17_4, eL_17_4⟩ : ∃ z, z = L_15_3.set k (.inr (6, [.ref (b + n), .ref (b + (n + 1))]) : va_E) := ⟨_, rfl⟩
  have w : qW D b (n + 1 + 1) (ovl L_17_4 σ0) s H locs := by rw [eL_17_4]; exact w
  have hk : L_17_4[k]? = some (.inr (6, [.ref (b + n), .ref (b + (n + 1))])) := by rw [eL_17_4]; exact List.getElem?_set_self hkl
  have hL : L_17_4.length = (n + 1 + 1) := by rw [eL_17_4, List.length_set]; exact hL
  exact q_vret (post := fun n1 σ1 => n1 = n + 2 ∧ σ1 = ovl ((((L ++ [(.inl (t 0, 8, .inl (fun _ => 0)) : va_E)]).set k ((.inr (6, [.ref (b + n), .null]) : va_E))) ++ [(.inl (t 0, 8, .inl (fun _ => 0)) : va_E)]).set k ((.inr (6, [.ref (b + n), .ref (b + (n + 1))]) : va_E))) σ0) X w dX2_init_20 ⟨rfl, by rw [eL_17_4, eL_15_3, eL_9_2, eL_7_1]⟩

set_option maxHeartbeats 2000000 in
set_option maxRecDepth 100000 in
theorem c_X5_init (l : Launch) (D : va_G) (t : Nat → ClassId) (b n : Nat) (σ0 : qM) (L : List va_E) (k : Nat) (hL : L.length = n) (hk : L[k]? = some (.inr (9, [.null, .null, .null, .int 0]))) : qV l yX5_init cX5_init 1 1 3 54 D t b n (ovl L σ0) [.ref (b + k)] (fun n1 σ1 => n1 = n + 3 ∧ σ1 = ovl ((((((L ++ [(.inl (t 0, 18, .inl (fun _ => 0)) : va_E)]).set k ((.inr (9, [.ref (b + n), .null, .null, .int 0]) : va_E))) ++ [(.inl (t 0, 18, .inl (fun _ => 0)) : va_E)]).set k ((.inr (9, [.ref (b + n), .ref (b + (n + 1)), .null, .int 0]) : va_E))) ++ [(.inl (t 0, 18, .inl (fun _ => 0)) : va_E)]).set k ((.inr (9, [.ref (b + n), .ref (b + (n + 1)), .ref (b + (n + 1 + 1)), .int 0]) : va_E))) σ0) := by
  refine qV.of (by decide +kernel) (Nat.le_of_ble_eq_true rfl) (fun p e s m args below meth c X w hin ls hl => ?_)
  have hin := hin rfl
  have hx := X.1
  have hb := X.2.1
  have hkn : k < n := hL ▸ l_lt hk
  have hl : lv_has ls 1 [(0, .ref (b + k))] := hl
  refine lv_aload_n hx hb dX5_init_0 rfl (lv_at hl 0 rfl) ?_
  refine q_obj X oi_X5 hl.1 ⟨Nat.le_of_ble_eq_true rfl, Nat.le_of_ble_eq_true rfl⟩ (Nat.le_of_ble_eq_true rfl) dX5_init_1 ?_
  refine lv_aload_n hx hb dX5_init_4 rfl (lv_at hl 0 rfl) ?_
  refine lv_bipush (v := 18) hx hb dX5_init_5 (by decide) ?_
  refine q_newa (atype := .int) X w ac_int rfl (fun _ h => by cases h) 0 rfl (a0 := (18, .inl (fun _ => 0))) (N := 18) (fun _ => rfl) (by decide) (by decide) (by decide) (Nat.le_of_ble_eq_true rfl) (Nat.le_of_ble_eq_true rfl) dX5_init_7 (fun H w => ?_)
  rw [ovl_push hL] at w
  obtain ⟨L_7_1, eL_7_1⟩ : ∃ z, z = (L ++ [(.inl (t 0, 18, .inl (fun _ => 0)) : va_E)]) := ⟨_, rfl⟩
  rw [← eL_7_1] at w
  have hk := l_app (e := .inl (t 0, 18, .inl (fun _ => 0))) hk
  rw [← eL_7_1] at hk
  have hL : L_7_1.length = (n + 1) := by rw [eL_7_1, List.length_append, hL]; rfl
  have hkl := l_lt hk
  refine q_putF X w inX5 tyX5 tyX5_ok nmX5 rfl 0 (by decide) fl_X5_9 rfl hin rfl (k := k) (ovl_at hk) (v := .ref (b + n)) rfl rfl (Nat.le_of_ble_eq_true rfl) dX5_init_9 (fun H locs w => ?_)
  rw [ovl_set hkl] at w
  obtain ⟨L_9_2, eL_9_2⟩ : ∃ z, z = L_7_1.set k (.inr (9, [.ref (b + n), .null, .null, .int 0]) : va_E) := ⟨_, rfl⟩
  have w : qW D b (n + 1) (ovl L_9_2 σ0) s H locs := by rw [eL_9_2]; exact w
  have hk : L_9_2[k]? = some (.inr (9, [.ref (b + n), .null, .null, .int 0])) := by rw [eL_9_2]; exact List.getElem?_set_self hkl
  have hL : L_9_2.length = (n + 1) := by rw [eL_9_2, List.length_set]; exact hL
  refine lv_aload_n hx hb dX5_init_12 rfl (lv_at hl 0 rfl) ?_
  refine lv_bipush (v := 18) hx hb dX5_init_13 (by decide) ?_
  refine q_newa (atype := .int) X w ac_int rfl (fun _ h => by cases h) 0 rfl (a0 := (18, .inl (fun _ => 0))) (N := 18) (fun _ => rfl) (by decide) (by decide) (by decide) (Nat.le_of_ble_eq_true rfl) (Nat.le_of_ble_eq_true rfl) dX5_init_15 (fun H w => ?_)
  rw [ovl_push hL] at w
  obtain ⟨L_15_3, eL_15_3⟩ : ∃ z, z = (L_9_2 ++ [(.inl (t 0, 18, .inl (fun _ => 0)) : va_E)]) := ⟨_, rfl⟩
  rw [← eL_15_3] at w
  have hk := l_app (e := .inl (t 0, 18, .inl (fun _ => 0))) hk
  rw [← eL_15_3] at hk
  have hL : L_15_3.length = (n + 1 + 1) := by rw [eL_15_3, List.length_append, hL]; rfl
  have hkl := l_lt hk
  refine q_putF X w inX5 tyX5 tyX5_ok nmX5 rfl 1 (by decide) fl_X5_15 rfl hin rfl (k := k) (ovl_at hk) (v := .ref (b + (n + 1))) rfl rfl (Nat.le_of_ble_eq_true rfl) dX5_init_17 (fun H locs w => ?_)
  rw [ovl_set hkl] at w
  obtain ⟨L_17_4, eL_17_4⟩ : ∃ z, z = L_15_3.set k (.inr (9, [.ref (b + n), .ref (b + (n + 1)), .null, .int 0]) : va_E) := ⟨_, rfl⟩
  have w : qW D b (n + 1 + 1) (ovl L_17_4 σ0) s H locs := by rw [eL_17_4]; exact w
  have hk : L_17_4[k]? = some (.inr (9, [.ref (b + n), .ref (b + (n + 1)), .null, .int 0])) := by rw [eL_17_4]; exact List.getElem?_set_self hkl
  have hL : L_17_4.length = (n + 1 + 1) := by rw [eL_17_4, List.length_set]; exact hL
  refine lv_aload_n hx hb dX5_init_20 rfl (lv_at hl 0 rfl) ?_
  refine lv_bipush (v := 18) hx hb dX5_init_21 (by decide) ?_
  refine q_newa (atype := .int) X w ac_int rfl (fun _ h => by cases h) 0 rfl (a0 := (18, .inl (fun _ => 0))) (N := 18) (fun _ => rfl) (by decide) (by decide) (by decide) (Nat.le_of_ble_eq_true rfl) (Nat.le_of_ble_eq_true rfl) dX5_init_23 (fun H w => ?_)
  rw [ovl_push hL] at w
  obtain ⟨L_23_5, eL_23_5⟩ : ∃ z, z = (L_17_4 ++ [(.inl (t 0, 18, .inl (fun _ => 0)) : va_E)]) := ⟨_, rfl⟩
  rw [← eL_23_5] at w
  have hk := l_app (e := .inl (t 0, 18, .inl (fun _ => 0))) hk
  rw [← eL_23_5] at hk
  have hL : L_23_5.length = (n + 1 + 1 + 1) := by rw [eL_23_5, List.length_append, hL]; rfl
  have hkl := l_lt hk
  refine q_putF X w inX5 tyX5 tyX5_ok nmX5 rfl 2 (by decide) fl_X5_18 rfl hin rfl (k := k) (ovl_at hk) (v := .ref (b + (n + 1 + 1))) rfl rfl (Nat.le_of_ble_eq_true rfl) dX5_init_25 (fun H locs w => ?_)
  rw [ovl_set hkl] at w
  obtain ⟨L_25_6, eL_25_6⟩ : ∃ z, z = L_23_5.set k (.inr (9, [.ref (b + n), .ref (b + (n + 1)), .ref (b + (n + 1 + 1)), .int 0]) : va_E) := ⟨_, rfl⟩
  have w : qW D b (n + 1 + 1 + 1) (ovl L_25_6 σ0) s H locs := by rw [eL_25_6]; exact w
  have hk : L_25_6[k]? = some (.inr (9, [.ref (b + n), .ref (b + (n + 1)), .ref (b + (n + 1 + 1)), .int 0])) := by rw [eL_25_6]; exact List.getElem?_set_self hkl
  have hL : L_25_6.length = (n + 1 + 1 + 1) := by rw [eL_25_6, List.length_set]; exact hL
  exact q_vret (post := fun n1 σ1 => n1 = n + 3 ∧ σ1 = ovl ((((((L ++ [(.inl (t 0, 18, .inl (fun _ => 0)) : va_E)]).set k ((.inr (9, [.ref (b + n), .null, .null, .int 0]) : va_E))) ++ [(.inl (t 0, 18, .inl (fun _ => 0)) : va_E)]).set k ((.inr (9, [.ref (b + n), .ref (b + (n + 1)), .null, .int 0]) : va_E))) ++ [(.inl (t 0, 18, .inl (fun _ => 0)) : va_E)]).set k ((.inr (9, [.ref (b + n), .ref (b + (n + 1)), .ref (b + (n + 1 + 1)), .int 0]) : va_E))) σ0) X w dX5_init_28 ⟨rfl, by rw [eL_25_6, eL_23_5, eL_17_4, eL_15_3, eL_9_2, eL_7_1]⟩

set_option maxHeartbeats 2000000 in
set_option maxRecDepth 100000 in
theorem c_X6_init (l : Launch) (D : va_G) (t : Nat → ClassId) (b n : Nat) (σ0 : qM) (L : List va_E) (k : Nat) (hL : L.length = n) (hk : L[k]? = some (.inr (10, [.null, .null, .int 0, .int 0]))) : qVK l yX6_init cX6_init 1 1 2 14 D t b n (ovl L σ0) [.ref (b + k)] (fun n1 σ1 => n1 = n + 2 ∧ σ1 = ovl ((((L ++ [(.inl (t 4, 6, .inr (.inr (.inr (.inr (fun j => ((fun _ => none : Nat → Option Nat) j).map (b + ·)))))) : va_E)]).set k ((.inr (10, [.ref (b + n), .null, .int 0, .int 0]) : va_E))) ++ [(.inl (t 5, 8, .inr (.inr (.inr (.inr (fun j => ((fun _ => none : Nat → Option Nat) j).map (b + ·)))))) : va_E)]).set k ((.inr (10, [.ref (b + n), .ref (b + (n + 1)), .int 0, .int 0]) : va_E))) σ0) := by
  refine qVK.of (by decide +kernel) (Nat.le_of_ble_eq_true rfl) (fun p e s m args below meth c X hE w hin ls hl => ?_)
  have hin := hin rfl
  have hx := X.1
  have hb := X.2.1
  have hkn : k < n := hL ▸ l_lt hk
  have hl : lv_has ls 1 [(0, .ref (b + k))] := hl
  refine lv_aload_n hx hb dX6_init_0 rfl (lv_at hl 0 rfl) ?_
  refine q_obj X oi_X6 hl.1 ⟨Nat.le_of_ble_eq_true rfl, Nat.le_of_ble_eq_true rfl⟩ (Nat.le_of_ble_eq_true rfl) dX6_init_1 ?_
  refine lv_aload_n hx hb dX6_init_4 rfl (lv_at hl 0 rfl) ?_
  refine lv_bipush (v := 6) hx hb dX6_init_5 (by decide) ?_
  refine q_anewa X w cl_X6_9 hE.2.1 4 rfl (N := 6) (by decide) (by decide) (by decide) (Nat.le_of_ble_eq_true rfl) (Nat.le_of_ble_eq_true rfl) dX6_init_7 (fun H w => ?_)
  rw [ovl_push hL] at w
  obtain ⟨L_7_1, eL_7_1⟩ : ∃ z, z = (L ++ [(.inl (t 4, 6, .inr (.inr (.inr (.inr (fun j => ((fun _ => none : Nat → Option Nat) j).map (b + ·)))))) : va_E)]) := ⟨_, rfl⟩
  rw [← eL_7_1] at w
  have hk := l_app (e := .inl (t 4, 6, .inr (.inr (.inr (.inr (fun j => ((fun _ => none : Nat → Option Nat) j).map (b + ·))))))) hk
  rw [← eL_7_1] at hk
  have hL : L_7_1.length = (n + 1) := by rw [eL_7_1, List.length_append, hL]; rfl
  have hkl := l_lt hk
  refine q_putF X w inX6 tyX6 tyX6_ok nmX6 rfl 0 (by decide) fl_X6_11 rfl hin rfl (k := k) (ovl_at hk) (v := .ref (b + n)) rfl rfl (Nat.le_of_ble_eq_true rfl) dX6_init_10 (fun H locs w => ?_)
  rw [ovl_set hkl] at w
  obtain ⟨L_10_2, eL_10_2⟩ : ∃ z, z = L_7_1.set k (.inr (10, [.ref (b + n), .null, .int 0, .int 0]) : va_E) := ⟨_, rfl⟩
  have w : qW D b (n + 1) (ovl L_10_2 σ0) s H locs := by rw [eL_10_2]; exact w
  have hk : L_10_2[k]? = some (.inr (10, [.ref (b + n), .null, .int 0, .int 0])) := by rw [eL_10_2]; exact List.getElem?_set_self hkl
  have hL : L_10_2.length = (n + 1) := by rw [eL_10_2, List.length_set]; exact hL
  refine lv_aload_n hx hb dX6_init_13 rfl (lv_at hl 0 rfl) ?_
  refine lv_bipush (v := 8) hx hb dX6_init_14 (by decide) ?_
  refine q_anewa X w cl_X6_17 hE.2.2.1 5 rfl (N := 8) (by decide) (by decide) (by decide) (Nat.le_of_ble_eq_true rfl) (Nat.le_of_ble_eq_true rfl) dX6_init_16 (fun H w => ?_)
  rw [ovl_push hL] at w
  obtain ⟨L_16_3, eL_16_3⟩ : ∃ z, z = (L_10_2 ++ [(.inl (t 5, 8, .inr (.inr (.inr (.inr (fun j => ((fun _ => none : Nat → Option Nat) j).map (b + ·)))))) : va_E)]) := ⟨_, rfl⟩
  rw [← eL_16_3] at w
  have hk := l_app (e := .inl (t 5, 8, .inr (.inr (.inr (.inr (fun j => ((fun _ => none : Nat → Option Nat) j).map (b + ·))))))) hk
  rw [← eL_16_3] at hk
  have hL : L_16_3.length = (n + 1 + 1) := by rw [eL_16_3, List.length_append, hL]; rfl
  have hkl := l_lt hk
  refine q_putF X w inX6 tyX6 tyX6_ok nmX6 rfl 1 (by decide) fl_X6_19 rfl hin rfl (k := k) (ovl_at hk) (v := .ref (b + (n + 1))) rfl rfl (Nat.le_of_ble_eq_true rfl) dX6_init_19 (fun H locs w => ?_)
  rw [ovl_set hkl] at w
  obtain ⟨L_19_4, eL_19_4⟩ : ∃ z, z = L_16_3.set k (.inr (10, [.ref (b + n), .ref (b + (n + 1)), .int 0, .int 0]) : va_E) := ⟨_, rfl⟩
  have w : qW D b (n + 1 + 1) (ovl L_19_4 σ0) s H locs := by rw [eL_19_4]; exact w
  have hk : L_19_4[k]? = some (.inr (10, [.ref (b + n), .ref (b + (n + 1)), .int 0, .int 0])) := by rw [eL_19_4]; exact List.getElem?_set_self hkl
  have hL : L_19_4.length = (n + 1 + 1) := by rw [eL_19_4, List.length_set]; exact hL
  exact q_vret (post := fun n1 σ1 => n1 = n + 2 ∧ σ1 = ovl ((((L ++ [(.inl (t 4, 6, .inr (.inr (.inr (.inr (fun j => ((fun _ => none : Nat → Option Nat) j).map (b + ·)))))) : va_E)]).set k ((.inr (10, [.ref (b + n), .null, .int 0, .int 0]) : va_E))) ++ [(.inl (t 5, 8, .inr (.inr (.inr (.inr (fun j => ((fun _ => none : Nat → Option Nat) j).map (b + ·)))))) : va_E)]).set k ((.inr (10, [.ref (b + n), .ref (b + (n + 1)), .int 0, .int 0]) : va_E))) σ0) X w dX6_init_22 ⟨rfl, by rw [eL_19_4, eL_16_3, eL_10_2, eL_7_1]⟩

set_option maxHeartbeats 2000000 in
set_option maxRecDepth 100000 in
theorem c_X3_init (l : Launch) (D : va_G) (t : Nat → ClassId) (b n : Nat) (σ0 : qM) (L : List va_E) (k : Nat) (hL : L.length = n) (hk : L[k]? = some (.inr (7, [.null, .int 0]))) : qVK l yX3_init cX3_init 2 2 19 114 D t b n (ovl L σ0) [.ref (b + k)] (fun n1 σ1 => n1 = n + 19 ∧ σ1 = ovl ((((((((((((((((((((((((((((((((((((((L ++ [(.inl (t 6, 6, .inr (.inr (.inr (.inr (fun j => ((fun _ => none : Nat → Option Nat) j).map (b + ·)))))) : va_E)]).set k ((.inr (7, [.ref (b + n), .int 0]) : va_E))) ++ [(.inr (10, [.null, .null, .int 0, .int 0]) : va_E)]) ++ [(.inl (t 4, 6, .inr (.inr (.inr (.inr (fun j => ((fun _ => none : Nat → Option Nat) j).map (b + ·)))))) : va_E)]).set (n + 1) ((.inr (10, [.ref (b + (n + 1 + 1)), .null, .int 0, .int 0]) : va_E))) ++ [(.inl (t 5, 8, .inr (.inr (.inr (.inr (fun j => ((fun _ => none : Nat → Option Nat) j).map (b + ·)))))) : va_E)]).set (n + 1) ((.inr (10, [.ref (b + (n + 1 + 1)), .ref (b + ((n + 1 + 1) + 1)), .int 0, .int 0]) : va_E))).set n (.inl (t 6, 6, .inr (.inr (.inr (.inr (fun j => ((va_up (fun _ => none : Nat → Option Nat) 0 (some (n + 1))) j).map (b + ·)))))) : va_E)) ++ [(.inr (10, [.null, .null, .int 0, .int 0]) : va_E)]) ++ [(.inl (t 4, 6, .inr (.inr (.inr (.inr (fun j => ((fun _ => none : Nat → Option Nat) j).map (b + ·)))))) : va_E)]).set (n + 1 + 1 + 1 + 1) ((.inr (10, [.ref (b + (n + 1 + 1 + 1 + 1 + 1)), .null, .int 0, .int 0]) : va_E))) ++ [(.inl (t 5, 8, .inr (.inr (.inr (.inr (fun j => ((fun _ => none : Nat → Option Nat) j).map (b + ·)))))) : va_E)]).set (n + 1 + 1 + 1 + 1) ((.inr (10, [.ref (b + (n + 1 + 1 + 1 + 1 + 1)), .ref (b + ((n + 1 + 1 + 1 + 1 + 1) + 1)), .int 0, .int 0]) : va_E))).set n (.inl (t 6, 6, .inr (.inr (.inr (.inr (fun j => ((va_up (va_up (fun _ => none : Nat → Option Nat) 0 (some (n + 1))) 1 (some (n + 1 + 1 + 1 + 1))) j).map (b + ·)))))) : va_E)) ++ [(.inr (10, [.null, .null, .int 0, .int 0]) : va_E)]) ++ [(.inl (t 4, 6, .inr (.inr (.inr (.inr (fun j => ((fun _ => none : Nat → Option Nat) j).map (b + ·)))))) : va_E)]).set (n + 1 + 1 + 1 + 1 + 1 + 1 + 1) ((.inr (10, [.ref (b + (n + 1 + 1 + 1 + 1 + 1 + 1 + 1 + 1)), .null, .int 0, .int 0]) : va_E))) ++ [(.inl (t 5, 8, .inr (.inr (.inr (.inr (fun j => ((fun _ => none : Nat → Option Nat) j).map (b + ·)))))) : va_E)]).set (n + 1 + 1 + 1 + 1 + 1 + 1 + 1) ((.inr (10, [.ref (b + (n + 1 + 1 + 1 + 1 + 1 + 1 + 1 + 1)), .ref (b + ((n + 1 + 1 + 1 + 1 + 1 + 1 + 1 + 1) + 1)), .int 0, .int 0]) : va_E))).set n (.inl (t 6, 6, .inr (.inr (.inr (.inr (fun j => ((va_up (va_up (va_up (fun _ => none : Nat → Option Nat) 0 (some (n + 1))) 1 (some (n + 1 + 1 + 1 + 1))) 2 (some (n + 1 + 1 + 1 + 1 + 1 + 1 + 1))) j).map (b + ·)))))) : va_E)) ++ [(.inr (10, [.null, .null, .int 0, .int 0]) : va_E)]) ++ [(.inl (t 4, 6, .inr (.inr (.inr (.inr (fun j => ((fun _ => none : Nat → Option Nat) j).map (b + ·)))))) : va_E)]).set (n + 1 + 1 + 1 + 1 + 1 + 1 + 1 + 1 + 1 + 1) ((.inr (10, [.ref (b + (n + 1 + 1 + 1 + 1 + 1 + 1 + 1 + 1 + 1 + 1 + 1)), .null, .int 0, .int 0]) : va_E))) ++ [(.inl (t 5, 8, .inr (.inr (.inr (.inr (fun j => ((fun _ => none : Nat → Option Nat) j).map (b + ·)))))) : va_E)]).set (n + 1 + 1 + 1 + 1 + 1 + 1 + 1 + 1 + 1 + 1) ((.inr (10, [.ref (b + (n + 1 + 1 + 1 + 1 + 1 + 1 + 1 + 1 + 1 + 1 + 1)), .ref (b + ((n + 1 + 1 + 1 + 1 + 1 + 1 + 1 + 1 + 1 + 1 + 1) + 1)), .int 0, .int 0]) : va_E))).set n (.inl (t 6, 6, .inr (.inr (.inr (.inr (fun j => ((va_up (va_up (va_up (va_up (fun _ => none : Nat → Option Nat) 0 (some (n + 1))) 1 (some (n + 1 + 1 + 1 + 1))) 2 (some (n + 1 + 1 + 1 + 1 + 1 + 1 + 1))) 3 (some (n + 1 + 1 + 1 + 1 + 1 + 1 + 1 + 1 + 1 + 1))) j).map (b + ·)))))) : va_E)) ++ [(.inr (10, [.null, .null, .int 0, .int 0]) : va_E)]) ++ [(.inl (t 4, 6, .inr (.inr (.inr (.inr (fun j => ((fun _ => none : Nat → Option Nat) j).map (b + ·)))))) : va_E)]).set (n + 1 + 1 + 1 + 1 + 1 + 1 + 1 + 1 + 1 + 1 + 1 + 1 + 1) ((.inr (10, [.ref (b + (n + 1 + 1 + 1 + 1 + 1 + 1 + 1 + 1 + 1 + 1 + 1 + 1 + 1 + 1)), .null, .int 0, .int 0]) : va_E))) ++ [(.inl (t 5, 8, .inr (.inr (.inr (.inr (fun j => ((fun _ => none : Nat → Option Nat) j).map (b + ·)))))) : va_E)]).set (n + 1 + 1 + 1 + 1 + 1 + 1 + 1 + 1 + 1 + 1 + 1 + 1 + 1) ((.inr (10, [.ref (b + (n + 1 + 1 + 1 + 1 + 1 + 1 + 1 + 1 + 1 + 1 + 1 + 1 + 1 + 1)), .ref (b + ((n + 1 + 1 + 1 + 1 + 1 + 1 + 1 + 1 + 1 + 1 + 1 + 1 + 1 + 1) + 1)), .int 0, .int 0]) : va_E))).set n (.inl (t 6, 6, .inr (.inr (.inr (.inr (fun j => ((va_up (va_up (va_up (va_up (va_up (fun _ => none : Nat → Option Nat) 0 (some (n + 1))) 1 (some (n + 1 + 1 + 1 + 1))) 2 (some (n + 1 + 1 + 1 + 1 + 1 + 1 + 1))) 3 (some (n + 1 + 1 + 1 + 1 + 1 + 1 + 1 + 1 + 1 + 1))) 4 (some (n + 1 + 1 + 1 + 1 + 1 + 1 + 1 + 1 + 1 + 1 + 1 + 1 + 1))) j).map (b + ·)))))) : va_E)) ++ [(.inr (10, [.null, .null, .int 0, .int 0]) : va_E)]) ++ [(.inl (t 4, 6, .inr (.inr (.inr (.inr (fun j => ((fun _ => none : Nat → Option Nat) j).map (b + ·)))))) : va_E)]).set (n + 1 + 1 + 1 + 1 + 1 + 1 + 1 + 1 + 1 + 1 + 1 + 1 + 1 + 1 + 1 + 1) ((.inr (10, [.ref (b + (n + 1 + 1 + 1 + 1 + 1 + 1 + 1 + 1 + 1 + 1 + 1 + 1 + 1 + 1 + 1 + 1 + 1)), .null, .int 0, .int 0]) : va_E))) ++ [(.inl (t 5, 8, .inr (.inr (.inr (.inr (fun j => ((fun _ => none : Nat → Option Nat) j).map (b + ·)))))) : va_E)]).set (n + 1 + 1 + 1 + 1 + 1 + 1 + 1 + 1 + 1 + 1 + 1 + 1 + 1 + 1 + 1 + 1) ((.inr (10, [.ref (b + (n + 1 + 1 + 1 + 1 + 1 + 1 + 1 + 1 + 1 + 1 + 1 + 1 + 1 + 1 + 1 + 1 + 1)), .ref (b + ((n + 1 + 1 + 1 + 1 + 1 + 1 + 1 + 1 + 1 + 1 + 1 + 1 + 1 + 1 + 1 + 1 + 1) + 1)), .int 0, .int 0]) : va_E))).set n (.inl (t 6, 6, .inr (.inr (.inr (.inr (fun j => ((va_up (va_up (va_up (va_up (va_up (va_up (fun _ => none : Nat → Option Nat) 0 (some (n + 1))) 1 (some (n + 1 + 1 + 1 + 1))) 2 (some (n + 1 + 1 + 1 + 1 + 1 + 1 + 1))) 3 (some (n + 1 + 1 + 1 + 1 + 1 + 1 + 1 + 1 + 1 + 1))) 4 (some (n + 1 + 1 + 1 + 1 + 1 + 1 + 1 + 1 + 1 + 1 + 1 + 1 + 1))) 5 (some (n + 1 + 1 + 1 + 1 + 1 + 1 + 1 + 1 + 1 + 1 + 1 + 1 + 1 + 1 + 1 + 1))) j).map (b + ·)))))) : va_E)) σ0) := by
  refine qVK.of (by decide +kernel) (Nat.le_of_ble_eq_true rfl) (fun p e s m args below meth c X hE w hin ls hl => ?_)
  have hin := hin rfl
  have hx := X.1
  have hb := X.2.1
  have hkn : k < n := hL ▸ l_lt hk
  have hl : lv_has ls 2 [(0, .ref (b + k))] := hl
  have hq1 : ∀ j : Nat, n + (j + 1) ≠ k := fun j => by omega
  have hq2 : ∀ j : Nat, n + (j + 1) ≠ n := fun j => by omega
  have hnk : n ≠ k := by omega
  refine lv_aload_n hx hb dX3_init_0 rfl (lv_at hl 0 rfl) ?_
  refine q_obj X oi_X3 hl.1 ⟨Nat.le_of_ble_eq_true rfl, Nat.le_of_ble_eq_true rfl⟩ (Nat.le_of_ble_eq_true rfl) dX3_init_1 ?_
  refine lv_aload_n hx hb dX3_init_4 rfl (lv_at hl 0 rfl) ?_
  refine lv_bipush (v := 6) hx hb dX3_init_5 (by decide) ?_
  refine q_anewa X w cl_X3_9 hE.2.2.2 6 rfl (N := 6) (by decide) (by decide) (by decide) (Nat.le_of_ble_eq_true rfl) (Nat.le_of_ble_eq_true rfl) dX3_init_7 (fun H w => ?_)
  rw [ovl_push hL] at w
  obtain ⟨L_7_1, eL_7_1⟩ : ∃ z, z = (L ++ [(.inl (t 6, 6, .inr (.inr (.inr (.inr (fun j => ((fun _ => none : Nat → Option Nat) j).map (b + ·)))))) : va_E)]) := ⟨_, rfl⟩
  rw [← eL_7_1] at w
  have hk := l_app (e := .inl (t 6, 6, .inr (.inr (.inr (.inr (fun j => ((fun _ => none : Nat → Option Nat) j).map (b + ·))))))) hk
  rw [← eL_7_1] at hk
  have hA := l_new (e := .inl (t 6, 6, .inr (.inr (.inr (.inr (fun j => ((fun _ => none : Nat → Option Nat) j).map (b + ·))))))) hL
  rw [← eL_7_1] at hA
  have hL : L_7_1.length = (n + 1) := by rw [eL_7_1, List.length_append, hL]; rfl
  have hkl := l_lt hk
  refine q_putF X w inX3 tyX3 tyX3_ok nmX3 rfl 0 (by decide) fl_X3_11 rfl hin rfl (k := k) (ovl_at hk) (v := .ref (b + n)) rfl rfl (Nat.le_of_ble_eq_true rfl) dX3_init_10 (fun H locs w => ?_)
  rw [ovl_set hkl] at w
  obtain ⟨L_10_2, eL_10_2⟩ : ∃ z, z = L_7_1.set k (.inr (7, [.ref (b + n), .int 0]) : va_E) := ⟨_, rfl⟩
  have w : qW D b (n + 1) (ovl L_10_2 σ0) s H locs := by rw [eL_10_2]; exact w
  have hA := l_ne (k := k) (e := .inr (7, [.ref (b + n), .int 0])) hA (by omega)
  rw [← eL_10_2] at hA
  have hk : L_10_2[k]? = some (.inr (7, [.ref (b + n), .int 0])) := by rw [eL_10_2]; exact List.getElem?_set_self hkl
  have hL : L_10_2.length = (n + 1) := by rw [eL_10_2, List.length_set]; exact hL
  refine lv_iconst (v := 0) hx hb dX3_init_13 (by decide) ?_
  refine lv_istore_n (lv' := [(1, .int 0), (0, .ref (b + k))]) hx hb dX3_init_14 rfl hl (by decide) rfl (fun ls hl => ?_)
  refine lv_iload_n hx hb dX3_init_15 rfl (lv_at hl 0 rfl) ?_
  refine lv_aload_n hx hb dX3_init_16 rfl (lv_at hl 1 rfl) ?_
  refine q_get X w inX3 rfl 0 (by decide) fl_X3_11 (k := k) (ovl_at hk) rfl dX3_init_17 ?_
  refine q_alen X w 6 rfl (k := n) (ovl_at hA) dX3_init_20 ?_
  refine q_topE (y := 6) rfl ?_
  refine lv_icmp_ge (tgt := 43) hx hb dX3_init_21 (by decide) (fun c_21 => ?_) (fun c_21 => ?_)
  · skip
    have k_21 : 6 ≤ (0 : Int) := (g_le (show (6 : Int32).toInt = 6 from rfl) (show (0 : Int32).toInt = 0 from rfl)).mp c_21
    omega
  · skip
    have k_21 : ¬ (6 ≤ (0 : Int)) := fun h => c_21 ((g_le (show (6 : Int32).toInt = 6 from rfl) (show (0 : Int32).toInt = 0 from rfl)).mpr h)
    refine lv_aload_n hx hb dX3_init_24 rfl (lv_at hl 1 rfl) ?_
    refine q_get X w inX3 rfl 0 (by decide) fl_X3_11 (k := k) (ovl_at hk) rfl dX3_init_25 ?_
    refine lv_iload_n hx hb dX3_init_28 rfl (lv_at hl 0 rfl) ?_
    refine q_new (ci := 10) X w inX6 tyX6 tyX6_ok cl_X3_9 is_X6 ini_X6 rfl (fs := [.null, .null, .int 0, .int 0]) (fun j hj => by match j, hj with | 0, _ => rfl | 1, _ => rfl | 2, _ => rfl | 3, _ => rfl | j + 4, hj => exact absurd hj (by omega)) (Nat.le_of_ble_eq_true rfl) (Nat.le_of_ble_eq_true rfl) dX3_init_29 (fun H w => ?_)
    rw [ovl_push hL] at w
    obtain ⟨L_29_3, eL_29_3⟩ : ∃ z, z = (L_10_2 ++ [(.inr (10, [.null, .null, .int 0, .int 0]) : va_E)]) := ⟨_, rfl⟩
    rw [← eL_29_3] at w
    have hk := l_app (e := .inr (10, [.null, .null, .int 0, .int 0])) hk
    rw [← eL_29_3] at hk
    have hA := l_app (e := .inr (10, [.null, .null, .int 0, .int 0])) hA
    rw [← eL_29_3] at hA
    have hN := l_new (e := .inr (10, [.null, .null, .int 0, .int 0])) hL
    rw [← eL_29_3] at hN
    have hL : L_29_3.length = (n + 1 + 1) := by rw [eL_29_3, List.length_append, hL]; rfl
    refine lv_dup hx hb dX3_init_32 rfl ?_
    refine q_cVINK X hE w (c_X6_init l D t b (n + 1 + 1) σ0 L_29_3 (n + 1) hL hN) nw_X3_17 rfl ⟨Nat.le_of_ble_eq_true rfl, Nat.le_of_ble_eq_true rfl⟩ rfl hl.1 (Nat.le_of_ble_eq_true rfl) dX3_init_33 ⟨Nat.le_of_ble_eq_true rfl, Nat.le_of_ble_eq_true rfl⟩ (fun n_33 σ_33 H locs z_33 w => ?_)
    rw [z_33.1, z_33.2] at w
    have hk := l_ne (k := (n + 1)) (e := (.inr (10, [.ref (b + (n + 1 + 1)), .ref (b + ((n + 1 + 1) + 1)), .int 0, .int 0]) : va_E)) (l_app (e := (.inl (t 5, 8, .inr (.inr (.inr (.inr (fun j => ((fun _ => none : Nat → Option Nat) j).map (b + ·)))))) : va_E)) (l_ne (k := (n + 1)) (e := (.inr (10, [.ref (b + (n + 1 + 1)), .null, .int 0, .int 0]) : va_E)) (l_app (e := (.inl (t 4, 6, .inr (.inr (.inr (.inr (fun j => ((fun _ => none : Nat → Option Nat) j).map (b + ·)))))) : va_E)) hk) (hq1 0))) (hq1 0)
    have hA := l_ne (k := (n + 1)) (e := (.inr (10, [.ref (b + (n + 1 + 1)), .ref (b + ((n + 1 + 1) + 1)), .int 0, .int 0]) : va_E)) (l_app (e := (.inl (t 5, 8, .inr (.inr (.inr (.inr (fun j => ((fun _ => none : Nat → Option Nat) j).map (b + ·)))))) : va_E)) (l_ne (k := (n + 1)) (e := (.inr (10, [.ref (b + (n + 1 + 1)), .null, .int 0, .int 0]) : va_E)) (l_app (e := (.inl (t 4, 6, .inr (.inr (.inr (.inr (fun j => ((fun _ => none : Nat → Option Nat) j).map (b + ·)))))) : va_E)) hA) (hq2 0))) (hq2 0)
    have hN := List.getElem?_set_self (l_lt (l_app (e := (.inl (t 5, 8, .inr (.inr (.inr (.inr (fun j => ((fun _ => none : Nat → Option Nat) j).map (b + ·)))))) : va_E)) (List.getElem?_set_self (l_lt (l_app (e := (.inl (t 4, 6, .inr (.inr (.inr (.inr (fun j => ((fun _ => none : Nat → Option Nat) j).map (b + ·)))))) : va_E)) hN)) (a := (.inr (10, [.ref (b + (n + 1 + 1)), .null, .int 0, .int 0]) : va_E))))) (a := (.inr (10, [.ref (b + (n + 1 + 1)), .ref (b + ((n + 1 + 1) + 1)), .int 0, .int 0]) : va_E))
    obtain ⟨L_33_4, eL_33_4⟩ : ∃ z, z = ((((L_29_3 ++ [(.inl (t 4, 6, .inr (.inr (.inr (.inr (fun j => ((fun _ => none : Nat → Option Nat) j).map (b + ·)))))) : va_E)]).set (n + 1) ((.inr (10, [.ref (b + (n + 1 + 1)), .null, .int 0, .int 0]) : va_E))) ++ [(.inl (t 5, 8, .inr (.inr (.inr (.inr (fun j => ((fun _ => none : Nat → Option Nat) j).map (b + ·)))))) : va_E)]).set (n + 1) ((.inr (10, [.ref (b + (n + 1 + 1)), .ref (b + ((n + 1 + 1) + 1)), .int 0, .int 0]) : va_E))) := ⟨_, rfl⟩
    rw [← eL_33_4] at w hk hA hN
    have hL : L_33_4.length = (n + 1 + 1) + 2 := by rw [eL_33_4, List.length_set, List.length_append, List.length_set, List.length_append, hL]; rfl
    have hL : L_33_4.length = (n + 1 + 1 + 1 + 1) := hL
    have w : qW D b (n + 1 + 1 + 1 + 1) (ovl L_33_4 σ0) s H locs := w
    refine q_aast X w 6 rfl (k := n) (ovl_at hA) (g_in (show (0 : Int32).toInt = 0 from rfl) (by omega)) (v := (n + 1)) (ovl_at hN) rfl dX3_init_36 (fun H locs w => ?_)
    rw [g_tn (show (0 : Int32).toInt = 0 from (show (0 : Int32).toInt = (0 : Int) from (show (0 : Int32).toInt = 0 from rfl)).trans (by omega))] at w
    rw [ovl_set (l_lt hA)] at w
    have hAl := l_lt hA
    obtain ⟨L_36_5, eL_36_5⟩ : ∃ z, z = L_33_4.set n (.inl (t 6, 6, .inr (.inr (.inr (.inr (fun j => ((va_up (fun _ => none : Nat → Option Nat) 0 (some (n + 1))) j).map (b + ·)))))) : va_E) := ⟨_, rfl⟩
    have w : qW D b (n + 1 + 1 + 1 + 1) (ovl L_36_5 σ0) s H locs := by rw [eL_36_5]; exact w
    have hk := l_ne (k := n) (e := .inl (t 6, 6, .inr (.inr (.inr (.inr (fun j => ((va_up (fun _ => none : Nat → Option Nat) 0 (some (n + 1))) j).map (b + ·))))))) hk hnk
    rw [← eL_36_5] at hk
    have hA : L_36_5[n]? = some (.inl (t 6, 6, .inr (.inr (.inr (.inr (fun j => ((va_up (fun _ => none : Nat → Option Nat) 0 (some (n + 1))) j).map (b + ·))))))) := by rw [eL_36_5]; exact List.getElem?_set_self hAl
    have hL : L_36_5.length = (n + 1 + 1 + 1 + 1) := by rw [eL_36_5, List.length_set]; exact hL
    obtain ⟨x_37, e_37⟩ : ∃ z : Int32, z = (0 + 1) := ⟨_, rfl⟩
    have p_37 : x_37.toInt = ((0 : Int) + 1) := by rw [e_37]; exact t_add (show (0 : Int32).toInt = 0 from rfl) (show (1 : Int32).toInt = 1 from rfl) (by omega) (by omega)
    refine lv_iinc (v := x_37) (lv' := [(1, .int x_37), (0, .ref (b + k))]) hx hb dX3_init_37 hl (k := 0) rfl (by rw [e_37]; rfl) (by decide) rfl (fun ls hl => ?_)
    refine lv_goto (tgt := 15) hx hb dX3_init_40 (by decide) ?_
    refine lv_iload_n hx hb dX3_init_15 rfl (lv_at hl 0 rfl) ?_
    refine lv_aload_n hx hb dX3_init_16 rfl (lv_at hl 1 rfl) ?_
    refine q_get X w inX3 rfl 0 (by decide) fl_X3_11 (k := k) (ovl_at hk) rfl dX3_init_17 ?_
    refine q_alen X w 6 rfl (k := n) (ovl_at hA) dX3_init_20 ?_
    refine q_topE (y := 6) rfl ?_
    refine lv_icmp_ge (tgt := 43) hx hb dX3_init_21 (by decide) (fun c_21 => ?_) (fun c_21 => ?_)
    · skip
      have k_21 : 6 ≤ ((0 : Int) + 1) := (g_le (show (6 : Int32).toInt = 6 from rfl) p_37).mp c_21
      omega
    · skip
      have k_21 : ¬ (6 ≤ ((0 : Int) + 1)) := fun h => c_21 ((g_le (show (6 : Int32).toInt = 6 from rfl) p_37).mpr h)
      refine lv_aload_n hx hb dX3_init_24 rfl (lv_at hl 1 rfl) ?_
      refine q_get X w inX3 rfl 0 (by decide) fl_X3_11 (k := k) (ovl_at hk) rfl dX3_init_25 ?_
      refine lv_iload_n hx hb dX3_init_28 rfl (lv_at hl 0 rfl) ?_
      refine q_new (ci := 10) X w inX6 tyX6 tyX6_ok cl_X3_9 is_X6 ini_X6 rfl (fs := [.null, .null, .int 0, .int 0]) (fun j hj => by match j, hj with | 0, _ => rfl | 1, _ => rfl | 2, _ => rfl | 3, _ => rfl | j + 4, hj => exact absurd hj (by omega)) (Nat.le_of_ble_eq_true rfl) (Nat.le_of_ble_eq_true rfl) dX3_init_29 (fun H w => ?_)
      rw [ovl_push hL] at w
      obtain ⟨L_29_6, eL_29_6⟩ : ∃ z, z = (L_36_5 ++ [(.inr (10, [.null, .null, .int 0, .int 0]) : va_E)]) := ⟨_, rfl⟩
      rw [← eL_29_6] at w
      have hk := l_app (e := .inr (10, [.null, .null, .int 0, .int 0])) hk
      rw [← eL_29_6] at hk
      have hA := l_app (e := .inr (10, [.null, .null, .int 0, .int 0])) hA
      rw [← eL_29_6] at hA
      have hN := l_new (e := .inr (10, [.null, .null, .int 0, .int 0])) hL
      rw [← eL_29_6] at hN
      have hL : L_29_6.length = (n + 1 + 1 + 1 + 1 + 1) := by rw [eL_29_6, List.length_append, hL]; rfl
      refine lv_dup hx hb dX3_init_32 rfl ?_
      refine q_cVINK X hE w (c_X6_init l D t b (n + 1 + 1 + 1 + 1 + 1) σ0 L_29_6 (n + 1 + 1 + 1 + 1) hL hN) nw_X3_17 rfl ⟨Nat.le_of_ble_eq_true rfl, Nat.le_of_ble_eq_true rfl⟩ rfl hl.1 (Nat.le_of_ble_eq_true rfl) dX3_init_33 ⟨Nat.le_of_ble_eq_true rfl, Nat.le_of_ble_eq_true rfl⟩ (fun n_33 σ_33 H locs z_33 w => ?_)
      rw [z_33.1, z_33.2] at w
      have hk := l_ne (k := (n + 1 + 1 + 1 + 1)) (e := (.inr (10, [.ref (b + (n + 1 + 1 + 1 + 1 + 1)), .ref (b + ((n + 1 + 1 + 1 + 1 + 1) + 1)), .int 0, .int 0]) : va_E)) (l_app (e := (.inl (t 5, 8, .inr (.inr (.inr (.inr (fun j => ((fun _ => none : Nat → Option Nat) j).map (b + ·)))))) : va_E)) (l_ne (k := (n + 1 + 1 + 1 + 1)) (e := (.inr (10, [.ref (b + (n + 1 + 1 + 1 + 1 + 1)), .null, .int 0, .int 0]) : va_E)) (l_app (e := (.inl (t 4, 6, .inr (.inr (.inr (.inr (fun j => ((fun _ => none : Nat → Option Nat) j).map (b + ·)))))) : va_E)) hk) (hq1 3))) (hq1 3)
      have hA := l_ne (k := (n + 1 + 1 + 1 + 1)) (e := (.inr (10, [.ref (b + (n + 1 + 1 + 1 + 1 + 1)), .ref (b + ((n + 1 + 1 + 1 + 1 + 1) + 1)), .int 0, .int 0]) : va_E)) (l_app (e := (.inl (t 5, 8, .inr (.inr (.inr (.inr (fun j => ((fun _ => none : Nat → Option Nat) j).map (b + ·)))))) : va_E)) (l_ne (k := (n + 1 + 1 + 1 + 1)) (e := (.inr (10, [.ref (b + (n + 1 + 1 + 1 + 1 + 1)), .null, .int 0, .int 0]) : va_E)) (l_app (e := (.inl (t 4, 6, .inr (.inr (.inr (.inr (fun j => ((fun _ => none : Nat → Option Nat) j).map (b + ·)))))) : va_E)) hA) (hq2 3))) (hq2 3)
      have hN := List.getElem?_set_self (l_lt (l_app (e := (.inl (t 5, 8, .inr (.inr (.inr (.inr (fun j => ((fun _ => none : Nat → Option Nat) j).map (b + ·)))))) : va_E)) (List.getElem?_set_self (l_lt (l_app (e := (.inl (t 4, 6, .inr (.inr (.inr (.inr (fun j => ((fun _ => none : Nat → Option Nat) j).map (b + ·)))))) : va_E)) hN)) (a := (.inr (10, [.ref (b + (n + 1 + 1 + 1 + 1 + 1)), .null, .int 0, .int 0]) : va_E))))) (a := (.inr (10, [.ref (b + (n + 1 + 1 + 1 + 1 + 1)), .ref (b + ((n + 1 + 1 + 1 + 1 + 1) + 1)), .int 0, .int 0]) : va_E))
      obtain ⟨L_33_7, eL_33_7⟩ : ∃ z, z = ((((L_29_6 ++ [(.inl (t 4, 6, .inr (.inr (.inr (.inr (fun j => ((fun _ => none : Nat → Option Nat) j).map (b + ·)))))) : va_E)]).set (n + 1 + 1 + 1 + 1) ((.inr (10, [.ref (b + (n + 1 + 1 + 1 + 1 + 1)), .null, .int 0, .int 0]) : va_E))) ++ [(.inl (t 5, 8, .inr (.inr (.inr (.inr (fun j => ((fun _ => none : Nat → Option Nat) j).map (b + ·)))))) : va_E)]).set (n + 1 + 1 + 1 + 1) ((.inr (10, [.ref (b + (n + 1 + 1 + 1 + 1 + 1)), .ref (b + ((n + 1 + 1 + 1 + 1 + 1) + 1)), .int 0, .int 0]) : va_E))) := ⟨_, rfl⟩
      rw [← eL_33_7] at w hk hA hN
      have hL : L_33_7.length = (n + 1 + 1 + 1 + 1 + 1) + 2 := by rw [eL_33_7, List.length_set, List.length_append, List.length_set, List.length_append, hL]; rfl
      have hL : L_33_7.length = (n + 1 + 1 + 1 + 1 + 1 + 1 + 1) := hL
      have w : qW D b (n + 1 + 1 + 1 + 1 + 1 + 1 + 1) (ovl L_33_7 σ0) s H locs := w
      refine q_aast X w 6 rfl (k := n) (ovl_at hA) (g_in p_37 (by omega)) (v := (n + 1 + 1 + 1 + 1)) (ovl_at hN) rfl dX3_init_36 (fun H locs w => ?_)
      rw [g_tn (show (x_37 : Int32).toInt = 1 from (show (x_37 : Int32).toInt = ((0 : Int) + 1) from p_37).trans (by omega))] at w
      rw [ovl_set (l_lt hA)] at w
      have hAl := l_lt hA
      obtain ⟨L_36_8, eL_36_8⟩ : ∃ z, z = L_33_7.set n (.inl (t 6, 6, .inr (.inr (.inr (.inr (fun j => ((va_up (va_up (fun _ => none : Nat → Option Nat) 0 (some (n + 1))) 1 (some (n + 1 + 1 + 1 + 1))) j).map (b + ·)))))) : va_E) := ⟨_, rfl⟩
      have w : qW D b (n + 1 + 1 + 1 + 1 + 1 + 1 + 1) (ovl L_36_8 σ0) s H locs := by rw [eL_36_8]; exact w
      have hk := l_ne (k := n) (e := .inl (t 6, 6, .inr (.inr (.inr (.inr (fun j => ((va_up (va_up (fun _ => none : Nat → Option Nat) 0 (some (n + 1))) 1 (some (n + 1 + 1 + 1 + 1))) j).map (b + ·))))))) hk hnk
      rw [← eL_36_8] at hk
      have hA : L_36_8[n]? = some (.inl (t 6, 6, .inr (.inr (.inr (.inr (fun j => ((va_up (va_up (fun _ => none : Nat → Option Nat) 0 (some (n + 1))) 1 (some (n + 1 + 1 + 1 + 1))) j).map (b + ·))))))) := by rw [eL_36_8]; exact List.getElem?_set_self hAl
      have hL : L_36_8.length = (n + 1 + 1 + 1 + 1 + 1 + 1 + 1) := by rw [eL_36_8, List.length_set]; exact hL
      obtain ⟨x_37, e_37⟩ : ∃ z : Int32, z = (x_37 + 1) := ⟨_, rfl⟩
      have p_37 : x_37.toInt = (((0 : Int) + 1) + 1) := by rw [e_37]; exact t_add p_37 (show (1 : Int32).toInt = 1 from rfl) (by omega) (by omega)
      refine lv_iinc (v := x_37) (lv' := [(1, .int x_37), (0, .ref (b + k))]) hx hb dX3_init_37 hl (k := 0) rfl (by rw [e_37]; rfl) (by decide) rfl (fun ls hl => ?_)
      refine lv_goto (tgt := 15) hx hb dX3_init_40 (by decide) ?_
      refine lv_iload_n hx hb dX3_init_15 rfl (lv_at hl 0 rfl) ?_
      refine lv_aload_n hx hb dX3_init_16 rfl (lv_at hl 1 rfl) ?_
      refine q_get X w inX3 rfl 0 (by decide) fl_X3_11 (k := k) (ovl_at hk) rfl dX3_init_17 ?_
      refine q_alen X w 6 rfl (k := n) (ovl_at hA) dX3_init_20 ?_
      refine q_topE (y := 6) rfl ?_
      refine lv_icmp_ge (tgt := 43) hx hb dX3_init_21 (by decide) (fun c_21 => ?_) (fun c_21 => ?_)
      · skip
        have k_21 : 6 ≤ (((0 : Int) + 1) + 1) := (g_le (show (6 : Int32).toInt = 6 from rfl) p_37).mp c_21
        omega
      · skip
        have k_21 : ¬ (6 ≤ (((0 : Int) + 1) + 1)) := fun h => c_21 ((g_le (show (6 : Int32).toInt = 6 from rfl) p_37).mpr h)
        refine lv_aload_n hx hb dX3_init_24 rfl (lv_at hl 1 rfl) ?_
        refine q_get X w inX3 rfl 0 (by decide) fl_X3_11 (k := k) (ovl_at hk) rfl dX3_init_25 ?_
        refine lv_iload_n hx hb dX3_init_28 rfl (lv_at hl 0 rfl) ?_
        refine q_new (ci := 10) X w inX6 tyX6 tyX6_ok cl_X3_9 is_X6 ini_X6 rfl (fs := [.null, .null, .int 0, .int 0]) (fun j hj => by match j, hj with | 0, _ => rfl | 1, _ => rfl | 2, _ => rfl | 3, _ => rfl | j + 4, hj => exact absurd hj (by omega)) (Nat.le_of_ble_eq_true rfl) (Nat.le_of_ble_eq_true rfl) dX3_init_29 (fun H w => ?_)
        rw [ovl_push hL] at w
        obtain ⟨L_29_9, eL_29_9⟩ : ∃ z, z = (L_36_8 ++ [(.inr (10, [.null, .null, .int 0, .int 0]) : va_E)]) := ⟨_, rfl⟩
        rw [← eL_29_9] at w
        have hk := l_app (e := .inr (10, [.null, .null, .int 0, .int 0])) hk
        rw [← eL_29_9] at hk
        have hA := l_app (e := .inr (10, [.null, .null, .int 0, .int 0])) hA
        rw [← eL_29_9] at hA
        have hN := l_new (e := .inr (10, [.null, .null, .int 0, .int 0])) hL
        rw [← eL_29_9] at hN
        have hL : L_29_9.length = (n + 1 + 1 + 1 + 1 + 1 + 1 + 1 + 1) := by rw [eL_29_9, List.length_append, hL]; rfl
        refine lv_dup hx hb dX3_init_32 rfl ?_
        refine q_cVINK X hE w (c_X6_init l D t b (n + 1 + 1 + 1 + 1 + 1 + 1 + 1 + 1) σ0 L_29_9 (n + 1 + 1 + 1 + 1 + 1 + 1 + 1) hL hN) nw_X3_17 rfl ⟨Nat.le_of_ble_eq_true rfl, Nat.le_of_ble_eq_true rfl⟩ rfl hl.1 (Nat.le_of_ble_eq_true rfl) dX3_init_33 ⟨Nat.le_of_ble_eq_true rfl, Nat.le_of_ble_eq_true rfl⟩ (fun n_33 σ_33 H locs z_33 w => ?_)
        rw [z_33.1, z_33.2] at w
        have hk := l_ne (k := (n + 1 + 1 + 1 + 1 + 1 + 1 + 1)) (e := (.inr (10, [.ref (b + (n + 1 + 1 + 1 + 1 + 1 + 1 + 1 + 1)), .ref (b + ((n + 1 + 1 + 1 + 1 + 1 + 1 + 1 + 1) + 1)), .int 0, .int 0]) : va_E)) (l_app (e := (.inl (t 5, 8, .inr (.inr (.inr (.inr (fun j => ((fun _ => none : Nat → Option Nat) j).map (b + ·)))))) : va_E)) (l_ne (k := (n + 1 + 1 + 1 + 1 + 1 + 1 + 1)) (e := (.inr (10, [.ref (b + (n + 1 + 1 + 1 + 1 + 1 + 1 + 1 + 1)), .null, .int 0, .int 0]) : va_E)) (l_app (e := (.inl (t 4, 6, .inr (.inr (.inr (.inr (fun j => ((fun _ => none : Nat → Option Nat) j).map (b + ·)))))) : va_E)) hk) (hq1 6))) (hq1 6)
        have hA := l_ne (k := (n + 1 + 1 + 1 + 1 + 1 + 1 + 1)) (e := (.inr (10, [.ref (b + (n + 1 + 1 + 1 + 1 + 1 + 1 + 1 + 1)), .ref (b + ((n + 1 + 1 + 1 + 1 + 1 + 1 + 1 + 1) + 1)), .int 0, .int 0]) : va_E)) (l_app (e := (.inl (t 5, 8, .inr (.inr (.inr (.inr (fun j => ((fun _ => none : Nat → Option Nat) j).map (b + ·)))))) : va_E)) (l_ne (k := (n + 1 + 1 + 1 + 1 + 1 + 1 + 1)) (e := (.inr (10, [.ref (b + (n + 1 + 1 + 1 + 1 + 1 + 1 + 1 + 1)), .null, .int 0, .int 0]) : va_E)) (l_app (e := (.inl (t 4, 6, .inr (.inr (.inr (.inr (fun j => ((fun _ => none : Nat → Option Nat) j).map (b + ·)))))) : va_E)) hA) (hq2 6))) (hq2 6)
        have hN := List.getElem?_set_self (l_lt (l_app (e := (.inl (t 5, 8, .inr (.inr (.inr (.inr (fun j => ((fun _ => none : Nat → Option Nat) j).map (b + ·)))))) : va_E)) (List.getElem?_set_self (l_lt (l_app (e := (.inl (t 4, 6, .inr (.inr (.inr (.inr (fun j => ((fun _ => none : Nat → Option Nat) j).map (b + ·)))))) : va_E)) hN)) (a := (.inr (10, [.ref (b + (n + 1 + 1 + 1 + 1 + 1 + 1 + 1 + 1)), .null, .int 0, .int 0]) : va_E))))) (a := (.inr (10, [.ref (b + (n + 1 + 1 + 1 + 1 + 1 + 1 + 1 + 1)), .ref (b + ((n + 1 + 1 + 1 + 1 + 1 + 1 + 1 + 1) + 1)), .int 0, .int 0]) : va_E))
        obtain ⟨L_33_10, eL_33_10⟩ : ∃ z, z = ((((L_29_9 ++ [(.inl (t 4, 6, .inr (.inr (.inr (.inr (fun j => ((fun _ => none : Nat → Option Nat) j).map (b + ·)))))) : va_E)]).set (n + 1 + 1 + 1 + 1 + 1 + 1 + 1) ((.inr (10, [.ref (b + (n + 1 + 1 + 1 + 1 + 1 + 1 + 1 + 1)), .null, .int 0, .int 0]) : va_E))) ++ [(.inl (t 5, 8, .inr (.inr (.inr (.inr (fun j => ((fun _ => none : Nat → Option Nat) j).map (b + ·)))))) : va_E)]).set (n + 1 + 1 + 1 + 1 + 1 + 1 + 1) ((.inr (10, [.ref (b + (n + 1 + 1 + 1 + 1 + 1 + 1 + 1 + 1)), .ref (b + ((n + 1 + 1 + 1 + 1 + 1 + 1 + 1 + 1) + 1)), .int 0, .int 0]) : va_E))) := ⟨_, rfl⟩
        rw [← eL_33_10] at w hk hA hN
        have hL : L_33_10.length = (n + 1 + 1 + 1 + 1 + 1 + 1 + 1 + 1) + 2 := by rw [eL_33_10, List.length_set, List.length_append, List.length_set, List.length_append, hL]; rfl
        have hL : L_33_10.length = (n + 1 + 1 + 1 + 1 + 1 + 1 + 1 + 1 + 1 + 1) := hL
        have w : qW D b (n + 1 + 1 + 1 + 1 + 1 + 1 + 1 + 1 + 1 + 1) (ovl L_33_10 σ0) s H locs := w
        refine q_aast X w 6 rfl (k := n) (ovl_at hA) (g_in p_37 (by omega)) (v := (n + 1 + 1 + 1 + 1 + 1 + 1 + 1)) (ovl_at hN) rfl dX3_init_36 (fun H locs w => ?_)
        rw [g_tn (show (x_37 : Int32).toInt = 2 from (show (x_37 : Int32).toInt = (((0 : Int) + 1) + 1) from p_37).trans (by omega))] at w
        rw [ovl_set (l_lt hA)] at w
        have hAl := l_lt hA
        obtain ⟨L_36_11, eL_36_11⟩ : ∃ z, z = L_33_10.set n (.inl (t 6, 6, .inr (.inr (.inr (.inr (fun j => ((va_up (va_up (va_up (fun _ => none : Nat → Option Nat) 0 (some (n + 1))) 1 (some (n + 1 + 1 + 1 + 1))) 2 (some (n + 1 + 1 + 1 + 1 + 1 + 1 + 1))) j).map (b + ·)))))) : va_E) := ⟨_, rfl⟩
        have w : qW D b (n + 1 + 1 + 1 + 1 + 1 + 1 + 1 + 1 + 1 + 1) (ovl L_36_11 σ0) s H locs := by rw [eL_36_11]; exact w
        have hk := l_ne (k := n) (e := .inl (t 6, 6, .inr (.inr (.inr (.inr (fun j => ((va_up (va_up (va_up (fun _ => none : Nat → Option Nat) 0 (some (n + 1))) 1 (some (n + 1 + 1 + 1 + 1))) 2 (some (n + 1 + 1 + 1 + 1 + 1 + 1 + 1))) j).map (b + ·))))))) hk hnk
        rw [← eL_36_11] at hk
        have hA : L_36_11[n]? = some (.inl (t 6, 6, .inr (.inr (.inr (.inr (fun j => ((va_up (va_up (va_up (fun _ => none : Nat → Option Nat) 0 (some (n + 1))) 1 (some (n + 1 + 1 + 1 + 1))) 2 (some (n + 1 + 1 + 1 + 1 + 1 + 1 + 1))) j).map (b + ·))))))) := by rw [eL_36_11]; exact List.getElem?_set_self hAl
        have hL : L_36_11.length = (n + 1 + 1 + 1 + 1 + 1 + 1 + 1 + 1 + 1 + 1) := by rw [eL_36_11, List.length_set]; exact hL
        obtain ⟨x_37, e_37⟩ : ∃ z : Int32, z = (x_37 + 1) := ⟨_, rfl⟩
        have p_37 : x_37.toInt = ((((0 : Int) + 1) + 1) + 1) := by rw [e_37]; exact t_add p_37 (show (1 : Int32).toInt = 1 from rfl) (by omega) (by omega)
        refine lv_iinc (v := x_37) (lv' := [(1, .int x_37), (0, .ref (b + k))]) hx hb dX3_init_37 hl (k := 0) rfl (by rw [e_37]; rfl) (by decide) rfl (fun ls hl => ?_)
        refine lv_goto (tgt := 15) hx hb dX3_init_40 (by decide) ?_
        refine lv_iload_n hx hb dX3_init_15 rfl (lv_at hl 0 rfl) ?_
        refine lv_aload_n hx hb dX3_init_16 rfl (lv_at hl 1 rfl) ?_
        refine q_get X w inX3 rfl 0 (by decide) fl_X3_11 (k := k) (ovl_at hk) rfl dX3_init_17 ?_
        refine q_alen X w 6 rfl (k := n) (ovl_at hA) dX3_init_20 ?_
        refine q_topE (y := 6) rfl ?_
        refine lv_icmp_ge (tgt := 43) hx hb dX3_init_21 (by decide) (fun c_21 => ?_) (fun c_21 => ?_)
        · skip
          have k_21 : 6 ≤ ((((0 : Int) + 1) + 1) + 1) := (g_le (show (6 : Int32).toInt = 6 from rfl) p_37).mp c_21
          omega
        · skip
          have k_21 : ¬ (6 ≤ ((((0 : Int) + 1) + 1) + 1)) := fun h => c_21 ((g_le (show (6 : Int32).toInt = 6 from rfl) p_37).mpr h)
          refine lv_aload_n hx hb dX3_init_24 rfl (lv_at hl 1 rfl) ?_
          refine q_get X w inX3 rfl 0 (by decide) fl_X3_11 (k := k) (ovl_at hk) rfl dX3_init_25 ?_
          refine lv_iload_n hx hb dX3_init_28 rfl (lv_at hl 0 rfl) ?_
          refine q_new (ci := 10) X w inX6 tyX6 tyX6_ok cl_X3_9 is_X6 ini_X6 rfl (fs := [.null, .null, .int 0, .int 0]) (fun j hj => by match j, hj with | 0, _ => rfl | 1, _ => rfl | 2, _ => rfl | 3, _ => rfl | j + 4, hj => exact absurd hj (by omega)) (Nat.le_of_ble_eq_true rfl) (Nat.le_of_ble_eq_true rfl) dX3_init_29 (fun H w => ?_)
          rw [ovl_push hL] at w
          obtain ⟨L_29_12, eL_29_12⟩ : ∃ z, z = (L_36_11 ++ [(.inr (10, [.null, .null, .int 0, .int 0]) : va_E)]) := ⟨_, rfl⟩
          rw [← eL_29_12] at w
          have hk := l_app (e := .inr (10, [.null, .null, .int 0, .int 0])) hk
          rw [← eL_29_12] at hk
          have hA := l_app (e := .inr (10, [.null, .null, .int 0, .int 0])) hA
          rw [← eL_29_12] at hA
          have hN := l_new (e := .inr (10, [.null, .null, .int 0, .int 0])) hL
          rw [← eL_29_12] at hN
          have hL : L_29_12.length = (n + 1 + 1 + 1 + 1 + 1 + 1 + 1 + 1 + 1 + 1 + 1) := by rw [eL_29_12, List.length_append, hL]; rfl
          refine lv_dup hx hb dX3_init_32 rfl ?_
          refine q_cVINK X hE w (c_X6_init l D t b (n + 1 + 1 + 1 + 1 + 1 + 1 + 1 + 1 + 1 + 1 + 1) σ0 L_29_12 (n + 1 + 1 + 1 + 1 + 1 + 1 + 1 + 1 + 1 + 1) hL hN) nw_X3_17 rfl ⟨Nat.le_of_ble_eq_true rfl, Nat.le_of_ble_eq_true rfl⟩ rfl hl.1 (Nat.le_of_ble_eq_true rfl) dX3_init_33 ⟨Nat.le_of_ble_eq_true rfl, Nat.le_of_ble_eq_true rfl⟩ (fun n_33 σ_33 H locs z_33 w => ?_)
          rw [z_33.1, z_33.2] at w
          have hk := l_ne (k := (n + 1 + 1 + 1 + 1 + 1 + 1 + 1 + 1 + 1 + 1)) (e := (.inr (10, [.ref (b + (n + 1 + 1 + 1 + 1 + 1 + 1 + 1 + 1 + 1 + 1 + 1)), .ref (b + ((n + 1 + 1 + 1 + 1 + 1 + 1 + 1 + 1 + 1 + 1 + 1) + 1)), .int 0, .int 0]) : va_E)) (l_app (e := (.inl (t 5, 8, .inr (.inr (.inr (.inr (fun j => ((fun _ => none : Nat → Option Nat) j).map (b + ·)))))) : va_E)) (l_ne (k := (n + 1 + 1 + 1 + 1 + 1 + 1 + 1 + 1 + 1 + 1)) (e := (.inr (10, [.ref (b + (n + 1 + 1 + 1 + 1 + 1 + 1 + 1 + 1 + 1 + 1 + 1)), .null, .int 0, .int 0]) : va_E)) (l_app (e := (.inl (t 4, 6, .inr (.inr (.inr (.inr (fun j => ((fun _ => none : Nat → Option Nat) j).map (b + ·)))))) : va_E)) hk) (hq1 9))) (hq1 9)
          have hA := l_ne (k := (n + 1 + 1 + 1 + 1 + 1 + 1 + 1 + 1 + 1 + 1)) (e := (.inr (10, [.ref (b + (n + 1 + 1 + 1 + 1 + 1 + 1 + 1 + 1 + 1 + 1 + 1)), .ref (b + ((n + 1 + 1 + 1 + 1 + 1 + 1 + 1 + 1 + 1 + 1 + 1) + 1)), .int 0, .int 0]) : va_E)) (l_app (e := (.inl (t 5, 8, .inr (.inr (.inr (.inr (fun j => ((fun _ => none : Nat → Option Nat) j).map (b + ·)))))) : va_E)) (l_ne (k := (n + 1 + 1 + 1 + 1 + 1 + 1 + 1 + 1 + 1 + 1)) (e := (.inr (10, [.ref (b + (n + 1 + 1 + 1 + 1 + 1 + 1 + 1 + 1 + 1 + 1 + 1)), .null, .int 0, .int 0]) : va_E)) (l_app (e := (.inl (t 4, 6, .inr (.inr (.inr (.inr (fun j => ((fun _ => none : Nat → Option Nat) j).map (b + ·)))))) : va_E)) hA) (hq2 9))) (hq2 9)
          have hN := List.getElem?_set_self (l_lt (l_app (e := (.inl (t 5, 8, .inr (.inr (.inr (.inr (fun j => ((fun _ => none : Nat → Option Nat) j).map (b + ·)))))) : va_E)) (List.getElem?_set_self (l_lt (l_app (e := (.inl (t 4, 6, .inr (.inr (.inr (.inr (fun j => ((fun _ => none : Nat → Option Nat) j).map (b + ·)))))) : va_E)) hN)) (a := (.inr (10, [.ref (b + (n + 1 + 1 + 1 + 1 + 1 + 1 + 1 + 1 + 1 + 1 + 1)), .null, .int 0, .int 0]) : va_E))))) (a := (.inr (10, [.ref (b + (n + 1 + 1 + 1 + 1 + 1 + 1 + 1 + 1 + 1 + 1 + 1)), .ref (b + ((n + 1 + 1 + 1 + 1 + 1 + 1 + 1 + 1 + 1 + 1 + 1) + 1)), .int 0, .int 0]) : va_E))
          obtain ⟨L_33_13, eL_33_13⟩ : ∃ z, z = ((((L_29_12 ++ [(.inl (t 4, 6, .inr (.inr (.inr (.inr (fun j => ((fun _ => none : Nat → Option Nat) j).map (b + ·)))))) : va_E)]).set (n + 1 + 1 + 1 + 1 + 1 + 1 + 1 + 1 + 1 + 1) ((.inr (10, [.ref (b + (n + 1 + 1 + 1 + 1 + 1 + 1 + 1 + 1 + 1 + 1 + 1)), .null, .int 0, .int 0]) : va_E))) ++ [(.inl (t 5, 8, .inr (.inr (.inr (.inr (fun j => ((fun _ => none : Nat → Option Nat) j).map (b + ·)))))) : va_E)]).set (n + 1 + 1 + 1 + 1 + 1 + 1 + 1 + 1 + 1 + 1) ((.inr (10, [.ref (b + (n + 1 + 1 + 1 + 1 + 1 + 1 + 1 + 1 + 1 + 1 + 1)), .ref (b + ((n + 1 + 1 + 1 + 1 + 1 + 1 + 1 + 1 + 1 + 1 + 1) + 1)), .int 0, .int 0]) : va_E))) := ⟨_, rfl⟩
          rw [← eL_33_13] at w hk hA hN
          have hL : L_33_13.length = (n + 1 + 1 + 1 + 1 + 1 + 1 + 1 + 1 + 1 + 1 + 1) + 2 := by rw [eL_33_13, List.length_set, List.length_append, List.length_set, List.length_append, hL]; rfl
          have hL : L_33_13.length = (n + 1 + 1 + 1 + 1 + 1 + 1 + 1 + 1 + 1 + 1 + 1 + 1 + 1) := hL
          have w : qW D b (n + 1 + 1 + 1 + 1 + 1 + 1 + 1 + 1 + 1 + 1 + 1 + 1 + 1) (ovl L_33_13 σ0) s H locs := w
          refine q_aast X w 6 rfl (k := n) (ovl_at hA) (g_in p_37 (by omega)) (v := (n + 1 + 1 + 1 + 1 + 1 + 1 + 1 + 1 + 1 + 1)) (ovl_at hN) rfl dX3_init_36 (fun H locs w => ?_)
          rw [g_tn (show (x_37 : Int32).toInt = 3 from (show (x_37 : Int32).toInt = ((((0 : Int) + 1) + 1) + 1) from p_37).trans (by omega))] at w
          rw [ovl_set (l_lt hA)] at w
          have hAl := l_lt hA
          obtain ⟨L_36_14, eL_36_14⟩ : ∃ z, z = L_33_13.set n (.inl (t 6, 6, .inr (.inr (.inr (.inr (fun j => ((va_up (va_up (va_up (va_up (fun _ => none : Nat → Option Nat) 0 (some (n + 1))) 1 (some (n + 1 + 1 + 1 + 1))) 2 (some (n + 1 + 1 + 1 + 1 + 1 + 1 + 1))) 3 (some (n + 1 + 1 + 1 + 1 + 1 + 1 + 1 + 1 + 1 + 1))) j).map (b + ·)))))) : va_E) := ⟨_, rfl⟩
          have w : qW D b (n + 1 + 1 + 1 + 1 + 1 + 1 + 1 + 1 + 1 + 1 + 1 + 1 + 1) (ovl L_36_14 σ0) s H locs := by rw [eL_36_14]; exact w
          have hk := l_ne (k := n) (e := .inl (t 6, 6, .inr (.inr (.inr (.inr (fun j => ((va_up (va_up (va_up (va_up (fun _ => none : Nat → Option Nat) 0 (some (n + 1))) 1 (some (n + 1 + 1 + 1 + 1))) 2 (some (n + 1 + 1 + 1 + 1 + 1 + 1 + 1))) 3 (some (n + 1 + 1 + 1 + 1 + 1 + 1 + 1 + 1 + 1 + 1))) j).map (b + ·))))))) hk hnk
          rw [← eL_36_14] at hk
          have hA : L_36_14[n]? = some (.inl (t 6, 6, .inr (.inr (.inr (.inr (fun j => ((va_up (va_up (va_up (va_up (fun _ => none : Nat → Option Nat) 0 (some (n + 1))) 1 (some (n + 1 + 1 + 1 + 1))) 2 (some (n + 1 + 1 + 1 + 1 + 1 + 1 + 1))) 3 (some (n + 1 + 1 + 1 + 1 + 1 + 1 + 1 + 1 + 1 + 1))) j).map (b + ·))))))) := by rw [eL_36_14]; exact List.getElem?_set_self hAl
          have hL : L_36_14.length = (n + 1 + 1 + 1 + 1 + 1 + 1 + 1 + 1 + 1 + 1 + 1 + 1 + 1) := by rw [eL_36_14, List.length_set]; exact hL
          obtain ⟨x_37, e_37⟩ : ∃ z : Int32, z = (x_37 + 1) := ⟨_, rfl⟩
          have p_37 : x_37.toInt = (((((0 : Int) + 1) + 1) + 1) + 1) := by rw [e_37]; exact t_add p_37 (show (1 : Int32).toInt = 1 from rfl) (by omega) (by omega)
          refine lv_iinc (v := x_37) (lv' := [(1, .int x_37), (0, .ref (b + k))]) hx hb dX3_init_37 hl (k := 0) rfl (by rw [e_37]; rfl) (by decide) rfl (fun ls hl => ?_)
          refine lv_goto (tgt := 15) hx hb dX3_init_40 (by decide) ?_
          refine lv_iload_n hx hb dX3_init_15 rfl (lv_at hl 0 rfl) ?_
          refine lv_aload_n hx hb dX3_init_16 rfl (lv_at hl 1 rfl) ?_
          refine q_get X w inX3 rfl 0 (by decide) fl_X3_11 (k := k) (ovl_at hk) rfl dX3_init_17 ?_
          refine q_alen X w 6 rfl (k := n) (ovl_at hA) dX3_init_20 ?_
          refine q_topE (y := 6) rfl ?_
          refine lv_icmp_ge (tgt := 43) hx hb dX3_init_21 (by decide) (fun c_21 => ?_) (fun c_21 => ?_)
          · skip
            have k_21 : 6 ≤ (((((0 : Int) + 1) + 1) + 1) + 1) := (g_le (show (6 : Int32).toInt = 6 from rfl) p_37).mp c_21
            omega
          · skip
            have k_21 : ¬ (6 ≤ (((((0 : Int) + 1) + 1) + 1) + 1)) := fun h => c_21 ((g_le (show (6 : Int32).toInt = 6 from rfl) p_37).mpr h)
            refine lv_aload_n hx hb dX3_init_24 rfl (lv_at hl 1 rfl) ?_
            refine q_get X w inX3 rfl 0 (by decide) fl_X3_11 (k := k) (ovl_at hk) rfl dX3_init_25 ?_
            refine lv_iload_n hx hb dX3_init_28 rfl (lv_at hl 0 rfl) ?_
            refine q_new (ci := 10) X w inX6 tyX6 tyX6_ok cl_X3_9 is_X6 ini_X6 rfl (fs := [.null, .null, .int 0, .int 0]) (fun j hj => by match j, hj with | 0, _ => rfl | 1, _ => rfl | 2, _ => rfl | 3, _ => rfl | j + 4, hj => exact absurd hj (by omega)) (Nat.le_of_ble_eq_true rfl) (Nat.le_of_ble_eq_true rfl) dX3_init_29 (fun H w => ?_)
            rw [ovl_push hL] at w
            obtain ⟨L_29_15, eL_29_15⟩ : ∃ z, z = (L_36_14 ++ [(.inr (10, [.null, .null, .int 0, .int 0]) : va_E)]) := ⟨_, rfl⟩
            rw [← eL_29_15] at w
            have hk := l_app (e := .inr (10, [.null, .null, .int 0, .int 0])) hk
            rw [← eL_29_15] at hk
            have hA := l_app (e := .inr (10, [.null, .null, .int 0, .int 0])) hA
            rw [← eL_29_15] at hA
            have hN := l_new (e := .inr (10, [.null, .null, .int 0, .int 0])) hL
            rw [← eL_29_15] at hN
            have hL : L_29_15.length = (n + 1 + 1 + 1 + 1 + 1 + 1 + 1 + 1 + 1 + 1 + 1 + 1 + 1 + 1) := by rw [eL_29_15, List.length_append, hL]; rfl
            refine lv_dup hx hb dX3_init_32 rfl ?_
            refine q_cVINK X hE w (c_X6_init l D t b (n + 1 + 1 + 1 + 1 + 1 + 1 + 1 + 1 + 1 + 1 + 1 + 1 + 1 + 1) σ0 L_29_15 (n + 1 + 1 + 1 + 1 + 1 + 1 + 1 + 1 + 1 + 1 + 1 + 1 + 1) hL hN) nw_X3_17 rfl ⟨Nat.le_of_ble_eq_true rfl, Nat.le_of_ble_eq_true rfl⟩ rfl hl.1 (Nat.le_of_ble_eq_true rfl) dX3_init_33 ⟨Nat.le_of_ble_eq_true rfl, Nat.le_of_ble_eq_true rfl⟩ (fun n_33 σ_33 H locs z_33 w => ?_)
            rw [z_33.1, z_33.2] at w
            have hk := l_ne (k := (n + 1 + 1 + 1 + 1 + 1 + 1 + 1 + 1 + 1 + 1 + 1 + 1 + 1)) (e := (.inr (10, [.ref (b + (n + 1 + 1 + 1 + 1 + 1 + 1 + 1 + 1 + 1 + 1 + 1 + 1 + 1 + 1)), .ref (b + ((n + 1 + 1 + 1 + 1 + 1 + 1 + 1 + 1 + 1 + 1 + 1 + 1 + 1 + 1) + 1)), .int 0, .int 0]) : va_E)) (l_app (e := (.inl (t 5, 8, .inr (.inr (.inr (.inr (fun j => ((fun _ => none : Nat → Option Nat) j).map (b + ·)))))) : va_E)) (l_ne (k := (n + 1 + 1 + 1 + 1 + 1 + 1 + 1 + 1 + 1 + 1 + 1 + 1 + 1)) (e := (.inr (10, [.ref (b + (n + 1 + 1 + 1 + 1 + 1 + 1 + 1 + 1 + 1 + 1 + 1 + 1 + 1 + 1)), .null, .int 0, .int 0]) : va_E)) (l_app (e := (.inl (t 4, 6, .inr (.inr (.inr (.inr (fun j => ((fun _ => none : Nat → Option Nat) j).map (b + ·)))))) : va_E)) hk) (hq1 12))) (hq1 12)
            have hA := l_ne (k := (n + 1 + 1 + 1 + 1 + 1 + 1 + 1 + 1 + 1 + 1 + 1 + 1 + 1)) (e := (.inr (10, [.ref (b + (n + 1 + 1 + 1 + 1 + 1 + 1 + 1 + 1 + 1 + 1 + 1 + 1 + 1 + 1)), .ref (b + ((n + 1 + 1 + 1 + 1 + 1 + 1 + 1 + 1 + 1 + 1 + 1 + 1 + 1 + 1) + 1)), .int 0, .int 0]) : va_E)) (l_app (e := (.inl (t 5, 8, .inr (.inr (.inr (.inr (fun j => ((fun _ => none : Nat → Option Nat) j).map (b + ·)))))) : va_E)) (l_ne (k := (n + 1 + 1 + 1 + 1 + 1 + 1 + 1 + 1 + 1 + 1 + 1 + 1 + 1)) (e := (.inr (10, [.ref (b + (n + 1 + 1 + 1 + 1 + 1 + 1 + 1 + 1 + 1 + 1 + 1 + 1 + 1 + 1)), .null, .int 0, .int 0]) : va_E)) (l_app (e := (.inl (t 4, 6, .inr (.inr (.inr (.inr (fun j => ((fun _ => none : Nat → Option Nat) j).map (b + ·)))))) : va_E)) hA) (hq2 12))) (hq2 12)
            have hN := List.getElem?_set_self (l_lt (l_app (e := (.inl (t 5, 8, .inr (.inr (.inr (.inr (fun j => ((fun _ => none : Nat → Option Nat) j).map (b + ·)))))) : va_E)) (List.getElem?_set_self (l_lt (l_app (e := (.inl (t 4, 6, .inr (.inr (.inr (.inr (fun j => ((fun _ => none : Nat → Option Nat) j).map (b + ·)))))) : va_E)) hN)) (a := (.inr (10, [.ref (b + (n + 1 + 1 + 1 + 1 + 1 + 1 + 1 + 1 + 1 + 1 + 1 + 1 + 1 + 1)), .null, .int 0, .int 0]) : va_E))))) (a := (.inr (10, [.ref (b + (n + 1 + 1 + 1 + 1 + 1 + 1 + 1 + 1 + 1 + 1 + 1 + 1 + 1 + 1)), .ref (b + ((n + 1 + 1 + 1 + 1 + 1 + 1 + 1 + 1 + 1 + 1 + 1 + 1 + 1 + 1) + 1)), .int 0, .int 0]) : va_E))
            obtain ⟨L_33_16, eL_33_16⟩ : ∃ z, z = ((((L_29_15 ++ [(.inl (t 4, 6, .inr (.inr (.inr (.inr (fun j => ((fun _ => none : Nat → Option Nat) j).map (b + ·)))))) : va_E)]).set (n + 1 + 1 + 1 + 1 + 1 + 1 + 1 + 1 + 1 + 1 + 1 + 1 + 1) ((.inr (10, [.ref (b + (n + 1 + 1 + 1 + 1 + 1 + 1 + 1 + 1 + 1 + 1 + 1 + 1 + 1 + 1)), .null, .int 0, .int 0]) : va_E))) ++ [(.inl (t 5, 8, .inr (.inr (.inr (.inr (fun j => ((fun _ => none : Nat → Option Nat) j).map (b + ·)))))) : va_E)]).set (n + 1 + 1 + 1 + 1 + 1 + 1 + 1 + 1 + 1 + 1 + 1 + 1 + 1) ((.inr (10, [.ref (b + (n + 1 + 1 + 1 + 1 + 1 + 1 + 1 + 1 + 1 + 1 + 1 + 1 + 1 + 1)), .ref (b + ((n + 1 + 1 + 1 + 1 + 1 + 1 + 1 + 1 + 1 + 1 + 1 + 1 + 1 + 1) + 1)), .int 0, .int 0]) : va_E))) := ⟨_, rfl⟩
            rw [← eL_33_16] at w hk hA hN
            have hL : L_33_16.length = (n + 1 + 1 + 1 + 1 + 1 + 1 + 1 + 1 + 1 + 1 + 1 + 1 + 1 + 1) + 2 := by rw [eL_33_16, List.length_set, List.length_append, List.length_set, List.length_append, hL]; rfl
            have hL : L_33_16.length = (n + 1 + 1 + 1 + 1 + 1 + 1 + 1 + 1 + 1 + 1 + 1 + 1 + 1 + 1 + 1 + 1) := hL
            have w : qW D b (n + 1 + 1 + 1 + 1 + 1 + 1 + 1 + 1 + 1 + 1 + 1 + 1 + 1 + 1 + 1 + 1) (ovl L_33_16 σ0) s H locs := w
            refine q_aast X w 6 rfl (k := n) (ovl_at hA) (g_in p_37 (by omega)) (v := (n + 1 + 1 + 1 + 1 + 1 + 1 + 1 + 1 + 1 + 1 + 1 + 1 + 1)) (ovl_at hN) rfl dX3_init_36 (fun H locs w => ?_)
            rw [g_tn (show (x_37 : Int32).toInt = 4 from (show (x_37 : Int32).toInt = (((((0 : Int) + 1) + 1) + 1) + 1) from p_37).trans (by omega))] at w
            rw [ovl_set (l_lt hA)] at w
            have hAl := l_lt hA
            obtain ⟨L_36_17, eL_36_17⟩ : ∃ z, z = L_33_16.set n (.inl (t 6, 6, .inr (.inr (.inr (.inr (fun j => ((va_up (va_up (va_up (va_up (va_up (fun _ => none : Nat → Option Nat) 0 (some (n + 1))) 1 (some (n + 1 + 1 + 1 + 1))) 2 (some (n + 1 + 1 + 1 + 1 + 1 + 1 + 1))) 3 (some (n + 1 + 1 + 1 + 1 + 1 + 1 + 1 + 1 + 1 + 1))) 4 (some (n + 1 + 1 + 1 + 1 + 1 + 1 + 1 + 1 + 1 + 1 + 1 + 1 + 1))) j).map (b + ·)))))) : va_E) := ⟨_, rfl⟩
            have w : qW D b (n + 1 + 1 + 1 + 1 + 1 + 1 + 1 + 1 + 1 + 1 + 1 + 1 + 1 + 1 + 1 + 1) (ovl L_36_17 σ0) s H locs := by rw [eL_36_17]; exact w
            have hk := l_ne (k := n) (e := .inl (t 6, 6, .inr (.inr (.inr (.inr (fun j => ((va_up (va_up (va_up (va_up (va_up (fun _ => none : Nat → Option Nat) 0 (some (n + 1))) 1 (some (n + 1 + 1 + 1 + 1))) 2 (some (n + 1 + 1 + 1 + 1 + 1 + 1 + 1))) 3 (some (n + 1 + 1 + 1 + 1 + 1 + 1 + 1 + 1 + 1 + 1))) 4 (some (n + 1 + 1 + 1 + 1 + 1 + 1 + 1 + 1 + 1 + 1 + 1 + 1 + 1))) j).map (b + ·))))))) hk hnk
            rw [← eL_36_17] at hk
            have hA : L_36_17[n]? = some (.inl (t 6, 6, .inr (.inr (.inr (.inr (fun j => ((va_up (va_up (va_up (va_up (va_up (fun _ => none : Nat → Option Nat) 0 (some (n + 1))) 1 (some (n + 1 + 1 + 1 + 1))) 2 (some (n + 1 + 1 + 1 + 1 + 1 + 1 + 1))) 3 (some (n + 1 + 1 + 1 + 1 + 1 + 1 + 1 + 1 + 1 + 1))) 4 (some (n + 1 + 1 + 1 + 1 + 1 + 1 + 1 + 1 + 1 + 1 + 1 + 1 + 1))) j).map (b + ·))))))) := by rw [eL_36_17]; exact List.getElem?_set_self hAl
            have hL : L_36_17.length = (n + 1 + 1 + 1 + 1 + 1 + 1 + 1 + 1 + 1 + 1 + 1 + 1 + 1 + 1 + 1 + 1) := by rw [eL_36_17, List.length_set]; exact hL
            obtain ⟨x_37, e_37⟩ : ∃ z : Int32, z = (x_37 + 1) := ⟨_, rfl⟩
            have p_37 : x_37.toInt = ((((((0 : Int) + 1) + 1) + 1) + 1) + 1) := by rw [e_37]; exact t_add p_37 (show (1 : Int32).toInt = 1 from rfl) (by omega) (by omega)
            refine lv_iinc (v := x_37) (lv' := [(1, .int x_37), (0, .ref (b + k))]) hx hb dX3_init_37 hl (k := 0) rfl (by rw [e_37]; rfl) (by decide) rfl (fun ls hl => ?_)
            refine lv_goto (tgt := 15) hx hb dX3_init_40 (by decide) ?_
            refine lv_iload_n hx hb dX3_init_15 rfl (lv_at hl 0 rfl) ?_
            refine lv_aload_n hx hb dX3_init_16 rfl (lv_at hl 1 rfl) ?_
            refine q_get X w inX3 rfl 0 (by decide) fl_X3_11 (k := k) (ovl_at hk) rfl dX3_init_17 ?_
            refine q_alen X w 6 rfl (k := n) (ovl_at hA) dX3_init_20 ?_
            refine q_topE (y := 6) rfl ?_
            refine lv_icmp_ge (tgt := 43) hx hb dX3_init_21 (by decide) (fun c_21 => ?_) (fun c_21 => ?_)
            · skip
              have k_21 : 6 ≤ ((((((0 : Int) + 1) + 1) + 1) + 1) + 1) := (g_le (show (6 : Int32).toInt = 6 from rfl) p_37).mp c_21
              omega
            · skip
              have k_21 : ¬ (6 ≤ ((((((0 : Int) + 1) + 1) + 1) + 1) + 1)) := fun h => c_21 ((g_le (show (6 : Int32).toInt = 6 from rfl) p_37).mpr h)
              refine lv_aload_n hx hb dX3_init_24 rfl (lv_at hl 1 rfl) ?_
              refine q_get X w inX3 rfl 0 (by decide) fl_X3_11 (k := k) (ovl_at hk) rfl dX3_init_25 ?_
              refine lv_iload_n hx hb dX3_init_28 rfl (lv_at hl 0 rfl) ?_
              refine q_new (ci := 10) X w inX6 tyX6 tyX6_ok cl_X3_9 is_X6 ini_X6 rfl (fs := [.null, .null, .int 0, .int 0]) (fun j hj => by match j, hj with | 0, _ => rfl | 1, _ => rfl | 2, _ => rfl | 3, _ => rfl | j + 4, hj => exact absurd hj (by omega)) (Nat.le_of_ble_eq_true rfl) (Nat.le_of_ble_eq_true rfl) dX3_init_29 (fun H w => ?_)
              rw [ovl_push hL] at w
              obtain ⟨L_29_18, eL_29_18⟩ : ∃ z, z = (L_36_17 ++ [(.inr (10, [.null, .null, .int 0, .int 0]) : va_E)]) := ⟨_, rfl⟩
              rw [← eL_29_18] at w
              have hk := l_app (e := .inr (10, [.null, .null, .int 0, .int 0])) hk
              rw [← eL_29_18] at hk
              have hA := l_app (e := .inr (10, [.null, .null, .int 0, .int 0])) hA
              rw [← eL_29_18] at hA
              have hN := l_new (e := .inr (10, [.null, .null, .int 0, .int 0])) hL
              rw [← eL_29_18] at hN
              have hL : L_29_18.length = (n + 1 + 1 + 1 + 1 + 1 + 1 + 1 + 1 + 1 + 1 + 1 + 1 + 1 + 1 + 1 + 1 + 1) := by rw [eL_29_18, List.length_append, hL]; rfl
              refine lv_dup hx hb dX3_init_32 rfl ?_
              refine q_cVINK X hE w (c_X6_init l D t b (n + 1 + 1 + 1 + 1 + 1 + 1 + 1 + 1 + 1 + 1 + 1 + 1 + 1 + 1 + 1 + 1 + 1) σ0 L_29_18 (n + 1 + 1 + 1 + 1 + 1 + 1 + 1 + 1 + 1 + 1 + 1 + 1 + 1 + 1 + 1 + 1) hL hN) nw_X3_17 rfl ⟨Nat.le_of_ble_eq_true rfl, Nat.le_of_ble_eq_true rfl⟩ rfl hl.1 (Nat.le_of_ble_eq_true rfl) dX3_init_33 ⟨Nat.le_of_ble_eq_true rfl, Nat.le_of_ble_eq_true rfl⟩ (fun n_33 σ_33 H locs z_33 w => ?_)
              rw [z_33.1, z_33.2] at w
              have hk := l_ne (k := (n + 1 + 1 + 1 + 1 + 1 + 1 + 1 + 1 + 1 + 1 + 1 + 1 + 1 + 1 + 1 + 1)) (e := (.inr (10, [.ref (b + (n + 1 + 1 + 1 + 1 + 1 + 1 + 1 + 1 + 1 + 1 + 1 + 1 + 1 + 1 + 1 + 1 + 1)), .ref (b + ((n + 1 + 1 + 1 + 1 + 1 + 1 + 1 + 1 + 1 + 1 + 1 + 1 + 1 + 1 + 1 + 1 + 1) + 1)), .int 0, .int 0]) : va_E)) (l_app (e := (.inl (t 5, 8, .inr (.inr (.inr (.inr (fun j => ((fun _ => none : Nat → Option Nat) j).map (b + ·)))))) : va_E)) (l_ne (k := (n + 1 + 1 + 1 + 1 + 1 + 1 + 1 + 1 + 1 + 1 + 1 + 1 + 1 + 1 + 1 + 1)) (e := (.inr (10, [.ref (b + (n + 1 + 1 + 1 + 1 + 1 + 1 + 1 + 1 + 1 + 1 + 1 + 1 + 1 + 1 + 1 + 1 + 1)), .null, .int 0, .int 0]) : va_E)) (l_app (e := (.inl (t 4, 6, .inr (.inr (.inr (.inr (fun j => ((fun _ => none : Nat → Option Nat) j).map (b + ·)))))) : va_E)) hk) (hq1 15))) (hq1 15)
              have hA := l_ne (k := (n + 1 + 1 + 1 + 1 + 1 + 1 + 1 + 1 + 1 + 1 + 1 + 1 + 1 + 1 + 1 + 1)) (e := (.inr (10, [.ref (b + (n + 1 + 1 + 1 + 1 + 1 + 1 + 1 + 1 + 1 + 1 + 1 + 1 + 1 + 1 + 1 + 1 + 1)), .ref (b + ((n + 1 + 1 + 1 + 1 + 1 + 1 + 1 + 1 + 1 + 1 + 1 + 1 + 1 + 1 + 1 + 1 + 1) + 1)), .int 0, .int 0]) : va_E)) (l_app (e := (.inl (t 5, 8, .inr (.inr (.inr (.inr (fun j => ((fun _ => none : Nat → Option Nat) j).map (b + ·)))))) : va_E)) (l_ne (k := (n + 1 + 1 + 1 + 1 + 1 + 1 + 1 + 1 + 1 + 1 + 1 + 1 + 1 + 1 + 1 + 1)) (e := (.inr (10, [.ref (b + (n + 1 + 1 + 1 + 1 + 1 + 1 + 1 + 1 + 1 + 1 + 1 + 1 + 1 + 1 + 1 + 1 + 1)), .null, .int 0, .int 0]) : va_E)) (l_app (e := (.inl (t 4, 6, .inr (.inr (.inr (.inr (fun j => ((fun _ => none : Nat → Option Nat) j).map (b + ·)))))) : va_E)) hA) (hq2 15))) (hq2 15)
              have hN := List.getElem?_set_self (l_lt (l_app (e := (.inl (t 5, 8, .inr (.inr (.inr (.inr (fun j => ((fun _ => none : Nat → Option Nat) j).map (b + ·)))))) : va_E)) (List.getElem?_set_self (l_lt (l_app (e := (.inl (t 4, 6, .inr (.inr (.inr (.inr (fun j => ((fun _ => none : Nat → Option Nat) j).map (b + ·)))))) : va_E)) hN)) (a := (.inr (10, [.ref (b + (n + 1 + 1 + 1 + 1 + 1 + 1 + 1 + 1 + 1 + 1 + 1 + 1 + 1 + 1 + 1 + 1 + 1)), .null, .int 0, .int 0]) : va_E))))) (a := (.inr (10, [.ref (b + (n + 1 + 1 + 1 + 1 + 1 + 1 + 1 + 1 + 1 + 1 + 1 + 1 + 1 + 1 + 1 + 1 + 1)), .ref (b + ((n + 1 + 1 + 1 + 1 + 1 + 1 + 1 + 1 + 1 + 1 + 1 + 1 + 1 + 1 + 1 + 1 + 1) + 1)), .int 0, .int 0]) : va_E))
              obtain ⟨L_33_19, eL_33_19⟩ : ∃ z, z = ((((L_29_18 ++ [(.inl (t 4, 6, .inr (.inr (.inr (.inr (fun j => ((fun _ => none : Nat → Option Nat) j).map (b + ·)))))) : va_E)]).set (n + 1 + 1 + 1 + 1 + 1 + 1 + 1 + 1 + 1 + 1 + 1 + 1 + 1 + 1 + 1 + 1) ((.inr (10, [.ref (b + (n + 1 + 1 + 1 + 1 + 1 + 1 + 1 + 1 + 1 + 1 + 1 + 1 + 1 + 1 + 1 + 1 + 1)), .null, .int 0, .int 0]) : va_E))) ++ [(.inl (t 5, 8, .inr (.inr (.inr (.inr (fun j => ((fun _ => none : Nat → Option Nat) j).map (b + ·)))))) : va_E)]).set (n + 1 + 1 + 1 + 1 + 1 + 1 + 1 + 1 + 1 + 1 + 1 + 1 + 1 + 1 + 1 + 1) ((.inr (10, [.ref (b + (n + 1 + 1 + 1 + 1 + 1 + 1 + 1 + 1 + 1 + 1 + 1 + 1 + 1 + 1 + 1 + 1 + 1)), .ref (b + ((n + 1 + 1 + 1 + 1 + 1 + 1 + 1 + 1 + 1 + 1 + 1 + 1 + 1 + 1 + 1 + 1 + 1) + 1)), .int 0, .int 0]) : va_E))) := ⟨_, rfl⟩
              rw [← eL_33_19] at w hk hA hN
              have hL : L_33_19.length = (n + 1 + 1 + 1 + 1 + 1 + 1 + 1 + 1 + 1 + 1 + 1 + 1 + 1 + 1 + 1 + 1 + 1) + 2 := by rw [eL_33_19, List.length_set, List.length_append, List.length_set, List.length_append, hL]; rfl
              have hL : L_33_19.length = (n + 1 + 1 + 1 + 1 + 1 + 1 + 1 + 1 + 1 + 1 + 1 + 1 + 1 + 1 + 1 + 1 + 1 + 1 + 1) := hL
              have w : qW D b (n + 1 + 1 + 1 + 1 + 1 + 1 + 1 + 1 + 1 + 1 + 1 + 1 + 1 + 1 + 1 + 1 + 1 + 1 + 1) (ovl L_33_19 σ0) s H locs := w
              refine q_aast X w 6 rfl (k := n) (ovl_at hA) (g_in p_37 (by omega)) (v := (n + 1 + 1 + 1 + 1 + 1 + 1 + 1 + 1 + 1 + 1 + 1 + 1 + 1 + 1 + 1 + 1)) (ovl_at hN) rfl dX3_init_36 (fun H locs w => ?_)
              rw [g_tn (show (x_37 : Int32).toInt = 5 from (show (x_37 : Int32).toInt = ((((((0 : Int) + 1) + 1) + 1) + 1) + 1) from p_37).trans (by omega))] at w
              rw [ovl_set (l_lt hA)] at w
              have hAl := l_lt hA
              obtain ⟨L_36_20, eL_36_20⟩ : ∃ z, z = L_33_19.set n (.inl (t 6, 6, .inr (.inr (.inr (.inr (fun j => ((va_up (va_up (va_up (va_up (va_up (va_up (fun _ => none : Nat → Option Nat) 0 (some (n + 1))) 1 (some (n + 1 + 1 + 1 + 1))) 2 (some (n + 1 + 1 + 1 + 1 + 1 + 1 + 1))) 3 (some (n + 1 + 1 + 1 + 1 + 1 + 1 + 1 + 1 + 1 + 1))) 4 (some (n + 1 + 1 + 1 + 1 + 1 + 1 + 1 + 1 + 1 + 1 + 1 + 1 + 1))) 5 (some (n + 1 + 1 + 1 + 1 + 1 + 1 + 1 + 1 + 1 + 1 + 1 + 1 + 1 + 1 + 1 + 1))) j).map (b + ·)))))) : va_E) := ⟨_, rfl⟩
              have w : qW D b (n + 1 + 1 + 1 + 1 + 1 + 1 + 1 + 1 + 1 + 1 + 1 + 1 + 1 + 1 + 1 + 1 + 1 + 1 + 1) (ovl L_36_20 σ0) s H locs := by rw [eL_36_20]; exact w
              have hk := l_ne (k := n) (e := .inl (t 6, 6, .inr (.inr (.inr (.inr (fun j => ((va_up (va_up (va_up (va_up (va_up (va_up (fun _ => none : Nat → Option Nat) 0 (some (n + 1))) 1 (some (n + 1 + 1 + 1 + 1))) 2 (some (n + 1 + 1 + 1 + 1 + 1 + 1 + 1))) 3 (some (n + 1 + 1 + 1 + 1 + 1 + 1 + 1 + 1 + 1 + 1))) 4 (some (n + 1 + 1 + 1 + 1 + 1 + 1 + 1 + 1 + 1 + 1 + 1 + 1 + 1))) 5 (some (n + 1 + 1 + 1 + 1 + 1 + 1 + 1 + 1 + 1 + 1 + 1 + 1 + 1 + 1 + 1 + 1))) j).map (b + ·))))))) hk hnk
              rw [← eL_36_20] at hk
              have hA : L_36_20[n]? = some (.inl (t 6, 6, .inr (.inr (.inr (.inr (fun j => ((va_up (va_up (va_up (va_up (va_up (va_up (fun _ => none : Nat → Option Nat) 0 (some (n + 1))) 1 (some (n + 1 + 1 + 1 + 1))) 2 (some (n + 1 + 1 + 1 + 1 + 1 + 1 + 1))) 3 (some (n + 1 + 1 + 1 + 1 + 1 + 1 + 1 + 1 + 1 + 1))) 4 (some (n + 1 + 1 + 1 + 1 + 1 + 1 + 1 + 1 + 1 + 1 + 1 + 1 + 1))) 5 (some (n + 1 + 1 + 1 + 1 + 1 + 1 + 1 + 1 + 1 + 1 + 1 + 1 + 1 + 1 + 1 + 1))) j).map (b + ·))))))) := by rw [eL_36_20]; exact List.getElem?_set_self hAl
              have hL : L_36_20.length = (n + 1 + 1 + 1 + 1 + 1 + 1 + 1 + 1 + 1 + 1 + 1 + 1 + 1 + 1 + 1 + 1 + 1 + 1 + 1) := by rw [eL_36_20, List.length_set]; exact hL
              obtain ⟨x_37, e_37⟩ : ∃ z : Int32, z = (x_37 + 1) := ⟨_, rfl⟩
              have p_37 : x_37.toInt = (((((((0 : Int) + 1) + 1) + 1) + 1) + 1) + 1) := by rw [e_37]; exact t_add p_37 (show (1 : Int32).toInt = 1 from rfl) (by omega) (by omega)
              refine lv_iinc (v := x_37) (lv' := [(1, .int x_37), (0, .ref (b + k))]) hx hb dX3_init_37 hl (k := 0) rfl (by rw [e_37]; rfl) (by decide) rfl (fun ls hl => ?_)
              refine lv_goto (tgt := 15) hx hb dX3_init_40 (by decide) ?_
              refine lv_iload_n hx hb dX3_init_15 rfl (lv_at hl 0 rfl) ?_
              refine lv_aload_n hx hb dX3_init_16 rfl (lv_at hl 1 rfl) ?_
              refine q_get X w inX3 rfl 0 (by decide) fl_X3_11 (k := k) (ovl_at hk) rfl dX3_init_17 ?_
              refine q_alen X w 6 rfl (k := n) (ovl_at hA) dX3_init_20 ?_
              refine q_topE (y := 6) rfl ?_
              refine lv_icmp_ge (tgt := 43) hx hb dX3_init_21 (by decide) (fun c_21 => ?_) (fun c_21 => ?_)
              · skip
                have k_21 : 6 ≤ (((((((0 : Int) + 1) + 1) + 1) + 1) + 1) + 1) := (g_le (show (6 : Int32).toInt = 6 from rfl) p_37).mp c_21
                exact q_vret (post := fun n1 σ1 => n1 = n + 19 ∧ σ1 = ovl ((((((((((((((((((((((((((((((((((((((L ++ [(.inl (t 6, 6, .inr (.inr (.inr (.inr (fun j => ((fun _ => none : Nat → Option Nat) j).map (b + ·)))))) : va_E)]).set k ((.inr (7, [.ref (b + n), .int 0]) : va_E))) ++ [(.inr (10, [.null, .null, .int 0, .int 0]) : va_E)]) ++ [(.inl (t 4, 6, .inr (.inr (.inr (.inr (fun j => ((fun _ => none : Nat → Option Nat) j).map (b + ·)))))) : va_E)]).set (n + 1) ((.inr (10, [.ref (b + (n + 1 + 1)), .null, .int 0, .int 0]) : va_E))) ++ [(.inl (t 5, 8, .inr (.inr (.inr (.inr (fun j => ((fun _ => none : Nat → Option Nat) j).map (b + ·)))))) : va_E)]).set (n + 1) ((.inr (10, [.ref (b + (n + 1 + 1)), .ref (b + ((n + 1 + 1) + 1)), .int 0, .int 0]) : va_E))).set n (.inl (t 6, 6, .inr (.inr (.inr (.inr (fun j => ((va_up (fun _ => none : Nat → Option Nat) 0 (some (n + 1))) j).map (b + ·)))))) : va_E)) ++ [(.inr (10, [.null, .null, .int 0, .int 0]) : va_E)]) ++ [(.inl (t 4, 6, .inr (.inr (.inr (.inr (fun j => ((fun _ => none : Nat → Option Nat) j).map (b + ·)))))) : va_E)]).set (n + 1 + 1 + 1 + 1) ((.inr (10, [.ref (b + (n + 1 + 1 + 1 + 1 + 1)), .null, .int 0, .int 0]) : va_E))) ++ [(.inl (t 5, 8, .inr (.inr (.inr (.inr (fun j => ((fun _ => none : Nat → Option Nat) j).map (b + ·)))))) : va_E)]).set (n + 1 + 1 + 1 + 1) ((.inr (10, [.ref (b + (n + 1 + 1 + 1 + 1 + 1)), .ref (b + ((n + 1 + 1 + 1 + 1 + 1) + 1)), .int 0, .int 0]) : va_E))).set n (.inl (t 6, 6, .inr (.inr (.inr (.inr (fun j => ((va_up (va_up (fun _ => none : Nat → Option Nat) 0 (some (n + 1))) 1 (some (n + 1 + 1 + 1 + 1))) j).map (b + ·)))))) : va_E)) ++ [(.inr (10, [.null, .null, .int 0, .int 0]) : va_E)]) ++ [(.inl (t 4, 6, .inr (.inr (.inr (.inr (fun j => ((fun _ => none : Nat → Option Nat) j).map (b + ·)))))) : va_E)]).set (n + 1 + 1 + 1 + 1 + 1 + 1 + 1) ((.inr (10, [.ref (b + (n + 1 + 1 + 1 + 1 + 1 + 1 + 1 + 1)), .null, .int 0, .int 0]) : va_E))) ++ [(.inl (t 5, 8, .inr (.inr (.inr (.inr (fun j => ((fun _ => none : Nat → Option Nat) j).map (b + ·)))))) : va_E)]).set (n + 1 + 1 + 1 + 1 + 1 + 1 + 1) ((.inr (10, [.ref (b + (n + 1 + 1 + 1 + 1 + 1 + 1 + 1 + 1)), .ref (b + ((n + 1 + 1 + 1 + 1 + 1 + 1 + 1 + 1) + 1)), .int 0, .int 0]) : va_E))).set n (.inl (t 6, 6, .inr (.inr (.inr (.inr (fun j => ((va_up (va_up (va_up (fun _ => none : Nat → Option Nat) 0 (some (n + 1))) 1 (some (n + 1 + 1 + 1 + 1))) 2 (some (n + 1 + 1 + 1 + 1 + 1 + 1 + 1))) j).map (b + ·)))))) : va_E)) ++ [(.inr (10, [.null, .null, .int 0, .int 0]) : va_E)]) ++ [(.inl (t 4, 6, .inr (.inr (.inr (.inr (fun j => ((fun _ => none : Nat → Option Nat) j).map (b + ·)))))) : va_E)]).set (n + 1 + 1 + 1 + 1 + 1 + 1 + 1 + 1 + 1 + 1) ((.inr (10, [.ref (b + (n + 1 + 1 + 1 + 1 + 1 + 1 + 1 + 1 + 1 + 1 + 1)), .null, .int 0, .int 0]) : va_E))) ++ [(.inl (t 5, 8, .inr (.inr (.inr (.inr (fun j => ((fun _ => none : Nat → Option Nat) j).map (b + ·)))))) : va_E)]).set (n + 1 + 1 + 1 + 1 + 1 + 1 + 1 + 1 + 1 + 1) ((.inr (10, [.ref (b + (n + 1 + 1 + 1 + 1 + 1 + 1 + 1 + 1 + 1 + 1 + 1)), .ref (b + ((n + 1 + 1 + 1 + 1 + 1 + 1 + 1 + 1 + 1 + 1 + 1) + 1)), .int 0, .int 0]) : va_E))).set n (.inl (t 6, 6, .inr (.inr (.inr (.inr (fun j => ((va_up (va_up (va_up (va_up (fun _ => none : Nat → Option Nat) 0 (some (n + 1))) 1 (some (n + 1 + 1 + 1 + 1))) 2 (some (n + 1 + 1 + 1 + 1 + 1 + 1 + 1))) 3 (some (n + 1 + 1 + 1 + 1 + 1 + 1 + 1 + 1 + 1 + 1))) j).map (b + ·)))))) : va_E)) ++ [(.inr (10, [.null, .null, .int 0, .int 0]) : va_E)]) ++ [(.inl (t 4, 6, .inr (.inr (.inr (.inr (fun j => ((fun _ => none : Nat → Option Nat) j).map (b + ·)))))) : va_E)]).set (n + 1 + 1 + 1 + 1 + 1 + 1 + 1 + 1 + 1 + 1 + 1 + 1 + 1) ((.inr (10, [.ref (b + (n + 1 + 1 + 1 + 1 + 1 + 1 + 1 + 1 + 1 + 1 + 1 + 1 + 1 + 1)), .null, .int 0, .int 0]) : va_E))) ++ [(.inl (t 5, 8, .inr (.inr (.inr (.inr (fun j => ((fun _ => none : Nat → Option Nat) j).map (b + ·)))))) : va_E)]).set (n + 1 + 1 + 1 + 1 + 1 + 1 + 1 + 1 + 1 + 1 + 1 + 1 + 1) ((.inr (10, [.ref (b + (n + 1 + 1 + 1 + 1 + 1 + 1 + 1 + 1 + 1 + 1 + 1 + 1 + 1 + 1)), .ref (b + ((n + 1 + 1 + 1 + 1 + 1 + 1 + 1 + 1 + 1 + 1 + 1 + 1 + 1 + 1) + 1)), .int 0, .int 0]) : va_E))).set n (.inl (t 6, 6, .inr (.inr (.inr (.inr (fun j => ((va_up (va_up (va_up (va_up (va_up (fun _ => none : Nat → Option Nat) 0 (some (n + 1))) 1 (some (n + 1 + 1 + 1 + 1))) 2 (some (n + 1 + 1 + 1 + 1 + 1 + 1 + 1))) 3 (some (n + 1 + 1 + 1 + 1 + 1 + 1 + 1 + 1 + 1 + 1))) 4 (some (n + 1 + 1 + 1 + 1 + 1 + 1 + 1 + 1 + 1 + 1 + 1 + 1 + 1))) j).map (b + ·)))))) : va_E)) ++ [(.inr (10, [.null, .null, .int 0, .int 0]) : va_E)]) ++ [(.inl (t 4, 6, .inr (.inr (.inr (.inr (fun j => ((fun _ => none : Nat → Option Nat) j).map (b + ·)))))) : va_E)]).set (n + 1 + 1 + 1 + 1 + 1 + 1 + 1 + 1 + 1 + 1 + 1 + 1 + 1 + 1 + 1 + 1) ((.inr (10, [.ref (b + (n + 1 + 1 + 1 + 1 + 1 + 1 + 1 + 1 + 1 + 1 + 1 + 1 + 1 + 1 + 1 + 1 + 1)), .null, .int 0, .int 0]) : va_E))) ++ [(.inl (t 5, 8, .inr (.inr (.inr (.inr (fun j => ((fun _ => none : Nat → Option Nat) j).map (b + ·)))))) : va_E)]).set (n + 1 + 1 + 1 + 1 + 1 + 1 + 1 + 1 + 1 + 1 + 1 + 1 + 1 + 1 + 1 + 1) ((.inr (10, [.ref (b + (n + 1 + 1 + 1 + 1 + 1 + 1 + 1 + 1 + 1 + 1 + 1 + 1 + 1 + 1 + 1 + 1 + 1)), .ref (b + ((n + 1 + 1 + 1 + 1 + 1 + 1 + 1 + 1 + 1 + 1 + 1 + 1 + 1 + 1 + 1 + 1 + 1) + 1)), .int 0, .int 0]) : va_E))).set n (.inl (t 6, 6, .inr (.inr (.inr (.inr (fun j => ((va_up (va_up (va_up (va_up (va_up (va_up (fun _ => none : Nat → Option Nat) 0 (some (n + 1))) 1 (some (n + 1 + 1 + 1 + 1))) 2 (some (n + 1 + 1 + 1 + 1 + 1 + 1 + 1))) 3 (some (n + 1 + 1 + 1 + 1 + 1 + 1 + 1 + 1 + 1 + 1))) 4 (some (n + 1 + 1 + 1 + 1 + 1 + 1 + 1 + 1 + 1 + 1 + 1 + 1 + 1))) 5 (some (n + 1 + 1 + 1 + 1 + 1 + 1 + 1 + 1 + 1 + 1 + 1 + 1 + 1 + 1 + 1 + 1))) j).map (b + ·)))))) : va_E)) σ0) X w dX3_init_43 ⟨rfl, by rw [eL_36_20, eL_33_19, eL_29_18, eL_36_17, eL_33_16, eL_29_15, eL_36_14, eL_33_13, eL_29_12, eL_36_11, eL_33_10, eL_29_9, eL_36_8, eL_33_7, eL_29_6, eL_36_5, eL_33_4, eL_29_3, eL_10_2, eL_7_1]⟩
              · skip
                have k_21 : ¬ (6 ≤ (((((((0 : Int) + 1) + 1) + 1) + 1) + 1) + 1)) := fun h => c_21 ((g_le (show (6 : Int32).toInt = 6 from rfl) p_37).mpr h)
                omega

set_option maxHeartbeats 2000000 in
set_option maxRecDepth 100000 in
theorem c_J5_init_d00df (l : Launch) (D : va_G) (t : Nat → ClassId) (b n : Nat) (σ0 : qM) (L : List va_E) (k : Nat) (hL : L.length = n) (hk : L[k]? = some (.inr (1, [.null, .int 0, .int 0, .int 0]))) : qVS l yJ5_init_d00df cJ5_init_d00df 2 1 1 16 D t b n (ovl L σ0) [.ref (b + k), .int 16] (fun n1 σ1 => n1 = n + 1 ∧ σ1 = ovl (((L ++ [(.inl (t 3, 16, .inl (fun _ => 0)) : va_E)]).set k ((.inr (1, [.ref (b + n), .int 0, .int 0, .int 0]) : va_E))).set k ((.inr (1, [.ref (b + n), .int 0, .int 0, .int 0]) : va_E))) σ0) := by
  refine qVS.of (by decide +kernel) (Nat.le_of_ble_eq_true rfl) (fun p e s m args below meth c X hS w ls hl => ?_)
  have hx := X.1
  have hb := X.2.1
  have hkn : k < n := hL ▸ l_lt hk
  have hl : lv_has ls 2 [(0, .ref (b + k)), (1, .int 16)] := hl
  refine lv_aload_n hx hb dJ5_init_d00df_0 rfl (lv_at hl 0 rfl) ?_
  refine q_obj X oi_J5 hl.1 ⟨Nat.le_of_ble_eq_true rfl, Nat.le_of_ble_eq_true rfl⟩ (Nat.le_of_ble_eq_true rfl) dJ5_init_d00df_1 ?_
  refine j_gets X w hS.1 fs_J5_18 dJ5_init_d00df_4 ?_
  refine lv_if_eq (tgt := 25) hx hb dJ5_init_d00df_7 (by decide) (fun c_7 => ?_) (fun c_7 => ?_)
  · skip
    have k_7 : (1 : Int) = 0 := (g_eq (show (1 : Int32).toInt = 1 from rfl) (show (0 : Int32).toInt = 0 from rfl)).mp c_7
    omega
  · skip
    have k_7 : ¬ ((1 : Int) = 0) := fun h => c_7 ((g_eq (show (1 : Int32).toInt = 1 from rfl) (show (0 : Int32).toInt = 0 from rfl)).mpr h)
    refine lv_aload_n hx hb dJ5_init_d00df_10 rfl (lv_at hl 0 rfl) ?_
    refine lv_iload_n hx hb dJ5_init_d00df_11 rfl (lv_at hl 1 rfl) ?_
    refine q_newa (atype := .byte) X w ac_byte rfl (fun _ h => by cases h) 3 rfl (a0 := (16, .inl (fun _ => 0))) (N := 16) (fun _ => rfl) (by decide) (by decide) (by decide) (Nat.le_of_ble_eq_true rfl) (Nat.le_of_ble_eq_true rfl) dJ5_init_d00df_12 (fun H w => ?_)
    rw [ovl_push hL] at w
    obtain ⟨L_12_1, eL_12_1⟩ : ∃ z, z = (L ++ [(.inl (t 3, 16, .inl (fun _ => 0)) : va_E)]) := ⟨_, rfl⟩
    rw [← eL_12_1] at w
    have hk := l_app (e := .inl (t 3, 16, .inl (fun _ => 0))) hk
    rw [← eL_12_1] at hk
    have hL : L_12_1.length = (n + 1) := by rw [eL_12_1, List.length_append, hL]; rfl
    have hkl := l_lt hk
    refine q_put X w inJ4 tyJ4 tyJ4_ok nmJ4 rfl 0 (by decide) fl_J5_15 rfl (k := k) (ovl_at hk) (v := .ref (b + n)) rfl rfl (Nat.le_of_ble_eq_true rfl) dJ5_init_d00df_14 (fun H locs w => ?_)
    rw [ovl_set hkl] at w
    obtain ⟨L_14_2, eL_14_2⟩ : ∃ z, z = L_12_1.set k (.inr (1, [.ref (b + n), .int 0, .int 0, .int 0]) : va_E) := ⟨_, rfl⟩
    have w : qW D b (n + 1) (ovl L_14_2 σ0) s H locs := by rw [eL_14_2]; exact w
    have hk : L_14_2[k]? = some (.inr (1, [.ref (b + n), .int 0, .int 0, .int 0])) := by rw [eL_14_2]; exact List.getElem?_set_self hkl
    have hL : L_14_2.length = (n + 1) := by rw [eL_14_2, List.length_set]; exact hL
    refine lv_aload_n hx hb dJ5_init_d00df_17 rfl (lv_at hl 0 rfl) ?_
    refine lv_iconst (v := 0) hx hb dJ5_init_d00df_18 (by decide) ?_
    have hkl := l_lt hk
    refine q_put X w inJ4 tyJ4 tyJ4_ok nmJ4 rfl 1 (by decide) fl_J5_22 rfl (k := k) (ovl_at hk) (v := .int 0) rfl rfl (Nat.le_of_ble_eq_true rfl) dJ5_init_d00df_19 (fun H locs w => ?_)
    rw [ovl_set hkl] at w
    obtain ⟨L_19_3, eL_19_3⟩ : ∃ z, z = L_14_2.set k (.inr (1, [.ref (b + n), .int 0, .int 0, .int 0]) : va_E) := ⟨_, rfl⟩
    have w : qW D b (n + 1) (ovl L_19_3 σ0) s H locs := by rw [eL_19_3]; exact w
    have hk : L_19_3[k]? = some (.inr (1, [.ref (b + n), .int 0, .int 0, .int 0])) := by rw [eL_19_3]; exact List.getElem?_set_self hkl
    have hL : L_19_3.length = (n + 1) := by rw [eL_19_3, List.length_set]; exact hL
    refine lv_goto (tgt := 38) hx hb dJ5_init_d00df_22 (by decide) ?_
    exact q_vret (post := fun n1 σ1 => n1 = n + 1 ∧ σ1 = ovl (((L ++ [(.inl (t 3, 16, .inl (fun _ => 0)) : va_E)]).set k ((.inr (1, [.ref (b + n), .int 0, .int 0, .int 0]) : va_E))).set k ((.inr (1, [.ref (b + n), .int 0, .int 0, .int 0]) : va_E))) σ0) X w dJ5_init_d00df_38 ⟨rfl, by rw [eL_19_3, eL_14_2, eL_12_1]⟩

set_option maxHeartbeats 2000000 in
set_option maxRecDepth 100000 in
theorem c_J4_init_da8c8 (l : Launch) (D : va_G) (t : Nat → ClassId) (b n : Nat) (σ0 : qM) (L : List va_E) (k : Nat) (hL : L.length = n) (hk : L[k]? = some (.inr (1, [.null, .int 0, .int 0, .int 0]))) : qVS l yJ4_init_da8c8 cJ4_init_da8c8 1 2 1 16 D t b n (ovl L σ0) [.ref (b + k)] (fun n1 σ1 => n1 = n + 1 ∧ σ1 = ovl (((L ++ [(.inl (t 3, 16, .inl (fun _ => 0)) : va_E)]).set k ((.inr (1, [.ref (b + n), .int 0, .int 0, .int 0]) : va_E))).set k ((.inr (1, [.ref (b + n), .int 0, .int 0, .int 0]) : va_E))) σ0) := by
  refine qVS.of (by decide +kernel) (Nat.le_of_ble_eq_true rfl) (fun p e s m args below meth c X hS w ls hl => ?_)
  have hx := X.1
  have hb := X.2.1
  have hkn : k < n := hL ▸ l_lt hk
  have hl : lv_has ls 1 [(0, .ref (b + k))] := hl
  refine lv_aload_n hx hb dJ4_init_da8c8_0 rfl (lv_at hl 0 rfl) ?_
  refine lv_bipush (v := 16) hx hb dJ4_init_da8c8_1 (by decide) ?_
  refine q_cVIS X hS w (c_J5_init_d00df l D t b n σ0 L k hL hk) iw_J4_1 rfl ⟨Nat.le_of_ble_eq_true rfl, Nat.le_of_ble_eq_true rfl⟩ rfl hl.1 (Nat.le_of_ble_eq_true rfl) dJ4_init_da8c8_3 ⟨Nat.le_of_ble_eq_true rfl, Nat.le_of_ble_eq_true rfl⟩ (fun n_3 σ_3 H locs z_3 w => ?_)
  rw [z_3.1, z_3.2] at w
  exact q_vret (post := fun n1 σ1 => n1 = n + 1 ∧ σ1 = ovl (((L ++ [(.inl (t 3, 16, .inl (fun _ => 0)) : va_E)]).set k ((.inr (1, [.ref (b + n), .int 0, .int 0, .int 0]) : va_E))).set k ((.inr (1, [.ref (b + n), .int 0, .int 0, .int 0]) : va_E))) σ0) X w dJ4_init_da8c8_6 ⟨rfl, by rfl⟩
