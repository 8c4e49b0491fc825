/-- what only constructors and copies need: arrays over the class's own classes; a row of ints can be cloned -/
def EK (U : State) : Prop := va_Nw (.castable "[I" "java/lang/Cloneable") U ∧ va_AO RX0 U ∧ va_AO RX1 U ∧ va_AO RX6 U
theorem EK.at {s U : State} (h : EK s) (hW : s.WarmedH U.vm) : EK U := ⟨va_Nw.warmC hW h.1, h.2.1.moved hW.alike, h.2.2.1.moved hW.alike, h.2.2.2.moved hW.alike⟩
theorem EK.blind {U : State} {g : JFrame} {mk : MethodId} {a : Array Value} (h : EK U) : EK (U.calling g mk a) := ⟨va_Nw.same (by rfl) (u := U) (U := U.calling g mk a) rfl h.1, va_AO.moved (u := U) (U := U.calling g mk a) (Vm.Alike.refl U.vm) h.2.1, va_AO.moved (u := U) (U := U.calling g mk a) (Vm.Alike.refl U.vm) h.2.2.1, va_AO.moved (u := U) (U := U.calling g mk a) (Vm.Alike.refl U.vm) h.2.2.2⟩
theorem ac_link : Cond.methodLink RJ7 150 arraycopyName ∈ TB := tb_2 169 (by decide +kernel) (by decide +kernel)
theorem ac_nat : Cond.native arraycopyName ∈ TB := tb_2 171 (by decide +kernel) (by decide +kernel)
theorem ac_st : Cond.static arraycopyName ∈ TB := tb_2 170 (by decide +kernel) (by decide +kernel)
theorem ac_ini : Cond.initialized "java/lang/System" ∈ TB := tb_1 17 (by decide +kernel) (by decide +kernel)
theorem cl_link : Cond.methodLink RJ7 316 ⟨"[I", "clone", "()Ljava/lang/Object;"⟩ ∈ TB := tb_2 161 (by decide +kernel) (by decide +kernel)
theorem cl_same : Cond.sameMethod "[I" "java/lang/Object" "clone" "()Ljava/lang/Object;" ∈ TB := tb_2 162 (by decide +kernel) (by decide +kernel)
theorem cl_nat : Cond.native ⟨"java/lang/Object", "clone", "()Ljava/lang/Object;"⟩ ∈ TB := tb_2 163 (by decide +kernel) (by decide +kernel)
theorem cl_inst : Cond.instanceMethod ⟨"java/lang/Object", "clone", "()Ljava/lang/Object;"⟩ ∈ TB := tb_2 164 (by decide +kernel) (by decide +kernel)
theorem cl_sel : Cond.selects "[I" ⟨"[I", "clone", "()Ljava/lang/Object;"⟩ ⟨"java/lang/Object", "clone", "()Ljava/lang/Object;"⟩ ∈ TB := tb_2 165 (by decide +kernel) (by decide +kernel)
theorem cl_cl : Cond.classLink RJ7 317 "[I" ∈ TB := tb_2 167 (by decide +kernel) (by decide +kernel)
theorem ml_J7_304 : Cond.methodLink RJ7 304 Lib.Math.min.name ∈ TB := tb_2 168 (by decide +kernel) (by decide +kernel)
theorem ac_int : Cond.arrayClass .int ∈ TB := tb_1 130 (by decide +kernel) (by decide +kernel)
theorem ini_J7 : Cond.initialized RJ7 ∈ TB := tb_1 16 (by decide +kernel) (by decide +kernel)
theorem cd_J7_copyOf_59c91 : Cond.code yJ7_copyOf_59c91 cJ7_copyOf_59c91 3 (some (.array .int)) ∈ TB := tb_2 160 (by decide +kernel) (by decide +kernel)
theorem st_J7_copyOf_59c91 : Cond.static yJ7_copyOf_59c91 ∈ TB := tb_2 159 (by decide +kernel) (by decide +kernel)
theorem dJ7_copyOf_59c91_0 : decode cJ7_copyOf_59c91 0 = .ok (.iload_n 1, 1) := by decide +kernel
theorem dJ7_copyOf_59c91_1 : decode cJ7_copyOf_59c91 1 = .ok (.aload_n 0, 1) := by decide +kernel
theorem dJ7_copyOf_59c91_2 : decode cJ7_copyOf_59c91 2 = .ok (.arraylength, 1) := by decide +kernel
theorem dJ7_copyOf_59c91_3 : decode cJ7_copyOf_59c91 3 = .ok (.if_icmp .ne 11, 3) := by decide +kernel
theorem dJ7_copyOf_59c91_6 : decode cJ7_copyOf_59c91 6 = .ok (.aload_n 0, 1) := by decide +kernel
theorem dJ7_copyOf_59c91_7 : decode cJ7_copyOf_59c91 7 = .ok (.invokevirtual 316, 3) := by decide +kernel
theorem dJ7_copyOf_59c91_10 : decode cJ7_copyOf_59c91 10 = .ok (.checkcast 317, 3) := by decide +kernel
theorem dJ7_copyOf_59c91_13 : decode cJ7_copyOf_59c91 13 = .ok (.areturn, 1) := by decide +kernel
theorem dJ7_copyOf_59c91_14 : decode cJ7_copyOf_59c91 14 = .ok (.iload_n 1, 1) := by decide +kernel
theorem dJ7_copyOf_59c91_15 : decode cJ7_copyOf_59c91 15 = .ok (.newarray .int, 2) := by decide +kernel
theorem dJ7_copyOf_59c91_17 : decode cJ7_copyOf_59c91 17 = .ok (.astore_n 2, 1) := by decide +kernel
theorem dJ7_copyOf_59c91_18 : decode cJ7_copyOf_59c91 18 = .ok (.aload_n 0, 1) := by decide +kernel
theorem dJ7_copyOf_59c91_19 : decode cJ7_copyOf_59c91 19 = .ok (.iconst 0, 1) := by decide +kernel
theorem dJ7_copyOf_59c91_20 : decode cJ7_copyOf_59c91 20 = .ok (.aload_n 2, 1) := by decide +kernel
theorem dJ7_copyOf_59c91_21 : decode cJ7_copyOf_59c91 21 = .ok (.iconst 0, 1) := by decide +kernel
theorem dJ7_copyOf_59c91_22 : decode cJ7_copyOf_59c91 22 = .ok (.aload_n 0, 1) := by decide +kernel
theorem dJ7_copyOf_59c91_23 : decode cJ7_copyOf_59c91 23 = .ok (.arraylength, 1) := by decide +kernel
theorem dJ7_copyOf_59c91_24 : decode cJ7_copyOf_59c91 24 = .ok (.iload_n 1, 1) := by decide +kernel
theorem dJ7_copyOf_59c91_25 : decode cJ7_copyOf_59c91 25 = .ok (.invokestatic 304, 3) := by decide +kernel
theorem dJ7_copyOf_59c91_28 : decode cJ7_copyOf_59c91 28 = .ok (.invokestatic 150, 3) := by decide +kernel
theorem dJ7_copyOf_59c91_31 : decode cJ7_copyOf_59c91 31 = .ok (.aload_n 2, 1) := by decide +kernel
theorem dJ7_copyOf_59c91_32 : decode cJ7_copyOf_59c91 32 = .ok (.areturn, 1) := by decide +kernel
theorem cd_J7_fill_53178 : Cond.code yJ7_fill_53178 cJ7_fill_53178 4 none ∈ TB := tb_5 130 (by decide +kernel) (by decide +kernel)
theorem st_J7_fill_53178 : Cond.static yJ7_fill_53178 ∈ TB := tb_5 129 (by decide +kernel) (by decide +kernel)
theorem dJ7_fill_53178_0 : decode cJ7_fill_53178 0 = .ok (.iconst 0, 1) := by decide +kernel
theorem dJ7_fill_53178_1 : decode cJ7_fill_53178 1 = .ok (.istore_n 2, 1) := by decide +kernel
theorem dJ7_fill_53178_2 : decode cJ7_fill_53178 2 = .ok (.aload_n 0, 1) := by decide +kernel
theorem dJ7_fill_53178_3 : decode cJ7_fill_53178 3 = .ok (.arraylength, 1) := by decide +kernel
theorem dJ7_fill_53178_4 : decode cJ7_fill_53178 4 = .ok (.istore_n 3, 1) := by decide +kernel
theorem dJ7_fill_53178_5 : decode cJ7_fill_53178 5 = .ok (.iload_n 2, 1) := by decide +kernel
theorem dJ7_fill_53178_6 : decode cJ7_fill_53178 6 = .ok (.iload_n 3, 1) := by decide +kernel
theorem dJ7_fill_53178_7 : decode cJ7_fill_53178 7 = .ok (.if_icmp .ge 13, 3) := by decide +kernel
theorem dJ7_fill_53178_10 : decode cJ7_fill_53178 10 = .ok (.aload_n 0, 1) := by decide +kernel
theorem dJ7_fill_53178_11 : decode cJ7_fill_53178 11 = .ok (.iload_n 2, 1) := by decide +kernel
theorem dJ7_fill_53178_12 : decode cJ7_fill_53178 12 = .ok (.iload_n 1, 1) := by decide +kernel
theorem dJ7_fill_53178_13 : decode cJ7_fill_53178 13 = .ok (.iastore, 1) := by decide +kernel
theorem dJ7_fill_53178_14 : decode cJ7_fill_53178 14 = .ok (.iinc 2 1, 3) := by decide +kernel
theorem dJ7_fill_53178_17 : decode cJ7_fill_53178 17 = .ok (.goto (-12), 3) := by decide +kernel
theorem dJ7_fill_53178_20 : decode cJ7_fill_53178 20 = .ok (.return_, 1) := by decide +kernel
set_option maxRecDepth 20000 in
theorem v_X4_64 : qSw RX4 64 yJ7_copyOf_59c91 cJ7_copyOf_59c91 3 (some (.array .int)) 2 := ⟨tb_2 158 (by decide +kernel) (by decide +kernel), st_J7_copyOf_59c91, ini_J7, cd_J7_copyOf_59c91, by decide +kernel, by decide +kernel, by decide +kernel⟩
theorem v_X2_19 : qSw RX2 19 yJ7_fill_53178 cJ7_fill_53178 4 none 2 := ⟨tb_5 128 (by decide +kernel) (by decide +kernel), st_J7_fill_53178, ini_J7, cd_J7_fill_53178, by decide +kernel, by decide +kernel, by decide +kernel⟩
section Q4
variable {p : Program} {l : Launch} {e : Env} {R : Room} {s : State} {m : MethodId} {args : Array Value} {below : List Frame} {meth : Method} {c : Code} {H : Heap} {locs : List Loc} {cells slots : Nat} {Q : State → Prop}
variable {own : String} {cc : ByteArray} {mL : Nat} {r : Option FieldType} {D : va_G} {t : Nat → ClassId} {b n : Nat} {σ : qM} {pc : Nat} {ls : Array Slot} {rest : List Value}
theorem q_copyi (X : qX p s args m meth c RJ7 cc mL r D t b) (w : qW D b n σ s H locs) {k0 k1 n0 n1 : Nat} {f g : Nat → Int32} (h0 : σ k0 = some (.inl (t 0, n0, .inl f))) (h1' : σ k1 = some (.inl (t 0, n1, .inl g))) {sp dp x : Int32} (h1 : ¬ sp < 0) (h2 : ¬ dp < 0) (h3 : ¬ x < 0) (h4 : sp.toNatClampNeg + x.toNatClampNeg ≤ n0) (h5 : dp.toNatClampNeg + x.toNatClampNeg ≤ n1) (hR : 1 ≤ R.frames ∧ 8 + (nativeFrameWords "java/lang/System" "arraycopy" 5 + 11) ≤ R.locals) (hsz : ls.size = mL) (hrm : (rest.map fun v => v.category).sum ≤ 8) (hdg : decode cc pc = .ok (.invokestatic 150, 3))
    (kk : ∀ (H1 : Heap) (locs1 : List Loc), qW D b n (va_up σ k1 (some (.inl (t 0, n1, .inl (va_cpy f g sp.toNatClampNeg dp.toNatClampNeg x.toNatClampNeg))))) s H1 locs1 → W p l e R s m args below meth c H1 locs1 cells slots Q (F0 m (pc + 3) ls rest)) : W p l e R s m args below meth c H locs cells slots Q (F0 m pc ls (.int x :: .int dp :: .ref (b + k1) :: .int sp :: .ref (b + k0) :: rest)) := by
  have nn : ∀ z : Int32, ¬ z < 0 → z.toInt = (z.toNatClampNeg : Int) := by
    intro z hz
    have hz0 : (0 : Int) ≤ z.toInt := by
      have := Int32.not_lt.mp hz
      simpa using Int32.le_iff_toInt_le.mp this
    show z.toInt = ((z.toInt.toNat : Nat) : Int)
    omega
  have hK := X.2.2.2.2.2.2.2.1
  intro T hT XX
  have hc0 : H[b + k0]? = some (vp_cell (t 0) (n0, .inl f)) := w.1.2 k0 _ h0
  have hc1 : H[b + k1]? = some (vp_cell (t 0) (n1, .inl g)) := w.1.2 k1 _ h1'
  obtain ⟨-, kA0, hk0, cm0, hkk0⟩ := (hK.2 0 _ rfl).1 n0 (fun j => .int (f j))
  obtain ⟨-, kA1, hk1, cm1, hkk1⟩ := (hK.2 0 _ rfl).1 n1 (fun j => .int (g j))
  obtain ⟨vm', X', step⟩ := XX.arraycopy X.1 X.2.2.2.1 (X.2.2.1 _ ac_link) (X.2.2.1 _ ac_nat) (X.2.2.1 _ ac_st) (X.2.2.1 _ ac_ini) (src := b + k0) (dst := b + k1) (cs := vp_cell (t 0) (n0, .inl f)) (cd := vp_cell (t 0) (n1, .inl g)) (srcPos := sp) (destPos := dp) (n := x) (by rw [hT]; exact hc0) (by rw [hT]; exact hc1)
    (fun _ h => by cases h) (fun _ h => by cases h) (fun h => by cases h) (fun h => by cases h) hk0 hk1 hkk0 hkk1 (by simp [refKind]) h1 h2 h3
    (by rw [nn sp h1, nn x h3]; show ¬ _ > ((arrV (t 0) n0 (fun j => .int (f j))).slots.size : Int); rw [arrV_size]; omega)
    (by rw [nn dp h2, nn x h3]; show ¬ _ > ((arrV (t 0) n1 (fun j => .int (g j))).slots.size : Int); rw [arrV_size]; omega)
    (fun vm₁ _ i hi => by
      have e : (vp_cell (t 0) (n0, .inl f)).slots.getD (sp.toNatClampNeg + i) .null = .int (f (sp.toNatClampNeg + i)) := by
        show (arrV (t 0) n0 (fun j => .int (f j))).slots.getD _ _ = _
        rw [Array.getD_eq_getD_getElem?, arrV_read _ _ (by omega)]
        rfl
      refine ⟨?_, ?_⟩
      · rw [e]
        exact rfl
      · rw [e]
        exact trivial)
    (g := F0 m pc ls (.int x :: .int dp :: .ref (b + k1) :: .int sp :: .ref (b + k0) :: rest)) rfl (by rw [X.2.2.2.2.1]; exact hsz) (rest := rest) rfl (by rw [X.2.1]; exact hdg) hR.1 (by show 2 * 0 + _ + _ ≤ _; have := hR.2; omega)
  have e1 : copied (vp_cell (t 0) (n0, .inl f)) (vp_cell (t 0) (n1, .inl g)) sp dp x = vp_cell (t 0) (n1, .inl (va_cpy f g sp.toNatClampNeg dp.toNatClampNeg x.toNatClampNeg)) := va_copied (fun z => .int z) (t 0) (t 0) f g h4
  rw [e1] at X' step
  have hl : b + k1 < H.size := (Array.getElem?_eq_some_iff.mp hc1).1
  have hheap : ((T.setVm vm').setCell (b + k1) (vp_cell (t 0) (n1, .inl (va_cpy f g sp.toNatClampNeg dp.toNatClampNeg x.toNatClampNeg)))).heap = H.setIfInBounds (b + k1) (vp_cell (t 0) (n1, .inl (va_cpy f g sp.toNatClampNeg dp.toNatClampNeg x.toNatClampNeg))) := by rw [← hT]; rfl
  have oq : ∀ q : Nat, q ≠ b + k1 → (H.setIfInBounds (b + k1) (vp_cell (t 0) (n1, .inl (va_cpy f g sp.toNatClampNeg dp.toNatClampNeg x.toNatClampNeg))))[q]? = H[q]? := fun q hq => by simp [Array.getElem?_setIfInBounds, Ne.symm hq]
  obtain ⟨t', a1, b1⟩ := kk _ _ ⟨w.1.up (by simp) oq (show (H.setIfInBounds (b + k1) _)[b + k1]? = some _ by simp [Array.getElem?_setIfInBounds, hl]), ⟨by simp; exact w.2.1.1, fun q g1 g2 => by
      rw [oq q (fun e => g2 (by rw [e]; exact Nat.le_add_right _ _))]
      exact w.2.1.2.1 q g1 g2, fun q hq => by
      rcases List.mem_append.mp hq with h | h
      · exact w.2.1.2.2 q h
      · obtain ⟨z, -, hz⟩ := List.mem_map.mp h
        rw [← hz]
        exact Nat.le_add_right _ _⟩, w.2.2⟩ _ hheap X'
  exact ⟨t', step t' a1, b1⟩
theorem q_nm (X : qX p s args m meth c own cc mL r D t b) : s.vm.findClass "[I" = some (t 0) := (X.2.2.2.2.2.2.2.1.2 0 _ rfl).2
theorem q_clonei (X : qX p s args m meth c RJ7 cc mL r D t b) (hE : EK s) (w : qW D b n σ s H locs) {k n0 : Nat} {f : Nat → Int32} (h0 : σ k = some (.inl (t 0, n0, .inl f))) (hR : 1 ≤ R.frames ∧ 22 ≤ R.locals) (hcells : cells + 1 ≤ R.cells) (hslots : slots + n0 ≤ R.slots) (hsz : ls.size = mL) (hrm : (rest.map fun v => v.category).sum ≤ 8) (hdg : decode cc pc = .ok (.invokevirtual 316, 3))
    (kk : ∀ H1 : Heap, qW D b (n + 1) (va_up σ n (some (.inl (t 0, n0, .inl f)))) s H1 locs → W p l e R s m args below meth c H1 locs (cells + 1) (slots + n0) Q (F0 m (pc + 3) ls (.ref (b + n) :: rest))) : W p l e R s m args below meth c H locs cells slots Q (F0 m pc ls (.ref (b + k) :: rest)) := by
  have hK := X.2.2.2.2.2.2.2.1
  have hnm := q_nm X
  have hsz0 : (vp_cell (t 0) (n0, .inl f)).slots.size = n0 := arrV_size _ _ _
  obtain ⟨c0, t0', f1, f2, f3⟩ := Cond.castable_spec (va_Nw.use (A := args) rfl hE.1)
  cases hnm.symm.trans f1
  intro T hT XX
  have hcellT : T.heap[b + k]? = some (vp_cell (t 0) (n0, .inl f)) := by rw [hT]; exact w.1.2 k _ h0
  obtain ⟨-, kA, hkA, comp, hkind⟩ := State.isArrayOf_alike XX.warmed.alike ((hK.2 0 _ rfl).1 0 (fun _ => .null))
  obtain ⟨-, kS, hkS, compS, hkindS⟩ := (hK.2 0 _ rfl).1 0 (fun _ => .null)
  obtain ⟨vm', X', st⟩ := XX.cloneArray X.1 X.2.2.2.1 (X.2.2.1 _ cl_link) (X.2.2.1 _ cl_same) (X.2.2.1 _ cl_nat) (X.2.2.1 _ cl_inst) (X.2.2.1 _ cl_sel) (a := b + k) (cell := vp_cell (t 0) (n0, .inl f)) hcellT (fun k h => by cases h) (fun h => by cases h) hnm f2 f3
    (fun i v hv => by
      have hk' : T.vm.classes[t 0]? = some kA := hkA
      have hfit : fits .int v = true := by
        have hi : i < n0 := by
          have := (Array.getElem?_eq_some_iff.mp hv).1
          rw [hsz0] at this
          exact this
        have e : (arrV (t 0) n0 (fun j => .int (f j))).slots[i]? = some v := hv
        rw [arrV_read _ _ hi] at e
        cases e
        rfl
      show T.fitsSlot (t 0) .none i v = true
      simpa [State.fitsSlot, State.slotType?, hk', hkind] using hfit)
    (g := F0 m pc ls (.ref (b + k) :: rest)) rfl (by rw [X.2.2.2.2.1]; exact hsz) rfl (by rw [X.2.1]; exact hdg) hR.1 (by show 2 * 0 + _ + 14 ≤ _; have := hR.2; omega) hcells (by rw [hsz0]; exact hslots) (hloader := Vm.clonesLoader_of_array hkS hkindS)
  rw [hsz0] at X'
  generalize hH1 : H.push (vp_cell (t 0) (n0, .inl f)) = H1
  have z1 : H1.size = H.size + 1 := by rw [← hH1, Array.size_push]
  have e1 : H1[b + n]? = some (vp_cell (t 0) (n0, .inl f)) := by rw [← hH1, ← w.1.1, Array.getElem?_push_size]
  have o1 : ∀ q : Nat, q < H.size → H1[q]? = H[q]? := fun q hq => by rw [← hH1, Array.getElem?_push, if_neg (Nat.ne_of_lt hq)]
  obtain ⟨t', b1, b2⟩ := kk H1 ⟨w.1.push z1 o1 e1, ⟨Nat.le_trans w.2.1.1 (by omega), fun y h1 h2 => (o1 y (Nat.lt_of_lt_of_le h1 w.2.1.1)).trans (w.2.1.2.1 y h1 h2), w.2.1.2.2⟩, w.2.2⟩
    ((T.setVm vm').pushCell (vp_cell (t 0) (n0, .inl f))) (by rw [← hH1, ← hT]; rfl) X'
  refine ⟨t', st t' ?_, b2⟩
  rw [hT, w.1.1]
  exact b1
theorem q_casti (X : qX p s args m meth c RJ7 cc mL r D t b) (w : qW D b n σ s H locs) {k : Nat} {x : vp_A} (h0 : σ k = some (.inl (t 0, x))) (hdg : decode cc pc = .ok (.checkcast 317, 3))
    (kk : W p l e R s m args below meth c H locs cells slots Q (F0 m (pc + 3) ls (.ref (b + k) :: rest))) : W p l e R s m args below meth c H locs cells slots Q (F0 m pc ls (.ref (b + k) :: rest)) :=
  va_castA X.1 X.2.1 X.2.2.2.1 (X.2.2.1 _ cl_cl) (w.1.one h0) 0 rfl (q_nm X) hdg kk
/-! contracts under EK -/
def qPreK (D : va_G) (t : Nat → ClassId) (b n : Nat) (σ : qM) (As : List Value) : Array Value → State → Prop := va_Pc As (fun U => WB D b n σ U.heap ∧ GP D t b U ∧ EK U)
theorem qPreK.blind {As : List Value} : FrameBlind (qPreK D t b n σ As) := fun _ _ _ _ q => ⟨q.1, q.2.1, q.2.2.1.blind, q.2.2.2.blind⟩
def qAK (l : Launch) (y : MethodName) (cc : ByteArray) (mL : Nat) (r : Option FieldType) (d mc ms : Nat) (D : va_G) (t : Nat → ClassId) (b n : Nat) (σ : qM) (As : List Value) (post : Option Nat → Nat → qM → Prop) : Prop :=
  Met l y (.code y cc mL r :: TB) (qR d mc ms) (qPreK D t b n σ As) (qAQ D b post) mc ms (fun q => b ≤ q)
def qVK (l : Launch) (y : MethodName) (cc : ByteArray) (mL : Nat) (d mc ms : Nat) (D : va_G) (t : Nat → ClassId) (b n : Nat) (σ : qM) (As : List Value) (post : Nat → qM → Prop) : Prop :=
  Met l y (.code y cc mL none :: TB) (qR d mc ms) (qPreK D t b n σ As) (va_Qv (S := Nat × qM) (fun u => post u.1 u.2) (fun u T => WB D b u.1 u.2 T.heap) (fun q => b ≤ q)) mc ms (fun q => b ≤ q)
theorem qAK.of {y : MethodName} {d mc ms : Nat} {As : List Value} {post : Option Nat → Nat → qM → Prop} (hy : plainName y.cls = true) (hA : (lg_sl As).length ≤ mL)
    (k : ∀ (p : Program) (e : Env) (s : State) (m : MethodId) (args : Array Value) (below : List Frame) (meth : Method) (c : Code), qX p s args m meth c y.cls cc mL r D t b → EK s → qW D b n σ s s.heap [] → ∀ ls : Array Slot, lv_has ls mL (lv_args 0 As) →
      W p l e (qR d mc ms) s m args below meth c s.heap [] 0 0 (MQ below (qAQ D b post) args s mc ms (fun q => b ≤ q)) (F0 m 0 ls [])) : qAK l y cc mL r d mc ms D t b n σ As post := by
  refine Met.ofW (cc := cc) (maxL := mL) (ret := r) hy rfl ?_
  intro p e s m args below meth c s₁ B hml hv
  obtain ⟨rfl, hw, hG, hE⟩ := hv
  have hts := atoms_spec (ws := Cond.code y cc mL r :: TB) B.pre
  refine q_start hA (fun ls hl => ?_)
  exact k p e s m _ below meth c ⟨B.exec, B.bytes, fun w h => hts w (List.mem_cons_of_mem _ h), findClass_of_methodNamed B.named, hml, B.returns, B.notSynchronized, hG⟩ hE ⟨hw, va_S.rf, by rw [hw.1]; exact Nat.le_add_right _ _⟩ ls hl
theorem qAK.ofF {y : MethodName} {d mc ms : Nat} {As : List Value} {post : Option Nat → Nat → qM → Prop} (hy : plainFor y = true) (hA : (lg_sl As).length ≤ mL)
    (k : ∀ (p : Program) (e : Env) (s : State) (m : MethodId) (args : Array Value) (below : List Frame) (meth : Method) (c : Code), qX p s args m meth c y.cls cc mL r D t b → EK s → qW D b n σ s s.heap [] → ∀ ls : Array Slot, lv_has ls mL (lv_args 0 As) →
      W p l e (qR d mc ms) s m args below meth c s.heap [] 0 0 (MQ below (qAQ D b post) args s mc ms (fun q => b ≤ q)) (F0 m 0 ls [])) : qAK l y cc mL r d mc ms D t b n σ As post := by
  refine va_MetF (cc := cc) (maxL := mL) (ret := r) hy rfl ?_
  intro p e s m args below meth c s₁ B hml hv
  obtain ⟨rfl, hw, hG, hE⟩ := hv
  have hts := atoms_spec (ws := Cond.code y cc mL r :: TB) B.pre
  refine q_start hA (fun ls hl => ?_)
  exact k p e s m _ below meth c ⟨B.exec, B.bytes, fun w h => hts w (List.mem_cons_of_mem _ h), findClass_of_methodNamed B.named, hml, B.returns, B.notSynchronized, hG⟩ hE ⟨hw, va_S.rf, by rw [hw.1]; exact Nat.le_add_right _ _⟩ ls hl
theorem qVK.of {y : MethodName} {d mc ms : Nat} {As : List Value} {post : Nat → qM → Prop} (hy : plainName y.cls = true) (hA : (lg_sl As).length ≤ mL)
    (k : ∀ (p : Program) (e : Env) (s : State) (m : MethodId) (args : Array Value) (below : List Frame) (meth : Method) (c : Code), qX p s args m meth c y.cls cc mL none D t b → EK s → qW D b n σ s s.heap [] → (y.name = "<init>" → meth.name = "<init>") → ∀ ls : Array Slot, lv_has ls mL (lv_args 0 As) →
      W p l e (qR d mc ms) s m args below meth c s.heap [] 0 0 (MQ below (va_Qv (S := Nat × qM) (fun u => post u.1 u.2) (fun u T => WB D b u.1 u.2 T.heap) (fun q => b ≤ q)) args s mc ms (fun q => b ≤ q)) (F0 m 0 ls [])) : qVK l y cc mL d mc ms D t b n σ As post := by
  refine Met.ofW (cc := cc) (maxL := mL) (ret := none) hy rfl ?_
  intro p e s m args below meth c s₁ B hml hv
  obtain ⟨rfl, hw, hG, hE⟩ := hv
  have hts := atoms_spec (ws := Cond.code y cc mL none :: TB) B.pre
  refine q_start hA (fun ls hl => ?_)
  exact k p e s m _ below meth c ⟨B.exec, B.bytes, fun w h => hts w (List.mem_cons_of_mem _ h), findClass_of_methodNamed B.named, hml, B.returns, B.notSynchronized, hG⟩ hE ⟨hw, va_S.rf, by rw [hw.1]; exact Nat.le_add_right _ _⟩ (fun h => (name_of_methodNamed B.named B.method).1.trans h) ls hl
theorem qV.ofF {y : MethodName} {d mc ms : Nat} {As : List Value} {post : Nat → qM → Prop} (hy : plainFor y = true) (hA : (lg_sl As).length ≤ mL)
    (k : ∀ (p : Program) (e : Env) (s : State) (m : MethodId) (args : Array Value) (below : List Frame) (meth : Method) (c : Code), qX p s args m meth c y.cls cc mL none D t b → qW D b n σ s s.heap [] → ∀ ls : Array Slot, lv_has ls mL (lv_args 0 As) →
      W p l e (qR d mc ms) s m args below meth c s.heap [] 0 0 (MQ below (va_Qv (S := Nat × qM) (fun u => post u.1 u.2) (fun u T => WB D b u.1 u.2 T.heap) (fun q => b ≤ q)) args s mc ms (fun q => b ≤ q)) (F0 m 0 ls [])) : qV l y cc mL d mc ms D t b n σ As post := by
  refine va_MetF (cc := cc) (maxL := mL) (ret := none) hy rfl ?_
  intro p e s m args below meth c s₁ B hml hv
  obtain ⟨rfl, hw, hG⟩ := hv
  have hts := atoms_spec (ws := Cond.code y cc mL none :: TB) B.pre
  refine q_start hA (fun ls hl => ?_)
  exact k p e s m _ below meth c ⟨B.exec, B.bytes, fun w h => hts w (List.mem_cons_of_mem _ h), findClass_of_methodNamed B.named, hml, B.returns, B.notSynchronized, hG⟩ ⟨hw, va_S.rf, by rw [hw.1]; exact Nat.le_add_right _ _⟩ ls hl
theorem q_preSK (X : qX p s args m meth c own cc mL r D t b) (hE : EK s) (w : qW D b n σ s H locs) {As : List Value} : PreS s H (qPreK D t b n σ As) As :=
  ⟨qPreK.blind, fun _ hU hW => ⟨rfl, by rw [hU]; exact w.1, X.2.2.2.2.2.2.2.at w.2.1 hU hW, hE.at hW⟩⟩
theorem q_preVK (X : qX p s args m meth c own cc mL r D t b) (hE : EK s) (w : qW D b n σ s H locs) {ci k : Nat} {fs : List Value} {C : String} {T : u_T} {N : Nat} (hk : σ k = some (.inr (ci, fs))) (hc : vwCl[ci]? = some (C, T, N)) {As : List Value} : PreV s H C (b + k) (qPreK D t b n σ (.ref (b + k) :: As)) As :=
  ⟨qPreK.blind, va_recv (q := (C, T, N)) X.2.2.2.2.2.2.2.1 (w.1.one hk) hc (q0 := 0) rfl, fun _ hU hW => ⟨rfl, by rw [hU]; exact w.1, X.2.2.2.2.2.2.2.at w.2.1 hU hW, hE.at hW⟩⟩
theorem q_cASK (X : qX p s args m meth c own cc mL r D t b) (hE : EK s) (w : qW D b n σ s H locs) {idx : Nat} {y : MethodName} {yc : ByteArray} {ymL : Nat} {yr : Option FieldType} {N d' mc ms : Nat} {As : List Value} {post : Option Nat → Nat → qM → Prop} (hM : qAK l y yc ymL yr d' mc ms D t b n σ As post) (cw : qSw own idx y yc ymL yr N) (hn : As.length = N) (hR : d' + 1 ≤ R.frames ∧ 8 + (ymL + 11) + 40 * d' ≤ R.locals) {st : List Value} (hst : st = As.reverse ++ rest) (hsz : ls.size = mL) (hrm : (rest.map fun v => v.category).sum ≤ 8) (hdg : decode cc pc = .ok (.invokestatic idx, 3)) (hf : cells + mc ≤ R.cells ∧ slots + ms ≤ R.slots)
    (kk : ∀ (o : Option Nat) (n1 : Nat) (σ1 : qM) (H1 : Heap) (locs1 : List Loc), post o n1 σ1 → qW D b n1 σ1 s H1 locs1 → W p l e R s m args below meth c H1 locs1 (cells + mc) (slots + ms) Q (F0 m (pc + 3) ls (rfp b o :: rest))) : W p l e R s m args below meth c H locs cells slots Q (F0 m pc ls st) :=
  va_callq (va_runS ⟨X.1, X.2.1, X.2.2.2.2.1, X.2.2.2.1, X.2.2.1⟩ hM (cw.cw X.2.2.1 hR) (q_preSK X hE w) rfl hn hsz hst (lv_room hrm) hdg hf) w.2.1 (fun _ _ h => h) (fun _ h => h)
    (fun z u T H1 locs1 ht _ hp hB _ _ hS => by
      obtain ⟨o, n1, σ1⟩ := u
      obtain ⟨rfl, hp⟩ := hp
      exact kk o n1 σ1 H1 locs1 hp ⟨by rw [← ht]; exact hB, hS, w.2.2⟩)
theorem q_cAVK (X : qX p s args m meth c own cc mL r D t b) (hE : EK s) (w : qW D b n σ s H locs) {idx : Nat} {y : MethodName} {yc : ByteArray} {ymL : Nat} {yr : Option FieldType} {N d' mc ms k : Nat} {As : List Value} {post : Option Nat → Nat → qM → Prop} (hM : qAK l y yc ymL yr d' mc ms D t b n σ (.ref (b + k) :: As) post) (cw : qVw own idx y yc ymL yr N) {ci : Nat} {fs : List Value} {T : u_T} {NF : Nat} (hk : σ k = some (.inr (ci, fs))) (hc : vwCl[ci]? = some (y.cls, T, NF)) (hn : As.length = N) (hR : d' + 1 ≤ R.frames ∧ 8 + (ymL + 11) + 40 * d' ≤ R.locals) {st : List Value} (hst : st = As.reverse ++ .ref (b + k) :: rest) (hsz : ls.size = mL) (hrm : (rest.map fun v => v.category).sum ≤ 8) (hdg : decode cc pc = .ok (.invokevirtual idx, 3)) (hf : cells + mc ≤ R.cells ∧ slots + ms ≤ R.slots)
    (kk : ∀ (o : Option Nat) (n1 : Nat) (σ1 : qM) (H1 : Heap) (locs1 : List Loc), post o n1 σ1 → qW D b n1 σ1 s H1 locs1 → W p l e R s m args below meth c H1 locs1 (cells + mc) (slots + ms) Q (F0 m (pc + 3) ls (rfp b o :: rest))) : W p l e R s m args below meth c H locs cells slots Q (F0 m pc ls st) :=
  va_callq (va_runV ⟨X.1, X.2.1, X.2.2.2.2.1, X.2.2.2.1, X.2.2.1⟩ hM (cw.cw X.2.2.1 hR) (q_preVK X hE w hk hc) rfl hn hsz hst (lv_room hrm) hdg hf) w.2.1 (fun _ _ h => h) (fun _ h => h)
    (fun z u T H1 locs1 ht _ hp hB _ _ hS => by
      obtain ⟨o, n1, σ1⟩ := u
      obtain ⟨rfl, hp⟩ := hp
      exact kk o n1 σ1 H1 locs1 hp ⟨by rw [← ht]; exact hB, hS, w.2.2⟩)
theorem q_cVS (X : qX p s args m meth c own cc mL r D t b) (w : qW D b n σ s H locs) {idx : Nat} {y : MethodName} {yc : ByteArray} {ymL : Nat} {N d' mc ms : Nat} {As : List Value} {post : Nat → qM → Prop} (hM : qV l y yc ymL d' mc ms D t b n σ As post) (cw : qSw own idx y yc ymL none N) (hn : As.length = N) (hR : d' + 1 ≤ R.frames ∧ 8 + (ymL + 11) + 40 * d' ≤ R.locals) {st : List Value} (hst : st = As.reverse ++ rest) (hsz : ls.size = mL) (hrm : (rest.map fun v => v.category).sum ≤ 8) (hdg : decode cc pc = .ok (.invokestatic idx, 3)) (hf : cells + mc ≤ R.cells ∧ slots + ms ≤ R.slots)
    (kk : ∀ (n1 : Nat) (σ1 : qM) (H1 : Heap) (locs1 : List Loc), post n1 σ1 → qW D b n1 σ1 s H1 locs1 → W p l e R s m args below meth c H1 locs1 (cells + mc) (slots + ms) Q (F0 m (pc + 3) ls rest)) : W p l e R s m args below meth c H locs cells slots Q (F0 m pc ls st) :=
  va_callv (va_runS ⟨X.1, X.2.1, X.2.2.2.2.1, X.2.2.2.1, X.2.2.1⟩ hM (cw.cw X.2.2.1 hR) (q_preS X w) rfl hn hsz hst (lv_room hrm) hdg hf) w.2.1 (fun _ _ h => h) (fun _ h => h)
    (fun u T H1 locs1 ht _ hp hB _ _ hS => kk u.1 u.2 H1 locs1 hp ⟨by rw [← ht]; exact hB, hS, w.2.2⟩)
theorem q_cVIK (X : qX p s args m meth c own cc mL r D t b) (hE : EK s) (w : qW D b n σ s H locs) {idx : Nat} {y : MethodName} {yc : ByteArray} {ymL : Nat} {N d' mc ms k : Nat} {As : List Value} {post : Nat → qM → Prop} (hM : qVK l y yc ymL d' mc ms D t b n σ (.ref (b + k) :: As) post) (cw : qIw own idx y yc ymL N) (hn : As.length = N) (hR : d' + 1 ≤ R.frames ∧ 8 + (ymL + 11) + 40 * d' ≤ R.locals) {st : List Value} (hst : st = As.reverse ++ .ref (b + k) :: rest) (hsz : ls.size = mL) (hrm : (rest.map fun v => v.category).sum ≤ 8) (hdg : decode cc pc = .ok (.invokespecial idx, 3)) (hf : cells + mc ≤ R.cells ∧ slots + ms ≤ R.slots)
    (kk : ∀ (n1 : Nat) (σ1 : qM) (H1 : Heap) (locs1 : List Loc), post n1 σ1 → qW D b n1 σ1 s H1 locs1 → W p l e R s m args below meth c H1 locs1 (cells + mc) (slots + ms) Q (F0 m (pc + 3) ls rest)) : W p l e R s m args below meth c H locs cells slots Q (F0 m pc ls st) :=
  va_callv (va_runI ⟨X.1, X.2.1, X.2.2.2.2.1, X.2.2.2.1, X.2.2.1⟩ hM (cw.cw X.2.2.1 hR) (q_preSK X hE w) rfl hn hsz hst (lv_room hrm) hdg hf) w.2.1 (fun _ _ h => h) (fun _ h => h)
    (fun u T H1 locs1 ht _ hp hB _ _ hS => kk u.1 u.2 H1 locs1 hp ⟨by rw [← ht]; exact hB, hS, w.2.2⟩)
theorem q_cVINK (X : qX p s args m meth c own cc mL r D t b) (hE : EK s) (w : qW D b n σ s H locs) {idx : Nat} {y : MethodName} {yc : ByteArray} {ymL : Nat} {N d' mc ms k : Nat} {As : List Value} {post : Nat → qM → Prop} (hM : qVK l y yc ymL d' mc ms D t b n σ (.ref (b + k) :: As) post) (cw : qNIw own idx y yc ymL N) (hn : As.length = N) (hR : d' + 1 ≤ R.frames ∧ 8 + (ymL + 11) + 40 * d' ≤ R.locals) {st : List Value} (hst : st = As.reverse ++ .ref (b + k) :: rest) (hsz : ls.size = mL) (hrm : (rest.map fun v => v.category).sum ≤ 8) (hdg : decode cc pc = .ok (.invokespecial idx, 3)) (hf : cells + mc ≤ R.cells ∧ slots + ms ≤ R.slots)
    (kk : ∀ (n1 : Nat) (σ1 : qM) (H1 : Heap) (locs1 : List Loc), post n1 σ1 → qW D b n1 σ1 s H1 locs1 → W p l e R s m args below meth c H1 locs1 (cells + mc) (slots + ms) Q (F0 m (pc + 3) ls rest)) : W p l e R s m args below meth c H locs cells slots Q (F0 m pc ls st) :=
  va_callv (va_runIN ⟨X.1, X.2.1, X.2.2.2.2.1, X.2.2.2.1, X.2.2.1⟩ hM (cw.cw X.2.2.1 X.2.2.2.2.2.2.2 hR) (q_preSK X hE w) rfl hn hsz hst (lv_room hrm) hdg hf) w.2.1 (fun _ _ h => h) (fun _ h => h)
    (fun u T H1 locs1 ht _ hp hB _ _ hS => kk u.1 u.2 H1 locs1 hp ⟨by rw [← ht]; exact hB, hS, w.2.2⟩)
end Q4
