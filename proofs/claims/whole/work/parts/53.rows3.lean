section Q3
variable {p : Program} {l : Launch} {e : Env} {R : Room} {s : State} {m : MethodId} {args : Array Value} {below : List Frame} {meth : Method} {c : Code} {H : Heap} {locs : List Loc} {cells slots : Nat} {Q : State → Prop}
variable {own : String} {cc : ByteArray} {mL : Nat} {r : Option FieldType} {D : va_G} {t : Nat → ClassId} {b n : Nat} {σ : qM} {pc : Nat} {ls : Array Slot} {rest : List Value}
theorem q_zast (X : qX p s args m meth c own cc mL r D t b) (w : qW D b n σ s H locs) {k N : Nat} {f : Nat → Int32} (hk : σ k = some (.inl (t 2, N, .inl f))) {i x : Int32} (hin : vp_in i N) (hn : vp_nar .boolean x = x) (hdg : decode cc pc = .ok (.bastore, 1))
    (kk : ∀ (H1 : Heap) (locs1 : List Loc), qW D b n (va_up σ k (some (.inl (t 2, N, .inl (upd f i.toNatClampNeg x))))) s H1 locs1 → W p l e R s m args below meth c H1 locs1 cells slots Q (F0 m (pc + 1) ls rest)) : W p l e R s m args below meth c H locs cells slots Q (F0 m pc ls (.int x :: .int i :: .ref (b + k) :: rest)) := by
  have hK := X.2.2.2.2.2.2.2.1
  refine W.zast X.1 X.2.1 (w.1.2 k _ hk) ((hK.2 2 _ rfl).1 N (fun j => .int (f j))) (fun q => by cases q) (by show ¬ (i < 0 ∨ (arrV _ _ _).slots.size ≤ _); rw [arrV_size]; exact hin) rfl rfl hdg fun H1 e1 z oq => ?_
  refine kk H1 _ ⟨w.1.up z oq ?_, w.2.1.put z oq (Nat.le_add_right _ _), w.2.2⟩
  show H1[b + k]? = some (vp_cell _ _)
  rw [e1]
  rw [vp_cell_i, vp_cell_i, show narrow .boolean (.int x) = .int (vp_nar .boolean x) from rfl, hn, arrV_store]
  congr 2
  funext q
  by_cases hq : q = i.toNatClampNeg
  · subst hq
    simp [updV, upd]
  · simp [updV, upd, hq]
theorem q_getN (X : qX p s args m meth c own cc mL r D t b) (w : qW D b n σ s H locs) {C : String} {T : u_T} {N ci index : Nat} (hin : ∀ z ∈ u_ws C T N, z ∈ TB) (hc : vwCl[ci]? = some (C, T, N)) (j : Nat) (hj : j < N) (hl : (own, index, (T j).1, (T j).2.1, (T j).2.2.1, RX8) ∈ qNF) {k : Nat} {fs : List Value} (hk : σ k = some (.inr (ci, fs))) {v : Value} (hv : fs[j]? = some v) (hdg : decode cc pc = .ok (.getfield index, 3))
    (kk : W p l e R s m args below meth c H locs cells slots Q (F0 m (pc + 3) ls (v :: rest))) : W p l e R s m args below meth c H locs cells slots Q (F0 m pc ls (.ref (b + k) :: rest)) :=
  va_getN X.1 X.2.1 X.2.2.1 hin X.2.2.2.1 X.2.2.2.2.2.2.2.1 (w.1.one hk) 0 rfl hc j hj (va_Nw.use rfl (X.2.2.2.2.2.2.2.2.2.2.2.1 _ hl)) (fun _ h => h) hv hdg kk
/-- a reference by its place, or null -/
def rfp (b : Nat) (o : Option Nat) : Value := va_rf (o.map (b + ·))
theorem q_aald (X : qX p s args m meth c own cc mL r D t b) (w : qW D b n σ s H locs) (i0 : Nat) {C : String} (ht : (qT t)[i0]? = some (t i0, .object C)) {k N : Nat} {f : Nat → Option Nat} (hk : σ k = some (.inl (t i0, N, .inr (.inr (.inr (.inr (fun j => (f j).map (b + ·)))))))) {i : Int32} (hin : vp_in i N) (hdg : decode cc pc = .ok (.aaload, 1))
    (kk : W p l e R s m args below meth c H locs cells slots Q (F0 m (pc + 1) ls (rfp b (f i.toNatClampNeg) :: rest))) : W p l e R s m args below meth c H locs cells slots Q (F0 m pc ls (.int i :: .ref (b + k) :: rest)) :=
  va_aldq X.1 X.2.1 X.2.2.2.2.2.2.2.1 (w.1.one hk) 0 i0 rfl ht hin hdg kk
theorem rf_up {f : Nat → Option Nat} {b i : Nat} {o : Option Nat} : (fun j => (va_up f i o j).map (b + ·)) = va_up (fun j => (f j).map (b + ·)) i (o.map (b + ·)) := by
  funext j
  by_cases q : j = i
  · rw [q, va_up_self, va_up_self]
  · rw [va_up_ne _ _ q, va_up_ne _ _ q]
theorem q_aast (X : qX p s args m meth c own cc mL r D t b) (w : qW D b n σ s H locs) (i0 : Nat) {C : String} (ht : (qT t)[i0]? = some (t i0, .object C)) {k N : Nat} {f : Nat → Option Nat} (hk : σ k = some (.inl (t i0, N, .inr (.inr (.inr (.inr (fun j => (f j).map (b + ·)))))))) {i : Int32} (hin : vp_in i N) {v ci : Nat} {vs : List Value} {T : u_T} {NF : Nat} (hv : σ v = some (.inr (ci, vs))) (hc : vwCl[ci]? = some (C, T, NF)) (hdg : decode cc pc = .ok (.aastore, 1))
    (kk : ∀ (H1 : Heap) (locs1 : List Loc), qW D b n (va_up σ k (some (.inl (t i0, N, .inr (.inr (.inr (.inr (fun j => (va_up f i.toNatClampNeg (some v) j).map (b + ·))))))))) s H1 locs1 → W p l e R s m args below meth c H1 locs1 cells slots Q (F0 m (pc + 1) ls rest)) : W p l e R s m args below meth c H locs cells slots Q (F0 m pc ls (.ref (b + v) :: .int i :: .ref (b + k) :: rest)) := by
  have hK := X.2.2.2.2.2.2.2.1
  have hlt : i.toNatClampNeg < N := Nat.not_le.mp fun q => hin (Or.inr q)
  have h0 : ¬ i < 0 := fun q => hin (Or.inl q)
  obtain ⟨r', hr', cellV, g1, g2, g3, -⟩ := w.1.2 v _ hv
  have hcls := (hK.1 ci _ hc).2
  obtain ⟨kA, comp, k1, k2, k3, -⟩ := (hK.2 i0 _ ht).2
  have hcomp : comp = D.1 ci := Option.some.inj (k3.symm.trans hcls.1)
  subst hcomp
  obtain ⟨kC, hkC, -⟩ := hcls.2
  refine W.aast X.1 X.2.1 (w.1.2 k _ hk) (fun q h => by cases h) (fun h => by cases h) k1 k2 rfl hkC ⟨h0, by show _ < (arrV _ _ _).slots.size; rw [arrV_size]; exact hlt⟩ g1 (fun q h => by rw [g3] at h; cases h) (by rw [g2]; exact hkC) (by rw [g2]; exact va_assign hcls) rfl rfl hdg fun H1 e1 z oq => ?_
  refine kk H1 _ ⟨w.1.up z oq ?_, w.2.1.put z oq (Nat.le_add_right _ _), w.2.2⟩
  show H1[b + k]? = some (vp_cell _ _)
  rw [e1, rf_up]
  rw [vp_cell_q, vp_cell_q, arrV_store]
  congr 2
  funext q
  by_cases hq : q = i.toNatClampNeg
  · subst hq
    simp [updV, va_up, va_rf]
  · simp [updV, va_up, hq]
theorem q_aastN (X : qX p s args m meth c own cc mL r D t b) (w : qW D b n σ s H locs) (i0 : Nat) {C : String} (ht : (qT t)[i0]? = some (t i0, .object C)) {k N : Nat} {f : Nat → Option Nat} (hk : σ k = some (.inl (t i0, N, .inr (.inr (.inr (.inr (fun j => (f j).map (b + ·)))))))) {i : Int32} (hin : vp_in i N) (hdg : decode cc pc = .ok (.aastore, 1))
    (kk : ∀ (H1 : Heap) (locs1 : List Loc), qW D b n (va_up σ k (some (.inl (t i0, N, .inr (.inr (.inr (.inr (fun j => (va_up f i.toNatClampNeg none j).map (b + ·))))))))) s H1 locs1 → W p l e R s m args below meth c H1 locs1 cells slots Q (F0 m (pc + 1) ls rest)) : W p l e R s m args below meth c H locs cells slots Q (F0 m pc ls (.null :: .int i :: .ref (b + k) :: rest)) := by
  have hK := X.2.2.2.2.2.2.2.1
  refine va_WaastN (C := C) X.1 X.2.1 (w.1.2 k _ hk) ((hK.2 i0 _ ht).1 N (fun j => va_rf ((f j).map (b + ·)))) (fun h => by cases h) (by show ¬ (i < 0 ∨ (arrV _ _ _).slots.size ≤ _); rw [arrV_size]; exact hin) rfl rfl hdg fun H1 e1 z oq => ?_
  refine kk H1 _ ⟨w.1.up z oq ?_, w.2.1.put z oq (Nat.le_add_right _ _), w.2.2⟩
  show H1[b + k]? = some (vp_cell _ _)
  rw [e1, rf_up]
  rw [vp_cell_q, vp_cell_q, arrV_store]
  congr 2
  funext q
  by_cases hq : q = i.toNatClampNeg
  · subst hq
    simp [updV, va_up, va_rf]
  · simp [updV, va_up, hq]
/-- a new object; a new row of numbers -/
theorem q_new (X : qX p s args m meth c own cc mL r D t b) (w : qW D b n σ s H locs) {C : String} {T : u_T} {N ci index : Nat} (hin : ∀ z ∈ u_ws C T N, z ∈ TB) (ty : Nat → FieldType) (hty : ∀ k, k < N → parseFieldDescriptor (T k).2.2.1 = some (ty k)) (hcl : Cond.classLink own index C ∈ TB) (hinst : Cond.instantiable C N ∈ TB) (hini : Cond.initialized C ∈ TB) (hc : vwCl[ci]? = some (C, T, N)) {fs : List Value} (hfs : ∀ j, j < N → defaultValue (ty j) = vp_V fs j) (hcells : cells + 1 ≤ R.cells) (hslots : slots + N ≤ R.slots) (hdg : decode cc pc = .ok (.new index, 3))
    (kk : ∀ H1 : Heap, qW D b (n + 1) (va_up σ n (some (.inr (ci, fs)))) s H1 locs → W p l e R s m args below meth c H1 locs (cells + 1) (slots + N) Q (F0 m (pc + 3) ls (.ref (b + n) :: rest))) : W p l e R s m args below meth c H locs cells slots Q (F0 m pc ls rest) := by
  have hKn := X.2.2.2.2.2.2.2.1.1 ci _ hc
  refine W.newcK X.1 X.2.1 X.2.2.2.1 (X.2.2.1 _ hcl) (X.2.2.1 _ hinst) (X.2.2.1 _ hini) rfl hdg hcells hslots hKn.2.1 w.1.1 fun H1 kC hkC e1 z1 o1 => ?_
  refine kk H1 ⟨w.1.push (by rw [z1, w.1.1]) (fun q hq => o1 q (by rw [← w.1.1]; exact hq)) ⟨_, hc, (u_born ty X.2.2.1 hin hKn hkC e1 hty).to hfs⟩, ⟨Nat.le_trans w.2.1.1 (by rw [z1, w.1.1]; omega), fun x h1 h2 => (o1 x (Nat.lt_of_lt_of_le h1 (by rw [← w.1.1]; exact w.2.1.1))).trans (w.2.1.2.1 x h1 h2), w.2.1.2.2⟩, w.2.2⟩
theorem q_newa (X : qX p s args m meth c own cc mL r D t b) (w : qW D b n σ s H locs) {atype : ArrayType} (harr : Cond.arrayClass (newarray.typeOf atype) ∈ TB) {ty : FieldType} (hty : newarray.typeOf atype = ty) (hpr : ∀ C, ty ≠ .object C) (i0 : Nat) (ht : (qT t)[i0]? = some (t i0, ty)) {a0 : vp_A} {x : Int32} {N : Nat} (ha : ∀ cA : ClassId, vp_cell cA a0 = arrV cA N (fun _ => defaultValue ty)) (hn : ¬ x < 0) (hN : x.toNatClampNeg = N) (hbytes : N * componentBytes ty ≤ 536870912) (hcells : cells + 1 ≤ R.cells) (hslots : slots + N ≤ R.slots) (hdg : decode cc pc = .ok (.newarray atype, 2))
    (kk : ∀ H1 : Heap, qW D b (n + 1) (va_up σ n (some (.inl (t i0, a0)))) s H1 locs → W p l e R s m args below meth c H1 locs (cells + 1) (slots + N) Q (F0 m (pc + 2) ls (.ref (b + n) :: rest))) : W p l e R s m args below meth c H locs cells slots Q (F0 m pc ls (.int x :: rest)) := by
  subst hty
  refine va_newaK X.1 X.2.1 (X.2.2.1 _ harr) rfl hdg rfl hn hN hbytes hcells hslots w.1.1 fun H1 cA e1 z1 o1 hAr hNm => ?_
  have hra := (X.2.2.2.2.2.2.2.1.2 i0 _ ht).2
  have hid : cA = t i0 := by
    have h2 : s.vm.findClass ("[" ++ (newarray.typeOf atype).toString) = some (t i0) := by
      revert hra hpr
      cases newarray.typeOf atype <;> intro hpr hra <;> first | exact hra | exact absurd rfl (hpr _)
    exact Option.some.inj (hNm.symm.trans h2)
  subst hid
  refine kk H1 ⟨w.1.push (by rw [z1, w.1.1]) (fun q hq => o1 q (by rw [← w.1.1]; exact hq)) ?_, ⟨Nat.le_trans w.2.1.1 (by rw [z1, w.1.1]; omega), fun x h1 h2 => (o1 x (Nat.lt_of_lt_of_le h1 (by rw [← w.1.1]; exact w.2.1.1))).trans (w.2.1.2.1 x h1 h2), w.2.1.2.2⟩, w.2.2⟩
  show H1[b + n]? = some (vp_cell _ _)
  rw [ha]
  exact e1
/-- constructors -/
def qIw (own : String) (idx : Nat) (y : MethodName) (yc : ByteArray) (ymL : Nat) (N : Nat) : Prop :=
  Cond.methodLink own idx y ∈ TB ∧ Cond.instanceMethod y ∈ TB ∧ y.name = "<init>" ∧ Cond.initialized y.cls ∈ TB ∧ Cond.code y yc ymL none ∈ TB ∧ y.cls ≠ "java/lang/invoke/MethodHandle" ∧ y.cls ≠ "java/lang/invoke/VarHandle" ∧ (parseMethodDescriptor y.desc).map (fun d => d.parameters.length) = some N
theorem qIw.cw {idx : Nat} {y : MethodName} {yc : ByteArray} {ymL : Nat} {N d' mc ms : Nat} (h : qIw own idx y yc ymL N) (hts : ∀ w ∈ TB, w.before args s = true) (hR : d' + 1 ≤ R.frames ∧ 8 + (ymL + 11) + 40 * d' ≤ R.locals) : CallB R s args own idx y yc ymL none (.code y yc ymL none :: TB) (qR d' mc ms) mc ms N ∧ y.name = "<init>" ∧ (Cond.instanceMethod y).before args s = true := by
  obtain ⟨h1, h2, h3, h4, h5, h6, h7, h8⟩ := h
  refine ⟨⟨rfl, rfl, hR.1, hR.2, q_ws hts h5, List.mem_cons_self, hts _ h5, hts _ h4, ⟨h6, h7⟩, fun sig h => ?_, hts _ h1⟩, h3, hts _ h2⟩
  rw [h] at h8
  exact (Option.some.inj h8).symm
def qNIw (own : String) (idx : Nat) (y : MethodName) (yc : ByteArray) (ymL : Nat) (N : Nat) : Prop :=
  (own, idx, y, RX8) ∈ qNM ∧ Cond.instanceMethod y ∈ TB ∧ y.name = "<init>" ∧ Cond.initialized y.cls ∈ TB ∧ Cond.code y yc ymL none ∈ TB ∧ y.cls ≠ "java/lang/invoke/MethodHandle" ∧ y.cls ≠ "java/lang/invoke/VarHandle" ∧ (parseMethodDescriptor y.desc).map (fun d => d.parameters.length) = some N
theorem qNIw.cw {idx : Nat} {y : MethodName} {yc : ByteArray} {ymL : Nat} {N d' mc ms : Nat} (h : qNIw own idx y yc ymL N) (hts : ∀ w ∈ TB, w.before args s = true) (hG : GP D t b s) (hR : d' + 1 ≤ R.frames ∧ 8 + (ymL + 11) + 40 * d' ≤ R.locals) : va_CN R s args own idx y RX8 yc ymL none (.code y yc ymL none :: TB) (qR d' mc ms) mc ms N ∧ y.name = "<init>" ∧ (Cond.instanceMethod y).before args s = true := by
  obtain ⟨h1, h2, h3, h4, h5, h6, h7, h8⟩ := h
  refine ⟨⟨⟨rfl, rfl, hR.1, hR.2, q_ws hts h5, List.mem_cons_self⟩, hts _ h5, hts _ h4, ⟨h6, h7⟩, fun sig h => ?_, va_Nw.use rfl (hG.2.2.2.2.2.1 _ h1)⟩, h3, hts _ h2⟩
  rw [h] at h8
  exact (Option.some.inj h8).symm
theorem q_cVI (X : qX p s args m meth c own cc mL r D t b) (w : qW D b n σ s H locs) {idx : Nat} {y : MethodName} {yc : ByteArray} {ymL : Nat} {N d' mc ms k : Nat} {As : List Value} {post : Nat → qM → Prop} (hM : qV l y yc ymL d' mc ms D t b n σ (.ref (b + k) :: As) post) (cw : qIw own idx y yc ymL N) (hn : As.length = N) (hR : d' + 1 ≤ R.frames ∧ 8 + (ymL + 11) + 40 * d' ≤ R.locals) {st : List Value} (hst : st = As.reverse ++ .ref (b + k) :: rest) (hsz : ls.size = mL) (hrm : (rest.map fun v => v.category).sum ≤ 8) (hdg : decode cc pc = .ok (.invokespecial idx, 3)) (hf : cells + mc ≤ R.cells ∧ slots + ms ≤ R.slots)
    (kk : ∀ (n1 : Nat) (σ1 : qM) (H1 : Heap) (locs1 : List Loc), post n1 σ1 → qW D b n1 σ1 s H1 locs1 → W p l e R s m args below meth c H1 locs1 (cells + mc) (slots + ms) Q (F0 m (pc + 3) ls rest)) : W p l e R s m args below meth c H locs cells slots Q (F0 m pc ls st) :=
  va_callv (va_runI ⟨X.1, X.2.1, X.2.2.2.2.1, X.2.2.2.1, X.2.2.1⟩ hM (cw.cw X.2.2.1 hR) (q_preS X w) rfl hn hsz hst (lv_room hrm) hdg hf) w.2.1 (fun _ _ h => h) (fun _ h => h)
    (fun u T H1 locs1 ht _ hp hB _ _ hS => kk u.1 u.2 H1 locs1 hp ⟨by rw [← ht]; exact hB, hS, w.2.2⟩)
theorem q_cVIN (X : qX p s args m meth c own cc mL r D t b) (w : qW D b n σ s H locs) {idx : Nat} {y : MethodName} {yc : ByteArray} {ymL : Nat} {N d' mc ms k : Nat} {As : List Value} {post : Nat → qM → Prop} (hM : qV l y yc ymL d' mc ms D t b n σ (.ref (b + k) :: As) post) (cw : qNIw own idx y yc ymL N) (hn : As.length = N) (hR : d' + 1 ≤ R.frames ∧ 8 + (ymL + 11) + 40 * d' ≤ R.locals) {st : List Value} (hst : st = As.reverse ++ .ref (b + k) :: rest) (hsz : ls.size = mL) (hrm : (rest.map fun v => v.category).sum ≤ 8) (hdg : decode cc pc = .ok (.invokespecial idx, 3)) (hf : cells + mc ≤ R.cells ∧ slots + ms ≤ R.slots)
    (kk : ∀ (n1 : Nat) (σ1 : qM) (H1 : Heap) (locs1 : List Loc), post n1 σ1 → qW D b n1 σ1 s H1 locs1 → W p l e R s m args below meth c H1 locs1 (cells + mc) (slots + ms) Q (F0 m (pc + 3) ls rest)) : W p l e R s m args below meth c H locs cells slots Q (F0 m pc ls st) :=
  va_callv (va_runIN ⟨X.1, X.2.1, X.2.2.2.2.1, X.2.2.2.1, X.2.2.1⟩ hM (cw.cw X.2.2.1 X.2.2.2.2.2.2.2 hR) (q_preS X w) rfl hn hsz hst (lv_room hrm) hdg hf) w.2.1 (fun _ _ h => h) (fun _ h => h)
    (fun u T H1 locs1 ht _ hp hB _ _ hS => kk u.1 u.2 H1 locs1 hp ⟨by rw [← ht]; exact hB, hS, w.2.2⟩)
/-- a method that answers a reference, by its place, or null -/
def qA (l : Launch) (y : MethodName) (cc : ByteArray) (mL : Nat) (r : Option FieldType) (d mc ms : Nat) (D : va_G) (t : Nat → ClassId) (b n : Nat) (σ : qM) (As : List Value) (post : Option Nat → Nat → qM → Prop) : Prop :=
  Met l y (.code y cc mL r :: TB) (qR d mc ms) (qPre D t b n σ As) (va_Qq (S := Option Nat × Nat × qM) (fun z u => z = u.1.map (b + ·) ∧ post u.1 u.2.1 u.2.2) (fun u T => WB D b u.2.1 u.2.2 T.heap) (fun q => b ≤ q)) mc ms (fun q => b ≤ q)
abbrev qAQ (D : va_G) (b : Nat) (post : Option Nat → Nat → qM → Prop) : Array Value → State → Outcome → State → Prop := va_Qq (S := Option Nat × Nat × qM) (fun z u => z = u.1.map (b + ·) ∧ post u.1 u.2.1 u.2.2) (fun u T => WB D b u.2.1 u.2.2 T.heap) (fun q => b ≤ q)
theorem qA.of {y : MethodName} {d mc ms : Nat} {As : List Value} {post : Option Nat → Nat → qM → Prop} (hy : plainName y.cls = true) (hA : (lg_sl As).length ≤ mL)
    (k : ∀ (p : Program) (e : Env) (s : State) (m : MethodId) (args : Array Value) (below : List Frame) (meth : Method) (c : Code), qX p s args m meth c y.cls cc mL r D t b → qW D b n σ s s.heap [] → ∀ ls : Array Slot, lv_has ls mL (lv_args 0 As) →
      W p l e (qR d mc ms) s m args below meth c s.heap [] 0 0 (MQ below (qAQ D b post) args s mc ms (fun q => b ≤ q)) (F0 m 0 ls [])) : qA l y cc mL r d mc ms D t b n σ As post := by
  refine Met.ofW (cc := cc) (maxL := mL) (ret := r) hy rfl ?_
  intro p e s m args below meth c s₁ B hml hv
  obtain ⟨rfl, hw, hG⟩ := hv
  have hts := atoms_spec (ws := Cond.code y cc mL r :: TB) B.pre
  refine q_start hA (fun ls hl => ?_)
  exact k p e s m _ below meth c ⟨B.exec, B.bytes, fun w h => hts w (List.mem_cons_of_mem _ h), findClass_of_methodNamed B.named, hml, B.returns, B.notSynchronized, hG⟩ ⟨hw, va_S.rf, by rw [hw.1]; exact Nat.le_add_right _ _⟩ ls hl
theorem q_aret {post : Option Nat → Nat → qM → Prop} {o : Option Nat} {rt : FieldType} (X : qX p s args m meth c own cc mL (some rt) D t b) (w : qW D b n σ s H locs) (hrt : (∃ n, rt = .object n) ∨ ∃ t, rt = .array t) {v : Value} (hv : v = rfp b o) (hdg : decode cc pc = .ok (.areturn, 1)) (hp : post o n σ) : W p l e R s m args below meth c H locs cells slots (MQ below (qAQ D b post) args s cells slots (fun q => b ≤ q)) (F0 m pc ls [v]) := by
  subst hv
  exact W.aret X.1 X.2.1 X.2.2.2.2.2.1 hrt (va_rf_or _) (fun T ht _ => ⟨⟨o.map (b + ·), (o, n, σ), rfl, ⟨rfl, hp⟩, by show WB D b n σ T.heap; rw [ht]; exact w.1⟩, w.2.1.F ht⟩) w.2.1.2.2 hdg X.2.2.2.2.2.2.1
theorem q_cAV (X : qX p s args m meth c own cc mL r D t b) (w : qW D b n σ s H locs) {idx : Nat} {y : MethodName} {yc : ByteArray} {ymL : Nat} {yr : Option FieldType} {N d' mc ms k : Nat} {As : List Value} {post : Option Nat → Nat → qM → Prop} (hM : qA l y yc ymL yr d' mc ms D t b n σ (.ref (b + k) :: As) post) (cw : qVw own idx y yc ymL yr N) {ci : Nat} {fs : List Value} {T : u_T} {NF : Nat} (hk : σ k = some (.inr (ci, fs))) (hc : vwCl[ci]? = some (y.cls, T, NF)) (hn : As.length = N) (hR : d' + 1 ≤ R.frames ∧ 8 + (ymL + 11) + 40 * d' ≤ R.locals) {st : List Value} (hst : st = As.reverse ++ .ref (b + k) :: rest) (hsz : ls.size = mL) (hrm : (rest.map fun v => v.category).sum ≤ 8) (hdg : decode cc pc = .ok (.invokevirtual idx, 3)) (hf : cells + mc ≤ R.cells ∧ slots + ms ≤ R.slots)
    (kk : ∀ (o : Option Nat) (n1 : Nat) (σ1 : qM) (H1 : Heap) (locs1 : List Loc), post o n1 σ1 → qW D b n1 σ1 s H1 locs1 → W p l e R s m args below meth c H1 locs1 (cells + mc) (slots + ms) Q (F0 m (pc + 3) ls (rfp b o :: rest))) : W p l e R s m args below meth c H locs cells slots Q (F0 m pc ls st) :=
  va_callq (va_runV ⟨X.1, X.2.1, X.2.2.2.2.1, X.2.2.2.1, X.2.2.1⟩ hM (cw.cw X.2.2.1 hR) (q_preV X w hk hc) rfl hn hsz hst (lv_room hrm) hdg hf) w.2.1 (fun _ _ h => h) (fun _ h => h)
    (fun z u T H1 locs1 ht _ hp hB _ _ hS => by
      obtain ⟨o, n1, σ1⟩ := u
      obtain ⟨rfl, hp⟩ := hp
      exact kk o n1 σ1 H1 locs1 hp ⟨by rw [← ht]; exact hB, hS, w.2.2⟩)
end Q3
