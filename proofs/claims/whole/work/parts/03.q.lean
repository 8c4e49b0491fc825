/-! THE WORLD: all cells that the law makes lie from b on, by their places; a map σ from places to what the cells hold -/
abbrev qM : Type := Nat → Option va_E
abbrev qT (t : Nat → ClassId) : List (ClassId × FieldType) := [(t 0, .int), (t 1, .char), (t 2, .boolean), (t 3, .byte), (t 4, .object RX0), (t 5, .object RX1), (t 6, .object RX6), (t 7, .long), (t 8, .double)]
def WB (D : va_G) (b n : Nat) (σ : qM) (H : Heap) : Prop := H.size = b + n ∧ ∀ (k : Nat) (e : va_E), σ k = some e → va_at D vwCl (b + k, e) H
theorem WB.one {D : va_G} {b n : Nat} {σ : qM} {H : Heap} (h : WB D b n σ H) {k : Nat} {e : va_E} (hk : σ k = some e) : va_P D vwCl [(b + k, e)] H := by
  intro i q hq
  match i, hq with
  | 0, hq => cases hq; exact h.2 k e hk
  | i + 1, hq => simp at hq
theorem WB.lt {D : va_G} {b n : Nat} {σ : qM} {H : Heap} (h : WB D b n σ H) {k : Nat} {e : va_E} (hk : σ k = some e) : k < n := by
  have h1 := (h.2 k e hk).lt
  rw [h.1] at h1
  exact Nat.lt_of_add_lt_add_left h1
theorem WB.up {D : va_G} {b n : Nat} {σ : qM} {H H1 : Heap} (h : WB D b n σ H) {k : Nat} {e : va_E} (z : H1.size = H.size) (oq : ∀ q : Nat, q ≠ b + k → H1[q]? = H[q]?) (he : va_at D vwCl (b + k, e) H1) : WB D b n (va_up σ k (some e)) H1 := by
  refine ⟨by rw [z]; exact h.1, fun j e' hj => ?_⟩
  by_cases hjk : j = k
  · subst hjk
    rw [va_up_self] at hj
    cases hj
    exact he
  · rw [va_up_ne _ _ hjk] at hj
    exact (h.2 j e' hj).kept (oq _ (by show b + j ≠ b + k; omega))
theorem WB.push {D : va_G} {b n : Nat} {σ : qM} {H H1 : Heap} (h : WB D b n σ H) {e : va_E} (z : H1.size = H.size + 1) (oq : ∀ q : Nat, q < H.size → H1[q]? = H[q]?) (he : va_at D vwCl (b + n, e) H1) : WB D b (n + 1) (va_up σ n (some e)) H1 := by
  refine ⟨by rw [z, h.1]; rfl, fun j e' hj => ?_⟩
  by_cases hjk : j = n
  · subst hjk
    rw [va_up_self] at hj
    cases hj
    exact he
  · rw [va_up_ne _ _ hjk] at hj
    exact (h.2 j e' hj).kept (oq _ (h.2 j e' hj).lt)
/-- the texts of the class's own throws, by their places in its pool -/
def qS : List (Nat × String) := [(67, "m31,28,31,30,31,30,31,31,30,31,30,31;e0;d2;l4+100-400+"), (343, "a number is out of range"), (110, "the text is full"), (126, "no such number for a calendar"), (134, "the text has a fault"), (140, "the text is not possible"), (332, "no such calendar"), (339, "the day is outside the calendar"), (341, "there is no such day"), (228, "there are 8 feasts"), (239, "there are no feasts"), (334, "no such feast"), (263, "the feast has no day in this year"), (269, "no feast is placed on this day"), (274, "the feasts do not meet in these years"), (287, "no such reading"), (308, "no such index"), (318, "there is no change to take back"), (330, "nothing was saved")]
/-- links of nest mates' private fields and methods; the classes that the class throws -/
def qNF : List (String × Nat × String × String × String × String) := [("CalendarConverter$Calendar", 21, "CalendarConverter$Reader", "commonLength", "I", "CalendarConverter"), ("CalendarConverter$Calendar", 26, "CalendarConverter$Reader", "first", "I", "CalendarConverter"), ("CalendarConverter$Calendar", 30, "CalendarConverter$Reader", "leap", "I", "CalendarConverter"), ("CalendarConverter$Calendar", 34, "CalendarConverter$Reader", "leapMonth", "I", "CalendarConverter"), ("CalendarConverter$Calendar", 38, "CalendarConverter$Reader", "extra", "I", "CalendarConverter"), ("CalendarConverter$Calendar", 42, "CalendarConverter$Reader", "rule", "I", "CalendarConverter"), ("CalendarConverter$Calendar", 55, "CalendarConverter$Reader", "weekLength", "I", "CalendarConverter"), ("CalendarConverter$Calendar", 59, "CalendarConverter$Reader", "zeroWeekday", "I", "CalendarConverter"), ("CalendarConverter$Calendar", 63, "CalendarConverter$Reader", "weekDay", "I", "CalendarConverter"), ("CalendarConverter$FeastDays", 49, "CalendarConverter$Feast", "rule", "I", "CalendarConverter"), ("CalendarConverter$FeastDays", 39, "CalendarConverter$Feast", "rank", "I", "CalendarConverter"), ("CalendarConverter$FeastDays", 52, "CalendarConverter$Feast", "which", "I", "CalendarConverter"), ("CalendarConverter$FeastDays", 58, "CalendarConverter$Feast", "a", "I", "CalendarConverter"), ("CalendarConverter$FeastDays", 65, "CalendarConverter$Feast", "b", "I", "CalendarConverter"), ("CalendarConverter$FeastDays", 74, "CalendarConverter$Feast", "c", "I", "CalendarConverter")]
def qNM : List (String × Nat × MethodName × String) := [("CalendarConverter", 9, ⟨"CalendarConverter$Text", "<init>", "()V"⟩, "CalendarConverter"), ("CalendarConverter", 27, ⟨"CalendarConverter$State", "<init>", "()V"⟩, "CalendarConverter"), ("CalendarConverter$History", 17, ⟨"CalendarConverter$State", "<init>", "()V"⟩, "CalendarConverter"), ("CalendarConverter", 44, ⟨"CalendarConverter$FeastDays", "<init>", "()V"⟩, "CalendarConverter"), ("CalendarConverter", 51, ⟨"CalendarConverter$Readings", "<init>", "()V"⟩, "CalendarConverter"), ("CalendarConverter$Reader", 110, ⟨"CalendarConverter", "isFrom", "(III)Z"⟩, "CalendarConverter"), ("CalendarConverter$Calendar", 100, ⟨"CalendarConverter", "isYear", "(I)Z"⟩, "CalendarConverter"), ("CalendarConverter$Calendar", 106, ⟨"CalendarConverter", "isFrom", "(III)Z"⟩, "CalendarConverter"), ("CalendarConverter$Readings", 25, ⟨"CalendarConverter", "isDay", "(I)Z"⟩, "CalendarConverter"), ("CalendarConverter$FeastDays", 35, ⟨"CalendarConverter", "isDay", "(I)Z"⟩, "CalendarConverter")]
def qE : List String := ["java/lang/IndexOutOfBoundsException", "java/lang/IllegalArgumentException", "java/lang/IllegalStateException", "java/util/NoSuchElementException"]
/-- what stays wherever the run goes on: the tables, two statics of Throwable, the throws' texts, nest mates' links, what is castable to what -/
def GP (D : va_G) (t : Nat → ClassId) (b : Nat) (U : State) : Prop := va_K D vwCl (qT t) U ∧ vx_Zq Bundle.tN "UNASSIGNED_STACK" Bundle.steD (fun q => b ≤ q) U U.heap ∧ vx_Zq Bundle.tN "SUPPRESSED_SENTINEL" Bundle.listD (fun q => b ≤ q) U U.heap ∧ (∀ q ∈ qS, ∃ a : Nat, vk_R RX8 q.1 q.2 a U) ∧
  (∀ q ∈ qNF, va_Nw (.fieldLinkNest q.1 q.2.1 q.2.2.1 q.2.2.2.1 q.2.2.2.2.1 q.2.2.2.2.2) U) ∧ (∀ q ∈ qNM, va_Nw (.methodLinkNest q.1 q.2.1 q.2.2.1 q.2.2.2) U) ∧ (∀ q ∈ qE, va_Nw (.castable q q) U) ∧ ∀ q ∈ qE, ∀ q2 ∈ qE, q ≠ q2 → va_Nc q q2 U
theorem GP.at {D : va_G} {t : Nat → ClassId} {b : Nat} {s U : State} {H : Heap} {locs : List Loc} (h : GP D t b s) (hS : va_S (fun q => b ≤ q) s.heap H locs) (hU : U.heap = H) (hW : s.WarmedH U.vm) : GP D t b U := by
  refine ⟨h.1.moved hW.alike, ?_, ?_, fun q hq => ?_, fun q hq => va_Nw.warmF hW (h.2.2.2.2.1 q hq), fun q hq => va_Nw.warmM hW (h.2.2.2.2.2.1 q hq), fun q hq => va_Nw.warmC hW (h.2.2.2.2.2.2.1 q hq), fun q hq q2 hq2 hn => (h.2.2.2.2.2.2.2 q hq q2 hq2 hn).moved hW.alike⟩
  · rw [hU]
    exact (h.2.1.moved hW.alike).kept (fun a h1 h2 => hS.2.1 a h1 h2)
  · rw [hU]
    exact (h.2.2.1.moved hW.alike).kept (fun a h1 h2 => hS.2.1 a h1 h2)
  · obtain ⟨a, ha⟩ := h.2.2.2.1 q hq
    exact ⟨a, vk_R.warm hW ha⟩
theorem GP.blind {D : va_G} {t : Nat → ClassId} {b : Nat} {U : State} {g : JFrame} {mk : MethodId} {a : Array Value} (h : GP D t b U) : GP D t b (U.calling g mk a) := by
  refine ⟨va_K.moved (u := U) (U := U.calling g mk a) (Vm.Alike.refl U.vm) h.1, ?_, ?_, fun q hq => ?_, fun q hq => va_Nw.same (by rfl) (u := U) (U := U.calling g mk a) rfl (h.2.2.2.2.1 q hq), fun q hq => va_Nw.same (by rfl) (u := U) (U := U.calling g mk a) rfl (h.2.2.2.2.2.1 q hq), fun q hq => va_Nw.same (by rfl) (u := U) (U := U.calling g mk a) rfl (h.2.2.2.2.2.2.1 q hq), fun q hq q2 hq2 hn => va_Nc.moved (u := U) (U := U.calling g mk a) (Vm.Alike.refl U.vm) (h.2.2.2.2.2.2.2 q hq q2 hq2 hn)⟩
  · exact vx_Zq.moved (u := U) (U := U.calling g mk a) (Vm.Alike.refl U.vm) h.2.1
  · exact vx_Zq.moved (u := U) (U := U.calling g mk a) (Vm.Alike.refl U.vm) h.2.2.1
  · obtain ⟨z, hz⟩ := h.2.2.2.1 q hq
    exact ⟨z, vk_R.same (u := U) (U := U.calling g mk a) rfl hz⟩
/-! CONTRACTS -/
abbrev qR (d mc ms : Nat) : Room := { frames := d, cells := mc, slots := ms, locals := 40 * d }
def qPre (D : va_G) (t : Nat → ClassId) (b n : Nat) (σ : qM) (As : List Value) : Array Value → State → Prop := va_Pc As (fun U => WB D b n σ U.heap ∧ GP D t b U)
theorem qPre.blind {D : va_G} {t : Nat → ClassId} {b n : Nat} {σ : qM} {As : List Value} : FrameBlind (qPre D t b n σ As) := fun _ _ _ _ q => ⟨q.1, q.2.1, q.2.2.blind⟩
/-- a method that changes no cell and answers an int -/
def qP (l : Launch) (y : MethodName) (cc : ByteArray) (mL : Nat) (r : Option FieldType) (d : Nat) (D : va_G) (t : Nat → ClassId) (b n : Nat) (σ : qM) (As : List Value) (post : Int32 → Prop) : Prop :=
  Met l y (.code y cc mL r :: TB) (qR d 0 0) (qPre D t b n σ As) (vp_Si post) 0 0 (fun _ => False)
/-- .. that changes cells and answers an int -/
def qC (l : Launch) (y : MethodName) (cc : ByteArray) (mL : Nat) (r : Option FieldType) (d mc ms : Nat) (D : va_G) (t : Nat → ClassId) (b n : Nat) (σ : qM) (As : List Value) (post : Int32 → Nat → qM → Prop) : Prop :=
  Met l y (.code y cc mL r :: TB) (qR d mc ms) (qPre D t b n σ As) (va_Qi (S := Nat × qM) (fun z u => post z u.1 u.2) (fun u T => WB D b u.1 u.2 T.heap) (fun q => b ≤ q)) mc ms (fun q => b ≤ q)
/-- .. that changes cells and answers nothing -/
def qV (l : Launch) (y : MethodName) (cc : ByteArray) (mL : Nat) (d mc ms : Nat) (D : va_G) (t : Nat → ClassId) (b n : Nat) (σ : qM) (As : List Value) (post : Nat → qM → Prop) : Prop :=
  Met l y (.code y cc mL none :: TB) (qR d mc ms) (qPre D t b n σ As) (va_Qv (S := Nat × qM) (fun u => post u.1 u.2) (fun u T => WB D b u.1 u.2 T.heap) (fun q => b ≤ q)) mc ms (fun q => b ≤ q)
/-- what a walk has at hand of its own method -/
def qX (p : Program) (s : State) (args : Array Value) (m : MethodId) (meth : Method) (c : Code) (own : String) (cc : ByteArray) (mL : Nat) (r : Option FieldType) (D : va_G) (t : Nat → ClassId) (b : Nat) : Prop :=
  p.tables.exec = Jvm.exec ∧ c.code = cc ∧ (∀ w ∈ TB, w.before args s = true) ∧ s.vm.findClass own = some m.cls ∧ c.maxLocals = mL ∧ meth.sig.returnType = r ∧ meth.locks = false ∧ GP D t b s
/-- .. and of the heap -/
def qW (D : va_G) (b n : Nat) (σ : qM) (s : State) (H : Heap) (locs : List Loc) : Prop := WB D b n σ H ∧ va_S (fun q => b ≤ q) s.heap H locs ∧ b ≤ s.heap.size
theorem qW.hA {D : va_G} {b n : Nat} {σ : qM} {s : State} {H : Heap} {locs : List Loc} (w : qW D b n σ s H locs) : ∀ q, s.heap.size ≤ q → b ≤ q := fun _ h => Nat.le_trans w.2.2 h
def bI (x : Bool) : Int32 := if x then 1 else 0
theorem bI_nar (x : Bool) : narrow .boolean (.int (bI x)) = .int (bI x) := by cases x <;> rfl
theorem bI_ne {x : Bool} : (¬ bI x = 0) ↔ x = true := by cases x <;> decide
theorem bI_eq {x : Bool} : bI x = 0 ↔ x = false := by cases x <;> decide
section Q
variable {p : Program} {l : Launch} {e : Env} {R : Room} {s : State} {m : MethodId} {args : Array Value} {below : List Frame} {meth : Method} {c : Code} {H : Heap} {locs : List Loc} {cells slots : Nat} {Q : State → Prop}
variable {own : String} {cc : ByteArray} {mL : Nat} {r : Option FieldType} {D : va_G} {t : Nat → ClassId} {b n : Nat} {σ : qM} {pc : Nat} {ls : Array Slot} {rest : List Value}
theorem q_start {As : List Value} {mL : Nat} (h : (lg_sl As).length ≤ mL) (k : ∀ ls : Array Slot, lv_has ls mL (lv_args 0 As) → W p l e R s m args below meth c H locs cells slots Q (F0 m 0 ls [])) : W p l e R s m args below meth c H locs cells slots Q (entryFrame m As.toArray mL) := by
  rw [lg_entry_eq]
  exact k _ (lv_entry As h)
theorem qP.of {y : MethodName} {d : Nat} {As : List Value} {post : Int32 → Prop} (hy : plainName y.cls = true) (hA : (lg_sl As).length ≤ mL)
    (k : ∀ (p : Program) (e : Env) (s : State) (m : MethodId) (args : Array Value) (below : List Frame) (meth : Method) (c : Code), qX p s args m meth c y.cls cc mL r D t b → qW D b n σ s s.heap [] → ∀ ls : Array Slot, lv_has ls mL (lv_args 0 As) →
      W p l e (qR d 0 0) s m args below meth c s.heap [] 0 0 (MQ below (vp_Si post) args s 0 0 (fun _ => False)) (F0 m 0 ls [])) : qP l y cc mL r d D t b n σ As post := by
  refine Met.ofW (cc := cc) (maxL := mL) (ret := r) hy rfl ?_
  intro p e s m args below meth c s₁ B hml hv
  obtain ⟨rfl, hw, hG⟩ := hv
  have hts := atoms_spec (ws := Cond.code y cc mL r :: TB) B.pre
  refine q_start hA (fun ls hl => ?_)
  exact k p e s m _ below meth c ⟨B.exec, B.bytes, fun w h => hts w (List.mem_cons_of_mem _ h), findClass_of_methodNamed B.named, hml, B.returns, B.notSynchronized, hG⟩ ⟨hw, va_S.rf, by rw [hw.1]; exact Nat.le_add_right _ _⟩ ls hl
theorem qC.of {y : MethodName} {d mc ms : Nat} {As : List Value} {post : Int32 → Nat → qM → Prop} (hy : plainName y.cls = true) (hA : (lg_sl As).length ≤ mL)
    (k : ∀ (p : Program) (e : Env) (s : State) (m : MethodId) (args : Array Value) (below : List Frame) (meth : Method) (c : Code), qX p s args m meth c y.cls cc mL r D t b → qW D b n σ s s.heap [] → ∀ ls : Array Slot, lv_has ls mL (lv_args 0 As) →
      W p l e (qR d mc ms) s m args below meth c s.heap [] 0 0 (MQ below (va_Qi (S := Nat × qM) (fun z u => post z u.1 u.2) (fun u T => WB D b u.1 u.2 T.heap) (fun q => b ≤ q)) args s mc ms (fun q => b ≤ q)) (F0 m 0 ls [])) : qC l y cc mL r d mc ms D t b n σ As post := by
  refine Met.ofW (cc := cc) (maxL := mL) (ret := r) hy rfl ?_
  intro p e s m args below meth c s₁ B hml hv
  obtain ⟨rfl, hw, hG⟩ := hv
  have hts := atoms_spec (ws := Cond.code y cc mL r :: TB) B.pre
  refine q_start hA (fun ls hl => ?_)
  exact k p e s m _ below meth c ⟨B.exec, B.bytes, fun w h => hts w (List.mem_cons_of_mem _ h), findClass_of_methodNamed B.named, hml, B.returns, B.notSynchronized, hG⟩ ⟨hw, va_S.rf, by rw [hw.1]; exact Nat.le_add_right _ _⟩ ls hl
theorem qV.of {y : MethodName} {d mc ms : Nat} {As : List Value} {post : Nat → qM → Prop} (hy : plainName y.cls = true) (hA : (lg_sl As).length ≤ mL)
    (k : ∀ (p : Program) (e : Env) (s : State) (m : MethodId) (args : Array Value) (below : List Frame) (meth : Method) (c : Code), qX p s args m meth c y.cls cc mL none D t b → qW D b n σ s s.heap [] → (y.name = "<init>" → meth.name = "<init>") → ∀ ls : Array Slot, lv_has ls mL (lv_args 0 As) →
      W p l e (qR d mc ms) s m args below meth c s.heap [] 0 0 (MQ below (va_Qv (S := Nat × qM) (fun u => post u.1 u.2) (fun u T => WB D b u.1 u.2 T.heap) (fun q => b ≤ q)) args s mc ms (fun q => b ≤ q)) (F0 m 0 ls [])) : qV l y cc mL d mc ms D t b n σ As post := by
  refine Met.ofW (cc := cc) (maxL := mL) (ret := none) hy rfl ?_
  intro p e s m args below meth c s₁ B hml hv
  obtain ⟨rfl, hw, hG⟩ := hv
  have hts := atoms_spec (ws := Cond.code y cc mL none :: TB) B.pre
  refine q_start hA (fun ls hl => ?_)
  exact k p e s m _ below meth c ⟨B.exec, B.bytes, fun w h => hts w (List.mem_cons_of_mem _ h), findClass_of_methodNamed B.named, hml, B.returns, B.notSynchronized, hG⟩ ⟨hw, va_S.rf, by rw [hw.1]; exact Nat.le_add_right _ _⟩ (fun h => (name_of_methodNamed B.named B.method).1.trans h) ls hl
/-! ends -/
theorem q_pret {post : Int32 → Prop} {v : Int32} (X : qX p s args m meth c own cc mL (some .int) D t b) (w : qW D b n σ s s.heap []) (hdg : decode cc pc = .ok (.ireturn, 1)) (hp : post v) : W p l e R s m args below meth c s.heap [] 0 0 (MQ below (vp_Si post) args s 0 0 (fun _ => False)) (F0 m pc ls [.int v]) :=
  W.iret (v := v) X.1 X.2.1 X.2.2.2.2.2.1 (fun _ ht _ => ⟨v, rfl, hp, ht⟩) (fun _ h => by cases h) hdg X.2.2.2.2.2.2.1
theorem q_pretz {post : Int32 → Prop} {v : Int32} {ty : FieldType} (X : qX p s args m meth c own cc mL (some ty) D t b) (w : qW D b n σ s s.heap []) (hdg : decode cc pc = .ok (.ireturn, 1)) (hn : narrow ty (.int v) = .int v) (hp : post v) : W p l e R s m args below meth c s.heap [] 0 0 (MQ below (vp_Si post) args s 0 0 (fun _ => False)) (F0 m pc ls [.int v]) :=
  W.zret (v := v) X.1 X.2.1 X.2.2.2.2.2.1 hn (fun _ ht _ => ⟨v, rfl, hp, ht⟩) (fun _ h => by cases h) hdg X.2.2.2.2.2.2.1
theorem q_cret {post : Int32 → Nat → qM → Prop} {v : Int32} {ty : FieldType} (X : qX p s args m meth c own cc mL (some ty) D t b) (w : qW D b n σ s H locs) (hdg : decode cc pc = .ok (.ireturn, 1)) (hn : narrow ty (.int v) = .int v) (hp : post v n σ) : W p l e R s m args below meth c H locs cells slots (MQ below (va_Qi (S := Nat × qM) (fun z u => post z u.1 u.2) (fun u T => WB D b u.1 u.2 T.heap) (fun q => b ≤ q)) args s cells slots (fun q => b ≤ q)) (F0 m pc ls [.int v]) :=
  W.zret (v := v) X.1 X.2.1 X.2.2.2.2.2.1 hn (fun T ht _ => ⟨⟨v, (n, σ), rfl, hp, by show WB D b n σ T.heap; rw [ht]; exact w.1⟩, w.2.1.F ht⟩) w.2.1.2.2 hdg X.2.2.2.2.2.2.1
theorem q_vret {post : Nat → qM → Prop} (X : qX p s args m meth c own cc mL none D t b) (w : qW D b n σ s H locs) (hdg : decode cc pc = .ok (.return_, 1)) (hp : post n σ) : W p l e R s m args below meth c H locs cells slots (MQ below (va_Qv (S := Nat × qM) (fun u => post u.1 u.2) (fun u T => WB D b u.1 u.2 T.heap) (fun q => b ≤ q)) args s cells slots (fun q => b ≤ q)) (F0 m pc ls []) :=
  W.vret X.1 X.2.1 X.2.2.2.2.2.1 (fun T ht _ => ⟨⟨(n, σ), rfl, hp, by show WB D b n σ T.heap; rw [ht]; exact w.1⟩, w.2.1.F ht⟩) w.2.1.2.2 hdg X.2.2.2.2.2.2.1
/-! fields -/
theorem q_get (X : qX p s args m meth c own cc mL r D t b) (w : qW D b n σ s H locs) {C : String} {T : u_T} {N ci index : Nat} (hin : ∀ z ∈ u_ws C T N, z ∈ TB) (hc : vwCl[ci]? = some (C, T, N)) (j : Nat) (hj : j < N) (hl : Cond.fieldLink own index (T j).1 (T j).2.1 (T j).2.2.1 ∈ TB) {k : Nat} {fs : List Value} (hk : σ k = some (.inr (ci, fs))) {v : Value} (hv : fs[j]? = some v) (hdg : decode cc pc = .ok (.getfield index, 3))
    (kk : W p l e R s m args below meth c H locs cells slots Q (F0 m (pc + 3) ls (v :: rest))) : W p l e R s m args below meth c H locs cells slots Q (F0 m pc ls (.ref (b + k) :: rest)) :=
  va_get X.1 X.2.1 X.2.2.1 hin X.2.2.2.1 X.2.2.2.2.2.2.2.1 (w.1.one hk) 0 rfl hc j hj (X.2.2.1 _ hl) (fun _ h => h) hv hdg kk
theorem q_put (X : qX p s args m meth c own cc mL r D t b) (w : qW D b n σ s H locs) {C : String} {T : u_T} {N ci index : Nat} (hin : ∀ z ∈ u_ws C T N, z ∈ TB) (ty0 : Nat → FieldType) (hty : ∀ k, k < N → parseFieldDescriptor (T k).2.2.1 = some (ty0 k)) (hnm : ∀ a, a < N → ∀ b, b < N → a ≠ b → (T a).2.1 ≠ (T b).2.1) (hc : vwCl[ci]? = some (C, T, N)) (j : Nat) (hj : j < N) (hl : Cond.fieldLink own index (T j).1 (T j).2.1 (T j).2.2.1 ∈ TB) (hfin : (T j).2.2.2 = false) {k : Nat} {fs : List Value} (hk : σ k = some (.inr (ci, fs))) {v : Value} (hn : narrow (ty0 j) v = v) (hfit : fits (ty0 j) v = true) (hlen : j < fs.length) (hdg : decode cc pc = .ok (.putfield index, 3))
    (kk : ∀ (H1 : Heap) (locs1 : List Loc), qW D b n (va_up σ k (some (.inr (ci, fs.set j v)))) s H1 locs1 → W p l e R s m args below meth c H1 locs1 cells slots Q (F0 m (pc + 3) ls rest)) : W p l e R s m args below meth c H locs cells slots Q (F0 m pc ls (v :: .ref (b + k) :: rest)) := by
  have hK := X.2.2.2.2.2.2.2.1
  have hap := va_apart (own := own) X.2.2.1 hin ty0 hty hnm hK hc
  obtain ⟨q, h1, cell, q1, q2, q3, q4⟩ := w.1.2 k _ hk
  have hr : q = (C, T, N) := Option.some.inj (h1.symm.trans hc)
  subst hr
  obtain ⟨hS, hfc, kC, hkC, hkind⟩ := hK.1 ci _ hc
  obtain ⟨cf, kf, fi, f, hi, hsl⟩ := hS j hj
  have hlay := X.2.2.1 _ (hin _ (u_in_lay hj))
  unfold u_lay at hlay
  rw [if_neg (by rw [hfin]; decide)] at hlay
  have hst := (u_facts hfc hkC (u_lays X.2.2.1 hin hj) hi).1
  have h6 := u_store hfc hkC hkind hlay hi (hty j hj) hn hfit
  refine W.putK X.1 X.2.1 (f := f) ⟨X.2.2.2.1, X.2.2.1 _ hl, ⟨_, _, _, hi⟩, hst⟩ (by rw [q2]; exact h6) q1 q3 (by rw [hsl]; exact k2_hasslot (q4 j hj)) rfl rfl hdg fun H' e1 e2 e3 => ?_
  rw [hsl] at e1 ⊢
  exact kk H' _ ⟨w.1.up e2 e3 ⟨_, hc, t_OB.to (V := updV (vp_V fs) j v) ⟨_, e1, q2, q3, t_set q4 hap hj v⟩ (fun i _ => vp_updV_set hlen v i)⟩, w.2.1.put e2 e3 (Nat.le_add_right _ _), w.2.2⟩
theorem q_putF (X : qX p s args m meth c own cc mL r D t b) (w : qW D b n σ s H locs) {C : String} {T : u_T} {N ci index : Nat} (hin : ∀ z ∈ u_ws C T N, z ∈ TB) (ty0 : Nat → FieldType) (hty : ∀ k, k < N → parseFieldDescriptor (T k).2.2.1 = some (ty0 k)) (hnm : ∀ a, a < N → ∀ b, b < N → a ≠ b → (T a).2.1 ≠ (T b).2.1) (hc : vwCl[ci]? = some (C, T, N)) (j : Nat) (hj : j < N) (hl : Cond.fieldLink own index (T j).1 (T j).2.1 (T j).2.2.1 ∈ TB) (hfin : (T j).2.2.2 = true) (hin2 : meth.name = "<init>") (hdecl : (T j).1 = own) {k : Nat} {fs : List Value} (hk : σ k = some (.inr (ci, fs))) {v : Value} (hn : narrow (ty0 j) v = v) (hfit : fits (ty0 j) v = true) (hlen : j < fs.length) (hdg : decode cc pc = .ok (.putfield index, 3))
    (kk : ∀ (H1 : Heap) (locs1 : List Loc), qW D b n (va_up σ k (some (.inr (ci, fs.set j v)))) s H1 locs1 → W p l e R s m args below meth c H1 locs1 cells slots Q (F0 m (pc + 3) ls rest)) : W p l e R s m args below meth c H locs cells slots Q (F0 m pc ls (v :: .ref (b + k) :: rest)) := by
  have hK := X.2.2.2.2.2.2.2.1
  have hap := va_apart (own := own) X.2.2.1 hin ty0 hty hnm hK hc
  obtain ⟨q, h1, cell, q1, q2, q3, q4⟩ := w.1.2 k _ hk
  have hr : q = (C, T, N) := Option.some.inj (h1.symm.trans hc)
  subst hr
  obtain ⟨hS, hfc, kC, hkC, hkind⟩ := hK.1 ci _ hc
  obtain ⟨cf, kf, fi, f, hi, hsl⟩ := hS j hj
  have hlay := X.2.2.1 _ (hin _ (u_in_lay hj))
  unfold u_lay at hlay
  rw [if_pos hfin] at hlay
  have hst := (u_facts hfc hkC (u_lays X.2.2.1 hin hj) hi).1
  have hcf : m.cls = cf := by
    obtain ⟨_, _, c', _, _, _, -, -, hf', -, -, -, hown2, -⟩ := Cond.laysFinal_spec hlay
    have e1 : c' = cf := by have := hi.symm.trans hf'; simp at this; exact this.1.symm
    rw [hdecl] at hown2
    rw [← e1]; exact Option.some.inj (X.2.2.2.1.symm.trans hown2)
  have h6 := u_fits hfc hkC hkind (Or.inr hlay) hi (hty j hj) hn hfit
  refine W.putFinK X.1 X.2.1 X.2.2.2.1 (X.2.2.1 _ hl) hi hst hcf hin2 (by rw [q2]; exact h6) q1 q3 (by rw [hsl]; exact k2_hasslot (q4 j hj)) rfl rfl hdg fun H' e1 e2 e3 => ?_
  rw [hsl] at e1 ⊢
  exact kk H' _ ⟨w.1.up e2 e3 ⟨_, hc, t_OB.to (V := updV (vp_V fs) j v) ⟨_, e1, q2, q3, t_set q4 hap hj v⟩ (fun i _ => vp_updV_set hlen v i)⟩, w.2.1.put e2 e3 (Nat.le_add_right _ _), w.2.2⟩
/-! rows of ints, chars, booleans -/
theorem q_alen (X : qX p s args m meth c own cc mL r D t b) (w : qW D b n σ s H locs) (i : Nat) {ty : FieldType} (ht : (qT t)[i]? = some (t i, ty)) {k : Nat} {a : vp_A} (hk : σ k = some (.inl (t i, a))) (hdg : decode cc pc = .ok (.arraylength, 1))
    (kk : W p l e R s m args below meth c H locs cells slots Q (F0 m (pc + 1) ls (.int (Int32.ofNat a.1) :: rest))) : W p l e R s m args below meth c H locs cells slots Q (F0 m pc ls (.ref (b + k) :: rest)) :=
  va_alen X.1 X.2.1 X.2.2.2.2.2.2.2.1 (w.1.one hk) 0 i rfl ht rfl hdg kk
theorem q_iald (X : qX p s args m meth c own cc mL r D t b) (w : qW D b n σ s H locs) {k N : Nat} {f : Nat → Int32} (hk : σ k = some (.inl (t 0, N, .inl f))) {i : Int32} (hin : vp_in i N) (hdg : decode cc pc = .ok (.iaload, 1))
    (kk : W p l e R s m args below meth c H locs cells slots Q (F0 m (pc + 1) ls (.int (f i.toNatClampNeg) :: rest))) : W p l e R s m args below meth c H locs cells slots Q (F0 m pc ls (.int i :: .ref (b + k) :: rest)) :=
  va_iald X.1 X.2.1 X.2.2.2.2.2.2.2.1 (w.1.one hk) 0 0 rfl rfl hin hdg kk
theorem q_cald (X : qX p s args m meth c own cc mL r D t b) (w : qW D b n σ s H locs) {k N : Nat} {f : Nat → Int32} (hk : σ k = some (.inl (t 1, N, .inl f))) {i : Int32} (hin : vp_in i N) (hdg : decode cc pc = .ok (.caload, 1))
    (kk : W p l e R s m args below meth c H locs cells slots Q (F0 m (pc + 1) ls (.int (f i.toNatClampNeg) :: rest))) : W p l e R s m args below meth c H locs cells slots Q (F0 m pc ls (.int i :: .ref (b + k) :: rest)) :=
  va_cald X.1 X.2.1 X.2.2.2.2.2.2.2.1 (w.1.one hk) 0 1 rfl rfl hin hdg kk
theorem q_zald (X : qX p s args m meth c own cc mL r D t b) (w : qW D b n σ s H locs) {k N : Nat} {f : Nat → Int32} (hk : σ k = some (.inl (t 2, N, .inl f))) {i : Int32} (hin : vp_in i N) (hdg : decode cc pc = .ok (.baload, 1))
    (kk : W p l e R s m args below meth c H locs cells slots Q (F0 m (pc + 1) ls (.int (f i.toNatClampNeg) :: rest))) : W p l e R s m args below meth c H locs cells slots Q (F0 m pc ls (.int i :: .ref (b + k) :: rest)) :=
  va_zald X.1 X.2.1 X.2.2.2.2.2.2.2.1 (w.1.one hk) 0 2 rfl rfl hin hdg kk
theorem q_iast (X : qX p s args m meth c own cc mL r D t b) (w : qW D b n σ s H locs) {k N : Nat} {f : Nat → Int32} (hk : σ k = some (.inl (t 0, N, .inl f))) {i x : Int32} (hin : vp_in i N) (hdg : decode cc pc = .ok (.iastore, 1))
    (kk : ∀ (H1 : Heap) (locs1 : List Loc), qW D b n (va_up σ k (some (.inl (t 0, N, .inl (upd f i.toNatClampNeg x))))) s H1 locs1 → W p l e R s m args below meth c H1 locs1 cells slots Q (F0 m (pc + 1) ls rest)) : W p l e R s m args below meth c H locs cells slots Q (F0 m pc ls (.int x :: .int i :: .ref (b + k) :: rest)) := by
  have hK := X.2.2.2.2.2.2.2.1
  refine W.iast X.1 X.2.1 (w.1.2 k _ hk) ((hK.2 0 _ rfl).1 N (fun j => .int (f j))) (fun q => by cases q) (by show ¬ (i < 0 ∨ (arrV _ _ _).slots.size ≤ _); rw [arrV_size]; exact hin) rfl rfl hdg fun H1 e1 z oq => ?_
  refine kk H1 _ ⟨w.1.up z oq ?_, w.2.1.put z oq (Nat.le_add_right _ _), w.2.2⟩
  show H1[b + k]? = some (vp_cell _ _)
  rw [e1]
  rw [vp_cell_i, vp_cell_i, arrV_store]
  congr 2
  funext q
  by_cases hq : q = i.toNatClampNeg
  · subst hq
    simp [updV, upd]
  · simp [updV, upd, hq]
theorem q_cast (X : qX p s args m meth c own cc mL r D t b) (w : qW D b n σ s H locs) {k N : Nat} {f : Nat → Int32} (hk : σ k = some (.inl (t 1, N, .inl f))) {i x : Int32} (hin : vp_in i N) (hdg : decode cc pc = .ok (.castore, 1))
    (kk : ∀ (H1 : Heap) (locs1 : List Loc), qW D b n (va_up σ k (some (.inl (t 1, N, .inl (upd f i.toNatClampNeg (vp_nar .char x)))))) s H1 locs1 → W p l e R s m args below meth c H1 locs1 cells slots Q (F0 m (pc + 1) ls rest)) : W p l e R s m args below meth c H locs cells slots Q (F0 m pc ls (.int x :: .int i :: .ref (b + k) :: rest)) := by
  have hK := X.2.2.2.2.2.2.2.1
  refine W.cast X.1 X.2.1 (w.1.2 k _ hk) ((hK.2 1 _ rfl).1 N (fun j => .int (f j))) (fun q => by cases q) (by show ¬ (i < 0 ∨ (arrV _ _ _).slots.size ≤ _); rw [arrV_size]; exact hin) rfl rfl hdg fun H1 e1 z oq => ?_
  refine kk H1 _ ⟨w.1.up z oq ?_, w.2.1.put z oq (Nat.le_add_right _ _), w.2.2⟩
  show H1[b + k]? = some (vp_cell _ _)
  rw [e1]
  rw [vp_cell_i, vp_cell_i, show narrow .char (.int x) = .int (vp_nar .char x) from rfl, arrV_store]
  congr 2
  funext q
  by_cases hq : q = i.toNatClampNeg
  · subst hq
    simp [updV, upd]
  · simp [updV, upd, hq]
/-! calls -/
/-- the words of a call of y in the class own at its pool's place idx; a virtual one, a static one -/
def qVw (own : String) (idx : Nat) (y : MethodName) (yc : ByteArray) (ymL : Nat) (yr : Option FieldType) (N : Nat) : Prop :=
  Cond.methodLink own idx y ∈ TB ∧ Cond.instanceMethod y ∈ TB ∧ Cond.selects y.cls y y ∈ TB ∧ Cond.initialized y.cls ∈ TB ∧ Cond.code y yc ymL yr ∈ TB ∧ y.cls ≠ "java/lang/invoke/MethodHandle" ∧ y.cls ≠ "java/lang/invoke/VarHandle" ∧ (parseMethodDescriptor y.desc).map (fun d => d.parameters.length) = some N
def qSw (own : String) (idx : Nat) (y : MethodName) (yc : ByteArray) (ymL : Nat) (yr : Option FieldType) (N : Nat) : Prop :=
  Cond.methodLink own idx y ∈ TB ∧ Cond.static y ∈ TB ∧ Cond.initialized y.cls ∈ TB ∧ Cond.code y yc ymL yr ∈ TB ∧ y.cls ≠ "java/lang/invoke/MethodHandle" ∧ y.cls ≠ "java/lang/invoke/VarHandle" ∧ (parseMethodDescriptor y.desc).map (fun d => d.parameters.length) = some N
theorem q_ws {y : MethodName} {yc : ByteArray} {ymL : Nat} {yr : Option FieldType} {args : Array Value} {s : State} (h : ∀ w ∈ TB, w.before args s = true) (hc : Cond.code y yc ymL yr ∈ TB) : ∀ w ∈ Cond.code y yc ymL yr :: TB, ∀ (a' : Array Value) (U : State), s.WarmedH U.vm → w.before a' U = true := by
  intro w hw a' U hW
  have h1 : w ∈ TB := (List.mem_cons.mp hw).elim (fun e => e ▸ hc) id
  exact word_at hW (good_of_word (tb_good h1)) (h w h1)
theorem qVw.cw {idx : Nat} {y : MethodName} {yc : ByteArray} {ymL : Nat} {yr : Option FieldType} {N d' mc ms : Nat} (h : qVw own idx y yc ymL yr N) (hts : ∀ w ∈ TB, w.before args s = true) (hR : d' + 1 ≤ R.frames ∧ 8 + (ymL + 11) + 40 * d' ≤ R.locals) : CallW R s args own y.cls idx y yc ymL yr (.code y yc ymL yr :: TB) (qR d' mc ms) mc ms N := by
  obtain ⟨h1, h2, h3, h4, h5, h6, h7, h8⟩ := h
  refine ⟨⟨rfl, rfl, hR.1, hR.2, q_ws hts h5, List.mem_cons_self, hts _ h5, hts _ h4, ⟨h6, h7⟩, fun sig h => ?_, hts _ h1⟩, hts _ h2, hts _ h3⟩
  rw [h] at h8
  exact (Option.some.inj h8).symm
theorem qSw.cw {idx : Nat} {y : MethodName} {yc : ByteArray} {ymL : Nat} {yr : Option FieldType} {N d' mc ms : Nat} (h : qSw own idx y yc ymL yr N) (hts : ∀ w ∈ TB, w.before args s = true) (hR : d' + 1 ≤ R.frames ∧ 8 + (ymL + 11) + 40 * d' ≤ R.locals) : CallB R s args own idx y yc ymL yr (.code y yc ymL yr :: TB) (qR d' mc ms) mc ms N ∧ (Cond.static y).before args s = true := by
  obtain ⟨h1, h2, h4, h5, h6, h7, h8⟩ := h
  refine ⟨⟨rfl, rfl, hR.1, hR.2, q_ws hts h5, List.mem_cons_self, hts _ h5, hts _ h4, ⟨h6, h7⟩, fun sig h => ?_, hts _ h1⟩, hts _ h2⟩
  rw [h] at h8
  exact (Option.some.inj h8).symm
theorem q_preV (X : qX p s args m meth c own cc mL r D t b) (w : qW D b n σ s H locs) {ci k : Nat} {fs : List Value} {C : String} {T : u_T} {N : Nat} (hk : σ k = some (.inr (ci, fs))) (hc : vwCl[ci]? = some (C, T, N)) {As : List Value} : PreV s H C (b + k) (qPre D t b n σ (.ref (b + k) :: As)) As :=
  ⟨qPre.blind, va_recv (q := (C, T, N)) X.2.2.2.2.2.2.2.1 (w.1.one hk) hc (q0 := 0) rfl, fun _ hU hW => ⟨rfl, by rw [hU]; exact w.1, X.2.2.2.2.2.2.2.at w.2.1 hU hW⟩⟩
theorem q_preS (X : qX p s args m meth c own cc mL r D t b) (w : qW D b n σ s H locs) {As : List Value} : PreS s H (qPre D t b n σ As) As :=
  ⟨qPre.blind, fun _ hU hW => ⟨rfl, by rw [hU]; exact w.1, X.2.2.2.2.2.2.2.at w.2.1 hU hW⟩⟩
theorem q_cPV (X : qX p s args m meth c own cc mL r D t b) (w : qW D b n σ s H locs) {idx : Nat} {y : MethodName} {yc : ByteArray} {ymL : Nat} {yr : Option FieldType} {N d' k : Nat} {As : List Value} {post : Int32 → Prop} (hM : qP l y yc ymL yr d' D t b n σ (.ref (b + k) :: As) post) (cw : qVw own idx y yc ymL yr N) {ci : Nat} {fs : List Value} {T : u_T} {NF : Nat} (hk : σ k = some (.inr (ci, fs))) (hc : vwCl[ci]? = some (y.cls, T, NF)) (hn : As.length = N) (hR : d' + 1 ≤ R.frames ∧ 8 + (ymL + 11) + 40 * d' ≤ R.locals) {st : List Value} (hst : st = As.reverse ++ .ref (b + k) :: rest) (hsz : ls.size = mL) (hrm : (rest.map fun v => v.category).sum ≤ 8) (hdg : decode cc pc = .ok (.invokevirtual idx, 3)) (hf : cells + 0 ≤ R.cells ∧ slots + 0 ≤ R.slots)
    (kk : ∀ z : Int32, post z → W p l e R s m args below meth c H locs cells slots Q (F0 m (pc + 3) ls (.int z :: rest))) : W p l e R s m args below meth c H locs cells slots Q (F0 m pc ls st) :=
  vp_callSi (W.runV ⟨X.1, X.2.1, X.2.2.2.2.1, X.2.2.2.1, X.2.2.1⟩ hM (cw.cw X.2.2.1 hR) (q_preV X w hk hc) rfl hn hsz hst (lv_room hrm) hdg hf) kk
theorem q_cPS (X : qX p s args m meth c own cc mL r D t b) (w : qW D b n σ s H locs) {idx : Nat} {y : MethodName} {yc : ByteArray} {ymL : Nat} {yr : Option FieldType} {N d' : Nat} {As : List Value} {post : Int32 → Prop} (hM : qP l y yc ymL yr d' D t b n σ As post) (cw : qSw own idx y yc ymL yr N) (hn : As.length = N) (hR : d' + 1 ≤ R.frames ∧ 8 + (ymL + 11) + 40 * d' ≤ R.locals) {st : List Value} (hst : st = As.reverse ++ rest) (hsz : ls.size = mL) (hrm : (rest.map fun v => v.category).sum ≤ 8) (hdg : decode cc pc = .ok (.invokestatic idx, 3)) (hf : cells + 0 ≤ R.cells ∧ slots + 0 ≤ R.slots)
    (kk : ∀ z : Int32, post z → W p l e R s m args below meth c H locs cells slots Q (F0 m (pc + 3) ls (.int z :: rest))) : W p l e R s m args below meth c H locs cells slots Q (F0 m pc ls st) :=
  vp_callSi (W.runS ⟨X.1, X.2.1, X.2.2.2.2.1, X.2.2.2.1, X.2.2.1⟩ hM (cw.cw X.2.2.1 hR) (q_preS X w) rfl hn hsz hst (lv_room hrm) hdg hf) kk
theorem q_cCV (X : qX p s args m meth c own cc mL r D t b) (w : qW D b n σ s H locs) {idx : Nat} {y : MethodName} {yc : ByteArray} {ymL : Nat} {yr : Option FieldType} {N d' mc ms k : Nat} {As : List Value} {post : Int32 → Nat → qM → Prop} (hM : qC l y yc ymL yr d' mc ms D t b n σ (.ref (b + k) :: As) post) (cw : qVw own idx y yc ymL yr N) {ci : Nat} {fs : List Value} {T : u_T} {NF : Nat} (hk : σ k = some (.inr (ci, fs))) (hc : vwCl[ci]? = some (y.cls, T, NF)) (hn : As.length = N) (hR : d' + 1 ≤ R.frames ∧ 8 + (ymL + 11) + 40 * d' ≤ R.locals) {st : List Value} (hst : st = As.reverse ++ .ref (b + k) :: rest) (hsz : ls.size = mL) (hrm : (rest.map fun v => v.category).sum ≤ 8) (hdg : decode cc pc = .ok (.invokevirtual idx, 3)) (hf : cells + mc ≤ R.cells ∧ slots + ms ≤ R.slots)
    (kk : ∀ (z : Int32) (n1 : Nat) (σ1 : qM) (H1 : Heap) (locs1 : List Loc), post z n1 σ1 → qW D b n1 σ1 s H1 locs1 → W p l e R s m args below meth c H1 locs1 (cells + mc) (slots + ms) Q (F0 m (pc + 3) ls (.int z :: rest))) : W p l e R s m args below meth c H locs cells slots Q (F0 m pc ls st) :=
  va_calli (va_runV ⟨X.1, X.2.1, X.2.2.2.2.1, X.2.2.2.1, X.2.2.1⟩ hM (cw.cw X.2.2.1 hR) (q_preV X w hk hc) rfl hn hsz hst (lv_room hrm) hdg hf) w.2.1 (fun _ _ h => h) (fun _ h => h)
    (fun z u T H1 locs1 ht _ hp hB _ _ hS => kk z u.1 u.2 H1 locs1 hp ⟨by rw [← ht]; exact hB, hS, w.2.2⟩)
theorem q_cVV (X : qX p s args m meth c own cc mL r D t b) (w : qW D b n σ s H locs) {idx : Nat} {y : MethodName} {yc : ByteArray} {ymL : Nat} {N d' mc ms k : Nat} {As : List Value} {post : Nat → qM → Prop} (hM : qV l y yc ymL d' mc ms D t b n σ (.ref (b + k) :: As) post) (cw : qVw own idx y yc ymL none N) {ci : Nat} {fs : List Value} {T : u_T} {NF : Nat} (hk : σ k = some (.inr (ci, fs))) (hc : vwCl[ci]? = some (y.cls, T, NF)) (hn : As.length = N) (hR : d' + 1 ≤ R.frames ∧ 8 + (ymL + 11) + 40 * d' ≤ R.locals) {st : List Value} (hst : st = As.reverse ++ .ref (b + k) :: rest) (hsz : ls.size = mL) (hrm : (rest.map fun v => v.category).sum ≤ 8) (hdg : decode cc pc = .ok (.invokevirtual idx, 3)) (hf : cells + mc ≤ R.cells ∧ slots + ms ≤ R.slots)
    (kk : ∀ (n1 : Nat) (σ1 : qM) (H1 : Heap) (locs1 : List Loc), post n1 σ1 → qW D b n1 σ1 s H1 locs1 → W p l e R s m args below meth c H1 locs1 (cells + mc) (slots + ms) Q (F0 m (pc + 3) ls rest)) : W p l e R s m args below meth c H locs cells slots Q (F0 m pc ls st) :=
  va_callv (va_runV ⟨X.1, X.2.1, X.2.2.2.2.1, X.2.2.2.1, X.2.2.1⟩ hM (cw.cw X.2.2.1 hR) (q_preV X w hk hc) rfl hn hsz hst (lv_room hrm) hdg hf) w.2.1 (fun _ _ h => h) (fun _ h => h)
    (fun u T H1 locs1 ht _ hp hB _ _ hS => kk u.1 u.2 H1 locs1 hp ⟨by rw [← ht]; exact hB, hS, w.2.2⟩)
/-- a static method of ints alone, whatever the heap -/
def qF (l : Launch) (y : MethodName) (cc : ByteArray) (mL : Nat) (r : Option FieldType) (d : Nat) (As : List Value) (post : Int32 → Prop) : Prop :=
  ∀ (D : va_G) (t : Nat → ClassId) (b n : Nat) (σ : qM), qP l y cc mL r d D t b n σ As post
end Q
