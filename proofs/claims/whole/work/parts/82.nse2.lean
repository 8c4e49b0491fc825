section XN
variable {p : Program} {l : Launch} {e : Env} {R : Room} {s : State} {m : MethodId} {args : Array Value} {below : List Frame} {meth : Method} {c : Code} {H : Heap} {locs : List Loc} {cells slots : Nat} {Q : State → Prop}
variable {own : String} {cc : ByteArray} {mL : Nat} {r : Option FieldType} {D : va_G} {t : Nat → ClassId} {b n : Nat} {σ : qM} {pc : Nat} {ls : Array Slot} {rest : List Value}
theorem x_thrW_ns {Qc : Array Value → State → Outcome → State → Prop} {xp : String → Nat → qM → Prop} {mc ms is : Nat} {text : String} (hl0 : l.stackTraces = false) (X : qX p s args m meth c RX8 cc mL r D t b) (hE : XK s) (hno : ∀ x ∈ c.exceptionTable.toList, False) (w : qW D b n σ s H locs) (ht : (is, text) ∈ qS) (hsz : ls.size = mL)
    (d0 : decode cc pc = .ok (.new 261, 3)) (d3 : decode cc (pc + 3) = .ok (.dup, 1)) (d4 : decode cc (pc + 4) = .ok (.ldc_w is, 3)) (d7 : decode cc (pc + 7) = .ok (.invokespecial 265, 3)) (d10 : decode cc (pc + 10) = .ok (.athrow, 1))
    (hR : 6 ≤ R.frames ∧ 90 ≤ R.locals) (hrm : (rest.map fun v => v.category).sum ≤ 8) (hf : cells + 1 ≤ R.cells ∧ slots + 6 ≤ R.slots) (hf2 : cells + 1 ≤ mc ∧ slots + 6 ≤ ms) (hx : ∀ n1 : Nat, xp NS n1 σ) : W p l e R s m args below meth c H locs cells slots (vx_MQ below Qc (xX D b xp) args s mc ms (fun q => b ≤ q)) (F0 m pc ls rest) := by
  obtain ⟨sa, hsa⟩ := X.2.2.2.2.2.2.2.2.2.2.1 _ ht
  have hat : ∀ w ∈ nsL.filter vx_no, w.before args s = true := vx_hat (fun w hw => X.2.2.1 _ (nsG w (List.mem_cons_of_mem _ (List.mem_cons_of_mem _ hw)))) nsD (fun w hw => by
    obtain ⟨q, hq, rfl⟩ := List.mem_map.mp hw
    exact va_Nw.use rfl (hE.2 q hq))
  intro T hT Y0
  have hb := X.2.1
  have htr : e.platform.stackTraces = false := (show e.platform.stackTraces = l.stackTraces by rw [Y0.admits.platform]).trans hl0
  have Y := vx_rebase Y0 (R' := { frames := R.frames, locals := R.locals, cells := 1, slots := 6 }) (Nat.le_refl _) (Nat.le_refl _) hf.1 hf.2
  obtain ⟨u, hA⟩ : ∃ z, z = (T.setVm s.vm).setFrames (.invoking m args :: below) := ⟨_, rfl⟩
  rw [← hA] at Y
  have hvm : u.vm = s.vm := by rw [hA]; rfl
  have hhp : u.heap = H := by rw [hA]; exact hT
  have hW0 : s.WarmedH u.vm := by rw [hvm]; exact State.WarmedH.refl s
  have mv : ∀ w, w ∈ Cond.classLink RX8 261 NS :: Cond.initialized NS :: nsL.filter vx_no → w.before args s = true → w.before args u = true := fun w hw h => vx_ot_at hW0 hvm.symm (nsO w hw) h
  have hk1 := mv _ List.mem_cons_self (X.2.2.1 _ (nsG _ List.mem_cons_self))
  have hi1 := mv _ (List.mem_cons_of_mem _ List.mem_cons_self) (X.2.2.1 _ (nsG _ (List.mem_cons_of_mem _ List.mem_cons_self)))
  have hU1 : vx_Zq Bundle.tN "UNASSIGNED_STACK" Bundle.steD (fun q => b ≤ q) u u.heap := by rw [hhp]; exact vx_Zq.moved hW0.alike (X.2.2.2.2.2.2.2.2.1.kept w.2.1.2.1)
  have hN1 : vx_Zq Bundle.tN "SUPPRESSED_SENTINEL" Bundle.listD (fun q => b ≤ q) u u.heap := by rw [hhp]; exact vx_Zq.moved hW0.alike (X.2.2.2.2.2.2.2.2.2.1.kept w.2.1.2.1)
  have h : ∀ w ∈ nsL, w.before args u = true := vx_own (fun w hw => mv w (List.mem_cons_of_mem _ (List.mem_cons_of_mem _ hw)) (hat w hw)) (vx_isRefq hU1.1) (vx_isRefq hN1.1) hU1.2.word hN1.2.word
  have hown : u.vm.findClass RX8 = some m.cls := by rw [hvm]; exact X.2.2.2.1
  obtain ⟨vm1, cX, kX, hfX, hkX, -, -, X1, st1⟩ := Y.newCold X.1 (own := RX8) (C := NS) (index := 261) (n := 6) hown hk1 (h _ (by simp [nsL])) hi1
    (g := F0 m pc ls rest) rfl (by rw [hb]; exact d0) (Nat.le_refl _) (Nat.le_refl _)
  generalize hT1 : (T.setVm vm1).pushCell { cls := cX, slots := kX.instanceTypes.map defaultValue, vm := .none } = T1 at X1 st1
  have hcell : T1.heap[T.heap.size]? = some (freshCell cX kX) := by rw [← hT1]; exact State.heap_pushCell_size _ _
  have e3 : decode c.code (pc + 3) = .ok (.dup, 1) := by rw [hb]; exact d3
  have e4 : decode c.code (pc + 4) = .ok (.ldc_w is, 3) := by rw [hb]; exact d4
  have hstr := vk_R.warm hW0 hsa
  obtain ⟨V, hsteps, hrun, hend, hW, hsame, ce, hce, hcv, hcl⟩ := ns_ctor X1 X.1 htr hown h (fun x hx => nomatch hx) hfX hkX hcell (by rw [hhp, hT]; exact Nat.le_refl _) (sa := sa) (pc := pc + 7) (ls := ls) (rest := rest) (hsz.trans X.2.2.2.2.1.symm)
    (by rw [hb]; exact d7) (by rw [hb]; exact d10) (fun x hx => (hno x hx).elim) ⟨hR.1, by
      have hcat : (Value.ref T.heap.size).category = 1 := rfl
      simp only [List.map_cons, List.sum_cons, hcat]
      have := hR.2
      show _ ≤ R.locals
      omega⟩ X.2.2.2.2.2.2.1
  obtain ⟨f1, f2⟩ := vx_frame hsame
  rw [hhp] at f1 f2
  have hWs : s.WarmedH V.vm := State.WarmedH.trans hW0 hW
  rw [hvm] at hcl
  have hall : s.sameButNew ({ V with vm := s.vm } : State) locs mc ms := by
    subst hA
    obtain ⟨e1, e2⟩ := hsame
    rw [State.setFrames_setFrames] at e1
    have h2 : (T.setVm s.vm).sameButNew ({ V with vm := s.vm } : State) [] (0 + 1) (0 + 6) := ⟨e1, e2⟩
    have h3 := Y0.same.trans h2
    rw [List.append_nil] at h3
    exact h3.mono hf2.1 hf2.2
  have g2 : ∀ q : Nat, q < H.size → V.heap[q]? = H[q]? := fun q hq => f2 q hq (fun z hz => nomatch hz)
  refine ⟨V, st1 _ ?_, .threw T.heap.size, hrun, hend, Or.inr ⟨T.heap.size, rfl, NS, ce, locs, ⟨(V.heap.size - b, σ), trivial, ⟨hx _, w.1.grow f1 g2⟩, Nat.le_trans w.2.1.1 f1, fun q hq hA1 => (g2 q (Nat.lt_of_lt_of_le hq w.2.1.1)).trans (w.2.1.2.1 q hq hA1)⟩, hce, hcv, hcl, hWs, hall, w.2.1.2.2⟩⟩
  show Steps p.tables e below (T1.setTop { method := m, pc := pc + 3, locals := ls, stack := .ref T.heap.size :: rest, locked := none }) _
  jvm_step X1.here [X1.here.top, X.1, e3, Value.category]
  exact X1.ldcStringW X.1 (own := RX8) (text := text) (index := is) (a := sa) hown hstr.1 hstr.2 (g := { method := m, pc := pc + 4, locals := ls, stack := .ref T.heap.size :: .ref T.heap.size :: rest, locked := none }) rfl e4 _ hsteps
end XN
