section KA
variable {p : Program} {l : Launch} {e : Env} {R : Room} {s : State} {m : MethodId} {args : Array Value} {below : List Frame} {meth : Method} {c : Code} {H : Heap} {locs : List Loc} {cells slots : Nat} {Q : State → Prop}
variable {own : String} {cc : ByteArray} {mL : Nat} {r : Option FieldType} {D : va_G} {t : Nat → ClassId} {b n : Nat} {σ0 : qM} {A : Nat → Int32} {B : Nat → Nat → Int32} {P : Nat → Nat → Option Nat} {pc : Nat} {ls : Array Slot} {rest : List Value}
/-- a method that answers a reference and changes nothing; one that changes numbers and rows of references -/
abbrev kA (l : Launch) (y : MethodName) (cc : ByteArray) (mL : Nat) (r : Option FieldType) (d : Nat) (D : va_G) (t : Nat → ClassId) (b n : Nat) (σ0 : qM) (A : Nat → Int32) (B : Nat → Nat → Int32) (P : Nat → Nat → Option Nat) (As : List Value) (x : Option Nat) : Prop := qA l y cc mL r d 0 0 D t b n (cS t b σ0 A B P) As (fun o n1 σ1 => n1 = n ∧ σ1 = cS t b σ0 A B P ∧ o = x)
abbrev kU (l : Launch) (y : MethodName) (cc : ByteArray) (mL : Nat) (d : Nat) (D : va_G) (t : Nat → ClassId) (b n : Nat) (σ0 : qM) (A : Nat → Int32) (B : Nat → Nat → Int32) (P : Nat → Nat → Option Nat) (As : List Value) (post : (Nat → Int32) → (Nat → Nat → Option Nat) → Prop) : Prop := qV l y cc mL d 0 0 D t b n (cS t b σ0 A B P) As (fun n1 σ1 => n1 = n ∧ ∃ A1 P1, σ1 = cS t b σ0 A1 B P1 ∧ post A1 P1)
theorem kk_cA (X : qX p s args m meth c own cc mL r D t b) (w : qW D b n (cS t b σ0 A B P) s H locs) {idx : Nat} {y : MethodName} {yc : ByteArray} {ymL : Nat} {yr : Option FieldType} {N d' rc : Nat} {As : List Value} {x : Option Nat} (hM : kA l y yc ymL yr d' D t b n σ0 A B P (.ref (b + rc) :: As) x) (cw : qVw own idx y yc ymL yr N) {ci : Nat} {fs : List Value} {T : u_T} {NF : Nat} (hk : cS t b σ0 A B P rc = some (.inr (ci, fs))) (hc : vwCl[ci]? = some (y.cls, T, NF)) (hn : As.length = N) (hR : d' + 1 ≤ R.frames ∧ 8 + (ymL + 11) + 40 * d' ≤ R.locals) {st : List Value} (hst : st = As.reverse ++ .ref (b + rc) :: rest) (hsz : ls.size = mL) (hrm : (rest.map fun v => v.category).sum ≤ 8) (hdg : decode cc pc = .ok (.invokevirtual idx, 3)) (hf : cells + 0 ≤ R.cells ∧ slots + 0 ≤ R.slots)
    (kk : ∀ (H1 : Heap) (locs1 : List Loc), qW D b n (cS t b σ0 A B P) s H1 locs1 → W p l e R s m args below meth c H1 locs1 cells slots Q (F0 m (pc + 3) ls (rfp b x :: rest))) : W p l e R s m args below meth c H locs cells slots Q (F0 m pc ls st) :=
  q_cAV X w hM cw hk hc hn hR hst hsz hrm hdg hf (fun o n1 σ1 H1 l1 hp w1 => by
    obtain ⟨rfl, rfl, rfl⟩ := hp
    exact kk H1 l1 w1)
theorem kk_cU (X : qX p s args m meth c own cc mL r D t b) (w : qW D b n (cS t b σ0 A B P) s H locs) {idx : Nat} {y : MethodName} {yc : ByteArray} {ymL : Nat} {N d' rc : Nat} {As : List Value} {post : (Nat → Int32) → (Nat → Nat → Option Nat) → Prop} (hM : kU l y yc ymL d' D t b n σ0 A B P (.ref (b + rc) :: As) post) (cw : qVw own idx y yc ymL none N) {ci : Nat} {fs : List Value} {T : u_T} {NF : Nat} (hk : cS t b σ0 A B P rc = some (.inr (ci, fs))) (hc : vwCl[ci]? = some (y.cls, T, NF)) (hn : As.length = N) (hR : d' + 1 ≤ R.frames ∧ 8 + (ymL + 11) + 40 * d' ≤ R.locals) {st : List Value} (hst : st = As.reverse ++ .ref (b + rc) :: rest) (hsz : ls.size = mL) (hrm : (rest.map fun v => v.category).sum ≤ 8) (hdg : decode cc pc = .ok (.invokevirtual idx, 3)) (hf : cells + 0 ≤ R.cells ∧ slots + 0 ≤ R.slots)
    (kk : ∀ (A1 : Nat → Int32) (P1 : Nat → Nat → Option Nat) (H1 : Heap) (locs1 : List Loc), post A1 P1 → qW D b n (cS t b σ0 A1 B P1) s H1 locs1 → W p l e R s m args below meth c H1 locs1 cells slots Q (F0 m (pc + 3) ls rest)) : W p l e R s m args below meth c H locs cells slots Q (F0 m pc ls st) :=
  q_cVV X w hM cw hk hc hn hR hst hsz hrm hdg hf (fun n1 σ1 H1 l1 hp w1 => by
    obtain ⟨rfl, A1, P1, rfl, hp⟩ := hp
    exact kk A1 P1 H1 l1 hp w1)
end KA
theorem okSt.c {t : Nat → ClassId} {b : Nat} {σ0 : qM} {A A' : Nat → Int32} {B : Nat → Nat → Int32} {P P' P1 : Nat → Nat → Option Nat} {u : Nat} (h : okSt σ0 A P u) (e : P1 (1 + 2 * u) = P (1 + 2 * u)) {ix : Int} : ∀ q, (if 0 ≤ ix ∧ ix < (A (20 + 2 * u)).toInt ∧ ix < 6 then P1 (1 + 2 * u) ix.toNat else none) = some q → ∃ fs, cS t b σ0 A' B P' q = some (.inr (4, fs)) := by
  intro q hq
  split at hq
  · rename_i hh
    obtain ⟨q', fs, h1, h2, h3⟩ := h.2.2.1 ix.toNat (by omega)
    rw [e, h1] at hq
    cases hq
    exact ⟨fs, (cS_off h2).trans h3⟩
  · cases hq
theorem okSt.f {t : Nat → ClassId} {b : Nat} {σ0 : qM} {A A' : Nat → Int32} {B : Nat → Nat → Int32} {P P' P1 : Nat → Nat → Option Nat} {u : Nat} (h : okSt σ0 A P u) (e : P1 (2 + 2 * u) = P (2 + 2 * u)) {ix : Int} : ∀ q, (if 0 ≤ ix ∧ ix < (A (21 + 2 * u)).toInt ∧ ix < 8 then P1 (2 + 2 * u) ix.toNat else none) = some q → ∃ fs, cS t b σ0 A' B P' q = some (.inr (5, fs)) := by
  intro q hq
  split at hq
  · rename_i hh
    obtain ⟨q', fs, h1, h2, h3⟩ := h.2.2.2 ix.toNat (by omega)
    rw [e, h1] at hq
    cases hq
    exact ⟨fs, (cS_off h2).trans h3⟩
  · cases hq

set_option maxHeartbeats 2000000 in
set_option maxRecDepth 100000 in
theorem c_X6_calendarCount (l : Launch) (D : va_G) (t : Nat → ClassId) (b n : Nat) (σ0 : qM) (A : Nat → Int32) (B : Nat → Nat → Int32) (P : Nat → Nat → Option Nat) (u : Nat) (hu : u < 8) : qP l yX6_calendarCount cX6_calendarCount 1 (some .int) 0 D t b n (cS t b σ0 A B P) [.ref (b + sp u)] (fun z => z = A (20 + 2 * u)) := by
  refine qP.of (by decide +kernel) (Nat.le_of_ble_eq_true rfl) (fun p e s m args below meth c X w ls hl => ?_)
  have hx := X.1
  have hb := X.2.1
  have hl : lv_has ls 1 [(0, .ref (b + sp u))] := hl
  refine lv_aload_n hx hb dX6_calendarCount_0 rfl (lv_at hl 0 rfl) ?_
  refine sg_calendarCount X w hu dX6_calendarCount_1 ?_
  exact q_pret X w dX6_calendarCount_4 rfl

set_option maxHeartbeats 2000000 in
set_option maxRecDepth 100000 in
theorem c_X6_feastCount (l : Launch) (D : va_G) (t : Nat → ClassId) (b n : Nat) (σ0 : qM) (A : Nat → Int32) (B : Nat → Nat → Int32) (P : Nat → Nat → Option Nat) (u : Nat) (hu : u < 8) : qP l yX6_feastCount cX6_feastCount 1 (some .int) 0 D t b n (cS t b σ0 A B P) [.ref (b + sp u)] (fun z => z = A (21 + 2 * u)) := by
  refine qP.of (by decide +kernel) (Nat.le_of_ble_eq_true rfl) (fun p e s m args below meth c X w ls hl => ?_)
  have hx := X.1
  have hb := X.2.1
  have hl : lv_has ls 1 [(0, .ref (b + sp u))] := hl
  refine lv_aload_n hx hb dX6_feastCount_0 rfl (lv_at hl 0 rfl) ?_
  refine sg_feastCount X w hu dX6_feastCount_1 ?_
  exact q_pret X w dX6_feastCount_4 rfl

set_option maxHeartbeats 2000000 in
set_option maxRecDepth 100000 in
theorem c_X6_calendarAt (l : Launch) (D : va_G) (t : Nat → ClassId) (b n : Nat) (σ0 : qM) (A : Nat → Int32) (B : Nat → Nat → Int32) (P : Nat → Nat → Option Nat) (u : Nat) (hu : u < 8) (a_ix : Int32) (ix : Int) (e_ix : a_ix.toInt = ix) : kA l yX6_calendarAt cX6_calendarAt 3 (some (.object "CalendarConverter$Calendar")) 0 D t b n σ0 A B P [.ref (b + sp u), .int a_ix] (if 0 ≤ ix ∧ ix < (A (20 + 2 * u)).toInt ∧ ix < 6 then P (1 + 2 * u) ix.toNat else none) := by
  refine qA.of (by decide +kernel) (Nat.le_of_ble_eq_true rfl) (fun p e s m args below meth c X w ls hl => ?_)
  have hx := X.1
  have hb := X.2.1
  have hl : lv_has ls 3 [(0, .ref (b + sp u)), (1, .int a_ix)] := hl
  refine lv_iload_n hx hb dX6_calendarAt_0 rfl (lv_at hl 1 rfl) ?_
  refine lv_if_lt (tgt := 25) hx hb dX6_calendarAt_1 (by decide) (fun c_1 => ?_) (fun c_1 => ?_)
  · skip
    have k_1 : ix < 0 := (g_lt e_ix (show (0 : Int32).toInt = 0 from rfl)).mp c_1
    refine lv_iconst (v := 0) hx hb dX6_calendarAt_25 (by decide) ?_
    refine lv_istore_n (lv' := [(2, .int 0), (0, .ref (b + sp u)), (1, .int a_ix)]) hx hb dX6_calendarAt_26 rfl hl (by decide) rfl (fun ls hl => ?_)
    refine lv_iload_n hx hb dX6_calendarAt_27 rfl (lv_at hl 0 rfl) ?_
    refine lv_if_eq (tgt := 40) hx hb dX6_calendarAt_28 (by decide) (fun c_28 => ?_) (fun c_28 => ?_)
    · skip
      have k_28 : (0 : Int) = 0 := (g_eq (show (0 : Int32).toInt = 0 from rfl) (show (0 : Int32).toInt = 0 from rfl)).mp c_28
      refine lv_null hx hb dX6_calendarAt_40 ?_
      exact q_aret (o := none) X w (Or.inl ⟨_, rfl⟩) rfl dX6_calendarAt_41 ⟨rfl, rfl, (if_neg (by omega)).symm⟩
    · skip
      have k_28 : ¬ ((0 : Int) = 0) := fun h => c_28 ((g_eq (show (0 : Int32).toInt = 0 from rfl) (show (0 : Int32).toInt = 0 from rfl)).mpr h)
      exfalso; exact k_28 rfl
  · skip
    have k_1 : ¬ (ix < 0) := fun h => c_1 ((g_lt e_ix (show (0 : Int32).toInt = 0 from rfl)).mpr h)
    refine lv_iload_n hx hb dX6_calendarAt_4 rfl (lv_at hl 1 rfl) ?_
    refine lv_aload_n hx hb dX6_calendarAt_5 rfl (lv_at hl 0 rfl) ?_
    refine sg_calendarCount X w hu dX6_calendarAt_6 ?_
    refine lv_icmp_ge (tgt := 25) hx hb dX6_calendarAt_9 (by decide) (fun c_9 => ?_) (fun c_9 => ?_)
    · skip
      have k_9 : ((A (20 + 2 * u)).toInt) ≤ ix := (g_le rfl e_ix).mp c_9
      refine lv_iconst (v := 0) hx hb dX6_calendarAt_25 (by decide) ?_
      refine lv_istore_n (lv' := [(2, .int 0), (0, .ref (b + sp u)), (1, .int a_ix)]) hx hb dX6_calendarAt_26 rfl hl (by decide) rfl (fun ls hl => ?_)
      refine lv_iload_n hx hb dX6_calendarAt_27 rfl (lv_at hl 0 rfl) ?_
      refine lv_if_eq (tgt := 40) hx hb dX6_calendarAt_28 (by decide) (fun c_28 => ?_) (fun c_28 => ?_)
      · skip
        have k_28 : (0 : Int) = 0 := (g_eq (show (0 : Int32).toInt = 0 from rfl) (show (0 : Int32).toInt = 0 from rfl)).mp c_28
        refine lv_null hx hb dX6_calendarAt_40 ?_
        exact q_aret (o := none) X w (Or.inl ⟨_, rfl⟩) rfl dX6_calendarAt_41 ⟨rfl, rfl, (if_neg (by omega)).symm⟩
      · skip
        have k_28 : ¬ ((0 : Int) = 0) := fun h => c_28 ((g_eq (show (0 : Int32).toInt = 0 from rfl) (show (0 : Int32).toInt = 0 from rfl)).mpr h)
        exfalso; exact k_28 rfl
    · skip
      have k_9 : ¬ (((A (20 + 2 * u)).toInt) ≤ ix) := fun h => c_9 ((g_le rfl e_ix).mpr h)
      refine lv_iload_n hx hb dX6_calendarAt_12 rfl (lv_at hl 1 rfl) ?_
      refine lv_aload_n hx hb dX6_calendarAt_13 rfl (lv_at hl 0 rfl) ?_
      refine sg_calendars X w hu dX6_calendarAt_14 ?_
      refine sn_cal X w hu dX6_calendarAt_17 ?_
      refine lv_icmp_ge (tgt := 25) hx hb dX6_calendarAt_18 (by decide) (fun c_18 => ?_) (fun c_18 => ?_)
      · skip
        have k_18 : 6 ≤ ix := (g_le (show (6 : Int32).toInt = 6 from rfl) e_ix).mp c_18
        refine lv_iconst (v := 0) hx hb dX6_calendarAt_25 (by decide) ?_
        refine lv_istore_n (lv' := [(2, .int 0), (0, .ref (b + sp u)), (1, .int a_ix)]) hx hb dX6_calendarAt_26 rfl hl (by decide) rfl (fun ls hl => ?_)
        refine lv_iload_n hx hb dX6_calendarAt_27 rfl (lv_at hl 0 rfl) ?_
        refine lv_if_eq (tgt := 40) hx hb dX6_calendarAt_28 (by decide) (fun c_28 => ?_) (fun c_28 => ?_)
        · skip
          have k_28 : (0 : Int) = 0 := (g_eq (show (0 : Int32).toInt = 0 from rfl) (show (0 : Int32).toInt = 0 from rfl)).mp c_28
          refine lv_null hx hb dX6_calendarAt_40 ?_
          exact q_aret (o := none) X w (Or.inl ⟨_, rfl⟩) rfl dX6_calendarAt_41 ⟨rfl, rfl, (if_neg (by omega)).symm⟩
        · skip
          have k_28 : ¬ ((0 : Int) = 0) := fun h => c_28 ((g_eq (show (0 : Int32).toInt = 0 from rfl) (show (0 : Int32).toInt = 0 from rfl)).mpr h)
          exfalso; exact k_28 rfl
      · skip
        have k_18 : ¬ (6 ≤ ix) := fun h => c_18 ((g_le (show (6 : Int32).toInt = 6 from rfl) e_ix).mpr h)
        refine lv_iconst (v := 1) hx hb dX6_calendarAt_21 (by decide) ?_
        refine lv_goto (tgt := 26) hx hb dX6_calendarAt_22 (by decide) ?_
        refine lv_istore_n (lv' := [(2, .int 1), (0, .ref (b + sp u)), (1, .int a_ix)]) hx hb dX6_calendarAt_26 rfl hl (by decide) rfl (fun ls hl => ?_)
        refine lv_iload_n hx hb dX6_calendarAt_27 rfl (lv_at hl 0 rfl) ?_
        refine lv_if_eq (tgt := 40) hx hb dX6_calendarAt_28 (by decide) (fun c_28 => ?_) (fun c_28 => ?_)
        · skip
          have k_28 : (1 : Int) = 0 := (g_eq (show (1 : Int32).toInt = 1 from rfl) (show (0 : Int32).toInt = 0 from rfl)).mp c_28
          exfalso; exact absurd k_28 (by decide)
        · skip
          have k_28 : ¬ ((1 : Int) = 0) := fun h => c_28 ((g_eq (show (1 : Int32).toInt = 1 from rfl) (show (0 : Int32).toInt = 0 from rfl)).mpr h)
          refine lv_aload_n hx hb dX6_calendarAt_31 rfl (lv_at hl 1 rfl) ?_
          refine sg_calendars X w hu dX6_calendarAt_32 ?_
          refine lv_iload_n hx hb dX6_calendarAt_35 rfl (lv_at hl 2 rfl) ?_
          refine sl_cal X w hu e_ix (by omega) dX6_calendarAt_36 ?_
          refine lv_goto (tgt := 41) hx hb dX6_calendarAt_37 (by decide) ?_
          exact q_aret (o := P (1 + 2 * u) ix.toNat) X w (Or.inl ⟨_, rfl⟩) rfl dX6_calendarAt_41 ⟨rfl, rfl, (if_pos (by omega)).symm⟩

set_option maxHeartbeats 2000000 in
set_option maxRecDepth 100000 in
theorem c_X6_feastAt (l : Launch) (D : va_G) (t : Nat → ClassId) (b n : Nat) (σ0 : qM) (A : Nat → Int32) (B : Nat → Nat → Int32) (P : Nat → Nat → Option Nat) (u : Nat) (hu : u < 8) (a_ix : Int32) (ix : Int) (e_ix : a_ix.toInt = ix) : kA l yX6_feastAt cX6_feastAt 3 (some (.object "CalendarConverter$Feast")) 0 D t b n σ0 A B P [.ref (b + sp u), .int a_ix] (if 0 ≤ ix ∧ ix < (A (21 + 2 * u)).toInt ∧ ix < 8 then P (2 + 2 * u) ix.toNat else none) := by
  refine qA.of (by decide +kernel) (Nat.le_of_ble_eq_true rfl) (fun p e s m args below meth c X w ls hl => ?_)
  have hx := X.1
  have hb := X.2.1
  have hl : lv_has ls 3 [(0, .ref (b + sp u)), (1, .int a_ix)] := hl
  refine lv_iload_n hx hb dX6_feastAt_0 rfl (lv_at hl 1 rfl) ?_
  refine lv_if_lt (tgt := 25) hx hb dX6_feastAt_1 (by decide) (fun c_1 => ?_) (fun c_1 => ?_)
  · skip
    have k_1 : ix < 0 := (g_lt e_ix (show (0 : Int32).toInt = 0 from rfl)).mp c_1
    refine lv_iconst (v := 0) hx hb dX6_feastAt_25 (by decide) ?_
    refine lv_istore_n (lv' := [(2, .int 0), (0, .ref (b + sp u)), (1, .int a_ix)]) hx hb dX6_feastAt_26 rfl hl (by decide) rfl (fun ls hl => ?_)
    refine lv_iload_n hx hb dX6_feastAt_27 rfl (lv_at hl 0 rfl) ?_
    refine lv_if_eq (tgt := 40) hx hb dX6_feastAt_28 (by decide) (fun c_28 => ?_) (fun c_28 => ?_)
    · skip
      have k_28 : (0 : Int) = 0 := (g_eq (show (0 : Int32).toInt = 0 from rfl) (show (0 : Int32).toInt = 0 from rfl)).mp c_28
      refine lv_null hx hb dX6_feastAt_40 ?_
      exact q_aret (o := none) X w (Or.inl ⟨_, rfl⟩) rfl dX6_feastAt_41 ⟨rfl, rfl, (if_neg (by omega)).symm⟩
    · skip
      have k_28 : ¬ ((0 : Int) = 0) := fun h => c_28 ((g_eq (show (0 : Int32).toInt = 0 from rfl) (show (0 : Int32).toInt = 0 from rfl)).mpr h)
      exfalso; exact k_28 rfl
  · skip
    have k_1 : ¬ (ix < 0) := fun h => c_1 ((g_lt e_ix (show (0 : Int32).toInt = 0 from rfl)).mpr h)
    refine lv_iload_n hx hb dX6_feastAt_4 rfl (lv_at hl 1 rfl) ?_
    refine lv_aload_n hx hb dX6_feastAt_5 rfl (lv_at hl 0 rfl) ?_
    refine sg_feastCount X w hu dX6_feastAt_6 ?_
    refine lv_icmp_ge (tgt := 25) hx hb dX6_feastAt_9 (by decide) (fun c_9 => ?_) (fun c_9 => ?_)
    · skip
      have k_9 : ((A (21 + 2 * u)).toInt) ≤ ix := (g_le rfl e_ix).mp c_9
      refine lv_iconst (v := 0) hx hb dX6_feastAt_25 (by decide) ?_
      refine lv_istore_n (lv' := [(2, .int 0), (0, .ref (b + sp u)), (1, .int a_ix)]) hx hb dX6_feastAt_26 rfl hl (by decide) rfl (fun ls hl => ?_)
      refine lv_iload_n hx hb dX6_feastAt_27 rfl (lv_at hl 0 rfl) ?_
      refine lv_if_eq (tgt := 40) hx hb dX6_feastAt_28 (by decide) (fun c_28 => ?_) (fun c_28 => ?_)
      · skip
        have k_28 : (0 : Int) = 0 := (g_eq (show (0 : Int32).toInt = 0 from rfl) (show (0 : Int32).toInt = 0 from rfl)).mp c_28
        refine lv_null hx hb dX6_feastAt_40 ?_
        exact q_aret (o := none) X w (Or.inl ⟨_, rfl⟩) rfl dX6_feastAt_41 ⟨rfl, rfl, (if_neg (by omega)).symm⟩
      · skip
        have k_28 : ¬ ((0 : Int) = 0) := fun h => c_28 ((g_eq (show (0 : Int32).toInt = 0 from rfl) (show (0 : Int32).toInt = 0 from rfl)).mpr h)
        exfalso; exact k_28 rfl
    · skip
      have k_9 : ¬ (((A (21 + 2 * u)).toInt) ≤ ix) := fun h => c_9 ((g_le rfl e_ix).mpr h)
      refine lv_iload_n hx hb dX6_feastAt_12 rfl (lv_at hl 1 rfl) ?_
      refine lv_aload_n hx hb dX6_feastAt_13 rfl (lv_at hl 0 rfl) ?_
      refine sg_feasts X w hu dX6_feastAt_14 ?_
      refine sn_fea X w hu dX6_feastAt_17 ?_
      refine lv_icmp_ge (tgt := 25) hx hb dX6_feastAt_18 (by decide) (fun c_18 => ?_) (fun c_18 => ?_)
      · skip
        have k_18 : 8 ≤ ix := (g_le (show (8 : Int32).toInt = 8 from rfl) e_ix).mp c_18
        refine lv_iconst (v := 0) hx hb dX6_feastAt_25 (by decide) ?_
        refine lv_istore_n (lv' := [(2, .int 0), (0, .ref (b + sp u)), (1, .int a_ix)]) hx hb dX6_feastAt_26 rfl hl (by decide) rfl (fun ls hl => ?_)
        refine lv_iload_n hx hb dX6_feastAt_27 rfl (lv_at hl 0 rfl) ?_
        refine lv_if_eq (tgt := 40) hx hb dX6_feastAt_28 (by decide) (fun c_28 => ?_) (fun c_28 => ?_)
        · skip
          have k_28 : (0 : Int) = 0 := (g_eq (show (0 : Int32).toInt = 0 from rfl) (show (0 : Int32).toInt = 0 from rfl)).mp c_28
          refine lv_null hx hb dX6_feastAt_40 ?_
          exact q_aret (o := none) X w (Or.inl ⟨_, rfl⟩) rfl dX6_feastAt_41 ⟨rfl, rfl, (if_neg (by omega)).symm⟩
        · skip
          have k_28 : ¬ ((0 : Int) = 0) := fun h => c_28 ((g_eq (show (0 : Int32).toInt = 0 from rfl) (show (0 : Int32).toInt = 0 from rfl)).mpr h)
          exfalso; exact k_28 rfl
      · skip
        have k_18 : ¬ (8 ≤ ix) := fun h => c_18 ((g_le (show (8 : Int32).toInt = 8 from rfl) e_ix).mpr h)
        refine lv_iconst (v := 1) hx hb dX6_feastAt_21 (by decide) ?_
        refine lv_goto (tgt := 26) hx hb dX6_feastAt_22 (by decide) ?_
        refine lv_istore_n (lv' := [(2, .int 1), (0, .ref (b + sp u)), (1, .int a_ix)]) hx hb dX6_feastAt_26 rfl hl (by decide) rfl (fun ls hl => ?_)
        refine lv_iload_n hx hb dX6_feastAt_27 rfl (lv_at hl 0 rfl) ?_
        refine lv_if_eq (tgt := 40) hx hb dX6_feastAt_28 (by decide) (fun c_28 => ?_) (fun c_28 => ?_)
        · skip
          have k_28 : (1 : Int) = 0 := (g_eq (show (1 : Int32).toInt = 1 from rfl) (show (0 : Int32).toInt = 0 from rfl)).mp c_28
          exfalso; exact absurd k_28 (by decide)
        · skip
          have k_28 : ¬ ((1 : Int) = 0) := fun h => c_28 ((g_eq (show (1 : Int32).toInt = 1 from rfl) (show (0 : Int32).toInt = 0 from rfl)).mpr h)
          refine lv_aload_n hx hb dX6_feastAt_31 rfl (lv_at hl 1 rfl) ?_
          refine sg_feasts X w hu dX6_feastAt_32 ?_
          refine lv_iload_n hx hb dX6_feastAt_35 rfl (lv_at hl 2 rfl) ?_
          refine sl_fea X w hu e_ix (by omega) dX6_feastAt_36 ?_
          refine lv_goto (tgt := 41) hx hb dX6_feastAt_37 (by decide) ?_
          exact q_aret (o := P (2 + 2 * u) ix.toNat) X w (Or.inl ⟨_, rfl⟩) rfl dX6_feastAt_41 ⟨rfl, rfl, (if_pos (by omega)).symm⟩

set_option maxHeartbeats 2000000 in
set_option maxRecDepth 100000 in
theorem c_X3_stateAt (l : Launch) (D : va_G) (t : Nat → ClassId) (b n : Nat) (σ0 : qM) (A : Nat → Int32) (B : Nat → Nat → Int32) (P : Nat → Nat → Option Nat) (pm : Nat → Nat) (h_1 : hiP pm P) (a_ix : Int32) (ix : Int) (e_ix : a_ix.toInt = ix) (h_2 : 0 ≤ ix ∧ ix < 6) : kA l yX3_stateAt cX3_stateAt 2 (some (.object "CalendarConverter$State")) 0 D t b n σ0 A B P [.ref (b + 13), .int a_ix] (some (sp (pm ix.toNat))) := by
  refine qA.of (by decide +kernel) (Nat.le_of_ble_eq_true rfl) (fun p e s m args below meth c X w ls hl => ?_)
  have hx := X.1
  have hb := X.2.1
  have hl : lv_has ls 2 [(0, .ref (b + 13)), (1, .int a_ix)] := hl
  refine lv_iload_n hx hb dX3_stateAt_0 rfl (lv_at hl 1 rfl) ?_
  refine lv_if_lt (tgt := 22) hx hb dX3_stateAt_1 (by decide) (fun c_1 => ?_) (fun c_1 => ?_)
  · skip
    have k_1 : ix < 0 := (g_lt e_ix (show (0 : Int32).toInt = 0 from rfl)).mp c_1
    exfalso; omega
  · skip
    have k_1 : ¬ (ix < 0) := fun h => c_1 ((g_lt e_ix (show (0 : Int32).toInt = 0 from rfl)).mpr h)
    refine lv_iload_n hx hb dX3_stateAt_4 rfl (lv_at hl 1 rfl) ?_
    refine lv_aload_n hx hb dX3_stateAt_5 rfl (lv_at hl 0 rfl) ?_
    refine kg_X3_states X w dX3_stateAt_6 ?_
    refine sn_his X w dX3_stateAt_9 ?_
    refine lv_icmp_ge (tgt := 22) hx hb dX3_stateAt_10 (by decide) (fun c_10 => ?_) (fun c_10 => ?_)
    · skip
      have k_10 : 6 ≤ ix := (g_le (show (6 : Int32).toInt = 6 from rfl) e_ix).mp c_10
      exfalso; omega
    · skip
      have k_10 : ¬ (6 ≤ ix) := fun h => c_10 ((g_le (show (6 : Int32).toInt = 6 from rfl) e_ix).mpr h)
      refine lv_aload_n hx hb dX3_stateAt_13 rfl (lv_at hl 0 rfl) ?_
      refine kg_X3_states X w dX3_stateAt_14 ?_
      refine lv_iload_n hx hb dX3_stateAt_17 rfl (lv_at hl 1 rfl) ?_
      refine sl_his X w e_ix (by omega) dX3_stateAt_18 ?_
      refine lv_goto (tgt := 23) hx hb dX3_stateAt_19 (by decide) ?_
      exact q_aret (o := P 0 ix.toNat) X w (Or.inl ⟨_, rfl⟩) rfl dX3_stateAt_23 ⟨rfl, rfl, (h_1.1 ix.toNat (by omega)).1⟩

set_option maxHeartbeats 2000000 in
set_option maxRecDepth 100000 in
theorem c_X3_count (l : Launch) (D : va_G) (t : Nat → ClassId) (b n : Nat) (σ0 : qM) (A : Nat → Int32) (B : Nat → Nat → Int32) (P : Nat → Nat → Option Nat) : qP l yX3_count cX3_count 1 (some .int) 0 D t b n (cS t b σ0 A B P) [.ref (b + 13)] (fun z => z = A 19) := by
  refine qP.of (by decide +kernel) (Nat.le_of_ble_eq_true rfl) (fun p e s m args below meth c X w ls hl => ?_)
  have hx := X.1
  have hb := X.2.1
  have hl : lv_has ls 1 [(0, .ref (b + 13))] := hl
  refine lv_aload_n hx hb dX3_count_0 rfl (lv_at hl 0 rfl) ?_
  refine kg_X3_count X w dX3_count_1 ?_
  exact q_pret X w dX3_count_4 (by rfl)

set_option maxHeartbeats 2000000 in
set_option maxRecDepth 100000 in
theorem c_X6_setCalendarAt (l : Launch) (D : va_G) (t : Nat → ClassId) (b n : Nat) (σ0 : qM) (A : Nat → Int32) (B : Nat → Nat → Int32) (P : Nat → Nat → Option Nat) (u : Nat) (hu : u < 8) (a_ix : Int32) (ix : Int) (e_ix : a_ix.toInt = ix) (h_1 : 0 ≤ ix ∧ ix < 6) (q : Nat) (fs : List Value) (h_2 : 41 < q ∧ σ0 q = some (.inr (4, fs))) : kU l yX6_setCalendarAt cX6_setCalendarAt 3 1 D t b n σ0 A B P [.ref (b + sp u), .int a_ix, .ref (b + q)] (fun A1 P1 => (∃ v : Int32, A1 = va_up A (20 + 2 * u) v ∧ v.toInt = (if (A (20 + 2 * u)).toInt < ix + 1 then ix + 1 else (A (20 + 2 * u)).toInt)) ∧ P1 = va_up P (1 + 2 * u) (va_up (P (1 + 2 * u)) ix.toNat (some q))) := by
  refine qV.of (by decide +kernel) (Nat.le_of_ble_eq_true rfl) (fun p e s m args below meth c X w _ ls hl => ?_)
  have hx := X.1
  have hb := X.2.1
  have hl : lv_has ls 3 [(0, .ref (b + sp u)), (1, .int a_ix), (2, .ref (b + q))] := hl
  refine lv_iload_n hx hb dX6_setCalendarAt_0 rfl (lv_at hl 1 rfl) ?_
  refine lv_if_lt (tgt := 34) hx hb dX6_setCalendarAt_1 (by decide) (fun c_1 => ?_) (fun c_1 => ?_)
  · skip
    have k_1 : ix < 0 := (g_lt e_ix (show (0 : Int32).toInt = 0 from rfl)).mp c_1
    exfalso; omega
  · skip
    have k_1 : ¬ (ix < 0) := fun h => c_1 ((g_lt e_ix (show (0 : Int32).toInt = 0 from rfl)).mpr h)
    refine lv_iload_n hx hb dX6_setCalendarAt_4 rfl (lv_at hl 1 rfl) ?_
    refine lv_aload_n hx hb dX6_setCalendarAt_5 rfl (lv_at hl 0 rfl) ?_
    refine sg_calendars X w hu dX6_setCalendarAt_6 ?_
    refine sn_cal X w hu dX6_setCalendarAt_9 ?_
    refine lv_icmp_ge (tgt := 34) hx hb dX6_setCalendarAt_10 (by decide) (fun c_10 => ?_) (fun c_10 => ?_)
    · skip
      have k_10 : 6 ≤ ix := (g_le (show (6 : Int32).toInt = 6 from rfl) e_ix).mp c_10
      exfalso; omega
    · skip
      have k_10 : ¬ (6 ≤ ix) := fun h => c_10 ((g_le (show (6 : Int32).toInt = 6 from rfl) e_ix).mpr h)
      refine lv_aload_n hx hb dX6_setCalendarAt_13 rfl (lv_at hl 0 rfl) ?_
      refine sg_calendars X w hu dX6_setCalendarAt_14 ?_
      refine lv_iload_n hx hb dX6_setCalendarAt_17 rfl (lv_at hl 1 rfl) ?_
      refine lv_aload_n hx hb dX6_setCalendarAt_18 rfl (lv_at hl 2 rfl) ?_
      refine ss_cal X w hu e_ix (o := (some q)) (by omega) (by intro z hz; cases hz; exact ⟨fs, (cS_off h_2.1).trans h_2.2⟩) dX6_setCalendarAt_19 (fun H locs w => ?_)
      refine lv_aload_n hx hb dX6_setCalendarAt_20 rfl (lv_at hl 0 rfl) ?_
      refine lv_aload_n hx hb dX6_setCalendarAt_21 rfl (lv_at hl 0 rfl) ?_
      refine sg_calendarCount X w hu dX6_setCalendarAt_22 ?_
      refine lv_iload_n hx hb dX6_setCalendarAt_25 rfl (lv_at hl 1 rfl) ?_
      refine lv_iconst (v := 1) hx hb dX6_setCalendarAt_26 (by decide) ?_
      refine lv_iadd hx hb dX6_setCalendarAt_27 ?_
      refine lv_topi (fun x_27 e_27 => ?_)
      have p_27 : x_27.toInt = (ix + 1) := by rw [e_27]; exact t_add e_ix (show (1 : Int32).toInt = 1 from rfl) (by omega) (by omega)
      refine q_max X ml_X6_30 ⟨Nat.le_of_ble_eq_true rfl, Nat.le_of_ble_eq_true rfl⟩ ⟨Nat.zero_le _, Nat.zero_le _⟩ hl.1 (Nat.le_of_ble_eq_true rfl) dX6_setCalendarAt_28 (fun r_28 z_28 => ?_)
      have p_28 : r_28.toInt = (if ((A (20 + 2 * u)).toInt) < (ix + 1) then (ix + 1) else ((A (20 + 2 * u)).toInt)) := by rw [z_28, p_27]
      refine sp_calendarCount (v := r_28) X w hu dX6_setCalendarAt_31 (fun H locs w => ?_)
      exact q_vret (post := fun n1 σ1 => n1 = n ∧ ∃ A1 P1, σ1 = cS t b σ0 A1 B P1 ∧ ((∃ v : Int32, A1 = va_up A (20 + 2 * u) v ∧ v.toInt = (if (A (20 + 2 * u)).toInt < ix + 1 then ix + 1 else (A (20 + 2 * u)).toInt)) ∧ P1 = va_up P (1 + 2 * u) (va_up (P (1 + 2 * u)) ix.toNat (some q)))) X w dX6_setCalendarAt_34 ⟨rfl, _, _, rfl, by exact ⟨⟨_, rfl, p_28⟩, rfl⟩⟩

set_option maxHeartbeats 2000000 in
set_option maxRecDepth 100000 in
theorem c_X6_addLastFeast (l : Launch) (D : va_G) (t : Nat → ClassId) (b n : Nat) (σ0 : qM) (A : Nat → Int32) (B : Nat → Nat → Int32) (P : Nat → Nat → Option Nat) (u : Nat) (hu : u < 8) (h_1 : 0 ≤ (A (21 + 2 * u)).toInt ∧ (A (21 + 2 * u)).toInt < 8) (q : Nat) (fs : List Value) (h_2 : 41 < q ∧ σ0 q = some (.inr (5, fs))) : kU l yX6_addLastFeast cX6_addLastFeast 2 0 D t b n σ0 A B P [.ref (b + sp u), .ref (b + q)] (fun A1 P1 => (∃ v : Int32, A1 = va_up A (21 + 2 * u) v ∧ v.toInt = (A (21 + 2 * u)).toInt + 1) ∧ P1 = va_up P (2 + 2 * u) (va_up (P (2 + 2 * u)) (A (21 + 2 * u)).toInt.toNat (some q))) := by
  refine qV.of (by decide +kernel) (Nat.le_of_ble_eq_true rfl) (fun p e s m args below meth c X w _ ls hl => ?_)
  have hx := X.1
  have hb := X.2.1
  have hl : lv_has ls 2 [(0, .ref (b + sp u)), (1, .ref (b + q))] := hl
  refine lv_aload_n hx hb dX6_addLastFeast_0 rfl (lv_at hl 0 rfl) ?_
  refine sg_feastCount X w hu dX6_addLastFeast_1 ?_
  refine lv_if_lt (tgt := 39) hx hb dX6_addLastFeast_4 (by decide) (fun c_4 => ?_) (fun c_4 => ?_)
  · skip
    have k_4 : ((A (21 + 2 * u)).toInt) < 0 := (g_lt rfl (show (0 : Int32).toInt = 0 from rfl)).mp c_4
    exfalso; omega
  · skip
    have k_4 : ¬ (((A (21 + 2 * u)).toInt) < 0) := fun h => c_4 ((g_lt rfl (show (0 : Int32).toInt = 0 from rfl)).mpr h)
    refine lv_aload_n hx hb dX6_addLastFeast_7 rfl (lv_at hl 0 rfl) ?_
    refine sg_feastCount X w hu dX6_addLastFeast_8 ?_
    refine lv_aload_n hx hb dX6_addLastFeast_11 rfl (lv_at hl 0 rfl) ?_
    refine sg_feasts X w hu dX6_addLastFeast_12 ?_
    refine sn_fea X w hu dX6_addLastFeast_15 ?_
    refine lv_icmp_ge (tgt := 39) hx hb dX6_addLastFeast_16 (by decide) (fun c_16 => ?_) (fun c_16 => ?_)
    · skip
      have k_16 : 8 ≤ ((A (21 + 2 * u)).toInt) := (g_le (show (8 : Int32).toInt = 8 from rfl) rfl).mp c_16
      exfalso; omega
    · skip
      have k_16 : ¬ (8 ≤ ((A (21 + 2 * u)).toInt)) := fun h => c_16 ((g_le (show (8 : Int32).toInt = 8 from rfl) rfl).mpr h)
      refine lv_aload_n hx hb dX6_addLastFeast_19 rfl (lv_at hl 0 rfl) ?_
      refine sg_feasts X w hu dX6_addLastFeast_20 ?_
      refine lv_aload_n hx hb dX6_addLastFeast_23 rfl (lv_at hl 0 rfl) ?_
      refine sg_feastCount X w hu dX6_addLastFeast_24 ?_
      refine lv_aload_n hx hb dX6_addLastFeast_27 rfl (lv_at hl 1 rfl) ?_
      refine ss_fea X w hu rfl (o := (some q)) (by omega) (by intro z hz; cases hz; exact ⟨fs, (cS_off h_2.1).trans h_2.2⟩) dX6_addLastFeast_28 (fun H locs w => ?_)
      refine lv_aload_n hx hb dX6_addLastFeast_29 rfl (lv_at hl 0 rfl) ?_
      refine lv_dup hx hb dX6_addLastFeast_30 rfl ?_
      refine sg_feastCount X w hu dX6_addLastFeast_31 ?_
      refine lv_iconst (v := 1) hx hb dX6_addLastFeast_34 (by decide) ?_
      refine lv_iadd hx hb dX6_addLastFeast_35 ?_
      refine lv_topi (fun x_35 e_35 => ?_)
      have p_35 : x_35.toInt = (((A (21 + 2 * u)).toInt) + 1) := by rw [e_35]; exact t_add rfl (show (1 : Int32).toInt = 1 from rfl) (by omega) (by omega)
      refine sp_feastCount (v := x_35) X w hu dX6_addLastFeast_36 (fun H locs w => ?_)
      exact q_vret (post := fun n1 σ1 => n1 = n ∧ ∃ A1 P1, σ1 = cS t b σ0 A1 B P1 ∧ ((∃ v : Int32, A1 = va_up A (21 + 2 * u) v ∧ v.toInt = (A (21 + 2 * u)).toInt + 1) ∧ P1 = va_up P (2 + 2 * u) (va_up (P (2 + 2 * u)) (A (21 + 2 * u)).toInt.toNat (some q)))) X w dX6_addLastFeast_39 ⟨rfl, _, _, rfl, by exact ⟨⟨_, rfl, p_35⟩, rfl⟩⟩

set_option maxHeartbeats 2000000 in
set_option maxRecDepth 100000 in
theorem c_X6_removeLastFeast (l : Launch) (D : va_G) (t : Nat → ClassId) (b n : Nat) (σ0 : qM) (A : Nat → Int32) (B : Nat → Nat → Int32) (P : Nat → Nat → Option Nat) (u : Nat) (hu : u < 8) (h_1 : 0 ≤ (A (21 + 2 * u)).toInt ∧ (A (21 + 2 * u)).toInt ≤ 8) : kU l yX6_removeLastFeast cX6_removeLastFeast 1 1 D t b n σ0 A B P [.ref (b + sp u)] (fun A1 P1 => (∃ v : Int32, A1 = va_up A (21 + 2 * u) v ∧ v.toInt = (if 0 < (A (21 + 2 * u)).toInt - 1 then (A (21 + 2 * u)).toInt - 1 else 0)) ∧ P1 = P) := by
  refine qV.of (by decide +kernel) (Nat.le_of_ble_eq_true rfl) (fun p e s m args below meth c X w _ ls hl => ?_)
  have hx := X.1
  have hb := X.2.1
  have hl : lv_has ls 1 [(0, .ref (b + sp u))] := hl
  refine lv_aload_n hx hb dX6_removeLastFeast_0 rfl (lv_at hl 0 rfl) ?_
  refine lv_iconst (v := 0) hx hb dX6_removeLastFeast_1 (by decide) ?_
  refine lv_aload_n hx hb dX6_removeLastFeast_2 rfl (lv_at hl 0 rfl) ?_
  refine sg_feastCount X w hu dX6_removeLastFeast_3 ?_
  refine lv_iconst (v := 1) hx hb dX6_removeLastFeast_6 (by decide) ?_
  refine lv_isub hx hb dX6_removeLastFeast_7 ?_
  refine lv_topi (fun x_7 e_7 => ?_)
  have p_7 : x_7.toInt = (((A (21 + 2 * u)).toInt) - 1) := by rw [e_7]; exact t_sub rfl (show (1 : Int32).toInt = 1 from rfl) (by omega) (by omega)
  refine q_max X ml_X6_30 ⟨Nat.le_of_ble_eq_true rfl, Nat.le_of_ble_eq_true rfl⟩ ⟨Nat.zero_le _, Nat.zero_le _⟩ hl.1 (Nat.le_of_ble_eq_true rfl) dX6_removeLastFeast_8 (fun r_8 z_8 => ?_)
  have p_8 : r_8.toInt = (if 0 < (((A (21 + 2 * u)).toInt) - 1) then (((A (21 + 2 * u)).toInt) - 1) else 0) := by rw [z_8, (show (0 : Int32).toInt = 0 from rfl), p_7]
  refine sp_feastCount (v := r_8) X w hu dX6_removeLastFeast_11 (fun H locs w => ?_)
  exact q_vret (post := fun n1 σ1 => n1 = n ∧ ∃ A1 P1, σ1 = cS t b σ0 A1 B P1 ∧ ((∃ v : Int32, A1 = va_up A (21 + 2 * u) v ∧ v.toInt = (if 0 < (A (21 + 2 * u)).toInt - 1 then (A (21 + 2 * u)).toInt - 1 else 0)) ∧ P1 = P)) X w dX6_removeLastFeast_14 ⟨rfl, _, _, rfl, by exact ⟨⟨_, rfl, p_8⟩, rfl⟩⟩
