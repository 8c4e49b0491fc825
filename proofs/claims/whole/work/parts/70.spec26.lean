/-! THE CLASS's states: eight of them, at places sp 0 to sp 7: the state, the saved one, the six of the history -/
def sp (s : Nat) : Nat := if s < 2 then 7 + 3 * s else 9 + 3 * s
theorem s_8 {s : Nat} (h : s < 8) : s = 0 ∨ s = 1 ∨ s = 2 ∨ s = 3 ∨ s = 4 ∨ s = 5 ∨ s = 6 ∨ s = 7 := by omega
theorem sp_lt {s : Nat} (h : s < 8) : sp s + 2 < 33 := by unfold sp; split <;> omega
theorem sp_inj {s s' : Nat} (hh : sp s = sp s') : s = s' := by
  unfold sp at hh
  split at hh <;> split at hh <;> omega
abbrev stF (b : Nat) (A : Nat → Int32) (s : Nat) : List Value := [.ref (b + (sp s + 1)), .ref (b + (sp s + 2)), .int (A (20 + 2 * s)), .int (A (21 + 2 * s))]
section
variable {t : Nat → ClassId} {b : Nat} {σ0 : qM} {A : Nat → Int32} {B : Nat → Nat → Int32} {P : Nat → Nat → Option Nat} {u : Nat}
theorem cS_st (h : u < 8) : cS t b σ0 A B P (sp u) = some (.inr (10, stF b A u)) := by
  rcases s_8 h with rfl | rfl | rfl | rfl | rfl | rfl | rfl | rfl <;> rfl
theorem cS_sc (h : u < 8) : cS t b σ0 A B P (sp u + 1) = some (.inl (t 4, 6, .inr (.inr (.inr (.inr (fun j => (P (1 + 2 * u) j).map (b + ·))))))) := by
  rcases s_8 h with rfl | rfl | rfl | rfl | rfl | rfl | rfl | rfl <;> rfl
theorem cS_sf (h : u < 8) : cS t b σ0 A B P (sp u + 2) = some (.inl (t 5, 8, .inr (.inr (.inr (.inr (fun j => (P (2 + 2 * u) j).map (b + ·))))))) := by
  rcases s_8 h with rfl | rfl | rfl | rfl | rfl | rfl | rfl | rfl <;> rfl
theorem cS_hi : cS t b σ0 A B P 14 = some (.inl (t 6, 6, .inr (.inr (.inr (.inr (fun j => (P 0 j).map (b + ·))))))) := rfl
theorem cS_stu (h : u < 8) {v : Int32} : va_up (cS t b σ0 A B P) (sp u) (some (.inr (10, (stF b A u).set 2 (.int v)))) = cS t b σ0 (va_up A (20 + 2 * u) v) B P := by
  rcases s_8 h with rfl | rfl | rfl | rfl | rfl | rfl | rfl | rfl <;> exact (ovl_set (Nat.le_of_ble_eq_true rfl)).trans rfl
theorem cS_sfu (h : u < 8) {v : Int32} : va_up (cS t b σ0 A B P) (sp u) (some (.inr (10, (stF b A u).set 3 (.int v)))) = cS t b σ0 (va_up A (21 + 2 * u) v) B P := by
  rcases s_8 h with rfl | rfl | rfl | rfl | rfl | rfl | rfl | rfl <;> exact (ovl_set (Nat.le_of_ble_eq_true rfl)).trans rfl
theorem cS_scr (h : u < 8) {f : Nat → Option Nat} : va_up (cS t b σ0 A B P) (sp u + 1) (some (.inl (t 4, 6, .inr (.inr (.inr (.inr (fun j => (f j).map (b + ·)))))))) = cS t b σ0 A B (va_up P (1 + 2 * u) f) := by
  rcases s_8 h with rfl | rfl | rfl | rfl | rfl | rfl | rfl | rfl <;> exact (ovl_set (Nat.le_of_ble_eq_true rfl)).trans rfl
theorem cS_sfr (h : u < 8) {f : Nat → Option Nat} : va_up (cS t b σ0 A B P) (sp u + 2) (some (.inl (t 5, 8, .inr (.inr (.inr (.inr (fun j => (f j).map (b + ·)))))))) = cS t b σ0 A B (va_up P (2 + 2 * u) f) := by
  rcases s_8 h with rfl | rfl | rfl | rfl | rfl | rfl | rfl | rfl <;> exact (ovl_set (Nat.le_of_ble_eq_true rfl)).trans rfl
theorem cS_hir {f : Nat → Option Nat} : va_up (cS t b σ0 A B P) 14 (some (.inl (t 6, 6, .inr (.inr (.inr (.inr (fun j => (f j).map (b + ·)))))))) = cS t b σ0 A B (va_up P 0 f) := (ovl_set (Nat.le_of_ble_eq_true rfl)).trans rfl
end
section ST
variable {p : Program} {l : Launch} {e : Env} {R : Room} {s : State} {m : MethodId} {args : Array Value} {below : List Frame} {meth : Method} {c : Code} {H : Heap} {locs : List Loc} {cells slots : Nat} {Q : State → Prop}
variable {cc : ByteArray} {mL : Nat} {r : Option FieldType} {D : va_G} {t : Nat → ClassId} {b n : Nat} {σ0 : qM} {A : Nat → Int32} {B : Nat → Nat → Int32} {P : Nat → Nat → Option Nat} {pc : Nat} {ls : Array Slot} {rest : List Value} {u : Nat}
theorem sg_calendars (X : qX p s args m meth c RX6 cc mL r D t b) (w : qW D b n (cS t b σ0 A B P) s H locs) (h : u < 8) (hdg : decode cc pc = .ok (.getfield 11, 3)) (kk : W p l e R s m args below meth c H locs cells slots Q (F0 m (pc + 3) ls (.ref (b + (sp u + 1)) :: rest))) : W p l e R s m args below meth c H locs cells slots Q (F0 m pc ls (.ref (b + sp u) :: rest)) := q_get X w inX6 rfl 0 (by decide) fl_X6_11 (k := sp u) (cS_st h) rfl hdg kk
theorem sg_feasts (X : qX p s args m meth c RX6 cc mL r D t b) (w : qW D b n (cS t b σ0 A B P) s H locs) (h : u < 8) (hdg : decode cc pc = .ok (.getfield 19, 3)) (kk : W p l e R s m args below meth c H locs cells slots Q (F0 m (pc + 3) ls (.ref (b + (sp u + 2)) :: rest))) : W p l e R s m args below meth c H locs cells slots Q (F0 m pc ls (.ref (b + sp u) :: rest)) := q_get X w inX6 rfl 1 (by decide) fl_X6_19 (k := sp u) (cS_st h) rfl hdg kk
theorem sg_calendarCount (X : qX p s args m meth c RX6 cc mL r D t b) (w : qW D b n (cS t b σ0 A B P) s H locs) (h : u < 8) (hdg : decode cc pc = .ok (.getfield 23, 3)) (kk : W p l e R s m args below meth c H locs cells slots Q (F0 m (pc + 3) ls (.int (A (20 + 2 * u)) :: rest))) : W p l e R s m args below meth c H locs cells slots Q (F0 m pc ls (.ref (b + sp u) :: rest)) := q_get X w inX6 rfl 2 (by decide) fl_X6_23 (k := sp u) (cS_st h) rfl hdg kk
theorem sg_feastCount (X : qX p s args m meth c RX6 cc mL r D t b) (w : qW D b n (cS t b σ0 A B P) s H locs) (h : u < 8) (hdg : decode cc pc = .ok (.getfield 27, 3)) (kk : W p l e R s m args below meth c H locs cells slots Q (F0 m (pc + 3) ls (.int (A (21 + 2 * u)) :: rest))) : W p l e R s m args below meth c H locs cells slots Q (F0 m pc ls (.ref (b + sp u) :: rest)) := q_get X w inX6 rfl 3 (by decide) fl_X6_27 (k := sp u) (cS_st h) rfl hdg kk
theorem sp_calendarCount {v : Int32} (X : qX p s args m meth c RX6 cc mL r D t b) (w : qW D b n (cS t b σ0 A B P) s H locs) (h : u < 8) (hdg : decode cc pc = .ok (.putfield 23, 3)) (kk : ∀ (H1 : Heap) (locs1 : List Loc), qW D b n (cS t b σ0 (va_up A (20 + 2 * u) v) B P) s H1 locs1 → W p l e R s m args below meth c H1 locs1 cells slots Q (F0 m (pc + 3) ls (rest))) : W p l e R s m args below meth c H locs cells slots Q (F0 m pc ls (.int v :: .ref (b + sp u) :: rest)) := q_put X w inX6 tyX6 tyX6_ok nmX6 rfl 2 (by decide) fl_X6_23 rfl (k := sp u) (cS_st h) rfl rfl (Nat.le_of_ble_eq_true rfl) hdg (fun H1 l1 w1 => kk H1 l1 (by rw [cS_stu h] at w1; exact w1))
theorem sp_feastCount {v : Int32} (X : qX p s args m meth c RX6 cc mL r D t b) (w : qW D b n (cS t b σ0 A B P) s H locs) (h : u < 8) (hdg : decode cc pc = .ok (.putfield 27, 3)) (kk : ∀ (H1 : Heap) (locs1 : List Loc), qW D b n (cS t b σ0 (va_up A (21 + 2 * u) v) B P) s H1 locs1 → W p l e R s m args below meth c H1 locs1 cells slots Q (F0 m (pc + 3) ls (rest))) : W p l e R s m args below meth c H locs cells slots Q (F0 m pc ls (.int v :: .ref (b + sp u) :: rest)) := q_put X w inX6 tyX6 tyX6_ok nmX6 rfl 3 (by decide) fl_X6_27 rfl (k := sp u) (cS_st h) rfl rfl (Nat.le_of_ble_eq_true rfl) hdg (fun H1 l1 w1 => kk H1 l1 (by rw [cS_sfu h] at w1; exact w1))
theorem sn_cal {own : String} (X : qX p s args m meth c own cc mL r D t b) (w : qW D b n (cS t b σ0 A B P) s H locs) (h : u < 8) (hdg : decode cc pc = .ok (.arraylength, 1)) (kk : W p l e R s m args below meth c H locs cells slots Q (F0 m (pc + 1) ls (.int 6 :: rest))) : W p l e R s m args below meth c H locs cells slots Q (F0 m pc ls (.ref (b + (sp u + 1)) :: rest)) := by
  refine q_alen X w 4 rfl (k := (sp u + 1)) (cS_sc h) hdg ?_
  exact q_topE (y := 6) rfl kk
theorem sl_cal {own : String} (X : qX p s args m meth c own cc mL r D t b) (w : qW D b n (cS t b σ0 A B P) s H locs) (h : u < 8) {i : Int32} {ix : Int} (hi : i.toInt = ix) (hb : 0 ≤ ix ∧ ix < 6) (hdg : decode cc pc = .ok (.aaload, 1)) (kk : W p l e R s m args below meth c H locs cells slots Q (F0 m (pc + 1) ls (rfp b (P (1 + 2 * u) ix.toNat) :: rest))) : W p l e R s m args below meth c H locs cells slots Q (F0 m pc ls (.int i :: .ref (b + (sp u + 1)) :: rest)) := by
  refine q_aald X w 4 rfl (k := (sp u + 1)) (cS_sc h) (g_in hi hb) hdg ?_
  rw [g_tn hi]
  exact kk
theorem ss_cal {own : String} (X : qX p s args m meth c own cc mL r D t b) (w : qW D b n (cS t b σ0 A B P) s H locs) (h : u < 8) {i : Int32} {ix : Int} (hi : i.toInt = ix) (hb : 0 ≤ ix ∧ ix < 6) {o : Option Nat} (ho : ∀ q, o = some q → ∃ fs, cS t b σ0 A B P q = some (.inr (4, fs))) (hdg : decode cc pc = .ok (.aastore, 1)) (kk : ∀ (H1 : Heap) (locs1 : List Loc), qW D b n (cS t b σ0 A B (va_up P (1 + 2 * u) (va_up (P (1 + 2 * u)) ix.toNat o))) s H1 locs1 → W p l e R s m args below meth c H1 locs1 cells slots Q (F0 m (pc + 1) ls (rest))) : W p l e R s m args below meth c H locs cells slots Q (F0 m pc ls (rfp b o :: .int i :: .ref (b + (sp u + 1)) :: rest)) := by
  cases o with
  | none =>
    refine q_aastN X w 4 rfl (k := (sp u + 1)) (cS_sc h) (g_in hi hb) hdg (fun H1 l1 w1 => kk H1 l1 ?_)
    rw [g_tn hi, cS_scr h] at w1
    exact w1
  | some q =>
    obtain ⟨fs, hq⟩ := ho q rfl
    refine q_aast X w 4 rfl (k := (sp u + 1)) (cS_sc h) (g_in hi hb) hq rfl hdg (fun H1 l1 w1 => kk H1 l1 ?_)
    rw [g_tn hi, cS_scr h] at w1
    exact w1
theorem sn_fea {own : String} (X : qX p s args m meth c own cc mL r D t b) (w : qW D b n (cS t b σ0 A B P) s H locs) (h : u < 8) (hdg : decode cc pc = .ok (.arraylength, 1)) (kk : W p l e R s m args below meth c H locs cells slots Q (F0 m (pc + 1) ls (.int 8 :: rest))) : W p l e R s m args below meth c H locs cells slots Q (F0 m pc ls (.ref (b + (sp u + 2)) :: rest)) := by
  refine q_alen X w 5 rfl (k := (sp u + 2)) (cS_sf h) hdg ?_
  exact q_topE (y := 8) rfl kk
theorem sl_fea {own : String} (X : qX p s args m meth c own cc mL r D t b) (w : qW D b n (cS t b σ0 A B P) s H locs) (h : u < 8) {i : Int32} {ix : Int} (hi : i.toInt = ix) (hb : 0 ≤ ix ∧ ix < 8) (hdg : decode cc pc = .ok (.aaload, 1)) (kk : W p l e R s m args below meth c H locs cells slots Q (F0 m (pc + 1) ls (rfp b (P (2 + 2 * u) ix.toNat) :: rest))) : W p l e R s m args below meth c H locs cells slots Q (F0 m pc ls (.int i :: .ref (b + (sp u + 2)) :: rest)) := by
  refine q_aald X w 5 rfl (k := (sp u + 2)) (cS_sf h) (g_in hi hb) hdg ?_
  rw [g_tn hi]
  exact kk
theorem ss_fea {own : String} (X : qX p s args m meth c own cc mL r D t b) (w : qW D b n (cS t b σ0 A B P) s H locs) (h : u < 8) {i : Int32} {ix : Int} (hi : i.toInt = ix) (hb : 0 ≤ ix ∧ ix < 8) {o : Option Nat} (ho : ∀ q, o = some q → ∃ fs, cS t b σ0 A B P q = some (.inr (5, fs))) (hdg : decode cc pc = .ok (.aastore, 1)) (kk : ∀ (H1 : Heap) (locs1 : List Loc), qW D b n (cS t b σ0 A B (va_up P (2 + 2 * u) (va_up (P (2 + 2 * u)) ix.toNat o))) s H1 locs1 → W p l e R s m args below meth c H1 locs1 cells slots Q (F0 m (pc + 1) ls (rest))) : W p l e R s m args below meth c H locs cells slots Q (F0 m pc ls (rfp b o :: .int i :: .ref (b + (sp u + 2)) :: rest)) := by
  cases o with
  | none =>
    refine q_aastN X w 5 rfl (k := (sp u + 2)) (cS_sf h) (g_in hi hb) hdg (fun H1 l1 w1 => kk H1 l1 ?_)
    rw [g_tn hi, cS_sfr h] at w1
    exact w1
  | some q =>
    obtain ⟨fs, hq⟩ := ho q rfl
    refine q_aast X w 5 rfl (k := (sp u + 2)) (cS_sf h) (g_in hi hb) hq rfl hdg (fun H1 l1 w1 => kk H1 l1 ?_)
    rw [g_tn hi, cS_sfr h] at w1
    exact w1
theorem sn_his {own : String} (X : qX p s args m meth c own cc mL r D t b) (w : qW D b n (cS t b σ0 A B P) s H locs) (hdg : decode cc pc = .ok (.arraylength, 1)) (kk : W p l e R s m args below meth c H locs cells slots Q (F0 m (pc + 1) ls (.int 6 :: rest))) : W p l e R s m args below meth c H locs cells slots Q (F0 m pc ls (.ref (b + 14) :: rest)) := by
  refine q_alen X w 6 rfl (k := 14) (cS_hi) hdg ?_
  exact q_topE (y := 6) rfl kk
theorem sl_his {own : String} (X : qX p s args m meth c own cc mL r D t b) (w : qW D b n (cS t b σ0 A B P) s H locs) {i : Int32} {ix : Int} (hi : i.toInt = ix) (hb : 0 ≤ ix ∧ ix < 6) (hdg : decode cc pc = .ok (.aaload, 1)) (kk : W p l e R s m args below meth c H locs cells slots Q (F0 m (pc + 1) ls (rfp b (P 0 ix.toNat) :: rest))) : W p l e R s m args below meth c H locs cells slots Q (F0 m pc ls (.int i :: .ref (b + 14) :: rest)) := by
  refine q_aald X w 6 rfl (k := 14) (cS_hi) (g_in hi hb) hdg ?_
  rw [g_tn hi]
  exact kk
theorem ss_his {own : String} (X : qX p s args m meth c own cc mL r D t b) (w : qW D b n (cS t b σ0 A B P) s H locs) {i : Int32} {ix : Int} (hi : i.toInt = ix) (hb : 0 ≤ ix ∧ ix < 6) {o : Option Nat} (ho : ∀ q, o = some q → ∃ fs, cS t b σ0 A B P q = some (.inr (10, fs))) (hdg : decode cc pc = .ok (.aastore, 1)) (kk : ∀ (H1 : Heap) (locs1 : List Loc), qW D b n (cS t b σ0 A B (va_up P 0 (va_up (P 0) ix.toNat o))) s H1 locs1 → W p l e R s m args below meth c H1 locs1 cells slots Q (F0 m (pc + 1) ls (rest))) : W p l e R s m args below meth c H locs cells slots Q (F0 m pc ls (rfp b o :: .int i :: .ref (b + 14) :: rest)) := by
  cases o with
  | none =>
    refine q_aastN X w 6 rfl (k := 14) (cS_hi) (g_in hi hb) hdg (fun H1 l1 w1 => kk H1 l1 ?_)
    rw [g_tn hi, cS_hir] at w1
    exact w1
  | some q =>
    obtain ⟨fs, hq⟩ := ho q rfl
    refine q_aast X w 6 rfl (k := 14) (cS_hi) (g_in hi hb) hq rfl hdg (fun H1 l1 w1 => kk H1 l1 ?_)
    rw [g_tn hi, cS_hir] at w1
    exact w1
end ST
/-- a state whose entries below its counts are calendars and feasts -/
def okSt (σ0 : qM) (A : Nat → Int32) (P : Nat → Nat → Option Nat) (u : Nat) : Prop := (0 ≤ (A (20 + 2 * u)).toInt ∧ (A (20 + 2 * u)).toInt ≤ 6) ∧ (0 ≤ (A (21 + 2 * u)).toInt ∧ (A (21 + 2 * u)).toInt ≤ 8) ∧ (∀ j : Nat, (j : Int) < (A (20 + 2 * u)).toInt → ∃ q fs, P (1 + 2 * u) j = some q ∧ 41 < q ∧ σ0 q = some (.inr (4, fs))) ∧ (∀ j : Nat, (j : Int) < (A (21 + 2 * u)).toInt → ∃ q fs, P (2 + 2 * u) j = some q ∧ 41 < q ∧ σ0 q = some (.inr (5, fs)))
/-- one state is a copy of another -/
def cpSt (A : Nat → Int32) (P : Nat → Nat → Option Nat) (u : Nat) (A1 : Nat → Int32) (P1 : Nat → Nat → Option Nat) (v : Nat) : Prop := A1 (20 + 2 * v) = A (20 + 2 * u) ∧ A1 (21 + 2 * v) = A (21 + 2 * u) ∧ (∀ j : Nat, (j : Int) < (A (20 + 2 * u)).toInt → P1 (1 + 2 * v) j = P (1 + 2 * u) j) ∧ (∀ j : Nat, (j : Int) < (A (21 + 2 * u)).toInt → P1 (2 + 2 * v) j = P (2 + 2 * u) j)
/-- nothing but one state has changed -/
def keSt (A : Nat → Int32) (P : Nat → Nat → Option Nat) (v : Nat) (A1 : Nat → Int32) (P1 : Nat → Nat → Option Nat) : Prop := (∀ k, k ≠ 20 + 2 * v → k ≠ 21 + 2 * v → A1 k = A k) ∧ (∀ k, k ≠ 1 + 2 * v → k ≠ 2 + 2 * v → P1 k = P k)
/-- the history's row: a permutation of the six states -/
def hiP (pm : Nat → Nat) (P : Nat → Nat → Option Nat) : Prop := (∀ j, j < 6 → P 0 j = some (sp (pm j)) ∧ 2 ≤ pm j ∧ pm j < 8) ∧ ∀ i j, i < 6 → j < 6 → pm i = pm j → i = j
theorem okSt.cp {σ0 : qM} {A A1 : Nat → Int32} {P P1 : Nat → Nat → Option Nat} {u v : Nat} (h : okSt σ0 A P u) (k : cpSt A P u A1 P1 v) : okSt σ0 A1 P1 v := by
  obtain ⟨h1, h2, h3, h4⟩ := h
  obtain ⟨k1, k2, k3, k4⟩ := k
  refine ⟨by rw [k1]; exact h1, by rw [k2]; exact h2, fun j hj => ?_, fun j hj => ?_⟩
  · rw [k1] at hj
    rw [k3 j hj]
    exact h3 j hj
  · rw [k2] at hj
    rw [k4 j hj]
    exact h4 j hj
theorem cpSt.ke {A A1 : Nat → Int32} {P P1 : Nat → Nat → Option Nat} {u v : Nat} (h : keSt A P v A1 P1) (hne : u ≠ v) : cpSt A P u A1 P1 u :=
  ⟨h.1 _ (by omega) (by omega), h.1 _ (by omega) (by omega), fun j _ => by rw [h.2 _ (by omega) (by omega)], fun j _ => by rw [h.2 _ (by omega) (by omega)]⟩
theorem cpSt.rf {A : Nat → Int32} {P : Nat → Nat → Option Nat} {u : Nat} : cpSt A P u A P u := ⟨rfl, rfl, fun _ _ => rfl, fun _ _ => rfl⟩
theorem cpSt.tr {A A1 A2 : Nat → Int32} {P P1 P2 : Nat → Nat → Option Nat} {u v w : Nat} (h : cpSt A P u A1 P1 v) (k : cpSt A1 P1 v A2 P2 w) : cpSt A P u A2 P2 w := by
  obtain ⟨h1, h2, h3, h4⟩ := h
  obtain ⟨k1, k2, k3, k4⟩ := k
  exact ⟨k1.trans h1, k2.trans h2, fun j hj => (k3 j (by rw [h1]; exact hj)).trans (h3 j hj), fun j hj => (k4 j (by rw [h2]; exact hj)).trans (h4 j hj)⟩
