/-! THE LAW'S WORLD: what the class's cells and the reference's hold together -/
def o6 (t : Nat → ClassId) (f : Nat → Int64) : va_E := .inl (t 7, 1, .inr (.inl f))
def o7 (t : Nat → ClassId) (f : Nat → UInt64) : va_E := .inl (t 8, 1, .inr (.inr (.inr (.inl f))))
section RL
variable {t : Nat → ClassId} {b : Nat} {σ σ' φ φ1 : qM} {A A1 : Nat → Int32} {B B1 : Nat → Nat → Int32} {P P1 : Nat → Nat → Option Nat} {I I1 : Nat → Int32} {R R1 : Nat → Nat → Int32} {pm : Nat → Nat}
theorem cS_lo {k : Nat} (h : k ≤ 41) : cS t b σ A B P k = cS t b σ' A B P k := by
  unfold cS ovl
  have hk : k < (cL t b A B P).length := by show k < 42; omega
  rw [List.getElem?_eq_getElem hk]
theorem cS_self (h : ∀ k, k ≤ 41 → σ k = cS t b σ' A B P k) : σ = cS t b σ A B P := by
  funext k
  by_cases q : k ≤ 41
  · rw [h k q]
    exact cS_lo q
  · rw [cS_off (by omega)]
theorem mS_in {k : Nat} (h : 45 ≤ k ∧ k ≤ 59) : mS t b σ I R k = mS t b σ' I R k := by
  have h2 : k = 45 ∨ k = 46 ∨ k = 47 ∨ k = 48 ∨ k = 49 ∨ k = 50 ∨ k = 51 ∨ k = 52 ∨ k = 53 ∨ k = 54 ∨ k = 55 ∨ k = 56 ∨ k = 57 ∨ k = 58 ∨ k = 59 := by omega
  rcases h2 with rfl | rfl | rfl | rfl | rfl | rfl | rfl | rfl | rfl | rfl | rfl | rfl | rfl | rfl | rfl <;> rfl
theorem mS_self (h : ∀ k, 45 ≤ k → k ≤ 59 → σ k = mS t b σ' I R k) : σ = mS t b σ I R := by
  funext k
  by_cases q : 45 ≤ k ∧ k ≤ 59
  · rw [h k q.1 q.2]
    exact mS_in q
  · rw [mS_off (I2 := I) (R2 := R) (by omega)]
/-- the cells: the class's, the reference's, the law's two rows, and those that stay (φ: calendars and feasts) -/
def LW (t : Nat → ClassId) (b : Nat) (σ : qM) (A : Nat → Int32) (B : Nat → Nat → Int32) (P : Nat → Nat → Option Nat) (I : Nat → Int32) (R : Nat → Nat → Int32) (φ : qM) : Prop :=
  σ = cS t b σ A B P ∧ σ = mS t b σ I R ∧ (∃ f, σ 60 = some (o6 t f)) ∧ (∃ f, σ 61 = some (o7 t f)) ∧ ∀ k e, φ k = some e → ((41 < k ∧ k < 45) ∨ 61 < k) ∧ σ k = some e
theorem LW.mod (h : LW t b σ A B P I R φ) : LW t b (mS t b σ I1 R1) A B P I1 R1 φ := by
  obtain ⟨h1, h2, ⟨f6, h3⟩, ⟨f7, h4⟩, h5⟩ := h
  refine ⟨cS_self (σ' := σ) fun k hk => ?_, mS_self (σ' := σ) fun _ _ _ => rfl, ⟨f6, (mS_off (I2 := I) (R2 := R) (by omega)).trans h3⟩, ⟨f7, (mS_off (I2 := I) (R2 := R) (by omega)).trans h4⟩, fun k e he => ⟨(h5 k e he).1, ?_⟩⟩
  · rw [mS_off (I2 := I) (R2 := R) (by omega)]
    exact congrFun h1 k
  · have := (h5 k e he).1
    rw [mS_off (I2 := I) (R2 := R) (by omega)]
    exact (h5 k e he).2
theorem LW.new {n : Nat} {S : qM} (h : LW t b σ A B P I R φ) (hlt : ∀ k e, σ k = some e → k < n) (hS : ∀ k, k < n → S k = σ k) (hφ : ∀ k e, φ1 k = some e → φ k = some e ∨ (n ≤ k ∧ S k = some e)) : LW t b (cS t b S A1 B1 P1) A1 B1 P1 I R φ1 := by
  obtain ⟨h1, h2, ⟨f6, h3⟩, ⟨f7, h4⟩, h5⟩ := h
  have hn : 61 < n := hlt 61 _ h4
  refine ⟨cS_self (σ' := S) fun _ _ => rfl, mS_self (σ' := σ) fun k k1 k2 => ?_, ⟨f6, ?_⟩, ⟨f7, ?_⟩, fun k e he => ?_⟩
  · rw [cS_off (by omega), hS k (by omega)]
    exact congrFun h2 k
  · rw [cS_off (by omega), hS 60 (by omega)]
    exact h3
  · rw [cS_off (by omega), hS 61 (by omega)]
    exact h4
  · rcases hφ k e he with q | ⟨q1, q2⟩
    · have a := (h5 k e q).1
      have c := (h5 k e q).2
      exact ⟨a, by rw [cS_off (by omega), hS k (hlt k e c)]; exact c⟩
    · exact ⟨Or.inr (by omega), by rw [cS_off (by omega)]; exact q2⟩
theorem LW.cls (h : LW t b σ A B P I R φ) : LW t b (cS t b σ A1 B1 P1) A1 B1 P1 I R φ := by
  obtain ⟨h1, h2, ⟨f6, h3⟩, ⟨f7, h4⟩, h5⟩ := h
  refine ⟨cS_self (σ' := σ) fun _ _ => rfl, mS_self (σ' := σ) fun k k1 k2 => ?_, ⟨f6, (cS_off (by omega)).trans h3⟩, ⟨f7, (cS_off (by omega)).trans h4⟩, fun k e he => ⟨(h5 k e he).1, ?_⟩⟩
  · rw [cS_off (by omega)]
    exact congrFun h2 k
  · have := (h5 k e he).1
    rw [cS_off (by omega)]
    exact (h5 k e he).2
theorem LW.o60 {f : Nat → Int64} (h : LW t b σ A B P I R φ) : LW t b (va_up σ 60 (some (o6 t f))) A B P I R φ := by
  obtain ⟨h1, h2, ⟨f6, h3⟩, ⟨f7, h4⟩, h5⟩ := h
  refine ⟨cS_self (σ' := σ) fun k hk => ?_, mS_self (σ' := σ) fun k k1 k2 => ?_, ⟨f, va_up_self _ _ _⟩, ⟨f7, (va_up_ne _ _ (by omega)).trans h4⟩, fun k e he => ⟨(h5 k e he).1, ?_⟩⟩
  · rw [va_up_ne _ _ (by omega)]
    exact congrFun h1 k
  · rw [va_up_ne _ _ (by omega)]
    exact congrFun h2 k
  · have := (h5 k e he).1
    rw [va_up_ne _ _ (by omega)]
    exact (h5 k e he).2
theorem LW.o61 {f : Nat → UInt64} (h : LW t b σ A B P I R φ) : LW t b (va_up σ 61 (some (o7 t f))) A B P I R φ := by
  obtain ⟨h1, h2, ⟨f6, h3⟩, ⟨f7, h4⟩, h5⟩ := h
  refine ⟨cS_self (σ' := σ) fun k hk => ?_, mS_self (σ' := σ) fun k k1 k2 => ?_, ⟨f6, (va_up_ne _ _ (by omega)).trans h3⟩, ⟨f, va_up_self _ _ _⟩, fun k e he => ⟨(h5 k e he).1, ?_⟩⟩
  · rw [va_up_ne _ _ (by omega)]
    exact congrFun h1 k
  · rw [va_up_ne _ _ (by omega)]
    exact congrFun h2 k
  · have := (h5 k e he).1
    rw [va_up_ne _ _ (by omega)]
    exact (h5 k e he).2
theorem LW.fr (h : LW t b σ A B P I R φ) : ∀ k e, φ k = some e → σ k = some e := fun k e he => (h.2.2.2.2 k e he).2
/-! states: pictures that stay when cells come behind, are copied, or are told by other rows -/
theorem CalQ.ext {o : Option Nat} {ρ : Row} (h : CalQ t b φ o ρ) (hφ : ∀ k e, φ k = some e → φ1 k = some e) : CalQ t b φ1 o ρ := by
  obtain ⟨q, L, C, K, fl, fc, h1, h2, h3, h4, h5, h6⟩ := h
  exact ⟨q, L, C, K, fl, fc, h1, h2, hφ _ _ h3, hφ _ _ h4, hφ _ _ h5, h6⟩
theorem FeQ.ext {o : Option Nat} {f : Int → Int32} (h : FeQ φ o f) (hφ : ∀ k e, φ k = some e → φ1 k = some e) : FeQ φ1 o f := by
  obtain ⟨q, h1, h2, h3⟩ := h
  exact ⟨q, h1, h2, hφ _ _ h3⟩
theorem stQ.cp {u v : Nat} {rw_ : Int → Row} {fe : Int → Int → Int32} (h : stQ t b φ A P u rw_ fe) (hc : cpSt A P u A1 P1 v) (hφ : ∀ k e, φ k = some e → φ1 k = some e) : stQ t b φ1 A1 P1 v rw_ fe := by
  obtain ⟨h1, h2, h3, h4⟩ := h
  obtain ⟨c1, c2, c3, c4⟩ := hc
  refine ⟨by rw [c1, c2]; exact h1, fun j j0 j1 => ?_, fun f f0 f1 => ?_, fun f f0 f1 => ?_⟩
  · rw [c1] at j1
    rw [c3 j.toNat (by omega)]
    exact (h2 j j0 j1).ext hφ
  · rw [c2] at f1
    rw [c4 f.toNat (by omega)]
    exact (h3 f f0 f1).ext hφ
  · rw [c2] at f1
    rw [c1]
    exact h4 f f0 f1
theorem cpSt.ofe {u : Nat} (e1 : A1 (20 + 2 * u) = A (20 + 2 * u)) (e2 : A1 (21 + 2 * u) = A (21 + 2 * u)) (e3 : P1 (1 + 2 * u) = P (1 + 2 * u)) (e4 : P1 (2 + 2 * u) = P (2 + 2 * u)) : cpSt A P u A1 P1 u :=
  ⟨e1, e2, fun j _ => by rw [e3], fun j _ => by rw [e4]⟩
theorem stQ.rows {u : Nat} {rw_ rw' : Int → Row} {fe fe' : Int → Int → Int32} (h : stQ t b φ A P u rw_ fe) (h1 : ∀ j : Int, 0 ≤ j → j < (A (20 + 2 * u)).toInt → rw' j = rw_ j) (h2 : ∀ f : Int, 0 ≤ f → f < (A (21 + 2 * u)).toInt → fe' f = fe f) : stQ t b φ A P u rw' fe' := by
  obtain ⟨a, c, d, g⟩ := h
  refine ⟨a, fun j j0 j1 => ?_, fun f f0 f1 => ?_, fun f f0 f1 => ?_⟩
  · rw [h1 j j0 j1]
    exact c j j0 j1
  · rw [h2 f f0 f1]
    exact d f f0 f1
  · rw [h2 f f0 f1]
    exact g f f0 f1
theorem stQ.row {u : Nat} {rw_ : Int → Row} {fe : Int → Int → Int32} (h : stQ t b φ A P u rw_ fe) {c : Int} (c0 : 0 ≤ c) (c1 : c < (A (20 + 2 * u)).toInt) : okRow (rw_ c) ∧ reps (rw_ c) ≠ 0 := by
  obtain ⟨q, L, C, K, fl, fc, -, -, -, -, -, h6⟩ := h.2.1 c c0 c1
  exact ⟨h6.1, h6.2.1⟩
theorem okFe.mono {nc nc' f : Int} {q : Int → Int32} (h : okFe nc f q) (hn : nc ≤ nc') : okFe nc' f q := by
  obtain ⟨h1, h2⟩ := h
  refine ⟨h1, ?_⟩
  rcases h2 with h | h | h | h | h
  · exact Or.inl ⟨h.1, ⟨h.2.1.1, by omega⟩, h.2.2.1, h.2.2.2⟩
  · exact Or.inr (Or.inl ⟨h.1, ⟨h.2.1.1, by omega⟩, h.2.2.1, h.2.2.2.1, h.2.2.2.2⟩)
  · exact Or.inr (Or.inr (Or.inl h))
  · exact Or.inr (Or.inr (Or.inr (Or.inl ⟨h.1, h.2.1, ⟨h.2.2.1.1, by omega⟩, h.2.2.2⟩)))
  · exact Or.inr (Or.inr (Or.inr (Or.inr ⟨h.1, h.2.1, ⟨h.2.2.1.1, by omega⟩, h.2.2.2⟩)))
/-! what the two hold together -/
def CIt (A : Nat → Int32) (B : Nat → Nat → Int32) (I : Nat → Int32) (R : Nat → Nat → Int32) : Prop := A 2 = I 10 ∧ (0 ≤ (I 10).toInt ∧ (I 10).toInt ≤ 100) ∧ ∀ j : Nat, (j : Int) < (I 10).toInt → B 0 j = R 9 j ∧ 33 ≤ (R 9 j).toInt ∧ (R 9 j).toInt ≤ 126
def CIs (t : Nat → ClassId) (b : Nat) (φ : qM) (A : Nat → Int32) (P : Nat → Nat → Option Nat) (I : Nat → Int32) (R : Nat → Nat → Int32) : Prop := A 20 = I 5 ∧ A 21 = I 19 ∧ 1 ≤ (I 5).toInt ∧ stQ t b φ A P 0 (rowM R) (feM R) ∧ ∀ c : Int, 0 ≤ c → c < (I 5).toInt → okF R c
/-- the state u is what a row has kept from a place on -/
def bkS (t : Nat → ClassId) (b : Nat) (φ : qM) (A : Nat → Int32) (P : Nat → Nat → Option Nat) (u : Nat) (F : Nat → Int32) (w : Nat) : Prop := A (20 + 2 * u) = F (w + 246) ∧ A (21 + 2 * u) = F (w + 247) ∧ 1 ≤ (F (w + 246)).toInt ∧ stQ t b φ A P u (bkRow F w) (bkFe F w)
def CIv (t : Nat → ClassId) (b : Nat) (φ : qM) (A : Nat → Int32) (P : Nat → Nat → Option Nat) (I : Nat → Int32) (R : Nat → Nat → Int32) : Prop := A 0 = I 30 ∧ (I 30 ≠ 0 → bkS t b φ A P 1 (R 27) 0) ∧ (I 30 = 0 → A 22 = 0 ∧ A 23 = 0)
def CIh (t : Nat → ClassId) (b : Nat) (φ : qM) (A : Nat → Int32) (P : Nat → Nat → Option Nat) (I : Nat → Int32) (R : Nat → Nat → Int32) (pm : Nat → Nat) : Prop := hiP pm P ∧ A 19 = I 28 ∧ (0 ≤ (I 28).toInt ∧ (I 28).toInt ≤ 6) ∧ ∀ i : Nat, (i : Int) < (I 28).toInt → bkS t b φ A P (pm i) (R 26) (262 * i)
def CIr (A : Nat → Int32) (B : Nat → Nat → Int32) (I : Nat → Int32) (R : Nat → Nat → Int32) : Prop := A 36 = I 23 ∧ (0 ≤ (I 23).toInt ∧ (I 23).toInt ≤ 18) ∧ ∀ j : Nat, (j : Int) < (I 23).toInt → B 6 j = R 20 j ∧ B 7 j = R 21 j ∧ B 8 j = R 22 j
def CIw (A : Nat → Int32) (B : Nat → Nat → Int32) (I : Nat → Int32) (R : Nat → Nat → Int32) : Prop := A 37 = I 25 ∧ (0 ≤ (I 25).toInt ∧ (I 25).toInt ≤ 16) ∧ ∀ j : Nat, (j : Int) < (I 25).toInt → B 9 j = R 24 j ∧ 0 ≤ (R 24 j).toInt ∧ (R 24 j).toInt < 128
def CI (t : Nat → ClassId) (b : Nat) (φ : qM) (A : Nat → Int32) (B : Nat → Nat → Int32) (P : Nat → Nat → Option Nat) (I : Nat → Int32) (R : Nat → Nat → Int32) (pm : Nat → Nat) : Prop :=
  CIt A B I R ∧ A 1 = I 12 ∧ CIs t b φ A P I R ∧ CIv t b φ A P I R ∧ CIh t b φ A P I R pm ∧ CIr A B I R ∧ CIw A B I R
def LI (t : Nat → ClassId) (b : Nat) (σ : qM) : Prop := ∃ A B P I R pm φ, LW t b σ A B P I R φ ∧ CI t b φ A B P I R pm
theorem rowM_cg2 (h : R1 2 = R 2) : rowM R1 = rowM R := by funext c k; unfold rowM; rw [h]
theorem feM_cg2 (h : R1 16 = R 16) : feM R1 = feM R := by funext c k; unfold feM; rw [h]
theorem okF_cg2 (h : R1 2 = R 2) (h4 : R1 4 = R 4) {c : Int} (x : okF R c) : okF R1 c := by
  unfold okF at x ⊢
  rw [h4, rowM_cg2 h]
  exact x
theorem CIt.cg (h : CIt A B I R) (e1 : A1 2 = A 2) (e2 : B1 0 = B 0) (e3 : I1 10 = I 10) (e4 : R1 9 = R 9) : CIt A1 B1 I1 R1 := by
  unfold CIt at h ⊢
  rw [e1, e2, e3, e4]
  exact h
theorem CIr.cg (h : CIr A B I R) (e1 : A1 36 = A 36) (e2 : B1 6 = B 6) (e3 : B1 7 = B 7) (e4 : B1 8 = B 8) (e5 : I1 23 = I 23) (e6 : R1 20 = R 20) (e7 : R1 21 = R 21) (e8 : R1 22 = R 22) : CIr A1 B1 I1 R1 := by
  unfold CIr at h ⊢
  rw [e1, e2, e3, e4, e5, e6, e7, e8]
  exact h
theorem CIw.cg (h : CIw A B I R) (e1 : A1 37 = A 37) (e2 : B1 9 = B 9) (e5 : I1 25 = I 25) (e6 : R1 24 = R 24) : CIw A1 B1 I1 R1 := by
  unfold CIw at h ⊢
  rw [e1, e2, e5, e6]
  exact h
theorem CIs.cg (h : CIs t b φ A P I R) (hφ : ∀ k e, φ k = some e → φ1 k = some e) (a1 : A1 20 = A 20) (a2 : A1 21 = A 21) (p1 : P1 1 = P 1) (p2 : P1 2 = P 2) (e5 : I1 5 = I 5) (e19 : I1 19 = I 19) (r2 : R1 2 = R 2) (r4 : R1 4 = R 4) (r16 : R1 16 = R 16) : CIs t b φ1 A1 P1 I1 R1 := by
  obtain ⟨h1, h2, h3, h4, h5⟩ := h
  refine ⟨by rw [a1, e5]; exact h1, by rw [a2, e19]; exact h2, by rw [e5]; exact h3, ?_, fun c c0 c1 => okF_cg2 r2 r4 (h5 c c0 (by rw [e5] at c1; exact c1))⟩
  rw [rowM_cg2 r2, feM_cg2 r16]
  exact h4.cp (cpSt.ofe (u := 0) a1 a2 p1 p2) hφ
theorem bkS.cp {u v w w1 : Nat} {F F1 : Nat → Int32} (h : bkS t b φ A P u F w) (hc : cpSt A P u A1 P1 v) (hφ : ∀ k e, φ k = some e → φ1 k = some e) (hF : ∀ j, j < 248 → F1 (w1 + j) = F (w + j)) : bkS t b φ1 A1 P1 v F1 w1 := by
  obtain ⟨h1, h2, h3, h4⟩ := h
  have q1 : A1 (20 + 2 * v) = F1 (w1 + 246) := by rw [hc.1, hF 246 (by omega)]; exact h1
  have q2 : A1 (21 + 2 * v) = F1 (w1 + 247) := by rw [hc.2.1, hF 247 (by omega)]; exact h2
  refine ⟨q1, q2, by rw [hF 246 (by omega)]; exact h3, ?_⟩
  have h5 := h4.cp hc hφ
  have b1 := h5.1
  refine h5.rows (fun j j0 j1 => ?_) (fun f f0 f1 => ?_)
  · funext k
    unfold bkRow
    by_cases q : 0 ≤ k ∧ k < 33
    · rw [if_pos q, if_pos q, hF _ (by omega)]
    · rw [if_neg q, if_neg q]
  · funext k
    unfold bkFe
    by_cases q : 0 ≤ k ∧ k < 6
    · rw [if_pos q, if_pos q, show w1 + 198 + (6 * f + k).toNat = w1 + (198 + (6 * f + k).toNat) by omega, show w + 198 + (6 * f + k).toNat = w + (198 + (6 * f + k).toNat) by omega, hF _ (by omega)]
    · rw [if_neg q, if_neg q]
theorem CIv.cg (h : CIv t b φ A P I R) (hφ : ∀ k e, φ k = some e → φ1 k = some e) (a0 : A1 0 = A 0) (a1 : A1 22 = A 22) (a2 : A1 23 = A 23) (p1 : P1 3 = P 3) (p2 : P1 4 = P 4) (e30 : I1 30 = I 30) (r27 : R1 27 = R 27) : CIv t b φ1 A1 P1 I1 R1 := by
  obtain ⟨h1, h2, h3⟩ := h
  refine ⟨by rw [a0, e30]; exact h1, fun z => ?_, fun z => by rw [a1, a2]; exact h3 (by rw [← e30]; exact z)⟩
  rw [e30] at z
  rw [r27]
  exact (h2 z).cp (cpSt.ofe (u := 1) a1 a2 p1 p2) hφ (fun _ _ => rfl)
theorem CIh.cg (h : CIh t b φ A P I R pm) (hφ : ∀ k e, φ k = some e → φ1 k = some e) (a0 : A1 19 = A 19) (a1 : ∀ k, 24 ≤ k → k < 36 → A1 k = A k) (p0 : P1 0 = P 0) (p1 : ∀ k, 5 ≤ k → P1 k = P k) (e28 : I1 28 = I 28) (r26 : R1 26 = R 26) : CIh t b φ1 A1 P1 I1 R1 pm := by
  obtain ⟨h1, h2, h3, h4⟩ := h
  refine ⟨⟨fun j hj => by rw [p0]; exact h1.1 j hj, h1.2⟩, by rw [a0, e28]; exact h2, by rw [e28]; exact h3, fun i hi => ?_⟩
  rw [e28] at hi
  rw [r26]
  have hp := (h1.1 i (by omega)).2
  exact (h4 i hi).cp (cpSt.ofe (a1 _ (by omega) (by omega)) (a1 _ (by omega) (by omega)) (p1 _ (by omega)) (p1 _ (by omega))) hφ (fun _ _ => rfl)
/-- the reference's own searches leave all that is told -/
theorem CI.mod (h : CI t b φ A B P I R pm) (hI : kpI [0, 6, 7, 8, 11, 13, 14, 15, 29, 31] I I1) (hR : kpR [3, 17, 18] R R1) : CI t b φ A B P I1 R1 pm := by
  obtain ⟨h1, h2, h3, h4, h5, h6, h7⟩ := h
  have rf : ∀ k e, φ k = some e → φ k = some e := fun _ _ h => h
  exact ⟨h1.cg rfl rfl (hI 10 (by decide)) (hR 9 (by decide)), h2.trans (hI 12 (by decide)).symm, h3.cg rf rfl rfl rfl rfl (hI 5 (by decide)) (hI 19 (by decide)) (hR 2 (by decide)) (hR 4 (by decide)) (hR 16 (by decide)),
    h4.cg rf rfl rfl rfl rfl rfl (hI 30 (by decide)) (hR 27 (by decide)), h5.cg rf rfl (fun _ _ _ => rfl) rfl (fun _ _ => rfl) (hI 28 (by decide)) (hR 26 (by decide)),
    h6.cg rfl rfl rfl rfl (hI 23 (by decide)) (hR 20 (by decide)) (hR 21 (by decide)) (hR 22 (by decide)), h7.cg rfl rfl (hI 25 (by decide)) (hR 24 (by decide))⟩
theorem CI.clsB (h : CI t b φ A B P I R pm) (hB : kpR [1, 2, 3, 4, 5] B B1) : CI t b φ A B1 P I R pm := by
  obtain ⟨h1, h2, h3, h4, h5, h6, h7⟩ := h
  exact ⟨h1.cg rfl (hB 0 (by decide)) rfl rfl, h2, h3, h4, h5, h6.cg rfl (hB 6 (by decide)) (hB 7 (by decide)) (hB 8 (by decide)) rfl rfl rfl rfl, h7.cg rfl (hB 9 (by decide)) rfl rfl⟩
/-! what the contracts ask -/
theorem CI.h5 (h : CI t b φ A B P I R pm) : (I 5).toInt ≤ 6 := by
  have h1 := h.2.2.1.2.2.2.1.1.1.2
  have e := h.2.2.1.1
  have h1 : (A 20).toInt ≤ 6 := h1
  rw [e] at h1
  exact h1
theorem CI.h50 (h : CI t b φ A B P I R pm) : 1 ≤ (I 5).toInt := h.2.2.1.2.2.1
theorem CI.h19 (h : CI t b φ A B P I R pm) : 0 ≤ (I 19).toInt ∧ (I 19).toInt ≤ 8 := by
  have h1 : 0 ≤ (A 21).toInt ∧ (A 21).toInt ≤ 8 := h.2.2.1.2.2.2.1.1.2
  rw [h.2.2.1.2.1] at h1
  exact h1
theorem CI.hrow (h : CI t b φ A B P I R pm) : ∀ c : Int, 0 ≤ c → c < (I 5).toInt → okRow (rowM R c) := fun c c0 c1 =>
  (h.2.2.1.2.2.2.1.row (u := 0) c0 (by rw [show A (20 + 2 * 0) = I 5 from h.2.2.1.1]; exact c1)).1
theorem CI.hrep (h : CI t b φ A B P I R pm) : ∀ c : Int, 0 ≤ c → c < (I 5).toInt → reps (rowM R c) ≠ 0 := fun c c0 c1 =>
  (h.2.2.1.2.2.2.1.row (u := 0) c0 (by rw [show A (20 + 2 * 0) = I 5 from h.2.2.1.1]; exact c1)).2
theorem CI.hokF (h : CI t b φ A B P I R pm) : ∀ c : Int, 0 ≤ c → c < (I 5).toInt → okF R c := h.2.2.1.2.2.2.2
theorem CI.hfe (h : CI t b φ A B P I R pm) : ∀ f : Int, 0 ≤ f → f < (I 19).toInt → okFe (I 5).toInt f (feM R f) := fun f f0 f1 => by
  have h1 := h.2.2.1.2.2.2.1.2.2.2 f f0 (by rw [show A (21 + 2 * 0) = I 19 from h.2.2.1.2.1]; exact f1)
  rw [show A (20 + 2 * 0) = I 5 from h.2.2.1.1] at h1
  exact h1
theorem CI.stq (h : CI t b φ A B P I R pm) (hφ : ∀ k e, φ k = some e → σ k = some e) : stQ t b σ A P 0 (rowM R) (feM R) := h.2.2.1.2.2.2.1.cp (cpSt.ofe rfl rfl rfl rfl) hφ
theorem stQ.to (h : stQ t b φ A P 0 (rowM R) (feM R)) (hφ : ∀ k e, φ k = some e → σ k = some e) : stQ t b σ A P 0 (rowM R) (feM R) := h.cp (cpSt.ofe rfl rfl rfl rfl) hφ
end RL
