/-! THE CLASS'S READER: what it has read of a calendar, and whether that is possible -/
theorem rowQ_v {q : Nat → Int32} {k : Int} (h : 0 ≤ k ∧ k < 33) : rv (rowQ q) k = (q k.toNat).toInt := by
  unfold rv rowQ
  rw [if_pos h]
theorem rowQ_cg {f g : Nat → Int32} (h : eq33 f g) : rowQ f = rowQ g := by
  funext k
  unfold rowQ
  by_cases q : 0 ≤ k ∧ k < 33
  · rw [if_pos q, if_pos q, h _ (by omega)]
  · rw [if_neg q, if_neg q]
theorem rv_cg {f g : Nat → Int32} {k : Int} (h : f k.toNat = g k.toNat) : rv (rowQ f) k = rv (rowQ g) k := by
  unfold rv rowQ
  by_cases q : 0 ≤ k ∧ k < 33
  · rw [if_pos q, if_pos q, h]
  · rw [if_neg q, if_neg q]
def pM (ρ : Row) : Prop := ∀ k : Int, 0 ≤ k → k < rv ρ 0 → 1 ≤ rv ρ (1 + k) ∧ rv ρ (1 + k) ≤ 60
def pE (ρ : Row) : Prop := -500000 ≤ rv ρ 15 ∧ rv ρ 15 ≤ 500000
def pL (ρ : Row) : Prop := (rv ρ 16 ≠ 0 → 1 ≤ rv ρ 17 ∧ rv ρ 17 ≤ rv ρ 0) ∧ (rv ρ 16 = 2 → 1 ≤ rv ρ 18 ∧ rv ρ 18 ≤ 60)
def pD (ρ : Row) : Prop := ∀ k : Int, 0 ≤ k → k < 4 → rv ρ (24 + k) ≠ 0 → 1 ≤ rv ρ (20 + k) ∧ rv ρ (20 + k) ≤ 400
def pC (ρ : Row) (g : Bool) : Prop := rv ρ 19 = 2 → (1 ≤ rv ρ 28 ∧ rv ρ 28 ≤ 30) ∧ g = false
def pK (ρ : Row) : Prop := (2 ≤ rv ρ 30 ∧ rv ρ 30 ≤ 10) ∧ rv ρ 31 < rv ρ 30 ∧ 1 ≤ rv ρ 32 ∧ rv ρ 32 ≤ rv ρ 30
def possW (ρ : Row) (g : Bool) : Prop := pM ρ ∧ pE ρ ∧ pL ρ ∧ pD ρ ∧ pC ρ g ∧ reps ρ ≠ 0 ∧ pK ρ
theorem possR_W {ρ : Row} {g : Bool} : possR ρ g ↔ possW ρ g ∧ 30 ≤ sumL ρ (rv ρ 0).toNat := by
  unfold possR possW pM pE pL pD pC pK
  constructor
  · rintro ⟨a, b, c, d, e, f, x, y, z⟩
    exact ⟨⟨a, c, ⟨d, e⟩, f, x, y, z⟩, b⟩
  · rintro ⟨⟨a, c, ⟨d, e⟩, f, x, y, z⟩, b⟩
    exact ⟨a, b, c, d, e, f, x, y, z⟩
noncomputable def pWB (ρ : Row) (g : Bool) : Bool := @decide (possW ρ g) (Classical.propDecidable _)
theorem pWB_iff {ρ : Row} {g : Bool} : pWB ρ g = true ↔ possW ρ g := by unfold pWB; exact @decide_eq_true_iff _ (Classical.propDecidable _)
theorem pM_cg {f g : Nat → Int32} (h : ∀ j : Nat, j ≤ 14 → f j = g j) (h0 : (g 0).toInt ≤ 14) : pM (rowQ f) ↔ pM (rowQ g) := by
  have e0 : rv (rowQ f) 0 = rv (rowQ g) 0 := rv_cg (h 0 (by omega))
  have e1 : rv (rowQ g) 0 = (g 0).toInt := rowQ_v (by omega)
  unfold pM
  constructor
  · intro a k k0 k1
    have := a k k0 (by omega)
    rw [rv_cg (h (1 + k).toNat (by omega))] at this
    exact this
  · intro a k k0 k1
    rw [rv_cg (h (1 + k).toNat (by omega))]
    exact a k k0 (by omega)
theorem pE_cg {f g : Nat → Int32} (h : f 15 = g 15) : pE (rowQ f) ↔ pE (rowQ g) := by
  unfold pE
  rw [rv_cg (k := 15) h]
theorem pL_cg {f g : Nat → Int32} (h0 : f 0 = g 0) (h : f 16 = g 16) (h1 : f 17 = g 17) (h2 : f 18 = g 18) : pL (rowQ f) ↔ pL (rowQ g) := by
  unfold pL
  rw [rv_cg (k := 0) h0, rv_cg (k := 16) h, rv_cg (k := 17) h1, rv_cg (k := 18) h2]
theorem pL_0 {f : Nat → Int32} (h : f 16 = 0) : pL (rowQ f) := by
  have e : rv (rowQ f) 16 = 0 := (rowQ_v (by omega)).trans (congrArg Int32.toInt h)
  unfold pL
  rw [e]
  exact ⟨fun z => absurd rfl z, fun z => by omega⟩
theorem pD_cg {f g : Nat → Int32} (h : ∀ j : Nat, 20 ≤ j → j ≤ 27 → f j = g j) : pD (rowQ f) ↔ pD (rowQ g) := by
  unfold pD
  constructor
  · intro a k k0 k1 k2
    have := a k k0 k1 (by rw [rv_cg (h (24 + k).toNat (by omega) (by omega))]; exact k2)
    rw [rv_cg (h (20 + k).toNat (by omega) (by omega))] at this
    exact this
  · intro a k k0 k1 k2
    rw [rv_cg (h (20 + k).toNat (by omega) (by omega))]
    exact a k k0 k1 (by rw [← rv_cg (h (24 + k).toNat (by omega) (by omega))]; exact k2)
theorem pC_cg {f g : Nat → Int32} {c : Bool} (h : f 19 = g 19) (h1 : f 28 = g 28) : pC (rowQ f) c ↔ pC (rowQ g) c := by
  unfold pC
  rw [rv_cg (k := 19) h, rv_cg (k := 28) h1]
theorem pK_cg {f g : Nat → Int32} (h : f 30 = g 30) (h1 : f 31 = g 31) (h2 : f 32 = g 32) : pK (rowQ f) ↔ pK (rowQ g) := by
  unfold pK
  rw [rv_cg (k := 30) h, rv_cg (k := 31) h1, rv_cg (k := 32) h2]
theorem repN_cg {f g : Nat → Int32} (h : ∀ j : Nat, 20 ≤ j → j ≤ 27 → f j = g j) : ∀ k : Nat, k ≤ 4 → repN (rowQ f) k = repN (rowQ g) k
  | 0, _ => rfl
  | k + 1, hk => by
    have e1 : rv (rowQ f) (24 + k) = rv (rowQ g) (24 + k) := rv_cg (h _ (by omega) (by omega))
    have e2 : rv (rowQ f) (20 + k) = rv (rowQ g) (20 + k) := rv_cg (h _ (by omega) (by omega))
    rw [repN, repN, repN_cg h k (by omega), e1, e2]
theorem reps_cg {f g : Nat → Int32} (h : ∀ j : Nat, 19 ≤ j → j ≤ 28 → f j = g j) : reps (rowQ f) = reps (rowQ g) := by
  unfold reps
  rw [repN_cg (fun j a c => h j (by omega) (by omega)) 4 (by omega), rv_cg (k := 19) (h 19 (by omega) (by omega)), rv_cg (k := 28) (h 28 (by omega) (by omega))]
theorem sumL_cg {f g : Nat → Int32} : ∀ k : Nat, (∀ j : Nat, 1 ≤ j → j ≤ k → f j = g j) → sumL (rowQ f) k = sumL (rowQ g) k
  | 0, _ => rfl
  | k + 1, h => by
    rw [sumL, sumL, sumL_cg k (fun j a c => h j a (by omega)), rv_cg (k := 1 + (k : Int)) (h _ (by omega) (by omega))]
/-- a flag that falls where a number is out of range -/
theorem fl_and {x : Int32} {p p' : Bool} {c : Prop} [Decidable c] (h : x = bI p) (e : p' = true ↔ p = true ∧ c) : (if c then x else 0) = bI p' := by
  by_cases q : c
  · rw [if_pos q, h]
    congr 1
    exact Bool.eq_iff_iff.mpr ⟨fun z => e.mpr ⟨z, q⟩, fun z => (e.mp z).1⟩
  · rw [if_neg q]
    have : p' = false := by
      cases hp : p'
      · rfl
      · exact absurd (e.mp hp).2 q
    rw [this]
    rfl
/-- a month more -/
theorem pW_month {q : Nat → Int32} {g : Bool} {n : Int} {v w : Int32} (hn : (q 0).toInt = n) (h0 : 0 ≤ n ∧ n < 14) (hw : w.toInt = n + 1) (h16 : q 16 = 0) : pWB (rowQ (upd (upd q (1 + n).toNat v) 0 w)) g = true ↔ pWB (rowQ q) g = true ∧ (1 ≤ v.toInt ∧ v.toInt ≤ 60) := by
  rw [pWB_iff, pWB_iff]
  have e : ∀ j : Nat, 15 ≤ j → upd (upd q (1 + n).toNat v) 0 w j = q j := fun j hj => (upd_n _ _ (by omega)).trans (upd_n _ _ (by omega))
  have e0 : rv (rowQ (upd (upd q (1 + n).toNat v) 0 w)) 0 = n + 1 := by rw [rowQ_v (by omega)]; exact (congrArg Int32.toInt (upd_s _ 0 w)).trans hw
  have e1 : rv (rowQ q) 0 = n := by rw [rowQ_v (by omega)]; exact hn
  have ej : ∀ k : Int, 0 ≤ k → k < n → rv (rowQ (upd (upd q (1 + n).toNat v) 0 w)) (1 + k) = rv (rowQ q) (1 + k) := fun k a c => rv_cg ((upd_n _ _ (by omega)).trans (upd_n _ _ (by omega)))
  have en : rv (rowQ (upd (upd q (1 + n).toNat v) 0 w)) (1 + n) = v.toInt := by rw [rowQ_v (by omega), upd_n _ _ (by omega), upd_s]
  have hM : pM (rowQ (upd (upd q (1 + n).toNat v) 0 w)) ↔ pM (rowQ q) ∧ (1 ≤ v.toInt ∧ v.toInt ≤ 60) := by
    unfold pM
    rw [e0, e1]
    constructor
    · intro a
      refine ⟨fun k k0 k1 => ?_, ?_⟩
      · rw [← ej k k0 k1]; exact a k k0 (by omega)
      · rw [← en]; exact a n h0.1 (by omega)
    · rintro ⟨a, c⟩ k k0 k1
      rcases (show k < n ∨ k = n by omega) with z | z
      · rw [ej k k0 z]; exact a k k0 z
      · rw [z, en]; exact c
  unfold possW
  rw [hM, pE_cg (e 15 (by omega)), pD_cg (fun j a _ => e j (by omega)), pC_cg (e 19 (by omega)) (e 28 (by omega)), reps_cg (fun j a _ => e j (by omega)), pK_cg (e 30 (by omega)) (e 31 (by omega)) (e 32 (by omega))]
  have l1 : pL (rowQ (upd (upd q (1 + n).toNat v) 0 w)) := pL_0 ((e 16 (by omega)).trans h16)
  have l2 : pL (rowQ q) := pL_0 h16
  constructor
  · rintro ⟨⟨a, c⟩, d, _, f⟩; exact ⟨⟨a, d, l2, f⟩, c⟩
  · rintro ⟨⟨a, d, _, f⟩, c⟩; exact ⟨⟨a, c⟩, d, l1, f⟩
/-- the first day -/
theorem pW_first {q : Nat → Int32} {g : Bool} {u v : Int32} (h0 : (q 0).toInt ≤ 14) (h15 : q 15 = 0) : pWB (rowQ (upd (upd q 15 u) 15 v)) g = true ↔ pWB (rowQ q) g = true ∧ (-500000 ≤ v.toInt ∧ v.toInt ≤ 500000) := by
  rw [pWB_iff, pWB_iff]
  have e : ∀ j : Nat, j ≠ 15 → upd (upd q 15 u) 15 v j = q j := fun j hj => (upd_n _ _ hj).trans (upd_n _ _ hj)
  have e1 : rv (rowQ (upd (upd q 15 u) 15 v)) 15 = v.toInt := by rw [rowQ_v (by omega)]; exact congrArg Int32.toInt (upd_s _ 15 v)
  have e2 : rv (rowQ q) 15 = 0 := by rw [rowQ_v (by omega)]; exact congrArg Int32.toInt h15
  unfold possW
  rw [pM_cg (fun j a => e j (by omega)) h0, pL_cg (e 0 (by omega)) (e 16 (by omega)) (e 17 (by omega)) (e 18 (by omega)), pD_cg (fun j a _ => e j (by omega)), pC_cg (e 19 (by omega)) (e 28 (by omega)), reps_cg (fun j a _ => e j (by omega)), pK_cg (e 30 (by omega)) (e 31 (by omega)) (e 32 (by omega))]
  unfold pE
  rw [e1, e2]
  constructor
  · rintro ⟨a, c, d⟩; exact ⟨⟨a, ⟨by omega, by omega⟩, d⟩, c⟩
  · rintro ⟨⟨a, _, d⟩, c⟩; exact ⟨a, c, d⟩
/-- a leap -/
theorem pW_leapd {q : Nat → Int32} {g : Bool} {v : Int32} (h0 : (q 0).toInt ≤ 14) (h16 : q 16 = 0) : pWB (rowQ (upd (upd q 16 1) 17 v)) g = true ↔ pWB (rowQ q) g = true ∧ (1 ≤ v.toInt ∧ v.toInt ≤ (q 0).toInt) := by
  rw [pWB_iff, pWB_iff]
  have e : ∀ j : Nat, j ≠ 16 → j ≠ 17 → upd (upd q 16 1) 17 v j = q j := fun j h1 h2 => (upd_n _ _ h2).trans (upd_n _ _ h1)
  have e1 : rv (rowQ (upd (upd q 16 1) 17 v)) 16 = 1 := by rw [rowQ_v (by omega)]; exact congrArg Int32.toInt ((upd_n _ _ (by decide)).trans (upd_s _ 16 1))
  have e2 : rv (rowQ (upd (upd q 16 1) 17 v)) 17 = v.toInt := by rw [rowQ_v (by omega)]; exact congrArg Int32.toInt (upd_s _ 17 v)
  have e3 : rv (rowQ (upd (upd q 16 1) 17 v)) 0 = (q 0).toInt := by rw [rowQ_v (by omega)]; exact congrArg Int32.toInt (e 0 (by decide) (by decide))
  have l2 : pL (rowQ q) := pL_0 h16
  unfold possW
  rw [pM_cg (fun j a => e j (by omega) (by omega)) h0, pE_cg (e 15 (by decide) (by decide)), pD_cg (fun j a _ => e j (by omega) (by omega)), pC_cg (e 19 (by decide) (by decide)) (e 28 (by decide) (by decide)), reps_cg (fun j a _ => e j (by omega) (by omega)), pK_cg (e 30 (by decide) (by decide)) (e 31 (by decide) (by decide)) (e 32 (by decide) (by decide))]
  constructor
  · rintro ⟨a, c, d, f⟩
    unfold pL at d
    rw [e1, e2, e3] at d
    exact ⟨⟨a, c, l2, f⟩, d.1 (by decide)⟩
  · rintro ⟨⟨a, c, _, f⟩, d⟩
    refine ⟨a, c, ?_, f⟩
    unfold pL
    rw [e1, e2, e3]
    exact ⟨fun _ => d, fun z => by omega⟩
theorem pW_leapi {q : Nat → Int32} {g : Bool} {v x : Int32} (h0 : (q 0).toInt ≤ 14) (h16 : q 16 = 0) : pWB (rowQ (upd (upd (upd q 16 2) 17 v) 18 x)) g = true ↔ (pWB (rowQ q) g = true ∧ (1 ≤ v.toInt ∧ v.toInt ≤ (q 0).toInt)) ∧ (1 ≤ x.toInt ∧ x.toInt ≤ 60) := by
  rw [pWB_iff, pWB_iff]
  have e : ∀ j : Nat, j ≠ 16 → j ≠ 17 → j ≠ 18 → upd (upd (upd q 16 2) 17 v) 18 x j = q j := fun j h1 h2 h3 => (upd_n _ _ h3).trans ((upd_n _ _ h2).trans (upd_n _ _ h1))
  have e1 : rv (rowQ (upd (upd (upd q 16 2) 17 v) 18 x)) 16 = 2 := by rw [rowQ_v (by omega)]; exact congrArg Int32.toInt ((upd_n _ _ (by decide)).trans ((upd_n _ _ (by decide)).trans (upd_s _ 16 2)))
  have e2 : rv (rowQ (upd (upd (upd q 16 2) 17 v) 18 x)) 17 = v.toInt := by rw [rowQ_v (by omega)]; exact congrArg Int32.toInt ((upd_n _ _ (by decide)).trans (upd_s _ 17 v))
  have e4 : rv (rowQ (upd (upd (upd q 16 2) 17 v) 18 x)) 18 = x.toInt := by rw [rowQ_v (by omega)]; exact congrArg Int32.toInt (upd_s _ 18 x)
  have e3 : rv (rowQ (upd (upd (upd q 16 2) 17 v) 18 x)) 0 = (q 0).toInt := by rw [rowQ_v (by omega)]; exact congrArg Int32.toInt (e 0 (by decide) (by decide) (by decide))
  have l2 : pL (rowQ q) := pL_0 h16
  unfold possW
  rw [pM_cg (fun j a => e j (by omega) (by omega) (by omega)) h0, pE_cg (e 15 (by decide) (by decide) (by decide)), pD_cg (fun j a _ => e j (by omega) (by omega) (by omega)), pC_cg (e 19 (by decide) (by decide) (by decide)) (e 28 (by decide) (by decide) (by decide)), reps_cg (fun j a _ => e j (by omega) (by omega) (by omega)), pK_cg (e 30 (by decide) (by decide) (by decide)) (e 31 (by decide) (by decide) (by decide)) (e 32 (by decide) (by decide) (by decide))]
  constructor
  · rintro ⟨a, c, d, f⟩
    unfold pL at d
    rw [e1, e2, e3, e4] at d
    exact ⟨⟨⟨a, c, l2, f⟩, d.1 (by decide)⟩, d.2 rfl⟩
  · rintro ⟨⟨⟨a, c, _, f⟩, d⟩, d2⟩
    refine ⟨a, c, ?_, f⟩
    unfold pL
    rw [e1, e2, e3, e4]
    exact ⟨fun _ => d, fun _ => d2⟩
/-- weeks -/
theorem pW_weeks {q : Nat → Int32} {g : Bool} {u v x : Int32} (h0 : (q 0).toInt ≤ 14) (h30 : q 30 = 7) (h31 : q 31 = 0) (h32 : q 32 = 4) : pWB (rowQ (upd (upd (upd q 30 u) 31 v) 32 x)) g = true ↔ ((pWB (rowQ q) g = true ∧ (2 ≤ u.toInt ∧ u.toInt ≤ 10)) ∧ v.toInt < u.toInt) ∧ (1 ≤ x.toInt ∧ x.toInt ≤ u.toInt) := by
  rw [pWB_iff, pWB_iff]
  have e : ∀ j : Nat, j < 30 → upd (upd (upd q 30 u) 31 v) 32 x j = q j := fun j h => (upd_n _ _ (by omega)).trans ((upd_n _ _ (by omega)).trans (upd_n _ _ (by omega)))
  have e1 : rv (rowQ (upd (upd (upd q 30 u) 31 v) 32 x)) 30 = u.toInt := by rw [rowQ_v (by omega)]; exact congrArg Int32.toInt ((upd_n _ _ (by decide)).trans ((upd_n _ _ (by decide)).trans (upd_s _ 30 u)))
  have e2 : rv (rowQ (upd (upd (upd q 30 u) 31 v) 32 x)) 31 = v.toInt := by rw [rowQ_v (by omega)]; exact congrArg Int32.toInt ((upd_n _ _ (by decide)).trans (upd_s _ 31 v))
  have e4 : rv (rowQ (upd (upd (upd q 30 u) 31 v) 32 x)) 32 = x.toInt := by rw [rowQ_v (by omega)]; exact congrArg Int32.toInt (upd_s _ 32 x)
  have f1 : rv (rowQ q) 30 = 7 := by rw [rowQ_v (by omega)]; exact congrArg Int32.toInt h30
  have f2 : rv (rowQ q) 31 = 0 := by rw [rowQ_v (by omega)]; exact congrArg Int32.toInt h31
  have f3 : rv (rowQ q) 32 = 4 := by rw [rowQ_v (by omega)]; exact congrArg Int32.toInt h32
  unfold possW
  rw [pM_cg (fun j a => e j (by omega)) h0, pE_cg (e 15 (by decide)), pL_cg (e 0 (by decide)) (e 16 (by decide)) (e 17 (by decide)) (e 18 (by decide)), pD_cg (fun j a _ => e j (by omega)), pC_cg (e 19 (by decide)) (e 28 (by decide)), reps_cg (fun j a _ => e j (by omega))]
  unfold pK
  rw [e1, e2, e4, f1, f2, f3]
  constructor
  · rintro ⟨a, c, d, f, x, y, k1, k2, k3⟩
    exact ⟨⟨⟨⟨a, c, d, f, x, y, by omega⟩, k1⟩, k2⟩, k3⟩
  · rintro ⟨⟨⟨⟨a, c, d, f, x, y, _⟩, k1⟩, k2⟩, k3⟩
    exact ⟨a, c, d, f, x, y, k1, k2, k3⟩
