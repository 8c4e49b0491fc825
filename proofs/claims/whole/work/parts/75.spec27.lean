/-! THE CLASS's feasts and their days -/
def CalQ (t : Nat → ClassId) (b : Nat) (σ0 : qM) (o : Option Nat) (ρ : Row) : Prop := ∃ (q L C : Nat) (K fl fc : Nat → Int32), o = some q ∧ (41 < q ∧ 41 < L ∧ 41 < C) ∧ CalP t b σ0 q L C K fl fc ρ
abbrev feF (f : Int → Int32) : List Value := [.int (f 0), .int (f 1), .int (f 2), .int (f 3), .int (f 4), .int (f 5)]
def FeQ (σ0 : qM) (o : Option Nat) (f : Int → Int32) : Prop := ∃ q : Nat, o = some q ∧ 41 < q ∧ σ0 q = some (.inr (5, feF f))
/-- a state holds these calendars and feasts -/
def stQ (t : Nat → ClassId) (b : Nat) (σ0 : qM) (A : Nat → Int32) (P : Nat → Nat → Option Nat) (u : Nat) (rw_ : Int → Row) (fe : Int → Int → Int32) : Prop :=
  ((0 ≤ (A (20 + 2 * u)).toInt ∧ (A (20 + 2 * u)).toInt ≤ 6) ∧ (0 ≤ (A (21 + 2 * u)).toInt ∧ (A (21 + 2 * u)).toInt ≤ 8)) ∧
  (∀ j : Int, 0 ≤ j → j < (A (20 + 2 * u)).toInt → CalQ t b σ0 (P (1 + 2 * u) j.toNat) (rw_ j)) ∧
  (∀ f : Int, 0 ≤ f → f < (A (21 + 2 * u)).toInt → FeQ σ0 (P (2 + 2 * u) f.toNat) (fe f)) ∧
  (∀ f : Int, 0 ≤ f → f < (A (21 + 2 * u)).toInt → okFe (A (20 + 2 * u)).toInt f (fe f))
theorem stQ.ok {t : Nat → ClassId} {b : Nat} {σ0 : qM} {A : Nat → Int32} {P : Nat → Nat → Option Nat} {u : Nat} {rw_ : Int → Row} {fe : Int → Int → Int32} (h : stQ t b σ0 A P u rw_ fe) : okSt σ0 A P u := by
  obtain ⟨⟨h1, h2⟩, h3, h4, h5⟩ := h
  refine ⟨h1, h2, fun j hj => ?_, fun j hj => ?_⟩
  · obtain ⟨q, L, C, K, fl, fc, a, c, d⟩ := h3 j (by omega) hj
    exact ⟨q, _, a, c.1, d.1⟩
  · obtain ⟨q, a, c, d⟩ := h4 j (by omega) hj
    exact ⟨q, _, a, c, d⟩
theorem CalP.cS {t : Nat → ClassId} {b : Nat} {σ0 : qM} {A : Nat → Int32} {B : Nat → Nat → Int32} {P : Nat → Nat → Option Nat} {q L C : Nat} {K fl fc : Nat → Int32} {ρ : Row} (h : CalP t b σ0 q L C K fl fc ρ) (hh : 41 < q ∧ 41 < L ∧ 41 < C) : CalP t b (cS t b σ0 A B P) q L C K fl fc ρ :=
  ⟨(cS_off hh.1).trans h.1, (cS_off hh.2.1).trans h.2.1, (cS_off hh.2.2).trans h.2.2.1, h.2.2.2⟩
/-- the class's own kind of none, after its own check -/
def cC (x : Int) : Int := if -999999 ≤ x ∧ x ≤ 999999 then x else -2147483648
theorem cC_of {x r : Int} (h : x = toC r) : cC x = toC (clampD r) := by
  subst h
  by_cases a : r = -2147483647
  · subst a
    decide
  · by_cases c : -999999 ≤ r ∧ r ≤ 999999
    · rw [clampD_p a c, toC_d a]
      exact if_pos c
    · rw [clampD_n (fun z => c z.2), toC_d a, toC_n rfl]
      exact if_neg c
theorem cC_cut {ρ : Row} {y m d : Int} (hy : -2000 ≤ y ∧ y ≤ 2000) : cC (dnum ρ y m (if d < mlen ρ y m then d else mlen ρ y m)) = toC (clampD (cut ρ y m d)) := by
  generalize e : dnum ρ y m (if d < mlen ρ y m then d else mlen ρ y m) = x
  have hc : cut ρ y m d = if -999999 ≤ x ∧ x ≤ 999999 then x else -2147483647 := by
    unfold cut
    rw [if_pos hy, e]
  rw [hc]
  by_cases c : -999999 ≤ x ∧ x ≤ 999999
  · rw [if_pos c]
    exact cC_of (toC_d (by omega)).symm
  · rw [if_neg c]
    unfold cC
    rw [if_neg c]
    decide
theorem toC_in {r : Int} (h : r = -2147483647 ∨ (-999999 ≤ r ∧ r ≤ 999999)) : toC r = -2147483648 ↔ r = -2147483647 := by
  unfold toC
  by_cases a : r = -2147483647
  · rw [if_pos a]
    exact ⟨fun _ => a, fun _ => rfl⟩
  · rw [if_neg a]
    omega
theorem toC_i {r x : Int} (h : -999999 ≤ x ∧ x ≤ 999999) : toC r = x ↔ r = x := by
  unfold toC
  by_cases a : r = -2147483647
  · rw [if_pos a]
    omega
  · rw [if_neg a]
