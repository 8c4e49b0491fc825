/-- a state is read back out of a row -/
def restP (F : Nat → Int32) (w : Nat) (R : Nat → Nat → Int32) (I1 : Nat → Int32) (R1 : Nat → Nat → Int32) : Prop :=
  R1 2 = rdr (R 2) F w 198 ∧ R1 16 = rdr (R 16) F (w + 198) 48 ∧ I1 5 = F (w + 246) ∧ I1 19 = F (w + 247) ∧ ∀ c : Int, 0 ≤ c → c < (F (w + 246)).toInt → okF R1 c
/-- a state is put behind the earlier ones -/
def remR (I : Nat → Int32) (R : Nat → Nat → Int32) : Nat → Int32 := bkW (remF (R 26) (I 28).toInt) (262 * remC (I 28).toInt).toNat (R 2) (R 16) (I 5) (I 19)
/-- a feast behind the others -/
def feW (f : Nat → Int32) (w : Nat) (a b c d e g : Int32) : Nat → Int32 := upd (upd (upd (upd (upd (upd f w a) (w + 1) b) (w + 2) c) (w + 3) d) (w + 4) e) (w + 5) g
theorem sMore_f (T : Int → Int) : ∀ (k : Nat) (p : Int) (q : Nat → Int32) (g : Bool), (sMore T k p q g).1 = true → (q 0).toInt = 14 - k → k ≤ 13 → (1 ≤ ((sMore T k p q g).2.2.1 0).toInt ∧ ((sMore T k p q g).2.2.1 0).toInt ≤ 14) ∧ ∀ j : Nat, 14 < j → (sMore T k p q g).2.2.1 j = q j
  | 0, p, q, g, _, h1, _ => ⟨by show 1 ≤ (q 0).toInt ∧ (q 0).toInt ≤ 14; omega, fun _ _ => rfl⟩
  | k + 1, p, q, g, h0, h1, h2 => by
    rw [sMore] at h0 ⊢
    by_cases c1 : T p = 44
    · rw [if_pos c1] at h0 ⊢
      by_cases c2 : dg T (p + 1)
      · rw [if_pos c2] at h0 ⊢
        have e : ((upd (upd q (14 - k) (i3 (num T (p + 1)).1)) 0 (q 0 + 1)) 0).toInt = 14 - k := by
          rw [upd_s, t_add (x := (q 0).toInt) (y := 1) rfl rfl (by omega) (by omega)]
          omega
        have ih := sMore_f T k _ _ g h0 e (by omega)
        exact ⟨ih.1, fun j hj => (ih.2 j hj).trans ((upd_n _ _ (by omega)).trans (upd_n _ _ (by omega)))⟩
      · rw [if_neg c2] at h0; exact absurd (show false = true from h0) (by decide)
    · rw [if_neg c1] at h0 ⊢
      exact ⟨by show 1 ≤ (q 0).toInt ∧ (q 0).toInt ≤ 14; omega, fun _ _ => rfl⟩
theorem sMonths_f {T : Int → Int} {p : Int} {q : Nat → Int32} {g : Bool} (h : (sMonths T p q g).1 = true) : (1 ≤ ((sMonths T p q g).2.2.1 0).toInt ∧ ((sMonths T p q g).2.2.1 0).toInt ≤ 14) ∧ ∀ j : Nat, 14 < j → (sMonths T p q g).2.2.1 j = q j := by
  unfold sMonths at h ⊢
  by_cases c1 : T p = 109
  · rw [if_pos c1] at h ⊢
    by_cases c2 : dg T (p + 1)
    · rw [if_pos c2] at h ⊢
      have ih := sMore_f T 13 _ _ g h (by rw [upd_s]; rfl) (by omega)
      exact ⟨ih.1, fun j hj => (ih.2 j hj).trans ((upd_n _ _ (by omega)).trans (upd_n _ _ (by omega)))⟩
    · rw [if_neg c2] at h; exact absurd (show false = true from h) (by decide)
  · rw [if_neg c1] at h; exact absurd (show false = true from h) (by decide)
theorem sFirst_f {T : Int → Int} {p : Int} {q : Nat → Int32} {g : Bool} (h : (sFirst T p q g).1 = true) (j : Nat) (hj : j ≠ 15) : (sFirst T p q g).2.2.1 j = q j := by
  unfold sFirst at h ⊢
  by_cases c1 : T p = 59
  · rw [if_pos c1] at h ⊢
    by_cases c2 : T (p + 1) = 101
    · rw [if_pos c2] at h ⊢
      by_cases c3 : dg T (if T (p + 1 + 1) = 45 then p + 1 + 1 + 1 else p + 1 + 1)
      · rw [if_pos c3]; exact (upd_n _ _ hj).trans (upd_n _ _ hj)
      · rw [if_neg c3] at h; exact absurd (show false = true from h) (by decide)
    · rw [if_neg c2] at h; exact absurd (show false = true from h) (by decide)
  · rw [if_neg c1] at h; exact absurd (show false = true from h) (by decide)
theorem sLeap_f {T : Int → Int} {p : Int} {q : Nat → Int32} {g : Bool} (h : (sLeap T p q g).1 = true) : ((sLeap T p q g).2.2.1 16 = q 16 ∨ (sLeap T p q g).2.2.1 16 = 1 ∨ (sLeap T p q g).2.2.1 16 = 2) ∧ ∀ j : Nat, (j < 16 ∨ 18 < j) → (sLeap T p q g).2.2.1 j = q j := by
  unfold sLeap at h ⊢
  by_cases c1 : T p = 59 ∧ T (p + 1) = 100
  · rw [if_pos c1] at h ⊢
    by_cases c2 : dg T (p + 2)
    · rw [if_pos c2] at h ⊢
      exact ⟨Or.inr (Or.inl (by simp [upd])), fun j hj => (upd_n _ _ (by omega)).trans (upd_n _ _ (by omega))⟩
    · rw [if_neg c2] at h; exact absurd (show false = true from h) (by decide)
  · rw [if_neg c1] at h ⊢
    by_cases c2 : T p = 59 ∧ T (p + 1) = 105
    · rw [if_pos c2] at h ⊢
      by_cases c3 : dg T (p + 2)
      · rw [if_pos c3] at h ⊢
        by_cases c4 : T (num T (p + 2)).2 = 44
        · rw [if_pos c4] at h ⊢
          by_cases c5 : dg T ((num T (p + 2)).2 + 1)
          · rw [if_pos c5] at h ⊢
            exact ⟨Or.inr (Or.inr (by simp [upd])), fun j hj => (upd_n _ _ (by omega)).trans ((upd_n _ _ (by omega)).trans (upd_n _ _ (by omega)))⟩
          · rw [if_neg c5] at h; exact absurd (show false = true from h) (by decide)
        · rw [if_neg c4] at h; exact absurd (show false = true from h) (by decide)
      · rw [if_neg c3] at h; exact absurd (show false = true from h) (by decide)
    · rw [if_neg c2]
      exact ⟨Or.inl rfl, fun _ _ => rfl⟩
theorem sDiv_f (T : Int → Int) : ∀ (k : Nat) (p : Int) (q : Nat → Int32) (g : Bool), k ≤ 4 → (sDiv T k p q g).1 = true → (∀ j : Nat, (j < 20 ∨ 27 < j) → (sDiv T k p q g).2.2.1 j = q j) ∧ ∀ j : Nat, 24 ≤ j → j ≤ 27 → (sDiv T k p q g).2.2.1 j = q j ∨ (sDiv T k p q g).2.2.1 j = 1 ∨ (sDiv T k p q g).2.2.1 j = -1
  | 0, p, q, g, _, _ => ⟨fun _ _ => rfl, fun _ _ _ => Or.inl rfl⟩
  | k + 1, p, q, g, hk, h => by
    rw [sDiv] at h ⊢
    by_cases c1 : dg T p
    · rw [if_pos c1] at h ⊢
      by_cases c2 : T (num T p).2 = 43 ∨ T (num T p).2 = 45
      · rw [if_pos c2] at h ⊢
        have f1 : ∀ j : Nat, (j < 20 ∨ 27 < j) → (upd (upd q (20 + (3 - k)) (i3 (num T p).1)) (24 + (3 - k)) (if T (num T p).2 = 43 then 1 else -1)) j = q j := fun j hj => (upd_n _ _ (by omega)).trans (upd_n _ _ (by omega))
        have f2 : ∀ j : Nat, 24 ≤ j → j ≤ 27 → (upd (upd q (20 + (3 - k)) (i3 (num T p).1)) (24 + (3 - k)) (if T (num T p).2 = 43 then 1 else -1)) j = q j ∨ (upd (upd q (20 + (3 - k)) (i3 (num T p).1)) (24 + (3 - k)) (if T (num T p).2 = 43 then 1 else -1)) j = 1 ∨ (upd (upd q (20 + (3 - k)) (i3 (num T p).1)) (24 + (3 - k)) (if T (num T p).2 = 43 then 1 else -1)) j = -1 := fun j a1 a2 => by
          by_cases z : j = 24 + (3 - k)
          · rw [z, upd_s]
            by_cases z2 : T (num T p).2 = 43
            · rw [if_pos z2]; exact Or.inr (Or.inl rfl)
            · rw [if_neg z2]; exact Or.inr (Or.inr rfl)
          · rw [upd_n _ _ z, upd_n _ _ (by omega)]; exact Or.inl rfl
        by_cases c3 : 0 < k ∧ dg T ((num T p).2 + 1)
        · rw [if_pos c3] at h ⊢
          have ih := sDiv_f T k _ _ g (by omega) h
          exact ⟨fun j hj => (ih.1 j hj).trans (f1 j hj), fun j a1 a2 => (ih.2 j a1 a2).elim (fun e => by rw [e]; exact f2 j a1 a2) Or.inr⟩
        · rw [if_neg c3]
          exact ⟨f1, f2⟩
      · rw [if_neg c2] at h; exact absurd (show false = true from h) (by decide)
    · rw [if_neg c1] at h; exact absurd (show false = true from h) (by decide)
theorem sR1_f {T : Int → Int} {p : Int} {q : Nat → Int32} {g : Bool} (h : (sR1 T p q g).1 = true) (j : Nat) (hj : j ≠ 29) : (sR1 T p q g).2.2.1 j = q j := by
  unfold sR1 at h ⊢
  by_cases c1 : dg T p
  · rw [if_pos c1]
    show sRem1 q (num T p).1 j = q j
    unfold sRem1
    split
    · exact upd_n _ _ hj
    · rfl
  · rw [if_neg c1] at h; exact absurd (show false = true from h) (by decide)
theorem sRem_f (T : Int → Int) : ∀ (k : Nat) (p : Int) (q : Nat → Int32) (g : Bool), (sRem T k p q g).1 = true → ∀ j : Nat, j ≠ 29 → (sRem T k p q g).2.2.1 j = q j
  | 0, p, q, g, _, _, _ => rfl
  | k + 1, p, q, g, h, j, hj => by
    rw [sRem] at h ⊢
    by_cases c1 : (sR1 T p q g).1 = true
    · rw [if_pos c1] at h ⊢
      by_cases c2 : T (sR1 T p q g).2.1 = 44
      · rw [if_pos c2] at h ⊢
        exact (sRem_f T k _ _ _ h j hj).trans (sR1_f c1 j hj)
      · rw [if_neg c2]; exact sR1_f c1 j hj
    · rw [if_neg c1] at h; exact absurd h c1
theorem sCyc_f {T : Int → Int} {p : Int} {q : Nat → Int32} {g : Bool} (h : (sCyc T p q g).1 = true) : (sCyc T p q g).2.2.1 19 = 2 ∧ ∀ j : Nat, j ≠ 19 → j ≠ 28 → j ≠ 29 → (sCyc T p q g).2.2.1 j = q j := by
  unfold sCyc at h ⊢
  by_cases c1 : dg T p
  · rw [if_pos c1] at h ⊢
    by_cases c2 : T (num T p).2 = 58
    · rw [if_pos c2] at h ⊢
      have f := sRem_f T 100 _ _ g h
      exact ⟨(f 19 (by decide)).trans ((upd_n _ _ (by decide)).trans (upd_s _ _ _)), fun j h1 h2 h3 => (f j h3).trans ((upd_n _ _ h2).trans (upd_n _ _ h1))⟩
    · rw [if_neg c2] at h; exact absurd (show false = true from h) (by decide)
  · rw [if_neg c1] at h; exact absurd (show false = true from h) (by decide)
/-- what the rule leaves of a row that had none -/
theorem sRule_f {T : Int → Int} {p : Int} {q : Nat → Int32} {g : Bool} (h : (sRule T p q g).1 = true) (h19 : q 19 = 0) (hs : ∀ j : Nat, 24 ≤ j → j ≤ 27 → q j = 0) : ((sRule T p q g).2.2.1 19 = 0 ∨ (sRule T p q g).2.2.1 19 = 1 ∨ (sRule T p q g).2.2.1 19 = 2) ∧ (∀ j : Nat, 24 ≤ j → j ≤ 27 → (sRule T p q g).2.2.1 j = 0 ∨ ((sRule T p q g).2.2.1 j = 1 ∨ (sRule T p q g).2.2.1 j = -1) ∧ (sRule T p q g).2.2.1 19 = 1) ∧ ∀ j : Nat, (j < 19 ∨ 29 < j) → (sRule T p q g).2.2.1 j = q j := by
  unfold sRule at h ⊢
  by_cases c1 : T p = 59 ∧ T (p + 1) = 108
  · rw [if_pos c1] at h ⊢
    unfold sDivs at h ⊢
    have f := sDiv_f T 4 _ _ g (by omega) h
    have e : (sDiv T 4 (p + 2) (upd q 19 1) g).2.2.1 19 = 1 := (f.1 19 (by omega)).trans (upd_s _ _ _)
    refine ⟨Or.inr (Or.inl e), fun j a1 a2 => ?_, fun j hj => (f.1 j (by omega)).trans (upd_n _ _ (by omega))⟩
    rcases f.2 j a1 a2 with z | z
    · exact Or.inl (z.trans ((upd_n _ _ (by omega)).trans (hs j a1 a2)))
    · exact Or.inr ⟨z, e⟩
  · rw [if_neg c1] at h ⊢
    by_cases c2 : T p = 59 ∧ T (p + 1) = 99
    · rw [if_pos c2] at h ⊢
      have f := sCyc_f h
      exact ⟨Or.inr (Or.inr f.1), fun j a1 a2 => Or.inl ((f.2 j (by omega) (by omega) (by omega)).trans (hs j a1 a2)), fun j hj => f.2 j (by omega) (by omega) (by omega)⟩
    · rw [if_neg c2]
      exact ⟨Or.inl h19, fun j a1 a2 => Or.inl (hs j a1 a2), fun _ _ => rfl⟩
theorem i3_nn {T : Int → Int} (p : Int) : 0 ≤ (i3 (num T p).1).toInt := by rw [i3_v]; exact (num_v p).1
theorem sWeeks_f {T : Int → Int} {p : Int} {q : Nat → Int32} {g : Bool} (h : (sWeeks T p q g).1 = true) (h31 : 0 ≤ (q 31).toInt) : 0 ≤ ((sWeeks T p q g).2.2.1 31).toInt ∧ ∀ j : Nat, j < 30 → (sWeeks T p q g).2.2.1 j = q j := by
  unfold sWeeks at h ⊢
  by_cases c1 : T p = 59 ∧ T (p + 1) = 119
  · rw [if_pos c1] at h ⊢
    by_cases c2 : dg T (p + 2)
    · rw [if_pos c2] at h ⊢
      by_cases c3 : T (num T (p + 2)).2 = 44
      · rw [if_pos c3] at h ⊢
        by_cases c4 : dg T ((num T (p + 2)).2 + 1)
        · rw [if_pos c4] at h ⊢
          by_cases c5 : T (num T ((num T (p + 2)).2 + 1)).2 = 44
          · rw [if_pos c5] at h ⊢
            by_cases c6 : dg T ((num T ((num T (p + 2)).2 + 1)).2 + 1)
            · rw [if_pos c6] at h ⊢
              exact ⟨by have z := i3_nn (T := T) ((num T (p + 2)).2 + 1); simp only [upd]; rw [if_neg (by decide), if_pos trivial]; exact z, fun j hj => (upd_n _ _ (by omega)).trans ((upd_n _ _ (by omega)).trans (upd_n _ _ (by omega)))⟩
            · rw [if_neg c6] at h; exact absurd (show false = true from h) (by decide)
          · rw [if_neg c5] at h; exact absurd (show false = true from h) (by decide)
        · rw [if_neg c4] at h; exact absurd (show false = true from h) (by decide)
      · rw [if_neg c3] at h; exact absurd (show false = true from h) (by decide)
    · rw [if_neg c2] at h; exact absurd (show false = true from h) (by decide)
  · rw [if_neg c1]
    exact ⟨h31, fun _ _ => rfl⟩
theorem sAnd_ok {s : PS} {f : Int → (Nat → Int32) → Bool → PS} (h : (sAnd s f).1 = true) : s.1 = true ∧ sAnd s f = f s.2.1 s.2.2.1 s.2.2.2 := by
  by_cases q : s.1 = true
  · exact ⟨q, sAnd_t q⟩
  · rw [sAnd_f q] at h; exact absurd h q
/-- the shape of a row that was read -/
theorem sCal_f {T : Int → Int} {len : Int} (h : (sCal T len).1 = true) : (1 ≤ ((sCal T len).2.2.1 0).toInt ∧ ((sCal T len).2.2.1 0).toInt ≤ 14) ∧ ((sCal T len).2.2.1 16 = 0 ∨ (sCal T len).2.2.1 16 = 1 ∨ (sCal T len).2.2.1 16 = 2) ∧ ((sCal T len).2.2.1 19 = 0 ∨ (sCal T len).2.2.1 19 = 1 ∨ (sCal T len).2.2.1 19 = 2) ∧
    (∀ j : Nat, 24 ≤ j → j ≤ 27 → (sCal T len).2.2.1 j = 0 ∨ ((sCal T len).2.2.1 j = 1 ∨ (sCal T len).2.2.1 j = -1) ∧ (sCal T len).2.2.1 19 = 1) ∧ 0 ≤ ((sCal T len).2.2.1 31).toInt := by
  unfold sCal at h ⊢
  obtain ⟨k0, e0⟩ := sAnd_ok h
  rw [e0] at h ⊢
  obtain ⟨k5, e5⟩ := sAnd_ok h
  rw [e5] at h ⊢
  have eE : ∀ (p : Int) (q : Nat → Int32) (g : Bool) (b : Bool), (sEnd T len b p q g).2.2.1 = q := fun p q g b => by unfold sEnd; split <;> rfl
  rw [eE]
  unfold sParts at k0 k5 ⊢
  obtain ⟨k1, e1⟩ := sAnd_ok k0
  rw [e1] at k0 k5 ⊢
  obtain ⟨k2, e2⟩ := sAnd_ok k0
  rw [e2] at k0 k5 ⊢
  obtain ⟨k3, e3⟩ := sAnd_ok k0
  rw [e3] at k0 k5 ⊢
  have f1 := sMonths_f k1
  have f2 := sFirst_f k2
  have f3 := sLeap_f k3
  have z : ∀ j : Nat, 18 < j → (sLeap T (sFirst T (sMonths T 0 row0 false).2.1 (sMonths T 0 row0 false).2.2.1 (sMonths T 0 row0 false).2.2.2).2.1 (sFirst T (sMonths T 0 row0 false).2.1 (sMonths T 0 row0 false).2.2.1 (sMonths T 0 row0 false).2.2.2).2.2.1 (sFirst T (sMonths T 0 row0 false).2.1 (sMonths T 0 row0 false).2.2.1 (sMonths T 0 row0 false).2.2.2).2.2.2).2.2.1 j = row0 j := fun j hj => (f3.2 j (Or.inr hj)).trans ((f2 j (by omega)).trans (f1.2 j (by omega)))
  have f4 := sRule_f k0 ((z 19 (by omega)).trans rfl) (fun j a1 a2 => (z j (by omega)).trans (by unfold row0; rw [if_neg (by omega), if_neg (by omega)]))
  have f5 := sWeeks_f k5 (by rw [f4.2.2 31 (by omega), z 31 (by omega)]; decide)
  refine ⟨?_, ?_, ?_, fun j a1 a2 => ?_, f5.1⟩
  · rw [f5.2 0 (by omega), f4.2.2 0 (by omega), f3.2 0 (by omega), f2 0 (by omega)]; exact f1.1
  · rw [f5.2 16 (by omega), f4.2.2 16 (by omega)]
    rcases f3.1 with y | y
    · exact Or.inl (y.trans ((f2 16 (by omega)).trans (f1.2 16 (by omega))))
    · exact Or.inr y
  · rw [f5.2 19 (by omega)]; exact f4.1
  · rw [f5.2 j (by omega), f5.2 19 (by omega)]; exact f4.2.1 j a1 a2
/-- a row that was read and is possible is a calendar -/
theorem okRow_read {ρ : Row} {q : Nat → Int32} {g : Bool} (e : ∀ k : Int, 0 ≤ k → k < 33 → ρ k = q k.toNat)
    (h : (1 ≤ (q 0).toInt ∧ (q 0).toInt ≤ 14) ∧ (q 16 = 0 ∨ q 16 = 1 ∨ q 16 = 2) ∧ (q 19 = 0 ∨ q 19 = 1 ∨ q 19 = 2) ∧ (∀ j : Nat, 24 ≤ j → j ≤ 27 → q j = 0 ∨ (q j = 1 ∨ q j = -1) ∧ q 19 = 1) ∧ 0 ≤ (q 31).toInt) (hp : possR ρ g) : okRow ρ := by
  have r : ∀ k : Int, 0 ≤ k → k < 33 → rv ρ k = (q k.toNat).toInt := fun k a b => congrArg Int32.toInt (e k a b)
  have r0 := r 0 (by omega) (by omega)
  have r16 := r 16 (by omega) (by omega)
  have r19 := r 19 (by omega) (by omega)
  have r31 := r 31 (by omega) (by omega)
  have t0 : (Int.toNat 0) = 0 := rfl
  have t16 : (Int.toNat 16) = 16 := rfl
  have t19 : (Int.toNat 19) = 19 := rfl
  have t31 : (Int.toNat 31) = 31 := rfl
  rw [t0] at r0
  rw [t16] at r16
  rw [t19] at r19
  rw [t31] at r31
  have b16 : 0 ≤ rv ρ 16 ∧ rv ρ 16 ≤ 2 := by
    rw [r16]
    rcases h.2.1 with z | z | z <;> rw [z] <;> decide
  have b19 : 0 ≤ rv ρ 19 ∧ rv ρ 19 ≤ 2 := by
    rw [r19]
    rcases h.2.2.1 with z | z | z <;> rw [z] <;> decide
  refine ⟨by omega, hp.1, hp.2.1, hp.2.2.1, b16, hp.2.2.2.1, hp.2.2.2.2.1, b19, fun k a1 a2 a3 => ⟨hp.2.2.2.2.2.1 k a1 a2 a3, ?_⟩, fun q2 => (hp.2.2.2.2.2.2.1 q2).1, hp.2.2.2.2.2.2.2.2.1, ⟨by omega, hp.2.2.2.2.2.2.2.2.2.1⟩, hp.2.2.2.2.2.2.2.2.2.2⟩
  have rk := r (24 + k) (by omega) (by omega)
  rcases h.2.2.2.1 (24 + k).toNat (by omega) (by omega) with z | ⟨z, z2⟩
  · rw [z] at rk; exact absurd rk a3
  · rw [z2] at r19
    refine ⟨?_, r19⟩
    rw [rk]
    rcases z with z | z
    · rw [z]; exact Or.inl rfl
    · rw [z]; exact Or.inr rfl
def rowQ (q : Nat → Int32) : Row := fun k => if 0 ≤ k ∧ k < 33 then q k.toNat else 0
theorem rowQ_eq {R : Nat → Nat → Int32} {q : Nat → Int32} (h : eq33 (R 3) q) : rowR R = rowQ q := by
  funext k
  unfold rowR rowQ
  by_cases z : 0 ≤ k ∧ k < 33
  · rw [if_pos z, if_pos z]; exact h _ (by omega)
  · rw [if_neg z, if_neg z]
theorem rowQ_at (q : Nat → Int32) (k : Int) (h0 : 0 ≤ k) (h1 : k < 33) : rowQ q k = q k.toNat := if_pos ⟨h0, h1⟩
theorem rowQ_0 {q : Nat → Int32} (h : 1 ≤ (q 0).toInt ∧ (q 0).toInt ≤ 14) : 1 ≤ rv (rowQ q) 0 ∧ rv (rowQ q) 0 ≤ 14 := h
theorem rowR_cg {R S : Nat → Nat → Int32} (h : R 3 = S 3) : rowR R = rowR S := by funext k; unfold rowR; rw [h]
