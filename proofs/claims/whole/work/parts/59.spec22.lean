/-! the reader's steps: what each leaves of rdC -/
theorem i_toI {a c : Int32} (h : a.toInt = c.toInt) : a = c := Int32.toInt_inj.mp h
theorem rdC_month {q : Nat → Int32} {g : Bool} {A A1 : Nat → Int32} {B B1 : Nat → Nat → Int32} {v w : Int32} {n : Int} (h : rdC q g A B) (hn : (q 0).toInt = n) (hn1 : n < 14) (h16 : q 16 = 0) (k : kpI [3, 4, 5, 6, 7] A A1) (kr : B1 = va_up B 1 (upd (B 1) n.toNat v)) (hv : 0 ≤ v.toInt ∧ v.toInt ≤ 999999) (h6 : (A1 6).toInt = n + 1) (h7 : (A1 7).toInt = (A 7).toInt + v.toInt) (h5 : A1 5 = if 1 ≤ v.toInt ∧ v.toInt ≤ 60 then A 5 else 0) (hw : w.toInt = n + 1) : rdC (upd (upd q (1 + n).toNat v) 0 w) g A1 B1 := by
  obtain ⟨⟨hq0, a6⟩, b1, ⟨a7, a7l, a7u⟩, ⟨a8, a9, a10, a11⟩, ⟨a12, a14⟩, ⟨a13, d1, d2⟩, ⟨p1, p2⟩, ⟨a16, a17, a18⟩, a5⟩ := h
  have e : ∀ j : Nat, 15 ≤ j → upd (upd q (1 + n).toNat v) 0 w j = q j := fun j hj => (upd_n _ _ (by omega)).trans (upd_n _ _ (by omega))
  have e0 : upd (upd q (1 + n).toNat v) 0 w 0 = w := upd_s _ _ _
  have hB1 : B1 1 = upd (B 1) n.toNat v := by rw [kr]; exact va_up_self _ _ _
  have hB2 : B1 2 = B 2 := by rw [kr]; exact va_up_ne _ _ (by decide)
  have hB3 : B1 3 = B 3 := by rw [kr]; exact va_up_ne _ _ (by decide)
  have hp := pW_month (g := g) (v := v) hn ⟨by omega, hn1⟩ hw h16
  refine ⟨⟨by rw [e0, hw]; omega, i_toI (by rw [e0, hw]; exact h6)⟩, fun j j0 j1 => ?_, ?_, ⟨(k 8 (by decide)).trans (a8.trans (e 15 (by omega)).symm), (k 9 (by decide)).trans (a9.trans (e 16 (by omega)).symm), fun z => absurd ((e 16 (by omega)).trans h16) z, ?_⟩, ⟨(k 12 (by decide)).trans (a12.trans (e 19 (by omega)).symm), (k 14 (by decide)).trans (a14.trans (e 29 (by omega)).symm)⟩, ⟨?_, fun j j0 j1 => ?_, fun j j0 j1 => ?_⟩, ⟨fun z => ?_, fun z => ?_⟩, ⟨(k 16 (by decide)).trans (a16.trans (e 30 (by omega)).symm), (k 17 (by decide)).trans (a17.trans (e 31 (by omega)).symm), (k 18 (by decide)).trans (a18.trans (e 32 (by omega)).symm)⟩, h5.trans (fl_and a5 hp)⟩
  · rw [e0, hw] at j1
    rw [hB1]
    rcases (show j = n ∨ j < n by omega) with z | z
    · rw [z, upd_s, upd_n _ _ (by omega), upd_s]
    · rw [upd_n _ _ (by omega), upd_n _ _ (by omega), upd_n _ _ (by omega)]
      exact b1 j j0 (by omega)
  · rw [e0, hw, h7, show (n + 1).toNat = n.toNat + 1 by omega, sumL, sumL_cg (g := q) n.toNat (fun j c d => (upd_n _ _ (by omega)).trans (upd_n _ _ (by omega))), rowQ_v (by omega), show (1 + ((n.toNat : Nat) : Int)).toNat = (1 + n).toNat by omega, upd_n _ _ (by omega), upd_s]
    rw [hn] at a7 a7u
    omega
  · rw [e 16 (by omega), h16, if_pos rfl, k 11 (by decide), a11, h16, if_pos rfl]
  · rw [k 13 (by decide)]; exact a13
  · rw [k 13 (by decide)] at j1
    rw [hB2, hB3, e _ (by omega), e _ (by omega)]
    exact d1 j j0 j1
  · rw [k 13 (by decide)] at j0
    rw [e _ (by omega)]
    exact d2 j j0 j1
  · rw [k 15 (by decide), e 28 (by omega)]
    exact p1 ((e 19 (by omega)).symm.trans z)
  · rw [k 15 (by decide), reps_cg (g := q) (fun j c d => e j (by omega))]
    have p := p2 (fun y => z ((e 19 (by omega)).trans y))
    exact ⟨p.1, fun y => p.2 (hp.mp y).1⟩
theorem rdC_first {q : Nat → Int32} {g : Bool} {A A1 : Nat → Int32} {B B1 : Nat → Nat → Int32} {u v : Int32} (h : rdC q g A B) (h15 : q 15 = 0) (k : kpI [3, 4, 5, 8] A A1) (kr : B1 = B) (h8 : A1 8 = v) (h5 : A1 5 = if -500000 ≤ v.toInt ∧ v.toInt ≤ 500000 then A 5 else 0) : rdC (upd (upd q 15 u) 15 v) g A1 B1 := by
  obtain ⟨⟨hq0, a6⟩, b1, ⟨a7, a7l, a7u⟩, ⟨a8, a9, a10, a11⟩, ⟨a12, a14⟩, ⟨a13, d1, d2⟩, ⟨p1, p2⟩, ⟨a16, a17, a18⟩, a5⟩ := h
  subst kr
  have e : ∀ j : Nat, j ≠ 15 → upd (upd q 15 u) 15 v j = q j := fun j hj => (upd_n _ _ hj).trans (upd_n _ _ hj)
  have hp := pW_first (g := g) (u := u) (v := v) hq0.2 h15
  have e0 := e 0 (by omega)
  refine ⟨⟨by rw [e0]; exact hq0, (k 6 (by decide)).trans (a6.trans e0.symm)⟩, fun j j0 j1 => ?_, ?_, ⟨h8.trans (upd_s _ _ _).symm, (k 9 (by decide)).trans (a9.trans (e 16 (by omega)).symm), fun z => ?_, ?_⟩, ⟨(k 12 (by decide)).trans (a12.trans (e 19 (by omega)).symm), (k 14 (by decide)).trans (a14.trans (e 29 (by omega)).symm)⟩, ⟨?_, fun j j0 j1 => ?_, fun j j0 j1 => ?_⟩, ⟨fun z => ?_, fun z => ?_⟩, ⟨(k 16 (by decide)).trans (a16.trans (e 30 (by omega)).symm), (k 17 (by decide)).trans (a17.trans (e 31 (by omega)).symm), (k 18 (by decide)).trans (a18.trans (e 32 (by omega)).symm)⟩, h5.trans (fl_and a5 hp)⟩
  · rw [e0] at j1
    rw [e _ (by omega)]
    exact b1 j j0 j1
  · rw [e0, k 7 (by decide), sumL_cg (g := q) _ (fun j c d => e j (by omega))]
    exact ⟨a7, a7l, a7u⟩
  · rw [k 10 (by decide), e 17 (by omega)]
    exact a10 (fun y => z ((e 16 (by omega)).trans y))
  · rw [k 11 (by decide), a11, e 16 (by omega), e 18 (by omega)]
  · rw [k 13 (by decide)]; exact a13
  · rw [k 13 (by decide)] at j1
    rw [e _ (by omega), e _ (by omega)]
    exact d1 j j0 j1
  · rw [k 13 (by decide)] at j0
    rw [e _ (by omega)]
    exact d2 j j0 j1
  · rw [k 15 (by decide), e 28 (by omega)]
    exact p1 ((e 19 (by omega)).symm.trans z)
  · rw [k 15 (by decide), reps_cg (g := q) (fun j c d => e j (by omega))]
    have p := p2 (fun y => z ((e 19 (by omega)).trans y))
    exact ⟨p.1, fun y => p.2 (hp.mp y).1⟩
theorem rdC_leapd {q : Nat → Int32} {g : Bool} {A A1 : Nat → Int32} {B B1 : Nat → Nat → Int32} {v : Int32} (h : rdC q g A B) (h16 : q 16 = 0) (k : kpI [3, 4, 5, 9, 10, 11] A A1) (kr : B1 = B) (h9 : A1 9 = 1) (h10 : A1 10 = v) (h11 : A1 11 = 1) (h5 : A1 5 = if 1 ≤ v.toInt ∧ v.toInt ≤ (q 0).toInt then A 5 else 0) : rdC (upd (upd q 16 1) 17 v) g A1 B1 := by
  obtain ⟨⟨hq0, a6⟩, b1, ⟨a7, a7l, a7u⟩, ⟨a8, a9, a10, a11⟩, ⟨a12, a14⟩, ⟨a13, d1, d2⟩, ⟨p1, p2⟩, ⟨a16, a17, a18⟩, a5⟩ := h
  subst kr
  have e : ∀ j : Nat, j ≠ 16 → j ≠ 17 → upd (upd q 16 1) 17 v j = q j := fun j h1 h2 => (upd_n _ _ h2).trans (upd_n _ _ h1)
  have e16 : upd (upd q 16 1) 17 v 16 = 1 := (upd_n _ _ (by decide)).trans (upd_s _ _ _)
  have e17 : upd (upd q 16 1) 17 v 17 = v := upd_s _ _ _
  have hp := pW_leapd (g := g) (v := v) hq0.2 h16
  have e0 := e 0 (by omega) (by omega)
  refine ⟨⟨by rw [e0]; exact hq0, (k 6 (by decide)).trans (a6.trans e0.symm)⟩, fun j j0 j1 => ?_, ?_, ⟨(k 8 (by decide)).trans (a8.trans (e 15 (by omega) (by omega)).symm), h9.trans e16.symm, fun z => h10.trans e17.symm, ?_⟩, ⟨(k 12 (by decide)).trans (a12.trans (e 19 (by omega) (by omega)).symm), (k 14 (by decide)).trans (a14.trans (e 29 (by omega) (by omega)).symm)⟩, ⟨?_, fun j j0 j1 => ?_, fun j j0 j1 => ?_⟩, ⟨fun z => ?_, fun z => ?_⟩, ⟨(k 16 (by decide)).trans (a16.trans (e 30 (by omega) (by omega)).symm), (k 17 (by decide)).trans (a17.trans (e 31 (by omega) (by omega)).symm), (k 18 (by decide)).trans (a18.trans (e 32 (by omega) (by omega)).symm)⟩, h5.trans (fl_and a5 hp)⟩
  · rw [e0] at j1
    rw [e _ (by omega) (by omega)]
    exact b1 j j0 j1
  · rw [e0, k 7 (by decide), sumL_cg (g := q) _ (fun j c d => e j (by omega) (by omega))]
    exact ⟨a7, a7l, a7u⟩
  · rw [e16, if_neg (by decide), if_pos rfl]
    exact h11
  · rw [k 13 (by decide)]; exact a13
  · rw [k 13 (by decide)] at j1
    rw [e _ (by omega) (by omega), e _ (by omega) (by omega)]
    exact d1 j j0 j1
  · rw [k 13 (by decide)] at j0
    rw [e _ (by omega) (by omega)]
    exact d2 j j0 j1
  · rw [k 15 (by decide), e 28 (by omega) (by omega)]
    exact p1 ((e 19 (by omega) (by omega)).symm.trans z)
  · rw [k 15 (by decide), reps_cg (g := q) (fun j c d => e j (by omega) (by omega))]
    have p := p2 (fun y => z ((e 19 (by omega) (by omega)).trans y))
    exact ⟨p.1, fun y => p.2 (hp.mp y).1⟩
theorem rdC_leapi {q : Nat → Int32} {g : Bool} {A A1 : Nat → Int32} {B B1 : Nat → Nat → Int32} {v x : Int32} (h : rdC q g A B) (h16 : q 16 = 0) (k : kpI [3, 4, 5, 9, 10, 11] A A1) (kr : B1 = B) (h9 : A1 9 = 2) (h10 : A1 10 = v) (h11 : A1 11 = x) (h5 : A1 5 = if 1 ≤ x.toInt ∧ x.toInt ≤ 60 then (if 1 ≤ v.toInt ∧ v.toInt ≤ (q 0).toInt then A 5 else 0) else 0) : rdC (upd (upd (upd q 16 2) 17 v) 18 x) g A1 B1 := by
  obtain ⟨⟨hq0, a6⟩, b1, ⟨a7, a7l, a7u⟩, ⟨a8, a9, a10, a11⟩, ⟨a12, a14⟩, ⟨a13, d1, d2⟩, ⟨p1, p2⟩, ⟨a16, a17, a18⟩, a5⟩ := h
  subst kr
  have e : ∀ j : Nat, (j < 16 ∨ 18 < j) → upd (upd (upd q 16 2) 17 v) 18 x j = q j := fun j h1 => (upd_n _ _ (by omega)).trans ((upd_n _ _ (by omega)).trans (upd_n _ _ (by omega)))
  have e16 : upd (upd (upd q 16 2) 17 v) 18 x 16 = 2 := (upd_n _ _ (by decide)).trans ((upd_n _ _ (by decide)).trans (upd_s _ _ _))
  have e17 : upd (upd (upd q 16 2) 17 v) 18 x 17 = v := (upd_n _ _ (by decide)).trans (upd_s _ _ _)
  have e18 : upd (upd (upd q 16 2) 17 v) 18 x 18 = x := upd_s _ _ _
  have hp := pW_leapi (g := g) (v := v) (x := x) hq0.2 h16
  have e0 := e 0 (by omega)
  have h5' : A1 5 = bI (pWB (rowQ (upd (upd (upd q 16 2) 17 v) 18 x)) g) := by
    rw [h5]
    by_cases c1 : 1 ≤ v.toInt ∧ v.toInt ≤ (q 0).toInt
    · rw [if_pos c1]
      exact fl_and a5 (hp.trans ⟨fun z => ⟨z.1.1, z.2⟩, fun z => ⟨⟨z.1, c1⟩, z.2⟩⟩)
    · rw [if_neg c1]
      exact fl_and (p := false) rfl (hp.trans ⟨fun z => absurd z.1.2 c1, fun z => by cases z.1⟩)
  refine ⟨⟨by rw [e0]; exact hq0, (k 6 (by decide)).trans (a6.trans e0.symm)⟩, fun j j0 j1 => ?_, ?_, ⟨(k 8 (by decide)).trans (a8.trans (e 15 (by omega)).symm), h9.trans e16.symm, fun z => h10.trans e17.symm, ?_⟩, ⟨(k 12 (by decide)).trans (a12.trans (e 19 (by omega)).symm), (k 14 (by decide)).trans (a14.trans (e 29 (by omega)).symm)⟩, ⟨?_, fun j j0 j1 => ?_, fun j j0 j1 => ?_⟩, ⟨fun z => ?_, fun z => ?_⟩, ⟨(k 16 (by decide)).trans (a16.trans (e 30 (by omega)).symm), (k 17 (by decide)).trans (a17.trans (e 31 (by omega)).symm), (k 18 (by decide)).trans (a18.trans (e 32 (by omega)).symm)⟩, h5'⟩
  · rw [e0] at j1
    rw [e _ (by omega)]
    exact b1 j j0 j1
  · rw [e0, k 7 (by decide), sumL_cg (g := q) _ (fun j c d => e j (by omega))]
    exact ⟨a7, a7l, a7u⟩
  · rw [e16, if_neg (by decide), if_neg (by decide), e18]
    exact h11
  · rw [k 13 (by decide)]; exact a13
  · rw [k 13 (by decide)] at j1
    rw [e _ (by omega), e _ (by omega)]
    exact d1 j j0 j1
  · rw [k 13 (by decide)] at j0
    rw [e _ (by omega)]
    exact d2 j j0 j1
  · rw [k 15 (by decide), e 28 (by omega)]
    exact p1 ((e 19 (by omega)).symm.trans z)
  · rw [k 15 (by decide), reps_cg (g := q) (fun j c d => e j (by omega))]
    have p := p2 (fun y => z ((e 19 (by omega)).trans y))
    exact ⟨p.1, fun y => p.2 (hp.mp y).1.1⟩
theorem rdC_rule1 {q : Nat → Int32} {g : Bool} {A A1 : Nat → Int32} {B : Nat → Nat → Int32} (h : rdC q g A B) (h19 : q 19 = 0) (hz : ∀ j : Nat, j < 4 → q (24 + j) = 0) (k : kpI [12] A A1) (h12 : A1 12 = 1) : rdC (upd q 19 1) g A1 B := by
  obtain ⟨⟨hq0, a6⟩, b1, ⟨a7, a7l, a7u⟩, ⟨a8, a9, a10, a11⟩, ⟨a12, a14⟩, ⟨a13, d1, d2⟩, ⟨p1, p2⟩, ⟨a16, a17, a18⟩, a5⟩ := h
  have e : ∀ j : Nat, j ≠ 19 → upd q 19 1 j = q j := fun j h1 => upd_n _ _ h1
  have hp := pW_rule1 (g := g) hq0.2 h19 hz
  have hr := rep_rule1 h19 hz
  have e0 := e 0 (by omega)
  refine ⟨⟨by rw [e0]; exact hq0, (k 6 (by decide)).trans (a6.trans e0.symm)⟩, fun j j0 j1 => ?_, ?_, ⟨(k 8 (by decide)).trans (a8.trans (e 15 (by omega)).symm), (k 9 (by decide)).trans (a9.trans (e 16 (by omega)).symm), fun z => ?_, ?_⟩, ⟨h12.trans (upd_s _ _ _).symm, (k 14 (by decide)).trans (a14.trans (e 29 (by omega)).symm)⟩, ⟨?_, fun j j0 j1 => ?_, fun j j0 j1 => ?_⟩, ⟨fun z => ?_, fun z => ?_⟩, ⟨(k 16 (by decide)).trans (a16.trans (e 30 (by omega)).symm), (k 17 (by decide)).trans (a17.trans (e 31 (by omega)).symm), (k 18 (by decide)).trans (a18.trans (e 32 (by omega)).symm)⟩, (k 5 (by decide)).trans (a5.trans (congrArg bI hp.symm))⟩
  · rw [e0] at j1
    rw [e _ (by omega)]
    exact b1 j j0 j1
  · rw [e0, k 7 (by decide), sumL_cg (g := q) _ (fun j c d => e j (by omega))]
    exact ⟨a7, a7l, a7u⟩
  · rw [k 10 (by decide), e 17 (by omega)]
    exact a10 (fun y => z ((e 16 (by omega)).trans y))
  · rw [k 11 (by decide), a11, e 16 (by omega), e 18 (by omega)]
  · rw [k 13 (by decide)]; exact a13
  · rw [k 13 (by decide)] at j1
    rw [e _ (by omega), e _ (by omega)]
    exact d1 j j0 j1
  · rw [k 13 (by decide)] at j0
    rw [e _ (by omega)]
    exact d2 j j0 j1
  · rw [upd_s] at z; exact absurd z (by decide)
  · rw [k 15 (by decide), hr.1, hp]
    have p := p2 (by rw [h19]; decide)
    rw [hr.2] at p
    exact p
theorem rdC_div {q : Nat → Int32} {g : Bool} {A A1 : Nat → Int32} {B B1 : Nat → Nat → Int32} {v s x : Int32} {n : Nat} (h : rdC q g A B) (h19 : q 19 = 1) (hn : (A 13).toInt = n) (hn1 : n < 4) (hs : (s = 1 ∧ x = 1) ∨ (s = -1 ∧ x = 0)) (k : kpI [3, 4, 5, 13, 15] A A1) (kr : B1 = va_up (va_up B 2 (upd (B 2) n v)) 3 (upd (B 3) n x)) (h13 : (A1 13).toInt = n + 1)
    (h5 : A1 5 = if (1 ≤ v.toInt ∧ v.toInt ≤ 400) ∧ lcmI (A 15).toInt v.toInt ≤ 1000 then A 5 else 0) (h15 : (A1 15).toInt = if (1 ≤ v.toInt ∧ v.toInt ≤ 400) ∧ lcmI (A 15).toInt v.toInt ≤ 1000 then lcmI (A 15).toInt v.toInt else (A 15).toInt) : rdC (upd (upd q (20 + n) v) (24 + n) s) g A1 B1 := by
  obtain ⟨⟨hq0, a6⟩, b1, ⟨a7, a7l, a7u⟩, ⟨a8, a9, a10, a11⟩, ⟨a12, a14⟩, ⟨a13, d1, d2⟩, ⟨p1, p2⟩, ⟨a16, a17, a18⟩, a5⟩ := h
  have e : ∀ j : Nat, j ≠ 20 + n → j ≠ 24 + n → upd (upd q (20 + n) v) (24 + n) s j = q j := fun j a c => (upd_n _ _ c).trans (upd_n _ _ a)
  have es : upd (upd q (20 + n) v) (24 + n) s (24 + n) = s := upd_s _ _ _
  have ev : upd (upd q (20 + n) v) (24 + n) s (20 + n) = v := (upd_n _ _ (by omega)).trans (upd_s _ _ _)
  have hs0 : s ≠ 0 := by rcases hs with z | z <;> rw [z.1] <;> decide
  have hz : ∀ j : Nat, n ≤ j → j < 4 → q (24 + j) = 0 := fun j a c => by
    have := d2 j (by omega) (by omega)
    rw [show (24 + (j : Int)).toNat = 24 + j by omega] at this
    exact this
  have h19' : (q 19).toInt = 1 := congrArg Int32.toInt h19
  have pp := p2 (by rw [h19]; decide)
  have hp := pW_div (g := g) (v := v) (s := s) hq0.2 h19' hn1 hz hs0
  have hp2 : pWB (rowQ (upd (upd q (20 + n) v) (24 + n) s)) g = true ↔ pWB (rowQ q) g = true ∧ ((1 ≤ v.toInt ∧ v.toInt ≤ 400) ∧ lcmI (A 15).toInt v.toInt ≤ 1000) := by
    rw [hp]
    constructor
    · rintro ⟨y, z⟩; exact ⟨y, by rw [pp.2 y]; exact z⟩
    · rintro ⟨y, z⟩; exact ⟨y, by rw [← pp.2 y]; exact z⟩
  have hB1 : B1 1 = B 1 := by rw [kr]; exact (va_up_ne _ _ (by decide)).trans (va_up_ne _ _ (by decide))
  have hB2 : B1 2 = upd (B 2) n v := by rw [kr]; exact (va_up_ne _ _ (by decide)).trans (va_up_self _ _ _)
  have hB3 : B1 3 = upd (B 3) n x := by rw [kr]; exact va_up_self _ _ _
  have e0 := e 0 (by omega) (by omega)
  have e19 := e 19 (by omega) (by omega)
  refine ⟨⟨by rw [e0]; exact hq0, (k 6 (by decide)).trans (a6.trans e0.symm)⟩, fun j j0 j1 => ?_, ?_, ⟨(k 8 (by decide)).trans (a8.trans (e 15 (by omega) (by omega)).symm), (k 9 (by decide)).trans (a9.trans (e 16 (by omega) (by omega)).symm), fun z => ?_, ?_⟩, ⟨(k 12 (by decide)).trans (a12.trans e19.symm), (k 14 (by decide)).trans (a14.trans (e 29 (by omega) (by omega)).symm)⟩, ⟨?_, fun j j0 j1 => ?_, fun j j0 j1 => ?_⟩, ⟨fun z => ?_, fun z => ?_⟩, ⟨(k 16 (by decide)).trans (a16.trans (e 30 (by omega) (by omega)).symm), (k 17 (by decide)).trans (a17.trans (e 31 (by omega) (by omega)).symm), (k 18 (by decide)).trans (a18.trans (e 32 (by omega) (by omega)).symm)⟩, h5.trans (fl_and a5 hp2)⟩
  · rw [e0] at j1
    rw [hB1, e _ (by omega) (by omega)]
    exact b1 j j0 j1
  · rw [e0, k 7 (by decide), sumL_cg (g := q) _ (fun j c d => e j (by omega) (by omega))]
    exact ⟨a7, a7l, a7u⟩
  · rw [k 10 (by decide), e 17 (by omega) (by omega)]
    exact a10 (fun y => z ((e 16 (by omega) (by omega)).trans y))
  · rw [k 11 (by decide), a11, e 16 (by omega) (by omega), e 18 (by omega) (by omega)]
  · omega
  · rw [hB2, hB3]
    rcases (show j = n ∨ j < n by omega) with z | z
    · rw [show j.toNat = n by omega, show (20 + j).toNat = 20 + n by omega, show (24 + j).toNat = 24 + n by omega, es, ev, upd_s, upd_s]
      exact ⟨rfl, hs⟩
    · rw [e (20 + j).toNat (by omega) (by omega), e (24 + j).toNat (by omega) (by omega), upd_n (B 2) _ (by omega), upd_n (B 3) _ (by omega)]
      exact d1 j j0 (by omega)
  · rw [e _ (by omega) (by omega)]
    exact d2 j (by omega) j1
  · rw [e19, h19] at z; exact absurd z (by decide)
  · rw [h15]
    by_cases c : (1 ≤ v.toInt ∧ v.toInt ≤ 400) ∧ lcmI (A 15).toInt v.toInt ≤ 1000
    · rw [if_pos c]
      have hg := gcd_ge (x := (A 15).toInt) (y := v.toInt) (by omega) (by omega)
      refine ⟨⟨hg, c.2⟩, fun y => ?_⟩
      have y1 := hp2.mp y
      have y2 := pWB_iff.mp y1.1
      have y3 := pp.2 y1.1
      rw [rep_div h19' hn1 hz hs0 y2.2.2.2.1 c.1, if_neg (by omega), ← y3, if_neg (by omega)]
    · rw [if_neg c]
      exact ⟨pp.1, fun y => absurd (hp2.mp y).2 c⟩
theorem rdC_cyc {q : Nat → Int32} {A A1 : Nat → Int32} {B B1 : Nat → Nat → Int32} {v : Int32} (h : rdC q false A B) (h19 : q 19 = 0) (k : kpI [3, 4, 5, 12, 15] A A1) (kr : B1 = B) (h12 : A1 12 = 2) (h15 : A1 15 = v) (h5 : A1 5 = if 1 ≤ v.toInt ∧ v.toInt ≤ 30 then A 5 else 0) : rdC (upd (upd q 19 2) 28 v) false A1 B1 := by
  obtain ⟨⟨hq0, a6⟩, b1, ⟨a7, a7l, a7u⟩, ⟨a8, a9, a10, a11⟩, ⟨a12, a14⟩, ⟨a13, d1, d2⟩, ⟨p1, p2⟩, ⟨a16, a17, a18⟩, a5⟩ := h
  subst kr
  have e : ∀ j : Nat, j ≠ 19 → j ≠ 28 → upd (upd q 19 2) 28 v j = q j := fun j h1 h2 => (upd_n _ _ h2).trans (upd_n _ _ h1)
  have e19 : upd (upd q 19 2) 28 v 19 = 2 := (upd_n _ _ (by decide)).trans (upd_s _ _ _)
  have hp := pW_cyc (v := v) hq0.2 h19
  have e0 := e 0 (by omega) (by omega)
  refine ⟨⟨by rw [e0]; exact hq0, (k 6 (by decide)).trans (a6.trans e0.symm)⟩, fun j j0 j1 => ?_, ?_, ⟨(k 8 (by decide)).trans (a8.trans (e 15 (by omega) (by omega)).symm), (k 9 (by decide)).trans (a9.trans (e 16 (by omega) (by omega)).symm), fun z => ?_, ?_⟩, ⟨h12.trans e19.symm, (k 14 (by decide)).trans (a14.trans (e 29 (by omega) (by omega)).symm)⟩, ⟨?_, fun j j0 j1 => ?_, fun j j0 j1 => ?_⟩, ⟨fun z => h15.trans (upd_s _ _ _).symm, fun z => absurd e19 z⟩, ⟨(k 16 (by decide)).trans (a16.trans (e 30 (by omega) (by omega)).symm), (k 17 (by decide)).trans (a17.trans (e 31 (by omega) (by omega)).symm), (k 18 (by decide)).trans (a18.trans (e 32 (by omega) (by omega)).symm)⟩, h5.trans (fl_and a5 hp)⟩
  · rw [e0] at j1
    rw [e _ (by omega) (by omega)]
    exact b1 j j0 j1
  · rw [e0, k 7 (by decide), sumL_cg (g := q) _ (fun j c d => e j (by omega) (by omega))]
    exact ⟨a7, a7l, a7u⟩
  · rw [k 10 (by decide), e 17 (by omega) (by omega)]
    exact a10 (fun y => z ((e 16 (by omega) (by omega)).trans y))
  · rw [k 11 (by decide), a11, e 16 (by omega) (by omega), e 18 (by omega) (by omega)]
  · rw [k 13 (by decide)]; exact a13
  · rw [k 13 (by decide)] at j1
    rw [e _ (by omega) (by omega), e _ (by omega) (by omega)]
    exact d1 j j0 j1
  · rw [k 13 (by decide)] at j0
    rw [e _ (by omega) (by omega)]
    exact d2 j j0 j1
theorem rdC_rem {q : Nat → Int32} {g : Bool} {A A1 : Nat → Int32} {B B1 : Nat → Nat → Int32} {v : Int} (h : rdC q g A B) (h19 : q 19 = 2) (k : kpI [3, 4, 5, 14] A A1) (kr : B1 = B) (hv : 0 ≤ v ∧ v ≤ 999999) (h14 : A1 14 = if v < 30 then A 14 ||| ((1 : Int32) <<< (i3 v &&& 31)) else A 14) (h5 : A1 5 = if 0 ≤ v ∧ v ≤ (q 28).toInt - 1 then A 5 else 0) : rdC (sRem1 q v) (g || decide ((q 28).toInt ≤ v)) A1 B1 := by
  obtain ⟨⟨hq0, a6⟩, b1, ⟨a7, a7l, a7u⟩, ⟨a8, a9, a10, a11⟩, ⟨a12, a14⟩, ⟨a13, d1, d2⟩, ⟨p1, p2⟩, ⟨a16, a17, a18⟩, a5⟩ := h
  subst kr
  have e : ∀ j : Nat, j ≠ 29 → sRem1 q v j = q j := fun j h1 => by
    unfold sRem1
    split
    · exact upd_n _ _ h1
    · rfl
  have e29 : sRem1 q v 29 = if v < 30 then q 29 ||| ((1 : Int32) <<< (i3 v &&& 31)) else q 29 := by
    unfold sRem1
    by_cases c : v < 30
    · rw [if_pos c, if_pos c]; exact upd_s _ _ _
    · rw [if_neg c, if_neg c]
  have hp := pW_rem (g := g) hq0.2 h19 e hv.1
  have e0 := e 0 (by omega)
  refine ⟨⟨by rw [e0]; exact hq0, (k 6 (by decide)).trans (a6.trans e0.symm)⟩, fun j j0 j1 => ?_, ?_, ⟨(k 8 (by decide)).trans (a8.trans (e 15 (by omega)).symm), (k 9 (by decide)).trans (a9.trans (e 16 (by omega)).symm), fun z => ?_, ?_⟩, ⟨(k 12 (by decide)).trans (a12.trans (e 19 (by omega)).symm), by rw [h14, e29, a14]⟩, ⟨?_, fun j j0 j1 => ?_, fun j j0 j1 => ?_⟩, ⟨fun z => ?_, fun z => absurd ((e 19 (by omega)).trans h19) z⟩, ⟨(k 16 (by decide)).trans (a16.trans (e 30 (by omega)).symm), (k 17 (by decide)).trans (a17.trans (e 31 (by omega)).symm), (k 18 (by decide)).trans (a18.trans (e 32 (by omega)).symm)⟩, h5.trans (fl_and a5 hp)⟩
  · rw [e0] at j1
    rw [e _ (by omega)]
    exact b1 j j0 j1
  · rw [e0, k 7 (by decide), sumL_cg (g := q) _ (fun j c d => e j (by omega))]
    exact ⟨a7, a7l, a7u⟩
  · rw [k 10 (by decide), e 17 (by omega)]
    exact a10 (fun y => z ((e 16 (by omega)).trans y))
  · rw [k 11 (by decide), a11, e 16 (by omega), e 18 (by omega)]
  · rw [k 13 (by decide)]; exact a13
  · rw [k 13 (by decide)] at j1
    rw [e _ (by omega), e _ (by omega)]
    exact d1 j j0 j1
  · rw [k 13 (by decide)] at j0
    rw [e _ (by omega)]
    exact d2 j j0 j1
  · rw [k 15 (by decide), e 28 (by omega)]
    exact p1 h19
theorem rdC_weeks {q : Nat → Int32} {g : Bool} {A A1 : Nat → Int32} {B B1 : Nat → Nat → Int32} {u v x : Int32} (h : rdC q g A B) (h30 : q 30 = 7) (h31 : q 31 = 0) (h32 : q 32 = 4) (k : kpI [3, 4, 5, 16, 17, 18] A A1) (kr : B1 = B) (hv : 0 ≤ v.toInt) (h16 : A1 16 = u) (h17 : A1 17 = v) (h18 : A1 18 = x) (h5 : A1 5 = if 1 ≤ x.toInt ∧ x.toInt ≤ u.toInt then (if 0 ≤ v.toInt ∧ v.toInt ≤ u.toInt - 1 then (if 2 ≤ u.toInt ∧ u.toInt ≤ 10 then A 5 else 0) else 0) else 0) : rdC (upd (upd (upd q 30 u) 31 v) 32 x) g A1 B1 := by
  obtain ⟨⟨hq0, a6⟩, b1, ⟨a7, a7l, a7u⟩, ⟨a8, a9, a10, a11⟩, ⟨a12, a14⟩, ⟨a13, d1, d2⟩, ⟨p1, p2⟩, ⟨a16, a17, a18⟩, a5⟩ := h
  subst kr
  have e : ∀ j : Nat, j < 30 → upd (upd (upd q 30 u) 31 v) 32 x j = q j := fun j h => (upd_n _ _ (by omega)).trans ((upd_n _ _ (by omega)).trans (upd_n _ _ (by omega)))
  have e30 : upd (upd (upd q 30 u) 31 v) 32 x 30 = u := (upd_n _ _ (by decide)).trans ((upd_n _ _ (by decide)).trans (upd_s _ _ _))
  have e31 : upd (upd (upd q 30 u) 31 v) 32 x 31 = v := (upd_n _ _ (by decide)).trans (upd_s _ _ _)
  have hp := pW_weeks (g := g) (u := u) (v := v) (x := x) hq0.2 h30 h31 h32
  have e0 := e 0 (by omega)
  have h5' : A1 5 = bI (pWB (rowQ (upd (upd (upd q 30 u) 31 v) 32 x)) g) := by
    rw [h5]
    have f1 : (if 2 ≤ u.toInt ∧ u.toInt ≤ 10 then A 5 else 0) = bI (pWB (rowQ q) g && decide (2 ≤ u.toInt ∧ u.toInt ≤ 10)) := fl_and a5 (by rw [Bool.and_eq_true, decide_eq_true_iff])
    have f2 := fl_and (c := 0 ≤ v.toInt ∧ v.toInt ≤ u.toInt - 1) (p' := (pWB (rowQ q) g && decide (2 ≤ u.toInt ∧ u.toInt ≤ 10)) && decide (0 ≤ v.toInt ∧ v.toInt ≤ u.toInt - 1)) f1 (by rw [Bool.and_eq_true, decide_eq_true_iff])
    refine fl_and f2 (hp.trans ?_)
    rw [Bool.and_eq_true, Bool.and_eq_true, decide_eq_true_iff, decide_eq_true_iff]
    constructor
    · rintro ⟨⟨⟨a, c⟩, d⟩, f⟩; exact ⟨⟨⟨a, c⟩, ⟨hv, by omega⟩⟩, f⟩
    · rintro ⟨⟨⟨a, c⟩, d⟩, f⟩; exact ⟨⟨⟨a, c⟩, by omega⟩, f⟩
  refine ⟨⟨by rw [e0]; exact hq0, (k 6 (by decide)).trans (a6.trans e0.symm)⟩, fun j j0 j1 => ?_, ?_, ⟨(k 8 (by decide)).trans (a8.trans (e 15 (by omega)).symm), (k 9 (by decide)).trans (a9.trans (e 16 (by omega)).symm), fun z => ?_, ?_⟩, ⟨(k 12 (by decide)).trans (a12.trans (e 19 (by omega)).symm), (k 14 (by decide)).trans (a14.trans (e 29 (by omega)).symm)⟩, ⟨?_, fun j j0 j1 => ?_, fun j j0 j1 => ?_⟩, ⟨fun z => ?_, fun z => ?_⟩, ⟨h16.trans e30.symm, h17.trans e31.symm, h18.trans (upd_s _ _ _).symm⟩, h5'⟩
  · rw [e0] at j1
    rw [e _ (by omega)]
    exact b1 j j0 j1
  · rw [e0, k 7 (by decide), sumL_cg (g := q) _ (fun j c d => e j (by omega))]
    exact ⟨a7, a7l, a7u⟩
  · rw [k 10 (by decide), e 17 (by omega)]
    exact a10 (fun y => z ((e 16 (by omega)).trans y))
  · rw [k 11 (by decide), a11, e 16 (by omega), e 18 (by omega)]
  · rw [k 13 (by decide)]; exact a13
  · rw [k 13 (by decide)] at j1
    rw [e _ (by omega), e _ (by omega)]
    exact d1 j j0 j1
  · rw [k 13 (by decide)] at j0
    rw [e _ (by omega)]
    exact d2 j j0 j1
  · rw [k 15 (by decide), e 28 (by omega)]
    exact p1 ((e 19 (by omega)).symm.trans z)
  · rw [k 15 (by decide), reps_cg (g := q) (fun j c d => e j (by omega))]
    have p := p2 (fun y => z ((e 19 (by omega)).trans y))
    exact ⟨p.1, fun y => p.2 (hp.mp y).1.1.1⟩
/-- the first row -/
theorem rdC_0 {A : Nat → Int32} {B : Nat → Nat → Int32} (h5 : A 5 = 1) (h6 : A 6 = 0) (h7 : A 7 = 0) (h8 : A 8 = 0) (h9 : A 9 = 0) (h11 : A 11 = 0) (h12 : A 12 = 0) (h13 : A 13 = 0) (h14 : A 14 = 0) (h15 : A 15 = 1) (h16 : A 16 = 7) (h17 : A 17 = 0) (h18 : A 18 = 4) : rdC row0 false A B := by
  have r : reps (rowQ row0) = 1 := by unfold reps; rw [if_neg (by decide), if_neg (by decide)]
  have hp : pWB (rowQ row0) false = true := by
    rw [pWB_iff]
    refine ⟨fun k k0 k1 => ?_, by unfold pE; decide, pL_0 rfl, fun k k0 k1 k2 => ?_, fun z => absurd z (by decide), by rw [r]; decide, by unfold pK; decide⟩
    · have : rv (rowQ row0) 0 = 0 := rfl
      omega
    · exfalso
      apply k2
      rw [rowQ_v (by omega)]
      unfold row0
      rw [if_neg (by omega), if_neg (by omega)]
      rfl
  refine ⟨⟨by decide, h6⟩, fun j j0 j1 => ?_, ⟨by rw [h7]; rfl, by rw [h7]; decide, by rw [h7]; decide⟩, ⟨h8, h9, fun z => absurd rfl z, by rw [h11]; rfl⟩, ⟨h12, h14⟩, ⟨by rw [h13]; decide, fun j j0 j1 => ?_, fun j j0 j1 => ?_⟩, ⟨fun z => absurd z (by decide), fun _ => ⟨by rw [h15]; decide, fun _ => by rw [h15, r]; rfl⟩⟩, ⟨h16, h17, h18⟩, by rw [h5, hp]; rfl⟩
  · have : (row0 0).toInt = 0 := rfl
    omega
  · rw [h13] at j1
    have : (0 : Int32).toInt = 0 := rfl
    omega
  · rw [h13] at j0
    have : (0 : Int32).toInt = 0 := rfl
    unfold row0
    rw [if_neg (by omega), if_neg (by omega)]
