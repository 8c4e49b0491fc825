/-! changes: what is kept, taken back, put in -/
section KP
variable {t : Nat → ClassId} {b : Nat} {σ φ φ1 : qM} {A A1 A2 : Nat → Int32} {B B1 : Nat → Nat → Int32} {P P1 P2 : Nat → Nat → Option Nat} {I I1 : Nat → Int32} {R R1 : Nat → Nat → Int32} {pm : Nat → Nat} {f F F1 c fe : Nat → Int32} {w j : Nat} {nc nf : Int32}
theorem bkW_off (h : j < w ∨ w + 248 ≤ j) : bkW f w c fe nc nf j = f j := by
  unfold bkW
  rw [upd_n _ _ (by omega), upd_n _ _ (by omega)]
  unfold cpy
  rw [if_neg (by omega), if_neg (by omega)]
theorem bkW_c (h : j < 198) : bkW f w c fe nc nf (w + j) = c j := by
  unfold bkW
  rw [upd_n _ _ (by omega), upd_n _ _ (by omega)]
  unfold cpy
  rw [if_neg (by omega), if_pos (by omega), show w + j - w = j by omega]
theorem bkW_f (h : j < 48) : bkW f w c fe nc nf (w + 198 + j) = fe j := by
  unfold bkW
  rw [upd_n _ _ (by omega), upd_n _ _ (by omega)]
  unfold cpy
  rw [if_pos (by omega), show w + 198 + j - (w + 198) = j by omega]
theorem bkW_6 : bkW f w c fe nc nf (w + 246) = nc := by
  unfold bkW
  rw [upd_n _ _ (by omega), upd_s]
theorem bkW_7 : bkW f w c fe nc nf (w + 247) = nf := by
  unfold bkW
  rw [upd_s]
theorem bkS.of {v : Nat} (h : CIs t b φ A P I R) (hc : cpSt A P 0 A1 P1 v) (hφ : ∀ k e, φ k = some e → φ1 k = some e) (e : F1 = bkW f w (R 2) (R 16) (I 5) (I 19)) : bkS t b φ1 A1 P1 v F1 w := by
  obtain ⟨h1, h2, h3, h4, h5⟩ := h
  have q1 : A1 (20 + 2 * v) = F1 (w + 246) := by rw [hc.1, e, bkW_6]; exact h1
  have q2 : A1 (21 + 2 * v) = F1 (w + 247) := by rw [hc.2.1, e, bkW_7]; exact h2
  have h6 := h4.cp hc hφ
  have b1 := h6.1
  refine ⟨q1, q2, by rw [e, bkW_6]; exact h3, h6.rows (fun j j0 j1 => ?_) (fun i i0 i1 => ?_)⟩
  · funext k
    unfold bkRow rowM
    by_cases q : 0 ≤ k ∧ k < 33
    · rw [if_pos q, if_pos q, e, bkW_c (by omega)]
    · rw [if_neg q, if_neg q]
  · funext k
    unfold bkFe feM
    by_cases q : 0 ≤ k ∧ k < 6
    · rw [if_pos q, if_pos q, e, bkW_f (by omega)]
    · rw [if_neg q, if_neg q]
theorem CIh.keep (hs : CIs t b φ A P I R) (h : CIh t b φ A P I R pm) (hk : keP A P pm 0 A1 P1) (hφ : ∀ k e, φ k = some e → φ1 k = some e) (e28 : (I1 28).toInt = remC (I 28).toInt + 1) (r26 : R1 26 = remR I R) : ∃ pm', CIh t b φ1 A1 P1 I1 R1 pm' := by
  obtain ⟨pm', k1, k2, k3, k4, k5, k6⟩ := hk
  obtain ⟨h1, h2, h3, h4⟩ := h
  have e19 : (A 19).toInt = (I 28).toInt := congrArg Int32.toInt h2
  rw [e19] at k4
  have hc1 : (I1 28).toInt = (if (I 28).toInt < 6 then (I 28).toInt + 1 else 6) := by
    rw [e28]
    unfold remC
    split <;> split <;> omega
  have e1 : A1 19 = I1 28 := Int32.toInt_inj.mp (by rw [k4, hc1])
  have e2 : (A1 19).toInt = (I1 28).toInt := congrArg Int32.toInt e1
  refine ⟨pm', k1, e1, by rw [hc1]; split <;> omega, fun i hi => ?_⟩
  rw [r26]
  by_cases q : (i : Int) + 1 = (I1 28).toInt
  · have hw : 262 * i = (262 * remC (I 28).toInt).toNat := by
      rw [e28] at q
      omega
    have hp : ((A1 19).toInt - 1).toNat = i := by rw [e2]; omega
    rw [hp] at k5
    exact bkS.of hs k5 hφ (f := remF (R 26) (I 28).toInt) (by unfold remR; rw [hw])
  · have k7 := k6 i (by omega)
    rw [e19] at k7
    by_cases q6 : (I 28).toInt < 6
    · rw [if_pos q6] at k7 hc1
      have hr : remC (I 28).toInt = (I 28).toInt := by
        unfold remC
        rw [if_neg (by omega)]
      refine (h4 i (by omega)).cp k7 hφ (fun j hj => ?_)
      unfold remR
      rw [bkW_off (by rw [hr]; omega)]
      unfold remF
      rw [if_neg (by omega)]
    · rw [if_neg q6] at k7 hc1
      have i6 : (I 28).toInt = 6 := by omega
      have hr : remC (I 28).toInt = 5 := by
        unfold remC
        rw [if_pos i6]
      refine (h4 (i + 1) (by omega)).cp k7 hφ (fun j hj => ?_)
      unfold remR
      rw [bkW_off (by rw [hr]; omega)]
      unfold remF shN
      rw [if_pos i6, if_pos (by omega)]
      congr 1
      omega
theorem rowM_rdr {S : Nat → Nat → Int32} {g : Nat → Int32} (h : S 2 = rdr g F w 198) {ca : Int} (h0 : 0 ≤ ca) (h1 : ca < 6) : rowM S ca = bkRow F w ca := by
  funext k
  unfold rowM bkRow
  by_cases q : 0 ≤ k ∧ k < 33
  · rw [if_pos q, if_pos q, h]
    unfold rdr
    rw [if_pos (by omega)]
  · rw [if_neg q, if_neg q]
theorem feM_rdr {S : Nat → Nat → Int32} {g : Nat → Int32} (h : S 16 = rdr g F (w + 198) 48) {i : Int} (h0 : 0 ≤ i) (h1 : i < 8) : feM S i = bkFe F w i := by
  funext k
  unfold feM bkFe
  by_cases q : 0 ≤ k ∧ k < 6
  · rw [if_pos q, if_pos q, h]
    unfold rdr
    rw [if_pos (by omega)]
  · rw [if_neg q, if_neg q]
theorem CIs.rest {u : Nat} (hb : bkS t b φ A P u F w) (hc : cpSt A P u A1 P1 0) (hφ : ∀ k e, φ k = some e → φ1 k = some e) (hr : restP F w R I1 R1) : CIs t b φ1 A1 P1 I1 R1 := by
  obtain ⟨b1, b2, b3, b4⟩ := hb
  obtain ⟨r1, r2, r3, r4, r5⟩ := hr
  have h6 := b4.cp hc hφ
  have k1 := h6.1
  have q1 : A1 20 = I1 5 := by rw [show A1 20 = A (20 + 2 * u) from hc.1, b1, r3]
  have q2 : A1 21 = I1 19 := by rw [show A1 21 = A (21 + 2 * u) from hc.2.1, b2, r4]
  refine ⟨q1, q2, by rw [r3]; exact b3, h6.rows (fun j j0 j1 => rowM_rdr r1 j0 (by omega)) (fun i i0 i1 => feM_rdr r2 i0 (by omega)), fun c c0 c1 => r5 c c0 (by rw [← r3]; exact c1)⟩
/-- a calendar put in -/
theorem CIs.set {ca : Int} {v : Int32} {q : Nat} (hs : CIs t b φ A P I R) (hφ : ∀ k e, φ k = some e → φ1 k = some e) (a20 : A2 20 = A 20) (a21 : A2 21 = A 21) (p1 : P2 1 = P 1) (p2 : P2 2 = P 2)
    (hA : A1 = va_up A2 20 v) (hv : v.toInt = (if (A 20).toInt < ca + 1 then ca + 1 else (A 20).toInt)) (hP : P1 = va_up P2 1 (va_up (P2 1) ca.toNat (some q))) (hq : CalQ t b φ1 (some q) (rowM R1 ca))
    (hca : 0 ≤ ca ∧ ca ≤ (if (I 5).toInt < 6 then (I 5).toInt else 5)) (i5 : (I1 5).toInt = (if ca = (I 5).toInt then (I 5).toInt + 1 else (I 5).toInt)) (i19 : I1 19 = I 19) (r2 : ∀ j : Nat, ((j : Int) < 33 * ca ∨ 33 * ca + 33 ≤ (j : Int)) → R1 2 j = R 2 j)
    (r4 : ∀ j : Nat, ((j : Int) < 4042 * ca ∨ 4042 * ca + 4042 ≤ (j : Int)) → R1 4 j = R 4 j) (r16 : R1 16 = R 16) (hf : okF R1 ca) : CIs t b φ1 A1 P1 I1 R1 := by
  obtain ⟨h1, h2, h3, ⟨⟨b1, b2⟩, c1, c2, c3⟩, h5⟩ := hs
  have e5 : (A 20).toInt = (I 5).toInt := congrArg Int32.toInt h1
  have e19 : (A 21).toInt = (I 19).toInt := congrArg Int32.toInt h2
  have b1 : 0 ≤ (A 20).toInt ∧ (A 20).toInt ≤ 6 := b1
  have b2 : 0 ≤ (A 21).toInt ∧ (A 21).toInt ≤ 8 := b2
  have c1 : ∀ j : Int, 0 ≤ j → j < (A 20).toInt → CalQ t b φ (P 1 j.toNat) (rowM R j) := c1
  have c2 : ∀ f : Int, 0 ≤ f → f < (A 21).toInt → FeQ φ (P 2 f.toNat) (feM R f) := c2
  have c3 : ∀ f : Int, 0 ≤ f → f < (A 21).toInt → okFe (A 20).toInt f (feM R f) := c3
  have hv2 : v.toInt = (I1 5).toInt := by
    rw [hv, i5, e5]
    obtain ⟨x1, x2⟩ := hca
    split at x2 <;> split <;> split <;> omega
  have hle : (I 5).toInt ≤ (I1 5).toInt ∧ (I1 5).toInt ≤ 6 := by
    rw [i5]
    obtain ⟨x1, x2⟩ := hca
    split at x2 <;> split <;> omega
  have hj : ∀ j : Int, 0 ≤ j → j < (I1 5).toInt → j ≠ ca → j < (I 5).toInt := fun j j0 j1 jn => by
    rw [i5] at j1
    split at j1 <;> omega
  have ev : v = I1 5 := Int32.toInt_inj.mp hv2
  have rm : ∀ j : Int, 0 ≤ j → j ≠ ca → rowM R1 j = rowM R j := fun j j0 jn => by
    funext k
    unfold rowM
    by_cases x : 0 ≤ k ∧ k < 33
    · rw [if_pos x, if_pos x, r2 _ (by omega)]
    · rw [if_neg x, if_neg x]
  have g20 : A1 20 = I1 5 := by rw [hA, va_up_self]; exact ev
  have g21 : A1 21 = I1 19 := by rw [hA, va_up_ne _ _ (by omega), a21, i19]; exact h2
  have g20i : (A1 20).toInt = (I1 5).toInt := congrArg Int32.toInt g20
  have g21i : (A1 21).toInt = (A 21).toInt := by rw [g21, i19, ← h2]
  refine ⟨g20, g21, by omega, ⟨⟨?_, ?_⟩, ?_, ?_, ?_⟩, ?_⟩
  · show 0 ≤ (A1 20).toInt ∧ (A1 20).toInt ≤ 6
    omega
  · show 0 ≤ (A1 21).toInt ∧ (A1 21).toInt ≤ 8
    omega
  · intro j j0 j1
    have j1 : j < (A1 20).toInt := j1
    show CalQ t b φ1 (P1 1 j.toNat) (rowM R1 j)
    rw [hP, va_up_self]
    by_cases x : j = ca
    · rw [x, va_up_self]
      exact hq
    · rw [va_up_ne _ _ (by omega), p1, rm j j0 x]
      exact (c1 j j0 (by have := hj j j0 (by omega) x; omega)).ext hφ
  · intro f f0 f1
    have f1 : f < (A1 21).toInt := f1
    show FeQ φ1 (P1 2 f.toNat) (feM R1 f)
    rw [hP, va_up_ne _ _ (by omega), p2, feM_cg2 r16]
    exact (c2 f f0 (by omega)).ext hφ
  · intro f f0 f1
    have f1 : f < (A1 21).toInt := f1
    show okFe (A1 20).toInt f (feM R1 f)
    rw [feM_cg2 r16]
    exact (c3 f f0 (by omega)).mono (by omega)
  · intro j j0 j1
    by_cases x : j = ca
    · rw [x]
      exact hf
    · have hj1 := hj j j0 j1 x
      intro y y0 y1
      have := h5 j j0 hj1 y y0 y1
      rw [rm j j0 x, r4 _ (by omega)]
      exact this
/-- a feast put behind -/
theorem CIs.add {v a1 a2 a3 a4 a5 a6 : Int32} {q : Nat} (hs : CIs t b φ A P I R) (hφ : ∀ k e, φ k = some e → φ1 k = some e) (a20 : A2 20 = A 20) (p1 : P2 1 = P 1) (p2 : P2 2 = P 2)
    (hA : A1 = va_up A2 21 v) (hv : v.toInt = (A 21).toInt + 1) (hP : P1 = va_up P2 2 (va_up (P2 2) (A 21).toInt.toNat (some q))) (hq : 41 < q ∧ φ1 q = some (.inr (5, [.int a1, .int a2, .int a3, .int a4, .int a5, .int a6])))
    (h8 : (I 19).toInt < 8) (i19 : (I1 19).toInt = (I 19).toInt + 1) (i5 : I1 5 = I 5) (r2 : R1 2 = R 2) (r4 : R1 4 = R 4) (r16 : R1 16 = feW (R 16) (6 * (I 19).toInt).toNat a1 a2 a3 a4 a5 a6)
    (hok : (0 ≤ a2.toInt ∧ a2.toInt ≤ 9) ∧ ((a1.toInt = 0 ∧ (0 ≤ a3.toInt ∧ a3.toInt < (I 5).toInt) ∧ (1 ≤ a4.toInt ∧ a4.toInt ≤ 15) ∧ (1 ≤ a5.toInt ∧ a5.toInt ≤ 60)) ∨ (a1.toInt = 1 ∧ (0 ≤ a3.toInt ∧ a3.toInt < (I 5).toInt) ∧ (1 ≤ a4.toInt ∧ a4.toInt ≤ 15) ∧ ((1 ≤ a5.toInt ∧ a5.toInt ≤ 5) ∨ a5.toInt = -1) ∧ (0 ≤ a6.toInt ∧ a6.toInt ≤ 9)) ∨
      (a1.toInt = 2 ∧ (0 ≤ a3.toInt ∧ a3.toInt < (I 19).toInt) ∧ (-400 ≤ a4.toInt ∧ a4.toInt ≤ 400)) ∨ (a1.toInt = 3 ∧ (0 ≤ a3.toInt ∧ a3.toInt < (I 19).toInt) ∧ (0 ≤ a4.toInt ∧ a4.toInt < (I 5).toInt) ∧ (0 ≤ a5.toInt ∧ a5.toInt ≤ 9)) ∨ (a1.toInt = 4 ∧ (0 ≤ a3.toInt ∧ a3.toInt < (I 19).toInt) ∧ (0 ≤ a4.toInt ∧ a4.toInt < (I 5).toInt) ∧ (1 ≤ a5.toInt ∧ a5.toInt ≤ 60)))) : CIs t b φ1 A1 P1 I1 R1 := by
  obtain ⟨h1, h2, h3, ⟨⟨b1, b2⟩, c1, c2, c3⟩, h5⟩ := hs
  have e5 : (A 20).toInt = (I 5).toInt := congrArg Int32.toInt h1
  have e19 : (A 21).toInt = (I 19).toInt := congrArg Int32.toInt h2
  have b1 : 0 ≤ (A 20).toInt ∧ (A 20).toInt ≤ 6 := b1
  have b2 : 0 ≤ (A 21).toInt ∧ (A 21).toInt ≤ 8 := b2
  have c1 : ∀ j : Int, 0 ≤ j → j < (A 20).toInt → CalQ t b φ (P 1 j.toNat) (rowM R j) := c1
  have c2 : ∀ f : Int, 0 ≤ f → f < (A 21).toInt → FeQ φ (P 2 f.toNat) (feM R f) := c2
  have c3 : ∀ f : Int, 0 ≤ f → f < (A 21).toInt → okFe (A 20).toInt f (feM R f) := c3
  have ev : v = I1 19 := Int32.toInt_inj.mp (by omega)
  have g20 : A1 20 = I1 5 := by rw [hA, va_up_ne _ _ (by omega), a20, i5]; exact h1
  have g21 : A1 21 = I1 19 := by rw [hA, va_up_self]; exact ev
  have g20i : (A1 20).toInt = (I 5).toInt := by rw [g20, i5]
  have g21i : (A1 21).toInt = (I 19).toInt + 1 := by rw [g21, i19]
  have fm : ∀ f : Int, 0 ≤ f → f ≠ (I 19).toInt → feM R1 f = feM R f := fun f f0 fn => by
    funext k
    unfold feM
    by_cases x : 0 ≤ k ∧ k < 6
    · rw [if_pos x, if_pos x, r16]
      unfold feW
      rw [upd_n _ _ (by omega), upd_n _ _ (by omega), upd_n _ _ (by omega), upd_n _ _ (by omega), upd_n _ _ (by omega), upd_n _ _ (by omega)]
    · rw [if_neg x, if_neg x]
  have fn : ∀ k : Int, feM R1 (I 19).toInt k = (if k = 0 then a1 else if k = 1 then a2 else if k = 2 then a3 else if k = 3 then a4 else if k = 4 then a5 else if k = 5 then a6 else 0) := fun k => by
    unfold feM
    by_cases x : 0 ≤ k ∧ k < 6
    · rw [if_pos x, r16]
      unfold feW
      have hk : k = 0 ∨ k = 1 ∨ k = 2 ∨ k = 3 ∨ k = 4 ∨ k = 5 := by omega
      rcases hk with rfl | rfl | rfl | rfl | rfl | rfl
      · rw [upd_n _ _ (by omega), upd_n _ _ (by omega), upd_n _ _ (by omega), upd_n _ _ (by omega), upd_n _ _ (by omega), show (6 * (I 19).toInt + 0).toNat = (6 * (I 19).toInt).toNat by omega, upd_s]
        rfl
      · rw [upd_n _ _ (by omega), upd_n _ _ (by omega), upd_n _ _ (by omega), upd_n _ _ (by omega), show (6 * (I 19).toInt + 1).toNat = (6 * (I 19).toInt).toNat + 1 by omega, upd_s]
        rfl
      · rw [upd_n _ _ (by omega), upd_n _ _ (by omega), upd_n _ _ (by omega), show (6 * (I 19).toInt + 2).toNat = (6 * (I 19).toInt).toNat + 2 by omega, upd_s]
        rfl
      · rw [upd_n _ _ (by omega), upd_n _ _ (by omega), show (6 * (I 19).toInt + 3).toNat = (6 * (I 19).toInt).toNat + 3 by omega, upd_s]
        rfl
      · rw [upd_n _ _ (by omega), show (6 * (I 19).toInt + 4).toNat = (6 * (I 19).toInt).toNat + 4 by omega, upd_s]
        rfl
      · rw [show (6 * (I 19).toInt + 5).toNat = (6 * (I 19).toInt).toNat + 5 by omega, upd_s]
        rfl
    · rw [if_neg x, if_neg (by omega), if_neg (by omega), if_neg (by omega), if_neg (by omega), if_neg (by omega), if_neg (by omega)]
  refine ⟨g20, g21, by rw [i5]; exact h3, ⟨⟨?_, ?_⟩, ?_, ?_, ?_⟩, ?_⟩
  · show 0 ≤ (A1 20).toInt ∧ (A1 20).toInt ≤ 6
    omega
  · show 0 ≤ (A1 21).toInt ∧ (A1 21).toInt ≤ 8
    omega
  · intro j j0 j1
    have j1 : j < (A1 20).toInt := j1
    show CalQ t b φ1 (P1 1 j.toNat) (rowM R1 j)
    rw [hP, va_up_ne _ _ (by omega), p1, rowM_cg2 r2]
    exact (c1 j j0 (by omega)).ext hφ
  · intro f f0 f1
    have f1 : f < (A1 21).toInt := f1
    show FeQ φ1 (P1 2 f.toNat) (feM R1 f)
    rw [hP, va_up_self]
    by_cases x : f = (I 19).toInt
    · rw [show f.toNat = (A 21).toInt.toNat by rw [e19, x], va_up_self, x]
      refine ⟨q, rfl, hq.1, ?_⟩
      rw [show feF (feM R1 (I 19).toInt) = [.int a1, .int a2, .int a3, .int a4, .int a5, .int a6] by unfold feF; rw [fn, fn, fn, fn, fn, fn]; rfl]
      exact hq.2
    · rw [va_up_ne _ _ (by omega), p2, fm f f0 x]
      exact (c2 f f0 (by omega)).ext hφ
  · intro f f0 f1
    have f1 : f < (A1 21).toInt := f1
    show okFe (A1 20).toInt f (feM R1 f)
    rw [g20i]
    by_cases x : f = (I 19).toInt
    · rw [x]
      unfold okFe
      rw [fn, fn, fn, fn, fn, fn]
      exact hok
    · rw [fm f f0 x, ← e5]
      exact c3 f f0 (by omega)
  · intro j j0 j1
    exact okF_cg2 r2 r4 (h5 j j0 (by rw [i5] at j1; exact j1))
/-- the last feast taken away -/
theorem CIs.rem {v : Int32} (hs : CIs t b φ A P I R) (hφ : ∀ k e, φ k = some e → φ1 k = some e) (a20 : A2 20 = A 20) (p1 : P1 1 = P 1) (p2 : P1 2 = P 2)
    (hA : A1 = va_up A2 21 v) (hv : v.toInt = (A 21).toInt - 1) (h0 : 1 ≤ (I 19).toInt) (i19 : (I1 19).toInt = (I 19).toInt - 1) (i5 : I1 5 = I 5) (r2 : R1 2 = R 2) (r4 : R1 4 = R 4) (r16 : R1 16 = R 16) : CIs t b φ1 A1 P1 I1 R1 := by
  obtain ⟨h1, h2, h3, ⟨⟨b1, b2⟩, c1, c2, c3⟩, h5⟩ := hs
  have e5 : (A 20).toInt = (I 5).toInt := congrArg Int32.toInt h1
  have e19 : (A 21).toInt = (I 19).toInt := congrArg Int32.toInt h2
  have b1 : 0 ≤ (A 20).toInt ∧ (A 20).toInt ≤ 6 := b1
  have b2 : 0 ≤ (A 21).toInt ∧ (A 21).toInt ≤ 8 := b2
  have c1 : ∀ j : Int, 0 ≤ j → j < (A 20).toInt → CalQ t b φ (P 1 j.toNat) (rowM R j) := c1
  have c2 : ∀ f : Int, 0 ≤ f → f < (A 21).toInt → FeQ φ (P 2 f.toNat) (feM R f) := c2
  have c3 : ∀ f : Int, 0 ≤ f → f < (A 21).toInt → okFe (A 20).toInt f (feM R f) := c3
  have ev : v = I1 19 := Int32.toInt_inj.mp (by omega)
  have g20 : A1 20 = I1 5 := by rw [hA, va_up_ne _ _ (by omega), a20, i5]; exact h1
  have g21 : A1 21 = I1 19 := by rw [hA, va_up_self]; exact ev
  have g20i : (A1 20).toInt = (I 5).toInt := by rw [g20, i5]
  have g21i : (A1 21).toInt = (I 19).toInt - 1 := by rw [g21, i19]
  refine ⟨g20, g21, by rw [i5]; exact h3, ⟨⟨?_, ?_⟩, ?_, ?_, ?_⟩, ?_⟩
  · show 0 ≤ (A1 20).toInt ∧ (A1 20).toInt ≤ 6
    omega
  · show 0 ≤ (A1 21).toInt ∧ (A1 21).toInt ≤ 8
    omega
  · intro j j0 j1
    have j1 : j < (A1 20).toInt := j1
    show CalQ t b φ1 (P1 1 j.toNat) (rowM R1 j)
    rw [p1, rowM_cg2 r2]
    exact (c1 j j0 (by omega)).ext hφ
  · intro f f0 f1
    have f1 : f < (A1 21).toInt := f1
    show FeQ φ1 (P1 2 f.toNat) (feM R1 f)
    rw [p2, feM_cg2 r16]
    exact (c2 f f0 (by omega)).ext hφ
  · intro f f0 f1
    have f1 : f < (A1 21).toInt := f1
    show okFe (A1 20).toInt f (feM R1 f)
    rw [g20i, feM_cg2 r16, ← e5]
    exact c3 f f0 (by omega)
  · intro j j0 j1
    exact okF_cg2 r2 r4 (h5 j j0 (by rw [i5] at j1; exact j1))
theorem bkS.ok {u : Nat} (h : bkS t b φ A P u F w) : okBk F w := by
  obtain ⟨h1, h2, h3, h4⟩ := h
  have b1 := h4.1
  rw [h1, h2] at b1
  refine ⟨⟨h3, b1.1.2⟩, b1.2, fun c c0 c1 => (h4.row c0 (by rw [h1]; exact c1)).1, fun i i0 i1 => ?_⟩
  have := h4.2.2.2 i i0 (by rw [h2]; exact i1)
  rw [h1] at this
  exact this
end KP
