/-! feasts put in and taken away, changes taken back, states kept and brought back -/
section KU
variable {l : Launch} {D : va_G} {t : Nat → ClassId} {b n : Nat} {σ φ φ1 : qM} {A A1 : Nat → Int32} {B B1 : Nat → Nat → Int32} {P P1 : Nat → Nat → Option Nat} {I I1 : Nat → Int32} {R R1 : Nat → Nat → Int32} {pm : Nat → Nat}
theorem CI.hc0 (h : CI t b φ A B P I R pm) : A 19 = I 28 ∧ (0 ≤ (A 19).toInt ∧ (A 19).toInt ≤ 6) := ⟨h.2.2.2.2.1.2.1, by rw [h.2.2.2.2.1.2.1]; exact h.2.2.2.2.1.2.2.1⟩
theorem add_ok {a1 a2 a3 a4 a5 a6 : Int32} {nc nf : Int} (h : (0 ≤ a1.toInt ∧ a1.toInt ≤ 4) ∧ (0 ≤ a2.toInt ∧ a2.toInt ≤ 9) ∧ ((a1.toInt = 0 ∧ (0 ≤ a3.toInt ∧ a3.toInt < nc) ∧ (1 ≤ a4.toInt ∧ a4.toInt ≤ 15) ∧ (1 ≤ a5.toInt ∧ a5.toInt ≤ 60) ∧ a6.toInt = 0) ∨ (a1.toInt = 1 ∧ (0 ≤ a3.toInt ∧ a3.toInt < nc) ∧ (1 ≤ a4.toInt ∧ a4.toInt ≤ 15) ∧ ((1 ≤ a5.toInt ∧ a5.toInt ≤ 5) ∨ a5.toInt = -1) ∧ (0 ≤ a6.toInt ∧ a6.toInt ≤ 9)) ∨ (a1.toInt = 2 ∧ (0 ≤ a3.toInt ∧ a3.toInt < nf) ∧ (-400 ≤ a4.toInt ∧ a4.toInt ≤ 400) ∧ a5.toInt = 0 ∧ a6.toInt = 0) ∨ (a1.toInt = 3 ∧ (0 ≤ a3.toInt ∧ a3.toInt < nf) ∧ (0 ≤ a4.toInt ∧ a4.toInt < nc) ∧ (0 ≤ a5.toInt ∧ a5.toInt ≤ 9) ∧ a6.toInt = 0) ∨ (a1.toInt = 4 ∧ (0 ≤ a3.toInt ∧ a3.toInt < nf) ∧ (0 ≤ a4.toInt ∧ a4.toInt < nc) ∧ (1 ≤ a5.toInt ∧ a5.toInt ≤ 60) ∧ a6.toInt = 0))) :
    (0 ≤ a2.toInt ∧ a2.toInt ≤ 9) ∧ ((a1.toInt = 0 ∧ (0 ≤ a3.toInt ∧ a3.toInt < nc) ∧ (1 ≤ a4.toInt ∧ a4.toInt ≤ 15) ∧ (1 ≤ a5.toInt ∧ a5.toInt ≤ 60)) ∨ (a1.toInt = 1 ∧ (0 ≤ a3.toInt ∧ a3.toInt < nc) ∧ (1 ≤ a4.toInt ∧ a4.toInt ≤ 15) ∧ ((1 ≤ a5.toInt ∧ a5.toInt ≤ 5) ∨ a5.toInt = -1) ∧ (0 ≤ a6.toInt ∧ a6.toInt ≤ 9)) ∨
      (a1.toInt = 2 ∧ (0 ≤ a3.toInt ∧ a3.toInt < nf) ∧ (-400 ≤ a4.toInt ∧ a4.toInt ≤ 400)) ∨ (a1.toInt = 3 ∧ (0 ≤ a3.toInt ∧ a3.toInt < nf) ∧ (0 ≤ a4.toInt ∧ a4.toInt < nc) ∧ (0 ≤ a5.toInt ∧ a5.toInt ≤ 9)) ∨ (a1.toInt = 4 ∧ (0 ≤ a3.toInt ∧ a3.toInt < nf) ∧ (0 ≤ a4.toInt ∧ a4.toInt < nc) ∧ (1 ≤ a5.toInt ∧ a5.toInt ≤ 60))) := by
  obtain ⟨-, h2, h3⟩ := h
  refine ⟨h2, ?_⟩
  rcases h3 with ⟨p, q, r, s, -⟩ | h | ⟨p, q, r, -, -⟩ | ⟨p, q, r, s, -⟩ | ⟨p, q, r, s, -⟩
  · exact Or.inl ⟨p, q, r, s⟩
  · exact Or.inr (Or.inl h)
  · exact Or.inr (Or.inr (Or.inl ⟨p, q, r⟩))
  · exact Or.inr (Or.inr (Or.inr (Or.inl ⟨p, q, r, s⟩)))
  · exact Or.inr (Or.inr (Or.inr (Or.inr ⟨p, q, r, s⟩)))
set_option maxHeartbeats 4000000 in
theorem k_addFeast (hl0 : l.stackTraces = false) (hI : LI t b σ) (a1 a2 a3 a4 a5 a6 : Int32) : lC l yL_addFeast cL_addFeast 9 [(0, 18, 21, 13), (0, 18, 25, 15)] 8 4 24 D t b n σ [.ref (b + 0), .int a1, .int a2, .int a3, .int a4, .int a5, .int a6, .ref (b + 60)] (KP l yX9_addFeast cX9_addFeast 8 (some .int) 3 D t b [.ref (b + 45), .int a1, .int a2, .int a3, .int a4, .int a5, .int a6]) := by
  obtain ⟨A, B, P, I, R, pm, φ, hW, hC⟩ := hI
  have e20 : A 20 = I 5 := hC.2.2.1.1
  have e21 : A 21 = I 19 := hC.2.2.1.2.1
  have hM := c_X8_addFeast l D t b n σ A B P hl0 pm hC.2.2.2.2.1.1 hC.hc0.2 (hC.stq hW.fr).ok a1 _ rfl a2 _ rfl a3 _ rfl a4 _ rfl a5 _ rfl a6 _ rfl
  rw [← hW.1] at hM
  have hMM := fun (n1 : Nat) (σ7 : qM) => c_X9_addFeast l D t b n1 σ7 I R a1 a2 a3 a4 a5 a6 _ _ _ _ _ _ rfl rfl rfl rfl rfl rfl hC.2.2.2.2.1.2.2.1 hC.h19
  refine c_L_addFeast l D t b n σ a1 a2 a3 a4 a5 a6 ((congrFun hW.1 0).trans rfl) hM (fun hlt v n1 σ1 hp => ?_) (fun hlt E n1 σ1 hx => ?_)
  · rw [e20, e21] at hp
    obtain ⟨hc, rfl, S1, A1, P1, rfl, hS1, h41, hfe, ⟨A2, P2, w21, hkeep, hA1, hw21, hP1⟩, hz⟩ := hp
    obtain ⟨φ1, hφ1⟩ : ∃ z : qM, z = fun k => if k = n then S1 k else φ k := ⟨_, rfl⟩
    have hsub : ∀ k e, φ k = some e → φ1 k = some e := fun k e he => by
      have := hlt k e (hW.fr k e he)
      rw [hφ1]
      show (if _ then _ else _) = _
      rw [if_neg (by omega)]
      exact he
    have hW1 := hW.new (φ1 := φ1) (A1 := A1) (B1 := B) (P1 := P1) hlt hS1 (fun k e he => by
      rw [hφ1] at he
      by_cases q : k = n
      · exact Or.inr ⟨by omega, (if_pos q).symm.trans he⟩
      · exact Or.inl ((if_neg q).symm.trans he))
    refine ⟨hW1.2.2.1, fun f hf => ?_⟩
    have hW2 := hW1.o60 (f := f)
    refine KP.good (val := (I 19).toInt) (code := 0) ?_ hf ((i64_t v).trans hz) rfl
    refine ⟨I, R, _, hW2.2.1, hMM _ _, fun z I1 R1 hp => ?_⟩
    obtain ⟨mk, mc, mbad, mgood⟩ := hp
    have mc := mc.trans hc
    obtain ⟨gz, g19, g28, gR⟩ := mgood mc
    refine ⟨mc, fun _ => by rw [gz], ?_⟩
    have hc2 := hc
    by_cases q8 : (I 19).toInt = 8
    · rw [if_pos q8] at hc2
      split at hc2 <;> exact absurd hc2 (by decide)
    rw [if_neg q8] at hc2
    split at hc2
    rotate_left
    · exact absurd hc2 (by decide)
    rename_i hok
    obtain ⟨c1, c2, c3, c4, c5, c6, c7⟩ := hC
    have hr26 : R1 26 = remR I R := by rw [gR, va_up_ne _ _ (by decide), va_up_self]
    have hR : ∀ k, k ≠ 16 → k ≠ 26 → R1 k = R k := fun k q1 q2 => by rw [gR, va_up_ne _ _ q1, va_up_ne _ _ q2]
    have hr16 : R1 16 = feW (R 16) (6 * (I 19).toInt).toNat a1 a2 a3 a4 a5 a6 := by rw [gR, va_up_self]
    obtain ⟨pm', h1⟩ := c5.keep c3 (I1 := I1) (R1 := R1) (φ1 := φ1) hkeep hsub g28 hr26
    obtain ⟨-, -, hkA, hkP, -, -, -⟩ := hkeep
    have hA : ∀ k, k ≠ 21 → A1 k = A2 k := fun k hk => by rw [hA1]; exact va_up_ne _ _ hk
    have hP : ∀ k, k ≠ 2 → P1 k = P2 k := fun k hk => by rw [hP1]; exact va_up_ne _ _ hk
    have h8 := c3.2.2.2.1.1.2
    refine ⟨A1, B, P1, I1, R1, pm', φ1, hW2.mod, ?_, ?_, ?_, ?_, ?_, ?_, ?_⟩
    · exact c1.cg (by rw [hA 2 (by decide), hkA 2 (by omega) (by omega)]) rfl (mk 10 (by decide)) (hR 9 (by decide) (by decide))
    · rw [hA 1 (by decide), hkA 1 (by omega) (by omega), mk 12 (by decide)]
      exact c2
    · refine CIs.add (A2 := A2) (P2 := P2) (v := w21) (q := n) c3 hsub (hkA 20 (by omega) (by omega)) (hkP 1 (by omega) (by omega)) (hkP 2 (by omega) (by omega)) hA1 (by rw [hw21, e21]) (by rw [hP1, e21]) ⟨by omega, ?_⟩ ?_ g19 (mk 5 (by decide)) (hR 2 (by decide) (by decide)) (hR 4 (by decide) (by decide)) hr16 (add_ok hok)
      · rw [hφ1]
        exact (if_pos rfl).trans hfe
      · have h8 : 0 ≤ (A 21).toInt ∧ (A 21).toInt ≤ 8 := h8
        rw [e21] at h8
        omega
    · refine c4.cg hsub ?_ ?_ ?_ ?_ ?_ (mk 30 (by decide)) (hR 27 (by decide) (by decide))
      · rw [hA 0 (by decide), hkA 0 (by omega) (by omega)]
      · rw [hA 22 (by decide), hkA 22 (by omega) (by omega)]
      · rw [hA 23 (by decide), hkA 23 (by omega) (by omega)]
      · rw [hP 3 (by decide), hkP 3 (by omega) (by omega)]
      · rw [hP 4 (by decide), hkP 4 (by omega) (by omega)]
    · exact h1.cg frf (hA 19 (by decide)) (fun k q1 q2 => hA k (by omega)) (hP 0 (by decide)) (fun k q => hP k (by omega)) rfl rfl
    · refine c6.cg ?_ rfl rfl rfl (mk 23 (by decide)) (hR 20 (by decide) (by decide)) (hR 21 (by decide) (by decide)) (hR 22 (by decide) (by decide))
      rw [hA 36 (by decide), hkA 36 (by omega) (by omega)]
    · refine c7.cg ?_ rfl (mk 25 (by decide)) (hR 24 (by decide) (by decide))
      rw [hA 37 (by decide), hkA 37 (by omega) (by omega)]
  · rw [e20, e21] at hx
    obtain ⟨hs1, hx⟩ := hx
    rw [hs1]
    have hbad : ∀ code : Int, code ≠ 0 → ∀ cd : Int, cd = code → (∀ z I1 R1, (kpI [0, 19, 28, 29, 31] I I1 ∧ (I1 0).toInt = cd ∧ ((I1 0).toInt ≠ 0 → kpI [0] I I1 ∧ R1 = R) ∧ ((I1 0).toInt = 0 → z = I 19 ∧ (I1 19).toInt = (I 19).toInt + 1 ∧ (I1 28).toInt = remC (I 28).toInt + 1 ∧ R1 = va_up (va_up R 26 (remR I R)) 16 (feW (R 16) (6 * (I 19).toInt).toNat a1 a2 a3 a4 a5 a6))) → (I1 0).toInt = code ∧ (code = 0 → z.toInt = 0) ∧ LI t b (mS t b σ I1 R1)) := fun code h0 cd hcd z I1 R1 hp => by
      obtain ⟨mk, mc, mbad, mgood⟩ := hp
      have mc := mc.trans hcd
      obtain ⟨x1, x2⟩ := mbad (by rw [mc]; exact h0)
      exact ⟨mc, fun h => absurd h h0, A, B, P, I1, R1, pm, φ, hW.mod, hC.mod (x1.wk (by decide)) (r_wk x2)⟩
    rcases hx with ⟨rfl, hc⟩ | ⟨rfl, hc⟩
    · exact Or.inl ⟨rfl, KP.bad hW.2.2.1 ⟨I, R, _, hW.2.1, hMM _ _, hbad 1 (by decide) _ hc⟩ (j := 1) rfl (by decide) rfl⟩
    · exact Or.inr ⟨rfl, KP.bad hW.2.2.1 ⟨I, R, _, hW.2.1, hMM _ _, hbad 2 (by decide) _ hc⟩ (j := 2) rfl (by decide) rfl⟩
set_option maxHeartbeats 4000000 in
theorem k_removeFeast (hl0 : l.stackTraces = false) (hI : LI t b σ) : lC l yL_removeFeast cL_removeFeast 3 [(0, 8, 11, 15)] 8 1 6 D t b n σ [.ref (b + 0), .ref (b + 60)] (KP l yX9_removeFeast cX9_removeFeast 1 (some .int) 3 D t b [.ref (b + 45)]) := by
  obtain ⟨A, B, P, I, R, pm, φ, hW, hC⟩ := hI
  have e21 : A 21 = I 19 := hC.2.2.1.2.1
  have hM := c_X8_removeFeast l D t b n σ A B P hl0 pm hC.2.2.2.2.1.1 hC.hc0.2 (hC.stq hW.fr).ok
  rw [← hW.1] at hM
  have hMM := fun (n1 : Nat) (σ7 : qM) => c_X9_removeFeast l D t b n1 σ7 I R hC.2.2.2.2.1.2.2.1 hC.h19
  refine c_L_removeFeast l D t b n σ ((congrFun hW.1 0).trans rfl) hM (fun hlt v n1 σ1 hp => ?_) (fun hlt E n1 σ1 hx => ?_)
  · rw [e21] at hp
    obtain ⟨hn1, A1, P1, rfl, ⟨A2, w21, hkeep, hA1, hw21⟩, hz, h1i⟩ := hp
    rw [hn1]
    have hW1 := hW.cls (A1 := A1) (B1 := B) (P1 := P1)
    refine ⟨hW1.2.2.1, fun f hf => ?_⟩
    have hW2 := hW1.o60 (f := f)
    have hA21 : A1 21 = w21 := by rw [hA1, va_up_self]
    refine KP.good (val := (I 19).toInt - 1) (code := 0) ?_ hf ((i64_t v).trans (by rw [hz, hA21, hw21])) rfl
    refine ⟨I, R, _, hW2.2.1, hMM _ _, fun z I1 R1 hp => ?_⟩
    obtain ⟨mk, mc, mbad, mgood⟩ := hp
    rw [if_neg (by omega)] at mc
    obtain ⟨gz, g19, g28, gR⟩ := mgood (by omega)
    refine ⟨mc, fun _ => by rw [gz, g19], ?_⟩
    obtain ⟨c1, c2, c3, c4, c5, c6, c7⟩ := hC
    have hr26 : R1 26 = remR I R := by rw [gR, va_up_self]
    have hR : ∀ k, k ≠ 26 → R1 k = R k := fun k q1 => by rw [gR, va_up_ne _ _ q1]
    obtain ⟨pm', h1⟩ := c5.keep c3 (I1 := I1) (R1 := R1) (φ1 := φ) hkeep frf g28 hr26
    obtain ⟨-, -, hkA, hkP, -, -, -⟩ := hkeep
    have hA : ∀ k, k ≠ 21 → A1 k = A2 k := fun k hk => by rw [hA1]; exact va_up_ne _ _ hk
    refine ⟨A1, B, P1, I1, R1, pm', φ, hW2.mod, ?_, ?_, ?_, ?_, ?_, ?_, ?_⟩
    · exact c1.cg (by rw [hA 2 (by decide), hkA 2 (by omega) (by omega)]) rfl (mk 10 (by decide)) (hR 9 (by decide))
    · rw [hA 1 (by decide), hkA 1 (by omega) (by omega), mk 12 (by decide)]
      exact c2
    · exact CIs.rem (A2 := A2) (v := w21) c3 frf (hkA 20 (by omega) (by omega)) (hkP 1 (by omega) (by omega)) (hkP 2 (by omega) (by omega)) hA1 (by rw [hw21, e21]) h1i g19 (mk 5 (by decide)) (hR 2 (by decide)) (hR 4 (by decide)) (hR 16 (by decide))
    · refine c4.cg frf ?_ ?_ ?_ (hkP 3 (by omega) (by omega)) (hkP 4 (by omega) (by omega)) (mk 30 (by decide)) (hR 27 (by decide))
      · rw [hA 0 (by decide), hkA 0 (by omega) (by omega)]
      · rw [hA 22 (by decide), hkA 22 (by omega) (by omega)]
      · rw [hA 23 (by decide), hkA 23 (by omega) (by omega)]
    · exact h1.cg frf (hA 19 (by decide)) (fun k q1 q2 => hA k (by omega)) rfl (fun _ _ => rfl) rfl rfl
    · refine c6.cg ?_ rfl rfl rfl (mk 23 (by decide)) (hR 20 (by decide)) (hR 21 (by decide)) (hR 22 (by decide))
      rw [hA 36 (by decide), hkA 36 (by omega) (by omega)]
    · refine c7.cg ?_ rfl (mk 25 (by decide)) (hR 24 (by decide))
      rw [hA 37 (by decide), hkA 37 (by omega) (by omega)]
  · rw [e21] at hx
    obtain ⟨rfl, hs1, hx⟩ := hx
    rw [hs1]
    refine ⟨rfl, KP.bad (code := 1) (val := 0) hW.2.2.1 ⟨I, R, _, hW.2.1, hMM _ _, fun z I1 R1 hp => ?_⟩ (j := 1) rfl (by decide) rfl⟩
    obtain ⟨mk, mc, mbad, mgood⟩ := hp
    rw [if_pos hx] at mc
    obtain ⟨x1, x2⟩ := mbad hx
    exact ⟨mc, fun h => absurd h (by decide), A, B, P, I1, R1, pm, φ, hW.mod, hC.mod (x1.wk (by decide)) (r_wk x2)⟩
set_option maxHeartbeats 4000000 in
theorem k_undo (hl0 : l.stackTraces = false) (hI : LI t b σ) : lC l yL_undo cL_undo 3 [(0, 8, 11, 15)] 8 1 6 D t b n σ [.ref (b + 0), .ref (b + 60)] (KP l yX9_undo cX9_undo 1 (some .int) 5 D t b [.ref (b + 45)]) := by
  obtain ⟨A, B, P, I, R, pm, φ, hW, hC⟩ := hI
  have e19 : A 19 = I 28 := hC.2.2.2.2.1.2.1
  have hbk : ∀ i : Nat, (i : Int) < (I 28).toInt → bkS t b φ A P (pm i) (R 26) (262 * i) := hC.2.2.2.2.1.2.2.2
  have hM := c_X8_undo l D t b n σ A B P hl0 pm hC.2.2.2.2.1.1 hC.hc0.2 (hC.stq hW.fr).ok (fun h1 => by
    rw [e19] at h1 ⊢
    exact ((hbk ((I 28).toInt - 1).toNat (by omega)).2.2.2.cp (cpSt.ofe rfl rfl rfl rfl) hW.fr).ok)
  rw [← hW.1] at hM
  have hMM := fun (n1 : Nat) (σ7 : qM) => c_X9_undo l D t b n1 σ7 I R hC.2.2.2.2.1.2.2.1 (fun i i0 i1 => by
    have h := (hbk i.toNat (by omega)).ok
    rw [show 262 * i.toNat = (262 * i).toNat by omega] at h
    exact h)
  refine c_L_undo l D t b n σ ((congrFun hW.1 0).trans rfl) hM (fun hlt v n1 σ1 hp => ?_) (fun hlt E n1 σ1 hx => ?_)
  · rw [e19] at hp
    obtain ⟨hn1, A1, P1, rfl, ⟨hA, hP, h19, hcp⟩, hz, h1i⟩ := hp
    rw [hn1]
    have hW1 := hW.cls (A1 := A1) (B1 := B) (P1 := P1)
    refine ⟨hW1.2.2.1, fun f hf => ?_⟩
    have hW2 := hW1.o60 (f := f)
    refine KP.good (val := (I 28).toInt - 1) (code := 0) ?_ hf ((i64_t v).trans (by rw [hz, h19])) rfl
    refine ⟨I, R, _, hW2.2.1, hMM _ _, fun z I1 R1 hp => ?_⟩
    obtain ⟨mk, mc, mbad, mgood⟩ := hp
    rw [if_neg (by omega)] at mc
    obtain ⟨gz, g28, gR, gr⟩ := mgood (by omega)
    refine ⟨mc, fun _ => by rw [gz, g28], ?_⟩
    have hb := hbk ((I 28).toInt - 1).toNat (by omega)
    rw [show 262 * ((I 28).toInt - 1).toNat = (262 * ((I 28).toInt - 1)).toNat by omega] at hb
    obtain ⟨c1, c2, c3, c4, c5, c6, c7⟩ := hC
    refine ⟨A1, B, P1, I1, R1, pm, φ, hW2.mod, ?_, ?_, ?_, ?_, ?_, ?_, ?_⟩
    · exact c1.cg (hA 2 (by decide) (by decide) (by decide)) rfl (mk 10 (by decide)) (gR 9 (by decide))
    · rw [hA 1 (by decide) (by decide) (by decide), mk 12 (by decide)]
      exact c2
    · exact CIs.rest hb hcp frf gr
    · exact c4.cg frf (hA 0 (by decide) (by decide) (by decide)) (hA 22 (by decide) (by decide) (by decide)) (hA 23 (by decide) (by decide) (by decide)) (hP 3 (by decide) (by decide)) (hP 4 (by decide) (by decide)) (mk 30 (by decide)) (gR 27 (by decide))
    · obtain ⟨d1, d2, d3, d4⟩ := c5
      have e28 : A1 19 = I1 28 := Int32.toInt_inj.mp (by rw [h19, g28])
      refine ⟨⟨fun j hj => by rw [hP 0 (by decide) (by decide)]; exact d1.1 j hj, d1.2⟩, e28, by omega, fun i hi => ?_⟩
      rw [gR 26 (by decide)]
      have hp2 := (d1.1 i (by omega)).2
      exact (d4 i (by omega)).cp (cpSt.ofe (hA _ (by omega) (by omega) (by omega)) (hA _ (by omega) (by omega) (by omega)) (hP _ (by omega) (by omega)) (hP _ (by omega) (by omega))) frf (fun _ _ => rfl)
    · exact c6.cg (hA 36 (by decide) (by decide) (by decide)) rfl rfl rfl (mk 23 (by decide)) (gR 20 (by decide)) (gR 21 (by decide)) (gR 22 (by decide))
    · exact c7.cg (hA 37 (by decide) (by decide) (by decide)) rfl (mk 25 (by decide)) (gR 24 (by decide))
  · rw [e19] at hx
    obtain ⟨rfl, hs1, hx⟩ := hx
    rw [hs1]
    refine ⟨rfl, KP.bad (code := 1) (val := 0) hW.2.2.1 ⟨I, R, _, hW.2.1, hMM _ _, fun z I1 R1 hp => ?_⟩ (j := 1) rfl (by decide) rfl⟩
    obtain ⟨mk, mc, mbad, mgood⟩ := hp
    rw [if_pos hx] at mc
    obtain ⟨x1, x2⟩ := mbad hx
    exact ⟨mc, fun h => absurd h (by decide), A, B, P, I1, R1, pm, φ, hW.mod, hC.mod (x1.wk (by decide)) (r_wk x2)⟩
theorem CI.ok1 (hC : CI t b φ A B P I R pm) (hφ : ∀ k e, φ k = some e → σ k = some e) : okSt σ A P 1 := by
  obtain ⟨h1, h2, h3⟩ := hC.2.2.2.1
  by_cases q : I 30 = 0
  · obtain ⟨a, c⟩ := h3 q
    have a1 : (A (20 + 2 * 1)).toInt = 0 := congrArg Int32.toInt a
    have c1 : (A (21 + 2 * 1)).toInt = 0 := congrArg Int32.toInt c
    exact ⟨by omega, by omega, fun j hj => by omega, fun j hj => by omega⟩
  · exact ((h2 q).2.2.2.cp (cpSt.ofe rfl rfl rfl rfl) hφ).ok
theorem i_ne0 {x : Int32} : x ≠ 0 ↔ x.toInt ≠ 0 := by
  constructor
  · intro h z
    exact h (Int32.toInt_inj.mp z)
  · intro h z
    exact h (by rw [z]; rfl)
set_option maxHeartbeats 4000000 in
theorem k_restore (hl0 : l.stackTraces = false) (hI : LI t b σ) : lC l yL_restore cL_restore 3 [(0, 8, 11, 15)] 8 1 6 D t b n σ [.ref (b + 0), .ref (b + 60)] (KP l yX9_restore cX9_restore 1 (some .int) 5 D t b [.ref (b + 45)]) := by
  obtain ⟨A, B, P, I, R, pm, φ, hW, hC⟩ := hI
  have e0 : A 0 = I 30 := hC.2.2.2.1.1
  have hM := c_X8_restore l D t b n σ A B P hl0 pm hC.2.2.2.2.1.1 hC.hc0.2 (hC.stq hW.fr).ok (hC.ok1 hW.fr)
  rw [← hW.1] at hM
  have hMM := fun (n1 : Nat) (σ7 : qM) => c_X9_restore l D t b n1 σ7 I R hC.2.2.2.2.1.2.2.1 (fun h => (hC.2.2.2.1.2.1 (i_ne0.mpr h)).ok)
  refine c_L_restore l D t b n σ ((congrFun hW.1 0).trans rfl) hM (fun hlt v n1 σ1 hp => ?_) (fun hlt E n1 σ1 hx => ?_)
  · rw [e0] at hp
    obtain ⟨hn1, A1, P1, rfl, ⟨A2, P2, hkeep, hke, hcp⟩, hz, h1i⟩ := hp
    rw [hn1]
    have hW1 := hW.cls (A1 := A1) (B1 := B) (P1 := P1)
    refine ⟨hW1.2.2.1, fun f hf => ?_⟩
    have hW2 := hW1.o60 (f := f)
    refine KP.good (val := (A1 20).toInt) (code := 0) ?_ hf ((i64_t v).trans (by rw [hz])) rfl
    refine ⟨I, R, _, hW2.2.1, hMM _ _, fun z I1 R1 hp => ?_⟩
    obtain ⟨mk, mc, mbad, mgood⟩ := hp
    have hne := i_ne0.mp h1i
    rw [if_neg hne] at mc
    obtain ⟨gz, g28, gR, g26, gr⟩ := mgood hne
    obtain ⟨c1, c2, c3, c4, c5, c6, c7⟩ := hC
    obtain ⟨pm', h1⟩ := c5.keep c3 (I1 := I1) (R1 := R1) (φ1 := φ) hkeep frf g28 g26
    obtain ⟨-, -, hkA, hkP, -, -, -⟩ := hkeep
    have hA : ∀ k, k ≠ 20 → k ≠ 21 → A1 k = A2 k := fun k q1 q2 => hke.1 k q1 q2
    have hP : ∀ k, k ≠ 1 → k ≠ 2 → P1 k = P2 k := fun k q1 q2 => hke.2 k q1 q2
    have hb := c4.2.1 h1i
    have hb2 : bkS t b φ A2 P2 1 (R 27) 0 := hb.cp (cpSt.ofe (hkA _ (by omega) (by omega)) (hkA _ (by omega) (by omega)) (hkP _ (by omega) (by omega)) (hkP _ (by omega) (by omega))) frf (fun _ _ => rfl)
    have hs := CIs.rest (I1 := I1) (R1 := R1) (R := R) hb2 hcp (φ1 := φ) frf gr
    refine ⟨mc, fun _ => by rw [gz, ← hs.1], ?_⟩
    refine ⟨A1, B, P1, I1, R1, pm', φ, hW2.mod, ?_, ?_, hs, ?_, ?_, ?_, ?_⟩
    · exact c1.cg (by rw [hA 2 (by decide) (by decide), hkA 2 (by omega) (by omega)]) rfl (mk 10 (by decide)) (gR 9 (by decide))
    · rw [hA 1 (by decide) (by decide), hkA 1 (by omega) (by omega), mk 12 (by decide)]
      exact c2
    · refine c4.cg frf ?_ ?_ ?_ ?_ ?_ (mk 30 (by decide)) (gR 27 (by decide))
      · rw [hA 0 (by decide) (by decide), hkA 0 (by omega) (by omega)]
      · rw [hA 22 (by decide) (by decide), hkA 22 (by omega) (by omega)]
      · rw [hA 23 (by decide) (by decide), hkA 23 (by omega) (by omega)]
      · rw [hP 3 (by decide) (by decide), hkP 3 (by omega) (by omega)]
      · rw [hP 4 (by decide) (by decide), hkP 4 (by omega) (by omega)]
    · exact h1.cg frf (hA 19 (by decide) (by decide)) (fun k q1 q2 => hA k (by omega) (by omega)) (hP 0 (by decide) (by decide)) (fun k q => hP k (by omega) (by omega)) rfl rfl
    · refine c6.cg ?_ rfl rfl rfl (mk 23 (by decide)) (gR 20 (by decide)) (gR 21 (by decide)) (gR 22 (by decide))
      rw [hA 36 (by decide) (by decide), hkA 36 (by omega) (by omega)]
    · refine c7.cg ?_ rfl (mk 25 (by decide)) (gR 24 (by decide))
      rw [hA 37 (by decide) (by decide), hkA 37 (by omega) (by omega)]
  · rw [e0] at hx
    obtain ⟨rfl, hs1, hx⟩ := hx
    rw [hs1]
    refine ⟨rfl, KP.bad (code := 1) (val := 0) hW.2.2.1 ⟨I, R, _, hW.2.1, hMM _ _, fun z I1 R1 hp => ?_⟩ (j := 1) rfl (by decide) rfl⟩
    obtain ⟨mk, mc, mbad, mgood⟩ := hp
    have hx0 : (I 30).toInt = 0 := by rw [hx]; rfl
    rw [if_pos hx0] at mc
    obtain ⟨x1, x2⟩ := mbad hx0
    exact ⟨mc, fun h => absurd h (by decide), A, B, P, I1, R1, pm, φ, hW.mod, hC.mod (x1.wk (by decide)) (r_wk x2)⟩
end KU
