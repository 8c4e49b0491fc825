/-! the calls that change what is held -/
section KT
variable {l : Launch} {D : va_G} {t : Nat → ClassId} {b n : Nat} {σ φ φ1 : qM} {A A1 : Nat → Int32} {B B1 : Nat → Nat → Int32} {P P1 : Nat → Nat → Option Nat} {I I1 : Nat → Int32} {R R1 : Nat → Nat → Int32} {pm : Nat → Nat}
theorem kpI.eq {J J' : List Nat} (h : kpI J I I1) (hJ : ∀ j ∈ J, j ∈ J' ∨ I1 j = I j) : kpI J' I I1 := fun i hi => by
  by_cases q : i ∈ J
  · rcases hJ i q with x | x
    · exact absurd x hi
    · exact x
  · exact h i q
theorem tx_eq (h : CIt A B I R) : tx I R = txC A B := by
  funext p
  unfold tx txC
  rw [h.1]
  by_cases q : 0 ≤ p ∧ p < (I 10).toInt
  · rw [if_pos q, if_pos q, (h.2.2 p.toNat (by omega)).1]
  · rw [if_neg q, if_neg q]
theorem CIt.ok (h : CIt A B I R) : okTx A B := by
  refine ⟨by rw [h.1]; exact h.2.1, fun j h0 h1 => ?_⟩
  rw [h.1] at h1
  have := h.2.2 j.toNat (by omega)
  rw [this.1]
  exact this.2
theorem CIt.zero (h1 : (A 2).toInt = 0) (h2 : (I 10).toInt = 0) : CIt A B I R := ⟨Int32.toInt_inj.mp (by rw [h1, h2]), by omega, fun j hj => by omega⟩
theorem frf : ∀ k e, φ k = some e → φ k = some e := fun _ _ h => h
theorem r_wk {J : List Nat} (h : R1 = R) : kpR J R R1 := by rw [h]; exact kpR.rf
set_option maxHeartbeats 2000000 in
theorem k_appendCharacter (hl0 : l.stackTraces = false) (hI : LI t b σ) (a1 : Int32) : lC l yL_appendCharacter cL_appendCharacter 4 [(0, 9, 12, 13), (0, 9, 15, 15)] 8 2 12 D t b n σ [.ref (b + 0), .int a1, .ref (b + 60)] (KP l yX9_appendCharacter cX9_appendCharacter 2 (some .int) 1 D t b [.ref (b + 45), .int a1]) := by
  obtain ⟨A, B, P, I, R, pm, φ, hW, hC⟩ := hI
  have e2 : A 2 = I 10 := hC.1.1
  have hM := (c_X8_appendCharacter l D t b n σ A B P hl0 (by rw [e2]; exact hC.1.2.1) a1 _ rfl)
  rw [← hW.1] at hM
  refine c_L_appendCharacter l D t b n σ a1 ((congrFun hW.1 0).trans rfl) hM (fun hlt v n1 σ1 hp => ?_) (fun hlt E n1 σ1 hx => ?_)
  · obtain ⟨hn1, A1, B1, rfl, hk, h2, hB, hz, hc, h100⟩ := hp
    rw [hn1]
    have hW1 := hW.cls (A1 := A1) (B1 := B1) (P1 := P)
    refine ⟨hW1.2.2.1, fun f hf => ?_⟩
    have hW2 := hW1.o60 (f := f)
    rw [e2] at h2 hB h100
    refine KP.good (val := (I 10).toInt + 1) (code := 0) ?_ hf (by rw [i64_t, hz, h2]) rfl
    refine ⟨I, R, _, hW2.2.1, c_X9_appendCharacter l D t b _ _ I R a1 _ rfl hC.1.2.1, fun z I1 R1 hp => ?_⟩
    obtain ⟨mk, mc, m0, m1⟩ := hp
    rw [if_pos hc, if_neg (by omega)] at mc
    obtain ⟨z1, z2, z3⟩ := m0 mc
    obtain ⟨c1, c2, c3, c4, c5, c6, c7⟩ := hC
    have hR : ∀ k, k ≠ 9 → R1 k = R k := fun k hk => by rw [z3]; exact va_up_ne _ _ hk
    have hBB : ∀ k, k ≠ 0 → B1 k = B k := fun k hk => by rw [hB]; exact va_up_ne _ _ hk
    refine ⟨mc, fun _ => z1, A1, B1, P, I1, R1, pm, φ, hW2.mod, ⟨Int32.toInt_inj.mp (by rw [h2, z2]), by rw [z2]; have := c1.2.1; omega, fun j hj => ?_⟩, ?_, ?_, ?_, ?_, ?_, ?_⟩
    · rw [hB, z3, va_up_self, va_up_self]
      by_cases q : j = (I 10).toInt.toNat
      · rw [q, upd_s, upd_s]
        exact ⟨rfl, hc⟩
      · rw [upd_n _ _ q, upd_n _ _ q]
        have := c1.2.1
        exact c1.2.2 j (by rw [z2] at hj; omega)
    · exact (hk 1 (by decide)).trans (c2.trans (mk 12 (by decide)).symm)
    · exact c3.cg frf (hk 20 (by decide)) (hk 21 (by decide)) rfl rfl (mk 5 (by decide)) (mk 19 (by decide)) (hR 2 (by decide)) (hR 4 (by decide)) (hR 16 (by decide))
    · exact c4.cg frf (hk 0 (by decide)) (hk 22 (by decide)) (hk 23 (by decide)) rfl rfl (mk 30 (by decide)) (hR 27 (by decide))
    · exact c5.cg frf (hk 19 (by decide)) (fun k q1 q2 => hk k (by intro z; rcases List.mem_singleton.mp z with rfl; omega)) rfl (fun _ _ => rfl) (mk 28 (by decide)) (hR 26 (by decide))
    · exact c6.cg (hk 36 (by decide)) (hBB 6 (by decide)) (hBB 7 (by decide)) (hBB 8 (by decide)) (mk 23 (by decide)) (hR 20 (by decide)) (hR 21 (by decide)) (hR 22 (by decide))
    · exact c7.cg (hk 37 (by decide)) (hBB 9 (by decide)) (mk 25 (by decide)) (hR 24 (by decide))
  · obtain ⟨hs1, hx⟩ := hx
    rw [hs1]
    rw [e2] at hx
    have hbad : ∀ code : Int, code ≠ 0 → (if 33 ≤ a1.toInt ∧ a1.toInt ≤ 126 then (if (I 10).toInt = 100 then (2 : Int) else 0) else 1) = code → KMod l yX9_appendCharacter cX9_appendCharacter 2 (some .int) 1 D t b n1 σ [.ref (b + 45), .int a1] code 0 := fun code h0 hc => by
      refine ⟨I, R, _, hW.2.1, c_X9_appendCharacter l D t b _ _ I R a1 _ rfl hC.1.2.1, fun z I1 R1 hp => ?_⟩
      obtain ⟨mk, mc, m0, m1⟩ := hp
      have mc := mc.trans hc
      obtain ⟨x1, x2⟩ := m1 (by rw [mc]; exact h0)
      exact ⟨mc, fun h => absurd h h0, A, B, P, I1, R1, pm, φ, hW.mod, hC.mod (mk.eq fun j hj => by
        rcases List.mem_cons.mp hj with rfl | hj
        · exact Or.inl (by decide)
        · rcases List.mem_singleton.mp hj with rfl
          exact Or.inr x1) (r_wk x2)⟩
    rcases hx with ⟨rfl, hc⟩ | ⟨rfl, hc, h100⟩
    · exact Or.inl ⟨rfl, KP.bad hW.2.2.1 (hbad 1 (by decide) (if_neg hc)) (j := 1) rfl (by decide) rfl⟩
    · exact Or.inr ⟨rfl, KP.bad hW.2.2.1 (hbad 2 (by decide) (by rw [if_pos hc, if_pos h100])) (j := 2) rfl (by decide) rfl⟩
set_option maxHeartbeats 4000000 in
theorem k_setCalendar (hl0 : l.stackTraces = false) (hI : LI t b σ) (a1 : Int32) : lC l yL_setCalendar cL_setCalendar 4 [(0, 9, 12, 20), (0, 9, 15, 13), (0, 9, 18, 15)] 8 3 1030 D t b n σ [.ref (b + 0), .int a1, .ref (b + 60)] (KP l yX9_setCalendar cX9_setCalendar 3 (some .int) 7 D t b [.ref (b + 45), .int a1]) := by
  obtain ⟨A, B, P, I, R, pm, φ, hW, hC⟩ := hI
  have e2 : A 2 = I 10 := hC.1.1
  have e20 : A 20 = I 5 := hC.2.2.1.1
  have e1 : A 1 = I 12 := hC.2.1
  have e19 : A 19 = I 28 := hC.2.2.2.2.1.2.1
  have hM := c_X8_setCalendar l D t b n σ A B P hl0 pm hC.2.2.2.2.1.1 (by rw [e19]; exact hC.2.2.2.2.1.2.2.1) (hC.stq hW.fr).ok (tx I R) (tx_eq hC.1) hC.1.ok a1 _ rfl
  rw [← hW.1] at hM
  have hMM := fun (n1 : Nat) (σ7 : qM) => c_X9_setCalendar l D t b n1 σ7 I R (tx I R) a1 a1.toInt rfl rfl hC.1.2.1 ⟨hC.h50, hC.h5⟩ hC.2.2.2.2.1.2.2.1
  obtain ⟨S, hS⟩ : ∃ z, z = sCal (tx I R) (I 10).toInt := ⟨_, rfl⟩
  rw [← hS] at hMM
  refine c_L_setCalendar l D t b n σ a1 ((congrFun hW.1 0).trans rfl) hM (fun hlt v n1 σ1 hp => ?_) (fun hlt E n1 σ1 hx => ?_)
  · rw [e20, e2, ← hS] at hp
    obtain ⟨hc, rfl, S1, A1, B1, P1, rfl, hS1, h41, ⟨K, fl, fc, hcal⟩, hkB, ⟨A0, A2, P2, w20, hk0, ha1, ha2, hkeep, hA1, hw20, hP1⟩, hz, hca⟩ := hp
    obtain ⟨φ1, hφ1⟩ : ∃ z : qM, z = fun k => if k = n ∨ k = n + 1 ∨ k = n + 2 then S1 k else φ k := ⟨_, rfl⟩
    have hsub : ∀ k e, φ k = some e → φ1 k = some e := fun k e he => by
      have := hlt k e (hW.fr k e he)
      rw [hφ1]
      show (if _ then _ else _) = _
      rw [if_neg (by omega)]
      exact he
    have hW1 := hW.new (φ1 := φ1) (A1 := A1) (B1 := B1) (P1 := P1) hlt hS1 (fun k e he => by
      rw [hφ1] at he
      by_cases q : k = n ∨ k = n + 1 ∨ k = n + 2
      · exact Or.inr ⟨by omega, (if_pos q).symm.trans he⟩
      · exact Or.inl ((if_neg q).symm.trans he))
    refine ⟨hW1.2.2.1, fun f hf => ?_⟩
    have hW2 := hW1.o60 (f := f)
    have hrg : (0 ≤ a1.toInt ∧ a1.toInt ≤ (if (I 5).toInt < 6 then (I 5).toInt else 5)) ∧ S.1 = true := by
      by_cases q1 : 0 ≤ a1.toInt ∧ a1.toInt ≤ (if (I 5).toInt < 6 then (I 5).toInt else 5)
      · by_cases q2 : S.1 = true
        · exact ⟨q1, q2⟩
        · rw [if_pos q1, if_neg q2] at hc
          exact absurd hc (by decide)
      · rw [if_neg q1] at hc
        exact absurd hc (by decide)
    refine KP.good (val := rv (rowQ S.2.2.1) 0) (code := 0) ?_ hf ((i64_t v).trans hz) rfl
    refine ⟨I, R, _, hW2.2.1, hMM _ _, fun z I1 R1 hp => ?_⟩
    obtain ⟨mk, mc, m10, m12, mbad, mgood⟩ := hp
    have mc := mc.trans hc
    obtain ⟨g28, g26, gR, grow, gok, gF, gr2, gr4, g5, gz⟩ := mgood mc
    rw [if_pos hrg.1, if_pos hrg.2] at m12
    refine ⟨mc, fun _ => by rw [gz, grow], ?_⟩
    obtain ⟨c1, c2, c3, c4, c5, c6, c7⟩ := hC
    have s0 : CIs t b φ A0 P I R := c3.cg frf (hk0 20 (by decide)) (hk0 21 (by decide)) rfl rfl rfl rfl rfl rfl rfl
    have v0 : CIv t b φ A0 P I R := c4.cg frf (hk0 0 (by decide)) (hk0 22 (by decide)) (hk0 23 (by decide)) rfl rfl rfl rfl
    have h0 : CIh t b φ A0 P I R pm := c5.cg frf (hk0 19 (by decide)) (fun k q1 q2 => hk0 k (by intro z; simp at z; omega)) rfl (fun _ _ => rfl) rfl rfl
    obtain ⟨pm', h1⟩ := h0.keep s0 (I1 := I1) (R1 := R1) (φ1 := φ1) hkeep hsub g28 g26
    obtain ⟨-, -, hkA, hkP, -, -, -⟩ := hkeep
    have hA : ∀ k, k ≠ 20 → A1 k = A2 k := fun k hk => by rw [hA1]; exact va_up_ne _ _ hk
    have hP : ∀ k, k ≠ 1 → P1 k = P2 k := fun k hk => by rw [hP1]; exact va_up_ne _ _ hk
    have hR : ∀ k, k ≠ 2 → k ≠ 3 → k ≠ 4 → k ≠ 26 → R1 k = R k := fun k q1 q2 q3 q4 => gR k (by simp; omega)
    have hq : CalQ t b φ1 (some n) (rowM R1 a1.toInt) := by
      rw [grow]
      refine ⟨n, n + 1, n + 2, K, fl, fc, rfl, ⟨by omega, by omega, by omega⟩, ?_, ?_, ?_, hcal.2.2.2⟩
      · rw [hφ1]; exact (if_pos (Or.inl rfl)).trans hcal.1
      · rw [hφ1]; exact (if_pos (Or.inr (Or.inl rfl))).trans hcal.2.1
      · rw [hφ1]; exact (if_pos (Or.inr (Or.inr rfl))).trans hcal.2.2.1
    refine ⟨A1, B1, P1, I1, R1, pm', φ1, hW2.mod, ?_, ?_, ?_, ?_, ?_, ?_, ?_⟩
    · exact CIt.zero (by rw [hA 2 (by decide), hkA 2 (by omega) (by omega)]; exact ha2) m10
    · exact Int32.toInt_inj.mp (by rw [hA 1 (by decide), hkA 1 (by omega) (by omega), ha1, m12])
    · exact CIs.set (A2 := A2) (P2 := P2) (v := w20) (q := n) (ca := a1.toInt) s0 hsub (hkA 20 (by omega) (by omega)) (hkA 21 (by omega) (by omega)) (hkP 1 (by omega) (by omega)) (hkP 2 (by omega) (by omega)) hA1 (by rw [hw20, hk0 20 (by decide), e20]) hP1 hq hrg.1 g5 (mk 19 (by decide)) gr2 gr4 (hR 16 (by decide) (by decide) (by decide) (by decide)) gF
    · refine v0.cg hsub ?_ ?_ ?_ ?_ ?_ (mk 30 (by decide)) (hR 27 (by decide) (by decide) (by decide) (by decide))
      · rw [hA 0 (by decide), hkA 0 (by omega) (by omega)]
      · rw [hA 22 (by decide), hkA 22 (by omega) (by omega)]
      · rw [hA 23 (by decide), hkA 23 (by omega) (by omega)]
      · rw [hP 3 (by decide), hkP 3 (by omega) (by omega)]
      · rw [hP 4 (by decide), hkP 4 (by omega) (by omega)]
    · exact h1.cg frf (hA 19 (by decide)) (fun k q1 q2 => hA k (by omega)) (hP 0 (by decide)) (fun k q => hP k (by omega)) rfl rfl
    · refine c6.cg ?_ (hkB 6 (by decide)) (hkB 7 (by decide)) (hkB 8 (by decide)) (mk 23 (by decide)) (hR 20 (by decide) (by decide) (by decide) (by decide)) (hR 21 (by decide) (by decide) (by decide) (by decide)) (hR 22 (by decide) (by decide) (by decide) (by decide))
      rw [hA 36 (by decide), hkA 36 (by omega) (by omega)]
      exact hk0 36 (by decide)
    · refine c7.cg ?_ (hkB 9 (by decide)) (mk 25 (by decide)) (hR 24 (by decide) (by decide) (by decide) (by decide))
      rw [hA 37 (by decide), hkA 37 (by omega) (by omega)]
      exact hk0 37 (by decide)
  · rw [e20, e2, e1, ← hS] at hx
    obtain ⟨A1, B1, rfl, hkA, hkB, hz2, hz1, hx⟩ := hx
    have hW1 := hW.cls (A1 := A1) (B1 := B1) (P1 := P)
    have hbad : ∀ code : Int, code ≠ 0 → (if 0 ≤ a1.toInt ∧ a1.toInt ≤ (if (I 5).toInt < 6 then (I 5).toInt else 5) then (if S.1 = true then (if possB (rowQ S.2.2.1) S.2.2.2 = true then (0 : Int) else 3) else 2) else 1) = code → KMod l yX9_setCalendar cX9_setCalendar 3 (some .int) 7 D t b n1 (cS t b σ A1 B1 P) [.ref (b + 45), .int a1] code 0 := fun code h0 hc => by
      refine ⟨I, R, _, hW1.2.1, hMM _ _, fun z I1 R1 hp => ?_⟩
      obtain ⟨mk, mc, m10, m12, mbad, mgood⟩ := hp
      have mc := mc.trans hc
      obtain ⟨gR, g5, g28⟩ := mbad (by rw [mc]; exact h0)
      refine ⟨mc, fun h => absurd h h0, ?_⟩
      obtain ⟨c1, c2, c3, c4, c5, c6, c7⟩ := hC
      refine ⟨A1, B1, P, I1, R1, pm, φ, hW1.mod, ?_, ?_, ?_, ?_, ?_, ?_, ?_⟩
      · exact CIt.zero hz2 m10
      · exact Int32.toInt_inj.mp (hz1.trans m12.symm)
      · exact c3.cg frf (hkA 20 (by decide)) (hkA 21 (by decide)) rfl rfl g5 (mk 19 (by decide)) (gR 2 (by decide)) (gR 4 (by decide)) (gR 16 (by decide))
      · exact c4.cg frf (hkA 0 (by decide)) (hkA 22 (by decide)) (hkA 23 (by decide)) rfl rfl (mk 30 (by decide)) (gR 27 (by decide))
      · exact c5.cg frf (hkA 19 (by decide)) (fun k q1 q2 => hkA k (by intro z; simp at z; omega)) rfl (fun _ _ => rfl) g28 (gR 26 (by decide))
      · exact c6.cg (hkA 36 (by decide)) (hkB 6 (by decide)) (hkB 7 (by decide)) (hkB 8 (by decide)) (mk 23 (by decide)) (gR 20 (by decide)) (gR 21 (by decide)) (gR 22 (by decide))
      · exact c7.cg (hkA 37 (by decide)) (hkB 9 (by decide)) (mk 25 (by decide)) (gR 24 (by decide))
    rcases hx with ⟨rfl, hc⟩ | ⟨rfl, hc⟩ | ⟨rfl, hc⟩
    · exact Or.inl ⟨rfl, KP.bad hW1.2.2.1 (hbad 1 (by decide) hc) (j := 1) rfl (by decide) rfl⟩
    · exact Or.inr (Or.inl ⟨rfl, KP.bad hW1.2.2.1 (hbad 2 (by decide) hc) (j := 2) rfl (by decide) rfl⟩)
    · exact Or.inr (Or.inr ⟨rfl, KP.bad hW1.2.2.1 (hbad 3 (by decide) hc) (j := 3) rfl (by decide) rfl⟩)
end KT
