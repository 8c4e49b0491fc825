/-! what is written, read in several ways, kept; and the calls without a handler -/
section KV
variable {l : Launch} {D : va_G} {t : Nat → ClassId} {b n : Nat} {σ φ φ1 : qM} {A A1 : Nat → Int32} {B B1 : Nat → Nat → Int32} {P P1 : Nat → Nat → Option Nat} {I I1 : Nat → Int32} {R R1 : Nat → Nat → Int32} {pm : Nat → Nat}
def okO (s : Int × (Int → Int)) : Prop := 0 ≤ s.1 ∧ ∀ j : Int, 0 ≤ j → j < s.1 → 0 ≤ s.2 j ∧ s.2 j < 128
theorem okO.ad {s : Int × (Int → Int)} {m : Int} {f : Int → Int} (h : okO s) (hm : 0 ≤ m) (hf : ∀ j : Int, 0 ≤ f j ∧ f j < 128) : okO (ad s m f) := by
  refine ⟨by show 0 ≤ s.1 + m; have := h.1; omega, fun j h0 h1 => ?_⟩
  show 0 ≤ (if j < s.1 then s.2 j else f (j - s.1)) ∧ (if j < s.1 then s.2 j else f (j - s.1)) < 128
  by_cases q : j < s.1
  · rw [if_pos q]
    exact h.2 j h0 q
  · rw [if_neg q]
    exact hf _
theorem dD_ok (v : Int) (j : Int) : 0 ≤ dD v j ∧ dD v j < 128 := by
  unfold dD
  omega
theorem wrt_ok (ρ : Row) (d : Int) : okO (wrt ρ d) ∧ (wrt ρ d).1 ≤ 16 := by
  have d1 := dN_bd (dof ρ d)
  have d2 := dN_bd (mof ρ d)
  have d3 := dN_bd (absI (yof ρ d))
  have k0 : okO ad0 := ⟨Int.le_refl _, fun j h0 h1 => absurd (show j < 0 from h1) (by omega)⟩
  have k1 : okO (ad (ad (ad ad0 (dN (dof ρ d)) (dD (dof ρ d))) 1 (fun _ => 46)) (dN (mof ρ d)) (dD (mof ρ d))) := ((k0.ad (by omega) (dD_ok _)).ad (by decide) (fun _ => by decide)).ad (by omega) (dD_ok _)
  have n1 : (ad (ad (ad ad0 (dN (dof ρ d)) (dD (dof ρ d))) 1 (fun _ => 46)) (dN (mof ρ d)) (dD (mof ρ d))).1 ≤ 9 := by show 0 + dN (dof ρ d) + 1 + dN (mof ρ d) ≤ 9; omega
  have k2 : ∀ s, okO s → okO (wrt4 ρ d s) ∧ (wrt4 ρ d s).1 ≤ s.1 + 1 := fun s hs => by
    unfold wrt4
    split
    · exact ⟨hs.ad (by decide) (fun _ => by decide), Int.le_refl _⟩
    · exact ⟨hs, by omega⟩
  have k3 : ∀ s, okO s → okO (wrt6 ρ d s) ∧ (wrt6 ρ d s).1 ≤ s.1 + 1 := fun s hs => by
    unfold wrt6
    split
    · exact ⟨hs.ad (by decide) (fun _ => by decide), Int.le_refl _⟩
    · exact ⟨hs, by omega⟩
  obtain ⟨q1, q2⟩ := k2 _ k1
  have q3 := q1.ad (m := 1) (f := fun _ => 46) (by decide) (fun _ => by decide)
  obtain ⟨q4, q5⟩ := k3 _ q3
  have q6 : (ad (wrt4 ρ d (ad (ad (ad ad0 (dN (dof ρ d)) (dD (dof ρ d))) 1 (fun _ => 46)) (dN (mof ρ d)) (dD (mof ρ d)))) 1 (fun _ => 46)).1 ≤ 11 := by
    show (wrt4 ρ d _).1 + 1 ≤ 11
    omega
  unfold wrt
  refine ⟨q4.ad (by omega) (dD_ok _), ?_⟩
  show (wrt6 ρ d _).1 + dN (absI (yof ρ d)) ≤ 16
  omega
set_option maxHeartbeats 4000000 in
theorem k_write (hl0 : l.stackTraces = false) (hI : LI t b σ) (a1 a2 : Int32) : lC l yL_write cL_write 5 [(0, 10, 13, 20), (0, 10, 17, 13), (0, 10, 21, 54)] 8 3 18 D t b n σ [.ref (b + 0), .int a1, .int a2, .ref (b + 60)] (KP l yX9_write cX9_write 3 (some .int) 6 D t b [.ref (b + 45), .int a1, .int a2]) := by
  obtain ⟨A, B, P, I, R, pm, φ, hW, hC⟩ := hI
  have e20 : A 20 = I 5 := hC.2.2.1.1
  have e37 : A 37 = I 25 := hC.2.2.2.2.2.2.1
  have hM := c_X8_write l D t b n σ A B P hl0 (rowM R) (feM R) (hC.stq hW.fr) (by rw [e37]; exact hC.2.2.2.2.2.2.2.1) a1 _ rfl a2 _ rfl
  rw [← hW.1] at hM
  have hMM := fun (n1 : Nat) (σ7 : qM) => c_X9_write l D t b n1 σ7 I R a1 a2 _ _ rfl rfl hC.h5 hC.hrow hC.hokF
  refine c_L_write l D t b n σ a1 a2 ((congrFun hW.1 0).trans rfl) hM (fun hlt v n1 σ1 hp => ?_) (fun hlt E n1 σ1 hx => ?_)
  · rw [e20] at hp
    obtain ⟨hn1, A1, B1, rfl, hc, hz, hkA, hkB, hsb⟩ := hp
    rw [hn1]
    have hW1 := hW.cls (A1 := A1) (B1 := B1) (P1 := P)
    refine ⟨hW1.2.2.1, fun f hf => ?_⟩
    have hW2 := hW1.o60 (f := f)
    obtain ⟨s1, s2⟩ := hsb
    refine KP.good (val := (wrt (rowM R a1.toInt) a2.toInt).1) (code := 0) ?_ hf ((i64_t v).trans (by rw [hz]; exact s1)) rfl
    refine ⟨I, R, _, hW2.2.1, hMM _ _, fun z I1 R1 hp => ?_⟩
    obtain ⟨mk, kr, mc, mgood, mbad⟩ := hp
    have mc := mc.trans hc
    obtain ⟨gz, g25, gout⟩ := mgood mc
    refine ⟨mc, fun _ => by rw [gz, g25], ?_⟩
    obtain ⟨c1, c2, c3, c4, c5, c6, c7⟩ := hC
    obtain ⟨w1, w2⟩ := wrt_ok (rowM R a1.toInt) a2.toInt
    refine ⟨A1, B1, P, I1, R1, pm, φ, hW2.mod, ?_, ?_, ?_, ?_, ?_, ?_, ?_⟩
    · exact c1.cg (hkA 2 (by decide)) (hkB 0 (by decide)) (mk 10 (by decide)) (kr 9 (by decide))
    · rw [hkA 1 (by decide), mk 12 (by decide)]
      exact c2
    · exact c3.cg frf (hkA 20 (by decide)) (hkA 21 (by decide)) rfl rfl (mk 5 (by decide)) (mk 19 (by decide)) (kr 2 (by decide)) (kr 4 (by decide)) (kr 16 (by decide))
    · exact c4.cg frf (hkA 0 (by decide)) (hkA 22 (by decide)) (hkA 23 (by decide)) rfl rfl (mk 30 (by decide)) (kr 27 (by decide))
    · exact c5.cg frf (hkA 19 (by decide)) (fun k q1 q2 => hkA k (by intro z; simp at z; omega)) rfl (fun _ _ => rfl) (mk 28 (by decide)) (kr 26 (by decide))
    · exact c6.cg (hkA 36 (by decide)) (hkB 6 (by decide)) (hkB 7 (by decide)) (hkB 8 (by decide)) (mk 23 (by decide)) (kr 20 (by decide)) (kr 21 (by decide)) (kr 22 (by decide))
    · refine ⟨Int32.toInt_inj.mp (by rw [s1, g25]), by rw [g25]; exact ⟨w1.1, w2⟩, fun j hj => ?_⟩
      rw [g25] at hj
      have x1 := s2 (j : Int) (by omega) hj
      have x2 := gout (j : Int) (by omega) hj
      rw [show ((j : Int)).toNat = j from rfl] at x1 x2
      exact ⟨Int32.toInt_inj.mp (x1.trans x2.symm), by rw [x2]; exact w1.2 j (by omega) hj⟩
  · rw [e20] at hx
    obtain ⟨hs1, hc⟩ := hx
    rw [hs1]
    have hm : ∀ code : Int, code ≠ 0 → cd3 (0 ≤ a1.toInt ∧ a1.toInt < (I 5).toInt) (-999999 ≤ a2.toInt ∧ a2.toInt ≤ 999999) (fst (rowM R a1.toInt) (-2000) ≤ a2.toInt ∧ a2.toInt < fst (rowM R a1.toInt) 2001) = code → KMod l yX9_write cX9_write 3 (some .int) 6 D t b n1 σ [.ref (b + 45), .int a1, .int a2] code 0 := fun code h0 hcd => by
      refine ⟨I, R, _, hW.2.1, hMM _ _, fun z I1 R1 hp => ?_⟩
      obtain ⟨mk, kr, mc, mgood, mbad⟩ := hp
      have mc := mc.trans hcd
      obtain ⟨x1, x2⟩ := mbad (by rw [mc]; exact h0)
      exact ⟨mc, fun h => absurd h h0, A, B, P, I1, R1, pm, φ, hW.mod, hC.mod (mk.eq fun j hj => by
        by_cases q : j = 25
        · rw [q]
          exact Or.inr x1
        · refine Or.inl ?_
          simp at hj ⊢
          omega) (r_wk x2)⟩
    rcases xEc hc with ⟨rfl, q⟩ | ⟨rfl, q⟩ | ⟨rfl, q⟩ | q
    · exact Or.inl ⟨rfl, KP.bad hW.2.2.1 (hm 1 (by decide) q) (j := 1) rfl (by decide) rfl⟩
    · exact Or.inr (Or.inl ⟨rfl, KP.bad hW.2.2.1 (hm 2 (by decide) q) (j := 2) rfl (by decide) rfl⟩)
    · exact Or.inr (Or.inr ⟨rfl, KP.bad hW.2.2.1 (hm 3 (by decide) q) (j := 3) rfl (by decide) rfl⟩)
    · have hle : cd3 (0 ≤ a1.toInt ∧ a1.toInt < (I 5).toInt) (-999999 ≤ a2.toInt ∧ a2.toInt ≤ 999999) (fst (rowM R a1.toInt) (-2000) ≤ a2.toInt ∧ a2.toInt < fst (rowM R a1.toInt) 2001) ≤ 3 := cd3_le
      rw [q] at hle
      exact absurd hle (by decide)
/-! the calls without a handler: the class's contract, and the reference's behind it -/
theorem d_faultPosition (hI : LI t b σ) : ∃ (px : Int32 → Prop) (val : Int), qP l yX8_faultPosition cX8_faultPosition 1 (some .int) 0 D t b n σ [.ref (b + 0)] px ∧ (∀ z, px z → z.toInt = val) ∧ KMod l yX9_faultPosition cX9_faultPosition 1 (some .int) 0 D t b n σ [.ref (b + 45)] 0 val := by
  obtain ⟨A, B, P, I, R, pm, φ, hW, hC⟩ := hI
  have hM := c_X8_faultPosition l D t b n σ A B P
  rw [← hW.1] at hM
  refine ⟨_, (I 12).toInt, hM, fun z hz => by rw [hz, hC.2.1], I, R, _, hW.2.1, c_X9_faultPosition l D t b _ _ I R, fun z I1 R1 hp => ?_⟩
  obtain ⟨x1, mk, mc, mz⟩ := hp
  exact ⟨mc, fun _ => by rw [mz], A, B, P, I1, R1, pm, φ, hW.mod, hC.mod (mk.wk (by decide)) (r_wk x1)⟩
theorem d_calendarCount (hI : LI t b σ) : ∃ (px : Int32 → Prop) (val : Int), qP l yX8_calendarCount cX8_calendarCount 1 (some .int) 1 D t b n σ [.ref (b + 0)] px ∧ (∀ z, px z → z.toInt = val) ∧ KMod l yX9_calendarCount cX9_calendarCount 1 (some .int) 0 D t b n σ [.ref (b + 45)] 0 val := by
  obtain ⟨A, B, P, I, R, pm, φ, hW, hC⟩ := hI
  have hM := c_X8_calendarCount l D t b n σ A B P
  rw [← hW.1] at hM
  refine ⟨_, (I 5).toInt, hM, fun z hz => by rw [hz, hC.2.2.1.1], I, R, _, hW.2.1, c_X9_calendarCount l D t b _ _ I R, fun z I1 R1 hp => ?_⟩
  obtain ⟨x1, mk, mc, mz⟩ := hp
  exact ⟨mc, fun _ => by rw [mz], A, B, P, I1, R1, pm, φ, hW.mod, hC.mod (mk.wk (by decide)) (r_wk x1)⟩
theorem d_feastCount (hI : LI t b σ) : ∃ (px : Int32 → Prop) (val : Int), qP l yX8_feastCount cX8_feastCount 1 (some .int) 1 D t b n σ [.ref (b + 0)] px ∧ (∀ z, px z → z.toInt = val) ∧ KMod l yX9_feastCount cX9_feastCount 1 (some .int) 0 D t b n σ [.ref (b + 45)] 0 val := by
  obtain ⟨A, B, P, I, R, pm, φ, hW, hC⟩ := hI
  have hM := c_X8_feastCount l D t b n σ A B P
  rw [← hW.1] at hM
  refine ⟨_, (I 19).toInt, hM, fun z hz => by rw [hz, hC.2.2.1.2.1], I, R, _, hW.2.1, c_X9_feastCount l D t b _ _ I R, fun z I1 R1 hp => ?_⟩
  obtain ⟨x1, mk, mc, mz⟩ := hp
  exact ⟨mc, fun _ => by rw [mz], A, B, P, I1, R1, pm, φ, hW.mod, hC.mod (mk.wk (by decide)) (r_wk x1)⟩
theorem ddN_cg {f g : Nat → Int32} : ∀ k : Nat, (∀ j, j < k → f j = g j) → ddN f k = ddN g k := by
  intro k
  induction k with
  | zero => intro _; rfl
  | succ k ih =>
    intro h
    have e := ih (fun j hj => h j (by omega))
    have e1 := h k (by omega)
    have e2 : f (k - 1) = g (k - 1) := h (k - 1) (by omega)
    unfold ddN
    rw [e, e1, e2]
theorem d_differentDays (hI : LI t b σ) : ∃ (px : Int32 → Prop) (val : Int), qP l yX8_differentDays cX8_differentDays 1 (some .int) 1 D t b n σ [.ref (b + 0)] px ∧ (∀ z, px z → z.toInt = val) ∧ KMod l yX9_differentDays cX9_differentDays 3 (some .int) 0 D t b n σ [.ref (b + 45)] 0 val := by
  obtain ⟨A, B, P, I, R, pm, φ, hW, hC⟩ := hI
  have e36 : A 36 = I 23 := hC.2.2.2.2.2.1.1
  have hb := hC.2.2.2.2.2.1.2.1
  have hM := c_X8_differentDays l D t b n σ A B P (by rw [e36]; exact hb)
  rw [← hW.1] at hM
  refine ⟨_, ddN (R 22) (I 23).toInt.toNat, hM, fun z hz => by rw [hz, e36]; exact ddN_cg _ (fun j hj => (hC.2.2.2.2.2.1.2.2 j (by omega)).2.2), I, R, _, hW.2.1, c_X9_differentDays l D t b _ _ I R hb, fun z I1 R1 hp => ?_⟩
  obtain ⟨x1, mk, mc, mz⟩ := hp
  exact ⟨mc, fun _ => mz, A, B, P, I1, R1, pm, φ, hW.mod, hC.mod (mk.wk (by decide)) (r_wk x1)⟩
theorem d_readings (hI : LI t b σ) (a1 a2 a3 : Int32) : ∃ (px : Int32 → Nat → qM → Prop), qC l yX8_readings cX8_readings 6 (some .int) 6 0 0 D t b n σ [.ref (b + 0), .int a1, .int a2, .int a3] px ∧ ∀ z n1 σ1, px z n1 σ1 → (∃ f, σ1 60 = some (o6 t f)) ∧ ∃ val : Int, z.toInt = val ∧ KMod l yX9_readings cX9_readings 9 (some .int) 7 D t b n1 σ1 [.ref (b + 45), .int a1, .int a2, .int a3] 0 val := by
  obtain ⟨A, B, P, I, R, pm, φ, hW, hC⟩ := hI
  have e20 : A 20 = I 5 := hC.2.2.1.1
  have hM := c_X8_readings l D t b n σ A B P (rowM R) (feM R) (hC.stq hW.fr) a1 a2 a3 _ _ _ rfl rfl rfl
  unfold kC at hM
  rw [← hW.1] at hM
  refine ⟨_, hM, fun z n1 σ1 hp => ?_⟩
  rw [e20] at hp
  obtain ⟨hn1, A1, B1, rfl, hkA, hkB, h36, hrd, hz⟩ := hp
  rw [hn1]
  have hW1 := hW.cls (A1 := A1) (B1 := B1) (P1 := P)
  obtain ⟨S, hS⟩ : ∃ s, s = rdN (rowM R) a1.toInt a2.toInt a3.toInt (3 * (I 5).toInt).toNat := ⟨_, rfl⟩
  rw [← hS] at h36 hrd
  refine ⟨hW1.2.2.1, (S.2 : Int), by rw [hz, h36], I, R, _, hW1.2.1, c_X9_readings l D t b _ _ I R a1 a2 a3 _ _ _ rfl rfl rfl hC.h5 hC.hrow hC.hokF (by have := hC.h50; omega), fun z2 I1 R1 hp2 => ?_⟩
  obtain ⟨mk, mc, kr, mz, m23, mrd⟩ := hp2
  rw [← hS] at m23 mrd
  refine ⟨mc, fun _ => by rw [mz, m23], ?_⟩
  have hle := rdN_bd (rowM R) a1.toInt a2.toInt a3.toInt (3 * (I 5).toInt).toNat
  rw [← hS] at hle
  have h6 := hC.h5
  obtain ⟨c1, c2, c3, c4, c5, c6, c7⟩ := hC
  refine ⟨A1, B1, P, I1, R1, pm, φ, hW1.mod, ?_, ?_, ?_, ?_, ?_, ?_, ?_⟩
  · exact c1.cg (hkA 2 (by decide)) (hkB 0 (by decide)) (mk 10 (by decide)) (kr 9 (by decide))
  · rw [hkA 1 (by decide), mk 12 (by decide)]
    exact c2
  · exact c3.cg frf (hkA 20 (by decide)) (hkA 21 (by decide)) rfl rfl (mk 5 (by decide)) (mk 19 (by decide)) (kr 2 (by decide)) (kr 4 (by decide)) (kr 16 (by decide))
  · exact c4.cg frf (hkA 0 (by decide)) (hkA 22 (by decide)) (hkA 23 (by decide)) rfl rfl (mk 30 (by decide)) (kr 27 (by decide))
  · exact c5.cg frf (hkA 19 (by decide)) (fun k q1 q2 => hkA k (by intro z; simp at z; omega)) rfl (fun _ _ => rfl) (mk 28 (by decide)) (kr 26 (by decide))
  · refine ⟨Int32.toInt_inj.mp (by rw [h36, m23]), by rw [m23]; omega, fun j hj => ?_⟩
    rw [m23] at hj
    have x := (hrd j (by omega)).trans (mrd j (by omega)).symm
    unfold entM rdR at x
    have x1 := congrArg (fun q : Ent => q.1) x
    have x2 := congrArg (fun q : Ent => q.2.1) x
    have x3 := congrArg (fun q : Ent => q.2.2) x
    exact ⟨Int32.toInt_inj.mp x1, Int32.toInt_inj.mp x2, Int32.toInt_inj.mp x3⟩
  · exact c7.cg (hkA 37 (by decide)) (hkB 9 (by decide)) (mk 25 (by decide)) (kr 24 (by decide))
theorem d_save (hl0 : l.stackTraces = false) (hI : LI t b σ) : ∃ (px : Int32 → Nat → qM → Prop) (xp : String → Nat → qM → Prop), xC l yX8_save cX8_save 1 (some .int) 7 1 6 D t b n σ [.ref (b + 0)] px xp ∧ (∀ E n1 σ1, ¬ xp E n1 σ1) ∧ ∀ z n1 σ1, px z n1 σ1 → (∃ f, σ1 60 = some (o6 t f)) ∧ ∃ val : Int, z.toInt = val ∧ KMod l yX9_save cX9_save 1 (some .int) 3 D t b n1 σ1 [.ref (b + 45)] 0 val := by
  obtain ⟨A, B, P, I, R, pm, φ, hW, hC⟩ := hI
  have e20 : A 20 = I 5 := hC.2.2.1.1
  have hM := c_X8_save l D t b n σ A B P hl0 (hC.stq hW.fr).ok
  rw [← hW.1] at hM
  refine ⟨_, _, hM, fun E n1 σ1 h => h.2.2, fun z n1 σ1 hp => ?_⟩
  obtain ⟨hn1, A1, P1, rfl, ⟨A2, hke, hcp, hA1⟩, hz⟩ := hp
  rw [hn1]
  have hW1 := hW.cls (A1 := A1) (B1 := B) (P1 := P1)
  refine ⟨hW1.2.2.1, (I 5).toInt, by rw [hz, hA1, va_up_ne _ _ (by decide), hke.1 20 (by decide) (by decide), e20], I, R, _, hW1.2.1, c_X9_save l D t b _ _ I R, fun z2 I1 R1 hp2 => ?_⟩
  obtain ⟨mk, mc, mz, m30, mR⟩ := hp2
  refine ⟨mc, fun _ => by rw [mz], ?_⟩
  obtain ⟨c1, c2, c3, c4, c5, c6, c7⟩ := hC
  have hR : ∀ k, k ≠ 27 → R1 k = R k := fun k q1 => by rw [mR, va_up_ne _ _ q1]
  have hA : ∀ k, k ≠ 0 → k ≠ 22 → k ≠ 23 → A1 k = A k := fun k q1 q2 q3 => by rw [hA1, va_up_ne _ _ q1]; exact hke.1 k q2 q3
  have hP : ∀ k, k ≠ 3 → k ≠ 4 → P1 k = P k := fun k q1 q2 => hke.2 k q1 q2
  refine ⟨A1, B, P1, I1, R1, pm, φ, hW1.mod, ?_, ?_, ?_, ?_, ?_, ?_, ?_⟩
  · exact c1.cg (hA 2 (by decide) (by decide) (by decide)) rfl (mk 10 (by decide)) (hR 9 (by decide))
  · rw [hA 1 (by decide) (by decide) (by decide), mk 12 (by decide)]
    exact c2
  · exact c3.cg frf (hA 20 (by decide) (by decide) (by decide)) (hA 21 (by decide) (by decide) (by decide)) (hP 1 (by decide) (by decide)) (hP 2 (by decide) (by decide)) (mk 5 (by decide)) (mk 19 (by decide)) (hR 2 (by decide)) (hR 4 (by decide)) (hR 16 (by decide))
  · refine ⟨by rw [hA1, va_up_self, m30], fun _ => ?_, fun z9 => absurd (m30.symm.trans z9) (by decide)⟩
    have hcp2 : cpSt A P 0 A1 P1 1 := ⟨by rw [hA1, va_up_ne _ _ (by decide)]; exact hcp.1, by rw [hA1, va_up_ne _ _ (by decide)]; exact hcp.2.1, hcp.2.2.1, hcp.2.2.2⟩
    exact bkS.of c3 hcp2 frf (f := R 27) (by rw [mR, va_up_self])
  · exact c5.cg frf (hA 19 (by decide) (by decide) (by decide)) (fun k q1 q2 => hA k (by omega) (by omega) (by omega)) (hP 0 (by decide) (by decide)) (fun k q => hP k (by omega) (by omega)) (mk 28 (by decide)) (hR 26 (by decide))
  · exact c6.cg (hA 36 (by decide) (by decide) (by decide)) rfl rfl rfl (mk 23 (by decide)) (hR 20 (by decide)) (hR 21 (by decide)) (hR 22 (by decide))
  · exact c7.cg (hA 37 (by decide) (by decide) (by decide)) rfl (mk 25 (by decide)) (hR 24 (by decide))
end KV
