/-! the two calls that answer numbers with a fraction -/
section KD
variable {l : Launch} {D : va_G} {t : Nat → ClassId} {b n : Nat} {σ φ : qM} {A : Nat → Int32} {B : Nat → Nat → Int32} {P : Nat → Nat → Option Nat} {I : Nat → Int32} {R : Nat → Nat → Int32} {pm : Nat → Nat}
theorem dec32_n {x : UInt32} (h : vf_n32 x) : FP.Core.decode FP.Core.b32 x.toNat ≠ .nan := by
  unfold vf_n32 at h
  rw [UInt32.le_iff_toNat_le, UInt32.toNat_and, show (0x7fffffff : UInt32).toNat = 2 ^ 31 - 1 from by decide, Nat.and_two_pow_sub_one_eq_mod, show (0x7f800000 : UInt32).toNat = 255 * 2 ^ 23 from by decide] at h
  unfold FP.Core.decode FP.Core.fieldE FP.Core.fieldT
  rw [b32_f.1, b32_f.2.1]
  by_cases q : x.toNat / 2 ^ 23 % 256 = 256 - 1
  · rw [if_pos q, if_pos (by omega)]
    intro z
    cases z
  · rw [if_neg q]
    split <;> intro z <;> cases z
theorem f2d_n {x : UInt32} (h : vf_n32 x) : vf_n64 (FP.f2d x) ∧ FP.Core.decode FP.Core.b64 (FP.f2d x).toNat ≠ .nan := by
  have hne := dec32_n h
  have hf : FP.Core.fIsNaN x = false := by
    unfold FP.Core.fIsNaN FP.Core.isNaN
    exact decide_eq_false hne
  unfold FP.f2d
  rw [hf]
  exact ⟨n64_enc (ok_round64 hne), (dec64 (ok_round64 hne)).1⟩
theorem cmp_self (x : Int) : compare x x = .eq := by
  simp [compare, compareOfLessAndEq]
theorem dcmp_self {x : UInt64} (h : FP.Core.decode FP.Core.b64 x.toNat ≠ .nan) : FP.dcmp x x = some .eq := by
  show FP.Core.order (FP.Core.decode FP.Core.b64 x.toNat) (FP.Core.decode FP.Core.b64 x.toNat) = some .eq
  cases hD : FP.Core.decode FP.Core.b64 x.toNat with
  | nan => exact absurd hD h
  | inf s => show some (compare _ _) = _; rw [cmp_self]
  | fin s c q => show some (compare _ _) = _; rw [cmp_self]
/-- the mean year: what the law needs of both -/
def KPa (l : Launch) (D : va_G) (t : Nat → ClassId) (b : Nat) (a1 : Int32) : Int32 → Nat → qM → Prop := fun z n1 σ1 =>
  ∃ (code : Int) (x : UInt64), z.toInt = code ∧ (∃ f, σ1 61 = some (o7 t f) ∧ (code = 0 → f 0 = x ∧ FP.dcmp x x = some .eq)) ∧ ∃ pm : Option Value → Nat → qM → Prop, qG l yX9_averageYear cX9_averageYear 2 (some .double) 3 0 0 D t b n1 σ1 [.ref (b + 45), .int a1] pm ∧ (∃ I9 R9, σ1 = mS t b σ1 I9 R9) ∧
    ∀ v n2 σ2, pm v n2 σ2 → n2 = n1 ∧ σ2 61 = σ1 61 ∧ ∃ (u : UInt64) (I2 : Nat → Int32) (R2 : Nat → Nat → Int32), v = some (.double u) ∧ σ2 = mS t b σ2 I2 R2 ∧ (I2 0).toInt = code ∧ (code = 0 → u = x) ∧ LI t b σ2
def KPd (l : Launch) (D : va_G) (t : Nat → ClassId) (b : Nat) (a1 a2 : Int32) : Int32 → Nat → qM → Prop := fun z n1 σ1 =>
  ∃ (code : Int) (x : UInt32), z.toInt = code ∧ (∃ f, σ1 61 = some (o7 t f) ∧ (code = 0 → f 0 = FP.f2d x ∧ vf_n64 (FP.f2d x) ∧ FP.dcmp (FP.f2d x) (FP.f2d x) = some .eq)) ∧ ∃ pm : Option Value → Nat → qM → Prop, qG l yX9_drift cX9_drift 3 (some .float) 3 0 0 D t b n1 σ1 [.ref (b + 45), .int a1, .int a2] pm ∧ (∃ I9 R9, σ1 = mS t b σ1 I9 R9) ∧
    ∀ v n2 σ2, pm v n2 σ2 → n2 = n1 ∧ σ2 61 = σ1 61 ∧ ∃ (u : UInt32) (I2 : Nat → Int32) (R2 : Nat → Nat → Int32), v = some (.float u) ∧ σ2 = mS t b σ2 I2 R2 ∧ (I2 0).toInt = code ∧ (code = 0 → u = x) ∧ LI t b σ2
theorem av_ok (hC : CI t b φ A B P I R pm) {ca : Int} (h : 0 ≤ ca ∧ ca < (I 5).toInt) : ∃ s c q, FP.Core.decode FP.Core.b64 (avgD (rowM R ca)).toNat = .fin s c q := avg_dec (hC.hrow ca h.1 h.2) (hC.hrep ca h.1 h.2)
theorem dr_ok (hC : CI t b φ A B P I R pm) {ca cb : Int} (h : 0 ≤ ca ∧ ca < (I 5).toInt) (h2 : 0 ≤ cb ∧ cb < (I 5).toInt) : vf_n32 (drD (rowM R ca) (rowM R cb)) :=
  d2f_dec (mul_dec (sub_dec (av_ok hC h) (av_ok hC h2)).2).2
set_option maxHeartbeats 2000000 in
theorem k_averageYear (hl0 : l.stackTraces = false) (hI : LI t b σ) (a1 : Int32) : lC l yL_averageYear cL_averageYear 4 [(0, 8, 11, 20)] 8 2 12 D t b n σ [.ref (b + 0), .int a1, .ref (b + 61)] (KPa l D t b a1) := by
  obtain ⟨A, B, P, I, R, pm, φ, hW, hC⟩ := hI
  have e20 : A 20 = I 5 := hC.2.2.1.1
  have hM := c_X8_averageYear l D t b n σ A B P hl0 (rowM R) (feM R) (hC.stq hW.fr) a1 _ rfl
  rw [← hW.1] at hM
  have hMM : ∀ (n1 : Nat) (σ7 : qM), LW t b σ7 A B P I R φ → ∃ pm : Option Value → Nat → qM → Prop, qG l yX9_averageYear cX9_averageYear 2 (some .double) 3 0 0 D t b n1 σ7 [.ref (b + 45), .int a1] pm ∧ (∃ I9 R9, σ7 = mS t b σ7 I9 R9) ∧ ∀ v n2 σ2, pm v n2 σ2 → n2 = n1 ∧ σ2 61 = σ7 61 ∧ ∃ (u : UInt64) (I2 : Nat → Int32) (R2 : Nat → Nat → Int32), v = some (.double u) ∧ σ2 = mS t b σ2 I2 R2 ∧ (I2 0).toInt = (if 0 ≤ a1.toInt ∧ a1.toInt < (I 5).toInt then (0 : Int) else 1) ∧ ((if 0 ≤ a1.toInt ∧ a1.toInt < (I 5).toInt then (0 : Int) else 1) = 0 → u = avgD (rowM R a1.toInt)) ∧ LI t b σ2 := fun n1 σ7 hW7 => by
    have h := c_X9_averageYear l D t b n1 σ7 I R a1 _ rfl hC.h5 hC.hrow hC.hokF hC.hrep
    rw [← hW7.2.1] at h
    refine ⟨_, h, ⟨I, R, hW7.2.1⟩, fun v n2 σ2 hp => ?_⟩
    obtain ⟨u, hv, hn, I1, hs, mk, mc, mv⟩ := hp
    have hW8 := hW7.mod (I1 := I1) (R1 := R)
    rw [hs]
    exact ⟨hn, mS_off (I2 := I) (R2 := R) (by omega), u, I1, R, hv, hW8.2.1, mc, fun hc => mv (mc.trans hc), A, B, P, I1, R, pm, φ, hW8, hC.mod (mk.wk (by decide)) kpR.rf⟩
  refine c_L_averageYear l D t b n σ a1 ((congrFun hW.1 0).trans rfl) hM (fun hlt v n1 σ1 hp => ?_) (fun hlt E n1 σ1 hx => ?_)
  · rw [e20] at hp
    obtain ⟨hv, hn1, hs1, hc⟩ := hp
    rw [hn1, hs1]
    have hin : 0 ≤ a1.toInt ∧ a1.toInt < (I 5).toInt := by
      by_cases q : 0 ≤ a1.toInt ∧ a1.toInt < (I 5).toInt
      · exact q
      · rw [if_neg q] at hc
        exact absurd hc (by decide)
    refine ⟨_, hv, hW.2.2.2.1, fun f hf => ?_⟩
    obtain ⟨s, c, q, hd⟩ := av_ok hC hin
    refine ⟨_, avgD (rowM R a1.toInt), hc.symm, ⟨f, va_up_self _ _ _, fun _ => ⟨hf, dcmp_self (by rw [hd]; intro z; cases z)⟩⟩, hMM _ _ (hW.o61 (f := f))⟩
  · rw [e20] at hx
    obtain ⟨hs1, hc⟩ := hx
    rw [hs1]
    rcases xEc hc with ⟨rfl, q⟩ | ⟨rfl, q⟩ | ⟨rfl, q⟩ | q
    · obtain ⟨f7, hf7⟩ := hW.2.2.2.1
      exact ⟨rfl, _, avgD (rowM R a1.toInt), q.symm, ⟨f7, hf7, fun z => absurd (q.symm.trans z) (by decide)⟩, hMM _ _ hW⟩
    · split at q <;> exact absurd q (by decide)
    · split at q <;> exact absurd q (by decide)
    · split at q <;> exact absurd q (by decide)
set_option maxHeartbeats 2000000 in
theorem k_drift (hl0 : l.stackTraces = false) (hI : LI t b σ) (a1 a2 : Int32) : lC l yL_drift cL_drift 5 [(0, 10, 13, 20)] 8 2 12 D t b n σ [.ref (b + 0), .int a1, .int a2, .ref (b + 61)] (KPd l D t b a1 a2) := by
  obtain ⟨A, B, P, I, R, pm, φ, hW, hC⟩ := hI
  have e20 : A 20 = I 5 := hC.2.2.1.1
  have hM := c_X8_drift l D t b n σ A B P hl0 (rowM R) (feM R) (hC.stq hW.fr) a1 _ rfl a2 _ rfl
  rw [← hW.1] at hM
  have hMM : ∀ (n1 : Nat) (σ7 : qM), LW t b σ7 A B P I R φ → ∃ pm : Option Value → Nat → qM → Prop, qG l yX9_drift cX9_drift 3 (some .float) 3 0 0 D t b n1 σ7 [.ref (b + 45), .int a1, .int a2] pm ∧ (∃ I9 R9, σ7 = mS t b σ7 I9 R9) ∧ ∀ v n2 σ2, pm v n2 σ2 → n2 = n1 ∧ σ2 61 = σ7 61 ∧ ∃ (u : UInt32) (I2 : Nat → Int32) (R2 : Nat → Nat → Int32), v = some (.float u) ∧ σ2 = mS t b σ2 I2 R2 ∧ (I2 0).toInt = (if (0 ≤ a1.toInt ∧ a1.toInt < (I 5).toInt) ∧ 0 ≤ a2.toInt ∧ a2.toInt < (I 5).toInt then (0 : Int) else 1) ∧ ((if (0 ≤ a1.toInt ∧ a1.toInt < (I 5).toInt) ∧ 0 ≤ a2.toInt ∧ a2.toInt < (I 5).toInt then (0 : Int) else 1) = 0 → u = drD (rowM R a1.toInt) (rowM R a2.toInt)) ∧ LI t b σ2 := fun n1 σ7 hW7 => by
    have h := c_X9_drift l D t b n1 σ7 I R a1 _ rfl a2 _ rfl hC.h5 hC.hrow hC.hokF hC.hrep
    rw [← hW7.2.1] at h
    refine ⟨_, h, ⟨I, R, hW7.2.1⟩, fun v n2 σ2 hp => ?_⟩
    obtain ⟨u, hv, hn, I1, hs, mk, mc, mv⟩ := hp
    have hW8 := hW7.mod (I1 := I1) (R1 := R)
    rw [hs]
    exact ⟨hn, mS_off (I2 := I) (R2 := R) (by omega), u, I1, R, hv, hW8.2.1, mc, fun hc => mv (mc.trans hc), A, B, P, I1, R, pm, φ, hW8, hC.mod (mk.wk (by decide)) kpR.rf⟩
  refine c_L_drift l D t b n σ a1 a2 ((congrFun hW.1 0).trans rfl) hM (fun hlt v n1 σ1 hp => ?_) (fun hlt E n1 σ1 hx => ?_)
  · rw [e20] at hp
    obtain ⟨hv, hn1, hs1, hc⟩ := hp
    rw [hn1, hs1]
    have hin : (0 ≤ a1.toInt ∧ a1.toInt < (I 5).toInt) ∧ 0 ≤ a2.toInt ∧ a2.toInt < (I 5).toInt := by
      by_cases q : (0 ≤ a1.toInt ∧ a1.toInt < (I 5).toInt) ∧ 0 ≤ a2.toInt ∧ a2.toInt < (I 5).toInt
      · exact q
      · rw [if_neg q] at hc
        exact absurd hc (by decide)
    have hn := f2d_n (dr_ok hC hin.1 hin.2)
    refine ⟨_, hv, hn.1, hW.2.2.2.1, fun f hf => ?_⟩
    exact ⟨_, drD (rowM R a1.toInt) (rowM R a2.toInt), hc.symm, ⟨f, va_up_self _ _ _, fun _ => ⟨hf, hn.1, dcmp_self hn.2⟩⟩, hMM _ _ (hW.o61 (f := f))⟩
  · rw [e20] at hx
    obtain ⟨hs1, hc⟩ := hx
    rw [hs1]
    rcases xEc hc with ⟨rfl, q⟩ | ⟨rfl, q⟩ | ⟨rfl, q⟩ | q
    · obtain ⟨f7, hf7⟩ := hW.2.2.2.1
      exact ⟨rfl, _, drD (rowM R a1.toInt) (rowM R a2.toInt), q.symm, ⟨f7, hf7, fun z => absurd (q.symm.trans z) (by decide)⟩, hMM _ _ hW⟩
    · split at q <;> exact absurd q (by decide)
    · split at q <;> exact absurd q (by decide)
    · split at q <;> exact absurd q (by decide)
end KD
