section KM
variable {l : Launch} {D : va_G} {t : Nat → ClassId} {b n : Nat} {σ φ : qM} {A : Nat → Int32} {B : Nat → Nat → Int32} {P : Nat → Nat → Option Nat} {I : Nat → Int32} {R : Nat → Nat → Int32} {pm : Nat → Nat}
/-- the reference's call from here: how it ends (code), what it answers if it doesn't throw, and that both hold the same behind it -/
def KMod (l : Launch) (y : MethodName) (cc : ByteArray) (mL : Nat) (r : Option FieldType) (d : Nat) (D : va_G) (t : Nat → ClassId) (b n : Nat) (σ : qM) (As : List Value) (code val : Int) : Prop :=
  ∃ (I : Nat → Int32) (R : Nat → Nat → Int32) (pm : Int32 → (Nat → Int32) → (Nat → Nat → Int32) → Prop), σ = mS t b σ I R ∧ mC l y cc mL r d D t b n σ I R As pm ∧ ∀ z I1 R1, pm z I1 R1 → (I1 0).toInt = code ∧ (code = 0 → z.toInt = val) ∧ LI t b (mS t b σ I1 R1)
def KP (l : Launch) (y : MethodName) (cc : ByteArray) (mL : Nat) (r : Option FieldType) (d : Nat) (D : va_G) (t : Nat → ClassId) (b : Nat) (As : List Value) : Int32 → Nat → qM → Prop := fun z n1 σ1 =>
  ∃ code val : Int, z.toInt = code ∧ (∃ f, σ1 60 = some (o6 t f) ∧ (code = 0 → (f 0).toInt = val)) ∧ KMod l y cc mL r d D t b n1 σ1 As code val
theorem KP.bad {y : MethodName} {cc : ByteArray} {mL : Nat} {r : Option FieldType} {d : Nat} {As : List Value} {code val : Int} {z : Int32} {j : Int} (h6 : ∃ f, σ 60 = some (o6 t f)) (hM : KMod l y cc mL r d D t b n σ As code val) (hz : z.toInt = j) (hj : j ≠ 0) (hc : code = j) : KP l y cc mL r d D t b As z n σ := by
  obtain ⟨f, hf⟩ := h6
  exact ⟨code, val, hz.trans hc.symm, ⟨f, hf, fun h => absurd (hc.symm.trans h) hj⟩, hM⟩
theorem KP.good {y : MethodName} {cc : ByteArray} {mL : Nat} {r : Option FieldType} {d : Nat} {As : List Value} {code val : Int} {f : Nat → Int64} {x : Int64} (hM : KMod l y cc mL r d D t b n (va_up σ 60 (some (o6 t f))) As code val) (hf : f 0 = x) (hx : x.toInt = val) (hc : code = 0) : KP l y cc mL r d D t b As 0 n (va_up σ 60 (some (o6 t f))) :=
  ⟨code, val, hc.symm, ⟨f, va_up_self _ _ _, fun _ => by rw [hf]; exact hx⟩, hM⟩
def KPb (l : Launch) (y : MethodName) (cc : ByteArray) (mL : Nat) (r : Option FieldType) (d : Nat) (D : va_G) (t : Nat → ClassId) (b : Nat) (As : List Value) : Int32 → Nat → qM → Prop := fun z n1 σ1 =>
  ∃ code val : Int, z.toInt = code ∧ (∃ f, σ1 60 = some (o6 t f) ∧ (code = 0 → (f 0).toInt = val ∧ (val = 0 ∨ val = 1))) ∧ KMod l y cc mL r d D t b n1 σ1 As code val
theorem KPb.bad {y : MethodName} {cc : ByteArray} {mL : Nat} {r : Option FieldType} {d : Nat} {As : List Value} {code val : Int} {z : Int32} {j : Int} (h6 : ∃ f, σ 60 = some (o6 t f)) (hM : KMod l y cc mL r d D t b n σ As code val) (hz : z.toInt = j) (hj : j ≠ 0) (hc : code = j) : KPb l y cc mL r d D t b As z n σ := by
  obtain ⟨f, hf⟩ := h6
  exact ⟨code, val, hz.trans hc.symm, ⟨f, hf, fun h => absurd (hc.symm.trans h) hj⟩, hM⟩
theorem KPb.good {y : MethodName} {cc : ByteArray} {mL : Nat} {r : Option FieldType} {d : Nat} {As : List Value} {code val : Int} {f : Nat → Int64} {x : Int64} (hM : KMod l y cc mL r d D t b n (va_up σ 60 (some (o6 t f))) As code val) (hf : f 0 = x) (hx : x.toInt = val) (h01 : val = 0 ∨ val = 1) (hc : code = 0) : KPb l y cc mL r d D t b As 0 n (va_up σ 60 (some (o6 t f))) :=
  ⟨code, val, hc.symm, ⟨f, va_up_self _ _ _, fun _ => ⟨by rw [hf]; exact hx, h01⟩⟩, hM⟩
theorem bI_01 (x : Bool) : (bI x).toInt = 0 ∨ (bI x).toInt = 1 := by cases x <;> decide
theorem xEc {E : String} {c : Int} (h : xE E = c) : (E = "java/lang/IndexOutOfBoundsException" ∧ c = 1) ∨ (E = "java/lang/IllegalArgumentException" ∧ c = 2) ∨ (E = "java/util/NoSuchElementException" ∧ c = 3) ∨ c = 4 := by
  unfold xE at h
  by_cases q1 : E = "java/lang/IndexOutOfBoundsException"
  · rw [if_pos q1] at h; exact Or.inl ⟨q1, h.symm⟩
  · rw [if_neg q1] at h
    by_cases q2 : E = "java/lang/IllegalArgumentException"
    · rw [if_pos q2] at h; exact Or.inr (Or.inl ⟨q2, h.symm⟩)
    · rw [if_neg q2] at h
      by_cases q3 : E = "java/util/NoSuchElementException"
      · rw [if_pos q3] at h; exact Or.inr (Or.inr (Or.inl ⟨q3, h.symm⟩))
      · rw [if_neg q3] at h; exact Or.inr (Or.inr (Or.inr h.symm))
theorem cd2_le {p q : Prop} [Decidable p] [Decidable q] : cd2 p q ≤ 2 := by
  unfold cd2
  split
  · split <;> omega
  · omega
theorem cd3_le {p q r : Prop} [Decidable p] [Decidable q] [Decidable r] : cd3 p q r ≤ 3 := by
  unfold cd3
  split
  · split
    · split <;> omega
    · omega
  · omega
theorem i64_t (v : Int32) : v.toInt64.toInt = v.toInt := Int32.toInt_toInt64 v
theorem i64_b (x : Bool) : (if bI x = 0 then (0 : Int64) else 1).toInt = (bI x).toInt := by cases x <;> rfl

theorem rd_val (hC : CI t b φ A B P I R pm) {ix part : Int} (hc : cd2 (0 ≤ ix ∧ ix ≤ (I 23).toInt - 1) (0 ≤ part ∧ part ≤ 2) = 0) : (if part = 0 then (B 6 ix.toNat).toInt else if part = 1 then (B 7 ix.toNat).toInt else (B 8 ix.toNat).toInt) = (if part = 0 then (R 20 ix.toNat).toInt else if part = 1 then (R 21 ix.toNat).toInt else (R 22 ix.toNat).toInt) := by
  have hi : 0 ≤ ix ∧ ix ≤ (I 23).toInt - 1 := by
    unfold cd2 at hc
    by_cases q : 0 ≤ ix ∧ ix ≤ (I 23).toInt - 1
    · exact q
    · rw [if_neg q] at hc
      exact absurd hc (by decide)
  obtain ⟨h6, h7, h8⟩ := hC.2.2.2.2.2.1.2.2 ix.toNat (by omega)
  rw [h6, h7, h8]
theorem out_ix {ix : Int} (hc : (if 0 ≤ ix ∧ ix ≤ (I 25).toInt - 1 then (0 : Int) else 1) = 0) : ((ix.toNat : Nat) : Int) < (I 25).toInt := by
  by_cases q : 0 ≤ ix ∧ ix ≤ (I 25).toInt - 1
  · omega
  · rw [if_neg q] at hc
    exact absurd hc (by decide)
theorem fo_le {n : Int} {p : Prop} [Decidable p] : (if p then (if 0 ≤ n then (0 : Int) else 2) else 1) ≤ 2 := by
  split
  · split <;> omega
  · omega
theorem fo_1 {p q : Prop} [Decidable p] [Decidable q] (h : (if p then (if q then (0 : Int) else 3) else 2) = 2) : (if p then (if q then (0 : Int) else 2) else 1) = 1 := by
  by_cases c : p
  · rw [if_pos c] at h
    by_cases d : q
    · rw [if_pos d] at h; exact absurd h (by decide)
    · rw [if_neg d] at h; exact absurd h (by decide)
  · rw [if_neg c]
theorem fo_2 {p q : Prop} [Decidable p] [Decidable q] (h : (if p then (if q then (0 : Int) else 3) else 2) = 3) : (if p then (if q then (0 : Int) else 2) else 1) = 2 := by
  by_cases c : p
  · rw [if_pos c] at h ⊢
    by_cases d : q
    · rw [if_pos d] at h; exact absurd h (by decide)
    · rw [if_neg d]
  · rw [if_neg c] at h; exact absurd h (by decide)
theorem fo_n {p q : Prop} [Decidable p] [Decidable q] : (if p then (if q then (0 : Int) else 3) else 2) ≠ 1 ∧ (if p then (if q then (0 : Int) else 3) else 2) ≠ 4 := by
  by_cases c : p
  · rw [if_pos c]
    by_cases d : q
    · rw [if_pos d]; decide
    · rw [if_neg d]; decide
  · rw [if_neg c]; decide
theorem ifNI2 {p q : Prop} [Decidable p] [Decidable q] (h : (if p then (if q then (0 : Nat) else 2) else 1) = 0) : (if p then (if q then (0 : Int) else 2) else 1) = 0 := by
  by_cases c : p
  · rw [if_pos c] at h ⊢
    by_cases d : q
    · rw [if_pos d]
    · rw [if_neg d] at h; exact absurd h (by decide)
  · rw [if_neg c] at h; exact absurd h (by decide)
theorem ifNI3 {p q r : Prop} [Decidable p] [Decidable q] [Decidable r] (h : (if p then (if q then (if r then (3 : Nat) else 0) else 2) else 1) = 0) : (if p then (if q then (if r then (3 : Int) else 0) else 2) else 1) = 0 := by
  by_cases c : p
  · rw [if_pos c] at h ⊢
    by_cases d : q
    · rw [if_pos d] at h ⊢
      by_cases f : r
      · rw [if_pos f] at h; exact absurd h (by decide)
      · rw [if_neg f]
    · rw [if_neg d] at h; exact absurd h (by decide)
  · rw [if_neg c] at h; exact absurd h (by decide)

theorem m_isLeapYear (hW : LW t b σ A B P I R φ) (hC : CI t b φ A B P I R pm) (a1 : Int32) (a2 : Int32) : KMod l yX9_isLeapYear cX9_isLeapYear 3 (some .boolean) 4 D t b n σ [.ref (b + 45), .int a1, .int a2] (cd2 (0 ≤ (a1.toInt) ∧ (a1.toInt) < (I 5).toInt) (-2000 ≤ (a2.toInt) ∧ (a2.toInt) ≤ 2000)) ((bI (decide (leap (rowM R (a1.toInt)) (a2.toInt) = true))).toInt) := by
  refine ⟨I, R, _, hW.2.1, (c_X9_isLeapYear l D t b _ _ I R a1 a2 _ _ rfl rfl hC.h5 hC.hrow hC.hokF), fun z I1 R1 hp => ?_⟩
  obtain ⟨rfl, hk, hcode, hval⟩ := hp
  exact ⟨hcode, fun h0 => congrArg Int32.toInt (hval (hcode.trans h0)), A, B, P, I1, _, pm, φ, hW.mod, hC.mod (hk.wk (by decide)) kpR.rf⟩

theorem m_months (hW : LW t b σ A B P I R φ) (hC : CI t b φ A B P I R pm) (a1 : Int32) (a2 : Int32) : KMod l yX9_months cX9_months 3 (some .int) 4 D t b n σ [.ref (b + 45), .int a1, .int a2] (cd2 (0 ≤ (a1.toInt) ∧ (a1.toInt) < (I 5).toInt) (-2000 ≤ (a2.toInt) ∧ (a2.toInt) ≤ 2000)) (mcnt (rowM R (a1.toInt)) (a2.toInt)) := by
  refine ⟨I, R, _, hW.2.1, (c_X9_months l D t b _ _ I R a1 a2 _ _ rfl rfl hC.h5 hC.hrow hC.hokF), fun z I1 R1 hp => ?_⟩
  obtain ⟨rfl, hk, hcode, hval⟩ := hp
  exact ⟨hcode, fun h0 => hval (hcode.trans h0), A, B, P, I1, _, pm, φ, hW.mod, hC.mod (hk.wk (by decide)) kpR.rf⟩

theorem m_monthLength (hW : LW t b σ A B P I R φ) (hC : CI t b φ A B P I R pm) (a1 : Int32) (a2 : Int32) (a3 : Int32) : KMod l yX9_monthLength cX9_monthLength 4 (some .int) 6 D t b n σ [.ref (b + 45), .int a1, .int a2, .int a3] (cd2 (0 ≤ (a1.toInt) ∧ (a1.toInt) < (I 5).toInt) ((-2000 ≤ (a2.toInt) ∧ (a2.toInt) ≤ 2000) ∧ 1 ≤ (a3.toInt) ∧ (a3.toInt) ≤ mcnt (rowM R (a1.toInt)) (a2.toInt))) (mlen (rowM R (a1.toInt)) (a2.toInt) (a3.toInt)) := by
  refine ⟨I, R, _, hW.2.1, (c_X9_monthLength l D t b _ _ I R a1 a2 a3 _ _ _ rfl rfl rfl hC.h5 hC.hrow hC.hokF), fun z I1 R1 hp => ?_⟩
  obtain ⟨rfl, hk, hcode, hval⟩ := hp
  exact ⟨hcode, fun h0 => hval (hcode.trans h0), A, B, P, I1, _, pm, φ, hW.mod, hC.mod (hk.wk (by decide)) kpR.rf⟩

theorem m_isIntercalary (hW : LW t b σ A B P I R φ) (hC : CI t b φ A B P I R pm) (a1 : Int32) (a2 : Int32) (a3 : Int32) : KMod l yX9_isIntercalary cX9_isIntercalary 4 (some .boolean) 6 D t b n σ [.ref (b + 45), .int a1, .int a2, .int a3] (cd2 (0 ≤ (a1.toInt) ∧ (a1.toInt) < (I 5).toInt) ((-2000 ≤ (a2.toInt) ∧ (a2.toInt) ≤ 2000) ∧ 1 ≤ (a3.toInt) ∧ (a3.toInt) ≤ mcnt (rowM R (a1.toInt)) (a2.toInt))) ((bI (decide ((rv (rowM R (a1.toInt)) 16 = 2 ∧ leap (rowM R (a1.toInt)) (a2.toInt) = true) ∧ (a3.toInt) = rv (rowM R (a1.toInt)) 17 + 1))).toInt) := by
  refine ⟨I, R, _, hW.2.1, (c_X9_isIntercalary l D t b _ _ I R a1 a2 a3 _ _ _ rfl rfl rfl hC.h5 hC.hrow hC.hokF), fun z I1 R1 hp => ?_⟩
  obtain ⟨rfl, hk, hcode, hval⟩ := hp
  exact ⟨hcode, fun h0 => congrArg Int32.toInt (hval (hcode.trans h0)), A, B, P, I1, _, pm, φ, hW.mod, hC.mod (hk.wk (by decide)) kpR.rf⟩

theorem m_yearLength (hW : LW t b σ A B P I R φ) (hC : CI t b φ A B P I R pm) (a1 : Int32) (a2 : Int32) : KMod l yX9_yearLength cX9_yearLength 3 (some .int) 4 D t b n σ [.ref (b + 45), .int a1, .int a2] (cd2 (0 ≤ (a1.toInt) ∧ (a1.toInt) < (I 5).toInt) (-2000 ≤ (a2.toInt) ∧ (a2.toInt) ≤ 2000)) (ylen (rowM R (a1.toInt)) (a2.toInt)) := by
  refine ⟨I, R, _, hW.2.1, (c_X9_yearLength l D t b _ _ I R a1 a2 _ _ rfl rfl hC.h5 hC.hrow hC.hokF), fun z I1 R1 hp => ?_⟩
  obtain ⟨rfl, hk, hcode, hval⟩ := hp
  exact ⟨hcode, fun h0 => hval (hcode.trans h0), A, B, P, I1, _, pm, φ, hW.mod, hC.mod (hk.wk (by decide)) kpR.rf⟩

theorem m_firstDay (hW : LW t b σ A B P I R φ) (hC : CI t b φ A B P I R pm) (a1 : Int32) (a2 : Int32) : KMod l yX9_firstDay cX9_firstDay 3 (some .int) 4 D t b n σ [.ref (b + 45), .int a1, .int a2] (cd2 (0 ≤ (a1.toInt) ∧ (a1.toInt) < (I 5).toInt) (-2000 ≤ (a2.toInt) ∧ (a2.toInt) ≤ 2000)) (fst (rowM R (a1.toInt)) (a2.toInt)) := by
  refine ⟨I, R, _, hW.2.1, (c_X9_firstDay l D t b _ _ I R a1 a2 _ _ rfl rfl hC.h5 hC.hrow hC.hokF), fun z I1 R1 hp => ?_⟩
  obtain ⟨rfl, hk, hcode, hval⟩ := hp
  exact ⟨hcode, fun h0 => hval (hcode.trans h0), A, B, P, I1, _, pm, φ, hW.mod, hC.mod (hk.wk (by decide)) kpR.rf⟩

theorem m_dayOf (hW : LW t b σ A B P I R φ) (hC : CI t b φ A B P I R pm) (a1 : Int32) (a2 : Int32) (a3 : Int32) (a4 : Int32) : KMod l yX9_dayOf cX9_dayOf 5 (some .int) 7 D t b n σ [.ref (b + 45), .int a1, .int a2, .int a3, .int a4] (cd2 (0 ≤ (a1.toInt) ∧ (a1.toInt) < (I 5).toInt) ((((-2000 ≤ (a2.toInt) ∧ (a2.toInt) ≤ 2000) ∧ 1 ≤ (a3.toInt) ∧ (a3.toInt) ≤ mcnt (rowM R (a1.toInt)) (a2.toInt)) ∧ 1 ≤ (a4.toInt) ∧ (a4.toInt) ≤ mlen (rowM R (a1.toInt)) (a2.toInt) (a3.toInt)) ∧ -999999 ≤ dnum (rowM R (a1.toInt)) (a2.toInt) (a3.toInt) (a4.toInt) ∧ dnum (rowM R (a1.toInt)) (a2.toInt) (a3.toInt) (a4.toInt) ≤ 999999)) (dnum (rowM R (a1.toInt)) (a2.toInt) (a3.toInt) (a4.toInt)) := by
  refine ⟨I, R, _, hW.2.1, (c_X9_dayOf l D t b _ _ I R a1 a2 a3 a4 _ _ _ _ rfl rfl rfl rfl hC.h5 hC.hrow hC.hokF), fun z I1 R1 hp => ?_⟩
  obtain ⟨rfl, hk, hcode, hval⟩ := hp
  exact ⟨hcode, fun h0 => hval (hcode.trans h0), A, B, P, I1, _, pm, φ, hW.mod, hC.mod (hk.wk (by decide)) kpR.rf⟩

theorem m_date (hW : LW t b σ A B P I R φ) (hC : CI t b φ A B P I R pm) (a1 : Int32) (a2 : Int32) (a3 : Int32) : KMod l yX9_date cX9_date 4 (some .int) 7 D t b n σ [.ref (b + 45), .int a1, .int a2, .int a3] (cd3 (0 ≤ (a1.toInt) ∧ (a1.toInt) < (I 5).toInt) ((-999999 ≤ (a2.toInt) ∧ (a2.toInt) ≤ 999999) ∧ 0 ≤ (a3.toInt) ∧ (a3.toInt) ≤ 4) (fst (rowM R (a1.toInt)) (-2000) ≤ (a2.toInt) ∧ (a2.toInt) < fst (rowM R (a1.toInt)) 2001)) (pof (rowM R (a1.toInt)) (a2.toInt) (a3.toInt)) := by
  refine ⟨I, R, _, hW.2.1, (c_X9_date l D t b _ _ I R a1 a2 a3 _ _ _ rfl rfl rfl hC.h5 hC.hrow hC.hokF), fun z I1 R1 hp => ?_⟩
  obtain ⟨rfl, hk, hcode, hval⟩ := hp
  exact ⟨hcode, fun h0 => hval (hcode.trans h0), A, B, P, I1, _, pm, φ, hW.mod, hC.mod (hk.wk (by decide)) kpR.rf⟩

theorem m_convert (hW : LW t b σ A B P I R φ) (hC : CI t b φ A B P I R pm) (a1 : Int32) (a2 : Int32) (a3 : Int32) (a4 : Int32) (a5 : Int32) (a6 : Int32) : KMod l yX9_convert cX9_convert 8 (some .int) 7 D t b n σ [.ref (b + 45), .int a1, .int a2, .int a3, .int a4, .int a5, .int a6] (cd3 ((0 ≤ (a1.toInt) ∧ (a1.toInt) < (I 5).toInt) ∧ 0 ≤ (a5.toInt) ∧ (a5.toInt) < (I 5).toInt) (((((-2000 ≤ (a2.toInt) ∧ (a2.toInt) ≤ 2000) ∧ 1 ≤ (a3.toInt) ∧ (a3.toInt) ≤ mcnt (rowM R (a1.toInt)) (a2.toInt)) ∧ 1 ≤ (a4.toInt) ∧ (a4.toInt) ≤ mlen (rowM R (a1.toInt)) (a2.toInt) (a3.toInt)) ∧ -999999 ≤ dnum (rowM R (a1.toInt)) (a2.toInt) (a3.toInt) (a4.toInt) ∧ dnum (rowM R (a1.toInt)) (a2.toInt) (a3.toInt) (a4.toInt) ≤ 999999) ∧ 0 ≤ (a6.toInt) ∧ (a6.toInt) ≤ 4) (fst (rowM R (a5.toInt)) (-2000) ≤ dnum (rowM R (a1.toInt)) (a2.toInt) (a3.toInt) (a4.toInt) ∧ dnum (rowM R (a1.toInt)) (a2.toInt) (a3.toInt) (a4.toInt) < fst (rowM R (a5.toInt)) 2001)) (pof (rowM R (a5.toInt)) (dnum (rowM R (a1.toInt)) (a2.toInt) (a3.toInt) (a4.toInt)) (a6.toInt)) := by
  refine ⟨I, R, _, hW.2.1, (c_X9_convert l D t b _ _ I R a1 a2 a3 a4 a5 a6 _ _ _ _ _ _ rfl rfl rfl rfl rfl rfl hC.h5 hC.hrow hC.hokF), fun z I1 R1 hp => ?_⟩
  obtain ⟨rfl, hk, hcode, hval⟩ := hp
  exact ⟨hcode, fun h0 => hval (hcode.trans h0), A, B, P, I1, _, pm, φ, hW.mod, hC.mod (hk.wk (by decide)) kpR.rf⟩

theorem m_week (hW : LW t b σ A B P I R φ) (hC : CI t b φ A B P I R pm) (a1 : Int32) (a2 : Int32) (a3 : Int32) : KMod l yX9_week cX9_week 5 (some .int) 4 D t b n σ [.ref (b + 45), .int a1, .int a2, .int a3] (cd3 (0 ≤ (a1.toInt) ∧ (a1.toInt) < (I 5).toInt) ((-999999 ≤ (a2.toInt) ∧ (a2.toInt) ≤ 999999) ∧ 0 ≤ (a3.toInt) ∧ (a3.toInt) ≤ 1) (fst (rowM R (a1.toInt)) (-2000) ≤ (a2.toInt) ∧ (a2.toInt) < fst (rowM R (a1.toInt)) 2001)) ((if (a3.toInt) = 0 then wyr (rowM R (a1.toInt)) (a2.toInt) else ((a2.toInt) - fw (rowM R (a1.toInt)) (wyr (rowM R (a1.toInt)) (a2.toInt))) / rv (rowM R (a1.toInt)) 30 + 1)) := by
  refine ⟨I, R, _, hW.2.1, (c_X9_week l D t b _ _ I R a1 a2 a3 _ _ _ rfl rfl rfl hC.h5 hC.hrow hC.hokF), fun z I1 R1 hp => ?_⟩
  obtain ⟨rfl, hk, hcode, hval⟩ := hp
  exact ⟨hcode, fun h0 => hval (hcode.trans h0), A, B, P, I1, _, pm, φ, hW.mod, hC.mod (hk.wk (by decide)) kpR.rf⟩

theorem m_weeks (hW : LW t b σ A B P I R φ) (hC : CI t b φ A B P I R pm) (a1 : Int32) (a2 : Int32) : KMod l yX9_weeks cX9_weeks 3 (some .int) 4 D t b n σ [.ref (b + 45), .int a1, .int a2] (cd2 (0 ≤ (a1.toInt) ∧ (a1.toInt) < (I 5).toInt) (-2000 ≤ (a2.toInt) ∧ (a2.toInt) ≤ 2000)) ((fw (rowM R (a1.toInt)) ((a2.toInt) + 1) - fw (rowM R (a1.toInt)) (a2.toInt)) / rv (rowM R (a1.toInt)) 30) := by
  refine ⟨I, R, _, hW.2.1, (c_X9_weeks l D t b _ _ I R a1 a2 _ _ rfl rfl hC.h5 hC.hrow hC.hokF), fun z I1 R1 hp => ?_⟩
  obtain ⟨rfl, hk, hcode, hval⟩ := hp
  exact ⟨hcode, fun h0 => hval (hcode.trans h0), A, B, P, I1, _, pm, φ, hW.mod, hC.mod (hk.wk (by decide)) kpR.rf⟩

theorem m_firstDayOfWeek (hW : LW t b σ A B P I R φ) (hC : CI t b φ A B P I R pm) (a1 : Int32) (a2 : Int32) (a3 : Int32) : KMod l yX9_firstDayOfWeek cX9_firstDayOfWeek 4 (some .int) 4 D t b n σ [.ref (b + 45), .int a1, .int a2, .int a3] (cd2 (0 ≤ (a1.toInt) ∧ (a1.toInt) < (I 5).toInt) ((-2000 ≤ (a2.toInt) ∧ (a2.toInt) ≤ 2000) ∧ 1 ≤ (a3.toInt) ∧ (a3.toInt) ≤ ((fw (rowM R (a1.toInt)) ((a2.toInt) + 1) - fw (rowM R (a1.toInt)) (a2.toInt)) / rv (rowM R (a1.toInt)) 30))) (fw (rowM R (a1.toInt)) (a2.toInt) + rv (rowM R (a1.toInt)) 30 * ((a3.toInt) - 1)) := by
  refine ⟨I, R, _, hW.2.1, (c_X9_firstDayOfWeek l D t b _ _ I R a1 a2 a3 _ _ _ rfl rfl rfl hC.h5 hC.hrow hC.hokF), fun z I1 R1 hp => ?_⟩
  obtain ⟨rfl, hk, hcode, hval⟩ := hp
  exact ⟨hcode, fun h0 => hval (hcode.trans h0), A, B, P, I1, _, pm, φ, hW.mod, hC.mod (hk.wk (by decide)) kpR.rf⟩

theorem m_plus (hW : LW t b σ A B P I R φ) (hC : CI t b φ A B P I R pm) (a1 : Int32) (a2 : Int32) (a3 : Int32) : KMod l yX9_plus cX9_plus 5 (some .int) 8 D t b n σ [.ref (b + 45), .int a1, .int a2, .int a3] ((if 0 < cd3 (0 ≤ (a1.toInt) ∧ (a1.toInt) < (I 5).toInt) ((-999999 ≤ (a2.toInt) ∧ (a2.toInt) ≤ 999999) ∧ -9999 ≤ (a3.toInt) ∧ (a3.toInt) ≤ 9999) (fst (rowM R (a1.toInt)) (-2000) ≤ (a2.toInt) ∧ (a2.toInt) < fst (rowM R (a1.toInt)) 2001) then cd3 (0 ≤ (a1.toInt) ∧ (a1.toInt) < (I 5).toInt) ((-999999 ≤ (a2.toInt) ∧ (a2.toInt) ≤ 999999) ∧ -9999 ≤ (a3.toInt) ∧ (a3.toInt) ≤ 9999) (fst (rowM R (a1.toInt)) (-2000) ≤ (a2.toInt) ∧ (a2.toInt) < fst (rowM R (a1.toInt)) 2001) else if mlat (rowM R (a1.toInt)) (a2.toInt) (a3.toInt) = -2147483647 then 3 else 0)) (mlat (rowM R (a1.toInt)) (a2.toInt) (a3.toInt)) := by
  refine ⟨I, R, _, hW.2.1, (c_X9_plus l D t b _ _ I R a1 a2 a3 _ _ _ rfl rfl rfl hC.h5 hC.hrow hC.hokF), fun z I1 R1 hp => ?_⟩
  obtain ⟨rfl, hk, hcode, hval⟩ := hp
  exact ⟨hcode, fun h0 => hval (hcode.trans h0), A, B, P, I1, _, pm, φ, hW.mod, hC.mod (hk.wk (by decide)) kpR.rf⟩

theorem m_plusYears (hW : LW t b σ A B P I R φ) (hC : CI t b φ A B P I R pm) (a1 : Int32) (a2 : Int32) (a3 : Int32) : KMod l yX9_plusYears cX9_plusYears 5 (some .int) 8 D t b n σ [.ref (b + 45), .int a1, .int a2, .int a3] ((if 0 < cd3 (0 ≤ (a1.toInt) ∧ (a1.toInt) < (I 5).toInt) ((-999999 ≤ (a2.toInt) ∧ (a2.toInt) ≤ 999999) ∧ -4000 ≤ (a3.toInt) ∧ (a3.toInt) ≤ 4000) (fst (rowM R (a1.toInt)) (-2000) ≤ (a2.toInt) ∧ (a2.toInt) < fst (rowM R (a1.toInt)) 2001) then cd3 (0 ≤ (a1.toInt) ∧ (a1.toInt) < (I 5).toInt) ((-999999 ≤ (a2.toInt) ∧ (a2.toInt) ≤ 999999) ∧ -4000 ≤ (a3.toInt) ∧ (a3.toInt) ≤ 4000) (fst (rowM R (a1.toInt)) (-2000) ≤ (a2.toInt) ∧ (a2.toInt) < fst (rowM R (a1.toInt)) 2001) else if ylat (rowM R (a1.toInt)) (a2.toInt) (a3.toInt) = -2147483647 then 3 else 0)) (ylat (rowM R (a1.toInt)) (a2.toInt) (a3.toInt)) := by
  refine ⟨I, R, _, hW.2.1, (c_X9_plusYears l D t b _ _ I R a1 a2 a3 _ _ _ rfl rfl rfl hC.h5 hC.hrow hC.hokF), fun z I1 R1 hp => ?_⟩
  obtain ⟨rfl, hk, hcode, hval⟩ := hp
  exact ⟨hcode, fun h0 => hval (hcode.trans h0), A, B, P, I1, _, pm, φ, hW.mod, hC.mod (hk.wk (by decide)) kpR.rf⟩

theorem m_span (hW : LW t b σ A B P I R φ) (hC : CI t b φ A B P I R pm) (a1 : Int32) (a2 : Int32) (a3 : Int32) (a4 : Int32) : KMod l yX9_span cX9_span 8 (some .int) 8 D t b n σ [.ref (b + 45), .int a1, .int a2, .int a3, .int a4] (cd3 (0 ≤ (a1.toInt) ∧ (a1.toInt) < (I 5).toInt) ((-999999 ≤ (a2.toInt) ∧ (a2.toInt) ≤ 999999) ∧ ((a2.toInt) ≤ (a3.toInt) ∧ (a3.toInt) ≤ 999999) ∧ 0 ≤ (a4.toInt) ∧ (a4.toInt) ≤ 2) ((fst (rowM R (a1.toInt)) (-2000) ≤ (a2.toInt) ∧ (a2.toInt) < fst (rowM R (a1.toInt)) 2001) ∧ fst (rowM R (a1.toInt)) (-2000) ≤ (a3.toInt) ∧ (a3.toInt) < fst (rowM R (a1.toInt)) 2001)) ((if (a4.toInt) = 0 then spY (rowM R (a1.toInt)) (a2.toInt) (a3.toInt) else if (a4.toInt) = 1 then spM (rowM R (a1.toInt)) (ylat (rowM R (a1.toInt)) (a2.toInt) (spY (rowM R (a1.toInt)) (a2.toInt) (a3.toInt))) (a3.toInt) else (a3.toInt) - mlat (rowM R (a1.toInt)) (ylat (rowM R (a1.toInt)) (a2.toInt) (spY (rowM R (a1.toInt)) (a2.toInt) (a3.toInt))) (spM (rowM R (a1.toInt)) (ylat (rowM R (a1.toInt)) (a2.toInt) (spY (rowM R (a1.toInt)) (a2.toInt) (a3.toInt))) (a3.toInt)))) := by
  refine ⟨I, R, _, hW.2.1, (c_X9_span l D t b _ _ I R a1 a2 a3 a4 _ _ _ _ rfl rfl rfl rfl hC.h5 hC.hrow hC.hokF), fun z I1 R1 hp => ?_⟩
  obtain ⟨rfl, hk, hcode, hval⟩ := hp
  exact ⟨hcode, fun h0 => hval (hcode.trans h0), A, B, P, I1, _, pm, φ, hW.mod, hC.mod (hk.wk (by decide)) kpR.rf⟩

theorem m_calendar (hW : LW t b σ A B P I R φ) (hC : CI t b φ A B P I R pm) (a1 : Int32) (a2 : Int32) : KMod l yX9_calendar cX9_calendar 3 (some .int) 2 D t b n σ [.ref (b + 45), .int a1, .int a2] (cd2 (0 ≤ (a1.toInt) ∧ (a1.toInt) < (I 5).toInt) (0 ≤ (a2.toInt) ∧ (a2.toInt) ≤ 7)) (calp (rowM R (a1.toInt)) (a2.toInt)) := by
  refine ⟨I, R, _, hW.2.1, (c_X9_calendar l D t b _ _ I R a1 a2 _ _ rfl rfl hC.h5 hC.hrow hC.hokF), fun z I1 R1 hp => ?_⟩
  obtain ⟨rfl, hk, hcode, hval⟩ := hp
  exact ⟨hcode, fun h0 => hval (hcode.trans h0), A, B, P, I1, _, pm, φ, hW.mod, hC.mod (hk.wk (by decide)) kpR.rf⟩

theorem m_newYears (hW : LW t b σ A B P I R φ) (hC : CI t b φ A B P I R pm) (a1 : Int32) (a2 : Int32) (a3 : Int32) (a4 : Int32) : KMod l yX9_newYears cX9_newYears 9 (some .int) 3 D t b n σ [.ref (b + 45), .int a1, .int a2, .int a3, .int a4] (cd2 ((0 ≤ (a1.toInt) ∧ (a1.toInt) < (I 5).toInt) ∧ 0 ≤ (a2.toInt) ∧ (a2.toInt) < (I 5).toInt) ((-2000 ≤ (a3.toInt) ∧ (a3.toInt) ≤ 2000) ∧ (a3.toInt) ≤ (a4.toInt) ∧ (a4.toInt) ≤ 2000)) (nyN (rowM R (a1.toInt)) (rowM R (a2.toInt)) (a3.toInt) ((a4.toInt) + 1 - (a3.toInt)).toNat) := by
  refine ⟨I, R, _, hW.2.1, (c_X9_newYears l D t b _ _ I R a1 a2 a3 a4 _ _ _ _ rfl rfl rfl rfl hC.h5 hC.hrow hC.hokF), fun z I1 R1 hp => ?_⟩
  obtain ⟨rfl, hk, hcode, hval⟩ := hp
  exact ⟨hcode, fun h0 => hval (hcode.trans h0), A, B, P, I1, _, pm, φ, hW.mod, hC.mod (hk.wk (by decide)) kpR.rf⟩

theorem m_reading (hW : LW t b σ A B P I R φ) (hC : CI t b φ A B P I R pm) (a1 : Int32) (a2 : Int32) : KMod l yX9_reading cX9_reading 3 (some .int) 1 D t b n σ [.ref (b + 45), .int a1, .int a2] (cd2 (0 ≤ (a1.toInt) ∧ (a1.toInt) ≤ (I 23).toInt - 1) (0 ≤ (a2.toInt) ∧ (a2.toInt) ≤ 2)) ((if (a2.toInt) = 0 then (R 20 (a1.toInt).toNat).toInt else if (a2.toInt) = 1 then (R 21 (a1.toInt).toNat).toInt else (R 22 (a1.toInt).toNat).toInt)) := by
  refine ⟨I, R, _, hW.2.1, (c_X9_reading l D t b _ _ I R a1 a2 _ _ rfl rfl hC.2.2.2.2.2.1.2.1), fun z I1 R1 hp => ?_⟩
  obtain ⟨rfl, hk, hcode, hval⟩ := hp
  exact ⟨hcode, fun h0 => hval (hcode.trans h0), A, B, P, I1, _, pm, φ, hW.mod, hC.mod (hk.wk (by decide)) kpR.rf⟩

theorem m_feast (hW : LW t b σ A B P I R φ) (hC : CI t b φ A B P I R pm) (a1 : Int32) (a2 : Int32) : KMod l yX9_feast cX9_feast 3 (some .int) 10 D t b n σ [.ref (b + 45), .int a1, .int a2] ((if 0 < cd2 (0 ≤ (a1.toInt) ∧ (a1.toInt) < (I 19).toInt) (-2000 ≤ (a2.toInt) ∧ (a2.toInt) ≤ 2000) then cd2 (0 ≤ (a1.toInt) ∧ (a1.toInt) < (I 19).toInt) (-2000 ≤ (a2.toInt) ∧ (a2.toInt) ≤ 2000) else if fday (rowM R) (feM R) (a2.toInt) (a1.toInt) = -2147483647 then 3 else 0)) (fday (rowM R) (feM R) (a2.toInt) (a1.toInt)) := by
  refine ⟨I, R, _, hW.2.1, (c_X9_feast l D t b _ _ I R a1 a2 _ _ rfl rfl hC.h5 hC.hrow hC.hokF hC.h19 hC.hfe), fun z I1 R1 hp => ?_⟩
  obtain ⟨hk, hR, hcode, hval⟩ := hp
  exact ⟨hcode, fun h0 => hval (hcode.trans h0), A, B, P, I1, _, pm, φ, hW.mod, hC.mod (hk.wk (by decide)) (hR.wk (by decide))⟩

theorem m_placedFeast (hW : LW t b σ A B P I R φ) (hC : CI t b φ A B P I R pm) (a1 : Int32) (a2 : Int32) : KMod l yX9_placedFeast cX9_placedFeast 3 (some .int) 11 D t b n σ [.ref (b + 45), .int a1, .int a2] ((if 0 < cd2 (0 ≤ (a1.toInt) ∧ (a1.toInt) < (I 19).toInt) (-2000 ≤ (a2.toInt) ∧ (a2.toInt) ≤ 2000) then cd2 (0 ≤ (a1.toInt) ∧ (a1.toInt) < (I 19).toInt) (-2000 ≤ (a2.toInt) ∧ (a2.toInt) ≤ 2000) else if (plc (fun j => (feM R j 1).toInt) (fday (rowM R) (feM R) (a2.toInt)) (I 19).toInt (a1.toInt)) = -2147483647 then 3 else 0)) (plc (fun j => (feM R j 1).toInt) (fday (rowM R) (feM R) (a2.toInt)) (I 19).toInt (a1.toInt)) := by
  refine ⟨I, R, _, hW.2.1, (c_X9_placedFeast l D t b _ _ I R a1 a2 _ _ rfl rfl hC.h5 hC.hrow hC.hokF hC.h19 hC.hfe), fun z I1 R1 hp => ?_⟩
  obtain ⟨hk, hR, hcode, hval⟩ := hp
  exact ⟨hcode, fun h0 => hval (hcode.trans h0), A, B, P, I1, _, pm, φ, hW.mod, hC.mod (hk.wk (by decide)) (hR.wk (by decide))⟩

theorem m_feastOn (hW : LW t b σ A B P I R φ) (hC : CI t b φ A B P I R pm) (a1 : Int32) (a2 : Int32) : KMod l yX9_feastOn cX9_feastOn 4 (some .int) 11 D t b n σ [.ref (b + 45), .int a1, .int a2] ((if (-2000 ≤ (a1.toInt) ∧ (a1.toInt) ≤ 2000) ∧ -999999 ≤ (a2.toInt) ∧ (a2.toInt) ≤ 999999 then (if 0 ≤ ffN (plc (fun j => (feM R j 1).toInt) (fday (rowM R) (feM R) (a1.toInt)) (I 19).toInt) (a2.toInt) (I 19).toInt (I 19).toInt.toNat then 0 else 2) else 1)) (ffN (plc (fun j => (feM R j 1).toInt) (fday (rowM R) (feM R) (a1.toInt)) (I 19).toInt) (a2.toInt) (I 19).toInt (I 19).toInt.toNat) := by
  refine ⟨I, R, _, hW.2.1, (c_X9_feastOn l D t b _ _ I R a1 a2 _ _ rfl rfl hC.h5 hC.hrow hC.hokF hC.h19 hC.hfe), fun z I1 R1 hp => ?_⟩
  obtain ⟨hk, hR, hcode, hval⟩ := hp
  exact ⟨hcode, fun h0 => hval (hcode.trans h0), A, B, P, I1, _, pm, φ, hW.mod, hC.mod (hk.wk (by decide)) (hR.wk (by decide))⟩

theorem m_meetingYear (hW : LW t b σ A B P I R φ) (hC : CI t b φ A B P I R pm) (a1 : Int32) (a2 : Int32) (a3 : Int32) : KMod l yX9_meetingYear cX9_meetingYear 5 (some .int) 11 D t b n σ [.ref (b + 45), .int a1, .int a2, .int a3] ((if (0 ≤ (a1.toInt) ∧ (a1.toInt) < (I 19).toInt) ∧ 0 ≤ (a2.toInt) ∧ (a2.toInt) < (I 19).toInt then (if (a1.toInt) ≠ (a2.toInt) ∧ -2000 ≤ (a3.toInt) ∧ (a3.toInt) ≤ 1801 then (if mtN (fun yy => fday (rowM R) (feM R) yy (a1.toInt)) (fun yy => fday (rowM R) (feM R) yy (a2.toInt)) ((a3.toInt) + 200) 200 = -2147483647 then 3 else 0) else 2) else 1)) (mtN (fun yy => fday (rowM R) (feM R) yy (a1.toInt)) (fun yy => fday (rowM R) (feM R) yy (a2.toInt)) ((a3.toInt) + 200) 200) := by
  refine ⟨I, R, _, hW.2.1, (c_X9_meetingYear l D t b _ _ I R a1 a2 a3 _ _ _ rfl rfl rfl hC.h5 hC.hrow hC.hokF hC.h19 hC.hfe), fun z I1 R1 hp => ?_⟩
  obtain ⟨hk, hR, hcode, hval⟩ := hp
  exact ⟨hcode, fun h0 => hval (hcode.trans h0), A, B, P, I1, _, pm, φ, hW.mod, hC.mod (hk.wk (by decide)) (hR.wk (by decide))⟩

theorem m_output (hW : LW t b σ A B P I R φ) (hC : CI t b φ A B P I R pm) (a1 : Int32) : KMod l yX9_output cX9_output 2 (some .char) 1 D t b n σ [.ref (b + 45), .int a1] ((if 0 ≤ (a1.toInt) ∧ (a1.toInt) ≤ (I 25).toInt - 1 then 0 else 1)) ((R 24 (a1.toInt).toNat).toInt) := by
  refine ⟨I, R, _, hW.2.1, (c_X9_output l D t b _ _ I R a1 _ rfl ⟨hC.2.2.2.2.2.2.2.1.1, Int.le_trans hC.2.2.2.2.2.2.2.1.2 (by decide)⟩ (fun j j0 j1 => (hC.2.2.2.2.2.2.2.2 j.toNat (by omega)).2)), fun z I1 R1 hp => ?_⟩
  obtain ⟨rfl, hk, hcode, hval⟩ := hp
  exact ⟨hcode, fun h0 => hval (hcode.trans h0), A, B, P, I1, _, pm, φ, hW.mod, hC.mod (hk.wk (by decide)) kpR.rf⟩
theorem k_isLeapYear (hl0 : l.stackTraces = false) (hI : LI t b σ) (a1 : Int32) (a2 : Int32) : lC l yL_isLeapYear cL_isLeapYear 5 [(0, 17, 20, 20), (0, 17, 24, 13)] 8 2 12 D t b n σ [.ref (b + 0), .int a1, .int a2, .ref (b + 60)] (KPb l yX9_isLeapYear cX9_isLeapYear 3 (some .boolean) 4 D t b [.ref (b + 45), .int a1, .int a2]) := by
  obtain ⟨A, B, P, I, R, pm, φ, hW, hC⟩ := hI
  have hM := (c_X8_isLeapYear l D t b n σ A B P hl0 (rowM R) (feM R) (hC.stq hW.fr) a1 _ rfl a2 _ rfl)
  rw [← hW.1] at hM
  have e20 : A 20 = I 5 := hC.2.2.1.1
  have e21 : A 21 = I 19 := hC.2.2.1.2.1
  have e36 : A 36 = I 23 := hC.2.2.2.2.2.1.1
  have e37 : A 37 = I 25 := hC.2.2.2.2.2.2.1
  refine c_L_isLeapYear l D t b n σ a1 a2 ((congrFun hW.1 0).trans rfl) hM (fun hlt v n1 σ1 hp => ?_) (fun hlt E n1 σ1 hx => ?_)
  · obtain ⟨hn1, hs1, hc, hv⟩ := hp
    rw [hn1, hs1]
    rw [e20] at hc
    refine ⟨hW.2.2.1, fun f hf => ?_⟩
    have hm := m_isLeapYear (l := l) (D := D) (n := n) (hW.o60 (f := f)) hC a1 a2
    refine KPb.good hm hf ?_ (bI_01 _) hc
    rw [hv]
    exact i64_b _
  · obtain ⟨hs1, hc⟩ := hx
    rw [hs1]
    rw [e20] at hc
    have hm := m_isLeapYear (l := l) (D := D) (n := n1) hW hC a1 a2
    have hle : (cd2 (0 ≤ (a1.toInt) ∧ (a1.toInt) < (I 5).toInt) (-2000 ≤ (a2.toInt) ∧ (a2.toInt) ≤ 2000) : Int) ≤ 2 := by
      exact cd2_le
    rcases xEc hc with ⟨rfl, q⟩ | ⟨rfl, q⟩ | ⟨rfl, q⟩ | q
    · exact Or.inl ⟨rfl, KPb.bad hW.2.2.1 hm (j := 1) rfl (by decide) q⟩
    · exact Or.inr (⟨rfl, KPb.bad hW.2.2.1 hm (j := 2) rfl (by decide) q⟩)
    · exact (by rw [q] at hle; exact absurd hle (by decide))
    · exact (by rw [q] at hle; exact absurd hle (by decide))

theorem k_months (hl0 : l.stackTraces = false) (hI : LI t b σ) (a1 : Int32) (a2 : Int32) : lC l yL_months cL_months 5 [(0, 10, 13, 20), (0, 10, 17, 13)] 8 2 12 D t b n σ [.ref (b + 0), .int a1, .int a2, .ref (b + 60)] (KP l yX9_months cX9_months 3 (some .int) 4 D t b [.ref (b + 45), .int a1, .int a2]) := by
  obtain ⟨A, B, P, I, R, pm, φ, hW, hC⟩ := hI
  have hM := (c_X8_months l D t b n σ A B P hl0 (rowM R) (feM R) (hC.stq hW.fr) a1 _ rfl a2 _ rfl)
  rw [← hW.1] at hM
  have e20 : A 20 = I 5 := hC.2.2.1.1
  have e21 : A 21 = I 19 := hC.2.2.1.2.1
  have e36 : A 36 = I 23 := hC.2.2.2.2.2.1.1
  have e37 : A 37 = I 25 := hC.2.2.2.2.2.2.1
  refine c_L_months l D t b n σ a1 a2 ((congrFun hW.1 0).trans rfl) hM (fun hlt v n1 σ1 hp => ?_) (fun hlt E n1 σ1 hx => ?_)
  · obtain ⟨hn1, hs1, hc, hv⟩ := hp
    rw [hn1, hs1]
    rw [e20] at hc
    refine ⟨hW.2.2.1, fun f hf => ?_⟩
    have hm := m_months (l := l) (D := D) (n := n) (hW.o60 (f := f)) hC a1 a2
    exact KP.good hm hf ((i64_t v).trans hv) hc
  · obtain ⟨hs1, hc⟩ := hx
    rw [hs1]
    rw [e20] at hc
    have hm := m_months (l := l) (D := D) (n := n1) hW hC a1 a2
    have hle : (cd2 (0 ≤ (a1.toInt) ∧ (a1.toInt) < (I 5).toInt) (-2000 ≤ (a2.toInt) ∧ (a2.toInt) ≤ 2000) : Int) ≤ 2 := by
      exact cd2_le
    rcases xEc hc with ⟨rfl, q⟩ | ⟨rfl, q⟩ | ⟨rfl, q⟩ | q
    · exact Or.inl ⟨rfl, KP.bad hW.2.2.1 hm (j := 1) rfl (by decide) q⟩
    · exact Or.inr (⟨rfl, KP.bad hW.2.2.1 hm (j := 2) rfl (by decide) q⟩)
    · exact (by rw [q] at hle; exact absurd hle (by decide))
    · exact (by rw [q] at hle; exact absurd hle (by decide))

theorem k_monthLength (hl0 : l.stackTraces = false) (hI : LI t b σ) (a1 : Int32) (a2 : Int32) (a3 : Int32) : lC l yL_monthLength cL_monthLength 6 [(0, 12, 15, 20), (0, 12, 19, 13)] 8 2 12 D t b n σ [.ref (b + 0), .int a1, .int a2, .int a3, .ref (b + 60)] (KP l yX9_monthLength cX9_monthLength 4 (some .int) 6 D t b [.ref (b + 45), .int a1, .int a2, .int a3]) := by
  obtain ⟨A, B, P, I, R, pm, φ, hW, hC⟩ := hI
  have hM := (c_X8_monthLength l D t b n σ A B P hl0 (rowM R) (feM R) (hC.stq hW.fr) a1 _ rfl a2 _ rfl a3 _ rfl)
  rw [← hW.1] at hM
  have e20 : A 20 = I 5 := hC.2.2.1.1
  have e21 : A 21 = I 19 := hC.2.2.1.2.1
  have e36 : A 36 = I 23 := hC.2.2.2.2.2.1.1
  have e37 : A 37 = I 25 := hC.2.2.2.2.2.2.1
  refine c_L_monthLength l D t b n σ a1 a2 a3 ((congrFun hW.1 0).trans rfl) hM (fun hlt v n1 σ1 hp => ?_) (fun hlt E n1 σ1 hx => ?_)
  · obtain ⟨hn1, hs1, hc, hv⟩ := hp
    rw [hn1, hs1]
    rw [e20] at hc
    refine ⟨hW.2.2.1, fun f hf => ?_⟩
    have hm := m_monthLength (l := l) (D := D) (n := n) (hW.o60 (f := f)) hC a1 a2 a3
    exact KP.good hm hf ((i64_t v).trans hv) hc
  · obtain ⟨hs1, hc⟩ := hx
    rw [hs1]
    rw [e20] at hc
    have hm := m_monthLength (l := l) (D := D) (n := n1) hW hC a1 a2 a3
    have hle : (cd2 (0 ≤ (a1.toInt) ∧ (a1.toInt) < (I 5).toInt) ((-2000 ≤ (a2.toInt) ∧ (a2.toInt) ≤ 2000) ∧ 1 ≤ (a3.toInt) ∧ (a3.toInt) ≤ mcnt (rowM R (a1.toInt)) (a2.toInt)) : Int) ≤ 2 := by
      exact cd2_le
    rcases xEc hc with ⟨rfl, q⟩ | ⟨rfl, q⟩ | ⟨rfl, q⟩ | q
    · exact Or.inl ⟨rfl, KP.bad hW.2.2.1 hm (j := 1) rfl (by decide) q⟩
    · exact Or.inr (⟨rfl, KP.bad hW.2.2.1 hm (j := 2) rfl (by decide) q⟩)
    · exact (by rw [q] at hle; exact absurd hle (by decide))
    · exact (by rw [q] at hle; exact absurd hle (by decide))

theorem k_isIntercalary (hl0 : l.stackTraces = false) (hI : LI t b σ) (a1 : Int32) (a2 : Int32) (a3 : Int32) : lC l yL_isIntercalary cL_isIntercalary 6 [(0, 19, 22, 20), (0, 19, 26, 13)] 8 2 12 D t b n σ [.ref (b + 0), .int a1, .int a2, .int a3, .ref (b + 60)] (KPb l yX9_isIntercalary cX9_isIntercalary 4 (some .boolean) 6 D t b [.ref (b + 45), .int a1, .int a2, .int a3]) := by
  obtain ⟨A, B, P, I, R, pm, φ, hW, hC⟩ := hI
  have hM := (c_X8_isIntercalary l D t b n σ A B P hl0 (rowM R) (feM R) (hC.stq hW.fr) a1 _ rfl a2 _ rfl a3 _ rfl)
  rw [← hW.1] at hM
  have e20 : A 20 = I 5 := hC.2.2.1.1
  have e21 : A 21 = I 19 := hC.2.2.1.2.1
  have e36 : A 36 = I 23 := hC.2.2.2.2.2.1.1
  have e37 : A 37 = I 25 := hC.2.2.2.2.2.2.1
  refine c_L_isIntercalary l D t b n σ a1 a2 a3 ((congrFun hW.1 0).trans rfl) hM (fun hlt v n1 σ1 hp => ?_) (fun hlt E n1 σ1 hx => ?_)
  · obtain ⟨hn1, hs1, hc, hv⟩ := hp
    rw [hn1, hs1]
    rw [e20] at hc
    refine ⟨hW.2.2.1, fun f hf => ?_⟩
    have hm := m_isIntercalary (l := l) (D := D) (n := n) (hW.o60 (f := f)) hC a1 a2 a3
    refine KPb.good hm hf ?_ (bI_01 _) hc
    rw [hv]
    exact i64_b _
  · obtain ⟨hs1, hc⟩ := hx
    rw [hs1]
    rw [e20] at hc
    have hm := m_isIntercalary (l := l) (D := D) (n := n1) hW hC a1 a2 a3
    have hle : (cd2 (0 ≤ (a1.toInt) ∧ (a1.toInt) < (I 5).toInt) ((-2000 ≤ (a2.toInt) ∧ (a2.toInt) ≤ 2000) ∧ 1 ≤ (a3.toInt) ∧ (a3.toInt) ≤ mcnt (rowM R (a1.toInt)) (a2.toInt)) : Int) ≤ 2 := by
      exact cd2_le
    rcases xEc hc with ⟨rfl, q⟩ | ⟨rfl, q⟩ | ⟨rfl, q⟩ | q
    · exact Or.inl ⟨rfl, KPb.bad hW.2.2.1 hm (j := 1) rfl (by decide) q⟩
    · exact Or.inr (⟨rfl, KPb.bad hW.2.2.1 hm (j := 2) rfl (by decide) q⟩)
    · exact (by rw [q] at hle; exact absurd hle (by decide))
    · exact (by rw [q] at hle; exact absurd hle (by decide))

theorem k_yearLength (hl0 : l.stackTraces = false) (hI : LI t b σ) (a1 : Int32) (a2 : Int32) : lC l yL_yearLength cL_yearLength 5 [(0, 10, 13, 20), (0, 10, 17, 13)] 8 2 12 D t b n σ [.ref (b + 0), .int a1, .int a2, .ref (b + 60)] (KP l yX9_yearLength cX9_yearLength 3 (some .int) 4 D t b [.ref (b + 45), .int a1, .int a2]) := by
  obtain ⟨A, B, P, I, R, pm, φ, hW, hC⟩ := hI
  have hM := (c_X8_yearLength l D t b n σ A B P hl0 (rowM R) (feM R) (hC.stq hW.fr) a1 _ rfl a2 _ rfl)
  rw [← hW.1] at hM
  have e20 : A 20 = I 5 := hC.2.2.1.1
  have e21 : A 21 = I 19 := hC.2.2.1.2.1
  have e36 : A 36 = I 23 := hC.2.2.2.2.2.1.1
  have e37 : A 37 = I 25 := hC.2.2.2.2.2.2.1
  refine c_L_yearLength l D t b n σ a1 a2 ((congrFun hW.1 0).trans rfl) hM (fun hlt v n1 σ1 hp => ?_) (fun hlt E n1 σ1 hx => ?_)
  · obtain ⟨hn1, hs1, hc, hv⟩ := hp
    rw [hn1, hs1]
    rw [e20] at hc
    refine ⟨hW.2.2.1, fun f hf => ?_⟩
    have hm := m_yearLength (l := l) (D := D) (n := n) (hW.o60 (f := f)) hC a1 a2
    exact KP.good hm hf ((i64_t v).trans hv) hc
  · obtain ⟨hs1, hc⟩ := hx
    rw [hs1]
    rw [e20] at hc
    have hm := m_yearLength (l := l) (D := D) (n := n1) hW hC a1 a2
    have hle : (cd2 (0 ≤ (a1.toInt) ∧ (a1.toInt) < (I 5).toInt) (-2000 ≤ (a2.toInt) ∧ (a2.toInt) ≤ 2000) : Int) ≤ 2 := by
      exact cd2_le
    rcases xEc hc with ⟨rfl, q⟩ | ⟨rfl, q⟩ | ⟨rfl, q⟩ | q
    · exact Or.inl ⟨rfl, KP.bad hW.2.2.1 hm (j := 1) rfl (by decide) q⟩
    · exact Or.inr (⟨rfl, KP.bad hW.2.2.1 hm (j := 2) rfl (by decide) q⟩)
    · exact (by rw [q] at hle; exact absurd hle (by decide))
    · exact (by rw [q] at hle; exact absurd hle (by decide))

theorem k_firstDay (hl0 : l.stackTraces = false) (hI : LI t b σ) (a1 : Int32) (a2 : Int32) : lC l yL_firstDay cL_firstDay 5 [(0, 10, 13, 20), (0, 10, 17, 13)] 8 2 12 D t b n σ [.ref (b + 0), .int a1, .int a2, .ref (b + 60)] (KP l yX9_firstDay cX9_firstDay 3 (some .int) 4 D t b [.ref (b + 45), .int a1, .int a2]) := by
  obtain ⟨A, B, P, I, R, pm, φ, hW, hC⟩ := hI
  have hM := (c_X8_firstDay l D t b n σ A B P hl0 (rowM R) (feM R) (hC.stq hW.fr) a1 _ rfl a2 _ rfl)
  rw [← hW.1] at hM
  have e20 : A 20 = I 5 := hC.2.2.1.1
  have e21 : A 21 = I 19 := hC.2.2.1.2.1
  have e36 : A 36 = I 23 := hC.2.2.2.2.2.1.1
  have e37 : A 37 = I 25 := hC.2.2.2.2.2.2.1
  refine c_L_firstDay l D t b n σ a1 a2 ((congrFun hW.1 0).trans rfl) hM (fun hlt v n1 σ1 hp => ?_) (fun hlt E n1 σ1 hx => ?_)
  · obtain ⟨hn1, hs1, hc, hv⟩ := hp
    rw [hn1, hs1]
    rw [e20] at hc
    refine ⟨hW.2.2.1, fun f hf => ?_⟩
    have hm := m_firstDay (l := l) (D := D) (n := n) (hW.o60 (f := f)) hC a1 a2
    exact KP.good hm hf ((i64_t v).trans hv) hc
  · obtain ⟨hs1, hc⟩ := hx
    rw [hs1]
    rw [e20] at hc
    have hm := m_firstDay (l := l) (D := D) (n := n1) hW hC a1 a2
    have hle : (cd2 (0 ≤ (a1.toInt) ∧ (a1.toInt) < (I 5).toInt) (-2000 ≤ (a2.toInt) ∧ (a2.toInt) ≤ 2000) : Int) ≤ 2 := by
      exact cd2_le
    rcases xEc hc with ⟨rfl, q⟩ | ⟨rfl, q⟩ | ⟨rfl, q⟩ | q
    · exact Or.inl ⟨rfl, KP.bad hW.2.2.1 hm (j := 1) rfl (by decide) q⟩
    · exact Or.inr (⟨rfl, KP.bad hW.2.2.1 hm (j := 2) rfl (by decide) q⟩)
    · exact (by rw [q] at hle; exact absurd hle (by decide))
    · exact (by rw [q] at hle; exact absurd hle (by decide))

theorem k_dayOf (hl0 : l.stackTraces = false) (hI : LI t b σ) (a1 : Int32) (a2 : Int32) (a3 : Int32) (a4 : Int32) : lC l yL_dayOf cL_dayOf 7 [(0, 14, 17, 20), (0, 14, 21, 13)] 8 2 12 D t b n σ [.ref (b + 0), .int a1, .int a2, .int a3, .int a4, .ref (b + 60)] (KP l yX9_dayOf cX9_dayOf 5 (some .int) 7 D t b [.ref (b + 45), .int a1, .int a2, .int a3, .int a4]) := by
  obtain ⟨A, B, P, I, R, pm, φ, hW, hC⟩ := hI
  have hM := (c_X8_dayOf l D t b n σ A B P hl0 (rowM R) (feM R) (hC.stq hW.fr) a1 _ rfl a2 _ rfl a3 _ rfl a4 _ rfl)
  rw [← hW.1] at hM
  have e20 : A 20 = I 5 := hC.2.2.1.1
  have e21 : A 21 = I 19 := hC.2.2.1.2.1
  have e36 : A 36 = I 23 := hC.2.2.2.2.2.1.1
  have e37 : A 37 = I 25 := hC.2.2.2.2.2.2.1
  refine c_L_dayOf l D t b n σ a1 a2 a3 a4 ((congrFun hW.1 0).trans rfl) hM (fun hlt v n1 σ1 hp => ?_) (fun hlt E n1 σ1 hx => ?_)
  · obtain ⟨hn1, hs1, hc, hv⟩ := hp
    rw [hn1, hs1]
    rw [e20] at hc
    refine ⟨hW.2.2.1, fun f hf => ?_⟩
    have hm := m_dayOf (l := l) (D := D) (n := n) (hW.o60 (f := f)) hC a1 a2 a3 a4
    exact KP.good hm hf ((i64_t v).trans hv) hc
  · obtain ⟨hs1, hc⟩ := hx
    rw [hs1]
    rw [e20] at hc
    have hm := m_dayOf (l := l) (D := D) (n := n1) hW hC a1 a2 a3 a4
    have hle : (cd2 (0 ≤ (a1.toInt) ∧ (a1.toInt) < (I 5).toInt) ((((-2000 ≤ (a2.toInt) ∧ (a2.toInt) ≤ 2000) ∧ 1 ≤ (a3.toInt) ∧ (a3.toInt) ≤ mcnt (rowM R (a1.toInt)) (a2.toInt)) ∧ 1 ≤ (a4.toInt) ∧ (a4.toInt) ≤ mlen (rowM R (a1.toInt)) (a2.toInt) (a3.toInt)) ∧ -999999 ≤ dnum (rowM R (a1.toInt)) (a2.toInt) (a3.toInt) (a4.toInt) ∧ dnum (rowM R (a1.toInt)) (a2.toInt) (a3.toInt) (a4.toInt) ≤ 999999) : Int) ≤ 2 := by
      exact cd2_le
    rcases xEc hc with ⟨rfl, q⟩ | ⟨rfl, q⟩ | ⟨rfl, q⟩ | q
    · exact Or.inl ⟨rfl, KP.bad hW.2.2.1 hm (j := 1) rfl (by decide) q⟩
    · exact Or.inr (⟨rfl, KP.bad hW.2.2.1 hm (j := 2) rfl (by decide) q⟩)
    · exact (by rw [q] at hle; exact absurd hle (by decide))
    · exact (by rw [q] at hle; exact absurd hle (by decide))

theorem k_date (hl0 : l.stackTraces = false) (hI : LI t b σ) (a1 : Int32) (a2 : Int32) (a3 : Int32) : lC l yL_date cL_date 6 [(0, 12, 15, 20), (0, 12, 19, 13), (0, 12, 23, 54)] 8 3 18 D t b n σ [.ref (b + 0), .int a1, .int a2, .int a3, .ref (b + 60)] (KP l yX9_date cX9_date 4 (some .int) 7 D t b [.ref (b + 45), .int a1, .int a2, .int a3]) := by
  obtain ⟨A, B, P, I, R, pm, φ, hW, hC⟩ := hI
  have hM := (c_X8_date l D t b n σ A B P hl0 (rowM R) (feM R) (hC.stq hW.fr) a1 _ rfl a2 _ rfl a3 _ rfl)
  rw [← hW.1] at hM
  have e20 : A 20 = I 5 := hC.2.2.1.1
  have e21 : A 21 = I 19 := hC.2.2.1.2.1
  have e36 : A 36 = I 23 := hC.2.2.2.2.2.1.1
  have e37 : A 37 = I 25 := hC.2.2.2.2.2.2.1
  refine c_L_date l D t b n σ a1 a2 a3 ((congrFun hW.1 0).trans rfl) hM (fun hlt v n1 σ1 hp => ?_) (fun hlt E n1 σ1 hx => ?_)
  · obtain ⟨hn1, hs1, hc, hv⟩ := hp
    rw [hn1, hs1]
    rw [e20] at hc
    refine ⟨hW.2.2.1, fun f hf => ?_⟩
    have hm := m_date (l := l) (D := D) (n := n) (hW.o60 (f := f)) hC a1 a2 a3
    exact KP.good hm hf ((i64_t v).trans hv) hc
  · obtain ⟨hs1, hc⟩ := hx
    rw [hs1]
    rw [e20] at hc
    have hm := m_date (l := l) (D := D) (n := n1) hW hC a1 a2 a3
    have hle : (cd3 (0 ≤ (a1.toInt) ∧ (a1.toInt) < (I 5).toInt) ((-999999 ≤ (a2.toInt) ∧ (a2.toInt) ≤ 999999) ∧ 0 ≤ (a3.toInt) ∧ (a3.toInt) ≤ 4) (fst (rowM R (a1.toInt)) (-2000) ≤ (a2.toInt) ∧ (a2.toInt) < fst (rowM R (a1.toInt)) 2001) : Int) ≤ 3 := by
      exact cd3_le
    rcases xEc hc with ⟨rfl, q⟩ | ⟨rfl, q⟩ | ⟨rfl, q⟩ | q
    · exact Or.inl ⟨rfl, KP.bad hW.2.2.1 hm (j := 1) rfl (by decide) q⟩
    · exact Or.inr (Or.inl ⟨rfl, KP.bad hW.2.2.1 hm (j := 2) rfl (by decide) q⟩)
    · exact Or.inr (Or.inr (⟨rfl, KP.bad hW.2.2.1 hm (j := 3) rfl (by decide) q⟩))
    · exact (by rw [q] at hle; exact absurd hle (by decide))

theorem k_convert (hl0 : l.stackTraces = false) (hI : LI t b σ) (a1 : Int32) (a2 : Int32) (a3 : Int32) (a4 : Int32) (a5 : Int32) (a6 : Int32) : lC l yL_convert cL_convert 9 [(0, 18, 21, 20), (0, 18, 25, 13), (0, 18, 29, 54)] 8 4 24 D t b n σ [.ref (b + 0), .int a1, .int a2, .int a3, .int a4, .int a5, .int a6, .ref (b + 60)] (KP l yX9_convert cX9_convert 8 (some .int) 7 D t b [.ref (b + 45), .int a1, .int a2, .int a3, .int a4, .int a5, .int a6]) := by
  obtain ⟨A, B, P, I, R, pm, φ, hW, hC⟩ := hI
  have hM := (c_X8_convert l D t b n σ A B P hl0 (rowM R) (feM R) (hC.stq hW.fr) a1 _ rfl a2 _ rfl a3 _ rfl a4 _ rfl a5 _ rfl a6 _ rfl)
  rw [← hW.1] at hM
  have e20 : A 20 = I 5 := hC.2.2.1.1
  have e21 : A 21 = I 19 := hC.2.2.1.2.1
  have e36 : A 36 = I 23 := hC.2.2.2.2.2.1.1
  have e37 : A 37 = I 25 := hC.2.2.2.2.2.2.1
  refine c_L_convert l D t b n σ a1 a2 a3 a4 a5 a6 ((congrFun hW.1 0).trans rfl) hM (fun hlt v n1 σ1 hp => ?_) (fun hlt E n1 σ1 hx => ?_)
  · obtain ⟨hn1, hs1, hc, hv⟩ := hp
    rw [hn1, hs1]
    rw [e20] at hc
    refine ⟨hW.2.2.1, fun f hf => ?_⟩
    have hm := m_convert (l := l) (D := D) (n := n) (hW.o60 (f := f)) hC a1 a2 a3 a4 a5 a6
    exact KP.good hm hf ((i64_t v).trans hv) hc
  · obtain ⟨hs1, hc⟩ := hx
    rw [hs1]
    rw [e20] at hc
    have hm := m_convert (l := l) (D := D) (n := n1) hW hC a1 a2 a3 a4 a5 a6
    have hle : (cd3 ((0 ≤ (a1.toInt) ∧ (a1.toInt) < (I 5).toInt) ∧ 0 ≤ (a5.toInt) ∧ (a5.toInt) < (I 5).toInt) (((((-2000 ≤ (a2.toInt) ∧ (a2.toInt) ≤ 2000) ∧ 1 ≤ (a3.toInt) ∧ (a3.toInt) ≤ mcnt (rowM R (a1.toInt)) (a2.toInt)) ∧ 1 ≤ (a4.toInt) ∧ (a4.toInt) ≤ mlen (rowM R (a1.toInt)) (a2.toInt) (a3.toInt)) ∧ -999999 ≤ dnum (rowM R (a1.toInt)) (a2.toInt) (a3.toInt) (a4.toInt) ∧ dnum (rowM R (a1.toInt)) (a2.toInt) (a3.toInt) (a4.toInt) ≤ 999999) ∧ 0 ≤ (a6.toInt) ∧ (a6.toInt) ≤ 4) (fst (rowM R (a5.toInt)) (-2000) ≤ dnum (rowM R (a1.toInt)) (a2.toInt) (a3.toInt) (a4.toInt) ∧ dnum (rowM R (a1.toInt)) (a2.toInt) (a3.toInt) (a4.toInt) < fst (rowM R (a5.toInt)) 2001) : Int) ≤ 3 := by
      exact cd3_le
    rcases xEc hc with ⟨rfl, q⟩ | ⟨rfl, q⟩ | ⟨rfl, q⟩ | q
    · exact Or.inl ⟨rfl, KP.bad hW.2.2.1 hm (j := 1) rfl (by decide) q⟩
    · exact Or.inr (Or.inl ⟨rfl, KP.bad hW.2.2.1 hm (j := 2) rfl (by decide) q⟩)
    · exact Or.inr (Or.inr (⟨rfl, KP.bad hW.2.2.1 hm (j := 3) rfl (by decide) q⟩))
    · exact (by rw [q] at hle; exact absurd hle (by decide))

theorem k_week (hl0 : l.stackTraces = false) (hI : LI t b σ) (a1 : Int32) (a2 : Int32) (a3 : Int32) : lC l yL_week cL_week 6 [(0, 12, 15, 20), (0, 12, 19, 13), (0, 12, 23, 54)] 8 3 18 D t b n σ [.ref (b + 0), .int a1, .int a2, .int a3, .ref (b + 60)] (KP l yX9_week cX9_week 5 (some .int) 4 D t b [.ref (b + 45), .int a1, .int a2, .int a3]) := by
  obtain ⟨A, B, P, I, R, pm, φ, hW, hC⟩ := hI
  have hM := (c_X8_week l D t b n σ A B P hl0 (rowM R) (feM R) (hC.stq hW.fr) a1 _ rfl a2 _ rfl a3 _ rfl)
  rw [← hW.1] at hM
  have e20 : A 20 = I 5 := hC.2.2.1.1
  have e21 : A 21 = I 19 := hC.2.2.1.2.1
  have e36 : A 36 = I 23 := hC.2.2.2.2.2.1.1
  have e37 : A 37 = I 25 := hC.2.2.2.2.2.2.1
  refine c_L_week l D t b n σ a1 a2 a3 ((congrFun hW.1 0).trans rfl) hM (fun hlt v n1 σ1 hp => ?_) (fun hlt E n1 σ1 hx => ?_)
  · obtain ⟨hn1, hs1, hc, hv⟩ := hp
    rw [hn1, hs1]
    rw [e20] at hc
    refine ⟨hW.2.2.1, fun f hf => ?_⟩
    have hm := m_week (l := l) (D := D) (n := n) (hW.o60 (f := f)) hC a1 a2 a3
    exact KP.good hm hf ((i64_t v).trans hv) hc
  · obtain ⟨hs1, hc⟩ := hx
    rw [hs1]
    rw [e20] at hc
    have hm := m_week (l := l) (D := D) (n := n1) hW hC a1 a2 a3
    have hle : (cd3 (0 ≤ (a1.toInt) ∧ (a1.toInt) < (I 5).toInt) ((-999999 ≤ (a2.toInt) ∧ (a2.toInt) ≤ 999999) ∧ 0 ≤ (a3.toInt) ∧ (a3.toInt) ≤ 1) (fst (rowM R (a1.toInt)) (-2000) ≤ (a2.toInt) ∧ (a2.toInt) < fst (rowM R (a1.toInt)) 2001) : Int) ≤ 3 := by
      exact cd3_le
    rcases xEc hc with ⟨rfl, q⟩ | ⟨rfl, q⟩ | ⟨rfl, q⟩ | q
    · exact Or.inl ⟨rfl, KP.bad hW.2.2.1 hm (j := 1) rfl (by decide) q⟩
    · exact Or.inr (Or.inl ⟨rfl, KP.bad hW.2.2.1 hm (j := 2) rfl (by decide) q⟩)
    · exact Or.inr (Or.inr (⟨rfl, KP.bad hW.2.2.1 hm (j := 3) rfl (by decide) q⟩))
    · exact (by rw [q] at hle; exact absurd hle (by decide))

theorem k_weeks (hl0 : l.stackTraces = false) (hI : LI t b σ) (a1 : Int32) (a2 : Int32) : lC l yL_weeks cL_weeks 5 [(0, 10, 13, 20), (0, 10, 17, 13)] 8 2 12 D t b n σ [.ref (b + 0), .int a1, .int a2, .ref (b + 60)] (KP l yX9_weeks cX9_weeks 3 (some .int) 4 D t b [.ref (b + 45), .int a1, .int a2]) := by
  obtain ⟨A, B, P, I, R, pm, φ, hW, hC⟩ := hI
  have hM := (c_X8_weeks l D t b n σ A B P hl0 (rowM R) (feM R) (hC.stq hW.fr) a1 _ rfl a2 _ rfl)
  rw [← hW.1] at hM
  have e20 : A 20 = I 5 := hC.2.2.1.1
  have e21 : A 21 = I 19 := hC.2.2.1.2.1
  have e36 : A 36 = I 23 := hC.2.2.2.2.2.1.1
  have e37 : A 37 = I 25 := hC.2.2.2.2.2.2.1
  refine c_L_weeks l D t b n σ a1 a2 ((congrFun hW.1 0).trans rfl) hM (fun hlt v n1 σ1 hp => ?_) (fun hlt E n1 σ1 hx => ?_)
  · obtain ⟨hn1, hs1, hc, hv⟩ := hp
    rw [hn1, hs1]
    rw [e20] at hc
    refine ⟨hW.2.2.1, fun f hf => ?_⟩
    have hm := m_weeks (l := l) (D := D) (n := n) (hW.o60 (f := f)) hC a1 a2
    exact KP.good hm hf ((i64_t v).trans hv) hc
  · obtain ⟨hs1, hc⟩ := hx
    rw [hs1]
    rw [e20] at hc
    have hm := m_weeks (l := l) (D := D) (n := n1) hW hC a1 a2
    have hle : (cd2 (0 ≤ (a1.toInt) ∧ (a1.toInt) < (I 5).toInt) (-2000 ≤ (a2.toInt) ∧ (a2.toInt) ≤ 2000) : Int) ≤ 2 := by
      exact cd2_le
    rcases xEc hc with ⟨rfl, q⟩ | ⟨rfl, q⟩ | ⟨rfl, q⟩ | q
    · exact Or.inl ⟨rfl, KP.bad hW.2.2.1 hm (j := 1) rfl (by decide) q⟩
    · exact Or.inr (⟨rfl, KP.bad hW.2.2.1 hm (j := 2) rfl (by decide) q⟩)
    · exact (by rw [q] at hle; exact absurd hle (by decide))
    · exact (by rw [q] at hle; exact absurd hle (by decide))

theorem k_firstDayOfWeek (hl0 : l.stackTraces = false) (hI : LI t b σ) (a1 : Int32) (a2 : Int32) (a3 : Int32) : lC l yL_firstDayOfWeek cL_firstDayOfWeek 6 [(0, 12, 15, 20), (0, 12, 19, 13)] 8 2 12 D t b n σ [.ref (b + 0), .int a1, .int a2, .int a3, .ref (b + 60)] (KP l yX9_firstDayOfWeek cX9_firstDayOfWeek 4 (some .int) 4 D t b [.ref (b + 45), .int a1, .int a2, .int a3]) := by
  obtain ⟨A, B, P, I, R, pm, φ, hW, hC⟩ := hI
  have hM := (c_X8_firstDayOfWeek l D t b n σ A B P hl0 (rowM R) (feM R) (hC.stq hW.fr) a1 _ rfl a2 _ rfl a3 _ rfl)
  rw [← hW.1] at hM
  have e20 : A 20 = I 5 := hC.2.2.1.1
  have e21 : A 21 = I 19 := hC.2.2.1.2.1
  have e36 : A 36 = I 23 := hC.2.2.2.2.2.1.1
  have e37 : A 37 = I 25 := hC.2.2.2.2.2.2.1
  refine c_L_firstDayOfWeek l D t b n σ a1 a2 a3 ((congrFun hW.1 0).trans rfl) hM (fun hlt v n1 σ1 hp => ?_) (fun hlt E n1 σ1 hx => ?_)
  · obtain ⟨hn1, hs1, hc, hv⟩ := hp
    rw [hn1, hs1]
    rw [e20] at hc
    refine ⟨hW.2.2.1, fun f hf => ?_⟩
    have hm := m_firstDayOfWeek (l := l) (D := D) (n := n) (hW.o60 (f := f)) hC a1 a2 a3
    exact KP.good hm hf ((i64_t v).trans hv) hc
  · obtain ⟨hs1, hc⟩ := hx
    rw [hs1]
    rw [e20] at hc
    have hm := m_firstDayOfWeek (l := l) (D := D) (n := n1) hW hC a1 a2 a3
    have hle : (cd2 (0 ≤ (a1.toInt) ∧ (a1.toInt) < (I 5).toInt) ((-2000 ≤ (a2.toInt) ∧ (a2.toInt) ≤ 2000) ∧ 1 ≤ (a3.toInt) ∧ (a3.toInt) ≤ ((fw (rowM R (a1.toInt)) ((a2.toInt) + 1) - fw (rowM R (a1.toInt)) (a2.toInt)) / rv (rowM R (a1.toInt)) 30)) : Int) ≤ 2 := by
      exact cd2_le
    rcases xEc hc with ⟨rfl, q⟩ | ⟨rfl, q⟩ | ⟨rfl, q⟩ | q
    · exact Or.inl ⟨rfl, KP.bad hW.2.2.1 hm (j := 1) rfl (by decide) q⟩
    · exact Or.inr (⟨rfl, KP.bad hW.2.2.1 hm (j := 2) rfl (by decide) q⟩)
    · exact (by rw [q] at hle; exact absurd hle (by decide))
    · exact (by rw [q] at hle; exact absurd hle (by decide))

theorem k_plus (hl0 : l.stackTraces = false) (hI : LI t b σ) (a1 : Int32) (a2 : Int32) (a3 : Int32) : lC l yL_plus cL_plus 6 [(0, 12, 15, 20), (0, 12, 19, 13), (0, 12, 23, 54)] 8 3 18 D t b n σ [.ref (b + 0), .int a1, .int a2, .int a3, .ref (b + 60)] (KP l yX9_plus cX9_plus 5 (some .int) 8 D t b [.ref (b + 45), .int a1, .int a2, .int a3]) := by
  obtain ⟨A, B, P, I, R, pm, φ, hW, hC⟩ := hI
  have hM := (c_X8_plus l D t b n σ A B P hl0 (rowM R) (feM R) (hC.stq hW.fr) a1 _ rfl a2 _ rfl a3 _ rfl)
  rw [← hW.1] at hM
  have e20 : A 20 = I 5 := hC.2.2.1.1
  have e21 : A 21 = I 19 := hC.2.2.1.2.1
  have e36 : A 36 = I 23 := hC.2.2.2.2.2.1.1
  have e37 : A 37 = I 25 := hC.2.2.2.2.2.2.1
  refine c_L_plus l D t b n σ a1 a2 a3 ((congrFun hW.1 0).trans rfl) hM (fun hlt v n1 σ1 hp => ?_) (fun hlt E n1 σ1 hx => ?_)
  · obtain ⟨hn1, hs1, hc, hv⟩ := hp
    rw [hn1, hs1]
    rw [e20] at hc
    refine ⟨hW.2.2.1, fun f hf => ?_⟩
    have hm := m_plus (l := l) (D := D) (n := n) (hW.o60 (f := f)) hC a1 a2 a3
    exact KP.good hm hf ((i64_t v).trans hv) hc
  · obtain ⟨hs1, hc⟩ := hx
    rw [hs1]
    rw [e20] at hc
    have hm := m_plus (l := l) (D := D) (n := n1) hW hC a1 a2 a3
    have hle : ((if 0 < cd3 (0 ≤ (a1.toInt) ∧ (a1.toInt) < (I 5).toInt) ((-999999 ≤ (a2.toInt) ∧ (a2.toInt) ≤ 999999) ∧ -9999 ≤ (a3.toInt) ∧ (a3.toInt) ≤ 9999) (fst (rowM R (a1.toInt)) (-2000) ≤ (a2.toInt) ∧ (a2.toInt) < fst (rowM R (a1.toInt)) 2001) then cd3 (0 ≤ (a1.toInt) ∧ (a1.toInt) < (I 5).toInt) ((-999999 ≤ (a2.toInt) ∧ (a2.toInt) ≤ 999999) ∧ -9999 ≤ (a3.toInt) ∧ (a3.toInt) ≤ 9999) (fst (rowM R (a1.toInt)) (-2000) ≤ (a2.toInt) ∧ (a2.toInt) < fst (rowM R (a1.toInt)) 2001) else if mlat (rowM R (a1.toInt)) (a2.toInt) (a3.toInt) = -2147483647 then 3 else 0) : Int) ≤ 3 := by
      first | (split <;> omega) | (split <;> first | omega | (split <;> first | omega | (split <;> omega))) | (have h3 := @cd3_le; split <;> first | exact cd3_le | (split <;> omega)) | (split <;> first | exact Int.le_trans cd2_le (by decide) | (split <;> omega))
    rcases xEc hc with ⟨rfl, q⟩ | ⟨rfl, q⟩ | ⟨rfl, q⟩ | q
    · exact Or.inl ⟨rfl, KP.bad hW.2.2.1 hm (j := 1) rfl (by decide) q⟩
    · exact Or.inr (Or.inl ⟨rfl, KP.bad hW.2.2.1 hm (j := 2) rfl (by decide) q⟩)
    · exact Or.inr (Or.inr (⟨rfl, KP.bad hW.2.2.1 hm (j := 3) rfl (by decide) q⟩))
    · exact (by rw [q] at hle; exact absurd hle (by decide))

theorem k_plusYears (hl0 : l.stackTraces = false) (hI : LI t b σ) (a1 : Int32) (a2 : Int32) (a3 : Int32) : lC l yL_plusYears cL_plusYears 6 [(0, 12, 15, 20), (0, 12, 19, 13), (0, 12, 23, 54)] 8 3 18 D t b n σ [.ref (b + 0), .int a1, .int a2, .int a3, .ref (b + 60)] (KP l yX9_plusYears cX9_plusYears 5 (some .int) 8 D t b [.ref (b + 45), .int a1, .int a2, .int a3]) := by
  obtain ⟨A, B, P, I, R, pm, φ, hW, hC⟩ := hI
  have hM := (c_X8_plusYears l D t b n σ A B P hl0 (rowM R) (feM R) (hC.stq hW.fr) a1 _ rfl a2 _ rfl a3 _ rfl)
  rw [← hW.1] at hM
  have e20 : A 20 = I 5 := hC.2.2.1.1
  have e21 : A 21 = I 19 := hC.2.2.1.2.1
  have e36 : A 36 = I 23 := hC.2.2.2.2.2.1.1
  have e37 : A 37 = I 25 := hC.2.2.2.2.2.2.1
  refine c_L_plusYears l D t b n σ a1 a2 a3 ((congrFun hW.1 0).trans rfl) hM (fun hlt v n1 σ1 hp => ?_) (fun hlt E n1 σ1 hx => ?_)
  · obtain ⟨hn1, hs1, hc, hv⟩ := hp
    rw [hn1, hs1]
    rw [e20] at hc
    refine ⟨hW.2.2.1, fun f hf => ?_⟩
    have hm := m_plusYears (l := l) (D := D) (n := n) (hW.o60 (f := f)) hC a1 a2 a3
    exact KP.good hm hf ((i64_t v).trans hv) hc
  · obtain ⟨hs1, hc⟩ := hx
    rw [hs1]
    rw [e20] at hc
    have hm := m_plusYears (l := l) (D := D) (n := n1) hW hC a1 a2 a3
    have hle : ((if 0 < cd3 (0 ≤ (a1.toInt) ∧ (a1.toInt) < (I 5).toInt) ((-999999 ≤ (a2.toInt) ∧ (a2.toInt) ≤ 999999) ∧ -4000 ≤ (a3.toInt) ∧ (a3.toInt) ≤ 4000) (fst (rowM R (a1.toInt)) (-2000) ≤ (a2.toInt) ∧ (a2.toInt) < fst (rowM R (a1.toInt)) 2001) then cd3 (0 ≤ (a1.toInt) ∧ (a1.toInt) < (I 5).toInt) ((-999999 ≤ (a2.toInt) ∧ (a2.toInt) ≤ 999999) ∧ -4000 ≤ (a3.toInt) ∧ (a3.toInt) ≤ 4000) (fst (rowM R (a1.toInt)) (-2000) ≤ (a2.toInt) ∧ (a2.toInt) < fst (rowM R (a1.toInt)) 2001) else if ylat (rowM R (a1.toInt)) (a2.toInt) (a3.toInt) = -2147483647 then 3 else 0) : Int) ≤ 3 := by
      first | (split <;> omega) | (split <;> first | omega | (split <;> first | omega | (split <;> omega))) | (have h3 := @cd3_le; split <;> first | exact cd3_le | (split <;> omega)) | (split <;> first | exact Int.le_trans cd2_le (by decide) | (split <;> omega))
    rcases xEc hc with ⟨rfl, q⟩ | ⟨rfl, q⟩ | ⟨rfl, q⟩ | q
    · exact Or.inl ⟨rfl, KP.bad hW.2.2.1 hm (j := 1) rfl (by decide) q⟩
    · exact Or.inr (Or.inl ⟨rfl, KP.bad hW.2.2.1 hm (j := 2) rfl (by decide) q⟩)
    · exact Or.inr (Or.inr (⟨rfl, KP.bad hW.2.2.1 hm (j := 3) rfl (by decide) q⟩))
    · exact (by rw [q] at hle; exact absurd hle (by decide))

theorem k_span (hl0 : l.stackTraces = false) (hI : LI t b σ) (a1 : Int32) (a2 : Int32) (a3 : Int32) (a4 : Int32) : lC l yL_span cL_span 7 [(0, 14, 17, 20), (0, 14, 21, 13), (0, 14, 25, 54)] 9 5 30 D t b n σ [.ref (b + 0), .int a1, .int a2, .int a3, .int a4, .ref (b + 60)] (KP l yX9_span cX9_span 8 (some .int) 8 D t b [.ref (b + 45), .int a1, .int a2, .int a3, .int a4]) := by
  obtain ⟨A, B, P, I, R, pm, φ, hW, hC⟩ := hI
  have hM := (c_X8_span l D t b n σ A B P hl0 (rowM R) (feM R) (hC.stq hW.fr) a1 _ rfl a2 _ rfl a3 _ rfl a4 _ rfl)
  rw [← hW.1] at hM
  have e20 : A 20 = I 5 := hC.2.2.1.1
  have e21 : A 21 = I 19 := hC.2.2.1.2.1
  have e36 : A 36 = I 23 := hC.2.2.2.2.2.1.1
  have e37 : A 37 = I 25 := hC.2.2.2.2.2.2.1
  refine c_L_span l D t b n σ a1 a2 a3 a4 ((congrFun hW.1 0).trans rfl) hM (fun hlt v n1 σ1 hp => ?_) (fun hlt E n1 σ1 hx => ?_)
  · obtain ⟨hn1, hs1, hc, hv⟩ := hp
    rw [hn1, hs1]
    rw [e20] at hc
    refine ⟨hW.2.2.1, fun f hf => ?_⟩
    have hm := m_span (l := l) (D := D) (n := n) (hW.o60 (f := f)) hC a1 a2 a3 a4
    exact KP.good hm hf ((i64_t v).trans hv) hc
  · obtain ⟨hs1, hc⟩ := hx
    rw [hs1]
    rw [e20] at hc
    have hm := m_span (l := l) (D := D) (n := n1) hW hC a1 a2 a3 a4
    have hle : (cd3 (0 ≤ (a1.toInt) ∧ (a1.toInt) < (I 5).toInt) ((-999999 ≤ (a2.toInt) ∧ (a2.toInt) ≤ 999999) ∧ ((a2.toInt) ≤ (a3.toInt) ∧ (a3.toInt) ≤ 999999) ∧ 0 ≤ (a4.toInt) ∧ (a4.toInt) ≤ 2) ((fst (rowM R (a1.toInt)) (-2000) ≤ (a2.toInt) ∧ (a2.toInt) < fst (rowM R (a1.toInt)) 2001) ∧ fst (rowM R (a1.toInt)) (-2000) ≤ (a3.toInt) ∧ (a3.toInt) < fst (rowM R (a1.toInt)) 2001) : Int) ≤ 3 := by
      exact cd3_le
    rcases xEc hc with ⟨rfl, q⟩ | ⟨rfl, q⟩ | ⟨rfl, q⟩ | q
    · exact Or.inl ⟨rfl, KP.bad hW.2.2.1 hm (j := 1) rfl (by decide) q⟩
    · exact Or.inr (Or.inl ⟨rfl, KP.bad hW.2.2.1 hm (j := 2) rfl (by decide) q⟩)
    · exact Or.inr (Or.inr (⟨rfl, KP.bad hW.2.2.1 hm (j := 3) rfl (by decide) q⟩))
    · exact (by rw [q] at hle; exact absurd hle (by decide))

theorem k_calendar (hl0 : l.stackTraces = false) (hI : LI t b σ) (a1 : Int32) (a2 : Int32) : lC l yL_calendar cL_calendar 5 [(0, 10, 13, 20), (0, 10, 17, 13)] 8 2 12 D t b n σ [.ref (b + 0), .int a1, .int a2, .ref (b + 60)] (KP l yX9_calendar cX9_calendar 3 (some .int) 2 D t b [.ref (b + 45), .int a1, .int a2]) := by
  obtain ⟨A, B, P, I, R, pm, φ, hW, hC⟩ := hI
  have hM := (c_X8_calendar l D t b n σ A B P hl0 (rowM R) (feM R) (hC.stq hW.fr) a1 _ rfl a2 _ rfl)
  rw [← hW.1] at hM
  have e20 : A 20 = I 5 := hC.2.2.1.1
  have e21 : A 21 = I 19 := hC.2.2.1.2.1
  have e36 : A 36 = I 23 := hC.2.2.2.2.2.1.1
  have e37 : A 37 = I 25 := hC.2.2.2.2.2.2.1
  refine c_L_calendar l D t b n σ a1 a2 ((congrFun hW.1 0).trans rfl) hM (fun hlt v n1 σ1 hp => ?_) (fun hlt E n1 σ1 hx => ?_)
  · obtain ⟨hn1, hs1, hc, hv⟩ := hp
    rw [hn1, hs1]
    rw [e20] at hc
    refine ⟨hW.2.2.1, fun f hf => ?_⟩
    have hm := m_calendar (l := l) (D := D) (n := n) (hW.o60 (f := f)) hC a1 a2
    exact KP.good hm hf ((i64_t v).trans hv) hc
  · obtain ⟨hs1, hc⟩ := hx
    rw [hs1]
    rw [e20] at hc
    have hm := m_calendar (l := l) (D := D) (n := n1) hW hC a1 a2
    have hle : (cd2 (0 ≤ (a1.toInt) ∧ (a1.toInt) < (I 5).toInt) (0 ≤ (a2.toInt) ∧ (a2.toInt) ≤ 7) : Int) ≤ 2 := by
      exact cd2_le
    rcases xEc hc with ⟨rfl, q⟩ | ⟨rfl, q⟩ | ⟨rfl, q⟩ | q
    · exact Or.inl ⟨rfl, KP.bad hW.2.2.1 hm (j := 1) rfl (by decide) q⟩
    · exact Or.inr (⟨rfl, KP.bad hW.2.2.1 hm (j := 2) rfl (by decide) q⟩)
    · exact (by rw [q] at hle; exact absurd hle (by decide))
    · exact (by rw [q] at hle; exact absurd hle (by decide))

theorem k_newYears (hl0 : l.stackTraces = false) (hI : LI t b σ) (a1 : Int32) (a2 : Int32) (a3 : Int32) (a4 : Int32) : lC l yL_newYears cL_newYears 7 [(0, 14, 17, 20), (0, 14, 21, 13)] 8 3 18 D t b n σ [.ref (b + 0), .int a1, .int a2, .int a3, .int a4, .ref (b + 60)] (KP l yX9_newYears cX9_newYears 9 (some .int) 3 D t b [.ref (b + 45), .int a1, .int a2, .int a3, .int a4]) := by
  obtain ⟨A, B, P, I, R, pm, φ, hW, hC⟩ := hI
  have hM := (c_X8_newYears l D t b n σ A B P hl0 (rowM R) (feM R) (hC.stq hW.fr) a1 _ rfl a2 _ rfl a3 _ rfl a4 _ rfl)
  rw [← hW.1] at hM
  have e20 : A 20 = I 5 := hC.2.2.1.1
  have e21 : A 21 = I 19 := hC.2.2.1.2.1
  have e36 : A 36 = I 23 := hC.2.2.2.2.2.1.1
  have e37 : A 37 = I 25 := hC.2.2.2.2.2.2.1
  refine c_L_newYears l D t b n σ a1 a2 a3 a4 ((congrFun hW.1 0).trans rfl) hM (fun hlt v n1 σ1 hp => ?_) (fun hlt E n1 σ1 hx => ?_)
  · obtain ⟨hn1, hs1, hc, hv⟩ := hp
    rw [hn1, hs1]
    rw [e20] at hc
    refine ⟨hW.2.2.1, fun f hf => ?_⟩
    have hm := m_newYears (l := l) (D := D) (n := n) (hW.o60 (f := f)) hC a1 a2 a3 a4
    exact KP.good hm hf ((i64_t v).trans hv) hc
  · obtain ⟨hs1, hc⟩ := hx
    rw [hs1]
    rw [e20] at hc
    have hm := m_newYears (l := l) (D := D) (n := n1) hW hC a1 a2 a3 a4
    have hle : (cd2 ((0 ≤ (a1.toInt) ∧ (a1.toInt) < (I 5).toInt) ∧ 0 ≤ (a2.toInt) ∧ (a2.toInt) < (I 5).toInt) ((-2000 ≤ (a3.toInt) ∧ (a3.toInt) ≤ 2000) ∧ (a3.toInt) ≤ (a4.toInt) ∧ (a4.toInt) ≤ 2000) : Int) ≤ 2 := by
      exact cd2_le
    rcases xEc hc with ⟨rfl, q⟩ | ⟨rfl, q⟩ | ⟨rfl, q⟩ | q
    · exact Or.inl ⟨rfl, KP.bad hW.2.2.1 hm (j := 1) rfl (by decide) q⟩
    · exact Or.inr (⟨rfl, KP.bad hW.2.2.1 hm (j := 2) rfl (by decide) q⟩)
    · exact (by rw [q] at hle; exact absurd hle (by decide))
    · exact (by rw [q] at hle; exact absurd hle (by decide))

theorem k_reading (hl0 : l.stackTraces = false) (hI : LI t b σ) (a1 : Int32) (a2 : Int32) : lC l yL_reading cL_reading 5 [(0, 10, 13, 20), (0, 10, 17, 13)] 8 2 12 D t b n σ [.ref (b + 0), .int a1, .int a2, .ref (b + 60)] (KP l yX9_reading cX9_reading 3 (some .int) 1 D t b [.ref (b + 45), .int a1, .int a2]) := by
  obtain ⟨A, B, P, I, R, pm, φ, hW, hC⟩ := hI
  have hM := (c_X8_reading l D t b n σ A B P hl0 (by rw [hC.2.2.2.2.2.1.1]; exact hC.2.2.2.2.2.1.2.1) a1 _ rfl a2 _ rfl)
  rw [← hW.1] at hM
  have e20 : A 20 = I 5 := hC.2.2.1.1
  have e21 : A 21 = I 19 := hC.2.2.1.2.1
  have e36 : A 36 = I 23 := hC.2.2.2.2.2.1.1
  have e37 : A 37 = I 25 := hC.2.2.2.2.2.2.1
  refine c_L_reading l D t b n σ a1 a2 ((congrFun hW.1 0).trans rfl) hM (fun hlt v n1 σ1 hp => ?_) (fun hlt E n1 σ1 hx => ?_)
  · obtain ⟨hn1, hs1, hc, hv⟩ := hp
    rw [hn1, hs1]
    rw [e36] at hc
    refine ⟨hW.2.2.1, fun f hf => ?_⟩
    have hm := m_reading (l := l) (D := D) (n := n) (hW.o60 (f := f)) hC a1 a2
    exact KP.good hm hf ((i64_t v).trans (hv.trans (rd_val hC hc))) hc
  · obtain ⟨hs1, hc⟩ := hx
    rw [hs1]
    rw [e36] at hc
    have hm := m_reading (l := l) (D := D) (n := n1) hW hC a1 a2
    have hle : (cd2 (0 ≤ (a1.toInt) ∧ (a1.toInt) ≤ (I 23).toInt - 1) (0 ≤ (a2.toInt) ∧ (a2.toInt) ≤ 2) : Int) ≤ 2 := by
      exact cd2_le
    rcases xEc hc with ⟨rfl, q⟩ | ⟨rfl, q⟩ | ⟨rfl, q⟩ | q
    · exact Or.inl ⟨rfl, KP.bad hW.2.2.1 hm (j := 1) rfl (by decide) q⟩
    · exact Or.inr (⟨rfl, KP.bad hW.2.2.1 hm (j := 2) rfl (by decide) q⟩)
    · exact (by rw [q] at hle; exact absurd hle (by decide))
    · exact (by rw [q] at hle; exact absurd hle (by decide))

theorem k_feast (hl0 : l.stackTraces = false) (hI : LI t b σ) (a1 : Int32) (a2 : Int32) : lC l yL_feast cL_feast 5 [(0, 10, 13, 20), (0, 10, 17, 13), (0, 10, 21, 54)] 9 3 18 D t b n σ [.ref (b + 0), .int a1, .int a2, .ref (b + 60)] (KP l yX9_feast cX9_feast 3 (some .int) 10 D t b [.ref (b + 45), .int a1, .int a2]) := by
  obtain ⟨A, B, P, I, R, pm, φ, hW, hC⟩ := hI
  have hM := (c_X8_feast l D t b n σ A B P hl0 (rowM R) (feM R) (hC.stq hW.fr) a1 _ rfl a2 _ rfl)
  rw [← hW.1] at hM
  have e20 : A 20 = I 5 := hC.2.2.1.1
  have e21 : A 21 = I 19 := hC.2.2.1.2.1
  have e36 : A 36 = I 23 := hC.2.2.2.2.2.1.1
  have e37 : A 37 = I 25 := hC.2.2.2.2.2.2.1
  refine c_L_feast l D t b n σ a1 a2 ((congrFun hW.1 0).trans rfl) hM (fun hlt v n1 σ1 hp => ?_) (fun hlt E n1 σ1 hx => ?_)
  · obtain ⟨hn1, ⟨B1, hs1, hkB⟩, hc, hv⟩ := hp
    rw [hn1, hs1]
    rw [e21] at hc
    have hW1 := hW.cls (A1 := A) (B1 := B1) (P1 := P)
    have hC1 := hC.clsB (hkB.wk (by decide))
    refine ⟨hW1.2.2.1, fun f hf => ?_⟩
    have hm := m_feast (l := l) (D := D) (n := n) (hW1.o60 (f := f)) hC1 a1 a2
    exact KP.good hm hf ((i64_t v).trans hv) hc
  · obtain ⟨⟨B1, hs1, hkB⟩, hc⟩ := hx
    rw [hs1]
    rw [e21] at hc
    have hW1 := hW.cls (A1 := A) (B1 := B1) (P1 := P)
    have hC1 := hC.clsB (hkB.wk (by decide))
    have hm := m_feast (l := l) (D := D) (n := n1) hW1 hC1 a1 a2
    have hle : ((if 0 < cd2 (0 ≤ (a1.toInt) ∧ (a1.toInt) < (I 19).toInt) (-2000 ≤ (a2.toInt) ∧ (a2.toInt) ≤ 2000) then cd2 (0 ≤ (a1.toInt) ∧ (a1.toInt) < (I 19).toInt) (-2000 ≤ (a2.toInt) ∧ (a2.toInt) ≤ 2000) else if fday (rowM R) (feM R) (a2.toInt) (a1.toInt) = -2147483647 then 3 else 0) : Int) ≤ 3 := by
      first | (split <;> omega) | (split <;> first | omega | (split <;> first | omega | (split <;> omega))) | (have h3 := @cd3_le; split <;> first | exact cd3_le | (split <;> omega)) | (split <;> first | exact Int.le_trans cd2_le (by decide) | (split <;> omega))
    rcases xEc hc with ⟨rfl, q⟩ | ⟨rfl, q⟩ | ⟨rfl, q⟩ | q
    · exact Or.inl ⟨rfl, KP.bad hW1.2.2.1 hm (j := 1) rfl (by decide) q⟩
    · exact Or.inr (Or.inl ⟨rfl, KP.bad hW1.2.2.1 hm (j := 2) rfl (by decide) q⟩)
    · exact Or.inr (Or.inr (⟨rfl, KP.bad hW1.2.2.1 hm (j := 3) rfl (by decide) q⟩))
    · exact (by rw [q] at hle; exact absurd hle (by decide))

theorem k_placedFeast (hl0 : l.stackTraces = false) (hI : LI t b σ) (a1 : Int32) (a2 : Int32) : lC l yL_placedFeast cL_placedFeast 5 [(0, 10, 13, 20), (0, 10, 17, 13), (0, 10, 21, 54)] 9 3 18 D t b n σ [.ref (b + 0), .int a1, .int a2, .ref (b + 60)] (KP l yX9_placedFeast cX9_placedFeast 3 (some .int) 11 D t b [.ref (b + 45), .int a1, .int a2]) := by
  obtain ⟨A, B, P, I, R, pm, φ, hW, hC⟩ := hI
  have hM := (c_X8_placedFeast l D t b n σ A B P hl0 (rowM R) (feM R) (hC.stq hW.fr) a1 _ rfl a2 _ rfl)
  rw [← hW.1] at hM
  have e20 : A 20 = I 5 := hC.2.2.1.1
  have e21 : A 21 = I 19 := hC.2.2.1.2.1
  have e36 : A 36 = I 23 := hC.2.2.2.2.2.1.1
  have e37 : A 37 = I 25 := hC.2.2.2.2.2.2.1
  refine c_L_placedFeast l D t b n σ a1 a2 ((congrFun hW.1 0).trans rfl) hM (fun hlt v n1 σ1 hp => ?_) (fun hlt E n1 σ1 hx => ?_)
  · obtain ⟨hn1, ⟨B1, hs1, hkB⟩, hc, hv⟩ := hp
    rw [hn1, hs1]
    rw [e21] at hc
    have hW1 := hW.cls (A1 := A) (B1 := B1) (P1 := P)
    have hC1 := hC.clsB (hkB.wk (by decide))
    refine ⟨hW1.2.2.1, fun f hf => ?_⟩
    have hm := m_placedFeast (l := l) (D := D) (n := n) (hW1.o60 (f := f)) hC1 a1 a2
    exact KP.good hm hf ((i64_t v).trans (by rw [hv, e21])) hc
  · obtain ⟨⟨B1, hs1, hkB⟩, hc⟩ := hx
    rw [hs1]
    rw [e21] at hc
    have hW1 := hW.cls (A1 := A) (B1 := B1) (P1 := P)
    have hC1 := hC.clsB (hkB.wk (by decide))
    have hm := m_placedFeast (l := l) (D := D) (n := n1) hW1 hC1 a1 a2
    have hle : ((if 0 < cd2 (0 ≤ (a1.toInt) ∧ (a1.toInt) < (I 19).toInt) (-2000 ≤ (a2.toInt) ∧ (a2.toInt) ≤ 2000) then cd2 (0 ≤ (a1.toInt) ∧ (a1.toInt) < (I 19).toInt) (-2000 ≤ (a2.toInt) ∧ (a2.toInt) ≤ 2000) else if (plc (fun j => (feM R j 1).toInt) (fday (rowM R) (feM R) (a2.toInt)) (I 19).toInt (a1.toInt)) = -2147483647 then 3 else 0) : Int) ≤ 3 := by
      first | (split <;> omega) | (split <;> first | omega | (split <;> first | omega | (split <;> omega))) | (have h3 := @cd3_le; split <;> first | exact cd3_le | (split <;> omega)) | (split <;> first | exact Int.le_trans cd2_le (by decide) | (split <;> omega))
    rcases xEc hc with ⟨rfl, q⟩ | ⟨rfl, q⟩ | ⟨rfl, q⟩ | q
    · exact Or.inl ⟨rfl, KP.bad hW1.2.2.1 hm (j := 1) rfl (by decide) q⟩
    · exact Or.inr (Or.inl ⟨rfl, KP.bad hW1.2.2.1 hm (j := 2) rfl (by decide) q⟩)
    · exact Or.inr (Or.inr (⟨rfl, KP.bad hW1.2.2.1 hm (j := 3) rfl (by decide) q⟩))
    · exact (by rw [q] at hle; exact absurd hle (by decide))

theorem k_feastOn (hl0 : l.stackTraces = false) (hI : LI t b σ) (a1 : Int32) (a2 : Int32) : lC l yL_feastOn cL_feastOn 5 [(0, 10, 13, 13), (0, 10, 17, 54)] 9 3 18 D t b n σ [.ref (b + 0), .int a1, .int a2, .ref (b + 60)] (KP l yX9_feastOn cX9_feastOn 4 (some .int) 11 D t b [.ref (b + 45), .int a1, .int a2]) := by
  obtain ⟨A, B, P, I, R, pm, φ, hW, hC⟩ := hI
  have hM := (c_X8_feastOn l D t b n σ A B P hl0 (rowM R) (feM R) (hC.stq hW.fr) a1 _ rfl a2 _ rfl)
  rw [← hW.1] at hM
  have e20 : A 20 = I 5 := hC.2.2.1.1
  have e21 : A 21 = I 19 := hC.2.2.1.2.1
  have e36 : A 36 = I 23 := hC.2.2.2.2.2.1.1
  have e37 : A 37 = I 25 := hC.2.2.2.2.2.2.1
  refine c_L_feastOn l D t b n σ a1 a2 ((congrFun hW.1 0).trans rfl) hM (fun hlt v n1 σ1 hp => ?_) (fun hlt E n1 σ1 hx => ?_)
  · obtain ⟨hn1, ⟨B1, hs1, hkB⟩, hc, hv⟩ := hp
    rw [hn1, hs1]
    rw [e21] at hc
    have hW1 := hW.cls (A1 := A) (B1 := B1) (P1 := P)
    have hC1 := hC.clsB (hkB.wk (by decide))
    refine ⟨hW1.2.2.1, fun f hf => ?_⟩
    have hm := m_feastOn (l := l) (D := D) (n := n) (hW1.o60 (f := f)) hC1 a1 a2
    exact KP.good hm hf ((i64_t v).trans (by rw [hv, e21])) (ifNI2 hc)
  · obtain ⟨⟨B1, hs1, hkB⟩, hc⟩ := hx
    rw [hs1]
    rw [e21] at hc
    have hW1 := hW.cls (A1 := A) (B1 := B1) (P1 := P)
    have hC1 := hC.clsB (hkB.wk (by decide))
    have hm := m_feastOn (l := l) (D := D) (n := n1) hW1 hC1 a1 a2
    have hle := fo_le (n := ffN (plc (fun j => (feM R j 1).toInt) (fday (rowM R) (feM R) a1.toInt) (I 19).toInt) a2.toInt (I 19).toInt (I 19).toInt.toNat) (p := (-2000 ≤ (a1.toInt) ∧ (a1.toInt) ≤ 2000) ∧ -999999 ≤ (a2.toInt) ∧ (a2.toInt) ≤ 999999)
    rcases xEc hc with ⟨rfl, q⟩ | ⟨rfl, q⟩ | ⟨rfl, q⟩ | q
    · exact absurd q fo_n.1
    · exact Or.inl ⟨rfl, KP.bad hW1.2.2.1 hm (j := 1) rfl (by decide) (fo_1 q)⟩
    · exact Or.inr ⟨rfl, KP.bad hW1.2.2.1 hm (j := 2) rfl (by decide) (fo_2 q)⟩
    · exact absurd q fo_n.2

theorem k_meetingYear (hl0 : l.stackTraces = false) (hI : LI t b σ) (a1 : Int32) (a2 : Int32) (a3 : Int32) : lC l yL_meetingYear cL_meetingYear 6 [(0, 12, 15, 20), (0, 12, 19, 13), (0, 12, 23, 54)] 9 4 24 D t b n σ [.ref (b + 0), .int a1, .int a2, .int a3, .ref (b + 60)] (KP l yX9_meetingYear cX9_meetingYear 5 (some .int) 11 D t b [.ref (b + 45), .int a1, .int a2, .int a3]) := by
  obtain ⟨A, B, P, I, R, pm, φ, hW, hC⟩ := hI
  have hM := (c_X8_meetingYear l D t b n σ A B P hl0 (rowM R) (feM R) (hC.stq hW.fr) a1 _ rfl a2 _ rfl a3 _ rfl)
  rw [← hW.1] at hM
  have e20 : A 20 = I 5 := hC.2.2.1.1
  have e21 : A 21 = I 19 := hC.2.2.1.2.1
  have e36 : A 36 = I 23 := hC.2.2.2.2.2.1.1
  have e37 : A 37 = I 25 := hC.2.2.2.2.2.2.1
  refine c_L_meetingYear l D t b n σ a1 a2 a3 ((congrFun hW.1 0).trans rfl) hM (fun hlt v n1 σ1 hp => ?_) (fun hlt E n1 σ1 hx => ?_)
  · obtain ⟨hn1, ⟨B1, hs1, hkB⟩, hc, hv⟩ := hp
    rw [hn1, hs1]
    rw [e21] at hc
    have hW1 := hW.cls (A1 := A) (B1 := B1) (P1 := P)
    have hC1 := hC.clsB (hkB.wk (by decide))
    refine ⟨hW1.2.2.1, fun f hf => ?_⟩
    have hm := m_meetingYear (l := l) (D := D) (n := n) (hW1.o60 (f := f)) hC1 a1 a2 a3
    exact KP.good hm hf ((i64_t v).trans hv) (ifNI3 hc)
  · obtain ⟨⟨B1, hs1, hkB⟩, hc⟩ := hx
    rw [hs1]
    rw [e21] at hc
    have hW1 := hW.cls (A1 := A) (B1 := B1) (P1 := P)
    have hC1 := hC.clsB (hkB.wk (by decide))
    have hm := m_meetingYear (l := l) (D := D) (n := n1) hW1 hC1 a1 a2 a3
    have hle : ((if (0 ≤ (a1.toInt) ∧ (a1.toInt) < (I 19).toInt) ∧ 0 ≤ (a2.toInt) ∧ (a2.toInt) < (I 19).toInt then (if (a1.toInt) ≠ (a2.toInt) ∧ -2000 ≤ (a3.toInt) ∧ (a3.toInt) ≤ 1801 then (if mtN (fun yy => fday (rowM R) (feM R) yy (a1.toInt)) (fun yy => fday (rowM R) (feM R) yy (a2.toInt)) ((a3.toInt) + 200) 200 = -2147483647 then 3 else 0) else 2) else 1) : Int) ≤ 3 := by
      first | (split <;> omega) | (split <;> first | omega | (split <;> first | omega | (split <;> omega))) | (have h3 := @cd3_le; split <;> first | exact cd3_le | (split <;> omega)) | (split <;> first | exact Int.le_trans cd2_le (by decide) | (split <;> omega))
    rcases xEc hc with ⟨rfl, q⟩ | ⟨rfl, q⟩ | ⟨rfl, q⟩ | q
    · exact Or.inl ⟨rfl, KP.bad hW1.2.2.1 hm (j := 1) rfl (by decide) q⟩
    · exact Or.inr (Or.inl ⟨rfl, KP.bad hW1.2.2.1 hm (j := 2) rfl (by decide) q⟩)
    · exact Or.inr (Or.inr (⟨rfl, KP.bad hW1.2.2.1 hm (j := 3) rfl (by decide) q⟩))
    · exact (by rw [q] at hle; exact absurd hle (by decide))

theorem k_output (hl0 : l.stackTraces = false) (hI : LI t b σ) (a1 : Int32) : lC l yL_output cL_output 4 [(0, 9, 12, 20)] 8 1 6 D t b n σ [.ref (b + 0), .int a1, .ref (b + 60)] (KP l yX9_output cX9_output 2 (some .char) 1 D t b [.ref (b + 45), .int a1]) := by
  obtain ⟨A, B, P, I, R, pm, φ, hW, hC⟩ := hI
  have hM := (c_X8_output l D t b n σ A B P hl0 (by rw [hC.2.2.2.2.2.2.1]; exact hC.2.2.2.2.2.2.2.1) (fun j j0 j1 => by rw [hC.2.2.2.2.2.2.1] at j1; have h := hC.2.2.2.2.2.2.2.2 j.toNat (by omega); rw [h.1]; exact h.2) a1 _ rfl)
  rw [← hW.1] at hM
  have e20 : A 20 = I 5 := hC.2.2.1.1
  have e21 : A 21 = I 19 := hC.2.2.1.2.1
  have e36 : A 36 = I 23 := hC.2.2.2.2.2.1.1
  have e37 : A 37 = I 25 := hC.2.2.2.2.2.2.1
  refine c_L_output l D t b n σ a1 ((congrFun hW.1 0).trans rfl) hM (fun hlt v n1 σ1 hp => ?_) (fun hlt E n1 σ1 hx => ?_)
  · obtain ⟨hn1, hs1, hc, hv⟩ := hp
    rw [hn1, hs1]
    rw [e37] at hc
    refine ⟨hW.2.2.1, fun f hf => ?_⟩
    have hm := m_output (l := l) (D := D) (n := n) (hW.o60 (f := f)) hC a1
    exact KP.good hm hf ((i64_t v).trans (by rw [hv]; exact congrArg Int32.toInt (hC.2.2.2.2.2.2.2.2 _ (out_ix hc)).1)) hc
  · obtain ⟨hs1, hc⟩ := hx
    rw [hs1]
    rw [e37] at hc
    have hm := m_output (l := l) (D := D) (n := n1) hW hC a1
    have hle : ((if 0 ≤ (a1.toInt) ∧ (a1.toInt) ≤ (I 25).toInt - 1 then 0 else 1) : Int) ≤ 1 := by
      first | (split <;> omega) | (split <;> first | omega | (split <;> first | omega | (split <;> omega))) | (have h3 := @cd3_le; split <;> first | exact cd3_le | (split <;> omega)) | (split <;> first | exact Int.le_trans cd2_le (by decide) | (split <;> omega))
    rcases xEc hc with ⟨rfl, q⟩ | ⟨rfl, q⟩ | ⟨rfl, q⟩ | q
    · exact ⟨rfl, KP.bad hW.2.2.1 hm (j := 1) rfl (by decide) q⟩
    · exact (by rw [q] at hle; exact absurd hle (by decide))
    · exact (by rw [q] at hle; exact absurd hle (by decide))
    · exact (by rw [q] at hle; exact absurd hle (by decide))
end KM
