/-! FLOATS: what the class and the reference compute of whole numbers is no NaN -/
def okD (f : FP.Core.Fmt) : FP.Core.Datum → Prop
  | .nan => False
  | .inf _ => True
  | .fin _ c q => c < 2 ^ f.p ∧ f.qmin ≤ q ∧ q ≤ f.qmax
theorem okD_settle {f : FP.Core.Fmt} {s : Bool} {c : Nat} {q : Int} (ht : f.tails < 2 ^ f.p) (h : f.qmin ≤ q) : okD f (FP.Core.settle f s c q) := by
  unfold FP.Core.settle FP.Core.bound
  split
  · split
    · exact ⟨by assumption, h, by assumption⟩
    · trivial
  · split
    · exact ⟨ht, by omega, by assumption⟩
    · trivial
theorem okD_rr {f : FP.Core.Fmt} {s : Bool} {A B : Nat} {e : Int} (ht : f.tails < 2 ^ f.p) (hq : f.qmin ≤ f.qmax) : okD f (FP.Core.roundRatio f s A B e) := by
  unfold FP.Core.roundRatio
  split
  · exact ⟨Nat.two_pow_pos _, Int.le_refl _, hq⟩
  · exact okD_settle ht (Int.le_max_left _ _)
theorem b64_f : FP.Core.b64.tails = 2 ^ 52 ∧ FP.Core.b64.exps = 2048 ∧ FP.Core.b64.qmin = -1074 ∧ FP.Core.b64.qmax = 971 ∧ FP.Core.b64.p = 53 := by decide
theorem b32_f : FP.Core.b32.tails = 2 ^ 23 ∧ FP.Core.b32.exps = 256 ∧ FP.Core.b32.qmin = -149 ∧ FP.Core.b32.qmax = 104 ∧ FP.Core.b32.p = 24 := by decide
theorem asm_b64 (s : Bool) (e t : Nat) : FP.Core.assemble FP.Core.b64 s e t = (s.toNat * 2048 + e) * 2 ^ 52 + t := by
  unfold FP.Core.assemble
  rw [b64_f.1, b64_f.2.1]
theorem asm_b32 (s : Bool) (e t : Nat) : FP.Core.assemble FP.Core.b32 s e t = (s.toNat * 256 + e) * 2 ^ 23 + t := by
  unfold FP.Core.assemble
  rw [b32_f.1, b32_f.2.1]
theorem asm64_bits {s : Bool} {e t : Nat} (he : e ≤ 2047) (ht : t < 2 ^ 52) : (UInt64.ofNat ((s.toNat * 2048 + e) * 2 ^ 52 + t)).toNat = (s.toNat * 2048 + e) * 2 ^ 52 + t := by
  have hs : s.toNat ≤ 1 := by cases s <;> decide
  rw [UInt64.toNat_ofNat']
  exact Nat.mod_eq_of_lt (by omega)
theorem n64_of {x : UInt64} (h : x.toNat % 2 ^ 63 ≤ 2047 * 2 ^ 52) : vf_n64 x := by
  unfold vf_n64
  rw [UInt64.le_iff_toNat_le, UInt64.toNat_and, show (0x7fffffffffffffff : UInt64).toNat = 2 ^ 63 - 1 from by decide, Nat.and_two_pow_sub_one_eq_mod, show (0x7ff0000000000000 : UInt64).toNat = 2047 * 2 ^ 52 from by decide]
  exact h
theorem n32_of {x : UInt32} (h : x.toNat % 2 ^ 31 ≤ 255 * 2 ^ 23) : vf_n32 x := by
  unfold vf_n32
  rw [UInt32.le_iff_toNat_le, UInt32.toNat_and, show (0x7fffffff : UInt32).toNat = 2 ^ 31 - 1 from by decide, Nat.and_two_pow_sub_one_eq_mod, show (0x7f800000 : UInt32).toNat = 255 * 2 ^ 23 from by decide]
  exact h
/-- what an encoding of a datum is: its exponent, its tail -/
theorem enc64 {D : FP.Core.Datum} (h : okD FP.Core.b64 D) : ∃ (s : Bool) (e t : Nat), FP.Core.encode FP.Core.b64 D = (s.toNat * 2048 + e) * 2 ^ 52 + t ∧ t < 2 ^ 52 ∧ (e = 2047 ∧ t = 0 ∨ e ≤ 2046) ∧ (∀ s c q, D = .fin s c q → e ≤ 2046 ∧ ((2 ^ 52 ≤ c ∧ (e : Int) = q + 1075 ∧ c = 2 ^ 52 + t) ∨ (c < 2 ^ 52 ∧ e = 0 ∧ t = c))) := by
  cases D with
  | nan => exact h.elim
  | inf s => exact ⟨s, 2047, 0, by show FP.Core.assemble FP.Core.b64 s (FP.Core.b64.exps - 1) 0 = _; rw [asm_b64, b64_f.2.1], by decide, Or.inl ⟨rfl, rfl⟩, fun s c q h => by cases h⟩
  | fin s c q =>
    obtain ⟨h1, h2, h3⟩ := h
    rw [b64_f.2.2.2.2] at h1
    rw [b64_f.2.2.1] at h2
    rw [b64_f.2.2.2.1] at h3
    show ∃ (s' : Bool) (e t : Nat), (if c < FP.Core.b64.tails then FP.Core.assemble FP.Core.b64 s 0 c else FP.Core.assemble FP.Core.b64 s ((q - FP.Core.b64.qmin).toNat + 1) (c - FP.Core.b64.tails)) = _ ∧ _
    rw [b64_f.1, b64_f.2.2.1]
    by_cases hc : c < 2 ^ 52
    · refine ⟨s, 0, c, by rw [if_pos hc, asm_b64], hc, Or.inr (by omega), fun s' c' q' e => ?_⟩
      cases e
      exact ⟨by omega, Or.inr ⟨hc, rfl, rfl⟩⟩
    · refine ⟨s, (q - -1074).toNat + 1, c - 2 ^ 52, by rw [if_neg hc, asm_b64], by omega, Or.inr (by omega), fun s' c' q' e => ?_⟩
      cases e
      exact ⟨by omega, Or.inl ⟨by omega, by omega, by omega⟩⟩
theorem n64_enc {D : FP.Core.Datum} (h : okD FP.Core.b64 D) : vf_n64 (UInt64.ofNat (FP.Core.encode FP.Core.b64 D)) := by
  obtain ⟨s, e, t, he, ht, hc, -⟩ := enc64 h
  have hs : s.toNat ≤ 1 := by cases s <;> decide
  refine n64_of ?_
  rw [he, asm64_bits (by omega) ht]
  omega
theorem fld64 {s : Bool} {e t : Nat} (he : e ≤ 2047) (ht : t < 2 ^ 52) : FP.Core.fieldT FP.Core.b64 ((s.toNat * 2048 + e) * 2 ^ 52 + t) = t ∧ FP.Core.fieldE FP.Core.b64 ((s.toNat * 2048 + e) * 2 ^ 52 + t) = e := by
  have hs : s.toNat ≤ 1 := by cases s <;> decide
  unfold FP.Core.fieldT FP.Core.fieldE
  rw [b64_f.1, b64_f.2.1]
  omega
/-- .. and what it is read as -/
theorem dec64 {D : FP.Core.Datum} (h : okD FP.Core.b64 D) : FP.Core.decode FP.Core.b64 (UInt64.ofNat (FP.Core.encode FP.Core.b64 D)).toNat ≠ .nan ∧ (∀ s c q, D = .fin s c q → ∃ s' q', FP.Core.decode FP.Core.b64 (UInt64.ofNat (FP.Core.encode FP.Core.b64 D)).toNat = .fin s' c q' ∧ (2 ^ 52 ≤ c → q' = q) ∧ (c < 2 ^ 52 → q' = -1074)) := by
  obtain ⟨s, e, t, he, ht, hc, hf⟩ := enc64 h
  have e2 : e ≤ 2047 := by omega
  obtain ⟨f1, f2⟩ := fld64 (s := s) e2 ht
  rw [he, asm64_bits e2 ht]
  unfold FP.Core.decode
  rw [f1, f2, b64_f.2.1, b64_f.2.2.1, b64_f.1]
  refine ⟨?_, fun s' c q hD => ?_⟩
  · rcases hc with ⟨rfl, rfl⟩ | hc
    · rw [if_pos (by decide), if_pos rfl]
      intro z
      cases z
    · rw [if_neg (by omega)]
      split <;> intro z <;> cases z
  · obtain ⟨g1, g2⟩ := hf s' c q hD
    have hq : -1074 ≤ q := by
      rw [hD] at h
      have y := h.2.1
      rw [b64_f.2.2.1] at y
      exact y
    rw [if_neg (by omega)]
    rcases g2 with ⟨a1, a2, a3⟩ | ⟨a1, a2, a3⟩
    · rw [if_neg (by omega)]
      exact ⟨FP.Core.fieldS FP.Core.b64 ((s.toNat * 2048 + e) * 2 ^ 52 + t), -1074 + ((e : Int) - 1), by rw [a3], fun _ => by omega, fun z => by omega⟩
    · rw [if_pos a2, a3]
      exact ⟨_, _, rfl, fun z => by omega, fun _ => rfl⟩
theorem n32_enc {D : FP.Core.Datum} (h : okD FP.Core.b32 D) : vf_n32 (UInt32.ofNat (FP.Core.encode FP.Core.b32 D)) := by
  have key : ∀ (s : Bool) (e t : Nat), t < 2 ^ 23 → (e = 255 ∧ t = 0 ∨ e ≤ 254) → vf_n32 (UInt32.ofNat ((s.toNat * 256 + e) * 2 ^ 23 + t)) := fun s e t ht hc => by
    have hs : s.toNat ≤ 1 := by cases s <;> decide
    refine n32_of ?_
    have hb : (s.toNat * 256 + e) * 2 ^ 23 + t < 2 ^ 32 := by omega
    rw [UInt32.toNat_ofNat', Nat.mod_eq_of_lt hb]
    omega
  cases D with
  | nan => exact h.elim
  | inf s =>
    show vf_n32 (UInt32.ofNat (FP.Core.assemble FP.Core.b32 s (FP.Core.b32.exps - 1) 0))
    rw [asm_b32, b32_f.2.1]
    exact key s 255 0 (by decide) (Or.inl ⟨rfl, rfl⟩)
  | fin s c q =>
    obtain ⟨h1, h2, h3⟩ := h
    rw [b32_f.2.2.2.2] at h1
    rw [b32_f.2.2.1] at h2
    rw [b32_f.2.2.2.1] at h3
    show vf_n32 (UInt32.ofNat (if c < FP.Core.b32.tails then FP.Core.assemble FP.Core.b32 s 0 c else FP.Core.assemble FP.Core.b32 s ((q - FP.Core.b32.qmin).toNat + 1) (c - FP.Core.b32.tails)))
    rw [b32_f.1, b32_f.2.2.1]
    by_cases hc : c < 2 ^ 23
    · rw [if_pos hc, asm_b32]
      exact key s 0 c hc (Or.inr (by omega))
    · rw [if_neg hc, asm_b32]
      exact key s _ _ (by omega) (Or.inr (by omega))
theorem ok64 {s : Bool} {A B : Nat} {e : Int} : okD FP.Core.b64 (FP.Core.roundRatio FP.Core.b64 s A B e) := okD_rr (by decide) (by decide)
theorem ok32 {s : Bool} {A B : Nat} {e : Int} : okD FP.Core.b32 (FP.Core.roundRatio FP.Core.b32 s A B e) := okD_rr (by decide) (by decide)
theorem ok_round64 {D : FP.Core.Datum} (h : D ≠ .nan) : okD FP.Core.b64 (FP.Core.round FP.Core.b64 D) := by
  cases D with
  | nan => exact (h rfl).elim
  | inf s => trivial
  | fin s c q => exact ok64
theorem ok_round32 {D : FP.Core.Datum} (h : D ≠ .nan) : okD FP.Core.b32 (FP.Core.round FP.Core.b32 D) := by
  cases D with
  | nan => exact (h rfl).elim
  | inf s => trivial
  | fin s c q => exact ok32
theorem lead_le (A B : Nat) : FP.Core.leading A B ≤ (A.log2 : Int) - B.log2 := by
  unfold FP.Core.leading
  dsimp only
  split <;> omega
/-- a number that is rounded to a datum: its digits, its exponent -/
theorem rr_fin {s : Bool} {A B : Nat} {e : Int} (hA : A ≠ 0) (hq : (A.log2 : Int) - B.log2 + e ≤ 900) : ∃ c q, FP.Core.roundRatio FP.Core.b64 s A B e = .fin s c q ∧ (q ≤ (A.log2 : Int) - B.log2 + e - 51 ∨ q ≤ -1073) := by
  have hl := lead_le A B
  unfold FP.Core.roundRatio FP.Core.roundAt
  rw [if_neg hA]
  have hm : FP.Core.quantum FP.Core.b64 A B e ≤ (A.log2 : Int) - B.log2 + e - 52 ∨ FP.Core.quantum FP.Core.b64 A B e ≤ -1074 := by
    unfold FP.Core.quantum
    rw [b64_f.2.2.1, b64_f.2.2.2.2]
    omega
  generalize FP.Core.quantum FP.Core.b64 A B e = Q at hm
  unfold FP.Core.settle FP.Core.bound
  rw [b64_f.2.2.2.1]
  split
  · rw [if_pos (by omega)]
    exact ⟨_, _, rfl, by omega⟩
  · rw [if_pos (by omega)]
    exact ⟨_, _, rfl, by omega⟩
/-- a whole number as a datum -/
theorem int_fin {s : Bool} {n : Nat} (h0 : n ≠ 0) (h1 : n < 2 ^ 32) : ∃ c q, FP.Core.roundRatio FP.Core.b64 s n 1 0 = .fin s c q ∧ 2 ^ 52 ≤ c ∧ c < 2 ^ 53 ∧ -52 ≤ q ∧ q ≤ -21 := by
  have hL1 : 2 ^ n.log2 ≤ n := Nat.log2_self_le h0
  have hL2 : n < 2 ^ (n.log2 + 1) := Nat.lt_log2_self
  have hL : n.log2 < 32 := (Nat.log2_lt h0).mpr h1
  have hlead : FP.Core.leading n 1 = n.log2 := by
    unfold FP.Core.leading
    dsimp only
    rw [show Nat.log2 1 = 0 from by decide, if_pos]
    · omega
    · rw [show ((n.log2 : Int) - (0 : Nat)).toNat = n.log2 by omega, show (-((n.log2 : Int) - (0 : Nat))).toNat = 0 by omega]
      omega
  have hq : FP.Core.quantum FP.Core.b64 n 1 0 = (n.log2 : Int) - 52 := by
    unfold FP.Core.quantum
    rw [hlead, b64_f.2.2.1, b64_f.2.2.2.2]
    omega
  have hc : FP.Core.nearest (FP.Core.unitsNum n 0 ((n.log2 : Int) - 52)) (FP.Core.unitsDen 1 0 ((n.log2 : Int) - 52)) = n * 2 ^ (52 - n.log2) := by
    unfold FP.Core.unitsNum FP.Core.unitsDen FP.Core.nearest
    rw [show ((n.log2 : Int) - 52 - 0).toNat = 0 by omega, show (0 - ((n.log2 : Int) - 52)).toNat = 52 - n.log2 by omega, Nat.pow_zero, Nat.mul_one, Nat.mod_one, if_pos (by decide), Nat.div_one]
  have hlo : 2 ^ 52 ≤ n * 2 ^ (52 - n.log2) := by
    calc 2 ^ 52 = 2 ^ n.log2 * 2 ^ (52 - n.log2) := by rw [← Nat.pow_add]; congr 1; omega
      _ ≤ n * 2 ^ (52 - n.log2) := Nat.mul_le_mul_right _ hL1
  have hhi : n * 2 ^ (52 - n.log2) < 2 ^ 53 := by
    calc n * 2 ^ (52 - n.log2) < 2 ^ (n.log2 + 1) * 2 ^ (52 - n.log2) := Nat.mul_lt_mul_of_pos_right hL2 (Nat.two_pow_pos _)
      _ = 2 ^ 53 := by rw [← Nat.pow_add]; congr 1; omega
  unfold FP.Core.roundRatio FP.Core.roundAt
  rw [if_neg h0, hq, hc]
  unfold FP.Core.settle FP.Core.bound
  rw [b64_f.2.2.2.2, if_pos hhi, b64_f.2.2.2.1, if_pos (by omega)]
  exact ⟨_, _, rfl, hlo, hhi, by omega, by omega⟩
/-- a whole number as a double: its datum -/
theorem i2d_dec (v : Int32) : ∃ s c q, FP.Core.decode FP.Core.b64 (FP.i2d v).toNat = .fin s c q ∧ c < 2 ^ 53 ∧ q ≤ -21 ∧ (v.toInt ≠ 0 → 2 ^ 52 ≤ c ∧ -52 ≤ q) := by
  have hb1 := v.toInt_lt
  have hb2 := v.le_toInt
  show ∃ s c q, FP.Core.decode FP.Core.b64 (UInt64.ofNat (FP.Core.encode FP.Core.b64 (FP.Core.round FP.Core.b64 (FP.Core.ofInt v.toInt)))).toNat = .fin s c q ∧ _
  by_cases h0 : v.toInt = 0
  · obtain ⟨-, h⟩ := dec64 (D := FP.Core.round FP.Core.b64 (FP.Core.ofInt v.toInt)) (ok_round64 (by intro z; cases z))
    obtain ⟨s', q', e1, e2, e3⟩ := h (decide (v.toInt < 0)) 0 (-1074) (by rw [h0]; decide)
    exact ⟨s', 0, q', e1, by decide, by have := e3 (by decide); omega, fun z => absurd h0 z⟩
  · obtain ⟨c, q, e, c1, c2, q1, q2⟩ := int_fin (s := decide (v.toInt < 0)) (n := v.toInt.natAbs) (by omega) (by omega)
    obtain ⟨-, h⟩ := dec64 (D := FP.Core.round FP.Core.b64 (FP.Core.ofInt v.toInt)) (ok_round64 (by intro z; cases z))
    obtain ⟨s', q', e1, e2, e3⟩ := h _ c q e
    have e4 := e2 c1
    exact ⟨s', c, q', e1, c2, by omega, fun _ => ⟨c1, by omega⟩⟩
/-- a mean of whole numbers: no NaN, and finite -/
theorem div_dec (a k : Int32) (hk : k.toInt ≠ 0) : vf_n64 (FP.ddiv (FP.i2d a) (FP.i2d k)) ∧ ∃ s c q, FP.Core.decode FP.Core.b64 (FP.ddiv (FP.i2d a) (FP.i2d k)).toNat = .fin s c q := by
  obtain ⟨s, c, q, e1, c1, q1, -⟩ := i2d_dec a
  obtain ⟨s2, d, r, e2, d1, r1, hd⟩ := i2d_dec k
  obtain ⟨d2, r2⟩ := hd hk
  have e : FP.ddiv (FP.i2d a) (FP.i2d k) = UInt64.ofNat (FP.Core.encode FP.Core.b64 (FP.Core.roundRatio FP.Core.b64 (s != s2) c d (q - r))) := by
    show UInt64.ofNat (FP.Core.encode FP.Core.b64 (FP.Core.quotient FP.Core.b64 (FP.Core.decode FP.Core.b64 (FP.i2d a).toNat) (FP.Core.decode FP.Core.b64 (FP.i2d k).toNat))) = _
    rw [e1, e2]
    unfold FP.Core.quotient
    dsimp only
    rw [if_neg (show ¬ d = 0 by omega)]
  rw [e]
  refine ⟨n64_enc ok64, ?_⟩
  have hfin : ∃ c' q', FP.Core.roundRatio FP.Core.b64 (s != s2) c d (q - r) = .fin (s != s2) c' q' := by
    by_cases h0 : c = 0
    · refine ⟨0, FP.Core.b64.qmin, ?_⟩
      unfold FP.Core.roundRatio
      rw [if_pos h0]
    · have l1 : c.log2 < 53 := (Nat.log2_lt h0).mpr c1
      obtain ⟨c', q', h, -⟩ := rr_fin (s := s != s2) (A := c) (B := d) (e := q - r) h0 (by omega)
      exact ⟨c', q', h⟩
  obtain ⟨c', q', h⟩ := hfin
  obtain ⟨s3, q3, h3, -⟩ := (dec64 ok64).2 _ c' q' h
  exact ⟨s3, c', q3, h3⟩
/-- the difference of two such, times a hundred, as a float -/
theorem sub_dec {x y : UInt64} (hx : ∃ s c q, FP.Core.decode FP.Core.b64 x.toNat = .fin s c q) (hy : ∃ s c q, FP.Core.decode FP.Core.b64 y.toNat = .fin s c q) : vf_n64 (FP.dsub x y) ∧ FP.Core.decode FP.Core.b64 (FP.dsub x y).toNat ≠ .nan := by
  obtain ⟨s, c, q, e1⟩ := hx
  obtain ⟨s2, d, r, e2⟩ := hy
  have hne : FP.Core.exactSum (FP.Core.decode FP.Core.b64 x.toNat) (FP.Core.negate (FP.Core.decode FP.Core.b64 y.toNat)) ≠ .nan := by
    rw [e1, e2]
    unfold FP.Core.negate FP.Core.exactSum
    intro z
    cases z
  exact ⟨n64_enc (ok_round64 hne), (dec64 (ok_round64 hne)).1⟩
theorem mul_dec {x : UInt64} (hx : FP.Core.decode FP.Core.b64 x.toNat ≠ .nan) : vf_n64 (FP.dmul x 4636737291354636288) ∧ FP.Core.decode FP.Core.b64 (FP.dmul x 4636737291354636288).toNat ≠ .nan := by
  have h100 : FP.Core.decode FP.Core.b64 (4636737291354636288 : UInt64).toNat = .fin false 7036874417766400 (-46) := by decide +kernel
  have hne : FP.Core.exactProduct (FP.Core.decode FP.Core.b64 x.toNat) (FP.Core.decode FP.Core.b64 (4636737291354636288 : UInt64).toNat) ≠ .nan := by
    rw [h100]
    cases hD : FP.Core.decode FP.Core.b64 x.toNat with
    | nan => exact absurd hD hx
    | inf s => unfold FP.Core.exactProduct; intro z; simp at z
    | fin s c q => unfold FP.Core.exactProduct; intro z; cases z
  exact ⟨n64_enc (ok_round64 hne), (dec64 (ok_round64 hne)).1⟩
theorem d2f_dec {x : UInt64} (hx : FP.Core.decode FP.Core.b64 x.toNat ≠ .nan) : vf_n32 (FP.d2f x) := by
  have h : FP.Core.dIsNaN x = false := by
    unfold FP.Core.dIsNaN FP.Core.isNaN
    exact decide_eq_false hx
  unfold FP.d2f
  rw [h]
  exact n32_enc (ok_round32 hx)
