/-! the reading of lists: months, divisors, remainders; the parts in their order -/
theorem rdC_cg {q : Nat → Int32} {g : Bool} {A A1 : Nat → Int32} {B : Nat → Nat → Int32} (h : rdC q g A B) (k : kpI [3, 4] A A1) : rdC q g A1 B := by
  unfold rdC
  rw [k 5 (by decide), k 6 (by decide), k 7 (by decide), k 8 (by decide), k 9 (by decide), k 10 (by decide), k 11 (by decide), k 12 (by decide), k 13 (by decide), k 14 (by decide), k 15 (by decide), k 16 (by decide), k 17 (by decide), k 18 (by decide)]
  exact h
theorem sMore_e {T : Int → Int} {p : Int} {q : Nat → Int32} {g : Bool} (k : Nat) (h : ¬ T p = 44) : sMore T k p q g = (true, p, q, g) := by
  cases k with
  | zero => rfl
  | succ k => rw [sMore, if_neg h]
theorem sMore_f0 {T : Int → Int} {p mo : Int} {q : Nat → Int32} {g : Bool} (hm : mo < 14) (h : T p = 44) (h2 : ¬ dg T (p + 1)) : sMore T (14 - mo).toNat p q g = (false, p + 1, q, g) := by
  rw [show (14 - mo).toNat = (14 - (mo + 1)).toNat + 1 by omega, sMore, if_pos h, if_neg h2]
theorem sMore_s {T : Int → Int} {p mo : Int} {q : Nat → Int32} {g : Bool} (h0 : 1 ≤ mo) (hm : mo < 14) (h : T p = 44) (h2 : dg T (p + 1)) : sMore T (14 - mo).toNat p q g = sMore T (14 - (mo + 1)).toNat (num T (p + 1)).2 (upd (upd q (1 + mo).toNat (i3 (num T (p + 1)).1)) 0 (q 0 + 1)) g := by
  rw [show (14 - mo).toNat = (14 - (mo + 1)).toNat + 1 by omega, sMore, if_pos h, if_pos h2, show 14 - (14 - (mo + 1)).toNat = (1 + mo).toNat by omega]
theorem rdC_13 {q : Nat → Int32} {g : Bool} {A : Nat → Int32} {B : Nat → Nat → Int32} (h : rdC q g A B) (hz : ∀ j : Nat, j < 4 → q (24 + j) = 0) : (A 13).toInt = 0 := by
  have d := h.2.2.2.2.2.1
  rcases (show (A 13).toInt = 0 ∨ 0 < (A 13).toInt by omega) with z | z
  · exact z
  · exfalso
    have d1 := d.2.1 0 (by omega) z
    have e : q (24 + (0 : Int)).toNat = 0 := hz 0 (by omega)
    rw [e] at d1
    rcases d1.2 with y | y <;> exact absurd y.1 (by decide)
theorem rdC_15 {q : Nat → Int32} {g : Bool} {A : Nat → Int32} {B : Nat → Nat → Int32} (h : rdC q g A B) (h19 : q 19 ≠ 2) : 1 ≤ (A 15).toInt ∧ (A 15).toInt ≤ 1000 := (h.2.2.2.2.2.2.1.2 h19).1
/-- divisors -/
def sDn (T : Int → Int) (n : Nat) (p : Int) (q : Nat → Int32) : Nat → Int32 := upd (upd q (20 + n) (i3 (num T p).1)) (24 + n) (if T (num T p).2 = 43 then 1 else -1)
theorem sDiv_t {T : Int → Int} {n : Nat} {p : Int} {q : Nat → Int32} {g : Bool} (hn : n < 4) (h : (sD1 T p).1 = true) : sDiv T (4 - n) p q g = if 0 < 3 - n ∧ dg T (sD1 T p).2 then sDiv T (3 - n) (sD1 T p).2 (sDn T n p q) g else (true, (sD1 T p).2, sDn T n p q, g) := by
  have hs : dg T p ∧ (T (num T p).2 = 43 ∨ T (num T p).2 = 45) ∧ sD1 T p = (true, (num T p).2 + 1) := by
    unfold sD1 at h ⊢
    by_cases c : dg T p
    · rw [if_pos c] at h ⊢
      by_cases c1 : T (num T p).2 = 43
      · rw [if_pos c1]; exact ⟨c, Or.inl c1, rfl⟩
      · rw [if_neg c1] at h ⊢
        by_cases c2 : T (num T p).2 = 45
        · rw [if_pos c2]; exact ⟨c, Or.inr c2, rfl⟩
        · rw [if_neg c2] at h; exact absurd (show false = true from h) (by decide)
    · rw [if_neg c] at h; exact absurd (show false = true from h) (by decide)
  obtain ⟨c, c1, e⟩ := hs
  rw [e, show 4 - n = (3 - n) + 1 by omega, sDiv, if_pos c, if_pos c1, show 3 - (3 - n) = n by omega]
  rfl
theorem sDiv_no {T : Int → Int} {n : Nat} {p : Int} {q : Nat → Int32} {g : Bool} (hn : n < 4) (h : ¬ (sD1 T p).1 = true) : sDiv T (4 - n) p q g = (false, (sD1 T p).2, q, g) := by
  unfold sD1 at h ⊢
  rw [show 4 - n = (3 - n) + 1 by omega, sDiv]
  by_cases c : dg T p
  · rw [if_pos c] at h ⊢
    rw [if_pos c]
    by_cases c1 : T (num T p).2 = 43
    · rw [if_pos c1] at h; exact absurd rfl h
    · rw [if_neg c1] at h ⊢
      by_cases c2 : T (num T p).2 = 45
      · rw [if_pos c2] at h; exact absurd rfl h
      · rw [if_neg c2, if_neg (fun z => z.elim c1 c2), if_neg c1]
  · rw [if_neg c, if_neg c]
theorem sDn_19 (T : Int → Int) (n : Nat) (p : Int) (q : Nat → Int32) (hn : n < 4) (j : Nat) (hj : j < 20 ∨ 27 < j) : sDn T n p q j = q j := by
  unfold sDn
  exact (upd_n _ _ (by omega)).trans (upd_n _ _ (by omega))
theorem sD1_sg {T : Int → Int} {p : Int} : ((if T (num T p).2 = 43 then (1 : Int32) else -1) = 1 ∧ bI (decide (T (num T p).2 = 43)) = 1) ∨ ((if T (num T p).2 = 43 then (1 : Int32) else -1) = -1 ∧ bI (decide (T (num T p).2 = 43)) = 0) := by
  by_cases c : T (num T p).2 = 43
  · rw [if_pos c, decide_eq_true c]; exact Or.inl ⟨rfl, rfl⟩
  · rw [if_neg c, decide_eq_false c]; exact Or.inr ⟨rfl, rfl⟩
/-- remainders -/
theorem sRem_s {T : Int → Int} {p i : Int} {q : Nat → Int32} {g : Bool} (h : i < 99) : sRem T (99 - i).toNat p q g = if (sR1 T p q g).1 = true then (if T (sR1 T p q g).2.1 = 44 then sRem T (99 - (i + 1)).toNat ((sR1 T p q g).2.1 + 1) (sR1 T p q g).2.2.1 (sR1 T p q g).2.2.2 else sR1 T p q g) else sR1 T p q g := by
  rw [show (99 - i).toNat = (99 - (i + 1)).toNat + 1 by omega, sRem]
theorem sR1_t {T : Int → Int} {p : Int} {q : Nat → Int32} {g : Bool} (h : (sR1 T p q g).1 = true) : dg T p ∧ sR1 T p q g = (true, (num T p).2, sRem1 q (num T p).1, g || decide ((q 28).toInt ≤ (num T p).1)) := by
  unfold sR1 at h ⊢
  by_cases c : dg T p
  · rw [if_pos c]; exact ⟨c, rfl⟩
  · rw [if_neg c] at h; exact absurd (show false = true from h) (by decide)
theorem sRem1_j (q : Nat → Int32) (v : Int) {j : Nat} (hj : j ≠ 29) : sRem1 q v j = q j := by
  unfold sRem1
  split
  · exact upd_n _ _ hj
  · rfl
/-- the parts from a stage on, as the class reads them: it doesn't look for the end -/
def sE (T : Int → Int) (told : Bool) (p : Int) (q : Nat → Int32) (g : Bool) : PS := if T p = 59 ∧ told = false then (false, p + 1, q, g) else (true, p, q, g)
def sP2 (T : Int → Int) (p : Int) (q : Nat → Int32) (g : Bool) : PS := sAnd (sWeeks T p q g) (fun p2 q2 g2 => sE T (decide (p < p2)) p2 q2 g2)
def sP1 (T : Int → Int) (p : Int) (q : Nat → Int32) (g : Bool) : PS := sAnd (sRule T p q g) (fun p q g => sP2 T p q g)
def sP0 (T : Int → Int) (p : Int) (q : Nat → Int32) (g : Bool) : PS := sAnd (sLeap T p q g) (fun p q g => sP1 T p q g)
def sPs (T : Int → Int) (s : Int) (p : Int) (q : Nat → Int32) (g : Bool) : PS := if s = 0 then sP0 T p q g else if s = 1 then sP1 T p q g else if s = 2 then sP2 T p q g else (true, p, q, g)
theorem sP2_no {T : Int → Int} {p : Int} {q : Nat → Int32} {g : Bool} (h : ¬ (T p = 59 ∧ T (p + 1) = 119)) : sP2 T p q g = sE T false p q g := by
  unfold sP2
  rw [sWeeks_p, if_neg h]
  show sE T (decide (p < p)) p q g = _
  rw [decide_eq_false (by omega)]
theorem sP1_no {T : Int → Int} {p : Int} {q : Nat → Int32} {g : Bool} (h : ¬ (T p = 59 ∧ T (p + 1) = 108)) (h2 : ¬ (T p = 59 ∧ T (p + 1) = 99)) : sP1 T p q g = sP2 T p q g := by
  unfold sP1 sRule
  rw [if_neg h, if_neg h2]
  rfl
theorem sP0_no {T : Int → Int} {p : Int} {q : Nat → Int32} {g : Bool} (h : ¬ (T p = 59 ∧ T (p + 1) = 100)) (h2 : ¬ (T p = 59 ∧ T (p + 1) = 105)) : sP0 T p q g = sP1 T p q g := by
  unfold sP0
  rw [sLeap_p, if_neg h, if_neg h2]
  rfl
theorem sPs_end {T : Int → Int} {s p : Int} {q : Nat → Int32} {g : Bool} (h : ¬ T p = 59) : sPs T s p q g = (true, p, q, g) := by
  have e2 : sP2 T p q g = (true, p, q, g) := by rw [sP2_no (fun z => h z.1)]; unfold sE; rw [if_neg (fun z => h z.1)]
  have e1 : sP1 T p q g = (true, p, q, g) := by rw [sP1_no (fun z => h z.1) (fun z => h z.1)]; exact e2
  have e0 : sP0 T p q g = (true, p, q, g) := by rw [sP0_no (fun z => h z.1) (fun z => h z.1)]; exact e1
  unfold sPs
  split
  · exact e0
  · split
    · exact e1
    · split
      · exact e2
      · rfl
theorem sWk_gt {T : Int → Int} {p : Int} {q : Nat → Int32} {g : Bool} (h : (sWk T p q g).1 = true) : p < (sWk T p q g).2.1 := by
  unfold sWk at h ⊢
  by_cases c1 : dg T p
  · rw [if_pos c1] at h ⊢
    have g1 := num_gt c1
    by_cases c2 : T (num T p).2 = 44
    · rw [if_pos c2] at h ⊢
      by_cases c3 : dg T ((num T p).2 + 1)
      · rw [if_pos c3] at h ⊢
        have g2 := num_gt c3
        by_cases c4 : T (num T ((num T p).2 + 1)).2 = 44
        · rw [if_pos c4] at h ⊢
          by_cases c5 : dg T ((num T ((num T p).2 + 1)).2 + 1)
          · rw [if_pos c5]
            have g3 := num_gt c5
            show p < (num T ((num T ((num T p).2 + 1)).2 + 1)).2
            omega
          · rw [if_neg c5] at h; exact absurd (show false = true from h) (by decide)
        · rw [if_neg c4] at h; exact absurd (show false = true from h) (by decide)
      · rw [if_neg c3] at h; exact absurd (show false = true from h) (by decide)
    · rw [if_neg c2] at h; exact absurd (show false = true from h) (by decide)
  · rw [if_neg c1] at h; exact absurd (show false = true from h) (by decide)
theorem sP2_w {T : Int → Int} {p : Int} {q : Nat → Int32} {g : Bool} (h : T p = 59 ∧ T (p + 1) = 119) : sP2 T p q g = sWk T (p + 2) q g := by
  unfold sP2
  rw [sWeeks_p, if_pos h]
  by_cases c : (sWk T (p + 2) q g).1 = true
  · rw [sAnd_t c]
    have := sWk_gt c
    rw [decide_eq_true (by omega)]
    unfold sE
    rw [if_neg (fun z => by cases z.2), ← c]
  · rw [sAnd_f c]
/-- from a stage on, by the letter behind the semicolon -/
theorem sPs_d {T : Int → Int} {p : Int} {q : Nat → Int32} {g : Bool} (h : T p = 59) (h2 : T (p + 1) = 100) : sPs T 0 p q g = sAnd (sLd T (p + 2) q g) (fun p q g => sPs T 1 p q g) := by
  unfold sPs
  rw [if_pos rfl]
  unfold sP0
  rw [sLeap_p, if_pos ⟨h, h2⟩]
  rfl
theorem sPs_i {T : Int → Int} {p : Int} {q : Nat → Int32} {g : Bool} (h : T p = 59) (h2 : T (p + 1) = 105) : sPs T 0 p q g = sAnd (sLi T (p + 2) q g) (fun p q g => sPs T 1 p q g) := by
  unfold sPs
  rw [if_pos rfl]
  unfold sP0
  rw [sLeap_p, if_neg (fun z => by omega), if_pos ⟨h, h2⟩]
  rfl
theorem sPs_01 {T : Int → Int} {s p : Int} {q : Nat → Int32} {g : Bool} (hs : 0 ≤ s ∧ s < 2) (h : s < 1 → ¬ T (p + 1) = 100) (h2 : s < 1 → ¬ T (p + 1) = 105) : sPs T s p q g = sP1 T p q g := by
  unfold sPs
  rcases (show s = 0 ∨ s = 1 by omega) with z | z
  · rw [if_pos z, sP0_no (fun y => h (by omega) y.2) (fun y => h2 (by omega) y.2)]
  · rw [if_neg (by omega), if_pos z]
theorem sPs_l {T : Int → Int} {s p : Int} {q : Nat → Int32} {g : Bool} (hs : 0 ≤ s ∧ s < 2) (h : T p = 59) (h2 : T (p + 1) = 108) : sPs T s p q g = sAnd (sDivs T (p + 2) q g) (fun p q g => sPs T 2 p q g) := by
  rw [sPs_01 hs (fun _ => by omega) (fun _ => by omega)]
  unfold sP1 sRule
  rw [if_pos ⟨h, h2⟩]
  rfl
theorem sPs_c {T : Int → Int} {s p : Int} {q : Nat → Int32} {g : Bool} (hs : 0 ≤ s ∧ s < 2) (h : T p = 59) (h2 : T (p + 1) = 99) : sPs T s p q g = sAnd (sCyc T (p + 2) q g) (fun p q g => sPs T 2 p q g) := by
  rw [sPs_01 hs (fun _ => by omega) (fun _ => by omega)]
  unfold sP1 sRule
  rw [if_neg (fun z => by omega), if_pos ⟨h, h2⟩]
  rfl
theorem sPs_2 {T : Int → Int} {s p : Int} {q : Nat → Int32} {g : Bool} (hs : 0 ≤ s ∧ s < 3) (h : s < 1 → ¬ T (p + 1) = 100) (h2 : s < 1 → ¬ T (p + 1) = 105) (h3 : s < 2 → ¬ T (p + 1) = 108) (h4 : s < 2 → ¬ T (p + 1) = 99) : sPs T s p q g = sP2 T p q g := by
  rcases (show s < 2 ∨ s = 2 by omega) with z | z
  · rw [sPs_01 ⟨hs.1, z⟩ h h2, sP1_no (fun y => h3 z y.2) (fun y => h4 z y.2)]
  · unfold sPs
    rw [if_neg (by omega), if_neg (by omega), if_pos z]
theorem sPs_w {T : Int → Int} {s p : Int} {q : Nat → Int32} {g : Bool} (hs : 0 ≤ s ∧ s < 3) (h : T p = 59) (h2 : T (p + 1) = 119) : sPs T s p q g = sAnd (sWk T (p + 2) q g) (fun p q g => sPs T 3 p q g) := by
  rw [sPs_2 hs (fun _ => by omega) (fun _ => by omega) (fun _ => by omega) (fun _ => by omega), sP2_w ⟨h, h2⟩]
  by_cases c : (sWk T (p + 2) q g).1 = true
  · rw [sAnd_t c]
    unfold sPs
    rw [if_neg (by decide), if_neg (by decide), if_neg (by decide), ← c]
  · rw [sAnd_f c]
theorem sPs_no {T : Int → Int} {s p : Int} {q : Nat → Int32} {g : Bool} (hs : 0 ≤ s ∧ s < 3) (h0 : T p = 59) (h : s < 1 → ¬ T (p + 1) = 100) (h2 : s < 1 → ¬ T (p + 1) = 105) (h3 : s < 2 → ¬ T (p + 1) = 108) (h4 : s < 2 → ¬ T (p + 1) = 99) (h5 : ¬ T (p + 1) = 119) : sPs T s p q g = (false, p + 1, q, g) := by
  rw [sPs_2 hs h h2 h3 h4, sP2_no (fun z => h5 z.2)]
  unfold sE
  rw [if_pos ⟨h0, rfl⟩]
/-- what the parts leave as it was -/
theorem sLd_f {T : Int → Int} {p : Int} {q : Nat → Int32} {g : Bool} (h : (sLd T p q g).1 = true) : (sLd T p q g).2.2.2 = g ∧ ∀ j : Nat, 18 < j → (sLd T p q g).2.2.1 j = q j := by
  unfold sLd at h ⊢
  by_cases c : dg T p
  · rw [if_pos c]; exact ⟨rfl, fun j hj => (upd_n _ _ (by omega)).trans (upd_n _ _ (by omega))⟩
  · rw [if_neg c] at h; exact absurd (show false = true from h) (by decide)
theorem sLi_f {T : Int → Int} {p : Int} {q : Nat → Int32} {g : Bool} (h : (sLi T p q g).1 = true) : (sLi T p q g).2.2.2 = g ∧ ∀ j : Nat, 18 < j → (sLi T p q g).2.2.1 j = q j := by
  unfold sLi at h ⊢
  by_cases c : dg T p
  · rw [if_pos c] at h ⊢
    by_cases c2 : T (num T p).2 = 44
    · rw [if_pos c2] at h ⊢
      by_cases c3 : dg T ((num T p).2 + 1)
      · rw [if_pos c3]; exact ⟨rfl, fun j hj => (upd_n _ _ (by omega)).trans ((upd_n _ _ (by omega)).trans (upd_n _ _ (by omega)))⟩
      · rw [if_neg c3] at h; exact absurd (show false = true from h) (by decide)
    · rw [if_neg c2] at h; exact absurd (show false = true from h) (by decide)
  · rw [if_neg c] at h; exact absurd (show false = true from h) (by decide)
theorem sDiv_29 {T : Int → Int} : ∀ (k : Nat) (p : Int) (q : Nat → Int32) (g : Bool), k ≤ 4 → ∀ j : Nat, 28 < j → (sDiv T k p q g).2.2.1 j = q j
  | 0, _, _, _, _, _, _ => rfl
  | k + 1, p, q, g, hk, j, hj => by
    rw [sDiv]
    by_cases c : dg T p
    · rw [if_pos c]
      by_cases c2 : T (num T p).2 = 43 ∨ T (num T p).2 = 45
      · rw [if_pos c2]
        have e : ∀ x y : Int32, upd (upd q (20 + (3 - k)) x) (24 + (3 - k)) y j = q j := fun x y => (upd_n _ _ (by omega)).trans (upd_n _ _ (by omega))
        by_cases c3 : 0 < k ∧ dg T ((num T p).2 + 1)
        · rw [if_pos c3, sDiv_29 k _ _ g (by omega) j hj]; exact e _ _
        · rw [if_neg c3]; exact e _ _
      · rw [if_neg c2]
    · rw [if_neg c]
theorem sRem_30 {T : Int → Int} : ∀ (k : Nat) (p : Int) (q : Nat → Int32) (g : Bool) (j : Nat), 29 < j → (sRem T k p q g).2.2.1 j = q j
  | 0, _, _, _, _, _ => rfl
  | k + 1, p, q, g, j, hj => by
    have e : (sR1 T p q g).2.2.1 j = q j := by
      unfold sR1
      by_cases c : dg T p
      · rw [if_pos c]; exact sRem1_j q _ (by omega)
      · rw [if_neg c]
    rw [sRem]
    by_cases c : (sR1 T p q g).1 = true
    · rw [if_pos c]
      by_cases c2 : T (sR1 T p q g).2.1 = 44
      · rw [if_pos c2, sRem_30 k _ _ _ j hj]; exact e
      · rw [if_neg c2]; exact e
    · rw [if_neg c]; exact e
theorem sDivs_j {T : Int → Int} {p : Int} {q : Nat → Int32} {g : Bool} (j : Nat) (hj : 29 < j) : (sDivs T p q g).2.2.1 j = q j := by
  unfold sDivs
  rw [sDiv_29 4 _ _ g (by omega) j (by omega)]
  exact upd_n _ _ (by omega)
theorem sCyc_j {T : Int → Int} {p : Int} {q : Nat → Int32} {g : Bool} (j : Nat) (hj : 29 < j) : (sCyc T p q g).2.2.1 j = q j := by
  unfold sCyc
  by_cases c : dg T p
  · rw [if_pos c]
    by_cases c2 : T (num T p).2 = 58
    · rw [if_pos c2, sRem_30 100 _ _ g j hj]; exact (upd_n _ _ (by omega)).trans (upd_n _ _ (by omega))
    · rw [if_neg c2]
  · rw [if_neg c]
/-- the class's reading and the reference's -/
def sEq (a c : PS) : Prop := a.1 = c.1 ∧ a.2.1 = c.2.1 ∧ (a.1 = true → a = c)
theorem sEq.rf {a : PS} : sEq a a := ⟨rfl, rfl, fun _ => rfl⟩
theorem sAnd_eq {s : PS} {f f' : Int → (Nat → Int32) → Bool → PS} (h : ∀ p q g, sEq (f p q g) (f' p q g)) : sEq (sAnd s f) (sAnd s f') := by
  by_cases c : s.1 = true
  · rw [sAnd_t c, sAnd_t c]; exact h _ _ _
  · rw [sAnd_f c, sAnd_f c]; exact sEq.rf
theorem sAnd_as (s : PS) (f h : Int → (Nat → Int32) → Bool → PS) : sAnd (sAnd s f) h = sAnd s (fun p q g => sAnd (f p q g) h) := by
  by_cases c : s.1 = true
  · rw [sAnd_t c, sAnd_t c]
  · rw [sAnd_f c, sAnd_f c, sAnd_f c]
def sAt (len : Int) (p : Int) (q : Nat → Int32) (g : Bool) : PS := if p = len then (true, p, q, g) else (false, p, q, g)
def cRd (T : Int → Int) (len : Int) : PS := sAnd (sMonths T 0 row0 false) (fun p q g => sAnd (sFirst T p q g) (fun p q g => sAnd (sP0 T p q g) (sAt len)))
theorem cRd_cal {T : Int → Int} {len : Int} (hT : T len = 0) : sEq (cRd T len) (sCal T len) := by
  have inner : ∀ (told : Bool) (p : Int) (q : Nat → Int32) (g : Bool), sEq (sAnd (sE T told p q g) (sAt len)) (sEnd T len told p q g) := by
    intro told p q g
    unfold sE sEnd
    by_cases c : p = len
    · rw [if_neg (fun z => by rw [c, hT] at z; omega), sAnd_t rfl, if_pos c]
      unfold sAt
      rw [if_pos c]
      exact sEq.rf
    · rw [if_neg c]
      by_cases c2 : T p = 59 ∧ told = false
      · rw [if_pos c2, if_pos c2, sAnd_f (fun z => absurd (show false = true from z) (by decide))]
        exact sEq.rf
      · rw [if_neg c2, if_neg c2, sAnd_t rfl]
        unfold sAt
        rw [if_neg c]
        exact sEq.rf
  unfold cRd sCal sParts
  rw [sAnd_as]
  refine sAnd_eq (fun p q g => ?_)
  rw [sAnd_as]
  refine sAnd_eq (fun p q g => ?_)
  unfold sP0
  rw [sAnd_as, sAnd_as]
  refine sAnd_eq (fun p q g => ?_)
  unfold sP1
  rw [sAnd_as]
  refine sAnd_eq (fun p q g => ?_)
  unfold sP2
  rw [sAnd_as]
  exact sAnd_eq (fun p2 q2 g2 => inner _ p2 q2 g2)
