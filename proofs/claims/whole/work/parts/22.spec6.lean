theorem up_s (R : Nat → Nat → Int32) (k : Nat) (f : Nat → Int32) (i : Nat) (v : Int32) : va_up R k (upd f i v) k i = v := by rw [va_up_self]; simp [upd]
theorem up_n (R : Nat → Nat → Int32) (k : Nat) (f : Nat → Int32) {i j : Nat} (v : Int32) (h : j ≠ i) : va_up R k (upd f i v) k j = f j := by rw [va_up_self]; simp [upd, h]
theorem cut_rng (ρ : Row) (y m d : Int) : cut ρ y m d = -2147483647 ∨ -999999 ≤ cut ρ y m d ∧ cut ρ y m d ≤ 999999 := by
  unfold cut
  by_cases h : -2000 ≤ y ∧ y ≤ 2000
  · rw [if_pos h]
    by_cases q : -999999 ≤ dnum ρ y m (if d < mlen ρ y m then d else mlen ρ y m) ∧ dnum ρ y m (if d < mlen ρ y m then d else mlen ρ y m) ≤ 999999
    · rw [if_pos q]; exact Or.inr q
    · rw [if_neg q]; exact Or.inl rfl
  · rw [if_neg h]; exact Or.inl rfl
theorem mlat_rng (ρ : Row) (d n : Int) : mlat ρ d n = -2147483647 ∨ -999999 ≤ mlat ρ d n ∧ mlat ρ d n ≤ 999999 := cut_rng _ _ _ _
/-- the different days of a list of readings -/
def ddN (q : Nat → Int32) : Nat → Int
  | 0 => 0
  | k + 1 => ddN q k + (if k = 0 ∨ (q k).toInt ≠ (q (k - 1)).toInt then 1 else 0)
theorem ddN_s {q : Nat → Int32} {k : Int} (h : 0 ≤ k) : ddN q (k + 1).toNat = ddN q k.toNat + (if k = 0 ∨ (q k.toNat).toInt ≠ (q (k - 1).toNat).toInt then 1 else 0) := by
  rw [show (k + 1).toNat = k.toNat + 1 by omega, ddN]
  by_cases e : k = 0
  · rw [if_pos (Or.inl e), if_pos (Or.inl (by omega))]
  · rw [show (k - 1).toNat = k.toNat - 1 by omega]
    by_cases e2 : (q k.toNat).toInt ≠ (q (k.toNat - 1)).toInt
    · rw [if_pos (Or.inr e2), if_pos (Or.inr e2)]
    · rw [if_neg (fun z => z.elim (by omega) e2), if_neg (fun z => z.elim e e2)]
theorem ddN_bd (q : Nat → Int32) (k : Nat) : 0 ≤ ddN q k ∧ ddN q k ≤ k := by
  induction k with
  | zero => rw [ddN]; omega
  | succ k ih => rw [ddN]; split <;> omega
theorem ruled_cg {rw_ : Int → Row} {fe : Int → Int → Int32} {d1 d2 : Int → Int} {nc f yr : Int} (hf : okFe nc f (fe f)) (h : ∀ j : Int, 0 ≤ j → j < f → d1 j = d2 j) : ruled rw_ fe d1 f yr = ruled rw_ fe d2 f yr := by
  unfold ruled
  by_cases q : (fe f 0).toInt < 2
  · rw [if_pos q, if_pos q]
  · have hw : 0 ≤ (fe f 2).toInt ∧ (fe f 2).toInt < f := by unfold okFe at hf; omega
    rw [if_neg q, if_neg q, h _ hw.1 hw.2]
theorem fdN_lt (rw_ : Int → Row) (fe : Int → Int → Int32) (yr : Int) {j : Int} (h0 : 0 ≤ j) : ∀ k : Nat, j < k → fdN rw_ fe yr k j = fday rw_ fe yr j
  | 0, h => by omega
  | k + 1, h => by
    rcases (show j < (k : Int) ∨ j = k by omega) with q | q
    · rw [fdN]
      show (if j = (k : Int) then _ else _) = _
      rw [if_neg (by omega)]
      exact fdN_lt rw_ fe yr h0 k q
    · unfold fday
      rw [show (j + 1).toNat = k + 1 by omega]
theorem fday_eq {rw_ : Int → Row} {fe : Int → Int → Int32} {nc f yr : Int} {d1 : Int → Int} (h0 : 0 ≤ f) (hf : okFe nc f (fe f)) (h : ∀ j : Int, 0 ≤ j → j < f → d1 j = fday rw_ fe yr j) : fday rw_ fe yr f = clampD (ruled rw_ fe d1 f yr) := by
  unfold fday
  rw [show (f + 1).toNat = f.toNat + 1 by omega, fdN]
  show (if f = ((f.toNat : Nat) : Int) then clampD (ruled rw_ fe (fdN rw_ fe yr f.toNat) f.toNat yr) else _) = _
  rw [if_pos (by omega), show ((f.toNat : Nat) : Int) = f by omega]
  rw [ruled_cg hf (fun j a b => (fdN_lt rw_ fe yr a f.toNat (by omega)).trans (h j a b).symm)]
theorem fday_bd {rw_ : Int → Row} {fe : Int → Int → Int32} {f yr : Int} (h0 : 0 ≤ f) : fday rw_ fe yr f = -2147483647 ∨ (-999999 ≤ fday rw_ fe yr f ∧ fday rw_ fe yr f ≤ 999999) := by
  unfold fday
  rw [show (f + 1).toNat = f.toNat + 1 by omega, fdN]
  show (if f = ((f.toNat : Nat) : Int) then _ else _) = _ ∨ (_ ≤ (if f = ((f.toNat : Nat) : Int) then _ else _) ∧ (if f = ((f.toNat : Nat) : Int) then _ else _) ≤ _)
  rw [if_pos (by omega)]
  exact clampD_bd _
theorem clampD_p {d : Int} (h : d ≠ -2147483647) (h2 : -999999 ≤ d ∧ d ≤ 999999) : clampD d = d := by unfold clampD; rw [if_pos ⟨h, h2⟩]
theorem clampD_n {d : Int} (h : ¬ (d ≠ -2147483647 ∧ -999999 ≤ d ∧ d ≤ 999999)) : clampD d = -2147483647 := by unfold clampD; rw [if_neg h]
