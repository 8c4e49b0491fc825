/-! THE CLASS'S CALENDAR: what its methods answer -/
noncomputable def dod (ρ : Row) (y m d : Int) : Int := if ((-2000 ≤ y ∧ y ≤ 2000) ∧ 1 ≤ m ∧ m ≤ mcnt ρ y) ∧ 1 ≤ d ∧ d ≤ mlen ρ y m then dnum ρ y m d else -2147483648
noncomputable def yoc (ρ : Row) (d : Int) : Int := if fst ρ (-2000) ≤ d ∧ d < fst ρ 2001 then yof ρ d else -2147483648
theorem yoc_in {ρ : Row} {d : Int} (h : fst ρ (-2000) ≤ d ∧ d < fst ρ 2001) : yoc ρ d = yof ρ d := if_pos h
theorem yoc_no {ρ : Row} {d : Int} (h : ¬ (fst ρ (-2000) ≤ d ∧ d < fst ρ 2001)) : yoc ρ d = -2147483648 := if_neg h
theorem yoc_iff {ρ : Row} {d : Int} (h : okRow ρ) : yoc ρ d = -2147483648 ↔ ¬ (fst ρ (-2000) ≤ d ∧ d < fst ρ 2001) := by
  by_cases q : fst ρ (-2000) ≤ d ∧ d < fst ρ 2001
  · have := yof_in h q.1 q.2
    rw [yoc_in q]
    exact ⟨fun z => by omega, fun z => absurd q z⟩
  · exact ⟨fun _ => q, fun _ => yoc_no q⟩
/-- how far apart a search's ends can be -/
def hB (i : Int) : Int := ((4000 / 2 ^ i.toNat : Nat) : Int)
theorem hB_0 : hB 0 = 4000 := rfl
theorem hB_32 : hB 32 = 0 := by decide +kernel
theorem hB_s {i : Int} (h : 0 ≤ i) : hB (i + 1) = hB i / 2 := by
  unfold hB
  rw [show (i + 1).toNat = i.toNat + 1 by omega, Nat.pow_succ, ← Nat.div_div_eq_div_mul]
  generalize 4000 / 2 ^ i.toNat = g
  omega
/-- a day or none, as the class has it -/
def toC (x : Int) : Int := if x = -2147483647 then -2147483648 else x
theorem toC_n {x : Int} (h : x = -2147483647) : toC x = -2147483648 := if_pos h
theorem toC_d {x : Int} (h : x ≠ -2147483647) : toC x = x := if_neg h
noncomputable def ylc (ρ : Row) (d n : Int) : Int := if (fst ρ (-2000) ≤ d ∧ d < fst ρ 2001) ∧ -2000 ≤ yof ρ d + n ∧ yof ρ d + n ≤ 2000 then ylr ρ d n else -2147483648
noncomputable def ymc (ρ : Row) (c : Int) : Int := if Mb ρ (-2000) ≤ c ∧ c < Mb ρ 2001 then ym ρ c else -2147483648
noncomputable def mlc (ρ : Row) (d n : Int) : Int := if (fst ρ (-2000) ≤ d ∧ d < fst ρ 2001) ∧ Mb ρ (-2000) ≤ mcon ρ d + n ∧ mcon ρ d + n < Mb ρ 2001 then mlr ρ d n else -2147483648
theorem Mb_bd {ρ : Row} (h : okRow ρ) {y : Int} (h1 : -3000 ≤ y) (h2 : y ≤ 3000) : -45000 ≤ Mb ρ y ∧ Mb ρ y ≤ 45000 := by
  have m0 : Mb ρ 0 = 0 := rfl
  rcases (show 0 ≤ y ∨ y < 0 by omega) with q | q
  · have := Mb_mono h q; omega
  · have := Mb_mono h (x := y) (y := 0) (by omega); omega
theorem dnum_bd {ρ : Row} (h : okRow ρ) {y m d : Int} (hy : -3000 ≤ y ∧ y ≤ 3000) (h1 : 1 ≤ m) (h2 : m ≤ mcnt ρ y) : -4000000 + d - 1 ≤ dnum ρ y m d ∧ dnum ρ y m d ≤ 4001000 + d := by
  have a := fst_bd h hy.1 hy.2
  have b := msum_bd h (y := y) (m - 1).toNat (by omega)
  have c := mcnt_bd h y
  unfold dnum
  omega
