/-- what is written of a day -/
def ad (s : Int × (Int → Int)) (n : Int) (f : Int → Int) : Int × (Int → Int) := (s.1 + n, catI s.2 s.1 f)
def ad0 : Int × (Int → Int) := (0, fun _ => 0)
def absI (y : Int) : Int := if y < 0 then -y else y
noncomputable def wrt4 (ρ : Row) (d : Int) (s : Int × (Int → Int)) : Int × (Int → Int) := if (rv ρ 16 = 2 ∧ leap ρ (yof ρ d) = true) ∧ mof ρ d = rv ρ 17 + 1 then ad s 1 (fun _ => 105) else s
noncomputable def wrt6 (ρ : Row) (d : Int) (s : Int × (Int → Int)) : Int × (Int → Int) := if yof ρ d < 0 then ad s 1 (fun _ => 45) else s
noncomputable def wrt (ρ : Row) (d : Int) : Int × (Int → Int) :=
  ad (wrt6 ρ d (ad (wrt4 ρ d (ad (ad (ad ad0 (dN (dof ρ d)) (dD (dof ρ d))) 1 (fun _ => 46)) (dN (mof ρ d)) (dD (mof ρ d)))) 1 (fun _ => 46))) (dN (absI (yof ρ d))) (dD (absI (yof ρ d)))
theorem dN_2 {v : Int} (h : v < 100) : dN v ≤ 2 := by unfold dN; split <;> (try split) <;> omega
