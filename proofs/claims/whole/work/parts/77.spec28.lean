/-- the class's places -/
def plB (B : Nat → Nat → Int32) : Int → Int := fun f => (B 5 f.toNat).toInt
theorem ffN_iff (pl : Int → Int) (d n : Int) : ∀ k : Nat, (k : Int) ≤ n → (ffN pl d n k = -1 ∧ ∀ f : Int, n - k ≤ f → f < n → pl f ≠ d) ∨ ((n - k ≤ ffN pl d n k ∧ ffN pl d n k < n) ∧ pl (ffN pl d n k) = d)
  | 0, _ => Or.inl ⟨rfl, fun f a c => by omega⟩
  | k + 1, h => by
    rw [ffN]
    by_cases q : pl (n - (k + 1)) = d
    · rw [if_pos q]
      exact Or.inr ⟨by omega, q⟩
    · rw [if_neg q]
      rcases ffN_iff pl d n k (by omega) with ⟨a, c⟩ | ⟨a, c⟩
      · refine Or.inl ⟨a, fun f f1 f2 => ?_⟩
        rcases (show f = n - (k + 1) ∨ n - k ≤ f by omega) with z | z
        · rw [z]; exact q
        · exact c f z f2
      · exact Or.inr ⟨by omega, c⟩
theorem ffN_tk {pl : Int → Int} {d : Int} : 0 ≤ ffN pl d 8 8 ↔ tk pl 8 d = true := by
  rw [tk_iff]
  rcases ffN_iff pl d 8 8 (by decide) with ⟨a, c⟩ | ⟨a, c⟩
  · constructor
    · intro h
      omega
    · rintro ⟨f, f1, f2, f3⟩
      exact absurd f3 (c f (by omega) f2)
  · exact ⟨fun h => ⟨_, by omega, a.2, c⟩, fun _ => by omega⟩
theorem frN_cg {p1 p2 : Int → Int} {n1 n2 : Int} : ∀ (k : Nat) (d : Int), (∀ x : Int, d ≤ x → (tk p1 n1 x = true ↔ tk p2 n2 x = true)) → frN p1 n1 k d = frN p2 n2 k d
  | 0, d, _ => rfl
  | k + 1, d, h => by
    rw [frN, frN]
    by_cases q : tk p1 n1 d = true
    · rw [if_pos q, if_pos ((h d (Int.le_refl _)).mp q)]
      exact frN_cg k (d + 1) (fun x hx => h x (by omega))
    · rw [if_neg q, if_neg (fun z => q ((h d (Int.le_refl _)).mpr z))]
theorem toC_ge {r x : Int} (h : -999999 ≤ x) : toC r = x ↔ r = x := by
  unfold toC
  by_cases a : r = -2147483647
  · rw [if_pos a]
    omega
  · rw [if_neg a]
/-- the class's places are the spec's -/
def plQ (B : Nat → Nat → Int32) (nf : Int) (pl : Int → Int) : Prop := (∀ j : Int, 0 ≤ j → j < 8 → (B 5 j.toNat).toInt = toC (pl j)) ∧ ∀ j : Int, nf ≤ j → pl j = -2147483647
theorem plQ.fr {B : Nat → Nat → Int32} {nf : Int} {pl : Int → Int} (h : plQ B nf pl) (hn : nf ≤ 8) {d : Int} (hd : -999999 ≤ d) : frN (plB B) 8 8 d = frN pl nf 8 d := by
  refine frN_cg 8 d fun x hx => ?_
  rw [tk_iff, tk_iff]
  constructor
  · rintro ⟨f, f1, f2, f3⟩
    have e : pl f = x := (toC_ge (by omega)).mp ((h.1 f f1 f2).symm.trans f3)
    refine ⟨f, f1, ?_, e⟩
    by_cases q : f < nf
    · exact q
    · have := h.2 f (by omega)
      omega
  · rintro ⟨f, f1, f2, f3⟩
    exact ⟨f, f1, by omega, (h.1 f f1 (by omega)).trans ((toC_ge (by omega)).mpr f3)⟩
theorem plI_hi {rk days : Int → Int} {nf r : Int} {pl : Int → Int} (h : ∀ j : Int, nf ≤ j → pl j = -2147483647) : ∀ k : Nat, (k : Int) ≤ nf → ∀ j : Int, nf ≤ j → plI rk days nf r pl k j = -2147483647
  | 0, _, j, hj => h j hj
  | k + 1, hk, j, hj => by
    rw [plI]
    split
    · show (if j = (k : Int) then _ else plI rk days nf r pl k j) = _
      rw [if_neg (by omega)]
      exact plI_hi h k (by omega) j hj
    · exact plI_hi h k (by omega) j hj
