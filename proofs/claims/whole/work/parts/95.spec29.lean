/-- whole years between two days as the class counts them -/
theorem spY_c {ρ : Row} (h : okRow ρ) {a b : Int} (a1 : fst ρ (-2000) ≤ a) (a2 : a < fst ρ 2001) (a3 : -999999 ≤ a ∧ a ≤ 999999) (b1 : fst ρ (-2000) ≤ b) (b2 : b < fst ρ 2001) (b3 : -999999 ≤ b ∧ b ≤ 999999) (hab : a ≤ b) :
    spY ρ a b = if b < ylc ρ a (yof ρ b - yof ρ a) then yof ρ b - yof ρ a - 1 else yof ρ b - yof ρ a := by
  have ya := yof_in h a1 a2
  have yb := yof_in h b1 b2
  have hle := yof_le h a1 a2 b1 b2 hab
  obtain ⟨n, hn⟩ : ∃ n : Int, yof ρ b - yof ρ a = n := ⟨_, rfl⟩
  have hr : -2000 ≤ yof ρ a + n ∧ yof ρ a + n ≤ 2000 := by omega
  have ec : ylc ρ a n = ylr ρ a n := if_pos ⟨⟨a1, a2⟩, hr.1, hr.2⟩
  have et : ylat ρ a n = if -999999 ≤ ylr ρ a n ∧ ylr ρ a n ≤ 999999 then ylr ρ a n else -2147483647 := ylat_r hr
  have hlow : -999999 ≤ ylr ρ a n := by
    by_cases z : n = 0
    · have t := ylat_0 h a1 a2 a3
      rw [z] at et ⊢
      rw [t] at et
      by_cases q : -999999 ≤ ylr ρ a 0 ∧ ylr ρ a 0 ≤ 999999
      · exact q.1
      · rw [if_neg q] at et
        omega
    · have y := ylr_in h a1 a2 n
      have m := fst_mono h (show yof ρ a + 1 ≤ yof ρ a + n by omega)
      omega
  unfold spY
  rw [hn, et, ec]
  by_cases q : ylr ρ a n ≤ 999999
  · rw [if_pos (show -999999 ≤ ylr ρ a n ∧ ylr ρ a n ≤ 999999 from ⟨hlow, q⟩)]
    by_cases c : b < ylr ρ a n
    · rw [if_pos c, if_neg (by omega)]
    · rw [if_neg c, if_pos (by omega)]
  · rw [if_neg (show ¬ (-999999 ≤ ylr ρ a n ∧ ylr ρ a n ≤ 999999) by omega), if_neg (by omega), if_pos (by omega)]
