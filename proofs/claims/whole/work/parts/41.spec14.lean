/-- the text of a number: how many digits, the digits -/
def dN (v : Int) : Int := if v < 10 then 1 else if v < 100 then 2 else if v < 1000 then 3 else 4
def pT (r : Int) : Int := if r = 1 then 1 else if r = 2 then 10 else if r = 3 then 100 else 1000
def dD (v i : Int) : Int := 48 + v / pT (dN v - i) % 10
/-- a text behind another -/
def catI (o : Int → Int) (n : Int) (s : Int → Int) : Int → Int := fun j => if j < n then o j else s (j - n)
/-- what is written so far -/
def outP (R : Nat → Nat → Int32) (n : Int) (o : Int → Int) : Prop := ∀ j : Int, 0 ≤ j → j < n → (R 24 j.toNat).toInt = o j
theorem ch_t : ∀ k : Nat, k < 128 → ((i3 k).toUInt32 % 65536).toInt32 = i3 k ∧ vp_nar .char (i3 k) = i3 k := by decide +kernel
theorem ch_x {x : Int32} {v : Int} (e : x.toInt = v) (h0 : 0 ≤ v) (h1 : v < 128) : (x.toUInt32 % 65536).toInt32 = x ∧ vp_nar .char x = x := by
  have h2 : x = i3 ((v.toNat : Nat) : Int) := by rw [show ((v.toNat : Nat) : Int) = v by omega, ← e, i3_i]
  rw [h2]
  exact ch_t _ (by omega)
theorem dN_bd (v : Int) : 1 ≤ dN v ∧ dN v ≤ 4 := by unfold dN; split <;> (try split) <;> (try split) <;> omega
theorem outP_s {R : Nat → Nat → Int32} {n v : Int} {o : Int → Int} {x : Int32} (hn : 0 ≤ n) (h : outP R n o) (e : x.toInt = v) : outP (va_up R 24 (upd (R 24) n.toNat x)) (n + 1) (catI o n (fun _ => v)) := fun j a1 a2 => by
  unfold catI
  by_cases q : j < n
  · rw [if_pos q, up_n _ _ _ _ (by omega)]; exact h j a1 q
  · rw [if_neg q, show j = n by omega, up_s, e]
theorem outP_cg {R : Nat → Nat → Int32} {n : Int} {o o' : Int → Int} (h : outP R n o) (e : ∀ j : Int, 0 ≤ j → j < n → o j = o' j) : outP R n o' := fun j a1 a2 => (h j a1 a2).trans (e j a1 a2)
theorem pow_d (v r u : Int) (hv : 0 ≤ v) (hr : (r = 1 ∧ u = 1) ∨ (r = 2 ∧ u = 10) ∨ (r = 3 ∧ u = 100) ∨ (r = 4 ∧ u = 1000)) : pT r = u ∧ 0 ≤ v / u ∧ v / u ≤ v ∧ 0 ≤ v / u % 10 ∧ v / u % 10 ≤ 9 := by
  have a := Int.ediv_nonneg hv (show 0 ≤ u by omega)
  have b := Int.ediv_le_self u hv
  refine ⟨?_, a, b, by omega, by omega⟩
  rcases hr with z | z | z | z <;> rw [z.1, z.2] <;> rfl
theorem dN_u {v u : Int} (hv : 0 ≤ v ∧ v < 10000) (hu : u = 1 ∨ u = 10 ∧ 10 ≤ v ∨ u = 100 ∧ 100 ≤ v ∨ u = 1000 ∧ 1000 ≤ v) (h : v / u ≤ 9) : (dN v = 1 ∧ u = 1) ∨ (dN v = 2 ∧ u = 10) ∨ (dN v = 3 ∧ u = 100) ∨ (dN v = 4 ∧ u = 1000) := by
  unfold dN
  rcases hu with z | z | z | z
  · subst z; rw [if_pos (by omega)]; omega
  · obtain ⟨z, z2⟩ := z; subst z; rw [if_neg (by omega), if_pos (by omega)]; omega
  · obtain ⟨z, z2⟩ := z; subst z; rw [if_neg (by omega), if_neg (by omega), if_pos (by omega)]; omega
  · obtain ⟨z, z2⟩ := z; subst z; rw [if_neg (by omega), if_neg (by omega), if_neg (by omega)]; omega
theorem un_s {v u : Int} (hv : 0 ≤ v ∧ v < 10000) (hu : u = 1 ∨ u = 10 ∧ 10 ≤ v ∨ u = 100 ∧ 100 ≤ v ∨ u = 1000 ∧ 1000 ≤ v) (h : ¬ v / u ≤ 9) : (u = 1 ∧ 10 ≤ v) ∨ (u = 10 ∧ 100 ≤ v) ∨ (u = 100 ∧ 1000 ≤ v) := by
  rcases hu with z | z | z | z
  · subst z; omega
  · obtain ⟨z, z2⟩ := z; subst z; omega
  · obtain ⟨z, z2⟩ := z; subst z; omega
  · obtain ⟨z, z2⟩ := z; subst z; omega
