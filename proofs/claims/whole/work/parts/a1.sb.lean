theorem by_t : ∀ k : Nat, k < 128 → vp_nar .byte (i3 k) = i3 k ∧ (i3 k).toInt8.toInt32 = i3 k ∧ (i3 k &&& 255) = i3 k := by decide +kernel
theorem by_x {x : Int32} {v : Int} (e : x.toInt = v) (h : 0 ≤ v ∧ v < 128) : vp_nar .byte x = x ∧ x.toInt8.toInt32 = x ∧ (x &&& 255) = x := by
  have h2 : x = i3 ((v.toNat : Nat) : Int) := by rw [show ((v.toNat : Nat) : Int) = v by omega, ← e, i3_i]
  rw [h2]
  exact by_t _ (by omega)
theorem dg_t : ∀ k : Nat, k < 100 → (Int32.ofNat (48 + k % 10)).toInt = 48 + (k : Int) % 10 ∧ (Int32.ofNat (48 + k / 10)).toInt = 48 + (k : Int) / 10 := by decide +kernel
theorem dg_1 {i : Int32} {r : Int} (e : i.toInt = r) (h : 0 ≤ r ∧ r < 100) : (Int32.ofNat (48 + i.toNatClampNeg % 10)).toInt = 48 + r % 10 := by
  rw [g_tn e, (dg_t r.toNat (by omega)).1]
  omega
theorem dg_2 {i : Int32} {r : Int} (e : i.toInt = r) (h : 0 ≤ r ∧ r < 100) : (Int32.ofNat (48 + i.toNatClampNeg / 10)).toInt = 48 + r / 10 := by
  rw [g_tn e, (dg_t r.toNat (by omega)).2]
  omega
/-- the letters of the StringBuilder -/
def outB (B : Nat → Nat → Int32) (n : Int) (o : Int → Int) : Prop := ∀ j : Int, 0 ≤ j → j < n → (B 9 j.toNat).toInt = o j
def sbQ (A : Nat → Int32) (B : Nat → Nat → Int32) (s : Int × (Int → Int)) : Prop := (A 37).toInt = s.1 ∧ outB B s.1 s.2
/-- a number behind a text -/
def apI (s : Int × (Int → Int)) (v : Int) : Int × (Int → Int) := ad (if v < 0 then ad s 1 (fun _ => 45) else s) (dN (absI v)) (dD (absI v))
theorem st9 {B B1 : Nat → Nat → Int32} {i v : Int} {x : Int32} (e : B1 = va_up B 9 (upd (B 9) i.toNat x)) (hi : 0 ≤ i) (hx : x.toInt = v) : ∀ j : Int, 0 ≤ j → (B1 9 j.toNat).toInt = if j = i then v else (B 9 j.toNat).toInt := fun j hj => by
  by_cases q : j = i
  · rw [if_pos q, e, q, up_s, hx]
  · rw [if_neg q, e, up_n _ _ _ _ (by omega)]
theorem sbQ_c {A : Nat → Int32} {B B1 : Nat → Nat → Int32} {s : Int × (Int → Int)} {x : Int32} {v : Int} (h : sbQ A B s) (hx : x.toInt = (A 37).toInt + 1) (hs : ∀ j : Int, 0 ≤ j → (B1 9 j.toNat).toInt = if j = (A 37).toInt then v else (B 9 j.toNat).toInt) : sbQ (va_up A 37 x) B1 (ad s 1 (fun _ => v)) := by
  refine ⟨by rw [va_up_self, hx, h.1]; rfl, fun j a1 a2 => ?_⟩
  have a2 : j < s.1 + 1 := a2
  have h1 := h.1
  rw [hs j a1]
  show _ = if j < s.1 then s.2 j else v
  by_cases q : j = s.1
  · rw [if_pos (by omega), if_neg (by omega)]
  · rw [if_neg (by omega), if_pos (by omega)]
    exact h.2 j a1 (by omega)
/-- what a number's letters are when they end before p -/
def gcF (v p : Int) (f : Int → Int) : Int → Int := fun j => if p - dN (absI v) ≤ j ∧ j < p then dD (absI v) (j - (p - dN (absI v))) else if v < 0 ∧ j = p - dN (absI v) - 1 then 45 else f j
theorem gc_at {v p j i k : Int} {f : Int → Int} (hd : dN (absI v) = k) (hi : 1 ≤ i ∧ i ≤ k) (hj : j = p - i) : gcF v p f j = 48 + absI v / pT i % 10 := by
  unfold gcF dD
  rw [if_pos (by omega), show dN (absI v) - (j - (p - dN (absI v))) = i by omega]
theorem gc_sg {v p j k : Int} {f : Int → Int} (hd : dN (absI v) = k) (hv : v < 0) (hj : j = p - k - 1) : gcF v p f j = 45 := by
  unfold gcF
  rw [if_neg (by omega), if_pos (by omega)]
theorem gc_off {v p j k : Int} {f : Int → Int} (hd : dN (absI v) = k) (h1 : ¬ (p - k ≤ j ∧ j < p)) (h2 : ¬ (v < 0 ∧ j = p - k - 1)) : gcF v p f j = f j := by
  unfold gcF
  rw [if_neg (by omega), if_neg (by omega)]
theorem sbQ_i {A : Nat → Int32} {B B1 : Nat → Nat → Int32} {s : Int × (Int → Int)} {x : Int32} {v p : Int} (h : sbQ A B s) (h0 : 0 ≤ s.1) (hp : p = s.1 + ((if v < 0 then 1 else 0) + dN (absI v))) (hx : x.toInt = p) (hs : ∀ j : Int, 0 ≤ j → (B1 9 j.toNat).toInt = gcF v p (fun j => (B 9 j.toNat).toInt) j) : sbQ (va_up A 37 x) B1 (apI s v) := by
  have hd := dN_bd (absI v)
  unfold apI
  by_cases hv : v < 0
  · rw [if_pos hv] at hp
    rw [if_pos hv]
    refine ⟨by rw [va_up_self, hx, hp]; show _ = s.1 + 1 + dN (absI v); omega, fun j a1 a2 => ?_⟩
    have a2 : j < s.1 + 1 + dN (absI v) := a2
    rw [hs j a1]
    show _ = if j < s.1 + 1 then (if j < s.1 then s.2 j else 45) else dD (absI v) (j - (s.1 + 1))
    unfold gcF
    by_cases q : j < s.1 + 1
    · rw [if_pos q, if_neg (by omega)]
      by_cases q2 : j < s.1
      · rw [if_pos q2, if_neg (by omega)]
        exact h.2 j a1 q2
      · rw [if_neg q2, if_pos ⟨hv, by omega⟩]
    · rw [if_neg q, if_pos (by omega), show p - dN (absI v) = s.1 + 1 by omega]
  · rw [if_neg hv] at hp
    rw [if_neg hv]
    refine ⟨by rw [va_up_self, hx, hp]; show _ = s.1 + dN (absI v); omega, fun j a1 a2 => ?_⟩
    have a2 : j < s.1 + dN (absI v) := a2
    rw [hs j a1]
    show _ = if j < s.1 then s.2 j else dD (absI v) (j - s.1)
    unfold gcF
    by_cases q : j < s.1
    · rw [if_pos q, if_neg (by omega), if_neg (by omega)]
      exact h.2 j a1 q
    · rw [if_neg q, if_pos (by omega), show p - dN (absI v) = s.1 by omega]

set_option maxHeartbeats 4000000 in
set_option maxRecDepth 100000 in
theorem c_J6_stringSize_0f7a4 (l : Launch) (a_v : Int32) (v : Int) (e_v : a_v.toInt = v) (h_1 : -9999 ≤ v ∧ v ≤ 9999) : qF l yJ6_stringSize_0f7a4 cJ6_stringSize_0f7a4 4 (some .int) 0 [.int a_v] (fun z => z.toInt = (if v < 0 then 1 else 0) + dN (absI v)) := by
  intro D t b n σ
  refine qP.ofF (by decide +kernel) (Nat.le_of_ble_eq_true rfl) (fun p e s m args below meth c X w ls hl => ?_)
  have hx := X.1
  have hb := X.2.1
  have hl : lv_has ls 4 [(0, .int a_v)] := hl
  refine lv_iconst (v := 1) hx hb dJ6_stringSize_0f7a4_0 (by decide) ?_
  refine lv_istore_n (lv' := [(1, .int 1), (0, .int a_v)]) hx hb dJ6_stringSize_0f7a4_1 rfl hl (by decide) rfl (fun ls hl => ?_)
  refine lv_iload_n hx hb dJ6_stringSize_0f7a4_2 rfl (lv_at hl 1 rfl) ?_
  refine lv_if_lt (tgt := 11) hx hb dJ6_stringSize_0f7a4_3 (by decide) (fun c_3 => ?_) (fun c_3 => ?_)
  · skip
    have k_3 : v < 0 := (g_lt e_v (show (0 : Int32).toInt = 0 from rfl)).mp c_3
    refine lv_bipush (v := (-10)) hx hb dJ6_stringSize_0f7a4_11 (by decide) ?_
    refine lv_istore_n (lv' := [(2, .int (-10)), (1, .int 1), (0, .int a_v)]) hx hb dJ6_stringSize_0f7a4_13 rfl hl (by decide) rfl (fun ls hl => ?_)
    refine lv_iconst (v := 1) hx hb dJ6_stringSize_0f7a4_14 (by decide) ?_
    refine lv_istore_n (lv' := [(3, .int 1), (2, .int (-10)), (1, .int 1), (0, .int a_v)]) hx hb dJ6_stringSize_0f7a4_15 rfl hl (by decide) rfl (fun ls hl => ?_)
    refine lv_iload_n hx hb dJ6_stringSize_0f7a4_16 rfl (lv_at hl 0 rfl) ?_
    refine lv_bipush (v := 10) hx hb dJ6_stringSize_0f7a4_17 (by decide) ?_
    refine lv_icmp_ge (tgt := 42) hx hb dJ6_stringSize_0f7a4_19 (by decide) (fun c_19 => ?_) (fun c_19 => ?_)
    · skip
      have k_19 : 10 ≤ (1 : Int) := (g_le (show (10 : Int32).toInt = 10 from rfl) (show (1 : Int32).toInt = 1 from rfl)).mp c_19
      omega
    · skip
      have k_19 : ¬ (10 ≤ (1 : Int)) := fun h => c_19 ((g_le (show (10 : Int32).toInt = 10 from rfl) (show (1 : Int32).toInt = 1 from rfl)).mpr h)
      refine lv_iload_n hx hb dJ6_stringSize_0f7a4_22 rfl (lv_at hl 3 rfl) ?_
      refine lv_iload_n hx hb dJ6_stringSize_0f7a4_23 rfl (lv_at hl 1 rfl) ?_
      refine lv_icmp_le (tgt := 31) hx hb dJ6_stringSize_0f7a4_24 (by decide) (fun c_24 => ?_) (fun c_24 => ?_)
      · skip
        have k_24 : v ≤ (-10) := (g_le e_v (show ((-10) : Int32).toInt = (-10) from rfl)).mp c_24
        refine lv_bipush (v := 10) hx hb dJ6_stringSize_0f7a4_31 (by decide) ?_
        refine lv_iload_n hx hb dJ6_stringSize_0f7a4_33 rfl (lv_at hl 1 rfl) ?_
        refine lv_imul hx hb dJ6_stringSize_0f7a4_34 ?_
        refine lv_topi (fun x_34 e_34 => ?_)
        have p_34 : x_34.toInt = (10 * (-10)) := by rw [e_34]; exact t_mul (show (10 : Int32).toInt = 10 from rfl) (show ((-10) : Int32).toInt = (-10) from rfl) (by omega) (by omega)
        refine lv_istore_n (lv' := [(2, .int x_34), (3, .int 1), (1, .int 1), (0, .int a_v)]) hx hb dJ6_stringSize_0f7a4_35 rfl hl (by decide) rfl (fun ls hl => ?_)
        obtain ⟨x_36, e_36⟩ : ∃ z : Int32, z = (1 + 1) := ⟨_, rfl⟩
        have p_36 : x_36.toInt = ((1 : Int) + 1) := by rw [e_36]; exact t_add (show (1 : Int32).toInt = 1 from rfl) (show (1 : Int32).toInt = 1 from rfl) (by omega) (by omega)
        refine lv_iinc (v := x_36) (lv' := [(3, .int x_36), (2, .int x_34), (1, .int 1), (0, .int a_v)]) hx hb dJ6_stringSize_0f7a4_36 hl (k := 1) rfl (by rw [e_36]; rfl) (by decide) rfl (fun ls hl => ?_)
        refine lv_goto (tgt := 16) hx hb dJ6_stringSize_0f7a4_39 (by decide) ?_
        refine lv_iload_n hx hb dJ6_stringSize_0f7a4_16 rfl (lv_at hl 0 rfl) ?_
        refine lv_bipush (v := 10) hx hb dJ6_stringSize_0f7a4_17 (by decide) ?_
        refine lv_icmp_ge (tgt := 42) hx hb dJ6_stringSize_0f7a4_19 (by decide) (fun c_19 => ?_) (fun c_19 => ?_)
        · skip
          have k_19 : 10 ≤ ((1 : Int) + 1) := (g_le (show (10 : Int32).toInt = 10 from rfl) p_36).mp c_19
          omega
        · skip
          have k_19 : ¬ (10 ≤ ((1 : Int) + 1)) := fun h => c_19 ((g_le (show (10 : Int32).toInt = 10 from rfl) p_36).mpr h)
          refine lv_iload_n hx hb dJ6_stringSize_0f7a4_22 rfl (lv_at hl 3 rfl) ?_
          refine lv_iload_n hx hb dJ6_stringSize_0f7a4_23 rfl (lv_at hl 1 rfl) ?_
          refine lv_icmp_le (tgt := 31) hx hb dJ6_stringSize_0f7a4_24 (by decide) (fun c_24 => ?_) (fun c_24 => ?_)
          · skip
            have k_24 : v ≤ (10 * (-10)) := (g_le e_v p_34).mp c_24
            refine lv_bipush (v := 10) hx hb dJ6_stringSize_0f7a4_31 (by decide) ?_
            refine lv_iload_n hx hb dJ6_stringSize_0f7a4_33 rfl (lv_at hl 1 rfl) ?_
            refine lv_imul hx hb dJ6_stringSize_0f7a4_34 ?_
            refine lv_topi (fun x_34 e_34 => ?_)
            have p_34 : x_34.toInt = (10 * (10 * (-10))) := by rw [e_34]; exact t_mul (show (10 : Int32).toInt = 10 from rfl) p_34 (by omega) (by omega)
            refine lv_istore_n (lv' := [(2, .int x_34), (3, .int x_36), (1, .int 1), (0, .int a_v)]) hx hb dJ6_stringSize_0f7a4_35 rfl hl (by decide) rfl (fun ls hl => ?_)
            obtain ⟨x_36, e_36⟩ : ∃ z : Int32, z = (x_36 + 1) := ⟨_, rfl⟩
            have p_36 : x_36.toInt = (((1 : Int) + 1) + 1) := by rw [e_36]; exact t_add p_36 (show (1 : Int32).toInt = 1 from rfl) (by omega) (by omega)
            refine lv_iinc (v := x_36) (lv' := [(3, .int x_36), (2, .int x_34), (1, .int 1), (0, .int a_v)]) hx hb dJ6_stringSize_0f7a4_36 hl (k := 1) rfl (by rw [e_36]; rfl) (by decide) rfl (fun ls hl => ?_)
            refine lv_goto (tgt := 16) hx hb dJ6_stringSize_0f7a4_39 (by decide) ?_
            refine lv_iload_n hx hb dJ6_stringSize_0f7a4_16 rfl (lv_at hl 0 rfl) ?_
            refine lv_bipush (v := 10) hx hb dJ6_stringSize_0f7a4_17 (by decide) ?_
            refine lv_icmp_ge (tgt := 42) hx hb dJ6_stringSize_0f7a4_19 (by decide) (fun c_19 => ?_) (fun c_19 => ?_)
            · skip
              have k_19 : 10 ≤ (((1 : Int) + 1) + 1) := (g_le (show (10 : Int32).toInt = 10 from rfl) p_36).mp c_19
              omega
            · skip
              have k_19 : ¬ (10 ≤ (((1 : Int) + 1) + 1)) := fun h => c_19 ((g_le (show (10 : Int32).toInt = 10 from rfl) p_36).mpr h)
              refine lv_iload_n hx hb dJ6_stringSize_0f7a4_22 rfl (lv_at hl 3 rfl) ?_
              refine lv_iload_n hx hb dJ6_stringSize_0f7a4_23 rfl (lv_at hl 1 rfl) ?_
              refine lv_icmp_le (tgt := 31) hx hb dJ6_stringSize_0f7a4_24 (by decide) (fun c_24 => ?_) (fun c_24 => ?_)
              · skip
                have k_24 : v ≤ (10 * (10 * (-10))) := (g_le e_v p_34).mp c_24
                refine lv_bipush (v := 10) hx hb dJ6_stringSize_0f7a4_31 (by decide) ?_
                refine lv_iload_n hx hb dJ6_stringSize_0f7a4_33 rfl (lv_at hl 1 rfl) ?_
                refine lv_imul hx hb dJ6_stringSize_0f7a4_34 ?_
                refine lv_topi (fun x_34 e_34 => ?_)
                have p_34 : x_34.toInt = (10 * (10 * (10 * (-10)))) := by rw [e_34]; exact t_mul (show (10 : Int32).toInt = 10 from rfl) p_34 (by omega) (by omega)
                refine lv_istore_n (lv' := [(2, .int x_34), (3, .int x_36), (1, .int 1), (0, .int a_v)]) hx hb dJ6_stringSize_0f7a4_35 rfl hl (by decide) rfl (fun ls hl => ?_)
                obtain ⟨x_36, e_36⟩ : ∃ z : Int32, z = (x_36 + 1) := ⟨_, rfl⟩
                have p_36 : x_36.toInt = ((((1 : Int) + 1) + 1) + 1) := by rw [e_36]; exact t_add p_36 (show (1 : Int32).toInt = 1 from rfl) (by omega) (by omega)
                refine lv_iinc (v := x_36) (lv' := [(3, .int x_36), (2, .int x_34), (1, .int 1), (0, .int a_v)]) hx hb dJ6_stringSize_0f7a4_36 hl (k := 1) rfl (by rw [e_36]; rfl) (by decide) rfl (fun ls hl => ?_)
                refine lv_goto (tgt := 16) hx hb dJ6_stringSize_0f7a4_39 (by decide) ?_
                refine lv_iload_n hx hb dJ6_stringSize_0f7a4_16 rfl (lv_at hl 0 rfl) ?_
                refine lv_bipush (v := 10) hx hb dJ6_stringSize_0f7a4_17 (by decide) ?_
                refine lv_icmp_ge (tgt := 42) hx hb dJ6_stringSize_0f7a4_19 (by decide) (fun c_19 => ?_) (fun c_19 => ?_)
                · skip
                  have k_19 : 10 ≤ ((((1 : Int) + 1) + 1) + 1) := (g_le (show (10 : Int32).toInt = 10 from rfl) p_36).mp c_19
                  omega
                · skip
                  have k_19 : ¬ (10 ≤ ((((1 : Int) + 1) + 1) + 1)) := fun h => c_19 ((g_le (show (10 : Int32).toInt = 10 from rfl) p_36).mpr h)
                  refine lv_iload_n hx hb dJ6_stringSize_0f7a4_22 rfl (lv_at hl 3 rfl) ?_
                  refine lv_iload_n hx hb dJ6_stringSize_0f7a4_23 rfl (lv_at hl 1 rfl) ?_
                  refine lv_icmp_le (tgt := 31) hx hb dJ6_stringSize_0f7a4_24 (by decide) (fun c_24 => ?_) (fun c_24 => ?_)
                  · skip
                    have k_24 : v ≤ (10 * (10 * (10 * (-10)))) := (g_le e_v p_34).mp c_24
                    omega
                  · skip
                    have k_24 : ¬ (v ≤ (10 * (10 * (10 * (-10))))) := fun h => c_24 ((g_le e_v p_34).mpr h)
                    refine lv_iload_n hx hb dJ6_stringSize_0f7a4_27 rfl (lv_at hl 0 rfl) ?_
                    refine lv_iload_n hx hb dJ6_stringSize_0f7a4_28 rfl (lv_at hl 2 rfl) ?_
                    refine lv_iadd hx hb dJ6_stringSize_0f7a4_29 ?_
                    refine lv_topi (fun x_29 e_29 => ?_)
                    have p_29 : x_29.toInt = (((((1 : Int) + 1) + 1) + 1) + 1) := by rw [e_29]; exact t_add p_36 (show (1 : Int32).toInt = 1 from rfl) (by omega) (by omega)
                    exact q_pret X w dJ6_stringSize_0f7a4_30 (by refine (p_29).trans ?_; rw [show absI v = -v from by unfold absI; rw [if_pos k_3], if_pos k_3]; unfold dN; (repeat' split) <;> omega)
              · skip
                have k_24 : ¬ (v ≤ (10 * (10 * (-10)))) := fun h => c_24 ((g_le e_v p_34).mpr h)
                refine lv_iload_n hx hb dJ6_stringSize_0f7a4_27 rfl (lv_at hl 0 rfl) ?_
                refine lv_iload_n hx hb dJ6_stringSize_0f7a4_28 rfl (lv_at hl 2 rfl) ?_
                refine lv_iadd hx hb dJ6_stringSize_0f7a4_29 ?_
                refine lv_topi (fun x_29 e_29 => ?_)
                have p_29 : x_29.toInt = ((((1 : Int) + 1) + 1) + 1) := by rw [e_29]; exact t_add p_36 (show (1 : Int32).toInt = 1 from rfl) (by omega) (by omega)
                exact q_pret X w dJ6_stringSize_0f7a4_30 (by refine (p_29).trans ?_; rw [show absI v = -v from by unfold absI; rw [if_pos k_3], if_pos k_3]; unfold dN; (repeat' split) <;> omega)
          · skip
            have k_24 : ¬ (v ≤ (10 * (-10))) := fun h => c_24 ((g_le e_v p_34).mpr h)
            refine lv_iload_n hx hb dJ6_stringSize_0f7a4_27 rfl (lv_at hl 0 rfl) ?_
            refine lv_iload_n hx hb dJ6_stringSize_0f7a4_28 rfl (lv_at hl 2 rfl) ?_
            refine lv_iadd hx hb dJ6_stringSize_0f7a4_29 ?_
            refine lv_topi (fun x_29 e_29 => ?_)
            have p_29 : x_29.toInt = (((1 : Int) + 1) + 1) := by rw [e_29]; exact t_add p_36 (show (1 : Int32).toInt = 1 from rfl) (by omega) (by omega)
            exact q_pret X w dJ6_stringSize_0f7a4_30 (by refine (p_29).trans ?_; rw [show absI v = -v from by unfold absI; rw [if_pos k_3], if_pos k_3]; unfold dN; (repeat' split) <;> omega)
      · skip
        have k_24 : ¬ (v ≤ (-10)) := fun h => c_24 ((g_le e_v (show ((-10) : Int32).toInt = (-10) from rfl)).mpr h)
        refine lv_iload_n hx hb dJ6_stringSize_0f7a4_27 rfl (lv_at hl 0 rfl) ?_
        refine lv_iload_n hx hb dJ6_stringSize_0f7a4_28 rfl (lv_at hl 2 rfl) ?_
        refine lv_iadd hx hb dJ6_stringSize_0f7a4_29 ?_
        refine lv_topi (fun x_29 e_29 => ?_)
        have p_29 : x_29.toInt = ((1 : Int) + 1) := by rw [e_29]; exact t_add (show (1 : Int32).toInt = 1 from rfl) (show (1 : Int32).toInt = 1 from rfl) (by omega) (by omega)
        exact q_pret X w dJ6_stringSize_0f7a4_30 (by refine (p_29).trans ?_; rw [show absI v = -v from by unfold absI; rw [if_pos k_3], if_pos k_3]; unfold dN; (repeat' split) <;> omega)
  · skip
    have k_3 : ¬ (v < 0) := fun h => c_3 ((g_lt e_v (show (0 : Int32).toInt = 0 from rfl)).mpr h)
    refine lv_iconst (v := 0) hx hb dJ6_stringSize_0f7a4_6 (by decide) ?_
    refine lv_istore_n (lv' := [(1, .int 0), (0, .int a_v)]) hx hb dJ6_stringSize_0f7a4_7 rfl hl (by decide) rfl (fun ls hl => ?_)
    refine lv_iload_n hx hb dJ6_stringSize_0f7a4_8 rfl (lv_at hl 1 rfl) ?_
    refine lv_ineg hx hb dJ6_stringSize_0f7a4_9 ?_
    refine lv_topi (fun x_9 e_9 => ?_)
    have p_9 : x_9.toInt = -v := by rw [e_9]; exact t_neg e_v (by omega)
    refine lv_istore_n (lv' := [(0, .int x_9), (1, .int 0)]) hx hb dJ6_stringSize_0f7a4_10 rfl hl (by decide) rfl (fun ls hl => ?_)
    refine lv_bipush (v := (-10)) hx hb dJ6_stringSize_0f7a4_11 (by decide) ?_
    refine lv_istore_n (lv' := [(2, .int (-10)), (0, .int x_9), (1, .int 0)]) hx hb dJ6_stringSize_0f7a4_13 rfl hl (by decide) rfl (fun ls hl => ?_)
    refine lv_iconst (v := 1) hx hb dJ6_stringSize_0f7a4_14 (by decide) ?_
    refine lv_istore_n (lv' := [(3, .int 1), (2, .int (-10)), (0, .int x_9), (1, .int 0)]) hx hb dJ6_stringSize_0f7a4_15 rfl hl (by decide) rfl (fun ls hl => ?_)
    refine lv_iload_n hx hb dJ6_stringSize_0f7a4_16 rfl (lv_at hl 0 rfl) ?_
    refine lv_bipush (v := 10) hx hb dJ6_stringSize_0f7a4_17 (by decide) ?_
    refine lv_icmp_ge (tgt := 42) hx hb dJ6_stringSize_0f7a4_19 (by decide) (fun c_19 => ?_) (fun c_19 => ?_)
    · skip
      have k_19 : 10 ≤ (1 : Int) := (g_le (show (10 : Int32).toInt = 10 from rfl) (show (1 : Int32).toInt = 1 from rfl)).mp c_19
      omega
    · skip
      have k_19 : ¬ (10 ≤ (1 : Int)) := fun h => c_19 ((g_le (show (10 : Int32).toInt = 10 from rfl) (show (1 : Int32).toInt = 1 from rfl)).mpr h)
      refine lv_iload_n hx hb dJ6_stringSize_0f7a4_22 rfl (lv_at hl 2 rfl) ?_
      refine lv_iload_n hx hb dJ6_stringSize_0f7a4_23 rfl (lv_at hl 1 rfl) ?_
      refine lv_icmp_le (tgt := 31) hx hb dJ6_stringSize_0f7a4_24 (by decide) (fun c_24 => ?_) (fun c_24 => ?_)
      · skip
        have k_24 : (-v) ≤ (-10) := (g_le p_9 (show ((-10) : Int32).toInt = (-10) from rfl)).mp c_24
        refine lv_bipush (v := 10) hx hb dJ6_stringSize_0f7a4_31 (by decide) ?_
        refine lv_iload_n hx hb dJ6_stringSize_0f7a4_33 rfl (lv_at hl 1 rfl) ?_
        refine lv_imul hx hb dJ6_stringSize_0f7a4_34 ?_
        refine lv_topi (fun x_34 e_34 => ?_)
        have p_34 : x_34.toInt = (10 * (-10)) := by rw [e_34]; exact t_mul (show (10 : Int32).toInt = 10 from rfl) (show ((-10) : Int32).toInt = (-10) from rfl) (by omega) (by omega)
        refine lv_istore_n (lv' := [(2, .int x_34), (3, .int 1), (0, .int x_9), (1, .int 0)]) hx hb dJ6_stringSize_0f7a4_35 rfl hl (by decide) rfl (fun ls hl => ?_)
        obtain ⟨x_36, e_36⟩ : ∃ z : Int32, z = (1 + 1) := ⟨_, rfl⟩
        have p_36 : x_36.toInt = ((1 : Int) + 1) := by rw [e_36]; exact t_add (show (1 : Int32).toInt = 1 from rfl) (show (1 : Int32).toInt = 1 from rfl) (by omega) (by omega)
        refine lv_iinc (v := x_36) (lv' := [(3, .int x_36), (2, .int x_34), (0, .int x_9), (1, .int 0)]) hx hb dJ6_stringSize_0f7a4_36 hl (k := 1) rfl (by rw [e_36]; rfl) (by decide) rfl (fun ls hl => ?_)
        refine lv_goto (tgt := 16) hx hb dJ6_stringSize_0f7a4_39 (by decide) ?_
        refine lv_iload_n hx hb dJ6_stringSize_0f7a4_16 rfl (lv_at hl 0 rfl) ?_
        refine lv_bipush (v := 10) hx hb dJ6_stringSize_0f7a4_17 (by decide) ?_
        refine lv_icmp_ge (tgt := 42) hx hb dJ6_stringSize_0f7a4_19 (by decide) (fun c_19 => ?_) (fun c_19 => ?_)
        · skip
          have k_19 : 10 ≤ ((1 : Int) + 1) := (g_le (show (10 : Int32).toInt = 10 from rfl) p_36).mp c_19
          omega
        · skip
          have k_19 : ¬ (10 ≤ ((1 : Int) + 1)) := fun h => c_19 ((g_le (show (10 : Int32).toInt = 10 from rfl) p_36).mpr h)
          refine lv_iload_n hx hb dJ6_stringSize_0f7a4_22 rfl (lv_at hl 2 rfl) ?_
          refine lv_iload_n hx hb dJ6_stringSize_0f7a4_23 rfl (lv_at hl 1 rfl) ?_
          refine lv_icmp_le (tgt := 31) hx hb dJ6_stringSize_0f7a4_24 (by decide) (fun c_24 => ?_) (fun c_24 => ?_)
          · skip
            have k_24 : (-v) ≤ (10 * (-10)) := (g_le p_9 p_34).mp c_24
            refine lv_bipush (v := 10) hx hb dJ6_stringSize_0f7a4_31 (by decide) ?_
            refine lv_iload_n hx hb dJ6_stringSize_0f7a4_33 rfl (lv_at hl 1 rfl) ?_
            refine lv_imul hx hb dJ6_stringSize_0f7a4_34 ?_
            refine lv_topi (fun x_34 e_34 => ?_)
            have p_34 : x_34.toInt = (10 * (10 * (-10))) := by rw [e_34]; exact t_mul (show (10 : Int32).toInt = 10 from rfl) p_34 (by omega) (by omega)
            refine lv_istore_n (lv' := [(2, .int x_34), (3, .int x_36), (0, .int x_9), (1, .int 0)]) hx hb dJ6_stringSize_0f7a4_35 rfl hl (by decide) rfl (fun ls hl => ?_)
            obtain ⟨x_36, e_36⟩ : ∃ z : Int32, z = (x_36 + 1) := ⟨_, rfl⟩
            have p_36 : x_36.toInt = (((1 : Int) + 1) + 1) := by rw [e_36]; exact t_add p_36 (show (1 : Int32).toInt = 1 from rfl) (by omega) (by omega)
            refine lv_iinc (v := x_36) (lv' := [(3, .int x_36), (2, .int x_34), (0, .int x_9), (1, .int 0)]) hx hb dJ6_stringSize_0f7a4_36 hl (k := 1) rfl (by rw [e_36]; rfl) (by decide) rfl (fun ls hl => ?_)
            refine lv_goto (tgt := 16) hx hb dJ6_stringSize_0f7a4_39 (by decide) ?_
            refine lv_iload_n hx hb dJ6_stringSize_0f7a4_16 rfl (lv_at hl 0 rfl) ?_
            refine lv_bipush (v := 10) hx hb dJ6_stringSize_0f7a4_17 (by decide) ?_
            refine lv_icmp_ge (tgt := 42) hx hb dJ6_stringSize_0f7a4_19 (by decide) (fun c_19 => ?_) (fun c_19 => ?_)
            · skip
              have k_19 : 10 ≤ (((1 : Int) + 1) + 1) := (g_le (show (10 : Int32).toInt = 10 from rfl) p_36).mp c_19
              omega
            · skip
              have k_19 : ¬ (10 ≤ (((1 : Int) + 1) + 1)) := fun h => c_19 ((g_le (show (10 : Int32).toInt = 10 from rfl) p_36).mpr h)
              refine lv_iload_n hx hb dJ6_stringSize_0f7a4_22 rfl (lv_at hl 2 rfl) ?_
              refine lv_iload_n hx hb dJ6_stringSize_0f7a4_23 rfl (lv_at hl 1 rfl) ?_
              refine lv_icmp_le (tgt := 31) hx hb dJ6_stringSize_0f7a4_24 (by decide) (fun c_24 => ?_) (fun c_24 => ?_)
              · skip
                have k_24 : (-v) ≤ (10 * (10 * (-10))) := (g_le p_9 p_34).mp c_24
                refine lv_bipush (v := 10) hx hb dJ6_stringSize_0f7a4_31 (by decide) ?_
                refine lv_iload_n hx hb dJ6_stringSize_0f7a4_33 rfl (lv_at hl 1 rfl) ?_
                refine lv_imul hx hb dJ6_stringSize_0f7a4_34 ?_
                refine lv_topi (fun x_34 e_34 => ?_)
                have p_34 : x_34.toInt = (10 * (10 * (10 * (-10)))) := by rw [e_34]; exact t_mul (show (10 : Int32).toInt = 10 from rfl) p_34 (by omega) (by omega)
                refine lv_istore_n (lv' := [(2, .int x_34), (3, .int x_36), (0, .int x_9), (1, .int 0)]) hx hb dJ6_stringSize_0f7a4_35 rfl hl (by decide) rfl (fun ls hl => ?_)
                obtain ⟨x_36, e_36⟩ : ∃ z : Int32, z = (x_36 + 1) := ⟨_, rfl⟩
                have p_36 : x_36.toInt = ((((1 : Int) + 1) + 1) + 1) := by rw [e_36]; exact t_add p_36 (show (1 : Int32).toInt = 1 from rfl) (by omega) (by omega)
                refine lv_iinc (v := x_36) (lv' := [(3, .int x_36), (2, .int x_34), (0, .int x_9), (1, .int 0)]) hx hb dJ6_stringSize_0f7a4_36 hl (k := 1) rfl (by rw [e_36]; rfl) (by decide) rfl (fun ls hl => ?_)
                refine lv_goto (tgt := 16) hx hb dJ6_stringSize_0f7a4_39 (by decide) ?_
                refine lv_iload_n hx hb dJ6_stringSize_0f7a4_16 rfl (lv_at hl 0 rfl) ?_
                refine lv_bipush (v := 10) hx hb dJ6_stringSize_0f7a4_17 (by decide) ?_
                refine lv_icmp_ge (tgt := 42) hx hb dJ6_stringSize_0f7a4_19 (by decide) (fun c_19 => ?_) (fun c_19 => ?_)
                · skip
                  have k_19 : 10 ≤ ((((1 : Int) + 1) + 1) + 1) := (g_le (show (10 : Int32).toInt = 10 from rfl) p_36).mp c_19
                  omega
                · skip
                  have k_19 : ¬ (10 ≤ ((((1 : Int) + 1) + 1) + 1)) := fun h => c_19 ((g_le (show (10 : Int32).toInt = 10 from rfl) p_36).mpr h)
                  refine lv_iload_n hx hb dJ6_stringSize_0f7a4_22 rfl (lv_at hl 2 rfl) ?_
                  refine lv_iload_n hx hb dJ6_stringSize_0f7a4_23 rfl (lv_at hl 1 rfl) ?_
                  refine lv_icmp_le (tgt := 31) hx hb dJ6_stringSize_0f7a4_24 (by decide) (fun c_24 => ?_) (fun c_24 => ?_)
                  · skip
                    have k_24 : (-v) ≤ (10 * (10 * (10 * (-10)))) := (g_le p_9 p_34).mp c_24
                    omega
                  · skip
                    have k_24 : ¬ ((-v) ≤ (10 * (10 * (10 * (-10))))) := fun h => c_24 ((g_le p_9 p_34).mpr h)
                    refine lv_iload_n hx hb dJ6_stringSize_0f7a4_27 rfl (lv_at hl 0 rfl) ?_
                    refine lv_iload_n hx hb dJ6_stringSize_0f7a4_28 rfl (lv_at hl 3 rfl) ?_
                    refine lv_iadd hx hb dJ6_stringSize_0f7a4_29 ?_
                    refine lv_topi (fun x_29 e_29 => ?_)
                    have p_29 : x_29.toInt = (((((1 : Int) + 1) + 1) + 1) + 0) := by rw [e_29]; exact t_add p_36 (show (0 : Int32).toInt = 0 from rfl) (by omega) (by omega)
                    exact q_pret X w dJ6_stringSize_0f7a4_30 (by refine (p_29).trans ?_; rw [show absI v = v from by unfold absI; rw [if_neg k_3], if_neg k_3]; unfold dN; (repeat' split) <;> omega)
              · skip
                have k_24 : ¬ ((-v) ≤ (10 * (10 * (-10)))) := fun h => c_24 ((g_le p_9 p_34).mpr h)
                refine lv_iload_n hx hb dJ6_stringSize_0f7a4_27 rfl (lv_at hl 0 rfl) ?_
                refine lv_iload_n hx hb dJ6_stringSize_0f7a4_28 rfl (lv_at hl 3 rfl) ?_
                refine lv_iadd hx hb dJ6_stringSize_0f7a4_29 ?_
                refine lv_topi (fun x_29 e_29 => ?_)
                have p_29 : x_29.toInt = ((((1 : Int) + 1) + 1) + 0) := by rw [e_29]; exact t_add p_36 (show (0 : Int32).toInt = 0 from rfl) (by omega) (by omega)
                exact q_pret X w dJ6_stringSize_0f7a4_30 (by refine (p_29).trans ?_; rw [show absI v = v from by unfold absI; rw [if_neg k_3], if_neg k_3]; unfold dN; (repeat' split) <;> omega)
          · skip
            have k_24 : ¬ ((-v) ≤ (10 * (-10))) := fun h => c_24 ((g_le p_9 p_34).mpr h)
            refine lv_iload_n hx hb dJ6_stringSize_0f7a4_27 rfl (lv_at hl 0 rfl) ?_
            refine lv_iload_n hx hb dJ6_stringSize_0f7a4_28 rfl (lv_at hl 3 rfl) ?_
            refine lv_iadd hx hb dJ6_stringSize_0f7a4_29 ?_
            refine lv_topi (fun x_29 e_29 => ?_)
            have p_29 : x_29.toInt = (((1 : Int) + 1) + 0) := by rw [e_29]; exact t_add p_36 (show (0 : Int32).toInt = 0 from rfl) (by omega) (by omega)
            exact q_pret X w dJ6_stringSize_0f7a4_30 (by refine (p_29).trans ?_; rw [show absI v = v from by unfold absI; rw [if_neg k_3], if_neg k_3]; unfold dN; (repeat' split) <;> omega)
      · skip
        have k_24 : ¬ ((-v) ≤ (-10)) := fun h => c_24 ((g_le p_9 (show ((-10) : Int32).toInt = (-10) from rfl)).mpr h)
        refine lv_iload_n hx hb dJ6_stringSize_0f7a4_27 rfl (lv_at hl 0 rfl) ?_
        refine lv_iload_n hx hb dJ6_stringSize_0f7a4_28 rfl (lv_at hl 3 rfl) ?_
        refine lv_iadd hx hb dJ6_stringSize_0f7a4_29 ?_
        refine lv_topi (fun x_29 e_29 => ?_)
        have p_29 : x_29.toInt = ((1 : Int) + 0) := by rw [e_29]; exact t_add (show (1 : Int32).toInt = 1 from rfl) (show (0 : Int32).toInt = 0 from rfl) (by omega) (by omega)
        exact q_pret X w dJ6_stringSize_0f7a4_30 (by refine (p_29).trans ?_; rw [show absI v = v from by unfold absI; rw [if_neg k_3], if_neg k_3]; unfold dN; (repeat' split) <;> omega)

set_option maxHeartbeats 4000000 in
set_option maxRecDepth 100000 in
theorem c_J1_canEncode_fc78d (l : Launch) (a_v : Int32) (v : Int) (e_v : a_v.toInt = v) : qF l yJ1_canEncode_fc78d cJ1_canEncode_fc78d 1 (some .boolean) 0 [.int a_v] (fun z => z = bI (decide (v ≤ 255))) := by
  intro D t b n σ
  refine qP.ofF (by decide +kernel) (Nat.le_of_ble_eq_true rfl) (fun p e s m args below meth c X w ls hl => ?_)
  have hx := X.1
  have hb := X.2.1
  have hl : lv_has ls 1 [(0, .int a_v)] := hl
  refine lv_iload_n hx hb dJ1_canEncode_fc78d_0 rfl (lv_at hl 0 rfl) ?_
  refine lv_sipush (v := 255) hx hb dJ1_canEncode_fc78d_1 (by decide) ?_
  refine lv_icmp_gt (tgt := 11) hx hb dJ1_canEncode_fc78d_4 (by decide) (fun c_4 => ?_) (fun c_4 => ?_)
  · skip
    have k_4 : 255 < v := (g_lt (show (255 : Int32).toInt = 255 from rfl) e_v).mp c_4
    refine lv_iconst (v := 0) hx hb dJ1_canEncode_fc78d_11 (by decide) ?_
    exact q_pretz X w dJ1_canEncode_fc78d_12 (rfl) (by exact bI_0 (by omega))
  · skip
    have k_4 : ¬ (255 < v) := fun h => c_4 ((g_lt (show (255 : Int32).toInt = 255 from rfl) e_v).mpr h)
    refine lv_iconst (v := 1) hx hb dJ1_canEncode_fc78d_7 (by decide) ?_
    refine lv_goto (tgt := 12) hx hb dJ1_canEncode_fc78d_8 (by decide) ?_
    exact q_pretz X w dJ1_canEncode_fc78d_12 (rfl) (by exact bI_1 (by omega))

set_option maxHeartbeats 2000000 in
set_option maxRecDepth 100000 in
theorem c_J5_isLatin1_aae02 (l : Launch) (D : va_G) (t : Nat → ClassId) (b n : Nat) (σ0 : qM) (A : Nat → Int32) (B : Nat → Nat → Int32) (P : Nat → Nat → Option Nat)  : jM l yJ5_isLatin1_aae02 cJ5_isLatin1_aae02 1 (some .boolean) 0 D t b n σ0 A B P [.ref (b + 40)] (fun v A1 B1 => v = some (.int 1) ∧ A1 = A ∧ B1 = B) := by
  refine jM.of (by decide +kernel) (Nat.le_of_ble_eq_true rfl) (fun p e s m args below meth c X hS w ls hl => ?_)
  have hx := X.1
  have hb := X.2.1
  have hl : lv_has ls 1 [(0, .ref (b + 40))] := hl
  refine j_gets X w hS.1 fs_J5_18 dJ5_isLatin1_aae02_0 ?_
  refine lv_if_eq (tgt := 17) hx hb dJ5_isLatin1_aae02_3 (by decide) (fun c_3 => ?_) (fun c_3 => ?_)
  · skip
    have k_3 : (1 : Int) = 0 := (g_eq (show (1 : Int32).toInt = 1 from rfl) (show (0 : Int32).toInt = 0 from rfl)).mp c_3
    omega
  · skip
    have k_3 : ¬ ((1 : Int) = 0) := fun h => c_3 ((g_eq (show (1 : Int32).toInt = 1 from rfl) (show (0 : Int32).toInt = 0 from rfl)).mpr h)
    refine lv_aload_n hx hb dJ5_isLatin1_aae02_6 rfl (lv_at hl 0 rfl) ?_
    refine kg_sb_coder X w dJ5_isLatin1_aae02_7 ?_
    refine lv_if_ne (tgt := 17) hx hb dJ5_isLatin1_aae02_10 (by decide) (fun c_10 => ?_) (fun c_10 => ?_)
    · skip
      have k_10 : ¬ ((0 : Int) = 0) := fun h => c_10 ((g_eq (show (0 : Int32).toInt = 0 from rfl) (show (0 : Int32).toInt = 0 from rfl)).mpr h)
      omega
    · skip
      have k_10 : (0 : Int) = 0 := (g_eq (show (0 : Int32).toInt = 0 from rfl) (show (0 : Int32).toInt = 0 from rfl)).mp c_10
      refine lv_iconst (v := 1) hx hb dJ5_isLatin1_aae02_13 (by decide) ?_
      refine lv_goto (tgt := 18) hx hb dJ5_isLatin1_aae02_14 (by decide) ?_
      exact j_iret (post := fun v A1 B1 => v = some (.int 1) ∧ A1 = A ∧ B1 = B) X w dJ5_isLatin1_aae02_18 (rfl) (⟨rfl, rfl, rfl⟩)

set_option maxHeartbeats 2000000 in
set_option maxRecDepth 100000 in
theorem c_J5_length_8abf5 (l : Launch) (D : va_G) (t : Nat → ClassId) (b n : Nat) (σ0 : qM) (A : Nat → Int32) (B : Nat → Nat → Int32) (P : Nat → Nat → Option Nat)  : jM l yJ5_length_8abf5 cJ5_length_8abf5 1 (some .int) 0 D t b n σ0 A B P [.ref (b + 40)] (fun v A1 B1 => v = some (.int (A 37)) ∧ A1 = A ∧ B1 = B) := by
  refine jM.of (by decide +kernel) (Nat.le_of_ble_eq_true rfl) (fun p e s m args below meth c X hS w ls hl => ?_)
  have hx := X.1
  have hb := X.2.1
  have hl : lv_has ls 1 [(0, .ref (b + 40))] := hl
  refine lv_aload_n hx hb dJ5_length_8abf5_0 rfl (lv_at hl 0 rfl) ?_
  refine kg_sb_count X w dJ5_length_8abf5_1 ?_
  exact j_iret (post := fun v A1 B1 => v = some (.int (A 37)) ∧ A1 = A ∧ B1 = B) X w dJ5_length_8abf5_4 (rfl) (⟨rfl, rfl, rfl⟩)

set_option maxHeartbeats 2000000 in
set_option maxRecDepth 100000 in
theorem c_J5_ensureCapacityInternal_d00df (l : Launch) (D : va_G) (t : Nat → ClassId) (b n : Nat) (σ0 : qM) (A : Nat → Int32) (B : Nat → Nat → Int32) (P : Nat → Nat → Option Nat) (a_q : Int32) (q : Int) (e_q : a_q.toInt = q) (h_1 : q ≤ 16 ∧ -100 ≤ q) : jM l yJ5_ensureCapacityInternal_d00df cJ5_ensureCapacityInternal_d00df 3 none 0 D t b n σ0 A B P [.ref (b + 40), .int a_q] (fun v A1 B1 => v = none ∧ A1 = A ∧ B1 = B) := by
  refine jM.of (by decide +kernel) (Nat.le_of_ble_eq_true rfl) (fun p e s m args below meth c X hS w ls hl => ?_)
  have hx := X.1
  have hb := X.2.1
  have hl : lv_has ls 3 [(0, .ref (b + 40)), (1, .int a_q)] := hl
  refine lv_aload_n hx hb dJ5_ensureCapacityInternal_d00df_0 rfl (lv_at hl 0 rfl) ?_
  refine kg_sb_value X w dJ5_ensureCapacityInternal_d00df_1 ?_
  refine kn_9 X w dJ5_ensureCapacityInternal_d00df_4 ?_
  refine lv_aload_n hx hb dJ5_ensureCapacityInternal_d00df_5 rfl (lv_at hl 0 rfl) ?_
  refine kg_sb_coder X w dJ5_ensureCapacityInternal_d00df_6 ?_
  refine lv_ishr hx hb dJ5_ensureCapacityInternal_d00df_9 ?_
  refine lv_topi (fun x_9 e_9 => ?_)
  have p_9 : x_9.toInt = 16 := by rw [e_9]; decide
  refine lv_istore_n (lv' := [(2, .int x_9), (0, .ref (b + 40)), (1, .int a_q)]) hx hb dJ5_ensureCapacityInternal_d00df_10 rfl hl (by decide) rfl (fun ls hl => ?_)
  refine lv_iload_n hx hb dJ5_ensureCapacityInternal_d00df_11 rfl (lv_at hl 2 rfl) ?_
  refine lv_iload_n hx hb dJ5_ensureCapacityInternal_d00df_12 rfl (lv_at hl 0 rfl) ?_
  refine lv_isub hx hb dJ5_ensureCapacityInternal_d00df_13 ?_
  refine lv_topi (fun x_13 e_13 => ?_)
  have p_13 : x_13.toInt = (q - 16) := by rw [e_13]; exact t_sub e_q p_9 (by omega) (by omega)
  refine lv_if_le (tgt := 38) hx hb dJ5_ensureCapacityInternal_d00df_14 (by decide) (fun c_14 => ?_) (fun c_14 => ?_)
  · skip
    have k_14 : (q - 16) ≤ 0 := (g_le p_13 (show (0 : Int32).toInt = 0 from rfl)).mp c_14
    exact j_vret (post := fun v A1 B1 => v = none ∧ A1 = A ∧ B1 = B) X w dJ5_ensureCapacityInternal_d00df_38 (⟨rfl, rfl, rfl⟩)
  · skip
    have k_14 : ¬ ((q - 16) ≤ 0) := fun h => c_14 ((g_le p_13 (show (0 : Int32).toInt = 0 from rfl)).mpr h)
    omega

set_option maxHeartbeats 2000000 in
set_option maxRecDepth 100000 in
theorem c_J5_setLength_d00df (l : Launch) (D : va_G) (t : Nat → ClassId) (b n : Nat) (σ0 : qM) (A : Nat → Int32) (B : Nat → Nat → Int32) (P : Nat → Nat → Option Nat) (h_1 : 0 ≤ (A 37).toInt ∧ (A 37).toInt ≤ 16) : jM l yJ5_setLength_d00df cJ5_setLength_d00df 2 none 1 D t b n σ0 A B P [.ref (b + 40), .int 0] (fun v A1 B1 => v = none ∧ kpI [37, 38] A A1 ∧ A1 37 = 0 ∧ B1 = B) := by
  refine jM.of (by decide +kernel) (Nat.le_of_ble_eq_true rfl) (fun p e s m args below meth c X hS w ls hl => ?_)
  have hx := X.1
  have hb := X.2.1
  have hl : lv_has ls 2 [(0, .ref (b + 40)), (1, .int 0)] := hl
  refine lv_iload_n hx hb dJ5_setLength_d00df_0 rfl (lv_at hl 1 rfl) ?_
  refine lv_if_ge (tgt := 13) hx hb dJ5_setLength_d00df_1 (by decide) (fun c_1 => ?_) (fun c_1 => ?_)
  · skip
    have k_1 : (0 : Int) ≤ 0 := (g_le (show (0 : Int32).toInt = 0 from rfl) (show (0 : Int32).toInt = 0 from rfl)).mp c_1
    refine lv_aload_n hx hb dJ5_setLength_d00df_13 rfl (lv_at hl 0 rfl) ?_
    refine lv_iload_n hx hb dJ5_setLength_d00df_14 rfl (lv_at hl 1 rfl) ?_
    refine j_cU X hS w (c_J5_ensureCapacityInternal_d00df l D t b n σ0 A B P 0 0 (show (0 : Int32).toInt = 0 from rfl) (by omega)) u_J5_100 (va_Nw.use rfl hS.2.2.2.2) rfl ⟨Nat.le_of_ble_eq_true rfl, Nat.le_of_ble_eq_true rfl⟩ rfl hl.1 (Nat.le_of_ble_eq_true rfl) dJ5_setLength_d00df_15 ⟨Nat.le_of_ble_eq_true rfl, Nat.le_of_ble_eq_true rfl⟩ (fun v_15 A_15 B_15 H locs z_15 w => ?_)
    obtain ⟨rfl, ez1, ez2⟩ := z_15
    rw [ez1, ez2] at w
    show W _ _ _ _ _ _ _ _ _ _ _ _ _ _ _ (F0 _ _ _ ([]))
    refine lv_aload_n hx hb dJ5_setLength_d00df_18 rfl (lv_at hl 0 rfl) ?_
    refine kg_sb_count X w dJ5_setLength_d00df_19 ?_
    refine lv_iload_n hx hb dJ5_setLength_d00df_22 rfl (lv_at hl 1 rfl) ?_
    refine lv_icmp_ge (tgt := 63) hx hb dJ5_setLength_d00df_23 (by decide) (fun c_23 => ?_) (fun c_23 => ?_)
    · skip
      have k_23 : 0 ≤ ((A 37).toInt) := (g_le (show (0 : Int32).toInt = 0 from rfl) rfl).mp c_23
      refine lv_aload_n hx hb dJ5_setLength_d00df_63 rfl (lv_at hl 0 rfl) ?_
      refine kg_sb_count X w dJ5_setLength_d00df_64 ?_
      refine lv_iload_n hx hb dJ5_setLength_d00df_67 rfl (lv_at hl 1 rfl) ?_
      refine lv_icmp_le (tgt := 76) hx hb dJ5_setLength_d00df_68 (by decide) (fun c_68 => ?_) (fun c_68 => ?_)
      · skip
        have k_68 : ((A 37).toInt) ≤ 0 := (g_le rfl (show (0 : Int32).toInt = 0 from rfl)).mp c_68
        refine lv_aload_n hx hb dJ5_setLength_d00df_76 rfl (lv_at hl 0 rfl) ?_
        refine lv_iload_n hx hb dJ5_setLength_d00df_77 rfl (lv_at hl 1 rfl) ?_
        refine kp_sb_count (v := 0) X w dJ5_setLength_d00df_78 (fun H locs w => ?_)
        exact j_vret (post := fun v A1 B1 => v = none ∧ kpI [37, 38] A A1 ∧ A1 37 = 0 ∧ B1 = B) X w dJ5_setLength_d00df_81 (⟨rfl, kpI.up kpI.rf (by decide), va_up_self _ _ _, rfl⟩)
      · skip
        have k_68 : ¬ (((A 37).toInt) ≤ 0) := fun h => c_68 ((g_le rfl (show (0 : Int32).toInt = 0 from rfl)).mpr h)
        refine lv_aload_n hx hb dJ5_setLength_d00df_71 rfl (lv_at hl 0 rfl) ?_
        refine lv_iconst (v := 1) hx hb dJ5_setLength_d00df_72 (by decide) ?_
        refine kp_sb_maybeLatin1 (v := 1) X w dJ5_setLength_d00df_73 rfl rfl (fun H locs w => ?_)
        refine lv_aload_n hx hb dJ5_setLength_d00df_76 rfl (lv_at hl 0 rfl) ?_
        refine lv_iload_n hx hb dJ5_setLength_d00df_77 rfl (lv_at hl 1 rfl) ?_
        refine kp_sb_count (v := 0) X w dJ5_setLength_d00df_78 (fun H locs w => ?_)
        exact j_vret (post := fun v A1 B1 => v = none ∧ kpI [37, 38] A A1 ∧ A1 37 = 0 ∧ B1 = B) X w dJ5_setLength_d00df_81 (⟨rfl, kpI.up (kpI.up kpI.rf (by decide)) (by decide), va_up_self _ _ _, rfl⟩)
    · skip
      have k_23 : ¬ (0 ≤ ((A 37).toInt)) := fun h => c_23 ((g_le (show (0 : Int32).toInt = 0 from rfl) rfl).mpr h)
      omega
  · skip
    have k_1 : ¬ ((0 : Int) ≤ 0) := fun h => c_1 ((g_le (show (0 : Int32).toInt = 0 from rfl) (show (0 : Int32).toInt = 0 from rfl)).mpr h)
    omega

set_option maxHeartbeats 2000000 in
set_option maxRecDepth 100000 in
theorem c_J5_append_3fe6f (l : Launch) (D : va_G) (t : Nat → ClassId) (b n : Nat) (σ0 : qM) (A : Nat → Int32) (B : Nat → Nat → Int32) (P : Nat → Nat → Option Nat) (a_q : Int32) (q : Int) (e_q : a_q.toInt = q) (sg : Int × (Int → Int)) (h_s : sbQ A B sg) (h_1 : 0 ≤ q ∧ q < 128) (h_2 : 0 ≤ sg.1 ∧ sg.1 + 1 ≤ 16) : jM l yJ5_append_3fe6f cJ5_append_3fe6f 2 (some (.object "java/lang/AbstractStringBuilder")) 1 D t b n σ0 A B P [.ref (b + 40), .int a_q] (fun v A1 B1 => v = some (.ref (b + 40)) ∧ kpI [37] A A1 ∧ kpR [9] B B1 ∧ sbQ A1 B1 (ad sg 1 (fun _ => q))) := by
  refine jM.of (by decide +kernel) (Nat.le_of_ble_eq_true rfl) (fun p e s m args below meth c X hS w ls hl => ?_)
  have hx := X.1
  have hb := X.2.1
  have hl : lv_has ls 2 [(0, .ref (b + 40)), (1, .int a_q)] := hl
  have hc1 := h_s.1
  refine lv_aload_n hx hb dJ5_append_3fe6f_0 rfl (lv_at hl 0 rfl) ?_
  refine lv_aload_n hx hb dJ5_append_3fe6f_1 rfl (lv_at hl 0 rfl) ?_
  refine kg_sb_count X w dJ5_append_3fe6f_2 ?_
  refine lv_iconst (v := 1) hx hb dJ5_append_3fe6f_5 (by decide) ?_
  refine lv_iadd hx hb dJ5_append_3fe6f_6 ?_
  refine lv_topi (fun x_6 e_6 => ?_)
  have p_6 : x_6.toInt = (((A 37).toInt) + 1) := by rw [e_6]; exact t_add rfl (show (1 : Int32).toInt = 1 from rfl) (by omega) (by omega)
  refine j_cU X hS w (c_J5_ensureCapacityInternal_d00df l D t b n σ0 A B P x_6 (((A 37).toInt) + 1) p_6 (by omega)) u_J5_100 (va_Nw.use rfl hS.2.2.2.2) rfl ⟨Nat.le_of_ble_eq_true rfl, Nat.le_of_ble_eq_true rfl⟩ rfl hl.1 (Nat.le_of_ble_eq_true rfl) dJ5_append_3fe6f_7 ⟨Nat.le_of_ble_eq_true rfl, Nat.le_of_ble_eq_true rfl⟩ (fun v_7 A_7 B_7 H locs z_7 w => ?_)
  obtain ⟨rfl, ez1, ez2⟩ := z_7
  rw [ez1, ez2] at w
  show W _ _ _ _ _ _ _ _ _ _ _ _ _ _ _ (F0 _ _ _ ([]))
  refine lv_aload_n hx hb dJ5_append_3fe6f_10 rfl (lv_at hl 0 rfl) ?_
  refine j_cU X hS w (c_J5_isLatin1_aae02 l D t b n σ0 A B P) u_J5_83 (X.2.2.1 _ se_J5_isLatin1) rfl ⟨Nat.le_of_ble_eq_true rfl, Nat.le_of_ble_eq_true rfl⟩ rfl hl.1 (Nat.le_of_ble_eq_true rfl) dJ5_append_3fe6f_11 ⟨Nat.le_of_ble_eq_true rfl, Nat.le_of_ble_eq_true rfl⟩ (fun v_11 A_11 B_11 H locs z_11 w => ?_)
  obtain ⟨rfl, ez1, ez2⟩ := z_11
  rw [ez1, ez2] at w
  show W _ _ _ _ _ _ _ _ _ _ _ _ _ _ _ (F0 _ _ _ ([.int 1]))
  refine lv_if_eq (tgt := 45) hx hb dJ5_append_3fe6f_14 (by decide) (fun c_14 => ?_) (fun c_14 => ?_)
  · skip
    have k_14 : (1 : Int) = 0 := (g_eq (show (1 : Int32).toInt = 1 from rfl) (show (0 : Int32).toInt = 0 from rfl)).mp c_14
    omega
  · skip
    have k_14 : ¬ ((1 : Int) = 0) := fun h => c_14 ((g_eq (show (1 : Int32).toInt = 1 from rfl) (show (0 : Int32).toInt = 0 from rfl)).mpr h)
    refine lv_iload_n hx hb dJ5_append_3fe6f_17 rfl (lv_at hl 1 rfl) ?_
    refine q_cPS X w (c_J1_canEncode_fc78d l a_q q e_q D t b n _) v_J5_191 rfl ⟨Nat.le_of_ble_eq_true rfl, Nat.le_of_ble_eq_true rfl⟩ rfl hl.1 (Nat.le_of_ble_eq_true rfl) dJ5_append_3fe6f_18 ⟨Nat.zero_le _, Nat.zero_le _⟩ (fun r_18 z_18 => ?_)
    refine lv_if_eq (tgt := 45) hx hb dJ5_append_3fe6f_21 (by decide) (fun c_21 => ?_) (fun c_21 => ?_)
    · skip
      rw [z_18] at c_21
      have k_21 := bI_f.mp c_21
      omega
    · skip
      rw [z_18] at c_21
      have k_21 := bI_t.mp c_21
      refine lv_aload_n hx hb dJ5_append_3fe6f_24 rfl (lv_at hl 0 rfl) ?_
      refine kg_sb_value X w dJ5_append_3fe6f_25 ?_
      refine lv_aload_n hx hb dJ5_append_3fe6f_28 rfl (lv_at hl 0 rfl) ?_
      refine lv_dup hx hb dJ5_append_3fe6f_29 rfl ?_
      refine kg_sb_count X w dJ5_append_3fe6f_30 ?_
      refine lv_dup_x1 hx hb dJ5_append_3fe6f_33 rfl rfl ?_
      refine lv_iconst (v := 1) hx hb dJ5_append_3fe6f_34 (by decide) ?_
      refine lv_iadd hx hb dJ5_append_3fe6f_35 ?_
      refine lv_topi (fun x_35 e_35 => ?_)
      have p_35 : x_35.toInt = (((A 37).toInt) + 1) := by rw [e_35]; exact t_add rfl (show (1 : Int32).toInt = 1 from rfl) (by omega) (by omega)
      refine kp_sb_count (v := x_35) X w dJ5_append_3fe6f_36 (fun H locs w => ?_)
      refine lv_iload_n hx hb dJ5_append_3fe6f_39 rfl (lv_at hl 1 rfl) ?_
      refine lv_i2b hx hb dJ5_append_3fe6f_40 (by_x e_q (by omega)).2.1 ?_
      refine ks_9 (x := a_q) X w (g_in rfl (by omega)) (by_x e_q (by omega)).1 dJ5_append_3fe6f_41 (fun H locs w => ?_)
      rw [g_tn (show ((A 37)).toInt = (A 37).toInt from rfl)] at w
      obtain ⟨B_41, eB_41⟩ : ∃ z, z = va_up B 9 (upd (B 9) ((A 37).toInt).toNat a_q) := ⟨_, rfl⟩
      rw [← eB_41] at w
      have s_41 := st9 eB_41 (show 0 ≤ ((A 37).toInt) by omega) e_q
      have o_41 : kpR [9] B B_41 := by rw [eB_41]; exact kpR.up kpR.rf (by decide)
      refine lv_goto (tgt := 75) hx hb dJ5_append_3fe6f_42 (by decide) ?_
      refine lv_aload_n hx hb dJ5_append_3fe6f_75 rfl (lv_at hl 0 rfl) ?_
      exact j_aret (post := fun v A1 B1 => v = some (.ref (b + 40)) ∧ kpI [37] A A1 ∧ kpR [9] B B1 ∧ sbQ A1 B1 (ad sg 1 (fun _ => q))) X w (Or.inl ⟨_, rfl⟩) dJ5_append_3fe6f_76 (⟨rfl, kpI.up kpI.rf (by decide), o_41, sbQ_c h_s p_35 s_41⟩)

set_option maxHeartbeats 2000000 in
set_option maxRecDepth 100000 in
theorem c_J6_getChars_ba4f3 (l : Launch) (D : va_G) (t : Nat → ClassId) (b n : Nat) (σ0 : qM) (A : Nat → Int32) (B : Nat → Nat → Int32) (P : Nat → Nat → Option Nat) (a_nv : Int32) (nv : Int) (e_nv : a_nv.toInt = nv) (a_q : Int32) (q : Int) (e_q : a_q.toInt = q) (h_1 : -9999 ≤ nv ∧ nv ≤ 9999) (h_2 : (if nv < 0 then 1 else 0) + dN (absI nv) ≤ q ∧ q ≤ 16) : jM l yJ6_getChars_ba4f3 cJ6_getChars_ba4f3 7 (some .int) 0 D t b n σ0 A B P [.int a_nv, .int a_q, .ref (b + 41)] (fun v A1 B1 => ∃ z, v = some (.int z) ∧ A1 = A ∧ kpR [9] B B1 ∧ ∀ j : Int, 0 ≤ j → (B1 9 j.toNat).toInt = gcF nv q (fun j => (B 9 j.toNat).toInt) j) := by
  refine jM.of (by decide +kernel) (Nat.le_of_ble_eq_true rfl) (fun p e s m args below meth c X hS w ls hl => ?_)
  have hx := X.1
  have hb := X.2.1
  have hl : lv_has ls 7 [(0, .int a_nv), (1, .int a_q), (2, .ref (b + 41))] := hl
  obtain ⟨t1, hZ1, hT1⟩ := hS.2.1
  obtain ⟨t2, hZ2, hT2⟩ := hS.2.2.1
  have hdb := dN_bd (absI nv)
  refine lv_iload_n hx hb dJ6_getChars_ba4f3_0 rfl (lv_at hl 1 rfl) ?_
  refine lv_istore (lv' := [(5, .int a_q), (0, .int a_nv), (1, .int a_q), (2, .ref (b + 41))]) hx hb dJ6_getChars_ba4f3_1 hl (by decide) rfl (fun ls hl => ?_)
  refine lv_iload_n hx hb dJ6_getChars_ba4f3_3 rfl (lv_at hl 1 rfl) ?_
  refine lv_if_ge (tgt := 11) hx hb dJ6_getChars_ba4f3_4 (by decide) (fun c_4 => ?_) (fun c_4 => ?_)
  · skip
    have k_4 : 0 ≤ nv := (g_le (show (0 : Int32).toInt = 0 from rfl) e_nv).mp c_4
    rw [if_neg (by omega)] at h_2
    refine lv_iconst (v := 0) hx hb dJ6_getChars_ba4f3_11 (by decide) ?_
    refine lv_istore (lv' := [(6, .int 0), (5, .int a_q), (0, .int a_nv), (1, .int a_q), (2, .ref (b + 41))]) hx hb dJ6_getChars_ba4f3_12 hl (by decide) rfl (fun ls hl => ?_)
    refine lv_iload hx hb dJ6_getChars_ba4f3_14 (lv_at hl 0 rfl) ?_
    refine lv_if_ne (tgt := 22) hx hb dJ6_getChars_ba4f3_16 (by decide) (fun c_16 => ?_) (fun c_16 => ?_)
    · skip
      have k_16 : ¬ ((0 : Int) = 0) := fun h => c_16 ((g_eq (show (0 : Int32).toInt = 0 from rfl) (show (0 : Int32).toInt = 0 from rfl)).mpr h)
      omega
    · skip
      have k_16 : (0 : Int) = 0 := (g_eq (show (0 : Int32).toInt = 0 from rfl) (show (0 : Int32).toInt = 0 from rfl)).mp c_16
      refine lv_iload_n hx hb dJ6_getChars_ba4f3_19 rfl (lv_at hl 2 rfl) ?_
      refine lv_ineg hx hb dJ6_getChars_ba4f3_20 ?_
      refine lv_topi (fun x_20 e_20 => ?_)
      have p_20 : x_20.toInt = -nv := by rw [e_20]; exact t_neg e_nv (by omega)
      refine lv_istore_n (lv' := [(0, .int x_20), (6, .int 0), (5, .int a_q), (1, .int a_q), (2, .ref (b + 41))]) hx hb dJ6_getChars_ba4f3_21 rfl hl (by decide) rfl (fun ls hl => ?_)
      obtain ⟨ab, hab⟩ : ∃ z : Int, z = -(-nv) := ⟨_, rfl⟩
      have hav : absI nv = ab := by unfold absI; rw [if_neg (show ¬ nv < 0 by omega)]; omega
      have pn : (x_20).toInt = -ab := (show (x_20).toInt = (-nv) from p_20).trans (by omega)
      have hab2 : 0 ≤ ab ∧ ab ≤ 9999 := by omega
      have hln : (ab < 10 → dN (absI nv) = 1) ∧ (10 ≤ ab → ab < 100 → dN (absI nv) = 2) ∧ (100 ≤ ab → ab < 1000 → dN (absI nv) = 3) ∧ (1000 ≤ ab → dN (absI nv) = 4) := by rw [hav]; unfold dN; refine ⟨fun _ => ?_, fun _ _ => ?_, fun _ _ => ?_, fun _ => ?_⟩ <;> (repeat' split) <;> omega
      refine lv_iload_n hx hb dJ6_getChars_ba4f3_22 rfl (lv_at hl 0 rfl) ?_
      refine lv_bipush (v := (-100)) hx hb dJ6_getChars_ba4f3_23 (by decide) ?_
      refine lv_icmp_gt (tgt := 72) hx hb dJ6_getChars_ba4f3_25 (by decide) (fun c_25 => ?_) (fun c_25 => ?_)
      · skip
        have k_25 : (-100) < (-ab) := (g_lt (show ((-100) : Int32).toInt = (-100) from rfl) pn).mp c_25
        refine lv_aload_n hx hb dJ6_getChars_ba4f3_72 rfl (lv_at hl 4 rfl) ?_
        obtain ⟨x_73, e_73⟩ : ∃ z : Int32, z = (a_q + (-1)) := ⟨_, rfl⟩
        have p_73 : x_73.toInt = (q + (-1)) := by rw [e_73]; exact t_add e_q (show ((-1) : Int32).toInt = (-1) from rfl) (by omega) (by omega)
        refine lv_iinc (v := x_73) (lv' := [(5, .int x_73), (0, .int x_20), (6, .int 0), (1, .int a_q), (2, .ref (b + 41))]) hx hb dJ6_getChars_ba4f3_73 hl (k := 2) rfl (by rw [e_73]; rfl) (by decide) rfl (fun ls hl => ?_)
        refine lv_iload hx hb dJ6_getChars_ba4f3_76 (lv_at hl 0 rfl) ?_
        refine j_gets X w hZ1 fs_J6_83 dJ6_getChars_ba4f3_78 ?_
        refine lv_iload_n hx hb dJ6_getChars_ba4f3_81 rfl (lv_at hl 1 rfl) ?_
        refine lv_ineg hx hb dJ6_getChars_ba4f3_82 ?_
        refine lv_topi (fun x_82 e_82 => ?_)
        have p_82 : x_82.toInt = -(-ab) := by rw [e_82]; exact t_neg pn (by omega)
        refine j_tb (v := .int (Int32.ofNat (48 + (x_82).toNatClampNeg % 10))) X w hT1 (g_in p_82 (by omega)) rfl dJ6_getChars_ba4f3_83 ?_
        refine lv_topi (fun x_83 e_83 => ?_)
        have p_83 : x_83.toInt = 48 + (-(-ab)) % 10 := by rw [e_83]; exact dg_1 p_82 (by omega)
        refine ks_9 (x := x_83) X w (g_in p_73 (by omega)) (by_x p_83 (by omega)).1 dJ6_getChars_ba4f3_84 (fun H locs w => ?_)
        rw [g_tn (show (x_73).toInt = (q + (-1)) from p_73)] at w
        obtain ⟨B_84, eB_84⟩ : ∃ z, z = va_up B 9 (upd (B 9) (q + (-1)).toNat x_83) := ⟨_, rfl⟩
        rw [← eB_84] at w
        have s_84 := st9 eB_84 (show 0 ≤ (q + (-1)) by omega) p_83
        have o_84 : kpR [9] B B_84 := by rw [eB_84]; exact kpR.up kpR.rf (by decide)
        refine lv_iload_n hx hb dJ6_getChars_ba4f3_85 rfl (lv_at hl 1 rfl) ?_
        refine lv_bipush (v := (-9)) hx hb dJ6_getChars_ba4f3_86 (by decide) ?_
        refine lv_icmp_ge (tgt := 104) hx hb dJ6_getChars_ba4f3_88 (by decide) (fun c_88 => ?_) (fun c_88 => ?_)
        · skip
          have k_88 : (-9) ≤ (-ab) := (g_le (show ((-9) : Int32).toInt = (-9) from rfl) pn).mp c_88
          refine lv_iload hx hb dJ6_getChars_ba4f3_104 (lv_at hl 2 rfl) ?_
          refine lv_if_eq (tgt := 118) hx hb dJ6_getChars_ba4f3_106 (by decide) (fun c_106 => ?_) (fun c_106 => ?_)
          · skip
            have k_106 : (0 : Int) = 0 := (g_eq (show (0 : Int32).toInt = 0 from rfl) (show (0 : Int32).toInt = 0 from rfl)).mp c_106
            refine lv_iload hx hb dJ6_getChars_ba4f3_118 (lv_at hl 0 rfl) ?_
            exact j_iret (post := fun v A1 B1 => ∃ z, v = some (.int z) ∧ A1 = A ∧ kpR [9] B B1 ∧ ∀ j : Int, 0 ≤ j → (B1 9 j.toNat).toInt = gcF nv q (fun j => (B 9 j.toNat).toInt) j) X w dJ6_getChars_ba4f3_120 (rfl) (⟨_, rfl, rfl, o_84, fun j hj => (by have hd : dN (absI nv) = 1 := (hln.1 (by omega)); rw [s_84 j hj]; by_cases q0 : j = (q + (-1)); (rw [if_pos q0]; rw [gc_at (v := nv) (p := q) (j := j) (i := 1) hd (by omega) (by omega), hav, show pT 1 = 1 from rfl]; omega); rw [if_neg q0]; exact (gc_off (v := nv) (p := q) (j := j) (f := fun j => (B 9 j.toNat).toInt) hd (by omega) (by omega)).symm)⟩)
          · skip
            have k_106 : ¬ ((0 : Int) = 0) := fun h => c_106 ((g_eq (show (0 : Int32).toInt = 0 from rfl) (show (0 : Int32).toInt = 0 from rfl)).mpr h)
            omega
        · skip
          have k_88 : ¬ ((-9) ≤ (-ab)) := fun h => c_88 ((g_le (show ((-9) : Int32).toInt = (-9) from rfl) pn).mpr h)
          refine lv_aload_n hx hb dJ6_getChars_ba4f3_91 rfl (lv_at hl 4 rfl) ?_
          obtain ⟨x_92, e_92⟩ : ∃ z : Int32, z = (x_73 + (-1)) := ⟨_, rfl⟩
          have p_92 : x_92.toInt = ((q + (-1)) + (-1)) := by rw [e_92]; exact t_add p_73 (show ((-1) : Int32).toInt = (-1) from rfl) (by omega) (by omega)
          refine lv_iinc (v := x_92) (lv' := [(5, .int x_92), (0, .int x_20), (6, .int 0), (1, .int a_q), (2, .ref (b + 41))]) hx hb dJ6_getChars_ba4f3_92 hl (k := 0) rfl (by rw [e_92]; rfl) (by decide) rfl (fun ls hl => ?_)
          refine lv_iload hx hb dJ6_getChars_ba4f3_95 (lv_at hl 0 rfl) ?_
          refine j_gets X w hZ2 fs_J6_87 dJ6_getChars_ba4f3_97 ?_
          refine lv_iload_n hx hb dJ6_getChars_ba4f3_100 rfl (lv_at hl 1 rfl) ?_
          refine lv_ineg hx hb dJ6_getChars_ba4f3_101 ?_
          refine lv_topi (fun x_101 e_101 => ?_)
          have p_101 : x_101.toInt = -(-ab) := by rw [e_101]; exact t_neg pn (by omega)
          refine j_tb (v := .int (Int32.ofNat (48 + (x_101).toNatClampNeg / 10))) X w hT2 (g_in p_101 (by omega)) rfl dJ6_getChars_ba4f3_102 ?_
          refine lv_topi (fun x_102 e_102 => ?_)
          have p_102 : x_102.toInt = 48 + (-(-ab)) / 10 := by rw [e_102]; exact dg_2 p_101 (by omega)
          refine ks_9 (x := x_102) X w (g_in p_92 (by omega)) (by_x p_102 (by omega)).1 dJ6_getChars_ba4f3_103 (fun H locs w => ?_)
          rw [g_tn (show (x_92).toInt = ((q + (-1)) + (-1)) from p_92)] at w
          obtain ⟨B_103, eB_103⟩ : ∃ z, z = va_up B_84 9 (upd (B_84 9) ((q + (-1)) + (-1)).toNat x_102) := ⟨_, rfl⟩
          rw [← eB_103] at w
          have s_103 := st9 eB_103 (show 0 ≤ ((q + (-1)) + (-1)) by omega) p_102
          have o_103 : kpR [9] B B_103 := by rw [eB_103]; exact kpR.up o_84 (by decide)
          refine lv_iload hx hb dJ6_getChars_ba4f3_104 (lv_at hl 2 rfl) ?_
          refine lv_if_eq (tgt := 118) hx hb dJ6_getChars_ba4f3_106 (by decide) (fun c_106 => ?_) (fun c_106 => ?_)
          · skip
            have k_106 : (0 : Int) = 0 := (g_eq (show (0 : Int32).toInt = 0 from rfl) (show (0 : Int32).toInt = 0 from rfl)).mp c_106
            refine lv_iload hx hb dJ6_getChars_ba4f3_118 (lv_at hl 0 rfl) ?_
            exact j_iret (post := fun v A1 B1 => ∃ z, v = some (.int z) ∧ A1 = A ∧ kpR [9] B B1 ∧ ∀ j : Int, 0 ≤ j → (B1 9 j.toNat).toInt = gcF nv q (fun j => (B 9 j.toNat).toInt) j) X w dJ6_getChars_ba4f3_120 (rfl) (⟨_, rfl, rfl, o_103, fun j hj => (by have hd : dN (absI nv) = 2 := (hln.2.1 (by omega) (by omega)); rw [s_103 j hj]; by_cases q1 : j = ((q + (-1)) + (-1)); (rw [if_pos q1]; rw [gc_at (v := nv) (p := q) (j := j) (i := 2) hd (by omega) (by omega), hav, show pT 2 = 10 from rfl]; omega); rw [if_neg q1]; rw [s_84 j hj]; by_cases q0 : j = (q + (-1)); (rw [if_pos q0]; rw [gc_at (v := nv) (p := q) (j := j) (i := 1) hd (by omega) (by omega), hav, show pT 1 = 1 from rfl]; omega); rw [if_neg q0]; exact (gc_off (v := nv) (p := q) (j := j) (f := fun j => (B 9 j.toNat).toInt) hd (by omega) (by omega)).symm)⟩)
          · skip
            have k_106 : ¬ ((0 : Int) = 0) := fun h => c_106 ((g_eq (show (0 : Int32).toInt = 0 from rfl) (show (0 : Int32).toInt = 0 from rfl)).mpr h)
            omega
      · skip
        have k_25 : ¬ ((-100) < (-ab)) := fun h => c_25 ((g_lt (show ((-100) : Int32).toInt = (-100) from rfl) pn).mpr h)
        refine lv_iload_n hx hb dJ6_getChars_ba4f3_28 rfl (lv_at hl 0 rfl) ?_
        refine lv_bipush (v := 100) hx hb dJ6_getChars_ba4f3_29 (by decide) ?_
        refine lv_idiv hx hb dJ6_getChars_ba4f3_31 (by decide) ?_
        refine lv_topi (fun x_31 e_31 => ?_)
        have p_31 : x_31.toInt = (-(ab / 100)) := by rw [e_31]; rw [show (-(ab / 100) : Int) = -((-(-ab)) / 100) by rw [Int.neg_neg]]; exact (t_divT pn rfl (by decide)).trans (fm_neg (by omega) (by decide)).1
        refine lv_istore_n (lv' := [(3, .int x_31), (0, .int x_20), (6, .int 0), (5, .int a_q), (1, .int a_q), (2, .ref (b + 41))]) hx hb dJ6_getChars_ba4f3_32 rfl hl (by decide) rfl (fun ls hl => ?_)
        refine lv_iload_n hx hb dJ6_getChars_ba4f3_33 rfl (lv_at hl 0 rfl) ?_
        refine lv_bipush (v := 100) hx hb dJ6_getChars_ba4f3_34 (by decide) ?_
        refine lv_imul hx hb dJ6_getChars_ba4f3_36 ?_
        refine lv_topi (fun x_36 e_36 => ?_)
        have p_36 : x_36.toInt = ((-(ab / 100)) * 100) := by rw [e_36]; exact t_mul p_31 (show (100 : Int32).toInt = 100 from rfl) (by omega) (by omega)
        refine lv_iload_n hx hb dJ6_getChars_ba4f3_37 rfl (lv_at hl 1 rfl) ?_
        refine lv_isub hx hb dJ6_getChars_ba4f3_38 ?_
        refine lv_topi (fun x_38 e_38 => ?_)
        have p_38 : x_38.toInt = (((-(ab / 100)) * 100) - (-ab)) := by rw [e_38]; exact t_sub p_36 pn (by omega) (by omega)
        have pr : (x_38).toInt = ab % 100 := (show (x_38).toInt = (((-(ab / 100)) * 100) - (-ab)) from p_38).trans (by omega)
        refine lv_istore (lv' := [(4, .int x_38), (3, .int x_31), (0, .int x_20), (6, .int 0), (5, .int a_q), (1, .int a_q), (2, .ref (b + 41))]) hx hb dJ6_getChars_ba4f3_39 hl (by decide) rfl (fun ls hl => ?_)
        refine lv_iload_n hx hb dJ6_getChars_ba4f3_41 rfl (lv_at hl 1 rfl) ?_
        refine lv_istore_n (lv' := [(0, .int x_31), (4, .int x_38), (3, .int x_31), (6, .int 0), (5, .int a_q), (1, .int a_q), (2, .ref (b + 41))]) hx hb dJ6_getChars_ba4f3_42 rfl hl (by decide) rfl (fun ls hl => ?_)
        refine lv_aload_n hx hb dJ6_getChars_ba4f3_43 rfl (lv_at hl 6 rfl) ?_
        obtain ⟨x_44, e_44⟩ : ∃ z : Int32, z = (a_q + (-1)) := ⟨_, rfl⟩
        have p_44 : x_44.toInt = (q + (-1)) := by rw [e_44]; exact t_add e_q (show ((-1) : Int32).toInt = (-1) from rfl) (by omega) (by omega)
        refine lv_iinc (v := x_44) (lv' := [(5, .int x_44), (0, .int x_31), (4, .int x_38), (3, .int x_31), (6, .int 0), (1, .int a_q), (2, .ref (b + 41))]) hx hb dJ6_getChars_ba4f3_44 hl (k := 4) rfl (by rw [e_44]; rfl) (by decide) rfl (fun ls hl => ?_)
        refine lv_iload hx hb dJ6_getChars_ba4f3_47 (lv_at hl 0 rfl) ?_
        refine j_gets X w hZ1 fs_J6_83 dJ6_getChars_ba4f3_49 ?_
        refine lv_iload hx hb dJ6_getChars_ba4f3_52 (lv_at hl 2 rfl) ?_
        refine j_tb (v := .int (Int32.ofNat (48 + (x_38).toNatClampNeg % 10))) X w hT1 (g_in pr (by omega)) rfl dJ6_getChars_ba4f3_54 ?_
        refine lv_topi (fun x_54 e_54 => ?_)
        have p_54 : x_54.toInt = 48 + (ab % 100) % 10 := by rw [e_54]; exact dg_1 pr (by omega)
        refine ks_9 (x := x_54) X w (g_in p_44 (by omega)) (by_x p_54 (by omega)).1 dJ6_getChars_ba4f3_55 (fun H locs w => ?_)
        rw [g_tn (show (x_44).toInt = (q + (-1)) from p_44)] at w
        obtain ⟨B_55, eB_55⟩ : ∃ z, z = va_up B 9 (upd (B 9) (q + (-1)).toNat x_54) := ⟨_, rfl⟩
        rw [← eB_55] at w
        have s_55 := st9 eB_55 (show 0 ≤ (q + (-1)) by omega) p_54
        have o_55 : kpR [9] B B_55 := by rw [eB_55]; exact kpR.up kpR.rf (by decide)
        refine lv_aload_n hx hb dJ6_getChars_ba4f3_56 rfl (lv_at hl 6 rfl) ?_
        obtain ⟨x_57, e_57⟩ : ∃ z : Int32, z = (x_44 + (-1)) := ⟨_, rfl⟩
        have p_57 : x_57.toInt = ((q + (-1)) + (-1)) := by rw [e_57]; exact t_add p_44 (show ((-1) : Int32).toInt = (-1) from rfl) (by omega) (by omega)
        refine lv_iinc (v := x_57) (lv' := [(5, .int x_57), (0, .int x_31), (4, .int x_38), (3, .int x_31), (6, .int 0), (1, .int a_q), (2, .ref (b + 41))]) hx hb dJ6_getChars_ba4f3_57 hl (k := 0) rfl (by rw [e_57]; rfl) (by decide) rfl (fun ls hl => ?_)
        refine lv_iload hx hb dJ6_getChars_ba4f3_60 (lv_at hl 0 rfl) ?_
        refine j_gets X w hZ2 fs_J6_87 dJ6_getChars_ba4f3_62 ?_
        refine lv_iload hx hb dJ6_getChars_ba4f3_65 (lv_at hl 2 rfl) ?_
        refine j_tb (v := .int (Int32.ofNat (48 + (x_38).toNatClampNeg / 10))) X w hT2 (g_in pr (by omega)) rfl dJ6_getChars_ba4f3_67 ?_
        refine lv_topi (fun x_67 e_67 => ?_)
        have p_67 : x_67.toInt = 48 + (ab % 100) / 10 := by rw [e_67]; exact dg_2 pr (by omega)
        refine ks_9 (x := x_67) X w (g_in p_57 (by omega)) (by_x p_67 (by omega)).1 dJ6_getChars_ba4f3_68 (fun H locs w => ?_)
        rw [g_tn (show (x_57).toInt = ((q + (-1)) + (-1)) from p_57)] at w
        obtain ⟨B_68, eB_68⟩ : ∃ z, z = va_up B_55 9 (upd (B_55 9) ((q + (-1)) + (-1)).toNat x_67) := ⟨_, rfl⟩
        rw [← eB_68] at w
        have s_68 := st9 eB_68 (show 0 ≤ ((q + (-1)) + (-1)) by omega) p_67
        have o_68 : kpR [9] B B_68 := by rw [eB_68]; exact kpR.up o_55 (by decide)
        refine lv_goto (tgt := 22) hx hb dJ6_getChars_ba4f3_69 (by decide) ?_
        refine lv_iload_n hx hb dJ6_getChars_ba4f3_22 rfl (lv_at hl 1 rfl) ?_
        refine lv_bipush (v := (-100)) hx hb dJ6_getChars_ba4f3_23 (by decide) ?_
        refine lv_icmp_gt (tgt := 72) hx hb dJ6_getChars_ba4f3_25 (by decide) (fun c_25 => ?_) (fun c_25 => ?_)
        · skip
          have k_25 : (-100) < (-(ab / 100)) := (g_lt (show ((-100) : Int32).toInt = (-100) from rfl) p_31).mp c_25
          refine lv_aload_n hx hb dJ6_getChars_ba4f3_72 rfl (lv_at hl 6 rfl) ?_
          obtain ⟨x_73, e_73⟩ : ∃ z : Int32, z = (x_57 + (-1)) := ⟨_, rfl⟩
          have p_73 : x_73.toInt = (((q + (-1)) + (-1)) + (-1)) := by rw [e_73]; exact t_add p_57 (show ((-1) : Int32).toInt = (-1) from rfl) (by omega) (by omega)
          refine lv_iinc (v := x_73) (lv' := [(5, .int x_73), (0, .int x_31), (4, .int x_38), (3, .int x_31), (6, .int 0), (1, .int a_q), (2, .ref (b + 41))]) hx hb dJ6_getChars_ba4f3_73 hl (k := 0) rfl (by rw [e_73]; rfl) (by decide) rfl (fun ls hl => ?_)
          refine lv_iload hx hb dJ6_getChars_ba4f3_76 (lv_at hl 0 rfl) ?_
          refine j_gets X w hZ1 fs_J6_83 dJ6_getChars_ba4f3_78 ?_
          refine lv_iload_n hx hb dJ6_getChars_ba4f3_81 rfl (lv_at hl 1 rfl) ?_
          refine lv_ineg hx hb dJ6_getChars_ba4f3_82 ?_
          refine lv_topi (fun x_82 e_82 => ?_)
          have p_82 : x_82.toInt = -(-(ab / 100)) := by rw [e_82]; exact t_neg p_31 (by omega)
          refine j_tb (v := .int (Int32.ofNat (48 + (x_82).toNatClampNeg % 10))) X w hT1 (g_in p_82 (by omega)) rfl dJ6_getChars_ba4f3_83 ?_
          refine lv_topi (fun x_83 e_83 => ?_)
          have p_83 : x_83.toInt = 48 + (-(-(ab / 100))) % 10 := by rw [e_83]; exact dg_1 p_82 (by omega)
          refine ks_9 (x := x_83) X w (g_in p_73 (by omega)) (by_x p_83 (by omega)).1 dJ6_getChars_ba4f3_84 (fun H locs w => ?_)
          rw [g_tn (show (x_73).toInt = (((q + (-1)) + (-1)) + (-1)) from p_73)] at w
          obtain ⟨B_84, eB_84⟩ : ∃ z, z = va_up B_68 9 (upd (B_68 9) (((q + (-1)) + (-1)) + (-1)).toNat x_83) := ⟨_, rfl⟩
          rw [← eB_84] at w
          have s_84 := st9 eB_84 (show 0 ≤ (((q + (-1)) + (-1)) + (-1)) by omega) p_83
          have o_84 : kpR [9] B B_84 := by rw [eB_84]; exact kpR.up o_68 (by decide)
          refine lv_iload_n hx hb dJ6_getChars_ba4f3_85 rfl (lv_at hl 1 rfl) ?_
          refine lv_bipush (v := (-9)) hx hb dJ6_getChars_ba4f3_86 (by decide) ?_
          refine lv_icmp_ge (tgt := 104) hx hb dJ6_getChars_ba4f3_88 (by decide) (fun c_88 => ?_) (fun c_88 => ?_)
          · skip
            have k_88 : (-9) ≤ (-(ab / 100)) := (g_le (show ((-9) : Int32).toInt = (-9) from rfl) p_31).mp c_88
            refine lv_iload hx hb dJ6_getChars_ba4f3_104 (lv_at hl 4 rfl) ?_
            refine lv_if_eq (tgt := 118) hx hb dJ6_getChars_ba4f3_106 (by decide) (fun c_106 => ?_) (fun c_106 => ?_)
            · skip
              have k_106 : (0 : Int) = 0 := (g_eq (show (0 : Int32).toInt = 0 from rfl) (show (0 : Int32).toInt = 0 from rfl)).mp c_106
              refine lv_iload hx hb dJ6_getChars_ba4f3_118 (lv_at hl 0 rfl) ?_
              exact j_iret (post := fun v A1 B1 => ∃ z, v = some (.int z) ∧ A1 = A ∧ kpR [9] B B1 ∧ ∀ j : Int, 0 ≤ j → (B1 9 j.toNat).toInt = gcF nv q (fun j => (B 9 j.toNat).toInt) j) X w dJ6_getChars_ba4f3_120 (rfl) (⟨_, rfl, rfl, o_84, fun j hj => (by have hd : dN (absI nv) = 3 := (hln.2.2.1 (by omega) (by omega)); rw [s_84 j hj]; by_cases q2 : j = (((q + (-1)) + (-1)) + (-1)); (rw [if_pos q2]; rw [gc_at (v := nv) (p := q) (j := j) (i := 3) hd (by omega) (by omega), hav, show pT 3 = 100 from rfl]; omega); rw [if_neg q2]; rw [s_68 j hj]; by_cases q1 : j = ((q + (-1)) + (-1)); (rw [if_pos q1]; rw [gc_at (v := nv) (p := q) (j := j) (i := 2) hd (by omega) (by omega), hav, show pT 2 = 10 from rfl]; omega); rw [if_neg q1]; rw [s_55 j hj]; by_cases q0 : j = (q + (-1)); (rw [if_pos q0]; rw [gc_at (v := nv) (p := q) (j := j) (i := 1) hd (by omega) (by omega), hav, show pT 1 = 1 from rfl]; omega); rw [if_neg q0]; exact (gc_off (v := nv) (p := q) (j := j) (f := fun j => (B 9 j.toNat).toInt) hd (by omega) (by omega)).symm)⟩)
            · skip
              have k_106 : ¬ ((0 : Int) = 0) := fun h => c_106 ((g_eq (show (0 : Int32).toInt = 0 from rfl) (show (0 : Int32).toInt = 0 from rfl)).mpr h)
              omega
          · skip
            have k_88 : ¬ ((-9) ≤ (-(ab / 100))) := fun h => c_88 ((g_le (show ((-9) : Int32).toInt = (-9) from rfl) p_31).mpr h)
            refine lv_aload_n hx hb dJ6_getChars_ba4f3_91 rfl (lv_at hl 6 rfl) ?_
            obtain ⟨x_92, e_92⟩ : ∃ z : Int32, z = (x_73 + (-1)) := ⟨_, rfl⟩
            have p_92 : x_92.toInt = ((((q + (-1)) + (-1)) + (-1)) + (-1)) := by rw [e_92]; exact t_add p_73 (show ((-1) : Int32).toInt = (-1) from rfl) (by omega) (by omega)
            refine lv_iinc (v := x_92) (lv' := [(5, .int x_92), (0, .int x_31), (4, .int x_38), (3, .int x_31), (6, .int 0), (1, .int a_q), (2, .ref (b + 41))]) hx hb dJ6_getChars_ba4f3_92 hl (k := 0) rfl (by rw [e_92]; rfl) (by decide) rfl (fun ls hl => ?_)
            refine lv_iload hx hb dJ6_getChars_ba4f3_95 (lv_at hl 0 rfl) ?_
            refine j_gets X w hZ2 fs_J6_87 dJ6_getChars_ba4f3_97 ?_
            refine lv_iload_n hx hb dJ6_getChars_ba4f3_100 rfl (lv_at hl 1 rfl) ?_
            refine lv_ineg hx hb dJ6_getChars_ba4f3_101 ?_
            refine lv_topi (fun x_101 e_101 => ?_)
            have p_101 : x_101.toInt = -(-(ab / 100)) := by rw [e_101]; exact t_neg p_31 (by omega)
            refine j_tb (v := .int (Int32.ofNat (48 + (x_101).toNatClampNeg / 10))) X w hT2 (g_in p_101 (by omega)) rfl dJ6_getChars_ba4f3_102 ?_
            refine lv_topi (fun x_102 e_102 => ?_)
            have p_102 : x_102.toInt = 48 + (-(-(ab / 100))) / 10 := by rw [e_102]; exact dg_2 p_101 (by omega)
            refine ks_9 (x := x_102) X w (g_in p_92 (by omega)) (by_x p_102 (by omega)).1 dJ6_getChars_ba4f3_103 (fun H locs w => ?_)
            rw [g_tn (show (x_92).toInt = ((((q + (-1)) + (-1)) + (-1)) + (-1)) from p_92)] at w
            obtain ⟨B_103, eB_103⟩ : ∃ z, z = va_up B_84 9 (upd (B_84 9) ((((q + (-1)) + (-1)) + (-1)) + (-1)).toNat x_102) := ⟨_, rfl⟩
            rw [← eB_103] at w
            have s_103 := st9 eB_103 (show 0 ≤ ((((q + (-1)) + (-1)) + (-1)) + (-1)) by omega) p_102
            have o_103 : kpR [9] B B_103 := by rw [eB_103]; exact kpR.up o_84 (by decide)
            refine lv_iload hx hb dJ6_getChars_ba4f3_104 (lv_at hl 4 rfl) ?_
            refine lv_if_eq (tgt := 118) hx hb dJ6_getChars_ba4f3_106 (by decide) (fun c_106 => ?_) (fun c_106 => ?_)
            · skip
              have k_106 : (0 : Int) = 0 := (g_eq (show (0 : Int32).toInt = 0 from rfl) (show (0 : Int32).toInt = 0 from rfl)).mp c_106
              refine lv_iload hx hb dJ6_getChars_ba4f3_118 (lv_at hl 0 rfl) ?_
              exact j_iret (post := fun v A1 B1 => ∃ z, v = some (.int z) ∧ A1 = A ∧ kpR [9] B B1 ∧ ∀ j : Int, 0 ≤ j → (B1 9 j.toNat).toInt = gcF nv q (fun j => (B 9 j.toNat).toInt) j) X w dJ6_getChars_ba4f3_120 (rfl) (⟨_, rfl, rfl, o_103, fun j hj => (by have hd : dN (absI nv) = 4 := (hln.2.2.2 (by omega)); rw [s_103 j hj]; by_cases q3 : j = ((((q + (-1)) + (-1)) + (-1)) + (-1)); (rw [if_pos q3]; rw [gc_at (v := nv) (p := q) (j := j) (i := 4) hd (by omega) (by omega), hav, show pT 4 = 1000 from rfl]; omega); rw [if_neg q3]; rw [s_84 j hj]; by_cases q2 : j = (((q + (-1)) + (-1)) + (-1)); (rw [if_pos q2]; rw [gc_at (v := nv) (p := q) (j := j) (i := 3) hd (by omega) (by omega), hav, show pT 3 = 100 from rfl]; omega); rw [if_neg q2]; rw [s_68 j hj]; by_cases q1 : j = ((q + (-1)) + (-1)); (rw [if_pos q1]; rw [gc_at (v := nv) (p := q) (j := j) (i := 2) hd (by omega) (by omega), hav, show pT 2 = 10 from rfl]; omega); rw [if_neg q1]; rw [s_55 j hj]; by_cases q0 : j = (q + (-1)); (rw [if_pos q0]; rw [gc_at (v := nv) (p := q) (j := j) (i := 1) hd (by omega) (by omega), hav, show pT 1 = 1 from rfl]; omega); rw [if_neg q0]; exact (gc_off (v := nv) (p := q) (j := j) (f := fun j => (B 9 j.toNat).toInt) hd (by omega) (by omega)).symm)⟩)
            · skip
              have k_106 : ¬ ((0 : Int) = 0) := fun h => c_106 ((g_eq (show (0 : Int32).toInt = 0 from rfl) (show (0 : Int32).toInt = 0 from rfl)).mpr h)
              omega
        · skip
          have k_25 : ¬ ((-100) < (-(ab / 100))) := fun h => c_25 ((g_lt (show ((-100) : Int32).toInt = (-100) from rfl) p_31).mpr h)
          omega
  · skip
    have k_4 : ¬ (0 ≤ nv) := fun h => c_4 ((g_le (show (0 : Int32).toInt = 0 from rfl) e_nv).mpr h)
    rw [if_pos (by omega)] at h_2
    refine lv_iconst (v := 1) hx hb dJ6_getChars_ba4f3_7 (by decide) ?_
    refine lv_goto (tgt := 12) hx hb dJ6_getChars_ba4f3_8 (by decide) ?_
    refine lv_istore (lv' := [(6, .int 1), (5, .int a_q), (0, .int a_nv), (1, .int a_q), (2, .ref (b + 41))]) hx hb dJ6_getChars_ba4f3_12 hl (by decide) rfl (fun ls hl => ?_)
    refine lv_iload hx hb dJ6_getChars_ba4f3_14 (lv_at hl 0 rfl) ?_
    refine lv_if_ne (tgt := 22) hx hb dJ6_getChars_ba4f3_16 (by decide) (fun c_16 => ?_) (fun c_16 => ?_)
    · skip
      have k_16 : ¬ ((1 : Int) = 0) := fun h => c_16 ((g_eq (show (1 : Int32).toInt = 1 from rfl) (show (0 : Int32).toInt = 0 from rfl)).mpr h)
      obtain ⟨ab, hab⟩ : ∃ z : Int, z = -nv := ⟨_, rfl⟩
      have hav : absI nv = ab := by unfold absI; rw [if_pos (show nv < 0 by omega)]; omega
      have pn : (a_nv).toInt = -ab := (show (a_nv).toInt = nv from e_nv).trans (by omega)
      have hab2 : 0 ≤ ab ∧ ab ≤ 9999 := by omega
      have hln : (ab < 10 → dN (absI nv) = 1) ∧ (10 ≤ ab → ab < 100 → dN (absI nv) = 2) ∧ (100 ≤ ab → ab < 1000 → dN (absI nv) = 3) ∧ (1000 ≤ ab → dN (absI nv) = 4) := by rw [hav]; unfold dN; refine ⟨fun _ => ?_, fun _ _ => ?_, fun _ _ => ?_, fun _ => ?_⟩ <;> (repeat' split) <;> omega
      refine lv_iload_n hx hb dJ6_getChars_ba4f3_22 rfl (lv_at hl 2 rfl) ?_
      refine lv_bipush (v := (-100)) hx hb dJ6_getChars_ba4f3_23 (by decide) ?_
      refine lv_icmp_gt (tgt := 72) hx hb dJ6_getChars_ba4f3_25 (by decide) (fun c_25 => ?_) (fun c_25 => ?_)
      · skip
        have k_25 : (-100) < (-ab) := (g_lt (show ((-100) : Int32).toInt = (-100) from rfl) pn).mp c_25
        refine lv_aload_n hx hb dJ6_getChars_ba4f3_72 rfl (lv_at hl 4 rfl) ?_
        obtain ⟨x_73, e_73⟩ : ∃ z : Int32, z = (a_q + (-1)) := ⟨_, rfl⟩
        have p_73 : x_73.toInt = (q + (-1)) := by rw [e_73]; exact t_add e_q (show ((-1) : Int32).toInt = (-1) from rfl) (by omega) (by omega)
        refine lv_iinc (v := x_73) (lv' := [(5, .int x_73), (6, .int 1), (0, .int a_nv), (1, .int a_q), (2, .ref (b + 41))]) hx hb dJ6_getChars_ba4f3_73 hl (k := 1) rfl (by rw [e_73]; rfl) (by decide) rfl (fun ls hl => ?_)
        refine lv_iload hx hb dJ6_getChars_ba4f3_76 (lv_at hl 0 rfl) ?_
        refine j_gets X w hZ1 fs_J6_83 dJ6_getChars_ba4f3_78 ?_
        refine lv_iload_n hx hb dJ6_getChars_ba4f3_81 rfl (lv_at hl 2 rfl) ?_
        refine lv_ineg hx hb dJ6_getChars_ba4f3_82 ?_
        refine lv_topi (fun x_82 e_82 => ?_)
        have p_82 : x_82.toInt = -(-ab) := by rw [e_82]; exact t_neg pn (by omega)
        refine j_tb (v := .int (Int32.ofNat (48 + (x_82).toNatClampNeg % 10))) X w hT1 (g_in p_82 (by omega)) rfl dJ6_getChars_ba4f3_83 ?_
        refine lv_topi (fun x_83 e_83 => ?_)
        have p_83 : x_83.toInt = 48 + (-(-ab)) % 10 := by rw [e_83]; exact dg_1 p_82 (by omega)
        refine ks_9 (x := x_83) X w (g_in p_73 (by omega)) (by_x p_83 (by omega)).1 dJ6_getChars_ba4f3_84 (fun H locs w => ?_)
        rw [g_tn (show (x_73).toInt = (q + (-1)) from p_73)] at w
        obtain ⟨B_84, eB_84⟩ : ∃ z, z = va_up B 9 (upd (B 9) (q + (-1)).toNat x_83) := ⟨_, rfl⟩
        rw [← eB_84] at w
        have s_84 := st9 eB_84 (show 0 ≤ (q + (-1)) by omega) p_83
        have o_84 : kpR [9] B B_84 := by rw [eB_84]; exact kpR.up kpR.rf (by decide)
        refine lv_iload_n hx hb dJ6_getChars_ba4f3_85 rfl (lv_at hl 2 rfl) ?_
        refine lv_bipush (v := (-9)) hx hb dJ6_getChars_ba4f3_86 (by decide) ?_
        refine lv_icmp_ge (tgt := 104) hx hb dJ6_getChars_ba4f3_88 (by decide) (fun c_88 => ?_) (fun c_88 => ?_)
        · skip
          have k_88 : (-9) ≤ (-ab) := (g_le (show ((-9) : Int32).toInt = (-9) from rfl) pn).mp c_88
          refine lv_iload hx hb dJ6_getChars_ba4f3_104 (lv_at hl 1 rfl) ?_
          refine lv_if_eq (tgt := 118) hx hb dJ6_getChars_ba4f3_106 (by decide) (fun c_106 => ?_) (fun c_106 => ?_)
          · skip
            have k_106 : (1 : Int) = 0 := (g_eq (show (1 : Int32).toInt = 1 from rfl) (show (0 : Int32).toInt = 0 from rfl)).mp c_106
            omega
          · skip
            have k_106 : ¬ ((1 : Int) = 0) := fun h => c_106 ((g_eq (show (1 : Int32).toInt = 1 from rfl) (show (0 : Int32).toInt = 0 from rfl)).mpr h)
            refine lv_aload_n hx hb dJ6_getChars_ba4f3_109 rfl (lv_at hl 4 rfl) ?_
            obtain ⟨x_110, e_110⟩ : ∃ z : Int32, z = (x_73 + (-1)) := ⟨_, rfl⟩
            have p_110 : x_110.toInt = ((q + (-1)) + (-1)) := by rw [e_110]; exact t_add p_73 (show ((-1) : Int32).toInt = (-1) from rfl) (by omega) (by omega)
            refine lv_iinc (v := x_110) (lv' := [(5, .int x_110), (6, .int 1), (0, .int a_nv), (1, .int a_q), (2, .ref (b + 41))]) hx hb dJ6_getChars_ba4f3_110 hl (k := 0) rfl (by rw [e_110]; rfl) (by decide) rfl (fun ls hl => ?_)
            refine lv_iload hx hb dJ6_getChars_ba4f3_113 (lv_at hl 0 rfl) ?_
            refine lv_bipush (v := 45) hx hb dJ6_getChars_ba4f3_115 (by decide) ?_
            refine ks_9 (x := 45) X w (g_in p_110 (by omega)) (by_x (show (45 : Int32).toInt = 45 from rfl) (by omega)).1 dJ6_getChars_ba4f3_117 (fun H locs w => ?_)
            rw [g_tn (show (x_110).toInt = ((q + (-1)) + (-1)) from p_110)] at w
            obtain ⟨B_117, eB_117⟩ : ∃ z, z = va_up B_84 9 (upd (B_84 9) ((q + (-1)) + (-1)).toNat 45) := ⟨_, rfl⟩
            rw [← eB_117] at w
            have s_117 := st9 eB_117 (show 0 ≤ ((q + (-1)) + (-1)) by omega) (show (45 : Int32).toInt = 45 from rfl)
            have o_117 : kpR [9] B B_117 := by rw [eB_117]; exact kpR.up o_84 (by decide)
            refine lv_iload hx hb dJ6_getChars_ba4f3_118 (lv_at hl 0 rfl) ?_
            exact j_iret (post := fun v A1 B1 => ∃ z, v = some (.int z) ∧ A1 = A ∧ kpR [9] B B1 ∧ ∀ j : Int, 0 ≤ j → (B1 9 j.toNat).toInt = gcF nv q (fun j => (B 9 j.toNat).toInt) j) X w dJ6_getChars_ba4f3_120 (rfl) (⟨_, rfl, rfl, o_117, fun j hj => (by have hd : dN (absI nv) = 1 := (hln.1 (by omega)); rw [s_117 j hj]; by_cases q1 : j = ((q + (-1)) + (-1)); (rw [if_pos q1]; exact (gc_sg (v := nv) (p := q) (j := j) hd (by omega) (by omega)).symm); rw [if_neg q1]; rw [s_84 j hj]; by_cases q0 : j = (q + (-1)); (rw [if_pos q0]; rw [gc_at (v := nv) (p := q) (j := j) (i := 1) hd (by omega) (by omega), hav, show pT 1 = 1 from rfl]; omega); rw [if_neg q0]; exact (gc_off (v := nv) (p := q) (j := j) (f := fun j => (B 9 j.toNat).toInt) hd (by omega) (by omega)).symm)⟩)
        · skip
          have k_88 : ¬ ((-9) ≤ (-ab)) := fun h => c_88 ((g_le (show ((-9) : Int32).toInt = (-9) from rfl) pn).mpr h)
          refine lv_aload_n hx hb dJ6_getChars_ba4f3_91 rfl (lv_at hl 4 rfl) ?_
          obtain ⟨x_92, e_92⟩ : ∃ z : Int32, z = (x_73 + (-1)) := ⟨_, rfl⟩
          have p_92 : x_92.toInt = ((q + (-1)) + (-1)) := by rw [e_92]; exact t_add p_73 (show ((-1) : Int32).toInt = (-1) from rfl) (by omega) (by omega)
          refine lv_iinc (v := x_92) (lv' := [(5, .int x_92), (6, .int 1), (0, .int a_nv), (1, .int a_q), (2, .ref (b + 41))]) hx hb dJ6_getChars_ba4f3_92 hl (k := 0) rfl (by rw [e_92]; rfl) (by decide) rfl (fun ls hl => ?_)
          refine lv_iload hx hb dJ6_getChars_ba4f3_95 (lv_at hl 0 rfl) ?_
          refine j_gets X w hZ2 fs_J6_87 dJ6_getChars_ba4f3_97 ?_
          refine lv_iload_n hx hb dJ6_getChars_ba4f3_100 rfl (lv_at hl 2 rfl) ?_
          refine lv_ineg hx hb dJ6_getChars_ba4f3_101 ?_
          refine lv_topi (fun x_101 e_101 => ?_)
          have p_101 : x_101.toInt = -(-ab) := by rw [e_101]; exact t_neg pn (by omega)
          refine j_tb (v := .int (Int32.ofNat (48 + (x_101).toNatClampNeg / 10))) X w hT2 (g_in p_101 (by omega)) rfl dJ6_getChars_ba4f3_102 ?_
          refine lv_topi (fun x_102 e_102 => ?_)
          have p_102 : x_102.toInt = 48 + (-(-ab)) / 10 := by rw [e_102]; exact dg_2 p_101 (by omega)
          refine ks_9 (x := x_102) X w (g_in p_92 (by omega)) (by_x p_102 (by omega)).1 dJ6_getChars_ba4f3_103 (fun H locs w => ?_)
          rw [g_tn (show (x_92).toInt = ((q + (-1)) + (-1)) from p_92)] at w
          obtain ⟨B_103, eB_103⟩ : ∃ z, z = va_up B_84 9 (upd (B_84 9) ((q + (-1)) + (-1)).toNat x_102) := ⟨_, rfl⟩
          rw [← eB_103] at w
          have s_103 := st9 eB_103 (show 0 ≤ ((q + (-1)) + (-1)) by omega) p_102
          have o_103 : kpR [9] B B_103 := by rw [eB_103]; exact kpR.up o_84 (by decide)
          refine lv_iload hx hb dJ6_getChars_ba4f3_104 (lv_at hl 1 rfl) ?_
          refine lv_if_eq (tgt := 118) hx hb dJ6_getChars_ba4f3_106 (by decide) (fun c_106 => ?_) (fun c_106 => ?_)
          · skip
            have k_106 : (1 : Int) = 0 := (g_eq (show (1 : Int32).toInt = 1 from rfl) (show (0 : Int32).toInt = 0 from rfl)).mp c_106
            omega
          · skip
            have k_106 : ¬ ((1 : Int) = 0) := fun h => c_106 ((g_eq (show (1 : Int32).toInt = 1 from rfl) (show (0 : Int32).toInt = 0 from rfl)).mpr h)
            refine lv_aload_n hx hb dJ6_getChars_ba4f3_109 rfl (lv_at hl 4 rfl) ?_
            obtain ⟨x_110, e_110⟩ : ∃ z : Int32, z = (x_92 + (-1)) := ⟨_, rfl⟩
            have p_110 : x_110.toInt = (((q + (-1)) + (-1)) + (-1)) := by rw [e_110]; exact t_add p_92 (show ((-1) : Int32).toInt = (-1) from rfl) (by omega) (by omega)
            refine lv_iinc (v := x_110) (lv' := [(5, .int x_110), (6, .int 1), (0, .int a_nv), (1, .int a_q), (2, .ref (b + 41))]) hx hb dJ6_getChars_ba4f3_110 hl (k := 0) rfl (by rw [e_110]; rfl) (by decide) rfl (fun ls hl => ?_)
            refine lv_iload hx hb dJ6_getChars_ba4f3_113 (lv_at hl 0 rfl) ?_
            refine lv_bipush (v := 45) hx hb dJ6_getChars_ba4f3_115 (by decide) ?_
            refine ks_9 (x := 45) X w (g_in p_110 (by omega)) (by_x (show (45 : Int32).toInt = 45 from rfl) (by omega)).1 dJ6_getChars_ba4f3_117 (fun H locs w => ?_)
            rw [g_tn (show (x_110).toInt = (((q + (-1)) + (-1)) + (-1)) from p_110)] at w
            obtain ⟨B_117, eB_117⟩ : ∃ z, z = va_up B_103 9 (upd (B_103 9) (((q + (-1)) + (-1)) + (-1)).toNat 45) := ⟨_, rfl⟩
            rw [← eB_117] at w
            have s_117 := st9 eB_117 (show 0 ≤ (((q + (-1)) + (-1)) + (-1)) by omega) (show (45 : Int32).toInt = 45 from rfl)
            have o_117 : kpR [9] B B_117 := by rw [eB_117]; exact kpR.up o_103 (by decide)
            refine lv_iload hx hb dJ6_getChars_ba4f3_118 (lv_at hl 0 rfl) ?_
            exact j_iret (post := fun v A1 B1 => ∃ z, v = some (.int z) ∧ A1 = A ∧ kpR [9] B B1 ∧ ∀ j : Int, 0 ≤ j → (B1 9 j.toNat).toInt = gcF nv q (fun j => (B 9 j.toNat).toInt) j) X w dJ6_getChars_ba4f3_120 (rfl) (⟨_, rfl, rfl, o_117, fun j hj => (by have hd : dN (absI nv) = 2 := (hln.2.1 (by omega) (by omega)); rw [s_117 j hj]; by_cases q2 : j = (((q + (-1)) + (-1)) + (-1)); (rw [if_pos q2]; exact (gc_sg (v := nv) (p := q) (j := j) hd (by omega) (by omega)).symm); rw [if_neg q2]; rw [s_103 j hj]; by_cases q1 : j = ((q + (-1)) + (-1)); (rw [if_pos q1]; rw [gc_at (v := nv) (p := q) (j := j) (i := 2) hd (by omega) (by omega), hav, show pT 2 = 10 from rfl]; omega); rw [if_neg q1]; rw [s_84 j hj]; by_cases q0 : j = (q + (-1)); (rw [if_pos q0]; rw [gc_at (v := nv) (p := q) (j := j) (i := 1) hd (by omega) (by omega), hav, show pT 1 = 1 from rfl]; omega); rw [if_neg q0]; exact (gc_off (v := nv) (p := q) (j := j) (f := fun j => (B 9 j.toNat).toInt) hd (by omega) (by omega)).symm)⟩)
      · skip
        have k_25 : ¬ ((-100) < (-ab)) := fun h => c_25 ((g_lt (show ((-100) : Int32).toInt = (-100) from rfl) pn).mpr h)
        refine lv_iload_n hx hb dJ6_getChars_ba4f3_28 rfl (lv_at hl 2 rfl) ?_
        refine lv_bipush (v := 100) hx hb dJ6_getChars_ba4f3_29 (by decide) ?_
        refine lv_idiv hx hb dJ6_getChars_ba4f3_31 (by decide) ?_
        refine lv_topi (fun x_31 e_31 => ?_)
        have p_31 : x_31.toInt = (-(ab / 100)) := by rw [e_31]; rw [show (-(ab / 100) : Int) = -((-(-ab)) / 100) by rw [Int.neg_neg]]; exact (t_divT pn rfl (by decide)).trans (fm_neg (by omega) (by decide)).1
        refine lv_istore_n (lv' := [(3, .int x_31), (6, .int 1), (5, .int a_q), (0, .int a_nv), (1, .int a_q), (2, .ref (b + 41))]) hx hb dJ6_getChars_ba4f3_32 rfl hl (by decide) rfl (fun ls hl => ?_)
        refine lv_iload_n hx hb dJ6_getChars_ba4f3_33 rfl (lv_at hl 0 rfl) ?_
        refine lv_bipush (v := 100) hx hb dJ6_getChars_ba4f3_34 (by decide) ?_
        refine lv_imul hx hb dJ6_getChars_ba4f3_36 ?_
        refine lv_topi (fun x_36 e_36 => ?_)
        have p_36 : x_36.toInt = ((-(ab / 100)) * 100) := by rw [e_36]; exact t_mul p_31 (show (100 : Int32).toInt = 100 from rfl) (by omega) (by omega)
        refine lv_iload_n hx hb dJ6_getChars_ba4f3_37 rfl (lv_at hl 3 rfl) ?_
        refine lv_isub hx hb dJ6_getChars_ba4f3_38 ?_
        refine lv_topi (fun x_38 e_38 => ?_)
        have p_38 : x_38.toInt = (((-(ab / 100)) * 100) - (-ab)) := by rw [e_38]; exact t_sub p_36 pn (by omega) (by omega)
        have pr : (x_38).toInt = ab % 100 := (show (x_38).toInt = (((-(ab / 100)) * 100) - (-ab)) from p_38).trans (by omega)
        refine lv_istore (lv' := [(4, .int x_38), (3, .int x_31), (6, .int 1), (5, .int a_q), (0, .int a_nv), (1, .int a_q), (2, .ref (b + 41))]) hx hb dJ6_getChars_ba4f3_39 hl (by decide) rfl (fun ls hl => ?_)
        refine lv_iload_n hx hb dJ6_getChars_ba4f3_41 rfl (lv_at hl 1 rfl) ?_
        refine lv_istore_n (lv' := [(0, .int x_31), (4, .int x_38), (3, .int x_31), (6, .int 1), (5, .int a_q), (1, .int a_q), (2, .ref (b + 41))]) hx hb dJ6_getChars_ba4f3_42 rfl hl (by decide) rfl (fun ls hl => ?_)
        refine lv_aload_n hx hb dJ6_getChars_ba4f3_43 rfl (lv_at hl 6 rfl) ?_
        obtain ⟨x_44, e_44⟩ : ∃ z : Int32, z = (a_q + (-1)) := ⟨_, rfl⟩
        have p_44 : x_44.toInt = (q + (-1)) := by rw [e_44]; exact t_add e_q (show ((-1) : Int32).toInt = (-1) from rfl) (by omega) (by omega)
        refine lv_iinc (v := x_44) (lv' := [(5, .int x_44), (0, .int x_31), (4, .int x_38), (3, .int x_31), (6, .int 1), (1, .int a_q), (2, .ref (b + 41))]) hx hb dJ6_getChars_ba4f3_44 hl (k := 4) rfl (by rw [e_44]; rfl) (by decide) rfl (fun ls hl => ?_)
        refine lv_iload hx hb dJ6_getChars_ba4f3_47 (lv_at hl 0 rfl) ?_
        refine j_gets X w hZ1 fs_J6_83 dJ6_getChars_ba4f3_49 ?_
        refine lv_iload hx hb dJ6_getChars_ba4f3_52 (lv_at hl 2 rfl) ?_
        refine j_tb (v := .int (Int32.ofNat (48 + (x_38).toNatClampNeg % 10))) X w hT1 (g_in pr (by omega)) rfl dJ6_getChars_ba4f3_54 ?_
        refine lv_topi (fun x_54 e_54 => ?_)
        have p_54 : x_54.toInt = 48 + (ab % 100) % 10 := by rw [e_54]; exact dg_1 pr (by omega)
        refine ks_9 (x := x_54) X w (g_in p_44 (by omega)) (by_x p_54 (by omega)).1 dJ6_getChars_ba4f3_55 (fun H locs w => ?_)
        rw [g_tn (show (x_44).toInt = (q + (-1)) from p_44)] at w
        obtain ⟨B_55, eB_55⟩ : ∃ z, z = va_up B 9 (upd (B 9) (q + (-1)).toNat x_54) := ⟨_, rfl⟩
        rw [← eB_55] at w
        have s_55 := st9 eB_55 (show 0 ≤ (q + (-1)) by omega) p_54
        have o_55 : kpR [9] B B_55 := by rw [eB_55]; exact kpR.up kpR.rf (by decide)
        refine lv_aload_n hx hb dJ6_getChars_ba4f3_56 rfl (lv_at hl 6 rfl) ?_
        obtain ⟨x_57, e_57⟩ : ∃ z : Int32, z = (x_44 + (-1)) := ⟨_, rfl⟩
        have p_57 : x_57.toInt = ((q + (-1)) + (-1)) := by rw [e_57]; exact t_add p_44 (show ((-1) : Int32).toInt = (-1) from rfl) (by omega) (by omega)
        refine lv_iinc (v := x_57) (lv' := [(5, .int x_57), (0, .int x_31), (4, .int x_38), (3, .int x_31), (6, .int 1), (1, .int a_q), (2, .ref (b + 41))]) hx hb dJ6_getChars_ba4f3_57 hl (k := 0) rfl (by rw [e_57]; rfl) (by decide) rfl (fun ls hl => ?_)
        refine lv_iload hx hb dJ6_getChars_ba4f3_60 (lv_at hl 0 rfl) ?_
        refine j_gets X w hZ2 fs_J6_87 dJ6_getChars_ba4f3_62 ?_
        refine lv_iload hx hb dJ6_getChars_ba4f3_65 (lv_at hl 2 rfl) ?_
        refine j_tb (v := .int (Int32.ofNat (48 + (x_38).toNatClampNeg / 10))) X w hT2 (g_in pr (by omega)) rfl dJ6_getChars_ba4f3_67 ?_
        refine lv_topi (fun x_67 e_67 => ?_)
        have p_67 : x_67.toInt = 48 + (ab % 100) / 10 := by rw [e_67]; exact dg_2 pr (by omega)
        refine ks_9 (x := x_67) X w (g_in p_57 (by omega)) (by_x p_67 (by omega)).1 dJ6_getChars_ba4f3_68 (fun H locs w => ?_)
        rw [g_tn (show (x_57).toInt = ((q + (-1)) + (-1)) from p_57)] at w
        obtain ⟨B_68, eB_68⟩ : ∃ z, z = va_up B_55 9 (upd (B_55 9) ((q + (-1)) + (-1)).toNat x_67) := ⟨_, rfl⟩
        rw [← eB_68] at w
        have s_68 := st9 eB_68 (show 0 ≤ ((q + (-1)) + (-1)) by omega) p_67
        have o_68 : kpR [9] B B_68 := by rw [eB_68]; exact kpR.up o_55 (by decide)
        refine lv_goto (tgt := 22) hx hb dJ6_getChars_ba4f3_69 (by decide) ?_
        refine lv_iload_n hx hb dJ6_getChars_ba4f3_22 rfl (lv_at hl 1 rfl) ?_
        refine lv_bipush (v := (-100)) hx hb dJ6_getChars_ba4f3_23 (by decide) ?_
        refine lv_icmp_gt (tgt := 72) hx hb dJ6_getChars_ba4f3_25 (by decide) (fun c_25 => ?_) (fun c_25 => ?_)
        · skip
          have k_25 : (-100) < (-(ab / 100)) := (g_lt (show ((-100) : Int32).toInt = (-100) from rfl) p_31).mp c_25
          refine lv_aload_n hx hb dJ6_getChars_ba4f3_72 rfl (lv_at hl 6 rfl) ?_
          obtain ⟨x_73, e_73⟩ : ∃ z : Int32, z = (x_57 + (-1)) := ⟨_, rfl⟩
          have p_73 : x_73.toInt = (((q + (-1)) + (-1)) + (-1)) := by rw [e_73]; exact t_add p_57 (show ((-1) : Int32).toInt = (-1) from rfl) (by omega) (by omega)
          refine lv_iinc (v := x_73) (lv' := [(5, .int x_73), (0, .int x_31), (4, .int x_38), (3, .int x_31), (6, .int 1), (1, .int a_q), (2, .ref (b + 41))]) hx hb dJ6_getChars_ba4f3_73 hl (k := 0) rfl (by rw [e_73]; rfl) (by decide) rfl (fun ls hl => ?_)
          refine lv_iload hx hb dJ6_getChars_ba4f3_76 (lv_at hl 0 rfl) ?_
          refine j_gets X w hZ1 fs_J6_83 dJ6_getChars_ba4f3_78 ?_
          refine lv_iload_n hx hb dJ6_getChars_ba4f3_81 rfl (lv_at hl 1 rfl) ?_
          refine lv_ineg hx hb dJ6_getChars_ba4f3_82 ?_
          refine lv_topi (fun x_82 e_82 => ?_)
          have p_82 : x_82.toInt = -(-(ab / 100)) := by rw [e_82]; exact t_neg p_31 (by omega)
          refine j_tb (v := .int (Int32.ofNat (48 + (x_82).toNatClampNeg % 10))) X w hT1 (g_in p_82 (by omega)) rfl dJ6_getChars_ba4f3_83 ?_
          refine lv_topi (fun x_83 e_83 => ?_)
          have p_83 : x_83.toInt = 48 + (-(-(ab / 100))) % 10 := by rw [e_83]; exact dg_1 p_82 (by omega)
          refine ks_9 (x := x_83) X w (g_in p_73 (by omega)) (by_x p_83 (by omega)).1 dJ6_getChars_ba4f3_84 (fun H locs w => ?_)
          rw [g_tn (show (x_73).toInt = (((q + (-1)) + (-1)) + (-1)) from p_73)] at w
          obtain ⟨B_84, eB_84⟩ : ∃ z, z = va_up B_68 9 (upd (B_68 9) (((q + (-1)) + (-1)) + (-1)).toNat x_83) := ⟨_, rfl⟩
          rw [← eB_84] at w
          have s_84 := st9 eB_84 (show 0 ≤ (((q + (-1)) + (-1)) + (-1)) by omega) p_83
          have o_84 : kpR [9] B B_84 := by rw [eB_84]; exact kpR.up o_68 (by decide)
          refine lv_iload_n hx hb dJ6_getChars_ba4f3_85 rfl (lv_at hl 1 rfl) ?_
          refine lv_bipush (v := (-9)) hx hb dJ6_getChars_ba4f3_86 (by decide) ?_
          refine lv_icmp_ge (tgt := 104) hx hb dJ6_getChars_ba4f3_88 (by decide) (fun c_88 => ?_) (fun c_88 => ?_)
          · skip
            have k_88 : (-9) ≤ (-(ab / 100)) := (g_le (show ((-9) : Int32).toInt = (-9) from rfl) p_31).mp c_88
            refine lv_iload hx hb dJ6_getChars_ba4f3_104 (lv_at hl 4 rfl) ?_
            refine lv_if_eq (tgt := 118) hx hb dJ6_getChars_ba4f3_106 (by decide) (fun c_106 => ?_) (fun c_106 => ?_)
            · skip
              have k_106 : (1 : Int) = 0 := (g_eq (show (1 : Int32).toInt = 1 from rfl) (show (0 : Int32).toInt = 0 from rfl)).mp c_106
              omega
            · skip
              have k_106 : ¬ ((1 : Int) = 0) := fun h => c_106 ((g_eq (show (1 : Int32).toInt = 1 from rfl) (show (0 : Int32).toInt = 0 from rfl)).mpr h)
              refine lv_aload_n hx hb dJ6_getChars_ba4f3_109 rfl (lv_at hl 6 rfl) ?_
              obtain ⟨x_110, e_110⟩ : ∃ z : Int32, z = (x_73 + (-1)) := ⟨_, rfl⟩
              have p_110 : x_110.toInt = ((((q + (-1)) + (-1)) + (-1)) + (-1)) := by rw [e_110]; exact t_add p_73 (show ((-1) : Int32).toInt = (-1) from rfl) (by omega) (by omega)
              refine lv_iinc (v := x_110) (lv' := [(5, .int x_110), (0, .int x_31), (4, .int x_38), (3, .int x_31), (6, .int 1), (1, .int a_q), (2, .ref (b + 41))]) hx hb dJ6_getChars_ba4f3_110 hl (k := 0) rfl (by rw [e_110]; rfl) (by decide) rfl (fun ls hl => ?_)
              refine lv_iload hx hb dJ6_getChars_ba4f3_113 (lv_at hl 0 rfl) ?_
              refine lv_bipush (v := 45) hx hb dJ6_getChars_ba4f3_115 (by decide) ?_
              refine ks_9 (x := 45) X w (g_in p_110 (by omega)) (by_x (show (45 : Int32).toInt = 45 from rfl) (by omega)).1 dJ6_getChars_ba4f3_117 (fun H locs w => ?_)
              rw [g_tn (show (x_110).toInt = ((((q + (-1)) + (-1)) + (-1)) + (-1)) from p_110)] at w
              obtain ⟨B_117, eB_117⟩ : ∃ z, z = va_up B_84 9 (upd (B_84 9) ((((q + (-1)) + (-1)) + (-1)) + (-1)).toNat 45) := ⟨_, rfl⟩
              rw [← eB_117] at w
              have s_117 := st9 eB_117 (show 0 ≤ ((((q + (-1)) + (-1)) + (-1)) + (-1)) by omega) (show (45 : Int32).toInt = 45 from rfl)
              have o_117 : kpR [9] B B_117 := by rw [eB_117]; exact kpR.up o_84 (by decide)
              refine lv_iload hx hb dJ6_getChars_ba4f3_118 (lv_at hl 0 rfl) ?_
              exact j_iret (post := fun v A1 B1 => ∃ z, v = some (.int z) ∧ A1 = A ∧ kpR [9] B B1 ∧ ∀ j : Int, 0 ≤ j → (B1 9 j.toNat).toInt = gcF nv q (fun j => (B 9 j.toNat).toInt) j) X w dJ6_getChars_ba4f3_120 (rfl) (⟨_, rfl, rfl, o_117, fun j hj => (by have hd : dN (absI nv) = 3 := (hln.2.2.1 (by omega) (by omega)); rw [s_117 j hj]; by_cases q3 : j = ((((q + (-1)) + (-1)) + (-1)) + (-1)); (rw [if_pos q3]; exact (gc_sg (v := nv) (p := q) (j := j) hd (by omega) (by omega)).symm); rw [if_neg q3]; rw [s_84 j hj]; by_cases q2 : j = (((q + (-1)) + (-1)) + (-1)); (rw [if_pos q2]; rw [gc_at (v := nv) (p := q) (j := j) (i := 3) hd (by omega) (by omega), hav, show pT 3 = 100 from rfl]; omega); rw [if_neg q2]; rw [s_68 j hj]; by_cases q1 : j = ((q + (-1)) + (-1)); (rw [if_pos q1]; rw [gc_at (v := nv) (p := q) (j := j) (i := 2) hd (by omega) (by omega), hav, show pT 2 = 10 from rfl]; omega); rw [if_neg q1]; rw [s_55 j hj]; by_cases q0 : j = (q + (-1)); (rw [if_pos q0]; rw [gc_at (v := nv) (p := q) (j := j) (i := 1) hd (by omega) (by omega), hav, show pT 1 = 1 from rfl]; omega); rw [if_neg q0]; exact (gc_off (v := nv) (p := q) (j := j) (f := fun j => (B 9 j.toNat).toInt) hd (by omega) (by omega)).symm)⟩)
          · skip
            have k_88 : ¬ ((-9) ≤ (-(ab / 100))) := fun h => c_88 ((g_le (show ((-9) : Int32).toInt = (-9) from rfl) p_31).mpr h)
            refine lv_aload_n hx hb dJ6_getChars_ba4f3_91 rfl (lv_at hl 6 rfl) ?_
            obtain ⟨x_92, e_92⟩ : ∃ z : Int32, z = (x_73 + (-1)) := ⟨_, rfl⟩
            have p_92 : x_92.toInt = ((((q + (-1)) + (-1)) + (-1)) + (-1)) := by rw [e_92]; exact t_add p_73 (show ((-1) : Int32).toInt = (-1) from rfl) (by omega) (by omega)
            refine lv_iinc (v := x_92) (lv' := [(5, .int x_92), (0, .int x_31), (4, .int x_38), (3, .int x_31), (6, .int 1), (1, .int a_q), (2, .ref (b + 41))]) hx hb dJ6_getChars_ba4f3_92 hl (k := 0) rfl (by rw [e_92]; rfl) (by decide) rfl (fun ls hl => ?_)
            refine lv_iload hx hb dJ6_getChars_ba4f3_95 (lv_at hl 0 rfl) ?_
            refine j_gets X w hZ2 fs_J6_87 dJ6_getChars_ba4f3_97 ?_
            refine lv_iload_n hx hb dJ6_getChars_ba4f3_100 rfl (lv_at hl 1 rfl) ?_
            refine lv_ineg hx hb dJ6_getChars_ba4f3_101 ?_
            refine lv_topi (fun x_101 e_101 => ?_)
            have p_101 : x_101.toInt = -(-(ab / 100)) := by rw [e_101]; exact t_neg p_31 (by omega)
            refine j_tb (v := .int (Int32.ofNat (48 + (x_101).toNatClampNeg / 10))) X w hT2 (g_in p_101 (by omega)) rfl dJ6_getChars_ba4f3_102 ?_
            refine lv_topi (fun x_102 e_102 => ?_)
            have p_102 : x_102.toInt = 48 + (-(-(ab / 100))) / 10 := by rw [e_102]; exact dg_2 p_101 (by omega)
            refine ks_9 (x := x_102) X w (g_in p_92 (by omega)) (by_x p_102 (by omega)).1 dJ6_getChars_ba4f3_103 (fun H locs w => ?_)
            rw [g_tn (show (x_92).toInt = ((((q + (-1)) + (-1)) + (-1)) + (-1)) from p_92)] at w
            obtain ⟨B_103, eB_103⟩ : ∃ z, z = va_up B_84 9 (upd (B_84 9) ((((q + (-1)) + (-1)) + (-1)) + (-1)).toNat x_102) := ⟨_, rfl⟩
            rw [← eB_103] at w
            have s_103 := st9 eB_103 (show 0 ≤ ((((q + (-1)) + (-1)) + (-1)) + (-1)) by omega) p_102
            have o_103 : kpR [9] B B_103 := by rw [eB_103]; exact kpR.up o_84 (by decide)
            refine lv_iload hx hb dJ6_getChars_ba4f3_104 (lv_at hl 4 rfl) ?_
            refine lv_if_eq (tgt := 118) hx hb dJ6_getChars_ba4f3_106 (by decide) (fun c_106 => ?_) (fun c_106 => ?_)
            · skip
              have k_106 : (1 : Int) = 0 := (g_eq (show (1 : Int32).toInt = 1 from rfl) (show (0 : Int32).toInt = 0 from rfl)).mp c_106
              omega
            · skip
              have k_106 : ¬ ((1 : Int) = 0) := fun h => c_106 ((g_eq (show (1 : Int32).toInt = 1 from rfl) (show (0 : Int32).toInt = 0 from rfl)).mpr h)
              refine lv_aload_n hx hb dJ6_getChars_ba4f3_109 rfl (lv_at hl 6 rfl) ?_
              obtain ⟨x_110, e_110⟩ : ∃ z : Int32, z = (x_92 + (-1)) := ⟨_, rfl⟩
              have p_110 : x_110.toInt = (((((q + (-1)) + (-1)) + (-1)) + (-1)) + (-1)) := by rw [e_110]; exact t_add p_92 (show ((-1) : Int32).toInt = (-1) from rfl) (by omega) (by omega)
              refine lv_iinc (v := x_110) (lv' := [(5, .int x_110), (0, .int x_31), (4, .int x_38), (3, .int x_31), (6, .int 1), (1, .int a_q), (2, .ref (b + 41))]) hx hb dJ6_getChars_ba4f3_110 hl (k := 0) rfl (by rw [e_110]; rfl) (by decide) rfl (fun ls hl => ?_)
              refine lv_iload hx hb dJ6_getChars_ba4f3_113 (lv_at hl 0 rfl) ?_
              refine lv_bipush (v := 45) hx hb dJ6_getChars_ba4f3_115 (by decide) ?_
              refine ks_9 (x := 45) X w (g_in p_110 (by omega)) (by_x (show (45 : Int32).toInt = 45 from rfl) (by omega)).1 dJ6_getChars_ba4f3_117 (fun H locs w => ?_)
              rw [g_tn (show (x_110).toInt = (((((q + (-1)) + (-1)) + (-1)) + (-1)) + (-1)) from p_110)] at w
              obtain ⟨B_117, eB_117⟩ : ∃ z, z = va_up B_103 9 (upd (B_103 9) (((((q + (-1)) + (-1)) + (-1)) + (-1)) + (-1)).toNat 45) := ⟨_, rfl⟩
              rw [← eB_117] at w
              have s_117 := st9 eB_117 (show 0 ≤ (((((q + (-1)) + (-1)) + (-1)) + (-1)) + (-1)) by omega) (show (45 : Int32).toInt = 45 from rfl)
              have o_117 : kpR [9] B B_117 := by rw [eB_117]; exact kpR.up o_103 (by decide)
              refine lv_iload hx hb dJ6_getChars_ba4f3_118 (lv_at hl 0 rfl) ?_
              exact j_iret (post := fun v A1 B1 => ∃ z, v = some (.int z) ∧ A1 = A ∧ kpR [9] B B1 ∧ ∀ j : Int, 0 ≤ j → (B1 9 j.toNat).toInt = gcF nv q (fun j => (B 9 j.toNat).toInt) j) X w dJ6_getChars_ba4f3_120 (rfl) (⟨_, rfl, rfl, o_117, fun j hj => (by have hd : dN (absI nv) = 4 := (hln.2.2.2 (by omega)); rw [s_117 j hj]; by_cases q4 : j = (((((q + (-1)) + (-1)) + (-1)) + (-1)) + (-1)); (rw [if_pos q4]; exact (gc_sg (v := nv) (p := q) (j := j) hd (by omega) (by omega)).symm); rw [if_neg q4]; rw [s_103 j hj]; by_cases q3 : j = ((((q + (-1)) + (-1)) + (-1)) + (-1)); (rw [if_pos q3]; rw [gc_at (v := nv) (p := q) (j := j) (i := 4) hd (by omega) (by omega), hav, show pT 4 = 1000 from rfl]; omega); rw [if_neg q3]; rw [s_84 j hj]; by_cases q2 : j = (((q + (-1)) + (-1)) + (-1)); (rw [if_pos q2]; rw [gc_at (v := nv) (p := q) (j := j) (i := 3) hd (by omega) (by omega), hav, show pT 3 = 100 from rfl]; omega); rw [if_neg q2]; rw [s_68 j hj]; by_cases q1 : j = ((q + (-1)) + (-1)); (rw [if_pos q1]; rw [gc_at (v := nv) (p := q) (j := j) (i := 2) hd (by omega) (by omega), hav, show pT 2 = 10 from rfl]; omega); rw [if_neg q1]; rw [s_55 j hj]; by_cases q0 : j = (q + (-1)); (rw [if_pos q0]; rw [gc_at (v := nv) (p := q) (j := j) (i := 1) hd (by omega) (by omega), hav, show pT 1 = 1 from rfl]; omega); rw [if_neg q0]; exact (gc_off (v := nv) (p := q) (j := j) (f := fun j => (B 9 j.toNat).toInt) hd (by omega) (by omega)).symm)⟩)
        · skip
          have k_25 : ¬ ((-100) < (-(ab / 100))) := fun h => c_25 ((g_lt (show ((-100) : Int32).toInt = (-100) from rfl) p_31).mpr h)
          omega
    · skip
      have k_16 : (1 : Int) = 0 := (g_eq (show (1 : Int32).toInt = 1 from rfl) (show (0 : Int32).toInt = 0 from rfl)).mp c_16
      omega

set_option maxHeartbeats 2000000 in
set_option maxRecDepth 100000 in
theorem c_J5_append_c97b9 (l : Launch) (D : va_G) (t : Nat → ClassId) (b n : Nat) (σ0 : qM) (A : Nat → Int32) (B : Nat → Nat → Int32) (P : Nat → Nat → Option Nat) (a_nv : Int32) (nv : Int) (e_nv : a_nv.toInt = nv) (sg : Int × (Int → Int)) (h_s : sbQ A B sg) (h_1 : -9999 ≤ nv ∧ nv ≤ 9999) (h_2 : 0 ≤ sg.1 ∧ sg.1 + ((if nv < 0 then 1 else 0) + dN (absI nv)) ≤ 16) : jM l yJ5_append_c97b9 cJ5_append_c97b9 4 (some (.object "java/lang/AbstractStringBuilder")) 1 D t b n σ0 A B P [.ref (b + 40), .int a_nv] (fun v A1 B1 => v = some (.ref (b + 40)) ∧ kpI [37] A A1 ∧ kpR [9] B B1 ∧ sbQ A1 B1 (apI sg nv)) := by
  refine jM.of (by decide +kernel) (Nat.le_of_ble_eq_true rfl) (fun p e s m args below meth c X hS w ls hl => ?_)
  have hx := X.1
  have hb := X.2.1
  have hl : lv_has ls 4 [(0, .ref (b + 40)), (1, .int a_nv)] := hl
  have hc1 := h_s.1
  have hdb := dN_bd (absI nv)
  obtain ⟨ln, hln⟩ : ∃ z : Int, z = (if nv < 0 then 1 else 0) + dN (absI nv) := ⟨_, rfl⟩
  have hl5 : 0 ≤ ln ∧ ln ≤ 5 := by rw [hln]; split <;> omega
  have h_2 : 0 ≤ sg.1 ∧ sg.1 + ln ≤ 16 := by rw [hln]; exact h_2
  refine lv_aload_n hx hb dJ5_append_c97b9_0 rfl (lv_at hl 0 rfl) ?_
  refine kg_sb_count X w dJ5_append_c97b9_1 ?_
  refine lv_istore_n (lv' := [(2, .int (A 37)), (0, .ref (b + 40)), (1, .int a_nv)]) hx hb dJ5_append_c97b9_4 rfl hl (by decide) rfl (fun ls hl => ?_)
  refine lv_iload_n hx hb dJ5_append_c97b9_5 rfl (lv_at hl 0 rfl) ?_
  refine lv_iload_n hx hb dJ5_append_c97b9_6 rfl (lv_at hl 2 rfl) ?_
  refine q_cPS X w (c_J6_stringSize_0f7a4 l a_nv nv e_nv (by first | assumption | omega) D t b n _) v_J5_245 rfl ⟨Nat.le_of_ble_eq_true rfl, Nat.le_of_ble_eq_true rfl⟩ rfl hl.1 (Nat.le_of_ble_eq_true rfl) dJ5_append_c97b9_7 ⟨Nat.zero_le _, Nat.zero_le _⟩ (fun r_7 z_7 => ?_)
  skip
  refine lv_iadd hx hb dJ5_append_c97b9_10 ?_
  refine lv_topi (fun x_10 e_10 => ?_)
  have p_10 : x_10.toInt = (((A 37).toInt) + ln) := by rw [e_10]; exact t_add rfl (z_7.trans hln.symm) (by omega) (by omega)
  refine lv_istore_n (lv' := [(3, .int x_10), (2, .int (A 37)), (0, .ref (b + 40)), (1, .int a_nv)]) hx hb dJ5_append_c97b9_11 rfl hl (by decide) rfl (fun ls hl => ?_)
  refine lv_aload_n hx hb dJ5_append_c97b9_12 rfl (lv_at hl 2 rfl) ?_
  refine lv_iload_n hx hb dJ5_append_c97b9_13 rfl (lv_at hl 0 rfl) ?_
  refine j_cU X hS w (c_J5_ensureCapacityInternal_d00df l D t b n σ0 A B P x_10 (((A 37).toInt) + ln) p_10 (by omega)) u_J5_100 (va_Nw.use rfl hS.2.2.2.2) rfl ⟨Nat.le_of_ble_eq_true rfl, Nat.le_of_ble_eq_true rfl⟩ rfl hl.1 (Nat.le_of_ble_eq_true rfl) dJ5_append_c97b9_14 ⟨Nat.le_of_ble_eq_true rfl, Nat.le_of_ble_eq_true rfl⟩ (fun v_14 A_14 B_14 H locs z_14 w => ?_)
  obtain ⟨rfl, ez1, ez2⟩ := z_14
  rw [ez1, ez2] at w
  show W _ _ _ _ _ _ _ _ _ _ _ _ _ _ _ (F0 _ _ _ ([]))
  refine lv_aload_n hx hb dJ5_append_c97b9_17 rfl (lv_at hl 2 rfl) ?_
  refine j_cU X hS w (c_J5_isLatin1_aae02 l D t b n σ0 A B P) u_J5_83 (X.2.2.1 _ se_J5_isLatin1) rfl ⟨Nat.le_of_ble_eq_true rfl, Nat.le_of_ble_eq_true rfl⟩ rfl hl.1 (Nat.le_of_ble_eq_true rfl) dJ5_append_c97b9_18 ⟨Nat.le_of_ble_eq_true rfl, Nat.le_of_ble_eq_true rfl⟩ (fun v_18 A_18 B_18 H locs z_18 w => ?_)
  obtain ⟨rfl, ez1, ez2⟩ := z_18
  rw [ez1, ez2] at w
  show W _ _ _ _ _ _ _ _ _ _ _ _ _ _ _ (F0 _ _ _ ([.int 1]))
  refine lv_if_eq (tgt := 37) hx hb dJ5_append_c97b9_21 (by decide) (fun c_21 => ?_) (fun c_21 => ?_)
  · skip
    have k_21 : (1 : Int) = 0 := (g_eq (show (1 : Int32).toInt = 1 from rfl) (show (0 : Int32).toInt = 0 from rfl)).mp c_21
    omega
  · skip
    have k_21 : ¬ ((1 : Int) = 0) := fun h => c_21 ((g_eq (show (1 : Int32).toInt = 1 from rfl) (show (0 : Int32).toInt = 0 from rfl)).mpr h)
    refine lv_iload_n hx hb dJ5_append_c97b9_24 rfl (lv_at hl 3 rfl) ?_
    refine lv_iload_n hx hb dJ5_append_c97b9_25 rfl (lv_at hl 0 rfl) ?_
    refine lv_aload_n hx hb dJ5_append_c97b9_26 rfl (lv_at hl 2 rfl) ?_
    refine kg_sb_value X w dJ5_append_c97b9_27 ?_
    refine j_cS X hS w (c_J6_getChars_ba4f3 l D t b n σ0 A B P a_nv nv e_nv x_10 (((A 37).toInt) + ln) p_10 (by omega) (by rw [← hln]; omega)) v_J5_248 rfl ⟨Nat.le_of_ble_eq_true rfl, Nat.le_of_ble_eq_true rfl⟩ rfl hl.1 (Nat.le_of_ble_eq_true rfl) dJ5_append_c97b9_30 ⟨Nat.le_of_ble_eq_true rfl, Nat.le_of_ble_eq_true rfl⟩ (fun v_30 A_30 B_30 H locs z_30 w => ?_)
    obtain ⟨z_30, rfl, ez1, op_30, os_30⟩ := z_30
    rw [ez1] at w
    show W _ _ _ _ _ _ _ _ _ _ _ _ _ _ _ (F0 _ _ _ ([.int z_30]))
    refine lv_pop hx hb dJ5_append_c97b9_33 rfl ?_
    refine lv_goto (tgt := 48) hx hb dJ5_append_c97b9_34 (by decide) ?_
    refine lv_aload_n hx hb dJ5_append_c97b9_48 rfl (lv_at hl 2 rfl) ?_
    refine lv_iload_n hx hb dJ5_append_c97b9_49 rfl (lv_at hl 0 rfl) ?_
    refine kp_sb_count (v := x_10) X w dJ5_append_c97b9_50 (fun H locs w => ?_)
    refine lv_aload_n hx hb dJ5_append_c97b9_53 rfl (lv_at hl 2 rfl) ?_
    exact j_aret (post := fun v A1 B1 => v = some (.ref (b + 40)) ∧ kpI [37] A A1 ∧ kpR [9] B B1 ∧ sbQ A1 B1 (apI sg nv)) X w (Or.inl ⟨_, rfl⟩) dJ5_append_c97b9_54 (⟨rfl, kpI.up kpI.rf (by decide), op_30, sbQ_i h_s h_2.1 (by rw [← hln, hc1]) p_10 os_30⟩)

set_option maxHeartbeats 2000000 in
set_option maxRecDepth 100000 in
theorem c_J3_checkIndex_n (l : Launch) (D : va_G) (t : Nat → ClassId) (b n : Nat) (σ0 : qM) (A : Nat → Int32) (B : Nat → Nat → Int32) (P : Nat → Nat → Option Nat) (a_i a_m : Int32) (im mm : Int) (e_i : a_i.toInt = im) (e_m : a_m.toInt = mm) (h_1 : 0 ≤ im ∧ im < mm) : jM l yJ3_checkIndex_8e157 cJ3_checkIndex_8e157 3 (some .int) 0 D t b n σ0 A B P [.int a_i, .int a_m, .null] (fun v A1 B1 => v = some (.int a_i) ∧ A1 = A ∧ B1 = B) := by
  refine jM.of (by decide +kernel) (Nat.le_of_ble_eq_true rfl) (fun p e s m args below meth c X hS w ls hl => ?_)
  have hx := X.1
  have hb := X.2.1
  have hl : lv_has ls 3 [(0, .int a_i), (1, .int a_m), (2, .null)] := hl
  refine lv_iload_n hx hb dJ3_checkIndex_8e157_0 rfl (lv_at hl 0 rfl) ?_
  refine lv_if_lt (tgt := 9) hx hb dJ3_checkIndex_8e157_1 (by decide) (fun c_1 => ?_) (fun c_1 => ?_)
  · skip
    have k_1 : im < 0 := (g_lt e_i (show (0 : Int32).toInt = 0 from rfl)).mp c_1
    omega
  · skip
    have k_1 : ¬ (im < 0) := fun h => c_1 ((g_lt e_i (show (0 : Int32).toInt = 0 from rfl)).mpr h)
    refine lv_iload_n hx hb dJ3_checkIndex_8e157_4 rfl (lv_at hl 0 rfl) ?_
    refine lv_iload_n hx hb dJ3_checkIndex_8e157_5 rfl (lv_at hl 1 rfl) ?_
    refine lv_icmp_lt (tgt := 16) hx hb dJ3_checkIndex_8e157_6 (by decide) (fun c_6 => ?_) (fun c_6 => ?_)
    · skip
      have k_6 : im < mm := (g_lt e_i e_m).mp c_6
      refine lv_iload_n hx hb dJ3_checkIndex_8e157_16 rfl (lv_at hl 0 rfl) ?_
      exact j_iret (post := fun v A1 B1 => v = some (.int a_i) ∧ A1 = A ∧ B1 = B) X w dJ3_checkIndex_8e157_17 (rfl) (⟨rfl, rfl, rfl⟩)
    · skip
      have k_6 : ¬ (im < mm) := fun h => c_6 ((g_lt e_i e_m).mpr h)
      omega

set_option maxHeartbeats 2000000 in
set_option maxRecDepth 100000 in
theorem c_J3_checkIndex_r (l : Launch) (D : va_G) (t : Nat → ClassId) (b n : Nat) (σ0 : qM) (A : Nat → Int32) (B : Nat → Nat → Int32) (P : Nat → Nat → Option Nat) (tz : Nat) (a_i a_m : Int32) (im mm : Int) (e_i : a_i.toInt = im) (e_m : a_m.toInt = mm) (h_1 : 0 ≤ im ∧ im < mm) : jM l yJ3_checkIndex_8e157 cJ3_checkIndex_8e157 3 (some .int) 0 D t b n σ0 A B P [.int a_i, .int a_m, .ref tz] (fun v A1 B1 => v = some (.int a_i) ∧ A1 = A ∧ B1 = B) := by
  refine jM.of (by decide +kernel) (Nat.le_of_ble_eq_true rfl) (fun p e s m args below meth c X hS w ls hl => ?_)
  have hx := X.1
  have hb := X.2.1
  have hl : lv_has ls 3 [(0, .int a_i), (1, .int a_m), (2, .ref tz)] := hl
  refine lv_iload_n hx hb dJ3_checkIndex_8e157_0 rfl (lv_at hl 0 rfl) ?_
  refine lv_if_lt (tgt := 9) hx hb dJ3_checkIndex_8e157_1 (by decide) (fun c_1 => ?_) (fun c_1 => ?_)
  · skip
    have k_1 : im < 0 := (g_lt e_i (show (0 : Int32).toInt = 0 from rfl)).mp c_1
    omega
  · skip
    have k_1 : ¬ (im < 0) := fun h => c_1 ((g_lt e_i (show (0 : Int32).toInt = 0 from rfl)).mpr h)
    refine lv_iload_n hx hb dJ3_checkIndex_8e157_4 rfl (lv_at hl 0 rfl) ?_
    refine lv_iload_n hx hb dJ3_checkIndex_8e157_5 rfl (lv_at hl 1 rfl) ?_
    refine lv_icmp_lt (tgt := 16) hx hb dJ3_checkIndex_8e157_6 (by decide) (fun c_6 => ?_) (fun c_6 => ?_)
    · skip
      have k_6 : im < mm := (g_lt e_i e_m).mp c_6
      refine lv_iload_n hx hb dJ3_checkIndex_8e157_16 rfl (lv_at hl 0 rfl) ?_
      exact j_iret (post := fun v A1 B1 => v = some (.int a_i) ∧ A1 = A ∧ B1 = B) X w dJ3_checkIndex_8e157_17 (rfl) (⟨rfl, rfl, rfl⟩)
    · skip
      have k_6 : ¬ (im < mm) := fun h => c_6 ((g_lt e_i e_m).mpr h)
      omega

set_option maxHeartbeats 2000000 in
set_option maxRecDepth 100000 in
theorem c_J0_checkIndex_df160 (l : Launch) (D : va_G) (t : Nat → ClassId) (b n : Nat) (σ0 : qM) (A : Nat → Int32) (B : Nat → Nat → Int32) (P : Nat → Nat → Option Nat) (a_i a_m : Int32) (im mm : Int) (e_i : a_i.toInt = im) (e_m : a_m.toInt = mm) (h_1 : 0 ≤ im ∧ im < mm) : jM l yJ0_checkIndex_df160 cJ0_checkIndex_df160 2 none 1 D t b n σ0 A B P [.int a_i, .int a_m] (fun v A1 B1 => v = none ∧ A1 = A ∧ B1 = B) := by
  refine jM.of (by decide +kernel) (Nat.le_of_ble_eq_true rfl) (fun p e s m args below meth c X hS w ls hl => ?_)
  have hx := X.1
  have hb := X.2.1
  have hl : lv_has ls 2 [(0, .int a_i), (1, .int a_m)] := hl
  refine lv_iload_n hx hb dJ0_checkIndex_df160_0 rfl (lv_at hl 0 rfl) ?_
  refine lv_iload_n hx hb dJ0_checkIndex_df160_1 rfl (lv_at hl 1 rfl) ?_
  rcases hS.2.2.2.1 with hZ | ⟨tz, hZ⟩
  · refine j_gets X w hZ fs_J0_1053 dJ0_checkIndex_df160_2 ?_
    refine j_cS X hS w (c_J3_checkIndex_n l D t b n σ0 A B P a_i a_m im mm e_i e_m h_1) v_J0_1059 rfl ⟨Nat.le_of_ble_eq_true rfl, Nat.le_of_ble_eq_true rfl⟩ rfl hl.1 (Nat.le_of_ble_eq_true rfl) dJ0_checkIndex_df160_5 ⟨Nat.le_of_ble_eq_true rfl, Nat.le_of_ble_eq_true rfl⟩ (fun v_5 A_5 B_5 H locs z_5 w => ?_)
    obtain ⟨rfl, ez1, ez2⟩ := z_5
    rw [ez1, ez2] at w
    show W _ _ _ _ _ _ _ _ _ _ _ _ _ _ _ (F0 _ _ _ ([.int a_i]))
    refine lv_pop hx hb dJ0_checkIndex_df160_8 rfl ?_
    exact j_vret (post := fun v A1 B1 => v = none ∧ A1 = A ∧ B1 = B) X w dJ0_checkIndex_df160_9 (⟨rfl, rfl, rfl⟩)
  · refine j_gets X w hZ fs_J0_1053 dJ0_checkIndex_df160_2 ?_
    refine j_cS X hS w (c_J3_checkIndex_r l D t b n σ0 A B P tz a_i a_m im mm e_i e_m h_1) v_J0_1059 rfl ⟨Nat.le_of_ble_eq_true rfl, Nat.le_of_ble_eq_true rfl⟩ rfl hl.1 (Nat.le_of_ble_eq_true rfl) dJ0_checkIndex_df160_5 ⟨Nat.le_of_ble_eq_true rfl, Nat.le_of_ble_eq_true rfl⟩ (fun v_5 A_5 B_5 H locs z_5 w => ?_)
    obtain ⟨rfl, ez1, ez2⟩ := z_5
    rw [ez1, ez2] at w
    show W _ _ _ _ _ _ _ _ _ _ _ _ _ _ _ (F0 _ _ _ ([.int a_i]))
    refine lv_pop hx hb dJ0_checkIndex_df160_8 rfl ?_
    exact j_vret (post := fun v A1 B1 => v = none ∧ A1 = A ∧ B1 = B) X w dJ0_checkIndex_df160_9 (⟨rfl, rfl, rfl⟩)

set_option maxHeartbeats 2000000 in
set_option maxRecDepth 100000 in
theorem c_J5_charAt_5068e (l : Launch) (D : va_G) (t : Nat → ClassId) (b n : Nat) (σ0 : qM) (A : Nat → Int32) (B : Nat → Nat → Int32) (P : Nat → Nat → Option Nat) (a_ix : Int32) (ix : Int) (e_ix : a_ix.toInt = ix) (h_1 : 0 ≤ ix ∧ ix < (A 37).toInt) (h_2 : (A 37).toInt ≤ 16) (h_3 : 0 ≤ (B 9 ix.toNat).toInt ∧ (B 9 ix.toNat).toInt < 128) : jM l yJ5_charAt_5068e cJ5_charAt_5068e 5 (some .char) 2 D t b n σ0 A B P [.ref (b + 40), .int a_ix] (fun v A1 B1 => v = some (.int (B 9 ix.toNat)) ∧ A1 = A ∧ B1 = B) := by
  refine jM.of (by decide +kernel) (Nat.le_of_ble_eq_true rfl) (fun p e s m args below meth c X hS w ls hl => ?_)
  have hx := X.1
  have hb := X.2.1
  have hl : lv_has ls 5 [(0, .ref (b + 40)), (1, .int a_ix)] := hl
  refine lv_aload_n hx hb dJ5_charAt_5068e_0 rfl (lv_at hl 0 rfl) ?_
  refine kg_sb_coder X w dJ5_charAt_5068e_1 ?_
  refine lv_istore_n (lv' := [(2, .int 0), (0, .ref (b + 40)), (1, .int a_ix)]) hx hb dJ5_charAt_5068e_4 rfl hl (by decide) rfl (fun ls hl => ?_)
  refine lv_aload_n hx hb dJ5_charAt_5068e_5 rfl (lv_at hl 1 rfl) ?_
  refine kg_sb_value X w dJ5_charAt_5068e_6 ?_
  refine lv_astore_n (lv' := [(3, .ref (b + 41)), (2, .int 0), (0, .ref (b + 40)), (1, .int a_ix)]) hx hb dJ5_charAt_5068e_9 rfl hl (by decide) rfl (fun ls hl => ?_)
  refine lv_aload_n hx hb dJ5_charAt_5068e_10 rfl (lv_at hl 2 rfl) ?_
  refine kg_sb_count X w dJ5_charAt_5068e_11 ?_
  refine lv_aload_n hx hb dJ5_charAt_5068e_14 rfl (lv_at hl 0 rfl) ?_
  refine kn_9 X w dJ5_charAt_5068e_15 ?_
  refine lv_iload_n hx hb dJ5_charAt_5068e_16 rfl (lv_at hl 1 rfl) ?_
  refine lv_ishr hx hb dJ5_charAt_5068e_17 ?_
  refine lv_topi (fun x_17 e_17 => ?_)
  have p_17 : x_17.toInt = 16 := by rw [e_17]; decide
  refine q_min X ml_J5_138 ⟨Nat.le_of_ble_eq_true rfl, Nat.le_of_ble_eq_true rfl⟩ ⟨Nat.le_of_ble_eq_true rfl, Nat.le_of_ble_eq_true rfl⟩ hl.1 (Nat.le_of_ble_eq_true rfl) dJ5_charAt_5068e_18 (fun r_18 z_18 => ?_)
  have p_18 : r_18.toInt = (A 37).toInt := by rw [z_18, show Int32.toInt _ = (A 37).toInt from rfl, show Int32.toInt _ = 16 from p_17]; split <;> omega
  refine lv_istore (lv' := [(4, .int r_18), (3, .ref (b + 41)), (2, .int 0), (0, .ref (b + 40)), (1, .int a_ix)]) hx hb dJ5_charAt_5068e_21 hl (by decide) rfl (fun ls hl => ?_)
  refine lv_iload_n hx hb dJ5_charAt_5068e_23 rfl (lv_at hl 4 rfl) ?_
  refine lv_iload hx hb dJ5_charAt_5068e_24 (lv_at hl 0 rfl) ?_
  refine j_cS X hS w (c_J0_checkIndex_df160 l D t b n σ0 A B P a_ix r_18 ix ((A 37).toInt) e_ix p_18 (by omega)) v_J5_144 rfl ⟨Nat.le_of_ble_eq_true rfl, Nat.le_of_ble_eq_true rfl⟩ rfl hl.1 (Nat.le_of_ble_eq_true rfl) dJ5_charAt_5068e_26 ⟨Nat.le_of_ble_eq_true rfl, Nat.le_of_ble_eq_true rfl⟩ (fun v_26 A_26 B_26 H locs z_26 w => ?_)
  obtain ⟨rfl, ez1, ez2⟩ := z_26
  rw [ez1, ez2] at w
  show W _ _ _ _ _ _ _ _ _ _ _ _ _ _ _ (F0 _ _ _ ([]))
  refine lv_iload_n hx hb dJ5_charAt_5068e_29 rfl (lv_at hl 2 rfl) ?_
  refine lv_if_ne (tgt := 42) hx hb dJ5_charAt_5068e_30 (by decide) (fun c_30 => ?_) (fun c_30 => ?_)
  · skip
    have k_30 : ¬ ((0 : Int) = 0) := fun h => c_30 ((g_eq (show (0 : Int32).toInt = 0 from rfl) (show (0 : Int32).toInt = 0 from rfl)).mpr h)
    omega
  · skip
    have k_30 : (0 : Int) = 0 := (g_eq (show (0 : Int32).toInt = 0 from rfl) (show (0 : Int32).toInt = 0 from rfl)).mp c_30
    refine lv_aload_n hx hb dJ5_charAt_5068e_33 rfl (lv_at hl 1 rfl) ?_
    refine lv_iload_n hx hb dJ5_charAt_5068e_34 rfl (lv_at hl 4 rfl) ?_
    refine kl_9 X w (g_in e_ix (by omega)) dJ5_charAt_5068e_35 ?_
    refine q_topE (y := B 9 ix.toNat) (congrArg (B 9) (g_tn e_ix)) ?_
    refine lv_sipush (v := 255) hx hb dJ5_charAt_5068e_36 (by decide) ?_
    refine lv_iand hx hb dJ5_charAt_5068e_39 ?_
    refine lv_topi (fun x_39 e_39 => ?_)
    have p_39 : x_39.toInt = (B 9 ix.toNat).toInt := by rw [e_39]; exact (congrArg Int32.toInt (by_x (x := (B 9 ix.toNat)) rfl h_3).2.2)
    refine lv_i2c hx hb dJ5_charAt_5068e_40 rfl ?_
    refine lv_topi (fun x_40 e_40 => ?_)
    have p_40 : x_40.toInt = (B 9 ix.toNat).toInt := by rw [e_40]; exact (congrArg Int32.toInt (ch_x (x := x_39) p_39 h_3.1 h_3.2).1).trans p_39
    exact j_iret (post := fun v A1 B1 => v = some (.int (B 9 ix.toNat)) ∧ A1 = A ∧ B1 = B) X w dJ5_charAt_5068e_41 ((by show Value.int (vp_nar .char x_40) = _; rw [(ch_x (x := x_40) p_40 h_3.1 h_3.2).2])) (⟨by rw [Int32.toInt_inj.mp p_40], rfl, rfl⟩)

set_option maxHeartbeats 2000000 in
set_option maxRecDepth 100000 in
theorem c_J4_length_8abf5 (l : Launch) (D : va_G) (t : Nat → ClassId) (b n : Nat) (σ0 : qM) (A : Nat → Int32) (B : Nat → Nat → Int32) (P : Nat → Nat → Option Nat)  : jM l yJ4_length_8abf5 cJ4_length_8abf5 1 (some .int) 1 D t b n σ0 A B P [.ref (b + 40)] (fun v A1 B1 => v = some (.int (A 37)) ∧ A1 = A ∧ B1 = B) := by
  refine jM.of (by decide +kernel) (Nat.le_of_ble_eq_true rfl) (fun p e s m args below meth c X hS w ls hl => ?_)
  have hx := X.1
  have hb := X.2.1
  have hl : lv_has ls 1 [(0, .ref (b + 40))] := hl
  refine lv_aload_n hx hb dJ4_length_8abf5_0 rfl (lv_at hl 0 rfl) ?_
  refine j_cSU X hS w (c_J5_length_8abf5 l D t b n σ0 A B P) u_J4_343 rfl ⟨Nat.le_of_ble_eq_true rfl, Nat.le_of_ble_eq_true rfl⟩ rfl hl.1 (Nat.le_of_ble_eq_true rfl) dJ4_length_8abf5_1 ⟨Nat.le_of_ble_eq_true rfl, Nat.le_of_ble_eq_true rfl⟩ (fun v_1 A_1 B_1 H locs z_1 w => ?_)
  obtain ⟨rfl, ez1, ez2⟩ := z_1
  rw [ez1, ez2] at w
  show W _ _ _ _ _ _ _ _ _ _ _ _ _ _ _ (F0 _ _ _ ([.int (A 37)]))
  exact j_iret (post := fun v A1 B1 => v = some (.int (A 37)) ∧ A1 = A ∧ B1 = B) X w dJ4_length_8abf5_4 (rfl) (⟨rfl, rfl, rfl⟩)

set_option maxHeartbeats 2000000 in
set_option maxRecDepth 100000 in
theorem c_J4_charAt_5068e (l : Launch) (D : va_G) (t : Nat → ClassId) (b n : Nat) (σ0 : qM) (A : Nat → Int32) (B : Nat → Nat → Int32) (P : Nat → Nat → Option Nat) (a_ix : Int32) (ix : Int) (e_ix : a_ix.toInt = ix) (h_1 : 0 ≤ ix ∧ ix < (A 37).toInt) (h_2 : (A 37).toInt ≤ 16) (h_3 : 0 ≤ (B 9 ix.toNat).toInt ∧ (B 9 ix.toNat).toInt < 128) : jM l yJ4_charAt_5068e cJ4_charAt_5068e 2 (some .char) 3 D t b n σ0 A B P [.ref (b + 40), .int a_ix] (fun v A1 B1 => v = some (.int (B 9 ix.toNat)) ∧ A1 = A ∧ B1 = B) := by
  refine jM.of (by decide +kernel) (Nat.le_of_ble_eq_true rfl) (fun p e s m args below meth c X hS w ls hl => ?_)
  have hx := X.1
  have hb := X.2.1
  have hl : lv_has ls 2 [(0, .ref (b + 40)), (1, .int a_ix)] := hl
  refine lv_aload_n hx hb dJ4_charAt_5068e_0 rfl (lv_at hl 0 rfl) ?_
  refine lv_iload_n hx hb dJ4_charAt_5068e_1 rfl (lv_at hl 1 rfl) ?_
  refine j_cSU X hS w (c_J5_charAt_5068e l D t b n σ0 A B P a_ix ix e_ix h_1 h_2 h_3) u_J4_329 rfl ⟨Nat.le_of_ble_eq_true rfl, Nat.le_of_ble_eq_true rfl⟩ rfl hl.1 (Nat.le_of_ble_eq_true rfl) dJ4_charAt_5068e_2 ⟨Nat.le_of_ble_eq_true rfl, Nat.le_of_ble_eq_true rfl⟩ (fun v_2 A_2 B_2 H locs z_2 w => ?_)
  obtain ⟨rfl, ez1, ez2⟩ := z_2
  rw [ez1, ez2] at w
  show W _ _ _ _ _ _ _ _ _ _ _ _ _ _ _ (F0 _ _ _ ([.int (B 9 ix.toNat)]))
  exact j_iret (post := fun v A1 B1 => v = some (.int (B 9 ix.toNat)) ∧ A1 = A ∧ B1 = B) X w dJ4_charAt_5068e_5 (by show Value.int (vp_nar .char _) = _; rw [(ch_x (x := B 9 ix.toNat) rfl h_3.1 h_3.2).2]) (⟨rfl, rfl, rfl⟩)

set_option maxHeartbeats 2000000 in
set_option maxRecDepth 100000 in
theorem c_J4_setLength_d00df (l : Launch) (D : va_G) (t : Nat → ClassId) (b n : Nat) (σ0 : qM) (A : Nat → Int32) (B : Nat → Nat → Int32) (P : Nat → Nat → Option Nat) (h_1 : 0 ≤ (A 37).toInt ∧ (A 37).toInt ≤ 16) : jM l yJ4_setLength_d00df cJ4_setLength_d00df 2 none 2 D t b n σ0 A B P [.ref (b + 40), .int 0] (fun v A1 B1 => v = none ∧ kpI [37, 38] A A1 ∧ A1 37 = 0 ∧ B1 = B) := by
  refine jM.of (by decide +kernel) (Nat.le_of_ble_eq_true rfl) (fun p e s m args below meth c X hS w ls hl => ?_)
  have hx := X.1
  have hb := X.2.1
  have hl : lv_has ls 2 [(0, .ref (b + 40)), (1, .int 0)] := hl
  refine lv_aload_n hx hb dJ4_setLength_d00df_0 rfl (lv_at hl 0 rfl) ?_
  refine lv_iload_n hx hb dJ4_setLength_d00df_1 rfl (lv_at hl 1 rfl) ?_
  refine j_cSU X hS w (c_J5_setLength_d00df l D t b n σ0 A B P h_1) u_J4_333 rfl ⟨Nat.le_of_ble_eq_true rfl, Nat.le_of_ble_eq_true rfl⟩ rfl hl.1 (Nat.le_of_ble_eq_true rfl) dJ4_setLength_d00df_2 ⟨Nat.le_of_ble_eq_true rfl, Nat.le_of_ble_eq_true rfl⟩ (fun v_2 A_2 B_2 H locs z_2 w => ?_)
  obtain ⟨rfl, zk, z0, ez2⟩ := z_2
  rw [ez2] at w
  show W _ _ _ _ _ _ _ _ _ _ _ _ _ _ _ (F0 _ _ _ ([]))
  exact j_vret (post := fun v A1 B1 => v = none ∧ kpI [37, 38] A A1 ∧ A1 37 = 0 ∧ B1 = B) X w dJ4_setLength_d00df_5 (⟨rfl, zk, z0, rfl⟩)

set_option maxHeartbeats 2000000 in
set_option maxRecDepth 100000 in
theorem c_J4_append_cf468 (l : Launch) (D : va_G) (t : Nat → ClassId) (b n : Nat) (σ0 : qM) (A : Nat → Int32) (B : Nat → Nat → Int32) (P : Nat → Nat → Option Nat) (a_q : Int32) (q : Int) (e_q : a_q.toInt = q) (sg : Int × (Int → Int)) (h_s : sbQ A B sg) (h_1 : 0 ≤ q ∧ q < 128) (h_2 : 0 ≤ sg.1 ∧ sg.1 + 1 ≤ 16) : jM l yJ4_append_cf468 cJ4_append_cf468 2 (some (.object "java/lang/StringBuilder")) 2 D t b n σ0 A B P [.ref (b + 40), .int a_q] (fun v A1 B1 => v = some (.ref (b + 40)) ∧ kpI [37] A A1 ∧ kpR [9] B B1 ∧ sbQ A1 B1 (ad sg 1 (fun _ => q))) := by
  refine jM.of (by decide +kernel) (Nat.le_of_ble_eq_true rfl) (fun p e s m args below meth c X hS w ls hl => ?_)
  have hx := X.1
  have hb := X.2.1
  have hl : lv_has ls 2 [(0, .ref (b + 40)), (1, .int a_q)] := hl
  refine lv_aload_n hx hb dJ4_append_cf468_0 rfl (lv_at hl 0 rfl) ?_
  refine lv_iload_n hx hb dJ4_append_cf468_1 rfl (lv_at hl 1 rfl) ?_
  refine j_cSU X hS w (c_J5_append_3fe6f l D t b n σ0 A B P a_q q e_q sg h_s h_1 h_2) u_J4_50 rfl ⟨Nat.le_of_ble_eq_true rfl, Nat.le_of_ble_eq_true rfl⟩ rfl hl.1 (Nat.le_of_ble_eq_true rfl) dJ4_append_cf468_2 ⟨Nat.le_of_ble_eq_true rfl, Nat.le_of_ble_eq_true rfl⟩ (fun v_2 A_2 B_2 H locs z_2 w => ?_)
  obtain ⟨rfl, zk, zr, zs⟩ := z_2
  show W _ _ _ _ _ _ _ _ _ _ _ _ _ _ _ (F0 _ _ _ ([.ref (b + 40)]))
  refine lv_pop hx hb dJ4_append_cf468_5 rfl ?_
  refine lv_aload_n hx hb dJ4_append_cf468_6 rfl (lv_at hl 0 rfl) ?_
  exact j_aret (post := fun v A1 B1 => v = some (.ref (b + 40)) ∧ kpI [37] A A1 ∧ kpR [9] B B1 ∧ sbQ A1 B1 (ad sg 1 (fun _ => q))) X w (Or.inl ⟨_, rfl⟩) dJ4_append_cf468_7 (⟨rfl, zk, zr, zs⟩)

set_option maxHeartbeats 2000000 in
set_option maxRecDepth 100000 in
theorem c_J4_append_bf812 (l : Launch) (D : va_G) (t : Nat → ClassId) (b n : Nat) (σ0 : qM) (A : Nat → Int32) (B : Nat → Nat → Int32) (P : Nat → Nat → Option Nat) (a_nv : Int32) (nv : Int) (e_nv : a_nv.toInt = nv) (sg : Int × (Int → Int)) (h_s : sbQ A B sg) (h_1 : -9999 ≤ nv ∧ nv ≤ 9999) (h_2 : 0 ≤ sg.1 ∧ sg.1 + ((if nv < 0 then 1 else 0) + dN (absI nv)) ≤ 16) : jM l yJ4_append_bf812 cJ4_append_bf812 2 (some (.object "java/lang/StringBuilder")) 2 D t b n σ0 A B P [.ref (b + 40), .int a_nv] (fun v A1 B1 => v = some (.ref (b + 40)) ∧ kpI [37] A A1 ∧ kpR [9] B B1 ∧ sbQ A1 B1 (apI sg nv)) := by
  refine jM.of (by decide +kernel) (Nat.le_of_ble_eq_true rfl) (fun p e s m args below meth c X hS w ls hl => ?_)
  have hx := X.1
  have hb := X.2.1
  have hl : lv_has ls 2 [(0, .ref (b + 40)), (1, .int a_nv)] := hl
  refine lv_aload_n hx hb dJ4_append_bf812_0 rfl (lv_at hl 0 rfl) ?_
  refine lv_iload_n hx hb dJ4_append_bf812_1 rfl (lv_at hl 1 rfl) ?_
  refine j_cSU X hS w (c_J5_append_c97b9 l D t b n σ0 A B P a_nv nv e_nv sg h_s h_1 h_2) u_J4_53 rfl ⟨Nat.le_of_ble_eq_true rfl, Nat.le_of_ble_eq_true rfl⟩ rfl hl.1 (Nat.le_of_ble_eq_true rfl) dJ4_append_bf812_2 ⟨Nat.le_of_ble_eq_true rfl, Nat.le_of_ble_eq_true rfl⟩ (fun v_2 A_2 B_2 H locs z_2 w => ?_)
  obtain ⟨rfl, zk, zr, zs⟩ := z_2
  show W _ _ _ _ _ _ _ _ _ _ _ _ _ _ _ (F0 _ _ _ ([.ref (b + 40)]))
  refine lv_pop hx hb dJ4_append_bf812_5 rfl ?_
  refine lv_aload_n hx hb dJ4_append_bf812_6 rfl (lv_at hl 0 rfl) ?_
  exact j_aret (post := fun v A1 B1 => v = some (.ref (b + 40)) ∧ kpI [37] A A1 ∧ kpR [9] B B1 ∧ sbQ A1 B1 (apI sg nv)) X w (Or.inl ⟨_, rfl⟩) dJ4_append_bf812_7 (⟨rfl, zk, zr, zs⟩)
