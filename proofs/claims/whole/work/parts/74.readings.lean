/-- the class's rows of readings in the reference's order -/
def rdR (B : Nat → Nat → Int32) : Nat → Nat → Int32 := fun k => if k = 20 then B 6 else if k = 21 then B 7 else B 8
theorem entC_s {R : Nat → Nat → Int32} {f g h : Nat → Int32} {i : Nat} {u v w : Int32} : entM (rdR (va_up (va_up (va_up R 6 (upd f i u)) 7 (upd g i v)) 8 (upd h i w))) i = (u.toInt, v.toInt, w.toInt) := by
  simp [entM, rdR, va_up, upd]
theorem entC_n {R : Nat → Nat → Int32} {i j : Nat} {u v w : Int32} (hj : j ≠ i) : entM (rdR (va_up (va_up (va_up R 6 (upd (R 6) i u)) 7 (upd (R 7) i v)) 8 (upd (R 8) i w))) j = entM (rdR R) j := by
  simp [entM, rdR, va_up, upd, hj]

set_option maxHeartbeats 2000000 in
set_option maxRecDepth 100000 in
theorem c_X5_clear (l : Launch) (D : va_G) (t : Nat → ClassId) (b n : Nat) (σ0 : qM) (A : Nat → Int32) (B : Nat → Nat → Int32) (P : Nat → Nat → Option Nat) : kV l yX5_clear cX5_clear 1 0 D t b n σ0 A B P [.ref (b + 36)] (fun A1 B1 => B1 = B ∧ A1 = va_up A 36 0) := by
  refine qV.of (by decide +kernel) (Nat.le_of_ble_eq_true rfl) (fun p e s m args below meth c X w _ ls hl => ?_)
  have hx := X.1
  have hb := X.2.1
  have hl : lv_has ls 1 [(0, .ref (b + 36))] := hl
  refine lv_aload_n hx hb dX5_clear_0 rfl (lv_at hl 0 rfl) ?_
  refine lv_iconst (v := 0) hx hb dX5_clear_1 (by decide) ?_
  refine kp_X5_count (v := 0) X w dX5_clear_2 (fun H locs w => ?_)
  exact q_vret (post := (fun n1 σ1 => n1 = n ∧ ∃ A1 B1, σ1 = cS t b σ0 A1 B1 P ∧ B1 = B ∧ A1 = va_up A 36 0)) X w dX5_clear_5 ⟨rfl, _, _, rfl, rfl, by rfl⟩

set_option maxHeartbeats 2000000 in
set_option maxRecDepth 100000 in
theorem c_X5_count (l : Launch) (D : va_G) (t : Nat → ClassId) (b n : Nat) (σ0 : qM) (A : Nat → Int32) (B : Nat → Nat → Int32) (P : Nat → Nat → Option Nat) : qP l yX5_count cX5_count 1 (some .int) 0 D t b n (cS t b σ0 A B P) [.ref (b + 36)] (fun z => z = A 36) := by
  refine qP.of (by decide +kernel) (Nat.le_of_ble_eq_true rfl) (fun p e s m args below meth c X w ls hl => ?_)
  have hx := X.1
  have hb := X.2.1
  have hl : lv_has ls 1 [(0, .ref (b + 36))] := hl
  refine lv_aload_n hx hb dX5_count_0 rfl (lv_at hl 0 rfl) ?_
  refine kg_X5_count X w dX5_count_1 ?_
  exact q_pret X w dX5_count_4 (by rfl)

set_option maxHeartbeats 2000000 in
set_option maxRecDepth 100000 in
theorem c_X5_addIfDay (l : Launch) (D : va_G) (t : Nat → ClassId) (b n : Nat) (σ0 : qM) (A : Nat → Int32) (B : Nat → Nat → Int32) (P : Nat → Nat → Option Nat) (q : Nat → Ent) (a_ca : Int32) (a_o : Int32) (a_dy : Int32) (ca : Int) (o : Int) (dy : Int) (e_ca : a_ca.toInt = ca) (e_o : a_o.toInt = o) (e_dy : a_dy.toInt = dy) (h_1 : 0 ≤ (A 36).toInt ∧ (A 36).toInt ≤ 17) (h_2 : rdP (rdR B) (q, (A 36).toInt.toNat)) : kV l yX5_addIfDay cX5_addIfDay 5 1 D t b n σ0 A B P [.ref (b + 36), .int a_ca, .int a_o, .int a_dy] (fun A1 B1 => ((-999999 ≤ dy ∧ dy ≤ 999999) → kpI [36] A A1 ∧ (A1 36).toInt = (A 36).toInt + 1 ∧ kpR [6, 7, 8] B B1 ∧ rdP (rdR B1) (insF q (ca, o, dy) (A 36).toInt.toNat, (A 36).toInt.toNat + 1)) ∧ (¬ (-999999 ≤ dy ∧ dy ≤ 999999) → A1 = A ∧ B1 = B)) := by
  refine qV.of (by decide +kernel) (Nat.le_of_ble_eq_true rfl) (fun p e s m args below meth c X w _ ls hl => ?_)
  have hx := X.1
  have hb := X.2.1
  have hl : lv_has ls 5 [(0, .ref (b + 36)), (1, .int a_ca), (2, .int a_o), (3, .int a_dy)] := hl
  refine lv_iload_n hx hb dX5_addIfDay_0 rfl (lv_at hl 3 rfl) ?_
  refine q_cPSN X w (c_X8_isDay l a_dy dy e_dy D t b n (cS t b σ0 A B P)) nv_X5_25 rfl ⟨Nat.le_of_ble_eq_true rfl, Nat.le_of_ble_eq_true rfl⟩ rfl hl.1 (Nat.le_of_ble_eq_true rfl) dX5_addIfDay_1 ⟨Nat.zero_le _, Nat.zero_le _⟩ (fun r_1 z_1 => ?_)
  refine lv_if_eq (tgt := 23) hx hb dX5_addIfDay_4 (by decide) (fun c_4 => ?_) (fun c_4 => ?_)
  · skip
    rw [z_1] at c_4
    have k_4 := bI_f.mp c_4
    exact q_vret (post := (fun n1 σ1 => n1 = n ∧ ∃ A1 B1, σ1 = cS t b σ0 A1 B1 P ∧ ((-999999 ≤ dy ∧ dy ≤ 999999) → kpI [36] A A1 ∧ (A1 36).toInt = (A 36).toInt + 1 ∧ kpR [6, 7, 8] B B1 ∧ rdP (rdR B1) (insF q (ca, o, dy) (A 36).toInt.toNat, (A 36).toInt.toNat + 1)) ∧ (¬ (-999999 ≤ dy ∧ dy ≤ 999999) → A1 = A ∧ B1 = B))) X w dX5_addIfDay_23 ⟨rfl, _, _, rfl, by exact ⟨fun y => absurd y k_4, fun _ => ⟨rfl, rfl⟩⟩⟩
  · skip
    rw [z_1] at c_4
    have k_4 := bI_t.mp c_4
    refine lv_aload_n hx hb dX5_addIfDay_7 rfl (lv_at hl 0 rfl) ?_
    refine kg_X5_count X w dX5_addIfDay_8 ?_
    refine lv_if_lt (tgt := 23) hx hb dX5_addIfDay_11 (by decide) (fun c_11 => ?_) (fun c_11 => ?_)
    · skip
      have k_11 : ((A 36).toInt) < 0 := (g_lt rfl (show (0 : Int32).toInt = 0 from rfl)).mp c_11
      exfalso; omega
    · skip
      have k_11 : ¬ (((A 36).toInt) < 0) := fun h => c_11 ((g_lt rfl (show (0 : Int32).toInt = 0 from rfl)).mpr h)
      refine lv_aload_n hx hb dX5_addIfDay_14 rfl (lv_at hl 0 rfl) ?_
      refine kg_X5_count X w dX5_addIfDay_15 ?_
      refine lv_bipush (v := 18) hx hb dX5_addIfDay_18 (by decide) ?_
      refine lv_icmp_lt (tgt := 24) hx hb dX5_addIfDay_20 (by decide) (fun c_20 => ?_) (fun c_20 => ?_)
      · skip
        have k_20 : ((A 36).toInt) < 18 := (g_lt rfl (show (18 : Int32).toInt = 18 from rfl)).mp c_20
        refine lv_aload_n hx hb dX5_addIfDay_24 rfl (lv_at hl 0 rfl) ?_
        refine kg_X5_count X w dX5_addIfDay_25 ?_
        refine lv_istore (lv' := [(4, .int (A 36)), (0, .ref (b + 36)), (1, .int a_ca), (2, .int a_o), (3, .int a_dy)]) hx hb dX5_addIfDay_28 hl (by decide) rfl (fun ls hl => ?_)
        refine q_loop (α := Int32 × Int × (Nat → Nat → Int32)) (fun a => a.1.toInt = a.2.1 ∧ (kpR [6, 7, 8] B a.2.2 ∧ (0 ≤ a.2.1 ∧ a.2.1 ≤ (A 36).toInt) ∧ (∀ j : Nat, (j : Int) < a.2.1 → entM (rdR a.2.2) j = q j) ∧ (∀ j : Nat, a.2.1 < (j : Int) → j ≤ (A 36).toInt.toNat → entM (rdR a.2.2) j = insF q (ca, o, dy) (A 36).toInt.toNat j) ∧ (∀ j : Nat, (j : Int) ≤ a.2.1 → insF q (ca, o, dy) (A 36).toInt.toNat j = insF q (ca, o, dy) a.2.1.toNat j))) (fun a => a.2.1.toNat) (fun a => ∀ (H : Heap) (locs : List Loc), qW D b n (cS t b σ0 A a.2.2 P) s H locs → ∀ ls : Array Slot, lv_has ls 5 [(4, .int a.1), (0, .ref (b + 36)), (1, .int a_ca), (2, .int a_o), (3, .int a_dy)] → W p l e (qR 1 0 0) s m args below meth c H locs 0 0 (MQ below (va_Qv (S := Nat × qM) (fun u => (fun n1 σ1 => n1 = n ∧ ∃ A1 B1, σ1 = cS t b σ0 A1 B1 P ∧ ((-999999 ≤ dy ∧ dy ≤ 999999) → kpI [36] A A1 ∧ (A1 36).toInt = (A 36).toInt + 1 ∧ kpR [6, 7, 8] B B1 ∧ rdP (rdR B1) (insF q (ca, o, dy) (A 36).toInt.toNat, (A 36).toInt.toNat + 1)) ∧ (¬ (-999999 ≤ dy ∧ dy ≤ 999999) → A1 = A ∧ B1 = B)) u.1 u.2) (fun u T => WB D b u.1 u.2 T.heap) (fun q => b ≤ q)) args s 0 0 (fun q => b ≤ q)) (F0 m 30 ls [])) ?_ ⟨(A 36), (A 36).toInt, B⟩ ⟨rfl, by dsimp only; exact ⟨kpR.rf, by omega, fun j a => h_2 j (show j < (A 36).toInt.toNat by omega), fun j a b => by omega, fun j a => rfl⟩⟩ _ _ w ls (lv_sub hl [0, 1, 2, 3, 4] rfl)
        rintro ⟨v_k, k, R_L30⟩ ⟨q_k, inv_30⟩ ih_30 H locs w ls hl
        dsimp only at q_k inv_30 hl w
        refine lv_iload hx hb dX5_addIfDay_30 (lv_at hl 0 rfl) ?_
        refine lv_if_le (tgt := 109) hx hb dX5_addIfDay_32 (by decide) (fun c_32 => ?_) (fun c_32 => ?_)
        · skip
          have k_32 : k ≤ 0 := (g_le q_k (show (0 : Int32).toInt = 0 from rfl)).mp c_32
          refine lv_iload hx hb dX5_addIfDay_109 (lv_at hl 0 rfl) ?_
          refine lv_if_lt (tgt := 145) hx hb dX5_addIfDay_111 (by decide) (fun c_111 => ?_) (fun c_111 => ?_)
          · skip
            have k_111 : k < 0 := (g_lt q_k (show (0 : Int32).toInt = 0 from rfl)).mp c_111
            exfalso; omega
          · skip
            have k_111 : ¬ (k < 0) := fun h => c_111 ((g_lt q_k (show (0 : Int32).toInt = 0 from rfl)).mpr h)
            refine lv_iload hx hb dX5_addIfDay_114 (lv_at hl 0 rfl) ?_
            refine lv_bipush (v := 18) hx hb dX5_addIfDay_116 (by decide) ?_
            refine lv_icmp_ge (tgt := 145) hx hb dX5_addIfDay_118 (by decide) (fun c_118 => ?_) (fun c_118 => ?_)
            · skip
              have k_118 : 18 ≤ k := (g_le (show (18 : Int32).toInt = 18 from rfl) q_k).mp c_118
              exfalso; omega
            · skip
              have k_118 : ¬ (18 ≤ k) := fun h => c_118 ((g_le (show (18 : Int32).toInt = 18 from rfl) q_k).mpr h)
              refine lv_aload_n hx hb dX5_addIfDay_121 rfl (lv_at hl 1 rfl) ?_
              refine kg_X5_calendars X w dX5_addIfDay_122 ?_
              refine lv_iload hx hb dX5_addIfDay_125 (lv_at hl 0 rfl) ?_
              refine lv_iload_n hx hb dX5_addIfDay_127 rfl (lv_at hl 2 rfl) ?_
              refine ks_6 (x := a_ca) X w (g_in q_k (by omega)) dX5_addIfDay_128 (fun H locs w => ?_)
              rw [g_tn (show v_k.toInt = k from q_k)] at w
              refine lv_aload_n hx hb dX5_addIfDay_129 rfl (lv_at hl 1 rfl) ?_
              refine kg_X5_orders X w dX5_addIfDay_130 ?_
              refine lv_iload hx hb dX5_addIfDay_133 (lv_at hl 0 rfl) ?_
              refine lv_iload_n hx hb dX5_addIfDay_135 rfl (lv_at hl 3 rfl) ?_
              refine ks_7 (x := a_o) X w (g_in q_k (by omega)) dX5_addIfDay_136 (fun H locs w => ?_)
              rw [g_tn (show v_k.toInt = k from q_k)] at w
              refine lv_aload_n hx hb dX5_addIfDay_137 rfl (lv_at hl 1 rfl) ?_
              refine kg_X5_days X w dX5_addIfDay_138 ?_
              refine lv_iload hx hb dX5_addIfDay_141 (lv_at hl 0 rfl) ?_
              refine lv_iload_n hx hb dX5_addIfDay_143 rfl (lv_at hl 4 rfl) ?_
              refine ks_8 (x := a_dy) X w (g_in q_k (by omega)) dX5_addIfDay_144 (fun H locs w => ?_)
              rw [g_tn (show v_k.toInt = k from q_k)] at w
              refine lv_aload_n hx hb dX5_addIfDay_145 rfl (lv_at hl 1 rfl) ?_
              refine lv_dup hx hb dX5_addIfDay_146 rfl ?_
              refine kg_X5_count X w dX5_addIfDay_147 ?_
              refine lv_iconst (v := 1) hx hb dX5_addIfDay_150 (by decide) ?_
              refine lv_iadd hx hb dX5_addIfDay_151 ?_
              refine lv_topi (fun x_151 e_151 => ?_)
              have p_151 : x_151.toInt = (((A 36).toInt) + 1) := by rw [e_151]; exact t_add rfl (show (1 : Int32).toInt = 1 from rfl) (by omega) (by omega)
              refine kp_X5_count (v := x_151) X w dX5_addIfDay_152 (fun H locs w => ?_)
              exact q_vret (post := (fun n1 σ1 => n1 = n ∧ ∃ A1 B1, σ1 = cS t b σ0 A1 B1 P ∧ ((-999999 ≤ dy ∧ dy ≤ 999999) → kpI [36] A A1 ∧ (A1 36).toInt = (A 36).toInt + 1 ∧ kpR [6, 7, 8] B B1 ∧ rdP (rdR B1) (insF q (ca, o, dy) (A 36).toInt.toNat, (A 36).toInt.toNat + 1)) ∧ (¬ (-999999 ≤ dy ∧ dy ≤ 999999) → A1 = A ∧ B1 = B))) X w dX5_addIfDay_155 ⟨rfl, _, _, rfl, by have hs := rd_end (R := rdR R_L30) (S := rdR (va_up (va_up (va_up R_L30 6 (upd (R_L30 6) k.toNat a_ca)) 7 (upd (R_L30 7) k.toNat a_o)) 8 (upd (R_L30 8) k.toNat a_dy))) (x := (ca, o, dy)) inv_30.2.2.1 inv_30.2.2.2.1 inv_30.2.2.2.2 (Or.inl k_32) (by omega) (entC_s.trans (by rw [e_ca, e_o, e_dy])) (fun j hj => entC_n hj); exact ⟨fun _ => ⟨kpI.up kpI.rf (by decide), p_151, ((inv_30.1.up (by decide)).up (by decide)).up (by decide), hs⟩, fun y => absurd k_4 y⟩⟩
        · skip
          have k_32 : ¬ (k ≤ 0) := fun h => c_32 ((g_le q_k (show (0 : Int32).toInt = 0 from rfl)).mpr h)
          refine lv_iload hx hb dX5_addIfDay_35 (lv_at hl 0 rfl) ?_
          refine lv_bipush (v := 18) hx hb dX5_addIfDay_37 (by decide) ?_
          refine lv_icmp_ge (tgt := 109) hx hb dX5_addIfDay_39 (by decide) (fun c_39 => ?_) (fun c_39 => ?_)
          · skip
            have k_39 : 18 ≤ k := (g_le (show (18 : Int32).toInt = 18 from rfl) q_k).mp c_39
            exfalso; omega
          · skip
            have k_39 : ¬ (18 ≤ k) := fun h => c_39 ((g_le (show (18 : Int32).toInt = 18 from rfl) q_k).mpr h)
            refine lv_aload_n hx hb dX5_addIfDay_42 rfl (lv_at hl 1 rfl) ?_
            refine kg_X5_days X w dX5_addIfDay_43 ?_
            refine lv_iload hx hb dX5_addIfDay_46 (lv_at hl 0 rfl) ?_
            refine lv_iconst (v := 1) hx hb dX5_addIfDay_48 (by decide) ?_
            refine lv_isub hx hb dX5_addIfDay_49 ?_
            refine lv_topi (fun x_49 e_49 => ?_)
            have p_49 : x_49.toInt = (k - 1) := by rw [e_49]; exact t_sub q_k (show (1 : Int32).toInt = 1 from rfl) (by omega) (by omega)
            refine kl_8 X w (g_in p_49 (by omega)) dX5_addIfDay_50 ?_
            refine q_topE (y := R_L30 8 (k - 1).toNat) (congrArg (R_L30 8) (g_tn p_49)) ?_
            refine lv_iload_n hx hb dX5_addIfDay_51 rfl (lv_at hl 4 rfl) ?_
            refine lv_icmp_le (tgt := 109) hx hb dX5_addIfDay_52 (by decide) (fun c_52 => ?_) (fun c_52 => ?_)
            · skip
              have k_52 : ((R_L30 8 (k - 1).toNat).toInt) ≤ dy := (g_le rfl e_dy).mp c_52
              refine lv_iload hx hb dX5_addIfDay_109 (lv_at hl 0 rfl) ?_
              refine lv_if_lt (tgt := 145) hx hb dX5_addIfDay_111 (by decide) (fun c_111 => ?_) (fun c_111 => ?_)
              · skip
                have k_111 : k < 0 := (g_lt q_k (show (0 : Int32).toInt = 0 from rfl)).mp c_111
                exfalso; omega
              · skip
                have k_111 : ¬ (k < 0) := fun h => c_111 ((g_lt q_k (show (0 : Int32).toInt = 0 from rfl)).mpr h)
                refine lv_iload hx hb dX5_addIfDay_114 (lv_at hl 0 rfl) ?_
                refine lv_bipush (v := 18) hx hb dX5_addIfDay_116 (by decide) ?_
                refine lv_icmp_ge (tgt := 145) hx hb dX5_addIfDay_118 (by decide) (fun c_118 => ?_) (fun c_118 => ?_)
                · skip
                  have k_118 : 18 ≤ k := (g_le (show (18 : Int32).toInt = 18 from rfl) q_k).mp c_118
                  exfalso; omega
                · skip
                  have k_118 : ¬ (18 ≤ k) := fun h => c_118 ((g_le (show (18 : Int32).toInt = 18 from rfl) q_k).mpr h)
                  refine lv_aload_n hx hb dX5_addIfDay_121 rfl (lv_at hl 1 rfl) ?_
                  refine kg_X5_calendars X w dX5_addIfDay_122 ?_
                  refine lv_iload hx hb dX5_addIfDay_125 (lv_at hl 0 rfl) ?_
                  refine lv_iload_n hx hb dX5_addIfDay_127 rfl (lv_at hl 2 rfl) ?_
                  refine ks_6 (x := a_ca) X w (g_in q_k (by omega)) dX5_addIfDay_128 (fun H locs w => ?_)
                  rw [g_tn (show v_k.toInt = k from q_k)] at w
                  refine lv_aload_n hx hb dX5_addIfDay_129 rfl (lv_at hl 1 rfl) ?_
                  refine kg_X5_orders X w dX5_addIfDay_130 ?_
                  refine lv_iload hx hb dX5_addIfDay_133 (lv_at hl 0 rfl) ?_
                  refine lv_iload_n hx hb dX5_addIfDay_135 rfl (lv_at hl 3 rfl) ?_
                  refine ks_7 (x := a_o) X w (g_in q_k (by omega)) dX5_addIfDay_136 (fun H locs w => ?_)
                  rw [g_tn (show v_k.toInt = k from q_k)] at w
                  refine lv_aload_n hx hb dX5_addIfDay_137 rfl (lv_at hl 1 rfl) ?_
                  refine kg_X5_days X w dX5_addIfDay_138 ?_
                  refine lv_iload hx hb dX5_addIfDay_141 (lv_at hl 0 rfl) ?_
                  refine lv_iload_n hx hb dX5_addIfDay_143 rfl (lv_at hl 4 rfl) ?_
                  refine ks_8 (x := a_dy) X w (g_in q_k (by omega)) dX5_addIfDay_144 (fun H locs w => ?_)
                  rw [g_tn (show v_k.toInt = k from q_k)] at w
                  refine lv_aload_n hx hb dX5_addIfDay_145 rfl (lv_at hl 1 rfl) ?_
                  refine lv_dup hx hb dX5_addIfDay_146 rfl ?_
                  refine kg_X5_count X w dX5_addIfDay_147 ?_
                  refine lv_iconst (v := 1) hx hb dX5_addIfDay_150 (by decide) ?_
                  refine lv_iadd hx hb dX5_addIfDay_151 ?_
                  refine lv_topi (fun x_151 e_151 => ?_)
                  have p_151 : x_151.toInt = (((A 36).toInt) + 1) := by rw [e_151]; exact t_add rfl (show (1 : Int32).toInt = 1 from rfl) (by omega) (by omega)
                  refine kp_X5_count (v := x_151) X w dX5_addIfDay_152 (fun H locs w => ?_)
                  exact q_vret (post := (fun n1 σ1 => n1 = n ∧ ∃ A1 B1, σ1 = cS t b σ0 A1 B1 P ∧ ((-999999 ≤ dy ∧ dy ≤ 999999) → kpI [36] A A1 ∧ (A1 36).toInt = (A 36).toInt + 1 ∧ kpR [6, 7, 8] B B1 ∧ rdP (rdR B1) (insF q (ca, o, dy) (A 36).toInt.toNat, (A 36).toInt.toNat + 1)) ∧ (¬ (-999999 ≤ dy ∧ dy ≤ 999999) → A1 = A ∧ B1 = B))) X w dX5_addIfDay_155 ⟨rfl, _, _, rfl, by have hs := rd_end (R := rdR R_L30) (S := rdR (va_up (va_up (va_up R_L30 6 (upd (R_L30 6) k.toNat a_ca)) 7 (upd (R_L30 7) k.toNat a_o)) 8 (upd (R_L30 8) k.toNat a_dy))) (x := (ca, o, dy)) inv_30.2.2.1 inv_30.2.2.2.1 inv_30.2.2.2.2 (Or.inr (by rw [← inv_30.2.2.1 _ (by omega)]; exact Int.not_lt.mpr k_52)) (by omega) (entC_s.trans (by rw [e_ca, e_o, e_dy])) (fun j hj => entC_n hj); exact ⟨fun _ => ⟨kpI.up kpI.rf (by decide), p_151, ((inv_30.1.up (by decide)).up (by decide)).up (by decide), hs⟩, fun y => absurd k_4 y⟩⟩
            · skip
              have k_52 : ¬ (((R_L30 8 (k - 1).toNat).toInt) ≤ dy) := fun h => c_52 ((g_le rfl e_dy).mpr h)
              refine lv_aload_n hx hb dX5_addIfDay_55 rfl (lv_at hl 1 rfl) ?_
              refine kg_X5_calendars X w dX5_addIfDay_56 ?_
              refine lv_iload hx hb dX5_addIfDay_59 (lv_at hl 0 rfl) ?_
              refine lv_aload_n hx hb dX5_addIfDay_61 rfl (lv_at hl 1 rfl) ?_
              refine kg_X5_calendars X w dX5_addIfDay_62 ?_
              refine lv_iload hx hb dX5_addIfDay_65 (lv_at hl 0 rfl) ?_
              refine lv_iconst (v := 1) hx hb dX5_addIfDay_67 (by decide) ?_
              refine lv_isub hx hb dX5_addIfDay_68 ?_
              refine lv_topi (fun x_68 e_68 => ?_)
              have p_68 : x_68.toInt = (k - 1) := by rw [e_68]; exact t_sub q_k (show (1 : Int32).toInt = 1 from rfl) (by omega) (by omega)
              refine kl_6 X w (g_in p_68 (by omega)) dX5_addIfDay_69 ?_
              refine q_topE (y := R_L30 6 (k - 1).toNat) (congrArg (R_L30 6) (g_tn p_68)) ?_
              refine ks_6 (x := (R_L30 6 (k - 1).toNat)) X w (g_in q_k (by omega)) dX5_addIfDay_70 (fun H locs w => ?_)
              rw [g_tn (show v_k.toInt = k from q_k)] at w
              refine lv_aload_n hx hb dX5_addIfDay_71 rfl (lv_at hl 1 rfl) ?_
              refine kg_X5_orders X w dX5_addIfDay_72 ?_
              refine lv_iload hx hb dX5_addIfDay_75 (lv_at hl 0 rfl) ?_
              refine lv_aload_n hx hb dX5_addIfDay_77 rfl (lv_at hl 1 rfl) ?_
              refine kg_X5_orders X w dX5_addIfDay_78 ?_
              refine lv_iload hx hb dX5_addIfDay_81 (lv_at hl 0 rfl) ?_
              refine lv_iconst (v := 1) hx hb dX5_addIfDay_83 (by decide) ?_
              refine lv_isub hx hb dX5_addIfDay_84 ?_
              refine lv_topi (fun x_84 e_84 => ?_)
              have p_84 : x_84.toInt = (k - 1) := by rw [e_84]; exact t_sub q_k (show (1 : Int32).toInt = 1 from rfl) (by omega) (by omega)
              refine kl_7 X w (g_in p_84 (by omega)) dX5_addIfDay_85 ?_
              refine q_topE (y := (va_up R_L30 6 (upd (R_L30 6) k.toNat (R_L30 6 (k - 1).toNat))) 7 (k - 1).toNat) (congrArg ((va_up R_L30 6 (upd (R_L30 6) k.toNat (R_L30 6 (k - 1).toNat))) 7) (g_tn p_84)) ?_
              refine ks_7 (x := ((va_up R_L30 6 (upd (R_L30 6) k.toNat (R_L30 6 (k - 1).toNat))) 7 (k - 1).toNat)) X w (g_in q_k (by omega)) dX5_addIfDay_86 (fun H locs w => ?_)
              rw [g_tn (show v_k.toInt = k from q_k)] at w
              refine lv_aload_n hx hb dX5_addIfDay_87 rfl (lv_at hl 1 rfl) ?_
              refine kg_X5_days X w dX5_addIfDay_88 ?_
              refine lv_iload hx hb dX5_addIfDay_91 (lv_at hl 0 rfl) ?_
              refine lv_aload_n hx hb dX5_addIfDay_93 rfl (lv_at hl 1 rfl) ?_
              refine kg_X5_days X w dX5_addIfDay_94 ?_
              refine lv_iload hx hb dX5_addIfDay_97 (lv_at hl 0 rfl) ?_
              refine lv_iconst (v := 1) hx hb dX5_addIfDay_99 (by decide) ?_
              refine lv_isub hx hb dX5_addIfDay_100 ?_
              refine lv_topi (fun x_100 e_100 => ?_)
              have p_100 : x_100.toInt = (k - 1) := by rw [e_100]; exact t_sub q_k (show (1 : Int32).toInt = 1 from rfl) (by omega) (by omega)
              refine kl_8 X w (g_in p_100 (by omega)) dX5_addIfDay_101 ?_
              refine q_topE (y := (va_up (va_up R_L30 6 (upd (R_L30 6) k.toNat (R_L30 6 (k - 1).toNat))) 7 (upd ((va_up R_L30 6 (upd (R_L30 6) k.toNat (R_L30 6 (k - 1).toNat))) 7) k.toNat ((va_up R_L30 6 (upd (R_L30 6) k.toNat (R_L30 6 (k - 1).toNat))) 7 (k - 1).toNat))) 8 (k - 1).toNat) (congrArg ((va_up (va_up R_L30 6 (upd (R_L30 6) k.toNat (R_L30 6 (k - 1).toNat))) 7 (upd ((va_up R_L30 6 (upd (R_L30 6) k.toNat (R_L30 6 (k - 1).toNat))) 7) k.toNat ((va_up R_L30 6 (upd (R_L30 6) k.toNat (R_L30 6 (k - 1).toNat))) 7 (k - 1).toNat))) 8) (g_tn p_100)) ?_
              refine ks_8 (x := ((va_up (va_up R_L30 6 (upd (R_L30 6) k.toNat (R_L30 6 (k - 1).toNat))) 7 (upd ((va_up R_L30 6 (upd (R_L30 6) k.toNat (R_L30 6 (k - 1).toNat))) 7) k.toNat ((va_up R_L30 6 (upd (R_L30 6) k.toNat (R_L30 6 (k - 1).toNat))) 7 (k - 1).toNat))) 8 (k - 1).toNat)) X w (g_in q_k (by omega)) dX5_addIfDay_102 (fun H locs w => ?_)
              rw [g_tn (show v_k.toInt = k from q_k)] at w
              obtain ⟨x_103, e_103⟩ : ∃ z : Int32, z = (v_k + (-1)) := ⟨_, rfl⟩
              have p_103 : x_103.toInt = (k + (-1)) := by rw [e_103]; exact t_add q_k (show ((-1) : Int32).toInt = (-1) from rfl) (by omega) (by omega)
              refine lv_iinc (v := x_103) (lv' := [(4, .int x_103), (0, .ref (b + 36)), (1, .int a_ca), (2, .int a_o), (3, .int a_dy)]) hx hb dX5_addIfDay_103 hl (k := 0) rfl (by rw [e_103]; rfl) (by decide) rfl (fun ls hl => ?_)
              refine lv_goto (tgt := 30) hx hb dX5_addIfDay_106 (by decide) ?_
              refine ih_30 ⟨x_103, (k + (-1)), (va_up (va_up (va_up R_L30 6 (upd (R_L30 6) k.toNat (R_L30 6 (k - 1).toNat))) 7 (upd ((va_up R_L30 6 (upd (R_L30 6) k.toNat (R_L30 6 (k - 1).toNat))) 7) k.toNat ((va_up R_L30 6 (upd (R_L30 6) k.toNat (R_L30 6 (k - 1).toNat))) 7 (k - 1).toNat))) 8 (upd ((va_up (va_up R_L30 6 (upd (R_L30 6) k.toNat (R_L30 6 (k - 1).toNat))) 7 (upd ((va_up R_L30 6 (upd (R_L30 6) k.toNat (R_L30 6 (k - 1).toNat))) 7) k.toNat ((va_up R_L30 6 (upd (R_L30 6) k.toNat (R_L30 6 (k - 1).toNat))) 7 (k - 1).toNat))) 8) k.toNat ((va_up (va_up R_L30 6 (upd (R_L30 6) k.toNat (R_L30 6 (k - 1).toNat))) 7 (upd ((va_up R_L30 6 (upd (R_L30 6) k.toNat (R_L30 6 (k - 1).toNat))) 7) k.toNat ((va_up R_L30 6 (upd (R_L30 6) k.toNat (R_L30 6 (k - 1).toNat))) 7 (k - 1).toNat))) 8 (k - 1).toNat)))⟩ ⟨p_103, by dsimp only; have hs := rd_step (R := rdR R_L30) (S := rdR (va_up (va_up (va_up R_L30 6 (upd (R_L30 6) k.toNat (R_L30 6 (k - 1).toNat))) 7 (upd (R_L30 7) k.toNat (R_L30 7 (k - 1).toNat))) 8 (upd (R_L30 8) k.toNat (R_L30 8 (k - 1).toNat)))) (x := (ca, o, dy)) inv_30.2.2.1 inv_30.2.2.2.1 inv_30.2.2.2.2 (by rw [← inv_30.2.2.1 _ (by omega)]; exact Int.not_le.mp k_52) (by omega) entC_s (fun j hj => entC_n hj); exact ⟨((inv_30.1.up (by decide)).up (by decide)).up (by decide), by omega, hs⟩⟩ (by dsimp only; omega) _ _ w ls (lv_sub hl [0, 1, 2, 3, 4] rfl)
      · skip
        have k_20 : ¬ (((A 36).toInt) < 18) := fun h => c_20 ((g_lt rfl (show (18 : Int32).toInt = 18 from rfl)).mpr h)
        exfalso; omega

set_option maxHeartbeats 2000000 in
set_option maxRecDepth 100000 in
theorem c_X5_partAt (l : Launch) (D : va_G) (t : Nat → ClassId) (b n : Nat) (σ0 : qM) (A : Nat → Int32) (B : Nat → Nat → Int32) (P : Nat → Nat → Option Nat) (a_ix : Int32) (a_part : Int32) (ix : Int) (part : Int) (e_ix : a_ix.toInt = ix) (e_part : a_part.toInt = part) (h_1 : 0 ≤ ix ∧ ix < 18) : qP l yX5_partAt cX5_partAt 3 (some .int) 0 D t b n (cS t b σ0 A B P) [.ref (b + 36), .int a_ix, .int a_part] (fun z => z.toInt = (if part = 0 then (B 6 ix.toNat).toInt else if part = 1 then (B 7 ix.toNat).toInt else (B 8 ix.toNat).toInt)) := by
  refine qP.of (by decide +kernel) (Nat.le_of_ble_eq_true rfl) (fun p e s m args below meth c X w ls hl => ?_)
  have hx := X.1
  have hb := X.2.1
  have hl : lv_has ls 3 [(0, .ref (b + 36)), (1, .int a_ix), (2, .int a_part)] := hl
  refine lv_iload_n hx hb dX5_partAt_0 rfl (lv_at hl 1 rfl) ?_
  refine lv_if_lt (tgt := 10) hx hb dX5_partAt_1 (by decide) (fun c_1 => ?_) (fun c_1 => ?_)
  · skip
    have k_1 : ix < 0 := (g_lt e_ix (show (0 : Int32).toInt = 0 from rfl)).mp c_1
    exfalso; omega
  · skip
    have k_1 : ¬ (ix < 0) := fun h => c_1 ((g_lt e_ix (show (0 : Int32).toInt = 0 from rfl)).mpr h)
    refine lv_iload_n hx hb dX5_partAt_4 rfl (lv_at hl 1 rfl) ?_
    refine lv_bipush (v := 18) hx hb dX5_partAt_5 (by decide) ?_
    refine lv_icmp_lt (tgt := 12) hx hb dX5_partAt_7 (by decide) (fun c_7 => ?_) (fun c_7 => ?_)
    · skip
      have k_7 : ix < 18 := (g_lt e_ix (show (18 : Int32).toInt = 18 from rfl)).mp c_7
      refine lv_iload_n hx hb dX5_partAt_12 rfl (lv_at hl 2 rfl) ?_
      refine lv_if_ne (tgt := 23) hx hb dX5_partAt_13 (by decide) (fun c_13 => ?_) (fun c_13 => ?_)
      · skip
        have k_13 : ¬ (part = 0) := fun h => c_13 ((g_eq e_part (show (0 : Int32).toInt = 0 from rfl)).mpr h)
        refine lv_iload_n hx hb dX5_partAt_23 rfl (lv_at hl 2 rfl) ?_
        refine lv_iconst (v := 1) hx hb dX5_partAt_24 (by decide) ?_
        refine lv_icmp_ne (tgt := 37) hx hb dX5_partAt_25 (by decide) (fun c_25 => ?_) (fun c_25 => ?_)
        · skip
          have k_25 : ¬ (part = 1) := fun h => c_25 ((g_eq e_part (show (1 : Int32).toInt = 1 from rfl)).mpr h)
          refine lv_aload_n hx hb dX5_partAt_37 rfl (lv_at hl 0 rfl) ?_
          refine kg_X5_days X w dX5_partAt_38 ?_
          refine lv_iload_n hx hb dX5_partAt_41 rfl (lv_at hl 1 rfl) ?_
          refine kl_8 X w (g_in e_ix (by omega)) dX5_partAt_42 ?_
          refine q_topE (y := B 8 ix.toNat) (congrArg (B 8) (g_tn e_ix)) ?_
          exact q_pret X w dX5_partAt_43 (by rw [if_neg k_13, if_neg k_25])
        · skip
          have k_25 : part = 1 := (g_eq e_part (show (1 : Int32).toInt = 1 from rfl)).mp c_25
          refine lv_aload_n hx hb dX5_partAt_28 rfl (lv_at hl 0 rfl) ?_
          refine kg_X5_orders X w dX5_partAt_29 ?_
          refine lv_iload_n hx hb dX5_partAt_32 rfl (lv_at hl 1 rfl) ?_
          refine kl_7 X w (g_in e_ix (by omega)) dX5_partAt_33 ?_
          refine q_topE (y := B 7 ix.toNat) (congrArg (B 7) (g_tn e_ix)) ?_
          refine lv_goto (tgt := 43) hx hb dX5_partAt_34 (by decide) ?_
          exact q_pret X w dX5_partAt_43 (by rw [if_neg k_13, if_pos k_25])
      · skip
        have k_13 : part = 0 := (g_eq e_part (show (0 : Int32).toInt = 0 from rfl)).mp c_13
        refine lv_aload_n hx hb dX5_partAt_16 rfl (lv_at hl 0 rfl) ?_
        refine kg_X5_calendars X w dX5_partAt_17 ?_
        refine lv_iload_n hx hb dX5_partAt_20 rfl (lv_at hl 1 rfl) ?_
        refine kl_6 X w (g_in e_ix (by omega)) dX5_partAt_21 ?_
        refine q_topE (y := B 6 ix.toNat) (congrArg (B 6) (g_tn e_ix)) ?_
        exact q_pret X w dX5_partAt_22 (by rw [if_pos k_13])
    · skip
      have k_7 : ¬ (ix < 18) := fun h => c_7 ((g_lt e_ix (show (18 : Int32).toInt = 18 from rfl)).mpr h)
      exfalso; omega

set_option maxHeartbeats 2000000 in
set_option maxRecDepth 100000 in
theorem c_X5_distinctDays (l : Launch) (D : va_G) (t : Nat → ClassId) (b n : Nat) (σ0 : qM) (A : Nat → Int32) (B : Nat → Nat → Int32) (P : Nat → Nat → Option Nat) (h_1 : 0 ≤ (A 36).toInt ∧ (A 36).toInt ≤ 18) : qP l yX5_distinctDays cX5_distinctDays 3 (some .int) 0 D t b n (cS t b σ0 A B P) [.ref (b + 36)] (fun z => z.toInt = ddN (B 8) (A 36).toInt.toNat) := by
  refine qP.of (by decide +kernel) (Nat.le_of_ble_eq_true rfl) (fun p e s m args below meth c X w ls hl => ?_)
  have hx := X.1
  have hb := X.2.1
  have hl : lv_has ls 3 [(0, .ref (b + 36))] := hl
  refine lv_iconst (v := 0) hx hb dX5_distinctDays_0 (by decide) ?_
  refine lv_istore_n (lv' := [(1, .int 0), (0, .ref (b + 36))]) hx hb dX5_distinctDays_1 rfl hl (by decide) rfl (fun ls hl => ?_)
  refine lv_iconst (v := 0) hx hb dX5_distinctDays_2 (by decide) ?_
  refine lv_istore_n (lv' := [(2, .int 0), (1, .int 0), (0, .ref (b + 36))]) hx hb dX5_distinctDays_3 rfl hl (by decide) rfl (fun ls hl => ?_)
  refine q_loop (α := Int32 × Int32 × Int × Int) (fun a => a.1.toInt = a.2.2.1 ∧ a.2.1.toInt = a.2.2.2 ∧ ((0 ≤ a.2.2.2 ∧ a.2.2.2 ≤ (A 36).toInt) ∧ a.2.2.1 = ddN (B 8) a.2.2.2.toNat ∧ (0 ≤ a.2.2.1 ∧ a.2.2.1 ≤ a.2.2.2))) (fun a => ((A 36).toInt - a.2.2.2).toNat) (fun a => ∀ ls : Array Slot, lv_has ls 3 [(2, .int a.2.1), (1, .int a.1), (0, .ref (b + 36))] → W p l e (qR 0 0 0) s m args below meth c s.heap [] 0 0 (MQ below (vp_Si (fun z => z.toInt = ddN (B 8) (A 36).toInt.toNat)) args s 0 0 (fun _ => False)) (F0 m 4 ls [])) ?_ ⟨0, 0, 0, 0⟩ ⟨(show (0 : Int32).toInt = 0 from rfl), (show (0 : Int32).toInt = 0 from rfl), by dsimp only; exact ⟨by omega, rfl, by omega⟩⟩ ls (lv_sub hl [0, 1, 2] rfl)
  rintro ⟨v_cn, v_k, cn, k⟩ ⟨q_cn, q_k, inv_4⟩ ih_4 ls hl
  dsimp only at q_cn q_k inv_4 hl
  refine lv_iload_n hx hb dX5_distinctDays_4 rfl (lv_at hl 0 rfl) ?_
  refine lv_aload_n hx hb dX5_distinctDays_5 rfl (lv_at hl 2 rfl) ?_
  refine kg_X5_count X w dX5_distinctDays_6 ?_
  refine lv_icmp_ge (tgt := 48) hx hb dX5_distinctDays_9 (by decide) (fun c_9 => ?_) (fun c_9 => ?_)
  · skip
    have k_9 : ((A 36).toInt) ≤ k := (g_le rfl q_k).mp c_9
    refine lv_iload_n hx hb dX5_distinctDays_48 rfl (lv_at hl 1 rfl) ?_
    exact q_pret X w dX5_distinctDays_49 (by rw [q_cn, inv_4.2.1, show k = (A 36).toInt by omega])
  · skip
    have k_9 : ¬ (((A 36).toInt) ≤ k) := fun h => c_9 ((g_le rfl q_k).mpr h)
    refine lv_iload_n hx hb dX5_distinctDays_12 rfl (lv_at hl 0 rfl) ?_
    refine lv_bipush (v := 18) hx hb dX5_distinctDays_13 (by decide) ?_
    refine lv_icmp_ge (tgt := 48) hx hb dX5_distinctDays_15 (by decide) (fun c_15 => ?_) (fun c_15 => ?_)
    · skip
      have k_15 : 18 ≤ k := (g_le (show (18 : Int32).toInt = 18 from rfl) q_k).mp c_15
      exfalso; omega
    · skip
      have k_15 : ¬ (18 ≤ k) := fun h => c_15 ((g_le (show (18 : Int32).toInt = 18 from rfl) q_k).mpr h)
      refine lv_iload_n hx hb dX5_distinctDays_18 rfl (lv_at hl 0 rfl) ?_
      refine lv_if_eq (tgt := 39) hx hb dX5_distinctDays_19 (by decide) (fun c_19 => ?_) (fun c_19 => ?_)
      · skip
        have k_19 : k = 0 := (g_eq q_k (show (0 : Int32).toInt = 0 from rfl)).mp c_19
        obtain ⟨x_39, e_39⟩ : ∃ z : Int32, z = (v_cn + 1) := ⟨_, rfl⟩
        have p_39 : x_39.toInt = (cn + 1) := by rw [e_39]; exact t_add q_cn (show (1 : Int32).toInt = 1 from rfl) (by omega) (by omega)
        refine lv_iinc (v := x_39) (lv' := [(1, .int x_39), (2, .int v_k), (0, .ref (b + 36))]) hx hb dX5_distinctDays_39 hl (k := 1) rfl (by rw [e_39]; rfl) (by decide) rfl (fun ls hl => ?_)
        obtain ⟨x_42, e_42⟩ : ∃ z : Int32, z = (v_k + 1) := ⟨_, rfl⟩
        have p_42 : x_42.toInt = (k + 1) := by rw [e_42]; exact t_add q_k (show (1 : Int32).toInt = 1 from rfl) (by omega) (by omega)
        refine lv_iinc (v := x_42) (lv' := [(2, .int x_42), (1, .int x_39), (0, .ref (b + 36))]) hx hb dX5_distinctDays_42 hl (k := 1) rfl (by rw [e_42]; rfl) (by decide) rfl (fun ls hl => ?_)
        refine lv_goto (tgt := 4) hx hb dX5_distinctDays_45 (by decide) ?_
        refine ih_4 ⟨x_39, x_42, (cn + 1), (k + 1)⟩ ⟨p_39, p_42, by dsimp only; refine ⟨by omega, ?_, by omega⟩; rw [ddN_s (by omega), ← inv_4.2.1, if_pos (Or.inl k_19)]⟩ (by dsimp only; omega) ls (lv_sub hl [0, 1, 2] rfl)
      · skip
        have k_19 : ¬ (k = 0) := fun h => c_19 ((g_eq q_k (show (0 : Int32).toInt = 0 from rfl)).mpr h)
        refine lv_aload_n hx hb dX5_distinctDays_22 rfl (lv_at hl 2 rfl) ?_
        refine kg_X5_days X w dX5_distinctDays_23 ?_
        refine lv_iload_n hx hb dX5_distinctDays_26 rfl (lv_at hl 0 rfl) ?_
        refine kl_8 X w (g_in q_k (by omega)) dX5_distinctDays_27 ?_
        refine q_topE (y := B 8 k.toNat) (congrArg (B 8) (g_tn q_k)) ?_
        refine lv_aload_n hx hb dX5_distinctDays_28 rfl (lv_at hl 2 rfl) ?_
        refine kg_X5_days X w dX5_distinctDays_29 ?_
        refine lv_iload_n hx hb dX5_distinctDays_32 rfl (lv_at hl 0 rfl) ?_
        refine lv_iconst (v := 1) hx hb dX5_distinctDays_33 (by decide) ?_
        refine lv_isub hx hb dX5_distinctDays_34 ?_
        refine lv_topi (fun x_34 e_34 => ?_)
        have p_34 : x_34.toInt = (k - 1) := by rw [e_34]; exact t_sub q_k (show (1 : Int32).toInt = 1 from rfl) (by omega) (by omega)
        refine kl_8 X w (g_in p_34 (by omega)) dX5_distinctDays_35 ?_
        refine q_topE (y := B 8 (k - 1).toNat) (congrArg (B 8) (g_tn p_34)) ?_
        refine lv_icmp_eq (tgt := 42) hx hb dX5_distinctDays_36 (by decide) (fun c_36 => ?_) (fun c_36 => ?_)
        · skip
          have k_36 : ((B 8 k.toNat).toInt) = ((B 8 (k - 1).toNat).toInt) := (g_eq rfl rfl).mp c_36
          obtain ⟨x_42, e_42⟩ : ∃ z : Int32, z = (v_k + 1) := ⟨_, rfl⟩
          have p_42 : x_42.toInt = (k + 1) := by rw [e_42]; exact t_add q_k (show (1 : Int32).toInt = 1 from rfl) (by omega) (by omega)
          refine lv_iinc (v := x_42) (lv' := [(2, .int x_42), (1, .int v_cn), (0, .ref (b + 36))]) hx hb dX5_distinctDays_42 hl (k := 0) rfl (by rw [e_42]; rfl) (by decide) rfl (fun ls hl => ?_)
          refine lv_goto (tgt := 4) hx hb dX5_distinctDays_45 (by decide) ?_
          refine ih_4 ⟨v_cn, x_42, cn, (k + 1)⟩ ⟨q_cn, p_42, by dsimp only; refine ⟨by omega, ?_, by omega⟩; rw [ddN_s (by omega), ← inv_4.2.1, if_neg (fun q => q.elim k_19 (fun e => e k_36)), Int.add_zero]⟩ (by dsimp only; omega) ls (lv_sub hl [0, 1, 2] rfl)
        · skip
          have k_36 : ¬ (((B 8 k.toNat).toInt) = ((B 8 (k - 1).toNat).toInt)) := fun h => c_36 ((g_eq rfl rfl).mpr h)
          obtain ⟨x_39, e_39⟩ : ∃ z : Int32, z = (v_cn + 1) := ⟨_, rfl⟩
          have p_39 : x_39.toInt = (cn + 1) := by rw [e_39]; exact t_add q_cn (show (1 : Int32).toInt = 1 from rfl) (by omega) (by omega)
          refine lv_iinc (v := x_39) (lv' := [(1, .int x_39), (2, .int v_k), (0, .ref (b + 36))]) hx hb dX5_distinctDays_39 hl (k := 1) rfl (by rw [e_39]; rfl) (by decide) rfl (fun ls hl => ?_)
          obtain ⟨x_42, e_42⟩ : ∃ z : Int32, z = (v_k + 1) := ⟨_, rfl⟩
          have p_42 : x_42.toInt = (k + 1) := by rw [e_42]; exact t_add q_k (show (1 : Int32).toInt = 1 from rfl) (by omega) (by omega)
          refine lv_iinc (v := x_42) (lv' := [(2, .int x_42), (1, .int x_39), (0, .ref (b + 36))]) hx hb dX5_distinctDays_42 hl (k := 1) rfl (by rw [e_42]; rfl) (by decide) rfl (fun ls hl => ?_)
          refine lv_goto (tgt := 4) hx hb dX5_distinctDays_45 (by decide) ?_
          refine ih_4 ⟨x_39, x_42, (cn + 1), (k + 1)⟩ ⟨p_39, p_42, by dsimp only; refine ⟨by omega, ?_, by omega⟩; rw [ddN_s (by omega), ← inv_4.2.1, if_pos (Or.inr k_36)]⟩ (by dsimp only; omega) ls (lv_sub hl [0, 1, 2] rfl)
