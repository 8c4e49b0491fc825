section QJ
variable {l : Launch} {cc : ByteArray} {mL : Nat} {r : Option FieldType} {D : va_G} {t : Nat → ClassId} {b n : Nat} {σ : qM}
theorem qP.ofF {y : MethodName} {d : Nat} {As : List Value} {post : Int32 → Prop} (hy : plainFor y = true) (hA : (lg_sl As).length ≤ mL)
    (k : ∀ (p : Program) (e : Env) (s : State) (m : MethodId) (args : Array Value) (below : List Frame) (meth : Method) (c : Code), qX p s args m meth c y.cls cc mL r D t b → qW D b n σ s s.heap [] → ∀ ls : Array Slot, lv_has ls mL (lv_args 0 As) →
      W p l e (qR d 0 0) s m args below meth c s.heap [] 0 0 (MQ below (vp_Si post) args s 0 0 (fun _ => False)) (F0 m 0 ls [])) : qP l y cc mL r d D t b n σ As post := by
  refine va_MetF (cc := cc) (maxL := mL) (ret := r) hy rfl ?_
  intro p e s m args below meth c s₁ B hml hv
  obtain ⟨rfl, hw, hG⟩ := hv
  have hts := atoms_spec (ws := Cond.code y cc mL r :: TB) B.pre
  refine q_start hA (fun ls hl => ?_)
  exact k p e s m _ below meth c ⟨B.exec, B.bytes, fun w h => hts w (List.mem_cons_of_mem _ h), findClass_of_methodNamed B.named, hml, B.returns, B.notSynchronized, hG⟩ ⟨hw, va_S.rf, by rw [hw.1]; exact Nat.le_add_right _ _⟩ ls hl
end QJ
theorem dJ9_floorDiv_7cf53_0 : decode cJ9_floorDiv_7cf53 0 = .ok (.iload_n 0, 1) := by decide +kernel
theorem dJ9_floorDiv_7cf53_1 : decode cJ9_floorDiv_7cf53 1 = .ok (.iload_n 1, 1) := by decide +kernel
theorem dJ9_floorDiv_7cf53_2 : decode cJ9_floorDiv_7cf53 2 = .ok (.idiv, 1) := by decide +kernel
theorem dJ9_floorDiv_7cf53_3 : decode cJ9_floorDiv_7cf53 3 = .ok (.istore_n 2, 1) := by decide +kernel
theorem dJ9_floorDiv_7cf53_4 : decode cJ9_floorDiv_7cf53 4 = .ok (.iload_n 0, 1) := by decide +kernel
theorem dJ9_floorDiv_7cf53_5 : decode cJ9_floorDiv_7cf53 5 = .ok (.iload_n 1, 1) := by decide +kernel
theorem dJ9_floorDiv_7cf53_6 : decode cJ9_floorDiv_7cf53 6 = .ok (.ixor, 1) := by decide +kernel
theorem dJ9_floorDiv_7cf53_7 : decode cJ9_floorDiv_7cf53 7 = .ok (.ifCond .ge 14, 3) := by decide +kernel
theorem dJ9_floorDiv_7cf53_10 : decode cJ9_floorDiv_7cf53 10 = .ok (.iload_n 2, 1) := by decide +kernel
theorem dJ9_floorDiv_7cf53_11 : decode cJ9_floorDiv_7cf53 11 = .ok (.iload_n 1, 1) := by decide +kernel
theorem dJ9_floorDiv_7cf53_12 : decode cJ9_floorDiv_7cf53 12 = .ok (.imul, 1) := by decide +kernel
theorem dJ9_floorDiv_7cf53_13 : decode cJ9_floorDiv_7cf53 13 = .ok (.iload_n 0, 1) := by decide +kernel
theorem dJ9_floorDiv_7cf53_14 : decode cJ9_floorDiv_7cf53 14 = .ok (.if_icmp .eq 7, 3) := by decide +kernel
theorem dJ9_floorDiv_7cf53_17 : decode cJ9_floorDiv_7cf53 17 = .ok (.iload_n 2, 1) := by decide +kernel
theorem dJ9_floorDiv_7cf53_18 : decode cJ9_floorDiv_7cf53 18 = .ok (.iconst 1, 1) := by decide +kernel
theorem dJ9_floorDiv_7cf53_19 : decode cJ9_floorDiv_7cf53 19 = .ok (.isub, 1) := by decide +kernel
theorem dJ9_floorDiv_7cf53_20 : decode cJ9_floorDiv_7cf53 20 = .ok (.ireturn, 1) := by decide +kernel
theorem dJ9_floorDiv_7cf53_21 : decode cJ9_floorDiv_7cf53 21 = .ok (.iload_n 2, 1) := by decide +kernel
theorem dJ9_floorDiv_7cf53_22 : decode cJ9_floorDiv_7cf53 22 = .ok (.ireturn, 1) := by decide +kernel
theorem dJ9_floorMod_7cf53_0 : decode cJ9_floorMod_7cf53 0 = .ok (.iload_n 0, 1) := by decide +kernel
theorem dJ9_floorMod_7cf53_1 : decode cJ9_floorMod_7cf53 1 = .ok (.iload_n 1, 1) := by decide +kernel
theorem dJ9_floorMod_7cf53_2 : decode cJ9_floorMod_7cf53 2 = .ok (.irem, 1) := by decide +kernel
theorem dJ9_floorMod_7cf53_3 : decode cJ9_floorMod_7cf53 3 = .ok (.istore_n 2, 1) := by decide +kernel
theorem dJ9_floorMod_7cf53_4 : decode cJ9_floorMod_7cf53 4 = .ok (.iload_n 0, 1) := by decide +kernel
theorem dJ9_floorMod_7cf53_5 : decode cJ9_floorMod_7cf53 5 = .ok (.iload_n 1, 1) := by decide +kernel
theorem dJ9_floorMod_7cf53_6 : decode cJ9_floorMod_7cf53 6 = .ok (.ixor, 1) := by decide +kernel
theorem dJ9_floorMod_7cf53_7 : decode cJ9_floorMod_7cf53 7 = .ok (.ifCond .ge 11, 3) := by decide +kernel
theorem dJ9_floorMod_7cf53_10 : decode cJ9_floorMod_7cf53 10 = .ok (.iload_n 2, 1) := by decide +kernel
theorem dJ9_floorMod_7cf53_11 : decode cJ9_floorMod_7cf53 11 = .ok (.ifCond .eq 7, 3) := by decide +kernel
theorem dJ9_floorMod_7cf53_14 : decode cJ9_floorMod_7cf53 14 = .ok (.iload_n 2, 1) := by decide +kernel
theorem dJ9_floorMod_7cf53_15 : decode cJ9_floorMod_7cf53 15 = .ok (.iload_n 1, 1) := by decide +kernel
theorem dJ9_floorMod_7cf53_16 : decode cJ9_floorMod_7cf53 16 = .ok (.iadd, 1) := by decide +kernel
theorem dJ9_floorMod_7cf53_17 : decode cJ9_floorMod_7cf53 17 = .ok (.ireturn, 1) := by decide +kernel
theorem dJ9_floorMod_7cf53_18 : decode cJ9_floorMod_7cf53 18 = .ok (.iload_n 2, 1) := by decide +kernel
theorem dJ9_floorMod_7cf53_19 : decode cJ9_floorMod_7cf53 19 = .ok (.ireturn, 1) := by decide +kernel
theorem t_xsg {a b : Int32} (hb : 0 ≤ b.toInt) : 0 ≤ (a ^^^ b).toInt ↔ 0 ≤ a.toInt := by
  have h : ∀ x : Int32, x.toBitVec.msb = decide (x.toInt < 0) := fun x => BitVec.msb_eq_toInt
  have h1 := h (a ^^^ b)
  rw [Int32.toBitVec_xor, BitVec.msb_xor, h a, h b] at h1
  have hb' : decide (b.toInt < 0) = false := by rw [decide_eq_false_iff_not]; omega
  rw [hb', Bool.xor_false] at h1
  have := decide_eq_decide.mp h1
  omega
theorem fm_neg {x y : Int} (hx : x < 0) (hy : 0 < y) : Int.tdiv x y = -((-x) / y) ∧ Int.tmod x y = -((-x) % y) := by
  have e : x = -(-x) := by omega
  constructor
  · rw [e, Int.neg_tdiv, Int.tdiv_eq_ediv_of_nonneg (by omega)]; simp
  · rw [e, Int.neg_tmod, Int.tmod_eq_emod_of_nonneg (by omega)]; simp
theorem t_divT {a b : Int32} {x y : Int} (ha : a.toInt = x) (hb : b.toInt = y) (hy : 0 < y) : (a / b).toInt = Int.tdiv x y := by
  have h1 := i_rng a
  rw [Int32.toInt_div, ha, hb, i_bm]
  by_cases hx : 0 ≤ x
  · have h3 : x / y ≤ x := Int.ediv_le_self _ hx
    have h4 : 0 ≤ x / y := Int.ediv_nonneg hx (by omega)
    rw [Int.tdiv_eq_ediv_of_nonneg hx]
    omega
  · have h3 : (-x) / y ≤ -x := Int.ediv_le_self _ (by omega)
    have h4 : 0 ≤ (-x) / y := Int.ediv_nonneg (by omega) (by omega)
    rw [(fm_neg (by omega) hy).1]
    omega
theorem t_remT {a b : Int32} {x y : Int} (ha : a.toInt = x) (hb : b.toInt = y) (hy : 0 < y) : (a - a / b * b).toInt = Int.tmod x y := by
  have h1 := i_rng a
  have hd := t_divT ha hb hy
  by_cases hx : 0 ≤ x
  · rw [t_rem ha hb hx hy, Int.tmod_eq_emod_of_nonneg hx]
  · have h3 : (-x) / y ≤ -x := Int.ediv_le_self _ (by omega)
    have h4 : 0 ≤ (-x) / y := Int.ediv_nonneg (by omega) (by omega)
    have h5 : (-x) / y * y ≤ -x := Int.ediv_mul_le (-x) (by omega)
    have h6 : 0 ≤ (-x) / y * y := Int.mul_nonneg h4 (by omega)
    have h7 := Int.emod_def (-x) y
    rw [Int.mul_comm] at h7
    rw [(fm_neg (by omega) hy).1] at hd
    have q1 : (a / b * b).toInt = -((-x) / y) * y := t_mul hd hb (by rw [Int.neg_mul]; omega) (by rw [Int.neg_mul]; omega)
    rw [Int.neg_mul] at q1
    rw [t_sub ha q1 (by omega) (by omega), (fm_neg (by omega) hy).2]
    omega
theorem fm_bd {x y : Int} (hx : x < 0) (hy : 0 < y) : -y < Int.tmod x y ∧ Int.tmod x y ≤ 0 := by
  have h1 := Int.emod_nonneg (-x) (show y ≠ 0 by omega)
  have h2 := Int.emod_lt_of_pos (-x) hy
  rw [(fm_neg hx hy).2]
  omega
theorem fm_1 {x y : Int} (hx : 0 ≤ x) : Int.tmod x y = x % y := Int.tmod_eq_emod_of_nonneg hx
theorem fm_2 {x y : Int} (hx : x < 0) (hy : 0 < y) (h : Int.tmod x y = 0) : x % y = 0 := by
  rw [(fm_neg hx hy).2] at h
  have h1 : (-x) % y = 0 := by omega
  exact Int.emod_eq_zero_of_dvd (Int.dvd_neg.mp (Int.dvd_of_emod_eq_zero h1))
theorem fm_3 {x y : Int} (hx : x < 0) (hy : 0 < y) (h : ¬ Int.tmod x y = 0) : Int.tmod x y + y = x % y := by
  rw [(fm_neg hx hy).2] at h ⊢
  have h1 := Int.emod_nonneg (-x) (show y ≠ 0 by omega)
  have h2 := Int.emod_lt_of_pos (-x) hy
  have h3 := Int.mul_ediv_add_emod (-x) y
  have h4 : x = (-((-x) % y) + y) + y * (-((-x) / y) - 1) := by rw [Int.mul_sub, Int.mul_neg]; omega
  have h5 : x % y = ((-((-x) % y) + y) + y * (-((-x) / y) - 1)) % y := congrArg (fun z => z % y) h4
  rw [h5, Int.add_mul_emod_self_left, Int.emod_eq_of_lt (a := -((-x) % y) + y) (by omega) (by omega)]
theorem fd_1 {x y : Int} (hx : 0 ≤ x) : Int.tdiv x y = x / y := Int.tdiv_eq_ediv_of_nonneg hx
theorem fd_bd {x y : Int} (hx : x < 0) (hy : 0 < y) : x ≤ Int.tdiv x y ∧ Int.tdiv x y ≤ 0 ∧ x ≤ Int.tdiv x y * y ∧ Int.tdiv x y * y ≤ 0 := by
  have h3 : (-x) / y ≤ -x := Int.ediv_le_self _ (by omega)
  have h4 : 0 ≤ (-x) / y := Int.ediv_nonneg (by omega) (by omega)
  have h5 : (-x) / y * y ≤ -x := Int.ediv_mul_le (-x) (by omega)
  have h6 : 0 ≤ (-x) / y * y := Int.mul_nonneg h4 (by omega)
  rw [(fm_neg hx hy).1, Int.neg_mul]
  omega
theorem fd_4 {x y : Int} (hx : x < 0) (hy : 0 < y) (h : ¬ Int.tdiv x y * y = x) : x < Int.tdiv x y := by
  have h1 := fd_bd hx hy
  rcases Int.lt_or_eq_of_le h1.1 with q | q
  · exact q
  · exfalso
    rw [← q] at h h1
    have h2 : x * y ≤ x * 1 := Int.mul_le_mul_of_nonpos_left (by omega) (by omega)
    omega
theorem fd_2 {x y : Int} (hy : 0 < y) (h : Int.tdiv x y * y = x) : Int.tdiv x y = x / y := by
  conv => rhs; rw [← h]
  rw [Int.mul_ediv_cancel _ (by omega)]
theorem fd_3 {x y : Int} (hx : x < 0) (hy : 0 < y) (h : ¬ Int.tdiv x y * y = x) : Int.tdiv x y - 1 = x / y := by
  have h0 : ¬ Int.tmod x y = 0 := fun q => h (by have := Int.tdiv_mul_add_tmod x y; omega)
  have h1 := fm_3 hx hy h0
  have h2 := Int.tdiv_mul_add_tmod x y
  have h3 := Int.mul_ediv_add_emod x y
  have h4 : y * (Int.tdiv x y - 1) = y * (x / y) := by rw [Int.mul_sub, Int.mul_comm y (Int.tdiv x y)]; omega
  exact Int.eq_of_mul_eq_mul_left (by omega) h4
set_option maxHeartbeats 4000000 in
set_option maxRecDepth 100000 in
theorem c_J9_floorMod_7cf53 (l : Launch) (a_x : Int32) (a_y : Int32) (x : Int) (y : Int) (e_x : a_x.toInt = x) (e_y : a_y.toInt = y) (h_1 : 0 < y) : qF l yJ9_floorMod_7cf53 cJ9_floorMod_7cf53 3 (some .int) 0 [.int a_x, .int a_y] (fun z => z.toInt = x % y) := by
  intro D t b n σ
  refine qP.ofF (by decide +kernel) (Nat.le_of_ble_eq_true rfl) (fun p e s m args below meth c X w ls hl => ?_)
  have hx := X.1
  have hb := X.2.1
  have hl : lv_has ls 3 [(0, .int a_x), (1, .int a_y)] := hl
  refine lv_iload_n hx hb dJ9_floorMod_7cf53_0 rfl (lv_at hl 0 rfl) ?_
  refine lv_iload_n hx hb dJ9_floorMod_7cf53_1 rfl (lv_at hl 1 rfl) ?_
  refine lv_irem hx hb dJ9_floorMod_7cf53_2 (g_ne0 e_y (by omega)) ?_
  refine lv_topi (fun x_2 e_2 => ?_)
  have p_2 : x_2.toInt = Int.tmod x y := by rw [e_2]; exact t_remT e_x e_y h_1
  refine lv_istore_n (lv' := [(2, .int x_2), (0, .int a_x), (1, .int a_y)]) hx hb dJ9_floorMod_7cf53_3 rfl hl (by decide) rfl (fun ls hl => ?_)
  refine lv_iload_n hx hb dJ9_floorMod_7cf53_4 rfl (lv_at hl 1 rfl) ?_
  refine lv_iload_n hx hb dJ9_floorMod_7cf53_5 rfl (lv_at hl 2 rfl) ?_
  refine lv_ixor hx hb dJ9_floorMod_7cf53_6 ?_
  refine lv_topi (fun x_6 e_6 => ?_)
  have p_6 : x_6.toInt = (a_x ^^^ a_y).toInt := by rw [e_6]; all_goals rfl
  refine lv_if_ge (tgt := 18) hx hb dJ9_floorMod_7cf53_7 (by decide) (fun c_7 => ?_) (fun c_7 => ?_)
  · skip
    have k_7 : 0 ≤ ((a_x ^^^ a_y).toInt) := (g_le (show (0 : Int32).toInt = 0 from rfl) p_6).mp c_7
    rw [t_xsg (by omega), e_x] at k_7
    refine lv_iload_n hx hb dJ9_floorMod_7cf53_18 rfl (lv_at hl 0 rfl) ?_
    exact q_pret X w dJ9_floorMod_7cf53_19 (by first | (rw [p_2]; exact fm_1 (by omega)) | (rw [p_2, fm_2 (by omega) h_1 (by omega)]; omega))
  · skip
    have k_7 : ¬ (0 ≤ ((a_x ^^^ a_y).toInt)) := fun h => c_7 ((g_le (show (0 : Int32).toInt = 0 from rfl) p_6).mpr h)
    rw [t_xsg (by omega), e_x] at k_7
    have kb := fm_bd (x := x) (y := y) (by omega) h_1
    have ky := i_rng a_y
    refine lv_iload_n hx hb dJ9_floorMod_7cf53_10 rfl (lv_at hl 0 rfl) ?_
    refine lv_if_eq (tgt := 18) hx hb dJ9_floorMod_7cf53_11 (by decide) (fun c_11 => ?_) (fun c_11 => ?_)
    · skip
      have k_11 : (Int.tmod x y) = 0 := (g_eq p_2 (show (0 : Int32).toInt = 0 from rfl)).mp c_11
      refine lv_iload_n hx hb dJ9_floorMod_7cf53_18 rfl (lv_at hl 0 rfl) ?_
      exact q_pret X w dJ9_floorMod_7cf53_19 (by first | (rw [p_2]; exact fm_1 (by omega)) | (rw [p_2, fm_2 (by omega) h_1 (by omega)]; omega))
    · skip
      have k_11 : ¬ ((Int.tmod x y) = 0) := fun h => c_11 ((g_eq p_2 (show (0 : Int32).toInt = 0 from rfl)).mpr h)
      refine lv_iload_n hx hb dJ9_floorMod_7cf53_14 rfl (lv_at hl 0 rfl) ?_
      refine lv_iload_n hx hb dJ9_floorMod_7cf53_15 rfl (lv_at hl 2 rfl) ?_
      refine lv_iadd hx hb dJ9_floorMod_7cf53_16 ?_
      refine lv_topi (fun x_16 e_16 => ?_)
      have p_16 : x_16.toInt = ((Int.tmod x y) + y) := by rw [e_16]; exact t_add p_2 e_y (by omega) (by omega)
      exact q_pret X w dJ9_floorMod_7cf53_17 (by rw [p_16]; exact fm_3 (by omega) h_1 (by omega))

set_option maxHeartbeats 4000000 in
set_option maxRecDepth 100000 in
theorem c_J9_floorDiv_7cf53 (l : Launch) (a_x : Int32) (a_y : Int32) (x : Int) (y : Int) (e_x : a_x.toInt = x) (e_y : a_y.toInt = y) (h_1 : 0 < y) : qF l yJ9_floorDiv_7cf53 cJ9_floorDiv_7cf53 3 (some .int) 0 [.int a_x, .int a_y] (fun z => z.toInt = x / y) := by
  intro D t b n σ
  refine qP.ofF (by decide +kernel) (Nat.le_of_ble_eq_true rfl) (fun p e s m args below meth c X w ls hl => ?_)
  have hx := X.1
  have hb := X.2.1
  have hl : lv_has ls 3 [(0, .int a_x), (1, .int a_y)] := hl
  refine lv_iload_n hx hb dJ9_floorDiv_7cf53_0 rfl (lv_at hl 0 rfl) ?_
  refine lv_iload_n hx hb dJ9_floorDiv_7cf53_1 rfl (lv_at hl 1 rfl) ?_
  refine lv_idiv hx hb dJ9_floorDiv_7cf53_2 (g_ne0 e_y (by omega)) ?_
  refine lv_topi (fun x_2 e_2 => ?_)
  have p_2 : x_2.toInt = Int.tdiv x y := by rw [e_2]; exact t_divT e_x e_y h_1
  refine lv_istore_n (lv' := [(2, .int x_2), (0, .int a_x), (1, .int a_y)]) hx hb dJ9_floorDiv_7cf53_3 rfl hl (by decide) rfl (fun ls hl => ?_)
  refine lv_iload_n hx hb dJ9_floorDiv_7cf53_4 rfl (lv_at hl 1 rfl) ?_
  refine lv_iload_n hx hb dJ9_floorDiv_7cf53_5 rfl (lv_at hl 2 rfl) ?_
  refine lv_ixor hx hb dJ9_floorDiv_7cf53_6 ?_
  refine lv_topi (fun x_6 e_6 => ?_)
  have p_6 : x_6.toInt = (a_x ^^^ a_y).toInt := by rw [e_6]; all_goals rfl
  refine lv_if_ge (tgt := 21) hx hb dJ9_floorDiv_7cf53_7 (by decide) (fun c_7 => ?_) (fun c_7 => ?_)
  · skip
    have k_7 : 0 ≤ ((a_x ^^^ a_y).toInt) := (g_le (show (0 : Int32).toInt = 0 from rfl) p_6).mp c_7
    rw [t_xsg (by omega), e_x] at k_7
    refine lv_iload_n hx hb dJ9_floorDiv_7cf53_21 rfl (lv_at hl 0 rfl) ?_
    exact q_pret X w dJ9_floorDiv_7cf53_22 (by first | (rw [p_2]; exact fd_1 (by omega)) | (rw [p_2]; exact fd_2 h_1 (by omega)))
  · skip
    have k_7 : ¬ (0 ≤ ((a_x ^^^ a_y).toInt)) := fun h => c_7 ((g_le (show (0 : Int32).toInt = 0 from rfl) p_6).mpr h)
    rw [t_xsg (by omega), e_x] at k_7
    have kb := fd_bd (x := x) (y := y) (by omega) h_1
    have ky := i_rng a_x
    refine lv_iload_n hx hb dJ9_floorDiv_7cf53_10 rfl (lv_at hl 0 rfl) ?_
    refine lv_iload_n hx hb dJ9_floorDiv_7cf53_11 rfl (lv_at hl 2 rfl) ?_
    refine lv_imul hx hb dJ9_floorDiv_7cf53_12 ?_
    refine lv_topi (fun x_12 e_12 => ?_)
    have p_12 : x_12.toInt = ((Int.tdiv x y) * y) := by rw [e_12]; exact t_mul p_2 e_y (by omega) (by omega)
    refine lv_iload_n hx hb dJ9_floorDiv_7cf53_13 rfl (lv_at hl 1 rfl) ?_
    refine lv_icmp_eq (tgt := 21) hx hb dJ9_floorDiv_7cf53_14 (by decide) (fun c_14 => ?_) (fun c_14 => ?_)
    · skip
      have k_14 : ((Int.tdiv x y) * y) = x := (g_eq p_12 e_x).mp c_14
      refine lv_iload_n hx hb dJ9_floorDiv_7cf53_21 rfl (lv_at hl 0 rfl) ?_
      exact q_pret X w dJ9_floorDiv_7cf53_22 (by first | (rw [p_2]; exact fd_1 (by omega)) | (rw [p_2]; exact fd_2 h_1 (by omega)))
    · skip
      have k_14 : ¬ (((Int.tdiv x y) * y) = x) := fun h => c_14 ((g_eq p_12 e_x).mpr h)
      have kd := fd_4 (by omega) h_1 k_14
      refine lv_iload_n hx hb dJ9_floorDiv_7cf53_17 rfl (lv_at hl 0 rfl) ?_
      refine lv_iconst (v := 1) hx hb dJ9_floorDiv_7cf53_18 (by decide) ?_
      refine lv_isub hx hb dJ9_floorDiv_7cf53_19 ?_
      refine lv_topi (fun x_19 e_19 => ?_)
      have p_19 : x_19.toInt = ((Int.tdiv x y) - 1) := by rw [e_19]; exact t_sub p_2 (show (1 : Int32).toInt = 1 from rfl) (by omega) (by omega)
      exact q_pret X w dJ9_floorDiv_7cf53_20 (by rw [p_19]; exact fd_3 (by omega) h_1 (by omega))

