set_option maxHeartbeats 2000000 in
set_option maxRecDepth 100000 in
theorem c_J7_fill (l : Launch) (D : va_G) (t : Nat → ClassId) (b n : Nat) (σ : qM) (k : Nat) (f : Nat → Int32) (a_v : Int32) (h_1 : σ k = some (.inl (t 0, 8, .inl f))) : qV l yJ7_fill_53178 cJ7_fill_53178 4 0 0 0 D t b n σ [.ref (b + k), .int a_v] (fun n1 σ1 => n1 = n ∧ ∃ f' : Nat → Int32, σ1 = va_up σ k (some (.inl (t 0, 8, .inl f'))) ∧ ∀ j : Nat, j < 8 → f' j = a_v) := by
  refine qV.ofF (by decide +kernel) (Nat.le_of_ble_eq_true rfl) (fun p e s m args below meth c X w ls hl => ?_)
  have hx := X.1
  have hb := X.2.1
  have hl : lv_has ls 4 [(0, .ref (b + k)), (1, .int a_v)] := hl
  have w : qW D b n (va_up σ k (some (.inl (t 0, 8, .inl f)))) s s.heap [] := by rw [← h_1, va_id]; exact w
  refine lv_iconst (v := 0) hx hb dJ7_fill_53178_0 (by decide) ?_
  refine lv_istore_n (lv' := [(2, .int 0), (0, .ref (b + k)), (1, .int a_v)]) hx hb dJ7_fill_53178_1 rfl hl (by decide) rfl (fun ls hl => ?_)
  refine lv_aload_n hx hb dJ7_fill_53178_2 rfl (lv_at hl 1 rfl) ?_
  refine q_alen X w 0 rfl (k := k) (va_up_self _ _ _) dJ7_fill_53178_3 ?_
  refine q_topE (y := 8) rfl ?_
  refine lv_istore_n (lv' := [(3, .int 8), (2, .int 0), (0, .ref (b + k)), (1, .int a_v)]) hx hb dJ7_fill_53178_4 rfl hl (by decide) rfl (fun ls hl => ?_)
  refine q_loop (α := Int32 × Int × (Nat → Int32)) (fun a => a.1.toInt = a.2.1 ∧ ((0 ≤ a.2.1 ∧ a.2.1 ≤ 8) ∧ ∀ j : Nat, (j : Int) < a.2.1 → a.2.2 j = a_v)) (fun a => (8 - a.2.1).toNat) (fun a => ∀ (H : Heap) (locs : List Loc), qW D b n (va_up σ k (some (.inl (t 0, 8, .inl a.2.2)))) s H locs → ∀ ls : Array Slot, lv_has ls 4 [(3, .int 8), (2, .int a.1), (0, .ref (b + k)), (1, .int a_v)] → W p l e (qR 0 0 0) s m args below meth c H locs 0 0 (MQ below (va_Qv (S := Nat × qM) (fun z7 => (fun n1 σ1 => n1 = n ∧ ∃ f' : Nat → Int32, σ1 = va_up σ k (some (.inl (t 0, 8, .inl f'))) ∧ ∀ j : Nat, j < 8 → f' j = a_v) z7.1 z7.2) (fun z7 T => WB D b z7.1 z7.2 T.heap) (fun q => b ≤ q)) args s 0 0 (fun q => b ≤ q)) (F0 m 5 ls [])) ?_ ⟨0, 0, f⟩ ⟨(show (0 : Int32).toInt = 0 from rfl), by dsimp only; exact ⟨by omega, fun j _ => by omega⟩⟩ _ _ w ls (lv_sub hl [0, 1, 2, 3] rfl)
  rintro ⟨v_i, i, I_L5⟩ ⟨q_i, inv_5⟩ ih_5 H locs w ls hl
  dsimp only at q_i inv_5 hl w
  refine lv_iload_n hx hb dJ7_fill_53178_5 rfl (lv_at hl 1 rfl) ?_
  refine lv_iload_n hx hb dJ7_fill_53178_6 rfl (lv_at hl 0 rfl) ?_
  refine lv_icmp_ge (tgt := 20) hx hb dJ7_fill_53178_7 (by decide) (fun c_7 => ?_) (fun c_7 => ?_)
  · skip
    have k_7 : 8 ≤ i := (g_le (show (8 : Int32).toInt = 8 from rfl) q_i).mp c_7
    exact q_vret (post := fun n1 σ1 => n1 = n ∧ ∃ f' : Nat → Int32, σ1 = va_up σ k (some (.inl (t 0, 8, .inl f'))) ∧ ∀ j : Nat, j < 8 → f' j = a_v) X w dJ7_fill_53178_20 ⟨rfl, I_L5, rfl, fun j hj => inv_5.2 j (by omega)⟩
  · skip
    have k_7 : ¬ (8 ≤ i) := fun h => c_7 ((g_le (show (8 : Int32).toInt = 8 from rfl) q_i).mpr h)
    refine lv_aload_n hx hb dJ7_fill_53178_10 rfl (lv_at hl 2 rfl) ?_
    refine lv_iload_n hx hb dJ7_fill_53178_11 rfl (lv_at hl 1 rfl) ?_
    refine lv_iload_n hx hb dJ7_fill_53178_12 rfl (lv_at hl 3 rfl) ?_
    refine q_iast X w (k := k) (x := a_v) (va_up_self _ _ _) (g_in q_i (by omega)) dJ7_fill_53178_13 (fun H locs w => ?_)
    rw [uu, g_tn (show v_i.toInt = i from q_i)] at w
    obtain ⟨x_14, e_14⟩ : ∃ z : Int32, z = (v_i + 1) := ⟨_, rfl⟩
    have p_14 : x_14.toInt = (i + 1) := by rw [e_14]; exact t_add q_i (show (1 : Int32).toInt = 1 from rfl) (by omega) (by omega)
    refine lv_iinc (v := x_14) (lv' := [(2, .int x_14), (3, .int 8), (0, .ref (b + k)), (1, .int a_v)]) hx hb dJ7_fill_53178_14 hl (k := 1) rfl (by rw [e_14]; rfl) (by decide) rfl (fun ls hl => ?_)
    refine lv_goto (tgt := 5) hx hb dJ7_fill_53178_17 (by decide) ?_
    refine ih_5 ⟨x_14, (i + 1), (upd I_L5 i.toNat a_v)⟩ ⟨p_14, by dsimp only; exact ⟨by omega, fun j hj => by by_cases e : j = i.toNat; (rw [e]; exact pk_us); (rw [pk_un e]; exact inv_5.2 j (by omega))⟩⟩ (by dsimp only; omega) _ _ w ls (lv_sub hl [1, 0, 2, 3] rfl)
