set_option maxHeartbeats 4000000 in
set_option maxRecDepth 100000 in
theorem c_X9_comesReading (l : Launch) (D : va_G) (t : Nat → ClassId) (b n : Nat) (σ0 : qM) (I : Nat → Int32) (Rw : Nat → Nat → Int32) (q : Nat → Ent) (a_ca : Int32) (a_o : Int32) (a_dy : Int32) (ca : Int) (o : Int) (dy : Int) (e_ca : a_ca.toInt = ca) (e_o : a_o.toInt = o) (e_dy : a_dy.toInt = dy) (h_1 : 0 ≤ (I 23).toInt ∧ (I 23).toInt ≤ 17) (h_2 : rdP Rw (q, (I 23).toInt.toNat)) : mV l yX9_comesReading cX9_comesReading 5 0 D t b n σ0 I Rw [.ref (b + 45), .int a_ca, .int a_o, .int a_dy] (fun I1 R1 => kpI [23] I I1 ∧ (I1 23).toInt = (I 23).toInt + 1 ∧ kpR [20, 21, 22] Rw R1 ∧ rdP R1 (insF q (ca, o, dy) (I 23).toInt.toNat, (I 23).toInt.toNat + 1)) := by
  refine qV.of (by decide +kernel) (Nat.le_of_ble_eq_true rfl) (fun p e s m args below meth c X w _ ls hl => ?_)
  have hx := X.1
  have hb := X.2.1
  have hl : lv_has ls 5 [(0, .ref (b + 45)), (1, .int a_ca), (2, .int a_o), (3, .int a_dy)] := hl
  refine lv_aload_n hx hb dX9_comesReading_0 rfl (lv_at hl 0 rfl) ?_
  refine mg_readingMany X w dX9_comesReading_1 ?_
  refine lv_istore (lv' := [(4, .int (I 23)), (0, .ref (b + 45)), (1, .int a_ca), (2, .int a_o), (3, .int a_dy)]) hx hb dX9_comesReading_4 hl (by decide) rfl (fun ls hl => ?_)
  refine q_loop (α := Int32 × Int × (Nat → Nat → Int32)) (fun a => a.1.toInt = a.2.1 ∧ (kpR [20, 21, 22] Rw a.2.2 ∧ (0 ≤ a.2.1 ∧ a.2.1 ≤ (I 23).toInt) ∧ (∀ j : Nat, (j : Int) < a.2.1 → entM a.2.2 j = q j) ∧ (∀ j : Nat, a.2.1 < (j : Int) → j ≤ (I 23).toInt.toNat → entM a.2.2 j = insF q (ca, o, dy) (I 23).toInt.toNat j) ∧ (∀ j : Nat, (j : Int) ≤ a.2.1 → insF q (ca, o, dy) (I 23).toInt.toNat j = insF q (ca, o, dy) a.2.1.toNat j))) (fun a => a.2.1.toNat) (fun a => ∀ (H : Heap) (locs : List Loc), qW D b n (mS t b σ0 I a.2.2) s H locs → ∀ ls : Array Slot, lv_has ls 5 [(4, .int a.1), (0, .ref (b + 45)), (1, .int a_ca), (2, .int a_o), (3, .int a_dy)] → W p l e (qR 0 0 0) s m args below meth c H locs 0 0 (MQ below (va_Qv (S := Nat × qM) (fun u => (fun n1 σ1 => n1 = n ∧ ∃ I1 R1, σ1 = mS t b σ0 I1 R1 ∧ kpI [23] I I1 ∧ (I1 23).toInt = (I 23).toInt + 1 ∧ kpR [20, 21, 22] Rw R1 ∧ rdP R1 (insF q (ca, o, dy) (I 23).toInt.toNat, (I 23).toInt.toNat + 1)) u.1 u.2) (fun u T => WB D b u.1 u.2 T.heap) (fun q => b ≤ q)) args s 0 0 (fun q => b ≤ q)) (F0 m 6 ls [])) ?_ ⟨(I 23), (I 23).toInt, Rw⟩ ⟨rfl, by dsimp only; exact ⟨kpR.rf, by omega, fun j a => h_2 j (show j < (I 23).toInt.toNat by omega), fun j a b => by omega, fun j a => rfl⟩⟩ _ _ w ls (lv_sub hl [0, 1, 2, 3, 4] rfl)
  rintro ⟨v_k, k, R_L6⟩ ⟨q_k, inv_6⟩ ih_6 H locs w ls hl
  dsimp only at q_k inv_6 hl w
  refine lv_iload hx hb dX9_comesReading_6 (lv_at hl 0 rfl) ?_
  refine lv_if_le (tgt := 78) hx hb dX9_comesReading_8 (by decide) (fun c_8 => ?_) (fun c_8 => ?_)
  · skip
    have k_8 : k ≤ 0 := (g_le q_k (show (0 : Int32).toInt = 0 from rfl)).mp c_8
    refine lv_aload_n hx hb dX9_comesReading_78 rfl (lv_at hl 1 rfl) ?_
    refine mg_readingCalendar X w dX9_comesReading_79 ?_
    refine lv_iload hx hb dX9_comesReading_82 (lv_at hl 0 rfl) ?_
    refine lv_iload_n hx hb dX9_comesReading_84 rfl (lv_at hl 2 rfl) ?_
    refine ms_readingCalendar (x := a_ca) X w (g_in q_k (by omega)) dX9_comesReading_85 (fun H locs w => ?_)
    rw [g_tn q_k] at w
    refine lv_aload_n hx hb dX9_comesReading_86 rfl (lv_at hl 1 rfl) ?_
    refine mg_readingOrder X w dX9_comesReading_87 ?_
    refine lv_iload hx hb dX9_comesReading_90 (lv_at hl 0 rfl) ?_
    refine lv_iload_n hx hb dX9_comesReading_92 rfl (lv_at hl 3 rfl) ?_
    refine ms_readingOrder (x := a_o) X w (g_in q_k (by omega)) dX9_comesReading_93 (fun H locs w => ?_)
    rw [g_tn q_k] at w
    refine lv_aload_n hx hb dX9_comesReading_94 rfl (lv_at hl 1 rfl) ?_
    refine mg_readingDay X w dX9_comesReading_95 ?_
    refine lv_iload hx hb dX9_comesReading_98 (lv_at hl 0 rfl) ?_
    refine lv_iload_n hx hb dX9_comesReading_100 rfl (lv_at hl 4 rfl) ?_
    refine ms_readingDay (x := a_dy) X w (g_in q_k (by omega)) dX9_comesReading_101 (fun H locs w => ?_)
    rw [g_tn q_k] at w
    refine lv_aload_n hx hb dX9_comesReading_102 rfl (lv_at hl 1 rfl) ?_
    refine lv_dup hx hb dX9_comesReading_103 rfl ?_
    refine mg_readingMany X w dX9_comesReading_104 ?_
    refine lv_iconst (v := 1) hx hb dX9_comesReading_107 (by decide) ?_
    refine lv_iadd hx hb dX9_comesReading_108 ?_
    refine lv_topi (fun x_108 e_108 => ?_)
    have p_108 : x_108.toInt = (((I 23).toInt) + 1) := by rw [e_108]; exact t_add rfl (show (1 : Int32).toInt = 1 from rfl) (by omega) (by omega)
    refine mp_readingMany (v := x_108) X w dX9_comesReading_109 (fun H locs w => ?_)
    exact q_vret (post := (fun n1 σ1 => n1 = n ∧ ∃ I1 R1, σ1 = mS t b σ0 I1 R1 ∧ kpI [23] I I1 ∧ (I1 23).toInt = (I 23).toInt + 1 ∧ kpR [20, 21, 22] Rw R1 ∧ rdP R1 (insF q (ca, o, dy) (I 23).toInt.toNat, (I 23).toInt.toNat + 1))) X w dX9_comesReading_112 ⟨rfl, _, _, rfl, by have hs := rd_end (R := R_L6) (S := (va_up (va_up (va_up R_L6 20 (upd (R_L6 20) k.toNat a_ca)) 21 (upd (R_L6 21) k.toNat a_o)) 22 (upd (R_L6 22) k.toNat a_dy))) (x := (ca, o, dy)) inv_6.2.2.1 inv_6.2.2.2.1 inv_6.2.2.2.2 (Or.inl k_8) (by omega) (entM_s.trans (by rw [e_ca, e_o, e_dy])) (fun j hj => entM_n hj); exact ⟨kpI.up kpI.rf (by decide), p_108, ((inv_6.1.up (by decide)).up (by decide)).up (by decide), hs⟩⟩
  · skip
    have k_8 : ¬ (k ≤ 0) := fun h => c_8 ((g_le q_k (show (0 : Int32).toInt = 0 from rfl)).mpr h)
    refine lv_aload_n hx hb dX9_comesReading_11 rfl (lv_at hl 1 rfl) ?_
    refine mg_readingDay X w dX9_comesReading_12 ?_
    refine lv_iload hx hb dX9_comesReading_15 (lv_at hl 0 rfl) ?_
    refine lv_iconst (v := 1) hx hb dX9_comesReading_17 (by decide) ?_
    refine lv_isub hx hb dX9_comesReading_18 ?_
    refine lv_topi (fun x_18 e_18 => ?_)
    have p_18 : x_18.toInt = (k - 1) := by rw [e_18]; exact t_sub q_k (show (1 : Int32).toInt = 1 from rfl) (by omega) (by omega)
    refine ml_readingDay X w (g_in p_18 (by omega)) dX9_comesReading_19 ?_
    refine q_topE (y := R_L6 22 (k - 1).toNat) (congrArg (R_L6 22) (g_tn p_18)) ?_
    refine lv_iload_n hx hb dX9_comesReading_20 rfl (lv_at hl 4 rfl) ?_
    refine lv_icmp_le (tgt := 78) hx hb dX9_comesReading_21 (by decide) (fun c_21 => ?_) (fun c_21 => ?_)
    · skip
      have k_21 : ((R_L6 22 (k - 1).toNat).toInt) ≤ dy := (g_le rfl e_dy).mp c_21
      refine lv_aload_n hx hb dX9_comesReading_78 rfl (lv_at hl 1 rfl) ?_
      refine mg_readingCalendar X w dX9_comesReading_79 ?_
      refine lv_iload hx hb dX9_comesReading_82 (lv_at hl 0 rfl) ?_
      refine lv_iload_n hx hb dX9_comesReading_84 rfl (lv_at hl 2 rfl) ?_
      refine ms_readingCalendar (x := a_ca) X w (g_in q_k (by omega)) dX9_comesReading_85 (fun H locs w => ?_)
      rw [g_tn q_k] at w
      refine lv_aload_n hx hb dX9_comesReading_86 rfl (lv_at hl 1 rfl) ?_
      refine mg_readingOrder X w dX9_comesReading_87 ?_
      refine lv_iload hx hb dX9_comesReading_90 (lv_at hl 0 rfl) ?_
      refine lv_iload_n hx hb dX9_comesReading_92 rfl (lv_at hl 3 rfl) ?_
      refine ms_readingOrder (x := a_o) X w (g_in q_k (by omega)) dX9_comesReading_93 (fun H locs w => ?_)
      rw [g_tn q_k] at w
      refine lv_aload_n hx hb dX9_comesReading_94 rfl (lv_at hl 1 rfl) ?_
      refine mg_readingDay X w dX9_comesReading_95 ?_
      refine lv_iload hx hb dX9_comesReading_98 (lv_at hl 0 rfl) ?_
      refine lv_iload_n hx hb dX9_comesReading_100 rfl (lv_at hl 4 rfl) ?_
      refine ms_readingDay (x := a_dy) X w (g_in q_k (by omega)) dX9_comesReading_101 (fun H locs w => ?_)
      rw [g_tn q_k] at w
      refine lv_aload_n hx hb dX9_comesReading_102 rfl (lv_at hl 1 rfl) ?_
      refine lv_dup hx hb dX9_comesReading_103 rfl ?_
      refine mg_readingMany X w dX9_comesReading_104 ?_
      refine lv_iconst (v := 1) hx hb dX9_comesReading_107 (by decide) ?_
      refine lv_iadd hx hb dX9_comesReading_108 ?_
      refine lv_topi (fun x_108 e_108 => ?_)
      have p_108 : x_108.toInt = (((I 23).toInt) + 1) := by rw [e_108]; exact t_add rfl (show (1 : Int32).toInt = 1 from rfl) (by omega) (by omega)
      refine mp_readingMany (v := x_108) X w dX9_comesReading_109 (fun H locs w => ?_)
      exact q_vret (post := (fun n1 σ1 => n1 = n ∧ ∃ I1 R1, σ1 = mS t b σ0 I1 R1 ∧ kpI [23] I I1 ∧ (I1 23).toInt = (I 23).toInt + 1 ∧ kpR [20, 21, 22] Rw R1 ∧ rdP R1 (insF q (ca, o, dy) (I 23).toInt.toNat, (I 23).toInt.toNat + 1))) X w dX9_comesReading_112 ⟨rfl, _, _, rfl, by have hs := rd_end (R := R_L6) (S := (va_up (va_up (va_up R_L6 20 (upd (R_L6 20) k.toNat a_ca)) 21 (upd (R_L6 21) k.toNat a_o)) 22 (upd (R_L6 22) k.toNat a_dy))) (x := (ca, o, dy)) inv_6.2.2.1 inv_6.2.2.2.1 inv_6.2.2.2.2 (Or.inr (by rw [← inv_6.2.2.1 _ (by omega)]; exact Int.not_lt.mpr k_21)) (by omega) (entM_s.trans (by rw [e_ca, e_o, e_dy])) (fun j hj => entM_n hj); exact ⟨kpI.up kpI.rf (by decide), p_108, ((inv_6.1.up (by decide)).up (by decide)).up (by decide), hs⟩⟩
    · skip
      have k_21 : ¬ (((R_L6 22 (k - 1).toNat).toInt) ≤ dy) := fun h => c_21 ((g_le rfl e_dy).mpr h)
      refine lv_aload_n hx hb dX9_comesReading_24 rfl (lv_at hl 1 rfl) ?_
      refine mg_readingCalendar X w dX9_comesReading_25 ?_
      refine lv_iload hx hb dX9_comesReading_28 (lv_at hl 0 rfl) ?_
      refine lv_aload_n hx hb dX9_comesReading_30 rfl (lv_at hl 1 rfl) ?_
      refine mg_readingCalendar X w dX9_comesReading_31 ?_
      refine lv_iload hx hb dX9_comesReading_34 (lv_at hl 0 rfl) ?_
      refine lv_iconst (v := 1) hx hb dX9_comesReading_36 (by decide) ?_
      refine lv_isub hx hb dX9_comesReading_37 ?_
      refine lv_topi (fun x_37 e_37 => ?_)
      have p_37 : x_37.toInt = (k - 1) := by rw [e_37]; exact t_sub q_k (show (1 : Int32).toInt = 1 from rfl) (by omega) (by omega)
      refine ml_readingCalendar X w (g_in p_37 (by omega)) dX9_comesReading_38 ?_
      refine q_topE (y := R_L6 20 (k - 1).toNat) (congrArg (R_L6 20) (g_tn p_37)) ?_
      refine ms_readingCalendar (x := (R_L6 20 (k - 1).toNat)) X w (g_in q_k (by omega)) dX9_comesReading_39 (fun H locs w => ?_)
      rw [g_tn q_k] at w
      refine lv_aload_n hx hb dX9_comesReading_40 rfl (lv_at hl 1 rfl) ?_
      refine mg_readingOrder X w dX9_comesReading_41 ?_
      refine lv_iload hx hb dX9_comesReading_44 (lv_at hl 0 rfl) ?_
      refine lv_aload_n hx hb dX9_comesReading_46 rfl (lv_at hl 1 rfl) ?_
      refine mg_readingOrder X w dX9_comesReading_47 ?_
      refine lv_iload hx hb dX9_comesReading_50 (lv_at hl 0 rfl) ?_
      refine lv_iconst (v := 1) hx hb dX9_comesReading_52 (by decide) ?_
      refine lv_isub hx hb dX9_comesReading_53 ?_
      refine lv_topi (fun x_53 e_53 => ?_)
      have p_53 : x_53.toInt = (k - 1) := by rw [e_53]; exact t_sub q_k (show (1 : Int32).toInt = 1 from rfl) (by omega) (by omega)
      refine ml_readingOrder X w (g_in p_53 (by omega)) dX9_comesReading_54 ?_
      refine q_topE (y := (va_up R_L6 20 (upd (R_L6 20) k.toNat (R_L6 20 (k - 1).toNat))) 21 (k - 1).toNat) (congrArg ((va_up R_L6 20 (upd (R_L6 20) k.toNat (R_L6 20 (k - 1).toNat))) 21) (g_tn p_53)) ?_
      refine ms_readingOrder (x := ((va_up R_L6 20 (upd (R_L6 20) k.toNat (R_L6 20 (k - 1).toNat))) 21 (k - 1).toNat)) X w (g_in q_k (by omega)) dX9_comesReading_55 (fun H locs w => ?_)
      rw [g_tn q_k] at w
      refine lv_aload_n hx hb dX9_comesReading_56 rfl (lv_at hl 1 rfl) ?_
      refine mg_readingDay X w dX9_comesReading_57 ?_
      refine lv_iload hx hb dX9_comesReading_60 (lv_at hl 0 rfl) ?_
      refine lv_aload_n hx hb dX9_comesReading_62 rfl (lv_at hl 1 rfl) ?_
      refine mg_readingDay X w dX9_comesReading_63 ?_
      refine lv_iload hx hb dX9_comesReading_66 (lv_at hl 0 rfl) ?_
      refine lv_iconst (v := 1) hx hb dX9_comesReading_68 (by decide) ?_
      refine lv_isub hx hb dX9_comesReading_69 ?_
      refine lv_topi (fun x_69 e_69 => ?_)
      have p_69 : x_69.toInt = (k - 1) := by rw [e_69]; exact t_sub q_k (show (1 : Int32).toInt = 1 from rfl) (by omega) (by omega)
      refine ml_readingDay X w (g_in p_69 (by omega)) dX9_comesReading_70 ?_
      refine q_topE (y := (va_up (va_up R_L6 20 (upd (R_L6 20) k.toNat (R_L6 20 (k - 1).toNat))) 21 (upd ((va_up R_L6 20 (upd (R_L6 20) k.toNat (R_L6 20 (k - 1).toNat))) 21) k.toNat ((va_up R_L6 20 (upd (R_L6 20) k.toNat (R_L6 20 (k - 1).toNat))) 21 (k - 1).toNat))) 22 (k - 1).toNat) (congrArg ((va_up (va_up R_L6 20 (upd (R_L6 20) k.toNat (R_L6 20 (k - 1).toNat))) 21 (upd ((va_up R_L6 20 (upd (R_L6 20) k.toNat (R_L6 20 (k - 1).toNat))) 21) k.toNat ((va_up R_L6 20 (upd (R_L6 20) k.toNat (R_L6 20 (k - 1).toNat))) 21 (k - 1).toNat))) 22) (g_tn p_69)) ?_
      refine ms_readingDay (x := ((va_up (va_up R_L6 20 (upd (R_L6 20) k.toNat (R_L6 20 (k - 1).toNat))) 21 (upd ((va_up R_L6 20 (upd (R_L6 20) k.toNat (R_L6 20 (k - 1).toNat))) 21) k.toNat ((va_up R_L6 20 (upd (R_L6 20) k.toNat (R_L6 20 (k - 1).toNat))) 21 (k - 1).toNat))) 22 (k - 1).toNat)) X w (g_in q_k (by omega)) dX9_comesReading_71 (fun H locs w => ?_)
      rw [g_tn q_k] at w
      obtain ⟨x_72, e_72⟩ : ∃ z : Int32, z = (v_k + (-1)) := ⟨_, rfl⟩
      have p_72 : x_72.toInt = (k + (-1)) := by rw [e_72]; exact t_add q_k (show ((-1) : Int32).toInt = (-1) from rfl) (by omega) (by omega)
      refine lv_iinc (v := x_72) (lv' := [(4, .int x_72), (0, .ref (b + 45)), (1, .int a_ca), (2, .int a_o), (3, .int a_dy)]) hx hb dX9_comesReading_72 hl (k := 0) rfl (by rw [e_72]; rfl) (by decide) rfl (fun ls hl => ?_)
      refine lv_goto (tgt := 6) hx hb dX9_comesReading_75 (by decide) ?_
      refine ih_6 ⟨x_72, (k + (-1)), (va_up (va_up (va_up R_L6 20 (upd (R_L6 20) k.toNat (R_L6 20 (k - 1).toNat))) 21 (upd ((va_up R_L6 20 (upd (R_L6 20) k.toNat (R_L6 20 (k - 1).toNat))) 21) k.toNat ((va_up R_L6 20 (upd (R_L6 20) k.toNat (R_L6 20 (k - 1).toNat))) 21 (k - 1).toNat))) 22 (upd ((va_up (va_up R_L6 20 (upd (R_L6 20) k.toNat (R_L6 20 (k - 1).toNat))) 21 (upd ((va_up R_L6 20 (upd (R_L6 20) k.toNat (R_L6 20 (k - 1).toNat))) 21) k.toNat ((va_up R_L6 20 (upd (R_L6 20) k.toNat (R_L6 20 (k - 1).toNat))) 21 (k - 1).toNat))) 22) k.toNat ((va_up (va_up R_L6 20 (upd (R_L6 20) k.toNat (R_L6 20 (k - 1).toNat))) 21 (upd ((va_up R_L6 20 (upd (R_L6 20) k.toNat (R_L6 20 (k - 1).toNat))) 21) k.toNat ((va_up R_L6 20 (upd (R_L6 20) k.toNat (R_L6 20 (k - 1).toNat))) 21 (k - 1).toNat))) 22 (k - 1).toNat)))⟩ ⟨p_72, by dsimp only; have hs := rd_step (R := R_L6) (S := (va_up (va_up (va_up R_L6 20 (upd (R_L6 20) k.toNat (R_L6 20 (k - 1).toNat))) 21 (upd (R_L6 21) k.toNat (R_L6 21 (k - 1).toNat))) 22 (upd (R_L6 22) k.toNat (R_L6 22 (k - 1).toNat)))) (x := (ca, o, dy)) inv_6.2.2.1 inv_6.2.2.2.1 inv_6.2.2.2.2 (by rw [← inv_6.2.2.1 _ (by omega)]; exact Int.not_le.mp k_21) (by omega) entM_s (fun j hj => entM_n hj); exact ⟨((inv_6.1.up (by decide)).up (by decide)).up (by decide), by omega, hs⟩⟩ (by dsimp only; omega) _ _ w ls (lv_sub hl [0, 1, 2, 3, 4] rfl)

set_option maxHeartbeats 4000000 in
set_option maxRecDepth 100000 in
theorem c_X9_readings (l : Launch) (D : va_G) (t : Nat → ClassId) (b n : Nat) (σ0 : qM) (I : Nat → Int32) (Rw : Nat → Nat → Int32) (a_na : Int32) (a_nb : Int32) (a_nx : Int32) (na : Int) (nb : Int) (nx : Int) (e_na : a_na.toInt = na) (e_nb : a_nb.toInt = nb) (e_nx : a_nx.toInt = nx) (h_1 : (I 5).toInt ≤ 6) (h_2 : ∀ c : Int, 0 ≤ c → c < (I 5).toInt → okRow (rowM Rw c)) (h_3 : ∀ c : Int, 0 ≤ c → c < (I 5).toInt → okF Rw c) (h_4 : 0 ≤ (I 5).toInt) : mC l yX9_readings cX9_readings 9 (some .int) 7 D t b n σ0 I Rw [.ref (b + 45), .int a_na, .int a_nb, .int a_nx] (fun z I1 R1 => kpI [0, 23] I I1 ∧ (I1 0).toInt = 0 ∧ kpR [20, 21, 22] Rw R1 ∧ z = I1 23 ∧ (I1 23).toInt = (rdN (rowM Rw) na nb nx (3 * (I 5).toInt).toNat).2 ∧ rdP R1 (rdN (rowM Rw) na nb nx (3 * (I 5).toInt).toNat)) := by
  refine qC.of (by decide +kernel) (Nat.le_of_ble_eq_true rfl) (fun p e s m args below meth c X w ls hl => ?_)
  have hx := X.1
  have hb := X.2.1
  have hl : lv_has ls 9 [(0, .ref (b + 45)), (1, .int a_na), (2, .int a_nb), (3, .int a_nx)] := hl
  refine lv_aload_n hx hb dX9_readings_0 rfl (lv_at hl 0 rfl) ?_
  refine lv_iconst (v := 0) hx hb dX9_readings_1 (by decide) ?_
  refine mp_thrown (v := 0) X w dX9_readings_2 (fun H locs w => ?_)
  refine lv_aload_n hx hb dX9_readings_5 rfl (lv_at hl 0 rfl) ?_
  refine lv_iconst (v := 0) hx hb dX9_readings_6 (by decide) ?_
  refine mp_readingMany (v := 0) X w dX9_readings_7 (fun H locs w => ?_)
  refine lv_iconst (v := 0) hx hb dX9_readings_10 (by decide) ?_
  refine lv_istore (lv' := [(4, .int 0), (0, .ref (b + 45)), (1, .int a_na), (2, .int a_nb), (3, .int a_nx)]) hx hb dX9_readings_11 hl (by decide) rfl (fun ls hl => ?_)
  refine q_loop (α := Int32 × Int × (Nat → Int32) × (Nat → Nat → Int32)) (fun a => a.1.toInt = a.2.1 ∧ (kpI [0, 23] I a.2.2.1 ∧ kpR [20, 21, 22] Rw a.2.2.2 ∧ a.2.2.1 0 = 0 ∧ (0 ≤ a.2.1 ∧ a.2.1 ≤ (I 5).toInt) ∧ (a.2.2.1 23).toInt = (rdN (rowM Rw) na nb nx (3 * a.2.1).toNat).2 ∧ rdP a.2.2.2 (rdN (rowM Rw) na nb nx (3 * a.2.1).toNat))) (fun a => ((I 5).toInt - a.2.1).toNat) (fun a => ∀ (H : Heap) (locs : List Loc), qW D b n (mS t b σ0 a.2.2.1 a.2.2.2) s H locs → ∀ ls : Array Slot, lv_has ls 9 [(4, .int a.1), (0, .ref (b + 45)), (1, .int a_na), (2, .int a_nb), (3, .int a_nx)] → W p l e (qR 7 0 0) s m args below meth c H locs 0 0 (MQ below (va_Qi (S := Nat × qM) (fun z u => (fun z n1 σ1 => n1 = n ∧ ∃ I1 R1, σ1 = mS t b σ0 I1 R1 ∧ kpI [0, 23] I I1 ∧ (I1 0).toInt = 0 ∧ kpR [20, 21, 22] Rw R1 ∧ z = I1 23 ∧ (I1 23).toInt = (rdN (rowM Rw) na nb nx (3 * (I 5).toInt).toNat).2 ∧ rdP R1 (rdN (rowM Rw) na nb nx (3 * (I 5).toInt).toNat)) z u.1 u.2) (fun u T => WB D b u.1 u.2 T.heap) (fun q => b ≤ q)) args s 0 0 (fun q => b ≤ q)) (F0 m 13 ls [])) ?_ ⟨0, 0, (va_up (va_up I 0 0) 23 0), Rw⟩ ⟨(show (0 : Int32).toInt = 0 from rfl), by dsimp only; exact ⟨kpI.up (kpI.up kpI.rf (by decide)) (by decide), kpR.rf, rfl, by omega, rfl, fun j a => absurd (show j < 0 from a) (by omega)⟩⟩ _ _ w ls (lv_sub hl [0, 1, 2, 3, 4] rfl)
  rintro ⟨v_ca, ca, I_L13, R_L13⟩ ⟨q_ca, inv_13⟩ ih_13 H locs w ls hl
  dsimp only at q_ca inv_13 hl w
  refine lv_iload hx hb dX9_readings_13 (lv_at hl 0 rfl) ?_
  refine lv_aload_n hx hb dX9_readings_15 rfl (lv_at hl 1 rfl) ?_
  refine mg_calendars X w dX9_readings_16 ?_
  refine lv_icmp_ge (tgt := 126) hx hb dX9_readings_19 (by decide) (fun c_19 => ?_) (fun c_19 => ?_)
  · skip
    have k_19 : ((I 5).toInt) ≤ ca := (g_le (congrArg Int32.toInt (inv_13.1 5 (by decide))) q_ca).mp c_19
    refine lv_aload_n hx hb dX9_readings_126 rfl (lv_at hl 1 rfl) ?_
    refine mg_readingMany X w dX9_readings_127 ?_
    exact q_cret (post := (fun z n1 σ1 => n1 = n ∧ ∃ I1 R1, σ1 = mS t b σ0 I1 R1 ∧ kpI [0, 23] I I1 ∧ (I1 0).toInt = 0 ∧ kpR [20, 21, 22] Rw R1 ∧ z = I1 23 ∧ (I1 23).toInt = (rdN (rowM Rw) na nb nx (3 * (I 5).toInt).toNat).2 ∧ rdP R1 (rdN (rowM Rw) na nb nx (3 * (I 5).toInt).toNat))) X w dX9_readings_130 (rfl) ⟨rfl, _, _, rfl, by have e3 : ca = (I 5).toInt := (by omega); rw [← e3]; exact ⟨inv_13.1, congrArg Int32.toInt inv_13.2.2.1, inv_13.2.1, rfl, inv_13.2.2.2.2⟩⟩
  · skip
    have k_19 : ¬ (((I 5).toInt) ≤ ca) := fun h => c_19 ((g_le (congrArg Int32.toInt (inv_13.1 5 (by decide))) q_ca).mpr h)
    refine lv_iconst (v := 0) hx hb dX9_readings_22 (by decide) ?_
    refine lv_istore (lv' := [(5, .int 0), (4, .int v_ca), (0, .ref (b + 45)), (1, .int a_na), (2, .int a_nb), (3, .int a_nx)]) hx hb dX9_readings_23 hl (by decide) rfl (fun ls hl => ?_)
    refine q_loop (α := Int32 × Int × (Nat → Int32) × (Nat → Nat → Int32)) (fun a => a.1.toInt = a.2.1 ∧ (kpI [0, 23] I a.2.2.1 ∧ kpR [20, 21, 22] Rw a.2.2.2 ∧ a.2.2.1 0 = 0 ∧ ((0 ≤ ca ∧ ca < (I 5).toInt) ∧ 0 ≤ a.2.1 ∧ a.2.1 ≤ 3) ∧ (a.2.2.1 23).toInt = (rdN (rowM Rw) na nb nx (3 * ca + a.2.1).toNat).2 ∧ rdP a.2.2.2 (rdN (rowM Rw) na nb nx (3 * ca + a.2.1).toNat))) (fun a => (3 - a.2.1).toNat) (fun a => ∀ (H : Heap) (locs : List Loc), qW D b n (mS t b σ0 a.2.2.1 a.2.2.2) s H locs → ∀ ls : Array Slot, lv_has ls 9 [(5, .int a.1), (4, .int v_ca), (0, .ref (b + 45)), (1, .int a_na), (2, .int a_nb), (3, .int a_nx)] → W p l e (qR 7 0 0) s m args below meth c H locs 0 0 (MQ below (va_Qi (S := Nat × qM) (fun z u => (fun z n1 σ1 => n1 = n ∧ ∃ I1 R1, σ1 = mS t b σ0 I1 R1 ∧ kpI [0, 23] I I1 ∧ (I1 0).toInt = 0 ∧ kpR [20, 21, 22] Rw R1 ∧ z = I1 23 ∧ (I1 23).toInt = (rdN (rowM Rw) na nb nx (3 * (I 5).toInt).toNat).2 ∧ rdP R1 (rdN (rowM Rw) na nb nx (3 * (I 5).toInt).toNat)) z u.1 u.2) (fun u T => WB D b u.1 u.2 T.heap) (fun q => b ≤ q)) args s 0 0 (fun q => b ≤ q)) (F0 m 25 ls [])) ?_ ⟨0, 0, I_L13, R_L13⟩ ⟨(show (0 : Int32).toInt = 0 from rfl), by dsimp only; rw [show 3 * ca + 0 = 3 * ca by omega]; exact ⟨inv_13.1, inv_13.2.1, inv_13.2.2.1, by omega, inv_13.2.2.2.2⟩⟩ _ _ w ls (lv_sub hl [0, 1, 2, 3, 4, 5] rfl)
    rintro ⟨v_o, o, I_L25, R_L25⟩ ⟨q_o, inv_25⟩ ih_25 H locs w ls hl
    dsimp only at q_o inv_25 hl w
    have eM : rowM R_L25 = rowM Rw := rowM_cg (inv_25.2.1 2 (by decide))
    have e4 : R_L25 4 = Rw 4 := inv_25.2.1 4 (by decide)
    have e2 : R_L25 2 = Rw 2 := inv_25.2.1 2 (by decide)
    have hbd := rdN_bd (rowM Rw) na nb nx (3 * ca + o).toNat
    have hq := h_2 ca (by omega) (by omega)
    rw [← eM] at hq
    have hF := okF_cg e2.symm e4.symm (h_3 ca (by omega) (by omega))
    have hN2 : (I_L25 23).toInt.toNat = (rdN (rowM Rw) na nb nx (3 * ca + o).toNat).2 := by rw [inv_25.2.2.2.2.1]; rfl
    refine lv_iload hx hb dX9_readings_25 (lv_at hl 0 rfl) ?_
    refine lv_iconst (v := 3) hx hb dX9_readings_27 (by decide) ?_
    refine lv_icmp_ge (tgt := 120) hx hb dX9_readings_28 (by decide) (fun c_28 => ?_) (fun c_28 => ?_)
    · skip
      have k_28 : 3 ≤ o := (g_le (show (3 : Int32).toInt = 3 from rfl) q_o).mp c_28
      obtain ⟨x_120, e_120⟩ : ∃ z : Int32, z = (v_ca + 1) := ⟨_, rfl⟩
      have p_120 : x_120.toInt = (ca + 1) := by rw [e_120]; exact t_add q_ca (show (1 : Int32).toInt = 1 from rfl) (by omega) (by omega)
      refine lv_iinc (v := x_120) (lv' := [(4, .int x_120), (5, .int v_o), (0, .ref (b + 45)), (1, .int a_na), (2, .int a_nb), (3, .int a_nx)]) hx hb dX9_readings_120 hl (k := 1) rfl (by rw [e_120]; rfl) (by decide) rfl (fun ls hl => ?_)
      refine lv_goto (tgt := 13) hx hb dX9_readings_123 (by decide) ?_
      refine ih_13 ⟨x_120, (ca + 1), I_L25, R_L25⟩ ⟨p_120, by dsimp only; have e3 : o = 3 := (by omega); rw [show 3 * (ca + 1) = 3 * ca + o by omega]; exact ⟨inv_25.1, inv_25.2.1, inv_25.2.2.1, by omega, inv_25.2.2.2.2⟩⟩ (by dsimp only; omega) _ _ w ls (lv_sub hl [0, 2, 3, 4, 5] rfl)
    · skip
      have k_28 : ¬ (3 ≤ o) := fun h => c_28 ((g_le (show (3 : Int32).toInt = 3 from rfl) q_o).mpr h)
      refine lv_iload hx hb dX9_readings_31 (lv_at hl 0 rfl) ?_
      refine lv_iconst (v := 2) hx hb dX9_readings_33 (by decide) ?_
      refine lv_icmp_ne (tgt := 41) hx hb dX9_readings_34 (by decide) (fun c_34 => ?_) (fun c_34 => ?_)
      · skip
        have k_34 : ¬ (o = 2) := fun h => c_34 ((g_eq q_o (show (2 : Int32).toInt = 2 from rfl)).mpr h)
        refine lv_iload_n hx hb dX9_readings_41 rfl (lv_at hl 5 rfl) ?_
        refine lv_istore (lv' := [(6, .int a_nx), (5, .int v_o), (4, .int v_ca), (0, .ref (b + 45)), (1, .int a_na), (2, .int a_nb), (3, .int a_nx)]) hx hb dX9_readings_42 hl (by decide) rfl (fun ls hl => ?_)
        refine lv_iload hx hb dX9_readings_44 (lv_at hl 1 rfl) ?_
        refine lv_iconst (v := 1) hx hb dX9_readings_46 (by decide) ?_
        refine lv_icmp_ne (tgt := 54) hx hb dX9_readings_47 (by decide) (fun c_47 => ?_) (fun c_47 => ?_)
        · skip
          have k_47 : ¬ (o = 1) := fun h => c_47 ((g_eq q_o (show (1 : Int32).toInt = 1 from rfl)).mpr h)
          refine lv_iload_n hx hb dX9_readings_54 rfl (lv_at hl 5 rfl) ?_
          refine lv_istore (lv' := [(7, .int a_nb), (6, .int a_nx), (5, .int v_o), (4, .int v_ca), (0, .ref (b + 45)), (1, .int a_na), (2, .int a_nb), (3, .int a_nx)]) hx hb dX9_readings_55 hl (by decide) rfl (fun ls hl => ?_)
          refine lv_iload hx hb dX9_readings_57 (lv_at hl 2 rfl) ?_
          refine lv_if_ne (tgt := 66) hx hb dX9_readings_59 (by decide) (fun c_59 => ?_) (fun c_59 => ?_)
          · skip
            have k_59 : ¬ (o = 0) := fun h => c_59 ((g_eq q_o (show (0 : Int32).toInt = 0 from rfl)).mpr h)
            refine lv_iload hx hb dX9_readings_66 (lv_at hl 2 rfl) ?_
            refine lv_iconst (v := 1) hx hb dX9_readings_68 (by decide) ?_
            refine lv_icmp_ne (tgt := 76) hx hb dX9_readings_69 (by decide) (fun c_69 => ?_) (fun c_69 => ?_)
            · skip
              have k_69 : ¬ (o = 1) := fun h => c_69 ((g_eq q_o (show (1 : Int32).toInt = 1 from rfl)).mpr h)
              refine lv_iload_n hx hb dX9_readings_76 rfl (lv_at hl 7 rfl) ?_
              refine lv_istore (lv' := [(8, .int a_nx), (7, .int a_nb), (6, .int a_nx), (5, .int v_o), (4, .int v_ca), (0, .ref (b + 45)), (1, .int a_na), (2, .int a_nb), (3, .int a_nx)]) hx hb dX9_readings_77 hl (by decide) rfl (fun ls hl => ?_)
              have hY : rY o na nx = nx := by unfold rY; rw [if_neg k_34]
              have hM : rM o na nb = nb := by unfold rM; rw [if_neg k_47]
              have hD : rD o na nb nx = nx := by unfold rD; rw [if_neg k_59, if_neg k_69]
              refine lv_aload_n hx hb dX9_readings_79 rfl (lv_at hl 5 rfl) ?_
              refine lv_iload hx hb dX9_readings_80 (lv_at hl 4 rfl) ?_
              refine lv_iload hx hb dX9_readings_82 (lv_at hl 2 rfl) ?_
              refine lv_iload hx hb dX9_readings_84 (lv_at hl 1 rfl) ?_
              refine lv_iload hx hb dX9_readings_86 (lv_at hl 0 rfl) ?_
              refine q_cPV X w (c_X9_isDatedDay l D t b n σ0 I_L25 R_L25 v_ca a_nx a_nb a_nx ca nx nb nx q_ca e_nx e_nb e_nx (by first | assumption | omega) (by first | assumption | omega) (by first | assumption | omega)) v_X9_241 (k := 45) rfl rfl rfl ⟨Nat.le_of_ble_eq_true rfl, Nat.le_of_ble_eq_true rfl⟩ rfl hl.1 (Nat.le_of_ble_eq_true rfl) dX9_readings_88 ⟨Nat.zero_le _, Nat.zero_le _⟩ (fun r_88 z_88 => ?_)
              refine lv_if_eq (tgt := 114) hx hb dX9_readings_91 (by decide) (fun c_91 => ?_) (fun c_91 => ?_)
              · skip
                rw [z_88] at c_91
                have k_91 := bI_f.mp c_91
                have hd : ¬ datd (rowM Rw ca) (rY o na nx) (rM o na nb) (rD o na nb nx) := by rw [hY, hM, hD, ← eM]; exact k_91
                obtain ⟨x_114, e_114⟩ : ∃ z : Int32, z = (v_o + 1) := ⟨_, rfl⟩
                have p_114 : x_114.toInt = (o + 1) := by rw [e_114]; exact t_add q_o (show (1 : Int32).toInt = 1 from rfl) (by omega) (by omega)
                refine lv_iinc (v := x_114) (lv' := [(5, .int x_114), (8, .int a_nx), (7, .int a_nb), (6, .int a_nx), (4, .int v_ca), (0, .ref (b + 45)), (1, .int a_na), (2, .int a_nb), (3, .int a_nx)]) hx hb dX9_readings_114 hl (k := 3) rfl (by rw [e_114]; rfl) (by decide) rfl (fun ls hl => ?_)
                refine lv_goto (tgt := 25) hx hb dX9_readings_117 (by decide) ?_
                refine ih_25 ⟨x_114, (o + 1), I_L25, R_L25⟩ ⟨p_114, by dsimp only; rw [rdN_s _ _ _ _ (by omega) (by omega), rdS_n hd]; exact ⟨inv_25.1, inv_25.2.1, inv_25.2.2.1, by omega, inv_25.2.2.2.2⟩⟩ (by dsimp only; omega) _ _ w ls (lv_sub hl [0, 4, 5, 6, 7, 8] rfl)
              · skip
                rw [z_88] at c_91
                have k_91 := bI_t.mp c_91
                have hd : datd (rowM Rw ca) (rY o na nx) (rM o na nb) (rD o na nb nx) := by rw [hY, hM, hD, ← eM]; exact k_91
                have hL := mlen_bd hq k_91.1.1.2.1 k_91.1.1.2.2
                refine lv_aload_n hx hb dX9_readings_94 rfl (lv_at hl 5 rfl) ?_
                refine lv_iload hx hb dX9_readings_95 (lv_at hl 4 rfl) ?_
                refine lv_iload hx hb dX9_readings_97 (lv_at hl 3 rfl) ?_
                refine lv_aload_n hx hb dX9_readings_99 rfl (lv_at hl 5 rfl) ?_
                refine lv_iload hx hb dX9_readings_100 (lv_at hl 4 rfl) ?_
                refine lv_iload hx hb dX9_readings_102 (lv_at hl 2 rfl) ?_
                refine lv_iload hx hb dX9_readings_104 (lv_at hl 1 rfl) ?_
                refine lv_iload hx hb dX9_readings_106 (lv_at hl 0 rfl) ?_
                refine q_cPV X w (c_X9_dayAt l D t b n σ0 I_L25 R_L25 v_ca a_nx a_nb a_nx ca nx nb nx q_ca e_nx e_nb e_nx (by first | assumption | omega) (by first | assumption | omega) (by first | assumption | omega) (by omega) (by exact k_91.1.1.2) (by omega)) v_X9_234 (k := 45) rfl rfl rfl ⟨Nat.le_of_ble_eq_true rfl, Nat.le_of_ble_eq_true rfl⟩ rfl hl.1 (Nat.le_of_ble_eq_true rfl) dX9_readings_108 ⟨Nat.zero_le _, Nat.zero_le _⟩ (fun r_108 z_108 => ?_)
                refine mm_cV X w (c_X9_comesReading l D t b n σ0 I_L25 R_L25 ((rdN (rowM Rw) na nb nx (3 * ca + o).toNat).1) v_ca v_o r_108 ca o (dnum (rowM R_L25 ca) nx nb nx) q_ca q_o z_108 (by rw [inv_25.2.2.2.2.1]; omega) (by rw [hN2]; exact inv_25.2.2.2.2.2)) v_X9_319 rfl rfl ⟨Nat.le_of_ble_eq_true rfl, Nat.le_of_ble_eq_true rfl⟩ rfl hl.1 (Nat.le_of_ble_eq_true rfl) dX9_readings_111 ⟨Nat.zero_le _, Nat.zero_le _⟩ (fun I_111 R_111 H locs z_111 w => ?_)
                obtain ⟨x_114, e_114⟩ : ∃ z : Int32, z = (v_o + 1) := ⟨_, rfl⟩
                have p_114 : x_114.toInt = (o + 1) := by rw [e_114]; exact t_add q_o (show (1 : Int32).toInt = 1 from rfl) (by omega) (by omega)
                refine lv_iinc (v := x_114) (lv' := [(5, .int x_114), (8, .int a_nx), (7, .int a_nb), (6, .int a_nx), (4, .int v_ca), (0, .ref (b + 45)), (1, .int a_na), (2, .int a_nb), (3, .int a_nx)]) hx hb dX9_readings_114 hl (k := 3) rfl (by rw [e_114]; rfl) (by decide) rfl (fun ls hl => ?_)
                refine lv_goto (tgt := 25) hx hb dX9_readings_117 (by decide) ?_
                refine ih_25 ⟨x_114, (o + 1), I_111, R_111⟩ ⟨p_114, by dsimp only; rw [rdN_s _ _ _ _ (by omega) (by omega), rdS_p hd, hY, hM, hD]; have h4 := z_111.2.2.2; rw [hN2, eM] at h4; exact ⟨inv_25.1.tr z_111.1 (by decide) (by decide), inv_25.2.1.tr z_111.2.2.1 (by decide) (by decide), (z_111.1 0 (by decide)).trans inv_25.2.2.1, by omega, z_111.2.1.trans (by rw [inv_25.2.2.2.2.1]; rfl), h4⟩⟩ (by dsimp only; omega) _ _ w ls (lv_sub hl [0, 4, 5, 6, 7, 8] rfl)
            · skip
              have k_69 : o = 1 := (g_eq q_o (show (1 : Int32).toInt = 1 from rfl)).mp c_69
              refine lv_iload_n hx hb dX9_readings_72 rfl (lv_at hl 6 rfl) ?_
              refine lv_goto (tgt := 77) hx hb dX9_readings_73 (by decide) ?_
              refine lv_istore (lv' := [(8, .int a_nb), (7, .int a_nb), (6, .int a_nx), (5, .int v_o), (4, .int v_ca), (0, .ref (b + 45)), (1, .int a_na), (2, .int a_nb), (3, .int a_nx)]) hx hb dX9_readings_77 hl (by decide) rfl (fun ls hl => ?_)
              have hY : rY o na nx = nx := by unfold rY; rw [if_neg k_34]
              have hM : rM o na nb = nb := by unfold rM; rw [if_neg k_47]
              have hD : rD o na nb nx = nb := by unfold rD; rw [if_neg k_59, if_pos k_69]
              refine lv_aload_n hx hb dX9_readings_79 rfl (lv_at hl 5 rfl) ?_
              refine lv_iload hx hb dX9_readings_80 (lv_at hl 4 rfl) ?_
              refine lv_iload hx hb dX9_readings_82 (lv_at hl 2 rfl) ?_
              refine lv_iload hx hb dX9_readings_84 (lv_at hl 1 rfl) ?_
              refine lv_iload hx hb dX9_readings_86 (lv_at hl 0 rfl) ?_
              refine q_cPV X w (c_X9_isDatedDay l D t b n σ0 I_L25 R_L25 v_ca a_nx a_nb a_nb ca nx nb nb q_ca e_nx e_nb e_nb (by first | assumption | omega) (by first | assumption | omega) (by first | assumption | omega)) v_X9_241 (k := 45) rfl rfl rfl ⟨Nat.le_of_ble_eq_true rfl, Nat.le_of_ble_eq_true rfl⟩ rfl hl.1 (Nat.le_of_ble_eq_true rfl) dX9_readings_88 ⟨Nat.zero_le _, Nat.zero_le _⟩ (fun r_88 z_88 => ?_)
              refine lv_if_eq (tgt := 114) hx hb dX9_readings_91 (by decide) (fun c_91 => ?_) (fun c_91 => ?_)
              · skip
                rw [z_88] at c_91
                have k_91 := bI_f.mp c_91
                have hd : ¬ datd (rowM Rw ca) (rY o na nx) (rM o na nb) (rD o na nb nx) := by rw [hY, hM, hD, ← eM]; exact k_91
                obtain ⟨x_114, e_114⟩ : ∃ z : Int32, z = (v_o + 1) := ⟨_, rfl⟩
                have p_114 : x_114.toInt = (o + 1) := by rw [e_114]; exact t_add q_o (show (1 : Int32).toInt = 1 from rfl) (by omega) (by omega)
                refine lv_iinc (v := x_114) (lv' := [(5, .int x_114), (8, .int a_nb), (7, .int a_nb), (6, .int a_nx), (4, .int v_ca), (0, .ref (b + 45)), (1, .int a_na), (2, .int a_nb), (3, .int a_nx)]) hx hb dX9_readings_114 hl (k := 3) rfl (by rw [e_114]; rfl) (by decide) rfl (fun ls hl => ?_)
                refine lv_goto (tgt := 25) hx hb dX9_readings_117 (by decide) ?_
                refine ih_25 ⟨x_114, (o + 1), I_L25, R_L25⟩ ⟨p_114, by dsimp only; rw [rdN_s _ _ _ _ (by omega) (by omega), rdS_n hd]; exact ⟨inv_25.1, inv_25.2.1, inv_25.2.2.1, by omega, inv_25.2.2.2.2⟩⟩ (by dsimp only; omega) _ _ w ls (lv_sub hl [0, 4, 5, 6, 7, 8] rfl)
              · skip
                rw [z_88] at c_91
                have k_91 := bI_t.mp c_91
                have hd : datd (rowM Rw ca) (rY o na nx) (rM o na nb) (rD o na nb nx) := by rw [hY, hM, hD, ← eM]; exact k_91
                have hL := mlen_bd hq k_91.1.1.2.1 k_91.1.1.2.2
                refine lv_aload_n hx hb dX9_readings_94 rfl (lv_at hl 5 rfl) ?_
                refine lv_iload hx hb dX9_readings_95 (lv_at hl 4 rfl) ?_
                refine lv_iload hx hb dX9_readings_97 (lv_at hl 3 rfl) ?_
                refine lv_aload_n hx hb dX9_readings_99 rfl (lv_at hl 5 rfl) ?_
                refine lv_iload hx hb dX9_readings_100 (lv_at hl 4 rfl) ?_
                refine lv_iload hx hb dX9_readings_102 (lv_at hl 2 rfl) ?_
                refine lv_iload hx hb dX9_readings_104 (lv_at hl 1 rfl) ?_
                refine lv_iload hx hb dX9_readings_106 (lv_at hl 0 rfl) ?_
                refine q_cPV X w (c_X9_dayAt l D t b n σ0 I_L25 R_L25 v_ca a_nx a_nb a_nb ca nx nb nb q_ca e_nx e_nb e_nb (by first | assumption | omega) (by first | assumption | omega) (by first | assumption | omega) (by omega) (by exact k_91.1.1.2) (by omega)) v_X9_234 (k := 45) rfl rfl rfl ⟨Nat.le_of_ble_eq_true rfl, Nat.le_of_ble_eq_true rfl⟩ rfl hl.1 (Nat.le_of_ble_eq_true rfl) dX9_readings_108 ⟨Nat.zero_le _, Nat.zero_le _⟩ (fun r_108 z_108 => ?_)
                refine mm_cV X w (c_X9_comesReading l D t b n σ0 I_L25 R_L25 ((rdN (rowM Rw) na nb nx (3 * ca + o).toNat).1) v_ca v_o r_108 ca o (dnum (rowM R_L25 ca) nx nb nb) q_ca q_o z_108 (by rw [inv_25.2.2.2.2.1]; omega) (by rw [hN2]; exact inv_25.2.2.2.2.2)) v_X9_319 rfl rfl ⟨Nat.le_of_ble_eq_true rfl, Nat.le_of_ble_eq_true rfl⟩ rfl hl.1 (Nat.le_of_ble_eq_true rfl) dX9_readings_111 ⟨Nat.zero_le _, Nat.zero_le _⟩ (fun I_111 R_111 H locs z_111 w => ?_)
                obtain ⟨x_114, e_114⟩ : ∃ z : Int32, z = (v_o + 1) := ⟨_, rfl⟩
                have p_114 : x_114.toInt = (o + 1) := by rw [e_114]; exact t_add q_o (show (1 : Int32).toInt = 1 from rfl) (by omega) (by omega)
                refine lv_iinc (v := x_114) (lv' := [(5, .int x_114), (8, .int a_nb), (7, .int a_nb), (6, .int a_nx), (4, .int v_ca), (0, .ref (b + 45)), (1, .int a_na), (2, .int a_nb), (3, .int a_nx)]) hx hb dX9_readings_114 hl (k := 3) rfl (by rw [e_114]; rfl) (by decide) rfl (fun ls hl => ?_)
                refine lv_goto (tgt := 25) hx hb dX9_readings_117 (by decide) ?_
                refine ih_25 ⟨x_114, (o + 1), I_111, R_111⟩ ⟨p_114, by dsimp only; rw [rdN_s _ _ _ _ (by omega) (by omega), rdS_p hd, hY, hM, hD]; have h4 := z_111.2.2.2; rw [hN2, eM] at h4; exact ⟨inv_25.1.tr z_111.1 (by decide) (by decide), inv_25.2.1.tr z_111.2.2.1 (by decide) (by decide), (z_111.1 0 (by decide)).trans inv_25.2.2.1, by omega, z_111.2.1.trans (by rw [inv_25.2.2.2.2.1]; rfl), h4⟩⟩ (by dsimp only; omega) _ _ w ls (lv_sub hl [0, 4, 5, 6, 7, 8] rfl)
          · skip
            have k_59 : o = 0 := (g_eq q_o (show (0 : Int32).toInt = 0 from rfl)).mp c_59
            refine lv_iload_n hx hb dX9_readings_62 rfl (lv_at hl 5 rfl) ?_
            refine lv_goto (tgt := 77) hx hb dX9_readings_63 (by decide) ?_
            refine lv_istore (lv' := [(8, .int a_na), (7, .int a_nb), (6, .int a_nx), (5, .int v_o), (4, .int v_ca), (0, .ref (b + 45)), (1, .int a_na), (2, .int a_nb), (3, .int a_nx)]) hx hb dX9_readings_77 hl (by decide) rfl (fun ls hl => ?_)
            have hY : rY o na nx = nx := by unfold rY; rw [if_neg k_34]
            have hM : rM o na nb = nb := by unfold rM; rw [if_neg k_47]
            have hD : rD o na nb nx = na := by unfold rD; rw [if_pos k_59]
            refine lv_aload_n hx hb dX9_readings_79 rfl (lv_at hl 5 rfl) ?_
            refine lv_iload hx hb dX9_readings_80 (lv_at hl 4 rfl) ?_
            refine lv_iload hx hb dX9_readings_82 (lv_at hl 2 rfl) ?_
            refine lv_iload hx hb dX9_readings_84 (lv_at hl 1 rfl) ?_
            refine lv_iload hx hb dX9_readings_86 (lv_at hl 0 rfl) ?_
            refine q_cPV X w (c_X9_isDatedDay l D t b n σ0 I_L25 R_L25 v_ca a_nx a_nb a_na ca nx nb na q_ca e_nx e_nb e_na (by first | assumption | omega) (by first | assumption | omega) (by first | assumption | omega)) v_X9_241 (k := 45) rfl rfl rfl ⟨Nat.le_of_ble_eq_true rfl, Nat.le_of_ble_eq_true rfl⟩ rfl hl.1 (Nat.le_of_ble_eq_true rfl) dX9_readings_88 ⟨Nat.zero_le _, Nat.zero_le _⟩ (fun r_88 z_88 => ?_)
            refine lv_if_eq (tgt := 114) hx hb dX9_readings_91 (by decide) (fun c_91 => ?_) (fun c_91 => ?_)
            · skip
              rw [z_88] at c_91
              have k_91 := bI_f.mp c_91
              have hd : ¬ datd (rowM Rw ca) (rY o na nx) (rM o na nb) (rD o na nb nx) := by rw [hY, hM, hD, ← eM]; exact k_91
              obtain ⟨x_114, e_114⟩ : ∃ z : Int32, z = (v_o + 1) := ⟨_, rfl⟩
              have p_114 : x_114.toInt = (o + 1) := by rw [e_114]; exact t_add q_o (show (1 : Int32).toInt = 1 from rfl) (by omega) (by omega)
              refine lv_iinc (v := x_114) (lv' := [(5, .int x_114), (8, .int a_na), (7, .int a_nb), (6, .int a_nx), (4, .int v_ca), (0, .ref (b + 45)), (1, .int a_na), (2, .int a_nb), (3, .int a_nx)]) hx hb dX9_readings_114 hl (k := 3) rfl (by rw [e_114]; rfl) (by decide) rfl (fun ls hl => ?_)
              refine lv_goto (tgt := 25) hx hb dX9_readings_117 (by decide) ?_
              refine ih_25 ⟨x_114, (o + 1), I_L25, R_L25⟩ ⟨p_114, by dsimp only; rw [rdN_s _ _ _ _ (by omega) (by omega), rdS_n hd]; exact ⟨inv_25.1, inv_25.2.1, inv_25.2.2.1, by omega, inv_25.2.2.2.2⟩⟩ (by dsimp only; omega) _ _ w ls (lv_sub hl [0, 4, 5, 6, 7, 8] rfl)
            · skip
              rw [z_88] at c_91
              have k_91 := bI_t.mp c_91
              have hd : datd (rowM Rw ca) (rY o na nx) (rM o na nb) (rD o na nb nx) := by rw [hY, hM, hD, ← eM]; exact k_91
              have hL := mlen_bd hq k_91.1.1.2.1 k_91.1.1.2.2
              refine lv_aload_n hx hb dX9_readings_94 rfl (lv_at hl 5 rfl) ?_
              refine lv_iload hx hb dX9_readings_95 (lv_at hl 4 rfl) ?_
              refine lv_iload hx hb dX9_readings_97 (lv_at hl 3 rfl) ?_
              refine lv_aload_n hx hb dX9_readings_99 rfl (lv_at hl 5 rfl) ?_
              refine lv_iload hx hb dX9_readings_100 (lv_at hl 4 rfl) ?_
              refine lv_iload hx hb dX9_readings_102 (lv_at hl 2 rfl) ?_
              refine lv_iload hx hb dX9_readings_104 (lv_at hl 1 rfl) ?_
              refine lv_iload hx hb dX9_readings_106 (lv_at hl 0 rfl) ?_
              refine q_cPV X w (c_X9_dayAt l D t b n σ0 I_L25 R_L25 v_ca a_nx a_nb a_na ca nx nb na q_ca e_nx e_nb e_na (by first | assumption | omega) (by first | assumption | omega) (by first | assumption | omega) (by omega) (by exact k_91.1.1.2) (by omega)) v_X9_234 (k := 45) rfl rfl rfl ⟨Nat.le_of_ble_eq_true rfl, Nat.le_of_ble_eq_true rfl⟩ rfl hl.1 (Nat.le_of_ble_eq_true rfl) dX9_readings_108 ⟨Nat.zero_le _, Nat.zero_le _⟩ (fun r_108 z_108 => ?_)
              refine mm_cV X w (c_X9_comesReading l D t b n σ0 I_L25 R_L25 ((rdN (rowM Rw) na nb nx (3 * ca + o).toNat).1) v_ca v_o r_108 ca o (dnum (rowM R_L25 ca) nx nb na) q_ca q_o z_108 (by rw [inv_25.2.2.2.2.1]; omega) (by rw [hN2]; exact inv_25.2.2.2.2.2)) v_X9_319 rfl rfl ⟨Nat.le_of_ble_eq_true rfl, Nat.le_of_ble_eq_true rfl⟩ rfl hl.1 (Nat.le_of_ble_eq_true rfl) dX9_readings_111 ⟨Nat.zero_le _, Nat.zero_le _⟩ (fun I_111 R_111 H locs z_111 w => ?_)
              obtain ⟨x_114, e_114⟩ : ∃ z : Int32, z = (v_o + 1) := ⟨_, rfl⟩
              have p_114 : x_114.toInt = (o + 1) := by rw [e_114]; exact t_add q_o (show (1 : Int32).toInt = 1 from rfl) (by omega) (by omega)
              refine lv_iinc (v := x_114) (lv' := [(5, .int x_114), (8, .int a_na), (7, .int a_nb), (6, .int a_nx), (4, .int v_ca), (0, .ref (b + 45)), (1, .int a_na), (2, .int a_nb), (3, .int a_nx)]) hx hb dX9_readings_114 hl (k := 3) rfl (by rw [e_114]; rfl) (by decide) rfl (fun ls hl => ?_)
              refine lv_goto (tgt := 25) hx hb dX9_readings_117 (by decide) ?_
              refine ih_25 ⟨x_114, (o + 1), I_111, R_111⟩ ⟨p_114, by dsimp only; rw [rdN_s _ _ _ _ (by omega) (by omega), rdS_p hd, hY, hM, hD]; have h4 := z_111.2.2.2; rw [hN2, eM] at h4; exact ⟨inv_25.1.tr z_111.1 (by decide) (by decide), inv_25.2.1.tr z_111.2.2.1 (by decide) (by decide), (z_111.1 0 (by decide)).trans inv_25.2.2.1, by omega, z_111.2.1.trans (by rw [inv_25.2.2.2.2.1]; rfl), h4⟩⟩ (by dsimp only; omega) _ _ w ls (lv_sub hl [0, 4, 5, 6, 7, 8] rfl)
        · skip
          have k_47 : o = 1 := (g_eq q_o (show (1 : Int32).toInt = 1 from rfl)).mp c_47
          refine lv_iload_n hx hb dX9_readings_50 rfl (lv_at hl 4 rfl) ?_
          refine lv_goto (tgt := 55) hx hb dX9_readings_51 (by decide) ?_
          refine lv_istore (lv' := [(7, .int a_na), (6, .int a_nx), (5, .int v_o), (4, .int v_ca), (0, .ref (b + 45)), (1, .int a_na), (2, .int a_nb), (3, .int a_nx)]) hx hb dX9_readings_55 hl (by decide) rfl (fun ls hl => ?_)
          refine lv_iload hx hb dX9_readings_57 (lv_at hl 2 rfl) ?_
          refine lv_if_ne (tgt := 66) hx hb dX9_readings_59 (by decide) (fun c_59 => ?_) (fun c_59 => ?_)
          · skip
            have k_59 : ¬ (o = 0) := fun h => c_59 ((g_eq q_o (show (0 : Int32).toInt = 0 from rfl)).mpr h)
            refine lv_iload hx hb dX9_readings_66 (lv_at hl 2 rfl) ?_
            refine lv_iconst (v := 1) hx hb dX9_readings_68 (by decide) ?_
            refine lv_icmp_ne (tgt := 76) hx hb dX9_readings_69 (by decide) (fun c_69 => ?_) (fun c_69 => ?_)
            · skip
              have k_69 : ¬ (o = 1) := fun h => c_69 ((g_eq q_o (show (1 : Int32).toInt = 1 from rfl)).mpr h)
              refine lv_iload_n hx hb dX9_readings_76 rfl (lv_at hl 7 rfl) ?_
              refine lv_istore (lv' := [(8, .int a_nx), (7, .int a_na), (6, .int a_nx), (5, .int v_o), (4, .int v_ca), (0, .ref (b + 45)), (1, .int a_na), (2, .int a_nb), (3, .int a_nx)]) hx hb dX9_readings_77 hl (by decide) rfl (fun ls hl => ?_)
              have hY : rY o na nx = nx := by unfold rY; rw [if_neg k_34]
              have hM : rM o na nb = na := by unfold rM; rw [if_pos k_47]
              have hD : rD o na nb nx = nx := by unfold rD; rw [if_neg k_59, if_neg k_69]
              refine lv_aload_n hx hb dX9_readings_79 rfl (lv_at hl 5 rfl) ?_
              refine lv_iload hx hb dX9_readings_80 (lv_at hl 4 rfl) ?_
              refine lv_iload hx hb dX9_readings_82 (lv_at hl 2 rfl) ?_
              refine lv_iload hx hb dX9_readings_84 (lv_at hl 1 rfl) ?_
              refine lv_iload hx hb dX9_readings_86 (lv_at hl 0 rfl) ?_
              refine q_cPV X w (c_X9_isDatedDay l D t b n σ0 I_L25 R_L25 v_ca a_nx a_na a_nx ca nx na nx q_ca e_nx e_na e_nx (by first | assumption | omega) (by first | assumption | omega) (by first | assumption | omega)) v_X9_241 (k := 45) rfl rfl rfl ⟨Nat.le_of_ble_eq_true rfl, Nat.le_of_ble_eq_true rfl⟩ rfl hl.1 (Nat.le_of_ble_eq_true rfl) dX9_readings_88 ⟨Nat.zero_le _, Nat.zero_le _⟩ (fun r_88 z_88 => ?_)
              refine lv_if_eq (tgt := 114) hx hb dX9_readings_91 (by decide) (fun c_91 => ?_) (fun c_91 => ?_)
              · skip
                rw [z_88] at c_91
                have k_91 := bI_f.mp c_91
                have hd : ¬ datd (rowM Rw ca) (rY o na nx) (rM o na nb) (rD o na nb nx) := by rw [hY, hM, hD, ← eM]; exact k_91
                obtain ⟨x_114, e_114⟩ : ∃ z : Int32, z = (v_o + 1) := ⟨_, rfl⟩
                have p_114 : x_114.toInt = (o + 1) := by rw [e_114]; exact t_add q_o (show (1 : Int32).toInt = 1 from rfl) (by omega) (by omega)
                refine lv_iinc (v := x_114) (lv' := [(5, .int x_114), (8, .int a_nx), (7, .int a_na), (6, .int a_nx), (4, .int v_ca), (0, .ref (b + 45)), (1, .int a_na), (2, .int a_nb), (3, .int a_nx)]) hx hb dX9_readings_114 hl (k := 3) rfl (by rw [e_114]; rfl) (by decide) rfl (fun ls hl => ?_)
                refine lv_goto (tgt := 25) hx hb dX9_readings_117 (by decide) ?_
                refine ih_25 ⟨x_114, (o + 1), I_L25, R_L25⟩ ⟨p_114, by dsimp only; rw [rdN_s _ _ _ _ (by omega) (by omega), rdS_n hd]; exact ⟨inv_25.1, inv_25.2.1, inv_25.2.2.1, by omega, inv_25.2.2.2.2⟩⟩ (by dsimp only; omega) _ _ w ls (lv_sub hl [0, 4, 5, 6, 7, 8] rfl)
              · skip
                rw [z_88] at c_91
                have k_91 := bI_t.mp c_91
                have hd : datd (rowM Rw ca) (rY o na nx) (rM o na nb) (rD o na nb nx) := by rw [hY, hM, hD, ← eM]; exact k_91
                have hL := mlen_bd hq k_91.1.1.2.1 k_91.1.1.2.2
                refine lv_aload_n hx hb dX9_readings_94 rfl (lv_at hl 5 rfl) ?_
                refine lv_iload hx hb dX9_readings_95 (lv_at hl 4 rfl) ?_
                refine lv_iload hx hb dX9_readings_97 (lv_at hl 3 rfl) ?_
                refine lv_aload_n hx hb dX9_readings_99 rfl (lv_at hl 5 rfl) ?_
                refine lv_iload hx hb dX9_readings_100 (lv_at hl 4 rfl) ?_
                refine lv_iload hx hb dX9_readings_102 (lv_at hl 2 rfl) ?_
                refine lv_iload hx hb dX9_readings_104 (lv_at hl 1 rfl) ?_
                refine lv_iload hx hb dX9_readings_106 (lv_at hl 0 rfl) ?_
                refine q_cPV X w (c_X9_dayAt l D t b n σ0 I_L25 R_L25 v_ca a_nx a_na a_nx ca nx na nx q_ca e_nx e_na e_nx (by first | assumption | omega) (by first | assumption | omega) (by first | assumption | omega) (by omega) (by exact k_91.1.1.2) (by omega)) v_X9_234 (k := 45) rfl rfl rfl ⟨Nat.le_of_ble_eq_true rfl, Nat.le_of_ble_eq_true rfl⟩ rfl hl.1 (Nat.le_of_ble_eq_true rfl) dX9_readings_108 ⟨Nat.zero_le _, Nat.zero_le _⟩ (fun r_108 z_108 => ?_)
                refine mm_cV X w (c_X9_comesReading l D t b n σ0 I_L25 R_L25 ((rdN (rowM Rw) na nb nx (3 * ca + o).toNat).1) v_ca v_o r_108 ca o (dnum (rowM R_L25 ca) nx na nx) q_ca q_o z_108 (by rw [inv_25.2.2.2.2.1]; omega) (by rw [hN2]; exact inv_25.2.2.2.2.2)) v_X9_319 rfl rfl ⟨Nat.le_of_ble_eq_true rfl, Nat.le_of_ble_eq_true rfl⟩ rfl hl.1 (Nat.le_of_ble_eq_true rfl) dX9_readings_111 ⟨Nat.zero_le _, Nat.zero_le _⟩ (fun I_111 R_111 H locs z_111 w => ?_)
                obtain ⟨x_114, e_114⟩ : ∃ z : Int32, z = (v_o + 1) := ⟨_, rfl⟩
                have p_114 : x_114.toInt = (o + 1) := by rw [e_114]; exact t_add q_o (show (1 : Int32).toInt = 1 from rfl) (by omega) (by omega)
                refine lv_iinc (v := x_114) (lv' := [(5, .int x_114), (8, .int a_nx), (7, .int a_na), (6, .int a_nx), (4, .int v_ca), (0, .ref (b + 45)), (1, .int a_na), (2, .int a_nb), (3, .int a_nx)]) hx hb dX9_readings_114 hl (k := 3) rfl (by rw [e_114]; rfl) (by decide) rfl (fun ls hl => ?_)
                refine lv_goto (tgt := 25) hx hb dX9_readings_117 (by decide) ?_
                refine ih_25 ⟨x_114, (o + 1), I_111, R_111⟩ ⟨p_114, by dsimp only; rw [rdN_s _ _ _ _ (by omega) (by omega), rdS_p hd, hY, hM, hD]; have h4 := z_111.2.2.2; rw [hN2, eM] at h4; exact ⟨inv_25.1.tr z_111.1 (by decide) (by decide), inv_25.2.1.tr z_111.2.2.1 (by decide) (by decide), (z_111.1 0 (by decide)).trans inv_25.2.2.1, by omega, z_111.2.1.trans (by rw [inv_25.2.2.2.2.1]; rfl), h4⟩⟩ (by dsimp only; omega) _ _ w ls (lv_sub hl [0, 4, 5, 6, 7, 8] rfl)
            · skip
              have k_69 : o = 1 := (g_eq q_o (show (1 : Int32).toInt = 1 from rfl)).mp c_69
              refine lv_iload_n hx hb dX9_readings_72 rfl (lv_at hl 6 rfl) ?_
              refine lv_goto (tgt := 77) hx hb dX9_readings_73 (by decide) ?_
              refine lv_istore (lv' := [(8, .int a_nb), (7, .int a_na), (6, .int a_nx), (5, .int v_o), (4, .int v_ca), (0, .ref (b + 45)), (1, .int a_na), (2, .int a_nb), (3, .int a_nx)]) hx hb dX9_readings_77 hl (by decide) rfl (fun ls hl => ?_)
              have hY : rY o na nx = nx := by unfold rY; rw [if_neg k_34]
              have hM : rM o na nb = na := by unfold rM; rw [if_pos k_47]
              have hD : rD o na nb nx = nb := by unfold rD; rw [if_neg k_59, if_pos k_69]
              refine lv_aload_n hx hb dX9_readings_79 rfl (lv_at hl 5 rfl) ?_
              refine lv_iload hx hb dX9_readings_80 (lv_at hl 4 rfl) ?_
              refine lv_iload hx hb dX9_readings_82 (lv_at hl 2 rfl) ?_
              refine lv_iload hx hb dX9_readings_84 (lv_at hl 1 rfl) ?_
              refine lv_iload hx hb dX9_readings_86 (lv_at hl 0 rfl) ?_
              refine q_cPV X w (c_X9_isDatedDay l D t b n σ0 I_L25 R_L25 v_ca a_nx a_na a_nb ca nx na nb q_ca e_nx e_na e_nb (by first | assumption | omega) (by first | assumption | omega) (by first | assumption | omega)) v_X9_241 (k := 45) rfl rfl rfl ⟨Nat.le_of_ble_eq_true rfl, Nat.le_of_ble_eq_true rfl⟩ rfl hl.1 (Nat.le_of_ble_eq_true rfl) dX9_readings_88 ⟨Nat.zero_le _, Nat.zero_le _⟩ (fun r_88 z_88 => ?_)
              refine lv_if_eq (tgt := 114) hx hb dX9_readings_91 (by decide) (fun c_91 => ?_) (fun c_91 => ?_)
              · skip
                rw [z_88] at c_91
                have k_91 := bI_f.mp c_91
                have hd : ¬ datd (rowM Rw ca) (rY o na nx) (rM o na nb) (rD o na nb nx) := by rw [hY, hM, hD, ← eM]; exact k_91
                obtain ⟨x_114, e_114⟩ : ∃ z : Int32, z = (v_o + 1) := ⟨_, rfl⟩
                have p_114 : x_114.toInt = (o + 1) := by rw [e_114]; exact t_add q_o (show (1 : Int32).toInt = 1 from rfl) (by omega) (by omega)
                refine lv_iinc (v := x_114) (lv' := [(5, .int x_114), (8, .int a_nb), (7, .int a_na), (6, .int a_nx), (4, .int v_ca), (0, .ref (b + 45)), (1, .int a_na), (2, .int a_nb), (3, .int a_nx)]) hx hb dX9_readings_114 hl (k := 3) rfl (by rw [e_114]; rfl) (by decide) rfl (fun ls hl => ?_)
                refine lv_goto (tgt := 25) hx hb dX9_readings_117 (by decide) ?_
                refine ih_25 ⟨x_114, (o + 1), I_L25, R_L25⟩ ⟨p_114, by dsimp only; rw [rdN_s _ _ _ _ (by omega) (by omega), rdS_n hd]; exact ⟨inv_25.1, inv_25.2.1, inv_25.2.2.1, by omega, inv_25.2.2.2.2⟩⟩ (by dsimp only; omega) _ _ w ls (lv_sub hl [0, 4, 5, 6, 7, 8] rfl)
              · skip
                rw [z_88] at c_91
                have k_91 := bI_t.mp c_91
                have hd : datd (rowM Rw ca) (rY o na nx) (rM o na nb) (rD o na nb nx) := by rw [hY, hM, hD, ← eM]; exact k_91
                have hL := mlen_bd hq k_91.1.1.2.1 k_91.1.1.2.2
                refine lv_aload_n hx hb dX9_readings_94 rfl (lv_at hl 5 rfl) ?_
                refine lv_iload hx hb dX9_readings_95 (lv_at hl 4 rfl) ?_
                refine lv_iload hx hb dX9_readings_97 (lv_at hl 3 rfl) ?_
                refine lv_aload_n hx hb dX9_readings_99 rfl (lv_at hl 5 rfl) ?_
                refine lv_iload hx hb dX9_readings_100 (lv_at hl 4 rfl) ?_
                refine lv_iload hx hb dX9_readings_102 (lv_at hl 2 rfl) ?_
                refine lv_iload hx hb dX9_readings_104 (lv_at hl 1 rfl) ?_
                refine lv_iload hx hb dX9_readings_106 (lv_at hl 0 rfl) ?_
                refine q_cPV X w (c_X9_dayAt l D t b n σ0 I_L25 R_L25 v_ca a_nx a_na a_nb ca nx na nb q_ca e_nx e_na e_nb (by first | assumption | omega) (by first | assumption | omega) (by first | assumption | omega) (by omega) (by exact k_91.1.1.2) (by omega)) v_X9_234 (k := 45) rfl rfl rfl ⟨Nat.le_of_ble_eq_true rfl, Nat.le_of_ble_eq_true rfl⟩ rfl hl.1 (Nat.le_of_ble_eq_true rfl) dX9_readings_108 ⟨Nat.zero_le _, Nat.zero_le _⟩ (fun r_108 z_108 => ?_)
                refine mm_cV X w (c_X9_comesReading l D t b n σ0 I_L25 R_L25 ((rdN (rowM Rw) na nb nx (3 * ca + o).toNat).1) v_ca v_o r_108 ca o (dnum (rowM R_L25 ca) nx na nb) q_ca q_o z_108 (by rw [inv_25.2.2.2.2.1]; omega) (by rw [hN2]; exact inv_25.2.2.2.2.2)) v_X9_319 rfl rfl ⟨Nat.le_of_ble_eq_true rfl, Nat.le_of_ble_eq_true rfl⟩ rfl hl.1 (Nat.le_of_ble_eq_true rfl) dX9_readings_111 ⟨Nat.zero_le _, Nat.zero_le _⟩ (fun I_111 R_111 H locs z_111 w => ?_)
                obtain ⟨x_114, e_114⟩ : ∃ z : Int32, z = (v_o + 1) := ⟨_, rfl⟩
                have p_114 : x_114.toInt = (o + 1) := by rw [e_114]; exact t_add q_o (show (1 : Int32).toInt = 1 from rfl) (by omega) (by omega)
                refine lv_iinc (v := x_114) (lv' := [(5, .int x_114), (8, .int a_nb), (7, .int a_na), (6, .int a_nx), (4, .int v_ca), (0, .ref (b + 45)), (1, .int a_na), (2, .int a_nb), (3, .int a_nx)]) hx hb dX9_readings_114 hl (k := 3) rfl (by rw [e_114]; rfl) (by decide) rfl (fun ls hl => ?_)
                refine lv_goto (tgt := 25) hx hb dX9_readings_117 (by decide) ?_
                refine ih_25 ⟨x_114, (o + 1), I_111, R_111⟩ ⟨p_114, by dsimp only; rw [rdN_s _ _ _ _ (by omega) (by omega), rdS_p hd, hY, hM, hD]; have h4 := z_111.2.2.2; rw [hN2, eM] at h4; exact ⟨inv_25.1.tr z_111.1 (by decide) (by decide), inv_25.2.1.tr z_111.2.2.1 (by decide) (by decide), (z_111.1 0 (by decide)).trans inv_25.2.2.1, by omega, z_111.2.1.trans (by rw [inv_25.2.2.2.2.1]; rfl), h4⟩⟩ (by dsimp only; omega) _ _ w ls (lv_sub hl [0, 4, 5, 6, 7, 8] rfl)
          · skip
            have k_59 : o = 0 := (g_eq q_o (show (0 : Int32).toInt = 0 from rfl)).mp c_59
            refine lv_iload_n hx hb dX9_readings_62 rfl (lv_at hl 5 rfl) ?_
            refine lv_goto (tgt := 77) hx hb dX9_readings_63 (by decide) ?_
            refine lv_istore (lv' := [(8, .int a_na), (7, .int a_na), (6, .int a_nx), (5, .int v_o), (4, .int v_ca), (0, .ref (b + 45)), (1, .int a_na), (2, .int a_nb), (3, .int a_nx)]) hx hb dX9_readings_77 hl (by decide) rfl (fun ls hl => ?_)
            have hY : rY o na nx = nx := by unfold rY; rw [if_neg k_34]
            have hM : rM o na nb = na := by unfold rM; rw [if_pos k_47]
            have hD : rD o na nb nx = na := by unfold rD; rw [if_pos k_59]
            refine lv_aload_n hx hb dX9_readings_79 rfl (lv_at hl 5 rfl) ?_
            refine lv_iload hx hb dX9_readings_80 (lv_at hl 4 rfl) ?_
            refine lv_iload hx hb dX9_readings_82 (lv_at hl 2 rfl) ?_
            refine lv_iload hx hb dX9_readings_84 (lv_at hl 1 rfl) ?_
            refine lv_iload hx hb dX9_readings_86 (lv_at hl 0 rfl) ?_
            refine q_cPV X w (c_X9_isDatedDay l D t b n σ0 I_L25 R_L25 v_ca a_nx a_na a_na ca nx na na q_ca e_nx e_na e_na (by first | assumption | omega) (by first | assumption | omega) (by first | assumption | omega)) v_X9_241 (k := 45) rfl rfl rfl ⟨Nat.le_of_ble_eq_true rfl, Nat.le_of_ble_eq_true rfl⟩ rfl hl.1 (Nat.le_of_ble_eq_true rfl) dX9_readings_88 ⟨Nat.zero_le _, Nat.zero_le _⟩ (fun r_88 z_88 => ?_)
            refine lv_if_eq (tgt := 114) hx hb dX9_readings_91 (by decide) (fun c_91 => ?_) (fun c_91 => ?_)
            · skip
              rw [z_88] at c_91
              have k_91 := bI_f.mp c_91
              have hd : ¬ datd (rowM Rw ca) (rY o na nx) (rM o na nb) (rD o na nb nx) := by rw [hY, hM, hD, ← eM]; exact k_91
              obtain ⟨x_114, e_114⟩ : ∃ z : Int32, z = (v_o + 1) := ⟨_, rfl⟩
              have p_114 : x_114.toInt = (o + 1) := by rw [e_114]; exact t_add q_o (show (1 : Int32).toInt = 1 from rfl) (by omega) (by omega)
              refine lv_iinc (v := x_114) (lv' := [(5, .int x_114), (8, .int a_na), (7, .int a_na), (6, .int a_nx), (4, .int v_ca), (0, .ref (b + 45)), (1, .int a_na), (2, .int a_nb), (3, .int a_nx)]) hx hb dX9_readings_114 hl (k := 3) rfl (by rw [e_114]; rfl) (by decide) rfl (fun ls hl => ?_)
              refine lv_goto (tgt := 25) hx hb dX9_readings_117 (by decide) ?_
              refine ih_25 ⟨x_114, (o + 1), I_L25, R_L25⟩ ⟨p_114, by dsimp only; rw [rdN_s _ _ _ _ (by omega) (by omega), rdS_n hd]; exact ⟨inv_25.1, inv_25.2.1, inv_25.2.2.1, by omega, inv_25.2.2.2.2⟩⟩ (by dsimp only; omega) _ _ w ls (lv_sub hl [0, 4, 5, 6, 7, 8] rfl)
            · skip
              rw [z_88] at c_91
              have k_91 := bI_t.mp c_91
              have hd : datd (rowM Rw ca) (rY o na nx) (rM o na nb) (rD o na nb nx) := by rw [hY, hM, hD, ← eM]; exact k_91
              have hL := mlen_bd hq k_91.1.1.2.1 k_91.1.1.2.2
              refine lv_aload_n hx hb dX9_readings_94 rfl (lv_at hl 5 rfl) ?_
              refine lv_iload hx hb dX9_readings_95 (lv_at hl 4 rfl) ?_
              refine lv_iload hx hb dX9_readings_97 (lv_at hl 3 rfl) ?_
              refine lv_aload_n hx hb dX9_readings_99 rfl (lv_at hl 5 rfl) ?_
              refine lv_iload hx hb dX9_readings_100 (lv_at hl 4 rfl) ?_
              refine lv_iload hx hb dX9_readings_102 (lv_at hl 2 rfl) ?_
              refine lv_iload hx hb dX9_readings_104 (lv_at hl 1 rfl) ?_
              refine lv_iload hx hb dX9_readings_106 (lv_at hl 0 rfl) ?_
              refine q_cPV X w (c_X9_dayAt l D t b n σ0 I_L25 R_L25 v_ca a_nx a_na a_na ca nx na na q_ca e_nx e_na e_na (by first | assumption | omega) (by first | assumption | omega) (by first | assumption | omega) (by omega) (by exact k_91.1.1.2) (by omega)) v_X9_234 (k := 45) rfl rfl rfl ⟨Nat.le_of_ble_eq_true rfl, Nat.le_of_ble_eq_true rfl⟩ rfl hl.1 (Nat.le_of_ble_eq_true rfl) dX9_readings_108 ⟨Nat.zero_le _, Nat.zero_le _⟩ (fun r_108 z_108 => ?_)
              refine mm_cV X w (c_X9_comesReading l D t b n σ0 I_L25 R_L25 ((rdN (rowM Rw) na nb nx (3 * ca + o).toNat).1) v_ca v_o r_108 ca o (dnum (rowM R_L25 ca) nx na na) q_ca q_o z_108 (by rw [inv_25.2.2.2.2.1]; omega) (by rw [hN2]; exact inv_25.2.2.2.2.2)) v_X9_319 rfl rfl ⟨Nat.le_of_ble_eq_true rfl, Nat.le_of_ble_eq_true rfl⟩ rfl hl.1 (Nat.le_of_ble_eq_true rfl) dX9_readings_111 ⟨Nat.zero_le _, Nat.zero_le _⟩ (fun I_111 R_111 H locs z_111 w => ?_)
              obtain ⟨x_114, e_114⟩ : ∃ z : Int32, z = (v_o + 1) := ⟨_, rfl⟩
              have p_114 : x_114.toInt = (o + 1) := by rw [e_114]; exact t_add q_o (show (1 : Int32).toInt = 1 from rfl) (by omega) (by omega)
              refine lv_iinc (v := x_114) (lv' := [(5, .int x_114), (8, .int a_na), (7, .int a_na), (6, .int a_nx), (4, .int v_ca), (0, .ref (b + 45)), (1, .int a_na), (2, .int a_nb), (3, .int a_nx)]) hx hb dX9_readings_114 hl (k := 3) rfl (by rw [e_114]; rfl) (by decide) rfl (fun ls hl => ?_)
              refine lv_goto (tgt := 25) hx hb dX9_readings_117 (by decide) ?_
              refine ih_25 ⟨x_114, (o + 1), I_111, R_111⟩ ⟨p_114, by dsimp only; rw [rdN_s _ _ _ _ (by omega) (by omega), rdS_p hd, hY, hM, hD]; have h4 := z_111.2.2.2; rw [hN2, eM] at h4; exact ⟨inv_25.1.tr z_111.1 (by decide) (by decide), inv_25.2.1.tr z_111.2.2.1 (by decide) (by decide), (z_111.1 0 (by decide)).trans inv_25.2.2.1, by omega, z_111.2.1.trans (by rw [inv_25.2.2.2.2.1]; rfl), h4⟩⟩ (by dsimp only; omega) _ _ w ls (lv_sub hl [0, 4, 5, 6, 7, 8] rfl)
      · skip
        have k_34 : o = 2 := (g_eq q_o (show (2 : Int32).toInt = 2 from rfl)).mp c_34
        refine lv_iload_n hx hb dX9_readings_37 rfl (lv_at hl 3 rfl) ?_
        refine lv_goto (tgt := 42) hx hb dX9_readings_38 (by decide) ?_
        refine lv_istore (lv' := [(6, .int a_na), (5, .int v_o), (4, .int v_ca), (0, .ref (b + 45)), (1, .int a_na), (2, .int a_nb), (3, .int a_nx)]) hx hb dX9_readings_42 hl (by decide) rfl (fun ls hl => ?_)
        refine lv_iload hx hb dX9_readings_44 (lv_at hl 1 rfl) ?_
        refine lv_iconst (v := 1) hx hb dX9_readings_46 (by decide) ?_
        refine lv_icmp_ne (tgt := 54) hx hb dX9_readings_47 (by decide) (fun c_47 => ?_) (fun c_47 => ?_)
        · skip
          have k_47 : ¬ (o = 1) := fun h => c_47 ((g_eq q_o (show (1 : Int32).toInt = 1 from rfl)).mpr h)
          refine lv_iload_n hx hb dX9_readings_54 rfl (lv_at hl 5 rfl) ?_
          refine lv_istore (lv' := [(7, .int a_nb), (6, .int a_na), (5, .int v_o), (4, .int v_ca), (0, .ref (b + 45)), (1, .int a_na), (2, .int a_nb), (3, .int a_nx)]) hx hb dX9_readings_55 hl (by decide) rfl (fun ls hl => ?_)
          refine lv_iload hx hb dX9_readings_57 (lv_at hl 2 rfl) ?_
          refine lv_if_ne (tgt := 66) hx hb dX9_readings_59 (by decide) (fun c_59 => ?_) (fun c_59 => ?_)
          · skip
            have k_59 : ¬ (o = 0) := fun h => c_59 ((g_eq q_o (show (0 : Int32).toInt = 0 from rfl)).mpr h)
            refine lv_iload hx hb dX9_readings_66 (lv_at hl 2 rfl) ?_
            refine lv_iconst (v := 1) hx hb dX9_readings_68 (by decide) ?_
            refine lv_icmp_ne (tgt := 76) hx hb dX9_readings_69 (by decide) (fun c_69 => ?_) (fun c_69 => ?_)
            · skip
              have k_69 : ¬ (o = 1) := fun h => c_69 ((g_eq q_o (show (1 : Int32).toInt = 1 from rfl)).mpr h)
              refine lv_iload_n hx hb dX9_readings_76 rfl (lv_at hl 7 rfl) ?_
              refine lv_istore (lv' := [(8, .int a_nx), (7, .int a_nb), (6, .int a_na), (5, .int v_o), (4, .int v_ca), (0, .ref (b + 45)), (1, .int a_na), (2, .int a_nb), (3, .int a_nx)]) hx hb dX9_readings_77 hl (by decide) rfl (fun ls hl => ?_)
              have hY : rY o na nx = na := by unfold rY; rw [if_pos k_34]
              have hM : rM o na nb = nb := by unfold rM; rw [if_neg k_47]
              have hD : rD o na nb nx = nx := by unfold rD; rw [if_neg k_59, if_neg k_69]
              refine lv_aload_n hx hb dX9_readings_79 rfl (lv_at hl 5 rfl) ?_
              refine lv_iload hx hb dX9_readings_80 (lv_at hl 4 rfl) ?_
              refine lv_iload hx hb dX9_readings_82 (lv_at hl 2 rfl) ?_
              refine lv_iload hx hb dX9_readings_84 (lv_at hl 1 rfl) ?_
              refine lv_iload hx hb dX9_readings_86 (lv_at hl 0 rfl) ?_
              refine q_cPV X w (c_X9_isDatedDay l D t b n σ0 I_L25 R_L25 v_ca a_na a_nb a_nx ca na nb nx q_ca e_na e_nb e_nx (by first | assumption | omega) (by first | assumption | omega) (by first | assumption | omega)) v_X9_241 (k := 45) rfl rfl rfl ⟨Nat.le_of_ble_eq_true rfl, Nat.le_of_ble_eq_true rfl⟩ rfl hl.1 (Nat.le_of_ble_eq_true rfl) dX9_readings_88 ⟨Nat.zero_le _, Nat.zero_le _⟩ (fun r_88 z_88 => ?_)
              refine lv_if_eq (tgt := 114) hx hb dX9_readings_91 (by decide) (fun c_91 => ?_) (fun c_91 => ?_)
              · skip
                rw [z_88] at c_91
                have k_91 := bI_f.mp c_91
                have hd : ¬ datd (rowM Rw ca) (rY o na nx) (rM o na nb) (rD o na nb nx) := by rw [hY, hM, hD, ← eM]; exact k_91
                obtain ⟨x_114, e_114⟩ : ∃ z : Int32, z = (v_o + 1) := ⟨_, rfl⟩
                have p_114 : x_114.toInt = (o + 1) := by rw [e_114]; exact t_add q_o (show (1 : Int32).toInt = 1 from rfl) (by omega) (by omega)
                refine lv_iinc (v := x_114) (lv' := [(5, .int x_114), (8, .int a_nx), (7, .int a_nb), (6, .int a_na), (4, .int v_ca), (0, .ref (b + 45)), (1, .int a_na), (2, .int a_nb), (3, .int a_nx)]) hx hb dX9_readings_114 hl (k := 3) rfl (by rw [e_114]; rfl) (by decide) rfl (fun ls hl => ?_)
                refine lv_goto (tgt := 25) hx hb dX9_readings_117 (by decide) ?_
                refine ih_25 ⟨x_114, (o + 1), I_L25, R_L25⟩ ⟨p_114, by dsimp only; rw [rdN_s _ _ _ _ (by omega) (by omega), rdS_n hd]; exact ⟨inv_25.1, inv_25.2.1, inv_25.2.2.1, by omega, inv_25.2.2.2.2⟩⟩ (by dsimp only; omega) _ _ w ls (lv_sub hl [0, 4, 5, 6, 7, 8] rfl)
              · skip
                rw [z_88] at c_91
                have k_91 := bI_t.mp c_91
                have hd : datd (rowM Rw ca) (rY o na nx) (rM o na nb) (rD o na nb nx) := by rw [hY, hM, hD, ← eM]; exact k_91
                have hL := mlen_bd hq k_91.1.1.2.1 k_91.1.1.2.2
                refine lv_aload_n hx hb dX9_readings_94 rfl (lv_at hl 5 rfl) ?_
                refine lv_iload hx hb dX9_readings_95 (lv_at hl 4 rfl) ?_
                refine lv_iload hx hb dX9_readings_97 (lv_at hl 3 rfl) ?_
                refine lv_aload_n hx hb dX9_readings_99 rfl (lv_at hl 5 rfl) ?_
                refine lv_iload hx hb dX9_readings_100 (lv_at hl 4 rfl) ?_
                refine lv_iload hx hb dX9_readings_102 (lv_at hl 2 rfl) ?_
                refine lv_iload hx hb dX9_readings_104 (lv_at hl 1 rfl) ?_
                refine lv_iload hx hb dX9_readings_106 (lv_at hl 0 rfl) ?_
                refine q_cPV X w (c_X9_dayAt l D t b n σ0 I_L25 R_L25 v_ca a_na a_nb a_nx ca na nb nx q_ca e_na e_nb e_nx (by first | assumption | omega) (by first | assumption | omega) (by first | assumption | omega) (by omega) (by exact k_91.1.1.2) (by omega)) v_X9_234 (k := 45) rfl rfl rfl ⟨Nat.le_of_ble_eq_true rfl, Nat.le_of_ble_eq_true rfl⟩ rfl hl.1 (Nat.le_of_ble_eq_true rfl) dX9_readings_108 ⟨Nat.zero_le _, Nat.zero_le _⟩ (fun r_108 z_108 => ?_)
                refine mm_cV X w (c_X9_comesReading l D t b n σ0 I_L25 R_L25 ((rdN (rowM Rw) na nb nx (3 * ca + o).toNat).1) v_ca v_o r_108 ca o (dnum (rowM R_L25 ca) na nb nx) q_ca q_o z_108 (by rw [inv_25.2.2.2.2.1]; omega) (by rw [hN2]; exact inv_25.2.2.2.2.2)) v_X9_319 rfl rfl ⟨Nat.le_of_ble_eq_true rfl, Nat.le_of_ble_eq_true rfl⟩ rfl hl.1 (Nat.le_of_ble_eq_true rfl) dX9_readings_111 ⟨Nat.zero_le _, Nat.zero_le _⟩ (fun I_111 R_111 H locs z_111 w => ?_)
                obtain ⟨x_114, e_114⟩ : ∃ z : Int32, z = (v_o + 1) := ⟨_, rfl⟩
                have p_114 : x_114.toInt = (o + 1) := by rw [e_114]; exact t_add q_o (show (1 : Int32).toInt = 1 from rfl) (by omega) (by omega)
                refine lv_iinc (v := x_114) (lv' := [(5, .int x_114), (8, .int a_nx), (7, .int a_nb), (6, .int a_na), (4, .int v_ca), (0, .ref (b + 45)), (1, .int a_na), (2, .int a_nb), (3, .int a_nx)]) hx hb dX9_readings_114 hl (k := 3) rfl (by rw [e_114]; rfl) (by decide) rfl (fun ls hl => ?_)
                refine lv_goto (tgt := 25) hx hb dX9_readings_117 (by decide) ?_
                refine ih_25 ⟨x_114, (o + 1), I_111, R_111⟩ ⟨p_114, by dsimp only; rw [rdN_s _ _ _ _ (by omega) (by omega), rdS_p hd, hY, hM, hD]; have h4 := z_111.2.2.2; rw [hN2, eM] at h4; exact ⟨inv_25.1.tr z_111.1 (by decide) (by decide), inv_25.2.1.tr z_111.2.2.1 (by decide) (by decide), (z_111.1 0 (by decide)).trans inv_25.2.2.1, by omega, z_111.2.1.trans (by rw [inv_25.2.2.2.2.1]; rfl), h4⟩⟩ (by dsimp only; omega) _ _ w ls (lv_sub hl [0, 4, 5, 6, 7, 8] rfl)
            · skip
              have k_69 : o = 1 := (g_eq q_o (show (1 : Int32).toInt = 1 from rfl)).mp c_69
              refine lv_iload_n hx hb dX9_readings_72 rfl (lv_at hl 6 rfl) ?_
              refine lv_goto (tgt := 77) hx hb dX9_readings_73 (by decide) ?_
              refine lv_istore (lv' := [(8, .int a_nb), (7, .int a_nb), (6, .int a_na), (5, .int v_o), (4, .int v_ca), (0, .ref (b + 45)), (1, .int a_na), (2, .int a_nb), (3, .int a_nx)]) hx hb dX9_readings_77 hl (by decide) rfl (fun ls hl => ?_)
              have hY : rY o na nx = na := by unfold rY; rw [if_pos k_34]
              have hM : rM o na nb = nb := by unfold rM; rw [if_neg k_47]
              have hD : rD o na nb nx = nb := by unfold rD; rw [if_neg k_59, if_pos k_69]
              refine lv_aload_n hx hb dX9_readings_79 rfl (lv_at hl 5 rfl) ?_
              refine lv_iload hx hb dX9_readings_80 (lv_at hl 4 rfl) ?_
              refine lv_iload hx hb dX9_readings_82 (lv_at hl 2 rfl) ?_
              refine lv_iload hx hb dX9_readings_84 (lv_at hl 1 rfl) ?_
              refine lv_iload hx hb dX9_readings_86 (lv_at hl 0 rfl) ?_
              refine q_cPV X w (c_X9_isDatedDay l D t b n σ0 I_L25 R_L25 v_ca a_na a_nb a_nb ca na nb nb q_ca e_na e_nb e_nb (by first | assumption | omega) (by first | assumption | omega) (by first | assumption | omega)) v_X9_241 (k := 45) rfl rfl rfl ⟨Nat.le_of_ble_eq_true rfl, Nat.le_of_ble_eq_true rfl⟩ rfl hl.1 (Nat.le_of_ble_eq_true rfl) dX9_readings_88 ⟨Nat.zero_le _, Nat.zero_le _⟩ (fun r_88 z_88 => ?_)
              refine lv_if_eq (tgt := 114) hx hb dX9_readings_91 (by decide) (fun c_91 => ?_) (fun c_91 => ?_)
              · skip
                rw [z_88] at c_91
                have k_91 := bI_f.mp c_91
                have hd : ¬ datd (rowM Rw ca) (rY o na nx) (rM o na nb) (rD o na nb nx) := by rw [hY, hM, hD, ← eM]; exact k_91
                obtain ⟨x_114, e_114⟩ : ∃ z : Int32, z = (v_o + 1) := ⟨_, rfl⟩
                have p_114 : x_114.toInt = (o + 1) := by rw [e_114]; exact t_add q_o (show (1 : Int32).toInt = 1 from rfl) (by omega) (by omega)
                refine lv_iinc (v := x_114) (lv' := [(5, .int x_114), (8, .int a_nb), (7, .int a_nb), (6, .int a_na), (4, .int v_ca), (0, .ref (b + 45)), (1, .int a_na), (2, .int a_nb), (3, .int a_nx)]) hx hb dX9_readings_114 hl (k := 3) rfl (by rw [e_114]; rfl) (by decide) rfl (fun ls hl => ?_)
                refine lv_goto (tgt := 25) hx hb dX9_readings_117 (by decide) ?_
                refine ih_25 ⟨x_114, (o + 1), I_L25, R_L25⟩ ⟨p_114, by dsimp only; rw [rdN_s _ _ _ _ (by omega) (by omega), rdS_n hd]; exact ⟨inv_25.1, inv_25.2.1, inv_25.2.2.1, by omega, inv_25.2.2.2.2⟩⟩ (by dsimp only; omega) _ _ w ls (lv_sub hl [0, 4, 5, 6, 7, 8] rfl)
              · skip
                rw [z_88] at c_91
                have k_91 := bI_t.mp c_91
                have hd : datd (rowM Rw ca) (rY o na nx) (rM o na nb) (rD o na nb nx) := by rw [hY, hM, hD, ← eM]; exact k_91
                have hL := mlen_bd hq k_91.1.1.2.1 k_91.1.1.2.2
                refine lv_aload_n hx hb dX9_readings_94 rfl (lv_at hl 5 rfl) ?_
                refine lv_iload hx hb dX9_readings_95 (lv_at hl 4 rfl) ?_
                refine lv_iload hx hb dX9_readings_97 (lv_at hl 3 rfl) ?_
                refine lv_aload_n hx hb dX9_readings_99 rfl (lv_at hl 5 rfl) ?_
                refine lv_iload hx hb dX9_readings_100 (lv_at hl 4 rfl) ?_
                refine lv_iload hx hb dX9_readings_102 (lv_at hl 2 rfl) ?_
                refine lv_iload hx hb dX9_readings_104 (lv_at hl 1 rfl) ?_
                refine lv_iload hx hb dX9_readings_106 (lv_at hl 0 rfl) ?_
                refine q_cPV X w (c_X9_dayAt l D t b n σ0 I_L25 R_L25 v_ca a_na a_nb a_nb ca na nb nb q_ca e_na e_nb e_nb (by first | assumption | omega) (by first | assumption | omega) (by first | assumption | omega) (by omega) (by exact k_91.1.1.2) (by omega)) v_X9_234 (k := 45) rfl rfl rfl ⟨Nat.le_of_ble_eq_true rfl, Nat.le_of_ble_eq_true rfl⟩ rfl hl.1 (Nat.le_of_ble_eq_true rfl) dX9_readings_108 ⟨Nat.zero_le _, Nat.zero_le _⟩ (fun r_108 z_108 => ?_)
                refine mm_cV X w (c_X9_comesReading l D t b n σ0 I_L25 R_L25 ((rdN (rowM Rw) na nb nx (3 * ca + o).toNat).1) v_ca v_o r_108 ca o (dnum (rowM R_L25 ca) na nb nb) q_ca q_o z_108 (by rw [inv_25.2.2.2.2.1]; omega) (by rw [hN2]; exact inv_25.2.2.2.2.2)) v_X9_319 rfl rfl ⟨Nat.le_of_ble_eq_true rfl, Nat.le_of_ble_eq_true rfl⟩ rfl hl.1 (Nat.le_of_ble_eq_true rfl) dX9_readings_111 ⟨Nat.zero_le _, Nat.zero_le _⟩ (fun I_111 R_111 H locs z_111 w => ?_)
                obtain ⟨x_114, e_114⟩ : ∃ z : Int32, z = (v_o + 1) := ⟨_, rfl⟩
                have p_114 : x_114.toInt = (o + 1) := by rw [e_114]; exact t_add q_o (show (1 : Int32).toInt = 1 from rfl) (by omega) (by omega)
                refine lv_iinc (v := x_114) (lv' := [(5, .int x_114), (8, .int a_nb), (7, .int a_nb), (6, .int a_na), (4, .int v_ca), (0, .ref (b + 45)), (1, .int a_na), (2, .int a_nb), (3, .int a_nx)]) hx hb dX9_readings_114 hl (k := 3) rfl (by rw [e_114]; rfl) (by decide) rfl (fun ls hl => ?_)
                refine lv_goto (tgt := 25) hx hb dX9_readings_117 (by decide) ?_
                refine ih_25 ⟨x_114, (o + 1), I_111, R_111⟩ ⟨p_114, by dsimp only; rw [rdN_s _ _ _ _ (by omega) (by omega), rdS_p hd, hY, hM, hD]; have h4 := z_111.2.2.2; rw [hN2, eM] at h4; exact ⟨inv_25.1.tr z_111.1 (by decide) (by decide), inv_25.2.1.tr z_111.2.2.1 (by decide) (by decide), (z_111.1 0 (by decide)).trans inv_25.2.2.1, by omega, z_111.2.1.trans (by rw [inv_25.2.2.2.2.1]; rfl), h4⟩⟩ (by dsimp only; omega) _ _ w ls (lv_sub hl [0, 4, 5, 6, 7, 8] rfl)
          · skip
            have k_59 : o = 0 := (g_eq q_o (show (0 : Int32).toInt = 0 from rfl)).mp c_59
            refine lv_iload_n hx hb dX9_readings_62 rfl (lv_at hl 5 rfl) ?_
            refine lv_goto (tgt := 77) hx hb dX9_readings_63 (by decide) ?_
            refine lv_istore (lv' := [(8, .int a_na), (7, .int a_nb), (6, .int a_na), (5, .int v_o), (4, .int v_ca), (0, .ref (b + 45)), (1, .int a_na), (2, .int a_nb), (3, .int a_nx)]) hx hb dX9_readings_77 hl (by decide) rfl (fun ls hl => ?_)
            have hY : rY o na nx = na := by unfold rY; rw [if_pos k_34]
            have hM : rM o na nb = nb := by unfold rM; rw [if_neg k_47]
            have hD : rD o na nb nx = na := by unfold rD; rw [if_pos k_59]
            refine lv_aload_n hx hb dX9_readings_79 rfl (lv_at hl 5 rfl) ?_
            refine lv_iload hx hb dX9_readings_80 (lv_at hl 4 rfl) ?_
            refine lv_iload hx hb dX9_readings_82 (lv_at hl 2 rfl) ?_
            refine lv_iload hx hb dX9_readings_84 (lv_at hl 1 rfl) ?_
            refine lv_iload hx hb dX9_readings_86 (lv_at hl 0 rfl) ?_
            refine q_cPV X w (c_X9_isDatedDay l D t b n σ0 I_L25 R_L25 v_ca a_na a_nb a_na ca na nb na q_ca e_na e_nb e_na (by first | assumption | omega) (by first | assumption | omega) (by first | assumption | omega)) v_X9_241 (k := 45) rfl rfl rfl ⟨Nat.le_of_ble_eq_true rfl, Nat.le_of_ble_eq_true rfl⟩ rfl hl.1 (Nat.le_of_ble_eq_true rfl) dX9_readings_88 ⟨Nat.zero_le _, Nat.zero_le _⟩ (fun r_88 z_88 => ?_)
            refine lv_if_eq (tgt := 114) hx hb dX9_readings_91 (by decide) (fun c_91 => ?_) (fun c_91 => ?_)
            · skip
              rw [z_88] at c_91
              have k_91 := bI_f.mp c_91
              have hd : ¬ datd (rowM Rw ca) (rY o na nx) (rM o na nb) (rD o na nb nx) := by rw [hY, hM, hD, ← eM]; exact k_91
              obtain ⟨x_114, e_114⟩ : ∃ z : Int32, z = (v_o + 1) := ⟨_, rfl⟩
              have p_114 : x_114.toInt = (o + 1) := by rw [e_114]; exact t_add q_o (show (1 : Int32).toInt = 1 from rfl) (by omega) (by omega)
              refine lv_iinc (v := x_114) (lv' := [(5, .int x_114), (8, .int a_na), (7, .int a_nb), (6, .int a_na), (4, .int v_ca), (0, .ref (b + 45)), (1, .int a_na), (2, .int a_nb), (3, .int a_nx)]) hx hb dX9_readings_114 hl (k := 3) rfl (by rw [e_114]; rfl) (by decide) rfl (fun ls hl => ?_)
              refine lv_goto (tgt := 25) hx hb dX9_readings_117 (by decide) ?_
              refine ih_25 ⟨x_114, (o + 1), I_L25, R_L25⟩ ⟨p_114, by dsimp only; rw [rdN_s _ _ _ _ (by omega) (by omega), rdS_n hd]; exact ⟨inv_25.1, inv_25.2.1, inv_25.2.2.1, by omega, inv_25.2.2.2.2⟩⟩ (by dsimp only; omega) _ _ w ls (lv_sub hl [0, 4, 5, 6, 7, 8] rfl)
            · skip
              rw [z_88] at c_91
              have k_91 := bI_t.mp c_91
              have hd : datd (rowM Rw ca) (rY o na nx) (rM o na nb) (rD o na nb nx) := by rw [hY, hM, hD, ← eM]; exact k_91
              have hL := mlen_bd hq k_91.1.1.2.1 k_91.1.1.2.2
              refine lv_aload_n hx hb dX9_readings_94 rfl (lv_at hl 5 rfl) ?_
              refine lv_iload hx hb dX9_readings_95 (lv_at hl 4 rfl) ?_
              refine lv_iload hx hb dX9_readings_97 (lv_at hl 3 rfl) ?_
              refine lv_aload_n hx hb dX9_readings_99 rfl (lv_at hl 5 rfl) ?_
              refine lv_iload hx hb dX9_readings_100 (lv_at hl 4 rfl) ?_
              refine lv_iload hx hb dX9_readings_102 (lv_at hl 2 rfl) ?_
              refine lv_iload hx hb dX9_readings_104 (lv_at hl 1 rfl) ?_
              refine lv_iload hx hb dX9_readings_106 (lv_at hl 0 rfl) ?_
              refine q_cPV X w (c_X9_dayAt l D t b n σ0 I_L25 R_L25 v_ca a_na a_nb a_na ca na nb na q_ca e_na e_nb e_na (by first | assumption | omega) (by first | assumption | omega) (by first | assumption | omega) (by omega) (by exact k_91.1.1.2) (by omega)) v_X9_234 (k := 45) rfl rfl rfl ⟨Nat.le_of_ble_eq_true rfl, Nat.le_of_ble_eq_true rfl⟩ rfl hl.1 (Nat.le_of_ble_eq_true rfl) dX9_readings_108 ⟨Nat.zero_le _, Nat.zero_le _⟩ (fun r_108 z_108 => ?_)
              refine mm_cV X w (c_X9_comesReading l D t b n σ0 I_L25 R_L25 ((rdN (rowM Rw) na nb nx (3 * ca + o).toNat).1) v_ca v_o r_108 ca o (dnum (rowM R_L25 ca) na nb na) q_ca q_o z_108 (by rw [inv_25.2.2.2.2.1]; omega) (by rw [hN2]; exact inv_25.2.2.2.2.2)) v_X9_319 rfl rfl ⟨Nat.le_of_ble_eq_true rfl, Nat.le_of_ble_eq_true rfl⟩ rfl hl.1 (Nat.le_of_ble_eq_true rfl) dX9_readings_111 ⟨Nat.zero_le _, Nat.zero_le _⟩ (fun I_111 R_111 H locs z_111 w => ?_)
              obtain ⟨x_114, e_114⟩ : ∃ z : Int32, z = (v_o + 1) := ⟨_, rfl⟩
              have p_114 : x_114.toInt = (o + 1) := by rw [e_114]; exact t_add q_o (show (1 : Int32).toInt = 1 from rfl) (by omega) (by omega)
              refine lv_iinc (v := x_114) (lv' := [(5, .int x_114), (8, .int a_na), (7, .int a_nb), (6, .int a_na), (4, .int v_ca), (0, .ref (b + 45)), (1, .int a_na), (2, .int a_nb), (3, .int a_nx)]) hx hb dX9_readings_114 hl (k := 3) rfl (by rw [e_114]; rfl) (by decide) rfl (fun ls hl => ?_)
              refine lv_goto (tgt := 25) hx hb dX9_readings_117 (by decide) ?_
              refine ih_25 ⟨x_114, (o + 1), I_111, R_111⟩ ⟨p_114, by dsimp only; rw [rdN_s _ _ _ _ (by omega) (by omega), rdS_p hd, hY, hM, hD]; have h4 := z_111.2.2.2; rw [hN2, eM] at h4; exact ⟨inv_25.1.tr z_111.1 (by decide) (by decide), inv_25.2.1.tr z_111.2.2.1 (by decide) (by decide), (z_111.1 0 (by decide)).trans inv_25.2.2.1, by omega, z_111.2.1.trans (by rw [inv_25.2.2.2.2.1]; rfl), h4⟩⟩ (by dsimp only; omega) _ _ w ls (lv_sub hl [0, 4, 5, 6, 7, 8] rfl)
        · skip
          have k_47 : o = 1 := (g_eq q_o (show (1 : Int32).toInt = 1 from rfl)).mp c_47
          refine lv_iload_n hx hb dX9_readings_50 rfl (lv_at hl 4 rfl) ?_
          refine lv_goto (tgt := 55) hx hb dX9_readings_51 (by decide) ?_
          refine lv_istore (lv' := [(7, .int a_na), (6, .int a_na), (5, .int v_o), (4, .int v_ca), (0, .ref (b + 45)), (1, .int a_na), (2, .int a_nb), (3, .int a_nx)]) hx hb dX9_readings_55 hl (by decide) rfl (fun ls hl => ?_)
          refine lv_iload hx hb dX9_readings_57 (lv_at hl 2 rfl) ?_
          refine lv_if_ne (tgt := 66) hx hb dX9_readings_59 (by decide) (fun c_59 => ?_) (fun c_59 => ?_)
          · skip
            have k_59 : ¬ (o = 0) := fun h => c_59 ((g_eq q_o (show (0 : Int32).toInt = 0 from rfl)).mpr h)
            refine lv_iload hx hb dX9_readings_66 (lv_at hl 2 rfl) ?_
            refine lv_iconst (v := 1) hx hb dX9_readings_68 (by decide) ?_
            refine lv_icmp_ne (tgt := 76) hx hb dX9_readings_69 (by decide) (fun c_69 => ?_) (fun c_69 => ?_)
            · skip
              have k_69 : ¬ (o = 1) := fun h => c_69 ((g_eq q_o (show (1 : Int32).toInt = 1 from rfl)).mpr h)
              refine lv_iload_n hx hb dX9_readings_76 rfl (lv_at hl 7 rfl) ?_
              refine lv_istore (lv' := [(8, .int a_nx), (7, .int a_na), (6, .int a_na), (5, .int v_o), (4, .int v_ca), (0, .ref (b + 45)), (1, .int a_na), (2, .int a_nb), (3, .int a_nx)]) hx hb dX9_readings_77 hl (by decide) rfl (fun ls hl => ?_)
              have hY : rY o na nx = na := by unfold rY; rw [if_pos k_34]
              have hM : rM o na nb = na := by unfold rM; rw [if_pos k_47]
              have hD : rD o na nb nx = nx := by unfold rD; rw [if_neg k_59, if_neg k_69]
              refine lv_aload_n hx hb dX9_readings_79 rfl (lv_at hl 5 rfl) ?_
              refine lv_iload hx hb dX9_readings_80 (lv_at hl 4 rfl) ?_
              refine lv_iload hx hb dX9_readings_82 (lv_at hl 2 rfl) ?_
              refine lv_iload hx hb dX9_readings_84 (lv_at hl 1 rfl) ?_
              refine lv_iload hx hb dX9_readings_86 (lv_at hl 0 rfl) ?_
              refine q_cPV X w (c_X9_isDatedDay l D t b n σ0 I_L25 R_L25 v_ca a_na a_na a_nx ca na na nx q_ca e_na e_na e_nx (by first | assumption | omega) (by first | assumption | omega) (by first | assumption | omega)) v_X9_241 (k := 45) rfl rfl rfl ⟨Nat.le_of_ble_eq_true rfl, Nat.le_of_ble_eq_true rfl⟩ rfl hl.1 (Nat.le_of_ble_eq_true rfl) dX9_readings_88 ⟨Nat.zero_le _, Nat.zero_le _⟩ (fun r_88 z_88 => ?_)
              refine lv_if_eq (tgt := 114) hx hb dX9_readings_91 (by decide) (fun c_91 => ?_) (fun c_91 => ?_)
              · skip
                rw [z_88] at c_91
                have k_91 := bI_f.mp c_91
                have hd : ¬ datd (rowM Rw ca) (rY o na nx) (rM o na nb) (rD o na nb nx) := by rw [hY, hM, hD, ← eM]; exact k_91
                obtain ⟨x_114, e_114⟩ : ∃ z : Int32, z = (v_o + 1) := ⟨_, rfl⟩
                have p_114 : x_114.toInt = (o + 1) := by rw [e_114]; exact t_add q_o (show (1 : Int32).toInt = 1 from rfl) (by omega) (by omega)
                refine lv_iinc (v := x_114) (lv' := [(5, .int x_114), (8, .int a_nx), (7, .int a_na), (6, .int a_na), (4, .int v_ca), (0, .ref (b + 45)), (1, .int a_na), (2, .int a_nb), (3, .int a_nx)]) hx hb dX9_readings_114 hl (k := 3) rfl (by rw [e_114]; rfl) (by decide) rfl (fun ls hl => ?_)
                refine lv_goto (tgt := 25) hx hb dX9_readings_117 (by decide) ?_
                refine ih_25 ⟨x_114, (o + 1), I_L25, R_L25⟩ ⟨p_114, by dsimp only; rw [rdN_s _ _ _ _ (by omega) (by omega), rdS_n hd]; exact ⟨inv_25.1, inv_25.2.1, inv_25.2.2.1, by omega, inv_25.2.2.2.2⟩⟩ (by dsimp only; omega) _ _ w ls (lv_sub hl [0, 4, 5, 6, 7, 8] rfl)
              · skip
                rw [z_88] at c_91
                have k_91 := bI_t.mp c_91
                have hd : datd (rowM Rw ca) (rY o na nx) (rM o na nb) (rD o na nb nx) := by rw [hY, hM, hD, ← eM]; exact k_91
                have hL := mlen_bd hq k_91.1.1.2.1 k_91.1.1.2.2
                refine lv_aload_n hx hb dX9_readings_94 rfl (lv_at hl 5 rfl) ?_
                refine lv_iload hx hb dX9_readings_95 (lv_at hl 4 rfl) ?_
                refine lv_iload hx hb dX9_readings_97 (lv_at hl 3 rfl) ?_
                refine lv_aload_n hx hb dX9_readings_99 rfl (lv_at hl 5 rfl) ?_
                refine lv_iload hx hb dX9_readings_100 (lv_at hl 4 rfl) ?_
                refine lv_iload hx hb dX9_readings_102 (lv_at hl 2 rfl) ?_
                refine lv_iload hx hb dX9_readings_104 (lv_at hl 1 rfl) ?_
                refine lv_iload hx hb dX9_readings_106 (lv_at hl 0 rfl) ?_
                refine q_cPV X w (c_X9_dayAt l D t b n σ0 I_L25 R_L25 v_ca a_na a_na a_nx ca na na nx q_ca e_na e_na e_nx (by first | assumption | omega) (by first | assumption | omega) (by first | assumption | omega) (by omega) (by exact k_91.1.1.2) (by omega)) v_X9_234 (k := 45) rfl rfl rfl ⟨Nat.le_of_ble_eq_true rfl, Nat.le_of_ble_eq_true rfl⟩ rfl hl.1 (Nat.le_of_ble_eq_true rfl) dX9_readings_108 ⟨Nat.zero_le _, Nat.zero_le _⟩ (fun r_108 z_108 => ?_)
                refine mm_cV X w (c_X9_comesReading l D t b n σ0 I_L25 R_L25 ((rdN (rowM Rw) na nb nx (3 * ca + o).toNat).1) v_ca v_o r_108 ca o (dnum (rowM R_L25 ca) na na nx) q_ca q_o z_108 (by rw [inv_25.2.2.2.2.1]; omega) (by rw [hN2]; exact inv_25.2.2.2.2.2)) v_X9_319 rfl rfl ⟨Nat.le_of_ble_eq_true rfl, Nat.le_of_ble_eq_true rfl⟩ rfl hl.1 (Nat.le_of_ble_eq_true rfl) dX9_readings_111 ⟨Nat.zero_le _, Nat.zero_le _⟩ (fun I_111 R_111 H locs z_111 w => ?_)
                obtain ⟨x_114, e_114⟩ : ∃ z : Int32, z = (v_o + 1) := ⟨_, rfl⟩
                have p_114 : x_114.toInt = (o + 1) := by rw [e_114]; exact t_add q_o (show (1 : Int32).toInt = 1 from rfl) (by omega) (by omega)
                refine lv_iinc (v := x_114) (lv' := [(5, .int x_114), (8, .int a_nx), (7, .int a_na), (6, .int a_na), (4, .int v_ca), (0, .ref (b + 45)), (1, .int a_na), (2, .int a_nb), (3, .int a_nx)]) hx hb dX9_readings_114 hl (k := 3) rfl (by rw [e_114]; rfl) (by decide) rfl (fun ls hl => ?_)
                refine lv_goto (tgt := 25) hx hb dX9_readings_117 (by decide) ?_
                refine ih_25 ⟨x_114, (o + 1), I_111, R_111⟩ ⟨p_114, by dsimp only; rw [rdN_s _ _ _ _ (by omega) (by omega), rdS_p hd, hY, hM, hD]; have h4 := z_111.2.2.2; rw [hN2, eM] at h4; exact ⟨inv_25.1.tr z_111.1 (by decide) (by decide), inv_25.2.1.tr z_111.2.2.1 (by decide) (by decide), (z_111.1 0 (by decide)).trans inv_25.2.2.1, by omega, z_111.2.1.trans (by rw [inv_25.2.2.2.2.1]; rfl), h4⟩⟩ (by dsimp only; omega) _ _ w ls (lv_sub hl [0, 4, 5, 6, 7, 8] rfl)
            · skip
              have k_69 : o = 1 := (g_eq q_o (show (1 : Int32).toInt = 1 from rfl)).mp c_69
              refine lv_iload_n hx hb dX9_readings_72 rfl (lv_at hl 6 rfl) ?_
              refine lv_goto (tgt := 77) hx hb dX9_readings_73 (by decide) ?_
              refine lv_istore (lv' := [(8, .int a_nb), (7, .int a_na), (6, .int a_na), (5, .int v_o), (4, .int v_ca), (0, .ref (b + 45)), (1, .int a_na), (2, .int a_nb), (3, .int a_nx)]) hx hb dX9_readings_77 hl (by decide) rfl (fun ls hl => ?_)
              have hY : rY o na nx = na := by unfold rY; rw [if_pos k_34]
              have hM : rM o na nb = na := by unfold rM; rw [if_pos k_47]
              have hD : rD o na nb nx = nb := by unfold rD; rw [if_neg k_59, if_pos k_69]
              refine lv_aload_n hx hb dX9_readings_79 rfl (lv_at hl 5 rfl) ?_
              refine lv_iload hx hb dX9_readings_80 (lv_at hl 4 rfl) ?_
              refine lv_iload hx hb dX9_readings_82 (lv_at hl 2 rfl) ?_
              refine lv_iload hx hb dX9_readings_84 (lv_at hl 1 rfl) ?_
              refine lv_iload hx hb dX9_readings_86 (lv_at hl 0 rfl) ?_
              refine q_cPV X w (c_X9_isDatedDay l D t b n σ0 I_L25 R_L25 v_ca a_na a_na a_nb ca na na nb q_ca e_na e_na e_nb (by first | assumption | omega) (by first | assumption | omega) (by first | assumption | omega)) v_X9_241 (k := 45) rfl rfl rfl ⟨Nat.le_of_ble_eq_true rfl, Nat.le_of_ble_eq_true rfl⟩ rfl hl.1 (Nat.le_of_ble_eq_true rfl) dX9_readings_88 ⟨Nat.zero_le _, Nat.zero_le _⟩ (fun r_88 z_88 => ?_)
              refine lv_if_eq (tgt := 114) hx hb dX9_readings_91 (by decide) (fun c_91 => ?_) (fun c_91 => ?_)
              · skip
                rw [z_88] at c_91
                have k_91 := bI_f.mp c_91
                have hd : ¬ datd (rowM Rw ca) (rY o na nx) (rM o na nb) (rD o na nb nx) := by rw [hY, hM, hD, ← eM]; exact k_91
                obtain ⟨x_114, e_114⟩ : ∃ z : Int32, z = (v_o + 1) := ⟨_, rfl⟩
                have p_114 : x_114.toInt = (o + 1) := by rw [e_114]; exact t_add q_o (show (1 : Int32).toInt = 1 from rfl) (by omega) (by omega)
                refine lv_iinc (v := x_114) (lv' := [(5, .int x_114), (8, .int a_nb), (7, .int a_na), (6, .int a_na), (4, .int v_ca), (0, .ref (b + 45)), (1, .int a_na), (2, .int a_nb), (3, .int a_nx)]) hx hb dX9_readings_114 hl (k := 3) rfl (by rw [e_114]; rfl) (by decide) rfl (fun ls hl => ?_)
                refine lv_goto (tgt := 25) hx hb dX9_readings_117 (by decide) ?_
                refine ih_25 ⟨x_114, (o + 1), I_L25, R_L25⟩ ⟨p_114, by dsimp only; rw [rdN_s _ _ _ _ (by omega) (by omega), rdS_n hd]; exact ⟨inv_25.1, inv_25.2.1, inv_25.2.2.1, by omega, inv_25.2.2.2.2⟩⟩ (by dsimp only; omega) _ _ w ls (lv_sub hl [0, 4, 5, 6, 7, 8] rfl)
              · skip
                rw [z_88] at c_91
                have k_91 := bI_t.mp c_91
                have hd : datd (rowM Rw ca) (rY o na nx) (rM o na nb) (rD o na nb nx) := by rw [hY, hM, hD, ← eM]; exact k_91
                have hL := mlen_bd hq k_91.1.1.2.1 k_91.1.1.2.2
                refine lv_aload_n hx hb dX9_readings_94 rfl (lv_at hl 5 rfl) ?_
                refine lv_iload hx hb dX9_readings_95 (lv_at hl 4 rfl) ?_
                refine lv_iload hx hb dX9_readings_97 (lv_at hl 3 rfl) ?_
                refine lv_aload_n hx hb dX9_readings_99 rfl (lv_at hl 5 rfl) ?_
                refine lv_iload hx hb dX9_readings_100 (lv_at hl 4 rfl) ?_
                refine lv_iload hx hb dX9_readings_102 (lv_at hl 2 rfl) ?_
                refine lv_iload hx hb dX9_readings_104 (lv_at hl 1 rfl) ?_
                refine lv_iload hx hb dX9_readings_106 (lv_at hl 0 rfl) ?_
                refine q_cPV X w (c_X9_dayAt l D t b n σ0 I_L25 R_L25 v_ca a_na a_na a_nb ca na na nb q_ca e_na e_na e_nb (by first | assumption | omega) (by first | assumption | omega) (by first | assumption | omega) (by omega) (by exact k_91.1.1.2) (by omega)) v_X9_234 (k := 45) rfl rfl rfl ⟨Nat.le_of_ble_eq_true rfl, Nat.le_of_ble_eq_true rfl⟩ rfl hl.1 (Nat.le_of_ble_eq_true rfl) dX9_readings_108 ⟨Nat.zero_le _, Nat.zero_le _⟩ (fun r_108 z_108 => ?_)
                refine mm_cV X w (c_X9_comesReading l D t b n σ0 I_L25 R_L25 ((rdN (rowM Rw) na nb nx (3 * ca + o).toNat).1) v_ca v_o r_108 ca o (dnum (rowM R_L25 ca) na na nb) q_ca q_o z_108 (by rw [inv_25.2.2.2.2.1]; omega) (by rw [hN2]; exact inv_25.2.2.2.2.2)) v_X9_319 rfl rfl ⟨Nat.le_of_ble_eq_true rfl, Nat.le_of_ble_eq_true rfl⟩ rfl hl.1 (Nat.le_of_ble_eq_true rfl) dX9_readings_111 ⟨Nat.zero_le _, Nat.zero_le _⟩ (fun I_111 R_111 H locs z_111 w => ?_)
                obtain ⟨x_114, e_114⟩ : ∃ z : Int32, z = (v_o + 1) := ⟨_, rfl⟩
                have p_114 : x_114.toInt = (o + 1) := by rw [e_114]; exact t_add q_o (show (1 : Int32).toInt = 1 from rfl) (by omega) (by omega)
                refine lv_iinc (v := x_114) (lv' := [(5, .int x_114), (8, .int a_nb), (7, .int a_na), (6, .int a_na), (4, .int v_ca), (0, .ref (b + 45)), (1, .int a_na), (2, .int a_nb), (3, .int a_nx)]) hx hb dX9_readings_114 hl (k := 3) rfl (by rw [e_114]; rfl) (by decide) rfl (fun ls hl => ?_)
                refine lv_goto (tgt := 25) hx hb dX9_readings_117 (by decide) ?_
                refine ih_25 ⟨x_114, (o + 1), I_111, R_111⟩ ⟨p_114, by dsimp only; rw [rdN_s _ _ _ _ (by omega) (by omega), rdS_p hd, hY, hM, hD]; have h4 := z_111.2.2.2; rw [hN2, eM] at h4; exact ⟨inv_25.1.tr z_111.1 (by decide) (by decide), inv_25.2.1.tr z_111.2.2.1 (by decide) (by decide), (z_111.1 0 (by decide)).trans inv_25.2.2.1, by omega, z_111.2.1.trans (by rw [inv_25.2.2.2.2.1]; rfl), h4⟩⟩ (by dsimp only; omega) _ _ w ls (lv_sub hl [0, 4, 5, 6, 7, 8] rfl)
          · skip
            have k_59 : o = 0 := (g_eq q_o (show (0 : Int32).toInt = 0 from rfl)).mp c_59
            refine lv_iload_n hx hb dX9_readings_62 rfl (lv_at hl 5 rfl) ?_
            refine lv_goto (tgt := 77) hx hb dX9_readings_63 (by decide) ?_
            refine lv_istore (lv' := [(8, .int a_na), (7, .int a_na), (6, .int a_na), (5, .int v_o), (4, .int v_ca), (0, .ref (b + 45)), (1, .int a_na), (2, .int a_nb), (3, .int a_nx)]) hx hb dX9_readings_77 hl (by decide) rfl (fun ls hl => ?_)
            have hY : rY o na nx = na := by unfold rY; rw [if_pos k_34]
            have hM : rM o na nb = na := by unfold rM; rw [if_pos k_47]
            have hD : rD o na nb nx = na := by unfold rD; rw [if_pos k_59]
            refine lv_aload_n hx hb dX9_readings_79 rfl (lv_at hl 5 rfl) ?_
            refine lv_iload hx hb dX9_readings_80 (lv_at hl 4 rfl) ?_
            refine lv_iload hx hb dX9_readings_82 (lv_at hl 2 rfl) ?_
            refine lv_iload hx hb dX9_readings_84 (lv_at hl 1 rfl) ?_
            refine lv_iload hx hb dX9_readings_86 (lv_at hl 0 rfl) ?_
            refine q_cPV X w (c_X9_isDatedDay l D t b n σ0 I_L25 R_L25 v_ca a_na a_na a_na ca na na na q_ca e_na e_na e_na (by first | assumption | omega) (by first | assumption | omega) (by first | assumption | omega)) v_X9_241 (k := 45) rfl rfl rfl ⟨Nat.le_of_ble_eq_true rfl, Nat.le_of_ble_eq_true rfl⟩ rfl hl.1 (Nat.le_of_ble_eq_true rfl) dX9_readings_88 ⟨Nat.zero_le _, Nat.zero_le _⟩ (fun r_88 z_88 => ?_)
            refine lv_if_eq (tgt := 114) hx hb dX9_readings_91 (by decide) (fun c_91 => ?_) (fun c_91 => ?_)
            · skip
              rw [z_88] at c_91
              have k_91 := bI_f.mp c_91
              have hd : ¬ datd (rowM Rw ca) (rY o na nx) (rM o na nb) (rD o na nb nx) := by rw [hY, hM, hD, ← eM]; exact k_91
              obtain ⟨x_114, e_114⟩ : ∃ z : Int32, z = (v_o + 1) := ⟨_, rfl⟩
              have p_114 : x_114.toInt = (o + 1) := by rw [e_114]; exact t_add q_o (show (1 : Int32).toInt = 1 from rfl) (by omega) (by omega)
              refine lv_iinc (v := x_114) (lv' := [(5, .int x_114), (8, .int a_na), (7, .int a_na), (6, .int a_na), (4, .int v_ca), (0, .ref (b + 45)), (1, .int a_na), (2, .int a_nb), (3, .int a_nx)]) hx hb dX9_readings_114 hl (k := 3) rfl (by rw [e_114]; rfl) (by decide) rfl (fun ls hl => ?_)
              refine lv_goto (tgt := 25) hx hb dX9_readings_117 (by decide) ?_
              refine ih_25 ⟨x_114, (o + 1), I_L25, R_L25⟩ ⟨p_114, by dsimp only; rw [rdN_s _ _ _ _ (by omega) (by omega), rdS_n hd]; exact ⟨inv_25.1, inv_25.2.1, inv_25.2.2.1, by omega, inv_25.2.2.2.2⟩⟩ (by dsimp only; omega) _ _ w ls (lv_sub hl [0, 4, 5, 6, 7, 8] rfl)
            · skip
              rw [z_88] at c_91
              have k_91 := bI_t.mp c_91
              have hd : datd (rowM Rw ca) (rY o na nx) (rM o na nb) (rD o na nb nx) := by rw [hY, hM, hD, ← eM]; exact k_91
              have hL := mlen_bd hq k_91.1.1.2.1 k_91.1.1.2.2
              refine lv_aload_n hx hb dX9_readings_94 rfl (lv_at hl 5 rfl) ?_
              refine lv_iload hx hb dX9_readings_95 (lv_at hl 4 rfl) ?_
              refine lv_iload hx hb dX9_readings_97 (lv_at hl 3 rfl) ?_
              refine lv_aload_n hx hb dX9_readings_99 rfl (lv_at hl 5 rfl) ?_
              refine lv_iload hx hb dX9_readings_100 (lv_at hl 4 rfl) ?_
              refine lv_iload hx hb dX9_readings_102 (lv_at hl 2 rfl) ?_
              refine lv_iload hx hb dX9_readings_104 (lv_at hl 1 rfl) ?_
              refine lv_iload hx hb dX9_readings_106 (lv_at hl 0 rfl) ?_
              refine q_cPV X w (c_X9_dayAt l D t b n σ0 I_L25 R_L25 v_ca a_na a_na a_na ca na na na q_ca e_na e_na e_na (by first | assumption | omega) (by first | assumption | omega) (by first | assumption | omega) (by omega) (by exact k_91.1.1.2) (by omega)) v_X9_234 (k := 45) rfl rfl rfl ⟨Nat.le_of_ble_eq_true rfl, Nat.le_of_ble_eq_true rfl⟩ rfl hl.1 (Nat.le_of_ble_eq_true rfl) dX9_readings_108 ⟨Nat.zero_le _, Nat.zero_le _⟩ (fun r_108 z_108 => ?_)
              refine mm_cV X w (c_X9_comesReading l D t b n σ0 I_L25 R_L25 ((rdN (rowM Rw) na nb nx (3 * ca + o).toNat).1) v_ca v_o r_108 ca o (dnum (rowM R_L25 ca) na na na) q_ca q_o z_108 (by rw [inv_25.2.2.2.2.1]; omega) (by rw [hN2]; exact inv_25.2.2.2.2.2)) v_X9_319 rfl rfl ⟨Nat.le_of_ble_eq_true rfl, Nat.le_of_ble_eq_true rfl⟩ rfl hl.1 (Nat.le_of_ble_eq_true rfl) dX9_readings_111 ⟨Nat.zero_le _, Nat.zero_le _⟩ (fun I_111 R_111 H locs z_111 w => ?_)
              obtain ⟨x_114, e_114⟩ : ∃ z : Int32, z = (v_o + 1) := ⟨_, rfl⟩
              have p_114 : x_114.toInt = (o + 1) := by rw [e_114]; exact t_add q_o (show (1 : Int32).toInt = 1 from rfl) (by omega) (by omega)
              refine lv_iinc (v := x_114) (lv' := [(5, .int x_114), (8, .int a_na), (7, .int a_na), (6, .int a_na), (4, .int v_ca), (0, .ref (b + 45)), (1, .int a_na), (2, .int a_nb), (3, .int a_nx)]) hx hb dX9_readings_114 hl (k := 3) rfl (by rw [e_114]; rfl) (by decide) rfl (fun ls hl => ?_)
              refine lv_goto (tgt := 25) hx hb dX9_readings_117 (by decide) ?_
              refine ih_25 ⟨x_114, (o + 1), I_111, R_111⟩ ⟨p_114, by dsimp only; rw [rdN_s _ _ _ _ (by omega) (by omega), rdS_p hd, hY, hM, hD]; have h4 := z_111.2.2.2; rw [hN2, eM] at h4; exact ⟨inv_25.1.tr z_111.1 (by decide) (by decide), inv_25.2.1.tr z_111.2.2.1 (by decide) (by decide), (z_111.1 0 (by decide)).trans inv_25.2.2.1, by omega, z_111.2.1.trans (by rw [inv_25.2.2.2.2.1]; rfl), h4⟩⟩ (by dsimp only; omega) _ _ w ls (lv_sub hl [0, 4, 5, 6, 7, 8] rfl)
