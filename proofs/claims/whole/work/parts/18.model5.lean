set_option maxHeartbeats 4000000 in
set_option maxRecDepth 100000 in
theorem c_X9_monthsLater (l : Launch) (D : va_G) (t : Nat → ClassId) (b n : Nat) (σ0 : qM) (I : Nat → Int32) (Rw : Nat → Nat → Int32) (a_ca : Int32) (a_dy : Int32) (a_n_ : Int32) (ca : Int) (dy : Int) (n_ : Int) (e_ca : a_ca.toInt = ca) (e_dy : a_dy.toInt = dy) (e_n_ : a_n_.toInt = n_) (h_1 : 0 ≤ ca ∧ ca < 6) (h_2 : okRow (rowM Rw ca)) (h_3 : okF Rw ca) (h_4 : fst (rowM Rw ca) (-2000) ≤ dy ∧ dy < fst (rowM Rw ca) 2001) (h_5 : -100000 ≤ n_ ∧ n_ ≤ 100000) : mC l yX9_monthsLater cX9_monthsLater 6 (some .int) 7 D t b n σ0 I Rw [.ref (b + 45), .int a_ca, .int a_dy, .int a_n_] (fun z I1 R1 => R1 = Rw ∧ kpI [6, 7, 8] I I1 ∧ (I1 6).toInt = yof (rowM Rw ca) dy ∧ (I1 7).toInt = mof (rowM Rw ca) dy ∧ (I1 8).toInt = dof (rowM Rw ca) dy ∧ z.toInt = mlat (rowM Rw ca) dy n_) := by
  refine qC.of (by decide +kernel) (Nat.le_of_ble_eq_true rfl) (fun p e s m args below meth c X w ls hl => ?_)
  have hx := X.1
  have hb := X.2.1
  have hl : lv_has ls 6 [(0, .ref (b + 45)), (1, .int a_ca), (2, .int a_dy), (3, .int a_n_)] := hl
  have hy := yof_in h_2 h_4.1 h_4.2
  have hM := mof_bd h_2 dy
  have hD := dof_bd h_2 h_4.1 h_4.2
  have hL := mlen_bd h_2 hM.1 hM.2
  have hT : mcon (rowM Rw ca) dy = Mb (rowM Rw ca) (yof (rowM Rw ca) dy) + mof (rowM Rw ca) dy - 1 := rfl
  have hC0 := mcnt_bd h_2 (yof (rowM Rw ca) dy)
  refine lv_aload_n hx hb dX9_monthsLater_0 rfl (lv_at hl 0 rfl) ?_
  refine lv_iload_n hx hb dX9_monthsLater_1 rfl (lv_at hl 1 rfl) ?_
  refine lv_iload_n hx hb dX9_monthsLater_2 rfl (lv_at hl 2 rfl) ?_
  refine mm_cVI X w (c_X9_findDate l D t b n σ0 I Rw a_ca a_dy ca dy e_ca e_dy (by first | assumption | omega) (by first | assumption | omega) (by first | assumption | omega) (by first | assumption | omega)) v_X9_136 rfl rfl ⟨Nat.le_of_ble_eq_true rfl, Nat.le_of_ble_eq_true rfl⟩ rfl hl.1 (Nat.le_of_ble_eq_true rfl) dX9_monthsLater_3 ⟨Nat.zero_le _, Nat.zero_le _⟩ (fun I_3 H locs z_3 w => ?_)
  refine lv_aload_n hx hb dX9_monthsLater_6 rfl (lv_at hl 0 rfl) ?_
  refine mg_year X w dX9_monthsLater_7 ?_
  refine lv_istore (lv' := [(4, .int (I_3 6)), (0, .ref (b + 45)), (1, .int a_ca), (2, .int a_dy), (3, .int a_n_)]) hx hb dX9_monthsLater_10 hl (by decide) rfl (fun ls hl => ?_)
  refine lv_aload_n hx hb dX9_monthsLater_12 rfl (lv_at hl 1 rfl) ?_
  refine mg_month X w dX9_monthsLater_13 ?_
  refine lv_iload_n hx hb dX9_monthsLater_16 rfl (lv_at hl 4 rfl) ?_
  refine lv_iadd hx hb dX9_monthsLater_17 ?_
  refine lv_topi (fun x_17 e_17 => ?_)
  have p_17 : x_17.toInt = ((mof (rowM Rw ca) dy) + n_) := by rw [e_17]; exact t_add z_3.2.2.1 e_n_ (by omega) (by omega)
  refine lv_istore (lv' := [(5, .int x_17), (4, .int (I_3 6)), (0, .ref (b + 45)), (1, .int a_ca), (2, .int a_dy), (3, .int a_n_)]) hx hb dX9_monthsLater_18 hl (by decide) rfl (fun ls hl => ?_)
  refine q_loop (α := Int32 × Int32 × Int × Int) (fun a => a.1.toInt = a.2.2.1 ∧ a.2.1.toInt = a.2.2.2 ∧ (((-2000 ≤ a.2.2.1 ∧ a.2.2.1 ≤ 2000) ∧ Mb (rowM Rw ca) a.2.2.1 + a.2.2.2 - 1 = mcon (rowM Rw ca) dy + n_ ∨ a.2.2.1 = -2001 ∧ mcon (rowM Rw ca) dy + n_ < Mb (rowM Rw ca) (-2000)) ∧ (-200000 ≤ a.2.2.2 ∧ a.2.2.2 ≤ 200000))) (fun a => (a.2.2.1 + 3000).toNat) (fun a => ∀ ls : Array Slot, lv_has ls 6 [(5, .int a.2.1), (4, .int a.1), (0, .ref (b + 45)), (1, .int a_ca), (2, .int a_dy), (3, .int a_n_)] → W p l e (qR 7 0 0) s m args below meth c H locs 0 0 (MQ below (va_Qi (S := Nat × qM) (fun z u => (fun z n1 σ1 => n1 = n ∧ ∃ I1 R1, σ1 = mS t b σ0 I1 R1 ∧ R1 = Rw ∧ kpI [6, 7, 8] I I1 ∧ (I1 6).toInt = yof (rowM Rw ca) dy ∧ (I1 7).toInt = mof (rowM Rw ca) dy ∧ (I1 8).toInt = dof (rowM Rw ca) dy ∧ z.toInt = mlat (rowM Rw ca) dy n_) z u.1 u.2) (fun u T => WB D b u.1 u.2 T.heap) (fun q => b ≤ q)) args s 0 0 (fun q => b ≤ q)) (F0 m 20 ls [])) ?_ ⟨(I_3 6), x_17, yof (rowM Rw ca) dy, ((mof (rowM Rw ca) dy) + n_)⟩ ⟨z_3.2.1, p_17, by dsimp only; omega⟩ ls (lv_sub hl [0, 1, 2, 3, 4, 5] rfl)
  rintro ⟨v_y, v_mm, y, mm⟩ ⟨q_y, q_mm, inv_20⟩ ih_20 ls hl
  dsimp only at q_y q_mm inv_20 hl
  refine lv_iload hx hb dX9_monthsLater_20 (lv_at hl 1 rfl) ?_
  refine q_cPS X w (c_X9_isYear l v_y y q_y D t b n (mS t b σ0 I_3 Rw)) v_X9_110 rfl ⟨Nat.le_of_ble_eq_true rfl, Nat.le_of_ble_eq_true rfl⟩ rfl hl.1 (Nat.le_of_ble_eq_true rfl) dX9_monthsLater_22 ⟨Nat.zero_le _, Nat.zero_le _⟩ (fun r_22 z_22 => ?_)
  refine lv_if_eq (tgt := 64) hx hb dX9_monthsLater_25 (by decide) (fun c_25 => ?_) (fun c_25 => ?_)
  · skip
    rw [z_22] at c_25
    have k_25 := bI_f.mp c_25
    refine q_loop (α := Int32 × Int32 × Int × Int) (fun a => a.1.toInt = a.2.2.1 ∧ a.2.1.toInt = a.2.2.2 ∧ (((-2000 ≤ a.2.2.1 ∧ a.2.2.1 ≤ 2000) ∧ Mb (rowM Rw ca) a.2.2.1 + a.2.2.2 - 1 = mcon (rowM Rw ca) dy + n_ ∧ 1 ≤ a.2.2.2 ∨ a.2.2.1 = -2001 ∧ mcon (rowM Rw ca) dy + n_ < Mb (rowM Rw ca) (-2000) ∨ a.2.2.1 = 2001 ∧ Mb (rowM Rw ca) 2001 ≤ mcon (rowM Rw ca) dy + n_) ∧ (-200000 ≤ a.2.2.2 ∧ a.2.2.2 ≤ 200000))) (fun a => (3000 - a.2.2.1).toNat) (fun a => ∀ ls : Array Slot, lv_has ls 6 [(5, .int a.2.1), (4, .int a.1), (0, .ref (b + 45)), (1, .int a_ca), (2, .int a_dy), (3, .int a_n_)] → W p l e (qR 7 0 0) s m args below meth c H locs 0 0 (MQ below (va_Qi (S := Nat × qM) (fun z u => (fun z n1 σ1 => n1 = n ∧ ∃ I1 R1, σ1 = mS t b σ0 I1 R1 ∧ R1 = Rw ∧ kpI [6, 7, 8] I I1 ∧ (I1 6).toInt = yof (rowM Rw ca) dy ∧ (I1 7).toInt = mof (rowM Rw ca) dy ∧ (I1 8).toInt = dof (rowM Rw ca) dy ∧ z.toInt = mlat (rowM Rw ca) dy n_) z u.1 u.2) (fun u T => WB D b u.1 u.2 T.heap) (fun q => b ≤ q)) args s 0 0 (fun q => b ≤ q)) (F0 m 64 ls [])) ?_ ⟨v_y, v_mm, y, mm⟩ ⟨q_y, q_mm, by dsimp only; rcases inv_20.1 with q | q; omega; omega⟩ ls (lv_sub hl [0, 1, 2, 3, 4, 5] rfl)
    rintro ⟨v_y, v_mm, y, mm⟩ ⟨q_y, q_mm, inv_64⟩ ih_64 ls hl
    dsimp only at q_y q_mm inv_64 hl
    refine lv_iload hx hb dX9_monthsLater_64 (lv_at hl 1 rfl) ?_
    refine q_cPS X w (c_X9_isYear l v_y y q_y D t b n (mS t b σ0 I_3 Rw)) v_X9_110 rfl ⟨Nat.le_of_ble_eq_true rfl, Nat.le_of_ble_eq_true rfl⟩ rfl hl.1 (Nat.le_of_ble_eq_true rfl) dX9_monthsLater_66 ⟨Nat.zero_le _, Nat.zero_le _⟩ (fun r_66 z_66 => ?_)
    refine lv_if_eq (tgt := 102) hx hb dX9_monthsLater_69 (by decide) (fun c_69 => ?_) (fun c_69 => ?_)
    · skip
      rw [z_66] at c_69
      have k_69 := bI_f.mp c_69
      refine lv_aload_n hx hb dX9_monthsLater_102 rfl (lv_at hl 2 rfl) ?_
      refine lv_iload_n hx hb dX9_monthsLater_103 rfl (lv_at hl 3 rfl) ?_
      refine lv_iload hx hb dX9_monthsLater_104 (lv_at hl 1 rfl) ?_
      refine lv_iload hx hb dX9_monthsLater_106 (lv_at hl 0 rfl) ?_
      refine lv_aload_n hx hb dX9_monthsLater_108 rfl (lv_at hl 2 rfl) ?_
      refine mg_dayOfMonth X w dX9_monthsLater_109 ?_
      refine q_cPV X w (c_X9_cutDate l D t b n σ0 I_3 Rw a_ca v_y v_mm (I_3 8) ca y mm (dof (rowM Rw ca) dy) e_ca q_y q_mm z_3.2.2.2 (by first | assumption | omega) (by first | assumption | omega) (by first | assumption | omega) (by intro q; rcases inv_64.1 with q1 | q1 | q1; omega; omega; omega) (by omega)) v_X9_260 (k := 45) rfl rfl rfl ⟨Nat.le_of_ble_eq_true rfl, Nat.le_of_ble_eq_true rfl⟩ rfl hl.1 (Nat.le_of_ble_eq_true rfl) dX9_monthsLater_112 ⟨Nat.zero_le _, Nat.zero_le _⟩ (fun r_112 z_112 => ?_)
      exact q_cret (post := (fun z n1 σ1 => n1 = n ∧ ∃ I1 R1, σ1 = mS t b σ0 I1 R1 ∧ R1 = Rw ∧ kpI [6, 7, 8] I I1 ∧ (I1 6).toInt = yof (rowM Rw ca) dy ∧ (I1 7).toInt = mof (rowM Rw ca) dy ∧ (I1 8).toInt = dof (rowM Rw ca) dy ∧ z.toInt = mlat (rowM Rw ca) dy n_)) X w dX9_monthsLater_115 (rfl) ⟨rfl, _, _, rfl, rfl, by exact ⟨z_3.1, z_3.2.1, z_3.2.2.1, z_3.2.2.2, by rw [z_112]; rw [cut_no k_69]; rcases inv_64.1 with q | q | q; exact absurd q.1 k_69; exact (mlat_lo h_2 q.2).symm; exact (mlat_hi h_2 q.2).symm⟩⟩
    · skip
      rw [z_66] at c_69
      have k_69 := bI_t.mp c_69
      have hCy := mcnt_bd h_2 y
      refine lv_iload hx hb dX9_monthsLater_72 (lv_at hl 0 rfl) ?_
      refine lv_aload_n hx hb dX9_monthsLater_74 rfl (lv_at hl 2 rfl) ?_
      refine lv_iload_n hx hb dX9_monthsLater_75 rfl (lv_at hl 3 rfl) ?_
      refine lv_iload hx hb dX9_monthsLater_76 (lv_at hl 1 rfl) ?_
      refine q_cPV X w (c_X9_monthsOf l D t b n σ0 I_3 Rw a_ca v_y ca y e_ca q_y (by first | assumption | omega) (by first | assumption | omega)) v_X9_114 (k := 45) rfl rfl rfl ⟨Nat.le_of_ble_eq_true rfl, Nat.le_of_ble_eq_true rfl⟩ rfl hl.1 (Nat.le_of_ble_eq_true rfl) dX9_monthsLater_78 ⟨Nat.zero_le _, Nat.zero_le _⟩ (fun r_78 z_78 => ?_)
      refine lv_icmp_le (tgt := 102) hx hb dX9_monthsLater_81 (by decide) (fun c_81 => ?_) (fun c_81 => ?_)
      · skip
        have k_81 : mm ≤ (mcnt (rowM Rw ca) y) := (g_le q_mm z_78).mp c_81
        refine lv_aload_n hx hb dX9_monthsLater_102 rfl (lv_at hl 2 rfl) ?_
        refine lv_iload_n hx hb dX9_monthsLater_103 rfl (lv_at hl 3 rfl) ?_
        refine lv_iload hx hb dX9_monthsLater_104 (lv_at hl 1 rfl) ?_
        refine lv_iload hx hb dX9_monthsLater_106 (lv_at hl 0 rfl) ?_
        refine lv_aload_n hx hb dX9_monthsLater_108 rfl (lv_at hl 2 rfl) ?_
        refine mg_dayOfMonth X w dX9_monthsLater_109 ?_
        refine q_cPV X w (c_X9_cutDate l D t b n σ0 I_3 Rw a_ca v_y v_mm (I_3 8) ca y mm (dof (rowM Rw ca) dy) e_ca q_y q_mm z_3.2.2.2 (by first | assumption | omega) (by first | assumption | omega) (by first | assumption | omega) (by intro q; rcases inv_64.1 with q1 | q1 | q1; omega; omega; omega) (by omega)) v_X9_260 (k := 45) rfl rfl rfl ⟨Nat.le_of_ble_eq_true rfl, Nat.le_of_ble_eq_true rfl⟩ rfl hl.1 (Nat.le_of_ble_eq_true rfl) dX9_monthsLater_112 ⟨Nat.zero_le _, Nat.zero_le _⟩ (fun r_112 z_112 => ?_)
        exact q_cret (post := (fun z n1 σ1 => n1 = n ∧ ∃ I1 R1, σ1 = mS t b σ0 I1 R1 ∧ R1 = Rw ∧ kpI [6, 7, 8] I I1 ∧ (I1 6).toInt = yof (rowM Rw ca) dy ∧ (I1 7).toInt = mof (rowM Rw ca) dy ∧ (I1 8).toInt = dof (rowM Rw ca) dy ∧ z.toInt = mlat (rowM Rw ca) dy n_)) X w dX9_monthsLater_115 (rfl) ⟨rfl, _, _, rfl, rfl, by exact ⟨z_3.1, z_3.2.1, z_3.2.2.1, z_3.2.2.2, by rw [z_112]; rcases inv_64.1 with q | q | q; exact (mlat_y h_2 k_69 q.2.1 q.2.2 (by omega)).symm; exfalso; omega; exfalso; omega⟩⟩
      · skip
        have k_81 : ¬ (mm ≤ (mcnt (rowM Rw ca) y)) := fun h => c_81 ((g_le q_mm z_78).mpr h)
        refine lv_iload hx hb dX9_monthsLater_84 (lv_at hl 0 rfl) ?_
        refine lv_aload_n hx hb dX9_monthsLater_86 rfl (lv_at hl 2 rfl) ?_
        refine lv_iload_n hx hb dX9_monthsLater_87 rfl (lv_at hl 3 rfl) ?_
        refine lv_iload hx hb dX9_monthsLater_88 (lv_at hl 1 rfl) ?_
        refine q_cPV X w (c_X9_monthsOf l D t b n σ0 I_3 Rw a_ca v_y ca y e_ca q_y (by first | assumption | omega) (by first | assumption | omega)) v_X9_114 (k := 45) rfl rfl rfl ⟨Nat.le_of_ble_eq_true rfl, Nat.le_of_ble_eq_true rfl⟩ rfl hl.1 (Nat.le_of_ble_eq_true rfl) dX9_monthsLater_90 ⟨Nat.zero_le _, Nat.zero_le _⟩ (fun r_90 z_90 => ?_)
        refine lv_isub hx hb dX9_monthsLater_93 ?_
        refine lv_topi (fun x_93 e_93 => ?_)
        have p_93 : x_93.toInt = (mm - (mcnt (rowM Rw ca) y)) := by rw [e_93]; exact t_sub q_mm z_90 (by omega) (by omega)
        refine lv_istore (lv' := [(5, .int x_93), (4, .int v_y), (0, .ref (b + 45)), (1, .int a_ca), (2, .int a_dy), (3, .int a_n_)]) hx hb dX9_monthsLater_94 hl (by decide) rfl (fun ls hl => ?_)
        obtain ⟨x_96, e_96⟩ : ∃ z : Int32, z = (v_y + 1) := ⟨_, rfl⟩
        have p_96 : x_96.toInt = (y + 1) := by rw [e_96]; exact t_add q_y (show (1 : Int32).toInt = 1 from rfl) (by omega) (by omega)
        refine lv_iinc (v := x_96) (lv' := [(4, .int x_96), (5, .int x_93), (0, .ref (b + 45)), (1, .int a_ca), (2, .int a_dy), (3, .int a_n_)]) hx hb dX9_monthsLater_96 hl (k := 1) rfl (by rw [e_96]; rfl) (by decide) rfl (fun ls hl => ?_)
        refine lv_goto (tgt := 64) hx hb dX9_monthsLater_99 (by decide) ?_
        refine ih_64 ⟨x_96, x_93, (y + 1), (mm - (mcnt (rowM Rw ca) y))⟩ ⟨p_96, p_93, by dsimp only; have ms := Mb_succ (rowM Rw ca) y; have e2 : y + 1 = 2001 → Mb (rowM Rw ca) (y + 1) = Mb (rowM Rw ca) 2001 := fun q => (by rw [q]); rcases inv_64.1 with q | q | q; omega; omega; omega⟩ (by dsimp only; omega) ls (lv_sub hl [1, 0, 2, 3, 4, 5] rfl)
  · skip
    rw [z_22] at c_25
    have k_25 := bI_t.mp c_25
    refine lv_iload hx hb dX9_monthsLater_28 (lv_at hl 0 rfl) ?_
    refine lv_iconst (v := 1) hx hb dX9_monthsLater_30 (by decide) ?_
    refine lv_icmp_ge (tgt := 64) hx hb dX9_monthsLater_31 (by decide) (fun c_31 => ?_) (fun c_31 => ?_)
    · skip
      have k_31 : 1 ≤ mm := (g_le (show (1 : Int32).toInt = 1 from rfl) q_mm).mp c_31
      refine q_loop (α := Int32 × Int32 × Int × Int) (fun a => a.1.toInt = a.2.2.1 ∧ a.2.1.toInt = a.2.2.2 ∧ (((-2000 ≤ a.2.2.1 ∧ a.2.2.1 ≤ 2000) ∧ Mb (rowM Rw ca) a.2.2.1 + a.2.2.2 - 1 = mcon (rowM Rw ca) dy + n_ ∧ 1 ≤ a.2.2.2 ∨ a.2.2.1 = -2001 ∧ mcon (rowM Rw ca) dy + n_ < Mb (rowM Rw ca) (-2000) ∨ a.2.2.1 = 2001 ∧ Mb (rowM Rw ca) 2001 ≤ mcon (rowM Rw ca) dy + n_) ∧ (-200000 ≤ a.2.2.2 ∧ a.2.2.2 ≤ 200000))) (fun a => (3000 - a.2.2.1).toNat) (fun a => ∀ ls : Array Slot, lv_has ls 6 [(5, .int a.2.1), (4, .int a.1), (0, .ref (b + 45)), (1, .int a_ca), (2, .int a_dy), (3, .int a_n_)] → W p l e (qR 7 0 0) s m args below meth c H locs 0 0 (MQ below (va_Qi (S := Nat × qM) (fun z u => (fun z n1 σ1 => n1 = n ∧ ∃ I1 R1, σ1 = mS t b σ0 I1 R1 ∧ R1 = Rw ∧ kpI [6, 7, 8] I I1 ∧ (I1 6).toInt = yof (rowM Rw ca) dy ∧ (I1 7).toInt = mof (rowM Rw ca) dy ∧ (I1 8).toInt = dof (rowM Rw ca) dy ∧ z.toInt = mlat (rowM Rw ca) dy n_) z u.1 u.2) (fun u T => WB D b u.1 u.2 T.heap) (fun q => b ≤ q)) args s 0 0 (fun q => b ≤ q)) (F0 m 64 ls [])) ?_ ⟨v_y, v_mm, y, mm⟩ ⟨q_y, q_mm, by dsimp only; rcases inv_20.1 with q | q; omega; omega⟩ ls (lv_sub hl [0, 1, 2, 3, 4, 5] rfl)
      rintro ⟨v_y, v_mm, y, mm⟩ ⟨q_y, q_mm, inv_64⟩ ih_64 ls hl
      dsimp only at q_y q_mm inv_64 hl
      refine lv_iload hx hb dX9_monthsLater_64 (lv_at hl 1 rfl) ?_
      refine q_cPS X w (c_X9_isYear l v_y y q_y D t b n (mS t b σ0 I_3 Rw)) v_X9_110 rfl ⟨Nat.le_of_ble_eq_true rfl, Nat.le_of_ble_eq_true rfl⟩ rfl hl.1 (Nat.le_of_ble_eq_true rfl) dX9_monthsLater_66 ⟨Nat.zero_le _, Nat.zero_le _⟩ (fun r_66 z_66 => ?_)
      refine lv_if_eq (tgt := 102) hx hb dX9_monthsLater_69 (by decide) (fun c_69 => ?_) (fun c_69 => ?_)
      · skip
        rw [z_66] at c_69
        have k_69 := bI_f.mp c_69
        refine lv_aload_n hx hb dX9_monthsLater_102 rfl (lv_at hl 2 rfl) ?_
        refine lv_iload_n hx hb dX9_monthsLater_103 rfl (lv_at hl 3 rfl) ?_
        refine lv_iload hx hb dX9_monthsLater_104 (lv_at hl 1 rfl) ?_
        refine lv_iload hx hb dX9_monthsLater_106 (lv_at hl 0 rfl) ?_
        refine lv_aload_n hx hb dX9_monthsLater_108 rfl (lv_at hl 2 rfl) ?_
        refine mg_dayOfMonth X w dX9_monthsLater_109 ?_
        refine q_cPV X w (c_X9_cutDate l D t b n σ0 I_3 Rw a_ca v_y v_mm (I_3 8) ca y mm (dof (rowM Rw ca) dy) e_ca q_y q_mm z_3.2.2.2 (by first | assumption | omega) (by first | assumption | omega) (by first | assumption | omega) (by intro q; rcases inv_64.1 with q1 | q1 | q1; omega; omega; omega) (by omega)) v_X9_260 (k := 45) rfl rfl rfl ⟨Nat.le_of_ble_eq_true rfl, Nat.le_of_ble_eq_true rfl⟩ rfl hl.1 (Nat.le_of_ble_eq_true rfl) dX9_monthsLater_112 ⟨Nat.zero_le _, Nat.zero_le _⟩ (fun r_112 z_112 => ?_)
        exact q_cret (post := (fun z n1 σ1 => n1 = n ∧ ∃ I1 R1, σ1 = mS t b σ0 I1 R1 ∧ R1 = Rw ∧ kpI [6, 7, 8] I I1 ∧ (I1 6).toInt = yof (rowM Rw ca) dy ∧ (I1 7).toInt = mof (rowM Rw ca) dy ∧ (I1 8).toInt = dof (rowM Rw ca) dy ∧ z.toInt = mlat (rowM Rw ca) dy n_)) X w dX9_monthsLater_115 (rfl) ⟨rfl, _, _, rfl, rfl, by exact ⟨z_3.1, z_3.2.1, z_3.2.2.1, z_3.2.2.2, by rw [z_112]; rw [cut_no k_69]; rcases inv_64.1 with q | q | q; exact absurd q.1 k_69; exact (mlat_lo h_2 q.2).symm; exact (mlat_hi h_2 q.2).symm⟩⟩
      · skip
        rw [z_66] at c_69
        have k_69 := bI_t.mp c_69
        have hCy := mcnt_bd h_2 y
        refine lv_iload hx hb dX9_monthsLater_72 (lv_at hl 0 rfl) ?_
        refine lv_aload_n hx hb dX9_monthsLater_74 rfl (lv_at hl 2 rfl) ?_
        refine lv_iload_n hx hb dX9_monthsLater_75 rfl (lv_at hl 3 rfl) ?_
        refine lv_iload hx hb dX9_monthsLater_76 (lv_at hl 1 rfl) ?_
        refine q_cPV X w (c_X9_monthsOf l D t b n σ0 I_3 Rw a_ca v_y ca y e_ca q_y (by first | assumption | omega) (by first | assumption | omega)) v_X9_114 (k := 45) rfl rfl rfl ⟨Nat.le_of_ble_eq_true rfl, Nat.le_of_ble_eq_true rfl⟩ rfl hl.1 (Nat.le_of_ble_eq_true rfl) dX9_monthsLater_78 ⟨Nat.zero_le _, Nat.zero_le _⟩ (fun r_78 z_78 => ?_)
        refine lv_icmp_le (tgt := 102) hx hb dX9_monthsLater_81 (by decide) (fun c_81 => ?_) (fun c_81 => ?_)
        · skip
          have k_81 : mm ≤ (mcnt (rowM Rw ca) y) := (g_le q_mm z_78).mp c_81
          refine lv_aload_n hx hb dX9_monthsLater_102 rfl (lv_at hl 2 rfl) ?_
          refine lv_iload_n hx hb dX9_monthsLater_103 rfl (lv_at hl 3 rfl) ?_
          refine lv_iload hx hb dX9_monthsLater_104 (lv_at hl 1 rfl) ?_
          refine lv_iload hx hb dX9_monthsLater_106 (lv_at hl 0 rfl) ?_
          refine lv_aload_n hx hb dX9_monthsLater_108 rfl (lv_at hl 2 rfl) ?_
          refine mg_dayOfMonth X w dX9_monthsLater_109 ?_
          refine q_cPV X w (c_X9_cutDate l D t b n σ0 I_3 Rw a_ca v_y v_mm (I_3 8) ca y mm (dof (rowM Rw ca) dy) e_ca q_y q_mm z_3.2.2.2 (by first | assumption | omega) (by first | assumption | omega) (by first | assumption | omega) (by intro q; rcases inv_64.1 with q1 | q1 | q1; omega; omega; omega) (by omega)) v_X9_260 (k := 45) rfl rfl rfl ⟨Nat.le_of_ble_eq_true rfl, Nat.le_of_ble_eq_true rfl⟩ rfl hl.1 (Nat.le_of_ble_eq_true rfl) dX9_monthsLater_112 ⟨Nat.zero_le _, Nat.zero_le _⟩ (fun r_112 z_112 => ?_)
          exact q_cret (post := (fun z n1 σ1 => n1 = n ∧ ∃ I1 R1, σ1 = mS t b σ0 I1 R1 ∧ R1 = Rw ∧ kpI [6, 7, 8] I I1 ∧ (I1 6).toInt = yof (rowM Rw ca) dy ∧ (I1 7).toInt = mof (rowM Rw ca) dy ∧ (I1 8).toInt = dof (rowM Rw ca) dy ∧ z.toInt = mlat (rowM Rw ca) dy n_)) X w dX9_monthsLater_115 (rfl) ⟨rfl, _, _, rfl, rfl, by exact ⟨z_3.1, z_3.2.1, z_3.2.2.1, z_3.2.2.2, by rw [z_112]; rcases inv_64.1 with q | q | q; exact (mlat_y h_2 k_69 q.2.1 q.2.2 (by omega)).symm; exfalso; omega; exfalso; omega⟩⟩
        · skip
          have k_81 : ¬ (mm ≤ (mcnt (rowM Rw ca) y)) := fun h => c_81 ((g_le q_mm z_78).mpr h)
          refine lv_iload hx hb dX9_monthsLater_84 (lv_at hl 0 rfl) ?_
          refine lv_aload_n hx hb dX9_monthsLater_86 rfl (lv_at hl 2 rfl) ?_
          refine lv_iload_n hx hb dX9_monthsLater_87 rfl (lv_at hl 3 rfl) ?_
          refine lv_iload hx hb dX9_monthsLater_88 (lv_at hl 1 rfl) ?_
          refine q_cPV X w (c_X9_monthsOf l D t b n σ0 I_3 Rw a_ca v_y ca y e_ca q_y (by first | assumption | omega) (by first | assumption | omega)) v_X9_114 (k := 45) rfl rfl rfl ⟨Nat.le_of_ble_eq_true rfl, Nat.le_of_ble_eq_true rfl⟩ rfl hl.1 (Nat.le_of_ble_eq_true rfl) dX9_monthsLater_90 ⟨Nat.zero_le _, Nat.zero_le _⟩ (fun r_90 z_90 => ?_)
          refine lv_isub hx hb dX9_monthsLater_93 ?_
          refine lv_topi (fun x_93 e_93 => ?_)
          have p_93 : x_93.toInt = (mm - (mcnt (rowM Rw ca) y)) := by rw [e_93]; exact t_sub q_mm z_90 (by omega) (by omega)
          refine lv_istore (lv' := [(5, .int x_93), (4, .int v_y), (0, .ref (b + 45)), (1, .int a_ca), (2, .int a_dy), (3, .int a_n_)]) hx hb dX9_monthsLater_94 hl (by decide) rfl (fun ls hl => ?_)
          obtain ⟨x_96, e_96⟩ : ∃ z : Int32, z = (v_y + 1) := ⟨_, rfl⟩
          have p_96 : x_96.toInt = (y + 1) := by rw [e_96]; exact t_add q_y (show (1 : Int32).toInt = 1 from rfl) (by omega) (by omega)
          refine lv_iinc (v := x_96) (lv' := [(4, .int x_96), (5, .int x_93), (0, .ref (b + 45)), (1, .int a_ca), (2, .int a_dy), (3, .int a_n_)]) hx hb dX9_monthsLater_96 hl (k := 1) rfl (by rw [e_96]; rfl) (by decide) rfl (fun ls hl => ?_)
          refine lv_goto (tgt := 64) hx hb dX9_monthsLater_99 (by decide) ?_
          refine ih_64 ⟨x_96, x_93, (y + 1), (mm - (mcnt (rowM Rw ca) y))⟩ ⟨p_96, p_93, by dsimp only; have ms := Mb_succ (rowM Rw ca) y; have e2 : y + 1 = 2001 → Mb (rowM Rw ca) (y + 1) = Mb (rowM Rw ca) 2001 := fun q => (by rw [q]); rcases inv_64.1 with q | q | q; omega; omega; omega⟩ (by dsimp only; omega) ls (lv_sub hl [1, 0, 2, 3, 4, 5] rfl)
    · skip
      have k_31 : ¬ (1 ≤ mm) := fun h => c_31 ((g_le (show (1 : Int32).toInt = 1 from rfl) q_mm).mpr h)
      obtain ⟨x_34, e_34⟩ : ∃ z : Int32, z = (v_y + (-1)) := ⟨_, rfl⟩
      have p_34 : x_34.toInt = (y + (-1)) := by rw [e_34]; exact t_add q_y (show ((-1) : Int32).toInt = (-1) from rfl) (by omega) (by omega)
      refine lv_iinc (v := x_34) (lv' := [(4, .int x_34), (5, .int v_mm), (0, .ref (b + 45)), (1, .int a_ca), (2, .int a_dy), (3, .int a_n_)]) hx hb dX9_monthsLater_34 hl (k := 1) rfl (by rw [e_34]; rfl) (by decide) rfl (fun ls hl => ?_)
      refine lv_iload hx hb dX9_monthsLater_37 (lv_at hl 1 rfl) ?_
      refine lv_iload hx hb dX9_monthsLater_39 (lv_at hl 0 rfl) ?_
      refine q_cPS X w (c_X9_isYear l x_34 (y + (-1)) p_34 D t b n (mS t b σ0 I_3 Rw)) v_X9_110 rfl ⟨Nat.le_of_ble_eq_true rfl, Nat.le_of_ble_eq_true rfl⟩ rfl hl.1 (Nat.le_of_ble_eq_true rfl) dX9_monthsLater_41 ⟨Nat.zero_le _, Nat.zero_le _⟩ (fun r_41 z_41 => ?_)
      refine lv_if_eq (tgt := 57) hx hb dX9_monthsLater_44 (by decide) (fun c_44 => ?_) (fun c_44 => ?_)
      · skip
        rw [z_41] at c_44
        have k_44 := bI_f.mp c_44
        refine lv_iconst (v := 0) hx hb dX9_monthsLater_57 (by decide) ?_
        refine lv_iadd hx hb dX9_monthsLater_58 ?_
        refine lv_topi (fun x_58 e_58 => ?_)
        have p_58 : x_58.toInt = (mm + 0) := by rw [e_58]; exact t_add q_mm (show (0 : Int32).toInt = 0 from rfl) (by omega) (by omega)
        refine lv_istore (lv' := [(5, .int x_58), (4, .int x_34), (0, .ref (b + 45)), (1, .int a_ca), (2, .int a_dy), (3, .int a_n_)]) hx hb dX9_monthsLater_59 hl (by decide) rfl (fun ls hl => ?_)
        refine lv_goto (tgt := 20) hx hb dX9_monthsLater_61 (by decide) ?_
        refine ih_20 ⟨x_34, x_58, (y + (-1)), (mm + 0)⟩ ⟨p_34, p_58, by dsimp only; have e2 : y + -1 = -2001 → Mb (rowM Rw ca) y = Mb (rowM Rw ca) (-2000) := fun q => (by rw [show y = -2000 by omega]); rcases inv_20.1 with q | q; omega; omega⟩ (by dsimp only; omega) ls (lv_sub hl [0, 1, 2, 3, 4, 5] rfl)
      · skip
        rw [z_41] at c_44
        have k_44 := bI_t.mp c_44
        have hCm := mcnt_bd h_2 (y + -1)
        refine lv_aload_n hx hb dX9_monthsLater_47 rfl (lv_at hl 2 rfl) ?_
        refine lv_iload_n hx hb dX9_monthsLater_48 rfl (lv_at hl 3 rfl) ?_
        refine lv_iload hx hb dX9_monthsLater_49 (lv_at hl 0 rfl) ?_
        refine q_cPV X w (c_X9_monthsOf l D t b n σ0 I_3 Rw a_ca x_34 ca (y + (-1)) e_ca p_34 (by first | assumption | omega) (by first | assumption | omega)) v_X9_114 (k := 45) rfl rfl rfl ⟨Nat.le_of_ble_eq_true rfl, Nat.le_of_ble_eq_true rfl⟩ rfl hl.1 (Nat.le_of_ble_eq_true rfl) dX9_monthsLater_51 ⟨Nat.zero_le _, Nat.zero_le _⟩ (fun r_51 z_51 => ?_)
        refine lv_goto (tgt := 58) hx hb dX9_monthsLater_54 (by decide) ?_
        refine lv_iadd hx hb dX9_monthsLater_58 ?_
        refine lv_topi (fun x_58 e_58 => ?_)
        have p_58 : x_58.toInt = (mm + (mcnt (rowM Rw ca) (y + (-1)))) := by rw [e_58]; exact t_add q_mm z_51 (by omega) (by omega)
        refine lv_istore (lv' := [(5, .int x_58), (4, .int x_34), (0, .ref (b + 45)), (1, .int a_ca), (2, .int a_dy), (3, .int a_n_)]) hx hb dX9_monthsLater_59 hl (by decide) rfl (fun ls hl => ?_)
        refine lv_goto (tgt := 20) hx hb dX9_monthsLater_61 (by decide) ?_
        refine ih_20 ⟨x_34, x_58, (y + (-1)), (mm + (mcnt (rowM Rw ca) (y + (-1))))⟩ ⟨p_34, p_58, by dsimp only; have e2 : y + -1 = -2001 → Mb (rowM Rw ca) y = Mb (rowM Rw ca) (-2000) := fun q => (by rw [show y = -2000 by omega]); have ms := Mb_succ (rowM Rw ca) (y + -1); rw [show y + -1 + 1 = y by omega] at ms; omega⟩ (by dsimp only; omega) ls (lv_sub hl [0, 1, 2, 3, 4, 5] rfl)

set_option maxHeartbeats 4000000 in
set_option maxRecDepth 100000 in
theorem c_X9_weekdayIn (l : Launch) (D : va_G) (t : Nat → ClassId) (b n : Nat) (σ0 : qM) (I : Nat → Int32) (Rw : Nat → Nat → Int32) (a_ca : Int32) (a_yr : Int32) (a_mo : Int32) (a_bb : Int32) (a_wd : Int32) (ca : Int) (yr : Int) (mo : Int) (bb : Int) (wd : Int) (e_ca : a_ca.toInt = ca) (e_yr : a_yr.toInt = yr) (e_mo : a_mo.toInt = mo) (e_bb : a_bb.toInt = bb) (e_wd : a_wd.toInt = wd) (h_1 : 0 ≤ ca ∧ ca < 6) (h_2 : okRow (rowM Rw ca)) (h_3 : okF Rw ca) (h_4 : -2000 ≤ yr ∧ yr ≤ 2000) (h_5 : 1 ≤ mo ∧ mo ≤ mcnt (rowM Rw ca) yr) (h_6 : bb = -1 ∨ 1 ≤ bb ∧ bb ≤ 5) (h_7 : 0 ≤ wd ∧ wd ≤ 9) : qP l yX9_weekdayIn cX9_weekdayIn 11 (some .int) 6 D t b n (mS t b σ0 I Rw) [.ref (b + 45), .int a_ca, .int a_yr, .int a_mo, .int a_bb, .int a_wd] (fun z => z.toInt = win (rowM Rw ca) yr mo bb wd) := by
  refine qP.of (by decide +kernel) (Nat.le_of_ble_eq_true rfl) (fun p e s m args below meth c X w ls hl => ?_)
  have hx := X.1
  have hb := X.2.1
  have hl : lv_has ls 11 [(0, .ref (b + 45)), (1, .int a_ca), (2, .int a_yr), (3, .int a_mo), (4, .int a_bb), (5, .int a_wd)] := hl
  have hw := h_2.wk
  have hl_ := mlen_bd h_2 h_5.1 h_5.2
  have hb1 := fst_bd h_2 (y := yr) (by omega) (by omega)
  have hmb := msum_bd h_2 (y := yr) (mo - 1).toNat (by omega)
  have hc_ := mcnt_bd h_2 yr
  have hB : wbeg (rowM Rw ca) yr mo = fst (rowM Rw ca) yr + 1 - 1 + msum (rowM Rw ca) yr (mo - 1).toNat := rfl
  have hB2 : dnum (rowM Rw ca) yr mo 1 = wbeg (rowM Rw ca) yr mo := rfl
  refine lv_iload hx hb dX9_weekdayIn_0 (lv_at hl 5 rfl) ?_
  refine lv_aload_n hx hb dX9_weekdayIn_2 rfl (lv_at hl 0 rfl) ?_
  refine lv_iload_n hx hb dX9_weekdayIn_3 rfl (lv_at hl 1 rfl) ?_
  refine lv_bipush (v := 30) hx hb dX9_weekdayIn_4 (by decide) ?_
  refine q_cPV X w (c_X9_of l D t b n σ0 I Rw a_ca 30 ca 30 e_ca (show (30 : Int32).toInt = 30 from rfl) (by first | assumption | omega) (by first | assumption | omega)) v_X9_80 (k := 45) rfl rfl rfl ⟨Nat.le_of_ble_eq_true rfl, Nat.le_of_ble_eq_true rfl⟩ rfl hl.1 (Nat.le_of_ble_eq_true rfl) dX9_weekdayIn_6 ⟨Nat.zero_le _, Nat.zero_le _⟩ (fun r_6 z_6 => ?_)
  refine lv_icmp_lt (tgt := 16) hx hb dX9_weekdayIn_9 (by decide) (fun c_9 => ?_) (fun c_9 => ?_)
  · skip
    have k_9 : wd < (rv (rowM Rw ca) 30) := (g_lt e_wd (congrArg Int32.toInt z_6)).mp c_9
    refine lv_aload_n hx hb dX9_weekdayIn_16 rfl (lv_at hl 0 rfl) ?_
    refine lv_iload_n hx hb dX9_weekdayIn_17 rfl (lv_at hl 1 rfl) ?_
    refine lv_iload_n hx hb dX9_weekdayIn_18 rfl (lv_at hl 2 rfl) ?_
    refine lv_iload_n hx hb dX9_weekdayIn_19 rfl (lv_at hl 3 rfl) ?_
    refine lv_iconst (v := 1) hx hb dX9_weekdayIn_20 (by decide) ?_
    refine q_cPV X w (c_X9_dayAt l D t b n σ0 I Rw a_ca a_yr a_mo 1 ca yr mo 1 e_ca e_yr e_mo (show (1 : Int32).toInt = 1 from rfl) (by first | assumption | omega) (by first | assumption | omega) (by first | assumption | omega) (by omega) (by exact h_5) (by omega)) v_X9_234 (k := 45) rfl rfl rfl ⟨Nat.le_of_ble_eq_true rfl, Nat.le_of_ble_eq_true rfl⟩ rfl hl.1 (Nat.le_of_ble_eq_true rfl) dX9_weekdayIn_21 ⟨Nat.zero_le _, Nat.zero_le _⟩ (fun r_21 z_21 => ?_)
    refine lv_istore (lv' := [(6, .int r_21), (0, .ref (b + 45)), (1, .int a_ca), (2, .int a_yr), (3, .int a_mo), (4, .int a_bb), (5, .int a_wd)]) hx hb dX9_weekdayIn_24 hl (by decide) rfl (fun ls hl => ?_)
    refine lv_iload hx hb dX9_weekdayIn_26 (lv_at hl 0 rfl) ?_
    refine lv_aload_n hx hb dX9_weekdayIn_28 rfl (lv_at hl 1 rfl) ?_
    refine lv_iload_n hx hb dX9_weekdayIn_29 rfl (lv_at hl 2 rfl) ?_
    refine lv_iload_n hx hb dX9_weekdayIn_30 rfl (lv_at hl 3 rfl) ?_
    refine lv_iload_n hx hb dX9_weekdayIn_31 rfl (lv_at hl 4 rfl) ?_
    refine q_cPV X w (c_X9_lengthOfMonth l D t b n σ0 I Rw a_ca a_yr a_mo ca yr mo e_ca e_yr e_mo (by first | assumption | omega) (by first | assumption | omega) (by exact h_5)) v_X9_120 (k := 45) rfl rfl rfl ⟨Nat.le_of_ble_eq_true rfl, Nat.le_of_ble_eq_true rfl⟩ rfl hl.1 (Nat.le_of_ble_eq_true rfl) dX9_weekdayIn_32 ⟨Nat.zero_le _, Nat.zero_le _⟩ (fun r_32 z_32 => ?_)
    refine lv_iadd hx hb dX9_weekdayIn_35 ?_
    refine lv_topi (fun x_35 e_35 => ?_)
    have p_35 : x_35.toInt = ((dnum (rowM Rw ca) yr mo 1) + (mlen (rowM Rw ca) yr mo)) := by rw [e_35]; exact t_add z_21 z_32 (by omega) (by omega)
    refine lv_iconst (v := 1) hx hb dX9_weekdayIn_36 (by decide) ?_
    refine lv_isub hx hb dX9_weekdayIn_37 ?_
    refine lv_topi (fun x_37 e_37 => ?_)
    have p_37 : x_37.toInt = (((dnum (rowM Rw ca) yr mo 1) + (mlen (rowM Rw ca) yr mo)) - 1) := by rw [e_37]; exact t_sub p_35 (show (1 : Int32).toInt = 1 from rfl) (by omega) (by omega)
    refine lv_istore (lv' := [(7, .int x_37), (6, .int r_21), (0, .ref (b + 45)), (1, .int a_ca), (2, .int a_yr), (3, .int a_mo), (4, .int a_bb), (5, .int a_wd)]) hx hb dX9_weekdayIn_38 hl (by decide) rfl (fun ls hl => ?_)
    refine lv_ldcw hx hb X.2.2.2.1 (X.2.2.1 _ kc_X9_259) dX9_weekdayIn_40 ?_
    refine lv_istore (lv' := [(8, .int (-2147483647)), (7, .int x_37), (6, .int r_21), (0, .ref (b + 45)), (1, .int a_ca), (2, .int a_yr), (3, .int a_mo), (4, .int a_bb), (5, .int a_wd)]) hx hb dX9_weekdayIn_43 hl (by decide) rfl (fun ls hl => ?_)
    refine lv_iconst (v := 0) hx hb dX9_weekdayIn_45 (by decide) ?_
    refine lv_istore (lv' := [(9, .int 0), (8, .int (-2147483647)), (7, .int x_37), (6, .int r_21), (0, .ref (b + 45)), (1, .int a_ca), (2, .int a_yr), (3, .int a_mo), (4, .int a_bb), (5, .int a_wd)]) hx hb dX9_weekdayIn_46 hl (by decide) rfl (fun ls hl => ?_)
    refine lv_iload hx hb dX9_weekdayIn_48 (lv_at hl 3 rfl) ?_
    refine lv_istore (lv' := [(10, .int r_21), (9, .int 0), (8, .int (-2147483647)), (7, .int x_37), (6, .int r_21), (0, .ref (b + 45)), (1, .int a_ca), (2, .int a_yr), (3, .int a_mo), (4, .int a_bb), (5, .int a_wd)]) hx hb dX9_weekdayIn_50 hl (by decide) rfl (fun ls hl => ?_)
    refine q_loop (α := Int32 × Int32 × Int32 × Int × Int × Int) (fun a => a.1.toInt = a.2.2.2.1 ∧ a.2.1.toInt = a.2.2.2.2.1 ∧ a.2.2.1.toInt = a.2.2.2.2.2 ∧ ((wbeg (rowM Rw ca) yr mo ≤ a.2.2.2.2.2 ∧ a.2.2.2.2.2 ≤ wbeg (rowM Rw ca) yr mo + mlen (rowM Rw ca) yr mo) ∧ (a.2.2.2.2.1 = wcnt (wbeg (rowM Rw ca) yr mo + (wd - (rv (rowM Rw ca) 31 + wbeg (rowM Rw ca) yr mo) % rv (rowM Rw ca) 30) % rv (rowM Rw ca) 30) (rv (rowM Rw ca) 30) a.2.2.2.2.2 ∧ 0 ≤ a.2.2.2.2.1 ∧ a.2.2.2.2.1 ≤ a.2.2.2.2.2 - wbeg (rowM Rw ca) yr mo) ∧ a.2.2.2.1 = wfnd bb a.2.2.2.2.1 (wbeg (rowM Rw ca) yr mo + (wd - (rv (rowM Rw ca) 31 + wbeg (rowM Rw ca) yr mo) % rv (rowM Rw ca) 30) % rv (rowM Rw ca) 30) (rv (rowM Rw ca) 30))) (fun a => (wbeg (rowM Rw ca) yr mo + mlen (rowM Rw ca) yr mo - a.2.2.2.2.2).toNat) (fun a => ∀ ls : Array Slot, lv_has ls 11 [(10, .int a.2.2.1), (9, .int a.2.1), (8, .int a.1), (7, .int x_37), (6, .int r_21), (0, .ref (b + 45)), (1, .int a_ca), (2, .int a_yr), (3, .int a_mo), (4, .int a_bb), (5, .int a_wd)] → W p l e (qR 6 0 0) s m args below meth c s.heap [] 0 0 (MQ below (vp_Si (fun z => z.toInt = win (rowM Rw ca) yr mo bb wd)) args s 0 0 (fun _ => False)) (F0 m 52 ls [])) ?_ ⟨(-2147483647), 0, r_21, (-2147483647), 0, dnum (rowM Rw ca) yr mo 1⟩ ⟨(show ((-2147483647) : Int32).toInt = (-2147483647) from rfl), (show (0 : Int32).toInt = 0 from rfl), z_21, by dsimp only; have e := wc_0 (z := rv (rowM Rw ca) 31) (g := wbeg (rowM Rw ca) yr mo) (wd := wd) hw.1; refine ⟨by omega, ⟨e.symm, by omega, by omega⟩, (wfnd_0 (by omega)).symm⟩⟩ ls (lv_sub hl [0, 1, 2, 3, 4, 5, 6, 7, 8, 9, 10] rfl)
    rintro ⟨v_fo, v_cn, v_x, fo, cn, x⟩ ⟨q_fo, q_cn, q_x, inv_52⟩ ih_52 ls hl
    dsimp only at q_fo q_cn q_x inv_52 hl
    refine lv_iload hx hb dX9_weekdayIn_52 (lv_at hl 0 rfl) ?_
    refine lv_iload hx hb dX9_weekdayIn_54 (lv_at hl 3 rfl) ?_
    refine lv_icmp_gt (tgt := 100) hx hb dX9_weekdayIn_56 (by decide) (fun c_56 => ?_) (fun c_56 => ?_)
    · skip
      have k_56 : (((dnum (rowM Rw ca) yr mo 1) + (mlen (rowM Rw ca) yr mo)) - 1) < x := (g_lt p_37 q_x).mp c_56
      refine lv_iload hx hb dX9_weekdayIn_100 (lv_at hl 2 rfl) ?_
      exact q_pret X w dX9_weekdayIn_102 (by rw [q_fo, inv_52.2.2, inv_52.2.1.1, show x = wbeg (rowM Rw ca) yr mo + mlen (rowM Rw ca) yr mo by omega]; unfold win; rw [if_neg (by omega)]; rfl)
    · skip
      have k_56 : ¬ ((((dnum (rowM Rw ca) yr mo 1) + (mlen (rowM Rw ca) yr mo)) - 1) < x) := fun h => c_56 ((g_lt p_37 q_x).mpr h)
      refine lv_aload_n hx hb dX9_weekdayIn_59 rfl (lv_at hl 5 rfl) ?_
      refine lv_iload_n hx hb dX9_weekdayIn_60 rfl (lv_at hl 6 rfl) ?_
      refine lv_iload hx hb dX9_weekdayIn_61 (lv_at hl 0 rfl) ?_
      refine q_cPV X w (c_X9_weekday l D t b n σ0 I Rw a_ca v_x ca x e_ca q_x (by first | assumption | omega) (by first | assumption | omega) (by omega)) v_X9_140 (k := 45) rfl rfl rfl ⟨Nat.le_of_ble_eq_true rfl, Nat.le_of_ble_eq_true rfl⟩ rfl hl.1 (Nat.le_of_ble_eq_true rfl) dX9_weekdayIn_63 ⟨Nat.zero_le _, Nat.zero_le _⟩ (fun r_63 z_63 => ?_)
      refine lv_iload hx hb dX9_weekdayIn_66 (lv_at hl 10 rfl) ?_
      refine lv_icmp_eq (tgt := 74) hx hb dX9_weekdayIn_68 (by decide) (fun c_68 => ?_) (fun c_68 => ?_)
      · skip
        have k_68 : (wdy (rowM Rw ca) x) = wd := (g_eq z_63 e_wd).mp c_68
        obtain ⟨x_74, e_74⟩ : ∃ z : Int32, z = (v_cn + 1) := ⟨_, rfl⟩
        have p_74 : x_74.toInt = (cn + 1) := by rw [e_74]; exact t_add q_cn (show (1 : Int32).toInt = 1 from rfl) (by omega) (by omega)
        refine lv_iinc (v := x_74) (lv' := [(9, .int x_74), (10, .int v_x), (8, .int v_fo), (7, .int x_37), (6, .int r_21), (0, .ref (b + 45)), (1, .int a_ca), (2, .int a_yr), (3, .int a_mo), (4, .int a_bb), (5, .int a_wd)]) hx hb dX9_weekdayIn_74 hl (k := 1) rfl (by rw [e_74]; rfl) (by decide) rfl (fun ls hl => ?_)
        refine lv_iload hx hb dX9_weekdayIn_77 (lv_at hl 9 rfl) ?_
        refine lv_iconst (v := (-1)) hx hb dX9_weekdayIn_79 (by decide) ?_
        refine lv_icmp_eq (tgt := 90) hx hb dX9_weekdayIn_80 (by decide) (fun c_80 => ?_) (fun c_80 => ?_)
        · skip
          have k_80 : bb = (-1) := (g_eq e_bb (show ((-1) : Int32).toInt = (-1) from rfl)).mp c_80
          refine lv_iload hx hb dX9_weekdayIn_90 (lv_at hl 1 rfl) ?_
          refine lv_istore (lv' := [(8, .int v_x), (9, .int x_74), (10, .int v_x), (7, .int x_37), (6, .int r_21), (0, .ref (b + 45)), (1, .int a_ca), (2, .int a_yr), (3, .int a_mo), (4, .int a_bb), (5, .int a_wd)]) hx hb dX9_weekdayIn_92 hl (by decide) rfl (fun ls hl => ?_)
          obtain ⟨x_94, e_94⟩ : ∃ z : Int32, z = (v_x + 1) := ⟨_, rfl⟩
          have p_94 : x_94.toInt = (x + 1) := by rw [e_94]; exact t_add q_x (show (1 : Int32).toInt = 1 from rfl) (by omega) (by omega)
          refine lv_iinc (v := x_94) (lv' := [(10, .int x_94), (8, .int v_x), (9, .int x_74), (7, .int x_37), (6, .int r_21), (0, .ref (b + 45)), (1, .int a_ca), (2, .int a_yr), (3, .int a_mo), (4, .int a_bb), (5, .int a_wd)]) hx hb dX9_weekdayIn_94 hl (k := 2) rfl (by rw [e_94]; rfl) (by decide) rfl (fun ls hl => ?_)
          refine lv_goto (tgt := 52) hx hb dX9_weekdayIn_97 (by decide) ?_
          refine ih_52 ⟨v_x, x_74, x_94, x, (cn + 1), (x + 1)⟩ ⟨q_x, p_74, p_94, by dsimp only; have e := wc_t (d := x) hw.1 ⟨h_7.1, by omega⟩ inv_52.1.1 k_68; rw [← inv_52.2.1.1] at e; refine ⟨by omega, ⟨e.1.symm, by omega, by omega⟩, ?_⟩; rw [wfnd_s1 (by omega) (by omega)]; exact e.2⟩ (by dsimp only; omega) ls (lv_sub hl [0, 2, 1, 3, 4, 5, 6, 7, 8, 9, 10] rfl)
        · skip
          have k_80 : ¬ (bb = (-1)) := fun h => c_80 ((g_eq e_bb (show ((-1) : Int32).toInt = (-1) from rfl)).mpr h)
          refine lv_iload hx hb dX9_weekdayIn_83 (lv_at hl 0 rfl) ?_
          refine lv_iload hx hb dX9_weekdayIn_85 (lv_at hl 9 rfl) ?_
          refine lv_icmp_ne (tgt := 94) hx hb dX9_weekdayIn_87 (by decide) (fun c_87 => ?_) (fun c_87 => ?_)
          · skip
            have k_87 : ¬ ((cn + 1) = bb) := fun h => c_87 ((g_eq p_74 e_bb).mpr h)
            obtain ⟨x_94, e_94⟩ : ∃ z : Int32, z = (v_x + 1) := ⟨_, rfl⟩
            have p_94 : x_94.toInt = (x + 1) := by rw [e_94]; exact t_add q_x (show (1 : Int32).toInt = 1 from rfl) (by omega) (by omega)
            refine lv_iinc (v := x_94) (lv' := [(10, .int x_94), (9, .int x_74), (8, .int v_fo), (7, .int x_37), (6, .int r_21), (0, .ref (b + 45)), (1, .int a_ca), (2, .int a_yr), (3, .int a_mo), (4, .int a_bb), (5, .int a_wd)]) hx hb dX9_weekdayIn_94 hl (k := 1) rfl (by rw [e_94]; rfl) (by decide) rfl (fun ls hl => ?_)
            refine lv_goto (tgt := 52) hx hb dX9_weekdayIn_97 (by decide) ?_
            refine ih_52 ⟨v_fo, x_74, x_94, fo, (cn + 1), (x + 1)⟩ ⟨q_fo, p_74, p_94, by dsimp only; have e := wc_t (d := x) hw.1 ⟨h_7.1, by omega⟩ inv_52.1.1 k_68; rw [← inv_52.2.1.1] at e; refine ⟨by omega, ⟨e.1.symm, by omega, by omega⟩, ?_⟩; rw [wfnd_s2 k_80 k_87]; exact inv_52.2.2⟩ (by dsimp only; omega) ls (lv_sub hl [0, 1, 2, 3, 4, 5, 6, 7, 8, 9, 10] rfl)
          · skip
            have k_87 : (cn + 1) = bb := (g_eq p_74 e_bb).mp c_87
            refine lv_iload hx hb dX9_weekdayIn_90 (lv_at hl 1 rfl) ?_
            refine lv_istore (lv' := [(8, .int v_x), (9, .int x_74), (10, .int v_x), (7, .int x_37), (6, .int r_21), (0, .ref (b + 45)), (1, .int a_ca), (2, .int a_yr), (3, .int a_mo), (4, .int a_bb), (5, .int a_wd)]) hx hb dX9_weekdayIn_92 hl (by decide) rfl (fun ls hl => ?_)
            obtain ⟨x_94, e_94⟩ : ∃ z : Int32, z = (v_x + 1) := ⟨_, rfl⟩
            have p_94 : x_94.toInt = (x + 1) := by rw [e_94]; exact t_add q_x (show (1 : Int32).toInt = 1 from rfl) (by omega) (by omega)
            refine lv_iinc (v := x_94) (lv' := [(10, .int x_94), (8, .int v_x), (9, .int x_74), (7, .int x_37), (6, .int r_21), (0, .ref (b + 45)), (1, .int a_ca), (2, .int a_yr), (3, .int a_mo), (4, .int a_bb), (5, .int a_wd)]) hx hb dX9_weekdayIn_94 hl (k := 2) rfl (by rw [e_94]; rfl) (by decide) rfl (fun ls hl => ?_)
            refine lv_goto (tgt := 52) hx hb dX9_weekdayIn_97 (by decide) ?_
            refine ih_52 ⟨v_x, x_74, x_94, x, (cn + 1), (x + 1)⟩ ⟨q_x, p_74, p_94, by dsimp only; have e := wc_t (d := x) hw.1 ⟨h_7.1, by omega⟩ inv_52.1.1 k_68; rw [← inv_52.2.1.1] at e; refine ⟨by omega, ⟨e.1.symm, by omega, by omega⟩, ?_⟩; rw [wfnd_s1 (by omega) (by omega)]; exact e.2⟩ (by dsimp only; omega) ls (lv_sub hl [0, 2, 1, 3, 4, 5, 6, 7, 8, 9, 10] rfl)
      · skip
        have k_68 : ¬ ((wdy (rowM Rw ca) x) = wd) := fun h => c_68 ((g_eq z_63 e_wd).mpr h)
        refine lv_goto (tgt := 94) hx hb dX9_weekdayIn_71 (by decide) ?_
        obtain ⟨x_94, e_94⟩ : ∃ z : Int32, z = (v_x + 1) := ⟨_, rfl⟩
        have p_94 : x_94.toInt = (x + 1) := by rw [e_94]; exact t_add q_x (show (1 : Int32).toInt = 1 from rfl) (by omega) (by omega)
        refine lv_iinc (v := x_94) (lv' := [(10, .int x_94), (9, .int v_cn), (8, .int v_fo), (7, .int x_37), (6, .int r_21), (0, .ref (b + 45)), (1, .int a_ca), (2, .int a_yr), (3, .int a_mo), (4, .int a_bb), (5, .int a_wd)]) hx hb dX9_weekdayIn_94 hl (k := 0) rfl (by rw [e_94]; rfl) (by decide) rfl (fun ls hl => ?_)
        refine lv_goto (tgt := 52) hx hb dX9_weekdayIn_97 (by decide) ?_
        refine ih_52 ⟨v_fo, v_cn, x_94, fo, cn, (x + 1)⟩ ⟨q_fo, q_cn, p_94, by dsimp only; have e := wc_f (d := x) hw.1 ⟨h_7.1, by omega⟩ inv_52.1.1 k_68; refine ⟨by omega, ⟨by rw [e]; exact inv_52.2.1.1, by omega, by omega⟩, inv_52.2.2⟩⟩ (by dsimp only; omega) ls (lv_sub hl [0, 1, 2, 3, 4, 5, 6, 7, 8, 9, 10] rfl)
  · skip
    have k_9 : ¬ (wd < (rv (rowM Rw ca) 30)) := fun h => c_9 ((g_lt e_wd (congrArg Int32.toInt z_6)).mpr h)
    refine lv_ldcw hx hb X.2.2.2.1 (X.2.2.1 _ kc_X9_259) dX9_weekdayIn_12 ?_
    exact q_pret X w dX9_weekdayIn_15 (by unfold win; rw [if_pos (by omega)]; rfl)

set_option maxHeartbeats 4000000 in
set_option maxRecDepth 100000 in
theorem c_X9_ruledDay (l : Launch) (D : va_G) (t : Nat → ClassId) (b n : Nat) (σ0 : qM) (I : Nat → Int32) (Rw : Nat → Nat → Int32) (a_f : Int32) (a_yr : Int32) (f : Int) (yr : Int) (e_f : a_f.toInt = f) (e_yr : a_yr.toInt = yr) (h_1 : (I 5).toInt ≤ 6) (h_2 : ∀ c : Int, 0 ≤ c → c < (I 5).toInt → okRow (rowM Rw c)) (h_3 : ∀ c : Int, 0 ≤ c → c < (I 5).toInt → okF Rw c) (h_4 : 0 ≤ f ∧ f < 8) (h_5 : okFe (I 5).toInt f (feM Rw f)) (h_6 : ∀ j : Int, 0 ≤ j → j < f → (Rw 17 j.toNat).toInt = -2147483647 ∨ (-999999 ≤ (Rw 17 j.toNat).toInt ∧ (Rw 17 j.toNat).toInt ≤ 999999)) (h_7 : -2000 ≤ yr ∧ yr ≤ 2000) : mC l yX9_ruledDay cX9_ruledDay 7 (some .int) 8 D t b n σ0 I Rw [.ref (b + 45), .int a_f, .int a_yr] (fun z I1 R1 => R1 = Rw ∧ kpI [6, 7, 8] I I1 ∧ z.toInt = ruled (rowM Rw) (feM Rw) (fun j => (Rw 17 j.toNat).toInt) f yr) := by
  refine qC.of (by decide +kernel) (Nat.le_of_ble_eq_true rfl) (fun p e s m args below meth c X w ls hl => ?_)
  have hx := X.1
  have hb := X.2.1
  have hl : lv_has ls 7 [(0, .ref (b + 45)), (1, .int a_f), (2, .int a_yr)] := hl
  have hFe := h_5
  unfold okFe at hFe
  refine lv_aload_n hx hb dX9_ruledDay_0 rfl (lv_at hl 0 rfl) ?_
  refine lv_iload_n hx hb dX9_ruledDay_1 rfl (lv_at hl 1 rfl) ?_
  refine lv_iconst (v := 2) hx hb dX9_ruledDay_2 (by decide) ?_
  refine q_cPV X w (c_X9_ofFeast l D t b n σ0 I Rw a_f 2 f 2 e_f (show (2 : Int32).toInt = 2 from rfl) (by first | assumption | omega) (by first | assumption | omega)) v_X9_288 (k := 45) rfl rfl rfl ⟨Nat.le_of_ble_eq_true rfl, Nat.le_of_ble_eq_true rfl⟩ rfl hl.1 (Nat.le_of_ble_eq_true rfl) dX9_ruledDay_3 ⟨Nat.zero_le _, Nat.zero_le _⟩ (fun r_3 z_3 => ?_)
  refine lv_istore_n (lv' := [(3, .int r_3), (0, .ref (b + 45)), (1, .int a_f), (2, .int a_yr)]) hx hb dX9_ruledDay_6 rfl hl (by decide) rfl (fun ls hl => ?_)
  refine lv_aload_n hx hb dX9_ruledDay_7 rfl (lv_at hl 1 rfl) ?_
  refine lv_iload_n hx hb dX9_ruledDay_8 rfl (lv_at hl 2 rfl) ?_
  refine lv_iconst (v := 3) hx hb dX9_ruledDay_9 (by decide) ?_
  refine q_cPV X w (c_X9_ofFeast l D t b n σ0 I Rw a_f 3 f 3 e_f (show (3 : Int32).toInt = 3 from rfl) (by first | assumption | omega) (by first | assumption | omega)) v_X9_288 (k := 45) rfl rfl rfl ⟨Nat.le_of_ble_eq_true rfl, Nat.le_of_ble_eq_true rfl⟩ rfl hl.1 (Nat.le_of_ble_eq_true rfl) dX9_ruledDay_10 ⟨Nat.zero_le _, Nat.zero_le _⟩ (fun r_10 z_10 => ?_)
  refine lv_istore (lv' := [(4, .int r_10), (3, .int r_3), (0, .ref (b + 45)), (1, .int a_f), (2, .int a_yr)]) hx hb dX9_ruledDay_13 hl (by decide) rfl (fun ls hl => ?_)
  refine lv_aload_n hx hb dX9_ruledDay_15 rfl (lv_at hl 2 rfl) ?_
  refine lv_iload_n hx hb dX9_ruledDay_16 rfl (lv_at hl 3 rfl) ?_
  refine lv_iconst (v := 4) hx hb dX9_ruledDay_17 (by decide) ?_
  refine q_cPV X w (c_X9_ofFeast l D t b n σ0 I Rw a_f 4 f 4 e_f (show (4 : Int32).toInt = 4 from rfl) (by first | assumption | omega) (by first | assumption | omega)) v_X9_288 (k := 45) rfl rfl rfl ⟨Nat.le_of_ble_eq_true rfl, Nat.le_of_ble_eq_true rfl⟩ rfl hl.1 (Nat.le_of_ble_eq_true rfl) dX9_ruledDay_18 ⟨Nat.zero_le _, Nat.zero_le _⟩ (fun r_18 z_18 => ?_)
  refine lv_istore (lv' := [(5, .int r_18), (4, .int r_10), (3, .int r_3), (0, .ref (b + 45)), (1, .int a_f), (2, .int a_yr)]) hx hb dX9_ruledDay_21 hl (by decide) rfl (fun ls hl => ?_)
  refine lv_aload_n hx hb dX9_ruledDay_23 rfl (lv_at hl 3 rfl) ?_
  refine lv_iload_n hx hb dX9_ruledDay_24 rfl (lv_at hl 4 rfl) ?_
  refine lv_iconst (v := 0) hx hb dX9_ruledDay_25 (by decide) ?_
  refine q_cPV X w (c_X9_ofFeast l D t b n σ0 I Rw a_f 0 f 0 e_f (show (0 : Int32).toInt = 0 from rfl) (by first | assumption | omega) (by first | assumption | omega)) v_X9_288 (k := 45) rfl rfl rfl ⟨Nat.le_of_ble_eq_true rfl, Nat.le_of_ble_eq_true rfl⟩ rfl hl.1 (Nat.le_of_ble_eq_true rfl) dX9_ruledDay_26 ⟨Nat.zero_le _, Nat.zero_le _⟩ (fun r_26 z_26 => ?_)
  refine lv_iconst (v := 2) hx hb dX9_ruledDay_29 (by decide) ?_
  refine lv_icmp_ge (tgt := 96) hx hb dX9_ruledDay_30 (by decide) (fun c_30 => ?_) (fun c_30 => ?_)
  · skip
    have k_30 : 2 ≤ ((feM Rw f 0).toInt) := (g_le (show (2 : Int32).toInt = 2 from rfl) (congrArg Int32.toInt z_26)).mp c_30
    have hdb := h_6 (feM Rw f 2).toInt (by omega) (by omega)
    refine lv_aload_n hx hb dX9_ruledDay_96 rfl (lv_at hl 3 rfl) ?_
    refine mg_feastDay X w dX9_ruledDay_97 ?_
    refine lv_iload_n hx hb dX9_ruledDay_100 rfl (lv_at hl 2 rfl) ?_
    refine ml_feastDay X w (g_in (congrArg Int32.toInt z_3) (by omega)) dX9_ruledDay_101 ?_
    refine q_topE (y := Rw 17 ((feM Rw f 2).toInt).toNat) (congrArg (Rw 17) (g_tn (congrArg Int32.toInt z_3))) ?_
    refine lv_ldcw hx hb X.2.2.2.1 (X.2.2.1 _ kc_X9_259) dX9_ruledDay_102 ?_
    refine lv_icmp_ne (tgt := 112) hx hb dX9_ruledDay_105 (by decide) (fun c_105 => ?_) (fun c_105 => ?_)
    · skip
      have k_105 : ¬ (((Rw 17 ((feM Rw f 2).toInt).toNat).toInt) = (-2147483647)) := fun h => c_105 ((g_eq rfl (show ((-2147483647) : Int32).toInt = (-2147483647) from rfl)).mpr h)
      refine lv_aload_n hx hb dX9_ruledDay_112 rfl (lv_at hl 3 rfl) ?_
      refine lv_iload_n hx hb dX9_ruledDay_113 rfl (lv_at hl 4 rfl) ?_
      refine lv_iconst (v := 0) hx hb dX9_ruledDay_114 (by decide) ?_
      refine q_cPV X w (c_X9_ofFeast l D t b n σ0 I Rw a_f 0 f 0 e_f (show (0 : Int32).toInt = 0 from rfl) (by first | assumption | omega) (by first | assumption | omega)) v_X9_288 (k := 45) rfl rfl rfl ⟨Nat.le_of_ble_eq_true rfl, Nat.le_of_ble_eq_true rfl⟩ rfl hl.1 (Nat.le_of_ble_eq_true rfl) dX9_ruledDay_115 ⟨Nat.zero_le _, Nat.zero_le _⟩ (fun r_115 z_115 => ?_)
      refine lv_iconst (v := 2) hx hb dX9_ruledDay_118 (by decide) ?_
      refine lv_icmp_ne (tgt := 134) hx hb dX9_ruledDay_119 (by decide) (fun c_119 => ?_) (fun c_119 => ?_)
      · skip
        have k_119 : ¬ (((feM Rw f 0).toInt) = 2) := fun h => c_119 ((g_eq (congrArg Int32.toInt z_115) (show (2 : Int32).toInt = 2 from rfl)).mpr h)
        refine lv_aload_n hx hb dX9_ruledDay_134 rfl (lv_at hl 3 rfl) ?_
        refine lv_iload_n hx hb dX9_ruledDay_135 rfl (lv_at hl 4 rfl) ?_
        refine lv_iconst (v := 0) hx hb dX9_ruledDay_136 (by decide) ?_
        refine q_cPV X w (c_X9_ofFeast l D t b n σ0 I Rw a_f 0 f 0 e_f (show (0 : Int32).toInt = 0 from rfl) (by first | assumption | omega) (by first | assumption | omega)) v_X9_288 (k := 45) rfl rfl rfl ⟨Nat.le_of_ble_eq_true rfl, Nat.le_of_ble_eq_true rfl⟩ rfl hl.1 (Nat.le_of_ble_eq_true rfl) dX9_ruledDay_137 ⟨Nat.zero_le _, Nat.zero_le _⟩ (fun r_137 z_137 => ?_)
        refine lv_iconst (v := 3) hx hb dX9_ruledDay_140 (by decide) ?_
        refine lv_icmp_ne (tgt := 161) hx hb dX9_ruledDay_141 (by decide) (fun c_141 => ?_) (fun c_141 => ?_)
        · skip
          have k_141 : ¬ (((feM Rw f 0).toInt) = 3) := fun h => c_141 ((g_eq (congrArg Int32.toInt z_137) (show (3 : Int32).toInt = 3 from rfl)).mpr h)
          refine lv_aload_n hx hb dX9_ruledDay_161 rfl (lv_at hl 3 rfl) ?_
          refine lv_iload hx hb dX9_ruledDay_162 (lv_at hl 1 rfl) ?_
          refine lv_aload_n hx hb dX9_ruledDay_164 rfl (lv_at hl 3 rfl) ?_
          refine mg_feastDay X w dX9_ruledDay_165 ?_
          refine lv_iload_n hx hb dX9_ruledDay_168 rfl (lv_at hl 2 rfl) ?_
          refine ml_feastDay X w (g_in (congrArg Int32.toInt z_3) (by omega)) dX9_ruledDay_169 ?_
          refine q_topE (y := Rw 17 ((feM Rw f 2).toInt).toNat) (congrArg (Rw 17) (g_tn (congrArg Int32.toInt z_3))) ?_
          refine lv_iload hx hb dX9_ruledDay_170 (lv_at hl 0 rfl) ?_
          refine mm_cCI X w (c_X9_numberFrom l D t b n σ0 I Rw r_10 (Rw 17 ((feM Rw f 2).toInt).toNat) r_18 ((feM Rw f 3).toInt) ((Rw 17 ((feM Rw f 2).toInt).toNat).toInt) ((feM Rw f 4).toInt) (congrArg Int32.toInt z_10) rfl (congrArg Int32.toInt z_18) (by omega) (by exact h_2 _ (by omega) (by omega)) (by exact h_3 _ (by omega) (by omega)) (by omega)) v_X9_298 rfl rfl ⟨Nat.le_of_ble_eq_true rfl, Nat.le_of_ble_eq_true rfl⟩ rfl hl.1 (Nat.le_of_ble_eq_true rfl) dX9_ruledDay_172 ⟨Nat.zero_le _, Nat.zero_le _⟩ (fun r_172 I_172 H locs z_172 w => ?_)
          exact q_cret (post := (fun z n1 σ1 => n1 = n ∧ ∃ I1 R1, σ1 = mS t b σ0 I1 R1 ∧ R1 = Rw ∧ kpI [6, 7, 8] I I1 ∧ z.toInt = ruled (rowM Rw) (feM Rw) (fun j => (Rw 17 j.toNat).toInt) f yr)) X w dX9_ruledDay_175 (rfl) ⟨rfl, _, _, rfl, rfl, by exact ⟨z_172.1, by unfold ruled; rw [if_neg (by omega), if_neg k_105, if_neg k_119, if_neg k_141]; exact z_172.2⟩⟩
        · skip
          have k_141 : ((feM Rw f 0).toInt) = 3 := (g_eq (congrArg Int32.toInt z_137) (show (3 : Int32).toInt = 3 from rfl)).mp c_141
          refine lv_aload_n hx hb dX9_ruledDay_144 rfl (lv_at hl 3 rfl) ?_
          refine lv_iload hx hb dX9_ruledDay_145 (lv_at hl 1 rfl) ?_
          refine lv_aload_n hx hb dX9_ruledDay_147 rfl (lv_at hl 3 rfl) ?_
          refine mg_feastDay X w dX9_ruledDay_148 ?_
          refine lv_iload_n hx hb dX9_ruledDay_151 rfl (lv_at hl 2 rfl) ?_
          refine ml_feastDay X w (g_in (congrArg Int32.toInt z_3) (by omega)) dX9_ruledDay_152 ?_
          refine q_topE (y := Rw 17 ((feM Rw f 2).toInt).toNat) (congrArg (Rw 17) (g_tn (congrArg Int32.toInt z_3))) ?_
          refine lv_iload hx hb dX9_ruledDay_153 (lv_at hl 0 rfl) ?_
          refine q_cPV X w (c_X9_weekdayFrom l D t b n σ0 I Rw r_10 (Rw 17 ((feM Rw f 2).toInt).toNat) r_18 ((feM Rw f 3).toInt) ((Rw 17 ((feM Rw f 2).toInt).toNat).toInt) ((feM Rw f 4).toInt) (congrArg Int32.toInt z_10) rfl (congrArg Int32.toInt z_18) (by omega) (by exact h_2 _ (by omega) (by omega)) (by exact h_3 _ (by omega) (by omega)) (by omega) (by omega)) v_X9_295 (k := 45) rfl rfl rfl ⟨Nat.le_of_ble_eq_true rfl, Nat.le_of_ble_eq_true rfl⟩ rfl hl.1 (Nat.le_of_ble_eq_true rfl) dX9_ruledDay_155 ⟨Nat.zero_le _, Nat.zero_le _⟩ (fun r_155 z_155 => ?_)
          refine lv_goto (tgt := 175) hx hb dX9_ruledDay_158 (by decide) ?_
          exact q_cret (post := (fun z n1 σ1 => n1 = n ∧ ∃ I1 R1, σ1 = mS t b σ0 I1 R1 ∧ R1 = Rw ∧ kpI [6, 7, 8] I I1 ∧ z.toInt = ruled (rowM Rw) (feM Rw) (fun j => (Rw 17 j.toNat).toInt) f yr)) X w dX9_ruledDay_175 (rfl) ⟨rfl, _, _, rfl, rfl, by exact ⟨kpI.rf, by unfold ruled; rw [if_neg (by omega), if_neg k_105, if_neg k_119, if_pos k_141]; exact z_155⟩⟩
      · skip
        have k_119 : ((feM Rw f 0).toInt) = 2 := (g_eq (congrArg Int32.toInt z_115) (show (2 : Int32).toInt = 2 from rfl)).mp c_119
        refine lv_aload_n hx hb dX9_ruledDay_122 rfl (lv_at hl 3 rfl) ?_
        refine mg_feastDay X w dX9_ruledDay_123 ?_
        refine lv_iload_n hx hb dX9_ruledDay_126 rfl (lv_at hl 2 rfl) ?_
        refine ml_feastDay X w (g_in (congrArg Int32.toInt z_3) (by omega)) dX9_ruledDay_127 ?_
        refine q_topE (y := Rw 17 ((feM Rw f 2).toInt).toNat) (congrArg (Rw 17) (g_tn (congrArg Int32.toInt z_3))) ?_
        refine lv_iload hx hb dX9_ruledDay_128 (lv_at hl 1 rfl) ?_
        refine lv_iadd hx hb dX9_ruledDay_130 ?_
        refine lv_topi (fun x_130 e_130 => ?_)
        have p_130 : x_130.toInt = (((Rw 17 ((feM Rw f 2).toInt).toNat).toInt) + ((feM Rw f 3).toInt)) := by rw [e_130]; exact t_add rfl (congrArg Int32.toInt z_10) (by omega) (by omega)
        refine lv_goto (tgt := 175) hx hb dX9_ruledDay_131 (by decide) ?_
        exact q_cret (post := (fun z n1 σ1 => n1 = n ∧ ∃ I1 R1, σ1 = mS t b σ0 I1 R1 ∧ R1 = Rw ∧ kpI [6, 7, 8] I I1 ∧ z.toInt = ruled (rowM Rw) (feM Rw) (fun j => (Rw 17 j.toNat).toInt) f yr)) X w dX9_ruledDay_175 (rfl) ⟨rfl, _, _, rfl, rfl, by exact ⟨kpI.rf, by unfold ruled; rw [if_neg (by omega), if_neg k_105, if_pos k_119]; exact p_130⟩⟩
    · skip
      have k_105 : ((Rw 17 ((feM Rw f 2).toInt).toNat).toInt) = (-2147483647) := (g_eq rfl (show ((-2147483647) : Int32).toInt = (-2147483647) from rfl)).mp c_105
      refine lv_ldcw hx hb X.2.2.2.1 (X.2.2.1 _ kc_X9_259) dX9_ruledDay_108 ?_
      exact q_cret (post := (fun z n1 σ1 => n1 = n ∧ ∃ I1 R1, σ1 = mS t b σ0 I1 R1 ∧ R1 = Rw ∧ kpI [6, 7, 8] I I1 ∧ z.toInt = ruled (rowM Rw) (feM Rw) (fun j => (Rw 17 j.toNat).toInt) f yr)) X w dX9_ruledDay_111 (rfl) ⟨rfl, _, _, rfl, rfl, by exact ⟨kpI.rf, by unfold ruled; rw [if_neg (by omega), if_pos k_105]; rfl⟩⟩
  · skip
    have k_30 : ¬ (2 ≤ ((feM Rw f 0).toInt)) := fun h => c_30 ((g_le (show (2 : Int32).toInt = 2 from rfl) (congrArg Int32.toInt z_26)).mpr h)
    have hmc := mcnt_bd (h_2 (feM Rw f 2).toInt (by omega) (by omega)) yr
    refine lv_iload hx hb dX9_ruledDay_33 (lv_at hl 1 rfl) ?_
    refine lv_aload_n hx hb dX9_ruledDay_35 rfl (lv_at hl 3 rfl) ?_
    refine lv_iload_n hx hb dX9_ruledDay_36 rfl (lv_at hl 2 rfl) ?_
    refine lv_iload_n hx hb dX9_ruledDay_37 rfl (lv_at hl 5 rfl) ?_
    refine q_cPV X w (c_X9_monthsOf l D t b n σ0 I Rw r_3 a_yr ((feM Rw f 2).toInt) yr (congrArg Int32.toInt z_3) e_yr (by omega) (by exact h_2 _ (by omega) (by omega))) v_X9_114 (k := 45) rfl rfl rfl ⟨Nat.le_of_ble_eq_true rfl, Nat.le_of_ble_eq_true rfl⟩ rfl hl.1 (Nat.le_of_ble_eq_true rfl) dX9_ruledDay_38 ⟨Nat.zero_le _, Nat.zero_le _⟩ (fun r_38 z_38 => ?_)
    refine lv_icmp_ge (tgt := 49) hx hb dX9_ruledDay_41 (by decide) (fun c_41 => ?_) (fun c_41 => ?_)
    · skip
      have k_41 : (mcnt (rowM Rw ((feM Rw f 2).toInt)) yr) ≤ ((feM Rw f 3).toInt) := (g_le z_38 (congrArg Int32.toInt z_10)).mp c_41
      refine lv_aload_n hx hb dX9_ruledDay_49 rfl (lv_at hl 3 rfl) ?_
      refine lv_iload_n hx hb dX9_ruledDay_50 rfl (lv_at hl 2 rfl) ?_
      refine lv_iload_n hx hb dX9_ruledDay_51 rfl (lv_at hl 5 rfl) ?_
      refine q_cPV X w (c_X9_monthsOf l D t b n σ0 I Rw r_3 a_yr ((feM Rw f 2).toInt) yr (congrArg Int32.toInt z_3) e_yr (by omega) (by exact h_2 _ (by omega) (by omega))) v_X9_114 (k := 45) rfl rfl rfl ⟨Nat.le_of_ble_eq_true rfl, Nat.le_of_ble_eq_true rfl⟩ rfl hl.1 (Nat.le_of_ble_eq_true rfl) dX9_ruledDay_52 ⟨Nat.zero_le _, Nat.zero_le _⟩ (fun r_52 z_52 => ?_)
      refine lv_istore (lv' := [(6, .int r_52), (5, .int r_18), (4, .int r_10), (3, .int r_3), (0, .ref (b + 45)), (1, .int a_f), (2, .int a_yr)]) hx hb dX9_ruledDay_55 hl (by decide) rfl (fun ls hl => ?_)
      refine lv_aload_n hx hb dX9_ruledDay_57 rfl (lv_at hl 4 rfl) ?_
      refine lv_iload_n hx hb dX9_ruledDay_58 rfl (lv_at hl 5 rfl) ?_
      refine lv_iconst (v := 0) hx hb dX9_ruledDay_59 (by decide) ?_
      refine q_cPV X w (c_X9_ofFeast l D t b n σ0 I Rw a_f 0 f 0 e_f (show (0 : Int32).toInt = 0 from rfl) (by first | assumption | omega) (by first | assumption | omega)) v_X9_288 (k := 45) rfl rfl rfl ⟨Nat.le_of_ble_eq_true rfl, Nat.le_of_ble_eq_true rfl⟩ rfl hl.1 (Nat.le_of_ble_eq_true rfl) dX9_ruledDay_60 ⟨Nat.zero_le _, Nat.zero_le _⟩ (fun r_60 z_60 => ?_)
      refine lv_if_ne (tgt := 79) hx hb dX9_ruledDay_63 (by decide) (fun c_63 => ?_) (fun c_63 => ?_)
      · skip
        have k_63 : ¬ (((feM Rw f 0).toInt) = 0) := fun h => c_63 ((g_eq (congrArg Int32.toInt z_60) (show (0 : Int32).toInt = 0 from rfl)).mpr h)
        refine lv_aload_n hx hb dX9_ruledDay_79 rfl (lv_at hl 4 rfl) ?_
        refine lv_iload_n hx hb dX9_ruledDay_80 rfl (lv_at hl 3 rfl) ?_
        refine lv_iload_n hx hb dX9_ruledDay_81 rfl (lv_at hl 6 rfl) ?_
        refine lv_iload hx hb dX9_ruledDay_82 (lv_at hl 0 rfl) ?_
        refine lv_iload hx hb dX9_ruledDay_84 (lv_at hl 1 rfl) ?_
        refine lv_aload_n hx hb dX9_ruledDay_86 rfl (lv_at hl 4 rfl) ?_
        refine lv_iload_n hx hb dX9_ruledDay_87 rfl (lv_at hl 5 rfl) ?_
        refine lv_iconst (v := 5) hx hb dX9_ruledDay_88 (by decide) ?_
        refine q_cPV X w (c_X9_ofFeast l D t b n σ0 I Rw a_f 5 f 5 e_f (show (5 : Int32).toInt = 5 from rfl) (by first | assumption | omega) (by first | assumption | omega)) v_X9_288 (k := 45) rfl rfl rfl ⟨Nat.le_of_ble_eq_true rfl, Nat.le_of_ble_eq_true rfl⟩ rfl hl.1 (Nat.le_of_ble_eq_true rfl) dX9_ruledDay_89 ⟨Nat.zero_le _, Nat.zero_le _⟩ (fun r_89 z_89 => ?_)
        refine q_cPV X w (c_X9_weekdayIn l D t b n σ0 I Rw r_3 a_yr r_52 r_18 r_89 ((feM Rw f 2).toInt) yr (mcnt (rowM Rw ((feM Rw f 2).toInt)) yr) ((feM Rw f 4).toInt) ((feM Rw f 5).toInt) (congrArg Int32.toInt z_3) e_yr z_52 (congrArg Int32.toInt z_18) (congrArg Int32.toInt z_89) (by omega) (by exact h_2 _ (by omega) (by omega)) (by exact h_3 _ (by omega) (by omega)) (by omega) (by omega) (by omega) (by omega)) v_X9_291 (k := 45) rfl rfl rfl ⟨Nat.le_of_ble_eq_true rfl, Nat.le_of_ble_eq_true rfl⟩ rfl hl.1 (Nat.le_of_ble_eq_true rfl) dX9_ruledDay_92 ⟨Nat.zero_le _, Nat.zero_le _⟩ (fun r_92 z_92 => ?_)
        exact q_cret (post := (fun z n1 σ1 => n1 = n ∧ ∃ I1 R1, σ1 = mS t b σ0 I1 R1 ∧ R1 = Rw ∧ kpI [6, 7, 8] I I1 ∧ z.toInt = ruled (rowM Rw) (feM Rw) (fun j => (Rw 17 j.toNat).toInt) f yr)) X w dX9_ruledDay_95 (rfl) ⟨rfl, _, _, rfl, rfl, by exact ⟨kpI.rf, by unfold ruled; rw [if_pos (show (feM Rw f 0).toInt < 2 by omega), if_neg k_63, if_neg (show ¬ (feM Rw f 3).toInt < mcnt (rowM Rw (feM Rw f 2).toInt) yr by omega)]; exact z_92⟩⟩
      · skip
        have k_63 : ((feM Rw f 0).toInt) = 0 := (g_eq (congrArg Int32.toInt z_60) (show (0 : Int32).toInt = 0 from rfl)).mp c_63
        refine lv_aload_n hx hb dX9_ruledDay_66 rfl (lv_at hl 4 rfl) ?_
        refine lv_iload_n hx hb dX9_ruledDay_67 rfl (lv_at hl 3 rfl) ?_
        refine lv_iload_n hx hb dX9_ruledDay_68 rfl (lv_at hl 6 rfl) ?_
        refine lv_iload hx hb dX9_ruledDay_69 (lv_at hl 0 rfl) ?_
        refine lv_iload hx hb dX9_ruledDay_71 (lv_at hl 1 rfl) ?_
        refine q_cPV X w (c_X9_cutDate l D t b n σ0 I Rw r_3 a_yr r_52 r_18 ((feM Rw f 2).toInt) yr (mcnt (rowM Rw ((feM Rw f 2).toInt)) yr) ((feM Rw f 4).toInt) (congrArg Int32.toInt z_3) e_yr z_52 (congrArg Int32.toInt z_18) (by omega) (by exact h_2 _ (by omega) (by omega)) (by exact h_3 _ (by omega) (by omega)) (by intro _; omega) (by omega)) v_X9_260 (k := 45) rfl rfl rfl ⟨Nat.le_of_ble_eq_true rfl, Nat.le_of_ble_eq_true rfl⟩ rfl hl.1 (Nat.le_of_ble_eq_true rfl) dX9_ruledDay_73 ⟨Nat.zero_le _, Nat.zero_le _⟩ (fun r_73 z_73 => ?_)
        refine lv_goto (tgt := 95) hx hb dX9_ruledDay_76 (by decide) ?_
        exact q_cret (post := (fun z n1 σ1 => n1 = n ∧ ∃ I1 R1, σ1 = mS t b σ0 I1 R1 ∧ R1 = Rw ∧ kpI [6, 7, 8] I I1 ∧ z.toInt = ruled (rowM Rw) (feM Rw) (fun j => (Rw 17 j.toNat).toInt) f yr)) X w dX9_ruledDay_95 (rfl) ⟨rfl, _, _, rfl, rfl, by exact ⟨kpI.rf, by unfold ruled; rw [if_pos (show (feM Rw f 0).toInt < 2 by omega), if_pos k_63, if_neg (show ¬ (feM Rw f 3).toInt < mcnt (rowM Rw (feM Rw f 2).toInt) yr by omega)]; exact z_73⟩⟩
    · skip
      have k_41 : ¬ ((mcnt (rowM Rw ((feM Rw f 2).toInt)) yr) ≤ ((feM Rw f 3).toInt)) := fun h => c_41 ((g_le z_38 (congrArg Int32.toInt z_10)).mpr h)
      refine lv_iload hx hb dX9_ruledDay_44 (lv_at hl 1 rfl) ?_
      refine lv_goto (tgt := 55) hx hb dX9_ruledDay_46 (by decide) ?_
      refine lv_istore (lv' := [(6, .int r_10), (5, .int r_18), (4, .int r_10), (3, .int r_3), (0, .ref (b + 45)), (1, .int a_f), (2, .int a_yr)]) hx hb dX9_ruledDay_55 hl (by decide) rfl (fun ls hl => ?_)
      refine lv_aload_n hx hb dX9_ruledDay_57 rfl (lv_at hl 4 rfl) ?_
      refine lv_iload_n hx hb dX9_ruledDay_58 rfl (lv_at hl 5 rfl) ?_
      refine lv_iconst (v := 0) hx hb dX9_ruledDay_59 (by decide) ?_
      refine q_cPV X w (c_X9_ofFeast l D t b n σ0 I Rw a_f 0 f 0 e_f (show (0 : Int32).toInt = 0 from rfl) (by first | assumption | omega) (by first | assumption | omega)) v_X9_288 (k := 45) rfl rfl rfl ⟨Nat.le_of_ble_eq_true rfl, Nat.le_of_ble_eq_true rfl⟩ rfl hl.1 (Nat.le_of_ble_eq_true rfl) dX9_ruledDay_60 ⟨Nat.zero_le _, Nat.zero_le _⟩ (fun r_60 z_60 => ?_)
      refine lv_if_ne (tgt := 79) hx hb dX9_ruledDay_63 (by decide) (fun c_63 => ?_) (fun c_63 => ?_)
      · skip
        have k_63 : ¬ (((feM Rw f 0).toInt) = 0) := fun h => c_63 ((g_eq (congrArg Int32.toInt z_60) (show (0 : Int32).toInt = 0 from rfl)).mpr h)
        refine lv_aload_n hx hb dX9_ruledDay_79 rfl (lv_at hl 4 rfl) ?_
        refine lv_iload_n hx hb dX9_ruledDay_80 rfl (lv_at hl 3 rfl) ?_
        refine lv_iload_n hx hb dX9_ruledDay_81 rfl (lv_at hl 6 rfl) ?_
        refine lv_iload hx hb dX9_ruledDay_82 (lv_at hl 0 rfl) ?_
        refine lv_iload hx hb dX9_ruledDay_84 (lv_at hl 1 rfl) ?_
        refine lv_aload_n hx hb dX9_ruledDay_86 rfl (lv_at hl 4 rfl) ?_
        refine lv_iload_n hx hb dX9_ruledDay_87 rfl (lv_at hl 5 rfl) ?_
        refine lv_iconst (v := 5) hx hb dX9_ruledDay_88 (by decide) ?_
        refine q_cPV X w (c_X9_ofFeast l D t b n σ0 I Rw a_f 5 f 5 e_f (show (5 : Int32).toInt = 5 from rfl) (by first | assumption | omega) (by first | assumption | omega)) v_X9_288 (k := 45) rfl rfl rfl ⟨Nat.le_of_ble_eq_true rfl, Nat.le_of_ble_eq_true rfl⟩ rfl hl.1 (Nat.le_of_ble_eq_true rfl) dX9_ruledDay_89 ⟨Nat.zero_le _, Nat.zero_le _⟩ (fun r_89 z_89 => ?_)
        refine q_cPV X w (c_X9_weekdayIn l D t b n σ0 I Rw r_3 a_yr r_10 r_18 r_89 ((feM Rw f 2).toInt) yr ((feM Rw f 3).toInt) ((feM Rw f 4).toInt) ((feM Rw f 5).toInt) (congrArg Int32.toInt z_3) e_yr (congrArg Int32.toInt z_10) (congrArg Int32.toInt z_18) (congrArg Int32.toInt z_89) (by omega) (by exact h_2 _ (by omega) (by omega)) (by exact h_3 _ (by omega) (by omega)) (by omega) (by omega) (by omega) (by omega)) v_X9_291 (k := 45) rfl rfl rfl ⟨Nat.le_of_ble_eq_true rfl, Nat.le_of_ble_eq_true rfl⟩ rfl hl.1 (Nat.le_of_ble_eq_true rfl) dX9_ruledDay_92 ⟨Nat.zero_le _, Nat.zero_le _⟩ (fun r_92 z_92 => ?_)
        exact q_cret (post := (fun z n1 σ1 => n1 = n ∧ ∃ I1 R1, σ1 = mS t b σ0 I1 R1 ∧ R1 = Rw ∧ kpI [6, 7, 8] I I1 ∧ z.toInt = ruled (rowM Rw) (feM Rw) (fun j => (Rw 17 j.toNat).toInt) f yr)) X w dX9_ruledDay_95 (rfl) ⟨rfl, _, _, rfl, rfl, by exact ⟨kpI.rf, by unfold ruled; rw [if_pos (show (feM Rw f 0).toInt < 2 by omega), if_neg k_63, if_pos (show (feM Rw f 3).toInt < mcnt (rowM Rw (feM Rw f 2).toInt) yr by omega)]; exact z_92⟩⟩
      · skip
        have k_63 : ((feM Rw f 0).toInt) = 0 := (g_eq (congrArg Int32.toInt z_60) (show (0 : Int32).toInt = 0 from rfl)).mp c_63
        refine lv_aload_n hx hb dX9_ruledDay_66 rfl (lv_at hl 4 rfl) ?_
        refine lv_iload_n hx hb dX9_ruledDay_67 rfl (lv_at hl 3 rfl) ?_
        refine lv_iload_n hx hb dX9_ruledDay_68 rfl (lv_at hl 6 rfl) ?_
        refine lv_iload hx hb dX9_ruledDay_69 (lv_at hl 0 rfl) ?_
        refine lv_iload hx hb dX9_ruledDay_71 (lv_at hl 1 rfl) ?_
        refine q_cPV X w (c_X9_cutDate l D t b n σ0 I Rw r_3 a_yr r_10 r_18 ((feM Rw f 2).toInt) yr ((feM Rw f 3).toInt) ((feM Rw f 4).toInt) (congrArg Int32.toInt z_3) e_yr (congrArg Int32.toInt z_10) (congrArg Int32.toInt z_18) (by omega) (by exact h_2 _ (by omega) (by omega)) (by exact h_3 _ (by omega) (by omega)) (by intro _; omega) (by omega)) v_X9_260 (k := 45) rfl rfl rfl ⟨Nat.le_of_ble_eq_true rfl, Nat.le_of_ble_eq_true rfl⟩ rfl hl.1 (Nat.le_of_ble_eq_true rfl) dX9_ruledDay_73 ⟨Nat.zero_le _, Nat.zero_le _⟩ (fun r_73 z_73 => ?_)
        refine lv_goto (tgt := 95) hx hb dX9_ruledDay_76 (by decide) ?_
        exact q_cret (post := (fun z n1 σ1 => n1 = n ∧ ∃ I1 R1, σ1 = mS t b σ0 I1 R1 ∧ R1 = Rw ∧ kpI [6, 7, 8] I I1 ∧ z.toInt = ruled (rowM Rw) (feM Rw) (fun j => (Rw 17 j.toNat).toInt) f yr)) X w dX9_ruledDay_95 (rfl) ⟨rfl, _, _, rfl, rfl, by exact ⟨kpI.rf, by unfold ruled; rw [if_pos (show (feM Rw f 0).toInt < 2 by omega), if_pos k_63, if_pos (show (feM Rw f 3).toInt < mcnt (rowM Rw (feM Rw f 2).toInt) yr by omega)]; exact z_73⟩⟩
