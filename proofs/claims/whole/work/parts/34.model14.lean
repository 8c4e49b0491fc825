set_option maxHeartbeats 4000000 in
set_option maxRecDepth 100000 in
theorem c_X9_isPossible (l : Launch) (D : va_G) (t : Nat → ClassId) (b n : Nat) (σ0 : qM) (I : Nat → Int32) (Rw : Nat → Nat → Int32) (gg : Bool) (h_1 : 1 ≤ rv (rowR Rw) 0 ∧ rv (rowR Rw) 0 ≤ 14) (h_2 : I 14 = bI gg) : qP l yX9_isPossible cX9_isPossible 4 (some .boolean) 2 D t b n (mS t b σ0 I Rw) [.ref (b + 45)] (fun z => z = bI (decide (possB (rowR Rw) gg = true))) := by
  refine qP.of (by decide +kernel) (Nat.le_of_ble_eq_true rfl) (fun p e s m args below meth c X w ls hl => ?_)
  have hx := X.1
  have hb := X.2.1
  have hl : lv_has ls 4 [(0, .ref (b + 45))] := hl
  refine lv_aload_n hx hb dX9_isPossible_0 rfl (lv_at hl 0 rfl) ?_
  refine mg_read X w dX9_isPossible_1 ?_
  refine lv_iconst (v := 0) hx hb dX9_isPossible_4 (by decide) ?_
  refine ml_read X w (g_in (show (0 : Int32).toInt = 0 from rfl) (by omega)) dX9_isPossible_5 ?_
  refine q_topE (y := Rw 3 (0 : Int).toNat) (congrArg (Rw 3) (g_tn (show (0 : Int32).toInt = 0 from rfl))) ?_
  have y_5 : Rw 3 ((0 : Int)).toNat = rowR Rw 0 := (rowR_eq (by omega)).symm
  refine lv_istore_n (lv' := [(1, .int (Rw 3 (0 : Int).toNat)), (0, .ref (b + 45))]) hx hb dX9_isPossible_6 rfl hl (by decide) rfl (fun ls hl => ?_)
  refine lv_iconst (v := 0) hx hb dX9_isPossible_7 (by decide) ?_
  refine lv_istore_n (lv' := [(2, .int 0), (1, .int (Rw 3 (0 : Int).toNat)), (0, .ref (b + 45))]) hx hb dX9_isPossible_8 rfl hl (by decide) rfl (fun ls hl => ?_)
  refine lv_iconst (v := 0) hx hb dX9_isPossible_9 (by decide) ?_
  refine lv_istore_n (lv' := [(3, .int 0), (2, .int 0), (1, .int (Rw 3 (0 : Int).toNat)), (0, .ref (b + 45))]) hx hb dX9_isPossible_10 rfl hl (by decide) rfl (fun ls hl => ?_)
  refine q_loop (α := Int32 × Int32 × Int × Int) (fun a => a.1.toInt = a.2.2.1 ∧ a.2.1.toInt = a.2.2.2 ∧ ((0 ≤ a.2.2.2 ∧ a.2.2.2 ≤ rv (rowR Rw) 0) ∧ a.2.2.1 = sumL (rowR Rw) a.2.2.2.toNat ∧ (0 ≤ a.2.2.1 ∧ a.2.2.1 ≤ 60 * a.2.2.2) ∧ ∀ j : Int, 0 ≤ j → j < a.2.2.2 → 1 ≤ rv (rowR Rw) (1 + j) ∧ rv (rowR Rw) (1 + j) ≤ 60)) (fun a => (14 - a.2.2.2).toNat) (fun a => ∀ ls : Array Slot, lv_has ls 4 [(3, .int a.2.1), (2, .int a.1), (1, .int (Rw 3 (0 : Int).toNat)), (0, .ref (b + 45))] → W p l e (qR 2 0 0) s m args below meth c s.heap [] 0 0 (MQ below (vp_Si (fun z => z = bI (decide (possB (rowR Rw) gg = true)))) args s 0 0 (fun _ => False)) (F0 m 11 ls [])) ?_ ⟨0, 0, 0, 0⟩ ⟨(show (0 : Int32).toInt = 0 from rfl), (show (0 : Int32).toInt = 0 from rfl), by dsimp only; exact ⟨by omega, rfl, by omega, fun j a b => by omega⟩⟩ ls (lv_sub hl [0, 1, 2, 3] rfl)
  rintro ⟨v_sm, v_k, sm, k⟩ ⟨q_sm, q_k, inv_11⟩ ih_11 ls hl
  dsimp only at q_sm q_k inv_11 hl
  refine lv_iload_n hx hb dX9_isPossible_11 rfl (lv_at hl 0 rfl) ?_
  refine lv_iload_n hx hb dX9_isPossible_12 rfl (lv_at hl 2 rfl) ?_
  refine lv_icmp_ge (tgt := 52) hx hb dX9_isPossible_13 (by decide) (fun c_13 => ?_) (fun c_13 => ?_)
  · skip
    have k_13 : (rv (rowR Rw) 0) ≤ k := (g_le (congrArg Int32.toInt y_5) q_k).mp c_13
    refine lv_iload_n hx hb dX9_isPossible_52 rfl (lv_at hl 1 rfl) ?_
    refine lv_bipush (v := 30) hx hb dX9_isPossible_53 (by decide) ?_
    refine lv_icmp_ge (tgt := 60) hx hb dX9_isPossible_55 (by decide) (fun c_55 => ?_) (fun c_55 => ?_)
    · skip
      have k_55 : 30 ≤ sm := (g_le (show (30 : Int32).toInt = 30 from rfl) q_sm).mp c_55
      have hL : ∀ j : Int, 0 ≤ j → j < rv (rowR Rw) 0 → 1 ≤ rv (rowR Rw) (1 + j) ∧ rv (rowR Rw) (1 + j) ≤ 60 := fun j a1 a2 => inv_11.2.2.2 j a1 (by omega)
      have hS : 30 ≤ sumL (rowR Rw) (rv (rowR Rw) 0).toNat := by rw [show rv (rowR Rw) 0 = k by omega]; omega
      refine lv_aload_n hx hb dX9_isPossible_60 rfl (lv_at hl 3 rfl) ?_
      refine mg_read X w dX9_isPossible_61 ?_
      refine lv_bipush (v := 15) hx hb dX9_isPossible_64 (by decide) ?_
      refine ml_read X w (g_in (show (15 : Int32).toInt = 15 from rfl) (by omega)) dX9_isPossible_66 ?_
      refine q_topE (y := Rw 3 (15 : Int).toNat) (congrArg (Rw 3) (g_tn (show (15 : Int32).toInt = 15 from rfl))) ?_
      have y_66 : Rw 3 ((15 : Int)).toNat = rowR Rw 15 := (rowR_eq (by omega)).symm
      refine lv_ldc hx hb X.2.2.2.1 (X.2.2.1 _ kc_X9_206) dX9_isPossible_67 ?_
      refine lv_ldc hx hb X.2.2.2.1 (X.2.2.1 _ kc_X9_207) dX9_isPossible_69 ?_
      refine q_cPS X w (c_X9_isBetween l (Rw 3 (15 : Int).toNat) (-500000) 500000 (rv (rowR Rw) 15) (-500000) 500000 (congrArg Int32.toInt y_66) (show ((-500000) : Int32).toInt = (-500000) from rfl) (show (500000 : Int32).toInt = 500000 from rfl) D t b n (mS t b σ0 I Rw)) v_X9_70 rfl ⟨Nat.le_of_ble_eq_true rfl, Nat.le_of_ble_eq_true rfl⟩ rfl hl.1 (Nat.le_of_ble_eq_true rfl) dX9_isPossible_71 ⟨Nat.zero_le _, Nat.zero_le _⟩ (fun r_71 z_71 => ?_)
      refine lv_if_ne (tgt := 79) hx hb dX9_isPossible_74 (by decide) (fun c_74 => ?_) (fun c_74 => ?_)
      · skip
        rw [z_71] at c_74
        have k_74 := bI_t.mp c_74
        refine lv_aload_n hx hb dX9_isPossible_79 rfl (lv_at hl 3 rfl) ?_
        refine mg_read X w dX9_isPossible_80 ?_
        refine lv_bipush (v := 16) hx hb dX9_isPossible_83 (by decide) ?_
        refine ml_read X w (g_in (show (16 : Int32).toInt = 16 from rfl) (by omega)) dX9_isPossible_85 ?_
        refine q_topE (y := Rw 3 (16 : Int).toNat) (congrArg (Rw 3) (g_tn (show (16 : Int32).toInt = 16 from rfl))) ?_
        have y_85 : Rw 3 ((16 : Int)).toNat = rowR Rw 16 := (rowR_eq (by omega)).symm
        refine lv_if_eq (tgt := 106) hx hb dX9_isPossible_86 (by decide) (fun c_86 => ?_) (fun c_86 => ?_)
        · skip
          have k_86 : (rv (rowR Rw) 16) = 0 := (g_eq (congrArg Int32.toInt y_85) (show (0 : Int32).toInt = 0 from rfl)).mp c_86
          refine lv_aload_n hx hb dX9_isPossible_106 rfl (lv_at hl 3 rfl) ?_
          refine mg_read X w dX9_isPossible_107 ?_
          refine lv_bipush (v := 16) hx hb dX9_isPossible_110 (by decide) ?_
          refine ml_read X w (g_in (show (16 : Int32).toInt = 16 from rfl) (by omega)) dX9_isPossible_112 ?_
          refine q_topE (y := Rw 3 (16 : Int).toNat) (congrArg (Rw 3) (g_tn (show (16 : Int32).toInt = 16 from rfl))) ?_
          have y_112 : Rw 3 ((16 : Int)).toNat = rowR Rw 16 := (rowR_eq (by omega)).symm
          refine lv_iconst (v := 2) hx hb dX9_isPossible_113 (by decide) ?_
          refine lv_icmp_ne (tgt := 135) hx hb dX9_isPossible_114 (by decide) (fun c_114 => ?_) (fun c_114 => ?_)
          · skip
            have k_114 : ¬ ((rv (rowR Rw) 16) = 2) := fun h => c_114 ((g_eq (congrArg Int32.toInt y_112) (show (2 : Int32).toInt = 2 from rfl)).mpr h)
            refine lv_iconst (v := 0) hx hb dX9_isPossible_135 (by decide) ?_
            refine lv_istore_n (lv' := [(3, .int 0), (2, .int v_sm), (1, .int (Rw 3 (0 : Int).toNat)), (0, .ref (b + 45))]) hx hb dX9_isPossible_136 rfl hl (by decide) rfl (fun ls hl => ?_)
            refine q_loop (α := Int32 × Int) (fun a => a.1.toInt = a.2 ∧ ((0 ≤ a.2 ∧ a.2 ≤ 4) ∧ ∀ j : Int, 0 ≤ j → j < a.2 → rv (rowR Rw) (24 + j) ≠ 0 → 1 ≤ rv (rowR Rw) (20 + j) ∧ rv (rowR Rw) (20 + j) ≤ 400)) (fun a => (4 - a.2).toNat) (fun a => ∀ ls : Array Slot, lv_has ls 4 [(3, .int a.1), (2, .int v_sm), (1, .int (Rw 3 (0 : Int).toNat)), (0, .ref (b + 45))] → W p l e (qR 2 0 0) s m args below meth c s.heap [] 0 0 (MQ below (vp_Si (fun z => z = bI (decide (possB (rowR Rw) gg = true)))) args s 0 0 (fun _ => False)) (F0 m 137 ls [])) ?_ ⟨0, 0⟩ ⟨(show (0 : Int32).toInt = 0 from rfl), by dsimp only; exact ⟨by omega, fun j a b => by omega⟩⟩ ls (lv_sub hl [0, 1, 2, 3] rfl)
            rintro ⟨v_k, k⟩ ⟨q_k, inv_137⟩ ih_137 ls hl
            dsimp only at q_k inv_137 hl
            refine lv_iload_n hx hb dX9_isPossible_137 rfl (lv_at hl 0 rfl) ?_
            refine lv_iconst (v := 4) hx hb dX9_isPossible_138 (by decide) ?_
            refine lv_icmp_ge (tgt := 181) hx hb dX9_isPossible_139 (by decide) (fun c_139 => ?_) (fun c_139 => ?_)
            · skip
              have k_139 : 4 ≤ k := (g_le (show (4 : Int32).toInt = 4 from rfl) q_k).mp c_139
              have hD : ∀ j : Int, 0 ≤ j → j < 4 → rv (rowR Rw) (24 + j) ≠ 0 → 1 ≤ rv (rowR Rw) (20 + j) ∧ rv (rowR Rw) (20 + j) ≤ 400 := fun j a1 a2 => inv_137.2 j a1 (by omega)
              refine lv_aload_n hx hb dX9_isPossible_181 rfl (lv_at hl 3 rfl) ?_
              refine mg_read X w dX9_isPossible_182 ?_
              refine lv_bipush (v := 19) hx hb dX9_isPossible_185 (by decide) ?_
              refine ml_read X w (g_in (show (19 : Int32).toInt = 19 from rfl) (by omega)) dX9_isPossible_187 ?_
              refine q_topE (y := Rw 3 (19 : Int).toNat) (congrArg (Rw 3) (g_tn (show (19 : Int32).toInt = 19 from rfl))) ?_
              have y_187 : Rw 3 ((19 : Int)).toNat = rowR Rw 19 := (rowR_eq (by omega)).symm
              refine lv_iconst (v := 2) hx hb dX9_isPossible_188 (by decide) ?_
              refine lv_icmp_ne (tgt := 217) hx hb dX9_isPossible_189 (by decide) (fun c_189 => ?_) (fun c_189 => ?_)
              · skip
                have k_189 : ¬ ((rv (rowR Rw) 19) = 2) := fun h => c_189 ((g_eq (congrArg Int32.toInt y_187) (show (2 : Int32).toInt = 2 from rfl)).mpr h)
                refine lv_aload_n hx hb dX9_isPossible_217 rfl (lv_at hl 3 rfl) ?_
                refine mg_read X w dX9_isPossible_218 ?_
                refine lv_iconst (v := 0) hx hb dX9_isPossible_221 (by decide) ?_
                refine q_cPS X w (c_X9_repeats_read l D t b n σ0 I Rw 0 0 (show (0 : Int32).toInt = 0 from rfl) (by rfl) (by exact hD)) v_X9_208 rfl ⟨Nat.le_of_ble_eq_true rfl, Nat.le_of_ble_eq_true rfl⟩ rfl hl.1 (Nat.le_of_ble_eq_true rfl) dX9_isPossible_222 ⟨Nat.zero_le _, Nat.zero_le _⟩ (fun r_222 z_222 => ?_)
                refine lv_if_ne (tgt := 230) hx hb dX9_isPossible_225 (by decide) (fun c_225 => ?_) (fun c_225 => ?_)
                · skip
                  have k_225 : ¬ ((reps (rowR Rw)) = 0) := fun h => c_225 ((g_eq z_222 (show (0 : Int32).toInt = 0 from rfl)).mpr h)
                  refine lv_aload_n hx hb dX9_isPossible_230 rfl (lv_at hl 3 rfl) ?_
                  refine mg_read X w dX9_isPossible_231 ?_
                  refine lv_bipush (v := 30) hx hb dX9_isPossible_234 (by decide) ?_
                  refine ml_read X w (g_in (show (30 : Int32).toInt = 30 from rfl) (by omega)) dX9_isPossible_236 ?_
                  refine q_topE (y := Rw 3 (30 : Int).toNat) (congrArg (Rw 3) (g_tn (show (30 : Int32).toInt = 30 from rfl))) ?_
                  have y_236 : Rw 3 ((30 : Int)).toNat = rowR Rw 30 := (rowR_eq (by omega)).symm
                  refine lv_iconst (v := 2) hx hb dX9_isPossible_237 (by decide) ?_
                  refine lv_bipush (v := 10) hx hb dX9_isPossible_238 (by decide) ?_
                  refine q_cPS X w (c_X9_isBetween l (Rw 3 (30 : Int).toNat) 2 10 (rv (rowR Rw) 30) 2 10 (congrArg Int32.toInt y_236) (show (2 : Int32).toInt = 2 from rfl) (show (10 : Int32).toInt = 10 from rfl) D t b n (mS t b σ0 I Rw)) v_X9_70 rfl ⟨Nat.le_of_ble_eq_true rfl, Nat.le_of_ble_eq_true rfl⟩ rfl hl.1 (Nat.le_of_ble_eq_true rfl) dX9_isPossible_240 ⟨Nat.zero_le _, Nat.zero_le _⟩ (fun r_240 z_240 => ?_)
                  refine lv_if_eq (tgt := 288) hx hb dX9_isPossible_243 (by decide) (fun c_243 => ?_) (fun c_243 => ?_)
                  · skip
                    rw [z_240] at c_243
                    have k_243 := bI_f.mp c_243
                    refine lv_iconst (v := 0) hx hb dX9_isPossible_288 (by decide) ?_
                    exact q_pretz X w dX9_isPossible_289 (rfl) (by exact bI_0 (fun q => by have q := possB_iff.mp q; exact k_243 q.2.2.2.2.2.2.2.2.1))
                  · skip
                    rw [z_240] at c_243
                    have k_243 := bI_t.mp c_243
                    refine lv_aload_n hx hb dX9_isPossible_246 rfl (lv_at hl 3 rfl) ?_
                    refine mg_read X w dX9_isPossible_247 ?_
                    refine lv_bipush (v := 31) hx hb dX9_isPossible_250 (by decide) ?_
                    refine ml_read X w (g_in (show (31 : Int32).toInt = 31 from rfl) (by omega)) dX9_isPossible_252 ?_
                    refine q_topE (y := Rw 3 (31 : Int).toNat) (congrArg (Rw 3) (g_tn (show (31 : Int32).toInt = 31 from rfl))) ?_
                    have y_252 : Rw 3 ((31 : Int)).toNat = rowR Rw 31 := (rowR_eq (by omega)).symm
                    refine lv_aload_n hx hb dX9_isPossible_253 rfl (lv_at hl 3 rfl) ?_
                    refine mg_read X w dX9_isPossible_254 ?_
                    refine lv_bipush (v := 30) hx hb dX9_isPossible_257 (by decide) ?_
                    refine ml_read X w (g_in (show (30 : Int32).toInt = 30 from rfl) (by omega)) dX9_isPossible_259 ?_
                    refine q_topE (y := Rw 3 (30 : Int).toNat) (congrArg (Rw 3) (g_tn (show (30 : Int32).toInt = 30 from rfl))) ?_
                    have y_259 : Rw 3 ((30 : Int)).toNat = rowR Rw 30 := (rowR_eq (by omega)).symm
                    refine lv_icmp_ge (tgt := 288) hx hb dX9_isPossible_260 (by decide) (fun c_260 => ?_) (fun c_260 => ?_)
                    · skip
                      have k_260 : (rv (rowR Rw) 30) ≤ (rv (rowR Rw) 31) := (g_le (congrArg Int32.toInt y_259) (congrArg Int32.toInt y_252)).mp c_260
                      refine lv_iconst (v := 0) hx hb dX9_isPossible_288 (by decide) ?_
                      exact q_pretz X w dX9_isPossible_289 (rfl) (by exact bI_0 (fun q => by have q := possB_iff.mp q; exact absurd q.2.2.2.2.2.2.2.2.2.1 (by omega)))
                    · skip
                      have k_260 : ¬ ((rv (rowR Rw) 30) ≤ (rv (rowR Rw) 31)) := fun h => c_260 ((g_le (congrArg Int32.toInt y_259) (congrArg Int32.toInt y_252)).mpr h)
                      refine lv_aload_n hx hb dX9_isPossible_263 rfl (lv_at hl 3 rfl) ?_
                      refine mg_read X w dX9_isPossible_264 ?_
                      refine lv_bipush (v := 32) hx hb dX9_isPossible_267 (by decide) ?_
                      refine ml_read X w (g_in (show (32 : Int32).toInt = 32 from rfl) (by omega)) dX9_isPossible_269 ?_
                      refine q_topE (y := Rw 3 (32 : Int).toNat) (congrArg (Rw 3) (g_tn (show (32 : Int32).toInt = 32 from rfl))) ?_
                      have y_269 : Rw 3 ((32 : Int)).toNat = rowR Rw 32 := (rowR_eq (by omega)).symm
                      refine lv_iconst (v := 1) hx hb dX9_isPossible_270 (by decide) ?_
                      refine lv_aload_n hx hb dX9_isPossible_271 rfl (lv_at hl 3 rfl) ?_
                      refine mg_read X w dX9_isPossible_272 ?_
                      refine lv_bipush (v := 30) hx hb dX9_isPossible_275 (by decide) ?_
                      refine ml_read X w (g_in (show (30 : Int32).toInt = 30 from rfl) (by omega)) dX9_isPossible_277 ?_
                      refine q_topE (y := Rw 3 (30 : Int).toNat) (congrArg (Rw 3) (g_tn (show (30 : Int32).toInt = 30 from rfl))) ?_
                      have y_277 : Rw 3 ((30 : Int)).toNat = rowR Rw 30 := (rowR_eq (by omega)).symm
                      refine q_cPS X w (c_X9_isBetween l (Rw 3 (32 : Int).toNat) 1 (Rw 3 (30 : Int).toNat) (rv (rowR Rw) 32) 1 (rv (rowR Rw) 30) (congrArg Int32.toInt y_269) (show (1 : Int32).toInt = 1 from rfl) (congrArg Int32.toInt y_277) D t b n (mS t b σ0 I Rw)) v_X9_70 rfl ⟨Nat.le_of_ble_eq_true rfl, Nat.le_of_ble_eq_true rfl⟩ rfl hl.1 (Nat.le_of_ble_eq_true rfl) dX9_isPossible_278 ⟨Nat.zero_le _, Nat.zero_le _⟩ (fun r_278 z_278 => ?_)
                      refine lv_if_eq (tgt := 288) hx hb dX9_isPossible_281 (by decide) (fun c_281 => ?_) (fun c_281 => ?_)
                      · skip
                        rw [z_278] at c_281
                        have k_281 := bI_f.mp c_281
                        refine lv_iconst (v := 0) hx hb dX9_isPossible_288 (by decide) ?_
                        exact q_pretz X w dX9_isPossible_289 (rfl) (by exact bI_0 (fun q => by have q := possB_iff.mp q; exact k_281 q.2.2.2.2.2.2.2.2.2.2))
                      · skip
                        rw [z_278] at c_281
                        have k_281 := bI_t.mp c_281
                        refine lv_iconst (v := 1) hx hb dX9_isPossible_284 (by decide) ?_
                        refine lv_goto (tgt := 289) hx hb dX9_isPossible_285 (by decide) ?_
                        exact q_pretz X w dX9_isPossible_289 (rfl) (by exact bI_1 (possB_iff.mpr ⟨hL, hS, k_74, fun q => absurd k_86 q, fun q => absurd q k_114, hD, fun q => absurd q k_189, k_225, k_243, by omega, k_281⟩))
                · skip
                  have k_225 : (reps (rowR Rw)) = 0 := (g_eq z_222 (show (0 : Int32).toInt = 0 from rfl)).mp c_225
                  refine lv_iconst (v := 0) hx hb dX9_isPossible_228 (by decide) ?_
                  exact q_pretz X w dX9_isPossible_229 (rfl) (by exact bI_0 (fun q => by have q := possB_iff.mp q; exact q.2.2.2.2.2.2.2.1 k_225))
              · skip
                have k_189 : (rv (rowR Rw) 19) = 2 := (g_eq (congrArg Int32.toInt y_187) (show (2 : Int32).toInt = 2 from rfl)).mp c_189
                refine lv_aload_n hx hb dX9_isPossible_192 rfl (lv_at hl 3 rfl) ?_
                refine mg_read X w dX9_isPossible_193 ?_
                refine lv_bipush (v := 28) hx hb dX9_isPossible_196 (by decide) ?_
                refine ml_read X w (g_in (show (28 : Int32).toInt = 28 from rfl) (by omega)) dX9_isPossible_198 ?_
                refine q_topE (y := Rw 3 (28 : Int).toNat) (congrArg (Rw 3) (g_tn (show (28 : Int32).toInt = 28 from rfl))) ?_
                have y_198 : Rw 3 ((28 : Int)).toNat = rowR Rw 28 := (rowR_eq (by omega)).symm
                refine lv_iconst (v := 1) hx hb dX9_isPossible_199 (by decide) ?_
                refine lv_bipush (v := 30) hx hb dX9_isPossible_200 (by decide) ?_
                refine q_cPS X w (c_X9_isBetween l (Rw 3 (28 : Int).toNat) 1 30 (rv (rowR Rw) 28) 1 30 (congrArg Int32.toInt y_198) (show (1 : Int32).toInt = 1 from rfl) (show (30 : Int32).toInt = 30 from rfl) D t b n (mS t b σ0 I Rw)) v_X9_70 rfl ⟨Nat.le_of_ble_eq_true rfl, Nat.le_of_ble_eq_true rfl⟩ rfl hl.1 (Nat.le_of_ble_eq_true rfl) dX9_isPossible_202 ⟨Nat.zero_le _, Nat.zero_le _⟩ (fun r_202 z_202 => ?_)
                refine lv_if_eq (tgt := 215) hx hb dX9_isPossible_205 (by decide) (fun c_205 => ?_) (fun c_205 => ?_)
                · skip
                  rw [z_202] at c_205
                  have k_205 := bI_f.mp c_205
                  refine lv_iconst (v := 0) hx hb dX9_isPossible_215 (by decide) ?_
                  exact q_pretz X w dX9_isPossible_216 (rfl) (by exact bI_0 (fun q => by have q := possB_iff.mp q; exact k_205 (q.2.2.2.2.2.2.1 k_189).1))
                · skip
                  rw [z_202] at c_205
                  have k_205 := bI_t.mp c_205
                  refine lv_aload_n hx hb dX9_isPossible_208 rfl (lv_at hl 3 rfl) ?_
                  refine mg_isTooGreat X w dX9_isPossible_209 ?_
                  refine lv_if_eq (tgt := 217) hx hb dX9_isPossible_212 (by decide) (fun c_212 => ?_) (fun c_212 => ?_)
                  · skip
                    have k_212 : ((I 14).toInt) = 0 := (g_eq rfl (show (0 : Int32).toInt = 0 from rfl)).mp c_212
                    refine lv_aload_n hx hb dX9_isPossible_217 rfl (lv_at hl 3 rfl) ?_
                    refine mg_read X w dX9_isPossible_218 ?_
                    refine lv_iconst (v := 0) hx hb dX9_isPossible_221 (by decide) ?_
                    refine q_cPS X w (c_X9_repeats_read l D t b n σ0 I Rw 0 0 (show (0 : Int32).toInt = 0 from rfl) (by rfl) (by exact hD)) v_X9_208 rfl ⟨Nat.le_of_ble_eq_true rfl, Nat.le_of_ble_eq_true rfl⟩ rfl hl.1 (Nat.le_of_ble_eq_true rfl) dX9_isPossible_222 ⟨Nat.zero_le _, Nat.zero_le _⟩ (fun r_222 z_222 => ?_)
                    refine lv_if_ne (tgt := 230) hx hb dX9_isPossible_225 (by decide) (fun c_225 => ?_) (fun c_225 => ?_)
                    · skip
                      have k_225 : ¬ ((reps (rowR Rw)) = 0) := fun h => c_225 ((g_eq z_222 (show (0 : Int32).toInt = 0 from rfl)).mpr h)
                      refine lv_aload_n hx hb dX9_isPossible_230 rfl (lv_at hl 3 rfl) ?_
                      refine mg_read X w dX9_isPossible_231 ?_
                      refine lv_bipush (v := 30) hx hb dX9_isPossible_234 (by decide) ?_
                      refine ml_read X w (g_in (show (30 : Int32).toInt = 30 from rfl) (by omega)) dX9_isPossible_236 ?_
                      refine q_topE (y := Rw 3 (30 : Int).toNat) (congrArg (Rw 3) (g_tn (show (30 : Int32).toInt = 30 from rfl))) ?_
                      have y_236 : Rw 3 ((30 : Int)).toNat = rowR Rw 30 := (rowR_eq (by omega)).symm
                      refine lv_iconst (v := 2) hx hb dX9_isPossible_237 (by decide) ?_
                      refine lv_bipush (v := 10) hx hb dX9_isPossible_238 (by decide) ?_
                      refine q_cPS X w (c_X9_isBetween l (Rw 3 (30 : Int).toNat) 2 10 (rv (rowR Rw) 30) 2 10 (congrArg Int32.toInt y_236) (show (2 : Int32).toInt = 2 from rfl) (show (10 : Int32).toInt = 10 from rfl) D t b n (mS t b σ0 I Rw)) v_X9_70 rfl ⟨Nat.le_of_ble_eq_true rfl, Nat.le_of_ble_eq_true rfl⟩ rfl hl.1 (Nat.le_of_ble_eq_true rfl) dX9_isPossible_240 ⟨Nat.zero_le _, Nat.zero_le _⟩ (fun r_240 z_240 => ?_)
                      refine lv_if_eq (tgt := 288) hx hb dX9_isPossible_243 (by decide) (fun c_243 => ?_) (fun c_243 => ?_)
                      · skip
                        rw [z_240] at c_243
                        have k_243 := bI_f.mp c_243
                        refine lv_iconst (v := 0) hx hb dX9_isPossible_288 (by decide) ?_
                        exact q_pretz X w dX9_isPossible_289 (rfl) (by exact bI_0 (fun q => by have q := possB_iff.mp q; exact k_243 q.2.2.2.2.2.2.2.2.1))
                      · skip
                        rw [z_240] at c_243
                        have k_243 := bI_t.mp c_243
                        refine lv_aload_n hx hb dX9_isPossible_246 rfl (lv_at hl 3 rfl) ?_
                        refine mg_read X w dX9_isPossible_247 ?_
                        refine lv_bipush (v := 31) hx hb dX9_isPossible_250 (by decide) ?_
                        refine ml_read X w (g_in (show (31 : Int32).toInt = 31 from rfl) (by omega)) dX9_isPossible_252 ?_
                        refine q_topE (y := Rw 3 (31 : Int).toNat) (congrArg (Rw 3) (g_tn (show (31 : Int32).toInt = 31 from rfl))) ?_
                        have y_252 : Rw 3 ((31 : Int)).toNat = rowR Rw 31 := (rowR_eq (by omega)).symm
                        refine lv_aload_n hx hb dX9_isPossible_253 rfl (lv_at hl 3 rfl) ?_
                        refine mg_read X w dX9_isPossible_254 ?_
                        refine lv_bipush (v := 30) hx hb dX9_isPossible_257 (by decide) ?_
                        refine ml_read X w (g_in (show (30 : Int32).toInt = 30 from rfl) (by omega)) dX9_isPossible_259 ?_
                        refine q_topE (y := Rw 3 (30 : Int).toNat) (congrArg (Rw 3) (g_tn (show (30 : Int32).toInt = 30 from rfl))) ?_
                        have y_259 : Rw 3 ((30 : Int)).toNat = rowR Rw 30 := (rowR_eq (by omega)).symm
                        refine lv_icmp_ge (tgt := 288) hx hb dX9_isPossible_260 (by decide) (fun c_260 => ?_) (fun c_260 => ?_)
                        · skip
                          have k_260 : (rv (rowR Rw) 30) ≤ (rv (rowR Rw) 31) := (g_le (congrArg Int32.toInt y_259) (congrArg Int32.toInt y_252)).mp c_260
                          refine lv_iconst (v := 0) hx hb dX9_isPossible_288 (by decide) ?_
                          exact q_pretz X w dX9_isPossible_289 (rfl) (by exact bI_0 (fun q => by have q := possB_iff.mp q; exact absurd q.2.2.2.2.2.2.2.2.2.1 (by omega)))
                        · skip
                          have k_260 : ¬ ((rv (rowR Rw) 30) ≤ (rv (rowR Rw) 31)) := fun h => c_260 ((g_le (congrArg Int32.toInt y_259) (congrArg Int32.toInt y_252)).mpr h)
                          refine lv_aload_n hx hb dX9_isPossible_263 rfl (lv_at hl 3 rfl) ?_
                          refine mg_read X w dX9_isPossible_264 ?_
                          refine lv_bipush (v := 32) hx hb dX9_isPossible_267 (by decide) ?_
                          refine ml_read X w (g_in (show (32 : Int32).toInt = 32 from rfl) (by omega)) dX9_isPossible_269 ?_
                          refine q_topE (y := Rw 3 (32 : Int).toNat) (congrArg (Rw 3) (g_tn (show (32 : Int32).toInt = 32 from rfl))) ?_
                          have y_269 : Rw 3 ((32 : Int)).toNat = rowR Rw 32 := (rowR_eq (by omega)).symm
                          refine lv_iconst (v := 1) hx hb dX9_isPossible_270 (by decide) ?_
                          refine lv_aload_n hx hb dX9_isPossible_271 rfl (lv_at hl 3 rfl) ?_
                          refine mg_read X w dX9_isPossible_272 ?_
                          refine lv_bipush (v := 30) hx hb dX9_isPossible_275 (by decide) ?_
                          refine ml_read X w (g_in (show (30 : Int32).toInt = 30 from rfl) (by omega)) dX9_isPossible_277 ?_
                          refine q_topE (y := Rw 3 (30 : Int).toNat) (congrArg (Rw 3) (g_tn (show (30 : Int32).toInt = 30 from rfl))) ?_
                          have y_277 : Rw 3 ((30 : Int)).toNat = rowR Rw 30 := (rowR_eq (by omega)).symm
                          refine q_cPS X w (c_X9_isBetween l (Rw 3 (32 : Int).toNat) 1 (Rw 3 (30 : Int).toNat) (rv (rowR Rw) 32) 1 (rv (rowR Rw) 30) (congrArg Int32.toInt y_269) (show (1 : Int32).toInt = 1 from rfl) (congrArg Int32.toInt y_277) D t b n (mS t b σ0 I Rw)) v_X9_70 rfl ⟨Nat.le_of_ble_eq_true rfl, Nat.le_of_ble_eq_true rfl⟩ rfl hl.1 (Nat.le_of_ble_eq_true rfl) dX9_isPossible_278 ⟨Nat.zero_le _, Nat.zero_le _⟩ (fun r_278 z_278 => ?_)
                          refine lv_if_eq (tgt := 288) hx hb dX9_isPossible_281 (by decide) (fun c_281 => ?_) (fun c_281 => ?_)
                          · skip
                            rw [z_278] at c_281
                            have k_281 := bI_f.mp c_281
                            refine lv_iconst (v := 0) hx hb dX9_isPossible_288 (by decide) ?_
                            exact q_pretz X w dX9_isPossible_289 (rfl) (by exact bI_0 (fun q => by have q := possB_iff.mp q; exact k_281 q.2.2.2.2.2.2.2.2.2.2))
                          · skip
                            rw [z_278] at c_281
                            have k_281 := bI_t.mp c_281
                            refine lv_iconst (v := 1) hx hb dX9_isPossible_284 (by decide) ?_
                            refine lv_goto (tgt := 289) hx hb dX9_isPossible_285 (by decide) ?_
                            exact q_pretz X w dX9_isPossible_289 (rfl) (by exact bI_1 (possB_iff.mpr ⟨hL, hS, k_74, fun q => absurd k_86 q, fun q => absurd q k_114, hD, fun _ => ⟨k_205, by cases gg with | false => rfl | true => exact absurd ((congrArg Int32.toInt h_2).symm.trans k_212) (by decide)⟩, k_225, k_243, by omega, k_281⟩))
                    · skip
                      have k_225 : (reps (rowR Rw)) = 0 := (g_eq z_222 (show (0 : Int32).toInt = 0 from rfl)).mp c_225
                      refine lv_iconst (v := 0) hx hb dX9_isPossible_228 (by decide) ?_
                      exact q_pretz X w dX9_isPossible_229 (rfl) (by exact bI_0 (fun q => by have q := possB_iff.mp q; exact q.2.2.2.2.2.2.2.1 k_225))
                  · skip
                    have k_212 : ¬ (((I 14).toInt) = 0) := fun h => c_212 ((g_eq rfl (show (0 : Int32).toInt = 0 from rfl)).mpr h)
                    refine lv_iconst (v := 0) hx hb dX9_isPossible_215 (by decide) ?_
                    exact q_pretz X w dX9_isPossible_216 (rfl) (by exact bI_0 (fun q => by have q := possB_iff.mp q; exact k_212 ((congrArg Int32.toInt h_2).trans (by rw [(q.2.2.2.2.2.2.1 k_189).2]; rfl))))
            · skip
              have k_139 : ¬ (4 ≤ k) := fun h => c_139 ((g_le (show (4 : Int32).toInt = 4 from rfl) q_k).mpr h)
              refine lv_aload_n hx hb dX9_isPossible_142 rfl (lv_at hl 3 rfl) ?_
              refine mg_read X w dX9_isPossible_143 ?_
              refine lv_bipush (v := 24) hx hb dX9_isPossible_146 (by decide) ?_
              refine lv_iload_n hx hb dX9_isPossible_148 rfl (lv_at hl 0 rfl) ?_
              refine lv_iadd hx hb dX9_isPossible_149 ?_
              refine lv_topi (fun x_149 e_149 => ?_)
              have p_149 : x_149.toInt = (24 + k) := by rw [e_149]; exact t_add (show (24 : Int32).toInt = 24 from rfl) q_k (by omega) (by omega)
              refine ml_read X w (g_in p_149 (by omega)) dX9_isPossible_150 ?_
              refine q_topE (y := Rw 3 (24 + k).toNat) (congrArg (Rw 3) (g_tn p_149)) ?_
              have y_150 : Rw 3 ((24 + k)).toNat = rowR Rw (24 + k) := (rowR_eq (by omega)).symm
              refine lv_if_eq (tgt := 175) hx hb dX9_isPossible_151 (by decide) (fun c_151 => ?_) (fun c_151 => ?_)
              · skip
                have k_151 : (rv (rowR Rw) (24 + k)) = 0 := (g_eq (congrArg Int32.toInt y_150) (show (0 : Int32).toInt = 0 from rfl)).mp c_151
                obtain ⟨x_175, e_175⟩ : ∃ z : Int32, z = (v_k + 1) := ⟨_, rfl⟩
                have p_175 : x_175.toInt = (k + 1) := by rw [e_175]; exact t_add q_k (show (1 : Int32).toInt = 1 from rfl) (by omega) (by omega)
                refine lv_iinc (v := x_175) (lv' := [(3, .int x_175), (2, .int v_sm), (1, .int (Rw 3 (0 : Int).toNat)), (0, .ref (b + 45))]) hx hb dX9_isPossible_175 hl (k := 0) rfl (by rw [e_175]; rfl) (by decide) rfl (fun ls hl => ?_)
                refine lv_goto (tgt := 137) hx hb dX9_isPossible_178 (by decide) ?_
                refine ih_137 ⟨x_175, (k + 1)⟩ ⟨p_175, by dsimp only; refine ⟨by omega, fun j a1 a2 => ?_⟩; rcases (show j < k ∨ j = k by omega) with z | z; exact inv_137.2 j a1 z; (rw [z]; exact fun y => absurd k_151 y)⟩ (by dsimp only; omega) ls (lv_sub hl [0, 1, 2, 3] rfl)
              · skip
                have k_151 : ¬ ((rv (rowR Rw) (24 + k)) = 0) := fun h => c_151 ((g_eq (congrArg Int32.toInt y_150) (show (0 : Int32).toInt = 0 from rfl)).mpr h)
                refine lv_aload_n hx hb dX9_isPossible_154 rfl (lv_at hl 3 rfl) ?_
                refine mg_read X w dX9_isPossible_155 ?_
                refine lv_bipush (v := 20) hx hb dX9_isPossible_158 (by decide) ?_
                refine lv_iload_n hx hb dX9_isPossible_160 rfl (lv_at hl 0 rfl) ?_
                refine lv_iadd hx hb dX9_isPossible_161 ?_
                refine lv_topi (fun x_161 e_161 => ?_)
                have p_161 : x_161.toInt = (20 + k) := by rw [e_161]; exact t_add (show (20 : Int32).toInt = 20 from rfl) q_k (by omega) (by omega)
                refine ml_read X w (g_in p_161 (by omega)) dX9_isPossible_162 ?_
                refine q_topE (y := Rw 3 (20 + k).toNat) (congrArg (Rw 3) (g_tn p_161)) ?_
                have y_162 : Rw 3 ((20 + k)).toNat = rowR Rw (20 + k) := (rowR_eq (by omega)).symm
                refine lv_iconst (v := 1) hx hb dX9_isPossible_163 (by decide) ?_
                refine lv_sipush (v := 400) hx hb dX9_isPossible_164 (by decide) ?_
                refine q_cPS X w (c_X9_isBetween l (Rw 3 (20 + k).toNat) 1 400 (rv (rowR Rw) (20 + k)) 1 400 (congrArg Int32.toInt y_162) (show (1 : Int32).toInt = 1 from rfl) (show (400 : Int32).toInt = 400 from rfl) D t b n (mS t b σ0 I Rw)) v_X9_70 rfl ⟨Nat.le_of_ble_eq_true rfl, Nat.le_of_ble_eq_true rfl⟩ rfl hl.1 (Nat.le_of_ble_eq_true rfl) dX9_isPossible_167 ⟨Nat.zero_le _, Nat.zero_le _⟩ (fun r_167 z_167 => ?_)
                refine lv_if_ne (tgt := 175) hx hb dX9_isPossible_170 (by decide) (fun c_170 => ?_) (fun c_170 => ?_)
                · skip
                  rw [z_167] at c_170
                  have k_170 := bI_t.mp c_170
                  obtain ⟨x_175, e_175⟩ : ∃ z : Int32, z = (v_k + 1) := ⟨_, rfl⟩
                  have p_175 : x_175.toInt = (k + 1) := by rw [e_175]; exact t_add q_k (show (1 : Int32).toInt = 1 from rfl) (by omega) (by omega)
                  refine lv_iinc (v := x_175) (lv' := [(3, .int x_175), (2, .int v_sm), (1, .int (Rw 3 (0 : Int).toNat)), (0, .ref (b + 45))]) hx hb dX9_isPossible_175 hl (k := 0) rfl (by rw [e_175]; rfl) (by decide) rfl (fun ls hl => ?_)
                  refine lv_goto (tgt := 137) hx hb dX9_isPossible_178 (by decide) ?_
                  refine ih_137 ⟨x_175, (k + 1)⟩ ⟨p_175, by dsimp only; refine ⟨by omega, fun j a1 a2 => ?_⟩; rcases (show j < k ∨ j = k by omega) with z | z; exact inv_137.2 j a1 z; (rw [z]; exact fun _ => k_170)⟩ (by dsimp only; omega) ls (lv_sub hl [0, 1, 2, 3] rfl)
                · skip
                  rw [z_167] at c_170
                  have k_170 := bI_f.mp c_170
                  refine lv_iconst (v := 0) hx hb dX9_isPossible_173 (by decide) ?_
                  exact q_pretz X w dX9_isPossible_174 (rfl) (by exact bI_0 (fun q => by have q := possB_iff.mp q; exact k_170 (q.2.2.2.2.2.1 k (by omega) (by omega) k_151)))
          · skip
            have k_114 : (rv (rowR Rw) 16) = 2 := (g_eq (congrArg Int32.toInt y_112) (show (2 : Int32).toInt = 2 from rfl)).mp c_114
            refine lv_aload_n hx hb dX9_isPossible_117 rfl (lv_at hl 3 rfl) ?_
            refine mg_read X w dX9_isPossible_118 ?_
            refine lv_bipush (v := 18) hx hb dX9_isPossible_121 (by decide) ?_
            refine ml_read X w (g_in (show (18 : Int32).toInt = 18 from rfl) (by omega)) dX9_isPossible_123 ?_
            refine q_topE (y := Rw 3 (18 : Int).toNat) (congrArg (Rw 3) (g_tn (show (18 : Int32).toInt = 18 from rfl))) ?_
            have y_123 : Rw 3 ((18 : Int)).toNat = rowR Rw 18 := (rowR_eq (by omega)).symm
            refine lv_iconst (v := 1) hx hb dX9_isPossible_124 (by decide) ?_
            refine lv_bipush (v := 60) hx hb dX9_isPossible_125 (by decide) ?_
            refine q_cPS X w (c_X9_isBetween l (Rw 3 (18 : Int).toNat) 1 60 (rv (rowR Rw) 18) 1 60 (congrArg Int32.toInt y_123) (show (1 : Int32).toInt = 1 from rfl) (show (60 : Int32).toInt = 60 from rfl) D t b n (mS t b σ0 I Rw)) v_X9_70 rfl ⟨Nat.le_of_ble_eq_true rfl, Nat.le_of_ble_eq_true rfl⟩ rfl hl.1 (Nat.le_of_ble_eq_true rfl) dX9_isPossible_127 ⟨Nat.zero_le _, Nat.zero_le _⟩ (fun r_127 z_127 => ?_)
            refine lv_if_ne (tgt := 135) hx hb dX9_isPossible_130 (by decide) (fun c_130 => ?_) (fun c_130 => ?_)
            · skip
              rw [z_127] at c_130
              have k_130 := bI_t.mp c_130
              refine lv_iconst (v := 0) hx hb dX9_isPossible_135 (by decide) ?_
              refine lv_istore_n (lv' := [(3, .int 0), (2, .int v_sm), (1, .int (Rw 3 (0 : Int).toNat)), (0, .ref (b + 45))]) hx hb dX9_isPossible_136 rfl hl (by decide) rfl (fun ls hl => ?_)
              refine q_loop (α := Int32 × Int) (fun a => a.1.toInt = a.2 ∧ ((0 ≤ a.2 ∧ a.2 ≤ 4) ∧ ∀ j : Int, 0 ≤ j → j < a.2 → rv (rowR Rw) (24 + j) ≠ 0 → 1 ≤ rv (rowR Rw) (20 + j) ∧ rv (rowR Rw) (20 + j) ≤ 400)) (fun a => (4 - a.2).toNat) (fun a => ∀ ls : Array Slot, lv_has ls 4 [(3, .int a.1), (2, .int v_sm), (1, .int (Rw 3 (0 : Int).toNat)), (0, .ref (b + 45))] → W p l e (qR 2 0 0) s m args below meth c s.heap [] 0 0 (MQ below (vp_Si (fun z => z = bI (decide (possB (rowR Rw) gg = true)))) args s 0 0 (fun _ => False)) (F0 m 137 ls [])) ?_ ⟨0, 0⟩ ⟨(show (0 : Int32).toInt = 0 from rfl), by dsimp only; exact ⟨by omega, fun j a b => by omega⟩⟩ ls (lv_sub hl [0, 1, 2, 3] rfl)
              rintro ⟨v_k, k⟩ ⟨q_k, inv_137⟩ ih_137 ls hl
              dsimp only at q_k inv_137 hl
              refine lv_iload_n hx hb dX9_isPossible_137 rfl (lv_at hl 0 rfl) ?_
              refine lv_iconst (v := 4) hx hb dX9_isPossible_138 (by decide) ?_
              refine lv_icmp_ge (tgt := 181) hx hb dX9_isPossible_139 (by decide) (fun c_139 => ?_) (fun c_139 => ?_)
              · skip
                have k_139 : 4 ≤ k := (g_le (show (4 : Int32).toInt = 4 from rfl) q_k).mp c_139
                have hD : ∀ j : Int, 0 ≤ j → j < 4 → rv (rowR Rw) (24 + j) ≠ 0 → 1 ≤ rv (rowR Rw) (20 + j) ∧ rv (rowR Rw) (20 + j) ≤ 400 := fun j a1 a2 => inv_137.2 j a1 (by omega)
                refine lv_aload_n hx hb dX9_isPossible_181 rfl (lv_at hl 3 rfl) ?_
                refine mg_read X w dX9_isPossible_182 ?_
                refine lv_bipush (v := 19) hx hb dX9_isPossible_185 (by decide) ?_
                refine ml_read X w (g_in (show (19 : Int32).toInt = 19 from rfl) (by omega)) dX9_isPossible_187 ?_
                refine q_topE (y := Rw 3 (19 : Int).toNat) (congrArg (Rw 3) (g_tn (show (19 : Int32).toInt = 19 from rfl))) ?_
                have y_187 : Rw 3 ((19 : Int)).toNat = rowR Rw 19 := (rowR_eq (by omega)).symm
                refine lv_iconst (v := 2) hx hb dX9_isPossible_188 (by decide) ?_
                refine lv_icmp_ne (tgt := 217) hx hb dX9_isPossible_189 (by decide) (fun c_189 => ?_) (fun c_189 => ?_)
                · skip
                  have k_189 : ¬ ((rv (rowR Rw) 19) = 2) := fun h => c_189 ((g_eq (congrArg Int32.toInt y_187) (show (2 : Int32).toInt = 2 from rfl)).mpr h)
                  refine lv_aload_n hx hb dX9_isPossible_217 rfl (lv_at hl 3 rfl) ?_
                  refine mg_read X w dX9_isPossible_218 ?_
                  refine lv_iconst (v := 0) hx hb dX9_isPossible_221 (by decide) ?_
                  refine q_cPS X w (c_X9_repeats_read l D t b n σ0 I Rw 0 0 (show (0 : Int32).toInt = 0 from rfl) (by rfl) (by exact hD)) v_X9_208 rfl ⟨Nat.le_of_ble_eq_true rfl, Nat.le_of_ble_eq_true rfl⟩ rfl hl.1 (Nat.le_of_ble_eq_true rfl) dX9_isPossible_222 ⟨Nat.zero_le _, Nat.zero_le _⟩ (fun r_222 z_222 => ?_)
                  refine lv_if_ne (tgt := 230) hx hb dX9_isPossible_225 (by decide) (fun c_225 => ?_) (fun c_225 => ?_)
                  · skip
                    have k_225 : ¬ ((reps (rowR Rw)) = 0) := fun h => c_225 ((g_eq z_222 (show (0 : Int32).toInt = 0 from rfl)).mpr h)
                    refine lv_aload_n hx hb dX9_isPossible_230 rfl (lv_at hl 3 rfl) ?_
                    refine mg_read X w dX9_isPossible_231 ?_
                    refine lv_bipush (v := 30) hx hb dX9_isPossible_234 (by decide) ?_
                    refine ml_read X w (g_in (show (30 : Int32).toInt = 30 from rfl) (by omega)) dX9_isPossible_236 ?_
                    refine q_topE (y := Rw 3 (30 : Int).toNat) (congrArg (Rw 3) (g_tn (show (30 : Int32).toInt = 30 from rfl))) ?_
                    have y_236 : Rw 3 ((30 : Int)).toNat = rowR Rw 30 := (rowR_eq (by omega)).symm
                    refine lv_iconst (v := 2) hx hb dX9_isPossible_237 (by decide) ?_
                    refine lv_bipush (v := 10) hx hb dX9_isPossible_238 (by decide) ?_
                    refine q_cPS X w (c_X9_isBetween l (Rw 3 (30 : Int).toNat) 2 10 (rv (rowR Rw) 30) 2 10 (congrArg Int32.toInt y_236) (show (2 : Int32).toInt = 2 from rfl) (show (10 : Int32).toInt = 10 from rfl) D t b n (mS t b σ0 I Rw)) v_X9_70 rfl ⟨Nat.le_of_ble_eq_true rfl, Nat.le_of_ble_eq_true rfl⟩ rfl hl.1 (Nat.le_of_ble_eq_true rfl) dX9_isPossible_240 ⟨Nat.zero_le _, Nat.zero_le _⟩ (fun r_240 z_240 => ?_)
                    refine lv_if_eq (tgt := 288) hx hb dX9_isPossible_243 (by decide) (fun c_243 => ?_) (fun c_243 => ?_)
                    · skip
                      rw [z_240] at c_243
                      have k_243 := bI_f.mp c_243
                      refine lv_iconst (v := 0) hx hb dX9_isPossible_288 (by decide) ?_
                      exact q_pretz X w dX9_isPossible_289 (rfl) (by exact bI_0 (fun q => by have q := possB_iff.mp q; exact k_243 q.2.2.2.2.2.2.2.2.1))
                    · skip
                      rw [z_240] at c_243
                      have k_243 := bI_t.mp c_243
                      refine lv_aload_n hx hb dX9_isPossible_246 rfl (lv_at hl 3 rfl) ?_
                      refine mg_read X w dX9_isPossible_247 ?_
                      refine lv_bipush (v := 31) hx hb dX9_isPossible_250 (by decide) ?_
                      refine ml_read X w (g_in (show (31 : Int32).toInt = 31 from rfl) (by omega)) dX9_isPossible_252 ?_
                      refine q_topE (y := Rw 3 (31 : Int).toNat) (congrArg (Rw 3) (g_tn (show (31 : Int32).toInt = 31 from rfl))) ?_
                      have y_252 : Rw 3 ((31 : Int)).toNat = rowR Rw 31 := (rowR_eq (by omega)).symm
                      refine lv_aload_n hx hb dX9_isPossible_253 rfl (lv_at hl 3 rfl) ?_
                      refine mg_read X w dX9_isPossible_254 ?_
                      refine lv_bipush (v := 30) hx hb dX9_isPossible_257 (by decide) ?_
                      refine ml_read X w (g_in (show (30 : Int32).toInt = 30 from rfl) (by omega)) dX9_isPossible_259 ?_
                      refine q_topE (y := Rw 3 (30 : Int).toNat) (congrArg (Rw 3) (g_tn (show (30 : Int32).toInt = 30 from rfl))) ?_
                      have y_259 : Rw 3 ((30 : Int)).toNat = rowR Rw 30 := (rowR_eq (by omega)).symm
                      refine lv_icmp_ge (tgt := 288) hx hb dX9_isPossible_260 (by decide) (fun c_260 => ?_) (fun c_260 => ?_)
                      · skip
                        have k_260 : (rv (rowR Rw) 30) ≤ (rv (rowR Rw) 31) := (g_le (congrArg Int32.toInt y_259) (congrArg Int32.toInt y_252)).mp c_260
                        refine lv_iconst (v := 0) hx hb dX9_isPossible_288 (by decide) ?_
                        exact q_pretz X w dX9_isPossible_289 (rfl) (by exact bI_0 (fun q => by have q := possB_iff.mp q; exact absurd q.2.2.2.2.2.2.2.2.2.1 (by omega)))
                      · skip
                        have k_260 : ¬ ((rv (rowR Rw) 30) ≤ (rv (rowR Rw) 31)) := fun h => c_260 ((g_le (congrArg Int32.toInt y_259) (congrArg Int32.toInt y_252)).mpr h)
                        refine lv_aload_n hx hb dX9_isPossible_263 rfl (lv_at hl 3 rfl) ?_
                        refine mg_read X w dX9_isPossible_264 ?_
                        refine lv_bipush (v := 32) hx hb dX9_isPossible_267 (by decide) ?_
                        refine ml_read X w (g_in (show (32 : Int32).toInt = 32 from rfl) (by omega)) dX9_isPossible_269 ?_
                        refine q_topE (y := Rw 3 (32 : Int).toNat) (congrArg (Rw 3) (g_tn (show (32 : Int32).toInt = 32 from rfl))) ?_
                        have y_269 : Rw 3 ((32 : Int)).toNat = rowR Rw 32 := (rowR_eq (by omega)).symm
                        refine lv_iconst (v := 1) hx hb dX9_isPossible_270 (by decide) ?_
                        refine lv_aload_n hx hb dX9_isPossible_271 rfl (lv_at hl 3 rfl) ?_
                        refine mg_read X w dX9_isPossible_272 ?_
                        refine lv_bipush (v := 30) hx hb dX9_isPossible_275 (by decide) ?_
                        refine ml_read X w (g_in (show (30 : Int32).toInt = 30 from rfl) (by omega)) dX9_isPossible_277 ?_
                        refine q_topE (y := Rw 3 (30 : Int).toNat) (congrArg (Rw 3) (g_tn (show (30 : Int32).toInt = 30 from rfl))) ?_
                        have y_277 : Rw 3 ((30 : Int)).toNat = rowR Rw 30 := (rowR_eq (by omega)).symm
                        refine q_cPS X w (c_X9_isBetween l (Rw 3 (32 : Int).toNat) 1 (Rw 3 (30 : Int).toNat) (rv (rowR Rw) 32) 1 (rv (rowR Rw) 30) (congrArg Int32.toInt y_269) (show (1 : Int32).toInt = 1 from rfl) (congrArg Int32.toInt y_277) D t b n (mS t b σ0 I Rw)) v_X9_70 rfl ⟨Nat.le_of_ble_eq_true rfl, Nat.le_of_ble_eq_true rfl⟩ rfl hl.1 (Nat.le_of_ble_eq_true rfl) dX9_isPossible_278 ⟨Nat.zero_le _, Nat.zero_le _⟩ (fun r_278 z_278 => ?_)
                        refine lv_if_eq (tgt := 288) hx hb dX9_isPossible_281 (by decide) (fun c_281 => ?_) (fun c_281 => ?_)
                        · skip
                          rw [z_278] at c_281
                          have k_281 := bI_f.mp c_281
                          refine lv_iconst (v := 0) hx hb dX9_isPossible_288 (by decide) ?_
                          exact q_pretz X w dX9_isPossible_289 (rfl) (by exact bI_0 (fun q => by have q := possB_iff.mp q; exact k_281 q.2.2.2.2.2.2.2.2.2.2))
                        · skip
                          rw [z_278] at c_281
                          have k_281 := bI_t.mp c_281
                          refine lv_iconst (v := 1) hx hb dX9_isPossible_284 (by decide) ?_
                          refine lv_goto (tgt := 289) hx hb dX9_isPossible_285 (by decide) ?_
                          exact q_pretz X w dX9_isPossible_289 (rfl) (by exact bI_1 (possB_iff.mpr ⟨hL, hS, k_74, fun q => absurd k_86 q, fun _ => k_130, hD, fun q => absurd q k_189, k_225, k_243, by omega, k_281⟩))
                  · skip
                    have k_225 : (reps (rowR Rw)) = 0 := (g_eq z_222 (show (0 : Int32).toInt = 0 from rfl)).mp c_225
                    refine lv_iconst (v := 0) hx hb dX9_isPossible_228 (by decide) ?_
                    exact q_pretz X w dX9_isPossible_229 (rfl) (by exact bI_0 (fun q => by have q := possB_iff.mp q; exact q.2.2.2.2.2.2.2.1 k_225))
                · skip
                  have k_189 : (rv (rowR Rw) 19) = 2 := (g_eq (congrArg Int32.toInt y_187) (show (2 : Int32).toInt = 2 from rfl)).mp c_189
                  refine lv_aload_n hx hb dX9_isPossible_192 rfl (lv_at hl 3 rfl) ?_
                  refine mg_read X w dX9_isPossible_193 ?_
                  refine lv_bipush (v := 28) hx hb dX9_isPossible_196 (by decide) ?_
                  refine ml_read X w (g_in (show (28 : Int32).toInt = 28 from rfl) (by omega)) dX9_isPossible_198 ?_
                  refine q_topE (y := Rw 3 (28 : Int).toNat) (congrArg (Rw 3) (g_tn (show (28 : Int32).toInt = 28 from rfl))) ?_
                  have y_198 : Rw 3 ((28 : Int)).toNat = rowR Rw 28 := (rowR_eq (by omega)).symm
                  refine lv_iconst (v := 1) hx hb dX9_isPossible_199 (by decide) ?_
                  refine lv_bipush (v := 30) hx hb dX9_isPossible_200 (by decide) ?_
                  refine q_cPS X w (c_X9_isBetween l (Rw 3 (28 : Int).toNat) 1 30 (rv (rowR Rw) 28) 1 30 (congrArg Int32.toInt y_198) (show (1 : Int32).toInt = 1 from rfl) (show (30 : Int32).toInt = 30 from rfl) D t b n (mS t b σ0 I Rw)) v_X9_70 rfl ⟨Nat.le_of_ble_eq_true rfl, Nat.le_of_ble_eq_true rfl⟩ rfl hl.1 (Nat.le_of_ble_eq_true rfl) dX9_isPossible_202 ⟨Nat.zero_le _, Nat.zero_le _⟩ (fun r_202 z_202 => ?_)
                  refine lv_if_eq (tgt := 215) hx hb dX9_isPossible_205 (by decide) (fun c_205 => ?_) (fun c_205 => ?_)
                  · skip
                    rw [z_202] at c_205
                    have k_205 := bI_f.mp c_205
                    refine lv_iconst (v := 0) hx hb dX9_isPossible_215 (by decide) ?_
                    exact q_pretz X w dX9_isPossible_216 (rfl) (by exact bI_0 (fun q => by have q := possB_iff.mp q; exact k_205 (q.2.2.2.2.2.2.1 k_189).1))
                  · skip
                    rw [z_202] at c_205
                    have k_205 := bI_t.mp c_205
                    refine lv_aload_n hx hb dX9_isPossible_208 rfl (lv_at hl 3 rfl) ?_
                    refine mg_isTooGreat X w dX9_isPossible_209 ?_
                    refine lv_if_eq (tgt := 217) hx hb dX9_isPossible_212 (by decide) (fun c_212 => ?_) (fun c_212 => ?_)
                    · skip
                      have k_212 : ((I 14).toInt) = 0 := (g_eq rfl (show (0 : Int32).toInt = 0 from rfl)).mp c_212
                      refine lv_aload_n hx hb dX9_isPossible_217 rfl (lv_at hl 3 rfl) ?_
                      refine mg_read X w dX9_isPossible_218 ?_
                      refine lv_iconst (v := 0) hx hb dX9_isPossible_221 (by decide) ?_
                      refine q_cPS X w (c_X9_repeats_read l D t b n σ0 I Rw 0 0 (show (0 : Int32).toInt = 0 from rfl) (by rfl) (by exact hD)) v_X9_208 rfl ⟨Nat.le_of_ble_eq_true rfl, Nat.le_of_ble_eq_true rfl⟩ rfl hl.1 (Nat.le_of_ble_eq_true rfl) dX9_isPossible_222 ⟨Nat.zero_le _, Nat.zero_le _⟩ (fun r_222 z_222 => ?_)
                      refine lv_if_ne (tgt := 230) hx hb dX9_isPossible_225 (by decide) (fun c_225 => ?_) (fun c_225 => ?_)
                      · skip
                        have k_225 : ¬ ((reps (rowR Rw)) = 0) := fun h => c_225 ((g_eq z_222 (show (0 : Int32).toInt = 0 from rfl)).mpr h)
                        refine lv_aload_n hx hb dX9_isPossible_230 rfl (lv_at hl 3 rfl) ?_
                        refine mg_read X w dX9_isPossible_231 ?_
                        refine lv_bipush (v := 30) hx hb dX9_isPossible_234 (by decide) ?_
                        refine ml_read X w (g_in (show (30 : Int32).toInt = 30 from rfl) (by omega)) dX9_isPossible_236 ?_
                        refine q_topE (y := Rw 3 (30 : Int).toNat) (congrArg (Rw 3) (g_tn (show (30 : Int32).toInt = 30 from rfl))) ?_
                        have y_236 : Rw 3 ((30 : Int)).toNat = rowR Rw 30 := (rowR_eq (by omega)).symm
                        refine lv_iconst (v := 2) hx hb dX9_isPossible_237 (by decide) ?_
                        refine lv_bipush (v := 10) hx hb dX9_isPossible_238 (by decide) ?_
                        refine q_cPS X w (c_X9_isBetween l (Rw 3 (30 : Int).toNat) 2 10 (rv (rowR Rw) 30) 2 10 (congrArg Int32.toInt y_236) (show (2 : Int32).toInt = 2 from rfl) (show (10 : Int32).toInt = 10 from rfl) D t b n (mS t b σ0 I Rw)) v_X9_70 rfl ⟨Nat.le_of_ble_eq_true rfl, Nat.le_of_ble_eq_true rfl⟩ rfl hl.1 (Nat.le_of_ble_eq_true rfl) dX9_isPossible_240 ⟨Nat.zero_le _, Nat.zero_le _⟩ (fun r_240 z_240 => ?_)
                        refine lv_if_eq (tgt := 288) hx hb dX9_isPossible_243 (by decide) (fun c_243 => ?_) (fun c_243 => ?_)
                        · skip
                          rw [z_240] at c_243
                          have k_243 := bI_f.mp c_243
                          refine lv_iconst (v := 0) hx hb dX9_isPossible_288 (by decide) ?_
                          exact q_pretz X w dX9_isPossible_289 (rfl) (by exact bI_0 (fun q => by have q := possB_iff.mp q; exact k_243 q.2.2.2.2.2.2.2.2.1))
                        · skip
                          rw [z_240] at c_243
                          have k_243 := bI_t.mp c_243
                          refine lv_aload_n hx hb dX9_isPossible_246 rfl (lv_at hl 3 rfl) ?_
                          refine mg_read X w dX9_isPossible_247 ?_
                          refine lv_bipush (v := 31) hx hb dX9_isPossible_250 (by decide) ?_
                          refine ml_read X w (g_in (show (31 : Int32).toInt = 31 from rfl) (by omega)) dX9_isPossible_252 ?_
                          refine q_topE (y := Rw 3 (31 : Int).toNat) (congrArg (Rw 3) (g_tn (show (31 : Int32).toInt = 31 from rfl))) ?_
                          have y_252 : Rw 3 ((31 : Int)).toNat = rowR Rw 31 := (rowR_eq (by omega)).symm
                          refine lv_aload_n hx hb dX9_isPossible_253 rfl (lv_at hl 3 rfl) ?_
                          refine mg_read X w dX9_isPossible_254 ?_
                          refine lv_bipush (v := 30) hx hb dX9_isPossible_257 (by decide) ?_
                          refine ml_read X w (g_in (show (30 : Int32).toInt = 30 from rfl) (by omega)) dX9_isPossible_259 ?_
                          refine q_topE (y := Rw 3 (30 : Int).toNat) (congrArg (Rw 3) (g_tn (show (30 : Int32).toInt = 30 from rfl))) ?_
                          have y_259 : Rw 3 ((30 : Int)).toNat = rowR Rw 30 := (rowR_eq (by omega)).symm
                          refine lv_icmp_ge (tgt := 288) hx hb dX9_isPossible_260 (by decide) (fun c_260 => ?_) (fun c_260 => ?_)
                          · skip
                            have k_260 : (rv (rowR Rw) 30) ≤ (rv (rowR Rw) 31) := (g_le (congrArg Int32.toInt y_259) (congrArg Int32.toInt y_252)).mp c_260
                            refine lv_iconst (v := 0) hx hb dX9_isPossible_288 (by decide) ?_
                            exact q_pretz X w dX9_isPossible_289 (rfl) (by exact bI_0 (fun q => by have q := possB_iff.mp q; exact absurd q.2.2.2.2.2.2.2.2.2.1 (by omega)))
                          · skip
                            have k_260 : ¬ ((rv (rowR Rw) 30) ≤ (rv (rowR Rw) 31)) := fun h => c_260 ((g_le (congrArg Int32.toInt y_259) (congrArg Int32.toInt y_252)).mpr h)
                            refine lv_aload_n hx hb dX9_isPossible_263 rfl (lv_at hl 3 rfl) ?_
                            refine mg_read X w dX9_isPossible_264 ?_
                            refine lv_bipush (v := 32) hx hb dX9_isPossible_267 (by decide) ?_
                            refine ml_read X w (g_in (show (32 : Int32).toInt = 32 from rfl) (by omega)) dX9_isPossible_269 ?_
                            refine q_topE (y := Rw 3 (32 : Int).toNat) (congrArg (Rw 3) (g_tn (show (32 : Int32).toInt = 32 from rfl))) ?_
                            have y_269 : Rw 3 ((32 : Int)).toNat = rowR Rw 32 := (rowR_eq (by omega)).symm
                            refine lv_iconst (v := 1) hx hb dX9_isPossible_270 (by decide) ?_
                            refine lv_aload_n hx hb dX9_isPossible_271 rfl (lv_at hl 3 rfl) ?_
                            refine mg_read X w dX9_isPossible_272 ?_
                            refine lv_bipush (v := 30) hx hb dX9_isPossible_275 (by decide) ?_
                            refine ml_read X w (g_in (show (30 : Int32).toInt = 30 from rfl) (by omega)) dX9_isPossible_277 ?_
                            refine q_topE (y := Rw 3 (30 : Int).toNat) (congrArg (Rw 3) (g_tn (show (30 : Int32).toInt = 30 from rfl))) ?_
                            have y_277 : Rw 3 ((30 : Int)).toNat = rowR Rw 30 := (rowR_eq (by omega)).symm
                            refine q_cPS X w (c_X9_isBetween l (Rw 3 (32 : Int).toNat) 1 (Rw 3 (30 : Int).toNat) (rv (rowR Rw) 32) 1 (rv (rowR Rw) 30) (congrArg Int32.toInt y_269) (show (1 : Int32).toInt = 1 from rfl) (congrArg Int32.toInt y_277) D t b n (mS t b σ0 I Rw)) v_X9_70 rfl ⟨Nat.le_of_ble_eq_true rfl, Nat.le_of_ble_eq_true rfl⟩ rfl hl.1 (Nat.le_of_ble_eq_true rfl) dX9_isPossible_278 ⟨Nat.zero_le _, Nat.zero_le _⟩ (fun r_278 z_278 => ?_)
                            refine lv_if_eq (tgt := 288) hx hb dX9_isPossible_281 (by decide) (fun c_281 => ?_) (fun c_281 => ?_)
                            · skip
                              rw [z_278] at c_281
                              have k_281 := bI_f.mp c_281
                              refine lv_iconst (v := 0) hx hb dX9_isPossible_288 (by decide) ?_
                              exact q_pretz X w dX9_isPossible_289 (rfl) (by exact bI_0 (fun q => by have q := possB_iff.mp q; exact k_281 q.2.2.2.2.2.2.2.2.2.2))
                            · skip
                              rw [z_278] at c_281
                              have k_281 := bI_t.mp c_281
                              refine lv_iconst (v := 1) hx hb dX9_isPossible_284 (by decide) ?_
                              refine lv_goto (tgt := 289) hx hb dX9_isPossible_285 (by decide) ?_
                              exact q_pretz X w dX9_isPossible_289 (rfl) (by exact bI_1 (possB_iff.mpr ⟨hL, hS, k_74, fun q => absurd k_86 q, fun _ => k_130, hD, fun _ => ⟨k_205, by cases gg with | false => rfl | true => exact absurd ((congrArg Int32.toInt h_2).symm.trans k_212) (by decide)⟩, k_225, k_243, by omega, k_281⟩))
                      · skip
                        have k_225 : (reps (rowR Rw)) = 0 := (g_eq z_222 (show (0 : Int32).toInt = 0 from rfl)).mp c_225
                        refine lv_iconst (v := 0) hx hb dX9_isPossible_228 (by decide) ?_
                        exact q_pretz X w dX9_isPossible_229 (rfl) (by exact bI_0 (fun q => by have q := possB_iff.mp q; exact q.2.2.2.2.2.2.2.1 k_225))
                    · skip
                      have k_212 : ¬ (((I 14).toInt) = 0) := fun h => c_212 ((g_eq rfl (show (0 : Int32).toInt = 0 from rfl)).mpr h)
                      refine lv_iconst (v := 0) hx hb dX9_isPossible_215 (by decide) ?_
                      exact q_pretz X w dX9_isPossible_216 (rfl) (by exact bI_0 (fun q => by have q := possB_iff.mp q; exact k_212 ((congrArg Int32.toInt h_2).trans (by rw [(q.2.2.2.2.2.2.1 k_189).2]; rfl))))
              · skip
                have k_139 : ¬ (4 ≤ k) := fun h => c_139 ((g_le (show (4 : Int32).toInt = 4 from rfl) q_k).mpr h)
                refine lv_aload_n hx hb dX9_isPossible_142 rfl (lv_at hl 3 rfl) ?_
                refine mg_read X w dX9_isPossible_143 ?_
                refine lv_bipush (v := 24) hx hb dX9_isPossible_146 (by decide) ?_
                refine lv_iload_n hx hb dX9_isPossible_148 rfl (lv_at hl 0 rfl) ?_
                refine lv_iadd hx hb dX9_isPossible_149 ?_
                refine lv_topi (fun x_149 e_149 => ?_)
                have p_149 : x_149.toInt = (24 + k) := by rw [e_149]; exact t_add (show (24 : Int32).toInt = 24 from rfl) q_k (by omega) (by omega)
                refine ml_read X w (g_in p_149 (by omega)) dX9_isPossible_150 ?_
                refine q_topE (y := Rw 3 (24 + k).toNat) (congrArg (Rw 3) (g_tn p_149)) ?_
                have y_150 : Rw 3 ((24 + k)).toNat = rowR Rw (24 + k) := (rowR_eq (by omega)).symm
                refine lv_if_eq (tgt := 175) hx hb dX9_isPossible_151 (by decide) (fun c_151 => ?_) (fun c_151 => ?_)
                · skip
                  have k_151 : (rv (rowR Rw) (24 + k)) = 0 := (g_eq (congrArg Int32.toInt y_150) (show (0 : Int32).toInt = 0 from rfl)).mp c_151
                  obtain ⟨x_175, e_175⟩ : ∃ z : Int32, z = (v_k + 1) := ⟨_, rfl⟩
                  have p_175 : x_175.toInt = (k + 1) := by rw [e_175]; exact t_add q_k (show (1 : Int32).toInt = 1 from rfl) (by omega) (by omega)
                  refine lv_iinc (v := x_175) (lv' := [(3, .int x_175), (2, .int v_sm), (1, .int (Rw 3 (0 : Int).toNat)), (0, .ref (b + 45))]) hx hb dX9_isPossible_175 hl (k := 0) rfl (by rw [e_175]; rfl) (by decide) rfl (fun ls hl => ?_)
                  refine lv_goto (tgt := 137) hx hb dX9_isPossible_178 (by decide) ?_
                  refine ih_137 ⟨x_175, (k + 1)⟩ ⟨p_175, by dsimp only; refine ⟨by omega, fun j a1 a2 => ?_⟩; rcases (show j < k ∨ j = k by omega) with z | z; exact inv_137.2 j a1 z; (rw [z]; exact fun y => absurd k_151 y)⟩ (by dsimp only; omega) ls (lv_sub hl [0, 1, 2, 3] rfl)
                · skip
                  have k_151 : ¬ ((rv (rowR Rw) (24 + k)) = 0) := fun h => c_151 ((g_eq (congrArg Int32.toInt y_150) (show (0 : Int32).toInt = 0 from rfl)).mpr h)
                  refine lv_aload_n hx hb dX9_isPossible_154 rfl (lv_at hl 3 rfl) ?_
                  refine mg_read X w dX9_isPossible_155 ?_
                  refine lv_bipush (v := 20) hx hb dX9_isPossible_158 (by decide) ?_
                  refine lv_iload_n hx hb dX9_isPossible_160 rfl (lv_at hl 0 rfl) ?_
                  refine lv_iadd hx hb dX9_isPossible_161 ?_
                  refine lv_topi (fun x_161 e_161 => ?_)
                  have p_161 : x_161.toInt = (20 + k) := by rw [e_161]; exact t_add (show (20 : Int32).toInt = 20 from rfl) q_k (by omega) (by omega)
                  refine ml_read X w (g_in p_161 (by omega)) dX9_isPossible_162 ?_
                  refine q_topE (y := Rw 3 (20 + k).toNat) (congrArg (Rw 3) (g_tn p_161)) ?_
                  have y_162 : Rw 3 ((20 + k)).toNat = rowR Rw (20 + k) := (rowR_eq (by omega)).symm
                  refine lv_iconst (v := 1) hx hb dX9_isPossible_163 (by decide) ?_
                  refine lv_sipush (v := 400) hx hb dX9_isPossible_164 (by decide) ?_
                  refine q_cPS X w (c_X9_isBetween l (Rw 3 (20 + k).toNat) 1 400 (rv (rowR Rw) (20 + k)) 1 400 (congrArg Int32.toInt y_162) (show (1 : Int32).toInt = 1 from rfl) (show (400 : Int32).toInt = 400 from rfl) D t b n (mS t b σ0 I Rw)) v_X9_70 rfl ⟨Nat.le_of_ble_eq_true rfl, Nat.le_of_ble_eq_true rfl⟩ rfl hl.1 (Nat.le_of_ble_eq_true rfl) dX9_isPossible_167 ⟨Nat.zero_le _, Nat.zero_le _⟩ (fun r_167 z_167 => ?_)
                  refine lv_if_ne (tgt := 175) hx hb dX9_isPossible_170 (by decide) (fun c_170 => ?_) (fun c_170 => ?_)
                  · skip
                    rw [z_167] at c_170
                    have k_170 := bI_t.mp c_170
                    obtain ⟨x_175, e_175⟩ : ∃ z : Int32, z = (v_k + 1) := ⟨_, rfl⟩
                    have p_175 : x_175.toInt = (k + 1) := by rw [e_175]; exact t_add q_k (show (1 : Int32).toInt = 1 from rfl) (by omega) (by omega)
                    refine lv_iinc (v := x_175) (lv' := [(3, .int x_175), (2, .int v_sm), (1, .int (Rw 3 (0 : Int).toNat)), (0, .ref (b + 45))]) hx hb dX9_isPossible_175 hl (k := 0) rfl (by rw [e_175]; rfl) (by decide) rfl (fun ls hl => ?_)
                    refine lv_goto (tgt := 137) hx hb dX9_isPossible_178 (by decide) ?_
                    refine ih_137 ⟨x_175, (k + 1)⟩ ⟨p_175, by dsimp only; refine ⟨by omega, fun j a1 a2 => ?_⟩; rcases (show j < k ∨ j = k by omega) with z | z; exact inv_137.2 j a1 z; (rw [z]; exact fun _ => k_170)⟩ (by dsimp only; omega) ls (lv_sub hl [0, 1, 2, 3] rfl)
                  · skip
                    rw [z_167] at c_170
                    have k_170 := bI_f.mp c_170
                    refine lv_iconst (v := 0) hx hb dX9_isPossible_173 (by decide) ?_
                    exact q_pretz X w dX9_isPossible_174 (rfl) (by exact bI_0 (fun q => by have q := possB_iff.mp q; exact k_170 (q.2.2.2.2.2.1 k (by omega) (by omega) k_151)))
            · skip
              rw [z_127] at c_130
              have k_130 := bI_f.mp c_130
              refine lv_iconst (v := 0) hx hb dX9_isPossible_133 (by decide) ?_
              exact q_pretz X w dX9_isPossible_134 (rfl) (by exact bI_0 (fun q => by have q := possB_iff.mp q; exact k_130 (q.2.2.2.2.1 k_114)))
        · skip
          have k_86 : ¬ ((rv (rowR Rw) 16) = 0) := fun h => c_86 ((g_eq (congrArg Int32.toInt y_85) (show (0 : Int32).toInt = 0 from rfl)).mpr h)
          refine lv_aload_n hx hb dX9_isPossible_89 rfl (lv_at hl 3 rfl) ?_
          refine mg_read X w dX9_isPossible_90 ?_
          refine lv_bipush (v := 17) hx hb dX9_isPossible_93 (by decide) ?_
          refine ml_read X w (g_in (show (17 : Int32).toInt = 17 from rfl) (by omega)) dX9_isPossible_95 ?_
          refine q_topE (y := Rw 3 (17 : Int).toNat) (congrArg (Rw 3) (g_tn (show (17 : Int32).toInt = 17 from rfl))) ?_
          have y_95 : Rw 3 ((17 : Int)).toNat = rowR Rw 17 := (rowR_eq (by omega)).symm
          refine lv_iconst (v := 1) hx hb dX9_isPossible_96 (by decide) ?_
          refine lv_iload_n hx hb dX9_isPossible_97 rfl (lv_at hl 2 rfl) ?_
          refine q_cPS X w (c_X9_isBetween l (Rw 3 (17 : Int).toNat) 1 (Rw 3 (0 : Int).toNat) (rv (rowR Rw) 17) 1 (rv (rowR Rw) 0) (congrArg Int32.toInt y_95) (show (1 : Int32).toInt = 1 from rfl) (congrArg Int32.toInt y_5) D t b n (mS t b σ0 I Rw)) v_X9_70 rfl ⟨Nat.le_of_ble_eq_true rfl, Nat.le_of_ble_eq_true rfl⟩ rfl hl.1 (Nat.le_of_ble_eq_true rfl) dX9_isPossible_98 ⟨Nat.zero_le _, Nat.zero_le _⟩ (fun r_98 z_98 => ?_)
          refine lv_if_ne (tgt := 106) hx hb dX9_isPossible_101 (by decide) (fun c_101 => ?_) (fun c_101 => ?_)
          · skip
            rw [z_98] at c_101
            have k_101 := bI_t.mp c_101
            refine lv_aload_n hx hb dX9_isPossible_106 rfl (lv_at hl 3 rfl) ?_
            refine mg_read X w dX9_isPossible_107 ?_
            refine lv_bipush (v := 16) hx hb dX9_isPossible_110 (by decide) ?_
            refine ml_read X w (g_in (show (16 : Int32).toInt = 16 from rfl) (by omega)) dX9_isPossible_112 ?_
            refine q_topE (y := Rw 3 (16 : Int).toNat) (congrArg (Rw 3) (g_tn (show (16 : Int32).toInt = 16 from rfl))) ?_
            have y_112 : Rw 3 ((16 : Int)).toNat = rowR Rw 16 := (rowR_eq (by omega)).symm
            refine lv_iconst (v := 2) hx hb dX9_isPossible_113 (by decide) ?_
            refine lv_icmp_ne (tgt := 135) hx hb dX9_isPossible_114 (by decide) (fun c_114 => ?_) (fun c_114 => ?_)
            · skip
              have k_114 : ¬ ((rv (rowR Rw) 16) = 2) := fun h => c_114 ((g_eq (congrArg Int32.toInt y_112) (show (2 : Int32).toInt = 2 from rfl)).mpr h)
              refine lv_iconst (v := 0) hx hb dX9_isPossible_135 (by decide) ?_
              refine lv_istore_n (lv' := [(3, .int 0), (2, .int v_sm), (1, .int (Rw 3 (0 : Int).toNat)), (0, .ref (b + 45))]) hx hb dX9_isPossible_136 rfl hl (by decide) rfl (fun ls hl => ?_)
              refine q_loop (α := Int32 × Int) (fun a => a.1.toInt = a.2 ∧ ((0 ≤ a.2 ∧ a.2 ≤ 4) ∧ ∀ j : Int, 0 ≤ j → j < a.2 → rv (rowR Rw) (24 + j) ≠ 0 → 1 ≤ rv (rowR Rw) (20 + j) ∧ rv (rowR Rw) (20 + j) ≤ 400)) (fun a => (4 - a.2).toNat) (fun a => ∀ ls : Array Slot, lv_has ls 4 [(3, .int a.1), (2, .int v_sm), (1, .int (Rw 3 (0 : Int).toNat)), (0, .ref (b + 45))] → W p l e (qR 2 0 0) s m args below meth c s.heap [] 0 0 (MQ below (vp_Si (fun z => z = bI (decide (possB (rowR Rw) gg = true)))) args s 0 0 (fun _ => False)) (F0 m 137 ls [])) ?_ ⟨0, 0⟩ ⟨(show (0 : Int32).toInt = 0 from rfl), by dsimp only; exact ⟨by omega, fun j a b => by omega⟩⟩ ls (lv_sub hl [0, 1, 2, 3] rfl)
              rintro ⟨v_k, k⟩ ⟨q_k, inv_137⟩ ih_137 ls hl
              dsimp only at q_k inv_137 hl
              refine lv_iload_n hx hb dX9_isPossible_137 rfl (lv_at hl 0 rfl) ?_
              refine lv_iconst (v := 4) hx hb dX9_isPossible_138 (by decide) ?_
              refine lv_icmp_ge (tgt := 181) hx hb dX9_isPossible_139 (by decide) (fun c_139 => ?_) (fun c_139 => ?_)
              · skip
                have k_139 : 4 ≤ k := (g_le (show (4 : Int32).toInt = 4 from rfl) q_k).mp c_139
                have hD : ∀ j : Int, 0 ≤ j → j < 4 → rv (rowR Rw) (24 + j) ≠ 0 → 1 ≤ rv (rowR Rw) (20 + j) ∧ rv (rowR Rw) (20 + j) ≤ 400 := fun j a1 a2 => inv_137.2 j a1 (by omega)
                refine lv_aload_n hx hb dX9_isPossible_181 rfl (lv_at hl 3 rfl) ?_
                refine mg_read X w dX9_isPossible_182 ?_
                refine lv_bipush (v := 19) hx hb dX9_isPossible_185 (by decide) ?_
                refine ml_read X w (g_in (show (19 : Int32).toInt = 19 from rfl) (by omega)) dX9_isPossible_187 ?_
                refine q_topE (y := Rw 3 (19 : Int).toNat) (congrArg (Rw 3) (g_tn (show (19 : Int32).toInt = 19 from rfl))) ?_
                have y_187 : Rw 3 ((19 : Int)).toNat = rowR Rw 19 := (rowR_eq (by omega)).symm
                refine lv_iconst (v := 2) hx hb dX9_isPossible_188 (by decide) ?_
                refine lv_icmp_ne (tgt := 217) hx hb dX9_isPossible_189 (by decide) (fun c_189 => ?_) (fun c_189 => ?_)
                · skip
                  have k_189 : ¬ ((rv (rowR Rw) 19) = 2) := fun h => c_189 ((g_eq (congrArg Int32.toInt y_187) (show (2 : Int32).toInt = 2 from rfl)).mpr h)
                  refine lv_aload_n hx hb dX9_isPossible_217 rfl (lv_at hl 3 rfl) ?_
                  refine mg_read X w dX9_isPossible_218 ?_
                  refine lv_iconst (v := 0) hx hb dX9_isPossible_221 (by decide) ?_
                  refine q_cPS X w (c_X9_repeats_read l D t b n σ0 I Rw 0 0 (show (0 : Int32).toInt = 0 from rfl) (by rfl) (by exact hD)) v_X9_208 rfl ⟨Nat.le_of_ble_eq_true rfl, Nat.le_of_ble_eq_true rfl⟩ rfl hl.1 (Nat.le_of_ble_eq_true rfl) dX9_isPossible_222 ⟨Nat.zero_le _, Nat.zero_le _⟩ (fun r_222 z_222 => ?_)
                  refine lv_if_ne (tgt := 230) hx hb dX9_isPossible_225 (by decide) (fun c_225 => ?_) (fun c_225 => ?_)
                  · skip
                    have k_225 : ¬ ((reps (rowR Rw)) = 0) := fun h => c_225 ((g_eq z_222 (show (0 : Int32).toInt = 0 from rfl)).mpr h)
                    refine lv_aload_n hx hb dX9_isPossible_230 rfl (lv_at hl 3 rfl) ?_
                    refine mg_read X w dX9_isPossible_231 ?_
                    refine lv_bipush (v := 30) hx hb dX9_isPossible_234 (by decide) ?_
                    refine ml_read X w (g_in (show (30 : Int32).toInt = 30 from rfl) (by omega)) dX9_isPossible_236 ?_
                    refine q_topE (y := Rw 3 (30 : Int).toNat) (congrArg (Rw 3) (g_tn (show (30 : Int32).toInt = 30 from rfl))) ?_
                    have y_236 : Rw 3 ((30 : Int)).toNat = rowR Rw 30 := (rowR_eq (by omega)).symm
                    refine lv_iconst (v := 2) hx hb dX9_isPossible_237 (by decide) ?_
                    refine lv_bipush (v := 10) hx hb dX9_isPossible_238 (by decide) ?_
                    refine q_cPS X w (c_X9_isBetween l (Rw 3 (30 : Int).toNat) 2 10 (rv (rowR Rw) 30) 2 10 (congrArg Int32.toInt y_236) (show (2 : Int32).toInt = 2 from rfl) (show (10 : Int32).toInt = 10 from rfl) D t b n (mS t b σ0 I Rw)) v_X9_70 rfl ⟨Nat.le_of_ble_eq_true rfl, Nat.le_of_ble_eq_true rfl⟩ rfl hl.1 (Nat.le_of_ble_eq_true rfl) dX9_isPossible_240 ⟨Nat.zero_le _, Nat.zero_le _⟩ (fun r_240 z_240 => ?_)
                    refine lv_if_eq (tgt := 288) hx hb dX9_isPossible_243 (by decide) (fun c_243 => ?_) (fun c_243 => ?_)
                    · skip
                      rw [z_240] at c_243
                      have k_243 := bI_f.mp c_243
                      refine lv_iconst (v := 0) hx hb dX9_isPossible_288 (by decide) ?_
                      exact q_pretz X w dX9_isPossible_289 (rfl) (by exact bI_0 (fun q => by have q := possB_iff.mp q; exact k_243 q.2.2.2.2.2.2.2.2.1))
                    · skip
                      rw [z_240] at c_243
                      have k_243 := bI_t.mp c_243
                      refine lv_aload_n hx hb dX9_isPossible_246 rfl (lv_at hl 3 rfl) ?_
                      refine mg_read X w dX9_isPossible_247 ?_
                      refine lv_bipush (v := 31) hx hb dX9_isPossible_250 (by decide) ?_
                      refine ml_read X w (g_in (show (31 : Int32).toInt = 31 from rfl) (by omega)) dX9_isPossible_252 ?_
                      refine q_topE (y := Rw 3 (31 : Int).toNat) (congrArg (Rw 3) (g_tn (show (31 : Int32).toInt = 31 from rfl))) ?_
                      have y_252 : Rw 3 ((31 : Int)).toNat = rowR Rw 31 := (rowR_eq (by omega)).symm
                      refine lv_aload_n hx hb dX9_isPossible_253 rfl (lv_at hl 3 rfl) ?_
                      refine mg_read X w dX9_isPossible_254 ?_
                      refine lv_bipush (v := 30) hx hb dX9_isPossible_257 (by decide) ?_
                      refine ml_read X w (g_in (show (30 : Int32).toInt = 30 from rfl) (by omega)) dX9_isPossible_259 ?_
                      refine q_topE (y := Rw 3 (30 : Int).toNat) (congrArg (Rw 3) (g_tn (show (30 : Int32).toInt = 30 from rfl))) ?_
                      have y_259 : Rw 3 ((30 : Int)).toNat = rowR Rw 30 := (rowR_eq (by omega)).symm
                      refine lv_icmp_ge (tgt := 288) hx hb dX9_isPossible_260 (by decide) (fun c_260 => ?_) (fun c_260 => ?_)
                      · skip
                        have k_260 : (rv (rowR Rw) 30) ≤ (rv (rowR Rw) 31) := (g_le (congrArg Int32.toInt y_259) (congrArg Int32.toInt y_252)).mp c_260
                        refine lv_iconst (v := 0) hx hb dX9_isPossible_288 (by decide) ?_
                        exact q_pretz X w dX9_isPossible_289 (rfl) (by exact bI_0 (fun q => by have q := possB_iff.mp q; exact absurd q.2.2.2.2.2.2.2.2.2.1 (by omega)))
                      · skip
                        have k_260 : ¬ ((rv (rowR Rw) 30) ≤ (rv (rowR Rw) 31)) := fun h => c_260 ((g_le (congrArg Int32.toInt y_259) (congrArg Int32.toInt y_252)).mpr h)
                        refine lv_aload_n hx hb dX9_isPossible_263 rfl (lv_at hl 3 rfl) ?_
                        refine mg_read X w dX9_isPossible_264 ?_
                        refine lv_bipush (v := 32) hx hb dX9_isPossible_267 (by decide) ?_
                        refine ml_read X w (g_in (show (32 : Int32).toInt = 32 from rfl) (by omega)) dX9_isPossible_269 ?_
                        refine q_topE (y := Rw 3 (32 : Int).toNat) (congrArg (Rw 3) (g_tn (show (32 : Int32).toInt = 32 from rfl))) ?_
                        have y_269 : Rw 3 ((32 : Int)).toNat = rowR Rw 32 := (rowR_eq (by omega)).symm
                        refine lv_iconst (v := 1) hx hb dX9_isPossible_270 (by decide) ?_
                        refine lv_aload_n hx hb dX9_isPossible_271 rfl (lv_at hl 3 rfl) ?_
                        refine mg_read X w dX9_isPossible_272 ?_
                        refine lv_bipush (v := 30) hx hb dX9_isPossible_275 (by decide) ?_
                        refine ml_read X w (g_in (show (30 : Int32).toInt = 30 from rfl) (by omega)) dX9_isPossible_277 ?_
                        refine q_topE (y := Rw 3 (30 : Int).toNat) (congrArg (Rw 3) (g_tn (show (30 : Int32).toInt = 30 from rfl))) ?_
                        have y_277 : Rw 3 ((30 : Int)).toNat = rowR Rw 30 := (rowR_eq (by omega)).symm
                        refine q_cPS X w (c_X9_isBetween l (Rw 3 (32 : Int).toNat) 1 (Rw 3 (30 : Int).toNat) (rv (rowR Rw) 32) 1 (rv (rowR Rw) 30) (congrArg Int32.toInt y_269) (show (1 : Int32).toInt = 1 from rfl) (congrArg Int32.toInt y_277) D t b n (mS t b σ0 I Rw)) v_X9_70 rfl ⟨Nat.le_of_ble_eq_true rfl, Nat.le_of_ble_eq_true rfl⟩ rfl hl.1 (Nat.le_of_ble_eq_true rfl) dX9_isPossible_278 ⟨Nat.zero_le _, Nat.zero_le _⟩ (fun r_278 z_278 => ?_)
                        refine lv_if_eq (tgt := 288) hx hb dX9_isPossible_281 (by decide) (fun c_281 => ?_) (fun c_281 => ?_)
                        · skip
                          rw [z_278] at c_281
                          have k_281 := bI_f.mp c_281
                          refine lv_iconst (v := 0) hx hb dX9_isPossible_288 (by decide) ?_
                          exact q_pretz X w dX9_isPossible_289 (rfl) (by exact bI_0 (fun q => by have q := possB_iff.mp q; exact k_281 q.2.2.2.2.2.2.2.2.2.2))
                        · skip
                          rw [z_278] at c_281
                          have k_281 := bI_t.mp c_281
                          refine lv_iconst (v := 1) hx hb dX9_isPossible_284 (by decide) ?_
                          refine lv_goto (tgt := 289) hx hb dX9_isPossible_285 (by decide) ?_
                          exact q_pretz X w dX9_isPossible_289 (rfl) (by exact bI_1 (possB_iff.mpr ⟨hL, hS, k_74, fun _ => k_101, fun q => absurd q k_114, hD, fun q => absurd q k_189, k_225, k_243, by omega, k_281⟩))
                  · skip
                    have k_225 : (reps (rowR Rw)) = 0 := (g_eq z_222 (show (0 : Int32).toInt = 0 from rfl)).mp c_225
                    refine lv_iconst (v := 0) hx hb dX9_isPossible_228 (by decide) ?_
                    exact q_pretz X w dX9_isPossible_229 (rfl) (by exact bI_0 (fun q => by have q := possB_iff.mp q; exact q.2.2.2.2.2.2.2.1 k_225))
                · skip
                  have k_189 : (rv (rowR Rw) 19) = 2 := (g_eq (congrArg Int32.toInt y_187) (show (2 : Int32).toInt = 2 from rfl)).mp c_189
                  refine lv_aload_n hx hb dX9_isPossible_192 rfl (lv_at hl 3 rfl) ?_
                  refine mg_read X w dX9_isPossible_193 ?_
                  refine lv_bipush (v := 28) hx hb dX9_isPossible_196 (by decide) ?_
                  refine ml_read X w (g_in (show (28 : Int32).toInt = 28 from rfl) (by omega)) dX9_isPossible_198 ?_
                  refine q_topE (y := Rw 3 (28 : Int).toNat) (congrArg (Rw 3) (g_tn (show (28 : Int32).toInt = 28 from rfl))) ?_
                  have y_198 : Rw 3 ((28 : Int)).toNat = rowR Rw 28 := (rowR_eq (by omega)).symm
                  refine lv_iconst (v := 1) hx hb dX9_isPossible_199 (by decide) ?_
                  refine lv_bipush (v := 30) hx hb dX9_isPossible_200 (by decide) ?_
                  refine q_cPS X w (c_X9_isBetween l (Rw 3 (28 : Int).toNat) 1 30 (rv (rowR Rw) 28) 1 30 (congrArg Int32.toInt y_198) (show (1 : Int32).toInt = 1 from rfl) (show (30 : Int32).toInt = 30 from rfl) D t b n (mS t b σ0 I Rw)) v_X9_70 rfl ⟨Nat.le_of_ble_eq_true rfl, Nat.le_of_ble_eq_true rfl⟩ rfl hl.1 (Nat.le_of_ble_eq_true rfl) dX9_isPossible_202 ⟨Nat.zero_le _, Nat.zero_le _⟩ (fun r_202 z_202 => ?_)
                  refine lv_if_eq (tgt := 215) hx hb dX9_isPossible_205 (by decide) (fun c_205 => ?_) (fun c_205 => ?_)
                  · skip
                    rw [z_202] at c_205
                    have k_205 := bI_f.mp c_205
                    refine lv_iconst (v := 0) hx hb dX9_isPossible_215 (by decide) ?_
                    exact q_pretz X w dX9_isPossible_216 (rfl) (by exact bI_0 (fun q => by have q := possB_iff.mp q; exact k_205 (q.2.2.2.2.2.2.1 k_189).1))
                  · skip
                    rw [z_202] at c_205
                    have k_205 := bI_t.mp c_205
                    refine lv_aload_n hx hb dX9_isPossible_208 rfl (lv_at hl 3 rfl) ?_
                    refine mg_isTooGreat X w dX9_isPossible_209 ?_
                    refine lv_if_eq (tgt := 217) hx hb dX9_isPossible_212 (by decide) (fun c_212 => ?_) (fun c_212 => ?_)
                    · skip
                      have k_212 : ((I 14).toInt) = 0 := (g_eq rfl (show (0 : Int32).toInt = 0 from rfl)).mp c_212
                      refine lv_aload_n hx hb dX9_isPossible_217 rfl (lv_at hl 3 rfl) ?_
                      refine mg_read X w dX9_isPossible_218 ?_
                      refine lv_iconst (v := 0) hx hb dX9_isPossible_221 (by decide) ?_
                      refine q_cPS X w (c_X9_repeats_read l D t b n σ0 I Rw 0 0 (show (0 : Int32).toInt = 0 from rfl) (by rfl) (by exact hD)) v_X9_208 rfl ⟨Nat.le_of_ble_eq_true rfl, Nat.le_of_ble_eq_true rfl⟩ rfl hl.1 (Nat.le_of_ble_eq_true rfl) dX9_isPossible_222 ⟨Nat.zero_le _, Nat.zero_le _⟩ (fun r_222 z_222 => ?_)
                      refine lv_if_ne (tgt := 230) hx hb dX9_isPossible_225 (by decide) (fun c_225 => ?_) (fun c_225 => ?_)
                      · skip
                        have k_225 : ¬ ((reps (rowR Rw)) = 0) := fun h => c_225 ((g_eq z_222 (show (0 : Int32).toInt = 0 from rfl)).mpr h)
                        refine lv_aload_n hx hb dX9_isPossible_230 rfl (lv_at hl 3 rfl) ?_
                        refine mg_read X w dX9_isPossible_231 ?_
                        refine lv_bipush (v := 30) hx hb dX9_isPossible_234 (by decide) ?_
                        refine ml_read X w (g_in (show (30 : Int32).toInt = 30 from rfl) (by omega)) dX9_isPossible_236 ?_
                        refine q_topE (y := Rw 3 (30 : Int).toNat) (congrArg (Rw 3) (g_tn (show (30 : Int32).toInt = 30 from rfl))) ?_
                        have y_236 : Rw 3 ((30 : Int)).toNat = rowR Rw 30 := (rowR_eq (by omega)).symm
                        refine lv_iconst (v := 2) hx hb dX9_isPossible_237 (by decide) ?_
                        refine lv_bipush (v := 10) hx hb dX9_isPossible_238 (by decide) ?_
                        refine q_cPS X w (c_X9_isBetween l (Rw 3 (30 : Int).toNat) 2 10 (rv (rowR Rw) 30) 2 10 (congrArg Int32.toInt y_236) (show (2 : Int32).toInt = 2 from rfl) (show (10 : Int32).toInt = 10 from rfl) D t b n (mS t b σ0 I Rw)) v_X9_70 rfl ⟨Nat.le_of_ble_eq_true rfl, Nat.le_of_ble_eq_true rfl⟩ rfl hl.1 (Nat.le_of_ble_eq_true rfl) dX9_isPossible_240 ⟨Nat.zero_le _, Nat.zero_le _⟩ (fun r_240 z_240 => ?_)
                        refine lv_if_eq (tgt := 288) hx hb dX9_isPossible_243 (by decide) (fun c_243 => ?_) (fun c_243 => ?_)
                        · skip
                          rw [z_240] at c_243
                          have k_243 := bI_f.mp c_243
                          refine lv_iconst (v := 0) hx hb dX9_isPossible_288 (by decide) ?_
                          exact q_pretz X w dX9_isPossible_289 (rfl) (by exact bI_0 (fun q => by have q := possB_iff.mp q; exact k_243 q.2.2.2.2.2.2.2.2.1))
                        · skip
                          rw [z_240] at c_243
                          have k_243 := bI_t.mp c_243
                          refine lv_aload_n hx hb dX9_isPossible_246 rfl (lv_at hl 3 rfl) ?_
                          refine mg_read X w dX9_isPossible_247 ?_
                          refine lv_bipush (v := 31) hx hb dX9_isPossible_250 (by decide) ?_
                          refine ml_read X w (g_in (show (31 : Int32).toInt = 31 from rfl) (by omega)) dX9_isPossible_252 ?_
                          refine q_topE (y := Rw 3 (31 : Int).toNat) (congrArg (Rw 3) (g_tn (show (31 : Int32).toInt = 31 from rfl))) ?_
                          have y_252 : Rw 3 ((31 : Int)).toNat = rowR Rw 31 := (rowR_eq (by omega)).symm
                          refine lv_aload_n hx hb dX9_isPossible_253 rfl (lv_at hl 3 rfl) ?_
                          refine mg_read X w dX9_isPossible_254 ?_
                          refine lv_bipush (v := 30) hx hb dX9_isPossible_257 (by decide) ?_
                          refine ml_read X w (g_in (show (30 : Int32).toInt = 30 from rfl) (by omega)) dX9_isPossible_259 ?_
                          refine q_topE (y := Rw 3 (30 : Int).toNat) (congrArg (Rw 3) (g_tn (show (30 : Int32).toInt = 30 from rfl))) ?_
                          have y_259 : Rw 3 ((30 : Int)).toNat = rowR Rw 30 := (rowR_eq (by omega)).symm
                          refine lv_icmp_ge (tgt := 288) hx hb dX9_isPossible_260 (by decide) (fun c_260 => ?_) (fun c_260 => ?_)
                          · skip
                            have k_260 : (rv (rowR Rw) 30) ≤ (rv (rowR Rw) 31) := (g_le (congrArg Int32.toInt y_259) (congrArg Int32.toInt y_252)).mp c_260
                            refine lv_iconst (v := 0) hx hb dX9_isPossible_288 (by decide) ?_
                            exact q_pretz X w dX9_isPossible_289 (rfl) (by exact bI_0 (fun q => by have q := possB_iff.mp q; exact absurd q.2.2.2.2.2.2.2.2.2.1 (by omega)))
                          · skip
                            have k_260 : ¬ ((rv (rowR Rw) 30) ≤ (rv (rowR Rw) 31)) := fun h => c_260 ((g_le (congrArg Int32.toInt y_259) (congrArg Int32.toInt y_252)).mpr h)
                            refine lv_aload_n hx hb dX9_isPossible_263 rfl (lv_at hl 3 rfl) ?_
                            refine mg_read X w dX9_isPossible_264 ?_
                            refine lv_bipush (v := 32) hx hb dX9_isPossible_267 (by decide) ?_
                            refine ml_read X w (g_in (show (32 : Int32).toInt = 32 from rfl) (by omega)) dX9_isPossible_269 ?_
                            refine q_topE (y := Rw 3 (32 : Int).toNat) (congrArg (Rw 3) (g_tn (show (32 : Int32).toInt = 32 from rfl))) ?_
                            have y_269 : Rw 3 ((32 : Int)).toNat = rowR Rw 32 := (rowR_eq (by omega)).symm
                            refine lv_iconst (v := 1) hx hb dX9_isPossible_270 (by decide) ?_
                            refine lv_aload_n hx hb dX9_isPossible_271 rfl (lv_at hl 3 rfl) ?_
                            refine mg_read X w dX9_isPossible_272 ?_
                            refine lv_bipush (v := 30) hx hb dX9_isPossible_275 (by decide) ?_
                            refine ml_read X w (g_in (show (30 : Int32).toInt = 30 from rfl) (by omega)) dX9_isPossible_277 ?_
                            refine q_topE (y := Rw 3 (30 : Int).toNat) (congrArg (Rw 3) (g_tn (show (30 : Int32).toInt = 30 from rfl))) ?_
                            have y_277 : Rw 3 ((30 : Int)).toNat = rowR Rw 30 := (rowR_eq (by omega)).symm
                            refine q_cPS X w (c_X9_isBetween l (Rw 3 (32 : Int).toNat) 1 (Rw 3 (30 : Int).toNat) (rv (rowR Rw) 32) 1 (rv (rowR Rw) 30) (congrArg Int32.toInt y_269) (show (1 : Int32).toInt = 1 from rfl) (congrArg Int32.toInt y_277) D t b n (mS t b σ0 I Rw)) v_X9_70 rfl ⟨Nat.le_of_ble_eq_true rfl, Nat.le_of_ble_eq_true rfl⟩ rfl hl.1 (Nat.le_of_ble_eq_true rfl) dX9_isPossible_278 ⟨Nat.zero_le _, Nat.zero_le _⟩ (fun r_278 z_278 => ?_)
                            refine lv_if_eq (tgt := 288) hx hb dX9_isPossible_281 (by decide) (fun c_281 => ?_) (fun c_281 => ?_)
                            · skip
                              rw [z_278] at c_281
                              have k_281 := bI_f.mp c_281
                              refine lv_iconst (v := 0) hx hb dX9_isPossible_288 (by decide) ?_
                              exact q_pretz X w dX9_isPossible_289 (rfl) (by exact bI_0 (fun q => by have q := possB_iff.mp q; exact k_281 q.2.2.2.2.2.2.2.2.2.2))
                            · skip
                              rw [z_278] at c_281
                              have k_281 := bI_t.mp c_281
                              refine lv_iconst (v := 1) hx hb dX9_isPossible_284 (by decide) ?_
                              refine lv_goto (tgt := 289) hx hb dX9_isPossible_285 (by decide) ?_
                              exact q_pretz X w dX9_isPossible_289 (rfl) (by exact bI_1 (possB_iff.mpr ⟨hL, hS, k_74, fun _ => k_101, fun q => absurd q k_114, hD, fun _ => ⟨k_205, by cases gg with | false => rfl | true => exact absurd ((congrArg Int32.toInt h_2).symm.trans k_212) (by decide)⟩, k_225, k_243, by omega, k_281⟩))
                      · skip
                        have k_225 : (reps (rowR Rw)) = 0 := (g_eq z_222 (show (0 : Int32).toInt = 0 from rfl)).mp c_225
                        refine lv_iconst (v := 0) hx hb dX9_isPossible_228 (by decide) ?_
                        exact q_pretz X w dX9_isPossible_229 (rfl) (by exact bI_0 (fun q => by have q := possB_iff.mp q; exact q.2.2.2.2.2.2.2.1 k_225))
                    · skip
                      have k_212 : ¬ (((I 14).toInt) = 0) := fun h => c_212 ((g_eq rfl (show (0 : Int32).toInt = 0 from rfl)).mpr h)
                      refine lv_iconst (v := 0) hx hb dX9_isPossible_215 (by decide) ?_
                      exact q_pretz X w dX9_isPossible_216 (rfl) (by exact bI_0 (fun q => by have q := possB_iff.mp q; exact k_212 ((congrArg Int32.toInt h_2).trans (by rw [(q.2.2.2.2.2.2.1 k_189).2]; rfl))))
              · skip
                have k_139 : ¬ (4 ≤ k) := fun h => c_139 ((g_le (show (4 : Int32).toInt = 4 from rfl) q_k).mpr h)
                refine lv_aload_n hx hb dX9_isPossible_142 rfl (lv_at hl 3 rfl) ?_
                refine mg_read X w dX9_isPossible_143 ?_
                refine lv_bipush (v := 24) hx hb dX9_isPossible_146 (by decide) ?_
                refine lv_iload_n hx hb dX9_isPossible_148 rfl (lv_at hl 0 rfl) ?_
                refine lv_iadd hx hb dX9_isPossible_149 ?_
                refine lv_topi (fun x_149 e_149 => ?_)
                have p_149 : x_149.toInt = (24 + k) := by rw [e_149]; exact t_add (show (24 : Int32).toInt = 24 from rfl) q_k (by omega) (by omega)
                refine ml_read X w (g_in p_149 (by omega)) dX9_isPossible_150 ?_
                refine q_topE (y := Rw 3 (24 + k).toNat) (congrArg (Rw 3) (g_tn p_149)) ?_
                have y_150 : Rw 3 ((24 + k)).toNat = rowR Rw (24 + k) := (rowR_eq (by omega)).symm
                refine lv_if_eq (tgt := 175) hx hb dX9_isPossible_151 (by decide) (fun c_151 => ?_) (fun c_151 => ?_)
                · skip
                  have k_151 : (rv (rowR Rw) (24 + k)) = 0 := (g_eq (congrArg Int32.toInt y_150) (show (0 : Int32).toInt = 0 from rfl)).mp c_151
                  obtain ⟨x_175, e_175⟩ : ∃ z : Int32, z = (v_k + 1) := ⟨_, rfl⟩
                  have p_175 : x_175.toInt = (k + 1) := by rw [e_175]; exact t_add q_k (show (1 : Int32).toInt = 1 from rfl) (by omega) (by omega)
                  refine lv_iinc (v := x_175) (lv' := [(3, .int x_175), (2, .int v_sm), (1, .int (Rw 3 (0 : Int).toNat)), (0, .ref (b + 45))]) hx hb dX9_isPossible_175 hl (k := 0) rfl (by rw [e_175]; rfl) (by decide) rfl (fun ls hl => ?_)
                  refine lv_goto (tgt := 137) hx hb dX9_isPossible_178 (by decide) ?_
                  refine ih_137 ⟨x_175, (k + 1)⟩ ⟨p_175, by dsimp only; refine ⟨by omega, fun j a1 a2 => ?_⟩; rcases (show j < k ∨ j = k by omega) with z | z; exact inv_137.2 j a1 z; (rw [z]; exact fun y => absurd k_151 y)⟩ (by dsimp only; omega) ls (lv_sub hl [0, 1, 2, 3] rfl)
                · skip
                  have k_151 : ¬ ((rv (rowR Rw) (24 + k)) = 0) := fun h => c_151 ((g_eq (congrArg Int32.toInt y_150) (show (0 : Int32).toInt = 0 from rfl)).mpr h)
                  refine lv_aload_n hx hb dX9_isPossible_154 rfl (lv_at hl 3 rfl) ?_
                  refine mg_read X w dX9_isPossible_155 ?_
                  refine lv_bipush (v := 20) hx hb dX9_isPossible_158 (by decide) ?_
                  refine lv_iload_n hx hb dX9_isPossible_160 rfl (lv_at hl 0 rfl) ?_
                  refine lv_iadd hx hb dX9_isPossible_161 ?_
                  refine lv_topi (fun x_161 e_161 => ?_)
                  have p_161 : x_161.toInt = (20 + k) := by rw [e_161]; exact t_add (show (20 : Int32).toInt = 20 from rfl) q_k (by omega) (by omega)
                  refine ml_read X w (g_in p_161 (by omega)) dX9_isPossible_162 ?_
                  refine q_topE (y := Rw 3 (20 + k).toNat) (congrArg (Rw 3) (g_tn p_161)) ?_
                  have y_162 : Rw 3 ((20 + k)).toNat = rowR Rw (20 + k) := (rowR_eq (by omega)).symm
                  refine lv_iconst (v := 1) hx hb dX9_isPossible_163 (by decide) ?_
                  refine lv_sipush (v := 400) hx hb dX9_isPossible_164 (by decide) ?_
                  refine q_cPS X w (c_X9_isBetween l (Rw 3 (20 + k).toNat) 1 400 (rv (rowR Rw) (20 + k)) 1 400 (congrArg Int32.toInt y_162) (show (1 : Int32).toInt = 1 from rfl) (show (400 : Int32).toInt = 400 from rfl) D t b n (mS t b σ0 I Rw)) v_X9_70 rfl ⟨Nat.le_of_ble_eq_true rfl, Nat.le_of_ble_eq_true rfl⟩ rfl hl.1 (Nat.le_of_ble_eq_true rfl) dX9_isPossible_167 ⟨Nat.zero_le _, Nat.zero_le _⟩ (fun r_167 z_167 => ?_)
                  refine lv_if_ne (tgt := 175) hx hb dX9_isPossible_170 (by decide) (fun c_170 => ?_) (fun c_170 => ?_)
                  · skip
                    rw [z_167] at c_170
                    have k_170 := bI_t.mp c_170
                    obtain ⟨x_175, e_175⟩ : ∃ z : Int32, z = (v_k + 1) := ⟨_, rfl⟩
                    have p_175 : x_175.toInt = (k + 1) := by rw [e_175]; exact t_add q_k (show (1 : Int32).toInt = 1 from rfl) (by omega) (by omega)
                    refine lv_iinc (v := x_175) (lv' := [(3, .int x_175), (2, .int v_sm), (1, .int (Rw 3 (0 : Int).toNat)), (0, .ref (b + 45))]) hx hb dX9_isPossible_175 hl (k := 0) rfl (by rw [e_175]; rfl) (by decide) rfl (fun ls hl => ?_)
                    refine lv_goto (tgt := 137) hx hb dX9_isPossible_178 (by decide) ?_
                    refine ih_137 ⟨x_175, (k + 1)⟩ ⟨p_175, by dsimp only; refine ⟨by omega, fun j a1 a2 => ?_⟩; rcases (show j < k ∨ j = k by omega) with z | z; exact inv_137.2 j a1 z; (rw [z]; exact fun _ => k_170)⟩ (by dsimp only; omega) ls (lv_sub hl [0, 1, 2, 3] rfl)
                  · skip
                    rw [z_167] at c_170
                    have k_170 := bI_f.mp c_170
                    refine lv_iconst (v := 0) hx hb dX9_isPossible_173 (by decide) ?_
                    exact q_pretz X w dX9_isPossible_174 (rfl) (by exact bI_0 (fun q => by have q := possB_iff.mp q; exact k_170 (q.2.2.2.2.2.1 k (by omega) (by omega) k_151)))
            · skip
              have k_114 : (rv (rowR Rw) 16) = 2 := (g_eq (congrArg Int32.toInt y_112) (show (2 : Int32).toInt = 2 from rfl)).mp c_114
              refine lv_aload_n hx hb dX9_isPossible_117 rfl (lv_at hl 3 rfl) ?_
              refine mg_read X w dX9_isPossible_118 ?_
              refine lv_bipush (v := 18) hx hb dX9_isPossible_121 (by decide) ?_
              refine ml_read X w (g_in (show (18 : Int32).toInt = 18 from rfl) (by omega)) dX9_isPossible_123 ?_
              refine q_topE (y := Rw 3 (18 : Int).toNat) (congrArg (Rw 3) (g_tn (show (18 : Int32).toInt = 18 from rfl))) ?_
              have y_123 : Rw 3 ((18 : Int)).toNat = rowR Rw 18 := (rowR_eq (by omega)).symm
              refine lv_iconst (v := 1) hx hb dX9_isPossible_124 (by decide) ?_
              refine lv_bipush (v := 60) hx hb dX9_isPossible_125 (by decide) ?_
              refine q_cPS X w (c_X9_isBetween l (Rw 3 (18 : Int).toNat) 1 60 (rv (rowR Rw) 18) 1 60 (congrArg Int32.toInt y_123) (show (1 : Int32).toInt = 1 from rfl) (show (60 : Int32).toInt = 60 from rfl) D t b n (mS t b σ0 I Rw)) v_X9_70 rfl ⟨Nat.le_of_ble_eq_true rfl, Nat.le_of_ble_eq_true rfl⟩ rfl hl.1 (Nat.le_of_ble_eq_true rfl) dX9_isPossible_127 ⟨Nat.zero_le _, Nat.zero_le _⟩ (fun r_127 z_127 => ?_)
              refine lv_if_ne (tgt := 135) hx hb dX9_isPossible_130 (by decide) (fun c_130 => ?_) (fun c_130 => ?_)
              · skip
                rw [z_127] at c_130
                have k_130 := bI_t.mp c_130
                refine lv_iconst (v := 0) hx hb dX9_isPossible_135 (by decide) ?_
                refine lv_istore_n (lv' := [(3, .int 0), (2, .int v_sm), (1, .int (Rw 3 (0 : Int).toNat)), (0, .ref (b + 45))]) hx hb dX9_isPossible_136 rfl hl (by decide) rfl (fun ls hl => ?_)
                refine q_loop (α := Int32 × Int) (fun a => a.1.toInt = a.2 ∧ ((0 ≤ a.2 ∧ a.2 ≤ 4) ∧ ∀ j : Int, 0 ≤ j → j < a.2 → rv (rowR Rw) (24 + j) ≠ 0 → 1 ≤ rv (rowR Rw) (20 + j) ∧ rv (rowR Rw) (20 + j) ≤ 400)) (fun a => (4 - a.2).toNat) (fun a => ∀ ls : Array Slot, lv_has ls 4 [(3, .int a.1), (2, .int v_sm), (1, .int (Rw 3 (0 : Int).toNat)), (0, .ref (b + 45))] → W p l e (qR 2 0 0) s m args below meth c s.heap [] 0 0 (MQ below (vp_Si (fun z => z = bI (decide (possB (rowR Rw) gg = true)))) args s 0 0 (fun _ => False)) (F0 m 137 ls [])) ?_ ⟨0, 0⟩ ⟨(show (0 : Int32).toInt = 0 from rfl), by dsimp only; exact ⟨by omega, fun j a b => by omega⟩⟩ ls (lv_sub hl [0, 1, 2, 3] rfl)
                rintro ⟨v_k, k⟩ ⟨q_k, inv_137⟩ ih_137 ls hl
                dsimp only at q_k inv_137 hl
                refine lv_iload_n hx hb dX9_isPossible_137 rfl (lv_at hl 0 rfl) ?_
                refine lv_iconst (v := 4) hx hb dX9_isPossible_138 (by decide) ?_
                refine lv_icmp_ge (tgt := 181) hx hb dX9_isPossible_139 (by decide) (fun c_139 => ?_) (fun c_139 => ?_)
                · skip
                  have k_139 : 4 ≤ k := (g_le (show (4 : Int32).toInt = 4 from rfl) q_k).mp c_139
                  have hD : ∀ j : Int, 0 ≤ j → j < 4 → rv (rowR Rw) (24 + j) ≠ 0 → 1 ≤ rv (rowR Rw) (20 + j) ∧ rv (rowR Rw) (20 + j) ≤ 400 := fun j a1 a2 => inv_137.2 j a1 (by omega)
                  refine lv_aload_n hx hb dX9_isPossible_181 rfl (lv_at hl 3 rfl) ?_
                  refine mg_read X w dX9_isPossible_182 ?_
                  refine lv_bipush (v := 19) hx hb dX9_isPossible_185 (by decide) ?_
                  refine ml_read X w (g_in (show (19 : Int32).toInt = 19 from rfl) (by omega)) dX9_isPossible_187 ?_
                  refine q_topE (y := Rw 3 (19 : Int).toNat) (congrArg (Rw 3) (g_tn (show (19 : Int32).toInt = 19 from rfl))) ?_
                  have y_187 : Rw 3 ((19 : Int)).toNat = rowR Rw 19 := (rowR_eq (by omega)).symm
                  refine lv_iconst (v := 2) hx hb dX9_isPossible_188 (by decide) ?_
                  refine lv_icmp_ne (tgt := 217) hx hb dX9_isPossible_189 (by decide) (fun c_189 => ?_) (fun c_189 => ?_)
                  · skip
                    have k_189 : ¬ ((rv (rowR Rw) 19) = 2) := fun h => c_189 ((g_eq (congrArg Int32.toInt y_187) (show (2 : Int32).toInt = 2 from rfl)).mpr h)
                    refine lv_aload_n hx hb dX9_isPossible_217 rfl (lv_at hl 3 rfl) ?_
                    refine mg_read X w dX9_isPossible_218 ?_
                    refine lv_iconst (v := 0) hx hb dX9_isPossible_221 (by decide) ?_
                    refine q_cPS X w (c_X9_repeats_read l D t b n σ0 I Rw 0 0 (show (0 : Int32).toInt = 0 from rfl) (by rfl) (by exact hD)) v_X9_208 rfl ⟨Nat.le_of_ble_eq_true rfl, Nat.le_of_ble_eq_true rfl⟩ rfl hl.1 (Nat.le_of_ble_eq_true rfl) dX9_isPossible_222 ⟨Nat.zero_le _, Nat.zero_le _⟩ (fun r_222 z_222 => ?_)
                    refine lv_if_ne (tgt := 230) hx hb dX9_isPossible_225 (by decide) (fun c_225 => ?_) (fun c_225 => ?_)
                    · skip
                      have k_225 : ¬ ((reps (rowR Rw)) = 0) := fun h => c_225 ((g_eq z_222 (show (0 : Int32).toInt = 0 from rfl)).mpr h)
                      refine lv_aload_n hx hb dX9_isPossible_230 rfl (lv_at hl 3 rfl) ?_
                      refine mg_read X w dX9_isPossible_231 ?_
                      refine lv_bipush (v := 30) hx hb dX9_isPossible_234 (by decide) ?_
                      refine ml_read X w (g_in (show (30 : Int32).toInt = 30 from rfl) (by omega)) dX9_isPossible_236 ?_
                      refine q_topE (y := Rw 3 (30 : Int).toNat) (congrArg (Rw 3) (g_tn (show (30 : Int32).toInt = 30 from rfl))) ?_
                      have y_236 : Rw 3 ((30 : Int)).toNat = rowR Rw 30 := (rowR_eq (by omega)).symm
                      refine lv_iconst (v := 2) hx hb dX9_isPossible_237 (by decide) ?_
                      refine lv_bipush (v := 10) hx hb dX9_isPossible_238 (by decide) ?_
                      refine q_cPS X w (c_X9_isBetween l (Rw 3 (30 : Int).toNat) 2 10 (rv (rowR Rw) 30) 2 10 (congrArg Int32.toInt y_236) (show (2 : Int32).toInt = 2 from rfl) (show (10 : Int32).toInt = 10 from rfl) D t b n (mS t b σ0 I Rw)) v_X9_70 rfl ⟨Nat.le_of_ble_eq_true rfl, Nat.le_of_ble_eq_true rfl⟩ rfl hl.1 (Nat.le_of_ble_eq_true rfl) dX9_isPossible_240 ⟨Nat.zero_le _, Nat.zero_le _⟩ (fun r_240 z_240 => ?_)
                      refine lv_if_eq (tgt := 288) hx hb dX9_isPossible_243 (by decide) (fun c_243 => ?_) (fun c_243 => ?_)
                      · skip
                        rw [z_240] at c_243
                        have k_243 := bI_f.mp c_243
                        refine lv_iconst (v := 0) hx hb dX9_isPossible_288 (by decide) ?_
                        exact q_pretz X w dX9_isPossible_289 (rfl) (by exact bI_0 (fun q => by have q := possB_iff.mp q; exact k_243 q.2.2.2.2.2.2.2.2.1))
                      · skip
                        rw [z_240] at c_243
                        have k_243 := bI_t.mp c_243
                        refine lv_aload_n hx hb dX9_isPossible_246 rfl (lv_at hl 3 rfl) ?_
                        refine mg_read X w dX9_isPossible_247 ?_
                        refine lv_bipush (v := 31) hx hb dX9_isPossible_250 (by decide) ?_
                        refine ml_read X w (g_in (show (31 : Int32).toInt = 31 from rfl) (by omega)) dX9_isPossible_252 ?_
                        refine q_topE (y := Rw 3 (31 : Int).toNat) (congrArg (Rw 3) (g_tn (show (31 : Int32).toInt = 31 from rfl))) ?_
                        have y_252 : Rw 3 ((31 : Int)).toNat = rowR Rw 31 := (rowR_eq (by omega)).symm
                        refine lv_aload_n hx hb dX9_isPossible_253 rfl (lv_at hl 3 rfl) ?_
                        refine mg_read X w dX9_isPossible_254 ?_
                        refine lv_bipush (v := 30) hx hb dX9_isPossible_257 (by decide) ?_
                        refine ml_read X w (g_in (show (30 : Int32).toInt = 30 from rfl) (by omega)) dX9_isPossible_259 ?_
                        refine q_topE (y := Rw 3 (30 : Int).toNat) (congrArg (Rw 3) (g_tn (show (30 : Int32).toInt = 30 from rfl))) ?_
                        have y_259 : Rw 3 ((30 : Int)).toNat = rowR Rw 30 := (rowR_eq (by omega)).symm
                        refine lv_icmp_ge (tgt := 288) hx hb dX9_isPossible_260 (by decide) (fun c_260 => ?_) (fun c_260 => ?_)
                        · skip
                          have k_260 : (rv (rowR Rw) 30) ≤ (rv (rowR Rw) 31) := (g_le (congrArg Int32.toInt y_259) (congrArg Int32.toInt y_252)).mp c_260
                          refine lv_iconst (v := 0) hx hb dX9_isPossible_288 (by decide) ?_
                          exact q_pretz X w dX9_isPossible_289 (rfl) (by exact bI_0 (fun q => by have q := possB_iff.mp q; exact absurd q.2.2.2.2.2.2.2.2.2.1 (by omega)))
                        · skip
                          have k_260 : ¬ ((rv (rowR Rw) 30) ≤ (rv (rowR Rw) 31)) := fun h => c_260 ((g_le (congrArg Int32.toInt y_259) (congrArg Int32.toInt y_252)).mpr h)
                          refine lv_aload_n hx hb dX9_isPossible_263 rfl (lv_at hl 3 rfl) ?_
                          refine mg_read X w dX9_isPossible_264 ?_
                          refine lv_bipush (v := 32) hx hb dX9_isPossible_267 (by decide) ?_
                          refine ml_read X w (g_in (show (32 : Int32).toInt = 32 from rfl) (by omega)) dX9_isPossible_269 ?_
                          refine q_topE (y := Rw 3 (32 : Int).toNat) (congrArg (Rw 3) (g_tn (show (32 : Int32).toInt = 32 from rfl))) ?_
                          have y_269 : Rw 3 ((32 : Int)).toNat = rowR Rw 32 := (rowR_eq (by omega)).symm
                          refine lv_iconst (v := 1) hx hb dX9_isPossible_270 (by decide) ?_
                          refine lv_aload_n hx hb dX9_isPossible_271 rfl (lv_at hl 3 rfl) ?_
                          refine mg_read X w dX9_isPossible_272 ?_
                          refine lv_bipush (v := 30) hx hb dX9_isPossible_275 (by decide) ?_
                          refine ml_read X w (g_in (show (30 : Int32).toInt = 30 from rfl) (by omega)) dX9_isPossible_277 ?_
                          refine q_topE (y := Rw 3 (30 : Int).toNat) (congrArg (Rw 3) (g_tn (show (30 : Int32).toInt = 30 from rfl))) ?_
                          have y_277 : Rw 3 ((30 : Int)).toNat = rowR Rw 30 := (rowR_eq (by omega)).symm
                          refine q_cPS X w (c_X9_isBetween l (Rw 3 (32 : Int).toNat) 1 (Rw 3 (30 : Int).toNat) (rv (rowR Rw) 32) 1 (rv (rowR Rw) 30) (congrArg Int32.toInt y_269) (show (1 : Int32).toInt = 1 from rfl) (congrArg Int32.toInt y_277) D t b n (mS t b σ0 I Rw)) v_X9_70 rfl ⟨Nat.le_of_ble_eq_true rfl, Nat.le_of_ble_eq_true rfl⟩ rfl hl.1 (Nat.le_of_ble_eq_true rfl) dX9_isPossible_278 ⟨Nat.zero_le _, Nat.zero_le _⟩ (fun r_278 z_278 => ?_)
                          refine lv_if_eq (tgt := 288) hx hb dX9_isPossible_281 (by decide) (fun c_281 => ?_) (fun c_281 => ?_)
                          · skip
                            rw [z_278] at c_281
                            have k_281 := bI_f.mp c_281
                            refine lv_iconst (v := 0) hx hb dX9_isPossible_288 (by decide) ?_
                            exact q_pretz X w dX9_isPossible_289 (rfl) (by exact bI_0 (fun q => by have q := possB_iff.mp q; exact k_281 q.2.2.2.2.2.2.2.2.2.2))
                          · skip
                            rw [z_278] at c_281
                            have k_281 := bI_t.mp c_281
                            refine lv_iconst (v := 1) hx hb dX9_isPossible_284 (by decide) ?_
                            refine lv_goto (tgt := 289) hx hb dX9_isPossible_285 (by decide) ?_
                            exact q_pretz X w dX9_isPossible_289 (rfl) (by exact bI_1 (possB_iff.mpr ⟨hL, hS, k_74, fun _ => k_101, fun _ => k_130, hD, fun q => absurd q k_189, k_225, k_243, by omega, k_281⟩))
                    · skip
                      have k_225 : (reps (rowR Rw)) = 0 := (g_eq z_222 (show (0 : Int32).toInt = 0 from rfl)).mp c_225
                      refine lv_iconst (v := 0) hx hb dX9_isPossible_228 (by decide) ?_
                      exact q_pretz X w dX9_isPossible_229 (rfl) (by exact bI_0 (fun q => by have q := possB_iff.mp q; exact q.2.2.2.2.2.2.2.1 k_225))
                  · skip
                    have k_189 : (rv (rowR Rw) 19) = 2 := (g_eq (congrArg Int32.toInt y_187) (show (2 : Int32).toInt = 2 from rfl)).mp c_189
                    refine lv_aload_n hx hb dX9_isPossible_192 rfl (lv_at hl 3 rfl) ?_
                    refine mg_read X w dX9_isPossible_193 ?_
                    refine lv_bipush (v := 28) hx hb dX9_isPossible_196 (by decide) ?_
                    refine ml_read X w (g_in (show (28 : Int32).toInt = 28 from rfl) (by omega)) dX9_isPossible_198 ?_
                    refine q_topE (y := Rw 3 (28 : Int).toNat) (congrArg (Rw 3) (g_tn (show (28 : Int32).toInt = 28 from rfl))) ?_
                    have y_198 : Rw 3 ((28 : Int)).toNat = rowR Rw 28 := (rowR_eq (by omega)).symm
                    refine lv_iconst (v := 1) hx hb dX9_isPossible_199 (by decide) ?_
                    refine lv_bipush (v := 30) hx hb dX9_isPossible_200 (by decide) ?_
                    refine q_cPS X w (c_X9_isBetween l (Rw 3 (28 : Int).toNat) 1 30 (rv (rowR Rw) 28) 1 30 (congrArg Int32.toInt y_198) (show (1 : Int32).toInt = 1 from rfl) (show (30 : Int32).toInt = 30 from rfl) D t b n (mS t b σ0 I Rw)) v_X9_70 rfl ⟨Nat.le_of_ble_eq_true rfl, Nat.le_of_ble_eq_true rfl⟩ rfl hl.1 (Nat.le_of_ble_eq_true rfl) dX9_isPossible_202 ⟨Nat.zero_le _, Nat.zero_le _⟩ (fun r_202 z_202 => ?_)
                    refine lv_if_eq (tgt := 215) hx hb dX9_isPossible_205 (by decide) (fun c_205 => ?_) (fun c_205 => ?_)
                    · skip
                      rw [z_202] at c_205
                      have k_205 := bI_f.mp c_205
                      refine lv_iconst (v := 0) hx hb dX9_isPossible_215 (by decide) ?_
                      exact q_pretz X w dX9_isPossible_216 (rfl) (by exact bI_0 (fun q => by have q := possB_iff.mp q; exact k_205 (q.2.2.2.2.2.2.1 k_189).1))
                    · skip
                      rw [z_202] at c_205
                      have k_205 := bI_t.mp c_205
                      refine lv_aload_n hx hb dX9_isPossible_208 rfl (lv_at hl 3 rfl) ?_
                      refine mg_isTooGreat X w dX9_isPossible_209 ?_
                      refine lv_if_eq (tgt := 217) hx hb dX9_isPossible_212 (by decide) (fun c_212 => ?_) (fun c_212 => ?_)
                      · skip
                        have k_212 : ((I 14).toInt) = 0 := (g_eq rfl (show (0 : Int32).toInt = 0 from rfl)).mp c_212
                        refine lv_aload_n hx hb dX9_isPossible_217 rfl (lv_at hl 3 rfl) ?_
                        refine mg_read X w dX9_isPossible_218 ?_
                        refine lv_iconst (v := 0) hx hb dX9_isPossible_221 (by decide) ?_
                        refine q_cPS X w (c_X9_repeats_read l D t b n σ0 I Rw 0 0 (show (0 : Int32).toInt = 0 from rfl) (by rfl) (by exact hD)) v_X9_208 rfl ⟨Nat.le_of_ble_eq_true rfl, Nat.le_of_ble_eq_true rfl⟩ rfl hl.1 (Nat.le_of_ble_eq_true rfl) dX9_isPossible_222 ⟨Nat.zero_le _, Nat.zero_le _⟩ (fun r_222 z_222 => ?_)
                        refine lv_if_ne (tgt := 230) hx hb dX9_isPossible_225 (by decide) (fun c_225 => ?_) (fun c_225 => ?_)
                        · skip
                          have k_225 : ¬ ((reps (rowR Rw)) = 0) := fun h => c_225 ((g_eq z_222 (show (0 : Int32).toInt = 0 from rfl)).mpr h)
                          refine lv_aload_n hx hb dX9_isPossible_230 rfl (lv_at hl 3 rfl) ?_
                          refine mg_read X w dX9_isPossible_231 ?_
                          refine lv_bipush (v := 30) hx hb dX9_isPossible_234 (by decide) ?_
                          refine ml_read X w (g_in (show (30 : Int32).toInt = 30 from rfl) (by omega)) dX9_isPossible_236 ?_
                          refine q_topE (y := Rw 3 (30 : Int).toNat) (congrArg (Rw 3) (g_tn (show (30 : Int32).toInt = 30 from rfl))) ?_
                          have y_236 : Rw 3 ((30 : Int)).toNat = rowR Rw 30 := (rowR_eq (by omega)).symm
                          refine lv_iconst (v := 2) hx hb dX9_isPossible_237 (by decide) ?_
                          refine lv_bipush (v := 10) hx hb dX9_isPossible_238 (by decide) ?_
                          refine q_cPS X w (c_X9_isBetween l (Rw 3 (30 : Int).toNat) 2 10 (rv (rowR Rw) 30) 2 10 (congrArg Int32.toInt y_236) (show (2 : Int32).toInt = 2 from rfl) (show (10 : Int32).toInt = 10 from rfl) D t b n (mS t b σ0 I Rw)) v_X9_70 rfl ⟨Nat.le_of_ble_eq_true rfl, Nat.le_of_ble_eq_true rfl⟩ rfl hl.1 (Nat.le_of_ble_eq_true rfl) dX9_isPossible_240 ⟨Nat.zero_le _, Nat.zero_le _⟩ (fun r_240 z_240 => ?_)
                          refine lv_if_eq (tgt := 288) hx hb dX9_isPossible_243 (by decide) (fun c_243 => ?_) (fun c_243 => ?_)
                          · skip
                            rw [z_240] at c_243
                            have k_243 := bI_f.mp c_243
                            refine lv_iconst (v := 0) hx hb dX9_isPossible_288 (by decide) ?_
                            exact q_pretz X w dX9_isPossible_289 (rfl) (by exact bI_0 (fun q => by have q := possB_iff.mp q; exact k_243 q.2.2.2.2.2.2.2.2.1))
                          · skip
                            rw [z_240] at c_243
                            have k_243 := bI_t.mp c_243
                            refine lv_aload_n hx hb dX9_isPossible_246 rfl (lv_at hl 3 rfl) ?_
                            refine mg_read X w dX9_isPossible_247 ?_
                            refine lv_bipush (v := 31) hx hb dX9_isPossible_250 (by decide) ?_
                            refine ml_read X w (g_in (show (31 : Int32).toInt = 31 from rfl) (by omega)) dX9_isPossible_252 ?_
                            refine q_topE (y := Rw 3 (31 : Int).toNat) (congrArg (Rw 3) (g_tn (show (31 : Int32).toInt = 31 from rfl))) ?_
                            have y_252 : Rw 3 ((31 : Int)).toNat = rowR Rw 31 := (rowR_eq (by omega)).symm
                            refine lv_aload_n hx hb dX9_isPossible_253 rfl (lv_at hl 3 rfl) ?_
                            refine mg_read X w dX9_isPossible_254 ?_
                            refine lv_bipush (v := 30) hx hb dX9_isPossible_257 (by decide) ?_
                            refine ml_read X w (g_in (show (30 : Int32).toInt = 30 from rfl) (by omega)) dX9_isPossible_259 ?_
                            refine q_topE (y := Rw 3 (30 : Int).toNat) (congrArg (Rw 3) (g_tn (show (30 : Int32).toInt = 30 from rfl))) ?_
                            have y_259 : Rw 3 ((30 : Int)).toNat = rowR Rw 30 := (rowR_eq (by omega)).symm
                            refine lv_icmp_ge (tgt := 288) hx hb dX9_isPossible_260 (by decide) (fun c_260 => ?_) (fun c_260 => ?_)
                            · skip
                              have k_260 : (rv (rowR Rw) 30) ≤ (rv (rowR Rw) 31) := (g_le (congrArg Int32.toInt y_259) (congrArg Int32.toInt y_252)).mp c_260
                              refine lv_iconst (v := 0) hx hb dX9_isPossible_288 (by decide) ?_
                              exact q_pretz X w dX9_isPossible_289 (rfl) (by exact bI_0 (fun q => by have q := possB_iff.mp q; exact absurd q.2.2.2.2.2.2.2.2.2.1 (by omega)))
                            · skip
                              have k_260 : ¬ ((rv (rowR Rw) 30) ≤ (rv (rowR Rw) 31)) := fun h => c_260 ((g_le (congrArg Int32.toInt y_259) (congrArg Int32.toInt y_252)).mpr h)
                              refine lv_aload_n hx hb dX9_isPossible_263 rfl (lv_at hl 3 rfl) ?_
                              refine mg_read X w dX9_isPossible_264 ?_
                              refine lv_bipush (v := 32) hx hb dX9_isPossible_267 (by decide) ?_
                              refine ml_read X w (g_in (show (32 : Int32).toInt = 32 from rfl) (by omega)) dX9_isPossible_269 ?_
                              refine q_topE (y := Rw 3 (32 : Int).toNat) (congrArg (Rw 3) (g_tn (show (32 : Int32).toInt = 32 from rfl))) ?_
                              have y_269 : Rw 3 ((32 : Int)).toNat = rowR Rw 32 := (rowR_eq (by omega)).symm
                              refine lv_iconst (v := 1) hx hb dX9_isPossible_270 (by decide) ?_
                              refine lv_aload_n hx hb dX9_isPossible_271 rfl (lv_at hl 3 rfl) ?_
                              refine mg_read X w dX9_isPossible_272 ?_
                              refine lv_bipush (v := 30) hx hb dX9_isPossible_275 (by decide) ?_
                              refine ml_read X w (g_in (show (30 : Int32).toInt = 30 from rfl) (by omega)) dX9_isPossible_277 ?_
                              refine q_topE (y := Rw 3 (30 : Int).toNat) (congrArg (Rw 3) (g_tn (show (30 : Int32).toInt = 30 from rfl))) ?_
                              have y_277 : Rw 3 ((30 : Int)).toNat = rowR Rw 30 := (rowR_eq (by omega)).symm
                              refine q_cPS X w (c_X9_isBetween l (Rw 3 (32 : Int).toNat) 1 (Rw 3 (30 : Int).toNat) (rv (rowR Rw) 32) 1 (rv (rowR Rw) 30) (congrArg Int32.toInt y_269) (show (1 : Int32).toInt = 1 from rfl) (congrArg Int32.toInt y_277) D t b n (mS t b σ0 I Rw)) v_X9_70 rfl ⟨Nat.le_of_ble_eq_true rfl, Nat.le_of_ble_eq_true rfl⟩ rfl hl.1 (Nat.le_of_ble_eq_true rfl) dX9_isPossible_278 ⟨Nat.zero_le _, Nat.zero_le _⟩ (fun r_278 z_278 => ?_)
                              refine lv_if_eq (tgt := 288) hx hb dX9_isPossible_281 (by decide) (fun c_281 => ?_) (fun c_281 => ?_)
                              · skip
                                rw [z_278] at c_281
                                have k_281 := bI_f.mp c_281
                                refine lv_iconst (v := 0) hx hb dX9_isPossible_288 (by decide) ?_
                                exact q_pretz X w dX9_isPossible_289 (rfl) (by exact bI_0 (fun q => by have q := possB_iff.mp q; exact k_281 q.2.2.2.2.2.2.2.2.2.2))
                              · skip
                                rw [z_278] at c_281
                                have k_281 := bI_t.mp c_281
                                refine lv_iconst (v := 1) hx hb dX9_isPossible_284 (by decide) ?_
                                refine lv_goto (tgt := 289) hx hb dX9_isPossible_285 (by decide) ?_
                                exact q_pretz X w dX9_isPossible_289 (rfl) (by exact bI_1 (possB_iff.mpr ⟨hL, hS, k_74, fun _ => k_101, fun _ => k_130, hD, fun _ => ⟨k_205, by cases gg with | false => rfl | true => exact absurd ((congrArg Int32.toInt h_2).symm.trans k_212) (by decide)⟩, k_225, k_243, by omega, k_281⟩))
                        · skip
                          have k_225 : (reps (rowR Rw)) = 0 := (g_eq z_222 (show (0 : Int32).toInt = 0 from rfl)).mp c_225
                          refine lv_iconst (v := 0) hx hb dX9_isPossible_228 (by decide) ?_
                          exact q_pretz X w dX9_isPossible_229 (rfl) (by exact bI_0 (fun q => by have q := possB_iff.mp q; exact q.2.2.2.2.2.2.2.1 k_225))
                      · skip
                        have k_212 : ¬ (((I 14).toInt) = 0) := fun h => c_212 ((g_eq rfl (show (0 : Int32).toInt = 0 from rfl)).mpr h)
                        refine lv_iconst (v := 0) hx hb dX9_isPossible_215 (by decide) ?_
                        exact q_pretz X w dX9_isPossible_216 (rfl) (by exact bI_0 (fun q => by have q := possB_iff.mp q; exact k_212 ((congrArg Int32.toInt h_2).trans (by rw [(q.2.2.2.2.2.2.1 k_189).2]; rfl))))
                · skip
                  have k_139 : ¬ (4 ≤ k) := fun h => c_139 ((g_le (show (4 : Int32).toInt = 4 from rfl) q_k).mpr h)
                  refine lv_aload_n hx hb dX9_isPossible_142 rfl (lv_at hl 3 rfl) ?_
                  refine mg_read X w dX9_isPossible_143 ?_
                  refine lv_bipush (v := 24) hx hb dX9_isPossible_146 (by decide) ?_
                  refine lv_iload_n hx hb dX9_isPossible_148 rfl (lv_at hl 0 rfl) ?_
                  refine lv_iadd hx hb dX9_isPossible_149 ?_
                  refine lv_topi (fun x_149 e_149 => ?_)
                  have p_149 : x_149.toInt = (24 + k) := by rw [e_149]; exact t_add (show (24 : Int32).toInt = 24 from rfl) q_k (by omega) (by omega)
                  refine ml_read X w (g_in p_149 (by omega)) dX9_isPossible_150 ?_
                  refine q_topE (y := Rw 3 (24 + k).toNat) (congrArg (Rw 3) (g_tn p_149)) ?_
                  have y_150 : Rw 3 ((24 + k)).toNat = rowR Rw (24 + k) := (rowR_eq (by omega)).symm
                  refine lv_if_eq (tgt := 175) hx hb dX9_isPossible_151 (by decide) (fun c_151 => ?_) (fun c_151 => ?_)
                  · skip
                    have k_151 : (rv (rowR Rw) (24 + k)) = 0 := (g_eq (congrArg Int32.toInt y_150) (show (0 : Int32).toInt = 0 from rfl)).mp c_151
                    obtain ⟨x_175, e_175⟩ : ∃ z : Int32, z = (v_k + 1) := ⟨_, rfl⟩
                    have p_175 : x_175.toInt = (k + 1) := by rw [e_175]; exact t_add q_k (show (1 : Int32).toInt = 1 from rfl) (by omega) (by omega)
                    refine lv_iinc (v := x_175) (lv' := [(3, .int x_175), (2, .int v_sm), (1, .int (Rw 3 (0 : Int).toNat)), (0, .ref (b + 45))]) hx hb dX9_isPossible_175 hl (k := 0) rfl (by rw [e_175]; rfl) (by decide) rfl (fun ls hl => ?_)
                    refine lv_goto (tgt := 137) hx hb dX9_isPossible_178 (by decide) ?_
                    refine ih_137 ⟨x_175, (k + 1)⟩ ⟨p_175, by dsimp only; refine ⟨by omega, fun j a1 a2 => ?_⟩; rcases (show j < k ∨ j = k by omega) with z | z; exact inv_137.2 j a1 z; (rw [z]; exact fun y => absurd k_151 y)⟩ (by dsimp only; omega) ls (lv_sub hl [0, 1, 2, 3] rfl)
                  · skip
                    have k_151 : ¬ ((rv (rowR Rw) (24 + k)) = 0) := fun h => c_151 ((g_eq (congrArg Int32.toInt y_150) (show (0 : Int32).toInt = 0 from rfl)).mpr h)
                    refine lv_aload_n hx hb dX9_isPossible_154 rfl (lv_at hl 3 rfl) ?_
                    refine mg_read X w dX9_isPossible_155 ?_
                    refine lv_bipush (v := 20) hx hb dX9_isPossible_158 (by decide) ?_
                    refine lv_iload_n hx hb dX9_isPossible_160 rfl (lv_at hl 0 rfl) ?_
                    refine lv_iadd hx hb dX9_isPossible_161 ?_
                    refine lv_topi (fun x_161 e_161 => ?_)
                    have p_161 : x_161.toInt = (20 + k) := by rw [e_161]; exact t_add (show (20 : Int32).toInt = 20 from rfl) q_k (by omega) (by omega)
                    refine ml_read X w (g_in p_161 (by omega)) dX9_isPossible_162 ?_
                    refine q_topE (y := Rw 3 (20 + k).toNat) (congrArg (Rw 3) (g_tn p_161)) ?_
                    have y_162 : Rw 3 ((20 + k)).toNat = rowR Rw (20 + k) := (rowR_eq (by omega)).symm
                    refine lv_iconst (v := 1) hx hb dX9_isPossible_163 (by decide) ?_
                    refine lv_sipush (v := 400) hx hb dX9_isPossible_164 (by decide) ?_
                    refine q_cPS X w (c_X9_isBetween l (Rw 3 (20 + k).toNat) 1 400 (rv (rowR Rw) (20 + k)) 1 400 (congrArg Int32.toInt y_162) (show (1 : Int32).toInt = 1 from rfl) (show (400 : Int32).toInt = 400 from rfl) D t b n (mS t b σ0 I Rw)) v_X9_70 rfl ⟨Nat.le_of_ble_eq_true rfl, Nat.le_of_ble_eq_true rfl⟩ rfl hl.1 (Nat.le_of_ble_eq_true rfl) dX9_isPossible_167 ⟨Nat.zero_le _, Nat.zero_le _⟩ (fun r_167 z_167 => ?_)
                    refine lv_if_ne (tgt := 175) hx hb dX9_isPossible_170 (by decide) (fun c_170 => ?_) (fun c_170 => ?_)
                    · skip
                      rw [z_167] at c_170
                      have k_170 := bI_t.mp c_170
                      obtain ⟨x_175, e_175⟩ : ∃ z : Int32, z = (v_k + 1) := ⟨_, rfl⟩
                      have p_175 : x_175.toInt = (k + 1) := by rw [e_175]; exact t_add q_k (show (1 : Int32).toInt = 1 from rfl) (by omega) (by omega)
                      refine lv_iinc (v := x_175) (lv' := [(3, .int x_175), (2, .int v_sm), (1, .int (Rw 3 (0 : Int).toNat)), (0, .ref (b + 45))]) hx hb dX9_isPossible_175 hl (k := 0) rfl (by rw [e_175]; rfl) (by decide) rfl (fun ls hl => ?_)
                      refine lv_goto (tgt := 137) hx hb dX9_isPossible_178 (by decide) ?_
                      refine ih_137 ⟨x_175, (k + 1)⟩ ⟨p_175, by dsimp only; refine ⟨by omega, fun j a1 a2 => ?_⟩; rcases (show j < k ∨ j = k by omega) with z | z; exact inv_137.2 j a1 z; (rw [z]; exact fun _ => k_170)⟩ (by dsimp only; omega) ls (lv_sub hl [0, 1, 2, 3] rfl)
                    · skip
                      rw [z_167] at c_170
                      have k_170 := bI_f.mp c_170
                      refine lv_iconst (v := 0) hx hb dX9_isPossible_173 (by decide) ?_
                      exact q_pretz X w dX9_isPossible_174 (rfl) (by exact bI_0 (fun q => by have q := possB_iff.mp q; exact k_170 (q.2.2.2.2.2.1 k (by omega) (by omega) k_151)))
              · skip
                rw [z_127] at c_130
                have k_130 := bI_f.mp c_130
                refine lv_iconst (v := 0) hx hb dX9_isPossible_133 (by decide) ?_
                exact q_pretz X w dX9_isPossible_134 (rfl) (by exact bI_0 (fun q => by have q := possB_iff.mp q; exact k_130 (q.2.2.2.2.1 k_114)))
          · skip
            rw [z_98] at c_101
            have k_101 := bI_f.mp c_101
            refine lv_iconst (v := 0) hx hb dX9_isPossible_104 (by decide) ?_
            exact q_pretz X w dX9_isPossible_105 (rfl) (by exact bI_0 (fun q => by have q := possB_iff.mp q; exact k_101 (q.2.2.2.1 k_86)))
      · skip
        rw [z_71] at c_74
        have k_74 := bI_f.mp c_74
        refine lv_iconst (v := 0) hx hb dX9_isPossible_77 (by decide) ?_
        exact q_pretz X w dX9_isPossible_78 (rfl) (by exact bI_0 (fun q => by have q := possB_iff.mp q; exact k_74 q.2.2.1))
    · skip
      have k_55 : ¬ (30 ≤ sm) := fun h => c_55 ((g_le (show (30 : Int32).toInt = 30 from rfl) q_sm).mpr h)
      refine lv_iconst (v := 0) hx hb dX9_isPossible_58 (by decide) ?_
      exact q_pretz X w dX9_isPossible_59 (rfl) (by exact bI_0 (fun q => by have q := possB_iff.mp q; exact absurd q.2.1 (by rw [show rv (rowR Rw) 0 = k by omega]; omega)))
  · skip
    have k_13 : ¬ ((rv (rowR Rw) 0) ≤ k) := fun h => c_13 ((g_le (congrArg Int32.toInt y_5) q_k).mpr h)
    refine lv_aload_n hx hb dX9_isPossible_16 rfl (lv_at hl 3 rfl) ?_
    refine mg_read X w dX9_isPossible_17 ?_
    refine lv_iconst (v := 1) hx hb dX9_isPossible_20 (by decide) ?_
    refine lv_iload_n hx hb dX9_isPossible_21 rfl (lv_at hl 0 rfl) ?_
    refine lv_iadd hx hb dX9_isPossible_22 ?_
    refine lv_topi (fun x_22 e_22 => ?_)
    have p_22 : x_22.toInt = (1 + k) := by rw [e_22]; exact t_add (show (1 : Int32).toInt = 1 from rfl) q_k (by omega) (by omega)
    refine ml_read X w (g_in p_22 (by omega)) dX9_isPossible_23 ?_
    refine q_topE (y := Rw 3 (1 + k).toNat) (congrArg (Rw 3) (g_tn p_22)) ?_
    have y_23 : Rw 3 ((1 + k)).toNat = rowR Rw (1 + k) := (rowR_eq (by omega)).symm
    refine lv_iconst (v := 1) hx hb dX9_isPossible_24 (by decide) ?_
    refine lv_bipush (v := 60) hx hb dX9_isPossible_25 (by decide) ?_
    refine q_cPS X w (c_X9_isBetween l (Rw 3 (1 + k).toNat) 1 60 (rv (rowR Rw) (1 + k)) 1 60 (congrArg Int32.toInt y_23) (show (1 : Int32).toInt = 1 from rfl) (show (60 : Int32).toInt = 60 from rfl) D t b n (mS t b σ0 I Rw)) v_X9_70 rfl ⟨Nat.le_of_ble_eq_true rfl, Nat.le_of_ble_eq_true rfl⟩ rfl hl.1 (Nat.le_of_ble_eq_true rfl) dX9_isPossible_27 ⟨Nat.zero_le _, Nat.zero_le _⟩ (fun r_27 z_27 => ?_)
    refine lv_if_ne (tgt := 35) hx hb dX9_isPossible_30 (by decide) (fun c_30 => ?_) (fun c_30 => ?_)
    · skip
      rw [z_27] at c_30
      have k_30 := bI_t.mp c_30
      refine lv_iload_n hx hb dX9_isPossible_35 rfl (lv_at hl 1 rfl) ?_
      refine lv_aload_n hx hb dX9_isPossible_36 rfl (lv_at hl 3 rfl) ?_
      refine mg_read X w dX9_isPossible_37 ?_
      refine lv_iconst (v := 1) hx hb dX9_isPossible_40 (by decide) ?_
      refine lv_iload_n hx hb dX9_isPossible_41 rfl (lv_at hl 0 rfl) ?_
      refine lv_iadd hx hb dX9_isPossible_42 ?_
      refine lv_topi (fun x_42 e_42 => ?_)
      have p_42 : x_42.toInt = (1 + k) := by rw [e_42]; exact t_add (show (1 : Int32).toInt = 1 from rfl) q_k (by omega) (by omega)
      refine ml_read X w (g_in p_42 (by omega)) dX9_isPossible_43 ?_
      refine q_topE (y := Rw 3 (1 + k).toNat) (congrArg (Rw 3) (g_tn p_42)) ?_
      have y_43 : Rw 3 ((1 + k)).toNat = rowR Rw (1 + k) := (rowR_eq (by omega)).symm
      refine lv_iadd hx hb dX9_isPossible_44 ?_
      refine lv_topi (fun x_44 e_44 => ?_)
      have p_44 : x_44.toInt = (sm + (rv (rowR Rw) (1 + k))) := by rw [e_44]; exact t_add q_sm (congrArg Int32.toInt y_43) (by omega) (by omega)
      refine lv_istore_n (lv' := [(2, .int x_44), (3, .int v_k), (1, .int (Rw 3 (0 : Int).toNat)), (0, .ref (b + 45))]) hx hb dX9_isPossible_45 rfl hl (by decide) rfl (fun ls hl => ?_)
      obtain ⟨x_46, e_46⟩ : ∃ z : Int32, z = (v_k + 1) := ⟨_, rfl⟩
      have p_46 : x_46.toInt = (k + 1) := by rw [e_46]; exact t_add q_k (show (1 : Int32).toInt = 1 from rfl) (by omega) (by omega)
      refine lv_iinc (v := x_46) (lv' := [(3, .int x_46), (2, .int x_44), (1, .int (Rw 3 (0 : Int).toNat)), (0, .ref (b + 45))]) hx hb dX9_isPossible_46 hl (k := 1) rfl (by rw [e_46]; rfl) (by decide) rfl (fun ls hl => ?_)
      refine lv_goto (tgt := 11) hx hb dX9_isPossible_49 (by decide) ?_
      refine ih_11 ⟨x_44, x_46, (sm + (rv (rowR Rw) (1 + k))), (k + 1)⟩ ⟨p_44, p_46, by dsimp only; refine ⟨by omega, by rw [sumL_s (by omega), inv_11.2.1], by omega, fun j a1 a2 => ?_⟩; rcases (show j < k ∨ j = k by omega) with z | z; exact inv_11.2.2.2 j a1 z; (rw [z]; exact k_30)⟩ (by dsimp only; omega) ls (lv_sub hl [0, 1, 2, 3] rfl)
    · skip
      rw [z_27] at c_30
      have k_30 := bI_f.mp c_30
      refine lv_iconst (v := 0) hx hb dX9_isPossible_33 (by decide) ?_
      exact q_pretz X w dX9_isPossible_34 (rfl) (by exact bI_0 (fun q => by have q := possB_iff.mp q; exact k_30 (q.1 k (by omega) (by omega))))

set_option maxHeartbeats 4000000 in
set_option maxRecDepth 100000 in
theorem c_X9_findFirsts (l : Launch) (D : va_G) (t : Nat → ClassId) (b n : Nat) (σ0 : qM) (I : Nat → Int32) (Rw : Nat → Nat → Int32) (a_ca : Int32) (ca : Int) (e_ca : a_ca.toInt = ca) (h_1 : 0 ≤ ca ∧ ca < 6) (h_2 : okRow (rowM Rw ca)) : mV l yX9_findFirsts cX9_findFirsts 4 3 D t b n σ0 I Rw [.ref (b + 45), .int a_ca] (fun I1 R1 => I1 = I ∧ kpR [4] Rw R1 ∧ okF R1 ca ∧ (∀ j : Nat, ((j : Int) < 4042 * ca ∨ 4042 * ca + 4042 ≤ (j : Int)) → R1 4 j = Rw 4 j)) := by
  refine qV.of (by decide +kernel) (Nat.le_of_ble_eq_true rfl) (fun p e s m args below meth c X w _ ls hl => ?_)
  have hx := X.1
  have hb := X.2.1
  have hl : lv_has ls 4 [(0, .ref (b + 45)), (1, .int a_ca)] := hl
  refine lv_sipush (v := 4042) hx hb dX9_findFirsts_0 (by decide) ?_
  refine lv_iload_n hx hb dX9_findFirsts_3 rfl (lv_at hl 1 rfl) ?_
  refine lv_imul hx hb dX9_findFirsts_4 ?_
  refine lv_topi (fun x_4 e_4 => ?_)
  have p_4 : x_4.toInt = (4042 * ca) := by rw [e_4]; exact t_mul (show (4042 : Int32).toInt = 4042 from rfl) e_ca (by omega) (by omega)
  refine lv_sipush (v := (-2020)) hx hb dX9_findFirsts_5 (by decide) ?_
  refine lv_isub hx hb dX9_findFirsts_8 ?_
  refine lv_topi (fun x_8 e_8 => ?_)
  have p_8 : x_8.toInt = ((4042 * ca) - (-2020)) := by rw [e_8]; exact t_sub p_4 (show ((-2020) : Int32).toInt = (-2020) from rfl) (by omega) (by omega)
  refine lv_istore_n (lv' := [(2, .int x_8), (0, .ref (b + 45)), (1, .int a_ca)]) hx hb dX9_findFirsts_9 rfl hl (by decide) rfl (fun ls hl => ?_)
  refine lv_aload_n hx hb dX9_findFirsts_10 rfl (lv_at hl 1 rfl) ?_
  refine mg_firstOf X w dX9_findFirsts_11 ?_
  refine lv_iload_n hx hb dX9_findFirsts_14 rfl (lv_at hl 0 rfl) ?_
  refine lv_iconst (v := 1) hx hb dX9_findFirsts_15 (by decide) ?_
  refine lv_iadd hx hb dX9_findFirsts_16 ?_
  refine lv_topi (fun x_16 e_16 => ?_)
  have p_16 : x_16.toInt = (((4042 * ca) - (-2020)) + 1) := by rw [e_16]; exact t_add p_8 (show (1 : Int32).toInt = 1 from rfl) (by omega) (by omega)
  refine lv_aload_n hx hb dX9_findFirsts_17 rfl (lv_at hl 1 rfl) ?_
  refine lv_iload_n hx hb dX9_findFirsts_18 rfl (lv_at hl 2 rfl) ?_
  refine lv_bipush (v := 15) hx hb dX9_findFirsts_19 (by decide) ?_
  refine q_cPV X w (c_X9_of l D t b n σ0 I Rw a_ca 15 ca 15 e_ca (show (15 : Int32).toInt = 15 from rfl) (by first | assumption | omega) (by first | assumption | omega)) v_X9_80 (k := 45) rfl rfl rfl ⟨Nat.le_of_ble_eq_true rfl, Nat.le_of_ble_eq_true rfl⟩ rfl hl.1 (Nat.le_of_ble_eq_true rfl) dX9_findFirsts_21 ⟨Nat.zero_le _, Nat.zero_le _⟩ (fun r_21 z_21 => ?_)
  refine ms_firstOf (x := r_21) X w (g_in p_16 (by omega)) dX9_findFirsts_24 (fun H locs w => ?_)
  rw [g_tn p_16] at w
  refine lv_iconst (v := 1) hx hb dX9_findFirsts_25 (by decide) ?_
  refine lv_istore_n (lv' := [(3, .int 1), (2, .int x_8), (0, .ref (b + 45)), (1, .int a_ca)]) hx hb dX9_findFirsts_26 rfl hl (by decide) rfl (fun ls hl => ?_)
  refine q_loop (α := Int32 × Int × (Nat → Nat → Int32)) (fun a => a.1.toInt = a.2.1 ∧ (kpR [4] Rw a.2.2 ∧ (1 ≤ a.2.1 ∧ a.2.1 ≤ 2021) ∧ (∀ yy : Int, 1 ≤ yy → yy ≤ a.2.1 → (a.2.2 4 ((4042 * ca + yy) - (-2020)).toNat).toInt = fst (rowM Rw ca) yy) ∧ (∀ j : Nat, ((j : Int) < 4042 * ca ∨ 4042 * ca + 4042 ≤ (j : Int)) → a.2.2 4 j = Rw 4 j))) (fun a => (2021 - a.2.1).toNat) (fun a => ∀ (H : Heap) (locs : List Loc), qW D b n (mS t b σ0 I a.2.2) s H locs → ∀ ls : Array Slot, lv_has ls 4 [(3, .int a.1), (2, .int x_8), (0, .ref (b + 45)), (1, .int a_ca)] → W p l e (qR 3 0 0) s m args below meth c H locs 0 0 (MQ below (va_Qv (S := Nat × qM) (fun u => (fun n1 σ1 => n1 = n ∧ ∃ I1 R1, σ1 = mS t b σ0 I1 R1 ∧ I1 = I ∧ kpR [4] Rw R1 ∧ okF R1 ca ∧ (∀ j : Nat, ((j : Int) < 4042 * ca ∨ 4042 * ca + 4042 ≤ (j : Int)) → R1 4 j = Rw 4 j)) u.1 u.2) (fun u T => WB D b u.1 u.2 T.heap) (fun q => b ≤ q)) args s 0 0 (fun q => b ≤ q)) (F0 m 27 ls [])) ?_ ⟨1, 1, (va_up Rw 4 (upd (Rw 4) (((4042 * ca) - (-2020)) + 1).toNat r_21))⟩ ⟨(show (1 : Int32).toInt = 1 from rfl), by dsimp only; refine ⟨kpR.up kpR.rf (by decide), by omega, fun yy a1 a2 => ?_, fun j a => up_n _ _ _ _ (by omega)⟩; rw [show yy = 1 by omega, up_s2 (by omega), z_21]; exact (fst_1 (ρ := rowM Rw ca)).symm⟩ _ _ w ls (lv_sub hl [0, 1, 2, 3] rfl)
  rintro ⟨v_y, y, R_L27⟩ ⟨q_y, inv_27⟩ ih_27 H locs w ls hl
  dsimp only at q_y inv_27 hl w
  have e2 : R_L27 2 = Rw 2 := inv_27.1 2 (by decide)
  have eM : rowM R_L27 = rowM Rw := rowM_cg e2
  have hyb := fst_bd h_2 (y := y) (by omega) (by omega)
  have hyb2 := fst_bd h_2 (y := y + 1) (by omega) (by omega)
  have hyl := h_2.yl y
  have hys := fst_succ (rowM Rw ca) y
  refine lv_iload_n hx hb dX9_findFirsts_27 rfl (lv_at hl 0 rfl) ?_
  refine lv_sipush (v := 2021) hx hb dX9_findFirsts_28 (by decide) ?_
  refine lv_icmp_ge (tgt := 65) hx hb dX9_findFirsts_31 (by decide) (fun c_31 => ?_) (fun c_31 => ?_)
  · skip
    have k_31 : 2021 ≤ y := (g_le (show (2021 : Int32).toInt = 2021 from rfl) q_y).mp c_31
    refine lv_iconst (v := 0) hx hb dX9_findFirsts_65 (by decide) ?_
    refine lv_istore_n (lv' := [(3, .int 0), (2, .int x_8), (0, .ref (b + 45)), (1, .int a_ca)]) hx hb dX9_findFirsts_66 rfl hl (by decide) rfl (fun ls hl => ?_)
    refine q_loop (α := Int32 × Int × (Nat → Nat → Int32)) (fun a => a.1.toInt = a.2.1 ∧ (kpR [4] Rw a.2.2 ∧ (-2021 ≤ a.2.1 ∧ a.2.1 ≤ 0) ∧ (∀ yy : Int, a.2.1 < yy → yy ≤ 2021 → (a.2.2 4 ((4042 * ca + yy) - (-2020)).toNat).toInt = fst (rowM Rw ca) yy) ∧ (∀ j : Nat, ((j : Int) < 4042 * ca ∨ 4042 * ca + 4042 ≤ (j : Int)) → a.2.2 4 j = Rw 4 j))) (fun a => (a.2.1 + 2021).toNat) (fun a => ∀ (H : Heap) (locs : List Loc), qW D b n (mS t b σ0 I a.2.2) s H locs → ∀ ls : Array Slot, lv_has ls 4 [(3, .int a.1), (2, .int x_8), (0, .ref (b + 45)), (1, .int a_ca)] → W p l e (qR 3 0 0) s m args below meth c H locs 0 0 (MQ below (va_Qv (S := Nat × qM) (fun u => (fun n1 σ1 => n1 = n ∧ ∃ I1 R1, σ1 = mS t b σ0 I1 R1 ∧ I1 = I ∧ kpR [4] Rw R1 ∧ okF R1 ca ∧ (∀ j : Nat, ((j : Int) < 4042 * ca ∨ 4042 * ca + 4042 ≤ (j : Int)) → R1 4 j = Rw 4 j)) u.1 u.2) (fun u T => WB D b u.1 u.2 T.heap) (fun q => b ≤ q)) args s 0 0 (fun q => b ≤ q)) (F0 m 67 ls [])) ?_ ⟨0, 0, R_L27⟩ ⟨(show (0 : Int32).toInt = 0 from rfl), by dsimp only; exact ⟨inv_27.1, by omega, fun yy a1 a2 => inv_27.2.2.1 yy (by omega) (by omega), inv_27.2.2.2⟩⟩ _ _ w ls (lv_sub hl [0, 1, 2, 3] rfl)
    rintro ⟨v_y, y, R_L67⟩ ⟨q_y, inv_67⟩ ih_67 H locs w ls hl
    dsimp only at q_y inv_67 hl w
    have e2 : R_L67 2 = Rw 2 := inv_67.1 2 (by decide)
    have eM : rowM R_L67 = rowM Rw := rowM_cg e2
    have hyb := fst_bd h_2 (y := y) (by omega) (by omega)
    have hyb2 := fst_bd h_2 (y := y + 1) (by omega) (by omega)
    have hyl := h_2.yl y
    have hys := fst_succ (rowM Rw ca) y
    refine lv_iload_n hx hb dX9_findFirsts_67 rfl (lv_at hl 0 rfl) ?_
    refine lv_sipush (v := (-2020)) hx hb dX9_findFirsts_68 (by decide) ?_
    refine lv_icmp_lt (tgt := 105) hx hb dX9_findFirsts_71 (by decide) (fun c_71 => ?_) (fun c_71 => ?_)
    · skip
      have k_71 : y < (-2020) := (g_lt q_y (show ((-2020) : Int32).toInt = (-2020) from rfl)).mp c_71
      exact q_vret (post := (fun n1 σ1 => n1 = n ∧ ∃ I1 R1, σ1 = mS t b σ0 I1 R1 ∧ I1 = I ∧ kpR [4] Rw R1 ∧ okF R1 ca ∧ (∀ j : Nat, ((j : Int) < 4042 * ca ∨ 4042 * ca + 4042 ≤ (j : Int)) → R1 4 j = Rw 4 j))) X w dX9_findFirsts_105 ⟨rfl, _, _, rfl, rfl, by exact ⟨inv_67.1, fun yy a1 a2 => by rw [eM]; exact inv_67.2.2.1 yy (by omega) (by omega), inv_67.2.2.2⟩⟩
    · skip
      have k_71 : ¬ (y < (-2020)) := fun h => c_71 ((g_lt q_y (show ((-2020) : Int32).toInt = (-2020) from rfl)).mpr h)
      refine lv_aload_n hx hb dX9_findFirsts_74 rfl (lv_at hl 2 rfl) ?_
      refine mg_firstOf X w dX9_findFirsts_75 ?_
      refine lv_iload_n hx hb dX9_findFirsts_78 rfl (lv_at hl 1 rfl) ?_
      refine lv_iload_n hx hb dX9_findFirsts_79 rfl (lv_at hl 0 rfl) ?_
      refine lv_iadd hx hb dX9_findFirsts_80 ?_
      refine lv_topi (fun x_80 e_80 => ?_)
      have p_80 : x_80.toInt = (((4042 * ca) - (-2020)) + y) := by rw [e_80]; exact t_add p_8 q_y (by omega) (by omega)
      refine lv_aload_n hx hb dX9_findFirsts_81 rfl (lv_at hl 2 rfl) ?_
      refine mg_firstOf X w dX9_findFirsts_82 ?_
      refine lv_iload_n hx hb dX9_findFirsts_85 rfl (lv_at hl 1 rfl) ?_
      refine lv_iload_n hx hb dX9_findFirsts_86 rfl (lv_at hl 0 rfl) ?_
      refine lv_iadd hx hb dX9_findFirsts_87 ?_
      refine lv_topi (fun x_87 e_87 => ?_)
      have p_87 : x_87.toInt = (((4042 * ca) - (-2020)) + y) := by rw [e_87]; exact t_add p_8 q_y (by omega) (by omega)
      refine lv_iconst (v := 1) hx hb dX9_findFirsts_88 (by decide) ?_
      refine lv_iadd hx hb dX9_findFirsts_89 ?_
      refine lv_topi (fun x_89 e_89 => ?_)
      have p_89 : x_89.toInt = ((((4042 * ca) - (-2020)) + y) + 1) := by rw [e_89]; exact t_add p_87 (show (1 : Int32).toInt = 1 from rfl) (by omega) (by omega)
      refine ml_firstOf X w (g_in p_89 (by omega)) dX9_findFirsts_90 ?_
      refine q_topE (y := R_L67 4 ((((4042 * ca) - (-2020)) + y) + 1).toNat) (congrArg (R_L67 4) (g_tn p_89)) ?_
      have y_90 : (R_L67 4 (((((4042 * ca) - (-2020)) + y) + 1)).toNat).toInt = fst (rowM Rw ca) (y + 1) := by rw [show (((((4042 * ca) - (-2020)) + y) + 1)).toNat = ((4042 * ca + (y + 1)) - (-2020)).toNat by omega]; exact inv_67.2.2.1 (y + 1) (by omega) (by omega)
      refine lv_aload_n hx hb dX9_findFirsts_91 rfl (lv_at hl 2 rfl) ?_
      refine lv_iload_n hx hb dX9_findFirsts_92 rfl (lv_at hl 3 rfl) ?_
      refine lv_iload_n hx hb dX9_findFirsts_93 rfl (lv_at hl 0 rfl) ?_
      refine q_cPV X w (c_X9_lengthOf l D t b n σ0 I R_L67 a_ca v_y ca y e_ca q_y (by omega) (by rw [eM]; exact h_2)) v_X9_92 (k := 45) rfl rfl rfl ⟨Nat.le_of_ble_eq_true rfl, Nat.le_of_ble_eq_true rfl⟩ rfl hl.1 (Nat.le_of_ble_eq_true rfl) dX9_findFirsts_94 ⟨Nat.zero_le _, Nat.zero_le _⟩ (fun r_94 z_94 => ?_)
      refine lv_isub hx hb dX9_findFirsts_97 ?_
      refine lv_topi (fun x_97 e_97 => ?_)
      have p_97 : x_97.toInt = ((fst (rowM Rw ca) (y + 1)) - (ylen (rowM R_L67 ca) y)) := by rw [e_97]; exact t_sub y_90 z_94 (by rw [eM]; omega) (by rw [eM]; omega)
      refine ms_firstOf (x := x_97) X w (g_in p_80 (by omega)) dX9_findFirsts_98 (fun H locs w => ?_)
      rw [g_tn p_80] at w
      obtain ⟨x_99, e_99⟩ : ∃ z : Int32, z = (v_y + (-1)) := ⟨_, rfl⟩
      have p_99 : x_99.toInt = (y + (-1)) := by rw [e_99]; exact t_add q_y (show ((-1) : Int32).toInt = (-1) from rfl) (by omega) (by omega)
      refine lv_iinc (v := x_99) (lv' := [(3, .int x_99), (2, .int x_8), (0, .ref (b + 45)), (1, .int a_ca)]) hx hb dX9_findFirsts_99 hl (k := 0) rfl (by rw [e_99]; rfl) (by decide) rfl (fun ls hl => ?_)
      refine lv_goto (tgt := 67) hx hb dX9_findFirsts_102 (by decide) ?_
      refine ih_67 ⟨x_99, (y + (-1)), (va_up R_L67 4 (upd (R_L67 4) (((4042 * ca) - (-2020)) + y).toNat x_97))⟩ ⟨p_99, by dsimp only; refine ⟨inv_67.1.up (by decide), by omega, fun yy a1 a2 => ?_, fun j a => (up_n _ _ _ _ (by omega)).trans (inv_67.2.2.2 j a)⟩; by_cases z : yy = y; (rw [z, up_s2 (by omega)]; exact p_97.trans (by rw [eM]; omega)); (rw [up_n _ _ _ _ (by omega)]; exact inv_67.2.2.1 yy (by omega) (by omega))⟩ (by dsimp only; omega) _ _ w ls (lv_sub hl [0, 1, 2, 3] rfl)
  · skip
    have k_31 : ¬ (2021 ≤ y) := fun h => c_31 ((g_le (show (2021 : Int32).toInt = 2021 from rfl) q_y).mpr h)
    refine lv_aload_n hx hb dX9_findFirsts_34 rfl (lv_at hl 2 rfl) ?_
    refine mg_firstOf X w dX9_findFirsts_35 ?_
    refine lv_iload_n hx hb dX9_findFirsts_38 rfl (lv_at hl 1 rfl) ?_
    refine lv_iload_n hx hb dX9_findFirsts_39 rfl (lv_at hl 0 rfl) ?_
    refine lv_iadd hx hb dX9_findFirsts_40 ?_
    refine lv_topi (fun x_40 e_40 => ?_)
    have p_40 : x_40.toInt = (((4042 * ca) - (-2020)) + y) := by rw [e_40]; exact t_add p_8 q_y (by omega) (by omega)
    refine lv_iconst (v := 1) hx hb dX9_findFirsts_41 (by decide) ?_
    refine lv_iadd hx hb dX9_findFirsts_42 ?_
    refine lv_topi (fun x_42 e_42 => ?_)
    have p_42 : x_42.toInt = ((((4042 * ca) - (-2020)) + y) + 1) := by rw [e_42]; exact t_add p_40 (show (1 : Int32).toInt = 1 from rfl) (by omega) (by omega)
    refine lv_aload_n hx hb dX9_findFirsts_43 rfl (lv_at hl 2 rfl) ?_
    refine mg_firstOf X w dX9_findFirsts_44 ?_
    refine lv_iload_n hx hb dX9_findFirsts_47 rfl (lv_at hl 1 rfl) ?_
    refine lv_iload_n hx hb dX9_findFirsts_48 rfl (lv_at hl 0 rfl) ?_
    refine lv_iadd hx hb dX9_findFirsts_49 ?_
    refine lv_topi (fun x_49 e_49 => ?_)
    have p_49 : x_49.toInt = (((4042 * ca) - (-2020)) + y) := by rw [e_49]; exact t_add p_8 q_y (by omega) (by omega)
    refine ml_firstOf X w (g_in p_49 (by omega)) dX9_findFirsts_50 ?_
    refine q_topE (y := R_L27 4 (((4042 * ca) - (-2020)) + y).toNat) (congrArg (R_L27 4) (g_tn p_49)) ?_
    have y_50 : (R_L27 4 ((((4042 * ca) - (-2020)) + y)).toNat).toInt = fst (rowM Rw ca) y := by rw [show ((((4042 * ca) - (-2020)) + y)).toNat = ((4042 * ca + y) - (-2020)).toNat by omega]; exact inv_27.2.2.1 y (by omega) (by omega)
    refine lv_aload_n hx hb dX9_findFirsts_51 rfl (lv_at hl 2 rfl) ?_
    refine lv_iload_n hx hb dX9_findFirsts_52 rfl (lv_at hl 3 rfl) ?_
    refine lv_iload_n hx hb dX9_findFirsts_53 rfl (lv_at hl 0 rfl) ?_
    refine q_cPV X w (c_X9_lengthOf l D t b n σ0 I R_L27 a_ca v_y ca y e_ca q_y (by omega) (by rw [eM]; exact h_2)) v_X9_92 (k := 45) rfl rfl rfl ⟨Nat.le_of_ble_eq_true rfl, Nat.le_of_ble_eq_true rfl⟩ rfl hl.1 (Nat.le_of_ble_eq_true rfl) dX9_findFirsts_54 ⟨Nat.zero_le _, Nat.zero_le _⟩ (fun r_54 z_54 => ?_)
    refine lv_iadd hx hb dX9_findFirsts_57 ?_
    refine lv_topi (fun x_57 e_57 => ?_)
    have p_57 : x_57.toInt = ((fst (rowM Rw ca) y) + (ylen (rowM R_L27 ca) y)) := by rw [e_57]; exact t_add y_50 z_54 (by rw [eM]; omega) (by rw [eM]; omega)
    refine ms_firstOf (x := x_57) X w (g_in p_42 (by omega)) dX9_findFirsts_58 (fun H locs w => ?_)
    rw [g_tn p_42] at w
    obtain ⟨x_59, e_59⟩ : ∃ z : Int32, z = (v_y + 1) := ⟨_, rfl⟩
    have p_59 : x_59.toInt = (y + 1) := by rw [e_59]; exact t_add q_y (show (1 : Int32).toInt = 1 from rfl) (by omega) (by omega)
    refine lv_iinc (v := x_59) (lv' := [(3, .int x_59), (2, .int x_8), (0, .ref (b + 45)), (1, .int a_ca)]) hx hb dX9_findFirsts_59 hl (k := 0) rfl (by rw [e_59]; rfl) (by decide) rfl (fun ls hl => ?_)
    refine lv_goto (tgt := 27) hx hb dX9_findFirsts_62 (by decide) ?_
    refine ih_27 ⟨x_59, (y + 1), (va_up R_L27 4 (upd (R_L27 4) ((((4042 * ca) - (-2020)) + y) + 1).toNat x_57))⟩ ⟨p_59, by dsimp only; refine ⟨inv_27.1.up (by decide), by omega, fun yy a1 a2 => ?_, fun j a => (up_n _ _ _ _ (by omega)).trans (inv_27.2.2.2 j a)⟩; by_cases z : yy = y + 1; (rw [z, up_s2 (by omega)]; exact p_57.trans (by rw [eM]; omega)); (rw [up_n _ _ _ _ (by omega)]; exact inv_27.2.2.1 yy (by omega) (by omega))⟩ (by dsimp only; omega) _ _ w ls (lv_sub hl [0, 1, 2, 3] rfl)

set_option maxHeartbeats 4000000 in
set_option maxRecDepth 100000 in
theorem c_X9_lays (l : Launch) (D : va_G) (t : Nat → ClassId) (b n : Nat) (σ0 : qM) (I : Nat → Int32) (Rw : Nat → Nat → Int32) (a_ca : Int32) (ca : Int) (e_ca : a_ca.toInt = ca) (h_1 : 0 ≤ ca ∧ ca < 6) (h_2 : okRow (rowR Rw)) : mV l yX9_lays cX9_lays 3 4 D t b n σ0 I Rw [.ref (b + 45), .int a_ca] (fun I1 R1 => I1 = I ∧ kpR [2, 4] Rw R1 ∧ rowM R1 ca = rowR Rw ∧ okF R1 ca ∧ (∀ j : Nat, ((j : Int) < 33 * ca ∨ 33 * ca + 33 ≤ (j : Int)) → R1 2 j = Rw 2 j) ∧ (∀ j : Nat, ((j : Int) < 4042 * ca ∨ 4042 * ca + 4042 ≤ (j : Int)) → R1 4 j = Rw 4 j)) := by
  refine qV.of (by decide +kernel) (Nat.le_of_ble_eq_true rfl) (fun p e s m args below meth c X w _ ls hl => ?_)
  have hx := X.1
  have hb := X.2.1
  have hl : lv_has ls 3 [(0, .ref (b + 45)), (1, .int a_ca)] := hl
  refine lv_iconst (v := 0) hx hb dX9_lays_0 (by decide) ?_
  refine lv_istore_n (lv' := [(2, .int 0), (0, .ref (b + 45)), (1, .int a_ca)]) hx hb dX9_lays_1 rfl hl (by decide) rfl (fun ls hl => ?_)
  refine q_loop (α := Int32 × Int × (Nat → Nat → Int32)) (fun a => a.1.toInt = a.2.1 ∧ (kpR [2, 4] Rw a.2.2 ∧ a.2.2 4 = Rw 4 ∧ (0 ≤ a.2.1 ∧ a.2.1 ≤ 33) ∧ (∀ j : Int, 0 ≤ j → j < a.2.1 → a.2.2 2 ((33 * ca) + j).toNat = Rw 3 j.toNat) ∧ (∀ j : Nat, ((j : Int) < 33 * ca ∨ 33 * ca + 33 ≤ (j : Int)) → a.2.2 2 j = Rw 2 j))) (fun a => (33 - a.2.1).toNat) (fun a => ∀ (H : Heap) (locs : List Loc), qW D b n (mS t b σ0 I a.2.2) s H locs → ∀ ls : Array Slot, lv_has ls 3 [(2, .int a.1), (0, .ref (b + 45)), (1, .int a_ca)] → W p l e (qR 4 0 0) s m args below meth c H locs 0 0 (MQ below (va_Qv (S := Nat × qM) (fun u => (fun n1 σ1 => n1 = n ∧ ∃ I1 R1, σ1 = mS t b σ0 I1 R1 ∧ I1 = I ∧ kpR [2, 4] Rw R1 ∧ rowM R1 ca = rowR Rw ∧ okF R1 ca ∧ (∀ j : Nat, ((j : Int) < 33 * ca ∨ 33 * ca + 33 ≤ (j : Int)) → R1 2 j = Rw 2 j) ∧ (∀ j : Nat, ((j : Int) < 4042 * ca ∨ 4042 * ca + 4042 ≤ (j : Int)) → R1 4 j = Rw 4 j)) u.1 u.2) (fun u T => WB D b u.1 u.2 T.heap) (fun q => b ≤ q)) args s 0 0 (fun q => b ≤ q)) (F0 m 2 ls [])) ?_ ⟨0, 0, Rw⟩ ⟨(show (0 : Int32).toInt = 0 from rfl), by dsimp only; exact ⟨kpR.rf, rfl, by omega, fun j a b => by omega, fun j a => rfl⟩⟩ _ _ w ls (lv_sub hl [0, 1, 2] rfl)
  rintro ⟨v_k, k, R_L2⟩ ⟨q_k, inv_2⟩ ih_2 H locs w ls hl
  dsimp only at q_k inv_2 hl w
  refine lv_iload_n hx hb dX9_lays_2 rfl (lv_at hl 0 rfl) ?_
  refine lv_bipush (v := 33) hx hb dX9_lays_3 (by decide) ?_
  refine lv_icmp_ge (tgt := 31) hx hb dX9_lays_5 (by decide) (fun c_5 => ?_) (fun c_5 => ?_)
  · skip
    have k_5 : 33 ≤ k := (g_le (show (33 : Int32).toInt = 33 from rfl) q_k).mp c_5
    have hr : rowM R_L2 ca = rowR Rw := rowM_rowR (fun j a1 a2 => inv_2.2.2.2.1 j a1 (by omega))
    refine lv_aload_n hx hb dX9_lays_31 rfl (lv_at hl 1 rfl) ?_
    refine lv_iload_n hx hb dX9_lays_32 rfl (lv_at hl 2 rfl) ?_
    refine mm_cVR X w (c_X9_findFirsts l D t b n σ0 I R_L2 a_ca ca e_ca (by omega) (by rw [hr]; exact h_2)) v_X9_95 rfl rfl ⟨Nat.le_of_ble_eq_true rfl, Nat.le_of_ble_eq_true rfl⟩ rfl hl.1 (Nat.le_of_ble_eq_true rfl) dX9_lays_33 ⟨Nat.zero_le _, Nat.zero_le _⟩ (fun R_33 H locs z_33 w => ?_)
    exact q_vret (post := (fun n1 σ1 => n1 = n ∧ ∃ I1 R1, σ1 = mS t b σ0 I1 R1 ∧ I1 = I ∧ kpR [2, 4] Rw R1 ∧ rowM R1 ca = rowR Rw ∧ okF R1 ca ∧ (∀ j : Nat, ((j : Int) < 33 * ca ∨ 33 * ca + 33 ≤ (j : Int)) → R1 2 j = Rw 2 j) ∧ (∀ j : Nat, ((j : Int) < 4042 * ca ∨ 4042 * ca + 4042 ≤ (j : Int)) → R1 4 j = Rw 4 j))) X w dX9_lays_36 ⟨rfl, _, _, rfl, rfl, by have e2 : R_33 2 = R_L2 2 := z_33.1 2 (by decide); exact ⟨kpR.tr (J := [2, 4]) inv_2.1 z_33.1 (by decide) (by decide), (congrFun (rowM_cg e2) ca).trans hr, z_33.2.1, fun j a => (congrFun e2 j).trans (inv_2.2.2.2.2 j a), fun j a => (z_33.2.2 j a).trans (congrFun inv_2.2.1 j)⟩⟩
  · skip
    have k_5 : ¬ (33 ≤ k) := fun h => c_5 ((g_le (show (33 : Int32).toInt = 33 from rfl) q_k).mpr h)
    refine lv_aload_n hx hb dX9_lays_8 rfl (lv_at hl 1 rfl) ?_
    refine mg_calendar X w dX9_lays_9 ?_
    refine lv_bipush (v := 33) hx hb dX9_lays_12 (by decide) ?_
    refine lv_iload_n hx hb dX9_lays_14 rfl (lv_at hl 2 rfl) ?_
    refine lv_imul hx hb dX9_lays_15 ?_
    refine lv_topi (fun x_15 e_15 => ?_)
    have p_15 : x_15.toInt = (33 * ca) := by rw [e_15]; exact t_mul (show (33 : Int32).toInt = 33 from rfl) e_ca (by omega) (by omega)
    refine lv_iload_n hx hb dX9_lays_16 rfl (lv_at hl 0 rfl) ?_
    refine lv_iadd hx hb dX9_lays_17 ?_
    refine lv_topi (fun x_17 e_17 => ?_)
    have p_17 : x_17.toInt = ((33 * ca) + k) := by rw [e_17]; exact t_add p_15 q_k (by omega) (by omega)
    refine lv_aload_n hx hb dX9_lays_18 rfl (lv_at hl 1 rfl) ?_
    refine mg_read X w dX9_lays_19 ?_
    refine lv_iload_n hx hb dX9_lays_22 rfl (lv_at hl 0 rfl) ?_
    refine ml_read X w (g_in q_k (by omega)) dX9_lays_23 ?_
    refine q_topE (y := R_L2 3 k.toNat) (congrArg (R_L2 3) (g_tn q_k)) ?_
    refine ms_calendar (x := (R_L2 3 k.toNat)) X w (g_in p_17 (by omega)) dX9_lays_24 (fun H locs w => ?_)
    rw [g_tn p_17] at w
    obtain ⟨x_25, e_25⟩ : ∃ z : Int32, z = (v_k + 1) := ⟨_, rfl⟩
    have p_25 : x_25.toInt = (k + 1) := by rw [e_25]; exact t_add q_k (show (1 : Int32).toInt = 1 from rfl) (by omega) (by omega)
    refine lv_iinc (v := x_25) (lv' := [(2, .int x_25), (0, .ref (b + 45)), (1, .int a_ca)]) hx hb dX9_lays_25 hl (k := 0) rfl (by rw [e_25]; rfl) (by decide) rfl (fun ls hl => ?_)
    refine lv_goto (tgt := 2) hx hb dX9_lays_28 (by decide) ?_
    refine ih_2 ⟨x_25, (k + 1), (va_up R_L2 2 (upd (R_L2 2) ((33 * ca) + k).toNat (R_L2 3 k.toNat)))⟩ ⟨p_25, by dsimp only; refine ⟨inv_2.1.up (by decide), (va_up_ne _ _ (by decide)).trans inv_2.2.1, by omega, fun j a1 a2 => ?_, fun j a => (up_n _ _ _ _ (by omega)).trans (inv_2.2.2.2.2 j a)⟩; by_cases z : j = k; (rw [z, up_s2 (by omega)]; exact congrFun (inv_2.1 3 (by decide)) _); (rw [up_n _ _ _ _ (by omega)]; exact inv_2.2.2.2.1 j a1 (by omega))⟩ (by dsimp only; omega) _ _ w ls (lv_sub hl [0, 1, 2] rfl)
