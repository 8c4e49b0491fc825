theorem toC_day {r : Int} (h : r = -2147483647 ∨ -999999 ≤ r) (h2 : r ≤ 999999) : (-999999 ≤ toC r ∧ toC r ≤ 999999) ↔ r ≠ -2147483647 := by
  unfold toC
  by_cases a : r = -2147483647
  · rw [if_pos a]
    exact ⟨fun z => by omega, fun z => absurd a z⟩
  · rw [if_neg a]
    exact ⟨fun _ => a, fun _ => by omega⟩
theorem cdF_1 {p q : Prop} [Decidable p] [Decidable q] {x : Int} (hp : ¬ p) : (if 0 < cd2 p q then cd2 p q else if x = -2147483647 then 3 else 0) = 1 := by rw [cd2_1 hp]; rfl
theorem cdF_2 {p q : Prop} [Decidable p] [Decidable q] {x : Int} (hp : p) (hq : ¬ q) : (if 0 < cd2 p q then cd2 p q else if x = -2147483647 then 3 else 0) = 2 := by rw [cd2_2 hp hq]; rfl
theorem cdF_3 {p q : Prop} [Decidable p] [Decidable q] {x : Int} (hp : p) (hq : q) (h : x = -2147483647) : (if 0 < cd2 p q then cd2 p q else if x = -2147483647 then 3 else 0) = 3 := by rw [cd2_0 hp hq, if_neg (by omega), if_pos h]
theorem cdF_0 {p q : Prop} [Decidable p] [Decidable q] {x : Int} (hp : p) (hq : q) (h : x ≠ -2147483647) : (if 0 < cd2 p q then cd2 p q else if x = -2147483647 then 3 else 0) = 0 := by rw [cd2_0 hp hq, if_neg (by omega), if_neg h]
theorem plI_rg {rk days : Int → Int} {nf r : Int} {pl : Int → Int} (hd : ∀ j : Int, 0 ≤ j → j < nf → days j = -2147483647 ∨ -999999 ≤ days j) (h : ∀ j : Int, pl j = -2147483647 ∨ -999999 ≤ pl j) : ∀ k : Nat, (k : Int) ≤ nf → ∀ j : Int, plI rk days nf r pl k j = -2147483647 ∨ -999999 ≤ plI rk days nf r pl k j
  | 0, _, j => h j
  | k + 1, hk, j => by
    rw [plI]
    by_cases c : rk k = r ∧ days k ≠ -2147483647
    · rw [if_pos c]
      show (if j = (k : Int) then _ else plI rk days nf r pl k j) = _ ∨ _ ≤ (if j = (k : Int) then _ else plI rk days nf r pl k j)
      by_cases e : j = (k : Int)
      · rw [if_pos e]
        have b := frN_bd (plI rk days nf r pl k) nf 8 (days k)
        have d := hd k (by omega) (by omega)
        right
        rcases d with d | d
        · exact absurd d c.2
        · omega
      · rw [if_neg e]
        exact plI_rg hd h k (by omega) j
    · rw [if_neg c]
      exact plI_rg hd h k (by omega) j
theorem plO_rg {rk days : Int → Int} {nf : Int} (hn : 0 ≤ nf) (hd : ∀ j : Int, 0 ≤ j → j < nf → days j = -2147483647 ∨ -999999 ≤ days j) : ∀ k : Nat, ∀ j : Int, plO rk days nf k j = -2147483647 ∨ -999999 ≤ plO rk days nf k j
  | 0, _ => Or.inl rfl
  | k + 1, j => by
    rw [plO]
    exact plI_rg hd (plO_rg hn hd k) nf.toNat (by omega) j
theorem toC_none {r : Int} (h : r = -2147483647 ∨ -999999 ≤ r) : toC r = -2147483648 ↔ r = -2147483647 := by
  unfold toC
  by_cases a : r = -2147483647
  · rw [if_pos a]
    exact ⟨fun _ => a, fun _ => rfl⟩
  · rw [if_neg a]
    omega

set_option maxHeartbeats 2000000 in
set_option maxRecDepth 100000 in
theorem c_X8_feast (l : Launch) (D : va_G) (t : Nat → ClassId) (b n : Nat) (σ0 : qM) (A : Nat → Int32) (B : Nat → Nat → Int32) (P : Nat → Nat → Option Nat) (hl0 : l.stackTraces = false) (rw_ : Int → Row) (fe : Int → Int → Int32) (hQ : stQ t b σ0 A P 0 rw_ fe) (a_f : Int32) (f : Int) (e_f : a_f.toInt = f) (a_yr : Int32) (yr : Int) (e_yr : a_yr.toInt = yr) : xC l yX8_feast cX8_feast 3 (some .int) 8 3 18 D t b n (cS t b σ0 A B P) [.ref (b + 0), .int a_f, .int a_yr] (fun z n1 σ1 => n1 = n ∧ (∃ B1, σ1 = cS t b σ0 A B1 P ∧ kpR [4, 5] B B1) ∧ (if 0 < cd2 (0 ≤ f ∧ f < (A 21).toInt) (-2000 ≤ yr ∧ yr ≤ 2000) then cd2 (0 ≤ f ∧ f < (A 21).toInt) (-2000 ≤ yr ∧ yr ≤ 2000) else if fday rw_ fe yr f = -2147483647 then 3 else 0) = 0 ∧ z.toInt = fday rw_ fe yr f) (fun E n1 σ1 => (∃ B1, σ1 = cS t b σ0 A B1 P ∧ kpR [4, 5] B B1) ∧ xE E = (if 0 < cd2 (0 ≤ f ∧ f < (A 21).toInt) (-2000 ≤ yr ∧ yr ≤ 2000) then cd2 (0 ≤ f ∧ f < (A 21).toInt) (-2000 ≤ yr ∧ yr ≤ 2000) else if fday rw_ fe yr f = -2147483647 then 3 else 0)) := by
  refine xC.of (by decide +kernel) (Nat.le_of_ble_eq_true rfl) (fun p e s m args below meth c X hE hno w ls hl => ?_)
  have hx := X.1
  have hb := X.2.1
  have hl : lv_has ls 3 [(0, .ref (b + 0)), (1, .int a_f), (2, .int a_yr)] := hl
  have hnn : (0 ≤ (A 20).toInt ∧ (A 20).toInt ≤ 6) ∧ (0 ≤ (A 21).toInt ∧ (A 21).toInt ≤ 8) := hQ.1
  refine lv_aload_n hx hb dX8_feast_0 rfl (lv_at hl 0 rfl) ?_
  refine lv_iload_n hx hb dX8_feast_1 rfl (lv_at hl 1 rfl) ?_
  refine x_cVV X hE hno w (c_X8_checkFeast l D t b n σ0 A B P hl0 hQ.ok a_f f e_f) v_X8_244 (k := 0) rfl rfl rfl ⟨Nat.le_of_ble_eq_true rfl, Nat.le_of_ble_eq_true rfl⟩ rfl hl.1 (Nat.le_of_ble_eq_true rfl) dX8_feast_2 ⟨Nat.le_of_ble_eq_true rfl, Nat.le_of_ble_eq_true rfl⟩ ⟨Nat.le_of_ble_eq_true rfl, Nat.le_of_ble_eq_true rfl⟩ (fun E n1 σ1 hz => ⟨⟨_, hz.2.1, kpR.rf⟩, by rw [hz.1]; exact xE_io.trans (cdF_1 hz.2.2).symm⟩) (fun n_2 σ_2 H locs z_2 w => ?_)
  rw [z_2.1, z_2.2.1] at w
  have hin_2 := z_2.2.2
  refine lv_iload_n hx hb dX8_feast_5 rfl (lv_at hl 2 rfl) ?_
  refine q_cPS X w (c_X8_isYear l a_yr yr e_yr D t b n (cS t b σ0 A B P)) v_X8_157 rfl ⟨Nat.le_of_ble_eq_true rfl, Nat.le_of_ble_eq_true rfl⟩ rfl hl.1 (Nat.le_of_ble_eq_true rfl) dX8_feast_6 ⟨Nat.le_of_ble_eq_true rfl, Nat.le_of_ble_eq_true rfl⟩ (fun r_6 z_6 => ?_)
  refine x_cVS X hE hno w (c_X8_demand l D t b n σ0 A B P hl0 r_6) v_X8_103 rfl ⟨Nat.le_of_ble_eq_true rfl, Nat.le_of_ble_eq_true rfl⟩ rfl hl.1 (Nat.le_of_ble_eq_true rfl) dX8_feast_9 ⟨Nat.le_of_ble_eq_true rfl, Nat.le_of_ble_eq_true rfl⟩ ⟨Nat.le_of_ble_eq_true rfl, Nat.le_of_ble_eq_true rfl⟩ (fun E n1 σ1 hz => ⟨⟨_, hz.2.1, kpR.rf⟩, by rw [hz.1]; exact xE_ia.trans (cdF_2 hin_2 (bI_f.mp (by have y := hz.2.2; rw [z_6] at y; exact y))).symm⟩) (fun n_9 σ_9 H locs z_9 w => ?_)
  rw [z_9.1, z_9.2.1] at w
  have k_9 : -2000 ≤ yr ∧ yr ≤ 2000 := by have y := z_9.2.2; rw [z_6] at y; exact bI_t.mp y
  have hfb := fday_bd (rw_ := rw_) (fe := fe) (yr := yr) (f := f) (by omega)
  refine lv_aload_n hx hb dX8_feast_12 rfl (lv_at hl 0 rfl) ?_
  refine kg_X8_feastDays X w dX8_feast_13 ?_
  refine lv_aload_n hx hb dX8_feast_16 rfl (lv_at hl 0 rfl) ?_
  refine kg_X8_state X w dX8_feast_17 ?_
  refine lv_iload_n hx hb dX8_feast_20 rfl (lv_at hl 1 rfl) ?_
  refine lv_iconst (v := 1) hx hb dX8_feast_21 (by decide) ?_
  refine lv_iadd hx hb dX8_feast_22 ?_
  refine lv_topi (fun x_22 e_22 => ?_)
  have p_22 : x_22.toInt = (f + 1) := by rw [e_22]; exact t_add e_f (show (1 : Int32).toInt = 1 from rfl) (by omega) (by omega)
  refine lv_iload_n hx hb dX8_feast_23 rfl (lv_at hl 2 rfl) ?_
  refine kk_cVR X w (c_X2_find l D t b n σ0 A B P rw_ fe 0 (by decide) hQ x_22 a_yr (f + 1) yr p_22 e_yr (by first | assumption | omega) (by show 0 ≤ _ ∧ _ ≤ (A 21).toInt; omega)) v_X8_247 rfl rfl rfl ⟨Nat.le_of_ble_eq_true rfl, Nat.le_of_ble_eq_true rfl⟩ rfl hl.1 (Nat.le_of_ble_eq_true rfl) dX8_feast_24 ⟨Nat.le_of_ble_eq_true rfl, Nat.le_of_ble_eq_true rfl⟩ (fun B_24 H locs z_24 w => ?_)
  refine lv_aload_n hx hb dX8_feast_27 rfl (lv_at hl 0 rfl) ?_
  refine kg_X8_feastDays X w dX8_feast_28 ?_
  refine lv_iload_n hx hb dX8_feast_31 rfl (lv_at hl 1 rfl) ?_
  refine q_cPV X w (c_X2_dayAt l D t b n σ0 A B_24 P a_f f e_f) v_X8_251 (k := 33) rfl rfl rfl ⟨Nat.le_of_ble_eq_true rfl, Nat.le_of_ble_eq_true rfl⟩ rfl hl.1 (Nat.le_of_ble_eq_true rfl) dX8_feast_32 ⟨Nat.le_of_ble_eq_true rfl, Nat.le_of_ble_eq_true rfl⟩ (fun r_32 z_32 => ?_)
  have hd_32 : r_32.toInt = toC (fday rw_ fe yr f) := by rw [z_32, if_pos (by omega)]; exact z_24.2.1 f (by omega) (by omega)
  refine x_cCS X hE hno w (c_X8_present l D t b n σ0 A B_24 P hl0 r_32 (toC (fday rw_ fe yr f)) hd_32) v_X8_212 rfl ⟨Nat.le_of_ble_eq_true rfl, Nat.le_of_ble_eq_true rfl⟩ rfl hl.1 (Nat.le_of_ble_eq_true rfl) dX8_feast_35 ⟨Nat.le_of_ble_eq_true rfl, Nat.le_of_ble_eq_true rfl⟩ ⟨Nat.le_of_ble_eq_true rfl, Nat.le_of_ble_eq_true rfl⟩ (fun E n1 σ1 hz => ⟨⟨_, hz.2.1, z_24.1.wk (by decide)⟩, by rw [hz.1]; exact xE_ns.trans (cdF_3 hin_2 k_9 (by by_cases y : fday rw_ fe yr f = -2147483647; (exact y); (exact absurd ((toC_day (by omega) (by omega)).mpr y) hz.2.2))).symm⟩) (fun r_35 n_35 σ_35 H locs z_35 w => ?_)
  rw [z_35.1, z_35.2.1] at w
  have hp_35 := z_35.2.2.2
  refine vx_ret ?_
  refine W.widen (k := 3) (n := 18) (Nat.le_of_ble_eq_true rfl) (Nat.le_of_ble_eq_true rfl) ?_
  exact q_cret (post := fun z n1 σ1 => n1 = n ∧ (∃ B1, σ1 = cS t b σ0 A B1 P ∧ kpR [4, 5] B B1) ∧ (if 0 < cd2 (0 ≤ f ∧ f < (A 21).toInt) (-2000 ≤ yr ∧ yr ≤ 2000) then cd2 (0 ≤ f ∧ f < (A 21).toInt) (-2000 ≤ yr ∧ yr ≤ 2000) else if fday rw_ fe yr f = -2147483647 then 3 else 0) = 0 ∧ z.toInt = fday rw_ fe yr f) X w dX8_feast_38 rfl ⟨rfl, ⟨_, rfl, z_24.1.wk (by decide)⟩, cdF_0 hin_2 k_9 ((toC_day (by omega) (by omega)).mp hp_35), (((congrArg Int32.toInt z_35.2.2.1).trans hd_32)).trans (toC_d ((toC_day (by omega) (by omega)).mp hp_35))⟩

set_option maxHeartbeats 2000000 in
set_option maxRecDepth 100000 in
theorem c_X8_placedFeast (l : Launch) (D : va_G) (t : Nat → ClassId) (b n : Nat) (σ0 : qM) (A : Nat → Int32) (B : Nat → Nat → Int32) (P : Nat → Nat → Option Nat) (hl0 : l.stackTraces = false) (rw_ : Int → Row) (fe : Int → Int → Int32) (hQ : stQ t b σ0 A P 0 rw_ fe) (a_f : Int32) (f : Int) (e_f : a_f.toInt = f) (a_yr : Int32) (yr : Int) (e_yr : a_yr.toInt = yr) : xC l yX8_placedFeast cX8_placedFeast 4 (some .int) 8 3 18 D t b n (cS t b σ0 A B P) [.ref (b + 0), .int a_f, .int a_yr] (fun z n1 σ1 => n1 = n ∧ (∃ B1, σ1 = cS t b σ0 A B1 P ∧ kpR [4, 5] B B1) ∧ (if 0 < cd2 (0 ≤ f ∧ f < (A 21).toInt) (-2000 ≤ yr ∧ yr ≤ 2000) then cd2 (0 ≤ f ∧ f < (A 21).toInt) (-2000 ≤ yr ∧ yr ≤ 2000) else if plc (fun j => (fe j 1).toInt) (fday rw_ fe yr) (A 21).toInt f = -2147483647 then 3 else 0) = 0 ∧ z.toInt = plc (fun j => (fe j 1).toInt) (fday rw_ fe yr) (A 21).toInt f) (fun E n1 σ1 => (∃ B1, σ1 = cS t b σ0 A B1 P ∧ kpR [4, 5] B B1) ∧ xE E = (if 0 < cd2 (0 ≤ f ∧ f < (A 21).toInt) (-2000 ≤ yr ∧ yr ≤ 2000) then cd2 (0 ≤ f ∧ f < (A 21).toInt) (-2000 ≤ yr ∧ yr ≤ 2000) else if plc (fun j => (fe j 1).toInt) (fday rw_ fe yr) (A 21).toInt f = -2147483647 then 3 else 0)) := by
  refine xC.of (by decide +kernel) (Nat.le_of_ble_eq_true rfl) (fun p e s m args below meth c X hE hno w ls hl => ?_)
  have hx := X.1
  have hb := X.2.1
  have hl : lv_has ls 4 [(0, .ref (b + 0)), (1, .int a_f), (2, .int a_yr)] := hl
  have hnn : (0 ≤ (A 20).toInt ∧ (A 20).toInt ≤ 6) ∧ (0 ≤ (A 21).toInt ∧ (A 21).toInt ≤ 8) := hQ.1
  refine lv_aload_n hx hb dX8_placedFeast_0 rfl (lv_at hl 0 rfl) ?_
  refine lv_iload_n hx hb dX8_placedFeast_1 rfl (lv_at hl 1 rfl) ?_
  refine x_cVV X hE hno w (c_X8_checkFeast l D t b n σ0 A B P hl0 hQ.ok a_f f e_f) v_X8_244 (k := 0) rfl rfl rfl ⟨Nat.le_of_ble_eq_true rfl, Nat.le_of_ble_eq_true rfl⟩ rfl hl.1 (Nat.le_of_ble_eq_true rfl) dX8_placedFeast_2 ⟨Nat.le_of_ble_eq_true rfl, Nat.le_of_ble_eq_true rfl⟩ ⟨Nat.le_of_ble_eq_true rfl, Nat.le_of_ble_eq_true rfl⟩ (fun E n1 σ1 hz => ⟨⟨_, hz.2.1, kpR.rf⟩, by rw [hz.1]; exact xE_io.trans (cdF_1 hz.2.2).symm⟩) (fun n_2 σ_2 H locs z_2 w => ?_)
  rw [z_2.1, z_2.2.1] at w
  have hin_2 := z_2.2.2
  refine lv_iload_n hx hb dX8_placedFeast_5 rfl (lv_at hl 2 rfl) ?_
  refine q_cPS X w (c_X8_isYear l a_yr yr e_yr D t b n (cS t b σ0 A B P)) v_X8_157 rfl ⟨Nat.le_of_ble_eq_true rfl, Nat.le_of_ble_eq_true rfl⟩ rfl hl.1 (Nat.le_of_ble_eq_true rfl) dX8_placedFeast_6 ⟨Nat.le_of_ble_eq_true rfl, Nat.le_of_ble_eq_true rfl⟩ (fun r_6 z_6 => ?_)
  refine x_cVS X hE hno w (c_X8_demand l D t b n σ0 A B P hl0 r_6) v_X8_103 rfl ⟨Nat.le_of_ble_eq_true rfl, Nat.le_of_ble_eq_true rfl⟩ rfl hl.1 (Nat.le_of_ble_eq_true rfl) dX8_placedFeast_9 ⟨Nat.le_of_ble_eq_true rfl, Nat.le_of_ble_eq_true rfl⟩ ⟨Nat.le_of_ble_eq_true rfl, Nat.le_of_ble_eq_true rfl⟩ (fun E n1 σ1 hz => ⟨⟨_, hz.2.1, kpR.rf⟩, by rw [hz.1]; exact xE_ia.trans (cdF_2 hin_2 (bI_f.mp (by have y := hz.2.2; rw [z_6] at y; exact y))).symm⟩) (fun n_9 σ_9 H locs z_9 w => ?_)
  rw [z_9.1, z_9.2.1] at w
  have k_9 : -2000 ≤ yr ∧ yr ≤ 2000 := by have y := z_9.2.2; rw [z_6] at y; exact bI_t.mp y
  refine lv_aload_n hx hb dX8_placedFeast_12 rfl (lv_at hl 0 rfl) ?_
  refine kg_X8_feastDays X w dX8_placedFeast_13 ?_
  refine lv_aload_n hx hb dX8_placedFeast_16 rfl (lv_at hl 0 rfl) ?_
  refine kg_X8_state X w dX8_placedFeast_17 ?_
  refine lv_aload_n hx hb dX8_placedFeast_20 rfl (lv_at hl 0 rfl) ?_
  refine kg_X8_state X w dX8_placedFeast_21 ?_
  refine q_cPV X w (c_X6_feastCount l D t b n σ0 A B P 0 (by decide)) v_X8_221 (k := 7) rfl rfl rfl ⟨Nat.le_of_ble_eq_true rfl, Nat.le_of_ble_eq_true rfl⟩ rfl hl.1 (Nat.le_of_ble_eq_true rfl) dX8_placedFeast_24 ⟨Nat.le_of_ble_eq_true rfl, Nat.le_of_ble_eq_true rfl⟩ (fun r_24 z_24 => ?_)
  have p_24 : r_24.toInt = (A 21).toInt := congrArg Int32.toInt z_24
  refine lv_iload_n hx hb dX8_placedFeast_27 rfl (lv_at hl 2 rfl) ?_
  refine kk_cVR X w (c_X2_find l D t b n σ0 A B P rw_ fe 0 (by decide) hQ r_24 a_yr ((A 21).toInt) yr p_24 e_yr (by first | assumption | omega) (by show 0 ≤ _ ∧ _ ≤ (A 21).toInt; omega)) v_X8_247 rfl rfl rfl ⟨Nat.le_of_ble_eq_true rfl, Nat.le_of_ble_eq_true rfl⟩ rfl hl.1 (Nat.le_of_ble_eq_true rfl) dX8_placedFeast_28 ⟨Nat.le_of_ble_eq_true rfl, Nat.le_of_ble_eq_true rfl⟩ (fun B_28 H locs z_28 w => ?_)
  refine lv_aload_n hx hb dX8_placedFeast_31 rfl (lv_at hl 0 rfl) ?_
  refine kg_X8_feastDays X w dX8_placedFeast_32 ?_
  refine lv_aload_n hx hb dX8_placedFeast_35 rfl (lv_at hl 0 rfl) ?_
  refine kg_X8_state X w dX8_placedFeast_36 ?_
  refine kk_cVR X w (c_X2_place l D t b n σ0 A B_28 P rw_ fe 0 (by decide) hQ (fday rw_ fe yr) (fun j j0 j1 => ⟨z_28.2.1 j j0 j1, fday_bd j0⟩)) v_X8_254 rfl rfl rfl ⟨Nat.le_of_ble_eq_true rfl, Nat.le_of_ble_eq_true rfl⟩ rfl hl.1 (Nat.le_of_ble_eq_true rfl) dX8_placedFeast_39 ⟨Nat.le_of_ble_eq_true rfl, Nat.le_of_ble_eq_true rfl⟩ (fun B_39 H locs z_39 w => ?_)
  have hpb := plO_rg (rk := fun j => (fe j 1).toInt) (days := fday rw_ fe yr) (nf := (A 21).toInt) (by omega) (fun j j0 j1 => by have := fday_bd (rw_ := rw_) (fe := fe) (yr := yr) (f := j) j0; omega) 10 f
  refine lv_aload_n hx hb dX8_placedFeast_42 rfl (lv_at hl 0 rfl) ?_
  refine kg_X8_feastDays X w dX8_placedFeast_43 ?_
  refine lv_iload_n hx hb dX8_placedFeast_46 rfl (lv_at hl 1 rfl) ?_
  refine q_cPV X w (c_X2_placeAt l D t b n σ0 A B_39 P a_f f e_f) v_X8_257 (k := 33) rfl rfl rfl ⟨Nat.le_of_ble_eq_true rfl, Nat.le_of_ble_eq_true rfl⟩ rfl hl.1 (Nat.le_of_ble_eq_true rfl) dX8_placedFeast_47 ⟨Nat.le_of_ble_eq_true rfl, Nat.le_of_ble_eq_true rfl⟩ (fun r_47 z_47 => ?_)
  have hd_47 : r_47.toInt = toC (plc (fun j => (fe j 1).toInt) (fday rw_ fe yr) (A 21).toInt f) := by rw [z_47, if_pos (by omega)]; exact z_39.2.1 f (by omega) (by omega)
  refine lv_istore_n (lv' := [(3, .int r_47), (0, .ref (b + 0)), (1, .int a_f), (2, .int a_yr)]) hx hb dX8_placedFeast_50 rfl hl (by decide) rfl (fun ls hl => ?_)
  refine lv_iload_n hx hb dX8_placedFeast_51 rfl (lv_at hl 0 rfl) ?_
  refine lv_ldcw hx hb X.2.2.2.1 (X.2.2.1 _ kc_X8_260) dX8_placedFeast_52 ?_
  refine lv_icmp_ne (tgt := 69) hx hb dX8_placedFeast_55 (by decide) (fun c_55 => ?_) (fun c_55 => ?_)
  · skip
    have k_55 : ¬ ((toC (plc (fun j => (fe j 1).toInt) (fday rw_ fe yr) (A 21).toInt f)) = (-2147483648)) := fun h => c_55 ((g_eq hd_47 (show ((-2147483648) : Int32).toInt = (-2147483648) from rfl)).mpr h)
    refine lv_iload_n hx hb dX8_placedFeast_69 rfl (lv_at hl 0 rfl) ?_
    refine vx_ret ?_
    refine W.widen (k := 3) (n := 18) (Nat.le_of_ble_eq_true rfl) (Nat.le_of_ble_eq_true rfl) ?_
    exact q_cret (post := fun z n1 σ1 => n1 = n ∧ (∃ B1, σ1 = cS t b σ0 A B1 P ∧ kpR [4, 5] B B1) ∧ (if 0 < cd2 (0 ≤ f ∧ f < (A 21).toInt) (-2000 ≤ yr ∧ yr ≤ 2000) then cd2 (0 ≤ f ∧ f < (A 21).toInt) (-2000 ≤ yr ∧ yr ≤ 2000) else if plc (fun j => (fe j 1).toInt) (fday rw_ fe yr) (A 21).toInt f = -2147483647 then 3 else 0) = 0 ∧ z.toInt = plc (fun j => (fe j 1).toInt) (fday rw_ fe yr) (A 21).toInt f) X w dX8_placedFeast_70 rfl ⟨rfl, ⟨_, rfl, (z_28.1.tr z_39.1 (by decide) (by decide))⟩, cdF_0 hin_2 k_9 (fun y => k_55 ((toC_none hpb).mpr y)), (hd_47).trans (toC_d (fun y => k_55 ((toC_none hpb).mpr y)))⟩
  · skip
    have k_55 : (toC (plc (fun j => (fe j 1).toInt) (fday rw_ fe yr) (A 21).toInt f)) = (-2147483648) := (g_eq hd_47 (show ((-2147483648) : Int32).toInt = (-2147483648) from rfl)).mp c_55
    exact x_thrW_ns hl0 X hE hno w (is := 263) (text := "the feast has no day in this year") (by decide +kernel) hl.1 dX8_placedFeast_58 dX8_placedFeast_61 dX8_placedFeast_62 dX8_placedFeast_65 dX8_placedFeast_68 ⟨Nat.le_of_ble_eq_true rfl, Nat.le_of_ble_eq_true rfl⟩ (Nat.le_of_ble_eq_true rfl) ⟨Nat.le_of_ble_eq_true rfl, Nat.le_of_ble_eq_true rfl⟩ ⟨Nat.le_of_ble_eq_true rfl, Nat.le_of_ble_eq_true rfl⟩ (fun _ => ⟨⟨_, rfl, (z_28.1.tr z_39.1 (by decide) (by decide))⟩, xE_ns.trans (cdF_3 hin_2 k_9 ((toC_none hpb).mp k_55)).symm⟩)
