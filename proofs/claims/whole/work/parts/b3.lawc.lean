set_option maxHeartbeats 2000000 in
set_option maxRecDepth 100000 in
theorem c_L_appendCharacter (l : Launch) (D : va_G) (t : Nat → ClassId) (b n : Nat) (σ : qM) (a1 : Int32) {post : Int32 → Nat → qM → Prop} {xp : String → Nat → qM → Prop} {post1 : Int32 → Nat → qM → Prop} {fs : List Value} (h0 : σ 0 = some (.inr (12, fs))) (hM : xC l yX8_appendCharacter cX8_appendCharacter 2 (some .int) 7 2 12 D t b n σ [.ref (b + 0), .int a1] post xp) (hp : (∀ k e, σ k = some e → k < n) → ∀ (v : Int32) (n1 : Nat) (σ1 : qM), post v n1 σ1 → (∃ f, σ1 60 = some (o6 t f)) ∧ ∀ f : Nat → Int64, f 0 = v.toInt64 → post1 0 n1 (va_up σ1 60 (some (o6 t f)))) (hx : (∀ k e, σ k = some e → k < n) → ∀ (E : String) (n1 : Nat) (σ1 : qM), xp E n1 σ1 → (E = "java/lang/IllegalArgumentException" ∧ post1 1 n1 σ1) ∨ (E = "java/lang/IllegalStateException" ∧ post1 2 n1 σ1)) : lC l yL_appendCharacter cL_appendCharacter 4 [(0, 9, 12, 13), (0, 9, 15, 15)] 8 2 12 D t b n σ [.ref (b + 0), .int a1, .ref (b + 60)] post1 := by
  refine lC.of (by decide +kernel) (Nat.le_of_ble_eq_true rfl) (fun p e s m args below meth c X hE hS hT w ls hl => ?_)
  have hx9 := X.1
  have hb9 := X.2.1
  have hlt : ∀ k e, σ k = some e → k < n := fun k e hk => w.1.lt hk
  have hl : lv_has ls 4 [(0, .ref (b + 0)), (1, .int a1), (2, .ref (b + 60))] := hl
  refine lv_aload_n hx9 hb9 dL_appendCharacter_0 rfl (lv_at hl 2 rfl) ?_
  refine lv_iconst (v := 0) hx9 hb9 dL_appendCharacter_1 (by decide) ?_
  refine lv_aload_n hx9 hb9 dL_appendCharacter_2 rfl (lv_at hl 0 rfl) ?_
  refine lv_iload_n hx9 hb9 dL_appendCharacter_3 rfl (lv_at hl 1 rfl) ?_
  refine w_cX X hE w hM vL_7 (k := 0) h0 rfl rfl ⟨Nat.le_of_ble_eq_true rfl, Nat.le_of_ble_eq_true rfl⟩ rfl hl.1 (Nat.le_of_ble_eq_true rfl) dL_appendCharacter_4 ⟨Nat.le_of_ble_eq_true rfl, Nat.le_of_ble_eq_true rfl⟩ (fun E ce q9 n1 σ1 H1 locs1 hq w hcell hv9 hcl => ?_) (fun v n1 σ1 H1 locs1 hq w => ?_)
  · rcases hx hlt E n1 σ1 hq with ⟨rfl, h1⟩ | ⟨rfl, h1⟩
    · refine l_catch X hT [] [(0, 9, 15, 15)] (0, 9, 12, 13) rfl (by decide +kernel) cl_L_13 (by decide) rfl (fun z hz => absurd hz (List.not_mem_nil)) hcell hv9 hcl ?_
      refine lv_astore_n (lv' := [(3, .ref q9), (0, .ref (b + 0)), (1, .int a1), (2, .ref (b + 60))]) hx9 hb9 dL_appendCharacter_12 rfl hl (by decide) rfl (fun ls hl => ?_)
      refine lv_iconst (v := 1) hx9 hb9 dL_appendCharacter_13 (by decide) ?_
      exact q_cret (post := post1) X w dL_appendCharacter_14 rfl h1
    · refine l_catch X hT [(0, 9, 12, 13)] [] (0, 9, 15, 15) rfl (by decide +kernel) cl_L_15 (by decide) rfl (fun z hz => by rcases List.mem_singleton.mp hz with rfl; exact ⟨by decide, _, by decide +kernel, by decide +kernel, cl_L_13⟩) hcell hv9 hcl ?_
      refine lv_astore_n (lv' := [(3, .ref q9), (0, .ref (b + 0)), (1, .int a1), (2, .ref (b + 60))]) hx9 hb9 dL_appendCharacter_15 rfl hl (by decide) rfl (fun ls hl => ?_)
      refine lv_iconst (v := 2) hx9 hb9 dL_appendCharacter_16 (by decide) ?_
      exact q_cret (post := post1) X w dL_appendCharacter_17 rfl h1
  obtain ⟨⟨f9, h60⟩, hq2⟩ := hp hlt v n1 σ1 hq
  refine lv_i2l hx9 hb9 dL_appendCharacter_7 rfl ?_
  refine q_last X w (k := 60) h60 (i := 0) (by unfold vp_in; decide) dL_appendCharacter_8 (fun H locs w => ?_)
  have hq3 := hq2 _ (show vp_updL f9 (0 : Int32).toNatClampNeg v.toInt64 0 = _ from rfl)
  refine lv_goto (tgt := 18) hx9 hb9 dL_appendCharacter_9 (by decide) ?_
  refine lv_iconst (v := 0) hx9 hb9 dL_appendCharacter_18 (by decide) ?_
  exact q_cret (post := post1) X w dL_appendCharacter_19 rfl hq3

set_option maxHeartbeats 2000000 in
set_option maxRecDepth 100000 in
theorem c_L_setCalendar (l : Launch) (D : va_G) (t : Nat → ClassId) (b n : Nat) (σ : qM) (a1 : Int32) {post : Int32 → Nat → qM → Prop} {xp : String → Nat → qM → Prop} {post1 : Int32 → Nat → qM → Prop} {fs : List Value} (h0 : σ 0 = some (.inr (12, fs))) (hM : xC l yX8_setCalendar cX8_setCalendar 5 (some .int) 7 3 1030 D t b n σ [.ref (b + 0), .int a1] post xp) (hp : (∀ k e, σ k = some e → k < n) → ∀ (v : Int32) (n1 : Nat) (σ1 : qM), post v n1 σ1 → (∃ f, σ1 60 = some (o6 t f)) ∧ ∀ f : Nat → Int64, f 0 = v.toInt64 → post1 0 n1 (va_up σ1 60 (some (o6 t f)))) (hx : (∀ k e, σ k = some e → k < n) → ∀ (E : String) (n1 : Nat) (σ1 : qM), xp E n1 σ1 → (E = "java/lang/IndexOutOfBoundsException" ∧ post1 1 n1 σ1) ∨ (E = "java/lang/IllegalArgumentException" ∧ post1 2 n1 σ1) ∨ (E = "java/lang/IllegalStateException" ∧ post1 3 n1 σ1)) : lC l yL_setCalendar cL_setCalendar 4 [(0, 9, 12, 20), (0, 9, 15, 13), (0, 9, 18, 15)] 8 3 1030 D t b n σ [.ref (b + 0), .int a1, .ref (b + 60)] post1 := by
  refine lC.of (by decide +kernel) (Nat.le_of_ble_eq_true rfl) (fun p e s m args below meth c X hE hS hT w ls hl => ?_)
  have hx9 := X.1
  have hb9 := X.2.1
  have hlt : ∀ k e, σ k = some e → k < n := fun k e hk => w.1.lt hk
  have hl : lv_has ls 4 [(0, .ref (b + 0)), (1, .int a1), (2, .ref (b + 60))] := hl
  refine lv_aload_n hx9 hb9 dL_setCalendar_0 rfl (lv_at hl 2 rfl) ?_
  refine lv_iconst (v := 0) hx9 hb9 dL_setCalendar_1 (by decide) ?_
  refine lv_aload_n hx9 hb9 dL_setCalendar_2 rfl (lv_at hl 0 rfl) ?_
  refine lv_iload_n hx9 hb9 dL_setCalendar_3 rfl (lv_at hl 1 rfl) ?_
  refine w_cX X hE w hM vL_17 (k := 0) h0 rfl rfl ⟨Nat.le_of_ble_eq_true rfl, Nat.le_of_ble_eq_true rfl⟩ rfl hl.1 (Nat.le_of_ble_eq_true rfl) dL_setCalendar_4 ⟨Nat.le_of_ble_eq_true rfl, Nat.le_of_ble_eq_true rfl⟩ (fun E ce q9 n1 σ1 H1 locs1 hq w hcell hv9 hcl => ?_) (fun v n1 σ1 H1 locs1 hq w => ?_)
  · rcases hx hlt E n1 σ1 hq with ⟨rfl, h1⟩ | ⟨rfl, h1⟩ | ⟨rfl, h1⟩
    · refine l_catch X hT [] [(0, 9, 15, 13), (0, 9, 18, 15)] (0, 9, 12, 20) rfl (by decide +kernel) cl_L_20 (by decide) rfl (fun z hz => absurd hz (List.not_mem_nil)) hcell hv9 hcl ?_
      refine lv_astore_n (lv' := [(3, .ref q9), (0, .ref (b + 0)), (1, .int a1), (2, .ref (b + 60))]) hx9 hb9 dL_setCalendar_12 rfl hl (by decide) rfl (fun ls hl => ?_)
      refine lv_iconst (v := 1) hx9 hb9 dL_setCalendar_13 (by decide) ?_
      exact q_cret (post := post1) X w dL_setCalendar_14 rfl h1
    · refine l_catch X hT [(0, 9, 12, 20)] [(0, 9, 18, 15)] (0, 9, 15, 13) rfl (by decide +kernel) cl_L_13 (by decide) rfl (fun z hz => by rcases List.mem_singleton.mp hz with rfl; exact ⟨by decide, _, by decide +kernel, by decide +kernel, cl_L_20⟩) hcell hv9 hcl ?_
      refine lv_astore_n (lv' := [(3, .ref q9), (0, .ref (b + 0)), (1, .int a1), (2, .ref (b + 60))]) hx9 hb9 dL_setCalendar_15 rfl hl (by decide) rfl (fun ls hl => ?_)
      refine lv_iconst (v := 2) hx9 hb9 dL_setCalendar_16 (by decide) ?_
      exact q_cret (post := post1) X w dL_setCalendar_17 rfl h1
    · refine l_catch X hT [(0, 9, 12, 20), (0, 9, 15, 13)] [] (0, 9, 18, 15) rfl (by decide +kernel) cl_L_15 (by decide) rfl (fun z hz => by rcases List.mem_cons.mp hz with rfl | hz; (exact ⟨by decide, _, by decide +kernel, by decide +kernel, cl_L_20⟩); (rcases List.mem_singleton.mp hz with rfl; exact ⟨by decide, _, by decide +kernel, by decide +kernel, cl_L_13⟩)) hcell hv9 hcl ?_
      refine lv_astore_n (lv' := [(3, .ref q9), (0, .ref (b + 0)), (1, .int a1), (2, .ref (b + 60))]) hx9 hb9 dL_setCalendar_18 rfl hl (by decide) rfl (fun ls hl => ?_)
      refine lv_iconst (v := 3) hx9 hb9 dL_setCalendar_19 (by decide) ?_
      exact q_cret (post := post1) X w dL_setCalendar_20 rfl h1
  obtain ⟨⟨f9, h60⟩, hq2⟩ := hp hlt v n1 σ1 hq
  refine lv_i2l hx9 hb9 dL_setCalendar_7 rfl ?_
  refine q_last X w (k := 60) h60 (i := 0) (by unfold vp_in; decide) dL_setCalendar_8 (fun H locs w => ?_)
  have hq3 := hq2 _ (show vp_updL f9 (0 : Int32).toNatClampNeg v.toInt64 0 = _ from rfl)
  refine lv_goto (tgt := 21) hx9 hb9 dL_setCalendar_9 (by decide) ?_
  refine lv_iconst (v := 0) hx9 hb9 dL_setCalendar_21 (by decide) ?_
  exact q_cret (post := post1) X w dL_setCalendar_22 rfl hq3

set_option maxHeartbeats 2000000 in
set_option maxRecDepth 100000 in
theorem c_L_calendar (l : Launch) (D : va_G) (t : Nat → ClassId) (b n : Nat) (σ : qM) (a1 : Int32) (a2 : Int32) {post : Int32 → Nat → qM → Prop} {xp : String → Nat → qM → Prop} {post1 : Int32 → Nat → qM → Prop} {fs : List Value} (h0 : σ 0 = some (.inr (12, fs))) (hM : xC l yX8_calendar cX8_calendar 4 (some .int) 7 2 12 D t b n σ [.ref (b + 0), .int a1, .int a2] post xp) (hp : (∀ k e, σ k = some e → k < n) → ∀ (v : Int32) (n1 : Nat) (σ1 : qM), post v n1 σ1 → (∃ f, σ1 60 = some (o6 t f)) ∧ ∀ f : Nat → Int64, f 0 = v.toInt64 → post1 0 n1 (va_up σ1 60 (some (o6 t f)))) (hx : (∀ k e, σ k = some e → k < n) → ∀ (E : String) (n1 : Nat) (σ1 : qM), xp E n1 σ1 → (E = "java/lang/IndexOutOfBoundsException" ∧ post1 1 n1 σ1) ∨ (E = "java/lang/IllegalArgumentException" ∧ post1 2 n1 σ1)) : lC l yL_calendar cL_calendar 5 [(0, 10, 13, 20), (0, 10, 17, 13)] 8 2 12 D t b n σ [.ref (b + 0), .int a1, .int a2, .ref (b + 60)] post1 := by
  refine lC.of (by decide +kernel) (Nat.le_of_ble_eq_true rfl) (fun p e s m args below meth c X hE hS hT w ls hl => ?_)
  have hx9 := X.1
  have hb9 := X.2.1
  have hlt : ∀ k e, σ k = some e → k < n := fun k e hk => w.1.lt hk
  have hl : lv_has ls 5 [(0, .ref (b + 0)), (1, .int a1), (2, .int a2), (3, .ref (b + 60))] := hl
  refine lv_aload_n hx9 hb9 dL_calendar_0 rfl (lv_at hl 3 rfl) ?_
  refine lv_iconst (v := 0) hx9 hb9 dL_calendar_1 (by decide) ?_
  refine lv_aload_n hx9 hb9 dL_calendar_2 rfl (lv_at hl 0 rfl) ?_
  refine lv_iload_n hx9 hb9 dL_calendar_3 rfl (lv_at hl 1 rfl) ?_
  refine lv_iload_n hx9 hb9 dL_calendar_4 rfl (lv_at hl 2 rfl) ?_
  refine w_cX X hE w hM vL_22 (k := 0) h0 rfl rfl ⟨Nat.le_of_ble_eq_true rfl, Nat.le_of_ble_eq_true rfl⟩ rfl hl.1 (Nat.le_of_ble_eq_true rfl) dL_calendar_5 ⟨Nat.le_of_ble_eq_true rfl, Nat.le_of_ble_eq_true rfl⟩ (fun E ce q9 n1 σ1 H1 locs1 hq w hcell hv9 hcl => ?_) (fun v n1 σ1 H1 locs1 hq w => ?_)
  · rcases hx hlt E n1 σ1 hq with ⟨rfl, h1⟩ | ⟨rfl, h1⟩
    · refine l_catch X hT [] [(0, 10, 17, 13)] (0, 10, 13, 20) rfl (by decide +kernel) cl_L_20 (by decide) rfl (fun z hz => absurd hz (List.not_mem_nil)) hcell hv9 hcl ?_
      refine lv_astore (lv' := [(4, .ref q9), (0, .ref (b + 0)), (1, .int a1), (2, .int a2), (3, .ref (b + 60))]) hx9 hb9 dL_calendar_13 hl (by decide) rfl (fun ls hl => ?_)
      refine lv_iconst (v := 1) hx9 hb9 dL_calendar_15 (by decide) ?_
      exact q_cret (post := post1) X w dL_calendar_16 rfl h1
    · refine l_catch X hT [(0, 10, 13, 20)] [] (0, 10, 17, 13) rfl (by decide +kernel) cl_L_13 (by decide) rfl (fun z hz => by rcases List.mem_singleton.mp hz with rfl; exact ⟨by decide, _, by decide +kernel, by decide +kernel, cl_L_20⟩) hcell hv9 hcl ?_
      refine lv_astore (lv' := [(4, .ref q9), (0, .ref (b + 0)), (1, .int a1), (2, .int a2), (3, .ref (b + 60))]) hx9 hb9 dL_calendar_17 hl (by decide) rfl (fun ls hl => ?_)
      refine lv_iconst (v := 2) hx9 hb9 dL_calendar_19 (by decide) ?_
      exact q_cret (post := post1) X w dL_calendar_20 rfl h1
  obtain ⟨⟨f9, h60⟩, hq2⟩ := hp hlt v n1 σ1 hq
  refine lv_i2l hx9 hb9 dL_calendar_8 rfl ?_
  refine q_last X w (k := 60) h60 (i := 0) (by unfold vp_in; decide) dL_calendar_9 (fun H locs w => ?_)
  have hq3 := hq2 _ (show vp_updL f9 (0 : Int32).toNatClampNeg v.toInt64 0 = _ from rfl)
  refine lv_goto (tgt := 21) hx9 hb9 dL_calendar_10 (by decide) ?_
  refine lv_iconst (v := 0) hx9 hb9 dL_calendar_21 (by decide) ?_
  exact q_cret (post := post1) X w dL_calendar_22 rfl hq3

set_option maxHeartbeats 2000000 in
set_option maxRecDepth 100000 in
theorem c_L_isLeapYear (l : Launch) (D : va_G) (t : Nat → ClassId) (b n : Nat) (σ : qM) (a1 : Int32) (a2 : Int32) {post : Int32 → Nat → qM → Prop} {xp : String → Nat → qM → Prop} {post1 : Int32 → Nat → qM → Prop} {fs : List Value} (h0 : σ 0 = some (.inr (12, fs))) (hM : xC l yX8_isLeapYear cX8_isLeapYear 4 (some .boolean) 7 2 12 D t b n σ [.ref (b + 0), .int a1, .int a2] post xp) (hp : (∀ k e, σ k = some e → k < n) → ∀ (v : Int32) (n1 : Nat) (σ1 : qM), post v n1 σ1 → (∃ f, σ1 60 = some (o6 t f)) ∧ ∀ f : Nat → Int64, f 0 = (if v = 0 then 0 else 1) → post1 0 n1 (va_up σ1 60 (some (o6 t f)))) (hx : (∀ k e, σ k = some e → k < n) → ∀ (E : String) (n1 : Nat) (σ1 : qM), xp E n1 σ1 → (E = "java/lang/IndexOutOfBoundsException" ∧ post1 1 n1 σ1) ∨ (E = "java/lang/IllegalArgumentException" ∧ post1 2 n1 σ1)) : lC l yL_isLeapYear cL_isLeapYear 5 [(0, 17, 20, 20), (0, 17, 24, 13)] 8 2 12 D t b n σ [.ref (b + 0), .int a1, .int a2, .ref (b + 60)] post1 := by
  refine lC.of (by decide +kernel) (Nat.le_of_ble_eq_true rfl) (fun p e s m args below meth c X hE hS hT w ls hl => ?_)
  have hx9 := X.1
  have hb9 := X.2.1
  have hlt : ∀ k e, σ k = some e → k < n := fun k e hk => w.1.lt hk
  have hl : lv_has ls 5 [(0, .ref (b + 0)), (1, .int a1), (2, .int a2), (3, .ref (b + 60))] := hl
  refine lv_aload_n hx9 hb9 dL_isLeapYear_0 rfl (lv_at hl 3 rfl) ?_
  refine lv_iconst (v := 0) hx9 hb9 dL_isLeapYear_1 (by decide) ?_
  refine lv_aload_n hx9 hb9 dL_isLeapYear_2 rfl (lv_at hl 0 rfl) ?_
  refine lv_iload_n hx9 hb9 dL_isLeapYear_3 rfl (lv_at hl 1 rfl) ?_
  refine lv_iload_n hx9 hb9 dL_isLeapYear_4 rfl (lv_at hl 2 rfl) ?_
  refine w_cX X hE w hM vL_26 (k := 0) h0 rfl rfl ⟨Nat.le_of_ble_eq_true rfl, Nat.le_of_ble_eq_true rfl⟩ rfl hl.1 (Nat.le_of_ble_eq_true rfl) dL_isLeapYear_5 ⟨Nat.le_of_ble_eq_true rfl, Nat.le_of_ble_eq_true rfl⟩ (fun E ce q9 n1 σ1 H1 locs1 hq w hcell hv9 hcl => ?_) (fun v n1 σ1 H1 locs1 hq w => ?_)
  · rcases hx hlt E n1 σ1 hq with ⟨rfl, h1⟩ | ⟨rfl, h1⟩
    · refine l_catch X hT [] [(0, 17, 24, 13)] (0, 17, 20, 20) rfl (by decide +kernel) cl_L_20 (by decide) rfl (fun z hz => absurd hz (List.not_mem_nil)) hcell hv9 hcl ?_
      refine lv_astore (lv' := [(4, .ref q9), (0, .ref (b + 0)), (1, .int a1), (2, .int a2), (3, .ref (b + 60))]) hx9 hb9 dL_isLeapYear_20 hl (by decide) rfl (fun ls hl => ?_)
      refine lv_iconst (v := 1) hx9 hb9 dL_isLeapYear_22 (by decide) ?_
      exact q_cret (post := post1) X w dL_isLeapYear_23 rfl h1
    · refine l_catch X hT [(0, 17, 20, 20)] [] (0, 17, 24, 13) rfl (by decide +kernel) cl_L_13 (by decide) rfl (fun z hz => by rcases List.mem_singleton.mp hz with rfl; exact ⟨by decide, _, by decide +kernel, by decide +kernel, cl_L_20⟩) hcell hv9 hcl ?_
      refine lv_astore (lv' := [(4, .ref q9), (0, .ref (b + 0)), (1, .int a1), (2, .int a2), (3, .ref (b + 60))]) hx9 hb9 dL_isLeapYear_24 hl (by decide) rfl (fun ls hl => ?_)
      refine lv_iconst (v := 2) hx9 hb9 dL_isLeapYear_26 (by decide) ?_
      exact q_cret (post := post1) X w dL_isLeapYear_27 rfl h1
  obtain ⟨⟨f9, h60⟩, hq2⟩ := hp hlt v n1 σ1 hq
  refine lv_if_eq (tgt := 15) hx9 hb9 dL_isLeapYear_8 (by decide) (fun c9 => ?_) (fun c9 => ?_)
  · skip
    refine lv_lconst (v := 0) hx9 hb9 dL_isLeapYear_15 rfl ?_
    refine q_last X w (k := 60) h60 (i := 0) (by unfold vp_in; decide) dL_isLeapYear_16 (fun H locs w => ?_)
    have hq3 := hq2 _ (show vp_updL f9 (0 : Int32).toNatClampNeg 0 0 = _ from by show _ = (if v = 0 then (0 : Int64) else 1); rw [if_pos c9]; rfl)
    refine lv_goto (tgt := 28) hx9 hb9 dL_isLeapYear_17 (by decide) ?_
    refine lv_iconst (v := 0) hx9 hb9 dL_isLeapYear_28 (by decide) ?_
    exact q_cret (post := post1) X w dL_isLeapYear_29 rfl hq3
  · skip
    refine lv_lconst (v := 1) hx9 hb9 dL_isLeapYear_11 rfl ?_
    refine lv_goto (tgt := 16) hx9 hb9 dL_isLeapYear_12 (by decide) ?_
    refine q_last X w (k := 60) h60 (i := 0) (by unfold vp_in; decide) dL_isLeapYear_16 (fun H locs w => ?_)
    have hq3 := hq2 _ (show vp_updL f9 (0 : Int32).toNatClampNeg 1 0 = _ from by show _ = (if v = 0 then (0 : Int64) else 1); rw [if_neg c9]; rfl)
    refine lv_goto (tgt := 28) hx9 hb9 dL_isLeapYear_17 (by decide) ?_
    refine lv_iconst (v := 0) hx9 hb9 dL_isLeapYear_28 (by decide) ?_
    exact q_cret (post := post1) X w dL_isLeapYear_29 rfl hq3

set_option maxHeartbeats 2000000 in
set_option maxRecDepth 100000 in
theorem c_L_months (l : Launch) (D : va_G) (t : Nat → ClassId) (b n : Nat) (σ : qM) (a1 : Int32) (a2 : Int32) {post : Int32 → Nat → qM → Prop} {xp : String → Nat → qM → Prop} {post1 : Int32 → Nat → qM → Prop} {fs : List Value} (h0 : σ 0 = some (.inr (12, fs))) (hM : xC l yX8_months cX8_months 4 (some .int) 7 2 12 D t b n σ [.ref (b + 0), .int a1, .int a2] post xp) (hp : (∀ k e, σ k = some e → k < n) → ∀ (v : Int32) (n1 : Nat) (σ1 : qM), post v n1 σ1 → (∃ f, σ1 60 = some (o6 t f)) ∧ ∀ f : Nat → Int64, f 0 = v.toInt64 → post1 0 n1 (va_up σ1 60 (some (o6 t f)))) (hx : (∀ k e, σ k = some e → k < n) → ∀ (E : String) (n1 : Nat) (σ1 : qM), xp E n1 σ1 → (E = "java/lang/IndexOutOfBoundsException" ∧ post1 1 n1 σ1) ∨ (E = "java/lang/IllegalArgumentException" ∧ post1 2 n1 σ1)) : lC l yL_months cL_months 5 [(0, 10, 13, 20), (0, 10, 17, 13)] 8 2 12 D t b n σ [.ref (b + 0), .int a1, .int a2, .ref (b + 60)] post1 := by
  refine lC.of (by decide +kernel) (Nat.le_of_ble_eq_true rfl) (fun p e s m args below meth c X hE hS hT w ls hl => ?_)
  have hx9 := X.1
  have hb9 := X.2.1
  have hlt : ∀ k e, σ k = some e → k < n := fun k e hk => w.1.lt hk
  have hl : lv_has ls 5 [(0, .ref (b + 0)), (1, .int a1), (2, .int a2), (3, .ref (b + 60))] := hl
  refine lv_aload_n hx9 hb9 dL_months_0 rfl (lv_at hl 3 rfl) ?_
  refine lv_iconst (v := 0) hx9 hb9 dL_months_1 (by decide) ?_
  refine lv_aload_n hx9 hb9 dL_months_2 rfl (lv_at hl 0 rfl) ?_
  refine lv_iload_n hx9 hb9 dL_months_3 rfl (lv_at hl 1 rfl) ?_
  refine lv_iload_n hx9 hb9 dL_months_4 rfl (lv_at hl 2 rfl) ?_
  refine w_cX X hE w hM vL_30 (k := 0) h0 rfl rfl ⟨Nat.le_of_ble_eq_true rfl, Nat.le_of_ble_eq_true rfl⟩ rfl hl.1 (Nat.le_of_ble_eq_true rfl) dL_months_5 ⟨Nat.le_of_ble_eq_true rfl, Nat.le_of_ble_eq_true rfl⟩ (fun E ce q9 n1 σ1 H1 locs1 hq w hcell hv9 hcl => ?_) (fun v n1 σ1 H1 locs1 hq w => ?_)
  · rcases hx hlt E n1 σ1 hq with ⟨rfl, h1⟩ | ⟨rfl, h1⟩
    · refine l_catch X hT [] [(0, 10, 17, 13)] (0, 10, 13, 20) rfl (by decide +kernel) cl_L_20 (by decide) rfl (fun z hz => absurd hz (List.not_mem_nil)) hcell hv9 hcl ?_
      refine lv_astore (lv' := [(4, .ref q9), (0, .ref (b + 0)), (1, .int a1), (2, .int a2), (3, .ref (b + 60))]) hx9 hb9 dL_months_13 hl (by decide) rfl (fun ls hl => ?_)
      refine lv_iconst (v := 1) hx9 hb9 dL_months_15 (by decide) ?_
      exact q_cret (post := post1) X w dL_months_16 rfl h1
    · refine l_catch X hT [(0, 10, 13, 20)] [] (0, 10, 17, 13) rfl (by decide +kernel) cl_L_13 (by decide) rfl (fun z hz => by rcases List.mem_singleton.mp hz with rfl; exact ⟨by decide, _, by decide +kernel, by decide +kernel, cl_L_20⟩) hcell hv9 hcl ?_
      refine lv_astore (lv' := [(4, .ref q9), (0, .ref (b + 0)), (1, .int a1), (2, .int a2), (3, .ref (b + 60))]) hx9 hb9 dL_months_17 hl (by decide) rfl (fun ls hl => ?_)
      refine lv_iconst (v := 2) hx9 hb9 dL_months_19 (by decide) ?_
      exact q_cret (post := post1) X w dL_months_20 rfl h1
  obtain ⟨⟨f9, h60⟩, hq2⟩ := hp hlt v n1 σ1 hq
  refine lv_i2l hx9 hb9 dL_months_8 rfl ?_
  refine q_last X w (k := 60) h60 (i := 0) (by unfold vp_in; decide) dL_months_9 (fun H locs w => ?_)
  have hq3 := hq2 _ (show vp_updL f9 (0 : Int32).toNatClampNeg v.toInt64 0 = _ from rfl)
  refine lv_goto (tgt := 21) hx9 hb9 dL_months_10 (by decide) ?_
  refine lv_iconst (v := 0) hx9 hb9 dL_months_21 (by decide) ?_
  exact q_cret (post := post1) X w dL_months_22 rfl hq3

set_option maxHeartbeats 2000000 in
set_option maxRecDepth 100000 in
theorem c_L_monthLength (l : Launch) (D : va_G) (t : Nat → ClassId) (b n : Nat) (σ : qM) (a1 : Int32) (a2 : Int32) (a3 : Int32) {post : Int32 → Nat → qM → Prop} {xp : String → Nat → qM → Prop} {post1 : Int32 → Nat → qM → Prop} {fs : List Value} (h0 : σ 0 = some (.inr (12, fs))) (hM : xC l yX8_monthLength cX8_monthLength 5 (some .int) 7 2 12 D t b n σ [.ref (b + 0), .int a1, .int a2, .int a3] post xp) (hp : (∀ k e, σ k = some e → k < n) → ∀ (v : Int32) (n1 : Nat) (σ1 : qM), post v n1 σ1 → (∃ f, σ1 60 = some (o6 t f)) ∧ ∀ f : Nat → Int64, f 0 = v.toInt64 → post1 0 n1 (va_up σ1 60 (some (o6 t f)))) (hx : (∀ k e, σ k = some e → k < n) → ∀ (E : String) (n1 : Nat) (σ1 : qM), xp E n1 σ1 → (E = "java/lang/IndexOutOfBoundsException" ∧ post1 1 n1 σ1) ∨ (E = "java/lang/IllegalArgumentException" ∧ post1 2 n1 σ1)) : lC l yL_monthLength cL_monthLength 6 [(0, 12, 15, 20), (0, 12, 19, 13)] 8 2 12 D t b n σ [.ref (b + 0), .int a1, .int a2, .int a3, .ref (b + 60)] post1 := by
  refine lC.of (by decide +kernel) (Nat.le_of_ble_eq_true rfl) (fun p e s m args below meth c X hE hS hT w ls hl => ?_)
  have hx9 := X.1
  have hb9 := X.2.1
  have hlt : ∀ k e, σ k = some e → k < n := fun k e hk => w.1.lt hk
  have hl : lv_has ls 6 [(0, .ref (b + 0)), (1, .int a1), (2, .int a2), (3, .int a3), (4, .ref (b + 60))] := hl
  refine lv_aload hx9 hb9 dL_monthLength_0 (lv_at hl 4 rfl) ?_
  refine lv_iconst (v := 0) hx9 hb9 dL_monthLength_2 (by decide) ?_
  refine lv_aload_n hx9 hb9 dL_monthLength_3 rfl (lv_at hl 0 rfl) ?_
  refine lv_iload_n hx9 hb9 dL_monthLength_4 rfl (lv_at hl 1 rfl) ?_
  refine lv_iload_n hx9 hb9 dL_monthLength_5 rfl (lv_at hl 2 rfl) ?_
  refine lv_iload_n hx9 hb9 dL_monthLength_6 rfl (lv_at hl 3 rfl) ?_
  refine w_cX X hE w hM vL_33 (k := 0) h0 rfl rfl ⟨Nat.le_of_ble_eq_true rfl, Nat.le_of_ble_eq_true rfl⟩ rfl hl.1 (Nat.le_of_ble_eq_true rfl) dL_monthLength_7 ⟨Nat.le_of_ble_eq_true rfl, Nat.le_of_ble_eq_true rfl⟩ (fun E ce q9 n1 σ1 H1 locs1 hq w hcell hv9 hcl => ?_) (fun v n1 σ1 H1 locs1 hq w => ?_)
  · rcases hx hlt E n1 σ1 hq with ⟨rfl, h1⟩ | ⟨rfl, h1⟩
    · refine l_catch X hT [] [(0, 12, 19, 13)] (0, 12, 15, 20) rfl (by decide +kernel) cl_L_20 (by decide) rfl (fun z hz => absurd hz (List.not_mem_nil)) hcell hv9 hcl ?_
      refine lv_astore (lv' := [(5, .ref q9), (0, .ref (b + 0)), (1, .int a1), (2, .int a2), (3, .int a3), (4, .ref (b + 60))]) hx9 hb9 dL_monthLength_15 hl (by decide) rfl (fun ls hl => ?_)
      refine lv_iconst (v := 1) hx9 hb9 dL_monthLength_17 (by decide) ?_
      exact q_cret (post := post1) X w dL_monthLength_18 rfl h1
    · refine l_catch X hT [(0, 12, 15, 20)] [] (0, 12, 19, 13) rfl (by decide +kernel) cl_L_13 (by decide) rfl (fun z hz => by rcases List.mem_singleton.mp hz with rfl; exact ⟨by decide, _, by decide +kernel, by decide +kernel, cl_L_20⟩) hcell hv9 hcl ?_
      refine lv_astore (lv' := [(5, .ref q9), (0, .ref (b + 0)), (1, .int a1), (2, .int a2), (3, .int a3), (4, .ref (b + 60))]) hx9 hb9 dL_monthLength_19 hl (by decide) rfl (fun ls hl => ?_)
      refine lv_iconst (v := 2) hx9 hb9 dL_monthLength_21 (by decide) ?_
      exact q_cret (post := post1) X w dL_monthLength_22 rfl h1
  obtain ⟨⟨f9, h60⟩, hq2⟩ := hp hlt v n1 σ1 hq
  refine lv_i2l hx9 hb9 dL_monthLength_10 rfl ?_
  refine q_last X w (k := 60) h60 (i := 0) (by unfold vp_in; decide) dL_monthLength_11 (fun H locs w => ?_)
  have hq3 := hq2 _ (show vp_updL f9 (0 : Int32).toNatClampNeg v.toInt64 0 = _ from rfl)
  refine lv_goto (tgt := 23) hx9 hb9 dL_monthLength_12 (by decide) ?_
  refine lv_iconst (v := 0) hx9 hb9 dL_monthLength_23 (by decide) ?_
  exact q_cret (post := post1) X w dL_monthLength_24 rfl hq3

set_option maxHeartbeats 2000000 in
set_option maxRecDepth 100000 in
theorem c_L_isIntercalary (l : Launch) (D : va_G) (t : Nat → ClassId) (b n : Nat) (σ : qM) (a1 : Int32) (a2 : Int32) (a3 : Int32) {post : Int32 → Nat → qM → Prop} {xp : String → Nat → qM → Prop} {post1 : Int32 → Nat → qM → Prop} {fs : List Value} (h0 : σ 0 = some (.inr (12, fs))) (hM : xC l yX8_isIntercalary cX8_isIntercalary 5 (some .boolean) 7 2 12 D t b n σ [.ref (b + 0), .int a1, .int a2, .int a3] post xp) (hp : (∀ k e, σ k = some e → k < n) → ∀ (v : Int32) (n1 : Nat) (σ1 : qM), post v n1 σ1 → (∃ f, σ1 60 = some (o6 t f)) ∧ ∀ f : Nat → Int64, f 0 = (if v = 0 then 0 else 1) → post1 0 n1 (va_up σ1 60 (some (o6 t f)))) (hx : (∀ k e, σ k = some e → k < n) → ∀ (E : String) (n1 : Nat) (σ1 : qM), xp E n1 σ1 → (E = "java/lang/IndexOutOfBoundsException" ∧ post1 1 n1 σ1) ∨ (E = "java/lang/IllegalArgumentException" ∧ post1 2 n1 σ1)) : lC l yL_isIntercalary cL_isIntercalary 6 [(0, 19, 22, 20), (0, 19, 26, 13)] 8 2 12 D t b n σ [.ref (b + 0), .int a1, .int a2, .int a3, .ref (b + 60)] post1 := by
  refine lC.of (by decide +kernel) (Nat.le_of_ble_eq_true rfl) (fun p e s m args below meth c X hE hS hT w ls hl => ?_)
  have hx9 := X.1
  have hb9 := X.2.1
  have hlt : ∀ k e, σ k = some e → k < n := fun k e hk => w.1.lt hk
  have hl : lv_has ls 6 [(0, .ref (b + 0)), (1, .int a1), (2, .int a2), (3, .int a3), (4, .ref (b + 60))] := hl
  refine lv_aload hx9 hb9 dL_isIntercalary_0 (lv_at hl 4 rfl) ?_
  refine lv_iconst (v := 0) hx9 hb9 dL_isIntercalary_2 (by decide) ?_
  refine lv_aload_n hx9 hb9 dL_isIntercalary_3 rfl (lv_at hl 0 rfl) ?_
  refine lv_iload_n hx9 hb9 dL_isIntercalary_4 rfl (lv_at hl 1 rfl) ?_
  refine lv_iload_n hx9 hb9 dL_isIntercalary_5 rfl (lv_at hl 2 rfl) ?_
  refine lv_iload_n hx9 hb9 dL_isIntercalary_6 rfl (lv_at hl 3 rfl) ?_
  refine w_cX X hE w hM vL_37 (k := 0) h0 rfl rfl ⟨Nat.le_of_ble_eq_true rfl, Nat.le_of_ble_eq_true rfl⟩ rfl hl.1 (Nat.le_of_ble_eq_true rfl) dL_isIntercalary_7 ⟨Nat.le_of_ble_eq_true rfl, Nat.le_of_ble_eq_true rfl⟩ (fun E ce q9 n1 σ1 H1 locs1 hq w hcell hv9 hcl => ?_) (fun v n1 σ1 H1 locs1 hq w => ?_)
  · rcases hx hlt E n1 σ1 hq with ⟨rfl, h1⟩ | ⟨rfl, h1⟩
    · refine l_catch X hT [] [(0, 19, 26, 13)] (0, 19, 22, 20) rfl (by decide +kernel) cl_L_20 (by decide) rfl (fun z hz => absurd hz (List.not_mem_nil)) hcell hv9 hcl ?_
      refine lv_astore (lv' := [(5, .ref q9), (0, .ref (b + 0)), (1, .int a1), (2, .int a2), (3, .int a3), (4, .ref (b + 60))]) hx9 hb9 dL_isIntercalary_22 hl (by decide) rfl (fun ls hl => ?_)
      refine lv_iconst (v := 1) hx9 hb9 dL_isIntercalary_24 (by decide) ?_
      exact q_cret (post := post1) X w dL_isIntercalary_25 rfl h1
    · refine l_catch X hT [(0, 19, 22, 20)] [] (0, 19, 26, 13) rfl (by decide +kernel) cl_L_13 (by decide) rfl (fun z hz => by rcases List.mem_singleton.mp hz with rfl; exact ⟨by decide, _, by decide +kernel, by decide +kernel, cl_L_20⟩) hcell hv9 hcl ?_
      refine lv_astore (lv' := [(5, .ref q9), (0, .ref (b + 0)), (1, .int a1), (2, .int a2), (3, .int a3), (4, .ref (b + 60))]) hx9 hb9 dL_isIntercalary_26 hl (by decide) rfl (fun ls hl => ?_)
      refine lv_iconst (v := 2) hx9 hb9 dL_isIntercalary_28 (by decide) ?_
      exact q_cret (post := post1) X w dL_isIntercalary_29 rfl h1
  obtain ⟨⟨f9, h60⟩, hq2⟩ := hp hlt v n1 σ1 hq
  refine lv_if_eq (tgt := 17) hx9 hb9 dL_isIntercalary_10 (by decide) (fun c9 => ?_) (fun c9 => ?_)
  · skip
    refine lv_lconst (v := 0) hx9 hb9 dL_isIntercalary_17 rfl ?_
    refine q_last X w (k := 60) h60 (i := 0) (by unfold vp_in; decide) dL_isIntercalary_18 (fun H locs w => ?_)
    have hq3 := hq2 _ (show vp_updL f9 (0 : Int32).toNatClampNeg 0 0 = _ from by show _ = (if v = 0 then (0 : Int64) else 1); rw [if_pos c9]; rfl)
    refine lv_goto (tgt := 30) hx9 hb9 dL_isIntercalary_19 (by decide) ?_
    refine lv_iconst (v := 0) hx9 hb9 dL_isIntercalary_30 (by decide) ?_
    exact q_cret (post := post1) X w dL_isIntercalary_31 rfl hq3
  · skip
    refine lv_lconst (v := 1) hx9 hb9 dL_isIntercalary_13 rfl ?_
    refine lv_goto (tgt := 18) hx9 hb9 dL_isIntercalary_14 (by decide) ?_
    refine q_last X w (k := 60) h60 (i := 0) (by unfold vp_in; decide) dL_isIntercalary_18 (fun H locs w => ?_)
    have hq3 := hq2 _ (show vp_updL f9 (0 : Int32).toNatClampNeg 1 0 = _ from by show _ = (if v = 0 then (0 : Int64) else 1); rw [if_neg c9]; rfl)
    refine lv_goto (tgt := 30) hx9 hb9 dL_isIntercalary_19 (by decide) ?_
    refine lv_iconst (v := 0) hx9 hb9 dL_isIntercalary_30 (by decide) ?_
    exact q_cret (post := post1) X w dL_isIntercalary_31 rfl hq3

set_option maxHeartbeats 2000000 in
set_option maxRecDepth 100000 in
theorem c_L_yearLength (l : Launch) (D : va_G) (t : Nat → ClassId) (b n : Nat) (σ : qM) (a1 : Int32) (a2 : Int32) {post : Int32 → Nat → qM → Prop} {xp : String → Nat → qM → Prop} {post1 : Int32 → Nat → qM → Prop} {fs : List Value} (h0 : σ 0 = some (.inr (12, fs))) (hM : xC l yX8_yearLength cX8_yearLength 4 (some .int) 7 2 12 D t b n σ [.ref (b + 0), .int a1, .int a2] post xp) (hp : (∀ k e, σ k = some e → k < n) → ∀ (v : Int32) (n1 : Nat) (σ1 : qM), post v n1 σ1 → (∃ f, σ1 60 = some (o6 t f)) ∧ ∀ f : Nat → Int64, f 0 = v.toInt64 → post1 0 n1 (va_up σ1 60 (some (o6 t f)))) (hx : (∀ k e, σ k = some e → k < n) → ∀ (E : String) (n1 : Nat) (σ1 : qM), xp E n1 σ1 → (E = "java/lang/IndexOutOfBoundsException" ∧ post1 1 n1 σ1) ∨ (E = "java/lang/IllegalArgumentException" ∧ post1 2 n1 σ1)) : lC l yL_yearLength cL_yearLength 5 [(0, 10, 13, 20), (0, 10, 17, 13)] 8 2 12 D t b n σ [.ref (b + 0), .int a1, .int a2, .ref (b + 60)] post1 := by
  refine lC.of (by decide +kernel) (Nat.le_of_ble_eq_true rfl) (fun p e s m args below meth c X hE hS hT w ls hl => ?_)
  have hx9 := X.1
  have hb9 := X.2.1
  have hlt : ∀ k e, σ k = some e → k < n := fun k e hk => w.1.lt hk
  have hl : lv_has ls 5 [(0, .ref (b + 0)), (1, .int a1), (2, .int a2), (3, .ref (b + 60))] := hl
  refine lv_aload_n hx9 hb9 dL_yearLength_0 rfl (lv_at hl 3 rfl) ?_
  refine lv_iconst (v := 0) hx9 hb9 dL_yearLength_1 (by decide) ?_
  refine lv_aload_n hx9 hb9 dL_yearLength_2 rfl (lv_at hl 0 rfl) ?_
  refine lv_iload_n hx9 hb9 dL_yearLength_3 rfl (lv_at hl 1 rfl) ?_
  refine lv_iload_n hx9 hb9 dL_yearLength_4 rfl (lv_at hl 2 rfl) ?_
  refine w_cX X hE w hM vL_41 (k := 0) h0 rfl rfl ⟨Nat.le_of_ble_eq_true rfl, Nat.le_of_ble_eq_true rfl⟩ rfl hl.1 (Nat.le_of_ble_eq_true rfl) dL_yearLength_5 ⟨Nat.le_of_ble_eq_true rfl, Nat.le_of_ble_eq_true rfl⟩ (fun E ce q9 n1 σ1 H1 locs1 hq w hcell hv9 hcl => ?_) (fun v n1 σ1 H1 locs1 hq w => ?_)
  · rcases hx hlt E n1 σ1 hq with ⟨rfl, h1⟩ | ⟨rfl, h1⟩
    · refine l_catch X hT [] [(0, 10, 17, 13)] (0, 10, 13, 20) rfl (by decide +kernel) cl_L_20 (by decide) rfl (fun z hz => absurd hz (List.not_mem_nil)) hcell hv9 hcl ?_
      refine lv_astore (lv' := [(4, .ref q9), (0, .ref (b + 0)), (1, .int a1), (2, .int a2), (3, .ref (b + 60))]) hx9 hb9 dL_yearLength_13 hl (by decide) rfl (fun ls hl => ?_)
      refine lv_iconst (v := 1) hx9 hb9 dL_yearLength_15 (by decide) ?_
      exact q_cret (post := post1) X w dL_yearLength_16 rfl h1
    · refine l_catch X hT [(0, 10, 13, 20)] [] (0, 10, 17, 13) rfl (by decide +kernel) cl_L_13 (by decide) rfl (fun z hz => by rcases List.mem_singleton.mp hz with rfl; exact ⟨by decide, _, by decide +kernel, by decide +kernel, cl_L_20⟩) hcell hv9 hcl ?_
      refine lv_astore (lv' := [(4, .ref q9), (0, .ref (b + 0)), (1, .int a1), (2, .int a2), (3, .ref (b + 60))]) hx9 hb9 dL_yearLength_17 hl (by decide) rfl (fun ls hl => ?_)
      refine lv_iconst (v := 2) hx9 hb9 dL_yearLength_19 (by decide) ?_
      exact q_cret (post := post1) X w dL_yearLength_20 rfl h1
  obtain ⟨⟨f9, h60⟩, hq2⟩ := hp hlt v n1 σ1 hq
  refine lv_i2l hx9 hb9 dL_yearLength_8 rfl ?_
  refine q_last X w (k := 60) h60 (i := 0) (by unfold vp_in; decide) dL_yearLength_9 (fun H locs w => ?_)
  have hq3 := hq2 _ (show vp_updL f9 (0 : Int32).toNatClampNeg v.toInt64 0 = _ from rfl)
  refine lv_goto (tgt := 21) hx9 hb9 dL_yearLength_10 (by decide) ?_
  refine lv_iconst (v := 0) hx9 hb9 dL_yearLength_21 (by decide) ?_
  exact q_cret (post := post1) X w dL_yearLength_22 rfl hq3

set_option maxHeartbeats 2000000 in
set_option maxRecDepth 100000 in
theorem c_L_firstDay (l : Launch) (D : va_G) (t : Nat → ClassId) (b n : Nat) (σ : qM) (a1 : Int32) (a2 : Int32) {post : Int32 → Nat → qM → Prop} {xp : String → Nat → qM → Prop} {post1 : Int32 → Nat → qM → Prop} {fs : List Value} (h0 : σ 0 = some (.inr (12, fs))) (hM : xC l yX8_firstDay cX8_firstDay 4 (some .int) 7 2 12 D t b n σ [.ref (b + 0), .int a1, .int a2] post xp) (hp : (∀ k e, σ k = some e → k < n) → ∀ (v : Int32) (n1 : Nat) (σ1 : qM), post v n1 σ1 → (∃ f, σ1 60 = some (o6 t f)) ∧ ∀ f : Nat → Int64, f 0 = v.toInt64 → post1 0 n1 (va_up σ1 60 (some (o6 t f)))) (hx : (∀ k e, σ k = some e → k < n) → ∀ (E : String) (n1 : Nat) (σ1 : qM), xp E n1 σ1 → (E = "java/lang/IndexOutOfBoundsException" ∧ post1 1 n1 σ1) ∨ (E = "java/lang/IllegalArgumentException" ∧ post1 2 n1 σ1)) : lC l yL_firstDay cL_firstDay 5 [(0, 10, 13, 20), (0, 10, 17, 13)] 8 2 12 D t b n σ [.ref (b + 0), .int a1, .int a2, .ref (b + 60)] post1 := by
  refine lC.of (by decide +kernel) (Nat.le_of_ble_eq_true rfl) (fun p e s m args below meth c X hE hS hT w ls hl => ?_)
  have hx9 := X.1
  have hb9 := X.2.1
  have hlt : ∀ k e, σ k = some e → k < n := fun k e hk => w.1.lt hk
  have hl : lv_has ls 5 [(0, .ref (b + 0)), (1, .int a1), (2, .int a2), (3, .ref (b + 60))] := hl
  refine lv_aload_n hx9 hb9 dL_firstDay_0 rfl (lv_at hl 3 rfl) ?_
  refine lv_iconst (v := 0) hx9 hb9 dL_firstDay_1 (by decide) ?_
  refine lv_aload_n hx9 hb9 dL_firstDay_2 rfl (lv_at hl 0 rfl) ?_
  refine lv_iload_n hx9 hb9 dL_firstDay_3 rfl (lv_at hl 1 rfl) ?_
  refine lv_iload_n hx9 hb9 dL_firstDay_4 rfl (lv_at hl 2 rfl) ?_
  refine w_cX X hE w hM vL_44 (k := 0) h0 rfl rfl ⟨Nat.le_of_ble_eq_true rfl, Nat.le_of_ble_eq_true rfl⟩ rfl hl.1 (Nat.le_of_ble_eq_true rfl) dL_firstDay_5 ⟨Nat.le_of_ble_eq_true rfl, Nat.le_of_ble_eq_true rfl⟩ (fun E ce q9 n1 σ1 H1 locs1 hq w hcell hv9 hcl => ?_) (fun v n1 σ1 H1 locs1 hq w => ?_)
  · rcases hx hlt E n1 σ1 hq with ⟨rfl, h1⟩ | ⟨rfl, h1⟩
    · refine l_catch X hT [] [(0, 10, 17, 13)] (0, 10, 13, 20) rfl (by decide +kernel) cl_L_20 (by decide) rfl (fun z hz => absurd hz (List.not_mem_nil)) hcell hv9 hcl ?_
      refine lv_astore (lv' := [(4, .ref q9), (0, .ref (b + 0)), (1, .int a1), (2, .int a2), (3, .ref (b + 60))]) hx9 hb9 dL_firstDay_13 hl (by decide) rfl (fun ls hl => ?_)
      refine lv_iconst (v := 1) hx9 hb9 dL_firstDay_15 (by decide) ?_
      exact q_cret (post := post1) X w dL_firstDay_16 rfl h1
    · refine l_catch X hT [(0, 10, 13, 20)] [] (0, 10, 17, 13) rfl (by decide +kernel) cl_L_13 (by decide) rfl (fun z hz => by rcases List.mem_singleton.mp hz with rfl; exact ⟨by decide, _, by decide +kernel, by decide +kernel, cl_L_20⟩) hcell hv9 hcl ?_
      refine lv_astore (lv' := [(4, .ref q9), (0, .ref (b + 0)), (1, .int a1), (2, .int a2), (3, .ref (b + 60))]) hx9 hb9 dL_firstDay_17 hl (by decide) rfl (fun ls hl => ?_)
      refine lv_iconst (v := 2) hx9 hb9 dL_firstDay_19 (by decide) ?_
      exact q_cret (post := post1) X w dL_firstDay_20 rfl h1
  obtain ⟨⟨f9, h60⟩, hq2⟩ := hp hlt v n1 σ1 hq
  refine lv_i2l hx9 hb9 dL_firstDay_8 rfl ?_
  refine q_last X w (k := 60) h60 (i := 0) (by unfold vp_in; decide) dL_firstDay_9 (fun H locs w => ?_)
  have hq3 := hq2 _ (show vp_updL f9 (0 : Int32).toNatClampNeg v.toInt64 0 = _ from rfl)
  refine lv_goto (tgt := 21) hx9 hb9 dL_firstDay_10 (by decide) ?_
  refine lv_iconst (v := 0) hx9 hb9 dL_firstDay_21 (by decide) ?_
  exact q_cret (post := post1) X w dL_firstDay_22 rfl hq3

set_option maxHeartbeats 2000000 in
set_option maxRecDepth 100000 in
theorem c_L_dayOf (l : Launch) (D : va_G) (t : Nat → ClassId) (b n : Nat) (σ : qM) (a1 : Int32) (a2 : Int32) (a3 : Int32) (a4 : Int32) {post : Int32 → Nat → qM → Prop} {xp : String → Nat → qM → Prop} {post1 : Int32 → Nat → qM → Prop} {fs : List Value} (h0 : σ 0 = some (.inr (12, fs))) (hM : xC l yX8_dayOf cX8_dayOf 6 (some .int) 7 2 12 D t b n σ [.ref (b + 0), .int a1, .int a2, .int a3, .int a4] post xp) (hp : (∀ k e, σ k = some e → k < n) → ∀ (v : Int32) (n1 : Nat) (σ1 : qM), post v n1 σ1 → (∃ f, σ1 60 = some (o6 t f)) ∧ ∀ f : Nat → Int64, f 0 = v.toInt64 → post1 0 n1 (va_up σ1 60 (some (o6 t f)))) (hx : (∀ k e, σ k = some e → k < n) → ∀ (E : String) (n1 : Nat) (σ1 : qM), xp E n1 σ1 → (E = "java/lang/IndexOutOfBoundsException" ∧ post1 1 n1 σ1) ∨ (E = "java/lang/IllegalArgumentException" ∧ post1 2 n1 σ1)) : lC l yL_dayOf cL_dayOf 7 [(0, 14, 17, 20), (0, 14, 21, 13)] 8 2 12 D t b n σ [.ref (b + 0), .int a1, .int a2, .int a3, .int a4, .ref (b + 60)] post1 := by
  refine lC.of (by decide +kernel) (Nat.le_of_ble_eq_true rfl) (fun p e s m args below meth c X hE hS hT w ls hl => ?_)
  have hx9 := X.1
  have hb9 := X.2.1
  have hlt : ∀ k e, σ k = some e → k < n := fun k e hk => w.1.lt hk
  have hl : lv_has ls 7 [(0, .ref (b + 0)), (1, .int a1), (2, .int a2), (3, .int a3), (4, .int a4), (5, .ref (b + 60))] := hl
  refine lv_aload hx9 hb9 dL_dayOf_0 (lv_at hl 5 rfl) ?_
  refine lv_iconst (v := 0) hx9 hb9 dL_dayOf_2 (by decide) ?_
  refine lv_aload_n hx9 hb9 dL_dayOf_3 rfl (lv_at hl 0 rfl) ?_
  refine lv_iload_n hx9 hb9 dL_dayOf_4 rfl (lv_at hl 1 rfl) ?_
  refine lv_iload_n hx9 hb9 dL_dayOf_5 rfl (lv_at hl 2 rfl) ?_
  refine lv_iload_n hx9 hb9 dL_dayOf_6 rfl (lv_at hl 3 rfl) ?_
  refine lv_iload hx9 hb9 dL_dayOf_7 (lv_at hl 4 rfl) ?_
  refine w_cX X hE w hM vL_47 (k := 0) h0 rfl rfl ⟨Nat.le_of_ble_eq_true rfl, Nat.le_of_ble_eq_true rfl⟩ rfl hl.1 (Nat.le_of_ble_eq_true rfl) dL_dayOf_9 ⟨Nat.le_of_ble_eq_true rfl, Nat.le_of_ble_eq_true rfl⟩ (fun E ce q9 n1 σ1 H1 locs1 hq w hcell hv9 hcl => ?_) (fun v n1 σ1 H1 locs1 hq w => ?_)
  · rcases hx hlt E n1 σ1 hq with ⟨rfl, h1⟩ | ⟨rfl, h1⟩
    · refine l_catch X hT [] [(0, 14, 21, 13)] (0, 14, 17, 20) rfl (by decide +kernel) cl_L_20 (by decide) rfl (fun z hz => absurd hz (List.not_mem_nil)) hcell hv9 hcl ?_
      refine lv_astore (lv' := [(6, .ref q9), (0, .ref (b + 0)), (1, .int a1), (2, .int a2), (3, .int a3), (4, .int a4), (5, .ref (b + 60))]) hx9 hb9 dL_dayOf_17 hl (by decide) rfl (fun ls hl => ?_)
      refine lv_iconst (v := 1) hx9 hb9 dL_dayOf_19 (by decide) ?_
      exact q_cret (post := post1) X w dL_dayOf_20 rfl h1
    · refine l_catch X hT [(0, 14, 17, 20)] [] (0, 14, 21, 13) rfl (by decide +kernel) cl_L_13 (by decide) rfl (fun z hz => by rcases List.mem_singleton.mp hz with rfl; exact ⟨by decide, _, by decide +kernel, by decide +kernel, cl_L_20⟩) hcell hv9 hcl ?_
      refine lv_astore (lv' := [(6, .ref q9), (0, .ref (b + 0)), (1, .int a1), (2, .int a2), (3, .int a3), (4, .int a4), (5, .ref (b + 60))]) hx9 hb9 dL_dayOf_21 hl (by decide) rfl (fun ls hl => ?_)
      refine lv_iconst (v := 2) hx9 hb9 dL_dayOf_23 (by decide) ?_
      exact q_cret (post := post1) X w dL_dayOf_24 rfl h1
  obtain ⟨⟨f9, h60⟩, hq2⟩ := hp hlt v n1 σ1 hq
  refine lv_i2l hx9 hb9 dL_dayOf_12 rfl ?_
  refine q_last X w (k := 60) h60 (i := 0) (by unfold vp_in; decide) dL_dayOf_13 (fun H locs w => ?_)
  have hq3 := hq2 _ (show vp_updL f9 (0 : Int32).toNatClampNeg v.toInt64 0 = _ from rfl)
  refine lv_goto (tgt := 25) hx9 hb9 dL_dayOf_14 (by decide) ?_
  refine lv_iconst (v := 0) hx9 hb9 dL_dayOf_25 (by decide) ?_
  exact q_cret (post := post1) X w dL_dayOf_26 rfl hq3

set_option maxHeartbeats 2000000 in
set_option maxRecDepth 100000 in
theorem c_L_date (l : Launch) (D : va_G) (t : Nat → ClassId) (b n : Nat) (σ : qM) (a1 : Int32) (a2 : Int32) (a3 : Int32) {post : Int32 → Nat → qM → Prop} {xp : String → Nat → qM → Prop} {post1 : Int32 → Nat → qM → Prop} {fs : List Value} (h0 : σ 0 = some (.inr (12, fs))) (hM : xC l yX8_date cX8_date 5 (some .int) 7 3 18 D t b n σ [.ref (b + 0), .int a1, .int a2, .int a3] post xp) (hp : (∀ k e, σ k = some e → k < n) → ∀ (v : Int32) (n1 : Nat) (σ1 : qM), post v n1 σ1 → (∃ f, σ1 60 = some (o6 t f)) ∧ ∀ f : Nat → Int64, f 0 = v.toInt64 → post1 0 n1 (va_up σ1 60 (some (o6 t f)))) (hx : (∀ k e, σ k = some e → k < n) → ∀ (E : String) (n1 : Nat) (σ1 : qM), xp E n1 σ1 → (E = "java/lang/IndexOutOfBoundsException" ∧ post1 1 n1 σ1) ∨ (E = "java/lang/IllegalArgumentException" ∧ post1 2 n1 σ1) ∨ (E = "java/util/NoSuchElementException" ∧ post1 3 n1 σ1)) : lC l yL_date cL_date 6 [(0, 12, 15, 20), (0, 12, 19, 13), (0, 12, 23, 54)] 8 3 18 D t b n σ [.ref (b + 0), .int a1, .int a2, .int a3, .ref (b + 60)] post1 := by
  refine lC.of (by decide +kernel) (Nat.le_of_ble_eq_true rfl) (fun p e s m args below meth c X hE hS hT w ls hl => ?_)
  have hx9 := X.1
  have hb9 := X.2.1
  have hlt : ∀ k e, σ k = some e → k < n := fun k e hk => w.1.lt hk
  have hl : lv_has ls 6 [(0, .ref (b + 0)), (1, .int a1), (2, .int a2), (3, .int a3), (4, .ref (b + 60))] := hl
  refine lv_aload hx9 hb9 dL_date_0 (lv_at hl 4 rfl) ?_
  refine lv_iconst (v := 0) hx9 hb9 dL_date_2 (by decide) ?_
  refine lv_aload_n hx9 hb9 dL_date_3 rfl (lv_at hl 0 rfl) ?_
  refine lv_iload_n hx9 hb9 dL_date_4 rfl (lv_at hl 1 rfl) ?_
  refine lv_iload_n hx9 hb9 dL_date_5 rfl (lv_at hl 2 rfl) ?_
  refine lv_iload_n hx9 hb9 dL_date_6 rfl (lv_at hl 3 rfl) ?_
  refine w_cX X hE w hM vL_51 (k := 0) h0 rfl rfl ⟨Nat.le_of_ble_eq_true rfl, Nat.le_of_ble_eq_true rfl⟩ rfl hl.1 (Nat.le_of_ble_eq_true rfl) dL_date_7 ⟨Nat.le_of_ble_eq_true rfl, Nat.le_of_ble_eq_true rfl⟩ (fun E ce q9 n1 σ1 H1 locs1 hq w hcell hv9 hcl => ?_) (fun v n1 σ1 H1 locs1 hq w => ?_)
  · rcases hx hlt E n1 σ1 hq with ⟨rfl, h1⟩ | ⟨rfl, h1⟩ | ⟨rfl, h1⟩
    · refine l_catch X hT [] [(0, 12, 19, 13), (0, 12, 23, 54)] (0, 12, 15, 20) rfl (by decide +kernel) cl_L_20 (by decide) rfl (fun z hz => absurd hz (List.not_mem_nil)) hcell hv9 hcl ?_
      refine lv_astore (lv' := [(5, .ref q9), (0, .ref (b + 0)), (1, .int a1), (2, .int a2), (3, .int a3), (4, .ref (b + 60))]) hx9 hb9 dL_date_15 hl (by decide) rfl (fun ls hl => ?_)
      refine lv_iconst (v := 1) hx9 hb9 dL_date_17 (by decide) ?_
      exact q_cret (post := post1) X w dL_date_18 rfl h1
    · refine l_catch X hT [(0, 12, 15, 20)] [(0, 12, 23, 54)] (0, 12, 19, 13) rfl (by decide +kernel) cl_L_13 (by decide) rfl (fun z hz => by rcases List.mem_singleton.mp hz with rfl; exact ⟨by decide, _, by decide +kernel, by decide +kernel, cl_L_20⟩) hcell hv9 hcl ?_
      refine lv_astore (lv' := [(5, .ref q9), (0, .ref (b + 0)), (1, .int a1), (2, .int a2), (3, .int a3), (4, .ref (b + 60))]) hx9 hb9 dL_date_19 hl (by decide) rfl (fun ls hl => ?_)
      refine lv_iconst (v := 2) hx9 hb9 dL_date_21 (by decide) ?_
      exact q_cret (post := post1) X w dL_date_22 rfl h1
    · refine l_catch X hT [(0, 12, 15, 20), (0, 12, 19, 13)] [] (0, 12, 23, 54) rfl (by decide +kernel) cl_L_54 (by decide) rfl (fun z hz => by rcases List.mem_cons.mp hz with rfl | hz; (exact ⟨by decide, _, by decide +kernel, by decide +kernel, cl_L_20⟩); (rcases List.mem_singleton.mp hz with rfl; exact ⟨by decide, _, by decide +kernel, by decide +kernel, cl_L_13⟩)) hcell hv9 hcl ?_
      refine lv_astore (lv' := [(5, .ref q9), (0, .ref (b + 0)), (1, .int a1), (2, .int a2), (3, .int a3), (4, .ref (b + 60))]) hx9 hb9 dL_date_23 hl (by decide) rfl (fun ls hl => ?_)
      refine lv_iconst (v := 3) hx9 hb9 dL_date_25 (by decide) ?_
      exact q_cret (post := post1) X w dL_date_26 rfl h1
  obtain ⟨⟨f9, h60⟩, hq2⟩ := hp hlt v n1 σ1 hq
  refine lv_i2l hx9 hb9 dL_date_10 rfl ?_
  refine q_last X w (k := 60) h60 (i := 0) (by unfold vp_in; decide) dL_date_11 (fun H locs w => ?_)
  have hq3 := hq2 _ (show vp_updL f9 (0 : Int32).toNatClampNeg v.toInt64 0 = _ from rfl)
  refine lv_goto (tgt := 27) hx9 hb9 dL_date_12 (by decide) ?_
  refine lv_iconst (v := 0) hx9 hb9 dL_date_27 (by decide) ?_
  exact q_cret (post := post1) X w dL_date_28 rfl hq3

set_option maxHeartbeats 2000000 in
set_option maxRecDepth 100000 in
theorem c_L_convert (l : Launch) (D : va_G) (t : Nat → ClassId) (b n : Nat) (σ : qM) (a1 : Int32) (a2 : Int32) (a3 : Int32) (a4 : Int32) (a5 : Int32) (a6 : Int32) {post : Int32 → Nat → qM → Prop} {xp : String → Nat → qM → Prop} {post1 : Int32 → Nat → qM → Prop} {fs : List Value} (h0 : σ 0 = some (.inr (12, fs))) (hM : xC l yX8_convert cX8_convert 10 (some .int) 7 4 24 D t b n σ [.ref (b + 0), .int a1, .int a2, .int a3, .int a4, .int a5, .int a6] post xp) (hp : (∀ k e, σ k = some e → k < n) → ∀ (v : Int32) (n1 : Nat) (σ1 : qM), post v n1 σ1 → (∃ f, σ1 60 = some (o6 t f)) ∧ ∀ f : Nat → Int64, f 0 = v.toInt64 → post1 0 n1 (va_up σ1 60 (some (o6 t f)))) (hx : (∀ k e, σ k = some e → k < n) → ∀ (E : String) (n1 : Nat) (σ1 : qM), xp E n1 σ1 → (E = "java/lang/IndexOutOfBoundsException" ∧ post1 1 n1 σ1) ∨ (E = "java/lang/IllegalArgumentException" ∧ post1 2 n1 σ1) ∨ (E = "java/util/NoSuchElementException" ∧ post1 3 n1 σ1)) : lC l yL_convert cL_convert 9 [(0, 18, 21, 20), (0, 18, 25, 13), (0, 18, 29, 54)] 8 4 24 D t b n σ [.ref (b + 0), .int a1, .int a2, .int a3, .int a4, .int a5, .int a6, .ref (b + 60)] post1 := by
  refine lC.of (by decide +kernel) (Nat.le_of_ble_eq_true rfl) (fun p e s m args below meth c X hE hS hT w ls hl => ?_)
  have hx9 := X.1
  have hb9 := X.2.1
  have hlt : ∀ k e, σ k = some e → k < n := fun k e hk => w.1.lt hk
  have hl : lv_has ls 9 [(0, .ref (b + 0)), (1, .int a1), (2, .int a2), (3, .int a3), (4, .int a4), (5, .int a5), (6, .int a6), (7, .ref (b + 60))] := hl
  refine lv_aload hx9 hb9 dL_convert_0 (lv_at hl 7 rfl) ?_
  refine lv_iconst (v := 0) hx9 hb9 dL_convert_2 (by decide) ?_
  refine lv_aload_n hx9 hb9 dL_convert_3 rfl (lv_at hl 0 rfl) ?_
  refine lv_iload_n hx9 hb9 dL_convert_4 rfl (lv_at hl 1 rfl) ?_
  refine lv_iload_n hx9 hb9 dL_convert_5 rfl (lv_at hl 2 rfl) ?_
  refine lv_iload_n hx9 hb9 dL_convert_6 rfl (lv_at hl 3 rfl) ?_
  refine lv_iload hx9 hb9 dL_convert_7 (lv_at hl 4 rfl) ?_
  refine lv_iload hx9 hb9 dL_convert_9 (lv_at hl 5 rfl) ?_
  refine lv_iload hx9 hb9 dL_convert_11 (lv_at hl 6 rfl) ?_
  refine w_cX X hE w hM vL_56 (k := 0) h0 rfl rfl ⟨Nat.le_of_ble_eq_true rfl, Nat.le_of_ble_eq_true rfl⟩ rfl hl.1 (Nat.le_of_ble_eq_true rfl) dL_convert_13 ⟨Nat.le_of_ble_eq_true rfl, Nat.le_of_ble_eq_true rfl⟩ (fun E ce q9 n1 σ1 H1 locs1 hq w hcell hv9 hcl => ?_) (fun v n1 σ1 H1 locs1 hq w => ?_)
  · rcases hx hlt E n1 σ1 hq with ⟨rfl, h1⟩ | ⟨rfl, h1⟩ | ⟨rfl, h1⟩
    · refine l_catch X hT [] [(0, 18, 25, 13), (0, 18, 29, 54)] (0, 18, 21, 20) rfl (by decide +kernel) cl_L_20 (by decide) rfl (fun z hz => absurd hz (List.not_mem_nil)) hcell hv9 hcl ?_
      refine lv_astore (lv' := [(8, .ref q9), (0, .ref (b + 0)), (1, .int a1), (2, .int a2), (3, .int a3), (4, .int a4), (5, .int a5), (6, .int a6), (7, .ref (b + 60))]) hx9 hb9 dL_convert_21 hl (by decide) rfl (fun ls hl => ?_)
      refine lv_iconst (v := 1) hx9 hb9 dL_convert_23 (by decide) ?_
      exact q_cret (post := post1) X w dL_convert_24 rfl h1
    · refine l_catch X hT [(0, 18, 21, 20)] [(0, 18, 29, 54)] (0, 18, 25, 13) rfl (by decide +kernel) cl_L_13 (by decide) rfl (fun z hz => by rcases List.mem_singleton.mp hz with rfl; exact ⟨by decide, _, by decide +kernel, by decide +kernel, cl_L_20⟩) hcell hv9 hcl ?_
      refine lv_astore (lv' := [(8, .ref q9), (0, .ref (b + 0)), (1, .int a1), (2, .int a2), (3, .int a3), (4, .int a4), (5, .int a5), (6, .int a6), (7, .ref (b + 60))]) hx9 hb9 dL_convert_25 hl (by decide) rfl (fun ls hl => ?_)
      refine lv_iconst (v := 2) hx9 hb9 dL_convert_27 (by decide) ?_
      exact q_cret (post := post1) X w dL_convert_28 rfl h1
    · refine l_catch X hT [(0, 18, 21, 20), (0, 18, 25, 13)] [] (0, 18, 29, 54) rfl (by decide +kernel) cl_L_54 (by decide) rfl (fun z hz => by rcases List.mem_cons.mp hz with rfl | hz; (exact ⟨by decide, _, by decide +kernel, by decide +kernel, cl_L_20⟩); (rcases List.mem_singleton.mp hz with rfl; exact ⟨by decide, _, by decide +kernel, by decide +kernel, cl_L_13⟩)) hcell hv9 hcl ?_
      refine lv_astore (lv' := [(8, .ref q9), (0, .ref (b + 0)), (1, .int a1), (2, .int a2), (3, .int a3), (4, .int a4), (5, .int a5), (6, .int a6), (7, .ref (b + 60))]) hx9 hb9 dL_convert_29 hl (by decide) rfl (fun ls hl => ?_)
      refine lv_iconst (v := 3) hx9 hb9 dL_convert_31 (by decide) ?_
      exact q_cret (post := post1) X w dL_convert_32 rfl h1
  obtain ⟨⟨f9, h60⟩, hq2⟩ := hp hlt v n1 σ1 hq
  refine lv_i2l hx9 hb9 dL_convert_16 rfl ?_
  refine q_last X w (k := 60) h60 (i := 0) (by unfold vp_in; decide) dL_convert_17 (fun H locs w => ?_)
  have hq3 := hq2 _ (show vp_updL f9 (0 : Int32).toNatClampNeg v.toInt64 0 = _ from rfl)
  refine lv_goto (tgt := 33) hx9 hb9 dL_convert_18 (by decide) ?_
  refine lv_iconst (v := 0) hx9 hb9 dL_convert_33 (by decide) ?_
  exact q_cret (post := post1) X w dL_convert_34 rfl hq3

set_option maxHeartbeats 2000000 in
set_option maxRecDepth 100000 in
theorem c_L_week (l : Launch) (D : va_G) (t : Nat → ClassId) (b n : Nat) (σ : qM) (a1 : Int32) (a2 : Int32) (a3 : Int32) {post : Int32 → Nat → qM → Prop} {xp : String → Nat → qM → Prop} {post1 : Int32 → Nat → qM → Prop} {fs : List Value} (h0 : σ 0 = some (.inr (12, fs))) (hM : xC l yX8_week cX8_week 6 (some .int) 7 3 18 D t b n σ [.ref (b + 0), .int a1, .int a2, .int a3] post xp) (hp : (∀ k e, σ k = some e → k < n) → ∀ (v : Int32) (n1 : Nat) (σ1 : qM), post v n1 σ1 → (∃ f, σ1 60 = some (o6 t f)) ∧ ∀ f : Nat → Int64, f 0 = v.toInt64 → post1 0 n1 (va_up σ1 60 (some (o6 t f)))) (hx : (∀ k e, σ k = some e → k < n) → ∀ (E : String) (n1 : Nat) (σ1 : qM), xp E n1 σ1 → (E = "java/lang/IndexOutOfBoundsException" ∧ post1 1 n1 σ1) ∨ (E = "java/lang/IllegalArgumentException" ∧ post1 2 n1 σ1) ∨ (E = "java/util/NoSuchElementException" ∧ post1 3 n1 σ1)) : lC l yL_week cL_week 6 [(0, 12, 15, 20), (0, 12, 19, 13), (0, 12, 23, 54)] 8 3 18 D t b n σ [.ref (b + 0), .int a1, .int a2, .int a3, .ref (b + 60)] post1 := by
  refine lC.of (by decide +kernel) (Nat.le_of_ble_eq_true rfl) (fun p e s m args below meth c X hE hS hT w ls hl => ?_)
  have hx9 := X.1
  have hb9 := X.2.1
  have hlt : ∀ k e, σ k = some e → k < n := fun k e hk => w.1.lt hk
  have hl : lv_has ls 6 [(0, .ref (b + 0)), (1, .int a1), (2, .int a2), (3, .int a3), (4, .ref (b + 60))] := hl
  refine lv_aload hx9 hb9 dL_week_0 (lv_at hl 4 rfl) ?_
  refine lv_iconst (v := 0) hx9 hb9 dL_week_2 (by decide) ?_
  refine lv_aload_n hx9 hb9 dL_week_3 rfl (lv_at hl 0 rfl) ?_
  refine lv_iload_n hx9 hb9 dL_week_4 rfl (lv_at hl 1 rfl) ?_
  refine lv_iload_n hx9 hb9 dL_week_5 rfl (lv_at hl 2 rfl) ?_
  refine lv_iload_n hx9 hb9 dL_week_6 rfl (lv_at hl 3 rfl) ?_
  refine w_cX X hE w hM vL_60 (k := 0) h0 rfl rfl ⟨Nat.le_of_ble_eq_true rfl, Nat.le_of_ble_eq_true rfl⟩ rfl hl.1 (Nat.le_of_ble_eq_true rfl) dL_week_7 ⟨Nat.le_of_ble_eq_true rfl, Nat.le_of_ble_eq_true rfl⟩ (fun E ce q9 n1 σ1 H1 locs1 hq w hcell hv9 hcl => ?_) (fun v n1 σ1 H1 locs1 hq w => ?_)
  · rcases hx hlt E n1 σ1 hq with ⟨rfl, h1⟩ | ⟨rfl, h1⟩ | ⟨rfl, h1⟩
    · refine l_catch X hT [] [(0, 12, 19, 13), (0, 12, 23, 54)] (0, 12, 15, 20) rfl (by decide +kernel) cl_L_20 (by decide) rfl (fun z hz => absurd hz (List.not_mem_nil)) hcell hv9 hcl ?_
      refine lv_astore (lv' := [(5, .ref q9), (0, .ref (b + 0)), (1, .int a1), (2, .int a2), (3, .int a3), (4, .ref (b + 60))]) hx9 hb9 dL_week_15 hl (by decide) rfl (fun ls hl => ?_)
      refine lv_iconst (v := 1) hx9 hb9 dL_week_17 (by decide) ?_
      exact q_cret (post := post1) X w dL_week_18 rfl h1
    · refine l_catch X hT [(0, 12, 15, 20)] [(0, 12, 23, 54)] (0, 12, 19, 13) rfl (by decide +kernel) cl_L_13 (by decide) rfl (fun z hz => by rcases List.mem_singleton.mp hz with rfl; exact ⟨by decide, _, by decide +kernel, by decide +kernel, cl_L_20⟩) hcell hv9 hcl ?_
      refine lv_astore (lv' := [(5, .ref q9), (0, .ref (b + 0)), (1, .int a1), (2, .int a2), (3, .int a3), (4, .ref (b + 60))]) hx9 hb9 dL_week_19 hl (by decide) rfl (fun ls hl => ?_)
      refine lv_iconst (v := 2) hx9 hb9 dL_week_21 (by decide) ?_
      exact q_cret (post := post1) X w dL_week_22 rfl h1
    · refine l_catch X hT [(0, 12, 15, 20), (0, 12, 19, 13)] [] (0, 12, 23, 54) rfl (by decide +kernel) cl_L_54 (by decide) rfl (fun z hz => by rcases List.mem_cons.mp hz with rfl | hz; (exact ⟨by decide, _, by decide +kernel, by decide +kernel, cl_L_20⟩); (rcases List.mem_singleton.mp hz with rfl; exact ⟨by decide, _, by decide +kernel, by decide +kernel, cl_L_13⟩)) hcell hv9 hcl ?_
      refine lv_astore (lv' := [(5, .ref q9), (0, .ref (b + 0)), (1, .int a1), (2, .int a2), (3, .int a3), (4, .ref (b + 60))]) hx9 hb9 dL_week_23 hl (by decide) rfl (fun ls hl => ?_)
      refine lv_iconst (v := 3) hx9 hb9 dL_week_25 (by decide) ?_
      exact q_cret (post := post1) X w dL_week_26 rfl h1
  obtain ⟨⟨f9, h60⟩, hq2⟩ := hp hlt v n1 σ1 hq
  refine lv_i2l hx9 hb9 dL_week_10 rfl ?_
  refine q_last X w (k := 60) h60 (i := 0) (by unfold vp_in; decide) dL_week_11 (fun H locs w => ?_)
  have hq3 := hq2 _ (show vp_updL f9 (0 : Int32).toNatClampNeg v.toInt64 0 = _ from rfl)
  refine lv_goto (tgt := 27) hx9 hb9 dL_week_12 (by decide) ?_
  refine lv_iconst (v := 0) hx9 hb9 dL_week_27 (by decide) ?_
  exact q_cret (post := post1) X w dL_week_28 rfl hq3

set_option maxHeartbeats 2000000 in
set_option maxRecDepth 100000 in
theorem c_L_weeks (l : Launch) (D : va_G) (t : Nat → ClassId) (b n : Nat) (σ : qM) (a1 : Int32) (a2 : Int32) {post : Int32 → Nat → qM → Prop} {xp : String → Nat → qM → Prop} {post1 : Int32 → Nat → qM → Prop} {fs : List Value} (h0 : σ 0 = some (.inr (12, fs))) (hM : xC l yX8_weeks cX8_weeks 4 (some .int) 7 2 12 D t b n σ [.ref (b + 0), .int a1, .int a2] post xp) (hp : (∀ k e, σ k = some e → k < n) → ∀ (v : Int32) (n1 : Nat) (σ1 : qM), post v n1 σ1 → (∃ f, σ1 60 = some (o6 t f)) ∧ ∀ f : Nat → Int64, f 0 = v.toInt64 → post1 0 n1 (va_up σ1 60 (some (o6 t f)))) (hx : (∀ k e, σ k = some e → k < n) → ∀ (E : String) (n1 : Nat) (σ1 : qM), xp E n1 σ1 → (E = "java/lang/IndexOutOfBoundsException" ∧ post1 1 n1 σ1) ∨ (E = "java/lang/IllegalArgumentException" ∧ post1 2 n1 σ1)) : lC l yL_weeks cL_weeks 5 [(0, 10, 13, 20), (0, 10, 17, 13)] 8 2 12 D t b n σ [.ref (b + 0), .int a1, .int a2, .ref (b + 60)] post1 := by
  refine lC.of (by decide +kernel) (Nat.le_of_ble_eq_true rfl) (fun p e s m args below meth c X hE hS hT w ls hl => ?_)
  have hx9 := X.1
  have hb9 := X.2.1
  have hlt : ∀ k e, σ k = some e → k < n := fun k e hk => w.1.lt hk
  have hl : lv_has ls 5 [(0, .ref (b + 0)), (1, .int a1), (2, .int a2), (3, .ref (b + 60))] := hl
  refine lv_aload_n hx9 hb9 dL_weeks_0 rfl (lv_at hl 3 rfl) ?_
  refine lv_iconst (v := 0) hx9 hb9 dL_weeks_1 (by decide) ?_
  refine lv_aload_n hx9 hb9 dL_weeks_2 rfl (lv_at hl 0 rfl) ?_
  refine lv_iload_n hx9 hb9 dL_weeks_3 rfl (lv_at hl 1 rfl) ?_
  refine lv_iload_n hx9 hb9 dL_weeks_4 rfl (lv_at hl 2 rfl) ?_
  refine w_cX X hE w hM vL_63 (k := 0) h0 rfl rfl ⟨Nat.le_of_ble_eq_true rfl, Nat.le_of_ble_eq_true rfl⟩ rfl hl.1 (Nat.le_of_ble_eq_true rfl) dL_weeks_5 ⟨Nat.le_of_ble_eq_true rfl, Nat.le_of_ble_eq_true rfl⟩ (fun E ce q9 n1 σ1 H1 locs1 hq w hcell hv9 hcl => ?_) (fun v n1 σ1 H1 locs1 hq w => ?_)
  · rcases hx hlt E n1 σ1 hq with ⟨rfl, h1⟩ | ⟨rfl, h1⟩
    · refine l_catch X hT [] [(0, 10, 17, 13)] (0, 10, 13, 20) rfl (by decide +kernel) cl_L_20 (by decide) rfl (fun z hz => absurd hz (List.not_mem_nil)) hcell hv9 hcl ?_
      refine lv_astore (lv' := [(4, .ref q9), (0, .ref (b + 0)), (1, .int a1), (2, .int a2), (3, .ref (b + 60))]) hx9 hb9 dL_weeks_13 hl (by decide) rfl (fun ls hl => ?_)
      refine lv_iconst (v := 1) hx9 hb9 dL_weeks_15 (by decide) ?_
      exact q_cret (post := post1) X w dL_weeks_16 rfl h1
    · refine l_catch X hT [(0, 10, 13, 20)] [] (0, 10, 17, 13) rfl (by decide +kernel) cl_L_13 (by decide) rfl (fun z hz => by rcases List.mem_singleton.mp hz with rfl; exact ⟨by decide, _, by decide +kernel, by decide +kernel, cl_L_20⟩) hcell hv9 hcl ?_
      refine lv_astore (lv' := [(4, .ref q9), (0, .ref (b + 0)), (1, .int a1), (2, .int a2), (3, .ref (b + 60))]) hx9 hb9 dL_weeks_17 hl (by decide) rfl (fun ls hl => ?_)
      refine lv_iconst (v := 2) hx9 hb9 dL_weeks_19 (by decide) ?_
      exact q_cret (post := post1) X w dL_weeks_20 rfl h1
  obtain ⟨⟨f9, h60⟩, hq2⟩ := hp hlt v n1 σ1 hq
  refine lv_i2l hx9 hb9 dL_weeks_8 rfl ?_
  refine q_last X w (k := 60) h60 (i := 0) (by unfold vp_in; decide) dL_weeks_9 (fun H locs w => ?_)
  have hq3 := hq2 _ (show vp_updL f9 (0 : Int32).toNatClampNeg v.toInt64 0 = _ from rfl)
  refine lv_goto (tgt := 21) hx9 hb9 dL_weeks_10 (by decide) ?_
  refine lv_iconst (v := 0) hx9 hb9 dL_weeks_21 (by decide) ?_
  exact q_cret (post := post1) X w dL_weeks_22 rfl hq3

set_option maxHeartbeats 2000000 in
set_option maxRecDepth 100000 in
theorem c_L_firstDayOfWeek (l : Launch) (D : va_G) (t : Nat → ClassId) (b n : Nat) (σ : qM) (a1 : Int32) (a2 : Int32) (a3 : Int32) {post : Int32 → Nat → qM → Prop} {xp : String → Nat → qM → Prop} {post1 : Int32 → Nat → qM → Prop} {fs : List Value} (h0 : σ 0 = some (.inr (12, fs))) (hM : xC l yX8_firstDayOfWeek cX8_firstDayOfWeek 5 (some .int) 7 2 12 D t b n σ [.ref (b + 0), .int a1, .int a2, .int a3] post xp) (hp : (∀ k e, σ k = some e → k < n) → ∀ (v : Int32) (n1 : Nat) (σ1 : qM), post v n1 σ1 → (∃ f, σ1 60 = some (o6 t f)) ∧ ∀ f : Nat → Int64, f 0 = v.toInt64 → post1 0 n1 (va_up σ1 60 (some (o6 t f)))) (hx : (∀ k e, σ k = some e → k < n) → ∀ (E : String) (n1 : Nat) (σ1 : qM), xp E n1 σ1 → (E = "java/lang/IndexOutOfBoundsException" ∧ post1 1 n1 σ1) ∨ (E = "java/lang/IllegalArgumentException" ∧ post1 2 n1 σ1)) : lC l yL_firstDayOfWeek cL_firstDayOfWeek 6 [(0, 12, 15, 20), (0, 12, 19, 13)] 8 2 12 D t b n σ [.ref (b + 0), .int a1, .int a2, .int a3, .ref (b + 60)] post1 := by
  refine lC.of (by decide +kernel) (Nat.le_of_ble_eq_true rfl) (fun p e s m args below meth c X hE hS hT w ls hl => ?_)
  have hx9 := X.1
  have hb9 := X.2.1
  have hlt : ∀ k e, σ k = some e → k < n := fun k e hk => w.1.lt hk
  have hl : lv_has ls 6 [(0, .ref (b + 0)), (1, .int a1), (2, .int a2), (3, .int a3), (4, .ref (b + 60))] := hl
  refine lv_aload hx9 hb9 dL_firstDayOfWeek_0 (lv_at hl 4 rfl) ?_
  refine lv_iconst (v := 0) hx9 hb9 dL_firstDayOfWeek_2 (by decide) ?_
  refine lv_aload_n hx9 hb9 dL_firstDayOfWeek_3 rfl (lv_at hl 0 rfl) ?_
  refine lv_iload_n hx9 hb9 dL_firstDayOfWeek_4 rfl (lv_at hl 1 rfl) ?_
  refine lv_iload_n hx9 hb9 dL_firstDayOfWeek_5 rfl (lv_at hl 2 rfl) ?_
  refine lv_iload_n hx9 hb9 dL_firstDayOfWeek_6 rfl (lv_at hl 3 rfl) ?_
  refine w_cX X hE w hM vL_66 (k := 0) h0 rfl rfl ⟨Nat.le_of_ble_eq_true rfl, Nat.le_of_ble_eq_true rfl⟩ rfl hl.1 (Nat.le_of_ble_eq_true rfl) dL_firstDayOfWeek_7 ⟨Nat.le_of_ble_eq_true rfl, Nat.le_of_ble_eq_true rfl⟩ (fun E ce q9 n1 σ1 H1 locs1 hq w hcell hv9 hcl => ?_) (fun v n1 σ1 H1 locs1 hq w => ?_)
  · rcases hx hlt E n1 σ1 hq with ⟨rfl, h1⟩ | ⟨rfl, h1⟩
    · refine l_catch X hT [] [(0, 12, 19, 13)] (0, 12, 15, 20) rfl (by decide +kernel) cl_L_20 (by decide) rfl (fun z hz => absurd hz (List.not_mem_nil)) hcell hv9 hcl ?_
      refine lv_astore (lv' := [(5, .ref q9), (0, .ref (b + 0)), (1, .int a1), (2, .int a2), (3, .int a3), (4, .ref (b + 60))]) hx9 hb9 dL_firstDayOfWeek_15 hl (by decide) rfl (fun ls hl => ?_)
      refine lv_iconst (v := 1) hx9 hb9 dL_firstDayOfWeek_17 (by decide) ?_
      exact q_cret (post := post1) X w dL_firstDayOfWeek_18 rfl h1
    · refine l_catch X hT [(0, 12, 15, 20)] [] (0, 12, 19, 13) rfl (by decide +kernel) cl_L_13 (by decide) rfl (fun z hz => by rcases List.mem_singleton.mp hz with rfl; exact ⟨by decide, _, by decide +kernel, by decide +kernel, cl_L_20⟩) hcell hv9 hcl ?_
      refine lv_astore (lv' := [(5, .ref q9), (0, .ref (b + 0)), (1, .int a1), (2, .int a2), (3, .int a3), (4, .ref (b + 60))]) hx9 hb9 dL_firstDayOfWeek_19 hl (by decide) rfl (fun ls hl => ?_)
      refine lv_iconst (v := 2) hx9 hb9 dL_firstDayOfWeek_21 (by decide) ?_
      exact q_cret (post := post1) X w dL_firstDayOfWeek_22 rfl h1
  obtain ⟨⟨f9, h60⟩, hq2⟩ := hp hlt v n1 σ1 hq
  refine lv_i2l hx9 hb9 dL_firstDayOfWeek_10 rfl ?_
  refine q_last X w (k := 60) h60 (i := 0) (by unfold vp_in; decide) dL_firstDayOfWeek_11 (fun H locs w => ?_)
  have hq3 := hq2 _ (show vp_updL f9 (0 : Int32).toNatClampNeg v.toInt64 0 = _ from rfl)
  refine lv_goto (tgt := 23) hx9 hb9 dL_firstDayOfWeek_12 (by decide) ?_
  refine lv_iconst (v := 0) hx9 hb9 dL_firstDayOfWeek_23 (by decide) ?_
  exact q_cret (post := post1) X w dL_firstDayOfWeek_24 rfl hq3

set_option maxHeartbeats 2000000 in
set_option maxRecDepth 100000 in
theorem c_L_plus (l : Launch) (D : va_G) (t : Nat → ClassId) (b n : Nat) (σ : qM) (a1 : Int32) (a2 : Int32) (a3 : Int32) {post : Int32 → Nat → qM → Prop} {xp : String → Nat → qM → Prop} {post1 : Int32 → Nat → qM → Prop} {fs : List Value} (h0 : σ 0 = some (.inr (12, fs))) (hM : xC l yX8_plus cX8_plus 5 (some .int) 7 3 18 D t b n σ [.ref (b + 0), .int a1, .int a2, .int a3] post xp) (hp : (∀ k e, σ k = some e → k < n) → ∀ (v : Int32) (n1 : Nat) (σ1 : qM), post v n1 σ1 → (∃ f, σ1 60 = some (o6 t f)) ∧ ∀ f : Nat → Int64, f 0 = v.toInt64 → post1 0 n1 (va_up σ1 60 (some (o6 t f)))) (hx : (∀ k e, σ k = some e → k < n) → ∀ (E : String) (n1 : Nat) (σ1 : qM), xp E n1 σ1 → (E = "java/lang/IndexOutOfBoundsException" ∧ post1 1 n1 σ1) ∨ (E = "java/lang/IllegalArgumentException" ∧ post1 2 n1 σ1) ∨ (E = "java/util/NoSuchElementException" ∧ post1 3 n1 σ1)) : lC l yL_plus cL_plus 6 [(0, 12, 15, 20), (0, 12, 19, 13), (0, 12, 23, 54)] 8 3 18 D t b n σ [.ref (b + 0), .int a1, .int a2, .int a3, .ref (b + 60)] post1 := by
  refine lC.of (by decide +kernel) (Nat.le_of_ble_eq_true rfl) (fun p e s m args below meth c X hE hS hT w ls hl => ?_)
  have hx9 := X.1
  have hb9 := X.2.1
  have hlt : ∀ k e, σ k = some e → k < n := fun k e hk => w.1.lt hk
  have hl : lv_has ls 6 [(0, .ref (b + 0)), (1, .int a1), (2, .int a2), (3, .int a3), (4, .ref (b + 60))] := hl
  refine lv_aload hx9 hb9 dL_plus_0 (lv_at hl 4 rfl) ?_
  refine lv_iconst (v := 0) hx9 hb9 dL_plus_2 (by decide) ?_
  refine lv_aload_n hx9 hb9 dL_plus_3 rfl (lv_at hl 0 rfl) ?_
  refine lv_iload_n hx9 hb9 dL_plus_4 rfl (lv_at hl 1 rfl) ?_
  refine lv_iload_n hx9 hb9 dL_plus_5 rfl (lv_at hl 2 rfl) ?_
  refine lv_iload_n hx9 hb9 dL_plus_6 rfl (lv_at hl 3 rfl) ?_
  refine w_cX X hE w hM vL_69 (k := 0) h0 rfl rfl ⟨Nat.le_of_ble_eq_true rfl, Nat.le_of_ble_eq_true rfl⟩ rfl hl.1 (Nat.le_of_ble_eq_true rfl) dL_plus_7 ⟨Nat.le_of_ble_eq_true rfl, Nat.le_of_ble_eq_true rfl⟩ (fun E ce q9 n1 σ1 H1 locs1 hq w hcell hv9 hcl => ?_) (fun v n1 σ1 H1 locs1 hq w => ?_)
  · rcases hx hlt E n1 σ1 hq with ⟨rfl, h1⟩ | ⟨rfl, h1⟩ | ⟨rfl, h1⟩
    · refine l_catch X hT [] [(0, 12, 19, 13), (0, 12, 23, 54)] (0, 12, 15, 20) rfl (by decide +kernel) cl_L_20 (by decide) rfl (fun z hz => absurd hz (List.not_mem_nil)) hcell hv9 hcl ?_
      refine lv_astore (lv' := [(5, .ref q9), (0, .ref (b + 0)), (1, .int a1), (2, .int a2), (3, .int a3), (4, .ref (b + 60))]) hx9 hb9 dL_plus_15 hl (by decide) rfl (fun ls hl => ?_)
      refine lv_iconst (v := 1) hx9 hb9 dL_plus_17 (by decide) ?_
      exact q_cret (post := post1) X w dL_plus_18 rfl h1
    · refine l_catch X hT [(0, 12, 15, 20)] [(0, 12, 23, 54)] (0, 12, 19, 13) rfl (by decide +kernel) cl_L_13 (by decide) rfl (fun z hz => by rcases List.mem_singleton.mp hz with rfl; exact ⟨by decide, _, by decide +kernel, by decide +kernel, cl_L_20⟩) hcell hv9 hcl ?_
      refine lv_astore (lv' := [(5, .ref q9), (0, .ref (b + 0)), (1, .int a1), (2, .int a2), (3, .int a3), (4, .ref (b + 60))]) hx9 hb9 dL_plus_19 hl (by decide) rfl (fun ls hl => ?_)
      refine lv_iconst (v := 2) hx9 hb9 dL_plus_21 (by decide) ?_
      exact q_cret (post := post1) X w dL_plus_22 rfl h1
    · refine l_catch X hT [(0, 12, 15, 20), (0, 12, 19, 13)] [] (0, 12, 23, 54) rfl (by decide +kernel) cl_L_54 (by decide) rfl (fun z hz => by rcases List.mem_cons.mp hz with rfl | hz; (exact ⟨by decide, _, by decide +kernel, by decide +kernel, cl_L_20⟩); (rcases List.mem_singleton.mp hz with rfl; exact ⟨by decide, _, by decide +kernel, by decide +kernel, cl_L_13⟩)) hcell hv9 hcl ?_
      refine lv_astore (lv' := [(5, .ref q9), (0, .ref (b + 0)), (1, .int a1), (2, .int a2), (3, .int a3), (4, .ref (b + 60))]) hx9 hb9 dL_plus_23 hl (by decide) rfl (fun ls hl => ?_)
      refine lv_iconst (v := 3) hx9 hb9 dL_plus_25 (by decide) ?_
      exact q_cret (post := post1) X w dL_plus_26 rfl h1
  obtain ⟨⟨f9, h60⟩, hq2⟩ := hp hlt v n1 σ1 hq
  refine lv_i2l hx9 hb9 dL_plus_10 rfl ?_
  refine q_last X w (k := 60) h60 (i := 0) (by unfold vp_in; decide) dL_plus_11 (fun H locs w => ?_)
  have hq3 := hq2 _ (show vp_updL f9 (0 : Int32).toNatClampNeg v.toInt64 0 = _ from rfl)
  refine lv_goto (tgt := 27) hx9 hb9 dL_plus_12 (by decide) ?_
  refine lv_iconst (v := 0) hx9 hb9 dL_plus_27 (by decide) ?_
  exact q_cret (post := post1) X w dL_plus_28 rfl hq3

set_option maxHeartbeats 2000000 in
set_option maxRecDepth 100000 in
theorem c_L_plusYears (l : Launch) (D : va_G) (t : Nat → ClassId) (b n : Nat) (σ : qM) (a1 : Int32) (a2 : Int32) (a3 : Int32) {post : Int32 → Nat → qM → Prop} {xp : String → Nat → qM → Prop} {post1 : Int32 → Nat → qM → Prop} {fs : List Value} (h0 : σ 0 = some (.inr (12, fs))) (hM : xC l yX8_plusYears cX8_plusYears 5 (some .int) 7 3 18 D t b n σ [.ref (b + 0), .int a1, .int a2, .int a3] post xp) (hp : (∀ k e, σ k = some e → k < n) → ∀ (v : Int32) (n1 : Nat) (σ1 : qM), post v n1 σ1 → (∃ f, σ1 60 = some (o6 t f)) ∧ ∀ f : Nat → Int64, f 0 = v.toInt64 → post1 0 n1 (va_up σ1 60 (some (o6 t f)))) (hx : (∀ k e, σ k = some e → k < n) → ∀ (E : String) (n1 : Nat) (σ1 : qM), xp E n1 σ1 → (E = "java/lang/IndexOutOfBoundsException" ∧ post1 1 n1 σ1) ∨ (E = "java/lang/IllegalArgumentException" ∧ post1 2 n1 σ1) ∨ (E = "java/util/NoSuchElementException" ∧ post1 3 n1 σ1)) : lC l yL_plusYears cL_plusYears 6 [(0, 12, 15, 20), (0, 12, 19, 13), (0, 12, 23, 54)] 8 3 18 D t b n σ [.ref (b + 0), .int a1, .int a2, .int a3, .ref (b + 60)] post1 := by
  refine lC.of (by decide +kernel) (Nat.le_of_ble_eq_true rfl) (fun p e s m args below meth c X hE hS hT w ls hl => ?_)
  have hx9 := X.1
  have hb9 := X.2.1
  have hlt : ∀ k e, σ k = some e → k < n := fun k e hk => w.1.lt hk
  have hl : lv_has ls 6 [(0, .ref (b + 0)), (1, .int a1), (2, .int a2), (3, .int a3), (4, .ref (b + 60))] := hl
  refine lv_aload hx9 hb9 dL_plusYears_0 (lv_at hl 4 rfl) ?_
  refine lv_iconst (v := 0) hx9 hb9 dL_plusYears_2 (by decide) ?_
  refine lv_aload_n hx9 hb9 dL_plusYears_3 rfl (lv_at hl 0 rfl) ?_
  refine lv_iload_n hx9 hb9 dL_plusYears_4 rfl (lv_at hl 1 rfl) ?_
  refine lv_iload_n hx9 hb9 dL_plusYears_5 rfl (lv_at hl 2 rfl) ?_
  refine lv_iload_n hx9 hb9 dL_plusYears_6 rfl (lv_at hl 3 rfl) ?_
  refine w_cX X hE w hM vL_72 (k := 0) h0 rfl rfl ⟨Nat.le_of_ble_eq_true rfl, Nat.le_of_ble_eq_true rfl⟩ rfl hl.1 (Nat.le_of_ble_eq_true rfl) dL_plusYears_7 ⟨Nat.le_of_ble_eq_true rfl, Nat.le_of_ble_eq_true rfl⟩ (fun E ce q9 n1 σ1 H1 locs1 hq w hcell hv9 hcl => ?_) (fun v n1 σ1 H1 locs1 hq w => ?_)
  · rcases hx hlt E n1 σ1 hq with ⟨rfl, h1⟩ | ⟨rfl, h1⟩ | ⟨rfl, h1⟩
    · refine l_catch X hT [] [(0, 12, 19, 13), (0, 12, 23, 54)] (0, 12, 15, 20) rfl (by decide +kernel) cl_L_20 (by decide) rfl (fun z hz => absurd hz (List.not_mem_nil)) hcell hv9 hcl ?_
      refine lv_astore (lv' := [(5, .ref q9), (0, .ref (b + 0)), (1, .int a1), (2, .int a2), (3, .int a3), (4, .ref (b + 60))]) hx9 hb9 dL_plusYears_15 hl (by decide) rfl (fun ls hl => ?_)
      refine lv_iconst (v := 1) hx9 hb9 dL_plusYears_17 (by decide) ?_
      exact q_cret (post := post1) X w dL_plusYears_18 rfl h1
    · refine l_catch X hT [(0, 12, 15, 20)] [(0, 12, 23, 54)] (0, 12, 19, 13) rfl (by decide +kernel) cl_L_13 (by decide) rfl (fun z hz => by rcases List.mem_singleton.mp hz with rfl; exact ⟨by decide, _, by decide +kernel, by decide +kernel, cl_L_20⟩) hcell hv9 hcl ?_
      refine lv_astore (lv' := [(5, .ref q9), (0, .ref (b + 0)), (1, .int a1), (2, .int a2), (3, .int a3), (4, .ref (b + 60))]) hx9 hb9 dL_plusYears_19 hl (by decide) rfl (fun ls hl => ?_)
      refine lv_iconst (v := 2) hx9 hb9 dL_plusYears_21 (by decide) ?_
      exact q_cret (post := post1) X w dL_plusYears_22 rfl h1
    · refine l_catch X hT [(0, 12, 15, 20), (0, 12, 19, 13)] [] (0, 12, 23, 54) rfl (by decide +kernel) cl_L_54 (by decide) rfl (fun z hz => by rcases List.mem_cons.mp hz with rfl | hz; (exact ⟨by decide, _, by decide +kernel, by decide +kernel, cl_L_20⟩); (rcases List.mem_singleton.mp hz with rfl; exact ⟨by decide, _, by decide +kernel, by decide +kernel, cl_L_13⟩)) hcell hv9 hcl ?_
      refine lv_astore (lv' := [(5, .ref q9), (0, .ref (b + 0)), (1, .int a1), (2, .int a2), (3, .int a3), (4, .ref (b + 60))]) hx9 hb9 dL_plusYears_23 hl (by decide) rfl (fun ls hl => ?_)
      refine lv_iconst (v := 3) hx9 hb9 dL_plusYears_25 (by decide) ?_
      exact q_cret (post := post1) X w dL_plusYears_26 rfl h1
  obtain ⟨⟨f9, h60⟩, hq2⟩ := hp hlt v n1 σ1 hq
  refine lv_i2l hx9 hb9 dL_plusYears_10 rfl ?_
  refine q_last X w (k := 60) h60 (i := 0) (by unfold vp_in; decide) dL_plusYears_11 (fun H locs w => ?_)
  have hq3 := hq2 _ (show vp_updL f9 (0 : Int32).toNatClampNeg v.toInt64 0 = _ from rfl)
  refine lv_goto (tgt := 27) hx9 hb9 dL_plusYears_12 (by decide) ?_
  refine lv_iconst (v := 0) hx9 hb9 dL_plusYears_27 (by decide) ?_
  exact q_cret (post := post1) X w dL_plusYears_28 rfl hq3

set_option maxHeartbeats 2000000 in
set_option maxRecDepth 100000 in
theorem c_L_span (l : Launch) (D : va_G) (t : Nat → ClassId) (b n : Nat) (σ : qM) (a1 : Int32) (a2 : Int32) (a3 : Int32) (a4 : Int32) {post : Int32 → Nat → qM → Prop} {xp : String → Nat → qM → Prop} {post1 : Int32 → Nat → qM → Prop} {fs : List Value} (h0 : σ 0 = some (.inr (12, fs))) (hM : xC l yX8_span cX8_span 9 (some .int) 8 5 30 D t b n σ [.ref (b + 0), .int a1, .int a2, .int a3, .int a4] post xp) (hp : (∀ k e, σ k = some e → k < n) → ∀ (v : Int32) (n1 : Nat) (σ1 : qM), post v n1 σ1 → (∃ f, σ1 60 = some (o6 t f)) ∧ ∀ f : Nat → Int64, f 0 = v.toInt64 → post1 0 n1 (va_up σ1 60 (some (o6 t f)))) (hx : (∀ k e, σ k = some e → k < n) → ∀ (E : String) (n1 : Nat) (σ1 : qM), xp E n1 σ1 → (E = "java/lang/IndexOutOfBoundsException" ∧ post1 1 n1 σ1) ∨ (E = "java/lang/IllegalArgumentException" ∧ post1 2 n1 σ1) ∨ (E = "java/util/NoSuchElementException" ∧ post1 3 n1 σ1)) : lC l yL_span cL_span 7 [(0, 14, 17, 20), (0, 14, 21, 13), (0, 14, 25, 54)] 9 5 30 D t b n σ [.ref (b + 0), .int a1, .int a2, .int a3, .int a4, .ref (b + 60)] post1 := by
  refine lC.of (by decide +kernel) (Nat.le_of_ble_eq_true rfl) (fun p e s m args below meth c X hE hS hT w ls hl => ?_)
  have hx9 := X.1
  have hb9 := X.2.1
  have hlt : ∀ k e, σ k = some e → k < n := fun k e hk => w.1.lt hk
  have hl : lv_has ls 7 [(0, .ref (b + 0)), (1, .int a1), (2, .int a2), (3, .int a3), (4, .int a4), (5, .ref (b + 60))] := hl
  refine lv_aload hx9 hb9 dL_span_0 (lv_at hl 5 rfl) ?_
  refine lv_iconst (v := 0) hx9 hb9 dL_span_2 (by decide) ?_
  refine lv_aload_n hx9 hb9 dL_span_3 rfl (lv_at hl 0 rfl) ?_
  refine lv_iload_n hx9 hb9 dL_span_4 rfl (lv_at hl 1 rfl) ?_
  refine lv_iload_n hx9 hb9 dL_span_5 rfl (lv_at hl 2 rfl) ?_
  refine lv_iload_n hx9 hb9 dL_span_6 rfl (lv_at hl 3 rfl) ?_
  refine lv_iload hx9 hb9 dL_span_7 (lv_at hl 4 rfl) ?_
  refine w_cX X hE w hM vL_75 (k := 0) h0 rfl rfl ⟨Nat.le_of_ble_eq_true rfl, Nat.le_of_ble_eq_true rfl⟩ rfl hl.1 (Nat.le_of_ble_eq_true rfl) dL_span_9 ⟨Nat.le_of_ble_eq_true rfl, Nat.le_of_ble_eq_true rfl⟩ (fun E ce q9 n1 σ1 H1 locs1 hq w hcell hv9 hcl => ?_) (fun v n1 σ1 H1 locs1 hq w => ?_)
  · rcases hx hlt E n1 σ1 hq with ⟨rfl, h1⟩ | ⟨rfl, h1⟩ | ⟨rfl, h1⟩
    · refine l_catch X hT [] [(0, 14, 21, 13), (0, 14, 25, 54)] (0, 14, 17, 20) rfl (by decide +kernel) cl_L_20 (by decide) rfl (fun z hz => absurd hz (List.not_mem_nil)) hcell hv9 hcl ?_
      refine lv_astore (lv' := [(6, .ref q9), (0, .ref (b + 0)), (1, .int a1), (2, .int a2), (3, .int a3), (4, .int a4), (5, .ref (b + 60))]) hx9 hb9 dL_span_17 hl (by decide) rfl (fun ls hl => ?_)
      refine lv_iconst (v := 1) hx9 hb9 dL_span_19 (by decide) ?_
      exact q_cret (post := post1) X w dL_span_20 rfl h1
    · refine l_catch X hT [(0, 14, 17, 20)] [(0, 14, 25, 54)] (0, 14, 21, 13) rfl (by decide +kernel) cl_L_13 (by decide) rfl (fun z hz => by rcases List.mem_singleton.mp hz with rfl; exact ⟨by decide, _, by decide +kernel, by decide +kernel, cl_L_20⟩) hcell hv9 hcl ?_
      refine lv_astore (lv' := [(6, .ref q9), (0, .ref (b + 0)), (1, .int a1), (2, .int a2), (3, .int a3), (4, .int a4), (5, .ref (b + 60))]) hx9 hb9 dL_span_21 hl (by decide) rfl (fun ls hl => ?_)
      refine lv_iconst (v := 2) hx9 hb9 dL_span_23 (by decide) ?_
      exact q_cret (post := post1) X w dL_span_24 rfl h1
    · refine l_catch X hT [(0, 14, 17, 20), (0, 14, 21, 13)] [] (0, 14, 25, 54) rfl (by decide +kernel) cl_L_54 (by decide) rfl (fun z hz => by rcases List.mem_cons.mp hz with rfl | hz; (exact ⟨by decide, _, by decide +kernel, by decide +kernel, cl_L_20⟩); (rcases List.mem_singleton.mp hz with rfl; exact ⟨by decide, _, by decide +kernel, by decide +kernel, cl_L_13⟩)) hcell hv9 hcl ?_
      refine lv_astore (lv' := [(6, .ref q9), (0, .ref (b + 0)), (1, .int a1), (2, .int a2), (3, .int a3), (4, .int a4), (5, .ref (b + 60))]) hx9 hb9 dL_span_25 hl (by decide) rfl (fun ls hl => ?_)
      refine lv_iconst (v := 3) hx9 hb9 dL_span_27 (by decide) ?_
      exact q_cret (post := post1) X w dL_span_28 rfl h1
  obtain ⟨⟨f9, h60⟩, hq2⟩ := hp hlt v n1 σ1 hq
  refine lv_i2l hx9 hb9 dL_span_12 rfl ?_
  refine q_last X w (k := 60) h60 (i := 0) (by unfold vp_in; decide) dL_span_13 (fun H locs w => ?_)
  have hq3 := hq2 _ (show vp_updL f9 (0 : Int32).toNatClampNeg v.toInt64 0 = _ from rfl)
  refine lv_goto (tgt := 29) hx9 hb9 dL_span_14 (by decide) ?_
  refine lv_iconst (v := 0) hx9 hb9 dL_span_29 (by decide) ?_
  exact q_cret (post := post1) X w dL_span_30 rfl hq3

set_option maxHeartbeats 2000000 in
set_option maxRecDepth 100000 in
theorem c_L_addFeast (l : Launch) (D : va_G) (t : Nat → ClassId) (b n : Nat) (σ : qM) (a1 : Int32) (a2 : Int32) (a3 : Int32) (a4 : Int32) (a5 : Int32) (a6 : Int32) {post : Int32 → Nat → qM → Prop} {xp : String → Nat → qM → Prop} {post1 : Int32 → Nat → qM → Prop} {fs : List Value} (h0 : σ 0 = some (.inr (12, fs))) (hM : xC l yX8_addFeast cX8_addFeast 7 (some .int) 7 4 24 D t b n σ [.ref (b + 0), .int a1, .int a2, .int a3, .int a4, .int a5, .int a6] post xp) (hp : (∀ k e, σ k = some e → k < n) → ∀ (v : Int32) (n1 : Nat) (σ1 : qM), post v n1 σ1 → (∃ f, σ1 60 = some (o6 t f)) ∧ ∀ f : Nat → Int64, f 0 = v.toInt64 → post1 0 n1 (va_up σ1 60 (some (o6 t f)))) (hx : (∀ k e, σ k = some e → k < n) → ∀ (E : String) (n1 : Nat) (σ1 : qM), xp E n1 σ1 → (E = "java/lang/IllegalArgumentException" ∧ post1 1 n1 σ1) ∨ (E = "java/lang/IllegalStateException" ∧ post1 2 n1 σ1)) : lC l yL_addFeast cL_addFeast 9 [(0, 18, 21, 13), (0, 18, 25, 15)] 8 4 24 D t b n σ [.ref (b + 0), .int a1, .int a2, .int a3, .int a4, .int a5, .int a6, .ref (b + 60)] post1 := by
  refine lC.of (by decide +kernel) (Nat.le_of_ble_eq_true rfl) (fun p e s m args below meth c X hE hS hT w ls hl => ?_)
  have hx9 := X.1
  have hb9 := X.2.1
  have hlt : ∀ k e, σ k = some e → k < n := fun k e hk => w.1.lt hk
  have hl : lv_has ls 9 [(0, .ref (b + 0)), (1, .int a1), (2, .int a2), (3, .int a3), (4, .int a4), (5, .int a5), (6, .int a6), (7, .ref (b + 60))] := hl
  refine lv_aload hx9 hb9 dL_addFeast_0 (lv_at hl 7 rfl) ?_
  refine lv_iconst (v := 0) hx9 hb9 dL_addFeast_2 (by decide) ?_
  refine lv_aload_n hx9 hb9 dL_addFeast_3 rfl (lv_at hl 0 rfl) ?_
  refine lv_iload_n hx9 hb9 dL_addFeast_4 rfl (lv_at hl 1 rfl) ?_
  refine lv_iload_n hx9 hb9 dL_addFeast_5 rfl (lv_at hl 2 rfl) ?_
  refine lv_iload_n hx9 hb9 dL_addFeast_6 rfl (lv_at hl 3 rfl) ?_
  refine lv_iload hx9 hb9 dL_addFeast_7 (lv_at hl 4 rfl) ?_
  refine lv_iload hx9 hb9 dL_addFeast_9 (lv_at hl 5 rfl) ?_
  refine lv_iload hx9 hb9 dL_addFeast_11 (lv_at hl 6 rfl) ?_
  refine w_cX X hE w hM vL_78 (k := 0) h0 rfl rfl ⟨Nat.le_of_ble_eq_true rfl, Nat.le_of_ble_eq_true rfl⟩ rfl hl.1 (Nat.le_of_ble_eq_true rfl) dL_addFeast_13 ⟨Nat.le_of_ble_eq_true rfl, Nat.le_of_ble_eq_true rfl⟩ (fun E ce q9 n1 σ1 H1 locs1 hq w hcell hv9 hcl => ?_) (fun v n1 σ1 H1 locs1 hq w => ?_)
  · rcases hx hlt E n1 σ1 hq with ⟨rfl, h1⟩ | ⟨rfl, h1⟩
    · refine l_catch X hT [] [(0, 18, 25, 15)] (0, 18, 21, 13) rfl (by decide +kernel) cl_L_13 (by decide) rfl (fun z hz => absurd hz (List.not_mem_nil)) hcell hv9 hcl ?_
      refine lv_astore (lv' := [(8, .ref q9), (0, .ref (b + 0)), (1, .int a1), (2, .int a2), (3, .int a3), (4, .int a4), (5, .int a5), (6, .int a6), (7, .ref (b + 60))]) hx9 hb9 dL_addFeast_21 hl (by decide) rfl (fun ls hl => ?_)
      refine lv_iconst (v := 1) hx9 hb9 dL_addFeast_23 (by decide) ?_
      exact q_cret (post := post1) X w dL_addFeast_24 rfl h1
    · refine l_catch X hT [(0, 18, 21, 13)] [] (0, 18, 25, 15) rfl (by decide +kernel) cl_L_15 (by decide) rfl (fun z hz => by rcases List.mem_singleton.mp hz with rfl; exact ⟨by decide, _, by decide +kernel, by decide +kernel, cl_L_13⟩) hcell hv9 hcl ?_
      refine lv_astore (lv' := [(8, .ref q9), (0, .ref (b + 0)), (1, .int a1), (2, .int a2), (3, .int a3), (4, .int a4), (5, .int a5), (6, .int a6), (7, .ref (b + 60))]) hx9 hb9 dL_addFeast_25 hl (by decide) rfl (fun ls hl => ?_)
      refine lv_iconst (v := 2) hx9 hb9 dL_addFeast_27 (by decide) ?_
      exact q_cret (post := post1) X w dL_addFeast_28 rfl h1
  obtain ⟨⟨f9, h60⟩, hq2⟩ := hp hlt v n1 σ1 hq
  refine lv_i2l hx9 hb9 dL_addFeast_16 rfl ?_
  refine q_last X w (k := 60) h60 (i := 0) (by unfold vp_in; decide) dL_addFeast_17 (fun H locs w => ?_)
  have hq3 := hq2 _ (show vp_updL f9 (0 : Int32).toNatClampNeg v.toInt64 0 = _ from rfl)
  refine lv_goto (tgt := 29) hx9 hb9 dL_addFeast_18 (by decide) ?_
  refine lv_iconst (v := 0) hx9 hb9 dL_addFeast_29 (by decide) ?_
  exact q_cret (post := post1) X w dL_addFeast_30 rfl hq3

set_option maxHeartbeats 2000000 in
set_option maxRecDepth 100000 in
theorem c_L_removeFeast (l : Launch) (D : va_G) (t : Nat → ClassId) (b n : Nat) (σ : qM) {post : Int32 → Nat → qM → Prop} {xp : String → Nat → qM → Prop} {post1 : Int32 → Nat → qM → Prop} {fs : List Value} (h0 : σ 0 = some (.inr (12, fs))) (hM : xC l yX8_removeFeast cX8_removeFeast 1 (some .int) 7 1 6 D t b n σ [.ref (b + 0)] post xp) (hp : (∀ k e, σ k = some e → k < n) → ∀ (v : Int32) (n1 : Nat) (σ1 : qM), post v n1 σ1 → (∃ f, σ1 60 = some (o6 t f)) ∧ ∀ f : Nat → Int64, f 0 = v.toInt64 → post1 0 n1 (va_up σ1 60 (some (o6 t f)))) (hx : (∀ k e, σ k = some e → k < n) → ∀ (E : String) (n1 : Nat) (σ1 : qM), xp E n1 σ1 → (E = "java/lang/IllegalStateException" ∧ post1 1 n1 σ1)) : lC l yL_removeFeast cL_removeFeast 3 [(0, 8, 11, 15)] 8 1 6 D t b n σ [.ref (b + 0), .ref (b + 60)] post1 := by
  refine lC.of (by decide +kernel) (Nat.le_of_ble_eq_true rfl) (fun p e s m args below meth c X hE hS hT w ls hl => ?_)
  have hx9 := X.1
  have hb9 := X.2.1
  have hlt : ∀ k e, σ k = some e → k < n := fun k e hk => w.1.lt hk
  have hl : lv_has ls 3 [(0, .ref (b + 0)), (1, .ref (b + 60))] := hl
  refine lv_aload_n hx9 hb9 dL_removeFeast_0 rfl (lv_at hl 1 rfl) ?_
  refine lv_iconst (v := 0) hx9 hb9 dL_removeFeast_1 (by decide) ?_
  refine lv_aload_n hx9 hb9 dL_removeFeast_2 rfl (lv_at hl 0 rfl) ?_
  refine w_cX X hE w hM vL_81 (k := 0) h0 rfl rfl ⟨Nat.le_of_ble_eq_true rfl, Nat.le_of_ble_eq_true rfl⟩ rfl hl.1 (Nat.le_of_ble_eq_true rfl) dL_removeFeast_3 ⟨Nat.le_of_ble_eq_true rfl, Nat.le_of_ble_eq_true rfl⟩ (fun E ce q9 n1 σ1 H1 locs1 hq w hcell hv9 hcl => ?_) (fun v n1 σ1 H1 locs1 hq w => ?_)
  · rcases hx hlt E n1 σ1 hq with ⟨rfl, h1⟩
    · refine l_catch X hT [] [] (0, 8, 11, 15) rfl (by decide +kernel) cl_L_15 (by decide) rfl (fun z hz => absurd hz (List.not_mem_nil)) hcell hv9 hcl ?_
      refine lv_astore_n (lv' := [(2, .ref q9), (0, .ref (b + 0)), (1, .ref (b + 60))]) hx9 hb9 dL_removeFeast_11 rfl hl (by decide) rfl (fun ls hl => ?_)
      refine lv_iconst (v := 1) hx9 hb9 dL_removeFeast_12 (by decide) ?_
      exact q_cret (post := post1) X w dL_removeFeast_13 rfl h1
  obtain ⟨⟨f9, h60⟩, hq2⟩ := hp hlt v n1 σ1 hq
  refine lv_i2l hx9 hb9 dL_removeFeast_6 rfl ?_
  refine q_last X w (k := 60) h60 (i := 0) (by unfold vp_in; decide) dL_removeFeast_7 (fun H locs w => ?_)
  have hq3 := hq2 _ (show vp_updL f9 (0 : Int32).toNatClampNeg v.toInt64 0 = _ from rfl)
  refine lv_goto (tgt := 14) hx9 hb9 dL_removeFeast_8 (by decide) ?_
  refine lv_iconst (v := 0) hx9 hb9 dL_removeFeast_14 (by decide) ?_
  exact q_cret (post := post1) X w dL_removeFeast_15 rfl hq3

set_option maxHeartbeats 2000000 in
set_option maxRecDepth 100000 in
theorem c_L_feast (l : Launch) (D : va_G) (t : Nat → ClassId) (b n : Nat) (σ : qM) (a1 : Int32) (a2 : Int32) {post : Int32 → Nat → qM → Prop} {xp : String → Nat → qM → Prop} {post1 : Int32 → Nat → qM → Prop} {fs : List Value} (h0 : σ 0 = some (.inr (12, fs))) (hM : xC l yX8_feast cX8_feast 3 (some .int) 8 3 18 D t b n σ [.ref (b + 0), .int a1, .int a2] post xp) (hp : (∀ k e, σ k = some e → k < n) → ∀ (v : Int32) (n1 : Nat) (σ1 : qM), post v n1 σ1 → (∃ f, σ1 60 = some (o6 t f)) ∧ ∀ f : Nat → Int64, f 0 = v.toInt64 → post1 0 n1 (va_up σ1 60 (some (o6 t f)))) (hx : (∀ k e, σ k = some e → k < n) → ∀ (E : String) (n1 : Nat) (σ1 : qM), xp E n1 σ1 → (E = "java/lang/IndexOutOfBoundsException" ∧ post1 1 n1 σ1) ∨ (E = "java/lang/IllegalArgumentException" ∧ post1 2 n1 σ1) ∨ (E = "java/util/NoSuchElementException" ∧ post1 3 n1 σ1)) : lC l yL_feast cL_feast 5 [(0, 10, 13, 20), (0, 10, 17, 13), (0, 10, 21, 54)] 9 3 18 D t b n σ [.ref (b + 0), .int a1, .int a2, .ref (b + 60)] post1 := by
  refine lC.of (by decide +kernel) (Nat.le_of_ble_eq_true rfl) (fun p e s m args below meth c X hE hS hT w ls hl => ?_)
  have hx9 := X.1
  have hb9 := X.2.1
  have hlt : ∀ k e, σ k = some e → k < n := fun k e hk => w.1.lt hk
  have hl : lv_has ls 5 [(0, .ref (b + 0)), (1, .int a1), (2, .int a2), (3, .ref (b + 60))] := hl
  refine lv_aload_n hx9 hb9 dL_feast_0 rfl (lv_at hl 3 rfl) ?_
  refine lv_iconst (v := 0) hx9 hb9 dL_feast_1 (by decide) ?_
  refine lv_aload_n hx9 hb9 dL_feast_2 rfl (lv_at hl 0 rfl) ?_
  refine lv_iload_n hx9 hb9 dL_feast_3 rfl (lv_at hl 1 rfl) ?_
  refine lv_iload_n hx9 hb9 dL_feast_4 rfl (lv_at hl 2 rfl) ?_
  refine w_cX X hE w hM vL_85 (k := 0) h0 rfl rfl ⟨Nat.le_of_ble_eq_true rfl, Nat.le_of_ble_eq_true rfl⟩ rfl hl.1 (Nat.le_of_ble_eq_true rfl) dL_feast_5 ⟨Nat.le_of_ble_eq_true rfl, Nat.le_of_ble_eq_true rfl⟩ (fun E ce q9 n1 σ1 H1 locs1 hq w hcell hv9 hcl => ?_) (fun v n1 σ1 H1 locs1 hq w => ?_)
  · rcases hx hlt E n1 σ1 hq with ⟨rfl, h1⟩ | ⟨rfl, h1⟩ | ⟨rfl, h1⟩
    · refine l_catch X hT [] [(0, 10, 17, 13), (0, 10, 21, 54)] (0, 10, 13, 20) rfl (by decide +kernel) cl_L_20 (by decide) rfl (fun z hz => absurd hz (List.not_mem_nil)) hcell hv9 hcl ?_
      refine lv_astore (lv' := [(4, .ref q9), (0, .ref (b + 0)), (1, .int a1), (2, .int a2), (3, .ref (b + 60))]) hx9 hb9 dL_feast_13 hl (by decide) rfl (fun ls hl => ?_)
      refine lv_iconst (v := 1) hx9 hb9 dL_feast_15 (by decide) ?_
      exact q_cret (post := post1) X w dL_feast_16 rfl h1
    · refine l_catch X hT [(0, 10, 13, 20)] [(0, 10, 21, 54)] (0, 10, 17, 13) rfl (by decide +kernel) cl_L_13 (by decide) rfl (fun z hz => by rcases List.mem_singleton.mp hz with rfl; exact ⟨by decide, _, by decide +kernel, by decide +kernel, cl_L_20⟩) hcell hv9 hcl ?_
      refine lv_astore (lv' := [(4, .ref q9), (0, .ref (b + 0)), (1, .int a1), (2, .int a2), (3, .ref (b + 60))]) hx9 hb9 dL_feast_17 hl (by decide) rfl (fun ls hl => ?_)
      refine lv_iconst (v := 2) hx9 hb9 dL_feast_19 (by decide) ?_
      exact q_cret (post := post1) X w dL_feast_20 rfl h1
    · refine l_catch X hT [(0, 10, 13, 20), (0, 10, 17, 13)] [] (0, 10, 21, 54) rfl (by decide +kernel) cl_L_54 (by decide) rfl (fun z hz => by rcases List.mem_cons.mp hz with rfl | hz; (exact ⟨by decide, _, by decide +kernel, by decide +kernel, cl_L_20⟩); (rcases List.mem_singleton.mp hz with rfl; exact ⟨by decide, _, by decide +kernel, by decide +kernel, cl_L_13⟩)) hcell hv9 hcl ?_
      refine lv_astore (lv' := [(4, .ref q9), (0, .ref (b + 0)), (1, .int a1), (2, .int a2), (3, .ref (b + 60))]) hx9 hb9 dL_feast_21 hl (by decide) rfl (fun ls hl => ?_)
      refine lv_iconst (v := 3) hx9 hb9 dL_feast_23 (by decide) ?_
      exact q_cret (post := post1) X w dL_feast_24 rfl h1
  obtain ⟨⟨f9, h60⟩, hq2⟩ := hp hlt v n1 σ1 hq
  refine lv_i2l hx9 hb9 dL_feast_8 rfl ?_
  refine q_last X w (k := 60) h60 (i := 0) (by unfold vp_in; decide) dL_feast_9 (fun H locs w => ?_)
  have hq3 := hq2 _ (show vp_updL f9 (0 : Int32).toNatClampNeg v.toInt64 0 = _ from rfl)
  refine lv_goto (tgt := 25) hx9 hb9 dL_feast_10 (by decide) ?_
  refine lv_iconst (v := 0) hx9 hb9 dL_feast_25 (by decide) ?_
  exact q_cret (post := post1) X w dL_feast_26 rfl hq3

set_option maxHeartbeats 2000000 in
set_option maxRecDepth 100000 in
theorem c_L_placedFeast (l : Launch) (D : va_G) (t : Nat → ClassId) (b n : Nat) (σ : qM) (a1 : Int32) (a2 : Int32) {post : Int32 → Nat → qM → Prop} {xp : String → Nat → qM → Prop} {post1 : Int32 → Nat → qM → Prop} {fs : List Value} (h0 : σ 0 = some (.inr (12, fs))) (hM : xC l yX8_placedFeast cX8_placedFeast 4 (some .int) 8 3 18 D t b n σ [.ref (b + 0), .int a1, .int a2] post xp) (hp : (∀ k e, σ k = some e → k < n) → ∀ (v : Int32) (n1 : Nat) (σ1 : qM), post v n1 σ1 → (∃ f, σ1 60 = some (o6 t f)) ∧ ∀ f : Nat → Int64, f 0 = v.toInt64 → post1 0 n1 (va_up σ1 60 (some (o6 t f)))) (hx : (∀ k e, σ k = some e → k < n) → ∀ (E : String) (n1 : Nat) (σ1 : qM), xp E n1 σ1 → (E = "java/lang/IndexOutOfBoundsException" ∧ post1 1 n1 σ1) ∨ (E = "java/lang/IllegalArgumentException" ∧ post1 2 n1 σ1) ∨ (E = "java/util/NoSuchElementException" ∧ post1 3 n1 σ1)) : lC l yL_placedFeast cL_placedFeast 5 [(0, 10, 13, 20), (0, 10, 17, 13), (0, 10, 21, 54)] 9 3 18 D t b n σ [.ref (b + 0), .int a1, .int a2, .ref (b + 60)] post1 := by
  refine lC.of (by decide +kernel) (Nat.le_of_ble_eq_true rfl) (fun p e s m args below meth c X hE hS hT w ls hl => ?_)
  have hx9 := X.1
  have hb9 := X.2.1
  have hlt : ∀ k e, σ k = some e → k < n := fun k e hk => w.1.lt hk
  have hl : lv_has ls 5 [(0, .ref (b + 0)), (1, .int a1), (2, .int a2), (3, .ref (b + 60))] := hl
  refine lv_aload_n hx9 hb9 dL_placedFeast_0 rfl (lv_at hl 3 rfl) ?_
  refine lv_iconst (v := 0) hx9 hb9 dL_placedFeast_1 (by decide) ?_
  refine lv_aload_n hx9 hb9 dL_placedFeast_2 rfl (lv_at hl 0 rfl) ?_
  refine lv_iload_n hx9 hb9 dL_placedFeast_3 rfl (lv_at hl 1 rfl) ?_
  refine lv_iload_n hx9 hb9 dL_placedFeast_4 rfl (lv_at hl 2 rfl) ?_
  refine w_cX X hE w hM vL_88 (k := 0) h0 rfl rfl ⟨Nat.le_of_ble_eq_true rfl, Nat.le_of_ble_eq_true rfl⟩ rfl hl.1 (Nat.le_of_ble_eq_true rfl) dL_placedFeast_5 ⟨Nat.le_of_ble_eq_true rfl, Nat.le_of_ble_eq_true rfl⟩ (fun E ce q9 n1 σ1 H1 locs1 hq w hcell hv9 hcl => ?_) (fun v n1 σ1 H1 locs1 hq w => ?_)
  · rcases hx hlt E n1 σ1 hq with ⟨rfl, h1⟩ | ⟨rfl, h1⟩ | ⟨rfl, h1⟩
    · refine l_catch X hT [] [(0, 10, 17, 13), (0, 10, 21, 54)] (0, 10, 13, 20) rfl (by decide +kernel) cl_L_20 (by decide) rfl (fun z hz => absurd hz (List.not_mem_nil)) hcell hv9 hcl ?_
      refine lv_astore (lv' := [(4, .ref q9), (0, .ref (b + 0)), (1, .int a1), (2, .int a2), (3, .ref (b + 60))]) hx9 hb9 dL_placedFeast_13 hl (by decide) rfl (fun ls hl => ?_)
      refine lv_iconst (v := 1) hx9 hb9 dL_placedFeast_15 (by decide) ?_
      exact q_cret (post := post1) X w dL_placedFeast_16 rfl h1
    · refine l_catch X hT [(0, 10, 13, 20)] [(0, 10, 21, 54)] (0, 10, 17, 13) rfl (by decide +kernel) cl_L_13 (by decide) rfl (fun z hz => by rcases List.mem_singleton.mp hz with rfl; exact ⟨by decide, _, by decide +kernel, by decide +kernel, cl_L_20⟩) hcell hv9 hcl ?_
      refine lv_astore (lv' := [(4, .ref q9), (0, .ref (b + 0)), (1, .int a1), (2, .int a2), (3, .ref (b + 60))]) hx9 hb9 dL_placedFeast_17 hl (by decide) rfl (fun ls hl => ?_)
      refine lv_iconst (v := 2) hx9 hb9 dL_placedFeast_19 (by decide) ?_
      exact q_cret (post := post1) X w dL_placedFeast_20 rfl h1
    · refine l_catch X hT [(0, 10, 13, 20), (0, 10, 17, 13)] [] (0, 10, 21, 54) rfl (by decide +kernel) cl_L_54 (by decide) rfl (fun z hz => by rcases List.mem_cons.mp hz with rfl | hz; (exact ⟨by decide, _, by decide +kernel, by decide +kernel, cl_L_20⟩); (rcases List.mem_singleton.mp hz with rfl; exact ⟨by decide, _, by decide +kernel, by decide +kernel, cl_L_13⟩)) hcell hv9 hcl ?_
      refine lv_astore (lv' := [(4, .ref q9), (0, .ref (b + 0)), (1, .int a1), (2, .int a2), (3, .ref (b + 60))]) hx9 hb9 dL_placedFeast_21 hl (by decide) rfl (fun ls hl => ?_)
      refine lv_iconst (v := 3) hx9 hb9 dL_placedFeast_23 (by decide) ?_
      exact q_cret (post := post1) X w dL_placedFeast_24 rfl h1
  obtain ⟨⟨f9, h60⟩, hq2⟩ := hp hlt v n1 σ1 hq
  refine lv_i2l hx9 hb9 dL_placedFeast_8 rfl ?_
  refine q_last X w (k := 60) h60 (i := 0) (by unfold vp_in; decide) dL_placedFeast_9 (fun H locs w => ?_)
  have hq3 := hq2 _ (show vp_updL f9 (0 : Int32).toNatClampNeg v.toInt64 0 = _ from rfl)
  refine lv_goto (tgt := 25) hx9 hb9 dL_placedFeast_10 (by decide) ?_
  refine lv_iconst (v := 0) hx9 hb9 dL_placedFeast_25 (by decide) ?_
  exact q_cret (post := post1) X w dL_placedFeast_26 rfl hq3

set_option maxHeartbeats 2000000 in
set_option maxRecDepth 100000 in
theorem c_L_feastOn (l : Launch) (D : va_G) (t : Nat → ClassId) (b n : Nat) (σ : qM) (a1 : Int32) (a2 : Int32) {post : Int32 → Nat → qM → Prop} {xp : String → Nat → qM → Prop} {post1 : Int32 → Nat → qM → Prop} {fs : List Value} (h0 : σ 0 = some (.inr (12, fs))) (hM : xC l yX8_feastOn cX8_feastOn 4 (some .int) 8 3 18 D t b n σ [.ref (b + 0), .int a1, .int a2] post xp) (hp : (∀ k e, σ k = some e → k < n) → ∀ (v : Int32) (n1 : Nat) (σ1 : qM), post v n1 σ1 → (∃ f, σ1 60 = some (o6 t f)) ∧ ∀ f : Nat → Int64, f 0 = v.toInt64 → post1 0 n1 (va_up σ1 60 (some (o6 t f)))) (hx : (∀ k e, σ k = some e → k < n) → ∀ (E : String) (n1 : Nat) (σ1 : qM), xp E n1 σ1 → (E = "java/lang/IllegalArgumentException" ∧ post1 1 n1 σ1) ∨ (E = "java/util/NoSuchElementException" ∧ post1 2 n1 σ1)) : lC l yL_feastOn cL_feastOn 5 [(0, 10, 13, 13), (0, 10, 17, 54)] 9 3 18 D t b n σ [.ref (b + 0), .int a1, .int a2, .ref (b + 60)] post1 := by
  refine lC.of (by decide +kernel) (Nat.le_of_ble_eq_true rfl) (fun p e s m args below meth c X hE hS hT w ls hl => ?_)
  have hx9 := X.1
  have hb9 := X.2.1
  have hlt : ∀ k e, σ k = some e → k < n := fun k e hk => w.1.lt hk
  have hl : lv_has ls 5 [(0, .ref (b + 0)), (1, .int a1), (2, .int a2), (3, .ref (b + 60))] := hl
  refine lv_aload_n hx9 hb9 dL_feastOn_0 rfl (lv_at hl 3 rfl) ?_
  refine lv_iconst (v := 0) hx9 hb9 dL_feastOn_1 (by decide) ?_
  refine lv_aload_n hx9 hb9 dL_feastOn_2 rfl (lv_at hl 0 rfl) ?_
  refine lv_iload_n hx9 hb9 dL_feastOn_3 rfl (lv_at hl 1 rfl) ?_
  refine lv_iload_n hx9 hb9 dL_feastOn_4 rfl (lv_at hl 2 rfl) ?_
  refine w_cX X hE w hM vL_91 (k := 0) h0 rfl rfl ⟨Nat.le_of_ble_eq_true rfl, Nat.le_of_ble_eq_true rfl⟩ rfl hl.1 (Nat.le_of_ble_eq_true rfl) dL_feastOn_5 ⟨Nat.le_of_ble_eq_true rfl, Nat.le_of_ble_eq_true rfl⟩ (fun E ce q9 n1 σ1 H1 locs1 hq w hcell hv9 hcl => ?_) (fun v n1 σ1 H1 locs1 hq w => ?_)
  · rcases hx hlt E n1 σ1 hq with ⟨rfl, h1⟩ | ⟨rfl, h1⟩
    · refine l_catch X hT [] [(0, 10, 17, 54)] (0, 10, 13, 13) rfl (by decide +kernel) cl_L_13 (by decide) rfl (fun z hz => absurd hz (List.not_mem_nil)) hcell hv9 hcl ?_
      refine lv_astore (lv' := [(4, .ref q9), (0, .ref (b + 0)), (1, .int a1), (2, .int a2), (3, .ref (b + 60))]) hx9 hb9 dL_feastOn_13 hl (by decide) rfl (fun ls hl => ?_)
      refine lv_iconst (v := 1) hx9 hb9 dL_feastOn_15 (by decide) ?_
      exact q_cret (post := post1) X w dL_feastOn_16 rfl h1
    · refine l_catch X hT [(0, 10, 13, 13)] [] (0, 10, 17, 54) rfl (by decide +kernel) cl_L_54 (by decide) rfl (fun z hz => by rcases List.mem_singleton.mp hz with rfl; exact ⟨by decide, _, by decide +kernel, by decide +kernel, cl_L_13⟩) hcell hv9 hcl ?_
      refine lv_astore (lv' := [(4, .ref q9), (0, .ref (b + 0)), (1, .int a1), (2, .int a2), (3, .ref (b + 60))]) hx9 hb9 dL_feastOn_17 hl (by decide) rfl (fun ls hl => ?_)
      refine lv_iconst (v := 2) hx9 hb9 dL_feastOn_19 (by decide) ?_
      exact q_cret (post := post1) X w dL_feastOn_20 rfl h1
  obtain ⟨⟨f9, h60⟩, hq2⟩ := hp hlt v n1 σ1 hq
  refine lv_i2l hx9 hb9 dL_feastOn_8 rfl ?_
  refine q_last X w (k := 60) h60 (i := 0) (by unfold vp_in; decide) dL_feastOn_9 (fun H locs w => ?_)
  have hq3 := hq2 _ (show vp_updL f9 (0 : Int32).toNatClampNeg v.toInt64 0 = _ from rfl)
  refine lv_goto (tgt := 21) hx9 hb9 dL_feastOn_10 (by decide) ?_
  refine lv_iconst (v := 0) hx9 hb9 dL_feastOn_21 (by decide) ?_
  exact q_cret (post := post1) X w dL_feastOn_22 rfl hq3

set_option maxHeartbeats 2000000 in
set_option maxRecDepth 100000 in
theorem c_L_meetingYear (l : Launch) (D : va_G) (t : Nat → ClassId) (b n : Nat) (σ : qM) (a1 : Int32) (a2 : Int32) (a3 : Int32) {post : Int32 → Nat → qM → Prop} {xp : String → Nat → qM → Prop} {post1 : Int32 → Nat → qM → Prop} {fs : List Value} (h0 : σ 0 = some (.inr (12, fs))) (hM : xC l yX8_meetingYear cX8_meetingYear 7 (some .int) 8 4 24 D t b n σ [.ref (b + 0), .int a1, .int a2, .int a3] post xp) (hp : (∀ k e, σ k = some e → k < n) → ∀ (v : Int32) (n1 : Nat) (σ1 : qM), post v n1 σ1 → (∃ f, σ1 60 = some (o6 t f)) ∧ ∀ f : Nat → Int64, f 0 = v.toInt64 → post1 0 n1 (va_up σ1 60 (some (o6 t f)))) (hx : (∀ k e, σ k = some e → k < n) → ∀ (E : String) (n1 : Nat) (σ1 : qM), xp E n1 σ1 → (E = "java/lang/IndexOutOfBoundsException" ∧ post1 1 n1 σ1) ∨ (E = "java/lang/IllegalArgumentException" ∧ post1 2 n1 σ1) ∨ (E = "java/util/NoSuchElementException" ∧ post1 3 n1 σ1)) : lC l yL_meetingYear cL_meetingYear 6 [(0, 12, 15, 20), (0, 12, 19, 13), (0, 12, 23, 54)] 9 4 24 D t b n σ [.ref (b + 0), .int a1, .int a2, .int a3, .ref (b + 60)] post1 := by
  refine lC.of (by decide +kernel) (Nat.le_of_ble_eq_true rfl) (fun p e s m args below meth c X hE hS hT w ls hl => ?_)
  have hx9 := X.1
  have hb9 := X.2.1
  have hlt : ∀ k e, σ k = some e → k < n := fun k e hk => w.1.lt hk
  have hl : lv_has ls 6 [(0, .ref (b + 0)), (1, .int a1), (2, .int a2), (3, .int a3), (4, .ref (b + 60))] := hl
  refine lv_aload hx9 hb9 dL_meetingYear_0 (lv_at hl 4 rfl) ?_
  refine lv_iconst (v := 0) hx9 hb9 dL_meetingYear_2 (by decide) ?_
  refine lv_aload_n hx9 hb9 dL_meetingYear_3 rfl (lv_at hl 0 rfl) ?_
  refine lv_iload_n hx9 hb9 dL_meetingYear_4 rfl (lv_at hl 1 rfl) ?_
  refine lv_iload_n hx9 hb9 dL_meetingYear_5 rfl (lv_at hl 2 rfl) ?_
  refine lv_iload_n hx9 hb9 dL_meetingYear_6 rfl (lv_at hl 3 rfl) ?_
  refine w_cX X hE w hM vL_94 (k := 0) h0 rfl rfl ⟨Nat.le_of_ble_eq_true rfl, Nat.le_of_ble_eq_true rfl⟩ rfl hl.1 (Nat.le_of_ble_eq_true rfl) dL_meetingYear_7 ⟨Nat.le_of_ble_eq_true rfl, Nat.le_of_ble_eq_true rfl⟩ (fun E ce q9 n1 σ1 H1 locs1 hq w hcell hv9 hcl => ?_) (fun v n1 σ1 H1 locs1 hq w => ?_)
  · rcases hx hlt E n1 σ1 hq with ⟨rfl, h1⟩ | ⟨rfl, h1⟩ | ⟨rfl, h1⟩
    · refine l_catch X hT [] [(0, 12, 19, 13), (0, 12, 23, 54)] (0, 12, 15, 20) rfl (by decide +kernel) cl_L_20 (by decide) rfl (fun z hz => absurd hz (List.not_mem_nil)) hcell hv9 hcl ?_
      refine lv_astore (lv' := [(5, .ref q9), (0, .ref (b + 0)), (1, .int a1), (2, .int a2), (3, .int a3), (4, .ref (b + 60))]) hx9 hb9 dL_meetingYear_15 hl (by decide) rfl (fun ls hl => ?_)
      refine lv_iconst (v := 1) hx9 hb9 dL_meetingYear_17 (by decide) ?_
      exact q_cret (post := post1) X w dL_meetingYear_18 rfl h1
    · refine l_catch X hT [(0, 12, 15, 20)] [(0, 12, 23, 54)] (0, 12, 19, 13) rfl (by decide +kernel) cl_L_13 (by decide) rfl (fun z hz => by rcases List.mem_singleton.mp hz with rfl; exact ⟨by decide, _, by decide +kernel, by decide +kernel, cl_L_20⟩) hcell hv9 hcl ?_
      refine lv_astore (lv' := [(5, .ref q9), (0, .ref (b + 0)), (1, .int a1), (2, .int a2), (3, .int a3), (4, .ref (b + 60))]) hx9 hb9 dL_meetingYear_19 hl (by decide) rfl (fun ls hl => ?_)
      refine lv_iconst (v := 2) hx9 hb9 dL_meetingYear_21 (by decide) ?_
      exact q_cret (post := post1) X w dL_meetingYear_22 rfl h1
    · refine l_catch X hT [(0, 12, 15, 20), (0, 12, 19, 13)] [] (0, 12, 23, 54) rfl (by decide +kernel) cl_L_54 (by decide) rfl (fun z hz => by rcases List.mem_cons.mp hz with rfl | hz; (exact ⟨by decide, _, by decide +kernel, by decide +kernel, cl_L_20⟩); (rcases List.mem_singleton.mp hz with rfl; exact ⟨by decide, _, by decide +kernel, by decide +kernel, cl_L_13⟩)) hcell hv9 hcl ?_
      refine lv_astore (lv' := [(5, .ref q9), (0, .ref (b + 0)), (1, .int a1), (2, .int a2), (3, .int a3), (4, .ref (b + 60))]) hx9 hb9 dL_meetingYear_23 hl (by decide) rfl (fun ls hl => ?_)
      refine lv_iconst (v := 3) hx9 hb9 dL_meetingYear_25 (by decide) ?_
      exact q_cret (post := post1) X w dL_meetingYear_26 rfl h1
  obtain ⟨⟨f9, h60⟩, hq2⟩ := hp hlt v n1 σ1 hq
  refine lv_i2l hx9 hb9 dL_meetingYear_10 rfl ?_
  refine q_last X w (k := 60) h60 (i := 0) (by unfold vp_in; decide) dL_meetingYear_11 (fun H locs w => ?_)
  have hq3 := hq2 _ (show vp_updL f9 (0 : Int32).toNatClampNeg v.toInt64 0 = _ from rfl)
  refine lv_goto (tgt := 27) hx9 hb9 dL_meetingYear_12 (by decide) ?_
  refine lv_iconst (v := 0) hx9 hb9 dL_meetingYear_27 (by decide) ?_
  exact q_cret (post := post1) X w dL_meetingYear_28 rfl hq3

set_option maxHeartbeats 2000000 in
set_option maxRecDepth 100000 in
theorem c_L_reading (l : Launch) (D : va_G) (t : Nat → ClassId) (b n : Nat) (σ : qM) (a1 : Int32) (a2 : Int32) {post : Int32 → Nat → qM → Prop} {xp : String → Nat → qM → Prop} {post1 : Int32 → Nat → qM → Prop} {fs : List Value} (h0 : σ 0 = some (.inr (12, fs))) (hM : xC l yX8_reading cX8_reading 3 (some .int) 7 2 12 D t b n σ [.ref (b + 0), .int a1, .int a2] post xp) (hp : (∀ k e, σ k = some e → k < n) → ∀ (v : Int32) (n1 : Nat) (σ1 : qM), post v n1 σ1 → (∃ f, σ1 60 = some (o6 t f)) ∧ ∀ f : Nat → Int64, f 0 = v.toInt64 → post1 0 n1 (va_up σ1 60 (some (o6 t f)))) (hx : (∀ k e, σ k = some e → k < n) → ∀ (E : String) (n1 : Nat) (σ1 : qM), xp E n1 σ1 → (E = "java/lang/IndexOutOfBoundsException" ∧ post1 1 n1 σ1) ∨ (E = "java/lang/IllegalArgumentException" ∧ post1 2 n1 σ1)) : lC l yL_reading cL_reading 5 [(0, 10, 13, 20), (0, 10, 17, 13)] 8 2 12 D t b n σ [.ref (b + 0), .int a1, .int a2, .ref (b + 60)] post1 := by
  refine lC.of (by decide +kernel) (Nat.le_of_ble_eq_true rfl) (fun p e s m args below meth c X hE hS hT w ls hl => ?_)
  have hx9 := X.1
  have hb9 := X.2.1
  have hlt : ∀ k e, σ k = some e → k < n := fun k e hk => w.1.lt hk
  have hl : lv_has ls 5 [(0, .ref (b + 0)), (1, .int a1), (2, .int a2), (3, .ref (b + 60))] := hl
  refine lv_aload_n hx9 hb9 dL_reading_0 rfl (lv_at hl 3 rfl) ?_
  refine lv_iconst (v := 0) hx9 hb9 dL_reading_1 (by decide) ?_
  refine lv_aload_n hx9 hb9 dL_reading_2 rfl (lv_at hl 0 rfl) ?_
  refine lv_iload_n hx9 hb9 dL_reading_3 rfl (lv_at hl 1 rfl) ?_
  refine lv_iload_n hx9 hb9 dL_reading_4 rfl (lv_at hl 2 rfl) ?_
  refine w_cX X hE w hM vL_97 (k := 0) h0 rfl rfl ⟨Nat.le_of_ble_eq_true rfl, Nat.le_of_ble_eq_true rfl⟩ rfl hl.1 (Nat.le_of_ble_eq_true rfl) dL_reading_5 ⟨Nat.le_of_ble_eq_true rfl, Nat.le_of_ble_eq_true rfl⟩ (fun E ce q9 n1 σ1 H1 locs1 hq w hcell hv9 hcl => ?_) (fun v n1 σ1 H1 locs1 hq w => ?_)
  · rcases hx hlt E n1 σ1 hq with ⟨rfl, h1⟩ | ⟨rfl, h1⟩
    · refine l_catch X hT [] [(0, 10, 17, 13)] (0, 10, 13, 20) rfl (by decide +kernel) cl_L_20 (by decide) rfl (fun z hz => absurd hz (List.not_mem_nil)) hcell hv9 hcl ?_
      refine lv_astore (lv' := [(4, .ref q9), (0, .ref (b + 0)), (1, .int a1), (2, .int a2), (3, .ref (b + 60))]) hx9 hb9 dL_reading_13 hl (by decide) rfl (fun ls hl => ?_)
      refine lv_iconst (v := 1) hx9 hb9 dL_reading_15 (by decide) ?_
      exact q_cret (post := post1) X w dL_reading_16 rfl h1
    · refine l_catch X hT [(0, 10, 13, 20)] [] (0, 10, 17, 13) rfl (by decide +kernel) cl_L_13 (by decide) rfl (fun z hz => by rcases List.mem_singleton.mp hz with rfl; exact ⟨by decide, _, by decide +kernel, by decide +kernel, cl_L_20⟩) hcell hv9 hcl ?_
      refine lv_astore (lv' := [(4, .ref q9), (0, .ref (b + 0)), (1, .int a1), (2, .int a2), (3, .ref (b + 60))]) hx9 hb9 dL_reading_17 hl (by decide) rfl (fun ls hl => ?_)
      refine lv_iconst (v := 2) hx9 hb9 dL_reading_19 (by decide) ?_
      exact q_cret (post := post1) X w dL_reading_20 rfl h1
  obtain ⟨⟨f9, h60⟩, hq2⟩ := hp hlt v n1 σ1 hq
  refine lv_i2l hx9 hb9 dL_reading_8 rfl ?_
  refine q_last X w (k := 60) h60 (i := 0) (by unfold vp_in; decide) dL_reading_9 (fun H locs w => ?_)
  have hq3 := hq2 _ (show vp_updL f9 (0 : Int32).toNatClampNeg v.toInt64 0 = _ from rfl)
  refine lv_goto (tgt := 21) hx9 hb9 dL_reading_10 (by decide) ?_
  refine lv_iconst (v := 0) hx9 hb9 dL_reading_21 (by decide) ?_
  exact q_cret (post := post1) X w dL_reading_22 rfl hq3

set_option maxHeartbeats 2000000 in
set_option maxRecDepth 100000 in
theorem c_L_write (l : Launch) (D : va_G) (t : Nat → ClassId) (b n : Nat) (σ : qM) (a1 : Int32) (a2 : Int32) {post : Int32 → Nat → qM → Prop} {xp : String → Nat → qM → Prop} {post1 : Int32 → Nat → qM → Prop} {fs : List Value} (h0 : σ 0 = some (.inr (12, fs))) (hM : yC l yX8_write cX8_write 6 (some .int) 7 3 18 D t b n σ [.ref (b + 0), .int a1, .int a2] post xp) (hp : (∀ k e, σ k = some e → k < n) → ∀ (v : Int32) (n1 : Nat) (σ1 : qM), post v n1 σ1 → (∃ f, σ1 60 = some (o6 t f)) ∧ ∀ f : Nat → Int64, f 0 = v.toInt64 → post1 0 n1 (va_up σ1 60 (some (o6 t f)))) (hx : (∀ k e, σ k = some e → k < n) → ∀ (E : String) (n1 : Nat) (σ1 : qM), xp E n1 σ1 → (E = "java/lang/IndexOutOfBoundsException" ∧ post1 1 n1 σ1) ∨ (E = "java/lang/IllegalArgumentException" ∧ post1 2 n1 σ1) ∨ (E = "java/util/NoSuchElementException" ∧ post1 3 n1 σ1)) : lC l yL_write cL_write 5 [(0, 10, 13, 20), (0, 10, 17, 13), (0, 10, 21, 54)] 8 3 18 D t b n σ [.ref (b + 0), .int a1, .int a2, .ref (b + 60)] post1 := by
  refine lC.of (by decide +kernel) (Nat.le_of_ble_eq_true rfl) (fun p e s m args below meth c X hE hS hT w ls hl => ?_)
  have hx9 := X.1
  have hb9 := X.2.1
  have hlt : ∀ k e, σ k = some e → k < n := fun k e hk => w.1.lt hk
  have hl : lv_has ls 5 [(0, .ref (b + 0)), (1, .int a1), (2, .int a2), (3, .ref (b + 60))] := hl
  refine lv_aload_n hx9 hb9 dL_write_0 rfl (lv_at hl 3 rfl) ?_
  refine lv_iconst (v := 0) hx9 hb9 dL_write_1 (by decide) ?_
  refine lv_aload_n hx9 hb9 dL_write_2 rfl (lv_at hl 0 rfl) ?_
  refine lv_iload_n hx9 hb9 dL_write_3 rfl (lv_at hl 1 rfl) ?_
  refine lv_iload_n hx9 hb9 dL_write_4 rfl (lv_at hl 2 rfl) ?_
  refine w_cY X hE hS w hM vL_100 (k := 0) h0 rfl rfl ⟨Nat.le_of_ble_eq_true rfl, Nat.le_of_ble_eq_true rfl⟩ rfl hl.1 (Nat.le_of_ble_eq_true rfl) dL_write_5 ⟨Nat.le_of_ble_eq_true rfl, Nat.le_of_ble_eq_true rfl⟩ (fun E ce q9 n1 σ1 H1 locs1 hq w hcell hv9 hcl => ?_) (fun v n1 σ1 H1 locs1 hq w => ?_)
  · rcases hx hlt E n1 σ1 hq with ⟨rfl, h1⟩ | ⟨rfl, h1⟩ | ⟨rfl, h1⟩
    · refine l_catch X hT [] [(0, 10, 17, 13), (0, 10, 21, 54)] (0, 10, 13, 20) rfl (by decide +kernel) cl_L_20 (by decide) rfl (fun z hz => absurd hz (List.not_mem_nil)) hcell hv9 hcl ?_
      refine lv_astore (lv' := [(4, .ref q9), (0, .ref (b + 0)), (1, .int a1), (2, .int a2), (3, .ref (b + 60))]) hx9 hb9 dL_write_13 hl (by decide) rfl (fun ls hl => ?_)
      refine lv_iconst (v := 1) hx9 hb9 dL_write_15 (by decide) ?_
      exact q_cret (post := post1) X w dL_write_16 rfl h1
    · refine l_catch X hT [(0, 10, 13, 20)] [(0, 10, 21, 54)] (0, 10, 17, 13) rfl (by decide +kernel) cl_L_13 (by decide) rfl (fun z hz => by rcases List.mem_singleton.mp hz with rfl; exact ⟨by decide, _, by decide +kernel, by decide +kernel, cl_L_20⟩) hcell hv9 hcl ?_
      refine lv_astore (lv' := [(4, .ref q9), (0, .ref (b + 0)), (1, .int a1), (2, .int a2), (3, .ref (b + 60))]) hx9 hb9 dL_write_17 hl (by decide) rfl (fun ls hl => ?_)
      refine lv_iconst (v := 2) hx9 hb9 dL_write_19 (by decide) ?_
      exact q_cret (post := post1) X w dL_write_20 rfl h1
    · refine l_catch X hT [(0, 10, 13, 20), (0, 10, 17, 13)] [] (0, 10, 21, 54) rfl (by decide +kernel) cl_L_54 (by decide) rfl (fun z hz => by rcases List.mem_cons.mp hz with rfl | hz; (exact ⟨by decide, _, by decide +kernel, by decide +kernel, cl_L_20⟩); (rcases List.mem_singleton.mp hz with rfl; exact ⟨by decide, _, by decide +kernel, by decide +kernel, cl_L_13⟩)) hcell hv9 hcl ?_
      refine lv_astore (lv' := [(4, .ref q9), (0, .ref (b + 0)), (1, .int a1), (2, .int a2), (3, .ref (b + 60))]) hx9 hb9 dL_write_21 hl (by decide) rfl (fun ls hl => ?_)
      refine lv_iconst (v := 3) hx9 hb9 dL_write_23 (by decide) ?_
      exact q_cret (post := post1) X w dL_write_24 rfl h1
  obtain ⟨⟨f9, h60⟩, hq2⟩ := hp hlt v n1 σ1 hq
  refine lv_i2l hx9 hb9 dL_write_8 rfl ?_
  refine q_last X w (k := 60) h60 (i := 0) (by unfold vp_in; decide) dL_write_9 (fun H locs w => ?_)
  have hq3 := hq2 _ (show vp_updL f9 (0 : Int32).toNatClampNeg v.toInt64 0 = _ from rfl)
  refine lv_goto (tgt := 25) hx9 hb9 dL_write_10 (by decide) ?_
  refine lv_iconst (v := 0) hx9 hb9 dL_write_25 (by decide) ?_
  exact q_cret (post := post1) X w dL_write_26 rfl hq3

set_option maxHeartbeats 2000000 in
set_option maxRecDepth 100000 in
theorem c_L_output (l : Launch) (D : va_G) (t : Nat → ClassId) (b n : Nat) (σ : qM) (a1 : Int32) {post : Int32 → Nat → qM → Prop} {xp : String → Nat → qM → Prop} {post1 : Int32 → Nat → qM → Prop} {fs : List Value} (h0 : σ 0 = some (.inr (12, fs))) (hM : yC l yX8_output cX8_output 2 (some .char) 7 1 6 D t b n σ [.ref (b + 0), .int a1] post xp) (hp : (∀ k e, σ k = some e → k < n) → ∀ (v : Int32) (n1 : Nat) (σ1 : qM), post v n1 σ1 → (∃ f, σ1 60 = some (o6 t f)) ∧ ∀ f : Nat → Int64, f 0 = v.toInt64 → post1 0 n1 (va_up σ1 60 (some (o6 t f)))) (hx : (∀ k e, σ k = some e → k < n) → ∀ (E : String) (n1 : Nat) (σ1 : qM), xp E n1 σ1 → (E = "java/lang/IndexOutOfBoundsException" ∧ post1 1 n1 σ1)) : lC l yL_output cL_output 4 [(0, 9, 12, 20)] 8 1 6 D t b n σ [.ref (b + 0), .int a1, .ref (b + 60)] post1 := by
  refine lC.of (by decide +kernel) (Nat.le_of_ble_eq_true rfl) (fun p e s m args below meth c X hE hS hT w ls hl => ?_)
  have hx9 := X.1
  have hb9 := X.2.1
  have hlt : ∀ k e, σ k = some e → k < n := fun k e hk => w.1.lt hk
  have hl : lv_has ls 4 [(0, .ref (b + 0)), (1, .int a1), (2, .ref (b + 60))] := hl
  refine lv_aload_n hx9 hb9 dL_output_0 rfl (lv_at hl 2 rfl) ?_
  refine lv_iconst (v := 0) hx9 hb9 dL_output_1 (by decide) ?_
  refine lv_aload_n hx9 hb9 dL_output_2 rfl (lv_at hl 0 rfl) ?_
  refine lv_iload_n hx9 hb9 dL_output_3 rfl (lv_at hl 1 rfl) ?_
  refine w_cY X hE hS w hM vL_103 (k := 0) h0 rfl rfl ⟨Nat.le_of_ble_eq_true rfl, Nat.le_of_ble_eq_true rfl⟩ rfl hl.1 (Nat.le_of_ble_eq_true rfl) dL_output_4 ⟨Nat.le_of_ble_eq_true rfl, Nat.le_of_ble_eq_true rfl⟩ (fun E ce q9 n1 σ1 H1 locs1 hq w hcell hv9 hcl => ?_) (fun v n1 σ1 H1 locs1 hq w => ?_)
  · rcases hx hlt E n1 σ1 hq with ⟨rfl, h1⟩
    · refine l_catch X hT [] [] (0, 9, 12, 20) rfl (by decide +kernel) cl_L_20 (by decide) rfl (fun z hz => absurd hz (List.not_mem_nil)) hcell hv9 hcl ?_
      refine lv_astore_n (lv' := [(3, .ref q9), (0, .ref (b + 0)), (1, .int a1), (2, .ref (b + 60))]) hx9 hb9 dL_output_12 rfl hl (by decide) rfl (fun ls hl => ?_)
      refine lv_iconst (v := 1) hx9 hb9 dL_output_13 (by decide) ?_
      exact q_cret (post := post1) X w dL_output_14 rfl h1
  obtain ⟨⟨f9, h60⟩, hq2⟩ := hp hlt v n1 σ1 hq
  refine lv_i2l hx9 hb9 dL_output_7 rfl ?_
  refine q_last X w (k := 60) h60 (i := 0) (by unfold vp_in; decide) dL_output_8 (fun H locs w => ?_)
  have hq3 := hq2 _ (show vp_updL f9 (0 : Int32).toNatClampNeg v.toInt64 0 = _ from rfl)
  refine lv_goto (tgt := 15) hx9 hb9 dL_output_9 (by decide) ?_
  refine lv_iconst (v := 0) hx9 hb9 dL_output_15 (by decide) ?_
  exact q_cret (post := post1) X w dL_output_16 rfl hq3

set_option maxHeartbeats 2000000 in
set_option maxRecDepth 100000 in
theorem c_L_newYears (l : Launch) (D : va_G) (t : Nat → ClassId) (b n : Nat) (σ : qM) (a1 : Int32) (a2 : Int32) (a3 : Int32) (a4 : Int32) {post : Int32 → Nat → qM → Prop} {xp : String → Nat → qM → Prop} {post1 : Int32 → Nat → qM → Prop} {fs : List Value} (h0 : σ 0 = some (.inr (12, fs))) (hM : xC l yX8_newYears cX8_newYears 12 (some .int) 7 3 18 D t b n σ [.ref (b + 0), .int a1, .int a2, .int a3, .int a4] post xp) (hp : (∀ k e, σ k = some e → k < n) → ∀ (v : Int32) (n1 : Nat) (σ1 : qM), post v n1 σ1 → (∃ f, σ1 60 = some (o6 t f)) ∧ ∀ f : Nat → Int64, f 0 = v.toInt64 → post1 0 n1 (va_up σ1 60 (some (o6 t f)))) (hx : (∀ k e, σ k = some e → k < n) → ∀ (E : String) (n1 : Nat) (σ1 : qM), xp E n1 σ1 → (E = "java/lang/IndexOutOfBoundsException" ∧ post1 1 n1 σ1) ∨ (E = "java/lang/IllegalArgumentException" ∧ post1 2 n1 σ1)) : lC l yL_newYears cL_newYears 7 [(0, 14, 17, 20), (0, 14, 21, 13)] 8 3 18 D t b n σ [.ref (b + 0), .int a1, .int a2, .int a3, .int a4, .ref (b + 60)] post1 := by
  refine lC.of (by decide +kernel) (Nat.le_of_ble_eq_true rfl) (fun p e s m args below meth c X hE hS hT w ls hl => ?_)
  have hx9 := X.1
  have hb9 := X.2.1
  have hlt : ∀ k e, σ k = some e → k < n := fun k e hk => w.1.lt hk
  have hl : lv_has ls 7 [(0, .ref (b + 0)), (1, .int a1), (2, .int a2), (3, .int a3), (4, .int a4), (5, .ref (b + 60))] := hl
  refine lv_aload hx9 hb9 dL_newYears_0 (lv_at hl 5 rfl) ?_
  refine lv_iconst (v := 0) hx9 hb9 dL_newYears_2 (by decide) ?_
  refine lv_aload_n hx9 hb9 dL_newYears_3 rfl (lv_at hl 0 rfl) ?_
  refine lv_iload_n hx9 hb9 dL_newYears_4 rfl (lv_at hl 1 rfl) ?_
  refine lv_iload_n hx9 hb9 dL_newYears_5 rfl (lv_at hl 2 rfl) ?_
  refine lv_iload_n hx9 hb9 dL_newYears_6 rfl (lv_at hl 3 rfl) ?_
  refine lv_iload hx9 hb9 dL_newYears_7 (lv_at hl 4 rfl) ?_
  refine w_cX X hE w hM vL_107 (k := 0) h0 rfl rfl ⟨Nat.le_of_ble_eq_true rfl, Nat.le_of_ble_eq_true rfl⟩ rfl hl.1 (Nat.le_of_ble_eq_true rfl) dL_newYears_9 ⟨Nat.le_of_ble_eq_true rfl, Nat.le_of_ble_eq_true rfl⟩ (fun E ce q9 n1 σ1 H1 locs1 hq w hcell hv9 hcl => ?_) (fun v n1 σ1 H1 locs1 hq w => ?_)
  · rcases hx hlt E n1 σ1 hq with ⟨rfl, h1⟩ | ⟨rfl, h1⟩
    · refine l_catch X hT [] [(0, 14, 21, 13)] (0, 14, 17, 20) rfl (by decide +kernel) cl_L_20 (by decide) rfl (fun z hz => absurd hz (List.not_mem_nil)) hcell hv9 hcl ?_
      refine lv_astore (lv' := [(6, .ref q9), (0, .ref (b + 0)), (1, .int a1), (2, .int a2), (3, .int a3), (4, .int a4), (5, .ref (b + 60))]) hx9 hb9 dL_newYears_17 hl (by decide) rfl (fun ls hl => ?_)
      refine lv_iconst (v := 1) hx9 hb9 dL_newYears_19 (by decide) ?_
      exact q_cret (post := post1) X w dL_newYears_20 rfl h1
    · refine l_catch X hT [(0, 14, 17, 20)] [] (0, 14, 21, 13) rfl (by decide +kernel) cl_L_13 (by decide) rfl (fun z hz => by rcases List.mem_singleton.mp hz with rfl; exact ⟨by decide, _, by decide +kernel, by decide +kernel, cl_L_20⟩) hcell hv9 hcl ?_
      refine lv_astore (lv' := [(6, .ref q9), (0, .ref (b + 0)), (1, .int a1), (2, .int a2), (3, .int a3), (4, .int a4), (5, .ref (b + 60))]) hx9 hb9 dL_newYears_21 hl (by decide) rfl (fun ls hl => ?_)
      refine lv_iconst (v := 2) hx9 hb9 dL_newYears_23 (by decide) ?_
      exact q_cret (post := post1) X w dL_newYears_24 rfl h1
  obtain ⟨⟨f9, h60⟩, hq2⟩ := hp hlt v n1 σ1 hq
  refine lv_i2l hx9 hb9 dL_newYears_12 rfl ?_
  refine q_last X w (k := 60) h60 (i := 0) (by unfold vp_in; decide) dL_newYears_13 (fun H locs w => ?_)
  have hq3 := hq2 _ (show vp_updL f9 (0 : Int32).toNatClampNeg v.toInt64 0 = _ from rfl)
  refine lv_goto (tgt := 25) hx9 hb9 dL_newYears_14 (by decide) ?_
  refine lv_iconst (v := 0) hx9 hb9 dL_newYears_25 (by decide) ?_
  exact q_cret (post := post1) X w dL_newYears_26 rfl hq3

set_option maxHeartbeats 2000000 in
set_option maxRecDepth 100000 in
theorem c_L_averageYear (l : Launch) (D : va_G) (t : Nat → ClassId) (b n : Nat) (σ : qM) (a1 : Int32) {post : Option Value → Nat → qM → Prop} {xp : String → Nat → qM → Prop} {post1 : Int32 → Nat → qM → Prop} {fs : List Value} (h0 : σ 0 = some (.inr (12, fs))) (hM : xG l yX8_averageYear cX8_averageYear 2 (some .double) 7 2 12 D t b n σ [.ref (b + 0), .int a1] post xp) (hp : (∀ k e, σ k = some e → k < n) → ∀ (v : Option Value) (n1 : Nat) (σ1 : qM), post v n1 σ1 → ∃ x : UInt64, v = some (.double x) ∧ (∃ f, σ1 61 = some (o7 t f)) ∧ ∀ f : Nat → UInt64, f 0 = x → post1 0 n1 (va_up σ1 61 (some (o7 t f)))) (hx : (∀ k e, σ k = some e → k < n) → ∀ (E : String) (n1 : Nat) (σ1 : qM), xp E n1 σ1 → (E = "java/lang/IndexOutOfBoundsException" ∧ post1 1 n1 σ1)) : lC l yL_averageYear cL_averageYear 4 [(0, 8, 11, 20)] 8 2 12 D t b n σ [.ref (b + 0), .int a1, .ref (b + 61)] post1 := by
  refine lC.of (by decide +kernel) (Nat.le_of_ble_eq_true rfl) (fun p e s m args below meth c X hE hS hT w ls hl => ?_)
  have hx9 := X.1
  have hb9 := X.2.1
  have hlt : ∀ k e, σ k = some e → k < n := fun k e hk => w.1.lt hk
  have hl : lv_has ls 4 [(0, .ref (b + 0)), (1, .int a1), (2, .ref (b + 61))] := hl
  refine lv_aload_n hx9 hb9 dL_averageYear_0 rfl (lv_at hl 2 rfl) ?_
  refine lv_iconst (v := 0) hx9 hb9 dL_averageYear_1 (by decide) ?_
  refine lv_aload_n hx9 hb9 dL_averageYear_2 rfl (lv_at hl 0 rfl) ?_
  refine lv_iload_n hx9 hb9 dL_averageYear_3 rfl (lv_at hl 1 rfl) ?_
  refine w_cG X hE w hM vL_110 (k := 0) h0 rfl rfl ⟨Nat.le_of_ble_eq_true rfl, Nat.le_of_ble_eq_true rfl⟩ rfl hl.1 (Nat.le_of_ble_eq_true rfl) dL_averageYear_4 ⟨Nat.le_of_ble_eq_true rfl, Nat.le_of_ble_eq_true rfl⟩ (fun E ce q9 n1 σ1 H1 locs1 hq w hcell hv9 hcl => ?_) (fun v n1 σ1 H1 locs1 hq w => ?_)
  · rcases hx hlt E n1 σ1 hq with ⟨rfl, h1⟩
    · refine l_catch X hT [] [] (0, 8, 11, 20) rfl (by decide +kernel) cl_L_20 (by decide) rfl (fun z hz => absurd hz (List.not_mem_nil)) hcell hv9 hcl ?_
      refine lv_astore_n (lv' := [(3, .ref q9), (0, .ref (b + 0)), (1, .int a1), (2, .ref (b + 61))]) hx9 hb9 dL_averageYear_11 rfl hl (by decide) rfl (fun ls hl => ?_)
      refine lv_iconst (v := 1) hx9 hb9 dL_averageYear_12 (by decide) ?_
      exact q_cret (post := post1) X w dL_averageYear_13 rfl h1
  obtain ⟨x, rfl, ⟨f9, h60⟩, hq2⟩ := hp hlt v n1 σ1 hq
  show W _ _ _ _ _ _ _ _ _ _ _ _ _ _ _ (F0 _ _ _ ([.double x, .int 0, .ref (b + 61)]))
  refine q_dast X w (k := 61) h60 (i := 0) (by unfold vp_in; decide) dL_averageYear_7 (fun H locs w => ?_)
  have hq3 := hq2 _ (show vf_upd f9 (0 : Int32).toNatClampNeg x 0 = _ from rfl)
  refine lv_goto (tgt := 14) hx9 hb9 dL_averageYear_8 (by decide) ?_
  refine lv_iconst (v := 0) hx9 hb9 dL_averageYear_14 (by decide) ?_
  exact q_cret (post := post1) X w dL_averageYear_15 rfl hq3

set_option maxHeartbeats 2000000 in
set_option maxRecDepth 100000 in
theorem c_L_drift (l : Launch) (D : va_G) (t : Nat → ClassId) (b n : Nat) (σ : qM) (a1 : Int32) (a2 : Int32) {post : Option Value → Nat → qM → Prop} {xp : String → Nat → qM → Prop} {post1 : Int32 → Nat → qM → Prop} {fs : List Value} (h0 : σ 0 = some (.inr (12, fs))) (hM : xG l yX8_drift cX8_drift 5 (some .float) 7 2 12 D t b n σ [.ref (b + 0), .int a1, .int a2] post xp) (hp : (∀ k e, σ k = some e → k < n) → ∀ (v : Option Value) (n1 : Nat) (σ1 : qM), post v n1 σ1 → ∃ x : UInt32, v = some (.float x) ∧ vf_n64 (FP.f2d x) ∧ (∃ f, σ1 61 = some (o7 t f)) ∧ ∀ f : Nat → UInt64, f 0 = FP.f2d x → post1 0 n1 (va_up σ1 61 (some (o7 t f)))) (hx : (∀ k e, σ k = some e → k < n) → ∀ (E : String) (n1 : Nat) (σ1 : qM), xp E n1 σ1 → (E = "java/lang/IndexOutOfBoundsException" ∧ post1 1 n1 σ1)) : lC l yL_drift cL_drift 5 [(0, 10, 13, 20)] 8 2 12 D t b n σ [.ref (b + 0), .int a1, .int a2, .ref (b + 61)] post1 := by
  refine lC.of (by decide +kernel) (Nat.le_of_ble_eq_true rfl) (fun p e s m args below meth c X hE hS hT w ls hl => ?_)
  have hx9 := X.1
  have hb9 := X.2.1
  have hlt : ∀ k e, σ k = some e → k < n := fun k e hk => w.1.lt hk
  have hl : lv_has ls 5 [(0, .ref (b + 0)), (1, .int a1), (2, .int a2), (3, .ref (b + 61))] := hl
  refine lv_aload_n hx9 hb9 dL_drift_0 rfl (lv_at hl 3 rfl) ?_
  refine lv_iconst (v := 0) hx9 hb9 dL_drift_1 (by decide) ?_
  refine lv_aload_n hx9 hb9 dL_drift_2 rfl (lv_at hl 0 rfl) ?_
  refine lv_iload_n hx9 hb9 dL_drift_3 rfl (lv_at hl 1 rfl) ?_
  refine lv_iload_n hx9 hb9 dL_drift_4 rfl (lv_at hl 2 rfl) ?_
  refine w_cG X hE w hM vL_114 (k := 0) h0 rfl rfl ⟨Nat.le_of_ble_eq_true rfl, Nat.le_of_ble_eq_true rfl⟩ rfl hl.1 (Nat.le_of_ble_eq_true rfl) dL_drift_5 ⟨Nat.le_of_ble_eq_true rfl, Nat.le_of_ble_eq_true rfl⟩ (fun E ce q9 n1 σ1 H1 locs1 hq w hcell hv9 hcl => ?_) (fun v n1 σ1 H1 locs1 hq w => ?_)
  · rcases hx hlt E n1 σ1 hq with ⟨rfl, h1⟩
    · refine l_catch X hT [] [] (0, 10, 13, 20) rfl (by decide +kernel) cl_L_20 (by decide) rfl (fun z hz => absurd hz (List.not_mem_nil)) hcell hv9 hcl ?_
      refine lv_astore (lv' := [(4, .ref q9), (0, .ref (b + 0)), (1, .int a1), (2, .int a2), (3, .ref (b + 61))]) hx9 hb9 dL_drift_13 hl (by decide) rfl (fun ls hl => ?_)
      refine lv_iconst (v := 1) hx9 hb9 dL_drift_15 (by decide) ?_
      exact q_cret (post := post1) X w dL_drift_16 rfl h1
  obtain ⟨x, rfl, hn9, ⟨f9, h60⟩, hq2⟩ := hp hlt v n1 σ1 hq
  show W _ _ _ _ _ _ _ _ _ _ _ _ _ _ _ (F0 _ _ _ ([.float x, .int 0, .ref (b + 61)]))
  refine lv_f2d hx9 hb9 dL_drift_8 hn9 ?_
  refine q_dast X w (k := 61) h60 (i := 0) (by unfold vp_in; decide) dL_drift_9 (fun H locs w => ?_)
  have hq3 := hq2 _ (show vf_upd f9 (0 : Int32).toNatClampNeg (FP.f2d x) 0 = _ from rfl)
  refine lv_goto (tgt := 17) hx9 hb9 dL_drift_10 (by decide) ?_
  refine lv_iconst (v := 0) hx9 hb9 dL_drift_17 (by decide) ?_
  exact q_cret (post := post1) X w dL_drift_18 rfl hq3

set_option maxHeartbeats 2000000 in
set_option maxRecDepth 100000 in
theorem c_L_undo (l : Launch) (D : va_G) (t : Nat → ClassId) (b n : Nat) (σ : qM) {post : Int32 → Nat → qM → Prop} {xp : String → Nat → qM → Prop} {post1 : Int32 → Nat → qM → Prop} {fs : List Value} (h0 : σ 0 = some (.inr (12, fs))) (hM : xC l yX8_undo cX8_undo 1 (some .int) 7 1 6 D t b n σ [.ref (b + 0)] post xp) (hp : (∀ k e, σ k = some e → k < n) → ∀ (v : Int32) (n1 : Nat) (σ1 : qM), post v n1 σ1 → (∃ f, σ1 60 = some (o6 t f)) ∧ ∀ f : Nat → Int64, f 0 = v.toInt64 → post1 0 n1 (va_up σ1 60 (some (o6 t f)))) (hx : (∀ k e, σ k = some e → k < n) → ∀ (E : String) (n1 : Nat) (σ1 : qM), xp E n1 σ1 → (E = "java/lang/IllegalStateException" ∧ post1 1 n1 σ1)) : lC l yL_undo cL_undo 3 [(0, 8, 11, 15)] 8 1 6 D t b n σ [.ref (b + 0), .ref (b + 60)] post1 := by
  refine lC.of (by decide +kernel) (Nat.le_of_ble_eq_true rfl) (fun p e s m args below meth c X hE hS hT w ls hl => ?_)
  have hx9 := X.1
  have hb9 := X.2.1
  have hlt : ∀ k e, σ k = some e → k < n := fun k e hk => w.1.lt hk
  have hl : lv_has ls 3 [(0, .ref (b + 0)), (1, .ref (b + 60))] := hl
  refine lv_aload_n hx9 hb9 dL_undo_0 rfl (lv_at hl 1 rfl) ?_
  refine lv_iconst (v := 0) hx9 hb9 dL_undo_1 (by decide) ?_
  refine lv_aload_n hx9 hb9 dL_undo_2 rfl (lv_at hl 0 rfl) ?_
  refine w_cX X hE w hM vL_118 (k := 0) h0 rfl rfl ⟨Nat.le_of_ble_eq_true rfl, Nat.le_of_ble_eq_true rfl⟩ rfl hl.1 (Nat.le_of_ble_eq_true rfl) dL_undo_3 ⟨Nat.le_of_ble_eq_true rfl, Nat.le_of_ble_eq_true rfl⟩ (fun E ce q9 n1 σ1 H1 locs1 hq w hcell hv9 hcl => ?_) (fun v n1 σ1 H1 locs1 hq w => ?_)
  · rcases hx hlt E n1 σ1 hq with ⟨rfl, h1⟩
    · refine l_catch X hT [] [] (0, 8, 11, 15) rfl (by decide +kernel) cl_L_15 (by decide) rfl (fun z hz => absurd hz (List.not_mem_nil)) hcell hv9 hcl ?_
      refine lv_astore_n (lv' := [(2, .ref q9), (0, .ref (b + 0)), (1, .ref (b + 60))]) hx9 hb9 dL_undo_11 rfl hl (by decide) rfl (fun ls hl => ?_)
      refine lv_iconst (v := 1) hx9 hb9 dL_undo_12 (by decide) ?_
      exact q_cret (post := post1) X w dL_undo_13 rfl h1
  obtain ⟨⟨f9, h60⟩, hq2⟩ := hp hlt v n1 σ1 hq
  refine lv_i2l hx9 hb9 dL_undo_6 rfl ?_
  refine q_last X w (k := 60) h60 (i := 0) (by unfold vp_in; decide) dL_undo_7 (fun H locs w => ?_)
  have hq3 := hq2 _ (show vp_updL f9 (0 : Int32).toNatClampNeg v.toInt64 0 = _ from rfl)
  refine lv_goto (tgt := 14) hx9 hb9 dL_undo_8 (by decide) ?_
  refine lv_iconst (v := 0) hx9 hb9 dL_undo_14 (by decide) ?_
  exact q_cret (post := post1) X w dL_undo_15 rfl hq3

set_option maxHeartbeats 2000000 in
set_option maxRecDepth 100000 in
theorem c_L_restore (l : Launch) (D : va_G) (t : Nat → ClassId) (b n : Nat) (σ : qM) {post : Int32 → Nat → qM → Prop} {xp : String → Nat → qM → Prop} {post1 : Int32 → Nat → qM → Prop} {fs : List Value} (h0 : σ 0 = some (.inr (12, fs))) (hM : xC l yX8_restore cX8_restore 1 (some .int) 7 1 6 D t b n σ [.ref (b + 0)] post xp) (hp : (∀ k e, σ k = some e → k < n) → ∀ (v : Int32) (n1 : Nat) (σ1 : qM), post v n1 σ1 → (∃ f, σ1 60 = some (o6 t f)) ∧ ∀ f : Nat → Int64, f 0 = v.toInt64 → post1 0 n1 (va_up σ1 60 (some (o6 t f)))) (hx : (∀ k e, σ k = some e → k < n) → ∀ (E : String) (n1 : Nat) (σ1 : qM), xp E n1 σ1 → (E = "java/lang/IllegalStateException" ∧ post1 1 n1 σ1)) : lC l yL_restore cL_restore 3 [(0, 8, 11, 15)] 8 1 6 D t b n σ [.ref (b + 0), .ref (b + 60)] post1 := by
  refine lC.of (by decide +kernel) (Nat.le_of_ble_eq_true rfl) (fun p e s m args below meth c X hE hS hT w ls hl => ?_)
  have hx9 := X.1
  have hb9 := X.2.1
  have hlt : ∀ k e, σ k = some e → k < n := fun k e hk => w.1.lt hk
  have hl : lv_has ls 3 [(0, .ref (b + 0)), (1, .ref (b + 60))] := hl
  refine lv_aload_n hx9 hb9 dL_restore_0 rfl (lv_at hl 1 rfl) ?_
  refine lv_iconst (v := 0) hx9 hb9 dL_restore_1 (by decide) ?_
  refine lv_aload_n hx9 hb9 dL_restore_2 rfl (lv_at hl 0 rfl) ?_
  refine w_cX X hE w hM vL_121 (k := 0) h0 rfl rfl ⟨Nat.le_of_ble_eq_true rfl, Nat.le_of_ble_eq_true rfl⟩ rfl hl.1 (Nat.le_of_ble_eq_true rfl) dL_restore_3 ⟨Nat.le_of_ble_eq_true rfl, Nat.le_of_ble_eq_true rfl⟩ (fun E ce q9 n1 σ1 H1 locs1 hq w hcell hv9 hcl => ?_) (fun v n1 σ1 H1 locs1 hq w => ?_)
  · rcases hx hlt E n1 σ1 hq with ⟨rfl, h1⟩
    · refine l_catch X hT [] [] (0, 8, 11, 15) rfl (by decide +kernel) cl_L_15 (by decide) rfl (fun z hz => absurd hz (List.not_mem_nil)) hcell hv9 hcl ?_
      refine lv_astore_n (lv' := [(2, .ref q9), (0, .ref (b + 0)), (1, .ref (b + 60))]) hx9 hb9 dL_restore_11 rfl hl (by decide) rfl (fun ls hl => ?_)
      refine lv_iconst (v := 1) hx9 hb9 dL_restore_12 (by decide) ?_
      exact q_cret (post := post1) X w dL_restore_13 rfl h1
  obtain ⟨⟨f9, h60⟩, hq2⟩ := hp hlt v n1 σ1 hq
  refine lv_i2l hx9 hb9 dL_restore_6 rfl ?_
  refine q_last X w (k := 60) h60 (i := 0) (by unfold vp_in; decide) dL_restore_7 (fun H locs w => ?_)
  have hq3 := hq2 _ (show vp_updL f9 (0 : Int32).toNatClampNeg v.toInt64 0 = _ from rfl)
  refine lv_goto (tgt := 14) hx9 hb9 dL_restore_8 (by decide) ?_
  refine lv_iconst (v := 0) hx9 hb9 dL_restore_14 (by decide) ?_
  exact q_cret (post := post1) X w dL_restore_15 rfl hq3

