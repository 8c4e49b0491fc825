/-! THE START -/
set_option maxRecDepth 100000
def FL : List Cond := flatC (Jvm.Cond.and given_1 narrow_1)
theorem fl_mem (i : Nat) {c : Cond} (h : FL[i]? = some c) : c ∈ FL := List.mem_of_getElem? h
theorem lay_sJ0_0 : u_lay RJ0 TJ0 0 ∈ lw_tbl := tb_t6 (List.mem_of_getElem? (i := 165) (by decide +kernel))
theorem lay_sJ0_1 : u_lay RJ0 TJ0 1 ∈ lw_tbl := tb_t6 (List.mem_of_getElem? (i := 167) (by decide +kernel))
theorem lay_sJ0_2 : u_lay RJ0 TJ0 2 ∈ lw_tbl := tb_t6 (List.mem_of_getElem? (i := 169) (by decide +kernel))
theorem lay_sJ0_3 : u_lay RJ0 TJ0 3 ∈ lw_tbl := tb_t6 (List.mem_of_getElem? (i := 171) (by decide +kernel))
theorem ins_J0 : ∀ w ∈ u_ws RJ0 TJ0 4, w ∈ lw_tbl := by
  intro w hw
  obtain ⟨k, hk, rfl⟩ := List.mem_map.mp hw
  have hk := List.mem_range.mp hk
  match k, hk with
  | 0, _ => exact lay_sJ0_0
  | 1, _ => exact lay_sJ0_1
  | 2, _ => exact lay_sJ0_2
  | 3, _ => exact lay_sJ0_3
  | k + 4, hk => exact absurd hk (by omega)
theorem lay_sJx00060_0 : u_lay RJx00060 TJx00060 0 ∈ lw_tbl := tb_t6 (List.mem_of_getElem? (i := 200) (by decide +kernel))
theorem lay_sJx00060_1 : u_lay RJx00060 TJx00060 1 ∈ lw_tbl := tb_t6 (List.mem_of_getElem? (i := 201) (by decide +kernel))
theorem lay_sJx00060_2 : u_lay RJx00060 TJx00060 2 ∈ lw_tbl := tb_t6 (List.mem_of_getElem? (i := 202) (by decide +kernel))
theorem lay_sJx00060_3 : u_lay RJx00060 TJx00060 3 ∈ lw_tbl := tb_t6 (List.mem_of_getElem? (i := 203) (by decide +kernel))
theorem lay_sJx00060_4 : u_lay RJx00060 TJx00060 4 ∈ lw_tbl := tb_t6 (List.mem_of_getElem? (i := 204) (by decide +kernel))
theorem lay_sJx00060_5 : u_lay RJx00060 TJx00060 5 ∈ lw_tbl := tb_t6 (List.mem_of_getElem? (i := 215) (by decide +kernel))
theorem ins_Jx00060 : ∀ w ∈ u_ws RJx00060 TJx00060 6, w ∈ lw_tbl := by
  intro w hw
  obtain ⟨k, hk, rfl⟩ := List.mem_map.mp hw
  have hk := List.mem_range.mp hk
  match k, hk with
  | 0, _ => exact lay_sJx00060_0
  | 1, _ => exact lay_sJx00060_1
  | 2, _ => exact lay_sJx00060_2
  | 3, _ => exact lay_sJx00060_3
  | 4, _ => exact lay_sJx00060_4
  | 5, _ => exact lay_sJx00060_5
  | k + 6, hk => exact absurd hk (by omega)
theorem lay_sJx7c733_0 : u_lay RJx7c733 TJx7c733 0 ∈ lw_tbl := tb_t6 (List.mem_of_getElem? (i := 175) (by decide +kernel))
theorem lay_sJx7c733_1 : u_lay RJx7c733 TJx7c733 1 ∈ lw_tbl := tb_t6 (List.mem_of_getElem? (i := 176) (by decide +kernel))
theorem lay_sJx7c733_2 : u_lay RJx7c733 TJx7c733 2 ∈ lw_tbl := tb_t6 (List.mem_of_getElem? (i := 177) (by decide +kernel))
theorem lay_sJx7c733_3 : u_lay RJx7c733 TJx7c733 3 ∈ lw_tbl := tb_t6 (List.mem_of_getElem? (i := 178) (by decide +kernel))
theorem lay_sJx7c733_4 : u_lay RJx7c733 TJx7c733 4 ∈ lw_tbl := tb_t6 (List.mem_of_getElem? (i := 179) (by decide +kernel))
theorem lay_sJx7c733_5 : u_lay RJx7c733 TJx7c733 5 ∈ lw_tbl := tb_t6 (List.mem_of_getElem? (i := 180) (by decide +kernel))
theorem ins_Jx7c733 : ∀ w ∈ u_ws RJx7c733 TJx7c733 6, w ∈ lw_tbl := by
  intro w hw
  obtain ⟨k, hk, rfl⟩ := List.mem_map.mp hw
  have hk := List.mem_range.mp hk
  match k, hk with
  | 0, _ => exact lay_sJx7c733_0
  | 1, _ => exact lay_sJx7c733_1
  | 2, _ => exact lay_sJx7c733_2
  | 3, _ => exact lay_sJx7c733_3
  | 4, _ => exact lay_sJx7c733_4
  | 5, _ => exact lay_sJx7c733_5
  | k + 6, hk => exact absurd hk (by omega)
section ST
variable {s : State} {args : Array Value}
theorem st_cls (hts : ∀ w ∈ lw_tbl, w.before args s = true) : ∀ c : Nat, ∃ x : ClassId × (Nat → Nat), ∀ q : vw_C, vwCl[c]? = some q → u_Kn s q.1 q.2.1 q.2.2 x.1 x.2 := fun c => match c with
  | 0 => by
    obtain ⟨cC, iS, h⟩ := u_known (C := RJ0) (T := TJ0) (N := 4) (n := 4) hts ins_J0 (hts _ (tb_t6 (List.mem_of_getElem? (i := 114) (by decide +kernel))))
    exact ⟨(cC, iS), fun q hq => by cases hq; exact h⟩
  | 1 => by
    obtain ⟨cC, iS, h⟩ := u_known (C := RJ4) (T := TJ4) (N := 4) (n := 4) hts (fun w h => tb_tbl (inJ4 w h)) (hts _ (tb_t1 (List.mem_of_getElem? (i := 204) (by decide +kernel))))
    exact ⟨(cC, iS), fun q hq => by cases hq; exact h⟩
  | 2 => by
    obtain ⟨cC, iS, h⟩ := u_known (C := RJx00060) (T := TJx00060) (N := 6) (n := 6) hts ins_Jx00060 (hts _ (tb_t6 (List.mem_of_getElem? (i := 195) (by decide +kernel))))
    exact ⟨(cC, iS), fun q hq => by cases hq; exact h⟩
  | 3 => by
    obtain ⟨cC, iS, h⟩ := u_known (C := RJx7c733) (T := TJx7c733) (N := 6) (n := 6) hts ins_Jx7c733 (hts _ (tb_t5 (List.mem_of_getElem? (i := 226) (by decide +kernel))))
    exact ⟨(cC, iS), fun q hq => by cases hq; exact h⟩
  | 4 => by
    obtain ⟨cC, iS, h⟩ := u_known (C := RX0) (T := TX0) (N := 15) (n := 15) hts (fun w h => tb_tbl (inX0 w h)) (hts _ (tb_t2 (List.mem_of_getElem? (i := 143) (by decide +kernel))))
    exact ⟨(cC, iS), fun q hq => by cases hq; exact h⟩
  | 5 => by
    obtain ⟨cC, iS, h⟩ := u_known (C := RX1) (T := TX1) (N := 6) (n := 6) hts (fun w h => tb_tbl (inX1 w h)) (hts _ (tb_t5 (List.mem_of_getElem? (i := 65) (by decide +kernel))))
    exact ⟨(cC, iS), fun q hq => by cases hq; exact h⟩
  | 6 => by
    obtain ⟨cC, iS, h⟩ := u_known (C := RX2) (T := TX2) (N := 2) (n := 2) hts (fun w h => tb_tbl (inX2 w h)) (hts _ (tb_t1 (List.mem_of_getElem? (i := 172) (by decide +kernel))))
    exact ⟨(cC, iS), fun q hq => by cases hq; exact h⟩
  | 7 => by
    obtain ⟨cC, iS, h⟩ := u_known (C := RX3) (T := TX3) (N := 2) (n := 2) hts (fun w h => tb_tbl (inX3 w h)) (hts _ (tb_t1 (List.mem_of_getElem? (i := 156) (by decide +kernel))))
    exact ⟨(cC, iS), fun q hq => by cases hq; exact h⟩
  | 8 => by
    obtain ⟨cC, iS, h⟩ := u_known (C := RX4) (T := TX4) (N := 18) (n := 18) hts (fun w h => tb_tbl (inX4 w h)) (hts _ (tb_t1 (List.mem_of_getElem? (i := 61) (by decide +kernel))))
    exact ⟨(cC, iS), fun q hq => by cases hq; exact h⟩
  | 9 => by
    obtain ⟨cC, iS, h⟩ := u_known (C := RX5) (T := TX5) (N := 4) (n := 4) hts (fun w h => tb_tbl (inX5 w h)) (hts _ (tb_t1 (List.mem_of_getElem? (i := 185) (by decide +kernel))))
    exact ⟨(cC, iS), fun q hq => by cases hq; exact h⟩
  | 10 => by
    obtain ⟨cC, iS, h⟩ := u_known (C := RX6) (T := TX6) (N := 4) (n := 4) hts (fun w h => tb_tbl (inX6 w h)) (hts _ (tb_t1 (List.mem_of_getElem? (i := 133) (by decide +kernel))))
    exact ⟨(cC, iS), fun q hq => by cases hq; exact h⟩
  | 11 => by
    obtain ⟨cC, iS, h⟩ := u_known (C := RX7) (T := TX7) (N := 4) (n := 4) hts (fun w h => tb_tbl (inX7 w h)) (hts _ (tb_t1 (List.mem_of_getElem? (i := 41) (by decide +kernel))))
    exact ⟨(cC, iS), fun q hq => by cases hq; exact h⟩
  | 12 => by
    obtain ⟨cC, iS, h⟩ := u_known (C := RX8) (T := TX8) (N := 10) (n := 10) hts (fun w h => tb_tbl (inX8 w h)) (hts _ (tb_t1 (List.mem_of_getElem? (i := 33) (by decide +kernel))))
    exact ⟨(cC, iS), fun q hq => by cases hq; exact h⟩
  | 13 => by
    obtain ⟨cC, iS, h⟩ := u_known (C := RX9) (T := TX9) (N := 32) (n := 32) hts (fun w h => tb_tbl (inX9 w h)) (hts _ (tb_t7 (List.mem_of_getElem? (i := 65) (by decide +kernel))))
    exact ⟨(cC, iS), fun q hq => by cases hq; exact h⟩
  | c + 14 => ⟨((0 : Nat), fun _ => 0), fun q hq => by
    have h : (vwCl[c + 14]? : Option vw_C) = none := List.getElem?_eq_none (Nat.le_add_left 14 c)
    rw [h] at hq
    cases hq⟩
theorem st_prim {ty : FieldType} (hpr : ∀ C, ty ≠ .object C) (h : (Cond.arrayClass ty).before args s = true) : ∃ cA : ClassId, ArrOfT s cA ty ∧ va_RA s cA ty := by
  obtain ⟨cA, kA, comp, h1, h2, h3⟩ := Cond.arrayClass_spec (args := args) (first := s) (o := none) (s := s) (idx := []) h
  refine ⟨cA, fun n z => ⟨fun k h => (by cases h), kA, h2, comp, h3⟩, ?_⟩
  cases ty with
  | object C => exact absurd rfl (hpr C)
  | _ => exact h1
theorem st_obj {C : String} (h : (Cond.arrayOver (.object C)).before args s = true) : ∃ cA : ClassId, ArrOfT s cA (.object C) ∧ va_RA s cA (.object C) := by
  obtain ⟨comp, cA, kA, h1, -, h2, h3, h4⟩ := Cond.arrayOver_spec (args := args) (first := s) (o := none) (s := s) (idx := []) h
  exact ⟨cA, fun n z => ⟨fun k h => (by cases h), kA, h2, comp, h3⟩, kA, comp, h2, h3, h1, h4⟩
def tyL : List FieldType := [.int, .char, .boolean, .byte, .object RX0, .object RX1, .object RX6, .long, .double]
theorem st_arr (hts : ∀ w ∈ lw_tbl, w.before args s = true) : ∀ k : Nat, ∃ cA : ClassId, ∀ ty, tyL[k]? = some ty → ArrOfT s cA ty ∧ va_RA s cA ty := fun k => match k with
  | 0 => by
    obtain ⟨cA, h⟩ := st_prim (ty := .int) (fun C h => by cases h) (hts _ (tb_t1 (List.mem_of_getElem? (i := 130) (by decide +kernel))))
    exact ⟨cA, fun ty q => by cases q; exact h⟩
  | 1 => by
    obtain ⟨cA, h⟩ := st_prim (ty := .char) (fun C h => by cases h) (hts _ (tb_t1 (List.mem_of_getElem? (i := 59) (by decide +kernel))))
    exact ⟨cA, fun ty q => by cases q; exact h⟩
  | 2 => by
    obtain ⟨cA, h⟩ := st_prim (ty := .boolean) (fun C h => by cases h) (hts _ (tb_t1 (List.mem_of_getElem? (i := 131) (by decide +kernel))))
    exact ⟨cA, fun ty q => by cases q; exact h⟩
  | 3 => by
    obtain ⟨cA, h⟩ := st_prim (ty := .byte) (fun C h => by cases h) (hts _ (tb_t1 (List.mem_of_getElem? (i := 235) (by decide +kernel))))
    exact ⟨cA, fun ty q => by cases q; exact h⟩
  | 4 => by
    obtain ⟨cA, h⟩ := st_obj (C := RX0) (hts _ (tb_t1 (List.mem_of_getElem? (i := 139) (by decide +kernel))))
    exact ⟨cA, fun ty q => by cases q; exact h⟩
  | 5 => by
    obtain ⟨cA, h⟩ := st_obj (C := RX1) (hts _ (tb_t1 (List.mem_of_getElem? (i := 141) (by decide +kernel))))
    exact ⟨cA, fun ty q => by cases q; exact h⟩
  | 6 => by
    obtain ⟨cA, h⟩ := st_obj (C := RX6) (hts _ (tb_t1 (List.mem_of_getElem? (i := 162) (by decide +kernel))))
    exact ⟨cA, fun ty q => by cases q; exact h⟩
  | 7 => by
    obtain ⟨cA, h⟩ := st_prim (ty := .long) (fun C h => by cases h) (hts _ (tb_t9 (List.mem_of_getElem? (i := 133) (by decide +kernel))))
    exact ⟨cA, fun ty q => by cases q; exact h⟩
  | 8 => by
    obtain ⟨cA, h⟩ := st_prim (ty := .double) (fun C h => by cases h) (hts _ (tb_t9 (List.mem_of_getElem? (i := 134) (by decide +kernel))))
    exact ⟨cA, fun ty q => by cases q; exact h⟩
  | k + 9 => ⟨(0 : Nat), fun ty hq => by
    have h : (tyL[k + 9]? : Option FieldType) = none := List.getElem?_eq_none (Nat.le_add_left 9 k)
    rw [h] at hq
    cases hq⟩
theorem st_K (hts : ∀ w ∈ lw_tbl, w.before args s = true) : ∃ (D : va_G) (t : Nat → ClassId), va_K D vwCl (qT t) s :=
  ⟨(fun c => (Classical.choose (st_cls hts c)).1, fun c => (Classical.choose (st_cls hts c)).2), fun k => Classical.choose (st_arr hts k), fun c q hq => Classical.choose_spec (st_cls hts c) q hq, fun k q hq => match k, hq with
  | 0, hq => by
    cases hq
    exact Classical.choose_spec (st_arr hts 0) _ rfl
  | 1, hq => by
    cases hq
    exact Classical.choose_spec (st_arr hts 1) _ rfl
  | 2, hq => by
    cases hq
    exact Classical.choose_spec (st_arr hts 2) _ rfl
  | 3, hq => by
    cases hq
    exact Classical.choose_spec (st_arr hts 3) _ rfl
  | 4, hq => by
    cases hq
    exact Classical.choose_spec (st_arr hts 4) _ rfl
  | 5, hq => by
    cases hq
    exact Classical.choose_spec (st_arr hts 5) _ rfl
  | 6, hq => by
    cases hq
    exact Classical.choose_spec (st_arr hts 6) _ rfl
  | 7, hq => by
    cases hq
    exact Classical.choose_spec (st_arr hts 7) _ rfl
  | 8, hq => by
    cases hq
    exact Classical.choose_spec (st_arr hts 8) _ rfl
  | k + 9, hq => by
    have h : ((qT (fun k => Classical.choose (st_arr hts k)))[k + 9]? : Option (ClassId × FieldType)) = none := List.getElem?_eq_none (Nat.le_add_left 9 k)
    rw [h] at hq
    cases hq⟩
theorem st_sr : ∀ q ∈ qS, Cond.stringRef RX8 q.1 q.2 ∈ lw_tbl := List.forall_mem_cons.mpr ⟨tb_t1 (List.mem_of_getElem? (i := 236) (by decide +kernel)), List.forall_mem_cons.mpr ⟨tb_t3 (List.mem_of_getElem? (i := 204) (by decide +kernel)), List.forall_mem_cons.mpr ⟨tb_t4 (List.mem_of_getElem? (i := 3) (by decide +kernel)), List.forall_mem_cons.mpr ⟨tb_t4 (List.mem_of_getElem? (i := 28) (by decide +kernel)), List.forall_mem_cons.mpr ⟨tb_t4 (List.mem_of_getElem? (i := 39) (by decide +kernel)), List.forall_mem_cons.mpr ⟨tb_t4 (List.mem_of_getElem? (i := 44) (by decide +kernel)), List.forall_mem_cons.mpr ⟨tb_t4 (List.mem_of_getElem? (i := 73) (by decide +kernel)), List.forall_mem_cons.mpr ⟨tb_t4 (List.mem_of_getElem? (i := 168) (by decide +kernel)), List.forall_mem_cons.mpr ⟨tb_t5 (List.mem_of_getElem? (i := 24) (by decide +kernel)), List.forall_mem_cons.mpr ⟨tb_t5 (List.mem_of_getElem? (i := 63) (by decide +kernel)), List.forall_mem_cons.mpr ⟨tb_t5 (List.mem_of_getElem? (i := 106) (by decide +kernel)), List.forall_mem_cons.mpr ⟨tb_t5 (List.mem_of_getElem? (i := 122) (by decide +kernel)), List.forall_mem_cons.mpr ⟨tb_t5 (List.mem_of_getElem? (i := 179) (by decide +kernel)), List.forall_mem_cons.mpr ⟨tb_t5 (List.mem_of_getElem? (i := 188) (by decide +kernel)), List.forall_mem_cons.mpr ⟨tb_t5 (List.mem_of_getElem? (i := 197) (by decide +kernel)), List.forall_mem_cons.mpr ⟨tb_t5 (List.mem_of_getElem? (i := 205) (by decide +kernel)), List.forall_mem_cons.mpr ⟨tb_t7 (List.mem_of_getElem? (i := 3) (by decide +kernel)), List.forall_mem_cons.mpr ⟨tb_t7 (List.mem_of_getElem? (i := 51) (by decide +kernel)), List.forall_mem_cons.mpr ⟨tb_t7 (List.mem_of_getElem? (i := 63) (by decide +kernel)), fun _ h => by cases h⟩⟩⟩⟩⟩⟩⟩⟩⟩⟩⟩⟩⟩⟩⟩⟩⟩⟩⟩
theorem st_se : ∀ q ∈ qS, Cond.exactly (.string RX8 q.1) "java/lang/String" ∈ FL := List.forall_mem_cons.mpr ⟨fl_mem 337 (by decide +kernel), List.forall_mem_cons.mpr ⟨fl_mem 395 (by decide +kernel), List.forall_mem_cons.mpr ⟨fl_mem 424 (by decide +kernel), List.forall_mem_cons.mpr ⟨fl_mem 446 (by decide +kernel), List.forall_mem_cons.mpr ⟨fl_mem 482 (by decide +kernel), List.forall_mem_cons.mpr ⟨fl_mem 510 (by decide +kernel), List.forall_mem_cons.mpr ⟨fl_mem 543 (by decide +kernel), List.forall_mem_cons.mpr ⟨fl_mem 569 (by decide +kernel), List.forall_mem_cons.mpr ⟨fl_mem 611 (by decide +kernel), List.forall_mem_cons.mpr ⟨fl_mem 643 (by decide +kernel), List.forall_mem_cons.mpr ⟨fl_mem 674 (by decide +kernel), List.forall_mem_cons.mpr ⟨fl_mem 707 (by decide +kernel), List.forall_mem_cons.mpr ⟨fl_mem 735 (by decide +kernel), List.forall_mem_cons.mpr ⟨fl_mem 784 (by decide +kernel), List.forall_mem_cons.mpr ⟨fl_mem 831 (by decide +kernel), List.forall_mem_cons.mpr ⟨fl_mem 886 (by decide +kernel), List.forall_mem_cons.mpr ⟨fl_mem 1134 (by decide +kernel), List.forall_mem_cons.mpr ⟨fl_mem 1173 (by decide +kernel), List.forall_mem_cons.mpr ⟨fl_mem 1231 (by decide +kernel), fun _ h => by cases h⟩⟩⟩⟩⟩⟩⟩⟩⟩⟩⟩⟩⟩⟩⟩⟩⟩⟩⟩
theorem st_nf : ∀ q ∈ qNF, Cond.fieldLinkNest q.1 q.2.1 q.2.2.1 q.2.2.2.1 q.2.2.2.2.1 q.2.2.2.2.2 ∈ lw_tbl := List.forall_mem_cons.mpr ⟨tb_t1 (List.mem_of_getElem? (i := 72) (by decide +kernel)), List.forall_mem_cons.mpr ⟨tb_t1 (List.mem_of_getElem? (i := 74) (by decide +kernel)), List.forall_mem_cons.mpr ⟨tb_t1 (List.mem_of_getElem? (i := 76) (by decide +kernel)), List.forall_mem_cons.mpr ⟨tb_t1 (List.mem_of_getElem? (i := 78) (by decide +kernel)), List.forall_mem_cons.mpr ⟨tb_t1 (List.mem_of_getElem? (i := 80) (by decide +kernel)), List.forall_mem_cons.mpr ⟨tb_t1 (List.mem_of_getElem? (i := 82) (by decide +kernel)), List.forall_mem_cons.mpr ⟨tb_t1 (List.mem_of_getElem? (i := 87) (by decide +kernel)), List.forall_mem_cons.mpr ⟨tb_t1 (List.mem_of_getElem? (i := 89) (by decide +kernel)), List.forall_mem_cons.mpr ⟨tb_t1 (List.mem_of_getElem? (i := 91) (by decide +kernel)), List.forall_mem_cons.mpr ⟨tb_t5 (List.mem_of_getElem? (i := 71) (by decide +kernel)), List.forall_mem_cons.mpr ⟨tb_t5 (List.mem_of_getElem? (i := 73) (by decide +kernel)), List.forall_mem_cons.mpr ⟨tb_t5 (List.mem_of_getElem? (i := 75) (by decide +kernel)), List.forall_mem_cons.mpr ⟨tb_t5 (List.mem_of_getElem? (i := 77) (by decide +kernel)), List.forall_mem_cons.mpr ⟨tb_t5 (List.mem_of_getElem? (i := 79) (by decide +kernel)), List.forall_mem_cons.mpr ⟨tb_t5 (List.mem_of_getElem? (i := 81) (by decide +kernel)), fun _ h => by cases h⟩⟩⟩⟩⟩⟩⟩⟩⟩⟩⟩⟩⟩⟩⟩
theorem st_nm : ∀ q ∈ qNM, Cond.methodLinkNest q.1 q.2.1 q.2.2.1 q.2.2.2 ∈ lw_tbl := List.forall_mem_cons.mpr ⟨tb_t1 (List.mem_of_getElem? (i := 42) (by decide +kernel)), List.forall_mem_cons.mpr ⟨tb_t1 (List.mem_of_getElem? (i := 134) (by decide +kernel)), List.forall_mem_cons.mpr ⟨tb_t1 (List.mem_of_getElem? (i := 163) (by decide +kernel)), List.forall_mem_cons.mpr ⟨tb_t1 (List.mem_of_getElem? (i := 173) (by decide +kernel)), List.forall_mem_cons.mpr ⟨tb_t1 (List.mem_of_getElem? (i := 186) (by decide +kernel)), List.forall_mem_cons.mpr ⟨tb_t2 (List.mem_of_getElem? (i := 92) (by decide +kernel)), List.forall_mem_cons.mpr ⟨tb_t3 (List.mem_of_getElem? (i := 88) (by decide +kernel)), List.forall_mem_cons.mpr ⟨tb_t3 (List.mem_of_getElem? (i := 99) (by decide +kernel)), List.forall_mem_cons.mpr ⟨tb_t3 (List.mem_of_getElem? (i := 117) (by decide +kernel)), List.forall_mem_cons.mpr ⟨tb_t5 (List.mem_of_getElem? (i := 154) (by decide +kernel)), fun _ h => by cases h⟩⟩⟩⟩⟩⟩⟩⟩⟩⟩
theorem st_ce : ∀ q ∈ qE, Cond.castable q q ∈ lw_tbl := List.forall_mem_cons.mpr ⟨tb_t4 (List.mem_of_getElem? (i := 21) (by decide +kernel)), List.forall_mem_cons.mpr ⟨tb_t3 (List.mem_of_getElem? (i := 162) (by decide +kernel)), List.forall_mem_cons.mpr ⟨tb_t3 (List.mem_of_getElem? (i := 236) (by decide +kernel)), List.forall_mem_cons.mpr ⟨tb_t4 (List.mem_of_getElem? (i := 161) (by decide +kernel)), fun _ h => by cases h⟩⟩⟩⟩
theorem st_cn : ∀ q ∈ qE, ∀ q2 ∈ qE, q ≠ q2 → Cond.not (.castable q q2) ∈ FL := List.forall_mem_cons.mpr ⟨List.forall_mem_cons.mpr ⟨fun h => absurd rfl h, List.forall_mem_cons.mpr ⟨fun _ => fl_mem 228 (by decide +kernel), List.forall_mem_cons.mpr ⟨fun _ => fl_mem 245 (by decide +kernel), List.forall_mem_cons.mpr ⟨fun _ => fl_mem 278 (by decide +kernel), fun _ h => by cases h⟩⟩⟩⟩, List.forall_mem_cons.mpr ⟨List.forall_mem_cons.mpr ⟨fun _ => fl_mem 261 (by decide +kernel), List.forall_mem_cons.mpr ⟨fun h => absurd rfl h, List.forall_mem_cons.mpr ⟨fun _ => fl_mem 244 (by decide +kernel), List.forall_mem_cons.mpr ⟨fun _ => fl_mem 276 (by decide +kernel), fun _ h => by cases h⟩⟩⟩⟩, List.forall_mem_cons.mpr ⟨List.forall_mem_cons.mpr ⟨fun _ => fl_mem 262 (by decide +kernel), List.forall_mem_cons.mpr ⟨fun _ => fl_mem 227 (by decide +kernel), List.forall_mem_cons.mpr ⟨fun h => absurd rfl h, List.forall_mem_cons.mpr ⟨fun _ => fl_mem 277 (by decide +kernel), fun _ h => by cases h⟩⟩⟩⟩, List.forall_mem_cons.mpr ⟨List.forall_mem_cons.mpr ⟨fun _ => fl_mem 263 (by decide +kernel), List.forall_mem_cons.mpr ⟨fun _ => fl_mem 229 (by decide +kernel), List.forall_mem_cons.mpr ⟨fun _ => fl_mem 246 (by decide +kernel), List.forall_mem_cons.mpr ⟨fun h => absurd rfl h, fun _ h => by cases h⟩⟩⟩⟩, fun _ h => by cases h⟩⟩⟩⟩
theorem st_xd : ∀ q ∈ xD, Cond.declares q ∈ lw_tbl := List.forall_mem_cons.mpr ⟨tb_t3 (List.mem_of_getElem? (i := 164) (by decide +kernel)), List.forall_mem_cons.mpr ⟨tb_t3 (List.mem_of_getElem? (i := 166) (by decide +kernel)), List.forall_mem_cons.mpr ⟨tb_t3 (List.mem_of_getElem? (i := 168) (by decide +kernel)), fun _ h => by cases h⟩⟩⟩
theorem st_A {s : State} : ∀ a : Nat, a < s.heap.size → ¬ (fun q : Nat => s.heap.size ≤ q) a := fun _ h => Nat.not_le.mpr h
theorem st_GP (hts : ∀ w ∈ lw_tbl, w.before args s = true) (hfl : ∀ w ∈ FL, w.before args s = true) : ∃ (D : va_G) (t : Nat → ClassId), GP D t s.heap.size s := by
  obtain ⟨D, t, hK⟩ := st_K hts
  refine ⟨D, t, hK, vx_Zqof (hts _ (tb_t3 (List.mem_of_getElem? (i := 187) (by decide +kernel)))) (hts _ (tb_t1 (List.mem_of_getElem? (i := 19) (by decide +kernel)))) (hfl _ (fl_mem 9 (by decide +kernel))) st_A, vx_Zqof (hts _ (tb_t3 (List.mem_of_getElem? (i := 189) (by decide +kernel)))) (hts _ (tb_t1 (List.mem_of_getElem? (i := 19) (by decide +kernel)))) (hfl _ (fl_mem 10 (by decide +kernel))) st_A, fun q hq => ?_, fun q hq => va_Nw.of rfl (hts _ (st_nf q hq)), fun q hq => va_Nw.of rfl (hts _ (st_nm q hq)), fun q hq => va_Nw.of rfl (hts _ (st_ce q hq)), fun q hq q2 hq2 hn => va_Nc.of (hfl _ (st_cn q hq q2 hq2 hn))⟩
  obtain ⟨a, c, cA, kA, q1, -⟩ := Cond.exactly_spec (args := args) (first := s) (o := none) (s := s) (idx := []) (hfl _ (st_se q hq))
  exact ⟨a, vk_R.of (hts _ (st_sr q hq)) q1⟩
theorem st_XK (hts : ∀ w ∈ lw_tbl, w.before args s = true) : XK s :=
  ⟨⟨va_Nw.of rfl (hts _ (tb_t2 (List.mem_of_getElem? (i := 166) (by decide +kernel)))), va_AO.of (hts _ (tb_t1 (List.mem_of_getElem? (i := 139) (by decide +kernel)))), va_AO.of (hts _ (tb_t1 (List.mem_of_getElem? (i := 141) (by decide +kernel)))), va_AO.of (hts _ (tb_t1 (List.mem_of_getElem? (i := 162) (by decide +kernel))))⟩, fun q hq => va_Nw.of rfl (hts _ (st_xd q hq))⟩
theorem st_DigitOnes_at : ∀ j : Nat, j < 100 → FL[14 + j]? = some (Cond.eq (.elem (.static "java/lang/Integer" "DigitOnes" "[B") (.int (Int32.ofNat j))) (.int (Int32.ofNat (48 + j % 10)))) := by decide +kernel
theorem st_DigitOnes (hts : ∀ w ∈ lw_tbl, w.before args s = true) (hfl : ∀ w ∈ FL, w.before args s = true) : ∃ t, va_Z "java/lang/Integer" "DigitOnes" "[B" (.ref t) (fun q => s.heap.size ≤ q) s s.heap ∧ va_T .byte t 100 (fun j => .int (Int32.ofNat (48 + j % 10))) (fun q => s.heap.size ≤ q) s s.heap := by
  obtain ⟨t, ht, hT⟩ := va_Tof (args := args) (s := s) (tm := (.static "java/lang/Integer" "DigitOnes" "[B")) (ty := .byte) (N := 100) (f := fun j => .int (Int32.ofNat (48 + j % 10))) (A := fun q => s.heap.size ≤ q) (by decide) (hfl _ (fl_mem 12 (by decide +kernel))) (va_eqt (hfl _ (fl_mem 13 (by decide +kernel)))) (fun j hj => va_eqt (hfl _ (fl_mem _ (st_DigitOnes_at j hj)))) st_A
  exact ⟨t, va_Zof (hts _ (tb_t6 (List.mem_of_getElem? (i := 98) (by decide +kernel)))) (hts _ (tb_t1 (List.mem_of_getElem? (i := 30) (by decide +kernel)))) ht st_A, hT⟩
theorem st_DigitTens_at : ∀ j : Nat, j < 100 → FL[117 + j]? = some (Cond.eq (.elem (.static "java/lang/Integer" "DigitTens" "[B") (.int (Int32.ofNat j))) (.int (Int32.ofNat (48 + j / 10)))) := by decide +kernel
theorem st_DigitTens (hts : ∀ w ∈ lw_tbl, w.before args s = true) (hfl : ∀ w ∈ FL, w.before args s = true) : ∃ t, va_Z "java/lang/Integer" "DigitTens" "[B" (.ref t) (fun q => s.heap.size ≤ q) s s.heap ∧ va_T .byte t 100 (fun j => .int (Int32.ofNat (48 + j / 10))) (fun q => s.heap.size ≤ q) s s.heap := by
  obtain ⟨t, ht, hT⟩ := va_Tof (args := args) (s := s) (tm := (.static "java/lang/Integer" "DigitTens" "[B")) (ty := .byte) (N := 100) (f := fun j => .int (Int32.ofNat (48 + j / 10))) (A := fun q => s.heap.size ≤ q) (by decide) (hfl _ (fl_mem 115 (by decide +kernel))) (va_eqt (hfl _ (fl_mem 116 (by decide +kernel)))) (fun j hj => va_eqt (hfl _ (fl_mem _ (st_DigitTens_at j hj)))) st_A
  exact ⟨t, va_Zof (hts _ (tb_t6 (List.mem_of_getElem? (i := 100) (by decide +kernel)))) (hts _ (tb_t1 (List.mem_of_getElem? (i := 30) (by decide +kernel)))) ht st_A, hT⟩
theorem st_sel {y z : MethodName} {C : String} (hy : y.cls ≠ "java/lang/invoke/MethodHandle" ∧ y.cls ≠ "java/lang/invoke/VarHandle") (hs : (Cond.selects C z z).before args s = true) (hz : z.cls = y.cls) (hpriv : (Cond.privateMethod y).before args s = true) (hinst : (Cond.instanceMethod y).before args s = true) : (Cond.selects C y y).before args s = true := by
  obtain ⟨c, r, m, hc, hf, hm, hsel0, k, hk, hni⟩ := Cond.selects_spec (args := args) (first := s) (o := none) (s := s) (idx := []) hs
  obtain ⟨mk, methM, hnamed, hmethM, -, -⟩ := Cond.instanceMethod_spec hinst
  have hfound : s.methodFound? y.cls y.name y.desc = some mk := State.methodFound?_of_named hnamed hy
  have hcls : mk.cls = m.cls := Option.some.inj ((findClass_of_methodNamed hnamed).symm.trans (by rw [← hz]; exact findClass_of_methodNamed hm))
  have hsel : selectMethod {} s.vm c mk = .method mk := selectMethod_private hmethM (Cond.privateMethod_at hpriv mk methM hnamed hmethM)
  simp only [Cond.before, Cond.holds, Cond.value, hc, hfound, hnamed, hsel, hcls, hk]
  simp; exact hni
theorem st_SK (hts : ∀ w ∈ lw_tbl, w.before args s = true) (hfl : ∀ w ∈ FL, w.before args s = true) : SK s.heap.size s :=
  ⟨va_Zof (hts _ (tb_t1 (List.mem_of_getElem? (i := 213) (by decide +kernel)))) (hts _ (tb_t1 (List.mem_of_getElem? (i := 10) (by decide +kernel)))) (va_eqt (hfl _ (fl_mem 4 (by decide +kernel)))) st_A, st_DigitOnes hts hfl, st_DigitTens hts hfl, va_Zqof (hts _ (tb_t2 (List.mem_of_getElem? (i := 21) (by decide +kernel)))) (hts _ (tb_t1 (List.mem_of_getElem? (i := 13) (by decide +kernel)))) (hfl _ (fl_mem 5 (by decide +kernel))) st_A, va_Nw.of rfl (st_sel (z := ⟨"java/lang/AbstractStringBuilder", "isLatin1", "()Z"⟩) (by decide) (hts _ (tb_t6 (List.mem_of_getElem? (i := 32) (by decide +kernel)))) rfl (hts _ (tb_t6 (List.mem_of_getElem? (i := 5) (by decide +kernel)))) (hts _ (tb_t6 (List.mem_of_getElem? (i := 6) (by decide +kernel)))))⟩
theorem st_67_at : ∀ j : Nat, j < 54 → FL[341 + j]? = some (Cond.eq (.elem (.field (.string RX8 67) "java/lang/String" "value" "[B") (.int (Int32.ofNat j))) (.int (TXF.getD j 0))) := by decide +kernel
theorem st_LK (hts : ∀ w ∈ lw_tbl, w.before args s = true) (hfl : ∀ w ∈ FL, w.before args s = true) : ∃ a av, LK s.heap.size a av s := by
  have hex : (Cond.exactly (.string RX8 67) "java/lang/String").before args s = true := hfl _ (fl_mem 337 (by decide +kernel))
  obtain ⟨a, c, cA, kA, q1, -⟩ := Cond.exactly_spec (args := args) (first := s) (o := none) (s := s) (idx := []) hex
  obtain ⟨av, hav, hT⟩ := va_Tof (args := args) (s := s) (tm := (.field (.string RX8 67) "java/lang/String" "value" "[B")) (ty := .byte) (N := 54) (f := fun j => .int (TXF.getD j 0)) (A := fun q => s.heap.size ≤ q) (by decide) (hfl _ (fl_mem 339 (by decide +kernel))) (va_eqt (hfl _ (fl_mem 340 (by decide +kernel)))) (fun j hj => va_eqt (hfl _ (fl_mem _ (st_67_at j hj)))) st_A
  exact ⟨a, av, vk_R.of (hts _ (tb_t1 (List.mem_of_getElem? (i := 236) (by decide +kernel)))) q1, va_Oof hex q1 st_A, vk_OFof q1 (va_eqt (hfl _ (fl_mem 338 (by decide +kernel)))) st_A, vk_OFof q1 hav st_A, hT⟩
end ST
