/-! constructors: Object's own, final fields put into an object under construction -/
theorem oi_inst : Cond.instanceMethod Lib.objectInit ∈ TB := tb_1 38 (by decide +kernel) (by decide +kernel)
theorem oi_cd : Cond.code Lib.objectInit ⟨#[0xb1]⟩ 1 none ∈ TB := tb_1 39 (by decide +kernel) (by decide +kernel)
theorem oi_X0 : Cond.methodLink RX0 3 Lib.objectInit ∈ TB := tb_2 147 (by decide +kernel) (by decide +kernel)
theorem oi_X1 : Cond.methodLink RX1 1 Lib.objectInit ∈ TB := tb_5 69 (by decide +kernel) (by decide +kernel)
theorem oi_X2 : Cond.methodLink RX2 3 Lib.objectInit ∈ TB := tb_1 176 (by decide +kernel) (by decide +kernel)
theorem oi_X3 : Cond.methodLink RX3 3 Lib.objectInit ∈ TB := tb_1 160 (by decide +kernel) (by decide +kernel)
theorem oi_X4 : Cond.methodLink RX4 3 Lib.objectInit ∈ TB := tb_1 65 (by decide +kernel) (by decide +kernel)
theorem oi_X5 : Cond.methodLink RX5 3 Lib.objectInit ∈ TB := tb_1 189 (by decide +kernel) (by decide +kernel)
theorem oi_X6 : Cond.methodLink RX6 3 Lib.objectInit ∈ TB := tb_1 137 (by decide +kernel) (by decide +kernel)
theorem oi_X7 : Cond.methodLink RX7 3 Lib.objectInit ∈ TB := tb_1 45 (by decide +kernel) (by decide +kernel)
theorem oi_X8 : Cond.methodLink RX8 1 Lib.objectInit ∈ TB := tb_1 37 (by decide +kernel) (by decide +kernel)
theorem oi_X9 : Cond.methodLink RX9 1 Lib.objectInit ∈ TB := tb_7 69 (by decide +kernel) (by decide +kernel)
theorem va_cm {α : Type} {f : Nat → α} {i j : Nat} {x y : α} (h : i ≠ j) : va_up (va_up f i x) j y = va_up (va_up f j y) i x := by
  funext k
  by_cases q : k = j
  · rw [q, va_up_self, va_up_ne _ _ (Ne.symm h), va_up_self]
  · rw [va_up_ne _ _ q]
    by_cases q2 : k = i
    · rw [q2, va_up_self, va_up_self]
    · rw [va_up_ne _ _ q2, va_up_ne _ _ q2, va_up_ne _ _ q]
theorem rdC_rep {q : Nat → Int32} {g : Bool} {A : Nat → Int32} {B : Nat → Nat → Int32} (h : rdC q g A B) (hp : pWB (rowQ q) g = true) : (A 15).toInt = reps (rowQ q) := by
  have p := h.2.2.2.2.2.2.1
  by_cases c : q 19 = 2
  · have e : rv (rowQ q) 19 = 2 := (rowQ_v (by omega)).trans (congrArg Int32.toInt c)
    unfold reps
    rw [if_pos e, p.1 c, rowQ_v (by omega)]
    rfl
  · exact (p.2 c).2 hp
section Q5
variable {p : Program} {l : Launch} {e : Env} {R : Room} {s : State} {m : MethodId} {args : Array Value} {below : List Frame} {meth : Method} {c : Code} {H : Heap} {locs : List Loc} {cells slots : Nat} {Q : State → Prop}
variable {own : String} {cc : ByteArray} {mL : Nat} {r : Option FieldType} {D : va_G} {t : Nat → ClassId} {b n : Nat} {σ S : qM} {pc : Nat} {ls : Array Slot} {rest : List Value} {A : Nat → Int32} {B : Nat → Nat → Int32} {P : Nat → Nat → Option Nat}
theorem q_obj (X : qX p s args m meth c own cc mL r D t b) {idx a : Nat} (hl : Cond.methodLink own idx Lib.objectInit ∈ TB) (hsz : ls.size = mL) (hR : 1 ≤ R.frames ∧ 20 ≤ R.locals) (hrm : (rest.map fun v => v.category).sum ≤ 8) (hdg : decode cc pc = .ok (.invokespecial idx, 3)) (kk : W p l e R s m args below meth c H locs cells slots Q (F0 m (pc + 3) ls rest)) : W p l e R s m args below meth c H locs cells slots Q (F0 m pc ls (.ref a :: rest)) :=
  W.objInit X.1 X.2.1 X.2.2.2.1 (X.2.2.1 _ hl) (X.2.2.1 _ oi_inst) (X.2.2.1 _ oi_cd) rfl (hsz.trans X.2.2.2.2.1.symm) rfl hdg hR.1 (by show 2 * 0 + _ + 12 ≤ _; have := hR.2; omega) kk
theorem ko_put (X : qX p s args m meth c own cc mL r D t b) {q ci : Nat} {fs : List Value} (w : qW D b n (cS t b (va_up S q (some (.inr (ci, fs)))) A B P) s H locs) (hq : 41 < q) {C : String} {T : u_T} {N index : Nat} (hin : ∀ z ∈ u_ws C T N, z ∈ TB) (ty0 : Nat → FieldType) (hty : ∀ k, k < N → parseFieldDescriptor (T k).2.2.1 = some (ty0 k)) (hnm : ∀ a, a < N → ∀ b, b < N → a ≠ b → (T a).2.1 ≠ (T b).2.1) (hc : vwCl[ci]? = some (C, T, N)) (j : Nat) (hj : j < N) (hl : Cond.fieldLink own index (T j).1 (T j).2.1 (T j).2.2.1 ∈ TB) (hfin : (T j).2.2.2 = true) (hin2 : meth.name = "<init>") (hdecl : (T j).1 = own) {v : Value} (hn : narrow (ty0 j) v = v) (hfit : fits (ty0 j) v = true) (hlen : j < fs.length) (hdg : decode cc pc = .ok (.putfield index, 3))
    (kk : ∀ (H1 : Heap) (locs1 : List Loc), qW D b n (cS t b (va_up S q (some (.inr (ci, fs.set j v)))) A B P) s H1 locs1 → W p l e R s m args below meth c H1 locs1 cells slots Q (F0 m (pc + 3) ls rest)) : W p l e R s m args below meth c H locs cells slots Q (F0 m pc ls (v :: .ref (b + q) :: rest)) :=
  q_putF X w hin ty0 hty hnm hc j hj hl hfin hin2 hdecl (k := q) ((cS_off hq).trans (va_up_self _ _ _)) hn hfit hlen hdg (fun H1 l1 w1 => kk H1 l1 (by rw [cS_up hq, uu] at w1; exact w1))
end Q5

set_option maxHeartbeats 2000000 in
set_option maxRecDepth 100000 in
theorem c_X0_init (l : Launch) (D : va_G) (t : Nat → ClassId) (b n : Nat) (σ0 : qM) (A : Nat → Int32) (B : Nat → Nat → Int32) (P : Nat → Nat → Option Nat) (qr : Nat → Int32) (g : Bool) (q : Nat) (h_1 : rdC qr g A B) (h_2 : okRow (rowQ qr)) (h_3 : pWB (rowQ qr) g = true) (hq : 41 < q) (h_5 : σ0 q = some (.inr (4, [.null, .int 0, .int 0, .int 0, .int 0, .int 0, .int 0, .int 0, .null, .int 0, .int 0, .int 0, .int 0, .int 0, .int 0]))) : qVK l yX0_init cX0_init 2 4 2 1015 D t b n (cS t b σ0 A B P) [.ref (b + q), .ref (b + 3)] (fun n1 σ1 => n1 = n + 2 ∧ ∃ (K fl fc : Nat → Int32), σ1 = cS t b (va_up (va_up (va_up σ0 n (some (.inl (t 0, (rv (rowQ qr) 0).toNat, .inl fl)))) (n + 1) (some (.inl (t 0, (reps (rowQ qr)).toNat + 1, .inl fc)))) q (some (.inr (4, kF b n (n + 1) K)))) A B P ∧ CalK (rowQ qr) K fl fc) := by
  refine qVK.of (by decide +kernel) (Nat.le_of_ble_eq_true rfl) (fun p e s m args below meth c X hE w hin ls hl => ?_)
  have hin := hin rfl
  have hx := X.1
  have hb := X.2.1
  have hl : lv_has ls 2 [(0, .ref (b + q)), (1, .ref (b + 3))] := hl
  have hqn : q < n := w.1.lt ((cS_off hq).trans h_5)
  have w : qW D b n (cS t b (va_up σ0 q (some (.inr (4, [.null, .int 0, .int 0, .int 0, .int 0, .int 0, .int 0, .int 0, .null, .int 0, .int 0, .int 0, .int 0, .int 0, .int 0])))) A B P) s s.heap [] := by rw [← h_5, va_id]; exact w
  have hpw := pWB_iff.mp h_3
  have hrb := reps_bd h_2 hpw.2.2.2.2.2.1
  have hrep := rdC_rep h_1 h_3
  have h60 : (A 6).toInt = rv (rowQ qr) 0 := by rw [h_1.1.2, rowQ_v (by omega)]; rfl
  have hm := h_2.months
  obtain ⟨⟨hq0, a6⟩, b1, ⟨a7, a7l, a7u⟩, ⟨a8, a9, a10, a11⟩, ⟨a12, a14⟩, ⟨a13, d1, d2⟩, ⟨p1, p2⟩, ⟨a16, a17, a18⟩, a5⟩ := id h_1
  have hV : ∀ k : Nat, k < 33 → rv (rowQ qr) k = (qr k).toInt := fun k hk => rowQ_v (by omega)
  have hk7 : (A 7).toInt = sumL (rowQ qr) (rv (rowQ qr) 0).toNat := by rw [a7, ← h60, a6]
  have hk11 : (A 11).toInt = extD (rowQ qr) := by
    have e16 : rv (rowQ qr) 16 = (qr 16).toInt := hV 16 (by decide)
    have e18 : rv (rowQ qr) 18 = (qr 18).toInt := hV 18 (by decide)
    unfold extD
    rw [a11, e16, e18]
    by_cases u : qr 16 = 0
    · rw [if_pos u, if_pos (show (qr 16).toInt = 0 from congrArg Int32.toInt u)]; rfl
    · rw [if_neg u, if_neg (show ¬ (qr 16).toInt = 0 from fun z => u (i_toI (c := 0) z))]
      by_cases u2 : qr 16 = 1
      · rw [if_pos u2, if_pos (show (qr 16).toInt = 1 from congrArg Int32.toInt u2)]; rfl
      · rw [if_neg u2, if_neg (show ¬ (qr 16).toInt = 1 from fun z => u2 (i_toI (c := 1) z))]
  have hk15 : (A 8).toInt = rv (rowQ qr) 15 := by rw [a8]; exact (hV 15 (by decide)).symm
  have hf1 : rv (rowQ qr) 15 = fst (rowQ qr) 0 + ylen (rowQ qr) 0 := fst_1.symm.trans (fst_succ _ 0)
  have hf0 := fst_bd h_2 (y := 0) (by omega) (by omega)
  refine lv_aload_n hx hb dX0_init_0 rfl (lv_at hl 0 rfl) ?_
  refine q_obj X oi_X0 hl.1 ⟨Nat.le_of_ble_eq_true rfl, Nat.le_of_ble_eq_true rfl⟩ (Nat.le_of_ble_eq_true rfl) dX0_init_1 ?_
  refine lv_aload_n hx hb dX0_init_4 rfl (lv_at hl 0 rfl) ?_
  refine lv_aload_n hx hb dX0_init_5 rfl (lv_at hl 1 rfl) ?_
  refine q_cAVK X hE w (c_X4_copyOfLengths l D t b n _ A B P (by omega) (by omega)) v_X0_9 (k := 3) rfl rfl rfl ⟨Nat.le_of_ble_eq_true rfl, Nat.le_of_ble_eq_true rfl⟩ rfl hl.1 (Nat.le_of_ble_eq_true rfl) dX0_init_6 ⟨Nat.le_of_ble_eq_true rfl, Nat.le_of_ble_eq_true rfl⟩ (fun o_6 n_6 σ_6 H locs z_6 w => ?_)
  obtain ⟨rfl, rfl, fl, rfl, hfl⟩ := z_6
  rw [va_cm (Nat.ne_of_lt hqn), h60] at w
  refine ko_put (v := .ref (b + n)) X w hq inX0 tyX0 tyX0_ok nmX0 rfl 0 (by decide) fl_X0_15 rfl hin rfl rfl rfl (Nat.le_of_ble_eq_true rfl) dX0_init_9 (fun H locs w => ?_)
  refine lv_aload_n hx hb dX0_init_12 rfl (lv_at hl 0 rfl) ?_
  refine lv_aload_n hx hb dX0_init_13 rfl (lv_at hl 1 rfl) ?_
  refine q_getN X w inX4 rfl 6 (by decide) (List.mem_of_getElem? (i := 0) rfl) (k := 3) rfl rfl dX0_init_14 ?_
  refine ko_put (v := .int (A 7)) X w hq inX0 tyX0 tyX0_ok nmX0 rfl 1 (by decide) fl_X0_25 rfl hin rfl rfl rfl (Nat.le_of_ble_eq_true rfl) dX0_init_17 (fun H locs w => ?_)
  refine lv_aload_n hx hb dX0_init_20 rfl (lv_at hl 0 rfl) ?_
  refine lv_aload_n hx hb dX0_init_21 rfl (lv_at hl 1 rfl) ?_
  refine q_getN X w inX4 rfl 7 (by decide) (List.mem_of_getElem? (i := 1) rfl) (k := 3) rfl rfl dX0_init_22 ?_
  refine ko_put (v := .int (A 8)) X w hq inX0 tyX0 tyX0_ok nmX0 rfl 2 (by decide) fl_X0_29 rfl hin rfl rfl rfl (Nat.le_of_ble_eq_true rfl) dX0_init_25 (fun H locs w => ?_)
  refine lv_aload_n hx hb dX0_init_28 rfl (lv_at hl 0 rfl) ?_
  refine lv_aload_n hx hb dX0_init_29 rfl (lv_at hl 1 rfl) ?_
  refine q_getN X w inX4 rfl 8 (by decide) (List.mem_of_getElem? (i := 2) rfl) (k := 3) rfl rfl dX0_init_30 ?_
  refine ko_put (v := .int (A 9)) X w hq inX0 tyX0 tyX0_ok nmX0 rfl 3 (by decide) fl_X0_33 rfl hin rfl rfl rfl (Nat.le_of_ble_eq_true rfl) dX0_init_33 (fun H locs w => ?_)
  refine lv_aload_n hx hb dX0_init_36 rfl (lv_at hl 0 rfl) ?_
  refine lv_aload_n hx hb dX0_init_37 rfl (lv_at hl 1 rfl) ?_
  refine q_getN X w inX4 rfl 9 (by decide) (List.mem_of_getElem? (i := 3) rfl) (k := 3) rfl rfl dX0_init_38 ?_
  refine ko_put (v := .int (A 10)) X w hq inX0 tyX0 tyX0_ok nmX0 rfl 4 (by decide) fl_X0_37 rfl hin rfl rfl rfl (Nat.le_of_ble_eq_true rfl) dX0_init_41 (fun H locs w => ?_)
  refine lv_aload_n hx hb dX0_init_44 rfl (lv_at hl 0 rfl) ?_
  refine lv_aload_n hx hb dX0_init_45 rfl (lv_at hl 1 rfl) ?_
  refine q_getN X w inX4 rfl 10 (by decide) (List.mem_of_getElem? (i := 4) rfl) (k := 3) rfl rfl dX0_init_46 ?_
  refine ko_put (v := .int (A 11)) X w hq inX0 tyX0 tyX0_ok nmX0 rfl 5 (by decide) fl_X0_41 rfl hin rfl rfl rfl (Nat.le_of_ble_eq_true rfl) dX0_init_49 (fun H locs w => ?_)
  refine lv_aload_n hx hb dX0_init_52 rfl (lv_at hl 0 rfl) ?_
  refine lv_aload_n hx hb dX0_init_53 rfl (lv_at hl 1 rfl) ?_
  refine q_getN X w inX4 rfl 11 (by decide) (List.mem_of_getElem? (i := 5) rfl) (k := 3) rfl rfl dX0_init_54 ?_
  refine ko_put (v := .int (A 12)) X w hq inX0 tyX0 tyX0_ok nmX0 rfl 6 (by decide) fl_X0_45 rfl hin rfl rfl rfl (Nat.le_of_ble_eq_true rfl) dX0_init_57 (fun H locs w => ?_)
  refine lv_aload_n hx hb dX0_init_60 rfl (lv_at hl 0 rfl) ?_
  refine lv_aload_n hx hb dX0_init_61 rfl (lv_at hl 1 rfl) ?_
  refine q_cAV X w (c_X4_countLeaps l D t b (n + 1) _ A B P qr g h_1 h_2 hrep hrb (by omega)) v_X0_46 (k := 3) rfl rfl rfl ⟨Nat.le_of_ble_eq_true rfl, Nat.le_of_ble_eq_true rfl⟩ rfl hl.1 (Nat.le_of_ble_eq_true rfl) dX0_init_62 ⟨Nat.le_of_ble_eq_true rfl, Nat.le_of_ble_eq_true rfl⟩ (fun o_62 n_62 σ_62 H locs z_62 w => ?_)
  obtain ⟨rfl, rfl, fc, rfl, hfc⟩ := z_62
  rw [va_cm (show q ≠ n + 1 by omega)] at w
  refine ko_put (v := .ref (b + (n + 1))) X w hq inX0 tyX0 tyX0_ok nmX0 rfl 8 (by decide) fl_X0_49 rfl hin rfl rfl rfl (Nat.le_of_ble_eq_true rfl) dX0_init_65 (fun H locs w => ?_)
  refine lv_aload_n hx hb dX0_init_68 rfl (lv_at hl 0 rfl) ?_
  refine lv_aload_n hx hb dX0_init_69 rfl (lv_at hl 0 rfl) ?_
  refine q_get X w inX0 rfl 8 (by decide) fl_X0_49 (k := q) ((cS_off hq).trans (va_up_self _ _ _)) rfl dX0_init_70 ?_
  refine q_alen X w 0 rfl (k := n + 1) ((cS_off (by omega)).trans ((va_up_ne _ _ (by omega)).trans (va_up_self _ _ _))) dX0_init_73 ?_
  refine lv_iconst (v := 1) hx hb dX0_init_74 (by decide) ?_
  refine lv_isub hx hb dX0_init_75 ?_
  refine lv_topi (fun x_75 e_75 => ?_)
  have p_75 : x_75.toInt = ((reps (rowQ qr) + 1) - 1) := by rw [e_75]; exact t_sub ((ofN_t (by omega)).trans (by omega)) (show (1 : Int32).toInt = 1 from rfl) (by omega) (by omega)
  refine ko_put (v := .int x_75) X w hq inX0 tyX0 tyX0_ok nmX0 rfl 7 (by decide) fl_X0_52 rfl hin rfl rfl rfl (Nat.le_of_ble_eq_true rfl) dX0_init_76 (fun H locs w => ?_)
  refine lv_aload_n hx hb dX0_init_79 rfl (lv_at hl 0 rfl) ?_
  refine lv_aload_n hx hb dX0_init_80 rfl (lv_at hl 1 rfl) ?_
  refine q_getN X w inX4 rfl 15 (by decide) (List.mem_of_getElem? (i := 6) rfl) (k := 3) rfl rfl dX0_init_81 ?_
  refine ko_put (v := .int (A 16)) X w hq inX0 tyX0 tyX0_ok nmX0 rfl 9 (by decide) fl_X0_58 rfl hin rfl rfl rfl (Nat.le_of_ble_eq_true rfl) dX0_init_84 (fun H locs w => ?_)
  refine lv_aload_n hx hb dX0_init_87 rfl (lv_at hl 0 rfl) ?_
  refine lv_aload_n hx hb dX0_init_88 rfl (lv_at hl 1 rfl) ?_
  refine q_getN X w inX4 rfl 16 (by decide) (List.mem_of_getElem? (i := 7) rfl) (k := 3) rfl rfl dX0_init_89 ?_
  refine ko_put (v := .int (A 17)) X w hq inX0 tyX0 tyX0_ok nmX0 rfl 10 (by decide) fl_X0_62 rfl hin rfl rfl rfl (Nat.le_of_ble_eq_true rfl) dX0_init_92 (fun H locs w => ?_)
  refine lv_aload_n hx hb dX0_init_95 rfl (lv_at hl 0 rfl) ?_
  refine lv_aload_n hx hb dX0_init_96 rfl (lv_at hl 1 rfl) ?_
  refine q_getN X w inX4 rfl 17 (by decide) (List.mem_of_getElem? (i := 8) rfl) (k := 3) rfl rfl dX0_init_97 ?_
  refine ko_put (v := .int (A 18)) X w hq inX0 tyX0 tyX0_ok nmX0 rfl 11 (by decide) fl_X0_66 rfl hin rfl rfl rfl (Nat.le_of_ble_eq_true rfl) dX0_init_100 (fun H locs w => ?_)
  refine lv_aload_n hx hb dX0_init_103 rfl (lv_at hl 0 rfl) ?_
  refine lv_aload_n hx hb dX0_init_104 rfl (lv_at hl 0 rfl) ?_
  refine q_get X w inX0 rfl 2 (by decide) fl_X0_29 (k := q) ((cS_off hq).trans (va_up_self _ _ _)) rfl dX0_init_105 ?_
  refine lv_aload_n hx hb dX0_init_108 rfl (lv_at hl 0 rfl) ?_
  refine lv_iconst (v := 0) hx hb dX0_init_109 (by decide) ?_
  have w : qW D b (n + 1 + 1) (cS t b (va_up (va_up (va_up σ0 n (some (.inl (t 0, (rv (rowQ qr) 0).toNat, .inl fl)))) (n + 1) (some (.inl (t 0, (reps (rowQ qr)).toNat + 1, .inl fc)))) q (some (.inr (4, kF b n (n + 1) (fun j => if j = 1 then (A 7) else if j = 2 then (A 8) else if j = 3 then (A 9) else if j = 4 then (A 10) else if j = 5 then (A 11) else if j = 6 then (A 12) else if j = 7 then x_75 else if j = 9 then (A 16) else if j = 10 then (A 17) else if j = 11 then (A 18) else 0))))) A B P) s H locs := w
  have hP_110 : CalW t b (cS t b (va_up (va_up (va_up σ0 n (some (.inl (t 0, (rv (rowQ qr) 0).toNat, .inl fl)))) (n + 1) (some (.inl (t 0, (reps (rowQ qr)).toNat + 1, .inl fc)))) q (some (.inr (4, kF b n (n + 1) (fun j => if j = 1 then (A 7) else if j = 2 then (A 8) else if j = 3 then (A 9) else if j = 4 then (A 10) else if j = 5 then (A 11) else if j = 6 then (A 12) else if j = 7 then x_75 else if j = 9 then (A 16) else if j = 10 then (A 17) else if j = 11 then (A 18) else 0))))) A B P) q n (n + 1) (fun j => if j = 1 then (A 7) else if j = 2 then (A 8) else if j = 3 then (A 9) else if j = 4 then (A 10) else if j = 5 then (A 11) else if j = 6 then (A 12) else if j = 7 then x_75 else if j = 9 then (A 16) else if j = 10 then (A 17) else if j = 11 then (A 18) else 0) fl fc (rowQ qr) := ⟨(cS_off hq).trans (va_up_self _ _ _), (cS_off (by omega)).trans ((va_up_ne _ _ (by omega)).trans ((va_up_ne _ _ (by omega)).trans (va_up_self _ _ _))), (cS_off (by omega)).trans ((va_up_ne _ _ (by omega)).trans (va_up_self _ _ _)), h_2, hpw.2.2.2.2.2.1, hk7, hk11, (p_75.trans (by omega)), hfc⟩
  refine q_cPV X w (c_X0_lengthOfYear_w l D t b (n + 1 + 1) _ q n (n + 1) _ fl fc (rowQ qr) hP_110 0 0 rfl) v_X0_67 (k := q) hP_110.1 rfl rfl ⟨Nat.le_of_ble_eq_true rfl, Nat.le_of_ble_eq_true rfl⟩ rfl hl.1 (Nat.le_of_ble_eq_true rfl) dX0_init_110 ⟨Nat.le_of_ble_eq_true rfl, Nat.le_of_ble_eq_true rfl⟩ (fun r_110 z_110 => ?_)
  have hyl := h_2.yl 0
  have he15 := h_2.e
  refine lv_isub hx hb dX0_init_113 ?_
  refine lv_topi (fun x_113 e_113 => ?_)
  have p_113 : x_113.toInt = ((rv (rowQ qr) 15) - (ylen (rowQ qr) 0)) := by rw [e_113]; exact t_sub hk15 z_110 (by omega) (by omega)
  refine ko_put (v := .int x_113) X w hq inX0 tyX0 tyX0_ok nmX0 rfl 12 (by decide) fl_X0_71 rfl hin rfl rfl rfl (Nat.le_of_ble_eq_true rfl) dX0_init_114 (fun H locs w => ?_)
  refine lv_aload_n hx hb dX0_init_117 rfl (lv_at hl 0 rfl) ?_
  refine lv_aload_n hx hb dX0_init_118 rfl (lv_at hl 0 rfl) ?_
  refine lv_sipush (v := (-2000)) hx hb dX0_init_119 (by decide) ?_
  have w : qW D b (n + 1 + 1) (cS t b (va_up (va_up (va_up σ0 n (some (.inl (t 0, (rv (rowQ qr) 0).toNat, .inl fl)))) (n + 1) (some (.inl (t 0, (reps (rowQ qr)).toNat + 1, .inl fc)))) q (some (.inr (4, kF b n (n + 1) (fun j => if j = 1 then (A 7) else if j = 2 then (A 8) else if j = 3 then (A 9) else if j = 4 then (A 10) else if j = 5 then (A 11) else if j = 6 then (A 12) else if j = 7 then x_75 else if j = 9 then (A 16) else if j = 10 then (A 17) else if j = 11 then (A 18) else if j = 12 then x_113 else 0))))) A B P) s H locs := w
  have hP_122 : CalW t b (cS t b (va_up (va_up (va_up σ0 n (some (.inl (t 0, (rv (rowQ qr) 0).toNat, .inl fl)))) (n + 1) (some (.inl (t 0, (reps (rowQ qr)).toNat + 1, .inl fc)))) q (some (.inr (4, kF b n (n + 1) (fun j => if j = 1 then (A 7) else if j = 2 then (A 8) else if j = 3 then (A 9) else if j = 4 then (A 10) else if j = 5 then (A 11) else if j = 6 then (A 12) else if j = 7 then x_75 else if j = 9 then (A 16) else if j = 10 then (A 17) else if j = 11 then (A 18) else if j = 12 then x_113 else 0))))) A B P) q n (n + 1) (fun j => if j = 1 then (A 7) else if j = 2 then (A 8) else if j = 3 then (A 9) else if j = 4 then (A 10) else if j = 5 then (A 11) else if j = 6 then (A 12) else if j = 7 then x_75 else if j = 9 then (A 16) else if j = 10 then (A 17) else if j = 11 then (A 18) else if j = 12 then x_113 else 0) fl fc (rowQ qr) := ⟨(cS_off hq).trans (va_up_self _ _ _), (cS_off (by omega)).trans ((va_up_ne _ _ (by omega)).trans ((va_up_ne _ _ (by omega)).trans (va_up_self _ _ _))), (cS_off (by omega)).trans ((va_up_ne _ _ (by omega)).trans (va_up_self _ _ _)), h_2, hpw.2.2.2.2.2.1, hk7, hk11, (p_75.trans (by omega)), hfc⟩
  refine q_cPV X w (c_X0_startOfYear_w l D t b (n + 1 + 1) _ q n (n + 1) _ fl fc (rowQ qr) hP_122 (-2000) (-2000) (show ((-2000) : Int32).toInt = (-2000) from rfl) (by omega) (by show x_113.toInt = _; rw [p_113]; omega)) v_X0_74 (k := q) hP_122.1 rfl rfl ⟨Nat.le_of_ble_eq_true rfl, Nat.le_of_ble_eq_true rfl⟩ rfl hl.1 (Nat.le_of_ble_eq_true rfl) dX0_init_122 ⟨Nat.le_of_ble_eq_true rfl, Nat.le_of_ble_eq_true rfl⟩ (fun r_122 z_122 => ?_)
  refine ko_put (v := .int r_122) X w hq inX0 tyX0 tyX0_ok nmX0 rfl 13 (by decide) fl_X0_77 rfl hin rfl rfl rfl (Nat.le_of_ble_eq_true rfl) dX0_init_125 (fun H locs w => ?_)
  refine lv_aload_n hx hb dX0_init_128 rfl (lv_at hl 0 rfl) ?_
  refine lv_aload_n hx hb dX0_init_129 rfl (lv_at hl 0 rfl) ?_
  refine lv_sipush (v := 2001) hx hb dX0_init_130 (by decide) ?_
  have w : qW D b (n + 1 + 1) (cS t b (va_up (va_up (va_up σ0 n (some (.inl (t 0, (rv (rowQ qr) 0).toNat, .inl fl)))) (n + 1) (some (.inl (t 0, (reps (rowQ qr)).toNat + 1, .inl fc)))) q (some (.inr (4, kF b n (n + 1) (fun j => if j = 1 then (A 7) else if j = 2 then (A 8) else if j = 3 then (A 9) else if j = 4 then (A 10) else if j = 5 then (A 11) else if j = 6 then (A 12) else if j = 7 then x_75 else if j = 9 then (A 16) else if j = 10 then (A 17) else if j = 11 then (A 18) else if j = 12 then x_113 else if j = 13 then r_122 else 0))))) A B P) s H locs := w
  have hP_133 : CalW t b (cS t b (va_up (va_up (va_up σ0 n (some (.inl (t 0, (rv (rowQ qr) 0).toNat, .inl fl)))) (n + 1) (some (.inl (t 0, (reps (rowQ qr)).toNat + 1, .inl fc)))) q (some (.inr (4, kF b n (n + 1) (fun j => if j = 1 then (A 7) else if j = 2 then (A 8) else if j = 3 then (A 9) else if j = 4 then (A 10) else if j = 5 then (A 11) else if j = 6 then (A 12) else if j = 7 then x_75 else if j = 9 then (A 16) else if j = 10 then (A 17) else if j = 11 then (A 18) else if j = 12 then x_113 else if j = 13 then r_122 else 0))))) A B P) q n (n + 1) (fun j => if j = 1 then (A 7) else if j = 2 then (A 8) else if j = 3 then (A 9) else if j = 4 then (A 10) else if j = 5 then (A 11) else if j = 6 then (A 12) else if j = 7 then x_75 else if j = 9 then (A 16) else if j = 10 then (A 17) else if j = 11 then (A 18) else if j = 12 then x_113 else if j = 13 then r_122 else 0) fl fc (rowQ qr) := ⟨(cS_off hq).trans (va_up_self _ _ _), (cS_off (by omega)).trans ((va_up_ne _ _ (by omega)).trans ((va_up_ne _ _ (by omega)).trans (va_up_self _ _ _))), (cS_off (by omega)).trans ((va_up_ne _ _ (by omega)).trans (va_up_self _ _ _)), h_2, hpw.2.2.2.2.2.1, hk7, hk11, (p_75.trans (by omega)), hfc⟩
  refine q_cPV X w (c_X0_startOfYear_w l D t b (n + 1 + 1) _ q n (n + 1) _ fl fc (rowQ qr) hP_133 2001 2001 (show (2001 : Int32).toInt = 2001 from rfl) (by omega) (by show x_113.toInt = _; rw [p_113]; omega)) v_X0_74 (k := q) hP_133.1 rfl rfl ⟨Nat.le_of_ble_eq_true rfl, Nat.le_of_ble_eq_true rfl⟩ rfl hl.1 (Nat.le_of_ble_eq_true rfl) dX0_init_133 ⟨Nat.le_of_ble_eq_true rfl, Nat.le_of_ble_eq_true rfl⟩ (fun r_133 z_133 => ?_)
  refine ko_put (v := .int r_133) X w hq inX0 tyX0 tyX0_ok nmX0 rfl 14 (by decide) fl_X0_80 rfl hin rfl rfl rfl (Nat.le_of_ble_eq_true rfl) dX0_init_136 (fun H locs w => ?_)
  exact q_vret (post := fun n1 σ1 => n1 = n + 2 ∧ ∃ (K fl fc : Nat → Int32), σ1 = cS t b (va_up (va_up (va_up σ0 n (some (.inl (t 0, (rv (rowQ qr) 0).toNat, .inl fl)))) (n + 1) (some (.inl (t 0, (reps (rowQ qr)).toNat + 1, .inl fc)))) q (some (.inr (4, kF b n (n + 1) K)))) A B P ∧ CalK (rowQ qr) K fl fc) X w dX0_init_139 ⟨rfl, (fun j => if j = 1 then (A 7) else if j = 2 then (A 8) else if j = 3 then (A 9) else if j = 4 then (A 10) else if j = 5 then (A 11) else if j = 6 then (A 12) else if j = 7 then x_75 else if j = 9 then (A 16) else if j = 10 then (A 17) else if j = 11 then (A 18) else if j = 12 then x_113 else if j = 13 then r_122 else if j = 14 then r_133 else 0), fl, fc, rfl, h_2, hpw.2.2.2.2.2.1, hk7, hk15, (by show (A 9).toInt = _; rw [a9]; exact (hV 16 (by decide)).symm), (fun y => by show (A 10).toInt = _; rw [a10 (fun z => y (by rw [show rv (rowQ qr) 16 = (qr 16).toInt from hV 16 (by decide), z]; rfl))]; exact (hV 17 (by decide)).symm), hk11, (by show (A 12).toInt = _; rw [a12]; exact (hV 19 (by decide)).symm), (p_75.trans (by omega)), (by show (A 16).toInt = _; rw [a16]; exact (hV 30 (by decide)).symm), (by show (A 17).toInt = _; rw [a17]; exact (hV 31 (by decide)).symm), (by show (A 18).toInt = _; rw [a18]; exact (hV 32 (by decide)).symm), (p_113.trans (by omega)), z_122, z_133, (fun k k0 k1 => by rw [hfl k.toNat (by omega), b1 k k0 (by rw [← a6]; omega), rowQ_v (by omega)]), hfc⟩
