/-! constructors: the heap is h0 ++ l, l begins with the new object -/
section XA
variable {sc : Nat × (Nat → Int32)} {d : Nat} {M M' : x_Mt} {pc : Nat} {ls st : List Value} {h0 l l1 h' : x_H} {r : Option Value}
theorem xa_at {i : Nat} {c : x_C} (hi : l[i]? = some c) : (h0 ++ l)[h0.length + i]? = some c := by
  rw [List.getElem?_append_right (Nat.le_add_right _ _), Nat.add_sub_cancel_left]
  exact hi
theorem xa_set (i : Nat) (c : x_C) : (h0 ++ l).set (h0.length + i) c = h0 ++ l.set i c := by
  rw [List.set_append_right _ _ (Nat.le_add_right _ _), Nat.add_sub_cancel_left]
theorem xa_k {i : Nat} {c : x_C} (hb : h0.length < 900000) (hi : l[i]? = some c) (hl : l.length < 1000) : h0.length + i < 1000000 := by
  have := (List.getElem?_eq_some_iff.mp hi).1
  omega
theorem xa_newa {n : Int32} {a : ArrayType} (t N : Nat) (hb : h0.length < 900000) (hl : l.length < 1000) (hd : decode M.2.1 pc = .ok (.newarray a, 2)) (ht : x_at t a) (hw1 : Cond.arrayClass (newarray.typeOf a) ∈ x_WS) (hn : ¬ n < 0) (hN : n.toNatClampNeg = N) (hb2 : N ≤ 100000)
    (K : x_R sc d M (pc + 2) ls (.ref (h0.length + l.length) :: st) (h0 ++ (l ++ [.inr (.inl (t, N, fun _ => 0))])) r h') : x_R sc d M pc ls (.int n :: st) (h0 ++ l) r h' := by
  refine xr_newa t N hd ht hw1 hn hN hb2 (by rw [List.length_append]; omega) ?_
  rw [List.length_append, List.append_assoc]
  exact K
theorem xa_newq {n : Int32} {idx : Nat} (C1 : String) (t N : Nat) (hb : h0.length < 900000) (hl : l.length < 1000) (hd : decode M.2.1 pc = .ok (.anewarray idx, 3)) (ht : x_ao t C1) (hw1 : Cond.classLink M.1.cls idx C1 ∈ x_WS) (hn : ¬ n < 0) (hN : n.toNatClampNeg = N) (hb2 : N ≤ 100000)
    (K : x_R sc d M (pc + 3) ls (.ref (h0.length + l.length) :: st) (h0 ++ (l ++ [.inr (.inr (t, N, fun _ => none))])) r h') : x_R sc d M pc ls (.int n :: st) (h0 ++ l) r h' := by
  refine xr_newq C1 t N hd ht hw1 hn hN hb2 (by rw [List.length_append]; omega) ?_
  rw [List.length_append, List.append_assoc]
  exact K
theorem xa_new {idx ci : Nat} {fs : List Value} (hb : h0.length < 900000) (hl : l.length < 1000) (hd : decode M.2.1 pc = .ok (.new idx, 3)) (hn : x_new M.1.cls idx ci fs)
    (K : x_R sc d M (pc + 3) ls (.ref (h0.length + l.length) :: st) (h0 ++ (l ++ [.inl (ci, fs)])) r h') : x_R sc d M pc ls st (h0 ++ l) r h' := by
  refine xr_new hd hn (by rw [List.length_append]; omega) ?_
  rw [List.length_append, List.append_assoc]
  exact K
theorem xa_putF {idx ci i j : Nat} {fs : List Value} {v : Value} {ty : FieldType} (hb : h0.length < 900000) (hl : l.length < 1000) (hd : decode M.2.1 pc = .ok (.putfield idx, 3)) (hf : x_fp M.1.cls idx ci j ty true) (hk : l[i]? = some (.inl (ci, fs))) (hi : M.1.name = "<init>") (hn : ∀ E, narrow ty (x_V E v) = x_V E v) (hfit : ∀ E, fits ty (x_V E v) = true) (hj : j < fs.length)
    (K : x_R sc d M (pc + 3) ls st (h0 ++ l.set i (.inl (ci, fs.set j v))) r h') : x_R sc d M pc ls (v :: .ref (h0.length + i) :: st) (h0 ++ l) r h' := by
  refine xr_putF j ty hd (xa_at hk) (xa_k hb hk hl) hi hf hn hfit hj ?_
  rw [xa_set]
  exact K
theorem xa_putf {idx ci i j : Nat} {fs : List Value} {v : Value} {ty : FieldType} (hb : h0.length < 900000) (hl : l.length < 1000) (hd : decode M.2.1 pc = .ok (.putfield idx, 3)) (hf : x_fp M.1.cls idx ci j ty false) (hk : l[i]? = some (.inl (ci, fs))) (hn : ∀ E, narrow ty (x_V E v) = x_V E v) (hfit : ∀ E, fits ty (x_V E v) = true) (hj : j < fs.length)
    (K : x_R sc d M (pc + 3) ls st (h0 ++ l.set i (.inl (ci, fs.set j v))) r h') : x_R sc d M pc ls (v :: .ref (h0.length + i) :: st) (h0 ++ l) r h' := by
  refine xr_putf j ty hd (xa_at hk) (xa_k hb hk hl) hf hn hfit hj ?_
  rw [xa_set]
  exact K
theorem xa_getf {idx ci i j : Nat} {fs : List Value} (v : Value) (hb : h0.length < 900000) (hl : l.length < 1000) (hd : decode M.2.1 pc = .ok (.getfield idx, 3)) (hf : x_fl M.1.cls idx ci j) (hk : l[i]? = some (.inl (ci, fs))) (hv : fs[j]? = some v)
    (K : x_R sc d M (pc + 3) ls (v :: st) (h0 ++ l) r h') : x_R sc d M pc ls (.ref (h0.length + i) :: st) (h0 ++ l) r h' := xr_getf j v hd (xa_at hk) (xa_k hb hk hl) hf hv K
theorem xa_aast {i i2 t n ci : Nat} {f : Nat → Option Nat} {x : Int32} {vs : List Value} (q : vw_C) (hb : h0.length < 900000) (hl : l.length < 1000) (hd : decode M.2.1 pc = .ok (.aastore, 1)) (hk : l[i]? = some (.inr (.inr (t, n, f)))) (hk2 : l[i2]? = some (.inl (ci, vs))) (hc : vwCl[ci]? = some q) (hc2 : ∀ E : x_Env, (x_Ty E)[t]? = some (E.2.1 t, .object q.1)) (hi : vp_in x n)
    (K : x_R sc d M (pc + 1) ls st (h0 ++ l.set i (.inr (.inr (t, n, va_up f x.toNatClampNeg (some (h0.length + i2)))))) r h') : x_R sc d M pc ls (.ref (h0.length + i2) :: .int x :: .ref (h0.length + i) :: st) (h0 ++ l) r h' := by
  refine xr_aast hd (xa_at hk) (xa_k hb hk hl) (xa_at hk2) (xa_k hb hk2 hl) ⟨q, hc, hc2⟩ hi ?_
  rw [xa_set]
  exact K
theorem xa_iast {i n : Nat} {f : Nat → Int32} {j x : Int32} (hb : h0.length < 900000) (hl : l.length < 1000) (hd : decode M.2.1 pc = .ok (.iastore, 1)) (hk : l[i]? = some (.inr (.inl (0, n, f)))) (hi : vp_in j n)
    (K : x_R sc d M (pc + 1) ls st (h0 ++ l.set i (.inr (.inl (0, n, upd f j.toNatClampNeg x)))) r h') : x_R sc d M pc ls (.int x :: .int j :: .ref (h0.length + i) :: st) (h0 ++ l) r h' := by
  refine xr_iast hd (xa_at hk) (xa_k hb hk hl) hi ?_
  rw [xa_set]
  exact K
/-- a constructor's contract: over any heap, its object the last cell -/
def x_ct (sc : Nat × (Nat → Int32)) (d : Nat) (M : x_Mt) (c : x_C) (L : Nat → List x_C) (lv : Nat) : Prop := ∀ h0 : x_H, h0.length + 2000 * lv < 890000 → x_M sc d M [.ref h0.length] (h0 ++ [c]) none (h0 ++ L h0.length)
theorem xa_callN {idx : Nat} {c : x_C} {L : Nat → List x_C} {rest : List Value} {lv : Nat} (hb : h0.length + 2000 * (lv + 1) < 890000) (hl : l.length < 1000) (hd : decode M.2.1 pc = .ok (.invokespecial idx, 3)) (hlk : x_lkN M.1.cls idx M' 0) (hM : x_ct sc d M' c L lv) (hc : (rest.map fun v => v.category).sum ≤ 8)
    (K : x_R sc (d + 1) M (pc + 3) ls rest (h0 ++ (l ++ L (h0.length + l.length))) r h') : x_R sc (d + 1) M pc ls (.ref (h0.length + l.length) :: rest) (h0 ++ (l ++ [c])) r h' := by
  have h1 := hM (h0 ++ l) (by rw [List.length_append]; omega)
  rw [List.length_append, List.append_assoc, List.append_assoc] at h1
  exact xr_callN (as := []) hd hlk rfl rfl hc h1 K
theorem xa_callI {idx : Nat} {c : x_C} {L : Nat → List x_C} {rest : List Value} {lv : Nat} (hb : h0.length + 2000 * (lv + 1) < 890000) (hl : l.length < 1000) (hd : decode M.2.1 pc = .ok (.invokespecial idx, 3)) (hlk : x_lkI M.1.cls idx M' 0) (hM : x_ct sc d M' c L lv) (hc : (rest.map fun v => v.category).sum ≤ 8)
    (K : x_R sc (d + 1) M (pc + 3) ls rest (h0 ++ (l ++ L (h0.length + l.length))) r h') : x_R sc (d + 1) M pc ls (.ref (h0.length + l.length) :: rest) (h0 ++ (l ++ [c])) r h' := by
  have h1 := hM (h0 ++ l) (by rw [List.length_append]; omega)
  rw [List.length_append, List.append_assoc, List.append_assoc] at h1
  exact xr_callI (as := []) hd hlk rfl rfl hc h1 K
end XA
def ctX1_init (n : Nat) : List x_C := [.inl (1, [.int 0, .ref (n + 1)]), .inr (.inl (0, 160, fun _ => 0))]
set_option maxHeartbeats 4000000 in
set_option maxRecDepth 10000 in
theorem cX1_init_ok (sc : Nat × (Nat → Int32)) (d : Nat) : x_ct sc (d + 1) mX1_init (.inl (1, [.int 0, .null])) ctX1_init 1 := by
  intro h0 hb0
  have hb : h0.length < 900000 := by omega
  refine x_M.of (by decide) (Nat.le_of_ble_eq_true rfl) ?_
  show x_R sc _ _ 0 [.ref (h0.length + 0)] [] (h0 ++ [.inl (1, [.int 0, .null])]) none _
  refine xr_aload_n _ dX1_init_0 rfl ?_
  refine xr_obj dX1_init_1 koX1_3 (Nat.le_of_ble_eq_true rfl) ?_
  refine xr_aload_n _ dX1_init_4 rfl ?_
  refine xr_sipush (160) dX1_init_5 (by decide) ?_
  refine xa_newa 0 160 hb (Nat.le_of_ble_eq_true rfl) dX1_init_8 (by simp [x_at]) ky_int (by decide) (by decide) (by decide) ?_
  change x_R _ _ _ _ _ [.ref (h0.length + 1), .ref (h0.length + 0)] (h0 ++ [.inl (1, [.int 0, .null]), .inr (.inl (0, 160, fun _ => 0))]) _ _
  refine xa_putF (i := 0) hb (Nat.le_of_ble_eq_true rfl) dX1_init_10 kpX1_9 rfl rfl (fun _ => rfl) (fun _ => rfl) (Nat.le_of_ble_eq_true rfl) ?_
  change x_R _ _ _ _ _ [] (h0 ++ [.inl (1, [.int 0, .ref (h0.length + 1)]), .inr (.inl (0, 160, fun _ => 0))]) _ _
  exact xr_ret dX1_init_13 rfl
def ctX2_init (n : Nat) : List x_C := [.inl (2, [.int 0, .int 0, .int 0, .int 0, .int 0, .int 0, .int 0, .ref (n + 1), .ref (n + 2), .ref (n + 3), .ref (n + 4), .ref (n + 5)]), .inr (.inl (0, 18, fun _ => 0)), .inr (.inl (0, 16, fun _ => 0)), .inr (.inl (0, 48, fun _ => 0)), .inr (.inl (0, 12, fun _ => 0)), .inr (.inl (0, 24, fun _ => 0))]
set_option maxHeartbeats 4000000 in
set_option maxRecDepth 10000 in
theorem cX2_init_ok (sc : Nat × (Nat → Int32)) (d : Nat) : x_ct sc (d + 1) mX2_init (.inl (2, [.int 0, .int 0, .int 0, .int 0, .int 0, .int 0, .int 0, .null, .null, .null, .null, .null])) ctX2_init 1 := by
  intro h0 hb0
  have hb : h0.length < 900000 := by omega
  refine x_M.of (by decide) (Nat.le_of_ble_eq_true rfl) ?_
  show x_R sc _ _ 0 [.ref (h0.length + 0)] [] (h0 ++ [.inl (2, [.int 0, .int 0, .int 0, .int 0, .int 0, .int 0, .int 0, .null, .null, .null, .null, .null])]) none _
  refine xr_aload_n _ dX2_init_0 rfl ?_
  refine xr_obj dX2_init_1 koX2_3 (Nat.le_of_ble_eq_true rfl) ?_
  refine xr_aload_n _ dX2_init_4 rfl ?_
  refine xr_bipush (18) dX2_init_5 (by decide) ?_
  refine xa_newa 0 18 hb (Nat.le_of_ble_eq_true rfl) dX2_init_7 (by simp [x_at]) ky_int (by decide) (by decide) (by decide) ?_
  change x_R _ _ _ _ _ [.ref (h0.length + 1), .ref (h0.length + 0)] (h0 ++ [.inl (2, [.int 0, .int 0, .int 0, .int 0, .int 0, .int 0, .int 0, .null, .null, .null, .null, .null]), .inr (.inl (0, 18, fun _ => 0))]) _ _
  refine xa_putF (i := 0) hb (Nat.le_of_ble_eq_true rfl) dX2_init_9 kpX2_9 rfl rfl (fun _ => rfl) (fun _ => rfl) (Nat.le_of_ble_eq_true rfl) ?_
  change x_R _ _ _ _ _ [] (h0 ++ [.inl (2, [.int 0, .int 0, .int 0, .int 0, .int 0, .int 0, .int 0, .ref (h0.length + 1), .null, .null, .null, .null]), .inr (.inl (0, 18, fun _ => 0))]) _ _
  refine xr_aload_n _ dX2_init_12 rfl ?_
  refine xr_bipush (16) dX2_init_13 (by decide) ?_
  refine xa_newa 0 16 hb (Nat.le_of_ble_eq_true rfl) dX2_init_15 (by simp [x_at]) ky_int (by decide) (by decide) (by decide) ?_
  change x_R _ _ _ _ _ [.ref (h0.length + 2), .ref (h0.length + 0)] (h0 ++ [.inl (2, [.int 0, .int 0, .int 0, .int 0, .int 0, .int 0, .int 0, .ref (h0.length + 1), .null, .null, .null, .null]), .inr (.inl (0, 18, fun _ => 0)), .inr (.inl (0, 16, fun _ => 0))]) _ _
  refine xa_putF (i := 0) hb (Nat.le_of_ble_eq_true rfl) dX2_init_17 kpX2_15 rfl rfl (fun _ => rfl) (fun _ => rfl) (Nat.le_of_ble_eq_true rfl) ?_
  change x_R _ _ _ _ _ [] (h0 ++ [.inl (2, [.int 0, .int 0, .int 0, .int 0, .int 0, .int 0, .int 0, .ref (h0.length + 1), .ref (h0.length + 2), .null, .null, .null]), .inr (.inl (0, 18, fun _ => 0)), .inr (.inl (0, 16, fun _ => 0))]) _ _
  refine xr_aload_n _ dX2_init_20 rfl ?_
  refine xr_bipush (48) dX2_init_21 (by decide) ?_
  refine xa_newa 0 48 hb (Nat.le_of_ble_eq_true rfl) dX2_init_23 (by simp [x_at]) ky_int (by decide) (by decide) (by decide) ?_
  change x_R _ _ _ _ _ [.ref (h0.length + 3), .ref (h0.length + 0)] (h0 ++ [.inl (2, [.int 0, .int 0, .int 0, .int 0, .int 0, .int 0, .int 0, .ref (h0.length + 1), .ref (h0.length + 2), .null, .null, .null]), .inr (.inl (0, 18, fun _ => 0)), .inr (.inl (0, 16, fun _ => 0)), .inr (.inl (0, 48, fun _ => 0))]) _ _
  refine xa_putF (i := 0) hb (Nat.le_of_ble_eq_true rfl) dX2_init_25 kpX2_18 rfl rfl (fun _ => rfl) (fun _ => rfl) (Nat.le_of_ble_eq_true rfl) ?_
  change x_R _ _ _ _ _ [] (h0 ++ [.inl (2, [.int 0, .int 0, .int 0, .int 0, .int 0, .int 0, .int 0, .ref (h0.length + 1), .ref (h0.length + 2), .ref (h0.length + 3), .null, .null]), .inr (.inl (0, 18, fun _ => 0)), .inr (.inl (0, 16, fun _ => 0)), .inr (.inl (0, 48, fun _ => 0))]) _ _
  refine xr_aload_n _ dX2_init_28 rfl ?_
  refine xr_bipush (12) dX2_init_29 (by decide) ?_
  refine xa_newa 0 12 hb (Nat.le_of_ble_eq_true rfl) dX2_init_31 (by simp [x_at]) ky_int (by decide) (by decide) (by decide) ?_
  change x_R _ _ _ _ _ [.ref (h0.length + 4), .ref (h0.length + 0)] (h0 ++ [.inl (2, [.int 0, .int 0, .int 0, .int 0, .int 0, .int 0, .int 0, .ref (h0.length + 1), .ref (h0.length + 2), .ref (h0.length + 3), .null, .null]), .inr (.inl (0, 18, fun _ => 0)), .inr (.inl (0, 16, fun _ => 0)), .inr (.inl (0, 48, fun _ => 0)), .inr (.inl (0, 12, fun _ => 0))]) _ _
  refine xa_putF (i := 0) hb (Nat.le_of_ble_eq_true rfl) dX2_init_33 kpX2_21 rfl rfl (fun _ => rfl) (fun _ => rfl) (Nat.le_of_ble_eq_true rfl) ?_
  change x_R _ _ _ _ _ [] (h0 ++ [.inl (2, [.int 0, .int 0, .int 0, .int 0, .int 0, .int 0, .int 0, .ref (h0.length + 1), .ref (h0.length + 2), .ref (h0.length + 3), .ref (h0.length + 4), .null]), .inr (.inl (0, 18, fun _ => 0)), .inr (.inl (0, 16, fun _ => 0)), .inr (.inl (0, 48, fun _ => 0)), .inr (.inl (0, 12, fun _ => 0))]) _ _
  refine xr_aload_n _ dX2_init_36 rfl ?_
  refine xr_bipush (24) dX2_init_37 (by decide) ?_
  refine xa_newa 0 24 hb (Nat.le_of_ble_eq_true rfl) dX2_init_39 (by simp [x_at]) ky_int (by decide) (by decide) (by decide) ?_
  change x_R _ _ _ _ _ [.ref (h0.length + 5), .ref (h0.length + 0)] (h0 ++ [.inl (2, [.int 0, .int 0, .int 0, .int 0, .int 0, .int 0, .int 0, .ref (h0.length + 1), .ref (h0.length + 2), .ref (h0.length + 3), .ref (h0.length + 4), .null]), .inr (.inl (0, 18, fun _ => 0)), .inr (.inl (0, 16, fun _ => 0)), .inr (.inl (0, 48, fun _ => 0)), .inr (.inl (0, 12, fun _ => 0)), .inr (.inl (0, 24, fun _ => 0))]) _ _
  refine xa_putF (i := 0) hb (Nat.le_of_ble_eq_true rfl) dX2_init_41 kpX2_24 rfl rfl (fun _ => rfl) (fun _ => rfl) (Nat.le_of_ble_eq_true rfl) ?_
  change x_R _ _ _ _ _ [] (h0 ++ [.inl (2, [.int 0, .int 0, .int 0, .int 0, .int 0, .int 0, .int 0, .ref (h0.length + 1), .ref (h0.length + 2), .ref (h0.length + 3), .ref (h0.length + 4), .ref (h0.length + 5)]), .inr (.inl (0, 18, fun _ => 0)), .inr (.inl (0, 16, fun _ => 0)), .inr (.inl (0, 48, fun _ => 0)), .inr (.inl (0, 12, fun _ => 0)), .inr (.inl (0, 24, fun _ => 0))]) _ _
  exact xr_ret dX2_init_44 rfl
def ctX4_init (n : Nat) : List x_C := [.inl (4, [.int 0, .int 0, .ref (n + 1), .ref (n + 2)]), .inr (.inl (0, 8, fun _ => 0)), .inr (.inl (0, 8, fun _ => 0))]
set_option maxHeartbeats 4000000 in
set_option maxRecDepth 10000 in
theorem cX4_init_ok (sc : Nat × (Nat → Int32)) (d : Nat) : x_ct sc (d + 1) mX4_init (.inl (4, [.int 0, .int 0, .null, .null])) ctX4_init 1 := by
  intro h0 hb0
  have hb : h0.length < 900000 := by omega
  refine x_M.of (by decide) (Nat.le_of_ble_eq_true rfl) ?_
  show x_R sc _ _ 0 [.ref (h0.length + 0)] [] (h0 ++ [.inl (4, [.int 0, .int 0, .null, .null])]) none _
  refine xr_aload_n _ dX4_init_0 rfl ?_
  refine xr_obj dX4_init_1 koX4_3 (Nat.le_of_ble_eq_true rfl) ?_
  refine xr_aload_n _ dX4_init_4 rfl ?_
  refine xr_bipush (8) dX4_init_5 (by decide) ?_
  refine xa_newa 0 8 hb (Nat.le_of_ble_eq_true rfl) dX4_init_7 (by simp [x_at]) ky_int (by decide) (by decide) (by decide) ?_
  change x_R _ _ _ _ _ [.ref (h0.length + 1), .ref (h0.length + 0)] (h0 ++ [.inl (4, [.int 0, .int 0, .null, .null]), .inr (.inl (0, 8, fun _ => 0))]) _ _
  refine xa_putF (i := 0) hb (Nat.le_of_ble_eq_true rfl) dX4_init_9 kpX4_9 rfl rfl (fun _ => rfl) (fun _ => rfl) (Nat.le_of_ble_eq_true rfl) ?_
  change x_R _ _ _ _ _ [] (h0 ++ [.inl (4, [.int 0, .int 0, .ref (h0.length + 1), .null]), .inr (.inl (0, 8, fun _ => 0))]) _ _
  refine xr_aload_n _ dX4_init_12 rfl ?_
  refine xr_bipush (8) dX4_init_13 (by decide) ?_
  refine xa_newa 0 8 hb (Nat.le_of_ble_eq_true rfl) dX4_init_15 (by simp [x_at]) ky_int (by decide) (by decide) (by decide) ?_
  change x_R _ _ _ _ _ [.ref (h0.length + 2), .ref (h0.length + 0)] (h0 ++ [.inl (4, [.int 0, .int 0, .ref (h0.length + 1), .null]), .inr (.inl (0, 8, fun _ => 0)), .inr (.inl (0, 8, fun _ => 0))]) _ _
  refine xa_putF (i := 0) hb (Nat.le_of_ble_eq_true rfl) dX4_init_17 kpX4_15 rfl rfl (fun _ => rfl) (fun _ => rfl) (Nat.le_of_ble_eq_true rfl) ?_
  change x_R _ _ _ _ _ [] (h0 ++ [.inl (4, [.int 0, .int 0, .ref (h0.length + 1), .ref (h0.length + 2)]), .inr (.inl (0, 8, fun _ => 0)), .inr (.inl (0, 8, fun _ => 0))]) _ _
  exact xr_ret dX4_init_20 rfl
def ctX0_init (n : Nat) : List x_C := [.inl (0, [.ref (n + 1)]), .inr (.inl (0, 8, fun _ => 0))]
set_option maxHeartbeats 4000000 in
set_option maxRecDepth 10000 in
theorem cX0_init_ok (sc : Nat × (Nat → Int32)) (d : Nat) : x_ct sc (d + 1) mX0_init (.inl (0, [.null])) ctX0_init 1 := by
  intro h0 hb0
  have hb : h0.length < 900000 := by omega
  refine x_M.of (by decide) (Nat.le_of_ble_eq_true rfl) ?_
  show x_R sc _ _ 0 [.ref (h0.length + 0)] [] (h0 ++ [.inl (0, [.null])]) none _
  refine xr_aload_n _ dX0_init_0 rfl ?_
  refine xr_obj dX0_init_1 koX0_3 (Nat.le_of_ble_eq_true rfl) ?_
  refine xr_aload_n _ dX0_init_4 rfl ?_
  refine xr_bipush (8) dX0_init_5 (by decide) ?_
  refine xa_newa 0 8 hb (Nat.le_of_ble_eq_true rfl) dX0_init_7 (by simp [x_at]) ky_int (by decide) (by decide) (by decide) ?_
  change x_R _ _ _ _ _ [.ref (h0.length + 1), .ref (h0.length + 0)] (h0 ++ [.inl (0, [.null]), .inr (.inl (0, 8, fun _ => 0))]) _ _
  refine xa_putF (i := 0) hb (Nat.le_of_ble_eq_true rfl) dX0_init_9 kpX0_9 rfl rfl (fun _ => rfl) (fun _ => rfl) (Nat.le_of_ble_eq_true rfl) ?_
  change x_R _ _ _ _ _ [] (h0 ++ [.inl (0, [.ref (h0.length + 1)]), .inr (.inl (0, 8, fun _ => 0))]) _ _
  exact xr_ret dX0_init_12 rfl
def ctX3_init (n : Nat) : List x_C := [.inl (3, [.ref (n + 1), .ref (n + 2), .ref (n + 3), .ref (n + 4), .ref (n + 5), .int 0]), .inr (.inl (0, 8, fun _ => 0)), .inr (.inl (0, 8, fun _ => 0)), .inr (.inl (0, 8, fun _ => 0)), .inr (.inl (0, 8, fun _ => 0)), .inr (.inl (0, 8, fun _ => 0))]
set_option maxHeartbeats 4000000 in
set_option maxRecDepth 10000 in
theorem cX3_init_ok (sc : Nat × (Nat → Int32)) (d : Nat) : x_ct sc (d + 1) mX3_init (.inl (3, [.null, .null, .null, .null, .null, .int 0])) ctX3_init 1 := by
  intro h0 hb0
  have hb : h0.length < 900000 := by omega
  refine x_M.of (by decide) (Nat.le_of_ble_eq_true rfl) ?_
  show x_R sc _ _ 0 [.ref (h0.length + 0)] [] (h0 ++ [.inl (3, [.null, .null, .null, .null, .null, .int 0])]) none _
  refine xr_aload_n _ dX3_init_0 rfl ?_
  refine xr_obj dX3_init_1 koX3_3 (Nat.le_of_ble_eq_true rfl) ?_
  refine xr_aload_n _ dX3_init_4 rfl ?_
  refine xr_bipush (8) dX3_init_5 (by decide) ?_
  refine xa_newa 0 8 hb (Nat.le_of_ble_eq_true rfl) dX3_init_7 (by simp [x_at]) ky_int (by decide) (by decide) (by decide) ?_
  change x_R _ _ _ _ _ [.ref (h0.length + 1), .ref (h0.length + 0)] (h0 ++ [.inl (3, [.null, .null, .null, .null, .null, .int 0]), .inr (.inl (0, 8, fun _ => 0))]) _ _
  refine xa_putF (i := 0) hb (Nat.le_of_ble_eq_true rfl) dX3_init_9 kpX3_9 rfl rfl (fun _ => rfl) (fun _ => rfl) (Nat.le_of_ble_eq_true rfl) ?_
  change x_R _ _ _ _ _ [] (h0 ++ [.inl (3, [.ref (h0.length + 1), .null, .null, .null, .null, .int 0]), .inr (.inl (0, 8, fun _ => 0))]) _ _
  refine xr_aload_n _ dX3_init_12 rfl ?_
  refine xr_bipush (8) dX3_init_13 (by decide) ?_
  refine xa_newa 0 8 hb (Nat.le_of_ble_eq_true rfl) dX3_init_15 (by simp [x_at]) ky_int (by decide) (by decide) (by decide) ?_
  change x_R _ _ _ _ _ [.ref (h0.length + 2), .ref (h0.length + 0)] (h0 ++ [.inl (3, [.ref (h0.length + 1), .null, .null, .null, .null, .int 0]), .inr (.inl (0, 8, fun _ => 0)), .inr (.inl (0, 8, fun _ => 0))]) _ _
  refine xa_putF (i := 0) hb (Nat.le_of_ble_eq_true rfl) dX3_init_17 kpX3_15 rfl rfl (fun _ => rfl) (fun _ => rfl) (Nat.le_of_ble_eq_true rfl) ?_
  change x_R _ _ _ _ _ [] (h0 ++ [.inl (3, [.ref (h0.length + 1), .ref (h0.length + 2), .null, .null, .null, .int 0]), .inr (.inl (0, 8, fun _ => 0)), .inr (.inl (0, 8, fun _ => 0))]) _ _
  refine xr_aload_n _ dX3_init_20 rfl ?_
  refine xr_bipush (8) dX3_init_21 (by decide) ?_
  refine xa_newa 0 8 hb (Nat.le_of_ble_eq_true rfl) dX3_init_23 (by simp [x_at]) ky_int (by decide) (by decide) (by decide) ?_
  change x_R _ _ _ _ _ [.ref (h0.length + 3), .ref (h0.length + 0)] (h0 ++ [.inl (3, [.ref (h0.length + 1), .ref (h0.length + 2), .null, .null, .null, .int 0]), .inr (.inl (0, 8, fun _ => 0)), .inr (.inl (0, 8, fun _ => 0)), .inr (.inl (0, 8, fun _ => 0))]) _ _
  refine xa_putF (i := 0) hb (Nat.le_of_ble_eq_true rfl) dX3_init_25 kpX3_18 rfl rfl (fun _ => rfl) (fun _ => rfl) (Nat.le_of_ble_eq_true rfl) ?_
  change x_R _ _ _ _ _ [] (h0 ++ [.inl (3, [.ref (h0.length + 1), .ref (h0.length + 2), .ref (h0.length + 3), .null, .null, .int 0]), .inr (.inl (0, 8, fun _ => 0)), .inr (.inl (0, 8, fun _ => 0)), .inr (.inl (0, 8, fun _ => 0))]) _ _
  refine xr_aload_n _ dX3_init_28 rfl ?_
  refine xr_bipush (8) dX3_init_29 (by decide) ?_
  refine xa_newa 0 8 hb (Nat.le_of_ble_eq_true rfl) dX3_init_31 (by simp [x_at]) ky_int (by decide) (by decide) (by decide) ?_
  change x_R _ _ _ _ _ [.ref (h0.length + 4), .ref (h0.length + 0)] (h0 ++ [.inl (3, [.ref (h0.length + 1), .ref (h0.length + 2), .ref (h0.length + 3), .null, .null, .int 0]), .inr (.inl (0, 8, fun _ => 0)), .inr (.inl (0, 8, fun _ => 0)), .inr (.inl (0, 8, fun _ => 0)), .inr (.inl (0, 8, fun _ => 0))]) _ _
  refine xa_putF (i := 0) hb (Nat.le_of_ble_eq_true rfl) dX3_init_33 kpX3_21 rfl rfl (fun _ => rfl) (fun _ => rfl) (Nat.le_of_ble_eq_true rfl) ?_
  change x_R _ _ _ _ _ [] (h0 ++ [.inl (3, [.ref (h0.length + 1), .ref (h0.length + 2), .ref (h0.length + 3), .ref (h0.length + 4), .null, .int 0]), .inr (.inl (0, 8, fun _ => 0)), .inr (.inl (0, 8, fun _ => 0)), .inr (.inl (0, 8, fun _ => 0)), .inr (.inl (0, 8, fun _ => 0))]) _ _
  refine xr_aload_n _ dX3_init_36 rfl ?_
  refine xr_bipush (8) dX3_init_37 (by decide) ?_
  refine xa_newa 0 8 hb (Nat.le_of_ble_eq_true rfl) dX3_init_39 (by simp [x_at]) ky_int (by decide) (by decide) (by decide) ?_
  change x_R _ _ _ _ _ [.ref (h0.length + 5), .ref (h0.length + 0)] (h0 ++ [.inl (3, [.ref (h0.length + 1), .ref (h0.length + 2), .ref (h0.length + 3), .ref (h0.length + 4), .null, .int 0]), .inr (.inl (0, 8, fun _ => 0)), .inr (.inl (0, 8, fun _ => 0)), .inr (.inl (0, 8, fun _ => 0)), .inr (.inl (0, 8, fun _ => 0)), .inr (.inl (0, 8, fun _ => 0))]) _ _
  refine xa_putF (i := 0) hb (Nat.le_of_ble_eq_true rfl) dX3_init_41 kpX3_24 rfl rfl (fun _ => rfl) (fun _ => rfl) (Nat.le_of_ble_eq_true rfl) ?_
  change x_R _ _ _ _ _ [] (h0 ++ [.inl (3, [.ref (h0.length + 1), .ref (h0.length + 2), .ref (h0.length + 3), .ref (h0.length + 4), .ref (h0.length + 5), .int 0]), .inr (.inl (0, 8, fun _ => 0)), .inr (.inl (0, 8, fun _ => 0)), .inr (.inl (0, 8, fun _ => 0)), .inr (.inl (0, 8, fun _ => 0)), .inr (.inl (0, 8, fun _ => 0))]) _ _
  exact xr_ret dX3_init_44 rfl
def ctX10_init (n : Nat) : List x_C := [.inl (8, [.ref (n + 1), .ref (n + 2), .ref (n + 3), .ref (n + 4), .ref (n + 5), .ref (n + 6), .int 0, .int 0]), .inr (.inl (0, 448, fun _ => 0)), .inr (.inl (0, 448, fun _ => 0)), .inr (.inl (0, 448, fun _ => 0)), .inr (.inl (0, 49, fun _ => 0)), .inr (.inl (0, 6, fun _ => 0)), .inr (.inl (0, 6, fun _ => 0))]
set_option maxHeartbeats 4000000 in
set_option maxRecDepth 10000 in
theorem cX10_init_ok (sc : Nat × (Nat → Int32)) (d : Nat) : x_ct sc (d + 1) mX10_init (.inl (8, [.null, .null, .null, .null, .null, .null, .int 0, .int 0])) ctX10_init 1 := by
  intro h0 hb0
  have hb : h0.length < 900000 := by omega
  refine x_M.of (by decide) (Nat.le_of_ble_eq_true rfl) ?_
  show x_R sc _ _ 0 [.ref (h0.length + 0)] [] (h0 ++ [.inl (8, [.null, .null, .null, .null, .null, .null, .int 0, .int 0])]) none _
  refine xr_aload_n _ dX10_init_0 rfl ?_
  refine xr_obj dX10_init_1 koX10_3 (Nat.le_of_ble_eq_true rfl) ?_
  refine xr_aload_n _ dX10_init_4 rfl ?_
  refine xr_sipush (448) dX10_init_5 (by decide) ?_
  refine xa_newa 0 448 hb (Nat.le_of_ble_eq_true rfl) dX10_init_8 (by simp [x_at]) ky_int (by decide) (by decide) (by decide) ?_
  change x_R _ _ _ _ _ [.ref (h0.length + 1), .ref (h0.length + 0)] (h0 ++ [.inl (8, [.null, .null, .null, .null, .null, .null, .int 0, .int 0]), .inr (.inl (0, 448, fun _ => 0))]) _ _
  refine xa_putF (i := 0) hb (Nat.le_of_ble_eq_true rfl) dX10_init_10 kpX10_11 rfl rfl (fun _ => rfl) (fun _ => rfl) (Nat.le_of_ble_eq_true rfl) ?_
  change x_R _ _ _ _ _ [] (h0 ++ [.inl (8, [.ref (h0.length + 1), .null, .null, .null, .null, .null, .int 0, .int 0]), .inr (.inl (0, 448, fun _ => 0))]) _ _
  refine xr_aload_n _ dX10_init_13 rfl ?_
  refine xr_sipush (448) dX10_init_14 (by decide) ?_
  refine xa_newa 0 448 hb (Nat.le_of_ble_eq_true rfl) dX10_init_17 (by simp [x_at]) ky_int (by decide) (by decide) (by decide) ?_
  change x_R _ _ _ _ _ [.ref (h0.length + 2), .ref (h0.length + 0)] (h0 ++ [.inl (8, [.ref (h0.length + 1), .null, .null, .null, .null, .null, .int 0, .int 0]), .inr (.inl (0, 448, fun _ => 0)), .inr (.inl (0, 448, fun _ => 0))]) _ _
  refine xa_putF (i := 0) hb (Nat.le_of_ble_eq_true rfl) dX10_init_19 kpX10_15 rfl rfl (fun _ => rfl) (fun _ => rfl) (Nat.le_of_ble_eq_true rfl) ?_
  change x_R _ _ _ _ _ [] (h0 ++ [.inl (8, [.ref (h0.length + 1), .ref (h0.length + 2), .null, .null, .null, .null, .int 0, .int 0]), .inr (.inl (0, 448, fun _ => 0)), .inr (.inl (0, 448, fun _ => 0))]) _ _
  refine xr_aload_n _ dX10_init_22 rfl ?_
  refine xr_sipush (448) dX10_init_23 (by decide) ?_
  refine xa_newa 0 448 hb (Nat.le_of_ble_eq_true rfl) dX10_init_26 (by simp [x_at]) ky_int (by decide) (by decide) (by decide) ?_
  change x_R _ _ _ _ _ [.ref (h0.length + 3), .ref (h0.length + 0)] (h0 ++ [.inl (8, [.ref (h0.length + 1), .ref (h0.length + 2), .null, .null, .null, .null, .int 0, .int 0]), .inr (.inl (0, 448, fun _ => 0)), .inr (.inl (0, 448, fun _ => 0)), .inr (.inl (0, 448, fun _ => 0))]) _ _
  refine xa_putF (i := 0) hb (Nat.le_of_ble_eq_true rfl) dX10_init_28 kpX10_18 rfl rfl (fun _ => rfl) (fun _ => rfl) (Nat.le_of_ble_eq_true rfl) ?_
  change x_R _ _ _ _ _ [] (h0 ++ [.inl (8, [.ref (h0.length + 1), .ref (h0.length + 2), .ref (h0.length + 3), .null, .null, .null, .int 0, .int 0]), .inr (.inl (0, 448, fun _ => 0)), .inr (.inl (0, 448, fun _ => 0)), .inr (.inl (0, 448, fun _ => 0))]) _ _
  refine xr_aload_n _ dX10_init_31 rfl ?_
  refine xr_bipush (49) dX10_init_32 (by decide) ?_
  refine xa_newa 0 49 hb (Nat.le_of_ble_eq_true rfl) dX10_init_34 (by simp [x_at]) ky_int (by decide) (by decide) (by decide) ?_
  change x_R _ _ _ _ _ [.ref (h0.length + 4), .ref (h0.length + 0)] (h0 ++ [.inl (8, [.ref (h0.length + 1), .ref (h0.length + 2), .ref (h0.length + 3), .null, .null, .null, .int 0, .int 0]), .inr (.inl (0, 448, fun _ => 0)), .inr (.inl (0, 448, fun _ => 0)), .inr (.inl (0, 448, fun _ => 0)), .inr (.inl (0, 49, fun _ => 0))]) _ _
  refine xa_putF (i := 0) hb (Nat.le_of_ble_eq_true rfl) dX10_init_36 kpX10_21 rfl rfl (fun _ => rfl) (fun _ => rfl) (Nat.le_of_ble_eq_true rfl) ?_
  change x_R _ _ _ _ _ [] (h0 ++ [.inl (8, [.ref (h0.length + 1), .ref (h0.length + 2), .ref (h0.length + 3), .ref (h0.length + 4), .null, .null, .int 0, .int 0]), .inr (.inl (0, 448, fun _ => 0)), .inr (.inl (0, 448, fun _ => 0)), .inr (.inl (0, 448, fun _ => 0)), .inr (.inl (0, 49, fun _ => 0))]) _ _
  refine xr_aload_n _ dX10_init_39 rfl ?_
  refine xr_bipush (6) dX10_init_40 (by decide) ?_
  refine xa_newa 0 6 hb (Nat.le_of_ble_eq_true rfl) dX10_init_42 (by simp [x_at]) ky_int (by decide) (by decide) (by decide) ?_
  change x_R _ _ _ _ _ [.ref (h0.length + 5), .ref (h0.length + 0)] (h0 ++ [.inl (8, [.ref (h0.length + 1), .ref (h0.length + 2), .ref (h0.length + 3), .ref (h0.length + 4), .null, .null, .int 0, .int 0]), .inr (.inl (0, 448, fun _ => 0)), .inr (.inl (0, 448, fun _ => 0)), .inr (.inl (0, 448, fun _ => 0)), .inr (.inl (0, 49, fun _ => 0)), .inr (.inl (0, 6, fun _ => 0))]) _ _
  refine xa_putF (i := 0) hb (Nat.le_of_ble_eq_true rfl) dX10_init_44 kpX10_24 rfl rfl (fun _ => rfl) (fun _ => rfl) (Nat.le_of_ble_eq_true rfl) ?_
  change x_R _ _ _ _ _ [] (h0 ++ [.inl (8, [.ref (h0.length + 1), .ref (h0.length + 2), .ref (h0.length + 3), .ref (h0.length + 4), .ref (h0.length + 5), .null, .int 0, .int 0]), .inr (.inl (0, 448, fun _ => 0)), .inr (.inl (0, 448, fun _ => 0)), .inr (.inl (0, 448, fun _ => 0)), .inr (.inl (0, 49, fun _ => 0)), .inr (.inl (0, 6, fun _ => 0))]) _ _
  refine xr_aload_n _ dX10_init_47 rfl ?_
  refine xr_bipush (6) dX10_init_48 (by decide) ?_
  refine xa_newa 0 6 hb (Nat.le_of_ble_eq_true rfl) dX10_init_50 (by simp [x_at]) ky_int (by decide) (by decide) (by decide) ?_
  change x_R _ _ _ _ _ [.ref (h0.length + 6), .ref (h0.length + 0)] (h0 ++ [.inl (8, [.ref (h0.length + 1), .ref (h0.length + 2), .ref (h0.length + 3), .ref (h0.length + 4), .ref (h0.length + 5), .null, .int 0, .int 0]), .inr (.inl (0, 448, fun _ => 0)), .inr (.inl (0, 448, fun _ => 0)), .inr (.inl (0, 448, fun _ => 0)), .inr (.inl (0, 49, fun _ => 0)), .inr (.inl (0, 6, fun _ => 0)), .inr (.inl (0, 6, fun _ => 0))]) _ _
  refine xa_putF (i := 0) hb (Nat.le_of_ble_eq_true rfl) dX10_init_52 kpX10_27 rfl rfl (fun _ => rfl) (fun _ => rfl) (Nat.le_of_ble_eq_true rfl) ?_
  change x_R _ _ _ _ _ [] (h0 ++ [.inl (8, [.ref (h0.length + 1), .ref (h0.length + 2), .ref (h0.length + 3), .ref (h0.length + 4), .ref (h0.length + 5), .ref (h0.length + 6), .int 0, .int 0]), .inr (.inl (0, 448, fun _ => 0)), .inr (.inl (0, 448, fun _ => 0)), .inr (.inl (0, 448, fun _ => 0)), .inr (.inl (0, 49, fun _ => 0)), .inr (.inl (0, 6, fun _ => 0)), .inr (.inl (0, 6, fun _ => 0))]) _ _
  exact xr_ret dX10_init_55 rfl
