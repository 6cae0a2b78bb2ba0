/-! the abstract machine: one list of cells for all that the law has made; a value's .ref k is the k-th cell (k < 1000000), or an old thing (a text constant, a static row, the script) -/
abbrev x_C : Type := (Nat × List Value) ⊕ ((Nat × Nat × (Nat → Int32)) ⊕ (Nat × Nat × (Nat → Option Nat)))
abbrev x_H : Type := List x_C
/-- a method: its name, its bytes, its local variables, what it returns -/
abbrev x_Mt : Type := MethodName × ByteArray × Nat × Option FieldType
/-- what is fixed for the whole run: the classes' numbers and slots, the array classes, where our cells begin, where the old things lie -/
abbrev x_Env : Type := va_G × (Nat → ClassId) × Nat × (Nat → Nat)
def x_ad (E : x_Env) (k : Nat) : Nat := if k < 1000000 then E.2.2.1 + k else E.2.2.2 k
def x_A (E : x_Env) : Nat → Prop := fun q => E.2.2.1 ≤ q
def x_V (E : x_Env) : Value → Value
  | .ref k => .ref (x_ad E k)
  | v => v
def x_E (E : x_Env) : x_C → va_E
  | .inl q => .inr (q.1, q.2.map (x_V E))
  | .inr (.inl q) => .inl (E.2.1 q.1, q.2.1, .inl q.2.2)
  | .inr (.inr q) => .inl (E.2.1 q.1, q.2.1, .inr (.inr (.inr (.inr (fun j => (q.2.2 j).map (x_ad E))))))
def x_W (E : x_Env) (h : x_H) : va_W := h.mapIdx (fun k c => (E.2.2.1 + k, x_E E c))
theorem x_W_get {E : x_Env} {h : x_H} {k : Nat} {c : x_C} (hk : h[k]? = some c) : (x_W E h)[k]? = some (E.2.2.1 + k, x_E E c) := by
  simp [x_W, hk]
theorem x_W_inv {E : x_Env} {h : x_H} {k : Nat} {q : Nat × va_E} (hk : (x_W E h)[k]? = some q) : ∃ c, h[k]? = some c ∧ q = (E.2.2.1 + k, x_E E c) := by
  simp only [x_W, List.getElem?_mapIdx, Option.map_eq_some_iff] at hk
  obtain ⟨c, h1, h2⟩ := hk
  exact ⟨c, h1, h2.symm⟩
theorem x_W_set (E : x_Env) (h : x_H) (k : Nat) (c : x_C) : (x_W E h).set k (E.2.2.1 + k, x_E E c) = x_W E (h.set k c) := by
  apply List.ext_getElem?
  intro i
  simp only [x_W, List.getElem?_set, List.getElem?_mapIdx, List.length_mapIdx]
  by_cases hi : k = i
  · subst hi
    by_cases hl : k < h.length
    · simp [hl]
    · simp [hl]
  · simp [hi]
theorem x_W_app (E : x_Env) (h : x_H) (c : x_C) : x_W E h ++ [(E.2.2.1 + h.length, x_E E c)] = x_W E (h ++ [c]) := by
  simp [x_W, List.mapIdx_append]
theorem x_W_D (E : x_Env) (h : x_H) : va_D (x_A E) (x_W E h) := by
  refine ⟨fun i j p q hi hj e => ?_, fun k q hk => ?_⟩
  · obtain ⟨c1, -, e1⟩ := x_W_inv hi
    obtain ⟨c2, -, e2⟩ := x_W_inv hj
    rw [e1, e2] at e
    exact Nat.add_left_cancel e
  · obtain ⟨c, -, e⟩ := x_W_inv hk
    rw [e]
    exact Nat.le_add_right _ _
def x_slc : x_C → Nat
  | .inl q => q.2.length
  | .inr (.inl q) => q.2.1
  | .inr (.inr q) => q.2.1
def x_sl (h : x_H) : Nat := (h.map x_slc).sum
theorem x_sl_app (h : x_H) (c : x_C) : x_sl (h ++ [c]) = x_sl h + x_slc c := by simp [x_sl]
/-- the words that travel: all good ones of the tables -/
def x_WS : List Cond := lw_tbl.filter goodWord
theorem x_in {w : Cond} (i : Nat) (h : lw_tbl[i]? = some w) (g : goodWord w = true) : w ∈ x_WS := List.mem_filter.mpr ⟨List.mem_of_getElem? h, g⟩
theorem x_i1 {w : Cond} (i : Nat) (h : tables_1_1[i]? = some w) (g : goodWord w = true) : w ∈ x_WS := List.mem_filter.mpr ⟨List.mem_append_right _ (List.mem_append_left _ (List.mem_of_getElem? h)), g⟩
theorem x_i2 {w : Cond} (i : Nat) (h : tables_1_2[i]? = some w) (g : goodWord w = true) : w ∈ x_WS := List.mem_filter.mpr ⟨List.mem_append_right _ (List.mem_append_right _ (List.mem_append_left _ (List.mem_of_getElem? h))), g⟩
theorem x_i3 {w : Cond} (i : Nat) (h : tables_1_3[i]? = some w) (g : goodWord w = true) : w ∈ x_WS := List.mem_filter.mpr ⟨List.mem_append_right _ (List.mem_append_right _ (List.mem_append_right _ (List.mem_append_left _ (List.mem_of_getElem? h)))), g⟩
theorem x_i4 {w : Cond} (i : Nat) (h : tables_1_4[i]? = some w) (g : goodWord w = true) : w ∈ x_WS := List.mem_filter.mpr ⟨List.mem_append_right _ (List.mem_append_right _ (List.mem_append_right _ (List.mem_append_right _ (List.mem_append_left _ (List.mem_of_getElem? h))))), g⟩
theorem x_i5 {w : Cond} (i : Nat) (h : tables_1_5[i]? = some w) (g : goodWord w = true) : w ∈ x_WS := List.mem_filter.mpr ⟨List.mem_append_right _ (List.mem_append_right _ (List.mem_append_right _ (List.mem_append_right _ (List.mem_append_right _ (List.mem_append_left _ (List.mem_of_getElem? h)))))), g⟩
theorem x_i6 {w : Cond} (i : Nat) (h : tables_1_6[i]? = some w) (g : goodWord w = true) : w ∈ x_WS := List.mem_filter.mpr ⟨List.mem_append_right _ (List.mem_append_right _ (List.mem_append_right _ (List.mem_append_right _ (List.mem_append_right _ (List.mem_append_right _ (List.mem_append_left _ (List.mem_of_getElem? h))))))), g⟩
theorem x_i7 {w : Cond} (i : Nat) (h : tables_1_7[i]? = some w) (g : goodWord w = true) : w ∈ x_WS := List.mem_filter.mpr ⟨List.mem_append_right _ (List.mem_append_right _ (List.mem_append_right _ (List.mem_append_right _ (List.mem_append_right _ (List.mem_append_right _ (List.mem_append_right _ (List.mem_append_left _ (List.mem_of_getElem? h)))))))), g⟩
theorem x_i8 {w : Cond} (i : Nat) (h : tables_1_8[i]? = some w) (g : goodWord w = true) : w ∈ x_WS := List.mem_filter.mpr ⟨List.mem_append_right _ (List.mem_append_right _ (List.mem_append_right _ (List.mem_append_right _ (List.mem_append_right _ (List.mem_append_right _ (List.mem_append_right _ (List.mem_append_right _ (List.mem_append_left _ (List.mem_of_getElem? h))))))))), g⟩
theorem x_i9 {w : Cond} (i : Nat) (h : tables_1_9[i]? = some w) (g : goodWord w = true) : w ∈ x_WS := List.mem_filter.mpr ⟨List.mem_append_right _ (List.mem_append_right _ (List.mem_append_right _ (List.mem_append_right _ (List.mem_append_right _ (List.mem_append_right _ (List.mem_append_right _ (List.mem_append_right _ (List.mem_append_right _ ((List.mem_of_getElem? h)))))))))), g⟩
def x_code (M : x_Mt) : Cond := .code M.1 M.2.1 M.2.2.1 M.2.2.2
def x_ws (M : x_Mt) : List Cond := x_code M :: x_WS
theorem x_good : ∀ w ∈ x_WS, (w.onTables && w.keeps) = true ∨ ∃ ty, w = .arrayClass ty := fun w h => good_of_word (List.mem_filter.mp h).2
def x_Ty (E : x_Env) : List (ClassId × FieldType) := [(E.2.1 0, .int), (E.2.1 1, .byte), (E.2.1 2, .boolean), (E.2.1 3, .object RX2), (E.2.1 4, .object RX1), (E.2.1 5, .object RX4), (E.2.1 6, .object RX9)]
def x_text : List (String × Nat) := [("stand", 216), ("goer", 218), ("slant", 220), ("minds", 221), ("wrong", 222), ("confess", 224), ("town", 226), ("tune", 227), ("fit", 229), ("ask", 231), ("walk", 233), ("mend", 235), ("do", 237), ("lies", 239), ("stopped", 240), ("played", 242)]
def x_slen : List Nat := [5, 4, 5, 5, 5, 7, 4, 4, 3, 3, 4, 4, 2, 4, 7, 6]
def x_sbyt : List (List Int32) := [[115, 116, 97, 110, 100], [103, 111, 101, 114], [115, 108, 97, 110, 116], [109, 105, 110, 100, 115], [119, 114, 111, 110, 103], [99, 111, 110, 102, 101, 115, 115], [116, 111, 119, 110], [116, 117, 110, 101], [102, 105, 116], [97, 115, 107], [119, 97, 108, 107], [109, 101, 110, 100], [100, 111], [108, 105, 101, 115], [115, 116, 111, 112, 112, 101, 100], [112, 108, 97, 121, 101, 100]]
/-- the static rows: class, name, number among the old things, contents -/
def x_stat : List (String × String × Nat × List Int32) := [(RX6, "FIRST", 1000200, [0, 7, 13, 16]), (RX6, "GIVEN", 1000201, [2, 2, 1, 3, 3, 2, 4, 0, 0, 1, 3, 3, 3, 1, 1, 1]), (RX6, "LOWEST", 1000202, [0, 0, 0, 0, 0, 0, 0, 0, 0, 0, 0, 0, 0, 0, 1, 0, 0, 0, 0, 0, 1, 0, 0, 0, 0, 0, 0, 0, 0, 0, 0, 0, 0, 0, 0, 0, 0, 0, 0, 0, 0, 0, 0, 0, 0, 0, 1, 0, 0, 0, 1, 0, 0, 0, 0, 0, 0, 0, 0, 0, 0, 0, 0, 0]), (RX6, "GREATEST", 1000203, [9, 9, 0, 0, 9, 9, 0, 0, 9, 0, 0, 0, 5, 18, 9, 0, 7, 5, 9, 0, 63, 20, 0, 0, 9, 9, 30, 10, 0, 0, 0, 0, 0, 0, 0, 0, 7, 0, 0, 0, 7, 9, 9, 0, 7, 5, 9, 0, 7, 5, 9, 0, 8, 0, 0, 0, 63, 0, 0, 0, 63, 0, 0, 0]), (RX7, "BY_LOT", 1000204, [0, 0, 0, 3, 3, 4, 5, 5, 2, 1])]
def x_nest : List (String × Nat × MethodName) := [(RX11, 26, yX6_init), (RX11, 33, yX7_init), (RX11, 40, yX10_init), (RX11, 47, yX3_init), (RX11, 54, yX0_init), (RX6, 11, yX2_init), (RX6, 20, yX1_init), (RX6, 27, yX4_init), (RX7, 11, yX2_init), (RX9, 41, yX2_init), (RX9, 42, yX1_init), (RX9, 43, yX4_init)]
/-- the old things, as the start has them: static rows, one static flag, text constants, links of nest mates, classes of rows of references -/
def x_Old (sc : Nat × (Nat → Int32)) (E : x_Env) (U : State) (H : Heap) : Prop :=
  (∀ q ∈ x_stat, va_Z q.1 q.2.1 "[I" (.ref (E.2.2.2 q.2.2.1)) (x_A E) U H ∧ va_T .int (E.2.2.2 q.2.2.1) q.2.2.2.length (fun j => .int (q.2.2.2.getD j 0)) (x_A E) U H) ∧
  va_Z "java/lang/String" "COMPACT_STRINGS" "Z" (.int 1) (x_A E) U H ∧
  va_Zq "jdk/internal/util/Preconditions" "SIOOBE_FORMATTER" "Ljava/util/function/BiFunction;" (x_A E) U H ∧
  vk_S 16 x_slen x_sbyt (fun i => E.2.2.2 (1000000 + i)) (fun i => E.2.2.2 (1000100 + i)) (x_A E) U H ∧
  (∀ i : Nat, i < 16 → vk_R RX6 (x_text.getD i ("", 0)).2 (x_text.getD i ("", 0)).1 (E.2.2.2 (1000000 + i)) U) ∧
  (∀ q ∈ x_nest, va_Nw (.methodLinkNest q.1 q.2.1 q.2.2 RX11) U) ∧
  (va_AO RX2 U ∧ va_AO RX1 U ∧ va_AO RX4 U ∧ va_AO RX9 U) ∧ va_T .int (E.2.2.2 1000300) sc.1 (fun j => .int (sc.2 j)) (x_A E) U H
theorem x_Old.to {sc : Nat × (Nat → Int32)} {E : x_Env} {s U : State} {H : Heap} {locs : List Loc} (h : x_Old sc E s s.heap) (hS : va_S (x_A E) s.heap H locs) (hW : s.WarmedH U.vm) (hU : U.heap = H) : x_Old sc E U U.heap := by
  obtain ⟨h1, h2, h3, h4, h5, h6, h7, h8⟩ := h
  have hq : ∀ a : Nat, a < s.heap.size → ¬ x_A E a → U.heap[a]? = s.heap[a]? := fun a b c => by rw [hU]; exact hS.2.1 a b c
  refine ⟨fun q h => ⟨va_Z.moved hW.alike ((h1 q h).1.kept hq), va_T.moved hW.alike ((h1 q h).2.kept hq)⟩, va_Z.moved hW.alike (h2.kept hq), va_Zq.moved hW.alike (h3.kept hq), vk_S.moved hW.alike (h4.kept hq), fun i hi => vk_R.warm hW (h5 i hi), fun q h => va_Nw.warmM hW (h6 q h), ?_, va_T.moved hW.alike (h8.kept hq)⟩
  exact ⟨va_AO.moved hW.alike h7.1, va_AO.moved hW.alike h7.2.1, va_AO.moved hW.alike h7.2.2.1, va_AO.moved hW.alike h7.2.2.2⟩
theorem x_Old.same {sc : Nat × (Nat → Int32)} {E : x_Env} {u U : State} (hv : u.vm = U.vm) (hU : u.heap = U.heap) (h : x_Old sc E u u.heap) : x_Old sc E U U.heap := by
  obtain ⟨h1, h2, h3, h4, h5, h6, h7, h8⟩ := h
  have ha : u.vm.Alike U.vm := by rw [hv]; exact Vm.Alike.refl U.vm
  rw [← hU]
  refine ⟨fun q h => ⟨va_Z.moved ha (h1 q h).1, va_T.moved ha (h1 q h).2⟩, va_Z.moved ha h2, va_Zq.moved ha h3, vk_S.moved ha h4, fun i hi => vk_R.same hv.symm (h5 i hi), fun q h => va_Nw.same rfl hv (h6 q h), ?_, va_T.moved ha h8⟩
  exact ⟨va_AO.moved ha h7.1, va_AO.moved ha h7.2.1, va_AO.moved ha h7.2.2.1, va_AO.moved ha h7.2.2.2⟩
/-- what holds of the machine while a method runs -/
def x_Cx (sc : Nat × (Nat → Int32)) (E : x_Env) (p : Program) (R : Room) (s : State) (m : MethodId) (args : Array Value) (meth : Method) (c : Code) (M : x_Mt) (d : Nat) : Prop :=
  (p.tables.exec = Jvm.exec ∧ c.code = M.2.1 ∧ c.maxLocals = M.2.2.1 ∧ meth.sig.returnType = M.2.2.2 ∧ meth.locks = false ∧ meth.name = M.1.name ∧ s.vm.findClass M.1.cls = some m.cls) ∧
  (∀ w ∈ x_WS, w.before args s = true) ∧ va_K E.1 vwCl (x_Ty E) s ∧ x_Old sc E s s.heap ∧ d ≤ R.frames ∧ 64 * d ≤ R.locals
/-- the cells -/
def x_Wd (E : x_Env) (s : State) (h : x_H) (H : Heap) (locs : List Loc) : Prop := va_P E.1 vwCl (x_W E h) H ∧ va_S (x_A E) s.heap H locs
def x_un : Value → Bool
  | .retAddr _ => true
  | _ => false
/-- the local variables; one that holds nothing is a retAddr here -/
def x_Lo (E : x_Env) (n : Nat) (ls : List Value) (LS : Array Slot) : Prop := ls.length = n ∧ LS.size = n ∧ lv_wf LS ∧ ∀ (i : Nat) (v : Value), ls[i]? = some v → x_un v = false → LS[i]? = some (.val (x_V E v))
/-- where the method's end stands -/
def x_Rt (M : x_Mt) (pc : Nat) (r : Option Value) : Prop := match r with
  | none => decode M.2.1 pc = .ok (.return_, 1) ∧ M.2.2.2 = none
  | some (.int v) => decode M.2.1 pc = .ok (.ireturn, 1) ∧ ∃ ty, M.2.2.2 = some ty ∧ narrow ty (.int v) = .int v
  | some (.long _) => decode M.2.1 pc = .ok (.lreturn, 1) ∧ M.2.2.2 = some .long
  | some (.ref _) => decode M.2.1 pc = .ok (.areturn, 1) ∧ ∃ n, M.2.2.2 = some (.object n)
  | some .null => decode M.2.1 pc = .ok (.areturn, 1) ∧ ∃ n, M.2.2.2 = some (.object n)
  | _ => False
/-- THE JUDGEMENT: the method M, at pc with these local variables, stack and cells, ends with r and the cells h' (d: the frames that it may still lay) -/
def x_R (sc : Nat × (Nat → Int32)) (d : Nat) (M : x_Mt) (pc : Nat) (ls st : List Value) (h : x_H) (r : Option Value) (h' : x_H) : Prop :=
  (h.length ≤ h'.length ∧ x_sl h ≤ x_sl h') ∧
  ∀ (E : x_Env) (p : Program) (l : Launch) (e : Env) (R : Room) (s : State) (m : MethodId) (args : Array Value) (below : List Frame) (meth : Method) (c : Code) (H : Heap) (locs : List Loc) (LS : Array Slot) (n0 z0 : Nat) (Q : State → Prop),
    x_Cx sc E p R s m args meth c M d → (s.heap.size = E.2.2.1 + n0 ∧ n0 ≤ h.length ∧ z0 ≤ x_sl h ∧ h'.length - n0 ≤ R.cells ∧ x_sl h' - z0 ≤ R.slots) → x_Wd E s h H locs → x_Lo E M.2.2.1 ls LS →
    (∀ (H' : Heap) (locs' : List Loc) (LS' : Array Slot) (pc' : Nat), x_Wd E s h' H' locs' → x_Rt M pc' r → W p l e R s m args below meth c H' locs' (h'.length - n0) (x_sl h' - z0) Q (F0 m pc' LS' (r.toList.map (x_V E)))) →
    W p l e R s m args below meth c H locs (h.length - n0) (x_sl h - z0) Q (F0 m pc LS (st.map (x_V E)))
section XR
variable {sc : Nat × (Nat → Int32)} {d : Nat} {M : x_Mt} {pc : Nat} {ls st : List Value} {h h' : x_H} {r : Option Value}
theorem x_V_cat (E : x_Env) (v : Value) : (x_V E v).category = v.category := by cases v <;> rfl
theorem xr_iadd {x y : Int32} (hd : decode M.2.1 pc = .ok (.iadd, 1))
    (k : x_R sc d M (pc + 1) ls (.int (x + y) :: st) h r h') : x_R sc d M pc ls (.int y :: .int x :: st) h r h' := by
  refine ⟨k.1, ?_⟩
  intro E p l e R s m args below meth c H locs LS n0 z0 Q C hn w lo kk
  have K := k.2 E p l e R s m args below meth c H locs LS n0 z0 Q C hn w lo kk
  exact lv_iadd C.1.1 C.1.2.1 hd K
theorem xr_isub {x y : Int32} (hd : decode M.2.1 pc = .ok (.isub, 1))
    (k : x_R sc d M (pc + 1) ls (.int (x - y) :: st) h r h') : x_R sc d M pc ls (.int y :: .int x :: st) h r h' := by
  refine ⟨k.1, ?_⟩
  intro E p l e R s m args below meth c H locs LS n0 z0 Q C hn w lo kk
  have K := k.2 E p l e R s m args below meth c H locs LS n0 z0 Q C hn w lo kk
  exact lv_isub C.1.1 C.1.2.1 hd K
theorem xr_imul {x y : Int32} (hd : decode M.2.1 pc = .ok (.imul, 1))
    (k : x_R sc d M (pc + 1) ls (.int (x * y) :: st) h r h') : x_R sc d M pc ls (.int y :: .int x :: st) h r h' := by
  refine ⟨k.1, ?_⟩
  intro E p l e R s m args below meth c H locs LS n0 z0 Q C hn w lo kk
  have K := k.2 E p l e R s m args below meth c H locs LS n0 z0 Q C hn w lo kk
  exact lv_imul C.1.1 C.1.2.1 hd K
theorem xr_iand {x y : Int32} (hd : decode M.2.1 pc = .ok (.iand, 1))
    (k : x_R sc d M (pc + 1) ls (.int (x &&& y) :: st) h r h') : x_R sc d M pc ls (.int y :: .int x :: st) h r h' := by
  refine ⟨k.1, ?_⟩
  intro E p l e R s m args below meth c H locs LS n0 z0 Q C hn w lo kk
  have K := k.2 E p l e R s m args below meth c H locs LS n0 z0 Q C hn w lo kk
  exact lv_iand C.1.1 C.1.2.1 hd K
theorem xr_ior {x y : Int32} (hd : decode M.2.1 pc = .ok (.ior, 1))
    (k : x_R sc d M (pc + 1) ls (.int (x ||| y) :: st) h r h') : x_R sc d M pc ls (.int y :: .int x :: st) h r h' := by
  refine ⟨k.1, ?_⟩
  intro E p l e R s m args below meth c H locs LS n0 z0 Q C hn w lo kk
  have K := k.2 E p l e R s m args below meth c H locs LS n0 z0 Q C hn w lo kk
  exact lv_ior C.1.1 C.1.2.1 hd K
theorem xr_ixor {x y : Int32} (hd : decode M.2.1 pc = .ok (.ixor, 1))
    (k : x_R sc d M (pc + 1) ls (.int (x ^^^ y) :: st) h r h') : x_R sc d M pc ls (.int y :: .int x :: st) h r h' := by
  refine ⟨k.1, ?_⟩
  intro E p l e R s m args below meth c H locs LS n0 z0 Q C hn w lo kk
  have K := k.2 E p l e R s m args below meth c H locs LS n0 z0 Q C hn w lo kk
  exact lv_ixor C.1.1 C.1.2.1 hd K
theorem xr_ishl {x y : Int32} (hd : decode M.2.1 pc = .ok (.ishl, 1))
    (k : x_R sc d M (pc + 1) ls (.int (x <<< (y &&& 31)) :: st) h r h') : x_R sc d M pc ls (.int y :: .int x :: st) h r h' := by
  refine ⟨k.1, ?_⟩
  intro E p l e R s m args below meth c H locs LS n0 z0 Q C hn w lo kk
  have K := k.2 E p l e R s m args below meth c H locs LS n0 z0 Q C hn w lo kk
  exact lv_ishl C.1.1 C.1.2.1 hd K
theorem xr_ishr {x y : Int32} (hd : decode M.2.1 pc = .ok (.ishr, 1))
    (k : x_R sc d M (pc + 1) ls (.int (x >>> (y &&& 31)) :: st) h r h') : x_R sc d M pc ls (.int y :: .int x :: st) h r h' := by
  refine ⟨k.1, ?_⟩
  intro E p l e R s m args below meth c H locs LS n0 z0 Q C hn w lo kk
  have K := k.2 E p l e R s m args below meth c H locs LS n0 z0 Q C hn w lo kk
  exact lv_ishr C.1.1 C.1.2.1 hd K
theorem xr_iushr {x y : Int32} (hd : decode M.2.1 pc = .ok (.iushr, 1))
    (k : x_R sc d M (pc + 1) ls (.int ((x.toUInt32 >>> (y.toUInt32 &&& Int32.toUInt32 31)).toInt32) :: st) h r h') : x_R sc d M pc ls (.int y :: .int x :: st) h r h' := by
  refine ⟨k.1, ?_⟩
  intro E p l e R s m args below meth c H locs LS n0 z0 Q C hn w lo kk
  have K := k.2 E p l e R s m args below meth c H locs LS n0 z0 Q C hn w lo kk
  exact lv_iushr C.1.1 C.1.2.1 hd rfl K
theorem xr_idiv {x y : Int32} (hd : decode M.2.1 pc = .ok (.idiv, 1)) (hne : ¬ y = 0)
    (k : x_R sc d M (pc + 1) ls (.int (x / y) :: st) h r h') : x_R sc d M pc ls (.int y :: .int x :: st) h r h' := by
  refine ⟨k.1, ?_⟩
  intro E p l e R s m args below meth c H locs LS n0 z0 Q C hn w lo kk
  have K := k.2 E p l e R s m args below meth c H locs LS n0 z0 Q C hn w lo kk
  exact lv_idiv C.1.1 C.1.2.1 hd hne K
theorem xr_irem {x y : Int32} (hd : decode M.2.1 pc = .ok (.irem, 1)) (hne : ¬ y = 0)
    (k : x_R sc d M (pc + 1) ls (.int (x - x / y * y) :: st) h r h') : x_R sc d M pc ls (.int y :: .int x :: st) h r h' := by
  refine ⟨k.1, ?_⟩
  intro E p l e R s m args below meth c H locs LS n0 z0 Q C hn w lo kk
  have K := k.2 E p l e R s m args below meth c H locs LS n0 z0 Q C hn w lo kk
  exact lv_irem C.1.1 C.1.2.1 hd hne K
theorem xr_ineg {x : Int32} (hd : decode M.2.1 pc = .ok (.ineg, 1))
    (k : x_R sc d M (pc + 1) ls (.int (-x) :: st) h r h') : x_R sc d M pc ls (.int x :: st) h r h' := by
  refine ⟨k.1, ?_⟩
  intro E p l e R s m args below meth c H locs LS n0 z0 Q C hn w lo kk
  have K := k.2 E p l e R s m args below meth c H locs LS n0 z0 Q C hn w lo kk
  exact lv_ineg C.1.1 C.1.2.1 hd K
theorem xr_ladd {x y : Int64} (hd : decode M.2.1 pc = .ok (.ladd, 1))
    (k : x_R sc d M (pc + 1) ls (.long (x + y) :: st) h r h') : x_R sc d M pc ls (.long y :: .long x :: st) h r h' := by
  refine ⟨k.1, ?_⟩
  intro E p l e R s m args below meth c H locs LS n0 z0 Q C hn w lo kk
  have K := k.2 E p l e R s m args below meth c H locs LS n0 z0 Q C hn w lo kk
  exact lv_ladd C.1.1 C.1.2.1 hd K
theorem xr_lsub {x y : Int64} (hd : decode M.2.1 pc = .ok (.lsub, 1))
    (k : x_R sc d M (pc + 1) ls (.long (x - y) :: st) h r h') : x_R sc d M pc ls (.long y :: .long x :: st) h r h' := by
  refine ⟨k.1, ?_⟩
  intro E p l e R s m args below meth c H locs LS n0 z0 Q C hn w lo kk
  have K := k.2 E p l e R s m args below meth c H locs LS n0 z0 Q C hn w lo kk
  exact lv_lsub C.1.1 C.1.2.1 hd K
theorem xr_lmul {x y : Int64} (hd : decode M.2.1 pc = .ok (.lmul, 1))
    (k : x_R sc d M (pc + 1) ls (.long (x * y) :: st) h r h') : x_R sc d M pc ls (.long y :: .long x :: st) h r h' := by
  refine ⟨k.1, ?_⟩
  intro E p l e R s m args below meth c H locs LS n0 z0 Q C hn w lo kk
  have K := k.2 E p l e R s m args below meth c H locs LS n0 z0 Q C hn w lo kk
  exact lv_lmul C.1.1 C.1.2.1 hd K
theorem xr_land {x y : Int64} (hd : decode M.2.1 pc = .ok (.land, 1))
    (k : x_R sc d M (pc + 1) ls (.long (x &&& y) :: st) h r h') : x_R sc d M pc ls (.long y :: .long x :: st) h r h' := by
  refine ⟨k.1, ?_⟩
  intro E p l e R s m args below meth c H locs LS n0 z0 Q C hn w lo kk
  have K := k.2 E p l e R s m args below meth c H locs LS n0 z0 Q C hn w lo kk
  exact lv_land C.1.1 C.1.2.1 hd K
theorem xr_lor {x y : Int64} (hd : decode M.2.1 pc = .ok (.lor, 1))
    (k : x_R sc d M (pc + 1) ls (.long (x ||| y) :: st) h r h') : x_R sc d M pc ls (.long y :: .long x :: st) h r h' := by
  refine ⟨k.1, ?_⟩
  intro E p l e R s m args below meth c H locs LS n0 z0 Q C hn w lo kk
  have K := k.2 E p l e R s m args below meth c H locs LS n0 z0 Q C hn w lo kk
  exact lv_lor C.1.1 C.1.2.1 hd K
theorem xr_ldiv {x y : Int64} (hd : decode M.2.1 pc = .ok (.ldiv, 1)) (hne : ¬ y = 0)
    (k : x_R sc d M (pc + 1) ls (.long (x / y) :: st) h r h') : x_R sc d M pc ls (.long y :: .long x :: st) h r h' := by
  refine ⟨k.1, ?_⟩
  intro E p l e R s m args below meth c H locs LS n0 z0 Q C hn w lo kk
  have K := k.2 E p l e R s m args below meth c H locs LS n0 z0 Q C hn w lo kk
  exact lv_ldiv C.1.1 C.1.2.1 hd hne K
theorem xr_lrem {x y : Int64} (hd : decode M.2.1 pc = .ok (.lrem, 1)) (hne : ¬ y = 0)
    (k : x_R sc d M (pc + 1) ls (.long (x - x / y * y) :: st) h r h') : x_R sc d M pc ls (.long y :: .long x :: st) h r h' := by
  refine ⟨k.1, ?_⟩
  intro E p l e R s m args below meth c H locs LS n0 z0 Q C hn w lo kk
  have K := k.2 E p l e R s m args below meth c H locs LS n0 z0 Q C hn w lo kk
  exact lv_lrem C.1.1 C.1.2.1 hd hne K
theorem xr_lushr {x : Int64} {y : Int32} (hd : decode M.2.1 pc = .ok (.lushr, 1))
    (k : x_R sc d M (pc + 1) ls (.long ((x.toUInt64 >>> (y.toInt64.toUInt64 &&& Int64.toUInt64 63)).toInt64) :: st) h r h') : x_R sc d M pc ls (.int y :: .long x :: st) h r h' := by
  refine ⟨k.1, ?_⟩
  intro E p l e R s m args below meth c H locs LS n0 z0 Q C hn w lo kk
  have K := k.2 E p l e R s m args below meth c H locs LS n0 z0 Q C hn w lo kk
  exact lv_lushr C.1.1 C.1.2.1 hd rfl K
theorem xr_lshl {x : Int64} {y : Int32} (hd : decode M.2.1 pc = .ok (.lshl, 1))
    (k : x_R sc d M (pc + 1) ls (.long (x <<< (y.toInt64 &&& 63)) :: st) h r h') : x_R sc d M pc ls (.int y :: .long x :: st) h r h' := by
  refine ⟨k.1, ?_⟩
  intro E p l e R s m args below meth c H locs LS n0 z0 Q C hn w lo kk
  have K := k.2 E p l e R s m args below meth c H locs LS n0 z0 Q C hn w lo kk
  exact lv_lshl C.1.1 C.1.2.1 hd rfl K
theorem xr_lcmp {x y : Int64} (hd : decode M.2.1 pc = .ok (.lcmp, 1))
    (k : x_R sc d M (pc + 1) ls (.int (lg_cmp x y) :: st) h r h') : x_R sc d M pc ls (.long y :: .long x :: st) h r h' := by
  refine ⟨k.1, ?_⟩
  intro E p l e R s m args below meth c H locs LS n0 z0 Q C hn w lo kk
  have K := k.2 E p l e R s m args below meth c H locs LS n0 z0 Q C hn w lo kk
  exact W.lcmp C.1.1 C.1.2.1 hd K
theorem xr_i2l {x : Int32} (hd : decode M.2.1 pc = .ok (.i2l, 1))
    (k : x_R sc d M (pc + 1) ls (.long x.toInt64 :: st) h r h') : x_R sc d M pc ls (.int x :: st) h r h' := by
  refine ⟨k.1, ?_⟩
  intro E p l e R s m args below meth c H locs LS n0 z0 Q C hn w lo kk
  have K := k.2 E p l e R s m args below meth c H locs LS n0 z0 Q C hn w lo kk
  exact lv_i2l C.1.1 C.1.2.1 hd rfl K
theorem xr_l2i {x : Int64} (hd : decode M.2.1 pc = .ok (.l2i, 1))
    (k : x_R sc d M (pc + 1) ls (.int x.toInt32 :: st) h r h') : x_R sc d M pc ls (.long x :: st) h r h' := by
  refine ⟨k.1, ?_⟩
  intro E p l e R s m args below meth c H locs LS n0 z0 Q C hn w lo kk
  have K := k.2 E p l e R s m args below meth c H locs LS n0 z0 Q C hn w lo kk
  exact lv_l2i C.1.1 C.1.2.1 hd rfl K
theorem xr_i2b {x : Int32} (hd : decode M.2.1 pc = .ok (.i2b, 1))
    (k : x_R sc d M (pc + 1) ls (.int x.toInt8.toInt32 :: st) h r h') : x_R sc d M pc ls (.int x :: st) h r h' := by
  refine ⟨k.1, ?_⟩
  intro E p l e R s m args below meth c H locs LS n0 z0 Q C hn w lo kk
  have K := k.2 E p l e R s m args below meth c H locs LS n0 z0 Q C hn w lo kk
  exact lv_i2b C.1.1 C.1.2.1 hd rfl K
theorem xr_i2c {x : Int32} (hd : decode M.2.1 pc = .ok (.i2c, 1))
    (k : x_R sc d M (pc + 1) ls (.int (x.toUInt32 % 65536).toInt32 :: st) h r h') : x_R sc d M pc ls (.int x :: st) h r h' := by
  refine ⟨k.1, ?_⟩
  intro E p l e R s m args below meth c H locs LS n0 z0 Q C hn w lo kk
  have K := k.2 E p l e R s m args below meth c H locs LS n0 z0 Q C hn w lo kk
  exact lv_i2c C.1.1 C.1.2.1 hd rfl K
theorem xr_iconst {n : Int} (v : Int32) (hd : decode M.2.1 pc = .ok (.iconst n, 1)) (hv : Int32.ofInt n = v)
    (k : x_R sc d M (pc + 1) ls (.int v :: st) h r h') : x_R sc d M pc ls (st) h r h' := by
  refine ⟨k.1, ?_⟩
  intro E p l e R s m args below meth c H locs LS n0 z0 Q C hn w lo kk
  have K := k.2 E p l e R s m args below meth c H locs LS n0 z0 Q C hn w lo kk
  exact lv_iconst C.1.1 C.1.2.1 hd hv K
theorem xr_bipush {n : Int} (v : Int32) (hd : decode M.2.1 pc = .ok (.bipush n, 2)) (hv : (Int8.ofInt n).toInt32 = v)
    (k : x_R sc d M (pc + 2) ls (.int v :: st) h r h') : x_R sc d M pc ls (st) h r h' := by
  refine ⟨k.1, ?_⟩
  intro E p l e R s m args below meth c H locs LS n0 z0 Q C hn w lo kk
  have K := k.2 E p l e R s m args below meth c H locs LS n0 z0 Q C hn w lo kk
  exact lv_bipush C.1.1 C.1.2.1 hd hv K
theorem xr_sipush {n : Int} (v : Int32) (hd : decode M.2.1 pc = .ok (.sipush n, 3)) (hv : (Int16.ofInt n).toInt32 = v)
    (k : x_R sc d M (pc + 3) ls (.int v :: st) h r h') : x_R sc d M pc ls (st) h r h' := by
  refine ⟨k.1, ?_⟩
  intro E p l e R s m args below meth c H locs LS n0 z0 Q C hn w lo kk
  have K := k.2 E p l e R s m args below meth c H locs LS n0 z0 Q C hn w lo kk
  exact lv_sipush C.1.1 C.1.2.1 hd hv K
theorem xr_lconst {n : Fin 2} (v : Int64) (hd : decode M.2.1 pc = .ok (.lconst n, 1)) (hv : Int64.ofNat (n : Nat) = v)
    (k : x_R sc d M (pc + 1) ls (.long v :: st) h r h') : x_R sc d M pc ls (st) h r h' := by
  refine ⟨k.1, ?_⟩
  intro E p l e R s m args below meth c H locs LS n0 z0 Q C hn w lo kk
  have K := k.2 E p l e R s m args below meth c H locs LS n0 z0 Q C hn w lo kk
  exact lv_lconst C.1.1 C.1.2.1 hd hv K
theorem xr_null  (hd : decode M.2.1 pc = .ok (.aconst_null, 1))
    (k : x_R sc d M (pc + 1) ls (.null :: st) h r h') : x_R sc d M pc ls (st) h r h' := by
  refine ⟨k.1, ?_⟩
  intro E p l e R s m args below meth c H locs LS n0 z0 Q C hn w lo kk
  have K := k.2 E p l e R s m args below meth c H locs LS n0 z0 Q C hn w lo kk
  exact lv_null C.1.1 C.1.2.1 hd K
theorem xr_dup {a : Value} (hd : decode M.2.1 pc = .ok (.dup, 1)) (ha : a.category = 1)
    (k : x_R sc d M (pc + 1) ls (a :: a :: st) h r h') : x_R sc d M pc ls (a :: st) h r h' := by
  refine ⟨k.1, ?_⟩
  intro E p l e R s m args below meth c H locs LS n0 z0 Q C hn w lo kk
  have K := k.2 E p l e R s m args below meth c H locs LS n0 z0 Q C hn w lo kk
  exact lv_dup C.1.1 C.1.2.1 hd ((x_V_cat E a).trans ha) K
theorem xr_pop {a : Value} (hd : decode M.2.1 pc = .ok (.pop, 1)) (ha : a.category = 1)
    (k : x_R sc d M (pc + 1) ls (st) h r h') : x_R sc d M pc ls (a :: st) h r h' := by
  refine ⟨k.1, ?_⟩
  intro E p l e R s m args below meth c H locs LS n0 z0 Q C hn w lo kk
  have K := k.2 E p l e R s m args below meth c H locs LS n0 z0 Q C hn w lo kk
  exact lv_pop C.1.1 C.1.2.1 hd ((x_V_cat E a).trans ha) K
theorem xr_dup2 {a b : Value} (hd : decode M.2.1 pc = .ok (.dup2, 1)) (ha : a.category = 1) (hb : b.category = 1)
    (k : x_R sc d M (pc + 1) ls (a :: b :: a :: b :: st) h r h') : x_R sc d M pc ls (a :: b :: st) h r h' := by
  refine ⟨k.1, ?_⟩
  intro E p l e R s m args below meth c H locs LS n0 z0 Q C hn w lo kk
  have K := k.2 E p l e R s m args below meth c H locs LS n0 z0 Q C hn w lo kk
  exact lv_dup2_11 C.1.1 C.1.2.1 hd ((x_V_cat E a).trans ha) ((x_V_cat E b).trans hb) K
theorem xr_ldc {i : Nat} (v : Int32) (hd : decode M.2.1 pc = .ok (.ldc i, 2)) (hw : Cond.constant M.1.cls i v ∈ x_WS)
    (k : x_R sc d M (pc + 2) ls (.int v :: st) h r h') : x_R sc d M pc ls (st) h r h' := by
  refine ⟨k.1, ?_⟩
  intro E p l e R s m args below meth c H locs LS n0 z0 Q C hn w lo kk
  have K := k.2 E p l e R s m args below meth c H locs LS n0 z0 Q C hn w lo kk
  exact lv_ldc C.1.1 C.1.2.1 C.1.2.2.2.2.2.2 (C.2.1 _ hw) hd K
theorem xr_ldcw {i : Nat} (v : Int32) (hd : decode M.2.1 pc = .ok (.ldc_w i, 3)) (hw : Cond.constant M.1.cls i v ∈ x_WS)
    (k : x_R sc d M (pc + 3) ls (.int v :: st) h r h') : x_R sc d M pc ls (st) h r h' := by
  refine ⟨k.1, ?_⟩
  intro E p l e R s m args below meth c H locs LS n0 z0 Q C hn w lo kk
  have K := k.2 E p l e R s m args below meth c H locs LS n0 z0 Q C hn w lo kk
  exact lv_ldcw C.1.1 C.1.2.1 C.1.2.2.2.2.2.2 (C.2.1 _ hw) hd K
theorem xr_ldc2 {i : Nat} (v : Int64) (hd : decode M.2.1 pc = .ok (.ldc2_w i, 3)) (hw : Cond.constantLong M.1.cls i v ∈ x_WS)
    (k : x_R sc d M (pc + 3) ls (.long v :: st) h r h') : x_R sc d M pc ls (st) h r h' := by
  refine ⟨k.1, ?_⟩
  intro E p l e R s m args below meth c H locs LS n0 z0 Q C hn w lo kk
  have K := k.2 E p l e R s m args below meth c H locs LS n0 z0 Q C hn w lo kk
  exact lv_ldc2 C.1.1 C.1.2.1 C.1.2.2.2.2.2.2 (C.2.1 _ hw) hd K
theorem xr_if_eq {x : Int32} {off : Int} (tgt : Nat) (hd : decode M.2.1 pc = .ok (.ifCond .eq off, 3)) (ht : (pc : Int) + off = (tgt : Int))
    (kt : x = 0 → x_R sc d M tgt ls st h r h') (kf : ¬ (x = 0) → x_R sc d M (pc + 3) ls st h r h') : x_R sc d M pc ls (.int x :: st) h r h' := by
  refine ⟨?_, ?_⟩
  · by_cases q : x = 0
    · exact (kt q).1
    · exact (kf q).1
  intro E p l e R s m args below meth c H locs LS n0 z0 Q C hn w lo kk
  exact lv_if_eq C.1.1 C.1.2.1 hd ht (fun q => (kt q).2 E p l e R s m args below meth c H locs LS n0 z0 Q C hn w lo kk) (fun q => (kf q).2 E p l e R s m args below meth c H locs LS n0 z0 Q C hn w lo kk)
theorem xr_icmp_eq {x y : Int32} {off : Int} (tgt : Nat) (hd : decode M.2.1 pc = .ok (.if_icmp .eq off, 3)) (ht : (pc : Int) + off = (tgt : Int))
    (kt : x = y → x_R sc d M tgt ls st h r h') (kf : ¬ (x = y) → x_R sc d M (pc + 3) ls st h r h') : x_R sc d M pc ls (.int y :: .int x :: st) h r h' := by
  refine ⟨?_, ?_⟩
  · by_cases q : x = y
    · exact (kt q).1
    · exact (kf q).1
  intro E p l e R s m args below meth c H locs LS n0 z0 Q C hn w lo kk
  exact lv_icmp_eq C.1.1 C.1.2.1 hd ht (fun q => (kt q).2 E p l e R s m args below meth c H locs LS n0 z0 Q C hn w lo kk) (fun q => (kf q).2 E p l e R s m args below meth c H locs LS n0 z0 Q C hn w lo kk)
theorem xr_if_ne {x : Int32} {off : Int} (tgt : Nat) (hd : decode M.2.1 pc = .ok (.ifCond .ne off, 3)) (ht : (pc : Int) + off = (tgt : Int))
    (kt : ¬ x = 0 → x_R sc d M tgt ls st h r h') (kf : x = 0 → x_R sc d M (pc + 3) ls st h r h') : x_R sc d M pc ls (.int x :: st) h r h' := by
  refine ⟨?_, ?_⟩
  · by_cases q : ¬ x = 0
    · exact (kt q).1
    · exact (kf (Classical.not_not.mp q)).1
  intro E p l e R s m args below meth c H locs LS n0 z0 Q C hn w lo kk
  exact lv_if_ne C.1.1 C.1.2.1 hd ht (fun q => (kt q).2 E p l e R s m args below meth c H locs LS n0 z0 Q C hn w lo kk) (fun q => (kf q).2 E p l e R s m args below meth c H locs LS n0 z0 Q C hn w lo kk)
theorem xr_icmp_ne {x y : Int32} {off : Int} (tgt : Nat) (hd : decode M.2.1 pc = .ok (.if_icmp .ne off, 3)) (ht : (pc : Int) + off = (tgt : Int))
    (kt : ¬ x = y → x_R sc d M tgt ls st h r h') (kf : x = y → x_R sc d M (pc + 3) ls st h r h') : x_R sc d M pc ls (.int y :: .int x :: st) h r h' := by
  refine ⟨?_, ?_⟩
  · by_cases q : ¬ x = y
    · exact (kt q).1
    · exact (kf (Classical.not_not.mp q)).1
  intro E p l e R s m args below meth c H locs LS n0 z0 Q C hn w lo kk
  exact lv_icmp_ne C.1.1 C.1.2.1 hd ht (fun q => (kt q).2 E p l e R s m args below meth c H locs LS n0 z0 Q C hn w lo kk) (fun q => (kf q).2 E p l e R s m args below meth c H locs LS n0 z0 Q C hn w lo kk)
theorem xr_if_lt {x : Int32} {off : Int} (tgt : Nat) (hd : decode M.2.1 pc = .ok (.ifCond .lt off, 3)) (ht : (pc : Int) + off = (tgt : Int))
    (kt : x < 0 → x_R sc d M tgt ls st h r h') (kf : ¬ (x < 0) → x_R sc d M (pc + 3) ls st h r h') : x_R sc d M pc ls (.int x :: st) h r h' := by
  refine ⟨?_, ?_⟩
  · by_cases q : x < 0
    · exact (kt q).1
    · exact (kf q).1
  intro E p l e R s m args below meth c H locs LS n0 z0 Q C hn w lo kk
  exact lv_if_lt C.1.1 C.1.2.1 hd ht (fun q => (kt q).2 E p l e R s m args below meth c H locs LS n0 z0 Q C hn w lo kk) (fun q => (kf q).2 E p l e R s m args below meth c H locs LS n0 z0 Q C hn w lo kk)
theorem xr_icmp_lt {x y : Int32} {off : Int} (tgt : Nat) (hd : decode M.2.1 pc = .ok (.if_icmp .lt off, 3)) (ht : (pc : Int) + off = (tgt : Int))
    (kt : x < y → x_R sc d M tgt ls st h r h') (kf : ¬ (x < y) → x_R sc d M (pc + 3) ls st h r h') : x_R sc d M pc ls (.int y :: .int x :: st) h r h' := by
  refine ⟨?_, ?_⟩
  · by_cases q : x < y
    · exact (kt q).1
    · exact (kf q).1
  intro E p l e R s m args below meth c H locs LS n0 z0 Q C hn w lo kk
  exact lv_icmp_lt C.1.1 C.1.2.1 hd ht (fun q => (kt q).2 E p l e R s m args below meth c H locs LS n0 z0 Q C hn w lo kk) (fun q => (kf q).2 E p l e R s m args below meth c H locs LS n0 z0 Q C hn w lo kk)
theorem xr_if_ge {x : Int32} {off : Int} (tgt : Nat) (hd : decode M.2.1 pc = .ok (.ifCond .ge off, 3)) (ht : (pc : Int) + off = (tgt : Int))
    (kt : 0 ≤ x → x_R sc d M tgt ls st h r h') (kf : ¬ (0 ≤ x) → x_R sc d M (pc + 3) ls st h r h') : x_R sc d M pc ls (.int x :: st) h r h' := by
  refine ⟨?_, ?_⟩
  · by_cases q : 0 ≤ x
    · exact (kt q).1
    · exact (kf q).1
  intro E p l e R s m args below meth c H locs LS n0 z0 Q C hn w lo kk
  exact lv_if_ge C.1.1 C.1.2.1 hd ht (fun q => (kt q).2 E p l e R s m args below meth c H locs LS n0 z0 Q C hn w lo kk) (fun q => (kf q).2 E p l e R s m args below meth c H locs LS n0 z0 Q C hn w lo kk)
theorem xr_icmp_ge {x y : Int32} {off : Int} (tgt : Nat) (hd : decode M.2.1 pc = .ok (.if_icmp .ge off, 3)) (ht : (pc : Int) + off = (tgt : Int))
    (kt : y ≤ x → x_R sc d M tgt ls st h r h') (kf : ¬ (y ≤ x) → x_R sc d M (pc + 3) ls st h r h') : x_R sc d M pc ls (.int y :: .int x :: st) h r h' := by
  refine ⟨?_, ?_⟩
  · by_cases q : y ≤ x
    · exact (kt q).1
    · exact (kf q).1
  intro E p l e R s m args below meth c H locs LS n0 z0 Q C hn w lo kk
  exact lv_icmp_ge C.1.1 C.1.2.1 hd ht (fun q => (kt q).2 E p l e R s m args below meth c H locs LS n0 z0 Q C hn w lo kk) (fun q => (kf q).2 E p l e R s m args below meth c H locs LS n0 z0 Q C hn w lo kk)
theorem xr_if_gt {x : Int32} {off : Int} (tgt : Nat) (hd : decode M.2.1 pc = .ok (.ifCond .gt off, 3)) (ht : (pc : Int) + off = (tgt : Int))
    (kt : 0 < x → x_R sc d M tgt ls st h r h') (kf : ¬ (0 < x) → x_R sc d M (pc + 3) ls st h r h') : x_R sc d M pc ls (.int x :: st) h r h' := by
  refine ⟨?_, ?_⟩
  · by_cases q : 0 < x
    · exact (kt q).1
    · exact (kf q).1
  intro E p l e R s m args below meth c H locs LS n0 z0 Q C hn w lo kk
  exact lv_if_gt C.1.1 C.1.2.1 hd ht (fun q => (kt q).2 E p l e R s m args below meth c H locs LS n0 z0 Q C hn w lo kk) (fun q => (kf q).2 E p l e R s m args below meth c H locs LS n0 z0 Q C hn w lo kk)
theorem xr_icmp_gt {x y : Int32} {off : Int} (tgt : Nat) (hd : decode M.2.1 pc = .ok (.if_icmp .gt off, 3)) (ht : (pc : Int) + off = (tgt : Int))
    (kt : y < x → x_R sc d M tgt ls st h r h') (kf : ¬ (y < x) → x_R sc d M (pc + 3) ls st h r h') : x_R sc d M pc ls (.int y :: .int x :: st) h r h' := by
  refine ⟨?_, ?_⟩
  · by_cases q : y < x
    · exact (kt q).1
    · exact (kf q).1
  intro E p l e R s m args below meth c H locs LS n0 z0 Q C hn w lo kk
  exact lv_icmp_gt C.1.1 C.1.2.1 hd ht (fun q => (kt q).2 E p l e R s m args below meth c H locs LS n0 z0 Q C hn w lo kk) (fun q => (kf q).2 E p l e R s m args below meth c H locs LS n0 z0 Q C hn w lo kk)
theorem xr_if_le {x : Int32} {off : Int} (tgt : Nat) (hd : decode M.2.1 pc = .ok (.ifCond .le off, 3)) (ht : (pc : Int) + off = (tgt : Int))
    (kt : x ≤ 0 → x_R sc d M tgt ls st h r h') (kf : ¬ (x ≤ 0) → x_R sc d M (pc + 3) ls st h r h') : x_R sc d M pc ls (.int x :: st) h r h' := by
  refine ⟨?_, ?_⟩
  · by_cases q : x ≤ 0
    · exact (kt q).1
    · exact (kf q).1
  intro E p l e R s m args below meth c H locs LS n0 z0 Q C hn w lo kk
  exact lv_if_le C.1.1 C.1.2.1 hd ht (fun q => (kt q).2 E p l e R s m args below meth c H locs LS n0 z0 Q C hn w lo kk) (fun q => (kf q).2 E p l e R s m args below meth c H locs LS n0 z0 Q C hn w lo kk)
theorem xr_icmp_le {x y : Int32} {off : Int} (tgt : Nat) (hd : decode M.2.1 pc = .ok (.if_icmp .le off, 3)) (ht : (pc : Int) + off = (tgt : Int))
    (kt : x ≤ y → x_R sc d M tgt ls st h r h') (kf : ¬ (x ≤ y) → x_R sc d M (pc + 3) ls st h r h') : x_R sc d M pc ls (.int y :: .int x :: st) h r h' := by
  refine ⟨?_, ?_⟩
  · by_cases q : x ≤ y
    · exact (kt q).1
    · exact (kf q).1
  intro E p l e R s m args below meth c H locs LS n0 z0 Q C hn w lo kk
  exact lv_icmp_le C.1.1 C.1.2.1 hd ht (fun q => (kt q).2 E p l e R s m args below meth c H locs LS n0 z0 Q C hn w lo kk) (fun q => (kf q).2 E p l e R s m args below meth c H locs LS n0 z0 Q C hn w lo kk)
theorem xr_goto {off : Int} (tgt : Nat) (hd : decode M.2.1 pc = .ok (.goto off, 3)) (ht : (pc : Int) + off = (tgt : Int))
    (k : x_R sc d M tgt ls st h r h') : x_R sc d M pc ls (st) h r h' := by
  refine ⟨k.1, ?_⟩
  intro E p l e R s m args below meth c H locs LS n0 z0 Q C hn w lo kk
  have K := k.2 E p l e R s m args below meth c H locs LS n0 z0 Q C hn w lo kk
  exact lv_goto C.1.1 C.1.2.1 hd ht K
theorem xr_ifnull_r {a : Nat} {off : Int} (hd : decode M.2.1 pc = .ok (.ifnull off, 3))
    (k : x_R sc d M (pc + 3) ls st h r h') : x_R sc d M pc ls (.ref a :: st) h r h' := by
  refine ⟨k.1, ?_⟩
  intro E p l e R s m args below meth c H locs LS n0 z0 Q C hn w lo kk
  have K := k.2 E p l e R s m args below meth c H locs LS n0 z0 Q C hn w lo kk
  exact lv_ifnull C.1.1 C.1.2.1 hd K
theorem xr_ifnonnull_r {a : Nat} {off : Int} (tgt : Nat) (hd : decode M.2.1 pc = .ok (.ifnonnull off, 3)) (ht : (pc : Int) + off = (tgt : Int))
    (k : x_R sc d M tgt ls st h r h') : x_R sc d M pc ls (.ref a :: st) h r h' := by
  refine ⟨k.1, ?_⟩
  intro E p l e R s m args below meth c H locs LS n0 z0 Q C hn w lo kk
  have K := k.2 E p l e R s m args below meth c H locs LS n0 z0 Q C hn w lo kk
  exact lv_ifnonnull C.1.1 C.1.2.1 hd ht K
theorem xr_ifnull_n {off : Int} (tgt : Nat) (hd : decode M.2.1 pc = .ok (.ifnull off, 3)) (ht : (pc : Int) + off = (tgt : Int))
    (k : x_R sc d M tgt ls st h r h') : x_R sc d M pc ls (.null :: st) h r h' := by
  refine ⟨k.1, ?_⟩
  intro E p l e R s m args below meth c H locs LS n0 z0 Q C hn w lo kk
  have K := k.2 E p l e R s m args below meth c H locs LS n0 z0 Q C hn w lo kk
  exact lv_ifnullN C.1.1 C.1.2.1 hd ht K
theorem xr_ifnonnull_n {off : Int} (hd : decode M.2.1 pc = .ok (.ifnonnull off, 3))
    (k : x_R sc d M (pc + 3) ls st h r h') : x_R sc d M pc ls (.null :: st) h r h' := by
  refine ⟨k.1, ?_⟩
  intro E p l e R s m args below meth c H locs LS n0 z0 Q C hn w lo kk
  have K := k.2 E p l e R s m args below meth c H locs LS n0 z0 Q C hn w lo kk
  exact lv_ifnonnullN C.1.1 C.1.2.1 hd K
theorem xr_tabOut {dflt lo hi : Int} {offs : Array Int} {len : Nat} {x : Int32} (tgt : Nat) (hd : decode M.2.1 pc = .ok (.tableswitch dflt lo hi offs, len)) (hx : x.toInt < lo ∨ hi < x.toInt) (ht : (pc : Int) + dflt = (tgt : Int))
    (k : x_R sc d M tgt ls st h r h') : x_R sc d M pc ls (.int x :: st) h r h' := by
  refine ⟨k.1, ?_⟩
  intro E p l e R s m args below meth c H locs LS n0 z0 Q C hn w lo kk
  have K := k.2 E p l e R s m args below meth c H locs LS n0 z0 Q C hn w lo kk
  exact lv_tableOut C.1.1 C.1.2.1 hd hx ht K
theorem xr_tabIn {dflt lo hi : Int} {offs : Array Int} {len : Nat} {x : Int32} {off : Int} (tgt : Nat) (hd : decode M.2.1 pc = .ok (.tableswitch dflt lo hi offs, len)) (h1 : ¬ x.toInt < lo) (h2 : ¬ hi < x.toInt) (ho : offs[(x.toInt - lo).toNat]? = some off) (ht : (pc : Int) + off = (tgt : Int))
    (k : x_R sc d M tgt ls st h r h') : x_R sc d M pc ls (.int x :: st) h r h' := by
  refine ⟨k.1, ?_⟩
  intro E p l e R s m args below meth c H locs LS n0 z0 Q C hn w lo kk
  have K := k.2 E p l e R s m args below meth c H locs LS n0 z0 Q C hn w lo kk
  exact lv_tableIn C.1.1 C.1.2.1 hd h1 h2 ho ht K
theorem xr_lookup {dflt : Int} {ps : Array (Int × Int)} {len : Nat} {x : Int32} {off : Int} (tgt : Nat) (hd : decode M.2.1 pc = .ok (.lookupswitch dflt ps, len)) (hp : (ps.toList.zip (ps.toList.drop 1)).all (fun (a, next) => a.1 < next.1) = true) (ho : Op.lookupswitch.offset ps.toList dflt x.toInt = off) (ht : (pc : Int) + off = (tgt : Int))
    (k : x_R sc d M tgt ls st h r h') : x_R sc d M pc ls (.int x :: st) h r h' := by
  refine ⟨k.1, ?_⟩
  intro E p l e R s m args below meth c H locs LS n0 z0 Q C hn w lo kk
  have K := k.2 E p l e R s m args below meth c H locs LS n0 z0 Q C hn w lo kk
  exact lv_lookup C.1.1 C.1.2.1 hd hp ho ht K
end XR
