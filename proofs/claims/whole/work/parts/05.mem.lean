/-! local variables, fields, rows (arrays), ends -/
def x_prs (E : x_Env) (ls : List Value) : List (Nat × Value) := (ls.zipIdx.filter (fun q => !x_un q.1)).map (fun q => (q.2, x_V E q.1))
theorem x_prs_mem {E : x_Env} {ls : List Value} {q : Nat × Value} : q ∈ x_prs E ls ↔ ∃ v, ls[q.1]? = some v ∧ x_un v = false ∧ q.2 = x_V E v := by
  simp only [x_prs, List.mem_map, List.mem_filter, Prod.exists, List.mem_zipIdx_iff_getElem?]
  constructor
  · rintro ⟨v, i, ⟨h1, h2⟩, rfl⟩
    exact ⟨v, h1, by simpa using h2, rfl⟩
  · rintro ⟨v, h1, h2, h3⟩
    exact ⟨v, q.1, ⟨h1, by simpa using h2⟩, by rw [← h3]⟩
theorem x_Lo.has {E : x_Env} {n : Nat} {ls : List Value} {LS : Array Slot} (lo : x_Lo E n ls LS) : lv_has LS n (x_prs E ls) := by
  refine ⟨lo.2.1, lo.2.2.1, fun q hq => ?_⟩
  obtain ⟨v, h1, h2, h3⟩ := x_prs_mem.mp hq
  rw [h3]
  exact lo.2.2.2 q.1 v h1 h2
theorem x_Lo.ld {E : x_Env} {n : Nat} {ls : List Value} {LS : Array Slot} {i : Nat} {v : Value} (lo : x_Lo E n ls LS) (hl : ls[i]? = some v) (hu : x_un v = false) : LS[i]? = some (.val (x_V E v)) := lo.2.2.2 i v hl hu
/-- no long stands just before: a store here cuts none -/
def x_ok1 (ls : List Value) : Nat → Bool
  | 0 => true
  | j + 1 => match ls[j]? with
    | some v => v.category == 1
    | none => true
theorem x_ok1_use {ls : List Value} {i j : Nat} {w : Value} (h : x_ok1 ls i = true) (hj : j + 1 = i) (hw : ls[j]? = some w) : w.category = 1 := by
  subst hj
  simpa [x_ok1, hw] using h
theorem x_Lo.st1 {E : x_Env} {n i : Nat} {ls : List Value} {LS LS' : Array Slot} {v : Value} (lo : x_Lo E n ls LS) (hi : i < n) (ho : x_ok1 ls i = true)
    (hh : lv_has LS' n ((i, x_V E v) :: (x_prs E ls).filter (fun q => !(q.1 == i) && !(q.1 + 1 == i && q.2.category == 2)))) : x_Lo E n (ls.set i v) LS' := by
  refine ⟨by rw [List.length_set]; exact lo.1, hh.1, hh.2.1, fun j w hj hw => ?_⟩
  by_cases hji : i = j
  · subst hji
    rw [List.getElem?_set_self (by rw [lo.1]; exact hi)] at hj
    cases hj
    exact hh.2.2 (i, x_V E v) List.mem_cons_self
  · rw [List.getElem?_set_ne hji] at hj
    refine hh.2.2 (j, x_V E w) (List.mem_cons_of_mem _ (List.mem_filter.mpr ⟨x_prs_mem.mpr ⟨w, hj, hw, rfl⟩, ?_⟩))
    have e1 : (j == i) = false := by simp; omega
    by_cases hc : j + 1 = i
    · have := x_ok1_use ho hc hj
      simp [e1, x_V_cat, this]
    · simp [e1, hc]
theorem x_Lo.st2 {E : x_Env} {n i : Nat} {ls : List Value} {LS LS' : Array Slot} {v : Value} (lo : x_Lo E n ls LS) (hi : i + 1 < n) (ho : x_ok1 ls i = true)
    (hh : lv_has LS' n ((i, x_V E v) :: (x_prs E ls).filter (fun q => !(q.1 == i) && (!(q.1 == i + 1) && !(q.1 + 1 == i && q.2.category == 2))))) : x_Lo E n ((ls.set i v).set (i + 1) (.retAddr 0)) LS' := by
  refine ⟨by rw [List.length_set, List.length_set]; exact lo.1, hh.1, hh.2.1, fun j w hj hw => ?_⟩
  by_cases hj1 : i + 1 = j
  · subst hj1
    rw [List.getElem?_set_self (by rw [List.length_set, lo.1]; exact hi)] at hj
    cases hj
    cases hw
  rw [List.getElem?_set_ne hj1] at hj
  by_cases hji : i = j
  · subst hji
    rw [List.getElem?_set_self (by rw [lo.1]; omega)] at hj
    cases hj
    exact hh.2.2 (i, x_V E v) List.mem_cons_self
  · rw [List.getElem?_set_ne hji] at hj
    refine hh.2.2 (j, x_V E w) (List.mem_cons_of_mem _ (List.mem_filter.mpr ⟨x_prs_mem.mpr ⟨w, hj, hw, rfl⟩, ?_⟩))
    have e1 : (j == i) = false := by simp; omega
    have e2 : (j == i + 1) = false := by simp; omega
    by_cases hc : j + 1 = i
    · have := x_ok1_use ho hc hj
      simp [e1, e2, x_V_cat, this]
    · simp [e1, e2, hc]
section XM
variable {sc : Nat × (Nat → Int32)} {d : Nat} {M : x_Mt} {pc : Nat} {ls st : List Value} {h h' : x_H} {r : Option Value}
theorem xr_iload {i : Nat} (x : Int32) (hd : decode M.2.1 pc = .ok (.iload i, 2)) (hl : ls[i]? = some (.int x))
    (k : x_R sc d M (pc + 2) ls (.int x :: st) h r h') : x_R sc d M pc ls (st) h r h' := by
  refine ⟨k.1, ?_⟩
  intro E p l e R s m args below meth c H locs LS n0 z0 Q C hn w lo kk
  exact lv_iload C.1.1 C.1.2.1 hd (lo.ld hl rfl) (k.2 E p l e R s m args below meth c H locs LS n0 z0 Q C hn w lo kk)
theorem xr_iload_n {i : Fin 4} (x : Int32) (hd : decode M.2.1 pc = .ok (.iload_n i, 1)) (hl : ls[(i : Nat)]? = some (.int x))
    (k : x_R sc d M (pc + 1) ls (.int x :: st) h r h') : x_R sc d M pc ls (st) h r h' := by
  refine ⟨k.1, ?_⟩
  intro E p l e R s m args below meth c H locs LS n0 z0 Q C hn w lo kk
  exact lv_iload_n C.1.1 C.1.2.1 hd rfl (lo.ld hl rfl) (k.2 E p l e R s m args below meth c H locs LS n0 z0 Q C hn w lo kk)
theorem xr_lload {i : Nat} (x : Int64) (hd : decode M.2.1 pc = .ok (.lload i, 2)) (hl : ls[i]? = some (.long x))
    (k : x_R sc d M (pc + 2) ls (.long x :: st) h r h') : x_R sc d M pc ls (st) h r h' := by
  refine ⟨k.1, ?_⟩
  intro E p l e R s m args below meth c H locs LS n0 z0 Q C hn w lo kk
  exact lv_lload C.1.1 C.1.2.1 hd (lo.ld hl rfl) (k.2 E p l e R s m args below meth c H locs LS n0 z0 Q C hn w lo kk)
theorem xr_lload_n {i : Fin 4} (x : Int64) (hd : decode M.2.1 pc = .ok (.lload_n i, 1)) (hl : ls[(i : Nat)]? = some (.long x))
    (k : x_R sc d M (pc + 1) ls (.long x :: st) h r h') : x_R sc d M pc ls (st) h r h' := by
  refine ⟨k.1, ?_⟩
  intro E p l e R s m args below meth c H locs LS n0 z0 Q C hn w lo kk
  exact lv_lload_n C.1.1 C.1.2.1 hd rfl (lo.ld hl rfl) (k.2 E p l e R s m args below meth c H locs LS n0 z0 Q C hn w lo kk)
theorem xr_aload {i : Nat} (x : Nat) (hd : decode M.2.1 pc = .ok (.aload i, 2)) (hl : ls[i]? = some (.ref x))
    (k : x_R sc d M (pc + 2) ls (.ref x :: st) h r h') : x_R sc d M pc ls (st) h r h' := by
  refine ⟨k.1, ?_⟩
  intro E p l e R s m args below meth c H locs LS n0 z0 Q C hn w lo kk
  exact lv_aload C.1.1 C.1.2.1 hd (lo.ld hl rfl) (k.2 E p l e R s m args below meth c H locs LS n0 z0 Q C hn w lo kk)
theorem xr_aload_n {i : Fin 4} (x : Nat) (hd : decode M.2.1 pc = .ok (.aload_n i, 1)) (hl : ls[(i : Nat)]? = some (.ref x))
    (k : x_R sc d M (pc + 1) ls (.ref x :: st) h r h') : x_R sc d M pc ls (st) h r h' := by
  refine ⟨k.1, ?_⟩
  intro E p l e R s m args below meth c H locs LS n0 z0 Q C hn w lo kk
  exact lv_aload_n C.1.1 C.1.2.1 hd rfl (lo.ld hl rfl) (k.2 E p l e R s m args below meth c H locs LS n0 z0 Q C hn w lo kk)
theorem xr_aload0 {i : Nat} (hd : decode M.2.1 pc = .ok (.aload i, 2)) (hl : ls[i]? = some .null)
    (k : x_R sc d M (pc + 2) ls (.null :: st) h r h') : x_R sc d M pc ls (st) h r h' := by
  refine ⟨k.1, ?_⟩
  intro E p l e R s m args below meth c H locs LS n0 z0 Q C hn w lo kk
  exact lv_aloadN C.1.1 C.1.2.1 hd (lo.ld hl rfl) (k.2 E p l e R s m args below meth c H locs LS n0 z0 Q C hn w lo kk)
theorem xr_aload_n0 {i : Fin 4} (hd : decode M.2.1 pc = .ok (.aload_n i, 1)) (hl : ls[(i : Nat)]? = some .null)
    (k : x_R sc d M (pc + 1) ls (.null :: st) h r h') : x_R sc d M pc ls (st) h r h' := by
  refine ⟨k.1, ?_⟩
  intro E p l e R s m args below meth c H locs LS n0 z0 Q C hn w lo kk
  exact lv_aload_nN C.1.1 C.1.2.1 hd rfl (lo.ld hl rfl) (k.2 E p l e R s m args below meth c H locs LS n0 z0 Q C hn w lo kk)
theorem xr_istore {i : Nat} {x : Int32} (hd : decode M.2.1 pc = .ok (.istore i, 2)) (hi : i < M.2.2.1) (ho : x_ok1 ls i = true)
    (k : x_R sc d M (pc + 2) (ls.set i (.int x)) (st) h r h') : x_R sc d M pc ls (.int x :: st) h r h' := by
  refine ⟨k.1, ?_⟩
  intro E p l e R s m args below meth c H locs LS n0 z0 Q C hn w lo kk
  exact lv_istore C.1.1 C.1.2.1 hd lo.has hi rfl (fun LS2 hh => k.2 E p l e R s m args below meth c H locs LS2 n0 z0 Q C hn w (x_Lo.st1 (v := .int x) lo hi ho hh) kk)
theorem xr_istore_n {i : Fin 4} {x : Int32} (hd : decode M.2.1 pc = .ok (.istore_n i, 1)) (hi : (i : Nat) < M.2.2.1) (ho : x_ok1 ls i = true)
    (k : x_R sc d M (pc + 1) (ls.set i (.int x)) (st) h r h') : x_R sc d M pc ls (.int x :: st) h r h' := by
  refine ⟨k.1, ?_⟩
  intro E p l e R s m args below meth c H locs LS n0 z0 Q C hn w lo kk
  exact lv_istore_n C.1.1 C.1.2.1 hd rfl lo.has hi rfl (fun LS2 hh => k.2 E p l e R s m args below meth c H locs LS2 n0 z0 Q C hn w (x_Lo.st1 (v := .int x) lo hi ho hh) kk)
theorem xr_astore {i : Nat} {x : Nat} (hd : decode M.2.1 pc = .ok (.astore i, 2)) (hi : i < M.2.2.1) (ho : x_ok1 ls i = true)
    (k : x_R sc d M (pc + 2) (ls.set i (.ref x)) (st) h r h') : x_R sc d M pc ls (.ref x :: st) h r h' := by
  refine ⟨k.1, ?_⟩
  intro E p l e R s m args below meth c H locs LS n0 z0 Q C hn w lo kk
  exact lv_astore C.1.1 C.1.2.1 hd lo.has hi rfl (fun LS2 hh => k.2 E p l e R s m args below meth c H locs LS2 n0 z0 Q C hn w (x_Lo.st1 (v := .ref x) lo hi ho hh) kk)
theorem xr_astore_n {i : Fin 4} {x : Nat} (hd : decode M.2.1 pc = .ok (.astore_n i, 1)) (hi : (i : Nat) < M.2.2.1) (ho : x_ok1 ls i = true)
    (k : x_R sc d M (pc + 1) (ls.set i (.ref x)) (st) h r h') : x_R sc d M pc ls (.ref x :: st) h r h' := by
  refine ⟨k.1, ?_⟩
  intro E p l e R s m args below meth c H locs LS n0 z0 Q C hn w lo kk
  exact lv_astore_n C.1.1 C.1.2.1 hd rfl lo.has hi rfl (fun LS2 hh => k.2 E p l e R s m args below meth c H locs LS2 n0 z0 Q C hn w (x_Lo.st1 (v := .ref x) lo hi ho hh) kk)
theorem xr_astore0 {i : Nat} (hd : decode M.2.1 pc = .ok (.astore i, 2)) (hi : i < M.2.2.1) (ho : x_ok1 ls i = true)
    (k : x_R sc d M (pc + 2) (ls.set i .null) (st) h r h') : x_R sc d M pc ls (.null :: st) h r h' := by
  refine ⟨k.1, ?_⟩
  intro E p l e R s m args below meth c H locs LS n0 z0 Q C hn w lo kk
  exact lv_astoreN C.1.1 C.1.2.1 hd lo.has hi rfl (fun LS2 hh => k.2 E p l e R s m args below meth c H locs LS2 n0 z0 Q C hn w (x_Lo.st1 (v := .null) lo hi ho hh) kk)
theorem xr_astore_n0 {i : Fin 4} (hd : decode M.2.1 pc = .ok (.astore_n i, 1)) (hi : (i : Nat) < M.2.2.1) (ho : x_ok1 ls i = true)
    (k : x_R sc d M (pc + 1) (ls.set i .null) (st) h r h') : x_R sc d M pc ls (.null :: st) h r h' := by
  refine ⟨k.1, ?_⟩
  intro E p l e R s m args below meth c H locs LS n0 z0 Q C hn w lo kk
  exact lv_astore_nN C.1.1 C.1.2.1 hd rfl lo.has hi rfl (fun LS2 hh => k.2 E p l e R s m args below meth c H locs LS2 n0 z0 Q C hn w (x_Lo.st1 (v := .null) lo hi ho hh) kk)
theorem xr_lstore {i : Nat} {x : Int64} (hd : decode M.2.1 pc = .ok (.lstore i, 2)) (hi : i + 1 < M.2.2.1) (ho : x_ok1 ls i = true)
    (k : x_R sc d M (pc + 2) ((ls.set i (.long x)).set (i + 1) (.retAddr 0)) (st) h r h') : x_R sc d M pc ls (.long x :: st) h r h' := by
  refine ⟨k.1, ?_⟩
  intro E p l e R s m args below meth c H locs LS n0 z0 Q C hn w lo kk
  exact lv_lstore C.1.1 C.1.2.1 hd lo.has hi rfl (fun LS2 hh => k.2 E p l e R s m args below meth c H locs LS2 n0 z0 Q C hn w (x_Lo.st2 (v := .long x) lo hi ho hh) kk)
theorem xr_lstore_n {i : Fin 4} {x : Int64} (hd : decode M.2.1 pc = .ok (.lstore_n i, 1)) (hi : (i : Nat) + 1 < M.2.2.1) (ho : x_ok1 ls i = true)
    (k : x_R sc d M (pc + 1) ((ls.set i (.long x)).set (i + 1) (.retAddr 0)) (st) h r h') : x_R sc d M pc ls (.long x :: st) h r h' := by
  refine ⟨k.1, ?_⟩
  intro E p l e R s m args below meth c H locs LS n0 z0 Q C hn w lo kk
  exact lv_lstore_n C.1.1 C.1.2.1 hd rfl lo.has hi rfl (fun LS2 hh => k.2 E p l e R s m args below meth c H locs LS2 n0 z0 Q C hn w (x_Lo.st2 (v := .long x) lo hi ho hh) kk)
theorem xr_iinc {i : Nat} {n : Int} (x : Int32) (v : Int32) (hd : decode M.2.1 pc = .ok (.iinc i n, 3)) (hl : ls[i]? = some (.int x)) (hv : x + Int32.ofInt n = v) (hi : i < M.2.2.1) (ho : x_ok1 ls i = true)
    (k : x_R sc d M (pc + 3) (ls.set i (.int v)) (st) h r h') : x_R sc d M pc ls (st) h r h' := by
  refine ⟨k.1, ?_⟩
  intro E p l e R s m args below meth c H locs LS n0 z0 Q C hn w lo kk
  obtain ⟨j, hj⟩ := List.getElem?_of_mem (x_prs_mem (q := (i, .int x)).mpr ⟨.int x, hl, rfl, rfl⟩ : (i, Value.int x) ∈ x_prs E ls)
  exact lv_iinc C.1.1 C.1.2.1 hd lo.has hj hv hi rfl (fun LS2 hh => k.2 E p l e R s m args below meth c H locs LS2 n0 z0 Q C hn w (x_Lo.st1 (v := .int v) lo hi ho hh) kk)
/-- a field's link: the j-th field of the class ci of vwCl -/
def x_fl (own : String) (idx ci j : Nat) : Prop := ∃ q : vw_C, vwCl[ci]? = some q ∧ j < q.2.2 ∧ Cond.fieldLink own idx (q.2.1 j).1 (q.2.1 j).2.1 (q.2.1 j).2.2.1 ∈ x_WS
/-- ... that may be written (fin: it is final) -/
def x_fp (own : String) (idx ci j : Nat) (ty : FieldType) (fin : Bool) : Prop := ∃ q : vw_C, vwCl[ci]? = some q ∧ j < q.2.2 ∧ Cond.fieldLink own idx (q.2.1 j).1 (q.2.1 j).2.1 (q.2.1 j).2.2.1 ∈ x_WS ∧ (q.2.1 j).2.2.2 = fin ∧ (fin = true → (q.2.1 j).1 = own) ∧ parseFieldDescriptor (q.2.1 j).2.2.1 = some ty
def x_cfq (q : vw_C) : Prop := (∀ w ∈ u_ws q.1 q.2.1 q.2.2, w ∈ x_WS) ∧ (∃ ty0 : Nat → FieldType, ∀ k, k < q.2.2 → parseFieldDescriptor (q.2.1 k).2.2.1 = some (ty0 k)) ∧ (∀ a, a < q.2.2 → ∀ b, b < q.2.2 → a ≠ b → (q.2.1 a).2.1 ≠ (q.2.1 b).2.1)
end XM
theorem x_cf_0 : x_cfq (RX0, TX0, 1) := by
  refine ⟨?_, ⟨tyX0, tyX0_ok⟩, nmX0⟩
  intro w hw
  obtain ⟨k, hk, rfl⟩ := List.mem_map.mp hw
  have hk := List.mem_range.mp hk
  match k, hk with
  | 0, _ => exact x_i2 118 (by decide +kernel) rfl
  | k + 1, hk => exact absurd hk (by simp)
theorem x_cf_1 : x_cfq (RX1, TX1, 2) := by
  refine ⟨?_, ⟨tyX1, tyX1_ok⟩, nmX1⟩
  intro w hw
  obtain ⟨k, hk, rfl⟩ := List.mem_map.mp hw
  have hk := List.mem_range.mp hk
  match k, hk with
  | 0, _ => exact x_i1 120 (by decide +kernel) rfl
  | 1, _ => exact x_i1 122 (by decide +kernel) rfl
  | k + 2, hk => exact absurd hk (by simp)
theorem x_cf_2 : x_cfq (RX2, TX2, 12) := by
  refine ⟨?_, ⟨tyX2, tyX2_ok⟩, nmX2⟩
  intro w hw
  obtain ⟨k, hk, rfl⟩ := List.mem_map.mp hw
  have hk := List.mem_range.mp hk
  match k, hk with
  | 0, _ => exact x_i1 84 (by decide +kernel) rfl
  | 1, _ => exact x_i1 86 (by decide +kernel) rfl
  | 2, _ => exact x_i1 88 (by decide +kernel) rfl
  | 3, _ => exact x_i1 90 (by decide +kernel) rfl
  | 4, _ => exact x_i1 92 (by decide +kernel) rfl
  | 5, _ => exact x_i1 94 (by decide +kernel) rfl
  | 6, _ => exact x_i1 96 (by decide +kernel) rfl
  | 7, _ => exact x_i1 98 (by decide +kernel) rfl
  | 8, _ => exact x_i1 100 (by decide +kernel) rfl
  | 9, _ => exact x_i1 102 (by decide +kernel) rfl
  | 10, _ => exact x_i1 104 (by decide +kernel) rfl
  | 11, _ => exact x_i1 106 (by decide +kernel) rfl
  | k + 12, hk => exact absurd hk (by simp)
theorem x_cf_3 : x_cfq (RX3, TX3, 6) := by
  refine ⟨?_, ⟨tyX3, tyX3_ok⟩, nmX3⟩
  intro w hw
  obtain ⟨k, hk, rfl⟩ := List.mem_map.mp hw
  have hk := List.mem_range.mp hk
  match k, hk with
  | 0, _ => exact x_i2 98 (by decide +kernel) rfl
  | 1, _ => exact x_i2 100 (by decide +kernel) rfl
  | 2, _ => exact x_i2 102 (by decide +kernel) rfl
  | 3, _ => exact x_i2 104 (by decide +kernel) rfl
  | 4, _ => exact x_i2 106 (by decide +kernel) rfl
  | 5, _ => exact x_i2 108 (by decide +kernel) rfl
  | k + 6, hk => exact absurd hk (by simp)
theorem x_cf_4 : x_cfq (RX4, TX4, 4) := by
  refine ⟨?_, ⟨tyX4, tyX4_ok⟩, nmX4⟩
  intro w hw
  obtain ⟨k, hk, rfl⟩ := List.mem_map.mp hw
  have hk := List.mem_range.mp hk
  match k, hk with
  | 0, _ => exact x_i1 136 (by decide +kernel) rfl
  | 1, _ => exact x_i1 138 (by decide +kernel) rfl
  | 2, _ => exact x_i1 140 (by decide +kernel) rfl
  | 3, _ => exact x_i1 142 (by decide +kernel) rfl
  | k + 4, hk => exact absurd hk (by simp)
theorem x_cf_5 : x_cfq (RX6, TX6, 13) := by
  refine ⟨?_, ⟨tyX6, tyX6_ok⟩, nmX6⟩
  intro w hw
  obtain ⟨k, hk, rfl⟩ := List.mem_map.mp hw
  have hk := List.mem_range.mp hk
  match k, hk with
  | 0, _ => exact x_i1 210 (by decide +kernel) rfl
  | 1, _ => exact x_i1 212 (by decide +kernel) rfl
  | 2, _ => exact x_i1 214 (by decide +kernel) rfl
  | 3, _ => exact x_i1 216 (by decide +kernel) rfl
  | 4, _ => exact x_i1 218 (by decide +kernel) rfl
  | 5, _ => exact x_i1 220 (by decide +kernel) rfl
  | 6, _ => exact x_i1 222 (by decide +kernel) rfl
  | 7, _ => exact x_i1 224 (by decide +kernel) rfl
  | 8, _ => exact x_i1 226 (by decide +kernel) rfl
  | 9, _ => exact x_i1 228 (by decide +kernel) rfl
  | 10, _ => exact x_i1 230 (by decide +kernel) rfl
  | 11, _ => exact x_i1 232 (by decide +kernel) rfl
  | 12, _ => exact x_i1 234 (by decide +kernel) rfl
  | k + 13, hk => exact absurd hk (by simp)
theorem x_cf_6 : x_cfq (RX7, TX7, 15) := by
  refine ⟨?_, ⟨tyX7, tyX7_ok⟩, nmX7⟩
  intro w hw
  obtain ⟨k, hk, rfl⟩ := List.mem_map.mp hw
  have hk := List.mem_range.mp hk
  match k, hk with
  | 0, _ => exact x_i2 21 (by decide +kernel) rfl
  | 1, _ => exact x_i2 23 (by decide +kernel) rfl
  | 2, _ => exact x_i2 25 (by decide +kernel) rfl
  | 3, _ => exact x_i2 27 (by decide +kernel) rfl
  | 4, _ => exact x_i2 29 (by decide +kernel) rfl
  | 5, _ => exact x_i2 31 (by decide +kernel) rfl
  | 6, _ => exact x_i2 33 (by decide +kernel) rfl
  | 7, _ => exact x_i2 35 (by decide +kernel) rfl
  | 8, _ => exact x_i2 37 (by decide +kernel) rfl
  | 9, _ => exact x_i2 39 (by decide +kernel) rfl
  | 10, _ => exact x_i2 41 (by decide +kernel) rfl
  | 11, _ => exact x_i2 43 (by decide +kernel) rfl
  | 12, _ => exact x_i2 45 (by decide +kernel) rfl
  | 13, _ => exact x_i2 47 (by decide +kernel) rfl
  | 14, _ => exact x_i2 49 (by decide +kernel) rfl
  | k + 15, hk => exact absurd hk (by simp)
theorem x_cf_7 : x_cfq (RX9, TX9, 8) := by
  refine ⟨?_, ⟨tyX9, tyX9_ok⟩, nmX9⟩
  intro w hw
  obtain ⟨k, hk, rfl⟩ := List.mem_map.mp hw
  have hk := List.mem_range.mp hk
  match k, hk with
  | 0, _ => exact x_i1 162 (by decide +kernel) rfl
  | 1, _ => exact x_i1 164 (by decide +kernel) rfl
  | 2, _ => exact x_i1 166 (by decide +kernel) rfl
  | 3, _ => exact x_i1 168 (by decide +kernel) rfl
  | 4, _ => exact x_i1 170 (by decide +kernel) rfl
  | 5, _ => exact x_i1 172 (by decide +kernel) rfl
  | 6, _ => exact x_i1 174 (by decide +kernel) rfl
  | 7, _ => exact x_i1 176 (by decide +kernel) rfl
  | k + 8, hk => exact absurd hk (by simp)
theorem x_cf_8 : x_cfq (RX10, TX10, 8) := by
  refine ⟨?_, ⟨tyX10, tyX10_ok⟩, nmX10⟩
  intro w hw
  obtain ⟨k, hk, rfl⟩ := List.mem_map.mp hw
  have hk := List.mem_range.mp hk
  match k, hk with
  | 0, _ => exact x_i2 68 (by decide +kernel) rfl
  | 1, _ => exact x_i2 70 (by decide +kernel) rfl
  | 2, _ => exact x_i2 72 (by decide +kernel) rfl
  | 3, _ => exact x_i2 74 (by decide +kernel) rfl
  | 4, _ => exact x_i2 76 (by decide +kernel) rfl
  | 5, _ => exact x_i2 78 (by decide +kernel) rfl
  | 6, _ => exact x_i2 80 (by decide +kernel) rfl
  | 7, _ => exact x_i2 82 (by decide +kernel) rfl
  | k + 8, hk => exact absurd hk (by simp)
theorem x_cf_9 : x_cfq (RX11, TX11, 8) := by
  refine ⟨?_, ⟨tyX11, tyX11_ok⟩, nmX11⟩
  intro w hw
  obtain ⟨k, hk, rfl⟩ := List.mem_map.mp hw
  have hk := List.mem_range.mp hk
  match k, hk with
  | 0, _ => exact x_i2 129 (by decide +kernel) rfl
  | 1, _ => exact x_i2 131 (by decide +kernel) rfl
  | 2, _ => exact x_i2 133 (by decide +kernel) rfl
  | 3, _ => exact x_i2 135 (by decide +kernel) rfl
  | 4, _ => exact x_i2 137 (by decide +kernel) rfl
  | 5, _ => exact x_i2 139 (by decide +kernel) rfl
  | 6, _ => exact x_i2 141 (by decide +kernel) rfl
  | 7, _ => exact x_i2 143 (by decide +kernel) rfl
  | k + 8, hk => exact absurd hk (by simp)
theorem x_cf_10 : x_cfq (RX12, TX12, 54) := by
  refine ⟨?_, ⟨tyX12, tyX12_ok⟩, nmX12⟩
  intro w hw
  obtain ⟨k, hk, rfl⟩ := List.mem_map.mp hw
  have hk := List.mem_range.mp hk
  match k, hk with
  | 0, _ => exact x_i6 114 (by decide +kernel) rfl
  | 1, _ => exact x_i6 116 (by decide +kernel) rfl
  | 2, _ => exact x_i6 118 (by decide +kernel) rfl
  | 3, _ => exact x_i6 120 (by decide +kernel) rfl
  | 4, _ => exact x_i6 122 (by decide +kernel) rfl
  | 5, _ => exact x_i6 124 (by decide +kernel) rfl
  | 6, _ => exact x_i6 126 (by decide +kernel) rfl
  | 7, _ => exact x_i6 128 (by decide +kernel) rfl
  | 8, _ => exact x_i6 130 (by decide +kernel) rfl
  | 9, _ => exact x_i6 132 (by decide +kernel) rfl
  | 10, _ => exact x_i6 134 (by decide +kernel) rfl
  | 11, _ => exact x_i6 136 (by decide +kernel) rfl
  | 12, _ => exact x_i6 138 (by decide +kernel) rfl
  | 13, _ => exact x_i6 140 (by decide +kernel) rfl
  | 14, _ => exact x_i6 142 (by decide +kernel) rfl
  | 15, _ => exact x_i6 144 (by decide +kernel) rfl
  | 16, _ => exact x_i6 146 (by decide +kernel) rfl
  | 17, _ => exact x_i6 148 (by decide +kernel) rfl
  | 18, _ => exact x_i6 150 (by decide +kernel) rfl
  | 19, _ => exact x_i6 152 (by decide +kernel) rfl
  | 20, _ => exact x_i6 154 (by decide +kernel) rfl
  | 21, _ => exact x_i6 156 (by decide +kernel) rfl
  | 22, _ => exact x_i6 158 (by decide +kernel) rfl
  | 23, _ => exact x_i6 160 (by decide +kernel) rfl
  | 24, _ => exact x_i6 162 (by decide +kernel) rfl
  | 25, _ => exact x_i6 164 (by decide +kernel) rfl
  | 26, _ => exact x_i6 166 (by decide +kernel) rfl
  | 27, _ => exact x_i6 168 (by decide +kernel) rfl
  | 28, _ => exact x_i6 170 (by decide +kernel) rfl
  | 29, _ => exact x_i6 172 (by decide +kernel) rfl
  | 30, _ => exact x_i6 174 (by decide +kernel) rfl
  | 31, _ => exact x_i6 176 (by decide +kernel) rfl
  | 32, _ => exact x_i6 178 (by decide +kernel) rfl
  | 33, _ => exact x_i6 180 (by decide +kernel) rfl
  | 34, _ => exact x_i6 182 (by decide +kernel) rfl
  | 35, _ => exact x_i6 184 (by decide +kernel) rfl
  | 36, _ => exact x_i6 186 (by decide +kernel) rfl
  | 37, _ => exact x_i6 188 (by decide +kernel) rfl
  | 38, _ => exact x_i6 190 (by decide +kernel) rfl
  | 39, _ => exact x_i6 192 (by decide +kernel) rfl
  | 40, _ => exact x_i6 194 (by decide +kernel) rfl
  | 41, _ => exact x_i6 196 (by decide +kernel) rfl
  | 42, _ => exact x_i6 198 (by decide +kernel) rfl
  | 43, _ => exact x_i6 200 (by decide +kernel) rfl
  | 44, _ => exact x_i6 202 (by decide +kernel) rfl
  | 45, _ => exact x_i6 204 (by decide +kernel) rfl
  | 46, _ => exact x_i6 206 (by decide +kernel) rfl
  | 47, _ => exact x_i6 208 (by decide +kernel) rfl
  | 48, _ => exact x_i6 210 (by decide +kernel) rfl
  | 49, _ => exact x_i6 212 (by decide +kernel) rfl
  | 50, _ => exact x_i6 214 (by decide +kernel) rfl
  | 51, _ => exact x_i6 216 (by decide +kernel) rfl
  | 52, _ => exact x_i6 218 (by decide +kernel) rfl
  | 53, _ => exact x_i6 220 (by decide +kernel) rfl
  | k + 54, hk => exact absurd hk (by simp)
theorem x_cf : ∀ (ci : Nat) (q : vw_C), vwCl[ci]? = some q → x_cfq q := by
  intro ci q hq
  match ci, hq with
  | 0, hq => cases hq; exact x_cf_0
  | 1, hq => cases hq; exact x_cf_1
  | 2, hq => cases hq; exact x_cf_2
  | 3, hq => cases hq; exact x_cf_3
  | 4, hq => cases hq; exact x_cf_4
  | 5, hq => cases hq; exact x_cf_5
  | 6, hq => cases hq; exact x_cf_6
  | 7, hq => cases hq; exact x_cf_7
  | 8, hq => cases hq; exact x_cf_8
  | 9, hq => cases hq; exact x_cf_9
  | 10, hq => cases hq; exact x_cf_10
  | k + 11, hq => exact absurd hq (by simp [vwCl])
