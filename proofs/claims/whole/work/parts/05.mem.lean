/-! local variables, fields, rows (arrays), ends -/
def x_prs (E : x_Env) (ls : List Value) : List (Nat × Value) := (ls.zipIdx.filter (fun q => !x_un q.1)).map (fun q => (q.2, x_V E q.1))
theorem x_prs_mem {E : x_Env} {ls : List Value} {q : Nat × Value} : q ∈ x_prs E ls ↔ ∃ v, ls[q.1]? = some v ∧ x_un v = false ∧ q.2 = x_V E v := by
  simp only [x_prs, List.mem_map, List.mem_filter, Prod.exists, List.mem_zipIdx_iff_getElem?]
  constructor
  · rintro ⟨v, i, ⟨h1, h2⟩, rfl⟩
    exact ⟨v, h1, by simpa using h2, rfl⟩
  · rintro ⟨v, h1, h2, h3⟩
    exact ⟨v, q.1, ⟨h1, by simpa using h2⟩, by rw [← h3]⟩
theorem x_Lo.has {E : x_Env} {n : Nat} {ls : List Value} {LS : Array Slot} (lo : x_Lo E n ls LS) : lv_has LS n (x_prs E ls) := by
  refine ⟨lo.2.1, lo.2.2.1, fun q hq => ?_⟩
  obtain ⟨v, h1, h2, h3⟩ := x_prs_mem.mp hq
  rw [h3]
  exact lo.2.2.2 q.1 v h1 h2
theorem x_Lo.ld {E : x_Env} {n : Nat} {ls : List Value} {LS : Array Slot} {i : Nat} {v : Value} (lo : x_Lo E n ls LS) (hl : ls[i]? = some v) (hu : x_un v = false) : LS[i]? = some (.val (x_V E v)) := lo.2.2.2 i v hl hu
/-- no long stands just before: a store here cuts none -/
def x_ok1 (ls : List Value) : Nat → Bool
  | 0 => true
  | j + 1 => match ls[j]? with
    | some v => v.category == 1
    | none => true
theorem x_ok1_use {ls : List Value} {i j : Nat} {w : Value} (h : x_ok1 ls i = true) (hj : j + 1 = i) (hw : ls[j]? = some w) : w.category = 1 := by
  subst hj
  simpa [x_ok1, hw] using h
theorem x_Lo.st1 {E : x_Env} {n i : Nat} {ls : List Value} {LS LS' : Array Slot} {v : Value} (lo : x_Lo E n ls LS) (hi : i < n) (ho : x_ok1 ls i = true)
    (hh : lv_has LS' n ((i, x_V E v) :: (x_prs E ls).filter (fun q => !(q.1 == i) && !(q.1 + 1 == i && q.2.category == 2)))) : x_Lo E n (ls.set i v) LS' := by
  refine ⟨by rw [List.length_set]; exact lo.1, hh.1, hh.2.1, fun j w hj hw => ?_⟩
  by_cases hji : i = j
  · subst hji
    rw [List.getElem?_set_self (by rw [lo.1]; exact hi)] at hj
    cases hj
    exact hh.2.2 (i, x_V E v) List.mem_cons_self
  · rw [List.getElem?_set_ne hji] at hj
    refine hh.2.2 (j, x_V E w) (List.mem_cons_of_mem _ (List.mem_filter.mpr ⟨x_prs_mem.mpr ⟨w, hj, hw, rfl⟩, ?_⟩))
    have e1 : (j == i) = false := by simp; omega
    by_cases hc : j + 1 = i
    · have := x_ok1_use ho hc hj
      simp [e1, x_V_cat, this]
    · simp [e1, hc]
theorem x_Lo.st2 {E : x_Env} {n i : Nat} {ls : List Value} {LS LS' : Array Slot} {v : Value} (lo : x_Lo E n ls LS) (hi : i + 1 < n) (ho : x_ok1 ls i = true)
    (hh : lv_has LS' n ((i, x_V E v) :: (x_prs E ls).filter (fun q => !(q.1 == i) && (!(q.1 == i + 1) && !(q.1 + 1 == i && q.2.category == 2))))) : x_Lo E n ((ls.set i v).set (i + 1) (.retAddr 0)) LS' := by
  refine ⟨by rw [List.length_set, List.length_set]; exact lo.1, hh.1, hh.2.1, fun j w hj hw => ?_⟩
  by_cases hj1 : i + 1 = j
  · subst hj1
    rw [List.getElem?_set_self (by rw [List.length_set, lo.1]; exact hi)] at hj
    cases hj
    cases hw
  rw [List.getElem?_set_ne hj1] at hj
  by_cases hji : i = j
  · subst hji
    rw [List.getElem?_set_self (by rw [lo.1]; omega)] at hj
    cases hj
    exact hh.2.2 (i, x_V E v) List.mem_cons_self
  · rw [List.getElem?_set_ne hji] at hj
    refine hh.2.2 (j, x_V E w) (List.mem_cons_of_mem _ (List.mem_filter.mpr ⟨x_prs_mem.mpr ⟨w, hj, hw, rfl⟩, ?_⟩))
    have e1 : (j == i) = false := by simp; omega
    have e2 : (j == i + 1) = false := by simp; omega
    by_cases hc : j + 1 = i
    · have := x_ok1_use ho hc hj
      simp [e1, e2, x_V_cat, this]
    · simp [e1, e2, hc]
section XM
variable {sc : Nat × (Nat → Int32)} {d : Nat} {M : x_Mt} {pc : Nat} {ls st : List Value} {h h' : x_H} {r : Option Value}
theorem xr_iload {i : Nat} (x : Int32) (hd : decode M.2.1 pc = .ok (.iload i, 2)) (hl : ls[i]? = some (.int x))
    (k : x_R sc d M (pc + 2) ls (.int x :: st) h r h') : x_R sc d M pc ls (st) h r h' := by
  refine ⟨k.1, ?_⟩
  intro E p l e R s m args below meth c H locs LS n0 z0 Q C hn w lo kk
  exact lv_iload C.1.1 C.1.2.1 hd (lo.ld hl rfl) (k.2 E p l e R s m args below meth c H locs LS n0 z0 Q C hn w lo kk)
theorem xr_iload_n {i : Fin 4} (x : Int32) (hd : decode M.2.1 pc = .ok (.iload_n i, 1)) (hl : ls[(i : Nat)]? = some (.int x))
    (k : x_R sc d M (pc + 1) ls (.int x :: st) h r h') : x_R sc d M pc ls (st) h r h' := by
  refine ⟨k.1, ?_⟩
  intro E p l e R s m args below meth c H locs LS n0 z0 Q C hn w lo kk
  exact lv_iload_n C.1.1 C.1.2.1 hd rfl (lo.ld hl rfl) (k.2 E p l e R s m args below meth c H locs LS n0 z0 Q C hn w lo kk)
theorem xr_lload {i : Nat} (x : Int64) (hd : decode M.2.1 pc = .ok (.lload i, 2)) (hl : ls[i]? = some (.long x))
    (k : x_R sc d M (pc + 2) ls (.long x :: st) h r h') : x_R sc d M pc ls (st) h r h' := by
  refine ⟨k.1, ?_⟩
  intro E p l e R s m args below meth c H locs LS n0 z0 Q C hn w lo kk
  exact lv_lload C.1.1 C.1.2.1 hd (lo.ld hl rfl) (k.2 E p l e R s m args below meth c H locs LS n0 z0 Q C hn w lo kk)
theorem xr_lload_n {i : Fin 4} (x : Int64) (hd : decode M.2.1 pc = .ok (.lload_n i, 1)) (hl : ls[(i : Nat)]? = some (.long x))
    (k : x_R sc d M (pc + 1) ls (.long x :: st) h r h') : x_R sc d M pc ls (st) h r h' := by
  refine ⟨k.1, ?_⟩
  intro E p l e R s m args below meth c H locs LS n0 z0 Q C hn w lo kk
  exact lv_lload_n C.1.1 C.1.2.1 hd rfl (lo.ld hl rfl) (k.2 E p l e R s m args below meth c H locs LS n0 z0 Q C hn w lo kk)
theorem xr_aload {i : Nat} (x : Nat) (hd : decode M.2.1 pc = .ok (.aload i, 2)) (hl : ls[i]? = some (.ref x))
    (k : x_R sc d M (pc + 2) ls (.ref x :: st) h r h') : x_R sc d M pc ls (st) h r h' := by
  refine ⟨k.1, ?_⟩
  intro E p l e R s m args below meth c H locs LS n0 z0 Q C hn w lo kk
  exact lv_aload C.1.1 C.1.2.1 hd (lo.ld hl rfl) (k.2 E p l e R s m args below meth c H locs LS n0 z0 Q C hn w lo kk)
theorem xr_aload_n {i : Fin 4} (x : Nat) (hd : decode M.2.1 pc = .ok (.aload_n i, 1)) (hl : ls[(i : Nat)]? = some (.ref x))
    (k : x_R sc d M (pc + 1) ls (.ref x :: st) h r h') : x_R sc d M pc ls (st) h r h' := by
  refine ⟨k.1, ?_⟩
  intro E p l e R s m args below meth c H locs LS n0 z0 Q C hn w lo kk
  exact lv_aload_n C.1.1 C.1.2.1 hd rfl (lo.ld hl rfl) (k.2 E p l e R s m args below meth c H locs LS n0 z0 Q C hn w lo kk)
theorem xr_aload0 {i : Nat} (hd : decode M.2.1 pc = .ok (.aload i, 2)) (hl : ls[i]? = some .null)
    (k : x_R sc d M (pc + 2) ls (.null :: st) h r h') : x_R sc d M pc ls (st) h r h' := by
  refine ⟨k.1, ?_⟩
  intro E p l e R s m args below meth c H locs LS n0 z0 Q C hn w lo kk
  exact lv_aloadN C.1.1 C.1.2.1 hd (lo.ld hl rfl) (k.2 E p l e R s m args below meth c H locs LS n0 z0 Q C hn w lo kk)
theorem xr_aload_n0 {i : Fin 4} (hd : decode M.2.1 pc = .ok (.aload_n i, 1)) (hl : ls[(i : Nat)]? = some .null)
    (k : x_R sc d M (pc + 1) ls (.null :: st) h r h') : x_R sc d M pc ls (st) h r h' := by
  refine ⟨k.1, ?_⟩
  intro E p l e R s m args below meth c H locs LS n0 z0 Q C hn w lo kk
  exact lv_aload_nN C.1.1 C.1.2.1 hd rfl (lo.ld hl rfl) (k.2 E p l e R s m args below meth c H locs LS n0 z0 Q C hn w lo kk)
theorem xr_istore {i : Nat} {x : Int32} (hd : decode M.2.1 pc = .ok (.istore i, 2)) (hi : i < M.2.2.1) (ho : x_ok1 ls i = true)
    (k : x_R sc d M (pc + 2) (ls.set i (.int x)) (st) h r h') : x_R sc d M pc ls (.int x :: st) h r h' := by
  refine ⟨k.1, ?_⟩
  intro E p l e R s m args below meth c H locs LS n0 z0 Q C hn w lo kk
  exact lv_istore C.1.1 C.1.2.1 hd lo.has hi rfl (fun LS2 hh => k.2 E p l e R s m args below meth c H locs LS2 n0 z0 Q C hn w (x_Lo.st1 (v := .int x) lo hi ho hh) kk)
theorem xr_istore_n {i : Fin 4} {x : Int32} (hd : decode M.2.1 pc = .ok (.istore_n i, 1)) (hi : (i : Nat) < M.2.2.1) (ho : x_ok1 ls i = true)
    (k : x_R sc d M (pc + 1) (ls.set i (.int x)) (st) h r h') : x_R sc d M pc ls (.int x :: st) h r h' := by
  refine ⟨k.1, ?_⟩
  intro E p l e R s m args below meth c H locs LS n0 z0 Q C hn w lo kk
  exact lv_istore_n C.1.1 C.1.2.1 hd rfl lo.has hi rfl (fun LS2 hh => k.2 E p l e R s m args below meth c H locs LS2 n0 z0 Q C hn w (x_Lo.st1 (v := .int x) lo hi ho hh) kk)
theorem xr_astore {i : Nat} {x : Nat} (hd : decode M.2.1 pc = .ok (.astore i, 2)) (hi : i < M.2.2.1) (ho : x_ok1 ls i = true)
    (k : x_R sc d M (pc + 2) (ls.set i (.ref x)) (st) h r h') : x_R sc d M pc ls (.ref x :: st) h r h' := by
  refine ⟨k.1, ?_⟩
  intro E p l e R s m args below meth c H locs LS n0 z0 Q C hn w lo kk
  exact lv_astore C.1.1 C.1.2.1 hd lo.has hi rfl (fun LS2 hh => k.2 E p l e R s m args below meth c H locs LS2 n0 z0 Q C hn w (x_Lo.st1 (v := .ref x) lo hi ho hh) kk)
theorem xr_astore_n {i : Fin 4} {x : Nat} (hd : decode M.2.1 pc = .ok (.astore_n i, 1)) (hi : (i : Nat) < M.2.2.1) (ho : x_ok1 ls i = true)
    (k : x_R sc d M (pc + 1) (ls.set i (.ref x)) (st) h r h') : x_R sc d M pc ls (.ref x :: st) h r h' := by
  refine ⟨k.1, ?_⟩
  intro E p l e R s m args below meth c H locs LS n0 z0 Q C hn w lo kk
  exact lv_astore_n C.1.1 C.1.2.1 hd rfl lo.has hi rfl (fun LS2 hh => k.2 E p l e R s m args below meth c H locs LS2 n0 z0 Q C hn w (x_Lo.st1 (v := .ref x) lo hi ho hh) kk)
theorem xr_astore0 {i : Nat} (hd : decode M.2.1 pc = .ok (.astore i, 2)) (hi : i < M.2.2.1) (ho : x_ok1 ls i = true)
    (k : x_R sc d M (pc + 2) (ls.set i .null) (st) h r h') : x_R sc d M pc ls (.null :: st) h r h' := by
  refine ⟨k.1, ?_⟩
  intro E p l e R s m args below meth c H locs LS n0 z0 Q C hn w lo kk
  exact lv_astoreN C.1.1 C.1.2.1 hd lo.has hi rfl (fun LS2 hh => k.2 E p l e R s m args below meth c H locs LS2 n0 z0 Q C hn w (x_Lo.st1 (v := .null) lo hi ho hh) kk)
theorem xr_astore_n0 {i : Fin 4} (hd : decode M.2.1 pc = .ok (.astore_n i, 1)) (hi : (i : Nat) < M.2.2.1) (ho : x_ok1 ls i = true)
    (k : x_R sc d M (pc + 1) (ls.set i .null) (st) h r h') : x_R sc d M pc ls (.null :: st) h r h' := by
  refine ⟨k.1, ?_⟩
  intro E p l e R s m args below meth c H locs LS n0 z0 Q C hn w lo kk
  exact lv_astore_nN C.1.1 C.1.2.1 hd rfl lo.has hi rfl (fun LS2 hh => k.2 E p l e R s m args below meth c H locs LS2 n0 z0 Q C hn w (x_Lo.st1 (v := .null) lo hi ho hh) kk)
theorem xr_lstore {i : Nat} {x : Int64} (hd : decode M.2.1 pc = .ok (.lstore i, 2)) (hi : i + 1 < M.2.2.1) (ho : x_ok1 ls i = true)
    (k : x_R sc d M (pc + 2) ((ls.set i (.long x)).set (i + 1) (.retAddr 0)) (st) h r h') : x_R sc d M pc ls (.long x :: st) h r h' := by
  refine ⟨k.1, ?_⟩
  intro E p l e R s m args below meth c H locs LS n0 z0 Q C hn w lo kk
  exact lv_lstore C.1.1 C.1.2.1 hd lo.has hi rfl (fun LS2 hh => k.2 E p l e R s m args below meth c H locs LS2 n0 z0 Q C hn w (x_Lo.st2 (v := .long x) lo hi ho hh) kk)
theorem xr_lstore_n {i : Fin 4} {x : Int64} (hd : decode M.2.1 pc = .ok (.lstore_n i, 1)) (hi : (i : Nat) + 1 < M.2.2.1) (ho : x_ok1 ls i = true)
    (k : x_R sc d M (pc + 1) ((ls.set i (.long x)).set (i + 1) (.retAddr 0)) (st) h r h') : x_R sc d M pc ls (.long x :: st) h r h' := by
  refine ⟨k.1, ?_⟩
  intro E p l e R s m args below meth c H locs LS n0 z0 Q C hn w lo kk
  exact lv_lstore_n C.1.1 C.1.2.1 hd rfl lo.has hi rfl (fun LS2 hh => k.2 E p l e R s m args below meth c H locs LS2 n0 z0 Q C hn w (x_Lo.st2 (v := .long x) lo hi ho hh) kk)
theorem xr_iinc {i : Nat} {n : Int} (x : Int32) (v : Int32) (hd : decode M.2.1 pc = .ok (.iinc i n, 3)) (hl : ls[i]? = some (.int x)) (hv : x + Int32.ofInt n = v) (hi : i < M.2.2.1) (ho : x_ok1 ls i = true)
    (k : x_R sc d M (pc + 3) (ls.set i (.int v)) (st) h r h') : x_R sc d M pc ls (st) h r h' := by
  refine ⟨k.1, ?_⟩
  intro E p l e R s m args below meth c H locs LS n0 z0 Q C hn w lo kk
  obtain ⟨j, hj⟩ := List.getElem?_of_mem (x_prs_mem (q := (i, .int x)).mpr ⟨.int x, hl, rfl, rfl⟩ : (i, Value.int x) ∈ x_prs E ls)
  exact lv_iinc C.1.1 C.1.2.1 hd lo.has hj hv hi rfl (fun LS2 hh => k.2 E p l e R s m args below meth c H locs LS2 n0 z0 Q C hn w (x_Lo.st1 (v := .int v) lo hi ho hh) kk)
/-- a field's link: the j-th field of the class ci of vwCl -/
def x_fl (own : String) (idx ci j : Nat) : Prop := ∃ q : vw_C, vwCl[ci]? = some q ∧ j < q.2.2 ∧ Cond.fieldLink own idx (q.2.1 j).1 (q.2.1 j).2.1 (q.2.1 j).2.2.1 ∈ x_WS
/-- ... that may be written (fin: it is final) -/
def x_fp (own : String) (idx ci j : Nat) (ty : FieldType) (fin : Bool) : Prop := ∃ q : vw_C, vwCl[ci]? = some q ∧ j < q.2.2 ∧ Cond.fieldLink own idx (q.2.1 j).1 (q.2.1 j).2.1 (q.2.1 j).2.2.1 ∈ x_WS ∧ (q.2.1 j).2.2.2 = fin ∧ (fin = true → (q.2.1 j).1 = own) ∧ parseFieldDescriptor (q.2.1 j).2.2.1 = some ty
def x_cfq (q : vw_C) : Prop := (∀ w ∈ u_ws q.1 q.2.1 q.2.2, w ∈ x_WS) ∧ (∃ ty0 : Nat → FieldType, ∀ k, k < q.2.2 → parseFieldDescriptor (q.2.1 k).2.2.1 = some (ty0 k)) ∧ (∀ a, a < q.2.2 → ∀ b, b < q.2.2 → a ≠ b → (q.2.1 a).2.1 ≠ (q.2.1 b).2.1)
end XM
theorem x_cf_0 : x_cfq (RX0, TX0, 1) := by
  refine ⟨?_, ⟨tyX0, tyX0_ok⟩, nmX0⟩
  intro w hw
  obtain ⟨k, hk, rfl⟩ := List.mem_map.mp hw
  have hk := List.mem_range.mp hk
  match k, hk with
  | 0, _ => exact x_in 493 (by decide +kernel) rfl
  | k + 1, hk => exact absurd hk (by simp)
theorem x_cf_1 : x_cfq (RX1, TX1, 2) := by
  refine ⟨?_, ⟨tyX1, tyX1_ok⟩, nmX1⟩
  intro w hw
  obtain ⟨k, hk, rfl⟩ := List.mem_map.mp hw
  have hk := List.mem_range.mp hk
  match k, hk with
  | 0, _ => exact x_in 255 (by decide +kernel) rfl
  | 1, _ => exact x_in 257 (by decide +kernel) rfl
  | k + 2, hk => exact absurd hk (by simp)
theorem x_cf_2 : x_cfq (RX2, TX2, 12) := by
  refine ⟨?_, ⟨tyX2, tyX2_ok⟩, nmX2⟩
  intro w hw
  obtain ⟨k, hk, rfl⟩ := List.mem_map.mp hw
  have hk := List.mem_range.mp hk
  match k, hk with
  | 0, _ => exact x_in 219 (by decide +kernel) rfl
  | 1, _ => exact x_in 221 (by decide +kernel) rfl
  | 2, _ => exact x_in 223 (by decide +kernel) rfl
  | 3, _ => exact x_in 225 (by decide +kernel) rfl
  | 4, _ => exact x_in 227 (by decide +kernel) rfl
  | 5, _ => exact x_in 229 (by decide +kernel) rfl
  | 6, _ => exact x_in 231 (by decide +kernel) rfl
  | 7, _ => exact x_in 233 (by decide +kernel) rfl
  | 8, _ => exact x_in 235 (by decide +kernel) rfl
  | 9, _ => exact x_in 237 (by decide +kernel) rfl
  | 10, _ => exact x_in 239 (by decide +kernel) rfl
  | 11, _ => exact x_in 241 (by decide +kernel) rfl
  | k + 12, hk => exact absurd hk (by simp)
theorem x_cf_3 : x_cfq (RX3, TX3, 6) := by
  refine ⟨?_, ⟨tyX3, tyX3_ok⟩, nmX3⟩
  intro w hw
  obtain ⟨k, hk, rfl⟩ := List.mem_map.mp hw
  have hk := List.mem_range.mp hk
  match k, hk with
  | 0, _ => exact x_in 473 (by decide +kernel) rfl
  | 1, _ => exact x_in 475 (by decide +kernel) rfl
  | 2, _ => exact x_in 477 (by decide +kernel) rfl
  | 3, _ => exact x_in 479 (by decide +kernel) rfl
  | 4, _ => exact x_in 481 (by decide +kernel) rfl
  | 5, _ => exact x_in 483 (by decide +kernel) rfl
  | k + 6, hk => exact absurd hk (by simp)
theorem x_cf_4 : x_cfq (RX4, TX4, 4) := by
  refine ⟨?_, ⟨tyX4, tyX4_ok⟩, nmX4⟩
  intro w hw
  obtain ⟨k, hk, rfl⟩ := List.mem_map.mp hw
  have hk := List.mem_range.mp hk
  match k, hk with
  | 0, _ => exact x_in 271 (by decide +kernel) rfl
  | 1, _ => exact x_in 273 (by decide +kernel) rfl
  | 2, _ => exact x_in 275 (by decide +kernel) rfl
  | 3, _ => exact x_in 277 (by decide +kernel) rfl
  | k + 4, hk => exact absurd hk (by simp)
theorem x_cf_5 : x_cfq (RX6, TX6, 13) := by
  refine ⟨?_, ⟨tyX6, tyX6_ok⟩, nmX6⟩
  intro w hw
  obtain ⟨k, hk, rfl⟩ := List.mem_map.mp hw
  have hk := List.mem_range.mp hk
  match k, hk with
  | 0, _ => exact x_in 345 (by decide +kernel) rfl
  | 1, _ => exact x_in 347 (by decide +kernel) rfl
  | 2, _ => exact x_in 349 (by decide +kernel) rfl
  | 3, _ => exact x_in 351 (by decide +kernel) rfl
  | 4, _ => exact x_in 353 (by decide +kernel) rfl
  | 5, _ => exact x_in 355 (by decide +kernel) rfl
  | 6, _ => exact x_in 357 (by decide +kernel) rfl
  | 7, _ => exact x_in 359 (by decide +kernel) rfl
  | 8, _ => exact x_in 361 (by decide +kernel) rfl
  | 9, _ => exact x_in 363 (by decide +kernel) rfl
  | 10, _ => exact x_in 365 (by decide +kernel) rfl
  | 11, _ => exact x_in 367 (by decide +kernel) rfl
  | 12, _ => exact x_in 369 (by decide +kernel) rfl
  | k + 13, hk => exact absurd hk (by simp)
theorem x_cf_6 : x_cfq (RX7, TX7, 15) := by
  refine ⟨?_, ⟨tyX7, tyX7_ok⟩, nmX7⟩
  intro w hw
  obtain ⟨k, hk, rfl⟩ := List.mem_map.mp hw
  have hk := List.mem_range.mp hk
  match k, hk with
  | 0, _ => exact x_in 396 (by decide +kernel) rfl
  | 1, _ => exact x_in 398 (by decide +kernel) rfl
  | 2, _ => exact x_in 400 (by decide +kernel) rfl
  | 3, _ => exact x_in 402 (by decide +kernel) rfl
  | 4, _ => exact x_in 404 (by decide +kernel) rfl
  | 5, _ => exact x_in 406 (by decide +kernel) rfl
  | 6, _ => exact x_in 408 (by decide +kernel) rfl
  | 7, _ => exact x_in 410 (by decide +kernel) rfl
  | 8, _ => exact x_in 412 (by decide +kernel) rfl
  | 9, _ => exact x_in 414 (by decide +kernel) rfl
  | 10, _ => exact x_in 416 (by decide +kernel) rfl
  | 11, _ => exact x_in 418 (by decide +kernel) rfl
  | 12, _ => exact x_in 420 (by decide +kernel) rfl
  | 13, _ => exact x_in 422 (by decide +kernel) rfl
  | 14, _ => exact x_in 424 (by decide +kernel) rfl
  | k + 15, hk => exact absurd hk (by simp)
theorem x_cf_7 : x_cfq (RX9, TX9, 8) := by
  refine ⟨?_, ⟨tyX9, tyX9_ok⟩, nmX9⟩
  intro w hw
  obtain ⟨k, hk, rfl⟩ := List.mem_map.mp hw
  have hk := List.mem_range.mp hk
  match k, hk with
  | 0, _ => exact x_in 297 (by decide +kernel) rfl
  | 1, _ => exact x_in 299 (by decide +kernel) rfl
  | 2, _ => exact x_in 301 (by decide +kernel) rfl
  | 3, _ => exact x_in 303 (by decide +kernel) rfl
  | 4, _ => exact x_in 305 (by decide +kernel) rfl
  | 5, _ => exact x_in 307 (by decide +kernel) rfl
  | 6, _ => exact x_in 309 (by decide +kernel) rfl
  | 7, _ => exact x_in 311 (by decide +kernel) rfl
  | k + 8, hk => exact absurd hk (by simp)
theorem x_cf_8 : x_cfq (RX10, TX10, 8) := by
  refine ⟨?_, ⟨tyX10, tyX10_ok⟩, nmX10⟩
  intro w hw
  obtain ⟨k, hk, rfl⟩ := List.mem_map.mp hw
  have hk := List.mem_range.mp hk
  match k, hk with
  | 0, _ => exact x_in 443 (by decide +kernel) rfl
  | 1, _ => exact x_in 445 (by decide +kernel) rfl
  | 2, _ => exact x_in 447 (by decide +kernel) rfl
  | 3, _ => exact x_in 449 (by decide +kernel) rfl
  | 4, _ => exact x_in 451 (by decide +kernel) rfl
  | 5, _ => exact x_in 453 (by decide +kernel) rfl
  | 6, _ => exact x_in 455 (by decide +kernel) rfl
  | 7, _ => exact x_in 457 (by decide +kernel) rfl
  | k + 8, hk => exact absurd hk (by simp)
theorem x_cf_9 : x_cfq (RX11, TX11, 8) := by
  refine ⟨?_, ⟨tyX11, tyX11_ok⟩, nmX11⟩
  intro w hw
  obtain ⟨k, hk, rfl⟩ := List.mem_map.mp hw
  have hk := List.mem_range.mp hk
  match k, hk with
  | 0, _ => exact x_in 504 (by decide +kernel) rfl
  | 1, _ => exact x_in 506 (by decide +kernel) rfl
  | 2, _ => exact x_in 508 (by decide +kernel) rfl
  | 3, _ => exact x_in 510 (by decide +kernel) rfl
  | 4, _ => exact x_in 512 (by decide +kernel) rfl
  | 5, _ => exact x_in 514 (by decide +kernel) rfl
  | 6, _ => exact x_in 516 (by decide +kernel) rfl
  | 7, _ => exact x_in 518 (by decide +kernel) rfl
  | k + 8, hk => exact absurd hk (by simp)
theorem x_cf_10 : x_cfq (RX12, TX12, 54) := by
  refine ⟨?_, ⟨tyX12, tyX12_ok⟩, nmX12⟩
  intro w hw
  obtain ⟨k, hk, rfl⟩ := List.mem_map.mp hw
  have hk := List.mem_range.mp hk
  match k, hk with
  | 0, _ => exact x_in 1449 (by decide +kernel) rfl
  | 1, _ => exact x_in 1451 (by decide +kernel) rfl
  | 2, _ => exact x_in 1453 (by decide +kernel) rfl
  | 3, _ => exact x_in 1455 (by decide +kernel) rfl
  | 4, _ => exact x_in 1457 (by decide +kernel) rfl
  | 5, _ => exact x_in 1459 (by decide +kernel) rfl
  | 6, _ => exact x_in 1461 (by decide +kernel) rfl
  | 7, _ => exact x_in 1463 (by decide +kernel) rfl
  | 8, _ => exact x_in 1465 (by decide +kernel) rfl
  | 9, _ => exact x_in 1467 (by decide +kernel) rfl
  | 10, _ => exact x_in 1469 (by decide +kernel) rfl
  | 11, _ => exact x_in 1471 (by decide +kernel) rfl
  | 12, _ => exact x_in 1473 (by decide +kernel) rfl
  | 13, _ => exact x_in 1475 (by decide +kernel) rfl
  | 14, _ => exact x_in 1477 (by decide +kernel) rfl
  | 15, _ => exact x_in 1479 (by decide +kernel) rfl
  | 16, _ => exact x_in 1481 (by decide +kernel) rfl
  | 17, _ => exact x_in 1483 (by decide +kernel) rfl
  | 18, _ => exact x_in 1485 (by decide +kernel) rfl
  | 19, _ => exact x_in 1487 (by decide +kernel) rfl
  | 20, _ => exact x_in 1489 (by decide +kernel) rfl
  | 21, _ => exact x_in 1491 (by decide +kernel) rfl
  | 22, _ => exact x_in 1493 (by decide +kernel) rfl
  | 23, _ => exact x_in 1495 (by decide +kernel) rfl
  | 24, _ => exact x_in 1497 (by decide +kernel) rfl
  | 25, _ => exact x_in 1499 (by decide +kernel) rfl
  | 26, _ => exact x_in 1501 (by decide +kernel) rfl
  | 27, _ => exact x_in 1503 (by decide +kernel) rfl
  | 28, _ => exact x_in 1505 (by decide +kernel) rfl
  | 29, _ => exact x_in 1507 (by decide +kernel) rfl
  | 30, _ => exact x_in 1509 (by decide +kernel) rfl
  | 31, _ => exact x_in 1511 (by decide +kernel) rfl
  | 32, _ => exact x_in 1513 (by decide +kernel) rfl
  | 33, _ => exact x_in 1515 (by decide +kernel) rfl
  | 34, _ => exact x_in 1517 (by decide +kernel) rfl
  | 35, _ => exact x_in 1519 (by decide +kernel) rfl
  | 36, _ => exact x_in 1521 (by decide +kernel) rfl
  | 37, _ => exact x_in 1523 (by decide +kernel) rfl
  | 38, _ => exact x_in 1525 (by decide +kernel) rfl
  | 39, _ => exact x_in 1527 (by decide +kernel) rfl
  | 40, _ => exact x_in 1529 (by decide +kernel) rfl
  | 41, _ => exact x_in 1531 (by decide +kernel) rfl
  | 42, _ => exact x_in 1533 (by decide +kernel) rfl
  | 43, _ => exact x_in 1535 (by decide +kernel) rfl
  | 44, _ => exact x_in 1537 (by decide +kernel) rfl
  | 45, _ => exact x_in 1539 (by decide +kernel) rfl
  | 46, _ => exact x_in 1541 (by decide +kernel) rfl
  | 47, _ => exact x_in 1543 (by decide +kernel) rfl
  | 48, _ => exact x_in 1545 (by decide +kernel) rfl
  | 49, _ => exact x_in 1547 (by decide +kernel) rfl
  | 50, _ => exact x_in 1549 (by decide +kernel) rfl
  | 51, _ => exact x_in 1551 (by decide +kernel) rfl
  | 52, _ => exact x_in 1553 (by decide +kernel) rfl
  | 53, _ => exact x_in 1555 (by decide +kernel) rfl
  | k + 54, hk => exact absurd hk (by simp)
theorem x_cf : ∀ (ci : Nat) (q : vw_C), vwCl[ci]? = some q → x_cfq q := by
  intro ci q hq
  match ci, hq with
  | 0, hq => cases hq; exact x_cf_0
  | 1, hq => cases hq; exact x_cf_1
  | 2, hq => cases hq; exact x_cf_2
  | 3, hq => cases hq; exact x_cf_3
  | 4, hq => cases hq; exact x_cf_4
  | 5, hq => cases hq; exact x_cf_5
  | 6, hq => cases hq; exact x_cf_6
  | 7, hq => cases hq; exact x_cf_7
  | 8, hq => cases hq; exact x_cf_8
  | 9, hq => cases hq; exact x_cf_9
  | 10, hq => cases hq; exact x_cf_10
  | k + 11, hq => exact absurd hq (by simp [vwCl])
