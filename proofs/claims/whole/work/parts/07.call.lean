/-! contracts and calls -/
def x_rm (d cs ss : Nat) : Room := { frames := d, cells := cs, slots := ss, locals := 64 * d }
def x_Pc (sc : Nat × (Nat → Int32)) (E : x_Env) (as : List Value) (h : x_H) : Array Value → State → Prop := va_Pc (as.map (x_V E)) (fun U => U.heap.size = E.2.2.1 + h.length ∧ va_P E.1 vwCl (x_W E h) U.heap ∧ va_K E.1 vwCl (x_Ty E) U ∧ x_Old sc E U U.heap)
def x_Qc (E : x_Env) (r : Option Value) (h' : x_H) : Array Value → State → Outcome → State → Prop := fun _ st oc t => (oc = .returned (r.map (x_V E)) ∧ va_P E.1 vwCl (x_W E h') t.heap) ∧ va_F (x_A E) st t
/-- THE CONTRACT: called with these arguments over these cells, the method returns r and leaves the cells h' -/
def x_M (sc : Nat × (Nat → Int32)) (d : Nat) (M : x_Mt) (as : List Value) (h : x_H) (r : Option Value) (h' : x_H) : Prop :=
  (h.length ≤ h'.length ∧ x_sl h ≤ x_sl h') ∧ ∀ (E : x_Env) (l : Launch), Met l M.1 (x_ws M) (x_rm d (h'.length - h.length) (x_sl h' - x_sl h)) (x_Pc sc E as h) (x_Qc E r h') (h'.length - h.length) (x_sl h' - x_sl h) (x_A E)
def x_in1 (as : List Value) : List Value := as.flatMap (fun v => if v.category = 2 then [v, .retAddr 0] else [v])
/-- the local variables at a method's entry -/
def x_in0 (as : List Value) (n : Nat) : List Value := x_in1 as ++ List.replicate (n - (x_in1 as).length) (.retAddr 0)
theorem x_in1_len (E : x_Env) : ∀ as : List Value, (lg_sl (as.map (x_V E))).length = (x_in1 as).length
  | [] => rfl
  | v :: as => by
    have := x_in1_len E as
    simp only [lg_sl, x_in1, List.map_cons, List.flatMap_cons, List.length_append, x_V_cat] at this ⊢
    rw [this]
    by_cases hc : v.category = 2 <;> simp [hc]
theorem x_in1_args (E : x_Env) : ∀ (as : List Value) (o i : Nat) (v : Value), (x_in1 as)[i]? = some v → x_un v = false → (o + i, x_V E v) ∈ lv_args o (as.map (x_V E))
  | [], o, i, v, h, _ => by simp [x_in1] at h
  | a :: as, o, i, v, h, hu => by
    have ih := x_in1_args E as
    simp only [x_in1, List.flatMap_cons] at h
    simp only [List.map_cons, lv_args, x_V_cat]
    by_cases hc : a.category = 2
    · simp only [hc, if_true] at h ⊢
      match i, h with
      | 0, h => simp at h; subst h; exact List.mem_cons_self
      | 1, h => simp at h; subst h; cases hu
      | i + 2, h =>
        have h2 : (x_in1 as)[i]? = some v := by simpa [x_in1] using h
        have := ih (o + 2) i v h2 hu
        rw [show o + (i + 2) = o + 2 + i by omega]
        exact List.mem_cons_of_mem _ this
    · simp only [hc, if_false] at h ⊢
      match i, h with
      | 0, h => simp at h; subst h; exact List.mem_cons_self
      | i + 1, h =>
        have h2 : (x_in1 as)[i]? = some v := by simpa [x_in1] using h
        have := ih (o + 1) i v h2 hu
        rw [show o + (i + 1) = o + 1 + i by omega]
        exact List.mem_cons_of_mem _ this
theorem x_Lo.entry (E : x_Env) (as : List Value) {n : Nat} (hl : (x_in1 as).length ≤ n) : x_Lo E n (x_in0 as n) ((lg_sl (as.map (x_V E)) ++ List.replicate (n - (lg_sl (as.map (x_V E))).length) Slot.unset).toArray) := by
  have h := lv_entry (as.map (x_V E)) (n := n) (by rw [x_in1_len]; exact hl)
  refine ⟨by simp [x_in0]; omega, h.1, h.2.1, fun i v hi hu => ?_⟩
  by_cases hil : i < (x_in1 as).length
  · rw [x_in0, List.getElem?_append_left hil] at hi
    have := x_in1_args E as 0 i v hi hu
    rw [Nat.zero_add] at this
    exact h.2.2 _ this
  · rw [x_in0, List.getElem?_append_right (by omega)] at hi
    have := List.mem_of_getElem? hi
    rw [List.mem_replicate] at this
    rw [this.2] at hu
    cases hu
theorem x_Pc_blind (sc : Nat × (Nat → Int32)) (E : x_Env) (as : List Value) (h : x_H) : FrameBlind (x_Pc sc E as h) := by
  intro a U g mk q
  obtain ⟨q1, q2, q3, q4, q5⟩ := q
  exact ⟨q1, q2, q3, va_K.moved (u := U) (U := U.calling g mk a) (Vm.Alike.refl U.vm) q4, x_Old.same (u := U) (U := U.calling g mk a) rfl rfl q5⟩
section XC
variable {sc : Nat × (Nat → Int32)} {d : Nat} {M M' : x_Mt} {pc : Nat} {ls st : List Value} {h h' h1 : x_H} {r r1 : Option Value}
theorem x_code_good (M : x_Mt) : goodWord (x_code M) = true := by first | rfl | simp [goodWord, x_code, Cond.onTables, Cond.keeps, Cond.steady]
set_option maxHeartbeats 2000000 in
theorem x_M.of {as : List Value} (hp : plainName M.1.cls = true) (hl : (x_in1 as).length ≤ M.2.2.1) (k : x_R sc d M 0 (x_in0 as M.2.2.1) [] h r h') : x_M sc d M as h r h' := by
  refine ⟨k.1, fun E l => ?_⟩
  refine Met.ofW (cc := M.2.1) (maxL := M.2.2.1) (ret := M.2.2.2) (ws' := x_WS) hp rfl ?_
  intro p e s m args below meth c s₁ B hml hv
  obtain ⟨rfl, hsz, hP, hK, hO⟩ := hv
  have hts := atoms_spec (ws := x_ws M) B.pre
  have hC : x_Cx sc E p (headSpec (x_ws M) (x_rm d (h'.length - h.length) (x_sl h' - x_sl h))).room s m (as.map (x_V E)).toArray meth c M d :=
    ⟨⟨B.exec, B.bytes, hml, B.returns, B.notSynchronized, (name_of_methodNamed B.named B.method).1, findClass_of_methodNamed B.named⟩, fun w hw => hts w (List.mem_cons_of_mem _ hw), hK, hO, Nat.le_refl _, Nat.le_refl _⟩
  rw [lg_entry_eq]
  have K := k.2 E p l e (headSpec (x_ws M) (x_rm d (h'.length - h.length) (x_sl h' - x_sl h))).room s m (as.map (x_V E)).toArray below meth c s.heap [] _ h.length (x_sl h) (MQ below (x_Qc E r h') (as.map (x_V E)).toArray s (h'.length - h.length) (x_sl h' - x_sl h) (x_A E)) hC ⟨hsz, Nat.le_refl _, Nat.le_refl _, Nat.le_refl _, Nat.le_refl _⟩ ⟨hP, va_S.rf⟩ (x_Lo.entry E as hl) ?_
  · rw [Nat.sub_self, Nat.sub_self] at K
    exact K
  · intro H' locs' LS' pc' hw hR
    have hq : ∀ (t : State), t.heap = H' → s.WarmedH t.vm → x_Qc E r h' (as.map (x_V E)).toArray s (.returned (r.map (x_V E))) t := fun t ht _ => ⟨⟨rfl, by rw [ht]; exact hw.1⟩, hw.2.F ht⟩
    have hlk := B.notSynchronized
    match r, hR with
    | none, hR => exact W.vret B.exec B.bytes (B.returns.trans hR.2) hq hw.2.2.2 hR.1 hlk
    | some (.int v), hR =>
      obtain ⟨hd, ty, h2, h3⟩ := hR
      exact W.zret B.exec B.bytes (B.returns.trans h2) h3 hq hw.2.2.2 hd hlk
    | some (.long v), hR => exact W.lret B.exec B.bytes (B.returns.trans hR.2) hq hw.2.2.2 hR.1 hlk
    | some (.ref v), hR =>
      obtain ⟨hd, n, h2⟩ := hR
      exact W.aret B.exec B.bytes (B.returns.trans h2) (Or.inl ⟨n, rfl⟩) (Or.inr ⟨_, rfl⟩) hq hw.2.2.2 hd hlk
    | some .null, hR =>
      obtain ⟨hd, n, h2⟩ := hR
      exact W.aret B.exec B.bytes (B.returns.trans h2) (Or.inl ⟨n, rfl⟩) (Or.inl rfl) hq hw.2.2.2 hd hlk
/-- the links of a call -/
def x_lk (own : String) (idx : Nat) (M' : x_Mt) (n : Nat) : Prop := Cond.methodLink own idx M'.1 ∈ x_WS ∧ Cond.initialized M'.1.cls ∈ x_WS ∧ x_code M' ∈ x_WS ∧ (M'.1.cls ≠ "java/lang/invoke/MethodHandle" ∧ M'.1.cls ≠ "java/lang/invoke/VarHandle" ∧ (parseMethodDescriptor M'.1.desc).map (fun d => d.parameters.length) = some n) ∧ M'.2.2.1 ≤ 45
def x_lkS (own : String) (idx : Nat) (M' : x_Mt) (n : Nat) : Prop := x_lk own idx M' n ∧ Cond.static M'.1 ∈ x_WS
def x_lkV (own : String) (idx : Nat) (M' : x_Mt) (n ci : Nat) : Prop := x_lk own idx M' n ∧ Cond.instanceMethod M'.1 ∈ x_WS ∧ Cond.selects M'.1.cls M'.1 M'.1 ∈ x_WS ∧ ∃ q : vw_C, vwCl[ci]? = some q ∧ q.1 = M'.1.cls
def x_lkI (own : String) (idx : Nat) (M' : x_Mt) (n : Nat) : Prop := x_lk own idx M' n ∧ Cond.instanceMethod M'.1 ∈ x_WS ∧ M'.1.name = "<init>" ∧ M'.2.2.2 = none
/-- a nest mate's private constructor -/
def x_lkN (own : String) (idx : Nat) (M' : x_Mt) (n : Nat) : Prop := (own, idx, M'.1) ∈ x_nest ∧ Cond.initialized M'.1.cls ∈ x_WS ∧ x_code M' ∈ x_WS ∧ (M'.1.cls ≠ "java/lang/invoke/MethodHandle" ∧ M'.1.cls ≠ "java/lang/invoke/VarHandle" ∧ (parseMethodDescriptor M'.1.desc).map (fun d => d.parameters.length) = some n) ∧ M'.2.2.1 ≤ 45 ∧ Cond.instanceMethod M'.1 ∈ x_WS ∧ M'.1.name = "<init>" ∧ M'.2.2.2 = none
theorem x_goodIn (hc : x_code M' ∈ x_WS) : GoodIn x_WS (x_ws M') := by
  intro w hw
  rcases List.mem_cons.mp hw with rfl | hw
  · exact ⟨hc, x_good _ hc⟩
  · exact ⟨hw, x_good w hw⟩
theorem x_callB {E : x_Env} {p : Program} {R : Room} {s : State} {m : MethodId} {args : Array Value} {meth : Method} {c : Code} {idx n cs ss : Nat} (C : x_Cx sc E p R s m args meth c M (d + 1)) (hl : x_lk M.1.cls idx M' n) :
    CallB R s args M.1.cls idx M'.1 M'.2.1 M'.2.2.1 M'.2.2.2 (x_ws M') (x_rm d cs ss) cs ss n := by
  obtain ⟨l1, l2, l3, l4, l5⟩ := hl
  refine callB_of (Ts := x_WS) (ws' := x_WS) n C.2.1 (x_goodIn l3) rfl rfl rfl (C.2.1 _ l2) (C.2.1 _ l1) l4 ⟨C.2.2.2.2.1, ?_⟩
  have := C.2.2.2.2.2
  show 8 + (M'.2.2.1 + 11) + 64 * d ≤ R.locals
  omega
theorem x_pre {E : x_Env} {p : Program} {R : Room} {s : State} {m : MethodId} {args : Array Value} {meth : Method} {c : Code} {H : Heap} {locs : List Loc} {as : List Value} {d' : Nat} (C : x_Cx sc E p R s m args meth c M d') (w : x_Wd E s h H locs) (hs : H.size = E.2.2.1 + h.length) : PreS s H (x_Pc sc E as h) (as.map (x_V E)) :=
  ⟨x_Pc_blind sc E as h, fun U hU hW => ⟨rfl, by rw [hU]; exact hs, by rw [hU]; exact w.1, va_K.moved hW.alike C.2.2.1, C.2.2.2.1.to w.2 hW hU⟩⟩
/-- behind a call -/
theorem x_back {E : x_Env} {p : Program} {l : Launch} {e : Env} {R : Room} {s : State} {m : MethodId} {args : Array Value} {below : List Frame} {meth : Method} {c : Code} {H : Heap} {locs : List Loc} {LS : Array Slot} {st0 rest : List Value} {n0 z0 : Nat} {Q : State → Prop} {a : Array Value}
    (hh : s.heap.size = E.2.2.1 + n0 ∧ n0 ≤ h.length ∧ z0 ≤ x_sl h ∧ h'.length - n0 ≤ R.cells ∧ x_sl h' - z0 ≤ R.slots) (h1l : h.length ≤ h1.length ∧ x_sl h ≤ x_sl h1) (w : x_Wd E s h H locs)
    (hr : va_Run p l e R s m args below meth c H locs (h.length - n0) (x_sl h - z0) (h1.length - h.length) (x_sl h1 - x_sl h) (F0 m pc LS st0) (rest.map (x_V E)) (x_Qc E r1 h1 a) (x_A E))
    (kk : ∀ (H1 : Heap) (locs1 : List Loc), x_Wd E s h1 H1 locs1 → W p l e R s m args below meth c H1 locs1 (h1.length - n0) (x_sl h1 - z0) Q (F0 m (pc + 3) LS ((r1.toList ++ rest).map (x_V E)))) :
    W p l e R s m args below meth c H locs (h.length - n0) (x_sl h - z0) Q (F0 m pc LS st0) := by
  intro T hT X
  obtain ⟨v, st₀, t, T', L, g0, X', hL, e1, e2, ⟨⟨hv, hP⟩, hz, hk⟩, st⟩ := hr T hT X
  have hv : v = r1.map (x_V E) := Outcome.returned.inj hv
  subst hv
  rw [g0] at hz hk
  have ec : h.length - n0 + (h1.length - h.length) = h1.length - n0 := by omega
  have es : x_sl h - z0 + (x_sl h1 - x_sl h) = x_sl h1 - z0 := by omega
  rw [ec, es] at X'
  have hS : va_S (x_A E) s.heap T'.heap (locs ++ L) := ⟨Nat.le_trans w.2.1 (by rw [e1]; exact hz), fun q h1 h2 => by rw [e1, hk q (Nat.lt_of_lt_of_le h1 w.2.1) h2]; exact w.2.2.1 q h1 h2, fun q hq => by
      rcases List.mem_append.mp hq with h | h
      · exact w.2.2.2 q h
      · exact hL q h⟩
  obtain ⟨t2, a1, b1⟩ := kk T'.heap (locs ++ L) ⟨by rw [e1]; exact hP, hS⟩ T' rfl X'
  refine ⟨t2, st t2 ?_, b1⟩
  have el : (r1.map (x_V E)).toList ++ rest.map (x_V E) = (r1.toList ++ rest).map (x_V E) := by cases r1 <;> simp
  show Steps _ _ _ (T'.setTop (F0 m (pc + 3) LS ((r1.map (x_V E)).toList ++ rest.map (x_V E)))) t2
  rw [el]
  exact a1
theorem x_cats (E : x_Env) (rest : List Value) : ((rest.map (x_V E)).map fun v => v.category) = rest.map fun v => v.category := by
  rw [List.map_map]
  exact List.map_congr_left (fun v _ => x_V_cat E v)
set_option maxHeartbeats 1000000 in
theorem xr_callS {idx n : Nat} {as rest : List Value} (hd : decode M.2.1 pc = .ok (.invokestatic idx, 3)) (hl : x_lkS M.1.cls idx M' n) (hn : as.length = n) (hst : st = as.reverse ++ rest) (hc : (rest.map fun v => v.category).sum ≤ 8) (hM : x_M sc d M' as h r1 h1)
    (k : x_R sc (d + 1) M (pc + 3) ls (r1.toList ++ rest) h1 r h') : x_R sc (d + 1) M pc ls st h r h' := by
  refine ⟨⟨Nat.le_trans hM.1.1 k.1.1, Nat.le_trans hM.1.2 k.1.2⟩, ?_⟩
  intro E p l e R s m args below meth c H locs LS n0 z0 Q C hh w lo kk
  refine x_size hh.1 hh.2.1 w fun hs => ?_
  have a1 := hM.1
  have a2 := k.1
  refine x_back (h1 := h1) (rest := rest) (a := (as.map (x_V E)).toArray) hh hM.1 w (va_runS (S := ⟨C.1.1, C.1.2.1, C.1.2.2.1, C.1.2.2.2.2.2.2, C.2.1⟩) (hM.2 E l) ⟨x_callB C hl.1, C.2.1 _ hl.2⟩ (x_pre C w hs) rfl (by simpa using hn) lo.2.1 (by rw [hst]; simp) (lv_room (by rw [x_cats]; exact hc)) hd ⟨by omega, by omega⟩) (fun H1 locs1 hw => ?_)
  exact k.2 E p l e R s m args below meth c H1 locs1 LS n0 z0 Q C ⟨hh.1, by omega, by omega, hh.2.2.2.1, hh.2.2.2.2⟩ hw lo kk
set_option maxHeartbeats 1000000 in
theorem xr_callV {idx n ci k0 : Nat} {as rest fs : List Value} (hd : decode M.2.1 pc = .ok (.invokevirtual idx, 3)) (hl : x_lkV M.1.cls idx M' n ci) (hn : as.length = n) (hst : st = as.reverse ++ .ref k0 :: rest) (hc : (rest.map fun v => v.category).sum ≤ 8) (hk : h[k0]? = some (.inl (ci, fs))) (hk0 : k0 < 1000000) (hM : x_M sc d M' (.ref k0 :: as) h r1 h1)
    (k : x_R sc (d + 1) M (pc + 3) ls (r1.toList ++ rest) h1 r h') : x_R sc (d + 1) M pc ls st h r h' := by
  refine ⟨⟨Nat.le_trans hM.1.1 k.1.1, Nat.le_trans hM.1.2 k.1.2⟩, ?_⟩
  intro E p l e R s m args below meth c H locs LS n0 z0 Q C hh w lo kk
  refine x_size hh.1 hh.2.1 w fun hs => ?_
  have a1 := hM.1
  have a2 := k.1
  obtain ⟨l1, l2, l3, q, l4, l5⟩ := hl
  have hrec : ∃ cell : Cell, H[x_ad E k0]? = some cell ∧ cell.vm.isStatics = false ∧ s.vm.findClass M'.1.cls = some cell.cls := by
    rw [x_ad_lt hk0, ← l5]
    exact va_recv C.2.2.1 w.1 l4 (x_W_get hk)
  have hpre := x_pre (as := .ref k0 :: as) C w hs
  refine x_back (h1 := h1) (rest := rest) (a := (Value.ref (x_ad E k0) :: as.map (x_V E)).toArray) hh hM.1 w (va_runV (S := ⟨C.1.1, C.1.2.1, C.1.2.2.1, C.1.2.2.2.2.2.2, C.2.1⟩) (hM.2 E l) ⟨x_callB C l1, C.2.1 _ l2, C.2.1 _ l3⟩ ⟨hpre.1, hrec, hpre.2⟩ rfl (by simpa using hn) lo.2.1 (by rw [hst]; simp [x_V]) (lv_room (by rw [x_cats]; exact hc)) hd ⟨by omega, by omega⟩) (fun H1 locs1 hw => ?_)
  exact k.2 E p l e R s m args below meth c H1 locs1 LS n0 z0 Q C ⟨hh.1, by omega, by omega, hh.2.2.2.1, hh.2.2.2.2⟩ hw lo kk
set_option maxHeartbeats 1000000 in
theorem xr_callI {idx n k0 : Nat} {as rest : List Value} (hd : decode M.2.1 pc = .ok (.invokespecial idx, 3)) (hl : x_lkI M.1.cls idx M' n) (hn : as.length = n) (hst : st = as.reverse ++ .ref k0 :: rest) (hc : (rest.map fun v => v.category).sum ≤ 8) (hM : x_M sc d M' (.ref k0 :: as) h r1 h1)
    (k : x_R sc (d + 1) M (pc + 3) ls (r1.toList ++ rest) h1 r h') : x_R sc (d + 1) M pc ls st h r h' := by
  refine ⟨⟨Nat.le_trans hM.1.1 k.1.1, Nat.le_trans hM.1.2 k.1.2⟩, ?_⟩
  intro E p l e R s m args below meth c H locs LS n0 z0 Q C hh w lo kk
  refine x_size hh.1 hh.2.1 w fun hs => ?_
  have a1 := hM.1
  have a2 := k.1
  obtain ⟨l1, l2, l3, l4⟩ := hl
  have hcb := x_callB (cs := h1.length - h.length) (ss := x_sl h1 - x_sl h) C l1
  rw [l4] at hcb
  refine x_back (h1 := h1) (rest := rest) (a := (Value.ref (x_ad E k0) :: as.map (x_V E)).toArray) hh hM.1 w (va_runI (S := ⟨C.1.1, C.1.2.1, C.1.2.2.1, C.1.2.2.2.2.2.2, C.2.1⟩) (hM.2 E l) ⟨hcb, l3, C.2.1 _ l2⟩ (x_pre (as := .ref k0 :: as) C w hs) rfl (by simpa using hn) lo.2.1 (by rw [hst]; simp [x_V]) (lv_room (by rw [x_cats]; exact hc)) hd ⟨by omega, by omega⟩) (fun H1 locs1 hw => ?_)
  exact k.2 E p l e R s m args below meth c H1 locs1 LS n0 z0 Q C ⟨hh.1, by omega, by omega, hh.2.2.2.1, hh.2.2.2.2⟩ hw lo kk
set_option maxHeartbeats 1000000 in
theorem xr_callN {idx n k0 : Nat} {as rest : List Value} (hd : decode M.2.1 pc = .ok (.invokespecial idx, 3)) (hl : x_lkN M.1.cls idx M' n) (hn : as.length = n) (hst : st = as.reverse ++ .ref k0 :: rest) (hc : (rest.map fun v => v.category).sum ≤ 8) (hM : x_M sc d M' (.ref k0 :: as) h r1 h1)
    (k : x_R sc (d + 1) M (pc + 3) ls (r1.toList ++ rest) h1 r h') : x_R sc (d + 1) M pc ls st h r h' := by
  refine ⟨⟨Nat.le_trans hM.1.1 k.1.1, Nat.le_trans hM.1.2 k.1.2⟩, ?_⟩
  intro E p l e R s m args below meth c H locs LS n0 z0 Q C hh w lo kk
  refine x_size hh.1 hh.2.1 w fun hs => ?_
  have a1 := hM.1
  have a2 := k.1
  obtain ⟨l1, l2, l3, l4, l5, l6, l7, l8⟩ := hl
  have hcb : va_CN R s args M.1.cls idx M'.1 RX11 M'.2.1 M'.2.2.1 M'.2.2.2 (x_ws M') (x_rm d (h1.length - h.length) (x_sl h1 - x_sl h)) (h1.length - h.length) (x_sl h1 - x_sl h) n := by
    refine va_cnB (Ts := x_WS) (ws' := x_WS) n C.2.1 (x_goodIn l3) rfl rfl rfl (C.2.2.2.1.2.2.2.2.2.1 _ l1) (C.2.1 _ l2) l4 ⟨C.2.2.2.2.1, ?_⟩
    have := C.2.2.2.2.2
    show 8 + (M'.2.2.1 + 11) + 64 * d ≤ R.locals
    omega
  rw [l8] at hcb
  refine x_back (h1 := h1) (rest := rest) (a := (Value.ref (x_ad E k0) :: as.map (x_V E)).toArray) hh hM.1 w (va_runIN (S := ⟨C.1.1, C.1.2.1, C.1.2.2.1, C.1.2.2.2.2.2.2, C.2.1⟩) (hM.2 E l) ⟨hcb, l7, C.2.1 _ l6⟩ (x_pre (as := .ref k0 :: as) C w hs) rfl (by simpa using hn) lo.2.1 (by rw [hst]; simp [x_V]) (lv_room (by rw [x_cats]; exact hc)) hd ⟨by omega, by omega⟩) (fun H1 locs1 hw => ?_)
  exact k.2 E p l e R s m args below meth c H1 locs1 LS n0 z0 Q C ⟨hh.1, by omega, by omega, hh.2.2.2.1, hh.2.2.2.2⟩ hw lo kk
/-- Object's constructor -/
theorem xr_obj {idx k0 : Nat} {rest : List Value} (hd : decode M.2.1 pc = .ok (.invokespecial idx, 3)) (hl : Cond.methodLink M.1.cls idx Lib.objectInit ∈ x_WS ∧ Cond.instanceMethod Lib.objectInit ∈ x_WS ∧ Cond.code Lib.objectInit ⟨#[0xb1]⟩ 1 none ∈ x_WS) (hc : (rest.map fun v => v.category).sum ≤ 8)
    (k : x_R sc (d + 1) M (pc + 3) ls rest h r h') : x_R sc (d + 1) M pc ls (.ref k0 :: rest) h r h' := by
  refine ⟨k.1, ?_⟩
  intro E p l e R s m args below meth c H locs LS n0 z0 Q C hh w lo kk
  have hf := C.2.2.2.2
  refine W.objInit C.1.1 C.1.2.1 C.1.2.2.2.2.2.2 (C.2.1 _ hl.1) (C.2.1 _ hl.2.1) (C.2.1 _ hl.2.2) rfl (lo.2.1.trans C.1.2.2.1.symm) rfl hd (by omega) ?_ (k.2 E p l e R s m args below meth c H locs LS n0 z0 Q C hh w lo kk)
  have := lv_room (m := m) (pc := pc) (ls := LS) (rest := (.ref k0 :: rest).map (x_V E)) (st := rest.map (x_V E)) (by rw [x_cats]; exact hc)
  omega
end XC
