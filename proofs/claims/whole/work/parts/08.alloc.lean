/-! new cells, copies of rows, old rows -/
def x_new (own : String) (idx ci : Nat) (fs : List Value) : Prop := ∃ q : vw_C, vwCl[ci]? = some q ∧ Cond.classLink own idx q.1 ∈ x_WS ∧ Cond.instantiable q.1 q.2.2 ∈ x_WS ∧ Cond.initialized q.1 ∈ x_WS ∧ fs.length = q.2.2 ∧ (∀ j, j < q.2.2 → (parseFieldDescriptor (q.2.1 j).2.2.1).map defaultValue = some (vp_V fs j)) ∧ ∀ v ∈ fs, v = .int 0 ∨ v = .long 0 ∨ v = .null
section XN
variable {sc : Nat × (Nat → Int32)} {d : Nat} {M : x_Mt} {pc : Nat} {ls st : List Value} {h h' : x_H} {r : Option Value}
theorem x_Wd.push {E : x_Env} {s : State} {H H1 : Heap} {locs : List Loc} {c : x_C} (w : x_Wd E s h H locs) (hs : H.size = E.2.2.1 + h.length) (z1 : H1.size = H.size + 1) (o1 : ∀ q : Nat, q < H.size → H1[q]? = H[q]?) (ha : va_at E.1 vwCl (E.2.2.1 + h.length, x_E E c) H1) : x_Wd E s (h ++ [c]) H1 locs := by
  refine ⟨?_, Nat.le_trans w.2.1 (by omega), fun x h1 h2 => (o1 x (Nat.lt_of_lt_of_le h1 w.2.1)).trans (w.2.2.1 x h1 h2), w.2.2.2⟩
  rw [← x_W_app]
  have hk : ∀ (k : Nat) (x : Nat × va_E), (x_W E h)[k]? = some x → H1[x.1]? = H[x.1]? := fun k x hx => o1 x.1 ((w.1 k x hx).lt)
  refine (w.1.kept hk).app (fun k x hx => ?_)
  have hz : k < 1 := (List.getElem?_eq_some_iff.mp hx).1
  rw [show k = 0 by omega] at hx
  cases hx
  exact ha
theorem x_grow {p : Program} {l : Launch} {e : Env} {R : Room} {s : State} {m : MethodId} {args : Array Value} {below : List Frame} {meth : Method} {c : Code} {H : Heap} {locs : List Loc} {n0 z0 n : Nat} {Q : State → Prop} {G : JFrame} {c1 : x_C}
    (h1 : n0 ≤ h.length) (h2 : z0 ≤ x_sl h) (e1 : x_slc c1 = n) (g : W p l e R s m args below meth c H locs ((h ++ [c1]).length - n0) (x_sl (h ++ [c1]) - z0) Q G) : W p l e R s m args below meth c H locs (h.length - n0 + 1) (x_sl h - z0 + n) Q G := by
  have a1 : (h ++ [c1]).length - n0 = h.length - n0 + 1 := by simp; omega
  have a2 : x_sl (h ++ [c1]) - z0 = x_sl h - z0 + n := by rw [x_sl_app, e1]; omega
  rw [a1, a2] at g
  exact g
set_option maxHeartbeats 1000000 in
theorem xr_new {idx ci : Nat} {fs : List Value} (hd : decode M.2.1 pc = .ok (.new idx, 3)) (hl : x_new M.1.cls idx ci fs) (hk0 : h.length < 1000000)
    (K : x_R sc d M (pc + 3) ls (.ref h.length :: st) (h ++ [.inl (ci, fs)]) r h') : x_R sc d M pc ls st h r h' := by
  have b1 : (h ++ [(.inl (ci, fs) : x_C)]).length = h.length + 1 := by simp
  have b2 : x_sl (h ++ [(.inl (ci, fs) : x_C)]) = x_sl h + fs.length := x_sl_app h _
  have a1 := K.1
  rw [b1, b2] at a1
  refine ⟨by omega, ?_⟩
  intro E p l e R s m args below meth c H locs LS n0 z0 Q C hh w lo kk
  obtain ⟨q, q1, q2, q3, q4, q5, q6, q7⟩ := hl
  obtain ⟨ty0, hty⟩ := (x_cf ci q q1).2.1
  have hKn := C.2.2.1.1 ci q q1
  have hh2 : s.heap.size = E.2.2.1 + n0 ∧ n0 ≤ h.length ∧ z0 ≤ x_sl h ∧ h'.length - n0 ≤ R.cells ∧ x_sl h' - z0 ≤ R.slots := hh
  refine x_size hh.1 hh.2.1 w fun hs => ?_
  refine W.newcK C.1.1 C.1.2.1 C.1.2.2.2.2.2.2 (C.2.1 _ q2) (C.2.1 _ q3) (C.2.1 _ q4) rfl hd (by omega) (by omega) hKn.2.1 rfl fun H1 kC hkC e1 z1 o1 => ?_
  have hfs : fs.map (x_V E) = fs := by
    refine (List.map_congr_left fun v hv => ?_).trans (List.map_id fs)
    rcases q7 v hv with rfl | rfl | rfl <;> rfl
  have hw : x_Wd E s (h ++ [.inl (ci, fs)]) H1 locs := by
    refine x_Wd.push w hs z1 o1 ?_
    refine ⟨q, q1, ?_⟩
    show t_OB (E.2.2.1 + h.length) (E.1.1 ci) q.2.2 (E.1.2 ci) H1 (vp_V (fs.map (x_V E)))
    rw [hfs, ← hs]
    refine (u_born ty0 C.2.1 (x_cf ci q q1).1 hKn hkC e1 hty).to (fun j hj => ?_)
    have := q6 j hj
    rw [hty j hj] at this
    exact Option.some.inj this
  have K2 := K.2 E p l e R s m args below meth c H1 locs LS n0 z0 Q C ⟨hh.1, by rw [b1]; omega, by rw [b2]; omega, hh.2.2.2.1, hh.2.2.2.2⟩ hw lo kk
  have K3 := x_grow (n := q.2.2) hh.2.1 hh.2.2.1 (by simpa [x_slc] using q5) K2
  simp only [List.map_cons, x_V, x_ad_lt hk0] at K3
  rw [← hs] at K3
  exact K3
/-- a new row of ints, bytes or booleans -/
def x_at (t : Nat) (a : ArrayType) : Prop := (t = 0 ∧ a = .int) ∨ (t = 1 ∧ a = .byte) ∨ (t = 2 ∧ a = .boolean)
set_option maxHeartbeats 1000000 in
theorem xr_newa {n : Int32} {a : ArrayType} (t N : Nat) (hd : decode M.2.1 pc = .ok (.newarray a, 2)) (ht : x_at t a) (hw1 : Cond.arrayClass (newarray.typeOf a) ∈ x_WS) (hn : ¬ n < 0) (hN : n.toNatClampNeg = N) (hb : N ≤ 100000) (hk0 : h.length < 1000000)
    (K : x_R sc d M (pc + 2) ls (.ref h.length :: st) (h ++ [.inr (.inl (t, N, fun _ => 0))]) r h') : x_R sc d M pc ls (.int n :: st) h r h' := by
  have b1 : (h ++ [(.inr (.inl (t, N, fun _ => 0)) : x_C)]).length = h.length + 1 := by simp
  have b2 : x_sl (h ++ [(.inr (.inl (t, N, fun _ => 0)) : x_C)]) = x_sl h + N := x_sl_app h _
  have a1 := K.1
  rw [b1, b2] at a1
  refine ⟨by omega, ?_⟩
  intro E p l e R s m args below meth c H locs LS n0 z0 Q C hh w lo kk
  have hh2 := hh
  refine x_size hh.1 hh.2.1 w fun hs => ?_
  refine va_newaK C.1.1 C.1.2.1 (C.2.1 _ hw1) rfl hd rfl hn hN (by rcases ht with ⟨-, rfl⟩ | ⟨-, rfl⟩ | ⟨-, rfl⟩ <;> simp [newarray.typeOf, componentBytes] <;> omega) (by omega) (by omega) rfl fun H1 cA e1 z1 o1 hAr hNm => ?_
  have hcA : cA = E.2.1 t := by
    rcases ht with ⟨rfl, rfl⟩ | ⟨rfl, rfl⟩ | ⟨rfl, rfl⟩
    · exact Option.some.inj (hNm.symm.trans (C.2.2.1.2 0 _ rfl).2)
    · exact Option.some.inj (hNm.symm.trans (C.2.2.1.2 1 _ rfl).2)
    · exact Option.some.inj (hNm.symm.trans (C.2.2.1.2 2 _ rfl).2)
  subst hcA
  have hw : x_Wd E s (h ++ [.inr (.inl (t, N, fun _ => 0))]) H1 locs := by
    refine x_Wd.push w hs z1 o1 ?_
    show H1[E.2.2.1 + h.length]? = some (vp_cell _ _)
    rw [← hs, e1]
    rcases ht with ⟨-, rfl⟩ | ⟨-, rfl⟩ | ⟨-, rfl⟩ <;> rfl
  have K2 := K.2 E p l e R s m args below meth c H1 locs LS n0 z0 Q C ⟨hh.1, by rw [b1]; omega, by rw [b2]; omega, hh.2.2.2.1, hh.2.2.2.2⟩ hw lo kk
  have K3 := x_grow (n := N) hh.2.1 hh.2.2.1 rfl K2
  simp only [List.map_cons, x_V, x_ad_lt hk0] at K3
  rw [← hs] at K3
  exact K3
def x_ao (t : Nat) (C : String) : Prop := (t = 3 ∧ C = RX2) ∨ (t = 4 ∧ C = RX1) ∨ (t = 5 ∧ C = RX4) ∨ (t = 6 ∧ C = RX9)
set_option maxHeartbeats 1000000 in
theorem xr_newq {n : Int32} {idx : Nat} (C1 : String) (t N : Nat) (hd : decode M.2.1 pc = .ok (.anewarray idx, 3)) (ht : x_ao t C1) (hw1 : Cond.classLink M.1.cls idx C1 ∈ x_WS) (hn : ¬ n < 0) (hN : n.toNatClampNeg = N) (hb : N ≤ 100000) (hk0 : h.length < 1000000)
    (K : x_R sc d M (pc + 3) ls (.ref h.length :: st) (h ++ [.inr (.inr (t, N, fun _ => none))]) r h') : x_R sc d M pc ls (.int n :: st) h r h' := by
  have b1 : (h ++ [(.inr (.inr (t, N, fun _ => none)) : x_C)]).length = h.length + 1 := by simp
  have b2 : x_sl (h ++ [(.inr (.inr (t, N, fun _ => none)) : x_C)]) = x_sl h + N := x_sl_app h _
  have a1 := K.1
  rw [b1, b2] at a1
  refine ⟨by omega, ?_⟩
  intro E p l e R s m args below meth c H locs LS n0 z0 Q C hh w lo kk
  have hh2 := hh
  have hAO : va_AO C1 s := by
    have hO := C.2.2.2.1.2.2.2.2.2.2.1
    rcases ht with ⟨-, rfl⟩ | ⟨-, rfl⟩ | ⟨-, rfl⟩ | ⟨-, rfl⟩
    · exact hO.1
    · exact hO.2.1
    · exact hO.2.2.1
    · exact hO.2.2.2
  refine x_size hh.1 hh.2.1 w fun hs => ?_
  subst hN
  refine W.anew C.1.1 C.1.2.1 C.1.2.2.2.2.2.2 (C.2.1 _ hw1) (va_AO.use hAO) rfl hd rfl hn (by omega) (by omega) (by omega) fun cA kA comp f1 f2 f3 f4 => ?_
  have hcA : cA = E.2.1 t := by
    rcases ht with ⟨rfl, rfl⟩ | ⟨rfl, rfl⟩ | ⟨rfl, rfl⟩ | ⟨rfl, rfl⟩
    · obtain ⟨_, _, _, _, _, g⟩ := (C.2.2.1.2 3 _ rfl).2; exact Option.some.inj (f1.symm.trans g)
    · obtain ⟨_, _, _, _, _, g⟩ := (C.2.2.1.2 4 _ rfl).2; exact Option.some.inj (f1.symm.trans g)
    · obtain ⟨_, _, _, _, _, g⟩ := (C.2.2.1.2 5 _ rfl).2; exact Option.some.inj (f1.symm.trans g)
    · obtain ⟨_, _, _, _, _, g⟩ := (C.2.2.1.2 6 _ rfl).2; exact Option.some.inj (f1.symm.trans g)
  subst hcA
  generalize hH1 : H.push ({ cls := E.2.1 t, slots := Array.replicate n.toNatClampNeg .null, vm := .none } : Cell) = H1
  have z1 : H1.size = H.size + 1 := by rw [← hH1, Array.size_push]
  have e1 : H1[H.size]? = some (arrV (E.2.1 t) n.toNatClampNeg (fun _ => .null)) := by rw [← hH1, Array.getElem?_push_size, ← arrV_new]
  have o1 : ∀ q : Nat, q < H.size → H1[q]? = H[q]? := fun q hq => by rw [← hH1, Array.getElem?_push, if_neg (Nat.ne_of_lt hq)]
  have hw : x_Wd E s (h ++ [.inr (.inr (t, n.toNatClampNeg, fun _ => none))]) H1 locs := by
    refine x_Wd.push w hs z1 o1 ?_
    show H1[E.2.2.1 + h.length]? = some (vp_cell _ _)
    rw [← hs, e1]
    rfl
  have K2 := K.2 E p l e R s m args below meth c H1 locs LS n0 z0 Q C ⟨hh.1, by rw [b1]; omega, by rw [b2]; omega, hh.2.2.2.1, hh.2.2.2.2⟩ hw lo kk
  have K3 := x_grow (n := n.toNatClampNeg) hh.2.1 hh.2.2.1 rfl K2
  simp only [List.map_cons, x_V, x_ad_lt hk0] at K3
  rw [← hs] at K3
  exact K3
/-- System.arraycopy between two of our rows -/
theorem xr_copy {idx k1 k2 n1 n2 t : Nat} {f g : Nat → Int32} {sp dp n : Int32} {rest : List Value} (ty : FieldType) (hd : decode M.2.1 pc = .ok (.invokestatic idx, 3)) (hl : Cond.methodLink M.1.cls idx arraycopyName ∈ x_WS ∧ Cond.native arraycopyName ∈ x_WS ∧ Cond.static arraycopyName ∈ x_WS ∧ Cond.initialized "java/lang/System" ∈ x_WS)
    (hk1 : h[k1]? = some (.inr (.inl (t, n1, f)))) (hk10 : k1 < 1000000) (hk2 : h[k2]? = some (.inr (.inl (t, n2, g)))) (hk20 : k2 < 1000000) (hty : ∀ E : x_Env, (x_Ty E)[t]? = some (E.2.1 t, ty)) (hp : refKind ty = false)
    (h1 : ¬ sp < 0) (h2 : ¬ dp < 0) (h3 : ¬ n < 0) (h4 : sp.toNatClampNeg + n.toNatClampNeg ≤ n1) (h5 : dp.toNatClampNeg + n.toNatClampNeg ≤ n2) (hfit : ∀ i, i < n.toNatClampNeg → fits ty (.int (f (sp.toNatClampNeg + i))) = true) (hc : (rest.map fun v => v.category).sum ≤ 8)
    (K : x_R sc (d + 1) M (pc + 3) ls rest (h.set k2 (.inr (.inl (t, n2, va_cpy f g sp.toNatClampNeg dp.toNatClampNeg n.toNatClampNeg)))) r h') : x_R sc (d + 1) M pc ls (.int n :: .int dp :: .ref k2 :: .int sp :: .ref k1 :: rest) h r h' := by
  have es : x_slc (.inr (.inl (t, n2, va_cpy f g sp.toNatClampNeg dp.toNatClampNeg n.toNatClampNeg))) = x_slc (.inr (.inl (t, n2, g))) := rfl
  refine ⟨x_K1_set hk2 es K.1, ?_⟩
  intro E p l e R s m args below meth c H locs LS n0 z0 Q C hh w lo kk
  have hf := C.2.2.2.2
  show W p l e R s m args below meth c H locs _ _ Q (F0 m pc LS (.int n :: .int dp :: .ref (x_ad E k2) :: .int sp :: .ref (x_ad E k1) :: rest.map (x_V E)))
  rw [x_ad_lt hk10, x_ad_lt hk20]
  refine va_copyi (D := E.1) C.1.1 C.1.2.1 (C.1.2.2.1.trans lo.2.1.symm) C.1.2.2.2.2.2.2 (C.2.1 _ hl.1) (C.2.1 _ hl.2.1) (C.2.1 _ hl.2.2.1) (C.2.1 _ hl.2.2.2) C.2.2.1 w.1 (x_W_D E h) w.2 k1 k2 t t (x_W_get hk1) (x_W_get hk2) (hty E) (hty E) hp h1 h2 h3 h4 h5 hfit (by omega) (by rw [x_cats]; simp [nativeFrameWords]; omega) hd (fun H1 locs1 hP _ hS => ?_)
  have hw : x_Wd E s (h.set k2 (.inr (.inl (t, n2, va_cpy f g sp.toNatClampNeg dp.toNatClampNeg n.toNatClampNeg)))) H1 locs1 := x_Wd.set hP hS
  exact x_go hk2 es (K.2 E p l e R s m args below meth c H1 locs1 LS n0 z0 Q C (x_hn_set hk2 es hh) hw lo kk)
theorem x_ad_ge {E : x_Env} {k : Nat} (hk : ¬ k < 1000000) : x_ad E k = E.2.2.2 k := if_neg hk
/-- a static row -/
theorem xr_gets {idx : Nat} (q : String × String × Nat × List Int32) (hd : decode M.2.1 pc = .ok (.getstatic idx, 3)) (hq : q ∈ x_stat) (hq1 : ¬ q.2.2.1 < 1000000) (hw : Cond.fieldLink M.1.cls idx q.1 q.2.1 "[I" ∈ x_WS)
    (K : x_R sc d M (pc + 3) ls (.ref q.2.2.1 :: st) h r h') : x_R sc d M pc ls st h r h' := by
  refine ⟨K.1, ?_⟩
  intro E p l e R s m args below meth c H locs LS n0 z0 Q C hh w lo kk
  have K2 := K.2 E p l e R s m args below meth c H locs LS n0 z0 Q C hh w lo kk
  simp only [List.map_cons, x_V, x_ad_ge hq1] at K2
  exact va_gets C.1.1 C.1.2.1 (C.2.2.2.1.1 q hq).1 w.2 C.1.2.2.2.2.2.2 (C.2.1 _ hw) (fun _ z => z) hd K2
/-- an old row of ints: its number, its contents -/
def x_row (sc : Nat × (Nat → Int32)) (k N : Nat) (f : Nat → Int32) : Prop := ¬ k < 1000000 ∧ ((k = 1000300 ∧ N = sc.1 ∧ f = sc.2) ∨ ∃ q ∈ x_stat, k = q.2.2.1 ∧ N = q.2.2.2.length ∧ f = fun j => q.2.2.2.getD j 0)
theorem x_row.T {E : x_Env} {s : State} {k N : Nat} {f : Nat → Int32} (hr : x_row sc k N f) (hO : x_Old sc E s s.heap) : va_T .int (E.2.2.2 k) N (fun j => .int (f j)) (x_A E) s s.heap := by
  obtain ⟨-, ⟨rfl, rfl, rfl⟩ | ⟨q, hq, rfl, rfl, rfl⟩⟩ := hr
  · exact hO.2.2.2.2.2.2.2
  · exact (hO.1 q hq).2
theorem xr_ialdT {k N : Nat} {f : Nat → Int32} {i : Int32} (hd : decode M.2.1 pc = .ok (.iaload, 1)) (hr : x_row sc k N f) (hi : vp_in i N)
    (K : x_R sc d M (pc + 1) ls (.int (f i.toNatClampNeg) :: st) h r h') : x_R sc d M pc ls (.int i :: .ref k :: st) h r h' := by
  refine ⟨K.1, ?_⟩
  intro E p l e R s m args below meth c H locs LS n0 z0 Q C hh w lo kk
  obtain ⟨cell, g1, g2, g3, g4, g5, g6, g7⟩ := (hr.T C.2.2.2.1).kept w.2.2.1
  show W p l e R s m args below meth c H locs _ _ Q (F0 m pc LS (.int i :: .ref (x_ad E k) :: st.map (x_V E)))
  rw [x_ad_ge hr.1]
  have hlt : i.toNatClampNeg < N := Nat.not_le.mp fun q => hi (Or.inr q)
  exact W.iald (v := .int (f i.toNatClampNeg)) C.1.1 C.1.2.1 g1 g2 g3 (by intro z; rcases z with z | z; exact hi (Or.inl z); omega) (g6 _ hlt) rfl rfl hd (K.2 E p l e R s m args below meth c H locs LS n0 z0 Q C hh w lo kk)
theorem xr_alenT {k N : Nat} {f : Nat → Int32} (v : Int32) (hd : decode M.2.1 pc = .ok (.arraylength, 1)) (hr : x_row sc k N f) (hv : Int32.ofNat N = v)
    (K : x_R sc d M (pc + 1) ls (.int v :: st) h r h') : x_R sc d M pc ls (.ref k :: st) h r h' := by
  refine ⟨K.1, ?_⟩
  subst hv
  intro E p l e R s m args below meth c H locs LS n0 z0 Q C hh w lo kk
  obtain ⟨cell, g1, g2, g3, g4, g5, g6, g7⟩ := (hr.T C.2.2.2.1).kept w.2.2.1
  show W p l e R s m args below meth c H locs _ _ Q (F0 m pc LS (.ref (x_ad E k) :: st.map (x_V E)))
  rw [x_ad_ge hr.1]
  exact W.alen (n := Int32.ofNat N) C.1.1 C.1.2.1 g1 g2 g5 rfl rfl hd (K.2 E p l e R s m args below meth c H locs LS n0 z0 Q C hh w lo kk)
end XN
