theorem x_ad_lt {E : x_Env} {k : Nat} (hk : k < 1000000) : x_ad E k = E.2.2.1 + k := if_pos hk
theorem x_sl_set : ∀ (h : x_H) (k : Nat) (c c' : x_C), h[k]? = some c → x_slc c' = x_slc c → x_sl (h.set k c') = x_sl h
  | [], k, c, c', hk, _ => by simp at hk
  | a :: h, 0, c, c', hk, e => by
    have e0 : a = c := by simpa using hk
    subst e0
    simp [x_sl, e]
  | a :: h, k + 1, c, c', hk, e => by
    have := x_sl_set h k c c' (by simpa using hk) e
    simp only [x_sl, List.set_cons_succ, List.map_cons, List.sum_cons] at this ⊢
    rw [this]
section XH
variable {sc : Nat × (Nat → Int32)} {d : Nat} {M : x_Mt} {pc : Nat} {ls st : List Value} {h h' : x_H} {r : Option Value}
theorem x_size {E : x_Env} {p : Program} {l : Launch} {e : Env} {R : Room} {s : State} {m : MethodId} {args : Array Value} {below : List Frame} {meth : Method} {c : Code} {H : Heap} {locs : List Loc} {n0 z : Nat} {Q : State → Prop} {G : JFrame}
    (hs : s.heap.size = E.2.2.1 + n0) (hn : n0 ≤ h.length) (w : x_Wd E s h H locs) (g : H.size = E.2.2.1 + h.length → W p l e R s m args below meth c H locs (h.length - n0) z Q G) : W p l e R s m args below meth c H locs (h.length - n0) z Q G := by
  intro T hT X
  refine g ?_ T hT X
  have h1 := X.heapSize
  rw [hT, hs] at h1
  have h2 : E.2.2.1 + h.length ≤ H.size := by
    rcases Nat.eq_zero_or_pos h.length with h0 | h0
    · have := w.2.1
      omega
    · have hk : h[h.length - 1]? = some (h[h.length - 1]) := List.getElem?_eq_getElem (by omega)
      have := (w.1 _ _ (x_W_get (E := E) hk)).lt
      dsimp only at this
      omega
  omega
theorem x_Wd.set {E : x_Env} {s : State} {H1 : Heap} {locs1 : List Loc} {k : Nat} {c' : x_C} (hP : va_P E.1 vwCl ((x_W E h).set k (E.2.2.1 + k, x_E E c')) H1) (hS : va_S (x_A E) s.heap H1 locs1) : x_Wd E s (h.set k c') H1 locs1 := ⟨by rw [← x_W_set]; exact hP, hS⟩
theorem xr_getf {idx ci k : Nat} {fs : List Value} (j : Nat) (v : Value) (hd : decode M.2.1 pc = .ok (.getfield idx, 3)) (hk : h[k]? = some (.inl (ci, fs))) (hk0 : k < 1000000) (hf : x_fl M.1.cls idx ci j) (hv : fs[j]? = some v)
    (K : x_R sc d M (pc + 3) ls (v :: st) h r h') : x_R sc d M pc ls (.ref k :: st) h r h' := by
  refine ⟨K.1, ?_⟩
  intro E p l e R s m args below meth c H locs LS n0 z0 Q C hn w lo kk
  obtain ⟨q, h1, h2, h3⟩ := hf
  show W p l e R s m args below meth c H locs _ _ Q (F0 m pc LS (.ref (x_ad E k) :: st.map (x_V E)))
  rw [x_ad_lt hk0]
  exact va_get (D := E.1) (C := q.1) (T := q.2.1) (N := q.2.2) C.1.1 C.1.2.1 C.2.1 (x_cf ci q h1).1 C.1.2.2.2.2.2.2 C.2.2.1 w.1 k (x_W_get hk) h1 j h2 (C.2.1 _ h3) (fun _ z => z) (v := x_V E v) (by simp [hv]) hd (K.2 E p l e R s m args below meth c H locs LS n0 z0 Q C hn w lo kk)
theorem x_hn_set {E : x_Env} {s : State} {R : Room} {n0 z0 k : Nat} {c0 c1 : x_C} (hk : h[k]? = some c0) (e : x_slc c1 = x_slc c0) (hn : s.heap.size = E.2.2.1 + n0 ∧ n0 ≤ h.length ∧ z0 ≤ x_sl h ∧ h'.length - n0 ≤ R.cells ∧ x_sl h' - z0 ≤ R.slots) :
    s.heap.size = E.2.2.1 + n0 ∧ n0 ≤ (h.set k c1).length ∧ z0 ≤ x_sl (h.set k c1) ∧ h'.length - n0 ≤ R.cells ∧ x_sl h' - z0 ≤ R.slots := by
  rw [List.length_set, x_sl_set h k c0 c1 hk e]
  exact hn
theorem x_K1_set {k : Nat} {c0 c1 : x_C} (hk : h[k]? = some c0) (e : x_slc c1 = x_slc c0) (K : (h.set k c1).length ≤ h'.length ∧ x_sl (h.set k c1) ≤ x_sl h') : h.length ≤ h'.length ∧ x_sl h ≤ x_sl h' := by
  rw [List.length_set, x_sl_set h k c0 c1 hk e] at K
  exact K
theorem x_go {p : Program} {l : Launch} {e : Env} {R : Room} {s : State} {m : MethodId} {args : Array Value} {below : List Frame} {meth : Method} {c : Code} {H : Heap} {locs : List Loc} {n0 z0 k : Nat} {Q : State → Prop} {G : JFrame} {c0 c1 : x_C}
    (hk : h[k]? = some c0) (e1 : x_slc c1 = x_slc c0) (g : W p l e R s m args below meth c H locs ((h.set k c1).length - n0) (x_sl (h.set k c1) - z0) Q G) : W p l e R s m args below meth c H locs (h.length - n0) (x_sl h - z0) Q G := by
  rw [List.length_set, x_sl_set h k c0 c1 hk e1] at g
  exact g
theorem xr_putf {idx ci k : Nat} {fs : List Value} {v : Value} (j : Nat) (ty : FieldType) (hd : decode M.2.1 pc = .ok (.putfield idx, 3)) (hk : h[k]? = some (.inl (ci, fs))) (hk0 : k < 1000000) (hf : x_fp M.1.cls idx ci j ty false) (hn : ∀ E, narrow ty (x_V E v) = x_V E v) (hfit : ∀ E, fits ty (x_V E v) = true) (hj : j < fs.length)
    (K : x_R sc d M (pc + 3) ls st (h.set k (.inl (ci, fs.set j v))) r h') : x_R sc d M pc ls (v :: .ref k :: st) h r h' := by
  have es : x_slc (.inl (ci, fs.set j v)) = x_slc (.inl (ci, fs)) := by simp [x_slc]
  refine ⟨x_K1_set hk es K.1, ?_⟩
  intro E p l e R s m args below meth c H locs LS n0 z0 Q C hh w lo kk
  obtain ⟨q, h1, h2, h3, h4, h5, h6⟩ := hf
  obtain ⟨ty0, hty⟩ := (x_cf ci q h1).2.1
  show W p l e R s m args below meth c H locs _ _ Q (F0 m pc LS (x_V E v :: .ref (x_ad E k) :: st.map (x_V E)))
  rw [x_ad_lt hk0]
  refine va_put (D := E.1) (C := q.1) (T := q.2.1) (N := q.2.2) (ty := ty) C.1.1 C.1.2.1 C.2.1 (x_cf ci q h1).1 ty0 hty (x_cf ci q h1).2.2 C.1.2.2.2.2.2.2 C.2.2.1 w.1 (x_W_D E h) w.2 k (x_W_get hk) h1 j h2 (C.2.1 _ h3) (fun _ z => z) h4 h6 (hn E) (hfit E) (by simpa using hj) hd (fun H1 locs1 hP _ hS => ?_)
  have hw : x_Wd E s (h.set k (.inl (ci, fs.set j v))) H1 locs1 := x_Wd.set (by simpa [x_E, List.map_set] using hP) hS
  exact x_go hk es (K.2 E p l e R s m args below meth c H1 locs1 LS n0 z0 Q C (x_hn_set hk es hh) hw lo kk)
/-- a final field, in its constructor -/
theorem xr_putF {idx ci k : Nat} {fs : List Value} {v : Value} (j : Nat) (ty : FieldType) (hd : decode M.2.1 pc = .ok (.putfield idx, 3)) (hk : h[k]? = some (.inl (ci, fs))) (hk0 : k < 1000000) (hi : M.1.name = "<init>") (hf : x_fp M.1.cls idx ci j ty true) (hn : ∀ E, narrow ty (x_V E v) = x_V E v) (hfit : ∀ E, fits ty (x_V E v) = true) (hj : j < fs.length)
    (K : x_R sc d M (pc + 3) ls st (h.set k (.inl (ci, fs.set j v))) r h') : x_R sc d M pc ls (v :: .ref k :: st) h r h' := by
  have es : x_slc (.inl (ci, fs.set j v)) = x_slc (.inl (ci, fs)) := by simp [x_slc]
  refine ⟨x_K1_set hk es K.1, ?_⟩
  intro E p l e R s m args below meth c H locs LS n0 z0 Q C hh w lo kk
  obtain ⟨q, h1, h2, h3, h4, h5, h6⟩ := hf
  obtain ⟨ty0, hty⟩ := (x_cf ci q h1).2.1
  show W p l e R s m args below meth c H locs _ _ Q (F0 m pc LS (x_V E v :: .ref (x_ad E k) :: st.map (x_V E)))
  rw [x_ad_lt hk0]
  refine va_putF (D := E.1) (C := q.1) (T := q.2.1) (N := q.2.2) (ty := ty) C.1.1 C.1.2.1 C.2.1 (x_cf ci q h1).1 ty0 hty (x_cf ci q h1).2.2 C.1.2.2.2.2.2.2 C.2.2.1 w.1 (x_W_D E h) w.2 k (x_W_get hk) h1 j h2 (C.2.1 _ h3) (fun _ z => z) h4 (C.1.2.2.2.2.2.1.trans hi) (h5 rfl) h6 (hn E) (hfit E) (by simpa using hj) hd (fun H1 locs1 hP _ hS => ?_)
  have hw : x_Wd E s (h.set k (.inl (ci, fs.set j v))) H1 locs1 := x_Wd.set (by simpa [x_E, List.map_set] using hP) hS
  exact x_go hk es (K.2 E p l e R s m args below meth c H1 locs1 LS n0 z0 Q C (x_hn_set hk es hh) hw lo kk)
theorem xr_iald {k n : Nat} {f : Nat → Int32} {i : Int32} (hd : decode M.2.1 pc = .ok (.iaload, 1)) (hk : h[k]? = some (.inr (.inl (0, n, f)))) (hk0 : k < 1000000) (hi : vp_in i n)
    (K : x_R sc d M (pc + 1) ls (.int (f i.toNatClampNeg) :: st) h r h') : x_R sc d M pc ls (.int i :: .ref k :: st) h r h' := by
  refine ⟨K.1, ?_⟩
  intro E p l e R s m args below meth c H locs LS n0 z0 Q C hn w lo kk
  show W p l e R s m args below meth c H locs _ _ Q (F0 m pc LS (.int i :: .ref (x_ad E k) :: st.map (x_V E)))
  rw [x_ad_lt hk0]
  exact va_iald (D := E.1) C.1.1 C.1.2.1 C.2.2.1 w.1 k 0 (x_W_get hk) rfl hi hd (K.2 E p l e R s m args below meth c H locs LS n0 z0 Q C hn w lo kk)
theorem xr_bald {k n : Nat} {f : Nat → Int32} {i : Int32} (hd : decode M.2.1 pc = .ok (.baload, 1)) (hk : h[k]? = some (.inr (.inl (1, n, f)))) (hk0 : k < 1000000) (hi : vp_in i n)
    (K : x_R sc d M (pc + 1) ls (.int (f i.toNatClampNeg) :: st) h r h') : x_R sc d M pc ls (.int i :: .ref k :: st) h r h' := by
  refine ⟨K.1, ?_⟩
  intro E p l e R s m args below meth c H locs LS n0 z0 Q C hn w lo kk
  show W p l e R s m args below meth c H locs _ _ Q (F0 m pc LS (.int i :: .ref (x_ad E k) :: st.map (x_V E)))
  rw [x_ad_lt hk0]
  exact va_bald (D := E.1) C.1.1 C.1.2.1 C.2.2.1 w.1 k 1 (x_W_get hk) rfl hi hd (K.2 E p l e R s m args below meth c H locs LS n0 z0 Q C hn w lo kk)
theorem xr_zald {k n : Nat} {f : Nat → Int32} {i : Int32} (hd : decode M.2.1 pc = .ok (.baload, 1)) (hk : h[k]? = some (.inr (.inl (2, n, f)))) (hk0 : k < 1000000) (hi : vp_in i n)
    (K : x_R sc d M (pc + 1) ls (.int (f i.toNatClampNeg) :: st) h r h') : x_R sc d M pc ls (.int i :: .ref k :: st) h r h' := by
  refine ⟨K.1, ?_⟩
  intro E p l e R s m args below meth c H locs LS n0 z0 Q C hn w lo kk
  show W p l e R s m args below meth c H locs _ _ Q (F0 m pc LS (.int i :: .ref (x_ad E k) :: st.map (x_V E)))
  rw [x_ad_lt hk0]
  exact va_zald (D := E.1) C.1.1 C.1.2.1 C.2.2.1 w.1 k 2 (x_W_get hk) rfl hi hd (K.2 E p l e R s m args below meth c H locs LS n0 z0 Q C hn w lo kk)
theorem xr_iast {k n : Nat} {f : Nat → Int32} {i x : Int32} (hd : decode M.2.1 pc = .ok (.iastore, 1)) (hk : h[k]? = some (.inr (.inl (0, n, f)))) (hk0 : k < 1000000) (hi : vp_in i n)
    (K : x_R sc d M (pc + 1) ls st (h.set k (.inr (.inl (0, n, upd f i.toNatClampNeg x)))) r h') : x_R sc d M pc ls (.int x :: .int i :: .ref k :: st) h r h' := by
  have es : x_slc (.inr (.inl (0, n, upd f i.toNatClampNeg x))) = x_slc (.inr (.inl (0, n, f))) := rfl
  refine ⟨x_K1_set hk es K.1, ?_⟩
  intro E p l e R s m args below meth c H locs LS n0 z0 Q C hh w lo kk
  show W p l e R s m args below meth c H locs _ _ Q (F0 m pc LS (.int x :: .int i :: .ref (x_ad E k) :: st.map (x_V E)))
  rw [x_ad_lt hk0]
  refine va_iast (D := E.1) C.1.1 C.1.2.1 C.2.2.1 w.1 (x_W_D E h) w.2 k 0 (x_W_get hk) rfl hi hd (fun H1 locs1 hP _ hS => ?_)
  have hw : x_Wd E s (h.set k (.inr (.inl (0, n, upd f i.toNatClampNeg x)))) H1 locs1 := x_Wd.set hP hS
  exact x_go hk es (K.2 E p l e R s m args below meth c H1 locs1 LS n0 z0 Q C (x_hn_set hk es hh) hw lo kk)
theorem xr_bast {k n : Nat} {f : Nat → Int32} {i x : Int32} (hd : decode M.2.1 pc = .ok (.bastore, 1)) (hk : h[k]? = some (.inr (.inl (1, n, f)))) (hk0 : k < 1000000) (hi : vp_in i n)
    (K : x_R sc d M (pc + 1) ls st (h.set k (.inr (.inl (1, n, upd f i.toNatClampNeg (vp_nar .byte x))))) r h') : x_R sc d M pc ls (.int x :: .int i :: .ref k :: st) h r h' := by
  have es : x_slc (.inr (.inl (1, n, upd f i.toNatClampNeg (vp_nar .byte x)))) = x_slc (.inr (.inl (1, n, f))) := rfl
  refine ⟨x_K1_set hk es K.1, ?_⟩
  intro E p l e R s m args below meth c H locs LS n0 z0 Q C hh w lo kk
  show W p l e R s m args below meth c H locs _ _ Q (F0 m pc LS (.int x :: .int i :: .ref (x_ad E k) :: st.map (x_V E)))
  rw [x_ad_lt hk0]
  refine va_bast (D := E.1) C.1.1 C.1.2.1 C.2.2.1 w.1 (x_W_D E h) w.2 k 1 (x_W_get hk) rfl hi hd (fun H1 locs1 hP _ hS => ?_)
  have hw : x_Wd E s (h.set k (.inr (.inl (1, n, upd f i.toNatClampNeg (vp_nar .byte x))))) H1 locs1 := x_Wd.set hP hS
  exact x_go hk es (K.2 E p l e R s m args below meth c H1 locs1 LS n0 z0 Q C (x_hn_set hk es hh) hw lo kk)
theorem xr_zast {k n : Nat} {f : Nat → Int32} {i x : Int32} (hd : decode M.2.1 pc = .ok (.bastore, 1)) (hk : h[k]? = some (.inr (.inl (2, n, f)))) (hk0 : k < 1000000) (hi : vp_in i n)
    (K : x_R sc d M (pc + 1) ls st (h.set k (.inr (.inl (2, n, upd f i.toNatClampNeg (vp_nar .boolean x))))) r h') : x_R sc d M pc ls (.int x :: .int i :: .ref k :: st) h r h' := by
  have es : x_slc (.inr (.inl (2, n, upd f i.toNatClampNeg (vp_nar .boolean x)))) = x_slc (.inr (.inl (2, n, f))) := rfl
  refine ⟨x_K1_set hk es K.1, ?_⟩
  intro E p l e R s m args below meth c H locs LS n0 z0 Q C hh w lo kk
  show W p l e R s m args below meth c H locs _ _ Q (F0 m pc LS (.int x :: .int i :: .ref (x_ad E k) :: st.map (x_V E)))
  rw [x_ad_lt hk0]
  refine va_zast (D := E.1) C.1.1 C.1.2.1 C.2.2.1 w.1 (x_W_D E h) w.2 k 2 (x_W_get hk) rfl hi hd (fun H1 locs1 hP _ hS => ?_)
  have hw : x_Wd E s (h.set k (.inr (.inl (2, n, upd f i.toNatClampNeg (vp_nar .boolean x))))) H1 locs1 := x_Wd.set hP hS
  exact x_go hk es (K.2 E p l e R s m args below meth c H1 locs1 LS n0 z0 Q C (x_hn_set hk es hh) hw lo kk)
theorem x_Ty_get (E : x_Env) {t : Nat} (ht : t < 7) : ∃ ty, (x_Ty E)[t]? = some (E.2.1 t, ty) := by
  match t, ht with
  | 0, _ => exact ⟨_, rfl⟩
  | 1, _ => exact ⟨_, rfl⟩
  | 2, _ => exact ⟨_, rfl⟩
  | 3, _ => exact ⟨_, rfl⟩
  | 4, _ => exact ⟨_, rfl⟩
  | 5, _ => exact ⟨_, rfl⟩
  | 6, _ => exact ⟨_, rfl⟩
theorem xr_alen {k t n : Nat} {f : Nat → Int32} (v : Int32) (hd : decode M.2.1 pc = .ok (.arraylength, 1)) (hk : h[k]? = some (.inr (.inl (t, n, f)))) (hk0 : k < 1000000) (ht : t < 7) (hv : Int32.ofNat n = v)
    (K : x_R sc d M (pc + 1) ls (.int v :: st) h r h') : x_R sc d M pc ls (.ref k :: st) h r h' := by
  refine ⟨K.1, ?_⟩
  intro E p l e R s m args below meth c H locs LS n0 z0 Q C hn w lo kk
  obtain ⟨ty, hty⟩ := x_Ty_get E ht
  show W p l e R s m args below meth c H locs _ _ Q (F0 m pc LS (.ref (x_ad E k) :: st.map (x_V E)))
  rw [x_ad_lt hk0]
  exact va_alen (D := E.1) C.1.1 C.1.2.1 C.2.2.1 w.1 k t (x_W_get hk) hty hv hd (K.2 E p l e R s m args below meth c H locs LS n0 z0 Q C hn w lo kk)
def x_rf : Option Nat → Value
  | some k => .ref k
  | none => .null
theorem x_rf_V (E : x_Env) (o : Option Nat) : x_V E (x_rf o) = va_rf (o.map (x_ad E)) := by cases o <;> rfl
theorem xr_aald {k t n : Nat} {f : Nat → Option Nat} {i : Int32} (v : Value) (hd : decode M.2.1 pc = .ok (.aaload, 1)) (hk : h[k]? = some (.inr (.inr (t, n, f)))) (hk0 : k < 1000000) (ht : 3 ≤ t ∧ t < 7) (hi : vp_in i n) (hv : x_rf (f i.toNatClampNeg) = v)
    (K : x_R sc d M (pc + 1) ls (v :: st) h r h') : x_R sc d M pc ls (.int i :: .ref k :: st) h r h' := by
  refine ⟨K.1, ?_⟩
  subst hv
  intro E p l e R s m args below meth c H locs LS n0 z0 Q C hn w lo kk
  have hty : ∃ C, (x_Ty E)[t]? = some (E.2.1 t, .object C) := by
    match t, ht with
    | 3, _ => exact ⟨_, rfl⟩
    | 4, _ => exact ⟨_, rfl⟩
    | 5, _ => exact ⟨_, rfl⟩
    | 6, _ => exact ⟨_, rfl⟩
  obtain ⟨C1, hty⟩ := hty
  show W p l e R s m args below meth c H locs _ _ Q (F0 m pc LS (.int i :: .ref (x_ad E k) :: st.map (x_V E)))
  rw [x_ad_lt hk0]
  refine va_aldq (D := E.1) C.1.1 C.1.2.1 C.2.2.1 w.1 k t (x_W_get hk) hty hi hd ?_
  have K2 := K.2 E p l e R s m args below meth c H locs LS n0 z0 Q C hn w lo kk
  rw [List.map_cons, x_rf_V] at K2
  exact K2
theorem xr_aast {k k2 t n ci : Nat} {f : Nat → Option Nat} {i : Int32} {vs : List Value} (hd : decode M.2.1 pc = .ok (.aastore, 1)) (hk : h[k]? = some (.inr (.inr (t, n, f)))) (hk0 : k < 1000000) (hk2 : h[k2]? = some (.inl (ci, vs))) (hk3 : k2 < 1000000) (hc : ∃ q : vw_C, vwCl[ci]? = some q ∧ ∀ E : x_Env, (x_Ty E)[t]? = some (E.2.1 t, .object q.1)) (hi : vp_in i n)
    (K : x_R sc d M (pc + 1) ls st (h.set k (.inr (.inr (t, n, va_up f i.toNatClampNeg (some k2))))) r h') : x_R sc d M pc ls (.ref k2 :: .int i :: .ref k :: st) h r h' := by
  have es : x_slc (.inr (.inr (t, n, va_up f i.toNatClampNeg (some k2)))) = x_slc (.inr (.inr (t, n, f))) := rfl
  refine ⟨x_K1_set hk es K.1, ?_⟩
  intro E p l e R s m args below meth c H locs LS n0 z0 Q C hh w lo kk
  obtain ⟨q, hc1, hc2⟩ := hc
  show W p l e R s m args below meth c H locs _ _ Q (F0 m pc LS (.ref (x_ad E k2) :: .int i :: .ref (x_ad E k) :: st.map (x_V E)))
  rw [x_ad_lt hk0, x_ad_lt hk3]
  refine va_astq (D := E.1) C.1.1 C.1.2.1 C.2.2.1 w.1 (x_W_D E h) w.2 k t k2 ci (x_W_get hk) (hc2 E) (x_W_get hk2) hc1 hi hd (fun H1 locs1 hP _ hS => ?_)
  have hw : x_Wd E s (h.set k (.inr (.inr (t, n, va_up f i.toNatClampNeg (some k2))))) H1 locs1 := by
    refine x_Wd.set ?_ hS
    have e1 : (fun j => ((va_up f i.toNatClampNeg (some k2)) j).map (x_ad E)) = va_up (fun j => (f j).map (x_ad E)) i.toNatClampNeg (some (E.2.2.1 + k2)) := by
      funext j
      by_cases hj : j = i.toNatClampNeg
      · simp [va_up, hj, x_ad_lt hk3]
      · simp [va_up, hj]
    show va_P _ _ (List.set _ _ (_, .inl (_, _, .inr (.inr (.inr (.inr (fun j => ((va_up f i.toNatClampNeg (some k2)) j).map (x_ad E)))))))) _
    rw [e1]
    exact hP
  exact x_go hk es (K.2 E p l e R s m args below meth c H1 locs1 LS n0 z0 Q C (x_hn_set hk es hh) hw lo kk)
/-- ends -/
theorem xr_iret {v : Int32} (ty : FieldType) (hd : decode M.2.1 pc = .ok (.ireturn, 1)) (hr : M.2.2.2 = some ty) (hn : narrow ty (.int v) = .int v) : x_R sc d M pc ls [.int v] h (some (.int v)) h :=
  ⟨⟨Nat.le_refl _, Nat.le_refl _⟩, fun E p l e R s m args below meth c H locs LS n0 z0 Q C hh w lo kk => kk H locs LS pc w ⟨hd, ty, hr, hn⟩⟩
theorem xr_lret {v : Int64} (hd : decode M.2.1 pc = .ok (.lreturn, 1)) (hr : M.2.2.2 = some .long) : x_R sc d M pc ls [.long v] h (some (.long v)) h :=
  ⟨⟨Nat.le_refl _, Nat.le_refl _⟩, fun E p l e R s m args below meth c H locs LS n0 z0 Q C hh w lo kk => kk H locs LS pc w ⟨hd, hr⟩⟩
theorem xr_aret {k : Nat} (n : String) (hd : decode M.2.1 pc = .ok (.areturn, 1)) (hr : M.2.2.2 = some (.object n)) : x_R sc d M pc ls [.ref k] h (some (.ref k)) h :=
  ⟨⟨Nat.le_refl _, Nat.le_refl _⟩, fun E p l e R s m args below meth c H locs LS n0 z0 Q C hh w lo kk => kk H locs LS pc w ⟨hd, n, hr⟩⟩
theorem xr_aret0 (n : String) (hd : decode M.2.1 pc = .ok (.areturn, 1)) (hr : M.2.2.2 = some (.object n)) : x_R sc d M pc ls [.null] h (some .null) h :=
  ⟨⟨Nat.le_refl _, Nat.le_refl _⟩, fun E p l e R s m args below meth c H locs LS n0 z0 Q C hh w lo kk => kk H locs LS pc w ⟨hd, n, hr⟩⟩
theorem xr_ret (hd : decode M.2.1 pc = .ok (.return_, 1)) (hr : M.2.2.2 = none) : x_R sc d M pc ls [] h none h :=
  ⟨⟨Nat.le_refl _, Nat.le_refl _⟩, fun E p l e R s m args below meth c H locs LS n0 z0 Q C hh w lo kk => kk H locs LS pc w ⟨hd, hr⟩⟩
/-- what stands in old rows: static rows and the script -/
theorem x_oldT {E : x_Env} {s : State} {H : Heap} {locs : List Loc} {t N : Nat} {f : Nat → Value} (hT : va_T .int t N f (x_A E) s s.heap) (hS : va_S (x_A E) s.heap H locs) : va_T .int t N f (x_A E) s H := hT.kept hS.2.1
end XH
