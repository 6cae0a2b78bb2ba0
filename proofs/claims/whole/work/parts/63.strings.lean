/-! texts: the length and the letters of a name -/
section XS
variable {sc : Nat × (Nat → Int32)} {d : Nat} {M M' : x_Mt} {pc : Nat} {ls st : List Value} {h h' h1 : x_H} {r r1 : Option Value}
theorem x_t6 {i : Nat} : ¬ 1000000 + i < 1000000 := by omega
theorem x_t7 {i : Nat} : ¬ 1000100 + i < 1000000 := by omega
theorem xr_ldcT {idx i : Nat} (hd : decode M.2.1 pc = .ok (.ldc idx, 2)) (hi : i < 16) (hM : M.1.cls = RX6) (hx : (x_text.getD i ("", 0)).2 = idx)
    (K : x_R sc d M (pc + 2) ls (.ref (1000000 + i) :: st) h r h') : x_R sc d M pc ls st h r h' := by
  subst hx
  refine ⟨K.1, ?_⟩
  intro E p l e R s m args below meth c H locs LS n0 z0 Q C hh w lo kk
  have K2 := K.2 E p l e R s m args below meth c H locs LS n0 z0 Q C hh w lo kk
  simp only [List.map_cons, x_V, x_ad_ge x_t6] at K2
  exact va_ldcS C.1.1 C.1.2.1 (by rw [← hM]; exact C.1.2.2.2.2.2.2) (C.2.2.2.1.2.2.2.2.1 i hi) hd K2
theorem xr_getTv {idx i : Nat} (hd : decode M.2.1 pc = .ok (.getfield idx, 3)) (hi : i < 16) (hw : Cond.fieldLink M.1.cls idx "java/lang/String" "value" "[B" ∈ x_WS)
    (K : x_R sc d M (pc + 3) ls (.ref (1000100 + i) :: st) h r h') : x_R sc d M pc ls (.ref (1000000 + i) :: st) h r h' := by
  refine ⟨K.1, ?_⟩
  intro E p l e R s m args below meth c H locs LS n0 z0 Q C hh w lo kk
  have K2 := K.2 E p l e R s m args below meth c H locs LS n0 z0 Q C hh w lo kk
  simp only [List.map_cons, x_V, x_ad_ge x_t7] at K2
  simp only [List.map_cons, x_V, x_ad_ge x_t6]
  exact vk_getf C.1.1 C.1.2.1 (C.2.2.2.1.2.2.2.1.1 i hi).2.2.1 w.2 C.1.2.2.2.2.2.2 (C.2.1 _ hw) (fun _ z => z) hd K2
theorem xr_getTc {idx i : Nat} (hd : decode M.2.1 pc = .ok (.getfield idx, 3)) (hi : i < 16) (hw : Cond.fieldLink M.1.cls idx "java/lang/String" "coder" "B" ∈ x_WS)
    (K : x_R sc d M (pc + 3) ls (.int 0 :: st) h r h') : x_R sc d M pc ls (.ref (1000000 + i) :: st) h r h' := by
  refine ⟨K.1, ?_⟩
  intro E p l e R s m args below meth c H locs LS n0 z0 Q C hh w lo kk
  have K2 := K.2 E p l e R s m args below meth c H locs LS n0 z0 Q C hh w lo kk
  simp only [List.map_cons, x_V, x_ad_ge x_t6]
  exact vk_getf C.1.1 C.1.2.1 (C.2.2.2.1.2.2.2.1.1 i hi).2.1 w.2 C.1.2.2.2.2.2.2 (C.2.1 _ hw) (fun _ z => z) hd K2
theorem xr_getsC {idx : Nat} (hd : decode M.2.1 pc = .ok (.getstatic idx, 3)) (hw : Cond.fieldLink M.1.cls idx "java/lang/String" "COMPACT_STRINGS" "Z" ∈ x_WS)
    (K : x_R sc d M (pc + 3) ls (.int 1 :: st) h r h') : x_R sc d M pc ls st h r h' := by
  refine ⟨K.1, ?_⟩
  intro E p l e R s m args below meth c H locs LS n0 z0 Q C hh w lo kk
  exact va_gets C.1.1 C.1.2.1 C.2.2.2.1.2.1 w.2 C.1.2.2.2.2.2.2 (C.2.1 _ hw) (fun _ z => z) hd (K.2 E p l e R s m args below meth c H locs LS n0 z0 Q C hh w lo kk)
theorem xr_alenB {i : Nat} (hd : decode M.2.1 pc = .ok (.arraylength, 1)) (hi : i < 16)
    (K : x_R sc d M (pc + 1) ls (.int (Int32.ofNat (x_slen.getD i 0)) :: st) h r h') : x_R sc d M pc ls (.ref (1000100 + i) :: st) h r h' := by
  refine ⟨K.1, ?_⟩
  intro E p l e R s m args below meth c H locs LS n0 z0 Q C hh w lo kk
  obtain ⟨cell, g1, g2, g3, g4, g5, g6, g7⟩ := (C.2.2.2.1.2.2.2.1.1 i hi).2.2.2.kept w.2.2.1
  simp only [List.map_cons, x_V, x_ad_ge x_t7]
  exact W.alen (n := Int32.ofNat (x_slen.getD i 0)) C.1.1 C.1.2.1 g1 g2 g5 rfl rfl hd (K.2 E p l e R s m args below meth c H locs LS n0 z0 Q C hh w lo kk)
theorem xr_baldB {i : Nat} {j : Int32} (hd : decode M.2.1 pc = .ok (.baload, 1)) (hi : i < 16) (hj : vp_in j (x_slen.getD i 0))
    (K : x_R sc d M (pc + 1) ls (.int ((x_sbyt.getD i []).getD j.toNatClampNeg 0) :: st) h r h') : x_R sc d M pc ls (.int j :: .ref (1000100 + i) :: st) h r h' := by
  refine ⟨K.1, ?_⟩
  intro E p l e R s m args below meth c H locs LS n0 z0 Q C hh w lo kk
  obtain ⟨cell, g1, g2, g3, g4, g5, g6, g7⟩ := (C.2.2.2.1.2.2.2.1.1 i hi).2.2.2.kept w.2.2.1
  simp only [List.map_cons, x_V, x_ad_ge x_t7]
  have hlt : j.toNatClampNeg < x_slen.getD i 0 := Nat.not_le.mp fun q => hj (Or.inr q)
  exact W.bald (v := .int ((x_sbyt.getD i []).getD j.toNatClampNeg 0)) C.1.1 C.1.2.1 g1 g2 g3 (by intro z; rcases z with z | z; exact hj (Or.inl z); omega) (g6 _ hlt) rfl rfl hd (K.2 E p l e R s m args below meth c H locs LS n0 z0 Q C hh w lo kk)
/-- the links of a call on a text -/
def x_lkT (own : String) (idx : Nat) (M' : x_Mt) (n : Nat) : Prop := x_lk own idx M' n ∧ Cond.instanceMethod M'.1 ∈ x_WS ∧ Cond.selects M'.1.cls M'.1 M'.1 ∈ x_WS ∧ M'.1.cls = "java/lang/String"
set_option maxHeartbeats 1000000 in
theorem xr_callT {idx n i : Nat} {as rest : List Value} (hd : decode M.2.1 pc = .ok (.invokevirtual idx, 3)) (hl : x_lkT M.1.cls idx M' n) (hi : i < 16) (hn : as.length = n) (hst : st = as.reverse ++ .ref (1000000 + i) :: rest) (hc : (rest.map fun v => v.category).sum ≤ 8) (hM : x_M sc d M' (.ref (1000000 + i) :: as) h r1 h1)
    (k : x_R sc (d + 1) M (pc + 3) ls (r1.toList ++ rest) h1 r h') : x_R sc (d + 1) M pc ls st h r h' := by
  refine ⟨⟨Nat.le_trans hM.1.1 k.1.1, Nat.le_trans hM.1.2 k.1.2⟩, ?_⟩
  intro E p l e R s m args below meth c H locs LS n0 z0 Q C hh w lo kk
  refine x_size hh.1 hh.2.1 w fun hs => ?_
  have a1 := hM.1
  have a2 := k.1
  obtain ⟨l1, l2, l3, l4⟩ := hl
  have hrec : ∃ cell : Cell, H[x_ad E (1000000 + i)]? = some cell ∧ cell.vm.isStatics = false ∧ s.vm.findClass M'.1.cls = some cell.cls := by
    rw [x_ad_ge x_t6, l4]
    exact vk_recv (i := i) (adK := fun i => E.2.2.2 (1000000 + i)) C.2.2.2.1.2.2.2.1 hi w.2
  have hpre := x_pre (as := .ref (1000000 + i) :: as) C w hs
  refine x_back (h1 := h1) (rest := rest) (a := (Value.ref (x_ad E (1000000 + i)) :: as.map (x_V E)).toArray) hh hM.1 w (va_runV (S := ⟨C.1.1, C.1.2.1, C.1.2.2.1, C.1.2.2.2.2.2.2, C.2.1⟩) (hM.2 E l) ⟨x_callB C l1, C.2.1 _ l2, C.2.1 _ l3⟩ ⟨hpre.1, hrec, hpre.2⟩ rfl (by simpa using hn) lo.2.1 (by rw [hst]; simp [x_V]) (lv_room (by rw [x_cats]; exact hc)) hd ⟨by omega, by omega⟩) (fun H1 locs1 hw => ?_)
  exact k.2 E p l e R s m args below meth c H1 locs1 LS n0 z0 Q C ⟨hh.1, by omega, by omega, hh.2.2.2.1, hh.2.2.2.2⟩ hw lo kk
/-! a call with an argument that nobody asks for -/
def x_PcA (sc : Nat × (Nat → Int32)) (E : x_Env) (As : List Value) (h : x_H) : Array Value → State → Prop := va_Pc As (fun U => U.heap.size = E.2.2.1 + h.length ∧ va_P E.1 vwCl (x_W E h) U.heap ∧ va_K E.1 vwCl (x_Ty E) U ∧ x_Old sc E U U.heap)
theorem x_PcA_blind (sc : Nat × (Nat → Int32)) (E : x_Env) (As : List Value) (h : x_H) : FrameBlind (x_PcA sc E As h) := by
  intro a U g mk q
  obtain ⟨q1, q2, q3, q4, q5⟩ := q
  exact ⟨q1, q2, q3, va_K.moved (u := U) (U := U.calling g mk a) (Vm.Alike.refl U.vm) q4, x_Old.same (u := U) (U := U.calling g mk a) rfl rfl q5⟩
theorem x_preA {E : x_Env} {p : Program} {R : Room} {s : State} {m : MethodId} {args : Array Value} {meth : Method} {c : Code} {H : Heap} {locs : List Loc} {As : List Value} {d' : Nat} (C : x_Cx sc E p R s m args meth c M d') (w : x_Wd E s h H locs) (hs : H.size = E.2.2.1 + h.length) : PreS s H (x_PcA sc E As h) As :=
  ⟨x_PcA_blind sc E As h, fun U hU hW => ⟨rfl, by rw [hU]; exact hs, by rw [hU]; exact w.1, va_K.moved hW.alike C.2.2.1, C.2.2.2.1.to w.2 hW hU⟩⟩
set_option maxHeartbeats 2000000 in
theorem x_MA {As ls : List Value} (E : x_Env) (l : Launch) (hp : plainName M.1.cls = true) (v : Int32) (hlo : x_Lo E M.2.2.1 ls ((lg_sl As ++ List.replicate (M.2.2.1 - (lg_sl As).length) Slot.unset).toArray)) (k : x_R sc d M 0 ls [] h (some (.int v)) h) :
    Met l M.1 (x_ws M) (x_rm d (h.length - h.length) (x_sl h - x_sl h)) (x_PcA sc E As h) (x_Qc E (some (.int v)) h) (h.length - h.length) (x_sl h - x_sl h) (x_A E) := by
  refine Met.ofW (cc := M.2.1) (maxL := M.2.2.1) (ret := M.2.2.2) (ws' := x_WS) hp rfl ?_
  intro p e s m args below meth c s₁ B hml hv
  obtain ⟨rfl, hsz, hP, hK, hO⟩ := hv
  have hts := atoms_spec (ws := x_ws M) B.pre
  have hC : x_Cx sc E p (headSpec (x_ws M) (x_rm d (h.length - h.length) (x_sl h - x_sl h))).room s m As.toArray meth c M d :=
    ⟨⟨B.exec, B.bytes, hml, B.returns, B.notSynchronized, (name_of_methodNamed B.named B.method).1, findClass_of_methodNamed B.named⟩, fun w hw => hts w (List.mem_cons_of_mem _ hw), hK, hO, Nat.le_refl _, Nat.le_refl _⟩
  rw [lg_entry_eq]
  have K := k.2 E p l e (headSpec (x_ws M) (x_rm d (h.length - h.length) (x_sl h - x_sl h))).room s m As.toArray below meth c s.heap [] _ h.length (x_sl h) (MQ below (x_Qc E (some (.int v)) h) As.toArray s (h.length - h.length) (x_sl h - x_sl h) (x_A E)) hC ⟨hsz, Nat.le_refl _, Nat.le_refl _, Nat.le_refl _, Nat.le_refl _⟩ ⟨hP, va_S.rf⟩ hlo ?_
  · rw [Nat.sub_self, Nat.sub_self] at K ⊢
    exact K
  · intro H' locs' LS' pc' hw hR
    have hq : ∀ (t : State), t.heap = H' → s.WarmedH t.vm → x_Qc E (some (.int v)) h As.toArray s (.returned ((some (.int v) : Option Value).map (x_V E))) t := fun t ht _ => ⟨⟨rfl, by rw [ht]; exact hw.1⟩, hw.2.F ht⟩
    have hlk := B.notSynchronized
    obtain ⟨hd, ty, h2, h3⟩ := hR
    exact W.zret B.exec B.bytes (B.returns.trans h2) h3 hq hw.2.2.2 hd hlk
theorem x_Lo3 (E : x_Env) (i n : Int32) (v : Value) (hv : v.category = 1) : x_Lo E 3 [.int i, .int n, .retAddr 0] ((lg_sl [.int i, .int n, v] ++ List.replicate (3 - (lg_sl [.int i, .int n, v]).length) Slot.unset).toArray) := by
  have hl : (lg_sl [Value.int i, Value.int n, v]).length ≤ 3 := by
    cases v <;> simp_all [lg_sl, Value.category]
  have q := lv_entry [Value.int i, Value.int n, v] (n := 3) hl
  refine ⟨rfl, q.1, q.2.1, fun j u hj hu => ?_⟩
  match j, hj with
  | 0, hj => cases hj; exact q.2.2 (0, .int i) (by simp [lv_args, Value.category])
  | 1, hj => cases hj; exact q.2.2 (1, .int n) (by simp [lv_args, Value.category])
  | 2, hj => cases hj; cases hu
set_option maxHeartbeats 1000000 in
theorem xr_check {i n : Int32} (hi : ¬ i < 0) (hn : i < n) : x_R sc (d + 1) mJ0_checkIndex_df160 0 [.int i, .int n] [] h none h := by
  refine xr_iload_n _ dJ0_checkIndex_df160_0 rfl ?_
  refine xr_iload_n _ dJ0_checkIndex_df160_1 rfl ?_
  refine ⟨⟨Nat.le_refl _, Nat.le_refl _⟩, ?_⟩
  intro E p l e R s m args below meth c H locs LS n0 z0 Q C hh w lo kk
  have key : ∀ v : Value, v.category = 1 → W p l e R s m args below meth c H locs (h.length - n0) (x_sl h - z0) Q (F0 m 5 LS [v, .int n, .int i]) := fun v hv => by
    refine x_size hh.1 hh.2.1 w fun hs => ?_
    have k3 : x_R sc d mJ3_checkIndex_8e157 0 [.int i, .int n, .retAddr 0] [] h (some (.int i)) h := by
      refine xr_iload_n _ dJ3_checkIndex_8e157_0 rfl ?_
      refine xr_if_lt 9 dJ3_checkIndex_8e157_1 (by decide) (fun q => absurd q hi) (fun _ => ?_)
      refine xr_iload_n _ dJ3_checkIndex_8e157_4 rfl ?_
      refine xr_iload_n _ dJ3_checkIndex_8e157_5 rfl ?_
      refine xr_icmp_lt 16 dJ3_checkIndex_8e157_6 (by decide) (fun _ => ?_) (fun q => absurd hn q)
      refine xr_iload_n _ dJ3_checkIndex_8e157_16 rfl ?_
      exact xr_iret .int dJ3_checkIndex_8e157_17 rfl rfl
    refine x_back (h1 := h) (r1 := some (.int i)) (rest := []) (a := [Value.int i, .int n, v].toArray) hh ⟨Nat.le_refl _, Nat.le_refl _⟩ w (va_runS (S := ⟨C.1.1, C.1.2.1, C.1.2.2.1, C.1.2.2.2.2.2.2, C.2.1⟩) (x_MA (As := [.int i, .int n, v]) E l (by decide) i (x_Lo3 E i n v hv) k3) ⟨x_callB C klJ0_1059.1, C.2.1 _ klJ0_1059.2⟩ (x_preA C w hs) rfl rfl lo.2.1 rfl (lv_room (by simp)) dJ0_checkIndex_df160_5 ⟨by omega, by omega⟩) (fun H1 locs1 hw => ?_)
    have k8 : x_R sc (d + 1) mJ0_checkIndex_df160 8 [.int i, .int n] [.int i] h none h := xr_pop dJ0_checkIndex_df160_8 rfl (xr_ret dJ0_checkIndex_df160_9 rfl)
    exact k8.2 E p l e R s m args below meth c H1 locs1 LS n0 z0 Q C hh hw lo kk
  rcases C.2.2.2.1.2.2.1 with hz | ⟨t, hz⟩
  · exact va_gets C.1.1 C.1.2.1 hz w.2 C.1.2.2.2.2.2.2 (C.2.1 _ (x_i3 34 (by decide +kernel) rfl)) (fun _ z => z) dJ0_checkIndex_df160_2 (key .null rfl)
  · exact va_gets C.1.1 C.1.2.1 hz w.2 C.1.2.2.2.2.2.2 (C.2.1 _ (x_i3 34 (by decide +kernel) rfl)) (fun _ z => z) dJ0_checkIndex_df160_2 (key (.ref t) rfl)
end XS
section XS2
variable {sc : Nat × (Nat → Int32)} {d : Nat} {M M' : x_Mt} {pc : Nat} {ls st : List Value} {μ : x_Me} {w : Int64} {P P1 : Option Value → x_Me → Int64 → Prop}
theorem xt_ldcT {idx : Nat} (i : Nat) (hd : decode M.2.1 pc = .ok (.ldc idx, 2)) (hi : i < 16) (hM : M.1.cls = RX6) (hx : (x_text.getD i ("", 0)).2 = idx)
    (K : x_T sc d M (pc + 2) ls (.ref (1000000 + i) :: st) μ w P) : x_T sc d M pc ls st μ w P := by
  obtain ⟨r, μ', w', hR, hP⟩ := K
  exact ⟨r, μ', w', xr_ldcT hd hi hM hx hR, hP⟩
theorem xt_getTv {idx i : Nat} (hd : decode M.2.1 pc = .ok (.getfield idx, 3)) (hi : i < 16) (hw : Cond.fieldLink M.1.cls idx "java/lang/String" "value" "[B" ∈ x_WS)
    (K : x_T sc d M (pc + 3) ls (.ref (1000100 + i) :: st) μ w P) : x_T sc d M pc ls (.ref (1000000 + i) :: st) μ w P := by
  obtain ⟨r, μ', w', hR, hP⟩ := K
  exact ⟨r, μ', w', xr_getTv hd hi hw hR, hP⟩
theorem xt_getTc {idx i : Nat} (hd : decode M.2.1 pc = .ok (.getfield idx, 3)) (hi : i < 16) (hw : Cond.fieldLink M.1.cls idx "java/lang/String" "coder" "B" ∈ x_WS)
    (K : x_T sc d M (pc + 3) ls (.int 0 :: st) μ w P) : x_T sc d M pc ls (.ref (1000000 + i) :: st) μ w P := by
  obtain ⟨r, μ', w', hR, hP⟩ := K
  exact ⟨r, μ', w', xr_getTc hd hi hw hR, hP⟩
theorem xt_getsC {idx : Nat} (hd : decode M.2.1 pc = .ok (.getstatic idx, 3)) (hw : Cond.fieldLink M.1.cls idx "java/lang/String" "COMPACT_STRINGS" "Z" ∈ x_WS)
    (K : x_T sc d M (pc + 3) ls (.int 1 :: st) μ w P) : x_T sc d M pc ls st μ w P := by
  obtain ⟨r, μ', w', hR, hP⟩ := K
  exact ⟨r, μ', w', xr_getsC hd hw hR, hP⟩
theorem xt_alenB {i : Nat} (hd : decode M.2.1 pc = .ok (.arraylength, 1)) (hi : i < 16)
    (K : x_T sc d M (pc + 1) ls (.int (Int32.ofNat (x_slen.getD i 0)) :: st) μ w P) : x_T sc d M pc ls (.ref (1000100 + i) :: st) μ w P := by
  obtain ⟨r, μ', w', hR, hP⟩ := K
  exact ⟨r, μ', w', xr_alenB hd hi hR, hP⟩
theorem xt_baldB {i : Nat} {j : Int32} (hd : decode M.2.1 pc = .ok (.baload, 1)) (hi : i < 16) (hj : vp_in j (x_slen.getD i 0))
    (K : x_T sc d M (pc + 1) ls (.int ((x_sbyt.getD i []).getD j.toNatClampNeg 0) :: st) μ w P) : x_T sc d M pc ls (.int j :: .ref (1000100 + i) :: st) μ w P := by
  obtain ⟨r, μ', w', hR, hP⟩ := K
  exact ⟨r, μ', w', xr_baldB hd hi hj hR, hP⟩
theorem xt_callT {idx n i : Nat} {as : List Value} (rest : List Value) (hd : decode M.2.1 pc = .ok (.invokevirtual idx, 3)) (hl : x_lkT M.1.cls idx M' n) (hi : i < 16) (hM : x_K sc d M' (.ref (1000000 + i) :: as) μ w P1) (hn : as.length = n) (hst : st = as.reverse ++ .ref (1000000 + i) :: rest) (hc : (rest.map fun v => v.category).sum ≤ 8)
    (k : ∀ r1 μ1 w1, P1 r1 μ1 w1 → x_T sc (d + 1) M (pc + 3) ls (r1.toList ++ rest) μ1 w1 P) : x_T sc (d + 1) M pc ls st μ w P := by
  obtain ⟨r1, μ1, w1, hM1, hP1⟩ := hM
  obtain ⟨r, μ', w', hR, hP⟩ := k r1 μ1 w1 hP1
  exact ⟨r, μ', w', xr_callT hd hl hi hn hst hc hM1 hR, hP⟩
theorem xt_cT {idx n i : Nat} {as : List Value} {r1 : Option Value} (rest : List Value) (hd : decode M.2.1 pc = .ok (.invokevirtual idx, 3)) (hl : x_lkT M.1.cls idx M' n) (hi : i < 16) (hM : x_K sc d M' (.ref (1000000 + i) :: as) μ w (x_p r1 μ w)) (hn : as.length = n) (hst : st = as.reverse ++ .ref (1000000 + i) :: rest) (hc : (rest.map fun v => v.category).sum ≤ 8)
    (k : x_T sc (d + 1) M (pc + 3) ls (r1.toList ++ rest) μ w P) : x_T sc (d + 1) M pc ls st μ w P :=
  xt_callT rest hd hl hi hM hn hst hc (fun r2 μ2 w2 q => by obtain ⟨rfl, rfl, rfl⟩ := q; exact k)
end XS2
theorem klX6_207 : x_lkT RX6 207 mJ0_length_8abf5 0 := ⟨⟨x_i3 10 (by decide +kernel) rfl, kiJ0, kcJ0_length_8abf5, ⟨by decide +kernel, by decide +kernel, by decide +kernel⟩, by decide⟩, x_i3 11 (by decide +kernel) rfl, x_i3 12 (by decide +kernel) rfl, rfl⟩
theorem klJ0_335 : x_lkT RJ0 335 mJ0_coder_7d493 0 := ⟨⟨x_i3 14 (by decide +kernel) rfl, kiJ0, kcJ0_coder_7d493, ⟨by decide +kernel, by decide +kernel, by decide +kernel⟩, by decide⟩, x_i3 15 (by decide +kernel) rfl, x_i3 16 (by decide +kernel) rfl, rfl⟩
theorem klX6_212 : x_lkT RX6 212 mJ0_charAt_5068e 1 := ⟨⟨x_i3 20 (by decide +kernel) rfl, kiJ0, kcJ0_charAt_5068e, ⟨by decide +kernel, by decide +kernel, by decide +kernel⟩, by decide⟩, x_i3 21 (by decide +kernel) rfl, x_i3 22 (by decide +kernel) rfl, rfl⟩
theorem klJ0_492 : x_lkT RJ0 492 mJ0_isLatin1_aae02 0 := ⟨⟨x_i3 24 (by decide +kernel) rfl, kiJ0, kcJ0_isLatin1_aae02, ⟨by decide +kernel, by decide +kernel, by decide +kernel⟩, by decide⟩, x_i3 25 (by decide +kernel) rfl, x_i3 26 (by decide +kernel) rfl, rfl⟩
theorem kfJ0_9 : Cond.fieldLink RJ0 9 "java/lang/String" "value" "[B" ∈ x_WS := x_i9 85 (by decide +kernel) rfl
theorem kfJ0_15 : Cond.fieldLink RJ0 15 "java/lang/String" "coder" "B" ∈ x_WS := x_i9 86 (by decide +kernel) rfl
theorem kfJ0_38 : Cond.fieldLink RJ0 38 "java/lang/String" "COMPACT_STRINGS" "Z" ∈ x_WS := x_i3 18 (by decide +kernel) rfl
/-- the names of the lines -/
def s_nl (i : Nat) : Nat := x_slen.getD i 0
def s_nm (i j : Nat) : Nat := ([[115, 116, 97, 110, 100], [103, 111, 101, 114], [115, 108, 97, 110, 116], [109, 105, 110, 100, 115], [119, 114, 111, 110, 103], [99, 111, 110, 102, 101, 115, 115], [116, 111, 119, 110], [116, 117, 110, 101], [102, 105, 116], [97, 115, 107], [119, 97, 108, 107], [109, 101, 110, 100], [100, 111], [108, 105, 101, 115], [115, 116, 111, 112, 112, 101, 100], [112, 108, 97, 121, 101, 100]].getD i []).getD j 0
theorem s_nl_sh : ∀ i, i < 16 → Int32.ofNat (x_slen.getD i 0) >>> ((0 : Int32) &&& 31) = nI (s_nl i) := by decide +kernel
theorem s_nl_7 : ∀ i, i < 16 → s_nl i ≤ 7 ∧ 2 ≤ s_nl i := by decide
theorem s_nm_ch : ∀ i, i < 16 → ∀ j, j < 7 → j < s_nl i → (((x_sbyt.getD i []).getD j 0 &&& 255).toUInt32 % 65536).toInt32 = nI (s_nm i j) := by decide +kernel
theorem s_nm_rg : ∀ i, i < 16 → ∀ j, j < 7 → j < s_nl i → 97 ≤ s_nm i j ∧ s_nm i j ≤ 122 := by decide +kernel
theorem s_nm_na : ∀ i, i < 16 → ∀ j, j < 7 → j < s_nl i → narrow .char (.int (nI (s_nm i j))) = .int (nI (s_nm i j)) := by decide +kernel
section XS3
variable (sc : Nat × (Nat → Int32)) (d : Nat) (μ : x_Me) (w : Int64)
theorem tJ_coder {i : Nat} (hi : i < 16) : x_K sc d mJ0_coder_7d493 [.ref (1000000 + i)] μ w (x_p (some (.int 0)) μ w) := by
  refine x_K.of (by decide) (Nat.le_of_ble_eq_true rfl) ?_
  show x_T sc d mJ0_coder_7d493 0 [.ref (1000000 + i)] [] μ w _
  refine xt_getsC dJ0_coder_7d493_0 kfJ0_38 ?_
  refine xt_if_eq 13 dJ0_coder_7d493_3 (by decide) (fun q => absurd q (by decide)) (fun _ => ?_)
  refine xt_aload_n _ dJ0_coder_7d493_6 rfl ?_
  refine xt_getTc dJ0_coder_7d493_7 hi kfJ0_15 ?_
  refine xt_goto 14 dJ0_coder_7d493_10 (by decide) ?_
  exact xt_iret .byte dJ0_coder_7d493_14 rfl (by rfl) ⟨rfl, rfl, rfl⟩
theorem tJ_isLatin1 {i : Nat} (hi : i < 16) : x_K sc d mJ0_isLatin1_aae02 [.ref (1000000 + i)] μ w (x_p (some (.int 1)) μ w) := by
  refine x_K.of (by decide) (Nat.le_of_ble_eq_true rfl) ?_
  show x_T sc d mJ0_isLatin1_aae02 0 [.ref (1000000 + i)] [] μ w _
  refine xt_getsC dJ0_isLatin1_aae02_0 kfJ0_38 ?_
  refine xt_if_eq 17 dJ0_isLatin1_aae02_3 (by decide) (fun q => absurd q (by decide)) (fun _ => ?_)
  refine xt_aload_n _ dJ0_isLatin1_aae02_6 rfl ?_
  refine xt_getTc dJ0_isLatin1_aae02_7 hi kfJ0_15 ?_
  refine xt_if_ne 17 dJ0_isLatin1_aae02_10 (by decide) (fun q => absurd rfl q) (fun _ => ?_)
  refine xt_iconst (1) dJ0_isLatin1_aae02_13 (by decide) ?_
  refine xt_goto 18 dJ0_isLatin1_aae02_14 (by decide) ?_
  exact xt_iret .boolean dJ0_isLatin1_aae02_18 rfl (by rfl) ⟨rfl, rfl, rfl⟩
theorem tJ_length {i : Nat} (hi : i < 16) : x_K sc (d + 1) mJ0_length_8abf5 [.ref (1000000 + i)] μ w (x_p (some (.int (nI (s_nl i)))) μ w) := by
  refine x_K.of (by decide) (Nat.le_of_ble_eq_true rfl) ?_
  show x_T sc (d + 1) mJ0_length_8abf5 0 [.ref (1000000 + i)] [] μ w _
  refine xt_aload_n _ dJ0_length_8abf5_0 rfl ?_
  refine xt_getTv dJ0_length_8abf5_1 hi kfJ0_9 ?_
  refine xt_alenB dJ0_length_8abf5_4 hi ?_
  refine xt_aload_n _ dJ0_length_8abf5_5 rfl ?_
  refine xt_cT _ dJ0_length_8abf5_6 klJ0_335 hi (tJ_coder sc d μ w hi) rfl rfl (Nat.le_of_ble_eq_true rfl) ?_
  refine xt_ishr dJ0_length_8abf5_9 ?_
  exact xt_iret .int dJ0_length_8abf5_10 rfl (by rfl) ⟨by rw [s_nl_sh i hi], rfl, rfl⟩
theorem tJ_check {i n : Int32} (hi : ¬ i < 0) (hn : i < n) : x_K sc (d + 1) mJ0_checkIndex_df160 [.int i, .int n] μ w (x_p none μ w) :=
  ⟨none, μ, w, x_M.of (by decide) (Nat.le_of_ble_eq_true rfl) (xr_check hi hn), rfl, rfl, rfl⟩
theorem tJ_charAt1 {i j : Nat} (hi : i < 16) (hj : j < s_nl i) : x_K sc (d + 2) mJ1_charAt_3b067 [.ref (1000100 + i), .int (nI j)] μ w (x_p (some (.int (nI (s_nm i j)))) μ w) := by
  have h7 := s_nl_7 i hi
  refine x_K.of (by decide) (Nat.le_of_ble_eq_true rfl) ?_
  show x_T sc (d + 2) mJ1_charAt_3b067 0 [.ref (1000100 + i), .int (nI j)] [] μ w _
  refine xt_iload_n _ dJ1_charAt_3b067_0 rfl ?_
  refine xt_aload_n _ dJ1_charAt_3b067_1 rfl ?_
  refine xt_alenB dJ1_charAt_3b067_2 hi ?_
  have hck : x_K sc (d + 1) mJ0_checkIndex_df160 [.int (nI j), .int (Int32.ofNat (x_slen.getD i 0))] μ w (x_p none μ w) := tJ_check sc d μ w (nI_pos (by omega)) (nI_lt (show j < x_slen.getD i 0 from hj) (by show s_nl i < 2 ^ 31; omega))
  refine xt_cS0 [] dJ1_charAt_3b067_3 klJ1_9 hck rfl rfl (Nat.le_of_ble_eq_true rfl) ?_
  refine xt_aload_n _ dJ1_charAt_3b067_6 rfl ?_
  refine xt_iload_n _ dJ1_charAt_3b067_7 rfl ?_
  refine xt_baldB dJ1_charAt_3b067_8 hi (vp_in_nI hj (by show s_nl i < 2 ^ 31; omega)) ?_
  refine xt_sipush (255) dJ1_charAt_3b067_9 (by decide) ?_
  refine xt_iand dJ1_charAt_3b067_12 ?_
  refine xt_i2c dJ1_charAt_3b067_13 ?_
  rw [nI_clamp (by omega), s_nm_ch i hi j (by omega) hj]
  exact xt_iret .char dJ1_charAt_3b067_14 rfl (s_nm_na i hi j (by omega) hj) ⟨rfl, rfl, rfl⟩
theorem tJ_charAt {i j : Nat} (hi : i < 16) (hj : j < s_nl i) : x_K sc (d + 3) mJ0_charAt_5068e [.ref (1000000 + i), .int (nI j)] μ w (x_p (some (.int (nI (s_nm i j)))) μ w) := by
  have h7 := s_nl_7 i hi
  refine x_K.of (by decide) (Nat.le_of_ble_eq_true rfl) ?_
  show x_T sc (d + 3) mJ0_charAt_5068e 0 [.ref (1000000 + i), .int (nI j)] [] μ w _
  refine xt_aload_n _ dJ0_charAt_5068e_0 rfl ?_
  refine xt_cT _ dJ0_charAt_5068e_1 klJ0_492 hi (tJ_isLatin1 sc _ μ w hi) rfl rfl (Nat.le_of_ble_eq_true rfl) ?_
  refine xt_if_eq 16 dJ0_charAt_5068e_4 (by decide) (fun q => absurd q (by decide)) (fun _ => ?_)
  refine xt_aload_n _ dJ0_charAt_5068e_7 rfl ?_
  refine xt_getTv dJ0_charAt_5068e_8 hi kfJ0_9 ?_
  refine xt_iload_n _ dJ0_charAt_5068e_11 rfl ?_
  refine xt_cS _ dJ0_charAt_5068e_12 klJ0_495 (tJ_charAt1 sc d μ w hi hj) rfl rfl (Nat.le_of_ble_eq_true rfl) ?_
  exact xt_iret .char dJ0_charAt_5068e_15 rfl (s_nm_na i hi j (by omega) hj) ⟨rfl, rfl, rfl⟩
end XS3
