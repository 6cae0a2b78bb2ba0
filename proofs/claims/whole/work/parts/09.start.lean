def R_law : String := "UprightFairLaw"
def lw_P (b : Addr) (xs : List Int32) (args : Array Value) (s : State) : Prop := args = #[.ref b] ∧ s.IntsAt b xs ∧ xs.length ≤ 3072 ∧ (Jvm.Cond.and given_1 narrow_1).before args s = true
def lw_Q (_ : Array Value) (s : State) (o : Outcome) (t : State) : Prop := o = .returned (some (.int 1)) ∧ Framed s o t [] 600000 7302250
def lw_Z (below : List Frame) (a : Array Value) (s : State) : State → Prop := fun t => ∃ o, t.status = .running ∧ Ended t below o ∧ lw_Q a s o t
/-- the law's own end, with 1 on the stack, nothing written that was there before, its room as the claim has it -/
theorem lw_ret {p : Program} {l : Launch} {e : Env} {s : State} {m : MethodId} {below : List Frame} {meth : Method} {c : Code} {b : Nat} (hx : p.tables.exec = Jvm.exec) (hb : c.code = code) (hr : meth.sig.returnType = ret) (hlocks : meth.locks = false) {pc : Nat} {H : Heap} {ls : Array Slot} (hdg : decode code pc = .ok (.ireturn, 1)) : W p l e room_1 s m #[Value.ref b] below meth c H [] 600000 7302250 (lw_Z below #[Value.ref b] s) (F0 m pc ls [.int 1]) := by
  intro T hT X
  obtain ⟨fs, hret, hrun, hended, hW, hframe⟩ := X.leave (v := some (.int 1)) (hlocks := hlocks) (fun h => by rw [hr] at h; cases h)
  have hmeth' : T.vm.method? m = some meth := X.method'
  refine ⟨T.setFrames fs, ?_, .returned (some (.int 1)), hrun, hended, rfl, ⟨_, rfl⟩, hW, hframe⟩
  jvm_step X.here [X.here.top, hx, hb, hdg, hmeth', hr, ret, narrow_b1]
  (try refine ⟨rfl, ?_⟩); (try refine ⟨rfl, ?_⟩)
  first | (intro acts; rw [hret _ acts rfl rfl rfl]) | rw [hret _ _ rfl rfl rfl]
  exact Steps.refl _
/-- what holds at the law's entry: the machine, the code, the tables' words (any of lw_tbl by 'hts w (by decide +kernel)'), the script of L ints xs at the cell b, what the Statement gives of the start (any of its parts by flat_of_before) -/
def lw_At (p : Program) (s : State) (m : MethodId) (meth : Method) (c : Code) (b L : Nat) (xs : Nat → Int32) : Prop :=
  p.tables.exec = Jvm.exec ∧ c.code = code ∧ meth.sig.returnType = ret ∧ c.maxLocals = 4 ∧ s.vm.findClass R_law = some m.cls ∧ (∀ w ∈ lw_tbl, w.before #[Value.ref b] s = true) ∧ va_X b L xs s s.heap ∧ b < s.heap.size ∧ (meth.locks = false ∧ meth.name = "law") ∧ (Jvm.Cond.and given_1 narrow_1).before #[Value.ref b] s = true
/-- what the Statement gives of the start, in a row -/
def x_flat : List Cond := flatC (Jvm.Cond.and given_1 narrow_1)
def x_tm (i : Nat) : Term := .string RX6 (x_text.getD i ("", 0)).2
theorem x_f_ex : ∀ i, i < 16 → x_flat[([226, 235, 244, 255, 267, 280, 296, 310, 325, 340, 356, 374, 393, 411, 432, 457] : List Nat).getD i 0]? = some (.exactly (x_tm i) "java/lang/String") := by decide +kernel
theorem x_f_co : ∀ i, i < 16 → x_flat[([227, 236, 245, 256, 268, 281, 297, 311, 326, 341, 357, 375, 394, 412, 433, 458] : List Nat).getD i 0]? = some (.eq (.field (x_tm i) "java/lang/String" "coder" "B") (.int 0)) := by decide +kernel
theorem x_f_ar : ∀ i, i < 16 → x_flat[([228, 237, 246, 257, 269, 282, 298, 312, 327, 342, 358, 376, 395, 413, 434, 459] : List Nat).getD i 0]? = some (.arrayOf (.field (x_tm i) "java/lang/String" "value" "[B") .byte) := by decide +kernel
theorem x_f_le : ∀ i, i < 16 → x_flat[([229, 238, 247, 258, 270, 283, 299, 313, 328, 343, 359, 377, 396, 414, 435, 460] : List Nat).getD i 0]? = some (.eq (.length (.field (x_tm i) "java/lang/String" "value" "[B")) (.int (Int32.ofNat (x_slen.getD i 0)))) := by decide +kernel
theorem x_f_el : ∀ i, i < 16 → ∀ j, j < x_slen.getD i 0 → x_flat[([230, 239, 248, 259, 271, 284, 300, 314, 329, 344, 360, 378, 397, 415, 436, 461] : List Nat).getD i 0 + j]? = some (.eq (.elem (.field (x_tm i) "java/lang/String" "value" "[B") (.int (Int32.ofNat j))) (.int ((x_sbyt.getD i []).getD j 0))) := by decide +kernel
theorem x_f_ne : ∀ i, i < 16 → ∀ j, j < 16 → i < j → x_flat[(([[0, 243, 253, 264, 276, 291, 304, 318, 332, 347, 364, 382, 399, 419, 443, 467], [0, 0, 254, 265, 277, 292, 305, 319, 333, 348, 365, 383, 400, 420, 444, 468], [0, 0, 0, 266, 278, 293, 306, 320, 334, 349, 366, 384, 401, 421, 445, 469], [0, 0, 0, 0, 279, 294, 307, 321, 335, 350, 367, 385, 402, 422, 446, 470], [0, 0, 0, 0, 0, 295, 308, 322, 336, 351, 368, 386, 403, 423, 447, 471], [0, 0, 0, 0, 0, 0, 309, 323, 337, 352, 369, 387, 404, 424, 448, 472], [0, 0, 0, 0, 0, 0, 0, 324, 338, 353, 370, 388, 405, 425, 449, 473], [0, 0, 0, 0, 0, 0, 0, 0, 339, 354, 371, 389, 406, 426, 450, 474], [0, 0, 0, 0, 0, 0, 0, 0, 0, 355, 372, 390, 407, 427, 451, 475], [0, 0, 0, 0, 0, 0, 0, 0, 0, 0, 373, 391, 408, 428, 452, 476], [0, 0, 0, 0, 0, 0, 0, 0, 0, 0, 0, 392, 409, 429, 453, 477], [0, 0, 0, 0, 0, 0, 0, 0, 0, 0, 0, 0, 410, 430, 454, 478], [0, 0, 0, 0, 0, 0, 0, 0, 0, 0, 0, 0, 0, 431, 455, 479], [0, 0, 0, 0, 0, 0, 0, 0, 0, 0, 0, 0, 0, 0, 456, 480], [0, 0, 0, 0, 0, 0, 0, 0, 0, 0, 0, 0, 0, 0, 0, 481], [0, 0, 0, 0, 0, 0, 0, 0, 0, 0, 0, 0, 0, 0, 0, 0]] : List (List Nat)).getD i []).getD j 0]? = some (.not (.eq (x_tm i) (x_tm j))) := by decide +kernel
theorem x_f_FIRST_a : x_flat[5]? = some (.arrayOf (.static RX6 "FIRST" "[I") .int) ∧ x_flat[6]? = some (.eq (.length (.static RX6 "FIRST" "[I")) (.int (Int32.ofNat 4))) := by decide +kernel
theorem x_f_FIRST_e : ∀ j, j < 4 → x_flat[7 + j]? = some (.eq (.elem (.static RX6 "FIRST" "[I") (.int (Int32.ofNat j))) (.int ((x_stat.getD 0 ("", "", 0, [])).2.2.2.getD j 0))) := by decide +kernel
theorem x_f_GIVEN_a : x_flat[17]? = some (.arrayOf (.static RX6 "GIVEN" "[I") .int) ∧ x_flat[18]? = some (.eq (.length (.static RX6 "GIVEN" "[I")) (.int (Int32.ofNat 16))) := by decide +kernel
theorem x_f_GIVEN_e : ∀ j, j < 16 → x_flat[19 + j]? = some (.eq (.elem (.static RX6 "GIVEN" "[I") (.int (Int32.ofNat j))) (.int ((x_stat.getD 1 ("", "", 0, [])).2.2.2.getD j 0))) := by decide +kernel
theorem x_f_LOWEST_a : x_flat[36]? = some (.arrayOf (.static RX6 "LOWEST" "[I") .int) ∧ x_flat[37]? = some (.eq (.length (.static RX6 "LOWEST" "[I")) (.int (Int32.ofNat 64))) := by decide +kernel
theorem x_f_LOWEST_e : ∀ j, j < 64 → x_flat[38 + j]? = some (.eq (.elem (.static RX6 "LOWEST" "[I") (.int (Int32.ofNat j))) (.int ((x_stat.getD 2 ("", "", 0, [])).2.2.2.getD j 0))) := by decide +kernel
theorem x_f_GREATEST_a : x_flat[103]? = some (.arrayOf (.static RX6 "GREATEST" "[I") .int) ∧ x_flat[104]? = some (.eq (.length (.static RX6 "GREATEST" "[I")) (.int (Int32.ofNat 64))) := by decide +kernel
theorem x_f_GREATEST_e : ∀ j, j < 64 → x_flat[105 + j]? = some (.eq (.elem (.static RX6 "GREATEST" "[I") (.int (Int32.ofNat j))) (.int ((x_stat.getD 3 ("", "", 0, [])).2.2.2.getD j 0))) := by decide +kernel
theorem x_f_BY_LOT_a : x_flat[170]? = some (.arrayOf (.static RX7 "BY_LOT" "[I") .int) ∧ x_flat[171]? = some (.eq (.length (.static RX7 "BY_LOT" "[I")) (.int (Int32.ofNat 10))) := by decide +kernel
theorem x_f_BY_LOT_e : ∀ j, j < 10 → x_flat[172 + j]? = some (.eq (.elem (.static RX7 "BY_LOT" "[I") (.int (Int32.ofNat j))) (.int ((x_stat.getD 4 ("", "", 0, [])).2.2.2.getD j 0))) := by decide +kernel
theorem x_f_cs : x_flat[11]? = some (.eq (.static "java/lang/String" "COMPACT_STRINGS" "Z") (.int 1)) := by decide +kernel
theorem x_f_sf : x_flat[12]? = some (.isRef (.static "jdk/internal/util/Preconditions" "SIOOBE_FORMATTER" "Ljava/util/function/BiFunction;")) := by decide +kernel
theorem x_t_FIRST : Cond.laysStatic RX6 "FIRST" "[I" ∈ lw_tbl := List.mem_of_getElem? (i := 600) (by decide +kernel)
theorem x_t_GIVEN : Cond.laysStatic RX6 "GIVEN" "[I" ∈ lw_tbl := List.mem_of_getElem? (i := 686) (by decide +kernel)
theorem x_t_LOWEST : Cond.laysStatic RX6 "LOWEST" "[I" ∈ lw_tbl := List.mem_of_getElem? (i := 688) (by decide +kernel)
theorem x_t_GREATEST : Cond.laysStatic RX6 "GREATEST" "[I" ∈ lw_tbl := List.mem_of_getElem? (i := 690) (by decide +kernel)
theorem x_t_BY_LOT : Cond.laysStatic RX7 "BY_LOT" "[I" ∈ lw_tbl := List.mem_of_getElem? (i := 1138) (by decide +kernel)
theorem x_t_R6 : Cond.initialized RX6 ∈ lw_tbl := List.mem_of_getElem? (i := 141) (by decide +kernel)
theorem x_t_R7 : Cond.initialized RX7 ∈ lw_tbl := List.mem_of_getElem? (i := 142) (by decide +kernel)
theorem x_t_cs : Cond.laysStatic "java/lang/String" "COMPACT_STRINGS" "Z" ∈ lw_tbl := List.mem_of_getElem? (i := 634) (by decide +kernel)
theorem x_t_si : Cond.initialized "java/lang/String" ∈ lw_tbl := List.mem_of_getElem? (i := 150) (by decide +kernel)
theorem x_t_sf : Cond.laysStatic "jdk/internal/util/Preconditions" "SIOOBE_FORMATTER" "Ljava/util/function/BiFunction;" ∈ lw_tbl := List.mem_of_getElem? (i := 650) (by decide +kernel)
theorem x_t_pi : Cond.initialized "jdk/internal/util/Preconditions" ∈ lw_tbl := List.mem_of_getElem? (i := 152) (by decide +kernel)
theorem x_t_sr : ∀ i, i < 16 → lw_tbl[([605, 606, 607, 608, 609, 610, 611, 612, 613, 614, 615, 616, 617, 618, 619, 620] : List Nat).getD i 0]? = some (.stringRef RX6 (x_text.getD i ("", 0)).2 (x_text.getD i ("", 0)).1) := by decide +kernel
theorem x_t_ne : ∀ i, i < 12 → lw_tbl[([317, 375, 429, 462, 488, 322, 324, 326, 380, 179, 247, 261] : List Nat).getD i 0]? = (x_nest[i]?).map (fun q => Cond.methodLinkNest q.1 q.2.1 q.2.2 RX11) := by decide +kernel
theorem x_t_ao_RX2 : Cond.arrayOver (.object RX2) ∈ lw_tbl := List.mem_of_getElem? (i := 173) (by decide +kernel)
theorem x_t_ao_RX1 : Cond.arrayOver (.object RX1) ∈ lw_tbl := List.mem_of_getElem? (i := 175) (by decide +kernel)
theorem x_t_ao_RX4 : Cond.arrayOver (.object RX4) ∈ lw_tbl := List.mem_of_getElem? (i := 177) (by decide +kernel)
theorem x_t_ao_RX9 : Cond.arrayOver (.object RX9) ∈ lw_tbl := List.mem_of_getElem? (i := 314) (by decide +kernel)
theorem x_t_ac_int : Cond.arrayClass .int ∈ lw_tbl := List.mem_of_getElem? (i := 245) (by decide +kernel)
theorem x_t_ac_byte : Cond.arrayClass .byte ∈ lw_tbl := List.mem_of_getElem? (i := 244) (by decide +kernel)
theorem x_t_ac_boolean : Cond.arrayClass .boolean ∈ lw_tbl := List.mem_of_getElem? (i := 372) (by decide +kernel)
theorem x_t_in : ∀ i, i < 11 → lw_tbl[([487, 246, 178, 461, 260, 316, 374, 167, 428, 159, 1390] : List Nat).getD i 0]? = (vwCl[i]?).map (fun q => Cond.instantiable q.1 q.2.2) := by decide +kernel
theorem x_arrP {s : State} {args : Array Value} {ty : FieldType} (hty : ∀ n, ty ≠ .object n) (h : (Cond.arrayClass ty).before args s = true) : ∃ c : ClassId, ArrOfT s c ty ∧ va_RA s c ty := by
  obtain ⟨c, kA, comp, h1, h2, h3⟩ := Cond.arrayClass_spec h
  refine ⟨c, fun n z => ⟨fun k h => (by cases h), kA, h2, comp, h3⟩, ?_⟩
  cases ty <;> first | exact h1 | exact absurd rfl (hty _)
theorem x_arrQ {s : State} {C : String} (h : va_AO C s) : ∃ c : ClassId, ArrOfT s c (.object C) ∧ va_RA s c (.object C) := by
  obtain ⟨comp, c, k, h1, h2, h3, h4, h5⟩ := Cond.arrayOver_spec h
  exact ⟨c, fun n z => ⟨fun k h => (by cases h), k, h3, comp, h4⟩, k, comp, h3, h4, h1, h5⟩
def x_o (b : Nat) (adK adV tS : Nat → Nat) (k : Nat) : Nat := if k < 1000100 then adK (k - 1000000) else if k < 1000200 then adV (k - 1000100) else if k < 1000300 then tS (k - 1000200) else b
theorem x_o_K {b : Nat} {adK adV tS : Nat → Nat} {i : Nat} (hi : i < 16) : x_o b adK adV tS (1000000 + i) = adK i := by
  unfold x_o; rw [if_pos (by omega), Nat.add_sub_cancel_left]
theorem x_o_V {b : Nat} {adK adV tS : Nat → Nat} {i : Nat} (hi : i < 16) : x_o b adK adV tS (1000100 + i) = adV i := by
  unfold x_o; rw [if_neg (by omega), if_pos (by omega), Nat.add_sub_cancel_left]
/-- the law's method -/
abbrev mL_law : x_Mt := (yL_law, cL_law, 4, some .boolean)
set_option maxHeartbeats 2000000 in
/-- THE START: the machine at the law's entry is the abstract machine without cells -/
theorem x_start {p : Program} {e : Env} {s : State} {m : MethodId} {below : List Frame} {meth : Method} {c : Code} (l : Launch) {b L : Nat} {xs : Nat → Int32} (hL31 : L < 2 ^ 31) (C0 : lw_At p s m meth c b L xs) {h' : x_H}
    (hx : x_R (L, xs) 30 mL_law 0 [.ref 1000300, .retAddr 0, .retAddr 0, .retAddr 0] [] [] (some (.int 1)) h') (hc : h'.length ≤ 600000) (hz : x_sl h' ≤ 7302250) :
    W p l e room_1 s m #[Value.ref b] below meth c s.heap [] 0 0 (lw_Z below #[Value.ref b] s) (entryFrame m ([Value.ref b] : List Value).toArray 4) := by
  obtain ⟨hx1, hb, hr, hml, hown, hts, hX, hbl, ⟨hlocks, hname⟩, hgv⟩ := id C0
  have hfl : ∀ w ∈ x_flat, w.before #[Value.ref b] s = true := flat_of_before _ hgv
  have hg : ∀ {w : Cond} {i : Nat}, x_flat[i]? = some w → w.before #[Value.ref b] s = true := fun hi => hfl _ (List.mem_of_getElem? hi)
  have hws : ∀ w ∈ x_WS, w.before #[Value.ref b] s = true := fun w hw => hts w (List.mem_filter.mp hw).1
  have hA : ∀ a : Nat, a < s.heap.size → ¬ (fun q : Nat => s.heap.size ≤ q) a := fun a ha => Nat.not_le.mpr ha
  -- classes
  have hcl : ∀ ci : Nat, ∃ D : ClassId × (Nat → Nat), ∀ q : vw_C, vwCl[ci]? = some q → u_Kn s q.1 q.2.1 q.2.2 D.1 D.2 := by
    intro ci
    cases hq : vwCl[ci]? with
    | none => exact ⟨(0, fun _ => 0), fun q h => by cases h⟩
    | some q =>
      have hi : ci < 11 := (List.getElem?_eq_some_iff.mp hq).1
      have hw := x_t_in ci hi
      rw [hq] at hw
      obtain ⟨cC, iS, hK⟩ := u_known (C := q.1) (T := q.2.1) (N := q.2.2) hws (x_cf ci q hq).1 (hts _ (List.mem_of_getElem? hw))
      exact ⟨(cC, iS), fun q' h => by cases h; exact hK⟩
  obtain ⟨fD, hfD⟩ := Classical.axiomOfChoice hcl
  -- array classes
  have hao2 : va_AO RX2 s := va_AO.of (hts _ x_t_ao_RX2)
  have hao1 : va_AO RX1 s := va_AO.of (hts _ x_t_ao_RX1)
  have hao4 : va_AO RX4 s := va_AO.of (hts _ x_t_ao_RX4)
  have hao9 : va_AO RX9 s := va_AO.of (hts _ x_t_ao_RX9)
  obtain ⟨a0, q0⟩ := x_arrP (fun _ h => by cases h) (hts _ x_t_ac_int)
  obtain ⟨a1, q1⟩ := x_arrP (fun _ h => by cases h) (hts _ x_t_ac_byte)
  obtain ⟨a2, q2⟩ := x_arrP (fun _ h => by cases h) (hts _ x_t_ac_boolean)
  obtain ⟨a3, q3⟩ := x_arrQ hao2
  obtain ⟨a4, q4⟩ := x_arrQ hao1
  obtain ⟨a5, q5⟩ := x_arrQ hao4
  obtain ⟨a6, q6⟩ := x_arrQ hao9
  -- static rows
  obtain ⟨t0, u0, v0⟩ := va_Tof (N := 4) (f := fun j => .int ((x_stat.getD 0 ("", "", 0, [])).2.2.2.getD j 0)) (A := fun q : Nat => s.heap.size ≤ q) (by decide) (hg x_f_FIRST_a.1) (va_eqt (hg x_f_FIRST_a.2)) (fun j hj => va_eqt (hg (x_f_FIRST_e j hj))) hA
  obtain ⟨t1, u1, v1⟩ := va_Tof (N := 16) (f := fun j => .int ((x_stat.getD 1 ("", "", 0, [])).2.2.2.getD j 0)) (A := fun q : Nat => s.heap.size ≤ q) (by decide) (hg x_f_GIVEN_a.1) (va_eqt (hg x_f_GIVEN_a.2)) (fun j hj => va_eqt (hg (x_f_GIVEN_e j hj))) hA
  obtain ⟨t2, u2, v2⟩ := va_Tof (N := 64) (f := fun j => .int ((x_stat.getD 2 ("", "", 0, [])).2.2.2.getD j 0)) (A := fun q : Nat => s.heap.size ≤ q) (by decide) (hg x_f_LOWEST_a.1) (va_eqt (hg x_f_LOWEST_a.2)) (fun j hj => va_eqt (hg (x_f_LOWEST_e j hj))) hA
  obtain ⟨t3, u3, v3⟩ := va_Tof (N := 64) (f := fun j => .int ((x_stat.getD 3 ("", "", 0, [])).2.2.2.getD j 0)) (A := fun q : Nat => s.heap.size ≤ q) (by decide) (hg x_f_GREATEST_a.1) (va_eqt (hg x_f_GREATEST_a.2)) (fun j hj => va_eqt (hg (x_f_GREATEST_e j hj))) hA
  obtain ⟨t4, u4, v4⟩ := va_Tof (N := 10) (f := fun j => .int ((x_stat.getD 4 ("", "", 0, [])).2.2.2.getD j 0)) (A := fun q : Nat => s.heap.size ≤ q) (by decide) (hg x_f_BY_LOT_a.1) (va_eqt (hg x_f_BY_LOT_a.2)) (fun j hj => va_eqt (hg (x_f_BY_LOT_e j hj))) hA
  -- texts
  obtain ⟨adK, adV, hS, hSe⟩ := vk_Sof (N := 16) (tm := x_tm) (len := x_slen) (byt := x_sbyt) (A := fun q : Nat => s.heap.size ≤ q) (by decide) (fun i hi => hg (x_f_ex i hi)) (fun i hi => hg (x_f_co i hi)) (fun i hi => hg (x_f_ar i hi)) (fun i hi => hg (x_f_le i hi)) (fun i hi j hj => hg (x_f_el i hi j hj)) (fun i j hi hj hne => by
    rcases Nat.lt_or_gt_of_ne hne with h | h
    · exact Or.inl (hg (x_f_ne i hi j hj h))
    · exact Or.inr (hg (x_f_ne j hj i hi h))) hA
  obtain ⟨tS, htS⟩ : ∃ f : Nat → Nat, f 0 = t0 ∧ f 1 = t1 ∧ f 2 = t2 ∧ f 3 = t3 ∧ f 4 = t4 := ⟨fun i => [t0, t1, t2, t3, t4].getD i 0, rfl, rfl, rfl, rfl, rfl⟩
  obtain ⟨z0, z1, z2, z3, z4⟩ := htS
  subst z0; subst z1; subst z2; subst z3; subst z4
  obtain ⟨E, hE⟩ : ∃ E : x_Env, E = ((fun k => (fD k).1, fun k => (fD k).2), fun k => [a0, a1, a2, a3, a4, a5, a6].getD k 0, s.heap.size, x_o b adK adV tS) := ⟨_, rfl⟩
  have hO : x_Old (L, xs) E s s.heap := by
    subst hE
    refine ⟨?_, va_Zof (hts _ x_t_cs) (hts _ x_t_si) (va_eqt (hg x_f_cs)) hA, va_Zqof (hts _ x_t_sf) (hts _ x_t_pi) (hg x_f_sf) hA, ?_, ?_, ?_, ⟨hao2, hao1, hao4, hao9⟩, ?_⟩
    · intro q hq
      have hcase : q = x_stat.getD 0 ("", "", 0, []) ∨ q = x_stat.getD 1 ("", "", 0, []) ∨ q = x_stat.getD 2 ("", "", 0, []) ∨ q = x_stat.getD 3 ("", "", 0, []) ∨ q = x_stat.getD 4 ("", "", 0, []) := by
        simp only [x_stat, List.mem_cons, List.mem_nil_iff, or_false] at hq
        exact hq
      rcases hcase with rfl | rfl | rfl | rfl | rfl
      · exact ⟨va_Zref (hts _ x_t_FIRST) (hts _ x_t_R6) u0 hA, v0⟩
      · exact ⟨va_Zref (hts _ x_t_GIVEN) (hts _ x_t_R6) u1 hA, v1⟩
      · exact ⟨va_Zref (hts _ x_t_LOWEST) (hts _ x_t_R6) u2 hA, v2⟩
      · exact ⟨va_Zref (hts _ x_t_GREATEST) (hts _ x_t_R6) u3 hA, v3⟩
      · exact ⟨va_Zref (hts _ x_t_BY_LOT) (hts _ x_t_R7) u4 hA, v4⟩
    · refine ⟨fun i hi => ?_, fun i j hi hj he => hS.2 i j hi hj ?_⟩
      · have := hS.1 i hi
        show va_O _ (x_o b adK adV tS (1000000 + i)) _ _ _ ∧ va_OF _ _ _ _ (x_o b adK adV tS (1000000 + i)) _ _ _ ∧ va_OF _ _ _ (.ref (x_o b adK adV tS (1000100 + i))) (x_o b adK adV tS (1000000 + i)) _ _ _ ∧ va_T _ (x_o b adK adV tS (1000100 + i)) _ _ _ _ _
        rw [x_o_K hi, x_o_V hi]
        exact this
      · have he : x_o b adK adV tS (1000000 + i) = x_o b adK adV tS (1000000 + j) := he
        rw [x_o_K hi, x_o_K hj] at he
        exact he
    · intro i hi
      show vk_R _ _ _ (x_o b adK adV tS (1000000 + i)) _
      rw [x_o_K hi]
      exact vk_R.of (hts _ (List.mem_of_getElem? (x_t_sr i hi))) (hSe i hi)
    · intro q hq
      obtain ⟨i, hi⟩ := List.getElem?_of_mem hq
      have hil : i < 12 := (List.getElem?_eq_some_iff.mp hi).1
      have hw := x_t_ne i hil
      rw [hi] at hw
      exact va_Nw.of rfl (hts _ (List.mem_of_getElem? hw))
    · obtain ⟨scr, g1, g2, g3, g4, g5⟩ := hX
      refine ⟨scr, ?_, g2, g3, by rw [g4]; exact Nat.le_refl _, by rw [g4] <;> rfl, g5, Nat.not_le.mpr hbl⟩
      exact g1
  have hK : va_K E.1 vwCl (x_Ty E) s := by
    subst hE
    refine ⟨fun ci q hq => hfD ci q hq, fun k q hk => ?_⟩
    match k, hk with
    | 0, hk => cases hk; exact q0
    | 1, hk => cases hk; exact q1
    | 2, hk => cases hk; exact q2
    | 3, hk => cases hk; exact q3
    | 4, hk => cases hk; exact q4
    | 5, hk => cases hk; exact q5
    | 6, hk => cases hk; exact q6
    | k + 7, hk => simp [x_Ty] at hk
  have hB : E.2.2.1 = s.heap.size := by subst hE; rfl
  have hob : E.2.2.2 1000300 = b := by subst hE; rfl
  have hC : x_Cx (L, xs) E p room_1 s m #[Value.ref b] meth c mL_law 30 := ⟨⟨hx1, hb, hml, hr, hlocks, hname, hown⟩, hws, hK, hO, by decide, by decide⟩
  have hl := lv_entry ([.ref b]) (n := 4) (Nat.le_of_ble_eq_true rfl)
  rw [lg_entry_eq]
  have lo : x_Lo E 4 [.ref 1000300, .retAddr 0, .retAddr 0, .retAddr 0] ((lg_sl ([.ref b]) ++ List.replicate (4 - (lg_sl ([.ref b])).length) Slot.unset).toArray) := by
    have h1 := x_Lo.entry E [.ref 1000300] (n := 4) (by decide)
    have e1 : ([Value.ref 1000300] : List Value).map (x_V E) = [.ref b] := by simp [x_V, x_ad, hob]
    rw [e1] at h1
    exact h1
  have K := hx.2 E p l e room_1 s m #[Value.ref b] below meth c s.heap [] _ 0 0 (lw_Z below #[Value.ref b] s) hC ⟨by rw [hB]; rfl, Nat.le_refl _, Nat.zero_le _, hc, hz⟩ ⟨fun k q hk => by simp [x_W] at hk, va_S.rf⟩ lo ?_
  · exact K
  · intro H' locs' LS' pc' hw hR
    refine va_forget (fun q hq => ?_) ?_
    · have := hw.2.2.2 q hq
      rw [← hB]
      exact this
    refine W.widen (k := 600000) (n := 7302250) (by simpa using hc) (by simpa using hz) ?_
    exact lw_ret hx1 hb hr hlocks hR.1
