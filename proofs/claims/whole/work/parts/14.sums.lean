/-! contracts by their exact answers; sums and rows read with care -/
section XD
variable {sc : Nat × (Nat → Int32)} {d : Nat} {M M' : x_Mt} {pc : Nat} {ls st : List Value} {μ μ' μ1 : x_Me} {w w' w1 : Int64} {P : Option Value → x_Me → Int64 → Prop} {r : Option Value}
/-- the exact postcondition -/
abbrev x_p (r : Option Value) (μ : x_Me) (w : Int64) : Option Value → x_Me → Int64 → Prop := fun r1 μ1 w1 => r1 = r ∧ μ1 = μ ∧ w1 = w
/-- the exact contract -/
abbrev x_D (sc : Nat × (Nat → Int32)) (d : Nat) (M : x_Mt) (as : List Value) (μ : x_Me) (w : Int64) (r : Option Value) (μ' : x_Me) (w' : Int64) : Prop := x_K sc d M as μ w (x_p r μ' w')
theorem x_D.of {as : List Value} (hp : plainName M.1.cls = true) (hl : (x_in1 as).length ≤ M.2.2.1) (k : x_T sc d M 0 (x_in0 as M.2.2.1) [] μ w (x_p r μ' w')) : x_D sc d M as μ w r μ' w' := x_K.of hp hl k
theorem xt_cS {idx n : Nat} {as : List Value} {v : Value} (rest : List Value) (hd : decode M.2.1 pc = .ok (.invokestatic idx, 3)) (hl : x_lkS M.1.cls idx M' n) (hM : x_D sc d M' as μ w (some v) μ1 w1) (hn : as.length = n) (hst : st = as.reverse ++ rest) (hc : (rest.map fun v => v.category).sum ≤ 8)
    (k : x_T sc (d + 1) M (pc + 3) ls (v :: rest) μ1 w1 P) : x_T sc (d + 1) M pc ls st μ w P := xt_callS rest hd hl hM hn hst hc (fun r1 m1 v1 q => by obtain ⟨rfl, rfl, rfl⟩ := q; exact k)
theorem xt_cS0 {idx n : Nat} {as : List Value} (rest : List Value) (hd : decode M.2.1 pc = .ok (.invokestatic idx, 3)) (hl : x_lkS M.1.cls idx M' n) (hM : x_D sc d M' as μ w none μ1 w1) (hn : as.length = n) (hst : st = as.reverse ++ rest) (hc : (rest.map fun v => v.category).sum ≤ 8)
    (k : x_T sc (d + 1) M (pc + 3) ls rest μ1 w1 P) : x_T sc (d + 1) M pc ls st μ w P := xt_callS rest hd hl hM hn hst hc (fun r1 m1 v1 q => by obtain ⟨rfl, rfl, rfl⟩ := q; exact k)
theorem xt_cV {idx n ci k0 : Nat} {as : List Value} {tm : List (Option (Option Value))} {v : Value} (rest : List Value) (hd : decode M.2.1 pc = .ok (.invokevirtual idx, 3)) (hl : x_lkV M.1.cls idx M' n ci) (hM : x_D sc d M' (.ref k0 :: as) μ w (some v) μ1 w1) (hs : x_shape[k0]? = some (.inl (ci, tm))) (hn : as.length = n) (hst : st = as.reverse ++ .ref k0 :: rest) (hc : (rest.map fun v => v.category).sum ≤ 8)
    (k : x_T sc (d + 1) M (pc + 3) ls (v :: rest) μ1 w1 P) : x_T sc (d + 1) M pc ls st μ w P := xt_callV rest hd hl hM hs hn hst hc (fun r1 m1 v1 q => by obtain ⟨rfl, rfl, rfl⟩ := q; exact k)
theorem xt_cV0 {idx n ci k0 : Nat} {as : List Value} {tm : List (Option (Option Value))} (rest : List Value) (hd : decode M.2.1 pc = .ok (.invokevirtual idx, 3)) (hl : x_lkV M.1.cls idx M' n ci) (hM : x_D sc d M' (.ref k0 :: as) μ w none μ1 w1) (hs : x_shape[k0]? = some (.inl (ci, tm))) (hn : as.length = n) (hst : st = as.reverse ++ .ref k0 :: rest) (hc : (rest.map fun v => v.category).sum ≤ 8)
    (k : x_T sc (d + 1) M (pc + 3) ls rest μ1 w1 P) : x_T sc (d + 1) M pc ls st μ w P := xt_callV rest hd hl hM hs hn hst hc (fun r1 m1 v1 q => by obtain ⟨rfl, rfl, rfl⟩ := q; exact k)
end XD
def x_kmmax (own : String) (idx : Nat) : Prop := Cond.methodLink own idx Lib.Math.max.name ∈ x_WS ∧ Cond.static Lib.Math.max.name ∈ x_WS ∧ Cond.initialized "java/lang/Math" ∈ x_WS ∧ Cond.code Lib.Math.max.name Lib.Math.max.code 2 (some .int) ∈ x_WS
theorem xt_mmax {sc : Nat × (Nat → Int32)} {d : Nat} {M : x_Mt} {pc idx : Nat} {ls rest : List Value} {μ : x_Me} {w : Int64} {P : Option Value → x_Me → Int64 → Prop} {x y : Int32} (hd : decode M.2.1 pc = .ok (.invokestatic idx, 3)) (hl : x_kmmax M.1.cls idx) (hc : (rest.map fun v => v.category).sum ≤ 8)
    (K : x_T sc (d + 1) M (pc + 3) ls (.int (if x < y then y else x) :: rest) μ w P) : x_T sc (d + 1) M pc ls (.int y :: .int x :: rest) μ w P := by
  obtain ⟨r, μ', w', hR, hP⟩ := K
  refine ⟨r, μ', w', ⟨hR.1, ?_⟩, hP⟩
  intro E p l e R s m args below meth c H locs LS n0 z0 Q C hh w2 lo kk
  have hf := C.2.2.2.2
  have h1 := hR.1
  refine va_mmax C.1.1 C.1.2.1 (C.1.2.2.1.trans lo.2.1.symm) C.1.2.2.2.2.2.2 (C.2.1 _ hl.1) (C.2.1 _ hl.2.1) (C.2.1 _ hl.2.2.1) (C.2.1 _ hl.2.2.2) (by omega) (by rw [x_cats]; omega) (by omega) (by omega) hd ?_
  exact hR.2 E p l e R s m args below meth c H locs LS n0 z0 Q C hh w2 lo kk
def x_kmmin (own : String) (idx : Nat) : Prop := Cond.methodLink own idx Lib.Math.min.name ∈ x_WS ∧ Cond.static Lib.Math.min.name ∈ x_WS ∧ Cond.initialized "java/lang/Math" ∈ x_WS ∧ Cond.code Lib.Math.min.name Lib.Math.min.code 2 (some .int) ∈ x_WS
theorem xt_mmin {sc : Nat × (Nat → Int32)} {d : Nat} {M : x_Mt} {pc idx : Nat} {ls rest : List Value} {μ : x_Me} {w : Int64} {P : Option Value → x_Me → Int64 → Prop} {x y : Int32} (hd : decode M.2.1 pc = .ok (.invokestatic idx, 3)) (hl : x_kmmin M.1.cls idx) (hc : (rest.map fun v => v.category).sum ≤ 8)
    (K : x_T sc (d + 1) M (pc + 3) ls (.int (if y < x then y else x) :: rest) μ w P) : x_T sc (d + 1) M pc ls (.int y :: .int x :: rest) μ w P := by
  obtain ⟨r, μ', w', hR, hP⟩ := K
  refine ⟨r, μ', w', ⟨hR.1, ?_⟩, hP⟩
  intro E p l e R s m args below meth c H locs LS n0 z0 Q C hh w2 lo kk
  have hf := C.2.2.2.2
  have h1 := hR.1
  refine va_mmin C.1.1 C.1.2.1 (C.1.2.2.1.trans lo.2.1.symm) C.1.2.2.2.2.2.2 (C.2.1 _ hl.1) (C.2.1 _ hl.2.1) (C.2.1 _ hl.2.2.1) (C.2.1 _ hl.2.2.2) (by omega) (by rw [x_cats]; omega) (by omega) (by omega) hd ?_
  exact hR.2 E p l e R s m args below meth c H locs LS n0 z0 Q C hh w2 lo kk
def x_kmabs (own : String) (idx : Nat) : Prop := Cond.methodLink own idx Lib.Math.abs.name ∈ x_WS ∧ Cond.static Lib.Math.abs.name ∈ x_WS ∧ Cond.initialized "java/lang/Math" ∈ x_WS ∧ Cond.code Lib.Math.abs.name Lib.Math.abs.code 1 (some .int) ∈ x_WS
theorem xt_mabs {sc : Nat × (Nat → Int32)} {d : Nat} {M : x_Mt} {pc idx : Nat} {ls rest : List Value} {μ : x_Me} {w : Int64} {P : Option Value → x_Me → Int64 → Prop} {x : Int32} (hd : decode M.2.1 pc = .ok (.invokestatic idx, 3)) (hl : x_kmabs M.1.cls idx) (hc : (rest.map fun v => v.category).sum ≤ 8)
    (K : x_T sc (d + 1) M (pc + 3) ls (.int (if 0 ≤ x then x else 0 - x) :: rest) μ w P) : x_T sc (d + 1) M pc ls (.int x :: rest) μ w P := by
  obtain ⟨r, μ', w', hR, hP⟩ := K
  refine ⟨r, μ', w', ⟨hR.1, ?_⟩, hP⟩
  intro E p l e R s m args below meth c H locs LS n0 z0 Q C hh w2 lo kk
  have hf := C.2.2.2.2
  have h1 := hR.1
  refine va_mabs C.1.1 C.1.2.1 (C.1.2.2.1.trans lo.2.1.symm) C.1.2.2.2.2.2.2 (C.2.1 _ hl.1) (C.2.1 _ hl.2.1) (C.2.1 _ hl.2.2.1) (C.2.1 _ hl.2.2.2) (by omega) (by rw [x_cats]; omega) (by omega) (by omega) hd ?_
  exact hR.2 E p l e R s m args below meth c H locs LS n0 z0 Q C hh w2 lo kk
theorem kmX9_90 : x_kmmax RX9 90 := ⟨x_i3 134 (by decide +kernel) rfl, x_i3 135 (by decide +kernel) rfl, x_i1 19 (by decide +kernel) rfl, x_i3 136 (by decide +kernel) rfl⟩
theorem kmX8_9 : x_kmabs RX8 9 := ⟨x_i3 232 (by decide +kernel) rfl, x_i3 233 (by decide +kernel) rfl, x_i1 19 (by decide +kernel) rfl, x_i3 234 (by decide +kernel) rfl⟩
theorem kmX2_108 : x_kmmax RX2 108 := ⟨x_i4 11 (by decide +kernel) rfl, x_i3 135 (by decide +kernel) rfl, x_i1 19 (by decide +kernel) rfl, x_i3 136 (by decide +kernel) rfl⟩
theorem kmX7_129 : x_kmmax RX7 129 := ⟨x_i4 12 (by decide +kernel) rfl, x_i3 135 (by decide +kernel) rfl, x_i1 19 (by decide +kernel) rfl, x_i3 136 (by decide +kernel) rfl⟩
theorem kmX3_50 : x_kmmax RX3 50 := ⟨x_i4 72 (by decide +kernel) rfl, x_i3 135 (by decide +kernel) rfl, x_i1 19 (by decide +kernel) rfl, x_i3 136 (by decide +kernel) rfl⟩
theorem kmX10_79 : x_kmmin RX10 79 := ⟨x_i4 186 (by decide +kernel) rfl, x_i4 187 (by decide +kernel) rfl, x_i1 19 (by decide +kernel) rfl, x_i4 188 (by decide +kernel) rfl⟩
theorem kmX0_75 : x_kmmin RX0 75 := ⟨x_i4 213 (by decide +kernel) rfl, x_i4 187 (by decide +kernel) rfl, x_i1 19 (by decide +kernel) rfl, x_i4 188 (by decide +kernel) rfl⟩
theorem kmX0_54 : x_kmmax RX0 54 := ⟨x_i4 214 (by decide +kernel) rfl, x_i3 135 (by decide +kernel) rfl, x_i1 19 (by decide +kernel) rfl, x_i3 136 (by decide +kernel) rfl⟩
theorem kmX4_72 : x_kmmax RX4 72 := ⟨x_i5 23 (by decide +kernel) rfl, x_i3 135 (by decide +kernel) rfl, x_i1 19 (by decide +kernel) rfl, x_i3 136 (by decide +kernel) rfl⟩
theorem kmX3_92 : x_kmmin RX3 92 := ⟨x_i5 91 (by decide +kernel) rfl, x_i4 187 (by decide +kernel) rfl, x_i1 19 (by decide +kernel) rfl, x_i4 188 (by decide +kernel) rfl⟩
theorem kmX4_49 : x_kmmin RX4 49 := ⟨x_i6 21 (by decide +kernel) rfl, x_i4 187 (by decide +kernel) rfl, x_i1 19 (by decide +kernel) rfl, x_i4 188 (by decide +kernel) rfl⟩
theorem x_inb {i : Int32} {n : Nat} (h0 : ¬ i < 0) (h1 : ¬ nI n ≤ i) (hn : n < 2 ^ 31) : vp_in i n := by
  obtain ⟨j, hj, rfl⟩ := nI_of h0
  refine vp_in_nI ?_ hn
  rcases Nat.lt_or_ge j n with h | h
  · exact h
  · exact absurd (nI_le h hj) h1
theorem x_u_self (μ : x_Me) (k : Nat) : x_u μ k (μ k) = μ := by
  funext a
  by_cases h : a = k
  · subst h; simp [x_u]
  · simp [x_u, h]
section SUMS
variable (sc : Nat × (Nat → Int32)) (d : Nat) (μ : x_Me) (w : Int64)
/-- what a row has at i; 0 beyond it -/
def s_at (n : Nat) (f : Nat → Int32) (i : Int32) : Int32 := if i < 0 then 0 else if nI n ≤ i then 0 else f i.toNatClampNeg
def s_set (n : Nat) (f : Nat → Int32) (i v : Int32) : Nat → Int32 := if i < 0 then f else if nI n ≤ i then f else upd f i.toNatClampNeg v
set_option maxHeartbeats 400000 in
theorem tX8_at {k n : Nat} (hs : x_shape[k]? = some (.inr (.inl (0, n)))) (hn : n < 2 ^ 31) (i : Int32) : x_D sc d mX8_at [.ref k, .int i] μ w (some (.int (s_at n (μ k) i))) μ w := by
  refine x_D.of (by decide) (Nat.le_of_ble_eq_true rfl) ?_
  show x_T sc d mX8_at 0 [.ref k, .int i] [] μ w _
  refine xt_iload_n _ dX8_at_0 rfl ?_
  refine xt_if_lt 16 dX8_at_1 (by decide) (fun t1 => ?_) (fun f1 => ?_)
  · refine xt_iconst (0) dX8_at_16 (by decide) ?_
    exact xt_iret .int dX8_at_17 rfl (by first | rfl | assumption) ⟨by simp [s_at, t1], rfl, rfl⟩
  · refine xt_iload_n _ dX8_at_4 rfl ?_
    refine xt_aload_n _ dX8_at_5 rfl ?_
    refine xt_alen (nI _) dX8_at_6 (by first | rfl | assumption) (by decide) rfl ?_
    refine xt_icmp_ge 16 dX8_at_7 (by decide) (fun t7 => ?_) (fun f7 => ?_)
    · refine xt_iconst (0) dX8_at_16 (by decide) ?_
      exact xt_iret .int dX8_at_17 rfl (by first | rfl | assumption) ⟨by simp [s_at, f1, t7], rfl, rfl⟩
    · refine xt_aload_n _ dX8_at_10 rfl ?_
      refine xt_iload_n _ dX8_at_11 rfl ?_
      refine xt_ald dX8_at_12 (by first | rfl | assumption) (by exact x_inb f1 f7 hn) ?_
      refine xt_goto 17 dX8_at_13 (by decide) ?_
      exact xt_iret .int dX8_at_17 rfl (by first | rfl | assumption) ⟨by simp [s_at, f1, f7], rfl, rfl⟩
set_option maxHeartbeats 400000 in
theorem tX8_atT {k n : Nat} {f : Nat → Int32} (hs : x_row sc k n f) (hn : n < 2 ^ 31) (i : Int32) : x_D sc d mX8_at [.ref k, .int i] μ w (some (.int (s_at n f i))) μ w := by
  refine x_D.of (by decide) (Nat.le_of_ble_eq_true rfl) ?_
  show x_T sc d mX8_at 0 [.ref k, .int i] [] μ w _
  refine xt_iload_n _ dX8_at_0 rfl ?_
  refine xt_if_lt 16 dX8_at_1 (by decide) (fun t1 => ?_) (fun f1 => ?_)
  · refine xt_iconst (0) dX8_at_16 (by decide) ?_
    exact xt_iret .int dX8_at_17 rfl (by first | rfl | assumption) ⟨by simp [s_at, t1], rfl, rfl⟩
  · refine xt_iload_n _ dX8_at_4 rfl ?_
    refine xt_aload_n _ dX8_at_5 rfl ?_
    refine xt_alenT (nI n) dX8_at_6 hs rfl ?_
    refine xt_icmp_ge 16 dX8_at_7 (by decide) (fun t7 => ?_) (fun f7 => ?_)
    · refine xt_iconst (0) dX8_at_16 (by decide) ?_
      exact xt_iret .int dX8_at_17 rfl (by first | rfl | assumption) ⟨by simp [s_at, f1, t7], rfl, rfl⟩
    · refine xt_aload_n _ dX8_at_10 rfl ?_
      refine xt_iload_n _ dX8_at_11 rfl ?_
      refine xt_ialdT dX8_at_12 hs (x_inb f1 f7 hn) ?_
      refine xt_goto 17 dX8_at_13 (by decide) ?_
      exact xt_iret .int dX8_at_17 rfl (by first | rfl | assumption) ⟨by simp [s_at, f1, f7], rfl, rfl⟩
set_option maxHeartbeats 400000 in
theorem tX8_set {k n : Nat} (hs : x_shape[k]? = some (.inr (.inl (0, n)))) (hn : n < 2 ^ 31) (i v : Int32) : x_D sc d mX8_set [.ref k, .int i, .int v] μ w none (x_u μ k (s_set n (μ k) i v)) w := by
  refine x_D.of (by decide) (Nat.le_of_ble_eq_true rfl) ?_
  show x_T sc d mX8_set 0 [.ref k, .int i, .int v] [] μ w _
  refine xt_iload_n _ dX8_set_0 rfl ?_
  refine xt_if_lt 14 dX8_set_1 (by decide) (fun t1 => ?_) (fun f1 => ?_)
  · exact xt_ret dX8_set_14 rfl ⟨rfl, by simp [s_set, x_u_self, t1], rfl⟩
  · refine xt_iload_n _ dX8_set_4 rfl ?_
    refine xt_aload_n _ dX8_set_5 rfl ?_
    refine xt_alen (nI _) dX8_set_6 (by first | rfl | assumption) (by decide) rfl ?_
    refine xt_icmp_ge 14 dX8_set_7 (by decide) (fun t7 => ?_) (fun f7 => ?_)
    · exact xt_ret dX8_set_14 rfl ⟨rfl, by simp [s_set, x_u_self, f1, t7], rfl⟩
    · refine xt_aload_n _ dX8_set_10 rfl ?_
      refine xt_iload_n _ dX8_set_11 rfl ?_
      refine xt_iload_n _ dX8_set_12 rfl ?_
      refine xt_ast dX8_set_13 (by first | rfl | assumption) (by exact x_inb f1 f7 hn) ?_
      exact xt_ret dX8_set_14 rfl ⟨rfl, by simp [s_set, x_u_self, f1, f7], rfl⟩
def s_abs (a : Int32) : Int32 := if 0 ≤ a then a else 0 - a
def s_far (x y u v : Int32) : Int32 := s_abs (x - u) + s_abs (y - v)
set_option maxHeartbeats 400000 in
theorem tX8_far (x y u v : Int32) : x_D sc (d + 1) mX8_far [.int x, .int y, .int u, .int v] μ w (some (.int (s_far x y u v))) μ w := by
  refine x_D.of (by decide) (Nat.le_of_ble_eq_true rfl) ?_
  show x_T sc (d + 1) mX8_far 0 [.int x, .int y, .int u, .int v] [] μ w _
  refine xt_iload_n _ dX8_far_0 rfl ?_
  refine xt_iload_n _ dX8_far_1 rfl ?_
  refine xt_isub dX8_far_2 ?_
  refine xt_mabs dX8_far_3 kmX8_9 (Nat.le_of_ble_eq_true rfl) ?_
  refine xt_iload_n _ dX8_far_6 rfl ?_
  refine xt_iload_n _ dX8_far_7 rfl ?_
  refine xt_isub dX8_far_8 ?_
  refine xt_mabs dX8_far_9 kmX8_9 (Nat.le_of_ble_eq_true rfl) ?_
  refine xt_iadd dX8_far_12 ?_
  exact xt_iret .int dX8_far_13 rfl (by first | rfl | assumption) ⟨rfl, rfl, rfl⟩
end SUMS
