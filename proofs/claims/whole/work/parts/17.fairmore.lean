/-! more of a FAIR -/
def s_sum (f : Nat → Nat) : Nat → Nat
  | 0 => 0
  | n + 1 => s_sum f n + f n
theorem s_sum_le {f : Nat → Nat} {c : Nat} : ∀ {n : Nat}, (∀ i, i < n → f i ≤ c) → s_sum f n ≤ n * c
  | 0, _ => by simp [s_sum]
  | n + 1, h => by
    have h1 := s_sum_le (n := n) (fun i hi => h i (by omega))
    have h2 := h n (by omega)
    rw [s_sum, Nat.succ_mul]; omega
def s_cnt (p : Nat → Bool) : Nat → Nat
  | 0 => 0
  | n + 1 => s_cnt p n + (if p n then 1 else 0)
theorem s_cnt_le (p : Nat → Bool) : ∀ n, s_cnt p n ≤ n
  | 0 => Nat.le_refl _
  | n + 1 => by have := s_cnt_le p n; rw [s_cnt]; split <;> omega
theorem s_bits_bit (p : Nat → Bool) : ∀ (n i : Nat), (s_bits p n).testBit i = (decide (i < n) && p i)
  | 0, i => by simp [s_bits]
  | n + 1, i => by
    have h1 := s_bits_lt p n
    have ih := s_bits_bit p n i
    have e : s_bits p (n + 1) = (if p n then 2 ^ n else 0) ||| s_bits p n := by
      rw [s_bits]
      by_cases hp : p n = true
      · have h2 := Nat.two_pow_add_eq_or_of_lt h1 1
        rw [Nat.mul_one] at h2
        rw [hp, if_pos rfl, Nat.add_comm, h2]
      · simp [hp]
    rw [e, Nat.testBit_or, ih]
    by_cases hp : p n = true
    · rw [hp, if_pos rfl, Nat.testBit_two_pow]
      by_cases hi : n = i
      · subst hi; simp [hp]
      · have : (decide (n = i)) = false := by simp [hi]
        rw [this, Bool.false_or]
        by_cases h3 : i < n
        · simp [h3]; omega
        · have h4 : ¬ i < n + 1 := by omega
          simp [h3, h4]
    · simp only [hp, if_false, Nat.zero_testBit, Bool.false_or]
      by_cases hi : i = n
      · subst hi; simp [hp]
      · by_cases h3 : i < n
        · simp [h3]; omega
        · have h4 : ¬ i < n + 1 := by omega
          simp [h3, h4]
/-- Integer.bitCount, as its code reckons -/
def s_us (x y : Int32) : Int32 := (x.toUInt32 >>> (y.toUInt32 &&& Int32.toUInt32 31)).toInt32
def s_bc (x0 : Int32) : Int32 :=
  let x1 := x0 - (s_us x0 1 &&& 1431655765)
  let x2 := (x1 &&& 858993459) + (s_us x1 2 &&& 858993459)
  let x3 := (x2 + s_us x2 4) &&& 252645135
  let x4 := x3 + s_us x3 8
  let x5 := x4 + s_us x4 16
  x5 &&& 63
def s_pop (x : Nat) : Nat := s_cnt (fun i => x.testBit i) 8
theorem s_bc_pop : ∀ x, x < 256 → s_bc (nI x) = nI (s_pop x) := by decide +kernel
theorem s_cnt_cong {p q : Nat → Bool} : ∀ {n : Nat}, (∀ i, i < n → p i = q i) → s_cnt p n = s_cnt q n
  | 0, _ => rfl
  | n + 1, h => by rw [s_cnt, s_cnt, s_cnt_cong (fun i hi => h i (by omega)), h n (by omega)]
theorem s_cnt_ext (p : Nat → Bool) (n : Nat) : ∀ k, s_cnt (fun i => decide (i < n) && p i) (n + k) = s_cnt p n
  | 0 => s_cnt_cong (fun i hi => by have : i < n := hi; simp [this])
  | k + 1 => by
    rw [← Nat.add_assoc, s_cnt, s_cnt_ext p n k]
    have : ¬ n + k < n := by omega
    simp [this]
theorem s_bc_bits (p : Nat → Bool) {n : Nat} (hn : n ≤ 8) : s_bc (nI (s_bits p n)) = nI (s_cnt p n) := by
  have h1 := s_bits_lt p n
  have h2 : 2 ^ n ≤ 2 ^ 8 := Nat.pow_le_pow_right (by decide) hn
  rw [s_bc_pop _ (by omega), s_pop]
  congr 1
  rw [s_cnt_cong (q := fun i => decide (i < n) && p i) (fun i _ => s_bits_bit p n i)]
  have := s_cnt_ext p n (8 - n)
  rw [show n + (8 - n) = 8 by omega] at this
  exact this
section FAIRM
variable (sc : Nat × (Nat → Int32)) (d : Nat) {μ : x_Me} (w : Int64) {k : Nat} {F : Nat → Nat}
set_option maxHeartbeats 1000000 in
theorem tJ_bitCount (x : Int32) : x_D sc d mJ6_bitCount_0f7a4 [.int x] μ w (some (.int (s_bc x))) μ w := by
  refine x_D.of (by decide) (Nat.le_of_ble_eq_true rfl) ?_
  show x_T sc d mJ6_bitCount_0f7a4 0 [.int x] [] μ w _
  refine xt_iload_n _ dJ6_bitCount_0f7a4_0 rfl ?_
  refine xt_iload_n _ dJ6_bitCount_0f7a4_1 rfl ?_
  refine xt_iconst (1) dJ6_bitCount_0f7a4_2 (by decide) ?_
  refine xt_iushr dJ6_bitCount_0f7a4_3 ?_
  refine xt_ldcw _ dJ6_bitCount_0f7a4_4 kkJ6_265 ?_
  refine xt_iand dJ6_bitCount_0f7a4_7 ?_
  refine xt_isub dJ6_bitCount_0f7a4_8 ?_
  refine xt_istore_n dJ6_bitCount_0f7a4_9 (by decide) rfl ?_
  change x_T _ _ _ _ [_] _ _ _ _
  refine xt_iload_n _ dJ6_bitCount_0f7a4_10 rfl ?_
  refine xt_ldcw _ dJ6_bitCount_0f7a4_11 kkJ6_266 ?_
  refine xt_iand dJ6_bitCount_0f7a4_14 ?_
  refine xt_iload_n _ dJ6_bitCount_0f7a4_15 rfl ?_
  refine xt_iconst (2) dJ6_bitCount_0f7a4_16 (by decide) ?_
  refine xt_iushr dJ6_bitCount_0f7a4_17 ?_
  refine xt_ldcw _ dJ6_bitCount_0f7a4_18 kkJ6_266 ?_
  refine xt_iand dJ6_bitCount_0f7a4_21 ?_
  refine xt_iadd dJ6_bitCount_0f7a4_22 ?_
  refine xt_istore_n dJ6_bitCount_0f7a4_23 (by decide) rfl ?_
  change x_T _ _ _ _ [_] _ _ _ _
  refine xt_iload_n _ dJ6_bitCount_0f7a4_24 rfl ?_
  refine xt_iload_n _ dJ6_bitCount_0f7a4_25 rfl ?_
  refine xt_iconst (4) dJ6_bitCount_0f7a4_26 (by decide) ?_
  refine xt_iushr dJ6_bitCount_0f7a4_27 ?_
  refine xt_iadd dJ6_bitCount_0f7a4_28 ?_
  refine xt_ldcw _ dJ6_bitCount_0f7a4_29 kkJ6_267 ?_
  refine xt_iand dJ6_bitCount_0f7a4_32 ?_
  refine xt_istore_n dJ6_bitCount_0f7a4_33 (by decide) rfl ?_
  change x_T _ _ _ _ [_] _ _ _ _
  refine xt_iload_n _ dJ6_bitCount_0f7a4_34 rfl ?_
  refine xt_iload_n _ dJ6_bitCount_0f7a4_35 rfl ?_
  refine xt_bipush (8) dJ6_bitCount_0f7a4_36 (by decide) ?_
  refine xt_iushr dJ6_bitCount_0f7a4_38 ?_
  refine xt_iadd dJ6_bitCount_0f7a4_39 ?_
  refine xt_istore_n dJ6_bitCount_0f7a4_40 (by decide) rfl ?_
  change x_T _ _ _ _ [_] _ _ _ _
  refine xt_iload_n _ dJ6_bitCount_0f7a4_41 rfl ?_
  refine xt_iload_n _ dJ6_bitCount_0f7a4_42 rfl ?_
  refine xt_bipush (16) dJ6_bitCount_0f7a4_43 (by decide) ?_
  refine xt_iushr dJ6_bitCount_0f7a4_45 ?_
  refine xt_iadd dJ6_bitCount_0f7a4_46 ?_
  refine xt_istore_n dJ6_bitCount_0f7a4_47 (by decide) rfl ?_
  change x_T _ _ _ _ [_] _ _ _ _
  refine xt_iload_n _ dJ6_bitCount_0f7a4_48 rfl ?_
  refine xt_bipush (63) dJ6_bitCount_0f7a4_49 (by decide) ?_
  refine xt_iand dJ6_bitCount_0f7a4_51 ?_
  exact xt_iret .int dJ6_bitCount_0f7a4_52 rfl (by first | rfl | assumption) ⟨rfl, rfl, rfl⟩
theorem s_str0 : s_str 0 (fun _ => false) := by
  intro m hm
  have : ∀ m, m < 6 → ((0 : Int32) >>> (nI m &&& 31)) &&& 1 = 0 := by decide +kernel
  simp [this m hm]
set_option maxHeartbeats 2000000 in
theorem tX2_isOffending (hS : f_S k) (hC : f_C μ k F) (hW : f_W F) (g : Nat) (hg : g < F 4) : x_D sc (d + 3) mX2_isOffending [.ref k, .int (nI g)] μ w (some (.int (if s_off F (fun _ => false) 0 g then 1 else 0))) μ w := by
  obtain ⟨hs0, hs1, hs2, hs3, hs4, hs5⟩ := hS
  have hfar := s_farO_le hW hg
  have hear := s_ear_le hW (fun _ => false) 0 g (F 3) (by omega)
  refine x_D.of (by decide) (Nat.le_of_ble_eq_true rfl) ?_
  show x_T sc (d + 3) mX2_isOffending 0 [.ref k, .int (nI g)] [] μ w _
  refine xt_aload_n _ dX2_isOffending_0 rfl ?_
  refine xt_iload_n _ dX2_isOffending_1 rfl ?_
  refine xt_cV _ dX2_isOffending_2 klX2_113 (tX2_farOf sc (d + 0) w (by exact ⟨hs0, hs1, hs2, hs3, hs4, hs5⟩) hC hW g hg) (by assumption) rfl rfl (Nat.le_of_ble_eq_true rfl) ?_
  refine xt_aload_n _ dX2_isOffending_5 rfl ?_
  refine xt_iload_n _ dX2_isOffending_6 rfl ?_
  refine xt_iconst (0) dX2_isOffending_7 (by decide) ?_
  refine xt_iconst (0) dX2_isOffending_8 (by decide) ?_
  refine xt_cV _ dX2_isOffending_9 klX2_116 (tX2_earshot sc d w (by exact ⟨hs0, hs1, hs2, hs3, hs4, hs5⟩) hC hW g 0 hg (by omega) 0 (fun _ => false) s_str0) (by assumption) rfl rfl (Nat.le_of_ble_eq_true rfl) ?_
  refine xt_icmp_gt 19 dX2_isOffending_12 (by decide) (fun t12 => ?_) (fun f12 => ?_)
  · refine xt_iconst (0) dX2_isOffending_19 (by decide) ?_
    exact xt_iret .boolean dX2_isOffending_20 rfl (by first | rfl | assumption) ⟨by rw [eI_gt (by omega) (by omega)] at t12; rw [s_off, if_neg (by simp; omega)], rfl, rfl⟩
  · refine xt_iconst (1) dX2_isOffending_15 (by decide) ?_
    refine xt_goto 20 dX2_isOffending_16 (by decide) ?_
    exact xt_iret .boolean dX2_isOffending_20 rfl (by first | rfl | assumption) ⟨by rw [eI_gt (by omega) (by omega)] at f12; rw [s_off, if_pos (by simp; omega)], rfl, rfl⟩
set_option maxHeartbeats 2000000 in
theorem tX2_wrongsTogether (hS : f_S k) (hC : f_C μ k F) (g : Nat) (hg : g < 8) : x_D sc (d + 2) mX2_wrongsTogether [.ref k, .int (nI g)] μ w (some (.int (nI (s_sum (fun j => F (41 + (6 * g + j))) 6)))) μ w := by
  obtain ⟨hs0, hs1, hs2, hs3, hs4, hs5⟩ := hS
  have L4 : ∀ (n m : Nat) , m + n = 6 → x_T sc (d + 2) mX2_wrongsTogether 4 [.ref k, .int (nI g), .int (nI (s_sum (fun j => F (41 + (6 * g + j))) m)), .int (nI m)] [] μ w (x_p (some (.int (nI (s_sum (fun j => F (41 + (6 * g + j))) 6)))) μ w) := by
    intro n
    induction n with
    | zero =>
      intro m  hmn
      obtain rfl : m = 6 := by omega
      refine xt_iload_n _ dX2_wrongsTogether_4 rfl ?_
      refine xt_bipush (6) dX2_wrongsTogether_5 (by decide) ?_
      refine xt_icmp_ge 25 dX2_wrongsTogether_7 (by decide) (fun _ => ?_) (fun q => absurd (by decide) q)
      refine xt_iload_n _ dX2_wrongsTogether_25 rfl ?_
      exact xt_iret .int dX2_wrongsTogether_26 rfl (by first | rfl | assumption) ⟨rfl, rfl, rfl⟩
    | succ n ih =>
      intro m  hmn
      have hlt : m < 6 := by omega
      refine xt_iload_n _ dX2_wrongsTogether_4 rfl ?_
      refine xt_bipush (6) dX2_wrongsTogether_5 (by decide) ?_
      refine xt_icmp_ge 25 dX2_wrongsTogether_7 (by decide) (fun q => absurd q (nI_ge (b := 6) hlt (by decide))) (fun _ => ?_)
      refine xt_iload_n _ dX2_wrongsTogether_10 rfl ?_
      refine xt_aload_n _ dX2_wrongsTogether_11 rfl ?_
      refine xt_iload_n _ dX2_wrongsTogether_12 rfl ?_
      refine xt_iload_n _ dX2_wrongsTogether_13 rfl ?_
      refine xt_cV _ dX2_wrongsTogether_14 klX2_73 (tX2_wrongsOf sc d w (by exact ⟨hs0, hs1, hs2, hs3, hs4, hs5⟩) hC g m hg hlt) (by assumption) rfl rfl (Nat.le_of_ble_eq_true rfl) ?_
      refine xt_iadd dX2_wrongsTogether_17 ?_
      refine xt_istore_n dX2_wrongsTogether_18 (by decide) rfl ?_
      change x_T _ _ _ _ [_, _, _, _] _ _ _ _
      refine xt_inc _ (1) dX2_wrongsTogether_19 rfl (by decide) (by decide) rfl ?_
      change x_T _ _ _ _ [_, _, _, _] _ _ _ _
      refine xt_goto 4 dX2_wrongsTogether_22 (by decide) ?_
      refine x_T.ls ?_ (ih (m + 1) (by omega))
      first | (rw [nI_add, nI_succ m]; done) | (rw [nI_add, nI_succ m]; rfl)
  refine x_D.of (by decide) (Nat.le_of_ble_eq_true rfl) ?_
  show x_T sc (d + 2) mX2_wrongsTogether 0 [.ref k, .int (nI g), .retAddr 0, .retAddr 0] [] μ w _
  refine xt_iconst (0) dX2_wrongsTogether_0 (by decide) ?_
  refine xt_istore_n dX2_wrongsTogether_1 (by decide) rfl ?_
  change x_T _ _ _ _ [_, _, _, _] _ _ _ _
  refine xt_iconst (0) dX2_wrongsTogether_2 (by decide) ?_
  refine xt_istore_n dX2_wrongsTogether_3 (by decide) rfl ?_
  change x_T _ _ _ _ [_, _, _, _] _ _ _ _
  exact L4 6 0 (by omega)
set_option maxHeartbeats 2000000 in
theorem tX2_wrongsOfKind (hS : f_S k) (hC : f_C μ k F) (hW : f_W F) (j : Nat) (hj : j < 6) : x_D sc (d + 2) mX2_wrongsOfKind [.ref k, .int (nI j)] μ w (some (.int (nI (s_sum (fun g => F (41 + (6 * g + j))) (F 4))))) μ w := by
  obtain ⟨hs0, hs1, hs2, hs3, hs4, hs5⟩ := hS
  have hm8 : F 4 ≤ 8 := hW.1.2.2.2.2.1
  have e4 : μ k 4 = nI (F 4) := hC.1 4 (by decide)
  have L4 : ∀ (n m : Nat) , m + n = F 4 → x_T sc (d + 2) mX2_wrongsOfKind 4 [.ref k, .int (nI j), .int (nI (s_sum (fun g => F (41 + (6 * g + j))) m)), .int (nI m)] [] μ w (x_p (some (.int (nI (s_sum (fun g => F (41 + (6 * g + j))) (F 4))))) μ w) := by
    intro n
    induction n with
    | zero =>
      intro m  hmn
      obtain rfl : m = F 4 := by omega
      refine xt_iload_n _ dX2_wrongsOfKind_4 rfl ?_
      refine xt_aload_n _ dX2_wrongsOfKind_5 rfl ?_
      refine xt_geti dX2_wrongsOfKind_6 kfX2_40 (by first | rfl | assumption) rfl ?_
      refine xt_icmp_ge 27 dX2_wrongsOfKind_9 (by decide) (fun _ => ?_) (fun q => absurd (by rw [e4]; exact Int32.le_refl _) q)
      refine xt_iload_n _ dX2_wrongsOfKind_27 rfl ?_
      exact xt_iret .int dX2_wrongsOfKind_28 rfl (by first | rfl | assumption) ⟨rfl, rfl, rfl⟩
    | succ n ih =>
      intro m  hmn
      have hlt : m < F 4 := by omega
      refine xt_iload_n _ dX2_wrongsOfKind_4 rfl ?_
      refine xt_aload_n _ dX2_wrongsOfKind_5 rfl ?_
      refine xt_geti dX2_wrongsOfKind_6 kfX2_40 (by first | rfl | assumption) rfl ?_
      refine xt_icmp_ge 27 dX2_wrongsOfKind_9 (by decide) (fun q => absurd q (by rw [e4]; exact nI_ge hlt (by omega))) (fun _ => ?_)
      refine xt_iload_n _ dX2_wrongsOfKind_12 rfl ?_
      refine xt_aload_n _ dX2_wrongsOfKind_13 rfl ?_
      refine xt_iload_n _ dX2_wrongsOfKind_14 rfl ?_
      refine xt_iload_n _ dX2_wrongsOfKind_15 rfl ?_
      refine xt_cV _ dX2_wrongsOfKind_16 klX2_73 (tX2_wrongsOf sc d w (by exact ⟨hs0, hs1, hs2, hs3, hs4, hs5⟩) hC m j (by omega) hj) (by assumption) rfl rfl (Nat.le_of_ble_eq_true rfl) ?_
      refine xt_iadd dX2_wrongsOfKind_19 ?_
      refine xt_istore_n dX2_wrongsOfKind_20 (by decide) rfl ?_
      change x_T _ _ _ _ [_, _, _, _] _ _ _ _
      refine xt_inc _ (1) dX2_wrongsOfKind_21 rfl (by decide) (by decide) rfl ?_
      change x_T _ _ _ _ [_, _, _, _] _ _ _ _
      refine xt_goto 4 dX2_wrongsOfKind_24 (by decide) ?_
      refine x_T.ls ?_ (ih (m + 1) (by omega))
      first | (rw [nI_add, nI_succ m]; done) | (rw [nI_add, nI_succ m]; rfl)
  refine x_D.of (by decide) (Nat.le_of_ble_eq_true rfl) ?_
  show x_T sc (d + 2) mX2_wrongsOfKind 0 [.ref k, .int (nI j), .retAddr 0, .retAddr 0] [] μ w _
  refine xt_iconst (0) dX2_wrongsOfKind_0 (by decide) ?_
  refine xt_istore_n dX2_wrongsOfKind_1 (by decide) rfl ?_
  change x_T _ _ _ _ [_, _, _, _] _ _ _ _
  refine xt_iconst (0) dX2_wrongsOfKind_2 (by decide) ?_
  refine xt_istore_n dX2_wrongsOfKind_3 (by decide) rfl ?_
  change x_T _ _ _ _ [_, _, _, _] _ _ _ _
  exact L4 (F 4) 0 (by omega)
set_option maxHeartbeats 2000000 in
theorem tX2_allWrongs (hS : f_S k) (hC : f_C μ k F) (hW : f_W F) : x_D sc (d + 3) mX2_allWrongs [.ref k] μ w (some (.int (nI (s_sum (fun g => s_sum (fun j => F (41 + (6 * g + j))) 6) (F 4))))) μ w := by
  obtain ⟨hs0, hs1, hs2, hs3, hs4, hs5⟩ := hS
  have hm8 : F 4 ≤ 8 := hW.1.2.2.2.2.1
  have e4 : μ k 4 = nI (F 4) := hC.1 4 (by decide)
  have L4 : ∀ (n m : Nat) , m + n = F 4 → x_T sc (d + 3) mX2_allWrongs 4 [.ref k, .int (nI (s_sum (fun g => s_sum (fun j => F (41 + (6 * g + j))) 6) m)), .int (nI m)] [] μ w (x_p (some (.int (nI (s_sum (fun g => s_sum (fun j => F (41 + (6 * g + j))) 6) (F 4))))) μ w) := by
    intro n
    induction n with
    | zero =>
      intro m  hmn
      obtain rfl : m = F 4 := by omega
      refine xt_iload_n _ dX2_allWrongs_4 rfl ?_
      refine xt_aload_n _ dX2_allWrongs_5 rfl ?_
      refine xt_geti dX2_allWrongs_6 kfX2_40 (by first | rfl | assumption) rfl ?_
      refine xt_icmp_ge 26 dX2_allWrongs_9 (by decide) (fun _ => ?_) (fun q => absurd (by rw [e4]; exact Int32.le_refl _) q)
      refine xt_iload_n _ dX2_allWrongs_26 rfl ?_
      exact xt_iret .int dX2_allWrongs_27 rfl (by first | rfl | assumption) ⟨rfl, rfl, rfl⟩
    | succ n ih =>
      intro m  hmn
      have hlt : m < F 4 := by omega
      refine xt_iload_n _ dX2_allWrongs_4 rfl ?_
      refine xt_aload_n _ dX2_allWrongs_5 rfl ?_
      refine xt_geti dX2_allWrongs_6 kfX2_40 (by first | rfl | assumption) rfl ?_
      refine xt_icmp_ge 26 dX2_allWrongs_9 (by decide) (fun q => absurd q (by rw [e4]; exact nI_ge hlt (by omega))) (fun _ => ?_)
      refine xt_iload_n _ dX2_allWrongs_12 rfl ?_
      refine xt_aload_n _ dX2_allWrongs_13 rfl ?_
      refine xt_iload_n _ dX2_allWrongs_14 rfl ?_
      refine xt_cV _ dX2_allWrongs_15 klX2_86 (tX2_wrongsTogether sc d w (by exact ⟨hs0, hs1, hs2, hs3, hs4, hs5⟩) hC m (by omega)) (by assumption) rfl rfl (Nat.le_of_ble_eq_true rfl) ?_
      refine xt_iadd dX2_allWrongs_18 ?_
      refine xt_istore_n dX2_allWrongs_19 (by decide) rfl ?_
      change x_T _ _ _ _ [_, _, _] _ _ _ _
      refine xt_inc _ (1) dX2_allWrongs_20 rfl (by decide) (by decide) rfl ?_
      change x_T _ _ _ _ [_, _, _] _ _ _ _
      refine xt_goto 4 dX2_allWrongs_23 (by decide) ?_
      refine x_T.ls ?_ (ih (m + 1) (by omega))
      first | (rw [nI_add, nI_succ m]; done) | (rw [nI_add, nI_succ m]; rfl)
  refine x_D.of (by decide) (Nat.le_of_ble_eq_true rfl) ?_
  show x_T sc (d + 3) mX2_allWrongs 0 [.ref k, .retAddr 0, .retAddr 0] [] μ w _
  refine xt_iconst (0) dX2_allWrongs_0 (by decide) ?_
  refine xt_istore_n dX2_allWrongs_1 (by decide) rfl ?_
  change x_T _ _ _ _ [_, _, _] _ _ _ _
  refine xt_iconst (0) dX2_allWrongs_2 (by decide) ?_
  refine xt_istore_n dX2_allWrongs_3 (by decide) rfl ?_
  change x_T _ _ _ _ [_, _, _] _ _ _ _
  exact L4 (F 4) 0 (by omega)
set_option maxHeartbeats 2000000 in
theorem tX2_within (hS : f_S k) (hC : f_C μ k F) (hW : f_W F) (r : Int32) : x_D sc (d + 3) mX2_within [.ref k, .int r] μ w (some (.int (nI (s_bits (fun g => decide (nI (s_farO F g) ≤ r)) (F 4))))) μ w := by
  obtain ⟨hs0, hs1, hs2, hs3, hs4, hs5⟩ := hS
  have hm8 : F 4 ≤ 8 := hW.1.2.2.2.2.1
  have e4 : μ k 4 = nI (F 4) := hC.1 4 (by decide)
  have L4 : ∀ (n m : Nat) , m + n = F 4 → x_T sc (d + 3) mX2_within 4 [.ref k, .int r, .int (nI (s_bits (fun g => decide (nI (s_farO F g) ≤ r)) m)), .int (nI m)] [] μ w (x_p (some (.int (nI (s_bits (fun g => decide (nI (s_farO F g) ≤ r)) (F 4))))) μ w) := by
    intro n
    induction n with
    | zero =>
      intro m  hmn
      obtain rfl : m = F 4 := by omega
      refine xt_iload_n _ dX2_within_4 rfl ?_
      refine xt_aload_n _ dX2_within_5 rfl ?_
      refine xt_geti dX2_within_6 kfX2_40 (by first | rfl | assumption) rfl ?_
      refine xt_icmp_ge 33 dX2_within_9 (by decide) (fun _ => ?_) (fun q => absurd (by rw [e4]; exact Int32.le_refl _) q)
      refine xt_iload_n _ dX2_within_33 rfl ?_
      exact xt_iret .int dX2_within_34 rfl (by first | rfl | assumption) ⟨rfl, rfl, rfl⟩
    | succ n ih =>
      intro m  hmn
      have hlt : m < F 4 := by omega
      refine xt_iload_n _ dX2_within_4 rfl ?_
      refine xt_aload_n _ dX2_within_5 rfl ?_
      refine xt_geti dX2_within_6 kfX2_40 (by first | rfl | assumption) rfl ?_
      refine xt_icmp_ge 33 dX2_within_9 (by decide) (fun q => absurd q (by rw [e4]; exact nI_ge hlt (by omega))) (fun _ => ?_)
      refine xt_aload_n _ dX2_within_12 rfl ?_
      refine xt_iload_n _ dX2_within_13 rfl ?_
      refine xt_cV _ dX2_within_14 klX2_113 (tX2_farOf sc (d + 0) w (by exact ⟨hs0, hs1, hs2, hs3, hs4, hs5⟩) hC hW m hlt) (by assumption) rfl rfl (Nat.le_of_ble_eq_true rfl) ?_
      refine xt_iload_n _ dX2_within_17 rfl ?_
      refine xt_icmp_gt 27 dX2_within_18 (by decide) (fun t18 => ?_) (fun f18 => ?_)
      · refine xt_inc _ (1) dX2_within_27 rfl (by decide) (by decide) rfl ?_
        change x_T _ _ _ _ [_, _, _, _] _ _ _ _
        refine xt_goto 4 dX2_within_30 (by decide) ?_
        refine x_T.ls ?_ (ih (m + 1) (by omega))
        first | (rw [s_bits_no (p := (fun g => decide (nI (s_farO F g) ≤ r))) (by simpa using t18), nI_succ m]; done) | (rw [s_bits_no (p := (fun g => decide (nI (s_farO F g) ≤ r))) (by simpa using t18), nI_succ m]; rfl)
      · refine xt_iload_n _ dX2_within_21 rfl ?_
        refine xt_iconst (1) dX2_within_22 (by decide) ?_
        refine xt_iload_n _ dX2_within_23 rfl ?_
        refine xt_ishl dX2_within_24 ?_
        refine xt_ior dX2_within_25 ?_
        refine xt_istore_n dX2_within_26 (by decide) rfl ?_
        change x_T _ _ _ _ [_, _, _, _] _ _ _ _
        refine xt_inc _ (1) dX2_within_27 rfl (by decide) (by decide) rfl ?_
        change x_T _ _ _ _ [_, _, _, _] _ _ _ _
        refine xt_goto 4 dX2_within_30 (by decide) ?_
        refine x_T.ls ?_ (ih (m + 1) (by omega))
        first | (rw [← s_bits_or (p := (fun g => decide (nI (s_farO F g) ≤ r))) (g := m) (by omega) (by simpa using f18), nI_succ m]; done) | (rw [← s_bits_or (p := (fun g => decide (nI (s_farO F g) ≤ r))) (g := m) (by omega) (by simpa using f18), nI_succ m]; rfl)
  refine x_D.of (by decide) (Nat.le_of_ble_eq_true rfl) ?_
  show x_T sc (d + 3) mX2_within 0 [.ref k, .int r, .retAddr 0, .retAddr 0] [] μ w _
  refine xt_iconst (0) dX2_within_0 (by decide) ?_
  refine xt_istore_n dX2_within_1 (by decide) rfl ?_
  change x_T _ _ _ _ [_, _, _, _] _ _ _ _
  refine xt_iconst (0) dX2_within_2 (by decide) ?_
  refine xt_istore_n dX2_within_3 (by decide) rfl ?_
  change x_T _ _ _ _ [_, _, _, _] _ _ _ _
  exact L4 (F 4) 0 (by omega)
def s_mr (F : Nat → Nat) : Nat → Nat
  | 0 => 0
  | m + 1 => max (s_mr F m) (F (13 + m) + 1)
theorem s_mr_le (hW : f_W F) : ∀ m, m ≤ F 3 → s_mr F m ≤ 19
  | 0, _ => by simp [s_mr]
  | m + 1, h => by
    have h1 := s_mr_le hW m (by omega)
    have h2 := (hW.2.1 m (by omega)).2.1
    rw [s_mr]; omega
set_option maxHeartbeats 2000000 in
theorem tX2_heard (hS : f_S k) (hC : f_C μ k F) (hW : f_W F) : x_D sc (d + 4) mX2_heard [.ref k] μ w (some (.int (nI (s_bits (fun g => decide (nI (s_farO F g) ≤ eI (s_mr F (F 3)))) (F 4))))) μ w := by
  obtain ⟨hs0, hs1, hs2, hs3, hs4, hs5⟩ := hS
  have hm6 : F 3 ≤ 6 := hW.1.2.2.2.1
  have e3 : μ k 3 = nI (F 3) := hC.1 3 (by decide)
  have L4 : ∀ (n m : Nat) , m + n = F 3 → x_T sc (d + 4) mX2_heard 4 [.ref k, .int (eI (s_mr F m)), .int (nI m)] [] μ w (x_p (some (.int (nI (s_bits (fun g => decide (nI (s_farO F g) ≤ eI (s_mr F (F 3)))) (F 4))))) μ w) := by
    intro n
    induction n with
    | zero =>
      intro m  hmn
      obtain rfl : m = F 3 := by omega
      refine xt_iload_n _ dX2_heard_4 rfl ?_
      refine xt_aload_n _ dX2_heard_5 rfl ?_
      refine xt_geti dX2_heard_6 kfX2_37 (by first | rfl | assumption) rfl ?_
      refine xt_icmp_ge 28 dX2_heard_9 (by decide) (fun _ => ?_) (fun q => absurd (by rw [e3]; exact Int32.le_refl _) q)
      refine xt_aload_n _ dX2_heard_28 rfl ?_
      refine xt_iload_n _ dX2_heard_29 rfl ?_
      refine xt_cV _ dX2_heard_30 klX2_131 (tX2_within sc d w (by exact ⟨hs0, hs1, hs2, hs3, hs4, hs5⟩) hC hW _) (by assumption) rfl rfl (Nat.le_of_ble_eq_true rfl) ?_
      exact xt_iret .int dX2_heard_33 rfl (by first | rfl | assumption) ⟨rfl, rfl, rfl⟩
    | succ n ih =>
      intro m  hmn
      have hlt : m < F 3 := by omega
      have h1 := s_mr_le hW m (by omega)
      have h2 := (hW.2.1 m hlt).2.1
      refine xt_iload_n _ dX2_heard_4 rfl ?_
      refine xt_aload_n _ dX2_heard_5 rfl ?_
      refine xt_geti dX2_heard_6 kfX2_37 (by first | rfl | assumption) rfl ?_
      refine xt_icmp_ge 28 dX2_heard_9 (by decide) (fun q => absurd q (by rw [e3]; exact nI_ge hlt (by omega))) (fun _ => ?_)
      refine xt_iload_n _ dX2_heard_12 rfl ?_
      refine xt_aload_n _ dX2_heard_13 rfl ?_
      refine xt_iload_n _ dX2_heard_14 rfl ?_
      refine xt_cV _ dX2_heard_15 klX2_105 (tX2_reachOf sc (d + 2) w (by exact ⟨hs0, hs1, hs2, hs3, hs4, hs5⟩) hC hW m hlt) (by assumption) rfl rfl (Nat.le_of_ble_eq_true rfl) ?_
      refine xt_mmax dX2_heard_18 kmX2_108 (Nat.le_of_ble_eq_true rfl) ?_
      refine xt_istore_n dX2_heard_21 (by decide) rfl ?_
      change x_T _ _ _ _ [_, _, _] _ _ _ _
      refine xt_inc _ (1) dX2_heard_22 rfl (by decide) (by decide) rfl ?_
      change x_T _ _ _ _ [_, _, _] _ _ _ _
      refine xt_goto 4 dX2_heard_25 (by decide) ?_
      refine x_T.ls ?_ (ih (m + 1) (by omega))
      have es : s_mr F (m + 1) = max (s_mr F m) (F (13 + m) + 1) := rfl
      first | (rw [es, ← eI_max (by omega) (by omega), nI_succ m]; done) | (rw [es, ← eI_max (by omega) (by omega), nI_succ m]; rfl)
  refine x_D.of (by decide) (Nat.le_of_ble_eq_true rfl) ?_
  show x_T sc (d + 4) mX2_heard 0 [.ref k, .retAddr 0, .retAddr 0] [] μ w _
  refine xt_iconst (-1) dX2_heard_0 (by decide) ?_
  refine xt_istore_n dX2_heard_1 (by decide) rfl ?_
  change x_T _ _ _ _ [_, _, _] _ _ _ _
  refine xt_iconst (0) dX2_heard_2 (by decide) ?_
  refine xt_istore_n dX2_heard_3 (by decide) rfl ?_
  change x_T _ _ _ _ [_, _, _] _ _ _ _
  exact L4 (F 3) 0 (by omega)
def s_slant (F : Nat → Nat) (t : Nat) : Bool := decide (¬ F 2 = 0 ∧ t % F 2 = 0)
set_option maxHeartbeats 2000000 in
theorem tX2_slantStops (hS : f_S k) (hC : f_C μ k F) (hW : f_W F) (t : Nat) (ht : t < 1000) : x_D sc (d + 0) mX2_slantStops [.ref k, .int (nI t)] μ w (some (.int (if s_slant F t then 1 else 0))) μ w := by
  obtain ⟨hs0, hs1, hs2, hs3, hs4, hs5⟩ := hS
  have h9 : F 2 ≤ 9 := hW.1.2.2.1
  have e2 : μ k 2 = nI (F 2) := hC.1 2 (by decide)
  refine x_D.of (by decide) (Nat.le_of_ble_eq_true rfl) ?_
  show x_T sc (d + 0) mX2_slantStops 0 [.ref k, .int (nI t)] [] μ w _
  refine xt_aload_n _ dX2_slantStops_0 rfl ?_
  refine xt_geti dX2_slantStops_1 kfX2_34 (by first | rfl | assumption) rfl ?_
  refine xt_if_eq 20 dX2_slantStops_4 (by decide) (fun t4 => ?_) (fun f4 => ?_)
  · refine xt_iconst (0) dX2_slantStops_20 (by decide) ?_
    exact xt_iret .boolean dX2_slantStops_21 rfl (by first | rfl | assumption) ⟨by rw [e2, show (0 : Int32) = nI 0 from rfl, nI_eq (by omega) (by decide)] at t4; simp [s_slant, t4], rfl, rfl⟩
  · refine xt_iload_n _ dX2_slantStops_7 rfl ?_
    refine xt_aload_n _ dX2_slantStops_8 rfl ?_
    refine xt_geti dX2_slantStops_9 kfX2_34 (by first | rfl | assumption) rfl ?_
    refine xt_irem dX2_slantStops_12 (by assumption) ?_
    refine xt_if_ne 20 dX2_slantStops_13 (by decide) (fun t13 => ?_) (fun f13 => ?_)
    · refine xt_iconst (0) dX2_slantStops_20 (by decide) ?_
      exact xt_iret .boolean dX2_slantStops_21 rfl (by first | rfl | assumption) ⟨by rw [e2, show (0 : Int32) = nI 0 from rfl, nI_eq (by omega) (by decide)] at f4; rw [e2, pk_rem (by omega) (by omega) (by omega), show (0 : Int32) = nI 0 from rfl, nI_eq (by have := Nat.mod_lt t (show F 2 > 0 by omega); omega) (by decide)] at t13; simp [s_slant, f4, t13], rfl, rfl⟩
    · refine xt_iconst (1) dX2_slantStops_16 (by decide) ?_
      refine xt_goto 21 dX2_slantStops_17 (by decide) ?_
      exact xt_iret .boolean dX2_slantStops_21 rfl (by first | rfl | assumption) ⟨by rw [e2, show (0 : Int32) = nI 0 from rfl, nI_eq (by omega) (by decide)] at f4; rw [e2, pk_rem (by omega) (by omega) (by omega), show (0 : Int32) = nI 0 from rfl, nI_eq (by have := Nat.mod_lt t (show F 2 > 0 by omega); omega) (by decide)] at f13; simp [s_slant, f4, f13], rfl, rfl⟩
end FAIRM
