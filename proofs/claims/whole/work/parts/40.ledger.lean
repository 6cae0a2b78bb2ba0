/-! LOGS: the class's half -/
/-- does a HEART stop for KINDS -/
def s_ha (h k : Nat) : Bool := decide (¬ nI h &&& nI k = 0)
def s_lie (L : Nat → Nat) (j h : Nat) : Bool := decide (¬ (if s_ha h (L (3 + 2 * j)) then 1 else 0) = L (2 + 2 * j))
abbrev s_lc (L : Nat → Nat) (h : Nat) : Nat := s_cnt (fun j => s_lie L j h) (L 1)
abbrev s_ft (L : Nat → Nat) : Nat → Bool := fun h => decide (s_lc L h ≤ L 0)
theorem s_bits_orL {p : Nat → Bool} {m : Nat} (hm : m < 64) (hp : p m = true) : lN (s_bits p m) ||| ((1 : Int64) <<< ((nI m).toInt64 &&& 63)) = lN (s_bits p (m + 1)) := by
  have h1 := s_bits_lt p m
  have h2 : 2 ^ m < 2 ^ 64 := Nat.pow_lt_pow_right (by decide) hm
  rw [show (1 : Int64) = lN 1 from rfl, wb_shl 1 hm, Nat.one_mul, wb_or (by omega) h2]
  have h3 := Nat.two_pow_add_eq_or_of_lt h1 1
  rw [Nat.mul_one] at h3
  rw [s_bits, hp, if_pos rfl, Nat.add_comm, h3, Nat.or_comm]
theorem s_bits_all : ∀ n, s_bits (fun _ => true) n + 1 = 2 ^ n
  | 0 => rfl
  | n + 1 => by
    have := s_bits_all n
    rw [s_bits, if_pos rfl, Nat.pow_succ]; omega
theorem s_andn (p q : Nat → Bool) {n : Nat} (hn : n ≤ 8) : nI (s_bits p n) &&& (nI (s_bits q n) ^^^ (-1)) = nI (s_bits (fun i => p i && !q i) n) := by
  have h1 := s_bits_lt p n
  have h2 := s_bits_lt q n
  have h3 := s_bits_lt (fun i => p i && !q i) n
  have h4 : 2 ^ n ≤ 2 ^ 8 := Nat.pow_le_pow_right (by decide) hn
  apply Int32.toBitVec_inj.mp
  apply BitVec.eq_of_getLsbD_eq
  intro i hi
  have hb : ∀ a, (nI a).toBitVec.getLsbD i = a.testBit i := fun a => by
    show (BitVec.ofNat 32 a).getLsbD i = a.testBit i
    rw [BitVec.getLsbD_ofNat]; simp [hi]
  rw [Int32.toBitVec_and, Int32.toBitVec_xor, BitVec.getLsbD_and, BitVec.getLsbD_xor, hb, hb, hb, s_bits_bit, s_bits_bit, s_bits_bit]
  have hm : (-1 : Int32).toBitVec.getLsbD i = true := by
    rw [show (-1 : Int32).toBitVec = BitVec.allOnes 32 from by decide, BitVec.getLsbD_allOnes]; simpa using hi
  rw [hm]
  by_cases hin : i < n
  · simp [hin]
  · simp [hin]
def s_mnn (v : Nat → Nat) : Nat → Nat
  | 0 => 8
  | n + 1 => min (s_mnn v n) (v n)
theorem s_mnn_le (v : Nat → Nat) : ∀ n, s_mnn v n ≤ 8
  | 0 => Nat.le_refl _
  | n + 1 => by have := s_mnn_le v n; rw [s_mnn]; omega
/-- over those that have p, from a -/
def s_fd (f : Nat → Nat → Nat) (a : Nat) (p : Nat → Bool) : Nat → Nat
  | 0 => a
  | n + 1 => if p n then f (s_fd f a p n) n else s_fd f a p n
theorem s_fd_y {f : Nat → Nat → Nat} {a : Nat} {p : Nat → Bool} {n : Nat} (h : p n = true) : s_fd f a p (n + 1) = f (s_fd f a p n) n := by rw [s_fd, if_pos h]
theorem s_fd_n {f : Nat → Nat → Nat} {a : Nat} {p : Nat → Bool} {n : Nat} (h : p n = false) : s_fd f a p (n + 1) = s_fd f a p n := by rw [s_fd, h]; rfl
abbrev s_f1 (K : Nat) : Nat → Nat → Nat := fun a h => a + (if s_ha h K then 1 else 0)
abbrev s_stp (p : Nat → Bool) (K : Nat) : Nat := s_fd (s_f1 K) 0 p 64
theorem s_fd1_le (p : Nat → Bool) (K : Nat) : ∀ n, s_fd (s_f1 K) 0 p n ≤ s_cnt p n
  | 0 => Nat.le_refl _
  | n + 1 => by
    have := s_fd1_le p K n
    rw [s_fd, s_cnt]
    by_cases h : p n = true
    · rw [if_pos h, if_pos h]; show _ + (if s_ha n K then 1 else 0) ≤ _; split <;> omega
    · rw [if_neg h, if_neg h]; omega
abbrev s_f2 : Nat → Nat → Nat := fun a h => min a (s_pop h)
abbrev s_f3 : Nat → Nat → Nat := fun a h => max a (s_pop h + 1)
theorem s_pop6 : ∀ h, h < 64 → s_pop h ≤ 6 := by decide +kernel
theorem s_fd2_le (p : Nat → Bool) : ∀ n, s_fd s_f2 6 p n ≤ 6
  | 0 => Nat.le_refl _
  | n + 1 => by
    have := s_fd2_le p n
    rw [s_fd]; split
    · show min _ _ ≤ 6; omega
    · omega
theorem s_fd3_le (p : Nat → Bool) : ∀ n, n ≤ 64 → s_fd s_f3 0 p n ≤ 7
  | 0, _ => by show 0 ≤ 7; decide
  | n + 1, h => by
    have := s_fd3_le p n (by omega)
    have := s_pop6 n (by omega)
    rw [s_fd]; split
    · show max _ _ ≤ 7; omega
    · omega
/-- the i-th that has p -/
def s_gi (p : Nat → Bool) : Nat → Nat → Nat
  | 0, _ => 0
  | n + 1, i => if p n = true ∧ s_cnt p n = i then n else s_gi p n i
theorem s_cnt_mn (p : Nat → Bool) (a : Nat) : ∀ b, s_cnt p a ≤ s_cnt p (a + b)
  | 0 => Nat.le_refl _
  | b + 1 => by have := s_cnt_mn p a b; rw [← Nat.add_assoc, s_cnt]; omega
theorem s_cnt_m2 (p : Nat → Bool) {a b : Nat} (h : a ≤ b) : s_cnt p a ≤ s_cnt p b := by
  obtain ⟨c, rfl⟩ : ∃ c, b = a + c := ⟨b - a, by omega⟩
  exact s_cnt_mn p a c
theorem s_cnt_lt (p : Nat → Bool) {a b : Nat} (h : a < b) (hp : p a = true) : s_cnt p a < s_cnt p b := by
  have h1 : s_cnt p (a + 1) = s_cnt p a + 1 := by rw [s_cnt, if_pos hp]
  have h2 := s_cnt_m2 p (show a + 1 ≤ b from h)
  omega
theorem s_gi_at (p : Nat → Bool) {h : Nat} (hp : p h = true) : ∀ n, h < n → s_gi p n (s_cnt p h) = h
  | 0, hn => absurd hn (by omega)
  | n + 1, hn => by
    rw [s_gi]
    by_cases e : h = n
    · subst e; rw [if_pos ⟨hp, rfl⟩]
    · have hlt := s_cnt_lt p (show h < n by omega) hp
      rw [if_neg (fun z => by omega), s_gi_at p hp n (by omega)]
theorem s_gi_st (p : Nat → Bool) {n i : Nat} (hi : i < s_cnt p n) : s_gi p (n + 1) i = s_gi p n i := by
  rw [s_gi, if_neg (fun z => by omega)]
theorem s_gi_lt (p : Nat → Bool) : ∀ n i, 0 < n → s_gi p n i < n
  | 0, _, h => absurd h (by decide)
  | n + 1, i, _ => by
    rw [s_gi]; split
    · omega
    · rcases Nat.eq_zero_or_pos n with h | h
      · subst h; rw [s_gi]; decide
      · have := s_gi_lt p n i h; omega
def s_fi (f : Nat → Nat → Nat) (a : Nat) (g : Nat → Nat) : Nat → Nat
  | 0 => a
  | i + 1 => f (s_fi f a g i) (g i)
theorem s_fi_cg {f : Nat → Nat → Nat} {a : Nat} {g g' : Nat → Nat} : ∀ n, (∀ i, i < n → g i = g' i) → s_fi f a g n = s_fi f a g' n
  | 0, _ => rfl
  | n + 1, h => by rw [s_fi, s_fi, s_fi_cg n (fun i hi => h i (by omega)), h n (by omega)]
theorem s_fi_fd (f : Nat → Nat → Nat) (a : Nat) (p : Nat → Bool) : ∀ n, s_fi f a (s_gi p n) (s_cnt p n) = s_fd f a p n
  | 0 => rfl
  | n + 1 => by
    by_cases h : p n = true
    · have e : s_cnt p (n + 1) = s_cnt p n + 1 := by rw [s_cnt, if_pos h]
      rw [e, s_fi, s_fd, if_pos h, s_fi_cg (s_cnt p n) (fun i hi => s_gi_st p hi), s_fi_fd f a p n, s_gi, if_pos ⟨h, rfl⟩]
    · have e : s_cnt p (n + 1) = s_cnt p n := by rw [s_cnt, if_neg h]; rfl
      rw [e, s_fd, if_neg h, s_fi_cg (s_cnt p n) (fun i hi => s_gi_st p hi), s_fi_fd f a p n]
theorem lN_bits0 (p : Nat → Bool) : lN (s_bits p 64) = 0 ↔ s_cnt p 64 = 0 := by
  rw [← s_bits_cnt0]
  constructor
  · intro h
    have h1 := wb_tn (s_bits_lt p 64)
    rw [h] at h1
    rw [← h1]; decide
  · intro h; rw [h]; rfl
theorem s_max_nI {a b : Nat} (ha : a < 2 ^ 31) (hb : b < 2 ^ 31) : (if nI a < nI b then nI b else nI a) = nI (max a b) := by
  by_cases h : a < b
  · rw [if_pos (nI_lt h hb), Nat.max_eq_right (by omega)]
  · rw [if_neg (nI_nlt (by omega) ha), Nat.max_eq_left (by omega)]
section LEDGER
variable (sc : Nat × (Nat → Int32)) (d : Nat) (μ : x_Me) (w : Int64)
set_option maxHeartbeats 1000000 in
theorem tX4_isLie {k : Nat} {L : Nat → Nat} (hS : l_S k) (hW : l_W L) (hC : l_C μ k L) (j h : Nat) (hj : j < L 1) : x_K sc (d + 1) mX4_isLie [.ref k, .int (nI j), .int (nI h)] μ w (x_p (some (.int (if s_lie L j h then 1 else 0))) μ w) := by
  have h8 := hW.2.1
  have hb := hW.2.2 j hj
  refine x_K.of (by decide) (Nat.le_of_ble_eq_true rfl) ?_
  show x_T sc (d + 1) mX4_isLie 0 [.ref k, .int (nI j), .int (nI h), .retAddr 0] [] μ w _
  refine xt_iload_n _ dX4_isLie_0 rfl ?_
  refine xt_aload_n _ dX4_isLie_1 rfl ?_
  refine xt_getr _ dX4_isLie_2 kfX4_15 (by first | exact hS.1 | rfl | assumption) rfl ?_
  refine xt_iload_n _ dX4_isLie_5 rfl ?_
  refine xt_cS _ dX4_isLie_6 klX4_37 (tX8_at sc _ μ w (k := k + 2) (n := 8) hS.2.2 (by decide) _) rfl rfl (Nat.le_of_ble_eq_true rfl) ?_
  rw [s_at_ix (j := j) (by omega) (by decide) rfl, (hC.2.2 j hj).2]
  refine xt_iand dX4_isLie_9 ?_
  refine xt_if_eq 17 dX4_isLie_10 (by decide) (fun t10 => ?_) (fun f10 => ?_)
  · refine xt_iconst (0) dX4_isLie_17 (by decide) ?_
    refine xt_istore_n dX4_isLie_18 (by decide) rfl ?_
    change x_T _ _ _ _ [_, _, _, _] _ _ _ _
    refine xt_iload_n _ dX4_isLie_19 rfl ?_
    refine xt_aload_n _ dX4_isLie_20 rfl ?_
    refine xt_getr _ dX4_isLie_21 kfX4_9 (by first | exact hS.1 | rfl | assumption) rfl ?_
    refine xt_iload_n _ dX4_isLie_24 rfl ?_
    refine xt_cS _ dX4_isLie_25 klX4_37 (tX8_at sc _ μ w (k := k + 1) (n := 8) hS.2.1 (by decide) _) rfl rfl (Nat.le_of_ble_eq_true rfl) ?_
    rw [s_at_ix (j := j) (by omega) (by decide) rfl, (hC.2.2 j hj).1]
    refine xt_icmp_eq 35 dX4_isLie_28 (by decide) (fun t28 => ?_) (fun f28 => ?_)
    · have n28 : 0 = L (2 + 2 * j) := (nI_eq (a := 0) (b := L (2 + 2 * j)) (by omega) (by omega)).mp t28
      refine xt_iconst (0) dX4_isLie_35 (by decide) ?_
      exact xt_iret .boolean dX4_isLie_36 rfl (by first | rfl | assumption) ⟨by have hha : s_ha h (L (3 + 2 * j)) = false := decide_eq_false (fun z => z t10); rw [show s_lie L j h = false from decide_eq_false (fun z => z (by rw [hha]; exact n28))]; rfl, rfl, rfl⟩
    · have n28 : ¬ (0 = L (2 + 2 * j)) := fun z => f28 ((nI_eq (a := 0) (b := L (2 + 2 * j)) (by omega) (by omega)).mpr z)
      refine xt_iconst (1) dX4_isLie_31 (by decide) ?_
      refine xt_goto 36 dX4_isLie_32 (by decide) ?_
      exact xt_iret .boolean dX4_isLie_36 rfl (by first | rfl | assumption) ⟨by have hha : s_ha h (L (3 + 2 * j)) = false := decide_eq_false (fun z => z t10); rw [show s_lie L j h = true from decide_eq_true (fun z => n28 (by rw [hha] at z; exact z))]; rfl, rfl, rfl⟩
  · refine xt_iconst (1) dX4_isLie_13 (by decide) ?_
    refine xt_goto 18 dX4_isLie_14 (by decide) ?_
    refine xt_istore_n dX4_isLie_18 (by decide) rfl ?_
    change x_T _ _ _ _ [_, _, _, _] _ _ _ _
    refine xt_iload_n _ dX4_isLie_19 rfl ?_
    refine xt_aload_n _ dX4_isLie_20 rfl ?_
    refine xt_getr _ dX4_isLie_21 kfX4_9 (by first | exact hS.1 | rfl | assumption) rfl ?_
    refine xt_iload_n _ dX4_isLie_24 rfl ?_
    refine xt_cS _ dX4_isLie_25 klX4_37 (tX8_at sc _ μ w (k := k + 1) (n := 8) hS.2.1 (by decide) _) rfl rfl (Nat.le_of_ble_eq_true rfl) ?_
    rw [s_at_ix (j := j) (by omega) (by decide) rfl, (hC.2.2 j hj).1]
    refine xt_icmp_eq 35 dX4_isLie_28 (by decide) (fun t28 => ?_) (fun f28 => ?_)
    · have n28 : 1 = L (2 + 2 * j) := (nI_eq (a := 1) (b := L (2 + 2 * j)) (by omega) (by omega)).mp t28
      refine xt_iconst (0) dX4_isLie_35 (by decide) ?_
      exact xt_iret .boolean dX4_isLie_36 rfl (by first | rfl | assumption) ⟨by have hha : s_ha h (L (3 + 2 * j)) = true := decide_eq_true f10; rw [show s_lie L j h = false from decide_eq_false (fun z => z (by rw [hha]; exact n28))]; rfl, rfl, rfl⟩
    · have n28 : ¬ (1 = L (2 + 2 * j)) := fun z => f28 ((nI_eq (a := 1) (b := L (2 + 2 * j)) (by omega) (by omega)).mpr z)
      refine xt_iconst (1) dX4_isLie_31 (by decide) ?_
      refine xt_goto 36 dX4_isLie_32 (by decide) ?_
      exact xt_iret .boolean dX4_isLie_36 rfl (by first | rfl | assumption) ⟨by have hha : s_ha h (L (3 + 2 * j)) = true := decide_eq_true f10; rw [show s_lie L j h = true from decide_eq_true (fun z => n28 (by rw [hha] at z; exact z))]; rfl, rfl, rfl⟩
set_option maxHeartbeats 1000000 in
theorem tX4_liesBy {k : Nat} {L : Nat → Nat} (hS : l_S k) (hW : l_W L) (hC : l_C μ k L) (h : Nat) : x_K sc (d + 2) mX4_liesBy [.ref k, .int (nI h)] μ w (x_p (some (.int (nI (s_lc L h)))) μ w) := by
  have h8 := hW.2.1
  have e1 : μ k 1 = nI (L 1) := hC.2.1
  refine x_K.of (by decide) (Nat.le_of_ble_eq_true rfl) ?_
  show x_T sc (d + 2) mX4_liesBy 0 [.ref k, .int (nI h), .retAddr 0, .retAddr 0] [] μ w _
  refine xt_iconst (0) dX4_liesBy_0 (by decide) ?_
  refine xt_istore_n dX4_liesBy_1 (by decide) rfl ?_
  change x_T _ _ _ _ [_, _, _, _] _ _ _ _
  refine xt_iconst (0) dX4_liesBy_2 (by decide) ?_
  refine xt_istore_n dX4_liesBy_3 (by decide) rfl ?_
  change x_T _ _ _ _ [_, _, _, _] _ _ _ _
  have L4 : ∀ (n4 m : Nat) , m + n4 = L 1 → x_T sc (d + 2) mX4_liesBy 4 [.ref k, .int (nI h), .int (nI (s_cnt (fun j => s_lie L j h) m)), .int (nI m)] [] μ w (x_p (some (.int (nI (s_lc L h)))) μ w) := by
    intro n4
    induction n4 with
    | zero =>
      intro m  hmn
      obtain rfl : L 1 = m := by omega
      refine xt_iload_n _ dX4_liesBy_4 rfl ?_
      refine xt_aload_n _ dX4_liesBy_5 rfl ?_
      refine xt_geti dX4_liesBy_6 kfX4_22 (by first | exact hS.1 | rfl | assumption) rfl ?_
      refine xt_icmp_ge 30 dX4_liesBy_9 (by decide) (fun _ => ?_) (fun q => absurd (by rw [e1]; exact Int32.le_refl _) q)
      refine xt_iload_n _ dX4_liesBy_30 rfl ?_
      exact xt_iret .int dX4_liesBy_31 rfl (by first | rfl | assumption) ⟨rfl, rfl, rfl⟩
    | succ n4 ih4 =>
      intro m  hmn
      have hlt : m < L 1 := by omega
      refine xt_iload_n _ dX4_liesBy_4 rfl ?_
      refine xt_aload_n _ dX4_liesBy_5 rfl ?_
      refine xt_geti dX4_liesBy_6 kfX4_22 (by first | exact hS.1 | rfl | assumption) rfl ?_
      refine xt_icmp_ge 30 dX4_liesBy_9 (by decide) (fun q => absurd q (by rw [e1]; exact nI_ge hlt (by omega))) (fun _ => ?_)
      refine xt_aload_n _ dX4_liesBy_12 rfl ?_
      refine xt_iload_n _ dX4_liesBy_13 rfl ?_
      refine xt_iload_n _ dX4_liesBy_14 rfl ?_
      refine xt_cV _ dX4_liesBy_15 klX4_41 (tX4_isLie sc _ μ w hS hW hC m h hlt) hS.1 rfl rfl (Nat.le_of_ble_eq_true rfl) ?_
      refine xt_if_eq 24 dX4_liesBy_18 (by decide) (fun t18 => ?_) (fun f18 => ?_)
      · refine xt_inc _ (1) dX4_liesBy_24 rfl (by decide) (by decide) rfl ?_
        change x_T _ _ _ _ [_, _, _, _] _ _ _ _
        refine xt_goto 4 dX4_liesBy_27 (by decide) ?_
        have hb : s_lie L m h = false := by cases hq : s_lie L m h <;> simp_all
        refine x_T.ls ?_ (ih4 (m + 1) (by omega))
        rw [show s_cnt (fun j => s_lie L j h) (m + 1) = s_cnt (fun j => s_lie L j h) m by rw [s_cnt, hb]; rfl, nI_succ m]
      · refine xt_inc _ (1) dX4_liesBy_21 rfl (by decide) (by decide) rfl ?_
        change x_T _ _ _ _ [_, _, _, _] _ _ _ _
        refine xt_inc _ (1) dX4_liesBy_24 rfl (by decide) (by decide) rfl ?_
        change x_T _ _ _ _ [_, _, _, _] _ _ _ _
        refine xt_goto 4 dX4_liesBy_27 (by decide) ?_
        have hb : s_lie L m h = true := by cases hq : s_lie L m h <;> simp_all
        refine x_T.ls ?_ (ih4 (m + 1) (by omega))
        rw [show s_cnt (fun j => s_lie L j h) (m + 1) = s_cnt (fun j => s_lie L j h) m + 1 by rw [s_cnt, hb]; rfl, nI_succ m, nI_succ (s_cnt _ m)]
  exact L4 (L 1) 0  (by omega)
set_option maxHeartbeats 1000000 in
theorem tX4_fitting {k : Nat} {L : Nat → Nat} (hS : l_S k) (hW : l_W L) (hC : l_C μ k L) : x_K sc (d + 3) mX4_fitting [.ref k] μ w (x_p (some (.long (lN (s_bits (s_ft L) 64)))) μ w) := by
  have h8 := hW.2.1
  have h08 := hW.1
  have e0 : μ k 0 = nI (L 0) := hC.1
  refine x_K.of (by decide) (Nat.le_of_ble_eq_true rfl) ?_
  show x_T sc (d + 3) mX4_fitting 0 [.ref k, .retAddr 0, .retAddr 0, .retAddr 0] [] μ w _
  refine xt_lconst (0) dX4_fitting_0 (by decide) ?_
  refine xt_lstore_n dX4_fitting_1 (by decide) rfl ?_
  change x_T _ _ _ _ [_, _, _, _] _ _ _ _
  refine xt_iconst (0) dX4_fitting_2 (by decide) ?_
  refine xt_istore_n dX4_fitting_3 (by decide) rfl ?_
  change x_T _ _ _ _ [_, _, _, _] _ _ _ _
  have L4 : ∀ (n4 m : Nat) , m + n4 = 64 → x_T sc (d + 3) mX4_fitting 4 [.ref k, .long (lN (s_bits (s_ft L) m)), .retAddr 0, .int (nI m)] [] μ w (x_p (some (.long (lN (s_bits (s_ft L) 64)))) μ w) := by
    intro n4
    induction n4 with
    | zero =>
      intro m  hmn
      obtain rfl : 64 = m := by omega
      refine xt_iload_n _ dX4_fitting_4 rfl ?_
      refine xt_bipush (64) dX4_fitting_5 (by decide) ?_
      refine xt_icmp_ge 34 dX4_fitting_7 (by decide) (fun _ => ?_) (fun q => absurd (by decide) q)
      refine xt_lload_n _ dX4_fitting_34 rfl ?_
      exact xt_lret dX4_fitting_35 rfl ⟨rfl, rfl, rfl⟩
    | succ n4 ih4 =>
      intro m  hmn
      have hlt : m < 64 := by omega
      have hlc : s_lc L m ≤ L 1 := s_cnt_le _ _
      refine xt_iload_n _ dX4_fitting_4 rfl ?_
      refine xt_bipush (64) dX4_fitting_5 (by decide) ?_
      refine xt_icmp_ge 34 dX4_fitting_7 (by decide) (fun q => absurd q (nI_ge (b := 64) hlt (by decide))) (fun _ => ?_)
      refine xt_aload_n _ dX4_fitting_10 rfl ?_
      refine xt_iload_n _ dX4_fitting_11 rfl ?_
      refine xt_cV _ dX4_fitting_12 klX4_45 (tX4_liesBy sc _ μ w hS hW hC m) hS.1 rfl rfl (Nat.le_of_ble_eq_true rfl) ?_
      refine xt_aload_n _ dX4_fitting_15 rfl ?_
      refine xt_geti dX4_fitting_16 kfX4_18 (by first | exact hS.1 | rfl | assumption) rfl ?_
      rw [e0]
      refine xt_icmp_gt 28 dX4_fitting_19 (by decide) (fun t19 => ?_) (fun f19 => ?_)
      · have n19 : L 0 < s_lc L m := (nI_ltI (a := L 0) (b := s_lc L m) (by omega) (by omega)).mp t19
        refine xt_inc _ (1) dX4_fitting_28 rfl (by decide) (by decide) rfl ?_
        change x_T _ _ _ _ [_, _, _, _] _ _ _ _
        refine xt_goto 4 dX4_fitting_31 (by decide) ?_
        refine x_T.ls ?_ (ih4 (m + 1) (by omega))
        rw [s_bits_no (p := s_ft L) (decide_eq_false (by omega)), nI_succ m]
      · have n19 : ¬ (L 0 < s_lc L m) := fun z => f19 ((nI_ltI (a := L 0) (b := s_lc L m) (by omega) (by omega)).mpr z)
        refine xt_lload_n _ dX4_fitting_22 rfl ?_
        refine xt_lconst (1) dX4_fitting_23 (by decide) ?_
        refine xt_iload_n _ dX4_fitting_24 rfl ?_
        refine xt_lshl dX4_fitting_25 ?_
        refine xt_lor dX4_fitting_26 ?_
        refine xt_lstore_n dX4_fitting_27 (by decide) rfl ?_
        change x_T _ _ _ _ [_, _, _, _] _ _ _ _
        refine xt_inc _ (1) dX4_fitting_28 rfl (by decide) (by decide) rfl ?_
        change x_T _ _ _ _ [_, _, _, _] _ _ _ _
        refine xt_goto 4 dX4_fitting_31 (by decide) ?_
        refine x_T.ls ?_ (ih4 (m + 1) (by omega))
        rw [s_bits_orL (p := s_ft L) hlt (decide_eq_true (by omega)), nI_succ m]
  exact L4 (64) 0  (by omega)
set_option maxHeartbeats 1000000 in
theorem tX4_fewestLies {k : Nat} {L : Nat → Nat} (hS : l_S k) (hW : l_W L) (hC : l_C μ k L) : x_K sc (d + 3) mX4_fewestLies [.ref k] μ w (x_p (some (.int (nI (s_mnn (s_lc L) 64)))) μ w) := by
  have h8 := hW.2.1
  refine x_K.of (by decide) (Nat.le_of_ble_eq_true rfl) ?_
  show x_T sc (d + 3) mX4_fewestLies 0 [.ref k, .retAddr 0, .retAddr 0] [] μ w _
  refine xt_bipush (8) dX4_fewestLies_0 (by decide) ?_
  refine xt_istore_n dX4_fewestLies_2 (by decide) rfl ?_
  change x_T _ _ _ _ [_, _, _] _ _ _ _
  refine xt_iconst (0) dX4_fewestLies_3 (by decide) ?_
  refine xt_istore_n dX4_fewestLies_4 (by decide) rfl ?_
  change x_T _ _ _ _ [_, _, _] _ _ _ _
  have L5 : ∀ (n5 m : Nat) , m + n5 = 64 → x_T sc (d + 3) mX4_fewestLies 5 [.ref k, .int (nI (s_mnn (s_lc L) m)), .int (nI m)] [] μ w (x_p (some (.int (nI (s_mnn (s_lc L) 64)))) μ w) := by
    intro n5
    induction n5 with
    | zero =>
      intro m  hmn
      obtain rfl : 64 = m := by omega
      refine xt_iload_n _ dX4_fewestLies_5 rfl ?_
      refine xt_bipush (64) dX4_fewestLies_6 (by decide) ?_
      refine xt_icmp_ge 27 dX4_fewestLies_8 (by decide) (fun _ => ?_) (fun q => absurd (by decide) q)
      refine xt_iload_n _ dX4_fewestLies_27 rfl ?_
      exact xt_iret .int dX4_fewestLies_28 rfl (by first | rfl | assumption) ⟨rfl, rfl, rfl⟩
    | succ n5 ih5 =>
      intro m  hmn
      have hlt : m < 64 := by omega
      have hlc : s_lc L m ≤ L 1 := s_cnt_le _ _
      have hmn := s_mnn_le (s_lc L) m
      refine xt_iload_n _ dX4_fewestLies_5 rfl ?_
      refine xt_bipush (64) dX4_fewestLies_6 (by decide) ?_
      refine xt_icmp_ge 27 dX4_fewestLies_8 (by decide) (fun q => absurd q (nI_ge (b := 64) hlt (by decide))) (fun _ => ?_)
      refine xt_iload_n _ dX4_fewestLies_11 rfl ?_
      refine xt_aload_n _ dX4_fewestLies_12 rfl ?_
      refine xt_iload_n _ dX4_fewestLies_13 rfl ?_
      refine xt_cV _ dX4_fewestLies_14 klX4_45 (tX4_liesBy sc _ μ w hS hW hC m) hS.1 rfl rfl (Nat.le_of_ble_eq_true rfl) ?_
      refine xt_mmin dX4_fewestLies_17 kmX4_49 (Nat.le_of_ble_eq_true rfl) ?_
      refine xt_istore_n dX4_fewestLies_20 (by decide) rfl ?_
      change x_T _ _ _ _ [_, _, _] _ _ _ _
      refine xt_inc _ (1) dX4_fewestLies_21 rfl (by decide) (by decide) rfl ?_
      change x_T _ _ _ _ [_, _, _] _ _ _ _
      refine xt_goto 5 dX4_fewestLies_24 (by decide) ?_
      refine x_T.ls ?_ (ih5 (m + 1) (by omega))
      rw [s_min_nI (by omega) (by omega), nI_succ m]
      rfl
  exact L5 (64) 0  (by omega)
set_option maxHeartbeats 1000000 in
theorem tX4_liesBits {k : Nat} {L : Nat → Nat} (hS : l_S k) (hW : l_W L) (hC : l_C μ k L) (h : Nat) : x_K sc (d + 2) mX4_liesBits [.ref k, .int (nI h)] μ w (x_p (some (.int (nI (s_bits (fun j => s_lie L j h) (L 1))))) μ w) := by
  have h8 := hW.2.1
  have e1 : μ k 1 = nI (L 1) := hC.2.1
  refine x_K.of (by decide) (Nat.le_of_ble_eq_true rfl) ?_
  show x_T sc (d + 2) mX4_liesBits 0 [.ref k, .int (nI h), .retAddr 0, .retAddr 0] [] μ w _
  refine xt_iconst (0) dX4_liesBits_0 (by decide) ?_
  refine xt_istore_n dX4_liesBits_1 (by decide) rfl ?_
  change x_T _ _ _ _ [_, _, _, _] _ _ _ _
  refine xt_iconst (0) dX4_liesBits_2 (by decide) ?_
  refine xt_istore_n dX4_liesBits_3 (by decide) rfl ?_
  change x_T _ _ _ _ [_, _, _, _] _ _ _ _
  have L4 : ∀ (n4 m : Nat) , m + n4 = L 1 → x_T sc (d + 2) mX4_liesBits 4 [.ref k, .int (nI h), .int (nI (s_bits (fun j => s_lie L j h) m)), .int (nI m)] [] μ w (x_p (some (.int (nI (s_bits (fun j => s_lie L j h) (L 1))))) μ w) := by
    intro n4
    induction n4 with
    | zero =>
      intro m  hmn
      obtain rfl : L 1 = m := by omega
      refine xt_iload_n _ dX4_liesBits_4 rfl ?_
      refine xt_aload_n _ dX4_liesBits_5 rfl ?_
      refine xt_geti dX4_liesBits_6 kfX4_22 (by first | exact hS.1 | rfl | assumption) rfl ?_
      refine xt_icmp_ge 33 dX4_liesBits_9 (by decide) (fun _ => ?_) (fun q => absurd (by rw [e1]; exact Int32.le_refl _) q)
      refine xt_iload_n _ dX4_liesBits_33 rfl ?_
      exact xt_iret .int dX4_liesBits_34 rfl (by first | rfl | assumption) ⟨rfl, rfl, rfl⟩
    | succ n4 ih4 =>
      intro m  hmn
      have hlt : m < L 1 := by omega
      refine xt_iload_n _ dX4_liesBits_4 rfl ?_
      refine xt_aload_n _ dX4_liesBits_5 rfl ?_
      refine xt_geti dX4_liesBits_6 kfX4_22 (by first | exact hS.1 | rfl | assumption) rfl ?_
      refine xt_icmp_ge 33 dX4_liesBits_9 (by decide) (fun q => absurd q (by rw [e1]; exact nI_ge hlt (by omega))) (fun _ => ?_)
      refine xt_aload_n _ dX4_liesBits_12 rfl ?_
      refine xt_iload_n _ dX4_liesBits_13 rfl ?_
      refine xt_iload_n _ dX4_liesBits_14 rfl ?_
      refine xt_cV _ dX4_liesBits_15 klX4_41 (tX4_isLie sc _ μ w hS hW hC m h hlt) hS.1 rfl rfl (Nat.le_of_ble_eq_true rfl) ?_
      refine xt_if_eq 27 dX4_liesBits_18 (by decide) (fun t18 => ?_) (fun f18 => ?_)
      · refine xt_inc _ (1) dX4_liesBits_27 rfl (by decide) (by decide) rfl ?_
        change x_T _ _ _ _ [_, _, _, _] _ _ _ _
        refine xt_goto 4 dX4_liesBits_30 (by decide) ?_
        have hb : s_lie L m h = false := by cases hq : s_lie L m h <;> simp_all
        refine x_T.ls ?_ (ih4 (m + 1) (by omega))
        rw [s_bits_no (p := (fun j => s_lie L j h)) hb, nI_succ m]
      · refine xt_iload_n _ dX4_liesBits_21 rfl ?_
        refine xt_iconst (1) dX4_liesBits_22 (by decide) ?_
        refine xt_iload_n _ dX4_liesBits_23 rfl ?_
        refine xt_ishl dX4_liesBits_24 ?_
        refine xt_ior dX4_liesBits_25 ?_
        refine xt_istore_n dX4_liesBits_26 (by decide) rfl ?_
        change x_T _ _ _ _ [_, _, _, _] _ _ _ _
        refine xt_inc _ (1) dX4_liesBits_27 rfl (by decide) (by decide) rfl ?_
        change x_T _ _ _ _ [_, _, _, _] _ _ _ _
        refine xt_goto 4 dX4_liesBits_30 (by decide) ?_
        have hb : s_lie L m h = true := by cases hq : s_lie L m h <;> simp_all
        refine x_T.ls ?_ (ih4 (m + 1) (by omega))
        rw [← s_bits_or (p := (fun j => s_lie L j h)) (g := m) (by omega) hb, nI_succ m]
  exact L4 (L 1) 0  (by omega)
set_option maxHeartbeats 1000000 in
theorem tX4_needless {k : Nat} {L : Nat → Nat} (hS : l_S k) (hW : l_W L) (hC : l_C μ k L) : x_K sc (d + 3) mX4_needless [.ref k] μ w (x_p (some (.int (nI (s_bits (fun j => s_al (fun h => !(decide (s_lc L h = L 0 + 1) && s_lie L j h)) 64) (L 1))))) μ w) := by
  have h8 := hW.2.1
  have h08 := hW.1
  have e0 : μ k 0 = nI (L 0) := hC.1
  have e1 : μ k 1 = nI (L 1) := hC.2.1
  refine x_K.of (by decide) (Nat.le_of_ble_eq_true rfl) ?_
  show x_T sc (d + 3) mX4_needless 0 [.ref k, .retAddr 0, .retAddr 0] [] μ w _
  refine xt_iconst (1) dX4_needless_0 (by decide) ?_
  refine xt_aload_n _ dX4_needless_1 rfl ?_
  refine xt_geti dX4_needless_2 kfX4_22 (by first | exact hS.1 | rfl | assumption) rfl ?_
  refine xt_ishl dX4_needless_5 ?_
  refine xt_iconst (1) dX4_needless_6 (by decide) ?_
  refine xt_isub dX4_needless_7 ?_
  refine xt_istore_n dX4_needless_8 (by decide) rfl ?_
  change x_T _ _ _ _ [_, _, _] _ _ _ _
  refine xt_iconst (0) dX4_needless_9 (by decide) ?_
  refine xt_istore_n dX4_needless_10 (by decide) rfl ?_
  change x_T _ _ _ _ [_, _, _] _ _ _ _
  have L11 : ∀ (n11 m : Nat) , m + n11 = 64 → x_T sc (d + 3) mX4_needless 11 [.ref k, .int (nI (s_bits (fun j => s_al (fun h => !(decide (s_lc L h = L 0 + 1) && s_lie L j h)) m) (L 1))), .int (nI m)] [] μ w (x_p (some (.int (nI (s_bits (fun j => s_al (fun h => !(decide (s_lc L h = L 0 + 1) && s_lie L j h)) 64) (L 1))))) μ w) := by
    intro n11
    induction n11 with
    | zero =>
      intro m  hmn
      obtain rfl : 64 = m := by omega
      refine xt_iload_n _ dX4_needless_11 rfl ?_
      refine xt_bipush (64) dX4_needless_12 (by decide) ?_
      refine xt_icmp_ge 47 dX4_needless_14 (by decide) (fun _ => ?_) (fun q => absurd (by decide) q)
      refine xt_iload_n _ dX4_needless_47 rfl ?_
      exact xt_iret .int dX4_needless_48 rfl (by first | rfl | assumption) ⟨rfl, rfl, rfl⟩
    | succ n11 ih11 =>
      intro m  hmn
      have hlt : m < 64 := by omega
      have hlc : s_lc L m ≤ L 1 := s_cnt_le _ _
      refine xt_iload_n _ dX4_needless_11 rfl ?_
      refine xt_bipush (64) dX4_needless_12 (by decide) ?_
      refine xt_icmp_ge 47 dX4_needless_14 (by decide) (fun q => absurd q (nI_ge (b := 64) hlt (by decide))) (fun _ => ?_)
      refine xt_aload_n _ dX4_needless_17 rfl ?_
      refine xt_iload_n _ dX4_needless_18 rfl ?_
      refine xt_cV _ dX4_needless_19 klX4_45 (tX4_liesBy sc _ μ w hS hW hC m) hS.1 rfl rfl (Nat.le_of_ble_eq_true rfl) ?_
      refine xt_aload_n _ dX4_needless_22 rfl ?_
      refine xt_geti dX4_needless_23 kfX4_18 (by first | exact hS.1 | rfl | assumption) rfl ?_
      refine xt_iconst (1) dX4_needless_26 (by decide) ?_
      refine xt_iadd dX4_needless_27 ?_
      rw [e0, ← nI_succ]
      refine xt_icmp_ne 41 dX4_needless_28 (by decide) (fun t28 => ?_) (fun f28 => ?_)
      · have n28 : ¬ (s_lc L m = L 0 + 1) := fun z => t28 ((nI_eq (a := s_lc L m) (b := L 0 + 1) (by omega) (by omega)).mpr z)
        refine xt_inc _ (1) dX4_needless_41 rfl (by decide) (by decide) rfl ?_
        change x_T _ _ _ _ [_, _, _] _ _ _ _
        refine xt_goto 11 dX4_needless_44 (by decide) ?_
        refine x_T.ls ?_ (ih11 (m + 1) (by omega))
        rw [nI_succ m, s_bits_cong (p := (fun j => s_al (fun h => !(decide (s_lc L h = L 0 + 1) && s_lie L j h)) (m + 1))) (q := (fun j => s_al (fun h => !(decide (s_lc L h = L 0 + 1) && s_lie L j h)) m)) (fun j _ => by show s_al _ (m + 1) = _; rw [s_al, decide_eq_false n28, Bool.false_and, Bool.not_false, Bool.and_true])]
      · have n28 : s_lc L m = L 0 + 1 := (nI_eq (a := s_lc L m) (b := L 0 + 1) (by omega) (by omega)).mp f28
        refine xt_iload_n _ dX4_needless_31 rfl ?_
        refine xt_aload_n _ dX4_needless_32 rfl ?_
        refine xt_iload_n _ dX4_needless_33 rfl ?_
        refine xt_cV _ dX4_needless_34 klX4_55 (tX4_liesBits sc _ μ w hS hW hC m) hS.1 rfl rfl (Nat.le_of_ble_eq_true rfl) ?_
        refine xt_iconst (-1) dX4_needless_37 (by decide) ?_
        refine xt_ixor dX4_needless_38 ?_
        refine xt_iand dX4_needless_39 ?_
        refine xt_istore_n dX4_needless_40 (by decide) rfl ?_
        change x_T _ _ _ _ [_, _, _] _ _ _ _
        refine xt_inc _ (1) dX4_needless_41 rfl (by decide) (by decide) rfl ?_
        change x_T _ _ _ _ [_, _, _] _ _ _ _
        refine xt_goto 11 dX4_needless_44 (by decide) ?_
        refine x_T.ls ?_ (ih11 (m + 1) (by omega))
        rw [s_andn _ _ h8, nI_succ m, s_bits_cong (p := (fun j => s_al (fun h => !(decide (s_lc L h = L 0 + 1) && s_lie L j h)) (m + 1))) (q := fun j => (fun j => s_al (fun h => !(decide (s_lc L h = L 0 + 1) && s_lie L j h)) m) j && !s_lie L j m) (fun j _ => by show s_al _ (m + 1) = _; rw [s_al, decide_eq_true n28, Bool.true_and])]
  have hall := s_bits_all (L 1)
  refine x_T.ls ?_ (L11 64 0 (by omega))
  rw [e1, x_1sh h8, show (1 : Int32) = nI 1 from rfl, pk_sub (Nat.pow_pos (by decide)), ← hall, Nat.add_sub_cancel]
  rfl
set_option maxHeartbeats 1000000 in
theorem tX4_isIn (x h : Nat) (hx : x < 2 ^ 64) (hh : h < 64) : x_K sc d mX4_isIn [.long (lN x), .int (nI h)] μ w (x_p (some (.int (if x.testBit h then 1 else 0))) μ w) := by
  have hm2 : x / 2 ^ h % 2 < 2 := Nat.mod_lt _ (by decide)
  refine x_K.of (by decide) (Nat.le_of_ble_eq_true rfl) ?_
  show x_T sc d mX4_isIn 0 [.long (lN x), .retAddr 0, .int (nI h)] [] μ w _
  refine xt_lload_n _ dX4_isIn_0 rfl ?_
  refine xt_iload_n _ dX4_isIn_1 rfl ?_
  refine xt_lushr dX4_isIn_2 ?_
  refine xt_lconst (1) dX4_isIn_3 (by decide) ?_
  refine xt_land dX4_isIn_4 ?_
  refine xt_lconst (0) dX4_isIn_5 (by decide) ?_
  refine xt_lcmp dX4_isIn_6 ?_
  rw [wb_bit hx hh]
  refine xt_if_eq 14 dX4_isIn_7 (by decide) (fun t7 => ?_) (fun f7 => ?_)
  · refine xt_iconst (0) dX4_isIn_14 (by decide) ?_
    exact xt_iret .boolean dX4_isIn_15 rfl (by first | rfl | assumption) ⟨by have hz := (x_lN0 (by omega)).mp (x_lcmp0.mp t7); rw [Nat.testBit_eq_decide_div_mod_eq, hz]; rfl, rfl, rfl⟩
  · refine xt_iconst (1) dX4_isIn_10 (by decide) ?_
    refine xt_goto 15 dX4_isIn_11 (by decide) ?_
    exact xt_iret .boolean dX4_isIn_15 rfl (by first | rfl | assumption) ⟨by have hz : ¬ x / 2 ^ h % 2 = 0 := fun z => f7 (x_lcmp0.mpr (by rw [z]; rfl)); rw [Nat.testBit_eq_decide_div_mod_eq, show x / 2 ^ h % 2 = 1 by omega]; rfl, rfl, rfl⟩
set_option maxHeartbeats 1000000 in
theorem tX4_stopping (p : Nat → Bool) (K : Nat) : x_K sc (d + 1) mX4_stopping [.long (lN (s_bits p 64)), .int (nI K)] μ w (x_p (some (.int (nI (s_stp p K)))) μ w) := by
  have hX := s_bits_lt p 64
  refine x_K.of (by decide) (Nat.le_of_ble_eq_true rfl) ?_
  show x_T sc (d + 1) mX4_stopping 0 [.long (lN (s_bits p 64)), .retAddr 0, .int (nI K), .retAddr 0, .retAddr 0] [] μ w _
  refine xt_iconst (0) dX4_stopping_0 (by decide) ?_
  refine xt_istore_n dX4_stopping_1 (by decide) rfl ?_
  change x_T _ _ _ _ [_, _, _, _, _] _ _ _ _
  refine xt_iconst (0) dX4_stopping_2 (by decide) ?_
  refine xt_istore dX4_stopping_3 (by decide) rfl ?_
  change x_T _ _ _ _ [_, _, _, _, _] _ _ _ _
  have L5 : ∀ (n5 m : Nat) , m + n5 = 64 → x_T sc (d + 1) mX4_stopping 5 [.long (lN (s_bits p 64)), .retAddr 0, .int (nI K), .int (nI (s_fd (s_f1 K) 0 p m)), .int (nI m)] [] μ w (x_p (some (.int (nI (s_stp p K)))) μ w) := by
    intro n5
    induction n5 with
    | zero =>
      intro m  hmn
      obtain rfl : 64 = m := by omega
      refine xt_iload _ dX4_stopping_5 rfl ?_
      refine xt_bipush (64) dX4_stopping_7 (by decide) ?_
      refine xt_icmp_ge 37 dX4_stopping_9 (by decide) (fun _ => ?_) (fun q => absurd (by decide) q)
      refine xt_iload_n _ dX4_stopping_37 rfl ?_
      exact xt_iret .int dX4_stopping_38 rfl (by first | rfl | assumption) ⟨rfl, rfl, rfl⟩
    | succ n5 ih5 =>
      intro m  hmn
      have hlt : m < 64 := by omega
      refine xt_iload _ dX4_stopping_5 rfl ?_
      refine xt_bipush (64) dX4_stopping_7 (by decide) ?_
      refine xt_icmp_ge 37 dX4_stopping_9 (by decide) (fun q => absurd q (nI_ge (b := 64) hlt (by decide))) (fun _ => ?_)
      refine xt_lload_n _ dX4_stopping_12 rfl ?_
      refine xt_iload _ dX4_stopping_13 rfl ?_
      refine xt_cS _ dX4_stopping_15 klX4_58 (tX4_isIn sc _ μ w (s_bits p 64) m hX hlt) rfl rfl (Nat.le_of_ble_eq_true rfl) ?_
      rw [show (s_bits p 64).testBit m = p m by rw [s_bits_bit]; simp [hlt]]
      refine xt_if_eq 31 dX4_stopping_18 (by decide) (fun t18 => ?_) (fun f18 => ?_)
      · refine xt_inc _ (1) dX4_stopping_31 rfl (by decide) (by decide) rfl ?_
        change x_T _ _ _ _ [_, _, _, _, _] _ _ _ _
        refine xt_goto 5 dX4_stopping_34 (by decide) ?_
        have hb : p m = false := by cases hq : p m <;> simp_all
        refine x_T.ls ?_ (ih5 (m + 1) (by omega))
        rw [s_fd_n hb, nI_succ m]
      · refine xt_iload _ dX4_stopping_21 rfl ?_
        refine xt_iload_n _ dX4_stopping_23 rfl ?_
        refine xt_iand dX4_stopping_24 ?_
        refine xt_if_eq 31 dX4_stopping_25 (by decide) (fun t25 => ?_) (fun f25 => ?_)
        · refine xt_inc _ (1) dX4_stopping_31 rfl (by decide) (by decide) rfl ?_
          change x_T _ _ _ _ [_, _, _, _, _] _ _ _ _
          refine xt_goto 5 dX4_stopping_34 (by decide) ?_
          have hb : p m = true := by cases hq : p m <;> simp_all
          refine x_T.ls ?_ (ih5 (m + 1) (by omega))
          rw [show s_fd (s_f1 K) 0 p (m + 1) = s_fd (s_f1 K) 0 p m by rw [s_fd_y hb]; show _ + (if s_ha m K then 1 else 0) = _; rw [show s_ha m K = false from decide_eq_false (fun z => z t25)]; rfl, nI_succ m]
        · refine xt_inc _ (1) dX4_stopping_28 rfl (by decide) (by decide) rfl ?_
          change x_T _ _ _ _ [_, _, _, _, _] _ _ _ _
          refine xt_inc _ (1) dX4_stopping_31 rfl (by decide) (by decide) rfl ?_
          change x_T _ _ _ _ [_, _, _, _, _] _ _ _ _
          refine xt_goto 5 dX4_stopping_34 (by decide) ?_
          have hb : p m = true := by cases hq : p m <;> simp_all
          refine x_T.ls ?_ (ih5 (m + 1) (by omega))
          rw [show s_fd (s_f1 K) 0 p (m + 1) = s_fd (s_f1 K) 0 p m + 1 by rw [s_fd_y hb]; show _ + (if s_ha m K then 1 else 0) = _; rw [show s_ha m K = true from decide_eq_true f25]; rfl, nI_succ m, nI_succ (s_fd _ _ _ m)]
  exact L5 (64) 0  (by omega)
set_option maxHeartbeats 2000000 in
theorem tX4_bestQuestion (p : Nat → Bool) : x_K sc (d + 2) mX4_bestQuestion [.long (lN (s_bits p 64))] μ w (x_p (some (.int (if s_cnt p 64 = 0 then -1 else (if (s_am (fun i => max (s_stp p (i + 1)) (s_cnt p 64 - s_stp p (i + 1))) (fun _ => true) 65 63).1 = 0 then -1 else nI (s_am (fun i => max (s_stp p (i + 1)) (s_cnt p 64 - s_stp p (i + 1))) (fun _ => true) 65 63).1)))) μ w) := by
  have hX := s_bits_lt p 64
  have hc64 := s_cnt_le p 64
  refine x_K.of (by decide) (Nat.le_of_ble_eq_true rfl) ?_
  show x_T sc (d + 2) mX4_bestQuestion 0 [.long (lN (s_bits p 64)), .retAddr 0, .retAddr 0, .retAddr 0, .retAddr 0, .retAddr 0, .retAddr 0, .retAddr 0] [] μ w _
  refine xt_lload_n _ dX4_bestQuestion_0 rfl ?_
  refine xt_lconst (0) dX4_bestQuestion_1 (by decide) ?_
  refine xt_lcmp dX4_bestQuestion_2 ?_
  refine xt_if_ne 8 dX4_bestQuestion_3 (by decide) (fun t3 => ?_) (fun f3 => ?_)
  · refine xt_lload_n _ dX4_bestQuestion_8 rfl ?_
    refine xt_cS _ dX4_bestQuestion_9 klX4_62 (tJ_bitCountL sc _ μ w (s_bits p 64) hX) rfl rfl (Nat.le_of_ble_eq_true rfl) ?_
    rw [mb_bits]
    refine xt_istore_n dX4_bestQuestion_12 (by decide) rfl ?_
    change x_T _ _ _ _ [_, _, _, _, _, _, _, _] _ _ _ _
    refine xt_iconst (-1) dX4_bestQuestion_13 (by decide) ?_
    refine xt_istore_n dX4_bestQuestion_14 (by decide) rfl ?_
    change x_T _ _ _ _ [_, _, _, _, _, _, _, _] _ _ _ _
    refine xt_bipush (65) dX4_bestQuestion_15 (by decide) ?_
    refine xt_istore dX4_bestQuestion_17 (by decide) rfl ?_
    change x_T _ _ _ _ [_, _, _, _, _, _, _, _] _ _ _ _
    refine xt_iconst (1) dX4_bestQuestion_19 (by decide) ?_
    refine xt_istore dX4_bestQuestion_20 (by decide) rfl ?_
    change x_T _ _ _ _ [_, _, _, _, _, _, _, _] _ _ _ _
    have L22 : ∀ (n22 m : Nat) (v6 v7 : Value), m + n22 = 63 → x_T sc (d + 2) mX4_bestQuestion 22 [.long (lN (s_bits p 64)), .retAddr 0, .int (nI (s_cnt p 64)), .int (if (s_am (fun i => max (s_stp p (i + 1)) (s_cnt p 64 - s_stp p (i + 1))) (fun _ => true) 65 m).1 = 0 then -1 else nI (s_am (fun i => max (s_stp p (i + 1)) (s_cnt p 64 - s_stp p (i + 1))) (fun _ => true) 65 m).1), .int (nI (s_am (fun i => max (s_stp p (i + 1)) (s_cnt p 64 - s_stp p (i + 1))) (fun _ => true) 65 m).2), .int (nI (m + 1)), v6, v7] [] μ w (x_p (some (.int (if s_cnt p 64 = 0 then -1 else (if (s_am (fun i => max (s_stp p (i + 1)) (s_cnt p 64 - s_stp p (i + 1))) (fun _ => true) 65 63).1 = 0 then -1 else nI (s_am (fun i => max (s_stp p (i + 1)) (s_cnt p 64 - s_stp p (i + 1))) (fun _ => true) 65 63).1)))) μ w) := by
      intro n22
      induction n22 with
      | zero =>
        intro m v6 v7 hmn
        obtain rfl : 63 = m := by omega
        refine xt_iload _ dX4_bestQuestion_22 rfl ?_
        refine xt_bipush (64) dX4_bestQuestion_24 (by decide) ?_
        refine xt_icmp_ge 68 dX4_bestQuestion_26 (by decide) (fun _ => ?_) (fun q => absurd (by decide) q)
        refine xt_iload_n _ dX4_bestQuestion_68 rfl ?_
        exact xt_iret .int dX4_bestQuestion_69 rfl (by first | rfl | assumption) ⟨by rw [if_neg (fun z => t3 (x_lcmp0.mpr ((lN_bits0 p).mpr z)))], rfl, rfl⟩
      | succ n22 ih22 =>
        intro m v6 v7 hmn
        have hlt : m < 63 := by omega
        have hst : s_stp p (m + 1) ≤ s_cnt p 64 := s_fd1_le p (m + 1) 64
        have hal := s_am_le (v := (fun i => max (s_stp p (i + 1)) (s_cnt p 64 - s_stp p (i + 1)))) (ok := fun _ => true) (lim := 65) m
        refine xt_iload _ dX4_bestQuestion_22 rfl ?_
        refine xt_bipush (64) dX4_bestQuestion_24 (by decide) ?_
        refine xt_icmp_ge 68 dX4_bestQuestion_26 (by decide) (fun q => absurd q (nI_ge (b := 64) (by omega) (by decide))) (fun _ => ?_)
        refine xt_lload_n _ dX4_bestQuestion_29 rfl ?_
        refine xt_iload _ dX4_bestQuestion_30 rfl ?_
        refine xt_cS _ dX4_bestQuestion_32 klX4_68 (tX4_stopping sc _ μ w p (m + 1)) rfl rfl (Nat.le_of_ble_eq_true rfl) ?_
        refine xt_istore dX4_bestQuestion_35 (by decide) rfl ?_
        change x_T _ _ _ _ [_, _, _, _, _, _, _, _] _ _ _ _
        refine xt_iload _ dX4_bestQuestion_37 rfl ?_
        refine xt_iload_n _ dX4_bestQuestion_39 rfl ?_
        refine xt_iload _ dX4_bestQuestion_40 rfl ?_
        refine xt_isub dX4_bestQuestion_42 ?_
        rw [pk_sub hst]
        refine xt_mmax dX4_bestQuestion_43 kmX4_72 (Nat.le_of_ble_eq_true rfl) ?_
        rw [show (if nI (s_stp p (m + 1)) < nI (s_cnt p 64 - s_stp p (m + 1)) then nI (s_cnt p 64 - s_stp p (m + 1)) else nI (s_stp p (m + 1))) = nI (max (s_stp p (m + 1)) (s_cnt p 64 - s_stp p (m + 1))) from s_max_nI (by omega) (by omega)]
        refine xt_istore dX4_bestQuestion_46 (by decide) rfl ?_
        change x_T _ _ _ _ [_, _, _, _, _, _, _, _] _ _ _ _
        refine xt_iload _ dX4_bestQuestion_48 rfl ?_
        refine xt_iload _ dX4_bestQuestion_50 rfl ?_
        refine xt_icmp_ge 62 dX4_bestQuestion_52 (by decide) (fun t52 => ?_) (fun f52 => ?_)
        · refine xt_inc _ (1) dX4_bestQuestion_62 rfl (by decide) (by decide) rfl ?_
          change x_T _ _ _ _ [_, _, _, _, _, _, _, _] _ _ _ _
          refine xt_goto 22 dX4_bestQuestion_65 (by decide) ?_
          rw [nI_leI (by omega) (by omega)] at t52
          refine x_T.ls ?_ (ih22 (m + 1) (.int (nI (s_stp p (m + 1)))) (.int (nI (max (s_stp p (m + 1)) (s_cnt p 64 - s_stp p (m + 1))))) (by omega))
          have es : s_am (fun i => max (s_stp p (i + 1)) (s_cnt p 64 - s_stp p (i + 1))) (fun _ => true) 65 (m + 1) = s_am (fun i => max (s_stp p (i + 1)) (s_cnt p 64 - s_stp p (i + 1))) (fun _ => true) 65 m := s_am_n2 (v := (fun i => max (s_stp p (i + 1)) (s_cnt p 64 - s_stp p (i + 1)))) (ok := (fun _ => true)) (by show (s_am (fun i => max (s_stp p (i + 1)) (s_cnt p 64 - s_stp p (i + 1))) (fun _ => true) 65 m).2 ≤ max (s_stp p (m + 1)) (s_cnt p 64 - s_stp p (m + 1)); omega)
          rw [es, nI_succ (m + 1)]
        · refine xt_iload _ dX4_bestQuestion_55 rfl ?_
          refine xt_istore dX4_bestQuestion_57 (by decide) rfl ?_
          change x_T _ _ _ _ [_, _, _, _, _, _, _, _] _ _ _ _
          refine xt_iload _ dX4_bestQuestion_59 rfl ?_
          refine xt_istore_n dX4_bestQuestion_61 (by decide) rfl ?_
          change x_T _ _ _ _ [_, _, _, _, _, _, _, _] _ _ _ _
          refine xt_inc _ (1) dX4_bestQuestion_62 rfl (by decide) (by decide) rfl ?_
          change x_T _ _ _ _ [_, _, _, _, _, _, _, _] _ _ _ _
          refine xt_goto 22 dX4_bestQuestion_65 (by decide) ?_
          rw [nI_leI (by omega) (by omega)] at f52
          refine x_T.ls ?_ (ih22 (m + 1) (.int (nI (s_stp p (m + 1)))) (.int (nI (max (s_stp p (m + 1)) (s_cnt p 64 - s_stp p (m + 1))))) (by omega))
          have es : s_am (fun i => max (s_stp p (i + 1)) (s_cnt p 64 - s_stp p (i + 1))) (fun _ => true) 65 (m + 1) = (m + 1, max (s_stp p (m + 1)) (s_cnt p 64 - s_stp p (m + 1))) := s_am_y (v := (fun i => max (s_stp p (i + 1)) (s_cnt p 64 - s_stp p (i + 1)))) (ok := (fun _ => true)) (by rfl) (by show max (s_stp p (m + 1)) (s_cnt p 64 - s_stp p (m + 1)) < (s_am (fun i => max (s_stp p (i + 1)) (s_cnt p 64 - s_stp p (i + 1))) (fun _ => true) 65 m).2; omega)
          rw [es, nI_succ (m + 1), if_neg (by simp)]
    exact L22 63 0 _ _ (by omega)
  · refine xt_iconst (-1) dX4_bestQuestion_6 (by decide) ?_
    exact xt_iret .int dX4_bestQuestion_7 rfl (by first | rfl | assumption) ⟨by rw [if_pos ((lN_bits0 p).mp (x_lcmp0.mp f3))], rfl, rfl⟩
set_option maxHeartbeats 1000000 in
theorem tX4_sure (p : Nat → Bool) (j : Nat) (hj : j < 6) : x_K sc (d + 2) mX4_sure [.long (lN (s_bits p 64)), .int (nI j)] μ w (x_p (some (.int (if s_cnt p 64 = 0 then -1 else if s_stp p (2 ^ j) = s_cnt p 64 then 1 else if s_stp p (2 ^ j) = 0 then 0 else -1))) μ w) := by
  have hX := s_bits_lt p 64
  have hc64 := s_cnt_le p 64
  have hst : s_stp p (2 ^ j) ≤ s_cnt p 64 := s_fd1_le p (2 ^ j) 64
  refine x_K.of (by decide) (Nat.le_of_ble_eq_true rfl) ?_
  show x_T sc (d + 2) mX4_sure 0 [.long (lN (s_bits p 64)), .retAddr 0, .int (nI j), .retAddr 0] [] μ w _
  refine xt_lload_n _ dX4_sure_0 rfl ?_
  refine xt_lconst (0) dX4_sure_1 (by decide) ?_
  refine xt_lcmp dX4_sure_2 ?_
  refine xt_if_ne 8 dX4_sure_3 (by decide) (fun t3 => ?_) (fun f3 => ?_)
  · refine xt_lload_n _ dX4_sure_8 rfl ?_
    refine xt_iconst (1) dX4_sure_9 (by decide) ?_
    refine xt_iload_n _ dX4_sure_10 rfl ?_
    refine xt_ishl dX4_sure_11 ?_
    rw [x_1sh (by omega)]
    refine xt_cS _ dX4_sure_12 klX4_68 (tX4_stopping sc _ μ w p (2 ^ j)) rfl rfl (Nat.le_of_ble_eq_true rfl) ?_
    refine xt_istore_n dX4_sure_15 (by decide) rfl ?_
    change x_T _ _ _ _ [_, _, _, _] _ _ _ _
    refine xt_iload_n _ dX4_sure_16 rfl ?_
    refine xt_lload_n _ dX4_sure_17 rfl ?_
    refine xt_cS _ dX4_sure_18 klX4_62 (tJ_bitCountL sc _ μ w (s_bits p 64) hX) rfl rfl (Nat.le_of_ble_eq_true rfl) ?_
    rw [mb_bits]
    refine xt_icmp_ne 26 dX4_sure_21 (by decide) (fun t21 => ?_) (fun f21 => ?_)
    · have n21 : ¬ (s_stp p (2 ^ j) = s_cnt p 64) := fun z => t21 ((nI_eq (a := s_stp p (2 ^ j)) (b := s_cnt p 64) (by omega) (by omega)).mpr z)
      refine xt_iload_n _ dX4_sure_26 rfl ?_
      refine xt_if_ne 34 dX4_sure_27 (by decide) (fun t27 => ?_) (fun f27 => ?_)
      · have n27 : ¬ (s_stp p (2 ^ j) = 0) := fun z => t27 ((nI_eq (a := s_stp p (2 ^ j)) (b := 0) (by omega) (by omega)).mpr z)
        refine xt_iconst (-1) dX4_sure_34 (by decide) ?_
        exact xt_iret .int dX4_sure_35 rfl (by first | rfl | assumption) ⟨by rw [if_neg (fun z => t3 (x_lcmp0.mpr ((lN_bits0 p).mpr z))), if_neg n21, if_neg n27], rfl, rfl⟩
      · have n27 : s_stp p (2 ^ j) = 0 := (nI_eq (a := s_stp p (2 ^ j)) (b := 0) (by omega) (by omega)).mp f27
        refine xt_iconst (0) dX4_sure_30 (by decide) ?_
        refine xt_goto 35 dX4_sure_31 (by decide) ?_
        exact xt_iret .int dX4_sure_35 rfl (by first | rfl | assumption) ⟨by rw [if_neg (fun z => t3 (x_lcmp0.mpr ((lN_bits0 p).mpr z))), if_neg n21, if_pos n27], rfl, rfl⟩
    · have n21 : s_stp p (2 ^ j) = s_cnt p 64 := (nI_eq (a := s_stp p (2 ^ j)) (b := s_cnt p 64) (by omega) (by omega)).mp f21
      refine xt_iconst (1) dX4_sure_24 (by decide) ?_
      exact xt_iret .int dX4_sure_25 rfl (by first | rfl | assumption) ⟨by rw [if_neg (fun z => t3 (x_lcmp0.mpr ((lN_bits0 p).mpr z))), if_pos n21], rfl, rfl⟩
  · refine xt_iconst (-1) dX4_sure_6 (by decide) ?_
    exact xt_iret .int dX4_sure_7 rfl (by first | rfl | assumption) ⟨by rw [if_pos ((lN_bits0 p).mp (x_lcmp0.mp f3))], rfl, rfl⟩
set_option maxHeartbeats 1000000 in
theorem tX4_heartAt (p : Nat → Bool) (j : Nat) (hj : j < 2 ^ 31) : x_K sc (d + 1) mX4_heartAt [.long (lN (s_bits p 64)), .int (nI j)] μ w (x_p (some (.int (if j < s_cnt p 64 then nI (s_gi p 64 j) else -2))) μ w) := by
  have hX := s_bits_lt p 64
  refine x_K.of (by decide) (Nat.le_of_ble_eq_true rfl) ?_
  show x_T sc (d + 1) mX4_heartAt 0 [.long (lN (s_bits p 64)), .retAddr 0, .int (nI j), .retAddr 0, .retAddr 0] [] μ w _
  refine xt_iload_n _ dX4_heartAt_0 rfl ?_
  refine xt_istore_n dX4_heartAt_1 (by decide) rfl ?_
  change x_T _ _ _ _ [_, _, _, _, _] _ _ _ _
  refine xt_iconst (0) dX4_heartAt_2 (by decide) ?_
  refine xt_istore dX4_heartAt_3 (by decide) rfl ?_
  change x_T _ _ _ _ [_, _, _, _, _] _ _ _ _
  have L5 : ∀ (n5 m : Nat) (hle : s_cnt p m ≤ j), m + n5 = 64 → x_T sc (d + 1) mX4_heartAt 5 [.long (lN (s_bits p 64)), .retAddr 0, .int (nI j), .int (nI (j - s_cnt p m)), .int (nI m)] [] μ w (x_p (some (.int (if j < s_cnt p 64 then nI (s_gi p 64 j) else -2))) μ w) := by
    intro n5
    induction n5 with
    | zero =>
      intro m hle hmn
      obtain rfl : 64 = m := by omega
      refine xt_iload _ dX4_heartAt_5 rfl ?_
      refine xt_bipush (64) dX4_heartAt_7 (by decide) ?_
      refine xt_icmp_ge 37 dX4_heartAt_9 (by decide) (fun _ => ?_) (fun q => absurd (by decide) q)
      refine xt_bipush (-2) dX4_heartAt_37 (by decide) ?_
      exact xt_iret .int dX4_heartAt_39 rfl (by first | rfl | assumption) ⟨by rw [if_neg (by omega)], rfl, rfl⟩
    | succ n5 ih5 =>
      intro m hle hmn
      have hlt : m < 64 := by omega
      refine xt_iload _ dX4_heartAt_5 rfl ?_
      refine xt_bipush (64) dX4_heartAt_7 (by decide) ?_
      refine xt_icmp_ge 37 dX4_heartAt_9 (by decide) (fun q => absurd q (nI_ge (b := 64) hlt (by decide))) (fun _ => ?_)
      refine xt_lload_n _ dX4_heartAt_12 rfl ?_
      refine xt_iload _ dX4_heartAt_13 rfl ?_
      refine xt_cS _ dX4_heartAt_15 klX4_58 (tX4_isIn sc _ μ w (s_bits p 64) m hX hlt) rfl rfl (Nat.le_of_ble_eq_true rfl) ?_
      rw [show (s_bits p 64).testBit m = p m by rw [s_bits_bit]; simp [hlt]]
      refine xt_if_eq 31 dX4_heartAt_18 (by decide) (fun t18 => ?_) (fun f18 => ?_)
      · refine xt_inc _ (1) dX4_heartAt_31 rfl (by decide) (by decide) rfl ?_
        change x_T _ _ _ _ [_, _, _, _, _] _ _ _ _
        refine xt_goto 5 dX4_heartAt_34 (by decide) ?_
        have hb : p m = false := by cases hq : p m <;> simp_all
        have es : s_cnt p (m + 1) = s_cnt p m := by rw [s_cnt, hb]; rfl
        refine x_T.ls ?_ (ih5 (m + 1) (by omega) (by omega))
        rw [es, nI_succ m]
      · refine xt_iload_n _ dX4_heartAt_21 rfl ?_
        refine xt_if_ne 28 dX4_heartAt_22 (by decide) (fun t22 => ?_) (fun f22 => ?_)
        · have n22 : ¬ (j - s_cnt p m = 0) := fun z => t22 ((nI_eq (a := j - s_cnt p m) (b := 0) (by omega) (by omega)).mpr z)
          refine xt_inc _ (-1) dX4_heartAt_28 rfl (by decide) (by decide) rfl ?_
          change x_T _ _ _ _ [_, _, _, _, _] _ _ _ _
          refine xt_inc _ (1) dX4_heartAt_31 rfl (by decide) (by decide) rfl ?_
          change x_T _ _ _ _ [_, _, _, _, _] _ _ _ _
          refine xt_goto 5 dX4_heartAt_34 (by decide) ?_
          have hb : p m = true := by cases hq : p m <;> simp_all
          have es : s_cnt p (m + 1) = s_cnt p m + 1 := by rw [s_cnt, if_pos hb]
          refine x_T.ls ?_ (ih5 (m + 1) (by omega) (by omega))
          rw [es, nI_succ m, show j - s_cnt p m = j - (s_cnt p m + 1) + 1 by omega, pk_m1]
        · have n22 : j - s_cnt p m = 0 := (nI_eq (a := j - s_cnt p m) (b := 0) (by omega) (by omega)).mp f22
          refine xt_iload _ dX4_heartAt_25 rfl ?_
          exact xt_iret .int dX4_heartAt_27 rfl (by first | rfl | assumption) ⟨by have hb : p m = true := (by cases hq : p m <;> simp_all); have hjc : j = s_cnt p m := (by omega); rw [hjc, if_pos (s_cnt_lt p hlt hb), s_gi_at p hb 64 hlt], rfl, rfl⟩
  exact L5 (64) 0 (Nat.zero_le _) (by omega)
set_option maxHeartbeats 1000000 in
theorem tX4_smallest (p : Nat → Bool) : x_K sc (d + 1) mX4_smallest [.long (lN (s_bits p 64))] μ w (x_p (some (.int (if s_cnt p 64 = 0 then -1 else nI (s_fd s_f2 6 p 64)))) μ w) := by
  have hX := s_bits_lt p 64
  refine x_K.of (by decide) (Nat.le_of_ble_eq_true rfl) ?_
  show x_T sc (d + 1) mX4_smallest 0 [.long (lN (s_bits p 64)), .retAddr 0, .retAddr 0, .retAddr 0] [] μ w _
  refine xt_bipush (6) dX4_smallest_0 (by decide) ?_
  refine xt_istore_n dX4_smallest_2 (by decide) rfl ?_
  change x_T _ _ _ _ [_, _, _, _] _ _ _ _
  refine xt_iconst (0) dX4_smallest_3 (by decide) ?_
  refine xt_istore_n dX4_smallest_4 (by decide) rfl ?_
  change x_T _ _ _ _ [_, _, _, _] _ _ _ _
  have L5 : ∀ (n5 m : Nat) , m + n5 = 64 → x_T sc (d + 1) mX4_smallest 5 [.long (lN (s_bits p 64)), .retAddr 0, .int (nI (s_fd s_f2 6 p m)), .int (nI m)] [] μ w (x_p (some (.int (if s_cnt p 64 = 0 then -1 else nI (s_fd s_f2 6 p 64)))) μ w) := by
    intro n5
    induction n5 with
    | zero =>
      intro m  hmn
      obtain rfl : 64 = m := by omega
      refine xt_iload_n _ dX4_smallest_5 rfl ?_
      refine xt_bipush (64) dX4_smallest_6 (by decide) ?_
      refine xt_icmp_ge 34 dX4_smallest_8 (by decide) (fun _ => ?_) (fun q => absurd (by decide) q)
      refine xt_lload_n _ dX4_smallest_34 rfl ?_
      refine xt_lconst (0) dX4_smallest_35 (by decide) ?_
      refine xt_lcmp dX4_smallest_36 ?_
      refine xt_if_ne 44 dX4_smallest_37 (by decide) (fun t37 => ?_) (fun f37 => ?_)
      · refine xt_iload_n _ dX4_smallest_44 rfl ?_
        exact xt_iret .int dX4_smallest_45 rfl (by first | rfl | assumption) ⟨by rw [if_neg (fun z => t37 (x_lcmp0.mpr ((lN_bits0 p).mpr z)))], rfl, rfl⟩
      · refine xt_iconst (-1) dX4_smallest_40 (by decide) ?_
        refine xt_goto 45 dX4_smallest_41 (by decide) ?_
        exact xt_iret .int dX4_smallest_45 rfl (by first | rfl | assumption) ⟨by rw [if_pos ((lN_bits0 p).mp (x_lcmp0.mp f37))], rfl, rfl⟩
    | succ n5 ih5 =>
      intro m  hmn
      have hlt : m < 64 := by omega
      have h6 := s_fd2_le p m
      have hp6 := s_pop6 m hlt
      refine xt_iload_n _ dX4_smallest_5 rfl ?_
      refine xt_bipush (64) dX4_smallest_6 (by decide) ?_
      refine xt_icmp_ge 34 dX4_smallest_8 (by decide) (fun q => absurd q (nI_ge (b := 64) hlt (by decide))) (fun _ => ?_)
      refine xt_lload_n _ dX4_smallest_11 rfl ?_
      refine xt_iload_n _ dX4_smallest_12 rfl ?_
      refine xt_cS _ dX4_smallest_13 klX4_58 (tX4_isIn sc _ μ w (s_bits p 64) m hX hlt) rfl rfl (Nat.le_of_ble_eq_true rfl) ?_
      rw [show (s_bits p 64).testBit m = p m by rw [s_bits_bit]; simp [hlt]]
      refine xt_if_eq 28 dX4_smallest_16 (by decide) (fun t16 => ?_) (fun f16 => ?_)
      · refine xt_inc _ (1) dX4_smallest_28 rfl (by decide) (by decide) rfl ?_
        change x_T _ _ _ _ [_, _, _, _] _ _ _ _
        refine xt_goto 5 dX4_smallest_31 (by decide) ?_
        have hb : p m = false := by cases hq : p m <;> simp_all
        refine x_T.ls ?_ (ih5 (m + 1) (by omega))
        rw [s_fd_n hb, nI_succ m]
      · refine xt_iload_n _ dX4_smallest_19 rfl ?_
        refine xt_iload_n _ dX4_smallest_20 rfl ?_
        refine xt_cS _ dX4_smallest_21 klX4_75 (tJ_bitCount sc _ w _) rfl rfl (Nat.le_of_ble_eq_true rfl) ?_
        rw [s_bc_pop m (by omega)]
        refine xt_mmin dX4_smallest_24 kmX4_49 (Nat.le_of_ble_eq_true rfl) ?_
        refine xt_istore_n dX4_smallest_27 (by decide) rfl ?_
        change x_T _ _ _ _ [_, _, _, _] _ _ _ _
        refine xt_inc _ (1) dX4_smallest_28 rfl (by decide) (by decide) rfl ?_
        change x_T _ _ _ _ [_, _, _, _] _ _ _ _
        refine xt_goto 5 dX4_smallest_31 (by decide) ?_
        have hb : p m = true := by cases hq : p m <;> simp_all
        refine x_T.ls ?_ (ih5 (m + 1) (by omega))
        rw [s_min_nI (by omega) (by omega), s_fd_y hb, nI_succ m]
  exact L5 (64) 0  (by omega)
set_option maxHeartbeats 1000000 in
theorem tX4_largest (p : Nat → Bool) : x_K sc (d + 1) mX4_largest [.long (lN (s_bits p 64))] μ w (x_p (some (.int (eI (s_fd s_f3 0 p 64)))) μ w) := by
  have hX := s_bits_lt p 64
  refine x_K.of (by decide) (Nat.le_of_ble_eq_true rfl) ?_
  show x_T sc (d + 1) mX4_largest 0 [.long (lN (s_bits p 64)), .retAddr 0, .retAddr 0, .retAddr 0] [] μ w _
  refine xt_iconst (-1) dX4_largest_0 (by decide) ?_
  refine xt_istore_n dX4_largest_1 (by decide) rfl ?_
  change x_T _ _ _ _ [_, _, _, _] _ _ _ _
  refine xt_iconst (0) dX4_largest_2 (by decide) ?_
  refine xt_istore_n dX4_largest_3 (by decide) rfl ?_
  change x_T _ _ _ _ [_, _, _, _] _ _ _ _
  have L4 : ∀ (n4 m : Nat) , m + n4 = 64 → x_T sc (d + 1) mX4_largest 4 [.long (lN (s_bits p 64)), .retAddr 0, .int (eI (s_fd s_f3 0 p m)), .int (nI m)] [] μ w (x_p (some (.int (eI (s_fd s_f3 0 p 64)))) μ w) := by
    intro n4
    induction n4 with
    | zero =>
      intro m  hmn
      obtain rfl : 64 = m := by omega
      refine xt_iload_n _ dX4_largest_4 rfl ?_
      refine xt_bipush (64) dX4_largest_5 (by decide) ?_
      refine xt_icmp_ge 33 dX4_largest_7 (by decide) (fun _ => ?_) (fun q => absurd (by decide) q)
      refine xt_iload_n _ dX4_largest_33 rfl ?_
      exact xt_iret .int dX4_largest_34 rfl (by first | rfl | assumption) ⟨rfl, rfl, rfl⟩
    | succ n4 ih4 =>
      intro m  hmn
      have hlt : m < 64 := by omega
      have h7 := s_fd3_le p m (by omega)
      have hp6 := s_pop6 m hlt
      refine xt_iload_n _ dX4_largest_4 rfl ?_
      refine xt_bipush (64) dX4_largest_5 (by decide) ?_
      refine xt_icmp_ge 33 dX4_largest_7 (by decide) (fun q => absurd q (nI_ge (b := 64) hlt (by decide))) (fun _ => ?_)
      refine xt_lload_n _ dX4_largest_10 rfl ?_
      refine xt_iload_n _ dX4_largest_11 rfl ?_
      refine xt_cS _ dX4_largest_12 klX4_58 (tX4_isIn sc _ μ w (s_bits p 64) m hX hlt) rfl rfl (Nat.le_of_ble_eq_true rfl) ?_
      rw [show (s_bits p 64).testBit m = p m by rw [s_bits_bit]; simp [hlt]]
      refine xt_if_eq 27 dX4_largest_15 (by decide) (fun t15 => ?_) (fun f15 => ?_)
      · refine xt_inc _ (1) dX4_largest_27 rfl (by decide) (by decide) rfl ?_
        change x_T _ _ _ _ [_, _, _, _] _ _ _ _
        refine xt_goto 4 dX4_largest_30 (by decide) ?_
        have hb : p m = false := by cases hq : p m <;> simp_all
        refine x_T.ls ?_ (ih4 (m + 1) (by omega))
        rw [s_fd_n hb, nI_succ m]
      · refine xt_iload_n _ dX4_largest_18 rfl ?_
        refine xt_iload_n _ dX4_largest_19 rfl ?_
        refine xt_cS _ dX4_largest_20 klX4_75 (tJ_bitCount sc _ w _) rfl rfl (Nat.le_of_ble_eq_true rfl) ?_
        rw [s_bc_pop m (by omega)]
        refine xt_mmax dX4_largest_23 kmX4_72 (Nat.le_of_ble_eq_true rfl) ?_
        refine xt_istore_n dX4_largest_26 (by decide) rfl ?_
        change x_T _ _ _ _ [_, _, _, _] _ _ _ _
        refine xt_inc _ (1) dX4_largest_27 rfl (by decide) (by decide) rfl ?_
        change x_T _ _ _ _ [_, _, _, _] _ _ _ _
        refine xt_goto 4 dX4_largest_30 (by decide) ?_
        have hb : p m = true := by cases hq : p m <;> simp_all
        refine x_T.ls ?_ (ih4 (m + 1) (by omega))
        rw [eI_max (by omega) (by omega), s_fd_y hb, nI_succ m]
  exact L4 (64) 0  (by omega)
end LEDGER
