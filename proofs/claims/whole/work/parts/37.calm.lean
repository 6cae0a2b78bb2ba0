/-! the steps of calm and guess -/
/-- a call that asks after a FAIR, on both sides, of a long answer -/
theorem x_stFL {sc : Nat × (Nat → Int32)} {Mc Mm : x_Mt} {kk : Int32} {as : List Value} (no : Int64)
    (hcN : ∀ μ w c, c ≤ 2 → μ 3 0 = nI c → ¬ (0 ≤ kk ∧ kk < nI c) → x_K sc 29 Mc (.ref 0 :: .int kk :: as) μ w (fun r μ' _ => r = some (.long no) ∧ x_keep μ μ'))
    (hmN : ∀ μ w c, c ≤ 2 → μ 157 0 = nI c → ¬ (0 ≤ kk ∧ kk < nI c) → x_K sc 29 Mm (.ref 152 :: .int kk :: as) μ w (fun r μ' _ => r = some (.long no) ∧ x_keep μ μ'))
    (hY : ∀ (f : Nat) (F : Nat → Nat), f < 2 → kk = nI f → f_W F → ∃ v : Int64, (∀ μ w c, f < c → c ≤ 2 → μ 3 0 = nI c → f_C μ (7 + 11 * f) F → x_K sc 29 Mc (.ref 0 :: .int kk :: as) μ w (fun r μ' _ => r = some (.long v) ∧ x_keep μ μ')) ∧
      (∀ μ w c, f < c → c ≤ 2 → μ 157 0 = nI c → (∀ i, i < 125 → μ 158 (125 * f + i) = nI (F i)) → x_K sc 29 Mm (.ref 152 :: .int kk :: as) μ w (fun r μ' _ => r = some (.long v) ∧ x_keep μ μ'))) :
    x_stL sc (fun μ _ => x_Inv μ) (fun μ _ => x_Inv μ) Mc Mm (.int kk :: as) := by
  refine x_stGL (fun μ hI => ?_)
  obtain ⟨c, hc, e1, e2, hfs⟩ := hI.fair
  by_cases hk : 0 ≤ kk ∧ kk < nI c
  · obtain ⟨f, hf31, rfl⟩ := nI_of (Int32.not_lt.mpr hk.1)
    have hf : f < c := (nI_ltI hf31 (by omega)).mp hk.2
    obtain ⟨F, hW, hC, hM⟩ := hfs f hf
    obtain ⟨v, hv1, hv2⟩ := hY f F (by omega) rfl hW
    refine ⟨v, fun w => hv1 μ w c hf hc e1 hC, fun μ1 w hk1 => hv2 μ1 w c hf hc (by rw [x_kmany hk1]; exact e2) ?_⟩
    intro i hi
    rw [hk1 158 (Or.inr (Or.inl ⟨by decide, by decide⟩))]; exact hM i hi
  · exact ⟨no, fun w => hcN μ w c hc e1 hk, fun μ1 w hk1 => hmN μ1 w c hc (by rw [x_kmany hk1]; exact e2) hk⟩
theorem x_lcmp_pos {a : Nat} (h0 : 0 < a) (h : a < 2 ^ 63) : ¬ lg_cmp (lN a) 0 ≤ 0 := by
  have h1 : ¬ lN a < 0 := by
    rw [show (0 : Int64) = lN 0 from rfl, pk_lLT h (by decide)]; omega
  have h2 : ¬ lN a = 0 := fun z => absurd ((x_lN0 h).mp z) (by omega)
  have h3 : (0 : Int64) < lN a := by
    rw [show (0 : Int64) = lN 0 from rfl, pk_lLT (by decide) h]; omega
  unfold lg_cmp
  simp [h1, h2, h3]
def s_chC (N K : Nat) : Nat → Nat
  | 0 => 1
  | i + 1 => s_chC N K i * (N - K + (i + 1)) / (i + 1)
def s_chM (N : Nat) : Nat → Nat
  | 0 => 1
  | i + 1 => s_chM N i * (N - i) / (i + 1)
theorem s_ch_eq : ∀ N, N < 9 → ∀ K, K < N + 1 → s_chC N K K = s_chM N K := by decide +kernel
theorem s_chC_le : ∀ N, N < 9 → ∀ K, K < N + 1 → ∀ i, i < K + 1 → s_chC N K i ≤ 100 := by decide +kernel
theorem s_chM_le : ∀ N, N < 9 → ∀ i, i < N + 1 → s_chM N i ≤ 100 ∧ 0 < s_chM N i := by decide +kernel
section CALM
variable (sc : Nat × (Nat → Int32)) (d : Nat) (μ : x_Me) (w : Int64)
set_option maxHeartbeats 1000000 in
theorem tX8_power (b n : Nat) (hb : b ≤ 10) (hn : n ≤ 8) : x_K sc d mX8_power [.int (nI b), .int (nI n)] μ w (x_p (some (.long (lN (b ^ n)))) μ w) := by
  refine x_K.of (by decide) (Nat.le_of_ble_eq_true rfl) ?_
  show x_T sc d mX8_power 0 [.int (nI b), .int (nI n), .retAddr 0, .retAddr 0, .retAddr 0] [] μ w _
  refine xt_lconst (1) dX8_power_0 (by decide) ?_
  refine xt_lstore_n dX8_power_1 (by decide) rfl ?_
  change x_T _ _ _ _ [_, _, _, _, _] _ _ _ _
  refine xt_iconst (0) dX8_power_2 (by decide) ?_
  refine xt_istore dX8_power_3 (by decide) rfl ?_
  change x_T _ _ _ _ [_, _, _, _, _] _ _ _ _
  have L5 : ∀ (n5 m : Nat) , m + n5 = n → x_T sc d mX8_power 5 [.int (nI b), .int (nI n), .long (lN (b ^ m)), .retAddr 0, .int (nI m)] [] μ w (x_p (some (.long (lN (b ^ n)))) μ w) := by
    intro n5
    induction n5 with
    | zero =>
      intro m  hmn
      obtain rfl : n = m := by omega
      refine xt_iload _ dX8_power_5 rfl ?_
      refine xt_iload_n _ dX8_power_7 rfl ?_
      refine xt_icmp_ge 22 dX8_power_8 (by decide) (fun _ => ?_) (fun q => absurd (Int32.le_refl _) q)
      refine xt_lload_n _ dX8_power_22 rfl ?_
      exact xt_lret dX8_power_23 rfl ⟨rfl, rfl, rfl⟩
    | succ n5 ih5 =>
      intro m  hmn
      have hlt : m < n := by omega
      refine xt_iload _ dX8_power_5 rfl ?_
      refine xt_iload_n _ dX8_power_7 rfl ?_
      refine xt_icmp_ge 22 dX8_power_8 (by decide) (fun q => absurd q (nI_ge hlt (by omega))) (fun _ => ?_)
      refine xt_lload_n _ dX8_power_11 rfl ?_
      refine xt_iload_n _ dX8_power_12 rfl ?_
      refine xt_i2l dX8_power_13 ?_
      refine xt_lmul dX8_power_14 ?_
      refine xt_lstore_n dX8_power_15 (by decide) rfl ?_
      change x_T _ _ _ _ [_, _, _, _, _] _ _ _ _
      refine xt_inc _ (1) dX8_power_16 rfl (by decide) (by decide) rfl ?_
      change x_T _ _ _ _ [_, _, _, _, _] _ _ _ _
      refine xt_goto 5 dX8_power_19 (by decide) ?_
      refine x_T.ls ?_ (ih5 (m + 1) (by omega))
      rw [nI_l (by omega), lN_mul, nI_succ m, Nat.pow_succ]
  exact L5 (n) 0  (by omega)
set_option maxHeartbeats 1000000 in
theorem tX12_times (b n : Nat) (hb : b ≤ 10) (hn : n ≤ 8) : x_K sc d mX12_times [.long (lN b), .int (nI n)] μ w (x_p (some (.long (lN (b ^ n)))) μ w) := by
  refine x_K.of (by decide) (Nat.le_of_ble_eq_true rfl) ?_
  show x_T sc d mX12_times 0 [.long (lN b), .retAddr 0, .int (nI n), .retAddr 0, .retAddr 0, .retAddr 0] [] μ w _
  refine xt_lconst (1) dX12_times_0 (by decide) ?_
  refine xt_lstore_n dX12_times_1 (by decide) rfl ?_
  change x_T _ _ _ _ [_, _, _, _, _, _] _ _ _ _
  refine xt_iconst (0) dX12_times_2 (by decide) ?_
  refine xt_istore dX12_times_3 (by decide) rfl ?_
  change x_T _ _ _ _ [_, _, _, _, _, _] _ _ _ _
  have L5 : ∀ (n5 m : Nat) , m + n5 = n → x_T sc d mX12_times 5 [.long (lN b), .retAddr 0, .int (nI n), .long (lN (b ^ m)), .retAddr 0, .int (nI m)] [] μ w (x_p (some (.long (lN (b ^ n)))) μ w) := by
    intro n5
    induction n5 with
    | zero =>
      intro m  hmn
      obtain rfl : n = m := by omega
      refine xt_iload _ dX12_times_5 rfl ?_
      refine xt_iload_n _ dX12_times_7 rfl ?_
      refine xt_icmp_ge 21 dX12_times_8 (by decide) (fun _ => ?_) (fun q => absurd (Int32.le_refl _) q)
      refine xt_lload_n _ dX12_times_21 rfl ?_
      exact xt_lret dX12_times_22 rfl ⟨rfl, rfl, rfl⟩
    | succ n5 ih5 =>
      intro m  hmn
      have hlt : m < n := by omega
      refine xt_iload _ dX12_times_5 rfl ?_
      refine xt_iload_n _ dX12_times_7 rfl ?_
      refine xt_icmp_ge 21 dX12_times_8 (by decide) (fun q => absurd q (nI_ge hlt (by omega))) (fun _ => ?_)
      refine xt_lload_n _ dX12_times_11 rfl ?_
      refine xt_lload_n _ dX12_times_12 rfl ?_
      refine xt_lmul dX12_times_13 ?_
      refine xt_lstore_n dX12_times_14 (by decide) rfl ?_
      change x_T _ _ _ _ [_, _, _, _, _, _] _ _ _ _
      refine xt_inc _ (1) dX12_times_15 rfl (by decide) (by decide) rfl ?_
      change x_T _ _ _ _ [_, _, _, _, _, _] _ _ _ _
      refine xt_goto 5 dX12_times_18 (by decide) ?_
      refine x_T.ls ?_ (ih5 (m + 1) (by omega))
      rw [lN_mul, nI_succ m, Nat.pow_succ]
  exact L5 (n) 0  (by omega)
set_option maxHeartbeats 1000000 in
theorem tX12_commonL (A B : Nat) (hA : A < 2 ^ 48) (hB : B < 2 ^ 48) : x_D sc d mX12_commonL [.long (lN A), .long (lN B)] μ w (some (.long (lN (Nat.gcd A B)))) μ w := by
  have L6 : ∀ (n a b : Nat) (v8 v9 : Value), a < 2 ^ 48 → b < 2 ^ 48 → s_eu n a b → Nat.gcd a b = Nat.gcd A B → x_T sc d mX12_commonL 6 [.long (lN A), .retAddr 0, .long (lN B), .retAddr 0, .long (lN a), .retAddr 0, .long (lN b), .retAddr 0, v8, v9] [] μ w (x_p (some (.long (lN (Nat.gcd A B)))) μ w) := by
    intro n
    induction n with
    | zero =>
      intro a b v8 v9 ha hb2 he hg
      have hb : b = 0 := he
      subst hb
      refine xt_lload _ dX12_commonL_6 rfl ?_
      refine xt_lconst (0) dX12_commonL_8 (by decide) ?_
      refine xt_lcmp dX12_commonL_9 ?_
      refine xt_if_eq 31 dX12_commonL_10 (by decide) (fun _ => ?_) (fun q => absurd (x_lcmp0.mpr rfl) q)
      refine xt_lload _ dX12_commonL_31 rfl ?_
      exact xt_lret dX12_commonL_33 rfl ⟨by rw [← hg, Nat.gcd_zero_right], rfl, rfl⟩
    | succ n ih =>
      intro a b v8 v9 ha hb2 he hg
      refine xt_lload _ dX12_commonL_6 rfl ?_
      refine xt_lconst (0) dX12_commonL_8 (by decide) ?_
      refine xt_lcmp dX12_commonL_9 ?_
      refine xt_if_eq 31 dX12_commonL_10 (by decide) (fun t10 => ?_) (fun f10 => ?_)
      · refine xt_lload _ dX12_commonL_31 rfl ?_
        exact xt_lret dX12_commonL_33 rfl ⟨by rw [← hg, (x_lN0 (by omega)).mp (x_lcmp0.mp t10), Nat.gcd_zero_right], rfl, rfl⟩
      · refine xt_lload _ dX12_commonL_13 rfl ?_
        refine xt_lload _ dX12_commonL_15 rfl ?_
        refine xt_lrem dX12_commonL_17 (by exact fun z => f10 (x_lcmp0.mpr z)) ?_
        refine xt_lstore dX12_commonL_18 (by decide) rfl ?_
        change x_T _ _ _ _ [_, _, _, _, _, _, _, _, _, _] _ _ _ _
        refine xt_lload _ dX12_commonL_20 rfl ?_
        refine xt_lstore dX12_commonL_22 (by decide) rfl ?_
        change x_T _ _ _ _ [_, _, _, _, _, _, _, _, _, _] _ _ _ _
        refine xt_lload _ dX12_commonL_24 rfl ?_
        refine xt_lstore dX12_commonL_26 (by decide) rfl ?_
        change x_T _ _ _ _ [_, _, _, _, _, _, _, _, _, _] _ _ _ _
        refine xt_goto 6 dX12_commonL_28 (by decide) ?_
        have hb : ¬ b = 0 := fun z => f10 (x_lcmp0.mpr (by rw [z]; rfl))
        have hm : a % b < b := Nat.mod_lt _ (by omega)
        rw [pk_lRem (by omega) (by omega) (by omega)]
        exact ih b (a % b) (.long (lN (a % b))) (.retAddr 0) (by omega) (by omega) (he.resolve_left hb) (by rw [← hg]; exact s_gcd_step.symm)
  refine x_D.of (by decide) (Nat.le_of_ble_eq_true rfl) ?_
  show x_T sc d mX12_commonL 0 [.long (lN A), .retAddr 0, .long (lN B), .retAddr 0, .retAddr 0, .retAddr 0, .retAddr 0, .retAddr 0, .retAddr 0, .retAddr 0] [] μ w _
  refine xt_lload_n _ dX12_commonL_0 rfl ?_
  refine xt_lstore dX12_commonL_1 (by decide) rfl ?_
  change x_T _ _ _ _ [_, _, _, _, _, _, _, _, _, _] _ _ _ _
  refine xt_lload_n _ dX12_commonL_3 rfl ?_
  refine xt_lstore dX12_commonL_4 (by decide) rfl ?_
  change x_T _ _ _ _ [_, _, _, _, _, _, _, _, _, _] _ _ _ _
  exact L6 97 A B _ _ hA hB (s_eu_of 48 A B hB) rfl
set_option maxHeartbeats 1000000 in
theorem tX12_partL (A B : Nat) (hA : A < 2 ^ 48) (hB : B < 2 ^ 48) (h0 : 0 < B) (u : Int32) : x_D sc (d + 1) mX12_partL [.long (lN A), .long (lN B), .int u] μ w (some (.long (lN (if u = 0 then A / Nat.gcd A B else B / Nat.gcd A B)))) μ w := by
  have hg : 0 < Nat.gcd B A := Nat.gcd_pos_of_pos_left _ h0
  have hgl : Nat.gcd B A ≤ B := Nat.gcd_le_left _ h0
  have hgz : ¬ lN (Nat.gcd B A) = 0 := fun z => absurd ((x_lN0 (by omega)).mp z) (by omega)
  refine x_D.of (by decide) (Nat.le_of_ble_eq_true rfl) ?_
  show x_T sc (d + 1) mX12_partL 0 [.long (lN A), .retAddr 0, .long (lN B), .retAddr 0, .int u] [] μ w _
  refine xt_iload _ dX12_partL_0 rfl ?_
  refine xt_if_eq 9 dX12_partL_2 (by decide) (fun t2 => ?_) (fun f2 => ?_)
  · refine xt_lload_n _ dX12_partL_9 rfl ?_
    refine xt_lload_n _ dX12_partL_10 rfl ?_
    refine xt_lload_n _ dX12_partL_11 rfl ?_
    refine xt_cS _ dX12_partL_12 klX12_360 (tX12_commonL sc _ μ w B A hB hA) rfl rfl (Nat.le_of_ble_eq_true rfl) ?_
    refine xt_ldiv dX12_partL_15 (by exact hgz) ?_
    exact xt_lret dX12_partL_16 rfl ⟨by rw [if_pos t2, pk_lDiv (by omega) hg (by omega), Nat.gcd_comm], rfl, rfl⟩
  · refine xt_lload_n _ dX12_partL_5 rfl ?_
    refine xt_goto 10 dX12_partL_6 (by decide) ?_
    refine xt_lload_n _ dX12_partL_10 rfl ?_
    refine xt_lload_n _ dX12_partL_11 rfl ?_
    refine xt_cS _ dX12_partL_12 klX12_360 (tX12_commonL sc _ μ w B A hB hA) rfl rfl (Nat.le_of_ble_eq_true rfl) ?_
    refine xt_ldiv dX12_partL_15 (by exact hgz) ?_
    exact xt_lret dX12_partL_16 rfl ⟨by rw [if_neg f2, pk_lDiv (by omega) hg (by omega), Nat.gcd_comm], rfl, rfl⟩
set_option maxHeartbeats 1000000 in
theorem tX8_choose (N K : Nat) (hN : N ≤ 8) (hK : K ≤ N) : x_K sc d mX8_choose [.int (nI N), .int (nI K)] μ w (x_p (some (.long (lN (s_chC N K K)))) μ w) := by
  refine x_K.of (by decide) (Nat.le_of_ble_eq_true rfl) ?_
  show x_T sc d mX8_choose 0 [.int (nI N), .int (nI K), .retAddr 0, .retAddr 0, .retAddr 0] [] μ w _
  refine xt_iload_n _ dX8_choose_0 rfl ?_
  refine xt_if_lt 9 dX8_choose_1 (by decide) (fun q => absurd q (nI_pos (by omega))) (fun _ => ?_)
  refine xt_iload_n _ dX8_choose_4 rfl ?_
  refine xt_iload_n _ dX8_choose_5 rfl ?_
  refine xt_icmp_le 11 dX8_choose_6 (by decide) (fun _ => ?_) (fun q => absurd (nI_le hK (by omega)) q)
  refine xt_lconst (1) dX8_choose_11 (by decide) ?_
  refine xt_lstore_n dX8_choose_12 (by decide) rfl ?_
  change x_T _ _ _ _ [_, _, _, _, _] _ _ _ _
  refine xt_iconst (1) dX8_choose_13 (by decide) ?_
  refine xt_istore dX8_choose_14 (by decide) rfl ?_
  change x_T _ _ _ _ [_, _, _, _, _] _ _ _ _
  have L16 : ∀ (n16 m : Nat) , m + n16 = K → x_T sc d mX8_choose 16 [.int (nI N), .int (nI K), .long (lN (s_chC N K m)), .retAddr 0, .int (nI (m + 1))] [] μ w (x_p (some (.long (lN (s_chC N K K)))) μ w) := by
    intro n16
    induction n16 with
    | zero =>
      intro m  hmn
      obtain rfl : K = m := by omega
      refine xt_iload _ dX8_choose_16 rfl ?_
      refine xt_iload_n _ dX8_choose_18 rfl ?_
      refine xt_icmp_gt 42 dX8_choose_19 (by decide) (fun _ => ?_) (fun q => absurd (nI_lt (Nat.lt_succ_self K) (by omega)) q)
      refine xt_lload_n _ dX8_choose_42 rfl ?_
      exact xt_lret dX8_choose_43 rfl ⟨rfl, rfl, rfl⟩
    | succ n16 ih16 =>
      intro m  hmn
      have hlt : m < K := by omega
      have hch := s_chC_le N (by omega) K (by omega) m (by omega)
      have hmm : s_chC N K m * (N - K + (m + 1)) ≤ 100 * 8 := Nat.mul_le_mul hch (by omega)
      refine xt_iload _ dX8_choose_16 rfl ?_
      refine xt_iload_n _ dX8_choose_18 rfl ?_
      refine xt_icmp_gt 42 dX8_choose_19 (by decide) (fun q => absurd q (nI_nlt (by omega) (by omega))) (fun _ => ?_)
      refine xt_lload_n _ dX8_choose_22 rfl ?_
      refine xt_iload_n _ dX8_choose_23 rfl ?_
      refine xt_iload_n _ dX8_choose_24 rfl ?_
      refine xt_isub dX8_choose_25 ?_
      refine xt_iload _ dX8_choose_26 rfl ?_
      refine xt_iadd dX8_choose_28 ?_
      rw [pk_sub hK, show nI (m + 1) = nI (m + 1) from rfl, nI_add]
      refine xt_i2l dX8_choose_29 ?_
      rw [nI_l (by omega)]
      refine xt_lmul dX8_choose_30 ?_
      rw [lN_mul]
      refine xt_iload _ dX8_choose_31 rfl ?_
      refine xt_i2l dX8_choose_33 ?_
      rw [nI_l (by omega)]
      refine xt_ldiv dX8_choose_34 (by first | exact fun z => absurd ((x_lN0 (by omega)).mp z) (by omega)) ?_
      refine xt_lstore_n dX8_choose_35 (by decide) rfl ?_
      change x_T _ _ _ _ [_, _, _, _, _] _ _ _ _
      refine xt_inc _ (1) dX8_choose_36 rfl (by decide) (by decide) rfl ?_
      change x_T _ _ _ _ [_, _, _, _, _] _ _ _ _
      refine xt_goto 16 dX8_choose_39 (by decide) ?_
      refine x_T.ls ?_ (ih16 (m + 1) (by omega))
      rw [pk_lDiv (by omega) (by omega) (by omega), nI_succ (m + 1)]
      rfl
  exact L16 K 0 (by omega)
set_option maxHeartbeats 400000 in
theorem tX8_choose_no (a b : Int32) (hb : b < 0) : x_K sc d mX8_choose [.int a, .int b] μ w (x_p (some (.long 0)) μ w) := by
  refine x_K.of (by decide) (Nat.le_of_ble_eq_true rfl) ?_
  show x_T sc d mX8_choose 0 [.int a, .int b, .retAddr 0, .retAddr 0, .retAddr 0] [] μ w _
  refine xt_iload_n _ dX8_choose_0 rfl ?_
  refine xt_if_lt 9 dX8_choose_1 (by decide) (fun _ => ?_) (fun q => absurd hb q)
  refine xt_lconst (0) dX8_choose_9 (by decide) ?_
  exact xt_lret dX8_choose_10 rfl ⟨rfl, rfl, rfl⟩
set_option maxHeartbeats 1000000 in
theorem tX12_choose (N K : Nat) (hN : N ≤ 8) (hK : K ≤ N) : x_K sc (d + 1) mX12_choose [.int (nI N), .int (nI K)] μ w (x_p (some (.long (lN (s_chM N K)))) μ w) := by
  refine x_K.of (by decide) (Nat.le_of_ble_eq_true rfl) ?_
  show x_T sc (d + 1) mX12_choose 0 [.int (nI N), .int (nI K), .retAddr 0, .retAddr 0, .retAddr 0] [] μ w _
  refine xt_iload_n _ dX12_choose_0 rfl ?_
  refine xt_iconst (0) dX12_choose_1 (by decide) ?_
  refine xt_iload_n _ dX12_choose_2 rfl ?_
  refine xt_cS _ dX12_choose_3 klX12_84 (tX12_in sc _ μ w _ _ _) rfl rfl (Nat.le_of_ble_eq_true rfl) ?_
  refine xt_if_eq 13 dX12_choose_6 (by decide) (fun q => absurd q (by rw [s_in_0 (nI_pos (by omega)) (nI_nlt hK (by omega))]; decide)) (fun _ => ?_)
  refine xt_lconst (1) dX12_choose_9 (by decide) ?_
  refine xt_goto 14 dX12_choose_10 (by decide) ?_
  refine xt_lstore_n dX12_choose_14 (by decide) rfl ?_
  change x_T _ _ _ _ [_, _, _, _, _] _ _ _ _
  refine xt_iconst (0) dX12_choose_15 (by decide) ?_
  refine xt_istore dX12_choose_16 (by decide) rfl ?_
  change x_T _ _ _ _ [_, _, _, _, _] _ _ _ _
  have L18 : ∀ (n18 m : Nat) , m + n18 = K → x_T sc (d + 1) mX12_choose 18 [.int (nI N), .int (nI K), .long (lN (s_chM N m)), .retAddr 0, .int (nI m)] [] μ w (x_p (some (.long (lN (s_chM N K)))) μ w) := by
    intro n18
    induction n18 with
    | zero =>
      intro m  hmn
      obtain rfl : K = m := by omega
      refine xt_iload _ dX12_choose_18 rfl ?_
      refine xt_iload_n _ dX12_choose_20 rfl ?_
      refine xt_icmp_ge 50 dX12_choose_21 (by decide) (fun _ => ?_) (fun q => absurd (Int32.le_refl _) q)
      refine xt_lload_n _ dX12_choose_50 rfl ?_
      exact xt_lret dX12_choose_51 rfl ⟨rfl, rfl, rfl⟩
    | succ n18 ih18 =>
      intro m  hmn
      have hlt : m < K := by omega
      have hch := s_chM_le N (by omega) m (by omega)
      have hmm : s_chM N m * (N - m) ≤ 100 * 8 := Nat.mul_le_mul hch.1 (by omega)
      refine xt_iload _ dX12_choose_18 rfl ?_
      refine xt_iload_n _ dX12_choose_20 rfl ?_
      refine xt_icmp_ge 50 dX12_choose_21 (by decide) (fun q => absurd q (nI_ge hlt (by omega))) (fun _ => ?_)
      refine xt_lload_n _ dX12_choose_24 rfl ?_
      refine xt_lconst (0) dX12_choose_25 (by decide) ?_
      refine xt_lcmp dX12_choose_26 ?_
      refine xt_if_le 50 dX12_choose_27 (by decide) (fun q => absurd q (x_lcmp_pos hch.2 (by omega))) (fun _ => ?_)
      refine xt_lload_n _ dX12_choose_30 rfl ?_
      refine xt_iload_n _ dX12_choose_31 rfl ?_
      refine xt_iload _ dX12_choose_32 rfl ?_
      refine xt_isub dX12_choose_34 ?_
      rw [pk_sub (by omega)]
      refine xt_i2l dX12_choose_35 ?_
      rw [nI_l (by omega)]
      refine xt_lmul dX12_choose_36 ?_
      rw [lN_mul]
      refine xt_iload _ dX12_choose_37 rfl ?_
      refine xt_iconst (1) dX12_choose_39 (by decide) ?_
      refine xt_iadd dX12_choose_40 ?_
      rw [← nI_succ m]
      refine xt_i2l dX12_choose_41 ?_
      rw [nI_l (by omega)]
      refine xt_ldiv dX12_choose_42 (by first | exact fun z => absurd ((x_lN0 (by omega)).mp z) (by omega)) ?_
      refine xt_lstore_n dX12_choose_43 (by decide) rfl ?_
      change x_T _ _ _ _ [_, _, _, _, _] _ _ _ _
      refine xt_inc _ (1) dX12_choose_44 rfl (by decide) (by decide) rfl ?_
      change x_T _ _ _ _ [_, _, _, _, _] _ _ _ _
      refine xt_goto 18 dX12_choose_47 (by decide) ?_
      refine x_T.ls ?_ (ih18 (m + 1) (by omega))
      rw [pk_lDiv (by omega) (by omega) (by omega), nI_succ m]
      rfl
  exact L18 (K) 0  (by omega)
set_option maxHeartbeats 400000 in
theorem tX12_choose_no (a b : Int32) (hb : b < 0) : x_K sc (d + 1) mX12_choose [.int a, .int b] μ w (x_p (some (.long 0)) μ w) := by
  refine x_K.of (by decide) (Nat.le_of_ble_eq_true rfl) ?_
  show x_T sc (d + 1) mX12_choose 0 [.int a, .int b, .retAddr 0, .retAddr 0, .retAddr 0] [] μ w _
  refine xt_iload_n _ dX12_choose_0 rfl ?_
  refine xt_iconst (0) dX12_choose_1 (by decide) ?_
  refine xt_iload_n _ dX12_choose_2 rfl ?_
  refine xt_cS _ dX12_choose_3 klX12_84 (tX12_in sc _ μ w _ _ _) rfl rfl (Nat.le_of_ble_eq_true rfl) ?_
  refine xt_if_eq 13 dX12_choose_6 (by decide) (fun _ => ?_) (fun q => absurd (by rw [s_in, if_pos hb]) q)
  refine xt_lconst (0) dX12_choose_13 (by decide) ?_
  refine xt_lstore_n dX12_choose_14 (by decide) rfl ?_
  change x_T _ _ _ _ [_, _, _, _, _] _ _ _ _
  refine xt_iconst (0) dX12_choose_15 (by decide) ?_
  refine xt_istore dX12_choose_16 (by decide) rfl ?_
  change x_T _ _ _ _ [_, _, _, _, _] _ _ _ _
  refine xt_iload _ dX12_choose_18 rfl ?_
  refine xt_iload_n _ dX12_choose_20 rfl ?_
  refine xt_icmp_ge 50 dX12_choose_21 (by decide) (fun _ => ?_) (fun q => absurd (Int32.le_of_lt hb) q)
  refine xt_lload_n _ dX12_choose_50 rfl ?_
  exact xt_lret dX12_choose_51 rfl ⟨rfl, rfl, rfl⟩
end CALM
theorem s_in_out {a : Int32} {N : Nat} (h : ¬ (0 ≤ a ∧ a ≤ nI N)) : s_in a 0 (nI N) = 0 := by
  unfold s_in
  by_cases h1 : a < 0
  · rw [if_pos h1]
  · rw [if_neg h1, if_pos (Int32.not_le.mp (fun z => h ⟨Int32.not_lt.mp h1, z⟩))]
set_option maxHeartbeats 1000000 in
theorem st_calm (sc : Nat × (Nat → Int32)) (a1 a2 u : Int32) : x_stL sc (fun μ _ => x_Inv μ) (fun μ _ => x_Inv μ) mX11_calm mX12_calm [.int a1, .int a2, .int u] := by
  refine x_stFL (-1) ?_ ?_ ?_
  · intro μ w c hc e hk
    refine x_K.of (by decide) (Nat.le_of_ble_eq_true rfl) ?_
    show x_T sc 29 mX11_calm 0 [.ref 0, .int a1, .int a2, .int u, .retAddr 0, .retAddr 0] [] μ w _
    refine xt_aload_n _ dX11_calm_0 rfl ?_
    refine xt_iload_n _ dX11_calm_1 rfl ?_
    refine xt_cV _ dX11_calm_2 klX11_90 (tX11_fairOf_no sc _ μ w c hc e _ hk) sh0 rfl rfl (Nat.le_of_ble_eq_true rfl) ?_
    refine xt_astore0 dX11_calm_5 (by decide) rfl ?_
    change x_T _ _ _ _ [_, _, _, _, _, _] _ _ _ _
    refine xt_aload0 dX11_calm_7 rfl ?_
    refine xt_ifnull_n 22 dX11_calm_9 (by decide) ?_
    refine xt_ldc2 _ dX11_calm_22 kkX11_299 ?_
    exact xt_lret dX11_calm_25 rfl ⟨rfl, x_keep.rf μ⟩
  · intro μ w c hc e hk
    refine x_K.of (by decide) (Nat.le_of_ble_eq_true rfl) ?_
    show x_T sc 29 mX12_calm 0 [.ref 152, .int a1, .int a2, .int u, .retAddr 0] [] μ w _
    refine xt_aload_n _ dX12_calm_0 rfl ?_
    refine xt_iconst (0) dX12_calm_1 (by decide) ?_
    refine xt_puti dX12_calm_2 kpX12_72 (by first | exact sh152 | rfl | assumption) rfl (by first | rfl | assumption) (by first | rfl | assumption) ?_
    refine xt_iload_n _ dX12_calm_5 rfl ?_
    refine xt_iconst (0) dX12_calm_6 (by decide) ?_
    refine xt_bipush (10) dX12_calm_7 (by decide) ?_
    refine xt_cS _ dX12_calm_9 klX12_84 (tX12_in sc _ _ w _ _ _) rfl rfl (Nat.le_of_ble_eq_true rfl) ?_
    refine xt_if_eq 23 dX12_calm_12 (by decide) (fun t12 => ?_) (fun f12 => ?_)
    · refine xt_ldc2 _ dX12_calm_23 kkX12_535 ?_
      exact xt_lret dX12_calm_26 rfl ⟨rfl, (x_keep.u (x_keep.rf μ) (by unfold x_ok; omega))⟩
    · refine xt_aload_n _ dX12_calm_15 rfl ?_
      refine xt_iload_n _ dX12_calm_16 rfl ?_
      refine xt_cV _ dX12_calm_17 klX12_300 (tX12_hand_no sc _ (x_u μ 152 (upd (μ 152) 0 0)) w c hc e _ hk) sh152 rfl rfl (Nat.le_of_ble_eq_true rfl) ?_
      refine xt_if_ne 27 dX12_calm_20 (by decide) (fun q => absurd (by decide) q) (fun _ => ?_)
      refine xt_ldc2 _ dX12_calm_23 kkX12_535 ?_
      exact xt_lret dX12_calm_26 rfl ⟨rfl, (x_keep.u (x_keep.rf μ) (by unfold x_ok; omega))⟩
  · intro f F hf2 hkk hW
    subst hkk
    have h8 := hW.1.2.2.2.2.1
    have hO : (s_cnt (s_off F (fun _ => false) 0) (F 4)) ≤ 8 := Nat.le_trans (s_cnt_le _ _) h8
    by_cases hr : 0 ≤ a2 ∧ a2 ≤ nI 10
    · obtain ⟨p, hp, rfl⟩ := x_rng (N := 10) (by decide) hr
      have hp1 : 10 ^ (s_cnt (s_off F (fun _ => false) 0) (F 4)) ≤ 10 ^ 8 := Nat.pow_le_pow_right (by decide) hO
      have hp2 : (10 - p) ^ (s_cnt (s_off F (fun _ => false) 0) (F 4)) ≤ 10 ^ (s_cnt (s_off F (fun _ => false) 0) (F 4)) := Nat.pow_le_pow_left (by omega) _
      have hp3 : 0 < 10 ^ (s_cnt (s_off F (fun _ => false) 0) (F 4)) := Nat.pow_pos (by decide)
      refine ⟨lN (if u = 0 then (10 - p) ^ (s_cnt (s_off F (fun _ => false) 0) (F 4)) / Nat.gcd ((10 - p) ^ (s_cnt (s_off F (fun _ => false) 0) (F 4))) (10 ^ (s_cnt (s_off F (fun _ => false) 0) (F 4))) else 10 ^ (s_cnt (s_off F (fun _ => false) 0) (F 4)) / Nat.gcd ((10 - p) ^ (s_cnt (s_off F (fun _ => false) 0) (F 4))) (10 ^ (s_cnt (s_off F (fun _ => false) 0) (F 4)))), ?_, ?_⟩
      · intro μ w c hf hc e hC
        have hS := f_Sf hf2
        refine x_K.of (by decide) (Nat.le_of_ble_eq_true rfl) ?_
        show x_T sc 29 mX11_calm 0 [.ref 0, .int (nI f), .int (nI p), .int u, .retAddr 0, .retAddr 0] [] μ w _
        refine xt_aload_n _ dX11_calm_0 rfl ?_
        refine xt_iload_n _ dX11_calm_1 rfl ?_
        refine xt_cV _ dX11_calm_2 klX11_90 (tX11_fairOf sc _ μ w f c hf hc e) sh0 rfl rfl (Nat.le_of_ble_eq_true rfl) ?_
        refine xt_astore dX11_calm_5 (by decide) rfl ?_
        change x_T _ _ _ _ [_, _, _, _, _, _] _ _ _ _
        refine xt_aload _ dX11_calm_7 rfl ?_
        refine xt_ifnull_r dX11_calm_9 ?_
        refine xt_iload_n _ dX11_calm_12 rfl ?_
        refine xt_if_lt 22 dX11_calm_13 (by decide) (fun q => absurd q (nI_pos (by omega))) (fun _ => ?_)
        refine xt_iload_n _ dX11_calm_16 rfl ?_
        refine xt_bipush (10) dX11_calm_17 (by decide) ?_
        refine xt_icmp_le 26 dX11_calm_19 (by decide) (fun _ => ?_) (fun q => absurd (nI_le (b := 10) hp (by decide)) q)
        refine xt_aload _ dX11_calm_26 rfl ?_
        refine xt_iconst (0) dX11_calm_28 (by decide) ?_
        refine xt_cV _ dX11_calm_29 klX11_301 (tX2_offenders sc _ w hS hC hW 0 (fun _ => false) s_str0) hS.1 rfl rfl (Nat.le_of_ble_eq_true rfl) ?_
        refine xt_cS _ dX11_calm_32 klX11_253 (tJ_bitCount sc _ w _) rfl rfl (Nat.le_of_ble_eq_true rfl) ?_
        rw [s_bc_bits _ h8]
        refine xt_istore dX11_calm_35 (by decide) rfl ?_
        change x_T _ _ _ _ [_, _, _, _, _, _] _ _ _ _
        refine xt_bipush (10) dX11_calm_37 (by decide) ?_
        refine xt_iload_n _ dX11_calm_39 rfl ?_
        refine xt_isub dX11_calm_40 ?_
        refine xt_iload _ dX11_calm_41 rfl ?_
        rw [show (10 : Int32) - nI p = nI (10 - p) from pk_sub (a := 10) (by omega)]
        refine xt_cS _ dX11_calm_43 klX11_304 (tX8_power sc _ μ w (10 - p) (s_cnt (s_off F (fun _ => false) 0) (F 4)) (by omega) hO) rfl rfl (Nat.le_of_ble_eq_true rfl) ?_
        refine xt_bipush (10) dX11_calm_46 (by decide) ?_
        refine xt_iload _ dX11_calm_48 rfl ?_
        refine xt_cS _ dX11_calm_50 klX11_304 (tX8_power sc _ μ w 10 (s_cnt (s_off F (fun _ => false) 0) (F 4)) (by decide) hO) rfl rfl (Nat.le_of_ble_eq_true rfl) ?_
        refine xt_iload_n _ dX11_calm_53 rfl ?_
        refine xt_cS _ dX11_calm_54 klX11_237 (tX8_part sc _ μ w ((10 - p) ^ (s_cnt (s_off F (fun _ => false) 0) (F 4))) (10 ^ (s_cnt (s_off F (fun _ => false) 0) (F 4))) (by omega) (by omega) hp3 u) rfl rfl (Nat.le_of_ble_eq_true rfl) ?_
        exact xt_lret dX11_calm_57 rfl ⟨rfl, x_keep.rf μ⟩
      · intro μ w c hf hc e hF
        refine x_K.of (by decide) (Nat.le_of_ble_eq_true rfl) ?_
        show x_T sc 29 mX12_calm 0 [.ref 152, .int (nI f), .int (nI p), .int u, .retAddr 0] [] μ w _
        refine xt_aload_n _ dX12_calm_0 rfl ?_
        refine xt_iconst (0) dX12_calm_1 (by decide) ?_
        refine xt_puti dX12_calm_2 kpX12_72 (by first | exact sh152 | rfl | assumption) rfl (by first | rfl | assumption) (by first | rfl | assumption) ?_
        refine xt_iload_n _ dX12_calm_5 rfl ?_
        refine xt_iconst (0) dX12_calm_6 (by decide) ?_
        refine xt_bipush (10) dX12_calm_7 (by decide) ?_
        refine xt_cS _ dX12_calm_9 klX12_84 (tX12_in sc _ _ w _ _ _) rfl rfl (Nat.le_of_ble_eq_true rfl) ?_
        refine xt_if_eq 23 dX12_calm_12 (by decide) (fun q => absurd q (s_in_nI (n := p) (N := 10) hp (by decide))) (fun _ => ?_)
        refine xt_aload_n _ dX12_calm_15 rfl ?_
        refine xt_iload_n _ dX12_calm_16 rfl ?_
        refine xt_callV _ dX12_calm_17 klX12_300 (tX12_hand sc _ (x_u μ 152 (upd (μ 152) 0 0)) w f c F hf hc e hF) sh152 rfl rfl (Nat.le_of_ble_eq_true rfl) (fun r1 μ1 w1 q1 => ?_)
        obtain ⟨rfl, rfl, hS, h0, hfr⟩ := q1
        change x_T _ _ _ _ _ (.int 1 :: _) _ _ _
        refine xt_if_ne 27 dX12_calm_20 (by decide) (fun _ => ?_) (fun q => absurd q (by decide))
        refine xt_aload_n _ dX12_calm_27 rfl ?_
        refine xt_cV _ dX12_calm_28 klX12_322 (tX12_offenders sc _ μ1 _ f F hS hW 0 (fun _ => false) s_strM0 0 0 (by decide) (by decide) h0.2.2.2.2.2.1 h0.2.2.2.2.2.2.1 h0.2.2.2.2.2.2.2) sh152 rfl rfl (Nat.le_of_ble_eq_true rfl) ?_
        rw [s_any_offs]
        refine xt_cS _ dX12_calm_31 klX12_412 (tX12_ones sc _ μ1 _ _ (s_offs_lt hW _)) rfl rfl (Nat.le_of_ble_eq_true rfl) ?_
        rw [show s_cnt (fun i => (s_offs F (fun _ => false)).testBit i) 8 = s_cnt (s_off F (fun _ => false) 0) (F 4) from s_pop_bits _ h8]
        refine xt_istore dX12_calm_34 (by decide) rfl ?_
        change x_T _ _ _ _ [_, _, _, _, _] _ _ _ _
        refine xt_ldc2 _ dX12_calm_36 kkX12_537 ?_
        refine xt_iload_n _ dX12_calm_39 rfl ?_
        refine xt_i2l dX12_calm_40 ?_
        refine xt_lsub dX12_calm_41 ?_
        refine xt_iload _ dX12_calm_42 rfl ?_
        rw [nI_l (by omega), show (10 : Int64) - lN p = lN (10 - p) from lN_sub (a := 10) (by omega)]
        refine xt_cS _ dX12_calm_44 klX12_539 (tX12_times sc _ μ1 _ (10 - p) (s_cnt (s_off F (fun _ => false) 0) (F 4)) (by omega) hO) rfl rfl (Nat.le_of_ble_eq_true rfl) ?_
        refine xt_ldc2 _ dX12_calm_47 kkX12_537 ?_
        refine xt_iload _ dX12_calm_50 rfl ?_
        refine xt_cS _ dX12_calm_52 klX12_539 (tX12_times sc _ μ1 _ 10 (s_cnt (s_off F (fun _ => false) 0) (F 4)) (by decide) hO) rfl rfl (Nat.le_of_ble_eq_true rfl) ?_
        refine xt_iload_n _ dX12_calm_55 rfl ?_
        refine xt_cS _ dX12_calm_56 klX12_543 (tX12_partL sc _ μ1 _ ((10 - p) ^ (s_cnt (s_off F (fun _ => false) 0) (F 4))) (10 ^ (s_cnt (s_off F (fun _ => false) 0) (F 4))) (by omega) (by omega) hp3 u) rfl rfl (Nat.le_of_ble_eq_true rfl) ?_
        exact xt_lret dX12_calm_59 rfl ⟨rfl, (x_keep.hand hfr)⟩
    · have ho := x_out (N := 10) (by decide) hr
      refine ⟨-1, ?_, ?_⟩
      · intro μ w c hf hc e hC
        have hS := f_Sf hf2
        refine x_K.of (by decide) (Nat.le_of_ble_eq_true rfl) ?_
        show x_T sc 29 mX11_calm 0 [.ref 0, .int (nI f), .int a2, .int u, .retAddr 0, .retAddr 0] [] μ w _
        refine xt_aload_n _ dX11_calm_0 rfl ?_
        refine xt_iload_n _ dX11_calm_1 rfl ?_
        refine xt_cV _ dX11_calm_2 klX11_90 (tX11_fairOf sc _ μ w f c hf hc e) sh0 rfl rfl (Nat.le_of_ble_eq_true rfl) ?_
        refine xt_astore dX11_calm_5 (by decide) rfl ?_
        change x_T _ _ _ _ [_, _, _, _, _, _] _ _ _ _
        refine xt_aload _ dX11_calm_7 rfl ?_
        refine xt_ifnull_r dX11_calm_9 ?_
        refine xt_iload_n _ dX11_calm_12 rfl ?_
        refine xt_if_lt 22 dX11_calm_13 (by decide) (fun t13 => ?_) (fun f13 => ?_)
        · refine xt_ldc2 _ dX11_calm_22 kkX11_299 ?_
          exact xt_lret dX11_calm_25 rfl ⟨rfl, x_keep.rf μ⟩
        · refine xt_iload_n _ dX11_calm_16 rfl ?_
          refine xt_bipush (10) dX11_calm_17 (by decide) ?_
          refine xt_icmp_le 26 dX11_calm_19 (by decide) (fun t19 => ?_) (fun f19 => ?_)
          · exact absurd ⟨Int32.not_lt.mp f13, t19⟩ hr
          · refine xt_ldc2 _ dX11_calm_22 kkX11_299 ?_
            exact xt_lret dX11_calm_25 rfl ⟨rfl, x_keep.rf μ⟩
      · intro μ w c hf hc e hF
        refine x_K.of (by decide) (Nat.le_of_ble_eq_true rfl) ?_
        show x_T sc 29 mX12_calm 0 [.ref 152, .int (nI f), .int a2, .int u, .retAddr 0] [] μ w _
        refine xt_aload_n _ dX12_calm_0 rfl ?_
        refine xt_iconst (0) dX12_calm_1 (by decide) ?_
        refine xt_puti dX12_calm_2 kpX12_72 (by first | exact sh152 | rfl | assumption) rfl (by first | rfl | assumption) (by first | rfl | assumption) ?_
        refine xt_iload_n _ dX12_calm_5 rfl ?_
        refine xt_iconst (0) dX12_calm_6 (by decide) ?_
        refine xt_bipush (10) dX12_calm_7 (by decide) ?_
        refine xt_cS _ dX12_calm_9 klX12_84 (tX12_in sc _ _ w _ _ _) rfl rfl (Nat.le_of_ble_eq_true rfl) ?_
        refine xt_if_eq 23 dX12_calm_12 (by decide) (fun _ => ?_) (fun q => absurd (s_in_out hr) q)
        refine xt_ldc2 _ dX12_calm_23 kkX12_535 ?_
        exact xt_lret dX12_calm_26 rfl ⟨rfl, (x_keep.u (x_keep.rf μ) (by unfold x_ok; omega))⟩
set_option maxHeartbeats 2000000 in
theorem st_guess (sc : Nat × (Nat → Int32)) (a1 a2 u : Int32) : x_stL sc (fun μ _ => x_Inv μ) (fun μ _ => x_Inv μ) mX11_guess mX12_guess [.int a1, .int a2, .int u] := by
  refine x_stFL (-1) ?_ ?_ ?_
  · intro μ w c hc e hk
    refine x_K.of (by decide) (Nat.le_of_ble_eq_true rfl) ?_
    show x_T sc 29 mX11_guess 0 [.ref 0, .int a1, .int a2, .int u, .retAddr 0, .retAddr 0, .retAddr 0, .retAddr 0] [] μ w _
    refine xt_aload_n _ dX11_guess_0 rfl ?_
    refine xt_iload_n _ dX11_guess_1 rfl ?_
    refine xt_cV _ dX11_guess_2 klX11_90 (tX11_fairOf_no sc _ μ w c hc e _ hk) sh0 rfl rfl (Nat.le_of_ble_eq_true rfl) ?_
    refine xt_astore0 dX11_guess_5 (by decide) rfl ?_
    change x_T _ _ _ _ [_, _, _, _, _, _, _, _] _ _ _ _
    refine xt_aload0 dX11_guess_7 rfl ?_
    refine xt_ifnull_n 25 dX11_guess_9 (by decide) ?_
    refine xt_ldc2 _ dX11_guess_25 kkX11_299 ?_
    exact xt_lret dX11_guess_28 rfl ⟨rfl, x_keep.rf μ⟩
  · intro μ w c hc e hk
    refine x_K.of (by decide) (Nat.le_of_ble_eq_true rfl) ?_
    show x_T sc 29 mX12_guess 0 [.ref 152, .int a1, .int a2, .int u, .retAddr 0] [] μ w _
    refine xt_aload_n _ dX12_guess_0 rfl ?_
    refine xt_iconst (0) dX12_guess_1 (by decide) ?_
    refine xt_puti dX12_guess_2 kpX12_72 (by first | exact sh152 | rfl | assumption) rfl (by first | rfl | assumption) (by first | rfl | assumption) ?_
    refine xt_iload_n _ dX12_guess_5 rfl ?_
    refine xt_iconst (0) dX12_guess_6 (by decide) ?_
    refine xt_bipush (8) dX12_guess_7 (by decide) ?_
    refine xt_cS _ dX12_guess_9 klX12_84 (tX12_in sc _ _ w _ _ _) rfl rfl (Nat.le_of_ble_eq_true rfl) ?_
    refine xt_if_eq 31 dX12_guess_12 (by decide) (fun t12 => ?_) (fun f12 => ?_)
    · refine xt_ldc2 _ dX12_guess_31 kkX12_535 ?_
      exact xt_lret dX12_guess_34 rfl ⟨rfl, (x_keep.u (x_keep.rf μ) (by unfold x_ok; omega))⟩
    · refine xt_aload_n _ dX12_guess_15 rfl ?_
      refine xt_iload_n _ dX12_guess_16 rfl ?_
      refine xt_cV _ dX12_guess_17 klX12_300 (tX12_hand_no sc _ (x_u μ 152 (upd (μ 152) 0 0)) w c hc e _ hk) sh152 rfl rfl (Nat.le_of_ble_eq_true rfl) ?_
      refine xt_if_eq 31 dX12_guess_20 (by decide) (fun _ => ?_) (fun q => absurd (by decide) q)
      refine xt_ldc2 _ dX12_guess_31 kkX12_535 ?_
      exact xt_lret dX12_guess_34 rfl ⟨rfl, (x_keep.u (x_keep.rf μ) (by unfold x_ok; omega))⟩
  · intro f F hf2 hkk hW
    subst hkk
    have h8 := hW.1.2.2.2.2.1
    have hO : (s_cnt (s_off F (fun _ => false) 0) (F 4)) ≤ 8 := Nat.le_trans (s_cnt_le _ _) h8
    have hOF : (s_cnt (s_off F (fun _ => false) 0) (F 4)) ≤ F 4 := s_cnt_le _ _
    by_cases hr : 0 ≤ a2 ∧ a2 ≤ nI (F 4)
    · obtain ⟨n, hnF, rfl⟩ := x_rng (N := F 4) (by omega) hr
      have hY := s_chM_le (F 4) (by omega) n (by omega)
      by_cases hno : (s_cnt (s_off F (fun _ => false) 0) (F 4)) ≤ n
      · have hX := s_chM_le (F 4 - (s_cnt (s_off F (fun _ => false) 0) (F 4))) (by omega) (n - (s_cnt (s_off F (fun _ => false) 0) (F 4))) (by omega)
        refine ⟨lN (if u = 0 then (s_chM (F 4 - (s_cnt (s_off F (fun _ => false) 0) (F 4))) (n - (s_cnt (s_off F (fun _ => false) 0) (F 4)))) / Nat.gcd (s_chM (F 4 - (s_cnt (s_off F (fun _ => false) 0) (F 4))) (n - (s_cnt (s_off F (fun _ => false) 0) (F 4)))) (s_chM (F 4) n) else (s_chM (F 4) n) / Nat.gcd (s_chM (F 4 - (s_cnt (s_off F (fun _ => false) 0) (F 4))) (n - (s_cnt (s_off F (fun _ => false) 0) (F 4)))) (s_chM (F 4) n)), ?_, ?_⟩
        · intro μ w c hf hc e hC
          have hS := f_Sf hf2
          refine x_K.of (by decide) (Nat.le_of_ble_eq_true rfl) ?_
          show x_T sc 29 mX11_guess 0 [.ref 0, .int (nI f), .int (nI n), .int u, .retAddr 0, .retAddr 0, .retAddr 0, .retAddr 0] [] μ w _
          refine xt_aload_n _ dX11_guess_0 rfl ?_
          refine xt_iload_n _ dX11_guess_1 rfl ?_
          refine xt_cV _ dX11_guess_2 klX11_90 (tX11_fairOf sc _ μ w f c hf hc e) sh0 rfl rfl (Nat.le_of_ble_eq_true rfl) ?_
          refine xt_astore dX11_guess_5 (by decide) rfl ?_
          change x_T _ _ _ _ [_, _, _, _, _, _, _, _] _ _ _ _
          refine xt_aload _ dX11_guess_7 rfl ?_
          refine xt_ifnull_r dX11_guess_9 ?_
          refine xt_iload_n _ dX11_guess_12 rfl ?_
          refine xt_if_lt 25 dX11_guess_13 (by decide) (fun q => absurd q (nI_pos (by omega))) (fun _ => ?_)
          refine xt_iload_n _ dX11_guess_16 rfl ?_
          refine xt_aload _ dX11_guess_17 rfl ?_
          refine xt_geti dX11_guess_19 kfX11_131 (by first | exact sh0 | exact sh1 | exact hS.1 | rfl | assumption) rfl ?_
          refine xt_icmp_le 29 dX11_guess_22 (by decide) (fun _ => ?_) (fun q => absurd (by rw [hC.1 4 (by decide)]; exact nI_le hnF (by omega)) q)
          refine xt_aload _ dX11_guess_29 rfl ?_
          refine xt_iconst (0) dX11_guess_31 (by decide) ?_
          refine xt_cV _ dX11_guess_32 klX11_301 (tX2_offenders sc _ w hS hC hW 0 (fun _ => false) s_str0) hS.1 rfl rfl (Nat.le_of_ble_eq_true rfl) ?_
          refine xt_cS _ dX11_guess_35 klX11_253 (tJ_bitCount sc _ w _) rfl rfl (Nat.le_of_ble_eq_true rfl) ?_
          rw [s_bc_bits _ h8]
          refine xt_istore dX11_guess_38 (by decide) rfl ?_
          change x_T _ _ _ _ [_, _, _, _, _, _, _, _] _ _ _ _
          refine xt_aload _ dX11_guess_40 rfl ?_
          refine xt_geti dX11_guess_42 kfX11_131 (by first | exact sh0 | exact sh1 | exact hS.1 | rfl | assumption) rfl ?_
          refine xt_iload _ dX11_guess_45 rfl ?_
          refine xt_isub dX11_guess_47 ?_
          refine xt_iload_n _ dX11_guess_48 rfl ?_
          refine xt_iload _ dX11_guess_49 rfl ?_
          refine xt_isub dX11_guess_51 ?_
          rw [hC.1 4 (by decide), pk_sub hOF, pk_sub hno]
          refine xt_cS _ dX11_guess_52 klX11_311 (tX8_choose sc _ μ w (F 4 - (s_cnt (s_off F (fun _ => false) 0) (F 4))) (n - (s_cnt (s_off F (fun _ => false) 0) (F 4))) (by omega) (by omega)) rfl rfl (Nat.le_of_ble_eq_true rfl) ?_
          rw [s_ch_eq (F 4 - (s_cnt (s_off F (fun _ => false) 0) (F 4))) (by omega) (n - (s_cnt (s_off F (fun _ => false) 0) (F 4))) (by omega)]
          refine xt_lstore dX11_guess_55 (by decide) rfl ?_
          change x_T _ _ _ _ [_, _, _, _, _, _, _, _] _ _ _ _
          refine xt_lload _ dX11_guess_57 rfl ?_
          refine xt_aload _ dX11_guess_59 rfl ?_
          refine xt_geti dX11_guess_61 kfX11_131 (by first | exact sh0 | exact sh1 | exact hS.1 | rfl | assumption) rfl ?_
          refine xt_iload_n _ dX11_guess_64 rfl ?_
          rw [hC.1 4 (by decide)]
          refine xt_cS _ dX11_guess_65 klX11_311 (tX8_choose sc _ μ w (F 4) n (by omega) hnF) rfl rfl (Nat.le_of_ble_eq_true rfl) ?_
          rw [s_ch_eq (F 4) (by omega) n (by omega)]
          refine xt_iload_n _ dX11_guess_68 rfl ?_
          refine xt_cS _ dX11_guess_69 klX11_237 (tX8_part sc _ μ w (s_chM (F 4 - (s_cnt (s_off F (fun _ => false) 0) (F 4))) (n - (s_cnt (s_off F (fun _ => false) 0) (F 4)))) (s_chM (F 4) n) (by omega) (by omega) hY.2 u) rfl rfl (Nat.le_of_ble_eq_true rfl) ?_
          exact xt_lret dX11_guess_72 rfl ⟨rfl, x_keep.rf μ⟩
        · intro μ w c hf hc e hF
          refine x_K.of (by decide) (Nat.le_of_ble_eq_true rfl) ?_
          show x_T sc 29 mX12_guess 0 [.ref 152, .int (nI f), .int (nI n), .int u, .retAddr 0] [] μ w _
          refine xt_aload_n _ dX12_guess_0 rfl ?_
          refine xt_iconst (0) dX12_guess_1 (by decide) ?_
          refine xt_puti dX12_guess_2 kpX12_72 (by first | exact sh152 | rfl | assumption) rfl (by first | rfl | assumption) (by first | rfl | assumption) ?_
          refine xt_iload_n _ dX12_guess_5 rfl ?_
          refine xt_iconst (0) dX12_guess_6 (by decide) ?_
          refine xt_bipush (8) dX12_guess_7 (by decide) ?_
          refine xt_cS _ dX12_guess_9 klX12_84 (tX12_in sc _ _ w _ _ _) rfl rfl (Nat.le_of_ble_eq_true rfl) ?_
          refine xt_if_eq 31 dX12_guess_12 (by decide) (fun q => absurd q (s_in_nI (n := n) (N := 8) (by omega) (by decide))) (fun _ => ?_)
          refine xt_aload_n _ dX12_guess_15 rfl ?_
          refine xt_iload_n _ dX12_guess_16 rfl ?_
          refine xt_callV _ dX12_guess_17 klX12_300 (tX12_hand sc _ (x_u μ 152 (upd (μ 152) 0 0)) w f c F hf hc e hF) sh152 rfl rfl (Nat.le_of_ble_eq_true rfl) (fun r1 μ1 w1 q1 => ?_)
          obtain ⟨rfl, rfl, hS, h0, hfr⟩ := q1
          change x_T _ _ _ _ _ (.int 1 :: _) _ _ _
          have e4 : μ1 152 24 = nI (F 4) := hS.1.2.2.2.1
          refine xt_if_eq 31 dX12_guess_20 (by decide) (fun q => absurd q (by decide)) (fun _ => ?_)
          refine xt_aload_n _ dX12_guess_23 rfl ?_
          refine xt_geti dX12_guess_24 kfX12_251 (by first | exact sh152 | rfl | assumption) rfl ?_
          refine xt_iload_n _ dX12_guess_27 rfl ?_
          refine xt_icmp_ge 35 dX12_guess_28 (by decide) (fun _ => ?_) (fun q => absurd (by rw [e4]; exact nI_le hnF (by omega)) q)
          refine xt_aload_n _ dX12_guess_35 rfl ?_
          refine xt_cV _ dX12_guess_36 klX12_322 (tX12_offenders sc _ μ1 _ f F hS hW 0 (fun _ => false) s_strM0 0 0 (by decide) (by decide) h0.2.2.2.2.2.1 h0.2.2.2.2.2.2.1 h0.2.2.2.2.2.2.2) sh152 rfl rfl (Nat.le_of_ble_eq_true rfl) ?_
          rw [s_any_offs]
          refine xt_cS _ dX12_guess_39 klX12_412 (tX12_ones sc _ μ1 _ _ (s_offs_lt hW _)) rfl rfl (Nat.le_of_ble_eq_true rfl) ?_
          rw [show s_cnt (fun i => (s_offs F (fun _ => false)).testBit i) 8 = s_cnt (s_off F (fun _ => false) 0) (F 4) from s_pop_bits _ h8]
          refine xt_istore dX12_guess_42 (by decide) rfl ?_
          change x_T _ _ _ _ [_, _, _, _, _] _ _ _ _
          refine xt_aload_n _ dX12_guess_44 rfl ?_
          refine xt_geti dX12_guess_45 kfX12_251 (by first | exact sh152 | rfl | assumption) rfl ?_
          refine xt_iload _ dX12_guess_48 rfl ?_
          refine xt_isub dX12_guess_50 ?_
          refine xt_iload_n _ dX12_guess_51 rfl ?_
          refine xt_iload _ dX12_guess_52 rfl ?_
          refine xt_isub dX12_guess_54 ?_
          rw [e4, pk_sub hOF, pk_sub hno]
          refine xt_cS _ dX12_guess_55 klX12_547 (tX12_choose sc _ μ1 _ (F 4 - (s_cnt (s_off F (fun _ => false) 0) (F 4))) (n - (s_cnt (s_off F (fun _ => false) 0) (F 4))) (by omega) (by omega)) rfl rfl (Nat.le_of_ble_eq_true rfl) ?_
          refine xt_aload_n _ dX12_guess_58 rfl ?_
          refine xt_geti dX12_guess_59 kfX12_251 (by first | exact sh152 | rfl | assumption) rfl ?_
          refine xt_iload_n _ dX12_guess_62 rfl ?_
          rw [e4]
          refine xt_cS _ dX12_guess_63 klX12_547 (tX12_choose sc _ μ1 _ (F 4) n h8 hnF) rfl rfl (Nat.le_of_ble_eq_true rfl) ?_
          refine xt_iload_n _ dX12_guess_66 rfl ?_
          refine xt_cS _ dX12_guess_67 klX12_543 (tX12_partL sc _ μ1 _ (s_chM (F 4 - (s_cnt (s_off F (fun _ => false) 0) (F 4))) (n - (s_cnt (s_off F (fun _ => false) 0) (F 4)))) (s_chM (F 4) n) (by omega) (by omega) hY.2 u) rfl rfl (Nat.le_of_ble_eq_true rfl) ?_
          exact xt_lret dX12_guess_70 rfl ⟨rfl, (x_keep.hand hfr)⟩
      · skip
        refine ⟨lN (if u = 0 then 0 / Nat.gcd 0 (s_chM (F 4) n) else (s_chM (F 4) n) / Nat.gcd 0 (s_chM (F 4) n)), ?_, ?_⟩
        · intro μ w c hf hc e hC
          have hS := f_Sf hf2
          refine x_K.of (by decide) (Nat.le_of_ble_eq_true rfl) ?_
          show x_T sc 29 mX11_guess 0 [.ref 0, .int (nI f), .int (nI n), .int u, .retAddr 0, .retAddr 0, .retAddr 0, .retAddr 0] [] μ w _
          refine xt_aload_n _ dX11_guess_0 rfl ?_
          refine xt_iload_n _ dX11_guess_1 rfl ?_
          refine xt_cV _ dX11_guess_2 klX11_90 (tX11_fairOf sc _ μ w f c hf hc e) sh0 rfl rfl (Nat.le_of_ble_eq_true rfl) ?_
          refine xt_astore dX11_guess_5 (by decide) rfl ?_
          change x_T _ _ _ _ [_, _, _, _, _, _, _, _] _ _ _ _
          refine xt_aload _ dX11_guess_7 rfl ?_
          refine xt_ifnull_r dX11_guess_9 ?_
          refine xt_iload_n _ dX11_guess_12 rfl ?_
          refine xt_if_lt 25 dX11_guess_13 (by decide) (fun q => absurd q (nI_pos (by omega))) (fun _ => ?_)
          refine xt_iload_n _ dX11_guess_16 rfl ?_
          refine xt_aload _ dX11_guess_17 rfl ?_
          refine xt_geti dX11_guess_19 kfX11_131 (by first | exact sh0 | exact sh1 | exact hS.1 | rfl | assumption) rfl ?_
          refine xt_icmp_le 29 dX11_guess_22 (by decide) (fun _ => ?_) (fun q => absurd (by rw [hC.1 4 (by decide)]; exact nI_le hnF (by omega)) q)
          refine xt_aload _ dX11_guess_29 rfl ?_
          refine xt_iconst (0) dX11_guess_31 (by decide) ?_
          refine xt_cV _ dX11_guess_32 klX11_301 (tX2_offenders sc _ w hS hC hW 0 (fun _ => false) s_str0) hS.1 rfl rfl (Nat.le_of_ble_eq_true rfl) ?_
          refine xt_cS _ dX11_guess_35 klX11_253 (tJ_bitCount sc _ w _) rfl rfl (Nat.le_of_ble_eq_true rfl) ?_
          rw [s_bc_bits _ h8]
          refine xt_istore dX11_guess_38 (by decide) rfl ?_
          change x_T _ _ _ _ [_, _, _, _, _, _, _, _] _ _ _ _
          refine xt_aload _ dX11_guess_40 rfl ?_
          refine xt_geti dX11_guess_42 kfX11_131 (by first | exact sh0 | exact sh1 | exact hS.1 | rfl | assumption) rfl ?_
          refine xt_iload _ dX11_guess_45 rfl ?_
          refine xt_isub dX11_guess_47 ?_
          refine xt_iload_n _ dX11_guess_48 rfl ?_
          refine xt_iload _ dX11_guess_49 rfl ?_
          refine xt_isub dX11_guess_51 ?_
          rw [show nI n - nI (s_cnt (s_off F (fun _ => false) 0) (F 4)) = nI n - nI (s_cnt (s_off F (fun _ => false) 0) (F 4)) from rfl]
          refine xt_cS _ dX11_guess_52 klX11_311 (tX8_choose_no sc _ μ w _ _ (pk_sneg (by omega) (by omega))) rfl rfl (Nat.le_of_ble_eq_true rfl) ?_
          refine xt_lstore dX11_guess_55 (by decide) rfl ?_
          change x_T _ _ _ _ [_, _, _, _, _, _, _, _] _ _ _ _
          refine xt_lload _ dX11_guess_57 rfl ?_
          refine xt_aload _ dX11_guess_59 rfl ?_
          refine xt_geti dX11_guess_61 kfX11_131 (by first | exact sh0 | exact sh1 | exact hS.1 | rfl | assumption) rfl ?_
          refine xt_iload_n _ dX11_guess_64 rfl ?_
          rw [hC.1 4 (by decide)]
          refine xt_cS _ dX11_guess_65 klX11_311 (tX8_choose sc _ μ w (F 4) n (by omega) hnF) rfl rfl (Nat.le_of_ble_eq_true rfl) ?_
          rw [s_ch_eq (F 4) (by omega) n (by omega)]
          refine xt_iload_n _ dX11_guess_68 rfl ?_
          refine xt_cS _ dX11_guess_69 klX11_237 (tX8_part sc _ μ w 0 (s_chM (F 4) n) (by omega) (by omega) hY.2 u) rfl rfl (Nat.le_of_ble_eq_true rfl) ?_
          exact xt_lret dX11_guess_72 rfl ⟨rfl, x_keep.rf μ⟩
        · intro μ w c hf hc e hF
          refine x_K.of (by decide) (Nat.le_of_ble_eq_true rfl) ?_
          show x_T sc 29 mX12_guess 0 [.ref 152, .int (nI f), .int (nI n), .int u, .retAddr 0] [] μ w _
          refine xt_aload_n _ dX12_guess_0 rfl ?_
          refine xt_iconst (0) dX12_guess_1 (by decide) ?_
          refine xt_puti dX12_guess_2 kpX12_72 (by first | exact sh152 | rfl | assumption) rfl (by first | rfl | assumption) (by first | rfl | assumption) ?_
          refine xt_iload_n _ dX12_guess_5 rfl ?_
          refine xt_iconst (0) dX12_guess_6 (by decide) ?_
          refine xt_bipush (8) dX12_guess_7 (by decide) ?_
          refine xt_cS _ dX12_guess_9 klX12_84 (tX12_in sc _ _ w _ _ _) rfl rfl (Nat.le_of_ble_eq_true rfl) ?_
          refine xt_if_eq 31 dX12_guess_12 (by decide) (fun q => absurd q (s_in_nI (n := n) (N := 8) (by omega) (by decide))) (fun _ => ?_)
          refine xt_aload_n _ dX12_guess_15 rfl ?_
          refine xt_iload_n _ dX12_guess_16 rfl ?_
          refine xt_callV _ dX12_guess_17 klX12_300 (tX12_hand sc _ (x_u μ 152 (upd (μ 152) 0 0)) w f c F hf hc e hF) sh152 rfl rfl (Nat.le_of_ble_eq_true rfl) (fun r1 μ1 w1 q1 => ?_)
          obtain ⟨rfl, rfl, hS, h0, hfr⟩ := q1
          change x_T _ _ _ _ _ (.int 1 :: _) _ _ _
          have e4 : μ1 152 24 = nI (F 4) := hS.1.2.2.2.1
          refine xt_if_eq 31 dX12_guess_20 (by decide) (fun q => absurd q (by decide)) (fun _ => ?_)
          refine xt_aload_n _ dX12_guess_23 rfl ?_
          refine xt_geti dX12_guess_24 kfX12_251 (by first | exact sh152 | rfl | assumption) rfl ?_
          refine xt_iload_n _ dX12_guess_27 rfl ?_
          refine xt_icmp_ge 35 dX12_guess_28 (by decide) (fun _ => ?_) (fun q => absurd (by rw [e4]; exact nI_le hnF (by omega)) q)
          refine xt_aload_n _ dX12_guess_35 rfl ?_
          refine xt_cV _ dX12_guess_36 klX12_322 (tX12_offenders sc _ μ1 _ f F hS hW 0 (fun _ => false) s_strM0 0 0 (by decide) (by decide) h0.2.2.2.2.2.1 h0.2.2.2.2.2.2.1 h0.2.2.2.2.2.2.2) sh152 rfl rfl (Nat.le_of_ble_eq_true rfl) ?_
          rw [s_any_offs]
          refine xt_cS _ dX12_guess_39 klX12_412 (tX12_ones sc _ μ1 _ _ (s_offs_lt hW _)) rfl rfl (Nat.le_of_ble_eq_true rfl) ?_
          rw [show s_cnt (fun i => (s_offs F (fun _ => false)).testBit i) 8 = s_cnt (s_off F (fun _ => false) 0) (F 4) from s_pop_bits _ h8]
          refine xt_istore dX12_guess_42 (by decide) rfl ?_
          change x_T _ _ _ _ [_, _, _, _, _] _ _ _ _
          refine xt_aload_n _ dX12_guess_44 rfl ?_
          refine xt_geti dX12_guess_45 kfX12_251 (by first | exact sh152 | rfl | assumption) rfl ?_
          refine xt_iload _ dX12_guess_48 rfl ?_
          refine xt_isub dX12_guess_50 ?_
          refine xt_iload_n _ dX12_guess_51 rfl ?_
          refine xt_iload _ dX12_guess_52 rfl ?_
          refine xt_isub dX12_guess_54 ?_
          refine xt_cS _ dX12_guess_55 klX12_547 (tX12_choose_no sc _ μ1 _ _ _ (pk_sneg (by omega) (by omega))) rfl rfl (Nat.le_of_ble_eq_true rfl) ?_
          refine xt_aload_n _ dX12_guess_58 rfl ?_
          refine xt_geti dX12_guess_59 kfX12_251 (by first | exact sh152 | rfl | assumption) rfl ?_
          refine xt_iload_n _ dX12_guess_62 rfl ?_
          rw [e4]
          refine xt_cS _ dX12_guess_63 klX12_547 (tX12_choose sc _ μ1 _ (F 4) n h8 hnF) rfl rfl (Nat.le_of_ble_eq_true rfl) ?_
          refine xt_iload_n _ dX12_guess_66 rfl ?_
          refine xt_cS _ dX12_guess_67 klX12_543 (tX12_partL sc _ μ1 _ 0 (s_chM (F 4) n) (by omega) (by omega) hY.2 u) rfl rfl (Nat.le_of_ble_eq_true rfl) ?_
          exact xt_lret dX12_guess_70 rfl ⟨rfl, (x_keep.hand hfr)⟩
    · skip
      refine ⟨-1, ?_, ?_⟩
      · intro μ w c hf hc e hC
        have hS := f_Sf hf2
        refine x_K.of (by decide) (Nat.le_of_ble_eq_true rfl) ?_
        show x_T sc 29 mX11_guess 0 [.ref 0, .int (nI f), .int a2, .int u, .retAddr 0, .retAddr 0, .retAddr 0, .retAddr 0] [] μ w _
        refine xt_aload_n _ dX11_guess_0 rfl ?_
        refine xt_iload_n _ dX11_guess_1 rfl ?_
        refine xt_cV _ dX11_guess_2 klX11_90 (tX11_fairOf sc _ μ w f c hf hc e) sh0 rfl rfl (Nat.le_of_ble_eq_true rfl) ?_
        refine xt_astore dX11_guess_5 (by decide) rfl ?_
        change x_T _ _ _ _ [_, _, _, _, _, _, _, _] _ _ _ _
        refine xt_aload _ dX11_guess_7 rfl ?_
        refine xt_ifnull_r dX11_guess_9 ?_
        refine xt_iload_n _ dX11_guess_12 rfl ?_
        refine xt_if_lt 25 dX11_guess_13 (by decide) (fun t13 => ?_) (fun f13 => ?_)
        · refine xt_ldc2 _ dX11_guess_25 kkX11_299 ?_
          exact xt_lret dX11_guess_28 rfl ⟨rfl, x_keep.rf μ⟩
        · refine xt_iload_n _ dX11_guess_16 rfl ?_
          refine xt_aload _ dX11_guess_17 rfl ?_
          refine xt_geti dX11_guess_19 kfX11_131 (by first | exact sh0 | exact sh1 | exact hS.1 | rfl | assumption) rfl ?_
          refine xt_icmp_le 29 dX11_guess_22 (by decide) (fun t22 => ?_) (fun f22 => ?_)
          · exact absurd ⟨Int32.not_lt.mp f13, by rw [← hC.1 4 (by decide)]; exact t22⟩ hr
          · refine xt_ldc2 _ dX11_guess_25 kkX11_299 ?_
            exact xt_lret dX11_guess_28 rfl ⟨rfl, x_keep.rf μ⟩
      · intro μ w c hf hc e hF
        refine x_K.of (by decide) (Nat.le_of_ble_eq_true rfl) ?_
        show x_T sc 29 mX12_guess 0 [.ref 152, .int (nI f), .int a2, .int u, .retAddr 0] [] μ w _
        refine xt_aload_n _ dX12_guess_0 rfl ?_
        refine xt_iconst (0) dX12_guess_1 (by decide) ?_
        refine xt_puti dX12_guess_2 kpX12_72 (by first | exact sh152 | rfl | assumption) rfl (by first | rfl | assumption) (by first | rfl | assumption) ?_
        refine xt_iload_n _ dX12_guess_5 rfl ?_
        refine xt_iconst (0) dX12_guess_6 (by decide) ?_
        refine xt_bipush (8) dX12_guess_7 (by decide) ?_
        refine xt_cS _ dX12_guess_9 klX12_84 (tX12_in sc _ _ w _ _ _) rfl rfl (Nat.le_of_ble_eq_true rfl) ?_
        refine xt_if_eq 31 dX12_guess_12 (by decide) (fun t12 => ?_) (fun f12 => ?_)
        · refine xt_ldc2 _ dX12_guess_31 kkX12_535 ?_
          exact xt_lret dX12_guess_34 rfl ⟨rfl, (x_keep.u (x_keep.rf μ) (by unfold x_ok; omega))⟩
        · refine xt_aload_n _ dX12_guess_15 rfl ?_
          refine xt_iload_n _ dX12_guess_16 rfl ?_
          refine xt_callV _ dX12_guess_17 klX12_300 (tX12_hand sc _ (x_u μ 152 (upd (μ 152) 0 0)) w f c F hf hc e hF) sh152 rfl rfl (Nat.le_of_ble_eq_true rfl) (fun r1 μ1 w1 q1 => ?_)
          obtain ⟨rfl, rfl, hS, h0, hfr⟩ := q1
          change x_T _ _ _ _ _ (.int 1 :: _) _ _ _
          have e4 : μ1 152 24 = nI (F 4) := hS.1.2.2.2.1
          refine xt_if_eq 31 dX12_guess_20 (by decide) (fun q => absurd q (by decide)) (fun _ => ?_)
          refine xt_aload_n _ dX12_guess_23 rfl ?_
          refine xt_geti dX12_guess_24 kfX12_251 (by first | exact sh152 | rfl | assumption) rfl ?_
          refine xt_iload_n _ dX12_guess_27 rfl ?_
          refine xt_icmp_ge 35 dX12_guess_28 (by decide) (fun t28 => ?_) (fun f28 => ?_)
          · exact absurd ⟨Int32.not_lt.mp (s_in_1 f12).1, by rw [← e4]; exact t28⟩ hr
          · refine xt_ldc2 _ dX12_guess_31 kkX12_535 ?_
            exact xt_lret dX12_guess_34 rfl ⟨rfl, (x_keep.hand hfr)⟩
