/-! greatest common divisors, parts in least terms -/
theorem x_lcmp0 {x y : Int64} : lg_cmp x y = 0 ↔ x = y := by
  unfold lg_cmp
  by_cases h : x = y
  · subst h; simp
  · constructor
    · intro q
      exfalso
      revert q
      split <;> (try split) <;> simp_all
    · intro q; exact absurd q h
theorem x_lN0 {n : Nat} (hn : n < 2 ^ 63) : lN n = 0 ↔ n = 0 := by rw [show (0 : Int64) = lN 0 from rfl, pk_lEQ hn (by decide)]
/-- Euclid's way from (a, b) has at most n steps -/
def s_eu : Nat → Nat → Nat → Prop
  | 0, _, b => b = 0
  | n + 1, a, b => b = 0 ∨ s_eu n b (a % b)
theorem s_eu_of : ∀ (m a b : Nat), b < 2 ^ m → s_eu (2 * m + 1) a b
  | 0, a, b, h => Or.inl (by simpa using h)
  | m + 1, a, b, h => by
    by_cases hb : b = 0
    · exact Or.inl hb
    · refine Or.inr ?_
      show s_eu (2 * m + 1 + 1) b (a % b)
      have h1 : a % b < b := Nat.mod_lt _ (by omega)
      by_cases hr : a % b = 0
      · exact Or.inl hr
      · refine Or.inr (s_eu_of m _ _ ?_)
        have h2 : b % (a % b) < a % b := Nat.mod_lt _ (by omega)
        have h3 := Nat.div_add_mod b (a % b)
        have h4 : 1 ≤ b / (a % b) := (Nat.one_le_div_iff (by omega)).mpr (by omega)
        have h5 : a % b ≤ (a % b) * (b / (a % b)) := Nat.le_mul_of_pos_right _ h4
        rw [Nat.pow_succ] at h
        omega
theorem s_gcd_step {a b : Nat} : Nat.gcd a b = Nat.gcd b (a % b) := by
  rw [Nat.gcd_comm a b, Nat.gcd_rec b a, Nat.gcd_comm]
section GCD
variable (sc : Nat × (Nat → Int32)) (d : Nat) (μ : x_Me) (w : Int64)
set_option maxHeartbeats 1000000 in
theorem tX8_divisor (A B : Nat) (hA : A < 2 ^ 48) (hB : B < 2 ^ 48) : x_D sc d mX8_divisor [.long (lN A), .long (lN B)] μ w (some (.long (lN (Nat.gcd A B)))) μ w := by
  have L9 : ∀ (n k a b : Nat) (v9 v10 : Value), k + n ≤ 100 → a < 2 ^ 48 → b < 2 ^ 48 → s_eu n a b → Nat.gcd a b = Nat.gcd A B → x_T sc d mX8_divisor 9 [.long (lN A), .retAddr 0, .long (lN B), .retAddr 0, .long (lN a), .retAddr 0, .long (lN b), .retAddr 0, .int (nI k), v9, v10] [] μ w (x_p (some (.long (lN (Nat.gcd A B)))) μ w) := by
    intro n
    induction n with
    | zero =>
      intro k a b v9 v10 hk ha hb2 he hg
      have hb : b = 0 := he
      subst hb
      rcases Nat.lt_or_ge k 100 with hk1 | hk1
      · refine xt_iload _ dX8_divisor_9 rfl ?_
        refine xt_bipush (100) dX8_divisor_11 (by decide) ?_
        refine xt_icmp_ge 44 dX8_divisor_13 (by decide) (fun q => absurd q (nI_ge (b := 100) hk1 (by decide))) (fun _ => ?_)
        refine xt_lload _ dX8_divisor_16 rfl ?_
        refine xt_lconst (0) dX8_divisor_18 (by decide) ?_
        refine xt_lcmp dX8_divisor_19 ?_
        refine xt_if_eq 44 dX8_divisor_20 (by decide) (fun _ => ?_) (fun q => absurd (x_lcmp0.mpr rfl) q)
        refine xt_lload _ dX8_divisor_44 rfl ?_
        exact xt_lret dX8_divisor_46 rfl ⟨by rw [← hg, Nat.gcd_zero_right], rfl, rfl⟩
      · refine xt_iload _ dX8_divisor_9 rfl ?_
        refine xt_bipush (100) dX8_divisor_11 (by decide) ?_
        refine xt_icmp_ge 44 dX8_divisor_13 (by decide) (fun _ => ?_) (fun q => absurd (nI_le (a := 100) hk1 (by omega)) q)
        refine xt_lload _ dX8_divisor_44 rfl ?_
        exact xt_lret dX8_divisor_46 rfl ⟨by rw [← hg, Nat.gcd_zero_right], rfl, rfl⟩
    | succ n ih =>
      intro k a b v9 v10 hk ha hb2 he hg
      refine xt_iload _ dX8_divisor_9 rfl ?_
      refine xt_bipush (100) dX8_divisor_11 (by decide) ?_
      refine xt_icmp_ge 44 dX8_divisor_13 (by decide) (fun q => absurd q (nI_ge (b := 100) (by omega) (by decide))) (fun _ => ?_)
      refine xt_lload _ dX8_divisor_16 rfl ?_
      refine xt_lconst (0) dX8_divisor_18 (by decide) ?_
      refine xt_lcmp dX8_divisor_19 ?_
      refine xt_if_eq 44 dX8_divisor_20 (by decide) (fun t20 => ?_) (fun f20 => ?_)
      · refine xt_lload _ dX8_divisor_44 rfl ?_
        exact xt_lret dX8_divisor_46 rfl ⟨by rw [← hg, (x_lN0 (by omega)).mp (x_lcmp0.mp t20), Nat.gcd_zero_right], rfl, rfl⟩
      · refine xt_lload _ dX8_divisor_23 rfl ?_
        refine xt_lload _ dX8_divisor_25 rfl ?_
        refine xt_lrem dX8_divisor_27 (by exact fun z => f20 (x_lcmp0.mpr z)) ?_
        refine xt_lstore dX8_divisor_28 (by decide) rfl ?_
        change x_T _ _ _ _ [_, _, _, _, _, _, _, _, _, _, _] _ _ _ _
        refine xt_lload _ dX8_divisor_30 rfl ?_
        refine xt_lstore dX8_divisor_32 (by decide) rfl ?_
        change x_T _ _ _ _ [_, _, _, _, _, _, _, _, _, _, _] _ _ _ _
        refine xt_lload _ dX8_divisor_34 rfl ?_
        refine xt_lstore dX8_divisor_36 (by decide) rfl ?_
        change x_T _ _ _ _ [_, _, _, _, _, _, _, _, _, _, _] _ _ _ _
        refine xt_inc _ (1) dX8_divisor_38 rfl (by decide) (by decide) rfl ?_
        change x_T _ _ _ _ [_, _, _, _, _, _, _, _, _, _, _] _ _ _ _
        refine xt_goto 9 dX8_divisor_41 (by decide) ?_
        have hb : ¬ b = 0 := fun z => f20 (x_lcmp0.mpr (by rw [z]; rfl))
        have hm : a % b < b := Nat.mod_lt _ (by omega)
        rw [pk_lRem (by omega) (by omega) (by omega)]
        refine x_T.ls ?_ (ih (k + 1) b (a % b) (.long (lN (a % b))) (.retAddr 0) (by omega) (by omega) (by omega) (he.resolve_left hb) (by rw [← hg]; exact s_gcd_step.symm))
        rw [nI_succ k]
  refine x_D.of (by decide) (Nat.le_of_ble_eq_true rfl) ?_
  show x_T sc d mX8_divisor 0 [.long (lN A), .retAddr 0, .long (lN B), .retAddr 0, .retAddr 0, .retAddr 0, .retAddr 0, .retAddr 0, .retAddr 0, .retAddr 0, .retAddr 0] [] μ w _
  refine xt_lload_n _ dX8_divisor_0 rfl ?_
  refine xt_lstore dX8_divisor_1 (by decide) rfl ?_
  change x_T _ _ _ _ [_, _, _, _, _, _, _, _, _, _, _] _ _ _ _
  refine xt_lload_n _ dX8_divisor_3 rfl ?_
  refine xt_lstore dX8_divisor_4 (by decide) rfl ?_
  change x_T _ _ _ _ [_, _, _, _, _, _, _, _, _, _, _] _ _ _ _
  refine xt_iconst (0) dX8_divisor_6 (by decide) ?_
  refine xt_istore dX8_divisor_7 (by decide) rfl ?_
  change x_T _ _ _ _ [_, _, _, _, _, _, _, _, _, _, _] _ _ _ _
  exact L9 97 0 A B _ _ (by omega) hA hB (s_eu_of 48 A B hB) rfl
set_option maxHeartbeats 1000000 in
theorem tX8_part (A B : Nat) (hA : A < 2 ^ 48) (hB : B < 2 ^ 48) (h0 : 0 < B) (u : Int32) : x_D sc (d + 1) mX8_part [.long (lN A), .long (lN B), .int u] μ w (some (.long (lN (if u = 0 then A / Nat.gcd A B else B / Nat.gcd A B)))) μ w := by
  have hg : 0 < Nat.gcd A B := Nat.gcd_pos_of_pos_right _ h0
  have hgl : Nat.gcd A B ≤ B := Nat.gcd_le_right _ h0
  have hgz : ¬ lN (Nat.gcd A B) = 0 := fun z => absurd ((x_lN0 (by omega)).mp z) (by omega)
  refine x_D.of (by decide) (Nat.le_of_ble_eq_true rfl) ?_
  show x_T sc (d + 1) mX8_part 0 [.long (lN A), .retAddr 0, .long (lN B), .retAddr 0, .int u, .retAddr 0, .retAddr 0] [] μ w _
  refine xt_lload_n _ dX8_part_0 rfl ?_
  refine xt_lload_n _ dX8_part_1 rfl ?_
  refine xt_cS _ dX8_part_2 klX8_15 (tX8_divisor sc _ μ w A B hA hB) rfl rfl (Nat.le_of_ble_eq_true rfl) ?_
  refine xt_lstore dX8_part_5 (by decide) rfl ?_
  change x_T _ _ _ _ [_, _, _, _, _, _, _] _ _ _ _
  refine xt_lload _ dX8_part_7 rfl ?_
  refine xt_lconst (0) dX8_part_9 (by decide) ?_
  refine xt_lcmp dX8_part_10 ?_
  refine xt_if_ne 18 dX8_part_11 (by decide) (fun _ => ?_) (fun q => absurd q (fun z => hgz (x_lcmp0.mp z)))
  refine xt_iload _ dX8_part_18 rfl ?_
  refine xt_if_eq 30 dX8_part_20 (by decide) (fun t20 => ?_) (fun f20 => ?_)
  · refine xt_lload_n _ dX8_part_30 rfl ?_
    refine xt_lload _ dX8_part_31 rfl ?_
    refine xt_ldiv dX8_part_33 (by exact hgz) ?_
    exact xt_lret dX8_part_34 rfl ⟨by rw [if_pos t20, pk_lDiv (by omega) hg (by omega)], rfl, rfl⟩
  · refine xt_lload_n _ dX8_part_23 rfl ?_
    refine xt_lload _ dX8_part_24 rfl ?_
    refine xt_ldiv dX8_part_26 (by exact hgz) ?_
    refine xt_goto 34 dX8_part_27 (by decide) ?_
    exact xt_lret dX8_part_34 rfl ⟨by rw [if_neg f20, pk_lDiv (by omega) hg (by omega)], rfl, rfl⟩
set_option maxHeartbeats 1000000 in
theorem tX12_common (A B : Nat) (hA : A < 2 ^ 30) (hB : B < 2 ^ 30) : x_D sc d mX12_common [.int (nI A), .int (nI B)] μ w (some (.int (nI (Nat.gcd A B)))) μ w := by
  have L4 : ∀ (n a b : Nat) (v4 : Value), a < 2 ^ 30 → b < 2 ^ 30 → s_eu n a b → Nat.gcd a b = Nat.gcd A B → x_T sc d mX12_common 4 [.int (nI A), .int (nI B), .int (nI a), .int (nI b), v4] [] μ w (x_p (some (.int (nI (Nat.gcd A B)))) μ w) := by
    intro n
    induction n with
    | zero =>
      intro a b v4 ha hb2 he hg
      have hb : b = 0 := he
      subst hb
      refine xt_iload_n _ dX12_common_4 rfl ?_
      refine xt_if_eq 21 dX12_common_5 (by decide) (fun _ => ?_) (fun q => absurd rfl q)
      refine xt_iload_n _ dX12_common_21 rfl ?_
      exact xt_iret .int dX12_common_22 rfl (by first | rfl | assumption) ⟨by rw [← hg, Nat.gcd_zero_right], rfl, rfl⟩
    | succ n ih =>
      intro a b v4 ha hb2 he hg
      refine xt_iload_n _ dX12_common_4 rfl ?_
      refine xt_if_eq 21 dX12_common_5 (by decide) (fun t5 => ?_) (fun f5 => ?_)
      · refine xt_iload_n _ dX12_common_21 rfl ?_
        exact xt_iret .int dX12_common_22 rfl (by first | rfl | assumption) ⟨by rw [← hg, (nI_0e (by omega)).mp t5, Nat.gcd_zero_right], rfl, rfl⟩
      · refine xt_iload_n _ dX12_common_8 rfl ?_
        refine xt_iload_n _ dX12_common_9 rfl ?_
        refine xt_irem dX12_common_10 (by assumption) ?_
        refine xt_istore dX12_common_11 (by decide) rfl ?_
        change x_T _ _ _ _ [_, _, _, _, _] _ _ _ _
        refine xt_iload_n _ dX12_common_13 rfl ?_
        refine xt_istore_n dX12_common_14 (by decide) rfl ?_
        change x_T _ _ _ _ [_, _, _, _, _] _ _ _ _
        refine xt_iload _ dX12_common_15 rfl ?_
        refine xt_istore_n dX12_common_17 (by decide) rfl ?_
        change x_T _ _ _ _ [_, _, _, _, _] _ _ _ _
        refine xt_goto 4 dX12_common_18 (by decide) ?_
        have hb : ¬ b = 0 := fun z => f5 (by rw [z]; rfl)
        have hm : a % b < b := Nat.mod_lt _ (by omega)
        rw [pk_rem (by omega) (by omega) (by omega)]
        exact ih b (a % b) (.int (nI (a % b))) (by omega) (by omega) (he.resolve_left hb) (by rw [← hg]; exact s_gcd_step.symm)
  refine x_D.of (by decide) (Nat.le_of_ble_eq_true rfl) ?_
  show x_T sc d mX12_common 0 [.int (nI A), .int (nI B), .retAddr 0, .retAddr 0, .retAddr 0] [] μ w _
  refine xt_iload_n _ dX12_common_0 rfl ?_
  refine xt_istore_n dX12_common_1 (by decide) rfl ?_
  change x_T _ _ _ _ [_, _, _, _, _] _ _ _ _
  refine xt_iload_n _ dX12_common_2 rfl ?_
  refine xt_istore_n dX12_common_3 (by decide) rfl ?_
  change x_T _ _ _ _ [_, _, _, _, _] _ _ _ _
  exact L4 61 A B _ hA hB (s_eu_of 30 A B hB) rfl
set_option maxHeartbeats 1000000 in
theorem tX12_part (A B : Nat) (hA : A < 2 ^ 30) (hB : B < 2 ^ 30) (h0 : 0 < B) (u : Int32) : x_D sc (d + 1) mX12_part [.int (nI A), .int (nI B), .int u] μ w (some (.int (nI (if u = 0 then A / Nat.gcd A B else B / Nat.gcd A B)))) μ w := by
  have hg : 0 < Nat.gcd B A := Nat.gcd_pos_of_pos_left _ h0
  have hgl : Nat.gcd B A ≤ B := Nat.gcd_le_left _ h0
  have hgz : ¬ nI (Nat.gcd B A) = 0 := fun z => absurd ((nI_0e (by omega)).mp z) (by omega)
  refine x_D.of (by decide) (Nat.le_of_ble_eq_true rfl) ?_
  show x_T sc (d + 1) mX12_part 0 [.int (nI A), .int (nI B), .int u] [] μ w _
  refine xt_iload_n _ dX12_part_0 rfl ?_
  refine xt_if_eq 8 dX12_part_1 (by decide) (fun t1 => ?_) (fun f1 => ?_)
  · refine xt_iload_n _ dX12_part_8 rfl ?_
    refine xt_iload_n _ dX12_part_9 rfl ?_
    refine xt_iload_n _ dX12_part_10 rfl ?_
    refine xt_cS _ dX12_part_11 klX12_357 (tX12_common sc _ μ w B A hB hA) rfl rfl (Nat.le_of_ble_eq_true rfl) ?_
    refine xt_idiv dX12_part_14 (by exact hgz) ?_
    exact xt_iret .int dX12_part_15 rfl (by first | rfl | assumption) ⟨by rw [if_pos t1, pk_div (by omega) hg (by omega), Nat.gcd_comm], rfl, rfl⟩
  · refine xt_iload_n _ dX12_part_4 rfl ?_
    refine xt_goto 9 dX12_part_5 (by decide) ?_
    refine xt_iload_n _ dX12_part_9 rfl ?_
    refine xt_iload_n _ dX12_part_10 rfl ?_
    refine xt_cS _ dX12_part_11 klX12_357 (tX12_common sc _ μ w B A hB hA) rfl rfl (Nat.le_of_ble_eq_true rfl) ?_
    refine xt_idiv dX12_part_14 (by exact hgz) ?_
    exact xt_iret .int dX12_part_15 rfl (by first | rfl | assumption) ⟨by rw [if_neg f1, pk_div (by omega) hg (by omega), Nat.gcd_comm], rfl, rfl⟩
end GCD
