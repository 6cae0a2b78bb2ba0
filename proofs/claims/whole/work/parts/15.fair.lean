/-! numbers -/
theorem x_lit (n : Nat) : (OfNat.ofNat n : Int32) = nI n := rfl
theorem x_m1 : (-1 : Int32) = nI 0 - nI 1 := by decide
theorem s_at_ix {n j : Nat} {f : Nat → Int32} {x : Int32} (hj : j < n) (hn : n < 2 ^ 31) (hx : x = nI j) : s_at n f x = f j := by
  subst hx
  have h1 : ¬ nI j < 0 := nI_pos (by omega)
  have h2 : ¬ nI n ≤ nI j := nI_ge hj hn
  rw [s_at, if_neg h1, if_neg h2, nI_clamp (by omega)]
theorem s_far_nI {a b x y : Nat} (ha : a ≤ 99) (hb : b ≤ 99) (hx : x ≤ 99) (hy : y ≤ 99) : s_far (nI a) (nI b) (nI x) (nI y) = nI ((if a < x then x - a else a - x) + (if b < y then y - b else b - y)) := by
  have key : ∀ p q : Nat, p ≤ 99 → q ≤ 99 → s_abs (nI p - nI q) = nI (if p < q then q - p else p - q) := by
    intro p q hp hq
    unfold s_abs
    by_cases h : p < q
    · have hneg : ¬ (0 : Int32) ≤ nI p - nI q := by
        rw [Int32.not_le]
        exact pk_sneg (by omega) h
      rw [if_neg hneg, if_pos h]
      have e1 : nI q - nI p = nI (q - p) := pk_sub (by omega)
      rw [← e1]
      rw [Int32.zero_sub, Int32.neg_sub]
    · have e1 : nI p - nI q = nI (p - q) := pk_sub (by omega)
      rw [e1, if_neg h, if_pos (nI_pos' (by omega))]
  rw [s_far, key a x ha hx, key b y hb hy, nI_add]
/-! a FAIR: F holds its numbers, in the reference's order -/
def f_S (k : Nat) : Prop := x_shape[k]? = some (.inl (2, [none, none, none, none, none, none, none, some (some (.ref (k + 1))), some (some (.ref (k + 2))), some (some (.ref (k + 3))), some (some (.ref (k + 4))), some (some (.ref (k + 5)))])) ∧ x_shape[k + 1]? = some (.inr (.inl (0, 18))) ∧ x_shape[k + 2]? = some (.inr (.inl (0, 16))) ∧ x_shape[k + 3]? = some (.inr (.inl (0, 48))) ∧ x_shape[k + 4]? = some (.inr (.inl (0, 12))) ∧ x_shape[k + 5]? = some (.inr (.inl (0, 24)))
theorem f_S7 : f_S 7 := ⟨rfl, rfl, rfl, rfl, rfl, rfl⟩
theorem f_S18 : f_S 18 := ⟨rfl, rfl, rfl, rfl, rfl, rfl⟩
theorem f_S130 : f_S 130 := ⟨rfl, rfl, rfl, rfl, rfl, rfl⟩
theorem f_S116 : f_S 116 := ⟨rfl, rfl, rfl, rfl, rfl, rfl⟩
/-- the class's cells hold F -/
def f_C (μ : x_Me) (k : Nat) (F : Nat → Nat) : Prop :=
  (∀ j, j < 7 → μ k j = nI (F j)) ∧ (∀ m, m < F 3 → ∀ j, j < 3 → μ (k + 1) (3 * m + j) = nI (F (7 + 6 * j + m))) ∧ (∀ g, g < F 4 → ∀ j, j < 2 → μ (k + 2) (2 * g + j) = nI (F (25 + 8 * j + g))) ∧ (∀ i, i < 48 → μ (k + 3) i = nI (F (41 + i))) ∧
  (∀ c, c < F 5 → ∀ j, j < 2 → μ (k + 4) (2 * c + j) = nI (F (89 + 6 * j + c))) ∧ (∀ t, t < F 6 → ∀ j, j < 4 → μ (k + 5) (4 * t + j) = nI (F (101 + 6 * j + t)))
/-- what the reader lets through -/
def f_W (F : Nat → Nat) : Prop :=
  (F 0 ≤ 9 ∧ F 1 ≤ 9 ∧ F 2 ≤ 9 ∧ F 3 ≤ 6 ∧ F 4 ≤ 8 ∧ F 5 ≤ 6 ∧ F 6 ≤ 6) ∧ (∀ m, m < F 3 → F (7 + m) ≤ 5 ∧ F (13 + m) ≤ 18 ∧ 1 ≤ F (19 + m) ∧ F (19 + m) ≤ 9) ∧ (∀ g, g < F 4 → F (25 + g) ≤ 9 ∧ F (33 + g) ≤ 9) ∧ (∀ i, i < 48 → F (41 + i) ≤ 9) ∧
  (∀ c, c < F 5 → 1 ≤ F (89 + c) ∧ F (89 + c) ≤ 63 ∧ F (95 + c) ≤ 20) ∧ (∀ t, t < F 6 → F (101 + t) ≤ 9 ∧ F (107 + t) ≤ 9 ∧ F (113 + t) ≤ 30 ∧ F (119 + t) ≤ 10)
section FAIR
variable (sc : Nat × (Nat → Int32)) (d : Nat) {μ : x_Me} (w : Int64) {k : Nat} {F : Nat → Nat}
def s_farG (F : Nat → Nat) (g x y : Nat) : Nat := (if F (25 + g) < x then x - F (25 + g) else F (25 + g) - x) + (if F (33 + g) < y then y - F (33 + g) else F (33 + g) - y)
def s_farS (F : Nat → Nat) (x y : Nat) : Nat := (if F 0 < x then x - F 0 else F 0 - x) + (if F 1 < y then y - F 1 else F 1 - y)
def s_farO (F : Nat → Nat) (g : Nat) : Nat := s_farS F (F (25 + g)) (F (33 + g))
set_option maxHeartbeats 1000000 in
theorem tX2_kindOf (hS : f_S k) (hC : f_C μ k F) (hW : f_W F) (m : Nat) (hm : m < F 3) : x_D sc (d + 1) mX2_kindOf [.ref k, .int (nI m)] μ w (some (.int (nI (F (7 + m))))) μ w := by
  obtain ⟨hs0, hs1, hs2, hs3, hs4, hs5⟩ := hS
  refine x_D.of (by decide) (Nat.le_of_ble_eq_true rfl) ?_
  show x_T sc (d + 1) mX2_kindOf 0 [.ref k, .int (nI m)] [] μ w _
  refine xt_aload_n _ dX2_kindOf_0 rfl ?_
  refine xt_getr _ dX2_kindOf_1 kfX2_9 (by first | rfl | assumption) rfl ?_
  refine xt_iconst (3) dX2_kindOf_4 (by decide) ?_
  refine xt_iload_n _ dX2_kindOf_5 rfl ?_
  refine xt_imul dX2_kindOf_6 ?_
  refine xt_cS _ dX2_kindOf_7 klX2_76 (tX8_at sc d μ w (by assumption) (by decide) _) rfl rfl (Nat.le_of_ble_eq_true rfl) ?_
  exact xt_iret .int dX2_kindOf_10 rfl (by first | rfl | assumption) ⟨by rw [s_at_ix (j := 3 * m + 0) (by have := hW.1.2.2.2.1; omega) (by decide) (by simp only [x_lit, pk_mul, nI_add] <;> first | rfl | (congr 1; omega)), hC.2.1 m hm 0 (by decide)], rfl, rfl⟩
set_option maxHeartbeats 1000000 in
theorem tX2_reachOf (hS : f_S k) (hC : f_C μ k F) (hW : f_W F) (m : Nat) (hm : m < F 3) : x_D sc (d + 1) mX2_reachOf [.ref k, .int (nI m)] μ w (some (.int (nI (F (13 + m))))) μ w := by
  obtain ⟨hs0, hs1, hs2, hs3, hs4, hs5⟩ := hS
  refine x_D.of (by decide) (Nat.le_of_ble_eq_true rfl) ?_
  show x_T sc (d + 1) mX2_reachOf 0 [.ref k, .int (nI m)] [] μ w _
  refine xt_aload_n _ dX2_reachOf_0 rfl ?_
  refine xt_getr _ dX2_reachOf_1 kfX2_9 (by first | rfl | assumption) rfl ?_
  refine xt_iconst (3) dX2_reachOf_4 (by decide) ?_
  refine xt_iload_n _ dX2_reachOf_5 rfl ?_
  refine xt_imul dX2_reachOf_6 ?_
  refine xt_iconst (1) dX2_reachOf_7 (by decide) ?_
  refine xt_iadd dX2_reachOf_8 ?_
  refine xt_cS _ dX2_reachOf_9 klX2_76 (tX8_at sc d μ w (by assumption) (by decide) _) rfl rfl (Nat.le_of_ble_eq_true rfl) ?_
  exact xt_iret .int dX2_reachOf_12 rfl (by first | rfl | assumption) ⟨by rw [s_at_ix (j := 3 * m + 1) (by have := hW.1.2.2.2.1; omega) (by decide) (by simp only [x_lit, pk_mul, nI_add] <;> first | rfl | (congr 1; omega)), hC.2.1 m hm 1 (by decide)], rfl, rfl⟩
set_option maxHeartbeats 1000000 in
theorem tX2_leastOf (hS : f_S k) (hC : f_C μ k F) (hW : f_W F) (m : Nat) (hm : m < F 3) : x_D sc (d + 1) mX2_leastOf [.ref k, .int (nI m)] μ w (some (.int (nI (F (19 + m))))) μ w := by
  obtain ⟨hs0, hs1, hs2, hs3, hs4, hs5⟩ := hS
  refine x_D.of (by decide) (Nat.le_of_ble_eq_true rfl) ?_
  show x_T sc (d + 1) mX2_leastOf 0 [.ref k, .int (nI m)] [] μ w _
  refine xt_aload_n _ dX2_leastOf_0 rfl ?_
  refine xt_getr _ dX2_leastOf_1 kfX2_9 (by first | rfl | assumption) rfl ?_
  refine xt_iconst (3) dX2_leastOf_4 (by decide) ?_
  refine xt_iload_n _ dX2_leastOf_5 rfl ?_
  refine xt_imul dX2_leastOf_6 ?_
  refine xt_iconst (2) dX2_leastOf_7 (by decide) ?_
  refine xt_iadd dX2_leastOf_8 ?_
  refine xt_cS _ dX2_leastOf_9 klX2_76 (tX8_at sc d μ w (by assumption) (by decide) _) rfl rfl (Nat.le_of_ble_eq_true rfl) ?_
  exact xt_iret .int dX2_leastOf_12 rfl (by first | rfl | assumption) ⟨by rw [s_at_ix (j := 3 * m + 2) (by have := hW.1.2.2.2.1; omega) (by decide) (by simp only [x_lit, pk_mul, nI_add] <;> first | rfl | (congr 1; omega)), hC.2.1 m hm 2 (by decide)], rfl, rfl⟩
set_option maxHeartbeats 1000000 in
theorem tX2_xOf (hS : f_S k) (hC : f_C μ k F) (hW : f_W F) (m : Nat) (hm : m < F 4) : x_D sc (d + 1) mX2_xOf [.ref k, .int (nI m)] μ w (some (.int (nI (F (25 + m))))) μ w := by
  obtain ⟨hs0, hs1, hs2, hs3, hs4, hs5⟩ := hS
  refine x_D.of (by decide) (Nat.le_of_ble_eq_true rfl) ?_
  show x_T sc (d + 1) mX2_xOf 0 [.ref k, .int (nI m)] [] μ w _
  refine xt_aload_n _ dX2_xOf_0 rfl ?_
  refine xt_getr _ dX2_xOf_1 kfX2_15 (by first | rfl | assumption) rfl ?_
  refine xt_iconst (2) dX2_xOf_4 (by decide) ?_
  refine xt_iload_n _ dX2_xOf_5 rfl ?_
  refine xt_imul dX2_xOf_6 ?_
  refine xt_cS _ dX2_xOf_7 klX2_76 (tX8_at sc d μ w (by assumption) (by decide) _) rfl rfl (Nat.le_of_ble_eq_true rfl) ?_
  exact xt_iret .int dX2_xOf_10 rfl (by first | rfl | assumption) ⟨by rw [s_at_ix (j := 2 * m + 0) (by have := hW.1.2.2.2.2.1; omega) (by decide) (by simp only [x_lit, pk_mul, nI_add] <;> first | rfl | (congr 1; omega)), hC.2.2.1 m hm 0 (by decide)], rfl, rfl⟩
set_option maxHeartbeats 1000000 in
theorem tX2_yOf (hS : f_S k) (hC : f_C μ k F) (hW : f_W F) (m : Nat) (hm : m < F 4) : x_D sc (d + 1) mX2_yOf [.ref k, .int (nI m)] μ w (some (.int (nI (F (33 + m))))) μ w := by
  obtain ⟨hs0, hs1, hs2, hs3, hs4, hs5⟩ := hS
  refine x_D.of (by decide) (Nat.le_of_ble_eq_true rfl) ?_
  show x_T sc (d + 1) mX2_yOf 0 [.ref k, .int (nI m)] [] μ w _
  refine xt_aload_n _ dX2_yOf_0 rfl ?_
  refine xt_getr _ dX2_yOf_1 kfX2_15 (by first | rfl | assumption) rfl ?_
  refine xt_iconst (2) dX2_yOf_4 (by decide) ?_
  refine xt_iload_n _ dX2_yOf_5 rfl ?_
  refine xt_imul dX2_yOf_6 ?_
  refine xt_iconst (1) dX2_yOf_7 (by decide) ?_
  refine xt_iadd dX2_yOf_8 ?_
  refine xt_cS _ dX2_yOf_9 klX2_76 (tX8_at sc d μ w (by assumption) (by decide) _) rfl rfl (Nat.le_of_ble_eq_true rfl) ?_
  exact xt_iret .int dX2_yOf_12 rfl (by first | rfl | assumption) ⟨by rw [s_at_ix (j := 2 * m + 1) (by have := hW.1.2.2.2.2.1; omega) (by decide) (by simp only [x_lit, pk_mul, nI_add] <;> first | rfl | (congr 1; omega)), hC.2.2.1 m hm 1 (by decide)], rfl, rfl⟩
set_option maxHeartbeats 1000000 in
theorem tX2_wrongsOf (hS : f_S k) (hC : f_C μ k F) (g j : Nat) (hg : g < 8) (hj : j < 6) : x_D sc (d + 1) mX2_wrongsOf [.ref k, .int (nI g), .int (nI j)] μ w (some (.int (nI (F (41 + (6 * g + j)))))) μ w := by
  obtain ⟨hs0, hs1, hs2, hs3, hs4, hs5⟩ := hS
  refine x_D.of (by decide) (Nat.le_of_ble_eq_true rfl) ?_
  show x_T sc (d + 1) mX2_wrongsOf 0 [.ref k, .int (nI g), .int (nI j)] [] μ w _
  refine xt_aload_n _ dX2_wrongsOf_0 rfl ?_
  refine xt_getr _ dX2_wrongsOf_1 kfX2_18 (by first | rfl | assumption) rfl ?_
  refine xt_bipush (6) dX2_wrongsOf_4 (by decide) ?_
  refine xt_iload_n _ dX2_wrongsOf_6 rfl ?_
  refine xt_imul dX2_wrongsOf_7 ?_
  refine xt_iload_n _ dX2_wrongsOf_8 rfl ?_
  refine xt_iadd dX2_wrongsOf_9 ?_
  refine xt_cS _ dX2_wrongsOf_10 klX2_76 (tX8_at sc d μ w (by assumption) (by decide) _) rfl rfl (Nat.le_of_ble_eq_true rfl) ?_
  exact xt_iret .int dX2_wrongsOf_13 rfl (by first | rfl | assumption) ⟨by rw [s_at_ix (j := 6 * g + j) (by omega) (by decide) (by simp only [x_lit, pk_mul, nI_add]), hC.2.2.2.1 _ (by omega)], rfl, rfl⟩
set_option maxHeartbeats 1000000 in
theorem tX2_farFromStand (hS : f_S k) (hC : f_C μ k F) (hW : f_W F) (x y : Nat) (hx : x ≤ 9) (hy : y ≤ 9) : x_D sc (d + 2) mX2_farFromStand [.ref k, .int (nI x), .int (nI y)] μ w (some (.int (nI (s_farS F x y)))) μ w := by
  obtain ⟨hs0, hs1, hs2, hs3, hs4, hs5⟩ := hS
  refine x_D.of (by decide) (Nat.le_of_ble_eq_true rfl) ?_
  show x_T sc (d + 2) mX2_farFromStand 0 [.ref k, .int (nI x), .int (nI y)] [] μ w _
  refine xt_aload_n _ dX2_farFromStand_0 rfl ?_
  refine xt_geti dX2_farFromStand_1 kfX2_27 (by first | rfl | assumption) rfl ?_
  refine xt_aload_n _ dX2_farFromStand_4 rfl ?_
  refine xt_geti dX2_farFromStand_5 kfX2_31 (by first | rfl | assumption) rfl ?_
  refine xt_iload_n _ dX2_farFromStand_8 rfl ?_
  refine xt_iload_n _ dX2_farFromStand_9 rfl ?_
  refine xt_cS _ dX2_farFromStand_10 klX2_89 (tX8_far sc d μ w _ _ _ _) rfl rfl (Nat.le_of_ble_eq_true rfl) ?_
  exact xt_iret .int dX2_farFromStand_13 rfl (by first | rfl | assumption) ⟨by rw [hC.1 0 (by decide), hC.1 1 (by decide), s_far_nI (by have := hW.1.1; omega) (by have := hW.1.2.1; omega) (by omega) (by omega)]; rfl, rfl, rfl⟩
set_option maxHeartbeats 1000000 in
theorem tX2_farFromGoer (hS : f_S k) (hC : f_C μ k F) (hW : f_W F) (g x y : Nat) (hg : g < F 4) (hx : x ≤ 9) (hy : y ≤ 9) : x_D sc (d + 2) mX2_farFromGoer [.ref k, .int (nI g), .int (nI x), .int (nI y)] μ w (some (.int (nI (s_farG F g x y)))) μ w := by
  obtain ⟨hs0, hs1, hs2, hs3, hs4, hs5⟩ := hS
  refine x_D.of (by decide) (Nat.le_of_ble_eq_true rfl) ?_
  show x_T sc (d + 2) mX2_farFromGoer 0 [.ref k, .int (nI g), .int (nI x), .int (nI y)] [] μ w _
  refine xt_aload_n _ dX2_farFromGoer_0 rfl ?_
  refine xt_iload_n _ dX2_farFromGoer_1 rfl ?_
  refine xt_cV _ dX2_farFromGoer_2 klX2_93 (tX2_xOf sc d w (by exact ⟨hs0, hs1, hs2, hs3, hs4, hs5⟩) hC hW _ (by assumption)) (by assumption) rfl rfl (Nat.le_of_ble_eq_true rfl) ?_
  refine xt_aload_n _ dX2_farFromGoer_5 rfl ?_
  refine xt_iload_n _ dX2_farFromGoer_6 rfl ?_
  refine xt_cV _ dX2_farFromGoer_7 klX2_96 (tX2_yOf sc d w (by exact ⟨hs0, hs1, hs2, hs3, hs4, hs5⟩) hC hW _ (by assumption)) (by assumption) rfl rfl (Nat.le_of_ble_eq_true rfl) ?_
  refine xt_iload_n _ dX2_farFromGoer_10 rfl ?_
  refine xt_iload_n _ dX2_farFromGoer_11 rfl ?_
  refine xt_cS _ dX2_farFromGoer_12 klX2_89 (tX8_far sc d μ w _ _ _ _) rfl rfl (Nat.le_of_ble_eq_true rfl) ?_
  exact xt_iret .int dX2_farFromGoer_15 rfl (by first | rfl | assumption) ⟨by rw [s_far_nI (by have := (hW.2.2.1 g hg).1; omega) (by have := (hW.2.2.1 g hg).2; omega) (by omega) (by omega)]; rfl, rfl, rfl⟩
set_option maxHeartbeats 1000000 in
theorem tX2_farOf (hS : f_S k) (hC : f_C μ k F) (hW : f_W F) (g : Nat) (hg : g < F 4) : x_D sc (d + 2) mX2_farOf [.ref k, .int (nI g)] μ w (some (.int (nI (s_farO F g)))) μ w := by
  obtain ⟨hs0, hs1, hs2, hs3, hs4, hs5⟩ := hS
  refine x_D.of (by decide) (Nat.le_of_ble_eq_true rfl) ?_
  show x_T sc (d + 2) mX2_farOf 0 [.ref k, .int (nI g)] [] μ w _
  refine xt_aload_n _ dX2_farOf_0 rfl ?_
  refine xt_geti dX2_farOf_1 kfX2_27 (by first | rfl | assumption) rfl ?_
  refine xt_aload_n _ dX2_farOf_4 rfl ?_
  refine xt_geti dX2_farOf_5 kfX2_31 (by first | rfl | assumption) rfl ?_
  refine xt_aload_n _ dX2_farOf_8 rfl ?_
  refine xt_iload_n _ dX2_farOf_9 rfl ?_
  refine xt_cV _ dX2_farOf_10 klX2_93 (tX2_xOf sc d w (by exact ⟨hs0, hs1, hs2, hs3, hs4, hs5⟩) hC hW _ (by assumption)) (by assumption) rfl rfl (Nat.le_of_ble_eq_true rfl) ?_
  refine xt_aload_n _ dX2_farOf_13 rfl ?_
  refine xt_iload_n _ dX2_farOf_14 rfl ?_
  refine xt_cV _ dX2_farOf_15 klX2_96 (tX2_yOf sc d w (by exact ⟨hs0, hs1, hs2, hs3, hs4, hs5⟩) hC hW _ (by assumption)) (by assumption) rfl rfl (Nat.le_of_ble_eq_true rfl) ?_
  refine xt_cS _ dX2_farOf_18 klX2_89 (tX8_far sc d μ w _ _ _ _) rfl rfl (Nat.le_of_ble_eq_true rfl) ?_
  exact xt_iret .int dX2_farOf_21 rfl (by first | rfl | assumption) ⟨by rw [hC.1 0 (by decide), hC.1 1 (by decide), s_far_nI (by have := hW.1.1; omega) (by have := hW.1.2.1; omega) (by have := (hW.2.2.1 g hg).1; omega) (by have := (hW.2.2.1 g hg).2; omega)]; rfl, rfl, rfl⟩
def s_hasG (F : Nat → Nat) (g : Int32) : Int32 := if g < 0 then 0 else if g < nI (F 4) then 1 else 0
set_option maxHeartbeats 1000000 in
theorem tX2_hasGoer (hS : f_S k) (hC : f_C μ k F) (g : Int32) : x_D sc d mX2_hasGoer [.ref k, .int g] μ w (some (.int (s_hasG F g))) μ w := by
  obtain ⟨hs0, hs1, hs2, hs3, hs4, hs5⟩ := hS
  refine x_D.of (by decide) (Nat.le_of_ble_eq_true rfl) ?_
  show x_T sc d mX2_hasGoer 0 [.ref k, .int g] [] μ w _
  refine xt_iload_n _ dX2_hasGoer_0 rfl ?_
  refine xt_if_lt 16 dX2_hasGoer_1 (by decide) (fun t1 => ?_) (fun f1 => ?_)
  · refine xt_iconst (0) dX2_hasGoer_16 (by decide) ?_
    exact xt_iret .boolean dX2_hasGoer_17 rfl (by first | rfl | assumption) ⟨by have e := hC.1 4 (by decide); simp_all [s_hasG, Int32.not_lt, Int32.not_le], rfl, rfl⟩
  · refine xt_iload_n _ dX2_hasGoer_4 rfl ?_
    refine xt_aload_n _ dX2_hasGoer_5 rfl ?_
    refine xt_geti dX2_hasGoer_6 kfX2_40 (by first | rfl | assumption) rfl ?_
    refine xt_icmp_ge 16 dX2_hasGoer_9 (by decide) (fun t9 => ?_) (fun f9 => ?_)
    · refine xt_iconst (0) dX2_hasGoer_16 (by decide) ?_
      exact xt_iret .boolean dX2_hasGoer_17 rfl (by first | rfl | assumption) ⟨by have e := hC.1 4 (by decide); simp_all [s_hasG, Int32.not_lt, Int32.not_le], rfl, rfl⟩
    · refine xt_iconst (1) dX2_hasGoer_12 (by decide) ?_
      refine xt_goto 17 dX2_hasGoer_13 (by decide) ?_
      exact xt_iret .boolean dX2_hasGoer_17 rfl (by first | rfl | assumption) ⟨by have e := hC.1 4 (by decide); simp_all [s_hasG, Int32.not_lt, Int32.not_le], rfl, rfl⟩
end FAIR
