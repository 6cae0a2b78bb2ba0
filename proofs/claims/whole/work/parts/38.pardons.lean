/-! the steps of confess and purse -/
/-- the KINDS, and the price, of a set of CONFESSIONS -/
def s_ko (F : Nat → Nat) (x : Nat) : Nat → Nat
  | 0 => 0
  | c + 1 => if x.testBit c then s_ko F x c ||| F (89 + c) else s_ko F x c
def s_pr (F : Nat → Nat) (x : Nat) : Nat → Nat
  | 0 => 0
  | c + 1 => if x.testBit c then s_pr F x c + F (95 + c) else s_pr F x c
theorem s_ko_lt {F : Nat → Nat} (hW : f_W F) (x : Nat) : ∀ c, c ≤ F 5 → s_ko F x c < 64
  | 0, _ => by show 0 < 64; decide
  | c + 1, h => by
    have h1 := s_ko_lt hW x c (by omega)
    have h2 := (hW.2.2.2.2.1 c (by omega)).2.1
    rw [s_ko]; split
    · exact Nat.or_lt_two_pow (n := 6) h1 (by omega)
    · exact h1
theorem s_pr_le {F : Nat → Nat} (hW : f_W F) (x : Nat) : ∀ c, c ≤ F 5 → s_pr F x c ≤ 20 * c
  | 0, _ => Nat.le_refl _
  | c + 1, h => by
    have h1 := s_pr_le hW x c (by omega)
    have h2 := (hW.2.2.2.2.1 c (by omega)).2.2
    rw [s_pr]; split <;> omega
abbrev s_KK (F : Nat → Nat) (x : Nat) : Nat := s_ko F x (F 5)
abbrev s_PP (F : Nat → Nat) (x : Nat) : Nat := s_pr F x (F 5)
abbrev s_cn (F : Nat → Nat) (x : Nat) : Nat := s_cnt (fun i => (s_KK F x).testBit i) 8
/-- the KINDS to be confessed -/
def s_nd (F : Nat → Nat) : Nat → Nat
  | 0 => 0
  | m + 1 => if 0 < s_wk F (F (7 + m)) then s_nd F m ||| 2 ^ F (7 + m) else s_nd F m
theorem s_nd_lt {F : Nat → Nat} (hW : f_W F) : ∀ m, m ≤ F 3 → s_nd F m < 64
  | 0, _ => by show 0 < 64; decide
  | m + 1, h => by
    have h1 := s_nd_lt hW m (by omega)
    have h2 := (hW.2.1 m (by omega)).1
    rw [s_nd]; split
    · exact Nat.or_lt_two_pow (n := 6) h1 (Nat.pow_lt_pow_right (by decide) (by omega))
    · exact h1
abbrev s_suf (F : Nat → Nat) : Nat → Bool := fun x => decide (nI (s_nd F (F 3)) &&& (nI (s_KK F x) ^^^ (-1)) = 0)
def s_pu (F : Nat → Nat) (p : Nat) : Nat → Nat
  | 0 => 0
  | n + 1 => if s_PP F n ≤ p ∧ s_cn F (s_pu F p n) < s_cn F n then n else s_pu F p n
theorem s_pu_lt (F : Nat → Nat) (p : Nat) : ∀ n, s_pu F p (n + 1) ≤ n
  | 0 => by rw [s_pu]; split <;> simp [s_pu]
  | n + 1 => by
    have := s_pu_lt F p n
    rw [s_pu]; split
    · exact Nat.le_refl _
    · omega
theorem s_ko_0 (F : Nat → Nat) : ∀ c, s_ko F 0 c = 0
  | 0 => rfl
  | c + 1 => by rw [s_ko, Nat.zero_testBit]; exact s_ko_0 F c
theorem s_pu_1 (F : Nat → Nat) (p : Nat) : s_pu F p 1 = 0 := by
  rw [s_pu]; split
  · rfl
  · rfl
theorem s_cn_0 (F : Nat → Nat) : s_cn F 0 = 0 := by
  rw [s_cnt_z]; intro i _; rw [s_KK, s_ko_0, Nat.zero_testBit]
theorem x_1sh {c : Nat} (h : c ≤ 8) : (1 : Int32) <<< (nI c &&& 31) = nI (2 ^ c) := x_bit c (by omega)
theorem s_am_0 {v : Nat → Nat} {ok : Nat → Bool} {lim : Nat} : ∀ n, (s_am v ok lim n).1 = 0 → (s_am v ok lim n).2 = lim
  | 0, _ => rfl
  | n + 1, h => by
    rw [s_am] at h ⊢
    by_cases hq : ok n = true ∧ v n < (s_am v ok lim n).2
    · rw [if_pos hq] at h; exact absurd h (by simp)
    · rw [if_neg hq] at h ⊢; exact s_am_0 n h
section PARDON
variable (sc : Nat × (Nat → Int32)) (d : Nat) {μ : x_Me} (w : Int64) {k : Nat} {F : Nat → Nat}
set_option maxHeartbeats 1000000 in
theorem tX5_kindsOf (hS : f_S k) (hC : f_C μ k F) (hW : f_W F) (x : Nat) (hx : x < 64) : x_K sc (d + 1) mX5_kindsOf [.ref k, .int (nI x)] μ w (x_p (some (.int (nI (s_KK F x)))) μ w) := by
  have h5 : F 5 ≤ 6 := hW.1.2.2.2.2.2.1
  have e5 : μ k 5 = nI (F 5) := hC.1 5 (by decide)
  refine x_K.of (by decide) (Nat.le_of_ble_eq_true rfl) ?_
  show x_T sc (d + 1) mX5_kindsOf 0 [.ref k, .int (nI x), .retAddr 0, .retAddr 0] [] μ w _
  refine xt_iconst (0) dX5_kindsOf_0 (by decide) ?_
  refine xt_istore_n dX5_kindsOf_1 (by decide) rfl ?_
  change x_T _ _ _ _ [_, _, _, _] _ _ _ _
  refine xt_iconst (0) dX5_kindsOf_2 (by decide) ?_
  refine xt_istore_n dX5_kindsOf_3 (by decide) rfl ?_
  change x_T _ _ _ _ [_, _, _, _] _ _ _ _
  have L4 : ∀ (n4 m : Nat) , m + n4 = F 5 → x_T sc (d + 1) mX5_kindsOf 4 [.ref k, .int (nI x), .int (nI (s_ko F x m)), .int (nI m)] [] μ w (x_p (some (.int (nI (s_KK F x)))) μ w) := by
    intro n4
    induction n4 with
    | zero =>
      intro m  hmn
      obtain rfl : F 5 = m := by omega
      refine xt_iload_n _ dX5_kindsOf_4 rfl ?_
      refine xt_aload_n _ dX5_kindsOf_5 rfl ?_
      refine xt_geti dX5_kindsOf_6 kfX5_9 (by first | exact sh0 | exact hS.1 | exact sh150 | rfl | assumption) rfl ?_
      refine xt_icmp_ge 39 dX5_kindsOf_9 (by decide) (fun _ => ?_) (fun q => absurd (by rw [e5]; exact Int32.le_refl _) q)
      refine xt_iload_n _ dX5_kindsOf_39 rfl ?_
      exact xt_iret .int dX5_kindsOf_40 rfl (by first | rfl | assumption) ⟨rfl, rfl, rfl⟩
    | succ n4 ih4 =>
      intro m  hmn
      have hlt : m < F 5 := by omega
      refine xt_iload_n _ dX5_kindsOf_4 rfl ?_
      refine xt_aload_n _ dX5_kindsOf_5 rfl ?_
      refine xt_geti dX5_kindsOf_6 kfX5_9 (by first | exact sh0 | exact hS.1 | exact sh150 | rfl | assumption) rfl ?_
      refine xt_icmp_ge 39 dX5_kindsOf_9 (by decide) (fun q => absurd q (by rw [e5]; exact nI_ge hlt (by omega))) (fun _ => ?_)
      refine xt_iload_n _ dX5_kindsOf_12 rfl ?_
      refine xt_iload_n _ dX5_kindsOf_13 rfl ?_
      refine xt_ishr dX5_kindsOf_14 ?_
      refine xt_iconst (1) dX5_kindsOf_15 (by decide) ?_
      refine xt_iand dX5_kindsOf_16 ?_
      refine xt_if_eq 33 dX5_kindsOf_17 (by decide) (fun t17 => ?_) (fun f17 => ?_)
      · refine xt_inc _ (1) dX5_kindsOf_33 rfl (by decide) (by decide) rfl ?_
        change x_T _ _ _ _ [_, _, _, _] _ _ _ _
        refine xt_goto 4 dX5_kindsOf_36 (by decide) ?_
        refine x_T.ls ?_ (ih4 (m + 1) (by omega))
        rw [s_sh1 x (by omega) m (by omega)] at t17
        rw [show s_ko F x (m + 1) = s_ko F x m by rw [s_ko, t17]; rfl, nI_succ m]
      · refine xt_iload_n _ dX5_kindsOf_20 rfl ?_
        refine xt_aload_n _ dX5_kindsOf_21 rfl ?_
        refine xt_getr _ dX5_kindsOf_22 kfX5_15 (by first | exact sh0 | exact hS.1 | exact sh150 | rfl | assumption) rfl ?_
        refine xt_iconst (2) dX5_kindsOf_25 (by decide) ?_
        refine xt_iload_n _ dX5_kindsOf_26 rfl ?_
        refine xt_imul dX5_kindsOf_27 ?_
        refine xt_cS _ dX5_kindsOf_28 klX5_19 (tX8_at sc _ μ w (k := k + 4) (n := 12) hS.2.2.2.2.1 (by decide) _) rfl rfl (Nat.le_of_ble_eq_true rfl) ?_
        rw [s_at_ix (j := 2 * m + 0) (by omega) (by decide) (by rw [show (2 : Int32) = nI 2 from rfl, pk_mul]; rfl), hC.2.2.2.2.1 m hlt 0 (by decide)]
        refine xt_ior dX5_kindsOf_31 ?_
        refine xt_istore_n dX5_kindsOf_32 (by decide) rfl ?_
        change x_T _ _ _ _ [_, _, _, _] _ _ _ _
        refine xt_inc _ (1) dX5_kindsOf_33 rfl (by decide) (by decide) rfl ?_
        change x_T _ _ _ _ [_, _, _, _] _ _ _ _
        refine xt_goto 4 dX5_kindsOf_36 (by decide) ?_
        refine x_T.ls ?_ (ih4 (m + 1) (by omega))
        have hb : x.testBit m = true := by cases hq : x.testBit m; exact absurd ((s_sh1 x (by omega) m (by omega)).mpr hq) f17; rfl
        rw [show s_ko F x (m + 1) = s_ko F x m ||| F (89 + m) by rw [s_ko, hb]; rfl, nI_succ m]
        rw [nI_or]
  exact L4 (F 5) 0  (by omega)
set_option maxHeartbeats 1000000 in
theorem tX5_priceOf (hS : f_S k) (hC : f_C μ k F) (hW : f_W F) (x : Nat) (hx : x < 64) : x_K sc (d + 1) mX5_priceOf [.ref k, .int (nI x)] μ w (x_p (some (.int (nI (s_PP F x)))) μ w) := by
  have h5 : F 5 ≤ 6 := hW.1.2.2.2.2.2.1
  have e5 : μ k 5 = nI (F 5) := hC.1 5 (by decide)
  refine x_K.of (by decide) (Nat.le_of_ble_eq_true rfl) ?_
  show x_T sc (d + 1) mX5_priceOf 0 [.ref k, .int (nI x), .retAddr 0, .retAddr 0] [] μ w _
  refine xt_iconst (0) dX5_priceOf_0 (by decide) ?_
  refine xt_istore_n dX5_priceOf_1 (by decide) rfl ?_
  change x_T _ _ _ _ [_, _, _, _] _ _ _ _
  refine xt_iconst (0) dX5_priceOf_2 (by decide) ?_
  refine xt_istore_n dX5_priceOf_3 (by decide) rfl ?_
  change x_T _ _ _ _ [_, _, _, _] _ _ _ _
  have L4 : ∀ (n4 m : Nat) , m + n4 = F 5 → x_T sc (d + 1) mX5_priceOf 4 [.ref k, .int (nI x), .int (nI (s_pr F x m)), .int (nI m)] [] μ w (x_p (some (.int (nI (s_PP F x)))) μ w) := by
    intro n4
    induction n4 with
    | zero =>
      intro m  hmn
      obtain rfl : F 5 = m := by omega
      refine xt_iload_n _ dX5_priceOf_4 rfl ?_
      refine xt_aload_n _ dX5_priceOf_5 rfl ?_
      refine xt_geti dX5_priceOf_6 kfX5_9 (by first | exact sh0 | exact hS.1 | exact sh150 | rfl | assumption) rfl ?_
      refine xt_icmp_ge 41 dX5_priceOf_9 (by decide) (fun _ => ?_) (fun q => absurd (by rw [e5]; exact Int32.le_refl _) q)
      refine xt_iload_n _ dX5_priceOf_41 rfl ?_
      exact xt_iret .int dX5_priceOf_42 rfl (by first | rfl | assumption) ⟨rfl, rfl, rfl⟩
    | succ n4 ih4 =>
      intro m  hmn
      have hlt : m < F 5 := by omega
      refine xt_iload_n _ dX5_priceOf_4 rfl ?_
      refine xt_aload_n _ dX5_priceOf_5 rfl ?_
      refine xt_geti dX5_priceOf_6 kfX5_9 (by first | exact sh0 | exact hS.1 | exact sh150 | rfl | assumption) rfl ?_
      refine xt_icmp_ge 41 dX5_priceOf_9 (by decide) (fun q => absurd q (by rw [e5]; exact nI_ge hlt (by omega))) (fun _ => ?_)
      refine xt_iload_n _ dX5_priceOf_12 rfl ?_
      refine xt_iload_n _ dX5_priceOf_13 rfl ?_
      refine xt_ishr dX5_priceOf_14 ?_
      refine xt_iconst (1) dX5_priceOf_15 (by decide) ?_
      refine xt_iand dX5_priceOf_16 ?_
      refine xt_if_eq 35 dX5_priceOf_17 (by decide) (fun t17 => ?_) (fun f17 => ?_)
      · refine xt_inc _ (1) dX5_priceOf_35 rfl (by decide) (by decide) rfl ?_
        change x_T _ _ _ _ [_, _, _, _] _ _ _ _
        refine xt_goto 4 dX5_priceOf_38 (by decide) ?_
        refine x_T.ls ?_ (ih4 (m + 1) (by omega))
        rw [s_sh1 x (by omega) m (by omega)] at t17
        rw [show s_pr F x (m + 1) = s_pr F x m by rw [s_pr, t17]; rfl, nI_succ m]
      · refine xt_iload_n _ dX5_priceOf_20 rfl ?_
        refine xt_aload_n _ dX5_priceOf_21 rfl ?_
        refine xt_getr _ dX5_priceOf_22 kfX5_15 (by first | exact sh0 | exact hS.1 | exact sh150 | rfl | assumption) rfl ?_
        refine xt_iconst (2) dX5_priceOf_25 (by decide) ?_
        refine xt_iload_n _ dX5_priceOf_26 rfl ?_
        refine xt_imul dX5_priceOf_27 ?_
        refine xt_iconst (1) dX5_priceOf_28 (by decide) ?_
        refine xt_iadd dX5_priceOf_29 ?_
        refine xt_cS _ dX5_priceOf_30 klX5_19 (tX8_at sc _ μ w (k := k + 4) (n := 12) hS.2.2.2.2.1 (by decide) _) rfl rfl (Nat.le_of_ble_eq_true rfl) ?_
        rw [s_at_ix (j := 2 * m + 1) (by omega) (by decide) (by rw [show (2 : Int32) = nI 2 from rfl, show (1 : Int32) = nI 1 from rfl, pk_mul, nI_add]), hC.2.2.2.2.1 m hlt 1 (by decide)]
        refine xt_iadd dX5_priceOf_33 ?_
        refine xt_istore_n dX5_priceOf_34 (by decide) rfl ?_
        change x_T _ _ _ _ [_, _, _, _] _ _ _ _
        refine xt_inc _ (1) dX5_priceOf_35 rfl (by decide) (by decide) rfl ?_
        change x_T _ _ _ _ [_, _, _, _] _ _ _ _
        refine xt_goto 4 dX5_priceOf_38 (by decide) ?_
        refine x_T.ls ?_ (ih4 (m + 1) (by omega))
        have hb : x.testBit m = true := by cases hq : x.testBit m; exact absurd ((s_sh1 x (by omega) m (by omega)).mpr hq) f17; rfl
        rw [show s_pr F x (m + 1) = s_pr F x m + F (95 + m) by rw [s_pr, hb]; rfl, nI_succ m]
        rw [nI_add]
  exact L4 (F 5) 0  (by omega)
set_option maxHeartbeats 1000000 in
theorem tX5_needed (hS : f_S k) (hC : f_C μ k F) (hW : f_W F) : x_K sc (d + 3) mX5_needed [.ref k] μ w (x_p (some (.int (nI (s_nd F (F 3))))) μ w) := by
  have h6 : F 3 ≤ 6 := hW.1.2.2.2.1
  have h8 : F 4 ≤ 8 := hW.1.2.2.2.2.1
  have e3 : μ k 3 = nI (F 3) := hC.1 3 (by decide)
  refine x_K.of (by decide) (Nat.le_of_ble_eq_true rfl) ?_
  show x_T sc (d + 3) mX5_needed 0 [.ref k, .retAddr 0, .retAddr 0] [] μ w _
  refine xt_iconst (0) dX5_needed_0 (by decide) ?_
  refine xt_istore_n dX5_needed_1 (by decide) rfl ?_
  change x_T _ _ _ _ [_, _, _] _ _ _ _
  refine xt_iconst (0) dX5_needed_2 (by decide) ?_
  refine xt_istore_n dX5_needed_3 (by decide) rfl ?_
  change x_T _ _ _ _ [_, _, _] _ _ _ _
  have L4 : ∀ (n4 m : Nat) , m + n4 = F 3 → x_T sc (d + 3) mX5_needed 4 [.ref k, .int (nI (s_nd F m)), .int (nI m)] [] μ w (x_p (some (.int (nI (s_nd F (F 3))))) μ w) := by
    intro n4
    induction n4 with
    | zero =>
      intro m  hmn
      obtain rfl : F 3 = m := by omega
      refine xt_iload_n _ dX5_needed_4 rfl ?_
      refine xt_aload_n _ dX5_needed_5 rfl ?_
      refine xt_geti dX5_needed_6 kfX5_25 (by first | exact sh0 | exact hS.1 | exact sh150 | rfl | assumption) rfl ?_
      refine xt_icmp_ge 40 dX5_needed_9 (by decide) (fun _ => ?_) (fun q => absurd (by rw [e3]; exact Int32.le_refl _) q)
      refine xt_iload_n _ dX5_needed_40 rfl ?_
      exact xt_iret .int dX5_needed_41 rfl (by first | rfl | assumption) ⟨rfl, rfl, rfl⟩
    | succ n4 ih4 =>
      intro m  hmn
      have hlt : m < F 3 := by omega
      have hk5 := (hW.2.1 m hlt).1
      have hwk : s_wk F (F (7 + m)) ≤ 72 := s_wk_le hW (by omega) h8
      refine xt_iload_n _ dX5_needed_4 rfl ?_
      refine xt_aload_n _ dX5_needed_5 rfl ?_
      refine xt_geti dX5_needed_6 kfX5_25 (by first | exact sh0 | exact hS.1 | exact sh150 | rfl | assumption) rfl ?_
      refine xt_icmp_ge 40 dX5_needed_9 (by decide) (fun q => absurd q (by rw [e3]; exact nI_ge hlt (by omega))) (fun _ => ?_)
      refine xt_aload_n _ dX5_needed_12 rfl ?_
      refine xt_aload_n _ dX5_needed_13 rfl ?_
      refine xt_iload_n _ dX5_needed_14 rfl ?_
      refine xt_cV _ dX5_needed_15 klX5_28 (tX2_kindOf sc _ w hS hC hW m hlt) hS.1 rfl rfl (Nat.le_of_ble_eq_true rfl) ?_
      refine xt_cV _ dX5_needed_18 klX5_32 (tX2_wrongsOfKind sc _ w hS hC hW (F (7 + m)) (by omega)) hS.1 rfl rfl (Nat.le_of_ble_eq_true rfl) ?_
      change x_T _ _ _ _ _ (.int (nI (s_wk F (F (7 + m)))) :: _) _ _ _
      refine xt_if_le 34 dX5_needed_21 (by decide) (fun t21 => ?_) (fun f21 => ?_)
      · have n21 : s_wk F (F (7 + m)) ≤ 0 := (nI_leI (a := s_wk F (F (7 + m))) (b := 0) (by omega) (by omega)).mp t21
        refine xt_inc _ (1) dX5_needed_34 rfl (by decide) (by decide) rfl ?_
        change x_T _ _ _ _ [_, _, _] _ _ _ _
        refine xt_goto 4 dX5_needed_37 (by decide) ?_
        refine x_T.ls ?_ (ih4 (m + 1) (by omega))
        rw [show s_nd F (m + 1) = s_nd F m by rw [s_nd, if_neg (by omega)], nI_succ m]
      · have n21 : ¬ (s_wk F (F (7 + m)) ≤ 0) := fun z => f21 ((nI_leI (a := s_wk F (F (7 + m))) (b := 0) (by omega) (by omega)).mpr z)
        refine xt_iload_n _ dX5_needed_24 rfl ?_
        refine xt_iconst (1) dX5_needed_25 (by decide) ?_
        refine xt_aload_n _ dX5_needed_26 rfl ?_
        refine xt_iload_n _ dX5_needed_27 rfl ?_
        refine xt_cV _ dX5_needed_28 klX5_28 (tX2_kindOf sc _ w hS hC hW m hlt) hS.1 rfl rfl (Nat.le_of_ble_eq_true rfl) ?_
        refine xt_ishl dX5_needed_31 ?_
        refine xt_ior dX5_needed_32 ?_
        refine xt_istore_n dX5_needed_33 (by decide) rfl ?_
        change x_T _ _ _ _ [_, _, _] _ _ _ _
        refine xt_inc _ (1) dX5_needed_34 rfl (by decide) (by decide) rfl ?_
        change x_T _ _ _ _ [_, _, _] _ _ _ _
        refine xt_goto 4 dX5_needed_37 (by decide) ?_
        refine x_T.ls ?_ (ih4 (m + 1) (by omega))
        rw [show s_nd F (m + 1) = s_nd F m ||| 2 ^ F (7 + m) by rw [s_nd, if_pos (by omega)], nI_succ m, x_1sh (by omega), nI_or]
  exact L4 (F 3) 0  (by omega)
set_option maxHeartbeats 1000000 in
theorem tX5_cheapest (hS : f_S k) (hC : f_C μ k F) (hW : f_W F) : x_K sc (d + 4) mX5_cheapest [.ref k] μ w (x_p (some (.int (eI (s_am (s_PP F) (s_suf F) 1000 (2 ^ F 5)).1))) μ w) := by
  have h5 : F 5 ≤ 6 := hW.1.2.2.2.2.2.1
  have h64 : 2 ^ F 5 ≤ 64 := Nat.pow_le_pow_right (i := F 5) (j := 6) (by decide) h5
  have e5 : μ k 5 = nI (F 5) := hC.1 5 (by decide)
  refine x_K.of (by decide) (Nat.le_of_ble_eq_true rfl) ?_
  show x_T sc (d + 4) mX5_cheapest 0 [.ref k, .retAddr 0, .retAddr 0, .retAddr 0, .retAddr 0, .retAddr 0] [] μ w _
  refine xt_aload_n _ dX5_cheapest_0 rfl ?_
  refine xt_cS _ dX5_cheapest_1 klX5_35 (tX5_needed sc _ w hS hC hW) rfl rfl (Nat.le_of_ble_eq_true rfl) ?_
  refine xt_istore_n dX5_cheapest_4 (by decide) rfl ?_
  change x_T _ _ _ _ [_, _, _, _, _, _] _ _ _ _
  refine xt_iconst (-1) dX5_cheapest_5 (by decide) ?_
  refine xt_istore_n dX5_cheapest_6 (by decide) rfl ?_
  change x_T _ _ _ _ [_, _, _, _, _, _] _ _ _ _
  refine xt_iconst (0) dX5_cheapest_7 (by decide) ?_
  refine xt_istore_n dX5_cheapest_8 (by decide) rfl ?_
  change x_T _ _ _ _ [_, _, _, _, _, _] _ _ _ _
  refine xt_iconst (0) dX5_cheapest_9 (by decide) ?_
  refine xt_istore dX5_cheapest_10 (by decide) rfl ?_
  change x_T _ _ _ _ [_, _, _, _, _, _] _ _ _ _
  have L12 : ∀ (n12 m : Nat) (v5 : Value), m + n12 = 2 ^ F 5 → x_T sc (d + 4) mX5_cheapest 12 [.ref k, .int (nI (s_nd F (F 3))), .int (eI (s_am (s_PP F) (s_suf F) 1000 m).1), .int (if (s_am (s_PP F) (s_suf F) 1000 m).1 = 0 then 0 else nI (s_am (s_PP F) (s_suf F) 1000 m).2), .int (nI m), v5] [] μ w (x_p (some (.int (eI (s_am (s_PP F) (s_suf F) 1000 (2 ^ F 5)).1))) μ w) := by
    intro n12
    induction n12 with
    | zero =>
      intro m v5 hmn
      obtain rfl : 2 ^ F 5 = m := by omega
      refine xt_iload _ dX5_cheapest_12 rfl ?_
      refine xt_iconst (1) dX5_cheapest_14 (by decide) ?_
      refine xt_aload_n _ dX5_cheapest_15 rfl ?_
      refine xt_geti dX5_cheapest_16 kfX5_9 (by first | exact sh0 | exact hS.1 | exact sh150 | rfl | assumption) rfl ?_
      refine xt_ishl dX5_cheapest_19 ?_
      refine xt_icmp_ge 67 dX5_cheapest_20 (by decide) (fun _ => ?_) (fun q => absurd (by rw [e5, x_1sh (by omega)]; exact Int32.le_refl _) q)
      refine xt_iload_n _ dX5_cheapest_67 rfl ?_
      exact xt_iret .int dX5_cheapest_68 rfl (by first | rfl | assumption) ⟨rfl, rfl, rfl⟩
    | succ n12 ih12 =>
      intro m v5 hmn
      have hlt : m < 2 ^ F 5 := by omega
      have hpp : s_PP F m ≤ 20 * F 5 := s_pr_le hW m (F 5) (Nat.le_refl _)
      have hal := s_am_le (v := s_PP F) (ok := s_suf F) (lim := 1000) m
      refine xt_iload _ dX5_cheapest_12 rfl ?_
      refine xt_iconst (1) dX5_cheapest_14 (by decide) ?_
      refine xt_aload_n _ dX5_cheapest_15 rfl ?_
      refine xt_geti dX5_cheapest_16 kfX5_9 (by first | exact sh0 | exact hS.1 | exact sh150 | rfl | assumption) rfl ?_
      refine xt_ishl dX5_cheapest_19 ?_
      refine xt_icmp_ge 67 dX5_cheapest_20 (by decide) (fun q => absurd q (by rw [e5, x_1sh (by omega)]; exact nI_ge hlt (by omega))) (fun _ => ?_)
      refine xt_iload_n _ dX5_cheapest_23 rfl ?_
      refine xt_aload_n _ dX5_cheapest_24 rfl ?_
      refine xt_iload _ dX5_cheapest_25 rfl ?_
      refine xt_cS _ dX5_cheapest_27 klX5_41 (tX5_kindsOf sc _ w hS hC hW m (by omega)) rfl rfl (Nat.le_of_ble_eq_true rfl) ?_
      refine xt_iconst (-1) dX5_cheapest_30 (by decide) ?_
      refine xt_ixor dX5_cheapest_31 ?_
      refine xt_iand dX5_cheapest_32 ?_
      refine xt_if_ne 61 dX5_cheapest_33 (by decide) (fun t33 => ?_) (fun f33 => ?_)
      · refine xt_inc _ (1) dX5_cheapest_61 rfl (by decide) (by decide) rfl ?_
        change x_T _ _ _ _ [_, _, _, _, _, _] _ _ _ _
        refine xt_goto 12 dX5_cheapest_64 (by decide) ?_
        refine x_T.ls ?_ (ih12 (m + 1) v5 (by omega))
        rw [s_am_n1 (v := s_PP F) (ok := s_suf F) (n := m) (decide_eq_false t33), nI_succ m]
      · refine xt_aload_n _ dX5_cheapest_36 rfl ?_
        refine xt_iload _ dX5_cheapest_37 rfl ?_
        refine xt_cS _ dX5_cheapest_39 klX5_45 (tX5_priceOf sc _ w hS hC hW m (by omega)) rfl rfl (Nat.le_of_ble_eq_true rfl) ?_
        refine xt_istore dX5_cheapest_42 (by decide) rfl ?_
        change x_T _ _ _ _ [_, _, _, _, _, _] _ _ _ _
        refine xt_iload_n _ dX5_cheapest_44 rfl ?_
        refine xt_iconst (-1) dX5_cheapest_45 (by decide) ?_
        refine xt_icmp_eq 55 dX5_cheapest_46 (by decide) (fun t46 => ?_) (fun f46 => ?_)
        · refine xt_iload _ dX5_cheapest_55 rfl ?_
          refine xt_istore_n dX5_cheapest_57 (by decide) rfl ?_
          change x_T _ _ _ _ [_, _, _, _, _, _] _ _ _ _
          refine xt_iload _ dX5_cheapest_58 rfl ?_
          refine xt_istore_n dX5_cheapest_60 (by decide) rfl ?_
          change x_T _ _ _ _ [_, _, _, _, _, _] _ _ _ _
          refine xt_inc _ (1) dX5_cheapest_61 rfl (by decide) (by decide) rfl ?_
          change x_T _ _ _ _ [_, _, _, _, _, _] _ _ _ _
          refine xt_goto 12 dX5_cheapest_64 (by decide) ?_
          rw [eI_m1 (by omega)] at t46
          have h1000 : (s_am (s_PP F) (s_suf F) 1000 m).2 = 1000 := s_am_0 m t46
          refine x_T.ls ?_ (ih12 (m + 1) (.int (nI (s_PP F m))) (by omega))
          have hok : s_suf F m = true := decide_eq_true f33
          rw [s_am_y (v := s_PP F) (ok := s_suf F) (n := m) hok (by omega), nI_succ m]
          simp only [eI_s]
          rw [if_neg (by omega)]
        · refine xt_iload _ dX5_cheapest_49 rfl ?_
          refine xt_iload_n _ dX5_cheapest_51 rfl ?_
          refine xt_icmp_ge 61 dX5_cheapest_52 (by decide) (fun t52 => ?_) (fun f52 => ?_)
          · refine xt_inc _ (1) dX5_cheapest_61 rfl (by decide) (by decide) rfl ?_
            change x_T _ _ _ _ [_, _, _, _, _, _] _ _ _ _
            refine xt_goto 12 dX5_cheapest_64 (by decide) ?_
            have hne : (s_am (s_PP F) (s_suf F) 1000 m).1 ≠ 0 := fun z => f46 ((eI_m1 (by omega)).mpr z)
            refine x_T.ls ?_ (ih12 (m + 1) (.int (nI (s_PP F m))) (by omega))
            have hok : s_suf F m = true := decide_eq_true f33
            rw [if_neg hne, nI_leI (by omega) (by omega)] at t52
            rw [s_am_n2 (v := s_PP F) (ok := s_suf F) (n := m) (by omega), nI_succ m]
          · refine xt_iload _ dX5_cheapest_55 rfl ?_
            refine xt_istore_n dX5_cheapest_57 (by decide) rfl ?_
            change x_T _ _ _ _ [_, _, _, _, _, _] _ _ _ _
            refine xt_iload _ dX5_cheapest_58 rfl ?_
            refine xt_istore_n dX5_cheapest_60 (by decide) rfl ?_
            change x_T _ _ _ _ [_, _, _, _, _, _] _ _ _ _
            refine xt_inc _ (1) dX5_cheapest_61 rfl (by decide) (by decide) rfl ?_
            change x_T _ _ _ _ [_, _, _, _, _, _] _ _ _ _
            refine xt_goto 12 dX5_cheapest_64 (by decide) ?_
            have hne : (s_am (s_PP F) (s_suf F) 1000 m).1 ≠ 0 := fun z => f46 ((eI_m1 (by omega)).mpr z)
            refine x_T.ls ?_ (ih12 (m + 1) (.int (nI (s_PP F m))) (by omega))
            have hok : s_suf F m = true := decide_eq_true f33
            rw [if_neg hne, nI_leI (by omega) (by omega)] at f52
            rw [s_am_y (v := s_PP F) (ok := s_suf F) (n := m) hok (by omega), nI_succ m]
            simp only [eI_s]
            rw [if_neg (by omega)]
  exact L12 (2 ^ F 5) 0 _ (by omega)
set_option maxHeartbeats 1000000 in
theorem tX5_broadest (hS : f_S k) (hC : f_C μ k F) (hW : f_W F) (p : Nat) (hp : p ≤ 99) : x_K sc (d + 2) mX5_broadest [.ref k, .int (nI p)] μ w (x_p (some (.int (nI (s_pu F p (2 ^ F 5))))) μ w) := by
  have h5 : F 5 ≤ 6 := hW.1.2.2.2.2.2.1
  have h64 : 2 ^ F 5 ≤ 64 := Nat.pow_le_pow_right (i := F 5) (j := 6) (by decide) h5
  have h01 : 0 < 2 ^ F 5 := Nat.pow_pos (by decide)
  have e5 : μ k 5 = nI (F 5) := hC.1 5 (by decide)
  refine x_K.of (by decide) (Nat.le_of_ble_eq_true rfl) ?_
  show x_T sc (d + 2) mX5_broadest 0 [.ref k, .int (nI p), .retAddr 0, .retAddr 0, .retAddr 0, .retAddr 0] [] μ w _
  refine xt_iconst (0) dX5_broadest_0 (by decide) ?_
  refine xt_istore_n dX5_broadest_1 (by decide) rfl ?_
  change x_T _ _ _ _ [_, _, _, _, _, _] _ _ _ _
  refine xt_iconst (0) dX5_broadest_2 (by decide) ?_
  refine xt_istore_n dX5_broadest_3 (by decide) rfl ?_
  change x_T _ _ _ _ [_, _, _, _, _, _] _ _ _ _
  refine xt_iconst (1) dX5_broadest_4 (by decide) ?_
  refine xt_istore dX5_broadest_5 (by decide) rfl ?_
  change x_T _ _ _ _ [_, _, _, _, _, _] _ _ _ _
  have L7 : ∀ (n7 m : Nat) (v5 : Value), m + n7 = 2 ^ F 5 - 1 → x_T sc (d + 2) mX5_broadest 7 [.ref k, .int (nI p), .int (nI (s_pu F p (m + 1))), .int (nI (s_cn F (s_pu F p (m + 1)))), .int (nI (m + 1)), v5] [] μ w (x_p (some (.int (nI (s_pu F p (2 ^ F 5))))) μ w) := by
    intro n7
    induction n7 with
    | zero =>
      intro m v5 hmn
      obtain rfl : 2 ^ F 5 - 1 = m := by omega
      refine xt_iload _ dX5_broadest_7 rfl ?_
      refine xt_iconst (1) dX5_broadest_9 (by decide) ?_
      refine xt_aload_n _ dX5_broadest_10 rfl ?_
      refine xt_geti dX5_broadest_11 kfX5_9 (by first | exact sh0 | exact hS.1 | exact sh150 | rfl | assumption) rfl ?_
      refine xt_ishl dX5_broadest_14 ?_
      refine xt_icmp_ge 57 dX5_broadest_15 (by decide) (fun _ => ?_) (fun q => absurd (by rw [e5, x_1sh (by omega)]; exact nI_le (by omega) (by omega)) q)
      refine xt_iload_n _ dX5_broadest_57 rfl ?_
      exact xt_iret .int dX5_broadest_58 rfl (by first | rfl | assumption) ⟨by rw [show 2 ^ F 5 - 1 + 1 = 2 ^ F 5 by omega], rfl, rfl⟩
    | succ n7 ih7 =>
      intro m v5 hmn
      have hlt : m < 2 ^ F 5 - 1 := by omega
      have hko : s_KK F (m + 1) < 64 := s_ko_lt hW (m + 1) (F 5) (Nat.le_refl _)
      have hpp : s_PP F (m + 1) ≤ 20 * F 5 := s_pr_le hW (m + 1) (F 5) (Nat.le_refl _)
      have hc1 : s_cn F (m + 1) ≤ 8 := s_cnt_le _ _
      have hc2 : s_cn F (s_pu F p (m + 1)) ≤ 8 := s_cnt_le _ _
      refine xt_iload _ dX5_broadest_7 rfl ?_
      refine xt_iconst (1) dX5_broadest_9 (by decide) ?_
      refine xt_aload_n _ dX5_broadest_10 rfl ?_
      refine xt_geti dX5_broadest_11 kfX5_9 (by first | exact sh0 | exact hS.1 | exact sh150 | rfl | assumption) rfl ?_
      refine xt_ishl dX5_broadest_14 ?_
      refine xt_icmp_ge 57 dX5_broadest_15 (by decide) (fun q => absurd q (by rw [e5, x_1sh (by omega)]; exact nI_ge (by omega) (by omega))) (fun _ => ?_)
      refine xt_aload_n _ dX5_broadest_18 rfl ?_
      refine xt_iload _ dX5_broadest_19 rfl ?_
      refine xt_cS _ dX5_broadest_21 klX5_41 (tX5_kindsOf sc _ w hS hC hW (m + 1) (by omega)) rfl rfl (Nat.le_of_ble_eq_true rfl) ?_
      refine xt_cS _ dX5_broadest_24 klX5_48 (tJ_bitCount sc _ w _) rfl rfl (Nat.le_of_ble_eq_true rfl) ?_
      rw [s_bc_pop (s_KK F (m + 1)) (by omega), show s_pop (s_KK F (m + 1)) = s_cn F (m + 1) from rfl]
      refine xt_istore dX5_broadest_27 (by decide) rfl ?_
      change x_T _ _ _ _ [_, _, _, _, _, _] _ _ _ _
      refine xt_iload _ dX5_broadest_29 rfl ?_
      refine xt_iload_n _ dX5_broadest_31 rfl ?_
      refine xt_icmp_le 51 dX5_broadest_32 (by decide) (fun t32 => ?_) (fun f32 => ?_)
      · refine xt_inc _ (1) dX5_broadest_51 rfl (by decide) (by decide) rfl ?_
        change x_T _ _ _ _ [_, _, _, _, _, _] _ _ _ _
        refine xt_goto 7 dX5_broadest_54 (by decide) ?_
        rw [nI_leI (by omega) (by omega)] at t32
        refine x_T.ls ?_ (ih7 (m + 1) (.int (nI (s_cn F (m + 1)))) (by omega))
        rw [show s_pu F p (m + 1 + 1) = s_pu F p (m + 1) by rw [s_pu, if_neg (fun z => by omega)], nI_succ (m + 1)]
      · refine xt_aload_n _ dX5_broadest_35 rfl ?_
        refine xt_iload _ dX5_broadest_36 rfl ?_
        refine xt_cS _ dX5_broadest_38 klX5_45 (tX5_priceOf sc _ w hS hC hW (m + 1) (by omega)) rfl rfl (Nat.le_of_ble_eq_true rfl) ?_
        refine xt_iload_n _ dX5_broadest_41 rfl ?_
        refine xt_icmp_gt 51 dX5_broadest_42 (by decide) (fun t42 => ?_) (fun f42 => ?_)
        · refine xt_inc _ (1) dX5_broadest_51 rfl (by decide) (by decide) rfl ?_
          change x_T _ _ _ _ [_, _, _, _, _, _] _ _ _ _
          refine xt_goto 7 dX5_broadest_54 (by decide) ?_
          rw [nI_leI (by omega) (by omega)] at f32
          rw [nI_ltI (by omega) (by omega)] at t42
          refine x_T.ls ?_ (ih7 (m + 1) (.int (nI (s_cn F (m + 1)))) (by omega))
          rw [show s_pu F p (m + 1 + 1) = s_pu F p (m + 1) by rw [s_pu, if_neg (fun z => by omega)], nI_succ (m + 1)]
        · refine xt_iload _ dX5_broadest_45 rfl ?_
          refine xt_istore_n dX5_broadest_47 (by decide) rfl ?_
          change x_T _ _ _ _ [_, _, _, _, _, _] _ _ _ _
          refine xt_iload _ dX5_broadest_48 rfl ?_
          refine xt_istore_n dX5_broadest_50 (by decide) rfl ?_
          change x_T _ _ _ _ [_, _, _, _, _, _] _ _ _ _
          refine xt_inc _ (1) dX5_broadest_51 rfl (by decide) (by decide) rfl ?_
          change x_T _ _ _ _ [_, _, _, _, _, _] _ _ _ _
          refine xt_goto 7 dX5_broadest_54 (by decide) ?_
          rw [nI_leI (by omega) (by omega)] at f32
          rw [nI_ltI (by omega) (by omega)] at f42
          refine x_T.ls ?_ (ih7 (m + 1) (.int (nI (s_cn F (m + 1)))) (by omega))
          rw [show s_pu F p (m + 1 + 1) = m + 1 by rw [s_pu, if_pos ⟨by omega, by omega⟩], nI_succ (m + 1)]
  refine x_T.ls ?_ (L7 (2 ^ F 5 - 1) 0 (.retAddr 0) (by omega))
  rw [s_pu_1, s_cn_0]
  rfl
end PARDON
section PARDONM
variable (sc : Nat × (Nat → Int32)) (d : Nat) (μ : x_Me) (w : Int64)
set_option maxHeartbeats 1000000 in
theorem tX12_pardons (f : Nat) (F : Nat → Nat) (hS : m_S μ f F) (hW : f_W F) (x : Nat) (hx : x < 64) : x_K sc (d + 1) mX12_pardons [.ref 152, .int (nI x)] μ w (x_p (some (.int (nI (s_KK F x)))) μ w) := by
  have h5 : F 5 ≤ 6 := hW.1.2.2.2.2.2.1
  have e5 : μ 158 (125 * f + 5) = nI (F 5) := hS.2.2.2 5 (by decide) (Or.inl ⟨by decide, by decide⟩)
  refine x_K.of (by decide) (Nat.le_of_ble_eq_true rfl) ?_
  show x_T sc (d + 1) mX12_pardons 0 [.ref 152, .int (nI x), .retAddr 0, .retAddr 0] [] μ w _
  refine xt_iconst (0) dX12_pardons_0 (by decide) ?_
  refine xt_istore_n dX12_pardons_1 (by decide) rfl ?_
  change x_T _ _ _ _ [_, _, _, _] _ _ _ _
  refine xt_iconst (0) dX12_pardons_2 (by decide) ?_
  refine xt_istore_n dX12_pardons_3 (by decide) rfl ?_
  change x_T _ _ _ _ [_, _, _, _] _ _ _ _
  have L4 : ∀ (n4 m : Nat) , m + n4 = F 5 → x_T sc (d + 1) mX12_pardons 4 [.ref 152, .int (nI x), .int (nI (s_ko F x m)), .int (nI m)] [] μ w (x_p (some (.int (nI (s_KK F x)))) μ w) := by
    intro n4
    induction n4 with
    | zero =>
      intro m  hmn
      obtain rfl : F 5 = m := by omega
      refine xt_iload_n _ dX12_pardons_4 rfl ?_
      refine xt_aload_n _ dX12_pardons_5 rfl ?_
      refine xt_iconst (5) dX12_pardons_6 (by decide) ?_
      refine xt_cV _ dX12_pardons_7 klX12_244 (tX12_of sc _ μ _ f 5 (by have := hS.1.1; omega) (by decide) hS.1.2.1) sh152 rfl rfl (Nat.le_of_ble_eq_true rfl) ?_
      rw [e5]
      refine xt_icmp_ge 42 dX12_pardons_10 (by decide) (fun _ => ?_) (fun q => absurd (Int32.le_refl _) q)
      refine xt_iload_n _ dX12_pardons_42 rfl ?_
      exact xt_iret .int dX12_pardons_43 rfl (by first | rfl | assumption) ⟨rfl, rfl, rfl⟩
    | succ n4 ih4 =>
      intro m  hmn
      have hlt : m < F 5 := by omega
      refine xt_iload_n _ dX12_pardons_4 rfl ?_
      refine xt_aload_n _ dX12_pardons_5 rfl ?_
      refine xt_iconst (5) dX12_pardons_6 (by decide) ?_
      refine xt_cV _ dX12_pardons_7 klX12_244 (tX12_of sc _ μ _ f 5 (by have := hS.1.1; omega) (by decide) hS.1.2.1) sh152 rfl rfl (Nat.le_of_ble_eq_true rfl) ?_
      rw [e5]
      refine xt_icmp_ge 42 dX12_pardons_10 (by decide) (fun q => absurd q (nI_ge hlt (by omega))) (fun _ => ?_)
      refine xt_iload_n _ dX12_pardons_13 rfl ?_
      refine xt_iload_n _ dX12_pardons_14 rfl ?_
      refine xt_iload_n _ dX12_pardons_15 rfl ?_
      refine xt_cS _ dX12_pardons_16 klX12_76 (tX12_has sc _ μ _ _ _) rfl rfl (Nat.le_of_ble_eq_true rfl) ?_
      refine xt_if_eq 33 dX12_pardons_19 (by decide) (fun t19 => ?_) (fun f19 => ?_)
      · refine xt_iconst (0) dX12_pardons_33 (by decide) ?_
        refine xt_ior dX12_pardons_34 ?_
        refine xt_istore_n dX12_pardons_35 (by decide) rfl ?_
        change x_T _ _ _ _ [_, _, _, _] _ _ _ _
        refine xt_inc _ (1) dX12_pardons_36 rfl (by decide) (by decide) rfl ?_
        change x_T _ _ _ _ [_, _, _, _] _ _ _ _
        refine xt_goto 4 dX12_pardons_39 (by decide) ?_
        refine x_T.ls ?_ (ih4 (m + 1) (by omega))
        rw [s_has_nI x (by omega) m (by omega)] at t19
        have hb : x.testBit m = false := by cases hq : x.testBit m <;> simp_all
        rw [show s_ko F x (m + 1) = s_ko F x m by rw [s_ko, hb]; rfl, nI_succ m, Int32.or_zero]
      · refine xt_aload_n _ dX12_pardons_22 rfl ?_
        refine xt_bipush (89) dX12_pardons_23 (by decide) ?_
        refine xt_iload_n _ dX12_pardons_25 rfl ?_
        refine xt_iadd dX12_pardons_26 ?_
        rw [show (89 : Int32) + nI m = nI (89 + m) from nI_add 89 m]
        refine xt_cV _ dX12_pardons_27 klX12_244 (tX12_of sc _ μ _ f (89 + m) (by have := hS.1.1; omega) (by omega) hS.1.2.1) sh152 rfl rfl (Nat.le_of_ble_eq_true rfl) ?_
        rw [hS.2.2.2 (89 + m) (by omega) (by omega)]
        refine xt_goto 34 dX12_pardons_30 (by decide) ?_
        refine xt_ior dX12_pardons_34 ?_
        refine xt_istore_n dX12_pardons_35 (by decide) rfl ?_
        change x_T _ _ _ _ [_, _, _, _] _ _ _ _
        refine xt_inc _ (1) dX12_pardons_36 rfl (by decide) (by decide) rfl ?_
        change x_T _ _ _ _ [_, _, _, _] _ _ _ _
        refine xt_goto 4 dX12_pardons_39 (by decide) ?_
        refine x_T.ls ?_ (ih4 (m + 1) (by omega))
        rw [s_has_nI x (by omega) m (by omega)] at f19
        have hb : x.testBit m = true := by cases hq : x.testBit m <;> simp_all
        rw [show s_ko F x (m + 1) = s_ko F x m ||| F (89 + m) by rw [s_ko, hb]; rfl, nI_succ m]
        rw [nI_or]
  exact L4 (F 5) 0  (by omega)
set_option maxHeartbeats 1000000 in
theorem tX12_pricesOf (f : Nat) (F : Nat → Nat) (hS : m_S μ f F) (hW : f_W F) (x : Nat) (hx : x < 64) : x_K sc (d + 1) mX12_pricesOf [.ref 152, .int (nI x)] μ w (x_p (some (.int (nI (s_PP F x)))) μ w) := by
  have h5 : F 5 ≤ 6 := hW.1.2.2.2.2.2.1
  have e5 : μ 158 (125 * f + 5) = nI (F 5) := hS.2.2.2 5 (by decide) (Or.inl ⟨by decide, by decide⟩)
  refine x_K.of (by decide) (Nat.le_of_ble_eq_true rfl) ?_
  show x_T sc (d + 1) mX12_pricesOf 0 [.ref 152, .int (nI x), .retAddr 0, .retAddr 0] [] μ w _
  refine xt_iconst (0) dX12_pricesOf_0 (by decide) ?_
  refine xt_istore_n dX12_pricesOf_1 (by decide) rfl ?_
  change x_T _ _ _ _ [_, _, _, _] _ _ _ _
  refine xt_iconst (0) dX12_pricesOf_2 (by decide) ?_
  refine xt_istore_n dX12_pricesOf_3 (by decide) rfl ?_
  change x_T _ _ _ _ [_, _, _, _] _ _ _ _
  have L4 : ∀ (n4 m : Nat) , m + n4 = F 5 → x_T sc (d + 1) mX12_pricesOf 4 [.ref 152, .int (nI x), .int (nI (s_pr F x m)), .int (nI m)] [] μ w (x_p (some (.int (nI (s_PP F x)))) μ w) := by
    intro n4
    induction n4 with
    | zero =>
      intro m  hmn
      obtain rfl : F 5 = m := by omega
      refine xt_iload_n _ dX12_pricesOf_4 rfl ?_
      refine xt_aload_n _ dX12_pricesOf_5 rfl ?_
      refine xt_iconst (5) dX12_pricesOf_6 (by decide) ?_
      refine xt_cV _ dX12_pricesOf_7 klX12_244 (tX12_of sc _ μ _ f 5 (by have := hS.1.1; omega) (by decide) hS.1.2.1) sh152 rfl rfl (Nat.le_of_ble_eq_true rfl) ?_
      rw [e5]
      refine xt_icmp_ge 42 dX12_pricesOf_10 (by decide) (fun _ => ?_) (fun q => absurd (Int32.le_refl _) q)
      refine xt_iload_n _ dX12_pricesOf_42 rfl ?_
      exact xt_iret .int dX12_pricesOf_43 rfl (by first | rfl | assumption) ⟨rfl, rfl, rfl⟩
    | succ n4 ih4 =>
      intro m  hmn
      have hlt : m < F 5 := by omega
      refine xt_iload_n _ dX12_pricesOf_4 rfl ?_
      refine xt_aload_n _ dX12_pricesOf_5 rfl ?_
      refine xt_iconst (5) dX12_pricesOf_6 (by decide) ?_
      refine xt_cV _ dX12_pricesOf_7 klX12_244 (tX12_of sc _ μ _ f 5 (by have := hS.1.1; omega) (by decide) hS.1.2.1) sh152 rfl rfl (Nat.le_of_ble_eq_true rfl) ?_
      rw [e5]
      refine xt_icmp_ge 42 dX12_pricesOf_10 (by decide) (fun q => absurd q (nI_ge hlt (by omega))) (fun _ => ?_)
      refine xt_iload_n _ dX12_pricesOf_13 rfl ?_
      refine xt_iload_n _ dX12_pricesOf_14 rfl ?_
      refine xt_iload_n _ dX12_pricesOf_15 rfl ?_
      refine xt_cS _ dX12_pricesOf_16 klX12_76 (tX12_has sc _ μ _ _ _) rfl rfl (Nat.le_of_ble_eq_true rfl) ?_
      refine xt_if_eq 33 dX12_pricesOf_19 (by decide) (fun t19 => ?_) (fun f19 => ?_)
      · refine xt_iconst (0) dX12_pricesOf_33 (by decide) ?_
        refine xt_iadd dX12_pricesOf_34 ?_
        refine xt_istore_n dX12_pricesOf_35 (by decide) rfl ?_
        change x_T _ _ _ _ [_, _, _, _] _ _ _ _
        refine xt_inc _ (1) dX12_pricesOf_36 rfl (by decide) (by decide) rfl ?_
        change x_T _ _ _ _ [_, _, _, _] _ _ _ _
        refine xt_goto 4 dX12_pricesOf_39 (by decide) ?_
        refine x_T.ls ?_ (ih4 (m + 1) (by omega))
        rw [s_has_nI x (by omega) m (by omega)] at t19
        have hb : x.testBit m = false := by cases hq : x.testBit m <;> simp_all
        rw [show s_pr F x (m + 1) = s_pr F x m by rw [s_pr, hb]; rfl, nI_succ m, Int32.add_zero]
      · refine xt_aload_n _ dX12_pricesOf_22 rfl ?_
        refine xt_bipush (95) dX12_pricesOf_23 (by decide) ?_
        refine xt_iload_n _ dX12_pricesOf_25 rfl ?_
        refine xt_iadd dX12_pricesOf_26 ?_
        rw [show (95 : Int32) + nI m = nI (95 + m) from nI_add 95 m]
        refine xt_cV _ dX12_pricesOf_27 klX12_244 (tX12_of sc _ μ _ f (95 + m) (by have := hS.1.1; omega) (by omega) hS.1.2.1) sh152 rfl rfl (Nat.le_of_ble_eq_true rfl) ?_
        rw [hS.2.2.2 (95 + m) (by omega) (by omega)]
        refine xt_goto 34 dX12_pricesOf_30 (by decide) ?_
        refine xt_iadd dX12_pricesOf_34 ?_
        refine xt_istore_n dX12_pricesOf_35 (by decide) rfl ?_
        change x_T _ _ _ _ [_, _, _, _] _ _ _ _
        refine xt_inc _ (1) dX12_pricesOf_36 rfl (by decide) (by decide) rfl ?_
        change x_T _ _ _ _ [_, _, _, _] _ _ _ _
        refine xt_goto 4 dX12_pricesOf_39 (by decide) ?_
        refine x_T.ls ?_ (ih4 (m + 1) (by omega))
        rw [s_has_nI x (by omega) m (by omega)] at f19
        have hb : x.testBit m = true := by cases hq : x.testBit m <;> simp_all
        rw [show s_pr F x (m + 1) = s_pr F x m + F (95 + m) by rw [s_pr, hb]; rfl, nI_succ m]
        rw [nI_add]
  exact L4 (F 5) 0  (by omega)
set_option maxHeartbeats 1000000 in
theorem tX12_mindedKinds (f : Nat) (F : Nat → Nat) (hS : m_S μ f F) (hW : f_W F) : x_K sc (d + 1) mX12_mindedKinds [.ref 152] μ w (x_p (some (.int (nI (s_nd F (F 3))))) μ w) := by
  have h6 : F 3 ≤ 6 := hW.1.2.2.2.1
  have h8 : F 4 ≤ 8 := hW.1.2.2.2.2.1
  have e3 : μ 152 23 = nI (F 3) := hS.1.2.2.1
  have e4 : μ 152 24 = nI (F 4) := hS.1.2.2.2.1
  refine x_K.of (by decide) (Nat.le_of_ble_eq_true rfl) ?_
  show x_T sc (d + 1) mX12_mindedKinds 0 [.ref 152, .retAddr 0, .retAddr 0, .retAddr 0] [] μ w _
  refine xt_iconst (0) dX12_mindedKinds_0 (by decide) ?_
  refine xt_istore_n dX12_mindedKinds_1 (by decide) rfl ?_
  change x_T _ _ _ _ [_, _, _, _] _ _ _ _
  refine xt_iconst (0) dX12_mindedKinds_2 (by decide) ?_
  refine xt_istore_n dX12_mindedKinds_3 (by decide) rfl ?_
  change x_T _ _ _ _ [_, _, _, _] _ _ _ _
  have L4 : ∀ (n4 m : Nat) (v3 : Value), m + n4 = F 3 → x_T sc (d + 1) mX12_mindedKinds 4 [.ref 152, .int (nI (s_nd F m)), .int (nI m), v3] [] μ w (x_p (some (.int (nI (s_nd F (F 3))))) μ w) := by
    intro n4
    induction n4 with
    | zero =>
      intro m v3 hmn
      obtain rfl : F 3 = m := by omega
      refine xt_iload_n _ dX12_mindedKinds_4 rfl ?_
      refine xt_aload_n _ dX12_mindedKinds_5 rfl ?_
      refine xt_geti dX12_mindedKinds_6 kfX12_248 (by first | exact sh152 | rfl | assumption) rfl ?_
      refine xt_icmp_ge 72 dX12_mindedKinds_9 (by decide) (fun _ => ?_) (fun q => absurd (by rw [e3]; exact Int32.le_refl _) q)
      refine xt_iload_n _ dX12_mindedKinds_72 rfl ?_
      exact xt_iret .int dX12_mindedKinds_73 rfl (by first | rfl | assumption) ⟨rfl, rfl, rfl⟩
    | succ n4 ih4 =>
      intro m v3 hmn
      have hlt : m < F 3 := by omega
      have hk5 := (hW.2.1 m hlt).1
      refine xt_iload_n _ dX12_mindedKinds_4 rfl ?_
      refine xt_aload_n _ dX12_mindedKinds_5 rfl ?_
      refine xt_geti dX12_mindedKinds_6 kfX12_248 (by first | exact sh152 | rfl | assumption) rfl ?_
      refine xt_icmp_ge 72 dX12_mindedKinds_9 (by decide) (fun q => absurd q (by rw [e3]; exact nI_ge hlt (by omega))) (fun _ => ?_)
      refine xt_iconst (0) dX12_mindedKinds_12 (by decide) ?_
      refine xt_istore_n dX12_mindedKinds_13 (by decide) rfl ?_
      change x_T _ _ _ _ [_, _, _, _] _ _ _ _
      have L14 : ∀ (n14 j : Nat) , j + n14 = F 4 → x_T sc (d + 1) mX12_mindedKinds 14 [.ref 152, .int (nI (s_nd F m ||| (if 0 < s_sum (fun g => F (41 + (6 * g + (F (7 + m))))) j then 2 ^ (F (7 + m)) else 0))), .int (nI m), .int (nI j)] [] μ w (x_p (some (.int (nI (s_nd F (F 3))))) μ w) := by
        intro n14
        induction n14 with
        | zero =>
          intro j  hmn
          obtain rfl : F 4 = j := by omega
          refine xt_iload_n _ dX12_mindedKinds_14 rfl ?_
          refine xt_aload_n _ dX12_mindedKinds_15 rfl ?_
          refine xt_geti dX12_mindedKinds_16 kfX12_251 (by first | exact sh152 | rfl | assumption) rfl ?_
          refine xt_icmp_ge 66 dX12_mindedKinds_19 (by decide) (fun _ => ?_) (fun q => absurd (by rw [e4]; exact Int32.le_refl _) q)
          refine xt_inc _ (1) dX12_mindedKinds_66 rfl (by decide) (by decide) rfl ?_
          change x_T _ _ _ _ [_, _, _, _] _ _ _ _
          refine xt_goto 4 dX12_mindedKinds_69 (by decide) ?_
          refine x_T.ls ?_ (ih4 (m + 1) (.int (nI (F 4))) (by omega))
          rw [nI_succ m, s_nd]
          by_cases hq : 0 < s_wk F (F (7 + m))
          · rw [if_pos hq, if_pos hq]
          · rw [if_neg hq, if_neg hq, Nat.or_zero]
        | succ n14 ih14 =>
          intro j  hmn
          have hlt_j : j < F 4 := by omega
          have hix : (6 : Int32) * nI j + nI (F (7 + m)) = nI (6 * j + (F (7 + m))) := by rw [show (6 : Int32) = nI 6 from rfl, pk_mul, nI_add]
          have hw9 := hW.2.2.2.1 (6 * j + (F (7 + m))) (by omega)
          refine xt_iload_n _ dX12_mindedKinds_14 rfl ?_
          refine xt_aload_n _ dX12_mindedKinds_15 rfl ?_
          refine xt_geti dX12_mindedKinds_16 kfX12_251 (by first | exact sh152 | rfl | assumption) rfl ?_
          refine xt_icmp_ge 66 dX12_mindedKinds_19 (by decide) (fun q => absurd q (by rw [e4]; exact nI_ge hlt_j (by omega))) (fun _ => ?_)
          refine xt_iload_n _ dX12_mindedKinds_22 rfl ?_
          refine xt_aload_n _ dX12_mindedKinds_23 rfl ?_
          refine xt_getr _ dX12_mindedKinds_24 kfX12_47 (by first | exact sh152 | rfl | assumption) rfl ?_
          refine xt_bipush (6) dX12_mindedKinds_27 (by decide) ?_
          refine xt_iload_n _ dX12_mindedKinds_29 rfl ?_
          refine xt_imul dX12_mindedKinds_30 ?_
          refine xt_aload_n _ dX12_mindedKinds_31 rfl ?_
          refine xt_bipush (7) dX12_mindedKinds_32 (by decide) ?_
          refine xt_iload_n _ dX12_mindedKinds_34 rfl ?_
          refine xt_iadd dX12_mindedKinds_35 ?_
          rw [show (7 : Int32) + nI m = nI (7 + m) from nI_add 7 m]
          refine xt_cV _ dX12_mindedKinds_36 klX12_244 (tX12_of sc _ μ _ f (7 + m) (by have := hS.1.1; omega) (by omega) hS.1.2.1) sh152 rfl rfl (Nat.le_of_ble_eq_true rfl) ?_
          rw [hS.2.2.2 (7 + m) (by omega) (by omega)]
          refine xt_iadd dX12_mindedKinds_39 ?_
          refine xt_ald dX12_mindedKinds_40 (by first | exact sh152 | rfl | assumption) (by rw [hix]; exact vp_in_nI (by omega) (by decide)) ?_
          refine xt_if_le 57 dX12_mindedKinds_41 (by decide) (fun t41 => ?_) (fun f41 => ?_)
          · refine xt_iconst (0) dX12_mindedKinds_57 (by decide) ?_
            refine xt_ior dX12_mindedKinds_58 ?_
            refine xt_istore_n dX12_mindedKinds_59 (by decide) rfl ?_
            change x_T _ _ _ _ [_, _, _, _] _ _ _ _
            refine xt_inc _ (1) dX12_mindedKinds_60 rfl (by decide) (by decide) rfl ?_
            change x_T _ _ _ _ [_, _, _, _] _ _ _ _
            refine xt_goto 14 dX12_mindedKinds_63 (by decide) ?_
            refine x_T.ls ?_ (ih14 (j + 1) (by omega))
            rw [hix, nI_clamp (by omega), hS.2.2.1 _ (by omega), show (0 : Int32) = nI 0 from rfl, nI_leI (by omega) (by decide)] at t41
            rw [show s_sum (fun g => F (41 + (6 * g + (F (7 + m))))) (j + 1) = s_sum (fun g => F (41 + (6 * g + (F (7 + m))))) j + F (41 + (6 * j + (F (7 + m)))) from rfl, nI_succ j]
            rw [Int32.or_zero]
            rw [show (s_sum (fun g => F (41 + (6 * g + (F (7 + m))))) j + F (41 + (6 * j + (F (7 + m))))) = s_sum (fun g => F (41 + (6 * g + (F (7 + m))))) j by omega]
          · refine xt_iconst (1) dX12_mindedKinds_44 (by decide) ?_
            refine xt_aload_n _ dX12_mindedKinds_45 rfl ?_
            refine xt_bipush (7) dX12_mindedKinds_46 (by decide) ?_
            refine xt_iload_n _ dX12_mindedKinds_48 rfl ?_
            refine xt_iadd dX12_mindedKinds_49 ?_
            rw [show (7 : Int32) + nI m = nI (7 + m) from nI_add 7 m]
            refine xt_cV _ dX12_mindedKinds_50 klX12_244 (tX12_of sc _ μ _ f (7 + m) (by have := hS.1.1; omega) (by omega) hS.1.2.1) sh152 rfl rfl (Nat.le_of_ble_eq_true rfl) ?_
            rw [hS.2.2.2 (7 + m) (by omega) (by omega)]
            refine xt_ishl dX12_mindedKinds_53 ?_
            refine xt_goto 58 dX12_mindedKinds_54 (by decide) ?_
            refine xt_ior dX12_mindedKinds_58 ?_
            refine xt_istore_n dX12_mindedKinds_59 (by decide) rfl ?_
            change x_T _ _ _ _ [_, _, _, _] _ _ _ _
            refine xt_inc _ (1) dX12_mindedKinds_60 rfl (by decide) (by decide) rfl ?_
            change x_T _ _ _ _ [_, _, _, _] _ _ _ _
            refine xt_goto 14 dX12_mindedKinds_63 (by decide) ?_
            refine x_T.ls ?_ (ih14 (j + 1) (by omega))
            rw [hix, nI_clamp (by omega), hS.2.2.1 _ (by omega), show (0 : Int32) = nI 0 from rfl, nI_leI (by omega) (by decide)] at f41
            rw [show s_sum (fun g => F (41 + (6 * g + (F (7 + m))))) (j + 1) = s_sum (fun g => F (41 + (6 * g + (F (7 + m))))) j + F (41 + (6 * j + (F (7 + m)))) from rfl, nI_succ j]
            rw [if_pos (show 0 < s_sum (fun g => F (41 + (6 * g + (F (7 + m))))) j + F (41 + (6 * j + (F (7 + m)))) by omega), x_1sh (by omega), nI_or]
            by_cases hq : 0 < s_sum (fun g => F (41 + (6 * g + (F (7 + m))))) j
            · rw [if_pos hq, Nat.or_assoc, Nat.or_self]
            · rw [if_neg hq, Nat.or_zero]
      refine x_T.ls ?_ (L14 (F 4) 0 (by omega))
      rw [show (s_nd F m ||| (if 0 < s_sum (fun g => F (41 + (6 * g + (F (7 + m))))) 0 then 2 ^ (F (7 + m)) else 0)) = s_nd F m from Nat.or_zero _]
      rfl
  exact L4 (F 3) 0 _ (by omega)
end PARDONM
set_option maxHeartbeats 2000000 in
theorem st_confess (sc : Nat × (Nat → Int32)) (a1 u : Int32) : x_stI sc (fun μ _ => x_Inv μ) (fun μ _ => x_Inv μ) mX11_confess mX12_confess [.int a1, .int u] := by
  refine x_stF (-1) ?_ ?_ ?_
  · intro μ w c hc e hk
    refine x_K.of (by decide) (Nat.le_of_ble_eq_true rfl) ?_
    show x_T sc 29 mX11_confess 0 [.ref 0, .int a1, .int u, .retAddr 0, .retAddr 0] [] μ w _
    refine xt_aload_n _ dX11_confess_0 rfl ?_
    refine xt_iload_n _ dX11_confess_1 rfl ?_
    refine xt_cV _ dX11_confess_2 klX11_90 (tX11_fairOf_no sc _ μ w c hc e _ hk) sh0 rfl rfl (Nat.le_of_ble_eq_true rfl) ?_
    refine xt_astore_n0 dX11_confess_5 (by decide) rfl ?_
    change x_T _ _ _ _ [_, _, _, _, _] _ _ _ _
    refine xt_aload_n0 dX11_confess_6 rfl ?_
    refine xt_ifnonnull_n dX11_confess_7 ?_
    refine xt_iconst (-1) dX11_confess_10 (by decide) ?_
    exact xt_iret .int dX11_confess_11 rfl (by first | rfl | assumption) ⟨rfl, x_keep.rf μ⟩
  · intro μ w c hc e hk
    refine x_K.of (by decide) (Nat.le_of_ble_eq_true rfl) ?_
    show x_T sc 29 mX12_confess 0 [.ref 152, .int a1, .int u, .retAddr 0, .retAddr 0, .retAddr 0, .retAddr 0] [] μ w _
    refine xt_aload_n _ dX12_confess_0 rfl ?_
    refine xt_iconst (0) dX12_confess_1 (by decide) ?_
    refine xt_puti dX12_confess_2 kpX12_72 (by first | exact sh152 | rfl | assumption) rfl (by first | rfl | assumption) (by first | rfl | assumption) ?_
    refine xt_aload_n _ dX12_confess_5 rfl ?_
    refine xt_iload_n _ dX12_confess_6 rfl ?_
    refine xt_cV _ dX12_confess_7 klX12_300 (tX12_hand_no sc _ (x_u μ 152 (upd (μ 152) 0 0)) w c hc e _ hk) sh152 rfl rfl (Nat.le_of_ble_eq_true rfl) ?_
    refine xt_if_ne 15 dX12_confess_10 (by decide) (fun q => absurd (by decide) q) (fun _ => ?_)
    refine xt_iconst (-1) dX12_confess_13 (by decide) ?_
    exact xt_iret .int dX12_confess_14 rfl (by first | rfl | assumption) ⟨rfl, (x_keep.u (x_keep.rf μ) (by unfold x_ok; omega))⟩
  · intro f F hf2 hkk hW
    subst hkk
    have h5 := hW.1.2.2.2.2.2.1
    have h64 : 2 ^ F 5 ≤ 64 := Nat.pow_le_pow_right (i := F 5) (j := 6) (by decide) h5
    have hal2 := (s_am_le (v := s_PP F) (ok := s_suf F) (lim := 1000) (2 ^ F 5)).2
    have hz : ¬ eI (s_am (s_PP F) (s_suf F) 1000 (2 ^ F 5)).1 < 0 → (s_am (s_PP F) (s_suf F) 1000 (2 ^ F 5)).1 ≠ 0 := fun q z => q ((eI_neg (by omega)).mpr z)
    refine ⟨if (s_am (s_PP F) (s_suf F) 1000 (2 ^ F 5)).1 = 0 then -1 else if u = 0 then nI (s_PP F ((s_am (s_PP F) (s_suf F) 1000 (2 ^ F 5)).1 - 1)) else nI ((s_am (s_PP F) (s_suf F) 1000 (2 ^ F 5)).1 - 1), ?_, ?_⟩
    · intro μ w c hf hc e hC
      have hS := f_Sf hf2
      refine x_K.of (by decide) (Nat.le_of_ble_eq_true rfl) ?_
      show x_T sc 29 mX11_confess 0 [.ref 0, .int (nI f), .int u, .retAddr 0, .retAddr 0] [] μ w _
      refine xt_aload_n _ dX11_confess_0 rfl ?_
      refine xt_iload_n _ dX11_confess_1 rfl ?_
      refine xt_cV _ dX11_confess_2 klX11_90 (tX11_fairOf sc _ μ w f c hf hc e) sh0 rfl rfl (Nat.le_of_ble_eq_true rfl) ?_
      refine xt_astore_n dX11_confess_5 (by decide) rfl ?_
      change x_T _ _ _ _ [_, _, _, _, _] _ _ _ _
      refine xt_aload_n _ dX11_confess_6 rfl ?_
      refine xt_ifnonnull_r 12 dX11_confess_7 (by decide) ?_
      refine xt_aload_n _ dX11_confess_12 rfl ?_
      refine xt_cS _ dX11_confess_13 klX11_141 (tX5_cheapest sc _ w hS hC hW) rfl rfl (Nat.le_of_ble_eq_true rfl) ?_
      refine xt_istore dX11_confess_16 (by decide) rfl ?_
      change x_T _ _ _ _ [_, _, _, _, _] _ _ _ _
      refine xt_iload _ dX11_confess_18 rfl ?_
      refine xt_if_lt 27 dX11_confess_20 (by decide) (fun t20 => ?_) (fun f20 => ?_)
      · refine xt_iload _ dX11_confess_27 rfl ?_
        refine xt_goto 38 dX11_confess_29 (by decide) ?_
        exact xt_iret .int dX11_confess_38 rfl (by first | rfl | assumption) ⟨by rw [if_pos ((eI_neg (by omega)).mp t20), (eI_neg (by omega)).mp t20]; rfl, x_keep.rf μ⟩
      · refine xt_iload_n _ dX11_confess_23 rfl ?_
        refine xt_if_eq 32 dX11_confess_24 (by decide) (fun t24 => ?_) (fun f24 => ?_)
        · refine xt_aload_n _ dX11_confess_32 rfl ?_
          refine xt_iload _ dX11_confess_33 rfl ?_
          rw [eI_pr (hz f20)]
          refine xt_cS _ dX11_confess_35 klX11_146 (tX5_priceOf sc _ w hS hC hW ((s_am (s_PP F) (s_suf F) 1000 (2 ^ F 5)).1 - 1) (by have := hz f20; omega)) rfl rfl (Nat.le_of_ble_eq_true rfl) ?_
          exact xt_iret .int dX11_confess_38 rfl (by first | rfl | assumption) ⟨by rw [if_neg (hz f20), if_pos t24], x_keep.rf μ⟩
        · refine xt_iload _ dX11_confess_27 rfl ?_
          refine xt_goto 38 dX11_confess_29 (by decide) ?_
          exact xt_iret .int dX11_confess_38 rfl (by first | rfl | assumption) ⟨by rw [if_neg (hz f20), if_neg f24, eI_pr (hz f20)], x_keep.rf μ⟩
    · intro μ w c hf hc e hF
      refine x_K.of (by decide) (Nat.le_of_ble_eq_true rfl) ?_
      show x_T sc 29 mX12_confess 0 [.ref 152, .int (nI f), .int u, .retAddr 0, .retAddr 0, .retAddr 0, .retAddr 0] [] μ w _
      refine xt_aload_n _ dX12_confess_0 rfl ?_
      refine xt_iconst (0) dX12_confess_1 (by decide) ?_
      refine xt_puti dX12_confess_2 kpX12_72 (by first | exact sh152 | rfl | assumption) rfl (by first | rfl | assumption) (by first | rfl | assumption) ?_
      refine xt_aload_n _ dX12_confess_5 rfl ?_
      refine xt_iload_n _ dX12_confess_6 rfl ?_
      refine xt_callV _ dX12_confess_7 klX12_300 (tX12_hand sc _ (x_u μ 152 (upd (μ 152) 0 0)) w f c F hf hc e hF) sh152 rfl rfl (Nat.le_of_ble_eq_true rfl) (fun r1 μ1 w1 q1 => ?_)
      obtain ⟨rfl, rfl, hS, h0, hfr⟩ := q1
      change x_T _ _ _ _ _ (.int 1 :: _) _ _ _
      have e5 : μ1 158 (125 * f + 5) = nI (F 5) := hS.2.2.2 5 (by decide) (Or.inl ⟨by decide, by decide⟩)
      refine xt_if_ne 15 dX12_confess_10 (by decide) (fun _ => ?_) (fun q => absurd q (by decide))
      refine xt_aload_n _ dX12_confess_15 rfl ?_
      refine xt_cV _ dX12_confess_16 klX12_377 (tX12_mindedKinds sc _ μ1 _ f F hS hW) sh152 rfl rfl (Nat.le_of_ble_eq_true rfl) ?_
      refine xt_istore_n dX12_confess_19 (by decide) rfl ?_
      change x_T _ _ _ _ [_, _, _, _, _, _, _] _ _ _ _
      refine xt_iconst (-1) dX12_confess_20 (by decide) ?_
      refine xt_istore dX12_confess_21 (by decide) rfl ?_
      change x_T _ _ _ _ [_, _, _, _, _, _, _] _ _ _ _
      refine xt_iconst (0) dX12_confess_23 (by decide) ?_
      refine xt_istore dX12_confess_24 (by decide) rfl ?_
      change x_T _ _ _ _ [_, _, _, _, _, _, _] _ _ _ _
      have L26 : ∀ (n26 m : Nat) (v6 : Value), m + n26 = 2 ^ F 5 → x_T sc 29 mX12_confess 26 [.ref 152, .int (nI f), .int u, .int (nI (s_nd F (F 3))), .int (eI (s_am (s_PP F) (s_suf F) 1000 m).1), .int (nI m), v6] [] μ1 w1 (fun r μ' _ => r = some (.int (if (s_am (s_PP F) (s_suf F) 1000 (2 ^ F 5)).1 = 0 then -1 else if u = 0 then nI (s_PP F ((s_am (s_PP F) (s_suf F) 1000 (2 ^ F 5)).1 - 1)) else nI ((s_am (s_PP F) (s_suf F) 1000 (2 ^ F 5)).1 - 1))) ∧ x_keep μ μ') := by
        intro n26
        induction n26 with
        | zero =>
          intro m v6 hmn
          obtain rfl : 2 ^ F 5 = m := by omega
          refine xt_iload _ dX12_confess_26 rfl ?_
          refine xt_iconst (1) dX12_confess_28 (by decide) ?_
          refine xt_aload_n _ dX12_confess_29 rfl ?_
          refine xt_iconst (5) dX12_confess_30 (by decide) ?_
          refine xt_cV _ dX12_confess_31 klX12_244 (tX12_of sc _ μ1 _ f 5 (by have := hS.1.1; omega) (by decide) hS.1.2.1) sh152 rfl rfl (Nat.le_of_ble_eq_true rfl) ?_
          rw [e5]
          refine xt_ishl dX12_confess_34 ?_
          refine xt_icmp_ge 99 dX12_confess_35 (by decide) (fun _ => ?_) (fun q => absurd (by rw [x_1sh (by omega)]; exact Int32.le_refl _) q)
          refine xt_iload _ dX12_confess_99 rfl ?_
          refine xt_iconst (-1) dX12_confess_101 (by decide) ?_
          refine xt_icmp_eq 109 dX12_confess_102 (by decide) (fun t102 => ?_) (fun f102 => ?_)
          · refine xt_iload _ dX12_confess_109 rfl ?_
            refine xt_goto 120 dX12_confess_111 (by decide) ?_
            exact xt_iret .int dX12_confess_120 rfl (by first | rfl | assumption) ⟨by rw [if_pos ((eI_m1 (by omega)).mp t102), (eI_m1 (by omega)).mp t102]; rfl, (x_keep.hand hfr)⟩
          · refine xt_iload_n _ dX12_confess_105 rfl ?_
            refine xt_if_eq 114 dX12_confess_106 (by decide) (fun t106 => ?_) (fun f106 => ?_)
            · refine xt_aload_n _ dX12_confess_114 rfl ?_
              refine xt_iload _ dX12_confess_115 rfl ?_
              rw [eI_pr (fun z => f102 ((eI_m1 (by omega)).mpr z))]
              refine xt_cV _ dX12_confess_117 klX12_380 (tX12_pricesOf sc _ μ1 _ f F hS hW ((s_am (s_PP F) (s_suf F) 1000 (2 ^ F 5)).1 - 1) (by have : (s_am (s_PP F) (s_suf F) 1000 (2 ^ F 5)).1 ≠ 0 := (fun z => f102 ((eI_m1 (by omega)).mpr z)); omega)) sh152 rfl rfl (Nat.le_of_ble_eq_true rfl) ?_
              exact xt_iret .int dX12_confess_120 rfl (by first | rfl | assumption) ⟨by rw [if_neg (fun z => f102 ((eI_m1 (by omega)).mpr z)), if_pos t106], (x_keep.hand hfr)⟩
            · refine xt_iload _ dX12_confess_109 rfl ?_
              refine xt_goto 120 dX12_confess_111 (by decide) ?_
              exact xt_iret .int dX12_confess_120 rfl (by first | rfl | assumption) ⟨by rw [if_neg (fun z => f102 ((eI_m1 (by omega)).mpr z)), if_neg f106, eI_pr (fun z => f102 ((eI_m1 (by omega)).mpr z))], (x_keep.hand hfr)⟩
        | succ n26 ih26 =>
          intro m v6 hmn
          have hlt : m < 2 ^ F 5 := by omega
          have hpp : s_PP F m ≤ 20 * F 5 := s_pr_le hW m (F 5) (Nat.le_refl _)
          have hal := s_am_le (v := s_PP F) (ok := s_suf F) (lim := 1000) m
          refine xt_iload _ dX12_confess_26 rfl ?_
          refine xt_iconst (1) dX12_confess_28 (by decide) ?_
          refine xt_aload_n _ dX12_confess_29 rfl ?_
          refine xt_iconst (5) dX12_confess_30 (by decide) ?_
          refine xt_cV _ dX12_confess_31 klX12_244 (tX12_of sc _ μ1 _ f 5 (by have := hS.1.1; omega) (by decide) hS.1.2.1) sh152 rfl rfl (Nat.le_of_ble_eq_true rfl) ?_
          rw [e5]
          refine xt_ishl dX12_confess_34 ?_
          refine xt_icmp_ge 99 dX12_confess_35 (by decide) (fun q => absurd q (by rw [x_1sh (by omega)]; exact nI_ge hlt (by omega))) (fun _ => ?_)
          refine xt_iload _ dX12_confess_38 rfl ?_
          refine xt_iconst (-1) dX12_confess_40 (by decide) ?_
          refine xt_icmp_eq 59 dX12_confess_41 (by decide) (fun t41 => ?_) (fun f41 => ?_)
          · refine xt_iconst (1) dX12_confess_59 (by decide) ?_
            refine xt_goto 64 dX12_confess_60 (by decide) ?_
            refine xt_istore dX12_confess_64 (by decide) rfl ?_
            change x_T _ _ _ _ [_, _, _, _, _, _, _] _ _ _ _
            refine xt_iload _ dX12_confess_66 rfl ?_
            refine xt_if_eq 89 dX12_confess_68 (by decide) (fun q => absurd q (by decide)) (fun _ => ?_)
            refine xt_iload_n _ dX12_confess_71 rfl ?_
            refine xt_aload_n _ dX12_confess_72 rfl ?_
            refine xt_iload _ dX12_confess_73 rfl ?_
            refine xt_cV _ dX12_confess_75 klX12_383 (tX12_pardons sc _ μ1 _ f F hS hW m (by omega)) sh152 rfl rfl (Nat.le_of_ble_eq_true rfl) ?_
            refine xt_iconst (-1) dX12_confess_78 (by decide) ?_
            refine xt_ixor dX12_confess_79 ?_
            refine xt_iand dX12_confess_80 ?_
            refine xt_if_ne 89 dX12_confess_81 (by decide) (fun t81 => ?_) (fun f81 => ?_)
            · refine xt_iload _ dX12_confess_89 rfl ?_
              refine xt_istore dX12_confess_91 (by decide) rfl ?_
              change x_T _ _ _ _ [_, _, _, _, _, _, _] _ _ _ _
              refine xt_inc _ (1) dX12_confess_93 rfl (by decide) (by decide) rfl ?_
              change x_T _ _ _ _ [_, _, _, _, _, _, _] _ _ _ _
              refine xt_goto 26 dX12_confess_96 (by decide) ?_
              rw [eI_m1 (by omega)] at t41
              have h1000 : (s_am (s_PP F) (s_suf F) 1000 m).2 = 1000 := s_am_0 m t41
              refine x_T.ls ?_ (ih26 (m + 1) (.int 1) (by omega))
              rw [s_am_n1 (v := s_PP F) (ok := s_suf F) (n := m) (decide_eq_false t81), nI_succ m]
            · refine xt_iload _ dX12_confess_84 rfl ?_
              refine xt_goto 91 dX12_confess_86 (by decide) ?_
              refine xt_istore dX12_confess_91 (by decide) rfl ?_
              change x_T _ _ _ _ [_, _, _, _, _, _, _] _ _ _ _
              refine xt_inc _ (1) dX12_confess_93 rfl (by decide) (by decide) rfl ?_
              change x_T _ _ _ _ [_, _, _, _, _, _, _] _ _ _ _
              refine xt_goto 26 dX12_confess_96 (by decide) ?_
              rw [eI_m1 (by omega)] at t41
              have h1000 : (s_am (s_PP F) (s_suf F) 1000 m).2 = 1000 := s_am_0 m t41
              refine x_T.ls ?_ (ih26 (m + 1) (.int 1) (by omega))
              rw [s_am_y (v := s_PP F) (ok := s_suf F) (n := m) (decide_eq_true f81) (by omega), nI_succ m]
              simp only [eI_s]
          · refine xt_aload_n _ dX12_confess_44 rfl ?_
            refine xt_iload _ dX12_confess_45 rfl ?_
            refine xt_cV _ dX12_confess_47 klX12_380 (tX12_pricesOf sc _ μ1 _ f F hS hW m (by omega)) sh152 rfl rfl (Nat.le_of_ble_eq_true rfl) ?_
            refine xt_aload_n _ dX12_confess_50 rfl ?_
            refine xt_iload _ dX12_confess_51 rfl ?_
            have hne : (s_am (s_PP F) (s_suf F) 1000 m).1 ≠ 0 := fun z => f41 ((eI_m1 (by omega)).mpr z)
            have hv := s_am_v (v := s_PP F) (ok := s_suf F) (lim := 1000) m hne
            rw [eI_pr hne]
            refine xt_cV _ dX12_confess_53 klX12_380 (tX12_pricesOf sc _ μ1 _ f F hS hW ((s_am (s_PP F) (s_suf F) 1000 m).1 - 1) (by omega)) sh152 rfl rfl (Nat.le_of_ble_eq_true rfl) ?_
            refine xt_icmp_ge 63 dX12_confess_56 (by decide) (fun t56 => ?_) (fun f56 => ?_)
            · refine xt_iconst (0) dX12_confess_63 (by decide) ?_
              refine xt_istore dX12_confess_64 (by decide) rfl ?_
              change x_T _ _ _ _ [_, _, _, _, _, _, _] _ _ _ _
              refine xt_iload _ dX12_confess_66 rfl ?_
              refine xt_if_eq 89 dX12_confess_68 (by decide) (fun _ => ?_) (fun q => absurd (by decide) q)
              refine xt_iload _ dX12_confess_89 rfl ?_
              refine xt_istore dX12_confess_91 (by decide) rfl ?_
              change x_T _ _ _ _ [_, _, _, _, _, _, _] _ _ _ _
              refine xt_inc _ (1) dX12_confess_93 rfl (by decide) (by decide) rfl ?_
              change x_T _ _ _ _ [_, _, _, _, _, _, _] _ _ _ _
              refine xt_goto 26 dX12_confess_96 (by decide) ?_
              rw [nI_leI (by omega) (by omega)] at t56
              refine x_T.ls ?_ (ih26 (m + 1) (.int 0) (by omega))
              rw [s_am_n2 (v := s_PP F) (ok := s_suf F) (n := m) (by omega), nI_succ m, eI_pr hne]
            · refine xt_iconst (1) dX12_confess_59 (by decide) ?_
              refine xt_goto 64 dX12_confess_60 (by decide) ?_
              refine xt_istore dX12_confess_64 (by decide) rfl ?_
              change x_T _ _ _ _ [_, _, _, _, _, _, _] _ _ _ _
              refine xt_iload _ dX12_confess_66 rfl ?_
              refine xt_if_eq 89 dX12_confess_68 (by decide) (fun q => absurd q (by decide)) (fun _ => ?_)
              refine xt_iload_n _ dX12_confess_71 rfl ?_
              refine xt_aload_n _ dX12_confess_72 rfl ?_
              refine xt_iload _ dX12_confess_73 rfl ?_
              refine xt_cV _ dX12_confess_75 klX12_383 (tX12_pardons sc _ μ1 _ f F hS hW m (by omega)) sh152 rfl rfl (Nat.le_of_ble_eq_true rfl) ?_
              refine xt_iconst (-1) dX12_confess_78 (by decide) ?_
              refine xt_ixor dX12_confess_79 ?_
              refine xt_iand dX12_confess_80 ?_
              refine xt_if_ne 89 dX12_confess_81 (by decide) (fun t81 => ?_) (fun f81 => ?_)
              · refine xt_iload _ dX12_confess_89 rfl ?_
                refine xt_istore dX12_confess_91 (by decide) rfl ?_
                change x_T _ _ _ _ [_, _, _, _, _, _, _] _ _ _ _
                refine xt_inc _ (1) dX12_confess_93 rfl (by decide) (by decide) rfl ?_
                change x_T _ _ _ _ [_, _, _, _, _, _, _] _ _ _ _
                refine xt_goto 26 dX12_confess_96 (by decide) ?_
                rw [nI_leI (by omega) (by omega)] at f56
                refine x_T.ls ?_ (ih26 (m + 1) (.int 1) (by omega))
                rw [s_am_n1 (v := s_PP F) (ok := s_suf F) (n := m) (decide_eq_false t81), nI_succ m, eI_pr hne]
              · refine xt_iload _ dX12_confess_84 rfl ?_
                refine xt_goto 91 dX12_confess_86 (by decide) ?_
                refine xt_istore dX12_confess_91 (by decide) rfl ?_
                change x_T _ _ _ _ [_, _, _, _, _, _, _] _ _ _ _
                refine xt_inc _ (1) dX12_confess_93 rfl (by decide) (by decide) rfl ?_
                change x_T _ _ _ _ [_, _, _, _, _, _, _] _ _ _ _
                refine xt_goto 26 dX12_confess_96 (by decide) ?_
                rw [nI_leI (by omega) (by omega)] at f56
                refine x_T.ls ?_ (ih26 (m + 1) (.int 1) (by omega))
                rw [s_am_y (v := s_PP F) (ok := s_suf F) (n := m) (decide_eq_true f81) (by omega), nI_succ m]
                simp only [eI_s]
      exact L26 (2 ^ F 5) 0 _ (by omega)
set_option maxHeartbeats 2000000 in
theorem st_purse (sc : Nat × (Nat → Int32)) (a1 a2 u : Int32) : x_stI sc (fun μ _ => x_Inv μ) (fun μ _ => x_Inv μ) mX11_purse mX12_purse [.int a1, .int a2, .int u] := by
  refine x_stF (-1) ?_ ?_ ?_
  · intro μ w c hc e hk
    refine x_K.of (by decide) (Nat.le_of_ble_eq_true rfl) ?_
    show x_T sc 29 mX11_purse 0 [.ref 0, .int a1, .int a2, .int u, .retAddr 0, .retAddr 0] [] μ w _
    refine xt_aload_n _ dX11_purse_0 rfl ?_
    refine xt_iload_n _ dX11_purse_1 rfl ?_
    refine xt_cV _ dX11_purse_2 klX11_90 (tX11_fairOf_no sc _ μ w c hc e _ hk) sh0 rfl rfl (Nat.le_of_ble_eq_true rfl) ?_
    refine xt_astore0 dX11_purse_5 (by decide) rfl ?_
    change x_T _ _ _ _ [_, _, _, _, _, _] _ _ _ _
    refine xt_aload0 dX11_purse_7 rfl ?_
    refine xt_ifnull_n 22 dX11_purse_9 (by decide) ?_
    refine xt_iconst (-1) dX11_purse_22 (by decide) ?_
    exact xt_iret .int dX11_purse_23 rfl (by first | rfl | assumption) ⟨rfl, x_keep.rf μ⟩
  · intro μ w c hc e hk
    refine x_K.of (by decide) (Nat.le_of_ble_eq_true rfl) ?_
    show x_T sc 29 mX12_purse 0 [.ref 152, .int a1, .int a2, .int u, .retAddr 0, .retAddr 0] [] μ w _
    refine xt_aload_n _ dX12_purse_0 rfl ?_
    refine xt_iconst (0) dX12_purse_1 (by decide) ?_
    refine xt_puti dX12_purse_2 kpX12_72 (by first | exact sh152 | rfl | assumption) rfl (by first | rfl | assumption) (by first | rfl | assumption) ?_
    refine xt_iload_n _ dX12_purse_5 rfl ?_
    refine xt_iconst (0) dX12_purse_6 (by decide) ?_
    refine xt_bipush (99) dX12_purse_7 (by decide) ?_
    refine xt_cS _ dX12_purse_9 klX12_84 (tX12_in sc _ _ w _ _ _) rfl rfl (Nat.le_of_ble_eq_true rfl) ?_
    refine xt_if_eq 23 dX12_purse_12 (by decide) (fun t12 => ?_) (fun f12 => ?_)
    · refine xt_iconst (-1) dX12_purse_23 (by decide) ?_
      exact xt_iret .int dX12_purse_24 rfl (by first | rfl | assumption) ⟨rfl, (x_keep.u (x_keep.rf μ) (by unfold x_ok; omega))⟩
    · refine xt_aload_n _ dX12_purse_15 rfl ?_
      refine xt_iload_n _ dX12_purse_16 rfl ?_
      refine xt_cV _ dX12_purse_17 klX12_300 (tX12_hand_no sc _ (x_u μ 152 (upd (μ 152) 0 0)) w c hc e _ hk) sh152 rfl rfl (Nat.le_of_ble_eq_true rfl) ?_
      refine xt_if_ne 25 dX12_purse_20 (by decide) (fun q => absurd (by decide) q) (fun _ => ?_)
      refine xt_iconst (-1) dX12_purse_23 (by decide) ?_
      exact xt_iret .int dX12_purse_24 rfl (by first | rfl | assumption) ⟨rfl, (x_keep.u (x_keep.rf μ) (by unfold x_ok; omega))⟩
  · intro f F hf2 hkk hW
    subst hkk
    have h5 := hW.1.2.2.2.2.2.1
    have h64 : 2 ^ F 5 ≤ 64 := Nat.pow_le_pow_right (i := F 5) (j := 6) (by decide) h5
    have h01 : 0 < 2 ^ F 5 := Nat.pow_pos (by decide)
    by_cases hr : 0 ≤ a2 ∧ a2 ≤ nI 99
    · obtain ⟨p, hp, rfl⟩ := x_rng (N := 99) (by decide) hr
      have hB : (s_pu F p (2 ^ F 5)) < 64 := by
        obtain ⟨z, hz⟩ : ∃ z, 2 ^ F 5 = z + 1 := ⟨2 ^ F 5 - 1, by omega⟩
        rw [hz]; have := s_pu_lt F p z; omega
      have hkB : s_KK F (s_pu F p (2 ^ F 5)) < 64 := s_ko_lt hW (s_pu F p (2 ^ F 5)) (F 5) (Nat.le_refl _)
      refine ⟨if u = 0 then nI (s_cn F (s_pu F p (2 ^ F 5))) else nI (s_pu F p (2 ^ F 5)), ?_, ?_⟩
      · intro μ w c hf hc e hC
        have hS := f_Sf hf2
        refine x_K.of (by decide) (Nat.le_of_ble_eq_true rfl) ?_
        show x_T sc 29 mX11_purse 0 [.ref 0, .int (nI f), .int (nI p), .int u, .retAddr 0, .retAddr 0] [] μ w _
        refine xt_aload_n _ dX11_purse_0 rfl ?_
        refine xt_iload_n _ dX11_purse_1 rfl ?_
        refine xt_cV _ dX11_purse_2 klX11_90 (tX11_fairOf sc _ μ w f c hf hc e) sh0 rfl rfl (Nat.le_of_ble_eq_true rfl) ?_
        refine xt_astore dX11_purse_5 (by decide) rfl ?_
        change x_T _ _ _ _ [_, _, _, _, _, _] _ _ _ _
        refine xt_aload _ dX11_purse_7 rfl ?_
        refine xt_ifnull_r dX11_purse_9 ?_
        refine xt_iload_n _ dX11_purse_12 rfl ?_
        refine xt_if_lt 22 dX11_purse_13 (by decide) (fun q => absurd q (nI_pos (by omega))) (fun _ => ?_)
        refine xt_iload_n _ dX11_purse_16 rfl ?_
        refine xt_bipush (99) dX11_purse_17 (by decide) ?_
        refine xt_icmp_le 24 dX11_purse_19 (by decide) (fun _ => ?_) (fun q => absurd (nI_le (b := 99) hp (by decide)) q)
        refine xt_aload _ dX11_purse_24 rfl ?_
        refine xt_iload_n _ dX11_purse_26 rfl ?_
        refine xt_cS _ dX11_purse_27 klX11_294 (tX5_broadest sc _ w hS hC hW p hp) rfl rfl (Nat.le_of_ble_eq_true rfl) ?_
        refine xt_istore dX11_purse_30 (by decide) rfl ?_
        change x_T _ _ _ _ [_, _, _, _, _, _] _ _ _ _
        refine xt_iload_n _ dX11_purse_32 rfl ?_
        refine xt_if_eq 41 dX11_purse_33 (by decide) (fun t33 => ?_) (fun f33 => ?_)
        · refine xt_aload _ dX11_purse_41 rfl ?_
          refine xt_iload _ dX11_purse_43 rfl ?_
          refine xt_cS _ dX11_purse_45 klX11_296 (tX5_kindsOf sc _ w hS hC hW (s_pu F p (2 ^ F 5)) hB) rfl rfl (Nat.le_of_ble_eq_true rfl) ?_
          refine xt_cS _ dX11_purse_48 klX11_253 (tJ_bitCount sc _ w _) rfl rfl (Nat.le_of_ble_eq_true rfl) ?_
          rw [s_bc_pop (s_KK F (s_pu F p (2 ^ F 5))) (by omega), show s_pop (s_KK F (s_pu F p (2 ^ F 5))) = s_cn F (s_pu F p (2 ^ F 5)) from rfl]
          exact xt_iret .int dX11_purse_51 rfl (by first | rfl | assumption) ⟨by rw [if_pos t33], x_keep.rf μ⟩
        · refine xt_iload _ dX11_purse_36 rfl ?_
          refine xt_goto 51 dX11_purse_38 (by decide) ?_
          exact xt_iret .int dX11_purse_51 rfl (by first | rfl | assumption) ⟨by rw [if_neg f33], x_keep.rf μ⟩
      · intro μ w c hf hc e hF
        refine x_K.of (by decide) (Nat.le_of_ble_eq_true rfl) ?_
        show x_T sc 29 mX12_purse 0 [.ref 152, .int (nI f), .int (nI p), .int u, .retAddr 0, .retAddr 0] [] μ w _
        refine xt_aload_n _ dX12_purse_0 rfl ?_
        refine xt_iconst (0) dX12_purse_1 (by decide) ?_
        refine xt_puti dX12_purse_2 kpX12_72 (by first | exact sh152 | rfl | assumption) rfl (by first | rfl | assumption) (by first | rfl | assumption) ?_
        refine xt_iload_n _ dX12_purse_5 rfl ?_
        refine xt_iconst (0) dX12_purse_6 (by decide) ?_
        refine xt_bipush (99) dX12_purse_7 (by decide) ?_
        refine xt_cS _ dX12_purse_9 klX12_84 (tX12_in sc _ _ w _ _ _) rfl rfl (Nat.le_of_ble_eq_true rfl) ?_
        refine xt_if_eq 23 dX12_purse_12 (by decide) (fun q => absurd q (s_in_nI (n := p) (N := 99) hp (by decide))) (fun _ => ?_)
        refine xt_aload_n _ dX12_purse_15 rfl ?_
        refine xt_iload_n _ dX12_purse_16 rfl ?_
        refine xt_callV _ dX12_purse_17 klX12_300 (tX12_hand sc _ (x_u μ 152 (upd (μ 152) 0 0)) w f c F hf hc e hF) sh152 rfl rfl (Nat.le_of_ble_eq_true rfl) (fun r1 μ1 w1 q1 => ?_)
        obtain ⟨rfl, rfl, hS, h0, hfr⟩ := q1
        change x_T _ _ _ _ _ (.int 1 :: _) _ _ _
        have e5 : μ1 158 (125 * f + 5) = nI (F 5) := hS.2.2.2 5 (by decide) (Or.inl ⟨by decide, by decide⟩)
        refine xt_if_ne 25 dX12_purse_20 (by decide) (fun _ => ?_) (fun q => absurd q (by decide))
        refine xt_iconst (0) dX12_purse_25 (by decide) ?_
        refine xt_istore dX12_purse_26 (by decide) rfl ?_
        change x_T _ _ _ _ [_, _, _, _, _, _] _ _ _ _
        refine xt_iconst (0) dX12_purse_28 (by decide) ?_
        refine xt_istore dX12_purse_29 (by decide) rfl ?_
        change x_T _ _ _ _ [_, _, _, _, _, _] _ _ _ _
        have L31 : ∀ (n31 m : Nat) , m + n31 = 2 ^ F 5 → x_T sc 29 mX12_purse 31 [.ref 152, .int (nI f), .int (nI p), .int u, .int (nI (s_pu F p m)), .int (nI m)] [] μ1 w1 (fun r μ' _ => r = some (.int (if u = 0 then nI (s_cn F (s_pu F p (2 ^ F 5))) else nI (s_pu F p (2 ^ F 5)))) ∧ x_keep μ μ') := by
          intro n31
          induction n31 with
          | zero =>
            intro m  hmn
            obtain rfl : 2 ^ F 5 = m := by omega
            refine xt_iload _ dX12_purse_31 rfl ?_
            refine xt_iconst (1) dX12_purse_33 (by decide) ?_
            refine xt_aload_n _ dX12_purse_34 rfl ?_
            refine xt_iconst (5) dX12_purse_35 (by decide) ?_
            refine xt_cV _ dX12_purse_36 klX12_244 (tX12_of sc _ μ1 _ f 5 (by have := hS.1.1; omega) (by decide) hS.1.2.1) sh152 rfl rfl (Nat.le_of_ble_eq_true rfl) ?_
            rw [e5]
            refine xt_ishl dX12_purse_39 ?_
            refine xt_icmp_ge 89 dX12_purse_40 (by decide) (fun _ => ?_) (fun q => absurd (by rw [x_1sh (by omega)]; exact Int32.le_refl _) q)
            refine xt_iload_n _ dX12_purse_89 rfl ?_
            refine xt_if_eq 98 dX12_purse_90 (by decide) (fun t90 => ?_) (fun f90 => ?_)
            · refine xt_aload_n _ dX12_purse_98 rfl ?_
              refine xt_iload _ dX12_purse_99 rfl ?_
              refine xt_cV _ dX12_purse_101 klX12_383 (tX12_pardons sc _ μ1 _ f F hS hW (s_pu F p (2 ^ F 5)) hB) sh152 rfl rfl (Nat.le_of_ble_eq_true rfl) ?_
              refine xt_cS _ dX12_purse_104 klX12_412 (tX12_ones sc _ μ1 _ (s_KK F (s_pu F p (2 ^ F 5))) (Nat.lt_trans (s_ko_lt hW (s_pu F p (2 ^ F 5)) (F 5) (Nat.le_refl _)) (by decide))) rfl rfl (Nat.le_of_ble_eq_true rfl) ?_
              change x_T _ _ _ _ _ (.int (nI (s_cn F (s_pu F p (2 ^ F 5)))) :: _) _ _ _
              exact xt_iret .int dX12_purse_107 rfl (by first | rfl | assumption) ⟨by rw [if_pos t90], (x_keep.hand hfr)⟩
            · refine xt_iload _ dX12_purse_93 rfl ?_
              refine xt_goto 107 dX12_purse_95 (by decide) ?_
              exact xt_iret .int dX12_purse_107 rfl (by first | rfl | assumption) ⟨by rw [if_neg f90], (x_keep.hand hfr)⟩
          | succ n31 ih31 =>
            intro m  hmn
            have hlt : m < 2 ^ F 5 := by omega
            have hpp : s_PP F m ≤ 20 * F 5 := s_pr_le hW m (F 5) (Nat.le_refl _)
            have hc1 : s_cn F m ≤ 8 := s_cnt_le _ _
            have hc2 : s_cn F (s_pu F p m) ≤ 8 := s_cnt_le _ _
            have hpm : s_pu F p m < 64 := by
              rcases Nat.eq_zero_or_pos m with q | q
              · subst q; show 0 < 64; decide
              · obtain ⟨z, rfl⟩ : ∃ z, m = z + 1 := ⟨m - 1, by omega⟩
                have := s_pu_lt F p z; omega
            refine xt_iload _ dX12_purse_31 rfl ?_
            refine xt_iconst (1) dX12_purse_33 (by decide) ?_
            refine xt_aload_n _ dX12_purse_34 rfl ?_
            refine xt_iconst (5) dX12_purse_35 (by decide) ?_
            refine xt_cV _ dX12_purse_36 klX12_244 (tX12_of sc _ μ1 _ f 5 (by have := hS.1.1; omega) (by decide) hS.1.2.1) sh152 rfl rfl (Nat.le_of_ble_eq_true rfl) ?_
            rw [e5]
            refine xt_ishl dX12_purse_39 ?_
            refine xt_icmp_ge 89 dX12_purse_40 (by decide) (fun q => absurd q (by rw [x_1sh (by omega)]; exact nI_ge hlt (by omega))) (fun _ => ?_)
            refine xt_aload_n _ dX12_purse_43 rfl ?_
            refine xt_iload _ dX12_purse_44 rfl ?_
            refine xt_cV _ dX12_purse_46 klX12_380 (tX12_pricesOf sc _ μ1 _ f F hS hW m (by omega)) sh152 rfl rfl (Nat.le_of_ble_eq_true rfl) ?_
            refine xt_iload_n _ dX12_purse_49 rfl ?_
            refine xt_icmp_gt 79 dX12_purse_50 (by decide) (fun t50 => ?_) (fun f50 => ?_)
            · refine xt_iload _ dX12_purse_79 rfl ?_
              refine xt_istore dX12_purse_81 (by decide) rfl ?_
              change x_T _ _ _ _ [_, _, _, _, _, _] _ _ _ _
              refine xt_inc _ (1) dX12_purse_83 rfl (by decide) (by decide) rfl ?_
              change x_T _ _ _ _ [_, _, _, _, _, _] _ _ _ _
              refine xt_goto 31 dX12_purse_86 (by decide) ?_
              rw [nI_ltI (by omega) (by omega)] at t50
              refine x_T.ls ?_ (ih31 (m + 1) (by omega))
              rw [show s_pu F p (m + 1) = s_pu F p m by rw [s_pu, if_neg (fun z => by omega)], nI_succ m]
            · refine xt_aload_n _ dX12_purse_53 rfl ?_
              refine xt_iload _ dX12_purse_54 rfl ?_
              refine xt_cV _ dX12_purse_56 klX12_383 (tX12_pardons sc _ μ1 _ f F hS hW m (by omega)) sh152 rfl rfl (Nat.le_of_ble_eq_true rfl) ?_
              refine xt_cS _ dX12_purse_59 klX12_412 (tX12_ones sc _ μ1 _ (s_KK F m) (Nat.lt_trans (s_ko_lt hW m (F 5) (Nat.le_refl _)) (by decide))) rfl rfl (Nat.le_of_ble_eq_true rfl) ?_
              change x_T _ _ _ _ _ (.int (nI (s_cn F m)) :: _) _ _ _
              refine xt_aload_n _ dX12_purse_62 rfl ?_
              refine xt_iload _ dX12_purse_63 rfl ?_
              refine xt_cV _ dX12_purse_65 klX12_383 (tX12_pardons sc _ μ1 _ f F hS hW (s_pu F p m) (by omega)) sh152 rfl rfl (Nat.le_of_ble_eq_true rfl) ?_
              refine xt_cS _ dX12_purse_68 klX12_412 (tX12_ones sc _ μ1 _ (s_KK F (s_pu F p m)) (Nat.lt_trans (s_ko_lt hW (s_pu F p m) (F 5) (Nat.le_refl _)) (by decide))) rfl rfl (Nat.le_of_ble_eq_true rfl) ?_
              change x_T _ _ _ _ _ (.int (nI (s_cn F (s_pu F p m))) :: _) _ _ _
              refine xt_icmp_le 79 dX12_purse_71 (by decide) (fun t71 => ?_) (fun f71 => ?_)
              · refine xt_iload _ dX12_purse_79 rfl ?_
                refine xt_istore dX12_purse_81 (by decide) rfl ?_
                change x_T _ _ _ _ [_, _, _, _, _, _] _ _ _ _
                refine xt_inc _ (1) dX12_purse_83 rfl (by decide) (by decide) rfl ?_
                change x_T _ _ _ _ [_, _, _, _, _, _] _ _ _ _
                refine xt_goto 31 dX12_purse_86 (by decide) ?_
                rw [nI_ltI (by omega) (by omega)] at f50
                rw [nI_leI (by omega) (by omega)] at t71
                refine x_T.ls ?_ (ih31 (m + 1) (by omega))
                rw [show s_pu F p (m + 1) = s_pu F p m by rw [s_pu, if_neg (fun z => by omega)], nI_succ m]
              · refine xt_iload _ dX12_purse_74 rfl ?_
                refine xt_goto 81 dX12_purse_76 (by decide) ?_
                refine xt_istore dX12_purse_81 (by decide) rfl ?_
                change x_T _ _ _ _ [_, _, _, _, _, _] _ _ _ _
                refine xt_inc _ (1) dX12_purse_83 rfl (by decide) (by decide) rfl ?_
                change x_T _ _ _ _ [_, _, _, _, _, _] _ _ _ _
                refine xt_goto 31 dX12_purse_86 (by decide) ?_
                rw [nI_ltI (by omega) (by omega)] at f50
                rw [nI_leI (by omega) (by omega)] at f71
                refine x_T.ls ?_ (ih31 (m + 1) (by omega))
                rw [show s_pu F p (m + 1) = m by rw [s_pu, if_pos ⟨by omega, by omega⟩], nI_succ m]
        exact L31 (2 ^ F 5) 0  (by omega)
    · skip
      refine ⟨-1, ?_, ?_⟩
      · intro μ w c hf hc e hC
        have hS := f_Sf hf2
        refine x_K.of (by decide) (Nat.le_of_ble_eq_true rfl) ?_
        show x_T sc 29 mX11_purse 0 [.ref 0, .int (nI f), .int a2, .int u, .retAddr 0, .retAddr 0] [] μ w _
        refine xt_aload_n _ dX11_purse_0 rfl ?_
        refine xt_iload_n _ dX11_purse_1 rfl ?_
        refine xt_cV _ dX11_purse_2 klX11_90 (tX11_fairOf sc _ μ w f c hf hc e) sh0 rfl rfl (Nat.le_of_ble_eq_true rfl) ?_
        refine xt_astore dX11_purse_5 (by decide) rfl ?_
        change x_T _ _ _ _ [_, _, _, _, _, _] _ _ _ _
        refine xt_aload _ dX11_purse_7 rfl ?_
        refine xt_ifnull_r dX11_purse_9 ?_
        refine xt_iload_n _ dX11_purse_12 rfl ?_
        refine xt_if_lt 22 dX11_purse_13 (by decide) (fun t13 => ?_) (fun f13 => ?_)
        · refine xt_iconst (-1) dX11_purse_22 (by decide) ?_
          exact xt_iret .int dX11_purse_23 rfl (by first | rfl | assumption) ⟨rfl, x_keep.rf μ⟩
        · refine xt_iload_n _ dX11_purse_16 rfl ?_
          refine xt_bipush (99) dX11_purse_17 (by decide) ?_
          refine xt_icmp_le 24 dX11_purse_19 (by decide) (fun t19 => ?_) (fun f19 => ?_)
          · exact absurd ⟨Int32.not_lt.mp f13, t19⟩ hr
          · refine xt_iconst (-1) dX11_purse_22 (by decide) ?_
            exact xt_iret .int dX11_purse_23 rfl (by first | rfl | assumption) ⟨rfl, x_keep.rf μ⟩
      · intro μ w c hf hc e hF
        refine x_K.of (by decide) (Nat.le_of_ble_eq_true rfl) ?_
        show x_T sc 29 mX12_purse 0 [.ref 152, .int (nI f), .int a2, .int u, .retAddr 0, .retAddr 0] [] μ w _
        refine xt_aload_n _ dX12_purse_0 rfl ?_
        refine xt_iconst (0) dX12_purse_1 (by decide) ?_
        refine xt_puti dX12_purse_2 kpX12_72 (by first | exact sh152 | rfl | assumption) rfl (by first | rfl | assumption) (by first | rfl | assumption) ?_
        refine xt_iload_n _ dX12_purse_5 rfl ?_
        refine xt_iconst (0) dX12_purse_6 (by decide) ?_
        refine xt_bipush (99) dX12_purse_7 (by decide) ?_
        refine xt_cS _ dX12_purse_9 klX12_84 (tX12_in sc _ _ w _ _ _) rfl rfl (Nat.le_of_ble_eq_true rfl) ?_
        refine xt_if_eq 23 dX12_purse_12 (by decide) (fun _ => ?_) (fun q => absurd (s_in_out hr) q)
        refine xt_iconst (-1) dX12_purse_23 (by decide) ?_
        exact xt_iret .int dX12_purse_24 rfl (by first | rfl | assumption) ⟨rfl, (x_keep.u (x_keep.rf μ) (by unfold x_ok; omega))⟩
