/-! upright: the reference's half, the step -/
theorem s_ax_0 {v : Nat → Nat} : ∀ n, (s_ax v n).1 = 0 → (s_ax v n).2 = 0
  | 0 => fun _ => rfl
  | n + 1 => fun h => absurd h (s_ax_1 n)
theorem s_am_lim2 {v : Nat → Nat} {ok : Nat → Bool} {a b : Nat} : ∀ n, (∀ i, i < n → ok i = true → v i < a ∧ v i < b) → (s_am v ok a n).1 = (s_am v ok b n).1 ∧ (((s_am v ok a n).1 = 0 ∧ (s_am v ok a n).2 = a ∧ (s_am v ok b n).2 = b) ∨ ((s_am v ok a n).1 ≠ 0 ∧ (s_am v ok a n).2 = (s_am v ok b n).2))
  | 0, _ => ⟨rfl, Or.inl ⟨rfl, rfl, rfl⟩⟩
  | n + 1, h => by
    have ih := s_am_lim2 (v := v) (ok := ok) (a := a) (b := b) n (fun i hi => h i (by omega))
    by_cases ho : ok n = true
    · have hv := h n (by omega) ho
      rcases ih.2 with q | q
      · rw [s_am_y ho (by rw [q.2.1]; exact hv.1), s_am_y ho (by rw [q.2.2]; exact hv.2)]
        exact ⟨rfl, Or.inr ⟨by simp, rfl⟩⟩
      · by_cases hc : v n < (s_am v ok a n).2
        · rw [s_am_y ho hc, s_am_y ho (by rw [← q.2]; exact hc)]
          exact ⟨rfl, Or.inr ⟨by simp, rfl⟩⟩
        · rw [s_am_n2 (by omega), s_am_n2 (by rw [← q.2]; omega)]
          exact ih
    · rw [s_am_n1 (by simpa using ho), s_am_n1 (by simpa using ho)]
      exact ih
theorem s_am_cp {F : Nat → Nat} (hW : f_W F) (a b : Nat) (ha : 18 < a) (hb : 18 < b) (n : Nat) : (s_am (s_cv F) (s_ck F) a n).1 = (s_am (s_cv F) (s_ck F) b n).1 ∧ (((s_am (s_cv F) (s_ck F) a n).1 = 0 ∧ (s_am (s_cv F) (s_ck F) a n).2 = a ∧ (s_am (s_cv F) (s_ck F) b n).2 = b) ∨ ((s_am (s_cv F) (s_ck F) a n).1 ≠ 0 ∧ (s_am (s_cv F) (s_ck F) a n).2 = (s_am (s_cv F) (s_ck F) b n).2)) :=
  s_am_lim2 n (fun i hi h => by
    have h1 : i / 10 < i % 10 ∧ i % 10 < F 4 := of_decide_eq_true h
    have := s_bt_le hW (a := i / 10) (b := i % 10) (by omega) h1.2
    show s_bt F (i / 10) (i % 10) < a ∧ s_bt F (i / 10) (i % 10) < b
    omega)
section UPRIGHTM
variable (sc : Nat × (Nat → Int32)) (d : Nat) (μ : x_Me) (w : Int64)
set_option maxHeartbeats 1000000 in
theorem tX12_clean (f : Nat) (F : Nat → Nat) (hS : m_S μ f F) (hW : f_W F) : x_K sc (d + 1) mX12_clean [.ref 152] μ w (x_p (some (.int (nI (s_bits (fun g => decide (s_wt F g = 0)) (F 4))))) μ w) := by
  have h8 : F 4 ≤ 8 := hW.1.2.2.2.2.1
  have e4 : μ 152 24 = nI (F 4) := hS.1.2.2.2.1
  refine x_K.of (by decide) (Nat.le_of_ble_eq_true rfl) ?_
  show x_T sc (d + 1) mX12_clean 0 [.ref 152, .retAddr 0, .retAddr 0] [] μ w _
  refine xt_iconst (0) dX12_clean_0 (by decide) ?_
  refine xt_istore_n dX12_clean_1 (by decide) rfl ?_
  change x_T _ _ _ _ [_, _, _] _ _ _ _
  refine xt_iconst (0) dX12_clean_2 (by decide) ?_
  refine xt_istore_n dX12_clean_3 (by decide) rfl ?_
  change x_T _ _ _ _ [_, _, _] _ _ _ _
  have L4 : ∀ (n4 m : Nat) , m + n4 = F 4 → x_T sc (d + 1) mX12_clean 4 [.ref 152, .int (nI (s_bits (fun g => decide (s_wt F g = 0)) m)), .int (nI m)] [] μ w (x_p (some (.int (nI (s_bits (fun g => decide (s_wt F g = 0)) (F 4))))) μ w) := by
    intro n4
    induction n4 with
    | zero =>
      intro m  hmn
      obtain rfl : F 4 = m := by omega
      refine xt_iload_n _ dX12_clean_4 rfl ?_
      refine xt_aload_n _ dX12_clean_5 rfl ?_
      refine xt_geti dX12_clean_6 kfX12_251 (by first | exact sh152 | rfl | assumption) rfl ?_
      refine xt_icmp_ge 36 dX12_clean_9 (by decide) (fun _ => ?_) (fun q => absurd (by rw [e4]; exact Int32.le_refl _) q)
      refine xt_iload_n _ dX12_clean_36 rfl ?_
      exact xt_iret .int dX12_clean_37 rfl (by first | rfl | assumption) ⟨rfl, rfl, rfl⟩
    | succ n4 ih4 =>
      intro m  hmn
      have hlt : m < F 4 := by omega
      have hwt := s_wt_le hW (show m < 8 by omega)
      refine xt_iload_n _ dX12_clean_4 rfl ?_
      refine xt_aload_n _ dX12_clean_5 rfl ?_
      refine xt_geti dX12_clean_6 kfX12_251 (by first | exact sh152 | rfl | assumption) rfl ?_
      refine xt_icmp_ge 36 dX12_clean_9 (by decide) (fun q => absurd q (by rw [e4]; exact nI_ge hlt (by omega))) (fun _ => ?_)
      refine xt_iload_n _ dX12_clean_12 rfl ?_
      refine xt_aload_n _ dX12_clean_13 rfl ?_
      refine xt_iload_n _ dX12_clean_14 rfl ?_
      refine xt_cV _ dX12_clean_15 klX12_354 (tX12_wrongsOf sc _ μ _ F hS.2.2.1 m (by omega)) sh152 rfl rfl (Nat.le_of_ble_eq_true rfl) ?_
      refine xt_if_ne 27 dX12_clean_18 (by decide) (fun t18 => ?_) (fun f18 => ?_)
      · refine xt_iconst (0) dX12_clean_27 (by decide) ?_
        refine xt_ior dX12_clean_28 ?_
        refine xt_istore_n dX12_clean_29 (by decide) rfl ?_
        change x_T _ _ _ _ [_, _, _] _ _ _ _
        refine xt_inc _ (1) dX12_clean_30 rfl (by decide) (by decide) rfl ?_
        change x_T _ _ _ _ [_, _, _] _ _ _ _
        refine xt_goto 4 dX12_clean_33 (by decide) ?_
        refine x_T.ls ?_ (ih4 (m + 1) (by omega))
        rw [s_bits_no (p := (fun g => decide (s_wt F g = 0))) (by rw [nI_0e (by omega)] at t18; simpa using t18), nI_succ m, Int32.or_zero]
      · refine xt_iconst (1) dX12_clean_21 (by decide) ?_
        refine xt_iload_n _ dX12_clean_22 rfl ?_
        refine xt_ishl dX12_clean_23 ?_
        refine xt_goto 28 dX12_clean_24 (by decide) ?_
        refine xt_ior dX12_clean_28 ?_
        refine xt_istore_n dX12_clean_29 (by decide) rfl ?_
        change x_T _ _ _ _ [_, _, _] _ _ _ _
        refine xt_inc _ (1) dX12_clean_30 rfl (by decide) (by decide) rfl ?_
        change x_T _ _ _ _ [_, _, _] _ _ _ _
        refine xt_goto 4 dX12_clean_33 (by decide) ?_
        refine x_T.ls ?_ (ih4 (m + 1) (by omega))
        rw [← s_bits_or (p := (fun g => decide (s_wt F g = 0))) (g := m) (by omega) (by rw [nI_0e (by omega)] at f18; simpa using f18), nI_succ m]
  exact L4 (F 4) 0  (by omega)
set_option maxHeartbeats 1000000 in
theorem tX12_worst (f : Nat) (F : Nat → Nat) (hS : m_S μ f F) (hW : f_W F) : x_K sc (d + 1) mX12_worst [.ref 152] μ w (x_p (some (.int (eI (s_ax (s_wt F) (F 4)).1))) μ w) := by
  have h8 : F 4 ≤ 8 := hW.1.2.2.2.2.1
  have e4 : μ 152 24 = nI (F 4) := hS.1.2.2.2.1
  refine x_K.of (by decide) (Nat.le_of_ble_eq_true rfl) ?_
  show x_T sc (d + 1) mX12_worst 0 [.ref 152, .retAddr 0, .retAddr 0] [] μ w _
  refine xt_iconst (-1) dX12_worst_0 (by decide) ?_
  refine xt_istore_n dX12_worst_1 (by decide) rfl ?_
  change x_T _ _ _ _ [_, _, _] _ _ _ _
  refine xt_iconst (0) dX12_worst_2 (by decide) ?_
  refine xt_istore_n dX12_worst_3 (by decide) rfl ?_
  change x_T _ _ _ _ [_, _, _] _ _ _ _
  have L4 : ∀ (n4 m : Nat) , m + n4 = F 4 → x_T sc (d + 1) mX12_worst 4 [.ref 152, .int (eI (s_ax (s_wt F) m).1), .int (nI m)] [] μ w (x_p (some (.int (eI (s_ax (s_wt F) (F 4)).1))) μ w) := by
    intro n4
    induction n4 with
    | zero =>
      intro m  hmn
      obtain rfl : F 4 = m := by omega
      refine xt_iload_n _ dX12_worst_4 rfl ?_
      refine xt_aload_n _ dX12_worst_5 rfl ?_
      refine xt_geti dX12_worst_6 kfX12_251 (by first | exact sh152 | rfl | assumption) rfl ?_
      refine xt_icmp_ge 42 dX12_worst_9 (by decide) (fun _ => ?_) (fun q => absurd (by rw [e4]; exact Int32.le_refl _) q)
      refine xt_iload_n _ dX12_worst_42 rfl ?_
      exact xt_iret .int dX12_worst_43 rfl (by first | rfl | assumption) ⟨rfl, rfl, rfl⟩
    | succ n4 ih4 =>
      intro m  hmn
      have hlt : m < F 4 := by omega
      have hwt := s_wt_le hW (show m < 8 by omega)
      have hax := s_ax_le (v := s_wt F) (c := 54) m (fun i hi => s_wt_le hW (by omega))
      refine xt_iload_n _ dX12_worst_4 rfl ?_
      refine xt_aload_n _ dX12_worst_5 rfl ?_
      refine xt_geti dX12_worst_6 kfX12_251 (by first | exact sh152 | rfl | assumption) rfl ?_
      refine xt_icmp_ge 42 dX12_worst_9 (by decide) (fun q => absurd q (by rw [e4]; exact nI_ge hlt (by omega))) (fun _ => ?_)
      refine xt_iload_n _ dX12_worst_12 rfl ?_
      refine xt_iconst (-1) dX12_worst_13 (by decide) ?_
      refine xt_icmp_eq 30 dX12_worst_14 (by decide) (fun t14 => ?_) (fun f14 => ?_)
      · refine xt_iload_n _ dX12_worst_30 rfl ?_
        refine xt_goto 35 dX12_worst_31 (by decide) ?_
        refine xt_istore_n dX12_worst_35 (by decide) rfl ?_
        change x_T _ _ _ _ [_, _, _] _ _ _ _
        refine xt_inc _ (1) dX12_worst_36 rfl (by decide) (by decide) rfl ?_
        change x_T _ _ _ _ [_, _, _] _ _ _ _
        refine xt_goto 4 dX12_worst_39 (by decide) ?_
        refine x_T.ls ?_ (ih4 (m + 1) (by omega))
        rw [eI_m1 (by omega)] at t14
        rw [s_ax_y (v := s_wt F) (n := m) (by rw [s_ax_0 m t14]; omega), nI_succ m]
        simp only [eI_s]
      · refine xt_aload_n _ dX12_worst_17 rfl ?_
        refine xt_iload_n _ dX12_worst_18 rfl ?_
        refine xt_cV _ dX12_worst_19 klX12_354 (tX12_wrongsOf sc _ μ _ F hS.2.2.1 m (by omega)) sh152 rfl rfl (Nat.le_of_ble_eq_true rfl) ?_
        refine xt_aload_n _ dX12_worst_22 rfl ?_
        refine xt_iload_n _ dX12_worst_23 rfl ?_
        have hne : (s_ax (s_wt F) m).1 ≠ 0 := fun z => f14 ((eI_m1 (by omega)).mpr z)
        have hv := s_ax_v (v := s_wt F) m hne
        have hwq := s_wt_le hW (show (s_ax (s_wt F) m).1 - 1 < 8 by omega)
        rw [eI_pr hne]
        refine xt_cV _ dX12_worst_24 klX12_354 (tX12_wrongsOf sc _ μ _ F hS.2.2.1 ((s_ax (s_wt F) m).1 - 1) (by omega)) sh152 rfl rfl (Nat.le_of_ble_eq_true rfl) ?_
        refine xt_icmp_le 34 dX12_worst_27 (by decide) (fun t27 => ?_) (fun f27 => ?_)
        · refine xt_iload_n _ dX12_worst_34 rfl ?_
          refine xt_istore_n dX12_worst_35 (by decide) rfl ?_
          change x_T _ _ _ _ [_, _, _] _ _ _ _
          refine xt_inc _ (1) dX12_worst_36 rfl (by decide) (by decide) rfl ?_
          change x_T _ _ _ _ [_, _, _] _ _ _ _
          refine xt_goto 4 dX12_worst_39 (by decide) ?_
          refine x_T.ls ?_ (ih4 (m + 1) (by omega))
          rw [nI_leI (by omega) (by omega)] at t27
          rw [s_ax_n (v := s_wt F) (n := m) (by omega), eI_pr hne, nI_succ m]
        · refine xt_iload_n _ dX12_worst_30 rfl ?_
          refine xt_goto 35 dX12_worst_31 (by decide) ?_
          refine xt_istore_n dX12_worst_35 (by decide) rfl ?_
          change x_T _ _ _ _ [_, _, _] _ _ _ _
          refine xt_inc _ (1) dX12_worst_36 rfl (by decide) (by decide) rfl ?_
          change x_T _ _ _ _ [_, _, _] _ _ _ _
          refine xt_goto 4 dX12_worst_39 (by decide) ?_
          refine x_T.ls ?_ (ih4 (m + 1) (by omega))
          rw [nI_leI (by omega) (by omega)] at f27
          rw [s_ax_y (v := s_wt F) (n := m) (by omega), nI_succ m]
          simp only [eI_s]
  exact L4 (F 4) 0  (by omega)
set_option maxHeartbeats 1000000 in
theorem tX12_mostKind (f : Nat) (F : Nat → Nat) (hS : m_S μ f F) (hW : f_W F) : x_K sc (d + 1) mX12_mostKind [.ref 152] μ w (x_p (some (.int (nI ((s_ax (s_wk F) 6).1 - 1)))) μ w) := by
  have h8 : F 4 ≤ 8 := hW.1.2.2.2.2.1
  have e4 : μ 152 24 = nI (F 4) := hS.1.2.2.2.1
  refine x_K.of (by decide) (Nat.le_of_ble_eq_true rfl) ?_
  show x_T sc (d + 1) mX12_mostKind 0 [.ref 152, .retAddr 0, .retAddr 0, .retAddr 0, .retAddr 0, .retAddr 0] [] μ w _
  refine xt_iconst (0) dX12_mostKind_0 (by decide) ?_
  refine xt_istore_n dX12_mostKind_1 (by decide) rfl ?_
  change x_T _ _ _ _ [_, _, _, _, _, _] _ _ _ _
  refine xt_iconst (-1) dX12_mostKind_2 (by decide) ?_
  refine xt_istore_n dX12_mostKind_3 (by decide) rfl ?_
  change x_T _ _ _ _ [_, _, _, _, _, _] _ _ _ _
  refine xt_iconst (0) dX12_mostKind_4 (by decide) ?_
  refine xt_istore_n dX12_mostKind_5 (by decide) rfl ?_
  change x_T _ _ _ _ [_, _, _, _, _, _] _ _ _ _
  have L6 : ∀ (n6 m : Nat) (v4 v5 : Value), m + n6 = 6 → x_T sc (d + 1) mX12_mostKind 6 [.ref 152, .int (nI ((s_ax (s_wk F) m).1 - 1)), .int (eI (s_ax (s_wk F) m).2), .int (nI m), v4, v5] [] μ w (x_p (some (.int (nI ((s_ax (s_wk F) 6).1 - 1)))) μ w) := by
    intro n6
    induction n6 with
    | zero =>
      intro m v4 v5 hmn
      obtain rfl : 6 = m := by omega
      refine xt_iload_n _ dX12_mostKind_6 rfl ?_
      refine xt_bipush (6) dX12_mostKind_7 (by decide) ?_
      refine xt_icmp_ge 75 dX12_mostKind_9 (by decide) (fun _ => ?_) (fun q => absurd (by decide) q)
      refine xt_iload_n _ dX12_mostKind_75 rfl ?_
      exact xt_iret .int dX12_mostKind_76 rfl (by first | rfl | assumption) ⟨rfl, rfl, rfl⟩
    | succ n6 ih6 =>
      intro m v4 v5 hmn
      have hlt : m < 6 := by omega
      have hax := s_ax_le (v := s_wk F) (c := 72) m (fun i hi => s_wk_le hW (by omega) h8)
      have hk1 : s_wk F m ≤ 72 := s_wk_le hW (by omega) h8
      refine xt_iload_n _ dX12_mostKind_6 rfl ?_
      refine xt_bipush (6) dX12_mostKind_7 (by decide) ?_
      refine xt_icmp_ge 75 dX12_mostKind_9 (by decide) (fun q => absurd q (nI_ge (b := 6) hlt (by decide))) (fun _ => ?_)
      refine xt_iconst (0) dX12_mostKind_12 (by decide) ?_
      refine xt_istore dX12_mostKind_13 (by decide) rfl ?_
      change x_T _ _ _ _ [_, _, _, _, _, _] _ _ _ _
      refine xt_iconst (0) dX12_mostKind_15 (by decide) ?_
      refine xt_istore dX12_mostKind_16 (by decide) rfl ?_
      change x_T _ _ _ _ [_, _, _, _, _, _] _ _ _ _
      have L18 : ∀ (n18 j : Nat) , j + n18 = F 4 → x_T sc (d + 1) mX12_mostKind 18 [.ref 152, .int (nI ((s_ax (s_wk F) m).1 - 1)), .int (eI (s_ax (s_wk F) m).2), .int (nI m), .int (nI (s_sum (fun g => F (41 + (6 * g + m))) j)), .int (nI j)] [] μ w (x_p (some (.int (nI ((s_ax (s_wk F) 6).1 - 1)))) μ w) := by
        intro n18
        induction n18 with
        | zero =>
          intro j  hmn
          obtain rfl : F 4 = j := by omega
          change x_T _ _ _ _ [_, _, _, _, .int (nI (s_wk F m)), _] _ _ _ _
          refine xt_iload _ dX12_mostKind_18 rfl ?_
          refine xt_aload_n _ dX12_mostKind_20 rfl ?_
          refine xt_geti dX12_mostKind_21 kfX12_251 (by first | exact sh152 | rfl | assumption) rfl ?_
          refine xt_icmp_ge 50 dX12_mostKind_24 (by decide) (fun _ => ?_) (fun q => absurd (by rw [e4]; exact Int32.le_refl _) q)
          refine xt_iload _ dX12_mostKind_50 rfl ?_
          refine xt_iload_n _ dX12_mostKind_52 rfl ?_
          refine xt_icmp_le 60 dX12_mostKind_53 (by decide) (fun t53 => ?_) (fun f53 => ?_)
          · refine xt_iload_n _ dX12_mostKind_60 rfl ?_
            refine xt_istore_n dX12_mostKind_61 (by decide) rfl ?_
            change x_T _ _ _ _ [_, _, _, _, _, _] _ _ _ _
            refine xt_iload_n _ dX12_mostKind_62 rfl ?_
            refine xt_iload _ dX12_mostKind_63 rfl ?_
            refine xt_cS _ dX12_mostKind_65 klX12_153 (tX12_greater sc _ μ _ _ _) rfl rfl (Nat.le_of_ble_eq_true rfl) ?_
            refine xt_istore_n dX12_mostKind_68 (by decide) rfl ?_
            change x_T _ _ _ _ [_, _, _, _, _, _] _ _ _ _
            refine xt_inc _ (1) dX12_mostKind_69 rfl (by decide) (by decide) rfl ?_
            change x_T _ _ _ _ [_, _, _, _, _, _] _ _ _ _
            refine xt_goto 6 dX12_mostKind_72 (by decide) ?_
            refine x_T.ls ?_ (ih6 (m + 1) (.int (nI (s_wk F m))) (.int (nI (F 4))) (by omega))
            rw [s_gr_eI (by omega) (by omega)]
            rw [eI_lt (by omega) (by omega)] at t53
            rw [s_ax_n (v := s_wk F) (n := m) (by omega), nI_succ m, Nat.max_eq_left (by omega)]
          · refine xt_iload_n _ dX12_mostKind_56 rfl ?_
            refine xt_goto 61 dX12_mostKind_57 (by decide) ?_
            refine xt_istore_n dX12_mostKind_61 (by decide) rfl ?_
            change x_T _ _ _ _ [_, _, _, _, _, _] _ _ _ _
            refine xt_iload_n _ dX12_mostKind_62 rfl ?_
            refine xt_iload _ dX12_mostKind_63 rfl ?_
            refine xt_cS _ dX12_mostKind_65 klX12_153 (tX12_greater sc _ μ _ _ _) rfl rfl (Nat.le_of_ble_eq_true rfl) ?_
            refine xt_istore_n dX12_mostKind_68 (by decide) rfl ?_
            change x_T _ _ _ _ [_, _, _, _, _, _] _ _ _ _
            refine xt_inc _ (1) dX12_mostKind_69 rfl (by decide) (by decide) rfl ?_
            change x_T _ _ _ _ [_, _, _, _, _, _] _ _ _ _
            refine xt_goto 6 dX12_mostKind_72 (by decide) ?_
            refine x_T.ls ?_ (ih6 (m + 1) (.int (nI (s_wk F m))) (.int (nI (F 4))) (by omega))
            rw [s_gr_eI (by omega) (by omega)]
            rw [eI_lt (by omega) (by omega)] at f53
            rw [s_ax_y (v := s_wk F) (n := m) (by omega), nI_succ m, Nat.max_eq_right (by omega)]
            rfl
        | succ n18 ih18 =>
          intro j  hmn
          have hlt_j : j < F 4 := by omega
          have hix : (6 : Int32) * nI j + nI m = nI (6 * j + m) := by rw [show (6 : Int32) = nI 6 from rfl, pk_mul, nI_add]
          refine xt_iload _ dX12_mostKind_18 rfl ?_
          refine xt_aload_n _ dX12_mostKind_20 rfl ?_
          refine xt_geti dX12_mostKind_21 kfX12_251 (by first | exact sh152 | rfl | assumption) rfl ?_
          refine xt_icmp_ge 50 dX12_mostKind_24 (by decide) (fun q => absurd q (by rw [e4]; exact nI_ge hlt_j (by omega))) (fun _ => ?_)
          refine xt_iload _ dX12_mostKind_27 rfl ?_
          refine xt_aload_n _ dX12_mostKind_29 rfl ?_
          refine xt_getr _ dX12_mostKind_30 kfX12_47 (by first | exact sh152 | rfl | assumption) rfl ?_
          refine xt_bipush (6) dX12_mostKind_33 (by decide) ?_
          refine xt_iload _ dX12_mostKind_35 rfl ?_
          refine xt_imul dX12_mostKind_37 ?_
          refine xt_iload_n _ dX12_mostKind_38 rfl ?_
          refine xt_iadd dX12_mostKind_39 ?_
          refine xt_ald dX12_mostKind_40 (by first | exact sh152 | rfl | assumption) (by rw [hix]; exact vp_in_nI (by omega) (by decide)) ?_
          refine xt_iadd dX12_mostKind_41 ?_
          refine xt_istore dX12_mostKind_42 (by decide) rfl ?_
          change x_T _ _ _ _ [_, _, _, _, _, _] _ _ _ _
          refine xt_inc _ (1) dX12_mostKind_44 rfl (by decide) (by decide) rfl ?_
          change x_T _ _ _ _ [_, _, _, _, _, _] _ _ _ _
          refine xt_goto 18 dX12_mostKind_47 (by decide) ?_
          refine x_T.ls ?_ (ih18 (j + 1) (by omega))
          rw [hix, nI_clamp (by omega), hS.2.2.1 _ (by omega), nI_add, nI_succ j]
          rfl
      exact L18 (F 4) 0  (by omega)
  exact L6 (6) 0 _ _ (by omega)
set_option maxHeartbeats 1000000 in
theorem tX12_heard (f : Nat) (F : Nat → Nat) (hS : m_S μ f F) (hW : f_W F) : x_K sc (d + 2) mX12_heard [.ref 152] μ w (x_p (some (.int (nI (s_bits (fun g => decide (nI (s_farO F g) ≤ eI (s_mr F (F 3)))) (F 4))))) μ w) := by
  have h8 : F 4 ≤ 8 := hW.1.2.2.2.2.1
  have h6 : F 3 ≤ 6 := hW.1.2.2.2.1
  have e4 : μ 152 24 = nI (F 4) := hS.1.2.2.2.1
  have e3 : μ 152 23 = nI (F 3) := hS.1.2.2.1
  refine x_K.of (by decide) (Nat.le_of_ble_eq_true rfl) ?_
  show x_T sc (d + 2) mX12_heard 0 [.ref 152, .retAddr 0, .retAddr 0, .retAddr 0] [] μ w _
  refine xt_iconst (0) dX12_heard_0 (by decide) ?_
  refine xt_istore_n dX12_heard_1 (by decide) rfl ?_
  change x_T _ _ _ _ [_, _, _, _] _ _ _ _
  refine xt_iconst (0) dX12_heard_2 (by decide) ?_
  refine xt_istore_n dX12_heard_3 (by decide) rfl ?_
  change x_T _ _ _ _ [_, _, _, _] _ _ _ _
  have L4 : ∀ (n4 m : Nat) (v3 : Value), m + n4 = F 4 → x_T sc (d + 2) mX12_heard 4 [.ref 152, .int (nI (s_bits (fun g => decide (nI (s_farO F g) ≤ eI (s_mr F (F 3)))) m)), .int (nI m), v3] [] μ w (x_p (some (.int (nI (s_bits (fun g => decide (nI (s_farO F g) ≤ eI (s_mr F (F 3)))) (F 4))))) μ w) := by
    intro n4
    induction n4 with
    | zero =>
      intro m v3 hmn
      obtain rfl : F 4 = m := by omega
      refine xt_iload_n _ dX12_heard_4 rfl ?_
      refine xt_aload_n _ dX12_heard_5 rfl ?_
      refine xt_geti dX12_heard_6 kfX12_251 (by first | exact sh152 | rfl | assumption) rfl ?_
      refine xt_icmp_ge 60 dX12_heard_9 (by decide) (fun _ => ?_) (fun q => absurd (by rw [e4]; exact Int32.le_refl _) q)
      refine xt_iload_n _ dX12_heard_60 rfl ?_
      exact xt_iret .int dX12_heard_61 rfl (by first | rfl | assumption) ⟨rfl, rfl, rfl⟩
    | succ n4 ih4 =>
      intro m v3 hmn
      have hlt : m < F 4 := by omega
      have hfar := s_farO_le hW hlt
      refine xt_iload_n _ dX12_heard_4 rfl ?_
      refine xt_aload_n _ dX12_heard_5 rfl ?_
      refine xt_geti dX12_heard_6 kfX12_251 (by first | exact sh152 | rfl | assumption) rfl ?_
      refine xt_icmp_ge 60 dX12_heard_9 (by decide) (fun q => absurd q (by rw [e4]; exact nI_ge hlt (by omega))) (fun _ => ?_)
      refine xt_iconst (0) dX12_heard_12 (by decide) ?_
      refine xt_istore_n dX12_heard_13 (by decide) rfl ?_
      change x_T _ _ _ _ [_, _, _, _] _ _ _ _
      have L14 : ∀ (n14 j : Nat) , j + n14 = F 3 → x_T sc (d + 2) mX12_heard 14 [.ref 152, .int (nI (s_bits (fun g => decide (nI (s_farO F g) ≤ eI (s_mr F (F 3)))) m + (if s_farO F m < s_mr F j then 2 ^ m else 0))), .int (nI m), .int (nI j)] [] μ w (x_p (some (.int (nI (s_bits (fun g => decide (nI (s_farO F g) ≤ eI (s_mr F (F 3)))) (F 4))))) μ w) := by
        intro n14
        induction n14 with
        | zero =>
          intro j  hmn
          obtain rfl : F 3 = j := by omega
          refine xt_iload_n _ dX12_heard_14 rfl ?_
          refine xt_aload_n _ dX12_heard_15 rfl ?_
          refine xt_geti dX12_heard_16 kfX12_248 (by first | exact sh152 | rfl | assumption) rfl ?_
          refine xt_icmp_ge 54 dX12_heard_19 (by decide) (fun _ => ?_) (fun q => absurd (by rw [e3]; exact Int32.le_refl _) q)
          refine xt_inc _ (1) dX12_heard_54 rfl (by decide) (by decide) rfl ?_
          change x_T _ _ _ _ [_, _, _, _] _ _ _ _
          refine xt_goto 4 dX12_heard_57 (by decide) ?_
          refine x_T.ls ?_ (ih4 (m + 1) (.int (nI (F 3))) (by omega))
          have hmr := s_mr_le hW (F 3) (Nat.le_refl _)
          by_cases hq : s_farO F m < s_mr F (F 3)
          · rw [if_pos hq, show s_bits (fun g => decide (nI (s_farO F g) ≤ eI (s_mr F (F 3)))) (m + 1) = s_bits (fun g => decide (nI (s_farO F g) ≤ eI (s_mr F (F 3)))) m + 2 ^ m by rw [s_bits, if_pos (decide_eq_true ((eI_lt (by omega) (by omega)).mpr hq))], nI_succ m]
          · rw [if_neg hq, show s_bits (fun g => decide (nI (s_farO F g) ≤ eI (s_mr F (F 3)))) (m + 1) = s_bits (fun g => decide (nI (s_farO F g) ≤ eI (s_mr F (F 3)))) m + 0 by rw [s_bits, if_neg (by rw [decide_eq_true_eq, eI_lt (by omega) (by omega)]; exact hq)], nI_succ m]
        | succ n14 ih14 =>
          intro j  hmn
          have hlt_j : j < F 3 := by omega
          have hr := (hW.2.1 j hlt_j).2.1
          refine xt_iload_n _ dX12_heard_14 rfl ?_
          refine xt_aload_n _ dX12_heard_15 rfl ?_
          refine xt_geti dX12_heard_16 kfX12_248 (by first | exact sh152 | rfl | assumption) rfl ?_
          refine xt_icmp_ge 54 dX12_heard_19 (by decide) (fun q => absurd q (by rw [e3]; exact nI_ge hlt_j (by omega))) (fun _ => ?_)
          refine xt_iload_n _ dX12_heard_22 rfl ?_
          refine xt_aload_n _ dX12_heard_23 rfl ?_
          refine xt_iload_n _ dX12_heard_24 rfl ?_
          refine xt_cV _ dX12_heard_25 klX12_294 (tX12_fromStand sc _ μ _ f F hS hW m hlt) sh152 rfl rfl (Nat.le_of_ble_eq_true rfl) ?_
          refine xt_aload_n _ dX12_heard_28 rfl ?_
          refine xt_bipush (13) dX12_heard_29 (by decide) ?_
          refine xt_iload_n _ dX12_heard_31 rfl ?_
          refine xt_iadd dX12_heard_32 ?_
          rw [show (13 : Int32) + nI j = nI (13 + j) from nI_add 13 j]
          refine xt_cV _ dX12_heard_33 klX12_244 (tX12_of sc _ μ _ f (13 + j) (by have := hS.1.1; omega) (by omega) hS.1.2.1) sh152 rfl rfl (Nat.le_of_ble_eq_true rfl) ?_
          rw [hS.2.2.2 (13 + j) (by omega) (by omega)]
          refine xt_icmp_gt 45 dX12_heard_36 (by decide) (fun t36 => ?_) (fun f36 => ?_)
          · refine xt_iconst (0) dX12_heard_45 (by decide) ?_
            refine xt_ior dX12_heard_46 ?_
            refine xt_istore_n dX12_heard_47 (by decide) rfl ?_
            change x_T _ _ _ _ [_, _, _, _] _ _ _ _
            refine xt_inc _ (1) dX12_heard_48 rfl (by decide) (by decide) rfl ?_
            change x_T _ _ _ _ [_, _, _, _] _ _ _ _
            refine xt_goto 14 dX12_heard_51 (by decide) ?_
            refine x_T.ls ?_ (ih14 (j + 1) (by omega))
            rw [nI_ltI (by omega) (by omega)] at t36
            rw [Int32.or_zero, show s_mr F (j + 1) = max (s_mr F j) (F (13 + j) + 1) from rfl, nI_succ j]
            by_cases hq : s_farO F m < s_mr F j
            · rw [if_pos hq, if_pos (by omega)]
            · rw [if_neg hq, if_neg (by omega)]
          · refine xt_iconst (1) dX12_heard_39 (by decide) ?_
            refine xt_iload_n _ dX12_heard_40 rfl ?_
            refine xt_ishl dX12_heard_41 ?_
            refine xt_goto 46 dX12_heard_42 (by decide) ?_
            refine xt_ior dX12_heard_46 ?_
            refine xt_istore_n dX12_heard_47 (by decide) rfl ?_
            change x_T _ _ _ _ [_, _, _, _] _ _ _ _
            refine xt_inc _ (1) dX12_heard_48 rfl (by decide) (by decide) rfl ?_
            change x_T _ _ _ _ [_, _, _, _] _ _ _ _
            refine xt_goto 14 dX12_heard_51 (by decide) ?_
            refine x_T.ls ?_ (ih14 (j + 1) (by omega))
            rw [nI_ltI (by omega) (by omega)] at f36
            rw [show s_mr F (j + 1) = max (s_mr F j) (F (13 + j) + 1) from rfl, nI_succ j, if_pos (show s_farO F m < max (s_mr F j) (F (13 + j) + 1) by omega)]
            by_cases hq : s_farO F m < s_mr F j
            · rw [if_pos hq, s_or1 (s_bits_lt _ _) (by omega)]
            · rw [if_neg hq, Nat.add_zero, s_or0 (s_bits_lt _ _) (by omega)]
      exact L14 (F 3) 0  (by omega)
  exact L4 (F 4) 0 _ (by omega)
set_option maxHeartbeats 1000000 in
theorem tX12_idle (f : Nat) (F : Nat → Nat) (hS : m_S μ f F) (hW : f_W F) (h0 : μ 152 34 = 0 ∧ μ 152 35 = 0 ∧ μ 152 36 = 0) : x_K sc (d + 5) mX12_idle [.ref 152] μ w (x_p (some (.int (nI (s_bits (fun m => decide (s_offs F (fun j => decide (j = m)) = s_offs F (fun _ => false))) (F 3))))) μ w) := by
  have h8 : F 4 ≤ 8 := hW.1.2.2.2.2.1
  have h6 : F 3 ≤ 6 := hW.1.2.2.2.1
  have e3 : μ 152 23 = nI (F 3) := hS.1.2.2.1
  refine x_K.of (by decide) (Nat.le_of_ble_eq_true rfl) ?_
  show x_T sc (d + 5) mX12_idle 0 [.ref 152, .retAddr 0, .retAddr 0, .retAddr 0] [] μ w _
  refine xt_aload_n _ dX12_idle_0 rfl ?_
  refine xt_cV _ dX12_idle_1 klX12_322 (tX12_offenders sc _ μ w f F hS hW 0 (fun _ => false) s_strM0 0 0 (by decide) (by decide) h0.1 h0.2.1 h0.2.2) sh152 rfl rfl (Nat.le_of_ble_eq_true rfl) ?_
  rw [s_any_offs]
  refine xt_istore_n dX12_idle_4 (by decide) rfl ?_
  change x_T _ _ _ _ [_, _, _, _] _ _ _ _
  refine xt_iconst (0) dX12_idle_5 (by decide) ?_
  refine xt_istore_n dX12_idle_6 (by decide) rfl ?_
  change x_T _ _ _ _ [_, _, _, _] _ _ _ _
  refine xt_iconst (0) dX12_idle_7 (by decide) ?_
  refine xt_istore_n dX12_idle_8 (by decide) rfl ?_
  change x_T _ _ _ _ [_, _, _, _] _ _ _ _
  have L9 : ∀ (n9 m : Nat) , m + n9 = F 3 → x_T sc (d + 5) mX12_idle 9 [.ref 152, .int (nI (s_offs F (fun _ => false))), .int (nI (s_bits (fun m => decide (s_offs F (fun j => decide (j = m)) = s_offs F (fun _ => false))) m)), .int (nI m)] [] μ w (x_p (some (.int (nI (s_bits (fun m => decide (s_offs F (fun j => decide (j = m)) = s_offs F (fun _ => false))) (F 3))))) μ w) := by
    intro n9
    induction n9 with
    | zero =>
      intro m  hmn
      obtain rfl : F 3 = m := by omega
      refine xt_iload_n _ dX12_idle_9 rfl ?_
      refine xt_aload_n _ dX12_idle_10 rfl ?_
      refine xt_geti dX12_idle_11 kfX12_248 (by first | exact sh152 | rfl | assumption) rfl ?_
      refine xt_icmp_ge 44 dX12_idle_14 (by decide) (fun _ => ?_) (fun q => absurd (by rw [e3]; exact Int32.le_refl _) q)
      refine xt_iload_n _ dX12_idle_44 rfl ?_
      exact xt_iret .int dX12_idle_45 rfl (by first | rfl | assumption) ⟨rfl, rfl, rfl⟩
    | succ n9 ih9 =>
      intro m  hmn
      have hlt : m < F 3 := by omega
      have ho1 := s_offs_lt hW (fun j => decide (j = m))
      have ho2 := s_offs_lt hW (fun _ => false)
      refine xt_iload_n _ dX12_idle_9 rfl ?_
      refine xt_aload_n _ dX12_idle_10 rfl ?_
      refine xt_geti dX12_idle_11 kfX12_248 (by first | exact sh152 | rfl | assumption) rfl ?_
      refine xt_icmp_ge 44 dX12_idle_14 (by decide) (fun q => absurd q (by rw [e3]; exact nI_ge hlt (by omega))) (fun _ => ?_)
      refine xt_iload_n _ dX12_idle_17 rfl ?_
      refine xt_aload_n _ dX12_idle_18 rfl ?_
      refine xt_iconst (1) dX12_idle_19 (by decide) ?_
      refine xt_iload_n _ dX12_idle_20 rfl ?_
      refine xt_ishl dX12_idle_21 ?_
      refine xt_cV _ dX12_idle_22 klX12_477 (tX12_offendersBut sc _ μ _ f F hS hW h0.1 h0.2.1 h0.2.2 _ _ (s_strMO m (by omega))) sh152 rfl rfl (Nat.le_of_ble_eq_true rfl) ?_
      refine xt_iload_n _ dX12_idle_25 rfl ?_
      refine xt_icmp_ne 35 dX12_idle_26 (by decide) (fun t26 => ?_) (fun f26 => ?_)
      · refine xt_iconst (0) dX12_idle_35 (by decide) ?_
        refine xt_ior dX12_idle_36 ?_
        refine xt_istore_n dX12_idle_37 (by decide) rfl ?_
        change x_T _ _ _ _ [_, _, _, _] _ _ _ _
        refine xt_inc _ (1) dX12_idle_38 rfl (by decide) (by decide) rfl ?_
        change x_T _ _ _ _ [_, _, _, _] _ _ _ _
        refine xt_goto 9 dX12_idle_41 (by decide) ?_
        refine x_T.ls ?_ (ih9 (m + 1) (by omega))
        rw [s_bits_no (p := (fun m => decide (s_offs F (fun j => decide (j = m)) = s_offs F (fun _ => false)))) (decide_eq_false (fun z => t26 (by rw [z]))), nI_succ m, Int32.or_zero]
      · refine xt_iconst (1) dX12_idle_29 (by decide) ?_
        refine xt_iload_n _ dX12_idle_30 rfl ?_
        refine xt_ishl dX12_idle_31 ?_
        refine xt_goto 36 dX12_idle_32 (by decide) ?_
        refine xt_ior dX12_idle_36 ?_
        refine xt_istore_n dX12_idle_37 (by decide) rfl ?_
        change x_T _ _ _ _ [_, _, _, _] _ _ _ _
        refine xt_inc _ (1) dX12_idle_38 rfl (by decide) (by decide) rfl ?_
        change x_T _ _ _ _ [_, _, _, _] _ _ _ _
        refine xt_goto 9 dX12_idle_41 (by decide) ?_
        refine x_T.ls ?_ (ih9 (m + 1) (by omega))
        rw [← s_bits_or (p := (fun m => decide (s_offs F (fun j => decide (j = m)) = s_offs F (fun _ => false)))) (g := m) (by omega) (decide_eq_true ((nI_eq (by omega) (by omega)).mp f26)), nI_succ m]
  exact L9 (F 3) 0  (by omega)
set_option maxHeartbeats 1000000 in
theorem tX12_broad (f : Nat) (F : Nat → Nat) (hS : m_S μ f F) (hW : f_W F) (h0 : μ 152 34 = 0 ∧ μ 152 35 = 0 ∧ μ 152 36 = 0) (u : Int32) : x_K sc (d + 5) mX12_broad [.ref 152, .int u] μ w (x_p (some (.int (if u = 0 then eI (s_ax (s_by F) (F 3)).1 else nI ((s_ax (s_by F) (F 3)).2 - 1)))) μ w) := by
  have h8 : F 4 ≤ 8 := hW.1.2.2.2.2.1
  have h6 : F 3 ≤ 6 := hW.1.2.2.2.1
  have e3 : μ 152 23 = nI (F 3) := hS.1.2.2.1
  refine x_K.of (by decide) (Nat.le_of_ble_eq_true rfl) ?_
  show x_T sc (d + 5) mX12_broad 0 [.ref 152, .int u, .retAddr 0, .retAddr 0, .retAddr 0, .retAddr 0] [] μ w _
  refine xt_iconst (-1) dX12_broad_0 (by decide) ?_
  refine xt_istore_n dX12_broad_1 (by decide) rfl ?_
  change x_T _ _ _ _ [_, _, _, _, _, _] _ _ _ _
  refine xt_iconst (-1) dX12_broad_2 (by decide) ?_
  refine xt_istore_n dX12_broad_3 (by decide) rfl ?_
  change x_T _ _ _ _ [_, _, _, _, _, _] _ _ _ _
  refine xt_iconst (0) dX12_broad_4 (by decide) ?_
  refine xt_istore dX12_broad_5 (by decide) rfl ?_
  change x_T _ _ _ _ [_, _, _, _, _, _] _ _ _ _
  have L7 : ∀ (n7 m : Nat) (v5 : Value), m + n7 = F 3 → x_T sc (d + 5) mX12_broad 7 [.ref 152, .int u, .int (eI (s_ax (s_by F) m).1), .int (eI (s_ax (s_by F) m).2), .int (nI m), v5] [] μ w (x_p (some (.int (if u = 0 then eI (s_ax (s_by F) (F 3)).1 else nI ((s_ax (s_by F) (F 3)).2 - 1)))) μ w) := by
    intro n7
    induction n7 with
    | zero =>
      intro m v5 hmn
      obtain rfl : F 3 = m := by omega
      have hax := s_ax_le (v := s_by F) (c := 8) (F 3) (fun i hi => s_by_le hW i)
      refine xt_iload _ dX12_broad_7 rfl ?_
      refine xt_aload_n _ dX12_broad_9 rfl ?_
      refine xt_geti dX12_broad_10 kfX12_248 (by first | exact sh152 | rfl | assumption) rfl ?_
      refine xt_icmp_ge 60 dX12_broad_13 (by decide) (fun _ => ?_) (fun q => absurd (by rw [e3]; exact Int32.le_refl _) q)
      refine xt_iload_n _ dX12_broad_60 rfl ?_
      refine xt_if_eq 72 dX12_broad_61 (by decide) (fun t61 => ?_) (fun f61 => ?_)
      · refine xt_iload_n _ dX12_broad_72 rfl ?_
        exact xt_iret .int dX12_broad_73 rfl (by first | rfl | assumption) ⟨by rw [if_pos t61], rfl, rfl⟩
      · refine xt_iconst (0) dX12_broad_64 (by decide) ?_
        refine xt_iload_n _ dX12_broad_65 rfl ?_
        refine xt_cS _ dX12_broad_66 klX12_153 (tX12_greater sc _ μ _ _ _) rfl rfl (Nat.le_of_ble_eq_true rfl) ?_
        refine xt_goto 73 dX12_broad_69 (by decide) ?_
        exact xt_iret .int dX12_broad_73 rfl (by first | rfl | assumption) ⟨by rw [if_neg f61, s_gr0 (by omega)], rfl, rfl⟩
    | succ n7 ih7 =>
      intro m v5 hmn
      have hlt : m < F 3 := by omega
      have hax := s_ax_le (v := s_by F) (c := 8) m (fun i hi => s_by_le hW i)
      have hby := s_by_le hW m
      refine xt_iload _ dX12_broad_7 rfl ?_
      refine xt_aload_n _ dX12_broad_9 rfl ?_
      refine xt_geti dX12_broad_10 kfX12_248 (by first | exact sh152 | rfl | assumption) rfl ?_
      refine xt_icmp_ge 60 dX12_broad_13 (by decide) (fun q => absurd q (by rw [e3]; exact nI_ge hlt (by omega))) (fun _ => ?_)
      refine xt_aload_n _ dX12_broad_16 rfl ?_
      refine xt_bipush (63) dX12_broad_17 (by decide) ?_
      refine xt_iconst (1) dX12_broad_19 (by decide) ?_
      refine xt_iload _ dX12_broad_20 rfl ?_
      refine xt_ishl dX12_broad_22 ?_
      refine xt_iconst (-1) dX12_broad_23 (by decide) ?_
      refine xt_ixor dX12_broad_24 ?_
      refine xt_iand dX12_broad_25 ?_
      refine xt_cV _ dX12_broad_26 klX12_477 (tX12_offendersBut sc _ μ _ f F hS hW h0.1 h0.2.1 h0.2.2 _ _ (s_strMB m (by omega))) sh152 rfl rfl (Nat.le_of_ble_eq_true rfl) ?_
      refine xt_cS _ dX12_broad_29 klX12_412 (tX12_ones sc _ μ _ _ (s_offs_lt hW _)) rfl rfl (Nat.le_of_ble_eq_true rfl) ?_
      rw [show s_cnt (fun i => (s_offs F (fun j => decide (j ≠ m))).testBit i) 8 = s_by F m from s_pop_bits _ h8]
      refine xt_istore dX12_broad_32 (by decide) rfl ?_
      change x_T _ _ _ _ [_, _, _, _, _, _] _ _ _ _
      refine xt_iload _ dX12_broad_34 rfl ?_
      refine xt_iload_n _ dX12_broad_36 rfl ?_
      refine xt_icmp_le 45 dX12_broad_37 (by decide) (fun t37 => ?_) (fun f37 => ?_)
      · refine xt_iload_n _ dX12_broad_45 rfl ?_
        refine xt_istore_n dX12_broad_46 (by decide) rfl ?_
        change x_T _ _ _ _ [_, _, _, _, _, _] _ _ _ _
        refine xt_iload_n _ dX12_broad_47 rfl ?_
        refine xt_iload _ dX12_broad_48 rfl ?_
        refine xt_cS _ dX12_broad_50 klX12_153 (tX12_greater sc _ μ _ _ _) rfl rfl (Nat.le_of_ble_eq_true rfl) ?_
        refine xt_istore_n dX12_broad_53 (by decide) rfl ?_
        change x_T _ _ _ _ [_, _, _, _, _, _] _ _ _ _
        refine xt_inc _ (1) dX12_broad_54 rfl (by decide) (by decide) rfl ?_
        change x_T _ _ _ _ [_, _, _, _, _, _] _ _ _ _
        refine xt_goto 7 dX12_broad_57 (by decide) ?_
        refine x_T.ls ?_ (ih7 (m + 1) (.int (nI (s_by F m))) (by omega))
        rw [s_gr_eI (by omega) (by omega)]
        rw [eI_lt (by omega) (by omega)] at t37
        rw [s_ax_n (v := s_by F) (n := m) (by omega), nI_succ m, Nat.max_eq_left (by omega)]
      · refine xt_iload _ dX12_broad_40 rfl ?_
        refine xt_goto 46 dX12_broad_42 (by decide) ?_
        refine xt_istore_n dX12_broad_46 (by decide) rfl ?_
        change x_T _ _ _ _ [_, _, _, _, _, _] _ _ _ _
        refine xt_iload_n _ dX12_broad_47 rfl ?_
        refine xt_iload _ dX12_broad_48 rfl ?_
        refine xt_cS _ dX12_broad_50 klX12_153 (tX12_greater sc _ μ _ _ _) rfl rfl (Nat.le_of_ble_eq_true rfl) ?_
        refine xt_istore_n dX12_broad_53 (by decide) rfl ?_
        change x_T _ _ _ _ [_, _, _, _, _, _] _ _ _ _
        refine xt_inc _ (1) dX12_broad_54 rfl (by decide) (by decide) rfl ?_
        change x_T _ _ _ _ [_, _, _, _, _, _] _ _ _ _
        refine xt_goto 7 dX12_broad_57 (by decide) ?_
        refine x_T.ls ?_ (ih7 (m + 1) (.int (nI (s_by F m))) (by omega))
        rw [s_gr_eI (by omega) (by omega)]
        rw [eI_lt (by omega) (by omega)] at f37
        rw [s_ax_y (v := s_by F) (n := m) (by omega), nI_succ m, Nat.max_eq_right (by omega)]
        simp only [eI_s]
  exact L7 (F 3) 0 _ (by omega)
set_option maxHeartbeats 1000000 in
theorem tX12_between (f : Nat) (F : Nat → Nat) (hS : m_S μ f F) (hW : f_W F) (a b : Nat) (ha : a < F 4) (hb : b < F 4) : x_K sc (d + 1) mX12_between [.ref 152, .int (nI a), .int (nI b)] μ w (x_p (some (.int (nI (s_bt F a b)))) μ w) := by
  have h8 : F 4 ≤ 8 := hW.1.2.2.2.2.1
  have hA := hS.2.1 a (by omega)
  have hB := hS.2.1 b (by omega)
  have hwa := hW.2.2.1 a ha
  have hwb := hW.2.2.1 b hb
  refine x_K.of (by decide) (Nat.le_of_ble_eq_true rfl) ?_
  show x_T sc (d + 1) mX12_between 0 [.ref 152, .int (nI a), .int (nI b)] [] μ w _
  refine xt_aload_n _ dX12_between_0 rfl ?_
  refine xt_getr _ dX12_between_1 kfX12_41 (by first | exact sh152 | rfl | assumption) rfl ?_
  refine xt_iload_n _ dX12_between_4 rfl ?_
  refine xt_ald dX12_between_5 (by first | exact sh152 | rfl | assumption) (by exact vp_in_nI (by omega) (by decide)) ?_
  refine xt_aload_n _ dX12_between_6 rfl ?_
  refine xt_getr _ dX12_between_7 kfX12_44 (by first | exact sh152 | rfl | assumption) rfl ?_
  refine xt_iload_n _ dX12_between_10 rfl ?_
  refine xt_ald dX12_between_11 (by first | exact sh152 | rfl | assumption) (by exact vp_in_nI (by omega) (by decide)) ?_
  refine xt_aload_n _ dX12_between_12 rfl ?_
  refine xt_getr _ dX12_between_13 kfX12_41 (by first | exact sh152 | rfl | assumption) rfl ?_
  refine xt_iload_n _ dX12_between_16 rfl ?_
  refine xt_ald dX12_between_17 (by first | exact sh152 | rfl | assumption) (by exact vp_in_nI (by omega) (by decide)) ?_
  refine xt_aload_n _ dX12_between_18 rfl ?_
  refine xt_getr _ dX12_between_19 kfX12_44 (by first | exact sh152 | rfl | assumption) rfl ?_
  refine xt_iload_n _ dX12_between_22 rfl ?_
  refine xt_ald dX12_between_23 (by first | exact sh152 | rfl | assumption) (by exact vp_in_nI (by omega) (by decide)) ?_
  refine xt_cS _ dX12_between_24 klX12_290 (tX12_way sc _ μ _ _ _ _ _) rfl rfl (Nat.le_of_ble_eq_true rfl) ?_
  rw [nI_clamp (by omega), nI_clamp (by omega), hA.1, hA.2, hB.1, hB.2, s_way_nI (by omega) (by omega) (by omega) (by omega), ← s_ab (F (25 + a)), ← s_ab (F (33 + a))]
  change x_T _ _ _ _ _ (.int (nI (s_bt F a b)) :: _) _ _ _
  exact xt_iret .int dX12_between_27 rfl (by first | rfl | assumption) ⟨rfl, rfl, rfl⟩
set_option maxHeartbeats 1000000 in
theorem tX12_fromJoined (f : Nat) (F : Nat → Nat) (hS : m_S μ f F) (hW : f_W F) (g J : Nat) (hg : g < F 4) (hJ : J < 256) : x_K sc (d + 2) mX12_fromJoined [.ref 152, .int (nI g), .int (nI J)] μ w (x_p (some (.int (nI (s_nr F J g (F 4))))) μ w) := by
  have h8 : F 4 ≤ 8 := hW.1.2.2.2.2.1
  have e4 : μ 152 24 = nI (F 4) := hS.1.2.2.2.1
  refine x_K.of (by decide) (Nat.le_of_ble_eq_true rfl) ?_
  show x_T sc (d + 2) mX12_fromJoined 0 [.ref 152, .int (nI g), .int (nI J), .retAddr 0, .retAddr 0] [] μ w _
  refine xt_aload_n _ dX12_fromJoined_0 rfl ?_
  refine xt_iload_n _ dX12_fromJoined_1 rfl ?_
  refine xt_cV _ dX12_fromJoined_2 klX12_294 (tX12_fromStand sc _ μ _ f F hS hW g hg) sh152 rfl rfl (Nat.le_of_ble_eq_true rfl) ?_
  refine xt_istore_n dX12_fromJoined_5 (by decide) rfl ?_
  change x_T _ _ _ _ [_, _, _, _, _] _ _ _ _
  refine xt_iconst (0) dX12_fromJoined_6 (by decide) ?_
  refine xt_istore dX12_fromJoined_7 (by decide) rfl ?_
  change x_T _ _ _ _ [_, _, _, _, _] _ _ _ _
  have L9 : ∀ (n9 m : Nat) , m + n9 = F 4 → x_T sc (d + 2) mX12_fromJoined 9 [.ref 152, .int (nI g), .int (nI J), .int (nI (s_nr F J g m)), .int (nI m)] [] μ w (x_p (some (.int (nI (s_nr F J g (F 4))))) μ w) := by
    intro n9
    induction n9 with
    | zero =>
      intro m  hmn
      obtain rfl : F 4 = m := by omega
      refine xt_iload _ dX12_fromJoined_9 rfl ?_
      refine xt_aload_n _ dX12_fromJoined_11 rfl ?_
      refine xt_geti dX12_fromJoined_12 kfX12_251 (by first | exact sh152 | rfl | assumption) rfl ?_
      refine xt_icmp_ge 49 dX12_fromJoined_15 (by decide) (fun _ => ?_) (fun q => absurd (by rw [e4]; exact Int32.le_refl _) q)
      refine xt_iload_n _ dX12_fromJoined_49 rfl ?_
      exact xt_iret .int dX12_fromJoined_50 rfl (by first | rfl | assumption) ⟨rfl, rfl, rfl⟩
    | succ n9 ih9 =>
      intro m  hmn
      have hlt : m < F 4 := by omega
      have hnr := s_nr_le hW J hg m
      have hbt := s_bt_le hW hg hlt
      refine xt_iload _ dX12_fromJoined_9 rfl ?_
      refine xt_aload_n _ dX12_fromJoined_11 rfl ?_
      refine xt_geti dX12_fromJoined_12 kfX12_251 (by first | exact sh152 | rfl | assumption) rfl ?_
      refine xt_icmp_ge 49 dX12_fromJoined_15 (by decide) (fun q => absurd q (by rw [e4]; exact nI_ge hlt (by omega))) (fun _ => ?_)
      refine xt_iload_n _ dX12_fromJoined_18 rfl ?_
      refine xt_iload _ dX12_fromJoined_19 rfl ?_
      refine xt_cS _ dX12_fromJoined_21 klX12_76 (tX12_has sc _ μ _ _ _) rfl rfl (Nat.le_of_ble_eq_true rfl) ?_
      refine xt_if_eq 41 dX12_fromJoined_24 (by decide) (fun t24 => ?_) (fun f24 => ?_)
      · refine xt_iload_n _ dX12_fromJoined_41 rfl ?_
        refine xt_istore_n dX12_fromJoined_42 (by decide) rfl ?_
        change x_T _ _ _ _ [_, _, _, _, _] _ _ _ _
        refine xt_inc _ (1) dX12_fromJoined_43 rfl (by decide) (by decide) rfl ?_
        change x_T _ _ _ _ [_, _, _, _, _] _ _ _ _
        refine xt_goto 9 dX12_fromJoined_46 (by decide) ?_
        refine x_T.ls ?_ (ih9 (m + 1) (by omega))
        rw [s_has_nI J hJ m (by omega)] at t24
        have hb : J.testBit m = false := by cases hq : J.testBit m <;> simp_all
        rw [show s_nr F J g (m + 1) = s_nr F J g m by rw [s_nr, hb]; rfl, nI_succ m]
      · refine xt_iload_n _ dX12_fromJoined_27 rfl ?_
        refine xt_aload_n _ dX12_fromJoined_28 rfl ?_
        refine xt_iload_n _ dX12_fromJoined_29 rfl ?_
        refine xt_iload _ dX12_fromJoined_30 rfl ?_
        refine xt_cV _ dX12_fromJoined_32 klX12_480 (tX12_between sc _ μ _ f F hS hW g m (by omega) (by omega)) sh152 rfl rfl (Nat.le_of_ble_eq_true rfl) ?_
        refine xt_cS _ dX12_fromJoined_35 klX12_209 (tX12_lesser sc _ μ _ _ _) rfl rfl (Nat.le_of_ble_eq_true rfl) ?_
        refine xt_goto 42 dX12_fromJoined_38 (by decide) ?_
        refine xt_istore_n dX12_fromJoined_42 (by decide) rfl ?_
        change x_T _ _ _ _ [_, _, _, _, _] _ _ _ _
        refine xt_inc _ (1) dX12_fromJoined_43 rfl (by decide) (by decide) rfl ?_
        change x_T _ _ _ _ [_, _, _, _, _] _ _ _ _
        refine xt_goto 9 dX12_fromJoined_46 (by decide) ?_
        refine x_T.ls ?_ (ih9 (m + 1) (by omega))
        rw [s_has_nI J hJ m (by omega)] at f24
        have hb : J.testBit m = true := by cases hq : J.testBit m <;> simp_all
        rw [s_le_nI (by omega) (by omega), show s_nr F J g (m + 1) = min (s_nr F J g m) (s_bt F g m) by rw [s_nr, hb]; rfl, nI_succ m]
  exact L9 (F 4) 0  (by omega)
set_option maxHeartbeats 2000000 in
theorem tX12_tree (f : Nat) (F : Nat → Nat) (hS : m_S μ f F) (hW : f_W F) : x_K sc (d + 3) mX12_tree [.ref 152] μ w (x_p (some (.int (nI (s_tr F (F 4)).2))) μ w) := by
  have h8 : F 4 ≤ 8 := hW.1.2.2.2.2.1
  have e4 : μ 152 24 = nI (F 4) := hS.1.2.2.2.1
  refine x_K.of (by decide) (Nat.le_of_ble_eq_true rfl) ?_
  show x_T sc (d + 3) mX12_tree 0 [.ref 152, .retAddr 0, .retAddr 0, .retAddr 0, .retAddr 0, .retAddr 0, .retAddr 0, .retAddr 0] [] μ w _
  refine xt_iconst (0) dX12_tree_0 (by decide) ?_
  refine xt_istore_n dX12_tree_1 (by decide) rfl ?_
  change x_T _ _ _ _ [_, _, _, _, _, _, _, _] _ _ _ _
  refine xt_iconst (0) dX12_tree_2 (by decide) ?_
  refine xt_istore_n dX12_tree_3 (by decide) rfl ?_
  change x_T _ _ _ _ [_, _, _, _, _, _, _, _] _ _ _ _
  refine xt_iconst (0) dX12_tree_4 (by decide) ?_
  refine xt_istore_n dX12_tree_5 (by decide) rfl ?_
  change x_T _ _ _ _ [_, _, _, _, _, _, _, _] _ _ _ _
  have L6 : ∀ (n6 i : Nat) (v4 v5 v6 v7 : Value), i + n6 = F 4 → x_T sc (d + 3) mX12_tree 6 [.ref 152, .int (nI (s_tr F i).1), .int (nI (s_tr F i).2), .int (nI i), v4, v5, v6, v7] [] μ w (x_p (some (.int (nI (s_tr F (F 4)).2))) μ w) := by
    intro n6
    induction n6 with
    | zero =>
      intro i v4 v5 v6 v7 hmn
      obtain rfl : F 4 = i := by omega
      refine xt_iload_n _ dX12_tree_6 rfl ?_
      refine xt_aload_n _ dX12_tree_7 rfl ?_
      refine xt_geti dX12_tree_8 kfX12_251 (by first | exact sh152 | rfl | assumption) rfl ?_
      refine xt_icmp_ge 107 dX12_tree_11 (by decide) (fun _ => ?_) (fun q => absurd (by rw [e4]; exact Int32.le_refl _) q)
      refine xt_iload_n _ dX12_tree_107 rfl ?_
      exact xt_iret .int dX12_tree_108 rfl (by first | rfl | assumption) ⟨rfl, rfl, rfl⟩
    | succ n6 ih6 =>
      intro i v4 v5 v6 v7 hmn
      have hlt_i : i < F 4 := by omega
      obtain ⟨h1, h2, h3⟩ := s_tr_ok hW i (by omega)
      obtain ⟨p1, p2, p3, p4, p5⟩ := s_pk_ok hW h2 (by omega)
      have h256 : 2 ^ F 4 ≤ 256 := Nat.pow_le_pow_right (i := F 4) (j := 8) (by decide) h8
      have hJ : (s_tr F i).1 < 256 := by omega
      refine xt_iload_n _ dX12_tree_6 rfl ?_
      refine xt_aload_n _ dX12_tree_7 rfl ?_
      refine xt_geti dX12_tree_8 kfX12_251 (by first | exact sh152 | rfl | assumption) rfl ?_
      refine xt_icmp_ge 107 dX12_tree_11 (by decide) (fun q => absurd q (by rw [e4]; exact nI_ge hlt_i (by omega))) (fun _ => ?_)
      refine xt_iconst (-1) dX12_tree_14 (by decide) ?_
      refine xt_istore dX12_tree_15 (by decide) rfl ?_
      change x_T _ _ _ _ [_, _, _, _, _, _, _, _] _ _ _ _
      refine xt_ldcw _ dX12_tree_17 kkX12_353 ?_
      refine xt_istore dX12_tree_20 (by decide) rfl ?_
      change x_T _ _ _ _ [_, _, _, _, _, _, _, _] _ _ _ _
      refine xt_iconst (0) dX12_tree_22 (by decide) ?_
      refine xt_istore dX12_tree_23 (by decide) rfl ?_
      change x_T _ _ _ _ [_, _, _, _, _, _, _, _] _ _ _ _
      have L25 : ∀ (n25 m : Nat) (v7 : Value), m + n25 = F 4 → x_T sc (d + 3) mX12_tree 25 [.ref 152, .int (nI (s_tr F i).1), .int (nI (s_tr F i).2), .int (nI i), .int (eI (s_am (fun g => s_nr F (s_tr F i).1 g (F 4)) (fun g => !(s_tr F i).1.testBit g) 1000000 m).1), .int (nI (s_am (fun g => s_nr F (s_tr F i).1 g (F 4)) (fun g => !(s_tr F i).1.testBit g) 1000000 m).2), .int (nI m), v7] [] μ w (x_p (some (.int (nI (s_tr F (F 4)).2))) μ w) := by
        intro n25
        induction n25 with
        | zero =>
          intro m v7 hmn
          obtain rfl : F 4 = m := by omega
          refine xt_iload _ dX12_tree_25 rfl ?_
          refine xt_aload_n _ dX12_tree_27 rfl ?_
          refine xt_geti dX12_tree_28 kfX12_251 (by first | exact sh152 | rfl | assumption) rfl ?_
          refine xt_icmp_ge 89 dX12_tree_31 (by decide) (fun _ => ?_) (fun q => absurd (by rw [e4]; exact Int32.le_refl _) q)
          refine xt_iload_n _ dX12_tree_89 rfl ?_
          refine xt_iconst (1) dX12_tree_90 (by decide) ?_
          refine xt_iload _ dX12_tree_91 rfl ?_
          refine xt_ishl dX12_tree_93 ?_
          refine xt_ior dX12_tree_94 ?_
          refine xt_istore_n dX12_tree_95 (by decide) rfl ?_
          change x_T _ _ _ _ [_, _, _, _, _, _, _, _] _ _ _ _
          refine xt_iload_n _ dX12_tree_96 rfl ?_
          refine xt_iload _ dX12_tree_97 rfl ?_
          refine xt_iadd dX12_tree_99 ?_
          refine xt_istore_n dX12_tree_100 (by decide) rfl ?_
          change x_T _ _ _ _ [_, _, _, _, _, _, _, _] _ _ _ _
          refine xt_inc _ (1) dX12_tree_101 rfl (by decide) (by decide) rfl ?_
          change x_T _ _ _ _ [_, _, _, _, _, _, _, _] _ _ _ _
          refine xt_goto 6 dX12_tree_104 (by decide) ?_
          refine x_T.ls ?_ (ih6 (i + 1) (.int (nI ((s_pk F (s_tr F i).1 19).1 - 1))) (.int (nI (s_pk F (s_tr F i).1 19).2)) (.int (nI (F 4))) v7 (by omega))
          rw [show s_am (fun g => s_nr F (s_tr F i).1 g (F 4)) (fun g => !(s_tr F i).1.testBit g) 1000000 (F 4) = s_pk F (s_tr F i).1 19 from p5, eI_pr p1, show (1 : Int32) <<< (nI ((s_pk F (s_tr F i).1 19).1 - 1) &&& 31) = nI (2 ^ ((s_pk F (s_tr F i).1 19).1 - 1)) from x_bit _ (by omega), nI_or, nI_add, nI_succ i]
          rfl
        | succ n25 ih25 =>
          intro m v7 hmn
          have hlt : m < F 4 := by omega
          have hnr := s_nr_le hW (s_tr F i).1 hlt (F 4)
          have hal := s_am_le (v := (fun g => s_nr F (s_tr F i).1 g (F 4))) (ok := (fun g => !(s_tr F i).1.testBit g)) (lim := 1000000) m
          refine xt_iload _ dX12_tree_25 rfl ?_
          refine xt_aload_n _ dX12_tree_27 rfl ?_
          refine xt_geti dX12_tree_28 kfX12_251 (by first | exact sh152 | rfl | assumption) rfl ?_
          refine xt_icmp_ge 89 dX12_tree_31 (by decide) (fun q => absurd q (by rw [e4]; exact nI_ge hlt (by omega))) (fun _ => ?_)
          refine xt_iload_n _ dX12_tree_34 rfl ?_
          refine xt_iload _ dX12_tree_35 rfl ?_
          refine xt_cS _ dX12_tree_37 klX12_76 (tX12_has sc _ μ _ _ _) rfl rfl (Nat.le_of_ble_eq_true rfl) ?_
          refine xt_if_eq 49 dX12_tree_40 (by decide) (fun t40 => ?_) (fun f40 => ?_)
          · refine xt_aload_n _ dX12_tree_49 rfl ?_
            refine xt_iload _ dX12_tree_50 rfl ?_
            refine xt_iload_n _ dX12_tree_52 rfl ?_
            refine xt_cV _ dX12_tree_53 klX12_483 (tX12_fromJoined sc _ μ _ f F hS hW m (s_tr F i).1 hlt hJ) sh152 rfl rfl (Nat.le_of_ble_eq_true rfl) ?_
            refine xt_istore dX12_tree_56 (by decide) rfl ?_
            change x_T _ _ _ _ [_, _, _, _, _, _, _, _] _ _ _ _
            refine xt_iload _ dX12_tree_58 rfl ?_
            refine xt_iload _ dX12_tree_60 rfl ?_
            refine xt_icmp_ge 70 dX12_tree_62 (by decide) (fun t62 => ?_) (fun f62 => ?_)
            · refine xt_iload _ dX12_tree_70 rfl ?_
              refine xt_istore dX12_tree_72 (by decide) rfl ?_
              change x_T _ _ _ _ [_, _, _, _, _, _, _, _] _ _ _ _
              refine xt_iload _ dX12_tree_74 rfl ?_
              refine xt_iload _ dX12_tree_76 rfl ?_
              refine xt_cS _ dX12_tree_78 klX12_209 (tX12_lesser sc _ μ _ _ _) rfl rfl (Nat.le_of_ble_eq_true rfl) ?_
              refine xt_istore dX12_tree_81 (by decide) rfl ?_
              change x_T _ _ _ _ [_, _, _, _, _, _, _, _] _ _ _ _
              refine xt_inc _ (1) dX12_tree_83 rfl (by decide) (by decide) rfl ?_
              change x_T _ _ _ _ [_, _, _, _, _, _, _, _] _ _ _ _
              refine xt_goto 25 dX12_tree_86 (by decide) ?_
              rw [s_has_nI _ hJ m (by omega)] at t40
              have hb : (s_tr F i).1.testBit m = false := by cases hq : (s_tr F i).1.testBit m <;> simp_all
              refine x_T.ls ?_ (ih25 (m + 1) (.int (nI (s_nr F (s_tr F i).1 m (F 4)))) (by omega))
              rw [s_le_nI (by omega) (by omega)]
              rw [nI_leI (by omega) (by omega)] at t62
              have es : s_am (fun g => s_nr F (s_tr F i).1 g (F 4)) (fun g => !(s_tr F i).1.testBit g) 1000000 (m + 1) = s_am (fun g => s_nr F (s_tr F i).1 g (F 4)) (fun g => !(s_tr F i).1.testBit g) 1000000 m := s_am_n2 (v := (fun g => s_nr F (s_tr F i).1 g (F 4))) (ok := (fun g => !(s_tr F i).1.testBit g)) (by show (s_am (fun g => s_nr F (s_tr F i).1 g (F 4)) (fun g => !(s_tr F i).1.testBit g) 1000000 m).2 ≤ s_nr F (s_tr F i).1 m (F 4); omega)
              rw [es, nI_succ m, Nat.min_eq_left (by omega)]
            · refine xt_iload _ dX12_tree_65 rfl ?_
              refine xt_goto 72 dX12_tree_67 (by decide) ?_
              refine xt_istore dX12_tree_72 (by decide) rfl ?_
              change x_T _ _ _ _ [_, _, _, _, _, _, _, _] _ _ _ _
              refine xt_iload _ dX12_tree_74 rfl ?_
              refine xt_iload _ dX12_tree_76 rfl ?_
              refine xt_cS _ dX12_tree_78 klX12_209 (tX12_lesser sc _ μ _ _ _) rfl rfl (Nat.le_of_ble_eq_true rfl) ?_
              refine xt_istore dX12_tree_81 (by decide) rfl ?_
              change x_T _ _ _ _ [_, _, _, _, _, _, _, _] _ _ _ _
              refine xt_inc _ (1) dX12_tree_83 rfl (by decide) (by decide) rfl ?_
              change x_T _ _ _ _ [_, _, _, _, _, _, _, _] _ _ _ _
              refine xt_goto 25 dX12_tree_86 (by decide) ?_
              rw [s_has_nI _ hJ m (by omega)] at t40
              have hb : (s_tr F i).1.testBit m = false := by cases hq : (s_tr F i).1.testBit m <;> simp_all
              refine x_T.ls ?_ (ih25 (m + 1) (.int (nI (s_nr F (s_tr F i).1 m (F 4)))) (by omega))
              rw [s_le_nI (by omega) (by omega)]
              rw [nI_leI (by omega) (by omega)] at f62
              have es : s_am (fun g => s_nr F (s_tr F i).1 g (F 4)) (fun g => !(s_tr F i).1.testBit g) 1000000 (m + 1) = (m + 1, s_nr F (s_tr F i).1 m (F 4)) := s_am_y (v := (fun g => s_nr F (s_tr F i).1 g (F 4))) (ok := (fun g => !(s_tr F i).1.testBit g)) (by simp [hb]) (by show s_nr F (s_tr F i).1 m (F 4) < (s_am (fun g => s_nr F (s_tr F i).1 g (F 4)) (fun g => !(s_tr F i).1.testBit g) 1000000 m).2; omega)
              rw [es, nI_succ m, Nat.min_eq_right (by omega)]
              simp only [eI_s]
          · refine xt_ldcw _ dX12_tree_43 kkX12_353 ?_
            refine xt_goto 56 dX12_tree_46 (by decide) ?_
            refine xt_istore dX12_tree_56 (by decide) rfl ?_
            change x_T _ _ _ _ [_, _, _, _, _, _, _, _] _ _ _ _
            refine xt_iload _ dX12_tree_58 rfl ?_
            refine xt_iload _ dX12_tree_60 rfl ?_
            refine xt_icmp_ge 70 dX12_tree_62 (by decide) (fun t62 => ?_) (fun f62 => ?_)
            · refine xt_iload _ dX12_tree_70 rfl ?_
              refine xt_istore dX12_tree_72 (by decide) rfl ?_
              change x_T _ _ _ _ [_, _, _, _, _, _, _, _] _ _ _ _
              refine xt_iload _ dX12_tree_74 rfl ?_
              refine xt_iload _ dX12_tree_76 rfl ?_
              refine xt_cS _ dX12_tree_78 klX12_209 (tX12_lesser sc _ μ _ _ _) rfl rfl (Nat.le_of_ble_eq_true rfl) ?_
              refine xt_istore dX12_tree_81 (by decide) rfl ?_
              change x_T _ _ _ _ [_, _, _, _, _, _, _, _] _ _ _ _
              refine xt_inc _ (1) dX12_tree_83 rfl (by decide) (by decide) rfl ?_
              change x_T _ _ _ _ [_, _, _, _, _, _, _, _] _ _ _ _
              refine xt_goto 25 dX12_tree_86 (by decide) ?_
              rw [s_has_nI _ hJ m (by omega)] at f40
              have hb : (s_tr F i).1.testBit m = true := by cases hq : (s_tr F i).1.testBit m <;> simp_all
              refine x_T.ls ?_ (ih25 (m + 1) (.int 1000000) (by omega))
              have es : s_am (fun g => s_nr F (s_tr F i).1 g (F 4)) (fun g => !(s_tr F i).1.testBit g) 1000000 (m + 1) = s_am (fun g => s_nr F (s_tr F i).1 g (F 4)) (fun g => !(s_tr F i).1.testBit g) 1000000 m := s_am_n1 (v := (fun g => s_nr F (s_tr F i).1 g (F 4))) (ok := (fun g => !(s_tr F i).1.testBit g)) (by simp [hb])
              rw [show (1000000 : Int32) = nI 1000000 from rfl, s_le_nI (by omega) (by omega), es, nI_succ m, Nat.min_eq_left (by omega)]
            · refine xt_iload _ dX12_tree_65 rfl ?_
              refine xt_goto 72 dX12_tree_67 (by decide) ?_
              refine xt_istore dX12_tree_72 (by decide) rfl ?_
              change x_T _ _ _ _ [_, _, _, _, _, _, _, _] _ _ _ _
              refine xt_iload _ dX12_tree_74 rfl ?_
              refine xt_iload _ dX12_tree_76 rfl ?_
              refine xt_cS _ dX12_tree_78 klX12_209 (tX12_lesser sc _ μ _ _ _) rfl rfl (Nat.le_of_ble_eq_true rfl) ?_
              refine xt_istore dX12_tree_81 (by decide) rfl ?_
              change x_T _ _ _ _ [_, _, _, _, _, _, _, _] _ _ _ _
              refine xt_inc _ (1) dX12_tree_83 rfl (by decide) (by decide) rfl ?_
              change x_T _ _ _ _ [_, _, _, _, _, _, _, _] _ _ _ _
              refine xt_goto 25 dX12_tree_86 (by decide) ?_
              exact absurd (nI_le (b := 1000000) hal.1 (by decide)) f62
      exact L25 (F 4) 0 _ (by omega)
  exact L6 (F 4) 0 _ _ _ _ (by omega)
set_option maxHeartbeats 2000000 in
theorem tX12_nearest (f : Nat) (F : Nat → Nat) (hS : m_S μ f F) (hW : f_W F) (u : Int32) : x_K sc (d + 2) mX12_nearest [.ref 152, .int u] μ w (x_p (some (.int (if u = 0 then eI (s_am (s_cv F) (s_ck F) 1000000 (10 * F 4)).1 else if (s_am (s_cv F) (s_ck F) 1000000 (10 * F 4)).1 = 0 then 0 else nI (s_am (s_cv F) (s_ck F) 1000000 (10 * F 4)).2))) μ w) := by
  have h8 : F 4 ≤ 8 := hW.1.2.2.2.2.1
  have e4 : μ 152 24 = nI (F 4) := hS.1.2.2.2.1
  have hcl := (s_am_le (v := s_cv F) (ok := s_ck F) (lim := 1000000) (10 * F 4)).2
  refine x_K.of (by decide) (Nat.le_of_ble_eq_true rfl) ?_
  show x_T sc (d + 2) mX12_nearest 0 [.ref 152, .int u, .retAddr 0, .retAddr 0, .retAddr 0, .retAddr 0] [] μ w _
  refine xt_iconst (-1) dX12_nearest_0 (by decide) ?_
  refine xt_istore_n dX12_nearest_1 (by decide) rfl ?_
  change x_T _ _ _ _ [_, _, _, _, _, _] _ _ _ _
  refine xt_ldcw _ dX12_nearest_2 kkX12_353 ?_
  refine xt_istore_n dX12_nearest_5 (by decide) rfl ?_
  change x_T _ _ _ _ [_, _, _, _, _, _] _ _ _ _
  refine xt_iconst (0) dX12_nearest_6 (by decide) ?_
  refine xt_istore dX12_nearest_7 (by decide) rfl ?_
  change x_T _ _ _ _ [_, _, _, _, _, _] _ _ _ _
  have L9 : ∀ (n9 a : Nat) (v5 : Value), a + n9 = F 4 → x_T sc (d + 2) mX12_nearest 9 [.ref 152, .int u, .int (eI (s_am (s_cv F) (s_ck F) 1000000 (10 * a)).1), .int (nI (s_am (s_cv F) (s_ck F) 1000000 (10 * a)).2), .int (nI a), v5] [] μ w (x_p (some (.int (if u = 0 then eI (s_am (s_cv F) (s_ck F) 1000000 (10 * F 4)).1 else if (s_am (s_cv F) (s_ck F) 1000000 (10 * F 4)).1 = 0 then 0 else nI (s_am (s_cv F) (s_ck F) 1000000 (10 * F 4)).2))) μ w) := by
    intro n9
    induction n9 with
    | zero =>
      intro a v5 hmn
      obtain rfl : F 4 = a := by omega
      refine xt_iload _ dX12_nearest_9 rfl ?_
      refine xt_aload_n _ dX12_nearest_11 rfl ?_
      refine xt_geti dX12_nearest_12 kfX12_251 (by first | exact sh152 | rfl | assumption) rfl ?_
      refine xt_icmp_ge 83 dX12_nearest_15 (by decide) (fun _ => ?_) (fun q => absurd (by rw [e4]; exact Int32.le_refl _) q)
      refine xt_iload_n _ dX12_nearest_83 rfl ?_
      refine xt_if_ne 91 dX12_nearest_84 (by decide) (fun t84 => ?_) (fun f84 => ?_)
      · refine xt_iload_n _ dX12_nearest_91 rfl ?_
        refine xt_iconst (-1) dX12_nearest_92 (by decide) ?_
        refine xt_icmp_ne 100 dX12_nearest_93 (by decide) (fun t93 => ?_) (fun f93 => ?_)
        · refine xt_iload_n _ dX12_nearest_100 rfl ?_
          exact xt_iret .int dX12_nearest_101 rfl (by first | rfl | assumption) ⟨by rw [if_neg t84, if_neg (fun z => t93 ((eI_m1 (by omega)).mpr z))], rfl, rfl⟩
        · refine xt_iconst (0) dX12_nearest_96 (by decide) ?_
          refine xt_goto 101 dX12_nearest_97 (by decide) ?_
          exact xt_iret .int dX12_nearest_101 rfl (by first | rfl | assumption) ⟨by rw [if_neg t84, if_pos ((eI_m1 (by omega)).mp f93)], rfl, rfl⟩
      · refine xt_iload_n _ dX12_nearest_87 rfl ?_
        refine xt_goto 101 dX12_nearest_88 (by decide) ?_
        exact xt_iret .int dX12_nearest_101 rfl (by first | rfl | assumption) ⟨by rw [if_pos f84], rfl, rfl⟩
    | succ n9 ih9 =>
      intro a v5 hmn
      have hlt_a : a < F 4 := by omega
      refine xt_iload _ dX12_nearest_9 rfl ?_
      refine xt_aload_n _ dX12_nearest_11 rfl ?_
      refine xt_geti dX12_nearest_12 kfX12_251 (by first | exact sh152 | rfl | assumption) rfl ?_
      refine xt_icmp_ge 83 dX12_nearest_15 (by decide) (fun q => absurd q (by rw [e4]; exact nI_ge hlt_a (by omega))) (fun _ => ?_)
      refine xt_iload _ dX12_nearest_18 rfl ?_
      refine xt_iconst (1) dX12_nearest_20 (by decide) ?_
      refine xt_iadd dX12_nearest_21 ?_
      refine xt_istore dX12_nearest_22 (by decide) rfl ?_
      change x_T _ _ _ _ [_, _, _, _, _, _] _ _ _ _
      have L24 : ∀ (n24 b : Nat) (hab : a < b), b + n24 = F 4 → x_T sc (d + 2) mX12_nearest 24 [.ref 152, .int u, .int (eI (s_am (s_cv F) (s_ck F) 1000000 (10 * a + b)).1), .int (nI (s_am (s_cv F) (s_ck F) 1000000 (10 * a + b)).2), .int (nI a), .int (nI b)] [] μ w (x_p (some (.int (if u = 0 then eI (s_am (s_cv F) (s_ck F) 1000000 (10 * F 4)).1 else if (s_am (s_cv F) (s_ck F) 1000000 (10 * F 4)).1 = 0 then 0 else nI (s_am (s_cv F) (s_ck F) 1000000 (10 * F 4)).2))) μ w) := by
        intro n24
        induction n24 with
        | zero =>
          intro b hab hmn
          obtain rfl : F 4 = b := by omega
          refine xt_iload _ dX12_nearest_24 rfl ?_
          refine xt_aload_n _ dX12_nearest_26 rfl ?_
          refine xt_geti dX12_nearest_27 kfX12_251 (by first | exact sh152 | rfl | assumption) rfl ?_
          refine xt_icmp_ge 77 dX12_nearest_30 (by decide) (fun _ => ?_) (fun q => absurd (by rw [e4]; exact Int32.le_refl _) q)
          refine xt_inc _ (1) dX12_nearest_77 rfl (by decide) (by decide) rfl ?_
          change x_T _ _ _ _ [_, _, _, _, _, _] _ _ _ _
          refine xt_goto 9 dX12_nearest_80 (by decide) ?_
          refine x_T.ls ?_ (ih9 (a + 1) (.int (nI (F 4))) (by omega))
          rw [s_cp_out h8, nI_succ a]
        | succ n24 ih24 =>
          intro b hab hmn
          have hlt_b : b < F 4 := by omega
          have hal := s_am_le (v := s_cv F) (ok := s_ck F) (lim := 1000000) (10 * a + b)
          have hbt := s_bt_le hW (a := a) (b := b) (by omega) hlt_b
          refine xt_iload _ dX12_nearest_24 rfl ?_
          refine xt_aload_n _ dX12_nearest_26 rfl ?_
          refine xt_geti dX12_nearest_27 kfX12_251 (by first | exact sh152 | rfl | assumption) rfl ?_
          refine xt_icmp_ge 77 dX12_nearest_30 (by decide) (fun q => absurd q (by rw [e4]; exact nI_ge hlt_b (by omega))) (fun _ => ?_)
          refine xt_aload_n _ dX12_nearest_33 rfl ?_
          refine xt_iload _ dX12_nearest_34 rfl ?_
          refine xt_iload _ dX12_nearest_36 rfl ?_
          refine xt_cV _ dX12_nearest_38 klX12_480 (tX12_between sc _ μ _ f F hS hW a b (by omega) (by omega)) sh152 rfl rfl (Nat.le_of_ble_eq_true rfl) ?_
          refine xt_iload_n _ dX12_nearest_41 rfl ?_
          refine xt_icmp_ge 56 dX12_nearest_42 (by decide) (fun t42 => ?_) (fun f42 => ?_)
          · refine xt_iload_n _ dX12_nearest_56 rfl ?_
            refine xt_istore_n dX12_nearest_57 (by decide) rfl ?_
            change x_T _ _ _ _ [_, _, _, _, _, _] _ _ _ _
            refine xt_iload_n _ dX12_nearest_58 rfl ?_
            refine xt_aload_n _ dX12_nearest_59 rfl ?_
            refine xt_iload _ dX12_nearest_60 rfl ?_
            refine xt_iload _ dX12_nearest_62 rfl ?_
            refine xt_cV _ dX12_nearest_64 klX12_480 (tX12_between sc _ μ _ f F hS hW a b (by omega) (by omega)) sh152 rfl rfl (Nat.le_of_ble_eq_true rfl) ?_
            refine xt_cS _ dX12_nearest_67 klX12_209 (tX12_lesser sc _ μ _ _ _) rfl rfl (Nat.le_of_ble_eq_true rfl) ?_
            refine xt_istore_n dX12_nearest_70 (by decide) rfl ?_
            change x_T _ _ _ _ [_, _, _, _, _, _] _ _ _ _
            refine xt_inc _ (1) dX12_nearest_71 rfl (by decide) (by decide) rfl ?_
            change x_T _ _ _ _ [_, _, _, _, _, _] _ _ _ _
            refine xt_goto 24 dX12_nearest_74 (by decide) ?_
            refine x_T.ls ?_ (ih24 (b + 1) (by omega) (by omega))
            have hi1 : (10 * a + b) / 10 = a := by omega
            have hi2 : (10 * a + b) % 10 = b := by omega
            have hv : s_cv F (10 * a + b) = s_bt F a b := by show s_bt F ((10 * a + b) / 10) ((10 * a + b) % 10) = _; rw [hi1, hi2]
            rw [s_le_nI (by omega) (by omega)]
            rw [nI_leI (by omega) (by omega)] at t42
            have es : s_am (s_cv F) (s_ck F) 1000000 (10 * a + b + 1) = s_am (s_cv F) (s_ck F) 1000000 (10 * a + b) := s_am_n2 (by rw [hv]; exact t42)
            rw [← Nat.add_assoc, es, nI_succ b, Nat.min_eq_left (by omega)]
          · refine xt_bipush (10) dX12_nearest_45 (by decide) ?_
            refine xt_iload _ dX12_nearest_47 rfl ?_
            refine xt_imul dX12_nearest_49 ?_
            refine xt_iload _ dX12_nearest_50 rfl ?_
            refine xt_iadd dX12_nearest_52 ?_
            refine xt_goto 57 dX12_nearest_53 (by decide) ?_
            refine xt_istore_n dX12_nearest_57 (by decide) rfl ?_
            change x_T _ _ _ _ [_, _, _, _, _, _] _ _ _ _
            refine xt_iload_n _ dX12_nearest_58 rfl ?_
            refine xt_aload_n _ dX12_nearest_59 rfl ?_
            refine xt_iload _ dX12_nearest_60 rfl ?_
            refine xt_iload _ dX12_nearest_62 rfl ?_
            refine xt_cV _ dX12_nearest_64 klX12_480 (tX12_between sc _ μ _ f F hS hW a b (by omega) (by omega)) sh152 rfl rfl (Nat.le_of_ble_eq_true rfl) ?_
            refine xt_cS _ dX12_nearest_67 klX12_209 (tX12_lesser sc _ μ _ _ _) rfl rfl (Nat.le_of_ble_eq_true rfl) ?_
            refine xt_istore_n dX12_nearest_70 (by decide) rfl ?_
            change x_T _ _ _ _ [_, _, _, _, _, _] _ _ _ _
            refine xt_inc _ (1) dX12_nearest_71 rfl (by decide) (by decide) rfl ?_
            change x_T _ _ _ _ [_, _, _, _, _, _] _ _ _ _
            refine xt_goto 24 dX12_nearest_74 (by decide) ?_
            refine x_T.ls ?_ (ih24 (b + 1) (by omega) (by omega))
            have hi1 : (10 * a + b) / 10 = a := by omega
            have hi2 : (10 * a + b) % 10 = b := by omega
            have hv : s_cv F (10 * a + b) = s_bt F a b := by show s_bt F ((10 * a + b) / 10) ((10 * a + b) % 10) = _; rw [hi1, hi2]
            rw [s_le_nI (by omega) (by omega)]
            rw [nI_leI (by omega) (by omega)] at f42
            have es : s_am (s_cv F) (s_ck F) 1000000 (10 * a + b + 1) = (10 * a + b + 1, s_bt F a b) := by rw [s_am_y (by show decide _ = true; rw [hi1, hi2]; exact decide_eq_true ⟨by omega, by omega⟩) (by rw [hv]; omega), hv]
            rw [← Nat.add_assoc, es, nI_succ b, Nat.min_eq_right (by omega)]
            simp only [eI_s]
            rw [show (10 : Int32) = nI 10 from rfl, pk_mul, nI_add]
      refine x_T.ls ?_ (L24 (F 4 - (a + 1)) (a + 1) (by omega) (by omega))
      rw [s_cp_in h8 1000000 a (by omega), nI_succ a]
  exact L9 (F 4) 0 _ (by omega)
end UPRIGHTM
set_option maxHeartbeats 4000000 in
theorem st_upright (sc : Nat × (Nat → Int32)) (a1 a2 : Int32) : x_stI sc (fun μ _ => x_Inv μ) (fun μ _ => x_Inv μ) mX11_upright mX12_upright [.int a1, .int a2] := by
  refine x_stF (-2) ?_ ?_ ?_
  · intro μ w c hc e hk
    refine x_K.of (by decide) (Nat.le_of_ble_eq_true rfl) ?_
    show x_T sc 29 mX11_upright 0 [.ref 0, .int a1, .int a2, .retAddr 0] [] μ w _
    refine xt_aload_n _ dX11_upright_0 rfl ?_
    refine xt_iload_n _ dX11_upright_1 rfl ?_
    refine xt_cV _ dX11_upright_2 klX11_90 (tX11_fairOf_no sc _ μ w c hc e _ hk) sh0 rfl rfl (Nat.le_of_ble_eq_true rfl) ?_
    refine xt_astore_n0 dX11_upright_5 (by decide) rfl ?_
    change x_T _ _ _ _ [_, _, _, _] _ _ _ _
    refine xt_aload_n0 dX11_upright_6 rfl ?_
    refine xt_ifnonnull_n dX11_upright_7 ?_
    refine xt_bipush (-2) dX11_upright_10 (by decide) ?_
    exact xt_iret .int dX11_upright_12 rfl (by first | rfl | assumption) ⟨rfl, x_keep.rf μ⟩
  · intro μ w c hc e hk
    refine x_K.of (by decide) (Nat.le_of_ble_eq_true rfl) ?_
    show x_T sc 29 mX12_upright 0 [.ref 152, .int a1, .int a2] [] μ w _
    refine xt_aload_n _ dX12_upright_0 rfl ?_
    refine xt_iconst (0) dX12_upright_1 (by decide) ?_
    refine xt_puti dX12_upright_2 kpX12_72 (by first | exact sh152 | rfl | assumption) rfl (by first | rfl | assumption) (by first | rfl | assumption) ?_
    refine xt_aload_n _ dX12_upright_5 rfl ?_
    refine xt_iload_n _ dX12_upright_6 rfl ?_
    refine xt_cV _ dX12_upright_7 klX12_300 (tX12_hand_no sc _ (x_u μ 152 (upd (μ 152) 0 0)) w c hc e _ hk) sh152 rfl rfl (Nat.le_of_ble_eq_true rfl) ?_
    refine xt_if_ne 16 dX12_upright_10 (by decide) (fun q => absurd (by decide) q) (fun _ => ?_)
    refine xt_bipush (-2) dX12_upright_13 (by decide) ?_
    exact xt_iret .int dX12_upright_15 rfl (by first | rfl | assumption) ⟨rfl, (x_keep.u (x_keep.rf μ) (by unfold x_ok; omega))⟩
  · intro f F hf2 hkk hW
    subst hkk
    have h8 := hW.1.2.2.2.2.1
    have h6 := hW.1.2.2.2.1
    have hax := s_ax_le (v := s_by F) (c := 8) (F 3) (fun i hi => s_by_le hW i)
    have hne : ¬ F 3 = 0 → (s_ax (s_by F) (F 3)).1 ≠ 0 := fun z => by
      obtain ⟨q, hq⟩ : ∃ q, F 3 = q + 1 := ⟨F 3 - 1, by omega⟩
      rw [hq]; exact s_ax_1 q
    have hlim : (s_am (s_cv F) (s_ck F) 19 (10 * F 4)).1 = (s_am (s_cv F) (s_ck F) 1000000 (10 * F 4)).1 ∧ (((s_am (s_cv F) (s_ck F) 19 (10 * F 4)).1 = 0 ∧ (s_am (s_cv F) (s_ck F) 19 (10 * F 4)).2 = 19 ∧ (s_am (s_cv F) (s_ck F) 1000000 (10 * F 4)).2 = 1000000) ∨ ((s_am (s_cv F) (s_ck F) 19 (10 * F 4)).1 ≠ 0 ∧ (s_am (s_cv F) (s_ck F) 19 (10 * F 4)).2 = (s_am (s_cv F) (s_ck F) 1000000 (10 * F 4)).2)) := s_am_cp hW 19 1000000 (by decide) (by decide) _
    have hl2 : (if (s_am (s_cv F) (s_ck F) 19 (10 * F 4)).1 = 0 then (0 : Int32) else nI (s_am (s_cv F) (s_ck F) 1000000 (10 * F 4)).2) = (if (s_am (s_cv F) (s_ck F) 19 (10 * F 4)).1 = 0 then 0 else nI (s_am (s_cv F) (s_ck F) 19 (10 * F 4)).2) := by
      rcases hlim.2 with q | q
      · rw [if_pos q.1, if_pos q.1]
      · rw [q.2]
    by_cases hw : 0 ≤ a2 ∧ a2 ≤ nI 9
    · obtain ⟨j, hj, rfl⟩ := x_rng (N := 9) (by decide) hw
      have hj' : j = 0 ∨ j = 1 ∨ j = 2 ∨ j = 3 ∨ j = 4 ∨ j = 5 ∨ j = 6 ∨ j = 7 ∨ j = 8 ∨ j = 9 := by omega
      rcases hj' with rfl | rfl | rfl | rfl | rfl | rfl | rfl | rfl | rfl | rfl
      · skip
        refine ⟨nI (s_bits (fun g => decide (s_wt F g = 0)) (F 4)), ?_, ?_⟩
        · intro μ w c hf hc e hC
          have hS := f_Sf hf2
          refine x_K.of (by decide) (Nat.le_of_ble_eq_true rfl) ?_
          show x_T sc 29 mX11_upright 0 [.ref 0, .int (nI f), .int (nI 0), .retAddr 0] [] μ w _
          refine xt_aload_n _ dX11_upright_0 rfl ?_
          refine xt_iload_n _ dX11_upright_1 rfl ?_
          refine xt_cV _ dX11_upright_2 klX11_90 (tX11_fairOf sc _ μ w f c hf hc e) sh0 rfl rfl (Nat.le_of_ble_eq_true rfl) ?_
          refine xt_astore_n dX11_upright_5 (by decide) rfl ?_
          change x_T _ _ _ _ [_, _, _, _] _ _ _ _
          refine xt_aload_n _ dX11_upright_6 rfl ?_
          refine xt_ifnonnull_r 13 dX11_upright_7 (by decide) ?_
          refine xt_iload_n _ dX11_upright_13 rfl ?_
          refine xt_tabIn 68 dX11_upright_14 (by decide) (by decide) (by rfl) (by decide) ?_
          refine xt_aload_n _ dX11_upright_68 rfl ?_
          refine xt_cS _ dX11_upright_69 klX11_197 (tX3_withoutWrongs sc _ w hS hC hW) rfl rfl (Nat.le_of_ble_eq_true rfl) ?_
          exact xt_iret .int dX11_upright_72 rfl (by first | rfl | assumption) ⟨rfl, x_keep.rf μ⟩
        · intro μ w c hf hc e hF
          refine x_K.of (by decide) (Nat.le_of_ble_eq_true rfl) ?_
          show x_T sc 29 mX12_upright 0 [.ref 152, .int (nI f), .int (nI 0)] [] μ w _
          refine xt_aload_n _ dX12_upright_0 rfl ?_
          refine xt_iconst (0) dX12_upright_1 (by decide) ?_
          refine xt_puti dX12_upright_2 kpX12_72 (by first | exact sh152 | rfl | assumption) rfl (by first | rfl | assumption) (by first | rfl | assumption) ?_
          refine xt_aload_n _ dX12_upright_5 rfl ?_
          refine xt_iload_n _ dX12_upright_6 rfl ?_
          refine xt_callV _ dX12_upright_7 klX12_300 (tX12_hand sc _ (x_u μ 152 (upd (μ 152) 0 0)) w f c F hf hc e hF) sh152 rfl rfl (Nat.le_of_ble_eq_true rfl) (fun r1 μ1 w1 q1 => ?_)
          obtain ⟨rfl, rfl, hS, h0, hfr⟩ := q1
          change x_T _ _ _ _ _ (.int 1 :: _) _ _ _
          refine xt_if_ne 16 dX12_upright_10 (by decide) (fun _ => ?_) (fun q => absurd q (by decide))
          refine xt_iload_n _ dX12_upright_16 rfl ?_
          refine xt_tabIn 72 dX12_upright_17 (by decide) (by decide) (by rfl) (by decide) ?_
          refine xt_aload_n _ dX12_upright_72 rfl ?_
          refine xt_cV _ dX12_upright_73 klX12_486 (tX12_clean sc _ μ1 _ f F hS hW) sh152 rfl rfl (Nat.le_of_ble_eq_true rfl) ?_
          exact xt_iret .int dX12_upright_76 rfl (by first | rfl | assumption) ⟨rfl, (x_keep.hand hfr)⟩
      · skip
        refine ⟨eI (s_ax (s_wt F) (F 4)).1, ?_, ?_⟩
        · intro μ w c hf hc e hC
          have hS := f_Sf hf2
          refine x_K.of (by decide) (Nat.le_of_ble_eq_true rfl) ?_
          show x_T sc 29 mX11_upright 0 [.ref 0, .int (nI f), .int (nI 1), .retAddr 0] [] μ w _
          refine xt_aload_n _ dX11_upright_0 rfl ?_
          refine xt_iload_n _ dX11_upright_1 rfl ?_
          refine xt_cV _ dX11_upright_2 klX11_90 (tX11_fairOf sc _ μ w f c hf hc e) sh0 rfl rfl (Nat.le_of_ble_eq_true rfl) ?_
          refine xt_astore_n dX11_upright_5 (by decide) rfl ?_
          change x_T _ _ _ _ [_, _, _, _] _ _ _ _
          refine xt_aload_n _ dX11_upright_6 rfl ?_
          refine xt_ifnonnull_r 13 dX11_upright_7 (by decide) ?_
          refine xt_iload_n _ dX11_upright_13 rfl ?_
          refine xt_tabIn 73 dX11_upright_14 (by decide) (by decide) (by rfl) (by decide) ?_
          refine xt_aload_n _ dX11_upright_73 rfl ?_
          refine xt_cS _ dX11_upright_74 klX11_200 (tX3_worst sc _ w hS hC hW) rfl rfl (Nat.le_of_ble_eq_true rfl) ?_
          exact xt_iret .int dX11_upright_77 rfl (by first | rfl | assumption) ⟨rfl, x_keep.rf μ⟩
        · intro μ w c hf hc e hF
          refine x_K.of (by decide) (Nat.le_of_ble_eq_true rfl) ?_
          show x_T sc 29 mX12_upright 0 [.ref 152, .int (nI f), .int (nI 1)] [] μ w _
          refine xt_aload_n _ dX12_upright_0 rfl ?_
          refine xt_iconst (0) dX12_upright_1 (by decide) ?_
          refine xt_puti dX12_upright_2 kpX12_72 (by first | exact sh152 | rfl | assumption) rfl (by first | rfl | assumption) (by first | rfl | assumption) ?_
          refine xt_aload_n _ dX12_upright_5 rfl ?_
          refine xt_iload_n _ dX12_upright_6 rfl ?_
          refine xt_callV _ dX12_upright_7 klX12_300 (tX12_hand sc _ (x_u μ 152 (upd (μ 152) 0 0)) w f c F hf hc e hF) sh152 rfl rfl (Nat.le_of_ble_eq_true rfl) (fun r1 μ1 w1 q1 => ?_)
          obtain ⟨rfl, rfl, hS, h0, hfr⟩ := q1
          change x_T _ _ _ _ _ (.int 1 :: _) _ _ _
          refine xt_if_ne 16 dX12_upright_10 (by decide) (fun _ => ?_) (fun q => absurd q (by decide))
          refine xt_iload_n _ dX12_upright_16 rfl ?_
          refine xt_tabIn 77 dX12_upright_17 (by decide) (by decide) (by rfl) (by decide) ?_
          refine xt_aload_n _ dX12_upright_77 rfl ?_
          refine xt_cV _ dX12_upright_78 klX12_489 (tX12_worst sc _ μ1 _ f F hS hW) sh152 rfl rfl (Nat.le_of_ble_eq_true rfl) ?_
          exact xt_iret .int dX12_upright_81 rfl (by first | rfl | assumption) ⟨rfl, (x_keep.hand hfr)⟩
      · skip
        refine ⟨nI ((s_ax (s_wk F) 6).1 - 1), ?_, ?_⟩
        · intro μ w c hf hc e hC
          have hS := f_Sf hf2
          refine x_K.of (by decide) (Nat.le_of_ble_eq_true rfl) ?_
          show x_T sc 29 mX11_upright 0 [.ref 0, .int (nI f), .int (nI 2), .retAddr 0] [] μ w _
          refine xt_aload_n _ dX11_upright_0 rfl ?_
          refine xt_iload_n _ dX11_upright_1 rfl ?_
          refine xt_cV _ dX11_upright_2 klX11_90 (tX11_fairOf sc _ μ w f c hf hc e) sh0 rfl rfl (Nat.le_of_ble_eq_true rfl) ?_
          refine xt_astore_n dX11_upright_5 (by decide) rfl ?_
          change x_T _ _ _ _ [_, _, _, _] _ _ _ _
          refine xt_aload_n _ dX11_upright_6 rfl ?_
          refine xt_ifnonnull_r 13 dX11_upright_7 (by decide) ?_
          refine xt_iload_n _ dX11_upright_13 rfl ?_
          refine xt_tabIn 78 dX11_upright_14 (by decide) (by decide) (by rfl) (by decide) ?_
          refine xt_aload_n _ dX11_upright_78 rfl ?_
          refine xt_cS _ dX11_upright_79 klX11_203 (tX3_mostKind sc _ w hS hC hW) rfl rfl (Nat.le_of_ble_eq_true rfl) ?_
          exact xt_iret .int dX11_upright_82 rfl (by first | rfl | assumption) ⟨rfl, x_keep.rf μ⟩
        · intro μ w c hf hc e hF
          refine x_K.of (by decide) (Nat.le_of_ble_eq_true rfl) ?_
          show x_T sc 29 mX12_upright 0 [.ref 152, .int (nI f), .int (nI 2)] [] μ w _
          refine xt_aload_n _ dX12_upright_0 rfl ?_
          refine xt_iconst (0) dX12_upright_1 (by decide) ?_
          refine xt_puti dX12_upright_2 kpX12_72 (by first | exact sh152 | rfl | assumption) rfl (by first | rfl | assumption) (by first | rfl | assumption) ?_
          refine xt_aload_n _ dX12_upright_5 rfl ?_
          refine xt_iload_n _ dX12_upright_6 rfl ?_
          refine xt_callV _ dX12_upright_7 klX12_300 (tX12_hand sc _ (x_u μ 152 (upd (μ 152) 0 0)) w f c F hf hc e hF) sh152 rfl rfl (Nat.le_of_ble_eq_true rfl) (fun r1 μ1 w1 q1 => ?_)
          obtain ⟨rfl, rfl, hS, h0, hfr⟩ := q1
          change x_T _ _ _ _ _ (.int 1 :: _) _ _ _
          refine xt_if_ne 16 dX12_upright_10 (by decide) (fun _ => ?_) (fun q => absurd q (by decide))
          refine xt_iload_n _ dX12_upright_16 rfl ?_
          refine xt_tabIn 82 dX12_upright_17 (by decide) (by decide) (by rfl) (by decide) ?_
          refine xt_aload_n _ dX12_upright_82 rfl ?_
          refine xt_cV _ dX12_upright_83 klX12_492 (tX12_mostKind sc _ μ1 _ f F hS hW) sh152 rfl rfl (Nat.le_of_ble_eq_true rfl) ?_
          exact xt_iret .int dX12_upright_86 rfl (by first | rfl | assumption) ⟨rfl, (x_keep.hand hfr)⟩
      · skip
        refine ⟨nI (s_bits (fun g => decide (nI (s_farO F g) ≤ eI (s_mr F (F 3)))) (F 4)), ?_, ?_⟩
        · intro μ w c hf hc e hC
          have hS := f_Sf hf2
          refine x_K.of (by decide) (Nat.le_of_ble_eq_true rfl) ?_
          show x_T sc 29 mX11_upright 0 [.ref 0, .int (nI f), .int (nI 3), .retAddr 0] [] μ w _
          refine xt_aload_n _ dX11_upright_0 rfl ?_
          refine xt_iload_n _ dX11_upright_1 rfl ?_
          refine xt_cV _ dX11_upright_2 klX11_90 (tX11_fairOf sc _ μ w f c hf hc e) sh0 rfl rfl (Nat.le_of_ble_eq_true rfl) ?_
          refine xt_astore_n dX11_upright_5 (by decide) rfl ?_
          change x_T _ _ _ _ [_, _, _, _] _ _ _ _
          refine xt_aload_n _ dX11_upright_6 rfl ?_
          refine xt_ifnonnull_r 13 dX11_upright_7 (by decide) ?_
          refine xt_iload_n _ dX11_upright_13 rfl ?_
          refine xt_tabIn 83 dX11_upright_14 (by decide) (by decide) (by rfl) (by decide) ?_
          refine xt_aload_n _ dX11_upright_83 rfl ?_
          refine xt_cV _ dX11_upright_84 klX11_206 (tX2_heard sc _ w hS hC hW) hS.1 rfl rfl (Nat.le_of_ble_eq_true rfl) ?_
          exact xt_iret .int dX11_upright_87 rfl (by first | rfl | assumption) ⟨rfl, x_keep.rf μ⟩
        · intro μ w c hf hc e hF
          refine x_K.of (by decide) (Nat.le_of_ble_eq_true rfl) ?_
          show x_T sc 29 mX12_upright 0 [.ref 152, .int (nI f), .int (nI 3)] [] μ w _
          refine xt_aload_n _ dX12_upright_0 rfl ?_
          refine xt_iconst (0) dX12_upright_1 (by decide) ?_
          refine xt_puti dX12_upright_2 kpX12_72 (by first | exact sh152 | rfl | assumption) rfl (by first | rfl | assumption) (by first | rfl | assumption) ?_
          refine xt_aload_n _ dX12_upright_5 rfl ?_
          refine xt_iload_n _ dX12_upright_6 rfl ?_
          refine xt_callV _ dX12_upright_7 klX12_300 (tX12_hand sc _ (x_u μ 152 (upd (μ 152) 0 0)) w f c F hf hc e hF) sh152 rfl rfl (Nat.le_of_ble_eq_true rfl) (fun r1 μ1 w1 q1 => ?_)
          obtain ⟨rfl, rfl, hS, h0, hfr⟩ := q1
          change x_T _ _ _ _ _ (.int 1 :: _) _ _ _
          refine xt_if_ne 16 dX12_upright_10 (by decide) (fun _ => ?_) (fun q => absurd q (by decide))
          refine xt_iload_n _ dX12_upright_16 rfl ?_
          refine xt_tabIn 87 dX12_upright_17 (by decide) (by decide) (by rfl) (by decide) ?_
          refine xt_aload_n _ dX12_upright_87 rfl ?_
          refine xt_cV _ dX12_upright_88 klX12_495 (tX12_heard sc _ μ1 _ f F hS hW) sh152 rfl rfl (Nat.le_of_ble_eq_true rfl) ?_
          exact xt_iret .int dX12_upright_91 rfl (by first | rfl | assumption) ⟨rfl, (x_keep.hand hfr)⟩
      · skip
        refine ⟨nI (s_bits (fun m => decide (s_offs F (fun j => decide (j = m)) = s_offs F (fun _ => false))) (F 3)), ?_, ?_⟩
        · intro μ w c hf hc e hC
          have hS := f_Sf hf2
          refine x_K.of (by decide) (Nat.le_of_ble_eq_true rfl) ?_
          show x_T sc 29 mX11_upright 0 [.ref 0, .int (nI f), .int (nI 4), .retAddr 0] [] μ w _
          refine xt_aload_n _ dX11_upright_0 rfl ?_
          refine xt_iload_n _ dX11_upright_1 rfl ?_
          refine xt_cV _ dX11_upright_2 klX11_90 (tX11_fairOf sc _ μ w f c hf hc e) sh0 rfl rfl (Nat.le_of_ble_eq_true rfl) ?_
          refine xt_astore_n dX11_upright_5 (by decide) rfl ?_
          change x_T _ _ _ _ [_, _, _, _] _ _ _ _
          refine xt_aload_n _ dX11_upright_6 rfl ?_
          refine xt_ifnonnull_r 13 dX11_upright_7 (by decide) ?_
          refine xt_iload_n _ dX11_upright_13 rfl ?_
          refine xt_tabIn 88 dX11_upright_14 (by decide) (by decide) (by rfl) (by decide) ?_
          refine xt_aload_n _ dX11_upright_88 rfl ?_
          refine xt_cV _ dX11_upright_89 klX11_210 (tX2_idleMinds sc _ w hS hC hW) hS.1 rfl rfl (Nat.le_of_ble_eq_true rfl) ?_
          exact xt_iret .int dX11_upright_92 rfl (by first | rfl | assumption) ⟨rfl, x_keep.rf μ⟩
        · intro μ w c hf hc e hF
          refine x_K.of (by decide) (Nat.le_of_ble_eq_true rfl) ?_
          show x_T sc 29 mX12_upright 0 [.ref 152, .int (nI f), .int (nI 4)] [] μ w _
          refine xt_aload_n _ dX12_upright_0 rfl ?_
          refine xt_iconst (0) dX12_upright_1 (by decide) ?_
          refine xt_puti dX12_upright_2 kpX12_72 (by first | exact sh152 | rfl | assumption) rfl (by first | rfl | assumption) (by first | rfl | assumption) ?_
          refine xt_aload_n _ dX12_upright_5 rfl ?_
          refine xt_iload_n _ dX12_upright_6 rfl ?_
          refine xt_callV _ dX12_upright_7 klX12_300 (tX12_hand sc _ (x_u μ 152 (upd (μ 152) 0 0)) w f c F hf hc e hF) sh152 rfl rfl (Nat.le_of_ble_eq_true rfl) (fun r1 μ1 w1 q1 => ?_)
          obtain ⟨rfl, rfl, hS, h0, hfr⟩ := q1
          change x_T _ _ _ _ _ (.int 1 :: _) _ _ _
          refine xt_if_ne 16 dX12_upright_10 (by decide) (fun _ => ?_) (fun q => absurd q (by decide))
          refine xt_iload_n _ dX12_upright_16 rfl ?_
          refine xt_tabIn 92 dX12_upright_17 (by decide) (by decide) (by rfl) (by decide) ?_
          refine xt_aload_n _ dX12_upright_92 rfl ?_
          refine xt_cV _ dX12_upright_93 klX12_498 (tX12_idle sc _ μ1 _ f F hS hW h0.2.2.2.2.2) sh152 rfl rfl (Nat.le_of_ble_eq_true rfl) ?_
          exact xt_iret .int dX12_upright_96 rfl (by first | rfl | assumption) ⟨rfl, (x_keep.hand hfr)⟩
      · skip
        refine ⟨nI (s_tr F (F 4)).2, ?_, ?_⟩
        · intro μ w c hf hc e hC
          have hS := f_Sf hf2
          refine x_K.of (by decide) (Nat.le_of_ble_eq_true rfl) ?_
          show x_T sc 29 mX11_upright 0 [.ref 0, .int (nI f), .int (nI 5), .retAddr 0] [] μ w _
          refine xt_aload_n _ dX11_upright_0 rfl ?_
          refine xt_iload_n _ dX11_upright_1 rfl ?_
          refine xt_cV _ dX11_upright_2 klX11_90 (tX11_fairOf sc _ μ w f c hf hc e) sh0 rfl rfl (Nat.le_of_ble_eq_true rfl) ?_
          refine xt_astore_n dX11_upright_5 (by decide) rfl ?_
          change x_T _ _ _ _ [_, _, _, _] _ _ _ _
          refine xt_aload_n _ dX11_upright_6 rfl ?_
          refine xt_ifnonnull_r 13 dX11_upright_7 (by decide) ?_
          refine xt_iload_n _ dX11_upright_13 rfl ?_
          refine xt_tabIn 93 dX11_upright_14 (by decide) (by decide) (by rfl) (by decide) ?_
          refine xt_aload_n _ dX11_upright_93 rfl ?_
          refine xt_getr _ dX11_upright_94 kfX11_48 (by first | exact sh0 | exact sh1 | exact hS.1 | rfl | assumption) rfl ?_
          refine xt_aload_n _ dX11_upright_97 rfl ?_
          refine xt_callV _ dX11_upright_98 klX11_213 (tX3_tree sc _ w hS hC hW (by omega)) sh144 rfl rfl (Nat.le_of_ble_eq_true rfl) (fun r2 μ2 w2 q2 => ?_)
          obtain ⟨rfl, hfr2⟩ := q2
          change x_T _ _ _ _ _ (.int _ :: _) _ _ _
          exact xt_iret .int dX11_upright_101 rfl (by first | rfl | assumption) ⟨rfl, fun a ha => hfr2 a (by unfold x_ok at ha; omega)⟩
        · intro μ w c hf hc e hF
          refine x_K.of (by decide) (Nat.le_of_ble_eq_true rfl) ?_
          show x_T sc 29 mX12_upright 0 [.ref 152, .int (nI f), .int (nI 5)] [] μ w _
          refine xt_aload_n _ dX12_upright_0 rfl ?_
          refine xt_iconst (0) dX12_upright_1 (by decide) ?_
          refine xt_puti dX12_upright_2 kpX12_72 (by first | exact sh152 | rfl | assumption) rfl (by first | rfl | assumption) (by first | rfl | assumption) ?_
          refine xt_aload_n _ dX12_upright_5 rfl ?_
          refine xt_iload_n _ dX12_upright_6 rfl ?_
          refine xt_callV _ dX12_upright_7 klX12_300 (tX12_hand sc _ (x_u μ 152 (upd (μ 152) 0 0)) w f c F hf hc e hF) sh152 rfl rfl (Nat.le_of_ble_eq_true rfl) (fun r1 μ1 w1 q1 => ?_)
          obtain ⟨rfl, rfl, hS, h0, hfr⟩ := q1
          change x_T _ _ _ _ _ (.int 1 :: _) _ _ _
          refine xt_if_ne 16 dX12_upright_10 (by decide) (fun _ => ?_) (fun q => absurd q (by decide))
          refine xt_iload_n _ dX12_upright_16 rfl ?_
          refine xt_tabIn 97 dX12_upright_17 (by decide) (by decide) (by rfl) (by decide) ?_
          refine xt_aload_n _ dX12_upright_97 rfl ?_
          refine xt_cV _ dX12_upright_98 klX12_501 (tX12_tree sc _ μ1 _ f F hS hW) sh152 rfl rfl (Nat.le_of_ble_eq_true rfl) ?_
          exact xt_iret .int dX12_upright_101 rfl (by first | rfl | assumption) ⟨rfl, (x_keep.hand hfr)⟩
      · skip
        refine ⟨eI (s_am (s_cv F) (s_ck F) 19 (10 * F 4)).1, ?_, ?_⟩
        · intro μ w c hf hc e hC
          have hS := f_Sf hf2
          refine x_K.of (by decide) (Nat.le_of_ble_eq_true rfl) ?_
          show x_T sc 29 mX11_upright 0 [.ref 0, .int (nI f), .int (nI 6), .retAddr 0] [] μ w _
          refine xt_aload_n _ dX11_upright_0 rfl ?_
          refine xt_iload_n _ dX11_upright_1 rfl ?_
          refine xt_cV _ dX11_upright_2 klX11_90 (tX11_fairOf sc _ μ w f c hf hc e) sh0 rfl rfl (Nat.le_of_ble_eq_true rfl) ?_
          refine xt_astore_n dX11_upright_5 (by decide) rfl ?_
          change x_T _ _ _ _ [_, _, _, _] _ _ _ _
          refine xt_aload_n _ dX11_upright_6 rfl ?_
          refine xt_ifnonnull_r 13 dX11_upright_7 (by decide) ?_
          refine xt_iload_n _ dX11_upright_13 rfl ?_
          refine xt_tabIn 102 dX11_upright_14 (by decide) (by decide) (by rfl) (by decide) ?_
          refine xt_aload_n _ dX11_upright_102 rfl ?_
          refine xt_cS _ dX11_upright_103 klX11_216 (tX3_nearestTwo sc _ w hS hC hW) rfl rfl (Nat.le_of_ble_eq_true rfl) ?_
          exact xt_iret .int dX11_upright_106 rfl (by first | rfl | assumption) ⟨rfl, x_keep.rf μ⟩
        · intro μ w c hf hc e hF
          refine x_K.of (by decide) (Nat.le_of_ble_eq_true rfl) ?_
          show x_T sc 29 mX12_upright 0 [.ref 152, .int (nI f), .int (nI 6)] [] μ w _
          refine xt_aload_n _ dX12_upright_0 rfl ?_
          refine xt_iconst (0) dX12_upright_1 (by decide) ?_
          refine xt_puti dX12_upright_2 kpX12_72 (by first | exact sh152 | rfl | assumption) rfl (by first | rfl | assumption) (by first | rfl | assumption) ?_
          refine xt_aload_n _ dX12_upright_5 rfl ?_
          refine xt_iload_n _ dX12_upright_6 rfl ?_
          refine xt_callV _ dX12_upright_7 klX12_300 (tX12_hand sc _ (x_u μ 152 (upd (μ 152) 0 0)) w f c F hf hc e hF) sh152 rfl rfl (Nat.le_of_ble_eq_true rfl) (fun r1 μ1 w1 q1 => ?_)
          obtain ⟨rfl, rfl, hS, h0, hfr⟩ := q1
          change x_T _ _ _ _ _ (.int 1 :: _) _ _ _
          refine xt_if_ne 16 dX12_upright_10 (by decide) (fun _ => ?_) (fun q => absurd q (by decide))
          refine xt_iload_n _ dX12_upright_16 rfl ?_
          refine xt_tabIn 102 dX12_upright_17 (by decide) (by decide) (by rfl) (by decide) ?_
          refine xt_aload_n _ dX12_upright_102 rfl ?_
          refine xt_iload_n _ dX12_upright_103 rfl ?_
          refine xt_bipush (7) dX12_upright_104 (by decide) ?_
          refine xt_icmp_ne 113 dX12_upright_106 (by decide) (fun _ => ?_) (fun q => absurd q (by decide))
          refine xt_iconst (0) dX12_upright_113 (by decide) ?_
          refine xt_cV _ dX12_upright_114 klX12_504 (tX12_nearest sc _ μ1 _ f F hS hW 0) sh152 rfl rfl (Nat.le_of_ble_eq_true rfl) ?_
          exact xt_iret .int dX12_upright_117 rfl (by first | rfl | assumption) ⟨by rw [if_pos rfl, hlim.1], (x_keep.hand hfr)⟩
      · skip
        refine ⟨if (s_am (s_cv F) (s_ck F) 19 (10 * F 4)).1 = 0 then 0 else nI (s_am (s_cv F) (s_ck F) 19 (10 * F 4)).2, ?_, ?_⟩
        · intro μ w c hf hc e hC
          have hS := f_Sf hf2
          refine x_K.of (by decide) (Nat.le_of_ble_eq_true rfl) ?_
          show x_T sc 29 mX11_upright 0 [.ref 0, .int (nI f), .int (nI 7), .retAddr 0] [] μ w _
          refine xt_aload_n _ dX11_upright_0 rfl ?_
          refine xt_iload_n _ dX11_upright_1 rfl ?_
          refine xt_cV _ dX11_upright_2 klX11_90 (tX11_fairOf sc _ μ w f c hf hc e) sh0 rfl rfl (Nat.le_of_ble_eq_true rfl) ?_
          refine xt_astore_n dX11_upright_5 (by decide) rfl ?_
          change x_T _ _ _ _ [_, _, _, _] _ _ _ _
          refine xt_aload_n _ dX11_upright_6 rfl ?_
          refine xt_ifnonnull_r 13 dX11_upright_7 (by decide) ?_
          refine xt_iload_n _ dX11_upright_13 rfl ?_
          refine xt_tabIn 107 dX11_upright_14 (by decide) (by decide) (by rfl) (by decide) ?_
          refine xt_aload_n _ dX11_upright_107 rfl ?_
          refine xt_cS _ dX11_upright_108 klX11_219 (tX3_betweenNearest sc _ w hS hC hW) rfl rfl (Nat.le_of_ble_eq_true rfl) ?_
          exact xt_iret .int dX11_upright_111 rfl (by first | rfl | assumption) ⟨rfl, x_keep.rf μ⟩
        · intro μ w c hf hc e hF
          refine x_K.of (by decide) (Nat.le_of_ble_eq_true rfl) ?_
          show x_T sc 29 mX12_upright 0 [.ref 152, .int (nI f), .int (nI 7)] [] μ w _
          refine xt_aload_n _ dX12_upright_0 rfl ?_
          refine xt_iconst (0) dX12_upright_1 (by decide) ?_
          refine xt_puti dX12_upright_2 kpX12_72 (by first | exact sh152 | rfl | assumption) rfl (by first | rfl | assumption) (by first | rfl | assumption) ?_
          refine xt_aload_n _ dX12_upright_5 rfl ?_
          refine xt_iload_n _ dX12_upright_6 rfl ?_
          refine xt_callV _ dX12_upright_7 klX12_300 (tX12_hand sc _ (x_u μ 152 (upd (μ 152) 0 0)) w f c F hf hc e hF) sh152 rfl rfl (Nat.le_of_ble_eq_true rfl) (fun r1 μ1 w1 q1 => ?_)
          obtain ⟨rfl, rfl, hS, h0, hfr⟩ := q1
          change x_T _ _ _ _ _ (.int 1 :: _) _ _ _
          refine xt_if_ne 16 dX12_upright_10 (by decide) (fun _ => ?_) (fun q => absurd q (by decide))
          refine xt_iload_n _ dX12_upright_16 rfl ?_
          refine xt_tabIn 102 dX12_upright_17 (by decide) (by decide) (by rfl) (by decide) ?_
          refine xt_aload_n _ dX12_upright_102 rfl ?_
          refine xt_iload_n _ dX12_upright_103 rfl ?_
          refine xt_bipush (7) dX12_upright_104 (by decide) ?_
          refine xt_icmp_ne 113 dX12_upright_106 (by decide) (fun q => absurd (by decide) q) (fun _ => ?_)
          refine xt_iconst (1) dX12_upright_109 (by decide) ?_
          refine xt_goto 114 dX12_upright_110 (by decide) ?_
          refine xt_cV _ dX12_upright_114 klX12_504 (tX12_nearest sc _ μ1 _ f F hS hW 1) sh152 rfl rfl (Nat.le_of_ble_eq_true rfl) ?_
          exact xt_iret .int dX12_upright_117 rfl (by first | rfl | assumption) ⟨by rw [if_neg (by decide), ← hlim.1, hl2], (x_keep.hand hfr)⟩
      · skip
        refine ⟨eI (s_ax (s_by F) (F 3)).1, ?_, ?_⟩
        · intro μ w c hf hc e hC
          have hS := f_Sf hf2
          refine x_K.of (by decide) (Nat.le_of_ble_eq_true rfl) ?_
          show x_T sc 29 mX11_upright 0 [.ref 0, .int (nI f), .int (nI 8), .retAddr 0] [] μ w _
          refine xt_aload_n _ dX11_upright_0 rfl ?_
          refine xt_iload_n _ dX11_upright_1 rfl ?_
          refine xt_cV _ dX11_upright_2 klX11_90 (tX11_fairOf sc _ μ w f c hf hc e) sh0 rfl rfl (Nat.le_of_ble_eq_true rfl) ?_
          refine xt_astore_n dX11_upright_5 (by decide) rfl ?_
          change x_T _ _ _ _ [_, _, _, _] _ _ _ _
          refine xt_aload_n _ dX11_upright_6 rfl ?_
          refine xt_ifnonnull_r 13 dX11_upright_7 (by decide) ?_
          refine xt_iload_n _ dX11_upright_13 rfl ?_
          refine xt_tabIn 112 dX11_upright_14 (by decide) (by decide) (by rfl) (by decide) ?_
          refine xt_aload_n _ dX11_upright_112 rfl ?_
          refine xt_cV _ dX11_upright_113 klX11_222 (tX2_broadest sc _ w hS hC hW) hS.1 rfl rfl (Nat.le_of_ble_eq_true rfl) ?_
          exact xt_iret .int dX11_upright_116 rfl (by first | rfl | assumption) ⟨by rw [s_br_ax], x_keep.rf μ⟩
        · intro μ w c hf hc e hF
          refine x_K.of (by decide) (Nat.le_of_ble_eq_true rfl) ?_
          show x_T sc 29 mX12_upright 0 [.ref 152, .int (nI f), .int (nI 8)] [] μ w _
          refine xt_aload_n _ dX12_upright_0 rfl ?_
          refine xt_iconst (0) dX12_upright_1 (by decide) ?_
          refine xt_puti dX12_upright_2 kpX12_72 (by first | exact sh152 | rfl | assumption) rfl (by first | rfl | assumption) (by first | rfl | assumption) ?_
          refine xt_aload_n _ dX12_upright_5 rfl ?_
          refine xt_iload_n _ dX12_upright_6 rfl ?_
          refine xt_callV _ dX12_upright_7 klX12_300 (tX12_hand sc _ (x_u μ 152 (upd (μ 152) 0 0)) w f c F hf hc e hF) sh152 rfl rfl (Nat.le_of_ble_eq_true rfl) (fun r1 μ1 w1 q1 => ?_)
          obtain ⟨rfl, rfl, hS, h0, hfr⟩ := q1
          change x_T _ _ _ _ _ (.int 1 :: _) _ _ _
          refine xt_if_ne 16 dX12_upright_10 (by decide) (fun _ => ?_) (fun q => absurd q (by decide))
          refine xt_iload_n _ dX12_upright_16 rfl ?_
          refine xt_tabIn 118 dX12_upright_17 (by decide) (by decide) (by rfl) (by decide) ?_
          refine xt_aload_n _ dX12_upright_118 rfl ?_
          refine xt_iload_n _ dX12_upright_119 rfl ?_
          refine xt_bipush (9) dX12_upright_120 (by decide) ?_
          refine xt_icmp_ne 129 dX12_upright_122 (by decide) (fun _ => ?_) (fun q => absurd q (by decide))
          refine xt_iconst (0) dX12_upright_129 (by decide) ?_
          refine xt_cV _ dX12_upright_130 klX12_508 (tX12_broad sc _ μ1 _ f F hS hW h0.2.2.2.2.2 0) sh152 rfl rfl (Nat.le_of_ble_eq_true rfl) ?_
          exact xt_iret .int dX12_upright_133 rfl (by first | rfl | assumption) ⟨by rw [if_pos rfl], (x_keep.hand hfr)⟩
      · skip
        refine ⟨nI ((s_ax (s_by F) (F 3)).2 - 1), ?_, ?_⟩
        · intro μ w c hf hc e hC
          have hS := f_Sf hf2
          refine x_K.of (by decide) (Nat.le_of_ble_eq_true rfl) ?_
          show x_T sc 29 mX11_upright 0 [.ref 0, .int (nI f), .int (nI 9), .retAddr 0] [] μ w _
          refine xt_aload_n _ dX11_upright_0 rfl ?_
          refine xt_iload_n _ dX11_upright_1 rfl ?_
          refine xt_cV _ dX11_upright_2 klX11_90 (tX11_fairOf sc _ μ w f c hf hc e) sh0 rfl rfl (Nat.le_of_ble_eq_true rfl) ?_
          refine xt_astore_n dX11_upright_5 (by decide) rfl ?_
          change x_T _ _ _ _ [_, _, _, _] _ _ _ _
          refine xt_aload_n _ dX11_upright_6 rfl ?_
          refine xt_ifnonnull_r 13 dX11_upright_7 (by decide) ?_
          refine xt_iload_n _ dX11_upright_13 rfl ?_
          refine xt_tabIn 117 dX11_upright_14 (by decide) (by decide) (by rfl) (by decide) ?_
          refine xt_aload_n _ dX11_upright_117 rfl ?_
          refine xt_geti dX11_upright_118 kfX11_225 (by first | exact sh0 | exact sh1 | exact hS.1 | rfl | assumption) rfl ?_
          refine xt_if_ne 128 dX11_upright_121 (by decide) (fun t121 => ?_) (fun f121 => ?_)
          · refine xt_aload_n _ dX11_upright_128 rfl ?_
            refine xt_aload_n _ dX11_upright_129 rfl ?_
            refine xt_cV _ dX11_upright_130 klX11_222 (tX2_broadest sc _ w hS hC hW) hS.1 rfl rfl (Nat.le_of_ble_eq_true rfl) ?_
            have h3 : ¬ F 3 = 0 := fun z => t121 (by rw [hC.1 3 (by decide), z]; rfl)
            rw [s_br_ax, eI_pr (hne h3)]
            refine xt_cV _ dX11_upright_133 klX11_228 (tX2_offendersBy sc _ w hS hC hW ((s_ax (s_by F) (F 3)).1 - 1) (by have := hne h3; omega)) hS.1 rfl rfl (Nat.le_of_ble_eq_true rfl) ?_
            exact xt_iret .int dX11_upright_136 rfl (by first | rfl | assumption) ⟨by rw [s_ax_v _ (hne h3)]; rfl, x_keep.rf μ⟩
          · refine xt_iconst (0) dX11_upright_124 (by decide) ?_
            refine xt_goto 136 dX11_upright_125 (by decide) ?_
            exact xt_iret .int dX11_upright_136 rfl (by first | rfl | assumption) ⟨by rw [hC.1 3 (by decide)] at f121; rw [(nI_0e (by omega)).mp f121]; rfl, x_keep.rf μ⟩
        · intro μ w c hf hc e hF
          refine x_K.of (by decide) (Nat.le_of_ble_eq_true rfl) ?_
          show x_T sc 29 mX12_upright 0 [.ref 152, .int (nI f), .int (nI 9)] [] μ w _
          refine xt_aload_n _ dX12_upright_0 rfl ?_
          refine xt_iconst (0) dX12_upright_1 (by decide) ?_
          refine xt_puti dX12_upright_2 kpX12_72 (by first | exact sh152 | rfl | assumption) rfl (by first | rfl | assumption) (by first | rfl | assumption) ?_
          refine xt_aload_n _ dX12_upright_5 rfl ?_
          refine xt_iload_n _ dX12_upright_6 rfl ?_
          refine xt_callV _ dX12_upright_7 klX12_300 (tX12_hand sc _ (x_u μ 152 (upd (μ 152) 0 0)) w f c F hf hc e hF) sh152 rfl rfl (Nat.le_of_ble_eq_true rfl) (fun r1 μ1 w1 q1 => ?_)
          obtain ⟨rfl, rfl, hS, h0, hfr⟩ := q1
          change x_T _ _ _ _ _ (.int 1 :: _) _ _ _
          refine xt_if_ne 16 dX12_upright_10 (by decide) (fun _ => ?_) (fun q => absurd q (by decide))
          refine xt_iload_n _ dX12_upright_16 rfl ?_
          refine xt_tabIn 118 dX12_upright_17 (by decide) (by decide) (by rfl) (by decide) ?_
          refine xt_aload_n _ dX12_upright_118 rfl ?_
          refine xt_iload_n _ dX12_upright_119 rfl ?_
          refine xt_bipush (9) dX12_upright_120 (by decide) ?_
          refine xt_icmp_ne 129 dX12_upright_122 (by decide) (fun q => absurd (by decide) q) (fun _ => ?_)
          refine xt_iconst (1) dX12_upright_125 (by decide) ?_
          refine xt_goto 130 dX12_upright_126 (by decide) ?_
          refine xt_cV _ dX12_upright_130 klX12_508 (tX12_broad sc _ μ1 _ f F hS hW h0.2.2.2.2.2 1) sh152 rfl rfl (Nat.le_of_ble_eq_true rfl) ?_
          exact xt_iret .int dX12_upright_133 rfl (by first | rfl | assumption) ⟨by rw [if_neg (by decide)], (x_keep.hand hfr)⟩
    · have hout := x_out (N := 9) (by decide) hw
      refine ⟨-2, ?_, ?_⟩
      · intro μ w c hf hc e hC
        have hS := f_Sf hf2
        refine x_K.of (by decide) (Nat.le_of_ble_eq_true rfl) ?_
        show x_T sc 29 mX11_upright 0 [.ref 0, .int (nI f), .int a2, .retAddr 0] [] μ w _
        refine xt_aload_n _ dX11_upright_0 rfl ?_
        refine xt_iload_n _ dX11_upright_1 rfl ?_
        refine xt_cV _ dX11_upright_2 klX11_90 (tX11_fairOf sc _ μ w f c hf hc e) sh0 rfl rfl (Nat.le_of_ble_eq_true rfl) ?_
        refine xt_astore_n dX11_upright_5 (by decide) rfl ?_
        change x_T _ _ _ _ [_, _, _, _] _ _ _ _
        refine xt_aload_n _ dX11_upright_6 rfl ?_
        refine xt_ifnonnull_r 13 dX11_upright_7 (by decide) ?_
        refine xt_iload_n _ dX11_upright_13 rfl ?_
        refine xt_tabOut 137 dX11_upright_14 (by omega) (by decide) ?_
        refine xt_bipush (-2) dX11_upright_137 (by decide) ?_
        exact xt_iret .int dX11_upright_139 rfl (by first | rfl | assumption) ⟨rfl, x_keep.rf μ⟩
      · intro μ w c hf hc e hF
        refine x_K.of (by decide) (Nat.le_of_ble_eq_true rfl) ?_
        show x_T sc 29 mX12_upright 0 [.ref 152, .int (nI f), .int a2] [] μ w _
        refine xt_aload_n _ dX12_upright_0 rfl ?_
        refine xt_iconst (0) dX12_upright_1 (by decide) ?_
        refine xt_puti dX12_upright_2 kpX12_72 (by first | exact sh152 | rfl | assumption) rfl (by first | rfl | assumption) (by first | rfl | assumption) ?_
        refine xt_aload_n _ dX12_upright_5 rfl ?_
        refine xt_iload_n _ dX12_upright_6 rfl ?_
        refine xt_callV _ dX12_upright_7 klX12_300 (tX12_hand sc _ (x_u μ 152 (upd (μ 152) 0 0)) w f c F hf hc e hF) sh152 rfl rfl (Nat.le_of_ble_eq_true rfl) (fun r1 μ1 w1 q1 => ?_)
        obtain ⟨rfl, rfl, hS, h0, hfr⟩ := q1
        change x_T _ _ _ _ _ (.int 1 :: _) _ _ _
        refine xt_if_ne 16 dX12_upright_10 (by decide) (fun _ => ?_) (fun q => absurd q (by decide))
        refine xt_iload_n _ dX12_upright_16 rfl ?_
        refine xt_tabOut 134 dX12_upright_17 (by omega) (by decide) ?_
        refine xt_bipush (-2) dX12_upright_134 (by decide) ?_
        exact xt_iret .int dX12_upright_136 rfl (by first | rfl | assumption) ⟨rfl, (x_keep.hand hfr)⟩
