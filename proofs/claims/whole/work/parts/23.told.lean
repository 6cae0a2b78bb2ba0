/-! steps: fault, count, end -/
theorem x_stQ {sc : Nat × (Nat → Int32)} {Mc Mm : x_Mt} {as : List Value} (V : x_Me → Int32) (hV : ∀ μ μ', x_keep μ μ' → V μ' = V μ)
    (hc : ∀ μ w, x_Inv μ → x_K sc 29 Mc (.ref 0 :: as) μ w (fun r μ' _ => r = some (.int (V μ)) ∧ x_keep μ μ')) (hm : ∀ μ w, x_Inv μ → x_K sc 29 Mm (.ref 152 :: as) μ w (fun r μ' _ => r = some (.int (V μ)) ∧ x_keep μ μ')) :
    x_stI sc (fun μ _ => x_Inv μ) (fun μ _ => x_Inv μ) Mc Mm as := by
  intro μ w hI
  refine (hc μ w hI).mono (fun r μ1 w1 q => ⟨V μ, q.1, ?_⟩)
  refine (hm μ1 w1 (hI.keep q.2)).mono (fun r2 μ2 w2 q2 => ⟨by rw [q2.1, hV μ μ1 q.2], (hI.keep q.2).keep q2.2⟩)
/-- the head of what is told: the tape and the FAULT -/
def i_head (μ : x_Me) (q : Nat) : Prop := (∃ n, n ≤ 600 ∧ μ (x_b q) 1 = nI n ∧ μ 154 q = nI n ∧ ∀ i, i < n → μ (x_b q + 1) i = μ 153 (600 * q + i)) ∧ (∀ i, i < 600 → fits .byte (.int (μ (x_b q + 1) i)) = true) ∧ μ (x_b q) 2 = μ 155 q ∧ μ (x_b q) 3 = μ 156 q
theorem i_T.keep2 {μ μ' : x_Me} {q s f : Nat} (hq : q < 4) (hf : f < 2) (h : ∀ a, 3 ≤ a → a ≤ 114 → μ' a = μ a) (h2 : ∀ a, 157 ≤ a → a ≤ 160 → μ' a = μ a) (hi : i_T μ q s f) : i_T μ' q s f := by
  have hb := x_b_le hq
  have hok : ∀ a, 3 ≤ a → a ≤ 114 → μ' a = μ a := h
  match s, hi with
  | 0, hi =>
    obtain ⟨F, h1, h3, h4⟩ := hi
    exact ⟨F, h1, h3.cg (fun j hj => hok _ (by omega) (by omega)), fun i hi => by rw [h2 158 (by decide) (by decide)]; exact h4 i hi⟩
  | 1, hi =>
    obtain ⟨D, n, h1, h3, h4, h5, h6, h7⟩ := hi
    exact ⟨D, n, h1, h3, by rw [hok _ (by omega) (by omega)]; exact h4, by rw [hok _ (by omega) (by omega)]; exact h5, by rw [h2 159 (by decide) (by decide)]; exact h6, h7⟩
  | s + 2, hi =>
    obtain ⟨L, h1, h3, h4, h5, h6, h7⟩ := hi
    refine ⟨L, h1, h3, by rw [hok _ (by omega) (by omega)]; exact h4, by rw [hok _ (by omega) (by omega)]; exact h5, ?_, by rw [h2 160 (by decide) (by decide)]; exact h7⟩
    rw [hok (x_b q + 15 + 11 * f) (by omega) (by omega), hok (x_b q + 16 + 11 * f) (by omega) (by omega)]; exact h6
/-- only the head of what is told has changed -/
theorem x_Inv.head {μ μ' : x_Me} (hI : x_Inv μ) (hk : ∀ a, x_ok a → a ≠ 1 → a ≠ 2 → a ≠ 153 → a ≠ 154 → a ≠ 155 → a ≠ 156 → μ' a = μ a) (h153 : ∀ i, 600 ≤ i → μ' 153 i = μ 153 i) (h15 : ∀ q, 1 ≤ q → μ' 154 q = μ 154 q ∧ μ' 155 q = μ 155 q ∧ μ' 156 q = μ 156 q) (hh : i_head μ' 0) : x_Inv μ' := by
  obtain ⟨h1, h2, h3⟩ := hI
  have hok : ∀ a, 3 ≤ a → a ≤ 114 → μ' a = μ a := fun a z1 z2 => hk a (Or.inl z2) (by omega) (by omega) (by omega) (by omega) (by omega) (by omega)
  have hok2 : ∀ a, 157 ≤ a → a ≤ 160 → μ' a = μ a := fun a z1 z2 => hk a (Or.inr (Or.inl ⟨by omega, z2⟩)) (by omega) (by omega) (by omega) (by omega) (by omega) (by omega)
  have txt : ∀ q, q < 4 → (∀ s, s < 3 → ∃ c, c ≤ 2 ∧ μ (x_b q + 2) s = nI c ∧ μ 157 (3 * q + s) = nI c ∧ ∀ f, f < c → i_T μ q s f) → ∀ s, s < 3 → ∃ c, c ≤ 2 ∧ μ' (x_b q + 2) s = nI c ∧ μ' 157 (3 * q + s) = nI c ∧ ∀ f, f < c → i_T μ' q s f := by
    intro q hq ht s hs
    have hb := x_b_le hq
    have hb1 : 1 ≤ x_b q := by unfold x_b; split <;> omega
    obtain ⟨c, c1, c2, c3, c4⟩ := ht s hs
    exact ⟨c, c1, by rw [hok _ (by omega) (by omega)]; exact c2, by rw [hok2 157 (by decide) (by decide)]; exact c3, fun f hf => (c4 f hf).keep2 hq (by omega) hok hok2⟩
  refine ⟨?_, ⟨hh.1, hh.2.1, hh.2.2.1, hh.2.2.2, txt 0 (by decide) h2.2.2.2.2⟩, ?_⟩
  · rw [hok 114 (by decide) (by decide), hk 172 (Or.inr (Or.inr rfl)) (by decide) (by decide) (by decide) (by decide) (by decide) (by decide)]; exact h1
  · intro k hk3 ht
    rw [hok 114 (by decide) (by decide)] at ht
    obtain ⟨⟨n, n1, n2, n3, n4⟩, s2, s3, s4, s5⟩ := h3 k hk3 ht
    have hb : 30 ≤ x_b (k + 1) := by unfold x_b; rw [if_neg (by omega)]; omega
    have hb2 := x_b_le (show k + 1 < 4 by omega)
    obtain ⟨q1, q2, q3⟩ := h15 (k + 1) (by omega)
    refine ⟨⟨n, n1, by rw [hok _ (by omega) (by omega)]; exact n2, by rw [q1]; exact n3, fun i hi => by rw [hok _ (by omega) (by omega), h153 _ (by omega)]; exact n4 i hi⟩, by rw [hok _ (by omega) (by omega)]; exact s2, by rw [hok _ (by omega) (by omega), q2]; exact s3, by rw [hok _ (by omega) (by omega), q3]; exact s4, txt (k + 1) (by omega) s5⟩
set_option maxHeartbeats 1000000 in
theorem st_fault (sc : Nat × (Nat → Int32)) (a1 : Int32) : x_stI sc (fun μ _ => x_Inv μ) (fun μ _ => x_Inv μ) mX11_fault mX12_fault [.int a1] := by
  refine x_stQ (fun μ => if a1 = 0 then μ 1 2 else if a1 = 1 then μ 1 3 else -1) (fun μ μ' h => by rw [h 1 (Or.inl (by decide))]) ?_ ?_
  · intro μ w hI
    refine x_K.of (by decide) (Nat.le_of_ble_eq_true rfl) ?_
    show x_T sc 29 mX11_fault 0 [.ref 0, .int a1] [] μ w _
    refine xt_iload_n _ dX11_fault_0 rfl ?_
    refine xt_if_ne 12 dX11_fault_1 (by decide) (fun t1 => ?_) (fun f1 => ?_)
    · refine xt_iload_n _ dX11_fault_12 rfl ?_
      refine xt_iconst (1) dX11_fault_13 (by decide) ?_
      refine xt_icmp_ne 27 dX11_fault_14 (by decide) (fun t14 => ?_) (fun f14 => ?_)
      · refine xt_iconst (-1) dX11_fault_27 (by decide) ?_
        exact xt_iret .int dX11_fault_28 rfl (by first | rfl | assumption) ⟨by rw [if_neg t1, if_neg t14], x_keep.rf μ⟩
      · refine xt_aload_n _ dX11_fault_17 rfl ?_
        refine xt_getr _ dX11_fault_18 kfX11_10 (by first | exact sh0 | exact sh1 | rfl | assumption) rfl ?_
        refine xt_geti dX11_fault_21 kfX11_78 (by first | exact sh0 | exact sh1 | rfl | assumption) rfl ?_
        refine xt_goto 28 dX11_fault_24 (by decide) ?_
        exact xt_iret .int dX11_fault_28 rfl (by first | rfl | assumption) ⟨by rw [if_neg t1, if_pos f14], x_keep.rf μ⟩
    · refine xt_aload_n _ dX11_fault_4 rfl ?_
      refine xt_getr _ dX11_fault_5 kfX11_10 (by first | exact sh0 | exact sh1 | rfl | assumption) rfl ?_
      refine xt_geti dX11_fault_8 kfX11_75 (by first | exact sh0 | exact sh1 | rfl | assumption) rfl ?_
      exact xt_iret .int dX11_fault_11 rfl (by first | rfl | assumption) ⟨by rw [if_pos f1], x_keep.rf μ⟩
  · intro μ w hI
    refine x_K.of (by decide) (Nat.le_of_ble_eq_true rfl) ?_
    show x_T sc 29 mX12_fault 0 [.ref 152, .int a1] [] μ w _
    refine xt_aload_n _ dX12_fault_0 rfl ?_
    refine xt_iconst (0) dX12_fault_1 (by decide) ?_
    refine xt_puti dX12_fault_2 kpX12_72 (by first | exact sh152 | rfl | assumption) rfl (by first | rfl | assumption) (by first | rfl | assumption) ?_
    refine xt_iload_n _ dX12_fault_5 rfl ?_
    refine xt_if_ne 18 dX12_fault_6 (by decide) (fun t6 => ?_) (fun f6 => ?_)
    · refine xt_iload_n _ dX12_fault_18 rfl ?_
      refine xt_iconst (1) dX12_fault_19 (by decide) ?_
      refine xt_icmp_ne 32 dX12_fault_20 (by decide) (fun t20 => ?_) (fun f20 => ?_)
      · refine xt_iconst (-1) dX12_fault_32 (by decide) ?_
        exact xt_iret .int dX12_fault_33 rfl (by first | rfl | assumption) ⟨by rw [if_neg t6, if_neg t20], (x_keep.u (x_keep.rf μ) (by unfold x_ok; omega))⟩
      · refine xt_aload_n _ dX12_fault_23 rfl ?_
        refine xt_getr _ dX12_fault_24 kfX12_20 (by first | exact sh152 | rfl | assumption) rfl ?_
        refine xt_iconst (0) dX12_fault_27 (by decide) ?_
        refine xt_ald dX12_fault_28 (by first | exact sh152 | rfl | assumption) (by unfold vp_in; decide) ?_
        refine xt_goto 33 dX12_fault_29 (by decide) ?_
        exact xt_iret .int dX12_fault_33 rfl (by first | rfl | assumption) ⟨by rw [if_neg t6, if_pos f20]; exact congrArg (fun z => some (Value.int z)) hI.2.1.2.2.2.1.symm, (x_keep.u (x_keep.rf μ) (by unfold x_ok; omega))⟩
    · refine xt_aload_n _ dX12_fault_9 rfl ?_
      refine xt_getr _ dX12_fault_10 kfX12_17 (by first | exact sh152 | rfl | assumption) rfl ?_
      refine xt_iconst (0) dX12_fault_13 (by decide) ?_
      refine xt_ald dX12_fault_14 (by first | exact sh152 | rfl | assumption) (by unfold vp_in; decide) ?_
      refine xt_goto 33 dX12_fault_15 (by decide) ?_
      exact xt_iret .int dX12_fault_33 rfl (by first | rfl | assumption) ⟨by rw [if_pos f6]; exact congrArg (fun z => some (Value.int z)) hI.2.1.2.2.1.symm, (x_keep.u (x_keep.rf μ) (by unfold x_ok; omega))⟩
theorem x_gt2 {a : Int32} (h : (2 : Int32) < a) : nI 3 ≤ a := by
  rw [Int32.lt_iff_toInt_lt] at h
  rw [Int32.le_iff_toInt_le]
  have e1 : (2 : Int32).toInt = 2 := by decide
  have e2 : (nI 3).toInt = 3 := by decide
  omega
set_option maxHeartbeats 1000000 in
theorem st_count (sc : Nat × (Nat → Int32)) (a1 : Int32) : x_stI sc (fun μ _ => x_Inv μ) (fun μ _ => x_Inv μ) mX11_count mX12_count [.int a1] := by
  refine x_stQ (fun μ => if a1 < 0 then -2 else if nI 3 ≤ a1 then -2 else μ 3 a1.toNatClampNeg) (fun μ μ' h => by rw [h 3 (Or.inl (by decide))]) ?_ ?_
  · intro μ w hI
    refine x_K.of (by decide) (Nat.le_of_ble_eq_true rfl) ?_
    show x_T sc 29 mX11_count 0 [.ref 0, .int a1] [] μ w _
    refine xt_iload_n _ dX11_count_0 rfl ?_
    refine xt_if_lt 9 dX11_count_1 (by decide) (fun t1 => ?_) (fun f1 => ?_)
    · refine xt_bipush (-2) dX11_count_9 (by decide) ?_
      refine xt_goto 23 dX11_count_11 (by decide) ?_
      exact xt_iret .int dX11_count_23 rfl (by first | rfl | assumption) ⟨by rw [if_pos t1], x_keep.rf μ⟩
    · refine xt_iload_n _ dX11_count_4 rfl ?_
      refine xt_iconst (3) dX11_count_5 (by decide) ?_
      refine xt_icmp_lt 14 dX11_count_6 (by decide) (fun t6 => ?_) (fun f6 => ?_)
      · refine xt_aload_n _ dX11_count_14 rfl ?_
        refine xt_getr _ dX11_count_15 kfX11_10 (by first | exact sh0 | exact sh1 | rfl | assumption) rfl ?_
        refine xt_getr _ dX11_count_18 kfX11_332 (by first | exact sh0 | exact sh1 | rfl | assumption) rfl ?_
        refine xt_iload_n _ dX11_count_21 rfl ?_
        refine xt_ald dX11_count_22 (by first | exact sh0 | exact sh1 | rfl | assumption) (by exact x_inb f1 (Int32.not_le.mpr t6) (by decide)) ?_
        exact xt_iret .int dX11_count_23 rfl (by first | rfl | assumption) ⟨by rw [if_neg f1, if_neg (show ¬ nI 3 ≤ a1 from Int32.not_le.mpr t6)], x_keep.rf μ⟩
      · refine xt_bipush (-2) dX11_count_9 (by decide) ?_
        refine xt_goto 23 dX11_count_11 (by decide) ?_
        exact xt_iret .int dX11_count_23 rfl (by first | rfl | assumption) ⟨by rw [if_neg f1, if_pos (show nI 3 ≤ a1 from Int32.not_lt.mp f6)], x_keep.rf μ⟩
  · intro μ w hI
    refine x_K.of (by decide) (Nat.le_of_ble_eq_true rfl) ?_
    show x_T sc 29 mX12_count 0 [.ref 152, .int a1] [] μ w _
    refine xt_aload_n _ dX12_count_0 rfl ?_
    refine xt_iconst (0) dX12_count_1 (by decide) ?_
    refine xt_puti dX12_count_2 kpX12_72 (by first | exact sh152 | rfl | assumption) rfl (by first | rfl | assumption) (by first | rfl | assumption) ?_
    refine xt_iload_n _ dX12_count_5 rfl ?_
    refine xt_iconst (0) dX12_count_6 (by decide) ?_
    refine xt_iconst (2) dX12_count_7 (by decide) ?_
    refine xt_cS _ dX12_count_8 klX12_84 (tX12_in sc _ _ w _ _ _) rfl rfl (Nat.le_of_ble_eq_true rfl) ?_
    refine xt_if_eq 23 dX12_count_11 (by decide) (fun t11 => ?_) (fun f11 => ?_)
    · refine xt_bipush (-2) dX12_count_23 (by decide) ?_
      exact xt_iret .int dX12_count_25 rfl (by first | rfl | assumption) ⟨by rcases s_in_2 t11 with z | z; rw [if_pos z]; rw [if_neg (fun q => absurd (Int32.lt_trans z q) (by decide)), if_pos (x_gt2 z)], (x_keep.u (x_keep.rf μ) (by unfold x_ok; omega))⟩
    · refine xt_aload_n _ dX12_count_14 rfl ?_
      refine xt_getr _ dX12_count_15 kfX12_23 (by first | exact sh152 | rfl | assumption) rfl ?_
      refine xt_iload_n _ dX12_count_18 rfl ?_
      refine xt_ald dX12_count_19 (by first | exact sh152 | rfl | assumption) (by exact x_inb (s_in_1 f11).1 (fun z => (s_in_1 f11).2 (Int32.lt_of_lt_of_le (by decide) z)) (by decide)) ?_
      refine xt_goto 25 dX12_count_20 (by decide) ?_
      exact xt_iret .int dX12_count_25 rfl (by first | rfl | assumption) ⟨by obtain ⟨z1, z2⟩ := s_in_1 f11; rw [if_neg z1, if_neg (fun z => z2 (Int32.lt_of_lt_of_le (by decide) z))]; obtain ⟨j, hj, rfl⟩ := nI_of z1; have hj3 : j < 3 := (by rcases Nat.lt_or_ge j 3 with q | q; exact q; exact absurd (Int32.lt_of_lt_of_le (b := nI 3) (by decide) (nI_le q hj)) z2); rw [nI_clamp hj]; obtain ⟨c, _, q1, q2, _⟩ := hI.2.1.2.2.2.2 j hj3; have q1 : μ 3 j = nI c := q1; have q2 : μ 157 j = nI c := (by rw [← q2]; congr 1; omega); rw [q1]; exact congrArg (fun z => some (Value.int z)) q2, (x_keep.u (x_keep.rf μ) (by unfold x_ok; omega))⟩
set_option maxHeartbeats 1000000 in
theorem st_end (sc : Nat × (Nat → Int32)) (a1 : Int32) : x_stI sc (fun μ _ => x_Inv μ) (fun μ _ => x_Inv μ) mX11_end mX12_end [.int a1] := by
  intro μ w hI
  obtain ⟨⟨n, n1, n2, n3, n4⟩, i2, i3, i4, -⟩ := id hI.2.1
  have n2 : μ 1 1 = nI n := n2
  have n3 : μ 154 0 = nI n := n3
  by_cases hr : 0 ≤ a1 ∧ a1 ≤ nI n
  · obtain ⟨j, hj, rfl⟩ := x_rng (by omega) hr
    have hC : x_K sc 29 mX11_end [.ref 0, .int (nI j)] μ w (x_p (some (.int (nI j))) (x_u μ 1 (upd (μ 1) 1 (nI j))) w) := by
      refine x_K.of (by decide) (Nat.le_of_ble_eq_true rfl) ?_
      show x_T sc 29 mX11_end 0 [.ref 0, .int (nI j)] [] μ w _
      refine xt_iload_n _ dX11_end_0 rfl ?_
      refine xt_if_lt 15 dX11_end_1 (by decide) (fun q => absurd q (nI_pos (by omega))) (fun _ => ?_)
      refine xt_iload_n _ dX11_end_4 rfl ?_
      refine xt_aload_n _ dX11_end_5 rfl ?_
      refine xt_getr _ dX11_end_6 kfX11_10 (by first | exact sh0 | exact sh1 | rfl | assumption) rfl ?_
      refine xt_geti dX11_end_9 kfX11_59 (by first | exact sh0 | exact sh1 | rfl | assumption) rfl ?_
      refine xt_icmp_le 17 dX11_end_12 (by decide) (fun _ => ?_) (fun q => absurd (by rw [n2]; exact hr.2) q)
      refine xt_aload_n _ dX11_end_17 rfl ?_
      refine xt_getr _ dX11_end_18 kfX11_10 (by first | exact sh0 | exact sh1 | rfl | assumption) rfl ?_
      refine xt_iload_n _ dX11_end_21 rfl ?_
      refine xt_puti dX11_end_22 kpX11_59 (by first | exact sh0 | exact sh1 | rfl | assumption) rfl (by first | rfl | assumption) (by first | rfl | assumption) ?_
      refine xt_iload_n _ dX11_end_25 rfl ?_
      exact xt_iret .int dX11_end_26 rfl (by first | rfl | assumption) ⟨rfl, rfl, rfl⟩
    have hM : ∀ w1, x_K sc 29 mX12_end [.ref 152, .int (nI j)] (x_u μ 1 (upd (μ 1) 1 (nI j))) w1 (x_p (some (.int (nI j))) (x_u (x_u (x_u μ 1 (upd (μ 1) 1 (nI j))) 152 (upd (μ 152) 0 0)) 154 (upd (μ 154) 0 (nI j))) w1) := by
      intro w1
      refine x_K.of (by decide) (Nat.le_of_ble_eq_true rfl) ?_
      show x_T sc 29 mX12_end 0 [.ref 152, .int (nI j)] [] (x_u μ 1 (upd (μ 1) 1 (nI j))) w1 _
      refine xt_aload_n _ dX12_end_0 rfl ?_
      refine xt_iconst (0) dX12_end_1 (by decide) ?_
      refine xt_puti dX12_end_2 kpX12_72 (by first | exact sh152 | rfl | assumption) rfl (by first | rfl | assumption) (by first | rfl | assumption) ?_
      refine xt_iload_n _ dX12_end_5 rfl ?_
      refine xt_iconst (0) dX12_end_6 (by decide) ?_
      refine xt_aload_n _ dX12_end_7 rfl ?_
      refine xt_getr _ dX12_end_8 kfX12_13 (by first | exact sh152 | rfl | assumption) rfl ?_
      refine xt_iconst (0) dX12_end_11 (by decide) ?_
      refine xt_ald dX12_end_12 (by first | exact sh152 | rfl | assumption) (by unfold vp_in; decide) ?_
      refine xt_cS _ dX12_end_13 klX12_84 (tX12_in sc _ _ w1 _ _ _) rfl rfl (Nat.le_of_ble_eq_true rfl) ?_
      refine xt_if_ne 21 dX12_end_16 (by decide) (fun _ => ?_) (fun q => absurd q (by show ¬ s_in (nI j) 0 (μ 154 0) = 0; rw [n3]; exact s_in_nI hj (by omega)))
      refine xt_aload_n _ dX12_end_21 rfl ?_
      refine xt_getr _ dX12_end_22 kfX12_13 (by first | exact sh152 | rfl | assumption) rfl ?_
      refine xt_iconst (0) dX12_end_25 (by decide) ?_
      refine xt_iload_n _ dX12_end_26 rfl ?_
      refine xt_ast dX12_end_27 (by first | exact sh152 | rfl | assumption) (by unfold vp_in; decide) ?_
      refine xt_iload_n _ dX12_end_28 rfl ?_
      exact xt_iret .int dX12_end_29 rfl (by first | rfl | assumption) ⟨rfl, rfl, rfl⟩
    refine hC.mono (fun r μ1 w1 q => ⟨nI j, q.1, ?_⟩)
    obtain ⟨-, rfl, rfl⟩ := q
    refine (hM _).mono (fun r2 μ2 w2 q2 => ⟨q2.1, ?_⟩)
    obtain ⟨-, rfl, rfl⟩ := q2
    refine hI.head ?_ (fun i hi => rfl) (fun q hq => ⟨?_, rfl, rfl⟩) ⟨⟨j, by omega, rfl, rfl, fun i hi => n4 i (by omega)⟩, i2, i3, i4⟩
    · intro a ha h1 h2 h3 h4 h5 h6
      have : a ≠ 152 := by unfold x_ok at ha; omega
      rw [x_u_ne h4, x_u_ne this, x_u_ne h1]
    · show upd (μ 154) 0 (nI j) q = μ 154 q
      simp [upd, show q ≠ 0 by omega]
  · have hC : x_K sc 29 mX11_end [.ref 0, .int a1] μ w (x_p (some (.int (-1))) μ w) := by
      refine x_K.of (by decide) (Nat.le_of_ble_eq_true rfl) ?_
      show x_T sc 29 mX11_end 0 [.ref 0, .int a1] [] μ w _
      refine xt_iload_n _ dX11_end_0 rfl ?_
      refine xt_if_lt 15 dX11_end_1 (by decide) (fun t1 => ?_) (fun f1 => ?_)
      · refine xt_iconst (-1) dX11_end_15 (by decide) ?_
        exact xt_iret .int dX11_end_16 rfl (by first | rfl | assumption) ⟨rfl, rfl, rfl⟩
      · refine xt_iload_n _ dX11_end_4 rfl ?_
        refine xt_aload_n _ dX11_end_5 rfl ?_
        refine xt_getr _ dX11_end_6 kfX11_10 (by first | exact sh0 | exact sh1 | rfl | assumption) rfl ?_
        refine xt_geti dX11_end_9 kfX11_59 (by first | exact sh0 | exact sh1 | rfl | assumption) rfl ?_
        refine xt_icmp_le 17 dX11_end_12 (by decide) (fun t12 => ?_) (fun f12 => ?_)
        · rw [n2] at t12
          exact absurd ⟨Int32.not_lt.mp f1, t12⟩ hr
        · refine xt_iconst (-1) dX11_end_15 (by decide) ?_
          exact xt_iret .int dX11_end_16 rfl (by first | rfl | assumption) ⟨rfl, rfl, rfl⟩
    have hM : ∀ w1, x_K sc 29 mX12_end [.ref 152, .int a1] μ w1 (fun r μ' _ => r = some (.int (-1)) ∧ x_keep μ μ') := by
      intro w1
      refine x_K.of (by decide) (Nat.le_of_ble_eq_true rfl) ?_
      show x_T sc 29 mX12_end 0 [.ref 152, .int a1] [] μ w1 _
      refine xt_aload_n _ dX12_end_0 rfl ?_
      refine xt_iconst (0) dX12_end_1 (by decide) ?_
      refine xt_puti dX12_end_2 kpX12_72 (by first | exact sh152 | rfl | assumption) rfl (by first | rfl | assumption) (by first | rfl | assumption) ?_
      refine xt_iload_n _ dX12_end_5 rfl ?_
      refine xt_iconst (0) dX12_end_6 (by decide) ?_
      refine xt_aload_n _ dX12_end_7 rfl ?_
      refine xt_getr _ dX12_end_8 kfX12_13 (by first | exact sh152 | rfl | assumption) rfl ?_
      refine xt_iconst (0) dX12_end_11 (by decide) ?_
      refine xt_ald dX12_end_12 (by first | exact sh152 | rfl | assumption) (by unfold vp_in; decide) ?_
      refine xt_cS _ dX12_end_13 klX12_84 (tX12_in sc _ _ w1 _ _ _) rfl rfl (Nat.le_of_ble_eq_true rfl) ?_
      refine xt_if_ne 21 dX12_end_16 (by decide) (fun t16 => ?_) (fun f16 => ?_)
      · have z := s_in_1 t16
        have z2 : ¬ μ 154 0 < a1 := z.2
        rw [n3] at z2
        exact absurd ⟨Int32.not_lt.mp z.1, Int32.not_lt.mp z2⟩ hr
      · refine xt_iconst (-1) dX12_end_19 (by decide) ?_
        exact xt_iret .int dX12_end_20 rfl (by first | rfl | assumption) ⟨rfl, (x_keep.u (x_keep.rf μ) (by unfold x_ok; omega))⟩
    refine hC.mono (fun r μ1 w1 q => ⟨-1, q.1, ?_⟩)
    obtain ⟨-, rfl, rfl⟩ := q
    exact (hM _).mono (fun r2 μ2 w2 q2 => ⟨q2.1, hI.keep q2.2⟩)
