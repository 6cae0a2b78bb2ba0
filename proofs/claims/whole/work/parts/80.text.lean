/-! the step of text -/
def t_own (s f a : Nat) : Prop := (s = 0 ∧ 7 + 11 * f ≤ a ∧ a ≤ 12 + 11 * f) ∨ (s = 1 ∧ 13 + 11 * f ≤ a ∧ a ≤ 14 + 11 * f) ∨ (s = 2 ∧ 15 + 11 * f ≤ a ∧ a ≤ 17 + 11 * f)
def t_row (μ μ' : x_Me) (s f : Nat) : Prop := (∀ j, (s = 0 → j < 125 * f ∨ 125 * f + 125 ≤ j) → μ' 158 j = μ 158 j) ∧ (∀ j, (s = 1 → j < 161 * f ∨ 161 * f + 161 ≤ j) → μ' 159 j = μ 159 j) ∧ ∀ j, (s = 2 → j < 18 * f ∨ 18 * f + 18 ≤ j) → μ' 160 j = μ 160 j
theorem i_T.oth {μ μ' : x_Me} {q s f s' f' : Nat} (hq : q < 4) (hs : s < 3) (hf : f < 2) (hf' : f' < 2) (hne : q = 0 → ¬ (s' = s ∧ f' = f)) (hs' : s' < 3) (hlo : ∀ a, 30 ≤ a → a ≤ 114 → μ' a = μ a) (hcell : ∀ a, 7 ≤ a → a ≤ 28 → ¬ t_own s f a → μ' a = μ a) (hrow : t_row μ μ' s f) (hi : i_T μ q s' f') : i_T μ' q s' f' := by
  have hb := x_b_le hq
  have hb0 : q = 0 → x_b q = 1 := fun h => by rw [h]; rfl
  have hb1 : q ≠ 0 → x_b q = 2 + 28 * q := fun h => if_neg h
  have hs3 : s' = 0 ∨ s' = 1 ∨ s' = 2 := by omega
  have cell : ∀ a, x_b q + 6 ≤ a → a ≤ x_b q + 27 → (q = 0 → ¬ t_own s f a) → μ' a = μ a := fun a h1 h2 h3 => by
    by_cases h0 : q = 0
    · have := hb0 h0
      exact hcell a (by omega) (by omega) (h3 h0)
    · have := hb1 h0
      exact hlo a (by omega) (by omega)
  rcases hs3 with rfl | rfl | rfl
  · obtain ⟨F, h1, h2, h3⟩ := hi
    refine ⟨F, h1, h2.cg (fun j hj => cell _ (by omega) (by omega) (fun h0 => ?_)), fun i hi => ?_⟩
    · have := hb0 h0
      have := hne h0
      unfold t_own; omega
    · rw [hrow.1 _ (fun h0 => ?_)]
      · exact h3 i hi
      · by_cases hq0 : q = 0
        · have := hne hq0; omega
        · omega
  · obtain ⟨D, n, h1, h2, h3, h4, h5, h6⟩ := hi
    have hno : q = 0 → ∀ a, x_b q + 12 + 11 * f' ≤ a → a ≤ x_b q + 13 + 11 * f' → ¬ t_own s f a := fun h0 a ha1 ha2 => by
      have := hb0 h0
      have := hne h0
      unfold t_own; omega
    refine ⟨D, n, h1, h2, by rw [cell _ (by omega) (by omega) (fun h0 => hno h0 _ (by omega) (by omega))]; exact h3, fun i hi => ?_, fun i hi => ?_, h6⟩
    · rw [cell _ (by omega) (by omega) (fun h0 => hno h0 _ (by omega) (by omega))]; exact h4 i hi
    · rw [hrow.2.1 _ (fun h0 => ?_)]
      · exact h5 i hi
      · by_cases hq0 : q = 0
        · have := hne hq0; omega
        · omega
  · obtain ⟨L, h1, h2, h3, h4, h5, h6⟩ := hi
    have hno : q = 0 → ∀ a, x_b q + 14 + 11 * f' ≤ a → a ≤ x_b q + 16 + 11 * f' → ¬ t_own s f a := fun h0 a ha1 ha2 => by
      have := hb0 h0
      have := hne h0
      unfold t_own; omega
    refine ⟨L, h1, h2, by rw [cell _ (by omega) (by omega) (fun h0 => hno h0 _ (by omega) (by omega))]; exact h3, by rw [cell _ (by omega) (by omega) (fun h0 => hno h0 _ (by omega) (by omega))]; exact h4, ?_, fun i hi => ?_⟩
    · rw [cell (x_b q + 15 + 11 * f') (by omega) (by omega) (fun h0 => hno h0 _ (by omega) (by omega)), cell (x_b q + 16 + 11 * f') (by omega) (by omega) (fun h0 => hno h0 _ (by omega) (by omega))]; exact h5
    · rw [hrow.2.2 _ (fun h0 => ?_)]
      · exact h6 i hi
      · by_cases hq0 : q = 0
        · have := hne hq0; omega
        · omega
/-- the new text, on both sides -/
theorem i_T.new {μ : x_Me} {s f : Nat} {G : Nat → Nat} (hs : s < 3) (hC : t_C μ s f G) (h0 : s = 0 → ∀ i, i < 125 → μ 158 (125 * f + i) = s_tv 0 i (G i)) (h1 : s = 1 → ∀ i, i < 161 → μ 159 (161 * f + i) = s_tv 1 i (G i)) (h2 : s = 2 → ∀ i, i < 18 → μ 160 (18 * f + i) = s_tv 2 i (G i)) : i_T μ 0 s f := by
  obtain ⟨hW, c0, c1, c2⟩ := hC
  have hs3 : s = 0 ∨ s = 1 ∨ s = 2 := by omega
  rcases hs3 with rfl | rfl | rfl
  · refine ⟨G, hW, c0 rfl, fun i hi => ?_⟩
    rw [show 250 * 0 + 125 * f + i = 125 * f + i by omega]; exact h0 rfl i hi
  · have hW : gd_W G := hW
    obtain ⟨w1, w2⟩ := hW
    obtain ⟨k0, k1⟩ := c1 rfl
    refine ⟨fun i => s_tv 1 i (G i), G 0, w1, rfl, k0, fun i hi => (k1 i hi).trans (if_pos ⟨rfl, by omega⟩).symm, fun i hi => ?_, fun k hk => ?_⟩
    · rw [show 322 * 0 + 161 * f + i = 161 * f + i by omega]; exact h1 rfl i (by omega)
    · have h := w2 k hk
      have e1 : s_tv 1 (1 + 4 * k) (G (1 + 4 * k)) = eI (G (1 + 4 * k)) := if_pos ⟨rfl, by omega⟩
      have e2 : s_tv 1 (2 + 4 * k) (G (2 + 4 * k)) = eI (G (2 + 4 * k)) := if_pos ⟨rfl, by omega⟩
      have e3 : s_tv 1 (3 + 4 * k) (G (3 + 4 * k)) = eI (G (3 + 4 * k)) := if_pos ⟨rfl, by omega⟩
      have e4 : s_tv 1 (4 + 4 * k) (G (4 + 4 * k)) = eI (G (4 + 4 * k)) := if_pos ⟨rfl, by omega⟩
      unfold i_dw at h ⊢
      simp only [e1, e2, e3, e4]
      exact h
  · have hW : gl_W G := hW
    obtain ⟨w1, w2, w3⟩ := hW
    obtain ⟨k0, k1, k2⟩ := c2 rfl
    refine ⟨G, w1, w2, k0, k1, fun k hk => ⟨(w3 k hk).1, (w3 k hk).2, (k2 k hk).1, (k2 k hk).2⟩, fun i hi => ?_⟩
    rw [show 36 * 0 + 18 * f + i = 18 * f + i by omega]; exact h2 rfl i (by omega)
theorem x_Inv.text {μ μ' : x_Me} {s f c : Nat} (hI : x_Inv μ) (hs : s < 3) (hf : f < 2) (hfc : f ≤ c) (hc : c ≤ 2) (e3 : μ 3 s = nI c) (h114 : μ' 114 = μ 114) (h172 : μ' 172 = μ 172) (hlo : ∀ a, 30 ≤ a → a ≤ 114 → μ' a = μ a) (h2 : μ' 2 = μ 2) (h153 : μ' 153 = μ 153) (h15 : ∀ q, q ≠ 0 → μ' 154 q = μ 154 q ∧ μ' 155 q = μ 155 q ∧ μ' 156 q = μ 156 q) (h11 : μ' 1 1 = 0) (h154 : μ' 154 0 = 0) (h12 : μ' 1 2 = μ' 155 0) (h13 : μ' 1 3 = μ' 156 0) (h3 : μ' 3 = upd (μ 3) s (nI (max c (f + 1)))) (h157 : μ' 157 = upd (μ 157) s (nI (max c (f + 1)))) (hcell : ∀ a, 7 ≤ a → a ≤ 28 → ¬ t_own s f a → μ' a = μ a) (hrow : t_row μ μ' s f) (hT : i_T μ' 0 s f) : x_Inv μ' := by
  obtain ⟨i1, i2, i3⟩ := hI
  refine ⟨by rw [h114, h172]; exact i1, ⟨⟨0, by decide, h11, h154, fun i hi => absurd hi (Nat.not_lt_zero i)⟩, ?_, h12, h13, fun s' hs' => ?_⟩, fun k hk ht => ?_⟩
  · show ∀ i, i < 600 → fits .byte (.int (μ' 2 i)) = true
    rw [h2]; exact i2.2.1
  · obtain ⟨c', c1, c2, c3, c4⟩ := i2.2.2.2.2 s' hs'
    have c2 : μ 3 s' = nI c' := c2
    have c3 : μ 157 (3 * 0 + s') = nI c' := c3
    rw [show 3 * 0 + s' = s' by omega] at c3
    by_cases he : s' = s
    · subst he
      have ecc : c' = c := (nI_eq (by omega) (by omega)).mp (c2.symm.trans e3)
      subst ecc
      refine ⟨max c' (f + 1), by omega, ?_, ?_, fun g hg => ?_⟩
      · show μ' 3 s' = _; rw [h3, pk_us]
      · rw [show 3 * 0 + s' = s' by omega, h157, pk_us]
      · by_cases hgf : g = f
        · rw [hgf]; exact hT
        · exact (c4 g (by omega)).oth (by decide) hs hf (by omega) (fun _ z => hgf z.2) hs' hlo hcell hrow
    · refine ⟨c', c1, ?_, ?_, fun g hg => (c4 g hg).oth (by decide) hs hf (by omega) (fun _ z => he z.1) hs' hlo hcell hrow⟩
      · show μ' 3 s' = _; rw [h3, pk_un he]; exact c2
      · rw [show 3 * 0 + s' = s' by omega, h157, pk_un he]; exact c3
  · rw [h114] at ht
    obtain ⟨⟨n, n1, n2, n3, n4⟩, s2, s3, s4, s5⟩ := i3 k hk ht
    have hb : x_b (k + 1) = 2 + 28 * (k + 1) := if_neg (by omega)
    obtain ⟨q1, q2, q3⟩ := h15 (k + 1) (by omega)
    refine ⟨⟨n, n1, by rw [hlo _ (by omega) (by omega)]; exact n2, by rw [q1]; exact n3, fun i hi => by rw [hlo _ (by omega) (by omega), h153]; exact n4 i hi⟩, by rw [hlo _ (by omega) (by omega)]; exact s2, by rw [hlo _ (by omega) (by omega), q2]; exact s3, by rw [hlo _ (by omega) (by omega), q3]; exact s4, fun s' hs' => ?_⟩
    obtain ⟨c', c1, c2, c3, c4⟩ := s5 s' hs'
    exact ⟨c', c1, by rw [hlo _ (by omega) (by omega)]; exact c2, by rw [h157, pk_un (by omega)]; exact c3, fun g hg => (c4 g hg).oth (by omega) hs hf (by omega) (fun z => absurd z (by omega)) hs' hlo hcell hrow⟩
/-- no text has come -/
theorem x_Inv.notext {μ μ' : x_Me} (hI : x_Inv μ) (hk : ∀ a, x_ok a → a ≠ 1 → a ≠ 154 → a ≠ 155 → a ≠ 156 → μ' a = μ a) (h15 : ∀ q, q ≠ 0 → μ' 154 q = μ 154 q ∧ μ' 155 q = μ 155 q ∧ μ' 156 q = μ 156 q) (h11 : μ' 1 1 = 0) (h154 : μ' 154 0 = 0) (h12 : μ' 1 2 = μ' 155 0) (h13 : μ' 1 3 = μ' 156 0) : x_Inv μ' := by
  refine hI.head (fun a h1 h2 _ _ h5 h6 h7 => hk a h1 h2 h5 h6 h7) (fun i _ => by rw [hk 153 (Or.inr (Or.inl ⟨by decide, by decide⟩)) (by decide) (by decide) (by decide) (by decide)]) (fun q hq => h15 q (by omega)) ⟨⟨0, by decide, h11, h154, fun i hi => absurd hi (Nat.not_lt_zero i)⟩, ?_, h12, h13⟩
  show ∀ i, i < 600 → fits .byte (.int (μ' 2 i)) = true
  rw [hk 2 (Or.inl (by decide)) (by decide) (by decide) (by decide) (by decide)]; exact hI.2.1.2.1
section TEXT
variable (sc : Nat × (Nat → Int32)) (d : Nat) (μ : x_Me) (w : Int64)
set_option maxHeartbeats 1000000 in
theorem tX12_textO (a1 a2 : Int32) (h : ¬ (0 ≤ a1 ∧ a1 ≤ nI 2)) : x_K sc (d + 8) mX12_text [.ref 152, .int a1, .int a2] μ w (fun r μ' _ => r = some (.int (-2)) ∧ μ' 154 0 = 0 ∧ μ' 155 0 = 0 ∧ μ' 156 0 = -1 ∧ (∀ j, j ≠ 0 → μ' 154 j = μ 154 j ∧ μ' 155 j = μ 155 j ∧ μ' 156 j = μ 156 j) ∧ ∀ a, a ≠ 152 → a ≠ 154 → a ≠ 155 → a ≠ 156 → μ' a = μ a) := by
  refine x_K.of (by decide) (Nat.le_of_ble_eq_true rfl) ?_
  show x_T sc (d + 8) mX12_text 0 [.ref 152, .int a1, .int a2, .retAddr 0] [] μ w _
  refine xt_aload_n _ dX12_text_0 rfl ?_
  refine xt_iconst (0) dX12_text_1 (by decide) ?_
  refine xt_puti dX12_text_2 kpX12_72 (by first | exact sh0 | exact sh1 | exact sh115 | exact sh152 | rfl | assumption) rfl (by first | rfl | assumption) (by first | rfl | assumption) ?_
  refine xt_aload_n _ dX12_text_5 rfl ?_
  refine xt_aload_n _ dX12_text_6 rfl ?_
  refine xt_getr _ dX12_text_7 kfX12_13 (by first | exact sh0 | exact sh1 | exact sh115 | exact sh152 | rfl | assumption) rfl ?_
  refine xt_iconst (0) dX12_text_10 (by decide) ?_
  refine xt_ald dX12_text_11 (by first | exact sh0 | exact sh1 | exact sh115 | exact sh152 | rfl | assumption) (by unfold vp_in; decide) ?_
  refine xt_puti dX12_text_12 kpX12_95 (by first | exact sh0 | exact sh1 | exact sh115 | exact sh152 | rfl | assumption) rfl (by first | rfl | assumption) (by first | rfl | assumption) ?_
  refine xt_aload_n _ dX12_text_15 rfl ?_
  refine xt_getr _ dX12_text_16 kfX12_13 (by first | exact sh0 | exact sh1 | exact sh115 | exact sh152 | rfl | assumption) rfl ?_
  refine xt_iconst (0) dX12_text_19 (by decide) ?_
  refine xt_iconst (0) dX12_text_20 (by decide) ?_
  refine xt_ast dX12_text_21 (by first | exact sh0 | exact sh1 | exact sh115 | exact sh152 | rfl | assumption) (by unfold vp_in; decide) ?_
  refine xt_aload_n _ dX12_text_22 rfl ?_
  refine xt_getr _ dX12_text_23 kfX12_17 (by first | exact sh0 | exact sh1 | exact sh115 | exact sh152 | rfl | assumption) rfl ?_
  refine xt_iconst (0) dX12_text_26 (by decide) ?_
  refine xt_iconst (0) dX12_text_27 (by decide) ?_
  refine xt_ast dX12_text_28 (by first | exact sh0 | exact sh1 | exact sh115 | exact sh152 | rfl | assumption) (by unfold vp_in; decide) ?_
  refine xt_aload_n _ dX12_text_29 rfl ?_
  refine xt_getr _ dX12_text_30 kfX12_20 (by first | exact sh0 | exact sh1 | exact sh115 | exact sh152 | rfl | assumption) rfl ?_
  refine xt_iconst (0) dX12_text_33 (by decide) ?_
  refine xt_iconst (-1) dX12_text_34 (by decide) ?_
  refine xt_ast dX12_text_35 (by first | exact sh0 | exact sh1 | exact sh115 | exact sh152 | rfl | assumption) (by unfold vp_in; decide) ?_
  refine xt_iload_n _ dX12_text_36 rfl ?_
  refine xt_iconst (0) dX12_text_37 (by decide) ?_
  refine xt_iconst (2) dX12_text_38 (by decide) ?_
  refine xt_cS _ dX12_text_39 klX12_84 (tX12_in sc _ _ _ _ _ _) rfl rfl (Nat.le_of_ble_eq_true rfl) ?_
  refine xt_if_eq 72 dX12_text_42 (by decide) (fun _ => ?_) (fun q => absurd (s_in_out h) q)
  refine xt_bipush (-2) dX12_text_72 (by decide) ?_
  refine xt_iret .int dX12_text_74 rfl (by first | rfl | assumption) ?_
  refine ⟨rfl, rfl, rfl, rfl, fun j hj => ⟨?_, ?_, ?_⟩, fun a h1 h2 h3 h4 => ?_⟩
  · rw [x_u_ne (by decide), x_u_ne (by decide), x_u_eq, cl0, pk_un hj, x_u_ne (by decide), x_u_ne (by decide)]
  · rw [x_u_ne (by decide), x_u_eq, cl0, pk_un hj, x_u_ne (by decide), x_u_ne (by decide), x_u_ne (by decide)]
  · rw [x_u_eq, cl0, pk_un hj, x_u_ne (by decide), x_u_ne (by decide), x_u_ne (by decide), x_u_ne (by decide)]
  · rw [x_u_ne h4, x_u_ne h3, x_u_ne h2, x_u_ne h1, x_u_ne h1]
set_option maxHeartbeats 1000000 in
theorem tX12_textM (s c : Nat) (hs : s < 3) (hc : c ≤ 2) (e157 : μ 157 s = nI c) (a2 : Int32) (hA : a2 = -1 → c = 2) (hB : a2 ≠ -1 → (if a2 < 0 then (0 : Int32) else if a2 < nI c then 1 else 0) = 0) : x_K sc (d + 8) mX12_text [.ref 152, .int (nI s), .int a2] μ w (fun r μ' _ => r = some (.int (-2)) ∧ μ' 154 0 = 0 ∧ μ' 155 0 = 0 ∧ μ' 156 0 = -1 ∧ (∀ j, j ≠ 0 → μ' 154 j = μ 154 j ∧ μ' 155 j = μ 155 j ∧ μ' 156 j = μ 156 j) ∧ ∀ a, a ≠ 152 → a ≠ 154 → a ≠ 155 → a ≠ 156 → μ' a = μ a) := by
  refine x_K.of (by decide) (Nat.le_of_ble_eq_true rfl) ?_
  show x_T sc (d + 8) mX12_text 0 [.ref 152, .int (nI s), .int a2, .retAddr 0] [] μ w _
  refine xt_aload_n _ dX12_text_0 rfl ?_
  refine xt_iconst (0) dX12_text_1 (by decide) ?_
  refine xt_puti dX12_text_2 kpX12_72 (by first | exact sh0 | exact sh1 | exact sh115 | exact sh152 | rfl | assumption) rfl (by first | rfl | assumption) (by first | rfl | assumption) ?_
  refine xt_aload_n _ dX12_text_5 rfl ?_
  refine xt_aload_n _ dX12_text_6 rfl ?_
  refine xt_getr _ dX12_text_7 kfX12_13 (by first | exact sh0 | exact sh1 | exact sh115 | exact sh152 | rfl | assumption) rfl ?_
  refine xt_iconst (0) dX12_text_10 (by decide) ?_
  refine xt_ald dX12_text_11 (by first | exact sh0 | exact sh1 | exact sh115 | exact sh152 | rfl | assumption) (by unfold vp_in; decide) ?_
  refine xt_puti dX12_text_12 kpX12_95 (by first | exact sh0 | exact sh1 | exact sh115 | exact sh152 | rfl | assumption) rfl (by first | rfl | assumption) (by first | rfl | assumption) ?_
  refine xt_aload_n _ dX12_text_15 rfl ?_
  refine xt_getr _ dX12_text_16 kfX12_13 (by first | exact sh0 | exact sh1 | exact sh115 | exact sh152 | rfl | assumption) rfl ?_
  refine xt_iconst (0) dX12_text_19 (by decide) ?_
  refine xt_iconst (0) dX12_text_20 (by decide) ?_
  refine xt_ast dX12_text_21 (by first | exact sh0 | exact sh1 | exact sh115 | exact sh152 | rfl | assumption) (by unfold vp_in; decide) ?_
  refine xt_aload_n _ dX12_text_22 rfl ?_
  refine xt_getr _ dX12_text_23 kfX12_17 (by first | exact sh0 | exact sh1 | exact sh115 | exact sh152 | rfl | assumption) rfl ?_
  refine xt_iconst (0) dX12_text_26 (by decide) ?_
  refine xt_iconst (0) dX12_text_27 (by decide) ?_
  refine xt_ast dX12_text_28 (by first | exact sh0 | exact sh1 | exact sh115 | exact sh152 | rfl | assumption) (by unfold vp_in; decide) ?_
  refine xt_aload_n _ dX12_text_29 rfl ?_
  refine xt_getr _ dX12_text_30 kfX12_20 (by first | exact sh0 | exact sh1 | exact sh115 | exact sh152 | rfl | assumption) rfl ?_
  refine xt_iconst (0) dX12_text_33 (by decide) ?_
  refine xt_iconst (-1) dX12_text_34 (by decide) ?_
  refine xt_ast dX12_text_35 (by first | exact sh0 | exact sh1 | exact sh115 | exact sh152 | rfl | assumption) (by unfold vp_in; decide) ?_
  obtain ⟨μ1, hμ1⟩ : ∃ ν, (x_u (x_u (x_u (x_u (x_u μ 152 (upd (μ 152) 0 0)) 152 (upd ((x_u μ 152 (upd (μ 152) 0 0)) 152) 10 ((x_u μ 152 (upd (μ 152) 0 0)) 154 (0 : Int32).toNatClampNeg))) 154 (upd ((x_u (x_u μ 152 (upd (μ 152) 0 0)) 152 (upd ((x_u μ 152 (upd (μ 152) 0 0)) 152) 10 ((x_u μ 152 (upd (μ 152) 0 0)) 154 (0 : Int32).toNatClampNeg))) 154) (0 : Int32).toNatClampNeg 0)) 155 (upd ((x_u (x_u (x_u μ 152 (upd (μ 152) 0 0)) 152 (upd ((x_u μ 152 (upd (μ 152) 0 0)) 152) 10 ((x_u μ 152 (upd (μ 152) 0 0)) 154 (0 : Int32).toNatClampNeg))) 154 (upd ((x_u (x_u μ 152 (upd (μ 152) 0 0)) 152 (upd ((x_u μ 152 (upd (μ 152) 0 0)) 152) 10 ((x_u μ 152 (upd (μ 152) 0 0)) 154 (0 : Int32).toNatClampNeg))) 154) (0 : Int32).toNatClampNeg 0)) 155) (0 : Int32).toNatClampNeg 0)) 156 (upd ((x_u (x_u (x_u (x_u μ 152 (upd (μ 152) 0 0)) 152 (upd ((x_u μ 152 (upd (μ 152) 0 0)) 152) 10 ((x_u μ 152 (upd (μ 152) 0 0)) 154 (0 : Int32).toNatClampNeg))) 154 (upd ((x_u (x_u μ 152 (upd (μ 152) 0 0)) 152 (upd ((x_u μ 152 (upd (μ 152) 0 0)) 152) 10 ((x_u μ 152 (upd (μ 152) 0 0)) 154 (0 : Int32).toNatClampNeg))) 154) (0 : Int32).toNatClampNeg 0)) 155 (upd ((x_u (x_u (x_u μ 152 (upd (μ 152) 0 0)) 152 (upd ((x_u μ 152 (upd (μ 152) 0 0)) 152) 10 ((x_u μ 152 (upd (μ 152) 0 0)) 154 (0 : Int32).toNatClampNeg))) 154 (upd ((x_u (x_u μ 152 (upd (μ 152) 0 0)) 152 (upd ((x_u μ 152 (upd (μ 152) 0 0)) 152) 10 ((x_u μ 152 (upd (μ 152) 0 0)) 154 (0 : Int32).toNatClampNeg))) 154) (0 : Int32).toNatClampNeg 0)) 155) (0 : Int32).toNatClampNeg 0)) 156) (0 : Int32).toNatClampNeg (-1))) = ν := ⟨_, rfl⟩
  change x_T _ _ _ _ _ _ (x_u (x_u (x_u (x_u (x_u μ 152 (upd (μ 152) 0 0)) 152 (upd ((x_u μ 152 (upd (μ 152) 0 0)) 152) 10 ((x_u μ 152 (upd (μ 152) 0 0)) 154 (0 : Int32).toNatClampNeg))) 154 (upd ((x_u (x_u μ 152 (upd (μ 152) 0 0)) 152 (upd ((x_u μ 152 (upd (μ 152) 0 0)) 152) 10 ((x_u μ 152 (upd (μ 152) 0 0)) 154 (0 : Int32).toNatClampNeg))) 154) (0 : Int32).toNatClampNeg 0)) 155 (upd ((x_u (x_u (x_u μ 152 (upd (μ 152) 0 0)) 152 (upd ((x_u μ 152 (upd (μ 152) 0 0)) 152) 10 ((x_u μ 152 (upd (μ 152) 0 0)) 154 (0 : Int32).toNatClampNeg))) 154 (upd ((x_u (x_u μ 152 (upd (μ 152) 0 0)) 152 (upd ((x_u μ 152 (upd (μ 152) 0 0)) 152) 10 ((x_u μ 152 (upd (μ 152) 0 0)) 154 (0 : Int32).toNatClampNeg))) 154) (0 : Int32).toNatClampNeg 0)) 155) (0 : Int32).toNatClampNeg 0)) 156 (upd ((x_u (x_u (x_u (x_u μ 152 (upd (μ 152) 0 0)) 152 (upd ((x_u μ 152 (upd (μ 152) 0 0)) 152) 10 ((x_u μ 152 (upd (μ 152) 0 0)) 154 (0 : Int32).toNatClampNeg))) 154 (upd ((x_u (x_u μ 152 (upd (μ 152) 0 0)) 152 (upd ((x_u μ 152 (upd (μ 152) 0 0)) 152) 10 ((x_u μ 152 (upd (μ 152) 0 0)) 154 (0 : Int32).toNatClampNeg))) 154) (0 : Int32).toNatClampNeg 0)) 155 (upd ((x_u (x_u (x_u μ 152 (upd (μ 152) 0 0)) 152 (upd ((x_u μ 152 (upd (μ 152) 0 0)) 152) 10 ((x_u μ 152 (upd (μ 152) 0 0)) 154 (0 : Int32).toNatClampNeg))) 154 (upd ((x_u (x_u μ 152 (upd (μ 152) 0 0)) 152 (upd ((x_u μ 152 (upd (μ 152) 0 0)) 152) 10 ((x_u μ 152 (upd (μ 152) 0 0)) 154 (0 : Int32).toNatClampNeg))) 154) (0 : Int32).toNatClampNeg 0)) 155) (0 : Int32).toNatClampNeg 0)) 156) (0 : Int32).toNatClampNeg (-1))) _ _
  rw [hμ1]
  have g154 : μ1 154 = upd (μ 154) 0 0 := by rw [← hμ1, x_u_ne (by decide), x_u_ne (by decide), x_u_eq, x_u_ne (by decide), x_u_ne (by decide)]; rfl
  have g155 : μ1 155 = upd (μ 155) 0 0 := by rw [← hμ1, x_u_ne (by decide), x_u_eq, x_u_ne (by decide), x_u_ne (by decide), x_u_ne (by decide)]; rfl
  have g156 : μ1 156 = upd (μ 156) 0 (-1) := by rw [← hμ1, x_u_eq, x_u_ne (by decide), x_u_ne (by decide), x_u_ne (by decide), x_u_ne (by decide)]; rfl
  have gf : ∀ a, a ≠ 152 → a ≠ 154 → a ≠ 155 → a ≠ 156 → μ1 a = μ a := fun a h1 h2 h3 h4 => by rw [← hμ1, x_u_ne h4, x_u_ne h3, x_u_ne h2, x_u_ne h1, x_u_ne h1]
  have g157 : μ1 157 s = nI c := by rw [gf 157 (by decide) (by decide) (by decide) (by decide)]; exact e157
  refine xt_iload_n _ dX12_text_36 rfl ?_
  refine xt_iconst (0) dX12_text_37 (by decide) ?_
  refine xt_iconst (2) dX12_text_38 (by decide) ?_
  refine xt_cS _ dX12_text_39 klX12_84 (tX12_in sc _ _ _ _ _ _) rfl rfl (Nat.le_of_ble_eq_true rfl) ?_
  refine xt_if_eq 72 dX12_text_42 (by decide) (fun q => absurd q (s_in_nI (N := 2) (by omega) (by decide))) (fun _ => ?_)
  refine xt_iload_n _ dX12_text_45 rfl ?_
  refine xt_iconst (-1) dX12_text_46 (by decide) ?_
  refine xt_icmp_ne 63 dX12_text_47 (by decide) (fun t47 => ?_) (fun f47 => ?_)
  · refine xt_aload_n _ dX12_text_63 rfl ?_
    refine xt_iload_n _ dX12_text_64 rfl ?_
    refine xt_iload_n _ dX12_text_65 rfl ?_
    refine xt_cV _ dX12_text_66 klX12_231 (tX12_is sc _ μ1 _ s c (by omega) (by omega) g157 a2) sh152 rfl rfl (Nat.le_of_ble_eq_true rfl) ?_
    refine xt_if_ne 75 dX12_text_69 (by decide) (fun q => absurd (hB t47) q) (fun _ => ?_)
    refine xt_bipush (-2) dX12_text_72 (by decide) ?_
    refine xt_iret .int dX12_text_74 rfl (by first | rfl | assumption) ?_
    exact ⟨rfl, by rw [g154, pk_us], by rw [g155, pk_us], by rw [g156, pk_us], fun j hj => ⟨by rw [g154, pk_un hj], by rw [g155, pk_un hj], by rw [g156, pk_un hj]⟩, gf⟩
  · refine xt_aload_n _ dX12_text_50 rfl ?_
    refine xt_getr _ dX12_text_51 kfX12_23 (by first | exact sh0 | exact sh1 | exact sh115 | exact sh152 | rfl | assumption) rfl ?_
    refine xt_iload_n _ dX12_text_54 rfl ?_
    refine xt_ald dX12_text_55 (by first | exact sh0 | exact sh1 | exact sh115 | exact sh152 | rfl | assumption) (by exact vp_in_nI (by omega) (by decide)) ?_
    refine xt_iconst (2) dX12_text_56 (by decide) ?_
    rw [nI_clamp (by omega), g157]
    refine xt_icmp_ne 75 dX12_text_57 (by decide) (fun q => absurd (by rw [hA f47]; rfl) q) (fun _ => ?_)
    refine xt_goto 72 dX12_text_60 (by decide) ?_
    refine xt_bipush (-2) dX12_text_72 (by decide) ?_
    refine xt_iret .int dX12_text_74 rfl (by first | rfl | assumption) ?_
    exact ⟨rfl, by rw [g154, pk_us], by rw [g155, pk_us], by rw [g156, pk_us], fun j hj => ⟨by rw [g154, pk_un hj], by rw [g155, pk_un hj], by rw [g156, pk_un hj]⟩, gf⟩
end TEXT
set_option maxHeartbeats 8000000 in
theorem st_text (sc : Nat × (Nat → Int32)) (a1 a2 : Int32) : x_stI sc (fun μ _ => x_Inv μ) (fun μ _ => x_Inv μ) mX11_text mX12_text [.int a1, .int a2] := by
  intro μ w hI
  obtain ⟨⟨n, hn, n2, n3, n4⟩, hfit, i3, i4, i5⟩ := id hI.2.1
  have n2 : μ 1 1 = nI n := n2
  have hfit : ∀ i, i < 600 → fits .byte (.int (μ 2 i)) = true := hfit
  have hbt : ∀ i, i < n → μ 153 i &&& 255 = nI (t_By μ n i) ∧ t_By μ n i < 256 := fun i hi => by
    have h1 : μ 2 i = μ 153 (600 * 0 + i) := n4 i hi
    rw [show 600 * 0 + i = i by omega] at h1
    have h2 := s_byte (hfit i (by omega))
    rw [← h1, t_By, if_pos hi]
    exact ⟨h2.2.1, h2.2.2⟩
  by_cases ha : 0 ≤ a1 ∧ a1 ≤ nI 2
  · obtain ⟨s, hs2, rfl⟩ := x_rng (N := 2) (by decide) ha
    obtain ⟨c, hc, e3, e157, _⟩ := i5 s (by omega)
    have e3 : μ 3 s = nI c := e3
    have e157 : μ 157 s = nI c := by rw [show 3 * 0 + s = s by omega] at e157; exact e157
    by_cases hm : a2 = -1
    · by_cases hc2 : c < 2
      · subst hm
        have hs3 : s = 0 ∨ s = 1 ∨ s = 2 := by omega
        have hc3 : c = 0 ∨ c = 1 := by omega
        rcases hs3 with rfl | rfl | rfl
        · rcases hc3 with rfl | rfl
          · have hv : (if (-1 : Int32) = -1 then (if 0 < 2 then nI 0 else -1) else if s_hasT 0 (-1) = 0 then -1 else -1) = (0 : Int32) := by decide
            refine (tX11_text00 sc 1 μ w n hn n2 hfit 0 (by omega) e3 _ hv).mono (fun r μ1 w1 q => ⟨_, q.1, ?_⟩)
            obtain ⟨-, k11, k12, k13, kno, kyes⟩ := q
            have kd : ∀ a, 152 ≤ a → μ1 a = μ a := fun a ha => by
              by_cases hz : (s_flt (t_By μ n) n 0).1 = 0
              · exact (kyes hz).2.2 a (by omega) (by omega) (by omega) (by omega)
              · exact kno hz a (by omega) (by omega)
            refine (tX12_text00A sc 21 μ1 w1 n (t_By μ n) hn (by rw [kd 154 (by decide)]; exact n3) (fun i hi => by rw [kd 153 (by decide)]; exact hbt i hi) (fun i hi => if_neg (by omega)) (by rw [kd 157 (by decide)]; exact e157)).mono (fun r2 μ2 w2 q2 => ⟨q2.1, ?_⟩)
            obtain ⟨-, m154, m155, m156, mj, mno, myes⟩ := q2
            have mjj : ∀ q, q ≠ 0 → μ2 154 q = μ 154 q ∧ μ2 155 q = μ 155 q ∧ μ2 156 q = μ 156 q := fun q hq => by
              have := mj q hq
              rw [kd 154 (by decide), kd 155 (by decide), kd 156 (by decide)] at this
              exact this
            by_cases hz : (s_flt (t_By μ n) n 0).1 = 0
            · obtain ⟨y1, y2, y3⟩ := kyes hz
              obtain ⟨z1, z2, z3, z4⟩ := myes hz
              have mf : ∀ a, a ≤ 151 → μ2 a = μ1 a := fun a ha => z4 a (by omega) (by omega) (by omega) (by omega) (by omega) (by omega) (by omega) (by omega)
              refine hI.text (s := 0) (f := 0) (c := 0) (by decide) (by decide) (by omega) (by omega) e3 (by rw [mf 114 (by decide), y3 114 (by decide) (by decide) (by omega) (by omega)]) (by rw [z4 172 (by decide) (by decide) (by decide) (by decide) (by decide) (by decide) (by decide) (by decide), kd 172 (by decide)]) (fun a h1 h2 => by rw [mf a (by omega)]; exact y3 a (by omega) (by omega) (by omega) (by omega)) (by rw [mf 2 (by decide), y3 2 (by decide) (by decide) (by omega) (by omega)]) (by rw [z4 153 (by decide) (by decide) (by decide) (by decide) (by decide) (by decide) (by decide) (by decide), kd 153 (by decide)]) mjj (by rw [mf 1 (by decide)]; exact k11) m154 (by rw [mf 1 (by decide), m155]; exact k12) (by rw [mf 1 (by decide), m156]; exact k13) (by rw [mf 3 (by decide)]; exact y2) (by rw [z3, kd 157 (by decide)]; rfl) (fun a h1 h2 h3 => by rw [mf a (by omega)]; exact y3 a (by omega) (by omega) (by unfold t_own at h3; omega) (by omega)) ⟨fun j hj => ?_, fun j hj => ?_, fun j hj => ?_⟩ (i_T.new (G := (s_rr (t_By μ n) n 0).2.2.2.1) (by decide) ?_ (fun h => ?_) (fun h => ?_) (fun h => ?_))
              · rw [z2 j (hj rfl), kd 158 (by decide)]
              · rw [z4 159 (by decide) (by decide) (by decide) (by decide) (by decide) (by decide) (by decide) (by decide), kd 159 (by decide)]
              · rw [z4 160 (by decide) (by decide) (by decide) (by decide) (by decide) (by decide) (by decide) (by decide), kd 160 (by decide)]
              · obtain ⟨t1, t2, t3, t4⟩ := y1
                refine ⟨t1, fun h => (t2 h).cg (fun j hj => mf _ (by omega)), fun h => ?_, fun h => ?_⟩
                · rw [mf _ (by omega), mf _ (by omega)]; exact t3 h
                · rw [mf _ (by omega), mf _ (by omega), mf _ (by omega)]; exact t4 h
              · exact z1
              · exact absurd h (by decide)
              · exact absurd h (by decide)
            · refine hI.notext (fun a h1 h2 h3 h4 h5 => ?_) mjj ?_ m154 ?_ ?_
              · rw [mno hz a (by unfold x_ok at h1; omega) h3 h4 h5 (by unfold x_ok at h1; omega) (by unfold x_ok at h1; omega)]
                exact kno hz a h2 (by unfold x_ok at h1; omega)
              · rw [mno hz 1 (by decide) (by decide) (by decide) (by decide) (by decide) (by decide)]; exact k11
              · rw [mno hz 1 (by decide) (by decide) (by decide) (by decide) (by decide) (by decide), m155]; exact k12
              · rw [mno hz 1 (by decide) (by decide) (by decide) (by decide) (by decide) (by decide), m156]; exact k13
          · have hv : (if (-1 : Int32) = -1 then (if 1 < 2 then nI 1 else -1) else if s_hasT 1 (-1) = 0 then -1 else -1) = (1 : Int32) := by decide
            refine (tX11_text01 sc 1 μ w n hn n2 hfit 1 (by omega) e3 _ hv).mono (fun r μ1 w1 q => ⟨_, q.1, ?_⟩)
            obtain ⟨-, k11, k12, k13, kno, kyes⟩ := q
            have kd : ∀ a, 152 ≤ a → μ1 a = μ a := fun a ha => by
              by_cases hz : (s_flt (t_By μ n) n 0).1 = 0
              · exact (kyes hz).2.2 a (by omega) (by omega) (by omega) (by omega)
              · exact kno hz a (by omega) (by omega)
            refine (tX12_text01A sc 21 μ1 w1 n (t_By μ n) hn (by rw [kd 154 (by decide)]; exact n3) (fun i hi => by rw [kd 153 (by decide)]; exact hbt i hi) (fun i hi => if_neg (by omega)) (by rw [kd 157 (by decide)]; exact e157)).mono (fun r2 μ2 w2 q2 => ⟨q2.1, ?_⟩)
            obtain ⟨-, m154, m155, m156, mj, mno, myes⟩ := q2
            have mjj : ∀ q, q ≠ 0 → μ2 154 q = μ 154 q ∧ μ2 155 q = μ 155 q ∧ μ2 156 q = μ 156 q := fun q hq => by
              have := mj q hq
              rw [kd 154 (by decide), kd 155 (by decide), kd 156 (by decide)] at this
              exact this
            by_cases hz : (s_flt (t_By μ n) n 0).1 = 0
            · obtain ⟨y1, y2, y3⟩ := kyes hz
              obtain ⟨z1, z2, z3, z4⟩ := myes hz
              have mf : ∀ a, a ≤ 151 → μ2 a = μ1 a := fun a ha => z4 a (by omega) (by omega) (by omega) (by omega) (by omega) (by omega) (by omega) (by omega)
              refine hI.text (s := 0) (f := 1) (c := 1) (by decide) (by decide) (by omega) (by omega) e3 (by rw [mf 114 (by decide), y3 114 (by decide) (by decide) (by omega) (by omega)]) (by rw [z4 172 (by decide) (by decide) (by decide) (by decide) (by decide) (by decide) (by decide) (by decide), kd 172 (by decide)]) (fun a h1 h2 => by rw [mf a (by omega)]; exact y3 a (by omega) (by omega) (by omega) (by omega)) (by rw [mf 2 (by decide), y3 2 (by decide) (by decide) (by omega) (by omega)]) (by rw [z4 153 (by decide) (by decide) (by decide) (by decide) (by decide) (by decide) (by decide) (by decide), kd 153 (by decide)]) mjj (by rw [mf 1 (by decide)]; exact k11) m154 (by rw [mf 1 (by decide), m155]; exact k12) (by rw [mf 1 (by decide), m156]; exact k13) (by rw [mf 3 (by decide)]; exact y2) (by rw [z3, kd 157 (by decide)]; rfl) (fun a h1 h2 h3 => by rw [mf a (by omega)]; exact y3 a (by omega) (by omega) (by unfold t_own at h3; omega) (by omega)) ⟨fun j hj => ?_, fun j hj => ?_, fun j hj => ?_⟩ (i_T.new (G := (s_rr (t_By μ n) n 0).2.2.2.1) (by decide) ?_ (fun h => ?_) (fun h => ?_) (fun h => ?_))
              · rw [z2 j (hj rfl), kd 158 (by decide)]
              · rw [z4 159 (by decide) (by decide) (by decide) (by decide) (by decide) (by decide) (by decide) (by decide), kd 159 (by decide)]
              · rw [z4 160 (by decide) (by decide) (by decide) (by decide) (by decide) (by decide) (by decide) (by decide), kd 160 (by decide)]
              · obtain ⟨t1, t2, t3, t4⟩ := y1
                refine ⟨t1, fun h => (t2 h).cg (fun j hj => mf _ (by omega)), fun h => ?_, fun h => ?_⟩
                · rw [mf _ (by omega), mf _ (by omega)]; exact t3 h
                · rw [mf _ (by omega), mf _ (by omega), mf _ (by omega)]; exact t4 h
              · exact z1
              · exact absurd h (by decide)
              · exact absurd h (by decide)
            · refine hI.notext (fun a h1 h2 h3 h4 h5 => ?_) mjj ?_ m154 ?_ ?_
              · rw [mno hz a (by unfold x_ok at h1; omega) h3 h4 h5 (by unfold x_ok at h1; omega) (by unfold x_ok at h1; omega)]
                exact kno hz a h2 (by unfold x_ok at h1; omega)
              · rw [mno hz 1 (by decide) (by decide) (by decide) (by decide) (by decide) (by decide)]; exact k11
              · rw [mno hz 1 (by decide) (by decide) (by decide) (by decide) (by decide) (by decide), m155]; exact k12
              · rw [mno hz 1 (by decide) (by decide) (by decide) (by decide) (by decide) (by decide), m156]; exact k13
        · rcases hc3 with rfl | rfl
          · have hv : (if (-1 : Int32) = -1 then (if 0 < 2 then nI 0 else -1) else if s_hasT 0 (-1) = 0 then -1 else -1) = (0 : Int32) := by decide
            refine (tX11_text10 sc 1 μ w n hn n2 hfit 0 (by omega) e3 _ hv).mono (fun r μ1 w1 q => ⟨_, q.1, ?_⟩)
            obtain ⟨-, k11, k12, k13, kno, kyes⟩ := q
            have kd : ∀ a, 152 ≤ a → μ1 a = μ a := fun a ha => by
              by_cases hz : (s_flt (t_By μ n) n 1).1 = 0
              · exact (kyes hz).2.2 a (by omega) (by omega) (by omega) (by omega)
              · exact kno hz a (by omega) (by omega)
            refine (tX12_text10A sc 21 μ1 w1 n (t_By μ n) hn (by rw [kd 154 (by decide)]; exact n3) (fun i hi => by rw [kd 153 (by decide)]; exact hbt i hi) (fun i hi => if_neg (by omega)) (by rw [kd 157 (by decide)]; exact e157)).mono (fun r2 μ2 w2 q2 => ⟨q2.1, ?_⟩)
            obtain ⟨-, m154, m155, m156, mj, mno, myes⟩ := q2
            have mjj : ∀ q, q ≠ 0 → μ2 154 q = μ 154 q ∧ μ2 155 q = μ 155 q ∧ μ2 156 q = μ 156 q := fun q hq => by
              have := mj q hq
              rw [kd 154 (by decide), kd 155 (by decide), kd 156 (by decide)] at this
              exact this
            by_cases hz : (s_flt (t_By μ n) n 1).1 = 0
            · obtain ⟨y1, y2, y3⟩ := kyes hz
              obtain ⟨z1, z2, z3, z4⟩ := myes hz
              have mf : ∀ a, a ≤ 151 → μ2 a = μ1 a := fun a ha => z4 a (by omega) (by omega) (by omega) (by omega) (by omega) (by omega) (by omega) (by omega)
              refine hI.text (s := 1) (f := 0) (c := 0) (by decide) (by decide) (by omega) (by omega) e3 (by rw [mf 114 (by decide), y3 114 (by decide) (by decide) (by omega) (by omega)]) (by rw [z4 172 (by decide) (by decide) (by decide) (by decide) (by decide) (by decide) (by decide) (by decide), kd 172 (by decide)]) (fun a h1 h2 => by rw [mf a (by omega)]; exact y3 a (by omega) (by omega) (by omega) (by omega)) (by rw [mf 2 (by decide), y3 2 (by decide) (by decide) (by omega) (by omega)]) (by rw [z4 153 (by decide) (by decide) (by decide) (by decide) (by decide) (by decide) (by decide) (by decide), kd 153 (by decide)]) mjj (by rw [mf 1 (by decide)]; exact k11) m154 (by rw [mf 1 (by decide), m155]; exact k12) (by rw [mf 1 (by decide), m156]; exact k13) (by rw [mf 3 (by decide)]; exact y2) (by rw [z3, kd 157 (by decide)]; rfl) (fun a h1 h2 h3 => by rw [mf a (by omega)]; exact y3 a (by omega) (by omega) (by unfold t_own at h3; omega) (by omega)) ⟨fun j hj => ?_, fun j hj => ?_, fun j hj => ?_⟩ (i_T.new (G := (s_rr (t_By μ n) n 1).2.2.2.1) (by decide) ?_ (fun h => ?_) (fun h => ?_) (fun h => ?_))
              · rw [z4 158 (by decide) (by decide) (by decide) (by decide) (by decide) (by decide) (by decide) (by decide), kd 158 (by decide)]
              · rw [z2 j (hj rfl), kd 159 (by decide)]
              · rw [z4 160 (by decide) (by decide) (by decide) (by decide) (by decide) (by decide) (by decide) (by decide), kd 160 (by decide)]
              · obtain ⟨t1, t2, t3, t4⟩ := y1
                refine ⟨t1, fun h => (t2 h).cg (fun j hj => mf _ (by omega)), fun h => ?_, fun h => ?_⟩
                · rw [mf _ (by omega), mf _ (by omega)]; exact t3 h
                · rw [mf _ (by omega), mf _ (by omega), mf _ (by omega)]; exact t4 h
              · exact absurd h (by decide)
              · exact z1
              · exact absurd h (by decide)
            · refine hI.notext (fun a h1 h2 h3 h4 h5 => ?_) mjj ?_ m154 ?_ ?_
              · rw [mno hz a (by unfold x_ok at h1; omega) h3 h4 h5 (by unfold x_ok at h1; omega) (by unfold x_ok at h1; omega)]
                exact kno hz a h2 (by unfold x_ok at h1; omega)
              · rw [mno hz 1 (by decide) (by decide) (by decide) (by decide) (by decide) (by decide)]; exact k11
              · rw [mno hz 1 (by decide) (by decide) (by decide) (by decide) (by decide) (by decide), m155]; exact k12
              · rw [mno hz 1 (by decide) (by decide) (by decide) (by decide) (by decide) (by decide), m156]; exact k13
          · have hv : (if (-1 : Int32) = -1 then (if 1 < 2 then nI 1 else -1) else if s_hasT 1 (-1) = 0 then -1 else -1) = (1 : Int32) := by decide
            refine (tX11_text11 sc 1 μ w n hn n2 hfit 1 (by omega) e3 _ hv).mono (fun r μ1 w1 q => ⟨_, q.1, ?_⟩)
            obtain ⟨-, k11, k12, k13, kno, kyes⟩ := q
            have kd : ∀ a, 152 ≤ a → μ1 a = μ a := fun a ha => by
              by_cases hz : (s_flt (t_By μ n) n 1).1 = 0
              · exact (kyes hz).2.2 a (by omega) (by omega) (by omega) (by omega)
              · exact kno hz a (by omega) (by omega)
            refine (tX12_text11A sc 21 μ1 w1 n (t_By μ n) hn (by rw [kd 154 (by decide)]; exact n3) (fun i hi => by rw [kd 153 (by decide)]; exact hbt i hi) (fun i hi => if_neg (by omega)) (by rw [kd 157 (by decide)]; exact e157)).mono (fun r2 μ2 w2 q2 => ⟨q2.1, ?_⟩)
            obtain ⟨-, m154, m155, m156, mj, mno, myes⟩ := q2
            have mjj : ∀ q, q ≠ 0 → μ2 154 q = μ 154 q ∧ μ2 155 q = μ 155 q ∧ μ2 156 q = μ 156 q := fun q hq => by
              have := mj q hq
              rw [kd 154 (by decide), kd 155 (by decide), kd 156 (by decide)] at this
              exact this
            by_cases hz : (s_flt (t_By μ n) n 1).1 = 0
            · obtain ⟨y1, y2, y3⟩ := kyes hz
              obtain ⟨z1, z2, z3, z4⟩ := myes hz
              have mf : ∀ a, a ≤ 151 → μ2 a = μ1 a := fun a ha => z4 a (by omega) (by omega) (by omega) (by omega) (by omega) (by omega) (by omega) (by omega)
              refine hI.text (s := 1) (f := 1) (c := 1) (by decide) (by decide) (by omega) (by omega) e3 (by rw [mf 114 (by decide), y3 114 (by decide) (by decide) (by omega) (by omega)]) (by rw [z4 172 (by decide) (by decide) (by decide) (by decide) (by decide) (by decide) (by decide) (by decide), kd 172 (by decide)]) (fun a h1 h2 => by rw [mf a (by omega)]; exact y3 a (by omega) (by omega) (by omega) (by omega)) (by rw [mf 2 (by decide), y3 2 (by decide) (by decide) (by omega) (by omega)]) (by rw [z4 153 (by decide) (by decide) (by decide) (by decide) (by decide) (by decide) (by decide) (by decide), kd 153 (by decide)]) mjj (by rw [mf 1 (by decide)]; exact k11) m154 (by rw [mf 1 (by decide), m155]; exact k12) (by rw [mf 1 (by decide), m156]; exact k13) (by rw [mf 3 (by decide)]; exact y2) (by rw [z3, kd 157 (by decide)]; rfl) (fun a h1 h2 h3 => by rw [mf a (by omega)]; exact y3 a (by omega) (by omega) (by unfold t_own at h3; omega) (by omega)) ⟨fun j hj => ?_, fun j hj => ?_, fun j hj => ?_⟩ (i_T.new (G := (s_rr (t_By μ n) n 1).2.2.2.1) (by decide) ?_ (fun h => ?_) (fun h => ?_) (fun h => ?_))
              · rw [z4 158 (by decide) (by decide) (by decide) (by decide) (by decide) (by decide) (by decide) (by decide), kd 158 (by decide)]
              · rw [z2 j (hj rfl), kd 159 (by decide)]
              · rw [z4 160 (by decide) (by decide) (by decide) (by decide) (by decide) (by decide) (by decide) (by decide), kd 160 (by decide)]
              · obtain ⟨t1, t2, t3, t4⟩ := y1
                refine ⟨t1, fun h => (t2 h).cg (fun j hj => mf _ (by omega)), fun h => ?_, fun h => ?_⟩
                · rw [mf _ (by omega), mf _ (by omega)]; exact t3 h
                · rw [mf _ (by omega), mf _ (by omega), mf _ (by omega)]; exact t4 h
              · exact absurd h (by decide)
              · exact z1
              · exact absurd h (by decide)
            · refine hI.notext (fun a h1 h2 h3 h4 h5 => ?_) mjj ?_ m154 ?_ ?_
              · rw [mno hz a (by unfold x_ok at h1; omega) h3 h4 h5 (by unfold x_ok at h1; omega) (by unfold x_ok at h1; omega)]
                exact kno hz a h2 (by unfold x_ok at h1; omega)
              · rw [mno hz 1 (by decide) (by decide) (by decide) (by decide) (by decide) (by decide)]; exact k11
              · rw [mno hz 1 (by decide) (by decide) (by decide) (by decide) (by decide) (by decide), m155]; exact k12
              · rw [mno hz 1 (by decide) (by decide) (by decide) (by decide) (by decide) (by decide), m156]; exact k13
        · rcases hc3 with rfl | rfl
          · have hv : (if (-1 : Int32) = -1 then (if 0 < 2 then nI 0 else -1) else if s_hasT 0 (-1) = 0 then -1 else -1) = (0 : Int32) := by decide
            refine (tX11_text20 sc 1 μ w n hn n2 hfit 0 (by omega) e3 _ hv).mono (fun r μ1 w1 q => ⟨_, q.1, ?_⟩)
            obtain ⟨-, k11, k12, k13, kno, kyes⟩ := q
            have kd : ∀ a, 152 ≤ a → μ1 a = μ a := fun a ha => by
              by_cases hz : (s_flt (t_By μ n) n 2).1 = 0
              · exact (kyes hz).2.2 a (by omega) (by omega) (by omega) (by omega)
              · exact kno hz a (by omega) (by omega)
            refine (tX12_text20A sc 21 μ1 w1 n (t_By μ n) hn (by rw [kd 154 (by decide)]; exact n3) (fun i hi => by rw [kd 153 (by decide)]; exact hbt i hi) (fun i hi => if_neg (by omega)) (by rw [kd 157 (by decide)]; exact e157)).mono (fun r2 μ2 w2 q2 => ⟨q2.1, ?_⟩)
            obtain ⟨-, m154, m155, m156, mj, mno, myes⟩ := q2
            have mjj : ∀ q, q ≠ 0 → μ2 154 q = μ 154 q ∧ μ2 155 q = μ 155 q ∧ μ2 156 q = μ 156 q := fun q hq => by
              have := mj q hq
              rw [kd 154 (by decide), kd 155 (by decide), kd 156 (by decide)] at this
              exact this
            by_cases hz : (s_flt (t_By μ n) n 2).1 = 0
            · obtain ⟨y1, y2, y3⟩ := kyes hz
              obtain ⟨z1, z2, z3, z4⟩ := myes hz
              have mf : ∀ a, a ≤ 151 → μ2 a = μ1 a := fun a ha => z4 a (by omega) (by omega) (by omega) (by omega) (by omega) (by omega) (by omega) (by omega)
              refine hI.text (s := 2) (f := 0) (c := 0) (by decide) (by decide) (by omega) (by omega) e3 (by rw [mf 114 (by decide), y3 114 (by decide) (by decide) (by omega) (by omega)]) (by rw [z4 172 (by decide) (by decide) (by decide) (by decide) (by decide) (by decide) (by decide) (by decide), kd 172 (by decide)]) (fun a h1 h2 => by rw [mf a (by omega)]; exact y3 a (by omega) (by omega) (by omega) (by omega)) (by rw [mf 2 (by decide), y3 2 (by decide) (by decide) (by omega) (by omega)]) (by rw [z4 153 (by decide) (by decide) (by decide) (by decide) (by decide) (by decide) (by decide) (by decide), kd 153 (by decide)]) mjj (by rw [mf 1 (by decide)]; exact k11) m154 (by rw [mf 1 (by decide), m155]; exact k12) (by rw [mf 1 (by decide), m156]; exact k13) (by rw [mf 3 (by decide)]; exact y2) (by rw [z3, kd 157 (by decide)]; rfl) (fun a h1 h2 h3 => by rw [mf a (by omega)]; exact y3 a (by omega) (by omega) (by unfold t_own at h3; omega) (by omega)) ⟨fun j hj => ?_, fun j hj => ?_, fun j hj => ?_⟩ (i_T.new (G := (s_rr (t_By μ n) n 2).2.2.2.1) (by decide) ?_ (fun h => ?_) (fun h => ?_) (fun h => ?_))
              · rw [z4 158 (by decide) (by decide) (by decide) (by decide) (by decide) (by decide) (by decide) (by decide), kd 158 (by decide)]
              · rw [z4 159 (by decide) (by decide) (by decide) (by decide) (by decide) (by decide) (by decide) (by decide), kd 159 (by decide)]
              · rw [z2 j (hj rfl), kd 160 (by decide)]
              · obtain ⟨t1, t2, t3, t4⟩ := y1
                refine ⟨t1, fun h => (t2 h).cg (fun j hj => mf _ (by omega)), fun h => ?_, fun h => ?_⟩
                · rw [mf _ (by omega), mf _ (by omega)]; exact t3 h
                · rw [mf _ (by omega), mf _ (by omega), mf _ (by omega)]; exact t4 h
              · exact absurd h (by decide)
              · exact absurd h (by decide)
              · exact z1
            · refine hI.notext (fun a h1 h2 h3 h4 h5 => ?_) mjj ?_ m154 ?_ ?_
              · rw [mno hz a (by unfold x_ok at h1; omega) h3 h4 h5 (by unfold x_ok at h1; omega) (by unfold x_ok at h1; omega)]
                exact kno hz a h2 (by unfold x_ok at h1; omega)
              · rw [mno hz 1 (by decide) (by decide) (by decide) (by decide) (by decide) (by decide)]; exact k11
              · rw [mno hz 1 (by decide) (by decide) (by decide) (by decide) (by decide) (by decide), m155]; exact k12
              · rw [mno hz 1 (by decide) (by decide) (by decide) (by decide) (by decide) (by decide), m156]; exact k13
          · have hv : (if (-1 : Int32) = -1 then (if 1 < 2 then nI 1 else -1) else if s_hasT 1 (-1) = 0 then -1 else -1) = (1 : Int32) := by decide
            refine (tX11_text21 sc 1 μ w n hn n2 hfit 1 (by omega) e3 _ hv).mono (fun r μ1 w1 q => ⟨_, q.1, ?_⟩)
            obtain ⟨-, k11, k12, k13, kno, kyes⟩ := q
            have kd : ∀ a, 152 ≤ a → μ1 a = μ a := fun a ha => by
              by_cases hz : (s_flt (t_By μ n) n 2).1 = 0
              · exact (kyes hz).2.2 a (by omega) (by omega) (by omega) (by omega)
              · exact kno hz a (by omega) (by omega)
            refine (tX12_text21A sc 21 μ1 w1 n (t_By μ n) hn (by rw [kd 154 (by decide)]; exact n3) (fun i hi => by rw [kd 153 (by decide)]; exact hbt i hi) (fun i hi => if_neg (by omega)) (by rw [kd 157 (by decide)]; exact e157)).mono (fun r2 μ2 w2 q2 => ⟨q2.1, ?_⟩)
            obtain ⟨-, m154, m155, m156, mj, mno, myes⟩ := q2
            have mjj : ∀ q, q ≠ 0 → μ2 154 q = μ 154 q ∧ μ2 155 q = μ 155 q ∧ μ2 156 q = μ 156 q := fun q hq => by
              have := mj q hq
              rw [kd 154 (by decide), kd 155 (by decide), kd 156 (by decide)] at this
              exact this
            by_cases hz : (s_flt (t_By μ n) n 2).1 = 0
            · obtain ⟨y1, y2, y3⟩ := kyes hz
              obtain ⟨z1, z2, z3, z4⟩ := myes hz
              have mf : ∀ a, a ≤ 151 → μ2 a = μ1 a := fun a ha => z4 a (by omega) (by omega) (by omega) (by omega) (by omega) (by omega) (by omega) (by omega)
              refine hI.text (s := 2) (f := 1) (c := 1) (by decide) (by decide) (by omega) (by omega) e3 (by rw [mf 114 (by decide), y3 114 (by decide) (by decide) (by omega) (by omega)]) (by rw [z4 172 (by decide) (by decide) (by decide) (by decide) (by decide) (by decide) (by decide) (by decide), kd 172 (by decide)]) (fun a h1 h2 => by rw [mf a (by omega)]; exact y3 a (by omega) (by omega) (by omega) (by omega)) (by rw [mf 2 (by decide), y3 2 (by decide) (by decide) (by omega) (by omega)]) (by rw [z4 153 (by decide) (by decide) (by decide) (by decide) (by decide) (by decide) (by decide) (by decide), kd 153 (by decide)]) mjj (by rw [mf 1 (by decide)]; exact k11) m154 (by rw [mf 1 (by decide), m155]; exact k12) (by rw [mf 1 (by decide), m156]; exact k13) (by rw [mf 3 (by decide)]; exact y2) (by rw [z3, kd 157 (by decide)]; rfl) (fun a h1 h2 h3 => by rw [mf a (by omega)]; exact y3 a (by omega) (by omega) (by unfold t_own at h3; omega) (by omega)) ⟨fun j hj => ?_, fun j hj => ?_, fun j hj => ?_⟩ (i_T.new (G := (s_rr (t_By μ n) n 2).2.2.2.1) (by decide) ?_ (fun h => ?_) (fun h => ?_) (fun h => ?_))
              · rw [z4 158 (by decide) (by decide) (by decide) (by decide) (by decide) (by decide) (by decide) (by decide), kd 158 (by decide)]
              · rw [z4 159 (by decide) (by decide) (by decide) (by decide) (by decide) (by decide) (by decide) (by decide), kd 159 (by decide)]
              · rw [z2 j (hj rfl), kd 160 (by decide)]
              · obtain ⟨t1, t2, t3, t4⟩ := y1
                refine ⟨t1, fun h => (t2 h).cg (fun j hj => mf _ (by omega)), fun h => ?_, fun h => ?_⟩
                · rw [mf _ (by omega), mf _ (by omega)]; exact t3 h
                · rw [mf _ (by omega), mf _ (by omega), mf _ (by omega)]; exact t4 h
              · exact absurd h (by decide)
              · exact absurd h (by decide)
              · exact z1
            · refine hI.notext (fun a h1 h2 h3 h4 h5 => ?_) mjj ?_ m154 ?_ ?_
              · rw [mno hz a (by unfold x_ok at h1; omega) h3 h4 h5 (by unfold x_ok at h1; omega) (by unfold x_ok at h1; omega)]
                exact kno hz a h2 (by unfold x_ok at h1; omega)
              · rw [mno hz 1 (by decide) (by decide) (by decide) (by decide) (by decide) (by decide)]; exact k11
              · rw [mno hz 1 (by decide) (by decide) (by decide) (by decide) (by decide) (by decide), m155]; exact k12
              · rw [mno hz 1 (by decide) (by decide) (by decide) (by decide) (by decide) (by decide), m156]; exact k13
      · skip
        refine (tX11_textN sc 1 μ w n hn n2 hfit _ a2 (fun d => by have h := tX9_numberFor sc d μ w s c (by omega) hc e3 a2; rw [if_pos hm, if_neg hc2] at h; exact h)).mono (fun r μ1 w1 q => ⟨_, q.1, ?_⟩)
        obtain ⟨-, k11, k12, k13, kno⟩ := q
        refine (tX12_textM sc 21 μ1 w1 s c (by omega) hc (by rw [kno 157 (by decide) (by omega)]; exact e157) a2 (fun _ => by omega) (fun z => absurd hm z)).mono (fun r2 μ2 w2 q2 => ⟨q2.1, ?_⟩)
        obtain ⟨-, m154, m155, m156, mj, mno⟩ := q2
        refine hI.notext (fun a h1 h2 h3 h4 h5 => ?_) (fun q hq => ?_) ?_ m154 ?_ ?_
        · rw [mno a (by unfold x_ok at h1; omega) h3 h4 h5]; exact kno a h2 (by unfold x_ok at h1; omega)
        · have := mj q hq
          rw [kno 154 (by decide) (by omega), kno 155 (by decide) (by omega), kno 156 (by decide) (by omega)] at this
          exact this
        · rw [mno 1 (by decide) (by decide) (by decide) (by decide)]; exact k11
        · rw [mno 1 (by decide) (by decide) (by decide) (by decide), m155]; exact k12
        · rw [mno 1 (by decide) (by decide) (by decide) (by decide), m156]; exact k13
    · by_cases hr : 0 ≤ a2 ∧ a2 < nI c
      · obtain ⟨f, hf31, rfl⟩ := nI_of (Int32.not_lt.mpr hr.1)
        have hfc : f < c := (nI_ltI hf31 (by omega)).mp hr.2
        have hs3 : s = 0 ∨ s = 1 ∨ s = 2 := by omega
        have hf3 : f = 0 ∨ f = 1 := by omega
        rcases hs3 with rfl | rfl | rfl
        · rcases hf3 with rfl | rfl
          · have hv : (if (nI 0) = -1 then (if c < 2 then nI c else -1) else if s_hasT c (nI 0) = 0 then -1 else nI 0) = (0 : Int32) := by rw [if_neg (show ¬ nI 0 = -1 by decide), show s_hasT c (nI 0) = 1 from by unfold s_hasT; rw [if_neg (show ¬ nI 0 < 0 by decide), if_neg (nI_ge hfc (by omega))], if_neg (show ¬ (1 : Int32) = 0 by decide)]; rfl
            refine (tX11_text00 sc 1 μ w n hn n2 hfit c (by omega) e3 _ hv).mono (fun r μ1 w1 q => ⟨_, q.1, ?_⟩)
            obtain ⟨-, k11, k12, k13, kno, kyes⟩ := q
            have kd : ∀ a, 152 ≤ a → μ1 a = μ a := fun a ha => by
              by_cases hz : (s_flt (t_By μ n) n 0).1 = 0
              · exact (kyes hz).2.2 a (by omega) (by omega) (by omega) (by omega)
              · exact kno hz a (by omega) (by omega)
            refine (tX12_text00B sc 21 μ1 w1 n (t_By μ n) hn (by rw [kd 154 (by decide)]; exact n3) (fun i hi => by rw [kd 153 (by decide)]; exact hbt i hi) (fun i hi => if_neg (by omega)) c hc hfc (by rw [kd 157 (by decide)]; exact e157)).mono (fun r2 μ2 w2 q2 => ⟨q2.1, ?_⟩)
            obtain ⟨-, m154, m155, m156, mj, mno, myes⟩ := q2
            have mjj : ∀ q, q ≠ 0 → μ2 154 q = μ 154 q ∧ μ2 155 q = μ 155 q ∧ μ2 156 q = μ 156 q := fun q hq => by
              have := mj q hq
              rw [kd 154 (by decide), kd 155 (by decide), kd 156 (by decide)] at this
              exact this
            by_cases hz : (s_flt (t_By μ n) n 0).1 = 0
            · obtain ⟨y1, y2, y3⟩ := kyes hz
              obtain ⟨z1, z2, z3, z4⟩ := myes hz
              have mf : ∀ a, a ≤ 151 → μ2 a = μ1 a := fun a ha => z4 a (by omega) (by omega) (by omega) (by omega) (by omega) (by omega) (by omega) (by omega)
              refine hI.text (s := 0) (f := 0) (c := c) (by decide) (by decide) (by omega) (by omega) e3 (by rw [mf 114 (by decide), y3 114 (by decide) (by decide) (by omega) (by omega)]) (by rw [z4 172 (by decide) (by decide) (by decide) (by decide) (by decide) (by decide) (by decide) (by decide), kd 172 (by decide)]) (fun a h1 h2 => by rw [mf a (by omega)]; exact y3 a (by omega) (by omega) (by omega) (by omega)) (by rw [mf 2 (by decide), y3 2 (by decide) (by decide) (by omega) (by omega)]) (by rw [z4 153 (by decide) (by decide) (by decide) (by decide) (by decide) (by decide) (by decide) (by decide), kd 153 (by decide)]) mjj (by rw [mf 1 (by decide)]; exact k11) m154 (by rw [mf 1 (by decide), m155]; exact k12) (by rw [mf 1 (by decide), m156]; exact k13) (by rw [mf 3 (by decide)]; exact y2) (by rw [z3, kd 157 (by decide), show max c (0 + 1) = c from by omega]) (fun a h1 h2 h3 => by rw [mf a (by omega)]; exact y3 a (by omega) (by omega) (by unfold t_own at h3; omega) (by omega)) ⟨fun j hj => ?_, fun j hj => ?_, fun j hj => ?_⟩ (i_T.new (G := (s_rr (t_By μ n) n 0).2.2.2.1) (by decide) ?_ (fun h => ?_) (fun h => ?_) (fun h => ?_))
              · rw [z2 j (hj rfl), kd 158 (by decide)]
              · rw [z4 159 (by decide) (by decide) (by decide) (by decide) (by decide) (by decide) (by decide) (by decide), kd 159 (by decide)]
              · rw [z4 160 (by decide) (by decide) (by decide) (by decide) (by decide) (by decide) (by decide) (by decide), kd 160 (by decide)]
              · obtain ⟨t1, t2, t3, t4⟩ := y1
                refine ⟨t1, fun h => (t2 h).cg (fun j hj => mf _ (by omega)), fun h => ?_, fun h => ?_⟩
                · rw [mf _ (by omega), mf _ (by omega)]; exact t3 h
                · rw [mf _ (by omega), mf _ (by omega), mf _ (by omega)]; exact t4 h
              · exact z1
              · exact absurd h (by decide)
              · exact absurd h (by decide)
            · refine hI.notext (fun a h1 h2 h3 h4 h5 => ?_) mjj ?_ m154 ?_ ?_
              · rw [mno hz a (by unfold x_ok at h1; omega) h3 h4 h5 (by unfold x_ok at h1; omega) (by unfold x_ok at h1; omega)]
                exact kno hz a h2 (by unfold x_ok at h1; omega)
              · rw [mno hz 1 (by decide) (by decide) (by decide) (by decide) (by decide) (by decide)]; exact k11
              · rw [mno hz 1 (by decide) (by decide) (by decide) (by decide) (by decide) (by decide), m155]; exact k12
              · rw [mno hz 1 (by decide) (by decide) (by decide) (by decide) (by decide) (by decide), m156]; exact k13
          · have hv : (if (nI 1) = -1 then (if c < 2 then nI c else -1) else if s_hasT c (nI 1) = 0 then -1 else nI 1) = (1 : Int32) := by rw [if_neg (show ¬ nI 1 = -1 by decide), show s_hasT c (nI 1) = 1 from by unfold s_hasT; rw [if_neg (show ¬ nI 1 < 0 by decide), if_neg (nI_ge hfc (by omega))], if_neg (show ¬ (1 : Int32) = 0 by decide)]; rfl
            refine (tX11_text01 sc 1 μ w n hn n2 hfit c (by omega) e3 _ hv).mono (fun r μ1 w1 q => ⟨_, q.1, ?_⟩)
            obtain ⟨-, k11, k12, k13, kno, kyes⟩ := q
            have kd : ∀ a, 152 ≤ a → μ1 a = μ a := fun a ha => by
              by_cases hz : (s_flt (t_By μ n) n 0).1 = 0
              · exact (kyes hz).2.2 a (by omega) (by omega) (by omega) (by omega)
              · exact kno hz a (by omega) (by omega)
            refine (tX12_text01B sc 21 μ1 w1 n (t_By μ n) hn (by rw [kd 154 (by decide)]; exact n3) (fun i hi => by rw [kd 153 (by decide)]; exact hbt i hi) (fun i hi => if_neg (by omega)) c hc hfc (by rw [kd 157 (by decide)]; exact e157)).mono (fun r2 μ2 w2 q2 => ⟨q2.1, ?_⟩)
            obtain ⟨-, m154, m155, m156, mj, mno, myes⟩ := q2
            have mjj : ∀ q, q ≠ 0 → μ2 154 q = μ 154 q ∧ μ2 155 q = μ 155 q ∧ μ2 156 q = μ 156 q := fun q hq => by
              have := mj q hq
              rw [kd 154 (by decide), kd 155 (by decide), kd 156 (by decide)] at this
              exact this
            by_cases hz : (s_flt (t_By μ n) n 0).1 = 0
            · obtain ⟨y1, y2, y3⟩ := kyes hz
              obtain ⟨z1, z2, z3, z4⟩ := myes hz
              have mf : ∀ a, a ≤ 151 → μ2 a = μ1 a := fun a ha => z4 a (by omega) (by omega) (by omega) (by omega) (by omega) (by omega) (by omega) (by omega)
              refine hI.text (s := 0) (f := 1) (c := c) (by decide) (by decide) (by omega) (by omega) e3 (by rw [mf 114 (by decide), y3 114 (by decide) (by decide) (by omega) (by omega)]) (by rw [z4 172 (by decide) (by decide) (by decide) (by decide) (by decide) (by decide) (by decide) (by decide), kd 172 (by decide)]) (fun a h1 h2 => by rw [mf a (by omega)]; exact y3 a (by omega) (by omega) (by omega) (by omega)) (by rw [mf 2 (by decide), y3 2 (by decide) (by decide) (by omega) (by omega)]) (by rw [z4 153 (by decide) (by decide) (by decide) (by decide) (by decide) (by decide) (by decide) (by decide), kd 153 (by decide)]) mjj (by rw [mf 1 (by decide)]; exact k11) m154 (by rw [mf 1 (by decide), m155]; exact k12) (by rw [mf 1 (by decide), m156]; exact k13) (by rw [mf 3 (by decide)]; exact y2) (by rw [z3, kd 157 (by decide), show max c (1 + 1) = c from by omega]) (fun a h1 h2 h3 => by rw [mf a (by omega)]; exact y3 a (by omega) (by omega) (by unfold t_own at h3; omega) (by omega)) ⟨fun j hj => ?_, fun j hj => ?_, fun j hj => ?_⟩ (i_T.new (G := (s_rr (t_By μ n) n 0).2.2.2.1) (by decide) ?_ (fun h => ?_) (fun h => ?_) (fun h => ?_))
              · rw [z2 j (hj rfl), kd 158 (by decide)]
              · rw [z4 159 (by decide) (by decide) (by decide) (by decide) (by decide) (by decide) (by decide) (by decide), kd 159 (by decide)]
              · rw [z4 160 (by decide) (by decide) (by decide) (by decide) (by decide) (by decide) (by decide) (by decide), kd 160 (by decide)]
              · obtain ⟨t1, t2, t3, t4⟩ := y1
                refine ⟨t1, fun h => (t2 h).cg (fun j hj => mf _ (by omega)), fun h => ?_, fun h => ?_⟩
                · rw [mf _ (by omega), mf _ (by omega)]; exact t3 h
                · rw [mf _ (by omega), mf _ (by omega), mf _ (by omega)]; exact t4 h
              · exact z1
              · exact absurd h (by decide)
              · exact absurd h (by decide)
            · refine hI.notext (fun a h1 h2 h3 h4 h5 => ?_) mjj ?_ m154 ?_ ?_
              · rw [mno hz a (by unfold x_ok at h1; omega) h3 h4 h5 (by unfold x_ok at h1; omega) (by unfold x_ok at h1; omega)]
                exact kno hz a h2 (by unfold x_ok at h1; omega)
              · rw [mno hz 1 (by decide) (by decide) (by decide) (by decide) (by decide) (by decide)]; exact k11
              · rw [mno hz 1 (by decide) (by decide) (by decide) (by decide) (by decide) (by decide), m155]; exact k12
              · rw [mno hz 1 (by decide) (by decide) (by decide) (by decide) (by decide) (by decide), m156]; exact k13
        · rcases hf3 with rfl | rfl
          · have hv : (if (nI 0) = -1 then (if c < 2 then nI c else -1) else if s_hasT c (nI 0) = 0 then -1 else nI 0) = (0 : Int32) := by rw [if_neg (show ¬ nI 0 = -1 by decide), show s_hasT c (nI 0) = 1 from by unfold s_hasT; rw [if_neg (show ¬ nI 0 < 0 by decide), if_neg (nI_ge hfc (by omega))], if_neg (show ¬ (1 : Int32) = 0 by decide)]; rfl
            refine (tX11_text10 sc 1 μ w n hn n2 hfit c (by omega) e3 _ hv).mono (fun r μ1 w1 q => ⟨_, q.1, ?_⟩)
            obtain ⟨-, k11, k12, k13, kno, kyes⟩ := q
            have kd : ∀ a, 152 ≤ a → μ1 a = μ a := fun a ha => by
              by_cases hz : (s_flt (t_By μ n) n 1).1 = 0
              · exact (kyes hz).2.2 a (by omega) (by omega) (by omega) (by omega)
              · exact kno hz a (by omega) (by omega)
            refine (tX12_text10B sc 21 μ1 w1 n (t_By μ n) hn (by rw [kd 154 (by decide)]; exact n3) (fun i hi => by rw [kd 153 (by decide)]; exact hbt i hi) (fun i hi => if_neg (by omega)) c hc hfc (by rw [kd 157 (by decide)]; exact e157)).mono (fun r2 μ2 w2 q2 => ⟨q2.1, ?_⟩)
            obtain ⟨-, m154, m155, m156, mj, mno, myes⟩ := q2
            have mjj : ∀ q, q ≠ 0 → μ2 154 q = μ 154 q ∧ μ2 155 q = μ 155 q ∧ μ2 156 q = μ 156 q := fun q hq => by
              have := mj q hq
              rw [kd 154 (by decide), kd 155 (by decide), kd 156 (by decide)] at this
              exact this
            by_cases hz : (s_flt (t_By μ n) n 1).1 = 0
            · obtain ⟨y1, y2, y3⟩ := kyes hz
              obtain ⟨z1, z2, z3, z4⟩ := myes hz
              have mf : ∀ a, a ≤ 151 → μ2 a = μ1 a := fun a ha => z4 a (by omega) (by omega) (by omega) (by omega) (by omega) (by omega) (by omega) (by omega)
              refine hI.text (s := 1) (f := 0) (c := c) (by decide) (by decide) (by omega) (by omega) e3 (by rw [mf 114 (by decide), y3 114 (by decide) (by decide) (by omega) (by omega)]) (by rw [z4 172 (by decide) (by decide) (by decide) (by decide) (by decide) (by decide) (by decide) (by decide), kd 172 (by decide)]) (fun a h1 h2 => by rw [mf a (by omega)]; exact y3 a (by omega) (by omega) (by omega) (by omega)) (by rw [mf 2 (by decide), y3 2 (by decide) (by decide) (by omega) (by omega)]) (by rw [z4 153 (by decide) (by decide) (by decide) (by decide) (by decide) (by decide) (by decide) (by decide), kd 153 (by decide)]) mjj (by rw [mf 1 (by decide)]; exact k11) m154 (by rw [mf 1 (by decide), m155]; exact k12) (by rw [mf 1 (by decide), m156]; exact k13) (by rw [mf 3 (by decide)]; exact y2) (by rw [z3, kd 157 (by decide), show max c (0 + 1) = c from by omega]) (fun a h1 h2 h3 => by rw [mf a (by omega)]; exact y3 a (by omega) (by omega) (by unfold t_own at h3; omega) (by omega)) ⟨fun j hj => ?_, fun j hj => ?_, fun j hj => ?_⟩ (i_T.new (G := (s_rr (t_By μ n) n 1).2.2.2.1) (by decide) ?_ (fun h => ?_) (fun h => ?_) (fun h => ?_))
              · rw [z4 158 (by decide) (by decide) (by decide) (by decide) (by decide) (by decide) (by decide) (by decide), kd 158 (by decide)]
              · rw [z2 j (hj rfl), kd 159 (by decide)]
              · rw [z4 160 (by decide) (by decide) (by decide) (by decide) (by decide) (by decide) (by decide) (by decide), kd 160 (by decide)]
              · obtain ⟨t1, t2, t3, t4⟩ := y1
                refine ⟨t1, fun h => (t2 h).cg (fun j hj => mf _ (by omega)), fun h => ?_, fun h => ?_⟩
                · rw [mf _ (by omega), mf _ (by omega)]; exact t3 h
                · rw [mf _ (by omega), mf _ (by omega), mf _ (by omega)]; exact t4 h
              · exact absurd h (by decide)
              · exact z1
              · exact absurd h (by decide)
            · refine hI.notext (fun a h1 h2 h3 h4 h5 => ?_) mjj ?_ m154 ?_ ?_
              · rw [mno hz a (by unfold x_ok at h1; omega) h3 h4 h5 (by unfold x_ok at h1; omega) (by unfold x_ok at h1; omega)]
                exact kno hz a h2 (by unfold x_ok at h1; omega)
              · rw [mno hz 1 (by decide) (by decide) (by decide) (by decide) (by decide) (by decide)]; exact k11
              · rw [mno hz 1 (by decide) (by decide) (by decide) (by decide) (by decide) (by decide), m155]; exact k12
              · rw [mno hz 1 (by decide) (by decide) (by decide) (by decide) (by decide) (by decide), m156]; exact k13
          · have hv : (if (nI 1) = -1 then (if c < 2 then nI c else -1) else if s_hasT c (nI 1) = 0 then -1 else nI 1) = (1 : Int32) := by rw [if_neg (show ¬ nI 1 = -1 by decide), show s_hasT c (nI 1) = 1 from by unfold s_hasT; rw [if_neg (show ¬ nI 1 < 0 by decide), if_neg (nI_ge hfc (by omega))], if_neg (show ¬ (1 : Int32) = 0 by decide)]; rfl
            refine (tX11_text11 sc 1 μ w n hn n2 hfit c (by omega) e3 _ hv).mono (fun r μ1 w1 q => ⟨_, q.1, ?_⟩)
            obtain ⟨-, k11, k12, k13, kno, kyes⟩ := q
            have kd : ∀ a, 152 ≤ a → μ1 a = μ a := fun a ha => by
              by_cases hz : (s_flt (t_By μ n) n 1).1 = 0
              · exact (kyes hz).2.2 a (by omega) (by omega) (by omega) (by omega)
              · exact kno hz a (by omega) (by omega)
            refine (tX12_text11B sc 21 μ1 w1 n (t_By μ n) hn (by rw [kd 154 (by decide)]; exact n3) (fun i hi => by rw [kd 153 (by decide)]; exact hbt i hi) (fun i hi => if_neg (by omega)) c hc hfc (by rw [kd 157 (by decide)]; exact e157)).mono (fun r2 μ2 w2 q2 => ⟨q2.1, ?_⟩)
            obtain ⟨-, m154, m155, m156, mj, mno, myes⟩ := q2
            have mjj : ∀ q, q ≠ 0 → μ2 154 q = μ 154 q ∧ μ2 155 q = μ 155 q ∧ μ2 156 q = μ 156 q := fun q hq => by
              have := mj q hq
              rw [kd 154 (by decide), kd 155 (by decide), kd 156 (by decide)] at this
              exact this
            by_cases hz : (s_flt (t_By μ n) n 1).1 = 0
            · obtain ⟨y1, y2, y3⟩ := kyes hz
              obtain ⟨z1, z2, z3, z4⟩ := myes hz
              have mf : ∀ a, a ≤ 151 → μ2 a = μ1 a := fun a ha => z4 a (by omega) (by omega) (by omega) (by omega) (by omega) (by omega) (by omega) (by omega)
              refine hI.text (s := 1) (f := 1) (c := c) (by decide) (by decide) (by omega) (by omega) e3 (by rw [mf 114 (by decide), y3 114 (by decide) (by decide) (by omega) (by omega)]) (by rw [z4 172 (by decide) (by decide) (by decide) (by decide) (by decide) (by decide) (by decide) (by decide), kd 172 (by decide)]) (fun a h1 h2 => by rw [mf a (by omega)]; exact y3 a (by omega) (by omega) (by omega) (by omega)) (by rw [mf 2 (by decide), y3 2 (by decide) (by decide) (by omega) (by omega)]) (by rw [z4 153 (by decide) (by decide) (by decide) (by decide) (by decide) (by decide) (by decide) (by decide), kd 153 (by decide)]) mjj (by rw [mf 1 (by decide)]; exact k11) m154 (by rw [mf 1 (by decide), m155]; exact k12) (by rw [mf 1 (by decide), m156]; exact k13) (by rw [mf 3 (by decide)]; exact y2) (by rw [z3, kd 157 (by decide), show max c (1 + 1) = c from by omega]) (fun a h1 h2 h3 => by rw [mf a (by omega)]; exact y3 a (by omega) (by omega) (by unfold t_own at h3; omega) (by omega)) ⟨fun j hj => ?_, fun j hj => ?_, fun j hj => ?_⟩ (i_T.new (G := (s_rr (t_By μ n) n 1).2.2.2.1) (by decide) ?_ (fun h => ?_) (fun h => ?_) (fun h => ?_))
              · rw [z4 158 (by decide) (by decide) (by decide) (by decide) (by decide) (by decide) (by decide) (by decide), kd 158 (by decide)]
              · rw [z2 j (hj rfl), kd 159 (by decide)]
              · rw [z4 160 (by decide) (by decide) (by decide) (by decide) (by decide) (by decide) (by decide) (by decide), kd 160 (by decide)]
              · obtain ⟨t1, t2, t3, t4⟩ := y1
                refine ⟨t1, fun h => (t2 h).cg (fun j hj => mf _ (by omega)), fun h => ?_, fun h => ?_⟩
                · rw [mf _ (by omega), mf _ (by omega)]; exact t3 h
                · rw [mf _ (by omega), mf _ (by omega), mf _ (by omega)]; exact t4 h
              · exact absurd h (by decide)
              · exact z1
              · exact absurd h (by decide)
            · refine hI.notext (fun a h1 h2 h3 h4 h5 => ?_) mjj ?_ m154 ?_ ?_
              · rw [mno hz a (by unfold x_ok at h1; omega) h3 h4 h5 (by unfold x_ok at h1; omega) (by unfold x_ok at h1; omega)]
                exact kno hz a h2 (by unfold x_ok at h1; omega)
              · rw [mno hz 1 (by decide) (by decide) (by decide) (by decide) (by decide) (by decide)]; exact k11
              · rw [mno hz 1 (by decide) (by decide) (by decide) (by decide) (by decide) (by decide), m155]; exact k12
              · rw [mno hz 1 (by decide) (by decide) (by decide) (by decide) (by decide) (by decide), m156]; exact k13
        · rcases hf3 with rfl | rfl
          · have hv : (if (nI 0) = -1 then (if c < 2 then nI c else -1) else if s_hasT c (nI 0) = 0 then -1 else nI 0) = (0 : Int32) := by rw [if_neg (show ¬ nI 0 = -1 by decide), show s_hasT c (nI 0) = 1 from by unfold s_hasT; rw [if_neg (show ¬ nI 0 < 0 by decide), if_neg (nI_ge hfc (by omega))], if_neg (show ¬ (1 : Int32) = 0 by decide)]; rfl
            refine (tX11_text20 sc 1 μ w n hn n2 hfit c (by omega) e3 _ hv).mono (fun r μ1 w1 q => ⟨_, q.1, ?_⟩)
            obtain ⟨-, k11, k12, k13, kno, kyes⟩ := q
            have kd : ∀ a, 152 ≤ a → μ1 a = μ a := fun a ha => by
              by_cases hz : (s_flt (t_By μ n) n 2).1 = 0
              · exact (kyes hz).2.2 a (by omega) (by omega) (by omega) (by omega)
              · exact kno hz a (by omega) (by omega)
            refine (tX12_text20B sc 21 μ1 w1 n (t_By μ n) hn (by rw [kd 154 (by decide)]; exact n3) (fun i hi => by rw [kd 153 (by decide)]; exact hbt i hi) (fun i hi => if_neg (by omega)) c hc hfc (by rw [kd 157 (by decide)]; exact e157)).mono (fun r2 μ2 w2 q2 => ⟨q2.1, ?_⟩)
            obtain ⟨-, m154, m155, m156, mj, mno, myes⟩ := q2
            have mjj : ∀ q, q ≠ 0 → μ2 154 q = μ 154 q ∧ μ2 155 q = μ 155 q ∧ μ2 156 q = μ 156 q := fun q hq => by
              have := mj q hq
              rw [kd 154 (by decide), kd 155 (by decide), kd 156 (by decide)] at this
              exact this
            by_cases hz : (s_flt (t_By μ n) n 2).1 = 0
            · obtain ⟨y1, y2, y3⟩ := kyes hz
              obtain ⟨z1, z2, z3, z4⟩ := myes hz
              have mf : ∀ a, a ≤ 151 → μ2 a = μ1 a := fun a ha => z4 a (by omega) (by omega) (by omega) (by omega) (by omega) (by omega) (by omega) (by omega)
              refine hI.text (s := 2) (f := 0) (c := c) (by decide) (by decide) (by omega) (by omega) e3 (by rw [mf 114 (by decide), y3 114 (by decide) (by decide) (by omega) (by omega)]) (by rw [z4 172 (by decide) (by decide) (by decide) (by decide) (by decide) (by decide) (by decide) (by decide), kd 172 (by decide)]) (fun a h1 h2 => by rw [mf a (by omega)]; exact y3 a (by omega) (by omega) (by omega) (by omega)) (by rw [mf 2 (by decide), y3 2 (by decide) (by decide) (by omega) (by omega)]) (by rw [z4 153 (by decide) (by decide) (by decide) (by decide) (by decide) (by decide) (by decide) (by decide), kd 153 (by decide)]) mjj (by rw [mf 1 (by decide)]; exact k11) m154 (by rw [mf 1 (by decide), m155]; exact k12) (by rw [mf 1 (by decide), m156]; exact k13) (by rw [mf 3 (by decide)]; exact y2) (by rw [z3, kd 157 (by decide), show max c (0 + 1) = c from by omega]) (fun a h1 h2 h3 => by rw [mf a (by omega)]; exact y3 a (by omega) (by omega) (by unfold t_own at h3; omega) (by omega)) ⟨fun j hj => ?_, fun j hj => ?_, fun j hj => ?_⟩ (i_T.new (G := (s_rr (t_By μ n) n 2).2.2.2.1) (by decide) ?_ (fun h => ?_) (fun h => ?_) (fun h => ?_))
              · rw [z4 158 (by decide) (by decide) (by decide) (by decide) (by decide) (by decide) (by decide) (by decide), kd 158 (by decide)]
              · rw [z4 159 (by decide) (by decide) (by decide) (by decide) (by decide) (by decide) (by decide) (by decide), kd 159 (by decide)]
              · rw [z2 j (hj rfl), kd 160 (by decide)]
              · obtain ⟨t1, t2, t3, t4⟩ := y1
                refine ⟨t1, fun h => (t2 h).cg (fun j hj => mf _ (by omega)), fun h => ?_, fun h => ?_⟩
                · rw [mf _ (by omega), mf _ (by omega)]; exact t3 h
                · rw [mf _ (by omega), mf _ (by omega), mf _ (by omega)]; exact t4 h
              · exact absurd h (by decide)
              · exact absurd h (by decide)
              · exact z1
            · refine hI.notext (fun a h1 h2 h3 h4 h5 => ?_) mjj ?_ m154 ?_ ?_
              · rw [mno hz a (by unfold x_ok at h1; omega) h3 h4 h5 (by unfold x_ok at h1; omega) (by unfold x_ok at h1; omega)]
                exact kno hz a h2 (by unfold x_ok at h1; omega)
              · rw [mno hz 1 (by decide) (by decide) (by decide) (by decide) (by decide) (by decide)]; exact k11
              · rw [mno hz 1 (by decide) (by decide) (by decide) (by decide) (by decide) (by decide), m155]; exact k12
              · rw [mno hz 1 (by decide) (by decide) (by decide) (by decide) (by decide) (by decide), m156]; exact k13
          · have hv : (if (nI 1) = -1 then (if c < 2 then nI c else -1) else if s_hasT c (nI 1) = 0 then -1 else nI 1) = (1 : Int32) := by rw [if_neg (show ¬ nI 1 = -1 by decide), show s_hasT c (nI 1) = 1 from by unfold s_hasT; rw [if_neg (show ¬ nI 1 < 0 by decide), if_neg (nI_ge hfc (by omega))], if_neg (show ¬ (1 : Int32) = 0 by decide)]; rfl
            refine (tX11_text21 sc 1 μ w n hn n2 hfit c (by omega) e3 _ hv).mono (fun r μ1 w1 q => ⟨_, q.1, ?_⟩)
            obtain ⟨-, k11, k12, k13, kno, kyes⟩ := q
            have kd : ∀ a, 152 ≤ a → μ1 a = μ a := fun a ha => by
              by_cases hz : (s_flt (t_By μ n) n 2).1 = 0
              · exact (kyes hz).2.2 a (by omega) (by omega) (by omega) (by omega)
              · exact kno hz a (by omega) (by omega)
            refine (tX12_text21B sc 21 μ1 w1 n (t_By μ n) hn (by rw [kd 154 (by decide)]; exact n3) (fun i hi => by rw [kd 153 (by decide)]; exact hbt i hi) (fun i hi => if_neg (by omega)) c hc hfc (by rw [kd 157 (by decide)]; exact e157)).mono (fun r2 μ2 w2 q2 => ⟨q2.1, ?_⟩)
            obtain ⟨-, m154, m155, m156, mj, mno, myes⟩ := q2
            have mjj : ∀ q, q ≠ 0 → μ2 154 q = μ 154 q ∧ μ2 155 q = μ 155 q ∧ μ2 156 q = μ 156 q := fun q hq => by
              have := mj q hq
              rw [kd 154 (by decide), kd 155 (by decide), kd 156 (by decide)] at this
              exact this
            by_cases hz : (s_flt (t_By μ n) n 2).1 = 0
            · obtain ⟨y1, y2, y3⟩ := kyes hz
              obtain ⟨z1, z2, z3, z4⟩ := myes hz
              have mf : ∀ a, a ≤ 151 → μ2 a = μ1 a := fun a ha => z4 a (by omega) (by omega) (by omega) (by omega) (by omega) (by omega) (by omega) (by omega)
              refine hI.text (s := 2) (f := 1) (c := c) (by decide) (by decide) (by omega) (by omega) e3 (by rw [mf 114 (by decide), y3 114 (by decide) (by decide) (by omega) (by omega)]) (by rw [z4 172 (by decide) (by decide) (by decide) (by decide) (by decide) (by decide) (by decide) (by decide), kd 172 (by decide)]) (fun a h1 h2 => by rw [mf a (by omega)]; exact y3 a (by omega) (by omega) (by omega) (by omega)) (by rw [mf 2 (by decide), y3 2 (by decide) (by decide) (by omega) (by omega)]) (by rw [z4 153 (by decide) (by decide) (by decide) (by decide) (by decide) (by decide) (by decide) (by decide), kd 153 (by decide)]) mjj (by rw [mf 1 (by decide)]; exact k11) m154 (by rw [mf 1 (by decide), m155]; exact k12) (by rw [mf 1 (by decide), m156]; exact k13) (by rw [mf 3 (by decide)]; exact y2) (by rw [z3, kd 157 (by decide), show max c (1 + 1) = c from by omega]) (fun a h1 h2 h3 => by rw [mf a (by omega)]; exact y3 a (by omega) (by omega) (by unfold t_own at h3; omega) (by omega)) ⟨fun j hj => ?_, fun j hj => ?_, fun j hj => ?_⟩ (i_T.new (G := (s_rr (t_By μ n) n 2).2.2.2.1) (by decide) ?_ (fun h => ?_) (fun h => ?_) (fun h => ?_))
              · rw [z4 158 (by decide) (by decide) (by decide) (by decide) (by decide) (by decide) (by decide) (by decide), kd 158 (by decide)]
              · rw [z4 159 (by decide) (by decide) (by decide) (by decide) (by decide) (by decide) (by decide) (by decide), kd 159 (by decide)]
              · rw [z2 j (hj rfl), kd 160 (by decide)]
              · obtain ⟨t1, t2, t3, t4⟩ := y1
                refine ⟨t1, fun h => (t2 h).cg (fun j hj => mf _ (by omega)), fun h => ?_, fun h => ?_⟩
                · rw [mf _ (by omega), mf _ (by omega)]; exact t3 h
                · rw [mf _ (by omega), mf _ (by omega), mf _ (by omega)]; exact t4 h
              · exact absurd h (by decide)
              · exact absurd h (by decide)
              · exact z1
            · refine hI.notext (fun a h1 h2 h3 h4 h5 => ?_) mjj ?_ m154 ?_ ?_
              · rw [mno hz a (by unfold x_ok at h1; omega) h3 h4 h5 (by unfold x_ok at h1; omega) (by unfold x_ok at h1; omega)]
                exact kno hz a h2 (by unfold x_ok at h1; omega)
              · rw [mno hz 1 (by decide) (by decide) (by decide) (by decide) (by decide) (by decide)]; exact k11
              · rw [mno hz 1 (by decide) (by decide) (by decide) (by decide) (by decide) (by decide), m155]; exact k12
              · rw [mno hz 1 (by decide) (by decide) (by decide) (by decide) (by decide) (by decide), m156]; exact k13
      · have hno : s_hasT c a2 = 0 := by
          unfold s_hasT
          by_cases h0 : a2 < 0
          · rw [if_pos h0]
          · rw [if_neg h0, if_pos (Int32.not_lt.mp (fun z => hr ⟨Int32.not_lt.mp h0, z⟩))]
        have hno2 : (if a2 < 0 then (0 : Int32) else if a2 < nI c then 1 else 0) = 0 := by
          by_cases h0 : a2 < 0
          · rw [if_pos h0]
          · rw [if_neg h0, if_neg (fun z => hr ⟨Int32.not_lt.mp h0, z⟩)]
        refine (tX11_textN sc 1 μ w n hn n2 hfit _ a2 (fun d => by have h := tX9_numberFor sc d μ w s c (by omega) hc e3 a2; rw [if_neg hm, if_pos (show s_hasT c a2 = 0 from hno)] at h; exact h)).mono (fun r μ1 w1 q => ⟨_, q.1, ?_⟩)
        obtain ⟨-, k11, k12, k13, kno⟩ := q
        refine (tX12_textM sc 21 μ1 w1 s c (by omega) hc (by rw [kno 157 (by decide) (by omega)]; exact e157) a2 (fun z => absurd z hm) (fun _ => hno2)).mono (fun r2 μ2 w2 q2 => ⟨q2.1, ?_⟩)
        obtain ⟨-, m154, m155, m156, mj, mno⟩ := q2
        refine hI.notext (fun a h1 h2 h3 h4 h5 => ?_) (fun q hq => ?_) ?_ m154 ?_ ?_
        · rw [mno a (by unfold x_ok at h1; omega) h3 h4 h5]; exact kno a h2 (by unfold x_ok at h1; omega)
        · have := mj q hq
          rw [kno 154 (by decide) (by omega), kno 155 (by decide) (by omega), kno 156 (by decide) (by omega)] at this
          exact this
        · rw [mno 1 (by decide) (by decide) (by decide) (by decide)]; exact k11
        · rw [mno 1 (by decide) (by decide) (by decide) (by decide), m155]; exact k12
        · rw [mno 1 (by decide) (by decide) (by decide) (by decide), m156]; exact k13
  · skip
    refine (tX11_textN sc 1 μ w n hn n2 hfit _ a2 (fun d => tX9_numberFor_no sc d μ w a1 a2 ha)).mono (fun r μ1 w1 q => ⟨_, q.1, ?_⟩)
    obtain ⟨-, k11, k12, k13, kno⟩ := q
    refine (tX12_textO sc 21 μ1 w1 a1 a2 ha).mono (fun r2 μ2 w2 q2 => ⟨q2.1, ?_⟩)
    obtain ⟨-, m154, m155, m156, mj, mno⟩ := q2
    refine hI.notext (fun a h1 h2 h3 h4 h5 => ?_) (fun q hq => ?_) ?_ m154 ?_ ?_
    · rw [mno a (by unfold x_ok at h1; omega) h3 h4 h5]; exact kno a h2 (by unfold x_ok at h1; omega)
    · have := mj q hq
      rw [kno 154 (by decide) (by omega), kno 155 (by decide) (by omega), kno 156 (by decide) (by omega)] at this
      exact this
    · rw [mno 1 (by decide) (by decide) (by decide) (by decide)]; exact k11
    · rw [mno 1 (by decide) (by decide) (by decide) (by decide), m155]; exact k12
    · rw [mno 1 (by decide) (by decide) (by decide) (by decide), m156]; exact k13
