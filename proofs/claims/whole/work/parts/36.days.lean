/-! DAYS and LOGS: asked after; the steps of deed and log -/
def d_S (k : Nat) : Prop := x_shape[k]? = some (.inl (1, [none, some (some (.ref (k + 1)))])) ∧ x_shape[k + 1]? = some (.inr (.inl (0, 160)))
theorem d_Sf {f : Nat} (hf : f < 2) : d_S (13 + 11 * f) := by
  match f, hf with
  | 0, _ => exact ⟨rfl, rfl⟩
  | 1, _ => exact ⟨rfl, rfl⟩
def l_S (k : Nat) : Prop := x_shape[k]? = some (.inl (4, [none, none, some (some (.ref (k + 1))), some (some (.ref (k + 2)))])) ∧ x_shape[k + 1]? = some (.inr (.inl (0, 8))) ∧ x_shape[k + 2]? = some (.inr (.inl (0, 8)))
theorem l_Sf {f : Nat} (hf : f < 2) : l_S (15 + 11 * f) := by
  match f, hf with
  | 0, _ => exact ⟨rfl, rfl, rfl⟩
  | 1, _ => exact ⟨rfl, rfl, rfl⟩
/-- a DAY of n DEEDS: the class's cells, the reference's row, what the reader lets through -/
def d_C (μ : x_Me) (k n : Nat) (D : Nat → Int32) : Prop := μ k 0 = nI n ∧ ∀ i, i < 4 * n → μ (k + 1) i = D (1 + i)
def d_M (μ : x_Me) (f n : Nat) (D : Nat → Int32) : Prop := ∀ i, i < 1 + 4 * n → μ 159 (161 * f + i) = D i
def d_W (n : Nat) (D : Nat → Int32) : Prop := n ≤ 40 ∧ D 0 = nI n ∧ ∀ k, k < n → i_dw D k
/-- a LOG -/
def l_C (μ : x_Me) (k : Nat) (L : Nat → Nat) : Prop := μ k 0 = nI (L 0) ∧ μ k 1 = nI (L 1) ∧ ∀ j, j < L 1 → μ (k + 1) j = nI (L (2 + 2 * j)) ∧ μ (k + 2) j = nI (L (3 + 2 * j))
def l_M (μ : x_Me) (f : Nat) (L : Nat → Nat) : Prop := ∀ i, i < 2 + 2 * L 1 → μ 160 (18 * f + i) = nI (L i)
def l_W (L : Nat → Nat) : Prop := L 0 ≤ 8 ∧ L 1 ≤ 8 ∧ ∀ j, j < L 1 → L (2 + 2 * j) ≤ 1 ∧ L (3 + 2 * j) ≤ 63
/-- a call, on both sides, that leaves all as it was -/
theorem x_stG {sc : Nat × (Nat → Int32)} {Mc Mm : x_Mt} {as : List Value}
    (h : ∀ μ, x_Inv μ → ∃ v : Int32, (∀ w, x_K sc 29 Mc (.ref 0 :: as) μ w (fun r μ' _ => r = some (.int v) ∧ x_keep μ μ')) ∧ ∀ μ1 w, x_keep μ μ1 → x_K sc 29 Mm (.ref 152 :: as) μ1 w (fun r μ' _ => r = some (.int v) ∧ x_keep μ1 μ')) :
    x_stI sc (fun μ _ => x_Inv μ) (fun μ _ => x_Inv μ) Mc Mm as := by
  intro μ w hI
  obtain ⟨v, h1, h2⟩ := h μ hI
  exact (h1 w).mono (fun r μ1 w1 q => ⟨v, q.1, (h2 μ1 w1 q.2).mono (fun r2 μ2 w2 q2 => ⟨q2.1, hI.keep (q.2.tr q2.2)⟩)⟩)
theorem x_stGL {sc : Nat × (Nat → Int32)} {Mc Mm : x_Mt} {as : List Value}
    (h : ∀ μ, x_Inv μ → ∃ v : Int64, (∀ w, x_K sc 29 Mc (.ref 0 :: as) μ w (fun r μ' _ => r = some (.long v) ∧ x_keep μ μ')) ∧ ∀ μ1 w, x_keep μ μ1 → x_K sc 29 Mm (.ref 152 :: as) μ1 w (fun r μ' _ => r = some (.long v) ∧ x_keep μ1 μ')) :
    x_stL sc (fun μ _ => x_Inv μ) (fun μ _ => x_Inv μ) Mc Mm as := by
  intro μ w hI
  obtain ⟨v, h1, h2⟩ := h μ hI
  exact (h1 w).mono (fun r μ1 w1 q => ⟨v, q.1, (h2 μ1 w1 q.2).mono (fun r2 μ2 w2 q2 => ⟨q2.1, hI.keep (q.2.tr q2.2)⟩)⟩)
theorem x_kmany {μ μ1 : x_Me} (h : x_keep μ μ1) : μ1 157 = μ 157 := h 157 (Or.inr (Or.inl ⟨by decide, by decide⟩))
/-- what holds of DAYS -/
theorem x_Inv.day {μ : x_Me} (hI : x_Inv μ) : ∃ c, c ≤ 2 ∧ μ 3 1 = nI c ∧ μ 157 1 = nI c ∧ ∀ f, f < c → ∃ n D, d_W n D ∧ d_C μ (13 + 11 * f) n D ∧ d_M μ f n D := by
  obtain ⟨c, hc, e1, e2, h⟩ := hI.2.1.2.2.2.2 1 (by decide)
  refine ⟨c, hc, e1, e2, fun f hf => ?_⟩
  obtain ⟨D, n, h1, h2, h3, h4, h5, h6⟩ := h f hf
  have e : x_b 0 + 13 + 11 * f = 13 + 11 * f + 1 := by show 1 + 13 + 11 * f = _; omega
  rw [e] at h4
  have e2 : x_b 0 + 12 + 11 * f = 13 + 11 * f := by show 1 + 12 + 11 * f = _; omega
  rw [e2] at h3
  exact ⟨n, D, ⟨h1, h2, h6⟩, ⟨h3, h4⟩, fun i hi => by have := h5 i hi; rw [Nat.mul_zero, Nat.zero_add] at this; exact this⟩
theorem x_Inv.log {μ : x_Me} (hI : x_Inv μ) : ∃ c, c ≤ 2 ∧ μ 3 2 = nI c ∧ μ 157 2 = nI c ∧ ∀ f, f < c → ∃ L, l_W L ∧ l_C μ (15 + 11 * f) L ∧ l_M μ f L := by
  obtain ⟨c, hc, e1, e2, h⟩ := hI.2.1.2.2.2.2 2 (by decide)
  refine ⟨c, hc, e1, e2, fun f hf => ?_⟩
  obtain ⟨L, h1, h2, h3, h4, h5, h6⟩ := h f hf
  have e : x_b 0 + 15 + 11 * f = 15 + 11 * f + 1 := by show 1 + 15 + 11 * f = _; omega
  have e1 : x_b 0 + 16 + 11 * f = 15 + 11 * f + 2 := by show 1 + 16 + 11 * f = _; omega
  have e2 : x_b 0 + 14 + 11 * f = 15 + 11 * f := by show 1 + 14 + 11 * f = _; omega
  rw [e, e1] at h5
  rw [e2] at h3 h4
  exact ⟨L, ⟨h1, h2, fun j hj => ⟨(h5 j hj).1, (h5 j hj).2.1⟩⟩, ⟨h3, h4, fun j hj => (h5 j hj).2.2⟩, fun i hi => by have := h6 i hi; rw [Nat.mul_zero, Nat.zero_add] at this; exact this⟩
theorem x_Inv.fair {μ : x_Me} (hI : x_Inv μ) : ∃ c, c ≤ 2 ∧ μ 3 0 = nI c ∧ μ 157 0 = nI c ∧ ∀ f, f < c → ∃ F, f_W F ∧ f_C μ (7 + 11 * f) F ∧ ∀ i, i < 125 → μ 158 (125 * f + i) = nI (F i) := by
  obtain ⟨c, hc, e1, e2, h⟩ := hI.2.1.2.2.2.2 0 (by decide)
  refine ⟨c, hc, e1, e2, fun f hf => ?_⟩
  obtain ⟨F, hW, hC, hM⟩ := h f hf
  exact ⟨F, hW, hC, fun i hi => by have := hM i hi; rw [Nat.mul_zero, Nat.zero_add] at this; exact this⟩
/-- a call that asks after a DAY, on both sides -/
theorem x_stD {sc : Nat × (Nat → Int32)} {Mc Mm : x_Mt} {kk : Int32} {as : List Value} (no : Int32)
    (hcN : ∀ μ w c, c ≤ 2 → μ 3 1 = nI c → ¬ (0 ≤ kk ∧ kk < nI c) → x_K sc 29 Mc (.ref 0 :: .int kk :: as) μ w (fun r μ' _ => r = some (.int no) ∧ x_keep μ μ'))
    (hmN : ∀ μ w c, c ≤ 2 → μ 157 1 = nI c → ¬ (0 ≤ kk ∧ kk < nI c) → x_K sc 29 Mm (.ref 152 :: .int kk :: as) μ w (fun r μ' _ => r = some (.int no) ∧ x_keep μ μ'))
    (hY : ∀ (f n : Nat) (D : Nat → Int32), f < 2 → kk = nI f → d_W n D → ∃ v : Int32, (∀ μ w c, f < c → c ≤ 2 → μ 3 1 = nI c → d_C μ (13 + 11 * f) n D → x_K sc 29 Mc (.ref 0 :: .int kk :: as) μ w (fun r μ' _ => r = some (.int v) ∧ x_keep μ μ')) ∧
      (∀ μ w c, f < c → c ≤ 2 → μ 157 1 = nI c → d_M μ f n D → x_K sc 29 Mm (.ref 152 :: .int kk :: as) μ w (fun r μ' _ => r = some (.int v) ∧ x_keep μ μ'))) :
    x_stI sc (fun μ _ => x_Inv μ) (fun μ _ => x_Inv μ) Mc Mm (.int kk :: as) := by
  refine x_stG (fun μ hI => ?_)
  obtain ⟨c, hc, e1, e2, hds⟩ := hI.day
  by_cases hk : 0 ≤ kk ∧ kk < nI c
  · obtain ⟨f, hf31, rfl⟩ := nI_of (Int32.not_lt.mpr hk.1)
    have hf : f < c := (nI_ltI hf31 (by omega)).mp hk.2
    obtain ⟨n, D, hW, hC, hM⟩ := hds f hf
    obtain ⟨v, hv1, hv2⟩ := hY f n D (by omega) rfl hW
    refine ⟨v, fun w => hv1 μ w c hf hc e1 hC, fun μ1 w hk1 => hv2 μ1 w c hf hc (by rw [x_kmany hk1]; exact e2) ?_⟩
    intro i hi
    rw [hk1 159 (Or.inr (Or.inl ⟨by decide, by decide⟩))]; exact hM i hi
  · exact ⟨no, fun w => hcN μ w c hc e1 hk, fun μ1 w hk1 => hmN μ1 w c hc (by rw [x_kmany hk1]; exact e2) hk⟩
/-- a call that asks after a LOG, on both sides -/
theorem x_stO {sc : Nat × (Nat → Int32)} {Mc Mm : x_Mt} {kk : Int32} {as : List Value} (no : Int32)
    (hcN : ∀ μ w c, c ≤ 2 → μ 3 2 = nI c → ¬ (0 ≤ kk ∧ kk < nI c) → x_K sc 29 Mc (.ref 0 :: .int kk :: as) μ w (fun r μ' _ => r = some (.int no) ∧ x_keep μ μ'))
    (hmN : ∀ μ w c, c ≤ 2 → μ 157 2 = nI c → ¬ (0 ≤ kk ∧ kk < nI c) → x_K sc 29 Mm (.ref 152 :: .int kk :: as) μ w (fun r μ' _ => r = some (.int no) ∧ x_keep μ μ'))
    (hY : ∀ (f : Nat) (L : Nat → Nat), f < 2 → kk = nI f → l_W L → ∃ v : Int32, (∀ μ w c, f < c → c ≤ 2 → μ 3 2 = nI c → l_C μ (15 + 11 * f) L → x_K sc 29 Mc (.ref 0 :: .int kk :: as) μ w (fun r μ' _ => r = some (.int v) ∧ x_keep μ μ')) ∧
      (∀ μ w c, f < c → c ≤ 2 → μ 157 2 = nI c → l_M μ f L → x_K sc 29 Mm (.ref 152 :: .int kk :: as) μ w (fun r μ' _ => r = some (.int v) ∧ x_keep μ μ'))) :
    x_stI sc (fun μ _ => x_Inv μ) (fun μ _ => x_Inv μ) Mc Mm (.int kk :: as) := by
  refine x_stG (fun μ hI => ?_)
  obtain ⟨c, hc, e1, e2, hds⟩ := hI.log
  by_cases hk : 0 ≤ kk ∧ kk < nI c
  · obtain ⟨f, hf31, rfl⟩ := nI_of (Int32.not_lt.mpr hk.1)
    have hf : f < c := (nI_ltI hf31 (by omega)).mp hk.2
    obtain ⟨L, hW, hC, hM⟩ := hds f hf
    obtain ⟨v, hv1, hv2⟩ := hY f L (by omega) rfl hW
    refine ⟨v, fun w => hv1 μ w c hf hc e1 hC, fun μ1 w hk1 => hv2 μ1 w c hf hc (by rw [x_kmany hk1]; exact e2) ?_⟩
    intro i hi
    rw [hk1 160 (Or.inr (Or.inl ⟨by decide, by decide⟩))]; exact hM i hi
  · exact ⟨no, fun w => hcN μ w c hc e1 hk, fun μ1 w hk1 => hmN μ1 w c hc (by rw [x_kmany hk1]; exact e2) hk⟩
theorem s_is_no {c : Nat} {n : Int32} (hn : ¬ (0 ≤ n ∧ n < nI c)) : (if n < 0 then (0 : Int32) else if n < nI c then 1 else 0) = 0 := by
  by_cases h1 : n < 0
  · rw [if_pos h1]
  · rw [if_neg h1, if_neg (fun z => hn ⟨Int32.not_lt.mp h1, z⟩)]
theorem s_is_yes {c f : Nat} (hf : f < c) (hc : c ≤ 2) : (if nI f < 0 then (0 : Int32) else if nI f < nI c then 1 else 0) = 1 := by
  rw [if_neg (nI_pos (by omega)), if_pos (nI_lt hf (by omega))]
section DAYS
variable (sc : Nat × (Nat → Int32)) (d : Nat) (μ : x_Me) (w : Int64)
set_option maxHeartbeats 400000 in
theorem tX12_hasDay_yes (f c : Nat) (hf : f < c) (hc : c ≤ 2) (e : μ 157 1 = nI c) : x_D sc (d + 2) mX12_hasDay [.ref 152, .int (nI f)] μ w (some (.int 1)) (x_u μ 152 (upd (μ 152) 40 (nI f))) w := by
  refine x_D.of (by decide) (Nat.le_of_ble_eq_true rfl) ?_
  show x_T sc (d + 2) mX12_hasDay 0 [.ref 152, .int (nI f)] [] μ w _
  refine xt_aload_n _ dX12_hasDay_0 rfl ?_
  refine xt_iload_n _ dX12_hasDay_1 rfl ?_
  refine xt_puti dX12_hasDay_2 kpX12_310 (by first | exact sh152 | rfl | assumption) rfl (by first | rfl | assumption) (by first | rfl | assumption) ?_
  refine xt_aload_n _ dX12_hasDay_5 rfl ?_
  refine xt_iconst (1) dX12_hasDay_6 (by decide) ?_
  refine xt_iload_n _ dX12_hasDay_7 rfl ?_
  refine xt_cV _ dX12_hasDay_8 klX12_231 (tX12_is sc _ (x_u μ 152 (upd (μ 152) 40 (nI f))) w 1 c (by decide) (by omega) e _) sh152 rfl rfl (Nat.le_of_ble_eq_true rfl) ?_
  rw [s_is_yes hf hc]
  exact xt_iret .boolean dX12_hasDay_11 rfl (by first | rfl | assumption) ⟨rfl, rfl, rfl⟩
set_option maxHeartbeats 400000 in
theorem tX12_hasDay_no (c : Nat) (hc : c ≤ 2) (a : Int32) (hk : ¬ (0 ≤ a ∧ a < nI c)) (e : μ 157 1 = nI c) : x_D sc (d + 2) mX12_hasDay [.ref 152, .int a] μ w (some (.int 0)) (x_u μ 152 (upd (μ 152) 40 a)) w := by
  refine x_D.of (by decide) (Nat.le_of_ble_eq_true rfl) ?_
  show x_T sc (d + 2) mX12_hasDay 0 [.ref 152, .int a] [] μ w _
  refine xt_aload_n _ dX12_hasDay_0 rfl ?_
  refine xt_iload_n _ dX12_hasDay_1 rfl ?_
  refine xt_puti dX12_hasDay_2 kpX12_310 (by first | exact sh152 | rfl | assumption) rfl (by first | rfl | assumption) (by first | rfl | assumption) ?_
  refine xt_aload_n _ dX12_hasDay_5 rfl ?_
  refine xt_iconst (1) dX12_hasDay_6 (by decide) ?_
  refine xt_iload_n _ dX12_hasDay_7 rfl ?_
  refine xt_cV _ dX12_hasDay_8 klX12_231 (tX12_is sc _ (x_u μ 152 (upd (μ 152) 40 a)) w 1 c (by decide) (by omega) e _) sh152 rfl rfl (Nat.le_of_ble_eq_true rfl) ?_
  rw [s_is_no hk]
  exact xt_iret .boolean dX12_hasDay_11 rfl (by first | rfl | assumption) ⟨rfl, rfl, rfl⟩
set_option maxHeartbeats 400000 in
theorem tX12_hasLog_yes (f c : Nat) (hf : f < c) (hc : c ≤ 2) (e : μ 157 2 = nI c) : x_D sc (d + 2) mX12_hasLog [.ref 152, .int (nI f)] μ w (some (.int 1)) (x_u μ 152 (upd (μ 152) 47 (nI f))) w := by
  refine x_D.of (by decide) (Nat.le_of_ble_eq_true rfl) ?_
  show x_T sc (d + 2) mX12_hasLog 0 [.ref 152, .int (nI f)] [] μ w _
  refine xt_aload_n _ dX12_hasLog_0 rfl ?_
  refine xt_iload_n _ dX12_hasLog_1 rfl ?_
  refine xt_puti dX12_hasLog_2 kpX12_425 (by first | exact sh152 | rfl | assumption) rfl (by first | rfl | assumption) (by first | rfl | assumption) ?_
  refine xt_aload_n _ dX12_hasLog_5 rfl ?_
  refine xt_iconst (2) dX12_hasLog_6 (by decide) ?_
  refine xt_iload_n _ dX12_hasLog_7 rfl ?_
  refine xt_cV _ dX12_hasLog_8 klX12_231 (tX12_is sc _ (x_u μ 152 (upd (μ 152) 47 (nI f))) w 2 c (by decide) (by omega) e _) sh152 rfl rfl (Nat.le_of_ble_eq_true rfl) ?_
  rw [s_is_yes hf hc]
  exact xt_iret .boolean dX12_hasLog_11 rfl (by first | rfl | assumption) ⟨rfl, rfl, rfl⟩
set_option maxHeartbeats 400000 in
theorem tX12_hasLog_no (c : Nat) (hc : c ≤ 2) (a : Int32) (hk : ¬ (0 ≤ a ∧ a < nI c)) (e : μ 157 2 = nI c) : x_D sc (d + 2) mX12_hasLog [.ref 152, .int a] μ w (some (.int 0)) (x_u μ 152 (upd (μ 152) 47 a)) w := by
  refine x_D.of (by decide) (Nat.le_of_ble_eq_true rfl) ?_
  show x_T sc (d + 2) mX12_hasLog 0 [.ref 152, .int a] [] μ w _
  refine xt_aload_n _ dX12_hasLog_0 rfl ?_
  refine xt_iload_n _ dX12_hasLog_1 rfl ?_
  refine xt_puti dX12_hasLog_2 kpX12_425 (by first | exact sh152 | rfl | assumption) rfl (by first | rfl | assumption) (by first | rfl | assumption) ?_
  refine xt_aload_n _ dX12_hasLog_5 rfl ?_
  refine xt_iconst (2) dX12_hasLog_6 (by decide) ?_
  refine xt_iload_n _ dX12_hasLog_7 rfl ?_
  refine xt_cV _ dX12_hasLog_8 klX12_231 (tX12_is sc _ (x_u μ 152 (upd (μ 152) 47 a)) w 2 c (by decide) (by omega) e _) sh152 rfl rfl (Nat.le_of_ble_eq_true rfl) ?_
  rw [s_is_no hk]
  exact xt_iret .boolean dX12_hasLog_11 rfl (by first | rfl | assumption) ⟨rfl, rfl, rfl⟩
set_option maxHeartbeats 1000000 in
theorem tX12_deeds (f n : Nat) (D : Nat → Int32) (hf : f < 2) (hd : μ 152 40 = nI f) (hM : d_M μ f n D) : x_K sc d mX12_deeds [.ref 152] μ w (x_p (some (.int (D 0))) μ w) := by
  have hix : (161 : Int32) * μ 152 40 = nI (161 * f) := by rw [hd, show (161 : Int32) = nI 161 from rfl, pk_mul]
  refine x_K.of (by decide) (Nat.le_of_ble_eq_true rfl) ?_
  show x_T sc d mX12_deeds 0 [.ref 152] [] μ w _
  refine xt_aload_n _ dX12_deeds_0 rfl ?_
  refine xt_getr _ dX12_deeds_1 kfX12_29 (by first | exact sh152 | rfl | assumption) rfl ?_
  refine xt_sipush (161) dX12_deeds_4 (by decide) ?_
  refine xt_aload_n _ dX12_deeds_7 rfl ?_
  refine xt_geti dX12_deeds_8 kfX12_310 (by first | exact sh152 | rfl | assumption) rfl ?_
  refine xt_imul dX12_deeds_11 ?_
  refine xt_ald dX12_deeds_12 (by first | exact sh152 | rfl | assumption) (by rw [hix]; exact vp_in_nI (by omega) (by decide)) ?_
  exact xt_iret .int dX12_deeds_13 rfl (by first | rfl | assumption) ⟨by rw [hix, nI_clamp (by omega), show μ 159 (161 * f) = D 0 from hM 0 (by omega)], rfl, rfl⟩
set_option maxHeartbeats 1000000 in
theorem tX12_deedOf (f n : Nat) (D : Nat → Int32) (hf : f < 2) (hn : n ≤ 40) (hd : μ 152 40 = nI f) (hM : d_M μ f n D) (j i : Nat) (hj : j < n) (hi : i < 4) : x_K sc d mX12_deedOf [.ref 152, .int (nI j), .int (nI i)] μ w (x_p (some (.int (D (1 + (4 * j + i))))) μ w) := by
  have hix : (161 : Int32) * μ 152 40 + 1 + 4 * nI j + nI i = nI (161 * f + (1 + (4 * j + i))) := by rw [hd, show (161 : Int32) = nI 161 from rfl, show (1 : Int32) = nI 1 from rfl, show (4 : Int32) = nI 4 from rfl, pk_mul, pk_mul, nI_add, nI_add, nI_add]; congr 1; omega
  refine x_K.of (by decide) (Nat.le_of_ble_eq_true rfl) ?_
  show x_T sc d mX12_deedOf 0 [.ref 152, .int (nI j), .int (nI i)] [] μ w _
  refine xt_aload_n _ dX12_deedOf_0 rfl ?_
  refine xt_getr _ dX12_deedOf_1 kfX12_29 (by first | exact sh152 | rfl | assumption) rfl ?_
  refine xt_sipush (161) dX12_deedOf_4 (by decide) ?_
  refine xt_aload_n _ dX12_deedOf_7 rfl ?_
  refine xt_geti dX12_deedOf_8 kfX12_310 (by first | exact sh152 | rfl | assumption) rfl ?_
  refine xt_imul dX12_deedOf_11 ?_
  refine xt_iconst (1) dX12_deedOf_12 (by decide) ?_
  refine xt_iadd dX12_deedOf_13 ?_
  refine xt_iconst (4) dX12_deedOf_14 (by decide) ?_
  refine xt_iload_n _ dX12_deedOf_15 rfl ?_
  refine xt_imul dX12_deedOf_16 ?_
  refine xt_iadd dX12_deedOf_17 ?_
  refine xt_iload_n _ dX12_deedOf_18 rfl ?_
  refine xt_iadd dX12_deedOf_19 ?_
  refine xt_ald dX12_deedOf_20 (by first | exact sh152 | rfl | assumption) (by rw [hix]; exact vp_in_nI (by omega) (by decide)) ?_
  exact xt_iret .int dX12_deedOf_21 rfl (by first | rfl | assumption) ⟨by rw [hix, nI_clamp (by omega), hM (1 + (4 * j + i)) (by omega)], rfl, rfl⟩
set_option maxHeartbeats 1000000 in
theorem tX12_lies (f : Nat) (L : Nat → Nat) (hf : f < 2) (hW : l_W L) (hl : μ 152 47 = nI f) (hM : l_M μ f L) : x_K sc d mX12_lies [.ref 152] μ w (x_p (some (.int (nI (L 0)))) μ w) := by
  have hix : (18 : Int32) * μ 152 47 = nI (18 * f) := by rw [hl, show (18 : Int32) = nI 18 from rfl, pk_mul]
  refine x_K.of (by decide) (Nat.le_of_ble_eq_true rfl) ?_
  show x_T sc d mX12_lies 0 [.ref 152] [] μ w _
  refine xt_aload_n _ dX12_lies_0 rfl ?_
  refine xt_getr _ dX12_lies_1 kfX12_32 (by first | exact sh152 | rfl | assumption) rfl ?_
  refine xt_bipush (18) dX12_lies_4 (by decide) ?_
  refine xt_aload_n _ dX12_lies_6 rfl ?_
  refine xt_geti dX12_lies_7 kfX12_425 (by first | exact sh152 | rfl | assumption) rfl ?_
  refine xt_imul dX12_lies_10 ?_
  refine xt_ald dX12_lies_11 (by first | exact sh152 | rfl | assumption) (by rw [hix]; exact vp_in_nI (by omega) (by decide)) ?_
  exact xt_iret .int dX12_lies_12 rfl (by first | rfl | assumption) ⟨by rw [hix, nI_clamp (by omega), show μ 160 (18 * f) = nI (L 0) from hM 0 (by omega)], rfl, rfl⟩
set_option maxHeartbeats 1000000 in
theorem tX12_facts (f : Nat) (L : Nat → Nat) (hf : f < 2) (hW : l_W L) (hl : μ 152 47 = nI f) (hM : l_M μ f L) : x_K sc d mX12_facts [.ref 152] μ w (x_p (some (.int (nI (L 1)))) μ w) := by
  have hix : (18 : Int32) * μ 152 47 + 1 = nI (18 * f + 1) := by rw [hl, show (18 : Int32) = nI 18 from rfl, show (1 : Int32) = nI 1 from rfl, pk_mul, nI_add]
  refine x_K.of (by decide) (Nat.le_of_ble_eq_true rfl) ?_
  show x_T sc d mX12_facts 0 [.ref 152] [] μ w _
  refine xt_aload_n _ dX12_facts_0 rfl ?_
  refine xt_getr _ dX12_facts_1 kfX12_32 (by first | exact sh152 | rfl | assumption) rfl ?_
  refine xt_bipush (18) dX12_facts_4 (by decide) ?_
  refine xt_aload_n _ dX12_facts_6 rfl ?_
  refine xt_geti dX12_facts_7 kfX12_425 (by first | exact sh152 | rfl | assumption) rfl ?_
  refine xt_imul dX12_facts_10 ?_
  refine xt_iconst (1) dX12_facts_11 (by decide) ?_
  refine xt_iadd dX12_facts_12 ?_
  refine xt_ald dX12_facts_13 (by first | exact sh152 | rfl | assumption) (by rw [hix]; exact vp_in_nI (by omega) (by decide)) ?_
  exact xt_iret .int dX12_facts_14 rfl (by first | rfl | assumption) ⟨by rw [hix, nI_clamp (by omega), hM 1 (by omega)], rfl, rfl⟩
set_option maxHeartbeats 1000000 in
theorem tX12_factOf (f : Nat) (L : Nat → Nat) (hf : f < 2) (hW : l_W L) (hl : μ 152 47 = nI f) (hM : l_M μ f L) (j i : Nat) (hj : j < L 1) (hi : i < 2) : x_K sc d mX12_factOf [.ref 152, .int (nI j), .int (nI i)] μ w (x_p (some (.int (nI (L (2 + (2 * j + i)))))) μ w) := by
  have h8 := hW.2.1
  have hix : (18 : Int32) * μ 152 47 + 2 + 2 * nI j + nI i = nI (18 * f + (2 + (2 * j + i))) := by rw [hl, show (18 : Int32) = nI 18 from rfl, show (2 : Int32) = nI 2 from rfl, pk_mul, pk_mul, nI_add, nI_add, nI_add]; congr 1; omega
  refine x_K.of (by decide) (Nat.le_of_ble_eq_true rfl) ?_
  show x_T sc d mX12_factOf 0 [.ref 152, .int (nI j), .int (nI i)] [] μ w _
  refine xt_aload_n _ dX12_factOf_0 rfl ?_
  refine xt_getr _ dX12_factOf_1 kfX12_32 (by first | exact sh152 | rfl | assumption) rfl ?_
  refine xt_bipush (18) dX12_factOf_4 (by decide) ?_
  refine xt_aload_n _ dX12_factOf_6 rfl ?_
  refine xt_geti dX12_factOf_7 kfX12_425 (by first | exact sh152 | rfl | assumption) rfl ?_
  refine xt_imul dX12_factOf_10 ?_
  refine xt_iconst (2) dX12_factOf_11 (by decide) ?_
  refine xt_iadd dX12_factOf_12 ?_
  refine xt_iconst (2) dX12_factOf_13 (by decide) ?_
  refine xt_iload_n _ dX12_factOf_14 rfl ?_
  refine xt_imul dX12_factOf_15 ?_
  refine xt_iadd dX12_factOf_16 ?_
  refine xt_iload_n _ dX12_factOf_17 rfl ?_
  refine xt_iadd dX12_factOf_18 ?_
  refine xt_ald dX12_factOf_19 (by first | exact sh152 | rfl | assumption) (by rw [hix]; exact vp_in_nI (by omega) (by decide)) ?_
  exact xt_iret .int dX12_factOf_20 rfl (by first | rfl | assumption) ⟨by rw [hix, nI_clamp (by omega), hM (2 + (2 * j + i)) (by omega)], rfl, rfl⟩
set_option maxHeartbeats 1000000 in
theorem tX1_part {k n : Nat} {D : Nat → Int32} (hS : d_S k) (hn : n ≤ 40) (hC : d_C μ k n D) (j i : Nat) (hj : j < n) (hi : i < 4) : x_K sc (d + 1) mX1_part [.ref k, .int (nI j), .int (nI i)] μ w (x_p (some (.int (D (1 + (4 * j + i))))) μ w) := by
  refine x_K.of (by decide) (Nat.le_of_ble_eq_true rfl) ?_
  show x_T sc (d + 1) mX1_part 0 [.ref k, .int (nI j), .int (nI i)] [] μ w _
  refine xt_aload_n _ dX1_part_0 rfl ?_
  refine xt_getr _ dX1_part_1 kfX1_9 (by first | exact hS.1 | rfl | assumption) rfl ?_
  refine xt_iconst (4) dX1_part_4 (by decide) ?_
  refine xt_iload_n _ dX1_part_5 rfl ?_
  refine xt_imul dX1_part_6 ?_
  refine xt_iload_n _ dX1_part_7 rfl ?_
  refine xt_iadd dX1_part_8 ?_
  refine xt_cS _ dX1_part_9 klX1_25 (tX8_at sc _ μ w (k := k + 1) (n := 160) hS.2 (by decide) _) rfl rfl (Nat.le_of_ble_eq_true rfl) ?_
  exact xt_iret .int dX1_part_12 rfl (by first | rfl | assumption) ⟨by rw [s_at_ix (j := 4 * j + i) (by omega) (by decide) (by rw [show (4 : Int32) = nI 4 from rfl, pk_mul, nI_add]), hC.2 _ (by omega)], rfl, rfl⟩
end DAYS
section DEED
variable (sc : Nat × (Nat → Int32)) (d : Nat) (μ : x_Me) (w : Int64)
set_option maxHeartbeats 1000000 in
theorem tX1_tell_m {k n : Nat} {D : Nat → Int32} (hS : d_S k) (hn : n ≤ 40) (hC : d_C μ k n D) (b : Int32) : x_K sc (d + 2) mX1_tell [.ref k, .int (-1), .int b] μ w (x_p (some (.int (if b = 0 then nI n else -2))) μ w) := by
  have e0 := hC.1
  refine x_K.of (by decide) (Nat.le_of_ble_eq_true rfl) ?_
  show x_T sc (d + 2) mX1_tell 0 [.ref k, .int (-1), .int b] [] μ w _
  refine xt_iload_n _ dX1_tell_0 rfl ?_
  refine xt_iconst (-1) dX1_tell_1 (by decide) ?_
  refine xt_icmp_ne 19 dX1_tell_2 (by decide) (fun q => absurd rfl q) (fun _ => ?_)
  refine xt_iload_n _ dX1_tell_5 rfl ?_
  refine xt_if_ne 16 dX1_tell_6 (by decide) (fun t6 => ?_) (fun f6 => ?_)
  · refine xt_bipush (-2) dX1_tell_16 (by decide) ?_
    exact xt_iret .int dX1_tell_18 rfl (by first | rfl | assumption) ⟨by rw [if_neg t6], rfl, rfl⟩
  · refine xt_aload_n _ dX1_tell_9 rfl ?_
    refine xt_geti dX1_tell_10 kfX1_15 (by first | exact hS.1 | rfl | assumption) rfl ?_
    refine xt_goto 18 dX1_tell_13 (by decide) ?_
    exact xt_iret .int dX1_tell_18 rfl (by first | rfl | assumption) ⟨by rw [if_pos f6, e0], rfl, rfl⟩
set_option maxHeartbeats 1000000 in
theorem tX1_tell_no {k n : Nat} {D : Nat → Int32} (hS : d_S k) (hn : n ≤ 40) (hC : d_C μ k n D) (a b : Int32) (ha : ¬ a = -1) (hr : ¬ ((0 ≤ a ∧ a < nI n) ∧ (0 ≤ b ∧ b ≤ nI 3))) : x_K sc (d + 2) mX1_tell [.ref k, .int a, .int b] μ w (x_p (some (.int (-2))) μ w) := by
  have e0 := hC.1
  refine x_K.of (by decide) (Nat.le_of_ble_eq_true rfl) ?_
  show x_T sc (d + 2) mX1_tell 0 [.ref k, .int a, .int b] [] μ w _
  refine xt_iload_n _ dX1_tell_0 rfl ?_
  refine xt_iconst (-1) dX1_tell_1 (by decide) ?_
  refine xt_icmp_ne 19 dX1_tell_2 (by decide) (fun _ => ?_) (fun q => absurd q ha)
  refine xt_iload_n _ dX1_tell_19 rfl ?_
  refine xt_if_lt 40 dX1_tell_20 (by decide) (fun t20 => ?_) (fun f20 => ?_)
  · refine xt_bipush (-2) dX1_tell_40 (by decide) ?_
    refine xt_goto 51 dX1_tell_42 (by decide) ?_
    exact xt_iret .int dX1_tell_51 rfl (by first | rfl | assumption) ⟨rfl, rfl, rfl⟩
  · refine xt_iload_n _ dX1_tell_23 rfl ?_
    refine xt_aload_n _ dX1_tell_24 rfl ?_
    refine xt_geti dX1_tell_25 kfX1_15 (by first | exact hS.1 | rfl | assumption) rfl ?_
    refine xt_icmp_ge 40 dX1_tell_28 (by decide) (fun t28 => ?_) (fun f28 => ?_)
    · refine xt_bipush (-2) dX1_tell_40 (by decide) ?_
      refine xt_goto 51 dX1_tell_42 (by decide) ?_
      exact xt_iret .int dX1_tell_51 rfl (by first | rfl | assumption) ⟨rfl, rfl, rfl⟩
    · refine xt_iload_n _ dX1_tell_31 rfl ?_
      refine xt_if_lt 40 dX1_tell_32 (by decide) (fun t32 => ?_) (fun f32 => ?_)
      · refine xt_bipush (-2) dX1_tell_40 (by decide) ?_
        refine xt_goto 51 dX1_tell_42 (by decide) ?_
        exact xt_iret .int dX1_tell_51 rfl (by first | rfl | assumption) ⟨rfl, rfl, rfl⟩
      · refine xt_iload_n _ dX1_tell_35 rfl ?_
        refine xt_iconst (3) dX1_tell_36 (by decide) ?_
        refine xt_icmp_le 45 dX1_tell_37 (by decide) (fun t37 => ?_) (fun f37 => ?_)
        · refine xt_aload_n _ dX1_tell_45 rfl ?_
          refine xt_iload_n _ dX1_tell_46 rfl ?_
          refine xt_iload_n _ dX1_tell_47 rfl ?_
          exact absurd ⟨⟨Int32.not_lt.mp f20, Int32.not_le.mp (by rw [← e0]; exact f28)⟩, Int32.not_lt.mp f32, t37⟩ hr
        · refine xt_bipush (-2) dX1_tell_40 (by decide) ?_
          refine xt_goto 51 dX1_tell_42 (by decide) ?_
          exact xt_iret .int dX1_tell_51 rfl (by first | rfl | assumption) ⟨rfl, rfl, rfl⟩
set_option maxHeartbeats 1000000 in
theorem tX1_tell {k n : Nat} {D : Nat → Int32} (hS : d_S k) (hn : n ≤ 40) (hC : d_C μ k n D) (j i : Nat) (hj : j < n) (hi : i < 4) : x_K sc (d + 2) mX1_tell [.ref k, .int (nI j), .int (nI i)] μ w (x_p (some (.int (D (1 + (4 * j + i))))) μ w) := by
  have e0 := hC.1
  refine x_K.of (by decide) (Nat.le_of_ble_eq_true rfl) ?_
  show x_T sc (d + 2) mX1_tell 0 [.ref k, .int (nI j), .int (nI i)] [] μ w _
  refine xt_iload_n _ dX1_tell_0 rfl ?_
  refine xt_iconst (-1) dX1_tell_1 (by decide) ?_
  refine xt_icmp_ne 19 dX1_tell_2 (by decide) (fun _ => ?_) (fun q => absurd q (nI_m1 (by omega)))
  refine xt_iload_n _ dX1_tell_19 rfl ?_
  refine xt_if_lt 40 dX1_tell_20 (by decide) (fun q => absurd q (nI_pos (by omega))) (fun _ => ?_)
  refine xt_iload_n _ dX1_tell_23 rfl ?_
  refine xt_aload_n _ dX1_tell_24 rfl ?_
  refine xt_geti dX1_tell_25 kfX1_15 (by first | exact hS.1 | rfl | assumption) rfl ?_
  refine xt_icmp_ge 40 dX1_tell_28 (by decide) (fun q => absurd q (by rw [e0]; exact nI_ge hj (by omega))) (fun _ => ?_)
  refine xt_iload_n _ dX1_tell_31 rfl ?_
  refine xt_if_lt 40 dX1_tell_32 (by decide) (fun q => absurd q (nI_pos (by omega))) (fun _ => ?_)
  refine xt_iload_n _ dX1_tell_35 rfl ?_
  refine xt_iconst (3) dX1_tell_36 (by decide) ?_
  refine xt_icmp_le 45 dX1_tell_37 (by decide) (fun _ => ?_) (fun q => absurd (nI_le (b := 3) (by omega) (by decide)) q)
  refine xt_aload_n _ dX1_tell_45 rfl ?_
  refine xt_iload_n _ dX1_tell_46 rfl ?_
  refine xt_iload_n _ dX1_tell_47 rfl ?_
  refine xt_cV _ dX1_tell_48 klX1_35 (tX1_part sc _ μ w hS hn hC j i hj hi) hS.1 rfl rfl (Nat.le_of_ble_eq_true rfl) ?_
  exact xt_iret .int dX1_tell_51 rfl (by first | rfl | assumption) ⟨rfl, rfl, rfl⟩
end DEED
set_option maxHeartbeats 2000000 in
theorem st_deed (sc : Nat × (Nat → Int32)) (a1 a2 a3 : Int32) : x_stI sc (fun μ _ => x_Inv μ) (fun μ _ => x_Inv μ) mX11_deed mX12_deed [.int a1, .int a2, .int a3] := by
  refine x_stD (-2) ?_ ?_ ?_
  · intro μ w c hc e hk
    refine x_K.of (by decide) (Nat.le_of_ble_eq_true rfl) ?_
    show x_T sc 29 mX11_deed 0 [.ref 0, .int a1, .int a2, .int a3, .retAddr 0] [] μ w _
    refine xt_aload_n _ dX11_deed_0 rfl ?_
    refine xt_iload_n _ dX11_deed_1 rfl ?_
    refine xt_cV _ dX11_deed_2 klX11_100 (tX11_dayOf_no sc _ μ w c hc e _ hk) sh0 rfl rfl (Nat.le_of_ble_eq_true rfl) ?_
    refine xt_astore0 dX11_deed_5 (by decide) rfl ?_
    change x_T _ _ _ _ [_, _, _, _, _] _ _ _ _
    refine xt_aload0 dX11_deed_7 rfl ?_
    refine xt_ifnonnull_n dX11_deed_9 ?_
    refine xt_bipush (-2) dX11_deed_12 (by decide) ?_
    refine xt_goto 24 dX11_deed_14 (by decide) ?_
    exact xt_iret .int dX11_deed_24 rfl (by first | rfl | assumption) ⟨rfl, x_keep.rf μ⟩
  · intro μ w c hc e hk
    refine x_K.of (by decide) (Nat.le_of_ble_eq_true rfl) ?_
    show x_T sc 29 mX12_deed 0 [.ref 152, .int a1, .int a2, .int a3] [] μ w _
    refine xt_aload_n _ dX12_deed_0 rfl ?_
    refine xt_iconst (0) dX12_deed_1 (by decide) ?_
    refine xt_puti dX12_deed_2 kpX12_72 (by first | exact sh152 | rfl | assumption) rfl (by first | rfl | assumption) (by first | rfl | assumption) ?_
    refine xt_aload_n _ dX12_deed_5 rfl ?_
    refine xt_iload_n _ dX12_deed_6 rfl ?_
    refine xt_cV _ dX12_deed_7 klX12_313 (tX12_hasDay_no sc _ (x_u μ 152 (upd (μ 152) 0 0)) w c hc _ hk e) sh152 rfl rfl (Nat.le_of_ble_eq_true rfl) ?_
    refine xt_if_ne 16 dX12_deed_10 (by decide) (fun q => absurd (by decide) q) (fun _ => ?_)
    refine xt_bipush (-2) dX12_deed_13 (by decide) ?_
    exact xt_iret .int dX12_deed_15 rfl (by first | rfl | assumption) ⟨rfl, (x_keep.u (x_keep.u (x_keep.rf μ) (by unfold x_ok; omega)) (by unfold x_ok; omega))⟩
  · intro f n D hf2 hkk hW
    subst hkk
    by_cases ha : a2 = -1
    · subst ha
      refine ⟨if a3 = 0 then nI n else -2, ?_, ?_⟩
      · intro μ w c hf hc e hC
        have hS := d_Sf hf2
        refine x_K.of (by decide) (Nat.le_of_ble_eq_true rfl) ?_
        show x_T sc 29 mX11_deed 0 [.ref 0, .int (nI f), .int (-1), .int a3, .retAddr 0] [] μ w _
        refine xt_aload_n _ dX11_deed_0 rfl ?_
        refine xt_iload_n _ dX11_deed_1 rfl ?_
        refine xt_cV _ dX11_deed_2 klX11_100 (tX11_dayOf sc _ μ w f c hf hc e) sh0 rfl rfl (Nat.le_of_ble_eq_true rfl) ?_
        refine xt_astore dX11_deed_5 (by decide) rfl ?_
        change x_T _ _ _ _ [_, _, _, _, _] _ _ _ _
        refine xt_aload _ dX11_deed_7 rfl ?_
        refine xt_ifnonnull_r 17 dX11_deed_9 (by decide) ?_
        refine xt_aload _ dX11_deed_17 rfl ?_
        refine xt_iload_n _ dX11_deed_19 rfl ?_
        refine xt_iload_n _ dX11_deed_20 rfl ?_
        refine xt_cV _ dX11_deed_21 klX11_104 (tX1_tell_m sc _ μ w hS hW.1 hC a3) hS.1 rfl rfl (Nat.le_of_ble_eq_true rfl) ?_
        exact xt_iret .int dX11_deed_24 rfl (by first | rfl | assumption) ⟨rfl, x_keep.rf μ⟩
      · intro μ w c hf hc e hM
        refine x_K.of (by decide) (Nat.le_of_ble_eq_true rfl) ?_
        show x_T sc 29 mX12_deed 0 [.ref 152, .int (nI f), .int (-1), .int a3] [] μ w _
        refine xt_aload_n _ dX12_deed_0 rfl ?_
        refine xt_iconst (0) dX12_deed_1 (by decide) ?_
        refine xt_puti dX12_deed_2 kpX12_72 (by first | exact sh152 | rfl | assumption) rfl (by first | rfl | assumption) (by first | rfl | assumption) ?_
        refine xt_aload_n _ dX12_deed_5 rfl ?_
        refine xt_iload_n _ dX12_deed_6 rfl ?_
        refine xt_cV _ dX12_deed_7 klX12_313 (tX12_hasDay_yes sc _ (x_u μ 152 (upd (μ 152) 0 0)) w f c hf hc e) sh152 rfl rfl (Nat.le_of_ble_eq_true rfl) ?_
        refine xt_if_ne 16 dX12_deed_10 (by decide) (fun _ => ?_) (fun q => absurd q (by decide))
        refine xt_iload_n _ dX12_deed_16 rfl ?_
        refine xt_iconst (-1) dX12_deed_17 (by decide) ?_
        refine xt_icmp_ne 35 dX12_deed_18 (by decide) (fun q => absurd rfl q) (fun _ => ?_)
        refine xt_iload_n _ dX12_deed_21 rfl ?_
        refine xt_if_ne 32 dX12_deed_22 (by decide) (fun t22 => ?_) (fun f22 => ?_)
        · refine xt_bipush (-2) dX12_deed_32 (by decide) ?_
          exact xt_iret .int dX12_deed_34 rfl (by first | rfl | assumption) ⟨by rw [if_neg t22], (x_keep.u (x_keep.u (x_keep.rf μ) (by unfold x_ok; omega)) (by unfold x_ok; omega))⟩
        · refine xt_aload_n _ dX12_deed_25 rfl ?_
          refine xt_cV _ dX12_deed_26 klX12_316 (tX12_deeds sc _ (x_u (x_u μ 152 (upd (μ 152) 0 0)) 152 (upd ((x_u μ 152 (upd (μ 152) 0 0)) 152) 40 (nI f))) _ f n D hf2 rfl hM) sh152 rfl rfl (Nat.le_of_ble_eq_true rfl) ?_
          rw [hW.2.1]
          refine xt_goto 34 dX12_deed_29 (by decide) ?_
          exact xt_iret .int dX12_deed_34 rfl (by first | rfl | assumption) ⟨by rw [if_pos f22], (x_keep.u (x_keep.u (x_keep.rf μ) (by unfold x_ok; omega)) (by unfold x_ok; omega))⟩
    · by_cases hr : (0 ≤ a2 ∧ a2 < nI n) ∧ (0 ≤ a3 ∧ a3 ≤ nI 3)
      · obtain ⟨j, hj31, rfl⟩ := nI_of (Int32.not_lt.mpr hr.1.1)
        have hn40 := hW.1
        have hj : j < n := (nI_ltI hj31 (by omega)).mp hr.1.2
        obtain ⟨i, hi3, rfl⟩ := x_rng (N := 3) (by decide) hr.2
        refine ⟨D (1 + (4 * j + i)), ?_, ?_⟩
        · intro μ w c hf hc e hC
          have hS := d_Sf hf2
          refine x_K.of (by decide) (Nat.le_of_ble_eq_true rfl) ?_
          show x_T sc 29 mX11_deed 0 [.ref 0, .int (nI f), .int (nI j), .int (nI i), .retAddr 0] [] μ w _
          refine xt_aload_n _ dX11_deed_0 rfl ?_
          refine xt_iload_n _ dX11_deed_1 rfl ?_
          refine xt_cV _ dX11_deed_2 klX11_100 (tX11_dayOf sc _ μ w f c hf hc e) sh0 rfl rfl (Nat.le_of_ble_eq_true rfl) ?_
          refine xt_astore dX11_deed_5 (by decide) rfl ?_
          change x_T _ _ _ _ [_, _, _, _, _] _ _ _ _
          refine xt_aload _ dX11_deed_7 rfl ?_
          refine xt_ifnonnull_r 17 dX11_deed_9 (by decide) ?_
          refine xt_aload _ dX11_deed_17 rfl ?_
          refine xt_iload_n _ dX11_deed_19 rfl ?_
          refine xt_iload_n _ dX11_deed_20 rfl ?_
          refine xt_cV _ dX11_deed_21 klX11_104 (tX1_tell sc _ μ w hS hW.1 hC j i hj (by omega)) hS.1 rfl rfl (Nat.le_of_ble_eq_true rfl) ?_
          exact xt_iret .int dX11_deed_24 rfl (by first | rfl | assumption) ⟨rfl, x_keep.rf μ⟩
        · intro μ w c hf hc e hM
          refine x_K.of (by decide) (Nat.le_of_ble_eq_true rfl) ?_
          show x_T sc 29 mX12_deed 0 [.ref 152, .int (nI f), .int (nI j), .int (nI i)] [] μ w _
          refine xt_aload_n _ dX12_deed_0 rfl ?_
          refine xt_iconst (0) dX12_deed_1 (by decide) ?_
          refine xt_puti dX12_deed_2 kpX12_72 (by first | exact sh152 | rfl | assumption) rfl (by first | rfl | assumption) (by first | rfl | assumption) ?_
          refine xt_aload_n _ dX12_deed_5 rfl ?_
          refine xt_iload_n _ dX12_deed_6 rfl ?_
          refine xt_cV _ dX12_deed_7 klX12_313 (tX12_hasDay_yes sc _ (x_u μ 152 (upd (μ 152) 0 0)) w f c hf hc e) sh152 rfl rfl (Nat.le_of_ble_eq_true rfl) ?_
          refine xt_if_ne 16 dX12_deed_10 (by decide) (fun _ => ?_) (fun q => absurd q (by decide))
          refine xt_iload_n _ dX12_deed_16 rfl ?_
          refine xt_iconst (-1) dX12_deed_17 (by decide) ?_
          refine xt_icmp_ne 35 dX12_deed_18 (by decide) (fun _ => ?_) (fun q => absurd q ha)
          refine xt_iload_n _ dX12_deed_35 rfl ?_
          refine xt_iconst (0) dX12_deed_36 (by decide) ?_
          refine xt_aload_n _ dX12_deed_37 rfl ?_
          refine xt_cV _ dX12_deed_38 klX12_316 (tX12_deeds sc _ (x_u (x_u μ 152 (upd (μ 152) 0 0)) 152 (upd ((x_u μ 152 (upd (μ 152) 0 0)) 152) 40 (nI f))) _ f n D hf2 rfl hM) sh152 rfl rfl (Nat.le_of_ble_eq_true rfl) ?_
          rw [hW.2.1]
          refine xt_iconst (1) dX12_deed_41 (by decide) ?_
          refine xt_isub dX12_deed_42 ?_
          refine xt_cS _ dX12_deed_43 klX12_84 (tX12_in sc _ _ w _ _ _) rfl rfl (Nat.le_of_ble_eq_true rfl) ?_
          refine xt_if_eq 67 dX12_deed_46 (by decide) (fun q => absurd q (by rw [s_in_0 (nI_pos (by omega)) (by rw [show (1 : Int32) = nI 1 from rfl, pk_sub (by omega)]; exact nI_nlt (by omega) (by omega))]; decide)) (fun _ => ?_)
          refine xt_iload_n _ dX12_deed_49 rfl ?_
          refine xt_iconst (0) dX12_deed_50 (by decide) ?_
          refine xt_iconst (3) dX12_deed_51 (by decide) ?_
          refine xt_cS _ dX12_deed_52 klX12_84 (tX12_in sc _ _ w _ _ _) rfl rfl (Nat.le_of_ble_eq_true rfl) ?_
          refine xt_if_eq 67 dX12_deed_55 (by decide) (fun q => absurd q (s_in_nI (n := i) (N := 3) hi3 (by decide))) (fun _ => ?_)
          refine xt_aload_n _ dX12_deed_58 rfl ?_
          refine xt_iload_n _ dX12_deed_59 rfl ?_
          refine xt_iload_n _ dX12_deed_60 rfl ?_
          refine xt_cV _ dX12_deed_61 klX12_319 (tX12_deedOf sc _ (x_u (x_u μ 152 (upd (μ 152) 0 0)) 152 (upd ((x_u μ 152 (upd (μ 152) 0 0)) 152) 40 (nI f))) _ f n D hf2 hW.1 rfl hM j i hj (by omega)) sh152 rfl rfl (Nat.le_of_ble_eq_true rfl) ?_
          refine xt_goto 69 dX12_deed_64 (by decide) ?_
          exact xt_iret .int dX12_deed_69 rfl (by first | rfl | assumption) ⟨rfl, (x_keep.u (x_keep.u (x_keep.rf μ) (by unfold x_ok; omega)) (by unfold x_ok; omega))⟩
      · skip
        refine ⟨-2, ?_, ?_⟩
        · intro μ w c hf hc e hC
          have hS := d_Sf hf2
          refine x_K.of (by decide) (Nat.le_of_ble_eq_true rfl) ?_
          show x_T sc 29 mX11_deed 0 [.ref 0, .int (nI f), .int a2, .int a3, .retAddr 0] [] μ w _
          refine xt_aload_n _ dX11_deed_0 rfl ?_
          refine xt_iload_n _ dX11_deed_1 rfl ?_
          refine xt_cV _ dX11_deed_2 klX11_100 (tX11_dayOf sc _ μ w f c hf hc e) sh0 rfl rfl (Nat.le_of_ble_eq_true rfl) ?_
          refine xt_astore dX11_deed_5 (by decide) rfl ?_
          change x_T _ _ _ _ [_, _, _, _, _] _ _ _ _
          refine xt_aload _ dX11_deed_7 rfl ?_
          refine xt_ifnonnull_r 17 dX11_deed_9 (by decide) ?_
          refine xt_aload _ dX11_deed_17 rfl ?_
          refine xt_iload_n _ dX11_deed_19 rfl ?_
          refine xt_iload_n _ dX11_deed_20 rfl ?_
          refine xt_cV _ dX11_deed_21 klX11_104 (tX1_tell_no sc _ μ w hS hW.1 hC a2 a3 ha hr) hS.1 rfl rfl (Nat.le_of_ble_eq_true rfl) ?_
          exact xt_iret .int dX11_deed_24 rfl (by first | rfl | assumption) ⟨rfl, x_keep.rf μ⟩
        · intro μ w c hf hc e hM
          refine x_K.of (by decide) (Nat.le_of_ble_eq_true rfl) ?_
          show x_T sc 29 mX12_deed 0 [.ref 152, .int (nI f), .int a2, .int a3] [] μ w _
          refine xt_aload_n _ dX12_deed_0 rfl ?_
          refine xt_iconst (0) dX12_deed_1 (by decide) ?_
          refine xt_puti dX12_deed_2 kpX12_72 (by first | exact sh152 | rfl | assumption) rfl (by first | rfl | assumption) (by first | rfl | assumption) ?_
          refine xt_aload_n _ dX12_deed_5 rfl ?_
          refine xt_iload_n _ dX12_deed_6 rfl ?_
          refine xt_cV _ dX12_deed_7 klX12_313 (tX12_hasDay_yes sc _ (x_u μ 152 (upd (μ 152) 0 0)) w f c hf hc e) sh152 rfl rfl (Nat.le_of_ble_eq_true rfl) ?_
          refine xt_if_ne 16 dX12_deed_10 (by decide) (fun _ => ?_) (fun q => absurd q (by decide))
          refine xt_iload_n _ dX12_deed_16 rfl ?_
          refine xt_iconst (-1) dX12_deed_17 (by decide) ?_
          refine xt_icmp_ne 35 dX12_deed_18 (by decide) (fun _ => ?_) (fun q => absurd q ha)
          refine xt_iload_n _ dX12_deed_35 rfl ?_
          refine xt_iconst (0) dX12_deed_36 (by decide) ?_
          refine xt_aload_n _ dX12_deed_37 rfl ?_
          refine xt_cV _ dX12_deed_38 klX12_316 (tX12_deeds sc _ (x_u (x_u μ 152 (upd (μ 152) 0 0)) 152 (upd ((x_u μ 152 (upd (μ 152) 0 0)) 152) 40 (nI f))) _ f n D hf2 rfl hM) sh152 rfl rfl (Nat.le_of_ble_eq_true rfl) ?_
          rw [hW.2.1]
          refine xt_iconst (1) dX12_deed_41 (by decide) ?_
          refine xt_isub dX12_deed_42 ?_
          refine xt_cS _ dX12_deed_43 klX12_84 (tX12_in sc _ _ w _ _ _) rfl rfl (Nat.le_of_ble_eq_true rfl) ?_
          refine xt_if_eq 67 dX12_deed_46 (by decide) (fun t46 => ?_) (fun f46 => ?_)
          · refine xt_bipush (-2) dX12_deed_67 (by decide) ?_
            exact xt_iret .int dX12_deed_69 rfl (by first | rfl | assumption) ⟨rfl, (x_keep.u (x_keep.u (x_keep.rf μ) (by unfold x_ok; omega)) (by unfold x_ok; omega))⟩
          · refine xt_iload_n _ dX12_deed_49 rfl ?_
            refine xt_iconst (0) dX12_deed_50 (by decide) ?_
            refine xt_iconst (3) dX12_deed_51 (by decide) ?_
            refine xt_cS _ dX12_deed_52 klX12_84 (tX12_in sc _ _ w _ _ _) rfl rfl (Nat.le_of_ble_eq_true rfl) ?_
            refine xt_if_eq 67 dX12_deed_55 (by decide) (fun t55 => ?_) (fun f55 => ?_)
            · refine xt_bipush (-2) dX12_deed_67 (by decide) ?_
              exact xt_iret .int dX12_deed_69 rfl (by first | rfl | assumption) ⟨rfl, (x_keep.u (x_keep.u (x_keep.rf μ) (by unfold x_ok; omega)) (by unfold x_ok; omega))⟩
            · refine xt_aload_n _ dX12_deed_58 rfl ?_
              refine xt_iload_n _ dX12_deed_59 rfl ?_
              refine xt_iload_n _ dX12_deed_60 rfl ?_
              exfalso
              have h1 := s_in_1 f46
              have h2 := s_in_1 f55
              have hn40 := hW.1
              refine hr ⟨⟨Int32.not_lt.mp h1.1, ?_⟩, Int32.not_lt.mp h2.1, Int32.not_lt.mp h2.2⟩
              have h3 := s_in_has (n := n) (by omega) a2
              rw [s_in_0 h1.1 h1.2] at h3
              by_cases hq : a2 < nI n
              · exact hq
              · rw [if_neg h1.1, if_neg hq] at h3; exact absurd h3 (by decide)
section LOGT
variable (sc : Nat × (Nat → Int32)) (d : Nat) (μ : x_Me) (w : Int64)
def s_tL (L : Nat → Nat) (n : Nat) : Int32 := if n = 0 then nI (L 0) else if n = 1 then nI (L 1) else if n < 10 then -1 else if n < 20 then (if n - 10 < L 1 then nI (L (2 + 2 * (n - 10))) else -1) else if n - 20 < L 1 then nI (L (3 + 2 * (n - 20))) else -1
set_option maxHeartbeats 1000000 in
theorem tX4_tell {k : Nat} {L : Nat → Nat} (hS : l_S k) (hW : l_W L) (hC : l_C μ k L) (n : Nat) (hn : n < 2 ^ 31) : x_K sc (d + 1) mX4_tell [.ref k, .int (nI n)] μ w (x_p (some (.int (s_tL L n))) μ w) := by
  have h8 := hW.2.1
  have e1 := hC.2.1
  refine x_K.of (by decide) (Nat.le_of_ble_eq_true rfl) ?_
  show x_T sc (d + 1) mX4_tell 0 [.ref k, .int (nI n)] [] μ w _
  refine xt_iload_n _ dX4_tell_0 rfl ?_
  refine xt_if_ne 9 dX4_tell_1 (by decide) (fun t1 => ?_) (fun f1 => ?_)
  · have n1 : ¬ (n = 0) := fun z => t1 ((nI_eq (a := n) (b := 0) (by omega) (by omega)).mpr z)
    refine xt_iload_n _ dX4_tell_9 rfl ?_
    refine xt_iconst (1) dX4_tell_10 (by decide) ?_
    refine xt_icmp_ne 19 dX4_tell_11 (by decide) (fun t11 => ?_) (fun f11 => ?_)
    · have n11 : ¬ (n = 1) := fun z => t11 ((nI_eq (a := n) (b := 1) (by omega) (by omega)).mpr z)
      refine xt_iload_n _ dX4_tell_19 rfl ?_
      refine xt_bipush (10) dX4_tell_20 (by decide) ?_
      refine xt_icmp_lt 58 dX4_tell_22 (by decide) (fun t22 => ?_) (fun f22 => ?_)
      · have n22 : n < 10 := (nI_ltI (a := n) (b := 10) (by omega) (by omega)).mp t22
        refine xt_iload_n _ dX4_tell_58 rfl ?_
        refine xt_bipush (20) dX4_tell_59 (by decide) ?_
        refine xt_icmp_lt 89 dX4_tell_61 (by decide) (fun t61 => ?_) (fun f61 => ?_)
        · have n61 : n < 20 := (nI_ltI (a := n) (b := 20) (by omega) (by omega)).mp t61
          refine xt_iconst (-1) dX4_tell_89 (by decide) ?_
          exact xt_iret .int dX4_tell_90 rfl (by first | rfl | assumption) ⟨by rw [s_tL, if_neg n1, if_neg n11, if_pos (by omega)], rfl, rfl⟩
        · have n61 : ¬ (n < 20) := fun z => f61 ((nI_ltI (a := n) (b := 20) (by omega) (by omega)).mpr z)
          refine xt_iload_n _ dX4_tell_64 rfl ?_
          refine xt_bipush (20) dX4_tell_65 (by decide) ?_
          refine xt_isub dX4_tell_67 ?_
          refine xt_aload_n _ dX4_tell_68 rfl ?_
          refine xt_geti dX4_tell_69 kfX4_22 (by first | exact hS.1 | rfl | assumption) rfl ?_
          rw [e1, show nI n - (20 : Int32) = nI (n - 20) from pk_sub (b := 20) (by omega)]
          refine xt_icmp_ge 89 dX4_tell_72 (by decide) (fun t72 => ?_) (fun f72 => ?_)
          · have n72 : L 1 ≤ (n - 20) := (nI_leI (a := L 1) (b := (n - 20)) (by omega) (by omega)).mp t72
            refine xt_iconst (-1) dX4_tell_89 (by decide) ?_
            exact xt_iret .int dX4_tell_90 rfl (by first | rfl | assumption) ⟨by exfalso; omega, rfl, rfl⟩
          · have n72 : ¬ (L 1 ≤ (n - 20)) := fun z => f72 ((nI_leI (a := L 1) (b := (n - 20)) (by omega) (by omega)).mpr z)
            refine xt_aload_n _ dX4_tell_75 rfl ?_
            refine xt_getr _ dX4_tell_76 kfX4_15 (by first | exact hS.1 | rfl | assumption) rfl ?_
            refine xt_iload_n _ dX4_tell_79 rfl ?_
            refine xt_bipush (20) dX4_tell_80 (by decide) ?_
            refine xt_isub dX4_tell_82 ?_
            refine xt_cS _ dX4_tell_83 klX4_37 (tX8_at sc _ μ w (k := k + 2) (n := 8) hS.2.2 (by decide) _) rfl rfl (Nat.le_of_ble_eq_true rfl) ?_
            refine xt_goto 90 dX4_tell_86 (by decide) ?_
            exact xt_iret .int dX4_tell_90 rfl (by first | rfl | assumption) ⟨by exfalso; omega, rfl, rfl⟩
      · have n22 : ¬ (n < 10) := fun z => f22 ((nI_ltI (a := n) (b := 10) (by omega) (by omega)).mpr z)
        refine xt_iload_n _ dX4_tell_25 rfl ?_
        refine xt_bipush (20) dX4_tell_26 (by decide) ?_
        refine xt_icmp_ge 58 dX4_tell_28 (by decide) (fun t28 => ?_) (fun f28 => ?_)
        · have n28 : 20 ≤ n := (nI_leI (a := 20) (b := n) (by omega) (by omega)).mp t28
          refine xt_iload_n _ dX4_tell_58 rfl ?_
          refine xt_bipush (20) dX4_tell_59 (by decide) ?_
          refine xt_icmp_lt 89 dX4_tell_61 (by decide) (fun t61 => ?_) (fun f61 => ?_)
          · have n61 : n < 20 := (nI_ltI (a := n) (b := 20) (by omega) (by omega)).mp t61
            refine xt_iconst (-1) dX4_tell_89 (by decide) ?_
            exact xt_iret .int dX4_tell_90 rfl (by first | rfl | assumption) ⟨by exfalso; omega, rfl, rfl⟩
          · have n61 : ¬ (n < 20) := fun z => f61 ((nI_ltI (a := n) (b := 20) (by omega) (by omega)).mpr z)
            refine xt_iload_n _ dX4_tell_64 rfl ?_
            refine xt_bipush (20) dX4_tell_65 (by decide) ?_
            refine xt_isub dX4_tell_67 ?_
            refine xt_aload_n _ dX4_tell_68 rfl ?_
            refine xt_geti dX4_tell_69 kfX4_22 (by first | exact hS.1 | rfl | assumption) rfl ?_
            rw [e1, show nI n - (20 : Int32) = nI (n - 20) from pk_sub (b := 20) (by omega)]
            refine xt_icmp_ge 89 dX4_tell_72 (by decide) (fun t72 => ?_) (fun f72 => ?_)
            · have n72 : L 1 ≤ (n - 20) := (nI_leI (a := L 1) (b := (n - 20)) (by omega) (by omega)).mp t72
              refine xt_iconst (-1) dX4_tell_89 (by decide) ?_
              exact xt_iret .int dX4_tell_90 rfl (by first | rfl | assumption) ⟨by rw [s_tL, if_neg n1, if_neg n11, if_neg (by omega), if_neg (by omega), if_neg (by omega)], rfl, rfl⟩
            · have n72 : ¬ (L 1 ≤ (n - 20)) := fun z => f72 ((nI_leI (a := L 1) (b := (n - 20)) (by omega) (by omega)).mpr z)
              refine xt_aload_n _ dX4_tell_75 rfl ?_
              refine xt_getr _ dX4_tell_76 kfX4_15 (by first | exact hS.1 | rfl | assumption) rfl ?_
              refine xt_iload_n _ dX4_tell_79 rfl ?_
              refine xt_bipush (20) dX4_tell_80 (by decide) ?_
              refine xt_isub dX4_tell_82 ?_
              refine xt_cS _ dX4_tell_83 klX4_37 (tX8_at sc _ μ w (k := k + 2) (n := 8) hS.2.2 (by decide) _) rfl rfl (Nat.le_of_ble_eq_true rfl) ?_
              refine xt_goto 90 dX4_tell_86 (by decide) ?_
              exact xt_iret .int dX4_tell_90 rfl (by first | rfl | assumption) ⟨by rw [s_tL, if_neg n1, if_neg n11, if_neg (by omega), if_neg (by omega), if_pos (by omega), show nI n - (20 : Int32) = nI (n - 20) from pk_sub (b := 20) (by omega), s_at_ix (j := n - 20) (by omega) (by decide) rfl, (hC.2.2 (n - 20) (by omega)).2], rfl, rfl⟩
        · have n28 : ¬ (20 ≤ n) := fun z => f28 ((nI_leI (a := 20) (b := n) (by omega) (by omega)).mpr z)
          refine xt_iload_n _ dX4_tell_31 rfl ?_
          refine xt_bipush (10) dX4_tell_32 (by decide) ?_
          refine xt_isub dX4_tell_34 ?_
          refine xt_aload_n _ dX4_tell_35 rfl ?_
          refine xt_geti dX4_tell_36 kfX4_22 (by first | exact hS.1 | rfl | assumption) rfl ?_
          rw [e1, show nI n - (10 : Int32) = nI (n - 10) from pk_sub (b := 10) (by omega)]
          refine xt_icmp_ge 56 dX4_tell_39 (by decide) (fun t39 => ?_) (fun f39 => ?_)
          · have n39 : L 1 ≤ (n - 10) := (nI_leI (a := L 1) (b := (n - 10)) (by omega) (by omega)).mp t39
            refine xt_iconst (-1) dX4_tell_56 (by decide) ?_
            exact xt_iret .int dX4_tell_57 rfl (by first | rfl | assumption) ⟨by rw [s_tL, if_neg n1, if_neg n11, if_neg (by omega), if_pos (by omega), if_neg (by omega)], rfl, rfl⟩
          · have n39 : ¬ (L 1 ≤ (n - 10)) := fun z => f39 ((nI_leI (a := L 1) (b := (n - 10)) (by omega) (by omega)).mpr z)
            refine xt_aload_n _ dX4_tell_42 rfl ?_
            refine xt_getr _ dX4_tell_43 kfX4_9 (by first | exact hS.1 | rfl | assumption) rfl ?_
            refine xt_iload_n _ dX4_tell_46 rfl ?_
            refine xt_bipush (10) dX4_tell_47 (by decide) ?_
            refine xt_isub dX4_tell_49 ?_
            refine xt_cS _ dX4_tell_50 klX4_37 (tX8_at sc _ μ w (k := k + 1) (n := 8) hS.2.1 (by decide) _) rfl rfl (Nat.le_of_ble_eq_true rfl) ?_
            refine xt_goto 57 dX4_tell_53 (by decide) ?_
            exact xt_iret .int dX4_tell_57 rfl (by first | rfl | assumption) ⟨by rw [s_tL, if_neg n1, if_neg n11, if_neg (by omega), if_pos (by omega), if_pos (by omega), show nI n - (10 : Int32) = nI (n - 10) from pk_sub (b := 10) (by omega), s_at_ix (j := n - 10) (by omega) (by decide) rfl, (hC.2.2 (n - 10) (by omega)).1], rfl, rfl⟩
    · have n11 : n = 1 := (nI_eq (a := n) (b := 1) (by omega) (by omega)).mp f11
      refine xt_aload_n _ dX4_tell_14 rfl ?_
      refine xt_geti dX4_tell_15 kfX4_22 (by first | exact hS.1 | rfl | assumption) rfl ?_
      exact xt_iret .int dX4_tell_18 rfl (by first | rfl | assumption) ⟨by rw [s_tL, if_neg n1, if_pos n11, hC.2.1], rfl, rfl⟩
  · have n1 : n = 0 := (nI_eq (a := n) (b := 0) (by omega) (by omega)).mp f1
    refine xt_aload_n _ dX4_tell_4 rfl ?_
    refine xt_geti dX4_tell_5 kfX4_18 (by first | exact hS.1 | rfl | assumption) rfl ?_
    exact xt_iret .int dX4_tell_8 rfl (by first | rfl | assumption) ⟨by rw [s_tL, if_pos n1, hC.1], rfl, rfl⟩
set_option maxHeartbeats 1000000 in
theorem tX4_tell_no {k : Nat} {L : Nat → Nat} (hS : l_S k) (hW : l_W L) (hC : l_C μ k L) (a : Int32) (hneg : a < 0) : x_K sc (d + 1) mX4_tell [.ref k, .int a] μ w (x_p (some (.int (-1))) μ w) := by
  refine x_K.of (by decide) (Nat.le_of_ble_eq_true rfl) ?_
  show x_T sc (d + 1) mX4_tell 0 [.ref k, .int a] [] μ w _
  refine xt_iload_n _ dX4_tell_0 rfl ?_
  refine xt_if_ne 9 dX4_tell_1 (by decide) (fun _ => ?_) (fun q => absurd q (fun z => by rw [z] at hneg; exact absurd hneg (by decide)))
  refine xt_iload_n _ dX4_tell_9 rfl ?_
  refine xt_iconst (1) dX4_tell_10 (by decide) ?_
  refine xt_icmp_ne 19 dX4_tell_11 (by decide) (fun _ => ?_) (fun q => absurd q (fun z => by rw [z] at hneg; exact absurd hneg (by decide)))
  refine xt_iload_n _ dX4_tell_19 rfl ?_
  refine xt_bipush (10) dX4_tell_20 (by decide) ?_
  refine xt_icmp_lt 58 dX4_tell_22 (by decide) (fun _ => ?_) (fun q => absurd (Int32.lt_trans hneg (by decide)) q)
  refine xt_iload_n _ dX4_tell_58 rfl ?_
  refine xt_bipush (20) dX4_tell_59 (by decide) ?_
  refine xt_icmp_lt 89 dX4_tell_61 (by decide) (fun _ => ?_) (fun q => absurd (Int32.lt_trans hneg (by decide)) q)
  refine xt_iconst (-1) dX4_tell_89 (by decide) ?_
  exact xt_iret .int dX4_tell_90 rfl (by first | rfl | assumption) ⟨rfl, rfl, rfl⟩
end LOGT
set_option maxHeartbeats 2000000 in
theorem st_log (sc : Nat × (Nat → Int32)) (a1 a2 : Int32) : x_stI sc (fun μ _ => x_Inv μ) (fun μ _ => x_Inv μ) mX11_log mX12_log [.int a1, .int a2] := by
  refine x_stO (-1) ?_ ?_ ?_
  · intro μ w c hc e hk
    refine x_K.of (by decide) (Nat.le_of_ble_eq_true rfl) ?_
    show x_T sc 29 mX11_log 0 [.ref 0, .int a1, .int a2, .retAddr 0] [] μ w _
    refine xt_aload_n _ dX11_log_0 rfl ?_
    refine xt_iload_n _ dX11_log_1 rfl ?_
    refine xt_cV _ dX11_log_2 klX11_166 (tX11_ledgerOf_no sc _ μ w c hc e _ hk) sh0 rfl rfl (Nat.le_of_ble_eq_true rfl) ?_
    refine xt_astore_n0 dX11_log_5 (by decide) rfl ?_
    change x_T _ _ _ _ [_, _, _, _] _ _ _ _
    refine xt_aload_n0 dX11_log_6 rfl ?_
    refine xt_ifnonnull_n dX11_log_7 ?_
    refine xt_iconst (-1) dX11_log_10 (by decide) ?_
    refine xt_goto 19 dX11_log_11 (by decide) ?_
    exact xt_iret .int dX11_log_19 rfl (by first | rfl | assumption) ⟨rfl, x_keep.rf μ⟩
  · intro μ w c hc e hk
    refine x_K.of (by decide) (Nat.le_of_ble_eq_true rfl) ?_
    show x_T sc 29 mX12_log 0 [.ref 152, .int a1, .int a2, .retAddr 0] [] μ w _
    refine xt_aload_n _ dX12_log_0 rfl ?_
    refine xt_iconst (0) dX12_log_1 (by decide) ?_
    refine xt_puti dX12_log_2 kpX12_72 (by first | exact sh152 | rfl | assumption) rfl (by first | rfl | assumption) (by first | rfl | assumption) ?_
    refine xt_aload_n _ dX12_log_5 rfl ?_
    refine xt_iload_n _ dX12_log_6 rfl ?_
    refine xt_cV _ dX12_log_7 klX12_428 (tX12_hasLog_no sc _ (x_u μ 152 (upd (μ 152) 0 0)) w c hc _ hk e) sh152 rfl rfl (Nat.le_of_ble_eq_true rfl) ?_
    refine xt_if_ne 15 dX12_log_10 (by decide) (fun q => absurd (by decide) q) (fun _ => ?_)
    refine xt_iconst (-1) dX12_log_13 (by decide) ?_
    exact xt_iret .int dX12_log_14 rfl (by first | rfl | assumption) ⟨rfl, (x_keep.u (x_keep.u (x_keep.rf μ) (by unfold x_ok; omega)) (by unfold x_ok; omega))⟩
  · intro f L hf2 hkk hW
    subst hkk
    have h8 := hW.2.1
    by_cases hneg : a2 < 0
    · skip
      refine ⟨-1, ?_, ?_⟩
      · intro μ w c hf hc e hC
        have hS := l_Sf hf2
        refine x_K.of (by decide) (Nat.le_of_ble_eq_true rfl) ?_
        show x_T sc 29 mX11_log 0 [.ref 0, .int (nI f), .int a2, .retAddr 0] [] μ w _
        refine xt_aload_n _ dX11_log_0 rfl ?_
        refine xt_iload_n _ dX11_log_1 rfl ?_
        refine xt_cV _ dX11_log_2 klX11_166 (tX11_ledgerOf sc _ μ w f c hf hc e) sh0 rfl rfl (Nat.le_of_ble_eq_true rfl) ?_
        refine xt_astore_n dX11_log_5 (by decide) rfl ?_
        change x_T _ _ _ _ [_, _, _, _] _ _ _ _
        refine xt_aload_n _ dX11_log_6 rfl ?_
        refine xt_ifnonnull_r 14 dX11_log_7 (by decide) ?_
        refine xt_aload_n _ dX11_log_14 rfl ?_
        refine xt_iload_n _ dX11_log_15 rfl ?_
        refine xt_cV _ dX11_log_16 klX11_170 (tX4_tell_no sc _ μ w hS hW hC a2 hneg) hS.1 rfl rfl (Nat.le_of_ble_eq_true rfl) ?_
        exact xt_iret .int dX11_log_19 rfl (by first | rfl | assumption) ⟨rfl, x_keep.rf μ⟩
      · intro μ w c hf hc e hM
        refine x_K.of (by decide) (Nat.le_of_ble_eq_true rfl) ?_
        show x_T sc 29 mX12_log 0 [.ref 152, .int (nI f), .int a2, .retAddr 0] [] μ w _
        refine xt_aload_n _ dX12_log_0 rfl ?_
        refine xt_iconst (0) dX12_log_1 (by decide) ?_
        refine xt_puti dX12_log_2 kpX12_72 (by first | exact sh152 | rfl | assumption) rfl (by first | rfl | assumption) (by first | rfl | assumption) ?_
        refine xt_aload_n _ dX12_log_5 rfl ?_
        refine xt_iload_n _ dX12_log_6 rfl ?_
        refine xt_cV _ dX12_log_7 klX12_428 (tX12_hasLog_yes sc _ (x_u μ 152 (upd (μ 152) 0 0)) w f c hf hc e) sh152 rfl rfl (Nat.le_of_ble_eq_true rfl) ?_
        refine xt_if_ne 15 dX12_log_10 (by decide) (fun _ => ?_) (fun q => absurd q (by decide))
        refine xt_iload_n _ dX12_log_15 rfl ?_
        refine xt_bipush (10) dX12_log_16 (by decide) ?_
        refine xt_irem dX12_log_18 (by decide) ?_
        refine xt_istore_n dX12_log_19 (by decide) rfl ?_
        change x_T _ _ _ _ [_, _, _, _] _ _ _ _
        refine xt_iload_n _ dX12_log_20 rfl ?_
        refine xt_bipush (10) dX12_log_21 (by decide) ?_
        refine xt_idiv dX12_log_23 (by decide) ?_
        by_cases hz : a2 / 10 = 0
        · rw [hz]
          refine xt_tabIn 52 dX12_log_24 (by decide) (by decide) (by rfl) (by decide) ?_
          refine xt_iload_n _ dX12_log_52 rfl ?_
          refine xt_if_ne 63 dX12_log_53 (by decide) (fun _ => ?_) (fun q => absurd hneg (by rw [q]; decide))
          refine xt_iload_n _ dX12_log_63 rfl ?_
          refine xt_iconst (1) dX12_log_64 (by decide) ?_
          refine xt_icmp_ne 75 dX12_log_65 (by decide) (fun _ => ?_) (fun q => absurd hneg (by rw [q]; decide))
          refine xt_iconst (-1) dX12_log_75 (by decide) ?_
          exact xt_iret .int dX12_log_76 rfl rfl ⟨rfl, (x_keep.u (x_keep.u (x_keep.rf μ) (by unfold x_ok; omega)) (by unfold x_ok; omega))⟩
        refine xt_tabOut 101 dX12_log_24 (Or.inl (s_div_neg hneg hz)) (by decide) ?_
        refine xt_iconst (-1) dX12_log_101 (by decide) ?_
        exact xt_iret .int dX12_log_102 rfl (by first | rfl | assumption) ⟨rfl, (x_keep.u (x_keep.u (x_keep.rf μ) (by unfold x_ok; omega)) (by unfold x_ok; omega))⟩
    · obtain ⟨n, hn31, rfl⟩ := nI_of hneg
      have hrm : nI n - nI n / (10 : Int32) * 10 = nI (n % 10) := pk_rem (d := 10) (by omega) (by decide) (by decide)
      have hdv : nI n / (10 : Int32) = nI (n / 10) := pk_div (by omega) (by decide) (by decide)
      by_cases h30 : n < 30
      · have ht' : n / 10 = 0 ∨ n / 10 = 1 ∨ n / 10 = 2 := by omega
        rcases ht' with ht | ht | ht
        · skip
          refine ⟨s_tL L n, ?_, ?_⟩
          · intro μ w c hf hc e hC
            have hS := l_Sf hf2
            refine x_K.of (by decide) (Nat.le_of_ble_eq_true rfl) ?_
            show x_T sc 29 mX11_log 0 [.ref 0, .int (nI f), .int (nI n), .retAddr 0] [] μ w _
            refine xt_aload_n _ dX11_log_0 rfl ?_
            refine xt_iload_n _ dX11_log_1 rfl ?_
            refine xt_cV _ dX11_log_2 klX11_166 (tX11_ledgerOf sc _ μ w f c hf hc e) sh0 rfl rfl (Nat.le_of_ble_eq_true rfl) ?_
            refine xt_astore_n dX11_log_5 (by decide) rfl ?_
            change x_T _ _ _ _ [_, _, _, _] _ _ _ _
            refine xt_aload_n _ dX11_log_6 rfl ?_
            refine xt_ifnonnull_r 14 dX11_log_7 (by decide) ?_
            refine xt_aload_n _ dX11_log_14 rfl ?_
            refine xt_iload_n _ dX11_log_15 rfl ?_
            refine xt_cV _ dX11_log_16 klX11_170 (tX4_tell sc _ μ w hS hW hC n hn31) hS.1 rfl rfl (Nat.le_of_ble_eq_true rfl) ?_
            exact xt_iret .int dX11_log_19 rfl (by first | rfl | assumption) ⟨rfl, x_keep.rf μ⟩
          · intro μ w c hf hc e hM
            refine x_K.of (by decide) (Nat.le_of_ble_eq_true rfl) ?_
            show x_T sc 29 mX12_log 0 [.ref 152, .int (nI f), .int (nI n), .retAddr 0] [] μ w _
            refine xt_aload_n _ dX12_log_0 rfl ?_
            refine xt_iconst (0) dX12_log_1 (by decide) ?_
            refine xt_puti dX12_log_2 kpX12_72 (by first | exact sh152 | rfl | assumption) rfl (by first | rfl | assumption) (by first | rfl | assumption) ?_
            refine xt_aload_n _ dX12_log_5 rfl ?_
            refine xt_iload_n _ dX12_log_6 rfl ?_
            refine xt_cV _ dX12_log_7 klX12_428 (tX12_hasLog_yes sc _ (x_u μ 152 (upd (μ 152) 0 0)) w f c hf hc e) sh152 rfl rfl (Nat.le_of_ble_eq_true rfl) ?_
            refine xt_if_ne 15 dX12_log_10 (by decide) (fun _ => ?_) (fun q => absurd q (by decide))
            refine xt_iload_n _ dX12_log_15 rfl ?_
            refine xt_bipush (10) dX12_log_16 (by decide) ?_
            refine xt_irem dX12_log_18 (by decide) ?_
            rw [hrm]
            refine xt_istore_n dX12_log_19 (by decide) rfl ?_
            change x_T _ _ _ _ [_, _, _, _] _ _ _ _
            refine xt_iload_n _ dX12_log_20 rfl ?_
            refine xt_bipush (10) dX12_log_21 (by decide) ?_
            refine xt_idiv dX12_log_23 (by decide) ?_
            rw [hdv, ht]
            refine xt_tabIn 52 dX12_log_24 (by decide) (by decide) (by rfl) (by decide) ?_
            refine xt_iload_n _ dX12_log_52 rfl ?_
            refine xt_if_ne 63 dX12_log_53 (by decide) (fun t53 => ?_) (fun f53 => ?_)
            · have n53 : ¬ (n = 0) := fun z => t53 ((nI_eq (a := n) (b := 0) (by omega) (by omega)).mpr z)
              refine xt_iload_n _ dX12_log_63 rfl ?_
              refine xt_iconst (1) dX12_log_64 (by decide) ?_
              refine xt_icmp_ne 75 dX12_log_65 (by decide) (fun t65 => ?_) (fun f65 => ?_)
              · have n65 : ¬ (n = 1) := fun z => t65 ((nI_eq (a := n) (b := 1) (by omega) (by omega)).mpr z)
                refine xt_iconst (-1) dX12_log_75 (by decide) ?_
                exact xt_iret .int dX12_log_76 rfl (by first | rfl | assumption) ⟨by rw [s_tL, if_neg n53, if_neg n65, if_pos (by omega)], (x_keep.u (x_keep.u (x_keep.rf μ) (by unfold x_ok; omega)) (by unfold x_ok; omega))⟩
              · have n65 : n = 1 := (nI_eq (a := n) (b := 1) (by omega) (by omega)).mp f65
                refine xt_aload_n _ dX12_log_68 rfl ?_
                refine xt_cV _ dX12_log_69 klX12_434 (tX12_facts sc _ (x_u (x_u μ 152 (upd (μ 152) 0 0)) 152 (upd ((x_u μ 152 (upd (μ 152) 0 0)) 152) 47 (nI f))) _ f L hf2 hW rfl hM) sh152 rfl rfl (Nat.le_of_ble_eq_true rfl) ?_
                refine xt_goto 76 dX12_log_72 (by decide) ?_
                exact xt_iret .int dX12_log_76 rfl (by first | rfl | assumption) ⟨by rw [s_tL, if_neg n53, if_pos n65], (x_keep.u (x_keep.u (x_keep.rf μ) (by unfold x_ok; omega)) (by unfold x_ok; omega))⟩
            · have n53 : n = 0 := (nI_eq (a := n) (b := 0) (by omega) (by omega)).mp f53
              refine xt_aload_n _ dX12_log_56 rfl ?_
              refine xt_cV _ dX12_log_57 klX12_431 (tX12_lies sc _ (x_u (x_u μ 152 (upd (μ 152) 0 0)) 152 (upd ((x_u μ 152 (upd (μ 152) 0 0)) 152) 47 (nI f))) _ f L hf2 hW rfl hM) sh152 rfl rfl (Nat.le_of_ble_eq_true rfl) ?_
              refine xt_goto 76 dX12_log_60 (by decide) ?_
              exact xt_iret .int dX12_log_76 rfl (by first | rfl | assumption) ⟨by rw [s_tL, if_pos n53], (x_keep.u (x_keep.u (x_keep.rf μ) (by unfold x_ok; omega)) (by unfold x_ok; omega))⟩
        · skip
          refine ⟨s_tL L n, ?_, ?_⟩
          · intro μ w c hf hc e hC
            have hS := l_Sf hf2
            refine x_K.of (by decide) (Nat.le_of_ble_eq_true rfl) ?_
            show x_T sc 29 mX11_log 0 [.ref 0, .int (nI f), .int (nI n), .retAddr 0] [] μ w _
            refine xt_aload_n _ dX11_log_0 rfl ?_
            refine xt_iload_n _ dX11_log_1 rfl ?_
            refine xt_cV _ dX11_log_2 klX11_166 (tX11_ledgerOf sc _ μ w f c hf hc e) sh0 rfl rfl (Nat.le_of_ble_eq_true rfl) ?_
            refine xt_astore_n dX11_log_5 (by decide) rfl ?_
            change x_T _ _ _ _ [_, _, _, _] _ _ _ _
            refine xt_aload_n _ dX11_log_6 rfl ?_
            refine xt_ifnonnull_r 14 dX11_log_7 (by decide) ?_
            refine xt_aload_n _ dX11_log_14 rfl ?_
            refine xt_iload_n _ dX11_log_15 rfl ?_
            refine xt_cV _ dX11_log_16 klX11_170 (tX4_tell sc _ μ w hS hW hC n hn31) hS.1 rfl rfl (Nat.le_of_ble_eq_true rfl) ?_
            exact xt_iret .int dX11_log_19 rfl (by first | rfl | assumption) ⟨rfl, x_keep.rf μ⟩
          · intro μ w c hf hc e hM
            refine x_K.of (by decide) (Nat.le_of_ble_eq_true rfl) ?_
            show x_T sc 29 mX12_log 0 [.ref 152, .int (nI f), .int (nI n), .retAddr 0] [] μ w _
            refine xt_aload_n _ dX12_log_0 rfl ?_
            refine xt_iconst (0) dX12_log_1 (by decide) ?_
            refine xt_puti dX12_log_2 kpX12_72 (by first | exact sh152 | rfl | assumption) rfl (by first | rfl | assumption) (by first | rfl | assumption) ?_
            refine xt_aload_n _ dX12_log_5 rfl ?_
            refine xt_iload_n _ dX12_log_6 rfl ?_
            refine xt_cV _ dX12_log_7 klX12_428 (tX12_hasLog_yes sc _ (x_u μ 152 (upd (μ 152) 0 0)) w f c hf hc e) sh152 rfl rfl (Nat.le_of_ble_eq_true rfl) ?_
            refine xt_if_ne 15 dX12_log_10 (by decide) (fun _ => ?_) (fun q => absurd q (by decide))
            refine xt_iload_n _ dX12_log_15 rfl ?_
            refine xt_bipush (10) dX12_log_16 (by decide) ?_
            refine xt_irem dX12_log_18 (by decide) ?_
            rw [hrm]
            refine xt_istore_n dX12_log_19 (by decide) rfl ?_
            change x_T _ _ _ _ [_, _, _, _] _ _ _ _
            refine xt_iload_n _ dX12_log_20 rfl ?_
            refine xt_bipush (10) dX12_log_21 (by decide) ?_
            refine xt_idiv dX12_log_23 (by decide) ?_
            rw [hdv, ht]
            refine xt_tabIn 77 dX12_log_24 (by decide) (by decide) (by rfl) (by decide) ?_
            refine xt_iload_n _ dX12_log_77 rfl ?_
            refine xt_aload_n _ dX12_log_78 rfl ?_
            refine xt_cV _ dX12_log_79 klX12_434 (tX12_facts sc _ (x_u (x_u μ 152 (upd (μ 152) 0 0)) 152 (upd ((x_u μ 152 (upd (μ 152) 0 0)) 152) 47 (nI f))) _ f L hf2 hW rfl hM) sh152 rfl rfl (Nat.le_of_ble_eq_true rfl) ?_
            refine xt_icmp_ge 99 dX12_log_82 (by decide) (fun t82 => ?_) (fun f82 => ?_)
            · have n82 : L 1 ≤ (n % 10) := (nI_leI (a := L 1) (b := (n % 10)) (by omega) (by omega)).mp t82
              refine xt_iconst (-1) dX12_log_99 (by decide) ?_
              exact xt_iret .int dX12_log_100 rfl (by first | rfl | assumption) ⟨by rw [s_tL, if_neg (by omega), if_neg (by omega), if_neg (by omega), if_pos (by omega), if_neg (by omega)], (x_keep.u (x_keep.u (x_keep.rf μ) (by unfold x_ok; omega)) (by unfold x_ok; omega))⟩
            · have n82 : ¬ (L 1 ≤ (n % 10)) := fun z => f82 ((nI_leI (a := L 1) (b := (n % 10)) (by omega) (by omega)).mpr z)
              refine xt_aload_n _ dX12_log_85 rfl ?_
              refine xt_iload_n _ dX12_log_86 rfl ?_
              refine xt_iload_n _ dX12_log_87 rfl ?_
              refine xt_bipush (10) dX12_log_88 (by decide) ?_
              refine xt_idiv dX12_log_90 (by decide) ?_
              refine xt_iconst (1) dX12_log_91 (by decide) ?_
              refine xt_isub dX12_log_92 ?_
              rw [hdv, ht]
              change x_T _ _ _ _ _ (.int (nI 0) :: _) _ _ _
              refine xt_cV _ dX12_log_93 klX12_437 (tX12_factOf sc _ (x_u (x_u μ 152 (upd (μ 152) 0 0)) 152 (upd ((x_u μ 152 (upd (μ 152) 0 0)) 152) 47 (nI f))) _ f L hf2 hW rfl hM (n % 10) 0 (by omega) (by decide)) sh152 rfl rfl (Nat.le_of_ble_eq_true rfl) ?_
              refine xt_goto 100 dX12_log_96 (by decide) ?_
              exact xt_iret .int dX12_log_100 rfl (by first | rfl | assumption) ⟨by rw [s_tL, if_neg (by omega), if_neg (by omega), if_neg (by omega), if_pos (by omega), if_pos (by omega), show 2 + 2 * (n - 10) = 2 + (2 * (n % 10) + 0) by omega], (x_keep.u (x_keep.u (x_keep.rf μ) (by unfold x_ok; omega)) (by unfold x_ok; omega))⟩
        · skip
          refine ⟨s_tL L n, ?_, ?_⟩
          · intro μ w c hf hc e hC
            have hS := l_Sf hf2
            refine x_K.of (by decide) (Nat.le_of_ble_eq_true rfl) ?_
            show x_T sc 29 mX11_log 0 [.ref 0, .int (nI f), .int (nI n), .retAddr 0] [] μ w _
            refine xt_aload_n _ dX11_log_0 rfl ?_
            refine xt_iload_n _ dX11_log_1 rfl ?_
            refine xt_cV _ dX11_log_2 klX11_166 (tX11_ledgerOf sc _ μ w f c hf hc e) sh0 rfl rfl (Nat.le_of_ble_eq_true rfl) ?_
            refine xt_astore_n dX11_log_5 (by decide) rfl ?_
            change x_T _ _ _ _ [_, _, _, _] _ _ _ _
            refine xt_aload_n _ dX11_log_6 rfl ?_
            refine xt_ifnonnull_r 14 dX11_log_7 (by decide) ?_
            refine xt_aload_n _ dX11_log_14 rfl ?_
            refine xt_iload_n _ dX11_log_15 rfl ?_
            refine xt_cV _ dX11_log_16 klX11_170 (tX4_tell sc _ μ w hS hW hC n hn31) hS.1 rfl rfl (Nat.le_of_ble_eq_true rfl) ?_
            exact xt_iret .int dX11_log_19 rfl (by first | rfl | assumption) ⟨rfl, x_keep.rf μ⟩
          · intro μ w c hf hc e hM
            refine x_K.of (by decide) (Nat.le_of_ble_eq_true rfl) ?_
            show x_T sc 29 mX12_log 0 [.ref 152, .int (nI f), .int (nI n), .retAddr 0] [] μ w _
            refine xt_aload_n _ dX12_log_0 rfl ?_
            refine xt_iconst (0) dX12_log_1 (by decide) ?_
            refine xt_puti dX12_log_2 kpX12_72 (by first | exact sh152 | rfl | assumption) rfl (by first | rfl | assumption) (by first | rfl | assumption) ?_
            refine xt_aload_n _ dX12_log_5 rfl ?_
            refine xt_iload_n _ dX12_log_6 rfl ?_
            refine xt_cV _ dX12_log_7 klX12_428 (tX12_hasLog_yes sc _ (x_u μ 152 (upd (μ 152) 0 0)) w f c hf hc e) sh152 rfl rfl (Nat.le_of_ble_eq_true rfl) ?_
            refine xt_if_ne 15 dX12_log_10 (by decide) (fun _ => ?_) (fun q => absurd q (by decide))
            refine xt_iload_n _ dX12_log_15 rfl ?_
            refine xt_bipush (10) dX12_log_16 (by decide) ?_
            refine xt_irem dX12_log_18 (by decide) ?_
            rw [hrm]
            refine xt_istore_n dX12_log_19 (by decide) rfl ?_
            change x_T _ _ _ _ [_, _, _, _] _ _ _ _
            refine xt_iload_n _ dX12_log_20 rfl ?_
            refine xt_bipush (10) dX12_log_21 (by decide) ?_
            refine xt_idiv dX12_log_23 (by decide) ?_
            rw [hdv, ht]
            refine xt_tabIn 77 dX12_log_24 (by decide) (by decide) (by rfl) (by decide) ?_
            refine xt_iload_n _ dX12_log_77 rfl ?_
            refine xt_aload_n _ dX12_log_78 rfl ?_
            refine xt_cV _ dX12_log_79 klX12_434 (tX12_facts sc _ (x_u (x_u μ 152 (upd (μ 152) 0 0)) 152 (upd ((x_u μ 152 (upd (μ 152) 0 0)) 152) 47 (nI f))) _ f L hf2 hW rfl hM) sh152 rfl rfl (Nat.le_of_ble_eq_true rfl) ?_
            refine xt_icmp_ge 99 dX12_log_82 (by decide) (fun t82 => ?_) (fun f82 => ?_)
            · have n82 : L 1 ≤ (n % 10) := (nI_leI (a := L 1) (b := (n % 10)) (by omega) (by omega)).mp t82
              refine xt_iconst (-1) dX12_log_99 (by decide) ?_
              exact xt_iret .int dX12_log_100 rfl (by first | rfl | assumption) ⟨by rw [s_tL, if_neg (by omega), if_neg (by omega), if_neg (by omega), if_neg (by omega), if_neg (by omega)], (x_keep.u (x_keep.u (x_keep.rf μ) (by unfold x_ok; omega)) (by unfold x_ok; omega))⟩
            · have n82 : ¬ (L 1 ≤ (n % 10)) := fun z => f82 ((nI_leI (a := L 1) (b := (n % 10)) (by omega) (by omega)).mpr z)
              refine xt_aload_n _ dX12_log_85 rfl ?_
              refine xt_iload_n _ dX12_log_86 rfl ?_
              refine xt_iload_n _ dX12_log_87 rfl ?_
              refine xt_bipush (10) dX12_log_88 (by decide) ?_
              refine xt_idiv dX12_log_90 (by decide) ?_
              refine xt_iconst (1) dX12_log_91 (by decide) ?_
              refine xt_isub dX12_log_92 ?_
              rw [hdv, ht]
              change x_T _ _ _ _ _ (.int (nI 1) :: _) _ _ _
              refine xt_cV _ dX12_log_93 klX12_437 (tX12_factOf sc _ (x_u (x_u μ 152 (upd (μ 152) 0 0)) 152 (upd ((x_u μ 152 (upd (μ 152) 0 0)) 152) 47 (nI f))) _ f L hf2 hW rfl hM (n % 10) 1 (by omega) (by decide)) sh152 rfl rfl (Nat.le_of_ble_eq_true rfl) ?_
              refine xt_goto 100 dX12_log_96 (by decide) ?_
              exact xt_iret .int dX12_log_100 rfl (by first | rfl | assumption) ⟨by rw [s_tL, if_neg (by omega), if_neg (by omega), if_neg (by omega), if_neg (by omega), if_pos (by omega), show 3 + 2 * (n - 20) = 2 + (2 * (n % 10) + 1) by omega], (x_keep.u (x_keep.u (x_keep.rf μ) (by unfold x_ok; omega)) (by unfold x_ok; omega))⟩
      · skip
        refine ⟨s_tL L n, ?_, ?_⟩
        · intro μ w c hf hc e hC
          have hS := l_Sf hf2
          refine x_K.of (by decide) (Nat.le_of_ble_eq_true rfl) ?_
          show x_T sc 29 mX11_log 0 [.ref 0, .int (nI f), .int (nI n), .retAddr 0] [] μ w _
          refine xt_aload_n _ dX11_log_0 rfl ?_
          refine xt_iload_n _ dX11_log_1 rfl ?_
          refine xt_cV _ dX11_log_2 klX11_166 (tX11_ledgerOf sc _ μ w f c hf hc e) sh0 rfl rfl (Nat.le_of_ble_eq_true rfl) ?_
          refine xt_astore_n dX11_log_5 (by decide) rfl ?_
          change x_T _ _ _ _ [_, _, _, _] _ _ _ _
          refine xt_aload_n _ dX11_log_6 rfl ?_
          refine xt_ifnonnull_r 14 dX11_log_7 (by decide) ?_
          refine xt_aload_n _ dX11_log_14 rfl ?_
          refine xt_iload_n _ dX11_log_15 rfl ?_
          refine xt_cV _ dX11_log_16 klX11_170 (tX4_tell sc _ μ w hS hW hC n hn31) hS.1 rfl rfl (Nat.le_of_ble_eq_true rfl) ?_
          exact xt_iret .int dX11_log_19 rfl (by first | rfl | assumption) ⟨rfl, x_keep.rf μ⟩
        · intro μ w c hf hc e hM
          refine x_K.of (by decide) (Nat.le_of_ble_eq_true rfl) ?_
          show x_T sc 29 mX12_log 0 [.ref 152, .int (nI f), .int (nI n), .retAddr 0] [] μ w _
          refine xt_aload_n _ dX12_log_0 rfl ?_
          refine xt_iconst (0) dX12_log_1 (by decide) ?_
          refine xt_puti dX12_log_2 kpX12_72 (by first | exact sh152 | rfl | assumption) rfl (by first | rfl | assumption) (by first | rfl | assumption) ?_
          refine xt_aload_n _ dX12_log_5 rfl ?_
          refine xt_iload_n _ dX12_log_6 rfl ?_
          refine xt_cV _ dX12_log_7 klX12_428 (tX12_hasLog_yes sc _ (x_u μ 152 (upd (μ 152) 0 0)) w f c hf hc e) sh152 rfl rfl (Nat.le_of_ble_eq_true rfl) ?_
          refine xt_if_ne 15 dX12_log_10 (by decide) (fun _ => ?_) (fun q => absurd q (by decide))
          refine xt_iload_n _ dX12_log_15 rfl ?_
          refine xt_bipush (10) dX12_log_16 (by decide) ?_
          refine xt_irem dX12_log_18 (by decide) ?_
          refine xt_istore_n dX12_log_19 (by decide) rfl ?_
          change x_T _ _ _ _ [_, _, _, _] _ _ _ _
          refine xt_iload_n _ dX12_log_20 rfl ?_
          refine xt_bipush (10) dX12_log_21 (by decide) ?_
          refine xt_idiv dX12_log_23 (by decide) ?_
          rw [hdv]
          refine xt_tabOut 101 dX12_log_24 (Or.inr (by rw [nI_toInt (by omega)]; omega)) (by decide) ?_
          refine xt_iconst (-1) dX12_log_101 (by decide) ?_
          exact xt_iret .int dX12_log_102 rfl (by first | rfl | assumption) ⟨by rw [s_tL, if_neg (by omega), if_neg (by omega), if_neg (by omega), if_neg (by omega), if_neg (by omega)], (x_keep.u (x_keep.u (x_keep.rf μ) (by unfold x_ok; omega)) (by unfold x_ok; omega))⟩
