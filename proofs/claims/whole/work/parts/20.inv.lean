/-! what holds between the calls -/
def x_b (q : Nat) : Nat := if q = 0 then 1 else 2 + 28 * q
/-- a FAIR told: the class's cells and the reference's row hold F -/
def i_F (μ : x_Me) (q f : Nat) (F : Nat → Nat) : Prop := f_W F ∧ f_C μ (x_b q + 6 + 11 * f) F ∧ ∀ i, i < 125 → μ 158 (250 * q + 125 * f + i) = nI (F i)
/-- the numbers of a DEED -/
def i_dw (D : Nat → Int32) (k : Nat) : Prop := ∃ s a b c : Nat, s ≤ 5 ∧ a ≤ 7 ∧ b ≤ 9 ∧ c ≤ 9 ∧ D (1 + 4 * k) = nI s ∧
  (if s < 2 then D (2 + 4 * k) = -1 else D (2 + 4 * k) = nI a) ∧ (if s < 3 then D (3 + 4 * k) = -1 ∧ D (4 + 4 * k) = -1 else D (3 + 4 * k) = nI b ∧ D (4 + 4 * k) = nI c ∧ (3 < s → b ≤ 5 ∧ 1 ≤ c))
/-- a DAY told -/
def i_D (μ : x_Me) (q f : Nat) (D : Nat → Int32) : Prop := ∃ n : Nat, n ≤ 40 ∧ D 0 = nI n ∧ μ (x_b q + 12 + 11 * f) 0 = nI n ∧ (∀ i, i < 4 * n → μ (x_b q + 13 + 11 * f) i = D (1 + i)) ∧ (∀ i, i < 1 + 4 * n → μ 159 (322 * q + 161 * f + i) = D i) ∧ ∀ k, k < n → i_dw D k
/-- a LOG told -/
def i_L (μ : x_Me) (q f : Nat) (L : Nat → Nat) : Prop := L 0 ≤ 8 ∧ L 1 ≤ 8 ∧ μ (x_b q + 14 + 11 * f) 0 = nI (L 0) ∧ μ (x_b q + 14 + 11 * f) 1 = nI (L 1) ∧ (∀ k, k < L 1 → L (2 + 2 * k) ≤ 1 ∧ L (3 + 2 * k) ≤ 63 ∧ μ (x_b q + 15 + 11 * f) k = nI (L (2 + 2 * k)) ∧ μ (x_b q + 16 + 11 * f) k = nI (L (3 + 2 * k))) ∧ ∀ i, i < 2 + 2 * L 1 → μ 160 (36 * q + 18 * f + i) = nI (L i)
def i_T (μ : x_Me) (q s f : Nat) : Prop := match s with
  | 0 => ∃ F, i_F μ q f F
  | 1 => ∃ D, i_D μ q f D
  | _ => ∃ L, i_L μ q f L
/-- all that is told: the tape, the FAULT, the texts -/
def i_slot (μ : x_Me) (q : Nat) : Prop := (∃ n, n ≤ 600 ∧ μ (x_b q) 1 = nI n ∧ μ 154 q = nI n ∧ ∀ i, i < n → μ (x_b q + 1) i = μ 153 (600 * q + i)) ∧ (∀ i, i < 600 → fits .byte (.int (μ (x_b q + 1) i)) = true) ∧ μ (x_b q) 2 = μ 155 q ∧ μ (x_b q) 3 = μ 156 q ∧
  ∀ s, s < 3 → ∃ c, c ≤ 2 ∧ μ (x_b q + 2) s = nI c ∧ μ 157 (3 * q + s) = nI c ∧ ∀ f, f < c → i_T μ q s f
def x_Inv (μ : x_Me) : Prop := (∀ k, k < 3 → μ 114 k = μ 172 k ∧ (μ 114 k = 0 ∨ μ 114 k = 1)) ∧ i_slot μ 0 ∧ ∀ k, k < 3 → μ 114 k = 1 → i_slot μ (k + 1)
theorem x_b_le {q : Nat} (hq : q < 4) : x_b q ≤ 86 := by unfold x_b; split <;> omega
theorem f_C.cg {μ μ' : x_Me} {k : Nat} {F : Nat → Nat} (h : f_C μ k F) (e : ∀ j, j ≤ 5 → μ' (k + j) = μ (k + j)) : f_C μ' k F := by
  obtain ⟨h0, h1, h2, h3, h4, h5⟩ := h
  refine ⟨?_, ?_, ?_, ?_, ?_, ?_⟩
  · rw [show μ' k = μ k from e 0 (by decide)]; exact h0
  · rw [e 1 (by decide)]; exact h1
  · rw [e 2 (by decide)]; exact h2
  · rw [e 3 (by decide)]; exact h3
  · rw [e 4 (by decide)]; exact h4
  · rw [e 5 (by decide)]; exact h5
theorem i_T.keep {μ μ' : x_Me} {q s f : Nat} (hq : q < 4) (hf : f < 2) (h : x_keep μ μ') (hi : i_T μ q s f) : i_T μ' q s f := by
  have hb := x_b_le hq
  have hok : ∀ a, a ≤ 114 → μ' a = μ a := fun a ha => h a (Or.inl ha)
  match s, hi with
  | 0, hi =>
    obtain ⟨F, h1, h2, h3⟩ := hi
    exact ⟨F, h1, h2.cg (fun j hj => hok _ (by omega)), fun i hi => by rw [h 158 (Or.inr (Or.inl ⟨by decide, by decide⟩))]; exact h3 i hi⟩
  | 1, hi =>
    obtain ⟨D, n, h1, h2, h3, h4, h5, h6⟩ := hi
    exact ⟨D, n, h1, h2, by rw [hok _ (by omega)]; exact h3, by rw [hok _ (by omega)]; exact h4, by rw [h 159 (Or.inr (Or.inl ⟨by decide, by decide⟩))]; exact h5, h6⟩
  | s + 2, hi =>
    obtain ⟨L, h1, h2, h3, h4, h5, h6⟩ := hi
    refine ⟨L, h1, h2, by rw [hok _ (by omega)]; exact h3, by rw [hok _ (by omega)]; exact h4, ?_, by rw [h 160 (Or.inr (Or.inl ⟨by decide, by decide⟩))]; exact h6⟩
    rw [hok (x_b q + 15 + 11 * f) (by omega), hok (x_b q + 16 + 11 * f) (by omega)]; exact h5
theorem i_slot.keep {μ μ' : x_Me} {q : Nat} (hq : q < 4) (h : x_keep μ μ') (hi : i_slot μ q) : i_slot μ' q := by
  have hb := x_b_le hq
  have hok : ∀ a, a ≤ 114 → μ' a = μ a := fun a ha => h a (Or.inl ha)
  have hok2 : ∀ a, 153 ≤ a → a ≤ 160 → μ' a = μ a := fun a h1 h2 => h a (Or.inr (Or.inl ⟨h1, h2⟩))
  obtain ⟨h1, h2, h3, h4, h5⟩ := hi
  unfold i_slot
  rw [hok (x_b q) (by omega), hok (x_b q + 1) (by omega), hok (x_b q + 2) (by omega), hok2 153 (by decide) (by decide), hok2 154 (by decide) (by decide), hok2 155 (by decide) (by decide), hok2 156 (by decide) (by decide), hok2 157 (by decide) (by decide)]
  refine ⟨h1, h2, h3, h4, fun s hs => ?_⟩
  obtain ⟨c, c1, c2, c3, c4⟩ := h5 s hs
  exact ⟨c, c1, c2, c3, fun f hf => (c4 f hf).keep hq (by omega) h⟩
theorem x_Inv.keep {μ μ' : x_Me} (h : x_keep μ μ') (hi : x_Inv μ) : x_Inv μ' := by
  obtain ⟨h1, h2, h3⟩ := hi
  unfold x_Inv
  rw [h 114 (Or.inl (by decide)), h 172 (Or.inr (Or.inr rfl))]
  exact ⟨h1, h2.keep (by decide) h, fun k hk ht => (h3 k hk ht).keep (by omega) h⟩
theorem x_K.weak {sc : Nat × (Nat → Int32)} {d : Nat} {M : x_Mt} {as : List Value} {μ : x_Me} {w : Int64} {v : Int32} (h : x_D sc d M as μ w (some (.int v)) μ w) : x_K sc d M as μ w (fun r μ' _ => r = some (.int v) ∧ x_keep μ μ') := h.mono (fun r μ' w' q => ⟨q.1, by rw [q.2.1]; exact x_keep.rf μ⟩)
/-- a call that asks after a FAIR, on both sides -/
theorem x_stF {sc : Nat × (Nat → Int32)} {Mc Mm : x_Mt} {kk : Int32} {as : List Value} (no : Int32)
    (hcN : ∀ μ w c, c ≤ 2 → μ 3 0 = nI c → ¬ (0 ≤ kk ∧ kk < nI c) → x_K sc 29 Mc (.ref 0 :: .int kk :: as) μ w (fun r μ' _ => r = some (.int no) ∧ x_keep μ μ'))
    (hmN : ∀ μ w c, c ≤ 2 → μ 157 0 = nI c → ¬ (0 ≤ kk ∧ kk < nI c) → x_K sc 29 Mm (.ref 152 :: .int kk :: as) μ w (fun r μ' _ => r = some (.int no) ∧ x_keep μ μ'))
    (hY : ∀ (f : Nat) (F : Nat → Nat), f < 2 → kk = nI f → f_W F → ∃ v : Int32, (∀ μ w c, f < c → c ≤ 2 → μ 3 0 = nI c → f_C μ (7 + 11 * f) F → x_K sc 29 Mc (.ref 0 :: .int kk :: as) μ w (fun r μ' _ => r = some (.int v) ∧ x_keep μ μ')) ∧
      (∀ μ w c, f < c → c ≤ 2 → μ 157 0 = nI c → (∀ i, i < 125 → μ 158 (125 * f + i) = nI (F i)) → x_K sc 29 Mm (.ref 152 :: .int kk :: as) μ w (fun r μ' _ => r = some (.int v) ∧ x_keep μ μ'))) :
    x_stI sc (fun μ _ => x_Inv μ) (fun μ _ => x_Inv μ) Mc Mm (.int kk :: as) := by
  intro μ w hI
  obtain ⟨c, hc, e1, e2, hfs⟩ := hI.2.1.2.2.2.2 0 (by decide)
  by_cases hk : 0 ≤ kk ∧ kk < nI c
  · obtain ⟨f, hf31, rfl⟩ := nI_of (Int32.not_lt.mpr hk.1)
    have hf : f < c := (nI_ltI hf31 (by omega)).mp hk.2
    obtain ⟨F, hW, hC, hM⟩ := hfs f hf
    obtain ⟨v, hv1, hv2⟩ := hY f F (by omega) rfl hW
    have hC : f_C μ (7 + 11 * f) F := hC
    refine (hv1 μ w c hf hc e1 hC).mono (fun r μ1 w1 q => ⟨v, q.1, ?_⟩)
    have hk1 := q.2
    refine (hv2 μ1 w1 c hf hc (by rw [hk1 157 (Or.inr (Or.inl ⟨by decide, by decide⟩))]; exact e2) (fun i hi => by rw [hk1 158 (Or.inr (Or.inl ⟨by decide, by decide⟩))]; have := hM i hi; rw [Nat.mul_zero, Nat.zero_add] at this; exact this)).mono (fun r2 μ2 w2 q2 => ⟨q2.1, hI.keep (hk1.tr q2.2)⟩)
  · refine (hcN μ w c hc e1 hk).mono (fun r μ1 w1 q => ⟨no, q.1, ?_⟩)
    have hk1 := q.2
    refine (hmN μ1 w1 c hc (by rw [hk1 157 (Or.inr (Or.inl ⟨by decide, by decide⟩))]; exact e2) hk).mono (fun r2 μ2 w2 q2 => ⟨q2.1, hI.keep (hk1.tr q2.2)⟩)
theorem f_Sf {f : Nat} (hf : f < 2) : f_S (7 + 11 * f) := by
  match f, hf with
  | 0, _ => exact f_S7
  | 1, _ => exact f_S18
section ASK
variable (sc : Nat × (Nat → Int32)) (d : Nat) (μ : x_Me) (w : Int64)
theorem sh0 : x_shape[0]? = some (.inl (9, [some (some (.ref 1)), some (some (.ref 29)), some (some (.ref 114)), some (some (.ref 115)), some (some (.ref 129)), some (some (.ref 137)), some (some (.ref 144)), some (some (.ref 150))])) := by rfl
theorem sh1 : x_shape[1]? = some (.inl (7, [some (some (.ref 2)), none, none, none, some (some (.ref 3)), some (some (.ref 4)), some (some (.ref 5)), some (some (.ref 6))])) := by rfl
/-- has the text told of sort s the number n -/
def s_hasT (c : Nat) (n : Int32) : Int32 := if n < 0 then 0 else if nI c ≤ n then 0 else 1
theorem s_hasT_nar (c : Nat) (n : Int32) : narrow .boolean (.int (s_hasT c n)) = .int (s_hasT c n) := by
  unfold s_hasT; split
  · rfl
  · split <;> rfl
set_option maxHeartbeats 1000000 in
theorem tX9_has (s c : Nat) (hs : s < 3) (hc : c ≤ 2) (e : μ 3 s = nI c) (n : Int32) : x_D sc (d + 1) mX9_has [.ref 1, .int (nI s), .int n] μ w (some (.int (s_hasT c n))) μ w := by
  have ea : s_at 3 (μ 3) (nI s) = nI c := by rw [s_at_ix (j := s) hs (by decide) rfl, e]
  refine x_D.of (by decide) (Nat.le_of_ble_eq_true rfl) ?_
  show x_T sc (d + 1) mX9_has 0 [.ref 1, .int (nI s), .int n] [] μ w _
  refine xt_iload_n _ dX9_has_0 rfl ?_
  refine xt_if_lt 25 dX9_has_1 (by decide) (fun t1 => ?_) (fun f1 => ?_)
  · refine xt_iconst (0) dX9_has_25 (by decide) ?_
    exact xt_iret .boolean dX9_has_26 rfl (by first | rfl | assumption) ⟨by rw [s_hasT, if_pos t1], rfl, rfl⟩
  · refine xt_iload_n _ dX9_has_4 rfl ?_
    refine xt_iconst (2) dX9_has_5 (by decide) ?_
    refine xt_icmp_ge 25 dX9_has_6 (by decide) (fun t6 => ?_) (fun f6 => ?_)
    · refine xt_iconst (0) dX9_has_25 (by decide) ?_
      exact xt_iret .boolean dX9_has_26 rfl (by first | rfl | assumption) ⟨by rw [s_hasT, if_neg f1, if_pos (Int32.le_trans (nI_le (a := c) (b := 2) hc (by decide)) t6)], rfl, rfl⟩
    · refine xt_iload_n _ dX9_has_9 rfl ?_
      refine xt_aload_n _ dX9_has_10 rfl ?_
      refine xt_getr _ dX9_has_11 kfX9_19 (by first | exact sh0 | exact sh1 | rfl | assumption) rfl ?_
      refine xt_iload_n _ dX9_has_14 rfl ?_
      refine xt_cS _ dX9_has_15 klX9_66 (tX8_at sc _ μ w (k := 3) (n := 3) rfl (by decide) _) rfl rfl (Nat.le_of_ble_eq_true rfl) ?_
      refine xt_icmp_ge 25 dX9_has_18 (by decide) (fun t18 => ?_) (fun f18 => ?_)
      · refine xt_iconst (0) dX9_has_25 (by decide) ?_
        exact xt_iret .boolean dX9_has_26 rfl (by first | rfl | assumption) ⟨by rw [ea] at t18; rw [s_hasT, if_neg f1, if_pos t18], rfl, rfl⟩
      · refine xt_iconst (1) dX9_has_21 (by decide) ?_
        refine xt_goto 26 dX9_has_22 (by decide) ?_
        exact xt_iret .boolean dX9_has_26 rfl (by first | rfl | assumption) ⟨by rw [ea] at f18; rw [s_hasT, if_neg f1, if_neg f18], rfl, rfl⟩
set_option maxHeartbeats 1000000 in
theorem tX11_fairOf_no (c : Nat) (hc : c ≤ 2) (e : μ 3 0 = nI c) (n : Int32) (hn : ¬ (0 ≤ n ∧ n < nI c)) : x_D sc (d + 2) mX11_fairOf [.ref 0, .int n] μ w (some .null) μ w := by
  have e0 : s_hasT c n = 0 := by
    unfold s_hasT
    by_cases h1 : n < 0
    · rw [if_pos h1]
    · rw [if_neg h1, if_pos (Int32.not_lt.mp (fun z => hn ⟨Int32.not_lt.mp h1, z⟩))]
  refine x_D.of (by decide) (Nat.le_of_ble_eq_true rfl) ?_
  show x_T sc (d + 2) mX11_fairOf 0 [.ref 0, .int n] [] μ w _
  refine xt_aload_n _ dX11_fairOf_0 rfl ?_
  refine xt_getr _ dX11_fairOf_1 kfX11_10 (by first | exact sh0 | exact sh1 | rfl | assumption) rfl ?_
  refine xt_iconst (0) dX11_fairOf_4 (by decide) ?_
  refine xt_iload_n _ dX11_fairOf_5 rfl ?_
  refine xt_cV _ dX11_fairOf_6 klX11_339 (tX9_has sc _ μ w 0 c (by decide) hc e _) sh1 rfl rfl (Nat.le_of_ble_eq_true rfl) ?_
  refine xt_if_eq 24 dX11_fairOf_9 (by decide) (fun _ => ?_) (fun q => absurd e0 q)
  refine xt_null dX11_fairOf_24 ?_
  exact xt_aret0 _ dX11_fairOf_25 rfl ⟨rfl, rfl, rfl⟩
set_option maxHeartbeats 1000000 in
theorem tX11_fairOf (f c : Nat) (hf : f < c) (hc : c ≤ 2) (e : μ 3 0 = nI c) : x_D sc (d + 2) mX11_fairOf [.ref 0, .int (nI f)] μ w (some (.ref (7 + 11 * f))) μ w := by
  have e0 : ¬ s_hasT c (nI f) = 0 := by
    unfold s_hasT
    rw [if_neg (nI_pos (by omega)), if_neg (nI_ge hf (by omega))]; decide
  refine x_D.of (by decide) (Nat.le_of_ble_eq_true rfl) ?_
  show x_T sc (d + 2) mX11_fairOf 0 [.ref 0, .int (nI f)] [] μ w _
  refine xt_aload_n _ dX11_fairOf_0 rfl ?_
  refine xt_getr _ dX11_fairOf_1 kfX11_10 (by first | exact sh0 | exact sh1 | rfl | assumption) rfl ?_
  refine xt_iconst (0) dX11_fairOf_4 (by decide) ?_
  refine xt_iload_n _ dX11_fairOf_5 rfl ?_
  refine xt_cV _ dX11_fairOf_6 klX11_339 (tX9_has sc _ μ w 0 c (by decide) hc e _) sh1 rfl rfl (Nat.le_of_ble_eq_true rfl) ?_
  refine xt_if_eq 24 dX11_fairOf_9 (by decide) (fun q => absurd q e0) (fun _ => ?_)
  refine xt_aload_n _ dX11_fairOf_12 rfl ?_
  refine xt_getr _ dX11_fairOf_13 kfX11_10 (by first | exact sh0 | exact sh1 | rfl | assumption) rfl ?_
  refine xt_getr _ dX11_fairOf_16 kfX11_343 (by first | exact sh0 | exact sh1 | rfl | assumption) rfl ?_
  refine xt_iload_n _ dX11_fairOf_19 rfl ?_
  refine xt_aald (.ref (7 + 11 * f)) dX11_fairOf_20 (by rfl) (by decide) (vp_in_nI (by omega) (by decide)) ?_ ?_
  · rw [nI_clamp (by omega)]; match f, (show f < 2 by omega) with
    | 0, _ => rfl
    | 1, _ => rfl
  refine xt_goto 25 dX11_fairOf_21 (by decide) ?_
  exact xt_aret _ dX11_fairOf_25 rfl ⟨rfl, rfl, rfl⟩
set_option maxHeartbeats 1000000 in
theorem tX11_dayOf_no (c : Nat) (hc : c ≤ 2) (e : μ 3 1 = nI c) (n : Int32) (hn : ¬ (0 ≤ n ∧ n < nI c)) : x_D sc (d + 2) mX11_dayOf [.ref 0, .int n] μ w (some .null) μ w := by
  have e0 : s_hasT c n = 0 := by
    unfold s_hasT
    by_cases h1 : n < 0
    · rw [if_pos h1]
    · rw [if_neg h1, if_pos (Int32.not_lt.mp (fun z => hn ⟨Int32.not_lt.mp h1, z⟩))]
  refine x_D.of (by decide) (Nat.le_of_ble_eq_true rfl) ?_
  show x_T sc (d + 2) mX11_dayOf 0 [.ref 0, .int n] [] μ w _
  refine xt_aload_n _ dX11_dayOf_0 rfl ?_
  refine xt_getr _ dX11_dayOf_1 kfX11_10 (by first | exact sh0 | exact sh1 | rfl | assumption) rfl ?_
  refine xt_iconst (1) dX11_dayOf_4 (by decide) ?_
  refine xt_iload_n _ dX11_dayOf_5 rfl ?_
  refine xt_cV _ dX11_dayOf_6 klX11_339 (tX9_has sc _ μ w 1 c (by decide) hc e _) sh1 rfl rfl (Nat.le_of_ble_eq_true rfl) ?_
  refine xt_if_eq 24 dX11_dayOf_9 (by decide) (fun _ => ?_) (fun q => absurd e0 q)
  refine xt_null dX11_dayOf_24 ?_
  exact xt_aret0 _ dX11_dayOf_25 rfl ⟨rfl, rfl, rfl⟩
set_option maxHeartbeats 1000000 in
theorem tX11_dayOf (f c : Nat) (hf : f < c) (hc : c ≤ 2) (e : μ 3 1 = nI c) : x_D sc (d + 2) mX11_dayOf [.ref 0, .int (nI f)] μ w (some (.ref (13 + 11 * f))) μ w := by
  have e0 : ¬ s_hasT c (nI f) = 0 := by
    unfold s_hasT
    rw [if_neg (nI_pos (by omega)), if_neg (nI_ge hf (by omega))]; decide
  refine x_D.of (by decide) (Nat.le_of_ble_eq_true rfl) ?_
  show x_T sc (d + 2) mX11_dayOf 0 [.ref 0, .int (nI f)] [] μ w _
  refine xt_aload_n _ dX11_dayOf_0 rfl ?_
  refine xt_getr _ dX11_dayOf_1 kfX11_10 (by first | exact sh0 | exact sh1 | rfl | assumption) rfl ?_
  refine xt_iconst (1) dX11_dayOf_4 (by decide) ?_
  refine xt_iload_n _ dX11_dayOf_5 rfl ?_
  refine xt_cV _ dX11_dayOf_6 klX11_339 (tX9_has sc _ μ w 1 c (by decide) hc e _) sh1 rfl rfl (Nat.le_of_ble_eq_true rfl) ?_
  refine xt_if_eq 24 dX11_dayOf_9 (by decide) (fun q => absurd q e0) (fun _ => ?_)
  refine xt_aload_n _ dX11_dayOf_12 rfl ?_
  refine xt_getr _ dX11_dayOf_13 kfX11_10 (by first | exact sh0 | exact sh1 | rfl | assumption) rfl ?_
  refine xt_getr _ dX11_dayOf_16 kfX11_347 (by first | exact sh0 | exact sh1 | rfl | assumption) rfl ?_
  refine xt_iload_n _ dX11_dayOf_19 rfl ?_
  refine xt_aald (.ref (13 + 11 * f)) dX11_dayOf_20 (by rfl) (by decide) (vp_in_nI (by omega) (by decide)) ?_ ?_
  · rw [nI_clamp (by omega)]; match f, (show f < 2 by omega) with
    | 0, _ => rfl
    | 1, _ => rfl
  refine xt_goto 25 dX11_dayOf_21 (by decide) ?_
  exact xt_aret _ dX11_dayOf_25 rfl ⟨rfl, rfl, rfl⟩
set_option maxHeartbeats 1000000 in
theorem tX11_ledgerOf_no (c : Nat) (hc : c ≤ 2) (e : μ 3 2 = nI c) (n : Int32) (hn : ¬ (0 ≤ n ∧ n < nI c)) : x_D sc (d + 2) mX11_ledgerOf [.ref 0, .int n] μ w (some .null) μ w := by
  have e0 : s_hasT c n = 0 := by
    unfold s_hasT
    by_cases h1 : n < 0
    · rw [if_pos h1]
    · rw [if_neg h1, if_pos (Int32.not_lt.mp (fun z => hn ⟨Int32.not_lt.mp h1, z⟩))]
  refine x_D.of (by decide) (Nat.le_of_ble_eq_true rfl) ?_
  show x_T sc (d + 2) mX11_ledgerOf 0 [.ref 0, .int n] [] μ w _
  refine xt_aload_n _ dX11_ledgerOf_0 rfl ?_
  refine xt_getr _ dX11_ledgerOf_1 kfX11_10 (by first | exact sh0 | exact sh1 | rfl | assumption) rfl ?_
  refine xt_iconst (2) dX11_ledgerOf_4 (by decide) ?_
  refine xt_iload_n _ dX11_ledgerOf_5 rfl ?_
  refine xt_cV _ dX11_ledgerOf_6 klX11_339 (tX9_has sc _ μ w 2 c (by decide) hc e _) sh1 rfl rfl (Nat.le_of_ble_eq_true rfl) ?_
  refine xt_if_eq 24 dX11_ledgerOf_9 (by decide) (fun _ => ?_) (fun q => absurd e0 q)
  refine xt_null dX11_ledgerOf_24 ?_
  exact xt_aret0 _ dX11_ledgerOf_25 rfl ⟨rfl, rfl, rfl⟩
set_option maxHeartbeats 1000000 in
theorem tX11_ledgerOf (f c : Nat) (hf : f < c) (hc : c ≤ 2) (e : μ 3 2 = nI c) : x_D sc (d + 2) mX11_ledgerOf [.ref 0, .int (nI f)] μ w (some (.ref (15 + 11 * f))) μ w := by
  have e0 : ¬ s_hasT c (nI f) = 0 := by
    unfold s_hasT
    rw [if_neg (nI_pos (by omega)), if_neg (nI_ge hf (by omega))]; decide
  refine x_D.of (by decide) (Nat.le_of_ble_eq_true rfl) ?_
  show x_T sc (d + 2) mX11_ledgerOf 0 [.ref 0, .int (nI f)] [] μ w _
  refine xt_aload_n _ dX11_ledgerOf_0 rfl ?_
  refine xt_getr _ dX11_ledgerOf_1 kfX11_10 (by first | exact sh0 | exact sh1 | rfl | assumption) rfl ?_
  refine xt_iconst (2) dX11_ledgerOf_4 (by decide) ?_
  refine xt_iload_n _ dX11_ledgerOf_5 rfl ?_
  refine xt_cV _ dX11_ledgerOf_6 klX11_339 (tX9_has sc _ μ w 2 c (by decide) hc e _) sh1 rfl rfl (Nat.le_of_ble_eq_true rfl) ?_
  refine xt_if_eq 24 dX11_ledgerOf_9 (by decide) (fun q => absurd q e0) (fun _ => ?_)
  refine xt_aload_n _ dX11_ledgerOf_12 rfl ?_
  refine xt_getr _ dX11_ledgerOf_13 kfX11_10 (by first | exact sh0 | exact sh1 | rfl | assumption) rfl ?_
  refine xt_getr _ dX11_ledgerOf_16 kfX11_351 (by first | exact sh0 | exact sh1 | rfl | assumption) rfl ?_
  refine xt_iload_n _ dX11_ledgerOf_19 rfl ?_
  refine xt_aald (.ref (15 + 11 * f)) dX11_ledgerOf_20 (by rfl) (by decide) (vp_in_nI (by omega) (by decide)) ?_ ?_
  · rw [nI_clamp (by omega)]; match f, (show f < 2 by omega) with
    | 0, _ => rfl
    | 1, _ => rfl
  refine xt_goto 25 dX11_ledgerOf_21 (by decide) ?_
  exact xt_aret _ dX11_ledgerOf_25 rfl ⟨rfl, rfl, rfl⟩
end ASK
