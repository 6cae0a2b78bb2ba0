/-! the step of round -/
theorem w_fold_none {P : Nat → Int} {D : Nat → Nat → Int} {x0 : Int} {tb : Nat → Nat → w_X} {s p : Nat} : ∀ n, (w_fold P D false x0 tb s p n).2.2 = 0 → ∀ t, t < n → s.testBit t = true
  | 0, _, t, ht => absurd ht (by omega)
  | n + 1, h, t, ht => by
    cases hb : s.testBit n
    · exfalso
      by_cases hz : (w_fold P D false x0 tb s p n).2.2 = 0
      · rw [w_f_y hb (.inr ⟨rfl, hz⟩)] at h
        exact absurd h (Nat.succ_ne_zero n)
      · rw [w_fold, hb, if_neg (by decide), w_st] at h
        split at h
        · exact absurd h (Nat.succ_ne_zero n)
        · exact hz h
    · rw [w_f_b hb] at h
      by_cases e : t = n
      · rw [e]; exact hb
      · exact w_fold_none n h t (by omega)
theorem w_max {P : Nat → Int} {D : Nat → Nat → Int} {re : Bool} {x0 : Int} {tb : Nat → Nat → w_X} {s p : Nat} : ∀ n t, t < n → s.testBit t = false → w_v P D tb s p t < (w_fold P D re x0 tb s p n).1 ∨ (w_v P D tb s p t = (w_fold P D re x0 tb s p n).1 ∧ (w_fold P D re x0 tb s p n).2.1 ≤ w_m tb s t)
  | 0, t, ht, _ => absurd ht (by omega)
  | n + 1, t, ht, hbt => by
    cases hb : s.testBit n
    · by_cases hc : ((w_fold P D re x0 tb s p n).1 < w_v P D tb s p n ∨ (w_v P D tb s p n = (w_fold P D re x0 tb s p n).1 ∧ w_m tb s n < (w_fold P D re x0 tb s p n).2.1)) ∨ (re = false ∧ (w_fold P D re x0 tb s p n).2.2 = 0)
      · rw [w_f_y hb hc]
        by_cases e : t = n
        · rw [e]; exact .inr ⟨rfl, Nat.le_refl _⟩
        · have ih := w_max (P := P) (D := D) (re := re) (x0 := x0) (tb := tb) (p := p) n t (by omega) hbt
          rcases hc with hc | hc
          · show w_v P D tb s p t < w_v P D tb s p n ∨ (w_v P D tb s p t = w_v P D tb s p n ∧ w_m tb s n ≤ w_m tb s t)
            omega
          · rw [hc.1] at hc
            have := w_fold_none n hc.2 t (by omega)
            rw [this] at hbt; exact absurd hbt (by decide)
      · rw [w_f_n hb hc]
        by_cases e : t = n
        · rw [e]; omega
        · exact w_max n t (by omega) hbt
    · rw [w_f_b hb]
      have hne : t ≠ n := fun z => by rw [z, hb] at hbt; exact absurd hbt (by decide)
      exact w_max n t (by omega) hbt
theorem w_fst {P : Nat → Int} {D : Nat → Nat → Int} {re : Bool} {x0 : Int} {tb : Nat → Nat → w_X} {s p : Nat} : ∀ n t, t + 1 < (w_fold P D re x0 tb s p n).2.2 → s.testBit t = false → w_v P D tb s p t < (w_fold P D re x0 tb s p n).1 ∨ (w_v P D tb s p t = (w_fold P D re x0 tb s p n).1 ∧ (w_fold P D re x0 tb s p n).2.1 < w_m tb s t)
  | 0, t, ht, _ => absurd (show t + 1 < 0 from ht) (by omega)
  | n + 1, t, ht, hbt => by
    cases hb : s.testBit n
    · by_cases hc : ((w_fold P D re x0 tb s p n).1 < w_v P D tb s p n ∨ (w_v P D tb s p n = (w_fold P D re x0 tb s p n).1 ∧ w_m tb s n < (w_fold P D re x0 tb s p n).2.1)) ∨ (re = false ∧ (w_fold P D re x0 tb s p n).2.2 = 0)
      · rw [w_f_y hb hc] at ht ⊢
        have ht' : t + 1 < n + 1 := ht
        rcases hc with hc | hc
        · have ih := w_max (P := P) (D := D) (re := re) (x0 := x0) (tb := tb) (p := p) n t (by omega) hbt
          show w_v P D tb s p t < w_v P D tb s p n ∨ (w_v P D tb s p t = w_v P D tb s p n ∧ w_m tb s n < w_m tb s t)
          omega
        · rw [hc.1] at hc
          have := w_fold_none n hc.2 t (by omega)
          rw [this] at hbt; exact absurd hbt (by decide)
      · rw [w_f_n hb hc] at ht ⊢
        exact w_fst n t ht hbt
    · rw [w_f_b hb] at ht ⊢
      exact w_fst n t ht hbt
theorem w_all {T s : Nat} (h : s + 1 = 2 ^ T) : ∀ t, t < T → s.testBit t = true := fun t ht => by
  rw [show s = 2 ^ T - 1 by omega, Nat.testBit_two_pow_sub_one]; exact decide_eq_true ht
theorem w_cn0 {T s : Nat} (h : ∀ t, t < T → s.testBit t = true) : w_cn T s = 0 := (s_cnt_z _ _).mpr (fun i hi => by show (!s.testBit i) = false; rw [h i hi]; rfl)
theorem w_not_all {T s : Nat} (h : s < 2 ^ T) (hn : s + 1 ≠ 2 ^ T) : ∃ t, t < T ∧ s.testBit t = false := by
  apply Classical.byContradiction
  intro z
  have ha : ∀ t, t < T → s.testBit t = true := fun t ht => by
    cases hb : s.testBit t
    · exact absurd ⟨t, ht, hb⟩ z
    · rfl
  have e : s = 2 ^ T - 1 := by
    apply Nat.eq_of_testBit_eq
    intro i
    rw [Nat.testBit_two_pow_sub_one]
    by_cases hi : i < T
    · rw [ha i hi, decide_eq_true hi]
    · rw [decide_eq_false hi]
      exact Nat.testBit_lt_two_pow (Nat.lt_of_lt_of_le h (Nat.pow_le_pow_right (by decide) (by omega)))
  have := Nat.two_pow_pos T
  omega
theorem w_N {T : Nat} {P : Nat → Int} {D : Nat → Nat → Int} : ∀ (n s : Nat) {p : Nat}, w_cn T s = n → s < 2 ^ T → (w_W true T P D s p).2.1 = n
  | n, s, p, hn, hs => by
    rcases w_W_in (wh := true) (P := P) (D := D) (p := p) hs with e | ⟨t, ht, hb, e⟩
    · rw [e]
      show 0 = n
      by_cases ha : s + 1 = 2 ^ T
      · rw [← hn, w_cn0 (w_all ha)]
      · have e2 : w_fold P D false (w_x0 true D p) (w_W true T P D) s p T = (w_x0 true D p, 0, 0) := by
          rw [← e, w_W_fix hs, w_go, show w_re true T s = false by rw [w_re, decide_eq_false ha]; rfl]
        rw [← hn, w_cn0 (w_fold_none T (by rw [e2]))]
    · have h1 := w_cn_or ht hb
      have h2 := w_N (P := P) (D := D) (n - 1) (s ||| 2 ^ t) (p := t) (by omega) (w_or_lt ht hs)
      rw [e]
      show 1 + (w_W true T P D (s ||| 2 ^ t) t).2.1 = n
      omega
  termination_by n => n
  decreasing_by omega
def w_mf (x0 : Int32) (g : Nat → Int32) : Nat → Int32
  | 0 => x0
  | n + 1 => s_le (w_mf x0 g n) (g n)
theorem s_le_iI {a b : Int} (h1 : -1000000000 ≤ a) (h2 : a ≤ 1000000000) (h3 : -1000000000 ≤ b) (h4 : b ≤ 1000000000) : s_le (iI a) (iI b) = iI (min a b) := by
  unfold s_le
  have e : (iI b ≤ iI a) ↔ b ≤ a := by rw [Int32.le_iff_toInt_le, iI_toInt h1 h2, iI_toInt h3 h4]
  by_cases h : b ≤ a
  · rw [if_pos (e.mpr h), Int.min_eq_right h]
  · rw [if_neg (fun z => h (e.mp z)), Int.min_eq_left (by omega)]
/-- the reference's fold finds the class's least way -/
theorem w_rnd {T : Nat} {P : Nat → Int} {D : Nat → Nat → Int} (hT : T ≤ 6) (hPD : w_PD T P D) {s p : Nat} (hs : s < 2 ^ T) (hp : p < T ∨ p = 6) {x0 : Int32} {g : Nat → Int32} (h0 : x0 = if s + 1 = 2 ^ T then iI (D p 6) else 1000000)
    (hg : ∀ t, t < T → (s.testBit t = true → g t = 1000000) ∧ (s.testBit t = false → g t = iI (- w_v P D (w_W true T P D) s p t))) : w_mf x0 g T = iI (- (w_W true T P D s p).1) := by
  have hF : (1000000 : Int32) = iI 1000000 := by decide
  rw [w_W_fix hs, w_go]
  by_cases ha : s + 1 = 2 ^ T
  · have hall := w_all ha
    have h6 := hPD.2 p 6 hp (.inr rfl)
    rw [if_pos ha] at h0
    have key : ∀ n, n ≤ T → w_mf x0 g n = iI (D p 6) ∧ w_fold P D (w_re true T s) (w_x0 true D p) (w_W true T P D) s p n = (w_x0 true D p, 0, 0) := by
      intro n
      induction n with
      | zero => exact fun _ => ⟨h0, rfl⟩
      | succ n ih =>
        intro hn
        obtain ⟨i1, i2⟩ := ih (by omega)
        refine ⟨?_, by rw [w_f_b (hall n (by omega))]; exact i2⟩
        rw [w_mf, i1, (hg n (by omega)).1 (hall n (by omega)), hF, s_le_iI (by omega) (by omega) (by omega) (by omega), Int.min_eq_left (by omega)]
    obtain ⟨k1, k2⟩ := key T (Nat.le_refl _)
    rw [k1, k2]
    show iI (D p 6) = iI (- (- D p 6))
    rw [Int.neg_neg]
  · rw [if_neg ha] at h0
    have hre : w_re true T s = false := by rw [w_re, decide_eq_false ha]; rfl
    rw [hre]
    have hm : ∀ t, t < T → s.testBit t = false → w_m (w_W true T P D) s t = w_cn T s := fun t ht hb => by
      have h1 := w_cn_or ht hb
      have h2 := w_N (P := P) (D := D) _ (s ||| 2 ^ t) (p := t) rfl (w_or_lt ht hs)
      show 1 + (w_W true T P D (s ||| 2 ^ t) t).2.1 = _
      omega
    have hx0 : - 5300 ≤ w_x0 true D p ∧ w_x0 true D p ≤ 5300 := by
      have := hPD.2 p 6 hp (.inr rfl)
      show - 5300 ≤ - D p 6 ∧ - D p 6 ≤ 5300
      omega
    have key : ∀ n, n ≤ T → w_mf x0 g n = iI (if (w_fold P D false (w_x0 true D p) (w_W true T P D) s p n).2.2 = 0 then 1000000 else - (w_fold P D false (w_x0 true D p) (w_W true T P D) s p n).1) := by
      intro n
      induction n with
      | zero => exact fun _ => h0.trans hF
      | succ n ih =>
        intro hn
        have ih := ih (by omega)
        obtain ⟨b1, b2, b3, b4⟩ := w_fold_ok (re := false) (tb := w_W true T P D) (s := s) (C := 5300) (N := 7) hT hPD hp hx0 (fun t ht hb => ⟨w_W_ok2 hT hPD (w_or_lt ht hs) (.inl ht), by decide⟩) n (by omega)
        rw [w_mf, ih]
        cases hb : s.testBit n
        · have hv := w_W_ok2 (wh := true) hT hPD (w_or_lt (show n < T by omega) hs) (p := n) (.inl (by omega))
          have hPn := hPD.1 n (by omega)
          have hDn := hPD.2 p n hp (.inl (by omega))
          have hvb : - 5300 ≤ w_v P D (w_W true T P D) s p n ∧ w_v P D (w_W true T P D) s p n ≤ 5300 := by
            obtain ⟨c1, c2, _, _⟩ := hv
            show - 5300 ≤ P n - D p n + (w_W true T P D (s ||| 2 ^ n) n).1 ∧ P n - D p n + (w_W true T P D (s ||| 2 ^ n) n).1 ≤ 5300
            omega
          rw [(hg n (by omega)).2 hb]
          by_cases hz : (w_fold P D false (w_x0 true D p) (w_W true T P D) s p n).2.2 = 0
          · rw [if_pos hz, w_f_y hb (.inr ⟨rfl, hz⟩), if_neg (Nat.succ_ne_zero n), s_le_iI (by omega) (by omega) (by omega) (by omega), Int.min_eq_right (by omega)]
          · rw [if_neg hz, s_le_iI (by omega) (by omega) (by omega) (by omega)]
            have hcn : (w_fold P D false (w_x0 true D p) (w_W true T P D) s p n).2.1 = w_cn T s := by
              rcases w_fold_in (P := P) (D := D) (re := false) (x0 := w_x0 true D p) (tb := w_W true T P D) (s := s) (p := p) n with e | ⟨t, h1, h2, e⟩
              · rw [e] at hz; exact absurd rfl hz
              · rw [e]; exact hm t (by omega) h2
            have hmn := hm n (by omega) hb
            by_cases hlt : (w_fold P D false (w_x0 true D p) (w_W true T P D) s p n).1 < w_v P D (w_W true T P D) s p n
            · rw [w_f_y hb (.inl (.inl hlt)), if_neg (Nat.succ_ne_zero n), Int.min_eq_right (by omega)]
            · rw [w_f_n hb (fun z => by
                rcases z with (z | z) | z
                · exact hlt z
                · omega
                · exact hz z.2), if_neg hz, Int.min_eq_left (by omega)]
        · rw [(hg n (by omega)).1 hb, w_f_b hb, hF]
          by_cases hz : (w_fold P D false (w_x0 true D p) (w_W true T P D) s p n).2.2 = 0
          · rw [if_pos hz, s_le_iI (by omega) (by omega) (by omega) (by omega)]; rfl
          · rw [if_neg hz, s_le_iI (by omega) (by omega) (by omega) (by omega), Int.min_eq_left (by omega)]
    rw [key T (Nat.le_refl _), if_neg]
    intro hz
    obtain ⟨t, ht, hb⟩ := w_not_all hs ha
    have := w_fold_none T hz t ht
    rw [this] at hb; exact absurd hb (by decide)
def w_tw (F : Nat → Nat) (a b : Nat) : Int32 := s_way (nI (w_x F a)) (nI (w_y F a)) (nI (w_x F b)) (nI (w_y F b))
theorem w_tw_D {F : Nat → Nat} (hW : f_W F) {a b : Nat} (ha : a < F 6 ∨ a = 6) (hb : b < F 6 ∨ b = 6) : w_tw F a b = iI (w_D true F a b) := by
  have h1 := w_xy_le hW ha
  have h2 := w_xy_le hW hb
  have h3 := w_fr_le hW ha hb
  have e : w_tw F a b = nI (w_fr F a b) := by
    unfold w_tw
    rw [s_way_nI (by omega) (by omega) (by omega) (by omega), ← s_ab (w_x F a) (w_x F b), ← s_ab (w_y F a) (w_y F b)]; rfl
  rw [e, iI_nI (by omega)]
  show iI (w_fr F a b) = iI (1 * (w_fr F a b : Int))
  rw [Int.one_mul]
section ROUNDM
variable (sc : Nat × (Nat → Int32)) (d : Nat) (μ : x_Me) (w : Int64)
set_option maxHeartbeats 2000000 in
theorem tX12_townWay (f : Nat) (F : Nat → Nat) (hf2 : f < 2) (h22 : μ 152 22 = nI f) (hF : ∀ i, i < 125 → μ 158 (125 * f + i) = nI (F i)) (a b : Nat) (ha : a < 7) (hb : b < 7) : x_K sc (d + 1) mX12_townWay [.ref 152, .int (nI a), .int (nI b)] μ w (x_p (some (.int (w_tw F a b))) μ w) := by
  refine x_K.of (by decide) (Nat.le_of_ble_eq_true rfl) ?_
  show x_T sc (d + 1) mX12_townWay 0 [.ref 152, .int (nI a), .int (nI b), .retAddr 0, .retAddr 0, .retAddr 0, .retAddr 0] [] μ w _
  by_cases ha6 : a = 6
  · by_cases hb6 : b = 6
    · skip
      refine xt_iload_n _ dX12_townWay_0 rfl ?_
      refine xt_bipush (6) dX12_townWay_1 (by decide) ?_
      refine xt_icmp_ne 14 dX12_townWay_3 (by decide) (fun q => absurd (by rw [ha6]; rfl) q) (fun _ => ?_)
      refine xt_aload_n _ dX12_townWay_6 rfl ?_
      refine xt_iconst (0) dX12_townWay_7 (by decide) ?_
      refine xt_cV _ dX12_townWay_8 klX12_244 (tX12_of sc _ μ _ f 0 (by omega) (by omega) h22) sh152 rfl rfl (Nat.le_of_ble_eq_true rfl) ?_
      rw [hF 0 (by omega)]
      refine xt_goto 22 dX12_townWay_11 (by decide) ?_
      refine xt_istore_n dX12_townWay_22 (by decide) rfl ?_
      change x_T _ _ _ _ [_, _, _, _, _, _, _] _ _ _ _
      refine xt_iload_n _ dX12_townWay_23 rfl ?_
      refine xt_bipush (6) dX12_townWay_24 (by decide) ?_
      refine xt_icmp_ne 37 dX12_townWay_26 (by decide) (fun q => absurd (by rw [ha6]; rfl) q) (fun _ => ?_)
      refine xt_aload_n _ dX12_townWay_29 rfl ?_
      refine xt_iconst (1) dX12_townWay_30 (by decide) ?_
      refine xt_cV _ dX12_townWay_31 klX12_244 (tX12_of sc _ μ _ f 1 (by omega) (by omega) h22) sh152 rfl rfl (Nat.le_of_ble_eq_true rfl) ?_
      rw [hF 1 (by omega)]
      refine xt_goto 45 dX12_townWay_34 (by decide) ?_
      refine xt_istore dX12_townWay_45 (by decide) rfl ?_
      change x_T _ _ _ _ [_, _, _, _, _, _, _] _ _ _ _
      refine xt_iload_n _ dX12_townWay_47 rfl ?_
      refine xt_bipush (6) dX12_townWay_48 (by decide) ?_
      refine xt_icmp_ne 61 dX12_townWay_50 (by decide) (fun q => absurd (by rw [hb6]; rfl) q) (fun _ => ?_)
      refine xt_aload_n _ dX12_townWay_53 rfl ?_
      refine xt_iconst (0) dX12_townWay_54 (by decide) ?_
      refine xt_cV _ dX12_townWay_55 klX12_244 (tX12_of sc _ μ _ f 0 (by omega) (by omega) h22) sh152 rfl rfl (Nat.le_of_ble_eq_true rfl) ?_
      rw [hF 0 (by omega)]
      refine xt_goto 69 dX12_townWay_58 (by decide) ?_
      refine xt_istore dX12_townWay_69 (by decide) rfl ?_
      change x_T _ _ _ _ [_, _, _, _, _, _, _] _ _ _ _
      refine xt_iload_n _ dX12_townWay_71 rfl ?_
      refine xt_bipush (6) dX12_townWay_72 (by decide) ?_
      refine xt_icmp_ne 85 dX12_townWay_74 (by decide) (fun q => absurd (by rw [hb6]; rfl) q) (fun _ => ?_)
      refine xt_aload_n _ dX12_townWay_77 rfl ?_
      refine xt_iconst (1) dX12_townWay_78 (by decide) ?_
      refine xt_cV _ dX12_townWay_79 klX12_244 (tX12_of sc _ μ _ f 1 (by omega) (by omega) h22) sh152 rfl rfl (Nat.le_of_ble_eq_true rfl) ?_
      rw [hF 1 (by omega)]
      refine xt_goto 93 dX12_townWay_82 (by decide) ?_
      refine xt_istore dX12_townWay_93 (by decide) rfl ?_
      change x_T _ _ _ _ [_, _, _, _, _, _, _] _ _ _ _
      refine xt_iload_n _ dX12_townWay_95 rfl ?_
      refine xt_iload _ dX12_townWay_96 rfl ?_
      refine xt_iload _ dX12_townWay_98 rfl ?_
      refine xt_iload _ dX12_townWay_100 rfl ?_
      refine xt_cS _ dX12_townWay_102 klX12_290 (tX12_way sc _ μ _ _ _ _ _) rfl rfl (Nat.le_of_ble_eq_true rfl) ?_
      exact xt_iret .int dX12_townWay_105 rfl (by first | rfl | assumption) ⟨by unfold w_tw w_x w_y; rw [if_pos ha6, if_pos ha6, if_pos hb6, if_pos hb6], rfl, rfl⟩
    · skip
      refine xt_iload_n _ dX12_townWay_0 rfl ?_
      refine xt_bipush (6) dX12_townWay_1 (by decide) ?_
      refine xt_icmp_ne 14 dX12_townWay_3 (by decide) (fun q => absurd (by rw [ha6]; rfl) q) (fun _ => ?_)
      refine xt_aload_n _ dX12_townWay_6 rfl ?_
      refine xt_iconst (0) dX12_townWay_7 (by decide) ?_
      refine xt_cV _ dX12_townWay_8 klX12_244 (tX12_of sc _ μ _ f 0 (by omega) (by omega) h22) sh152 rfl rfl (Nat.le_of_ble_eq_true rfl) ?_
      rw [hF 0 (by omega)]
      refine xt_goto 22 dX12_townWay_11 (by decide) ?_
      refine xt_istore_n dX12_townWay_22 (by decide) rfl ?_
      change x_T _ _ _ _ [_, _, _, _, _, _, _] _ _ _ _
      refine xt_iload_n _ dX12_townWay_23 rfl ?_
      refine xt_bipush (6) dX12_townWay_24 (by decide) ?_
      refine xt_icmp_ne 37 dX12_townWay_26 (by decide) (fun q => absurd (by rw [ha6]; rfl) q) (fun _ => ?_)
      refine xt_aload_n _ dX12_townWay_29 rfl ?_
      refine xt_iconst (1) dX12_townWay_30 (by decide) ?_
      refine xt_cV _ dX12_townWay_31 klX12_244 (tX12_of sc _ μ _ f 1 (by omega) (by omega) h22) sh152 rfl rfl (Nat.le_of_ble_eq_true rfl) ?_
      rw [hF 1 (by omega)]
      refine xt_goto 45 dX12_townWay_34 (by decide) ?_
      refine xt_istore dX12_townWay_45 (by decide) rfl ?_
      change x_T _ _ _ _ [_, _, _, _, _, _, _] _ _ _ _
      refine xt_iload_n _ dX12_townWay_47 rfl ?_
      refine xt_bipush (6) dX12_townWay_48 (by decide) ?_
      refine xt_icmp_ne 61 dX12_townWay_50 (by decide) (fun _ => ?_) (fun q => absurd q (fun z => hb6 ((nI_eq (b := 6) (by omega) (by decide)).mp z)))
      refine xt_aload_n _ dX12_townWay_61 rfl ?_
      refine xt_bipush (101) dX12_townWay_62 (by decide) ?_
      refine xt_iload_n _ dX12_townWay_64 rfl ?_
      refine xt_iadd dX12_townWay_65 ?_
      rw [show (101 : Int32) + nI b = nI (101 + b) from nI_add 101 b]
      refine xt_cV _ dX12_townWay_66 klX12_244 (tX12_of sc _ μ _ f (101 + b) (by omega) (by omega) h22) sh152 rfl rfl (Nat.le_of_ble_eq_true rfl) ?_
      rw [hF (101 + b) (by omega)]
      refine xt_istore dX12_townWay_69 (by decide) rfl ?_
      change x_T _ _ _ _ [_, _, _, _, _, _, _] _ _ _ _
      refine xt_iload_n _ dX12_townWay_71 rfl ?_
      refine xt_bipush (6) dX12_townWay_72 (by decide) ?_
      refine xt_icmp_ne 85 dX12_townWay_74 (by decide) (fun _ => ?_) (fun q => absurd q (fun z => hb6 ((nI_eq (b := 6) (by omega) (by decide)).mp z)))
      refine xt_aload_n _ dX12_townWay_85 rfl ?_
      refine xt_bipush (107) dX12_townWay_86 (by decide) ?_
      refine xt_iload_n _ dX12_townWay_88 rfl ?_
      refine xt_iadd dX12_townWay_89 ?_
      rw [show (107 : Int32) + nI b = nI (107 + b) from nI_add 107 b]
      refine xt_cV _ dX12_townWay_90 klX12_244 (tX12_of sc _ μ _ f (107 + b) (by omega) (by omega) h22) sh152 rfl rfl (Nat.le_of_ble_eq_true rfl) ?_
      rw [hF (107 + b) (by omega)]
      refine xt_istore dX12_townWay_93 (by decide) rfl ?_
      change x_T _ _ _ _ [_, _, _, _, _, _, _] _ _ _ _
      refine xt_iload_n _ dX12_townWay_95 rfl ?_
      refine xt_iload _ dX12_townWay_96 rfl ?_
      refine xt_iload _ dX12_townWay_98 rfl ?_
      refine xt_iload _ dX12_townWay_100 rfl ?_
      refine xt_cS _ dX12_townWay_102 klX12_290 (tX12_way sc _ μ _ _ _ _ _) rfl rfl (Nat.le_of_ble_eq_true rfl) ?_
      exact xt_iret .int dX12_townWay_105 rfl (by first | rfl | assumption) ⟨by unfold w_tw w_x w_y; rw [if_pos ha6, if_pos ha6, if_neg hb6, if_neg hb6], rfl, rfl⟩
  · by_cases hb6 : b = 6
    · skip
      refine xt_iload_n _ dX12_townWay_0 rfl ?_
      refine xt_bipush (6) dX12_townWay_1 (by decide) ?_
      refine xt_icmp_ne 14 dX12_townWay_3 (by decide) (fun _ => ?_) (fun q => absurd q (fun z => ha6 ((nI_eq (b := 6) (by omega) (by decide)).mp z)))
      refine xt_aload_n _ dX12_townWay_14 rfl ?_
      refine xt_bipush (101) dX12_townWay_15 (by decide) ?_
      refine xt_iload_n _ dX12_townWay_17 rfl ?_
      refine xt_iadd dX12_townWay_18 ?_
      rw [show (101 : Int32) + nI a = nI (101 + a) from nI_add 101 a]
      refine xt_cV _ dX12_townWay_19 klX12_244 (tX12_of sc _ μ _ f (101 + a) (by omega) (by omega) h22) sh152 rfl rfl (Nat.le_of_ble_eq_true rfl) ?_
      rw [hF (101 + a) (by omega)]
      refine xt_istore_n dX12_townWay_22 (by decide) rfl ?_
      change x_T _ _ _ _ [_, _, _, _, _, _, _] _ _ _ _
      refine xt_iload_n _ dX12_townWay_23 rfl ?_
      refine xt_bipush (6) dX12_townWay_24 (by decide) ?_
      refine xt_icmp_ne 37 dX12_townWay_26 (by decide) (fun _ => ?_) (fun q => absurd q (fun z => ha6 ((nI_eq (b := 6) (by omega) (by decide)).mp z)))
      refine xt_aload_n _ dX12_townWay_37 rfl ?_
      refine xt_bipush (107) dX12_townWay_38 (by decide) ?_
      refine xt_iload_n _ dX12_townWay_40 rfl ?_
      refine xt_iadd dX12_townWay_41 ?_
      rw [show (107 : Int32) + nI a = nI (107 + a) from nI_add 107 a]
      refine xt_cV _ dX12_townWay_42 klX12_244 (tX12_of sc _ μ _ f (107 + a) (by omega) (by omega) h22) sh152 rfl rfl (Nat.le_of_ble_eq_true rfl) ?_
      rw [hF (107 + a) (by omega)]
      refine xt_istore dX12_townWay_45 (by decide) rfl ?_
      change x_T _ _ _ _ [_, _, _, _, _, _, _] _ _ _ _
      refine xt_iload_n _ dX12_townWay_47 rfl ?_
      refine xt_bipush (6) dX12_townWay_48 (by decide) ?_
      refine xt_icmp_ne 61 dX12_townWay_50 (by decide) (fun q => absurd (by rw [hb6]; rfl) q) (fun _ => ?_)
      refine xt_aload_n _ dX12_townWay_53 rfl ?_
      refine xt_iconst (0) dX12_townWay_54 (by decide) ?_
      refine xt_cV _ dX12_townWay_55 klX12_244 (tX12_of sc _ μ _ f 0 (by omega) (by omega) h22) sh152 rfl rfl (Nat.le_of_ble_eq_true rfl) ?_
      rw [hF 0 (by omega)]
      refine xt_goto 69 dX12_townWay_58 (by decide) ?_
      refine xt_istore dX12_townWay_69 (by decide) rfl ?_
      change x_T _ _ _ _ [_, _, _, _, _, _, _] _ _ _ _
      refine xt_iload_n _ dX12_townWay_71 rfl ?_
      refine xt_bipush (6) dX12_townWay_72 (by decide) ?_
      refine xt_icmp_ne 85 dX12_townWay_74 (by decide) (fun q => absurd (by rw [hb6]; rfl) q) (fun _ => ?_)
      refine xt_aload_n _ dX12_townWay_77 rfl ?_
      refine xt_iconst (1) dX12_townWay_78 (by decide) ?_
      refine xt_cV _ dX12_townWay_79 klX12_244 (tX12_of sc _ μ _ f 1 (by omega) (by omega) h22) sh152 rfl rfl (Nat.le_of_ble_eq_true rfl) ?_
      rw [hF 1 (by omega)]
      refine xt_goto 93 dX12_townWay_82 (by decide) ?_
      refine xt_istore dX12_townWay_93 (by decide) rfl ?_
      change x_T _ _ _ _ [_, _, _, _, _, _, _] _ _ _ _
      refine xt_iload_n _ dX12_townWay_95 rfl ?_
      refine xt_iload _ dX12_townWay_96 rfl ?_
      refine xt_iload _ dX12_townWay_98 rfl ?_
      refine xt_iload _ dX12_townWay_100 rfl ?_
      refine xt_cS _ dX12_townWay_102 klX12_290 (tX12_way sc _ μ _ _ _ _ _) rfl rfl (Nat.le_of_ble_eq_true rfl) ?_
      exact xt_iret .int dX12_townWay_105 rfl (by first | rfl | assumption) ⟨by unfold w_tw w_x w_y; rw [if_neg ha6, if_neg ha6, if_pos hb6, if_pos hb6], rfl, rfl⟩
    · skip
      refine xt_iload_n _ dX12_townWay_0 rfl ?_
      refine xt_bipush (6) dX12_townWay_1 (by decide) ?_
      refine xt_icmp_ne 14 dX12_townWay_3 (by decide) (fun _ => ?_) (fun q => absurd q (fun z => ha6 ((nI_eq (b := 6) (by omega) (by decide)).mp z)))
      refine xt_aload_n _ dX12_townWay_14 rfl ?_
      refine xt_bipush (101) dX12_townWay_15 (by decide) ?_
      refine xt_iload_n _ dX12_townWay_17 rfl ?_
      refine xt_iadd dX12_townWay_18 ?_
      rw [show (101 : Int32) + nI a = nI (101 + a) from nI_add 101 a]
      refine xt_cV _ dX12_townWay_19 klX12_244 (tX12_of sc _ μ _ f (101 + a) (by omega) (by omega) h22) sh152 rfl rfl (Nat.le_of_ble_eq_true rfl) ?_
      rw [hF (101 + a) (by omega)]
      refine xt_istore_n dX12_townWay_22 (by decide) rfl ?_
      change x_T _ _ _ _ [_, _, _, _, _, _, _] _ _ _ _
      refine xt_iload_n _ dX12_townWay_23 rfl ?_
      refine xt_bipush (6) dX12_townWay_24 (by decide) ?_
      refine xt_icmp_ne 37 dX12_townWay_26 (by decide) (fun _ => ?_) (fun q => absurd q (fun z => ha6 ((nI_eq (b := 6) (by omega) (by decide)).mp z)))
      refine xt_aload_n _ dX12_townWay_37 rfl ?_
      refine xt_bipush (107) dX12_townWay_38 (by decide) ?_
      refine xt_iload_n _ dX12_townWay_40 rfl ?_
      refine xt_iadd dX12_townWay_41 ?_
      rw [show (107 : Int32) + nI a = nI (107 + a) from nI_add 107 a]
      refine xt_cV _ dX12_townWay_42 klX12_244 (tX12_of sc _ μ _ f (107 + a) (by omega) (by omega) h22) sh152 rfl rfl (Nat.le_of_ble_eq_true rfl) ?_
      rw [hF (107 + a) (by omega)]
      refine xt_istore dX12_townWay_45 (by decide) rfl ?_
      change x_T _ _ _ _ [_, _, _, _, _, _, _] _ _ _ _
      refine xt_iload_n _ dX12_townWay_47 rfl ?_
      refine xt_bipush (6) dX12_townWay_48 (by decide) ?_
      refine xt_icmp_ne 61 dX12_townWay_50 (by decide) (fun _ => ?_) (fun q => absurd q (fun z => hb6 ((nI_eq (b := 6) (by omega) (by decide)).mp z)))
      refine xt_aload_n _ dX12_townWay_61 rfl ?_
      refine xt_bipush (101) dX12_townWay_62 (by decide) ?_
      refine xt_iload_n _ dX12_townWay_64 rfl ?_
      refine xt_iadd dX12_townWay_65 ?_
      rw [show (101 : Int32) + nI b = nI (101 + b) from nI_add 101 b]
      refine xt_cV _ dX12_townWay_66 klX12_244 (tX12_of sc _ μ _ f (101 + b) (by omega) (by omega) h22) sh152 rfl rfl (Nat.le_of_ble_eq_true rfl) ?_
      rw [hF (101 + b) (by omega)]
      refine xt_istore dX12_townWay_69 (by decide) rfl ?_
      change x_T _ _ _ _ [_, _, _, _, _, _, _] _ _ _ _
      refine xt_iload_n _ dX12_townWay_71 rfl ?_
      refine xt_bipush (6) dX12_townWay_72 (by decide) ?_
      refine xt_icmp_ne 85 dX12_townWay_74 (by decide) (fun _ => ?_) (fun q => absurd q (fun z => hb6 ((nI_eq (b := 6) (by omega) (by decide)).mp z)))
      refine xt_aload_n _ dX12_townWay_85 rfl ?_
      refine xt_bipush (107) dX12_townWay_86 (by decide) ?_
      refine xt_iload_n _ dX12_townWay_88 rfl ?_
      refine xt_iadd dX12_townWay_89 ?_
      rw [show (107 : Int32) + nI b = nI (107 + b) from nI_add 107 b]
      refine xt_cV _ dX12_townWay_90 klX12_244 (tX12_of sc _ μ _ f (107 + b) (by omega) (by omega) h22) sh152 rfl rfl (Nat.le_of_ble_eq_true rfl) ?_
      rw [hF (107 + b) (by omega)]
      refine xt_istore dX12_townWay_93 (by decide) rfl ?_
      change x_T _ _ _ _ [_, _, _, _, _, _, _] _ _ _ _
      refine xt_iload_n _ dX12_townWay_95 rfl ?_
      refine xt_iload _ dX12_townWay_96 rfl ?_
      refine xt_iload _ dX12_townWay_98 rfl ?_
      refine xt_iload _ dX12_townWay_100 rfl ?_
      refine xt_cS _ dX12_townWay_102 klX12_290 (tX12_way sc _ μ _ _ _ _ _) rfl rfl (Nat.le_of_ble_eq_true rfl) ?_
      exact xt_iret .int dX12_townWay_105 rfl (by first | rfl | assumption) ⟨by unfold w_tw w_x w_y; rw [if_neg ha6, if_neg ha6, if_neg hb6, if_neg hb6], rfl, rfl⟩
set_option maxHeartbeats 1000000 in
theorem tX12_roundBy (f : Nat) (F : Nat → Nat) (hf2 : f < 2) (h22 : μ 152 22 = nI f) (hF : ∀ i, i < 125 → μ 158 (125 * f + i) = nI (F i)) (s a t : Nat) (hs : s < 64) (ha : a < 7) (ht : t < 6) : x_K sc (d + 2) mX12_roundBy [.ref 152, .int (nI s), .int (nI a), .int (nI t)] μ w (x_p (some (.int (if s.testBit t then 1000000 else w_tw F a t + μ 167 (64 * t + (s ||| 2 ^ t))))) μ w) := by
  have hor : s ||| 2 ^ t < 2 ^ 6 := w_or_lt ht hs
  refine x_K.of (by decide) (Nat.le_of_ble_eq_true rfl) ?_
  show x_T sc (d + 2) mX12_roundBy 0 [.ref 152, .int (nI s), .int (nI a), .int (nI t)] [] μ w _
  refine xt_iload_n _ dX12_roundBy_0 rfl ?_
  refine xt_iload_n _ dX12_roundBy_1 rfl ?_
  refine xt_cS _ dX12_roundBy_2 klX12_76 (tX12_has sc _ μ _ _ _) rfl rfl (Nat.le_of_ble_eq_true rfl) ?_
  rw [s_has_nI s (by omega) t (by omega)]
  refine xt_if_eq 14 dX12_roundBy_5 (by decide) (fun t5 => ?_) (fun f5 => ?_)
  · refine xt_aload_n _ dX12_roundBy_14 rfl ?_
    refine xt_iload_n _ dX12_roundBy_15 rfl ?_
    refine xt_iload_n _ dX12_roundBy_16 rfl ?_
    refine xt_cV _ dX12_roundBy_17 klX12_387 (tX12_townWay sc _ μ w f F hf2 h22 hF a t ha (by omega)) sh152 rfl rfl (Nat.le_of_ble_eq_true rfl) ?_
    refine xt_aload_n _ dX12_roundBy_20 rfl ?_
    refine xt_getr _ dX12_roundBy_21 kfX12_53 (by first | exact sh152 | rfl | assumption) rfl ?_
    have hix : (64 : Int32) * nI t + (nI s ||| ((1 : Int32) <<< (nI t &&& 31))) = nI (64 * t + (s ||| 2 ^ t)) := by rw [x_1sh (by omega), nI_or, show (64 : Int32) = nI 64 from rfl, pk_mul, nI_add]
    refine xt_bipush (64) dX12_roundBy_24 (by decide) ?_
    refine xt_iload_n _ dX12_roundBy_26 rfl ?_
    refine xt_imul dX12_roundBy_27 ?_
    refine xt_iload_n _ dX12_roundBy_28 rfl ?_
    refine xt_iconst (1) dX12_roundBy_29 (by decide) ?_
    refine xt_iload_n _ dX12_roundBy_30 rfl ?_
    refine xt_ishl dX12_roundBy_31 ?_
    refine xt_ior dX12_roundBy_32 ?_
    refine xt_iadd dX12_roundBy_33 ?_
    refine xt_ald dX12_roundBy_34 (by first | exact sh152 | rfl | assumption) (by rw [hix]; exact vp_in_nI (by omega) (by decide)) ?_
    refine xt_iadd dX12_roundBy_35 ?_
    exact xt_iret .int dX12_roundBy_36 rfl (by first | rfl | assumption) ⟨by rw [s_if0 t5, hix, nI_clamp (by omega)]; rfl, rfl, rfl⟩
  · refine xt_ldcw _ dX12_roundBy_8 kkX12_353 ?_
    refine xt_goto 36 dX12_roundBy_11 (by decide) ?_
    exact xt_iret .int dX12_roundBy_36 rfl (by first | rfl | assumption) ⟨by rw [s_if1 f5]; rfl, rfl, rfl⟩
end ROUNDM
