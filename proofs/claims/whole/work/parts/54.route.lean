/-! the step of route -/
def w_gf (g : Nat → Int32) : Nat → Int32
  | 0 => 0
  | n + 1 => s_gr (w_gf g n) (g n)
theorem s_gr_iI {a b : Int} (h1 : -1000000000 ≤ a) (h2 : a ≤ 1000000000) (h3 : -1000000000 ≤ b) (h4 : b ≤ 1000000000) : s_gr (iI a) (iI b) = iI (max a b) := by
  unfold s_gr
  have e : (iI a ≤ iI b) ↔ a ≤ b := by rw [Int32.le_iff_toInt_le, iI_toInt h1 h2, iI_toInt h3 h4]
  by_cases h : a ≤ b
  · rw [if_pos (e.mpr h), Int.max_eq_right h]
  · rw [if_neg (fun z => h (e.mp z)), Int.max_eq_left (by omega)]
abbrev w_k (x : w_X) : Int := 8 * x.1 - (x.2.1 : Int)
theorem w_rte {T : Nat} {P : Nat → Int} {D : Nat → Nat → Int} (hT : T ≤ 6) (hPD : w_PD T P D) {s p : Nat} (hs : s < 2 ^ T) (hp : p < T ∨ p = 6) {g : Nat → Int32}
    (hg : ∀ t, t < T → (s.testBit t = true → g t = -1000000) ∧ (s.testBit t = false → g t = iI (8 * w_v P D (w_W false T P D) s p t - (w_m (w_W false T P D) s t : Int)))) : w_gf g T = iI (w_k (w_W false T P D s p)) ∧ 0 ≤ w_k (w_W false T P D s p) ∧ ((w_W false T P D s p).2.2 ≠ 0 → 0 < w_k (w_W false T P D s p)) := by
  have hF : (-1000000 : Int32) = iI (-1000000) := by decide
  have e0 : w_W false T P D s p = w_fold P D true 0 (w_W false T P D) s p T := by rw [w_W_fix hs]; rfl
  have key : ∀ n, n ≤ T → w_gf g n = iI (w_k (w_fold P D true 0 (w_W false T P D) s p n)) ∧ 0 ≤ w_k (w_fold P D true 0 (w_W false T P D) s p n) ∧ ((w_fold P D true 0 (w_W false T P D) s p n).2.2 ≠ 0 → 0 < w_k (w_fold P D true 0 (w_W false T P D) s p n)) := by
    intro n
    induction n with
    | zero => exact fun _ => ⟨rfl, Int.le_refl 0, fun z => absurd rfl z⟩
    | succ n ih =>
      intro hn
      obtain ⟨i1, i2, i3⟩ := ih (by omega)
      obtain ⟨b1, b2, b3, b4⟩ := w_fold_ok (re := true) (x0 := 0) (tb := w_W false T P D) (s := s) (C := 5300) (N := 7) hT hPD hp (by omega) (fun t ht hb => ⟨w_W_ok2 hT hPD (w_or_lt ht hs) (.inl ht), by decide⟩) n (by omega)
      have ik : w_k (w_fold P D true 0 (w_W false T P D) s p n) = 8 * (w_fold P D true 0 (w_W false T P D) s p n).1 - ((w_fold P D true 0 (w_W false T P D) s p n).2.1 : Int) := rfl
      rw [w_gf, i1]
      cases hb : s.testBit n
      · have hv := w_W_ok2 (wh := false) hT hPD (w_or_lt (show n < T by omega) hs) (p := n) (.inl (by omega))
        have hPn := hPD.1 n (by omega)
        have hDn := hPD.2 p n hp (.inl (by omega))
        have hvb : - 5300 ≤ w_v P D (w_W false T P D) s p n ∧ w_v P D (w_W false T P D) s p n ≤ 5300 ∧ w_m (w_W false T P D) s n ≤ 7 := by
          obtain ⟨c1, c2, c3, _⟩ := hv
          show - 5300 ≤ P n - D p n + (w_W false T P D (s ||| 2 ^ n) n).1 ∧ P n - D p n + (w_W false T P D (s ||| 2 ^ n) n).1 ≤ 5300 ∧ 1 + (w_W false T P D (s ||| 2 ^ n) n).2.1 ≤ 7
          omega
        rw [(hg n (by omega)).2 hb]
        by_cases hc : ((w_fold P D true 0 (w_W false T P D) s p n).1 < w_v P D (w_W false T P D) s p n ∨ (w_v P D (w_W false T P D) s p n = (w_fold P D true 0 (w_W false T P D) s p n).1 ∧ w_m (w_W false T P D) s n < (w_fold P D true 0 (w_W false T P D) s p n).2.1)) ∨ (true = false ∧ (w_fold P D true 0 (w_W false T P D) s p n).2.2 = 0)
        · rw [w_f_y hb hc]
          have hk : w_k (w_v P D (w_W false T P D) s p n, w_m (w_W false T P D) s n, n + 1) = 8 * w_v P D (w_W false T P D) s p n - (w_m (w_W false T P D) s n : Int) := rfl
          have hc2 : (w_fold P D true 0 (w_W false T P D) s p n).1 < w_v P D (w_W false T P D) s p n ∨ (w_v P D (w_W false T P D) s p n = (w_fold P D true 0 (w_W false T P D) s p n).1 ∧ w_m (w_W false T P D) s n < (w_fold P D true 0 (w_W false T P D) s p n).2.1) := by
            rcases hc with hc | hc
            · exact hc
            · exact absurd hc.1 (by decide)
          rw [hk, ik]
          rw [ik] at i2
          have hlt : 8 * (w_fold P D true 0 (w_W false T P D) s p n).1 - ((w_fold P D true 0 (w_W false T P D) s p n).2.1 : Int) < 8 * w_v P D (w_W false T P D) s p n - (w_m (w_W false T P D) s n : Int) := by omega
          refine ⟨?_, by omega, fun _ => by omega⟩
          rw [s_gr_iI (by omega) (by omega) (by omega) (by omega), Int.max_eq_right (by omega)]
        · rw [w_f_n hb hc]
          refine ⟨?_, i2, i3⟩
          have hge : 8 * w_v P D (w_W false T P D) s p n - (w_m (w_W false T P D) s n : Int) ≤ 8 * (w_fold P D true 0 (w_W false T P D) s p n).1 - ((w_fold P D true 0 (w_W false T P D) s p n).2.1 : Int) := by
            have hc1 : ¬ ((w_fold P D true 0 (w_W false T P D) s p n).1 < w_v P D (w_W false T P D) s p n) := fun z => hc (.inl (.inl z))
            have hc2 : ¬ (w_v P D (w_W false T P D) s p n = (w_fold P D true 0 (w_W false T P D) s p n).1 ∧ w_m (w_W false T P D) s n < (w_fold P D true 0 (w_W false T P D) s p n).2.1) := fun z => hc (.inl (.inr z))
            omega
          rw [ik, s_gr_iI (by omega) (by omega) (by omega) (by omega), Int.max_eq_left hge]
      · rw [w_f_b hb]
        refine ⟨?_, i2, i3⟩
        rw [(hg n (by omega)).1 hb, hF, ik, s_gr_iI (by omega) (by omega) (by omega) (by omega), Int.max_eq_left (by omega)]
  rw [e0]
  exact key T (Nat.le_refl _)
/-- the first that is best -/
theorem w_pickR {T : Nat} {P : Nat → Int} {D : Nat → Nat → Int} (hT : T ≤ 6) (hPD : w_PD T P D) {s p t : Nat} (hs : s < 2 ^ T) (hp : p < T ∨ p = 6) (h : (w_W false T P D s p).2.2 = t + 1) : s.testBit t = false ∧ t < T ∧ w_k (w_W false T P D s p) = 8 * w_v P D (w_W false T P D) s p t - (w_m (w_W false T P D) s t : Int) ∧ ∀ e, e < t → s.testBit e = false → 8 * w_v P D (w_W false T P D) s p e - (w_m (w_W false T P D) s e : Int) < w_k (w_W false T P D s p) := by
  obtain ⟨o1, o2, o3, _⟩ := w_W_ok2 (wh := false) hT hPD hs hp
  rcases w_W_in (wh := false) (P := P) (D := D) (p := p) hs with e | ⟨u, hu, hb, e⟩
  · rw [e] at h; exact absurd h (Nat.zero_ne_add_one t)
  · have hut : u = t := by
      rw [e] at h
      have : u + 1 = t + 1 := h
      omega
    rw [hut] at e hb hu
    refine ⟨hb, hu, by rw [e], fun x hx hbx => ?_⟩
    have h1 : x + 1 < (w_W false T P D s p).2.2 := by rw [h]; omega
    obtain ⟨c1, c2, c3, _⟩ := w_W_ok2 (wh := false) hT hPD (w_or_lt (show x < T by omega) hs) (p := x) (.inl (by omega))
    have h5 : w_m (w_W false T P D) s x = 1 + (w_W false T P D (s ||| 2 ^ x) x).2.1 := rfl
    have ik : w_k (w_W false T P D s p) = 8 * (w_W false T P D s p).1 - ((w_W false T P D s p).2.1 : Int) := rfl
    have h2 : w_v P D (w_W false T P D) s p x < (w_W false T P D s p).1 ∨ (w_v P D (w_W false T P D) s p x = (w_W false T P D s p).1 ∧ (w_W false T P D s p).2.1 < w_m (w_W false T P D) s x) := by
      rw [w_W_fix hs] at h1 ⊢
      exact w_fst (P := P) (D := D) T x h1 hbx
    rw [ik]
    omega
section ROUTEM
variable (sc : Nat × (Nat → Int32)) (d : Nat) (μ : x_Me) (w : Int64)
set_option maxHeartbeats 1000000 in
theorem tX12_scoreBy (f : Nat) (F : Nat → Nat) (hf2 : f < 2) (h22 : μ 152 22 = nI f) (hF : ∀ i, i < 125 → μ 158 (125 * f + i) = nI (F i)) (s a t : Nat) (hs : s < 64) (ha : a < 7) (ht : t < 6) : x_K sc (d + 2) mX12_scoreBy [.ref 152, .int (nI s), .int (nI a), .int (nI t)] μ w (x_p (some (.int (if s.testBit t then -1000000 else (8 : Int32) * (nI (F (113 + t)) * nI (F (119 + t)) - 10 * w_tw F a t) - 1 + μ 167 (64 * t + (s ||| 2 ^ t))))) μ w) := by
  have hor : s ||| 2 ^ t < 2 ^ 6 := w_or_lt ht hs
  refine x_K.of (by decide) (Nat.le_of_ble_eq_true rfl) ?_
  show x_T sc (d + 2) mX12_scoreBy 0 [.ref 152, .int (nI s), .int (nI a), .int (nI t), .retAddr 0] [] μ w _
  refine xt_iload_n _ dX12_scoreBy_0 rfl ?_
  refine xt_iload_n _ dX12_scoreBy_1 rfl ?_
  refine xt_cS _ dX12_scoreBy_2 klX12_76 (tX12_has sc _ μ _ _ _) rfl rfl (Nat.le_of_ble_eq_true rfl) ?_
  rw [s_has_nI s (by omega) t (by omega)]
  refine xt_if_eq 12 dX12_scoreBy_5 (by decide) (fun t5 => ?_) (fun f5 => ?_)
  · refine xt_aload_n _ dX12_scoreBy_12 rfl ?_
    refine xt_bipush (113) dX12_scoreBy_13 (by decide) ?_
    refine xt_iload_n _ dX12_scoreBy_15 rfl ?_
    refine xt_iadd dX12_scoreBy_16 ?_
    rw [show (113 : Int32) + nI t = nI (113 + t) from nI_add 113 t]
    refine xt_cV _ dX12_scoreBy_17 klX12_244 (tX12_of sc _ μ _ f (113 + t) (by omega) (by omega) h22) sh152 rfl rfl (Nat.le_of_ble_eq_true rfl) ?_
    rw [hF (113 + t) (by omega)]
    refine xt_aload_n _ dX12_scoreBy_20 rfl ?_
    refine xt_bipush (119) dX12_scoreBy_21 (by decide) ?_
    refine xt_iload_n _ dX12_scoreBy_23 rfl ?_
    refine xt_iadd dX12_scoreBy_24 ?_
    rw [show (119 : Int32) + nI t = nI (119 + t) from nI_add 119 t]
    refine xt_cV _ dX12_scoreBy_25 klX12_244 (tX12_of sc _ μ _ f (119 + t) (by omega) (by omega) h22) sh152 rfl rfl (Nat.le_of_ble_eq_true rfl) ?_
    rw [hF (119 + t) (by omega)]
    refine xt_imul dX12_scoreBy_28 ?_
    refine xt_bipush (10) dX12_scoreBy_29 (by decide) ?_
    refine xt_aload_n _ dX12_scoreBy_31 rfl ?_
    refine xt_iload_n _ dX12_scoreBy_32 rfl ?_
    refine xt_iload_n _ dX12_scoreBy_33 rfl ?_
    refine xt_cV _ dX12_scoreBy_34 klX12_387 (tX12_townWay sc _ μ w f F hf2 h22 hF a t ha (by omega)) sh152 rfl rfl (Nat.le_of_ble_eq_true rfl) ?_
    refine xt_imul dX12_scoreBy_37 ?_
    refine xt_isub dX12_scoreBy_38 ?_
    refine xt_istore dX12_scoreBy_39 (by decide) rfl ?_
    change x_T _ _ _ _ [_, _, _, _, _] _ _ _ _
    refine xt_bipush (8) dX12_scoreBy_41 (by decide) ?_
    refine xt_iload _ dX12_scoreBy_43 rfl ?_
    refine xt_imul dX12_scoreBy_45 ?_
    refine xt_iconst (1) dX12_scoreBy_46 (by decide) ?_
    refine xt_isub dX12_scoreBy_47 ?_
    refine xt_aload_n _ dX12_scoreBy_48 rfl ?_
    refine xt_getr _ dX12_scoreBy_49 kfX12_53 (by first | exact sh152 | rfl | assumption) rfl ?_
    have hix : (64 : Int32) * nI t + (nI s ||| ((1 : Int32) <<< (nI t &&& 31))) = nI (64 * t + (s ||| 2 ^ t)) := by rw [x_1sh (by omega), nI_or, show (64 : Int32) = nI 64 from rfl, pk_mul, nI_add]
    refine xt_bipush (64) dX12_scoreBy_52 (by decide) ?_
    refine xt_iload_n _ dX12_scoreBy_54 rfl ?_
    refine xt_imul dX12_scoreBy_55 ?_
    refine xt_iload_n _ dX12_scoreBy_56 rfl ?_
    refine xt_iconst (1) dX12_scoreBy_57 (by decide) ?_
    refine xt_iload_n _ dX12_scoreBy_58 rfl ?_
    refine xt_ishl dX12_scoreBy_59 ?_
    refine xt_ior dX12_scoreBy_60 ?_
    refine xt_iadd dX12_scoreBy_61 ?_
    refine xt_ald dX12_scoreBy_62 (by first | exact sh152 | rfl | assumption) (by rw [hix]; exact vp_in_nI (by omega) (by decide)) ?_
    refine xt_iadd dX12_scoreBy_63 ?_
    exact xt_iret .int dX12_scoreBy_64 rfl (by first | rfl | assumption) ⟨by rw [s_if0 t5, hix, nI_clamp (by omega)]; rfl, rfl, rfl⟩
  · refine xt_ldcw _ dX12_scoreBy_8 kkX12_386 ?_
    exact xt_iret .int dX12_scoreBy_11 rfl (by first | rfl | assumption) ⟨by rw [s_if1 f5]; rfl, rfl, rfl⟩
theorem w_srt {μ : x_Me} {F : Nat → Nat} (hW : f_W F) {s a t : Nat} (ha : a < F 6 ∨ a = 6) (ht : t < F 6) (hb : s.testBit t = false) (hm : μ 167 (64 * t + (s ||| 2 ^ t)) = iI (w_k (w_W false (F 6) (w_P false F) (w_D false F) (s ||| 2 ^ t) t))) : (if s.testBit t then -1000000 else (8 : Int32) * (nI (F (113 + t)) * nI (F (119 + t)) - 10 * w_tw F a t) - 1 + μ 167 (64 * t + (s ||| 2 ^ t))) = iI (8 * w_v (w_P false F) (w_D false F) (w_W false (F 6) (w_P false F) (w_D false F)) s a t - (w_m (w_W false (F 6) (w_P false F) (w_D false F)) s t : Int)) := by
  have h1 := hW.2.2.2.2.2 t ht
  have h2 : F (113 + t) * F (119 + t) ≤ 30 * 10 := Nat.mul_le_mul h1.2.2.1 h1.2.2.2
  rw [hb, if_neg (by decide), w_tw_D hW ha (.inl ht), hm, pk_mul, iI_nI (by omega), show (10 : Int32) = iI 10 by decide, show (8 : Int32) = iI 8 by decide, show (1 : Int32) = iI 1 by decide, iI_mul, iI_sub, iI_mul, iI_sub, iI_add]
  have e1 : w_D true F a t = (w_fr F a t : Int) := by show (1 : Int) * _ = _; rw [Int.one_mul]
  have e2 : w_D false F a t = 10 * (w_fr F a t : Int) := rfl
  have e3 : w_P false F t = ((F (113 + t) * F (119 + t) : Nat) : Int) := rfl
  have e4 : w_v (w_P false F) (w_D false F) (w_W false (F 6) (w_P false F) (w_D false F)) s a t = w_P false F t - w_D false F a t + (w_W false (F 6) (w_P false F) (w_D false F) (s ||| 2 ^ t) t).1 := rfl
  have e5 : w_m (w_W false (F 6) (w_P false F) (w_D false F)) s t = 1 + (w_W false (F 6) (w_P false F) (w_D false F) (s ||| 2 ^ t) t).2.1 := rfl
  have e6 : w_k (w_W false (F 6) (w_P false F) (w_D false F) (s ||| 2 ^ t) t) = 8 * (w_W false (F 6) (w_P false F) (w_D false F) (s ||| 2 ^ t) t).1 - ((w_W false (F 6) (w_P false F) (w_D false F) (s ||| 2 ^ t) t).2.1 : Int) := rfl
  rw [e1, e4, e2, e3, e5, e6]
  exact congrArg iI (by omega)
set_option maxHeartbeats 4000000 in
theorem tX12_findRoutes (f : Nat) (F : Nat → Nat) (hf2 : f < 2) (h22 : μ 152 22 = nI f) (hF : ∀ i, i < 125 → μ 158 (125 * f + i) = nI (F i)) (hW : f_W F) (e6 : μ 152 25 = nI (F 6)) : x_K sc (d + 3) mX12_findRoutes [.ref 152] μ w (fun r μ' _ => r = none ∧ (∀ s p, s < 2 ^ F 6 → (p < F 6 ∨ p = 6) → μ' 167 (64 * p + s) = iI (w_k ((w_W false (F 6) (w_P false F) (w_D false F)) s p))) ∧ ∀ a, a ≠ 167 → μ' a = μ a) := by
  have h6 : F 6 ≤ 6 := hW.1.2.2.2.2.2.2
  have h64 : 2 ^ F 6 ≤ 2 ^ 6 := Nat.pow_le_pow_right (by decide) h6
  have h1p : 1 ≤ 2 ^ F 6 := Nat.one_le_two_pow
  have hPD := w_pd hW false
  refine x_K.of (by decide) (Nat.le_of_ble_eq_true rfl) ?_
  show x_T sc (d + 3) mX12_findRoutes 0 [.ref 152, .retAddr 0, .retAddr 0, .retAddr 0, .retAddr 0] [] μ w _
  refine xt_iconst (1) dX12_findRoutes_0 (by decide) ?_
  refine xt_aload_n _ dX12_findRoutes_1 rfl ?_
  refine xt_geti dX12_findRoutes_2 kfX12_254 (by first | exact sh152 | rfl | assumption) rfl ?_
  refine xt_ishl dX12_findRoutes_5 ?_
  refine xt_iconst (1) dX12_findRoutes_6 (by decide) ?_
  refine xt_isub dX12_findRoutes_7 ?_
  rw [e6, x_1sh (by omega), show nI (2 ^ F 6) - (1 : Int32) = nI (2 ^ F 6 - 1) from pk_sub (b := 1) h1p]
  refine xt_istore_n dX12_findRoutes_8 (by decide) rfl ?_
  change x_T _ _ _ _ [_, _, _, _, _] _ _ _ _
  have L9 : ∀ (n9 m : Nat) (μ2 : x_Me) (v2 v3 v4 : Value) (hSc : ∀ s p, 2 ^ F 6 ≤ s + m → s < 2 ^ F 6 → (p < F 6 ∨ p = 6) → μ2 167 (64 * p + s) = iI (w_k ((w_W false (F 6) (w_P false F) (w_D false F)) s p))) (hf : ∀ a, a ≠ 167 → μ2 a = μ a), m + n9 = 2 ^ F 6 → x_T sc (d + 3) mX12_findRoutes 9 [.ref 152, .int (eI (2 ^ F 6 - m)), v2, v3, v4] [] μ2 w (fun r μ' _ => r = none ∧ (∀ s p, s < 2 ^ F 6 → (p < F 6 ∨ p = 6) → μ' 167 (64 * p + s) = iI (w_k ((w_W false (F 6) (w_P false F) (w_D false F)) s p))) ∧ ∀ a, a ≠ 167 → μ' a = μ a) := by
    intro n9
    induction n9 with
    | zero =>
      intro m μ2 v2 v3 v4 hSc hf hmn
      obtain rfl : 2 ^ F 6 = m := by omega
      refine xt_iload_n _ dX12_findRoutes_9 rfl ?_
      refine xt_if_lt 78 dX12_findRoutes_10 (by decide) (fun _ => ?_) (fun q => absurd (by rw [Nat.sub_self]; decide) q)
      exact xt_ret dX12_findRoutes_78 rfl ⟨rfl, fun s p h1 h2 => hSc s p (by omega) h1 h2, hf⟩
    | succ n9 ih9 =>
      intro m μ2 v2 v3 v4 hSc hf hmn
      have hlt : m < 2 ^ F 6 := by omega
      obtain ⟨s, hs⟩ : ∃ s, s + m + 1 = 2 ^ F 6 := ⟨2 ^ F 6 - m - 1, by omega⟩
      have hsT : s < 2 ^ F 6 := by omega
      have es : eI (2 ^ F 6 - m) = nI s := by rw [show 2 ^ F 6 - m = s + 1 by omega, eI_s]
      have ee : eI (2 ^ F 6 - (m + 1)) = nI s + (-1) := by
        rw [show 2 ^ F 6 - (m + 1) = s by omega, eI]; exact Int32.sub_eq_add_neg _ _
      refine xt_iload_n _ dX12_findRoutes_9 rfl ?_
      refine xt_if_lt 78 dX12_findRoutes_10 (by decide) (fun q => absurd q (fun z => absurd ((eI_neg (by omega)).mp z) (by omega))) (fun _ => ?_)
      rw [es]
      refine xt_iconst (0) dX12_findRoutes_13 (by decide) ?_
      refine xt_istore_n dX12_findRoutes_14 (by decide) rfl ?_
      change x_T _ _ _ _ [_, _, _, _, _] _ _ _ _
      have L15 : ∀ (n15 a : Nat) (μ3 : x_Me) (v3 v4 : Value) (hS3 : ∀ s2 p2, (2 ^ F 6 ≤ s2 + m ∨ (s2 = s ∧ p2 < a)) → s2 < 2 ^ F 6 → (p2 < F 6 ∨ p2 = 6) → μ3 167 (64 * p2 + s2) = iI (w_k ((w_W false (F 6) (w_P false F) (w_D false F)) s2 p2))) (hf3 : ∀ a, a ≠ 167 → μ3 a = μ a), a + n15 = 7 → x_T sc (d + 3) mX12_findRoutes 15 [.ref 152, .int (nI s), .int (nI a), v3, v4] [] μ3 w (fun r μ' _ => r = none ∧ (∀ s p, s < 2 ^ F 6 → (p < F 6 ∨ p = 6) → μ' 167 (64 * p + s) = iI (w_k ((w_W false (F 6) (w_P false F) (w_D false F)) s p))) ∧ ∀ a, a ≠ 167 → μ' a = μ a) := by
        intro n15
        induction n15 with
        | zero =>
          intro a μ3 v3 v4 hS3 hf3 hmn
          obtain rfl : 7 = a := by omega
          refine xt_iload_n _ dX12_findRoutes_15 rfl ?_
          refine xt_bipush (6) dX12_findRoutes_16 (by decide) ?_
          refine xt_icmp_gt 72 dX12_findRoutes_18 (by decide) (fun _ => ?_) (fun q => absurd (by decide) q)
          refine xt_inc _ (-1) dX12_findRoutes_72 rfl (by decide) (by decide) rfl ?_
          change x_T _ _ _ _ [_, _, _, _, _] _ _ _ _
          refine xt_goto 9 dX12_findRoutes_75 (by decide) ?_
          refine x_T.ls ?_ (ih9 (m + 1) μ3 (.int (nI 7)) v3 v4 (fun s2 p2 h1 h2 h3 => hS3 s2 p2 (by omega) h2 h3) hf3 (by omega))
          rw [ee]
        | succ n15 ih15 =>
          intro a μ3 v3 v4 hS3 hf3 hmn
          have hlt_a : a < 7 := by omega
          have h223 : μ3 152 22 = nI f := by rw [hf3 152 (by decide)]; exact h22
          have hF3 : ∀ i, i < 125 → μ3 158 (125 * f + i) = nI (F i) := fun i hi => by rw [hf3 158 (by decide)]; exact hF i hi
          have hix : (64 : Int32) * nI a + nI s = nI (64 * a + s) := by rw [show (64 : Int32) = nI 64 from rfl, pk_mul, nI_add]
          refine xt_iload_n _ dX12_findRoutes_15 rfl ?_
          refine xt_bipush (6) dX12_findRoutes_16 (by decide) ?_
          refine xt_icmp_gt 72 dX12_findRoutes_18 (by decide) (fun q => absurd q (fun z => absurd ((nI_ltI (a := 6) (by decide) (by omega)).mp z) (by omega))) (fun _ => ?_)
          refine xt_iconst (0) dX12_findRoutes_21 (by decide) ?_
          refine xt_istore_n dX12_findRoutes_22 (by decide) rfl ?_
          change x_T _ _ _ _ [_, _, _, _, _] _ _ _ _
          refine xt_iconst (0) dX12_findRoutes_23 (by decide) ?_
          refine xt_istore dX12_findRoutes_24 (by decide) rfl ?_
          change x_T _ _ _ _ [_, _, _, _, _] _ _ _ _
          have L26 : ∀ (n26 t : Nat) , t + n26 = F 6 → x_T sc (d + 3) mX12_findRoutes 26 [.ref 152, .int (nI s), .int (nI a), .int (w_gf (fun t => (if s.testBit t then -1000000 else (8 : Int32) * (nI (F (113 + t)) * nI (F (119 + t)) - 10 * w_tw F a t) - 1 + μ3 167 (64 * t + (s ||| 2 ^ t)))) t), .int (nI t)] [] μ3 w (fun r μ' _ => r = none ∧ (∀ s p, s < 2 ^ F 6 → (p < F 6 ∨ p = 6) → μ' 167 (64 * p + s) = iI (w_k ((w_W false (F 6) (w_P false F) (w_D false F)) s p))) ∧ ∀ a, a ≠ 167 → μ' a = μ a) := by
            intro n26
            induction n26 with
            | zero =>
              intro t  hmn
              obtain rfl : F 6 = t := by omega
              refine xt_iload _ dX12_findRoutes_26 rfl ?_
              refine xt_aload_n _ dX12_findRoutes_28 rfl ?_
              refine xt_geti dX12_findRoutes_29 kfX12_254 (by first | exact sh152 | rfl | assumption) rfl ?_
              refine xt_icmp_ge 54 dX12_findRoutes_32 (by decide) (fun _ => ?_) (fun q => absurd (by rw [hf3 152 (by decide), e6]; exact Int32.le_refl _) q)
              refine xt_aload_n _ dX12_findRoutes_54 rfl ?_
              refine xt_getr _ dX12_findRoutes_55 kfX12_53 (by first | exact sh152 | rfl | assumption) rfl ?_
              refine xt_bipush (64) dX12_findRoutes_58 (by decide) ?_
              refine xt_iload_n _ dX12_findRoutes_60 rfl ?_
              refine xt_imul dX12_findRoutes_61 ?_
              refine xt_iload_n _ dX12_findRoutes_62 rfl ?_
              refine xt_iadd dX12_findRoutes_63 ?_
              refine xt_iload_n _ dX12_findRoutes_64 rfl ?_
              refine xt_ast dX12_findRoutes_65 (by first | exact sh152 | rfl | assumption) (by rw [hix]; exact vp_in_nI (by omega) (by decide)) ?_
              refine xt_inc _ (1) dX12_findRoutes_66 rfl (by decide) (by decide) rfl ?_
              change x_T _ _ _ _ [_, _, _, _, _] _ _ _ _
              refine xt_goto 15 dX12_findRoutes_69 (by decide) ?_
              refine x_T.ls (by rw [nI_succ a]) (ih15 (a + 1) _ (.int (w_gf (fun t => (if s.testBit t then -1000000 else (8 : Int32) * (nI (F (113 + t)) * nI (F (119 + t)) - 10 * w_tw F a t) - 1 + μ3 167 (64 * t + (s ||| 2 ^ t)))) (F 6))) (.int (nI (F 6))) (fun s2 p2 h1 h2 h3 => ?_) (fun c hc => by rw [x_u_ne hc]; exact hf3 c hc) (by omega))
              rw [x_u_eq, hix, nI_clamp (by omega)]
              by_cases he : 64 * p2 + s2 = 64 * a + s
              · have hea : p2 = a := by omega
                have hes : s2 = s := by omega
                rw [hea, hes, pk_us]
                have h3a : a < F 6 ∨ a = 6 := by omega
                exact (w_rte h6 hPD hsT h3a (fun t ht => ⟨fun hb => if_pos hb, fun hb => w_srt hW h3a ht hb (hS3 (s ||| 2 ^ t) t (.inl (by have := w_or_gt hb; omega)) (w_or_lt ht hsT) (.inl ht))⟩)).1
              · rw [pk_un he]; exact hS3 s2 p2 (by omega) h2 h3
            | succ n26 ih26 =>
              intro t  hmn
              have hlt_t : t < F 6 := by omega
              refine xt_iload _ dX12_findRoutes_26 rfl ?_
              refine xt_aload_n _ dX12_findRoutes_28 rfl ?_
              refine xt_geti dX12_findRoutes_29 kfX12_254 (by first | exact sh152 | rfl | assumption) rfl ?_
              refine xt_icmp_ge 54 dX12_findRoutes_32 (by decide) (fun q => absurd q (by rw [hf3 152 (by decide), e6]; exact nI_ge hlt_t (by omega))) (fun _ => ?_)
              refine xt_iload_n _ dX12_findRoutes_35 rfl ?_
              refine xt_aload_n _ dX12_findRoutes_36 rfl ?_
              refine xt_iload_n _ dX12_findRoutes_37 rfl ?_
              refine xt_iload_n _ dX12_findRoutes_38 rfl ?_
              refine xt_iload _ dX12_findRoutes_39 rfl ?_
              refine xt_cV _ dX12_findRoutes_41 klX12_390 (tX12_scoreBy sc _ μ3 w f F hf2 h223 hF3 s a t (by omega) (by omega) (by omega)) sh152 rfl rfl (Nat.le_of_ble_eq_true rfl) ?_
              refine xt_cS _ dX12_findRoutes_44 klX12_153 (tX12_greater sc _ μ3 _ _ _) rfl rfl (Nat.le_of_ble_eq_true rfl) ?_
              refine xt_istore_n dX12_findRoutes_47 (by decide) rfl ?_
              change x_T _ _ _ _ [_, _, _, _, _] _ _ _ _
              refine xt_inc _ (1) dX12_findRoutes_48 rfl (by decide) (by decide) rfl ?_
              change x_T _ _ _ _ [_, _, _, _, _] _ _ _ _
              refine xt_goto 26 dX12_findRoutes_51 (by decide) ?_
              refine x_T.ls ?_ (ih26 (t + 1) (by omega))
              rw [nI_succ t]; rfl
          exact L26 (F 6) 0 (by omega)
      exact L15 7 0 μ2 _ _ (fun s2 p2 h1 h2 h3 => hSc s2 p2 (by omega) h2 h3) hf (by omega)
  refine x_T.ls ?_ (L9 (2 ^ F 6) 0 μ (.retAddr 0) (.retAddr 0) (.retAddr 0) (fun s p h1 h2 => absurd h1 (by omega)) (fun _ _ => rfl) (by omega))
  rw [Nat.sub_zero, eI_pr (by omega)]
end ROUTEM
