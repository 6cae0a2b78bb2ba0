/-! texts: the reference reads a text, and stores it -/
theorem nI_le0 {a : Nat} (h : a < 2 ^ 31) : nI a ≤ 0 ↔ a = 0 := by
  rw [show (0 : Int32) = nI 0 from rfl, nI_leI h (by decide)]; omega
theorem s_g01 (m : Nat) : (0 : Int32) = s_tv 1 m (s_g0 1 m) := by
  unfold s_tv s_g0
  by_cases h0 : m = 0
  · rw [h0]; rfl
  · rw [if_pos ⟨rfl, h0⟩, if_neg (by omega), if_pos ⟨rfl, h0⟩]; rfl
theorem s_gooW (T : Nat → Nat) (L : Nat) {s : Nat} (hs : s < 3) : ∀ (n p : Nat) (φ : Nat × Nat) (G : Nat → Nat) (mx : Nat), g_W s G → mx ≤ 100 → g_W s (s_goo T L s n p φ G mx).2.2.2.1 ∧ (s_goo T L s n p φ G mx).2.2.2.2 ≤ 100
  | 0, _, _, _, _, h, hm => ⟨h, hm⟩
  | n + 1, p, φ, G, mx, h, hm => by
    rw [s_goo]
    split
    · exact ⟨h, hm⟩
    · split
      · rename_i h1
        split
        · exact s_gooW T L hs n _ _ _ _ (s_nx_W (s_lk_of hs h1.2) h) (s_nx_m hm)
        · exact ⟨h, hm⟩
      · exact ⟨h, hm⟩
theorem s_rrW (T : Nat → Nat) (L s : Nat) (hs : s < 3) : g_W s (s_rr T L s).2.2.2.1 := (s_gooW T L hs 601 0 (0, 0) _ 0 (s_g0_W s) (by decide)).1
theorem s_rrm (T : Nat → Nat) (L s : Nat) (hs : s < 3 := by decide) : (s_rr T L s).2.2.2.2 ≤ 100 := (s_gooW T L hs 601 0 (0, 0) _ 0 (s_g0_W s) (by decide)).2
section READM
variable (sc : Nat × (Nat → Int32)) (d : Nat) (μ : x_Me) (w : Int64)
set_option maxHeartbeats 1000000 in
theorem tX12_store (a n wd k : Nat) (hs : x_shape[a]? = some (.inr (.inl (0, n)))) (hn : n < 2000) (hk : wd * k + wd ≤ n) (hwd : wd ≤ 161) (ha : a ≠ 161) : x_K sc d mX12_store [.ref 152, .ref a, .int (nI wd), .int (nI k)] μ w (fun r μ' _ => r = none ∧ (∀ i, i < wd → μ' a (wd * k + i) = μ 161 i) ∧ (∀ j, j < wd * k ∨ wd * k + wd ≤ j → μ' a j = μ a j) ∧ ∀ b, b ≠ a → μ' b = μ b) := by
  refine x_K.of (by decide) (Nat.le_of_ble_eq_true rfl) ?_
  show x_T sc d mX12_store 0 [.ref 152, .ref a, .int (nI wd), .int (nI k), .retAddr 0] [] μ w _
  refine xt_iconst (0) dX12_store_0 (by decide) ?_
  refine xt_istore dX12_store_1 (by decide) rfl ?_
  change x_T _ _ _ _ [_, _, _, _, _] _ _ _ _
  have L3 : ∀ (n3 m : Nat) (μ2 : x_Me) (h1 : ∀ i, i < m → μ2 a (wd * k + i) = μ 161 i) (h2 : ∀ j, j < wd * k ∨ wd * k + wd ≤ j → μ2 a j = μ a j) (hf : ∀ b, b ≠ a → μ2 b = μ b), m + n3 = wd → x_T sc d mX12_store 3 [.ref 152, .ref a, .int (nI wd), .int (nI k), .int (nI m)] [] μ2 w (fun r μ' _ => r = none ∧ (∀ i, i < wd → μ' a (wd * k + i) = μ 161 i) ∧ (∀ j, j < wd * k ∨ wd * k + wd ≤ j → μ' a j = μ a j) ∧ ∀ b, b ≠ a → μ' b = μ b) := by
    intro n3
    induction n3 with
    | zero =>
      intro m μ2 h1 h2 hf hmn
      obtain rfl : wd = m := by omega
      refine xt_iload _ dX12_store_3 rfl ?_
      refine xt_iload_n _ dX12_store_5 rfl ?_
      refine xt_icmp_ge 30 dX12_store_6 (by decide) (fun _ => ?_) (fun q => absurd (Int32.le_refl _) q)
      exact xt_ret dX12_store_30 rfl ⟨rfl, h1, h2, hf⟩
    | succ n3 ih3 =>
      intro m μ2 h1 h2 hf hmn
      have hlt : m < wd := by omega
      have hix : nI wd * nI k + nI m = nI (wd * k + m) := by rw [pk_mul, nI_add]
      refine xt_iload _ dX12_store_3 rfl ?_
      refine xt_iload_n _ dX12_store_5 rfl ?_
      refine xt_icmp_ge 30 dX12_store_6 (by decide) (fun q => absurd q (nI_ge hlt (by omega))) (fun _ => ?_)
      refine xt_aload_n _ dX12_store_9 rfl ?_
      refine xt_iload_n _ dX12_store_10 rfl ?_
      refine xt_iload_n _ dX12_store_11 rfl ?_
      refine xt_imul dX12_store_12 ?_
      refine xt_iload _ dX12_store_13 rfl ?_
      refine xt_iadd dX12_store_15 ?_
      refine xt_aload_n _ dX12_store_16 rfl ?_
      refine xt_getr _ dX12_store_17 kfX12_35 (by first | exact sh152 | exact sh161 | exact sh162 | rfl | assumption) rfl ?_
      refine xt_iload _ dX12_store_20 rfl ?_
      refine xt_ald dX12_store_22 (by first | exact sh152 | exact sh161 | exact sh162 | rfl | assumption) (by exact vp_in_nI (by omega) (by decide)) ?_
      refine xt_ast dX12_store_23 (by first | exact sh152 | exact sh161 | exact sh162 | rfl | assumption) (by rw [hix]; exact vp_in_nI (by omega) (by omega)) ?_
      refine xt_inc _ (1) dX12_store_24 rfl (by decide) (by decide) rfl ?_
      change x_T _ _ _ _ [_, _, _, _, _] _ _ _ _
      refine xt_goto 3 dX12_store_27 (by decide) ?_
      refine x_T.ls (by rw [nI_succ m]) (ih3 (m + 1) _ (fun i hi => ?_) (fun j hj => ?_) (fun b hb => by rw [x_u_ne hb]; exact hf b hb) (by omega))
      · rw [x_u_eq, hix, nI_clamp (by omega), nI_clamp (by omega)]
        by_cases he : i = m
        · rw [he, pk_us, hf 161 (Ne.symm ha)]
        · rw [pk_un (by omega)]; exact h1 i (by omega)
      · rw [x_u_eq, hix, nI_clamp (by omega), pk_un (by omega)]; exact h2 j hj
  exact L3 wd 0 μ (fun i h => absurd h (by omega)) (fun _ _ => rfl) (fun _ _ => rfl) (by omega)
set_option maxHeartbeats 8000000 in
theorem tX12_readText0 (T : Nat → Nat) (L : Nat) (hB : m_B μ T L) : x_K sc (d + 6) mX12_readText [.ref 152, .int 0] μ w (fun r μ' _ => r = some (.int (if (s_flt T L 0).1 = 0 then 1 else 0)) ∧ μ' 155 0 = nI (s_flt T L 0).1 ∧ μ' 156 0 = (if (s_flt T L 0).1 = 0 then -1 else nI (s_flt T L 0).2) ∧ ((s_flt T L 0).1 = 0 → ∀ i, i < 161 → μ' 161 i = s_tv 0 i ((s_rr T L 0).2.2.2.1 i)) ∧ (∀ j, j ≠ 0 → μ' 155 j = μ 155 j ∧ μ' 156 j = μ 156 j) ∧ ∀ a, a ≠ 152 → a ≠ 155 → a ≠ 156 → a ≠ 161 → a ≠ 162 → μ' a = μ a) := by
  refine x_K.of (by decide) (Nat.le_of_ble_eq_true rfl) ?_
  show x_T sc (d + 6) mX12_readText 0 [.ref 152, .int 0, .retAddr 0] [] μ w _
  refine xt_iconst (0) dX12_readText_0 (by decide) ?_
  refine xt_istore_n dX12_readText_1 (by decide) rfl ?_
  change x_T _ _ _ _ [_, _, _] _ _ _ _
  have L2 : ∀ (n2 m : Nat) (μ2 : x_Me) (hD : ∀ i, i < m → μ2 161 i = s_tv 0 i (s_g0 0 i)) (hf : ∀ a, a ≠ 161 → μ2 a = μ a), m + n2 = 161 → x_T sc (d + 6) mX12_readText 2 [.ref 152, .int 0, .int (nI m)] [] μ2 w (fun r μ' _ => r = some (.int (if (s_flt T L 0).1 = 0 then 1 else 0)) ∧ μ' 155 0 = nI (s_flt T L 0).1 ∧ μ' 156 0 = (if (s_flt T L 0).1 = 0 then -1 else nI (s_flt T L 0).2) ∧ ((s_flt T L 0).1 = 0 → ∀ i, i < 161 → μ' 161 i = s_tv 0 i ((s_rr T L 0).2.2.2.1 i)) ∧ (∀ j, j ≠ 0 → μ' 155 j = μ 155 j ∧ μ' 156 j = μ 156 j) ∧ ∀ a, a ≠ 152 → a ≠ 155 → a ≠ 156 → a ≠ 161 → a ≠ 162 → μ' a = μ a) := by
    intro n2
    induction n2 with
    | zero =>
      intro m μ2 hD hf hmn
      obtain rfl : 161 = m := by omega
      refine xt_iload_n _ dX12_readText_2 rfl ?_
      refine xt_sipush (161) dX12_readText_3 (by decide) ?_
      refine xt_icmp_ge 35 dX12_readText_6 (by decide) (fun _ => ?_) (fun q => absurd (by decide) q)
      refine xt_aload_n _ dX12_readText_35 rfl ?_
      refine xt_iconst (-1) dX12_readText_36 (by decide) ?_
      refine xt_puti dX12_readText_37 kpX12_150 (by first | exact sh152 | exact sh161 | exact sh162 | rfl | assumption) rfl (by first | rfl | assumption) (by first | rfl | assumption) ?_
      refine xt_aload_n _ dX12_readText_40 rfl ?_
      refine xt_iconst (0) dX12_readText_41 (by decide) ?_
      refine xt_puti dX12_readText_42 kpX12_92 (by first | exact sh152 | exact sh161 | exact sh162 | rfl | assumption) rfl (by first | rfl | assumption) (by first | rfl | assumption) ?_
      refine xt_aload_n _ dX12_readText_45 rfl ?_
      refine xt_iconst (0) dX12_readText_46 (by decide) ?_
      refine xt_puti dX12_readText_47 kpX12_118 (by first | exact sh152 | exact sh161 | exact sh162 | rfl | assumption) rfl (by first | rfl | assumption) (by first | rfl | assumption) ?_
      refine xt_aload_n _ dX12_readText_50 rfl ?_
      have hB1 : m_B (x_u (x_u (x_u μ2 152 (upd (μ2 152) 20 (-1))) 152 (upd (x_u μ2 152 (upd (μ2 152) 20 (-1)) 152) 9 0)) 152 (upd (x_u (x_u μ2 152 (upd (μ2 152) 20 (-1))) 152 (upd (x_u μ2 152 (upd (μ2 152) 20 (-1)) 152) 9 0) 152) 16 0)) T L := hB.cg (by rw [x_u_eq, pk_un (by decide), x_u_eq, pk_un (by decide), x_u_eq, pk_un (by decide), hf 152 (by decide)]) (by rw [x_u_ne (by decide), x_u_ne (by decide), x_u_ne (by decide), hf 153 (by decide)])
      refine xt_callV _ dX12_readText_51 klX12_136 (tX12_token sc _ (x_u (x_u (x_u μ2 152 (upd (μ2 152) 20 (-1))) 152 (upd (x_u μ2 152 (upd (μ2 152) 20 (-1)) 152) 9 0)) 152 (upd (x_u (x_u μ2 152 (upd (μ2 152) 20 (-1))) 152 (upd (x_u μ2 152 (upd (μ2 152) 20 (-1)) 152) 9 0) 152) 16 0)) w T L hB1 0 (Nat.zero_le _) (by rw [x_u_eq, pk_un (by decide), x_u_eq, pk_us]; rfl)) sh152 rfl rfl (Nat.le_of_ble_eq_true rfl) (fun r3 μ3 w3 q3 => ?_)
      obtain ⟨rfl, q3⟩ := q3
      change x_T _ _ _ _ _ _ _ _ _
      have hK3 := m_K.next hB1 (Nat.zero_le _) q3
      have h161 : ∀ i, i < 161 → μ3 161 i = s_tv 0 i (s_g0 0 i) := fun i hi => by
        rw [q3.2.2.2.2.2.2 161 (by decide), x_u_ne (by decide), x_u_ne (by decide), x_u_ne (by decide)]
        exact hD i hi
      have hF3 : m_F μ3 (0, 0) 0 := ⟨by decide, by rw [q3.2.2.2.2.2.1 16 (by decide) (by decide) (by decide) (by decide), x_u_eq, pk_us]; rfl, fun h => absurd rfl h⟩
      have hC3 : m_C μ3 0 (0, 0) (s_g0 0) 0 := ⟨fun _ => ⟨h161, by rw [q3.2.2.2.2.2.1 20 (by decide) (by decide) (by decide) (by decide), x_u_eq, pk_un (by decide), x_u_eq, pk_un (by decide), x_u_eq, pk_us]; exact eI_0.symm⟩, fun _ c h3 h6 => ⟨0, Nat.zero_le _, by rw [h161 c (by omega)]; show nI (if 0 = 0 ∧ c < 2 then 5 else if 0 = 1 ∧ c ≠ 0 then 1 else 0) = nI 0; rw [if_neg (by omega), if_neg (by omega)]⟩, fun h => absurd h (by decide), fun h => absurd h (by decide)⟩
      have hf3 : ∀ a, a ≠ 152 → a ≠ 161 → μ3 a = μ a := fun a h1 h2 => by rw [q3.2.2.2.2.2.2 a h1, x_u_ne h1, x_u_ne h1, x_u_ne h1, hf a h2]
      refine xt_aload_n _ dX12_readText_54 rfl ?_
      refine xt_iload_n _ dX12_readText_55 rfl ?_
      refine xt_callV _ dX12_readText_56 klX12_228 (tX12_allLines0 sc _ μ3 w3 T L (s_g0 0) hK3 hF3 hC3 (s_g0_W 0)) sh152 rfl rfl (Nat.le_of_ble_eq_true rfl) (fun r6 μ6 w6 q6 => ?_)
      change _ ∧ ((s_rr T L 0).1 = true → m_F μ6 (s_rr T L 0).2.2.1 1000 ∧ m_C μ6 0 (s_rr T L 0).2.2.1 (s_rr T L 0).2.2.2.1 (s_rr T L 0).2.2.2.2 ∧ μ6 152 11 = nI (s_rr T L 0).2.1) ∧ ((s_rr T L 0).1 = false → μ6 152 15 = nI (s_rr T L 0).2.1) ∧ (∀ a, a ≠ 152 → a ≠ 161 → a ≠ 162 → μ6 a = μ3 a) at q6
      obtain ⟨q6r, q6a, q6b, hf6⟩ := q6
      have hfr6 : ∀ a, a ≠ 152 → a ≠ 161 → a ≠ 162 → μ6 a = μ a := fun a h1 h2 h3 => (hf6 a h1 h2 h3).trans (hf3 a h1 h2)
      cases hr1 : (s_rr T L 0).1
      · rw [show (s_goo T L 0 601 0 (0, 0) (s_g0 0) 0).1 = false from hr1] at q6r
        obtain rfl : r6 = some (.int 0) := q6r
        change x_T _ _ _ _ _ (.int 0 :: _) _ _ _
        have hft : (s_flt T L 0) = (1, (s_rr T L 0).2.1) := by rw [s_flt, if_pos hr1]
        have h15 := q6b hr1
        refine xt_istore_n dX12_readText_59 (by decide) rfl ?_
        change x_T _ _ _ _ [_, _, _] _ _ _ _
        refine xt_iload_n _ dX12_readText_60 rfl ?_
        refine xt_if_eq 97 dX12_readText_61 (by decide) (fun _ => ?_) (fun q => absurd (by decide) q)
        refine xt_aload_n _ dX12_readText_97 rfl ?_
        refine xt_getr _ dX12_readText_98 kfX12_17 (by first | exact sh152 | exact sh161 | exact sh162 | rfl | assumption) rfl ?_
        refine xt_iconst (0) dX12_readText_101 (by decide) ?_
        refine xt_iload_n _ dX12_readText_102 rfl ?_
        refine xt_if_eq 113 dX12_readText_103 (by decide) (fun _ => ?_) (fun q => absurd (by decide) q)
        refine xt_iconst (1) dX12_readText_113 (by decide) ?_
        refine xt_ast dX12_readText_114 (by first | exact sh152 | exact sh161 | exact sh162 | rfl | assumption) (by unfold vp_in; decide) ?_
        refine xt_aload_n _ dX12_readText_115 rfl ?_
        refine xt_getr _ dX12_readText_116 kfX12_20 (by first | exact sh152 | exact sh161 | exact sh162 | rfl | assumption) rfl ?_
        refine xt_iconst (0) dX12_readText_119 (by decide) ?_
        refine xt_iload_n _ dX12_readText_120 rfl ?_
        refine xt_if_ne 131 dX12_readText_121 (by decide) (fun q => absurd (by decide) q) (fun _ => ?_)
        refine xt_aload_n _ dX12_readText_124 rfl ?_
        refine xt_geti dX12_readText_125 kfX12_115 (by first | exact sh152 | exact sh161 | exact sh162 | rfl | assumption) rfl ?_
        refine xt_goto 146 dX12_readText_128 (by decide) ?_
        refine xt_ast dX12_readText_146 (by first | exact sh152 | exact sh161 | exact sh162 | rfl | assumption) (by unfold vp_in; decide) ?_
        refine xt_aload_n _ dX12_readText_147 rfl ?_
        refine xt_getr _ dX12_readText_148 kfX12_17 (by first | exact sh152 | exact sh161 | exact sh162 | rfl | assumption) rfl ?_
        refine xt_iconst (0) dX12_readText_151 (by decide) ?_
        refine xt_ald dX12_readText_152 (by first | exact sh152 | exact sh161 | exact sh162 | rfl | assumption) (by unfold vp_in; decide) ?_
        rw [x_u_ne (by decide), x_u_eq, cl0, pk_us]
        refine xt_if_ne 160 dX12_readText_153 (by decide) (fun _ => ?_) (fun q => absurd q (by decide))
        refine xt_iconst (0) dX12_readText_160 (by decide) ?_
        exact xt_iret .boolean dX12_readText_161 rfl (by first | rfl | assumption) ⟨by rw [hft]; rfl, by rw [x_u_ne (by decide), x_u_eq, pk_us, hft]; rfl, by rw [x_u_eq, pk_us, x_u_ne (by decide), h15, hft]; rfl, fun z => by rw [hft] at z; exact absurd z (show ¬ (1 : Nat) = 0 by decide), fun j hj => ⟨by rw [x_u_ne (by decide), x_u_eq, pk_un hj, hfr6 155 (by decide) (by decide) (by decide)], by rw [x_u_eq, pk_un hj, x_u_ne (by decide), hfr6 156 (by decide) (by decide) (by decide)]⟩, fun a h1 h2 h3 h4 h5 => by rw [x_u_ne h3, x_u_ne h2]; exact hfr6 a h1 h4 h5⟩
      · rw [show (s_goo T L 0 601 0 (0, 0) (s_g0 0) 0).1 = true from hr1] at q6r
        obtain rfl : r6 = some (.int 1) := q6r
        change x_T _ _ _ _ _ (.int 1 :: _) _ _ _
        obtain ⟨hF6, hC6, h11⟩ := q6a hr1
        have hRL : (s_rr T L 0).2.1 = L := s_goo_L hB.2.2.2 601 0 (0, 0) _ 0 (Nat.zero_le _) hr1
        rw [hRL] at h11
        have h4 := hF6.1
        have hft : (s_flt T L 0) = (if (s_rr T L 0).2.2.1.1 ≠ 0 then (s_rr T L 0).2.2.1 else if 0 = 0 ∧ (s_rr T L 0).2.2.2.1 4 < (s_rr T L 0).2.2.2.2 then (4, L) else (0, 0)) := by rw [s_flt, if_neg (by rw [hr1]; decide)]
        refine xt_istore_n dX12_readText_59 (by decide) rfl ?_
        change x_T _ _ _ _ [_, _, _] _ _ _ _
        refine xt_iload_n _ dX12_readText_60 rfl ?_
        refine xt_if_eq 97 dX12_readText_61 (by decide) (fun q => absurd q (by decide)) (fun _ => ?_)
        refine xt_iload_n _ dX12_readText_64 rfl ?_
        refine xt_if_ne 97 dX12_readText_65 (by decide) (fun q => absurd (by decide) q) (fun _ => ?_)
        refine xt_aload_n _ dX12_readText_68 rfl ?_
        refine xt_geti dX12_readText_69 kfX12_118 (by first | exact sh152 | exact sh161 | exact sh162 | rfl | assumption) rfl ?_
        refine xt_if_ne 97 dX12_readText_72 (by decide) (fun t72 => ?_) (fun f72 => ?_)
        · have hz : (s_rr T L 0).2.2.1.1 ≠ 0 := fun z => t72 (by rw [hF6.2.1, z]; rfl)
          have hfin : μ6 152 16 = nI (s_flt T L 0).1 ∧ ((s_flt T L 0).1 ≠ 0 → μ6 152 17 = nI (s_flt T L 0).2) ∧ ((s_flt T L 0).1 = 0 → (s_rr T L 0).2.2.1.1 = 0) ∧ (s_flt T L 0).1 ≤ 4 := by
            rw [hft, if_pos hz]; exact ⟨hF6.2.1, fun h => (hF6.2.2 h).1, fun h => h, h4⟩
          refine xt_aload_n _ dX12_readText_97 rfl ?_
          refine xt_getr _ dX12_readText_98 kfX12_17 (by first | exact sh152 | exact sh161 | exact sh162 | rfl | assumption) rfl ?_
          refine xt_iconst (0) dX12_readText_101 (by decide) ?_
          refine xt_iload_n _ dX12_readText_102 rfl ?_
          refine xt_if_eq 113 dX12_readText_103 (by decide) (fun q => absurd q (by decide)) (fun _ => ?_)
          refine xt_aload_n _ dX12_readText_106 rfl ?_
          refine xt_geti dX12_readText_107 kfX12_118 (by first | exact sh152 | exact sh161 | exact sh162 | rfl | assumption) rfl ?_
          rw [hfin.1]
          refine xt_goto 114 dX12_readText_110 (by decide) ?_
          refine xt_ast dX12_readText_114 (by first | exact sh152 | exact sh161 | exact sh162 | rfl | assumption) (by unfold vp_in; decide) ?_
          refine xt_aload_n _ dX12_readText_115 rfl ?_
          refine xt_getr _ dX12_readText_116 kfX12_20 (by first | exact sh152 | exact sh161 | exact sh162 | rfl | assumption) rfl ?_
          refine xt_iconst (0) dX12_readText_119 (by decide) ?_
          refine xt_iload_n _ dX12_readText_120 rfl ?_
          refine xt_if_ne 131 dX12_readText_121 (by decide) (fun _ => ?_) (fun q => absurd q (by decide))
          refine xt_aload_n _ dX12_readText_131 rfl ?_
          refine xt_geti dX12_readText_132 kfX12_118 (by first | exact sh152 | exact sh161 | exact sh162 | rfl | assumption) rfl ?_
          rw [x_u_ne (by decide), hfin.1]
          refine xt_if_le 145 dX12_readText_135 (by decide) (fun t135 => ?_) (fun f135 => ?_)
          · have hzF : (s_flt T L 0).1 = 0 := (nI_le0 (by have := hfin.2.2.2; omega)).mp t135
            refine xt_iconst (-1) dX12_readText_145 (by decide) ?_
            refine xt_ast dX12_readText_146 (by first | exact sh152 | exact sh161 | exact sh162 | rfl | assumption) (by unfold vp_in; decide) ?_
            refine xt_aload_n _ dX12_readText_147 rfl ?_
            refine xt_getr _ dX12_readText_148 kfX12_17 (by first | exact sh152 | exact sh161 | exact sh162 | rfl | assumption) rfl ?_
            refine xt_iconst (0) dX12_readText_151 (by decide) ?_
            refine xt_ald dX12_readText_152 (by first | exact sh152 | exact sh161 | exact sh162 | rfl | assumption) (by unfold vp_in; decide) ?_
            rw [x_u_ne (by decide), x_u_eq, cl0, pk_us]
            refine xt_if_ne 160 dX12_readText_153 (by decide) (fun q => absurd (by rw [hzF]; rfl) q) (fun _ => ?_)
            refine xt_iconst (1) dX12_readText_156 (by decide) ?_
            refine xt_goto 161 dX12_readText_157 (by decide) ?_
            exact xt_iret .boolean dX12_readText_161 rfl (by first | rfl | assumption) ⟨by rw [if_pos hzF], by rw [x_u_ne (by decide), x_u_eq, pk_us], by rw [x_u_eq, pk_us, if_pos hzF], fun z i hi => by rw [x_u_ne (by decide), x_u_ne (by decide)]; exact (hC6.1 (hfin.2.2.1 z)).1 i hi, fun j hj => ⟨by rw [x_u_ne (by decide), x_u_eq, pk_un hj, hfr6 155 (by decide) (by decide) (by decide)], by rw [x_u_eq, pk_un hj, x_u_ne (by decide), hfr6 156 (by decide) (by decide) (by decide)]⟩, fun a h1 h2 h3 h4 h5 => by rw [x_u_ne h3, x_u_ne h2]; exact hfr6 a h1 h4 h5⟩
          · have hzF : ¬ (s_flt T L 0).1 = 0 := fun z => f135 ((nI_le0 (by have := hfin.2.2.2; omega)).mpr z)
            refine xt_aload_n _ dX12_readText_138 rfl ?_
            refine xt_geti dX12_readText_139 kfX12_121 (by first | exact sh152 | exact sh161 | exact sh162 | rfl | assumption) rfl ?_
            rw [x_u_ne (by decide), hfin.2.1 hzF]
            refine xt_goto 146 dX12_readText_142 (by decide) ?_
            refine xt_ast dX12_readText_146 (by first | exact sh152 | exact sh161 | exact sh162 | rfl | assumption) (by unfold vp_in; decide) ?_
            refine xt_aload_n _ dX12_readText_147 rfl ?_
            refine xt_getr _ dX12_readText_148 kfX12_17 (by first | exact sh152 | exact sh161 | exact sh162 | rfl | assumption) rfl ?_
            refine xt_iconst (0) dX12_readText_151 (by decide) ?_
            refine xt_ald dX12_readText_152 (by first | exact sh152 | exact sh161 | exact sh162 | rfl | assumption) (by unfold vp_in; decide) ?_
            rw [x_u_ne (by decide), x_u_eq, cl0, pk_us]
            refine xt_if_ne 160 dX12_readText_153 (by decide) (fun _ => ?_) (fun q => absurd ((nI_eq (b := 0) (by have := hfin.2.2.2; omega) (by decide)).mp q) hzF)
            refine xt_iconst (0) dX12_readText_160 (by decide) ?_
            exact xt_iret .boolean dX12_readText_161 rfl (by first | rfl | assumption) ⟨by rw [if_neg hzF], by rw [x_u_ne (by decide), x_u_eq, pk_us], by rw [x_u_eq, pk_us, if_neg hzF], fun z i hi => by rw [x_u_ne (by decide), x_u_ne (by decide)]; exact (hC6.1 (hfin.2.2.1 z)).1 i hi, fun j hj => ⟨by rw [x_u_ne (by decide), x_u_eq, pk_un hj, hfr6 155 (by decide) (by decide) (by decide)], by rw [x_u_eq, pk_un hj, x_u_ne (by decide), hfr6 156 (by decide) (by decide) (by decide)]⟩, fun a h1 h2 h3 h4 h5 => by rw [x_u_ne h3, x_u_ne h2]; exact hfr6 a h1 h4 h5⟩
        · have hz : (s_rr T L 0).2.2.1.1 = 0 := (nI_eq (b := 0) (by omega) (by decide)).mp (hF6.2.1.symm.trans f72)
          have hmx : (s_rr T L 0).2.2.2.2 ≤ 100 := s_rrm T L 0
          have hg4 : (s_rr T L 0).2.2.2.1 4 ≤ 8 := (show f_W (s_rr T L 0).2.2.2.1 from s_rrW T L 0 (by decide)).1.2.2.2.2.1
          refine xt_aload_n _ dX12_readText_75 rfl ?_
          refine xt_geti dX12_readText_76 kfX12_150 (by first | exact sh152 | exact sh161 | exact sh162 | rfl | assumption) rfl ?_
          refine xt_aload_n _ dX12_readText_79 rfl ?_
          refine xt_getr _ dX12_readText_80 kfX12_35 (by first | exact sh152 | exact sh161 | exact sh162 | rfl | assumption) rfl ?_
          refine xt_iconst (4) dX12_readText_83 (by decide) ?_
          refine xt_ald dX12_readText_84 (by first | exact sh152 | exact sh161 | exact sh162 | rfl | assumption) (by unfold vp_in; decide) ?_
          rw [(hC6.1 hz).2, show μ6 161 (4 : Int32).toNatClampNeg = nI ((s_rr T L 0).2.2.2.1 4) from (hC6.1 hz).1 4 (by decide)]
          refine xt_icmp_lt 97 dX12_readText_85 (by decide) (fun t85 => ?_) (fun f85 => ?_)
          · have hlt85 : ¬ (s_rr T L 0).2.2.2.1 4 < (s_rr T L 0).2.2.2.2 := fun z => absurd t85 (Int32.not_lt.mpr ((eI_lt (by omega) (by omega)).mpr z))
            have hfin : μ6 152 16 = nI (s_flt T L 0).1 ∧ ((s_flt T L 0).1 ≠ 0 → μ6 152 17 = nI (s_flt T L 0).2) ∧ ((s_flt T L 0).1 = 0 → (s_rr T L 0).2.2.1.1 = 0) ∧ (s_flt T L 0).1 ≤ 4 := by
              rw [hft, if_neg (fun z => z hz), if_neg (fun z => hlt85 z.2)]; exact ⟨by rw [hF6.2.1, hz], fun h => absurd rfl h, fun _ => hz, by decide⟩
            refine xt_aload_n _ dX12_readText_97 rfl ?_
            refine xt_getr _ dX12_readText_98 kfX12_17 (by first | exact sh152 | exact sh161 | exact sh162 | rfl | assumption) rfl ?_
            refine xt_iconst (0) dX12_readText_101 (by decide) ?_
            refine xt_iload_n _ dX12_readText_102 rfl ?_
            refine xt_if_eq 113 dX12_readText_103 (by decide) (fun q => absurd q (by decide)) (fun _ => ?_)
            refine xt_aload_n _ dX12_readText_106 rfl ?_
            refine xt_geti dX12_readText_107 kfX12_118 (by first | exact sh152 | exact sh161 | exact sh162 | rfl | assumption) rfl ?_
            rw [hfin.1]
            refine xt_goto 114 dX12_readText_110 (by decide) ?_
            refine xt_ast dX12_readText_114 (by first | exact sh152 | exact sh161 | exact sh162 | rfl | assumption) (by unfold vp_in; decide) ?_
            refine xt_aload_n _ dX12_readText_115 rfl ?_
            refine xt_getr _ dX12_readText_116 kfX12_20 (by first | exact sh152 | exact sh161 | exact sh162 | rfl | assumption) rfl ?_
            refine xt_iconst (0) dX12_readText_119 (by decide) ?_
            refine xt_iload_n _ dX12_readText_120 rfl ?_
            refine xt_if_ne 131 dX12_readText_121 (by decide) (fun _ => ?_) (fun q => absurd q (by decide))
            refine xt_aload_n _ dX12_readText_131 rfl ?_
            refine xt_geti dX12_readText_132 kfX12_118 (by first | exact sh152 | exact sh161 | exact sh162 | rfl | assumption) rfl ?_
            rw [x_u_ne (by decide), hfin.1]
            refine xt_if_le 145 dX12_readText_135 (by decide) (fun t135 => ?_) (fun f135 => ?_)
            · have hzF : (s_flt T L 0).1 = 0 := (nI_le0 (by have := hfin.2.2.2; omega)).mp t135
              refine xt_iconst (-1) dX12_readText_145 (by decide) ?_
              refine xt_ast dX12_readText_146 (by first | exact sh152 | exact sh161 | exact sh162 | rfl | assumption) (by unfold vp_in; decide) ?_
              refine xt_aload_n _ dX12_readText_147 rfl ?_
              refine xt_getr _ dX12_readText_148 kfX12_17 (by first | exact sh152 | exact sh161 | exact sh162 | rfl | assumption) rfl ?_
              refine xt_iconst (0) dX12_readText_151 (by decide) ?_
              refine xt_ald dX12_readText_152 (by first | exact sh152 | exact sh161 | exact sh162 | rfl | assumption) (by unfold vp_in; decide) ?_
              rw [x_u_ne (by decide), x_u_eq, cl0, pk_us]
              refine xt_if_ne 160 dX12_readText_153 (by decide) (fun q => absurd (by rw [hzF]; rfl) q) (fun _ => ?_)
              refine xt_iconst (1) dX12_readText_156 (by decide) ?_
              refine xt_goto 161 dX12_readText_157 (by decide) ?_
              exact xt_iret .boolean dX12_readText_161 rfl (by first | rfl | assumption) ⟨by rw [if_pos hzF], by rw [x_u_ne (by decide), x_u_eq, pk_us], by rw [x_u_eq, pk_us, if_pos hzF], fun z i hi => by rw [x_u_ne (by decide), x_u_ne (by decide)]; exact (hC6.1 (hfin.2.2.1 z)).1 i hi, fun j hj => ⟨by rw [x_u_ne (by decide), x_u_eq, pk_un hj, hfr6 155 (by decide) (by decide) (by decide)], by rw [x_u_eq, pk_un hj, x_u_ne (by decide), hfr6 156 (by decide) (by decide) (by decide)]⟩, fun a h1 h2 h3 h4 h5 => by rw [x_u_ne h3, x_u_ne h2]; exact hfr6 a h1 h4 h5⟩
            · have hzF : ¬ (s_flt T L 0).1 = 0 := fun z => f135 ((nI_le0 (by have := hfin.2.2.2; omega)).mpr z)
              refine xt_aload_n _ dX12_readText_138 rfl ?_
              refine xt_geti dX12_readText_139 kfX12_121 (by first | exact sh152 | exact sh161 | exact sh162 | rfl | assumption) rfl ?_
              rw [x_u_ne (by decide), hfin.2.1 hzF]
              refine xt_goto 146 dX12_readText_142 (by decide) ?_
              refine xt_ast dX12_readText_146 (by first | exact sh152 | exact sh161 | exact sh162 | rfl | assumption) (by unfold vp_in; decide) ?_
              refine xt_aload_n _ dX12_readText_147 rfl ?_
              refine xt_getr _ dX12_readText_148 kfX12_17 (by first | exact sh152 | exact sh161 | exact sh162 | rfl | assumption) rfl ?_
              refine xt_iconst (0) dX12_readText_151 (by decide) ?_
              refine xt_ald dX12_readText_152 (by first | exact sh152 | exact sh161 | exact sh162 | rfl | assumption) (by unfold vp_in; decide) ?_
              rw [x_u_ne (by decide), x_u_eq, cl0, pk_us]
              refine xt_if_ne 160 dX12_readText_153 (by decide) (fun _ => ?_) (fun q => absurd ((nI_eq (b := 0) (by have := hfin.2.2.2; omega) (by decide)).mp q) hzF)
              refine xt_iconst (0) dX12_readText_160 (by decide) ?_
              exact xt_iret .boolean dX12_readText_161 rfl (by first | rfl | assumption) ⟨by rw [if_neg hzF], by rw [x_u_ne (by decide), x_u_eq, pk_us], by rw [x_u_eq, pk_us, if_neg hzF], fun z i hi => by rw [x_u_ne (by decide), x_u_ne (by decide)]; exact (hC6.1 (hfin.2.2.1 z)).1 i hi, fun j hj => ⟨by rw [x_u_ne (by decide), x_u_eq, pk_un hj, hfr6 155 (by decide) (by decide) (by decide)], by rw [x_u_eq, pk_un hj, x_u_ne (by decide), hfr6 156 (by decide) (by decide) (by decide)]⟩, fun a h1 h2 h3 h4 h5 => by rw [x_u_ne h3, x_u_ne h2]; exact hfr6 a h1 h4 h5⟩
          · have hlt85 : (s_rr T L 0).2.2.2.1 4 < (s_rr T L 0).2.2.2.2 := (eI_lt (by omega) (by omega)).mp (Int32.not_lt.mp f85)
            refine xt_aload_n _ dX12_readText_88 rfl ?_
            refine xt_iconst (4) dX12_readText_89 (by decide) ?_
            refine xt_aload_n _ dX12_readText_90 rfl ?_
            refine xt_geti dX12_readText_91 kfX12_102 (by first | exact sh152 | exact sh161 | exact sh162 | rfl | assumption) rfl ?_
            rw [h11]
            refine xt_callV _ dX12_readText_94 klX12_128 (tX12_addsFault sc _ μ6 w6 (s_rr T L 0).2.2.1 0 4 L ⟨h4, hF6.2.1, fun z => absurd hz z⟩ (Nat.zero_le _) (by have := hB.2.1; omega) (by decide)) sh152 rfl rfl (Nat.le_of_ble_eq_true rfl) (fun r7 μ7 w7 q7 => ?_)
            obtain ⟨rfl, rfl, hF7, hj7, hf7⟩ := q7
            change x_T _ _ _ _ _ _ _ _ _
            have hfin : μ7 152 16 = nI (s_flt T L 0).1 ∧ ((s_flt T L 0).1 ≠ 0 → μ7 152 17 = nI (s_flt T L 0).2) ∧ ((s_flt T L 0).1 = 0 → (s_rr T L 0).2.2.1.1 = 0) ∧ (s_flt T L 0).1 ≤ 4 := by
              rw [hft, if_neg (fun z => z hz), if_pos ⟨rfl, hlt85⟩]
              rw [s_blm, if_pos ⟨hz, rfl⟩] at hF7
              exact ⟨hF7.2.1, fun h => (hF7.2.2 h).1, fun _ => hz, Nat.le_refl 4⟩
            refine xt_aload_n _ dX12_readText_97 rfl ?_
            refine xt_getr _ dX12_readText_98 kfX12_17 (by first | exact sh152 | exact sh161 | exact sh162 | rfl | assumption) rfl ?_
            refine xt_iconst (0) dX12_readText_101 (by decide) ?_
            refine xt_iload_n _ dX12_readText_102 rfl ?_
            refine xt_if_eq 113 dX12_readText_103 (by decide) (fun q => absurd q (by decide)) (fun _ => ?_)
            refine xt_aload_n _ dX12_readText_106 rfl ?_
            refine xt_geti dX12_readText_107 kfX12_118 (by first | exact sh152 | exact sh161 | exact sh162 | rfl | assumption) rfl ?_
            rw [hfin.1]
            refine xt_goto 114 dX12_readText_110 (by decide) ?_
            refine xt_ast dX12_readText_114 (by first | exact sh152 | exact sh161 | exact sh162 | rfl | assumption) (by unfold vp_in; decide) ?_
            refine xt_aload_n _ dX12_readText_115 rfl ?_
            refine xt_getr _ dX12_readText_116 kfX12_20 (by first | exact sh152 | exact sh161 | exact sh162 | rfl | assumption) rfl ?_
            refine xt_iconst (0) dX12_readText_119 (by decide) ?_
            refine xt_iload_n _ dX12_readText_120 rfl ?_
            refine xt_if_ne 131 dX12_readText_121 (by decide) (fun _ => ?_) (fun q => absurd q (by decide))
            refine xt_aload_n _ dX12_readText_131 rfl ?_
            refine xt_geti dX12_readText_132 kfX12_118 (by first | exact sh152 | exact sh161 | exact sh162 | rfl | assumption) rfl ?_
            rw [x_u_ne (by decide), hfin.1]
            refine xt_if_le 145 dX12_readText_135 (by decide) (fun t135 => ?_) (fun f135 => ?_)
            · have hzF : (s_flt T L 0).1 = 0 := (nI_le0 (by have := hfin.2.2.2; omega)).mp t135
              refine xt_iconst (-1) dX12_readText_145 (by decide) ?_
              refine xt_ast dX12_readText_146 (by first | exact sh152 | exact sh161 | exact sh162 | rfl | assumption) (by unfold vp_in; decide) ?_
              refine xt_aload_n _ dX12_readText_147 rfl ?_
              refine xt_getr _ dX12_readText_148 kfX12_17 (by first | exact sh152 | exact sh161 | exact sh162 | rfl | assumption) rfl ?_
              refine xt_iconst (0) dX12_readText_151 (by decide) ?_
              refine xt_ald dX12_readText_152 (by first | exact sh152 | exact sh161 | exact sh162 | rfl | assumption) (by unfold vp_in; decide) ?_
              rw [x_u_ne (by decide), x_u_eq, cl0, pk_us]
              refine xt_if_ne 160 dX12_readText_153 (by decide) (fun q => absurd (by rw [hzF]; rfl) q) (fun _ => ?_)
              refine xt_iconst (1) dX12_readText_156 (by decide) ?_
              refine xt_goto 161 dX12_readText_157 (by decide) ?_
              exact xt_iret .boolean dX12_readText_161 rfl (by first | rfl | assumption) ⟨by rw [if_pos hzF], by rw [x_u_ne (by decide), x_u_eq, pk_us], by rw [x_u_eq, pk_us, if_pos hzF], fun z i hi => by rw [x_u_ne (by decide), x_u_ne (by decide), hf7 161 (by decide)]; exact (hC6.1 (hfin.2.2.1 z)).1 i hi, fun j hj => ⟨by rw [x_u_ne (by decide), x_u_eq, pk_un hj, (hf7 155 (by decide)).trans (hfr6 155 (by decide) (by decide) (by decide))], by rw [x_u_eq, pk_un hj, x_u_ne (by decide), (hf7 156 (by decide)).trans (hfr6 156 (by decide) (by decide) (by decide))]⟩, fun a h1 h2 h3 h4 h5 => by rw [x_u_ne h3, x_u_ne h2]; exact (hf7 a h1).trans (hfr6 a h1 h4 h5)⟩
            · have hzF : ¬ (s_flt T L 0).1 = 0 := fun z => f135 ((nI_le0 (by have := hfin.2.2.2; omega)).mpr z)
              refine xt_aload_n _ dX12_readText_138 rfl ?_
              refine xt_geti dX12_readText_139 kfX12_121 (by first | exact sh152 | exact sh161 | exact sh162 | rfl | assumption) rfl ?_
              rw [x_u_ne (by decide), hfin.2.1 hzF]
              refine xt_goto 146 dX12_readText_142 (by decide) ?_
              refine xt_ast dX12_readText_146 (by first | exact sh152 | exact sh161 | exact sh162 | rfl | assumption) (by unfold vp_in; decide) ?_
              refine xt_aload_n _ dX12_readText_147 rfl ?_
              refine xt_getr _ dX12_readText_148 kfX12_17 (by first | exact sh152 | exact sh161 | exact sh162 | rfl | assumption) rfl ?_
              refine xt_iconst (0) dX12_readText_151 (by decide) ?_
              refine xt_ald dX12_readText_152 (by first | exact sh152 | exact sh161 | exact sh162 | rfl | assumption) (by unfold vp_in; decide) ?_
              rw [x_u_ne (by decide), x_u_eq, cl0, pk_us]
              refine xt_if_ne 160 dX12_readText_153 (by decide) (fun _ => ?_) (fun q => absurd ((nI_eq (b := 0) (by have := hfin.2.2.2; omega) (by decide)).mp q) hzF)
              refine xt_iconst (0) dX12_readText_160 (by decide) ?_
              exact xt_iret .boolean dX12_readText_161 rfl (by first | rfl | assumption) ⟨by rw [if_neg hzF], by rw [x_u_ne (by decide), x_u_eq, pk_us], by rw [x_u_eq, pk_us, if_neg hzF], fun z i hi => by rw [x_u_ne (by decide), x_u_ne (by decide), hf7 161 (by decide)]; exact (hC6.1 (hfin.2.2.1 z)).1 i hi, fun j hj => ⟨by rw [x_u_ne (by decide), x_u_eq, pk_un hj, (hf7 155 (by decide)).trans (hfr6 155 (by decide) (by decide) (by decide))], by rw [x_u_eq, pk_un hj, x_u_ne (by decide), (hf7 156 (by decide)).trans (hfr6 156 (by decide) (by decide) (by decide))]⟩, fun a h1 h2 h3 h4 h5 => by rw [x_u_ne h3, x_u_ne h2]; exact (hf7 a h1).trans (hfr6 a h1 h4 h5)⟩
    | succ n2 ih2 =>
      intro m μ2 hD hf hmn
      have hlt : m < 161 := by omega
      refine xt_iload_n _ dX12_readText_2 rfl ?_
      refine xt_sipush (161) dX12_readText_3 (by decide) ?_
      refine xt_icmp_ge 35 dX12_readText_6 (by decide) (fun q => absurd q (nI_ge (b := 161) hlt (by decide))) (fun _ => ?_)
      refine xt_aload_n _ dX12_readText_9 rfl ?_
      refine xt_getr _ dX12_readText_10 kfX12_35 (by first | exact sh152 | exact sh161 | exact sh162 | rfl | assumption) rfl ?_
      refine xt_iload_n _ dX12_readText_13 rfl ?_
      refine xt_iload_n _ dX12_readText_14 rfl ?_
      refine xt_if_ne 27 dX12_readText_15 (by decide) (fun q => absurd (by decide) q) (fun _ => ?_)
      refine xt_iload_n _ dX12_readText_18 rfl ?_
      refine xt_iconst (2) dX12_readText_19 (by decide) ?_
      refine xt_icmp_ge 27 dX12_readText_20 (by decide) (fun t20 => ?_) (fun f20 => ?_)
      · have n20 : 2 ≤ m := (nI_leI (a := 2) (b := m) (by omega) (by omega)).mp t20
        refine xt_iconst (0) dX12_readText_27 (by decide) ?_
        refine xt_ast dX12_readText_28 (by first | exact sh152 | exact sh161 | exact sh162 | rfl | assumption) (by exact vp_in_nI (by omega) (by decide)) ?_
        refine xt_inc _ (1) dX12_readText_29 rfl (by decide) (by decide) rfl ?_
        change x_T _ _ _ _ [_, _, _] _ _ _ _
        refine xt_goto 2 dX12_readText_32 (by decide) ?_
        refine x_T.ls (by rw [nI_succ m]) (ih2 (m + 1) _ (fun i hi => ?_) (fun a h => by rw [x_u_ne h]; exact hf a h) (by omega))
        rw [x_u_eq, nI_clamp (by omega)]
        by_cases he : i = m
        · rw [he, pk_us]
          show _ = nI (if 0 = 0 ∧ m < 2 then 5 else if 0 = 1 ∧ m ≠ 0 then 1 else 0)
          rw [if_neg (by omega), if_neg (by omega)]; rfl
        · rw [pk_un he]; exact hD i (by omega)
      · have n20 : ¬ (2 ≤ m) := fun z => f20 ((nI_leI (a := 2) (b := m) (by omega) (by omega)).mpr z)
        refine xt_iconst (5) dX12_readText_23 (by decide) ?_
        refine xt_goto 28 dX12_readText_24 (by decide) ?_
        refine xt_ast dX12_readText_28 (by first | exact sh152 | exact sh161 | exact sh162 | rfl | assumption) (by exact vp_in_nI (by omega) (by decide)) ?_
        refine xt_inc _ (1) dX12_readText_29 rfl (by decide) (by decide) rfl ?_
        change x_T _ _ _ _ [_, _, _] _ _ _ _
        refine xt_goto 2 dX12_readText_32 (by decide) ?_
        refine x_T.ls (by rw [nI_succ m]) (ih2 (m + 1) _ (fun i hi => ?_) (fun a h => by rw [x_u_ne h]; exact hf a h) (by omega))
        rw [x_u_eq, nI_clamp (by omega)]
        by_cases he : i = m
        · rw [he, pk_us]
          show _ = nI (if 0 = 0 ∧ m < 2 then 5 else if 0 = 1 ∧ m ≠ 0 then 1 else 0)
          rw [if_pos (by omega)]; rfl
        · rw [pk_un he]; exact hD i (by omega)
  exact L2 161 0 μ (fun i h => absurd h (by omega)) (fun _ _ => rfl) (by omega)
set_option maxHeartbeats 8000000 in
theorem tX12_readText1 (T : Nat → Nat) (L : Nat) (hB : m_B μ T L) : x_K sc (d + 6) mX12_readText [.ref 152, .int 1] μ w (fun r μ' _ => r = some (.int (if (s_flt T L 1).1 = 0 then 1 else 0)) ∧ μ' 155 0 = nI (s_flt T L 1).1 ∧ μ' 156 0 = (if (s_flt T L 1).1 = 0 then -1 else nI (s_flt T L 1).2) ∧ ((s_flt T L 1).1 = 0 → ∀ i, i < 161 → μ' 161 i = s_tv 1 i ((s_rr T L 1).2.2.2.1 i)) ∧ (∀ j, j ≠ 0 → μ' 155 j = μ 155 j ∧ μ' 156 j = μ 156 j) ∧ ∀ a, a ≠ 152 → a ≠ 155 → a ≠ 156 → a ≠ 161 → a ≠ 162 → μ' a = μ a) := by
  refine x_K.of (by decide) (Nat.le_of_ble_eq_true rfl) ?_
  show x_T sc (d + 6) mX12_readText 0 [.ref 152, .int 1, .retAddr 0] [] μ w _
  refine xt_iconst (0) dX12_readText_0 (by decide) ?_
  refine xt_istore_n dX12_readText_1 (by decide) rfl ?_
  change x_T _ _ _ _ [_, _, _] _ _ _ _
  have L2 : ∀ (n2 m : Nat) (μ2 : x_Me) (hD : ∀ i, i < m → μ2 161 i = s_tv 1 i (s_g0 1 i)) (hf : ∀ a, a ≠ 161 → μ2 a = μ a), m + n2 = 161 → x_T sc (d + 6) mX12_readText 2 [.ref 152, .int 1, .int (nI m)] [] μ2 w (fun r μ' _ => r = some (.int (if (s_flt T L 1).1 = 0 then 1 else 0)) ∧ μ' 155 0 = nI (s_flt T L 1).1 ∧ μ' 156 0 = (if (s_flt T L 1).1 = 0 then -1 else nI (s_flt T L 1).2) ∧ ((s_flt T L 1).1 = 0 → ∀ i, i < 161 → μ' 161 i = s_tv 1 i ((s_rr T L 1).2.2.2.1 i)) ∧ (∀ j, j ≠ 0 → μ' 155 j = μ 155 j ∧ μ' 156 j = μ 156 j) ∧ ∀ a, a ≠ 152 → a ≠ 155 → a ≠ 156 → a ≠ 161 → a ≠ 162 → μ' a = μ a) := by
    intro n2
    induction n2 with
    | zero =>
      intro m μ2 hD hf hmn
      obtain rfl : 161 = m := by omega
      refine xt_iload_n _ dX12_readText_2 rfl ?_
      refine xt_sipush (161) dX12_readText_3 (by decide) ?_
      refine xt_icmp_ge 35 dX12_readText_6 (by decide) (fun _ => ?_) (fun q => absurd (by decide) q)
      refine xt_aload_n _ dX12_readText_35 rfl ?_
      refine xt_iconst (-1) dX12_readText_36 (by decide) ?_
      refine xt_puti dX12_readText_37 kpX12_150 (by first | exact sh152 | exact sh161 | exact sh162 | rfl | assumption) rfl (by first | rfl | assumption) (by first | rfl | assumption) ?_
      refine xt_aload_n _ dX12_readText_40 rfl ?_
      refine xt_iconst (0) dX12_readText_41 (by decide) ?_
      refine xt_puti dX12_readText_42 kpX12_92 (by first | exact sh152 | exact sh161 | exact sh162 | rfl | assumption) rfl (by first | rfl | assumption) (by first | rfl | assumption) ?_
      refine xt_aload_n _ dX12_readText_45 rfl ?_
      refine xt_iconst (0) dX12_readText_46 (by decide) ?_
      refine xt_puti dX12_readText_47 kpX12_118 (by first | exact sh152 | exact sh161 | exact sh162 | rfl | assumption) rfl (by first | rfl | assumption) (by first | rfl | assumption) ?_
      refine xt_aload_n _ dX12_readText_50 rfl ?_
      have hB1 : m_B (x_u (x_u (x_u μ2 152 (upd (μ2 152) 20 (-1))) 152 (upd (x_u μ2 152 (upd (μ2 152) 20 (-1)) 152) 9 0)) 152 (upd (x_u (x_u μ2 152 (upd (μ2 152) 20 (-1))) 152 (upd (x_u μ2 152 (upd (μ2 152) 20 (-1)) 152) 9 0) 152) 16 0)) T L := hB.cg (by rw [x_u_eq, pk_un (by decide), x_u_eq, pk_un (by decide), x_u_eq, pk_un (by decide), hf 152 (by decide)]) (by rw [x_u_ne (by decide), x_u_ne (by decide), x_u_ne (by decide), hf 153 (by decide)])
      refine xt_callV _ dX12_readText_51 klX12_136 (tX12_token sc _ (x_u (x_u (x_u μ2 152 (upd (μ2 152) 20 (-1))) 152 (upd (x_u μ2 152 (upd (μ2 152) 20 (-1)) 152) 9 0)) 152 (upd (x_u (x_u μ2 152 (upd (μ2 152) 20 (-1))) 152 (upd (x_u μ2 152 (upd (μ2 152) 20 (-1)) 152) 9 0) 152) 16 0)) w T L hB1 0 (Nat.zero_le _) (by rw [x_u_eq, pk_un (by decide), x_u_eq, pk_us]; rfl)) sh152 rfl rfl (Nat.le_of_ble_eq_true rfl) (fun r3 μ3 w3 q3 => ?_)
      obtain ⟨rfl, q3⟩ := q3
      change x_T _ _ _ _ _ _ _ _ _
      have hK3 := m_K.next hB1 (Nat.zero_le _) q3
      have h161 : ∀ i, i < 161 → μ3 161 i = s_tv 1 i (s_g0 1 i) := fun i hi => by
        rw [q3.2.2.2.2.2.2 161 (by decide), x_u_ne (by decide), x_u_ne (by decide), x_u_ne (by decide)]
        exact hD i hi
      have hF3 : m_F μ3 (0, 0) 0 := ⟨by decide, by rw [q3.2.2.2.2.2.1 16 (by decide) (by decide) (by decide) (by decide), x_u_eq, pk_us]; rfl, fun h => absurd rfl h⟩
      have hC3 : m_C μ3 1 (0, 0) (s_g0 1) 0 := ⟨fun _ => ⟨h161, by rw [q3.2.2.2.2.2.1 20 (by decide) (by decide) (by decide) (by decide), x_u_eq, pk_un (by decide), x_u_eq, pk_un (by decide), x_u_eq, pk_us]; exact eI_0.symm⟩, fun h => absurd h (by decide), fun _ => ⟨0, Nat.zero_le _, h161 0 (by decide)⟩, fun h => absurd h (by decide)⟩
      have hf3 : ∀ a, a ≠ 152 → a ≠ 161 → μ3 a = μ a := fun a h1 h2 => by rw [q3.2.2.2.2.2.2 a h1, x_u_ne h1, x_u_ne h1, x_u_ne h1, hf a h2]
      refine xt_aload_n _ dX12_readText_54 rfl ?_
      refine xt_iload_n _ dX12_readText_55 rfl ?_
      refine xt_callV _ dX12_readText_56 klX12_228 (tX12_allLines1 sc _ μ3 w3 T L (s_g0 1) hK3 hF3 hC3 (s_g0_W 1)) sh152 rfl rfl (Nat.le_of_ble_eq_true rfl) (fun r6 μ6 w6 q6 => ?_)
      change _ ∧ ((s_rr T L 1).1 = true → m_F μ6 (s_rr T L 1).2.2.1 1000 ∧ m_C μ6 1 (s_rr T L 1).2.2.1 (s_rr T L 1).2.2.2.1 (s_rr T L 1).2.2.2.2 ∧ μ6 152 11 = nI (s_rr T L 1).2.1) ∧ ((s_rr T L 1).1 = false → μ6 152 15 = nI (s_rr T L 1).2.1) ∧ (∀ a, a ≠ 152 → a ≠ 161 → a ≠ 162 → μ6 a = μ3 a) at q6
      obtain ⟨q6r, q6a, q6b, hf6⟩ := q6
      have hfr6 : ∀ a, a ≠ 152 → a ≠ 161 → a ≠ 162 → μ6 a = μ a := fun a h1 h2 h3 => (hf6 a h1 h2 h3).trans (hf3 a h1 h2)
      cases hr1 : (s_rr T L 1).1
      · rw [show (s_goo T L 1 601 0 (0, 0) (s_g0 1) 0).1 = false from hr1] at q6r
        obtain rfl : r6 = some (.int 0) := q6r
        change x_T _ _ _ _ _ (.int 0 :: _) _ _ _
        have hft : (s_flt T L 1) = (1, (s_rr T L 1).2.1) := by rw [s_flt, if_pos hr1]
        have h15 := q6b hr1
        refine xt_istore_n dX12_readText_59 (by decide) rfl ?_
        change x_T _ _ _ _ [_, _, _] _ _ _ _
        refine xt_iload_n _ dX12_readText_60 rfl ?_
        refine xt_if_eq 97 dX12_readText_61 (by decide) (fun _ => ?_) (fun q => absurd (by decide) q)
        refine xt_aload_n _ dX12_readText_97 rfl ?_
        refine xt_getr _ dX12_readText_98 kfX12_17 (by first | exact sh152 | exact sh161 | exact sh162 | rfl | assumption) rfl ?_
        refine xt_iconst (0) dX12_readText_101 (by decide) ?_
        refine xt_iload_n _ dX12_readText_102 rfl ?_
        refine xt_if_eq 113 dX12_readText_103 (by decide) (fun _ => ?_) (fun q => absurd (by decide) q)
        refine xt_iconst (1) dX12_readText_113 (by decide) ?_
        refine xt_ast dX12_readText_114 (by first | exact sh152 | exact sh161 | exact sh162 | rfl | assumption) (by unfold vp_in; decide) ?_
        refine xt_aload_n _ dX12_readText_115 rfl ?_
        refine xt_getr _ dX12_readText_116 kfX12_20 (by first | exact sh152 | exact sh161 | exact sh162 | rfl | assumption) rfl ?_
        refine xt_iconst (0) dX12_readText_119 (by decide) ?_
        refine xt_iload_n _ dX12_readText_120 rfl ?_
        refine xt_if_ne 131 dX12_readText_121 (by decide) (fun q => absurd (by decide) q) (fun _ => ?_)
        refine xt_aload_n _ dX12_readText_124 rfl ?_
        refine xt_geti dX12_readText_125 kfX12_115 (by first | exact sh152 | exact sh161 | exact sh162 | rfl | assumption) rfl ?_
        refine xt_goto 146 dX12_readText_128 (by decide) ?_
        refine xt_ast dX12_readText_146 (by first | exact sh152 | exact sh161 | exact sh162 | rfl | assumption) (by unfold vp_in; decide) ?_
        refine xt_aload_n _ dX12_readText_147 rfl ?_
        refine xt_getr _ dX12_readText_148 kfX12_17 (by first | exact sh152 | exact sh161 | exact sh162 | rfl | assumption) rfl ?_
        refine xt_iconst (0) dX12_readText_151 (by decide) ?_
        refine xt_ald dX12_readText_152 (by first | exact sh152 | exact sh161 | exact sh162 | rfl | assumption) (by unfold vp_in; decide) ?_
        rw [x_u_ne (by decide), x_u_eq, cl0, pk_us]
        refine xt_if_ne 160 dX12_readText_153 (by decide) (fun _ => ?_) (fun q => absurd q (by decide))
        refine xt_iconst (0) dX12_readText_160 (by decide) ?_
        exact xt_iret .boolean dX12_readText_161 rfl (by first | rfl | assumption) ⟨by rw [hft]; rfl, by rw [x_u_ne (by decide), x_u_eq, pk_us, hft]; rfl, by rw [x_u_eq, pk_us, x_u_ne (by decide), h15, hft]; rfl, fun z => by rw [hft] at z; exact absurd z (show ¬ (1 : Nat) = 0 by decide), fun j hj => ⟨by rw [x_u_ne (by decide), x_u_eq, pk_un hj, hfr6 155 (by decide) (by decide) (by decide)], by rw [x_u_eq, pk_un hj, x_u_ne (by decide), hfr6 156 (by decide) (by decide) (by decide)]⟩, fun a h1 h2 h3 h4 h5 => by rw [x_u_ne h3, x_u_ne h2]; exact hfr6 a h1 h4 h5⟩
      · rw [show (s_goo T L 1 601 0 (0, 0) (s_g0 1) 0).1 = true from hr1] at q6r
        obtain rfl : r6 = some (.int 1) := q6r
        change x_T _ _ _ _ _ (.int 1 :: _) _ _ _
        obtain ⟨hF6, hC6, h11⟩ := q6a hr1
        have hRL : (s_rr T L 1).2.1 = L := s_goo_L hB.2.2.2 601 0 (0, 0) _ 0 (Nat.zero_le _) hr1
        rw [hRL] at h11
        have h4 := hF6.1
        have hft : (s_flt T L 1) = (if (s_rr T L 1).2.2.1.1 ≠ 0 then (s_rr T L 1).2.2.1 else if 1 = 0 ∧ (s_rr T L 1).2.2.2.1 4 < (s_rr T L 1).2.2.2.2 then (4, L) else (0, 0)) := by rw [s_flt, if_neg (by rw [hr1]; decide)]
        refine xt_istore_n dX12_readText_59 (by decide) rfl ?_
        change x_T _ _ _ _ [_, _, _] _ _ _ _
        refine xt_iload_n _ dX12_readText_60 rfl ?_
        refine xt_if_eq 97 dX12_readText_61 (by decide) (fun q => absurd q (by decide)) (fun _ => ?_)
        refine xt_iload_n _ dX12_readText_64 rfl ?_
        refine xt_if_ne 97 dX12_readText_65 (by decide) (fun _ => ?_) (fun q => absurd q (by decide))
        have hfin : μ6 152 16 = nI (s_flt T L 1).1 ∧ ((s_flt T L 1).1 ≠ 0 → μ6 152 17 = nI (s_flt T L 1).2) ∧ ((s_flt T L 1).1 = 0 → (s_rr T L 1).2.2.1.1 = 0) ∧ (s_flt T L 1).1 ≤ 4 := by
          rw [hft]
          by_cases hz : (s_rr T L 1).2.2.1.1 ≠ 0
          · rw [if_pos hz]; exact ⟨hF6.2.1, fun h => (hF6.2.2 h).1, fun h => h, h4⟩
          · rw [if_neg hz, if_neg (fun z => absurd z.1 (by decide))]
            have hz := Classical.byContradiction hz
            exact ⟨by rw [hF6.2.1, hz], fun h => absurd rfl h, fun _ => hz, by decide⟩
        refine xt_aload_n _ dX12_readText_97 rfl ?_
        refine xt_getr _ dX12_readText_98 kfX12_17 (by first | exact sh152 | exact sh161 | exact sh162 | rfl | assumption) rfl ?_
        refine xt_iconst (0) dX12_readText_101 (by decide) ?_
        refine xt_iload_n _ dX12_readText_102 rfl ?_
        refine xt_if_eq 113 dX12_readText_103 (by decide) (fun q => absurd q (by decide)) (fun _ => ?_)
        refine xt_aload_n _ dX12_readText_106 rfl ?_
        refine xt_geti dX12_readText_107 kfX12_118 (by first | exact sh152 | exact sh161 | exact sh162 | rfl | assumption) rfl ?_
        rw [hfin.1]
        refine xt_goto 114 dX12_readText_110 (by decide) ?_
        refine xt_ast dX12_readText_114 (by first | exact sh152 | exact sh161 | exact sh162 | rfl | assumption) (by unfold vp_in; decide) ?_
        refine xt_aload_n _ dX12_readText_115 rfl ?_
        refine xt_getr _ dX12_readText_116 kfX12_20 (by first | exact sh152 | exact sh161 | exact sh162 | rfl | assumption) rfl ?_
        refine xt_iconst (0) dX12_readText_119 (by decide) ?_
        refine xt_iload_n _ dX12_readText_120 rfl ?_
        refine xt_if_ne 131 dX12_readText_121 (by decide) (fun _ => ?_) (fun q => absurd q (by decide))
        refine xt_aload_n _ dX12_readText_131 rfl ?_
        refine xt_geti dX12_readText_132 kfX12_118 (by first | exact sh152 | exact sh161 | exact sh162 | rfl | assumption) rfl ?_
        rw [x_u_ne (by decide), hfin.1]
        refine xt_if_le 145 dX12_readText_135 (by decide) (fun t135 => ?_) (fun f135 => ?_)
        · have hzF : (s_flt T L 1).1 = 0 := (nI_le0 (by have := hfin.2.2.2; omega)).mp t135
          refine xt_iconst (-1) dX12_readText_145 (by decide) ?_
          refine xt_ast dX12_readText_146 (by first | exact sh152 | exact sh161 | exact sh162 | rfl | assumption) (by unfold vp_in; decide) ?_
          refine xt_aload_n _ dX12_readText_147 rfl ?_
          refine xt_getr _ dX12_readText_148 kfX12_17 (by first | exact sh152 | exact sh161 | exact sh162 | rfl | assumption) rfl ?_
          refine xt_iconst (0) dX12_readText_151 (by decide) ?_
          refine xt_ald dX12_readText_152 (by first | exact sh152 | exact sh161 | exact sh162 | rfl | assumption) (by unfold vp_in; decide) ?_
          rw [x_u_ne (by decide), x_u_eq, cl0, pk_us]
          refine xt_if_ne 160 dX12_readText_153 (by decide) (fun q => absurd (by rw [hzF]; rfl) q) (fun _ => ?_)
          refine xt_iconst (1) dX12_readText_156 (by decide) ?_
          refine xt_goto 161 dX12_readText_157 (by decide) ?_
          exact xt_iret .boolean dX12_readText_161 rfl (by first | rfl | assumption) ⟨by rw [if_pos hzF], by rw [x_u_ne (by decide), x_u_eq, pk_us], by rw [x_u_eq, pk_us, if_pos hzF], fun z i hi => by rw [x_u_ne (by decide), x_u_ne (by decide)]; exact (hC6.1 (hfin.2.2.1 z)).1 i hi, fun j hj => ⟨by rw [x_u_ne (by decide), x_u_eq, pk_un hj, hfr6 155 (by decide) (by decide) (by decide)], by rw [x_u_eq, pk_un hj, x_u_ne (by decide), hfr6 156 (by decide) (by decide) (by decide)]⟩, fun a h1 h2 h3 h4 h5 => by rw [x_u_ne h3, x_u_ne h2]; exact hfr6 a h1 h4 h5⟩
        · have hzF : ¬ (s_flt T L 1).1 = 0 := fun z => f135 ((nI_le0 (by have := hfin.2.2.2; omega)).mpr z)
          refine xt_aload_n _ dX12_readText_138 rfl ?_
          refine xt_geti dX12_readText_139 kfX12_121 (by first | exact sh152 | exact sh161 | exact sh162 | rfl | assumption) rfl ?_
          rw [x_u_ne (by decide), hfin.2.1 hzF]
          refine xt_goto 146 dX12_readText_142 (by decide) ?_
          refine xt_ast dX12_readText_146 (by first | exact sh152 | exact sh161 | exact sh162 | rfl | assumption) (by unfold vp_in; decide) ?_
          refine xt_aload_n _ dX12_readText_147 rfl ?_
          refine xt_getr _ dX12_readText_148 kfX12_17 (by first | exact sh152 | exact sh161 | exact sh162 | rfl | assumption) rfl ?_
          refine xt_iconst (0) dX12_readText_151 (by decide) ?_
          refine xt_ald dX12_readText_152 (by first | exact sh152 | exact sh161 | exact sh162 | rfl | assumption) (by unfold vp_in; decide) ?_
          rw [x_u_ne (by decide), x_u_eq, cl0, pk_us]
          refine xt_if_ne 160 dX12_readText_153 (by decide) (fun _ => ?_) (fun q => absurd ((nI_eq (b := 0) (by have := hfin.2.2.2; omega) (by decide)).mp q) hzF)
          refine xt_iconst (0) dX12_readText_160 (by decide) ?_
          exact xt_iret .boolean dX12_readText_161 rfl (by first | rfl | assumption) ⟨by rw [if_neg hzF], by rw [x_u_ne (by decide), x_u_eq, pk_us], by rw [x_u_eq, pk_us, if_neg hzF], fun z i hi => by rw [x_u_ne (by decide), x_u_ne (by decide)]; exact (hC6.1 (hfin.2.2.1 z)).1 i hi, fun j hj => ⟨by rw [x_u_ne (by decide), x_u_eq, pk_un hj, hfr6 155 (by decide) (by decide) (by decide)], by rw [x_u_eq, pk_un hj, x_u_ne (by decide), hfr6 156 (by decide) (by decide) (by decide)]⟩, fun a h1 h2 h3 h4 h5 => by rw [x_u_ne h3, x_u_ne h2]; exact hfr6 a h1 h4 h5⟩
    | succ n2 ih2 =>
      intro m μ2 hD hf hmn
      have hlt : m < 161 := by omega
      refine xt_iload_n _ dX12_readText_2 rfl ?_
      refine xt_sipush (161) dX12_readText_3 (by decide) ?_
      refine xt_icmp_ge 35 dX12_readText_6 (by decide) (fun q => absurd q (nI_ge (b := 161) hlt (by decide))) (fun _ => ?_)
      refine xt_aload_n _ dX12_readText_9 rfl ?_
      refine xt_getr _ dX12_readText_10 kfX12_35 (by first | exact sh152 | exact sh161 | exact sh162 | rfl | assumption) rfl ?_
      refine xt_iload_n _ dX12_readText_13 rfl ?_
      refine xt_iload_n _ dX12_readText_14 rfl ?_
      refine xt_if_ne 27 dX12_readText_15 (by decide) (fun _ => ?_) (fun q => absurd q (by decide))
      refine xt_iconst (0) dX12_readText_27 (by decide) ?_
      refine xt_ast dX12_readText_28 (by first | exact sh152 | exact sh161 | exact sh162 | rfl | assumption) (by exact vp_in_nI (by omega) (by decide)) ?_
      refine xt_inc _ (1) dX12_readText_29 rfl (by decide) (by decide) rfl ?_
      change x_T _ _ _ _ [_, _, _] _ _ _ _
      refine xt_goto 2 dX12_readText_32 (by decide) ?_
      refine x_T.ls (by rw [nI_succ m]) (ih2 (m + 1) _ (fun i hi => ?_) (fun a h => by rw [x_u_ne h]; exact hf a h) (by omega))
      rw [x_u_eq, nI_clamp (by omega)]
      by_cases he : i = m
      · rw [he, pk_us]
        skip
        exact s_g01 m
      · rw [pk_un he]; exact hD i (by omega)
  exact L2 161 0 μ (fun i h => absurd h (by omega)) (fun _ _ => rfl) (by omega)
set_option maxHeartbeats 8000000 in
theorem tX12_readText2 (T : Nat → Nat) (L : Nat) (hB : m_B μ T L) : x_K sc (d + 6) mX12_readText [.ref 152, .int 2] μ w (fun r μ' _ => r = some (.int (if (s_flt T L 2).1 = 0 then 1 else 0)) ∧ μ' 155 0 = nI (s_flt T L 2).1 ∧ μ' 156 0 = (if (s_flt T L 2).1 = 0 then -1 else nI (s_flt T L 2).2) ∧ ((s_flt T L 2).1 = 0 → ∀ i, i < 161 → μ' 161 i = s_tv 2 i ((s_rr T L 2).2.2.2.1 i)) ∧ (∀ j, j ≠ 0 → μ' 155 j = μ 155 j ∧ μ' 156 j = μ 156 j) ∧ ∀ a, a ≠ 152 → a ≠ 155 → a ≠ 156 → a ≠ 161 → a ≠ 162 → μ' a = μ a) := by
  refine x_K.of (by decide) (Nat.le_of_ble_eq_true rfl) ?_
  show x_T sc (d + 6) mX12_readText 0 [.ref 152, .int 2, .retAddr 0] [] μ w _
  refine xt_iconst (0) dX12_readText_0 (by decide) ?_
  refine xt_istore_n dX12_readText_1 (by decide) rfl ?_
  change x_T _ _ _ _ [_, _, _] _ _ _ _
  have L2 : ∀ (n2 m : Nat) (μ2 : x_Me) (hD : ∀ i, i < m → μ2 161 i = s_tv 2 i (s_g0 2 i)) (hf : ∀ a, a ≠ 161 → μ2 a = μ a), m + n2 = 161 → x_T sc (d + 6) mX12_readText 2 [.ref 152, .int 2, .int (nI m)] [] μ2 w (fun r μ' _ => r = some (.int (if (s_flt T L 2).1 = 0 then 1 else 0)) ∧ μ' 155 0 = nI (s_flt T L 2).1 ∧ μ' 156 0 = (if (s_flt T L 2).1 = 0 then -1 else nI (s_flt T L 2).2) ∧ ((s_flt T L 2).1 = 0 → ∀ i, i < 161 → μ' 161 i = s_tv 2 i ((s_rr T L 2).2.2.2.1 i)) ∧ (∀ j, j ≠ 0 → μ' 155 j = μ 155 j ∧ μ' 156 j = μ 156 j) ∧ ∀ a, a ≠ 152 → a ≠ 155 → a ≠ 156 → a ≠ 161 → a ≠ 162 → μ' a = μ a) := by
    intro n2
    induction n2 with
    | zero =>
      intro m μ2 hD hf hmn
      obtain rfl : 161 = m := by omega
      refine xt_iload_n _ dX12_readText_2 rfl ?_
      refine xt_sipush (161) dX12_readText_3 (by decide) ?_
      refine xt_icmp_ge 35 dX12_readText_6 (by decide) (fun _ => ?_) (fun q => absurd (by decide) q)
      refine xt_aload_n _ dX12_readText_35 rfl ?_
      refine xt_iconst (-1) dX12_readText_36 (by decide) ?_
      refine xt_puti dX12_readText_37 kpX12_150 (by first | exact sh152 | exact sh161 | exact sh162 | rfl | assumption) rfl (by first | rfl | assumption) (by first | rfl | assumption) ?_
      refine xt_aload_n _ dX12_readText_40 rfl ?_
      refine xt_iconst (0) dX12_readText_41 (by decide) ?_
      refine xt_puti dX12_readText_42 kpX12_92 (by first | exact sh152 | exact sh161 | exact sh162 | rfl | assumption) rfl (by first | rfl | assumption) (by first | rfl | assumption) ?_
      refine xt_aload_n _ dX12_readText_45 rfl ?_
      refine xt_iconst (0) dX12_readText_46 (by decide) ?_
      refine xt_puti dX12_readText_47 kpX12_118 (by first | exact sh152 | exact sh161 | exact sh162 | rfl | assumption) rfl (by first | rfl | assumption) (by first | rfl | assumption) ?_
      refine xt_aload_n _ dX12_readText_50 rfl ?_
      have hB1 : m_B (x_u (x_u (x_u μ2 152 (upd (μ2 152) 20 (-1))) 152 (upd (x_u μ2 152 (upd (μ2 152) 20 (-1)) 152) 9 0)) 152 (upd (x_u (x_u μ2 152 (upd (μ2 152) 20 (-1))) 152 (upd (x_u μ2 152 (upd (μ2 152) 20 (-1)) 152) 9 0) 152) 16 0)) T L := hB.cg (by rw [x_u_eq, pk_un (by decide), x_u_eq, pk_un (by decide), x_u_eq, pk_un (by decide), hf 152 (by decide)]) (by rw [x_u_ne (by decide), x_u_ne (by decide), x_u_ne (by decide), hf 153 (by decide)])
      refine xt_callV _ dX12_readText_51 klX12_136 (tX12_token sc _ (x_u (x_u (x_u μ2 152 (upd (μ2 152) 20 (-1))) 152 (upd (x_u μ2 152 (upd (μ2 152) 20 (-1)) 152) 9 0)) 152 (upd (x_u (x_u μ2 152 (upd (μ2 152) 20 (-1))) 152 (upd (x_u μ2 152 (upd (μ2 152) 20 (-1)) 152) 9 0) 152) 16 0)) w T L hB1 0 (Nat.zero_le _) (by rw [x_u_eq, pk_un (by decide), x_u_eq, pk_us]; rfl)) sh152 rfl rfl (Nat.le_of_ble_eq_true rfl) (fun r3 μ3 w3 q3 => ?_)
      obtain ⟨rfl, q3⟩ := q3
      change x_T _ _ _ _ _ _ _ _ _
      have hK3 := m_K.next hB1 (Nat.zero_le _) q3
      have h161 : ∀ i, i < 161 → μ3 161 i = s_tv 2 i (s_g0 2 i) := fun i hi => by
        rw [q3.2.2.2.2.2.2 161 (by decide), x_u_ne (by decide), x_u_ne (by decide), x_u_ne (by decide)]
        exact hD i hi
      have hF3 : m_F μ3 (0, 0) 0 := ⟨by decide, by rw [q3.2.2.2.2.2.1 16 (by decide) (by decide) (by decide) (by decide), x_u_eq, pk_us]; rfl, fun h => absurd rfl h⟩
      have hC3 : m_C μ3 2 (0, 0) (s_g0 2) 0 := ⟨fun _ => ⟨h161, by rw [q3.2.2.2.2.2.1 20 (by decide) (by decide) (by decide) (by decide), x_u_eq, pk_un (by decide), x_u_eq, pk_un (by decide), x_u_eq, pk_us]; exact eI_0.symm⟩, fun h => absurd h (by decide), fun h => absurd h (by decide), fun _ => ⟨0, Nat.zero_le _, h161 1 (by decide)⟩⟩
      have hf3 : ∀ a, a ≠ 152 → a ≠ 161 → μ3 a = μ a := fun a h1 h2 => by rw [q3.2.2.2.2.2.2 a h1, x_u_ne h1, x_u_ne h1, x_u_ne h1, hf a h2]
      refine xt_aload_n _ dX12_readText_54 rfl ?_
      refine xt_iload_n _ dX12_readText_55 rfl ?_
      refine xt_callV _ dX12_readText_56 klX12_228 (tX12_allLines2 sc _ μ3 w3 T L (s_g0 2) hK3 hF3 hC3 (s_g0_W 2)) sh152 rfl rfl (Nat.le_of_ble_eq_true rfl) (fun r6 μ6 w6 q6 => ?_)
      change _ ∧ ((s_rr T L 2).1 = true → m_F μ6 (s_rr T L 2).2.2.1 1000 ∧ m_C μ6 2 (s_rr T L 2).2.2.1 (s_rr T L 2).2.2.2.1 (s_rr T L 2).2.2.2.2 ∧ μ6 152 11 = nI (s_rr T L 2).2.1) ∧ ((s_rr T L 2).1 = false → μ6 152 15 = nI (s_rr T L 2).2.1) ∧ (∀ a, a ≠ 152 → a ≠ 161 → a ≠ 162 → μ6 a = μ3 a) at q6
      obtain ⟨q6r, q6a, q6b, hf6⟩ := q6
      have hfr6 : ∀ a, a ≠ 152 → a ≠ 161 → a ≠ 162 → μ6 a = μ a := fun a h1 h2 h3 => (hf6 a h1 h2 h3).trans (hf3 a h1 h2)
      cases hr1 : (s_rr T L 2).1
      · rw [show (s_goo T L 2 601 0 (0, 0) (s_g0 2) 0).1 = false from hr1] at q6r
        obtain rfl : r6 = some (.int 0) := q6r
        change x_T _ _ _ _ _ (.int 0 :: _) _ _ _
        have hft : (s_flt T L 2) = (1, (s_rr T L 2).2.1) := by rw [s_flt, if_pos hr1]
        have h15 := q6b hr1
        refine xt_istore_n dX12_readText_59 (by decide) rfl ?_
        change x_T _ _ _ _ [_, _, _] _ _ _ _
        refine xt_iload_n _ dX12_readText_60 rfl ?_
        refine xt_if_eq 97 dX12_readText_61 (by decide) (fun _ => ?_) (fun q => absurd (by decide) q)
        refine xt_aload_n _ dX12_readText_97 rfl ?_
        refine xt_getr _ dX12_readText_98 kfX12_17 (by first | exact sh152 | exact sh161 | exact sh162 | rfl | assumption) rfl ?_
        refine xt_iconst (0) dX12_readText_101 (by decide) ?_
        refine xt_iload_n _ dX12_readText_102 rfl ?_
        refine xt_if_eq 113 dX12_readText_103 (by decide) (fun _ => ?_) (fun q => absurd (by decide) q)
        refine xt_iconst (1) dX12_readText_113 (by decide) ?_
        refine xt_ast dX12_readText_114 (by first | exact sh152 | exact sh161 | exact sh162 | rfl | assumption) (by unfold vp_in; decide) ?_
        refine xt_aload_n _ dX12_readText_115 rfl ?_
        refine xt_getr _ dX12_readText_116 kfX12_20 (by first | exact sh152 | exact sh161 | exact sh162 | rfl | assumption) rfl ?_
        refine xt_iconst (0) dX12_readText_119 (by decide) ?_
        refine xt_iload_n _ dX12_readText_120 rfl ?_
        refine xt_if_ne 131 dX12_readText_121 (by decide) (fun q => absurd (by decide) q) (fun _ => ?_)
        refine xt_aload_n _ dX12_readText_124 rfl ?_
        refine xt_geti dX12_readText_125 kfX12_115 (by first | exact sh152 | exact sh161 | exact sh162 | rfl | assumption) rfl ?_
        refine xt_goto 146 dX12_readText_128 (by decide) ?_
        refine xt_ast dX12_readText_146 (by first | exact sh152 | exact sh161 | exact sh162 | rfl | assumption) (by unfold vp_in; decide) ?_
        refine xt_aload_n _ dX12_readText_147 rfl ?_
        refine xt_getr _ dX12_readText_148 kfX12_17 (by first | exact sh152 | exact sh161 | exact sh162 | rfl | assumption) rfl ?_
        refine xt_iconst (0) dX12_readText_151 (by decide) ?_
        refine xt_ald dX12_readText_152 (by first | exact sh152 | exact sh161 | exact sh162 | rfl | assumption) (by unfold vp_in; decide) ?_
        rw [x_u_ne (by decide), x_u_eq, cl0, pk_us]
        refine xt_if_ne 160 dX12_readText_153 (by decide) (fun _ => ?_) (fun q => absurd q (by decide))
        refine xt_iconst (0) dX12_readText_160 (by decide) ?_
        exact xt_iret .boolean dX12_readText_161 rfl (by first | rfl | assumption) ⟨by rw [hft]; rfl, by rw [x_u_ne (by decide), x_u_eq, pk_us, hft]; rfl, by rw [x_u_eq, pk_us, x_u_ne (by decide), h15, hft]; rfl, fun z => by rw [hft] at z; exact absurd z (show ¬ (1 : Nat) = 0 by decide), fun j hj => ⟨by rw [x_u_ne (by decide), x_u_eq, pk_un hj, hfr6 155 (by decide) (by decide) (by decide)], by rw [x_u_eq, pk_un hj, x_u_ne (by decide), hfr6 156 (by decide) (by decide) (by decide)]⟩, fun a h1 h2 h3 h4 h5 => by rw [x_u_ne h3, x_u_ne h2]; exact hfr6 a h1 h4 h5⟩
      · rw [show (s_goo T L 2 601 0 (0, 0) (s_g0 2) 0).1 = true from hr1] at q6r
        obtain rfl : r6 = some (.int 1) := q6r
        change x_T _ _ _ _ _ (.int 1 :: _) _ _ _
        obtain ⟨hF6, hC6, h11⟩ := q6a hr1
        have hRL : (s_rr T L 2).2.1 = L := s_goo_L hB.2.2.2 601 0 (0, 0) _ 0 (Nat.zero_le _) hr1
        rw [hRL] at h11
        have h4 := hF6.1
        have hft : (s_flt T L 2) = (if (s_rr T L 2).2.2.1.1 ≠ 0 then (s_rr T L 2).2.2.1 else if 2 = 0 ∧ (s_rr T L 2).2.2.2.1 4 < (s_rr T L 2).2.2.2.2 then (4, L) else (0, 0)) := by rw [s_flt, if_neg (by rw [hr1]; decide)]
        refine xt_istore_n dX12_readText_59 (by decide) rfl ?_
        change x_T _ _ _ _ [_, _, _] _ _ _ _
        refine xt_iload_n _ dX12_readText_60 rfl ?_
        refine xt_if_eq 97 dX12_readText_61 (by decide) (fun q => absurd q (by decide)) (fun _ => ?_)
        refine xt_iload_n _ dX12_readText_64 rfl ?_
        refine xt_if_ne 97 dX12_readText_65 (by decide) (fun _ => ?_) (fun q => absurd q (by decide))
        have hfin : μ6 152 16 = nI (s_flt T L 2).1 ∧ ((s_flt T L 2).1 ≠ 0 → μ6 152 17 = nI (s_flt T L 2).2) ∧ ((s_flt T L 2).1 = 0 → (s_rr T L 2).2.2.1.1 = 0) ∧ (s_flt T L 2).1 ≤ 4 := by
          rw [hft]
          by_cases hz : (s_rr T L 2).2.2.1.1 ≠ 0
          · rw [if_pos hz]; exact ⟨hF6.2.1, fun h => (hF6.2.2 h).1, fun h => h, h4⟩
          · rw [if_neg hz, if_neg (fun z => absurd z.1 (by decide))]
            have hz := Classical.byContradiction hz
            exact ⟨by rw [hF6.2.1, hz], fun h => absurd rfl h, fun _ => hz, by decide⟩
        refine xt_aload_n _ dX12_readText_97 rfl ?_
        refine xt_getr _ dX12_readText_98 kfX12_17 (by first | exact sh152 | exact sh161 | exact sh162 | rfl | assumption) rfl ?_
        refine xt_iconst (0) dX12_readText_101 (by decide) ?_
        refine xt_iload_n _ dX12_readText_102 rfl ?_
        refine xt_if_eq 113 dX12_readText_103 (by decide) (fun q => absurd q (by decide)) (fun _ => ?_)
        refine xt_aload_n _ dX12_readText_106 rfl ?_
        refine xt_geti dX12_readText_107 kfX12_118 (by first | exact sh152 | exact sh161 | exact sh162 | rfl | assumption) rfl ?_
        rw [hfin.1]
        refine xt_goto 114 dX12_readText_110 (by decide) ?_
        refine xt_ast dX12_readText_114 (by first | exact sh152 | exact sh161 | exact sh162 | rfl | assumption) (by unfold vp_in; decide) ?_
        refine xt_aload_n _ dX12_readText_115 rfl ?_
        refine xt_getr _ dX12_readText_116 kfX12_20 (by first | exact sh152 | exact sh161 | exact sh162 | rfl | assumption) rfl ?_
        refine xt_iconst (0) dX12_readText_119 (by decide) ?_
        refine xt_iload_n _ dX12_readText_120 rfl ?_
        refine xt_if_ne 131 dX12_readText_121 (by decide) (fun _ => ?_) (fun q => absurd q (by decide))
        refine xt_aload_n _ dX12_readText_131 rfl ?_
        refine xt_geti dX12_readText_132 kfX12_118 (by first | exact sh152 | exact sh161 | exact sh162 | rfl | assumption) rfl ?_
        rw [x_u_ne (by decide), hfin.1]
        refine xt_if_le 145 dX12_readText_135 (by decide) (fun t135 => ?_) (fun f135 => ?_)
        · have hzF : (s_flt T L 2).1 = 0 := (nI_le0 (by have := hfin.2.2.2; omega)).mp t135
          refine xt_iconst (-1) dX12_readText_145 (by decide) ?_
          refine xt_ast dX12_readText_146 (by first | exact sh152 | exact sh161 | exact sh162 | rfl | assumption) (by unfold vp_in; decide) ?_
          refine xt_aload_n _ dX12_readText_147 rfl ?_
          refine xt_getr _ dX12_readText_148 kfX12_17 (by first | exact sh152 | exact sh161 | exact sh162 | rfl | assumption) rfl ?_
          refine xt_iconst (0) dX12_readText_151 (by decide) ?_
          refine xt_ald dX12_readText_152 (by first | exact sh152 | exact sh161 | exact sh162 | rfl | assumption) (by unfold vp_in; decide) ?_
          rw [x_u_ne (by decide), x_u_eq, cl0, pk_us]
          refine xt_if_ne 160 dX12_readText_153 (by decide) (fun q => absurd (by rw [hzF]; rfl) q) (fun _ => ?_)
          refine xt_iconst (1) dX12_readText_156 (by decide) ?_
          refine xt_goto 161 dX12_readText_157 (by decide) ?_
          exact xt_iret .boolean dX12_readText_161 rfl (by first | rfl | assumption) ⟨by rw [if_pos hzF], by rw [x_u_ne (by decide), x_u_eq, pk_us], by rw [x_u_eq, pk_us, if_pos hzF], fun z i hi => by rw [x_u_ne (by decide), x_u_ne (by decide)]; exact (hC6.1 (hfin.2.2.1 z)).1 i hi, fun j hj => ⟨by rw [x_u_ne (by decide), x_u_eq, pk_un hj, hfr6 155 (by decide) (by decide) (by decide)], by rw [x_u_eq, pk_un hj, x_u_ne (by decide), hfr6 156 (by decide) (by decide) (by decide)]⟩, fun a h1 h2 h3 h4 h5 => by rw [x_u_ne h3, x_u_ne h2]; exact hfr6 a h1 h4 h5⟩
        · have hzF : ¬ (s_flt T L 2).1 = 0 := fun z => f135 ((nI_le0 (by have := hfin.2.2.2; omega)).mpr z)
          refine xt_aload_n _ dX12_readText_138 rfl ?_
          refine xt_geti dX12_readText_139 kfX12_121 (by first | exact sh152 | exact sh161 | exact sh162 | rfl | assumption) rfl ?_
          rw [x_u_ne (by decide), hfin.2.1 hzF]
          refine xt_goto 146 dX12_readText_142 (by decide) ?_
          refine xt_ast dX12_readText_146 (by first | exact sh152 | exact sh161 | exact sh162 | rfl | assumption) (by unfold vp_in; decide) ?_
          refine xt_aload_n _ dX12_readText_147 rfl ?_
          refine xt_getr _ dX12_readText_148 kfX12_17 (by first | exact sh152 | exact sh161 | exact sh162 | rfl | assumption) rfl ?_
          refine xt_iconst (0) dX12_readText_151 (by decide) ?_
          refine xt_ald dX12_readText_152 (by first | exact sh152 | exact sh161 | exact sh162 | rfl | assumption) (by unfold vp_in; decide) ?_
          rw [x_u_ne (by decide), x_u_eq, cl0, pk_us]
          refine xt_if_ne 160 dX12_readText_153 (by decide) (fun _ => ?_) (fun q => absurd ((nI_eq (b := 0) (by have := hfin.2.2.2; omega) (by decide)).mp q) hzF)
          refine xt_iconst (0) dX12_readText_160 (by decide) ?_
          exact xt_iret .boolean dX12_readText_161 rfl (by first | rfl | assumption) ⟨by rw [if_neg hzF], by rw [x_u_ne (by decide), x_u_eq, pk_us], by rw [x_u_eq, pk_us, if_neg hzF], fun z i hi => by rw [x_u_ne (by decide), x_u_ne (by decide)]; exact (hC6.1 (hfin.2.2.1 z)).1 i hi, fun j hj => ⟨by rw [x_u_ne (by decide), x_u_eq, pk_un hj, hfr6 155 (by decide) (by decide) (by decide)], by rw [x_u_eq, pk_un hj, x_u_ne (by decide), hfr6 156 (by decide) (by decide) (by decide)]⟩, fun a h1 h2 h3 h4 h5 => by rw [x_u_ne h3, x_u_ne h2]; exact hfr6 a h1 h4 h5⟩
    | succ n2 ih2 =>
      intro m μ2 hD hf hmn
      have hlt : m < 161 := by omega
      refine xt_iload_n _ dX12_readText_2 rfl ?_
      refine xt_sipush (161) dX12_readText_3 (by decide) ?_
      refine xt_icmp_ge 35 dX12_readText_6 (by decide) (fun q => absurd q (nI_ge (b := 161) hlt (by decide))) (fun _ => ?_)
      refine xt_aload_n _ dX12_readText_9 rfl ?_
      refine xt_getr _ dX12_readText_10 kfX12_35 (by first | exact sh152 | exact sh161 | exact sh162 | rfl | assumption) rfl ?_
      refine xt_iload_n _ dX12_readText_13 rfl ?_
      refine xt_iload_n _ dX12_readText_14 rfl ?_
      refine xt_if_ne 27 dX12_readText_15 (by decide) (fun _ => ?_) (fun q => absurd q (by decide))
      refine xt_iconst (0) dX12_readText_27 (by decide) ?_
      refine xt_ast dX12_readText_28 (by first | exact sh152 | exact sh161 | exact sh162 | rfl | assumption) (by exact vp_in_nI (by omega) (by decide)) ?_
      refine xt_inc _ (1) dX12_readText_29 rfl (by decide) (by decide) rfl ?_
      change x_T _ _ _ _ [_, _, _] _ _ _ _
      refine xt_goto 2 dX12_readText_32 (by decide) ?_
      refine x_T.ls (by rw [nI_succ m]) (ih2 (m + 1) _ (fun i hi => ?_) (fun a h => by rw [x_u_ne h]; exact hf a h) (by omega))
      rw [x_u_eq, nI_clamp (by omega)]
      by_cases he : i = m
      · rw [he, pk_us]
        show _ = nI (if 2 = 0 ∧ m < 2 then 5 else if 2 = 1 ∧ m ≠ 0 then 1 else 0)
        rw [if_neg (by omega), if_neg (by omega)]; rfl
      · rw [pk_un he]; exact hD i (by omega)
  exact L2 161 0 μ (fun i h => absurd h (by omega)) (fun _ _ => rfl) (by omega)
end READM
