/-! texts: the reference reads its lines -/
theorem s_nx_W {T : Nat → Nat} {L s k p a : Nat} {φ : Nat × Nat} {G : Nat → Nat} (hs : s_of s k) (hW : g_W s G) : g_W s (if (s_nf T L k p (s_blm φ (s_fl k G) 3 a) (s_gv k)).1 = 0 then s_kp k (s_nv T L p) G else G) := by
  by_cases hz : (s_nf T L k p (s_blm φ (s_fl k G) 3 a) (s_gv k)).1 = 0
  · rw [if_pos hz]
    obtain ⟨h1, h2⟩ := s_nf_0 hz
    exact s_kpW hs hW (s_blm_0 (by decide) h1).2 (s_bd_rg rfl h2)
  · rw [if_neg hz]; exact hW
theorem s_nx_m {T : Nat → Nat} {L k p : Nat} {φ : Nat × Nat} {mx : Nat} (hm : mx ≤ 100) : (if (s_nf T L k p φ (s_gv k)).1 = 0 then s_mxl k (s_nv T L p) mx else mx) ≤ 100 := by
  by_cases hz : (s_nf T L k p φ (s_gv k)).1 = 0
  · rw [if_pos hz]
    unfold s_mxl
    by_cases hk : k = 4
    · rw [if_pos hk]
      subst hk
      have h := (s_nf_0 hz).2 0 (by decide)
      have h1 := of_decide_eq_false h
      have h2 : s_nv T L p 0 ≤ 7 := Nat.le_of_not_lt (fun z => h1 (.inr z))
      omega
    · rw [if_neg hk]; exact hm
  · rw [if_neg hz]; exact hm
theorem s_goo_L {T : Nat → Nat} {L s : Nat} (hT : ∀ i, L ≤ i → T i = 0) : ∀ (n p : Nat) (φ : Nat × Nat) (G : Nat → Nat) (mx : Nat), p ≤ L → (s_goo T L s n p φ G mx).1 = true → (s_goo T L s n p φ G mx).2.1 = L
  | 0, _, _, _, _, _, h => absurd h (show ¬ false = true by decide)
  | n + 1, p, φ, G, mx, hp, h => by
    have hsl := s_sp_le hT hp
    have htl := s_te_le hT hp
    rw [s_goo] at h ⊢
    by_cases h0 : s_kd T L p = 0
    · rw [if_pos h0]
      show s_sp T L p = L
      have : L ≤ s_sp T L p := Classical.byContradiction (fun z => by
        have h3 : s_kq T L (s_sp T L p) = 0 := h0
        unfold s_kq at h3
        rw [if_neg z] at h3
        split at h3
        · exact absurd h3 (by decide)
        · split at h3
          · exact absurd h3 (by decide)
          · split at h3
            · split at h3 <;> exact absurd h3 (by decide)
            · exact absurd h3 (by decide))
      omega
    · rw [if_neg h0] at h ⊢
      by_cases h1 : s_kd T L p = 1 ∧ s_ln T s (s_sp T L p) (s_te T L p - s_sp T L p) ≠ 0
      · rw [if_pos h1] at h ⊢
        by_cases h2 : s_okl T L (s_te T L p) (s_gv (s_lk T L s p)) = true
        · rw [if_pos h2] at h ⊢
          exact s_goo_L hT n _ _ _ _ (s_te_le hT (s_qs_le hT htl.2.2 _).2).2.2 h
        · rw [if_neg h2] at h; exact absurd h (show ¬ false = true by decide)
      · rw [if_neg h1] at h; exact absurd h (show ¬ false = true by decide)
section ALLM
variable (sc : Nat × (Nat → Int32)) (d : Nat) (μ : x_Me) (w : Int64)
set_option maxHeartbeats 8000000 in
theorem tX12_allLines0 (T : Nat → Nat) (L : Nat) (G0 : Nat → Nat) (hK : m_K μ w T L 0) (hF : m_F μ (0, 0) 0) (hC : m_C μ 0 (0, 0) G0 0) (hW : g_W 0 G0) : x_K sc (d + 5) mX12_allLines [.ref 152, .int 0] μ w (fun r μ' _ => r = some (.int (if (s_goo T L 0 601 0 (0, 0) G0 0).1 then 1 else 0)) ∧ ((s_goo T L 0 601 0 (0, 0) G0 0).1 = true → m_F μ' (s_goo T L 0 601 0 (0, 0) G0 0).2.2.1 1000 ∧ m_C μ' 0 (s_goo T L 0 601 0 (0, 0) G0 0).2.2.1 (s_goo T L 0 601 0 (0, 0) G0 0).2.2.2.1 (s_goo T L 0 601 0 (0, 0) G0 0).2.2.2.2 ∧ μ' 152 11 = nI (s_goo T L 0 601 0 (0, 0) G0 0).2.1) ∧ ((s_goo T L 0 601 0 (0, 0) G0 0).1 = false → μ' 152 15 = nI (s_goo T L 0 601 0 (0, 0) G0 0).2.1) ∧ ∀ a, a ≠ 152 → a ≠ 161 → a ≠ 162 → μ' a = μ a) := by
  refine x_K.of (by decide) (Nat.le_of_ble_eq_true rfl) ?_
  show x_T sc (d + 5) mX12_allLines 0 [.ref 152, .int 0, .retAddr 0, .retAddr 0, .retAddr 0, .retAddr 0] [] μ w _
  refine xt_iconst (1) dX12_allLines_0 (by decide) ?_
  refine xt_istore_n dX12_allLines_1 (by decide) rfl ?_
  change x_T _ _ _ _ [_, _, _, _, _, _] _ _ _ _
  have L2 : ∀ (n2 m : Nat) (p : Nat) (φ : Nat × Nat) (G : Nat → Nat) (mx : Nat) (μ2 : x_Me) (w2 : Int64) (v3 v4 v5 : Value) (hK2 : m_K μ2 w2 T L p) (hF2 : m_F μ2 φ p) (hC2 : m_C μ2 0 φ G mx) (hW2 : g_W 0 G) (hmx : mx ≤ 100) (hpl : L + 1 ≤ p + n2) (hf2 : ∀ a, a ≠ 152 → a ≠ 161 → a ≠ 162 → μ2 a = μ a), m + n2 = 601 → x_T sc (d + 5) mX12_allLines 2 [.ref 152, .int 0, .int 1, v3, v4, v5] [] μ2 w2 (fun r μ' _ => r = some (.int (if (s_goo T L 0 n2 p φ G mx).1 then 1 else 0)) ∧ ((s_goo T L 0 n2 p φ G mx).1 = true → m_F μ' (s_goo T L 0 n2 p φ G mx).2.2.1 1000 ∧ m_C μ' 0 (s_goo T L 0 n2 p φ G mx).2.2.1 (s_goo T L 0 n2 p φ G mx).2.2.2.1 (s_goo T L 0 n2 p φ G mx).2.2.2.2 ∧ μ' 152 11 = nI (s_goo T L 0 n2 p φ G mx).2.1) ∧ ((s_goo T L 0 n2 p φ G mx).1 = false → μ' 152 15 = nI (s_goo T L 0 n2 p φ G mx).2.1) ∧ ∀ a, a ≠ 152 → a ≠ 161 → a ≠ 162 → μ' a = μ a) := by
    intro n2
    induction n2 with
    | zero =>
      intro m p φ G mx μ2 w2 v3 v4 v5 hK2 hF2 hC2 hW2 hmx hpl hf2 hmn
      exact absurd hK2.2.1 (by omega)
    | succ n2 ih2 =>
      intro m p φ G mx μ2 w2 v3 v4 v5 hK2 hF2 hC2 hW2 hmx hpl hf2 hmn
      have hlt : m < 601 := by omega
      have hT := hK2.1.2.2.2
      have hL6 := hK2.1.2.1
      have htl := s_te_le hT hK2.2.1
      refine xt_iload_n _ dX12_allLines_2 rfl ?_
      refine xt_if_eq 106 dX12_allLines_3 (by decide) (fun q => absurd q (by decide)) (fun _ => ?_)
      refine xt_aload_n _ dX12_allLines_6 rfl ?_
      refine xt_geti dX12_allLines_7 kfX12_109 (by first | exact sh152 | exact sh161 | exact sh162 | rfl | assumption) rfl ?_
      refine xt_if_eq 106 dX12_allLines_10 (by decide) (fun t10 => ?_) (fun f10 => ?_)
      · have hk0 : s_kd T L p = 0 := (hK2.kd (k := 0) (by decide)).mp t10
        have hgo : (s_goo T L 0 (n2 + 1) p φ G mx) = (true, (s_sp T L p), φ, G, mx) := by rw [s_goo, if_pos hk0]
        refine xt_iload_n _ dX12_allLines_106 rfl ?_
        exact xt_iret .boolean dX12_allLines_107 rfl (by first | rfl | assumption) ⟨by rw [hgo]; rfl, fun _ => by rw [hgo]; exact ⟨hF2.cg rfl rfl (by have := hK2.2.1; omega), hC2, hK2.2.2.1⟩, fun h => by rw [hgo] at h; exact absurd h (show ¬ true = false by decide), hf2⟩
      · have hk0 : ¬ s_kd T L p = 0 := fun z => f10 ((hK2.kd (k := 0) (by decide)).mpr z)
        refine xt_aload_n _ dX12_allLines_13 rfl ?_
        refine xt_geti dX12_allLines_14 kfX12_102 (by first | exact sh152 | exact sh161 | exact sh162 | rfl | assumption) rfl ?_
        rw [hK2.2.2.1]
        refine xt_istore_n dX12_allLines_17 (by decide) rfl ?_
        change x_T _ _ _ _ [_, _, _, _, _, _] _ _ _ _
        refine xt_aload_n _ dX12_allLines_18 rfl ?_
        refine xt_geti dX12_allLines_19 kfX12_109 (by first | exact sh152 | exact sh161 | exact sh162 | rfl | assumption) rfl ?_
        refine xt_iconst (2) dX12_allLines_22 (by decide) ?_
        refine xt_icmp_ne 33 dX12_allLines_23 (by decide) (fun t23 => ?_) (fun f23 => ?_)
        · have hk1 : ¬ s_kd T L p = 1 := fun z => t23 ((hK2.kd (k := 1) (by decide)).mpr z)
          refine xt_lconst (0) dX12_allLines_33 (by decide) ?_
          refine xt_lstore dX12_allLines_34 (by decide) rfl ?_
          change x_T _ _ _ _ [_, _, _, _, _, _] _ _ _ _
          refine xt_aload_n _ dX12_allLines_36 rfl ?_
          refine xt_iconst (1) dX12_allLines_37 (by decide) ?_
          refine xt_puti dX12_allLines_38 kpX12_132 (by first | exact sh152 | exact sh161 | exact sh162 | rfl | assumption) rfl (by first | rfl | assumption) (by first | rfl | assumption) ?_
          refine xt_iload_n _ dX12_allLines_41 rfl ?_
          refine xt_if_ne 55 dX12_allLines_42 (by decide) (fun q => absurd (by decide) q) (fun _ => ?_)
          refine xt_aload_n _ dX12_allLines_45 rfl ?_
          refine xt_lload _ dX12_allLines_46 rfl ?_
          refine xt_iload_n _ dX12_allLines_48 rfl ?_
          refine xt_callV _ dX12_allLines_49 klX12_218 (tX12_fairLine sc _ (x_u μ2 152 (upd (μ2 152) 21 1)) w2 T L p φ G mx (hK2.cg (fun j h1 h2 => by rw [x_u_eq, pk_un (by omega)]) rfl) (hF2.cg rfl rfl (Nat.le_refl _)) rfl ⟨fun z => ⟨(hC2.1 z).1, (hC2.1 z).2⟩, hC2.2⟩ hW2 hmx (fun _ => false) 0 (fun j hj => ⟨fun h => absurd h (s_W_0 j hj), fun h => absurd h (by decide)⟩) (fun _ h => absurd h (by decide))) sh152 rfl rfl (Nat.le_of_ble_eq_true rfl) (fun r3 μ3 w3 q3 => ?_)
          have hz : s_fp (fun i => (fun _ => false) (s_fA 0 + i)) (s_fA (0 + 1) - s_fA 0) = 0 := s_fp_z (fun _ _ => rfl)
          obtain ⟨rfl, hwr, hf3⟩ := q3.1 hz
          change x_T _ _ _ _ _ (.int 0 :: _) _ _ _
          have hfz : ∀ a, a ≠ 152 → a ≠ 161 → a ≠ 162 → μ3 a = μ a := fun a h1 h2 h3 => by rw [hf3 a h1 h2 h3, x_u_ne h1]; exact hf2 a h1 h2 h3
          have hgo : (s_goo T L 0 (n2 + 1) p φ G mx) = (false, (s_sp T L p), φ, G, mx) := by rw [s_goo, if_neg hk0, if_neg (fun z => hk1 z.1)]
          refine xt_goto 77 dX12_allLines_52 (by decide) ?_
          refine xt_istore_n dX12_allLines_77 (by decide) rfl ?_
          change x_T _ _ _ _ [_, _, _, _, _, _] _ _ _ _
          refine xt_iload_n _ dX12_allLines_78 rfl ?_
          refine xt_if_eq 95 dX12_allLines_79 (by decide) (fun _ => ?_) (fun q => absurd (by decide) q)
          refine xt_iload_n _ dX12_allLines_95 rfl ?_
          refine xt_if_eq 103 dX12_allLines_96 (by decide) (fun _ => ?_) (fun q => absurd (by decide) q)
          refine xt_goto 2 dX12_allLines_103 (by decide) ?_
          refine xt_iload_n _ dX12_allLines_2 rfl ?_
          refine xt_if_eq 106 dX12_allLines_3 (by decide) (fun _ => ?_) (fun q => absurd rfl q)
          refine xt_iload_n _ dX12_allLines_106 rfl ?_
          exact xt_iret .boolean dX12_allLines_107 rfl (by rfl) ⟨by rw [hgo]; rfl, fun h => by rw [hgo] at h; exact absurd h (show ¬ false = true by decide), fun _ => by rw [hgo]; exact hwr, hfz⟩
        · have hk1 : s_kd T L p = 1 := (hK2.kd (k := 1) (by decide)).mp f23
          refine xt_aload_n _ dX12_allLines_26 rfl ?_
          refine xt_getl dX12_allLines_27 kfX12_105 (by first | exact sh152 | exact sh161 | exact sh162 | rfl | assumption) rfl ?_
          refine xt_goto 34 dX12_allLines_30 (by decide) ?_
          refine xt_lstore dX12_allLines_34 (by decide) rfl ?_
          change x_T _ _ _ _ [_, _, _, _, _, _] _ _ _ _
          refine xt_aload_n _ dX12_allLines_36 rfl ?_
          refine xt_iconst (1) dX12_allLines_37 (by decide) ?_
          refine xt_puti dX12_allLines_38 kpX12_132 (by first | exact sh152 | exact sh161 | exact sh162 | rfl | assumption) rfl (by first | rfl | assumption) (by first | rfl | assumption) ?_
          refine xt_iload_n _ dX12_allLines_41 rfl ?_
          refine xt_if_ne 55 dX12_allLines_42 (by decide) (fun q => absurd (by decide) q) (fun _ => ?_)
          refine xt_aload_n _ dX12_allLines_45 rfl ?_
          refine xt_lload _ dX12_allLines_46 rfl ?_
          refine xt_iload_n _ dX12_allLines_48 rfl ?_
          refine xt_callV _ dX12_allLines_49 klX12_218 (tX12_fairLine sc _ (x_u μ2 152 (upd (μ2 152) 21 1)) w2 T L p φ G mx (hK2.cg (fun j h1 h2 => by rw [x_u_eq, pk_un (by omega)]) rfl) (hF2.cg rfl rfl (Nat.le_refl _)) rfl ⟨fun z => ⟨(hC2.1 z).1, (hC2.1 z).2⟩, hC2.2⟩ hW2 hmx (s_nb T (s_sp T L p) ((s_te T L p) - (s_sp T L p))) w2 (fun j hj => by rw [hK2.2.2.2.2.2.2 hk1]; exact s_wd_W hT hK2.1.lt hK2.2.1 hk1 hj) (fun _ _ => hk1)) sh152 rfl rfl (Nat.le_of_ble_eq_true rfl) (fun r3 μ3 w3 q3 => ?_)
          by_cases hz : s_fp (fun i => (s_nb T (s_sp T L p) ((s_te T L p) - (s_sp T L p))) (s_fA 0 + i)) (s_fA (0 + 1) - s_fA 0) = 0
          · obtain ⟨rfl, hwr, hf3⟩ := q3.1 hz
            change x_T _ _ _ _ _ (.int 0 :: _) _ _ _
            have hfz : ∀ a, a ≠ 152 → a ≠ 161 → a ≠ 162 → μ3 a = μ a := fun a h1 h2 h3 => by rw [hf3 a h1 h2 h3, x_u_ne h1]; exact hf2 a h1 h2 h3
            have hgo : (s_goo T L 0 (n2 + 1) p φ G mx) = (false, (s_sp T L p), φ, G, mx) := by rw [s_goo, if_neg hk0, if_neg (fun z => z.2 hz)]
            refine xt_goto 77 dX12_allLines_52 (by decide) ?_
            refine xt_istore_n dX12_allLines_77 (by decide) rfl ?_
            change x_T _ _ _ _ [_, _, _, _, _, _] _ _ _ _
            refine xt_iload_n _ dX12_allLines_78 rfl ?_
            refine xt_if_eq 95 dX12_allLines_79 (by decide) (fun _ => ?_) (fun q => absurd (by decide) q)
            refine xt_iload_n _ dX12_allLines_95 rfl ?_
            refine xt_if_eq 103 dX12_allLines_96 (by decide) (fun _ => ?_) (fun q => absurd (by decide) q)
            refine xt_goto 2 dX12_allLines_103 (by decide) ?_
            refine xt_iload_n _ dX12_allLines_2 rfl ?_
            refine xt_if_eq 106 dX12_allLines_3 (by decide) (fun _ => ?_) (fun q => absurd rfl q)
            refine xt_iload_n _ dX12_allLines_106 rfl ?_
            exact xt_iret .boolean dX12_allLines_107 rfl (by rfl) ⟨by rw [hgo]; rfl, fun h => by rw [hgo] at h; exact absurd h (show ¬ false = true by decide), fun _ => by rw [hgo]; exact hwr, hfz⟩
          · have hln : s_ln T 0 (s_sp T L p) ((s_te T L p) - (s_sp T L p)) ≠ 0 := hz
            obtain ⟨t, ht⟩ : ∃ t, s_fp (fun i => (s_nb T (s_sp T L p) ((s_te T L p) - (s_sp T L p))) (s_fA 0 + i)) (s_fA (0 + 1) - s_fA 0) = t + 1 := ⟨s_fp (fun i => (s_nb T (s_sp T L p) ((s_te T L p) - (s_sp T L p))) (s_fA 0 + i)) (s_fA (0 + 1) - s_fA 0) - 1, by omega⟩
            have q4 := q3.2 t ht
            have hkt : s_fA 0 + t = (s_lk T L 0 p) := by show s_fA 0 + t = s_fA 0 + (s_ln T 0 (s_sp T L p) ((s_te T L p) - (s_sp T L p)) - 1); rw [show s_ln T 0 (s_sp T L p) ((s_te T L p) - (s_sp T L p)) = t + 1 from ht]; rfl
            rw [hkt] at q4
            obtain ⟨q4a, q4b, hf3⟩ := q4
            have hfz : ∀ a, a ≠ 152 → a ≠ 161 → a ≠ 162 → μ3 a = μ a := fun a h1 h2 h3 => by rw [hf3 a h1 h2 h3, x_u_ne h1]; exact hf2 a h1 h2 h3
            by_cases hbn : s_bn T L (s_te T L p) (s_gv (s_lk T L 0 p)) = 0
            · obtain ⟨rfl, hK3, hF3, hC3⟩ := q4a hbn
              change x_T _ _ _ _ _ (.int 1 :: _) _ _ _
              refine xt_goto 77 dX12_allLines_52 (by decide) ?_
              refine xt_istore_n dX12_allLines_77 (by decide) rfl ?_
              change x_T _ _ _ _ [_, _, _, _, _, _] _ _ _ _
              refine xt_iload_n _ dX12_allLines_78 rfl ?_
              refine xt_if_eq 95 dX12_allLines_79 (by decide) (fun q => absurd q (by decide)) (fun _ => ?_)
              refine xt_aload_n _ dX12_allLines_82 rfl ?_
              refine xt_geti dX12_allLines_83 kfX12_109 (by first | exact sh152 | exact sh161 | exact sh162 | rfl | assumption) rfl ?_
              refine xt_iconst (4) dX12_allLines_86 (by decide) ?_
              refine xt_icmp_eq 95 dX12_allLines_87 (by decide) (fun t87 => ?_) (fun f87 => ?_)
              · refine xt_iload_n _ dX12_allLines_95 rfl ?_
                refine xt_if_eq 103 dX12_allLines_96 (by decide) (fun q => absurd q (by decide)) (fun _ => ?_)
                refine xt_aload_n _ dX12_allLines_99 rfl ?_
                have hk3 : s_kd T L (s_qs T L (s_te T L p) (s_gv (s_lk T L 0 p))) = 3 := (hK3.kd (k := 3) (by decide)).mp t87
                have hok : s_okl T L (s_te T L p) (s_gv (s_lk T L 0 p)) = true := decide_eq_true ⟨hbn, hk3⟩
                have hex := s_te_le hT hK3.2.1
                refine xt_callV _ dX12_allLines_100 klX12_136 (tX12_token sc _ μ3 w3 T L hK3.1 (s_te T L (s_qs T L (s_te T L p) (s_gv (s_lk T L 0 p)))) hex.2.2 (hK3.2.2.2.2.1 (by omega))) sh152 rfl rfl (Nat.le_of_ble_eq_true rfl) (fun r5 μ4 w4 q5 => ?_)
                obtain ⟨rfl, q5⟩ := q5
                change x_T _ _ _ _ _ _ _ _ _
                have hK4 := m_K.next hK3.1 hex.2.2 q5
                have hF4 := hF3.cg (q5.2.2.2.2.2.1 16 (by decide) (by decide) (by decide) (by decide)) (q5.2.2.2.2.2.1 17 (by decide) (by decide) (by decide) (by decide)) hex.2.1
                have hC4 : m_C μ4 0 _ _ _ := ⟨fun z => ⟨by rw [q5.2.2.2.2.2.2 161 (by decide)]; exact (hC3.1 z).1, by rw [q5.2.2.2.2.2.1 20 (by decide) (by decide) (by decide) (by decide)]; exact (hC3.1 z).2⟩, by unfold m_sf; rw [q5.2.2.2.2.2.2 161 (by decide)]; exact hC3.2⟩
                have hf4 : ∀ a, a ≠ 152 → a ≠ 161 → a ≠ 162 → μ4 a = μ a := fun a h1 h2 h3 => by rw [q5.2.2.2.2.2.2 a h1]; exact hfz a h1 h2 h3
                refine xt_goto 2 dX12_allLines_103 (by decide) ?_
                have hgo : (s_goo T L 0 (n2 + 1) p φ G mx) = s_goo T L 0 n2 (s_te T L (s_qs T L (s_te T L p) (s_gv (s_lk T L 0 p)))) (s_fi1 T L 0 p φ G) (if (s_fi1 T L 0 p φ G).1 = 0 then s_kp (s_lk T L 0 p) (s_nv T L (s_te T L p)) G else G) (if (s_fi1 T L 0 p φ G).1 = 0 then s_mxl (s_lk T L 0 p) (s_nv T L (s_te T L p)) mx else mx) := by rw [s_goo, if_neg hk0, if_pos ⟨hk1, hln⟩, if_pos hok]
                rw [hgo]
                have hadv := s_adv hT hK2.2.1 hk1 (s_gv (s_lk T L 0 p))
                have hex := s_te_le hT (s_qs_le hT htl.2.2 (s_gv (s_lk T L 0 p))).2
                refine x_T.ls rfl (ih2 (m + 1) _ _ _ _ μ4 w4 _ _ _ hK4 hF4 hC4 (s_nx_W (s_lk_of (by decide) hln) hW2) (s_nx_m hmx) (by omega) hf4 (by omega))
              · refine xt_aload_n _ dX12_allLines_90 rfl ?_
                have hnk : s_kd T L (s_qs T L (s_te T L p) (s_gv (s_lk T L 0 p))) ≠ 3 := fun z => f87 ((hK3.kd (by decide)).mpr z)
                have hgo : (s_goo T L 0 (n2 + 1) p φ G mx) = (false, s_sp T L (s_qs T L (s_te T L p) (s_gv (s_lk T L 0 p))), φ, G, mx) := by rw [s_goo, if_neg hk0, if_pos ⟨hk1, hln⟩, if_neg (fun z => hnk (of_decide_eq_true z).2), s_fpl, hbn, if_pos rfl]
                refine xt_callV _ dX12_allLines_91 klX12_124 (tX12_fails sc _ μ3 w3 _ hK3.2.2.1) sh152 rfl rfl (Nat.le_of_ble_eq_true rfl) (fun r5 μ5 w5 q5 => ?_)
                obtain ⟨rfl, rfl, hwr, qj, qa⟩ := q5
                change x_T _ _ _ _ _ (.int 0 :: _) _ _ _
                have hfz : ∀ a, a ≠ 152 → a ≠ 161 → a ≠ 162 → μ5 a = μ a := fun a h1 h2 h3 => by rw [qa a h1]; exact hfz a h1 h2 h3
                refine xt_istore_n dX12_allLines_94 (by decide) rfl ?_
                change x_T _ _ _ _ [_, _, _, _, _, _] _ _ _ _
                refine xt_iload_n _ dX12_allLines_95 rfl ?_
                refine xt_if_eq 103 dX12_allLines_96 (by decide) (fun _ => ?_) (fun q => absurd (by decide) q)
                refine xt_goto 2 dX12_allLines_103 (by decide) ?_
                refine xt_iload_n _ dX12_allLines_2 rfl ?_
                refine xt_if_eq 106 dX12_allLines_3 (by decide) (fun _ => ?_) (fun q => absurd rfl q)
                refine xt_iload_n _ dX12_allLines_106 rfl ?_
                exact xt_iret .boolean dX12_allLines_107 rfl (by rfl) ⟨by rw [hgo]; rfl, fun h => by rw [hgo] at h; exact absurd h (show ¬ false = true by decide), fun _ => by rw [hgo]; exact hwr, hfz⟩
            · obtain ⟨rfl, hwr⟩ := q4b hbn
              change x_T _ _ _ _ _ (.int 0 :: _) _ _ _
              have hgo : (s_goo T L 0 (n2 + 1) p φ G mx) = (false, s_sp T L (s_qs T L (s_te T L p) (s_bn T L (s_te T L p) (s_gv (s_lk T L 0 p)) - 1)), φ, G, mx) := by rw [s_goo, if_neg hk0, if_pos ⟨hk1, hln⟩, if_neg (fun z => hbn (of_decide_eq_true z).1), s_fpl, if_neg hbn]
              refine xt_goto 77 dX12_allLines_52 (by decide) ?_
              refine xt_istore_n dX12_allLines_77 (by decide) rfl ?_
              change x_T _ _ _ _ [_, _, _, _, _, _] _ _ _ _
              refine xt_iload_n _ dX12_allLines_78 rfl ?_
              refine xt_if_eq 95 dX12_allLines_79 (by decide) (fun _ => ?_) (fun q => absurd (by decide) q)
              refine xt_iload_n _ dX12_allLines_95 rfl ?_
              refine xt_if_eq 103 dX12_allLines_96 (by decide) (fun _ => ?_) (fun q => absurd (by decide) q)
              refine xt_goto 2 dX12_allLines_103 (by decide) ?_
              refine xt_iload_n _ dX12_allLines_2 rfl ?_
              refine xt_if_eq 106 dX12_allLines_3 (by decide) (fun _ => ?_) (fun q => absurd rfl q)
              refine xt_iload_n _ dX12_allLines_106 rfl ?_
              exact xt_iret .boolean dX12_allLines_107 rfl (by rfl) ⟨by rw [hgo]; rfl, fun h => by rw [hgo] at h; exact absurd h (show ¬ false = true by decide), fun _ => by rw [hgo]; exact hwr, hfz⟩
  exact L2 601 0 0 (0, 0) G0 0 μ w (.retAddr 0) (.retAddr 0) (.retAddr 0) hK hF hC hW (by decide) (by have := hK.1.2.1; omega) (fun _ _ _ _ => rfl) (by omega)
set_option maxHeartbeats 8000000 in
theorem tX12_allLines1 (T : Nat → Nat) (L : Nat) (G0 : Nat → Nat) (hK : m_K μ w T L 0) (hF : m_F μ (0, 0) 0) (hC : m_C μ 1 (0, 0) G0 0) (hW : g_W 1 G0) : x_K sc (d + 5) mX12_allLines [.ref 152, .int 1] μ w (fun r μ' _ => r = some (.int (if (s_goo T L 1 601 0 (0, 0) G0 0).1 then 1 else 0)) ∧ ((s_goo T L 1 601 0 (0, 0) G0 0).1 = true → m_F μ' (s_goo T L 1 601 0 (0, 0) G0 0).2.2.1 1000 ∧ m_C μ' 1 (s_goo T L 1 601 0 (0, 0) G0 0).2.2.1 (s_goo T L 1 601 0 (0, 0) G0 0).2.2.2.1 (s_goo T L 1 601 0 (0, 0) G0 0).2.2.2.2 ∧ μ' 152 11 = nI (s_goo T L 1 601 0 (0, 0) G0 0).2.1) ∧ ((s_goo T L 1 601 0 (0, 0) G0 0).1 = false → μ' 152 15 = nI (s_goo T L 1 601 0 (0, 0) G0 0).2.1) ∧ ∀ a, a ≠ 152 → a ≠ 161 → a ≠ 162 → μ' a = μ a) := by
  refine x_K.of (by decide) (Nat.le_of_ble_eq_true rfl) ?_
  show x_T sc (d + 5) mX12_allLines 0 [.ref 152, .int 1, .retAddr 0, .retAddr 0, .retAddr 0, .retAddr 0] [] μ w _
  refine xt_iconst (1) dX12_allLines_0 (by decide) ?_
  refine xt_istore_n dX12_allLines_1 (by decide) rfl ?_
  change x_T _ _ _ _ [_, _, _, _, _, _] _ _ _ _
  have L2 : ∀ (n2 m : Nat) (p : Nat) (φ : Nat × Nat) (G : Nat → Nat) (mx : Nat) (μ2 : x_Me) (w2 : Int64) (v3 v4 v5 : Value) (hK2 : m_K μ2 w2 T L p) (hF2 : m_F μ2 φ p) (hC2 : m_C μ2 1 φ G mx) (hW2 : g_W 1 G) (hmx : mx ≤ 100) (hpl : L + 1 ≤ p + n2) (hf2 : ∀ a, a ≠ 152 → a ≠ 161 → a ≠ 162 → μ2 a = μ a), m + n2 = 601 → x_T sc (d + 5) mX12_allLines 2 [.ref 152, .int 1, .int 1, v3, v4, v5] [] μ2 w2 (fun r μ' _ => r = some (.int (if (s_goo T L 1 n2 p φ G mx).1 then 1 else 0)) ∧ ((s_goo T L 1 n2 p φ G mx).1 = true → m_F μ' (s_goo T L 1 n2 p φ G mx).2.2.1 1000 ∧ m_C μ' 1 (s_goo T L 1 n2 p φ G mx).2.2.1 (s_goo T L 1 n2 p φ G mx).2.2.2.1 (s_goo T L 1 n2 p φ G mx).2.2.2.2 ∧ μ' 152 11 = nI (s_goo T L 1 n2 p φ G mx).2.1) ∧ ((s_goo T L 1 n2 p φ G mx).1 = false → μ' 152 15 = nI (s_goo T L 1 n2 p φ G mx).2.1) ∧ ∀ a, a ≠ 152 → a ≠ 161 → a ≠ 162 → μ' a = μ a) := by
    intro n2
    induction n2 with
    | zero =>
      intro m p φ G mx μ2 w2 v3 v4 v5 hK2 hF2 hC2 hW2 hmx hpl hf2 hmn
      exact absurd hK2.2.1 (by omega)
    | succ n2 ih2 =>
      intro m p φ G mx μ2 w2 v3 v4 v5 hK2 hF2 hC2 hW2 hmx hpl hf2 hmn
      have hlt : m < 601 := by omega
      have hT := hK2.1.2.2.2
      have hL6 := hK2.1.2.1
      have htl := s_te_le hT hK2.2.1
      refine xt_iload_n _ dX12_allLines_2 rfl ?_
      refine xt_if_eq 106 dX12_allLines_3 (by decide) (fun q => absurd q (by decide)) (fun _ => ?_)
      refine xt_aload_n _ dX12_allLines_6 rfl ?_
      refine xt_geti dX12_allLines_7 kfX12_109 (by first | exact sh152 | exact sh161 | exact sh162 | rfl | assumption) rfl ?_
      refine xt_if_eq 106 dX12_allLines_10 (by decide) (fun t10 => ?_) (fun f10 => ?_)
      · have hk0 : s_kd T L p = 0 := (hK2.kd (k := 0) (by decide)).mp t10
        have hgo : (s_goo T L 1 (n2 + 1) p φ G mx) = (true, (s_sp T L p), φ, G, mx) := by rw [s_goo, if_pos hk0]
        refine xt_iload_n _ dX12_allLines_106 rfl ?_
        exact xt_iret .boolean dX12_allLines_107 rfl (by first | rfl | assumption) ⟨by rw [hgo]; rfl, fun _ => by rw [hgo]; exact ⟨hF2.cg rfl rfl (by have := hK2.2.1; omega), hC2, hK2.2.2.1⟩, fun h => by rw [hgo] at h; exact absurd h (show ¬ true = false by decide), hf2⟩
      · have hk0 : ¬ s_kd T L p = 0 := fun z => f10 ((hK2.kd (k := 0) (by decide)).mpr z)
        refine xt_aload_n _ dX12_allLines_13 rfl ?_
        refine xt_geti dX12_allLines_14 kfX12_102 (by first | exact sh152 | exact sh161 | exact sh162 | rfl | assumption) rfl ?_
        rw [hK2.2.2.1]
        refine xt_istore_n dX12_allLines_17 (by decide) rfl ?_
        change x_T _ _ _ _ [_, _, _, _, _, _] _ _ _ _
        refine xt_aload_n _ dX12_allLines_18 rfl ?_
        refine xt_geti dX12_allLines_19 kfX12_109 (by first | exact sh152 | exact sh161 | exact sh162 | rfl | assumption) rfl ?_
        refine xt_iconst (2) dX12_allLines_22 (by decide) ?_
        refine xt_icmp_ne 33 dX12_allLines_23 (by decide) (fun t23 => ?_) (fun f23 => ?_)
        · have hk1 : ¬ s_kd T L p = 1 := fun z => t23 ((hK2.kd (k := 1) (by decide)).mpr z)
          refine xt_lconst (0) dX12_allLines_33 (by decide) ?_
          refine xt_lstore dX12_allLines_34 (by decide) rfl ?_
          change x_T _ _ _ _ [_, _, _, _, _, _] _ _ _ _
          refine xt_aload_n _ dX12_allLines_36 rfl ?_
          refine xt_iconst (1) dX12_allLines_37 (by decide) ?_
          refine xt_puti dX12_allLines_38 kpX12_132 (by first | exact sh152 | exact sh161 | exact sh162 | rfl | assumption) rfl (by first | rfl | assumption) (by first | rfl | assumption) ?_
          refine xt_iload_n _ dX12_allLines_41 rfl ?_
          refine xt_if_ne 55 dX12_allLines_42 (by decide) (fun _ => ?_) (fun q => absurd q (by decide))
          refine xt_iload_n _ dX12_allLines_55 rfl ?_
          refine xt_iconst (1) dX12_allLines_56 (by decide) ?_
          refine xt_icmp_ne 70 dX12_allLines_57 (by decide) (fun q => absurd (by decide) q) (fun _ => ?_)
          refine xt_aload_n _ dX12_allLines_60 rfl ?_
          refine xt_lload _ dX12_allLines_61 rfl ?_
          refine xt_iload_n _ dX12_allLines_63 rfl ?_
          refine xt_callV _ dX12_allLines_64 klX12_222 (tX12_dayLine sc _ (x_u μ2 152 (upd (μ2 152) 21 1)) w2 T L p φ G mx (hK2.cg (fun j h1 h2 => by rw [x_u_eq, pk_un (by omega)]) rfl) (hF2.cg rfl rfl (Nat.le_refl _)) rfl ⟨fun z => ⟨(hC2.1 z).1, (hC2.1 z).2⟩, hC2.2⟩ hW2 hmx (fun _ => false) 0 (fun j hj => ⟨fun h => absurd h (s_W_0 j hj), fun h => absurd h (by decide)⟩) (fun _ h => absurd h (by decide))) sh152 rfl rfl (Nat.le_of_ble_eq_true rfl) (fun r3 μ3 w3 q3 => ?_)
          have hz : s_fp (fun i => (fun _ => false) (s_fA 1 + i)) (s_fA (1 + 1) - s_fA 1) = 0 := s_fp_z (fun _ _ => rfl)
          obtain ⟨rfl, hwr, hf3⟩ := q3.1 hz
          change x_T _ _ _ _ _ (.int 0 :: _) _ _ _
          have hfz : ∀ a, a ≠ 152 → a ≠ 161 → a ≠ 162 → μ3 a = μ a := fun a h1 h2 h3 => by rw [hf3 a h1 h2 h3, x_u_ne h1]; exact hf2 a h1 h2 h3
          have hgo : (s_goo T L 1 (n2 + 1) p φ G mx) = (false, (s_sp T L p), φ, G, mx) := by rw [s_goo, if_neg hk0, if_neg (fun z => hk1 z.1)]
          refine xt_goto 77 dX12_allLines_67 (by decide) ?_
          refine xt_istore_n dX12_allLines_77 (by decide) rfl ?_
          change x_T _ _ _ _ [_, _, _, _, _, _] _ _ _ _
          refine xt_iload_n _ dX12_allLines_78 rfl ?_
          refine xt_if_eq 95 dX12_allLines_79 (by decide) (fun _ => ?_) (fun q => absurd (by decide) q)
          refine xt_iload_n _ dX12_allLines_95 rfl ?_
          refine xt_if_eq 103 dX12_allLines_96 (by decide) (fun _ => ?_) (fun q => absurd (by decide) q)
          refine xt_goto 2 dX12_allLines_103 (by decide) ?_
          refine xt_iload_n _ dX12_allLines_2 rfl ?_
          refine xt_if_eq 106 dX12_allLines_3 (by decide) (fun _ => ?_) (fun q => absurd rfl q)
          refine xt_iload_n _ dX12_allLines_106 rfl ?_
          exact xt_iret .boolean dX12_allLines_107 rfl (by rfl) ⟨by rw [hgo]; rfl, fun h => by rw [hgo] at h; exact absurd h (show ¬ false = true by decide), fun _ => by rw [hgo]; exact hwr, hfz⟩
        · have hk1 : s_kd T L p = 1 := (hK2.kd (k := 1) (by decide)).mp f23
          refine xt_aload_n _ dX12_allLines_26 rfl ?_
          refine xt_getl dX12_allLines_27 kfX12_105 (by first | exact sh152 | exact sh161 | exact sh162 | rfl | assumption) rfl ?_
          refine xt_goto 34 dX12_allLines_30 (by decide) ?_
          refine xt_lstore dX12_allLines_34 (by decide) rfl ?_
          change x_T _ _ _ _ [_, _, _, _, _, _] _ _ _ _
          refine xt_aload_n _ dX12_allLines_36 rfl ?_
          refine xt_iconst (1) dX12_allLines_37 (by decide) ?_
          refine xt_puti dX12_allLines_38 kpX12_132 (by first | exact sh152 | exact sh161 | exact sh162 | rfl | assumption) rfl (by first | rfl | assumption) (by first | rfl | assumption) ?_
          refine xt_iload_n _ dX12_allLines_41 rfl ?_
          refine xt_if_ne 55 dX12_allLines_42 (by decide) (fun _ => ?_) (fun q => absurd q (by decide))
          refine xt_iload_n _ dX12_allLines_55 rfl ?_
          refine xt_iconst (1) dX12_allLines_56 (by decide) ?_
          refine xt_icmp_ne 70 dX12_allLines_57 (by decide) (fun q => absurd (by decide) q) (fun _ => ?_)
          refine xt_aload_n _ dX12_allLines_60 rfl ?_
          refine xt_lload _ dX12_allLines_61 rfl ?_
          refine xt_iload_n _ dX12_allLines_63 rfl ?_
          refine xt_callV _ dX12_allLines_64 klX12_222 (tX12_dayLine sc _ (x_u μ2 152 (upd (μ2 152) 21 1)) w2 T L p φ G mx (hK2.cg (fun j h1 h2 => by rw [x_u_eq, pk_un (by omega)]) rfl) (hF2.cg rfl rfl (Nat.le_refl _)) rfl ⟨fun z => ⟨(hC2.1 z).1, (hC2.1 z).2⟩, hC2.2⟩ hW2 hmx (s_nb T (s_sp T L p) ((s_te T L p) - (s_sp T L p))) w2 (fun j hj => by rw [hK2.2.2.2.2.2.2 hk1]; exact s_wd_W hT hK2.1.lt hK2.2.1 hk1 hj) (fun _ _ => hk1)) sh152 rfl rfl (Nat.le_of_ble_eq_true rfl) (fun r3 μ3 w3 q3 => ?_)
          by_cases hz : s_fp (fun i => (s_nb T (s_sp T L p) ((s_te T L p) - (s_sp T L p))) (s_fA 1 + i)) (s_fA (1 + 1) - s_fA 1) = 0
          · obtain ⟨rfl, hwr, hf3⟩ := q3.1 hz
            change x_T _ _ _ _ _ (.int 0 :: _) _ _ _
            have hfz : ∀ a, a ≠ 152 → a ≠ 161 → a ≠ 162 → μ3 a = μ a := fun a h1 h2 h3 => by rw [hf3 a h1 h2 h3, x_u_ne h1]; exact hf2 a h1 h2 h3
            have hgo : (s_goo T L 1 (n2 + 1) p φ G mx) = (false, (s_sp T L p), φ, G, mx) := by rw [s_goo, if_neg hk0, if_neg (fun z => z.2 hz)]
            refine xt_goto 77 dX12_allLines_67 (by decide) ?_
            refine xt_istore_n dX12_allLines_77 (by decide) rfl ?_
            change x_T _ _ _ _ [_, _, _, _, _, _] _ _ _ _
            refine xt_iload_n _ dX12_allLines_78 rfl ?_
            refine xt_if_eq 95 dX12_allLines_79 (by decide) (fun _ => ?_) (fun q => absurd (by decide) q)
            refine xt_iload_n _ dX12_allLines_95 rfl ?_
            refine xt_if_eq 103 dX12_allLines_96 (by decide) (fun _ => ?_) (fun q => absurd (by decide) q)
            refine xt_goto 2 dX12_allLines_103 (by decide) ?_
            refine xt_iload_n _ dX12_allLines_2 rfl ?_
            refine xt_if_eq 106 dX12_allLines_3 (by decide) (fun _ => ?_) (fun q => absurd rfl q)
            refine xt_iload_n _ dX12_allLines_106 rfl ?_
            exact xt_iret .boolean dX12_allLines_107 rfl (by rfl) ⟨by rw [hgo]; rfl, fun h => by rw [hgo] at h; exact absurd h (show ¬ false = true by decide), fun _ => by rw [hgo]; exact hwr, hfz⟩
          · have hln : s_ln T 1 (s_sp T L p) ((s_te T L p) - (s_sp T L p)) ≠ 0 := hz
            obtain ⟨t, ht⟩ : ∃ t, s_fp (fun i => (s_nb T (s_sp T L p) ((s_te T L p) - (s_sp T L p))) (s_fA 1 + i)) (s_fA (1 + 1) - s_fA 1) = t + 1 := ⟨s_fp (fun i => (s_nb T (s_sp T L p) ((s_te T L p) - (s_sp T L p))) (s_fA 1 + i)) (s_fA (1 + 1) - s_fA 1) - 1, by omega⟩
            have q4 := q3.2 t ht
            have hkt : s_fA 1 + t = (s_lk T L 1 p) := by show s_fA 1 + t = s_fA 1 + (s_ln T 1 (s_sp T L p) ((s_te T L p) - (s_sp T L p)) - 1); rw [show s_ln T 1 (s_sp T L p) ((s_te T L p) - (s_sp T L p)) = t + 1 from ht]; rfl
            rw [hkt] at q4
            obtain ⟨q4a, q4b, hf3⟩ := q4
            have hfz : ∀ a, a ≠ 152 → a ≠ 161 → a ≠ 162 → μ3 a = μ a := fun a h1 h2 h3 => by rw [hf3 a h1 h2 h3, x_u_ne h1]; exact hf2 a h1 h2 h3
            by_cases hbn : s_bn T L (s_te T L p) (s_gv (s_lk T L 1 p)) = 0
            · obtain ⟨rfl, hK3, hF3, hC3⟩ := q4a hbn
              change x_T _ _ _ _ _ (.int 1 :: _) _ _ _
              refine xt_goto 77 dX12_allLines_67 (by decide) ?_
              refine xt_istore_n dX12_allLines_77 (by decide) rfl ?_
              change x_T _ _ _ _ [_, _, _, _, _, _] _ _ _ _
              refine xt_iload_n _ dX12_allLines_78 rfl ?_
              refine xt_if_eq 95 dX12_allLines_79 (by decide) (fun q => absurd q (by decide)) (fun _ => ?_)
              refine xt_aload_n _ dX12_allLines_82 rfl ?_
              refine xt_geti dX12_allLines_83 kfX12_109 (by first | exact sh152 | exact sh161 | exact sh162 | rfl | assumption) rfl ?_
              refine xt_iconst (4) dX12_allLines_86 (by decide) ?_
              refine xt_icmp_eq 95 dX12_allLines_87 (by decide) (fun t87 => ?_) (fun f87 => ?_)
              · refine xt_iload_n _ dX12_allLines_95 rfl ?_
                refine xt_if_eq 103 dX12_allLines_96 (by decide) (fun q => absurd q (by decide)) (fun _ => ?_)
                refine xt_aload_n _ dX12_allLines_99 rfl ?_
                have hk3 : s_kd T L (s_qs T L (s_te T L p) (s_gv (s_lk T L 1 p))) = 3 := (hK3.kd (k := 3) (by decide)).mp t87
                have hok : s_okl T L (s_te T L p) (s_gv (s_lk T L 1 p)) = true := decide_eq_true ⟨hbn, hk3⟩
                have hex := s_te_le hT hK3.2.1
                refine xt_callV _ dX12_allLines_100 klX12_136 (tX12_token sc _ μ3 w3 T L hK3.1 (s_te T L (s_qs T L (s_te T L p) (s_gv (s_lk T L 1 p)))) hex.2.2 (hK3.2.2.2.2.1 (by omega))) sh152 rfl rfl (Nat.le_of_ble_eq_true rfl) (fun r5 μ4 w4 q5 => ?_)
                obtain ⟨rfl, q5⟩ := q5
                change x_T _ _ _ _ _ _ _ _ _
                have hK4 := m_K.next hK3.1 hex.2.2 q5
                have hF4 := hF3.cg (q5.2.2.2.2.2.1 16 (by decide) (by decide) (by decide) (by decide)) (q5.2.2.2.2.2.1 17 (by decide) (by decide) (by decide) (by decide)) hex.2.1
                have hC4 : m_C μ4 1 _ _ _ := ⟨fun z => ⟨by rw [q5.2.2.2.2.2.2 161 (by decide)]; exact (hC3.1 z).1, by rw [q5.2.2.2.2.2.1 20 (by decide) (by decide) (by decide) (by decide)]; exact (hC3.1 z).2⟩, by unfold m_sf; rw [q5.2.2.2.2.2.2 161 (by decide)]; exact hC3.2⟩
                have hf4 : ∀ a, a ≠ 152 → a ≠ 161 → a ≠ 162 → μ4 a = μ a := fun a h1 h2 h3 => by rw [q5.2.2.2.2.2.2 a h1]; exact hfz a h1 h2 h3
                refine xt_goto 2 dX12_allLines_103 (by decide) ?_
                have hgo : (s_goo T L 1 (n2 + 1) p φ G mx) = s_goo T L 1 n2 (s_te T L (s_qs T L (s_te T L p) (s_gv (s_lk T L 1 p)))) (s_fi1 T L 1 p φ G) (if (s_fi1 T L 1 p φ G).1 = 0 then s_kp (s_lk T L 1 p) (s_nv T L (s_te T L p)) G else G) (if (s_fi1 T L 1 p φ G).1 = 0 then s_mxl (s_lk T L 1 p) (s_nv T L (s_te T L p)) mx else mx) := by rw [s_goo, if_neg hk0, if_pos ⟨hk1, hln⟩, if_pos hok]
                rw [hgo]
                have hadv := s_adv hT hK2.2.1 hk1 (s_gv (s_lk T L 1 p))
                have hex := s_te_le hT (s_qs_le hT htl.2.2 (s_gv (s_lk T L 1 p))).2
                refine x_T.ls rfl (ih2 (m + 1) _ _ _ _ μ4 w4 _ _ _ hK4 hF4 hC4 (s_nx_W (s_lk_of (by decide) hln) hW2) (s_nx_m hmx) (by omega) hf4 (by omega))
              · refine xt_aload_n _ dX12_allLines_90 rfl ?_
                have hnk : s_kd T L (s_qs T L (s_te T L p) (s_gv (s_lk T L 1 p))) ≠ 3 := fun z => f87 ((hK3.kd (by decide)).mpr z)
                have hgo : (s_goo T L 1 (n2 + 1) p φ G mx) = (false, s_sp T L (s_qs T L (s_te T L p) (s_gv (s_lk T L 1 p))), φ, G, mx) := by rw [s_goo, if_neg hk0, if_pos ⟨hk1, hln⟩, if_neg (fun z => hnk (of_decide_eq_true z).2), s_fpl, hbn, if_pos rfl]
                refine xt_callV _ dX12_allLines_91 klX12_124 (tX12_fails sc _ μ3 w3 _ hK3.2.2.1) sh152 rfl rfl (Nat.le_of_ble_eq_true rfl) (fun r5 μ5 w5 q5 => ?_)
                obtain ⟨rfl, rfl, hwr, qj, qa⟩ := q5
                change x_T _ _ _ _ _ (.int 0 :: _) _ _ _
                have hfz : ∀ a, a ≠ 152 → a ≠ 161 → a ≠ 162 → μ5 a = μ a := fun a h1 h2 h3 => by rw [qa a h1]; exact hfz a h1 h2 h3
                refine xt_istore_n dX12_allLines_94 (by decide) rfl ?_
                change x_T _ _ _ _ [_, _, _, _, _, _] _ _ _ _
                refine xt_iload_n _ dX12_allLines_95 rfl ?_
                refine xt_if_eq 103 dX12_allLines_96 (by decide) (fun _ => ?_) (fun q => absurd (by decide) q)
                refine xt_goto 2 dX12_allLines_103 (by decide) ?_
                refine xt_iload_n _ dX12_allLines_2 rfl ?_
                refine xt_if_eq 106 dX12_allLines_3 (by decide) (fun _ => ?_) (fun q => absurd rfl q)
                refine xt_iload_n _ dX12_allLines_106 rfl ?_
                exact xt_iret .boolean dX12_allLines_107 rfl (by rfl) ⟨by rw [hgo]; rfl, fun h => by rw [hgo] at h; exact absurd h (show ¬ false = true by decide), fun _ => by rw [hgo]; exact hwr, hfz⟩
            · obtain ⟨rfl, hwr⟩ := q4b hbn
              change x_T _ _ _ _ _ (.int 0 :: _) _ _ _
              have hgo : (s_goo T L 1 (n2 + 1) p φ G mx) = (false, s_sp T L (s_qs T L (s_te T L p) (s_bn T L (s_te T L p) (s_gv (s_lk T L 1 p)) - 1)), φ, G, mx) := by rw [s_goo, if_neg hk0, if_pos ⟨hk1, hln⟩, if_neg (fun z => hbn (of_decide_eq_true z).1), s_fpl, if_neg hbn]
              refine xt_goto 77 dX12_allLines_67 (by decide) ?_
              refine xt_istore_n dX12_allLines_77 (by decide) rfl ?_
              change x_T _ _ _ _ [_, _, _, _, _, _] _ _ _ _
              refine xt_iload_n _ dX12_allLines_78 rfl ?_
              refine xt_if_eq 95 dX12_allLines_79 (by decide) (fun _ => ?_) (fun q => absurd (by decide) q)
              refine xt_iload_n _ dX12_allLines_95 rfl ?_
              refine xt_if_eq 103 dX12_allLines_96 (by decide) (fun _ => ?_) (fun q => absurd (by decide) q)
              refine xt_goto 2 dX12_allLines_103 (by decide) ?_
              refine xt_iload_n _ dX12_allLines_2 rfl ?_
              refine xt_if_eq 106 dX12_allLines_3 (by decide) (fun _ => ?_) (fun q => absurd rfl q)
              refine xt_iload_n _ dX12_allLines_106 rfl ?_
              exact xt_iret .boolean dX12_allLines_107 rfl (by rfl) ⟨by rw [hgo]; rfl, fun h => by rw [hgo] at h; exact absurd h (show ¬ false = true by decide), fun _ => by rw [hgo]; exact hwr, hfz⟩
  exact L2 601 0 0 (0, 0) G0 0 μ w (.retAddr 0) (.retAddr 0) (.retAddr 0) hK hF hC hW (by decide) (by have := hK.1.2.1; omega) (fun _ _ _ _ => rfl) (by omega)
set_option maxHeartbeats 8000000 in
theorem tX12_allLines2 (T : Nat → Nat) (L : Nat) (G0 : Nat → Nat) (hK : m_K μ w T L 0) (hF : m_F μ (0, 0) 0) (hC : m_C μ 2 (0, 0) G0 0) (hW : g_W 2 G0) : x_K sc (d + 5) mX12_allLines [.ref 152, .int 2] μ w (fun r μ' _ => r = some (.int (if (s_goo T L 2 601 0 (0, 0) G0 0).1 then 1 else 0)) ∧ ((s_goo T L 2 601 0 (0, 0) G0 0).1 = true → m_F μ' (s_goo T L 2 601 0 (0, 0) G0 0).2.2.1 1000 ∧ m_C μ' 2 (s_goo T L 2 601 0 (0, 0) G0 0).2.2.1 (s_goo T L 2 601 0 (0, 0) G0 0).2.2.2.1 (s_goo T L 2 601 0 (0, 0) G0 0).2.2.2.2 ∧ μ' 152 11 = nI (s_goo T L 2 601 0 (0, 0) G0 0).2.1) ∧ ((s_goo T L 2 601 0 (0, 0) G0 0).1 = false → μ' 152 15 = nI (s_goo T L 2 601 0 (0, 0) G0 0).2.1) ∧ ∀ a, a ≠ 152 → a ≠ 161 → a ≠ 162 → μ' a = μ a) := by
  refine x_K.of (by decide) (Nat.le_of_ble_eq_true rfl) ?_
  show x_T sc (d + 5) mX12_allLines 0 [.ref 152, .int 2, .retAddr 0, .retAddr 0, .retAddr 0, .retAddr 0] [] μ w _
  refine xt_iconst (1) dX12_allLines_0 (by decide) ?_
  refine xt_istore_n dX12_allLines_1 (by decide) rfl ?_
  change x_T _ _ _ _ [_, _, _, _, _, _] _ _ _ _
  have L2 : ∀ (n2 m : Nat) (p : Nat) (φ : Nat × Nat) (G : Nat → Nat) (mx : Nat) (μ2 : x_Me) (w2 : Int64) (v3 v4 v5 : Value) (hK2 : m_K μ2 w2 T L p) (hF2 : m_F μ2 φ p) (hC2 : m_C μ2 2 φ G mx) (hW2 : g_W 2 G) (hmx : mx ≤ 100) (hpl : L + 1 ≤ p + n2) (hf2 : ∀ a, a ≠ 152 → a ≠ 161 → a ≠ 162 → μ2 a = μ a), m + n2 = 601 → x_T sc (d + 5) mX12_allLines 2 [.ref 152, .int 2, .int 1, v3, v4, v5] [] μ2 w2 (fun r μ' _ => r = some (.int (if (s_goo T L 2 n2 p φ G mx).1 then 1 else 0)) ∧ ((s_goo T L 2 n2 p φ G mx).1 = true → m_F μ' (s_goo T L 2 n2 p φ G mx).2.2.1 1000 ∧ m_C μ' 2 (s_goo T L 2 n2 p φ G mx).2.2.1 (s_goo T L 2 n2 p φ G mx).2.2.2.1 (s_goo T L 2 n2 p φ G mx).2.2.2.2 ∧ μ' 152 11 = nI (s_goo T L 2 n2 p φ G mx).2.1) ∧ ((s_goo T L 2 n2 p φ G mx).1 = false → μ' 152 15 = nI (s_goo T L 2 n2 p φ G mx).2.1) ∧ ∀ a, a ≠ 152 → a ≠ 161 → a ≠ 162 → μ' a = μ a) := by
    intro n2
    induction n2 with
    | zero =>
      intro m p φ G mx μ2 w2 v3 v4 v5 hK2 hF2 hC2 hW2 hmx hpl hf2 hmn
      exact absurd hK2.2.1 (by omega)
    | succ n2 ih2 =>
      intro m p φ G mx μ2 w2 v3 v4 v5 hK2 hF2 hC2 hW2 hmx hpl hf2 hmn
      have hlt : m < 601 := by omega
      have hT := hK2.1.2.2.2
      have hL6 := hK2.1.2.1
      have htl := s_te_le hT hK2.2.1
      refine xt_iload_n _ dX12_allLines_2 rfl ?_
      refine xt_if_eq 106 dX12_allLines_3 (by decide) (fun q => absurd q (by decide)) (fun _ => ?_)
      refine xt_aload_n _ dX12_allLines_6 rfl ?_
      refine xt_geti dX12_allLines_7 kfX12_109 (by first | exact sh152 | exact sh161 | exact sh162 | rfl | assumption) rfl ?_
      refine xt_if_eq 106 dX12_allLines_10 (by decide) (fun t10 => ?_) (fun f10 => ?_)
      · have hk0 : s_kd T L p = 0 := (hK2.kd (k := 0) (by decide)).mp t10
        have hgo : (s_goo T L 2 (n2 + 1) p φ G mx) = (true, (s_sp T L p), φ, G, mx) := by rw [s_goo, if_pos hk0]
        refine xt_iload_n _ dX12_allLines_106 rfl ?_
        exact xt_iret .boolean dX12_allLines_107 rfl (by first | rfl | assumption) ⟨by rw [hgo]; rfl, fun _ => by rw [hgo]; exact ⟨hF2.cg rfl rfl (by have := hK2.2.1; omega), hC2, hK2.2.2.1⟩, fun h => by rw [hgo] at h; exact absurd h (show ¬ true = false by decide), hf2⟩
      · have hk0 : ¬ s_kd T L p = 0 := fun z => f10 ((hK2.kd (k := 0) (by decide)).mpr z)
        refine xt_aload_n _ dX12_allLines_13 rfl ?_
        refine xt_geti dX12_allLines_14 kfX12_102 (by first | exact sh152 | exact sh161 | exact sh162 | rfl | assumption) rfl ?_
        rw [hK2.2.2.1]
        refine xt_istore_n dX12_allLines_17 (by decide) rfl ?_
        change x_T _ _ _ _ [_, _, _, _, _, _] _ _ _ _
        refine xt_aload_n _ dX12_allLines_18 rfl ?_
        refine xt_geti dX12_allLines_19 kfX12_109 (by first | exact sh152 | exact sh161 | exact sh162 | rfl | assumption) rfl ?_
        refine xt_iconst (2) dX12_allLines_22 (by decide) ?_
        refine xt_icmp_ne 33 dX12_allLines_23 (by decide) (fun t23 => ?_) (fun f23 => ?_)
        · have hk1 : ¬ s_kd T L p = 1 := fun z => t23 ((hK2.kd (k := 1) (by decide)).mpr z)
          refine xt_lconst (0) dX12_allLines_33 (by decide) ?_
          refine xt_lstore dX12_allLines_34 (by decide) rfl ?_
          change x_T _ _ _ _ [_, _, _, _, _, _] _ _ _ _
          refine xt_aload_n _ dX12_allLines_36 rfl ?_
          refine xt_iconst (1) dX12_allLines_37 (by decide) ?_
          refine xt_puti dX12_allLines_38 kpX12_132 (by first | exact sh152 | exact sh161 | exact sh162 | rfl | assumption) rfl (by first | rfl | assumption) (by first | rfl | assumption) ?_
          refine xt_iload_n _ dX12_allLines_41 rfl ?_
          refine xt_if_ne 55 dX12_allLines_42 (by decide) (fun _ => ?_) (fun q => absurd q (by decide))
          refine xt_iload_n _ dX12_allLines_55 rfl ?_
          refine xt_iconst (1) dX12_allLines_56 (by decide) ?_
          refine xt_icmp_ne 70 dX12_allLines_57 (by decide) (fun _ => ?_) (fun q => absurd q (by decide))
          refine xt_aload_n _ dX12_allLines_70 rfl ?_
          refine xt_lload _ dX12_allLines_71 rfl ?_
          refine xt_iload_n _ dX12_allLines_73 rfl ?_
          refine xt_callV _ dX12_allLines_74 klX12_225 (tX12_logLine sc _ (x_u μ2 152 (upd (μ2 152) 21 1)) w2 T L p φ G mx (hK2.cg (fun j h1 h2 => by rw [x_u_eq, pk_un (by omega)]) rfl) (hF2.cg rfl rfl (Nat.le_refl _)) rfl ⟨fun z => ⟨(hC2.1 z).1, (hC2.1 z).2⟩, hC2.2⟩ hW2 hmx (fun _ => false) 0 (fun j hj => ⟨fun h => absurd h (s_W_0 j hj), fun h => absurd h (by decide)⟩) (fun _ h => absurd h (by decide))) sh152 rfl rfl (Nat.le_of_ble_eq_true rfl) (fun r3 μ3 w3 q3 => ?_)
          have hz : s_fp (fun i => (fun _ => false) (s_fA 2 + i)) (s_fA (2 + 1) - s_fA 2) = 0 := s_fp_z (fun _ _ => rfl)
          obtain ⟨rfl, hwr, hf3⟩ := q3.1 hz
          change x_T _ _ _ _ _ (.int 0 :: _) _ _ _
          have hfz : ∀ a, a ≠ 152 → a ≠ 161 → a ≠ 162 → μ3 a = μ a := fun a h1 h2 h3 => by rw [hf3 a h1 h2 h3, x_u_ne h1]; exact hf2 a h1 h2 h3
          have hgo : (s_goo T L 2 (n2 + 1) p φ G mx) = (false, (s_sp T L p), φ, G, mx) := by rw [s_goo, if_neg hk0, if_neg (fun z => hk1 z.1)]
          refine xt_istore_n dX12_allLines_77 (by decide) rfl ?_
          change x_T _ _ _ _ [_, _, _, _, _, _] _ _ _ _
          refine xt_iload_n _ dX12_allLines_78 rfl ?_
          refine xt_if_eq 95 dX12_allLines_79 (by decide) (fun _ => ?_) (fun q => absurd (by decide) q)
          refine xt_iload_n _ dX12_allLines_95 rfl ?_
          refine xt_if_eq 103 dX12_allLines_96 (by decide) (fun _ => ?_) (fun q => absurd (by decide) q)
          refine xt_goto 2 dX12_allLines_103 (by decide) ?_
          refine xt_iload_n _ dX12_allLines_2 rfl ?_
          refine xt_if_eq 106 dX12_allLines_3 (by decide) (fun _ => ?_) (fun q => absurd rfl q)
          refine xt_iload_n _ dX12_allLines_106 rfl ?_
          exact xt_iret .boolean dX12_allLines_107 rfl (by rfl) ⟨by rw [hgo]; rfl, fun h => by rw [hgo] at h; exact absurd h (show ¬ false = true by decide), fun _ => by rw [hgo]; exact hwr, hfz⟩
        · have hk1 : s_kd T L p = 1 := (hK2.kd (k := 1) (by decide)).mp f23
          refine xt_aload_n _ dX12_allLines_26 rfl ?_
          refine xt_getl dX12_allLines_27 kfX12_105 (by first | exact sh152 | exact sh161 | exact sh162 | rfl | assumption) rfl ?_
          refine xt_goto 34 dX12_allLines_30 (by decide) ?_
          refine xt_lstore dX12_allLines_34 (by decide) rfl ?_
          change x_T _ _ _ _ [_, _, _, _, _, _] _ _ _ _
          refine xt_aload_n _ dX12_allLines_36 rfl ?_
          refine xt_iconst (1) dX12_allLines_37 (by decide) ?_
          refine xt_puti dX12_allLines_38 kpX12_132 (by first | exact sh152 | exact sh161 | exact sh162 | rfl | assumption) rfl (by first | rfl | assumption) (by first | rfl | assumption) ?_
          refine xt_iload_n _ dX12_allLines_41 rfl ?_
          refine xt_if_ne 55 dX12_allLines_42 (by decide) (fun _ => ?_) (fun q => absurd q (by decide))
          refine xt_iload_n _ dX12_allLines_55 rfl ?_
          refine xt_iconst (1) dX12_allLines_56 (by decide) ?_
          refine xt_icmp_ne 70 dX12_allLines_57 (by decide) (fun _ => ?_) (fun q => absurd q (by decide))
          refine xt_aload_n _ dX12_allLines_70 rfl ?_
          refine xt_lload _ dX12_allLines_71 rfl ?_
          refine xt_iload_n _ dX12_allLines_73 rfl ?_
          refine xt_callV _ dX12_allLines_74 klX12_225 (tX12_logLine sc _ (x_u μ2 152 (upd (μ2 152) 21 1)) w2 T L p φ G mx (hK2.cg (fun j h1 h2 => by rw [x_u_eq, pk_un (by omega)]) rfl) (hF2.cg rfl rfl (Nat.le_refl _)) rfl ⟨fun z => ⟨(hC2.1 z).1, (hC2.1 z).2⟩, hC2.2⟩ hW2 hmx (s_nb T (s_sp T L p) ((s_te T L p) - (s_sp T L p))) w2 (fun j hj => by rw [hK2.2.2.2.2.2.2 hk1]; exact s_wd_W hT hK2.1.lt hK2.2.1 hk1 hj) (fun _ _ => hk1)) sh152 rfl rfl (Nat.le_of_ble_eq_true rfl) (fun r3 μ3 w3 q3 => ?_)
          by_cases hz : s_fp (fun i => (s_nb T (s_sp T L p) ((s_te T L p) - (s_sp T L p))) (s_fA 2 + i)) (s_fA (2 + 1) - s_fA 2) = 0
          · obtain ⟨rfl, hwr, hf3⟩ := q3.1 hz
            change x_T _ _ _ _ _ (.int 0 :: _) _ _ _
            have hfz : ∀ a, a ≠ 152 → a ≠ 161 → a ≠ 162 → μ3 a = μ a := fun a h1 h2 h3 => by rw [hf3 a h1 h2 h3, x_u_ne h1]; exact hf2 a h1 h2 h3
            have hgo : (s_goo T L 2 (n2 + 1) p φ G mx) = (false, (s_sp T L p), φ, G, mx) := by rw [s_goo, if_neg hk0, if_neg (fun z => z.2 hz)]
            refine xt_istore_n dX12_allLines_77 (by decide) rfl ?_
            change x_T _ _ _ _ [_, _, _, _, _, _] _ _ _ _
            refine xt_iload_n _ dX12_allLines_78 rfl ?_
            refine xt_if_eq 95 dX12_allLines_79 (by decide) (fun _ => ?_) (fun q => absurd (by decide) q)
            refine xt_iload_n _ dX12_allLines_95 rfl ?_
            refine xt_if_eq 103 dX12_allLines_96 (by decide) (fun _ => ?_) (fun q => absurd (by decide) q)
            refine xt_goto 2 dX12_allLines_103 (by decide) ?_
            refine xt_iload_n _ dX12_allLines_2 rfl ?_
            refine xt_if_eq 106 dX12_allLines_3 (by decide) (fun _ => ?_) (fun q => absurd rfl q)
            refine xt_iload_n _ dX12_allLines_106 rfl ?_
            exact xt_iret .boolean dX12_allLines_107 rfl (by rfl) ⟨by rw [hgo]; rfl, fun h => by rw [hgo] at h; exact absurd h (show ¬ false = true by decide), fun _ => by rw [hgo]; exact hwr, hfz⟩
          · have hln : s_ln T 2 (s_sp T L p) ((s_te T L p) - (s_sp T L p)) ≠ 0 := hz
            obtain ⟨t, ht⟩ : ∃ t, s_fp (fun i => (s_nb T (s_sp T L p) ((s_te T L p) - (s_sp T L p))) (s_fA 2 + i)) (s_fA (2 + 1) - s_fA 2) = t + 1 := ⟨s_fp (fun i => (s_nb T (s_sp T L p) ((s_te T L p) - (s_sp T L p))) (s_fA 2 + i)) (s_fA (2 + 1) - s_fA 2) - 1, by omega⟩
            have q4 := q3.2 t ht
            have hkt : s_fA 2 + t = (s_lk T L 2 p) := by show s_fA 2 + t = s_fA 2 + (s_ln T 2 (s_sp T L p) ((s_te T L p) - (s_sp T L p)) - 1); rw [show s_ln T 2 (s_sp T L p) ((s_te T L p) - (s_sp T L p)) = t + 1 from ht]; rfl
            rw [hkt] at q4
            obtain ⟨q4a, q4b, hf3⟩ := q4
            have hfz : ∀ a, a ≠ 152 → a ≠ 161 → a ≠ 162 → μ3 a = μ a := fun a h1 h2 h3 => by rw [hf3 a h1 h2 h3, x_u_ne h1]; exact hf2 a h1 h2 h3
            by_cases hbn : s_bn T L (s_te T L p) (s_gv (s_lk T L 2 p)) = 0
            · obtain ⟨rfl, hK3, hF3, hC3⟩ := q4a hbn
              change x_T _ _ _ _ _ (.int 1 :: _) _ _ _
              refine xt_istore_n dX12_allLines_77 (by decide) rfl ?_
              change x_T _ _ _ _ [_, _, _, _, _, _] _ _ _ _
              refine xt_iload_n _ dX12_allLines_78 rfl ?_
              refine xt_if_eq 95 dX12_allLines_79 (by decide) (fun q => absurd q (by decide)) (fun _ => ?_)
              refine xt_aload_n _ dX12_allLines_82 rfl ?_
              refine xt_geti dX12_allLines_83 kfX12_109 (by first | exact sh152 | exact sh161 | exact sh162 | rfl | assumption) rfl ?_
              refine xt_iconst (4) dX12_allLines_86 (by decide) ?_
              refine xt_icmp_eq 95 dX12_allLines_87 (by decide) (fun t87 => ?_) (fun f87 => ?_)
              · refine xt_iload_n _ dX12_allLines_95 rfl ?_
                refine xt_if_eq 103 dX12_allLines_96 (by decide) (fun q => absurd q (by decide)) (fun _ => ?_)
                refine xt_aload_n _ dX12_allLines_99 rfl ?_
                have hk3 : s_kd T L (s_qs T L (s_te T L p) (s_gv (s_lk T L 2 p))) = 3 := (hK3.kd (k := 3) (by decide)).mp t87
                have hok : s_okl T L (s_te T L p) (s_gv (s_lk T L 2 p)) = true := decide_eq_true ⟨hbn, hk3⟩
                have hex := s_te_le hT hK3.2.1
                refine xt_callV _ dX12_allLines_100 klX12_136 (tX12_token sc _ μ3 w3 T L hK3.1 (s_te T L (s_qs T L (s_te T L p) (s_gv (s_lk T L 2 p)))) hex.2.2 (hK3.2.2.2.2.1 (by omega))) sh152 rfl rfl (Nat.le_of_ble_eq_true rfl) (fun r5 μ4 w4 q5 => ?_)
                obtain ⟨rfl, q5⟩ := q5
                change x_T _ _ _ _ _ _ _ _ _
                have hK4 := m_K.next hK3.1 hex.2.2 q5
                have hF4 := hF3.cg (q5.2.2.2.2.2.1 16 (by decide) (by decide) (by decide) (by decide)) (q5.2.2.2.2.2.1 17 (by decide) (by decide) (by decide) (by decide)) hex.2.1
                have hC4 : m_C μ4 2 _ _ _ := ⟨fun z => ⟨by rw [q5.2.2.2.2.2.2 161 (by decide)]; exact (hC3.1 z).1, by rw [q5.2.2.2.2.2.1 20 (by decide) (by decide) (by decide) (by decide)]; exact (hC3.1 z).2⟩, by unfold m_sf; rw [q5.2.2.2.2.2.2 161 (by decide)]; exact hC3.2⟩
                have hf4 : ∀ a, a ≠ 152 → a ≠ 161 → a ≠ 162 → μ4 a = μ a := fun a h1 h2 h3 => by rw [q5.2.2.2.2.2.2 a h1]; exact hfz a h1 h2 h3
                refine xt_goto 2 dX12_allLines_103 (by decide) ?_
                have hgo : (s_goo T L 2 (n2 + 1) p φ G mx) = s_goo T L 2 n2 (s_te T L (s_qs T L (s_te T L p) (s_gv (s_lk T L 2 p)))) (s_fi1 T L 2 p φ G) (if (s_fi1 T L 2 p φ G).1 = 0 then s_kp (s_lk T L 2 p) (s_nv T L (s_te T L p)) G else G) (if (s_fi1 T L 2 p φ G).1 = 0 then s_mxl (s_lk T L 2 p) (s_nv T L (s_te T L p)) mx else mx) := by rw [s_goo, if_neg hk0, if_pos ⟨hk1, hln⟩, if_pos hok]
                rw [hgo]
                have hadv := s_adv hT hK2.2.1 hk1 (s_gv (s_lk T L 2 p))
                have hex := s_te_le hT (s_qs_le hT htl.2.2 (s_gv (s_lk T L 2 p))).2
                refine x_T.ls rfl (ih2 (m + 1) _ _ _ _ μ4 w4 _ _ _ hK4 hF4 hC4 (s_nx_W (s_lk_of (by decide) hln) hW2) (s_nx_m hmx) (by omega) hf4 (by omega))
              · refine xt_aload_n _ dX12_allLines_90 rfl ?_
                have hnk : s_kd T L (s_qs T L (s_te T L p) (s_gv (s_lk T L 2 p))) ≠ 3 := fun z => f87 ((hK3.kd (by decide)).mpr z)
                have hgo : (s_goo T L 2 (n2 + 1) p φ G mx) = (false, s_sp T L (s_qs T L (s_te T L p) (s_gv (s_lk T L 2 p))), φ, G, mx) := by rw [s_goo, if_neg hk0, if_pos ⟨hk1, hln⟩, if_neg (fun z => hnk (of_decide_eq_true z).2), s_fpl, hbn, if_pos rfl]
                refine xt_callV _ dX12_allLines_91 klX12_124 (tX12_fails sc _ μ3 w3 _ hK3.2.2.1) sh152 rfl rfl (Nat.le_of_ble_eq_true rfl) (fun r5 μ5 w5 q5 => ?_)
                obtain ⟨rfl, rfl, hwr, qj, qa⟩ := q5
                change x_T _ _ _ _ _ (.int 0 :: _) _ _ _
                have hfz : ∀ a, a ≠ 152 → a ≠ 161 → a ≠ 162 → μ5 a = μ a := fun a h1 h2 h3 => by rw [qa a h1]; exact hfz a h1 h2 h3
                refine xt_istore_n dX12_allLines_94 (by decide) rfl ?_
                change x_T _ _ _ _ [_, _, _, _, _, _] _ _ _ _
                refine xt_iload_n _ dX12_allLines_95 rfl ?_
                refine xt_if_eq 103 dX12_allLines_96 (by decide) (fun _ => ?_) (fun q => absurd (by decide) q)
                refine xt_goto 2 dX12_allLines_103 (by decide) ?_
                refine xt_iload_n _ dX12_allLines_2 rfl ?_
                refine xt_if_eq 106 dX12_allLines_3 (by decide) (fun _ => ?_) (fun q => absurd rfl q)
                refine xt_iload_n _ dX12_allLines_106 rfl ?_
                exact xt_iret .boolean dX12_allLines_107 rfl (by rfl) ⟨by rw [hgo]; rfl, fun h => by rw [hgo] at h; exact absurd h (show ¬ false = true by decide), fun _ => by rw [hgo]; exact hwr, hfz⟩
            · obtain ⟨rfl, hwr⟩ := q4b hbn
              change x_T _ _ _ _ _ (.int 0 :: _) _ _ _
              have hgo : (s_goo T L 2 (n2 + 1) p φ G mx) = (false, s_sp T L (s_qs T L (s_te T L p) (s_bn T L (s_te T L p) (s_gv (s_lk T L 2 p)) - 1)), φ, G, mx) := by rw [s_goo, if_neg hk0, if_pos ⟨hk1, hln⟩, if_neg (fun z => hbn (of_decide_eq_true z).1), s_fpl, if_neg hbn]
              refine xt_istore_n dX12_allLines_77 (by decide) rfl ?_
              change x_T _ _ _ _ [_, _, _, _, _, _] _ _ _ _
              refine xt_iload_n _ dX12_allLines_78 rfl ?_
              refine xt_if_eq 95 dX12_allLines_79 (by decide) (fun _ => ?_) (fun q => absurd (by decide) q)
              refine xt_iload_n _ dX12_allLines_95 rfl ?_
              refine xt_if_eq 103 dX12_allLines_96 (by decide) (fun _ => ?_) (fun q => absurd (by decide) q)
              refine xt_goto 2 dX12_allLines_103 (by decide) ?_
              refine xt_iload_n _ dX12_allLines_2 rfl ?_
              refine xt_if_eq 106 dX12_allLines_3 (by decide) (fun _ => ?_) (fun q => absurd rfl q)
              refine xt_iload_n _ dX12_allLines_106 rfl ?_
              exact xt_iret .boolean dX12_allLines_107 rfl (by rfl) ⟨by rw [hgo]; rfl, fun h => by rw [hgo] at h; exact absurd h (show ¬ false = true by decide), fun _ => by rw [hgo]; exact hwr, hfz⟩
  exact L2 601 0 0 (0, 0) G0 0 μ w (.retAddr 0) (.retAddr 0) (.retAddr 0) hK hF hC hW (by decide) (by have := hK.1.2.1; omega) (fun _ _ _ _ => rfl) (by omega)
end ALLM
