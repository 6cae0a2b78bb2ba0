/-! steps of the law -/
theorem x_keep.hand {μ μ1 : x_Me} (h : ∀ a, a ≠ 152 → a ≠ 163 → a ≠ 164 → a ≠ 165 → μ1 a = x_u μ 152 (upd (μ 152) 0 0) a) : x_keep μ μ1 := by
  intro a ha
  have h1 : a ≠ 152 ∧ a ≠ 163 ∧ a ≠ 164 ∧ a ≠ 165 := by unfold x_ok at ha; omega
  rw [h a h1.1 h1.2.1 h1.2.2.1 h1.2.2.2, x_u_ne h1.1]
theorem s_in_0 {v lo hi : Int32} (h : ¬ v < lo) (h2 : ¬ hi < v) : s_in v lo hi = 1 := by rw [s_in, if_neg h, if_neg h2]
theorem s_in_1 {v lo hi : Int32} (h : ¬ s_in v lo hi = 0) : ¬ v < lo ∧ ¬ hi < v := by
  refine ⟨fun z => h (by rw [s_in, if_pos z]), fun z => h ?_⟩
  by_cases h1 : v < lo
  · rw [s_in, if_pos h1]
  · rw [s_in, if_neg h1, if_pos z]
theorem s_in_2 {v lo hi : Int32} (h : s_in v lo hi = 0) : v < lo ∨ hi < v := by
  by_cases h1 : v < lo
  · exact Or.inl h1
  · by_cases h2 : hi < v
    · exact Or.inr h2
    · rw [s_in_0 h1 h2] at h; exact absurd h (by decide)
set_option maxHeartbeats 600000 in
theorem st_ring (sc : Nat × (Nat → Int32)) (a1 a2 : Int32) : x_stI sc (fun μ _ => x_Inv μ) (fun μ _ => x_Inv μ) mX11_ring mX12_ring [.int a1, .int a2] := by
  refine x_stF (-1) ?_ ?_ ?_
  · intro μ w c hc e hk
    refine x_K.of (by decide) (Nat.le_of_ble_eq_true rfl) ?_
    show x_T sc 29 mX11_ring 0 [.ref 0, .int a1, .int a2, .retAddr 0] [] μ w _
    refine xt_aload_n _ dX11_ring_0 rfl ?_
    refine xt_iload_n _ dX11_ring_1 rfl ?_
    refine xt_cV _ dX11_ring_2 klX11_90 (tX11_fairOf_no sc _ μ w c hc e _ hk) sh0 rfl rfl (Nat.le_of_ble_eq_true rfl) ?_
    refine xt_astore_n0 dX11_ring_5 (by decide) rfl ?_
    change x_T _ _ _ _ [_, _, _, _] _ _ _ _
    refine xt_aload_n0 dX11_ring_6 rfl ?_
    refine xt_ifnull_n 20 dX11_ring_7 (by decide) ?_
    refine xt_iconst (-1) dX11_ring_20 (by decide) ?_
    refine xt_goto 29 dX11_ring_21 (by decide) ?_
    exact xt_iret .int dX11_ring_29 rfl (by first | rfl | assumption) ⟨rfl, x_keep.rf μ⟩
  · intro μ w c hc e hk
    refine x_K.of (by decide) (Nat.le_of_ble_eq_true rfl) ?_
    show x_T sc 29 mX12_ring 0 [.ref 152, .int a1, .int a2, .retAddr 0, .retAddr 0] [] μ w _
    refine xt_aload_n _ dX12_ring_0 rfl ?_
    refine xt_iconst (0) dX12_ring_1 (by decide) ?_
    refine xt_puti dX12_ring_2 kpX12_72 (by first | exact sh152 | rfl | assumption) rfl (by first | rfl | assumption) (by first | rfl | assumption) ?_
    refine xt_iload_n _ dX12_ring_5 rfl ?_
    refine xt_iconst (0) dX12_ring_6 (by decide) ?_
    refine xt_bipush (18) dX12_ring_7 (by decide) ?_
    refine xt_cS _ dX12_ring_9 klX12_84 (tX12_in sc _ _ w _ _ _) rfl rfl (Nat.le_of_ble_eq_true rfl) ?_
    refine xt_if_eq 23 dX12_ring_12 (by decide) (fun t12 => ?_) (fun f12 => ?_)
    · refine xt_iconst (-1) dX12_ring_23 (by decide) ?_
      exact xt_iret .int dX12_ring_24 rfl (by first | rfl | assumption) ⟨rfl, (x_keep.u (x_keep.rf μ) (by unfold x_ok; omega))⟩
    · refine xt_aload_n _ dX12_ring_15 rfl ?_
      refine xt_iload_n _ dX12_ring_16 rfl ?_
      refine xt_cV _ dX12_ring_17 klX12_300 (tX12_hand_no sc _ (x_u μ 152 (upd (μ 152) 0 0)) w c hc e _ hk) sh152 rfl rfl (Nat.le_of_ble_eq_true rfl) ?_
      refine xt_if_ne 25 dX12_ring_20 (by decide) (fun q => absurd (by decide) q) (fun _ => ?_)
      refine xt_iconst (-1) dX12_ring_23 (by decide) ?_
      exact xt_iret .int dX12_ring_24 rfl (by first | rfl | assumption) ⟨rfl, (x_keep.u (x_keep.rf μ) (by unfold x_ok; omega))⟩
  · intro f F hf2 hkk hW
    subst hkk
    refine ⟨if a2 < 0 then -1 else if (18 : Int32) < a2 then -1 else nI (s_bits (fun g => decide (nI (s_farO F g) ≤ a2)) (F 4)), ?_, ?_⟩
    · intro μ w c hf hc e hC
      have hS := f_Sf hf2
      refine x_K.of (by decide) (Nat.le_of_ble_eq_true rfl) ?_
      show x_T sc 29 mX11_ring 0 [.ref 0, .int (nI f), .int a2, .retAddr 0] [] μ w _
      refine xt_aload_n _ dX11_ring_0 rfl ?_
      refine xt_iload_n _ dX11_ring_1 rfl ?_
      refine xt_cV _ dX11_ring_2 klX11_90 (tX11_fairOf sc _ μ w f c hf hc e) sh0 rfl rfl (Nat.le_of_ble_eq_true rfl) ?_
      refine xt_astore_n dX11_ring_5 (by decide) rfl ?_
      change x_T _ _ _ _ [_, _, _, _] _ _ _ _
      refine xt_aload_n _ dX11_ring_6 rfl ?_
      refine xt_ifnull_r dX11_ring_7 ?_
      refine xt_iload_n _ dX11_ring_10 rfl ?_
      refine xt_if_lt 20 dX11_ring_11 (by decide) (fun t11 => ?_) (fun f11 => ?_)
      · refine xt_iconst (-1) dX11_ring_20 (by decide) ?_
        refine xt_goto 29 dX11_ring_21 (by decide) ?_
        exact xt_iret .int dX11_ring_29 rfl (by first | rfl | assumption) ⟨by rw [if_pos t11], x_keep.rf μ⟩
      · refine xt_iload_n _ dX11_ring_14 rfl ?_
        refine xt_bipush (18) dX11_ring_15 (by decide) ?_
        refine xt_icmp_le 24 dX11_ring_17 (by decide) (fun t17 => ?_) (fun f17 => ?_)
        · refine xt_aload_n _ dX11_ring_24 rfl ?_
          refine xt_iload_n _ dX11_ring_25 rfl ?_
          refine xt_cV _ dX11_ring_26 klX11_278 (tX2_within sc _ w hS hC hW _) hS.1 rfl rfl (Nat.le_of_ble_eq_true rfl) ?_
          exact xt_iret .int dX11_ring_29 rfl (by first | rfl | assumption) ⟨by rw [if_neg f11, if_neg (Int32.not_lt.mpr t17)], x_keep.rf μ⟩
        · refine xt_iconst (-1) dX11_ring_20 (by decide) ?_
          refine xt_goto 29 dX11_ring_21 (by decide) ?_
          exact xt_iret .int dX11_ring_29 rfl (by first | rfl | assumption) ⟨by rw [if_neg f11, if_pos (Int32.not_le.mp f17)], x_keep.rf μ⟩
    · intro μ w c hf hc e hF
      refine x_K.of (by decide) (Nat.le_of_ble_eq_true rfl) ?_
      show x_T sc 29 mX12_ring 0 [.ref 152, .int (nI f), .int a2, .retAddr 0, .retAddr 0] [] μ w _
      refine xt_aload_n _ dX12_ring_0 rfl ?_
      refine xt_iconst (0) dX12_ring_1 (by decide) ?_
      refine xt_puti dX12_ring_2 kpX12_72 (by first | exact sh152 | rfl | assumption) rfl (by first | rfl | assumption) (by first | rfl | assumption) ?_
      refine xt_iload_n _ dX12_ring_5 rfl ?_
      refine xt_iconst (0) dX12_ring_6 (by decide) ?_
      refine xt_bipush (18) dX12_ring_7 (by decide) ?_
      refine xt_cS _ dX12_ring_9 klX12_84 (tX12_in sc _ _ w _ _ _) rfl rfl (Nat.le_of_ble_eq_true rfl) ?_
      refine xt_if_eq 23 dX12_ring_12 (by decide) (fun t12 => ?_) (fun f12 => ?_)
      · refine xt_iconst (-1) dX12_ring_23 (by decide) ?_
        exact xt_iret .int dX12_ring_24 rfl (by first | rfl | assumption) ⟨by rcases s_in_2 t12 with z | z; rw [if_pos z]; rw [if_neg (Int32.not_lt.mpr (Int32.le_of_lt (Int32.lt_trans (by decide) z))), if_pos z], (x_keep.u (x_keep.rf μ) (by unfold x_ok; omega))⟩
      · refine xt_aload_n _ dX12_ring_15 rfl ?_
        refine xt_iload_n _ dX12_ring_16 rfl ?_
        refine xt_callV _ dX12_ring_17 klX12_300 (tX12_hand sc _ (x_u μ 152 (upd (μ 152) 0 0)) w f c F hf hc e hF) sh152 rfl rfl (Nat.le_of_ble_eq_true rfl) (fun r1 μ1 w1 q1 => ?_)
        obtain ⟨rfl, rfl, hS, h0, hfr⟩ := q1
        change x_T _ _ _ _ _ (.int 1 :: _) _ _ _
        refine xt_if_ne 25 dX12_ring_20 (by decide) (fun _ => ?_) (fun q => absurd q (by decide))
        refine xt_iconst (0) dX12_ring_25 (by decide) ?_
        refine xt_istore_n dX12_ring_26 (by decide) rfl ?_
        change x_T _ _ _ _ [_, _, _, _, _] _ _ _ _
        refine xt_iconst (0) dX12_ring_27 (by decide) ?_
        refine xt_istore dX12_ring_28 (by decide) rfl ?_
        change x_T _ _ _ _ [_, _, _, _, _] _ _ _ _
        have hm8 : F 4 ≤ 8 := hW.1.2.2.2.2.1
        have e4 : μ1 152 24 = nI (F 4) := hS.1.2.2.2.1
        obtain ⟨h1, h2⟩ := s_in_1 f12
        have L30 : ∀ (n m : Nat), m + n = F 4 → x_T sc 29 mX12_ring 30 [.ref 152, .int (nI f), .int a2, .int (nI (s_bits (fun g => decide (nI (s_farO F g) ≤ a2)) m)), .int (nI m)] [] μ1 w1 (fun r μ' _ => r = some (.int (if a2 < 0 then -1 else if (18 : Int32) < a2 then -1 else nI (s_bits (fun g => decide (nI (s_farO F g) ≤ a2)) (F 4)))) ∧ x_keep μ μ') := by
          intro n
          induction n with
          | zero =>
            intro m hmn
            obtain rfl : m = F 4 := by omega
            refine xt_iload _ dX12_ring_30 rfl ?_
            refine xt_aload_n _ dX12_ring_32 rfl ?_
            refine xt_geti dX12_ring_33 kfX12_251 (by first | exact sh152 | rfl | assumption) rfl ?_
            refine xt_icmp_ge 66 dX12_ring_36 (by decide) (fun _ => ?_) (fun q => absurd (by rw [e4]; exact Int32.le_refl _) q)
            refine xt_iload_n _ dX12_ring_66 rfl ?_
            exact xt_iret .int dX12_ring_67 rfl (by first | rfl | assumption) ⟨by rw [if_neg h1, if_neg h2], (x_keep.hand hfr)⟩
          | succ n ih =>
            intro m hmn
            have hlt : m < F 4 := by omega
            refine xt_iload _ dX12_ring_30 rfl ?_
            refine xt_aload_n _ dX12_ring_32 rfl ?_
            refine xt_geti dX12_ring_33 kfX12_251 (by first | exact sh152 | rfl | assumption) rfl ?_
            refine xt_icmp_ge 66 dX12_ring_36 (by decide) (fun q => absurd q (by rw [e4]; exact nI_ge hlt (by omega))) (fun _ => ?_)
            refine xt_iload_n _ dX12_ring_39 rfl ?_
            refine xt_aload_n _ dX12_ring_40 rfl ?_
            refine xt_iload _ dX12_ring_41 rfl ?_
            refine xt_cV _ dX12_ring_43 klX12_294 (tX12_fromStand sc _ μ1 _ f F hS hW m hlt) sh152 rfl rfl (Nat.le_of_ble_eq_true rfl) ?_
            refine xt_iload_n _ dX12_ring_46 rfl ?_
            refine xt_icmp_gt 57 dX12_ring_47 (by decide) (fun t47 => ?_) (fun f47 => ?_)
            · refine xt_iconst (0) dX12_ring_57 (by decide) ?_
              refine xt_ior dX12_ring_58 ?_
              refine xt_istore_n dX12_ring_59 (by decide) rfl ?_
              change x_T _ _ _ _ [_, _, _, _, _] _ _ _ _
              refine xt_inc _ (1) dX12_ring_60 rfl (by decide) (by decide) rfl ?_
              change x_T _ _ _ _ [_, _, _, _, _] _ _ _ _
              refine xt_goto 30 dX12_ring_63 (by decide) ?_
              refine x_T.ls ?_ (ih (m + 1) (by omega))
              rw [s_bits_no (p := (fun g => decide (nI (s_farO F g) ≤ a2))) (by simpa using t47), nI_succ m, Int32.or_zero]
            · refine xt_iconst (1) dX12_ring_50 (by decide) ?_
              refine xt_iload _ dX12_ring_51 rfl ?_
              refine xt_ishl dX12_ring_53 ?_
              refine xt_goto 58 dX12_ring_54 (by decide) ?_
              refine xt_ior dX12_ring_58 ?_
              refine xt_istore_n dX12_ring_59 (by decide) rfl ?_
              change x_T _ _ _ _ [_, _, _, _, _] _ _ _ _
              refine xt_inc _ (1) dX12_ring_60 rfl (by decide) (by decide) rfl ?_
              change x_T _ _ _ _ [_, _, _, _, _] _ _ _ _
              refine xt_goto 30 dX12_ring_63 (by decide) ?_
              refine x_T.ls ?_ (ih (m + 1) (by omega))
              rw [← s_bits_or (p := (fun g => decide (nI (s_farO F g) ≤ a2))) (g := m) (by omega) (by simpa using f47), nI_succ m]
        exact L30 (F 4) 0 (by omega)
