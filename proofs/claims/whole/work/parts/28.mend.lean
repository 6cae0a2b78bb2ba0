/-! the step of mend -/
def s_ml (F : Nat → Nat) (g j : Nat) : Nat → Nat
  | 0 => 10
  | m + 1 => if F (7 + m) = j ∧ s_farO F g ≤ F (13 + m) then min (s_ml F g j m) (F (19 + m)) else s_ml F g j m
theorem s_ml_le (F : Nat → Nat) (g j : Nat) : ∀ m, s_ml F g j m ≤ 10
  | 0 => Nat.le_refl _
  | m + 1 => by
    have := s_ml_le F g j m
    rw [s_ml]; split <;> omega
/-- what is to be mended of one KIND -/
abbrev s_ex (F : Nat → Nat) (g j m : Nat) : Nat := F (41 + (6 * g + j)) + 1 - s_ml F g j m
abbrev s_mend (F : Nat → Nat) (g : Nat) : Nat := s_sum (fun j => s_ex F g j (F 3)) 6
theorem s_mx : ∀ a, a < 11 → ∀ W, W < 10 → ∀ l, l < 11 → (if nI a < nI W - nI l + 1 then nI W - nI l + 1 else nI a) = nI (max a (W + 1 - l)) := by decide +kernel
theorem s_gx : ∀ W, W < 10 → ∀ l, l < 11 → s_gr 0 (nI W - nI l + 1) = nI (W + 1 - l) := by decide +kernel
theorem s_le_nI {a b : Nat} (ha : a < 2 ^ 31) (hb : b < 2 ^ 31) : s_le (nI a) (nI b) = nI (min a b) := by
  unfold s_le
  by_cases h : b ≤ a
  · rw [if_pos ((nI_leI hb ha).mpr h), Nat.min_eq_right h]
  · rw [if_neg (fun z => h ((nI_leI hb ha).mp z)), Nat.min_eq_left (by omega)]
section MEND
variable (sc : Nat × (Nat → Int32)) (d : Nat) {μ : x_Me} (w : Int64) {k : Nat} {F : Nat → Nat}
set_option maxHeartbeats 2000000 in
theorem tX3_toMend (hS : f_S k) (hC : f_C μ k F) (hW : f_W F) (g : Nat) (hg : g < F 4) : x_D sc (d + 3) mX3_toMend [.ref k, .int (nI g)] μ w (some (.int (nI (s_mend F g)))) μ w := by
  obtain ⟨hs0, hs1, hs2, hs3, hs4, hs5⟩ := hS
  have hg8 : g < 8 := by have := hW.1.2.2.2.2.1; omega
  have hm6 : F 3 ≤ 6 := hW.1.2.2.2.1
  have e3 : μ k 3 = nI (F 3) := hC.1 3 (by decide)
  have hfar := s_farO_le hW hg
  have L16 : ∀ j, j < 6 → ∀ s, x_T sc (d + 3) mX3_toMend 77 [.ref k, .int (nI g), .int (nI s), .int (nI j), .int (nI (s_ex F g j (F 3))), .int (nI (F 3))] [] μ w (x_p (some (.int (nI (s_mend F g)))) μ w) → ∀ n m, m + n = F 3 → x_T sc (d + 3) mX3_toMend 16 [.ref k, .int (nI g), .int (nI s), .int (nI j), .int (nI (s_ex F g j m)), .int (nI m)] [] μ w (x_p (some (.int (nI (s_mend F g)))) μ w) := by
    intro j hj s hk n
    induction n with
    | zero =>
        intro m hmn
        obtain rfl : m = F 3 := by omega
        refine xt_iload _ dX3_toMend_16 rfl ?_
        refine xt_aload_n _ dX3_toMend_18 rfl ?_
        refine xt_geti dX3_toMend_19 kfX3_27 (by first | rfl | assumption) rfl ?_
        refine xt_icmp_ge 77 dX3_toMend_22 (by decide) (fun _ => ?_) (fun q => absurd (by rw [e3]; exact Int32.le_refl _) q)
        exact hk
    | succ n ih =>
        intro m hmn
        have hlt : m < F 3 := by omega
        have hk5 := (hW.2.1 m hlt).1
        have hr18 := (hW.2.1 m hlt).2.1
        have hl9 := (hW.2.1 m hlt).2.2.2
        have hwj := hW.2.2.2.1 (6 * g + j) (by omega)
        refine xt_iload _ dX3_toMend_16 rfl ?_
        refine xt_aload_n _ dX3_toMend_18 rfl ?_
        refine xt_geti dX3_toMend_19 kfX3_27 (by first | rfl | assumption) rfl ?_
        refine xt_icmp_ge 77 dX3_toMend_22 (by decide) (fun q => absurd q (by rw [e3]; exact nI_ge hlt (by omega))) (fun _ => ?_)
        refine xt_aload_n _ dX3_toMend_25 rfl ?_
        refine xt_iload _ dX3_toMend_26 rfl ?_
        refine xt_cV _ dX3_toMend_28 klX3_33 (tX2_kindOf sc _ w (by exact ⟨hs0, hs1, hs2, hs3, hs4, hs5⟩) hC hW m hlt) (by assumption) rfl rfl (Nat.le_of_ble_eq_true rfl) ?_
        refine xt_iload_n _ dX3_toMend_31 rfl ?_
        refine xt_icmp_ne 71 dX3_toMend_32 (by decide) (fun t32 => ?_) (fun f32 => ?_)
        · refine xt_inc _ (1) dX3_toMend_71 rfl (by decide) (by decide) rfl ?_
          change x_T _ _ _ _ [_, _, _, _, _, _] _ _ _ _
          refine xt_goto 16 dX3_toMend_74 (by decide) ?_
          have hml := s_ml_le F g j m
          refine x_T.ls ?_ (ih (m + 1) (by omega))
          have es : s_ml F g j (m + 1) = s_ml F g j m := by rw [s_ml, if_neg (fun q => t32 (by rw [q.1]))]
          have ex : s_ex F g j (m + 1) = s_ex F g j m := by unfold s_ex; rw [es]
          rw [ex, nI_succ m]
        · refine xt_aload_n _ dX3_toMend_35 rfl ?_
          refine xt_iload_n _ dX3_toMend_36 rfl ?_
          refine xt_cV _ dX3_toMend_37 klX3_37 (tX2_farOf sc _ w (by exact ⟨hs0, hs1, hs2, hs3, hs4, hs5⟩) hC hW g hg) (by assumption) rfl rfl (Nat.le_of_ble_eq_true rfl) ?_
          refine xt_aload_n _ dX3_toMend_40 rfl ?_
          refine xt_iload _ dX3_toMend_41 rfl ?_
          refine xt_cV _ dX3_toMend_43 klX3_40 (tX2_reachOf sc _ w (by exact ⟨hs0, hs1, hs2, hs3, hs4, hs5⟩) hC hW m hlt) (by assumption) rfl rfl (Nat.le_of_ble_eq_true rfl) ?_
          refine xt_icmp_gt 71 dX3_toMend_46 (by decide) (fun t46 => ?_) (fun f46 => ?_)
          · refine xt_inc _ (1) dX3_toMend_71 rfl (by decide) (by decide) rfl ?_
            change x_T _ _ _ _ [_, _, _, _, _, _] _ _ _ _
            refine xt_goto 16 dX3_toMend_74 (by decide) ?_
            have hml := s_ml_le F g j m
            refine x_T.ls ?_ (ih (m + 1) (by omega))
            rw [nI_ltI (by omega) (by omega)] at t46
            have es : s_ml F g j (m + 1) = s_ml F g j m := by rw [s_ml, if_neg (fun q => by omega)]
            have ex : s_ex F g j (m + 1) = s_ex F g j m := by unfold s_ex; rw [es]
            rw [ex, nI_succ m]
          · refine xt_iload _ dX3_toMend_49 rfl ?_
            refine xt_aload_n _ dX3_toMend_51 rfl ?_
            refine xt_iload_n _ dX3_toMend_52 rfl ?_
            refine xt_iload_n _ dX3_toMend_53 rfl ?_
            refine xt_cV _ dX3_toMend_54 klX3_43 (tX2_wrongsOf sc _ w (by exact ⟨hs0, hs1, hs2, hs3, hs4, hs5⟩) hC g j hg8 hj) (by assumption) rfl rfl (Nat.le_of_ble_eq_true rfl) ?_
            refine xt_aload_n _ dX3_toMend_57 rfl ?_
            refine xt_iload _ dX3_toMend_58 rfl ?_
            refine xt_cV _ dX3_toMend_60 klX3_47 (tX2_leastOf sc _ w (by exact ⟨hs0, hs1, hs2, hs3, hs4, hs5⟩) hC hW m hlt) (by assumption) rfl rfl (Nat.le_of_ble_eq_true rfl) ?_
            refine xt_isub dX3_toMend_63 ?_
            refine xt_iconst (1) dX3_toMend_64 (by decide) ?_
            refine xt_iadd dX3_toMend_65 ?_
            refine xt_mmax dX3_toMend_66 kmX3_50 (Nat.le_of_ble_eq_true rfl) ?_
            refine xt_istore dX3_toMend_69 (by decide) rfl ?_
            change x_T _ _ _ _ [_, _, _, _, _, _] _ _ _ _
            refine xt_inc _ (1) dX3_toMend_71 rfl (by decide) (by decide) rfl ?_
            change x_T _ _ _ _ [_, _, _, _, _, _] _ _ _ _
            refine xt_goto 16 dX3_toMend_74 (by decide) ?_
            have hml := s_ml_le F g j m
            refine x_T.ls ?_ (ih (m + 1) (by omega))
            rw [nI_ltI (by omega) (by omega)] at f46
            have hkj : F (7 + m) = j := (nI_eq (by omega) (by omega)).mp f32
            have es : s_ml F g j (m + 1) = min (s_ml F g j m) (F (19 + m)) := by rw [s_ml, if_pos ⟨hkj, by omega⟩]
            have ex : s_ex F g j (m + 1) = max (s_ex F g j m) (F (41 + (6 * g + j)) + 1 - F (19 + m)) := by unfold s_ex; rw [es]; omega
            rw [ex, ← s_mx (s_ex F g j m) (by unfold s_ex; omega) _ (by omega) _ (by omega), nI_succ m]
  have L4 : ∀ n j (v4 v5 : Value), j + n = 6 → x_T sc (d + 3) mX3_toMend 4 [.ref k, .int (nI g), .int (nI (s_sum (fun j => s_ex F g j (F 3)) j)), .int (nI j), v4, v5] [] μ w (x_p (some (.int (nI (s_mend F g)))) μ w) := by
    intro n
    induction n with
    | zero =>
      intro j v4 v5 hmn
      obtain rfl : j = 6 := by omega
      refine xt_iload_n _ dX3_toMend_4 rfl ?_
      refine xt_bipush (6) dX3_toMend_5 (by decide) ?_
      refine xt_icmp_ge 88 dX3_toMend_7 (by decide) (fun _ => ?_) (fun q => absurd (by decide) q)
      refine xt_iload_n _ dX3_toMend_88 rfl ?_
      exact xt_iret .int dX3_toMend_89 rfl (by first | rfl | assumption) ⟨rfl, rfl, rfl⟩
    | succ n ih =>
      intro j v4 v5 hmn
      have hj : j < 6 := by omega
      refine xt_iload_n _ dX3_toMend_4 rfl ?_
      refine xt_bipush (6) dX3_toMend_5 (by decide) ?_
      refine xt_icmp_ge 88 dX3_toMend_7 (by decide) (fun q => absurd q (nI_ge (b := 6) hj (by decide))) (fun _ => ?_)
      refine xt_iconst (0) dX3_toMend_10 (by decide) ?_
      refine xt_istore dX3_toMend_11 (by decide) rfl ?_
      change x_T _ _ _ _ [_, _, _, _, _, _] _ _ _ _
      refine xt_iconst (0) dX3_toMend_13 (by decide) ?_
      refine xt_istore dX3_toMend_14 (by decide) rfl ?_
      change x_T _ _ _ _ [_, _, _, _, _, _] _ _ _ _
      have hwj := hW.2.2.2.1 (6 * g + j) (by omega)
      refine x_T.ls ?_ (L16 j hj (s_sum (fun j => s_ex F g j (F 3)) j) ?_ (F 3) 0 (by omega))
      · rw [s_ex, s_ml, show F (41 + (6 * g + j)) + 1 - 10 = 0 by omega]; rfl
      · refine xt_iload_n _ dX3_toMend_77 rfl ?_
        refine xt_iload _ dX3_toMend_78 rfl ?_
        refine xt_iadd dX3_toMend_80 ?_
        refine xt_istore_n dX3_toMend_81 (by decide) rfl ?_
        change x_T _ _ _ _ [_, _, _, _, _, _] _ _ _ _
        refine xt_inc _ (1) dX3_toMend_82 rfl (by decide) (by decide) rfl ?_
        change x_T _ _ _ _ [_, _, _, _, _, _] _ _ _ _
        refine xt_goto 4 dX3_toMend_85 (by decide) ?_
        refine x_T.ls ?_ (ih (j + 1) (.int (nI (s_ex F g j (F 3)))) (.int (nI (F 3))) (by omega))
        rw [nI_add, nI_succ j]
        rfl
  refine x_D.of (by decide) (Nat.le_of_ble_eq_true rfl) ?_
  show x_T sc (d + 3) mX3_toMend 0 [.ref k, .int (nI g), .retAddr 0, .retAddr 0, .retAddr 0, .retAddr 0] [] μ w _
  refine xt_iconst (0) dX3_toMend_0 (by decide) ?_
  refine xt_istore_n dX3_toMend_1 (by decide) rfl ?_
  change x_T _ _ _ _ [_, _, _, _, _, _] _ _ _ _
  refine xt_iconst (0) dX3_toMend_2 (by decide) ?_
  refine xt_istore_n dX3_toMend_3 (by decide) rfl ?_
  change x_T _ _ _ _ [_, _, _, _, _, _] _ _ _ _
  exact L4 6 0 _ _ (by omega)
end MEND
set_option maxHeartbeats 1000000 in
theorem st_mend (sc : Nat × (Nat → Int32)) (a1 a2 : Int32) : x_stI sc (fun μ _ => x_Inv μ) (fun μ _ => x_Inv μ) mX11_mend mX12_mend [.int a1, .int a2] := by
  refine x_stF (-1) ?_ ?_ ?_
  · intro μ w c hc e hk
    refine x_K.of (by decide) (Nat.le_of_ble_eq_true rfl) ?_
    show x_T sc 29 mX11_mend 0 [.ref 0, .int a1, .int a2, .retAddr 0] [] μ w _
    refine xt_aload_n _ dX11_mend_0 rfl ?_
    refine xt_iload_n _ dX11_mend_1 rfl ?_
    refine xt_cV _ dX11_mend_2 klX11_90 (tX11_fairOf_no sc _ μ w c hc e _ hk) sh0 rfl rfl (Nat.le_of_ble_eq_true rfl) ?_
    refine xt_astore_n0 dX11_mend_5 (by decide) rfl ?_
    change x_T _ _ _ _ [_, _, _, _] _ _ _ _
    refine xt_aload_n0 dX11_mend_6 rfl ?_
    refine xt_ifnull_n 18 dX11_mend_7 (by decide) ?_
    refine xt_iconst (-1) dX11_mend_18 (by decide) ?_
    refine xt_goto 27 dX11_mend_19 (by decide) ?_
    exact xt_iret .int dX11_mend_27 rfl (by first | rfl | assumption) ⟨rfl, x_keep.rf μ⟩
  · intro μ w c hc e hk
    refine x_K.of (by decide) (Nat.le_of_ble_eq_true rfl) ?_
    show x_T sc 29 mX12_mend 0 [.ref 152, .int a1, .int a2, .retAddr 0, .retAddr 0, .retAddr 0, .retAddr 0, .retAddr 0] [] μ w _
    refine xt_aload_n _ dX12_mend_0 rfl ?_
    refine xt_iconst (0) dX12_mend_1 (by decide) ?_
    refine xt_puti dX12_mend_2 kpX12_72 (by first | exact sh152 | rfl | assumption) rfl (by first | rfl | assumption) (by first | rfl | assumption) ?_
    refine xt_aload_n _ dX12_mend_5 rfl ?_
    refine xt_iload_n _ dX12_mend_6 rfl ?_
    refine xt_cV _ dX12_mend_7 klX12_300 (tX12_hand_no sc _ (x_u μ 152 (upd (μ 152) 0 0)) w c hc e _ hk) sh152 rfl rfl (Nat.le_of_ble_eq_true rfl) ?_
    refine xt_if_eq 21 dX12_mend_10 (by decide) (fun _ => ?_) (fun q => absurd (by decide) q)
    refine xt_iconst (-1) dX12_mend_21 (by decide) ?_
    exact xt_iret .int dX12_mend_22 rfl (by first | rfl | assumption) ⟨rfl, (x_keep.u (x_keep.rf μ) (by unfold x_ok; omega))⟩
  · intro f F hf2 hkk hW
    subst hkk
    have h8 := hW.1.2.2.2.2.1
    have hm6 : F 3 ≤ 6 := hW.1.2.2.2.1
    by_cases hr : 0 ≤ a2 ∧ a2 < nI (F 4)
    · obtain ⟨g, hg31, rfl⟩ := nI_of (Int32.not_lt.mpr hr.1)
      have hg : g < F 4 := (nI_ltI hg31 (by omega)).mp hr.2
      have hfar := s_farO_le hW hg
      refine ⟨nI (s_mend F g), ?_, ?_⟩
      · intro μ w c hf hc e hC
        have hS := f_Sf hf2
        refine x_K.of (by decide) (Nat.le_of_ble_eq_true rfl) ?_
        show x_T sc 29 mX11_mend 0 [.ref 0, .int (nI f), .int (nI g), .retAddr 0] [] μ w _
        refine xt_aload_n _ dX11_mend_0 rfl ?_
        refine xt_iload_n _ dX11_mend_1 rfl ?_
        refine xt_cV _ dX11_mend_2 klX11_90 (tX11_fairOf sc _ μ w f c hf hc e) sh0 rfl rfl (Nat.le_of_ble_eq_true rfl) ?_
        refine xt_astore_n dX11_mend_5 (by decide) rfl ?_
        change x_T _ _ _ _ [_, _, _, _] _ _ _ _
        refine xt_aload_n _ dX11_mend_6 rfl ?_
        refine xt_ifnull_r dX11_mend_7 ?_
        refine xt_aload_n _ dX11_mend_10 rfl ?_
        refine xt_iload_n _ dX11_mend_11 rfl ?_
        refine xt_cV _ dX11_mend_12 klX11_116 (tX2_hasGoer sc _ w hS hC _) hS.1 rfl rfl (Nat.le_of_ble_eq_true rfl) ?_
        refine xt_if_ne 22 dX11_mend_15 (by decide) (fun _ => ?_) (fun q => absurd q (by rw [s_hasG_yes hg h8]; decide))
        refine xt_aload_n _ dX11_mend_22 rfl ?_
        refine xt_iload_n _ dX11_mend_23 rfl ?_
        refine xt_cS _ dX11_mend_24 klX11_120 (tX3_toMend sc _ w hS hC hW g hg) rfl rfl (Nat.le_of_ble_eq_true rfl) ?_
        exact xt_iret .int dX11_mend_27 rfl (by first | rfl | assumption) ⟨rfl, x_keep.rf μ⟩
      · intro μ w c hf hc e hF
        refine x_K.of (by decide) (Nat.le_of_ble_eq_true rfl) ?_
        show x_T sc 29 mX12_mend 0 [.ref 152, .int (nI f), .int (nI g), .retAddr 0, .retAddr 0, .retAddr 0, .retAddr 0, .retAddr 0] [] μ w _
        refine xt_aload_n _ dX12_mend_0 rfl ?_
        refine xt_iconst (0) dX12_mend_1 (by decide) ?_
        refine xt_puti dX12_mend_2 kpX12_72 (by first | exact sh152 | rfl | assumption) rfl (by first | rfl | assumption) (by first | rfl | assumption) ?_
        refine xt_aload_n _ dX12_mend_5 rfl ?_
        refine xt_iload_n _ dX12_mend_6 rfl ?_
        refine xt_callV _ dX12_mend_7 klX12_300 (tX12_hand sc _ (x_u μ 152 (upd (μ 152) 0 0)) w f c F hf hc e hF) sh152 rfl rfl (Nat.le_of_ble_eq_true rfl) (fun r1 μ1 w1 q1 => ?_)
        obtain ⟨rfl, rfl, hS, h0, hfr⟩ := q1
        change x_T _ _ _ _ _ (.int 1 :: _) _ _ _
        have e3 : μ1 152 23 = nI (F 3) := hS.1.2.2.1
        refine xt_if_eq 21 dX12_mend_10 (by decide) (fun q => absurd q (by decide)) (fun _ => ?_)
        refine xt_aload_n _ dX12_mend_13 rfl ?_
        refine xt_iload_n _ dX12_mend_14 rfl ?_
        refine xt_cV _ dX12_mend_15 klX12_303 (tX12_isGoer sc _ μ1 _ F h8 hS.1.2.2.2.1 _) sh152 rfl rfl (Nat.le_of_ble_eq_true rfl) ?_
        refine xt_if_ne 23 dX12_mend_18 (by decide) (fun _ => ?_) (fun q => absurd q (by rw [s_hasG_yes hg h8]; decide))
        refine xt_iconst (0) dX12_mend_23 (by decide) ?_
        refine xt_istore_n dX12_mend_24 (by decide) rfl ?_
        change x_T _ _ _ _ [_, _, _, _, _, _, _, _] _ _ _ _
        refine xt_aload_n _ dX12_mend_25 rfl ?_
        refine xt_iload_n _ dX12_mend_26 rfl ?_
        refine xt_cV _ dX12_mend_27 klX12_294 (tX12_fromStand sc _ μ1 _ f F hS hW g hg) sh152 rfl rfl (Nat.le_of_ble_eq_true rfl) ?_
        refine xt_istore dX12_mend_30 (by decide) rfl ?_
        change x_T _ _ _ _ [_, _, _, _, _, _, _, _] _ _ _ _
        refine xt_iconst (0) dX12_mend_32 (by decide) ?_
        refine xt_istore dX12_mend_33 (by decide) rfl ?_
        change x_T _ _ _ _ [_, _, _, _, _, _, _, _] _ _ _ _
        have L35 : ∀ (n35 j : Nat) (v6 v7 : Value), j + n35 = 6 → x_T sc 29 mX12_mend 35 [.ref 152, .int (nI f), .int (nI g), .int (nI (s_sum (fun j => s_ex F g j (F 3)) j)), .int (nI (s_farO F g)), .int (nI j), v6, v7] [] μ1 w1 (fun r μ' _ => r = some (.int (nI (s_mend F g))) ∧ x_keep μ μ') := by
          intro n35
          induction n35 with
          | zero =>
            intro j v6 v7 hmn
            obtain rfl : j = 6 := by omega
            refine xt_iload _ dX12_mend_35 rfl ?_
            refine xt_bipush (6) dX12_mend_37 (by decide) ?_
            refine xt_icmp_ge 143 dX12_mend_39 (by decide) (fun _ => ?_) (fun q => absurd (by decide) q)
            refine xt_iload_n _ dX12_mend_143 rfl ?_
            exact xt_iret .int dX12_mend_144 rfl (by first | rfl | assumption) ⟨rfl, (x_keep.hand hfr)⟩
          | succ n35 ih35 =>
            intro j v6 v7 hmn
            have hlt_j : j < 6 := by omega
            have hix : (6 : Int32) * nI g + nI j = nI (6 * g + j) := by rw [show (6 : Int32) = nI 6 from rfl, pk_mul, nI_add]
            have hwj := hW.2.2.2.1 (6 * g + j) (by omega)
            refine xt_iload _ dX12_mend_35 rfl ?_
            refine xt_bipush (6) dX12_mend_37 (by decide) ?_
            refine xt_icmp_ge 143 dX12_mend_39 (by decide) (fun q => absurd q (nI_ge (b := 6) hlt_j (by decide))) (fun _ => ?_)
            refine xt_bipush (10) dX12_mend_42 (by decide) ?_
            refine xt_istore dX12_mend_44 (by decide) rfl ?_
            change x_T _ _ _ _ [_, _, _, _, _, _, _, _] _ _ _ _
            refine xt_iconst (0) dX12_mend_46 (by decide) ?_
            refine xt_istore dX12_mend_47 (by decide) rfl ?_
            change x_T _ _ _ _ [_, _, _, _, _, _, _, _] _ _ _ _
            have L49 : ∀ (n49 m : Nat) , m + n49 = F 3 → x_T sc 29 mX12_mend 49 [.ref 152, .int (nI f), .int (nI g), .int (nI (s_sum (fun j => s_ex F g j (F 3)) j)), .int (nI (s_farO F g)), .int (nI j), .int (nI (s_ml F g j m)), .int (nI m)] [] μ1 w1 (fun r μ' _ => r = some (.int (nI (s_mend F g))) ∧ x_keep μ μ') := by
              intro n49
              induction n49 with
              | zero =>
                intro m  hmn
                obtain rfl : m = F 3 := by omega
                refine xt_iload _ dX12_mend_49 rfl ?_
                refine xt_aload_n _ dX12_mend_51 rfl ?_
                refine xt_geti dX12_mend_52 kfX12_248 (by first | exact sh152 | rfl | assumption) rfl ?_
                refine xt_icmp_ge 113 dX12_mend_55 (by decide) (fun _ => ?_) (fun q => absurd (by rw [e3]; exact Int32.le_refl _) q)
                refine xt_iload_n _ dX12_mend_113 rfl ?_
                refine xt_iconst (0) dX12_mend_114 (by decide) ?_
                refine xt_aload_n _ dX12_mend_115 rfl ?_
                refine xt_getr _ dX12_mend_116 kfX12_47 (by first | exact sh152 | rfl | assumption) rfl ?_
                refine xt_bipush (6) dX12_mend_119 (by decide) ?_
                refine xt_iload_n _ dX12_mend_121 rfl ?_
                refine xt_imul dX12_mend_122 ?_
                refine xt_iload _ dX12_mend_123 rfl ?_
                refine xt_iadd dX12_mend_125 ?_
                refine xt_ald dX12_mend_126 (by first | exact sh152 | rfl | assumption) (by rw [hix]; exact vp_in_nI (by omega) (by decide)) ?_
                refine xt_iload _ dX12_mend_127 rfl ?_
                refine xt_isub dX12_mend_129 ?_
                refine xt_iconst (1) dX12_mend_130 (by decide) ?_
                refine xt_iadd dX12_mend_131 ?_
                refine xt_cS _ dX12_mend_132 klX12_153 (tX12_greater sc _ μ1 _ _ _) rfl rfl (Nat.le_of_ble_eq_true rfl) ?_
                refine xt_iadd dX12_mend_135 ?_
                refine xt_istore_n dX12_mend_136 (by decide) rfl ?_
                change x_T _ _ _ _ [_, _, _, _, _, _, _, _] _ _ _ _
                refine xt_inc _ (1) dX12_mend_137 rfl (by decide) (by decide) rfl ?_
                change x_T _ _ _ _ [_, _, _, _, _, _, _, _] _ _ _ _
                refine xt_goto 35 dX12_mend_140 (by decide) ?_
                have hml := s_ml_le F g j (F 3)
                refine x_T.ls ?_ (ih35 (j + 1) (.int (nI (s_ml F g j (F 3)))) (.int (nI (F 3))) (by omega))
                rw [hix, nI_clamp (by omega), hS.2.2.1 _ (by omega), s_gx _ (by omega) _ (by omega), nI_add, nI_succ j]
                rfl
              | succ n49 ih49 =>
                intro m  hmn
                have hlt : m < F 3 := by omega
                have hk5 := (hW.2.1 m hlt).1
                have hr18 := (hW.2.1 m hlt).2.1
                have hl9 := (hW.2.1 m hlt).2.2.2
                refine xt_iload _ dX12_mend_49 rfl ?_
                refine xt_aload_n _ dX12_mend_51 rfl ?_
                refine xt_geti dX12_mend_52 kfX12_248 (by first | exact sh152 | rfl | assumption) rfl ?_
                refine xt_icmp_ge 113 dX12_mend_55 (by decide) (fun q => absurd q (by rw [e3]; exact nI_ge hlt (by omega))) (fun _ => ?_)
                refine xt_aload_n _ dX12_mend_58 rfl ?_
                refine xt_bipush (7) dX12_mend_59 (by decide) ?_
                refine xt_iload _ dX12_mend_61 rfl ?_
                refine xt_iadd dX12_mend_63 ?_
                rw [show (7 : Int32) + nI m = nI (7 + m) from nI_add 7 m]
                refine xt_cV _ dX12_mend_64 klX12_244 (tX12_of sc _ μ1 _ f (7 + m) (by omega) (by omega) hS.1.2.1) sh152 rfl rfl (Nat.le_of_ble_eq_true rfl) ?_
                rw [hS.2.2.2 (7 + m) (by omega) (by omega)]
                refine xt_iload _ dX12_mend_67 rfl ?_
                refine xt_icmp_ne 103 dX12_mend_69 (by decide) (fun t69 => ?_) (fun f69 => ?_)
                · refine xt_iload _ dX12_mend_103 rfl ?_
                  refine xt_istore dX12_mend_105 (by decide) rfl ?_
                  change x_T _ _ _ _ [_, _, _, _, _, _, _, _] _ _ _ _
                  refine xt_inc _ (1) dX12_mend_107 rfl (by decide) (by decide) rfl ?_
                  change x_T _ _ _ _ [_, _, _, _, _, _, _, _] _ _ _ _
                  refine xt_goto 49 dX12_mend_110 (by decide) ?_
                  have hml := s_ml_le F g j m
                  refine x_T.ls ?_ (ih49 (m + 1) (by omega))
                  have es : s_ml F g j (m + 1) = s_ml F g j m := by rw [s_ml, if_neg (fun q => t69 (by rw [q.1]))]
                  rw [es, nI_succ m]
                · refine xt_iload _ dX12_mend_72 rfl ?_
                  refine xt_aload_n _ dX12_mend_74 rfl ?_
                  refine xt_bipush (13) dX12_mend_75 (by decide) ?_
                  refine xt_iload _ dX12_mend_77 rfl ?_
                  refine xt_iadd dX12_mend_79 ?_
                  rw [show (13 : Int32) + nI m = nI (13 + m) from nI_add 13 m]
                  refine xt_cV _ dX12_mend_80 klX12_244 (tX12_of sc _ μ1 _ f (13 + m) (by omega) (by omega) hS.1.2.1) sh152 rfl rfl (Nat.le_of_ble_eq_true rfl) ?_
                  rw [hS.2.2.2 (13 + m) (by omega) (by omega)]
                  refine xt_icmp_gt 103 dX12_mend_83 (by decide) (fun t83 => ?_) (fun f83 => ?_)
                  · refine xt_iload _ dX12_mend_103 rfl ?_
                    refine xt_istore dX12_mend_105 (by decide) rfl ?_
                    change x_T _ _ _ _ [_, _, _, _, _, _, _, _] _ _ _ _
                    refine xt_inc _ (1) dX12_mend_107 rfl (by decide) (by decide) rfl ?_
                    change x_T _ _ _ _ [_, _, _, _, _, _, _, _] _ _ _ _
                    refine xt_goto 49 dX12_mend_110 (by decide) ?_
                    have hml := s_ml_le F g j m
                    refine x_T.ls ?_ (ih49 (m + 1) (by omega))
                    rw [nI_ltI (by omega) (by omega)] at t83
                    have es : s_ml F g j (m + 1) = s_ml F g j m := by rw [s_ml, if_neg (fun q => by omega)]
                    rw [es, nI_succ m]
                  · refine xt_iload _ dX12_mend_86 rfl ?_
                    refine xt_aload_n _ dX12_mend_88 rfl ?_
                    refine xt_bipush (19) dX12_mend_89 (by decide) ?_
                    refine xt_iload _ dX12_mend_91 rfl ?_
                    refine xt_iadd dX12_mend_93 ?_
                    rw [show (19 : Int32) + nI m = nI (19 + m) from nI_add 19 m]
                    refine xt_cV _ dX12_mend_94 klX12_244 (tX12_of sc _ μ1 _ f (19 + m) (by omega) (by omega) hS.1.2.1) sh152 rfl rfl (Nat.le_of_ble_eq_true rfl) ?_
                    rw [hS.2.2.2 (19 + m) (by omega) (by omega)]
                    refine xt_cS _ dX12_mend_97 klX12_209 (tX12_lesser sc _ μ1 _ _ _) rfl rfl (Nat.le_of_ble_eq_true rfl) ?_
                    refine xt_goto 105 dX12_mend_100 (by decide) ?_
                    refine xt_istore dX12_mend_105 (by decide) rfl ?_
                    change x_T _ _ _ _ [_, _, _, _, _, _, _, _] _ _ _ _
                    refine xt_inc _ (1) dX12_mend_107 rfl (by decide) (by decide) rfl ?_
                    change x_T _ _ _ _ [_, _, _, _, _, _, _, _] _ _ _ _
                    refine xt_goto 49 dX12_mend_110 (by decide) ?_
                    have hml := s_ml_le F g j m
                    refine x_T.ls ?_ (ih49 (m + 1) (by omega))
                    rw [nI_ltI (by omega) (by omega)] at f83
                    have hkj : F (7 + m) = j := (nI_eq (by omega) (by omega)).mp f69
                    have es : s_ml F g j (m + 1) = min (s_ml F g j m) (F (19 + m)) := by rw [s_ml, if_pos ⟨hkj, by omega⟩]
                    rw [es, nI_succ m, s_le_nI (by omega) (by omega)]
            exact L49 (F 3) 0  (by omega)
        exact L35 (6) 0 _ _ (by omega)
    · skip
      refine ⟨-1, ?_, ?_⟩
      · intro μ w c hf hc e hC
        have hS := f_Sf hf2
        refine x_K.of (by decide) (Nat.le_of_ble_eq_true rfl) ?_
        show x_T sc 29 mX11_mend 0 [.ref 0, .int (nI f), .int a2, .retAddr 0] [] μ w _
        refine xt_aload_n _ dX11_mend_0 rfl ?_
        refine xt_iload_n _ dX11_mend_1 rfl ?_
        refine xt_cV _ dX11_mend_2 klX11_90 (tX11_fairOf sc _ μ w f c hf hc e) sh0 rfl rfl (Nat.le_of_ble_eq_true rfl) ?_
        refine xt_astore_n dX11_mend_5 (by decide) rfl ?_
        change x_T _ _ _ _ [_, _, _, _] _ _ _ _
        refine xt_aload_n _ dX11_mend_6 rfl ?_
        refine xt_ifnull_r dX11_mend_7 ?_
        refine xt_aload_n _ dX11_mend_10 rfl ?_
        refine xt_iload_n _ dX11_mend_11 rfl ?_
        refine xt_cV _ dX11_mend_12 klX11_116 (tX2_hasGoer sc _ w hS hC _) hS.1 rfl rfl (Nat.le_of_ble_eq_true rfl) ?_
        refine xt_if_ne 22 dX11_mend_15 (by decide) (fun q => absurd (s_hasG_no hr) q) (fun _ => ?_)
        refine xt_iconst (-1) dX11_mend_18 (by decide) ?_
        refine xt_goto 27 dX11_mend_19 (by decide) ?_
        exact xt_iret .int dX11_mend_27 rfl (by first | rfl | assumption) ⟨rfl, x_keep.rf μ⟩
      · intro μ w c hf hc e hF
        refine x_K.of (by decide) (Nat.le_of_ble_eq_true rfl) ?_
        show x_T sc 29 mX12_mend 0 [.ref 152, .int (nI f), .int a2, .retAddr 0, .retAddr 0, .retAddr 0, .retAddr 0, .retAddr 0] [] μ w _
        refine xt_aload_n _ dX12_mend_0 rfl ?_
        refine xt_iconst (0) dX12_mend_1 (by decide) ?_
        refine xt_puti dX12_mend_2 kpX12_72 (by first | exact sh152 | rfl | assumption) rfl (by first | rfl | assumption) (by first | rfl | assumption) ?_
        refine xt_aload_n _ dX12_mend_5 rfl ?_
        refine xt_iload_n _ dX12_mend_6 rfl ?_
        refine xt_callV _ dX12_mend_7 klX12_300 (tX12_hand sc _ (x_u μ 152 (upd (μ 152) 0 0)) w f c F hf hc e hF) sh152 rfl rfl (Nat.le_of_ble_eq_true rfl) (fun r1 μ1 w1 q1 => ?_)
        obtain ⟨rfl, rfl, hS, h0, hfr⟩ := q1
        change x_T _ _ _ _ _ (.int 1 :: _) _ _ _
        refine xt_if_eq 21 dX12_mend_10 (by decide) (fun q => absurd q (by decide)) (fun _ => ?_)
        refine xt_aload_n _ dX12_mend_13 rfl ?_
        refine xt_iload_n _ dX12_mend_14 rfl ?_
        refine xt_cV _ dX12_mend_15 klX12_303 (tX12_isGoer sc _ μ1 _ F h8 hS.1.2.2.2.1 _) sh152 rfl rfl (Nat.le_of_ble_eq_true rfl) ?_
        refine xt_if_ne 23 dX12_mend_18 (by decide) (fun q => absurd (s_hasG_no hr) q) (fun _ => ?_)
        refine xt_iconst (-1) dX12_mend_21 (by decide) ?_
        exact xt_iret .int dX12_mend_22 rfl (by first | rfl | assumption) ⟨rfl, (x_keep.hand hfr)⟩
