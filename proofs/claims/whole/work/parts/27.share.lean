/-! the step of share -/
section SHARE
variable (sc : Nat × (Nat → Int32)) (d : Nat) (μ : x_Me) (w : Int64)
/-- a GOER's WRONGS together; all WRONGS -/
abbrev s_wt (F : Nat → Nat) (g : Nat) : Nat := s_sum (fun j => F (41 + (6 * g + j))) 6
abbrev s_all (F : Nat → Nat) : Nat := s_sum (fun g => s_sum (fun j => F (41 + (6 * g + j))) 6) (F 4)
theorem s_wt_le {F : Nat → Nat} (hW : f_W F) {g : Nat} (hg : g < 8) : s_wt F g ≤ 54 := by
  have := s_sum_le (f := fun j => F (41 + (6 * g + j))) (c := 9) (n := 6) (fun i hi => hW.2.2.2.1 _ (by omega))
  unfold s_wt; omega
theorem s_all_le {F : Nat → Nat} (hW : f_W F) : s_all F ≤ 432 := by
  have h8 := hW.1.2.2.2.2.1
  have := s_sum_le (f := fun g => s_sum (fun j => F (41 + (6 * g + j))) 6) (c := 54) (n := F 4) (fun i hi => s_wt_le hW (by omega))
  unfold s_all; omega
set_option maxHeartbeats 600000 in
theorem tX12_wrongsOf (G : Nat → Nat) (hw : ∀ i, i < 48 → μ 165 i = nI (G (41 + i))) (g : Nat) (hg : g < 8) : x_D sc d mX12_wrongsOf [.ref 152, .int (nI g)] μ w (some (.int (nI (s_wt G g)))) μ w := by
  have L4 : ∀ (n m : Nat) , m + n = 6 → x_T sc d mX12_wrongsOf 4 [.ref 152, .int (nI g), .int (nI (s_sum (fun j => G (41 + (6 * g + j))) m)), .int (nI m)] [] μ w (x_p (some (.int (nI (s_wt G g)))) μ w) := by
    intro n
    induction n with
    | zero =>
      intro m  hmn
      obtain rfl : m = 6 := by omega
      refine xt_iload_n _ dX12_wrongsOf_4 rfl ?_
      refine xt_bipush (6) dX12_wrongsOf_5 (by decide) ?_
      refine xt_icmp_ge 30 dX12_wrongsOf_7 (by decide) (fun _ => ?_) (fun q => absurd (by decide) q)
      refine xt_iload_n _ dX12_wrongsOf_30 rfl ?_
      exact xt_iret .int dX12_wrongsOf_31 rfl (by first | rfl | assumption) ⟨rfl, rfl, rfl⟩
    | succ n ih =>
      intro m  hmn
      have hlt : m < 6 := by omega
      have hix : (6 : Int32) * nI g + nI m = nI (6 * g + m) := by rw [show (6 : Int32) = nI 6 from rfl, pk_mul, nI_add]
      refine xt_iload_n _ dX12_wrongsOf_4 rfl ?_
      refine xt_bipush (6) dX12_wrongsOf_5 (by decide) ?_
      refine xt_icmp_ge 30 dX12_wrongsOf_7 (by decide) (fun q => absurd q (nI_ge (b := 6) hlt (by decide))) (fun _ => ?_)
      refine xt_iload_n _ dX12_wrongsOf_10 rfl ?_
      refine xt_aload_n _ dX12_wrongsOf_11 rfl ?_
      refine xt_getr _ dX12_wrongsOf_12 kfX12_47 (by first | exact sh152 | rfl | assumption) rfl ?_
      refine xt_bipush (6) dX12_wrongsOf_15 (by decide) ?_
      refine xt_iload_n _ dX12_wrongsOf_17 rfl ?_
      refine xt_imul dX12_wrongsOf_18 ?_
      refine xt_iload_n _ dX12_wrongsOf_19 rfl ?_
      refine xt_iadd dX12_wrongsOf_20 ?_
      refine xt_ald dX12_wrongsOf_21 (by first | exact sh152 | rfl | assumption) (by rw [hix]; exact vp_in_nI (by omega) (by decide)) ?_
      refine xt_iadd dX12_wrongsOf_22 ?_
      refine xt_istore_n dX12_wrongsOf_23 (by decide) rfl ?_
      change x_T _ _ _ _ [_, _, _, _] _ _ _ _
      refine xt_inc _ (1) dX12_wrongsOf_24 rfl (by decide) (by decide) rfl ?_
      change x_T _ _ _ _ [_, _, _, _] _ _ _ _
      refine xt_goto 4 dX12_wrongsOf_27 (by decide) ?_
      refine x_T.ls ?_ (ih (m + 1) (by omega))
      first | (rw [hix, nI_clamp (by omega), hw _ (by omega), nI_add, nI_succ m]; done) | (rw [hix, nI_clamp (by omega), hw _ (by omega), nI_add, nI_succ m]; rfl)
  refine x_D.of (by decide) (Nat.le_of_ble_eq_true rfl) ?_
  show x_T sc d mX12_wrongsOf 0 [.ref 152, .int (nI g), .retAddr 0, .retAddr 0] [] μ w _
  refine xt_iconst (0) dX12_wrongsOf_0 (by decide) ?_
  refine xt_istore_n dX12_wrongsOf_1 (by decide) rfl ?_
  change x_T _ _ _ _ [_, _, _, _] _ _ _ _
  refine xt_iconst (0) dX12_wrongsOf_2 (by decide) ?_
  refine xt_istore_n dX12_wrongsOf_3 (by decide) rfl ?_
  change x_T _ _ _ _ [_, _, _, _] _ _ _ _
  exact L4 6 0 (by omega)
set_option maxHeartbeats 600000 in
theorem tX12_allWrongs (G : Nat → Nat) (h8 : G 4 ≤ 8) (e4 : μ 152 24 = nI (G 4)) (hw : ∀ i, i < 48 → μ 165 i = nI (G (41 + i))) : x_D sc (d + 1) mX12_allWrongs [.ref 152] μ w (some (.int (nI (s_all G)))) μ w := by
  have L4 : ∀ (n m : Nat) , m + n = G 4 → x_T sc (d + 1) mX12_allWrongs 4 [.ref 152, .int (nI (s_sum (fun g => s_sum (fun j => G (41 + (6 * g + j))) 6) m)), .int (nI m)] [] μ w (x_p (some (.int (nI (s_all G)))) μ w) := by
    intro n
    induction n with
    | zero =>
      intro m  hmn
      obtain rfl : m = G 4 := by omega
      refine xt_iload_n _ dX12_allWrongs_4 rfl ?_
      refine xt_aload_n _ dX12_allWrongs_5 rfl ?_
      refine xt_geti dX12_allWrongs_6 kfX12_251 (by first | exact sh152 | rfl | assumption) rfl ?_
      refine xt_icmp_ge 26 dX12_allWrongs_9 (by decide) (fun _ => ?_) (fun q => absurd (by rw [e4]; exact Int32.le_refl _) q)
      refine xt_iload_n _ dX12_allWrongs_26 rfl ?_
      exact xt_iret .int dX12_allWrongs_27 rfl (by first | rfl | assumption) ⟨rfl, rfl, rfl⟩
    | succ n ih =>
      intro m  hmn
      have hlt : m < G 4 := by omega
      refine xt_iload_n _ dX12_allWrongs_4 rfl ?_
      refine xt_aload_n _ dX12_allWrongs_5 rfl ?_
      refine xt_geti dX12_allWrongs_6 kfX12_251 (by first | exact sh152 | rfl | assumption) rfl ?_
      refine xt_icmp_ge 26 dX12_allWrongs_9 (by decide) (fun q => absurd q (by rw [e4]; exact nI_ge hlt (by omega))) (fun _ => ?_)
      refine xt_iload_n _ dX12_allWrongs_12 rfl ?_
      refine xt_aload_n _ dX12_allWrongs_13 rfl ?_
      refine xt_iload_n _ dX12_allWrongs_14 rfl ?_
      refine xt_cV _ dX12_allWrongs_15 klX12_354 (tX12_wrongsOf sc d μ w G hw m (by omega)) sh152 rfl rfl (Nat.le_of_ble_eq_true rfl) ?_
      refine xt_iadd dX12_allWrongs_18 ?_
      refine xt_istore_n dX12_allWrongs_19 (by decide) rfl ?_
      change x_T _ _ _ _ [_, _, _] _ _ _ _
      refine xt_inc _ (1) dX12_allWrongs_20 rfl (by decide) (by decide) rfl ?_
      change x_T _ _ _ _ [_, _, _] _ _ _ _
      refine xt_goto 4 dX12_allWrongs_23 (by decide) ?_
      refine x_T.ls ?_ (ih (m + 1) (by omega))
      first | (rw [nI_add, nI_succ m]; done) | (rw [nI_add, nI_succ m]; rfl)
  refine x_D.of (by decide) (Nat.le_of_ble_eq_true rfl) ?_
  show x_T sc (d + 1) mX12_allWrongs 0 [.ref 152, .retAddr 0, .retAddr 0] [] μ w _
  refine xt_iconst (0) dX12_allWrongs_0 (by decide) ?_
  refine xt_istore_n dX12_allWrongs_1 (by decide) rfl ?_
  change x_T _ _ _ _ [_, _, _] _ _ _ _
  refine xt_iconst (0) dX12_allWrongs_2 (by decide) ?_
  refine xt_istore_n dX12_allWrongs_3 (by decide) rfl ?_
  change x_T _ _ _ _ [_, _, _] _ _ _ _
  exact L4 (G 4) 0 (by omega)
theorem s_hasG_yes {F : Nat → Nat} {g : Nat} (hg : g < F 4) (h8 : F 4 ≤ 8) : s_hasG F (nI g) = 1 := by rw [s_hasG, if_neg (nI_pos (by omega)), if_pos (nI_lt hg (by omega))]
theorem s_hasG_no {F : Nat → Nat} {a : Int32} (h : ¬ (0 ≤ a ∧ a < nI (F 4))) : s_hasG F a = 0 := by
  unfold s_hasG
  by_cases h1 : a < 0
  · rw [if_pos h1]
  · rw [if_neg h1, if_neg (fun z => h ⟨Int32.not_lt.mp h1, z⟩)]
theorem s_hasG_nar (F : Nat → Nat) (a : Int32) : narrow .boolean (.int (s_hasG F a)) = .int (s_hasG F a) := by
  unfold s_hasG; split
  · rfl
  · split <;> rfl
end SHARE
set_option maxHeartbeats 1000000 in
theorem st_share0 (sc : Nat × (Nat → Int32)) (a1 a2 u : Int32) : x_stI sc (fun μ _ => x_Inv μ) (fun μ _ => x_Inv μ) mX11_share mX12_share [.int a1, .int a2, .int u] := by
  refine x_stF (-1) ?_ ?_ ?_
  · intro μ w c hc e hk
    refine x_K.of (by decide) (Nat.le_of_ble_eq_true rfl) ?_
    show x_T sc 29 mX11_share 0 [.ref 0, .int a1, .int a2, .int u, .retAddr 0] [] μ w _
    refine xt_aload_n _ dX11_share_0 rfl ?_
    refine xt_iload_n _ dX11_share_1 rfl ?_
    refine xt_cV _ dX11_share_2 klX11_90 (tX11_fairOf_no sc _ μ w c hc e _ hk) sh0 rfl rfl (Nat.le_of_ble_eq_true rfl) ?_
    refine xt_astore0 dX11_share_5 (by decide) rfl ?_
    change x_T _ _ _ _ [_, _, _, _, _] _ _ _ _
    refine xt_aload0 dX11_share_7 rfl ?_
    refine xt_ifnull_n 29 dX11_share_9 (by decide) ?_
    refine xt_iconst (-1) dX11_share_29 (by decide) ?_
    exact xt_iret .int dX11_share_30 rfl (by first | rfl | assumption) ⟨rfl, x_keep.rf μ⟩
  · intro μ w c hc e hk
    refine x_K.of (by decide) (Nat.le_of_ble_eq_true rfl) ?_
    show x_T sc 29 mX12_share 0 [.ref 152, .int a1, .int a2, .int u] [] μ w _
    refine xt_aload_n _ dX12_share_0 rfl ?_
    refine xt_iconst (0) dX12_share_1 (by decide) ?_
    refine xt_puti dX12_share_2 kpX12_72 (by first | exact sh152 | rfl | assumption) rfl (by first | rfl | assumption) (by first | rfl | assumption) ?_
    refine xt_aload_n _ dX12_share_5 rfl ?_
    refine xt_iload_n _ dX12_share_6 rfl ?_
    refine xt_cV _ dX12_share_7 klX12_300 (tX12_hand_no sc _ (x_u μ 152 (upd (μ 152) 0 0)) w c hc e _ hk) sh152 rfl rfl (Nat.le_of_ble_eq_true rfl) ?_
    refine xt_if_eq 44 dX12_share_10 (by decide) (fun _ => ?_) (fun q => absurd (by decide) q)
    refine xt_iconst (-1) dX12_share_44 (by decide) ?_
    exact xt_iret .int dX12_share_45 rfl (by first | rfl | assumption) ⟨rfl, (x_keep.u (x_keep.rf μ) (by unfold x_ok; omega))⟩
  · intro f F hf2 hkk hW
    subst hkk
    have h8 := hW.1.2.2.2.2.1
    have hall := s_all_le hW
    by_cases hr : 0 ≤ a2 ∧ a2 < nI (F 4)
    · obtain ⟨g, hg31, rfl⟩ := nI_of (Int32.not_lt.mpr hr.1)
      have hg : g < F 4 := (nI_ltI hg31 (by omega)).mp hr.2
      have hwt := s_wt_le hW (show g < 8 by omega)
      refine ⟨if s_all F = 0 then -1 else nI (if u = 0 then s_wt F g / Nat.gcd (s_wt F g) (s_all F) else s_all F / Nat.gcd (s_wt F g) (s_all F)), ?_, ?_⟩
      · intro μ w c hf hc e hC
        have hS := f_Sf hf2
        refine x_K.of (by decide) (Nat.le_of_ble_eq_true rfl) ?_
        show x_T sc 29 mX11_share 0 [.ref 0, .int (nI f), .int (nI g), .int u, .retAddr 0] [] μ w _
        refine xt_aload_n _ dX11_share_0 rfl ?_
        refine xt_iload_n _ dX11_share_1 rfl ?_
        refine xt_cV _ dX11_share_2 klX11_90 (tX11_fairOf sc _ μ w f c hf hc e) sh0 rfl rfl (Nat.le_of_ble_eq_true rfl) ?_
        refine xt_astore dX11_share_5 (by decide) rfl ?_
        change x_T _ _ _ _ [_, _, _, _, _] _ _ _ _
        refine xt_aload _ dX11_share_7 rfl ?_
        refine xt_ifnull_r dX11_share_9 ?_
        refine xt_aload _ dX11_share_12 rfl ?_
        refine xt_iload_n _ dX11_share_14 rfl ?_
        refine xt_cV _ dX11_share_15 klX11_116 (tX2_hasGoer sc _ w hS hC _) hS.1 rfl rfl (Nat.le_of_ble_eq_true rfl) ?_
        refine xt_if_eq 29 dX11_share_18 (by decide) (fun q => absurd q (by rw [s_hasG_yes hg h8]; decide)) (fun _ => ?_)
        refine xt_aload _ dX11_share_21 rfl ?_
        refine xt_cV _ dX11_share_23 klX11_231 (tX2_allWrongs sc _ w hS hC hW) hS.1 rfl rfl (Nat.le_of_ble_eq_true rfl) ?_
        change x_T _ _ _ _ _ (.int (nI (s_all F)) :: _) _ _ _
        refine xt_if_ne 31 dX11_share_26 (by decide) (fun t26 => ?_) (fun f26 => ?_)
        · refine xt_aload _ dX11_share_31 rfl ?_
          refine xt_iload_n _ dX11_share_33 rfl ?_
          refine xt_cV _ dX11_share_34 klX11_234 (tX2_wrongsTogether sc _ w hS hC g (by omega)) hS.1 rfl rfl (Nat.le_of_ble_eq_true rfl) ?_
          change x_T _ _ _ _ _ (.int (nI (s_wt F g)) :: _) _ _ _
          refine xt_i2l dX11_share_37 ?_
          refine xt_aload _ dX11_share_38 rfl ?_
          refine xt_cV _ dX11_share_40 klX11_231 (tX2_allWrongs sc _ w hS hC hW) hS.1 rfl rfl (Nat.le_of_ble_eq_true rfl) ?_
          change x_T _ _ _ _ _ (.int (nI (s_all F)) :: _) _ _ _
          refine xt_i2l dX11_share_43 ?_
          refine xt_iload_n _ dX11_share_44 rfl ?_
          have hT : 0 < s_all F := Nat.pos_of_ne_zero (fun z => t26 (by rw [z]; rfl))
          rw [nI_l (by omega), nI_l (by omega)]
          refine xt_cS _ dX11_share_45 klX11_237 (tX8_part sc _ μ w (s_wt F g) (s_all F) (by omega) (by omega) (by omega) u) rfl rfl (Nat.le_of_ble_eq_true rfl) ?_
          refine xt_l2i dX11_share_48 ?_
          exact xt_iret .int dX11_share_49 rfl (by first | rfl | assumption) ⟨by rw [if_neg (fun z => t26 ((nI_0e (by omega)).mpr z)), lN_i], x_keep.rf μ⟩
        · refine xt_iconst (-1) dX11_share_29 (by decide) ?_
          exact xt_iret .int dX11_share_30 rfl (by first | rfl | assumption) ⟨by rw [if_pos ((nI_0e (by omega)).mp f26)], x_keep.rf μ⟩
      · intro μ w c hf hc e hF
        refine x_K.of (by decide) (Nat.le_of_ble_eq_true rfl) ?_
        show x_T sc 29 mX12_share 0 [.ref 152, .int (nI f), .int (nI g), .int u] [] μ w _
        refine xt_aload_n _ dX12_share_0 rfl ?_
        refine xt_iconst (0) dX12_share_1 (by decide) ?_
        refine xt_puti dX12_share_2 kpX12_72 (by first | exact sh152 | rfl | assumption) rfl (by first | rfl | assumption) (by first | rfl | assumption) ?_
        refine xt_aload_n _ dX12_share_5 rfl ?_
        refine xt_iload_n _ dX12_share_6 rfl ?_
        refine xt_callV _ dX12_share_7 klX12_300 (tX12_hand sc _ (x_u μ 152 (upd (μ 152) 0 0)) w f c F hf hc e hF) sh152 rfl rfl (Nat.le_of_ble_eq_true rfl) (fun r1 μ1 w1 q1 => ?_)
        obtain ⟨rfl, rfl, hS, h0, hfr⟩ := q1
        change x_T _ _ _ _ _ (.int 1 :: _) _ _ _
        refine xt_if_eq 44 dX12_share_10 (by decide) (fun q => absurd q (by decide)) (fun _ => ?_)
        refine xt_aload_n _ dX12_share_13 rfl ?_
        refine xt_iload_n _ dX12_share_14 rfl ?_
        refine xt_cV _ dX12_share_15 klX12_303 (tX12_isGoer sc _ μ1 _ F h8 hS.1.2.2.2.1 _) sh152 rfl rfl (Nat.le_of_ble_eq_true rfl) ?_
        refine xt_if_eq 44 dX12_share_18 (by decide) (fun q => absurd q (by rw [s_hasG_yes hg h8]; decide)) (fun _ => ?_)
        refine xt_aload_n _ dX12_share_21 rfl ?_
        refine xt_cV _ dX12_share_22 klX12_370 (tX12_allWrongs sc _ μ1 _ F h8 hS.1.2.2.2.1 hS.2.2.1) sh152 rfl rfl (Nat.le_of_ble_eq_true rfl) ?_
        refine xt_if_le 44 dX12_share_25 (by decide) (fun t25 => ?_) (fun f25 => ?_)
        · refine xt_iconst (-1) dX12_share_44 (by decide) ?_
          exact xt_iret .int dX12_share_45 rfl (by first | rfl | assumption) ⟨by rw [if_pos (show s_all F = 0 by have := (nI_leI (b := 0) (by omega) (by decide)).mp t25; omega)], (x_keep.hand hfr)⟩
        · refine xt_aload_n _ dX12_share_28 rfl ?_
          refine xt_iload_n _ dX12_share_29 rfl ?_
          refine xt_cV _ dX12_share_30 klX12_354 (tX12_wrongsOf sc _ μ1 _ F hS.2.2.1 g (by omega)) sh152 rfl rfl (Nat.le_of_ble_eq_true rfl) ?_
          refine xt_aload_n _ dX12_share_33 rfl ?_
          refine xt_cV _ dX12_share_34 klX12_370 (tX12_allWrongs sc _ μ1 _ F h8 hS.1.2.2.2.1 hS.2.2.1) sh152 rfl rfl (Nat.le_of_ble_eq_true rfl) ?_
          refine xt_iload_n _ dX12_share_37 rfl ?_
          have hT : 0 < s_all F := Nat.pos_of_ne_zero (fun z => f25 (by rw [z]; exact Int32.le_refl _))
          refine xt_cS _ dX12_share_38 klX12_373 (tX12_part sc _ μ1 _ (s_wt F g) (s_all F) (by omega) (by omega) hT u) rfl rfl (Nat.le_of_ble_eq_true rfl) ?_
          refine xt_goto 45 dX12_share_41 (by decide) ?_
          exact xt_iret .int dX12_share_45 rfl (by first | rfl | assumption) ⟨by rw [if_neg (show ¬ s_all F = 0 by omega)], (x_keep.hand hfr)⟩
    · refine ⟨-1, ?_, ?_⟩
      · intro μ w c hf hc e hC
        have hS := f_Sf hf2
        refine x_K.of (by decide) (Nat.le_of_ble_eq_true rfl) ?_
        show x_T sc 29 mX11_share 0 [.ref 0, .int (nI f), .int a2, .int u, .retAddr 0] [] μ w _
        refine xt_aload_n _ dX11_share_0 rfl ?_
        refine xt_iload_n _ dX11_share_1 rfl ?_
        refine xt_cV _ dX11_share_2 klX11_90 (tX11_fairOf sc _ μ w f c hf hc e) sh0 rfl rfl (Nat.le_of_ble_eq_true rfl) ?_
        refine xt_astore dX11_share_5 (by decide) rfl ?_
        change x_T _ _ _ _ [_, _, _, _, _] _ _ _ _
        refine xt_aload _ dX11_share_7 rfl ?_
        refine xt_ifnull_r dX11_share_9 ?_
        refine xt_aload _ dX11_share_12 rfl ?_
        refine xt_iload_n _ dX11_share_14 rfl ?_
        refine xt_cV _ dX11_share_15 klX11_116 (tX2_hasGoer sc _ w hS hC _) hS.1 rfl rfl (Nat.le_of_ble_eq_true rfl) ?_
        refine xt_if_eq 29 dX11_share_18 (by decide) (fun _ => ?_) (fun q => absurd (s_hasG_no hr) q)
        refine xt_iconst (-1) dX11_share_29 (by decide) ?_
        exact xt_iret .int dX11_share_30 rfl (by first | rfl | assumption) ⟨rfl, x_keep.rf μ⟩
      · intro μ w c hf hc e hF
        refine x_K.of (by decide) (Nat.le_of_ble_eq_true rfl) ?_
        show x_T sc 29 mX12_share 0 [.ref 152, .int (nI f), .int a2, .int u] [] μ w _
        refine xt_aload_n _ dX12_share_0 rfl ?_
        refine xt_iconst (0) dX12_share_1 (by decide) ?_
        refine xt_puti dX12_share_2 kpX12_72 (by first | exact sh152 | rfl | assumption) rfl (by first | rfl | assumption) (by first | rfl | assumption) ?_
        refine xt_aload_n _ dX12_share_5 rfl ?_
        refine xt_iload_n _ dX12_share_6 rfl ?_
        refine xt_callV _ dX12_share_7 klX12_300 (tX12_hand sc _ (x_u μ 152 (upd (μ 152) 0 0)) w f c F hf hc e hF) sh152 rfl rfl (Nat.le_of_ble_eq_true rfl) (fun r1 μ1 w1 q1 => ?_)
        obtain ⟨rfl, rfl, hS, h0, hfr⟩ := q1
        change x_T _ _ _ _ _ (.int 1 :: _) _ _ _
        refine xt_if_eq 44 dX12_share_10 (by decide) (fun q => absurd q (by decide)) (fun _ => ?_)
        refine xt_aload_n _ dX12_share_13 rfl ?_
        refine xt_iload_n _ dX12_share_14 rfl ?_
        refine xt_cV _ dX12_share_15 klX12_303 (tX12_isGoer sc _ μ1 _ F h8 hS.1.2.2.2.1 _) sh152 rfl rfl (Nat.le_of_ble_eq_true rfl) ?_
        refine xt_if_eq 44 dX12_share_18 (by decide) (fun _ => ?_) (fun q => absurd (s_hasG_no hr) q)
        refine xt_iconst (-1) dX12_share_44 (by decide) ?_
        exact xt_iret .int dX12_share_45 rfl (by first | rfl | assumption) ⟨rfl, (x_keep.hand hfr)⟩
