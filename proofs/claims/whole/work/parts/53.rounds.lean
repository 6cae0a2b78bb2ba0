/-! the step of round, both sides -/
theorem w_pick {T : Nat} {P : Nat → Int} {D : Nat → Nat → Int} {s p t : Nat} (hs : s < 2 ^ T) (h : (w_W true T P D s p).2.2 = t + 1) : s.testBit t = false ∧ t < T ∧ (w_W true T P D s p).1 = w_v P D (w_W true T P D) s p t ∧ ∀ e, e < t → s.testBit e = false → w_v P D (w_W true T P D) s p e < (w_W true T P D s p).1 := by
  have hN := w_N (P := P) (D := D) (p := p) _ s rfl hs
  rcases w_W_in (wh := true) (P := P) (D := D) (p := p) hs with e | ⟨u, hu, hb, e⟩
  · rw [e] at h; exact absurd h (Nat.zero_ne_add_one t)
  · have hut : u = t := by
      rw [e] at h
      have : u + 1 = t + 1 := h
      omega
    rw [hut] at e hb hu
    refine ⟨hb, hu, by rw [e], fun x hx hbx => ?_⟩
    have h1 : x + 1 < (w_W true T P D s p).2.2 := by rw [h]; omega
    rw [w_W_fix hs] at h1 hN ⊢
    have h2 := w_fst (P := P) (D := D) T x h1 hbx
    have h3 := w_cn_or (show x < T by omega) hbx
    have h4 := w_N (P := P) (D := D) _ (s ||| 2 ^ x) (p := x) rfl (w_or_lt (show x < T by omega) hs)
    have h5 : w_m (w_W true T P D) s x = 1 + (w_W true T P D (s ||| 2 ^ x) x).2.1 := rfl
    rcases h2 with h2 | h2
    · exact h2
    · exfalso
      have h6 := h2.2
      have h7 : (w_fold P D (w_re true T s) (w_x0 true D p) (w_W true T P D) s p T).2.1 = w_cn T s := hN
      omega
theorem w_cn_T (T : Nat) : w_cn T 0 = T := (s_cnt_cong (q := fun _ => true) (fun i _ => by show (!(0 : Nat).testBit i) = true; rw [Nat.zero_testBit]; rfl)).trans (s_cnt_all T)
theorem s_in_ko {n : Nat} (hn : n < 1000) {a : Int32} (h1 : a ≠ -1) (h : ¬ (0 ≤ a ∧ a < nI n)) : s_in a (-1) (nI n - 1) = 0 := by
  have e : (nI n - 1).toInt = (n : Int) - 1 := eI_toInt hn
  have em : (-1 : Int32).toInt = -1 := by decide
  have e0 : (0 : Int32).toInt = 0 := by decide
  have h2 : a.toInt ≠ -1 := fun z => h1 (Int32.toInt_inj.mp (z.trans em.symm))
  rw [Int32.le_iff_toInt_le, Int32.lt_iff_toInt_lt, e0, nI_toInt (by omega)] at h
  unfold s_in
  by_cases q1 : a < -1
  · rw [if_pos q1]
  · rw [if_neg q1]
    by_cases q2 : nI n - 1 < a
    · rw [if_pos q2]
    · exfalso
      rw [Int32.lt_iff_toInt_lt, em] at q1
      rw [Int32.lt_iff_toInt_lt, e] at q2
      omega
theorem s_in_ki {n : Nat} (hn : n < 1000) {a : Int32} (h1 : -1 ≤ a.toInt) (h2 : a.toInt < n) : ¬ s_in a (-1) (nI n - 1) = 0 := by
  have e : (nI n - 1).toInt = (n : Int) - 1 := eI_toInt hn
  have em : (-1 : Int32).toInt = -1 := by decide
  unfold s_in
  rw [if_neg (by rw [Int32.lt_iff_toInt_lt, em]; omega), if_neg (by rw [Int32.lt_iff_toInt_lt, e]; omega)]
  decide
set_option maxHeartbeats 8000000 in
theorem st_round (sc : Nat × (Nat → Int32)) (a1 a2 : Int32) : x_stI sc (fun μ _ => x_Inv μ) (fun μ _ => x_Inv μ) mX11_round mX12_round [.int a1, .int a2] := by
  refine x_stF (-1) ?_ ?_ ?_
  · intro μ w c hc e hk
    refine x_K.of (by decide) (Nat.le_of_ble_eq_true rfl) ?_
    show x_T sc 29 mX11_round 0 [.ref 0, .int a1, .int a2, .retAddr 0] [] μ w _
    refine xt_aload_n _ dX11_round_0 rfl ?_
    refine xt_iload_n _ dX11_round_1 rfl ?_
    refine xt_cV _ dX11_round_2 klX11_90 (tX11_fairOf_no sc _ μ w c hc e _ hk) sh0 rfl rfl (Nat.le_of_ble_eq_true rfl) ?_
    refine xt_astore_n0 dX11_round_5 (by decide) rfl ?_
    change x_T _ _ _ _ [_, _, _, _] _ _ _ _
    refine xt_aload_n0 dX11_round_6 rfl ?_
    refine xt_ifnonnull_n dX11_round_7 ?_
    refine xt_iconst (-1) dX11_round_10 (by decide) ?_
    exact xt_iret .int dX11_round_11 rfl (by first | rfl | assumption) ⟨rfl, x_keep.rf μ⟩
  · intro μ w c hc e hk
    refine x_K.of (by decide) (Nat.le_of_ble_eq_true rfl) ?_
    show x_T sc 29 mX12_round 0 [.ref 152, .int a1, .int a2, .retAddr 0, .retAddr 0, .retAddr 0, .retAddr 0, .retAddr 0] [] μ w _
    refine xt_aload_n _ dX12_round_0 rfl ?_
    refine xt_iconst (0) dX12_round_1 (by decide) ?_
    refine xt_puti dX12_round_2 kpX12_72 (by first | exact sh152 | rfl | assumption) rfl (by first | rfl | assumption) (by first | rfl | assumption) ?_
    refine xt_aload_n _ dX12_round_5 rfl ?_
    refine xt_iload_n _ dX12_round_6 rfl ?_
    refine xt_cV _ dX12_round_7 klX12_300 (tX12_hand_no sc _ (x_u μ 152 (upd (μ 152) 0 0)) w c hc e _ hk) sh152 rfl rfl (Nat.le_of_ble_eq_true rfl) ?_
    refine xt_if_eq 27 dX12_round_10 (by decide) (fun _ => ?_) (fun q => absurd (by decide) q)
    refine xt_iconst (-1) dX12_round_27 (by decide) ?_
    exact xt_iret .int dX12_round_28 rfl (by first | rfl | assumption) ⟨rfl, (x_keep.u (x_keep.rf μ) (by unfold x_ok; omega))⟩
  · intro f F hf2 hkk hW
    subst hkk
    have h6 : F 6 ≤ 6 := hW.1.2.2.2.2.2.2
    have h64 : 2 ^ F 6 ≤ 2 ^ 6 := Nat.pow_le_pow_right (by decide) h6
    have h1p : 1 ≤ 2 ^ F 6 := Nat.one_le_two_pow
    have hPD := w_pd hW true
    have hN : ((w_W true (F 6) (w_P true F) (w_D true F)) 0 6).2.1 = F 6 := w_N (F 6) 0 (w_cn_T (F 6)) (by omega)
    by_cases hm1 : a2 = -1
    · subst hm1
      refine ⟨iI (- ((w_W true (F 6) (w_P true F) (w_D true F)) 0 6).1), ?_, ?_⟩
      · intro μ w c hf hc e hC
        have hS := f_Sf hf2
        refine x_K.of (by decide) (Nat.le_of_ble_eq_true rfl) ?_
        show x_T sc 29 mX11_round 0 [.ref 0, .int (nI f), .int (-1), .retAddr 0] [] μ w _
        refine xt_aload_n _ dX11_round_0 rfl ?_
        refine xt_iload_n _ dX11_round_1 rfl ?_
        refine xt_cV _ dX11_round_2 klX11_90 (tX11_fairOf sc _ μ w f c hf hc e) sh0 rfl rfl (Nat.le_of_ble_eq_true rfl) ?_
        refine xt_astore_n dX11_round_5 (by decide) rfl ?_
        change x_T _ _ _ _ [_, _, _, _] _ _ _ _
        refine xt_aload_n _ dX11_round_6 rfl ?_
        refine xt_ifnonnull_r 12 dX11_round_7 (by decide) ?_
        refine xt_aload_n _ dX11_round_12 rfl ?_
        refine xt_getr _ dX11_round_13 kfX11_41 (by first | exact sh0 | exact sh1 | exact sh137 | exact hS.1 | rfl | assumption) rfl ?_
        refine xt_aload_n _ dX11_round_16 rfl ?_
        refine xt_iconst (1) dX11_round_17 (by decide) ?_
        refine xt_callV _ dX11_round_18 klX11_149 (tX10_lay sc _ μ w (7 + 11 * f) F hS (by omega) hW hC true) sh137 rfl rfl (Nat.le_of_ble_eq_true rfl) (fun r2 μ2 w2 q2 => ?_)
        obtain ⟨rfl, h7, h6s, hR, hfr2⟩ := q2
        change x_T _ _ _ _ _ _ _ _ _
        refine xt_iload_n _ dX11_round_21 rfl ?_
        refine xt_iconst (-1) dX11_round_22 (by decide) ?_
        refine xt_icmp_ne 37 dX11_round_23 (by decide) (fun q => absurd (by decide) q) (fun _ => ?_)
        refine xt_aload_n _ dX11_round_26 rfl ?_
        refine xt_getr _ dX11_round_27 kfX11_41 (by first | exact sh0 | exact sh1 | exact sh137 | exact hS.1 | rfl | assumption) rfl ?_
        refine xt_geti dX11_round_30 kfX11_153 (by first | exact sh0 | exact sh1 | exact sh137 | exact hS.1 | rfl | assumption) rfl ?_
        refine xt_ineg dX11_round_33 ?_
        refine xt_goto 46 dX11_round_34 (by decide) ?_
        exact xt_iret .int dX11_round_46 rfl (by first | rfl | assumption) ⟨by rw [h7, iI_neg], (fun a ha => hfr2 a (by unfold x_ok at ha; omega))⟩
      · intro μ w c hf hc e hF
        refine x_K.of (by decide) (Nat.le_of_ble_eq_true rfl) ?_
        show x_T sc 29 mX12_round 0 [.ref 152, .int (nI f), .int (-1), .retAddr 0, .retAddr 0, .retAddr 0, .retAddr 0, .retAddr 0] [] μ w _
        refine xt_aload_n _ dX12_round_0 rfl ?_
        refine xt_iconst (0) dX12_round_1 (by decide) ?_
        refine xt_puti dX12_round_2 kpX12_72 (by first | exact sh152 | rfl | assumption) rfl (by first | rfl | assumption) (by first | rfl | assumption) ?_
        refine xt_aload_n _ dX12_round_5 rfl ?_
        refine xt_iload_n _ dX12_round_6 rfl ?_
        refine xt_callV _ dX12_round_7 klX12_300 (tX12_hand sc _ (x_u μ 152 (upd (μ 152) 0 0)) w f c F hf hc e hF) sh152 rfl rfl (Nat.le_of_ble_eq_true rfl) (fun r1 μ1 w1 q1 => ?_)
        obtain ⟨rfl, rfl, hS, h0, hfr⟩ := q1
        change x_T _ _ _ _ _ (.int 1 :: _) _ _ _
        have e6 : μ1 152 25 = nI (F 6) := hS.1.2.2.2.2.1
        have hF1 : ∀ i, i < 125 → μ1 158 (125 * f + i) = nI (F i) := fun i hi => by rw [show μ1 158 = μ 158 from hfr 158 (by decide) (by decide) (by decide) (by decide)]; exact hF i hi
        refine xt_if_eq 27 dX12_round_10 (by decide) (fun q => absurd q (by decide)) (fun _ => ?_)
        refine xt_iload_n _ dX12_round_13 rfl ?_
        refine xt_iconst (-1) dX12_round_14 (by decide) ?_
        refine xt_aload_n _ dX12_round_15 rfl ?_
        refine xt_geti dX12_round_16 kfX12_254 (by first | exact sh152 | rfl | assumption) rfl ?_
        refine xt_iconst (1) dX12_round_19 (by decide) ?_
        refine xt_isub dX12_round_20 ?_
        rw [e6]
        refine xt_cS _ dX12_round_21 klX12_84 (tX12_in sc _ _ _ _ _ _) rfl rfl (Nat.le_of_ble_eq_true rfl) ?_
        refine xt_if_ne 29 dX12_round_24 (by decide) (fun _ => ?_) (fun q => absurd q (s_in_ki (by omega) (by decide) (by rw [show (-1 : Int32).toInt = -1 from by decide]; omega)))
        refine xt_iconst (1) dX12_round_29 (by decide) ?_
        refine xt_aload_n _ dX12_round_30 rfl ?_
        refine xt_geti dX12_round_31 kfX12_254 (by first | exact sh152 | rfl | assumption) rfl ?_
        refine xt_ishl dX12_round_34 ?_
        refine xt_iconst (1) dX12_round_35 (by decide) ?_
        refine xt_isub dX12_round_36 ?_
        rw [e6, x_1sh (by omega), show nI (2 ^ F 6) - (1 : Int32) = nI (2 ^ F 6 - 1) from pk_sub (b := 1) h1p]
        refine xt_istore_n dX12_round_37 (by decide) rfl ?_
        change x_T _ _ _ _ [_, _, _, _, _, _, _, _] _ _ _ _
        refine xt_iload_n _ dX12_round_38 rfl ?_
        refine xt_istore dX12_round_39 (by decide) rfl ?_
        change x_T _ _ _ _ [_, _, _, _, _, _, _, _] _ _ _ _
        have L41 : ∀ (n41 m : Nat) (μ2 : x_Me) (v5 v6 v7 : Value) (hSc : ∀ s p, 2 ^ F 6 ≤ s + m → s < 2 ^ F 6 → (p < F 6 ∨ p = 6) → μ2 167 (64 * p + s) = iI (- ((w_W true (F 6) (w_P true F) (w_D true F)) s p).1)) (hf : ∀ a, a ≠ 167 → μ2 a = μ1 a), m + n41 = 2 ^ F 6 → x_T sc 29 mX12_round 41 [.ref 152, .int (nI f), .int (-1), .int (nI (2 ^ F 6 - 1)), .int (eI (2 ^ F 6 - m)), v5, v6, v7] [] μ2 w1 (fun r μ' _ => r = some (.int (iI (- ((w_W true (F 6) (w_P true F) (w_D true F)) 0 6).1))) ∧ x_keep μ μ') := by
          intro n41
          induction n41 with
          | zero =>
            intro m μ2 v5 v6 v7 hSc hf hmn
            obtain rfl : 2 ^ F 6 = m := by omega
            refine xt_iload _ dX12_round_41 rfl ?_
            refine xt_if_lt 140 dX12_round_43 (by decide) (fun _ => ?_) (fun q => absurd (by rw [Nat.sub_self]; decide) q)
            refine xt_iconst (0) dX12_round_140 (by decide) ?_
            refine xt_istore dX12_round_141 (by decide) rfl ?_
            change x_T _ _ _ _ [_, _, _, _, _, _, _, _] _ _ _ _
            refine xt_bipush (6) dX12_round_143 (by decide) ?_
            refine xt_istore dX12_round_145 (by decide) rfl ?_
            change x_T _ _ _ _ [_, _, _, _, _, _, _, _] _ _ _ _
            refine xt_iconst (0) dX12_round_147 (by decide) ?_
            refine xt_istore dX12_round_148 (by decide) rfl ?_
            change x_T _ _ _ _ [_, _, _, _, _, _, _, _] _ _ _ _
            refine xt_iload _ dX12_round_150 rfl ?_
            refine xt_iload_n _ dX12_round_152 rfl ?_
            refine xt_icmp_gt 210 dX12_round_153 (by decide) (fun _ => ?_) (fun q => absurd (by decide) q)
            refine xt_iload_n _ dX12_round_210 rfl ?_
            refine xt_iconst (-1) dX12_round_211 (by decide) ?_
            refine xt_icmp_ne 226 dX12_round_212 (by decide) (fun q => absurd (by decide) q) (fun _ => ?_)
            refine xt_aload_n _ dX12_round_215 rfl ?_
            refine xt_getr _ dX12_round_216 kfX12_53 (by first | exact sh152 | rfl | assumption) rfl ?_
            refine xt_sipush (384) dX12_round_219 (by decide) ?_
            refine xt_ald dX12_round_222 (by first | exact sh152 | rfl | assumption) (by unfold vp_in; decide) ?_
            refine xt_goto 228 dX12_round_223 (by decide) ?_
            exact xt_iret .int dX12_round_228 rfl (by first | rfl | assumption) ⟨by rw [show (384 : Int32).toNatClampNeg = 64 * 6 + 0 from rfl, hSc 0 6 (by omega) (by omega) (.inr rfl)], (x_keep.tr (x_keep.hand hfr) (fun a ha => hf a (by unfold x_ok at ha; omega)))⟩
          | succ n41 ih41 =>
            intro m μ2 v5 v6 v7 hSc hf hmn
            have hlt : m < 2 ^ F 6 := by omega
            obtain ⟨s, hs⟩ : ∃ s, s + m + 1 = 2 ^ F 6 := ⟨2 ^ F 6 - m - 1, by omega⟩
            have hsT : s < 2 ^ F 6 := by omega
            have es : eI (2 ^ F 6 - m) = nI s := by rw [show 2 ^ F 6 - m = s + 1 by omega, eI_s]
            have ee : eI (2 ^ F 6 - (m + 1)) = nI s + (-1) := by
              rw [show 2 ^ F 6 - (m + 1) = s by omega, eI]; exact Int32.sub_eq_add_neg _ _
            refine xt_iload _ dX12_round_41 rfl ?_
            refine xt_if_lt 140 dX12_round_43 (by decide) (fun q => absurd q (fun z => absurd ((eI_neg (by omega)).mp z) (by omega))) (fun _ => ?_)
            rw [es]
            refine xt_iconst (0) dX12_round_46 (by decide) ?_
            refine xt_istore dX12_round_47 (by decide) rfl ?_
            change x_T _ _ _ _ [_, _, _, _, _, _, _, _] _ _ _ _
            have L49 : ∀ (n49 a : Nat) (μ3 : x_Me) (v6 v7 : Value) (hS3 : ∀ s2 p2, (2 ^ F 6 ≤ s2 + m ∨ (s2 = s ∧ p2 < a)) → s2 < 2 ^ F 6 → (p2 < F 6 ∨ p2 = 6) → μ3 167 (64 * p2 + s2) = iI (- ((w_W true (F 6) (w_P true F) (w_D true F)) s2 p2).1)) (hf3 : ∀ a, a ≠ 167 → μ3 a = μ1 a), a + n49 = 7 → x_T sc 29 mX12_round 49 [.ref 152, .int (nI f), .int (-1), .int (nI (2 ^ F 6 - 1)), .int (nI s), .int (nI a), v6, v7] [] μ3 w1 (fun r μ' _ => r = some (.int (iI (- ((w_W true (F 6) (w_P true F) (w_D true F)) 0 6).1))) ∧ x_keep μ μ') := by
              intro n49
              induction n49 with
              | zero =>
                intro a μ3 v6 v7 hS3 hf3 hmn
                obtain rfl : 7 = a := by omega
                refine xt_iload _ dX12_round_49 rfl ?_
                refine xt_bipush (6) dX12_round_51 (by decide) ?_
                refine xt_icmp_gt 134 dX12_round_53 (by decide) (fun _ => ?_) (fun q => absurd (by decide) q)
                refine xt_inc _ (-1) dX12_round_134 rfl (by decide) (by decide) rfl ?_
                change x_T _ _ _ _ [_, _, _, _, _, _, _, _] _ _ _ _
                refine xt_goto 41 dX12_round_137 (by decide) ?_
                refine x_T.ls ?_ (ih41 (m + 1) μ3 (.int (nI 7)) v6 v7 (fun s2 p2 h1 h2 h3 => hS3 s2 p2 (by omega) h2 h3) hf3 (by omega))
                rw [ee]
              | succ n49 ih49 =>
                intro a μ3 v6 v7 hS3 hf3 hmn
                have hlt_a : a < 7 := by omega
                have h22 : μ3 152 22 = nI f := by rw [hf3 152 (by decide)]; exact hS.1.2.1
                have hF3 : ∀ i, i < 125 → μ3 158 (125 * f + i) = nI (F i) := fun i hi => by rw [hf3 158 (by decide)]; exact hF1 i hi
                have hix : (64 : Int32) * nI a + nI s = nI (64 * a + s) := by rw [show (64 : Int32) = nI 64 from rfl, pk_mul, nI_add]
                refine xt_iload _ dX12_round_49 rfl ?_
                refine xt_bipush (6) dX12_round_51 (by decide) ?_
                refine xt_icmp_gt 134 dX12_round_53 (by decide) (fun q => absurd q (fun z => absurd ((nI_ltI (a := 6) (by decide) (by omega)).mp z) (by omega))) (fun _ => ?_)
                refine xt_iload _ dX12_round_56 rfl ?_
                refine xt_iload_n _ dX12_round_58 rfl ?_
                refine xt_icmp_ne 73 dX12_round_59 (by decide) (fun t59 => ?_) (fun f59 => ?_)
                · have n59 : ¬ (s = (2 ^ F 6 - 1)) := fun z => t59 ((nI_eq (a := s) (b := (2 ^ F 6 - 1)) (by omega) (by omega)).mpr z)
                  refine xt_ldcw _ dX12_round_73 kkX12_353 ?_
                  refine xt_istore dX12_round_76 (by decide) rfl ?_
                  change x_T _ _ _ _ [_, _, _, _, _, _, _, _] _ _ _ _
                  refine xt_iconst (0) dX12_round_78 (by decide) ?_
                  refine xt_istore dX12_round_79 (by decide) rfl ?_
                  change x_T _ _ _ _ [_, _, _, _, _, _, _, _] _ _ _ _
                  have L81 : ∀ (n81 t : Nat) , t + n81 = F 6 → x_T sc 29 mX12_round 81 [.ref 152, .int (nI f), .int (-1), .int (nI (2 ^ F 6 - 1)), .int (nI s), .int (nI a), .int (w_mf (if s + 1 = 2 ^ F 6 then w_tw F a 6 else 1000000) (fun t => if s.testBit t then 1000000 else w_tw F a t + μ3 167 (64 * t + (s ||| 2 ^ t))) t), .int (nI t)] [] μ3 w1 (fun r μ' _ => r = some (.int (iI (- ((w_W true (F 6) (w_P true F) (w_D true F)) 0 6).1))) ∧ x_keep μ μ') := by
                    intro n81
                    induction n81 with
                    | zero =>
                      intro t  hmn
                      obtain rfl : F 6 = t := by omega
                      refine xt_iload _ dX12_round_81 rfl ?_
                      refine xt_aload_n _ dX12_round_83 rfl ?_
                      refine xt_geti dX12_round_84 kfX12_254 (by first | exact sh152 | rfl | assumption) rfl ?_
                      refine xt_icmp_ge 113 dX12_round_87 (by decide) (fun _ => ?_) (fun q => absurd (by rw [hf3 152 (by decide), e6]; exact Int32.le_refl _) q)
                      refine xt_aload_n _ dX12_round_113 rfl ?_
                      refine xt_getr _ dX12_round_114 kfX12_53 (by first | exact sh152 | rfl | assumption) rfl ?_
                      refine xt_bipush (64) dX12_round_117 (by decide) ?_
                      refine xt_iload _ dX12_round_119 rfl ?_
                      refine xt_imul dX12_round_121 ?_
                      refine xt_iload _ dX12_round_122 rfl ?_
                      refine xt_iadd dX12_round_124 ?_
                      refine xt_iload _ dX12_round_125 rfl ?_
                      refine xt_ast dX12_round_127 (by first | exact sh152 | rfl | assumption) (by rw [hix]; exact vp_in_nI (by omega) (by decide)) ?_
                      refine xt_inc _ (1) dX12_round_128 rfl (by decide) (by decide) rfl ?_
                      change x_T _ _ _ _ [_, _, _, _, _, _, _, _] _ _ _ _
                      refine xt_goto 49 dX12_round_131 (by decide) ?_
                      refine x_T.ls (by rw [nI_succ a]) (ih49 (a + 1) _ (.int (w_mf (if s + 1 = 2 ^ F 6 then w_tw F a 6 else 1000000) (fun t => if s.testBit t then 1000000 else w_tw F a t + μ3 167 (64 * t + (s ||| 2 ^ t))) (F 6))) (.int (nI (F 6))) (fun s2 p2 h1 h2 h3 => ?_) (fun c hc => by rw [x_u_ne hc]; exact hf3 c hc) (by omega))
                      rw [x_u_eq, hix, nI_clamp (by omega)]
                      by_cases he : 64 * p2 + s2 = 64 * a + s
                      · have hea : p2 = a := by omega
                        have hes : s2 = s := by omega
                        rw [hea, hes, pk_us]
                        have h3a : a < F 6 ∨ a = 6 := by omega
                        refine w_rnd h6 hPD hsT h3a (by rw [w_tw_D hW h3a (.inr rfl)]) (fun t ht => ⟨fun hb => if_pos hb, fun hb => ?_⟩)
                        show (if s.testBit t = true then 1000000 else w_tw F a t + μ3 167 (64 * t + (s ||| 2 ^ t))) = _
                        rw [hb, if_neg (by decide), w_tw_D hW h3a (.inl ht), hS3 (s ||| 2 ^ t) t (.inl (by have := w_or_gt hb; omega)) (w_or_lt ht hsT) (.inl ht), iI_add]
                        show iI (w_D true F a t + - ((w_W true (F 6) (w_P true F) (w_D true F)) (s ||| 2 ^ t) t).1) = iI (- (0 - w_D true F a t + ((w_W true (F 6) (w_P true F) (w_D true F)) (s ||| 2 ^ t) t).1))
                        exact congrArg iI (by omega)
                      · rw [pk_un he]; exact hS3 s2 p2 (by omega) h2 h3
                    | succ n81 ih81 =>
                      intro t  hmn
                      have hlt_t : t < F 6 := by omega
                      refine xt_iload _ dX12_round_81 rfl ?_
                      refine xt_aload_n _ dX12_round_83 rfl ?_
                      refine xt_geti dX12_round_84 kfX12_254 (by first | exact sh152 | rfl | assumption) rfl ?_
                      refine xt_icmp_ge 113 dX12_round_87 (by decide) (fun q => absurd q (by rw [hf3 152 (by decide), e6]; exact nI_ge hlt_t (by omega))) (fun _ => ?_)
                      refine xt_iload _ dX12_round_90 rfl ?_
                      refine xt_aload_n _ dX12_round_92 rfl ?_
                      refine xt_iload _ dX12_round_93 rfl ?_
                      refine xt_iload _ dX12_round_95 rfl ?_
                      refine xt_iload _ dX12_round_97 rfl ?_
                      refine xt_cV _ dX12_round_99 klX12_511 (tX12_roundBy sc _ μ3 w1 f F hf2 h22 hF3 s a t (by omega) (by omega) (by omega)) sh152 rfl rfl (Nat.le_of_ble_eq_true rfl) ?_
                      refine xt_cS _ dX12_round_102 klX12_209 (tX12_lesser sc _ μ3 _ _ _) rfl rfl (Nat.le_of_ble_eq_true rfl) ?_
                      refine xt_istore dX12_round_105 (by decide) rfl ?_
                      change x_T _ _ _ _ [_, _, _, _, _, _, _, _] _ _ _ _
                      refine xt_inc _ (1) dX12_round_107 rfl (by decide) (by decide) rfl ?_
                      change x_T _ _ _ _ [_, _, _, _, _, _, _, _] _ _ _ _
                      refine xt_goto 81 dX12_round_110 (by decide) ?_
                      refine x_T.ls ?_ (ih81 (t + 1) (by omega))
                      rw [nI_succ t]; rfl
                  refine x_T.ls ?_ (L81 (F 6) 0 (by omega))
                  first | (rw [w_mf, if_neg (by omega)] <;> rfl) | (rw [w_mf, if_pos (by omega)] <;> rfl)
                · have n59 : s = (2 ^ F 6 - 1) := (nI_eq (a := s) (b := (2 ^ F 6 - 1)) (by omega) (by omega)).mp f59
                  refine xt_aload_n _ dX12_round_62 rfl ?_
                  refine xt_iload _ dX12_round_63 rfl ?_
                  refine xt_bipush (6) dX12_round_65 (by decide) ?_
                  refine xt_cV _ dX12_round_67 klX12_387 (tX12_townWay sc _ μ3 w1 f F hf2 h22 hF3 a 6 (by omega) (by decide)) sh152 rfl rfl (Nat.le_of_ble_eq_true rfl) ?_
                  refine xt_goto 76 dX12_round_70 (by decide) ?_
                  refine xt_istore dX12_round_76 (by decide) rfl ?_
                  change x_T _ _ _ _ [_, _, _, _, _, _, _, _] _ _ _ _
                  refine xt_iconst (0) dX12_round_78 (by decide) ?_
                  refine xt_istore dX12_round_79 (by decide) rfl ?_
                  change x_T _ _ _ _ [_, _, _, _, _, _, _, _] _ _ _ _
                  have L81 : ∀ (n81 t : Nat) , t + n81 = F 6 → x_T sc 29 mX12_round 81 [.ref 152, .int (nI f), .int (-1), .int (nI (2 ^ F 6 - 1)), .int (nI s), .int (nI a), .int (w_mf (if s + 1 = 2 ^ F 6 then w_tw F a 6 else 1000000) (fun t => if s.testBit t then 1000000 else w_tw F a t + μ3 167 (64 * t + (s ||| 2 ^ t))) t), .int (nI t)] [] μ3 w1 (fun r μ' _ => r = some (.int (iI (- ((w_W true (F 6) (w_P true F) (w_D true F)) 0 6).1))) ∧ x_keep μ μ') := by
                    intro n81
                    induction n81 with
                    | zero =>
                      intro t  hmn
                      obtain rfl : F 6 = t := by omega
                      refine xt_iload _ dX12_round_81 rfl ?_
                      refine xt_aload_n _ dX12_round_83 rfl ?_
                      refine xt_geti dX12_round_84 kfX12_254 (by first | exact sh152 | rfl | assumption) rfl ?_
                      refine xt_icmp_ge 113 dX12_round_87 (by decide) (fun _ => ?_) (fun q => absurd (by rw [hf3 152 (by decide), e6]; exact Int32.le_refl _) q)
                      refine xt_aload_n _ dX12_round_113 rfl ?_
                      refine xt_getr _ dX12_round_114 kfX12_53 (by first | exact sh152 | rfl | assumption) rfl ?_
                      refine xt_bipush (64) dX12_round_117 (by decide) ?_
                      refine xt_iload _ dX12_round_119 rfl ?_
                      refine xt_imul dX12_round_121 ?_
                      refine xt_iload _ dX12_round_122 rfl ?_
                      refine xt_iadd dX12_round_124 ?_
                      refine xt_iload _ dX12_round_125 rfl ?_
                      refine xt_ast dX12_round_127 (by first | exact sh152 | rfl | assumption) (by rw [hix]; exact vp_in_nI (by omega) (by decide)) ?_
                      refine xt_inc _ (1) dX12_round_128 rfl (by decide) (by decide) rfl ?_
                      change x_T _ _ _ _ [_, _, _, _, _, _, _, _] _ _ _ _
                      refine xt_goto 49 dX12_round_131 (by decide) ?_
                      refine x_T.ls (by rw [nI_succ a]) (ih49 (a + 1) _ (.int (w_mf (if s + 1 = 2 ^ F 6 then w_tw F a 6 else 1000000) (fun t => if s.testBit t then 1000000 else w_tw F a t + μ3 167 (64 * t + (s ||| 2 ^ t))) (F 6))) (.int (nI (F 6))) (fun s2 p2 h1 h2 h3 => ?_) (fun c hc => by rw [x_u_ne hc]; exact hf3 c hc) (by omega))
                      rw [x_u_eq, hix, nI_clamp (by omega)]
                      by_cases he : 64 * p2 + s2 = 64 * a + s
                      · have hea : p2 = a := by omega
                        have hes : s2 = s := by omega
                        rw [hea, hes, pk_us]
                        have h3a : a < F 6 ∨ a = 6 := by omega
                        refine w_rnd h6 hPD hsT h3a (by rw [w_tw_D hW h3a (.inr rfl)]) (fun t ht => ⟨fun hb => if_pos hb, fun hb => ?_⟩)
                        show (if s.testBit t = true then 1000000 else w_tw F a t + μ3 167 (64 * t + (s ||| 2 ^ t))) = _
                        rw [hb, if_neg (by decide), w_tw_D hW h3a (.inl ht), hS3 (s ||| 2 ^ t) t (.inl (by have := w_or_gt hb; omega)) (w_or_lt ht hsT) (.inl ht), iI_add]
                        show iI (w_D true F a t + - ((w_W true (F 6) (w_P true F) (w_D true F)) (s ||| 2 ^ t) t).1) = iI (- (0 - w_D true F a t + ((w_W true (F 6) (w_P true F) (w_D true F)) (s ||| 2 ^ t) t).1))
                        exact congrArg iI (by omega)
                      · rw [pk_un he]; exact hS3 s2 p2 (by omega) h2 h3
                    | succ n81 ih81 =>
                      intro t  hmn
                      have hlt_t : t < F 6 := by omega
                      refine xt_iload _ dX12_round_81 rfl ?_
                      refine xt_aload_n _ dX12_round_83 rfl ?_
                      refine xt_geti dX12_round_84 kfX12_254 (by first | exact sh152 | rfl | assumption) rfl ?_
                      refine xt_icmp_ge 113 dX12_round_87 (by decide) (fun q => absurd q (by rw [hf3 152 (by decide), e6]; exact nI_ge hlt_t (by omega))) (fun _ => ?_)
                      refine xt_iload _ dX12_round_90 rfl ?_
                      refine xt_aload_n _ dX12_round_92 rfl ?_
                      refine xt_iload _ dX12_round_93 rfl ?_
                      refine xt_iload _ dX12_round_95 rfl ?_
                      refine xt_iload _ dX12_round_97 rfl ?_
                      refine xt_cV _ dX12_round_99 klX12_511 (tX12_roundBy sc _ μ3 w1 f F hf2 h22 hF3 s a t (by omega) (by omega) (by omega)) sh152 rfl rfl (Nat.le_of_ble_eq_true rfl) ?_
                      refine xt_cS _ dX12_round_102 klX12_209 (tX12_lesser sc _ μ3 _ _ _) rfl rfl (Nat.le_of_ble_eq_true rfl) ?_
                      refine xt_istore dX12_round_105 (by decide) rfl ?_
                      change x_T _ _ _ _ [_, _, _, _, _, _, _, _] _ _ _ _
                      refine xt_inc _ (1) dX12_round_107 rfl (by decide) (by decide) rfl ?_
                      change x_T _ _ _ _ [_, _, _, _, _, _, _, _] _ _ _ _
                      refine xt_goto 81 dX12_round_110 (by decide) ?_
                      refine x_T.ls ?_ (ih81 (t + 1) (by omega))
                      rw [nI_succ t]; rfl
                  refine x_T.ls ?_ (L81 (F 6) 0 (by omega))
                  first | (rw [w_mf, if_neg (by omega)] <;> rfl) | (rw [w_mf, if_pos (by omega)] <;> rfl)
            exact L49 7 0 μ2 _ _ (fun s2 p2 h1 h2 h3 => hSc s2 p2 (by omega) h2 h3) hf (by omega)
        refine x_T.ls ?_ (L41 (2 ^ F 6) 0 μ1 (.retAddr 0) (.retAddr 0) (.retAddr 0) (fun s p h1 h2 => absurd h1 (by omega)) (fun _ _ => rfl) (by omega))
        rw [Nat.sub_zero, eI_pr (by omega)]
    · by_cases hw : 0 ≤ a2 ∧ a2 < nI (F 6)
      · obtain ⟨j, hj31, rfl⟩ := nI_of (Int32.not_lt.mpr hw.1)
        have hj : j < F 6 := (nI_ltI hj31 (by omega)).mp hw.2
        refine ⟨nI (w_chn (w_W true (F 6) (w_P true F) (w_D true F)) (j + 1)).2, ?_, ?_⟩
        · intro μ w c hf hc e hC
          have hS := f_Sf hf2
          refine x_K.of (by decide) (Nat.le_of_ble_eq_true rfl) ?_
          show x_T sc 29 mX11_round 0 [.ref 0, .int (nI f), .int (nI j), .retAddr 0] [] μ w _
          refine xt_aload_n _ dX11_round_0 rfl ?_
          refine xt_iload_n _ dX11_round_1 rfl ?_
          refine xt_cV _ dX11_round_2 klX11_90 (tX11_fairOf sc _ μ w f c hf hc e) sh0 rfl rfl (Nat.le_of_ble_eq_true rfl) ?_
          refine xt_astore_n dX11_round_5 (by decide) rfl ?_
          change x_T _ _ _ _ [_, _, _, _] _ _ _ _
          refine xt_aload_n _ dX11_round_6 rfl ?_
          refine xt_ifnonnull_r 12 dX11_round_7 (by decide) ?_
          refine xt_aload_n _ dX11_round_12 rfl ?_
          refine xt_getr _ dX11_round_13 kfX11_41 (by first | exact sh0 | exact sh1 | exact sh137 | exact hS.1 | rfl | assumption) rfl ?_
          refine xt_aload_n _ dX11_round_16 rfl ?_
          refine xt_iconst (1) dX11_round_17 (by decide) ?_
          refine xt_callV _ dX11_round_18 klX11_149 (tX10_lay sc _ μ w (7 + 11 * f) F hS (by omega) hW hC true) sh137 rfl rfl (Nat.le_of_ble_eq_true rfl) (fun r2 μ2 w2 q2 => ?_)
          obtain ⟨rfl, h7, h6s, hR, hfr2⟩ := q2
          change x_T _ _ _ _ _ _ _ _ _
          refine xt_iload_n _ dX11_round_21 rfl ?_
          refine xt_iconst (-1) dX11_round_22 (by decide) ?_
          refine xt_icmp_ne 37 dX11_round_23 (by decide) (fun _ => ?_) (fun q => absurd q (fun z => absurd ((eI_m1 (a := j + 1) (by omega)).mp ((eI_s j).trans z)) (by omega)))
          refine xt_aload_n _ dX11_round_37 rfl ?_
          refine xt_getr _ dX11_round_38 kfX11_41 (by first | exact sh0 | exact sh1 | exact sh137 | exact hS.1 | rfl | assumption) rfl ?_
          refine xt_iload_n _ dX11_round_41 rfl ?_
          refine xt_iconst (-1) dX11_round_42 (by decide) ?_
          refine xt_cV _ dX11_round_43 klX11_157 (tX10_townAt sc _ μ2 w2 ((w_W true (F 6) (w_P true F) (w_D true F)) 0 6).2.1 (fun q => (w_chn (w_W true (F 6) (w_P true F) (w_D true F)) (q + 1)).2) (by omega) h6s hR _ _) sh137 rfl rfl (Nat.le_of_ble_eq_true rfl) ?_
          exact xt_iret .int dX11_round_46 rfl (by first | rfl | assumption) ⟨by rw [if_pos ⟨Int32.not_lt.mp (nI_pos (by omega)), nI_lt (by omega) (by omega)⟩, nI_clamp (by omega)], (fun a ha => hfr2 a (by unfold x_ok at ha; omega))⟩
        · intro μ w c hf hc e hF
          refine x_K.of (by decide) (Nat.le_of_ble_eq_true rfl) ?_
          show x_T sc 29 mX12_round 0 [.ref 152, .int (nI f), .int (nI j), .retAddr 0, .retAddr 0, .retAddr 0, .retAddr 0, .retAddr 0] [] μ w _
          refine xt_aload_n _ dX12_round_0 rfl ?_
          refine xt_iconst (0) dX12_round_1 (by decide) ?_
          refine xt_puti dX12_round_2 kpX12_72 (by first | exact sh152 | rfl | assumption) rfl (by first | rfl | assumption) (by first | rfl | assumption) ?_
          refine xt_aload_n _ dX12_round_5 rfl ?_
          refine xt_iload_n _ dX12_round_6 rfl ?_
          refine xt_callV _ dX12_round_7 klX12_300 (tX12_hand sc _ (x_u μ 152 (upd (μ 152) 0 0)) w f c F hf hc e hF) sh152 rfl rfl (Nat.le_of_ble_eq_true rfl) (fun r1 μ1 w1 q1 => ?_)
          obtain ⟨rfl, rfl, hS, h0, hfr⟩ := q1
          change x_T _ _ _ _ _ (.int 1 :: _) _ _ _
          have e6 : μ1 152 25 = nI (F 6) := hS.1.2.2.2.2.1
          have hF1 : ∀ i, i < 125 → μ1 158 (125 * f + i) = nI (F i) := fun i hi => by rw [show μ1 158 = μ 158 from hfr 158 (by decide) (by decide) (by decide) (by decide)]; exact hF i hi
          refine xt_if_eq 27 dX12_round_10 (by decide) (fun q => absurd q (by decide)) (fun _ => ?_)
          refine xt_iload_n _ dX12_round_13 rfl ?_
          refine xt_iconst (-1) dX12_round_14 (by decide) ?_
          refine xt_aload_n _ dX12_round_15 rfl ?_
          refine xt_geti dX12_round_16 kfX12_254 (by first | exact sh152 | rfl | assumption) rfl ?_
          refine xt_iconst (1) dX12_round_19 (by decide) ?_
          refine xt_isub dX12_round_20 ?_
          rw [e6]
          refine xt_cS _ dX12_round_21 klX12_84 (tX12_in sc _ _ _ _ _ _) rfl rfl (Nat.le_of_ble_eq_true rfl) ?_
          refine xt_if_ne 29 dX12_round_24 (by decide) (fun _ => ?_) (fun q => absurd q (s_in_ki (by omega) (by rw [nI_toInt (by omega)]; omega) (by rw [nI_toInt (by omega)]; omega)))
          refine xt_iconst (1) dX12_round_29 (by decide) ?_
          refine xt_aload_n _ dX12_round_30 rfl ?_
          refine xt_geti dX12_round_31 kfX12_254 (by first | exact sh152 | rfl | assumption) rfl ?_
          refine xt_ishl dX12_round_34 ?_
          refine xt_iconst (1) dX12_round_35 (by decide) ?_
          refine xt_isub dX12_round_36 ?_
          rw [e6, x_1sh (by omega), show nI (2 ^ F 6) - (1 : Int32) = nI (2 ^ F 6 - 1) from pk_sub (b := 1) h1p]
          refine xt_istore_n dX12_round_37 (by decide) rfl ?_
          change x_T _ _ _ _ [_, _, _, _, _, _, _, _] _ _ _ _
          refine xt_iload_n _ dX12_round_38 rfl ?_
          refine xt_istore dX12_round_39 (by decide) rfl ?_
          change x_T _ _ _ _ [_, _, _, _, _, _, _, _] _ _ _ _
          have L41 : ∀ (n41 m : Nat) (μ2 : x_Me) (v5 v6 v7 : Value) (hSc : ∀ s p, 2 ^ F 6 ≤ s + m → s < 2 ^ F 6 → (p < F 6 ∨ p = 6) → μ2 167 (64 * p + s) = iI (- ((w_W true (F 6) (w_P true F) (w_D true F)) s p).1)) (hf : ∀ a, a ≠ 167 → μ2 a = μ1 a), m + n41 = 2 ^ F 6 → x_T sc 29 mX12_round 41 [.ref 152, .int (nI f), .int (nI j), .int (nI (2 ^ F 6 - 1)), .int (eI (2 ^ F 6 - m)), v5, v6, v7] [] μ2 w1 (fun r μ' _ => r = some (.int (nI (w_chn (w_W true (F 6) (w_P true F) (w_D true F)) (j + 1)).2)) ∧ x_keep μ μ') := by
            intro n41
            induction n41 with
            | zero =>
              intro m μ2 v5 v6 v7 hSc hf hmn
              obtain rfl : 2 ^ F 6 = m := by omega
              refine xt_iload _ dX12_round_41 rfl ?_
              refine xt_if_lt 140 dX12_round_43 (by decide) (fun _ => ?_) (fun q => absurd (by rw [Nat.sub_self]; decide) q)
              refine xt_iconst (0) dX12_round_140 (by decide) ?_
              refine xt_istore dX12_round_141 (by decide) rfl ?_
              change x_T _ _ _ _ [_, _, _, _, _, _, _, _] _ _ _ _
              refine xt_bipush (6) dX12_round_143 (by decide) ?_
              refine xt_istore dX12_round_145 (by decide) rfl ?_
              change x_T _ _ _ _ [_, _, _, _, _, _, _, _] _ _ _ _
              refine xt_iconst (0) dX12_round_147 (by decide) ?_
              refine xt_istore dX12_round_148 (by decide) rfl ?_
              change x_T _ _ _ _ [_, _, _, _, _, _, _, _] _ _ _ _
              have L150 : ∀ (n150 i : Nat) (v7 : Value), i + n150 = j + 1 → x_T sc 29 mX12_round 150 [.ref 152, .int (nI f), .int (nI j), .int (nI (2 ^ F 6 - 1)), .int (nI (w_chn (w_W true (F 6) (w_P true F) (w_D true F)) i).1), .int (nI (w_chn (w_W true (F 6) (w_P true F) (w_D true F)) i).2), .int (nI i), v7] [] μ2 w1 (fun r μ' _ => r = some (.int (nI (w_chn (w_W true (F 6) (w_P true F) (w_D true F)) (j + 1)).2)) ∧ x_keep μ μ') := by
                intro n150
                induction n150 with
                | zero =>
                  intro i v7 hmn
                  obtain rfl : j + 1 = i := by omega
                  refine xt_iload _ dX12_round_150 rfl ?_
                  refine xt_iload_n _ dX12_round_152 rfl ?_
                  refine xt_icmp_gt 210 dX12_round_153 (by decide) (fun _ => ?_) (fun q => absurd (nI_lt (by omega) (by omega)) q)
                  refine xt_iload_n _ dX12_round_210 rfl ?_
                  refine xt_iconst (-1) dX12_round_211 (by decide) ?_
                  refine xt_icmp_ne 226 dX12_round_212 (by decide) (fun _ => ?_) (fun q => absurd q (fun z => absurd ((eI_m1 (a := j + 1) (by omega)).mp ((eI_s j).trans z)) (by omega)))
                  refine xt_iload _ dX12_round_226 rfl ?_
                  exact xt_iret .int dX12_round_228 rfl (by first | rfl | assumption) ⟨rfl, (x_keep.tr (x_keep.hand hfr) (fun a ha => hf a (by unfold x_ok at ha; omega)))⟩
                | succ n150 ih150 =>
                  intro i v7 hmn
                  have hlt_i : i < j + 1 := by omega
                  have hiN : i < ((w_W true (F 6) (w_P true F) (w_D true F)) 0 6).2.1 := by omega
                  have hps := (w_chn_ok (wh := true) (T := F 6) (P := w_P true F) (D := w_D true F) i (by omega)).1
                  have hct := w_chn_t (wh := true) (T := F 6) (P := w_P true F) (D := w_D true F) hiN
                  have hpg : ((w_chn (w_W true (F 6) (w_P true F) (w_D true F)) i).2 < F 6 ∨ (w_chn (w_W true (F 6) (w_P true F) (w_D true F)) i).2 = 6) := by have := hps.2; omega
                  have hpl := hps.1
                  have hpk := w_pick (P := w_P true F) (D := w_D true F) (p := (w_chn (w_W true (F 6) (w_P true F) (w_D true F)) i).2) (t := (((w_W true (F 6) (w_P true F) (w_D true F)) (w_chn (w_W true (F 6) (w_P true F) (w_D true F)) i).1 (w_chn (w_W true (F 6) (w_P true F) (w_D true F)) i).2).2.2 - 1)) hps.1 (show ((w_W true (F 6) (w_P true F) (w_D true F)) (w_chn (w_W true (F 6) (w_P true F) (w_D true F)) i).1 (w_chn (w_W true (F 6) (w_P true F) (w_D true F)) i).2).2.2 = (((w_W true (F 6) (w_P true F) (w_D true F)) (w_chn (w_W true (F 6) (w_P true F) (w_D true F)) i).1 (w_chn (w_W true (F 6) (w_P true F) (w_D true F)) i).2).2.2 - 1) + 1 by omega)
                  obtain ⟨o1, o2, _, _⟩ := w_W_ok2 (wh := true) h6 hPD hps.1 hpg
                  have hixc : (64 : Int32) * nI (w_chn (w_W true (F 6) (w_P true F) (w_D true F)) i).2 + nI (w_chn (w_W true (F 6) (w_P true F) (w_D true F)) i).1 = nI (64 * (w_chn (w_W true (F 6) (w_P true F) (w_D true F)) i).2 + (w_chn (w_W true (F 6) (w_P true F) (w_D true F)) i).1) := by rw [show (64 : Int32) = nI 64 from rfl, pk_mul, nI_add]
                  have h22 : μ2 152 22 = nI f := by rw [hf 152 (by decide)]; exact hS.1.2.1
                  have hF3 : ∀ i, i < 125 → μ2 158 (125 * f + i) = nI (F i) := fun i hi => by rw [hf 158 (by decide)]; exact hF1 i hi
                  have hval : ∀ e, e < F 6 → (w_chn (w_W true (F 6) (w_P true F) (w_D true F)) i).1.testBit e = false → (if (w_chn (w_W true (F 6) (w_P true F) (w_D true F)) i).1.testBit e then (1000000 : Int32) else w_tw F (w_chn (w_W true (F 6) (w_P true F) (w_D true F)) i).2 e + μ2 167 (64 * e + ((w_chn (w_W true (F 6) (w_P true F) (w_D true F)) i).1 ||| 2 ^ e))) = iI (- w_v (w_P true F) (w_D true F) (w_W true (F 6) (w_P true F) (w_D true F)) (w_chn (w_W true (F 6) (w_P true F) (w_D true F)) i).1 (w_chn (w_W true (F 6) (w_P true F) (w_D true F)) i).2 e) := by
                    intro e he hb
                    rw [hb, if_neg (by decide), w_tw_D hW hpg (.inl he), hSc _ e (by omega) (w_or_lt he hps.1) (.inl he), iI_add]
                    show iI (w_D true F (w_chn (w_W true (F 6) (w_P true F) (w_D true F)) i).2 e + - ((w_W true (F 6) (w_P true F) (w_D true F)) ((w_chn (w_W true (F 6) (w_P true F) (w_D true F)) i).1 ||| 2 ^ e) e).1) = iI (- (0 - w_D true F (w_chn (w_W true (F 6) (w_P true F) (w_D true F)) i).2 e + ((w_W true (F 6) (w_P true F) (w_D true F)) ((w_chn (w_W true (F 6) (w_P true F) (w_D true F)) i).1 ||| 2 ^ e) e).1))
                    exact congrArg iI (by omega)
                  have hnot : ∀ e, e < (((w_W true (F 6) (w_P true F) (w_D true F)) (w_chn (w_W true (F 6) (w_P true F) (w_D true F)) i).1 (w_chn (w_W true (F 6) (w_P true F) (w_D true F)) i).2).2.2 - 1) → ¬ (if (w_chn (w_W true (F 6) (w_P true F) (w_D true F)) i).1.testBit e then (1000000 : Int32) else w_tw F (w_chn (w_W true (F 6) (w_P true F) (w_D true F)) i).2 e + μ2 167 (64 * e + ((w_chn (w_W true (F 6) (w_P true F) (w_D true F)) i).1 ||| 2 ^ e))) = iI (- ((w_W true (F 6) (w_P true F) (w_D true F)) (w_chn (w_W true (F 6) (w_P true F) (w_D true F)) i).1 (w_chn (w_W true (F 6) (w_P true F) (w_D true F)) i).2).1) := by
                    intro e he z
                    cases hb : (w_chn (w_W true (F 6) (w_P true F) (w_D true F)) i).1.testBit e
                    · rw [hval e (by omega) hb] at z
                      have h1 := hpk.2.2.2 e he hb
                      obtain ⟨c1, c2, _, _⟩ := w_W_ok2 (wh := true) h6 hPD (w_or_lt (show e < F 6 by omega) hps.1) (p := e) (.inl (by omega))
                      have h2 := hPD.2 _ e hpg (.inl (by omega))
                      have h3 : w_v (w_P true F) (w_D true F) (w_W true (F 6) (w_P true F) (w_D true F)) (w_chn (w_W true (F 6) (w_P true F) (w_D true F)) i).1 (w_chn (w_W true (F 6) (w_P true F) (w_D true F)) i).2 e = 0 - w_D true F (w_chn (w_W true (F 6) (w_P true F) (w_D true F)) i).2 e + ((w_W true (F 6) (w_P true F) (w_D true F)) ((w_chn (w_W true (F 6) (w_P true F) (w_D true F)) i).1 ||| 2 ^ e) e).1 := rfl
                      have h4 := (iI_eq (by omega) (by omega) (by omega) (by omega)).mp z
                      omega
                    · rw [hb, if_pos rfl, show (1000000 : Int32) = iI 1000000 by decide] at z
                      have h4 := (iI_eq (by omega) (by omega) (by omega) (by omega)).mp z
                      omega
                  refine xt_iload _ dX12_round_150 rfl ?_
                  refine xt_iload_n _ dX12_round_152 rfl ?_
                  refine xt_icmp_gt 210 dX12_round_153 (by decide) (fun q => absurd q (Int32.not_lt.mpr (nI_le (by omega) (by omega)))) (fun _ => ?_)
                  refine xt_iconst (0) dX12_round_156 (by decide) ?_
                  refine xt_istore dX12_round_157 (by decide) rfl ?_
                  change x_T _ _ _ _ [_, _, _, _, _, _, _, _] _ _ _ _
                  have L159 : ∀ (n159 e : Nat) , e + n159 = (((w_W true (F 6) (w_P true F) (w_D true F)) (w_chn (w_W true (F 6) (w_P true F) (w_D true F)) i).1 (w_chn (w_W true (F 6) (w_P true F) (w_D true F)) i).2).2.2 - 1) → x_T sc 29 mX12_round 159 [.ref 152, .int (nI f), .int (nI j), .int (nI (2 ^ F 6 - 1)), .int (nI (w_chn (w_W true (F 6) (w_P true F) (w_D true F)) i).1), .int (nI (w_chn (w_W true (F 6) (w_P true F) (w_D true F)) i).2), .int (nI i), .int (nI e)] [] μ2 w1 (fun r μ' _ => r = some (.int (nI (w_chn (w_W true (F 6) (w_P true F) (w_D true F)) (j + 1)).2)) ∧ x_keep μ μ') := by
                    intro n159
                    induction n159 with
                    | zero =>
                      intro e  hmn
                      obtain rfl : (((w_W true (F 6) (w_P true F) (w_D true F)) (w_chn (w_W true (F 6) (w_P true F) (w_D true F)) i).1 (w_chn (w_W true (F 6) (w_P true F) (w_D true F)) i).2).2.2 - 1) = e := by omega
                      refine xt_aload_n _ dX12_round_159 rfl ?_
                      refine xt_iload _ dX12_round_160 rfl ?_
                      refine xt_iload _ dX12_round_162 rfl ?_
                      refine xt_iload _ dX12_round_164 rfl ?_
                      refine xt_cV _ dX12_round_166 klX12_511 (tX12_roundBy sc _ μ2 w1 f F hf2 h22 hF3 (w_chn (w_W true (F 6) (w_P true F) (w_D true F)) i).1 (w_chn (w_W true (F 6) (w_P true F) (w_D true F)) i).2 _ (by omega) (by omega) (by omega)) sh152 rfl rfl (Nat.le_of_ble_eq_true rfl) ?_
                      refine xt_aload_n _ dX12_round_169 rfl ?_
                      refine xt_getr _ dX12_round_170 kfX12_53 (by first | exact sh152 | rfl | assumption) rfl ?_
                      refine xt_bipush (64) dX12_round_173 (by decide) ?_
                      refine xt_iload _ dX12_round_175 rfl ?_
                      refine xt_imul dX12_round_177 ?_
                      refine xt_iload _ dX12_round_178 rfl ?_
                      refine xt_iadd dX12_round_180 ?_
                      refine xt_ald dX12_round_181 (by first | exact sh152 | rfl | assumption) (by rw [hixc]; exact vp_in_nI (by omega) (by decide)) ?_
                      rw [hixc, nI_clamp (by omega), hSc _ _ (by omega) hps.1 hpg]
                      refine xt_icmp_eq 191 dX12_round_182 (by decide) (fun _ => ?_) (fun q => absurd (by rw [hval _ (by omega) hpk.1, hpk.2.2.1]) q)
                      refine xt_iload _ dX12_round_191 rfl ?_
                      refine xt_iconst (1) dX12_round_193 (by decide) ?_
                      refine xt_iload _ dX12_round_194 rfl ?_
                      refine xt_ishl dX12_round_196 ?_
                      refine xt_ior dX12_round_197 ?_
                      refine xt_istore dX12_round_198 (by decide) rfl ?_
                      change x_T _ _ _ _ [_, _, _, _, _, _, _, _] _ _ _ _
                      refine xt_iload _ dX12_round_200 rfl ?_
                      refine xt_istore dX12_round_202 (by decide) rfl ?_
                      change x_T _ _ _ _ [_, _, _, _, _, _, _, _] _ _ _ _
                      refine xt_inc _ (1) dX12_round_204 rfl (by decide) (by decide) rfl ?_
                      change x_T _ _ _ _ [_, _, _, _, _, _, _, _] _ _ _ _
                      refine xt_goto 150 dX12_round_207 (by decide) ?_
                      refine x_T.ls ?_ (ih150 (i + 1) (.int (nI (((w_W true (F 6) (w_P true F) (w_D true F)) (w_chn (w_W true (F 6) (w_P true F) (w_D true F)) i).1 (w_chn (w_W true (F 6) (w_P true F) (w_D true F)) i).2).2.2 - 1))) (by omega))
                      rw [show (w_chn (w_W true (F 6) (w_P true F) (w_D true F)) (i + 1)) = ((w_chn (w_W true (F 6) (w_P true F) (w_D true F)) i).1 ||| 2 ^ (((w_W true (F 6) (w_P true F) (w_D true F)) (w_chn (w_W true (F 6) (w_P true F) (w_D true F)) i).1 (w_chn (w_W true (F 6) (w_P true F) (w_D true F)) i).2).2.2 - 1), (((w_W true (F 6) (w_P true F) (w_D true F)) (w_chn (w_W true (F 6) (w_P true F) (w_D true F)) i).1 (w_chn (w_W true (F 6) (w_P true F) (w_D true F)) i).2).2.2 - 1)) from rfl]
                      dsimp only
                      rw [x_1sh (by omega), nI_or, nI_succ i]
                    | succ n159 ih159 =>
                      intro e  hmn
                      have hlt_e : e < (((w_W true (F 6) (w_P true F) (w_D true F)) (w_chn (w_W true (F 6) (w_P true F) (w_D true F)) i).1 (w_chn (w_W true (F 6) (w_P true F) (w_D true F)) i).2).2.2 - 1) := by omega
                      refine xt_aload_n _ dX12_round_159 rfl ?_
                      refine xt_iload _ dX12_round_160 rfl ?_
                      refine xt_iload _ dX12_round_162 rfl ?_
                      refine xt_iload _ dX12_round_164 rfl ?_
                      refine xt_cV _ dX12_round_166 klX12_511 (tX12_roundBy sc _ μ2 w1 f F hf2 h22 hF3 (w_chn (w_W true (F 6) (w_P true F) (w_D true F)) i).1 (w_chn (w_W true (F 6) (w_P true F) (w_D true F)) i).2 _ (by omega) (by omega) (by omega)) sh152 rfl rfl (Nat.le_of_ble_eq_true rfl) ?_
                      refine xt_aload_n _ dX12_round_169 rfl ?_
                      refine xt_getr _ dX12_round_170 kfX12_53 (by first | exact sh152 | rfl | assumption) rfl ?_
                      refine xt_bipush (64) dX12_round_173 (by decide) ?_
                      refine xt_iload _ dX12_round_175 rfl ?_
                      refine xt_imul dX12_round_177 ?_
                      refine xt_iload _ dX12_round_178 rfl ?_
                      refine xt_iadd dX12_round_180 ?_
                      refine xt_ald dX12_round_181 (by first | exact sh152 | rfl | assumption) (by rw [hixc]; exact vp_in_nI (by omega) (by decide)) ?_
                      rw [hixc, nI_clamp (by omega), hSc _ _ (by omega) hps.1 hpg]
                      refine xt_icmp_eq 191 dX12_round_182 (by decide) (fun q => absurd q (hnot e hlt_e)) (fun _ => ?_)
                      refine xt_inc _ (1) dX12_round_185 rfl (by decide) (by decide) rfl ?_
                      change x_T _ _ _ _ [_, _, _, _, _, _, _, _] _ _ _ _
                      refine xt_goto 159 dX12_round_188 (by decide) ?_
                      refine x_T.ls ?_ (ih159 (e + 1) (by omega))
                      rw [nI_succ e]
                  exact L159 (((w_W true (F 6) (w_P true F) (w_D true F)) (w_chn (w_W true (F 6) (w_P true F) (w_D true F)) i).1 (w_chn (w_W true (F 6) (w_P true F) (w_D true F)) i).2).2.2 - 1) 0 (by omega)
              exact L150 (j + 1) 0 _ (by omega)
            | succ n41 ih41 =>
              intro m μ2 v5 v6 v7 hSc hf hmn
              have hlt : m < 2 ^ F 6 := by omega
              obtain ⟨s, hs⟩ : ∃ s, s + m + 1 = 2 ^ F 6 := ⟨2 ^ F 6 - m - 1, by omega⟩
              have hsT : s < 2 ^ F 6 := by omega
              have es : eI (2 ^ F 6 - m) = nI s := by rw [show 2 ^ F 6 - m = s + 1 by omega, eI_s]
              have ee : eI (2 ^ F 6 - (m + 1)) = nI s + (-1) := by
                rw [show 2 ^ F 6 - (m + 1) = s by omega, eI]; exact Int32.sub_eq_add_neg _ _
              refine xt_iload _ dX12_round_41 rfl ?_
              refine xt_if_lt 140 dX12_round_43 (by decide) (fun q => absurd q (fun z => absurd ((eI_neg (by omega)).mp z) (by omega))) (fun _ => ?_)
              rw [es]
              refine xt_iconst (0) dX12_round_46 (by decide) ?_
              refine xt_istore dX12_round_47 (by decide) rfl ?_
              change x_T _ _ _ _ [_, _, _, _, _, _, _, _] _ _ _ _
              have L49 : ∀ (n49 a : Nat) (μ3 : x_Me) (v6 v7 : Value) (hS3 : ∀ s2 p2, (2 ^ F 6 ≤ s2 + m ∨ (s2 = s ∧ p2 < a)) → s2 < 2 ^ F 6 → (p2 < F 6 ∨ p2 = 6) → μ3 167 (64 * p2 + s2) = iI (- ((w_W true (F 6) (w_P true F) (w_D true F)) s2 p2).1)) (hf3 : ∀ a, a ≠ 167 → μ3 a = μ1 a), a + n49 = 7 → x_T sc 29 mX12_round 49 [.ref 152, .int (nI f), .int (nI j), .int (nI (2 ^ F 6 - 1)), .int (nI s), .int (nI a), v6, v7] [] μ3 w1 (fun r μ' _ => r = some (.int (nI (w_chn (w_W true (F 6) (w_P true F) (w_D true F)) (j + 1)).2)) ∧ x_keep μ μ') := by
                intro n49
                induction n49 with
                | zero =>
                  intro a μ3 v6 v7 hS3 hf3 hmn
                  obtain rfl : 7 = a := by omega
                  refine xt_iload _ dX12_round_49 rfl ?_
                  refine xt_bipush (6) dX12_round_51 (by decide) ?_
                  refine xt_icmp_gt 134 dX12_round_53 (by decide) (fun _ => ?_) (fun q => absurd (by decide) q)
                  refine xt_inc _ (-1) dX12_round_134 rfl (by decide) (by decide) rfl ?_
                  change x_T _ _ _ _ [_, _, _, _, _, _, _, _] _ _ _ _
                  refine xt_goto 41 dX12_round_137 (by decide) ?_
                  refine x_T.ls ?_ (ih41 (m + 1) μ3 (.int (nI 7)) v6 v7 (fun s2 p2 h1 h2 h3 => hS3 s2 p2 (by omega) h2 h3) hf3 (by omega))
                  rw [ee]
                | succ n49 ih49 =>
                  intro a μ3 v6 v7 hS3 hf3 hmn
                  have hlt_a : a < 7 := by omega
                  have h22 : μ3 152 22 = nI f := by rw [hf3 152 (by decide)]; exact hS.1.2.1
                  have hF3 : ∀ i, i < 125 → μ3 158 (125 * f + i) = nI (F i) := fun i hi => by rw [hf3 158 (by decide)]; exact hF1 i hi
                  have hix : (64 : Int32) * nI a + nI s = nI (64 * a + s) := by rw [show (64 : Int32) = nI 64 from rfl, pk_mul, nI_add]
                  refine xt_iload _ dX12_round_49 rfl ?_
                  refine xt_bipush (6) dX12_round_51 (by decide) ?_
                  refine xt_icmp_gt 134 dX12_round_53 (by decide) (fun q => absurd q (fun z => absurd ((nI_ltI (a := 6) (by decide) (by omega)).mp z) (by omega))) (fun _ => ?_)
                  refine xt_iload _ dX12_round_56 rfl ?_
                  refine xt_iload_n _ dX12_round_58 rfl ?_
                  refine xt_icmp_ne 73 dX12_round_59 (by decide) (fun t59 => ?_) (fun f59 => ?_)
                  · have n59 : ¬ (s = (2 ^ F 6 - 1)) := fun z => t59 ((nI_eq (a := s) (b := (2 ^ F 6 - 1)) (by omega) (by omega)).mpr z)
                    refine xt_ldcw _ dX12_round_73 kkX12_353 ?_
                    refine xt_istore dX12_round_76 (by decide) rfl ?_
                    change x_T _ _ _ _ [_, _, _, _, _, _, _, _] _ _ _ _
                    refine xt_iconst (0) dX12_round_78 (by decide) ?_
                    refine xt_istore dX12_round_79 (by decide) rfl ?_
                    change x_T _ _ _ _ [_, _, _, _, _, _, _, _] _ _ _ _
                    have L81 : ∀ (n81 t : Nat) , t + n81 = F 6 → x_T sc 29 mX12_round 81 [.ref 152, .int (nI f), .int (nI j), .int (nI (2 ^ F 6 - 1)), .int (nI s), .int (nI a), .int (w_mf (if s + 1 = 2 ^ F 6 then w_tw F a 6 else 1000000) (fun t => if s.testBit t then 1000000 else w_tw F a t + μ3 167 (64 * t + (s ||| 2 ^ t))) t), .int (nI t)] [] μ3 w1 (fun r μ' _ => r = some (.int (nI (w_chn (w_W true (F 6) (w_P true F) (w_D true F)) (j + 1)).2)) ∧ x_keep μ μ') := by
                      intro n81
                      induction n81 with
                      | zero =>
                        intro t  hmn
                        obtain rfl : F 6 = t := by omega
                        refine xt_iload _ dX12_round_81 rfl ?_
                        refine xt_aload_n _ dX12_round_83 rfl ?_
                        refine xt_geti dX12_round_84 kfX12_254 (by first | exact sh152 | rfl | assumption) rfl ?_
                        refine xt_icmp_ge 113 dX12_round_87 (by decide) (fun _ => ?_) (fun q => absurd (by rw [hf3 152 (by decide), e6]; exact Int32.le_refl _) q)
                        refine xt_aload_n _ dX12_round_113 rfl ?_
                        refine xt_getr _ dX12_round_114 kfX12_53 (by first | exact sh152 | rfl | assumption) rfl ?_
                        refine xt_bipush (64) dX12_round_117 (by decide) ?_
                        refine xt_iload _ dX12_round_119 rfl ?_
                        refine xt_imul dX12_round_121 ?_
                        refine xt_iload _ dX12_round_122 rfl ?_
                        refine xt_iadd dX12_round_124 ?_
                        refine xt_iload _ dX12_round_125 rfl ?_
                        refine xt_ast dX12_round_127 (by first | exact sh152 | rfl | assumption) (by rw [hix]; exact vp_in_nI (by omega) (by decide)) ?_
                        refine xt_inc _ (1) dX12_round_128 rfl (by decide) (by decide) rfl ?_
                        change x_T _ _ _ _ [_, _, _, _, _, _, _, _] _ _ _ _
                        refine xt_goto 49 dX12_round_131 (by decide) ?_
                        refine x_T.ls (by rw [nI_succ a]) (ih49 (a + 1) _ (.int (w_mf (if s + 1 = 2 ^ F 6 then w_tw F a 6 else 1000000) (fun t => if s.testBit t then 1000000 else w_tw F a t + μ3 167 (64 * t + (s ||| 2 ^ t))) (F 6))) (.int (nI (F 6))) (fun s2 p2 h1 h2 h3 => ?_) (fun c hc => by rw [x_u_ne hc]; exact hf3 c hc) (by omega))
                        rw [x_u_eq, hix, nI_clamp (by omega)]
                        by_cases he : 64 * p2 + s2 = 64 * a + s
                        · have hea : p2 = a := by omega
                          have hes : s2 = s := by omega
                          rw [hea, hes, pk_us]
                          have h3a : a < F 6 ∨ a = 6 := by omega
                          refine w_rnd h6 hPD hsT h3a (by rw [w_tw_D hW h3a (.inr rfl)]) (fun t ht => ⟨fun hb => if_pos hb, fun hb => ?_⟩)
                          show (if s.testBit t = true then 1000000 else w_tw F a t + μ3 167 (64 * t + (s ||| 2 ^ t))) = _
                          rw [hb, if_neg (by decide), w_tw_D hW h3a (.inl ht), hS3 (s ||| 2 ^ t) t (.inl (by have := w_or_gt hb; omega)) (w_or_lt ht hsT) (.inl ht), iI_add]
                          show iI (w_D true F a t + - ((w_W true (F 6) (w_P true F) (w_D true F)) (s ||| 2 ^ t) t).1) = iI (- (0 - w_D true F a t + ((w_W true (F 6) (w_P true F) (w_D true F)) (s ||| 2 ^ t) t).1))
                          exact congrArg iI (by omega)
                        · rw [pk_un he]; exact hS3 s2 p2 (by omega) h2 h3
                      | succ n81 ih81 =>
                        intro t  hmn
                        have hlt_t : t < F 6 := by omega
                        refine xt_iload _ dX12_round_81 rfl ?_
                        refine xt_aload_n _ dX12_round_83 rfl ?_
                        refine xt_geti dX12_round_84 kfX12_254 (by first | exact sh152 | rfl | assumption) rfl ?_
                        refine xt_icmp_ge 113 dX12_round_87 (by decide) (fun q => absurd q (by rw [hf3 152 (by decide), e6]; exact nI_ge hlt_t (by omega))) (fun _ => ?_)
                        refine xt_iload _ dX12_round_90 rfl ?_
                        refine xt_aload_n _ dX12_round_92 rfl ?_
                        refine xt_iload _ dX12_round_93 rfl ?_
                        refine xt_iload _ dX12_round_95 rfl ?_
                        refine xt_iload _ dX12_round_97 rfl ?_
                        refine xt_cV _ dX12_round_99 klX12_511 (tX12_roundBy sc _ μ3 w1 f F hf2 h22 hF3 s a t (by omega) (by omega) (by omega)) sh152 rfl rfl (Nat.le_of_ble_eq_true rfl) ?_
                        refine xt_cS _ dX12_round_102 klX12_209 (tX12_lesser sc _ μ3 _ _ _) rfl rfl (Nat.le_of_ble_eq_true rfl) ?_
                        refine xt_istore dX12_round_105 (by decide) rfl ?_
                        change x_T _ _ _ _ [_, _, _, _, _, _, _, _] _ _ _ _
                        refine xt_inc _ (1) dX12_round_107 rfl (by decide) (by decide) rfl ?_
                        change x_T _ _ _ _ [_, _, _, _, _, _, _, _] _ _ _ _
                        refine xt_goto 81 dX12_round_110 (by decide) ?_
                        refine x_T.ls ?_ (ih81 (t + 1) (by omega))
                        rw [nI_succ t]; rfl
                    refine x_T.ls ?_ (L81 (F 6) 0 (by omega))
                    first | (rw [w_mf, if_neg (by omega)] <;> rfl) | (rw [w_mf, if_pos (by omega)] <;> rfl)
                  · have n59 : s = (2 ^ F 6 - 1) := (nI_eq (a := s) (b := (2 ^ F 6 - 1)) (by omega) (by omega)).mp f59
                    refine xt_aload_n _ dX12_round_62 rfl ?_
                    refine xt_iload _ dX12_round_63 rfl ?_
                    refine xt_bipush (6) dX12_round_65 (by decide) ?_
                    refine xt_cV _ dX12_round_67 klX12_387 (tX12_townWay sc _ μ3 w1 f F hf2 h22 hF3 a 6 (by omega) (by decide)) sh152 rfl rfl (Nat.le_of_ble_eq_true rfl) ?_
                    refine xt_goto 76 dX12_round_70 (by decide) ?_
                    refine xt_istore dX12_round_76 (by decide) rfl ?_
                    change x_T _ _ _ _ [_, _, _, _, _, _, _, _] _ _ _ _
                    refine xt_iconst (0) dX12_round_78 (by decide) ?_
                    refine xt_istore dX12_round_79 (by decide) rfl ?_
                    change x_T _ _ _ _ [_, _, _, _, _, _, _, _] _ _ _ _
                    have L81 : ∀ (n81 t : Nat) , t + n81 = F 6 → x_T sc 29 mX12_round 81 [.ref 152, .int (nI f), .int (nI j), .int (nI (2 ^ F 6 - 1)), .int (nI s), .int (nI a), .int (w_mf (if s + 1 = 2 ^ F 6 then w_tw F a 6 else 1000000) (fun t => if s.testBit t then 1000000 else w_tw F a t + μ3 167 (64 * t + (s ||| 2 ^ t))) t), .int (nI t)] [] μ3 w1 (fun r μ' _ => r = some (.int (nI (w_chn (w_W true (F 6) (w_P true F) (w_D true F)) (j + 1)).2)) ∧ x_keep μ μ') := by
                      intro n81
                      induction n81 with
                      | zero =>
                        intro t  hmn
                        obtain rfl : F 6 = t := by omega
                        refine xt_iload _ dX12_round_81 rfl ?_
                        refine xt_aload_n _ dX12_round_83 rfl ?_
                        refine xt_geti dX12_round_84 kfX12_254 (by first | exact sh152 | rfl | assumption) rfl ?_
                        refine xt_icmp_ge 113 dX12_round_87 (by decide) (fun _ => ?_) (fun q => absurd (by rw [hf3 152 (by decide), e6]; exact Int32.le_refl _) q)
                        refine xt_aload_n _ dX12_round_113 rfl ?_
                        refine xt_getr _ dX12_round_114 kfX12_53 (by first | exact sh152 | rfl | assumption) rfl ?_
                        refine xt_bipush (64) dX12_round_117 (by decide) ?_
                        refine xt_iload _ dX12_round_119 rfl ?_
                        refine xt_imul dX12_round_121 ?_
                        refine xt_iload _ dX12_round_122 rfl ?_
                        refine xt_iadd dX12_round_124 ?_
                        refine xt_iload _ dX12_round_125 rfl ?_
                        refine xt_ast dX12_round_127 (by first | exact sh152 | rfl | assumption) (by rw [hix]; exact vp_in_nI (by omega) (by decide)) ?_
                        refine xt_inc _ (1) dX12_round_128 rfl (by decide) (by decide) rfl ?_
                        change x_T _ _ _ _ [_, _, _, _, _, _, _, _] _ _ _ _
                        refine xt_goto 49 dX12_round_131 (by decide) ?_
                        refine x_T.ls (by rw [nI_succ a]) (ih49 (a + 1) _ (.int (w_mf (if s + 1 = 2 ^ F 6 then w_tw F a 6 else 1000000) (fun t => if s.testBit t then 1000000 else w_tw F a t + μ3 167 (64 * t + (s ||| 2 ^ t))) (F 6))) (.int (nI (F 6))) (fun s2 p2 h1 h2 h3 => ?_) (fun c hc => by rw [x_u_ne hc]; exact hf3 c hc) (by omega))
                        rw [x_u_eq, hix, nI_clamp (by omega)]
                        by_cases he : 64 * p2 + s2 = 64 * a + s
                        · have hea : p2 = a := by omega
                          have hes : s2 = s := by omega
                          rw [hea, hes, pk_us]
                          have h3a : a < F 6 ∨ a = 6 := by omega
                          refine w_rnd h6 hPD hsT h3a (by rw [w_tw_D hW h3a (.inr rfl)]) (fun t ht => ⟨fun hb => if_pos hb, fun hb => ?_⟩)
                          show (if s.testBit t = true then 1000000 else w_tw F a t + μ3 167 (64 * t + (s ||| 2 ^ t))) = _
                          rw [hb, if_neg (by decide), w_tw_D hW h3a (.inl ht), hS3 (s ||| 2 ^ t) t (.inl (by have := w_or_gt hb; omega)) (w_or_lt ht hsT) (.inl ht), iI_add]
                          show iI (w_D true F a t + - ((w_W true (F 6) (w_P true F) (w_D true F)) (s ||| 2 ^ t) t).1) = iI (- (0 - w_D true F a t + ((w_W true (F 6) (w_P true F) (w_D true F)) (s ||| 2 ^ t) t).1))
                          exact congrArg iI (by omega)
                        · rw [pk_un he]; exact hS3 s2 p2 (by omega) h2 h3
                      | succ n81 ih81 =>
                        intro t  hmn
                        have hlt_t : t < F 6 := by omega
                        refine xt_iload _ dX12_round_81 rfl ?_
                        refine xt_aload_n _ dX12_round_83 rfl ?_
                        refine xt_geti dX12_round_84 kfX12_254 (by first | exact sh152 | rfl | assumption) rfl ?_
                        refine xt_icmp_ge 113 dX12_round_87 (by decide) (fun q => absurd q (by rw [hf3 152 (by decide), e6]; exact nI_ge hlt_t (by omega))) (fun _ => ?_)
                        refine xt_iload _ dX12_round_90 rfl ?_
                        refine xt_aload_n _ dX12_round_92 rfl ?_
                        refine xt_iload _ dX12_round_93 rfl ?_
                        refine xt_iload _ dX12_round_95 rfl ?_
                        refine xt_iload _ dX12_round_97 rfl ?_
                        refine xt_cV _ dX12_round_99 klX12_511 (tX12_roundBy sc _ μ3 w1 f F hf2 h22 hF3 s a t (by omega) (by omega) (by omega)) sh152 rfl rfl (Nat.le_of_ble_eq_true rfl) ?_
                        refine xt_cS _ dX12_round_102 klX12_209 (tX12_lesser sc _ μ3 _ _ _) rfl rfl (Nat.le_of_ble_eq_true rfl) ?_
                        refine xt_istore dX12_round_105 (by decide) rfl ?_
                        change x_T _ _ _ _ [_, _, _, _, _, _, _, _] _ _ _ _
                        refine xt_inc _ (1) dX12_round_107 rfl (by decide) (by decide) rfl ?_
                        change x_T _ _ _ _ [_, _, _, _, _, _, _, _] _ _ _ _
                        refine xt_goto 81 dX12_round_110 (by decide) ?_
                        refine x_T.ls ?_ (ih81 (t + 1) (by omega))
                        rw [nI_succ t]; rfl
                    refine x_T.ls ?_ (L81 (F 6) 0 (by omega))
                    first | (rw [w_mf, if_neg (by omega)] <;> rfl) | (rw [w_mf, if_pos (by omega)] <;> rfl)
              exact L49 7 0 μ2 _ _ (fun s2 p2 h1 h2 h3 => hSc s2 p2 (by omega) h2 h3) hf (by omega)
          refine x_T.ls ?_ (L41 (2 ^ F 6) 0 μ1 (.retAddr 0) (.retAddr 0) (.retAddr 0) (fun s p h1 h2 => absurd h1 (by omega)) (fun _ _ => rfl) (by omega))
          rw [Nat.sub_zero, eI_pr (by omega)]
      · skip
        refine ⟨-1, ?_, ?_⟩
        · intro μ w c hf hc e hC
          have hS := f_Sf hf2
          refine x_K.of (by decide) (Nat.le_of_ble_eq_true rfl) ?_
          show x_T sc 29 mX11_round 0 [.ref 0, .int (nI f), .int a2, .retAddr 0] [] μ w _
          refine xt_aload_n _ dX11_round_0 rfl ?_
          refine xt_iload_n _ dX11_round_1 rfl ?_
          refine xt_cV _ dX11_round_2 klX11_90 (tX11_fairOf sc _ μ w f c hf hc e) sh0 rfl rfl (Nat.le_of_ble_eq_true rfl) ?_
          refine xt_astore_n dX11_round_5 (by decide) rfl ?_
          change x_T _ _ _ _ [_, _, _, _] _ _ _ _
          refine xt_aload_n _ dX11_round_6 rfl ?_
          refine xt_ifnonnull_r 12 dX11_round_7 (by decide) ?_
          refine xt_aload_n _ dX11_round_12 rfl ?_
          refine xt_getr _ dX11_round_13 kfX11_41 (by first | exact sh0 | exact sh1 | exact sh137 | exact hS.1 | rfl | assumption) rfl ?_
          refine xt_aload_n _ dX11_round_16 rfl ?_
          refine xt_iconst (1) dX11_round_17 (by decide) ?_
          refine xt_callV _ dX11_round_18 klX11_149 (tX10_lay sc _ μ w (7 + 11 * f) F hS (by omega) hW hC true) sh137 rfl rfl (Nat.le_of_ble_eq_true rfl) (fun r2 μ2 w2 q2 => ?_)
          obtain ⟨rfl, h7, h6s, hR, hfr2⟩ := q2
          change x_T _ _ _ _ _ _ _ _ _
          refine xt_iload_n _ dX11_round_21 rfl ?_
          refine xt_iconst (-1) dX11_round_22 (by decide) ?_
          refine xt_icmp_ne 37 dX11_round_23 (by decide) (fun _ => ?_) (fun q => absurd q hm1)
          refine xt_aload_n _ dX11_round_37 rfl ?_
          refine xt_getr _ dX11_round_38 kfX11_41 (by first | exact sh0 | exact sh1 | exact sh137 | exact hS.1 | rfl | assumption) rfl ?_
          refine xt_iload_n _ dX11_round_41 rfl ?_
          refine xt_iconst (-1) dX11_round_42 (by decide) ?_
          refine xt_cV _ dX11_round_43 klX11_157 (tX10_townAt sc _ μ2 w2 ((w_W true (F 6) (w_P true F) (w_D true F)) 0 6).2.1 (fun q => (w_chn (w_W true (F 6) (w_P true F) (w_D true F)) (q + 1)).2) (by omega) h6s hR _ _) sh137 rfl rfl (Nat.le_of_ble_eq_true rfl) ?_
          exact xt_iret .int dX11_round_46 rfl (by first | rfl | assumption) ⟨by rw [hN, if_neg hw], (fun a ha => hfr2 a (by unfold x_ok at ha; omega))⟩
        · intro μ w c hf hc e hF
          refine x_K.of (by decide) (Nat.le_of_ble_eq_true rfl) ?_
          show x_T sc 29 mX12_round 0 [.ref 152, .int (nI f), .int a2, .retAddr 0, .retAddr 0, .retAddr 0, .retAddr 0, .retAddr 0] [] μ w _
          refine xt_aload_n _ dX12_round_0 rfl ?_
          refine xt_iconst (0) dX12_round_1 (by decide) ?_
          refine xt_puti dX12_round_2 kpX12_72 (by first | exact sh152 | rfl | assumption) rfl (by first | rfl | assumption) (by first | rfl | assumption) ?_
          refine xt_aload_n _ dX12_round_5 rfl ?_
          refine xt_iload_n _ dX12_round_6 rfl ?_
          refine xt_callV _ dX12_round_7 klX12_300 (tX12_hand sc _ (x_u μ 152 (upd (μ 152) 0 0)) w f c F hf hc e hF) sh152 rfl rfl (Nat.le_of_ble_eq_true rfl) (fun r1 μ1 w1 q1 => ?_)
          obtain ⟨rfl, rfl, hS, h0, hfr⟩ := q1
          change x_T _ _ _ _ _ (.int 1 :: _) _ _ _
          have e6 : μ1 152 25 = nI (F 6) := hS.1.2.2.2.2.1
          have hF1 : ∀ i, i < 125 → μ1 158 (125 * f + i) = nI (F i) := fun i hi => by rw [show μ1 158 = μ 158 from hfr 158 (by decide) (by decide) (by decide) (by decide)]; exact hF i hi
          refine xt_if_eq 27 dX12_round_10 (by decide) (fun q => absurd q (by decide)) (fun _ => ?_)
          refine xt_iload_n _ dX12_round_13 rfl ?_
          refine xt_iconst (-1) dX12_round_14 (by decide) ?_
          refine xt_aload_n _ dX12_round_15 rfl ?_
          refine xt_geti dX12_round_16 kfX12_254 (by first | exact sh152 | rfl | assumption) rfl ?_
          refine xt_iconst (1) dX12_round_19 (by decide) ?_
          refine xt_isub dX12_round_20 ?_
          rw [e6]
          refine xt_cS _ dX12_round_21 klX12_84 (tX12_in sc _ _ _ _ _ _) rfl rfl (Nat.le_of_ble_eq_true rfl) ?_
          refine xt_if_ne 29 dX12_round_24 (by decide) (fun q => absurd (s_in_ko (by omega) hm1 hw) q) (fun _ => ?_)
          refine xt_iconst (-1) dX12_round_27 (by decide) ?_
          exact xt_iret .int dX12_round_28 rfl (by first | rfl | assumption) ⟨rfl, (x_keep.hand hfr)⟩
