/-! steps: next, plays -/
theorem s_any_ear (G : Nat → Nat) (st : Nat → Bool) (h g : Nat) : ∀ n, s_any G st h 0 g n = decide (s_farO G g < s_ear G st h g n)
  | 0 => by simp [s_any, s_ear]
  | n + 1 => by
    rw [s_any, s_any_ear G st h g n, s_ear]
    by_cases h1 : st n = false
    · by_cases h2 : G (19 + n) + h ≤ G (41 + (6 * g + G (7 + n)))
      · rw [if_pos ⟨h1, h2⟩]
        simp only [h1, h2, decide_true, Bool.true_and, Bool.and_true, Nat.add_zero]
        rw [← Bool.decide_or]
        congr 1
        apply propext
        omega
      · rw [if_neg (fun q => h2 q.2)]
        simp [h2]
    · rw [if_neg (fun q => h1 q.1)]
      simp [h1]
theorem s_bits_cong {p q : Nat → Bool} : ∀ {n : Nat}, (∀ i, i < n → p i = q i) → s_bits p n = s_bits q n
  | 0, _ => rfl
  | n + 1, h => by rw [s_bits, s_bits, s_bits_cong (fun i hi => h i (by omega)), h n (by omega)]
theorem s_any_offs (G : Nat → Nat) (st : Nat → Bool) : s_bits (fun g => s_any G st 0 0 g (G 3)) (G 4) = s_offs G st := s_bits_cong (fun g _ => s_any_ear G st 0 g (G 3))
theorem s_strM0 : s_strM 0 (fun _ => false) := by
  have h : ∀ m, m < 6 → s_has 0 (nI m) = 0 := by decide +kernel
  intro m hm
  rw [h m hm]; rfl
theorem x_rng {a : Int32} {N : Nat} (hN : N < 2 ^ 31) (h : 0 ≤ a ∧ a ≤ nI N) : ∃ n, n ≤ N ∧ a = nI n := by
  obtain ⟨j, hj, rfl⟩ := nI_of (Int32.not_lt.mpr h.1)
  exact ⟨j, (nI_leI hj hN).mp h.2, rfl⟩
theorem s_in_nI {n N : Nat} (h : n ≤ N) (hN : N < 2 ^ 31) : ¬ s_in (nI n) 0 (nI N) = 0 := by
  rw [s_in_0 (nI_pos (by omega)) (nI_nlt h (by omega))]; decide
set_option maxHeartbeats 1000000 in
theorem st_next (sc : Nat × (Nat → Int32)) (a1 a2 : Int32) : x_stI sc (fun μ _ => x_Inv μ) (fun μ _ => x_Inv μ) mX11_next mX12_next [.int a1, .int a2] := by
  refine x_stF (-1) ?_ ?_ ?_
  · intro μ w c hc e hk
    refine x_K.of (by decide) (Nat.le_of_ble_eq_true rfl) ?_
    show x_T sc 29 mX11_next 0 [.ref 0, .int a1, .int a2, .retAddr 0] [] μ w _
    refine xt_aload_n _ dX11_next_0 rfl ?_
    refine xt_iload_n _ dX11_next_1 rfl ?_
    refine xt_cV _ dX11_next_2 klX11_90 (tX11_fairOf_no sc _ μ w c hc e _ hk) sh0 rfl rfl (Nat.le_of_ble_eq_true rfl) ?_
    refine xt_astore_n0 dX11_next_5 (by decide) rfl ?_
    change x_T _ _ _ _ [_, _, _, _] _ _ _ _
    refine xt_aload_n0 dX11_next_6 rfl ?_
    refine xt_ifnull_n 20 dX11_next_7 (by decide) ?_
    refine xt_iconst (-1) dX11_next_20 (by decide) ?_
    refine xt_goto 29 dX11_next_21 (by decide) ?_
    exact xt_iret .int dX11_next_29 rfl (by first | rfl | assumption) ⟨rfl, x_keep.rf μ⟩
  · intro μ w c hc e hk
    refine x_K.of (by decide) (Nat.le_of_ble_eq_true rfl) ?_
    show x_T sc 29 mX12_next 0 [.ref 152, .int a1, .int a2, .retAddr 0] [] μ w _
    refine xt_aload_n _ dX12_next_0 rfl ?_
    refine xt_iconst (0) dX12_next_1 (by decide) ?_
    refine xt_puti dX12_next_2 kpX12_72 (by first | exact sh152 | rfl | assumption) rfl (by first | rfl | assumption) (by first | rfl | assumption) ?_
    refine xt_iload_n _ dX12_next_5 rfl ?_
    refine xt_iconst (0) dX12_next_6 (by decide) ?_
    refine xt_bipush (99) dX12_next_7 (by decide) ?_
    refine xt_cS _ dX12_next_9 klX12_84 (tX12_in sc _ _ w _ _ _) rfl rfl (Nat.le_of_ble_eq_true rfl) ?_
    refine xt_if_eq 30 dX12_next_12 (by decide) (fun t12 => ?_) (fun f12 => ?_)
    · refine xt_iconst (-1) dX12_next_30 (by decide) ?_
      exact xt_iret .int dX12_next_31 rfl (by first | rfl | assumption) ⟨rfl, (x_keep.u (x_keep.rf μ) (by unfold x_ok; omega))⟩
    · refine xt_aload_n _ dX12_next_15 rfl ?_
      refine xt_iload_n _ dX12_next_16 rfl ?_
      refine xt_cV _ dX12_next_17 klX12_300 (tX12_hand_no sc _ (x_u μ 152 (upd (μ 152) 0 0)) w c hc e _ hk) sh152 rfl rfl (Nat.le_of_ble_eq_true rfl) ?_
      refine xt_if_eq 30 dX12_next_20 (by decide) (fun _ => ?_) (fun q => absurd (by decide) q)
      refine xt_iconst (-1) dX12_next_30 (by decide) ?_
      exact xt_iret .int dX12_next_31 rfl (by first | rfl | assumption) ⟨rfl, (x_keep.u (x_keep.rf μ) (by unfold x_ok; omega))⟩
  · intro f F hf2 hkk hW
    subst hkk
    by_cases hr : 0 ≤ a2 ∧ a2 ≤ nI 99
    · obtain ⟨n, hn, rfl⟩ := x_rng (by decide) hr
      refine ⟨if s_offs F (fun _ => false) = 0 then s_pa F (99 - n) (n + 1) else -1, ?_, ?_⟩
      · intro μ w c hf hc e hC
        have hS := f_Sf hf2
        refine x_K.of (by decide) (Nat.le_of_ble_eq_true rfl) ?_
        show x_T sc 29 mX11_next 0 [.ref 0, .int (nI f), .int (nI n), .retAddr 0] [] μ w _
        refine xt_aload_n _ dX11_next_0 rfl ?_
        refine xt_iload_n _ dX11_next_1 rfl ?_
        refine xt_cV _ dX11_next_2 klX11_90 (tX11_fairOf sc _ μ w f c hf hc e) sh0 rfl rfl (Nat.le_of_ble_eq_true rfl) ?_
        refine xt_astore_n dX11_next_5 (by decide) rfl ?_
        change x_T _ _ _ _ [_, _, _, _] _ _ _ _
        refine xt_aload_n _ dX11_next_6 rfl ?_
        refine xt_ifnull_r dX11_next_7 ?_
        refine xt_iload_n _ dX11_next_10 rfl ?_
        refine xt_if_lt 20 dX11_next_11 (by decide) (fun q => absurd q (nI_pos (by omega))) (fun _ => ?_)
        refine xt_iload_n _ dX11_next_14 rfl ?_
        refine xt_bipush (99) dX11_next_15 (by decide) ?_
        refine xt_icmp_le 24 dX11_next_17 (by decide) (fun _ => ?_) (fun q => absurd (nI_le (b := 99) hn (by decide)) q)
        refine xt_aload_n _ dX11_next_24 rfl ?_
        refine xt_iload_n _ dX11_next_25 rfl ?_
        refine xt_cV _ dX11_next_26 klX11_291 (tX2_playingAfter sc _ w hS hC hW n hn) hS.1 rfl rfl (Nat.le_of_ble_eq_true rfl) ?_
        exact xt_iret .int dX11_next_29 rfl (by first | rfl | assumption) ⟨rfl, x_keep.rf μ⟩
      · intro μ w c hf hc e hF
        refine x_K.of (by decide) (Nat.le_of_ble_eq_true rfl) ?_
        show x_T sc 29 mX12_next 0 [.ref 152, .int (nI f), .int (nI n), .retAddr 0] [] μ w _
        refine xt_aload_n _ dX12_next_0 rfl ?_
        refine xt_iconst (0) dX12_next_1 (by decide) ?_
        refine xt_puti dX12_next_2 kpX12_72 (by first | exact sh152 | rfl | assumption) rfl (by first | rfl | assumption) (by first | rfl | assumption) ?_
        refine xt_iload_n _ dX12_next_5 rfl ?_
        refine xt_iconst (0) dX12_next_6 (by decide) ?_
        refine xt_bipush (99) dX12_next_7 (by decide) ?_
        refine xt_cS _ dX12_next_9 klX12_84 (tX12_in sc _ _ w _ _ _) rfl rfl (Nat.le_of_ble_eq_true rfl) ?_
        refine xt_if_eq 30 dX12_next_12 (by decide) (fun q => absurd q (s_in_nI (N := 99) hn (by decide))) (fun _ => ?_)
        refine xt_aload_n _ dX12_next_15 rfl ?_
        refine xt_iload_n _ dX12_next_16 rfl ?_
        refine xt_callV _ dX12_next_17 klX12_300 (tX12_hand sc _ (x_u μ 152 (upd (μ 152) 0 0)) w f c F hf hc e hF) sh152 rfl rfl (Nat.le_of_ble_eq_true rfl) (fun r1 μ1 w1 q1 => ?_)
        obtain ⟨rfl, rfl, hS, h0, hfr⟩ := q1
        change x_T _ _ _ _ _ (.int 1 :: _) _ _ _
        refine xt_if_eq 30 dX12_next_20 (by decide) (fun q => absurd q (by decide)) (fun _ => ?_)
        refine xt_aload_n _ dX12_next_23 rfl ?_
        refine xt_cV _ dX12_next_24 klX12_322 (tX12_offenders sc _ μ1 _ f F hS hW 0 (fun _ => false) s_strM0 0 0 (by decide) (by decide) h0.2.2.2.2.2.1 h0.2.2.2.2.2.2.1 h0.2.2.2.2.2.2.2) sh152 rfl rfl (Nat.le_of_ble_eq_true rfl) ?_
        rw [s_any_offs]
        refine xt_if_eq 32 dX12_next_27 (by decide) (fun t27 => ?_) (fun f27 => ?_)
        · refine xt_iload_n _ dX12_next_32 rfl ?_
          refine xt_iconst (1) dX12_next_33 (by decide) ?_
          refine xt_iadd dX12_next_34 ?_
          refine xt_istore_n dX12_next_35 (by decide) rfl ?_
          change x_T _ _ _ _ [_, _, _, _] _ _ _ _
          have hb := s_offs_lt hW (fun _ => false)
          have hq : s_offs F (fun _ => false) = 0 := (nI_0e (by omega)).mp t27
          have L36 : ∀ (r t : Nat), t + r = 100 → s_pa F r t = s_pa F (99 - n) (n + 1) → x_T sc 29 mX12_next 36 [.ref 152, .int (nI f), .int (nI n), .int (nI t)] [] μ1 w1 (fun r μ' _ => r = some (.int (if s_offs F (fun _ => false) = 0 then s_pa F (99 - n) (n + 1) else -1)) ∧ x_keep μ μ') := by
            intro r
            induction r with
            | zero =>
              intro t hmn hr
              refine xt_iload_n _ dX12_next_36 rfl ?_
              refine xt_bipush (99) dX12_next_37 (by decide) ?_
              refine xt_icmp_gt 58 dX12_next_39 (by decide) (fun _ => ?_) (fun q => absurd (nI_lt (a := 99) (by omega) (by omega)) q)
              refine xt_iconst (-1) dX12_next_58 (by decide) ?_
              exact xt_iret .int dX12_next_59 rfl (by first | rfl | assumption) ⟨by rw [if_pos hq, ← hr]; rfl, (x_keep.hand hfr)⟩
            | succ r ih =>
              intro t hmn hr
              refine xt_iload_n _ dX12_next_36 rfl ?_
              refine xt_bipush (99) dX12_next_37 (by decide) ?_
              refine xt_icmp_gt 58 dX12_next_39 (by decide) (fun q => absurd q (fun z => absurd ((nI_ltI (a := 99) (by decide) (by omega)).mp z) (by omega))) (fun _ => ?_)
              refine xt_aload_n _ dX12_next_42 rfl ?_
              refine xt_iload_n _ dX12_next_43 rfl ?_
              refine xt_cV _ dX12_next_44 klX12_325 (tX12_isSlanted sc _ μ1 _ F hW.1.2.2.1 hS.1.2.2.2.2.2.2.2 t (by omega)) sh152 rfl rfl (Nat.le_of_ble_eq_true rfl) ?_
              refine xt_if_ne 52 dX12_next_47 (by decide) (fun t47 => ?_) (fun f47 => ?_)
              · refine xt_inc _ (1) dX12_next_52 rfl (by decide) (by decide) rfl ?_
                change x_T _ _ _ _ [_, _, _, _] _ _ _ _
                refine xt_goto 36 dX12_next_55 (by decide) ?_
                refine x_T.ls ?_ (ih (t + 1) (by omega) ?_)
                · rw [nI_succ t]
                · rw [← hr, s_pa, if_pos (by cases hs : s_slant F t <;> simp_all)]
              · refine xt_iload_n _ dX12_next_50 rfl ?_
                exact xt_iret .int dX12_next_51 rfl (by first | rfl | assumption) ⟨by rw [if_pos hq, ← hr, s_pa, if_neg (by cases hs : s_slant F t <;> simp_all)], (x_keep.hand hfr)⟩
          refine x_T.ls ?_ (L36 (99 - n) (n + 1) (by omega) rfl)
          rw [nI_succ n]
        · refine xt_iconst (-1) dX12_next_30 (by decide) ?_
          exact xt_iret .int dX12_next_31 rfl (by first | rfl | assumption) ⟨by have hb := s_offs_lt hW (fun _ => false); have hz : ¬ s_offs F (fun _ => false) = 0 := (fun z => f27 ((nI_0e (by omega)).mpr z)); rw [if_neg hz], (x_keep.hand hfr)⟩
    · refine ⟨-1, ?_, ?_⟩
      · intro μ w c hf hc e hC
        refine x_K.of (by decide) (Nat.le_of_ble_eq_true rfl) ?_
        show x_T sc 29 mX11_next 0 [.ref 0, .int (nI f), .int a2, .retAddr 0] [] μ w _
        refine xt_aload_n _ dX11_next_0 rfl ?_
        refine xt_iload_n _ dX11_next_1 rfl ?_
        refine xt_cV _ dX11_next_2 klX11_90 (tX11_fairOf sc _ μ w f c hf hc e) sh0 rfl rfl (Nat.le_of_ble_eq_true rfl) ?_
        refine xt_astore_n dX11_next_5 (by decide) rfl ?_
        change x_T _ _ _ _ [_, _, _, _] _ _ _ _
        refine xt_aload_n _ dX11_next_6 rfl ?_
        refine xt_ifnull_r dX11_next_7 ?_
        refine xt_iload_n _ dX11_next_10 rfl ?_
        refine xt_if_lt 20 dX11_next_11 (by decide) (fun t11 => ?_) (fun f11 => ?_)
        · refine xt_iconst (-1) dX11_next_20 (by decide) ?_
          refine xt_goto 29 dX11_next_21 (by decide) ?_
          exact xt_iret .int dX11_next_29 rfl (by first | rfl | assumption) ⟨rfl, x_keep.rf μ⟩
        · refine xt_iload_n _ dX11_next_14 rfl ?_
          refine xt_bipush (99) dX11_next_15 (by decide) ?_
          refine xt_icmp_le 24 dX11_next_17 (by decide) (fun t17 => ?_) (fun f17 => ?_)
          · exact absurd ⟨Int32.not_lt.mp f11, t17⟩ hr
          · refine xt_iconst (-1) dX11_next_20 (by decide) ?_
            refine xt_goto 29 dX11_next_21 (by decide) ?_
            exact xt_iret .int dX11_next_29 rfl (by first | rfl | assumption) ⟨rfl, x_keep.rf μ⟩
      · intro μ w c hf hc e hF
        refine x_K.of (by decide) (Nat.le_of_ble_eq_true rfl) ?_
        show x_T sc 29 mX12_next 0 [.ref 152, .int (nI f), .int a2, .retAddr 0] [] μ w _
        refine xt_aload_n _ dX12_next_0 rfl ?_
        refine xt_iconst (0) dX12_next_1 (by decide) ?_
        refine xt_puti dX12_next_2 kpX12_72 (by first | exact sh152 | rfl | assumption) rfl (by first | rfl | assumption) (by first | rfl | assumption) ?_
        refine xt_iload_n _ dX12_next_5 rfl ?_
        refine xt_iconst (0) dX12_next_6 (by decide) ?_
        refine xt_bipush (99) dX12_next_7 (by decide) ?_
        refine xt_cS _ dX12_next_9 klX12_84 (tX12_in sc _ _ w _ _ _) rfl rfl (Nat.le_of_ble_eq_true rfl) ?_
        refine xt_if_eq 30 dX12_next_12 (by decide) (fun t12 => ?_) (fun f12 => ?_)
        · refine xt_iconst (-1) dX12_next_30 (by decide) ?_
          exact xt_iret .int dX12_next_31 rfl (by first | rfl | assumption) ⟨rfl, (x_keep.u (x_keep.rf μ) (by unfold x_ok; omega))⟩
        · obtain ⟨z1, z2⟩ := s_in_1 f12
          exact absurd ⟨Int32.not_lt.mp z1, Int32.not_lt.mp z2⟩ hr
theorem s_plays {s : Nat} (hs : s ≤ 9) (h0 : ¬ s = 0) : ∀ n, s_cnt (fun t => !decide ((t + 1) % s = 0)) n = n - n / s
  | 0 => by simp [s_cnt]
  | n + 1 => by
    rw [s_cnt, s_plays hs h0 n]
    have hc : s = 1 ∨ s = 2 ∨ s = 3 ∨ s = 4 ∨ s = 5 ∨ s = 6 ∨ s = 7 ∨ s = 8 ∨ s = 9 := by omega
    have e : (if (!decide ((n + 1) % s = 0)) = true then 1 else 0) = (if (n + 1) % s = 0 then 0 else 1 : Nat) := by by_cases h : (n + 1) % s = 0 <;> simp [h]
    rw [e]
    rcases hc with rfl | rfl | rfl | rfl | rfl | rfl | rfl | rfl | rfl <;> split <;> omega
theorem s_cnt_all : ∀ n, s_cnt (fun _ => true) n = n
  | 0 => rfl
  | n + 1 => by rw [s_cnt, s_cnt_all n]; rfl
theorem s_plays2 (F : Nat → Nat) (hs : F 2 ≤ 9) (n : Nat) : s_cnt (fun t => !s_slant F (t + 1)) n = (if F 2 = 0 then n else n - n / F 2) := by
  by_cases h0 : F 2 = 0
  · rw [if_pos h0]
    have : (fun t => !s_slant F (t + 1)) = fun _ => true := by funext t; simp [s_slant, h0]
    rw [this, s_cnt_all]
  · rw [if_neg h0, ← s_plays hs h0 n]
    congr 1
    funext t; simp [s_slant, h0]
set_option maxHeartbeats 1000000 in
theorem st_plays (sc : Nat × (Nat → Int32)) (a1 a2 : Int32) : x_stI sc (fun μ _ => x_Inv μ) (fun μ _ => x_Inv μ) mX11_plays mX12_plays [.int a1, .int a2] := by
  refine x_stF (-1) ?_ ?_ ?_
  · intro μ w c hc e hk
    refine x_K.of (by decide) (Nat.le_of_ble_eq_true rfl) ?_
    show x_T sc 29 mX11_plays 0 [.ref 0, .int a1, .int a2, .retAddr 0] [] μ w _
    refine xt_aload_n _ dX11_plays_0 rfl ?_
    refine xt_iload_n _ dX11_plays_1 rfl ?_
    refine xt_cV _ dX11_plays_2 klX11_90 (tX11_fairOf_no sc _ μ w c hc e _ hk) sh0 rfl rfl (Nat.le_of_ble_eq_true rfl) ?_
    refine xt_astore_n0 dX11_plays_5 (by decide) rfl ?_
    change x_T _ _ _ _ [_, _, _, _] _ _ _ _
    refine xt_aload_n0 dX11_plays_6 rfl ?_
    refine xt_ifnull_n 20 dX11_plays_7 (by decide) ?_
    refine xt_iconst (-1) dX11_plays_20 (by decide) ?_
    refine xt_goto 29 dX11_plays_21 (by decide) ?_
    exact xt_iret .int dX11_plays_29 rfl (by first | rfl | assumption) ⟨rfl, x_keep.rf μ⟩
  · intro μ w c hc e hk
    refine x_K.of (by decide) (Nat.le_of_ble_eq_true rfl) ?_
    show x_T sc 29 mX12_plays 0 [.ref 152, .int a1, .int a2, .retAddr 0, .retAddr 0, .retAddr 0] [] μ w _
    refine xt_aload_n _ dX12_plays_0 rfl ?_
    refine xt_iconst (0) dX12_plays_1 (by decide) ?_
    refine xt_puti dX12_plays_2 kpX12_72 (by first | exact sh152 | rfl | assumption) rfl (by first | rfl | assumption) (by first | rfl | assumption) ?_
    refine xt_iload_n _ dX12_plays_5 rfl ?_
    refine xt_iconst (0) dX12_plays_6 (by decide) ?_
    refine xt_bipush (99) dX12_plays_7 (by decide) ?_
    refine xt_cS _ dX12_plays_9 klX12_84 (tX12_in sc _ _ w _ _ _) rfl rfl (Nat.le_of_ble_eq_true rfl) ?_
    refine xt_if_eq 23 dX12_plays_12 (by decide) (fun t12 => ?_) (fun f12 => ?_)
    · refine xt_iconst (-1) dX12_plays_23 (by decide) ?_
      exact xt_iret .int dX12_plays_24 rfl (by first | rfl | assumption) ⟨rfl, (x_keep.u (x_keep.rf μ) (by unfold x_ok; omega))⟩
    · refine xt_aload_n _ dX12_plays_15 rfl ?_
      refine xt_iload_n _ dX12_plays_16 rfl ?_
      refine xt_cV _ dX12_plays_17 klX12_300 (tX12_hand_no sc _ (x_u μ 152 (upd (μ 152) 0 0)) w c hc e _ hk) sh152 rfl rfl (Nat.le_of_ble_eq_true rfl) ?_
      refine xt_if_ne 25 dX12_plays_20 (by decide) (fun q => absurd (by decide) q) (fun _ => ?_)
      refine xt_iconst (-1) dX12_plays_23 (by decide) ?_
      exact xt_iret .int dX12_plays_24 rfl (by first | rfl | assumption) ⟨rfl, (x_keep.u (x_keep.rf μ) (by unfold x_ok; omega))⟩
  · intro f F hf2 hkk hW
    subst hkk
    by_cases hr : 0 ≤ a2 ∧ a2 ≤ nI 99
    · obtain ⟨n, hn, rfl⟩ := x_rng (by decide) hr
      refine ⟨if s_offs F (fun _ => false) = 0 then nI (if F 2 = 0 then n else n - n / F 2) else 0, ?_, ?_⟩
      · intro μ w c hf hc e hC
        have hS := f_Sf hf2
        refine x_K.of (by decide) (Nat.le_of_ble_eq_true rfl) ?_
        show x_T sc 29 mX11_plays 0 [.ref 0, .int (nI f), .int (nI n), .retAddr 0] [] μ w _
        refine xt_aload_n _ dX11_plays_0 rfl ?_
        refine xt_iload_n _ dX11_plays_1 rfl ?_
        refine xt_cV _ dX11_plays_2 klX11_90 (tX11_fairOf sc _ μ w f c hf hc e) sh0 rfl rfl (Nat.le_of_ble_eq_true rfl) ?_
        refine xt_astore_n dX11_plays_5 (by decide) rfl ?_
        change x_T _ _ _ _ [_, _, _, _] _ _ _ _
        refine xt_aload_n _ dX11_plays_6 rfl ?_
        refine xt_ifnull_r dX11_plays_7 ?_
        refine xt_iload_n _ dX11_plays_10 rfl ?_
        refine xt_if_lt 20 dX11_plays_11 (by decide) (fun q => absurd q (nI_pos (by omega))) (fun _ => ?_)
        refine xt_iload_n _ dX11_plays_14 rfl ?_
        refine xt_bipush (99) dX11_plays_15 (by decide) ?_
        refine xt_icmp_le 24 dX11_plays_17 (by decide) (fun _ => ?_) (fun q => absurd (nI_le (b := 99) hn (by decide)) q)
        refine xt_aload_n _ dX11_plays_24 rfl ?_
        refine xt_iload_n _ dX11_plays_25 rfl ?_
        refine xt_cV _ dX11_plays_26 klX11_308 (tX2_playingUpTo sc _ w hS hC hW n hn) hS.1 rfl rfl (Nat.le_of_ble_eq_true rfl) ?_
        exact xt_iret .int dX11_plays_29 rfl (by first | rfl | assumption) ⟨rfl, x_keep.rf μ⟩
      · intro μ w c hf hc e hF
        refine x_K.of (by decide) (Nat.le_of_ble_eq_true rfl) ?_
        show x_T sc 29 mX12_plays 0 [.ref 152, .int (nI f), .int (nI n), .retAddr 0, .retAddr 0, .retAddr 0] [] μ w _
        refine xt_aload_n _ dX12_plays_0 rfl ?_
        refine xt_iconst (0) dX12_plays_1 (by decide) ?_
        refine xt_puti dX12_plays_2 kpX12_72 (by first | exact sh152 | rfl | assumption) rfl (by first | rfl | assumption) (by first | rfl | assumption) ?_
        refine xt_iload_n _ dX12_plays_5 rfl ?_
        refine xt_iconst (0) dX12_plays_6 (by decide) ?_
        refine xt_bipush (99) dX12_plays_7 (by decide) ?_
        refine xt_cS _ dX12_plays_9 klX12_84 (tX12_in sc _ _ w _ _ _) rfl rfl (Nat.le_of_ble_eq_true rfl) ?_
        refine xt_if_eq 23 dX12_plays_12 (by decide) (fun q => absurd q (s_in_nI (N := 99) hn (by decide))) (fun _ => ?_)
        refine xt_aload_n _ dX12_plays_15 rfl ?_
        refine xt_iload_n _ dX12_plays_16 rfl ?_
        refine xt_callV _ dX12_plays_17 klX12_300 (tX12_hand sc _ (x_u μ 152 (upd (μ 152) 0 0)) w f c F hf hc e hF) sh152 rfl rfl (Nat.le_of_ble_eq_true rfl) (fun r1 μ1 w1 q1 => ?_)
        obtain ⟨rfl, rfl, hS, h0, hfr⟩ := q1
        change x_T _ _ _ _ _ (.int 1 :: _) _ _ _
        refine xt_if_ne 25 dX12_plays_20 (by decide) (fun _ => ?_) (fun q => absurd q (by decide))
        refine xt_aload_n _ dX12_plays_25 rfl ?_
        refine xt_cV _ dX12_plays_26 klX12_322 (tX12_offenders sc _ μ1 _ f F hS hW 0 (fun _ => false) s_strM0 0 0 (by decide) (by decide) h0.2.2.2.2.2.1 h0.2.2.2.2.2.2.1 h0.2.2.2.2.2.2.2) sh152 rfl rfl (Nat.le_of_ble_eq_true rfl) ?_
        rw [s_any_offs]
        refine xt_if_eq 36 dX12_plays_29 (by decide) (fun t29 => ?_) (fun f29 => ?_)
        · refine xt_iconst (0) dX12_plays_36 (by decide) ?_
          refine xt_istore_n dX12_plays_37 (by decide) rfl ?_
          change x_T _ _ _ _ [_, _, _, _, _, _] _ _ _ _
          refine xt_iconst (0) dX12_plays_38 (by decide) ?_
          refine xt_istore dX12_plays_39 (by decide) rfl ?_
          change x_T _ _ _ _ [_, _, _, _, _, _] _ _ _ _
          refine xt_iconst (1) dX12_plays_41 (by decide) ?_
          refine xt_istore dX12_plays_42 (by decide) rfl ?_
          change x_T _ _ _ _ [_, _, _, _, _, _] _ _ _ _
          have hb := s_offs_lt hW (fun _ => false)
          have hz : s_offs F (fun _ => false) = 0 := (nI_0e (by omega)).mp t29
          have L44 : ∀ (r j : Nat), j + r = n → x_T sc 29 mX12_plays 44 [.ref 152, .int (nI f), .int (nI n), .int 0, .int (nI (s_cnt (fun t => !s_slant F (t + 1)) j)), .int (nI (j + 1))] [] μ1 w1 (fun r μ' _ => r = some (.int (if s_offs F (fun _ => false) = 0 then nI (if F 2 = 0 then n else n - n / F 2) else 0)) ∧ x_keep μ μ') := by
            intro r
            induction r with
            | zero =>
              intro j hmn
              refine xt_iload _ dX12_plays_44 rfl ?_
              refine xt_iload_n _ dX12_plays_46 rfl ?_
              refine xt_icmp_gt 79 dX12_plays_47 (by decide) (fun _ => ?_) (fun q => absurd (nI_lt (by omega) (by omega)) q)
              refine xt_iload _ dX12_plays_79 rfl ?_
              exact xt_iret .int dX12_plays_81 rfl (by first | rfl | assumption) ⟨by rw [if_pos hz, show j = n by omega, s_plays2 F hW.1.2.2.1], (x_keep.hand hfr)⟩
            | succ r ih =>
              intro j hmn
              have hcl := s_cnt_le (fun t => !s_slant F (t + 1)) j
              refine xt_iload _ dX12_plays_44 rfl ?_
              refine xt_iload_n _ dX12_plays_46 rfl ?_
              refine xt_icmp_gt 79 dX12_plays_47 (by decide) (fun q => absurd q (fun z => absurd ((nI_ltI (a := n) (by omega) (by omega)).mp z) (by omega))) (fun _ => ?_)
              refine xt_iload _ dX12_plays_50 rfl ?_
              refine xt_iload_n _ dX12_plays_52 rfl ?_
              refine xt_if_ne 65 dX12_plays_53 (by decide) (fun q => absurd (by decide) q) (fun _ => ?_)
              refine xt_aload_n _ dX12_plays_56 rfl ?_
              refine xt_iload _ dX12_plays_57 rfl ?_
              refine xt_cV _ dX12_plays_59 klX12_325 (tX12_isSlanted sc _ μ1 _ F hW.1.2.2.1 hS.1.2.2.2.2.2.2.2 (j + 1) (by omega)) sh152 rfl rfl (Nat.le_of_ble_eq_true rfl) ?_
              refine xt_if_eq 69 dX12_plays_62 (by decide) (fun t62 => ?_) (fun f62 => ?_)
              · refine xt_iconst (1) dX12_plays_69 (by decide) ?_
                refine xt_iadd dX12_plays_70 ?_
                refine xt_istore dX12_plays_71 (by decide) rfl ?_
                change x_T _ _ _ _ [_, _, _, _, _, _] _ _ _ _
                refine xt_inc _ (1) dX12_plays_73 rfl (by decide) (by decide) rfl ?_
                change x_T _ _ _ _ [_, _, _, _, _, _] _ _ _ _
                refine xt_goto 44 dX12_plays_76 (by decide) ?_
                refine x_T.ls ?_ (ih (j + 1) (by omega))
                have hs : s_slant F (j + 1) = false := by cases hs : s_slant F (j + 1) <;> simp_all
                have es : s_cnt (fun t => !s_slant F (t + 1)) (j + 1) = s_cnt (fun t => !s_slant F (t + 1)) j + 1 := by rw [s_cnt]; simp [hs]
                rw [es, nI_succ (j + 1), nI_succ (s_cnt _ j)]
              · refine xt_iconst (0) dX12_plays_65 (by decide) ?_
                refine xt_goto 70 dX12_plays_66 (by decide) ?_
                refine xt_iadd dX12_plays_70 ?_
                refine xt_istore dX12_plays_71 (by decide) rfl ?_
                change x_T _ _ _ _ [_, _, _, _, _, _] _ _ _ _
                refine xt_inc _ (1) dX12_plays_73 rfl (by decide) (by decide) rfl ?_
                change x_T _ _ _ _ [_, _, _, _, _, _] _ _ _ _
                refine xt_goto 44 dX12_plays_76 (by decide) ?_
                refine x_T.ls ?_ (ih (j + 1) (by omega))
                have hs : s_slant F (j + 1) = true := by cases hs : s_slant F (j + 1) <;> simp_all
                have es : s_cnt (fun t => !s_slant F (t + 1)) (j + 1) = s_cnt (fun t => !s_slant F (t + 1)) j := by rw [s_cnt]; simp [hs]
                rw [es, nI_succ (j + 1), Int32.add_zero]
          exact L44 n 0 (by omega)
        · refine xt_iconst (1) dX12_plays_32 (by decide) ?_
          refine xt_goto 37 dX12_plays_33 (by decide) ?_
          refine xt_istore_n dX12_plays_37 (by decide) rfl ?_
          change x_T _ _ _ _ [_, _, _, _, _, _] _ _ _ _
          refine xt_iconst (0) dX12_plays_38 (by decide) ?_
          refine xt_istore dX12_plays_39 (by decide) rfl ?_
          change x_T _ _ _ _ [_, _, _, _, _, _] _ _ _ _
          refine xt_iconst (1) dX12_plays_41 (by decide) ?_
          refine xt_istore dX12_plays_42 (by decide) rfl ?_
          change x_T _ _ _ _ [_, _, _, _, _, _] _ _ _ _
          have hb := s_offs_lt hW (fun _ => false)
          have hz : ¬ s_offs F (fun _ => false) = 0 := (fun z => f29 ((nI_0e (by omega)).mpr z))
          have L44 : ∀ (r j : Nat), j + r = n → x_T sc 29 mX12_plays 44 [.ref 152, .int (nI f), .int (nI n), .int 1, .int 0, .int (nI (j + 1))] [] μ1 w1 (fun r μ' _ => r = some (.int (if s_offs F (fun _ => false) = 0 then nI (if F 2 = 0 then n else n - n / F 2) else 0)) ∧ x_keep μ μ') := by
            intro r
            induction r with
            | zero =>
              intro j hmn
              refine xt_iload _ dX12_plays_44 rfl ?_
              refine xt_iload_n _ dX12_plays_46 rfl ?_
              refine xt_icmp_gt 79 dX12_plays_47 (by decide) (fun _ => ?_) (fun q => absurd (nI_lt (by omega) (by omega)) q)
              refine xt_iload _ dX12_plays_79 rfl ?_
              exact xt_iret .int dX12_plays_81 rfl (by first | rfl | assumption) ⟨by rw [if_neg hz], (x_keep.hand hfr)⟩
            | succ r ih =>
              intro j hmn
              refine xt_iload _ dX12_plays_44 rfl ?_
              refine xt_iload_n _ dX12_plays_46 rfl ?_
              refine xt_icmp_gt 79 dX12_plays_47 (by decide) (fun q => absurd q (fun z => absurd ((nI_ltI (a := n) (by omega) (by omega)).mp z) (by omega))) (fun _ => ?_)
              refine xt_iload _ dX12_plays_50 rfl ?_
              refine xt_iload_n _ dX12_plays_52 rfl ?_
              refine xt_if_ne 65 dX12_plays_53 (by decide) (fun _ => ?_) (fun q => absurd q (by decide))
              refine xt_iconst (0) dX12_plays_65 (by decide) ?_
              refine xt_goto 70 dX12_plays_66 (by decide) ?_
              refine xt_iadd dX12_plays_70 ?_
              refine xt_istore dX12_plays_71 (by decide) rfl ?_
              change x_T _ _ _ _ [_, _, _, _, _, _] _ _ _ _
              refine xt_inc _ (1) dX12_plays_73 rfl (by decide) (by decide) rfl ?_
              change x_T _ _ _ _ [_, _, _, _, _, _] _ _ _ _
              refine xt_goto 44 dX12_plays_76 (by decide) ?_
              refine x_T.ls ?_ (ih (j + 1) (by omega))
              rw [nI_succ (j + 1)]
              rfl
          exact L44 n 0 (by omega)
    · refine ⟨-1, ?_, ?_⟩
      · intro μ w c hf hc e hC
        refine x_K.of (by decide) (Nat.le_of_ble_eq_true rfl) ?_
        show x_T sc 29 mX11_plays 0 [.ref 0, .int (nI f), .int a2, .retAddr 0] [] μ w _
        refine xt_aload_n _ dX11_plays_0 rfl ?_
        refine xt_iload_n _ dX11_plays_1 rfl ?_
        refine xt_cV _ dX11_plays_2 klX11_90 (tX11_fairOf sc _ μ w f c hf hc e) sh0 rfl rfl (Nat.le_of_ble_eq_true rfl) ?_
        refine xt_astore_n dX11_plays_5 (by decide) rfl ?_
        change x_T _ _ _ _ [_, _, _, _] _ _ _ _
        refine xt_aload_n _ dX11_plays_6 rfl ?_
        refine xt_ifnull_r dX11_plays_7 ?_
        refine xt_iload_n _ dX11_plays_10 rfl ?_
        refine xt_if_lt 20 dX11_plays_11 (by decide) (fun t11 => ?_) (fun f11 => ?_)
        · refine xt_iconst (-1) dX11_plays_20 (by decide) ?_
          refine xt_goto 29 dX11_plays_21 (by decide) ?_
          exact xt_iret .int dX11_plays_29 rfl (by first | rfl | assumption) ⟨rfl, x_keep.rf μ⟩
        · refine xt_iload_n _ dX11_plays_14 rfl ?_
          refine xt_bipush (99) dX11_plays_15 (by decide) ?_
          refine xt_icmp_le 24 dX11_plays_17 (by decide) (fun t17 => ?_) (fun f17 => ?_)
          · exact absurd ⟨Int32.not_lt.mp f11, t17⟩ hr
          · refine xt_iconst (-1) dX11_plays_20 (by decide) ?_
            refine xt_goto 29 dX11_plays_21 (by decide) ?_
            exact xt_iret .int dX11_plays_29 rfl (by first | rfl | assumption) ⟨rfl, x_keep.rf μ⟩
      · intro μ w c hf hc e hF
        refine x_K.of (by decide) (Nat.le_of_ble_eq_true rfl) ?_
        show x_T sc 29 mX12_plays 0 [.ref 152, .int (nI f), .int a2, .retAddr 0, .retAddr 0, .retAddr 0] [] μ w _
        refine xt_aload_n _ dX12_plays_0 rfl ?_
        refine xt_iconst (0) dX12_plays_1 (by decide) ?_
        refine xt_puti dX12_plays_2 kpX12_72 (by first | exact sh152 | rfl | assumption) rfl (by first | rfl | assumption) (by first | rfl | assumption) ?_
        refine xt_iload_n _ dX12_plays_5 rfl ?_
        refine xt_iconst (0) dX12_plays_6 (by decide) ?_
        refine xt_bipush (99) dX12_plays_7 (by decide) ?_
        refine xt_cS _ dX12_plays_9 klX12_84 (tX12_in sc _ _ w _ _ _) rfl rfl (Nat.le_of_ble_eq_true rfl) ?_
        refine xt_if_eq 23 dX12_plays_12 (by decide) (fun t12 => ?_) (fun f12 => ?_)
        · refine xt_iconst (-1) dX12_plays_23 (by decide) ?_
          exact xt_iret .int dX12_plays_24 rfl (by first | rfl | assumption) ⟨rfl, (x_keep.u (x_keep.rf μ) (by unfold x_ok; omega))⟩
        · obtain ⟨z1, z2⟩ := s_in_1 f12
          exact absurd ⟨Int32.not_lt.mp z1, Int32.not_lt.mp z2⟩ hr
