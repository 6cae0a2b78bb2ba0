/-! turns: the reference's ends, and the step -/
theorem s_99 {t : Nat} (ht : t ≤ 4) : 9 ^ t ≤ 6561 ∧ 0 < 9 ^ t := ⟨Nat.le_trans (Nat.pow_le_pow_right (by decide) ht) (show 9 ^ 4 ≤ 6561 by decide), Nat.pow_pos (by decide)⟩
section BYTURNS
variable (sc : Nat × (Nat → Int32)) (d : Nat) (μ : x_Me) (w : Int64)
set_option maxHeartbeats 4000000 in
theorem tX12_endOf (f : Nat) (F : Nat → Nat) (hf2 : f < 2) (hW : f_W F) (hsc : m_sc μ f F) (h0 : μ 152 34 = 0 ∧ μ 152 35 = 0 ∧ μ 152 36 = 0) (hF : ∀ i, i < 125 → μ 158 (125 * f + i) = nI (F i)) (n K : Nat) (hn : n ≤ 4) (hK : K < 6561) : x_K sc (d + 4) mX12_endOf [.ref 152, .int (nI n), .int (nI K)] μ w (fun r μ' _ => r = some (.int (s_en F n n K)) ∧ ∀ a, a ≠ 163 → a ≠ 164 → a ≠ 165 → μ' a = μ a) := by
  have h8 : F 4 ≤ 8 := hW.1.2.2.2.2.1
  refine x_K.of (by decide) (Nat.le_of_ble_eq_true rfl) ?_
  show x_T sc (d + 4) mX12_endOf 0 [.ref 152, .int (nI n), .int (nI K), .retAddr 0, .retAddr 0, .retAddr 0] [] μ w _
  refine xt_aload_n _ dX12_endOf_0 rfl ?_
  refine xt_callV _ dX12_endOf_1 klX12_402 (tX12_asTold sc _ μ w f F hf2 hsc.1 hF) sh152 rfl rfl (Nat.le_of_ble_eq_true rfl) (fun r1 μ1 w1 q1 => ?_)
  obtain ⟨rfl, hR1, hf1⟩ := q1
  change x_T _ _ _ _ _ _ _ _ _
  refine xt_iload_n _ dX12_endOf_4 rfl ?_
  refine xt_cS _ dX12_endOf_5 klX12_405 (tX12_nines sc _ μ1 w1 n hn) rfl rfl (Nat.le_of_ble_eq_true rfl) ?_
  refine xt_istore_n dX12_endOf_8 (by decide) rfl ?_
  change x_T _ _ _ _ [_, _, _, _, _, _] _ _ _ _
  refine xt_iconst (0) dX12_endOf_9 (by decide) ?_
  refine xt_istore dX12_endOf_10 (by decide) rfl ?_
  change x_T _ _ _ _ [_, _, _, _, _, _] _ _ _ _
  have L12 : ∀ (n12 m : Nat) (μ2 : x_Me) (w2 : Int64) (v5 : Value) (hR : m_R μ2 (s_gs F m (K / 9 ^ (n - m)))) (hok : s_okk (F 4) m (K / 9 ^ (n - m)) = true) (hf : ∀ a, a ≠ 163 → a ≠ 164 → a ≠ 165 → μ2 a = μ a), m + n12 = n → x_T sc (d + 4) mX12_endOf 12 [.ref 152, .int (nI n), .int (nI K), .int (nI (9 ^ (n - m))), .int (nI m), v5] [] μ2 w2 (fun r μ' _ => r = some (.int (s_en F n n K)) ∧ ∀ a, a ≠ 163 → a ≠ 164 → a ≠ 165 → μ' a = μ a) := by
    intro n12
    induction n12 with
    | zero =>
      intro m μ2 w2 v5 hR hok hf hmn
      obtain rfl : n = m := by omega
      have h152 : μ2 152 = μ 152 := hf 152 (by decide) (by decide) (by decide)
      refine xt_iload _ dX12_endOf_12 rfl ?_
      refine xt_iload_n _ dX12_endOf_14 rfl ?_
      refine xt_icmp_ge 81 dX12_endOf_15 (by decide) (fun _ => ?_) (fun q => absurd (Int32.le_refl _) q)
      refine xt_aload_n _ dX12_endOf_81 rfl ?_
      have hS2 : m_S μ2 f (s_gs F n (K / 9 ^ (n - n))) := by
        refine ⟨⟨hf2, ?_⟩, hR.1, hR.2, fun i hi hj => ?_⟩
        · rw [h152, s_gs_o (by omega), s_gs_o (by omega), s_gs_o (by omega), s_gs_o (by omega), s_gs_o (by omega), s_gs_o (by omega)]; exact hsc
        · rw [s_gs_o (by omega), hf 158 (by decide) (by decide) (by decide)]; exact hF i hi
      refine xt_cV _ dX12_endOf_82 klX12_322 (tX12_offenders sc _ μ2 _ f (s_gs F n (K / 9 ^ (n - n))) hS2 (s_gs_W hW _ _) 0 (fun _ => false) s_strM0 0 0 (by decide) (by decide) (by rw [h152]; exact h0.1) (by rw [h152]; exact h0.2.1) (by rw [h152]; exact h0.2.2)) sh152 rfl rfl (Nat.le_of_ble_eq_true rfl) ?_
      rw [s_any_offs]
      refine xt_cS _ dX12_endOf_85 klX12_412 (tX12_ones sc _ μ2 _ _ (s_offs_lt (s_gs_W hW _ _) _)) rfl rfl (Nat.le_of_ble_eq_true rfl) ?_
      have hfin : s_en F n n K = nI (s_cnt (fun i => (s_offs (s_gs F n (K / 9 ^ (n - n))) (fun _ => false)).testBit i) 8) := by
        rw [Nat.sub_self, Nat.pow_zero, Nat.div_one] at hok ⊢
        rw [s_en, if_pos hok, Nat.sub_self]; rfl
      exact xt_iret .int dX12_endOf_88 rfl (by first | rfl | assumption) ⟨by rw [hfin], hf⟩
    | succ n12 ih12 =>
      intro m μ2 w2 v5 hR hok hf hmn
      have hlt : m < n := by omega
      have h152 : μ2 152 = μ 152 := hf 152 (by decide) (by decide) (by decide)
      have hgo : μ2 152 24 = nI (F 4) := by rw [h152]; exact hsc.2.2.1
      have hm4 : n - m ≤ 4 := by omega
      obtain ⟨h9a, h9b⟩ := s_99 hm4
      obtain ⟨h9c, h9d⟩ := s_99 (show n - (m + 1) ≤ 4 by omega)
      have hpw : 9 ^ (n - m) = 9 ^ (n - (m + 1)) * 9 := by rw [← Nat.pow_succ]; congr 1; omega
      have hq : (K / 9 ^ (n - (m + 1))) / 9 = K / 9 ^ (n - m) := by rw [Nat.div_div_eq_div_mul, hpw]
      have hd1 : nI (9 ^ (n - m)) / (9 : Int32) = nI (9 ^ (n - (m + 1))) := (pk_div (d := 9) (by omega) (by decide) (by decide)).trans (by rw [hpw, Nat.mul_div_cancel _ (by decide)])
      have hd2 : nI K / nI (9 ^ (n - (m + 1))) = nI (K / 9 ^ (n - (m + 1))) := pk_div (by omega) (by omega) (by omega)
      have hql : (K / 9 ^ (n - (m + 1))) ≤ K := Nat.div_le_self _ _
      have hd3 : nI (K / 9 ^ (n - (m + 1))) - nI (K / 9 ^ (n - (m + 1))) / (9 : Int32) * 9 = nI ((K / 9 ^ (n - (m + 1))) % 9) := pk_rem (d := 9) (by omega) (by decide) (by decide)
      have hd4 : nI m - nI m / (2 : Int32) * 2 = nI (m % 2) := pk_rem (d := 2) (by omega) (by decide) (by decide)
      refine xt_iload _ dX12_endOf_12 rfl ?_
      refine xt_iload_n _ dX12_endOf_14 rfl ?_
      refine xt_icmp_ge 81 dX12_endOf_15 (by decide) (fun q => absurd q (nI_ge hlt (by omega))) (fun _ => ?_)
      refine xt_iload_n _ dX12_endOf_18 rfl ?_
      refine xt_bipush (9) dX12_endOf_19 (by decide) ?_
      refine xt_idiv dX12_endOf_21 (by decide) ?_
      rw [hd1]
      refine xt_istore_n dX12_endOf_22 (by decide) rfl ?_
      change x_T _ _ _ _ [_, _, _, _, _, _] _ _ _ _
      refine xt_iload_n _ dX12_endOf_23 rfl ?_
      refine xt_iload_n _ dX12_endOf_24 rfl ?_
      refine xt_idiv dX12_endOf_25 (by exact fun z => absurd ((nI_eq (b := 0) (by omega) (by decide)).mp z) (by omega)) ?_
      rw [hd2]
      refine xt_bipush (9) dX12_endOf_26 (by decide) ?_
      refine xt_irem dX12_endOf_28 (by decide) ?_
      rw [hd3]
      refine xt_istore dX12_endOf_29 (by decide) rfl ?_
      change x_T _ _ _ _ [_, _, _, _, _, _] _ _ _ _
      refine xt_iload _ dX12_endOf_31 rfl ?_
      refine xt_bipush (8) dX12_endOf_33 (by decide) ?_
      refine xt_icmp_ge 50 dX12_endOf_35 (by decide) (fun t35 => ?_) (fun f35 => ?_)
      · have n35 : 8 ≤ (K / 9 ^ (n - (m + 1))) % 9 := (nI_leI (a := 8) (b := (K / 9 ^ (n - (m + 1))) % 9) (by omega) (by omega)).mp t35
        refine xt_iload _ dX12_endOf_50 rfl ?_
        refine xt_bipush (8) dX12_endOf_52 (by decide) ?_
        refine xt_icmp_ge 75 dX12_endOf_54 (by decide) (fun t54 => ?_) (fun f54 => ?_)
        · have n54 : 8 ≤ (K / 9 ^ (n - (m + 1))) % 9 := (nI_leI (a := 8) (b := (K / 9 ^ (n - (m + 1))) % 9) (by omega) (by omega)).mp t54
          refine xt_inc _ (1) dX12_endOf_75 rfl (by decide) (by decide) rfl ?_
          change x_T _ _ _ _ [_, _, _, _, _, _] _ _ _ _
          refine xt_goto 12 dX12_endOf_78 (by decide) ?_
          have eg : s_gs F (m + 1) (K / 9 ^ (n - (m + 1))) = s_nxt (s_gs F m (K / 9 ^ (n - m))) (s_sk m) ((K / 9 ^ (n - (m + 1))) % 9) := by rw [← hq]; rfl
          have eo : s_okk (F 4) (m + 1) (K / 9 ^ (n - (m + 1))) = true := by
            show (s_okk (F 4) m ((K / 9 ^ (n - (m + 1))) / 9) && s_may (F 4) ((K / 9 ^ (n - (m + 1))) % 9)) = true
            rw [hq, hok, Bool.true_and]; exact decide_eq_true (by omega)
          refine x_T.ls ?_ (ih12 (m + 1) μ2 w2 (.int (nI ((K / 9 ^ (n - (m + 1))) % 9))) ?_ eo hf (by omega))
          · rw [nI_succ m]
          · rw [eg, s_nxt, if_neg (by omega)]; exact hR
        · have n54 : ¬ (8 ≤ (K / 9 ^ (n - (m + 1))) % 9) := fun z => f54 ((nI_leI (a := 8) (b := (K / 9 ^ (n - (m + 1))) % 9) (by omega) (by omega)).mpr z)
          exact absurd n35 (by omega)
      · have n35 : ¬ (8 ≤ (K / 9 ^ (n - (m + 1))) % 9) := fun z => f35 ((nI_leI (a := 8) (b := (K / 9 ^ (n - (m + 1))) % 9) (by omega) (by omega)).mpr z)
        refine xt_iload _ dX12_endOf_38 rfl ?_
        refine xt_aload_n _ dX12_endOf_40 rfl ?_
        refine xt_geti dX12_endOf_41 kfX12_251 (by first | exact sh152 | rfl | assumption) rfl ?_
        rw [hgo]
        refine xt_icmp_lt 50 dX12_endOf_44 (by decide) (fun t44 => ?_) (fun f44 => ?_)
        · have n44 : (K / 9 ^ (n - (m + 1))) % 9 < F 4 := (nI_ltI (a := (K / 9 ^ (n - (m + 1))) % 9) (b := F 4) (by omega) (by omega)).mp t44
          refine xt_iload _ dX12_endOf_50 rfl ?_
          refine xt_bipush (8) dX12_endOf_52 (by decide) ?_
          refine xt_icmp_ge 75 dX12_endOf_54 (by decide) (fun t54 => ?_) (fun f54 => ?_)
          · have n54 : 8 ≤ (K / 9 ^ (n - (m + 1))) % 9 := (nI_leI (a := 8) (b := (K / 9 ^ (n - (m + 1))) % 9) (by omega) (by omega)).mp t54
            exact absurd n54 (by omega)
          · have n54 : ¬ (8 ≤ (K / 9 ^ (n - (m + 1))) % 9) := fun z => f54 ((nI_leI (a := 8) (b := (K / 9 ^ (n - (m + 1))) % 9) (by omega) (by omega)).mpr z)
            refine xt_aload_n _ dX12_endOf_57 rfl ?_
            refine xt_iload _ dX12_endOf_58 rfl ?_
            refine xt_iload _ dX12_endOf_60 rfl ?_
            refine xt_iconst (2) dX12_endOf_62 (by decide) ?_
            refine xt_irem dX12_endOf_63 (by decide) ?_
            rw [hd4]
            refine xt_if_ne 71 dX12_endOf_64 (by decide) (fun t64 => ?_) (fun f64 => ?_)
            · have n64 : ¬ (m % 2 = 0) := fun z => t64 ((nI_eq (a := m % 2) (b := 0) (by omega) (by omega)).mpr z)
              refine xt_iconst (0) dX12_endOf_71 (by decide) ?_
              have hsk : s_sk m = false := decide_eq_false n64
              refine xt_callV _ dX12_endOf_72 klX12_408 (tX12_turnedF sc _ μ2 w2 (s_gs F m (K / 9 ^ (n - m))) ((K / 9 ^ (n - (m + 1))) % 9) (by omega) hR (by rw [h152]; exact hsc.2.2.2.2.1.trans (by rw [s_gs_o (by omega)])) (by rw [h152]; exact hsc.2.2.2.2.2.1.trans (by rw [s_gs_o (by omega)]))) sh152 rfl rfl (Nat.le_of_ble_eq_true rfl) (fun r3 μ3 w3 q3 => ?_)
              obtain ⟨rfl, hR3, hf3⟩ := q3
              change x_T _ _ _ _ _ _ _ _ _
              refine xt_inc _ (1) dX12_endOf_75 rfl (by decide) (by decide) rfl ?_
              change x_T _ _ _ _ [_, _, _, _, _, _] _ _ _ _
              refine xt_goto 12 dX12_endOf_78 (by decide) ?_
              have eg : s_gs F (m + 1) (K / 9 ^ (n - (m + 1))) = s_nxt (s_gs F m (K / 9 ^ (n - m))) (s_sk m) ((K / 9 ^ (n - (m + 1))) % 9) := by rw [← hq]; rfl
              have eo : s_okk (F 4) (m + 1) (K / 9 ^ (n - (m + 1))) = true := by
                show (s_okk (F 4) m ((K / 9 ^ (n - (m + 1))) / 9) && s_may (F 4) ((K / 9 ^ (n - (m + 1))) % 9)) = true
                rw [hq, hok, Bool.true_and]; exact decide_eq_true (by omega)
              refine x_T.ls ?_ (ih12 (m + 1) μ3 w3 (.int (nI ((K / 9 ^ (n - (m + 1))) % 9))) ?_ eo (fun a h1 h2 h3 => (hf3 a h1 h2 h3).trans (hf a h1 h2 h3)) (by omega))
              · rw [nI_succ m]
              · rw [eg, s_nxt, if_pos (by omega), hsk]; exact hR3
            · have n64 : m % 2 = 0 := (nI_eq (a := m % 2) (b := 0) (by omega) (by omega)).mp f64
              refine xt_iconst (1) dX12_endOf_67 (by decide) ?_
              refine xt_goto 72 dX12_endOf_68 (by decide) ?_
              have hsk : s_sk m = true := decide_eq_true n64
              refine xt_callV _ dX12_endOf_72 klX12_408 (tX12_turnedT sc _ μ2 w2 (s_gs F m (K / 9 ^ (n - m))) ((K / 9 ^ (n - (m + 1))) % 9) (by omega) hR (by rw [h152]; exact hsc.2.2.2.2.1.trans (by rw [s_gs_o (by omega)])) (by rw [h152]; exact hsc.2.2.2.2.2.1.trans (by rw [s_gs_o (by omega)]))) sh152 rfl rfl (Nat.le_of_ble_eq_true rfl) (fun r3 μ3 w3 q3 => ?_)
              obtain ⟨rfl, hR3, hf3⟩ := q3
              change x_T _ _ _ _ _ _ _ _ _
              refine xt_inc _ (1) dX12_endOf_75 rfl (by decide) (by decide) rfl ?_
              change x_T _ _ _ _ [_, _, _, _, _, _] _ _ _ _
              refine xt_goto 12 dX12_endOf_78 (by decide) ?_
              have eg : s_gs F (m + 1) (K / 9 ^ (n - (m + 1))) = s_nxt (s_gs F m (K / 9 ^ (n - m))) (s_sk m) ((K / 9 ^ (n - (m + 1))) % 9) := by rw [← hq]; rfl
              have eo : s_okk (F 4) (m + 1) (K / 9 ^ (n - (m + 1))) = true := by
                show (s_okk (F 4) m ((K / 9 ^ (n - (m + 1))) / 9) && s_may (F 4) ((K / 9 ^ (n - (m + 1))) % 9)) = true
                rw [hq, hok, Bool.true_and]; exact decide_eq_true (by omega)
              refine x_T.ls ?_ (ih12 (m + 1) μ3 w3 (.int (nI ((K / 9 ^ (n - (m + 1))) % 9))) ?_ eo (fun a h1 h2 h3 => (hf3 a h1 h2 h3).trans (hf a h1 h2 h3)) (by omega))
              · rw [nI_succ m]
              · rw [eg, s_nxt, if_pos (by omega), hsk]; exact hR3
        · have n44 : ¬ ((K / 9 ^ (n - (m + 1))) % 9 < F 4) := fun z => f44 ((nI_ltI (a := (K / 9 ^ (n - (m + 1))) % 9) (b := F 4) (by omega) (by omega)).mpr z)
          refine xt_bipush (-99) dX12_endOf_47 (by decide) ?_
          have hno : ¬ s_okk (F 4) n K = true := fun z => by
            have z1 := s_ok_pre (n - (m + 1)) (m + 1) K (by rw [show m + 1 + (n - (m + 1)) = n by omega]; exact z)
            have z1 : (s_okk (F 4) m ((K / 9 ^ (n - (m + 1))) / 9) && s_may (F 4) ((K / 9 ^ (n - (m + 1))) % 9)) = true := z1
            rw [Bool.and_eq_true] at z1
            have z2 := of_decide_eq_true z1.2
            omega
          exact xt_iret .int dX12_endOf_49 rfl (by first | rfl | assumption) ⟨by rw [s_en, if_neg hno], hf⟩
  exact L12 n 0 μ1 w1 (.retAddr 0) (show m_R μ1 (s_gs F 0 _) from hR1) rfl hf1 (by omega)
set_option maxHeartbeats 8000000 in
theorem tX12_byTurns25 (f : Nat) (F : Nat → Nat) (hf2 : f < 2) (hW : f_W F) (hsc : m_sc μ f F ∧ μ 152 34 = 0 ∧ μ 152 35 = 0 ∧ μ 152 36 = 0) (hF : ∀ i, i < 125 → μ 158 (125 * f + i) = nI (F i)) (n : Nat) (hn : n ≤ 4) (u fv : Int32) : x_T sc (d + 5) mX12_byTurns 25 [.ref 152, .int fv, .int (nI n), .int u, .retAddr 0, .retAddr 0, .retAddr 0] [] μ w (fun r μ' _ => r = some (.int (if u = 0 then nI (s_la n true (s_bits (s_off F (fun _ => false) 0) (F 4)) (s_bits (fun g => decide (0 < s_e F g)) (F 4))) else (if n = 0 then -1 else if s_fz n (s_bits (s_off F (fun _ => false) 0) (F 4)) (s_bits (fun g => decide (0 < s_e F g)) (F 4)) (F 4) = 0 then 8 else nI (s_fz n (s_bits (s_off F (fun _ => false) 0) (F 4)) (s_bits (fun g => decide (0 < s_e F g)) (F 4)) (F 4) - 1)))) ∧ ∀ a, a ≠ 152 → a ≠ 163 → a ≠ 164 → a ≠ 165 → a ≠ 169 → μ' a = μ a) := by
  have h8 : F 4 ≤ 8 := hW.1.2.2.2.2.1
  obtain ⟨h9A, h9B⟩ := s_99 hn
  refine xt_iload_n _ dX12_byTurns_25 rfl ?_
  refine xt_cS _ dX12_byTurns_26 klX12_405 (tX12_nines sc _ μ w n hn) rfl rfl (Nat.le_of_ble_eq_true rfl) ?_
  refine xt_istore dX12_byTurns_29 (by decide) rfl ?_
  change x_T _ _ _ _ [_, _, _, _, _, _, _] _ _ _ _
  refine xt_iconst (0) dX12_byTurns_31 (by decide) ?_
  refine xt_istore dX12_byTurns_32 (by decide) rfl ?_
  change x_T _ _ _ _ [_, _, _, _, _, _, _] _ _ _ _
  have L34 : ∀ (n34 k : Nat) (μ2 : x_Me) (w2 : Int64) (hE : ∀ q, q < k → μ2 169 q = s_en F n n q) (h2s : m_sc μ2 f F ∧ μ2 152 34 = 0 ∧ μ2 152 35 = 0 ∧ μ2 152 36 = 0) (hfr2 : ∀ a, a ≠ 152 → a ≠ 163 → a ≠ 164 → a ≠ 165 → a ≠ 169 → μ2 a = μ a), k + n34 = 9 ^ n → x_T sc (d + 5) mX12_byTurns 34 [.ref 152, .int fv, .int (nI n), .int u, .int (nI (9 ^ n)), .int (nI k), .retAddr 0] [] μ2 w2 (fun r μ' _ => r = some (.int (if u = 0 then nI (s_la n true (s_bits (s_off F (fun _ => false) 0) (F 4)) (s_bits (fun g => decide (0 < s_e F g)) (F 4))) else (if n = 0 then -1 else if s_fz n (s_bits (s_off F (fun _ => false) 0) (F 4)) (s_bits (fun g => decide (0 < s_e F g)) (F 4)) (F 4) = 0 then 8 else nI (s_fz n (s_bits (s_off F (fun _ => false) 0) (F 4)) (s_bits (fun g => decide (0 < s_e F g)) (F 4)) (F 4) - 1)))) ∧ ∀ a, a ≠ 152 → a ≠ 163 → a ≠ 164 → a ≠ 165 → a ≠ 169 → μ' a = μ a) := by
    intro n34
    induction n34 with
    | zero =>
      intro k μ2 w2 hE h2s hfr2 hmn
      obtain rfl : 9 ^ n = k := by omega
      refine xt_iload _ dX12_byTurns_34 rfl ?_
      refine xt_iload _ dX12_byTurns_36 rfl ?_
      refine xt_icmp_ge 61 dX12_byTurns_38 (by decide) (fun _ => ?_) (fun q => absurd (Int32.le_refl _) q)
      refine xt_aload_n _ dX12_byTurns_61 rfl ?_
      refine xt_iconst (-1) dX12_byTurns_62 (by decide) ?_
      refine xt_puti dX12_byTurns_63 kpX12_415 (by first | exact sh152 | rfl | assumption) rfl (by first | rfl | assumption) (by first | rfl | assumption) ?_
      refine xt_iload_n _ dX12_byTurns_66 rfl ?_
      refine xt_iconst (1) dX12_byTurns_67 (by decide) ?_
      refine xt_isub dX12_byTurns_68 ?_
      refine xt_istore dX12_byTurns_69 (by decide) rfl ?_
      change x_T _ _ _ _ [_, _, _, _, _, _, _] _ _ _ _
      have L71 : ∀ (n71 i : Nat) (μ2 : x_Me) (w2 : Int64) (v6 : Value) (hE : ∀ q, q < 9 ^ (n - i) → μ2 169 q = s_en F n (n - i) q) (h46 : i = n → μ2 152 46 = (if n = 0 then -1 else if s_fz n (s_bits (s_off F (fun _ => false) 0) (F 4)) (s_bits (fun g => decide (0 < s_e F g)) (F 4)) (F 4) = 0 then 8 else nI (s_fz n (s_bits (s_off F (fun _ => false) 0) (F 4)) (s_bits (fun g => decide (0 < s_e F g)) (F 4)) (F 4) - 1))) (h2s : m_sc μ2 f F ∧ μ2 152 34 = 0 ∧ μ2 152 35 = 0 ∧ μ2 152 36 = 0) (hfr2 : ∀ a, a ≠ 152 → a ≠ 163 → a ≠ 164 → a ≠ 165 → a ≠ 169 → μ2 a = μ a), i + n71 = n → x_T sc (d + 5) mX12_byTurns 71 [.ref 152, .int fv, .int (nI n), .int u, .int (nI (9 ^ (n - i))), .int (eI (n - i)), v6] [] μ2 w2 (fun r μ' _ => r = some (.int (if u = 0 then nI (s_la n true (s_bits (s_off F (fun _ => false) 0) (F 4)) (s_bits (fun g => decide (0 < s_e F g)) (F 4))) else (if n = 0 then -1 else if s_fz n (s_bits (s_off F (fun _ => false) 0) (F 4)) (s_bits (fun g => decide (0 < s_e F g)) (F 4)) (F 4) = 0 then 8 else nI (s_fz n (s_bits (s_off F (fun _ => false) 0) (F 4)) (s_bits (fun g => decide (0 < s_e F g)) (F 4)) (F 4) - 1)))) ∧ ∀ a, a ≠ 152 → a ≠ 163 → a ≠ 164 → a ≠ 165 → a ≠ 169 → μ' a = μ a) := by
        intro n71
        induction n71 with
        | zero =>
          intro i μ2 w2 v6 hE h46 h2s hfr2 hmn
          obtain rfl : n = i := by omega
          have hE0 : μ2 169 0 = nI (s_la n true (s_bits (s_off F (fun _ => false) 0) (F 4)) (s_bits (fun g => decide (0 < s_e F g)) (F 4))) := by
            rw [Nat.sub_self] at hE
            exact hE 0 (by decide)
          refine xt_iload _ dX12_byTurns_71 rfl ?_
          refine xt_if_lt 134 dX12_byTurns_73 (by decide) (fun _ => ?_) (fun q => absurd (by rw [Nat.sub_self]; decide) q)
          refine xt_iload_n _ dX12_byTurns_134 rfl ?_
          refine xt_if_eq 145 dX12_byTurns_135 (by decide) (fun t135 => ?_) (fun f135 => ?_)
          · refine xt_aload_n _ dX12_byTurns_145 rfl ?_
            refine xt_getr _ dX12_byTurns_146 kfX12_59 (by first | exact sh152 | rfl | assumption) rfl ?_
            refine xt_iconst (0) dX12_byTurns_149 (by decide) ?_
            refine xt_ald dX12_byTurns_150 (by first | exact sh152 | rfl | assumption) (by unfold vp_in; decide) ?_
            exact xt_iret .int dX12_byTurns_151 rfl (by first | rfl | assumption) ⟨by rw [if_pos t135, show (0 : Int32).toNatClampNeg = 0 from rfl, hE0], hfr2⟩
          · refine xt_aload_n _ dX12_byTurns_138 rfl ?_
            refine xt_geti dX12_byTurns_139 kfX12_415 (by first | exact sh152 | rfl | assumption) rfl ?_
            refine xt_goto 151 dX12_byTurns_142 (by decide) ?_
            exact xt_iret .int dX12_byTurns_151 rfl (by first | rfl | assumption) ⟨by rw [if_neg f135, h46 rfl], hfr2⟩
        | succ n71 ih71 =>
          intro i μ2 w2 v6 hE h46 h2s hfr2 hmn
          have hlt_i : i < n := by omega
          have hei : eI (n - i) = nI (n - (i + 1)) := by rw [eI_pr (by omega)]; congr 1
          rw [hei]
          obtain ⟨h9a, h9b⟩ := s_99 (show n - i ≤ 4 by omega)
          have hpw : 9 ^ (n - i) = 9 ^ (n - (i + 1)) * 9 := by rw [← Nat.pow_succ]; congr 1; omega
          have hd1 : nI (9 ^ (n - i)) / (9 : Int32) = nI (9 ^ (n - (i + 1))) := (pk_div (d := 9) (by omega) (by decide) (by decide)).trans (by rw [hpw, Nat.mul_div_cancel _ (by decide)])
          obtain ⟨h9c, h9d⟩ := s_99 (show (n - (i + 1)) ≤ 4 by omega)
          refine xt_iload _ dX12_byTurns_71 rfl ?_
          refine xt_if_lt 134 dX12_byTurns_73 (by decide) (fun q => absurd q (nI_pos (by omega))) (fun _ => ?_)
          refine xt_iload _ dX12_byTurns_76 rfl ?_
          refine xt_bipush (9) dX12_byTurns_78 (by decide) ?_
          refine xt_idiv dX12_byTurns_80 (by decide) ?_
          rw [hd1]
          refine xt_istore dX12_byTurns_81 (by decide) rfl ?_
          change x_T _ _ _ _ [_, _, _, _, _, _, _] _ _ _ _
          refine xt_iconst (0) dX12_byTurns_83 (by decide) ?_
          refine xt_istore dX12_byTurns_84 (by decide) rfl ?_
          change x_T _ _ _ _ [_, _, _, _, _, _, _] _ _ _ _
          have L86 : ∀ (n86 k : Nat) (μ2 : x_Me) (w2 : Int64) (hE1 : ∀ q, q < k → μ2 169 q = s_en F n (n - (i + 1)) q) (hE2 : ∀ q, 9 * k ≤ q → q < 9 ^ ((n - (i + 1)) + 1) → μ2 169 q = s_en F n ((n - (i + 1)) + 1) q) (h46 : i + 1 = n → 0 < k → μ2 152 46 = (if n = 0 then -1 else if s_fz n (s_bits (s_off F (fun _ => false) 0) (F 4)) (s_bits (fun g => decide (0 < s_e F g)) (F 4)) (F 4) = 0 then 8 else nI (s_fz n (s_bits (s_off F (fun _ => false) 0) (F 4)) (s_bits (fun g => decide (0 < s_e F g)) (F 4)) (F 4) - 1))) (h2s : m_sc μ2 f F ∧ μ2 152 34 = 0 ∧ μ2 152 35 = 0 ∧ μ2 152 36 = 0) (hfr2 : ∀ a, a ≠ 152 → a ≠ 163 → a ≠ 164 → a ≠ 165 → a ≠ 169 → μ2 a = μ a), k + n86 = 9 ^ (n - (i + 1)) → x_T sc (d + 5) mX12_byTurns 86 [.ref 152, .int fv, .int (nI n), .int u, .int (nI (9 ^ (n - (i + 1)))), .int (nI (n - (i + 1))), .int (nI k)] [] μ2 w2 (fun r μ' _ => r = some (.int (if u = 0 then nI (s_la n true (s_bits (s_off F (fun _ => false) 0) (F 4)) (s_bits (fun g => decide (0 < s_e F g)) (F 4))) else (if n = 0 then -1 else if s_fz n (s_bits (s_off F (fun _ => false) 0) (F 4)) (s_bits (fun g => decide (0 < s_e F g)) (F 4)) (F 4) = 0 then 8 else nI (s_fz n (s_bits (s_off F (fun _ => false) 0) (F 4)) (s_bits (fun g => decide (0 < s_e F g)) (F 4)) (F 4) - 1)))) ∧ ∀ a, a ≠ 152 → a ≠ 163 → a ≠ 164 → a ≠ 165 → a ≠ 169 → μ' a = μ a) := by
            intro n86
            induction n86 with
            | zero =>
              intro k μ2 w2 hE1 hE2 h46 h2s hfr2 hmn
              obtain rfl : 9 ^ (n - (i + 1)) = k := by omega
              refine xt_iload _ dX12_byTurns_86 rfl ?_
              refine xt_iload _ dX12_byTurns_88 rfl ?_
              refine xt_icmp_ge 128 dX12_byTurns_90 (by decide) (fun _ => ?_) (fun q => absurd (Int32.le_refl _) q)
              refine xt_inc _ (-1) dX12_byTurns_128 rfl (by decide) (by decide) rfl ?_
              change x_T _ _ _ _ [_, _, _, _, _, _, _] _ _ _ _
              refine xt_goto 71 dX12_byTurns_131 (by decide) ?_
              refine x_T.ls ?_ (ih71 (i + 1) μ2 w2 (.int (nI (9 ^ (n - (i + 1))))) hE1 (fun h => h46 h (by omega)) h2s hfr2 (by omega))
              rw [show eI (n - (i + 1)) = nI (n - (i + 1)) + (-1) from by rw [eI, Int32.sub_eq_add_neg]; rfl]
            | succ n86 ih86 =>
              intro k μ2 w2 hE1 hE2 h46 h2s hfr2 hmn
              have hlt_k : k < 9 ^ (n - (i + 1)) := by omega
              obtain ⟨h9a, h9b⟩ := s_99 (show (n - (i + 1)) + 1 ≤ 4 by omega)
              have hpw : 9 ^ ((n - (i + 1)) + 1) = 9 ^ (n - (i + 1)) * 9 := Nat.pow_succ _ _
              have hk9 : 9 * k + 8 < 6561 := by omega
              have hd4 : nI (n - (i + 1)) - nI (n - (i + 1)) / (2 : Int32) * 2 = nI ((n - (i + 1)) % 2) := pk_rem (d := 2) (by omega) (by decide) (by decide)
              refine xt_iload _ dX12_byTurns_86 rfl ?_
              refine xt_iload _ dX12_byTurns_88 rfl ?_
              refine xt_icmp_ge 128 dX12_byTurns_90 (by decide) (fun q => absurd q (nI_ge hlt_k (by omega))) (fun _ => ?_)
              refine xt_aload_n _ dX12_byTurns_93 rfl ?_
              refine xt_getr _ dX12_byTurns_94 kfX12_59 (by first | exact sh152 | rfl | assumption) rfl ?_
              refine xt_iload _ dX12_byTurns_97 rfl ?_
              refine xt_aload_n _ dX12_byTurns_99 rfl ?_
              refine xt_bipush (9) dX12_byTurns_100 (by decide) ?_
              refine xt_iload _ dX12_byTurns_102 rfl ?_
              refine xt_imul dX12_byTurns_104 ?_
              refine xt_iload _ dX12_byTurns_105 rfl ?_
              refine xt_iconst (2) dX12_byTurns_107 (by decide) ?_
              refine xt_irem dX12_byTurns_108 (by decide) ?_
              refine xt_iconst (1) dX12_byTurns_109 (by decide) ?_
              rw [hd4]
              refine xt_icmp_ne 117 dX12_byTurns_110 (by decide) (fun t110 => ?_) (fun f110 => ?_)
              · have n110 : ¬ ((n - (i + 1)) % 2 = 1) := fun z => t110 ((nI_eq (a := (n - (i + 1)) % 2) (b := 1) (by omega) (by omega)).mpr z)
                refine xt_iconst (0) dX12_byTurns_117 (by decide) ?_
                have hsk : (!s_sk (n - (i + 1))) = false := by
                  rw [show s_sk (n - (i + 1)) = true from decide_eq_true (by omega)]; rfl
                rw [show (.int 0 : Value) = .int (if (!s_sk (n - (i + 1))) then 1 else 0) by rw [hsk]; rfl]
                have h9k : (9 : Int32) * nI k = nI (9 * k) := by rw [show (9 : Int32) = nI 9 from rfl, pk_mul]
                rw [h9k]
                refine xt_callV _ dX12_byTurns_118 klX12_421 (tX12_fold sc _ μ2 w2 (!s_sk (n - (i + 1))) (s_ev F n (n - (i + 1)) k) (s_eo F (n - (i + 1)) k) (9 * k) (by omega) (fun j => s_vl_le _ _ _) (fun j hj => by rw [hE2 _ (by omega) (by omega)]; rfl)) sh152 rfl rfl (Nat.le_of_ble_eq_true rfl) (fun r3 μ3 w3 q3 => ?_)
                obtain ⟨rfl, h46, h152, hf3⟩ := q3
                change x_T _ _ _ _ _ (.int _ :: _) _ _ _
                rw [s_en_fold hW (show (n - (i + 1)) < n by omega) k]
                refine xt_ast dX12_byTurns_121 (by first | exact sh152 | rfl | assumption) (by exact vp_in_nI (by omega) (by decide)) ?_
                refine xt_inc _ (1) dX12_byTurns_122 rfl (by decide) (by decide) rfl ?_
                change x_T _ _ _ _ [_, _, _, _, _, _, _] _ _ _ _
                refine xt_goto 86 dX12_byTurns_125 (by decide) ?_
                refine x_T.ls (by rw [nI_succ k]) (ih86 (k + 1) _ w3 (fun q hq => ?_) (fun q hq h2 => ?_) (fun hi0 hk0 => ?_) ?_ ?_ (by omega))
                · rw [x_u_eq, nI_clamp (by omega)]
                  by_cases he : q = k
                  · rw [he, pk_us]
                  · rw [pk_un he, hf3 169 (by decide)]; exact hE1 q (by omega)
                · rw [x_u_eq, nI_clamp (by omega), pk_un (by omega), hf3 169 (by decide)]; exact hE2 q (by omega) h2
                · rw [x_u_ne (by decide), h46]
                  have h1 : 9 ^ (n - (i + 1)) = 1 := (congrArg (fun z => 9 ^ z) (show (n - (i + 1)) = 0 by omega)).trans rfl
                  have hk00 : k = 0 := by omega
                  rw [hk00, show (n - (i + 1)) = 0 by omega]
                  exact s_en_root hW (by omega)
                · have h152b : ∀ j, j ≠ 46 → x_u μ3 169 (upd (μ3 169) (nI k).toNatClampNeg (s_en F n (n - (i + 1)) k)) 152 j = μ2 152 j := fun j hj => by rw [x_u_ne (by decide)]; exact h152 j hj
                  exact ⟨⟨by rw [h152b 22 (by decide)]; exact h2s.1.1, by rw [h152b 23 (by decide)]; exact h2s.1.2.1, by rw [h152b 24 (by decide)]; exact h2s.1.2.2.1, by rw [h152b 25 (by decide)]; exact h2s.1.2.2.2.1, by rw [h152b 26 (by decide)]; exact h2s.1.2.2.2.2.1, by rw [h152b 27 (by decide)]; exact h2s.1.2.2.2.2.2.1, by rw [h152b 28 (by decide)]; exact h2s.1.2.2.2.2.2.2⟩, by rw [h152b 34 (by decide)]; exact h2s.2.1, by rw [h152b 35 (by decide)]; exact h2s.2.2.1, by rw [h152b 36 (by decide)]; exact h2s.2.2.2⟩
                · intro b h1 h2 h3 h4 h5; rw [x_u_ne h5, hf3 b h1]; exact hfr2 b h1 h2 h3 h4 h5
              · have n110 : (n - (i + 1)) % 2 = 1 := (nI_eq (a := (n - (i + 1)) % 2) (b := 1) (by omega) (by omega)).mp f110
                refine xt_iconst (1) dX12_byTurns_113 (by decide) ?_
                refine xt_goto 118 dX12_byTurns_114 (by decide) ?_
                have hsk : (!s_sk (n - (i + 1))) = true := by
                  rw [show s_sk (n - (i + 1)) = false from decide_eq_false (by omega)]; rfl
                rw [show (.int 1 : Value) = .int (if (!s_sk (n - (i + 1))) then 1 else 0) by rw [hsk]; rfl]
                have h9k : (9 : Int32) * nI k = nI (9 * k) := by rw [show (9 : Int32) = nI 9 from rfl, pk_mul]
                rw [h9k]
                refine xt_callV _ dX12_byTurns_118 klX12_421 (tX12_fold sc _ μ2 w2 (!s_sk (n - (i + 1))) (s_ev F n (n - (i + 1)) k) (s_eo F (n - (i + 1)) k) (9 * k) (by omega) (fun j => s_vl_le _ _ _) (fun j hj => by rw [hE2 _ (by omega) (by omega)]; rfl)) sh152 rfl rfl (Nat.le_of_ble_eq_true rfl) (fun r3 μ3 w3 q3 => ?_)
                obtain ⟨rfl, h46, h152, hf3⟩ := q3
                change x_T _ _ _ _ _ (.int _ :: _) _ _ _
                rw [s_en_fold hW (show (n - (i + 1)) < n by omega) k]
                refine xt_ast dX12_byTurns_121 (by first | exact sh152 | rfl | assumption) (by exact vp_in_nI (by omega) (by decide)) ?_
                refine xt_inc _ (1) dX12_byTurns_122 rfl (by decide) (by decide) rfl ?_
                change x_T _ _ _ _ [_, _, _, _, _, _, _] _ _ _ _
                refine xt_goto 86 dX12_byTurns_125 (by decide) ?_
                refine x_T.ls (by rw [nI_succ k]) (ih86 (k + 1) _ w3 (fun q hq => ?_) (fun q hq h2 => ?_) (fun hi0 hk0 => ?_) ?_ ?_ (by omega))
                · rw [x_u_eq, nI_clamp (by omega)]
                  by_cases he : q = k
                  · rw [he, pk_us]
                  · rw [pk_un he, hf3 169 (by decide)]; exact hE1 q (by omega)
                · rw [x_u_eq, nI_clamp (by omega), pk_un (by omega), hf3 169 (by decide)]; exact hE2 q (by omega) h2
                · rw [x_u_ne (by decide), h46]
                  have h1 : 9 ^ (n - (i + 1)) = 1 := (congrArg (fun z => 9 ^ z) (show (n - (i + 1)) = 0 by omega)).trans rfl
                  have hk00 : k = 0 := by omega
                  rw [hk00, show (n - (i + 1)) = 0 by omega]
                  exact s_en_root hW (by omega)
                · have h152b : ∀ j, j ≠ 46 → x_u μ3 169 (upd (μ3 169) (nI k).toNatClampNeg (s_en F n (n - (i + 1)) k)) 152 j = μ2 152 j := fun j hj => by rw [x_u_ne (by decide)]; exact h152 j hj
                  exact ⟨⟨by rw [h152b 22 (by decide)]; exact h2s.1.1, by rw [h152b 23 (by decide)]; exact h2s.1.2.1, by rw [h152b 24 (by decide)]; exact h2s.1.2.2.1, by rw [h152b 25 (by decide)]; exact h2s.1.2.2.2.1, by rw [h152b 26 (by decide)]; exact h2s.1.2.2.2.2.1, by rw [h152b 27 (by decide)]; exact h2s.1.2.2.2.2.2.1, by rw [h152b 28 (by decide)]; exact h2s.1.2.2.2.2.2.2⟩, by rw [h152b 34 (by decide)]; exact h2s.2.1, by rw [h152b 35 (by decide)]; exact h2s.2.2.1, by rw [h152b 36 (by decide)]; exact h2s.2.2.2⟩
                · intro b h1 h2 h3 h4 h5; rw [x_u_ne h5, hf3 b h1]; exact hfr2 b h1 h2 h3 h4 h5
          exact L86 (9 ^ (n - (i + 1))) 0 μ2 w2 (fun q h => absurd h (by omega)) (fun q _ h => by rw [show (n - (i + 1)) + 1 = n - i by omega] at h ⊢; exact hE q h) (fun _ h => absurd h (by omega)) h2s hfr2 (by omega)
      have h152b : ∀ j, j ≠ 46 → x_u μ2 152 (upd (μ2 152) 46 (-1)) 152 j = μ2 152 j := fun j hj => by rw [x_u_eq, pk_un hj]
      have h2b : m_sc (x_u μ2 152 (upd (μ2 152) 46 (-1))) f F ∧ x_u μ2 152 (upd (μ2 152) 46 (-1)) 152 34 = 0 ∧ x_u μ2 152 (upd (μ2 152) 46 (-1)) 152 35 = 0 ∧ x_u μ2 152 (upd (μ2 152) 46 (-1)) 152 36 = 0 := ⟨⟨by rw [h152b 22 (by decide)]; exact h2s.1.1, by rw [h152b 23 (by decide)]; exact h2s.1.2.1, by rw [h152b 24 (by decide)]; exact h2s.1.2.2.1, by rw [h152b 25 (by decide)]; exact h2s.1.2.2.2.1, by rw [h152b 26 (by decide)]; exact h2s.1.2.2.2.2.1, by rw [h152b 27 (by decide)]; exact h2s.1.2.2.2.2.2.1, by rw [h152b 28 (by decide)]; exact h2s.1.2.2.2.2.2.2⟩, by rw [h152b 34 (by decide)]; exact h2s.2.1, by rw [h152b 35 (by decide)]; exact h2s.2.2.1, by rw [h152b 36 (by decide)]; exact h2s.2.2.2⟩
      exact L71 n 0 _ w2 (.retAddr 0) (fun q hq => by rw [x_u_ne (by decide)]; exact hE q hq) (fun h => by rw [x_u_eq, pk_us, if_pos h.symm]) h2b (fun b h1 h2 h3 h4 h5 => by rw [x_u_ne h1]; exact hfr2 b h1 h2 h3 h4 h5) (by omega)
    | succ n34 ih34 =>
      intro k μ2 w2 hE h2s hfr2 hmn
      have hlt_k : k < 9 ^ n := by omega
      refine xt_iload _ dX12_byTurns_34 rfl ?_
      refine xt_iload _ dX12_byTurns_36 rfl ?_
      refine xt_icmp_ge 61 dX12_byTurns_38 (by decide) (fun q => absurd q (nI_ge hlt_k (by omega))) (fun _ => ?_)
      refine xt_aload_n _ dX12_byTurns_41 rfl ?_
      refine xt_getr _ dX12_byTurns_42 kfX12_59 (by first | exact sh152 | rfl | assumption) rfl ?_
      refine xt_iload _ dX12_byTurns_45 rfl ?_
      refine xt_aload_n _ dX12_byTurns_47 rfl ?_
      refine xt_iload_n _ dX12_byTurns_48 rfl ?_
      refine xt_iload _ dX12_byTurns_49 rfl ?_
      refine xt_callV _ dX12_byTurns_51 klX12_418 (tX12_endOf sc _ μ2 w2 f F hf2 hW h2s.1 h2s.2 (fun i hi => by rw [hfr2 158 (by decide) (by decide) (by decide) (by decide) (by decide)]; exact hF i hi) n k hn (by omega)) sh152 rfl rfl (Nat.le_of_ble_eq_true rfl) (fun r3 μ3 w3 q3 => ?_)
      obtain ⟨rfl, hf3⟩ := q3
      change x_T _ _ _ _ _ (.int _ :: _) _ _ _
      refine xt_ast dX12_byTurns_54 (by first | exact sh152 | rfl | assumption) (by exact vp_in_nI (by omega) (by decide)) ?_
      refine xt_inc _ (1) dX12_byTurns_55 rfl (by decide) (by decide) rfl ?_
      change x_T _ _ _ _ [_, _, _, _, _, _, _] _ _ _ _
      refine xt_goto 34 dX12_byTurns_58 (by decide) ?_
      refine x_T.ls (by rw [nI_succ k]) (ih34 (k + 1) _ w3 (fun q hq => ?_) ?_ ?_ (by omega))
      · rw [x_u_eq, nI_clamp (by omega)]
        by_cases he : q = k
        · rw [he, pk_us]
        · rw [pk_un he, hf3 169 (by decide) (by decide) (by decide)]; exact hE q (by omega)
      · rw [m_sc, x_u_ne (by decide), hf3 152 (by decide) (by decide) (by decide)]; exact h2s
      · intro b h1 h2 h3 h4 h5; rw [x_u_ne h5, hf3 b h2 h3 h4]; exact hfr2 b h1 h2 h3 h4 h5
  exact L34 (9 ^ n) 0 μ w (fun q h => absurd h (by omega)) hsc (fun _ _ _ _ _ _ => rfl) (by omega)
end BYTURNS
set_option maxHeartbeats 4000000 in
theorem st_byTurns (sc : Nat × (Nat → Int32)) (a1 a2 u : Int32) : x_stI sc (fun μ _ => x_Inv μ) (fun μ _ => x_Inv μ) mX11_byTurns mX12_byTurns [.int a1, .int a2, .int u] := by
  refine x_stF (-9) ?_ ?_ ?_
  · intro μ w c hc e hk
    refine x_K.of (by decide) (Nat.le_of_ble_eq_true rfl) ?_
    show x_T sc 29 mX11_byTurns 0 [.ref 0, .int a1, .int a2, .int u, .retAddr 0] [] μ w _
    refine xt_aload_n _ dX11_byTurns_0 rfl ?_
    refine xt_iload_n _ dX11_byTurns_1 rfl ?_
    refine xt_cV _ dX11_byTurns_2 klX11_90 (tX11_fairOf_no sc _ μ w c hc e _ hk) sh0 rfl rfl (Nat.le_of_ble_eq_true rfl) ?_
    refine xt_astore0 dX11_byTurns_5 (by decide) rfl ?_
    change x_T _ _ _ _ [_, _, _, _, _] _ _ _ _
    refine xt_aload0 dX11_byTurns_7 rfl ?_
    refine xt_ifnull_n 21 dX11_byTurns_9 (by decide) ?_
    refine xt_bipush (-9) dX11_byTurns_21 (by decide) ?_
    exact xt_iret .int dX11_byTurns_23 rfl (by first | rfl | assumption) ⟨rfl, x_keep.rf μ⟩
  · intro μ w c hc e hk
    refine x_K.of (by decide) (Nat.le_of_ble_eq_true rfl) ?_
    show x_T sc 29 mX12_byTurns 0 [.ref 152, .int a1, .int a2, .int u, .retAddr 0, .retAddr 0, .retAddr 0] [] μ w _
    refine xt_aload_n _ dX12_byTurns_0 rfl ?_
    refine xt_iconst (0) dX12_byTurns_1 (by decide) ?_
    refine xt_puti dX12_byTurns_2 kpX12_72 (by first | exact sh152 | rfl | assumption) rfl (by first | rfl | assumption) (by first | rfl | assumption) ?_
    refine xt_iload_n _ dX12_byTurns_5 rfl ?_
    refine xt_iconst (0) dX12_byTurns_6 (by decide) ?_
    refine xt_iconst (4) dX12_byTurns_7 (by decide) ?_
    refine xt_cS _ dX12_byTurns_8 klX12_84 (tX12_in sc _ _ w _ _ _) rfl rfl (Nat.le_of_ble_eq_true rfl) ?_
    refine xt_if_eq 22 dX12_byTurns_11 (by decide) (fun t11 => ?_) (fun f11 => ?_)
    · refine xt_bipush (-9) dX12_byTurns_22 (by decide) ?_
      exact xt_iret .int dX12_byTurns_24 rfl (by first | rfl | assumption) ⟨rfl, (x_keep.u (x_keep.rf μ) (by unfold x_ok; omega))⟩
    · refine xt_aload_n _ dX12_byTurns_14 rfl ?_
      refine xt_iload_n _ dX12_byTurns_15 rfl ?_
      refine xt_cV _ dX12_byTurns_16 klX12_300 (tX12_hand_no sc _ (x_u μ 152 (upd (μ 152) 0 0)) w c hc e _ hk) sh152 rfl rfl (Nat.le_of_ble_eq_true rfl) ?_
      refine xt_if_ne 25 dX12_byTurns_19 (by decide) (fun q => absurd (by decide) q) (fun _ => ?_)
      refine xt_bipush (-9) dX12_byTurns_22 (by decide) ?_
      exact xt_iret .int dX12_byTurns_24 rfl (by first | rfl | assumption) ⟨rfl, (x_keep.u (x_keep.rf μ) (by unfold x_ok; omega))⟩
  · intro f F hf2 hkk hW
    subst hkk
    by_cases hw : 0 ≤ a2 ∧ a2 ≤ nI 4
    · obtain ⟨n, hn, rfl⟩ := x_rng (N := 4) (by decide) hw
      refine ⟨(if u = 0 then nI (s_la n true (s_bits (s_off F (fun _ => false) 0) (F 4)) (s_bits (fun g => decide (0 < s_e F g)) (F 4))) else (if n = 0 then -1 else if s_fz n (s_bits (s_off F (fun _ => false) 0) (F 4)) (s_bits (fun g => decide (0 < s_e F g)) (F 4)) (F 4) = 0 then 8 else nI (s_fz n (s_bits (s_off F (fun _ => false) 0) (F 4)) (s_bits (fun g => decide (0 < s_e F g)) (F 4)) (F 4) - 1))), ?_, ?_⟩
      · intro μ w c hf hc e hC
        have hS := f_Sf hf2
        refine x_K.of (by decide) (Nat.le_of_ble_eq_true rfl) ?_
        show x_T sc 29 mX11_byTurns 0 [.ref 0, .int (nI f), .int (nI n), .int u, .retAddr 0] [] μ w _
        refine xt_aload_n _ dX11_byTurns_0 rfl ?_
        refine xt_iload_n _ dX11_byTurns_1 rfl ?_
        refine xt_cV _ dX11_byTurns_2 klX11_90 (tX11_fairOf sc _ μ w f c hf hc e) sh0 rfl rfl (Nat.le_of_ble_eq_true rfl) ?_
        refine xt_astore dX11_byTurns_5 (by decide) rfl ?_
        change x_T _ _ _ _ [_, _, _, _, _] _ _ _ _
        refine xt_aload _ dX11_byTurns_7 rfl ?_
        refine xt_ifnull_r dX11_byTurns_9 ?_
        refine xt_iload_n _ dX11_byTurns_12 rfl ?_
        refine xt_if_lt 21 dX11_byTurns_13 (by decide) (fun q => absurd q (nI_pos (by omega))) (fun _ => ?_)
        refine xt_iload_n _ dX11_byTurns_16 rfl ?_
        refine xt_iconst (4) dX11_byTurns_17 (by decide) ?_
        refine xt_icmp_le 24 dX11_byTurns_18 (by decide) (fun _ => ?_) (fun q => absurd (nI_le (by omega) (by decide)) q)
        refine xt_iload_n _ dX11_byTurns_24 rfl ?_
        refine xt_if_eq 37 dX11_byTurns_25 (by decide) (fun t25 => ?_) (fun f25 => ?_)
        · refine xt_aload _ dX11_byTurns_37 rfl ?_
          refine xt_iload_n _ dX11_byTurns_39 rfl ?_
          refine xt_cS _ dX11_byTurns_40 klX11_163 (tX0_inTheEnd sc _ μ w (7 + 11 * f) F hS hW hC n hn) rfl rfl (Nat.le_of_ble_eq_true rfl) ?_
          exact xt_iret .int dX11_byTurns_43 rfl (by first | rfl | assumption) ⟨by rw [if_pos t25], x_keep.rf μ⟩
        · refine xt_aload _ dX11_byTurns_28 rfl ?_
          refine xt_iload_n _ dX11_byTurns_30 rfl ?_
          refine xt_cS _ dX11_byTurns_31 klX11_160 (tX0_firstTurn sc _ μ w (7 + 11 * f) F hS hW hC n hn) rfl rfl (Nat.le_of_ble_eq_true rfl) ?_
          refine xt_goto 43 dX11_byTurns_34 (by decide) ?_
          exact xt_iret .int dX11_byTurns_43 rfl (by first | rfl | assumption) ⟨by rw [if_neg f25], x_keep.rf μ⟩
      · intro μ w c hf hc e hF
        refine x_K.of (by decide) (Nat.le_of_ble_eq_true rfl) ?_
        show x_T sc 29 mX12_byTurns 0 [.ref 152, .int (nI f), .int (nI n), .int u, .retAddr 0, .retAddr 0, .retAddr 0] [] μ w _
        refine xt_aload_n _ dX12_byTurns_0 rfl ?_
        refine xt_iconst (0) dX12_byTurns_1 (by decide) ?_
        refine xt_puti dX12_byTurns_2 kpX12_72 (by first | exact sh152 | rfl | assumption) rfl (by first | rfl | assumption) (by first | rfl | assumption) ?_
        refine xt_iload_n _ dX12_byTurns_5 rfl ?_
        refine xt_iconst (0) dX12_byTurns_6 (by decide) ?_
        refine xt_iconst (4) dX12_byTurns_7 (by decide) ?_
        refine xt_cS _ dX12_byTurns_8 klX12_84 (tX12_in sc _ _ w _ _ _) rfl rfl (Nat.le_of_ble_eq_true rfl) ?_
        refine xt_if_eq 22 dX12_byTurns_11 (by decide) (fun q => absurd q (s_in_nI hn (by decide))) (fun _ => ?_)
        refine xt_aload_n _ dX12_byTurns_14 rfl ?_
        refine xt_iload_n _ dX12_byTurns_15 rfl ?_
        refine xt_callV _ dX12_byTurns_16 klX12_300 (tX12_hand sc _ (x_u μ 152 (upd (μ 152) 0 0)) w f c F hf hc e hF) sh152 rfl rfl (Nat.le_of_ble_eq_true rfl) (fun r1 μ1 w1 q1 => ?_)
        obtain ⟨rfl, rfl, hS, h0, hfr⟩ := q1
        change x_T _ _ _ _ _ (.int 1 :: _) _ _ _
        refine xt_if_ne 25 dX12_byTurns_19 (by decide) (fun _ => ?_) (fun q => absurd q (by decide))
        refine (tX12_byTurns25 sc _ μ1 _ f F hf2 hW ⟨hS.1.2, h0.2.2.2.2.2.1, h0.2.2.2.2.2.2.1, h0.2.2.2.2.2.2.2⟩ (fun i hi => by rw [hfr 158 (by decide) (by decide) (by decide) (by decide), x_u_ne (by decide)]; exact hF i hi) n hn u _).mono (fun r μ2 w2 q => ⟨q.1, x_keep.tr (x_keep.hand hfr) (fun a ha => q.2 a (by unfold x_ok at ha; omega) (by unfold x_ok at ha; omega) (by unfold x_ok at ha; omega) (by unfold x_ok at ha; omega) (by unfold x_ok at ha; omega))⟩)
    · skip
      refine ⟨-9, ?_, ?_⟩
      · intro μ w c hf hc e hC
        have hS := f_Sf hf2
        refine x_K.of (by decide) (Nat.le_of_ble_eq_true rfl) ?_
        show x_T sc 29 mX11_byTurns 0 [.ref 0, .int (nI f), .int a2, .int u, .retAddr 0] [] μ w _
        refine xt_aload_n _ dX11_byTurns_0 rfl ?_
        refine xt_iload_n _ dX11_byTurns_1 rfl ?_
        refine xt_cV _ dX11_byTurns_2 klX11_90 (tX11_fairOf sc _ μ w f c hf hc e) sh0 rfl rfl (Nat.le_of_ble_eq_true rfl) ?_
        refine xt_astore dX11_byTurns_5 (by decide) rfl ?_
        change x_T _ _ _ _ [_, _, _, _, _] _ _ _ _
        refine xt_aload _ dX11_byTurns_7 rfl ?_
        refine xt_ifnull_r dX11_byTurns_9 ?_
        refine xt_iload_n _ dX11_byTurns_12 rfl ?_
        refine xt_if_lt 21 dX11_byTurns_13 (by decide) (fun t13 => ?_) (fun f13 => ?_)
        · refine xt_bipush (-9) dX11_byTurns_21 (by decide) ?_
          exact xt_iret .int dX11_byTurns_23 rfl (by first | rfl | assumption) ⟨rfl, x_keep.rf μ⟩
        · refine xt_iload_n _ dX11_byTurns_16 rfl ?_
          refine xt_iconst (4) dX11_byTurns_17 (by decide) ?_
          refine xt_icmp_le 24 dX11_byTurns_18 (by decide) (fun t18 => ?_) (fun f18 => ?_)
          · exact absurd ⟨Int32.not_lt.mp f13, t18⟩ hw
          · refine xt_bipush (-9) dX11_byTurns_21 (by decide) ?_
            exact xt_iret .int dX11_byTurns_23 rfl (by first | rfl | assumption) ⟨rfl, x_keep.rf μ⟩
      · intro μ w c hf hc e hF
        refine x_K.of (by decide) (Nat.le_of_ble_eq_true rfl) ?_
        show x_T sc 29 mX12_byTurns 0 [.ref 152, .int (nI f), .int a2, .int u, .retAddr 0, .retAddr 0, .retAddr 0] [] μ w _
        refine xt_aload_n _ dX12_byTurns_0 rfl ?_
        refine xt_iconst (0) dX12_byTurns_1 (by decide) ?_
        refine xt_puti dX12_byTurns_2 kpX12_72 (by first | exact sh152 | rfl | assumption) rfl (by first | rfl | assumption) (by first | rfl | assumption) ?_
        refine xt_iload_n _ dX12_byTurns_5 rfl ?_
        refine xt_iconst (0) dX12_byTurns_6 (by decide) ?_
        refine xt_iconst (4) dX12_byTurns_7 (by decide) ?_
        refine xt_cS _ dX12_byTurns_8 klX12_84 (tX12_in sc _ _ w _ _ _) rfl rfl (Nat.le_of_ble_eq_true rfl) ?_
        refine xt_if_eq 22 dX12_byTurns_11 (by decide) (fun _ => ?_) (fun q => absurd (s_in_out hw) q)
        refine xt_bipush (-9) dX12_byTurns_22 (by decide) ?_
        exact xt_iret .int dX12_byTurns_24 rfl (by first | rfl | assumption) ⟨rfl, (x_keep.u (x_keep.rf μ) (by unfold x_ok; omega))⟩
