/-! the class lays its ways -/
section LAY
variable (sc : Nat × (Nat → Int32)) (d : Nat) (μ : x_Me) (w : Int64)
set_option maxHeartbeats 4000000 in
theorem tX10_lay (k : Nat) (F : Nat → Nat) (hS : f_S k) (hk : k + 5 < 137) (hW : f_W F) (hC : f_C μ k F) (wh : Bool) : x_K sc (d + 3) mX10_lay [.ref 137, .ref k, .int (if wh then 1 else 0)] μ w (fun r μ' _ => r = none ∧ μ' 137 7 = iI ((w_W wh (F 6) (w_P wh F) (w_D wh F)) 0 6).1 ∧ μ' 137 6 = nI ((w_W wh (F 6) (w_P wh F) (w_D wh F)) 0 6).2.1 ∧ (∀ q, q < ((w_W wh (F 6) (w_P wh F) (w_D wh F)) 0 6).2.1 → μ' 143 q = nI (w_chn (w_W wh (F 6) (w_P wh F) (w_D wh F)) (q + 1)).2) ∧ ∀ a, (a < 137 ∨ 143 < a) → μ' a = μ a) := by
  have h6 := hW.1.2.2.2.2.2.2
  have h64 : 2 ^ F 6 ≤ 2 ^ 6 := Nat.pow_le_pow_right (by decide) h6
  have h1p : 1 ≤ 2 ^ F 6 := Nat.one_le_two_pow
  have e6 : μ k 6 = nI (F 6) := hC.1 6 (by decide)
  have hPD := w_pd hW wh
  have hN : ((w_W wh (F 6) (w_P wh F) (w_D wh F)) 0 6).2.1 ≤ 6 := (w_W_ok2 (wh := wh) h6 hPD (s := 0) (p := 6) (by omega) (.inr rfl)).2.2.1
  refine x_K.of (by decide) (Nat.le_of_ble_eq_true rfl) ?_
  show x_T sc (d + 3) mX10_lay 0 [.ref 137, .ref k, .int (if wh then 1 else 0), .retAddr 0, .retAddr 0] [] μ w _
  refine xt_aload_n _ dX10_lay_0 rfl ?_
  refine xt_aload_n _ dX10_lay_1 rfl ?_
  refine xt_iload_n _ dX10_lay_2 rfl ?_
  refine xt_callV _ dX10_lay_3 klX10_30 (tX10_measure sc _ μ w k F hS hk hW hC wh) sh137 rfl rfl (Nat.le_of_ble_eq_true rfl) (fun r1 μ1 w1 q1 => ?_)
  obtain ⟨rfl, hD, hP, hf1⟩ := q1
  change x_T _ _ _ _ _ _ _ _ _
  refine xt_iconst (1) dX10_lay_6 (by decide) ?_
  refine xt_aload_n _ dX10_lay_7 rfl ?_
  refine xt_geti dX10_lay_8 kfX10_34 (by first | exact sh137 | exact hS.1 | exact hS.2.2.2.2.2 | rfl | assumption) rfl ?_
  rw [hf1 k (by omega) (by omega), e6]
  refine xt_ishl dX10_lay_11 ?_
  refine xt_iconst (1) dX10_lay_12 (by decide) ?_
  refine xt_isub dX10_lay_13 ?_
  rw [x_1sh (by omega), show nI (2 ^ F 6) - (1 : Int32) = nI (2 ^ F 6 - 1) from pk_sub (b := 1) h1p]
  refine xt_istore_n dX10_lay_14 (by decide) rfl ?_
  change x_T _ _ _ _ [_, _, _, _, _] _ _ _ _
  have L15 : ∀ (n15 m : Nat) (μ2 : x_Me) (w2 : Int64) (v4 : Value) (hB : ∀ s p, 2 ^ F 6 ≤ s + m → s < 2 ^ F 6 → p < F 6 → s.testBit p = true → w_hm (w_W wh (F 6) (w_P wh F) (w_D wh F)) μ2 s p) (hf : ∀ a, a ≠ 138 → a ≠ 139 → a ≠ 140 → μ2 a = μ1 a), m + n15 = 2 ^ F 6 → x_T sc (d + 3) mX10_lay 15 [.ref 137, .ref k, .int (if wh then 1 else 0), .int (eI (2 ^ F 6 - m)), v4] [] μ2 w2 (fun r μ' _ => r = none ∧ μ' 137 7 = iI ((w_W wh (F 6) (w_P wh F) (w_D wh F)) 0 6).1 ∧ μ' 137 6 = nI ((w_W wh (F 6) (w_P wh F) (w_D wh F)) 0 6).2.1 ∧ (∀ q, q < ((w_W wh (F 6) (w_P wh F) (w_D wh F)) 0 6).2.1 → μ' 143 q = nI (w_chn (w_W wh (F 6) (w_P wh F) (w_D wh F)) (q + 1)).2) ∧ ∀ a, (a < 137 ∨ 143 < a) → μ' a = μ a) := by
    intro n15
    induction n15 with
    | zero =>
      intro m μ2 w2 v4 hB hf hmn
      obtain rfl : 2 ^ F 6 = m := by omega
      refine xt_iload_n _ dX10_lay_15 rfl ?_
      refine xt_if_lt 64 dX10_lay_16 (by decide) (fun _ => ?_) (fun q => absurd (by rw [Nat.sub_self]; decide) q)
      refine xt_aload_n _ dX10_lay_64 rfl ?_
      refine xt_aload_n _ dX10_lay_65 rfl ?_
      refine xt_geti dX10_lay_66 kfX10_34 (by first | exact sh137 | exact hS.1 | exact hS.2.2.2.2.2 | rfl | assumption) rfl ?_
      refine xt_iconst (0) dX10_lay_69 (by decide) ?_
      refine xt_bipush (6) dX10_lay_70 (by decide) ?_
      refine xt_iload_n _ dX10_lay_72 rfl ?_
      rw [hf k (by omega) (by omega) (by omega), hf1 k (by omega) (by omega), e6]
      refine xt_callV _ dX10_lay_73 klX10_40 (tX10_goOn sc _ μ2 w2 wh (F 6) 0 6 (w_P wh F) (w_D wh F) (w_W wh (F 6) (w_P wh F) (w_D wh F)) h6 (show 0 < 2 ^ F 6 by omega) (.inr rfl) hPD (fun t ht => by rw [hf 142 (by decide) (by decide) (by decide)]; exact hP t ht) (fun a b ha hb => by rw [hf 141 (by decide) (by decide) (by decide)]; exact hD a b ha hb) (fun t ht hbt => by have q := hB (0 ||| 2 ^ t) t (by omega) (w_or_lt ht (by omega)) ht (by rw [Nat.testBit_or, Nat.testBit_two_pow_self, Bool.or_true]); exact ⟨q.1, q.2.1⟩) (fun t ht hbt => w_W_ok2 h6 hPD (w_or_lt ht (show 0 < 2 ^ F 6 by omega)) (.inl ht))) sh137 rfl rfl (Nat.le_of_ble_eq_true rfl) (fun r5 μ5 w5 q5 => ?_)
      obtain ⟨rfl, g1, g2, g3, g4⟩ := q5
      rw [← w_W_fix (show 0 < 2 ^ F 6 by omega)] at g1 g2 g3
      change x_T _ _ _ _ _ _ _ _ _
      refine xt_aload_n _ dX10_lay_76 rfl ?_
      refine xt_aload_n _ dX10_lay_77 rfl ?_
      refine xt_getr _ dX10_lay_78 kfX10_11 (by first | exact sh137 | exact hS.1 | exact hS.2.2.2.2.2 | rfl | assumption) rfl ?_
      refine xt_bipush (6) dX10_lay_81 (by decide) ?_
      refine xt_ald dX10_lay_83 (by first | exact sh137 | exact hS.1 | exact hS.2.2.2.2.2 | rfl | assumption) (by unfold vp_in; decide) ?_
      rw [show (6 : Int32).toNatClampNeg = 6 from rfl, g1, show 7 * 0 + 6 = 6 from rfl, pk_us]
      refine xt_puti dX10_lay_84 kpX10_44 (by first | exact sh137 | exact hS.1 | exact hS.2.2.2.2.2 | rfl | assumption) rfl (by first | rfl | assumption) (by first | rfl | assumption) ?_
      refine xt_aload_n _ dX10_lay_87 rfl ?_
      have hAA : ∀ s p, w_pos (F 6) s p → (x_u μ5 137 (upd (μ5 137) 7 (iI ((w_W wh (F 6) (w_P wh F) (w_D wh F)) 0 6).1))) 140 (7 * s + p) = eI ((w_W wh (F 6) (w_P wh F) (w_D wh F)) s p).2.2 := by
        intro s p hps
        rw [x_u_ne (by decide), g3]
        rcases hps.2 with ⟨hp1, hp2⟩ | ⟨hp1, hp2⟩
        · have hz : s ≠ 0 := fun z => by rw [z, Nat.zero_testBit] at hp2; exact absurd hp2 (by decide)
          rw [pk_un (by omega)]; exact (hB s p (by omega) hps.1 hp1 hp2).2.2
        · rw [hp1, hp2, pk_us]
      refine xt_callV _ dX10_lay_88 klX10_47 (tX10_follow sc _ (x_u μ5 137 (upd (μ5 137) 7 (iI ((w_W wh (F 6) (w_P wh F) (w_D wh F)) 0 6).1))) w5 wh (F 6) (w_P wh F) (w_D wh F) h6 hN (by rw [x_u_ne (by decide), g2]; exact pk_us) hAA) sh137 rfl rfl (Nat.le_of_ble_eq_true rfl) (fun r6 μ6 w6 q6 => ?_)
      obtain ⟨rfl, f1, f2, f3⟩ := q6
      change x_T _ _ _ _ _ _ _ _ _
      exact xt_ret dX10_lay_91 rfl ⟨rfl, by rw [f1, pk_un (by decide), x_u_eq, pk_us], by rw [f1, pk_us], f2, fun a ha => by rw [f3 a (by omega) (by omega), x_u_ne (by omega), g4 a (by omega) (by omega) (by omega), hf a (by omega) (by omega) (by omega), hf1 a (by omega) (by omega)]⟩
    | succ n15 ih15 =>
      intro m μ2 w2 v4 hB hf hmn
      have hlt : m < 2 ^ F 6 := by omega
      obtain ⟨s, hs⟩ : ∃ s, s + m + 1 = 2 ^ F 6 := ⟨2 ^ F 6 - m - 1, by omega⟩
      have es : eI (2 ^ F 6 - m) = nI s := by rw [show 2 ^ F 6 - m = s + 1 by omega, eI_s]
      have ee : eI (2 ^ F 6 - (m + 1)) = nI s + (-1) := by
        rw [show 2 ^ F 6 - (m + 1) = s by omega, eI]; exact Int32.sub_eq_add_neg _ _
      refine xt_iload_n _ dX10_lay_15 rfl ?_
      refine xt_if_lt 64 dX10_lay_16 (by decide) (fun q => absurd q (fun z => absurd ((eI_neg (by omega)).mp z) (by omega))) (fun _ => ?_)
      rw [es]
      refine xt_iconst (0) dX10_lay_19 (by decide) ?_
      refine xt_istore dX10_lay_20 (by decide) rfl ?_
      change x_T _ _ _ _ [_, _, _, _, _] _ _ _ _
      have L22 : ∀ (n22 p : Nat) (μ3 : x_Me) (w3 : Int64) (hB3 : ∀ s2 p2, (2 ^ F 6 ≤ s2 + m ∨ (s2 = s ∧ p2 < p)) → s2 < 2 ^ F 6 → p2 < F 6 → s2.testBit p2 = true → w_hm (w_W wh (F 6) (w_P wh F) (w_D wh F)) μ3 s2 p2) (hf3 : ∀ a, a ≠ 138 → a ≠ 139 → a ≠ 140 → μ3 a = μ1 a), p + n22 = F 6 → x_T sc (d + 3) mX10_lay 22 [.ref 137, .ref k, .int (if wh then 1 else 0), .int (nI s), .int (nI p)] [] μ3 w3 (fun r μ' _ => r = none ∧ μ' 137 7 = iI ((w_W wh (F 6) (w_P wh F) (w_D wh F)) 0 6).1 ∧ μ' 137 6 = nI ((w_W wh (F 6) (w_P wh F) (w_D wh F)) 0 6).2.1 ∧ (∀ q, q < ((w_W wh (F 6) (w_P wh F) (w_D wh F)) 0 6).2.1 → μ' 143 q = nI (w_chn (w_W wh (F 6) (w_P wh F) (w_D wh F)) (q + 1)).2) ∧ ∀ a, (a < 137 ∨ 143 < a) → μ' a = μ a) := by
        intro n22
        induction n22 with
        | zero =>
          intro p μ3 w3 hB3 hf3 hmn
          obtain rfl : F 6 = p := by omega
          refine xt_iload _ dX10_lay_22 rfl ?_
          refine xt_aload_n _ dX10_lay_24 rfl ?_
          refine xt_geti dX10_lay_25 kfX10_34 (by first | exact sh137 | exact hS.1 | exact hS.2.2.2.2.2 | rfl | assumption) rfl ?_
          refine xt_icmp_ge 58 dX10_lay_28 (by decide) (fun _ => ?_) (fun q => absurd (by rw [hf3 k (by omega) (by omega) (by omega), hf1 k (by omega) (by omega), e6]; exact Int32.le_refl _) q)
          refine xt_inc _ (-1) dX10_lay_58 rfl (by decide) (by decide) rfl ?_
          change x_T _ _ _ _ [_, _, _, _, _] _ _ _ _
          refine xt_goto 15 dX10_lay_61 (by decide) ?_
          refine x_T.ls ?_ (ih15 (m + 1) μ3 w3 (.int (nI (F 6))) (fun s2 p2 h1 h2 h3 h4 => hB3 s2 p2 (by omega) h2 h3 h4) hf3 (by omega))
          rw [ee]
        | succ n22 ih22 =>
          intro p μ3 w3 hB3 hf3 hmn
          have hlt_p : p < F 6 := by omega
          refine xt_iload _ dX10_lay_22 rfl ?_
          refine xt_aload_n _ dX10_lay_24 rfl ?_
          refine xt_geti dX10_lay_25 kfX10_34 (by first | exact sh137 | exact hS.1 | exact hS.2.2.2.2.2 | rfl | assumption) rfl ?_
          refine xt_icmp_ge 58 dX10_lay_28 (by decide) (fun q => absurd q (by rw [hf3 k (by omega) (by omega) (by omega), hf1 k (by omega) (by omega), e6]; exact nI_ge hlt_p (by omega))) (fun _ => ?_)
          refine xt_iload_n _ dX10_lay_31 rfl ?_
          refine xt_iload _ dX10_lay_32 rfl ?_
          refine xt_ishr dX10_lay_34 ?_
          refine xt_iconst (1) dX10_lay_35 (by decide) ?_
          refine xt_iand dX10_lay_36 ?_
          refine xt_if_eq 52 dX10_lay_37 (by decide) (fun t37 => ?_) (fun f37 => ?_)
          · refine xt_inc _ (1) dX10_lay_52 rfl (by decide) (by decide) rfl ?_
            change x_T _ _ _ _ [_, _, _, _, _] _ _ _ _
            refine xt_goto 22 dX10_lay_55 (by decide) ?_
            have hbs := (s_sh1 s (by omega) p (by omega)).mp t37
            refine x_T.ls (by rw [nI_succ p]) (ih22 (p + 1) μ3 w3 (fun s2 p2 h1 h2 h3 h4 => hB3 s2 p2 ?_ h2 h3 h4) hf3 (by omega))
            rcases h1 with h1 | h1
            · exact .inl h1
            · refine .inr ⟨h1.1, ?_⟩
              have hne : p2 ≠ p := fun z => by rw [h1.1, z, hbs] at h4; exact absurd h4 (by decide)
              omega
          · refine xt_aload_n _ dX10_lay_40 rfl ?_
            refine xt_aload_n _ dX10_lay_41 rfl ?_
            refine xt_geti dX10_lay_42 kfX10_34 (by first | exact sh137 | exact hS.1 | exact hS.2.2.2.2.2 | rfl | assumption) rfl ?_
            refine xt_iload_n _ dX10_lay_45 rfl ?_
            refine xt_iload _ dX10_lay_46 rfl ?_
            refine xt_iload_n _ dX10_lay_48 rfl ?_
            rw [hf3 k (by omega) (by omega) (by omega), hf1 k (by omega) (by omega), e6]
            refine xt_callV _ dX10_lay_49 klX10_40 (tX10_goOn sc _ μ3 w3 wh (F 6) s p (w_P wh F) (w_D wh F) (w_W wh (F 6) (w_P wh F) (w_D wh F)) h6 (show s < 2 ^ F 6 by omega) (.inl hlt_p) hPD (fun t ht => by rw [hf3 142 (by decide) (by decide) (by decide)]; exact hP t ht) (fun a b ha hb => by rw [hf3 141 (by decide) (by decide) (by decide)]; exact hD a b ha hb) (fun t ht hbt => by have q := hB3 (s ||| 2 ^ t) t (.inl (by have := w_or_gt hbt; omega)) (w_or_lt ht (show s < 2 ^ F 6 by omega)) ht (by rw [Nat.testBit_or, Nat.testBit_two_pow_self, Bool.or_true]); exact ⟨q.1, q.2.1⟩) (fun t ht hbt => w_W_ok2 h6 hPD (w_or_lt ht (show s < 2 ^ F 6 by omega)) (.inl ht))) sh137 rfl rfl (Nat.le_of_ble_eq_true rfl) (fun r4 μ4 w4 q4 => ?_)
            obtain ⟨rfl, g1, g2, g3, g4⟩ := q4
            rw [← w_W_fix (show s < 2 ^ F 6 by omega)] at g1 g2 g3
            change x_T _ _ _ _ _ _ _ _ _
            refine xt_inc _ (1) dX10_lay_52 rfl (by decide) (by decide) rfl ?_
            change x_T _ _ _ _ [_, _, _, _, _] _ _ _ _
            refine xt_goto 22 dX10_lay_55 (by decide) ?_
            refine x_T.ls (by rw [nI_succ p]) (ih22 (p + 1) μ4 w4 (fun s2 p2 h1 h2 h3 h4 => ?_) (fun a h1 h2 h3 => by rw [g4 a h1 h2 h3]; exact hf3 a h1 h2 h3) (by omega))
            unfold w_hm
            rw [g1, g2, g3]
            by_cases he : s2 = s ∧ p2 = p
            · rw [he.1, he.2, pk_us, pk_us, pk_us]; exact ⟨rfl, rfl, rfl⟩
            · have hi : 7 * s2 + p2 ≠ 7 * s + p := fun z => he (by omega)
              rw [pk_un hi, pk_un hi, pk_un hi]; exact hB3 s2 p2 (by omega) h2 h3 h4
      exact L22 (F 6) 0 μ2 w2 (fun s2 p2 h1 h2 h3 h4 => hB s2 p2 (by omega) h2 h3 h4) hf (by omega)
  refine x_T.ls ?_ (L15 (2 ^ F 6) 0 μ1 w1 (.retAddr 0) (fun s p h1 h2 => absurd h1 (by omega)) (fun _ _ _ _ => rfl) (by omega))
  rw [Nat.sub_zero, eI_pr (by omega)]
end LAY
