/-! turns: the class's answers -/
def s_fz (n now wd G : Nat) : Nat := s_fp (fun g => decide (s_la (n - 1) false (s_clr now g) (s_clr wd g) = s_la n true now wd)) G
section TURNS2
variable (sc : Nat × (Nat → Int32)) (d : Nat) (μ : x_Me) (w : Int64)
theorem tX0_lookAhead5 {n : Nat} (hn : n ≤ 4) (st : Bool) {now wd : Nat} (h1 : now < 256) (h2 : wd < 256) : x_K sc (d + 5) mX0_lookAhead [.int (nI n), .int (if st then 1 else 0), .int (nI now), .int (nI wd)] μ w (x_p (some (.int (nI (s_la n st now wd)))) μ w) := by
  have q := tX0_lookAhead sc (d + (4 - n)) μ w n st now wd h1 h2 hn
  rw [show d + (4 - n) + n + 1 = d + 5 by omega] at q
  exact q
set_option maxHeartbeats 1000000 in
theorem tX0_wouldOffend (k : Nat) (F : Nat → Nat) (hS : f_S k) (hW : f_W F) (hC : f_C μ k F) : x_K sc (d + 3) mX0_wouldOffend [.ref k] μ w (x_p (some (.int (nI (s_bits (fun g => decide (0 < s_e F g)) (F 4))))) μ w) := by
  have h8 : F 4 ≤ 8 := hW.1.2.2.2.2.1
  have e4 : μ k 4 = nI (F 4) := hC.1 4 (by decide)
  refine x_K.of (by decide) (Nat.le_of_ble_eq_true rfl) ?_
  show x_T sc (d + 3) mX0_wouldOffend 0 [.ref k, .retAddr 0, .retAddr 0] [] μ w _
  refine xt_iconst (0) dX0_wouldOffend_0 (by decide) ?_
  refine xt_istore_n dX0_wouldOffend_1 (by decide) rfl ?_
  change x_T _ _ _ _ [_, _, _] _ _ _ _
  refine xt_iconst (0) dX0_wouldOffend_2 (by decide) ?_
  refine xt_istore_n dX0_wouldOffend_3 (by decide) rfl ?_
  change x_T _ _ _ _ [_, _, _] _ _ _ _
  have L4 : ∀ (n4 m : Nat) , m + n4 = F 4 → x_T sc (d + 3) mX0_wouldOffend 4 [.ref k, .int (nI (s_bits (fun g => decide (0 < s_e F g)) m)), .int (nI m)] [] μ w (x_p (some (.int (nI (s_bits (fun g => decide (0 < s_e F g)) (F 4))))) μ w) := by
    intro n4
    induction n4 with
    | zero =>
      intro m  hmn
      obtain rfl : F 4 = m := by omega
      refine xt_iload_n _ dX0_wouldOffend_4 rfl ?_
      refine xt_aload_n _ dX0_wouldOffend_5 rfl ?_
      refine xt_geti dX0_wouldOffend_6 kfX0_15 (by first | exact hS.1 | rfl | assumption) rfl ?_
      refine xt_icmp_ge 34 dX0_wouldOffend_9 (by decide) (fun _ => ?_) (fun q => absurd (by rw [e4]; exact Int32.le_refl _) q)
      refine xt_iload_n _ dX0_wouldOffend_34 rfl ?_
      exact xt_iret .int dX0_wouldOffend_35 rfl (by first | rfl | assumption) ⟨rfl, rfl, rfl⟩
    | succ n4 ih4 =>
      intro m  hmn
      have hlt : m < F 4 := by omega
      have hear := s_ear_le hW (fun _ => false) 0 m (F 3) (Nat.le_refl _)
      refine xt_iload_n _ dX0_wouldOffend_4 rfl ?_
      refine xt_aload_n _ dX0_wouldOffend_5 rfl ?_
      refine xt_geti dX0_wouldOffend_6 kfX0_15 (by first | exact hS.1 | rfl | assumption) rfl ?_
      refine xt_icmp_ge 34 dX0_wouldOffend_9 (by decide) (fun q => absurd q (by rw [e4]; exact nI_ge hlt (by omega))) (fun _ => ?_)
      refine xt_aload_n _ dX0_wouldOffend_12 rfl ?_
      refine xt_iload_n _ dX0_wouldOffend_13 rfl ?_
      refine xt_iconst (0) dX0_wouldOffend_14 (by decide) ?_
      refine xt_iconst (0) dX0_wouldOffend_15 (by decide) ?_
      refine xt_cV _ dX0_wouldOffend_16 klX0_21 (tX2_earshot sc _ w hS hC hW m 0 hlt (by omega) 0 (fun _ => false) s_str0) hS.1 rfl rfl (Nat.le_of_ble_eq_true rfl) ?_
      refine xt_if_lt 28 dX0_wouldOffend_19 (by decide) (fun t19 => ?_) (fun f19 => ?_)
      · refine xt_inc _ (1) dX0_wouldOffend_28 rfl (by decide) (by decide) rfl ?_
        change x_T _ _ _ _ [_, _, _] _ _ _ _
        refine xt_goto 4 dX0_wouldOffend_31 (by decide) ?_
        have hz := (eI_neg (by omega)).mp t19
        have hn : (fun g => decide (0 < s_e F g)) m = false := decide_eq_false (fun z => absurd hz (Nat.pos_iff_ne_zero.mp z))
        refine x_T.ls ?_ (ih4 (m + 1) (by omega))
        rw [s_bits_no hn, nI_succ m]
      · refine xt_iload_n _ dX0_wouldOffend_22 rfl ?_
        refine xt_iconst (1) dX0_wouldOffend_23 (by decide) ?_
        refine xt_iload_n _ dX0_wouldOffend_24 rfl ?_
        refine xt_ishl dX0_wouldOffend_25 ?_
        refine xt_ior dX0_wouldOffend_26 ?_
        refine xt_istore_n dX0_wouldOffend_27 (by decide) rfl ?_
        change x_T _ _ _ _ [_, _, _] _ _ _ _
        refine xt_inc _ (1) dX0_wouldOffend_28 rfl (by decide) (by decide) rfl ?_
        change x_T _ _ _ _ [_, _, _] _ _ _ _
        refine xt_goto 4 dX0_wouldOffend_31 (by decide) ?_
        have hy : (fun g => decide (0 < s_e F g)) m = true := decide_eq_true (Nat.pos_of_ne_zero (fun z => f19 ((eI_neg (by omega)).mpr z)))
        refine x_T.ls ?_ (ih4 (m + 1) (by omega))
        rw [← s_bits_or (by omega) hy, nI_succ m]
  exact L4 (F 4) 0  (by omega)
set_option maxHeartbeats 1000000 in
theorem tX0_inTheEnd (k : Nat) (F : Nat → Nat) (hS : f_S k) (hW : f_W F) (hC : f_C μ k F) (n : Nat) (hn : n ≤ 4) : x_K sc (d + 6) mX0_inTheEnd [.ref k, .int (nI n)] μ w (x_p (some (.int (nI (s_la n true (s_bits (s_off F (fun _ => false) 0) (F 4)) (s_bits (fun g => decide (0 < s_e F g)) (F 4)))))) μ w) := by
  have h8 : F 4 ≤ 8 := hW.1.2.2.2.2.1
  have e4 : μ k 4 = nI (F 4) := hC.1 4 (by decide)
  have hn1 : (s_bits (s_off F (fun _ => false) 0) (F 4)) < 256 := s_b256 h8 _
  have hw1 : (s_bits (fun g => decide (0 < s_e F g)) (F 4)) < 256 := s_b256 h8 _
  refine x_K.of (by decide) (Nat.le_of_ble_eq_true rfl) ?_
  show x_T sc (d + 6) mX0_inTheEnd 0 [.ref k, .int (nI n)] [] μ w _
  refine xt_iload_n _ dX0_inTheEnd_0 rfl ?_
  refine xt_iconst (1) dX0_inTheEnd_1 (by decide) ?_
  refine xt_aload_n _ dX0_inTheEnd_2 rfl ?_
  refine xt_iconst (0) dX0_inTheEnd_3 (by decide) ?_
  refine xt_cV _ dX0_inTheEnd_4 klX0_59 (tX2_offenders sc _ w hS hC hW 0 (fun _ => false) s_str0) hS.1 rfl rfl (Nat.le_of_ble_eq_true rfl) ?_
  refine xt_aload_n _ dX0_inTheEnd_7 rfl ?_
  refine xt_cS _ dX0_inTheEnd_8 klX0_62 (tX0_wouldOffend sc _ μ w k F hS hW hC) rfl rfl (Nat.le_of_ble_eq_true rfl) ?_
  refine xt_cS _ dX0_inTheEnd_11 klX0_66 (tX0_lookAhead5 sc _ μ w hn true hn1 hw1) rfl rfl (Nat.le_of_ble_eq_true rfl) ?_
  exact xt_iret .int dX0_inTheEnd_14 rfl (by first | rfl | assumption) ⟨rfl, rfl, rfl⟩
set_option maxHeartbeats 2000000 in
theorem tX0_firstTurn (k : Nat) (F : Nat → Nat) (hS : f_S k) (hW : f_W F) (hC : f_C μ k F) (n : Nat) (hn : n ≤ 4) : x_K sc (d + 6) mX0_firstTurn [.ref k, .int (nI n)] μ w (x_p (some (.int (if n = 0 then -1 else if s_fz n (s_bits (s_off F (fun _ => false) 0) (F 4)) (s_bits (fun g => decide (0 < s_e F g)) (F 4)) (F 4) = 0 then 8 else nI (s_fz n (s_bits (s_off F (fun _ => false) 0) (F 4)) (s_bits (fun g => decide (0 < s_e F g)) (F 4)) (F 4) - 1)))) μ w) := by
  have h8 : F 4 ≤ 8 := hW.1.2.2.2.2.1
  have e4 : μ k 4 = nI (F 4) := hC.1 4 (by decide)
  have hn1 : (s_bits (s_off F (fun _ => false) 0) (F 4)) < 256 := s_b256 h8 _
  have hw1 : (s_bits (fun g => decide (0 < s_e F g)) (F 4)) < 256 := s_b256 h8 _
  refine x_K.of (by decide) (Nat.le_of_ble_eq_true rfl) ?_
  show x_T sc (d + 6) mX0_firstTurn 0 [.ref k, .int (nI n), .retAddr 0, .retAddr 0, .retAddr 0, .retAddr 0] [] μ w _
  refine xt_iload_n _ dX0_firstTurn_0 rfl ?_
  refine xt_if_gt 6 dX0_firstTurn_1 (by decide) (fun t1 => ?_) (fun f1 => ?_)
  · have n1 : 0 < n := (nI_ltI (a := 0) (b := n) (by omega) (by omega)).mp t1
    refine xt_aload_n _ dX0_firstTurn_6 rfl ?_
    refine xt_iconst (0) dX0_firstTurn_7 (by decide) ?_
    refine xt_cV _ dX0_firstTurn_8 klX0_59 (tX2_offenders sc _ w hS hC hW 0 (fun _ => false) s_str0) hS.1 rfl rfl (Nat.le_of_ble_eq_true rfl) ?_
    refine xt_istore_n dX0_firstTurn_11 (by decide) rfl ?_
    change x_T _ _ _ _ [_, _, _, _, _, _] _ _ _ _
    refine xt_aload_n _ dX0_firstTurn_12 rfl ?_
    refine xt_cS _ dX0_firstTurn_13 klX0_62 (tX0_wouldOffend sc _ μ w k F hS hW hC) rfl rfl (Nat.le_of_ble_eq_true rfl) ?_
    refine xt_istore_n dX0_firstTurn_16 (by decide) rfl ?_
    change x_T _ _ _ _ [_, _, _, _, _, _] _ _ _ _
    refine xt_iload_n _ dX0_firstTurn_17 rfl ?_
    refine xt_iconst (1) dX0_firstTurn_18 (by decide) ?_
    refine xt_iload_n _ dX0_firstTurn_19 rfl ?_
    refine xt_iload_n _ dX0_firstTurn_20 rfl ?_
    refine xt_cS _ dX0_firstTurn_21 klX0_66 (tX0_lookAhead5 sc _ μ w hn true hn1 hw1) rfl rfl (Nat.le_of_ble_eq_true rfl) ?_
    refine xt_istore dX0_firstTurn_24 (by decide) rfl ?_
    change x_T _ _ _ _ [_, _, _, _, _, _] _ _ _ _
    refine xt_iconst (0) dX0_firstTurn_26 (by decide) ?_
    refine xt_istore dX0_firstTurn_27 (by decide) rfl ?_
    change x_T _ _ _ _ [_, _, _, _, _, _] _ _ _ _
    have L29 : ∀ (n29 m : Nat) (hR : ∀ i, i < m → (fun g => decide (s_la (n - 1) false (s_clr (s_bits (s_off F (fun _ => false) 0) (F 4)) g) (s_clr (s_bits (fun g => decide (0 < s_e F g)) (F 4)) g) = s_la n true (s_bits (s_off F (fun _ => false) 0) (F 4)) (s_bits (fun g => decide (0 < s_e F g)) (F 4)))) i = false), m + n29 = F 4 → x_T sc (d + 6) mX0_firstTurn 29 [.ref k, .int (nI n), .int (nI (s_bits (s_off F (fun _ => false) 0) (F 4))), .int (nI (s_bits (fun g => decide (0 < s_e F g)) (F 4))), .int (nI (s_la n true (s_bits (s_off F (fun _ => false) 0) (F 4)) (s_bits (fun g => decide (0 < s_e F g)) (F 4)))), .int (nI m)] [] μ w (x_p (some (.int (if n = 0 then -1 else if s_fz n (s_bits (s_off F (fun _ => false) 0) (F 4)) (s_bits (fun g => decide (0 < s_e F g)) (F 4)) (F 4) = 0 then 8 else nI (s_fz n (s_bits (s_off F (fun _ => false) 0) (F 4)) (s_bits (fun g => decide (0 < s_e F g)) (F 4)) (F 4) - 1)))) μ w) := by
      intro n29
      induction n29 with
      | zero =>
        intro m hR hmn
        obtain rfl : F 4 = m := by omega
        refine xt_iload _ dX0_firstTurn_29 rfl ?_
        refine xt_aload_n _ dX0_firstTurn_31 rfl ?_
        refine xt_geti dX0_firstTurn_32 kfX0_15 (by first | exact hS.1 | rfl | assumption) rfl ?_
        refine xt_icmp_ge 75 dX0_firstTurn_35 (by decide) (fun _ => ?_) (fun q => absurd (by rw [e4]; exact Int32.le_refl _) q)
        refine xt_bipush (8) dX0_firstTurn_75 (by decide) ?_
        exact xt_iret .int dX0_firstTurn_77 rfl (by first | rfl | assumption) ⟨by rw [if_neg (by omega), s_fz, s_fp_z hR, if_pos rfl], rfl, rfl⟩
      | succ n29 ih29 =>
        intro m hR hmn
        have hlt : m < F 4 := by omega
        have q1 := s_la_le (n - 1) false (s_clr (s_bits (s_off F (fun _ => false) 0) (F 4)) m) (s_clr (s_bits (fun g => decide (0 < s_e F g)) (F 4)) m)
        have q2 := s_la_le n true (s_bits (s_off F (fun _ => false) 0) (F 4)) (s_bits (fun g => decide (0 < s_e F g)) (F 4))
        refine xt_iload _ dX0_firstTurn_29 rfl ?_
        refine xt_aload_n _ dX0_firstTurn_31 rfl ?_
        refine xt_geti dX0_firstTurn_32 kfX0_15 (by first | exact hS.1 | rfl | assumption) rfl ?_
        refine xt_icmp_ge 75 dX0_firstTurn_35 (by decide) (fun q => absurd q (by rw [e4]; exact nI_ge hlt (by omega))) (fun _ => ?_)
        refine xt_iload_n _ dX0_firstTurn_38 rfl ?_
        refine xt_iconst (1) dX0_firstTurn_39 (by decide) ?_
        refine xt_isub dX0_firstTurn_40 ?_
        refine xt_iconst (0) dX0_firstTurn_41 (by decide) ?_
        refine xt_iload_n _ dX0_firstTurn_42 rfl ?_
        refine xt_iconst (1) dX0_firstTurn_43 (by decide) ?_
        refine xt_iload _ dX0_firstTurn_44 rfl ?_
        refine xt_ishl dX0_firstTurn_46 ?_
        refine xt_iconst (-1) dX0_firstTurn_47 (by decide) ?_
        refine xt_ixor dX0_firstTurn_48 ?_
        refine xt_iand dX0_firstTurn_49 ?_
        refine xt_iload_n _ dX0_firstTurn_50 rfl ?_
        refine xt_iconst (1) dX0_firstTurn_51 (by decide) ?_
        refine xt_iload _ dX0_firstTurn_52 rfl ?_
        refine xt_ishl dX0_firstTurn_54 ?_
        refine xt_iconst (-1) dX0_firstTurn_55 (by decide) ?_
        refine xt_ixor dX0_firstTurn_56 ?_
        refine xt_iand dX0_firstTurn_57 ?_
        rw [show nI n - (1 : Int32) = nI (n - 1) from pk_sub (b := 1) (by omega)]
        rw [s_clrI (s_bits (s_off F (fun _ => false) 0) (F 4)) hn1 m (by omega), s_clrI (s_bits (fun g => decide (0 < s_e F g)) (F 4)) hw1 m (by omega)]
        refine xt_cS _ dX0_firstTurn_58 klX0_66 (tX0_lookAhead5 sc _ μ w (show n - 1 ≤ 4 by omega) false (s_clr_lt hn1) (s_clr_lt hw1)) rfl rfl (Nat.le_of_ble_eq_true rfl) ?_
        refine xt_iload _ dX0_firstTurn_61 rfl ?_
        refine xt_icmp_ne 69 dX0_firstTurn_63 (by decide) (fun t63 => ?_) (fun f63 => ?_)
        · have n63 : ¬ (s_la (n - 1) false (s_clr (s_bits (s_off F (fun _ => false) 0) (F 4)) m) (s_clr (s_bits (fun g => decide (0 < s_e F g)) (F 4)) m) = s_la n true (s_bits (s_off F (fun _ => false) 0) (F 4)) (s_bits (fun g => decide (0 < s_e F g)) (F 4))) := fun z => t63 ((nI_eq (a := s_la (n - 1) false (s_clr (s_bits (s_off F (fun _ => false) 0) (F 4)) m) (s_clr (s_bits (fun g => decide (0 < s_e F g)) (F 4)) m)) (b := s_la n true (s_bits (s_off F (fun _ => false) 0) (F 4)) (s_bits (fun g => decide (0 < s_e F g)) (F 4))) (by omega) (by omega)).mpr z)
          refine xt_inc _ (1) dX0_firstTurn_69 rfl (by decide) (by decide) rfl ?_
          change x_T _ _ _ _ [_, _, _, _, _, _] _ _ _ _
          refine xt_goto 29 dX0_firstTurn_72 (by decide) ?_
          refine x_T.ls (by rw [nI_succ m]) (ih29 (m + 1) (fun i hi => ?_) (by omega))
          by_cases he : i = m
          · rw [he]; exact decide_eq_false n63
          · exact hR i (by omega)
        · have n63 : s_la (n - 1) false (s_clr (s_bits (s_off F (fun _ => false) 0) (F 4)) m) (s_clr (s_bits (fun g => decide (0 < s_e F g)) (F 4)) m) = s_la n true (s_bits (s_off F (fun _ => false) 0) (F 4)) (s_bits (fun g => decide (0 < s_e F g)) (F 4)) := (nI_eq (a := s_la (n - 1) false (s_clr (s_bits (s_off F (fun _ => false) 0) (F 4)) m) (s_clr (s_bits (fun g => decide (0 < s_e F g)) (F 4)) m)) (b := s_la n true (s_bits (s_off F (fun _ => false) 0) (F 4)) (s_bits (fun g => decide (0 < s_e F g)) (F 4))) (by omega) (by omega)).mp f63
          refine xt_iload _ dX0_firstTurn_66 rfl ?_
          exact xt_iret .int dX0_firstTurn_68 rfl (by first | rfl | assumption) ⟨by rw [if_neg (by omega), s_fz, s_fp_at hR (show (fun g => decide (s_la (n - 1) false (s_clr (s_bits (s_off F (fun _ => false) 0) (F 4)) g) (s_clr (s_bits (fun g => decide (0 < s_e F g)) (F 4)) g) = s_la n true (s_bits (s_off F (fun _ => false) 0) (F 4)) (s_bits (fun g => decide (0 < s_e F g)) (F 4)))) m = true from decide_eq_true n63) hlt, if_neg (Nat.succ_ne_zero m)]; rfl, rfl, rfl⟩
    exact L29 (F 4) 0 (fun i hi => absurd hi (by omega)) (by omega)
  · have n1 : ¬ (0 < n) := fun z => f1 ((nI_ltI (a := 0) (b := n) (by omega) (by omega)).mpr z)
    refine xt_iconst (-1) dX0_firstTurn_4 (by decide) ?_
    exact xt_iret .int dX0_firstTurn_5 rfl (by first | rfl | assumption) ⟨by rw [if_pos (by omega)], rfl, rfl⟩
end TURNS2
