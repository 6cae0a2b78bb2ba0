/-! texts: the line that a word names -/
def s_nb (T : Nat → Nat) (q n i : Nat) : Bool := decide (n = s_nl i ∧ ∀ j, j < s_nl i → T (q + j) = s_nm i j)
def s_fA (s : Nat) : Nat := [0, 7, 13, 16].getD s 16
/-- 0: no line of this sort has the name, else 1 and its number among them -/
def s_ln (T : Nat → Nat) (s q n : Nat) : Nat := s_fp (fun k => s_nb T q n (s_fA s + k)) (s_fA (s + 1) - s_fA s)
theorem x_rowF (sc : Nat × (Nat → Int32)) : x_row sc 1000200 4 (fun j => [0, 7, 13, 16].getD j 0) := ⟨by decide, Or.inr ⟨(RX6, "FIRST", 1000200, [0, 7, 13, 16]), by decide, rfl, rfl, rfl⟩⟩
theorem s_fI : ∀ s, s < 4 → s_at 4 (fun j => [0, 7, 13, 16].getD j 0) (nI s) = nI (s_fA s) := by decide +kernel
theorem s_fA_ok : ∀ s, s < 3 → s_fA s < s_fA (s + 1) ∧ s_fA (s + 1) ≤ 16 := by decide
section NAMED
variable (sc : Nat × (Nat → Int32)) (d : Nat) (μ : x_Me) (w : Int64)
theorem tX6_nameOf (i : Nat) (hi : i < 16) : x_K sc d mX6_nameOf [.int (nI i)] μ w (x_p (some (.ref (1000000 + i))) μ w) := by
  have h : i = 0 ∨ i = 1 ∨ i = 2 ∨ i = 3 ∨ i = 4 ∨ i = 5 ∨ i = 6 ∨ i = 7 ∨ i = 8 ∨ i = 9 ∨ i = 10 ∨ i = 11 ∨ i = 12 ∨ i = 13 ∨ i = 14 ∨ i = 15 := by omega
  rcases h with rfl | rfl | rfl | rfl | rfl | rfl | rfl | rfl | rfl | rfl | rfl | rfl | rfl | rfl | rfl | rfl
  · refine x_K.of (by decide) (Nat.le_of_ble_eq_true rfl) ?_
    show x_T sc d mX6_nameOf 0 [.int 0] [] μ w _
    refine xt_iload_n _ dX6_nameOf_0 rfl ?_
    refine xt_tabIn 76 dX6_nameOf_1 (by decide) (by decide) (by rfl) (by decide) ?_
    refine xt_ldcT 0 dX6_nameOf_76 (by decide) rfl rfl ?_
    exact xt_aret _ dX6_nameOf_78 rfl ⟨rfl, rfl, rfl⟩
  · refine x_K.of (by decide) (Nat.le_of_ble_eq_true rfl) ?_
    show x_T sc d mX6_nameOf 0 [.int 1] [] μ w _
    refine xt_iload_n _ dX6_nameOf_0 rfl ?_
    refine xt_tabIn 79 dX6_nameOf_1 (by decide) (by decide) (by rfl) (by decide) ?_
    refine xt_ldcT 1 dX6_nameOf_79 (by decide) rfl rfl ?_
    exact xt_aret _ dX6_nameOf_81 rfl ⟨rfl, rfl, rfl⟩
  · refine x_K.of (by decide) (Nat.le_of_ble_eq_true rfl) ?_
    show x_T sc d mX6_nameOf 0 [.int 2] [] μ w _
    refine xt_iload_n _ dX6_nameOf_0 rfl ?_
    refine xt_tabIn 82 dX6_nameOf_1 (by decide) (by decide) (by rfl) (by decide) ?_
    refine xt_ldcT 2 dX6_nameOf_82 (by decide) rfl rfl ?_
    exact xt_aret _ dX6_nameOf_84 rfl ⟨rfl, rfl, rfl⟩
  · refine x_K.of (by decide) (Nat.le_of_ble_eq_true rfl) ?_
    show x_T sc d mX6_nameOf 0 [.int 3] [] μ w _
    refine xt_iload_n _ dX6_nameOf_0 rfl ?_
    refine xt_tabIn 85 dX6_nameOf_1 (by decide) (by decide) (by rfl) (by decide) ?_
    refine xt_ldcT 3 dX6_nameOf_85 (by decide) rfl rfl ?_
    exact xt_aret _ dX6_nameOf_87 rfl ⟨rfl, rfl, rfl⟩
  · refine x_K.of (by decide) (Nat.le_of_ble_eq_true rfl) ?_
    show x_T sc d mX6_nameOf 0 [.int 4] [] μ w _
    refine xt_iload_n _ dX6_nameOf_0 rfl ?_
    refine xt_tabIn 88 dX6_nameOf_1 (by decide) (by decide) (by rfl) (by decide) ?_
    refine xt_ldcT 4 dX6_nameOf_88 (by decide) rfl rfl ?_
    exact xt_aret _ dX6_nameOf_90 rfl ⟨rfl, rfl, rfl⟩
  · refine x_K.of (by decide) (Nat.le_of_ble_eq_true rfl) ?_
    show x_T sc d mX6_nameOf 0 [.int 5] [] μ w _
    refine xt_iload_n _ dX6_nameOf_0 rfl ?_
    refine xt_tabIn 91 dX6_nameOf_1 (by decide) (by decide) (by rfl) (by decide) ?_
    refine xt_ldcT 5 dX6_nameOf_91 (by decide) rfl rfl ?_
    exact xt_aret _ dX6_nameOf_93 rfl ⟨rfl, rfl, rfl⟩
  · refine x_K.of (by decide) (Nat.le_of_ble_eq_true rfl) ?_
    show x_T sc d mX6_nameOf 0 [.int 6] [] μ w _
    refine xt_iload_n _ dX6_nameOf_0 rfl ?_
    refine xt_tabIn 94 dX6_nameOf_1 (by decide) (by decide) (by rfl) (by decide) ?_
    refine xt_ldcT 6 dX6_nameOf_94 (by decide) rfl rfl ?_
    exact xt_aret _ dX6_nameOf_96 rfl ⟨rfl, rfl, rfl⟩
  · refine x_K.of (by decide) (Nat.le_of_ble_eq_true rfl) ?_
    show x_T sc d mX6_nameOf 0 [.int 7] [] μ w _
    refine xt_iload_n _ dX6_nameOf_0 rfl ?_
    refine xt_tabIn 97 dX6_nameOf_1 (by decide) (by decide) (by rfl) (by decide) ?_
    refine xt_ldcT 7 dX6_nameOf_97 (by decide) rfl rfl ?_
    exact xt_aret _ dX6_nameOf_99 rfl ⟨rfl, rfl, rfl⟩
  · refine x_K.of (by decide) (Nat.le_of_ble_eq_true rfl) ?_
    show x_T sc d mX6_nameOf 0 [.int 8] [] μ w _
    refine xt_iload_n _ dX6_nameOf_0 rfl ?_
    refine xt_tabIn 100 dX6_nameOf_1 (by decide) (by decide) (by rfl) (by decide) ?_
    refine xt_ldcT 8 dX6_nameOf_100 (by decide) rfl rfl ?_
    exact xt_aret _ dX6_nameOf_102 rfl ⟨rfl, rfl, rfl⟩
  · refine x_K.of (by decide) (Nat.le_of_ble_eq_true rfl) ?_
    show x_T sc d mX6_nameOf 0 [.int 9] [] μ w _
    refine xt_iload_n _ dX6_nameOf_0 rfl ?_
    refine xt_tabIn 103 dX6_nameOf_1 (by decide) (by decide) (by rfl) (by decide) ?_
    refine xt_ldcT 9 dX6_nameOf_103 (by decide) rfl rfl ?_
    exact xt_aret _ dX6_nameOf_105 rfl ⟨rfl, rfl, rfl⟩
  · refine x_K.of (by decide) (Nat.le_of_ble_eq_true rfl) ?_
    show x_T sc d mX6_nameOf 0 [.int 10] [] μ w _
    refine xt_iload_n _ dX6_nameOf_0 rfl ?_
    refine xt_tabIn 106 dX6_nameOf_1 (by decide) (by decide) (by rfl) (by decide) ?_
    refine xt_ldcT 10 dX6_nameOf_106 (by decide) rfl rfl ?_
    exact xt_aret _ dX6_nameOf_108 rfl ⟨rfl, rfl, rfl⟩
  · refine x_K.of (by decide) (Nat.le_of_ble_eq_true rfl) ?_
    show x_T sc d mX6_nameOf 0 [.int 11] [] μ w _
    refine xt_iload_n _ dX6_nameOf_0 rfl ?_
    refine xt_tabIn 109 dX6_nameOf_1 (by decide) (by decide) (by rfl) (by decide) ?_
    refine xt_ldcT 11 dX6_nameOf_109 (by decide) rfl rfl ?_
    exact xt_aret _ dX6_nameOf_111 rfl ⟨rfl, rfl, rfl⟩
  · refine x_K.of (by decide) (Nat.le_of_ble_eq_true rfl) ?_
    show x_T sc d mX6_nameOf 0 [.int 12] [] μ w _
    refine xt_iload_n _ dX6_nameOf_0 rfl ?_
    refine xt_tabIn 112 dX6_nameOf_1 (by decide) (by decide) (by rfl) (by decide) ?_
    refine xt_ldcT 12 dX6_nameOf_112 (by decide) rfl rfl ?_
    exact xt_aret _ dX6_nameOf_114 rfl ⟨rfl, rfl, rfl⟩
  · refine x_K.of (by decide) (Nat.le_of_ble_eq_true rfl) ?_
    show x_T sc d mX6_nameOf 0 [.int 13] [] μ w _
    refine xt_iload_n _ dX6_nameOf_0 rfl ?_
    refine xt_tabIn 115 dX6_nameOf_1 (by decide) (by decide) (by rfl) (by decide) ?_
    refine xt_ldcT 13 dX6_nameOf_115 (by decide) rfl rfl ?_
    exact xt_aret _ dX6_nameOf_117 rfl ⟨rfl, rfl, rfl⟩
  · refine x_K.of (by decide) (Nat.le_of_ble_eq_true rfl) ?_
    show x_T sc d mX6_nameOf 0 [.int 14] [] μ w _
    refine xt_iload_n _ dX6_nameOf_0 rfl ?_
    refine xt_tabIn 118 dX6_nameOf_1 (by decide) (by decide) (by rfl) (by decide) ?_
    refine xt_ldcT 14 dX6_nameOf_118 (by decide) rfl rfl ?_
    exact xt_aret _ dX6_nameOf_120 rfl ⟨rfl, rfl, rfl⟩
  · refine x_K.of (by decide) (Nat.le_of_ble_eq_true rfl) ?_
    show x_T sc d mX6_nameOf 0 [.int 15] [] μ w _
    refine xt_iload_n _ dX6_nameOf_0 rfl ?_
    refine xt_tabOut 121 dX6_nameOf_1 (by decide) (by decide) ?_
    refine xt_ldcT 15 dX6_nameOf_121 (by decide) rfl rfl ?_
    exact xt_aret _ dX6_nameOf_123 rfl ⟨rfl, rfl, rfl⟩
set_option maxHeartbeats 2000000 in
theorem tX6_isToken (T : Nat → Nat) (L : Nat) (hB : c_B μ T L) (q e : Nat) (h8 : μ 115 8 = nI e) (h9 : μ 115 9 = nI q) (hqe : q ≤ e) (heL : e ≤ L) (i : Nat) (hi : i < 16) : x_K sc (d + 4) mX6_isToken [.ref 115, .ref (1000000 + i)] μ w (x_p (some (.int (if s_nb T q (e - q) i then 1 else 0))) μ w) := by
  have hL := hB.2.1
  have h7 := s_nl_7 i hi
  refine x_K.of (by decide) (Nat.le_of_ble_eq_true rfl) ?_
  show x_T sc (d + 4) mX6_isToken 0 [.ref 115, .ref (1000000 + i), .retAddr 0] [] μ w _
  refine xt_aload_n _ dX6_isToken_0 rfl ?_
  refine xt_geti dX6_isToken_1 kfX6_67 (by first | exact sh115 | rfl | assumption) rfl ?_
  refine xt_aload_n _ dX6_isToken_4 rfl ?_
  refine xt_geti dX6_isToken_5 kfX6_77 (by first | exact sh115 | rfl | assumption) rfl ?_
  refine xt_isub dX6_isToken_8 ?_
  refine xt_aload_n _ dX6_isToken_9 rfl ?_
  rw [h8, h9, pk_sub hqe]
  refine xt_cT _ dX6_isToken_10 klX6_207 hi (tJ_length sc _ μ w hi) rfl rfl (Nat.le_of_ble_eq_true rfl) ?_
  refine xt_icmp_eq 18 dX6_isToken_13 (by decide) (fun t13 => ?_) (fun f13 => ?_)
  · have n13 : e - q = s_nl i := (nI_eq (a := e - q) (b := s_nl i) (by omega) (by omega)).mp t13
    refine xt_iconst (0) dX6_isToken_18 (by decide) ?_
    refine xt_istore_n dX6_isToken_19 (by decide) rfl ?_
    change x_T _ _ _ _ [_, _, _] _ _ _ _
    have L20 : ∀ (n20 m : Nat) (hR : ∀ j, j < m → T (q + j) = s_nm i j), m + n20 = s_nl i → x_T sc (d + 4) mX6_isToken 20 [.ref 115, .ref (1000000 + i), .int (nI m)] [] μ w (x_p (some (.int (if s_nb T q (e - q) i then 1 else 0))) μ w) := by
      intro n20
      induction n20 with
      | zero =>
        intro m hR hmn
        obtain rfl : s_nl i = m := by omega
        refine xt_iload_n _ dX6_isToken_20 rfl ?_
        refine xt_aload_n _ dX6_isToken_21 rfl ?_
        refine xt_cT _ dX6_isToken_22 klX6_207 hi (tJ_length sc _ μ w hi) rfl rfl (Nat.le_of_ble_eq_true rfl) ?_
        refine xt_icmp_ge 54 dX6_isToken_25 (by decide) (fun _ => ?_) (fun q => absurd (Int32.le_refl _) q)
        refine xt_iconst (1) dX6_isToken_54 (by decide) ?_
        exact xt_iret .boolean dX6_isToken_55 rfl (by first | rfl | assumption) ⟨by rw [show s_nb T q (e - q) i = true from decide_eq_true ⟨n13, hR⟩]; rfl, rfl, rfl⟩
      | succ n20 ih20 =>
        intro m hR hmn
        have hlt : m < s_nl i := by omega
        refine xt_iload_n _ dX6_isToken_20 rfl ?_
        refine xt_aload_n _ dX6_isToken_21 rfl ?_
        refine xt_cT _ dX6_isToken_22 klX6_207 hi (tJ_length sc _ μ w hi) rfl rfl (Nat.le_of_ble_eq_true rfl) ?_
        refine xt_icmp_ge 54 dX6_isToken_25 (by decide) (fun q => absurd q (nI_ge hlt (by omega))) (fun _ => ?_)
        refine xt_aload_n _ dX6_isToken_28 rfl ?_
        refine xt_aload_n _ dX6_isToken_29 rfl ?_
        refine xt_geti dX6_isToken_30 kfX6_77 (by first | exact sh115 | rfl | assumption) rfl ?_
        refine xt_iload_n _ dX6_isToken_33 rfl ?_
        refine xt_iadd dX6_isToken_34 ?_
        rw [h9, nI_add]
        refine xt_cV _ dX6_isToken_35 klX6_181 (tX6_byteAt sc _ μ _ T L hB (q + m) (by omega)) sh115 rfl rfl (Nat.le_of_ble_eq_true rfl) ?_
        refine xt_aload_n _ dX6_isToken_38 rfl ?_
        refine xt_iload_n _ dX6_isToken_39 rfl ?_
        refine xt_cT _ dX6_isToken_40 klX6_212 hi (tJ_charAt sc _ μ w hi hlt) rfl rfl (Nat.le_of_ble_eq_true rfl) ?_
        refine xt_icmp_eq 48 dX6_isToken_43 (by decide) (fun t43 => ?_) (fun f43 => ?_)
        · refine xt_inc _ (1) dX6_isToken_48 rfl (by decide) (by decide) rfl ?_
          change x_T _ _ _ _ [_, _, _] _ _ _ _
          refine xt_goto 20 dX6_isToken_51 (by decide) ?_
          refine x_T.ls (by rw [nI_succ m]) (ih20 (m + 1) (fun j hj => ?_) (by omega))
          by_cases he : j = m
          · rw [he]; exact (s_by_eq (hB.at (q + m)) (by have := s_nm_rg i hi m (by omega) hlt; omega)).mp t43
          · exact hR j (by omega)
        · refine xt_iconst (0) dX6_isToken_46 (by decide) ?_
          exact xt_iret .boolean dX6_isToken_47 rfl (by first | rfl | assumption) ⟨by rw [show s_nb T q (e - q) i = false from decide_eq_false (fun z => f43 ((s_by_eq (hB.at (q + m)) (by have := s_nm_rg i hi m (by omega) hlt; omega)).mpr (z.2 m hlt)))]; rfl, rfl, rfl⟩
    exact L20 (s_nl i) 0 (fun j hj => absurd hj (by omega)) (by omega)
  · have n13 : ¬ (e - q = s_nl i) := fun z => f13 ((nI_eq (a := e - q) (b := s_nl i) (by omega) (by omega)).mpr z)
    refine xt_iconst (0) dX6_isToken_16 (by decide) ?_
    exact xt_iret .boolean dX6_isToken_17 rfl (by first | rfl | assumption) ⟨by rw [show s_nb T q (e - q) i = false from decide_eq_false (fun z => n13 z.1)]; rfl, rfl, rfl⟩
set_option maxHeartbeats 2000000 in
theorem tX6_lineNamed (T : Nat → Nat) (L : Nat) (hB : c_B μ T L) (q e : Nat) (h8 : μ 115 8 = nI e) (h9 : μ 115 9 = nI q) (hqe : q ≤ e) (heL : e ≤ L) (s : Nat) (hs : s < 3) : x_K sc (d + 5) mX6_lineNamed [.ref 115, .int (nI s)] μ w (x_p (some (.int (if s_ln T s q (e - q) = 0 then -1 else nI (s_fA s + (s_ln T s q (e - q) - 1))))) μ w) := by
  obtain ⟨hA1, hA2⟩ := s_fA_ok s hs
  have h1s : nI s + (1 : Int32) = nI (s + 1) := nI_add s 1
  refine x_K.of (by decide) (Nat.le_of_ble_eq_true rfl) ?_
  show x_T sc (d + 5) mX6_lineNamed 0 [.ref 115, .int (nI s), .retAddr 0] [] μ w _
  refine xt_gets (RX6, "FIRST", 1000200, [0, 7, 13, 16]) dX6_lineNamed_0 (by decide) (by decide) ksX6_196 ?_
  refine xt_iload_n _ dX6_lineNamed_3 rfl ?_
  refine xt_cS _ dX6_lineNamed_4 klX6_106 (tX8_atT sc _ _ _ (x_rowF sc) (by decide) _) rfl rfl (Nat.le_of_ble_eq_true rfl) ?_
  rw [s_fI s (by omega)]
  refine xt_istore_n dX6_lineNamed_7 (by decide) rfl ?_
  change x_T _ _ _ _ [_, _, _] _ _ _ _
  have L8 : ∀ (n8 m : Nat) (hR : ∀ k, k < m → s_nb T q (e - q) (s_fA s + k) = false), m + n8 = (s_fA (s + 1) - s_fA s) → x_T sc (d + 5) mX6_lineNamed 8 [.ref 115, .int (nI s), .int (nI (s_fA s + m))] [] μ w (x_p (some (.int (if s_ln T s q (e - q) = 0 then -1 else nI (s_fA s + (s_ln T s q (e - q) - 1))))) μ w) := by
    intro n8
    induction n8 with
    | zero =>
      intro m hR hmn
      obtain rfl : (s_fA (s + 1) - s_fA s) = m := by omega
      refine xt_iload_n _ dX6_lineNamed_8 rfl ?_
      refine xt_gets (RX6, "FIRST", 1000200, [0, 7, 13, 16]) dX6_lineNamed_9 (by decide) (by decide) ksX6_196 ?_
      refine xt_iload_n _ dX6_lineNamed_12 rfl ?_
      refine xt_iconst (1) dX6_lineNamed_13 (by decide) ?_
      refine xt_iadd dX6_lineNamed_14 ?_
      rw [h1s]
      refine xt_cS _ dX6_lineNamed_15 klX6_106 (tX8_atT sc _ _ _ (x_rowF sc) (by decide) _) rfl rfl (Nat.le_of_ble_eq_true rfl) ?_
      rw [s_fI (s + 1) (by omega)]
      refine xt_icmp_ge 40 dX6_lineNamed_18 (by decide) (fun _ => ?_) (fun q => absurd (nI_le (by omega) (by omega)) q)
      refine xt_iconst (-1) dX6_lineNamed_40 (by decide) ?_
      exact xt_iret .int dX6_lineNamed_41 rfl (by first | rfl | assumption) ⟨by rw [s_ln, s_fp_z hR, if_pos rfl], rfl, rfl⟩
    | succ n8 ih8 =>
      intro m hR hmn
      have hlt : m < (s_fA (s + 1) - s_fA s) := by omega
      refine xt_iload_n _ dX6_lineNamed_8 rfl ?_
      refine xt_gets (RX6, "FIRST", 1000200, [0, 7, 13, 16]) dX6_lineNamed_9 (by decide) (by decide) ksX6_196 ?_
      refine xt_iload_n _ dX6_lineNamed_12 rfl ?_
      refine xt_iconst (1) dX6_lineNamed_13 (by decide) ?_
      refine xt_iadd dX6_lineNamed_14 ?_
      rw [h1s]
      refine xt_cS _ dX6_lineNamed_15 klX6_106 (tX8_atT sc _ _ _ (x_rowF sc) (by decide) _) rfl rfl (Nat.le_of_ble_eq_true rfl) ?_
      rw [s_fI (s + 1) (by omega)]
      refine xt_icmp_ge 40 dX6_lineNamed_18 (by decide) (fun q => absurd q (nI_ge (by omega) (by omega))) (fun _ => ?_)
      refine xt_aload_n _ dX6_lineNamed_21 rfl ?_
      refine xt_iload_n _ dX6_lineNamed_22 rfl ?_
      refine xt_cS _ dX6_lineNamed_23 klX6_199 (tX6_nameOf sc _ μ w (s_fA s + m) (by omega)) rfl rfl (Nat.le_of_ble_eq_true rfl) ?_
      refine xt_cV _ dX6_lineNamed_26 klX6_203 (tX6_isToken sc _ μ w T L hB q e h8 h9 hqe heL (s_fA s + m) (by omega)) sh115 rfl rfl (Nat.le_of_ble_eq_true rfl) ?_
      refine xt_if_eq 34 dX6_lineNamed_29 (by decide) (fun t29 => ?_) (fun f29 => ?_)
      · refine xt_inc _ (1) dX6_lineNamed_34 rfl (by decide) (by decide) rfl ?_
        change x_T _ _ _ _ [_, _, _] _ _ _ _
        refine xt_goto 8 dX6_lineNamed_37 (by decide) ?_
        refine x_T.ls (by rw [← Nat.add_assoc, nI_succ]) (ih8 (m + 1) (fun k hk => ?_) (by omega))
        by_cases he : k = m
        · rw [he]; exact s_if0 t29
        · exact hR k (by omega)
      · refine xt_iload_n _ dX6_lineNamed_32 rfl ?_
        exact xt_iret .int dX6_lineNamed_33 rfl (by first | rfl | assumption) ⟨by rw [s_ln, s_fp_at hR (s_if1 f29) hlt, if_neg (Nat.succ_ne_zero m)]; rfl, rfl, rfl⟩
  exact L8 ((s_fA (s + 1) - s_fA s)) 0 (fun j hj => absurd hj (by omega)) (by omega)
end NAMED
