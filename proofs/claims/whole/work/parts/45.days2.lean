/-! the steps of till, state, after -/
/-- a call that asks after a FAIR and a DAY, on both sides -/
theorem x_stFD {sc : Nat × (Nat → Int32)} {Mc Mm : x_Mt} {a1 a2 : Int32} {as : List Value} (no : Int32)
    (hcN : ∀ μ w cf cd, cf ≤ 2 → cd ≤ 2 → μ 3 0 = nI cf → μ 3 1 = nI cd → ¬ ((0 ≤ a1 ∧ a1 < nI cf) ∧ (0 ≤ a2 ∧ a2 < nI cd)) → x_K sc 29 Mc (.ref 0 :: .int a1 :: .int a2 :: as) μ w (fun r μ' _ => r = some (.int no) ∧ x_keep μ μ'))
    (hmN : ∀ μ w cf cd, cf ≤ 2 → cd ≤ 2 → μ 157 0 = nI cf → μ 157 1 = nI cd → ¬ ((0 ≤ a1 ∧ a1 < nI cf) ∧ (0 ≤ a2 ∧ a2 < nI cd)) → x_K sc 29 Mm (.ref 152 :: .int a1 :: .int a2 :: as) μ w (fun r μ' _ => r = some (.int no) ∧ x_keep μ μ'))
    (hY : ∀ (f fd n : Nat) (F : Nat → Nat) (D : Nat → Int32), f < 2 → fd < 2 → a1 = nI f → a2 = nI fd → f_W F → d_W n D → ∃ v : Int32, (∀ μ w cf cd, f < cf → cf ≤ 2 → fd < cd → cd ≤ 2 → μ 3 0 = nI cf → μ 3 1 = nI cd → f_C μ (7 + 11 * f) F → d_C μ (13 + 11 * fd) n D → x_K sc 29 Mc (.ref 0 :: .int a1 :: .int a2 :: as) μ w (fun r μ' _ => r = some (.int v) ∧ x_keep μ μ')) ∧
      (∀ μ w cf cd, f < cf → cf ≤ 2 → fd < cd → cd ≤ 2 → μ 157 0 = nI cf → μ 157 1 = nI cd → (∀ i, i < 125 → μ 158 (125 * f + i) = nI (F i)) → d_M μ fd n D → x_K sc 29 Mm (.ref 152 :: .int a1 :: .int a2 :: as) μ w (fun r μ' _ => r = some (.int v) ∧ x_keep μ μ'))) :
    x_stI sc (fun μ _ => x_Inv μ) (fun μ _ => x_Inv μ) Mc Mm (.int a1 :: .int a2 :: as) := by
  refine x_stG (fun μ hI => ?_)
  obtain ⟨cf, hcf, e1, e2, hfs⟩ := hI.fair
  obtain ⟨cd, hcd, e3, e4, hds⟩ := hI.day
  by_cases hk : (0 ≤ a1 ∧ a1 < nI cf) ∧ (0 ≤ a2 ∧ a2 < nI cd)
  · obtain ⟨f, hf31, rfl⟩ := nI_of (Int32.not_lt.mpr hk.1.1)
    have hf : f < cf := (nI_ltI hf31 (by omega)).mp hk.1.2
    obtain ⟨fd, hfd31, rfl⟩ := nI_of (Int32.not_lt.mpr hk.2.1)
    have hfd : fd < cd := (nI_ltI hfd31 (by omega)).mp hk.2.2
    obtain ⟨F, hW, hC, hM⟩ := hfs f hf
    obtain ⟨n, D, hWd, hCd, hMd⟩ := hds fd hfd
    obtain ⟨v, hv1, hv2⟩ := hY f fd n F D (by omega) (by omega) rfl rfl hW hWd
    refine ⟨v, fun w => hv1 μ w cf cd hf hcf hfd hcd e1 e3 hC hCd, fun μ1 w hk1 => hv2 μ1 w cf cd hf hcf hfd hcd (by rw [x_kmany hk1]; exact e2) (by rw [x_kmany hk1]; exact e4) ?_ ?_⟩
    · intro i hi; rw [hk1 158 (Or.inr (Or.inl ⟨by decide, by decide⟩))]; exact hM i hi
    · intro i hi; rw [hk1 159 (Or.inr (Or.inl ⟨by decide, by decide⟩))]; exact hMd i hi
  · exact ⟨no, fun w => hcN μ w cf cd hcf hcd e1 e3 hk, fun μ1 w hk1 => hmN μ1 w cf cd hcf hcd (by rw [x_kmany hk1]; exact e2) (by rw [x_kmany hk1]; exact e4) hk⟩
/-- what a state tells -/
def s_tsG (G : Nat → Nat) (n : Nat) : Int32 := if n < 100 then (if n < 30 ∧ n % 10 < G 4 then (if n < 20 then nI (G (25 + n % 10)) else nI (G (33 + n % 10))) else -2) else if (n - 100) / 10 < G 4 ∧ n % 10 < 6 then nI (G (41 + (6 * ((n - 100) / 10) + n % 10))) else -2
theorem s_hasG_nI {G : Nat → Nat} (h8 : G 4 ≤ 8) {g : Nat} (hg : g < 2 ^ 31) : s_hasG G (nI g) = (if g < G 4 then 1 else 0) := by
  by_cases h : g < G 4
  · rw [s_hasG_yes h h8, if_pos h]
  · rw [s_hasG_no (fun z => h ((nI_ltI hg (by omega)).mp z.2)), if_neg h]
theorem s_hasG_sub {G : Nat → Nat} (h8 : G 4 ≤ 8) {t : Nat} (ht : t < 2 ^ 30) : s_hasG G (nI t - 10) = (if 10 ≤ t ∧ t - 10 < G 4 then 1 else 0) := by
  by_cases h : 10 ≤ t
  · rw [show nI t - (10 : Int32) = nI (t - 10) from pk_sub (b := 10) h, s_hasG_nI h8 (by omega)]
    by_cases h2 : t - 10 < G 4
    · rw [if_pos h2, if_pos ⟨h, h2⟩]
    · rw [if_neg h2, if_neg (fun z => h2 z.2)]
  · have hn : nI t - (10 : Int32) < 0 := pk_sneg (b := 10) (by decide) (by omega)
    rw [s_hasG, if_pos hn, if_neg (fun z => h z.1)]
theorem s_tsG8 {G : Nat → Nat} (h8 : G 4 ≤ 8) {n : Nat} (h : ¬ n % 10 < 8) : some (Value.int (-2)) = some (Value.int (s_tsG G n)) := by
  unfold s_tsG
  by_cases h1 : n < 100
  · rw [if_pos h1, if_neg (fun z => by omega)]
  · rw [if_neg h1, if_neg (fun z => by omega)]
theorem s_tsG2 {G : Nat → Nat} {n : Nat} (h : 30 ≤ n) (hz : ¬ (10 ≤ n / 10 ∧ n / 10 - 10 < G 4)) : some (Value.int (-2)) = some (Value.int (s_tsG G n)) := by
  unfold s_tsG
  by_cases h1 : n < 100
  · rw [if_pos h1, if_neg (fun z => by omega)]
  · rw [if_neg h1, if_neg (fun z => hz ⟨by omega, by omega⟩)]
def s_tsn (σ : s_St) (n : Nat) : Int32 := if n = 0 then nI (σ.2 1) else if n = 1 then nI (σ.2 2) else if n = 2 then nI (σ.1 2) else if n = 3 then nI (s_offs σ.1 (fun _ => false)) else if n = 4 then nI (σ.2 7) else if n = 5 then nI (σ.2 8) else if n = 6 then eI (σ.2 3) else if n < 10 then -2 else s_tsG σ.1 n
def s_ts (σ : s_St) (a : Int32) : Int32 := if a < 0 then -2 else s_tsn σ a.toNatClampNeg
theorem s_ts_nI (σ : s_St) {n : Nat} (h : n < 2 ^ 31) : s_ts σ (nI n) = s_tsn σ n := by rw [s_ts, if_neg (nI_pos h), nI_clamp h]
section DAYS2
variable (sc : Nat × (Nat → Int32)) (d : Nat) (μ : x_Me) (w : Int64)
set_option maxHeartbeats 1000000 in
theorem tX7_tellOfGoer (σ : s_St) (hok : s_ok σ) (hc : c_St μ σ) (n : Nat) (hn : n < 2 ^ 31) (h10 : 10 ≤ n) : x_K sc (d + 3) mX7_tellOfGoer [.ref 129, .int (nI n)] μ w (x_p (some (.int (s_tsG σ.1 n))) μ w) := by
  have hW : f_W σ.1 := hok.1
  have h8 : σ.1 4 ≤ 8 := hW.1.2.2.2.2.1
  have hC : f_C μ 130 σ.1 := hc.1
  have hdv : nI n / (10 : Int32) = nI (n / 10) := pk_div (by omega) (by decide) (by decide)
  have hrm : nI n - nI n / (10 : Int32) * 10 = nI (n % 10) := pk_rem (d := 10) (by omega) (by decide) (by decide)
  refine x_K.of (by decide) (Nat.le_of_ble_eq_true rfl) ?_
  show x_T sc (d + 3) mX7_tellOfGoer 0 [.ref 129, .int (nI n), .retAddr 0, .retAddr 0] [] μ w _
  refine xt_iload_n _ dX7_tellOfGoer_0 rfl ?_
  refine xt_bipush (10) dX7_tellOfGoer_1 (by decide) ?_
  refine xt_icmp_lt 15 dX7_tellOfGoer_3 (by decide) (fun q => absurd q (nI_nlt (b := 10) (by omega) (by omega))) (fun _ => ?_)
  refine xt_iload_n _ dX7_tellOfGoer_6 rfl ?_
  refine xt_bipush (10) dX7_tellOfGoer_7 (by decide) ?_
  refine xt_irem dX7_tellOfGoer_9 (by decide) ?_
  refine xt_bipush (8) dX7_tellOfGoer_10 (by decide) ?_
  rw [hrm]
  refine xt_icmp_lt 18 dX7_tellOfGoer_12 (by decide) (fun t12 => ?_) (fun f12 => ?_)
  · have n12 : (n % 10) < 8 := (nI_ltI (a := (n % 10)) (b := 8) (by omega) (by omega)).mp t12
    refine xt_iload_n _ dX7_tellOfGoer_18 rfl ?_
    refine xt_bipush (10) dX7_tellOfGoer_19 (by decide) ?_
    refine xt_idiv dX7_tellOfGoer_21 (by decide) ?_
    rw [hdv]
    refine xt_istore_n dX7_tellOfGoer_22 (by decide) rfl ?_
    change x_T _ _ _ _ [_, _, _, _] _ _ _ _
    refine xt_iload_n _ dX7_tellOfGoer_23 rfl ?_
    refine xt_bipush (10) dX7_tellOfGoer_24 (by decide) ?_
    refine xt_irem dX7_tellOfGoer_26 (by decide) ?_
    rw [hrm]
    refine xt_istore_n dX7_tellOfGoer_27 (by decide) rfl ?_
    change x_T _ _ _ _ [_, _, _, _] _ _ _ _
    refine xt_iload_n _ dX7_tellOfGoer_28 rfl ?_
    refine xt_iconst (2) dX7_tellOfGoer_29 (by decide) ?_
    refine xt_icmp_gt 74 dX7_tellOfGoer_30 (by decide) (fun t30 => ?_) (fun f30 => ?_)
    · have n30 : 2 < (n / 10) := (nI_ltI (a := 2) (b := (n / 10)) (by omega) (by omega)).mp t30
      refine xt_aload_n _ dX7_tellOfGoer_74 rfl ?_
      refine xt_getr _ dX7_tellOfGoer_75 kfX7_12 (by first | exact sh129 | exact sh130 | rfl | assumption) rfl ?_
      refine xt_iload_n _ dX7_tellOfGoer_78 rfl ?_
      refine xt_bipush (10) dX7_tellOfGoer_79 (by decide) ?_
      refine xt_isub dX7_tellOfGoer_81 ?_
      refine xt_cV _ dX7_tellOfGoer_82 klX7_106 (tX2_hasGoer sc _ w f_S130 hC _) sh130 rfl rfl (Nat.le_of_ble_eq_true rfl) ?_
      have hgt : s_hasG σ.1 (nI (n / 10) - 10) = (if 10 ≤ n / 10 ∧ n / 10 - 10 < σ.1 4 then 1 else 0) := s_hasG_sub h8 (by omega)
      rw [hgt]
      refine xt_if_eq 109 dX7_tellOfGoer_85 (by decide) (fun t85 => ?_) (fun f85 => ?_)
      · refine xt_bipush (-2) dX7_tellOfGoer_109 (by decide) ?_
        exact xt_iret .int dX7_tellOfGoer_111 rfl (by first | rfl | assumption) ⟨s_tsG2 (by omega) (fun z => by rw [if_pos z] at t85; exact absurd t85 (by decide)), rfl, rfl⟩
      · have hkk : 10 ≤ n / 10 ∧ n / 10 - 10 < σ.1 4 := Classical.byContradiction (fun z => f85 (by rw [if_neg z]))
        refine xt_iload_n _ dX7_tellOfGoer_88 rfl ?_
        refine xt_bipush (6) dX7_tellOfGoer_89 (by decide) ?_
        refine xt_icmp_ge 109 dX7_tellOfGoer_91 (by decide) (fun t91 => ?_) (fun f91 => ?_)
        · have n91 : 6 ≤ (n % 10) := (nI_leI (a := 6) (b := (n % 10)) (by omega) (by omega)).mp t91
          refine xt_bipush (-2) dX7_tellOfGoer_109 (by decide) ?_
          exact xt_iret .int dX7_tellOfGoer_111 rfl (by first | rfl | assumption) ⟨by rw [s_tsG, if_neg (by omega), if_neg (fun z => by omega)], rfl, rfl⟩
        · have n91 : ¬ (6 ≤ (n % 10)) := fun z => f91 ((nI_leI (a := 6) (b := (n % 10)) (by omega) (by omega)).mpr z)
          refine xt_aload_n _ dX7_tellOfGoer_94 rfl ?_
          refine xt_getr _ dX7_tellOfGoer_95 kfX7_12 (by first | exact sh129 | exact sh130 | rfl | assumption) rfl ?_
          refine xt_iload_n _ dX7_tellOfGoer_98 rfl ?_
          refine xt_bipush (10) dX7_tellOfGoer_99 (by decide) ?_
          refine xt_isub dX7_tellOfGoer_101 ?_
          refine xt_iload_n _ dX7_tellOfGoer_102 rfl ?_
          rw [show nI (n / 10) - (10 : Int32) = nI (n / 10 - 10) from pk_sub (b := 10) (by omega)]
          refine xt_cV _ dX7_tellOfGoer_103 klX7_148 (tX2_wrongsOf sc _ w f_S130 hC (n / 10 - 10) (n % 10) (by omega) (by omega)) sh130 rfl rfl (Nat.le_of_ble_eq_true rfl) ?_
          refine xt_goto 111 dX7_tellOfGoer_106 (by decide) ?_
          exact xt_iret .int dX7_tellOfGoer_111 rfl (by first | rfl | assumption) ⟨by rw [s_tsG, if_neg (by omega), if_pos ⟨by omega, by omega⟩, show (n - 100) / 10 = n / 10 - 10 by omega], rfl, rfl⟩
    · have n30 : ¬ (2 < (n / 10)) := fun z => f30 ((nI_ltI (a := 2) (b := (n / 10)) (by omega) (by omega)).mpr z)
      refine xt_aload_n _ dX7_tellOfGoer_33 rfl ?_
      refine xt_getr _ dX7_tellOfGoer_34 kfX7_12 (by first | exact sh129 | exact sh130 | rfl | assumption) rfl ?_
      refine xt_iload_n _ dX7_tellOfGoer_37 rfl ?_
      refine xt_cV _ dX7_tellOfGoer_38 klX7_106 (tX2_hasGoer sc _ w f_S130 hC _) sh130 rfl rfl (Nat.le_of_ble_eq_true rfl) ?_
      have hgk : s_hasG σ.1 (nI (n % 10)) = (if n % 10 < σ.1 4 then 1 else 0) := s_hasG_nI h8 (by omega)
      rw [hgk]
      refine xt_if_ne 49 dX7_tellOfGoer_41 (by decide) (fun t41 => ?_) (fun f41 => ?_)
      · have hkk : n % 10 < σ.1 4 := Classical.byContradiction (fun z => t41 (by rw [if_neg z]))
        refine xt_iload_n _ dX7_tellOfGoer_49 rfl ?_
        refine xt_iconst (1) dX7_tellOfGoer_50 (by decide) ?_
        refine xt_icmp_ne 65 dX7_tellOfGoer_51 (by decide) (fun t51 => ?_) (fun f51 => ?_)
        · have n51 : ¬ ((n / 10) = 1) := fun z => t51 ((nI_eq (a := (n / 10)) (b := 1) (by omega) (by omega)).mpr z)
          refine xt_aload_n _ dX7_tellOfGoer_65 rfl ?_
          refine xt_getr _ dX7_tellOfGoer_66 kfX7_12 (by first | exact sh129 | exact sh130 | rfl | assumption) rfl ?_
          refine xt_iload_n _ dX7_tellOfGoer_69 rfl ?_
          refine xt_cV _ dX7_tellOfGoer_70 klX7_160 (tX2_yOf sc _ w f_S130 hC hW (n % 10) hkk) sh130 rfl rfl (Nat.le_of_ble_eq_true rfl) ?_
          exact xt_iret .int dX7_tellOfGoer_73 rfl (by first | rfl | assumption) ⟨by rw [s_tsG, if_pos (by omega), if_pos ⟨by omega, hkk⟩, if_neg (by omega)], rfl, rfl⟩
        · have n51 : (n / 10) = 1 := (nI_eq (a := (n / 10)) (b := 1) (by omega) (by omega)).mp f51
          refine xt_aload_n _ dX7_tellOfGoer_54 rfl ?_
          refine xt_getr _ dX7_tellOfGoer_55 kfX7_12 (by first | exact sh129 | exact sh130 | rfl | assumption) rfl ?_
          refine xt_iload_n _ dX7_tellOfGoer_58 rfl ?_
          refine xt_cV _ dX7_tellOfGoer_59 klX7_157 (tX2_xOf sc _ w f_S130 hC hW (n % 10) hkk) sh130 rfl rfl (Nat.le_of_ble_eq_true rfl) ?_
          refine xt_goto 73 dX7_tellOfGoer_62 (by decide) ?_
          exact xt_iret .int dX7_tellOfGoer_73 rfl (by first | rfl | assumption) ⟨by rw [s_tsG, if_pos (by omega), if_pos ⟨by omega, hkk⟩, if_pos (by omega)], rfl, rfl⟩
      · have hkk : ¬ n % 10 < σ.1 4 := fun z => by rw [if_pos z] at f41; exact absurd f41 (by decide)
        refine xt_bipush (-2) dX7_tellOfGoer_44 (by decide) ?_
        refine xt_goto 73 dX7_tellOfGoer_46 (by decide) ?_
        exact xt_iret .int dX7_tellOfGoer_73 rfl (by first | rfl | assumption) ⟨by rw [s_tsG, if_pos (by omega), if_neg (fun z => hkk z.2)], rfl, rfl⟩
  · have n12 : ¬ ((n % 10) < 8) := fun z => f12 ((nI_ltI (a := (n % 10)) (b := 8) (by omega) (by omega)).mpr z)
    refine xt_bipush (-2) dX7_tellOfGoer_15 (by decide) ?_
    exact xt_iret .int dX7_tellOfGoer_17 rfl (by first | rfl | assumption) ⟨s_tsG8 h8 (by omega), rfl, rfl⟩
set_option maxHeartbeats 400000 in
theorem tX7_tellOfGoer_no (a : Int32) (h : a < 10) : x_K sc d mX7_tellOfGoer [.ref 129, .int a] μ w (x_p (some (.int (-2))) μ w) := by
  refine x_K.of (by decide) (Nat.le_of_ble_eq_true rfl) ?_
  show x_T sc d mX7_tellOfGoer 0 [.ref 129, .int a, .retAddr 0, .retAddr 0] [] μ w _
  refine xt_iload_n _ dX7_tellOfGoer_0 rfl ?_
  refine xt_bipush (10) dX7_tellOfGoer_1 (by decide) ?_
  refine xt_icmp_lt 15 dX7_tellOfGoer_3 (by decide) (fun _ => ?_) (fun q => absurd h q)
  refine xt_bipush (-2) dX7_tellOfGoer_15 (by decide) ?_
  exact xt_iret .int dX7_tellOfGoer_17 rfl (by first | rfl | assumption) ⟨rfl, rfl, rfl⟩
set_option maxHeartbeats 2000000 in
theorem tX7_tell (σ : s_St) (hok : s_ok σ) (hc : c_St μ σ) (a : Int32) : x_K sc (d + 4) mX7_tell [.ref 129, .int a] μ w (x_p (some (.int (s_ts σ a))) μ w) := by
  have hW : f_W σ.1 := hok.1
  have h8 : σ.1 4 ≤ 8 := hW.1.2.2.2.2.1
  have hC : f_C μ 130 σ.1 := hc.1
  refine x_K.of (by decide) (Nat.le_of_ble_eq_true rfl) ?_
  show x_T sc (d + 4) mX7_tell 0 [.ref 129, .int a] [] μ w _
  by_cases hneg : a < 0
  · have hts : s_ts σ a = -2 := by rw [s_ts, if_pos hneg]
    rw [hts]
    refine xt_iload_n _ dX7_tell_0 rfl ?_
    refine xt_tabOut 86 dX7_tell_1 (by left; rw [Int32.lt_iff_toInt_lt] at hneg; exact hneg) (by decide) ?_
    refine xt_aload_n _ dX7_tell_86 rfl ?_
    refine xt_iload_n _ dX7_tell_87 rfl ?_
    refine xt_cV _ dX7_tell_88 klX7_154 (tX7_tellOfGoer_no sc _ μ w a (Int32.lt_trans hneg (by decide))) sh129 rfl rfl (Nat.le_of_ble_eq_true rfl) ?_
    exact xt_iret .int dX7_tell_91 rfl (by first | rfl | assumption) ⟨rfl, rfl, rfl⟩
  · obtain ⟨n, hn, rfl⟩ := nI_of hneg
    rw [s_ts_nI σ hn]
    by_cases h7 : n < 7
    · have hn' : n = 0 ∨ n = 1 ∨ n = 2 ∨ n = 3 ∨ n = 4 ∨ n = 5 ∨ n = 6 := by omega
      rcases hn' with rfl | rfl | rfl | rfl | rfl | rfl | rfl
      · skip
        refine xt_iload_n _ dX7_tell_0 rfl ?_
        refine xt_tabIn 44 dX7_tell_1 (by decide) (by decide) (by rfl) (by decide) ?_
        refine xt_aload_n _ dX7_tell_44 rfl ?_
        refine xt_geti dX7_tell_45 kfX7_47 (by first | exact sh129 | exact sh130 | rfl | assumption) rfl ?_
        exact xt_iret .int dX7_tell_48 rfl (by first | rfl | assumption) ⟨congrArg (fun z => some (Value.int z)) (hc.2 1 (by decide) (by decide)), rfl, rfl⟩
      · skip
        refine xt_iload_n _ dX7_tell_0 rfl ?_
        refine xt_tabIn 49 dX7_tell_1 (by decide) (by decide) (by rfl) (by decide) ?_
        refine xt_aload_n _ dX7_tell_49 rfl ?_
        refine xt_geti dX7_tell_50 kfX7_50 (by first | exact sh129 | exact sh130 | rfl | assumption) rfl ?_
        exact xt_iret .int dX7_tell_53 rfl (by first | rfl | assumption) ⟨congrArg (fun z => some (Value.int z)) (hc.2 2 (by decide) (by decide)), rfl, rfl⟩
      · skip
        refine xt_iload_n _ dX7_tell_0 rfl ?_
        refine xt_tabIn 54 dX7_tell_1 (by decide) (by decide) (by rfl) (by decide) ?_
        refine xt_aload_n _ dX7_tell_54 rfl ?_
        refine xt_getr _ dX7_tell_55 kfX7_12 (by first | exact sh129 | exact sh130 | rfl | assumption) rfl ?_
        refine xt_geti dX7_tell_58 kfX7_134 (by first | exact sh129 | exact sh130 | rfl | assumption) rfl ?_
        exact xt_iret .int dX7_tell_61 rfl (by first | rfl | assumption) ⟨congrArg (fun z => some (Value.int z)) (hC.1 2 (by decide)), rfl, rfl⟩
      · skip
        refine xt_iload_n _ dX7_tell_0 rfl ?_
        refine xt_tabIn 62 dX7_tell_1 (by decide) (by decide) (by rfl) (by decide) ?_
        refine xt_aload_n _ dX7_tell_62 rfl ?_
        refine xt_getr _ dX7_tell_63 kfX7_12 (by first | exact sh129 | exact sh130 | rfl | assumption) rfl ?_
        refine xt_iconst (0) dX7_tell_66 (by decide) ?_
        refine xt_cV _ dX7_tell_67 klX7_126 (tX2_offenders sc _ w f_S130 hC hW 0 (fun _ => false) s_str0) sh130 rfl rfl (Nat.le_of_ble_eq_true rfl) ?_
        exact xt_iret .int dX7_tell_70 rfl (by first | rfl | assumption) ⟨rfl, rfl, rfl⟩
      · skip
        refine xt_iload_n _ dX7_tell_0 rfl ?_
        refine xt_tabIn 71 dX7_tell_1 (by decide) (by decide) (by rfl) (by decide) ?_
        refine xt_aload_n _ dX7_tell_71 rfl ?_
        refine xt_geti dX7_tell_72 kfX7_65 (by first | exact sh129 | exact sh130 | rfl | assumption) rfl ?_
        exact xt_iret .int dX7_tell_75 rfl (by first | rfl | assumption) ⟨congrArg (fun z => some (Value.int z)) (hc.2 7 (by decide) (by decide)), rfl, rfl⟩
      · skip
        refine xt_iload_n _ dX7_tell_0 rfl ?_
        refine xt_tabIn 76 dX7_tell_1 (by decide) (by decide) (by rfl) (by decide) ?_
        refine xt_aload_n _ dX7_tell_76 rfl ?_
        refine xt_geti dX7_tell_77 kfX7_68 (by first | exact sh129 | exact sh130 | rfl | assumption) rfl ?_
        exact xt_iret .int dX7_tell_80 rfl (by first | rfl | assumption) ⟨congrArg (fun z => some (Value.int z)) (hc.2 8 (by decide) (by decide)), rfl, rfl⟩
      · skip
        refine xt_iload_n _ dX7_tell_0 rfl ?_
        refine xt_tabIn 81 dX7_tell_1 (by decide) (by decide) (by rfl) (by decide) ?_
        refine xt_aload_n _ dX7_tell_81 rfl ?_
        refine xt_geti dX7_tell_82 kfX7_53 (by first | exact sh129 | exact sh130 | rfl | assumption) rfl ?_
        exact xt_iret .int dX7_tell_85 rfl (by first | rfl | assumption) ⟨congrArg (fun z => some (Value.int z)) (hc.2 3 (by decide) (by decide)), rfl, rfl⟩
    · by_cases h10 : n < 10
      · rw [show s_tsn σ n = -2 from by rw [s_tsn, if_neg (by omega), if_neg (by omega), if_neg (by omega), if_neg (by omega), if_neg (by omega), if_neg (by omega), if_neg (by omega), if_pos h10]]
        refine xt_iload_n _ dX7_tell_0 rfl ?_
        refine xt_tabOut 86 dX7_tell_1 (Or.inr (by rw [nI_toInt (by omega)]; omega)) (by decide) ?_
        refine xt_aload_n _ dX7_tell_86 rfl ?_
        refine xt_iload_n _ dX7_tell_87 rfl ?_
        refine xt_cV _ dX7_tell_88 klX7_154 (tX7_tellOfGoer_no sc _ μ w (nI n) (nI_lt (b := 10) h10 (by decide))) sh129 rfl rfl (Nat.le_of_ble_eq_true rfl) ?_
        exact xt_iret .int dX7_tell_91 rfl (by first | rfl | assumption) ⟨rfl, rfl, rfl⟩
      · rw [show s_tsn σ n = s_tsG σ.1 n from by rw [s_tsn, if_neg (by omega), if_neg (by omega), if_neg (by omega), if_neg (by omega), if_neg (by omega), if_neg (by omega), if_neg (by omega), if_neg h10]]
        refine xt_iload_n _ dX7_tell_0 rfl ?_
        refine xt_tabOut 86 dX7_tell_1 (Or.inr (by rw [nI_toInt (by omega)]; omega)) (by decide) ?_
        refine xt_aload_n _ dX7_tell_86 rfl ?_
        refine xt_iload_n _ dX7_tell_87 rfl ?_
        refine xt_cV _ dX7_tell_88 klX7_154 (tX7_tellOfGoer sc _ μ w σ hok hc n hn (by omega)) sh129 rfl rfl (Nat.le_of_ble_eq_true rfl) ?_
        exact xt_iret .int dX7_tell_91 rfl (by first | rfl | assumption) ⟨rfl, rfl, rfl⟩
set_option maxHeartbeats 4000000 in
theorem tX12_ofState (f : Nat) (σ : s_St) (hok : s_ok σ) (hm : m_St μ f σ) (a : Int32) : x_K sc (d + 4) mX12_ofState [.ref 152, .int a] μ w (x_p (some (.int (s_ts σ a))) μ w) := by
  have hW : f_W σ.1 := hok.1
  have h8 : σ.1 4 ≤ 8 := hW.1.2.2.2.2.1
  have hS : m_S μ f σ.1 := hm.1
  refine x_K.of (by decide) (Nat.le_of_ble_eq_true rfl) ?_
  show x_T sc (d + 4) mX12_ofState 0 [.ref 152, .int a, .retAddr 0] [] μ w _
  by_cases hneg : a < 0
  · have hts : s_ts σ a = -2 := by rw [s_ts, if_pos hneg]
    rw [hts]
    refine xt_iload_n _ dX12_ofState_0 rfl ?_
    refine xt_bipush (10) dX12_ofState_1 (by decide) ?_
    refine xt_irem dX12_ofState_3 (by decide) ?_
    refine xt_istore_n dX12_ofState_4 (by decide) rfl ?_
    change x_T _ _ _ _ [_, _, _] _ _ _ _
    refine xt_iload_n _ dX12_ofState_5 rfl ?_
    refine xt_bipush (100) dX12_ofState_6 (by decide) ?_
    refine xt_icmp_lt 54 dX12_ofState_8 (by decide) (fun _ => ?_) (fun q => absurd (Int32.lt_trans hneg (by decide)) q)
    refine xt_iload_n _ dX12_ofState_54 rfl ?_
    refine xt_bipush (10) dX12_ofState_55 (by decide) ?_
    refine xt_icmp_lt 101 dX12_ofState_57 (by decide) (fun _ => ?_) (fun q => absurd (Int32.lt_trans hneg (by decide)) q)
    refine xt_iload_n _ dX12_ofState_101 rfl ?_
    refine xt_tabOut 179 dX12_ofState_102 (by left; rw [Int32.lt_iff_toInt_lt] at hneg; exact hneg) (by decide) ?_
    refine xt_bipush (-2) dX12_ofState_179 (by decide) ?_
    exact xt_iret .int dX12_ofState_181 rfl (by first | rfl | assumption) ⟨rfl, rfl, rfl⟩
  · obtain ⟨n, hn, rfl⟩ := nI_of hneg
    rw [s_ts_nI σ hn]
    by_cases h7 : n < 7
    · have hn' : n = 0 ∨ n = 1 ∨ n = 2 ∨ n = 3 ∨ n = 4 ∨ n = 5 ∨ n = 6 := by omega
      rcases hn' with rfl | rfl | rfl | rfl | rfl | rfl | rfl
      · skip
        refine xt_iload_n _ dX12_ofState_0 rfl ?_
        refine xt_bipush (10) dX12_ofState_1 (by decide) ?_
        refine xt_irem dX12_ofState_3 (by decide) ?_
        refine xt_istore_n dX12_ofState_4 (by decide) rfl ?_
        change x_T _ _ _ _ [_, _, _] _ _ _ _
        refine xt_iload_n _ dX12_ofState_5 rfl ?_
        refine xt_bipush (100) dX12_ofState_6 (by decide) ?_
        refine xt_icmp_lt 54 dX12_ofState_8 (by decide) (fun _ => ?_) (fun q => absurd (by decide) q)
        refine xt_iload_n _ dX12_ofState_54 rfl ?_
        refine xt_bipush (10) dX12_ofState_55 (by decide) ?_
        refine xt_icmp_lt 101 dX12_ofState_57 (by decide) (fun _ => ?_) (fun q => absurd (by decide) q)
        refine xt_iload_n _ dX12_ofState_101 rfl ?_
        refine xt_tabIn 144 dX12_ofState_102 (by decide) (by decide) (by rfl) (by decide) ?_
        refine xt_aload_n _ dX12_ofState_144 rfl ?_
        refine xt_geti dX12_ofState_145 kfX12_266 (by first | exact sh152 | rfl | assumption) rfl ?_
        exact xt_iret .int dX12_ofState_148 rfl (by first | rfl | assumption) ⟨congrArg (fun z => some (Value.int z)) (hm.2.1.1), rfl, rfl⟩
      · skip
        refine xt_iload_n _ dX12_ofState_0 rfl ?_
        refine xt_bipush (10) dX12_ofState_1 (by decide) ?_
        refine xt_irem dX12_ofState_3 (by decide) ?_
        refine xt_istore_n dX12_ofState_4 (by decide) rfl ?_
        change x_T _ _ _ _ [_, _, _] _ _ _ _
        refine xt_iload_n _ dX12_ofState_5 rfl ?_
        refine xt_bipush (100) dX12_ofState_6 (by decide) ?_
        refine xt_icmp_lt 54 dX12_ofState_8 (by decide) (fun _ => ?_) (fun q => absurd (by decide) q)
        refine xt_iload_n _ dX12_ofState_54 rfl ?_
        refine xt_bipush (10) dX12_ofState_55 (by decide) ?_
        refine xt_icmp_lt 101 dX12_ofState_57 (by decide) (fun _ => ?_) (fun q => absurd (by decide) q)
        refine xt_iload_n _ dX12_ofState_101 rfl ?_
        refine xt_tabIn 149 dX12_ofState_102 (by decide) (by decide) (by rfl) (by decide) ?_
        refine xt_aload_n _ dX12_ofState_149 rfl ?_
        refine xt_geti dX12_ofState_150 kfX12_269 (by first | exact sh152 | rfl | assumption) rfl ?_
        exact xt_iret .int dX12_ofState_153 rfl (by first | rfl | assumption) ⟨congrArg (fun z => some (Value.int z)) (hm.2.1.2.1), rfl, rfl⟩
      · skip
        refine xt_iload_n _ dX12_ofState_0 rfl ?_
        refine xt_bipush (10) dX12_ofState_1 (by decide) ?_
        refine xt_irem dX12_ofState_3 (by decide) ?_
        refine xt_istore_n dX12_ofState_4 (by decide) rfl ?_
        change x_T _ _ _ _ [_, _, _] _ _ _ _
        refine xt_iload_n _ dX12_ofState_5 rfl ?_
        refine xt_bipush (100) dX12_ofState_6 (by decide) ?_
        refine xt_icmp_lt 54 dX12_ofState_8 (by decide) (fun _ => ?_) (fun q => absurd (by decide) q)
        refine xt_iload_n _ dX12_ofState_54 rfl ?_
        refine xt_bipush (10) dX12_ofState_55 (by decide) ?_
        refine xt_icmp_lt 101 dX12_ofState_57 (by decide) (fun _ => ?_) (fun q => absurd (by decide) q)
        refine xt_iload_n _ dX12_ofState_101 rfl ?_
        refine xt_tabIn 154 dX12_ofState_102 (by decide) (by decide) (by rfl) (by decide) ?_
        refine xt_aload_n _ dX12_ofState_154 rfl ?_
        refine xt_geti dX12_ofState_155 kfX12_263 (by first | exact sh152 | rfl | assumption) rfl ?_
        exact xt_iret .int dX12_ofState_158 rfl (by first | rfl | assumption) ⟨congrArg (fun z => some (Value.int z)) (hS.1.2.2.2.2.2.2.2), rfl, rfl⟩
      · skip
        refine xt_iload_n _ dX12_ofState_0 rfl ?_
        refine xt_bipush (10) dX12_ofState_1 (by decide) ?_
        refine xt_irem dX12_ofState_3 (by decide) ?_
        refine xt_istore_n dX12_ofState_4 (by decide) rfl ?_
        change x_T _ _ _ _ [_, _, _] _ _ _ _
        refine xt_iload_n _ dX12_ofState_5 rfl ?_
        refine xt_bipush (100) dX12_ofState_6 (by decide) ?_
        refine xt_icmp_lt 54 dX12_ofState_8 (by decide) (fun _ => ?_) (fun q => absurd (by decide) q)
        refine xt_iload_n _ dX12_ofState_54 rfl ?_
        refine xt_bipush (10) dX12_ofState_55 (by decide) ?_
        refine xt_icmp_lt 101 dX12_ofState_57 (by decide) (fun _ => ?_) (fun q => absurd (by decide) q)
        refine xt_iload_n _ dX12_ofState_101 rfl ?_
        refine xt_tabIn 159 dX12_ofState_102 (by decide) (by decide) (by rfl) (by decide) ?_
        refine xt_aload_n _ dX12_ofState_159 rfl ?_
        refine xt_cV _ dX12_ofState_160 klX12_322 (tX12_offenders sc _ μ _ f σ.1 hS hW 0 (fun _ => false) s_strM0 0 0 (by decide) (by decide) hm.2.2.1 hm.2.2.2.1 hm.2.2.2.2) sh152 rfl rfl (Nat.le_of_ble_eq_true rfl) ?_
        rw [s_any_offs]
        exact xt_iret .int dX12_ofState_163 rfl (by first | rfl | assumption) ⟨rfl, rfl, rfl⟩
      · skip
        refine xt_iload_n _ dX12_ofState_0 rfl ?_
        refine xt_bipush (10) dX12_ofState_1 (by decide) ?_
        refine xt_irem dX12_ofState_3 (by decide) ?_
        refine xt_istore_n dX12_ofState_4 (by decide) rfl ?_
        change x_T _ _ _ _ [_, _, _] _ _ _ _
        refine xt_iload_n _ dX12_ofState_5 rfl ?_
        refine xt_bipush (100) dX12_ofState_6 (by decide) ?_
        refine xt_icmp_lt 54 dX12_ofState_8 (by decide) (fun _ => ?_) (fun q => absurd (by decide) q)
        refine xt_iload_n _ dX12_ofState_54 rfl ?_
        refine xt_bipush (10) dX12_ofState_55 (by decide) ?_
        refine xt_icmp_lt 101 dX12_ofState_57 (by decide) (fun _ => ?_) (fun q => absurd (by decide) q)
        refine xt_iload_n _ dX12_ofState_101 rfl ?_
        refine xt_tabIn 164 dX12_ofState_102 (by decide) (by decide) (by rfl) (by decide) ?_
        refine xt_aload_n _ dX12_ofState_164 rfl ?_
        refine xt_geti dX12_ofState_165 kfX12_275 (by first | exact sh152 | rfl | assumption) rfl ?_
        exact xt_iret .int dX12_ofState_168 rfl (by first | rfl | assumption) ⟨congrArg (fun z => some (Value.int z)) (hm.2.1.2.2.2.1), rfl, rfl⟩
      · skip
        refine xt_iload_n _ dX12_ofState_0 rfl ?_
        refine xt_bipush (10) dX12_ofState_1 (by decide) ?_
        refine xt_irem dX12_ofState_3 (by decide) ?_
        refine xt_istore_n dX12_ofState_4 (by decide) rfl ?_
        change x_T _ _ _ _ [_, _, _] _ _ _ _
        refine xt_iload_n _ dX12_ofState_5 rfl ?_
        refine xt_bipush (100) dX12_ofState_6 (by decide) ?_
        refine xt_icmp_lt 54 dX12_ofState_8 (by decide) (fun _ => ?_) (fun q => absurd (by decide) q)
        refine xt_iload_n _ dX12_ofState_54 rfl ?_
        refine xt_bipush (10) dX12_ofState_55 (by decide) ?_
        refine xt_icmp_lt 101 dX12_ofState_57 (by decide) (fun _ => ?_) (fun q => absurd (by decide) q)
        refine xt_iload_n _ dX12_ofState_101 rfl ?_
        refine xt_tabIn 169 dX12_ofState_102 (by decide) (by decide) (by rfl) (by decide) ?_
        refine xt_aload_n _ dX12_ofState_169 rfl ?_
        refine xt_geti dX12_ofState_170 kfX12_278 (by first | exact sh152 | rfl | assumption) rfl ?_
        exact xt_iret .int dX12_ofState_173 rfl (by first | rfl | assumption) ⟨congrArg (fun z => some (Value.int z)) (hm.2.1.2.2.2.2), rfl, rfl⟩
      · skip
        refine xt_iload_n _ dX12_ofState_0 rfl ?_
        refine xt_bipush (10) dX12_ofState_1 (by decide) ?_
        refine xt_irem dX12_ofState_3 (by decide) ?_
        refine xt_istore_n dX12_ofState_4 (by decide) rfl ?_
        change x_T _ _ _ _ [_, _, _] _ _ _ _
        refine xt_iload_n _ dX12_ofState_5 rfl ?_
        refine xt_bipush (100) dX12_ofState_6 (by decide) ?_
        refine xt_icmp_lt 54 dX12_ofState_8 (by decide) (fun _ => ?_) (fun q => absurd (by decide) q)
        refine xt_iload_n _ dX12_ofState_54 rfl ?_
        refine xt_bipush (10) dX12_ofState_55 (by decide) ?_
        refine xt_icmp_lt 101 dX12_ofState_57 (by decide) (fun _ => ?_) (fun q => absurd (by decide) q)
        refine xt_iload_n _ dX12_ofState_101 rfl ?_
        refine xt_tabIn 174 dX12_ofState_102 (by decide) (by decide) (by rfl) (by decide) ?_
        refine xt_aload_n _ dX12_ofState_174 rfl ?_
        refine xt_geti dX12_ofState_175 kfX12_272 (by first | exact sh152 | rfl | assumption) rfl ?_
        exact xt_iret .int dX12_ofState_178 rfl (by first | rfl | assumption) ⟨congrArg (fun z => some (Value.int z)) (hm.2.1.2.2.1), rfl, rfl⟩
    · have hrm : nI n - nI n / (10 : Int32) * 10 = nI (n % 10) := pk_rem (d := 10) (by omega) (by decide) (by decide)
      by_cases h10 : n < 10
      · rw [show s_tsn σ n = -2 from by rw [s_tsn, if_neg (by omega), if_neg (by omega), if_neg (by omega), if_neg (by omega), if_neg (by omega), if_neg (by omega), if_neg (by omega), if_pos h10]]
        refine xt_iload_n _ dX12_ofState_0 rfl ?_
        refine xt_bipush (10) dX12_ofState_1 (by decide) ?_
        refine xt_irem dX12_ofState_3 (by decide) ?_
        refine xt_istore_n dX12_ofState_4 (by decide) rfl ?_
        change x_T _ _ _ _ [_, _, _] _ _ _ _
        refine xt_iload_n _ dX12_ofState_5 rfl ?_
        refine xt_bipush (100) dX12_ofState_6 (by decide) ?_
        refine xt_icmp_lt 54 dX12_ofState_8 (by decide) (fun _ => ?_) (fun q => absurd (nI_lt (b := 100) (by omega) (by decide)) q)
        refine xt_iload_n _ dX12_ofState_54 rfl ?_
        refine xt_bipush (10) dX12_ofState_55 (by decide) ?_
        refine xt_icmp_lt 101 dX12_ofState_57 (by decide) (fun _ => ?_) (fun q => absurd (nI_lt (b := 10) h10 (by decide)) q)
        refine xt_iload_n _ dX12_ofState_101 rfl ?_
        refine xt_tabOut 179 dX12_ofState_102 (Or.inr (by rw [nI_toInt (by omega)]; omega)) (by decide) ?_
        refine xt_bipush (-2) dX12_ofState_179 (by decide) ?_
        exact xt_iret .int dX12_ofState_181 rfl (by first | rfl | assumption) ⟨rfl, rfl, rfl⟩
      · rw [show s_tsn σ n = s_tsG σ.1 n from by rw [s_tsn, if_neg (by omega), if_neg (by omega), if_neg (by omega), if_neg (by omega), if_neg (by omega), if_neg (by omega), if_neg (by omega), if_neg h10]]
        have e4 : μ 152 24 = nI (σ.1 4) := hS.1.2.2.2.1
        by_cases h100 : n < 100
        · skip
          refine xt_iload_n _ dX12_ofState_0 rfl ?_
          refine xt_bipush (10) dX12_ofState_1 (by decide) ?_
          refine xt_irem dX12_ofState_3 (by decide) ?_
          rw [hrm]
          refine xt_istore_n dX12_ofState_4 (by decide) rfl ?_
          change x_T _ _ _ _ [_, _, _] _ _ _ _
          refine xt_iload_n _ dX12_ofState_5 rfl ?_
          refine xt_bipush (100) dX12_ofState_6 (by decide) ?_
          refine xt_icmp_lt 54 dX12_ofState_8 (by decide) (fun _ => ?_) (fun q => absurd (nI_lt (b := 100) h100 (by decide)) q)
          refine xt_iload_n _ dX12_ofState_54 rfl ?_
          refine xt_bipush (10) dX12_ofState_55 (by decide) ?_
          refine xt_icmp_lt 101 dX12_ofState_57 (by decide) (fun q => absurd q (nI_nlt (b := 10) (by omega) (by omega))) (fun _ => ?_)
          refine xt_iload_n _ dX12_ofState_60 rfl ?_
          refine xt_bipush (30) dX12_ofState_61 (by decide) ?_
          refine xt_icmp_ge 98 dX12_ofState_63 (by decide) (fun t63 => ?_) (fun f63 => ?_)
          · have n63 : 30 ≤ n := (nI_leI (a := 30) (b := n) (by omega) (by omega)).mp t63
            refine xt_bipush (-2) dX12_ofState_98 (by decide) ?_
            exact xt_iret .int dX12_ofState_100 rfl (by first | rfl | assumption) ⟨by rw [s_tsG, if_pos h100, if_neg (fun z => by omega)], rfl, rfl⟩
          · have n63 : ¬ (30 ≤ n) := fun z => f63 ((nI_leI (a := 30) (b := n) (by omega) (by omega)).mpr z)
            refine xt_iload_n _ dX12_ofState_66 rfl ?_
            refine xt_aload_n _ dX12_ofState_67 rfl ?_
            refine xt_geti dX12_ofState_68 kfX12_251 (by first | exact sh152 | rfl | assumption) rfl ?_
            rw [e4]
            refine xt_icmp_ge 98 dX12_ofState_71 (by decide) (fun t71 => ?_) (fun f71 => ?_)
            · have n71 : σ.1 4 ≤ (n % 10) := (nI_leI (a := σ.1 4) (b := (n % 10)) (by omega) (by omega)).mp t71
              refine xt_bipush (-2) dX12_ofState_98 (by decide) ?_
              exact xt_iret .int dX12_ofState_100 rfl (by first | rfl | assumption) ⟨by rw [s_tsG, if_pos h100, if_neg (fun z => by omega)], rfl, rfl⟩
            · have n71 : ¬ (σ.1 4 ≤ (n % 10)) := fun z => f71 ((nI_leI (a := σ.1 4) (b := (n % 10)) (by omega) (by omega)).mpr z)
              refine xt_iload_n _ dX12_ofState_74 rfl ?_
              refine xt_bipush (20) dX12_ofState_75 (by decide) ?_
              refine xt_icmp_ge 89 dX12_ofState_77 (by decide) (fun t77 => ?_) (fun f77 => ?_)
              · have n77 : 20 ≤ n := (nI_leI (a := 20) (b := n) (by omega) (by omega)).mp t77
                refine xt_aload_n _ dX12_ofState_89 rfl ?_
                refine xt_getr _ dX12_ofState_90 kfX12_44 (by first | exact sh152 | rfl | assumption) rfl ?_
                refine xt_iload_n _ dX12_ofState_93 rfl ?_
                refine xt_ald dX12_ofState_94 (by first | exact sh152 | rfl | assumption) (by exact vp_in_nI (by omega) (by decide)) ?_
                refine xt_goto 100 dX12_ofState_95 (by decide) ?_
                exact xt_iret .int dX12_ofState_100 rfl (by first | rfl | assumption) ⟨by rw [s_tsG, if_pos h100, if_pos ⟨by omega, by omega⟩, if_neg (by omega), nI_clamp (by omega), (hS.2.1 (n % 10) (by omega)).2], rfl, rfl⟩
              · have n77 : ¬ (20 ≤ n) := fun z => f77 ((nI_leI (a := 20) (b := n) (by omega) (by omega)).mpr z)
                refine xt_aload_n _ dX12_ofState_80 rfl ?_
                refine xt_getr _ dX12_ofState_81 kfX12_41 (by first | exact sh152 | rfl | assumption) rfl ?_
                refine xt_iload_n _ dX12_ofState_84 rfl ?_
                refine xt_ald dX12_ofState_85 (by first | exact sh152 | rfl | assumption) (by exact vp_in_nI (by omega) (by decide)) ?_
                refine xt_goto 100 dX12_ofState_86 (by decide) ?_
                exact xt_iret .int dX12_ofState_100 rfl (by first | rfl | assumption) ⟨by rw [s_tsG, if_pos h100, if_pos ⟨by omega, by omega⟩, if_pos (by omega), nI_clamp (by omega), (hS.2.1 (n % 10) (by omega)).1], rfl, rfl⟩
        · have hd1 : nI n - (100 : Int32) = nI (n - 100) := pk_sub (b := 100) (by omega)
          have hd2 : nI (n - 100) / (10 : Int32) = nI ((n - 100) / 10) := pk_div (by omega) (by decide) (by decide)
          have hix : (6 : Int32) * nI ((n - 100) / 10) + nI (n % 10) = nI (6 * ((n - 100) / 10) + n % 10) := by rw [show (6 : Int32) = nI 6 from rfl, pk_mul, nI_add]
          refine xt_iload_n _ dX12_ofState_0 rfl ?_
          refine xt_bipush (10) dX12_ofState_1 (by decide) ?_
          refine xt_irem dX12_ofState_3 (by decide) ?_
          rw [hrm]
          refine xt_istore_n dX12_ofState_4 (by decide) rfl ?_
          change x_T _ _ _ _ [_, _, _] _ _ _ _
          refine xt_iload_n _ dX12_ofState_5 rfl ?_
          refine xt_bipush (100) dX12_ofState_6 (by decide) ?_
          refine xt_icmp_lt 54 dX12_ofState_8 (by decide) (fun q => absurd q (nI_nlt (b := 100) (by omega) (by omega))) (fun _ => ?_)
          refine xt_aload_n _ dX12_ofState_11 rfl ?_
          refine xt_iload_n _ dX12_ofState_12 rfl ?_
          refine xt_bipush (100) dX12_ofState_13 (by decide) ?_
          refine xt_isub dX12_ofState_15 ?_
          refine xt_bipush (10) dX12_ofState_16 (by decide) ?_
          refine xt_idiv dX12_ofState_18 (by decide) ?_
          rw [hd1, hd2]
          refine xt_cV _ dX12_ofState_19 klX12_303 (tX12_isGoer sc _ μ _ σ.1 h8 e4 _) sh152 rfl rfl (Nat.le_of_ble_eq_true rfl) ?_
          rw [s_hasG_nI h8 (by omega)]
          refine xt_if_eq 51 dX12_ofState_22 (by decide) (fun t22 => ?_) (fun f22 => ?_)
          · refine xt_bipush (-2) dX12_ofState_51 (by decide) ?_
            exact xt_iret .int dX12_ofState_53 rfl (by first | rfl | assumption) ⟨by rw [s_tsG, if_neg h100, if_neg (fun z => by rw [if_pos z.1] at t22; exact absurd t22 (by decide))], rfl, rfl⟩
          · have hgg : (n - 100) / 10 < σ.1 4 := Classical.byContradiction (fun z => f22 (by rw [if_neg z]))
            refine xt_iload_n _ dX12_ofState_25 rfl ?_
            refine xt_bipush (6) dX12_ofState_26 (by decide) ?_
            refine xt_icmp_ge 51 dX12_ofState_28 (by decide) (fun t28 => ?_) (fun f28 => ?_)
            · have n28 : 6 ≤ (n % 10) := (nI_leI (a := 6) (b := (n % 10)) (by omega) (by omega)).mp t28
              refine xt_bipush (-2) dX12_ofState_51 (by decide) ?_
              exact xt_iret .int dX12_ofState_53 rfl (by first | rfl | assumption) ⟨by rw [s_tsG, if_neg h100, if_neg (fun z => by omega)], rfl, rfl⟩
            · have n28 : ¬ (6 ≤ (n % 10)) := fun z => f28 ((nI_leI (a := 6) (b := (n % 10)) (by omega) (by omega)).mpr z)
              refine xt_aload_n _ dX12_ofState_31 rfl ?_
              refine xt_getr _ dX12_ofState_32 kfX12_47 (by first | exact sh152 | rfl | assumption) rfl ?_
              refine xt_bipush (6) dX12_ofState_35 (by decide) ?_
              refine xt_iload_n _ dX12_ofState_37 rfl ?_
              refine xt_bipush (100) dX12_ofState_38 (by decide) ?_
              refine xt_isub dX12_ofState_40 ?_
              refine xt_bipush (10) dX12_ofState_41 (by decide) ?_
              refine xt_idiv dX12_ofState_43 (by decide) ?_
              rw [hd1, hd2]
              refine xt_imul dX12_ofState_44 ?_
              refine xt_iload_n _ dX12_ofState_45 rfl ?_
              refine xt_iadd dX12_ofState_46 ?_
              refine xt_ald dX12_ofState_47 (by first | exact sh152 | rfl | assumption) (by rw [hix]; exact vp_in_nI (by omega) (by decide)) ?_
              refine xt_goto 53 dX12_ofState_48 (by decide) ?_
              exact xt_iret .int dX12_ofState_53 rfl (by first | rfl | assumption) ⟨by rw [s_tsG, if_neg h100, if_pos ⟨hgg, by omega⟩, hix, nI_clamp (by omega), hS.2.2.1 _ (by omega)], rfl, rfl⟩
set_option maxHeartbeats 400000 in
theorem tX7_sumUp0 (σ : s_St) (hc : c_St μ σ) : x_K sc d mX7_sumUp [.ref 129, .int (nI 0)] μ w (x_p (some (.int (s_dec 4 (σ.2 4)))) μ w) := by
  refine x_K.of (by decide) (Nat.le_of_ble_eq_true rfl) ?_
  show x_T sc d mX7_sumUp 0 [.ref 129, .int (nI 0)] [] μ w _
  refine xt_iload_n _ dX7_sumUp_0 rfl ?_
  refine xt_tabIn 40 dX7_sumUp_1 (by decide) (by decide) (by rfl) (by decide) ?_
  refine xt_aload_n _ dX7_sumUp_40 rfl ?_
  refine xt_geti dX7_sumUp_41 kfX7_56 (by first | exact sh129 | exact sh130 | rfl | assumption) rfl ?_
  exact xt_iret .int dX7_sumUp_44 rfl (by first | rfl | assumption) ⟨congrArg (fun z => some (Value.int z)) (hc.2 4 (by decide) (by decide)), rfl, rfl⟩
set_option maxHeartbeats 400000 in
theorem tX7_sumUp1 (σ : s_St) (hc : c_St μ σ) : x_K sc d mX7_sumUp [.ref 129, .int (nI 1)] μ w (x_p (some (.int (s_dec 6 (σ.2 6)))) μ w) := by
  refine x_K.of (by decide) (Nat.le_of_ble_eq_true rfl) ?_
  show x_T sc d mX7_sumUp 0 [.ref 129, .int (nI 1)] [] μ w _
  refine xt_iload_n _ dX7_sumUp_0 rfl ?_
  refine xt_tabIn 45 dX7_sumUp_1 (by decide) (by decide) (by rfl) (by decide) ?_
  refine xt_aload_n _ dX7_sumUp_45 rfl ?_
  refine xt_geti dX7_sumUp_46 kfX7_62 (by first | exact sh129 | exact sh130 | rfl | assumption) rfl ?_
  exact xt_iret .int dX7_sumUp_49 rfl (by first | rfl | assumption) ⟨congrArg (fun z => some (Value.int z)) (hc.2 6 (by decide) (by decide)), rfl, rfl⟩
set_option maxHeartbeats 400000 in
theorem tX7_sumUp2 (σ : s_St) (hc : c_St μ σ) : x_K sc d mX7_sumUp [.ref 129, .int (nI 2)] μ w (x_p (some (.int (s_dec 10 (σ.2 10)))) μ w) := by
  refine x_K.of (by decide) (Nat.le_of_ble_eq_true rfl) ?_
  show x_T sc d mX7_sumUp 0 [.ref 129, .int (nI 2)] [] μ w _
  refine xt_iload_n _ dX7_sumUp_0 rfl ?_
  refine xt_tabIn 50 dX7_sumUp_1 (by decide) (by decide) (by rfl) (by decide) ?_
  refine xt_aload_n _ dX7_sumUp_50 rfl ?_
  refine xt_geti dX7_sumUp_51 kfX7_74 (by first | exact sh129 | exact sh130 | rfl | assumption) rfl ?_
  exact xt_iret .int dX7_sumUp_54 rfl (by first | rfl | assumption) ⟨congrArg (fun z => some (Value.int z)) (hc.2 10 (by decide) (by decide)), rfl, rfl⟩
set_option maxHeartbeats 400000 in
theorem tX7_sumUp3 (σ : s_St) (hc : c_St μ σ) : x_K sc d mX7_sumUp [.ref 129, .int (nI 3)] μ w (x_p (some (.int (s_dec 11 (σ.2 11)))) μ w) := by
  refine x_K.of (by decide) (Nat.le_of_ble_eq_true rfl) ?_
  show x_T sc d mX7_sumUp 0 [.ref 129, .int (nI 3)] [] μ w _
  refine xt_iload_n _ dX7_sumUp_0 rfl ?_
  refine xt_tabIn 55 dX7_sumUp_1 (by decide) (by decide) (by rfl) (by decide) ?_
  refine xt_aload_n _ dX7_sumUp_55 rfl ?_
  refine xt_geti dX7_sumUp_56 kfX7_77 (by first | exact sh129 | exact sh130 | rfl | assumption) rfl ?_
  exact xt_iret .int dX7_sumUp_59 rfl (by first | rfl | assumption) ⟨congrArg (fun z => some (Value.int z)) (hc.2 11 (by decide) (by decide)), rfl, rfl⟩
set_option maxHeartbeats 400000 in
theorem tX7_sumUp4 (σ : s_St) (hc : c_St μ σ) : x_K sc d mX7_sumUp [.ref 129, .int (nI 4)] μ w (x_p (some (.int (s_dec 9 (σ.2 9)))) μ w) := by
  refine x_K.of (by decide) (Nat.le_of_ble_eq_true rfl) ?_
  show x_T sc d mX7_sumUp 0 [.ref 129, .int (nI 4)] [] μ w _
  refine xt_iload_n _ dX7_sumUp_0 rfl ?_
  refine xt_tabIn 60 dX7_sumUp_1 (by decide) (by decide) (by rfl) (by decide) ?_
  refine xt_aload_n _ dX7_sumUp_60 rfl ?_
  refine xt_geti dX7_sumUp_61 kfX7_71 (by first | exact sh129 | exact sh130 | rfl | assumption) rfl ?_
  exact xt_iret .int dX7_sumUp_64 rfl (by first | rfl | assumption) ⟨congrArg (fun z => some (Value.int z)) (hc.2 9 (by decide) (by decide)), rfl, rfl⟩
set_option maxHeartbeats 400000 in
theorem tX7_sumUp5 (σ : s_St) (hc : c_St μ σ) : x_K sc d mX7_sumUp [.ref 129, .int (nI 5)] μ w (x_p (some (.int (s_dec 12 (σ.2 12)))) μ w) := by
  refine x_K.of (by decide) (Nat.le_of_ble_eq_true rfl) ?_
  show x_T sc d mX7_sumUp 0 [.ref 129, .int (nI 5)] [] μ w _
  refine xt_iload_n _ dX7_sumUp_0 rfl ?_
  refine xt_tabIn 65 dX7_sumUp_1 (by decide) (by decide) (by rfl) (by decide) ?_
  refine xt_aload_n _ dX7_sumUp_65 rfl ?_
  refine xt_geti dX7_sumUp_66 kfX7_80 (by first | exact sh129 | exact sh130 | rfl | assumption) rfl ?_
  exact xt_iret .int dX7_sumUp_69 rfl (by first | rfl | assumption) ⟨congrArg (fun z => some (Value.int z)) (hc.2 12 (by decide) (by decide)), rfl, rfl⟩
set_option maxHeartbeats 400000 in
theorem tX7_sumUp_no (a : Int32) (ho : a.toInt < 0 ∨ (5 : Int) < a.toInt) : x_K sc d mX7_sumUp [.ref 129, .int a] μ w (x_p (some (.int (-2))) μ w) := by
  refine x_K.of (by decide) (Nat.le_of_ble_eq_true rfl) ?_
  show x_T sc d mX7_sumUp 0 [.ref 129, .int a] [] μ w _
  refine xt_iload_n _ dX7_sumUp_0 rfl ?_
  refine xt_tabOut 70 dX7_sumUp_1 (by omega) (by decide) ?_
  refine xt_bipush (-2) dX7_sumUp_70 (by decide) ?_
  exact xt_iret .int dX7_sumUp_72 rfl (by first | rfl | assumption) ⟨rfl, rfl, rfl⟩
end DAYS2
set_option maxHeartbeats 2000000 in
theorem st_till (sc : Nat × (Nat → Int32)) (a1 a2 : Int32) : x_stI sc (fun μ _ => x_Inv μ) (fun μ _ => x_Inv μ) mX11_till mX12_till [.int a1, .int a2] := by
  refine x_stFD (-1) ?_ ?_ ?_
  · intro μ w cf cd hcf hcd e0 e1 hk
    refine x_K.of (by decide) (Nat.le_of_ble_eq_true rfl) ?_
    show x_T sc 29 mX11_till 0 [.ref 0, .int a1, .int a2, .retAddr 0, .retAddr 0] [] μ w _
    by_cases h1 : 0 ≤ a1 ∧ a1 < nI cf
    · obtain ⟨f, hf31, rfl⟩ := nI_of (Int32.not_lt.mpr h1.1)
      have hf : f < cf := (nI_ltI hf31 (by omega)).mp h1.2
      have h2 : ¬ (0 ≤ a2 ∧ a2 < nI cd) := fun z => hk ⟨h1, z⟩
      refine xt_aload_n _ dX11_till_0 rfl ?_
      refine xt_iload_n _ dX11_till_1 rfl ?_
      refine xt_cV _ dX11_till_2 klX11_90 (tX11_fairOf sc _ μ w f cf hf hcf e0) sh0 rfl rfl (Nat.le_of_ble_eq_true rfl) ?_
      refine xt_astore_n dX11_till_5 (by decide) rfl ?_
      change x_T _ _ _ _ [_, _, _, _, _] _ _ _ _
      refine xt_aload_n _ dX11_till_6 rfl ?_
      refine xt_iload_n _ dX11_till_7 rfl ?_
      refine xt_cV _ dX11_till_8 klX11_100 (tX11_dayOf_no sc _ μ w cd hcd e1 _ h2) sh0 rfl rfl (Nat.le_of_ble_eq_true rfl) ?_
      refine xt_astore0 dX11_till_11 (by decide) rfl ?_
      change x_T _ _ _ _ [_, _, _, _, _] _ _ _ _
      refine xt_aload_n _ dX11_till_13 rfl ?_
      refine xt_ifnull_r dX11_till_14 ?_
      refine xt_aload0 dX11_till_17 rfl ?_
      refine xt_ifnonnull_n dX11_till_19 ?_
      refine xt_iconst (-1) dX11_till_22 (by decide) ?_
      refine xt_goto 41 dX11_till_23 (by decide) ?_
      exact xt_iret .int dX11_till_41 rfl (by first | rfl | assumption) ⟨rfl, x_keep.rf μ⟩
    · by_cases h2 : 0 ≤ a2 ∧ a2 < nI cd
      · obtain ⟨fd, hfd31, rfl⟩ := nI_of (Int32.not_lt.mpr h2.1)
        have hfd : fd < cd := (nI_ltI hfd31 (by omega)).mp h2.2
        refine xt_aload_n _ dX11_till_0 rfl ?_
        refine xt_iload_n _ dX11_till_1 rfl ?_
        refine xt_cV _ dX11_till_2 klX11_90 (tX11_fairOf_no sc _ μ w cf hcf e0 _ h1) sh0 rfl rfl (Nat.le_of_ble_eq_true rfl) ?_
        refine xt_astore_n0 dX11_till_5 (by decide) rfl ?_
        change x_T _ _ _ _ [_, _, _, _, _] _ _ _ _
        refine xt_aload_n _ dX11_till_6 rfl ?_
        refine xt_iload_n _ dX11_till_7 rfl ?_
        refine xt_cV _ dX11_till_8 klX11_100 (tX11_dayOf sc _ μ w fd cd hfd hcd e1) sh0 rfl rfl (Nat.le_of_ble_eq_true rfl) ?_
        refine xt_astore dX11_till_11 (by decide) rfl ?_
        change x_T _ _ _ _ [_, _, _, _, _] _ _ _ _
        refine xt_aload_n0 dX11_till_13 rfl ?_
        refine xt_ifnull_n 22 dX11_till_14 (by decide) ?_
        refine xt_iconst (-1) dX11_till_22 (by decide) ?_
        refine xt_goto 41 dX11_till_23 (by decide) ?_
        exact xt_iret .int dX11_till_41 rfl (by first | rfl | assumption) ⟨rfl, x_keep.rf μ⟩
      · skip
        refine xt_aload_n _ dX11_till_0 rfl ?_
        refine xt_iload_n _ dX11_till_1 rfl ?_
        refine xt_cV _ dX11_till_2 klX11_90 (tX11_fairOf_no sc _ μ w cf hcf e0 _ h1) sh0 rfl rfl (Nat.le_of_ble_eq_true rfl) ?_
        refine xt_astore_n0 dX11_till_5 (by decide) rfl ?_
        change x_T _ _ _ _ [_, _, _, _, _] _ _ _ _
        refine xt_aload_n _ dX11_till_6 rfl ?_
        refine xt_iload_n _ dX11_till_7 rfl ?_
        refine xt_cV _ dX11_till_8 klX11_100 (tX11_dayOf_no sc _ μ w cd hcd e1 _ h2) sh0 rfl rfl (Nat.le_of_ble_eq_true rfl) ?_
        refine xt_astore0 dX11_till_11 (by decide) rfl ?_
        change x_T _ _ _ _ [_, _, _, _, _] _ _ _ _
        refine xt_aload_n0 dX11_till_13 rfl ?_
        refine xt_ifnull_n 22 dX11_till_14 (by decide) ?_
        refine xt_iconst (-1) dX11_till_22 (by decide) ?_
        refine xt_goto 41 dX11_till_23 (by decide) ?_
        exact xt_iret .int dX11_till_41 rfl (by first | rfl | assumption) ⟨rfl, x_keep.rf μ⟩
  · intro μ w cf cd hcf hcd e0 e1 hk
    refine x_K.of (by decide) (Nat.le_of_ble_eq_true rfl) ?_
    show x_T sc 29 mX12_till 0 [.ref 152, .int a1, .int a2] [] μ w _
    refine xt_aload_n _ dX12_till_0 rfl ?_
    refine xt_iconst (0) dX12_till_1 (by decide) ?_
    refine xt_puti dX12_till_2 kpX12_72 (by first | exact sh152 | rfl | assumption) rfl (by first | rfl | assumption) (by first | rfl | assumption) ?_
    refine xt_aload_n _ dX12_till_5 rfl ?_
    refine xt_iload_n _ dX12_till_6 rfl ?_
    refine xt_iload_n _ dX12_till_7 rfl ?_
    refine xt_cV _ dX12_till_8 klX12_344 (tX12_layAll_no sc _ (x_u μ 152 (upd (μ 152) 0 0)) w cf cd hcf hcd e0 e1 a1 a2 hk) sh152 rfl rfl (Nat.le_of_ble_eq_true rfl) ?_
    refine xt_if_eq 25 dX12_till_11 (by decide) (fun _ => ?_) (fun q => absurd (by decide) q)
    refine xt_iconst (-1) dX12_till_25 (by decide) ?_
    exact xt_iret .int dX12_till_26 rfl (by first | rfl | assumption) ⟨rfl, (x_keep.u (x_keep.u (x_keep.rf μ) (by unfold x_ok; omega)) (by unfold x_ok; omega))⟩
  · intro f fd n F D hf2 hfd2 hkf hkd hW hWd
    subst hkf hkd
    have hn40 := hWd.1
    refine ⟨nI (s_go D n 0 (F, s_c0)).1, ?_, ?_⟩
    · intro μ w cf cd hf hcf hfd hcd e0 e1 hC hCd
      have hS := f_Sf hf2
      have hSd := d_Sf hfd2
      refine x_K.of (by decide) (Nat.le_of_ble_eq_true rfl) ?_
      show x_T sc 29 mX11_till 0 [.ref 0, .int (nI f), .int (nI fd), .retAddr 0, .retAddr 0] [] μ w _
      refine xt_aload_n _ dX11_till_0 rfl ?_
      refine xt_iload_n _ dX11_till_1 rfl ?_
      refine xt_cV _ dX11_till_2 klX11_90 (tX11_fairOf sc _ μ w f cf hf hcf e0) sh0 rfl rfl (Nat.le_of_ble_eq_true rfl) ?_
      refine xt_astore_n dX11_till_5 (by decide) rfl ?_
      change x_T _ _ _ _ [_, _, _, _, _] _ _ _ _
      refine xt_aload_n _ dX11_till_6 rfl ?_
      refine xt_iload_n _ dX11_till_7 rfl ?_
      refine xt_cV _ dX11_till_8 klX11_100 (tX11_dayOf sc _ μ w fd cd hfd hcd e1) sh0 rfl rfl (Nat.le_of_ble_eq_true rfl) ?_
      refine xt_astore dX11_till_11 (by decide) rfl ?_
      change x_T _ _ _ _ [_, _, _, _, _] _ _ _ _
      refine xt_aload_n _ dX11_till_13 rfl ?_
      refine xt_ifnull_r dX11_till_14 ?_
      refine xt_aload _ dX11_till_17 rfl ?_
      refine xt_ifnonnull_r 26 dX11_till_19 (by decide) ?_
      refine xt_aload_n _ dX11_till_26 rfl ?_
      refine xt_getr _ dX11_till_27 kfX11_34 (by first | exact sh0 | exact sh129 | exact hS.1 | exact hSd.1 | rfl | assumption) rfl ?_
      refine xt_aload_n _ dX11_till_30 rfl ?_
      refine xt_aload _ dX11_till_31 rfl ?_
      refine xt_aload _ dX11_till_33 rfl ?_
      refine xt_geti dX11_till_35 kfX11_108 (by first | exact sh0 | exact sh129 | exact hS.1 | exact hSd.1 | rfl | assumption) rfl ?_
      rw [hCd.1]
      refine xt_callV _ dX11_till_38 klX11_111 (tX7_run sc _ μ w (7 + 11 * f) (13 + 11 * fd) n n F D hS (by omega) hW hC hSd (by omega) hWd hCd (Nat.le_refl _)) sh129 rfl rfl (Nat.le_of_ble_eq_true rfl) (fun r2 μ2 w2 q2 => ?_)
      obtain ⟨rfl, hc2, hf2r⟩ := q2
      change x_T _ _ _ _ _ (.int _ :: _) _ _ _
      exact xt_iret .int dX11_till_41 rfl (by first | rfl | assumption) ⟨rfl, (fun a ha => hf2r.1 a (by unfold x_ok at ha; omega))⟩
    · intro μ w cf cd hf hcf hfd hcd e0 e1 hF hM
      refine x_K.of (by decide) (Nat.le_of_ble_eq_true rfl) ?_
      show x_T sc 29 mX12_till 0 [.ref 152, .int (nI f), .int (nI fd)] [] μ w _
      refine xt_aload_n _ dX12_till_0 rfl ?_
      refine xt_iconst (0) dX12_till_1 (by decide) ?_
      refine xt_puti dX12_till_2 kpX12_72 (by first | exact sh152 | rfl | assumption) rfl (by first | rfl | assumption) (by first | rfl | assumption) ?_
      refine xt_aload_n _ dX12_till_5 rfl ?_
      refine xt_iload_n _ dX12_till_6 rfl ?_
      refine xt_iload_n _ dX12_till_7 rfl ?_
      refine xt_callV _ dX12_till_8 klX12_344 (tX12_layAll sc _ (x_u μ 152 (upd (μ 152) 0 0)) w f cf fd cd F hf hcf hfd hcd e0 e1 hF) sh152 rfl rfl (Nat.le_of_ble_eq_true rfl) (fun r1 μ1 w1 q1 => ?_)
      obtain ⟨rfl, hm1, h40, hfr⟩ := q1
      change x_T _ _ _ _ _ (.int 1 :: _) _ _ _
      have hM1 : d_M μ1 fd n D := fun i hi => by rw [hfr 159 (by decide) (by decide) (by decide) (by decide)]; exact hM i hi
      refine xt_if_eq 25 dX12_till_11 (by decide) (fun q => absurd q (by decide)) (fun _ => ?_)
      refine xt_aload_n _ dX12_till_14 rfl ?_
      refine xt_aload_n _ dX12_till_15 rfl ?_
      refine xt_cV _ dX12_till_16 klX12_316 (tX12_deeds sc _ μ1 _ fd n D hfd2 h40 hM1) sh152 rfl rfl (Nat.le_of_ble_eq_true rfl) ?_
      rw [hWd.2.1]
      refine xt_callV _ dX12_till_19 klX12_347 (tX12_play sc _ μ1 _ f (F, s_c0) (s_ok0 hW) hm1 fd n D hfd2 hWd h40 hM1 n (Nat.le_refl _)) sh152 rfl rfl (Nat.le_of_ble_eq_true rfl) (fun r2 μ2 w2 q2 => ?_)
      obtain ⟨rfl, hm2, hf2⟩ := q2
      change x_T _ _ _ _ _ (.int _ :: _) _ _ _
      refine xt_goto 26 dX12_till_22 (by decide) ?_
      exact xt_iret .int dX12_till_26 rfl (by first | rfl | assumption) ⟨rfl, (fun a ha => by rw [hf2.1 a (by unfold x_ok at ha; omega) (by unfold x_ok at ha; omega) (by unfold x_ok at ha; omega) (by unfold x_ok at ha; omega), hfr a (by unfold x_ok at ha; omega) (by unfold x_ok at ha; omega) (by unfold x_ok at ha; omega) (by unfold x_ok at ha; omega), x_u_ne (by unfold x_ok at ha; omega)])⟩
theorem s_go_ok0 {n : Nat} {D : Nat → Int32} (hW : d_W n D) : ∀ {k m : Nat} {σ : s_St}, m + k ≤ n → s_ok σ → s_ok (s_go D k m σ).2
  | 0, m, σ, _, h => h
  | k + 1, m, σ, hk, h => by
    rw [s_go]; split
    · exact s_go_ok0 hW (by omega) (s_ad_ok hW (by omega) h)
    · exact h
theorem s_go_ok {n N : Nat} {D : Nat → Int32} (hW : d_W n D) (hN : N ≤ n) {σ : s_St} (h : s_ok σ) : s_ok (s_go D N 0 σ).2 := s_go_ok0 hW (by omega) h
set_option maxHeartbeats 4000000 in
theorem st_state (sc : Nat × (Nat → Int32)) (a1 a2 a3 a4 : Int32) : x_stI sc (fun μ _ => x_Inv μ) (fun μ _ => x_Inv μ) mX11_state mX12_state [.int a1, .int a2, .int a3, .int a4] := by
  refine x_stFD (-2) ?_ ?_ ?_
  · intro μ w cf cd hcf hcd e0 e1 hk
    refine x_K.of (by decide) (Nat.le_of_ble_eq_true rfl) ?_
    show x_T sc 29 mX11_state 0 [.ref 0, .int a1, .int a2, .int a3, .int a4, .retAddr 0, .retAddr 0] [] μ w _
    by_cases h1 : 0 ≤ a1 ∧ a1 < nI cf
    · obtain ⟨f, hf31, rfl⟩ := nI_of (Int32.not_lt.mpr h1.1)
      have hf : f < cf := (nI_ltI hf31 (by omega)).mp h1.2
      have h2 : ¬ (0 ≤ a2 ∧ a2 < nI cd) := fun z => hk ⟨h1, z⟩
      refine xt_aload_n _ dX11_state_0 rfl ?_
      refine xt_iload_n _ dX11_state_1 rfl ?_
      refine xt_cV _ dX11_state_2 klX11_90 (tX11_fairOf sc _ μ w f cf hf hcf e0) sh0 rfl rfl (Nat.le_of_ble_eq_true rfl) ?_
      refine xt_astore dX11_state_5 (by decide) rfl ?_
      change x_T _ _ _ _ [_, _, _, _, _, _, _] _ _ _ _
      refine xt_aload_n _ dX11_state_7 rfl ?_
      refine xt_iload_n _ dX11_state_8 rfl ?_
      refine xt_cV _ dX11_state_9 klX11_100 (tX11_dayOf_no sc _ μ w cd hcd e1 _ h2) sh0 rfl rfl (Nat.le_of_ble_eq_true rfl) ?_
      refine xt_astore0 dX11_state_12 (by decide) rfl ?_
      change x_T _ _ _ _ [_, _, _, _, _, _, _] _ _ _ _
      refine xt_aload _ dX11_state_14 rfl ?_
      refine xt_ifnull_r dX11_state_16 ?_
      refine xt_aload0 dX11_state_19 rfl ?_
      refine xt_ifnull_n 37 dX11_state_21 (by decide) ?_
      refine xt_bipush (-2) dX11_state_37 (by decide) ?_
      exact xt_iret .int dX11_state_39 rfl (by first | rfl | assumption) ⟨rfl, x_keep.rf μ⟩
    · by_cases h2 : 0 ≤ a2 ∧ a2 < nI cd
      · obtain ⟨fd, hfd31, rfl⟩ := nI_of (Int32.not_lt.mpr h2.1)
        have hfd : fd < cd := (nI_ltI hfd31 (by omega)).mp h2.2
        refine xt_aload_n _ dX11_state_0 rfl ?_
        refine xt_iload_n _ dX11_state_1 rfl ?_
        refine xt_cV _ dX11_state_2 klX11_90 (tX11_fairOf_no sc _ μ w cf hcf e0 _ h1) sh0 rfl rfl (Nat.le_of_ble_eq_true rfl) ?_
        refine xt_astore0 dX11_state_5 (by decide) rfl ?_
        change x_T _ _ _ _ [_, _, _, _, _, _, _] _ _ _ _
        refine xt_aload_n _ dX11_state_7 rfl ?_
        refine xt_iload_n _ dX11_state_8 rfl ?_
        refine xt_cV _ dX11_state_9 klX11_100 (tX11_dayOf sc _ μ w fd cd hfd hcd e1) sh0 rfl rfl (Nat.le_of_ble_eq_true rfl) ?_
        refine xt_astore dX11_state_12 (by decide) rfl ?_
        change x_T _ _ _ _ [_, _, _, _, _, _, _] _ _ _ _
        refine xt_aload0 dX11_state_14 rfl ?_
        refine xt_ifnull_n 37 dX11_state_16 (by decide) ?_
        refine xt_bipush (-2) dX11_state_37 (by decide) ?_
        exact xt_iret .int dX11_state_39 rfl (by first | rfl | assumption) ⟨rfl, x_keep.rf μ⟩
      · skip
        refine xt_aload_n _ dX11_state_0 rfl ?_
        refine xt_iload_n _ dX11_state_1 rfl ?_
        refine xt_cV _ dX11_state_2 klX11_90 (tX11_fairOf_no sc _ μ w cf hcf e0 _ h1) sh0 rfl rfl (Nat.le_of_ble_eq_true rfl) ?_
        refine xt_astore0 dX11_state_5 (by decide) rfl ?_
        change x_T _ _ _ _ [_, _, _, _, _, _, _] _ _ _ _
        refine xt_aload_n _ dX11_state_7 rfl ?_
        refine xt_iload_n _ dX11_state_8 rfl ?_
        refine xt_cV _ dX11_state_9 klX11_100 (tX11_dayOf_no sc _ μ w cd hcd e1 _ h2) sh0 rfl rfl (Nat.le_of_ble_eq_true rfl) ?_
        refine xt_astore0 dX11_state_12 (by decide) rfl ?_
        change x_T _ _ _ _ [_, _, _, _, _, _, _] _ _ _ _
        refine xt_aload0 dX11_state_14 rfl ?_
        refine xt_ifnull_n 37 dX11_state_16 (by decide) ?_
        refine xt_bipush (-2) dX11_state_37 (by decide) ?_
        exact xt_iret .int dX11_state_39 rfl (by first | rfl | assumption) ⟨rfl, x_keep.rf μ⟩
  · intro μ w cf cd hcf hcd e0 e1 hk
    refine x_K.of (by decide) (Nat.le_of_ble_eq_true rfl) ?_
    show x_T sc 29 mX12_state 0 [.ref 152, .int a1, .int a2, .int a3, .int a4] [] μ w _
    refine xt_aload_n _ dX12_state_0 rfl ?_
    refine xt_iconst (0) dX12_state_1 (by decide) ?_
    refine xt_puti dX12_state_2 kpX12_72 (by first | exact sh152 | rfl | assumption) rfl (by first | rfl | assumption) (by first | rfl | assumption) ?_
    refine xt_aload_n _ dX12_state_5 rfl ?_
    refine xt_iload_n _ dX12_state_6 rfl ?_
    refine xt_iload_n _ dX12_state_7 rfl ?_
    refine xt_cV _ dX12_state_8 klX12_344 (tX12_layAll_no sc _ (x_u μ 152 (upd (μ 152) 0 0)) w cf cd hcf hcd e0 e1 a1 a2 hk) sh152 rfl rfl (Nat.le_of_ble_eq_true rfl) ?_
    refine xt_if_eq 44 dX12_state_11 (by decide) (fun _ => ?_) (fun q => absurd (by decide) q)
    refine xt_bipush (-2) dX12_state_44 (by decide) ?_
    exact xt_iret .int dX12_state_46 rfl (by first | rfl | assumption) ⟨rfl, (x_keep.u (x_keep.u (x_keep.rf μ) (by unfold x_ok; omega)) (by unfold x_ok; omega))⟩
  · intro f fd n F D hf2 hfd2 hkf hkd hW hWd
    subst hkf hkd
    have hn40 := hWd.1
    by_cases hr : 0 ≤ a3 ∧ a3 ≤ nI n
    · obtain ⟨N, hN, rfl⟩ := x_rng (N := n) (by omega) hr
      have hgl := s_go_le D N 0 (F, s_c0)
      have hgok := s_go_ok hWd hN (s_ok0 hW)
      refine ⟨if (s_go D N 0 (F, s_c0)).1 < N then -2 else s_ts (s_go D N 0 (F, s_c0)).2 a4, ?_, ?_⟩
      · intro μ w cf cd hf hcf hfd hcd e0 e1 hC hCd
        have hS := f_Sf hf2
        have hSd := d_Sf hfd2
        refine x_K.of (by decide) (Nat.le_of_ble_eq_true rfl) ?_
        show x_T sc 29 mX11_state 0 [.ref 0, .int (nI f), .int (nI fd), .int (nI N), .int a4, .retAddr 0, .retAddr 0] [] μ w _
        refine xt_aload_n _ dX11_state_0 rfl ?_
        refine xt_iload_n _ dX11_state_1 rfl ?_
        refine xt_cV _ dX11_state_2 klX11_90 (tX11_fairOf sc _ μ w f cf hf hcf e0) sh0 rfl rfl (Nat.le_of_ble_eq_true rfl) ?_
        refine xt_astore dX11_state_5 (by decide) rfl ?_
        change x_T _ _ _ _ [_, _, _, _, _, _, _] _ _ _ _
        refine xt_aload_n _ dX11_state_7 rfl ?_
        refine xt_iload_n _ dX11_state_8 rfl ?_
        refine xt_cV _ dX11_state_9 klX11_100 (tX11_dayOf sc _ μ w fd cd hfd hcd e1) sh0 rfl rfl (Nat.le_of_ble_eq_true rfl) ?_
        refine xt_astore dX11_state_12 (by decide) rfl ?_
        change x_T _ _ _ _ [_, _, _, _, _, _, _] _ _ _ _
        refine xt_aload _ dX11_state_14 rfl ?_
        refine xt_ifnull_r dX11_state_16 ?_
        refine xt_aload _ dX11_state_19 rfl ?_
        refine xt_ifnull_r dX11_state_21 ?_
        refine xt_iload_n _ dX11_state_24 rfl ?_
        refine xt_if_lt 37 dX11_state_25 (by decide) (fun q => absurd q (nI_pos (by omega))) (fun _ => ?_)
        refine xt_iload_n _ dX11_state_28 rfl ?_
        refine xt_aload _ dX11_state_29 rfl ?_
        refine xt_geti dX11_state_31 kfX11_108 (by first | exact sh0 | exact sh129 | exact hS.1 | exact hSd.1 | rfl | assumption) rfl ?_
        refine xt_icmp_le 40 dX11_state_34 (by decide) (fun _ => ?_) (fun q => absurd (by rw [hCd.1]; exact nI_le hN (by omega)) q)
        refine xt_aload_n _ dX11_state_40 rfl ?_
        refine xt_getr _ dX11_state_41 kfX11_34 (by first | exact sh0 | exact sh129 | exact hS.1 | exact hSd.1 | rfl | assumption) rfl ?_
        refine xt_aload _ dX11_state_44 rfl ?_
        refine xt_aload _ dX11_state_46 rfl ?_
        refine xt_iload_n _ dX11_state_48 rfl ?_
        skip
        refine xt_callV _ dX11_state_49 klX11_111 (tX7_run sc _ μ w (7 + 11 * f) (13 + 11 * fd) n N F D hS (by omega) hW hC hSd (by omega) hWd hCd hN) sh129 rfl rfl (Nat.le_of_ble_eq_true rfl) (fun r2 μ2 w2 q2 => ?_)
        obtain ⟨rfl, hc2, hf2r⟩ := q2
        change x_T _ _ _ _ _ (.int _ :: _) _ _ _
        refine xt_iload_n _ dX11_state_52 rfl ?_
        refine xt_icmp_ge 61 dX11_state_53 (by decide) (fun t53 => ?_) (fun f53 => ?_)
        · have n53 : N ≤ (s_go D N 0 (F, s_c0)).1 := (nI_leI (a := N) (b := (s_go D N 0 (F, s_c0)).1) (by omega) (by omega)).mp t53
          refine xt_aload_n _ dX11_state_61 rfl ?_
          refine xt_getr _ dX11_state_62 kfX11_34 (by first | exact sh0 | exact sh129 | exact hS.1 | exact hSd.1 | rfl | assumption) rfl ?_
          refine xt_iload _ dX11_state_65 rfl ?_
          refine xt_cV _ dX11_state_67 klX11_115 (tX7_tell sc _ μ2 _ (s_go D N 0 (F, s_c0)).2 hgok hc2 a4) sh129 rfl rfl (Nat.le_of_ble_eq_true rfl) ?_
          exact xt_iret .int dX11_state_70 rfl (by first | rfl | assumption) ⟨by rw [if_neg (by omega)], (fun a ha => hf2r.1 a (by unfold x_ok at ha; omega))⟩
        · have n53 : ¬ (N ≤ (s_go D N 0 (F, s_c0)).1) := fun z => f53 ((nI_leI (a := N) (b := (s_go D N 0 (F, s_c0)).1) (by omega) (by omega)).mpr z)
          refine xt_bipush (-2) dX11_state_56 (by decide) ?_
          refine xt_goto 70 dX11_state_58 (by decide) ?_
          exact xt_iret .int dX11_state_70 rfl (by first | rfl | assumption) ⟨by rw [if_pos (by omega)], (fun a ha => hf2r.1 a (by unfold x_ok at ha; omega))⟩
      · intro μ w cf cd hf hcf hfd hcd e0 e1 hF hM
        refine x_K.of (by decide) (Nat.le_of_ble_eq_true rfl) ?_
        show x_T sc 29 mX12_state 0 [.ref 152, .int (nI f), .int (nI fd), .int (nI N), .int a4] [] μ w _
        refine xt_aload_n _ dX12_state_0 rfl ?_
        refine xt_iconst (0) dX12_state_1 (by decide) ?_
        refine xt_puti dX12_state_2 kpX12_72 (by first | exact sh152 | rfl | assumption) rfl (by first | rfl | assumption) (by first | rfl | assumption) ?_
        refine xt_aload_n _ dX12_state_5 rfl ?_
        refine xt_iload_n _ dX12_state_6 rfl ?_
        refine xt_iload_n _ dX12_state_7 rfl ?_
        refine xt_callV _ dX12_state_8 klX12_344 (tX12_layAll sc _ (x_u μ 152 (upd (μ 152) 0 0)) w f cf fd cd F hf hcf hfd hcd e0 e1 hF) sh152 rfl rfl (Nat.le_of_ble_eq_true rfl) (fun r1 μ1 w1 q1 => ?_)
        obtain ⟨rfl, hm1, h40, hfr⟩ := q1
        change x_T _ _ _ _ _ (.int 1 :: _) _ _ _
        have hM1 : d_M μ1 fd n D := fun i hi => by rw [hfr 159 (by decide) (by decide) (by decide) (by decide)]; exact hM i hi
        refine xt_if_eq 44 dX12_state_11 (by decide) (fun q => absurd q (by decide)) (fun _ => ?_)
        refine xt_iload_n _ dX12_state_14 rfl ?_
        refine xt_iconst (0) dX12_state_15 (by decide) ?_
        refine xt_aload_n _ dX12_state_16 rfl ?_
        refine xt_cV _ dX12_state_17 klX12_316 (tX12_deeds sc _ μ1 _ fd n D hfd2 h40 hM1) sh152 rfl rfl (Nat.le_of_ble_eq_true rfl) ?_
        rw [hWd.2.1]
        refine xt_cS _ dX12_state_20 klX12_84 (tX12_in sc _ _ _ _ _ _) rfl rfl (Nat.le_of_ble_eq_true rfl) ?_
        refine xt_if_eq 44 dX12_state_23 (by decide) (fun q => absurd q (s_in_nI hN (by omega))) (fun _ => ?_)
        refine xt_aload_n _ dX12_state_26 rfl ?_
        refine xt_iload_n _ dX12_state_27 rfl ?_
        refine xt_callV _ dX12_state_28 klX12_347 (tX12_play sc _ μ1 _ f (F, s_c0) (s_ok0 hW) hm1 fd n D hfd2 hWd h40 hM1 N hN) sh152 rfl rfl (Nat.le_of_ble_eq_true rfl) (fun r2 μ2 w2 q2 => ?_)
        obtain ⟨rfl, hm2, hf2⟩ := q2
        change x_T _ _ _ _ _ (.int _ :: _) _ _ _
        refine xt_iload_n _ dX12_state_31 rfl ?_
        refine xt_icmp_ne 44 dX12_state_32 (by decide) (fun t32 => ?_) (fun f32 => ?_)
        · have n32 : ¬ ((s_go D N 0 (F, s_c0)).1 = N) := fun z => t32 ((nI_eq (a := (s_go D N 0 (F, s_c0)).1) (b := N) (by omega) (by omega)).mpr z)
          refine xt_bipush (-2) dX12_state_44 (by decide) ?_
          exact xt_iret .int dX12_state_46 rfl (by first | rfl | assumption) ⟨by rw [if_pos (by omega)], (fun a ha => by rw [hf2.1 a (by unfold x_ok at ha; omega) (by unfold x_ok at ha; omega) (by unfold x_ok at ha; omega) (by unfold x_ok at ha; omega), hfr a (by unfold x_ok at ha; omega) (by unfold x_ok at ha; omega) (by unfold x_ok at ha; omega) (by unfold x_ok at ha; omega), x_u_ne (by unfold x_ok at ha; omega)])⟩
        · have n32 : (s_go D N 0 (F, s_c0)).1 = N := (nI_eq (a := (s_go D N 0 (F, s_c0)).1) (b := N) (by omega) (by omega)).mp f32
          refine xt_aload_n _ dX12_state_35 rfl ?_
          refine xt_iload _ dX12_state_36 rfl ?_
          refine xt_cV _ dX12_state_38 klX12_350 (tX12_ofState sc _ μ2 _ f (s_go D N 0 (F, s_c0)).2 hgok hm2 a4) sh152 rfl rfl (Nat.le_of_ble_eq_true rfl) ?_
          refine xt_goto 46 dX12_state_41 (by decide) ?_
          exact xt_iret .int dX12_state_46 rfl (by first | rfl | assumption) ⟨by rw [if_neg (by omega)], (fun a ha => by rw [hf2.1 a (by unfold x_ok at ha; omega) (by unfold x_ok at ha; omega) (by unfold x_ok at ha; omega) (by unfold x_ok at ha; omega), hfr a (by unfold x_ok at ha; omega) (by unfold x_ok at ha; omega) (by unfold x_ok at ha; omega) (by unfold x_ok at ha; omega), x_u_ne (by unfold x_ok at ha; omega)])⟩
    · skip
      refine ⟨-2, ?_, ?_⟩
      · intro μ w cf cd hf hcf hfd hcd e0 e1 hC hCd
        have hS := f_Sf hf2
        have hSd := d_Sf hfd2
        refine x_K.of (by decide) (Nat.le_of_ble_eq_true rfl) ?_
        show x_T sc 29 mX11_state 0 [.ref 0, .int (nI f), .int (nI fd), .int a3, .int a4, .retAddr 0, .retAddr 0] [] μ w _
        refine xt_aload_n _ dX11_state_0 rfl ?_
        refine xt_iload_n _ dX11_state_1 rfl ?_
        refine xt_cV _ dX11_state_2 klX11_90 (tX11_fairOf sc _ μ w f cf hf hcf e0) sh0 rfl rfl (Nat.le_of_ble_eq_true rfl) ?_
        refine xt_astore dX11_state_5 (by decide) rfl ?_
        change x_T _ _ _ _ [_, _, _, _, _, _, _] _ _ _ _
        refine xt_aload_n _ dX11_state_7 rfl ?_
        refine xt_iload_n _ dX11_state_8 rfl ?_
        refine xt_cV _ dX11_state_9 klX11_100 (tX11_dayOf sc _ μ w fd cd hfd hcd e1) sh0 rfl rfl (Nat.le_of_ble_eq_true rfl) ?_
        refine xt_astore dX11_state_12 (by decide) rfl ?_
        change x_T _ _ _ _ [_, _, _, _, _, _, _] _ _ _ _
        refine xt_aload _ dX11_state_14 rfl ?_
        refine xt_ifnull_r dX11_state_16 ?_
        refine xt_aload _ dX11_state_19 rfl ?_
        refine xt_ifnull_r dX11_state_21 ?_
        refine xt_iload_n _ dX11_state_24 rfl ?_
        refine xt_if_lt 37 dX11_state_25 (by decide) (fun t25 => ?_) (fun f25 => ?_)
        · refine xt_bipush (-2) dX11_state_37 (by decide) ?_
          exact xt_iret .int dX11_state_39 rfl (by first | rfl | assumption) ⟨rfl, x_keep.rf μ⟩
        · refine xt_iload_n _ dX11_state_28 rfl ?_
          refine xt_aload _ dX11_state_29 rfl ?_
          refine xt_geti dX11_state_31 kfX11_108 (by first | exact sh0 | exact sh129 | exact hS.1 | exact hSd.1 | rfl | assumption) rfl ?_
          refine xt_icmp_le 40 dX11_state_34 (by decide) (fun t34 => ?_) (fun f34 => ?_)
          · exact absurd ⟨Int32.not_lt.mp f25, by rw [← hCd.1]; exact t34⟩ hr
          · refine xt_bipush (-2) dX11_state_37 (by decide) ?_
            exact xt_iret .int dX11_state_39 rfl (by first | rfl | assumption) ⟨rfl, x_keep.rf μ⟩
      · intro μ w cf cd hf hcf hfd hcd e0 e1 hF hM
        refine x_K.of (by decide) (Nat.le_of_ble_eq_true rfl) ?_
        show x_T sc 29 mX12_state 0 [.ref 152, .int (nI f), .int (nI fd), .int a3, .int a4] [] μ w _
        refine xt_aload_n _ dX12_state_0 rfl ?_
        refine xt_iconst (0) dX12_state_1 (by decide) ?_
        refine xt_puti dX12_state_2 kpX12_72 (by first | exact sh152 | rfl | assumption) rfl (by first | rfl | assumption) (by first | rfl | assumption) ?_
        refine xt_aload_n _ dX12_state_5 rfl ?_
        refine xt_iload_n _ dX12_state_6 rfl ?_
        refine xt_iload_n _ dX12_state_7 rfl ?_
        refine xt_callV _ dX12_state_8 klX12_344 (tX12_layAll sc _ (x_u μ 152 (upd (μ 152) 0 0)) w f cf fd cd F hf hcf hfd hcd e0 e1 hF) sh152 rfl rfl (Nat.le_of_ble_eq_true rfl) (fun r1 μ1 w1 q1 => ?_)
        obtain ⟨rfl, hm1, h40, hfr⟩ := q1
        change x_T _ _ _ _ _ (.int 1 :: _) _ _ _
        have hM1 : d_M μ1 fd n D := fun i hi => by rw [hfr 159 (by decide) (by decide) (by decide) (by decide)]; exact hM i hi
        refine xt_if_eq 44 dX12_state_11 (by decide) (fun q => absurd q (by decide)) (fun _ => ?_)
        refine xt_iload_n _ dX12_state_14 rfl ?_
        refine xt_iconst (0) dX12_state_15 (by decide) ?_
        refine xt_aload_n _ dX12_state_16 rfl ?_
        refine xt_cV _ dX12_state_17 klX12_316 (tX12_deeds sc _ μ1 _ fd n D hfd2 h40 hM1) sh152 rfl rfl (Nat.le_of_ble_eq_true rfl) ?_
        rw [hWd.2.1]
        refine xt_cS _ dX12_state_20 klX12_84 (tX12_in sc _ _ _ _ _ _) rfl rfl (Nat.le_of_ble_eq_true rfl) ?_
        refine xt_if_eq 44 dX12_state_23 (by decide) (fun _ => ?_) (fun q => absurd (s_in_out hr) q)
        refine xt_bipush (-2) dX12_state_44 (by decide) ?_
        exact xt_iret .int dX12_state_46 rfl (by first | rfl | assumption) ⟨rfl, (fun a ha => by rw [hfr a (by unfold x_ok at ha; omega) (by unfold x_ok at ha; omega) (by unfold x_ok at ha; omega) (by unfold x_ok at ha; omega), x_u_ne (by unfold x_ok at ha; omega)])⟩
