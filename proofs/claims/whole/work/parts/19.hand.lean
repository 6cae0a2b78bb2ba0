/-! the reference: a fair in hand; who offends -/
section HAND
variable (sc : Nat × (Nat → Int32)) (d : Nat) (μ : x_Me) (w : Int64)
/-- the numbers of a scene at its beginning -/
def m_0 (μ : x_Me) : Prop := μ 152 29 = 0 ∧ μ 152 30 = 0 ∧ μ 152 31 = -1 ∧ μ 152 32 = 0 ∧ μ 152 33 = 0 ∧ μ 152 34 = 0 ∧ μ 152 35 = 0 ∧ μ 152 36 = 0
def m_sc (μ : x_Me) (f : Nat) (G : Nat → Nat) : Prop := μ 152 22 = nI f ∧ μ 152 23 = nI (G 3) ∧ μ 152 24 = nI (G 4) ∧ μ 152 25 = nI (G 6) ∧ μ 152 26 = nI (G 0) ∧ μ 152 27 = nI (G 1) ∧ μ 152 28 = nI (G 2)
set_option maxHeartbeats 1000000 in
/-- no such fair: nothing is in hand anew -/
theorem tX12_hand_no (c : Nat) (hc : c ≤ 2) (e : μ 157 0 = nI c) (kk : Int32) (hk : ¬ (0 ≤ kk ∧ kk < nI c)) : x_D sc (d + 2) mX12_hand [.ref 152, .int kk] μ w (some (.int 0)) μ w := by
  have e0 : (if kk < 0 then 0 else if kk < nI c then 1 else 0 : Int32) = 0 := by
    by_cases h1 : kk < 0
    · rw [if_pos h1]
    · rw [if_neg h1, if_neg (fun z => hk ⟨Int32.not_lt.mp h1, z⟩)]
  refine x_D.of (by decide) (Nat.le_of_ble_eq_true rfl) ?_
  show x_T sc (d + 2) mX12_hand 0 [.ref 152, .int kk, .retAddr 0] [] μ w _
  refine xt_aload_n _ dX12_hand_0 rfl ?_
  refine xt_iconst (0) dX12_hand_1 (by decide) ?_
  refine xt_iload_n _ dX12_hand_2 rfl ?_
  refine xt_cV _ dX12_hand_3 klX12_231 (tX12_is sc _ _ w 0 c (by decide) (by omega) e _) sh152 rfl rfl (Nat.le_of_ble_eq_true rfl) ?_
  refine xt_if_ne 11 dX12_hand_6 (by decide) (fun q => absurd e0 q) (fun _ => ?_)
  refine xt_iconst (0) dX12_hand_9 (by decide) ?_
  exact xt_iret .boolean dX12_hand_10 rfl (by first | rfl | assumption) ⟨rfl, rfl, rfl⟩
set_option maxHeartbeats 4000000 in
/-- a fair is taken in hand -/
theorem tX12_hand (f c : Nat) (F : Nat → Nat) (hf : f < c) (hc : c ≤ 2) (e : μ 157 0 = nI c) (hF : ∀ i, i < 125 → μ 158 (125 * f + i) = nI (F i)) : x_K sc (d + 2) mX12_hand [.ref 152, .int (nI f)] μ w (fun r μ' w' => r = some (.int 1) ∧ w' = w ∧ m_S μ' f F ∧ m_0 μ' ∧ ∀ a, a ≠ 152 → a ≠ 163 → a ≠ 164 → a ≠ 165 → μ' a = μ a) := by
  have hf2 : f < 2 := by omega
  have e0 : ¬ (if nI f < 0 then 0 else if nI f < nI c then 1 else 0 : Int32) = 0 := by
    rw [if_neg (nI_pos (by omega)), if_pos (nI_lt hf (by omega))]; decide
  have L155 : ∀ (n m : Nat) (μ1 : x_Me), m + n = 48 → ((∀ a, a ≠ 152 → a ≠ 163 → a ≠ 164 → a ≠ 165 → μ1 a = μ a) ∧ m_sc μ1 f F ∧ m_0 μ1 ∧ (∀ g, g < 8 → μ1 163 g = nI (F (25 + g)) ∧ μ1 164 g = nI (F (33 + g))) ∧ ∀ i, i < m → μ1 165 i = nI (F (41 + i))) → x_T sc (d + 2) mX12_hand 155 [.ref 152, .int (nI f), .int (nI m)] [] μ1 w (fun r μ' w' => r = some (.int 1) ∧ w' = w ∧ m_S μ' f F ∧ m_0 μ' ∧ ∀ a, a ≠ 152 → a ≠ 163 → a ≠ 164 → a ≠ 165 → μ' a = μ a) := by
    intro n
    induction n with
    | zero =>
      intro m μ1 hmn hJ
      obtain rfl : m = 48 := by omega
      obtain ⟨hfr, hsc, h0, hgs, his⟩ := hJ
      refine xt_iload_n _ dX12_hand_155 rfl ?_
      refine xt_bipush (48) dX12_hand_156 (by decide) ?_
      refine xt_icmp_ge 181 dX12_hand_158 (by decide) (fun _ => ?_) (fun q => absurd (by decide) q)
      refine xt_iconst (1) dX12_hand_181 (by decide) ?_
      exact xt_iret .boolean dX12_hand_182 rfl (by first | rfl | assumption) ⟨rfl, rfl, ⟨⟨hf2, hsc⟩, hgs, his, fun i h1 h2 => by rw [hfr 158 (by decide) (by decide) (by decide) (by decide)]; exact hF i h1⟩, h0, hfr⟩
    | succ n ih =>
      intro m μ1 hmn hJ
      have hlt : m < 48 := by omega
      obtain ⟨hfr, hsc, h0, hgs, his⟩ := hJ
      refine xt_iload_n _ dX12_hand_155 rfl ?_
      refine xt_bipush (48) dX12_hand_156 (by decide) ?_
      refine xt_icmp_ge 181 dX12_hand_158 (by decide) (fun q => absurd q (nI_ge (b := 48) hlt (by decide))) (fun _ => ?_)
      refine xt_aload_n _ dX12_hand_161 rfl ?_
      refine xt_getr _ dX12_hand_162 kfX12_47 (by first | exact sh152 | rfl | assumption) rfl ?_
      refine xt_iload_n _ dX12_hand_165 rfl ?_
      refine xt_aload_n _ dX12_hand_166 rfl ?_
      refine xt_bipush (41) dX12_hand_167 (by decide) ?_
      refine xt_iload_n _ dX12_hand_169 rfl ?_
      refine xt_iadd dX12_hand_170 ?_
      rw [show (41 : Int32) + nI m = nI (41 + m) from nI_add 41 m]
      refine xt_cV _ dX12_hand_171 klX12_244 (tX12_of sc _ _ w f (41 + m) (by omega) (by omega) hsc.1) sh152 rfl rfl (Nat.le_of_ble_eq_true rfl) ?_
      refine xt_ast dX12_hand_174 (by first | exact sh152 | rfl | assumption) (by first | exact vp_in_nI (by omega) (by decide)) ?_
      refine xt_inc _ (1) dX12_hand_175 rfl (by decide) (by decide) rfl ?_
      change x_T _ _ _ _ [_, _, _] _ _ _ _
      refine xt_goto 155 dX12_hand_178 (by decide) ?_
      refine x_T.ls (by rw [nI_succ m]) (ih (m + 1) _ (by omega) ⟨?_, ?_, ?_, ?_, ?_⟩)
      · intro a h1 h2 h3 h4; rw [x_u_ne h4]; exact hfr a h1 h2 h3 h4
      · exact hsc
      · exact h0
      · exact hgs
      · intro i hi
        have e2 : μ1 158 = μ 158 := hfr 158 (by decide) (by decide) (by decide) (by decide)
        rw [e2, nI_clamp (by omega), hF _ (by omega), x_u_eq]
        by_cases him : i = m
        · subst him; simp [upd]
        · have := his i (by omega); simp [upd, him, this]
  have L113 : ∀ (n m : Nat) (μ1 : x_Me), m + n = 8 → ((∀ a, a ≠ 152 → a ≠ 163 → a ≠ 164 → μ1 a = μ a) ∧ m_sc μ1 f F ∧ m_0 μ1 ∧ ∀ g, g < m → μ1 163 g = nI (F (25 + g)) ∧ μ1 164 g = nI (F (33 + g))) → x_T sc (d + 2) mX12_hand 113 [.ref 152, .int (nI f), .int (nI m)] [] μ1 w (fun r μ' w' => r = some (.int 1) ∧ w' = w ∧ m_S μ' f F ∧ m_0 μ' ∧ ∀ a, a ≠ 152 → a ≠ 163 → a ≠ 164 → a ≠ 165 → μ' a = μ a) := by
    intro n
    induction n with
    | zero =>
      intro m μ1 hmn hJ
      obtain rfl : m = 8 := by omega
      obtain ⟨hfr, hsc, h0, hgs⟩ := hJ
      refine xt_iload_n _ dX12_hand_113 rfl ?_
      refine xt_bipush (8) dX12_hand_114 (by decide) ?_
      refine xt_icmp_ge 153 dX12_hand_116 (by decide) (fun _ => ?_) (fun q => absurd (by decide) q)
      refine xt_iconst (0) dX12_hand_153 (by decide) ?_
      refine xt_istore_n dX12_hand_154 (by decide) rfl ?_
      change x_T _ _ _ _ [_, _, _] _ _ _ _
      exact L155 48 0 _ (by omega) ⟨fun a h1 h2 h3 _ => hfr a h1 h2 h3, hsc, h0, hgs, fun i h => absurd h (by omega)⟩
    | succ n ih =>
      intro m μ1 hmn hJ
      have hlt : m < 8 := by omega
      obtain ⟨hfr, hsc, h0, hgs⟩ := hJ
      refine xt_iload_n _ dX12_hand_113 rfl ?_
      refine xt_bipush (8) dX12_hand_114 (by decide) ?_
      refine xt_icmp_ge 153 dX12_hand_116 (by decide) (fun q => absurd q (nI_ge (b := 8) hlt (by decide))) (fun _ => ?_)
      refine xt_aload_n _ dX12_hand_119 rfl ?_
      refine xt_getr _ dX12_hand_120 kfX12_41 (by first | exact sh152 | rfl | assumption) rfl ?_
      refine xt_iload_n _ dX12_hand_123 rfl ?_
      refine xt_aload_n _ dX12_hand_124 rfl ?_
      refine xt_bipush (25) dX12_hand_125 (by decide) ?_
      refine xt_iload_n _ dX12_hand_127 rfl ?_
      refine xt_iadd dX12_hand_128 ?_
      rw [show (25 : Int32) + nI m = nI (25 + m) from nI_add 25 m]
      refine xt_cV _ dX12_hand_129 klX12_244 (tX12_of sc _ _ w f (25 + m) (by omega) (by omega) hsc.1) sh152 rfl rfl (Nat.le_of_ble_eq_true rfl) ?_
      refine xt_ast dX12_hand_132 (by first | exact sh152 | rfl | assumption) (by first | exact vp_in_nI (by omega) (by decide)) ?_
      refine xt_aload_n _ dX12_hand_133 rfl ?_
      refine xt_getr _ dX12_hand_134 kfX12_44 (by first | exact sh152 | rfl | assumption) rfl ?_
      refine xt_iload_n _ dX12_hand_137 rfl ?_
      refine xt_aload_n _ dX12_hand_138 rfl ?_
      refine xt_bipush (33) dX12_hand_139 (by decide) ?_
      refine xt_iload_n _ dX12_hand_141 rfl ?_
      refine xt_iadd dX12_hand_142 ?_
      rw [show (33 : Int32) + nI m = nI (33 + m) from nI_add 33 m]
      refine xt_cV _ dX12_hand_143 klX12_244 (tX12_of sc _ _ w f (33 + m) (by omega) (by omega) hsc.1) sh152 rfl rfl (Nat.le_of_ble_eq_true rfl) ?_
      refine xt_ast dX12_hand_146 (by first | exact sh152 | rfl | assumption) (by first | exact vp_in_nI (by omega) (by decide)) ?_
      refine xt_inc _ (1) dX12_hand_147 rfl (by decide) (by decide) rfl ?_
      change x_T _ _ _ _ [_, _, _] _ _ _ _
      refine xt_goto 113 dX12_hand_150 (by decide) ?_
      refine x_T.ls (by rw [nI_succ m]) (ih (m + 1) _ (by omega) ⟨?_, ?_, ?_, ?_⟩)
      · intro a h1 h2 h3; rw [x_u_ne h3, x_u_ne h2]; exact hfr a h1 h2 h3
      · exact hsc
      · exact h0
      · intro g hg
        have e1 : x_u μ1 163 (upd (μ1 163) (nI m).toNatClampNeg (μ1 158 (125 * f + (25 + m)))) 158 = μ 158 := hfr 158 (by decide) (by decide) (by decide)
        have e2 : μ1 158 = μ 158 := hfr 158 (by decide) (by decide) (by decide)
        rw [e1, e2, nI_clamp (by omega), hF _ (by omega), hF _ (by omega), x_u_ne (by decide), x_u_eq, x_u_eq, x_u_ne (by decide)]
        by_cases hgm : g = m
        · subst hgm; simp [upd]
        · have := hgs g (by omega); simp [upd, hgm, this]
  refine x_K.of (by decide) (Nat.le_of_ble_eq_true rfl) ?_
  show x_T sc (d + 2) mX12_hand 0 [.ref 152, .int (nI f), .retAddr 0] [] μ w _
  refine xt_aload_n _ dX12_hand_0 rfl ?_
  refine xt_iconst (0) dX12_hand_1 (by decide) ?_
  refine xt_iload_n _ dX12_hand_2 rfl ?_
  refine xt_cV _ dX12_hand_3 klX12_231 (tX12_is sc _ _ w 0 c (by decide) (by omega) e _) sh152 rfl rfl (Nat.le_of_ble_eq_true rfl) ?_
  refine xt_if_ne 11 dX12_hand_6 (by decide) (fun _ => ?_) (fun q => absurd q e0)
  refine xt_aload_n _ dX12_hand_11 rfl ?_
  refine xt_iload_n _ dX12_hand_12 rfl ?_
  refine xt_puti dX12_hand_13 kpX12_241 (by first | exact sh152 | rfl | assumption) rfl (by first | rfl | assumption) (by first | rfl | assumption) ?_
  refine xt_aload_n _ dX12_hand_16 rfl ?_
  refine xt_aload_n _ dX12_hand_17 rfl ?_
  refine xt_iconst (3) dX12_hand_18 (by decide) ?_
  refine xt_cV _ dX12_hand_19 klX12_244 (tX12_of sc _ _ w f 3 (by omega) (by decide) rfl) sh152 rfl rfl (Nat.le_of_ble_eq_true rfl) ?_
  refine xt_puti dX12_hand_22 kpX12_248 (by first | exact sh152 | rfl | assumption) rfl (by first | rfl | assumption) (by first | rfl | assumption) ?_
  refine xt_aload_n _ dX12_hand_25 rfl ?_
  refine xt_aload_n _ dX12_hand_26 rfl ?_
  refine xt_iconst (4) dX12_hand_27 (by decide) ?_
  refine xt_cV _ dX12_hand_28 klX12_244 (tX12_of sc _ _ w f 4 (by omega) (by decide) rfl) sh152 rfl rfl (Nat.le_of_ble_eq_true rfl) ?_
  refine xt_puti dX12_hand_31 kpX12_251 (by first | exact sh152 | rfl | assumption) rfl (by first | rfl | assumption) (by first | rfl | assumption) ?_
  refine xt_aload_n _ dX12_hand_34 rfl ?_
  refine xt_aload_n _ dX12_hand_35 rfl ?_
  refine xt_bipush (6) dX12_hand_36 (by decide) ?_
  refine xt_cV _ dX12_hand_38 klX12_244 (tX12_of sc _ _ w f 6 (by omega) (by decide) rfl) sh152 rfl rfl (Nat.le_of_ble_eq_true rfl) ?_
  refine xt_puti dX12_hand_41 kpX12_254 (by first | exact sh152 | rfl | assumption) rfl (by first | rfl | assumption) (by first | rfl | assumption) ?_
  refine xt_aload_n _ dX12_hand_44 rfl ?_
  refine xt_aload_n _ dX12_hand_45 rfl ?_
  refine xt_iconst (0) dX12_hand_46 (by decide) ?_
  refine xt_cV _ dX12_hand_47 klX12_244 (tX12_of sc _ _ w f 0 (by omega) (by decide) rfl) sh152 rfl rfl (Nat.le_of_ble_eq_true rfl) ?_
  refine xt_puti dX12_hand_50 kpX12_257 (by first | exact sh152 | rfl | assumption) rfl (by first | rfl | assumption) (by first | rfl | assumption) ?_
  refine xt_aload_n _ dX12_hand_53 rfl ?_
  refine xt_aload_n _ dX12_hand_54 rfl ?_
  refine xt_iconst (1) dX12_hand_55 (by decide) ?_
  refine xt_cV _ dX12_hand_56 klX12_244 (tX12_of sc _ _ w f 1 (by omega) (by decide) rfl) sh152 rfl rfl (Nat.le_of_ble_eq_true rfl) ?_
  refine xt_puti dX12_hand_59 kpX12_260 (by first | exact sh152 | rfl | assumption) rfl (by first | rfl | assumption) (by first | rfl | assumption) ?_
  refine xt_aload_n _ dX12_hand_62 rfl ?_
  refine xt_aload_n _ dX12_hand_63 rfl ?_
  refine xt_iconst (2) dX12_hand_64 (by decide) ?_
  refine xt_cV _ dX12_hand_65 klX12_244 (tX12_of sc _ _ w f 2 (by omega) (by decide) rfl) sh152 rfl rfl (Nat.le_of_ble_eq_true rfl) ?_
  refine xt_puti dX12_hand_68 kpX12_263 (by first | exact sh152 | rfl | assumption) rfl (by first | rfl | assumption) (by first | rfl | assumption) ?_
  refine xt_aload_n _ dX12_hand_71 rfl ?_
  refine xt_iconst (0) dX12_hand_72 (by decide) ?_
  refine xt_puti dX12_hand_73 kpX12_266 (by first | exact sh152 | rfl | assumption) rfl (by first | rfl | assumption) (by first | rfl | assumption) ?_
  refine xt_aload_n _ dX12_hand_76 rfl ?_
  refine xt_iconst (0) dX12_hand_77 (by decide) ?_
  refine xt_puti dX12_hand_78 kpX12_269 (by first | exact sh152 | rfl | assumption) rfl (by first | rfl | assumption) (by first | rfl | assumption) ?_
  refine xt_aload_n _ dX12_hand_81 rfl ?_
  refine xt_iconst (-1) dX12_hand_82 (by decide) ?_
  refine xt_puti dX12_hand_83 kpX12_272 (by first | exact sh152 | rfl | assumption) rfl (by first | rfl | assumption) (by first | rfl | assumption) ?_
  refine xt_aload_n _ dX12_hand_86 rfl ?_
  refine xt_iconst (0) dX12_hand_87 (by decide) ?_
  refine xt_puti dX12_hand_88 kpX12_275 (by first | exact sh152 | rfl | assumption) rfl (by first | rfl | assumption) (by first | rfl | assumption) ?_
  refine xt_aload_n _ dX12_hand_91 rfl ?_
  refine xt_iconst (0) dX12_hand_92 (by decide) ?_
  refine xt_puti dX12_hand_93 kpX12_278 (by first | exact sh152 | rfl | assumption) rfl (by first | rfl | assumption) (by first | rfl | assumption) ?_
  refine xt_aload_n _ dX12_hand_96 rfl ?_
  refine xt_iconst (0) dX12_hand_97 (by decide) ?_
  refine xt_puti dX12_hand_98 kpX12_281 (by first | exact sh152 | rfl | assumption) rfl (by first | rfl | assumption) (by first | rfl | assumption) ?_
  refine xt_aload_n _ dX12_hand_101 rfl ?_
  refine xt_iconst (0) dX12_hand_102 (by decide) ?_
  refine xt_puti dX12_hand_103 kpX12_284 (by first | exact sh152 | rfl | assumption) rfl (by first | rfl | assumption) (by first | rfl | assumption) ?_
  refine xt_aload_n _ dX12_hand_106 rfl ?_
  refine xt_iconst (0) dX12_hand_107 (by decide) ?_
  refine xt_puti dX12_hand_108 kpX12_287 (by first | exact sh152 | rfl | assumption) rfl (by first | rfl | assumption) (by first | rfl | assumption) ?_
  refine xt_iconst (0) dX12_hand_111 (by decide) ?_
  refine xt_istore_n dX12_hand_112 (by decide) rfl ?_
  change x_T _ _ _ _ [_, _, _] _ _ _ _
  refine L113 8 0 _ (by omega) ⟨?_, ?_, ?_, fun g h => absurd h (by omega)⟩
  · intro a h1 h2 h3; simp only [x_u, if_neg h1]
  · exact ⟨rfl, hF 3 (by decide), hF 4 (by decide), hF 6 (by decide), hF 0 (by decide), hF 1 (by decide), hF 2 (by decide)⟩
  · exact ⟨rfl, rfl, rfl, rfl, rfl, rfl, rfl, rfl⟩
/-- somebody offends a MINDS below n: those of st struck, LEAST more by h, REACH less by e -/
def s_any (G : Nat → Nat) (st : Nat → Bool) (h e g : Nat) : Nat → Bool
  | 0 => false
  | m + 1 => s_any G st h e g m || (decide (st m = false) && decide (s_farO G g + e ≤ G (13 + m)) && decide (G (19 + m) + h ≤ G (41 + (6 * g + G (7 + m)))))
/-- a set struck, as has() sees it -/
def s_strM (x : Int32) (st : Nat → Bool) : Prop := ∀ m, m < 6 → s_has x (nI m) = (if st m then 1 else 0)
set_option maxHeartbeats 4000000 in
theorem tX12_offends (f : Nat) (G : Nat → Nat) (hS : m_S μ f G) (hW : f_W G) (g : Nat) (hg : g < G 4) (x : Int32) (st : Nat → Bool) (hst : s_strM x st) (h e : Nat) (hh : h ≤ 99) (he : e ≤ 99) (hx : μ 152 34 = x) (hha : μ 152 35 = nI h) (hne : μ 152 36 = nI e) : x_D sc (d + 2) mX12_offends [.ref 152, .int (nI g)] μ w (some (.int (if s_any G st h e g (G 3) then 1 else 0))) μ w := by
  subst hx
  have hg8 : g < 8 := by have := hW.1.2.2.2.2.1; omega
  have hm6 : G 3 ≤ 6 := hW.1.2.2.2.1
  have hf2 : f < 2 := hS.1.1
  have hmi : μ 152 23 = nI (G 3) := hS.1.2.2.1
  have hfar := s_farO_le hW hg
  have hup : ∀ i, i ≤ G 3 → s_any G st h e g i = true → s_any G st h e g (G 3) = true := by
    intro i hi hq
    obtain ⟨j, hj⟩ : ∃ j, G 3 = i + j := ⟨G 3 - i, by omega⟩
    rw [hj]
    clear hj hi
    induction j with
    | zero => exact hq
    | succ j ih => rw [← Nat.add_assoc, s_any, ih, Bool.true_or]
  have L8 : ∀ (n m : Nat) (v4 : Value), m + n = G 3 → s_any G st h e g m = false → x_T sc (d + 2) mX12_offends 8 [.ref 152, .int (nI g), .int (nI (s_farO G g)), .int (nI m), v4] [] μ w (x_p (some (.int (if s_any G st h e g (G 3) then 1 else 0))) μ w) := by
    intro n
    induction n with
    | zero =>
      intro m v4 hmn hno
      obtain rfl : m = G 3 := by omega
      refine xt_iload_n _ dX12_offends_8 rfl ?_
      refine xt_aload_n _ dX12_offends_9 rfl ?_
      refine xt_geti dX12_offends_10 kfX12_248 (by first | exact sh152 | rfl | assumption) rfl ?_
      refine xt_icmp_ge 98 dX12_offends_13 (by decide) (fun _ => ?_) (fun q => absurd (by rw [hmi]; exact Int32.le_refl _) q)
      refine xt_iconst (0) dX12_offends_98 (by decide) ?_
      exact xt_iret .boolean dX12_offends_99 rfl (by first | rfl | assumption) ⟨by rw [hno]; rfl, rfl, rfl⟩
    | succ n ih =>
      intro m v4 hmn hno
      have hlt : m < G 3 := by omega
      have hk5 := (hW.2.1 m hlt).1
      have hr18 := (hW.2.1 m hlt).2.1
      have hl9 := (hW.2.1 m hlt).2.2.2
      have hw9 := hW.2.2.2.1 (6 * g + G (7 + m)) (by omega)
      have hix : (6 : Int32) * nI g + nI (G (7 + m)) = nI (6 * g + G (7 + m)) := by rw [show (6 : Int32) = nI 6 from rfl, pk_mul, nI_add]
      refine xt_iload_n _ dX12_offends_8 rfl ?_
      refine xt_aload_n _ dX12_offends_9 rfl ?_
      refine xt_geti dX12_offends_10 kfX12_248 (by first | exact sh152 | rfl | assumption) rfl ?_
      refine xt_icmp_ge 98 dX12_offends_13 (by decide) (fun q => absurd q (by rw [hmi]; exact nI_ge hlt (by omega))) (fun _ => ?_)
      refine xt_aload_n _ dX12_offends_16 rfl ?_
      refine xt_geti dX12_offends_17 kfX12_281 (by first | exact sh152 | rfl | assumption) rfl ?_
      refine xt_iload_n _ dX12_offends_20 rfl ?_
      refine xt_cS _ dX12_offends_21 klX12_76 (tX12_has sc _ μ w _ _) rfl rfl (Nat.le_of_ble_eq_true rfl) ?_
      rw [hst m (by omega)]
      refine xt_if_ne 48 dX12_offends_24 (by decide) (fun t24 => ?_) (fun f24 => ?_)
      · refine xt_iconst (0) dX12_offends_48 (by decide) ?_
        refine xt_istore dX12_offends_49 (by decide) rfl ?_
        change x_T _ _ _ _ [_, _, _, _, _] _ _ _ _
        refine xt_iload _ dX12_offends_51 rfl ?_
        refine xt_if_eq 92 dX12_offends_53 (by decide) (fun _ => ?_) (fun q => absurd (by decide) q)
        refine xt_inc _ (1) dX12_offends_92 rfl (by decide) (by decide) rfl ?_
        change x_T _ _ _ _ [_, _, _, _, _] _ _ _ _
        refine xt_goto 8 dX12_offends_95 (by decide) ?_
        refine x_T.ls ?_ (ih (m + 1) (.int 0) (by omega) ?_)
        · rw [nI_succ m]
        · rw [s_any, hno, Bool.false_or]
          have : st m = true := by cases hq : st m <;> simp_all
          simp [this]
      · refine xt_iload_n _ dX12_offends_27 rfl ?_
        refine xt_aload_n _ dX12_offends_28 rfl ?_
        refine xt_bipush (13) dX12_offends_29 (by decide) ?_
        refine xt_iload_n _ dX12_offends_31 rfl ?_
        refine xt_iadd dX12_offends_32 ?_
        rw [show (13 : Int32) + nI m = nI (13 + m) from nI_add 13 m]
        refine xt_cV _ dX12_offends_33 klX12_244 (tX12_of sc _ _ w f (13 + m) (by omega) (by omega) hS.1.2.1) sh152 rfl rfl (Nat.le_of_ble_eq_true rfl) ?_
        rw [hS.2.2.2 (13 + m) (by omega) (by omega)]
        refine xt_aload_n _ dX12_offends_36 rfl ?_
        refine xt_geti dX12_offends_37 kfX12_287 (by first | exact sh152 | rfl | assumption) rfl ?_
        refine xt_isub dX12_offends_40 ?_
        refine xt_icmp_gt 48 dX12_offends_41 (by decide) (fun t41 => ?_) (fun f41 => ?_)
        · refine xt_iconst (0) dX12_offends_48 (by decide) ?_
          refine xt_istore dX12_offends_49 (by decide) rfl ?_
          change x_T _ _ _ _ [_, _, _, _, _] _ _ _ _
          refine xt_iload _ dX12_offends_51 rfl ?_
          refine xt_if_eq 92 dX12_offends_53 (by decide) (fun _ => ?_) (fun q => absurd (by decide) q)
          refine xt_inc _ (1) dX12_offends_92 rfl (by decide) (by decide) rfl ?_
          change x_T _ _ _ _ [_, _, _, _, _] _ _ _ _
          refine xt_goto 8 dX12_offends_95 (by decide) ?_
          refine x_T.ls ?_ (ih (m + 1) (.int 0) (by omega) ?_)
          · rw [nI_succ m]
          · rw [s_any, hno, Bool.false_or]
            have : ¬ s_farO G g + e ≤ G (13 + m) := by
              have q := t41
              rw [hne, Int32.lt_iff_toInt_lt, pk_sub_toInt (by omega) (by omega), nI_toInt (by omega)] at q
              omega
            simp [this]
        · refine xt_iconst (1) dX12_offends_44 (by decide) ?_
          refine xt_goto 49 dX12_offends_45 (by decide) ?_
          refine xt_istore dX12_offends_49 (by decide) rfl ?_
          change x_T _ _ _ _ [_, _, _, _, _] _ _ _ _
          refine xt_iload _ dX12_offends_51 rfl ?_
          refine xt_if_eq 92 dX12_offends_53 (by decide) (fun q => absurd q (by decide)) (fun _ => ?_)
          refine xt_aload_n _ dX12_offends_56 rfl ?_
          refine xt_getr _ dX12_offends_57 kfX12_47 (by first | exact sh152 | rfl | assumption) rfl ?_
          refine xt_bipush (6) dX12_offends_60 (by decide) ?_
          refine xt_iload_n _ dX12_offends_62 rfl ?_
          refine xt_imul dX12_offends_63 ?_
          refine xt_aload_n _ dX12_offends_64 rfl ?_
          refine xt_bipush (7) dX12_offends_65 (by decide) ?_
          refine xt_iload_n _ dX12_offends_67 rfl ?_
          refine xt_iadd dX12_offends_68 ?_
          rw [show (7 : Int32) + nI m = nI (7 + m) from nI_add 7 m]
          refine xt_cV _ dX12_offends_69 klX12_244 (tX12_of sc _ _ w f (7 + m) (by omega) (by omega) hS.1.2.1) sh152 rfl rfl (Nat.le_of_ble_eq_true rfl) ?_
          rw [hS.2.2.2 (7 + m) (by omega) (by omega)]
          refine xt_iadd dX12_offends_72 ?_
          refine xt_ald dX12_offends_73 (by first | exact sh152 | rfl | assumption) (by rw [hix]; exact vp_in_nI (by omega) (by decide)) ?_
          refine xt_aload_n _ dX12_offends_74 rfl ?_
          refine xt_bipush (19) dX12_offends_75 (by decide) ?_
          refine xt_iload_n _ dX12_offends_77 rfl ?_
          refine xt_iadd dX12_offends_78 ?_
          rw [show (19 : Int32) + nI m = nI (19 + m) from nI_add 19 m]
          refine xt_cV _ dX12_offends_79 klX12_244 (tX12_of sc _ _ w f (19 + m) (by omega) (by omega) hS.1.2.1) sh152 rfl rfl (Nat.le_of_ble_eq_true rfl) ?_
          rw [hS.2.2.2 (19 + m) (by omega) (by omega)]
          refine xt_aload_n _ dX12_offends_82 rfl ?_
          refine xt_geti dX12_offends_83 kfX12_284 (by first | exact sh152 | rfl | assumption) rfl ?_
          refine xt_iadd dX12_offends_86 ?_
          refine xt_icmp_lt 92 dX12_offends_87 (by decide) (fun t87 => ?_) (fun f87 => ?_)
          · refine xt_inc _ (1) dX12_offends_92 rfl (by decide) (by decide) rfl ?_
            change x_T _ _ _ _ [_, _, _, _, _] _ _ _ _
            refine xt_goto 8 dX12_offends_95 (by decide) ?_
            refine x_T.ls ?_ (ih (m + 1) (.int 1) (by omega) ?_)
            · rw [nI_succ m]
            · rw [s_any, hno, Bool.false_or]
              have : ¬ G (19 + m) + h ≤ G (41 + (6 * g + G (7 + m))) := by
                have q := t87
                rw [hha, nI_add, hix, nI_clamp (by omega), hS.2.2.1 _ (by omega), nI_ltI (by omega) (by omega)] at q
                omega
              simp [this]
          · refine xt_iconst (1) dX12_offends_90 (by decide) ?_
            exact xt_iret .boolean dX12_offends_91 rfl (by first | rfl | assumption) ⟨by rw [if_pos (hup (m + 1) (by omega) (by rw [s_any]; have hs : st m = false := (by cases hq : st m <;> simp_all); have h1 : s_farO G g + e ≤ G (13 + m) := (by have q := f41; rw [hne, Int32.lt_iff_toInt_lt, pk_sub_toInt (by omega) (by omega), nI_toInt (by omega)] at q; omega); have h2 : G (19 + m) + h ≤ G (41 + (6 * g + G (7 + m))) := (by have q := f87; rw [hha, nI_add, hix, nI_clamp (by omega), hS.2.2.1 _ (by omega), nI_ltI (by omega) (by omega)] at q; omega); simp [hs, h1, h2]))], rfl, rfl⟩
  refine x_D.of (by decide) (Nat.le_of_ble_eq_true rfl) ?_
  show x_T sc (d + 2) mX12_offends 0 [.ref 152, .int (nI g), .retAddr 0, .retAddr 0, .retAddr 0] [] μ w _
  refine xt_aload_n _ dX12_offends_0 rfl ?_
  refine xt_iload_n _ dX12_offends_1 rfl ?_
  refine xt_cV _ dX12_offends_2 klX12_294 (tX12_fromStand sc _ μ w f G hS hW g hg) sh152 rfl rfl (Nat.le_of_ble_eq_true rfl) ?_
  refine xt_istore_n dX12_offends_5 (by decide) rfl ?_
  change x_T _ _ _ _ [_, _, _, _, _] _ _ _ _
  refine xt_iconst (0) dX12_offends_6 (by decide) ?_
  refine xt_istore_n dX12_offends_7 (by decide) rfl ?_
  change x_T _ _ _ _ [_, _, _, _, _] _ _ _ _
  exact L8 (G 3) 0 _ (by omega) rfl
set_option maxHeartbeats 4000000 in
theorem tX12_offenders (f : Nat) (G : Nat → Nat) (hS : m_S μ f G) (hW : f_W G) (x : Int32) (st : Nat → Bool) (hst : s_strM x st) (h e : Nat) (hh : h ≤ 99) (he : e ≤ 99) (hx : μ 152 34 = x) (hha : μ 152 35 = nI h) (hne : μ 152 36 = nI e) : x_D sc (d + 3) mX12_offenders [.ref 152] μ w (some (.int (nI (s_bits (fun g => s_any G st h e g (G 3)) (G 4))))) μ w := by
  have hm8 : G 4 ≤ 8 := hW.1.2.2.2.2.1
  have e4 : μ 152 24 = nI (G 4) := hS.1.2.2.2.1
  have L4 : ∀ (n m : Nat) , m + n = G 4 → x_T sc (d + 3) mX12_offenders 4 [.ref 152, .int (nI (s_bits (fun g => s_any G st h e g (G 3)) m)), .int (nI m)] [] μ w (x_p (some (.int (nI (s_bits (fun g => s_any G st h e g (G 3)) (G 4))))) μ w) := by
    intro n
    induction n with
    | zero =>
      intro m  hmn
      obtain rfl : m = G 4 := by omega
      refine xt_iload_n _ dX12_offenders_4 rfl ?_
      refine xt_aload_n _ dX12_offenders_5 rfl ?_
      refine xt_geti dX12_offenders_6 kfX12_251 (by first | exact sh152 | rfl | assumption) rfl ?_
      refine xt_icmp_ge 36 dX12_offenders_9 (by decide) (fun _ => ?_) (fun q => absurd (by rw [e4]; exact Int32.le_refl _) q)
      refine xt_iload_n _ dX12_offenders_36 rfl ?_
      exact xt_iret .int dX12_offenders_37 rfl (by first | rfl | assumption) ⟨rfl, rfl, rfl⟩
    | succ n ih =>
      intro m  hmn
      have hlt : m < G 4 := by omega
      refine xt_iload_n _ dX12_offenders_4 rfl ?_
      refine xt_aload_n _ dX12_offenders_5 rfl ?_
      refine xt_geti dX12_offenders_6 kfX12_251 (by first | exact sh152 | rfl | assumption) rfl ?_
      refine xt_icmp_ge 36 dX12_offenders_9 (by decide) (fun q => absurd q (by rw [e4]; exact nI_ge hlt (by omega))) (fun _ => ?_)
      refine xt_iload_n _ dX12_offenders_12 rfl ?_
      refine xt_aload_n _ dX12_offenders_13 rfl ?_
      refine xt_iload_n _ dX12_offenders_14 rfl ?_
      refine xt_cV _ dX12_offenders_15 klX12_297 (tX12_offends sc d μ w f G hS hW m hlt x st hst h e hh he hx hha hne) sh152 rfl rfl (Nat.le_of_ble_eq_true rfl) ?_
      refine xt_if_eq 27 dX12_offenders_18 (by decide) (fun t18 => ?_) (fun f18 => ?_)
      · refine xt_iconst (0) dX12_offenders_27 (by decide) ?_
        refine xt_ior dX12_offenders_28 ?_
        refine xt_istore_n dX12_offenders_29 (by decide) rfl ?_
        change x_T _ _ _ _ [_, _, _] _ _ _ _
        refine xt_inc _ (1) dX12_offenders_30 rfl (by decide) (by decide) rfl ?_
        change x_T _ _ _ _ [_, _, _] _ _ _ _
        refine xt_goto 4 dX12_offenders_33 (by decide) ?_
        refine x_T.ls ?_ (ih (m + 1) (by omega))
        have hb : s_any G st h e m (G 3) = false := by cases hq : s_any G st h e m (G 3) <;> simp_all
        rw [s_bits_no (p := (fun g => s_any G st h e g (G 3))) hb, nI_succ m, Int32.or_zero]
      · refine xt_iconst (1) dX12_offenders_21 (by decide) ?_
        refine xt_iload_n _ dX12_offenders_22 rfl ?_
        refine xt_ishl dX12_offenders_23 ?_
        refine xt_goto 28 dX12_offenders_24 (by decide) ?_
        refine xt_ior dX12_offenders_28 ?_
        refine xt_istore_n dX12_offenders_29 (by decide) rfl ?_
        change x_T _ _ _ _ [_, _, _] _ _ _ _
        refine xt_inc _ (1) dX12_offenders_30 rfl (by decide) (by decide) rfl ?_
        change x_T _ _ _ _ [_, _, _] _ _ _ _
        refine xt_goto 4 dX12_offenders_33 (by decide) ?_
        refine x_T.ls ?_ (ih (m + 1) (by omega))
        have hb : s_any G st h e m (G 3) = true := by cases hq : s_any G st h e m (G 3) <;> simp_all
        rw [← s_bits_or (p := (fun g => s_any G st h e g (G 3))) (g := m) (by omega) hb, nI_succ m]
  refine x_D.of (by decide) (Nat.le_of_ble_eq_true rfl) ?_
  show x_T sc (d + 3) mX12_offenders 0 [.ref 152, .retAddr 0, .retAddr 0] [] μ w _
  refine xt_iconst (0) dX12_offenders_0 (by decide) ?_
  refine xt_istore_n dX12_offenders_1 (by decide) rfl ?_
  change x_T _ _ _ _ [_, _, _] _ _ _ _
  refine xt_iconst (0) dX12_offenders_2 (by decide) ?_
  refine xt_istore_n dX12_offenders_3 (by decide) rfl ?_
  change x_T _ _ _ _ [_, _, _] _ _ _ _
  exact L4 (G 4) 0 (by omega)
end HAND
