/-! the step of forget -/
theorem x_bk {μ : x_Me} {k j : Nat} {x y : Int32} (h : μ k j = y) : x_u (x_u μ k (upd (μ k) j x)) k (upd (x_u μ k (upd (μ k) j x) k) j y) = μ := by
  funext a
  by_cases ha : a = k
  · subst ha
    rw [x_u_eq, x_u_eq]
    funext i
    by_cases hi : i = j
    · subst hi; simp [upd, h]
    · simp [upd, hi]
  · rw [x_u_ne ha, x_u_ne ha]
theorem s_any_iff (G : Nat → Nat) (st : Nat → Bool) (h e g : Nat) : ∀ n, s_any G st h e g n = true ↔ ∃ m, m < n ∧ st m = false ∧ s_farO G g + e ≤ G (13 + m) ∧ G (19 + m) + h ≤ G (41 + (6 * g + G (7 + m)))
  | 0 => by simp [s_any]
  | n + 1 => by
    rw [s_any, Bool.or_eq_true, s_any_iff G st h e g n]
    constructor
    · rintro (⟨m, h1, h2⟩ | h1)
      · exact ⟨m, by omega, h2⟩
      · simp only [Bool.and_eq_true, decide_eq_true_eq] at h1
        exact ⟨n, by omega, h1.1.1, h1.1.2, h1.2⟩
    · rintro ⟨m, h1, h2, h3, h4⟩
      by_cases hm : m = n
      · subst hm
        right
        simp only [Bool.and_eq_true, decide_eq_true_eq]
        exact ⟨⟨h2, h3⟩, h4⟩
      · exact Or.inl ⟨m, by omega, h2, h3, h4⟩
theorem s_bits_z (p : Nat → Bool) : ∀ n, s_bits p n = 0 ↔ ∀ i, i < n → p i = false
  | 0 => by simp [s_bits]
  | n + 1 => by
    have ih := s_bits_z p n
    have hp : 0 < 2 ^ n := Nat.pow_pos (by decide)
    rw [s_bits]
    constructor
    · intro h i hi
      by_cases hq : p n = true
      · rw [if_pos hq] at h; omega
      · by_cases h2 : i = n
        · subst h2; simpa using hq
        · exact ih.mp (by omega) i (by omega)
    · intro h
      rw [ih.mpr (fun i hi => h i (by omega)), h n (by omega)]; rfl
theorem s_cnt_z (p : Nat → Bool) : ∀ n, s_cnt p n = 0 ↔ ∀ i, i < n → p i = false
  | 0 => by simp [s_cnt]
  | n + 1 => by
    have ih := s_cnt_z p n
    rw [s_cnt]
    constructor
    · intro h i hi
      by_cases hq : p n = true
      · rw [if_pos hq] at h; omega
      · by_cases h2 : i = n
        · subst h2; simpa using hq
        · exact ih.mp (by omega) i (by omega)
    · intro h
      rw [ih.mpr (fun i hi => h i (by omega)), h n (by omega)]; rfl
theorem s_cnt_mono {p q : Nat → Bool} : ∀ {n : Nat}, (∀ i, i < n → p i = true → q i = true) → s_cnt p n ≤ s_cnt q n
  | 0, _ => Nat.le_refl _
  | n + 1, h => by
    have ih := s_cnt_mono (n := n) (fun i hi => h i (by omega))
    rw [s_cnt, s_cnt]
    by_cases hp : p n = true
    · rw [if_pos hp, if_pos (h n (by omega) hp)]; omega
    · rw [if_neg hp]; omega
theorem s_pop_bits (p : Nat → Bool) {n : Nat} (hn : n ≤ 8) : s_cnt (fun i => (s_bits p n).testBit i) 8 = s_cnt p n := by
  rw [s_cnt_cong (q := fun i => decide (i < n) && p i) (fun i _ => s_bits_bit p n i)]
  have := s_cnt_ext p n (8 - n)
  rw [show n + (8 - n) = 8 by omega] at this
  exact this
/-- a GOER comes under a MINDS -/
def s_hit (F : Nat → Nat) (g m : Nat) : Prop := s_farO F g ≤ F (13 + m) ∧ F (19 + m) ≤ F (41 + (6 * g + F (7 + m)))
theorem s_off_iff (F : Nat → Nat) (st : Nat → Bool) (g : Nat) : s_off F st 0 g = true ↔ ∃ m, m < F 3 ∧ st m = false ∧ s_hit F g m := by
  have h1 := s_any_ear F st 0 g (F 3)
  have h2 := s_any_iff F st 0 0 g (F 3)
  unfold s_off
  rw [← h1, h2]
  rfl
theorem s_offs_z (F : Nat → Nat) (st : Nat → Bool) : s_offs F st = 0 ↔ ∀ g, g < F 4 → ∀ m, m < F 3 → st m = false → ¬ s_hit F g m := by
  unfold s_offs
  rw [s_bits_z]
  constructor
  · intro h g hg m hm h1 h2
    have := (s_off_iff F st g).mpr ⟨m, hm, h1, h2⟩
    rw [h g hg] at this
    exact absurd this (by decide)
  · intro h g hg
    by_cases hq : s_off F st 0 g = true
    · obtain ⟨m, h1, h2, h3⟩ := (s_off_iff F st g).mp hq
      exact absurd h3 (h g hg m h1 h2)
    · simpa using hq
theorem s_by_pos (F : Nat → Nat) {m : Nat} (hm : m < F 3) : 0 < s_by F m ↔ ∃ g, g < F 4 ∧ s_hit F g m := by
  have hz := s_cnt_z (s_off F (fun j => decide (j ≠ m)) 0) (F 4)
  constructor
  · intro h
    apply Classical.byContradiction
    intro hn
    have : s_by F m = 0 := by
      unfold s_by
      rw [hz]
      intro g hg
      by_cases hq : s_off F (fun j => decide (j ≠ m)) 0 g = true
      · obtain ⟨j, h1, h2, h3⟩ := (s_off_iff F _ g).mp hq
        have : j = m := by simpa using h2
        subst this
        exact absurd ⟨g, hg, h3⟩ hn
      · simpa using hq
    omega
  · rintro ⟨g, hg, h⟩
    apply Nat.pos_of_ne_zero
    intro h0
    have h1 := hz.mp h0 g hg
    have h2 := (s_off_iff F (fun j => decide (j ≠ m)) g).mpr ⟨m, hm, by simp, h⟩
    rw [h1] at h2
    exact absurd h2 (by decide)
/-- all MINDS by which anybody offends -/
abbrev s_fg (F : Nat → Nat) : Nat := s_bits (fun m => decide (0 < s_by F m)) (F 3)
theorem s_fg_iff (F : Nat → Nat) (x : Nat) : s_offs F (fun m => x.testBit m) = 0 ↔ ∀ m, m < F 3 → 0 < s_by F m → x.testBit m = true := by
  rw [s_offs_z]
  constructor
  · intro h m hm hp
    obtain ⟨g, hg, hh⟩ := (s_by_pos F hm).mp hp
    by_cases hq : x.testBit m = true
    · exact hq
    · exact absurd hh (h g hg m hm (by simpa using hq))
  · intro h g hg m hm h1 h2
    have := h m hm ((s_by_pos F hm).mpr ⟨g, hg, h2⟩)
    rw [this] at h1
    exact absurd h1 (by decide)
theorem s_fg_sub {F : Nat → Nat} {x : Nat} (h : s_offs F (fun m => x.testBit m) = 0) : ∀ i, (s_fg F).testBit i = true → x.testBit i = true := by
  intro i hi
  rw [s_bits_bit] at hi
  simp only [Bool.and_eq_true, decide_eq_true_eq] at hi
  exact (s_fg_iff F x).mp h i hi.1 hi.2
theorem s_fg_le {F : Nat → Nat} {x : Nat} (h : s_offs F (fun m => x.testBit m) = 0) : s_fg F ≤ x := by
  have h1 := s_fg_sub h
  have e : s_fg F &&& x = s_fg F := by
    apply Nat.eq_of_testBit_eq
    intro i
    rw [Nat.testBit_and]
    by_cases hi : (s_fg F).testBit i = true
    · rw [hi, h1 i hi]; rfl
    · rw [Bool.eq_false_iff.mpr hi]; rfl
  rw [← e]; exact Nat.and_le_right
theorem s_fg_pop {F : Nat → Nat} {x : Nat} (h : s_offs F (fun m => x.testBit m) = 0) : s_cnt (fun i => (s_fg F).testBit i) 8 ≤ s_cnt (fun i => x.testBit i) 8 := s_cnt_mono (fun i _ => s_fg_sub h i)
theorem s_fg_self (F : Nat → Nat) : s_offs F (fun m => (s_fg F).testBit m) = 0 := by
  rw [s_fg_iff]
  intro m hm hp
  rw [s_bits_bit]; simp [hm, hp]
theorem s_strMx : ∀ x, x < 256 → s_strM (nI x) (fun m => x.testBit m) := fun x hx m hm => by rw [s_has_nI x hx m (by omega)]
section FORGET
variable (sc : Nat × (Nat → Int32)) (d : Nat) (μ : x_Me) (w : Int64)
set_option maxHeartbeats 1000000 in
theorem tX12_offendersBut (f : Nat) (G : Nat → Nat) (hS : m_S μ f G) (hW : f_W G) (h34 : μ 152 34 = 0) (h35 : μ 152 35 = 0) (h36 : μ 152 36 = 0) (x : Int32) (st : Nat → Bool) (hst : s_strM x st) : x_D sc (d + 4) mX12_offendersBut [.ref 152, .int x] μ w (some (.int (nI (s_offs G st)))) μ w := by
  refine x_D.of (by decide) (Nat.le_of_ble_eq_true rfl) ?_
  show x_T sc (d + 4) mX12_offendersBut 0 [.ref 152, .int x, .retAddr 0] [] μ w _
  refine xt_aload_n _ dX12_offendersBut_0 rfl ?_
  refine xt_iload_n _ dX12_offendersBut_1 rfl ?_
  refine xt_puti dX12_offendersBut_2 kpX12_281 (by first | exact sh152 | rfl | assumption) rfl (by first | rfl | assumption) (by first | rfl | assumption) ?_
  refine xt_aload_n _ dX12_offendersBut_5 rfl ?_
  refine xt_cV _ dX12_offendersBut_6 klX12_322 (tX12_offenders sc _ (x_u μ 152 (upd (μ 152) 34 x)) w f G hS hW x st hst 0 0 (by decide) (by decide) rfl h35 h36) sh152 rfl rfl (Nat.le_of_ble_eq_true rfl) ?_
  rw [s_any_offs]
  refine xt_istore_n dX12_offendersBut_9 (by decide) rfl ?_
  change x_T _ _ _ _ [_, _, _] _ _ _ _
  refine xt_aload_n _ dX12_offendersBut_10 rfl ?_
  refine xt_iconst (0) dX12_offendersBut_11 (by decide) ?_
  refine xt_puti dX12_offendersBut_12 kpX12_281 (by first | exact sh152 | rfl | assumption) rfl (by first | rfl | assumption) (by first | rfl | assumption) ?_
  refine xt_iload_n _ dX12_offendersBut_15 rfl ?_
  exact xt_iret .int dX12_offendersBut_16 rfl (by first | rfl | assumption) ⟨rfl, x_bk h34, rfl⟩
end FORGET
theorem nI_m1 {n : Nat} (h : n < 2 ^ 31) : ¬ nI n = -1 := by
  intro z
  have h1 := nI_toInt h
  rw [z] at h1
  have h2 : (-1 : Int32).toInt = -1 := by decide
  omega
set_option maxHeartbeats 1000000 in
theorem st_forget (sc : Nat × (Nat → Int32)) (a1 u : Int32) : x_stI sc (fun μ _ => x_Inv μ) (fun μ _ => x_Inv μ) mX11_forget mX12_forget [.int a1, .int u] := by
  refine x_stF (-1) ?_ ?_ ?_
  · intro μ w c hc e hk
    refine x_K.of (by decide) (Nat.le_of_ble_eq_true rfl) ?_
    show x_T sc 29 mX11_forget 0 [.ref 0, .int a1, .int u, .retAddr 0, .retAddr 0] [] μ w _
    refine xt_aload_n _ dX11_forget_0 rfl ?_
    refine xt_iload_n _ dX11_forget_1 rfl ?_
    refine xt_cV _ dX11_forget_2 klX11_90 (tX11_fairOf_no sc _ μ w c hc e _ hk) sh0 rfl rfl (Nat.le_of_ble_eq_true rfl) ?_
    refine xt_astore_n0 dX11_forget_5 (by decide) rfl ?_
    change x_T _ _ _ _ [_, _, _, _, _] _ _ _ _
    refine xt_aload_n0 dX11_forget_6 rfl ?_
    refine xt_ifnonnull_n dX11_forget_7 ?_
    refine xt_iconst (-1) dX11_forget_10 (by decide) ?_
    exact xt_iret .int dX11_forget_11 rfl (by first | rfl | assumption) ⟨rfl, x_keep.rf μ⟩
  · intro μ w c hc e hk
    refine x_K.of (by decide) (Nat.le_of_ble_eq_true rfl) ?_
    show x_T sc 29 mX12_forget 0 [.ref 152, .int a1, .int u, .retAddr 0, .retAddr 0, .retAddr 0] [] μ w _
    refine xt_aload_n _ dX12_forget_0 rfl ?_
    refine xt_iconst (0) dX12_forget_1 (by decide) ?_
    refine xt_puti dX12_forget_2 kpX12_72 (by first | exact sh152 | rfl | assumption) rfl (by first | rfl | assumption) (by first | rfl | assumption) ?_
    refine xt_aload_n _ dX12_forget_5 rfl ?_
    refine xt_iload_n _ dX12_forget_6 rfl ?_
    refine xt_cV _ dX12_forget_7 klX12_300 (tX12_hand_no sc _ (x_u μ 152 (upd (μ 152) 0 0)) w c hc e _ hk) sh152 rfl rfl (Nat.le_of_ble_eq_true rfl) ?_
    refine xt_if_ne 15 dX12_forget_10 (by decide) (fun q => absurd (by decide) q) (fun _ => ?_)
    refine xt_iconst (-1) dX12_forget_13 (by decide) ?_
    exact xt_iret .int dX12_forget_14 rfl (by first | rfl | assumption) ⟨rfl, (x_keep.u (x_keep.rf μ) (by unfold x_ok; omega))⟩
  · intro f F hf2 hkk hW
    subst hkk
    have hm6 : F 3 ≤ 6 := hW.1.2.2.2.1
    have h64 : 2 ^ F 3 ≤ 64 := Nat.pow_le_pow_right (i := F 3) (j := 6) (by decide) hm6
    have hO : s_fg F < 2 ^ F 3 := s_bits_lt (fun m => decide (0 < s_by F m)) (F 3)
    refine ⟨if u = 0 then nI (s_cnt (fun m => decide (0 < s_by F m)) (F 3)) else nI (s_fg F), ?_, ?_⟩
    · intro μ w c hf hc e hC
      have hS := f_Sf hf2
      refine x_K.of (by decide) (Nat.le_of_ble_eq_true rfl) ?_
      show x_T sc 29 mX11_forget 0 [.ref 0, .int (nI f), .int u, .retAddr 0, .retAddr 0] [] μ w _
      refine xt_aload_n _ dX11_forget_0 rfl ?_
      refine xt_iload_n _ dX11_forget_1 rfl ?_
      refine xt_cV _ dX11_forget_2 klX11_90 (tX11_fairOf sc _ μ w f c hf hc e) sh0 rfl rfl (Nat.le_of_ble_eq_true rfl) ?_
      refine xt_astore_n dX11_forget_5 (by decide) rfl ?_
      change x_T _ _ _ _ [_, _, _, _, _] _ _ _ _
      refine xt_aload_n _ dX11_forget_6 rfl ?_
      refine xt_ifnonnull_r 12 dX11_forget_7 (by decide) ?_
      refine xt_aload_n _ dX11_forget_12 rfl ?_
      refine xt_cV _ dX11_forget_13 klX11_250 (tX2_offendedMinds sc _ w hS hC hW) hS.1 rfl rfl (Nat.le_of_ble_eq_true rfl) ?_
      refine xt_istore dX11_forget_16 (by decide) rfl ?_
      change x_T _ _ _ _ [_, _, _, _, _] _ _ _ _
      refine xt_iload_n _ dX11_forget_18 rfl ?_
      refine xt_if_eq 27 dX11_forget_19 (by decide) (fun t19 => ?_) (fun f19 => ?_)
      · refine xt_iload _ dX11_forget_27 rfl ?_
        refine xt_cS _ dX11_forget_29 klX11_253 (tJ_bitCount sc _ w _) rfl rfl (Nat.le_of_ble_eq_true rfl) ?_
        exact xt_iret .int dX11_forget_32 rfl (by first | rfl | assumption) ⟨by rw [if_pos t19, s_bc_bits _ (by omega)], x_keep.rf μ⟩
      · refine xt_iload _ dX11_forget_22 rfl ?_
        refine xt_goto 32 dX11_forget_24 (by decide) ?_
        exact xt_iret .int dX11_forget_32 rfl (by first | rfl | assumption) ⟨by rw [if_neg f19], x_keep.rf μ⟩
    · intro μ w c hf hc e hF
      refine x_K.of (by decide) (Nat.le_of_ble_eq_true rfl) ?_
      show x_T sc 29 mX12_forget 0 [.ref 152, .int (nI f), .int u, .retAddr 0, .retAddr 0, .retAddr 0] [] μ w _
      refine xt_aload_n _ dX12_forget_0 rfl ?_
      refine xt_iconst (0) dX12_forget_1 (by decide) ?_
      refine xt_puti dX12_forget_2 kpX12_72 (by first | exact sh152 | rfl | assumption) rfl (by first | rfl | assumption) (by first | rfl | assumption) ?_
      refine xt_aload_n _ dX12_forget_5 rfl ?_
      refine xt_iload_n _ dX12_forget_6 rfl ?_
      refine xt_callV _ dX12_forget_7 klX12_300 (tX12_hand sc _ (x_u μ 152 (upd (μ 152) 0 0)) w f c F hf hc e hF) sh152 rfl rfl (Nat.le_of_ble_eq_true rfl) (fun r1 μ1 w1 q1 => ?_)
      obtain ⟨rfl, rfl, hS, h0, hfr⟩ := q1
      change x_T _ _ _ _ _ (.int 1 :: _) _ _ _
      have e3 : μ1 152 23 = nI (F 3) := hS.1.2.2.1
      refine xt_if_ne 15 dX12_forget_10 (by decide) (fun _ => ?_) (fun q => absurd q (by decide))
      refine xt_iconst (-1) dX12_forget_15 (by decide) ?_
      refine xt_istore_n dX12_forget_16 (by decide) rfl ?_
      change x_T _ _ _ _ [_, _, _, _, _, _] _ _ _ _
      refine xt_iconst (0) dX12_forget_17 (by decide) ?_
      refine xt_istore dX12_forget_18 (by decide) rfl ?_
      change x_T _ _ _ _ [_, _, _, _, _, _] _ _ _ _
      have L20 : ∀ (n20 m : Nat) (v5 : Value), m + n20 = 2 ^ F 3 → x_T sc 29 mX12_forget 20 [.ref 152, .int (nI f), .int u, .int (if m ≤ (s_fg F) then -1 else nI (s_fg F)), .int (nI m), v5] [] μ1 w1 (fun r μ' _ => r = some (.int (if u = 0 then nI (s_cnt (fun m => decide (0 < s_by F m)) (F 3)) else nI (s_fg F))) ∧ x_keep μ μ') := by
        intro n20
        induction n20 with
        | zero =>
          intro m v5 hmn
          obtain rfl : m = 2 ^ F 3 := by omega
          rw [if_neg (show ¬ 2 ^ F 3 ≤ (s_fg F) by omega)]
          refine xt_iload _ dX12_forget_20 rfl ?_
          refine xt_iconst (1) dX12_forget_22 (by decide) ?_
          refine xt_aload_n _ dX12_forget_23 rfl ?_
          refine xt_geti dX12_forget_24 kfX12_248 (by first | exact sh152 | rfl | assumption) rfl ?_
          refine xt_ishl dX12_forget_27 ?_
          refine xt_icmp_ge 82 dX12_forget_28 (by decide) (fun _ => ?_) (fun q => absurd (by rw [e3]; exact Int32.le_of_eq (x_bit (F 3) (by omega))) q)
          refine xt_iload_n _ dX12_forget_82 rfl ?_
          refine xt_if_eq 90 dX12_forget_83 (by decide) (fun t83 => ?_) (fun f83 => ?_)
          · refine xt_iload_n _ dX12_forget_90 rfl ?_
            refine xt_cS _ dX12_forget_91 klX12_412 (tX12_ones sc _ μ1 _ (s_fg F) (by omega)) rfl rfl (Nat.le_of_ble_eq_true rfl) ?_
            exact xt_iret .int dX12_forget_94 rfl (by first | rfl | assumption) ⟨by rw [if_pos t83, s_pop_bits _ (by omega)], (x_keep.hand hfr)⟩
          · refine xt_iload_n _ dX12_forget_86 rfl ?_
            refine xt_goto 94 dX12_forget_87 (by decide) ?_
            exact xt_iret .int dX12_forget_94 rfl (by first | rfl | assumption) ⟨by rw [if_neg f83], (x_keep.hand hfr)⟩
        | succ n20 ih20 =>
          intro m v5 hmn
          have hlt : m < 2 ^ F 3 := by omega
          refine xt_iload _ dX12_forget_20 rfl ?_
          refine xt_iconst (1) dX12_forget_22 (by decide) ?_
          refine xt_aload_n _ dX12_forget_23 rfl ?_
          refine xt_geti dX12_forget_24 kfX12_248 (by first | exact sh152 | rfl | assumption) rfl ?_
          refine xt_ishl dX12_forget_27 ?_
          refine xt_icmp_ge 82 dX12_forget_28 (by decide) (fun q => absurd q (by rw [e3]; intro z; rw [show (1 : Int32) <<< (nI (F 3) &&& 31) = nI (2 ^ F 3) from x_bit (F 3) (by omega)] at z; exact nI_ge hlt (by omega) z)) (fun _ => ?_)
          refine xt_iload_n _ dX12_forget_31 rfl ?_
          refine xt_iconst (-1) dX12_forget_32 (by decide) ?_
          refine xt_icmp_eq 48 dX12_forget_33 (by decide) (fun t33 => ?_) (fun f33 => ?_)
          · refine xt_iconst (1) dX12_forget_48 (by decide) ?_
            refine xt_goto 53 dX12_forget_49 (by decide) ?_
            refine xt_istore dX12_forget_53 (by decide) rfl ?_
            change x_T _ _ _ _ [_, _, _, _, _, _] _ _ _ _
            refine xt_iload _ dX12_forget_55 rfl ?_
            refine xt_if_eq 74 dX12_forget_57 (by decide) (fun q => absurd q (by decide)) (fun _ => ?_)
            refine xt_aload_n _ dX12_forget_60 rfl ?_
            refine xt_iload _ dX12_forget_61 rfl ?_
            refine xt_cV _ dX12_forget_63 klX12_477 (tX12_offendersBut sc _ μ1 _ f F hS hW h0.2.2.2.2.2.1 h0.2.2.2.2.2.2.1 h0.2.2.2.2.2.2.2 _ _ (s_strMx m (by omega))) sh152 rfl rfl (Nat.le_of_ble_eq_true rfl) ?_
            refine xt_if_ne 74 dX12_forget_66 (by decide) (fun t66 => ?_) (fun f66 => ?_)
            · refine xt_iload_n _ dX12_forget_74 rfl ?_
              refine xt_istore_n dX12_forget_75 (by decide) rfl ?_
              change x_T _ _ _ _ [_, _, _, _, _, _] _ _ _ _
              refine xt_inc _ (1) dX12_forget_76 rfl (by decide) (by decide) rfl ?_
              change x_T _ _ _ _ [_, _, _, _, _, _] _ _ _ _
              refine xt_goto 20 dX12_forget_79 (by decide) ?_
              have hb1 := s_offs_lt hW (fun i => m.testBit i)
              have hmO : m ≤ (s_fg F) := by
                apply Classical.byContradiction
                intro z
                rw [if_neg z] at t33
                exact absurd t33 (nI_m1 (by omega))
              have hne : ¬ m = (s_fg F) := fun z => t66 (by rw [z, s_fg_self]; rfl)
              refine x_T.ls ?_ (ih20 (m + 1) (.int 1) (by omega))
              rw [if_pos hmO, if_pos (show m + 1 ≤ (s_fg F) by omega), nI_succ m]
            · refine xt_iload _ dX12_forget_69 rfl ?_
              refine xt_goto 75 dX12_forget_71 (by decide) ?_
              refine xt_istore_n dX12_forget_75 (by decide) rfl ?_
              change x_T _ _ _ _ [_, _, _, _, _, _] _ _ _ _
              refine xt_inc _ (1) dX12_forget_76 rfl (by decide) (by decide) rfl ?_
              change x_T _ _ _ _ [_, _, _, _, _, _] _ _ _ _
              refine xt_goto 20 dX12_forget_79 (by decide) ?_
              have hb1 := s_offs_lt hW (fun i => m.testBit i)
              have hmO : m ≤ (s_fg F) := by
                apply Classical.byContradiction
                intro z
                rw [if_neg z] at t33
                exact absurd t33 (nI_m1 (by omega))
              have hz : s_offs F (fun i => m.testBit i) = 0 := (nI_0e (by omega)).mp f66
              have hle := s_fg_le hz
              obtain rfl : m = (s_fg F) := by omega
              refine x_T.ls ?_ (ih20 ((s_fg F) + 1) (.int 1) (by omega))
              rw [if_neg (show ¬ (s_fg F) + 1 ≤ (s_fg F) by omega), nI_succ (s_fg F)]
          · have hb : ¬ m ≤ (s_fg F) := fun z => f33 (by rw [if_pos z])
            rw [if_neg hb]
            refine xt_iload _ dX12_forget_36 rfl ?_
            refine xt_cS _ dX12_forget_38 klX12_412 (tX12_ones sc _ μ1 _ m (by omega)) rfl rfl (Nat.le_of_ble_eq_true rfl) ?_
            refine xt_iload_n _ dX12_forget_41 rfl ?_
            refine xt_cS _ dX12_forget_42 klX12_412 (tX12_ones sc _ μ1 _ (s_fg F) (by omega)) rfl rfl (Nat.le_of_ble_eq_true rfl) ?_
            refine xt_icmp_ge 52 dX12_forget_45 (by decide) (fun t45 => ?_) (fun f45 => ?_)
            · refine xt_iconst (0) dX12_forget_52 (by decide) ?_
              refine xt_istore dX12_forget_53 (by decide) rfl ?_
              change x_T _ _ _ _ [_, _, _, _, _, _] _ _ _ _
              refine xt_iload _ dX12_forget_55 rfl ?_
              refine xt_if_eq 74 dX12_forget_57 (by decide) (fun _ => ?_) (fun q => absurd (by decide) q)
              refine xt_iload_n _ dX12_forget_74 rfl ?_
              refine xt_istore_n dX12_forget_75 (by decide) rfl ?_
              change x_T _ _ _ _ [_, _, _, _, _, _] _ _ _ _
              refine xt_inc _ (1) dX12_forget_76 rfl (by decide) (by decide) rfl ?_
              change x_T _ _ _ _ [_, _, _, _, _, _] _ _ _ _
              refine xt_goto 20 dX12_forget_79 (by decide) ?_
              have hb1 := s_offs_lt hW (fun i => m.testBit i)
              refine x_T.ls ?_ (ih20 (m + 1) (.int 0) (by omega))
              rw [if_neg (show ¬ m + 1 ≤ (s_fg F) by omega), nI_succ m]
            · refine xt_iconst (1) dX12_forget_48 (by decide) ?_
              refine xt_goto 53 dX12_forget_49 (by decide) ?_
              refine xt_istore dX12_forget_53 (by decide) rfl ?_
              change x_T _ _ _ _ [_, _, _, _, _, _] _ _ _ _
              refine xt_iload _ dX12_forget_55 rfl ?_
              refine xt_if_eq 74 dX12_forget_57 (by decide) (fun q => absurd q (by decide)) (fun _ => ?_)
              refine xt_aload_n _ dX12_forget_60 rfl ?_
              refine xt_iload _ dX12_forget_61 rfl ?_
              refine xt_cV _ dX12_forget_63 klX12_477 (tX12_offendersBut sc _ μ1 _ f F hS hW h0.2.2.2.2.2.1 h0.2.2.2.2.2.2.1 h0.2.2.2.2.2.2.2 _ _ (s_strMx m (by omega))) sh152 rfl rfl (Nat.le_of_ble_eq_true rfl) ?_
              refine xt_if_ne 74 dX12_forget_66 (by decide) (fun t66 => ?_) (fun f66 => ?_)
              · refine xt_iload_n _ dX12_forget_74 rfl ?_
                refine xt_istore_n dX12_forget_75 (by decide) rfl ?_
                change x_T _ _ _ _ [_, _, _, _, _, _] _ _ _ _
                refine xt_inc _ (1) dX12_forget_76 rfl (by decide) (by decide) rfl ?_
                change x_T _ _ _ _ [_, _, _, _, _, _] _ _ _ _
                refine xt_goto 20 dX12_forget_79 (by decide) ?_
                have hb1 := s_offs_lt hW (fun i => m.testBit i)
                refine x_T.ls ?_ (ih20 (m + 1) (.int 1) (by omega))
                rw [if_neg (show ¬ m + 1 ≤ (s_fg F) by omega), nI_succ m]
              · refine xt_iload _ dX12_forget_69 rfl ?_
                refine xt_goto 75 dX12_forget_71 (by decide) ?_
                refine xt_istore_n dX12_forget_75 (by decide) rfl ?_
                change x_T _ _ _ _ [_, _, _, _, _, _] _ _ _ _
                refine xt_inc _ (1) dX12_forget_76 rfl (by decide) (by decide) rfl ?_
                change x_T _ _ _ _ [_, _, _, _, _, _] _ _ _ _
                refine xt_goto 20 dX12_forget_79 (by decide) ?_
                have hb1 := s_offs_lt hW (fun i => m.testBit i)
                have hz : s_offs F (fun i => m.testBit i) = 0 := (nI_0e (by omega)).mp f66
                exact absurd (nI_le (s_fg_pop hz) (by have := s_cnt_le (fun i => m.testBit i) 8; omega)) f45
      exact L20 (2 ^ F 3) 0 _ (by omega)
