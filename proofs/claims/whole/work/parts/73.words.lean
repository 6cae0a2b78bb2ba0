/-! texts: words, and the reference's lines by their words -/
def s_W (j : Nat) : Int64 := lN ([495873781348, 1735353714, 495739563636, 469920277619, 513021013607, 27988542649365363, 1953462126, 1953853029, 6711668, 6386539, 2002873451, 1835363940, 25711, 1818846579, 32497644298331492, 123610794124644].getD j 0)
theorem lN_inj {a b : Nat} (ha : a < 2 ^ 64) (hb : b < 2 ^ 64) : lN a = lN b ↔ a = b := by
  constructor
  · intro h
    have h2 : BitVec.ofNat 64 a = BitVec.ofNat 64 b := congrArg Int64.toBitVec h
    have h3 := congrArg BitVec.toNat h2
    rw [BitVec.toNat_ofNat, BitVec.toNat_ofNat, Nat.mod_eq_of_lt ha, Nat.mod_eq_of_lt hb] at h3
    exact h3
  · intro h; rw [h]
theorem s_W_pk : ∀ j, j < 16 → s_W j = lN (s_pak (s_nm j) 0 (s_nl j)) := by decide +kernel
theorem s_W_0 : ∀ j, j < 16 → ¬ (0 : Int64) = s_W j := by decide +kernel
theorem s_nmk : ∀ j, j < 16 → s_pak (s_nm j) 0 (s_nl j) < 2 ^ 64 := by decide +kernel
theorem s_pak_inj {T U : Nat → Nat} {q r : Nat} : ∀ {n m : Nat}, (∀ i, i < n → 1 ≤ T (q + i) ∧ T (q + i) < 256) → (∀ i, i < m → 1 ≤ U (r + i) ∧ U (r + i) < 256) → (s_pak T q n = s_pak U r m ↔ n = m ∧ ∀ i, i < m → T (q + i) = U (r + i))
  | 0, 0, _, _ => ⟨fun _ => ⟨rfl, fun _ h => absurd h (by omega)⟩, fun _ => rfl⟩
  | 0, m + 1, _, h2 => by
    have := h2 m (by omega)
    rw [s_pak, s_pak]
    exact ⟨fun h => by omega, fun h => by omega⟩
  | n + 1, 0, h1, _ => by
    have := h1 n (by omega)
    rw [s_pak, s_pak]
    exact ⟨fun h => by omega, fun h => by omega⟩
  | n + 1, m + 1, h1, h2 => by
    have a1 := h1 n (by omega)
    have a2 := h2 m (by omega)
    have ih := s_pak_inj (n := n) (m := m) (fun i hi => h1 i (by omega)) (fun i hi => h2 i (by omega))
    rw [s_pak, s_pak]
    constructor
    · intro h
      have e1 : s_pak T q n = s_pak U r m := by omega
      have e2 : T (q + n) = U (r + m) := by omega
      obtain ⟨rfl, h4⟩ := ih.mp e1
      refine ⟨rfl, fun i hi => ?_⟩
      by_cases he : i = n
      · rw [he]; exact e2
      · exact h4 i (by omega)
    · intro h
      obtain ⟨h3, h4⟩ := h
      have hnm : n = m := by omega
      have e1 := ih.mpr ⟨hnm, fun i hi => h4 i (by omega)⟩
      have e2 := h4 m (by omega)
      rw [hnm] at e1 ⊢
      rw [e1, e2]
theorem s_wd_W {T : Nat → Nat} {L p : Nat} (hT : ∀ i, L ≤ i → T i = 0) (hT2 : ∀ i, T i < 256) (hp : p ≤ L) (hk : s_kd T L p = 1) {j : Nat} (hj : j < 16) : s_wd T L (s_sp T L p) = s_W j ↔ s_nb T (s_sp T L p) (s_te T L p - s_sp T L p) j = true := by
  have hs := s_sp_le hT hp
  obtain ⟨q, hq⟩ : ∃ q, s_sp T L p = q := ⟨_, rfl⟩
  have hk : s_kq T L q = 1 := by rw [← hq]; exact hk
  have hte : s_te T L p = s_eq T L q := by rw [← hq]
  rw [hq] at hs
  rw [hte, hq]
  have hl : s_isL (T q) = true ∧ ¬ L ≤ q := by
    by_cases h : L ≤ q
    · rw [(s_k0 h).1] at hk; exact absurd hk (by decide)
    · by_cases h2 : T q = 59
      · rw [(s_k3 h h2).1] at hk; exact absurd hk (by decide)
      · cases h3 : s_isL (T q)
        · cases h4 : s_isD (T q)
          · rw [s_k4 h h2 h3 h4] at hk; exact absurd hk (by decide)
          · rw [(s_k2 h h4).1] at hk
            by_cases h5 : s_to s_isD T L q - q ≤ 2
            · rw [if_pos h5] at hk; exact absurd hk (by decide)
            · rw [if_neg h5] at hk; exact absurd hk (by decide)
        · exact ⟨rfl, h⟩
  rw [(s_k1 hl.2 hl.1).2]
  obtain ⟨b1, b2, b3, b4⟩ := s_to_ok s_isL (a := q) (by decide) hT hs.2
  obtain ⟨n, hn⟩ : ∃ n, s_to s_isL T L q - q = n := ⟨_, rfl⟩
  have h7 := s_nl_7 j hj
  have hr : ∀ i, i < n → 1 ≤ T (q + i) ∧ T (q + i) < 256 := fun i hi => by
    have := of_decide_eq_true (b3 (q + i) (by omega) (by omega)); omega
  unfold s_wd
  rw [hn]
  have hnb : s_nb T q n j = true ↔ (n = s_nl j ∧ ∀ i, i < s_nl j → T (q + i) = s_nm j i) := ⟨fun h => of_decide_eq_true h, fun h => decide_eq_true h⟩
  rw [hnb]
  by_cases h8 : n ≤ 8
  · rw [if_pos h8, s_W_pk j hj, lN_inj, s_pak_inj hr (fun i hi => by have := s_nm_rg j hj i (by omega) hi; rw [Nat.zero_add]; omega)]
    · simp only [Nat.zero_add]
    · exact Nat.lt_of_lt_of_le (s_pak_lt hT2 n) (Nat.le_trans (Nat.pow_le_pow_right (by decide) h8) (by decide))
    · have h9 : s_pak (s_nm j) 0 (s_nl j) < 2 ^ 64 := s_nmk j hj
      exact h9
  · rw [if_neg h8]
    exact ⟨fun h => absurd h (s_W_0 j hj), fun h => absurd h.1 (by omega)⟩
def m_PL (μ : x_Me) (T : Nat → Nat) (L p s k : Nat) (φ : Nat × Nat) (G : Nat → Nat) (mx : Nat) (r : Option Value) (μ' : x_Me) (w' : Int64) : Prop := (s_bn T L (s_te T L p) (s_gv k) = 0 → r = some (.int 1) ∧ m_K μ' w' T L (s_qs T L (s_te T L p) (s_gv k)) ∧ m_F μ' (s_nf T L k (s_te T L p) (s_blm φ (s_fl k G) 3 (s_sp T L p)) (s_gv k)) (s_qs T L (s_te T L p) (s_gv k)) ∧ m_C μ' s (s_nf T L k (s_te T L p) (s_blm φ (s_fl k G) 3 (s_sp T L p)) (s_gv k)) (if (s_nf T L k (s_te T L p) (s_blm φ (s_fl k G) 3 (s_sp T L p)) (s_gv k)).1 = 0 then s_kp k (s_nv T L (s_te T L p)) G else G) (if (s_nf T L k (s_te T L p) (s_blm φ (s_fl k G) 3 (s_sp T L p)) (s_gv k)).1 = 0 then s_mxl k (s_nv T L (s_te T L p)) mx else mx)) ∧ (s_bn T L (s_te T L p) (s_gv k) ≠ 0 → r = some (.int 0) ∧ μ' 152 15 = nI (s_sp T L (s_qs T L (s_te T L p) (s_bn T L (s_te T L p) (s_gv k) - 1)))) ∧ ∀ a, a ≠ 152 → a ≠ 161 → a ≠ 162 → μ' a = μ a
theorem m_PL.r {μ : x_Me} {T : Nat → Nat} {L p s k : Nat} {φ : Nat × Nat} {G : Nat → Nat} {mx : Nat} {r : Option Value} {μ' : x_Me} {w' : Int64} (h : m_PL μ T L p s k φ G mx r μ' w') : r = some (.int (if decide (s_bn T L (s_te T L p) (s_gv k) = 0) then 1 else 0)) := by
  by_cases hb : s_bn T L (s_te T L p) (s_gv k) = 0
  · rw [decide_eq_true hb]; exact (h.1 hb).1
  · rw [decide_eq_false hb]; exact (h.2.1 hb).1
/-- a line of sort s by its word -/
def m_PX (μ : x_Me) (T : Nat → Nat) (L p s : Nat) (nb : Nat → Bool) (φ : Nat × Nat) (G : Nat → Nat) (mx : Nat) (r : Option Value) (μ' : x_Me) (w' : Int64) : Prop := (s_fp (fun i => nb (s_fA s + i)) (s_fA (s + 1) - s_fA s) = 0 → r = some (.int 0) ∧ μ' 152 15 = nI (s_sp T L p) ∧ ∀ a, a ≠ 152 → a ≠ 161 → a ≠ 162 → μ' a = μ a) ∧ ∀ t, s_fp (fun i => nb (s_fA s + i)) (s_fA (s + 1) - s_fA s) = t + 1 → m_PL μ T L p s (s_fA s + t) φ G mx r μ' w'
section WORDS
variable (sc : Nat × (Nat → Int32)) (d : Nat) (μ : x_Me) (w : Int64)
set_option maxHeartbeats 4000000 in
theorem tX12_fairLine (T : Nat → Nat) (L p : Nat) (φ : Nat × Nat) (G : Nat → Nat) (mx : Nat) (hK : m_K μ w T L p) (hF : m_F μ φ p) (hg : μ 152 21 = 1) (hC : m_C μ 0 φ G mx) (hW : g_W 0 G) (hmx : mx ≤ 100) (nb : Nat → Bool) (v : Int64) (hv : ∀ j, j < 16 → (v = s_W j ↔ nb j = true)) (hk1 : ∀ j, nb j = true → s_kd T L p = 1) : x_K sc (d + 4) mX12_fairLine [.ref 152, .long v, .int (nI (s_sp T L p))] μ w (fun r μ' w' => m_PX μ T L p 0 nb φ G mx r μ' w') := by
  refine x_K.of (by decide) (Nat.le_of_ble_eq_true rfl) ?_
  show x_T sc (d + 4) mX12_fairLine 0 [.ref 152, .long v, .retAddr 0, .int (nI (s_sp T L p))] [] μ w _
  refine xt_lload_n _ dX12_fairLine_0 rfl ?_
  refine xt_ldc2 _ dX12_fairLine_1 kkX12_157 ?_
  refine xt_lcmp dX12_fairLine_4 ?_
  refine xt_if_ne 13 dX12_fairLine_5 (by decide) (fun t5 => ?_) (fun f5 => ?_)
  · have n0 : nb 0 = false := by
      cases hq : nb 0
      · rfl
      · exact absurd (x_lcmp0.mpr ((hv 0 (by decide)).mpr hq)) t5
    refine xt_lload_n _ dX12_fairLine_13 rfl ?_
    refine xt_ldc2 _ dX12_fairLine_14 kkX12_162 ?_
    refine xt_lcmp dX12_fairLine_17 ?_
    refine xt_if_ne 27 dX12_fairLine_18 (by decide) (fun t18 => ?_) (fun f18 => ?_)
    · have n1 : nb 1 = false := by
        cases hq : nb 1
        · rfl
        · exact absurd (x_lcmp0.mpr ((hv 1 (by decide)).mpr hq)) t18
      refine xt_lload_n _ dX12_fairLine_27 rfl ?_
      refine xt_ldc2 _ dX12_fairLine_28 kkX12_168 ?_
      refine xt_lcmp dX12_fairLine_31 ?_
      refine xt_if_ne 40 dX12_fairLine_32 (by decide) (fun t32 => ?_) (fun f32 => ?_)
      · have n2 : nb 2 = false := by
          cases hq : nb 2
          · rfl
          · exact absurd (x_lcmp0.mpr ((hv 2 (by decide)).mpr hq)) t32
        refine xt_lload_n _ dX12_fairLine_40 rfl ?_
        refine xt_ldc2 _ dX12_fairLine_41 kkX12_173 ?_
        refine xt_lcmp dX12_fairLine_44 ?_
        refine xt_if_ne 54 dX12_fairLine_45 (by decide) (fun t45 => ?_) (fun f45 => ?_)
        · have n3 : nb 3 = false := by
            cases hq : nb 3
            · rfl
            · exact absurd (x_lcmp0.mpr ((hv 3 (by decide)).mpr hq)) t45
          refine xt_lload_n _ dX12_fairLine_54 rfl ?_
          refine xt_ldc2 _ dX12_fairLine_55 kkX12_178 ?_
          refine xt_lcmp dX12_fairLine_58 ?_
          refine xt_if_ne 67 dX12_fairLine_59 (by decide) (fun t59 => ?_) (fun f59 => ?_)
          · have n4 : nb 4 = false := by
              cases hq : nb 4
              · rfl
              · exact absurd (x_lcmp0.mpr ((hv 4 (by decide)).mpr hq)) t59
            refine xt_lload_n _ dX12_fairLine_67 rfl ?_
            refine xt_ldc2 _ dX12_fairLine_68 kkX12_183 ?_
            refine xt_lcmp dX12_fairLine_71 ?_
            refine xt_if_ne 81 dX12_fairLine_72 (by decide) (fun t72 => ?_) (fun f72 => ?_)
            · have n5 : nb 5 = false := by
                cases hq : nb 5
                · rfl
                · exact absurd (x_lcmp0.mpr ((hv 5 (by decide)).mpr hq)) t72
              refine xt_lload_n _ dX12_fairLine_81 rfl ?_
              refine xt_ldc2 _ dX12_fairLine_82 kkX12_188 ?_
              refine xt_lcmp dX12_fairLine_85 ?_
              refine xt_if_ne 97 dX12_fairLine_86 (by decide) (fun t86 => ?_) (fun f86 => ?_)
              · have n6 : nb 6 = false := by
                  cases hq : nb 6
                  · rfl
                  · exact absurd (x_lcmp0.mpr ((hv 6 (by decide)).mpr hq)) t86
                refine xt_aload_n _ dX12_fairLine_97 rfl ?_
                have hfp : s_fp (fun i => nb (s_fA 0 + i)) (s_fA (0 + 1) - s_fA 0) = 0 := s_fp_z (fun i hi => by
                  have hi7 : i = 0 ∨ i = 1 ∨ i = 2 ∨ i = 3 ∨ i = 4 ∨ i = 5 ∨ i = 6 := by have : i < 7 := hi; omega
                  rcases hi7 with rfl | rfl | rfl | rfl | rfl | rfl | rfl
                  · exact n0
                  · exact n1
                  · exact n2
                  · exact n3
                  · exact n4
                  · exact n5
                  · exact n6
                  )
                refine xt_callV _ dX12_fairLine_98 klX12_124 (tX12_fails sc _ μ w _ hK.2.2.1) sh152 rfl rfl (Nat.le_of_ble_eq_true rfl) (fun r5 μ5 w5 q5 => ?_)
                obtain ⟨rfl, rfl, q15, qj, qa⟩ := q5
                change x_T _ _ _ _ _ (.int 0 :: _) _ _ _
                refine xt_iret .boolean dX12_fairLine_101 rfl (by rfl) ?_
                exact ⟨fun _ => ⟨rfl, q15, fun a h1 _ _ => qa a h1⟩, fun t ht => by rw [hfp] at ht; exact absurd ht.symm (Nat.succ_ne_zero _)⟩
              · refine xt_aload_n _ dX12_fairLine_89 rfl ?_
                refine xt_iload_n _ dX12_fairLine_90 rfl ?_
                have hy : nb 6 = true := (hv 6 (by decide)).mp (x_lcmp0.mp f86)
                have hfp : s_fp (fun i => nb (s_fA 0 + i)) (s_fA (0 + 1) - s_fA 0) = 6 + 1 := s_fp_at (p := fun i => nb (s_fA 0 + i)) (m := 6) (fun i hi => by
                  have hi7 : i = 0 ∨ i = 1 ∨ i = 2 ∨ i = 3 ∨ i = 4 ∨ i = 5 := by omega
                  rcases hi7 with rfl | rfl | rfl | rfl | rfl | rfl
                  · show nb (0 + 0) = false; rw [Nat.zero_add]; exact n0
                  · show nb (0 + 1) = false; rw [Nat.zero_add]; exact n1
                  · show nb (0 + 2) = false; rw [Nat.zero_add]; exact n2
                  · show nb (0 + 3) = false; rw [Nat.zero_add]; exact n3
                  · show nb (0 + 4) = false; rw [Nat.zero_add]; exact n4
                  · show nb (0 + 5) = false; rw [Nat.zero_add]; exact n5
                  ) (by show nb (0 + 6) = true; rw [Nat.zero_add]; exact hy) (by decide)
                refine xt_callV _ dX12_fairLine_91 klX12_190 (tX12_line6 sc _ μ w T L p φ G mx hK (hk1 6 hy) hF hg hC hW) sh152 rfl rfl (Nat.le_of_ble_eq_true rfl) (fun r2 μ2 w2 q2 => ?_)
                have q2 : m_PL μ T L p 0 6 φ G mx r2 μ2 w2 := q2
                obtain rfl := q2.r
                change x_T _ _ _ _ _ (.int _ :: _) _ _ _
                refine xt_goto 101 dX12_fairLine_94 (by decide) ?_
                refine xt_iret .boolean dX12_fairLine_101 rfl (by cases decide (s_bn T L (s_te T L p) (s_gv 6) = 0) <;> rfl) ?_
                refine ⟨fun h => by rw [hfp] at h; exact absurd h (Nat.succ_ne_zero _), fun t ht => ?_⟩
                rw [hfp] at ht
                obtain rfl : 6 = t := by omega
                exact q2
            · refine xt_aload_n _ dX12_fairLine_75 rfl ?_
              refine xt_iload_n _ dX12_fairLine_76 rfl ?_
              have hy : nb 5 = true := (hv 5 (by decide)).mp (x_lcmp0.mp f72)
              have hfp : s_fp (fun i => nb (s_fA 0 + i)) (s_fA (0 + 1) - s_fA 0) = 5 + 1 := s_fp_at (p := fun i => nb (s_fA 0 + i)) (m := 5) (fun i hi => by
                have hi7 : i = 0 ∨ i = 1 ∨ i = 2 ∨ i = 3 ∨ i = 4 := by omega
                rcases hi7 with rfl | rfl | rfl | rfl | rfl
                · show nb (0 + 0) = false; rw [Nat.zero_add]; exact n0
                · show nb (0 + 1) = false; rw [Nat.zero_add]; exact n1
                · show nb (0 + 2) = false; rw [Nat.zero_add]; exact n2
                · show nb (0 + 3) = false; rw [Nat.zero_add]; exact n3
                · show nb (0 + 4) = false; rw [Nat.zero_add]; exact n4
                ) (by show nb (0 + 5) = true; rw [Nat.zero_add]; exact hy) (by decide)
              refine xt_callV _ dX12_fairLine_77 klX12_185 (tX12_line5 sc _ μ w T L p φ G mx hK (hk1 5 hy) hF hg hC hW) sh152 rfl rfl (Nat.le_of_ble_eq_true rfl) (fun r2 μ2 w2 q2 => ?_)
              have q2 : m_PL μ T L p 0 5 φ G mx r2 μ2 w2 := q2
              obtain rfl := q2.r
              change x_T _ _ _ _ _ (.int _ :: _) _ _ _
              refine xt_iret .boolean dX12_fairLine_80 rfl (by cases decide (s_bn T L (s_te T L p) (s_gv 5) = 0) <;> rfl) ?_
              refine ⟨fun h => by rw [hfp] at h; exact absurd h (Nat.succ_ne_zero _), fun t ht => ?_⟩
              rw [hfp] at ht
              obtain rfl : 5 = t := by omega
              exact q2
          · refine xt_aload_n _ dX12_fairLine_62 rfl ?_
            have hy : nb 4 = true := (hv 4 (by decide)).mp (x_lcmp0.mp f59)
            have hfp : s_fp (fun i => nb (s_fA 0 + i)) (s_fA (0 + 1) - s_fA 0) = 4 + 1 := s_fp_at (p := fun i => nb (s_fA 0 + i)) (m := 4) (fun i hi => by
              have hi7 : i = 0 ∨ i = 1 ∨ i = 2 ∨ i = 3 := by omega
              rcases hi7 with rfl | rfl | rfl | rfl
              · show nb (0 + 0) = false; rw [Nat.zero_add]; exact n0
              · show nb (0 + 1) = false; rw [Nat.zero_add]; exact n1
              · show nb (0 + 2) = false; rw [Nat.zero_add]; exact n2
              · show nb (0 + 3) = false; rw [Nat.zero_add]; exact n3
              ) (by show nb (0 + 4) = true; rw [Nat.zero_add]; exact hy) (by decide)
            refine xt_callV _ dX12_fairLine_63 klX12_180 (tX12_line4 sc _ μ w T L p φ G mx hK (hk1 4 hy) hF hg hC hW hmx) sh152 rfl rfl (Nat.le_of_ble_eq_true rfl) (fun r2 μ2 w2 q2 => ?_)
            have q2 : m_PL μ T L p 0 4 φ G mx r2 μ2 w2 := q2
            obtain rfl := q2.r
            change x_T _ _ _ _ _ (.int _ :: _) _ _ _
            refine xt_iret .boolean dX12_fairLine_66 rfl (by cases decide (s_bn T L (s_te T L p) (s_gv 4) = 0) <;> rfl) ?_
            refine ⟨fun h => by rw [hfp] at h; exact absurd h (Nat.succ_ne_zero _), fun t ht => ?_⟩
            rw [hfp] at ht
            obtain rfl : 4 = t := by omega
            exact q2
        · refine xt_aload_n _ dX12_fairLine_48 rfl ?_
          refine xt_iload_n _ dX12_fairLine_49 rfl ?_
          have hy : nb 3 = true := (hv 3 (by decide)).mp (x_lcmp0.mp f45)
          have hfp : s_fp (fun i => nb (s_fA 0 + i)) (s_fA (0 + 1) - s_fA 0) = 3 + 1 := s_fp_at (p := fun i => nb (s_fA 0 + i)) (m := 3) (fun i hi => by
            have hi7 : i = 0 ∨ i = 1 ∨ i = 2 := by omega
            rcases hi7 with rfl | rfl | rfl
            · show nb (0 + 0) = false; rw [Nat.zero_add]; exact n0
            · show nb (0 + 1) = false; rw [Nat.zero_add]; exact n1
            · show nb (0 + 2) = false; rw [Nat.zero_add]; exact n2
            ) (by show nb (0 + 3) = true; rw [Nat.zero_add]; exact hy) (by decide)
          refine xt_callV _ dX12_fairLine_50 klX12_175 (tX12_line3 sc _ μ w T L p φ G mx hK (hk1 3 hy) hF hg hC hW) sh152 rfl rfl (Nat.le_of_ble_eq_true rfl) (fun r2 μ2 w2 q2 => ?_)
          have q2 : m_PL μ T L p 0 3 φ G mx r2 μ2 w2 := q2
          obtain rfl := q2.r
          change x_T _ _ _ _ _ (.int _ :: _) _ _ _
          refine xt_iret .boolean dX12_fairLine_53 rfl (by cases decide (s_bn T L (s_te T L p) (s_gv 3) = 0) <;> rfl) ?_
          refine ⟨fun h => by rw [hfp] at h; exact absurd h (Nat.succ_ne_zero _), fun t ht => ?_⟩
          rw [hfp] at ht
          obtain rfl : 3 = t := by omega
          exact q2
      · refine xt_aload_n _ dX12_fairLine_35 rfl ?_
        have hy : nb 2 = true := (hv 2 (by decide)).mp (x_lcmp0.mp f32)
        have hfp : s_fp (fun i => nb (s_fA 0 + i)) (s_fA (0 + 1) - s_fA 0) = 2 + 1 := s_fp_at (p := fun i => nb (s_fA 0 + i)) (m := 2) (fun i hi => by
          have hi7 : i = 0 ∨ i = 1 := by omega
          rcases hi7 with rfl | rfl
          · show nb (0 + 0) = false; rw [Nat.zero_add]; exact n0
          · show nb (0 + 1) = false; rw [Nat.zero_add]; exact n1
          ) (by show nb (0 + 2) = true; rw [Nat.zero_add]; exact hy) (by decide)
        refine xt_callV _ dX12_fairLine_36 klX12_170 (tX12_line2 sc _ μ w T L p φ G mx hK (hk1 2 hy) hF hg hC hW) sh152 rfl rfl (Nat.le_of_ble_eq_true rfl) (fun r2 μ2 w2 q2 => ?_)
        have q2 : m_PL μ T L p 0 2 φ G mx r2 μ2 w2 := q2
        obtain rfl := q2.r
        change x_T _ _ _ _ _ (.int _ :: _) _ _ _
        refine xt_iret .boolean dX12_fairLine_39 rfl (by cases decide (s_bn T L (s_te T L p) (s_gv 2) = 0) <;> rfl) ?_
        refine ⟨fun h => by rw [hfp] at h; exact absurd h (Nat.succ_ne_zero _), fun t ht => ?_⟩
        rw [hfp] at ht
        obtain rfl : 2 = t := by omega
        exact q2
    · refine xt_aload_n _ dX12_fairLine_21 rfl ?_
      refine xt_iload_n _ dX12_fairLine_22 rfl ?_
      have hy : nb 1 = true := (hv 1 (by decide)).mp (x_lcmp0.mp f18)
      have hfp : s_fp (fun i => nb (s_fA 0 + i)) (s_fA (0 + 1) - s_fA 0) = 1 + 1 := s_fp_at (p := fun i => nb (s_fA 0 + i)) (m := 1) (fun i hi => by
        have hi7 : i = 0 := by omega
        rcases hi7 with rfl
        · show nb (0 + 0) = false; rw [Nat.zero_add]; exact n0
        ) (by show nb (0 + 1) = true; rw [Nat.zero_add]; exact hy) (by decide)
      refine xt_callV _ dX12_fairLine_23 klX12_164 (tX12_line1 sc _ μ w T L p φ G mx hK (hk1 1 hy) hF hg hC hW) sh152 rfl rfl (Nat.le_of_ble_eq_true rfl) (fun r2 μ2 w2 q2 => ?_)
      have q2 : m_PL μ T L p 0 1 φ G mx r2 μ2 w2 := q2
      obtain rfl := q2.r
      change x_T _ _ _ _ _ (.int _ :: _) _ _ _
      refine xt_iret .boolean dX12_fairLine_26 rfl (by cases decide (s_bn T L (s_te T L p) (s_gv 1) = 0) <;> rfl) ?_
      refine ⟨fun h => by rw [hfp] at h; exact absurd h (Nat.succ_ne_zero _), fun t ht => ?_⟩
      rw [hfp] at ht
      obtain rfl : 1 = t := by omega
      exact q2
  · refine xt_aload_n _ dX12_fairLine_8 rfl ?_
    have hy : nb 0 = true := (hv 0 (by decide)).mp (x_lcmp0.mp f5)
    have hfp : s_fp (fun i => nb (s_fA 0 + i)) (s_fA (0 + 1) - s_fA 0) = 0 + 1 := s_fp_at (p := fun i => nb (s_fA 0 + i)) (m := 0) (fun i hi => by
      have hi7 : False := by omega
      exact hi7.elim
      ) (by show nb (0 + 0) = true; rw [Nat.zero_add]; exact hy) (by decide)
    refine xt_callV _ dX12_fairLine_9 klX12_159 (tX12_line0 sc _ μ w T L p φ G mx hK (hk1 0 hy) hF hg hC hW) sh152 rfl rfl (Nat.le_of_ble_eq_true rfl) (fun r2 μ2 w2 q2 => ?_)
    have q2 : m_PL μ T L p 0 0 φ G mx r2 μ2 w2 := q2
    obtain rfl := q2.r
    change x_T _ _ _ _ _ (.int _ :: _) _ _ _
    refine xt_iret .boolean dX12_fairLine_12 rfl (by cases decide (s_bn T L (s_te T L p) (s_gv 0) = 0) <;> rfl) ?_
    refine ⟨fun h => by rw [hfp] at h; exact absurd h (Nat.succ_ne_zero _), fun t ht => ?_⟩
    rw [hfp] at ht
    obtain rfl : 0 = t := by omega
    exact q2
set_option maxHeartbeats 1000000 in
theorem tX12_deedBy (nb : Nat → Bool) (v : Int64) (hv : ∀ j, j < 16 → (v = s_W j ↔ nb j = true)) : x_K sc d mX12_deedBy [.ref 152, .long v] μ w (x_p (some (.int (if (s_fp (fun i => nb (s_fA 1 + i)) (s_fA (1 + 1) - s_fA 1)) = 0 then -1 else nI ((s_fp (fun i => nb (s_fA 1 + i)) (s_fA (1 + 1) - s_fA 1)) - 1)))) μ w) := by
  refine x_K.of (by decide) (Nat.le_of_ble_eq_true rfl) ?_
  show x_T sc d mX12_deedBy 0 [.ref 152, .long v, .retAddr 0] [] μ w _
  refine xt_lload_n _ dX12_deedBy_0 rfl ?_
  refine xt_ldc2 _ dX12_deedBy_1 kkX12_193 ?_
  refine xt_lcmp dX12_deedBy_4 ?_
  refine xt_if_ne 12 dX12_deedBy_5 (by decide) (fun t5 => ?_) (fun f5 => ?_)
  · have n7 : nb 7 = false := by
      cases hq : nb 7
      · rfl
      · exact absurd (x_lcmp0.mpr ((hv 7 (by decide)).mpr hq)) t5
    refine xt_lload_n _ dX12_deedBy_12 rfl ?_
    refine xt_ldc2 _ dX12_deedBy_13 kkX12_195 ?_
    refine xt_lcmp dX12_deedBy_16 ?_
    refine xt_if_ne 24 dX12_deedBy_17 (by decide) (fun t17 => ?_) (fun f17 => ?_)
    · have n8 : nb 8 = false := by
        cases hq : nb 8
        · rfl
        · exact absurd (x_lcmp0.mpr ((hv 8 (by decide)).mpr hq)) t17
      refine xt_lload_n _ dX12_deedBy_24 rfl ?_
      refine xt_ldc2 _ dX12_deedBy_25 kkX12_197 ?_
      refine xt_lcmp dX12_deedBy_28 ?_
      refine xt_if_ne 36 dX12_deedBy_29 (by decide) (fun t29 => ?_) (fun f29 => ?_)
      · have n9 : nb 9 = false := by
          cases hq : nb 9
          · rfl
          · exact absurd (x_lcmp0.mpr ((hv 9 (by decide)).mpr hq)) t29
        refine xt_lload_n _ dX12_deedBy_36 rfl ?_
        refine xt_ldc2 _ dX12_deedBy_37 kkX12_199 ?_
        refine xt_lcmp dX12_deedBy_40 ?_
        refine xt_if_ne 48 dX12_deedBy_41 (by decide) (fun t41 => ?_) (fun f41 => ?_)
        · have n10 : nb 10 = false := by
            cases hq : nb 10
            · rfl
            · exact absurd (x_lcmp0.mpr ((hv 10 (by decide)).mpr hq)) t41
          refine xt_lload_n _ dX12_deedBy_48 rfl ?_
          refine xt_ldc2 _ dX12_deedBy_49 kkX12_201 ?_
          refine xt_lcmp dX12_deedBy_52 ?_
          refine xt_if_ne 60 dX12_deedBy_53 (by decide) (fun t53 => ?_) (fun f53 => ?_)
          · have n11 : nb 11 = false := by
              cases hq : nb 11
              · rfl
              · exact absurd (x_lcmp0.mpr ((hv 11 (by decide)).mpr hq)) t53
            refine xt_lload_n _ dX12_deedBy_60 rfl ?_
            refine xt_ldc2 _ dX12_deedBy_61 kkX12_203 ?_
            refine xt_lcmp dX12_deedBy_64 ?_
            refine xt_if_ne 72 dX12_deedBy_65 (by decide) (fun t65 => ?_) (fun f65 => ?_)
            · have n12 : nb 12 = false := by
                cases hq : nb 12
                · rfl
                · exact absurd (x_lcmp0.mpr ((hv 12 (by decide)).mpr hq)) t65
              refine xt_iconst (-1) dX12_deedBy_72 (by decide) ?_
              have hfp : (s_fp (fun i => nb (s_fA 1 + i)) (s_fA (1 + 1) - s_fA 1)) = 0 := s_fp_z (fun i hi => by
                have hi7 : i = 0 ∨ i = 1 ∨ i = 2 ∨ i = 3 ∨ i = 4 ∨ i = 5 := by have : i < 6 := hi; omega
                rcases hi7 with rfl | rfl | rfl | rfl | rfl | rfl
                · exact n7
                · exact n8
                · exact n9
                · exact n10
                · exact n11
                · exact n12
                )
              exact xt_iret .int dX12_deedBy_73 rfl (by first | rfl | assumption) ⟨by rw [hfp]; rfl, rfl, rfl⟩
            · refine xt_iconst (5) dX12_deedBy_68 (by decide) ?_
              refine xt_goto 73 dX12_deedBy_69 (by decide) ?_
              have hy : nb 12 = true := (hv 12 (by decide)).mp (x_lcmp0.mp f65)
              have hfp : (s_fp (fun i => nb (s_fA 1 + i)) (s_fA (1 + 1) - s_fA 1)) = 5 + 1 := s_fp_at (p := fun i => nb (s_fA 1 + i)) (m := 5) (fun i hi => by
                have hi7 : i = 0 ∨ i = 1 ∨ i = 2 ∨ i = 3 ∨ i = 4 := by omega
                rcases hi7 with rfl | rfl | rfl | rfl | rfl
                · exact n7
                · exact n8
                · exact n9
                · exact n10
                · exact n11
                ) hy (by decide)
              exact xt_iret .int dX12_deedBy_73 rfl (by first | rfl | assumption) ⟨by rw [hfp]; rfl, rfl, rfl⟩
          · refine xt_iconst (4) dX12_deedBy_56 (by decide) ?_
            refine xt_goto 73 dX12_deedBy_57 (by decide) ?_
            have hy : nb 11 = true := (hv 11 (by decide)).mp (x_lcmp0.mp f53)
            have hfp : (s_fp (fun i => nb (s_fA 1 + i)) (s_fA (1 + 1) - s_fA 1)) = 4 + 1 := s_fp_at (p := fun i => nb (s_fA 1 + i)) (m := 4) (fun i hi => by
              have hi7 : i = 0 ∨ i = 1 ∨ i = 2 ∨ i = 3 := by omega
              rcases hi7 with rfl | rfl | rfl | rfl
              · exact n7
              · exact n8
              · exact n9
              · exact n10
              ) hy (by decide)
            exact xt_iret .int dX12_deedBy_73 rfl (by first | rfl | assumption) ⟨by rw [hfp]; rfl, rfl, rfl⟩
        · refine xt_iconst (3) dX12_deedBy_44 (by decide) ?_
          refine xt_goto 73 dX12_deedBy_45 (by decide) ?_
          have hy : nb 10 = true := (hv 10 (by decide)).mp (x_lcmp0.mp f41)
          have hfp : (s_fp (fun i => nb (s_fA 1 + i)) (s_fA (1 + 1) - s_fA 1)) = 3 + 1 := s_fp_at (p := fun i => nb (s_fA 1 + i)) (m := 3) (fun i hi => by
            have hi7 : i = 0 ∨ i = 1 ∨ i = 2 := by omega
            rcases hi7 with rfl | rfl | rfl
            · exact n7
            · exact n8
            · exact n9
            ) hy (by decide)
          exact xt_iret .int dX12_deedBy_73 rfl (by first | rfl | assumption) ⟨by rw [hfp]; rfl, rfl, rfl⟩
      · refine xt_iconst (2) dX12_deedBy_32 (by decide) ?_
        refine xt_goto 73 dX12_deedBy_33 (by decide) ?_
        have hy : nb 9 = true := (hv 9 (by decide)).mp (x_lcmp0.mp f29)
        have hfp : (s_fp (fun i => nb (s_fA 1 + i)) (s_fA (1 + 1) - s_fA 1)) = 2 + 1 := s_fp_at (p := fun i => nb (s_fA 1 + i)) (m := 2) (fun i hi => by
          have hi7 : i = 0 ∨ i = 1 := by omega
          rcases hi7 with rfl | rfl
          · exact n7
          · exact n8
          ) hy (by decide)
        exact xt_iret .int dX12_deedBy_73 rfl (by first | rfl | assumption) ⟨by rw [hfp]; rfl, rfl, rfl⟩
    · refine xt_iconst (1) dX12_deedBy_20 (by decide) ?_
      refine xt_goto 73 dX12_deedBy_21 (by decide) ?_
      have hy : nb 8 = true := (hv 8 (by decide)).mp (x_lcmp0.mp f17)
      have hfp : (s_fp (fun i => nb (s_fA 1 + i)) (s_fA (1 + 1) - s_fA 1)) = 1 + 1 := s_fp_at (p := fun i => nb (s_fA 1 + i)) (m := 1) (fun i hi => by
        have hi7 : i = 0 := by omega
        rcases hi7 with rfl
        · exact n7
        ) hy (by decide)
      exact xt_iret .int dX12_deedBy_73 rfl (by first | rfl | assumption) ⟨by rw [hfp]; rfl, rfl, rfl⟩
  · refine xt_iconst (0) dX12_deedBy_8 (by decide) ?_
    refine xt_goto 73 dX12_deedBy_9 (by decide) ?_
    have hy : nb 7 = true := (hv 7 (by decide)).mp (x_lcmp0.mp f5)
    have hfp : (s_fp (fun i => nb (s_fA 1 + i)) (s_fA (1 + 1) - s_fA 1)) = 0 + 1 := s_fp_at (p := fun i => nb (s_fA 1 + i)) (m := 0) (fun i hi => by
      have hi7 : False := by omega
      exact hi7.elim
      ) hy (by decide)
    exact xt_iret .int dX12_deedBy_73 rfl (by first | rfl | assumption) ⟨by rw [hfp]; rfl, rfl, rfl⟩
end WORDS
