/-! texts: the class reads its lines -/
abbrev s_rs : Type := Bool × Nat × (Nat × Nat) × (Nat → Nat) × Nat
abbrev s_lk (T : Nat → Nat) (L s p : Nat) : Nat := s_fA s + (s_ln T s (s_sp T L p) (s_te T L p - s_sp T L p) - 1)
abbrev s_fi1 (T : Nat → Nat) (L s p : Nat) (φ : Nat × Nat) (G : Nat → Nat) : Nat × Nat := s_nf T L (s_lk T L s p) (s_te T L p) (s_blm φ (s_fl (s_lk T L s p) G) 3 (s_sp T L p)) (s_gv (s_lk T L s p))
def s_goo (T : Nat → Nat) (L s : Nat) : Nat → Nat → Nat × Nat → (Nat → Nat) → Nat → s_rs
  | 0, _, φ, G, mx => (false, 0, φ, G, mx)
  | n + 1, p, φ, G, mx =>
    if s_kd T L p = 0 then (true, s_sp T L p, φ, G, mx)
    else if s_kd T L p = 1 ∧ s_ln T s (s_sp T L p) (s_te T L p - s_sp T L p) ≠ 0 then
      (if s_okl T L (s_te T L p) (s_gv (s_lk T L s p)) = true then
        s_goo T L s n (s_te T L (s_qs T L (s_te T L p) (s_gv (s_lk T L s p)))) (s_fi1 T L s p φ G) (if (s_fi1 T L s p φ G).1 = 0 then s_kp (s_lk T L s p) (s_nv T L (s_te T L p)) G else G) (if (s_fi1 T L s p φ G).1 = 0 then s_mxl (s_lk T L s p) (s_nv T L (s_te T L p)) mx else mx)
      else (false, s_fpl T L (s_te T L p) (s_gv (s_lk T L s p)), φ, G, mx))
    else (false, s_sp T L p, φ, G, mx)
theorem s_lk_of {T : Nat → Nat} {L s p : Nat} (hs : s < 3) (h : s_ln T s (s_sp T L p) (s_te T L p - s_sp T L p) ≠ 0) : s_of s (s_lk T L s p) := by
  have h1 : s_ln T s (s_sp T L p) (s_te T L p - s_sp T L p) ≤ s_fA (s + 1) - s_fA s := s_fp_le
  unfold s_of
  have hs3 : s = 0 ∨ s = 1 ∨ s = 2 := by omega
  rcases hs3 with rfl | rfl | rfl
  · have e0 : s_fA 0 = 0 := rfl
    have e1 : s_fA (0 + 1) = 7 := rfl
    rw [e0, e1] at h1
    left
    refine ⟨rfl, ?_⟩
    show s_fA 0 + (_ - 1) < 7
    omega
  · have e0 : s_fA 1 = 7 := rfl
    have e1 : s_fA (1 + 1) = 13 := rfl
    rw [e0, e1] at h1
    right; left
    refine ⟨rfl, ?_, ?_⟩
    · show 7 ≤ s_fA 1 + (_ - 1); omega
    · show s_fA 1 + (_ - 1) < 13; omega
  · have e0 : s_fA 2 = 13 := rfl
    have e1 : s_fA (2 + 1) = 16 := rfl
    rw [e0, e1] at h1
    right; right
    refine ⟨rfl, ?_, ?_⟩
    · show 13 ≤ s_fA 2 + (_ - 1); omega
    · show s_fA 2 + (_ - 1) < 16; omega
theorem s_adv {T : Nat → Nat} {L p : Nat} (hT : ∀ i, L ≤ i → T i = 0) (hp : p ≤ L) (hk : s_kd T L p = 1) (g : Nat) : p + 1 ≤ s_te T L (s_qs T L (s_te T L p) g) := by
  have h1 := s_sp_le hT hp
  have h2 : s_sp T L p + 1 ≤ s_te T L p := s_eq_gt (by show s_kd T L p ≠ 0; omega) (by show s_kd T L p ≠ 4; omega)
  have h3 := s_te_le hT hp
  have h4 := s_qs_le hT h3.2.2 g
  have h5 := s_te_le hT h4.2
  omega
def s_g0 (s : Nat) : Nat → Nat := fun i => if s = 0 ∧ i < 2 then 5 else if s = 1 ∧ i ≠ 0 then 1 else 0
def s_rr (T : Nat → Nat) (L s : Nat) : s_rs := s_goo T L s 601 0 (0, 0) (s_g0 s) 0
/-- the FAULT of a text, and its place -/
def s_flt (T : Nat → Nat) (L s : Nat) : Nat × Nat := if (s_rr T L s).1 = false then (1, (s_rr T L s).2.1) else if (s_rr T L s).2.2.1.1 ≠ 0 then (s_rr T L s).2.2.1 else if s = 0 ∧ (s_rr T L s).2.2.2.1 4 < (s_rr T L s).2.2.2.2 then (4, L) else (0, 0)
theorem s_g0_W (s : Nat) : g_W s (s_g0 s) := by
  unfold g_W
  by_cases h0 : s = 0
  · rw [if_pos h0, h0]
    refine ⟨⟨by decide, by decide, by decide, by decide, by decide, by decide, by decide⟩, fun m hm => absurd hm (Nat.not_lt_zero m), fun m hm => absurd hm (Nat.not_lt_zero m), fun i hi => ?_, fun m hm => absurd hm (Nat.not_lt_zero m), fun m hm => absurd hm (Nat.not_lt_zero m)⟩
    show (if 0 = 0 ∧ 41 + i < 2 then 5 else if 0 = 1 ∧ 41 + i ≠ 0 then 1 else 0) ≤ 9
    rw [if_neg (by omega), if_neg (by omega)]; omega
  · rw [if_neg h0]
    by_cases h1 : s = 1
    · rw [if_pos h1]
      have e : s_g0 s 0 = 0 := by unfold s_g0; rw [if_neg (by omega), if_neg (by omega)]
      refine ⟨by rw [e]; omega, fun k hk => ?_⟩
      rw [e] at hk; omega
    · have e : ∀ i, s_g0 s i = 0 := fun i => by unfold s_g0; rw [if_neg (by omega), if_neg (by omega)]
      rw [if_neg h1]
      refine ⟨by rw [e]; omega, by rw [e]; omega, fun k hk => ?_⟩
      rw [e] at hk; omega
theorem s_sarB : ∀ B, B < 256 → ∀ g, g ≤ 8 → (nI B >>> (nI g &&& 31) = 0 ↔ ¬ 2 ^ g ≤ B) := by decide +kernel
theorem s_sar0 (x : Int32) : (0 : Int32) >>> x = 0 := by
  apply Int32.toBitVec_inj.mp
  simp
section LINES
variable (sc : Nat × (Nat → Int32)) (d : Nat) (μ : x_Me) (w : Int64)
set_option maxHeartbeats 4000000 in
theorem tX6_readLines (T : Nat → Nat) (L s : Nat) (hs : s < 3) (G0 : Nat → Nat) (hR : c_R μ T L s 0 (0, 0) G0 0) : x_K sc (d + 6) mX6_readLines [.ref 115, .int (nI s)] μ w (fun r μ' _ => r = some (.int (if (s_goo T L s 601 0 (0, 0) G0 0).1 then 1 else 0)) ∧ ((s_goo T L s 601 0 (0, 0) G0 0).1 = true → ∃ p', c_R μ' T L s p' (s_goo T L s 601 0 (0, 0) G0 0).2.2.1 (s_goo T L s 601 0 (0, 0) G0 0).2.2.2.1 (s_goo T L s 601 0 (0, 0) G0 0).2.2.2.2) ∧ ((s_goo T L s 601 0 (0, 0) G0 0).1 = false → μ' 115 9 = nI (s_goo T L s 601 0 (0, 0) G0 0).2.1) ∧ c_fr μ μ') := by
  refine x_K.of (by decide) (Nat.le_of_ble_eq_true rfl) ?_
  show x_T sc (d + 6) mX6_readLines 0 [.ref 115, .int (nI s), .retAddr 0, .retAddr 0] [] μ w _
  refine xt_iconst (0) dX6_readLines_0 (by decide) ?_
  refine xt_istore_n dX6_readLines_1 (by decide) rfl ?_
  change x_T _ _ _ _ [_, _, _, _] _ _ _ _
  have L2 : ∀ (n2 m : Nat) (p : Nat) (φ : Nat × Nat) (G : Nat → Nat) (mx : Nat) (μ2 : x_Me) (w2 : Int64) (v3 : Value) (hR2 : c_R μ2 T L s p φ G mx) (hφ : φ.1 ≤ 4) (hpl : L + 1 ≤ p + n2) (hf2 : c_fr μ μ2), m + n2 = 601 → x_T sc (d + 6) mX6_readLines 2 [.ref 115, .int (nI s), .int (nI m), v3] [] μ2 w2 (fun r μ' _ => r = some (.int (if (s_goo T L s n2 p φ G mx).1 then 1 else 0)) ∧ ((s_goo T L s n2 p φ G mx).1 = true → ∃ p', c_R μ' T L s p' (s_goo T L s n2 p φ G mx).2.2.1 (s_goo T L s n2 p φ G mx).2.2.2.1 (s_goo T L s n2 p φ G mx).2.2.2.2) ∧ ((s_goo T L s n2 p φ G mx).1 = false → μ' 115 9 = nI (s_goo T L s n2 p φ G mx).2.1) ∧ c_fr μ μ') := by
    intro n2
    induction n2 with
    | zero =>
      intro m p φ G mx μ2 w2 v3 hR2 hφ hpl hf2 hmn
      obtain rfl : 601 = m := by omega
      refine xt_iload_n _ dX6_readLines_2 rfl ?_
      refine xt_sipush (600) dX6_readLines_3 (by decide) ?_
      refine xt_icmp_gt 60 dX6_readLines_6 (by decide) (fun _ => ?_) (fun q => absurd (by decide) q)
      exact absurd hR2.2.2.2.2.2.2 (by omega)
    | succ n2 ih2 =>
      intro m p φ G mx μ2 w2 v3 hR2 hφ hpl hf2 hmn
      have hlt : m < 601 := by omega
      refine xt_iload_n _ dX6_readLines_2 rfl ?_
      refine xt_sipush (600) dX6_readLines_3 (by decide) ?_
      refine xt_icmp_gt 60 dX6_readLines_6 (by decide) (fun q => absurd q (fun z => absurd ((nI_ltI (a := 600) (b := m) (by decide) (by omega)).mp z) (by omega))) (fun _ => ?_)
      refine xt_aload_n _ dX6_readLines_9 rfl ?_
      refine xt_callV _ dX6_readLines_10 klX6_87 (tX6_step sc _ μ2 w2 T L hR2.1 p hR2.2.2.2.2.2.2 hR2.2.1) sh115 rfl rfl (Nat.le_of_ble_eq_true rfl) (fun r3 μ3 w3 q3 => ?_)
      obtain ⟨rfl, q3⟩ := q3
      change x_T _ _ _ _ _ _ _ _ _
      have hT := hR2.1.2.2.2
      have htl := s_te_le hT hR2.2.2.2.2.2.2
      refine xt_aload_n _ dX6_readLines_13 rfl ?_
      refine xt_geti dX6_readLines_14 kfX6_90 (by first | exact sh115 | exact sh116 | exact sh122 | exact sh124 | exact sh128 | rfl | assumption) rfl ?_
      rw [q3.2.1]
      refine xt_if_ne 22 dX6_readLines_17 (by decide) (fun t17 => ?_) (fun f17 => ?_)
      · have hk0 : ¬ s_kd T L p = 0 := fun z => t17 ((nI_eq (a := s_kd T L p) (b := 0) (by have : s_kd T L p ≤ 4 := s_kq4 T L _; omega) (by decide)).mpr z)
        refine xt_aload_n _ dX6_readLines_22 rfl ?_
        refine xt_geti dX6_readLines_23 kfX6_90 (by first | exact sh115 | exact sh116 | exact sh122 | exact sh124 | exact sh128 | rfl | assumption) rfl ?_
        refine xt_iconst (1) dX6_readLines_26 (by decide) ?_
        rw [q3.2.1]
        refine xt_icmp_ne 38 dX6_readLines_27 (by decide) (fun t27 => ?_) (fun f27 => ?_)
        · have hk1 : ¬ s_kd T L p = 1 := fun z => t27 ((nI_eq (a := s_kd T L p) (b := 1) (by have : s_kd T L p ≤ 4 := s_kq4 T L _; omega) (by decide)).mpr z)
          refine xt_iconst (-1) dX6_readLines_38 (by decide) ?_
          refine xt_istore_n dX6_readLines_39 (by decide) rfl ?_
          change x_T _ _ _ _ [_, _, _, _] _ _ _ _
          refine xt_iload_n _ dX6_readLines_40 rfl ?_
          refine xt_if_lt 52 dX6_readLines_41 (by decide) (fun _ => ?_) (fun q => absurd (by decide) q)
          have hgo : (s_goo T L s (n2 + 1) p φ G mx) = (false, s_sp T L p, φ, G, mx) := by rw [s_goo, if_neg hk0, if_neg (fun z => hk1 z.1)]
          refine xt_iconst (0) dX6_readLines_52 (by decide) ?_
          exact xt_iret .boolean dX6_readLines_53 rfl (by first | rfl | assumption) ⟨by rw [hgo]; rfl, fun h => by rw [hgo] at h; exact absurd h (show ¬ false = true by decide), fun _ => by rw [hgo]; exact q3.1, c_fr.tr hf2 q3.fr⟩
        · have hk1 : s_kd T L p = 1 := (nI_eq (a := s_kd T L p) (b := 1) (by have : s_kd T L p ≤ 4 := s_kq4 T L _; omega) (by decide)).mp f27
          have hR3 := hR2.step q3 (by rw [hk1]; decide)
          refine xt_aload_n _ dX6_readLines_30 rfl ?_
          refine xt_iload_n _ dX6_readLines_31 rfl ?_
          refine xt_cV _ dX6_readLines_32 klX6_93 (tX6_lineNamed sc _ μ3 w3 T L hR3.1 (s_sp T L p) (s_te T L p) hR3.2.1 q3.1 htl.1 htl.2.2 s hs) sh115 rfl rfl (Nat.le_of_ble_eq_true rfl) ?_
          refine xt_goto 39 dX6_readLines_35 (by decide) ?_
          refine xt_istore_n dX6_readLines_39 (by decide) rfl ?_
          change x_T _ _ _ _ [_, _, _, _] _ _ _ _
          refine xt_iload_n _ dX6_readLines_40 rfl ?_
          refine xt_if_lt 52 dX6_readLines_41 (by decide) (fun t41 => ?_) (fun f41 => ?_)
          · have hln : s_ln T s (s_sp T L p) (s_te T L p - s_sp T L p) = 0 := Classical.byContradiction (fun z => by rw [if_neg z] at t41; exact absurd t41 (nI_pos (by have := s_of16 (s_lk_of hs z); show s_lk T L s p < 2 ^ 31; omega)))
            have hgo : (s_goo T L s (n2 + 1) p φ G mx) = (false, s_sp T L p, φ, G, mx) := by rw [s_goo, if_neg hk0, if_neg (fun z => z.2 hln)]
            refine xt_iconst (0) dX6_readLines_52 (by decide) ?_
            exact xt_iret .boolean dX6_readLines_53 rfl (by first | rfl | assumption) ⟨by rw [hgo]; rfl, fun h => by rw [hgo] at h; exact absurd h (show ¬ false = true by decide), fun _ => by rw [hgo]; exact q3.1, c_fr.tr hf2 q3.fr⟩
          · have hln : s_ln T s (s_sp T L p) (s_te T L p - s_sp T L p) ≠ 0 := fun z => f41 (by rw [if_pos z]; decide)
            rw [if_neg hln]
            refine xt_aload_n _ dX6_readLines_44 rfl ?_
            refine xt_iload_n _ dX6_readLines_45 rfl ?_
            refine xt_callV _ dX6_readLines_46 klX6_97 (tX6_readLine sc _ μ3 w3 T L s (s_te T L p) (s_lk T L s p) φ G mx (s_lk_of hs hln) hR3 hφ (s_sp T L p) q3.1) sh115 rfl rfl (Nat.le_of_ble_eq_true rfl) (fun r4 μ4 w4 q4 => ?_)
            obtain ⟨q4a, q4b, hf4⟩ := q4
            cases hok : s_okl T L (s_te T L p) (s_gv (s_lk T L s p))
            · obtain ⟨rfl, h94⟩ := q4b hok
              change x_T _ _ _ _ _ (.int 0 :: _) _ _ _
              have hgo : (s_goo T L s (n2 + 1) p φ G mx) = (false, s_fpl T L (s_te T L p) (s_gv (s_lk T L s p)), φ, G, mx) := by rw [s_goo, if_neg hk0, if_pos ⟨hk1, hln⟩, if_neg (by rw [hok]; decide)]
              refine xt_if_ne 54 dX6_readLines_49 (by decide) (fun q => absurd (by decide) q) (fun _ => ?_)
              refine xt_iconst (0) dX6_readLines_52 (by decide) ?_
              exact xt_iret .boolean dX6_readLines_53 rfl (by first | rfl | assumption) ⟨by rw [hgo]; rfl, fun h => by rw [hgo] at h; exact absurd h (show ¬ false = true by decide), fun _ => by rw [hgo]; exact h94, c_fr.tr hf2 (c_fr.tr q3.fr hf4)⟩
            · obtain ⟨rfl, hR4⟩ := q4a hok
              change x_T _ _ _ _ _ (.int 1 :: _) _ _ _
              refine xt_if_ne 54 dX6_readLines_49 (by decide) (fun _ => ?_) (fun q => absurd q (by decide))
              refine xt_inc _ (1) dX6_readLines_54 rfl (by decide) (by decide) rfl ?_
              change x_T _ _ _ _ [_, _, _, _] _ _ _ _
              refine xt_goto 2 dX6_readLines_57 (by decide) ?_
              have hgo : (s_goo T L s (n2 + 1) p φ G mx) = s_goo T L s n2 (s_te T L (s_qs T L (s_te T L p) (s_gv (s_lk T L s p)))) (s_fi1 T L s p φ G) (if (s_fi1 T L s p φ G).1 = 0 then s_kp (s_lk T L s p) (s_nv T L (s_te T L p)) G else G) (if (s_fi1 T L s p φ G).1 = 0 then s_mxl (s_lk T L s p) (s_nv T L (s_te T L p)) mx else mx) := by rw [s_goo, if_neg hk0, if_pos ⟨hk1, hln⟩, if_pos hok]
              rw [hgo]
              have hadv := s_adv hT hR2.2.2.2.2.2.2 hk1 (s_gv (s_lk T L s p))
              refine x_T.ls (by rw [nI_succ m]) (ih2 (m + 1) _ _ _ _ μ4 w4 (.int (nI (s_lk T L s p))) hR4 (s_nf4 (s_blm4 hφ (by decide)) _) (by omega) (c_fr.tr hf2 (c_fr.tr q3.fr hf4)) (by omega))
      · have hk0 : s_kd T L p = 0 := (nI_eq (a := s_kd T L p) (b := 0) (by have : s_kd T L p ≤ 4 := s_kq4 T L _; omega) (by decide)).mp f17
        have hR3 := hR2.step q3 (by rw [show s_kd T L p = 0 from hk0]; decide)
        have hgo : (s_goo T L s (n2 + 1) p φ G mx) = (true, s_sp T L p, φ, G, mx) := by rw [s_goo, if_pos hk0]
        refine xt_iconst (1) dX6_readLines_20 (by decide) ?_
        exact xt_iret .boolean dX6_readLines_21 rfl (by first | rfl | assumption) ⟨by rw [hgo]; rfl, fun _ => ⟨_, by rw [hgo]; exact hR3⟩, fun h => by rw [hgo] at h; exact absurd h (show ¬ true = false by decide), c_fr.tr hf2 q3.fr⟩
  exact L2 601 0 0 (0, 0) G0 0 μ w (.retAddr 0) hR (by decide) (by have := hR.1.2.1; omega) (c_fr.rf μ) (by omega)
set_option maxHeartbeats 1000000 in
theorem tJ_fill {a n : Nat} (hs : x_shape[a]? = some (.inr (.inl (0, n)))) (hn : n < 2 ^ 31) (x : Int32) : x_K sc d mJ7_fill_53178 [.ref a, .int x] μ w (fun r μ' _ => r = none ∧ (∀ i, i < n → μ' a i = x) ∧ ∀ b, b ≠ a → μ' b = μ b) := by
  refine x_K.of (by decide) (Nat.le_of_ble_eq_true rfl) ?_
  show x_T sc d mJ7_fill_53178 0 [.ref a, .int x, .retAddr 0, .retAddr 0] [] μ w _
  refine xt_iconst (0) dJ7_fill_53178_0 (by decide) ?_
  refine xt_istore_n dJ7_fill_53178_1 (by decide) rfl ?_
  change x_T _ _ _ _ [_, _, _, _] _ _ _ _
  refine xt_aload_n _ dJ7_fill_53178_2 rfl ?_
  refine xt_alen (nI n) dJ7_fill_53178_3 hs (by decide) rfl ?_
  refine xt_istore_n dJ7_fill_53178_4 (by decide) rfl ?_
  change x_T _ _ _ _ [_, _, _, _] _ _ _ _
  have L5 : ∀ (n5 m : Nat) (μ2 : x_Me) (hx : ∀ i, i < m → μ2 a i = x) (hf : ∀ b, b ≠ a → μ2 b = μ b), m + n5 = n → x_T sc d mJ7_fill_53178 5 [.ref a, .int x, .int (nI m), .int (nI n)] [] μ2 w (fun r μ' _ => r = none ∧ (∀ i, i < n → μ' a i = x) ∧ ∀ b, b ≠ a → μ' b = μ b) := by
    intro n5
    induction n5 with
    | zero =>
      intro m μ2 hx hf hmn
      obtain rfl : n = m := by omega
      refine xt_iload_n _ dJ7_fill_53178_5 rfl ?_
      refine xt_iload_n _ dJ7_fill_53178_6 rfl ?_
      refine xt_icmp_ge 20 dJ7_fill_53178_7 (by decide) (fun _ => ?_) (fun q => absurd (Int32.le_refl _) q)
      exact xt_ret dJ7_fill_53178_20 rfl ⟨rfl, hx, hf⟩
    | succ n5 ih5 =>
      intro m μ2 hx hf hmn
      have hlt : m < n := by omega
      refine xt_iload_n _ dJ7_fill_53178_5 rfl ?_
      refine xt_iload_n _ dJ7_fill_53178_6 rfl ?_
      refine xt_icmp_ge 20 dJ7_fill_53178_7 (by decide) (fun q => absurd q (nI_ge hlt (by omega))) (fun _ => ?_)
      refine xt_aload_n _ dJ7_fill_53178_10 rfl ?_
      refine xt_iload_n _ dJ7_fill_53178_11 rfl ?_
      refine xt_iload_n _ dJ7_fill_53178_12 rfl ?_
      refine xt_ast dJ7_fill_53178_13 (by assumption) (by exact vp_in_nI (by omega) (by omega)) ?_
      refine xt_inc _ (1) dJ7_fill_53178_14 rfl (by decide) (by decide) rfl ?_
      change x_T _ _ _ _ [_, _, _, _] _ _ _ _
      refine xt_goto 5 dJ7_fill_53178_17 (by decide) ?_
      refine x_T.ls (by rw [nI_succ m]) (ih5 (m + 1) _ (fun i hi => ?_) (fun b hb => by rw [x_u_ne hb]; exact hf b hb) (by omega))
      rw [x_u_eq, nI_clamp (by omega)]
      by_cases he : i = m
      · rw [he, pk_us]
      · rw [pk_un he]; exact hx i (by omega)
  exact L5 n 0 μ (fun i h => absurd h (by omega)) (fun _ _ => rfl) (by omega)
set_option maxHeartbeats 1000000 in
theorem tX2_clear  : x_K sc (d + 1) mX2_clear [.ref 116] μ w (fun r μ' _ => r = none ∧ (∀ j, j < 7 → μ' 116 j = nI (s_g0 0 j)) ∧ (∀ i, i < 48 → μ' 119 i = 0) ∧ ∀ a, a ≠ 116 → a ≠ 119 → μ' a = μ a) := by
  refine x_K.of (by decide) (Nat.le_of_ble_eq_true rfl) ?_
  show x_T sc (d + 1) mX2_clear 0 [.ref 116] [] μ w _
  refine xt_aload_n _ dX2_clear_0 rfl ?_
  refine xt_iconst (5) dX2_clear_1 (by decide) ?_
  refine xt_puti dX2_clear_2 kpX2_27 (by first | exact sh115 | exact sh116 | exact sh122 | exact sh124 | exact sh128 | rfl | assumption) rfl (by first | rfl | assumption) (by first | rfl | assumption) ?_
  refine xt_aload_n _ dX2_clear_5 rfl ?_
  refine xt_iconst (5) dX2_clear_6 (by decide) ?_
  refine xt_puti dX2_clear_7 kpX2_31 (by first | exact sh115 | exact sh116 | exact sh122 | exact sh124 | exact sh128 | rfl | assumption) rfl (by first | rfl | assumption) (by first | rfl | assumption) ?_
  refine xt_aload_n _ dX2_clear_10 rfl ?_
  refine xt_iconst (0) dX2_clear_11 (by decide) ?_
  refine xt_puti dX2_clear_12 kpX2_34 (by first | exact sh115 | exact sh116 | exact sh122 | exact sh124 | exact sh128 | rfl | assumption) rfl (by first | rfl | assumption) (by first | rfl | assumption) ?_
  refine xt_aload_n _ dX2_clear_15 rfl ?_
  refine xt_iconst (0) dX2_clear_16 (by decide) ?_
  refine xt_puti dX2_clear_17 kpX2_37 (by first | exact sh115 | exact sh116 | exact sh122 | exact sh124 | exact sh128 | rfl | assumption) rfl (by first | rfl | assumption) (by first | rfl | assumption) ?_
  refine xt_aload_n _ dX2_clear_20 rfl ?_
  refine xt_iconst (0) dX2_clear_21 (by decide) ?_
  refine xt_puti dX2_clear_22 kpX2_40 (by first | exact sh115 | exact sh116 | exact sh122 | exact sh124 | exact sh128 | rfl | assumption) rfl (by first | rfl | assumption) (by first | rfl | assumption) ?_
  refine xt_aload_n _ dX2_clear_25 rfl ?_
  refine xt_iconst (0) dX2_clear_26 (by decide) ?_
  refine xt_puti dX2_clear_27 kpX2_43 (by first | exact sh115 | exact sh116 | exact sh122 | exact sh124 | exact sh128 | rfl | assumption) rfl (by first | rfl | assumption) (by first | rfl | assumption) ?_
  refine xt_aload_n _ dX2_clear_30 rfl ?_
  refine xt_iconst (0) dX2_clear_31 (by decide) ?_
  refine xt_puti dX2_clear_32 kpX2_46 (by first | exact sh115 | exact sh116 | exact sh122 | exact sh124 | exact sh128 | rfl | assumption) rfl (by first | rfl | assumption) (by first | rfl | assumption) ?_
  refine xt_aload_n _ dX2_clear_35 rfl ?_
  refine xt_getr _ dX2_clear_36 kfX2_18 (by first | exact sh115 | exact sh116 | exact sh122 | exact sh124 | exact sh128 | rfl | assumption) rfl ?_
  refine xt_iconst (0) dX2_clear_39 (by decide) ?_
  refine xt_callS _ dX2_clear_40 klX2_49 (tJ_fill sc _ _ w (a := 119) (n := 48) rfl (by decide) 0) rfl rfl (Nat.le_of_ble_eq_true rfl) (fun r2 μ2 w2 q2 => ?_)
  obtain ⟨rfl, hx, hf⟩ := q2
  change x_T _ _ _ _ _ _ _ _ _
  refine xt_ret dX2_clear_43 rfl ?_
  refine ⟨rfl, fun j hj => ?_, hx, fun a h1 h2 => ?_⟩
  · rw [hf 116 (by decide)]
    have h7 : j = 0 ∨ j = 1 ∨ j = 2 ∨ j = 3 ∨ j = 4 ∨ j = 5 ∨ j = 6 := by omega
    rcases h7 with rfl | rfl | rfl | rfl | rfl | rfl | rfl <;> rfl
  · rw [hf a h2]; repeat rw [x_u_ne h1]
set_option maxHeartbeats 1000000 in
theorem tX4_clear  : x_K sc d mX4_clear [.ref 124] μ w (fun r μ' _ => r = none ∧ μ' 124 0 = 0 ∧ μ' 124 1 = 0 ∧ ∀ a, a ≠ 124 → μ' a = μ a) := by
  refine x_K.of (by decide) (Nat.le_of_ble_eq_true rfl) ?_
  show x_T sc d mX4_clear 0 [.ref 124] [] μ w _
  refine xt_aload_n _ dX4_clear_0 rfl ?_
  refine xt_iconst (0) dX4_clear_1 (by decide) ?_
  refine xt_puti dX4_clear_2 kpX4_18 (by first | exact sh115 | exact sh116 | exact sh122 | exact sh124 | exact sh128 | rfl | assumption) rfl (by first | rfl | assumption) (by first | rfl | assumption) ?_
  refine xt_aload_n _ dX4_clear_5 rfl ?_
  refine xt_iconst (0) dX4_clear_6 (by decide) ?_
  refine xt_puti dX4_clear_7 kpX4_22 (by first | exact sh115 | exact sh116 | exact sh122 | exact sh124 | exact sh128 | rfl | assumption) rfl (by first | rfl | assumption) (by first | rfl | assumption) ?_
  exact xt_ret dX4_clear_10 rfl ⟨rfl, rfl, rfl, fun a h => by rw [x_u_ne h, x_u_ne h]⟩
set_option maxHeartbeats 1000000 in
theorem tX6_blameN (h : ¬ μ 115 3 = 0) (x y : Int32) : x_K sc d mX6_blame [.ref 115, .int x, .int y] μ w (x_p none μ w) := by
  refine x_K.of (by decide) (Nat.le_of_ble_eq_true rfl) ?_
  show x_T sc d mX6_blame 0 [.ref 115, .int x, .int y] [] μ w _
  refine xt_aload_n _ dX6_blame_0 rfl ?_
  refine xt_geti dX6_blame_1 kfX6_61 (by first | exact sh115 | exact sh116 | exact sh122 | exact sh124 | exact sh128 | rfl | assumption) rfl ?_
  refine xt_if_ne 17 dX6_blame_4 (by decide) (fun _ => ?_) (fun q => absurd q h)
  exact xt_ret dX6_blame_17 rfl ⟨rfl, rfl, rfl⟩
theorem s_goo4 (T : Nat → Nat) (L s : Nat) : ∀ (n p : Nat) (φ : Nat × Nat) (G : Nat → Nat) (mx : Nat), φ.1 ≤ 4 → (s_goo T L s n p φ G mx).2.2.1.1 ≤ 4
  | 0, _, _, _, _, h => h
  | n + 1, p, φ, G, mx, h => by
    rw [s_goo]
    split
    · exact h
    · split
      · split
        · exact s_goo4 T L s n _ _ _ _ (s_nf4 (s_blm4 h (by decide)) _)
        · exact h
      · exact h
theorem s_rr4 (T : Nat → Nat) (L s : Nat) : (s_rr T L s).2.2.1.1 ≤ 4 := s_goo4 T L s 601 0 (0, 0) _ 0 (by decide)
set_option maxHeartbeats 4000000 in
theorem tX6_read (T : Nat → Nat) (L s : Nat) (hs : s < 3) (hB : c_B μ T L) : x_K sc (d + 7) mX6_read [.ref 115, .int (nI s)] μ w (fun r μ' _ => r = none ∧ μ' 115 3 = nI (s_flt T L s).1 ∧ μ' 115 4 = (if (s_flt T L s).1 = 0 then -1 else nI (s_flt T L s).2) ∧ ((s_flt T L s).1 = 0 → c_G μ' s (s_rr T L s).2.2.2.1 (s_rr T L s).2.2.2.2 ∧ g_W s (s_rr T L s).2.2.2.1) ∧ c_fr μ μ') := by
  refine x_K.of (by decide) (Nat.le_of_ble_eq_true rfl) ?_
  show x_T sc (d + 7) mX6_read 0 [.ref 115, .int (nI s)] [] μ w _
  refine xt_aload_n _ dX6_read_0 rfl ?_
  refine xt_getr _ dX6_read_1 kfX6_12 (by first | exact sh115 | exact sh116 | exact sh122 | exact sh124 | exact sh128 | rfl | assumption) rfl ?_
  refine xt_callV _ dX6_read_4 klX6_54 (tX2_clear sc _ μ w) sh116 rfl rfl (Nat.le_of_ble_eq_true rfl) (fun r1 μ1 w1 q1 => ?_)
  obtain ⟨rfl, k7, k48, kf⟩ := q1
  change x_T _ _ _ _ _ _ _ _ _
  refine xt_aload_n _ dX6_read_7 rfl ?_
  refine xt_getr _ dX6_read_8 kfX6_21 (by first | exact sh115 | exact sh116 | exact sh122 | exact sh124 | exact sh128 | rfl | assumption) rfl ?_
  refine xt_iconst (0) dX6_read_11 (by decide) ?_
  refine xt_puti dX6_read_12 kpX6_57 (by first | exact sh115 | exact sh116 | exact sh122 | exact sh124 | exact sh128 | rfl | assumption) rfl (by first | rfl | assumption) (by first | rfl | assumption) ?_
  refine xt_aload_n _ dX6_read_15 rfl ?_
  refine xt_getr _ dX6_read_16 kfX6_28 (by first | exact sh115 | exact sh116 | exact sh122 | exact sh124 | exact sh128 | rfl | assumption) rfl ?_
  refine xt_callV _ dX6_read_19 klX6_60 (tX4_clear sc _ _ w1) sh124 rfl rfl (Nat.le_of_ble_eq_true rfl) (fun r2 μ2 w2 q2 => ?_)
  obtain ⟨rfl, l0, l1, lf⟩ := q2
  change x_T _ _ _ _ _ _ _ _ _
  refine xt_aload_n _ dX6_read_22 rfl ?_
  refine xt_iconst (0) dX6_read_23 (by decide) ?_
  refine xt_puti dX6_read_24 kpX6_61 (by first | exact sh115 | exact sh116 | exact sh122 | exact sh124 | exact sh128 | rfl | assumption) rfl (by first | rfl | assumption) (by first | rfl | assumption) ?_
  refine xt_aload_n _ dX6_read_27 rfl ?_
  refine xt_iconst (-1) dX6_read_28 (by decide) ?_
  refine xt_puti dX6_read_29 kpX6_64 (by first | exact sh115 | exact sh116 | exact sh122 | exact sh124 | exact sh128 | rfl | assumption) rfl (by first | rfl | assumption) (by first | rfl | assumption) ?_
  refine xt_aload_n _ dX6_read_32 rfl ?_
  refine xt_iconst (0) dX6_read_33 (by decide) ?_
  refine xt_puti dX6_read_34 kpX6_67 (by first | exact sh115 | exact sh116 | exact sh122 | exact sh124 | exact sh128 | rfl | assumption) rfl (by first | rfl | assumption) (by first | rfl | assumption) ?_
  refine xt_aload_n _ dX6_read_37 rfl ?_
  refine xt_iconst (0) dX6_read_38 (by decide) ?_
  refine xt_puti dX6_read_39 kpX6_70 (by first | exact sh115 | exact sh116 | exact sh122 | exact sh124 | exact sh128 | rfl | assumption) rfl (by first | rfl | assumption) (by first | rfl | assumption) ?_
  refine xt_aload_n _ dX6_read_42 rfl ?_
  refine xt_iload_n _ dX6_read_43 rfl ?_
  generalize hμ5 : (x_u _ 115 _ : x_Me) = μ5
  have e115 : ∀ j, μ5 115 j = (if j = 12 then 0 else if j = 8 then 0 else if j = 4 then -1 else if j = 3 then 0 else μ 115 j) := fun j => by
    rw [← hμ5]
    by_cases h12 : j = 12
    · rw [if_pos h12, h12, x_u_eq, pk_us]
    · rw [if_neg h12, x_u_eq, pk_un h12]
      by_cases h8 : j = 8
      · rw [if_pos h8, h8, x_u_eq, pk_us]
      · rw [if_neg h8, x_u_eq, pk_un h8]
        by_cases h4 : j = 4
        · rw [if_pos h4, h4, x_u_eq, pk_us]
        · rw [if_neg h4, x_u_eq, pk_un h4]
          by_cases h3 : j = 3
          · rw [if_pos h3, h3, x_u_eq, pk_us]
          · rw [if_neg h3, x_u_eq, pk_un h3, lf 115 (by decide), x_u_ne (by decide), kf 115 (by decide) (by decide)]
  have ea : ∀ a, a ≠ 115 → μ5 a = μ2 a := fun a h => by rw [← hμ5, x_u_ne h, x_u_ne h, x_u_ne h, x_u_ne h]
  have hR5 : c_R μ5 T L s 0 (0, 0) (s_g0 s) 0 := by
    refine ⟨hB.cg (by rw [e115]; rfl) (by rw [ea 127 (by decide), lf 127 (by decide), x_u_ne (by decide), kf 127 (by decide) (by decide)]), by rw [e115]; rfl, by rw [e115]; rfl, by rw [e115]; rfl, ⟨fun h0 => ⟨?_, 0, by decide, by rw [e115]; rfl, fun g _ => ⟨fun z => absurd z (by have := Nat.pow_pos (n := g) (show 0 < 2 by decide); omega), fun z => absurd z (Nat.not_lt_zero g)⟩⟩, fun _ => by rw [e115]; rfl, fun h1 => ?_, fun h2 => ?_⟩, s_g0_W s, Nat.zero_le _⟩
    · rw [h0]
      refine ⟨fun j hj => ?_, fun m hm => absurd hm (Nat.not_lt_zero m), fun m hm => absurd hm (Nat.not_lt_zero m), fun i hi => ?_, fun m hm => absurd hm (Nat.not_lt_zero m), fun m hm => absurd hm (Nat.not_lt_zero m)⟩
      · rw [ea 116 (by decide), lf 116 (by decide), x_u_ne (by decide)]; exact k7 j hj
      · show μ5 119 i = _
        rw [ea 119 (by decide), lf 119 (by decide), x_u_ne (by decide), k48 i hi]
        show (0 : Int32) = nI (if 0 = 0 ∧ 41 + i < 2 then 5 else if 0 = 1 ∧ 41 + i ≠ 0 then 1 else 0)
        rw [if_neg (by omega), if_neg (by omega)]; rfl
    · have e : s_g0 s 0 = 0 := by unfold s_g0; rw [if_neg (by omega), if_neg (by omega)]
      refine ⟨by rw [ea 122 (by decide), lf 122 (by decide), x_u_eq, pk_us, e]; rfl, fun i hi => ?_⟩
      rw [e] at hi; omega
    · have e : ∀ i, s_g0 s i = 0 := fun i => by unfold s_g0; rw [if_neg (by omega), if_neg (by omega)]
      refine ⟨by rw [ea 124 (by decide), l0, e]; rfl, by rw [ea 124 (by decide), l1, e]; rfl, fun k hk => ?_⟩
      rw [e] at hk; omega
  have hfr5 : c_fr μ μ5 := fun a ha => by
    by_cases h : a = 115
    · omega
    · rw [ea a h, lf a (by omega), x_u_ne (by omega), kf a (by omega) (by omega)]
  refine xt_callV _ dX6_read_44 klX6_73 (tX6_readLines sc _ μ5 w2 T L s hs (s_g0 s) hR5) sh115 rfl rfl (Nat.le_of_ble_eq_true rfl) (fun r6 μ6 w6 q6 => ?_)
  change _ ∧ ((s_rr T L s).1 = true → ∃ p', c_R μ6 T L s p' (s_rr T L s).2.2.1 (s_rr T L s).2.2.2.1 (s_rr T L s).2.2.2.2) ∧ ((s_rr T L s).1 = false → μ6 115 9 = nI (s_rr T L s).2.1) ∧ c_fr μ5 μ6 at q6
  obtain ⟨q6r, q6a, q6b, hf6⟩ := q6
  cases hr1 : (s_rr T L s).1
  · rw [show (s_goo T L s 601 0 (0, 0) (s_g0 s) 0).1 = false from hr1] at q6r
    obtain rfl : r6 = some (.int 0) := q6r
    change x_T _ _ _ _ _ (.int 0 :: _) _ _ _
    have hft : (s_flt T L s) = (1, (s_rr T L s).2.1) := by rw [s_flt, if_pos hr1]
    have h9 := q6b hr1
    refine xt_if_ne 63 dX6_read_47 (by decide) (fun q => absurd (by decide) q) (fun _ => ?_)
    refine xt_aload_n _ dX6_read_50 rfl ?_
    refine xt_iconst (1) dX6_read_51 (by decide) ?_
    refine xt_puti dX6_read_52 kpX6_61 (by first | exact sh115 | exact sh116 | exact sh122 | exact sh124 | exact sh128 | rfl | assumption) rfl (by first | rfl | assumption) (by first | rfl | assumption) ?_
    refine xt_aload_n _ dX6_read_55 rfl ?_
    refine xt_aload_n _ dX6_read_56 rfl ?_
    refine xt_geti dX6_read_57 kfX6_77 (by first | exact sh115 | exact sh116 | exact sh122 | exact sh124 | exact sh128 | rfl | assumption) rfl ?_
    refine xt_puti dX6_read_60 kpX6_64 (by first | exact sh115 | exact sh116 | exact sh122 | exact sh124 | exact sh128 | rfl | assumption) rfl (by first | rfl | assumption) (by first | rfl | assumption) ?_
    refine xt_aload_n _ dX6_read_63 rfl ?_
    refine xt_geti dX6_read_64 kfX6_70 (by first | exact sh115 | exact sh116 | exact sh122 | exact sh124 | exact sh128 | rfl | assumption) rfl ?_
    refine xt_aload_n _ dX6_read_67 rfl ?_
    refine xt_getr _ dX6_read_68 kfX6_12 (by first | exact sh115 | exact sh116 | exact sh122 | exact sh124 | exact sh128 | rfl | assumption) rfl ?_
    refine xt_geti dX6_read_71 kfX6_80 (by first | exact sh115 | exact sh116 | exact sh122 | exact sh124 | exact sh128 | rfl | assumption) rfl ?_
    refine xt_ishr dX6_read_74 ?_
    refine xt_if_eq 87 dX6_read_75 (by decide) (fun t75 => ?_) (fun f75 => ?_)
    · exact xt_ret dX6_read_87 rfl ⟨rfl, by rw [hft, x_u_eq, pk_un (by decide), x_u_eq, pk_us]; rfl, by rw [hft]; show _ = nI (s_rr T L s).2.1; rw [x_u_eq, pk_us, x_u_eq, pk_un (by decide)]; exact h9, fun z => by rw [hft] at z; exact absurd z (show ¬ (1 : Nat) = 0 by decide), fun a ha => by rw [x_u_ne (by omega), x_u_ne (by omega)]; exact (c_fr.tr hfr5 hf6) a ha⟩
    · refine xt_aload_n _ dX6_read_78 rfl ?_
      refine xt_iconst (4) dX6_read_79 (by decide) ?_
      refine xt_aload_n _ dX6_read_80 rfl ?_
      refine xt_geti dX6_read_81 kfX6_53 (by first | exact sh115 | exact sh116 | exact sh122 | exact sh124 | exact sh128 | rfl | assumption) rfl ?_
      refine xt_cV0 _ dX6_read_84 klX6_83 (tX6_blameN sc _ _ w6 (by rw [x_u_eq, pk_un (by decide), x_u_eq, pk_us]; decide) _ _) sh115 rfl rfl (Nat.le_of_ble_eq_true rfl) ?_
      exact xt_ret dX6_read_87 rfl ⟨rfl, by rw [hft, x_u_eq, pk_un (by decide), x_u_eq, pk_us]; rfl, by rw [hft]; show _ = nI (s_rr T L s).2.1; rw [x_u_eq, pk_us, x_u_eq, pk_un (by decide)]; exact h9, fun z => by rw [hft] at z; exact absurd z (show ¬ (1 : Nat) = 0 by decide), fun a ha => by rw [x_u_ne (by omega), x_u_ne (by omega)]; exact (c_fr.tr hfr5 hf6) a ha⟩
  · rw [show (s_goo T L s 601 0 (0, 0) (s_g0 s) 0).1 = true from hr1] at q6r
    obtain rfl : r6 = some (.int 1) := q6r
    change x_T _ _ _ _ _ (.int 1 :: _) _ _ _
    obtain ⟨p9, hR6⟩ := q6a hr1
    have hft : (s_flt T L s) = (if (s_rr T L s).2.2.1.1 ≠ 0 then (s_rr T L s).2.2.1 else if s = 0 ∧ (s_rr T L s).2.2.2.1 4 < (s_rr T L s).2.2.2.2 then (4, L) else (0, 0)) := by rw [s_flt, if_neg (by rw [hr1]; decide)]
    have hB6 : ∃ B, B < 256 ∧ μ6 115 12 = nI B ∧ (s ≠ 0 → B = 0) ∧ (s = 0 → μ6 116 4 = nI ((s_rr T L s).2.2.2.1 4) ∧ (s_rr T L s).2.2.2.1 4 ≤ 8 ∧ ∀ g, g ≤ 8 → (2 ^ g ≤ B ↔ g < (s_rr T L s).2.2.2.2)) := by
      by_cases h0 : s = 0
      · obtain ⟨hC, B, b1, b2, b3⟩ := hR6.2.2.2.2.1.1 h0
        refine ⟨B, b1, b2, fun h => absurd h0 h, fun _ => ⟨hC.1 4 (by decide), ?_, b3⟩⟩
        have hw := hR6.2.2.2.2.2.1
        rw [g_W, if_pos h0] at hw
        exact hw.1.2.2.2.2.1
      · exact ⟨0, by decide, hR6.2.2.2.2.1.2.1 h0, fun _ => rfl, fun h => absurd h h0⟩
    obtain ⟨B, b1, b2, b3, b4⟩ := hB6
    refine xt_if_ne 63 dX6_read_47 (by decide) (fun _ => ?_) (fun q => absurd q (by decide))
    refine xt_aload_n _ dX6_read_63 rfl ?_
    refine xt_geti dX6_read_64 kfX6_70 (by first | exact sh115 | exact sh116 | exact sh122 | exact sh124 | exact sh128 | rfl | assumption) rfl ?_
    refine xt_aload_n _ dX6_read_67 rfl ?_
    refine xt_getr _ dX6_read_68 kfX6_12 (by first | exact sh115 | exact sh116 | exact sh122 | exact sh124 | exact sh128 | rfl | assumption) rfl ?_
    refine xt_geti dX6_read_71 kfX6_80 (by first | exact sh115 | exact sh116 | exact sh122 | exact sh124 | exact sh128 | rfl | assumption) rfl ?_
    refine xt_ishr dX6_read_74 ?_
    rw [b2]
    refine xt_if_eq 87 dX6_read_75 (by decide) (fun t75 => ?_) (fun f75 => ?_)
    · have hfe : s_flt T L s = (s_rr T L s).2.2.1 ∨ s_flt T L s = (0, 0) ∧ (s_rr T L s).2.2.1.1 = 0 := by
        rw [hft]
        by_cases hz : (s_rr T L s).2.2.1.1 ≠ 0
        · rw [if_pos hz]; exact .inl rfl
        · rw [if_neg hz, if_neg (fun z => ?_)]
          · exact .inr ⟨rfl, Classical.byContradiction hz⟩
          · obtain ⟨g1, g2, g3⟩ := b4 z.1
            rw [g1] at t75
            exact absurd ((g3 _ g2).mpr z.2) ((s_sarB B b1 _ g2).mp t75)
      have hfe : (s_flt T L s).1 = (s_rr T L s).2.2.1.1 ∧ (if (s_flt T L s).1 = 0 then (-1 : Int32) else nI (s_flt T L s).2) = (if (s_rr T L s).2.2.1.1 = 0 then -1 else nI (s_rr T L s).2.2.1.2) := by
        rcases hfe with h | ⟨h, h2⟩
        · rw [h]; exact ⟨rfl, rfl⟩
        · rw [h, h2]; exact ⟨rfl, rfl⟩
      exact xt_ret dX6_read_87 rfl ⟨rfl, by rw [hfe.1]; exact hR6.2.2.1, by rw [hfe.2]; exact hR6.2.2.2.1, fun _ => ⟨hR6.2.2.2.2.1, hR6.2.2.2.2.2.1⟩, c_fr.tr hfr5 hf6⟩
    · refine xt_aload_n _ dX6_read_78 rfl ?_
      refine xt_iconst (4) dX6_read_79 (by decide) ?_
      refine xt_aload_n _ dX6_read_80 rfl ?_
      refine xt_geti dX6_read_81 kfX6_53 (by first | exact sh115 | exact sh116 | exact sh122 | exact sh124 | exact sh128 | rfl | assumption) rfl ?_
      rw [show μ6 115 6 = nI L from hR6.1.1]
      refine xt_callV _ dX6_read_84 klX6_83 (tX6_blame sc _ μ6 w6 T L s p9 (s_rr T L s).2.2.1 (s_rr T L s).2.2.2.1 (s_rr T L s).2.2.2.2 hR6 4 L (s_rr4 T L s) (by decide)) sh115 rfl rfl (Nat.le_of_ble_eq_true rfl) (fun r7 μ7 w7 q7 => ?_)
      obtain ⟨rfl, hR7, hj7, hf7⟩ := q7
      change x_T _ _ _ _ _ _ _ _ _
      have hs0 : s = 0 := Classical.byContradiction (fun z => f75 (by rw [b3 z]; exact s_sar0 _))
      obtain ⟨g1, g2, g3⟩ := b4 hs0
      have hmx : (s_rr T L s).2.2.2.1 4 < (s_rr T L s).2.2.2.2 := (g3 _ g2).mp (Classical.byContradiction (fun z => f75 (by rw [g1]; exact (s_sarB B b1 _ g2).mpr z)))
      have hfe : s_flt T L s = s_blm (s_rr T L s).2.2.1 true 4 L := by
        rw [hft, s_blm]
        by_cases hz : (s_rr T L s).2.2.1.1 ≠ 0
        · rw [if_pos hz, if_neg (fun z => hz z.1)]
        · rw [if_neg hz, if_pos ⟨hs0, hmx⟩, if_pos ⟨Classical.byContradiction hz, rfl⟩]
      exact xt_ret dX6_read_87 rfl ⟨rfl, by rw [hfe]; exact hR7.2.2.1, by rw [hfe]; exact hR7.2.2.2.1, fun _ => ⟨hR7.2.2.2.2.1, hR7.2.2.2.2.2.1⟩, c_fr.tr hfr5 (c_fr.tr hf6 (fun a ha => hf7 a (by omega)))⟩
end LINES
