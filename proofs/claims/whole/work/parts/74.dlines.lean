/-! texts: the reference reads DAYS and LOGS -/
theorem cl3 : (3 : Int32).toNatClampNeg = 3 := rfl
theorem s_wm_at {f : Nat → Int32} {b st k : Nat} {r : Nat → Int32} (hst : 0 < st) {j : Nat} : ∀ {n : Nat}, j < n → s_wm f b st k r n (b + st * j + k) = r j
  | 0, h => absurd h (by omega)
  | n + 1, h => by
    rw [s_wm]
    by_cases he : j = n
    · rw [he, pk_us]
    · have h1 : st * j < st * n := Nat.mul_lt_mul_of_pos_left (by omega) hst
      rw [pk_un (by omega)]; exact s_wm_at hst (n := n) (by omega)
theorem s_wm_no {f : Nat → Int32} {b st k : Nat} {r : Nat → Int32} {x : Nat} : ∀ {n : Nat}, (∀ i, i < n → x ≠ b + st * i + k) → s_wm f b st k r n x = f x
  | 0, _ => rfl
  | n + 1, h => by rw [s_wm, pk_un (h n (by omega))]; exact s_wm_no (n := n) (fun i hi => h i (by omega))
theorem s_le40 {x : Nat} (h : x < 40) : s_le 40 (nI x + 1) = nI (x + 1) := by
  rw [← nI_succ]
  show (if nI (x + 1) ≤ nI 40 then nI (x + 1) else nI 40) = nI (x + 1)
  rw [if_pos ((nI_leI (by omega) (by decide)).mpr (by omega))]
theorem s_le40b {x : Nat} (h : x = 40) : s_le 40 (nI x + 1) = 40 := by
  rw [h]; decide
section DLINES
variable (sc : Nat × (Nat → Int32)) (d : Nat) (μ : x_Me) (w : Int64)
set_option maxHeartbeats 8000000 in
theorem tX12_line7 (T : Nat → Nat) (L p : Nat) (φ : Nat × Nat) (G : Nat → Nat) (mx : Nat) (hK : m_K μ w T L p) (hk1 : s_kd T L p = 1) (hF : m_F μ φ p) (hg : μ 152 21 = 1) (hC : m_C μ 1 φ G mx) (hW : g_W 1 G) (v : Int64) : x_T sc (d + 3) mX12_dayLine 18 [.ref 152, .long v, .retAddr 0, .int (nI (s_sp T L p)), .int 0, .retAddr 0, .retAddr 0, .retAddr 0] [] μ w (fun r μ' w' => (s_bn T L (s_te T L p) 0 = 0 → r = some (.int 1) ∧ m_K μ' w' T L (s_qs T L (s_te T L p) 0) ∧ m_F μ' (s_nf T L 7 (s_te T L p) (s_blm φ (s_fl 7 G) 3 (s_sp T L p)) 0) (s_qs T L (s_te T L p) 0) ∧ m_C μ' 1 (s_nf T L 7 (s_te T L p) (s_blm φ (s_fl 7 G) 3 (s_sp T L p)) 0) (if (s_nf T L 7 (s_te T L p) (s_blm φ (s_fl 7 G) 3 (s_sp T L p)) 0).1 = 0 then s_kp 7 (s_nv T L (s_te T L p)) G else G) (if (s_nf T L 7 (s_te T L p) (s_blm φ (s_fl 7 G) 3 (s_sp T L p)) 0).1 = 0 then s_mxl 7 (s_nv T L (s_te T L p)) mx else mx)) ∧ (s_bn T L (s_te T L p) 0 ≠ 0 → r = some (.int 0) ∧ μ' 152 15 = nI (s_sp T L (s_qs T L (s_te T L p) (s_bn T L (s_te T L p) 0 - 1)))) ∧ ∀ a, a ≠ 152 → a ≠ 161 → a ≠ 162 → μ' a = μ a) := by
  have hL := hK.1.2.1
  have htl := s_te_le hK.1.2.2.2 hK.2.1
  have hsl := s_sp_le hK.1.2.2.2 hK.2.1
  have hlt : s_sp T L p < s_te T L p := s_sp_lt (by omega) (by omega)
  refine xt_aload_n _ dX12_dayLine_18 rfl ?_
  refine xt_iconst (0) dX12_dayLine_19 (by decide) ?_
  refine xt_bipush (40) dX12_dayLine_20 (by decide) ?_
  refine xt_iload_n _ dX12_dayLine_22 rfl ?_
  obtain ⟨x, hx1, hx⟩ := hC.2.2.1 rfl
  have hx1 : x ≤ 40 := hx1
  refine xt_callV _ dX12_dayLine_23 klX12_142 (tX12_full sc _ μ w φ p 0 40 (s_sp T L p) x hF hsl.1 (by omega) (by decide) hx hx1 (by decide)) sh152 rfl rfl (Nat.le_of_ble_eq_true rfl) (fun r1 μ1 w1 q1 => ?_)
  obtain ⟨rfl, rfl, hF1, hj1, hf1⟩ := q1
  change x_T _ _ _ _ _ _ _ _ _
  have hxG : φ.1 = 0 → x = G 0 := fun z => (nI_eq (by omega) (by have := (show gd_W G from hW).1; omega)).mp (hx.symm.trans ((hC.1 z).1 0 (by decide)))
  have hφ1 : s_blm φ (decide (x = 40)) 3 (s_sp T L p) = (s_blm φ (s_fl 7 G) 3 (s_sp T L p)) := by
    by_cases hz : φ.1 = 0
    · rw [hxG hz, show s_fl 7 G = decide (G 0 = 40) from (decide_eq_decide.mpr (by have := (show gd_W G from hW).1; omega) : decide (40 ≤ G 0) = decide (G 0 = 40))]
    · rw [s_blm_n hz, s_blm_n hz]
  rw [hφ1] at hF1
  refine xt_aload_n _ dX12_dayLine_26 rfl ?_
  refine xt_callV _ dX12_dayLine_27 klX12_136 (tX12_token sc _ μ1 w1 T L (hK.1.cg (hj1 10 (by decide) (by decide)) (hf1 153 (by decide))) (s_te T L p) htl.2.2 (by rw [hj1 9 (by decide) (by decide)]; exact hK.2.2.2.2.1 (by omega))) sh152 rfl rfl (Nat.le_of_ble_eq_true rfl) (fun r2 ν0 ω0 q2 => ?_)
  obtain ⟨rfl, q2⟩ := q2
  change x_T _ _ _ _ _ _ _ _ _
  have hLb : m_L μ ν0 ω0 T L 7 (s_te T L p) (s_blm φ (s_fl 7 G) 3 (s_sp T L p)) 1 0 := ⟨m_K.next (hK.1.cg (hj1 10 (by decide) (by decide)) (hf1 153 (by decide))) htl.2.2 q2, hF1.cg (q2.2.2.2.2.2.1 16 (by decide) (by decide) (by decide) (by decide)) (q2.2.2.2.2.2.1 17 (by decide) (by decide) (by decide) (by decide)) (by show s_sp T L p + 1 ≤ s_te T L p; omega), by rw [q2.2.2.2.2.2.1 21 (by decide) (by decide) (by decide) (by decide), hj1 21 (by decide) (by decide), hg]; rfl, fun j h => absurd h (Nat.not_lt_zero j), fun j h => absurd h (Nat.not_lt_zero j), fun j _ => by rw [q2.2.2.2.2.2.2 162 (by decide), hf1 162 (by decide)], by rw [q2.2.2.2.2.2.2 161 (by decide), hf1 161 (by decide)], by rw [q2.2.2.2.2.2.1 20 (by decide) (by decide) (by decide) (by decide), hj1 20 (by decide) (by decide)], fun a h1 _ => by rw [q2.2.2.2.2.2.2 a h1, hf1 a h1]⟩
  refine xt_aload_n _ dX12_dayLine_30 rfl ?_
  refine xt_getr _ dX12_dayLine_31 kfX12_38 (by first | exact sh152 | exact sh161 | exact sh162 | rfl | assumption) rfl ?_
  refine xt_iconst (1) dX12_dayLine_34 (by decide) ?_
  refine xt_iconst (-1) dX12_dayLine_35 (by decide) ?_
  refine xt_ast dX12_dayLine_36 (by first | exact sh152 | exact sh161 | exact sh162 | rfl | assumption) (by unfold vp_in; decide) ?_
  refine xt_aload_n _ dX12_dayLine_37 rfl ?_
  refine xt_getr _ dX12_dayLine_38 kfX12_38 (by first | exact sh152 | exact sh161 | exact sh162 | rfl | assumption) rfl ?_
  refine xt_iconst (2) dX12_dayLine_41 (by decide) ?_
  refine xt_iconst (-1) dX12_dayLine_42 (by decide) ?_
  refine xt_ast dX12_dayLine_43 (by first | exact sh152 | exact sh161 | exact sh162 | rfl | assumption) (by unfold vp_in; decide) ?_
  refine xt_aload_n _ dX12_dayLine_44 rfl ?_
  refine xt_getr _ dX12_dayLine_45 kfX12_38 (by first | exact sh152 | exact sh161 | exact sh162 | rfl | assumption) rfl ?_
  refine xt_iconst (3) dX12_dayLine_48 (by decide) ?_
  refine xt_iconst (-1) dX12_dayLine_49 (by decide) ?_
  refine xt_ast dX12_dayLine_50 (by first | exact sh152 | exact sh161 | exact sh162 | rfl | assumption) (by unfold vp_in; decide) ?_
  have hL0 : m_L (x_u μ 162 (upd (upd (upd (μ 162) 1 (-1)) 2 (-1)) 3 (-1))) (x_u (x_u (x_u ν0 162 (upd (ν0 162) (1 : Int32).toNatClampNeg (-1))) 162 (upd (x_u ν0 162 (upd (ν0 162) (1 : Int32).toNatClampNeg (-1)) 162) (2 : Int32).toNatClampNeg (-1))) 162 (upd (x_u (x_u ν0 162 (upd (ν0 162) (1 : Int32).toNatClampNeg (-1))) 162 (upd (x_u ν0 162 (upd (ν0 162) (1 : Int32).toNatClampNeg (-1)) 162) (2 : Int32).toNatClampNeg (-1)) 162) (3 : Int32).toNatClampNeg (-1))) ω0 T L 7 (s_te T L p) (s_blm φ (s_fl 7 G) 3 (s_sp T L p)) 1 0 := by
    obtain ⟨z1, z2, z3, z4, z5, z6, z7, z8, z9⟩ := hLb
    refine ⟨z1.cg (fun j _ _ => rfl) rfl, z2.cg rfl rfl (Nat.le_refl _), z3, fun j h => absurd h (Nat.not_lt_zero j), fun j h => absurd h (Nat.not_lt_zero j), fun j hj => ?_, z7, z8, fun a h1 h2 => ?_⟩
    · rw [x_u_eq, x_u_eq, x_u_eq, x_u_eq, cl1, cl2, cl3]
      have e162 : ν0 162 j = μ 162 j := z6 j hj
      by_cases h3 : j = 3
      · rw [h3, pk_us, pk_us]
      · rw [pk_un h3, pk_un h3]
        by_cases h2 : j = 2
        · rw [h2, pk_us, pk_us]
        · rw [pk_un h2, pk_un h2]
          by_cases h1 : j = 1
          · rw [h1, pk_us, pk_us]
          · rw [pk_un h1, pk_un h1]; exact e162
    · rw [x_u_ne h2, x_u_ne h2, x_u_ne h2, x_u_ne h2]; exact z9 a h1 h2
  obtain ⟨νz, hνz⟩ : ∃ νz, (x_u (x_u (x_u ν0 162 (upd (ν0 162) (1 : Int32).toNatClampNeg (-1))) 162 (upd (x_u ν0 162 (upd (ν0 162) (1 : Int32).toNatClampNeg (-1)) 162) (2 : Int32).toNatClampNeg (-1))) 162 (upd (x_u (x_u ν0 162 (upd (ν0 162) (1 : Int32).toNatClampNeg (-1))) 162 (upd (x_u ν0 162 (upd (ν0 162) (1 : Int32).toNatClampNeg (-1)) 162) (2 : Int32).toNatClampNeg (-1)) 162) (3 : Int32).toNatClampNeg (-1))) = νz := ⟨_, rfl⟩
  change x_T _ _ _ _ _ _ (x_u (x_u (x_u ν0 162 (upd (ν0 162) (1 : Int32).toNatClampNeg (-1))) 162 (upd (x_u ν0 162 (upd (ν0 162) (1 : Int32).toNatClampNeg (-1)) 162) (2 : Int32).toNatClampNeg (-1))) 162 (upd (x_u (x_u ν0 162 (upd (ν0 162) (1 : Int32).toNatClampNeg (-1))) 162 (upd (x_u ν0 162 (upd (ν0 162) (1 : Int32).toNatClampNeg (-1)) 162) (2 : Int32).toNatClampNeg (-1)) 162) (3 : Int32).toNatClampNeg (-1))) _ _
  rw [hνz] at hL0 ⊢
  refine xt_iload _ dX12_dayLine_51 rfl ?_
  refine xt_iconst (3) dX12_dayLine_53 (by decide) ?_
  refine xt_icmp_ne 61 dX12_dayLine_54 (by decide) (fun _ => ?_) (fun q => absurd q (by decide))
  refine xt_iconst (0) dX12_dayLine_61 (by decide) ?_
  refine xt_istore dX12_dayLine_62 (by decide) rfl ?_
  change x_T _ _ _ _ [_, _, _, _, _, _, _, _] _ _ _ _
  refine xt_iload _ dX12_dayLine_64 rfl ?_
  refine xt_iconst (1) dX12_dayLine_66 (by decide) ?_
  refine xt_icmp_le 81 dX12_dayLine_67 (by decide) (fun _ => ?_) (fun q => absurd (by decide) q)
  refine xt_iload _ dX12_dayLine_81 rfl ?_
  refine xt_iconst (2) dX12_dayLine_83 (by decide) ?_
  refine xt_icmp_le 129 dX12_dayLine_84 (by decide) (fun _ => ?_) (fun q => absurd (by decide) q)
  refine xt_aload_n _ dX12_dayLine_129 rfl ?_
  refine xt_getr _ dX12_dayLine_130 kfX12_38 (by first | exact sh152 | exact sh161 | exact sh162 | rfl | assumption) rfl ?_
  refine xt_iconst (0) dX12_dayLine_133 (by decide) ?_
  refine xt_iload _ dX12_dayLine_134 rfl ?_
  refine xt_ast dX12_dayLine_136 (by first | exact sh152 | exact sh161 | exact sh162 | rfl | assumption) (by unfold vp_in; decide) ?_
  refine xt_aload_n _ dX12_dayLine_137 rfl ?_
  refine xt_getr _ dX12_dayLine_138 kfX12_35 (by first | exact sh152 | exact sh161 | exact sh162 | rfl | assumption) rfl ?_
  refine xt_iconst (0) dX12_dayLine_141 (by decide) ?_
  refine xt_ald dX12_dayLine_142 (by first | exact sh152 | exact sh161 | exact sh162 | rfl | assumption) (by unfold vp_in; decide) ?_
  obtain ⟨z1, z2, z3, z4, z5, z6, z7, z8, z9⟩ := hL0
  have hbn : s_bn T L (s_te T L p) 0 = 0 := m_L.bn ⟨z1, z2, z3, z4, z5, z6, z7, z8, z9⟩
  have e161 : (x_u νz 162 (upd (νz 162) (0 : Int32).toNatClampNeg 0)) 161 = μ 161 := by rw [x_u_ne (by decide), z7, x_u_ne (by decide)]
  rw [show (x_u νz 162 (upd (νz 162) (0 : Int32).toNatClampNeg 0)) 161 (0 : Int32).toNatClampNeg = nI x from (by rw [e161]; exact hx)]
  obtain ⟨νr, hνr⟩ : ∃ νr, (x_u νz 162 (upd (νz 162) (0 : Int32).toNatClampNeg 0)) = νr := ⟨_, rfl⟩
  rw [hνr]
  rw [hνr] at e161
  have hrd : ∀ j, j < 4 → νr 162 j = eI (s_dxl 7 (s_nv T L (s_te T L p)) j) := fun j hj => by
    obtain ⟨y0, y⟩ := s_dxl_e 7 (s_nv T L (s_te T L p))
    rw [← hνr, x_u_eq, cl0]
    by_cases h0 : j = 0
    · rw [h0, pk_us, y0]; rfl
    · rw [pk_un h0]
      obtain ⟨i, rfl⟩ : ∃ i, j = 1 + i := ⟨j - 1, by omega⟩
      rw [y i (by omega)]
      by_cases hi : i < 0
      · rw [if_pos (show i < s_gv 7 from hi)]; exact z5 i hi
      · rw [if_neg (show ¬ i < s_gv 7 from hi), z6 (1 + i) (by omega), x_u_eq]
        have h3 : i = 0 ∨ i = 1 ∨ i = 2 := by omega
        rcases h3 with rfl | rfl | rfl <;> rfl
  have e152 : νr 152 = νz 152 := by rw [← hνr]; exact x_u_ne (by decide)
  have e153 : νr 153 = νz 153 := by rw [← hνr]; exact x_u_ne (by decide)
  have ene : ∀ a, a ≠ 152 → a ≠ 162 → νr a = μ a := fun a h1 h2 => by rw [← hνr, x_u_ne h2, z9 a h1 h2, x_u_ne h2]
  by_cases hlt4 : x < 40
  · skip
    refine xt_istore dX12_dayLine_143 (by decide) rfl ?_
    change x_T _ _ _ _ [_, _, _, _, _, _, _, _] _ _ _ _
    refine xt_iconst (0) dX12_dayLine_145 (by decide) ?_
    refine xt_istore dX12_dayLine_146 (by decide) rfl ?_
    change x_T _ _ _ _ [_, _, _, _, _, _, _, _] _ _ _ _
    have L148 : ∀ (n148 m : Nat) (μ2 : x_Me) (h161 : μ2 161 = s_wm (νr 161) 1 1 (4 * x) (νr 162) m) (hfm : ∀ a, a ≠ 161 → μ2 a = νr a), m + n148 = 4 → x_T sc (d + 3) mX12_dayLine 148 [.ref 152, .long v, .retAddr 0, .int (nI (s_sp T L p)), .int 0, .int 0, .int (nI x), .int (nI m)] [] μ2 ω0 (fun r μ' w' => (s_bn T L (s_te T L p) 0 = 0 → r = some (.int 1) ∧ m_K μ' w' T L (s_qs T L (s_te T L p) 0) ∧ m_F μ' (s_nf T L 7 (s_te T L p) (s_blm φ (s_fl 7 G) 3 (s_sp T L p)) 0) (s_qs T L (s_te T L p) 0) ∧ m_C μ' 1 (s_nf T L 7 (s_te T L p) (s_blm φ (s_fl 7 G) 3 (s_sp T L p)) 0) (if (s_nf T L 7 (s_te T L p) (s_blm φ (s_fl 7 G) 3 (s_sp T L p)) 0).1 = 0 then s_kp 7 (s_nv T L (s_te T L p)) G else G) (if (s_nf T L 7 (s_te T L p) (s_blm φ (s_fl 7 G) 3 (s_sp T L p)) 0).1 = 0 then s_mxl 7 (s_nv T L (s_te T L p)) mx else mx)) ∧ (s_bn T L (s_te T L p) 0 ≠ 0 → r = some (.int 0) ∧ μ' 152 15 = nI (s_sp T L (s_qs T L (s_te T L p) (s_bn T L (s_te T L p) 0 - 1)))) ∧ ∀ a, a ≠ 152 → a ≠ 161 → a ≠ 162 → μ' a = μ a) := by
      intro n148
      induction n148 with
      | zero =>
        intro m μ2 h161 hfm hmn
        obtain rfl : 4 = m := by omega
        refine xt_iload _ dX12_dayLine_148 rfl ?_
        refine xt_iconst (4) dX12_dayLine_150 (by decide) ?_
        refine xt_icmp_ge 188 dX12_dayLine_151 (by decide) (fun _ => ?_) (fun q => absurd (by decide) q)
        refine xt_aload_n _ dX12_dayLine_188 rfl ?_
        refine xt_getr _ dX12_dayLine_189 kfX12_35 (by first | exact sh152 | exact sh161 | exact sh162 | rfl | assumption) rfl ?_
        refine xt_iconst (0) dX12_dayLine_192 (by decide) ?_
        refine xt_bipush (40) dX12_dayLine_193 (by decide) ?_
        refine xt_iload _ dX12_dayLine_195 rfl ?_
        refine xt_iconst (1) dX12_dayLine_197 (by decide) ?_
        refine xt_iadd dX12_dayLine_198 ?_
        refine xt_cS _ dX12_dayLine_199 klX12_209 (tX12_lesser sc _ _ _ _ _) rfl rfl (Nat.le_of_ble_eq_true rfl) ?_
        rw [s_le40 hlt4]
        refine xt_ast dX12_dayLine_202 (by first | exact sh152 | exact sh161 | exact sh162 | rfl | assumption) (by unfold vp_in; decide) ?_
        refine xt_iconst (1) dX12_dayLine_203 (by decide) ?_
        refine xt_iret .boolean dX12_dayLine_204 rfl (by rfl) ?_
        refine ⟨fun _ => ⟨rfl, z1.cg (fun j _ _ => by rw [x_u_ne (by decide), hfm 152 (by decide), e152]) (by rw [x_u_ne (by decide), hfm 153 (by decide), e153]), z2.cg (by rw [x_u_ne (by decide), hfm 152 (by decide), e152]) (by rw [x_u_ne (by decide), hfm 152 (by decide), e152]) (Nat.le_refl _), ?_, ?_⟩, fun h => absurd hbn h, fun a h1 h2 h3 => by rw [x_u_ne h2, hfm a h2]; exact ene a h1 h3⟩
        · intro hz
          rw [if_pos hz, if_pos hz]
          obtain ⟨hz1, _⟩ := s_nf_0 hz
          obtain ⟨hz0, hfl⟩ := s_blm_0 (by decide) hz1
          have hxe := hxG hz0
          obtain ⟨k0, ka, kn⟩ := s_kp_d_at (k := 7) (by decide) (by decide) (s_nv T L (s_te T L p)) G
          refine ⟨fun i hi => ?_, by rw [x_u_ne (by decide), hfm 152 (by decide), e152, z8]; exact (hC.1 hz0).2⟩
          rw [x_u_eq, cl0, h161, e161]
          by_cases h0 : i = 0
          · rw [h0, pk_us, k0, hxe]; rfl
          · rw [pk_un h0]
            rw [show s_tv 1 i _ = eI _ from if_pos ⟨rfl, h0⟩]
            by_cases hin : 1 + 4 * x ≤ i ∧ i < 5 + 4 * x
            · obtain ⟨j, rfl⟩ : ∃ j, i = 1 + 1 * j + 4 * x := ⟨i - (1 + 4 * x), by omega⟩
              rw [s_wm_at (by decide) (by omega), hrd j (by omega), show 1 + 1 * j + 4 * x = 1 + 4 * G 0 + j by omega, ka j (by omega)]
            · rw [s_wm_no (fun j hj => by omega), kn i h0 (by omega), (hC.1 hz0).1 i hi]
              exact if_pos ⟨rfl, h0⟩
        · refine ⟨fun h => absurd h (by decide), fun _ => ⟨x + 1, by omega, ?_⟩, fun h => absurd h (by decide)⟩
          rw [x_u_eq, cl0, pk_us]
      | succ n148 ih148 =>
        intro m μ2 h161 hfm hmn
        have hlt : m < 4 := by omega
        have hix : (1 : Int32) + 4 * nI x + nI m = nI (1 + 4 * x + m) := by rw [show (1 : Int32) = nI 1 from rfl, show (4 : Int32) = nI 4 from rfl, pk_mul, nI_add, nI_add]
        refine xt_iload _ dX12_dayLine_148 rfl ?_
        refine xt_iconst (4) dX12_dayLine_150 (by decide) ?_
        refine xt_icmp_ge 188 dX12_dayLine_151 (by decide) (fun q => absurd q (nI_ge (b := 4) hlt (by decide))) (fun _ => ?_)
        refine xt_iload _ dX12_dayLine_154 rfl ?_
        refine xt_bipush (40) dX12_dayLine_156 (by decide) ?_
        refine xt_icmp_ge 188 dX12_dayLine_158 (by decide) (fun q => absurd q (nI_ge hlt4 (by decide))) (fun _ => ?_)
        refine xt_aload_n _ dX12_dayLine_161 rfl ?_
        refine xt_getr _ dX12_dayLine_162 kfX12_35 (by first | exact sh152 | exact sh161 | exact sh162 | rfl | assumption) rfl ?_
        refine xt_iconst (1) dX12_dayLine_165 (by decide) ?_
        refine xt_iconst (4) dX12_dayLine_166 (by decide) ?_
        refine xt_iload _ dX12_dayLine_167 rfl ?_
        refine xt_imul dX12_dayLine_169 ?_
        refine xt_iadd dX12_dayLine_170 ?_
        refine xt_iload _ dX12_dayLine_171 rfl ?_
        refine xt_iadd dX12_dayLine_173 ?_
        refine xt_aload_n _ dX12_dayLine_174 rfl ?_
        refine xt_getr _ dX12_dayLine_175 kfX12_38 (by first | exact sh152 | exact sh161 | exact sh162 | rfl | assumption) rfl ?_
        refine xt_iload _ dX12_dayLine_178 rfl ?_
        refine xt_ald dX12_dayLine_180 (by first | exact sh152 | exact sh161 | exact sh162 | rfl | assumption) (by exact vp_in_nI (by omega) (by decide)) ?_
        refine xt_ast dX12_dayLine_181 (by first | exact sh152 | exact sh161 | exact sh162 | rfl | assumption) (by rw [hix]; exact vp_in_nI (by omega) (by decide)) ?_
        refine xt_inc _ (1) dX12_dayLine_182 rfl (by decide) (by decide) rfl ?_
        change x_T _ _ _ _ [_, _, _, _, _, _, _, _] _ _ _ _
        refine xt_goto 148 dX12_dayLine_185 (by decide) ?_
        refine x_T.ls (by rw [nI_succ m]) (ih148 (m + 1) _ ?_ (fun a h => by rw [x_u_ne h]; exact hfm a h) (by omega))
        rw [x_u_eq, hix, nI_clamp (by omega), nI_clamp (by omega), h161, hfm 162 (by decide), s_wm, show 1 + 1 * m + 4 * x = 1 + 4 * x + m by omega]
    exact L148 4 0 νr rfl (fun _ _ => rfl) (by omega)
  · skip
    refine xt_istore dX12_dayLine_143 (by decide) rfl ?_
    change x_T _ _ _ _ [_, _, _, _, _, _, _, _] _ _ _ _
    refine xt_iconst (0) dX12_dayLine_145 (by decide) ?_
    refine xt_istore dX12_dayLine_146 (by decide) rfl ?_
    change x_T _ _ _ _ [_, _, _, _, _, _, _, _] _ _ _ _
    refine xt_iload _ dX12_dayLine_148 rfl ?_
    refine xt_iconst (4) dX12_dayLine_150 (by decide) ?_
    refine xt_icmp_ge 188 dX12_dayLine_151 (by decide) (fun q => absurd q (by decide)) (fun _ => ?_)
    refine xt_iload _ dX12_dayLine_154 rfl ?_
    refine xt_bipush (40) dX12_dayLine_156 (by decide) ?_
    refine xt_icmp_ge 188 dX12_dayLine_158 (by decide) (fun _ => ?_) (fun q => absurd (by rw [show x = 40 by omega]; decide) q)
    refine xt_aload_n _ dX12_dayLine_188 rfl ?_
    refine xt_getr _ dX12_dayLine_189 kfX12_35 (by first | exact sh152 | exact sh161 | exact sh162 | rfl | assumption) rfl ?_
    refine xt_iconst (0) dX12_dayLine_192 (by decide) ?_
    refine xt_bipush (40) dX12_dayLine_193 (by decide) ?_
    refine xt_iload _ dX12_dayLine_195 rfl ?_
    refine xt_iconst (1) dX12_dayLine_197 (by decide) ?_
    refine xt_iadd dX12_dayLine_198 ?_
    refine xt_cS _ dX12_dayLine_199 klX12_209 (tX12_lesser sc _ _ _ _ _) rfl rfl (Nat.le_of_ble_eq_true rfl) ?_
    rw [s_le40b (show x = 40 by omega)]
    refine xt_ast dX12_dayLine_202 (by first | exact sh152 | exact sh161 | exact sh162 | rfl | assumption) (by unfold vp_in; decide) ?_
    refine xt_iconst (1) dX12_dayLine_203 (by decide) ?_
    refine xt_iret .boolean dX12_dayLine_204 rfl (by rfl) ?_
    refine ⟨fun _ => ⟨rfl, z1.cg (fun j _ _ => by rw [x_u_ne (by decide), e152]) (by rw [x_u_ne (by decide), e153]), z2.cg (by rw [x_u_ne (by decide), e152]) (by rw [x_u_ne (by decide), e152]) (Nat.le_refl _), ?_, ?_⟩, fun h => absurd hbn h, fun a h1 h2 h3 => by rw [x_u_ne h2]; exact ene a h1 h3⟩
    · intro hz
      exfalso
      obtain ⟨hz1, _⟩ := s_nf_0 hz
      obtain ⟨hz0, hfl⟩ := s_blm_0 (by decide) hz1
      have hxe := hxG hz0
      have h5 : decide (40 ≤ G 0) = false := hfl
      have := of_decide_eq_false h5
      omega
    · refine ⟨fun h => absurd h (by decide), fun _ => ⟨40, Nat.le_refl _, ?_⟩, fun h => absurd h (by decide)⟩
      rw [x_u_eq, cl0, pk_us]; rfl
set_option maxHeartbeats 8000000 in
theorem tX12_line8 (T : Nat → Nat) (L p : Nat) (φ : Nat × Nat) (G : Nat → Nat) (mx : Nat) (hK : m_K μ w T L p) (hk1 : s_kd T L p = 1) (hF : m_F μ φ p) (hg : μ 152 21 = 1) (hC : m_C μ 1 φ G mx) (hW : g_W 1 G) (v : Int64) : x_T sc (d + 3) mX12_dayLine 18 [.ref 152, .long v, .retAddr 0, .int (nI (s_sp T L p)), .int 1, .retAddr 0, .retAddr 0, .retAddr 0] [] μ w (fun r μ' w' => (s_bn T L (s_te T L p) 0 = 0 → r = some (.int 1) ∧ m_K μ' w' T L (s_qs T L (s_te T L p) 0) ∧ m_F μ' (s_nf T L 8 (s_te T L p) (s_blm φ (s_fl 8 G) 3 (s_sp T L p)) 0) (s_qs T L (s_te T L p) 0) ∧ m_C μ' 1 (s_nf T L 8 (s_te T L p) (s_blm φ (s_fl 8 G) 3 (s_sp T L p)) 0) (if (s_nf T L 8 (s_te T L p) (s_blm φ (s_fl 8 G) 3 (s_sp T L p)) 0).1 = 0 then s_kp 8 (s_nv T L (s_te T L p)) G else G) (if (s_nf T L 8 (s_te T L p) (s_blm φ (s_fl 8 G) 3 (s_sp T L p)) 0).1 = 0 then s_mxl 8 (s_nv T L (s_te T L p)) mx else mx)) ∧ (s_bn T L (s_te T L p) 0 ≠ 0 → r = some (.int 0) ∧ μ' 152 15 = nI (s_sp T L (s_qs T L (s_te T L p) (s_bn T L (s_te T L p) 0 - 1)))) ∧ ∀ a, a ≠ 152 → a ≠ 161 → a ≠ 162 → μ' a = μ a) := by
  have hL := hK.1.2.1
  have htl := s_te_le hK.1.2.2.2 hK.2.1
  have hsl := s_sp_le hK.1.2.2.2 hK.2.1
  have hlt : s_sp T L p < s_te T L p := s_sp_lt (by omega) (by omega)
  refine xt_aload_n _ dX12_dayLine_18 rfl ?_
  refine xt_iconst (0) dX12_dayLine_19 (by decide) ?_
  refine xt_bipush (40) dX12_dayLine_20 (by decide) ?_
  refine xt_iload_n _ dX12_dayLine_22 rfl ?_
  obtain ⟨x, hx1, hx⟩ := hC.2.2.1 rfl
  have hx1 : x ≤ 40 := hx1
  refine xt_callV _ dX12_dayLine_23 klX12_142 (tX12_full sc _ μ w φ p 0 40 (s_sp T L p) x hF hsl.1 (by omega) (by decide) hx hx1 (by decide)) sh152 rfl rfl (Nat.le_of_ble_eq_true rfl) (fun r1 μ1 w1 q1 => ?_)
  obtain ⟨rfl, rfl, hF1, hj1, hf1⟩ := q1
  change x_T _ _ _ _ _ _ _ _ _
  have hxG : φ.1 = 0 → x = G 0 := fun z => (nI_eq (by omega) (by have := (show gd_W G from hW).1; omega)).mp (hx.symm.trans ((hC.1 z).1 0 (by decide)))
  have hφ1 : s_blm φ (decide (x = 40)) 3 (s_sp T L p) = (s_blm φ (s_fl 8 G) 3 (s_sp T L p)) := by
    by_cases hz : φ.1 = 0
    · rw [hxG hz, show s_fl 8 G = decide (G 0 = 40) from (decide_eq_decide.mpr (by have := (show gd_W G from hW).1; omega) : decide (40 ≤ G 0) = decide (G 0 = 40))]
    · rw [s_blm_n hz, s_blm_n hz]
  rw [hφ1] at hF1
  refine xt_aload_n _ dX12_dayLine_26 rfl ?_
  refine xt_callV _ dX12_dayLine_27 klX12_136 (tX12_token sc _ μ1 w1 T L (hK.1.cg (hj1 10 (by decide) (by decide)) (hf1 153 (by decide))) (s_te T L p) htl.2.2 (by rw [hj1 9 (by decide) (by decide)]; exact hK.2.2.2.2.1 (by omega))) sh152 rfl rfl (Nat.le_of_ble_eq_true rfl) (fun r2 ν0 ω0 q2 => ?_)
  obtain ⟨rfl, q2⟩ := q2
  change x_T _ _ _ _ _ _ _ _ _
  have hLb : m_L μ ν0 ω0 T L 8 (s_te T L p) (s_blm φ (s_fl 8 G) 3 (s_sp T L p)) 1 0 := ⟨m_K.next (hK.1.cg (hj1 10 (by decide) (by decide)) (hf1 153 (by decide))) htl.2.2 q2, hF1.cg (q2.2.2.2.2.2.1 16 (by decide) (by decide) (by decide) (by decide)) (q2.2.2.2.2.2.1 17 (by decide) (by decide) (by decide) (by decide)) (by show s_sp T L p + 1 ≤ s_te T L p; omega), by rw [q2.2.2.2.2.2.1 21 (by decide) (by decide) (by decide) (by decide), hj1 21 (by decide) (by decide), hg]; rfl, fun j h => absurd h (Nat.not_lt_zero j), fun j h => absurd h (Nat.not_lt_zero j), fun j _ => by rw [q2.2.2.2.2.2.2 162 (by decide), hf1 162 (by decide)], by rw [q2.2.2.2.2.2.2 161 (by decide), hf1 161 (by decide)], by rw [q2.2.2.2.2.2.1 20 (by decide) (by decide) (by decide) (by decide), hj1 20 (by decide) (by decide)], fun a h1 _ => by rw [q2.2.2.2.2.2.2 a h1, hf1 a h1]⟩
  refine xt_aload_n _ dX12_dayLine_30 rfl ?_
  refine xt_getr _ dX12_dayLine_31 kfX12_38 (by first | exact sh152 | exact sh161 | exact sh162 | rfl | assumption) rfl ?_
  refine xt_iconst (1) dX12_dayLine_34 (by decide) ?_
  refine xt_iconst (-1) dX12_dayLine_35 (by decide) ?_
  refine xt_ast dX12_dayLine_36 (by first | exact sh152 | exact sh161 | exact sh162 | rfl | assumption) (by unfold vp_in; decide) ?_
  refine xt_aload_n _ dX12_dayLine_37 rfl ?_
  refine xt_getr _ dX12_dayLine_38 kfX12_38 (by first | exact sh152 | exact sh161 | exact sh162 | rfl | assumption) rfl ?_
  refine xt_iconst (2) dX12_dayLine_41 (by decide) ?_
  refine xt_iconst (-1) dX12_dayLine_42 (by decide) ?_
  refine xt_ast dX12_dayLine_43 (by first | exact sh152 | exact sh161 | exact sh162 | rfl | assumption) (by unfold vp_in; decide) ?_
  refine xt_aload_n _ dX12_dayLine_44 rfl ?_
  refine xt_getr _ dX12_dayLine_45 kfX12_38 (by first | exact sh152 | exact sh161 | exact sh162 | rfl | assumption) rfl ?_
  refine xt_iconst (3) dX12_dayLine_48 (by decide) ?_
  refine xt_iconst (-1) dX12_dayLine_49 (by decide) ?_
  refine xt_ast dX12_dayLine_50 (by first | exact sh152 | exact sh161 | exact sh162 | rfl | assumption) (by unfold vp_in; decide) ?_
  have hL0 : m_L (x_u μ 162 (upd (upd (upd (μ 162) 1 (-1)) 2 (-1)) 3 (-1))) (x_u (x_u (x_u ν0 162 (upd (ν0 162) (1 : Int32).toNatClampNeg (-1))) 162 (upd (x_u ν0 162 (upd (ν0 162) (1 : Int32).toNatClampNeg (-1)) 162) (2 : Int32).toNatClampNeg (-1))) 162 (upd (x_u (x_u ν0 162 (upd (ν0 162) (1 : Int32).toNatClampNeg (-1))) 162 (upd (x_u ν0 162 (upd (ν0 162) (1 : Int32).toNatClampNeg (-1)) 162) (2 : Int32).toNatClampNeg (-1)) 162) (3 : Int32).toNatClampNeg (-1))) ω0 T L 8 (s_te T L p) (s_blm φ (s_fl 8 G) 3 (s_sp T L p)) 1 0 := by
    obtain ⟨z1, z2, z3, z4, z5, z6, z7, z8, z9⟩ := hLb
    refine ⟨z1.cg (fun j _ _ => rfl) rfl, z2.cg rfl rfl (Nat.le_refl _), z3, fun j h => absurd h (Nat.not_lt_zero j), fun j h => absurd h (Nat.not_lt_zero j), fun j hj => ?_, z7, z8, fun a h1 h2 => ?_⟩
    · rw [x_u_eq, x_u_eq, x_u_eq, x_u_eq, cl1, cl2, cl3]
      have e162 : ν0 162 j = μ 162 j := z6 j hj
      by_cases h3 : j = 3
      · rw [h3, pk_us, pk_us]
      · rw [pk_un h3, pk_un h3]
        by_cases h2 : j = 2
        · rw [h2, pk_us, pk_us]
        · rw [pk_un h2, pk_un h2]
          by_cases h1 : j = 1
          · rw [h1, pk_us, pk_us]
          · rw [pk_un h1, pk_un h1]; exact e162
    · rw [x_u_ne h2, x_u_ne h2, x_u_ne h2, x_u_ne h2]; exact z9 a h1 h2
  obtain ⟨νz, hνz⟩ : ∃ νz, (x_u (x_u (x_u ν0 162 (upd (ν0 162) (1 : Int32).toNatClampNeg (-1))) 162 (upd (x_u ν0 162 (upd (ν0 162) (1 : Int32).toNatClampNeg (-1)) 162) (2 : Int32).toNatClampNeg (-1))) 162 (upd (x_u (x_u ν0 162 (upd (ν0 162) (1 : Int32).toNatClampNeg (-1))) 162 (upd (x_u ν0 162 (upd (ν0 162) (1 : Int32).toNatClampNeg (-1)) 162) (2 : Int32).toNatClampNeg (-1)) 162) (3 : Int32).toNatClampNeg (-1))) = νz := ⟨_, rfl⟩
  change x_T _ _ _ _ _ _ (x_u (x_u (x_u ν0 162 (upd (ν0 162) (1 : Int32).toNatClampNeg (-1))) 162 (upd (x_u ν0 162 (upd (ν0 162) (1 : Int32).toNatClampNeg (-1)) 162) (2 : Int32).toNatClampNeg (-1))) 162 (upd (x_u (x_u ν0 162 (upd (ν0 162) (1 : Int32).toNatClampNeg (-1))) 162 (upd (x_u ν0 162 (upd (ν0 162) (1 : Int32).toNatClampNeg (-1)) 162) (2 : Int32).toNatClampNeg (-1)) 162) (3 : Int32).toNatClampNeg (-1))) _ _
  rw [hνz] at hL0 ⊢
  refine xt_iload _ dX12_dayLine_51 rfl ?_
  refine xt_iconst (3) dX12_dayLine_53 (by decide) ?_
  refine xt_icmp_ne 61 dX12_dayLine_54 (by decide) (fun _ => ?_) (fun q => absurd q (by decide))
  refine xt_iconst (0) dX12_dayLine_61 (by decide) ?_
  refine xt_istore dX12_dayLine_62 (by decide) rfl ?_
  change x_T _ _ _ _ [_, _, _, _, _, _, _, _] _ _ _ _
  refine xt_iload _ dX12_dayLine_64 rfl ?_
  refine xt_iconst (1) dX12_dayLine_66 (by decide) ?_
  refine xt_icmp_le 81 dX12_dayLine_67 (by decide) (fun _ => ?_) (fun q => absurd (by decide) q)
  refine xt_iload _ dX12_dayLine_81 rfl ?_
  refine xt_iconst (2) dX12_dayLine_83 (by decide) ?_
  refine xt_icmp_le 129 dX12_dayLine_84 (by decide) (fun _ => ?_) (fun q => absurd (by decide) q)
  refine xt_aload_n _ dX12_dayLine_129 rfl ?_
  refine xt_getr _ dX12_dayLine_130 kfX12_38 (by first | exact sh152 | exact sh161 | exact sh162 | rfl | assumption) rfl ?_
  refine xt_iconst (0) dX12_dayLine_133 (by decide) ?_
  refine xt_iload _ dX12_dayLine_134 rfl ?_
  refine xt_ast dX12_dayLine_136 (by first | exact sh152 | exact sh161 | exact sh162 | rfl | assumption) (by unfold vp_in; decide) ?_
  refine xt_aload_n _ dX12_dayLine_137 rfl ?_
  refine xt_getr _ dX12_dayLine_138 kfX12_35 (by first | exact sh152 | exact sh161 | exact sh162 | rfl | assumption) rfl ?_
  refine xt_iconst (0) dX12_dayLine_141 (by decide) ?_
  refine xt_ald dX12_dayLine_142 (by first | exact sh152 | exact sh161 | exact sh162 | rfl | assumption) (by unfold vp_in; decide) ?_
  obtain ⟨z1, z2, z3, z4, z5, z6, z7, z8, z9⟩ := hL0
  have hbn : s_bn T L (s_te T L p) 0 = 0 := m_L.bn ⟨z1, z2, z3, z4, z5, z6, z7, z8, z9⟩
  have e161 : (x_u νz 162 (upd (νz 162) (0 : Int32).toNatClampNeg 1)) 161 = μ 161 := by rw [x_u_ne (by decide), z7, x_u_ne (by decide)]
  rw [show (x_u νz 162 (upd (νz 162) (0 : Int32).toNatClampNeg 1)) 161 (0 : Int32).toNatClampNeg = nI x from (by rw [e161]; exact hx)]
  obtain ⟨νr, hνr⟩ : ∃ νr, (x_u νz 162 (upd (νz 162) (0 : Int32).toNatClampNeg 1)) = νr := ⟨_, rfl⟩
  rw [hνr]
  rw [hνr] at e161
  have hrd : ∀ j, j < 4 → νr 162 j = eI (s_dxl 8 (s_nv T L (s_te T L p)) j) := fun j hj => by
    obtain ⟨y0, y⟩ := s_dxl_e 8 (s_nv T L (s_te T L p))
    rw [← hνr, x_u_eq, cl0]
    by_cases h0 : j = 0
    · rw [h0, pk_us, y0]; rfl
    · rw [pk_un h0]
      obtain ⟨i, rfl⟩ : ∃ i, j = 1 + i := ⟨j - 1, by omega⟩
      rw [y i (by omega)]
      by_cases hi : i < 0
      · rw [if_pos (show i < s_gv 8 from hi)]; exact z5 i hi
      · rw [if_neg (show ¬ i < s_gv 8 from hi), z6 (1 + i) (by omega), x_u_eq]
        have h3 : i = 0 ∨ i = 1 ∨ i = 2 := by omega
        rcases h3 with rfl | rfl | rfl <;> rfl
  have e152 : νr 152 = νz 152 := by rw [← hνr]; exact x_u_ne (by decide)
  have e153 : νr 153 = νz 153 := by rw [← hνr]; exact x_u_ne (by decide)
  have ene : ∀ a, a ≠ 152 → a ≠ 162 → νr a = μ a := fun a h1 h2 => by rw [← hνr, x_u_ne h2, z9 a h1 h2, x_u_ne h2]
  by_cases hlt4 : x < 40
  · skip
    refine xt_istore dX12_dayLine_143 (by decide) rfl ?_
    change x_T _ _ _ _ [_, _, _, _, _, _, _, _] _ _ _ _
    refine xt_iconst (0) dX12_dayLine_145 (by decide) ?_
    refine xt_istore dX12_dayLine_146 (by decide) rfl ?_
    change x_T _ _ _ _ [_, _, _, _, _, _, _, _] _ _ _ _
    have L148 : ∀ (n148 m : Nat) (μ2 : x_Me) (h161 : μ2 161 = s_wm (νr 161) 1 1 (4 * x) (νr 162) m) (hfm : ∀ a, a ≠ 161 → μ2 a = νr a), m + n148 = 4 → x_T sc (d + 3) mX12_dayLine 148 [.ref 152, .long v, .retAddr 0, .int (nI (s_sp T L p)), .int 1, .int 0, .int (nI x), .int (nI m)] [] μ2 ω0 (fun r μ' w' => (s_bn T L (s_te T L p) 0 = 0 → r = some (.int 1) ∧ m_K μ' w' T L (s_qs T L (s_te T L p) 0) ∧ m_F μ' (s_nf T L 8 (s_te T L p) (s_blm φ (s_fl 8 G) 3 (s_sp T L p)) 0) (s_qs T L (s_te T L p) 0) ∧ m_C μ' 1 (s_nf T L 8 (s_te T L p) (s_blm φ (s_fl 8 G) 3 (s_sp T L p)) 0) (if (s_nf T L 8 (s_te T L p) (s_blm φ (s_fl 8 G) 3 (s_sp T L p)) 0).1 = 0 then s_kp 8 (s_nv T L (s_te T L p)) G else G) (if (s_nf T L 8 (s_te T L p) (s_blm φ (s_fl 8 G) 3 (s_sp T L p)) 0).1 = 0 then s_mxl 8 (s_nv T L (s_te T L p)) mx else mx)) ∧ (s_bn T L (s_te T L p) 0 ≠ 0 → r = some (.int 0) ∧ μ' 152 15 = nI (s_sp T L (s_qs T L (s_te T L p) (s_bn T L (s_te T L p) 0 - 1)))) ∧ ∀ a, a ≠ 152 → a ≠ 161 → a ≠ 162 → μ' a = μ a) := by
      intro n148
      induction n148 with
      | zero =>
        intro m μ2 h161 hfm hmn
        obtain rfl : 4 = m := by omega
        refine xt_iload _ dX12_dayLine_148 rfl ?_
        refine xt_iconst (4) dX12_dayLine_150 (by decide) ?_
        refine xt_icmp_ge 188 dX12_dayLine_151 (by decide) (fun _ => ?_) (fun q => absurd (by decide) q)
        refine xt_aload_n _ dX12_dayLine_188 rfl ?_
        refine xt_getr _ dX12_dayLine_189 kfX12_35 (by first | exact sh152 | exact sh161 | exact sh162 | rfl | assumption) rfl ?_
        refine xt_iconst (0) dX12_dayLine_192 (by decide) ?_
        refine xt_bipush (40) dX12_dayLine_193 (by decide) ?_
        refine xt_iload _ dX12_dayLine_195 rfl ?_
        refine xt_iconst (1) dX12_dayLine_197 (by decide) ?_
        refine xt_iadd dX12_dayLine_198 ?_
        refine xt_cS _ dX12_dayLine_199 klX12_209 (tX12_lesser sc _ _ _ _ _) rfl rfl (Nat.le_of_ble_eq_true rfl) ?_
        rw [s_le40 hlt4]
        refine xt_ast dX12_dayLine_202 (by first | exact sh152 | exact sh161 | exact sh162 | rfl | assumption) (by unfold vp_in; decide) ?_
        refine xt_iconst (1) dX12_dayLine_203 (by decide) ?_
        refine xt_iret .boolean dX12_dayLine_204 rfl (by rfl) ?_
        refine ⟨fun _ => ⟨rfl, z1.cg (fun j _ _ => by rw [x_u_ne (by decide), hfm 152 (by decide), e152]) (by rw [x_u_ne (by decide), hfm 153 (by decide), e153]), z2.cg (by rw [x_u_ne (by decide), hfm 152 (by decide), e152]) (by rw [x_u_ne (by decide), hfm 152 (by decide), e152]) (Nat.le_refl _), ?_, ?_⟩, fun h => absurd hbn h, fun a h1 h2 h3 => by rw [x_u_ne h2, hfm a h2]; exact ene a h1 h3⟩
        · intro hz
          rw [if_pos hz, if_pos hz]
          obtain ⟨hz1, _⟩ := s_nf_0 hz
          obtain ⟨hz0, hfl⟩ := s_blm_0 (by decide) hz1
          have hxe := hxG hz0
          obtain ⟨k0, ka, kn⟩ := s_kp_d_at (k := 8) (by decide) (by decide) (s_nv T L (s_te T L p)) G
          refine ⟨fun i hi => ?_, by rw [x_u_ne (by decide), hfm 152 (by decide), e152, z8]; exact (hC.1 hz0).2⟩
          rw [x_u_eq, cl0, h161, e161]
          by_cases h0 : i = 0
          · rw [h0, pk_us, k0, hxe]; rfl
          · rw [pk_un h0]
            rw [show s_tv 1 i _ = eI _ from if_pos ⟨rfl, h0⟩]
            by_cases hin : 1 + 4 * x ≤ i ∧ i < 5 + 4 * x
            · obtain ⟨j, rfl⟩ : ∃ j, i = 1 + 1 * j + 4 * x := ⟨i - (1 + 4 * x), by omega⟩
              rw [s_wm_at (by decide) (by omega), hrd j (by omega), show 1 + 1 * j + 4 * x = 1 + 4 * G 0 + j by omega, ka j (by omega)]
            · rw [s_wm_no (fun j hj => by omega), kn i h0 (by omega), (hC.1 hz0).1 i hi]
              exact if_pos ⟨rfl, h0⟩
        · refine ⟨fun h => absurd h (by decide), fun _ => ⟨x + 1, by omega, ?_⟩, fun h => absurd h (by decide)⟩
          rw [x_u_eq, cl0, pk_us]
      | succ n148 ih148 =>
        intro m μ2 h161 hfm hmn
        have hlt : m < 4 := by omega
        have hix : (1 : Int32) + 4 * nI x + nI m = nI (1 + 4 * x + m) := by rw [show (1 : Int32) = nI 1 from rfl, show (4 : Int32) = nI 4 from rfl, pk_mul, nI_add, nI_add]
        refine xt_iload _ dX12_dayLine_148 rfl ?_
        refine xt_iconst (4) dX12_dayLine_150 (by decide) ?_
        refine xt_icmp_ge 188 dX12_dayLine_151 (by decide) (fun q => absurd q (nI_ge (b := 4) hlt (by decide))) (fun _ => ?_)
        refine xt_iload _ dX12_dayLine_154 rfl ?_
        refine xt_bipush (40) dX12_dayLine_156 (by decide) ?_
        refine xt_icmp_ge 188 dX12_dayLine_158 (by decide) (fun q => absurd q (nI_ge hlt4 (by decide))) (fun _ => ?_)
        refine xt_aload_n _ dX12_dayLine_161 rfl ?_
        refine xt_getr _ dX12_dayLine_162 kfX12_35 (by first | exact sh152 | exact sh161 | exact sh162 | rfl | assumption) rfl ?_
        refine xt_iconst (1) dX12_dayLine_165 (by decide) ?_
        refine xt_iconst (4) dX12_dayLine_166 (by decide) ?_
        refine xt_iload _ dX12_dayLine_167 rfl ?_
        refine xt_imul dX12_dayLine_169 ?_
        refine xt_iadd dX12_dayLine_170 ?_
        refine xt_iload _ dX12_dayLine_171 rfl ?_
        refine xt_iadd dX12_dayLine_173 ?_
        refine xt_aload_n _ dX12_dayLine_174 rfl ?_
        refine xt_getr _ dX12_dayLine_175 kfX12_38 (by first | exact sh152 | exact sh161 | exact sh162 | rfl | assumption) rfl ?_
        refine xt_iload _ dX12_dayLine_178 rfl ?_
        refine xt_ald dX12_dayLine_180 (by first | exact sh152 | exact sh161 | exact sh162 | rfl | assumption) (by exact vp_in_nI (by omega) (by decide)) ?_
        refine xt_ast dX12_dayLine_181 (by first | exact sh152 | exact sh161 | exact sh162 | rfl | assumption) (by rw [hix]; exact vp_in_nI (by omega) (by decide)) ?_
        refine xt_inc _ (1) dX12_dayLine_182 rfl (by decide) (by decide) rfl ?_
        change x_T _ _ _ _ [_, _, _, _, _, _, _, _] _ _ _ _
        refine xt_goto 148 dX12_dayLine_185 (by decide) ?_
        refine x_T.ls (by rw [nI_succ m]) (ih148 (m + 1) _ ?_ (fun a h => by rw [x_u_ne h]; exact hfm a h) (by omega))
        rw [x_u_eq, hix, nI_clamp (by omega), nI_clamp (by omega), h161, hfm 162 (by decide), s_wm, show 1 + 1 * m + 4 * x = 1 + 4 * x + m by omega]
    exact L148 4 0 νr rfl (fun _ _ => rfl) (by omega)
  · skip
    refine xt_istore dX12_dayLine_143 (by decide) rfl ?_
    change x_T _ _ _ _ [_, _, _, _, _, _, _, _] _ _ _ _
    refine xt_iconst (0) dX12_dayLine_145 (by decide) ?_
    refine xt_istore dX12_dayLine_146 (by decide) rfl ?_
    change x_T _ _ _ _ [_, _, _, _, _, _, _, _] _ _ _ _
    refine xt_iload _ dX12_dayLine_148 rfl ?_
    refine xt_iconst (4) dX12_dayLine_150 (by decide) ?_
    refine xt_icmp_ge 188 dX12_dayLine_151 (by decide) (fun q => absurd q (by decide)) (fun _ => ?_)
    refine xt_iload _ dX12_dayLine_154 rfl ?_
    refine xt_bipush (40) dX12_dayLine_156 (by decide) ?_
    refine xt_icmp_ge 188 dX12_dayLine_158 (by decide) (fun _ => ?_) (fun q => absurd (by rw [show x = 40 by omega]; decide) q)
    refine xt_aload_n _ dX12_dayLine_188 rfl ?_
    refine xt_getr _ dX12_dayLine_189 kfX12_35 (by first | exact sh152 | exact sh161 | exact sh162 | rfl | assumption) rfl ?_
    refine xt_iconst (0) dX12_dayLine_192 (by decide) ?_
    refine xt_bipush (40) dX12_dayLine_193 (by decide) ?_
    refine xt_iload _ dX12_dayLine_195 rfl ?_
    refine xt_iconst (1) dX12_dayLine_197 (by decide) ?_
    refine xt_iadd dX12_dayLine_198 ?_
    refine xt_cS _ dX12_dayLine_199 klX12_209 (tX12_lesser sc _ _ _ _ _) rfl rfl (Nat.le_of_ble_eq_true rfl) ?_
    rw [s_le40b (show x = 40 by omega)]
    refine xt_ast dX12_dayLine_202 (by first | exact sh152 | exact sh161 | exact sh162 | rfl | assumption) (by unfold vp_in; decide) ?_
    refine xt_iconst (1) dX12_dayLine_203 (by decide) ?_
    refine xt_iret .boolean dX12_dayLine_204 rfl (by rfl) ?_
    refine ⟨fun _ => ⟨rfl, z1.cg (fun j _ _ => by rw [x_u_ne (by decide), e152]) (by rw [x_u_ne (by decide), e153]), z2.cg (by rw [x_u_ne (by decide), e152]) (by rw [x_u_ne (by decide), e152]) (Nat.le_refl _), ?_, ?_⟩, fun h => absurd hbn h, fun a h1 h2 h3 => by rw [x_u_ne h2]; exact ene a h1 h3⟩
    · intro hz
      exfalso
      obtain ⟨hz1, _⟩ := s_nf_0 hz
      obtain ⟨hz0, hfl⟩ := s_blm_0 (by decide) hz1
      have hxe := hxG hz0
      have h5 : decide (40 ≤ G 0) = false := hfl
      have := of_decide_eq_false h5
      omega
    · refine ⟨fun h => absurd h (by decide), fun _ => ⟨40, Nat.le_refl _, ?_⟩, fun h => absurd h (by decide)⟩
      rw [x_u_eq, cl0, pk_us]; rfl
set_option maxHeartbeats 8000000 in
theorem tX12_line9 (T : Nat → Nat) (L p : Nat) (φ : Nat × Nat) (G : Nat → Nat) (mx : Nat) (hK : m_K μ w T L p) (hk1 : s_kd T L p = 1) (hF : m_F μ φ p) (hg : μ 152 21 = 1) (hC : m_C μ 1 φ G mx) (hW : g_W 1 G) (v : Int64) : x_T sc (d + 3) mX12_dayLine 18 [.ref 152, .long v, .retAddr 0, .int (nI (s_sp T L p)), .int 2, .retAddr 0, .retAddr 0, .retAddr 0] [] μ w (fun r μ' w' => (s_bn T L (s_te T L p) 1 = 0 → r = some (.int 1) ∧ m_K μ' w' T L (s_qs T L (s_te T L p) 1) ∧ m_F μ' (s_nf T L 9 (s_te T L p) (s_blm φ (s_fl 9 G) 3 (s_sp T L p)) 1) (s_qs T L (s_te T L p) 1) ∧ m_C μ' 1 (s_nf T L 9 (s_te T L p) (s_blm φ (s_fl 9 G) 3 (s_sp T L p)) 1) (if (s_nf T L 9 (s_te T L p) (s_blm φ (s_fl 9 G) 3 (s_sp T L p)) 1).1 = 0 then s_kp 9 (s_nv T L (s_te T L p)) G else G) (if (s_nf T L 9 (s_te T L p) (s_blm φ (s_fl 9 G) 3 (s_sp T L p)) 1).1 = 0 then s_mxl 9 (s_nv T L (s_te T L p)) mx else mx)) ∧ (s_bn T L (s_te T L p) 1 ≠ 0 → r = some (.int 0) ∧ μ' 152 15 = nI (s_sp T L (s_qs T L (s_te T L p) (s_bn T L (s_te T L p) 1 - 1)))) ∧ ∀ a, a ≠ 152 → a ≠ 161 → a ≠ 162 → μ' a = μ a) := by
  have hL := hK.1.2.1
  have htl := s_te_le hK.1.2.2.2 hK.2.1
  have hsl := s_sp_le hK.1.2.2.2 hK.2.1
  have hlt : s_sp T L p < s_te T L p := s_sp_lt (by omega) (by omega)
  refine xt_aload_n _ dX12_dayLine_18 rfl ?_
  refine xt_iconst (0) dX12_dayLine_19 (by decide) ?_
  refine xt_bipush (40) dX12_dayLine_20 (by decide) ?_
  refine xt_iload_n _ dX12_dayLine_22 rfl ?_
  obtain ⟨x, hx1, hx⟩ := hC.2.2.1 rfl
  have hx1 : x ≤ 40 := hx1
  refine xt_callV _ dX12_dayLine_23 klX12_142 (tX12_full sc _ μ w φ p 0 40 (s_sp T L p) x hF hsl.1 (by omega) (by decide) hx hx1 (by decide)) sh152 rfl rfl (Nat.le_of_ble_eq_true rfl) (fun r1 μ1 w1 q1 => ?_)
  obtain ⟨rfl, rfl, hF1, hj1, hf1⟩ := q1
  change x_T _ _ _ _ _ _ _ _ _
  have hxG : φ.1 = 0 → x = G 0 := fun z => (nI_eq (by omega) (by have := (show gd_W G from hW).1; omega)).mp (hx.symm.trans ((hC.1 z).1 0 (by decide)))
  have hφ1 : s_blm φ (decide (x = 40)) 3 (s_sp T L p) = (s_blm φ (s_fl 9 G) 3 (s_sp T L p)) := by
    by_cases hz : φ.1 = 0
    · rw [hxG hz, show s_fl 9 G = decide (G 0 = 40) from (decide_eq_decide.mpr (by have := (show gd_W G from hW).1; omega) : decide (40 ≤ G 0) = decide (G 0 = 40))]
    · rw [s_blm_n hz, s_blm_n hz]
  rw [hφ1] at hF1
  refine xt_aload_n _ dX12_dayLine_26 rfl ?_
  refine xt_callV _ dX12_dayLine_27 klX12_136 (tX12_token sc _ μ1 w1 T L (hK.1.cg (hj1 10 (by decide) (by decide)) (hf1 153 (by decide))) (s_te T L p) htl.2.2 (by rw [hj1 9 (by decide) (by decide)]; exact hK.2.2.2.2.1 (by omega))) sh152 rfl rfl (Nat.le_of_ble_eq_true rfl) (fun r2 ν0 ω0 q2 => ?_)
  obtain ⟨rfl, q2⟩ := q2
  change x_T _ _ _ _ _ _ _ _ _
  have hLb : m_L μ ν0 ω0 T L 9 (s_te T L p) (s_blm φ (s_fl 9 G) 3 (s_sp T L p)) 1 0 := ⟨m_K.next (hK.1.cg (hj1 10 (by decide) (by decide)) (hf1 153 (by decide))) htl.2.2 q2, hF1.cg (q2.2.2.2.2.2.1 16 (by decide) (by decide) (by decide) (by decide)) (q2.2.2.2.2.2.1 17 (by decide) (by decide) (by decide) (by decide)) (by show s_sp T L p + 1 ≤ s_te T L p; omega), by rw [q2.2.2.2.2.2.1 21 (by decide) (by decide) (by decide) (by decide), hj1 21 (by decide) (by decide), hg]; rfl, fun j h => absurd h (Nat.not_lt_zero j), fun j h => absurd h (Nat.not_lt_zero j), fun j _ => by rw [q2.2.2.2.2.2.2 162 (by decide), hf1 162 (by decide)], by rw [q2.2.2.2.2.2.2 161 (by decide), hf1 161 (by decide)], by rw [q2.2.2.2.2.2.1 20 (by decide) (by decide) (by decide) (by decide), hj1 20 (by decide) (by decide)], fun a h1 _ => by rw [q2.2.2.2.2.2.2 a h1, hf1 a h1]⟩
  refine xt_aload_n _ dX12_dayLine_30 rfl ?_
  refine xt_getr _ dX12_dayLine_31 kfX12_38 (by first | exact sh152 | exact sh161 | exact sh162 | rfl | assumption) rfl ?_
  refine xt_iconst (1) dX12_dayLine_34 (by decide) ?_
  refine xt_iconst (-1) dX12_dayLine_35 (by decide) ?_
  refine xt_ast dX12_dayLine_36 (by first | exact sh152 | exact sh161 | exact sh162 | rfl | assumption) (by unfold vp_in; decide) ?_
  refine xt_aload_n _ dX12_dayLine_37 rfl ?_
  refine xt_getr _ dX12_dayLine_38 kfX12_38 (by first | exact sh152 | exact sh161 | exact sh162 | rfl | assumption) rfl ?_
  refine xt_iconst (2) dX12_dayLine_41 (by decide) ?_
  refine xt_iconst (-1) dX12_dayLine_42 (by decide) ?_
  refine xt_ast dX12_dayLine_43 (by first | exact sh152 | exact sh161 | exact sh162 | rfl | assumption) (by unfold vp_in; decide) ?_
  refine xt_aload_n _ dX12_dayLine_44 rfl ?_
  refine xt_getr _ dX12_dayLine_45 kfX12_38 (by first | exact sh152 | exact sh161 | exact sh162 | rfl | assumption) rfl ?_
  refine xt_iconst (3) dX12_dayLine_48 (by decide) ?_
  refine xt_iconst (-1) dX12_dayLine_49 (by decide) ?_
  refine xt_ast dX12_dayLine_50 (by first | exact sh152 | exact sh161 | exact sh162 | rfl | assumption) (by unfold vp_in; decide) ?_
  have hL0 : m_L (x_u μ 162 (upd (upd (upd (μ 162) 1 (-1)) 2 (-1)) 3 (-1))) (x_u (x_u (x_u ν0 162 (upd (ν0 162) (1 : Int32).toNatClampNeg (-1))) 162 (upd (x_u ν0 162 (upd (ν0 162) (1 : Int32).toNatClampNeg (-1)) 162) (2 : Int32).toNatClampNeg (-1))) 162 (upd (x_u (x_u ν0 162 (upd (ν0 162) (1 : Int32).toNatClampNeg (-1))) 162 (upd (x_u ν0 162 (upd (ν0 162) (1 : Int32).toNatClampNeg (-1)) 162) (2 : Int32).toNatClampNeg (-1)) 162) (3 : Int32).toNatClampNeg (-1))) ω0 T L 9 (s_te T L p) (s_blm φ (s_fl 9 G) 3 (s_sp T L p)) 1 0 := by
    obtain ⟨z1, z2, z3, z4, z5, z6, z7, z8, z9⟩ := hLb
    refine ⟨z1.cg (fun j _ _ => rfl) rfl, z2.cg rfl rfl (Nat.le_refl _), z3, fun j h => absurd h (Nat.not_lt_zero j), fun j h => absurd h (Nat.not_lt_zero j), fun j hj => ?_, z7, z8, fun a h1 h2 => ?_⟩
    · rw [x_u_eq, x_u_eq, x_u_eq, x_u_eq, cl1, cl2, cl3]
      have e162 : ν0 162 j = μ 162 j := z6 j hj
      by_cases h3 : j = 3
      · rw [h3, pk_us, pk_us]
      · rw [pk_un h3, pk_un h3]
        by_cases h2 : j = 2
        · rw [h2, pk_us, pk_us]
        · rw [pk_un h2, pk_un h2]
          by_cases h1 : j = 1
          · rw [h1, pk_us, pk_us]
          · rw [pk_un h1, pk_un h1]; exact e162
    · rw [x_u_ne h2, x_u_ne h2, x_u_ne h2, x_u_ne h2]; exact z9 a h1 h2
  obtain ⟨νz, hνz⟩ : ∃ νz, (x_u (x_u (x_u ν0 162 (upd (ν0 162) (1 : Int32).toNatClampNeg (-1))) 162 (upd (x_u ν0 162 (upd (ν0 162) (1 : Int32).toNatClampNeg (-1)) 162) (2 : Int32).toNatClampNeg (-1))) 162 (upd (x_u (x_u ν0 162 (upd (ν0 162) (1 : Int32).toNatClampNeg (-1))) 162 (upd (x_u ν0 162 (upd (ν0 162) (1 : Int32).toNatClampNeg (-1)) 162) (2 : Int32).toNatClampNeg (-1)) 162) (3 : Int32).toNatClampNeg (-1))) = νz := ⟨_, rfl⟩
  change x_T _ _ _ _ _ _ (x_u (x_u (x_u ν0 162 (upd (ν0 162) (1 : Int32).toNatClampNeg (-1))) 162 (upd (x_u ν0 162 (upd (ν0 162) (1 : Int32).toNatClampNeg (-1)) 162) (2 : Int32).toNatClampNeg (-1))) 162 (upd (x_u (x_u ν0 162 (upd (ν0 162) (1 : Int32).toNatClampNeg (-1))) 162 (upd (x_u ν0 162 (upd (ν0 162) (1 : Int32).toNatClampNeg (-1)) 162) (2 : Int32).toNatClampNeg (-1)) 162) (3 : Int32).toNatClampNeg (-1))) _ _
  rw [hνz] at hL0 ⊢
  refine xt_iload _ dX12_dayLine_51 rfl ?_
  refine xt_iconst (3) dX12_dayLine_53 (by decide) ?_
  refine xt_icmp_ne 61 dX12_dayLine_54 (by decide) (fun _ => ?_) (fun q => absurd q (by decide))
  refine xt_iconst (0) dX12_dayLine_61 (by decide) ?_
  refine xt_istore dX12_dayLine_62 (by decide) rfl ?_
  change x_T _ _ _ _ [_, _, _, _, _, _, _, _] _ _ _ _
  refine xt_iload _ dX12_dayLine_64 rfl ?_
  refine xt_iconst (1) dX12_dayLine_66 (by decide) ?_
  refine xt_icmp_le 81 dX12_dayLine_67 (by decide) (fun q => absurd q (by decide)) (fun _ => ?_)
  refine xt_aload_n _ dX12_dayLine_70 rfl ?_
  refine xt_iconst (1) dX12_dayLine_71 (by decide) ?_
  refine xt_iconst (0) dX12_dayLine_72 (by decide) ?_
  refine xt_bipush (7) dX12_dayLine_73 (by decide) ?_
  refine xt_callV _ dX12_dayLine_75 klX12_139 (tX12_takeL sc _ _ hL0 (by decide) (by decide) (by decide)) sh152 rfl rfl (Nat.le_of_ble_eq_true rfl) (fun r5 ν1 ω1 q5 => ?_)
  obtain ⟨ya, yb⟩ := q5
  by_cases hk2 : s_kd T L (s_qs T L (s_te T L p) 0) = 2
  · obtain ⟨rfl, hL1⟩ := ya hk2
    change x_T _ _ _ _ _ (.int 1 :: _) _ _ _
    refine xt_if_eq 127 dX12_dayLine_78 (by decide) (fun q => absurd q (by decide)) (fun _ => ?_)
    refine xt_iload _ dX12_dayLine_81 rfl ?_
    refine xt_iconst (2) dX12_dayLine_83 (by decide) ?_
    refine xt_icmp_le 129 dX12_dayLine_84 (by decide) (fun _ => ?_) (fun q => absurd (by decide) q)
    refine xt_aload_n _ dX12_dayLine_129 rfl ?_
    refine xt_getr _ dX12_dayLine_130 kfX12_38 (by first | exact sh152 | exact sh161 | exact sh162 | rfl | assumption) rfl ?_
    refine xt_iconst (0) dX12_dayLine_133 (by decide) ?_
    refine xt_iload _ dX12_dayLine_134 rfl ?_
    refine xt_ast dX12_dayLine_136 (by first | exact sh152 | exact sh161 | exact sh162 | rfl | assumption) (by unfold vp_in; decide) ?_
    refine xt_aload_n _ dX12_dayLine_137 rfl ?_
    refine xt_getr _ dX12_dayLine_138 kfX12_35 (by first | exact sh152 | exact sh161 | exact sh162 | rfl | assumption) rfl ?_
    refine xt_iconst (0) dX12_dayLine_141 (by decide) ?_
    refine xt_ald dX12_dayLine_142 (by first | exact sh152 | exact sh161 | exact sh162 | rfl | assumption) (by unfold vp_in; decide) ?_
    obtain ⟨z1, z2, z3, z4, z5, z6, z7, z8, z9⟩ := hL1
    have hbn : s_bn T L (s_te T L p) 1 = 0 := m_L.bn ⟨z1, z2, z3, z4, z5, z6, z7, z8, z9⟩
    have e161 : (x_u ν1 162 (upd (ν1 162) (0 : Int32).toNatClampNeg 2)) 161 = μ 161 := by rw [x_u_ne (by decide), z7, x_u_ne (by decide)]
    rw [show (x_u ν1 162 (upd (ν1 162) (0 : Int32).toNatClampNeg 2)) 161 (0 : Int32).toNatClampNeg = nI x from (by rw [e161]; exact hx)]
    obtain ⟨νr, hνr⟩ : ∃ νr, (x_u ν1 162 (upd (ν1 162) (0 : Int32).toNatClampNeg 2)) = νr := ⟨_, rfl⟩
    rw [hνr]
    rw [hνr] at e161
    have hrd : ∀ j, j < 4 → νr 162 j = eI (s_dxl 9 (s_nv T L (s_te T L p)) j) := fun j hj => by
      obtain ⟨y0, y⟩ := s_dxl_e 9 (s_nv T L (s_te T L p))
      rw [← hνr, x_u_eq, cl0]
      by_cases h0 : j = 0
      · rw [h0, pk_us, y0]; rfl
      · rw [pk_un h0]
        obtain ⟨i, rfl⟩ : ∃ i, j = 1 + i := ⟨j - 1, by omega⟩
        rw [y i (by omega)]
        by_cases hi : i < 1
        · rw [if_pos (show i < s_gv 9 from hi)]; exact z5 i hi
        · rw [if_neg (show ¬ i < s_gv 9 from hi), z6 (1 + i) (by omega), x_u_eq]
          have h3 : i = 0 ∨ i = 1 ∨ i = 2 := by omega
          rcases h3 with rfl | rfl | rfl <;> rfl
    have e152 : νr 152 = ν1 152 := by rw [← hνr]; exact x_u_ne (by decide)
    have e153 : νr 153 = ν1 153 := by rw [← hνr]; exact x_u_ne (by decide)
    have ene : ∀ a, a ≠ 152 → a ≠ 162 → νr a = μ a := fun a h1 h2 => by rw [← hνr, x_u_ne h2, z9 a h1 h2, x_u_ne h2]
    by_cases hlt4 : x < 40
    · skip
      refine xt_istore dX12_dayLine_143 (by decide) rfl ?_
      change x_T _ _ _ _ [_, _, _, _, _, _, _, _] _ _ _ _
      refine xt_iconst (0) dX12_dayLine_145 (by decide) ?_
      refine xt_istore dX12_dayLine_146 (by decide) rfl ?_
      change x_T _ _ _ _ [_, _, _, _, _, _, _, _] _ _ _ _
      have L148 : ∀ (n148 m : Nat) (μ2 : x_Me) (h161 : μ2 161 = s_wm (νr 161) 1 1 (4 * x) (νr 162) m) (hfm : ∀ a, a ≠ 161 → μ2 a = νr a), m + n148 = 4 → x_T sc (d + 3) mX12_dayLine 148 [.ref 152, .long v, .retAddr 0, .int (nI (s_sp T L p)), .int 2, .int 0, .int (nI x), .int (nI m)] [] μ2 ω1 (fun r μ' w' => (s_bn T L (s_te T L p) 1 = 0 → r = some (.int 1) ∧ m_K μ' w' T L (s_qs T L (s_te T L p) 1) ∧ m_F μ' (s_nf T L 9 (s_te T L p) (s_blm φ (s_fl 9 G) 3 (s_sp T L p)) 1) (s_qs T L (s_te T L p) 1) ∧ m_C μ' 1 (s_nf T L 9 (s_te T L p) (s_blm φ (s_fl 9 G) 3 (s_sp T L p)) 1) (if (s_nf T L 9 (s_te T L p) (s_blm φ (s_fl 9 G) 3 (s_sp T L p)) 1).1 = 0 then s_kp 9 (s_nv T L (s_te T L p)) G else G) (if (s_nf T L 9 (s_te T L p) (s_blm φ (s_fl 9 G) 3 (s_sp T L p)) 1).1 = 0 then s_mxl 9 (s_nv T L (s_te T L p)) mx else mx)) ∧ (s_bn T L (s_te T L p) 1 ≠ 0 → r = some (.int 0) ∧ μ' 152 15 = nI (s_sp T L (s_qs T L (s_te T L p) (s_bn T L (s_te T L p) 1 - 1)))) ∧ ∀ a, a ≠ 152 → a ≠ 161 → a ≠ 162 → μ' a = μ a) := by
        intro n148
        induction n148 with
        | zero =>
          intro m μ2 h161 hfm hmn
          obtain rfl : 4 = m := by omega
          refine xt_iload _ dX12_dayLine_148 rfl ?_
          refine xt_iconst (4) dX12_dayLine_150 (by decide) ?_
          refine xt_icmp_ge 188 dX12_dayLine_151 (by decide) (fun _ => ?_) (fun q => absurd (by decide) q)
          refine xt_aload_n _ dX12_dayLine_188 rfl ?_
          refine xt_getr _ dX12_dayLine_189 kfX12_35 (by first | exact sh152 | exact sh161 | exact sh162 | rfl | assumption) rfl ?_
          refine xt_iconst (0) dX12_dayLine_192 (by decide) ?_
          refine xt_bipush (40) dX12_dayLine_193 (by decide) ?_
          refine xt_iload _ dX12_dayLine_195 rfl ?_
          refine xt_iconst (1) dX12_dayLine_197 (by decide) ?_
          refine xt_iadd dX12_dayLine_198 ?_
          refine xt_cS _ dX12_dayLine_199 klX12_209 (tX12_lesser sc _ _ _ _ _) rfl rfl (Nat.le_of_ble_eq_true rfl) ?_
          rw [s_le40 hlt4]
          refine xt_ast dX12_dayLine_202 (by first | exact sh152 | exact sh161 | exact sh162 | rfl | assumption) (by unfold vp_in; decide) ?_
          refine xt_iconst (1) dX12_dayLine_203 (by decide) ?_
          refine xt_iret .boolean dX12_dayLine_204 rfl (by rfl) ?_
          refine ⟨fun _ => ⟨rfl, z1.cg (fun j _ _ => by rw [x_u_ne (by decide), hfm 152 (by decide), e152]) (by rw [x_u_ne (by decide), hfm 153 (by decide), e153]), z2.cg (by rw [x_u_ne (by decide), hfm 152 (by decide), e152]) (by rw [x_u_ne (by decide), hfm 152 (by decide), e152]) (Nat.le_refl _), ?_, ?_⟩, fun h => absurd hbn h, fun a h1 h2 h3 => by rw [x_u_ne h2, hfm a h2]; exact ene a h1 h3⟩
          · intro hz
            rw [if_pos hz, if_pos hz]
            obtain ⟨hz1, _⟩ := s_nf_0 hz
            obtain ⟨hz0, hfl⟩ := s_blm_0 (by decide) hz1
            have hxe := hxG hz0
            obtain ⟨k0, ka, kn⟩ := s_kp_d_at (k := 9) (by decide) (by decide) (s_nv T L (s_te T L p)) G
            refine ⟨fun i hi => ?_, by rw [x_u_ne (by decide), hfm 152 (by decide), e152, z8]; exact (hC.1 hz0).2⟩
            rw [x_u_eq, cl0, h161, e161]
            by_cases h0 : i = 0
            · rw [h0, pk_us, k0, hxe]; rfl
            · rw [pk_un h0]
              rw [show s_tv 1 i _ = eI _ from if_pos ⟨rfl, h0⟩]
              by_cases hin : 1 + 4 * x ≤ i ∧ i < 5 + 4 * x
              · obtain ⟨j, rfl⟩ : ∃ j, i = 1 + 1 * j + 4 * x := ⟨i - (1 + 4 * x), by omega⟩
                rw [s_wm_at (by decide) (by omega), hrd j (by omega), show 1 + 1 * j + 4 * x = 1 + 4 * G 0 + j by omega, ka j (by omega)]
              · rw [s_wm_no (fun j hj => by omega), kn i h0 (by omega), (hC.1 hz0).1 i hi]
                exact if_pos ⟨rfl, h0⟩
          · refine ⟨fun h => absurd h (by decide), fun _ => ⟨x + 1, by omega, ?_⟩, fun h => absurd h (by decide)⟩
            rw [x_u_eq, cl0, pk_us]
        | succ n148 ih148 =>
          intro m μ2 h161 hfm hmn
          have hlt : m < 4 := by omega
          have hix : (1 : Int32) + 4 * nI x + nI m = nI (1 + 4 * x + m) := by rw [show (1 : Int32) = nI 1 from rfl, show (4 : Int32) = nI 4 from rfl, pk_mul, nI_add, nI_add]
          refine xt_iload _ dX12_dayLine_148 rfl ?_
          refine xt_iconst (4) dX12_dayLine_150 (by decide) ?_
          refine xt_icmp_ge 188 dX12_dayLine_151 (by decide) (fun q => absurd q (nI_ge (b := 4) hlt (by decide))) (fun _ => ?_)
          refine xt_iload _ dX12_dayLine_154 rfl ?_
          refine xt_bipush (40) dX12_dayLine_156 (by decide) ?_
          refine xt_icmp_ge 188 dX12_dayLine_158 (by decide) (fun q => absurd q (nI_ge hlt4 (by decide))) (fun _ => ?_)
          refine xt_aload_n _ dX12_dayLine_161 rfl ?_
          refine xt_getr _ dX12_dayLine_162 kfX12_35 (by first | exact sh152 | exact sh161 | exact sh162 | rfl | assumption) rfl ?_
          refine xt_iconst (1) dX12_dayLine_165 (by decide) ?_
          refine xt_iconst (4) dX12_dayLine_166 (by decide) ?_
          refine xt_iload _ dX12_dayLine_167 rfl ?_
          refine xt_imul dX12_dayLine_169 ?_
          refine xt_iadd dX12_dayLine_170 ?_
          refine xt_iload _ dX12_dayLine_171 rfl ?_
          refine xt_iadd dX12_dayLine_173 ?_
          refine xt_aload_n _ dX12_dayLine_174 rfl ?_
          refine xt_getr _ dX12_dayLine_175 kfX12_38 (by first | exact sh152 | exact sh161 | exact sh162 | rfl | assumption) rfl ?_
          refine xt_iload _ dX12_dayLine_178 rfl ?_
          refine xt_ald dX12_dayLine_180 (by first | exact sh152 | exact sh161 | exact sh162 | rfl | assumption) (by exact vp_in_nI (by omega) (by decide)) ?_
          refine xt_ast dX12_dayLine_181 (by first | exact sh152 | exact sh161 | exact sh162 | rfl | assumption) (by rw [hix]; exact vp_in_nI (by omega) (by decide)) ?_
          refine xt_inc _ (1) dX12_dayLine_182 rfl (by decide) (by decide) rfl ?_
          change x_T _ _ _ _ [_, _, _, _, _, _, _, _] _ _ _ _
          refine xt_goto 148 dX12_dayLine_185 (by decide) ?_
          refine x_T.ls (by rw [nI_succ m]) (ih148 (m + 1) _ ?_ (fun a h => by rw [x_u_ne h]; exact hfm a h) (by omega))
          rw [x_u_eq, hix, nI_clamp (by omega), nI_clamp (by omega), h161, hfm 162 (by decide), s_wm, show 1 + 1 * m + 4 * x = 1 + 4 * x + m by omega]
      exact L148 4 0 νr rfl (fun _ _ => rfl) (by omega)
    · skip
      refine xt_istore dX12_dayLine_143 (by decide) rfl ?_
      change x_T _ _ _ _ [_, _, _, _, _, _, _, _] _ _ _ _
      refine xt_iconst (0) dX12_dayLine_145 (by decide) ?_
      refine xt_istore dX12_dayLine_146 (by decide) rfl ?_
      change x_T _ _ _ _ [_, _, _, _, _, _, _, _] _ _ _ _
      refine xt_iload _ dX12_dayLine_148 rfl ?_
      refine xt_iconst (4) dX12_dayLine_150 (by decide) ?_
      refine xt_icmp_ge 188 dX12_dayLine_151 (by decide) (fun q => absurd q (by decide)) (fun _ => ?_)
      refine xt_iload _ dX12_dayLine_154 rfl ?_
      refine xt_bipush (40) dX12_dayLine_156 (by decide) ?_
      refine xt_icmp_ge 188 dX12_dayLine_158 (by decide) (fun _ => ?_) (fun q => absurd (by rw [show x = 40 by omega]; decide) q)
      refine xt_aload_n _ dX12_dayLine_188 rfl ?_
      refine xt_getr _ dX12_dayLine_189 kfX12_35 (by first | exact sh152 | exact sh161 | exact sh162 | rfl | assumption) rfl ?_
      refine xt_iconst (0) dX12_dayLine_192 (by decide) ?_
      refine xt_bipush (40) dX12_dayLine_193 (by decide) ?_
      refine xt_iload _ dX12_dayLine_195 rfl ?_
      refine xt_iconst (1) dX12_dayLine_197 (by decide) ?_
      refine xt_iadd dX12_dayLine_198 ?_
      refine xt_cS _ dX12_dayLine_199 klX12_209 (tX12_lesser sc _ _ _ _ _) rfl rfl (Nat.le_of_ble_eq_true rfl) ?_
      rw [s_le40b (show x = 40 by omega)]
      refine xt_ast dX12_dayLine_202 (by first | exact sh152 | exact sh161 | exact sh162 | rfl | assumption) (by unfold vp_in; decide) ?_
      refine xt_iconst (1) dX12_dayLine_203 (by decide) ?_
      refine xt_iret .boolean dX12_dayLine_204 rfl (by rfl) ?_
      refine ⟨fun _ => ⟨rfl, z1.cg (fun j _ _ => by rw [x_u_ne (by decide), e152]) (by rw [x_u_ne (by decide), e153]), z2.cg (by rw [x_u_ne (by decide), e152]) (by rw [x_u_ne (by decide), e152]) (Nat.le_refl _), ?_, ?_⟩, fun h => absurd hbn h, fun a h1 h2 h3 => by rw [x_u_ne h2]; exact ene a h1 h3⟩
      · intro hz
        exfalso
        obtain ⟨hz1, _⟩ := s_nf_0 hz
        obtain ⟨hz0, hfl⟩ := s_blm_0 (by decide) hz1
        have hxe := hxG hz0
        have h5 : decide (40 ≤ G 0) = false := hfl
        have := of_decide_eq_false h5
        omega
      · refine ⟨fun h => absurd h (by decide), fun _ => ⟨40, Nat.le_refl _, ?_⟩, fun h => absurd h (by decide)⟩
        rw [x_u_eq, cl0, pk_us]; rfl
  · obtain ⟨rfl, hBad⟩ := yb hk2
    change x_T _ _ _ _ _ (.int 0 :: _) _ _ _
    refine xt_if_eq 127 dX12_dayLine_78 (by decide) (fun _ => ?_) (fun q => absurd (by decide) q)
    refine xt_iconst (0) dX12_dayLine_127 (by decide) ?_
    refine xt_iret .boolean dX12_dayLine_128 rfl (by rfl) ?_
    refine ⟨fun h => absurd h (by rw [hBad.bn (g := 1) (by decide)]; exact Nat.succ_ne_zero _), fun _ => ⟨rfl, by rw [hBad.bn (g := 1) (by decide)]; exact hBad.1⟩, fun a h1 _ h3 => by rw [hBad.2.2.2 a h1 h3, x_u_ne h3]⟩
set_option maxHeartbeats 8000000 in
theorem tX12_line10 (T : Nat → Nat) (L p : Nat) (φ : Nat × Nat) (G : Nat → Nat) (mx : Nat) (hK : m_K μ w T L p) (hk1 : s_kd T L p = 1) (hF : m_F μ φ p) (hg : μ 152 21 = 1) (hC : m_C μ 1 φ G mx) (hW : g_W 1 G) (v : Int64) : x_T sc (d + 3) mX12_dayLine 18 [.ref 152, .long v, .retAddr 0, .int (nI (s_sp T L p)), .int 3, .retAddr 0, .retAddr 0, .retAddr 0] [] μ w (fun r μ' w' => (s_bn T L (s_te T L p) 3 = 0 → r = some (.int 1) ∧ m_K μ' w' T L (s_qs T L (s_te T L p) 3) ∧ m_F μ' (s_nf T L 10 (s_te T L p) (s_blm φ (s_fl 10 G) 3 (s_sp T L p)) 3) (s_qs T L (s_te T L p) 3) ∧ m_C μ' 1 (s_nf T L 10 (s_te T L p) (s_blm φ (s_fl 10 G) 3 (s_sp T L p)) 3) (if (s_nf T L 10 (s_te T L p) (s_blm φ (s_fl 10 G) 3 (s_sp T L p)) 3).1 = 0 then s_kp 10 (s_nv T L (s_te T L p)) G else G) (if (s_nf T L 10 (s_te T L p) (s_blm φ (s_fl 10 G) 3 (s_sp T L p)) 3).1 = 0 then s_mxl 10 (s_nv T L (s_te T L p)) mx else mx)) ∧ (s_bn T L (s_te T L p) 3 ≠ 0 → r = some (.int 0) ∧ μ' 152 15 = nI (s_sp T L (s_qs T L (s_te T L p) (s_bn T L (s_te T L p) 3 - 1)))) ∧ ∀ a, a ≠ 152 → a ≠ 161 → a ≠ 162 → μ' a = μ a) := by
  have hL := hK.1.2.1
  have htl := s_te_le hK.1.2.2.2 hK.2.1
  have hsl := s_sp_le hK.1.2.2.2 hK.2.1
  have hlt : s_sp T L p < s_te T L p := s_sp_lt (by omega) (by omega)
  refine xt_aload_n _ dX12_dayLine_18 rfl ?_
  refine xt_iconst (0) dX12_dayLine_19 (by decide) ?_
  refine xt_bipush (40) dX12_dayLine_20 (by decide) ?_
  refine xt_iload_n _ dX12_dayLine_22 rfl ?_
  obtain ⟨x, hx1, hx⟩ := hC.2.2.1 rfl
  have hx1 : x ≤ 40 := hx1
  refine xt_callV _ dX12_dayLine_23 klX12_142 (tX12_full sc _ μ w φ p 0 40 (s_sp T L p) x hF hsl.1 (by omega) (by decide) hx hx1 (by decide)) sh152 rfl rfl (Nat.le_of_ble_eq_true rfl) (fun r1 μ1 w1 q1 => ?_)
  obtain ⟨rfl, rfl, hF1, hj1, hf1⟩ := q1
  change x_T _ _ _ _ _ _ _ _ _
  have hxG : φ.1 = 0 → x = G 0 := fun z => (nI_eq (by omega) (by have := (show gd_W G from hW).1; omega)).mp (hx.symm.trans ((hC.1 z).1 0 (by decide)))
  have hφ1 : s_blm φ (decide (x = 40)) 3 (s_sp T L p) = (s_blm φ (s_fl 10 G) 3 (s_sp T L p)) := by
    by_cases hz : φ.1 = 0
    · rw [hxG hz, show s_fl 10 G = decide (G 0 = 40) from (decide_eq_decide.mpr (by have := (show gd_W G from hW).1; omega) : decide (40 ≤ G 0) = decide (G 0 = 40))]
    · rw [s_blm_n hz, s_blm_n hz]
  rw [hφ1] at hF1
  refine xt_aload_n _ dX12_dayLine_26 rfl ?_
  refine xt_callV _ dX12_dayLine_27 klX12_136 (tX12_token sc _ μ1 w1 T L (hK.1.cg (hj1 10 (by decide) (by decide)) (hf1 153 (by decide))) (s_te T L p) htl.2.2 (by rw [hj1 9 (by decide) (by decide)]; exact hK.2.2.2.2.1 (by omega))) sh152 rfl rfl (Nat.le_of_ble_eq_true rfl) (fun r2 ν0 ω0 q2 => ?_)
  obtain ⟨rfl, q2⟩ := q2
  change x_T _ _ _ _ _ _ _ _ _
  have hLb : m_L μ ν0 ω0 T L 10 (s_te T L p) (s_blm φ (s_fl 10 G) 3 (s_sp T L p)) 1 0 := ⟨m_K.next (hK.1.cg (hj1 10 (by decide) (by decide)) (hf1 153 (by decide))) htl.2.2 q2, hF1.cg (q2.2.2.2.2.2.1 16 (by decide) (by decide) (by decide) (by decide)) (q2.2.2.2.2.2.1 17 (by decide) (by decide) (by decide) (by decide)) (by show s_sp T L p + 1 ≤ s_te T L p; omega), by rw [q2.2.2.2.2.2.1 21 (by decide) (by decide) (by decide) (by decide), hj1 21 (by decide) (by decide), hg]; rfl, fun j h => absurd h (Nat.not_lt_zero j), fun j h => absurd h (Nat.not_lt_zero j), fun j _ => by rw [q2.2.2.2.2.2.2 162 (by decide), hf1 162 (by decide)], by rw [q2.2.2.2.2.2.2 161 (by decide), hf1 161 (by decide)], by rw [q2.2.2.2.2.2.1 20 (by decide) (by decide) (by decide) (by decide), hj1 20 (by decide) (by decide)], fun a h1 _ => by rw [q2.2.2.2.2.2.2 a h1, hf1 a h1]⟩
  refine xt_aload_n _ dX12_dayLine_30 rfl ?_
  refine xt_getr _ dX12_dayLine_31 kfX12_38 (by first | exact sh152 | exact sh161 | exact sh162 | rfl | assumption) rfl ?_
  refine xt_iconst (1) dX12_dayLine_34 (by decide) ?_
  refine xt_iconst (-1) dX12_dayLine_35 (by decide) ?_
  refine xt_ast dX12_dayLine_36 (by first | exact sh152 | exact sh161 | exact sh162 | rfl | assumption) (by unfold vp_in; decide) ?_
  refine xt_aload_n _ dX12_dayLine_37 rfl ?_
  refine xt_getr _ dX12_dayLine_38 kfX12_38 (by first | exact sh152 | exact sh161 | exact sh162 | rfl | assumption) rfl ?_
  refine xt_iconst (2) dX12_dayLine_41 (by decide) ?_
  refine xt_iconst (-1) dX12_dayLine_42 (by decide) ?_
  refine xt_ast dX12_dayLine_43 (by first | exact sh152 | exact sh161 | exact sh162 | rfl | assumption) (by unfold vp_in; decide) ?_
  refine xt_aload_n _ dX12_dayLine_44 rfl ?_
  refine xt_getr _ dX12_dayLine_45 kfX12_38 (by first | exact sh152 | exact sh161 | exact sh162 | rfl | assumption) rfl ?_
  refine xt_iconst (3) dX12_dayLine_48 (by decide) ?_
  refine xt_iconst (-1) dX12_dayLine_49 (by decide) ?_
  refine xt_ast dX12_dayLine_50 (by first | exact sh152 | exact sh161 | exact sh162 | rfl | assumption) (by unfold vp_in; decide) ?_
  have hL0 : m_L (x_u μ 162 (upd (upd (upd (μ 162) 1 (-1)) 2 (-1)) 3 (-1))) (x_u (x_u (x_u ν0 162 (upd (ν0 162) (1 : Int32).toNatClampNeg (-1))) 162 (upd (x_u ν0 162 (upd (ν0 162) (1 : Int32).toNatClampNeg (-1)) 162) (2 : Int32).toNatClampNeg (-1))) 162 (upd (x_u (x_u ν0 162 (upd (ν0 162) (1 : Int32).toNatClampNeg (-1))) 162 (upd (x_u ν0 162 (upd (ν0 162) (1 : Int32).toNatClampNeg (-1)) 162) (2 : Int32).toNatClampNeg (-1)) 162) (3 : Int32).toNatClampNeg (-1))) ω0 T L 10 (s_te T L p) (s_blm φ (s_fl 10 G) 3 (s_sp T L p)) 1 0 := by
    obtain ⟨z1, z2, z3, z4, z5, z6, z7, z8, z9⟩ := hLb
    refine ⟨z1.cg (fun j _ _ => rfl) rfl, z2.cg rfl rfl (Nat.le_refl _), z3, fun j h => absurd h (Nat.not_lt_zero j), fun j h => absurd h (Nat.not_lt_zero j), fun j hj => ?_, z7, z8, fun a h1 h2 => ?_⟩
    · rw [x_u_eq, x_u_eq, x_u_eq, x_u_eq, cl1, cl2, cl3]
      have e162 : ν0 162 j = μ 162 j := z6 j hj
      by_cases h3 : j = 3
      · rw [h3, pk_us, pk_us]
      · rw [pk_un h3, pk_un h3]
        by_cases h2 : j = 2
        · rw [h2, pk_us, pk_us]
        · rw [pk_un h2, pk_un h2]
          by_cases h1 : j = 1
          · rw [h1, pk_us, pk_us]
          · rw [pk_un h1, pk_un h1]; exact e162
    · rw [x_u_ne h2, x_u_ne h2, x_u_ne h2, x_u_ne h2]; exact z9 a h1 h2
  obtain ⟨νz, hνz⟩ : ∃ νz, (x_u (x_u (x_u ν0 162 (upd (ν0 162) (1 : Int32).toNatClampNeg (-1))) 162 (upd (x_u ν0 162 (upd (ν0 162) (1 : Int32).toNatClampNeg (-1)) 162) (2 : Int32).toNatClampNeg (-1))) 162 (upd (x_u (x_u ν0 162 (upd (ν0 162) (1 : Int32).toNatClampNeg (-1))) 162 (upd (x_u ν0 162 (upd (ν0 162) (1 : Int32).toNatClampNeg (-1)) 162) (2 : Int32).toNatClampNeg (-1)) 162) (3 : Int32).toNatClampNeg (-1))) = νz := ⟨_, rfl⟩
  change x_T _ _ _ _ _ _ (x_u (x_u (x_u ν0 162 (upd (ν0 162) (1 : Int32).toNatClampNeg (-1))) 162 (upd (x_u ν0 162 (upd (ν0 162) (1 : Int32).toNatClampNeg (-1)) 162) (2 : Int32).toNatClampNeg (-1))) 162 (upd (x_u (x_u ν0 162 (upd (ν0 162) (1 : Int32).toNatClampNeg (-1))) 162 (upd (x_u ν0 162 (upd (ν0 162) (1 : Int32).toNatClampNeg (-1)) 162) (2 : Int32).toNatClampNeg (-1)) 162) (3 : Int32).toNatClampNeg (-1))) _ _
  rw [hνz] at hL0 ⊢
  refine xt_iload _ dX12_dayLine_51 rfl ?_
  refine xt_iconst (3) dX12_dayLine_53 (by decide) ?_
  refine xt_icmp_ne 61 dX12_dayLine_54 (by decide) (fun q => absurd (by decide) q) (fun _ => ?_)
  refine xt_iconst (1) dX12_dayLine_57 (by decide) ?_
  refine xt_goto 62 dX12_dayLine_58 (by decide) ?_
  refine xt_istore dX12_dayLine_62 (by decide) rfl ?_
  change x_T _ _ _ _ [_, _, _, _, _, _, _, _] _ _ _ _
  refine xt_iload _ dX12_dayLine_64 rfl ?_
  refine xt_iconst (1) dX12_dayLine_66 (by decide) ?_
  refine xt_icmp_le 81 dX12_dayLine_67 (by decide) (fun q => absurd q (by decide)) (fun _ => ?_)
  refine xt_aload_n _ dX12_dayLine_70 rfl ?_
  refine xt_iconst (1) dX12_dayLine_71 (by decide) ?_
  refine xt_iconst (0) dX12_dayLine_72 (by decide) ?_
  refine xt_bipush (7) dX12_dayLine_73 (by decide) ?_
  refine xt_callV _ dX12_dayLine_75 klX12_139 (tX12_takeL sc _ _ hL0 (by decide) (by decide) (by decide)) sh152 rfl rfl (Nat.le_of_ble_eq_true rfl) (fun r5 ν1 ω1 q5 => ?_)
  obtain ⟨ya, yb⟩ := q5
  by_cases hk2 : s_kd T L (s_qs T L (s_te T L p) 0) = 2
  · obtain ⟨rfl, hL1⟩ := ya hk2
    change x_T _ _ _ _ _ (.int 1 :: _) _ _ _
    refine xt_if_eq 127 dX12_dayLine_78 (by decide) (fun q => absurd q (by decide)) (fun _ => ?_)
    refine xt_iload _ dX12_dayLine_81 rfl ?_
    refine xt_iconst (2) dX12_dayLine_83 (by decide) ?_
    refine xt_icmp_le 129 dX12_dayLine_84 (by decide) (fun q => absurd q (by decide)) (fun _ => ?_)
    refine xt_aload_n _ dX12_dayLine_87 rfl ?_
    refine xt_iconst (2) dX12_dayLine_88 (by decide) ?_
    refine xt_iconst (0) dX12_dayLine_89 (by decide) ?_
    refine xt_iload _ dX12_dayLine_90 rfl ?_
    refine xt_if_eq 100 dX12_dayLine_92 (by decide) (fun q => absurd q (by decide)) (fun _ => ?_)
    refine xt_bipush (9) dX12_dayLine_95 (by decide) ?_
    refine xt_goto 101 dX12_dayLine_97 (by decide) ?_
    refine xt_callV _ dX12_dayLine_101 klX12_139 (tX12_takeL sc _ _ hL1 (by decide) (by decide) (by decide)) sh152 rfl rfl (Nat.le_of_ble_eq_true rfl) (fun r5 ν2 ω2 q5 => ?_)
    obtain ⟨ya, yb⟩ := q5
    by_cases hk2 : s_kd T L (s_qs T L (s_te T L p) 1) = 2
    · obtain ⟨rfl, hL2⟩ := ya hk2
      change x_T _ _ _ _ _ (.int 1 :: _) _ _ _
      refine xt_if_eq 127 dX12_dayLine_104 (by decide) (fun q => absurd q (by decide)) (fun _ => ?_)
      refine xt_aload_n _ dX12_dayLine_107 rfl ?_
      refine xt_iconst (3) dX12_dayLine_108 (by decide) ?_
      refine xt_iload _ dX12_dayLine_109 rfl ?_
      refine xt_if_eq 118 dX12_dayLine_111 (by decide) (fun q => absurd q (by decide)) (fun _ => ?_)
      refine xt_iconst (0) dX12_dayLine_114 (by decide) ?_
      refine xt_goto 119 dX12_dayLine_115 (by decide) ?_
      refine xt_bipush (9) dX12_dayLine_119 (by decide) ?_
      refine xt_callV _ dX12_dayLine_121 klX12_139 (tX12_takeL sc _ _ hL2 (by decide) (by decide) (by decide)) sh152 rfl rfl (Nat.le_of_ble_eq_true rfl) (fun r5 ν3 ω3 q5 => ?_)
      obtain ⟨ya, yb⟩ := q5
      by_cases hk2 : s_kd T L (s_qs T L (s_te T L p) 2) = 2
      · obtain ⟨rfl, hL3⟩ := ya hk2
        change x_T _ _ _ _ _ (.int 1 :: _) _ _ _
        refine xt_if_ne 129 dX12_dayLine_124 (by decide) (fun _ => ?_) (fun q => absurd q (by decide))
        refine xt_aload_n _ dX12_dayLine_129 rfl ?_
        refine xt_getr _ dX12_dayLine_130 kfX12_38 (by first | exact sh152 | exact sh161 | exact sh162 | rfl | assumption) rfl ?_
        refine xt_iconst (0) dX12_dayLine_133 (by decide) ?_
        refine xt_iload _ dX12_dayLine_134 rfl ?_
        refine xt_ast dX12_dayLine_136 (by first | exact sh152 | exact sh161 | exact sh162 | rfl | assumption) (by unfold vp_in; decide) ?_
        refine xt_aload_n _ dX12_dayLine_137 rfl ?_
        refine xt_getr _ dX12_dayLine_138 kfX12_35 (by first | exact sh152 | exact sh161 | exact sh162 | rfl | assumption) rfl ?_
        refine xt_iconst (0) dX12_dayLine_141 (by decide) ?_
        refine xt_ald dX12_dayLine_142 (by first | exact sh152 | exact sh161 | exact sh162 | rfl | assumption) (by unfold vp_in; decide) ?_
        obtain ⟨z1, z2, z3, z4, z5, z6, z7, z8, z9⟩ := hL3
        have hbn : s_bn T L (s_te T L p) 3 = 0 := m_L.bn ⟨z1, z2, z3, z4, z5, z6, z7, z8, z9⟩
        have e161 : (x_u ν3 162 (upd (ν3 162) (0 : Int32).toNatClampNeg 3)) 161 = μ 161 := by rw [x_u_ne (by decide), z7, x_u_ne (by decide)]
        rw [show (x_u ν3 162 (upd (ν3 162) (0 : Int32).toNatClampNeg 3)) 161 (0 : Int32).toNatClampNeg = nI x from (by rw [e161]; exact hx)]
        obtain ⟨νr, hνr⟩ : ∃ νr, (x_u ν3 162 (upd (ν3 162) (0 : Int32).toNatClampNeg 3)) = νr := ⟨_, rfl⟩
        rw [hνr]
        rw [hνr] at e161
        have hrd : ∀ j, j < 4 → νr 162 j = eI (s_dxl 10 (s_nv T L (s_te T L p)) j) := fun j hj => by
          obtain ⟨y0, y⟩ := s_dxl_e 10 (s_nv T L (s_te T L p))
          rw [← hνr, x_u_eq, cl0]
          by_cases h0 : j = 0
          · rw [h0, pk_us, y0]; rfl
          · rw [pk_un h0]
            obtain ⟨i, rfl⟩ : ∃ i, j = 1 + i := ⟨j - 1, by omega⟩
            rw [y i (by omega)]
            by_cases hi : i < 3
            · rw [if_pos (show i < s_gv 10 from hi)]; exact z5 i hi
            · rw [if_neg (show ¬ i < s_gv 10 from hi), z6 (1 + i) (by omega), x_u_eq]
              have h3 : i = 0 ∨ i = 1 ∨ i = 2 := by omega
              rcases h3 with rfl | rfl | rfl <;> rfl
        have e152 : νr 152 = ν3 152 := by rw [← hνr]; exact x_u_ne (by decide)
        have e153 : νr 153 = ν3 153 := by rw [← hνr]; exact x_u_ne (by decide)
        have ene : ∀ a, a ≠ 152 → a ≠ 162 → νr a = μ a := fun a h1 h2 => by rw [← hνr, x_u_ne h2, z9 a h1 h2, x_u_ne h2]
        by_cases hlt4 : x < 40
        · skip
          refine xt_istore dX12_dayLine_143 (by decide) rfl ?_
          change x_T _ _ _ _ [_, _, _, _, _, _, _, _] _ _ _ _
          refine xt_iconst (0) dX12_dayLine_145 (by decide) ?_
          refine xt_istore dX12_dayLine_146 (by decide) rfl ?_
          change x_T _ _ _ _ [_, _, _, _, _, _, _, _] _ _ _ _
          have L148 : ∀ (n148 m : Nat) (μ2 : x_Me) (h161 : μ2 161 = s_wm (νr 161) 1 1 (4 * x) (νr 162) m) (hfm : ∀ a, a ≠ 161 → μ2 a = νr a), m + n148 = 4 → x_T sc (d + 3) mX12_dayLine 148 [.ref 152, .long v, .retAddr 0, .int (nI (s_sp T L p)), .int 3, .int 1, .int (nI x), .int (nI m)] [] μ2 ω3 (fun r μ' w' => (s_bn T L (s_te T L p) 3 = 0 → r = some (.int 1) ∧ m_K μ' w' T L (s_qs T L (s_te T L p) 3) ∧ m_F μ' (s_nf T L 10 (s_te T L p) (s_blm φ (s_fl 10 G) 3 (s_sp T L p)) 3) (s_qs T L (s_te T L p) 3) ∧ m_C μ' 1 (s_nf T L 10 (s_te T L p) (s_blm φ (s_fl 10 G) 3 (s_sp T L p)) 3) (if (s_nf T L 10 (s_te T L p) (s_blm φ (s_fl 10 G) 3 (s_sp T L p)) 3).1 = 0 then s_kp 10 (s_nv T L (s_te T L p)) G else G) (if (s_nf T L 10 (s_te T L p) (s_blm φ (s_fl 10 G) 3 (s_sp T L p)) 3).1 = 0 then s_mxl 10 (s_nv T L (s_te T L p)) mx else mx)) ∧ (s_bn T L (s_te T L p) 3 ≠ 0 → r = some (.int 0) ∧ μ' 152 15 = nI (s_sp T L (s_qs T L (s_te T L p) (s_bn T L (s_te T L p) 3 - 1)))) ∧ ∀ a, a ≠ 152 → a ≠ 161 → a ≠ 162 → μ' a = μ a) := by
            intro n148
            induction n148 with
            | zero =>
              intro m μ2 h161 hfm hmn
              obtain rfl : 4 = m := by omega
              refine xt_iload _ dX12_dayLine_148 rfl ?_
              refine xt_iconst (4) dX12_dayLine_150 (by decide) ?_
              refine xt_icmp_ge 188 dX12_dayLine_151 (by decide) (fun _ => ?_) (fun q => absurd (by decide) q)
              refine xt_aload_n _ dX12_dayLine_188 rfl ?_
              refine xt_getr _ dX12_dayLine_189 kfX12_35 (by first | exact sh152 | exact sh161 | exact sh162 | rfl | assumption) rfl ?_
              refine xt_iconst (0) dX12_dayLine_192 (by decide) ?_
              refine xt_bipush (40) dX12_dayLine_193 (by decide) ?_
              refine xt_iload _ dX12_dayLine_195 rfl ?_
              refine xt_iconst (1) dX12_dayLine_197 (by decide) ?_
              refine xt_iadd dX12_dayLine_198 ?_
              refine xt_cS _ dX12_dayLine_199 klX12_209 (tX12_lesser sc _ _ _ _ _) rfl rfl (Nat.le_of_ble_eq_true rfl) ?_
              rw [s_le40 hlt4]
              refine xt_ast dX12_dayLine_202 (by first | exact sh152 | exact sh161 | exact sh162 | rfl | assumption) (by unfold vp_in; decide) ?_
              refine xt_iconst (1) dX12_dayLine_203 (by decide) ?_
              refine xt_iret .boolean dX12_dayLine_204 rfl (by rfl) ?_
              refine ⟨fun _ => ⟨rfl, z1.cg (fun j _ _ => by rw [x_u_ne (by decide), hfm 152 (by decide), e152]) (by rw [x_u_ne (by decide), hfm 153 (by decide), e153]), z2.cg (by rw [x_u_ne (by decide), hfm 152 (by decide), e152]) (by rw [x_u_ne (by decide), hfm 152 (by decide), e152]) (Nat.le_refl _), ?_, ?_⟩, fun h => absurd hbn h, fun a h1 h2 h3 => by rw [x_u_ne h2, hfm a h2]; exact ene a h1 h3⟩
              · intro hz
                rw [if_pos hz, if_pos hz]
                obtain ⟨hz1, _⟩ := s_nf_0 hz
                obtain ⟨hz0, hfl⟩ := s_blm_0 (by decide) hz1
                have hxe := hxG hz0
                obtain ⟨k0, ka, kn⟩ := s_kp_d_at (k := 10) (by decide) (by decide) (s_nv T L (s_te T L p)) G
                refine ⟨fun i hi => ?_, by rw [x_u_ne (by decide), hfm 152 (by decide), e152, z8]; exact (hC.1 hz0).2⟩
                rw [x_u_eq, cl0, h161, e161]
                by_cases h0 : i = 0
                · rw [h0, pk_us, k0, hxe]; rfl
                · rw [pk_un h0]
                  rw [show s_tv 1 i _ = eI _ from if_pos ⟨rfl, h0⟩]
                  by_cases hin : 1 + 4 * x ≤ i ∧ i < 5 + 4 * x
                  · obtain ⟨j, rfl⟩ : ∃ j, i = 1 + 1 * j + 4 * x := ⟨i - (1 + 4 * x), by omega⟩
                    rw [s_wm_at (by decide) (by omega), hrd j (by omega), show 1 + 1 * j + 4 * x = 1 + 4 * G 0 + j by omega, ka j (by omega)]
                  · rw [s_wm_no (fun j hj => by omega), kn i h0 (by omega), (hC.1 hz0).1 i hi]
                    exact if_pos ⟨rfl, h0⟩
              · refine ⟨fun h => absurd h (by decide), fun _ => ⟨x + 1, by omega, ?_⟩, fun h => absurd h (by decide)⟩
                rw [x_u_eq, cl0, pk_us]
            | succ n148 ih148 =>
              intro m μ2 h161 hfm hmn
              have hlt : m < 4 := by omega
              have hix : (1 : Int32) + 4 * nI x + nI m = nI (1 + 4 * x + m) := by rw [show (1 : Int32) = nI 1 from rfl, show (4 : Int32) = nI 4 from rfl, pk_mul, nI_add, nI_add]
              refine xt_iload _ dX12_dayLine_148 rfl ?_
              refine xt_iconst (4) dX12_dayLine_150 (by decide) ?_
              refine xt_icmp_ge 188 dX12_dayLine_151 (by decide) (fun q => absurd q (nI_ge (b := 4) hlt (by decide))) (fun _ => ?_)
              refine xt_iload _ dX12_dayLine_154 rfl ?_
              refine xt_bipush (40) dX12_dayLine_156 (by decide) ?_
              refine xt_icmp_ge 188 dX12_dayLine_158 (by decide) (fun q => absurd q (nI_ge hlt4 (by decide))) (fun _ => ?_)
              refine xt_aload_n _ dX12_dayLine_161 rfl ?_
              refine xt_getr _ dX12_dayLine_162 kfX12_35 (by first | exact sh152 | exact sh161 | exact sh162 | rfl | assumption) rfl ?_
              refine xt_iconst (1) dX12_dayLine_165 (by decide) ?_
              refine xt_iconst (4) dX12_dayLine_166 (by decide) ?_
              refine xt_iload _ dX12_dayLine_167 rfl ?_
              refine xt_imul dX12_dayLine_169 ?_
              refine xt_iadd dX12_dayLine_170 ?_
              refine xt_iload _ dX12_dayLine_171 rfl ?_
              refine xt_iadd dX12_dayLine_173 ?_
              refine xt_aload_n _ dX12_dayLine_174 rfl ?_
              refine xt_getr _ dX12_dayLine_175 kfX12_38 (by first | exact sh152 | exact sh161 | exact sh162 | rfl | assumption) rfl ?_
              refine xt_iload _ dX12_dayLine_178 rfl ?_
              refine xt_ald dX12_dayLine_180 (by first | exact sh152 | exact sh161 | exact sh162 | rfl | assumption) (by exact vp_in_nI (by omega) (by decide)) ?_
              refine xt_ast dX12_dayLine_181 (by first | exact sh152 | exact sh161 | exact sh162 | rfl | assumption) (by rw [hix]; exact vp_in_nI (by omega) (by decide)) ?_
              refine xt_inc _ (1) dX12_dayLine_182 rfl (by decide) (by decide) rfl ?_
              change x_T _ _ _ _ [_, _, _, _, _, _, _, _] _ _ _ _
              refine xt_goto 148 dX12_dayLine_185 (by decide) ?_
              refine x_T.ls (by rw [nI_succ m]) (ih148 (m + 1) _ ?_ (fun a h => by rw [x_u_ne h]; exact hfm a h) (by omega))
              rw [x_u_eq, hix, nI_clamp (by omega), nI_clamp (by omega), h161, hfm 162 (by decide), s_wm, show 1 + 1 * m + 4 * x = 1 + 4 * x + m by omega]
          exact L148 4 0 νr rfl (fun _ _ => rfl) (by omega)
        · skip
          refine xt_istore dX12_dayLine_143 (by decide) rfl ?_
          change x_T _ _ _ _ [_, _, _, _, _, _, _, _] _ _ _ _
          refine xt_iconst (0) dX12_dayLine_145 (by decide) ?_
          refine xt_istore dX12_dayLine_146 (by decide) rfl ?_
          change x_T _ _ _ _ [_, _, _, _, _, _, _, _] _ _ _ _
          refine xt_iload _ dX12_dayLine_148 rfl ?_
          refine xt_iconst (4) dX12_dayLine_150 (by decide) ?_
          refine xt_icmp_ge 188 dX12_dayLine_151 (by decide) (fun q => absurd q (by decide)) (fun _ => ?_)
          refine xt_iload _ dX12_dayLine_154 rfl ?_
          refine xt_bipush (40) dX12_dayLine_156 (by decide) ?_
          refine xt_icmp_ge 188 dX12_dayLine_158 (by decide) (fun _ => ?_) (fun q => absurd (by rw [show x = 40 by omega]; decide) q)
          refine xt_aload_n _ dX12_dayLine_188 rfl ?_
          refine xt_getr _ dX12_dayLine_189 kfX12_35 (by first | exact sh152 | exact sh161 | exact sh162 | rfl | assumption) rfl ?_
          refine xt_iconst (0) dX12_dayLine_192 (by decide) ?_
          refine xt_bipush (40) dX12_dayLine_193 (by decide) ?_
          refine xt_iload _ dX12_dayLine_195 rfl ?_
          refine xt_iconst (1) dX12_dayLine_197 (by decide) ?_
          refine xt_iadd dX12_dayLine_198 ?_
          refine xt_cS _ dX12_dayLine_199 klX12_209 (tX12_lesser sc _ _ _ _ _) rfl rfl (Nat.le_of_ble_eq_true rfl) ?_
          rw [s_le40b (show x = 40 by omega)]
          refine xt_ast dX12_dayLine_202 (by first | exact sh152 | exact sh161 | exact sh162 | rfl | assumption) (by unfold vp_in; decide) ?_
          refine xt_iconst (1) dX12_dayLine_203 (by decide) ?_
          refine xt_iret .boolean dX12_dayLine_204 rfl (by rfl) ?_
          refine ⟨fun _ => ⟨rfl, z1.cg (fun j _ _ => by rw [x_u_ne (by decide), e152]) (by rw [x_u_ne (by decide), e153]), z2.cg (by rw [x_u_ne (by decide), e152]) (by rw [x_u_ne (by decide), e152]) (Nat.le_refl _), ?_, ?_⟩, fun h => absurd hbn h, fun a h1 h2 h3 => by rw [x_u_ne h2]; exact ene a h1 h3⟩
          · intro hz
            exfalso
            obtain ⟨hz1, _⟩ := s_nf_0 hz
            obtain ⟨hz0, hfl⟩ := s_blm_0 (by decide) hz1
            have hxe := hxG hz0
            have h5 : decide (40 ≤ G 0) = false := hfl
            have := of_decide_eq_false h5
            omega
          · refine ⟨fun h => absurd h (by decide), fun _ => ⟨40, Nat.le_refl _, ?_⟩, fun h => absurd h (by decide)⟩
            rw [x_u_eq, cl0, pk_us]; rfl
      · obtain ⟨rfl, hBad⟩ := yb hk2
        change x_T _ _ _ _ _ (.int 0 :: _) _ _ _
        refine xt_if_ne 129 dX12_dayLine_124 (by decide) (fun q => absurd (by decide) q) (fun _ => ?_)
        refine xt_iconst (0) dX12_dayLine_127 (by decide) ?_
        refine xt_iret .boolean dX12_dayLine_128 rfl (by rfl) ?_
        refine ⟨fun h => absurd h (by rw [hBad.bn (g := 3) (by decide)]; exact Nat.succ_ne_zero _), fun _ => ⟨rfl, by rw [hBad.bn (g := 3) (by decide)]; exact hBad.1⟩, fun a h1 _ h3 => by rw [hBad.2.2.2 a h1 h3, x_u_ne h3]⟩
    · obtain ⟨rfl, hBad⟩ := yb hk2
      change x_T _ _ _ _ _ (.int 0 :: _) _ _ _
      refine xt_if_eq 127 dX12_dayLine_104 (by decide) (fun _ => ?_) (fun q => absurd (by decide) q)
      refine xt_iconst (0) dX12_dayLine_127 (by decide) ?_
      refine xt_iret .boolean dX12_dayLine_128 rfl (by rfl) ?_
      refine ⟨fun h => absurd h (by rw [hBad.bn (g := 3) (by decide)]; exact Nat.succ_ne_zero _), fun _ => ⟨rfl, by rw [hBad.bn (g := 3) (by decide)]; exact hBad.1⟩, fun a h1 _ h3 => by rw [hBad.2.2.2 a h1 h3, x_u_ne h3]⟩
  · obtain ⟨rfl, hBad⟩ := yb hk2
    change x_T _ _ _ _ _ (.int 0 :: _) _ _ _
    refine xt_if_eq 127 dX12_dayLine_78 (by decide) (fun _ => ?_) (fun q => absurd (by decide) q)
    refine xt_iconst (0) dX12_dayLine_127 (by decide) ?_
    refine xt_iret .boolean dX12_dayLine_128 rfl (by rfl) ?_
    refine ⟨fun h => absurd h (by rw [hBad.bn (g := 3) (by decide)]; exact Nat.succ_ne_zero _), fun _ => ⟨rfl, by rw [hBad.bn (g := 3) (by decide)]; exact hBad.1⟩, fun a h1 _ h3 => by rw [hBad.2.2.2 a h1 h3, x_u_ne h3]⟩
set_option maxHeartbeats 8000000 in
theorem tX12_line11 (T : Nat → Nat) (L p : Nat) (φ : Nat × Nat) (G : Nat → Nat) (mx : Nat) (hK : m_K μ w T L p) (hk1 : s_kd T L p = 1) (hF : m_F μ φ p) (hg : μ 152 21 = 1) (hC : m_C μ 1 φ G mx) (hW : g_W 1 G) (v : Int64) : x_T sc (d + 3) mX12_dayLine 18 [.ref 152, .long v, .retAddr 0, .int (nI (s_sp T L p)), .int 4, .retAddr 0, .retAddr 0, .retAddr 0] [] μ w (fun r μ' w' => (s_bn T L (s_te T L p) 3 = 0 → r = some (.int 1) ∧ m_K μ' w' T L (s_qs T L (s_te T L p) 3) ∧ m_F μ' (s_nf T L 11 (s_te T L p) (s_blm φ (s_fl 11 G) 3 (s_sp T L p)) 3) (s_qs T L (s_te T L p) 3) ∧ m_C μ' 1 (s_nf T L 11 (s_te T L p) (s_blm φ (s_fl 11 G) 3 (s_sp T L p)) 3) (if (s_nf T L 11 (s_te T L p) (s_blm φ (s_fl 11 G) 3 (s_sp T L p)) 3).1 = 0 then s_kp 11 (s_nv T L (s_te T L p)) G else G) (if (s_nf T L 11 (s_te T L p) (s_blm φ (s_fl 11 G) 3 (s_sp T L p)) 3).1 = 0 then s_mxl 11 (s_nv T L (s_te T L p)) mx else mx)) ∧ (s_bn T L (s_te T L p) 3 ≠ 0 → r = some (.int 0) ∧ μ' 152 15 = nI (s_sp T L (s_qs T L (s_te T L p) (s_bn T L (s_te T L p) 3 - 1)))) ∧ ∀ a, a ≠ 152 → a ≠ 161 → a ≠ 162 → μ' a = μ a) := by
  have hL := hK.1.2.1
  have htl := s_te_le hK.1.2.2.2 hK.2.1
  have hsl := s_sp_le hK.1.2.2.2 hK.2.1
  have hlt : s_sp T L p < s_te T L p := s_sp_lt (by omega) (by omega)
  refine xt_aload_n _ dX12_dayLine_18 rfl ?_
  refine xt_iconst (0) dX12_dayLine_19 (by decide) ?_
  refine xt_bipush (40) dX12_dayLine_20 (by decide) ?_
  refine xt_iload_n _ dX12_dayLine_22 rfl ?_
  obtain ⟨x, hx1, hx⟩ := hC.2.2.1 rfl
  have hx1 : x ≤ 40 := hx1
  refine xt_callV _ dX12_dayLine_23 klX12_142 (tX12_full sc _ μ w φ p 0 40 (s_sp T L p) x hF hsl.1 (by omega) (by decide) hx hx1 (by decide)) sh152 rfl rfl (Nat.le_of_ble_eq_true rfl) (fun r1 μ1 w1 q1 => ?_)
  obtain ⟨rfl, rfl, hF1, hj1, hf1⟩ := q1
  change x_T _ _ _ _ _ _ _ _ _
  have hxG : φ.1 = 0 → x = G 0 := fun z => (nI_eq (by omega) (by have := (show gd_W G from hW).1; omega)).mp (hx.symm.trans ((hC.1 z).1 0 (by decide)))
  have hφ1 : s_blm φ (decide (x = 40)) 3 (s_sp T L p) = (s_blm φ (s_fl 11 G) 3 (s_sp T L p)) := by
    by_cases hz : φ.1 = 0
    · rw [hxG hz, show s_fl 11 G = decide (G 0 = 40) from (decide_eq_decide.mpr (by have := (show gd_W G from hW).1; omega) : decide (40 ≤ G 0) = decide (G 0 = 40))]
    · rw [s_blm_n hz, s_blm_n hz]
  rw [hφ1] at hF1
  refine xt_aload_n _ dX12_dayLine_26 rfl ?_
  refine xt_callV _ dX12_dayLine_27 klX12_136 (tX12_token sc _ μ1 w1 T L (hK.1.cg (hj1 10 (by decide) (by decide)) (hf1 153 (by decide))) (s_te T L p) htl.2.2 (by rw [hj1 9 (by decide) (by decide)]; exact hK.2.2.2.2.1 (by omega))) sh152 rfl rfl (Nat.le_of_ble_eq_true rfl) (fun r2 ν0 ω0 q2 => ?_)
  obtain ⟨rfl, q2⟩ := q2
  change x_T _ _ _ _ _ _ _ _ _
  have hLb : m_L μ ν0 ω0 T L 11 (s_te T L p) (s_blm φ (s_fl 11 G) 3 (s_sp T L p)) 1 0 := ⟨m_K.next (hK.1.cg (hj1 10 (by decide) (by decide)) (hf1 153 (by decide))) htl.2.2 q2, hF1.cg (q2.2.2.2.2.2.1 16 (by decide) (by decide) (by decide) (by decide)) (q2.2.2.2.2.2.1 17 (by decide) (by decide) (by decide) (by decide)) (by show s_sp T L p + 1 ≤ s_te T L p; omega), by rw [q2.2.2.2.2.2.1 21 (by decide) (by decide) (by decide) (by decide), hj1 21 (by decide) (by decide), hg]; rfl, fun j h => absurd h (Nat.not_lt_zero j), fun j h => absurd h (Nat.not_lt_zero j), fun j _ => by rw [q2.2.2.2.2.2.2 162 (by decide), hf1 162 (by decide)], by rw [q2.2.2.2.2.2.2 161 (by decide), hf1 161 (by decide)], by rw [q2.2.2.2.2.2.1 20 (by decide) (by decide) (by decide) (by decide), hj1 20 (by decide) (by decide)], fun a h1 _ => by rw [q2.2.2.2.2.2.2 a h1, hf1 a h1]⟩
  refine xt_aload_n _ dX12_dayLine_30 rfl ?_
  refine xt_getr _ dX12_dayLine_31 kfX12_38 (by first | exact sh152 | exact sh161 | exact sh162 | rfl | assumption) rfl ?_
  refine xt_iconst (1) dX12_dayLine_34 (by decide) ?_
  refine xt_iconst (-1) dX12_dayLine_35 (by decide) ?_
  refine xt_ast dX12_dayLine_36 (by first | exact sh152 | exact sh161 | exact sh162 | rfl | assumption) (by unfold vp_in; decide) ?_
  refine xt_aload_n _ dX12_dayLine_37 rfl ?_
  refine xt_getr _ dX12_dayLine_38 kfX12_38 (by first | exact sh152 | exact sh161 | exact sh162 | rfl | assumption) rfl ?_
  refine xt_iconst (2) dX12_dayLine_41 (by decide) ?_
  refine xt_iconst (-1) dX12_dayLine_42 (by decide) ?_
  refine xt_ast dX12_dayLine_43 (by first | exact sh152 | exact sh161 | exact sh162 | rfl | assumption) (by unfold vp_in; decide) ?_
  refine xt_aload_n _ dX12_dayLine_44 rfl ?_
  refine xt_getr _ dX12_dayLine_45 kfX12_38 (by first | exact sh152 | exact sh161 | exact sh162 | rfl | assumption) rfl ?_
  refine xt_iconst (3) dX12_dayLine_48 (by decide) ?_
  refine xt_iconst (-1) dX12_dayLine_49 (by decide) ?_
  refine xt_ast dX12_dayLine_50 (by first | exact sh152 | exact sh161 | exact sh162 | rfl | assumption) (by unfold vp_in; decide) ?_
  have hL0 : m_L (x_u μ 162 (upd (upd (upd (μ 162) 1 (-1)) 2 (-1)) 3 (-1))) (x_u (x_u (x_u ν0 162 (upd (ν0 162) (1 : Int32).toNatClampNeg (-1))) 162 (upd (x_u ν0 162 (upd (ν0 162) (1 : Int32).toNatClampNeg (-1)) 162) (2 : Int32).toNatClampNeg (-1))) 162 (upd (x_u (x_u ν0 162 (upd (ν0 162) (1 : Int32).toNatClampNeg (-1))) 162 (upd (x_u ν0 162 (upd (ν0 162) (1 : Int32).toNatClampNeg (-1)) 162) (2 : Int32).toNatClampNeg (-1)) 162) (3 : Int32).toNatClampNeg (-1))) ω0 T L 11 (s_te T L p) (s_blm φ (s_fl 11 G) 3 (s_sp T L p)) 1 0 := by
    obtain ⟨z1, z2, z3, z4, z5, z6, z7, z8, z9⟩ := hLb
    refine ⟨z1.cg (fun j _ _ => rfl) rfl, z2.cg rfl rfl (Nat.le_refl _), z3, fun j h => absurd h (Nat.not_lt_zero j), fun j h => absurd h (Nat.not_lt_zero j), fun j hj => ?_, z7, z8, fun a h1 h2 => ?_⟩
    · rw [x_u_eq, x_u_eq, x_u_eq, x_u_eq, cl1, cl2, cl3]
      have e162 : ν0 162 j = μ 162 j := z6 j hj
      by_cases h3 : j = 3
      · rw [h3, pk_us, pk_us]
      · rw [pk_un h3, pk_un h3]
        by_cases h2 : j = 2
        · rw [h2, pk_us, pk_us]
        · rw [pk_un h2, pk_un h2]
          by_cases h1 : j = 1
          · rw [h1, pk_us, pk_us]
          · rw [pk_un h1, pk_un h1]; exact e162
    · rw [x_u_ne h2, x_u_ne h2, x_u_ne h2, x_u_ne h2]; exact z9 a h1 h2
  obtain ⟨νz, hνz⟩ : ∃ νz, (x_u (x_u (x_u ν0 162 (upd (ν0 162) (1 : Int32).toNatClampNeg (-1))) 162 (upd (x_u ν0 162 (upd (ν0 162) (1 : Int32).toNatClampNeg (-1)) 162) (2 : Int32).toNatClampNeg (-1))) 162 (upd (x_u (x_u ν0 162 (upd (ν0 162) (1 : Int32).toNatClampNeg (-1))) 162 (upd (x_u ν0 162 (upd (ν0 162) (1 : Int32).toNatClampNeg (-1)) 162) (2 : Int32).toNatClampNeg (-1)) 162) (3 : Int32).toNatClampNeg (-1))) = νz := ⟨_, rfl⟩
  change x_T _ _ _ _ _ _ (x_u (x_u (x_u ν0 162 (upd (ν0 162) (1 : Int32).toNatClampNeg (-1))) 162 (upd (x_u ν0 162 (upd (ν0 162) (1 : Int32).toNatClampNeg (-1)) 162) (2 : Int32).toNatClampNeg (-1))) 162 (upd (x_u (x_u ν0 162 (upd (ν0 162) (1 : Int32).toNatClampNeg (-1))) 162 (upd (x_u ν0 162 (upd (ν0 162) (1 : Int32).toNatClampNeg (-1)) 162) (2 : Int32).toNatClampNeg (-1)) 162) (3 : Int32).toNatClampNeg (-1))) _ _
  rw [hνz] at hL0 ⊢
  refine xt_iload _ dX12_dayLine_51 rfl ?_
  refine xt_iconst (3) dX12_dayLine_53 (by decide) ?_
  refine xt_icmp_ne 61 dX12_dayLine_54 (by decide) (fun _ => ?_) (fun q => absurd q (by decide))
  refine xt_iconst (0) dX12_dayLine_61 (by decide) ?_
  refine xt_istore dX12_dayLine_62 (by decide) rfl ?_
  change x_T _ _ _ _ [_, _, _, _, _, _, _, _] _ _ _ _
  refine xt_iload _ dX12_dayLine_64 rfl ?_
  refine xt_iconst (1) dX12_dayLine_66 (by decide) ?_
  refine xt_icmp_le 81 dX12_dayLine_67 (by decide) (fun q => absurd q (by decide)) (fun _ => ?_)
  refine xt_aload_n _ dX12_dayLine_70 rfl ?_
  refine xt_iconst (1) dX12_dayLine_71 (by decide) ?_
  refine xt_iconst (0) dX12_dayLine_72 (by decide) ?_
  refine xt_bipush (7) dX12_dayLine_73 (by decide) ?_
  refine xt_callV _ dX12_dayLine_75 klX12_139 (tX12_takeL sc _ _ hL0 (by decide) (by decide) (by decide)) sh152 rfl rfl (Nat.le_of_ble_eq_true rfl) (fun r5 ν1 ω1 q5 => ?_)
  obtain ⟨ya, yb⟩ := q5
  by_cases hk2 : s_kd T L (s_qs T L (s_te T L p) 0) = 2
  · obtain ⟨rfl, hL1⟩ := ya hk2
    change x_T _ _ _ _ _ (.int 1 :: _) _ _ _
    refine xt_if_eq 127 dX12_dayLine_78 (by decide) (fun q => absurd q (by decide)) (fun _ => ?_)
    refine xt_iload _ dX12_dayLine_81 rfl ?_
    refine xt_iconst (2) dX12_dayLine_83 (by decide) ?_
    refine xt_icmp_le 129 dX12_dayLine_84 (by decide) (fun q => absurd q (by decide)) (fun _ => ?_)
    refine xt_aload_n _ dX12_dayLine_87 rfl ?_
    refine xt_iconst (2) dX12_dayLine_88 (by decide) ?_
    refine xt_iconst (0) dX12_dayLine_89 (by decide) ?_
    refine xt_iload _ dX12_dayLine_90 rfl ?_
    refine xt_if_eq 100 dX12_dayLine_92 (by decide) (fun _ => ?_) (fun q => absurd (by decide) q)
    refine xt_iconst (5) dX12_dayLine_100 (by decide) ?_
    refine xt_callV _ dX12_dayLine_101 klX12_139 (tX12_takeL sc _ _ hL1 (by decide) (by decide) (by decide)) sh152 rfl rfl (Nat.le_of_ble_eq_true rfl) (fun r5 ν2 ω2 q5 => ?_)
    obtain ⟨ya, yb⟩ := q5
    by_cases hk2 : s_kd T L (s_qs T L (s_te T L p) 1) = 2
    · obtain ⟨rfl, hL2⟩ := ya hk2
      change x_T _ _ _ _ _ (.int 1 :: _) _ _ _
      refine xt_if_eq 127 dX12_dayLine_104 (by decide) (fun q => absurd q (by decide)) (fun _ => ?_)
      refine xt_aload_n _ dX12_dayLine_107 rfl ?_
      refine xt_iconst (3) dX12_dayLine_108 (by decide) ?_
      refine xt_iload _ dX12_dayLine_109 rfl ?_
      refine xt_if_eq 118 dX12_dayLine_111 (by decide) (fun _ => ?_) (fun q => absurd (by decide) q)
      refine xt_iconst (1) dX12_dayLine_118 (by decide) ?_
      refine xt_bipush (9) dX12_dayLine_119 (by decide) ?_
      refine xt_callV _ dX12_dayLine_121 klX12_139 (tX12_takeL sc _ _ hL2 (by decide) (by decide) (by decide)) sh152 rfl rfl (Nat.le_of_ble_eq_true rfl) (fun r5 ν3 ω3 q5 => ?_)
      obtain ⟨ya, yb⟩ := q5
      by_cases hk2 : s_kd T L (s_qs T L (s_te T L p) 2) = 2
      · obtain ⟨rfl, hL3⟩ := ya hk2
        change x_T _ _ _ _ _ (.int 1 :: _) _ _ _
        refine xt_if_ne 129 dX12_dayLine_124 (by decide) (fun _ => ?_) (fun q => absurd q (by decide))
        refine xt_aload_n _ dX12_dayLine_129 rfl ?_
        refine xt_getr _ dX12_dayLine_130 kfX12_38 (by first | exact sh152 | exact sh161 | exact sh162 | rfl | assumption) rfl ?_
        refine xt_iconst (0) dX12_dayLine_133 (by decide) ?_
        refine xt_iload _ dX12_dayLine_134 rfl ?_
        refine xt_ast dX12_dayLine_136 (by first | exact sh152 | exact sh161 | exact sh162 | rfl | assumption) (by unfold vp_in; decide) ?_
        refine xt_aload_n _ dX12_dayLine_137 rfl ?_
        refine xt_getr _ dX12_dayLine_138 kfX12_35 (by first | exact sh152 | exact sh161 | exact sh162 | rfl | assumption) rfl ?_
        refine xt_iconst (0) dX12_dayLine_141 (by decide) ?_
        refine xt_ald dX12_dayLine_142 (by first | exact sh152 | exact sh161 | exact sh162 | rfl | assumption) (by unfold vp_in; decide) ?_
        obtain ⟨z1, z2, z3, z4, z5, z6, z7, z8, z9⟩ := hL3
        have hbn : s_bn T L (s_te T L p) 3 = 0 := m_L.bn ⟨z1, z2, z3, z4, z5, z6, z7, z8, z9⟩
        have e161 : (x_u ν3 162 (upd (ν3 162) (0 : Int32).toNatClampNeg 4)) 161 = μ 161 := by rw [x_u_ne (by decide), z7, x_u_ne (by decide)]
        rw [show (x_u ν3 162 (upd (ν3 162) (0 : Int32).toNatClampNeg 4)) 161 (0 : Int32).toNatClampNeg = nI x from (by rw [e161]; exact hx)]
        obtain ⟨νr, hνr⟩ : ∃ νr, (x_u ν3 162 (upd (ν3 162) (0 : Int32).toNatClampNeg 4)) = νr := ⟨_, rfl⟩
        rw [hνr]
        rw [hνr] at e161
        have hrd : ∀ j, j < 4 → νr 162 j = eI (s_dxl 11 (s_nv T L (s_te T L p)) j) := fun j hj => by
          obtain ⟨y0, y⟩ := s_dxl_e 11 (s_nv T L (s_te T L p))
          rw [← hνr, x_u_eq, cl0]
          by_cases h0 : j = 0
          · rw [h0, pk_us, y0]; rfl
          · rw [pk_un h0]
            obtain ⟨i, rfl⟩ : ∃ i, j = 1 + i := ⟨j - 1, by omega⟩
            rw [y i (by omega)]
            by_cases hi : i < 3
            · rw [if_pos (show i < s_gv 11 from hi)]; exact z5 i hi
            · rw [if_neg (show ¬ i < s_gv 11 from hi), z6 (1 + i) (by omega), x_u_eq]
              have h3 : i = 0 ∨ i = 1 ∨ i = 2 := by omega
              rcases h3 with rfl | rfl | rfl <;> rfl
        have e152 : νr 152 = ν3 152 := by rw [← hνr]; exact x_u_ne (by decide)
        have e153 : νr 153 = ν3 153 := by rw [← hνr]; exact x_u_ne (by decide)
        have ene : ∀ a, a ≠ 152 → a ≠ 162 → νr a = μ a := fun a h1 h2 => by rw [← hνr, x_u_ne h2, z9 a h1 h2, x_u_ne h2]
        by_cases hlt4 : x < 40
        · skip
          refine xt_istore dX12_dayLine_143 (by decide) rfl ?_
          change x_T _ _ _ _ [_, _, _, _, _, _, _, _] _ _ _ _
          refine xt_iconst (0) dX12_dayLine_145 (by decide) ?_
          refine xt_istore dX12_dayLine_146 (by decide) rfl ?_
          change x_T _ _ _ _ [_, _, _, _, _, _, _, _] _ _ _ _
          have L148 : ∀ (n148 m : Nat) (μ2 : x_Me) (h161 : μ2 161 = s_wm (νr 161) 1 1 (4 * x) (νr 162) m) (hfm : ∀ a, a ≠ 161 → μ2 a = νr a), m + n148 = 4 → x_T sc (d + 3) mX12_dayLine 148 [.ref 152, .long v, .retAddr 0, .int (nI (s_sp T L p)), .int 4, .int 0, .int (nI x), .int (nI m)] [] μ2 ω3 (fun r μ' w' => (s_bn T L (s_te T L p) 3 = 0 → r = some (.int 1) ∧ m_K μ' w' T L (s_qs T L (s_te T L p) 3) ∧ m_F μ' (s_nf T L 11 (s_te T L p) (s_blm φ (s_fl 11 G) 3 (s_sp T L p)) 3) (s_qs T L (s_te T L p) 3) ∧ m_C μ' 1 (s_nf T L 11 (s_te T L p) (s_blm φ (s_fl 11 G) 3 (s_sp T L p)) 3) (if (s_nf T L 11 (s_te T L p) (s_blm φ (s_fl 11 G) 3 (s_sp T L p)) 3).1 = 0 then s_kp 11 (s_nv T L (s_te T L p)) G else G) (if (s_nf T L 11 (s_te T L p) (s_blm φ (s_fl 11 G) 3 (s_sp T L p)) 3).1 = 0 then s_mxl 11 (s_nv T L (s_te T L p)) mx else mx)) ∧ (s_bn T L (s_te T L p) 3 ≠ 0 → r = some (.int 0) ∧ μ' 152 15 = nI (s_sp T L (s_qs T L (s_te T L p) (s_bn T L (s_te T L p) 3 - 1)))) ∧ ∀ a, a ≠ 152 → a ≠ 161 → a ≠ 162 → μ' a = μ a) := by
            intro n148
            induction n148 with
            | zero =>
              intro m μ2 h161 hfm hmn
              obtain rfl : 4 = m := by omega
              refine xt_iload _ dX12_dayLine_148 rfl ?_
              refine xt_iconst (4) dX12_dayLine_150 (by decide) ?_
              refine xt_icmp_ge 188 dX12_dayLine_151 (by decide) (fun _ => ?_) (fun q => absurd (by decide) q)
              refine xt_aload_n _ dX12_dayLine_188 rfl ?_
              refine xt_getr _ dX12_dayLine_189 kfX12_35 (by first | exact sh152 | exact sh161 | exact sh162 | rfl | assumption) rfl ?_
              refine xt_iconst (0) dX12_dayLine_192 (by decide) ?_
              refine xt_bipush (40) dX12_dayLine_193 (by decide) ?_
              refine xt_iload _ dX12_dayLine_195 rfl ?_
              refine xt_iconst (1) dX12_dayLine_197 (by decide) ?_
              refine xt_iadd dX12_dayLine_198 ?_
              refine xt_cS _ dX12_dayLine_199 klX12_209 (tX12_lesser sc _ _ _ _ _) rfl rfl (Nat.le_of_ble_eq_true rfl) ?_
              rw [s_le40 hlt4]
              refine xt_ast dX12_dayLine_202 (by first | exact sh152 | exact sh161 | exact sh162 | rfl | assumption) (by unfold vp_in; decide) ?_
              refine xt_iconst (1) dX12_dayLine_203 (by decide) ?_
              refine xt_iret .boolean dX12_dayLine_204 rfl (by rfl) ?_
              refine ⟨fun _ => ⟨rfl, z1.cg (fun j _ _ => by rw [x_u_ne (by decide), hfm 152 (by decide), e152]) (by rw [x_u_ne (by decide), hfm 153 (by decide), e153]), z2.cg (by rw [x_u_ne (by decide), hfm 152 (by decide), e152]) (by rw [x_u_ne (by decide), hfm 152 (by decide), e152]) (Nat.le_refl _), ?_, ?_⟩, fun h => absurd hbn h, fun a h1 h2 h3 => by rw [x_u_ne h2, hfm a h2]; exact ene a h1 h3⟩
              · intro hz
                rw [if_pos hz, if_pos hz]
                obtain ⟨hz1, _⟩ := s_nf_0 hz
                obtain ⟨hz0, hfl⟩ := s_blm_0 (by decide) hz1
                have hxe := hxG hz0
                obtain ⟨k0, ka, kn⟩ := s_kp_d_at (k := 11) (by decide) (by decide) (s_nv T L (s_te T L p)) G
                refine ⟨fun i hi => ?_, by rw [x_u_ne (by decide), hfm 152 (by decide), e152, z8]; exact (hC.1 hz0).2⟩
                rw [x_u_eq, cl0, h161, e161]
                by_cases h0 : i = 0
                · rw [h0, pk_us, k0, hxe]; rfl
                · rw [pk_un h0]
                  rw [show s_tv 1 i _ = eI _ from if_pos ⟨rfl, h0⟩]
                  by_cases hin : 1 + 4 * x ≤ i ∧ i < 5 + 4 * x
                  · obtain ⟨j, rfl⟩ : ∃ j, i = 1 + 1 * j + 4 * x := ⟨i - (1 + 4 * x), by omega⟩
                    rw [s_wm_at (by decide) (by omega), hrd j (by omega), show 1 + 1 * j + 4 * x = 1 + 4 * G 0 + j by omega, ka j (by omega)]
                  · rw [s_wm_no (fun j hj => by omega), kn i h0 (by omega), (hC.1 hz0).1 i hi]
                    exact if_pos ⟨rfl, h0⟩
              · refine ⟨fun h => absurd h (by decide), fun _ => ⟨x + 1, by omega, ?_⟩, fun h => absurd h (by decide)⟩
                rw [x_u_eq, cl0, pk_us]
            | succ n148 ih148 =>
              intro m μ2 h161 hfm hmn
              have hlt : m < 4 := by omega
              have hix : (1 : Int32) + 4 * nI x + nI m = nI (1 + 4 * x + m) := by rw [show (1 : Int32) = nI 1 from rfl, show (4 : Int32) = nI 4 from rfl, pk_mul, nI_add, nI_add]
              refine xt_iload _ dX12_dayLine_148 rfl ?_
              refine xt_iconst (4) dX12_dayLine_150 (by decide) ?_
              refine xt_icmp_ge 188 dX12_dayLine_151 (by decide) (fun q => absurd q (nI_ge (b := 4) hlt (by decide))) (fun _ => ?_)
              refine xt_iload _ dX12_dayLine_154 rfl ?_
              refine xt_bipush (40) dX12_dayLine_156 (by decide) ?_
              refine xt_icmp_ge 188 dX12_dayLine_158 (by decide) (fun q => absurd q (nI_ge hlt4 (by decide))) (fun _ => ?_)
              refine xt_aload_n _ dX12_dayLine_161 rfl ?_
              refine xt_getr _ dX12_dayLine_162 kfX12_35 (by first | exact sh152 | exact sh161 | exact sh162 | rfl | assumption) rfl ?_
              refine xt_iconst (1) dX12_dayLine_165 (by decide) ?_
              refine xt_iconst (4) dX12_dayLine_166 (by decide) ?_
              refine xt_iload _ dX12_dayLine_167 rfl ?_
              refine xt_imul dX12_dayLine_169 ?_
              refine xt_iadd dX12_dayLine_170 ?_
              refine xt_iload _ dX12_dayLine_171 rfl ?_
              refine xt_iadd dX12_dayLine_173 ?_
              refine xt_aload_n _ dX12_dayLine_174 rfl ?_
              refine xt_getr _ dX12_dayLine_175 kfX12_38 (by first | exact sh152 | exact sh161 | exact sh162 | rfl | assumption) rfl ?_
              refine xt_iload _ dX12_dayLine_178 rfl ?_
              refine xt_ald dX12_dayLine_180 (by first | exact sh152 | exact sh161 | exact sh162 | rfl | assumption) (by exact vp_in_nI (by omega) (by decide)) ?_
              refine xt_ast dX12_dayLine_181 (by first | exact sh152 | exact sh161 | exact sh162 | rfl | assumption) (by rw [hix]; exact vp_in_nI (by omega) (by decide)) ?_
              refine xt_inc _ (1) dX12_dayLine_182 rfl (by decide) (by decide) rfl ?_
              change x_T _ _ _ _ [_, _, _, _, _, _, _, _] _ _ _ _
              refine xt_goto 148 dX12_dayLine_185 (by decide) ?_
              refine x_T.ls (by rw [nI_succ m]) (ih148 (m + 1) _ ?_ (fun a h => by rw [x_u_ne h]; exact hfm a h) (by omega))
              rw [x_u_eq, hix, nI_clamp (by omega), nI_clamp (by omega), h161, hfm 162 (by decide), s_wm, show 1 + 1 * m + 4 * x = 1 + 4 * x + m by omega]
          exact L148 4 0 νr rfl (fun _ _ => rfl) (by omega)
        · skip
          refine xt_istore dX12_dayLine_143 (by decide) rfl ?_
          change x_T _ _ _ _ [_, _, _, _, _, _, _, _] _ _ _ _
          refine xt_iconst (0) dX12_dayLine_145 (by decide) ?_
          refine xt_istore dX12_dayLine_146 (by decide) rfl ?_
          change x_T _ _ _ _ [_, _, _, _, _, _, _, _] _ _ _ _
          refine xt_iload _ dX12_dayLine_148 rfl ?_
          refine xt_iconst (4) dX12_dayLine_150 (by decide) ?_
          refine xt_icmp_ge 188 dX12_dayLine_151 (by decide) (fun q => absurd q (by decide)) (fun _ => ?_)
          refine xt_iload _ dX12_dayLine_154 rfl ?_
          refine xt_bipush (40) dX12_dayLine_156 (by decide) ?_
          refine xt_icmp_ge 188 dX12_dayLine_158 (by decide) (fun _ => ?_) (fun q => absurd (by rw [show x = 40 by omega]; decide) q)
          refine xt_aload_n _ dX12_dayLine_188 rfl ?_
          refine xt_getr _ dX12_dayLine_189 kfX12_35 (by first | exact sh152 | exact sh161 | exact sh162 | rfl | assumption) rfl ?_
          refine xt_iconst (0) dX12_dayLine_192 (by decide) ?_
          refine xt_bipush (40) dX12_dayLine_193 (by decide) ?_
          refine xt_iload _ dX12_dayLine_195 rfl ?_
          refine xt_iconst (1) dX12_dayLine_197 (by decide) ?_
          refine xt_iadd dX12_dayLine_198 ?_
          refine xt_cS _ dX12_dayLine_199 klX12_209 (tX12_lesser sc _ _ _ _ _) rfl rfl (Nat.le_of_ble_eq_true rfl) ?_
          rw [s_le40b (show x = 40 by omega)]
          refine xt_ast dX12_dayLine_202 (by first | exact sh152 | exact sh161 | exact sh162 | rfl | assumption) (by unfold vp_in; decide) ?_
          refine xt_iconst (1) dX12_dayLine_203 (by decide) ?_
          refine xt_iret .boolean dX12_dayLine_204 rfl (by rfl) ?_
          refine ⟨fun _ => ⟨rfl, z1.cg (fun j _ _ => by rw [x_u_ne (by decide), e152]) (by rw [x_u_ne (by decide), e153]), z2.cg (by rw [x_u_ne (by decide), e152]) (by rw [x_u_ne (by decide), e152]) (Nat.le_refl _), ?_, ?_⟩, fun h => absurd hbn h, fun a h1 h2 h3 => by rw [x_u_ne h2]; exact ene a h1 h3⟩
          · intro hz
            exfalso
            obtain ⟨hz1, _⟩ := s_nf_0 hz
            obtain ⟨hz0, hfl⟩ := s_blm_0 (by decide) hz1
            have hxe := hxG hz0
            have h5 : decide (40 ≤ G 0) = false := hfl
            have := of_decide_eq_false h5
            omega
          · refine ⟨fun h => absurd h (by decide), fun _ => ⟨40, Nat.le_refl _, ?_⟩, fun h => absurd h (by decide)⟩
            rw [x_u_eq, cl0, pk_us]; rfl
      · obtain ⟨rfl, hBad⟩ := yb hk2
        change x_T _ _ _ _ _ (.int 0 :: _) _ _ _
        refine xt_if_ne 129 dX12_dayLine_124 (by decide) (fun q => absurd (by decide) q) (fun _ => ?_)
        refine xt_iconst (0) dX12_dayLine_127 (by decide) ?_
        refine xt_iret .boolean dX12_dayLine_128 rfl (by rfl) ?_
        refine ⟨fun h => absurd h (by rw [hBad.bn (g := 3) (by decide)]; exact Nat.succ_ne_zero _), fun _ => ⟨rfl, by rw [hBad.bn (g := 3) (by decide)]; exact hBad.1⟩, fun a h1 _ h3 => by rw [hBad.2.2.2 a h1 h3, x_u_ne h3]⟩
    · obtain ⟨rfl, hBad⟩ := yb hk2
      change x_T _ _ _ _ _ (.int 0 :: _) _ _ _
      refine xt_if_eq 127 dX12_dayLine_104 (by decide) (fun _ => ?_) (fun q => absurd (by decide) q)
      refine xt_iconst (0) dX12_dayLine_127 (by decide) ?_
      refine xt_iret .boolean dX12_dayLine_128 rfl (by rfl) ?_
      refine ⟨fun h => absurd h (by rw [hBad.bn (g := 3) (by decide)]; exact Nat.succ_ne_zero _), fun _ => ⟨rfl, by rw [hBad.bn (g := 3) (by decide)]; exact hBad.1⟩, fun a h1 _ h3 => by rw [hBad.2.2.2 a h1 h3, x_u_ne h3]⟩
  · obtain ⟨rfl, hBad⟩ := yb hk2
    change x_T _ _ _ _ _ (.int 0 :: _) _ _ _
    refine xt_if_eq 127 dX12_dayLine_78 (by decide) (fun _ => ?_) (fun q => absurd (by decide) q)
    refine xt_iconst (0) dX12_dayLine_127 (by decide) ?_
    refine xt_iret .boolean dX12_dayLine_128 rfl (by rfl) ?_
    refine ⟨fun h => absurd h (by rw [hBad.bn (g := 3) (by decide)]; exact Nat.succ_ne_zero _), fun _ => ⟨rfl, by rw [hBad.bn (g := 3) (by decide)]; exact hBad.1⟩, fun a h1 _ h3 => by rw [hBad.2.2.2 a h1 h3, x_u_ne h3]⟩
set_option maxHeartbeats 8000000 in
theorem tX12_line12 (T : Nat → Nat) (L p : Nat) (φ : Nat × Nat) (G : Nat → Nat) (mx : Nat) (hK : m_K μ w T L p) (hk1 : s_kd T L p = 1) (hF : m_F μ φ p) (hg : μ 152 21 = 1) (hC : m_C μ 1 φ G mx) (hW : g_W 1 G) (v : Int64) : x_T sc (d + 3) mX12_dayLine 18 [.ref 152, .long v, .retAddr 0, .int (nI (s_sp T L p)), .int 5, .retAddr 0, .retAddr 0, .retAddr 0] [] μ w (fun r μ' w' => (s_bn T L (s_te T L p) 3 = 0 → r = some (.int 1) ∧ m_K μ' w' T L (s_qs T L (s_te T L p) 3) ∧ m_F μ' (s_nf T L 12 (s_te T L p) (s_blm φ (s_fl 12 G) 3 (s_sp T L p)) 3) (s_qs T L (s_te T L p) 3) ∧ m_C μ' 1 (s_nf T L 12 (s_te T L p) (s_blm φ (s_fl 12 G) 3 (s_sp T L p)) 3) (if (s_nf T L 12 (s_te T L p) (s_blm φ (s_fl 12 G) 3 (s_sp T L p)) 3).1 = 0 then s_kp 12 (s_nv T L (s_te T L p)) G else G) (if (s_nf T L 12 (s_te T L p) (s_blm φ (s_fl 12 G) 3 (s_sp T L p)) 3).1 = 0 then s_mxl 12 (s_nv T L (s_te T L p)) mx else mx)) ∧ (s_bn T L (s_te T L p) 3 ≠ 0 → r = some (.int 0) ∧ μ' 152 15 = nI (s_sp T L (s_qs T L (s_te T L p) (s_bn T L (s_te T L p) 3 - 1)))) ∧ ∀ a, a ≠ 152 → a ≠ 161 → a ≠ 162 → μ' a = μ a) := by
  have hL := hK.1.2.1
  have htl := s_te_le hK.1.2.2.2 hK.2.1
  have hsl := s_sp_le hK.1.2.2.2 hK.2.1
  have hlt : s_sp T L p < s_te T L p := s_sp_lt (by omega) (by omega)
  refine xt_aload_n _ dX12_dayLine_18 rfl ?_
  refine xt_iconst (0) dX12_dayLine_19 (by decide) ?_
  refine xt_bipush (40) dX12_dayLine_20 (by decide) ?_
  refine xt_iload_n _ dX12_dayLine_22 rfl ?_
  obtain ⟨x, hx1, hx⟩ := hC.2.2.1 rfl
  have hx1 : x ≤ 40 := hx1
  refine xt_callV _ dX12_dayLine_23 klX12_142 (tX12_full sc _ μ w φ p 0 40 (s_sp T L p) x hF hsl.1 (by omega) (by decide) hx hx1 (by decide)) sh152 rfl rfl (Nat.le_of_ble_eq_true rfl) (fun r1 μ1 w1 q1 => ?_)
  obtain ⟨rfl, rfl, hF1, hj1, hf1⟩ := q1
  change x_T _ _ _ _ _ _ _ _ _
  have hxG : φ.1 = 0 → x = G 0 := fun z => (nI_eq (by omega) (by have := (show gd_W G from hW).1; omega)).mp (hx.symm.trans ((hC.1 z).1 0 (by decide)))
  have hφ1 : s_blm φ (decide (x = 40)) 3 (s_sp T L p) = (s_blm φ (s_fl 12 G) 3 (s_sp T L p)) := by
    by_cases hz : φ.1 = 0
    · rw [hxG hz, show s_fl 12 G = decide (G 0 = 40) from (decide_eq_decide.mpr (by have := (show gd_W G from hW).1; omega) : decide (40 ≤ G 0) = decide (G 0 = 40))]
    · rw [s_blm_n hz, s_blm_n hz]
  rw [hφ1] at hF1
  refine xt_aload_n _ dX12_dayLine_26 rfl ?_
  refine xt_callV _ dX12_dayLine_27 klX12_136 (tX12_token sc _ μ1 w1 T L (hK.1.cg (hj1 10 (by decide) (by decide)) (hf1 153 (by decide))) (s_te T L p) htl.2.2 (by rw [hj1 9 (by decide) (by decide)]; exact hK.2.2.2.2.1 (by omega))) sh152 rfl rfl (Nat.le_of_ble_eq_true rfl) (fun r2 ν0 ω0 q2 => ?_)
  obtain ⟨rfl, q2⟩ := q2
  change x_T _ _ _ _ _ _ _ _ _
  have hLb : m_L μ ν0 ω0 T L 12 (s_te T L p) (s_blm φ (s_fl 12 G) 3 (s_sp T L p)) 1 0 := ⟨m_K.next (hK.1.cg (hj1 10 (by decide) (by decide)) (hf1 153 (by decide))) htl.2.2 q2, hF1.cg (q2.2.2.2.2.2.1 16 (by decide) (by decide) (by decide) (by decide)) (q2.2.2.2.2.2.1 17 (by decide) (by decide) (by decide) (by decide)) (by show s_sp T L p + 1 ≤ s_te T L p; omega), by rw [q2.2.2.2.2.2.1 21 (by decide) (by decide) (by decide) (by decide), hj1 21 (by decide) (by decide), hg]; rfl, fun j h => absurd h (Nat.not_lt_zero j), fun j h => absurd h (Nat.not_lt_zero j), fun j _ => by rw [q2.2.2.2.2.2.2 162 (by decide), hf1 162 (by decide)], by rw [q2.2.2.2.2.2.2 161 (by decide), hf1 161 (by decide)], by rw [q2.2.2.2.2.2.1 20 (by decide) (by decide) (by decide) (by decide), hj1 20 (by decide) (by decide)], fun a h1 _ => by rw [q2.2.2.2.2.2.2 a h1, hf1 a h1]⟩
  refine xt_aload_n _ dX12_dayLine_30 rfl ?_
  refine xt_getr _ dX12_dayLine_31 kfX12_38 (by first | exact sh152 | exact sh161 | exact sh162 | rfl | assumption) rfl ?_
  refine xt_iconst (1) dX12_dayLine_34 (by decide) ?_
  refine xt_iconst (-1) dX12_dayLine_35 (by decide) ?_
  refine xt_ast dX12_dayLine_36 (by first | exact sh152 | exact sh161 | exact sh162 | rfl | assumption) (by unfold vp_in; decide) ?_
  refine xt_aload_n _ dX12_dayLine_37 rfl ?_
  refine xt_getr _ dX12_dayLine_38 kfX12_38 (by first | exact sh152 | exact sh161 | exact sh162 | rfl | assumption) rfl ?_
  refine xt_iconst (2) dX12_dayLine_41 (by decide) ?_
  refine xt_iconst (-1) dX12_dayLine_42 (by decide) ?_
  refine xt_ast dX12_dayLine_43 (by first | exact sh152 | exact sh161 | exact sh162 | rfl | assumption) (by unfold vp_in; decide) ?_
  refine xt_aload_n _ dX12_dayLine_44 rfl ?_
  refine xt_getr _ dX12_dayLine_45 kfX12_38 (by first | exact sh152 | exact sh161 | exact sh162 | rfl | assumption) rfl ?_
  refine xt_iconst (3) dX12_dayLine_48 (by decide) ?_
  refine xt_iconst (-1) dX12_dayLine_49 (by decide) ?_
  refine xt_ast dX12_dayLine_50 (by first | exact sh152 | exact sh161 | exact sh162 | rfl | assumption) (by unfold vp_in; decide) ?_
  have hL0 : m_L (x_u μ 162 (upd (upd (upd (μ 162) 1 (-1)) 2 (-1)) 3 (-1))) (x_u (x_u (x_u ν0 162 (upd (ν0 162) (1 : Int32).toNatClampNeg (-1))) 162 (upd (x_u ν0 162 (upd (ν0 162) (1 : Int32).toNatClampNeg (-1)) 162) (2 : Int32).toNatClampNeg (-1))) 162 (upd (x_u (x_u ν0 162 (upd (ν0 162) (1 : Int32).toNatClampNeg (-1))) 162 (upd (x_u ν0 162 (upd (ν0 162) (1 : Int32).toNatClampNeg (-1)) 162) (2 : Int32).toNatClampNeg (-1)) 162) (3 : Int32).toNatClampNeg (-1))) ω0 T L 12 (s_te T L p) (s_blm φ (s_fl 12 G) 3 (s_sp T L p)) 1 0 := by
    obtain ⟨z1, z2, z3, z4, z5, z6, z7, z8, z9⟩ := hLb
    refine ⟨z1.cg (fun j _ _ => rfl) rfl, z2.cg rfl rfl (Nat.le_refl _), z3, fun j h => absurd h (Nat.not_lt_zero j), fun j h => absurd h (Nat.not_lt_zero j), fun j hj => ?_, z7, z8, fun a h1 h2 => ?_⟩
    · rw [x_u_eq, x_u_eq, x_u_eq, x_u_eq, cl1, cl2, cl3]
      have e162 : ν0 162 j = μ 162 j := z6 j hj
      by_cases h3 : j = 3
      · rw [h3, pk_us, pk_us]
      · rw [pk_un h3, pk_un h3]
        by_cases h2 : j = 2
        · rw [h2, pk_us, pk_us]
        · rw [pk_un h2, pk_un h2]
          by_cases h1 : j = 1
          · rw [h1, pk_us, pk_us]
          · rw [pk_un h1, pk_un h1]; exact e162
    · rw [x_u_ne h2, x_u_ne h2, x_u_ne h2, x_u_ne h2]; exact z9 a h1 h2
  obtain ⟨νz, hνz⟩ : ∃ νz, (x_u (x_u (x_u ν0 162 (upd (ν0 162) (1 : Int32).toNatClampNeg (-1))) 162 (upd (x_u ν0 162 (upd (ν0 162) (1 : Int32).toNatClampNeg (-1)) 162) (2 : Int32).toNatClampNeg (-1))) 162 (upd (x_u (x_u ν0 162 (upd (ν0 162) (1 : Int32).toNatClampNeg (-1))) 162 (upd (x_u ν0 162 (upd (ν0 162) (1 : Int32).toNatClampNeg (-1)) 162) (2 : Int32).toNatClampNeg (-1)) 162) (3 : Int32).toNatClampNeg (-1))) = νz := ⟨_, rfl⟩
  change x_T _ _ _ _ _ _ (x_u (x_u (x_u ν0 162 (upd (ν0 162) (1 : Int32).toNatClampNeg (-1))) 162 (upd (x_u ν0 162 (upd (ν0 162) (1 : Int32).toNatClampNeg (-1)) 162) (2 : Int32).toNatClampNeg (-1))) 162 (upd (x_u (x_u ν0 162 (upd (ν0 162) (1 : Int32).toNatClampNeg (-1))) 162 (upd (x_u ν0 162 (upd (ν0 162) (1 : Int32).toNatClampNeg (-1)) 162) (2 : Int32).toNatClampNeg (-1)) 162) (3 : Int32).toNatClampNeg (-1))) _ _
  rw [hνz] at hL0 ⊢
  refine xt_iload _ dX12_dayLine_51 rfl ?_
  refine xt_iconst (3) dX12_dayLine_53 (by decide) ?_
  refine xt_icmp_ne 61 dX12_dayLine_54 (by decide) (fun _ => ?_) (fun q => absurd q (by decide))
  refine xt_iconst (0) dX12_dayLine_61 (by decide) ?_
  refine xt_istore dX12_dayLine_62 (by decide) rfl ?_
  change x_T _ _ _ _ [_, _, _, _, _, _, _, _] _ _ _ _
  refine xt_iload _ dX12_dayLine_64 rfl ?_
  refine xt_iconst (1) dX12_dayLine_66 (by decide) ?_
  refine xt_icmp_le 81 dX12_dayLine_67 (by decide) (fun q => absurd q (by decide)) (fun _ => ?_)
  refine xt_aload_n _ dX12_dayLine_70 rfl ?_
  refine xt_iconst (1) dX12_dayLine_71 (by decide) ?_
  refine xt_iconst (0) dX12_dayLine_72 (by decide) ?_
  refine xt_bipush (7) dX12_dayLine_73 (by decide) ?_
  refine xt_callV _ dX12_dayLine_75 klX12_139 (tX12_takeL sc _ _ hL0 (by decide) (by decide) (by decide)) sh152 rfl rfl (Nat.le_of_ble_eq_true rfl) (fun r5 ν1 ω1 q5 => ?_)
  obtain ⟨ya, yb⟩ := q5
  by_cases hk2 : s_kd T L (s_qs T L (s_te T L p) 0) = 2
  · obtain ⟨rfl, hL1⟩ := ya hk2
    change x_T _ _ _ _ _ (.int 1 :: _) _ _ _
    refine xt_if_eq 127 dX12_dayLine_78 (by decide) (fun q => absurd q (by decide)) (fun _ => ?_)
    refine xt_iload _ dX12_dayLine_81 rfl ?_
    refine xt_iconst (2) dX12_dayLine_83 (by decide) ?_
    refine xt_icmp_le 129 dX12_dayLine_84 (by decide) (fun q => absurd q (by decide)) (fun _ => ?_)
    refine xt_aload_n _ dX12_dayLine_87 rfl ?_
    refine xt_iconst (2) dX12_dayLine_88 (by decide) ?_
    refine xt_iconst (0) dX12_dayLine_89 (by decide) ?_
    refine xt_iload _ dX12_dayLine_90 rfl ?_
    refine xt_if_eq 100 dX12_dayLine_92 (by decide) (fun _ => ?_) (fun q => absurd (by decide) q)
    refine xt_iconst (5) dX12_dayLine_100 (by decide) ?_
    refine xt_callV _ dX12_dayLine_101 klX12_139 (tX12_takeL sc _ _ hL1 (by decide) (by decide) (by decide)) sh152 rfl rfl (Nat.le_of_ble_eq_true rfl) (fun r5 ν2 ω2 q5 => ?_)
    obtain ⟨ya, yb⟩ := q5
    by_cases hk2 : s_kd T L (s_qs T L (s_te T L p) 1) = 2
    · obtain ⟨rfl, hL2⟩ := ya hk2
      change x_T _ _ _ _ _ (.int 1 :: _) _ _ _
      refine xt_if_eq 127 dX12_dayLine_104 (by decide) (fun q => absurd q (by decide)) (fun _ => ?_)
      refine xt_aload_n _ dX12_dayLine_107 rfl ?_
      refine xt_iconst (3) dX12_dayLine_108 (by decide) ?_
      refine xt_iload _ dX12_dayLine_109 rfl ?_
      refine xt_if_eq 118 dX12_dayLine_111 (by decide) (fun _ => ?_) (fun q => absurd (by decide) q)
      refine xt_iconst (1) dX12_dayLine_118 (by decide) ?_
      refine xt_bipush (9) dX12_dayLine_119 (by decide) ?_
      refine xt_callV _ dX12_dayLine_121 klX12_139 (tX12_takeL sc _ _ hL2 (by decide) (by decide) (by decide)) sh152 rfl rfl (Nat.le_of_ble_eq_true rfl) (fun r5 ν3 ω3 q5 => ?_)
      obtain ⟨ya, yb⟩ := q5
      by_cases hk2 : s_kd T L (s_qs T L (s_te T L p) 2) = 2
      · obtain ⟨rfl, hL3⟩ := ya hk2
        change x_T _ _ _ _ _ (.int 1 :: _) _ _ _
        refine xt_if_ne 129 dX12_dayLine_124 (by decide) (fun _ => ?_) (fun q => absurd q (by decide))
        refine xt_aload_n _ dX12_dayLine_129 rfl ?_
        refine xt_getr _ dX12_dayLine_130 kfX12_38 (by first | exact sh152 | exact sh161 | exact sh162 | rfl | assumption) rfl ?_
        refine xt_iconst (0) dX12_dayLine_133 (by decide) ?_
        refine xt_iload _ dX12_dayLine_134 rfl ?_
        refine xt_ast dX12_dayLine_136 (by first | exact sh152 | exact sh161 | exact sh162 | rfl | assumption) (by unfold vp_in; decide) ?_
        refine xt_aload_n _ dX12_dayLine_137 rfl ?_
        refine xt_getr _ dX12_dayLine_138 kfX12_35 (by first | exact sh152 | exact sh161 | exact sh162 | rfl | assumption) rfl ?_
        refine xt_iconst (0) dX12_dayLine_141 (by decide) ?_
        refine xt_ald dX12_dayLine_142 (by first | exact sh152 | exact sh161 | exact sh162 | rfl | assumption) (by unfold vp_in; decide) ?_
        obtain ⟨z1, z2, z3, z4, z5, z6, z7, z8, z9⟩ := hL3
        have hbn : s_bn T L (s_te T L p) 3 = 0 := m_L.bn ⟨z1, z2, z3, z4, z5, z6, z7, z8, z9⟩
        have e161 : (x_u ν3 162 (upd (ν3 162) (0 : Int32).toNatClampNeg 5)) 161 = μ 161 := by rw [x_u_ne (by decide), z7, x_u_ne (by decide)]
        rw [show (x_u ν3 162 (upd (ν3 162) (0 : Int32).toNatClampNeg 5)) 161 (0 : Int32).toNatClampNeg = nI x from (by rw [e161]; exact hx)]
        obtain ⟨νr, hνr⟩ : ∃ νr, (x_u ν3 162 (upd (ν3 162) (0 : Int32).toNatClampNeg 5)) = νr := ⟨_, rfl⟩
        rw [hνr]
        rw [hνr] at e161
        have hrd : ∀ j, j < 4 → νr 162 j = eI (s_dxl 12 (s_nv T L (s_te T L p)) j) := fun j hj => by
          obtain ⟨y0, y⟩ := s_dxl_e 12 (s_nv T L (s_te T L p))
          rw [← hνr, x_u_eq, cl0]
          by_cases h0 : j = 0
          · rw [h0, pk_us, y0]; rfl
          · rw [pk_un h0]
            obtain ⟨i, rfl⟩ : ∃ i, j = 1 + i := ⟨j - 1, by omega⟩
            rw [y i (by omega)]
            by_cases hi : i < 3
            · rw [if_pos (show i < s_gv 12 from hi)]; exact z5 i hi
            · rw [if_neg (show ¬ i < s_gv 12 from hi), z6 (1 + i) (by omega), x_u_eq]
              have h3 : i = 0 ∨ i = 1 ∨ i = 2 := by omega
              rcases h3 with rfl | rfl | rfl <;> rfl
        have e152 : νr 152 = ν3 152 := by rw [← hνr]; exact x_u_ne (by decide)
        have e153 : νr 153 = ν3 153 := by rw [← hνr]; exact x_u_ne (by decide)
        have ene : ∀ a, a ≠ 152 → a ≠ 162 → νr a = μ a := fun a h1 h2 => by rw [← hνr, x_u_ne h2, z9 a h1 h2, x_u_ne h2]
        by_cases hlt4 : x < 40
        · skip
          refine xt_istore dX12_dayLine_143 (by decide) rfl ?_
          change x_T _ _ _ _ [_, _, _, _, _, _, _, _] _ _ _ _
          refine xt_iconst (0) dX12_dayLine_145 (by decide) ?_
          refine xt_istore dX12_dayLine_146 (by decide) rfl ?_
          change x_T _ _ _ _ [_, _, _, _, _, _, _, _] _ _ _ _
          have L148 : ∀ (n148 m : Nat) (μ2 : x_Me) (h161 : μ2 161 = s_wm (νr 161) 1 1 (4 * x) (νr 162) m) (hfm : ∀ a, a ≠ 161 → μ2 a = νr a), m + n148 = 4 → x_T sc (d + 3) mX12_dayLine 148 [.ref 152, .long v, .retAddr 0, .int (nI (s_sp T L p)), .int 5, .int 0, .int (nI x), .int (nI m)] [] μ2 ω3 (fun r μ' w' => (s_bn T L (s_te T L p) 3 = 0 → r = some (.int 1) ∧ m_K μ' w' T L (s_qs T L (s_te T L p) 3) ∧ m_F μ' (s_nf T L 12 (s_te T L p) (s_blm φ (s_fl 12 G) 3 (s_sp T L p)) 3) (s_qs T L (s_te T L p) 3) ∧ m_C μ' 1 (s_nf T L 12 (s_te T L p) (s_blm φ (s_fl 12 G) 3 (s_sp T L p)) 3) (if (s_nf T L 12 (s_te T L p) (s_blm φ (s_fl 12 G) 3 (s_sp T L p)) 3).1 = 0 then s_kp 12 (s_nv T L (s_te T L p)) G else G) (if (s_nf T L 12 (s_te T L p) (s_blm φ (s_fl 12 G) 3 (s_sp T L p)) 3).1 = 0 then s_mxl 12 (s_nv T L (s_te T L p)) mx else mx)) ∧ (s_bn T L (s_te T L p) 3 ≠ 0 → r = some (.int 0) ∧ μ' 152 15 = nI (s_sp T L (s_qs T L (s_te T L p) (s_bn T L (s_te T L p) 3 - 1)))) ∧ ∀ a, a ≠ 152 → a ≠ 161 → a ≠ 162 → μ' a = μ a) := by
            intro n148
            induction n148 with
            | zero =>
              intro m μ2 h161 hfm hmn
              obtain rfl : 4 = m := by omega
              refine xt_iload _ dX12_dayLine_148 rfl ?_
              refine xt_iconst (4) dX12_dayLine_150 (by decide) ?_
              refine xt_icmp_ge 188 dX12_dayLine_151 (by decide) (fun _ => ?_) (fun q => absurd (by decide) q)
              refine xt_aload_n _ dX12_dayLine_188 rfl ?_
              refine xt_getr _ dX12_dayLine_189 kfX12_35 (by first | exact sh152 | exact sh161 | exact sh162 | rfl | assumption) rfl ?_
              refine xt_iconst (0) dX12_dayLine_192 (by decide) ?_
              refine xt_bipush (40) dX12_dayLine_193 (by decide) ?_
              refine xt_iload _ dX12_dayLine_195 rfl ?_
              refine xt_iconst (1) dX12_dayLine_197 (by decide) ?_
              refine xt_iadd dX12_dayLine_198 ?_
              refine xt_cS _ dX12_dayLine_199 klX12_209 (tX12_lesser sc _ _ _ _ _) rfl rfl (Nat.le_of_ble_eq_true rfl) ?_
              rw [s_le40 hlt4]
              refine xt_ast dX12_dayLine_202 (by first | exact sh152 | exact sh161 | exact sh162 | rfl | assumption) (by unfold vp_in; decide) ?_
              refine xt_iconst (1) dX12_dayLine_203 (by decide) ?_
              refine xt_iret .boolean dX12_dayLine_204 rfl (by rfl) ?_
              refine ⟨fun _ => ⟨rfl, z1.cg (fun j _ _ => by rw [x_u_ne (by decide), hfm 152 (by decide), e152]) (by rw [x_u_ne (by decide), hfm 153 (by decide), e153]), z2.cg (by rw [x_u_ne (by decide), hfm 152 (by decide), e152]) (by rw [x_u_ne (by decide), hfm 152 (by decide), e152]) (Nat.le_refl _), ?_, ?_⟩, fun h => absurd hbn h, fun a h1 h2 h3 => by rw [x_u_ne h2, hfm a h2]; exact ene a h1 h3⟩
              · intro hz
                rw [if_pos hz, if_pos hz]
                obtain ⟨hz1, _⟩ := s_nf_0 hz
                obtain ⟨hz0, hfl⟩ := s_blm_0 (by decide) hz1
                have hxe := hxG hz0
                obtain ⟨k0, ka, kn⟩ := s_kp_d_at (k := 12) (by decide) (by decide) (s_nv T L (s_te T L p)) G
                refine ⟨fun i hi => ?_, by rw [x_u_ne (by decide), hfm 152 (by decide), e152, z8]; exact (hC.1 hz0).2⟩
                rw [x_u_eq, cl0, h161, e161]
                by_cases h0 : i = 0
                · rw [h0, pk_us, k0, hxe]; rfl
                · rw [pk_un h0]
                  rw [show s_tv 1 i _ = eI _ from if_pos ⟨rfl, h0⟩]
                  by_cases hin : 1 + 4 * x ≤ i ∧ i < 5 + 4 * x
                  · obtain ⟨j, rfl⟩ : ∃ j, i = 1 + 1 * j + 4 * x := ⟨i - (1 + 4 * x), by omega⟩
                    rw [s_wm_at (by decide) (by omega), hrd j (by omega), show 1 + 1 * j + 4 * x = 1 + 4 * G 0 + j by omega, ka j (by omega)]
                  · rw [s_wm_no (fun j hj => by omega), kn i h0 (by omega), (hC.1 hz0).1 i hi]
                    exact if_pos ⟨rfl, h0⟩
              · refine ⟨fun h => absurd h (by decide), fun _ => ⟨x + 1, by omega, ?_⟩, fun h => absurd h (by decide)⟩
                rw [x_u_eq, cl0, pk_us]
            | succ n148 ih148 =>
              intro m μ2 h161 hfm hmn
              have hlt : m < 4 := by omega
              have hix : (1 : Int32) + 4 * nI x + nI m = nI (1 + 4 * x + m) := by rw [show (1 : Int32) = nI 1 from rfl, show (4 : Int32) = nI 4 from rfl, pk_mul, nI_add, nI_add]
              refine xt_iload _ dX12_dayLine_148 rfl ?_
              refine xt_iconst (4) dX12_dayLine_150 (by decide) ?_
              refine xt_icmp_ge 188 dX12_dayLine_151 (by decide) (fun q => absurd q (nI_ge (b := 4) hlt (by decide))) (fun _ => ?_)
              refine xt_iload _ dX12_dayLine_154 rfl ?_
              refine xt_bipush (40) dX12_dayLine_156 (by decide) ?_
              refine xt_icmp_ge 188 dX12_dayLine_158 (by decide) (fun q => absurd q (nI_ge hlt4 (by decide))) (fun _ => ?_)
              refine xt_aload_n _ dX12_dayLine_161 rfl ?_
              refine xt_getr _ dX12_dayLine_162 kfX12_35 (by first | exact sh152 | exact sh161 | exact sh162 | rfl | assumption) rfl ?_
              refine xt_iconst (1) dX12_dayLine_165 (by decide) ?_
              refine xt_iconst (4) dX12_dayLine_166 (by decide) ?_
              refine xt_iload _ dX12_dayLine_167 rfl ?_
              refine xt_imul dX12_dayLine_169 ?_
              refine xt_iadd dX12_dayLine_170 ?_
              refine xt_iload _ dX12_dayLine_171 rfl ?_
              refine xt_iadd dX12_dayLine_173 ?_
              refine xt_aload_n _ dX12_dayLine_174 rfl ?_
              refine xt_getr _ dX12_dayLine_175 kfX12_38 (by first | exact sh152 | exact sh161 | exact sh162 | rfl | assumption) rfl ?_
              refine xt_iload _ dX12_dayLine_178 rfl ?_
              refine xt_ald dX12_dayLine_180 (by first | exact sh152 | exact sh161 | exact sh162 | rfl | assumption) (by exact vp_in_nI (by omega) (by decide)) ?_
              refine xt_ast dX12_dayLine_181 (by first | exact sh152 | exact sh161 | exact sh162 | rfl | assumption) (by rw [hix]; exact vp_in_nI (by omega) (by decide)) ?_
              refine xt_inc _ (1) dX12_dayLine_182 rfl (by decide) (by decide) rfl ?_
              change x_T _ _ _ _ [_, _, _, _, _, _, _, _] _ _ _ _
              refine xt_goto 148 dX12_dayLine_185 (by decide) ?_
              refine x_T.ls (by rw [nI_succ m]) (ih148 (m + 1) _ ?_ (fun a h => by rw [x_u_ne h]; exact hfm a h) (by omega))
              rw [x_u_eq, hix, nI_clamp (by omega), nI_clamp (by omega), h161, hfm 162 (by decide), s_wm, show 1 + 1 * m + 4 * x = 1 + 4 * x + m by omega]
          exact L148 4 0 νr rfl (fun _ _ => rfl) (by omega)
        · skip
          refine xt_istore dX12_dayLine_143 (by decide) rfl ?_
          change x_T _ _ _ _ [_, _, _, _, _, _, _, _] _ _ _ _
          refine xt_iconst (0) dX12_dayLine_145 (by decide) ?_
          refine xt_istore dX12_dayLine_146 (by decide) rfl ?_
          change x_T _ _ _ _ [_, _, _, _, _, _, _, _] _ _ _ _
          refine xt_iload _ dX12_dayLine_148 rfl ?_
          refine xt_iconst (4) dX12_dayLine_150 (by decide) ?_
          refine xt_icmp_ge 188 dX12_dayLine_151 (by decide) (fun q => absurd q (by decide)) (fun _ => ?_)
          refine xt_iload _ dX12_dayLine_154 rfl ?_
          refine xt_bipush (40) dX12_dayLine_156 (by decide) ?_
          refine xt_icmp_ge 188 dX12_dayLine_158 (by decide) (fun _ => ?_) (fun q => absurd (by rw [show x = 40 by omega]; decide) q)
          refine xt_aload_n _ dX12_dayLine_188 rfl ?_
          refine xt_getr _ dX12_dayLine_189 kfX12_35 (by first | exact sh152 | exact sh161 | exact sh162 | rfl | assumption) rfl ?_
          refine xt_iconst (0) dX12_dayLine_192 (by decide) ?_
          refine xt_bipush (40) dX12_dayLine_193 (by decide) ?_
          refine xt_iload _ dX12_dayLine_195 rfl ?_
          refine xt_iconst (1) dX12_dayLine_197 (by decide) ?_
          refine xt_iadd dX12_dayLine_198 ?_
          refine xt_cS _ dX12_dayLine_199 klX12_209 (tX12_lesser sc _ _ _ _ _) rfl rfl (Nat.le_of_ble_eq_true rfl) ?_
          rw [s_le40b (show x = 40 by omega)]
          refine xt_ast dX12_dayLine_202 (by first | exact sh152 | exact sh161 | exact sh162 | rfl | assumption) (by unfold vp_in; decide) ?_
          refine xt_iconst (1) dX12_dayLine_203 (by decide) ?_
          refine xt_iret .boolean dX12_dayLine_204 rfl (by rfl) ?_
          refine ⟨fun _ => ⟨rfl, z1.cg (fun j _ _ => by rw [x_u_ne (by decide), e152]) (by rw [x_u_ne (by decide), e153]), z2.cg (by rw [x_u_ne (by decide), e152]) (by rw [x_u_ne (by decide), e152]) (Nat.le_refl _), ?_, ?_⟩, fun h => absurd hbn h, fun a h1 h2 h3 => by rw [x_u_ne h2]; exact ene a h1 h3⟩
          · intro hz
            exfalso
            obtain ⟨hz1, _⟩ := s_nf_0 hz
            obtain ⟨hz0, hfl⟩ := s_blm_0 (by decide) hz1
            have hxe := hxG hz0
            have h5 : decide (40 ≤ G 0) = false := hfl
            have := of_decide_eq_false h5
            omega
          · refine ⟨fun h => absurd h (by decide), fun _ => ⟨40, Nat.le_refl _, ?_⟩, fun h => absurd h (by decide)⟩
            rw [x_u_eq, cl0, pk_us]; rfl
      · obtain ⟨rfl, hBad⟩ := yb hk2
        change x_T _ _ _ _ _ (.int 0 :: _) _ _ _
        refine xt_if_ne 129 dX12_dayLine_124 (by decide) (fun q => absurd (by decide) q) (fun _ => ?_)
        refine xt_iconst (0) dX12_dayLine_127 (by decide) ?_
        refine xt_iret .boolean dX12_dayLine_128 rfl (by rfl) ?_
        refine ⟨fun h => absurd h (by rw [hBad.bn (g := 3) (by decide)]; exact Nat.succ_ne_zero _), fun _ => ⟨rfl, by rw [hBad.bn (g := 3) (by decide)]; exact hBad.1⟩, fun a h1 _ h3 => by rw [hBad.2.2.2 a h1 h3, x_u_ne h3]⟩
    · obtain ⟨rfl, hBad⟩ := yb hk2
      change x_T _ _ _ _ _ (.int 0 :: _) _ _ _
      refine xt_if_eq 127 dX12_dayLine_104 (by decide) (fun _ => ?_) (fun q => absurd (by decide) q)
      refine xt_iconst (0) dX12_dayLine_127 (by decide) ?_
      refine xt_iret .boolean dX12_dayLine_128 rfl (by rfl) ?_
      refine ⟨fun h => absurd h (by rw [hBad.bn (g := 3) (by decide)]; exact Nat.succ_ne_zero _), fun _ => ⟨rfl, by rw [hBad.bn (g := 3) (by decide)]; exact hBad.1⟩, fun a h1 _ h3 => by rw [hBad.2.2.2 a h1 h3, x_u_ne h3]⟩
  · obtain ⟨rfl, hBad⟩ := yb hk2
    change x_T _ _ _ _ _ (.int 0 :: _) _ _ _
    refine xt_if_eq 127 dX12_dayLine_78 (by decide) (fun _ => ?_) (fun q => absurd (by decide) q)
    refine xt_iconst (0) dX12_dayLine_127 (by decide) ?_
    refine xt_iret .boolean dX12_dayLine_128 rfl (by rfl) ?_
    refine ⟨fun h => absurd h (by rw [hBad.bn (g := 3) (by decide)]; exact Nat.succ_ne_zero _), fun _ => ⟨rfl, by rw [hBad.bn (g := 3) (by decide)]; exact hBad.1⟩, fun a h1 _ h3 => by rw [hBad.2.2.2 a h1 h3, x_u_ne h3]⟩
end DLINES
