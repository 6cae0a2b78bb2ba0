/-! texts: the reference reads LOGS; lines by their words -/
section LLINES
variable (sc : Nat × (Nat → Int32)) (d : Nat) (μ : x_Me) (w : Int64)
set_option maxHeartbeats 4000000 in
theorem tX12_line13 (T : Nat → Nat) (L p : Nat) (φ : Nat × Nat) (G : Nat → Nat) (mx : Nat) (hK : m_K μ w T L p) (hk1 : s_kd T L p = 1) (hF : m_F μ φ p) (hg : μ 152 21 = 1) (hC : m_C μ 2 φ G mx) (hW : g_W 2 G) : x_K sc (d + 3) mX12_logLine [.ref 152, .long (s_W 13), .int (nI (s_sp T L p))] μ w (fun r μ' w' => (s_bn T L (s_te T L p) 1 = 0 → r = some (.int 1) ∧ m_K μ' w' T L (s_qs T L (s_te T L p) 1) ∧ m_F μ' (s_nf T L 13 (s_te T L p) (s_blm φ (s_fl 13 G) 3 (s_sp T L p)) 1) (s_qs T L (s_te T L p) 1) ∧ m_C μ' 2 (s_nf T L 13 (s_te T L p) (s_blm φ (s_fl 13 G) 3 (s_sp T L p)) 1) (if (s_nf T L 13 (s_te T L p) (s_blm φ (s_fl 13 G) 3 (s_sp T L p)) 1).1 = 0 then s_kp 13 (s_nv T L (s_te T L p)) G else G) (if (s_nf T L 13 (s_te T L p) (s_blm φ (s_fl 13 G) 3 (s_sp T L p)) 1).1 = 0 then s_mxl 13 (s_nv T L (s_te T L p)) mx else mx)) ∧ (s_bn T L (s_te T L p) 1 ≠ 0 → r = some (.int 0) ∧ μ' 152 15 = nI (s_sp T L (s_qs T L (s_te T L p) (s_bn T L (s_te T L p) 1 - 1)))) ∧ ∀ a, a ≠ 152 → a ≠ 161 → a ≠ 162 → μ' a = μ a) := by
  have hL := hK.1.2.1
  have htl := s_te_le hK.1.2.2.2 hK.2.1
  have hsl := s_sp_le hK.1.2.2.2 hK.2.1
  have hlt : s_sp T L p < s_te T L p := s_sp_lt (by omega) (by omega)
  refine x_K.of (by decide) (Nat.le_of_ble_eq_true rfl) ?_
  show x_T sc (d + 3) mX12_logLine 0 [.ref 152, .long (s_W 13), .retAddr 0, .int (nI (s_sp T L p)), .retAddr 0] [] μ w _
  refine xt_lload_n _ dX12_logLine_0 rfl ?_
  refine xt_ldc2 _ dX12_logLine_1 kkX12_212 ?_
  refine xt_lcmp dX12_logLine_4 ?_
  refine xt_if_eq 29 dX12_logLine_5 (by decide) (fun _ => ?_) (fun q => absurd (x_lcmp0.mpr rfl) q)
  refine xt_lload_n _ dX12_logLine_29 rfl ?_
  refine xt_ldc2 _ dX12_logLine_30 kkX12_212 ?_
  refine xt_lcmp dX12_logLine_33 ?_
  refine xt_if_eq 45 dX12_logLine_34 (by decide) (fun _ => ?_) (fun q => absurd (x_lcmp0.mpr rfl) q)
  refine xt_aload_n _ dX12_logLine_45 rfl ?_
  refine xt_callV _ dX12_logLine_46 klX12_136 (tX12_token sc _ μ w T L hK.1 (s_te T L p) htl.2.2 (hK.2.2.2.2.1 (by omega))) sh152 rfl rfl (Nat.le_of_ble_eq_true rfl) (fun r2 ν0 ω0 q2 => ?_)
  obtain ⟨rfl, q2⟩ := q2
  change x_T _ _ _ _ _ _ _ _ _
  have hφ1 : (s_blm φ (s_fl 13 G) 3 (s_sp T L p)) = φ := s_blm_f
  have hL0 : m_L μ ν0 ω0 T L 13 (s_te T L p) (s_blm φ (s_fl 13 G) 3 (s_sp T L p)) 1 0 := ⟨m_K.next hK.1 htl.2.2 q2, by rw [hφ1]; exact hF.cg (q2.2.2.2.2.2.1 16 (by decide) (by decide) (by decide) (by decide)) (q2.2.2.2.2.2.1 17 (by decide) (by decide) (by decide) (by decide)) htl.2.1, by rw [q2.2.2.2.2.2.1 21 (by decide) (by decide) (by decide) (by decide), hg]; rfl, fun j h => absurd h (Nat.not_lt_zero j), fun j h => absurd h (Nat.not_lt_zero j), fun j _ => by rw [q2.2.2.2.2.2.2 162 (by decide)], q2.2.2.2.2.2.2 161 (by decide), q2.2.2.2.2.2.1 20 (by decide) (by decide) (by decide) (by decide), fun a h1 _ => q2.2.2.2.2.2.2 a h1⟩
  refine xt_aload_n _ dX12_logLine_49 rfl ?_
  refine xt_iconst (1) dX12_logLine_50 (by decide) ?_
  refine xt_iconst (0) dX12_logLine_51 (by decide) ?_
  refine xt_lload_n _ dX12_logLine_52 rfl ?_
  refine xt_ldc2 _ dX12_logLine_53 kkX12_212 ?_
  refine xt_lcmp dX12_logLine_56 ?_
  refine xt_if_ne 65 dX12_logLine_57 (by decide) (fun q => absurd (x_lcmp0.mpr rfl) q) (fun _ => ?_)
  refine xt_bipush (8) dX12_logLine_60 (by decide) ?_
  refine xt_goto 67 dX12_logLine_62 (by decide) ?_
  refine xt_callV _ dX12_logLine_67 klX12_139 (tX12_takeL sc _ μ hL0 (by decide) (by decide) (by decide)) sh152 rfl rfl (Nat.le_of_ble_eq_true rfl) (fun r5 ν1 ω1 q5 => ?_)
  obtain ⟨ya, yb⟩ := q5
  by_cases hk2 : s_kd T L (s_qs T L (s_te T L p) 0) = 2
  · obtain ⟨rfl, hL1⟩ := ya hk2
    change x_T _ _ _ _ _ (.int 1 :: _) _ _ _
    refine xt_if_ne 75 dX12_logLine_70 (by decide) (fun _ => ?_) (fun q => absurd q (by decide))
    refine xt_aload_n _ dX12_logLine_75 rfl ?_
    refine xt_getr _ dX12_logLine_76 kfX12_35 (by first | exact sh152 | exact sh161 | exact sh162 | rfl | assumption) rfl ?_
    refine xt_iconst (1) dX12_logLine_79 (by decide) ?_
    refine xt_ald dX12_logLine_80 (by first | exact sh152 | exact sh161 | exact sh162 | rfl | assumption) (by unfold vp_in; decide) ?_
    refine xt_istore dX12_logLine_81 (by decide) rfl ?_
    change x_T _ _ _ _ [_, _, _, _, _] _ _ _ _
    refine xt_lload_n _ dX12_logLine_83 rfl ?_
    refine xt_ldc2 _ dX12_logLine_84 kkX12_212 ?_
    refine xt_lcmp dX12_logLine_87 ?_
    refine xt_if_ne 122 dX12_logLine_88 (by decide) (fun q => absurd (x_lcmp0.mpr rfl) q) (fun _ => ?_)
    refine xt_aload_n _ dX12_logLine_91 rfl ?_
    refine xt_getr _ dX12_logLine_92 kfX12_35 (by first | exact sh152 | exact sh161 | exact sh162 | rfl | assumption) rfl ?_
    refine xt_iconst (0) dX12_logLine_95 (by decide) ?_
    refine xt_aload_n _ dX12_logLine_96 rfl ?_
    refine xt_geti dX12_logLine_97 kfX12_132 (by first | exact sh152 | exact sh161 | exact sh162 | rfl | assumption) rfl ?_
    refine xt_if_eq 112 dX12_logLine_100 (by decide) (fun t100 => ?_) (fun f100 => ?_)
    · refine xt_aload_n _ dX12_logLine_112 rfl ?_
      refine xt_getr _ dX12_logLine_113 kfX12_35 (by first | exact sh152 | exact sh161 | exact sh162 | rfl | assumption) rfl ?_
      refine xt_iconst (0) dX12_logLine_116 (by decide) ?_
      refine xt_ald dX12_logLine_117 (by first | exact sh152 | exact sh161 | exact sh162 | rfl | assumption) (by unfold vp_in; decide) ?_
      refine xt_ast dX12_logLine_118 (by first | exact sh152 | exact sh161 | exact sh162 | rfl | assumption) (by unfold vp_in; decide) ?_
      refine xt_goto 180 dX12_logLine_119 (by decide) ?_
      refine xt_iconst (1) dX12_logLine_180 (by decide) ?_
      refine xt_iret .boolean dX12_logLine_181 rfl (by rfl) ?_
      obtain ⟨z1, z2, z3, z4, z5, z6, z7, z8, z9⟩ := hL1
      have hbn : s_bn T L (s_te T L p) 1 = 0 := m_L.bn ⟨z1, z2, z3, z4, z5, z6, z7, z8, z9⟩
      have hrd : ν1 162 1 = nI (s_nv T L (s_te T L p) 0) := z5 0 (by decide)
      rw [cl0]
      refine ⟨fun _ => ⟨rfl, z1.cg (fun j _ _ => by rw [x_u_ne (by decide)]) (x_u_ne (by decide)), z2.cg (by rw [x_u_ne (by decide)]) (by rw [x_u_ne (by decide)]) (Nat.le_refl _), ?_, ?_⟩, fun h => absurd hbn h, fun a h1 h2 h3 => by rw [x_u_ne h2]; exact z9 a h1 h3⟩
      · intro hz
        have hgd := s_nf_gd hz 1 (Nat.le_refl _)
        rw [hgd, if_pos rfl] at z3
        exact absurd (z3.symm.trans t100) (by decide)
      · refine ⟨fun h => absurd h (by decide), fun h => absurd h (by decide), fun _ => ?_⟩
        obtain ⟨y, hy1, hy⟩ := hC.2.2.2 rfl
        rw [x_u_eq, pk_un (by decide), z7]; exact ⟨y, hy1, hy⟩
    · refine xt_aload_n _ dX12_logLine_103 rfl ?_
      refine xt_getr _ dX12_logLine_104 kfX12_38 (by first | exact sh152 | exact sh161 | exact sh162 | rfl | assumption) rfl ?_
      refine xt_iconst (1) dX12_logLine_107 (by decide) ?_
      refine xt_ald dX12_logLine_108 (by first | exact sh152 | exact sh161 | exact sh162 | rfl | assumption) (by unfold vp_in; decide) ?_
      refine xt_goto 118 dX12_logLine_109 (by decide) ?_
      refine xt_ast dX12_logLine_118 (by first | exact sh152 | exact sh161 | exact sh162 | rfl | assumption) (by unfold vp_in; decide) ?_
      refine xt_goto 180 dX12_logLine_119 (by decide) ?_
      refine xt_iconst (1) dX12_logLine_180 (by decide) ?_
      refine xt_iret .boolean dX12_logLine_181 rfl (by rfl) ?_
      obtain ⟨z1, z2, z3, z4, z5, z6, z7, z8, z9⟩ := hL1
      have hbn : s_bn T L (s_te T L p) 1 = 0 := m_L.bn ⟨z1, z2, z3, z4, z5, z6, z7, z8, z9⟩
      have hrd : ν1 162 1 = nI (s_nv T L (s_te T L p) 0) := z5 0 (by decide)
      rw [cl0, cl1]
      refine ⟨fun _ => ⟨rfl, z1.cg (fun j _ _ => by rw [x_u_ne (by decide)]) (x_u_ne (by decide)), z2.cg (by rw [x_u_ne (by decide)]) (by rw [x_u_ne (by decide)]) (Nat.le_refl _), ?_, ?_⟩, fun h => absurd hbn h, fun a h1 h2 h3 => by rw [x_u_ne h2]; exact z9 a h1 h3⟩
      · intro hz
        rw [if_pos hz, if_pos hz]
        obtain ⟨hz1, _⟩ := s_nf_0 hz
        obtain ⟨hz0, hfl⟩ := s_blm_0 (by decide) hz1
        have x0 : s_kp 13 (s_nv T L (s_te T L p)) G 0 = s_nv T L (s_te T L p) 0 := s_rw_at (G := G) (b := 0) (st := 1) (k := 0) (v := s_nv T L (s_te T L p)) (j := 0) (n := 1) (by decide) (by decide)
        have xn : ∀ x, x ≠ 0 → s_kp 13 (s_nv T L (s_te T L p)) G x = G x := fun x hx => s_rw_ne (b := 0) (st := 1) (k := 0) (n := 1) (fun i hi => by omega)
        refine ⟨fun i hi => ?_, by rw [x_u_ne (by decide), z8]; exact (hC.1 hz0).2⟩
        rw [x_u_eq]
        by_cases h0 : i = 0
        · rw [h0, pk_us, x0, hrd]; rfl
        · rw [pk_un h0, xn i h0, z7]; exact (hC.1 hz0).1 i hi
      · refine ⟨fun h => absurd h (by decide), fun h => absurd h (by decide), fun _ => ?_⟩
        obtain ⟨y, hy1, hy⟩ := hC.2.2.2 rfl
        rw [x_u_eq, pk_un (by decide), z7]; exact ⟨y, hy1, hy⟩
  · obtain ⟨rfl, hBad⟩ := yb hk2
    change x_T _ _ _ _ _ (.int 0 :: _) _ _ _
    refine xt_if_ne 75 dX12_logLine_70 (by decide) (fun q => absurd (by decide) q) (fun _ => ?_)
    refine xt_iconst (0) dX12_logLine_73 (by decide) ?_
    refine xt_iret .boolean dX12_logLine_74 rfl (by rfl) ?_
    refine ⟨fun h => absurd h (by rw [hBad.bn (g := 1) (by decide)]; exact Nat.succ_ne_zero _), fun _ => ⟨rfl, by rw [hBad.bn (g := 1) (by decide)]; exact hBad.1⟩, fun a h1 _ h3 => hBad.2.2.2 a h1 h3⟩
set_option maxHeartbeats 4000000 in
theorem tX12_line14 (T : Nat → Nat) (L p : Nat) (φ : Nat × Nat) (G : Nat → Nat) (mx : Nat) (hK : m_K μ w T L p) (hk1 : s_kd T L p = 1) (hF : m_F μ φ p) (hg : μ 152 21 = 1) (hC : m_C μ 2 φ G mx) (hW : g_W 2 G) : x_K sc (d + 3) mX12_logLine [.ref 152, .long (s_W 14), .int (nI (s_sp T L p))] μ w (fun r μ' w' => (s_bn T L (s_te T L p) 1 = 0 → r = some (.int 1) ∧ m_K μ' w' T L (s_qs T L (s_te T L p) 1) ∧ m_F μ' (s_nf T L 14 (s_te T L p) (s_blm φ (s_fl 14 G) 3 (s_sp T L p)) 1) (s_qs T L (s_te T L p) 1) ∧ m_C μ' 2 (s_nf T L 14 (s_te T L p) (s_blm φ (s_fl 14 G) 3 (s_sp T L p)) 1) (if (s_nf T L 14 (s_te T L p) (s_blm φ (s_fl 14 G) 3 (s_sp T L p)) 1).1 = 0 then s_kp 14 (s_nv T L (s_te T L p)) G else G) (if (s_nf T L 14 (s_te T L p) (s_blm φ (s_fl 14 G) 3 (s_sp T L p)) 1).1 = 0 then s_mxl 14 (s_nv T L (s_te T L p)) mx else mx)) ∧ (s_bn T L (s_te T L p) 1 ≠ 0 → r = some (.int 0) ∧ μ' 152 15 = nI (s_sp T L (s_qs T L (s_te T L p) (s_bn T L (s_te T L p) 1 - 1)))) ∧ ∀ a, a ≠ 152 → a ≠ 161 → a ≠ 162 → μ' a = μ a) := by
  have hL := hK.1.2.1
  have htl := s_te_le hK.1.2.2.2 hK.2.1
  have hsl := s_sp_le hK.1.2.2.2 hK.2.1
  have hlt : s_sp T L p < s_te T L p := s_sp_lt (by omega) (by omega)
  refine x_K.of (by decide) (Nat.le_of_ble_eq_true rfl) ?_
  show x_T sc (d + 3) mX12_logLine 0 [.ref 152, .long (s_W 14), .retAddr 0, .int (nI (s_sp T L p)), .retAddr 0] [] μ w _
  refine xt_lload_n _ dX12_logLine_0 rfl ?_
  refine xt_ldc2 _ dX12_logLine_1 kkX12_212 ?_
  refine xt_lcmp dX12_logLine_4 ?_
  refine xt_if_eq 29 dX12_logLine_5 (by decide) (fun q => absurd q (fun z => absurd (x_lcmp0.mp z) (by decide))) (fun _ => ?_)
  refine xt_lload_n _ dX12_logLine_8 rfl ?_
  refine xt_ldc2 _ dX12_logLine_9 kkX12_214 ?_
  refine xt_lcmp dX12_logLine_12 ?_
  refine xt_if_eq 29 dX12_logLine_13 (by decide) (fun _ => ?_) (fun q => absurd (x_lcmp0.mpr rfl) q)
  refine xt_lload_n _ dX12_logLine_29 rfl ?_
  refine xt_ldc2 _ dX12_logLine_30 kkX12_212 ?_
  refine xt_lcmp dX12_logLine_33 ?_
  refine xt_if_eq 45 dX12_logLine_34 (by decide) (fun q => absurd q (fun z => absurd (x_lcmp0.mp z) (by decide))) (fun _ => ?_)
  refine xt_aload_n _ dX12_logLine_37 rfl ?_
  refine xt_iconst (1) dX12_logLine_38 (by decide) ?_
  refine xt_bipush (8) dX12_logLine_39 (by decide) ?_
  refine xt_iload_n _ dX12_logLine_41 rfl ?_
  obtain ⟨x, hx1, hx⟩ := hC.2.2.2 rfl
  have hx1 : x ≤ 8 := hx1
  refine xt_callV _ dX12_logLine_42 klX12_142 (tX12_full sc _ μ w φ p 1 8 (s_sp T L p) x hF hsl.1 (by omega) (by decide) hx hx1 (by decide)) sh152 rfl rfl (Nat.le_of_ble_eq_true rfl) (fun r1 μ1 w1 q1 => ?_)
  obtain ⟨rfl, rfl, hF1, hj1, hf1⟩ := q1
  change x_T _ _ _ _ _ _ _ _ _
  have hxG : φ.1 = 0 → x = G 1 := fun z => (nI_eq (by omega) (by have := (show gl_W G from hW).2.1; omega)).mp (hx.symm.trans ((hC.1 z).1 1 (by decide)))
  have hφ1 : s_blm φ (decide (x = 8)) 3 (s_sp T L p) = (s_blm φ (s_fl 14 G) 3 (s_sp T L p)) := by
    by_cases hz : φ.1 = 0
    · rw [hxG hz, show s_fl 14 G = decide (G 1 = 8) from (decide_eq_decide.mpr (by have := (show gl_W G from hW).2.1; omega) : decide (8 ≤ G 1) = decide (G 1 = 8))]
    · rw [s_blm_n hz, s_blm_n hz]
  rw [hφ1] at hF1
  refine xt_aload_n _ dX12_logLine_45 rfl ?_
  refine xt_callV _ dX12_logLine_46 klX12_136 (tX12_token sc _ μ1 w1 T L (hK.1.cg (hj1 10 (by decide) (by decide)) (hf1 153 (by decide))) (s_te T L p) htl.2.2 (by rw [hj1 9 (by decide) (by decide)]; exact hK.2.2.2.2.1 (by omega))) sh152 rfl rfl (Nat.le_of_ble_eq_true rfl) (fun r2 ν0 ω0 q2 => ?_)
  obtain ⟨rfl, q2⟩ := q2
  change x_T _ _ _ _ _ _ _ _ _
  have hL0 : m_L μ ν0 ω0 T L 14 (s_te T L p) (s_blm φ (s_fl 14 G) 3 (s_sp T L p)) 1 0 := ⟨m_K.next (hK.1.cg (hj1 10 (by decide) (by decide)) (hf1 153 (by decide))) htl.2.2 q2, hF1.cg (q2.2.2.2.2.2.1 16 (by decide) (by decide) (by decide) (by decide)) (q2.2.2.2.2.2.1 17 (by decide) (by decide) (by decide) (by decide)) (by show s_sp T L p + 1 ≤ s_te T L p; omega), by rw [q2.2.2.2.2.2.1 21 (by decide) (by decide) (by decide) (by decide), hj1 21 (by decide) (by decide), hg]; rfl, fun j h => absurd h (Nat.not_lt_zero j), fun j h => absurd h (Nat.not_lt_zero j), fun j _ => by rw [q2.2.2.2.2.2.2 162 (by decide), hf1 162 (by decide)], by rw [q2.2.2.2.2.2.2 161 (by decide), hf1 161 (by decide)], by rw [q2.2.2.2.2.2.1 20 (by decide) (by decide) (by decide) (by decide), hj1 20 (by decide) (by decide)], fun a h1 _ => by rw [q2.2.2.2.2.2.2 a h1, hf1 a h1]⟩
  refine xt_aload_n _ dX12_logLine_49 rfl ?_
  refine xt_iconst (1) dX12_logLine_50 (by decide) ?_
  refine xt_iconst (0) dX12_logLine_51 (by decide) ?_
  refine xt_lload_n _ dX12_logLine_52 rfl ?_
  refine xt_ldc2 _ dX12_logLine_53 kkX12_212 ?_
  refine xt_lcmp dX12_logLine_56 ?_
  refine xt_if_ne 65 dX12_logLine_57 (by decide) (fun _ => ?_) (fun q => absurd q (fun z => absurd (x_lcmp0.mp z) (by decide)))
  refine xt_bipush (63) dX12_logLine_65 (by decide) ?_
  refine xt_callV _ dX12_logLine_67 klX12_139 (tX12_takeL sc _ μ hL0 (by decide) (by decide) (by decide)) sh152 rfl rfl (Nat.le_of_ble_eq_true rfl) (fun r5 ν1 ω1 q5 => ?_)
  obtain ⟨ya, yb⟩ := q5
  by_cases hk2 : s_kd T L (s_qs T L (s_te T L p) 0) = 2
  · obtain ⟨rfl, hL1⟩ := ya hk2
    change x_T _ _ _ _ _ (.int 1 :: _) _ _ _
    refine xt_if_ne 75 dX12_logLine_70 (by decide) (fun _ => ?_) (fun q => absurd q (by decide))
    refine xt_aload_n _ dX12_logLine_75 rfl ?_
    refine xt_getr _ dX12_logLine_76 kfX12_35 (by first | exact sh152 | exact sh161 | exact sh162 | rfl | assumption) rfl ?_
    refine xt_iconst (1) dX12_logLine_79 (by decide) ?_
    refine xt_ald dX12_logLine_80 (by first | exact sh152 | exact sh161 | exact sh162 | rfl | assumption) (by unfold vp_in; decide) ?_
    have hx2 : ν1 161 (1 : Int32).toNatClampNeg = nI x := by rw [hL1.2.2.2.2.2.2.1]; exact hx
    rw [hx2]
    refine xt_istore dX12_logLine_81 (by decide) rfl ?_
    change x_T _ _ _ _ [_, _, _, _, _] _ _ _ _
    refine xt_lload_n _ dX12_logLine_83 rfl ?_
    refine xt_ldc2 _ dX12_logLine_84 kkX12_212 ?_
    refine xt_lcmp dX12_logLine_87 ?_
    refine xt_if_ne 122 dX12_logLine_88 (by decide) (fun _ => ?_) (fun q => absurd q (fun z => absurd (x_lcmp0.mp z) (by decide)))
    refine xt_iload _ dX12_logLine_122 rfl ?_
    refine xt_bipush (8) dX12_logLine_124 (by decide) ?_
    refine xt_icmp_ge 180 dX12_logLine_126 (by decide) (fun t126 => ?_) (fun f126 => ?_)
    · have n126 : 8 ≤ x := (nI_leI (a := 8) (b := x) (by omega) (by omega)).mp t126
      refine xt_iconst (1) dX12_logLine_180 (by decide) ?_
      refine xt_iret .boolean dX12_logLine_181 rfl (by rfl) ?_
      obtain ⟨z1, z2, z3, z4, z5, z6, z7, z8, z9⟩ := hL1
      have hbn : s_bn T L (s_te T L p) 1 = 0 := m_L.bn ⟨z1, z2, z3, z4, z5, z6, z7, z8, z9⟩
      refine ⟨fun _ => ⟨rfl, z1, z2, ?_, ?_⟩, fun h => absurd hbn h, fun a h1 h2 h3 => z9 a h1 h3⟩
      · intro hz
        exfalso
        obtain ⟨hz1, _⟩ := s_nf_0 hz
        obtain ⟨hz0, hfl⟩ := s_blm_0 (by decide) hz1
        have hxe := hxG hz0
        have h5 : decide (8 ≤ G 1) = false := hfl
        have := of_decide_eq_false h5
        omega
      · unfold m_sf; rw [z7]; exact hC.2
    · have n126 : ¬ (8 ≤ x) := fun z => f126 ((nI_leI (a := 8) (b := x) (by omega) (by omega)).mpr z)
      obtain ⟨z1, z2, z3, z4, z5, z6, z7, z8, z9⟩ := hL1
      have hbn : s_bn T L (s_te T L p) 1 = 0 := m_L.bn ⟨z1, z2, z3, z4, z5, z6, z7, z8, z9⟩
      have hrd : ν1 162 (1 : Int32).toNatClampNeg = nI (s_nv T L (s_te T L p) 0) := z5 0 (by decide)
      have hix2 : (2 : Int32) + 2 * nI x = nI (2 + 2 * x) := by rw [show (2 : Int32) = nI 2 from rfl, pk_mul, nI_add]
      have hix3 : (3 : Int32) + 2 * nI x = nI (3 + 2 * x) := by rw [show (3 : Int32) = nI 3 from rfl, show (2 : Int32) = nI 2 from rfl, pk_mul, nI_add]
      refine xt_aload_n _ dX12_logLine_129 rfl ?_
      refine xt_getr _ dX12_logLine_130 kfX12_35 (by first | exact sh152 | exact sh161 | exact sh162 | rfl | assumption) rfl ?_
      refine xt_iconst (2) dX12_logLine_133 (by decide) ?_
      refine xt_iconst (2) dX12_logLine_134 (by decide) ?_
      refine xt_iload _ dX12_logLine_135 rfl ?_
      refine xt_imul dX12_logLine_137 ?_
      refine xt_iadd dX12_logLine_138 ?_
      refine xt_lload_n _ dX12_logLine_139 rfl ?_
      refine xt_ldc2 _ dX12_logLine_140 kkX12_214 ?_
      refine xt_lcmp dX12_logLine_143 ?_
      refine xt_if_ne 151 dX12_logLine_144 (by decide) (fun q => absurd (x_lcmp0.mpr rfl) q) (fun _ => ?_)
      refine xt_iconst (1) dX12_logLine_147 (by decide) ?_
      refine xt_goto 152 dX12_logLine_148 (by decide) ?_
      rw [hix2]
      refine xt_ast dX12_logLine_152 (by first | exact sh152 | exact sh161 | exact sh162 | rfl | assumption) (by exact vp_in_nI (by omega) (by decide)) ?_
      rw [nI_clamp (by omega)]
      refine xt_aload_n _ dX12_logLine_153 rfl ?_
      refine xt_getr _ dX12_logLine_154 kfX12_35 (by first | exact sh152 | exact sh161 | exact sh162 | rfl | assumption) rfl ?_
      refine xt_iconst (3) dX12_logLine_157 (by decide) ?_
      refine xt_iconst (2) dX12_logLine_158 (by decide) ?_
      refine xt_iload _ dX12_logLine_159 rfl ?_
      refine xt_imul dX12_logLine_161 ?_
      refine xt_iadd dX12_logLine_162 ?_
      refine xt_aload_n _ dX12_logLine_163 rfl ?_
      refine xt_getr _ dX12_logLine_164 kfX12_38 (by first | exact sh152 | exact sh161 | exact sh162 | rfl | assumption) rfl ?_
      refine xt_iconst (1) dX12_logLine_167 (by decide) ?_
      refine xt_ald dX12_logLine_168 (by first | exact sh152 | exact sh161 | exact sh162 | rfl | assumption) (by unfold vp_in; decide) ?_
      rw [hix3, x_u_ne (by decide), hrd]
      refine xt_ast dX12_logLine_169 (by first | exact sh152 | exact sh161 | exact sh162 | rfl | assumption) (by exact vp_in_nI (by omega) (by decide)) ?_
      rw [nI_clamp (by omega)]
      refine xt_aload_n _ dX12_logLine_170 rfl ?_
      refine xt_getr _ dX12_logLine_171 kfX12_35 (by first | exact sh152 | exact sh161 | exact sh162 | rfl | assumption) rfl ?_
      refine xt_iconst (1) dX12_logLine_174 (by decide) ?_
      refine xt_dup2 dX12_logLine_175 rfl rfl ?_
      refine xt_ald dX12_logLine_176 (by first | exact sh152 | exact sh161 | exact sh162 | rfl | assumption) (by unfold vp_in; decide) ?_
      refine xt_iconst (1) dX12_logLine_177 (by decide) ?_
      refine xt_iadd dX12_logLine_178 ?_
      refine xt_ast dX12_logLine_179 (by first | exact sh152 | exact sh161 | exact sh162 | rfl | assumption) (by unfold vp_in; decide) ?_
      refine xt_iconst (1) dX12_logLine_180 (by decide) ?_
      refine xt_iret .boolean dX12_logLine_181 rfl (by rfl) ?_
      refine ⟨fun _ => ⟨rfl, z1.cg (fun j _ _ => by rw [x_u_ne (by decide), x_u_ne (by decide), x_u_ne (by decide)]) (by rw [x_u_ne (by decide), x_u_ne (by decide), x_u_ne (by decide)]), z2.cg (by rw [x_u_ne (by decide), x_u_ne (by decide), x_u_ne (by decide)]) (by rw [x_u_ne (by decide), x_u_ne (by decide), x_u_ne (by decide)]) (Nat.le_refl _), ?_, ?_⟩, fun h => absurd hbn h, fun a h1 h2 h3 => by rw [x_u_ne h2, x_u_ne h2, x_u_ne h2]; exact z9 a h1 h3⟩
      · intro hz
        rw [if_pos hz, if_pos hz]
        obtain ⟨hz1, _⟩ := s_nf_0 hz
        obtain ⟨hz0, hfl⟩ := s_blm_0 (by decide) hz1
        have hxe := hxG hz0
        obtain ⟨k1, k2, k3, kn⟩ := s_kp_l_at (k := 14) (by decide) (s_nv T L (s_te T L p)) G
        refine ⟨fun i hi => ?_, by rw [x_u_ne (by decide), x_u_ne (by decide), x_u_ne (by decide), z8]; exact (hC.1 hz0).2⟩
        rw [x_u_eq, cl1]
        by_cases h1 : i = 1
        · rw [h1, pk_us, x_u_eq, pk_un (by omega), x_u_eq, pk_un (by omega), z7, hx, k1, hxe, ← nI_succ]; rfl
        · rw [pk_un h1, x_u_eq]
          by_cases h3 : i = 3 + 2 * x
          · rw [h3, pk_us, hxe, k3]; rfl
          · rw [pk_un h3, x_u_eq]
            by_cases h2 : i = 2 + 2 * x
            · rw [h2, pk_us, hxe, k2]; rfl
            · rw [pk_un h2, kn i h1 (by omega), z7]; exact (hC.1 hz0).1 i hi
      · refine ⟨fun h => absurd h (by decide), fun h => absurd h (by decide), fun _ => ⟨x + 1, by omega, ?_⟩⟩
        rw [x_u_eq, cl1, pk_us, x_u_eq, pk_un (by omega), x_u_eq, pk_un (by omega), z7, hx, nI_succ]
  · obtain ⟨rfl, hBad⟩ := yb hk2
    change x_T _ _ _ _ _ (.int 0 :: _) _ _ _
    refine xt_if_ne 75 dX12_logLine_70 (by decide) (fun q => absurd (by decide) q) (fun _ => ?_)
    refine xt_iconst (0) dX12_logLine_73 (by decide) ?_
    refine xt_iret .boolean dX12_logLine_74 rfl (by rfl) ?_
    refine ⟨fun h => absurd h (by rw [hBad.bn (g := 1) (by decide)]; exact Nat.succ_ne_zero _), fun _ => ⟨rfl, by rw [hBad.bn (g := 1) (by decide)]; exact hBad.1⟩, fun a h1 _ h3 => hBad.2.2.2 a h1 h3⟩
set_option maxHeartbeats 4000000 in
theorem tX12_line15 (T : Nat → Nat) (L p : Nat) (φ : Nat × Nat) (G : Nat → Nat) (mx : Nat) (hK : m_K μ w T L p) (hk1 : s_kd T L p = 1) (hF : m_F μ φ p) (hg : μ 152 21 = 1) (hC : m_C μ 2 φ G mx) (hW : g_W 2 G) : x_K sc (d + 3) mX12_logLine [.ref 152, .long (s_W 15), .int (nI (s_sp T L p))] μ w (fun r μ' w' => (s_bn T L (s_te T L p) 1 = 0 → r = some (.int 1) ∧ m_K μ' w' T L (s_qs T L (s_te T L p) 1) ∧ m_F μ' (s_nf T L 15 (s_te T L p) (s_blm φ (s_fl 15 G) 3 (s_sp T L p)) 1) (s_qs T L (s_te T L p) 1) ∧ m_C μ' 2 (s_nf T L 15 (s_te T L p) (s_blm φ (s_fl 15 G) 3 (s_sp T L p)) 1) (if (s_nf T L 15 (s_te T L p) (s_blm φ (s_fl 15 G) 3 (s_sp T L p)) 1).1 = 0 then s_kp 15 (s_nv T L (s_te T L p)) G else G) (if (s_nf T L 15 (s_te T L p) (s_blm φ (s_fl 15 G) 3 (s_sp T L p)) 1).1 = 0 then s_mxl 15 (s_nv T L (s_te T L p)) mx else mx)) ∧ (s_bn T L (s_te T L p) 1 ≠ 0 → r = some (.int 0) ∧ μ' 152 15 = nI (s_sp T L (s_qs T L (s_te T L p) (s_bn T L (s_te T L p) 1 - 1)))) ∧ ∀ a, a ≠ 152 → a ≠ 161 → a ≠ 162 → μ' a = μ a) := by
  have hL := hK.1.2.1
  have htl := s_te_le hK.1.2.2.2 hK.2.1
  have hsl := s_sp_le hK.1.2.2.2 hK.2.1
  have hlt : s_sp T L p < s_te T L p := s_sp_lt (by omega) (by omega)
  refine x_K.of (by decide) (Nat.le_of_ble_eq_true rfl) ?_
  show x_T sc (d + 3) mX12_logLine 0 [.ref 152, .long (s_W 15), .retAddr 0, .int (nI (s_sp T L p)), .retAddr 0] [] μ w _
  refine xt_lload_n _ dX12_logLine_0 rfl ?_
  refine xt_ldc2 _ dX12_logLine_1 kkX12_212 ?_
  refine xt_lcmp dX12_logLine_4 ?_
  refine xt_if_eq 29 dX12_logLine_5 (by decide) (fun q => absurd q (fun z => absurd (x_lcmp0.mp z) (by decide))) (fun _ => ?_)
  refine xt_lload_n _ dX12_logLine_8 rfl ?_
  refine xt_ldc2 _ dX12_logLine_9 kkX12_214 ?_
  refine xt_lcmp dX12_logLine_12 ?_
  refine xt_if_eq 29 dX12_logLine_13 (by decide) (fun q => absurd q (fun z => absurd (x_lcmp0.mp z) (by decide))) (fun _ => ?_)
  refine xt_lload_n _ dX12_logLine_16 rfl ?_
  refine xt_ldc2 _ dX12_logLine_17 kkX12_216 ?_
  refine xt_lcmp dX12_logLine_20 ?_
  refine xt_if_eq 29 dX12_logLine_21 (by decide) (fun _ => ?_) (fun q => absurd (x_lcmp0.mpr rfl) q)
  refine xt_lload_n _ dX12_logLine_29 rfl ?_
  refine xt_ldc2 _ dX12_logLine_30 kkX12_212 ?_
  refine xt_lcmp dX12_logLine_33 ?_
  refine xt_if_eq 45 dX12_logLine_34 (by decide) (fun q => absurd q (fun z => absurd (x_lcmp0.mp z) (by decide))) (fun _ => ?_)
  refine xt_aload_n _ dX12_logLine_37 rfl ?_
  refine xt_iconst (1) dX12_logLine_38 (by decide) ?_
  refine xt_bipush (8) dX12_logLine_39 (by decide) ?_
  refine xt_iload_n _ dX12_logLine_41 rfl ?_
  obtain ⟨x, hx1, hx⟩ := hC.2.2.2 rfl
  have hx1 : x ≤ 8 := hx1
  refine xt_callV _ dX12_logLine_42 klX12_142 (tX12_full sc _ μ w φ p 1 8 (s_sp T L p) x hF hsl.1 (by omega) (by decide) hx hx1 (by decide)) sh152 rfl rfl (Nat.le_of_ble_eq_true rfl) (fun r1 μ1 w1 q1 => ?_)
  obtain ⟨rfl, rfl, hF1, hj1, hf1⟩ := q1
  change x_T _ _ _ _ _ _ _ _ _
  have hxG : φ.1 = 0 → x = G 1 := fun z => (nI_eq (by omega) (by have := (show gl_W G from hW).2.1; omega)).mp (hx.symm.trans ((hC.1 z).1 1 (by decide)))
  have hφ1 : s_blm φ (decide (x = 8)) 3 (s_sp T L p) = (s_blm φ (s_fl 15 G) 3 (s_sp T L p)) := by
    by_cases hz : φ.1 = 0
    · rw [hxG hz, show s_fl 15 G = decide (G 1 = 8) from (decide_eq_decide.mpr (by have := (show gl_W G from hW).2.1; omega) : decide (8 ≤ G 1) = decide (G 1 = 8))]
    · rw [s_blm_n hz, s_blm_n hz]
  rw [hφ1] at hF1
  refine xt_aload_n _ dX12_logLine_45 rfl ?_
  refine xt_callV _ dX12_logLine_46 klX12_136 (tX12_token sc _ μ1 w1 T L (hK.1.cg (hj1 10 (by decide) (by decide)) (hf1 153 (by decide))) (s_te T L p) htl.2.2 (by rw [hj1 9 (by decide) (by decide)]; exact hK.2.2.2.2.1 (by omega))) sh152 rfl rfl (Nat.le_of_ble_eq_true rfl) (fun r2 ν0 ω0 q2 => ?_)
  obtain ⟨rfl, q2⟩ := q2
  change x_T _ _ _ _ _ _ _ _ _
  have hL0 : m_L μ ν0 ω0 T L 15 (s_te T L p) (s_blm φ (s_fl 15 G) 3 (s_sp T L p)) 1 0 := ⟨m_K.next (hK.1.cg (hj1 10 (by decide) (by decide)) (hf1 153 (by decide))) htl.2.2 q2, hF1.cg (q2.2.2.2.2.2.1 16 (by decide) (by decide) (by decide) (by decide)) (q2.2.2.2.2.2.1 17 (by decide) (by decide) (by decide) (by decide)) (by show s_sp T L p + 1 ≤ s_te T L p; omega), by rw [q2.2.2.2.2.2.1 21 (by decide) (by decide) (by decide) (by decide), hj1 21 (by decide) (by decide), hg]; rfl, fun j h => absurd h (Nat.not_lt_zero j), fun j h => absurd h (Nat.not_lt_zero j), fun j _ => by rw [q2.2.2.2.2.2.2 162 (by decide), hf1 162 (by decide)], by rw [q2.2.2.2.2.2.2 161 (by decide), hf1 161 (by decide)], by rw [q2.2.2.2.2.2.1 20 (by decide) (by decide) (by decide) (by decide), hj1 20 (by decide) (by decide)], fun a h1 _ => by rw [q2.2.2.2.2.2.2 a h1, hf1 a h1]⟩
  refine xt_aload_n _ dX12_logLine_49 rfl ?_
  refine xt_iconst (1) dX12_logLine_50 (by decide) ?_
  refine xt_iconst (0) dX12_logLine_51 (by decide) ?_
  refine xt_lload_n _ dX12_logLine_52 rfl ?_
  refine xt_ldc2 _ dX12_logLine_53 kkX12_212 ?_
  refine xt_lcmp dX12_logLine_56 ?_
  refine xt_if_ne 65 dX12_logLine_57 (by decide) (fun _ => ?_) (fun q => absurd q (fun z => absurd (x_lcmp0.mp z) (by decide)))
  refine xt_bipush (63) dX12_logLine_65 (by decide) ?_
  refine xt_callV _ dX12_logLine_67 klX12_139 (tX12_takeL sc _ μ hL0 (by decide) (by decide) (by decide)) sh152 rfl rfl (Nat.le_of_ble_eq_true rfl) (fun r5 ν1 ω1 q5 => ?_)
  obtain ⟨ya, yb⟩ := q5
  by_cases hk2 : s_kd T L (s_qs T L (s_te T L p) 0) = 2
  · obtain ⟨rfl, hL1⟩ := ya hk2
    change x_T _ _ _ _ _ (.int 1 :: _) _ _ _
    refine xt_if_ne 75 dX12_logLine_70 (by decide) (fun _ => ?_) (fun q => absurd q (by decide))
    refine xt_aload_n _ dX12_logLine_75 rfl ?_
    refine xt_getr _ dX12_logLine_76 kfX12_35 (by first | exact sh152 | exact sh161 | exact sh162 | rfl | assumption) rfl ?_
    refine xt_iconst (1) dX12_logLine_79 (by decide) ?_
    refine xt_ald dX12_logLine_80 (by first | exact sh152 | exact sh161 | exact sh162 | rfl | assumption) (by unfold vp_in; decide) ?_
    have hx2 : ν1 161 (1 : Int32).toNatClampNeg = nI x := by rw [hL1.2.2.2.2.2.2.1]; exact hx
    rw [hx2]
    refine xt_istore dX12_logLine_81 (by decide) rfl ?_
    change x_T _ _ _ _ [_, _, _, _, _] _ _ _ _
    refine xt_lload_n _ dX12_logLine_83 rfl ?_
    refine xt_ldc2 _ dX12_logLine_84 kkX12_212 ?_
    refine xt_lcmp dX12_logLine_87 ?_
    refine xt_if_ne 122 dX12_logLine_88 (by decide) (fun _ => ?_) (fun q => absurd q (fun z => absurd (x_lcmp0.mp z) (by decide)))
    refine xt_iload _ dX12_logLine_122 rfl ?_
    refine xt_bipush (8) dX12_logLine_124 (by decide) ?_
    refine xt_icmp_ge 180 dX12_logLine_126 (by decide) (fun t126 => ?_) (fun f126 => ?_)
    · have n126 : 8 ≤ x := (nI_leI (a := 8) (b := x) (by omega) (by omega)).mp t126
      refine xt_iconst (1) dX12_logLine_180 (by decide) ?_
      refine xt_iret .boolean dX12_logLine_181 rfl (by rfl) ?_
      obtain ⟨z1, z2, z3, z4, z5, z6, z7, z8, z9⟩ := hL1
      have hbn : s_bn T L (s_te T L p) 1 = 0 := m_L.bn ⟨z1, z2, z3, z4, z5, z6, z7, z8, z9⟩
      refine ⟨fun _ => ⟨rfl, z1, z2, ?_, ?_⟩, fun h => absurd hbn h, fun a h1 h2 h3 => z9 a h1 h3⟩
      · intro hz
        exfalso
        obtain ⟨hz1, _⟩ := s_nf_0 hz
        obtain ⟨hz0, hfl⟩ := s_blm_0 (by decide) hz1
        have hxe := hxG hz0
        have h5 : decide (8 ≤ G 1) = false := hfl
        have := of_decide_eq_false h5
        omega
      · unfold m_sf; rw [z7]; exact hC.2
    · have n126 : ¬ (8 ≤ x) := fun z => f126 ((nI_leI (a := 8) (b := x) (by omega) (by omega)).mpr z)
      obtain ⟨z1, z2, z3, z4, z5, z6, z7, z8, z9⟩ := hL1
      have hbn : s_bn T L (s_te T L p) 1 = 0 := m_L.bn ⟨z1, z2, z3, z4, z5, z6, z7, z8, z9⟩
      have hrd : ν1 162 (1 : Int32).toNatClampNeg = nI (s_nv T L (s_te T L p) 0) := z5 0 (by decide)
      have hix2 : (2 : Int32) + 2 * nI x = nI (2 + 2 * x) := by rw [show (2 : Int32) = nI 2 from rfl, pk_mul, nI_add]
      have hix3 : (3 : Int32) + 2 * nI x = nI (3 + 2 * x) := by rw [show (3 : Int32) = nI 3 from rfl, show (2 : Int32) = nI 2 from rfl, pk_mul, nI_add]
      refine xt_aload_n _ dX12_logLine_129 rfl ?_
      refine xt_getr _ dX12_logLine_130 kfX12_35 (by first | exact sh152 | exact sh161 | exact sh162 | rfl | assumption) rfl ?_
      refine xt_iconst (2) dX12_logLine_133 (by decide) ?_
      refine xt_iconst (2) dX12_logLine_134 (by decide) ?_
      refine xt_iload _ dX12_logLine_135 rfl ?_
      refine xt_imul dX12_logLine_137 ?_
      refine xt_iadd dX12_logLine_138 ?_
      refine xt_lload_n _ dX12_logLine_139 rfl ?_
      refine xt_ldc2 _ dX12_logLine_140 kkX12_214 ?_
      refine xt_lcmp dX12_logLine_143 ?_
      refine xt_if_ne 151 dX12_logLine_144 (by decide) (fun _ => ?_) (fun q => absurd q (fun z => absurd (x_lcmp0.mp z) (by decide)))
      refine xt_iconst (0) dX12_logLine_151 (by decide) ?_
      rw [hix2]
      refine xt_ast dX12_logLine_152 (by first | exact sh152 | exact sh161 | exact sh162 | rfl | assumption) (by exact vp_in_nI (by omega) (by decide)) ?_
      rw [nI_clamp (by omega)]
      refine xt_aload_n _ dX12_logLine_153 rfl ?_
      refine xt_getr _ dX12_logLine_154 kfX12_35 (by first | exact sh152 | exact sh161 | exact sh162 | rfl | assumption) rfl ?_
      refine xt_iconst (3) dX12_logLine_157 (by decide) ?_
      refine xt_iconst (2) dX12_logLine_158 (by decide) ?_
      refine xt_iload _ dX12_logLine_159 rfl ?_
      refine xt_imul dX12_logLine_161 ?_
      refine xt_iadd dX12_logLine_162 ?_
      refine xt_aload_n _ dX12_logLine_163 rfl ?_
      refine xt_getr _ dX12_logLine_164 kfX12_38 (by first | exact sh152 | exact sh161 | exact sh162 | rfl | assumption) rfl ?_
      refine xt_iconst (1) dX12_logLine_167 (by decide) ?_
      refine xt_ald dX12_logLine_168 (by first | exact sh152 | exact sh161 | exact sh162 | rfl | assumption) (by unfold vp_in; decide) ?_
      rw [hix3, x_u_ne (by decide), hrd]
      refine xt_ast dX12_logLine_169 (by first | exact sh152 | exact sh161 | exact sh162 | rfl | assumption) (by exact vp_in_nI (by omega) (by decide)) ?_
      rw [nI_clamp (by omega)]
      refine xt_aload_n _ dX12_logLine_170 rfl ?_
      refine xt_getr _ dX12_logLine_171 kfX12_35 (by first | exact sh152 | exact sh161 | exact sh162 | rfl | assumption) rfl ?_
      refine xt_iconst (1) dX12_logLine_174 (by decide) ?_
      refine xt_dup2 dX12_logLine_175 rfl rfl ?_
      refine xt_ald dX12_logLine_176 (by first | exact sh152 | exact sh161 | exact sh162 | rfl | assumption) (by unfold vp_in; decide) ?_
      refine xt_iconst (1) dX12_logLine_177 (by decide) ?_
      refine xt_iadd dX12_logLine_178 ?_
      refine xt_ast dX12_logLine_179 (by first | exact sh152 | exact sh161 | exact sh162 | rfl | assumption) (by unfold vp_in; decide) ?_
      refine xt_iconst (1) dX12_logLine_180 (by decide) ?_
      refine xt_iret .boolean dX12_logLine_181 rfl (by rfl) ?_
      refine ⟨fun _ => ⟨rfl, z1.cg (fun j _ _ => by rw [x_u_ne (by decide), x_u_ne (by decide), x_u_ne (by decide)]) (by rw [x_u_ne (by decide), x_u_ne (by decide), x_u_ne (by decide)]), z2.cg (by rw [x_u_ne (by decide), x_u_ne (by decide), x_u_ne (by decide)]) (by rw [x_u_ne (by decide), x_u_ne (by decide), x_u_ne (by decide)]) (Nat.le_refl _), ?_, ?_⟩, fun h => absurd hbn h, fun a h1 h2 h3 => by rw [x_u_ne h2, x_u_ne h2, x_u_ne h2]; exact z9 a h1 h3⟩
      · intro hz
        rw [if_pos hz, if_pos hz]
        obtain ⟨hz1, _⟩ := s_nf_0 hz
        obtain ⟨hz0, hfl⟩ := s_blm_0 (by decide) hz1
        have hxe := hxG hz0
        obtain ⟨k1, k2, k3, kn⟩ := s_kp_l_at (k := 15) (by decide) (s_nv T L (s_te T L p)) G
        refine ⟨fun i hi => ?_, by rw [x_u_ne (by decide), x_u_ne (by decide), x_u_ne (by decide), z8]; exact (hC.1 hz0).2⟩
        rw [x_u_eq, cl1]
        by_cases h1 : i = 1
        · rw [h1, pk_us, x_u_eq, pk_un (by omega), x_u_eq, pk_un (by omega), z7, hx, k1, hxe, ← nI_succ]; rfl
        · rw [pk_un h1, x_u_eq]
          by_cases h3 : i = 3 + 2 * x
          · rw [h3, pk_us, hxe, k3]; rfl
          · rw [pk_un h3, x_u_eq]
            by_cases h2 : i = 2 + 2 * x
            · rw [h2, pk_us, hxe, k2]; rfl
            · rw [pk_un h2, kn i h1 (by omega), z7]; exact (hC.1 hz0).1 i hi
      · refine ⟨fun h => absurd h (by decide), fun h => absurd h (by decide), fun _ => ⟨x + 1, by omega, ?_⟩⟩
        rw [x_u_eq, cl1, pk_us, x_u_eq, pk_un (by omega), x_u_eq, pk_un (by omega), z7, hx, nI_succ]
  · obtain ⟨rfl, hBad⟩ := yb hk2
    change x_T _ _ _ _ _ (.int 0 :: _) _ _ _
    refine xt_if_ne 75 dX12_logLine_70 (by decide) (fun q => absurd (by decide) q) (fun _ => ?_)
    refine xt_iconst (0) dX12_logLine_73 (by decide) ?_
    refine xt_iret .boolean dX12_logLine_74 rfl (by rfl) ?_
    refine ⟨fun h => absurd h (by rw [hBad.bn (g := 1) (by decide)]; exact Nat.succ_ne_zero _), fun _ => ⟨rfl, by rw [hBad.bn (g := 1) (by decide)]; exact hBad.1⟩, fun a h1 _ h3 => hBad.2.2.2 a h1 h3⟩
theorem s_fp_y {p : Nat → Bool} : ∀ {n t : Nat}, s_fp p n = t + 1 → p t = true
  | 0, t, h => absurd h (by show ¬ 0 = t + 1; omega)
  | n + 1, t, h => by
    rw [s_fp] at h
    by_cases h0 : s_fp p n = 0
    · rw [if_pos h0] at h
      by_cases hp : p n = true
      · rw [if_pos hp] at h
        obtain rfl : n = t := by omega
        exact hp
      · rw [if_neg hp] at h; exact absurd h (by omega)
    · rw [if_neg h0] at h; exact s_fp_y h
set_option maxHeartbeats 4000000 in
theorem tX12_dayLine (T : Nat → Nat) (L p : Nat) (φ : Nat × Nat) (G : Nat → Nat) (mx : Nat) (hK : m_K μ w T L p) (hF : m_F μ φ p) (hg : μ 152 21 = 1) (hC : m_C μ 1 φ G mx) (hW : g_W 1 G) (hmx : mx ≤ 100) (nb : Nat → Bool) (v : Int64) (hv : ∀ j, j < 16 → (v = s_W j ↔ nb j = true)) (hk1 : ∀ j, nb j = true → s_kd T L p = 1) : x_K sc (d + 3) mX12_dayLine [.ref 152, .long v, .int (nI (s_sp T L p))] μ w (fun r μ' w' => m_PX μ T L p 1 nb φ G mx r μ' w') := by
  refine x_K.of (by decide) (Nat.le_of_ble_eq_true rfl) ?_
  show x_T sc (d + 3) mX12_dayLine 0 [.ref 152, .long v, .retAddr 0, .int (nI (s_sp T L p)), .retAddr 0, .retAddr 0, .retAddr 0, .retAddr 0] [] μ w _
  refine xt_aload_n _ dX12_dayLine_0 rfl ?_
  refine xt_lload_n _ dX12_dayLine_1 rfl ?_
  refine xt_cV _ dX12_dayLine_2 klX12_205 (tX12_deedBy sc _ μ w nb v hv) sh152 rfl rfl (Nat.le_of_ble_eq_true rfl) ?_
  by_cases hz : (s_fp (fun i => nb (s_fA 1 + i)) (s_fA (1 + 1) - s_fA 1)) = 0
  · rw [if_pos hz]
    refine xt_istore dX12_dayLine_5 (by decide) rfl ?_
    change x_T _ _ _ _ [_, _, _, _, _, _, _, _] _ _ _ _
    refine xt_iload _ dX12_dayLine_7 rfl ?_
    refine xt_iconst (-1) dX12_dayLine_9 (by decide) ?_
    refine xt_icmp_ne 18 dX12_dayLine_10 (by decide) (fun q => absurd (by decide) q) (fun _ => ?_)
    refine xt_aload_n _ dX12_dayLine_13 rfl ?_
    refine xt_callV _ dX12_dayLine_14 klX12_124 (tX12_fails sc _ μ w _ hK.2.2.1) sh152 rfl rfl (Nat.le_of_ble_eq_true rfl) (fun r5 μ5 w5 q5 => ?_)
    obtain ⟨rfl, rfl, q15, qj, qa⟩ := q5
    change x_T _ _ _ _ _ (.int 0 :: _) _ _ _
    refine xt_iret .boolean dX12_dayLine_17 rfl (by rfl) ?_
    exact ⟨fun _ => ⟨rfl, q15, fun a h1 _ _ => qa a h1⟩, fun t ht => by rw [hz] at ht; exact absurd ht.symm (Nat.succ_ne_zero _)⟩
  · obtain ⟨t, ht⟩ : ∃ t, (s_fp (fun i => nb (s_fA 1 + i)) (s_fA (1 + 1) - s_fA 1)) = t + 1 := ⟨(s_fp (fun i => nb (s_fA 1 + i)) (s_fA (1 + 1) - s_fA 1)) - 1, by omega⟩
    have htl : (s_fp (fun i => nb (s_fA 1 + i)) (s_fA (1 + 1) - s_fA 1)) ≤ 6 := s_fp_le
    have hy := s_fp_y ht
    rw [if_neg hz, ht, Nat.add_sub_cancel]
    have h6 : t = 0 ∨ t = 1 ∨ t = 2 ∨ t = 3 ∨ t = 4 ∨ t = 5 := by omega
    rcases h6 with rfl | rfl | rfl | rfl | rfl | rfl
    · change x_T _ _ _ _ _ (.int 0 :: _) _ _ _
      refine xt_istore dX12_dayLine_5 (by decide) rfl ?_
      change x_T _ _ _ _ [_, _, _, _, _, _, _, _] _ _ _ _
      refine xt_iload _ dX12_dayLine_7 rfl ?_
      refine xt_iconst (-1) dX12_dayLine_9 (by decide) ?_
      refine xt_icmp_ne 18 dX12_dayLine_10 (by decide) (fun _ => ?_) (fun q => absurd q (by decide))
      refine (tX12_line7 sc d μ w T L p φ G mx hK (hk1 _ hy) hF hg hC hW v).mono (fun r2 μ2 w2 q2 => ⟨fun h => absurd h hz, fun t ht2 => ?_⟩)
      rw [ht] at ht2
      obtain rfl : 0 = t := by omega
      exact q2
    · change x_T _ _ _ _ _ (.int 1 :: _) _ _ _
      refine xt_istore dX12_dayLine_5 (by decide) rfl ?_
      change x_T _ _ _ _ [_, _, _, _, _, _, _, _] _ _ _ _
      refine xt_iload _ dX12_dayLine_7 rfl ?_
      refine xt_iconst (-1) dX12_dayLine_9 (by decide) ?_
      refine xt_icmp_ne 18 dX12_dayLine_10 (by decide) (fun _ => ?_) (fun q => absurd q (by decide))
      refine (tX12_line8 sc d μ w T L p φ G mx hK (hk1 _ hy) hF hg hC hW v).mono (fun r2 μ2 w2 q2 => ⟨fun h => absurd h hz, fun t ht2 => ?_⟩)
      rw [ht] at ht2
      obtain rfl : 1 = t := by omega
      exact q2
    · change x_T _ _ _ _ _ (.int 2 :: _) _ _ _
      refine xt_istore dX12_dayLine_5 (by decide) rfl ?_
      change x_T _ _ _ _ [_, _, _, _, _, _, _, _] _ _ _ _
      refine xt_iload _ dX12_dayLine_7 rfl ?_
      refine xt_iconst (-1) dX12_dayLine_9 (by decide) ?_
      refine xt_icmp_ne 18 dX12_dayLine_10 (by decide) (fun _ => ?_) (fun q => absurd q (by decide))
      refine (tX12_line9 sc d μ w T L p φ G mx hK (hk1 _ hy) hF hg hC hW v).mono (fun r2 μ2 w2 q2 => ⟨fun h => absurd h hz, fun t ht2 => ?_⟩)
      rw [ht] at ht2
      obtain rfl : 2 = t := by omega
      exact q2
    · change x_T _ _ _ _ _ (.int 3 :: _) _ _ _
      refine xt_istore dX12_dayLine_5 (by decide) rfl ?_
      change x_T _ _ _ _ [_, _, _, _, _, _, _, _] _ _ _ _
      refine xt_iload _ dX12_dayLine_7 rfl ?_
      refine xt_iconst (-1) dX12_dayLine_9 (by decide) ?_
      refine xt_icmp_ne 18 dX12_dayLine_10 (by decide) (fun _ => ?_) (fun q => absurd q (by decide))
      refine (tX12_line10 sc d μ w T L p φ G mx hK (hk1 _ hy) hF hg hC hW v).mono (fun r2 μ2 w2 q2 => ⟨fun h => absurd h hz, fun t ht2 => ?_⟩)
      rw [ht] at ht2
      obtain rfl : 3 = t := by omega
      exact q2
    · change x_T _ _ _ _ _ (.int 4 :: _) _ _ _
      refine xt_istore dX12_dayLine_5 (by decide) rfl ?_
      change x_T _ _ _ _ [_, _, _, _, _, _, _, _] _ _ _ _
      refine xt_iload _ dX12_dayLine_7 rfl ?_
      refine xt_iconst (-1) dX12_dayLine_9 (by decide) ?_
      refine xt_icmp_ne 18 dX12_dayLine_10 (by decide) (fun _ => ?_) (fun q => absurd q (by decide))
      refine (tX12_line11 sc d μ w T L p φ G mx hK (hk1 _ hy) hF hg hC hW v).mono (fun r2 μ2 w2 q2 => ⟨fun h => absurd h hz, fun t ht2 => ?_⟩)
      rw [ht] at ht2
      obtain rfl : 4 = t := by omega
      exact q2
    · change x_T _ _ _ _ _ (.int 5 :: _) _ _ _
      refine xt_istore dX12_dayLine_5 (by decide) rfl ?_
      change x_T _ _ _ _ [_, _, _, _, _, _, _, _] _ _ _ _
      refine xt_iload _ dX12_dayLine_7 rfl ?_
      refine xt_iconst (-1) dX12_dayLine_9 (by decide) ?_
      refine xt_icmp_ne 18 dX12_dayLine_10 (by decide) (fun _ => ?_) (fun q => absurd q (by decide))
      refine (tX12_line12 sc d μ w T L p φ G mx hK (hk1 _ hy) hF hg hC hW v).mono (fun r2 μ2 w2 q2 => ⟨fun h => absurd h hz, fun t ht2 => ?_⟩)
      rw [ht] at ht2
      obtain rfl : 5 = t := by omega
      exact q2
set_option maxHeartbeats 4000000 in
theorem tX12_logLine (T : Nat → Nat) (L p : Nat) (φ : Nat × Nat) (G : Nat → Nat) (mx : Nat) (hK : m_K μ w T L p) (hF : m_F μ φ p) (hg : μ 152 21 = 1) (hC : m_C μ 2 φ G mx) (hW : g_W 2 G) (hmx : mx ≤ 100) (nb : Nat → Bool) (v : Int64) (hv : ∀ j, j < 16 → (v = s_W j ↔ nb j = true)) (hk1 : ∀ j, nb j = true → s_kd T L p = 1) : x_K sc (d + 3) mX12_logLine [.ref 152, .long v, .int (nI (s_sp T L p))] μ w (fun r μ' w' => m_PX μ T L p 2 nb φ G mx r μ' w') := by
  by_cases h13 : v = s_W 13
  · skip
    have hy : nb 13 = true := (hv 13 (by decide)).mp h13
    have hfp : (s_fp (fun i => nb (s_fA 2 + i)) (s_fA (2 + 1) - s_fA 2)) = 0 + 1 := s_fp_at (p := fun i => nb (s_fA 2 + i)) (m := 0) (fun i hi => by
      have hi7 : False := by omega
      exact hi7.elim
      ) hy (by decide)
    rw [h13]
    refine (tX12_line13 sc d μ w T L p φ G mx hK (hk1 _ hy) hF hg hC hW).mono (fun r2 μ2 w2 q2 => ⟨fun h => by rw [hfp] at h; exact absurd h (Nat.succ_ne_zero _), fun t ht2 => ?_⟩)
    rw [hfp] at ht2
    obtain rfl : 0 = t := by omega
    exact q2
  · skip
    have n13 : nb 13 = false := by
      cases hq : nb 13
      · rfl
      · exact absurd ((hv 13 (by decide)).mpr hq) h13
    by_cases h14 : v = s_W 14
    · skip
      have hy : nb 14 = true := (hv 14 (by decide)).mp h14
      have hfp : (s_fp (fun i => nb (s_fA 2 + i)) (s_fA (2 + 1) - s_fA 2)) = 1 + 1 := s_fp_at (p := fun i => nb (s_fA 2 + i)) (m := 1) (fun i hi => by
        have hi7 : i = 0 := by omega
        rcases hi7 with rfl
        · exact n13
        ) hy (by decide)
      rw [h14]
      refine (tX12_line14 sc d μ w T L p φ G mx hK (hk1 _ hy) hF hg hC hW).mono (fun r2 μ2 w2 q2 => ⟨fun h => by rw [hfp] at h; exact absurd h (Nat.succ_ne_zero _), fun t ht2 => ?_⟩)
      rw [hfp] at ht2
      obtain rfl : 1 = t := by omega
      exact q2
    · skip
      have n14 : nb 14 = false := by
        cases hq : nb 14
        · rfl
        · exact absurd ((hv 14 (by decide)).mpr hq) h14
      by_cases h15 : v = s_W 15
      · skip
        have hy : nb 15 = true := (hv 15 (by decide)).mp h15
        have hfp : (s_fp (fun i => nb (s_fA 2 + i)) (s_fA (2 + 1) - s_fA 2)) = 2 + 1 := s_fp_at (p := fun i => nb (s_fA 2 + i)) (m := 2) (fun i hi => by
          have hi7 : i = 0 ∨ i = 1 := by omega
          rcases hi7 with rfl | rfl
          · exact n13
          · exact n14
          ) hy (by decide)
        rw [h15]
        refine (tX12_line15 sc d μ w T L p φ G mx hK (hk1 _ hy) hF hg hC hW).mono (fun r2 μ2 w2 q2 => ⟨fun h => by rw [hfp] at h; exact absurd h (Nat.succ_ne_zero _), fun t ht2 => ?_⟩)
        rw [hfp] at ht2
        obtain rfl : 2 = t := by omega
        exact q2
      · skip
        have n15 : nb 15 = false := by
          cases hq : nb 15
          · rfl
          · exact absurd ((hv 15 (by decide)).mpr hq) h15
        refine x_K.of (by decide) (Nat.le_of_ble_eq_true rfl) ?_
        show x_T sc (d + 3) mX12_logLine 0 [.ref 152, .long v, .retAddr 0, .int (nI (s_sp T L p)), .retAddr 0] [] μ w _
        refine xt_lload_n _ dX12_logLine_0 rfl ?_
        refine xt_ldc2 _ dX12_logLine_1 kkX12_212 ?_
        refine xt_lcmp dX12_logLine_4 ?_
        refine xt_if_eq 29 dX12_logLine_5 (by decide) (fun q => absurd q (fun z => h13 (x_lcmp0.mp z))) (fun _ => ?_)
        refine xt_lload_n _ dX12_logLine_8 rfl ?_
        refine xt_ldc2 _ dX12_logLine_9 kkX12_214 ?_
        refine xt_lcmp dX12_logLine_12 ?_
        refine xt_if_eq 29 dX12_logLine_13 (by decide) (fun q => absurd q (fun z => h14 (x_lcmp0.mp z))) (fun _ => ?_)
        refine xt_lload_n _ dX12_logLine_16 rfl ?_
        refine xt_ldc2 _ dX12_logLine_17 kkX12_216 ?_
        refine xt_lcmp dX12_logLine_20 ?_
        refine xt_if_eq 29 dX12_logLine_21 (by decide) (fun q => absurd q (fun z => h15 (x_lcmp0.mp z))) (fun _ => ?_)
        refine xt_aload_n _ dX12_logLine_24 rfl ?_
        have hfp : s_fp (fun i => nb (s_fA 2 + i)) (s_fA (2 + 1) - s_fA 2) = 0 := s_fp_z (fun i hi => by
          have hi7 : i = 0 ∨ i = 1 ∨ i = 2 := by have : i < 3 := hi; omega
          rcases hi7 with rfl | rfl | rfl
          · exact n13
          · exact n14
          · exact n15
          )
        refine xt_callV _ dX12_logLine_25 klX12_124 (tX12_fails sc _ μ w _ hK.2.2.1) sh152 rfl rfl (Nat.le_of_ble_eq_true rfl) (fun r5 μ5 w5 q5 => ?_)
        obtain ⟨rfl, rfl, q15, qj, qa⟩ := q5
        change x_T _ _ _ _ _ (.int 0 :: _) _ _ _
        refine xt_iret .boolean dX12_logLine_28 rfl (by rfl) ?_
        exact ⟨fun _ => ⟨rfl, q15, fun a h1 _ _ => qa a h1⟩, fun t ht => by rw [hfp] at ht; exact absurd ht.symm (Nat.succ_ne_zero _)⟩
end LLINES
