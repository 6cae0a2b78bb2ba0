/-! texts: the reference reads a FAIR's line -/
def s_gd (T : Nat → Nat) (L k p : Nat) : Nat → Bool
  | 0 => true
  | i + 1 => s_gd T L k p i && !s_bd k i (s_nv T L p i)
theorem s_nf_gd {T : Nat → Nat} {L k p : Nat} {φ : Nat × Nat} {n : Nat} (h : (s_nf T L k p φ n).1 = 0) : ∀ i, i ≤ n → s_gd T L k p i = true
  | 0, _ => rfl
  | i + 1, hi => by rw [s_gd, s_nf_gd h i (by omega), (s_nf_0 h).2 i (by omega)]; rfl
theorem s_gd_rg {T : Nat → Nat} {L k p : Nat} : ∀ {n : Nat}, s_gd T L k p n = true → ∀ i, i < n → s_bd k i (s_nv T L p i) = false
  | 0, _, _, h => absurd h (by omega)
  | n + 1, h, i, hi => by
    rw [s_gd, Bool.and_eq_true] at h
    by_cases he : i = n
    · rw [he]; cases hb : s_bd k n (s_nv T L p n); rfl; rw [hb] at h; exact absurd h.2 (by decide)
    · exact s_gd_rg h.1 i (by omega)
theorem s_blm_n {φ : Nat × Nat} {c : Bool} {f pl : Nat} (h : φ.1 ≠ 0) : s_blm φ c f pl = φ := by rw [s_blm, if_neg (fun z => h z.1)]
theorem s_blm_f {φ : Nat × Nat} {f pl : Nat} : s_blm φ false f pl = φ := by rw [s_blm, if_neg (fun z => absurd z.2 (by decide))]
def s_tv (s i x : Nat) : Int32 := if s = 1 ∧ i ≠ 0 then eI x else nI x
def m_sf (μ : x_Me) (s : Nat) : Prop := (s = 0 → ∀ c, 3 ≤ c → c ≤ 6 → ∃ x, x ≤ (if c = 4 then 8 else 6) ∧ μ 161 c = nI x) ∧ (s = 1 → ∃ x, x ≤ 40 ∧ μ 161 0 = nI x) ∧ (s = 2 → ∃ x, x ≤ 8 ∧ μ 161 1 = nI x)
/-- the reference's told row -/
def m_C (μ : x_Me) (s : Nat) (φ : Nat × Nat) (G : Nat → Nat) (mx : Nat) : Prop := (φ.1 = 0 → (∀ i, i < 161 → μ 161 i = s_tv s i (G i)) ∧ μ 152 20 = eI mx) ∧ m_sf μ s
def m_L (μ ν : x_Me) (ω : Int64) (T : Nat → Nat) (L k p : Nat) (φ : Nat × Nat) (o i : Nat) : Prop := m_K ν ω T L (s_qs T L p i) ∧ m_F ν (s_nf T L k p φ i) (s_qs T L p i) ∧ ν 152 21 = (if s_gd T L k p i then 1 else 0) ∧ (∀ j, j < i → s_kd T L (s_qs T L p j) = 2) ∧ (∀ j, j < i → ν 162 (o + j) = nI (s_nv T L p j)) ∧ (∀ j, j < o ∨ o + i ≤ j → ν 162 j = μ 162 j) ∧ ν 161 = μ 161 ∧ ν 152 20 = μ 152 20 ∧ ∀ a, a ≠ 152 → a ≠ 162 → ν a = μ a
theorem s_gds (b c : Bool) : (if b then (0 : Int32) else (if c then 1 else 0)) = (if (c && !b) then 1 else 0) := by cases b <;> cases c <;> rfl
def m_Lf (μ ν : x_Me) (T : Nat → Nat) (L p i : Nat) : Prop := ν 152 15 = nI (s_sp T L (s_qs T L p i)) ∧ s_kd T L (s_qs T L p i) ≠ 2 ∧ (∀ j, j < i → s_kd T L (s_qs T L p j) = 2) ∧ ∀ a, a ≠ 152 → a ≠ 162 → ν a = μ a
theorem m_Lf.bn {μ ν : x_Me} {T : Nat → Nat} {L p i g : Nat} (h : m_Lf μ ν T L p i) (hi : i < g) : s_bn T L p g = i + 1 := s_fp_at (p := fun i => decide (s_kd T L (s_qs T L p i) ≠ 2)) (m := i) (fun j hj => decide_eq_false (fun z => z (h.2.2.1 j hj))) (decide_eq_true h.2.1) hi
theorem m_L.bn {μ ν : x_Me} {ω : Int64} {T : Nat → Nat} {L k p : Nat} {φ : Nat × Nat} {o g : Nat} (h : m_L μ ν ω T L k p φ o g) : s_bn T L p g = 0 := s_fp_z (fun j hj => decide_eq_false (fun z => z (h.2.2.2.1 j hj)))
theorem cl0 : (0 : Int32).toNatClampNeg = 0 := rfl
theorem cl1 : (1 : Int32).toNatClampNeg = 1 := rfl
theorem cl2 : (2 : Int32).toNatClampNeg = 2 := rfl
theorem s_gr_e {mx v : Nat} (hm : mx ≤ 100) (hv : v ≤ 99) : s_gr (eI mx) (nI v) = eI (max mx (v + 1)) := by
  unfold s_gr
  by_cases h : mx ≤ v
  · rw [if_pos (Int32.le_of_lt ((eI_gt (by omega) (by omega)).mpr h)), Nat.max_eq_right (by omega), eI_s]
  · have h1 := (eI_lt (a := v) (b := mx) (by omega) (by omega)).mpr (by omega)
    rw [Nat.max_eq_left (by omega)]
    by_cases h2 : eI mx ≤ nI v
    · rw [if_pos h2]; exact Int32.le_antisymm h1 h2
    · rw [if_neg h2]
section LINEM
variable (sc : Nat × (Nat → Int32)) (d : Nat) (μ : x_Me) (w : Int64)
theorem tX12_takeL {ν : x_Me} {ω : Int64} {T : Nat → Nat} {L k p : Nat} {φ : Nat × Nat} {o i : Nat} (h : m_L μ ν ω T L k p φ o i) (hoi : o + i < 4) (hk : k < 16) (hi : i < 4) : x_K sc (d + 2) mX12_take [.ref 152, .int (nI (o + i)), .int (nI (s_lw k i)), .int (nI (s_hg k i))] ν ω (fun r ν' ω' => (s_kd T L (s_qs T L p i) = 2 → r = some (.int 1) ∧ m_L μ ν' ω' T L k p φ o (i + 1)) ∧ (s_kd T L (s_qs T L p i) ≠ 2 → r = some (.int 0) ∧ m_Lf μ ν' T L p i)) := by
  obtain ⟨h1, h2, h3, h4, h5, h6, h7, h8, h9⟩ := h
  have hb := s_hg99 k hk i hi
  refine (tX12_take sc d ν ω T L _ _ h1 h2 (o + i) (s_lw k i) (s_hg k i) hoi hb.2 hb.1).mono (fun r ν' ω' q => ?_)
  obtain ⟨qa, qb, qj, qf⟩ := q
  refine ⟨fun hk2 => ?_, fun hk2 => ?_⟩
  · obtain ⟨rfl, y1, y2, y3, y4, y5⟩ := qa hk2
    refine ⟨rfl, y1, y2, ?_, fun j hj => ?_, fun j hj => ?_, fun j hj => ?_, ?_, ?_, fun a ha hb => ?_⟩
    · rw [y5, h3]; exact s_gds _ _
    · by_cases he : j = i
      · rw [he]; exact hk2
      · exact h4 j (by omega)
    · by_cases he : j = i
      · rw [he]; exact y3
      · rw [y4 _ (by omega)]; exact h5 j (by omega)
    · rw [y4 _ (by omega)]; exact h6 j (by omega)
    · rw [qf 161 (by decide) (by decide)]; exact h7
    · rw [qj 20 (by decide) (by decide) (by decide) (by decide) (by decide) (by decide) (by decide) (by decide)]; exact h8
    · rw [qf a ha hb]; exact h9 a ha hb
  · obtain ⟨rfl, y⟩ := qb hk2
    exact ⟨rfl, y, hk2, h4, fun a ha hb => by rw [qf a ha hb]; exact h9 a ha hb⟩
set_option maxHeartbeats 4000000 in
theorem tX12_line1 (T : Nat → Nat) (L p : Nat) (φ : Nat × Nat) (G : Nat → Nat) (mx : Nat) (hK : m_K μ w T L p) (hk1 : s_kd T L p = 1) (hF : m_F μ φ p) (hg : μ 152 21 = 1) (hC : m_C μ 0 φ G mx) (hW : g_W 0 G) : x_K sc (d + 3) mX12_goerLine [.ref 152, .int (nI (s_sp T L p))] μ w (fun r μ' w' => (s_bn T L (s_te T L p) 2 = 0 → r = some (.int 1) ∧ m_K μ' w' T L (s_qs T L (s_te T L p) 2) ∧ m_F μ' (s_nf T L 1 (s_te T L p) (s_blm φ (s_fl 1 G) 3 (s_sp T L p)) 2) (s_qs T L (s_te T L p) 2) ∧ m_C μ' 0 (s_nf T L 1 (s_te T L p) (s_blm φ (s_fl 1 G) 3 (s_sp T L p)) 2) (if (s_nf T L 1 (s_te T L p) (s_blm φ (s_fl 1 G) 3 (s_sp T L p)) 2).1 = 0 then s_kp 1 (s_nv T L (s_te T L p)) G else G) (if (s_nf T L 1 (s_te T L p) (s_blm φ (s_fl 1 G) 3 (s_sp T L p)) 2).1 = 0 then s_mxl 1 (s_nv T L (s_te T L p)) mx else mx)) ∧ (s_bn T L (s_te T L p) 2 ≠ 0 → r = some (.int 0) ∧ μ' 152 15 = nI (s_sp T L (s_qs T L (s_te T L p) (s_bn T L (s_te T L p) 2 - 1)))) ∧ ∀ a, a ≠ 152 → a ≠ 161 → a ≠ 162 → μ' a = μ a) := by
  have hL := hK.1.2.1
  have htl := s_te_le hK.1.2.2.2 hK.2.1
  have hsl := s_sp_le hK.1.2.2.2 hK.2.1
  have hlt : s_sp T L p < s_te T L p := s_sp_lt (by omega) (by omega)
  refine x_K.of (by decide) (Nat.le_of_ble_eq_true rfl) ?_
  show x_T sc (d + 3) mX12_goerLine 0 [.ref 152, .int (nI (s_sp T L p))] [] μ w _
  refine xt_aload_n _ dX12_goerLine_0 rfl ?_
  refine xt_iconst (4) dX12_goerLine_1 (by decide) ?_
  refine xt_bipush (8) dX12_goerLine_2 (by decide) ?_
  refine xt_iload_n _ dX12_goerLine_4 rfl ?_
  obtain ⟨x, hx1, hx⟩ := hC.2.1 rfl 4 (by decide) (by decide)
  have hx1 : x ≤ 8 := hx1
  refine xt_callV _ dX12_goerLine_5 klX12_142 (tX12_full sc _ μ w φ p 4 8 (s_sp T L p) x hF hsl.1 (by omega) (by decide) hx hx1 (by decide)) sh152 rfl rfl (Nat.le_of_ble_eq_true rfl) (fun r1 μ1 w1 q1 => ?_)
  obtain ⟨rfl, rfl, hF1, hj1, hf1⟩ := q1
  change x_T _ _ _ _ _ _ _ _ _
  have hxG : φ.1 = 0 → x = G 4 := fun z => (nI_eq (by omega) (by have := (show f_W G from hW).1.2.2.2.2.1; omega)).mp (hx.symm.trans ((hC.1 z).1 4 (by decide)))
  have hφ1 : s_blm φ (decide (x = 8)) 3 (s_sp T L p) = (s_blm φ (s_fl 1 G) 3 (s_sp T L p)) := by
    by_cases hz : φ.1 = 0
    · rw [hxG hz, show s_fl 1 G = decide (G 4 = 8) from (decide_eq_decide.mpr (by have := (show f_W G from hW).1.2.2.2.2.1; omega) : decide (8 ≤ G 4) = decide (G 4 = 8))]
    · rw [s_blm_n hz, s_blm_n hz]
  rw [hφ1] at hF1
  refine xt_aload_n _ dX12_goerLine_8 rfl ?_
  refine xt_callV _ dX12_goerLine_9 klX12_136 (tX12_token sc _ μ1 w1 T L (hK.1.cg (hj1 10 (by decide) (by decide)) (hf1 153 (by decide))) (s_te T L p) htl.2.2 (by rw [hj1 9 (by decide) (by decide)]; exact hK.2.2.2.2.1 (by omega))) sh152 rfl rfl (Nat.le_of_ble_eq_true rfl) (fun r2 ν0 ω0 q2 => ?_)
  obtain ⟨rfl, q2⟩ := q2
  change x_T _ _ _ _ _ _ _ _ _
  have hL0 : m_L μ ν0 ω0 T L 1 (s_te T L p) (s_blm φ (s_fl 1 G) 3 (s_sp T L p)) 0 0 := ⟨m_K.next (hK.1.cg (hj1 10 (by decide) (by decide)) (hf1 153 (by decide))) htl.2.2 q2, hF1.cg (q2.2.2.2.2.2.1 16 (by decide) (by decide) (by decide) (by decide)) (q2.2.2.2.2.2.1 17 (by decide) (by decide) (by decide) (by decide)) (by show s_sp T L p + 1 ≤ s_te T L p; omega), by rw [q2.2.2.2.2.2.1 21 (by decide) (by decide) (by decide) (by decide), hj1 21 (by decide) (by decide), hg]; rfl, fun j h => absurd h (Nat.not_lt_zero j), fun j h => absurd h (Nat.not_lt_zero j), fun j _ => by rw [q2.2.2.2.2.2.2 162 (by decide), hf1 162 (by decide)], by rw [q2.2.2.2.2.2.2 161 (by decide), hf1 161 (by decide)], by rw [q2.2.2.2.2.2.1 20 (by decide) (by decide) (by decide) (by decide), hj1 20 (by decide) (by decide)], fun a h1 _ => by rw [q2.2.2.2.2.2.2 a h1, hf1 a h1]⟩
  refine xt_aload_n _ dX12_goerLine_12 rfl ?_
  refine xt_iconst (0) dX12_goerLine_13 (by decide) ?_
  refine xt_iconst (0) dX12_goerLine_14 (by decide) ?_
  refine xt_bipush (9) dX12_goerLine_15 (by decide) ?_
  refine xt_callV _ dX12_goerLine_17 klX12_139 (tX12_takeL sc _ μ hL0 (by decide) (by decide) (by decide)) sh152 rfl rfl (Nat.le_of_ble_eq_true rfl) (fun r5 ν1 ω1 q5 => ?_)
  obtain ⟨ya, yb⟩ := q5
  by_cases hk2 : s_kd T L (s_qs T L (s_te T L p) 0) = 2
  · obtain ⟨rfl, hL1⟩ := ya hk2
    change x_T _ _ _ _ _ (.int 1 :: _) _ _ _
    refine xt_if_eq 34 dX12_goerLine_20 (by decide) (fun q => absurd q (by decide)) (fun _ => ?_)
    refine xt_aload_n _ dX12_goerLine_23 rfl ?_
    refine xt_iconst (1) dX12_goerLine_24 (by decide) ?_
    refine xt_iconst (0) dX12_goerLine_25 (by decide) ?_
    refine xt_bipush (9) dX12_goerLine_26 (by decide) ?_
    refine xt_callV _ dX12_goerLine_28 klX12_139 (tX12_takeL sc _ μ hL1 (by decide) (by decide) (by decide)) sh152 rfl rfl (Nat.le_of_ble_eq_true rfl) (fun r5 ν2 ω2 q5 => ?_)
    obtain ⟨ya, yb⟩ := q5
    by_cases hk2 : s_kd T L (s_qs T L (s_te T L p) 1) = 2
    · obtain ⟨rfl, hL2⟩ := ya hk2
      change x_T _ _ _ _ _ (.int 1 :: _) _ _ _
      refine xt_if_ne 36 dX12_goerLine_31 (by decide) (fun _ => ?_) (fun q => absurd q (by decide))
      refine xt_aload_n _ dX12_goerLine_36 rfl ?_
      refine xt_iconst (4) dX12_goerLine_37 (by decide) ?_
      refine xt_bipush (8) dX12_goerLine_38 (by decide) ?_
      refine xt_bipush (25) dX12_goerLine_40 (by decide) ?_
      refine xt_bipush (8) dX12_goerLine_42 (by decide) ?_
      refine xt_iconst (2) dX12_goerLine_44 (by decide) ?_
      have hx2 : ν2 161 4 = nI x := by rw [hL2.2.2.2.2.2.2.1]; exact hx
      refine xt_callV _ dX12_goerLine_45 klX12_146 (tX12_keep sc _ ν2 ω2 4 8 25 8 2 x (by decide) hx2 hx1 (by decide) (by decide) (by decide) (by decide) (by decide) (by decide)) sh152 rfl rfl (Nat.le_of_ble_eq_true rfl) (fun r6 μ6 w6 q6 => ?_)
      obtain ⟨rfl, rfl, hm6⟩ := q6
      change x_T _ _ _ _ _ _ _ _ _
      refine xt_iconst (1) dX12_goerLine_48 (by decide) ?_
      refine xt_iret .boolean dX12_goerLine_49 rfl (by rfl) ?_
      obtain ⟨z1, z2, z3, z4, z5, z6, z7, z8, z9⟩ := hL2
      have hbn : s_bn T L (s_te T L p) 2 = 0 := m_L.bn ⟨z1, z2, z3, z4, z5, z6, z7, z8, z9⟩
      have e152 : μ6 152 = ν2 152 := by rw [hm6]; split <;> first | rfl | exact x_u_ne (by decide)
      have ene : ∀ a, a ≠ 161 → μ6 a = ν2 a := fun a h => by rw [hm6]; split <;> first | rfl | exact x_u_ne h
      refine ⟨fun _ => ⟨rfl, z1.cg (fun j _ _ => by rw [e152]) (ene 153 (by decide)), z2.cg (by rw [e152]) (by rw [e152]) (Nat.le_refl _), ?_, ?_⟩, fun h => absurd hbn h, fun a h1 h2 h3 => by rw [ene a h2]; exact z9 a h1 h3⟩
      · intro hz
        rw [if_pos hz, if_pos hz]
        obtain ⟨hz1, _⟩ := s_nf_0 hz
        obtain ⟨hz0, hfl⟩ := s_blm_0 (by decide) hz1
        have hxe := hxG hz0
        have hxm : ¬ x = 8 := fun e => by
          have h5 : decide (8 ≤ G 4) = false := hfl
          have := of_decide_eq_false h5
          omega
        rw [if_neg hxm] at hm6
        refine ⟨fun i hi => ?_, by rw [e152, z8]; exact (hC.1 hz0).2⟩
        rw [hm6, x_u_eq, z7]
        show _ = nI (s_up (s_rw G 25 8 (G 4) (s_nv T L (s_te T L p)) 2) 4 (G 4 + 1) i)
        by_cases he : i = 4
        · rw [he, pk_us, s_up_s, hxe]
        · rw [pk_un he, s_up_n he, hxe]
          exact s_wm_rw (hC.1 hz0).1 (fun j hj => by have := z5 j hj; rw [Nat.zero_add] at this; exact this) i hi
      · refine ⟨fun _ c2 h3 h6 => ?_, fun h => absurd h (by decide), fun h => absurd h (by decide)⟩
        obtain ⟨y, hy1, hy⟩ := hC.2.1 rfl c2 h3 h6
        by_cases hxm : x = 8
        · rw [if_pos hxm] at hm6; rw [hm6, z7]; exact ⟨y, hy1, hy⟩
        · rw [if_neg hxm] at hm6
          rw [hm6, x_u_eq, z7]
          by_cases he : c2 = 4
          · rw [he, pk_us]; exact ⟨x + 1, by show x + 1 ≤ 8; omega, rfl⟩
          · rw [pk_un he, s_wm_ne (by omega)]; exact ⟨y, hy1, hy⟩
    · obtain ⟨rfl, hBad⟩ := yb hk2
      change x_T _ _ _ _ _ (.int 0 :: _) _ _ _
      refine xt_if_ne 36 dX12_goerLine_31 (by decide) (fun q => absurd (by decide) q) (fun _ => ?_)
      refine xt_iconst (0) dX12_goerLine_34 (by decide) ?_
      exact xt_iret .boolean dX12_goerLine_35 rfl (by first | rfl | assumption) ⟨fun h => absurd h (by rw [hBad.bn (g := 2) (by decide)]; exact Nat.succ_ne_zero _), fun _ => ⟨rfl, by rw [hBad.bn (g := 2) (by decide)]; exact hBad.1⟩, fun a h1 _ h3 => hBad.2.2.2 a h1 h3⟩
  · obtain ⟨rfl, hBad⟩ := yb hk2
    change x_T _ _ _ _ _ (.int 0 :: _) _ _ _
    refine xt_if_eq 34 dX12_goerLine_20 (by decide) (fun _ => ?_) (fun q => absurd (by decide) q)
    refine xt_iconst (0) dX12_goerLine_34 (by decide) ?_
    exact xt_iret .boolean dX12_goerLine_35 rfl (by first | rfl | assumption) ⟨fun h => absurd h (by rw [hBad.bn (g := 2) (by decide)]; exact Nat.succ_ne_zero _), fun _ => ⟨rfl, by rw [hBad.bn (g := 2) (by decide)]; exact hBad.1⟩, fun a h1 _ h3 => hBad.2.2.2 a h1 h3⟩
set_option maxHeartbeats 4000000 in
theorem tX12_line3 (T : Nat → Nat) (L p : Nat) (φ : Nat × Nat) (G : Nat → Nat) (mx : Nat) (hK : m_K μ w T L p) (hk1 : s_kd T L p = 1) (hF : m_F μ φ p) (hg : μ 152 21 = 1) (hC : m_C μ 0 φ G mx) (hW : g_W 0 G) : x_K sc (d + 3) mX12_mindsLine [.ref 152, .int (nI (s_sp T L p))] μ w (fun r μ' w' => (s_bn T L (s_te T L p) 3 = 0 → r = some (.int 1) ∧ m_K μ' w' T L (s_qs T L (s_te T L p) 3) ∧ m_F μ' (s_nf T L 3 (s_te T L p) (s_blm φ (s_fl 3 G) 3 (s_sp T L p)) 3) (s_qs T L (s_te T L p) 3) ∧ m_C μ' 0 (s_nf T L 3 (s_te T L p) (s_blm φ (s_fl 3 G) 3 (s_sp T L p)) 3) (if (s_nf T L 3 (s_te T L p) (s_blm φ (s_fl 3 G) 3 (s_sp T L p)) 3).1 = 0 then s_kp 3 (s_nv T L (s_te T L p)) G else G) (if (s_nf T L 3 (s_te T L p) (s_blm φ (s_fl 3 G) 3 (s_sp T L p)) 3).1 = 0 then s_mxl 3 (s_nv T L (s_te T L p)) mx else mx)) ∧ (s_bn T L (s_te T L p) 3 ≠ 0 → r = some (.int 0) ∧ μ' 152 15 = nI (s_sp T L (s_qs T L (s_te T L p) (s_bn T L (s_te T L p) 3 - 1)))) ∧ ∀ a, a ≠ 152 → a ≠ 161 → a ≠ 162 → μ' a = μ a) := by
  have hL := hK.1.2.1
  have htl := s_te_le hK.1.2.2.2 hK.2.1
  have hsl := s_sp_le hK.1.2.2.2 hK.2.1
  have hlt : s_sp T L p < s_te T L p := s_sp_lt (by omega) (by omega)
  refine x_K.of (by decide) (Nat.le_of_ble_eq_true rfl) ?_
  show x_T sc (d + 3) mX12_mindsLine 0 [.ref 152, .int (nI (s_sp T L p))] [] μ w _
  refine xt_aload_n _ dX12_mindsLine_0 rfl ?_
  refine xt_iconst (3) dX12_mindsLine_1 (by decide) ?_
  refine xt_bipush (6) dX12_mindsLine_2 (by decide) ?_
  refine xt_iload_n _ dX12_mindsLine_4 rfl ?_
  obtain ⟨x, hx1, hx⟩ := hC.2.1 rfl 3 (by decide) (by decide)
  have hx1 : x ≤ 6 := hx1
  refine xt_callV _ dX12_mindsLine_5 klX12_142 (tX12_full sc _ μ w φ p 3 6 (s_sp T L p) x hF hsl.1 (by omega) (by decide) hx hx1 (by decide)) sh152 rfl rfl (Nat.le_of_ble_eq_true rfl) (fun r1 μ1 w1 q1 => ?_)
  obtain ⟨rfl, rfl, hF1, hj1, hf1⟩ := q1
  change x_T _ _ _ _ _ _ _ _ _
  have hxG : φ.1 = 0 → x = G 3 := fun z => (nI_eq (by omega) (by have := (show f_W G from hW).1.2.2.2.1; omega)).mp (hx.symm.trans ((hC.1 z).1 3 (by decide)))
  have hφ1 : s_blm φ (decide (x = 6)) 3 (s_sp T L p) = (s_blm φ (s_fl 3 G) 3 (s_sp T L p)) := by
    by_cases hz : φ.1 = 0
    · rw [hxG hz, show s_fl 3 G = decide (G 3 = 6) from (decide_eq_decide.mpr (by have := (show f_W G from hW).1.2.2.2.1; omega) : decide (6 ≤ G 3) = decide (G 3 = 6))]
    · rw [s_blm_n hz, s_blm_n hz]
  rw [hφ1] at hF1
  refine xt_aload_n _ dX12_mindsLine_8 rfl ?_
  refine xt_callV _ dX12_mindsLine_9 klX12_136 (tX12_token sc _ μ1 w1 T L (hK.1.cg (hj1 10 (by decide) (by decide)) (hf1 153 (by decide))) (s_te T L p) htl.2.2 (by rw [hj1 9 (by decide) (by decide)]; exact hK.2.2.2.2.1 (by omega))) sh152 rfl rfl (Nat.le_of_ble_eq_true rfl) (fun r2 ν0 ω0 q2 => ?_)
  obtain ⟨rfl, q2⟩ := q2
  change x_T _ _ _ _ _ _ _ _ _
  have hL0 : m_L μ ν0 ω0 T L 3 (s_te T L p) (s_blm φ (s_fl 3 G) 3 (s_sp T L p)) 0 0 := ⟨m_K.next (hK.1.cg (hj1 10 (by decide) (by decide)) (hf1 153 (by decide))) htl.2.2 q2, hF1.cg (q2.2.2.2.2.2.1 16 (by decide) (by decide) (by decide) (by decide)) (q2.2.2.2.2.2.1 17 (by decide) (by decide) (by decide) (by decide)) (by show s_sp T L p + 1 ≤ s_te T L p; omega), by rw [q2.2.2.2.2.2.1 21 (by decide) (by decide) (by decide) (by decide), hj1 21 (by decide) (by decide), hg]; rfl, fun j h => absurd h (Nat.not_lt_zero j), fun j h => absurd h (Nat.not_lt_zero j), fun j _ => by rw [q2.2.2.2.2.2.2 162 (by decide), hf1 162 (by decide)], by rw [q2.2.2.2.2.2.2 161 (by decide), hf1 161 (by decide)], by rw [q2.2.2.2.2.2.1 20 (by decide) (by decide) (by decide) (by decide), hj1 20 (by decide) (by decide)], fun a h1 _ => by rw [q2.2.2.2.2.2.2 a h1, hf1 a h1]⟩
  refine xt_aload_n _ dX12_mindsLine_12 rfl ?_
  refine xt_iconst (0) dX12_mindsLine_13 (by decide) ?_
  refine xt_iconst (0) dX12_mindsLine_14 (by decide) ?_
  refine xt_iconst (5) dX12_mindsLine_15 (by decide) ?_
  refine xt_callV _ dX12_mindsLine_16 klX12_139 (tX12_takeL sc _ μ hL0 (by decide) (by decide) (by decide)) sh152 rfl rfl (Nat.le_of_ble_eq_true rfl) (fun r5 ν1 ω1 q5 => ?_)
  obtain ⟨ya, yb⟩ := q5
  by_cases hk2 : s_kd T L (s_qs T L (s_te T L p) 0) = 2
  · obtain ⟨rfl, hL1⟩ := ya hk2
    change x_T _ _ _ _ _ (.int 1 :: _) _ _ _
    refine xt_if_eq 44 dX12_mindsLine_19 (by decide) (fun q => absurd q (by decide)) (fun _ => ?_)
    refine xt_aload_n _ dX12_mindsLine_22 rfl ?_
    refine xt_iconst (1) dX12_mindsLine_23 (by decide) ?_
    refine xt_iconst (0) dX12_mindsLine_24 (by decide) ?_
    refine xt_bipush (18) dX12_mindsLine_25 (by decide) ?_
    refine xt_callV _ dX12_mindsLine_27 klX12_139 (tX12_takeL sc _ μ hL1 (by decide) (by decide) (by decide)) sh152 rfl rfl (Nat.le_of_ble_eq_true rfl) (fun r5 ν2 ω2 q5 => ?_)
    obtain ⟨ya, yb⟩ := q5
    by_cases hk2 : s_kd T L (s_qs T L (s_te T L p) 1) = 2
    · obtain ⟨rfl, hL2⟩ := ya hk2
      change x_T _ _ _ _ _ (.int 1 :: _) _ _ _
      refine xt_if_eq 44 dX12_mindsLine_30 (by decide) (fun q => absurd q (by decide)) (fun _ => ?_)
      refine xt_aload_n _ dX12_mindsLine_33 rfl ?_
      refine xt_iconst (2) dX12_mindsLine_34 (by decide) ?_
      refine xt_iconst (1) dX12_mindsLine_35 (by decide) ?_
      refine xt_bipush (9) dX12_mindsLine_36 (by decide) ?_
      refine xt_callV _ dX12_mindsLine_38 klX12_139 (tX12_takeL sc _ μ hL2 (by decide) (by decide) (by decide)) sh152 rfl rfl (Nat.le_of_ble_eq_true rfl) (fun r5 ν3 ω3 q5 => ?_)
      obtain ⟨ya, yb⟩ := q5
      by_cases hk2 : s_kd T L (s_qs T L (s_te T L p) 2) = 2
      · obtain ⟨rfl, hL3⟩ := ya hk2
        change x_T _ _ _ _ _ (.int 1 :: _) _ _ _
        refine xt_if_ne 46 dX12_mindsLine_41 (by decide) (fun _ => ?_) (fun q => absurd q (by decide))
        refine xt_aload_n _ dX12_mindsLine_46 rfl ?_
        refine xt_iconst (3) dX12_mindsLine_47 (by decide) ?_
        refine xt_bipush (6) dX12_mindsLine_48 (by decide) ?_
        refine xt_bipush (7) dX12_mindsLine_50 (by decide) ?_
        refine xt_bipush (6) dX12_mindsLine_52 (by decide) ?_
        refine xt_iconst (3) dX12_mindsLine_54 (by decide) ?_
        have hx2 : ν3 161 3 = nI x := by rw [hL3.2.2.2.2.2.2.1]; exact hx
        refine xt_callV _ dX12_mindsLine_55 klX12_146 (tX12_keep sc _ ν3 ω3 3 6 7 6 3 x (by decide) hx2 hx1 (by decide) (by decide) (by decide) (by decide) (by decide) (by decide)) sh152 rfl rfl (Nat.le_of_ble_eq_true rfl) (fun r6 μ6 w6 q6 => ?_)
        obtain ⟨rfl, rfl, hm6⟩ := q6
        change x_T _ _ _ _ _ _ _ _ _
        refine xt_iconst (1) dX12_mindsLine_58 (by decide) ?_
        refine xt_iret .boolean dX12_mindsLine_59 rfl (by rfl) ?_
        obtain ⟨z1, z2, z3, z4, z5, z6, z7, z8, z9⟩ := hL3
        have hbn : s_bn T L (s_te T L p) 3 = 0 := m_L.bn ⟨z1, z2, z3, z4, z5, z6, z7, z8, z9⟩
        have e152 : μ6 152 = ν3 152 := by rw [hm6]; split <;> first | rfl | exact x_u_ne (by decide)
        have ene : ∀ a, a ≠ 161 → μ6 a = ν3 a := fun a h => by rw [hm6]; split <;> first | rfl | exact x_u_ne h
        refine ⟨fun _ => ⟨rfl, z1.cg (fun j _ _ => by rw [e152]) (ene 153 (by decide)), z2.cg (by rw [e152]) (by rw [e152]) (Nat.le_refl _), ?_, ?_⟩, fun h => absurd hbn h, fun a h1 h2 h3 => by rw [ene a h2]; exact z9 a h1 h3⟩
        · intro hz
          rw [if_pos hz, if_pos hz]
          obtain ⟨hz1, _⟩ := s_nf_0 hz
          obtain ⟨hz0, hfl⟩ := s_blm_0 (by decide) hz1
          have hxe := hxG hz0
          have hxm : ¬ x = 6 := fun e => by
            have h5 : decide (6 ≤ G 3) = false := hfl
            have := of_decide_eq_false h5
            omega
          rw [if_neg hxm] at hm6
          refine ⟨fun i hi => ?_, by rw [e152, z8]; exact (hC.1 hz0).2⟩
          rw [hm6, x_u_eq, z7]
          show _ = nI (s_up (s_rw G 7 6 (G 3) (s_nv T L (s_te T L p)) 3) 3 (G 3 + 1) i)
          by_cases he : i = 3
          · rw [he, pk_us, s_up_s, hxe]
          · rw [pk_un he, s_up_n he, hxe]
            exact s_wm_rw (hC.1 hz0).1 (fun j hj => by have := z5 j hj; rw [Nat.zero_add] at this; exact this) i hi
        · refine ⟨fun _ c2 h3 h6 => ?_, fun h => absurd h (by decide), fun h => absurd h (by decide)⟩
          obtain ⟨y, hy1, hy⟩ := hC.2.1 rfl c2 h3 h6
          by_cases hxm : x = 6
          · rw [if_pos hxm] at hm6; rw [hm6, z7]; exact ⟨y, hy1, hy⟩
          · rw [if_neg hxm] at hm6
            rw [hm6, x_u_eq, z7]
            by_cases he : c2 = 3
            · rw [he, pk_us]; exact ⟨x + 1, by show x + 1 ≤ 6; omega, rfl⟩
            · rw [pk_un he, s_wm_ne (by omega)]; exact ⟨y, hy1, hy⟩
      · obtain ⟨rfl, hBad⟩ := yb hk2
        change x_T _ _ _ _ _ (.int 0 :: _) _ _ _
        refine xt_if_ne 46 dX12_mindsLine_41 (by decide) (fun q => absurd (by decide) q) (fun _ => ?_)
        refine xt_iconst (0) dX12_mindsLine_44 (by decide) ?_
        exact xt_iret .boolean dX12_mindsLine_45 rfl (by first | rfl | assumption) ⟨fun h => absurd h (by rw [hBad.bn (g := 3) (by decide)]; exact Nat.succ_ne_zero _), fun _ => ⟨rfl, by rw [hBad.bn (g := 3) (by decide)]; exact hBad.1⟩, fun a h1 _ h3 => hBad.2.2.2 a h1 h3⟩
    · obtain ⟨rfl, hBad⟩ := yb hk2
      change x_T _ _ _ _ _ (.int 0 :: _) _ _ _
      refine xt_if_eq 44 dX12_mindsLine_30 (by decide) (fun _ => ?_) (fun q => absurd (by decide) q)
      refine xt_iconst (0) dX12_mindsLine_44 (by decide) ?_
      exact xt_iret .boolean dX12_mindsLine_45 rfl (by first | rfl | assumption) ⟨fun h => absurd h (by rw [hBad.bn (g := 3) (by decide)]; exact Nat.succ_ne_zero _), fun _ => ⟨rfl, by rw [hBad.bn (g := 3) (by decide)]; exact hBad.1⟩, fun a h1 _ h3 => hBad.2.2.2 a h1 h3⟩
  · obtain ⟨rfl, hBad⟩ := yb hk2
    change x_T _ _ _ _ _ (.int 0 :: _) _ _ _
    refine xt_if_eq 44 dX12_mindsLine_19 (by decide) (fun _ => ?_) (fun q => absurd (by decide) q)
    refine xt_iconst (0) dX12_mindsLine_44 (by decide) ?_
    exact xt_iret .boolean dX12_mindsLine_45 rfl (by first | rfl | assumption) ⟨fun h => absurd h (by rw [hBad.bn (g := 3) (by decide)]; exact Nat.succ_ne_zero _), fun _ => ⟨rfl, by rw [hBad.bn (g := 3) (by decide)]; exact hBad.1⟩, fun a h1 _ h3 => hBad.2.2.2 a h1 h3⟩
set_option maxHeartbeats 4000000 in
theorem tX12_line5 (T : Nat → Nat) (L p : Nat) (φ : Nat × Nat) (G : Nat → Nat) (mx : Nat) (hK : m_K μ w T L p) (hk1 : s_kd T L p = 1) (hF : m_F μ φ p) (hg : μ 152 21 = 1) (hC : m_C μ 0 φ G mx) (hW : g_W 0 G) : x_K sc (d + 3) mX12_confessLine [.ref 152, .int (nI (s_sp T L p))] μ w (fun r μ' w' => (s_bn T L (s_te T L p) 2 = 0 → r = some (.int 1) ∧ m_K μ' w' T L (s_qs T L (s_te T L p) 2) ∧ m_F μ' (s_nf T L 5 (s_te T L p) (s_blm φ (s_fl 5 G) 3 (s_sp T L p)) 2) (s_qs T L (s_te T L p) 2) ∧ m_C μ' 0 (s_nf T L 5 (s_te T L p) (s_blm φ (s_fl 5 G) 3 (s_sp T L p)) 2) (if (s_nf T L 5 (s_te T L p) (s_blm φ (s_fl 5 G) 3 (s_sp T L p)) 2).1 = 0 then s_kp 5 (s_nv T L (s_te T L p)) G else G) (if (s_nf T L 5 (s_te T L p) (s_blm φ (s_fl 5 G) 3 (s_sp T L p)) 2).1 = 0 then s_mxl 5 (s_nv T L (s_te T L p)) mx else mx)) ∧ (s_bn T L (s_te T L p) 2 ≠ 0 → r = some (.int 0) ∧ μ' 152 15 = nI (s_sp T L (s_qs T L (s_te T L p) (s_bn T L (s_te T L p) 2 - 1)))) ∧ ∀ a, a ≠ 152 → a ≠ 161 → a ≠ 162 → μ' a = μ a) := by
  have hL := hK.1.2.1
  have htl := s_te_le hK.1.2.2.2 hK.2.1
  have hsl := s_sp_le hK.1.2.2.2 hK.2.1
  have hlt : s_sp T L p < s_te T L p := s_sp_lt (by omega) (by omega)
  refine x_K.of (by decide) (Nat.le_of_ble_eq_true rfl) ?_
  show x_T sc (d + 3) mX12_confessLine 0 [.ref 152, .int (nI (s_sp T L p))] [] μ w _
  refine xt_aload_n _ dX12_confessLine_0 rfl ?_
  refine xt_iconst (5) dX12_confessLine_1 (by decide) ?_
  refine xt_bipush (6) dX12_confessLine_2 (by decide) ?_
  refine xt_iload_n _ dX12_confessLine_4 rfl ?_
  obtain ⟨x, hx1, hx⟩ := hC.2.1 rfl 5 (by decide) (by decide)
  have hx1 : x ≤ 6 := hx1
  refine xt_callV _ dX12_confessLine_5 klX12_142 (tX12_full sc _ μ w φ p 5 6 (s_sp T L p) x hF hsl.1 (by omega) (by decide) hx hx1 (by decide)) sh152 rfl rfl (Nat.le_of_ble_eq_true rfl) (fun r1 μ1 w1 q1 => ?_)
  obtain ⟨rfl, rfl, hF1, hj1, hf1⟩ := q1
  change x_T _ _ _ _ _ _ _ _ _
  have hxG : φ.1 = 0 → x = G 5 := fun z => (nI_eq (by omega) (by have := (show f_W G from hW).1.2.2.2.2.2.1; omega)).mp (hx.symm.trans ((hC.1 z).1 5 (by decide)))
  have hφ1 : s_blm φ (decide (x = 6)) 3 (s_sp T L p) = (s_blm φ (s_fl 5 G) 3 (s_sp T L p)) := by
    by_cases hz : φ.1 = 0
    · rw [hxG hz, show s_fl 5 G = decide (G 5 = 6) from (decide_eq_decide.mpr (by have := (show f_W G from hW).1.2.2.2.2.2.1; omega) : decide (6 ≤ G 5) = decide (G 5 = 6))]
    · rw [s_blm_n hz, s_blm_n hz]
  rw [hφ1] at hF1
  refine xt_aload_n _ dX12_confessLine_8 rfl ?_
  refine xt_callV _ dX12_confessLine_9 klX12_136 (tX12_token sc _ μ1 w1 T L (hK.1.cg (hj1 10 (by decide) (by decide)) (hf1 153 (by decide))) (s_te T L p) htl.2.2 (by rw [hj1 9 (by decide) (by decide)]; exact hK.2.2.2.2.1 (by omega))) sh152 rfl rfl (Nat.le_of_ble_eq_true rfl) (fun r2 ν0 ω0 q2 => ?_)
  obtain ⟨rfl, q2⟩ := q2
  change x_T _ _ _ _ _ _ _ _ _
  have hL0 : m_L μ ν0 ω0 T L 5 (s_te T L p) (s_blm φ (s_fl 5 G) 3 (s_sp T L p)) 0 0 := ⟨m_K.next (hK.1.cg (hj1 10 (by decide) (by decide)) (hf1 153 (by decide))) htl.2.2 q2, hF1.cg (q2.2.2.2.2.2.1 16 (by decide) (by decide) (by decide) (by decide)) (q2.2.2.2.2.2.1 17 (by decide) (by decide) (by decide) (by decide)) (by show s_sp T L p + 1 ≤ s_te T L p; omega), by rw [q2.2.2.2.2.2.1 21 (by decide) (by decide) (by decide) (by decide), hj1 21 (by decide) (by decide), hg]; rfl, fun j h => absurd h (Nat.not_lt_zero j), fun j h => absurd h (Nat.not_lt_zero j), fun j _ => by rw [q2.2.2.2.2.2.2 162 (by decide), hf1 162 (by decide)], by rw [q2.2.2.2.2.2.2 161 (by decide), hf1 161 (by decide)], by rw [q2.2.2.2.2.2.1 20 (by decide) (by decide) (by decide) (by decide), hj1 20 (by decide) (by decide)], fun a h1 _ => by rw [q2.2.2.2.2.2.2 a h1, hf1 a h1]⟩
  refine xt_aload_n _ dX12_confessLine_12 rfl ?_
  refine xt_iconst (0) dX12_confessLine_13 (by decide) ?_
  refine xt_iconst (1) dX12_confessLine_14 (by decide) ?_
  refine xt_bipush (63) dX12_confessLine_15 (by decide) ?_
  refine xt_callV _ dX12_confessLine_17 klX12_139 (tX12_takeL sc _ μ hL0 (by decide) (by decide) (by decide)) sh152 rfl rfl (Nat.le_of_ble_eq_true rfl) (fun r5 ν1 ω1 q5 => ?_)
  obtain ⟨ya, yb⟩ := q5
  by_cases hk2 : s_kd T L (s_qs T L (s_te T L p) 0) = 2
  · obtain ⟨rfl, hL1⟩ := ya hk2
    change x_T _ _ _ _ _ (.int 1 :: _) _ _ _
    refine xt_if_eq 34 dX12_confessLine_20 (by decide) (fun q => absurd q (by decide)) (fun _ => ?_)
    refine xt_aload_n _ dX12_confessLine_23 rfl ?_
    refine xt_iconst (1) dX12_confessLine_24 (by decide) ?_
    refine xt_iconst (0) dX12_confessLine_25 (by decide) ?_
    refine xt_bipush (20) dX12_confessLine_26 (by decide) ?_
    refine xt_callV _ dX12_confessLine_28 klX12_139 (tX12_takeL sc _ μ hL1 (by decide) (by decide) (by decide)) sh152 rfl rfl (Nat.le_of_ble_eq_true rfl) (fun r5 ν2 ω2 q5 => ?_)
    obtain ⟨ya, yb⟩ := q5
    by_cases hk2 : s_kd T L (s_qs T L (s_te T L p) 1) = 2
    · obtain ⟨rfl, hL2⟩ := ya hk2
      change x_T _ _ _ _ _ (.int 1 :: _) _ _ _
      refine xt_if_ne 36 dX12_confessLine_31 (by decide) (fun _ => ?_) (fun q => absurd q (by decide))
      refine xt_aload_n _ dX12_confessLine_36 rfl ?_
      refine xt_iconst (5) dX12_confessLine_37 (by decide) ?_
      refine xt_bipush (6) dX12_confessLine_38 (by decide) ?_
      refine xt_bipush (89) dX12_confessLine_40 (by decide) ?_
      refine xt_bipush (6) dX12_confessLine_42 (by decide) ?_
      refine xt_iconst (2) dX12_confessLine_44 (by decide) ?_
      have hx2 : ν2 161 5 = nI x := by rw [hL2.2.2.2.2.2.2.1]; exact hx
      refine xt_callV _ dX12_confessLine_45 klX12_146 (tX12_keep sc _ ν2 ω2 5 6 89 6 2 x (by decide) hx2 hx1 (by decide) (by decide) (by decide) (by decide) (by decide) (by decide)) sh152 rfl rfl (Nat.le_of_ble_eq_true rfl) (fun r6 μ6 w6 q6 => ?_)
      obtain ⟨rfl, rfl, hm6⟩ := q6
      change x_T _ _ _ _ _ _ _ _ _
      refine xt_iconst (1) dX12_confessLine_48 (by decide) ?_
      refine xt_iret .boolean dX12_confessLine_49 rfl (by rfl) ?_
      obtain ⟨z1, z2, z3, z4, z5, z6, z7, z8, z9⟩ := hL2
      have hbn : s_bn T L (s_te T L p) 2 = 0 := m_L.bn ⟨z1, z2, z3, z4, z5, z6, z7, z8, z9⟩
      have e152 : μ6 152 = ν2 152 := by rw [hm6]; split <;> first | rfl | exact x_u_ne (by decide)
      have ene : ∀ a, a ≠ 161 → μ6 a = ν2 a := fun a h => by rw [hm6]; split <;> first | rfl | exact x_u_ne h
      refine ⟨fun _ => ⟨rfl, z1.cg (fun j _ _ => by rw [e152]) (ene 153 (by decide)), z2.cg (by rw [e152]) (by rw [e152]) (Nat.le_refl _), ?_, ?_⟩, fun h => absurd hbn h, fun a h1 h2 h3 => by rw [ene a h2]; exact z9 a h1 h3⟩
      · intro hz
        rw [if_pos hz, if_pos hz]
        obtain ⟨hz1, _⟩ := s_nf_0 hz
        obtain ⟨hz0, hfl⟩ := s_blm_0 (by decide) hz1
        have hxe := hxG hz0
        have hxm : ¬ x = 6 := fun e => by
          have h5 : decide (6 ≤ G 5) = false := hfl
          have := of_decide_eq_false h5
          omega
        rw [if_neg hxm] at hm6
        refine ⟨fun i hi => ?_, by rw [e152, z8]; exact (hC.1 hz0).2⟩
        rw [hm6, x_u_eq, z7]
        show _ = nI (s_up (s_rw G 89 6 (G 5) (s_nv T L (s_te T L p)) 2) 5 (G 5 + 1) i)
        by_cases he : i = 5
        · rw [he, pk_us, s_up_s, hxe]
        · rw [pk_un he, s_up_n he, hxe]
          exact s_wm_rw (hC.1 hz0).1 (fun j hj => by have := z5 j hj; rw [Nat.zero_add] at this; exact this) i hi
      · refine ⟨fun _ c2 h3 h6 => ?_, fun h => absurd h (by decide), fun h => absurd h (by decide)⟩
        obtain ⟨y, hy1, hy⟩ := hC.2.1 rfl c2 h3 h6
        by_cases hxm : x = 6
        · rw [if_pos hxm] at hm6; rw [hm6, z7]; exact ⟨y, hy1, hy⟩
        · rw [if_neg hxm] at hm6
          rw [hm6, x_u_eq, z7]
          by_cases he : c2 = 5
          · rw [he, pk_us]; exact ⟨x + 1, by show x + 1 ≤ 6; omega, rfl⟩
          · rw [pk_un he, s_wm_ne (by omega)]; exact ⟨y, hy1, hy⟩
    · obtain ⟨rfl, hBad⟩ := yb hk2
      change x_T _ _ _ _ _ (.int 0 :: _) _ _ _
      refine xt_if_ne 36 dX12_confessLine_31 (by decide) (fun q => absurd (by decide) q) (fun _ => ?_)
      refine xt_iconst (0) dX12_confessLine_34 (by decide) ?_
      exact xt_iret .boolean dX12_confessLine_35 rfl (by first | rfl | assumption) ⟨fun h => absurd h (by rw [hBad.bn (g := 2) (by decide)]; exact Nat.succ_ne_zero _), fun _ => ⟨rfl, by rw [hBad.bn (g := 2) (by decide)]; exact hBad.1⟩, fun a h1 _ h3 => hBad.2.2.2 a h1 h3⟩
  · obtain ⟨rfl, hBad⟩ := yb hk2
    change x_T _ _ _ _ _ (.int 0 :: _) _ _ _
    refine xt_if_eq 34 dX12_confessLine_20 (by decide) (fun _ => ?_) (fun q => absurd (by decide) q)
    refine xt_iconst (0) dX12_confessLine_34 (by decide) ?_
    exact xt_iret .boolean dX12_confessLine_35 rfl (by first | rfl | assumption) ⟨fun h => absurd h (by rw [hBad.bn (g := 2) (by decide)]; exact Nat.succ_ne_zero _), fun _ => ⟨rfl, by rw [hBad.bn (g := 2) (by decide)]; exact hBad.1⟩, fun a h1 _ h3 => hBad.2.2.2 a h1 h3⟩
set_option maxHeartbeats 4000000 in
theorem tX12_line6 (T : Nat → Nat) (L p : Nat) (φ : Nat × Nat) (G : Nat → Nat) (mx : Nat) (hK : m_K μ w T L p) (hk1 : s_kd T L p = 1) (hF : m_F μ φ p) (hg : μ 152 21 = 1) (hC : m_C μ 0 φ G mx) (hW : g_W 0 G) : x_K sc (d + 3) mX12_townLine [.ref 152, .int (nI (s_sp T L p))] μ w (fun r μ' w' => (s_bn T L (s_te T L p) 4 = 0 → r = some (.int 1) ∧ m_K μ' w' T L (s_qs T L (s_te T L p) 4) ∧ m_F μ' (s_nf T L 6 (s_te T L p) (s_blm φ (s_fl 6 G) 3 (s_sp T L p)) 4) (s_qs T L (s_te T L p) 4) ∧ m_C μ' 0 (s_nf T L 6 (s_te T L p) (s_blm φ (s_fl 6 G) 3 (s_sp T L p)) 4) (if (s_nf T L 6 (s_te T L p) (s_blm φ (s_fl 6 G) 3 (s_sp T L p)) 4).1 = 0 then s_kp 6 (s_nv T L (s_te T L p)) G else G) (if (s_nf T L 6 (s_te T L p) (s_blm φ (s_fl 6 G) 3 (s_sp T L p)) 4).1 = 0 then s_mxl 6 (s_nv T L (s_te T L p)) mx else mx)) ∧ (s_bn T L (s_te T L p) 4 ≠ 0 → r = some (.int 0) ∧ μ' 152 15 = nI (s_sp T L (s_qs T L (s_te T L p) (s_bn T L (s_te T L p) 4 - 1)))) ∧ ∀ a, a ≠ 152 → a ≠ 161 → a ≠ 162 → μ' a = μ a) := by
  have hL := hK.1.2.1
  have htl := s_te_le hK.1.2.2.2 hK.2.1
  have hsl := s_sp_le hK.1.2.2.2 hK.2.1
  have hlt : s_sp T L p < s_te T L p := s_sp_lt (by omega) (by omega)
  refine x_K.of (by decide) (Nat.le_of_ble_eq_true rfl) ?_
  show x_T sc (d + 3) mX12_townLine 0 [.ref 152, .int (nI (s_sp T L p))] [] μ w _
  refine xt_aload_n _ dX12_townLine_0 rfl ?_
  refine xt_bipush (6) dX12_townLine_1 (by decide) ?_
  refine xt_bipush (6) dX12_townLine_3 (by decide) ?_
  refine xt_iload_n _ dX12_townLine_5 rfl ?_
  obtain ⟨x, hx1, hx⟩ := hC.2.1 rfl 6 (by decide) (by decide)
  have hx1 : x ≤ 6 := hx1
  refine xt_callV _ dX12_townLine_6 klX12_142 (tX12_full sc _ μ w φ p 6 6 (s_sp T L p) x hF hsl.1 (by omega) (by decide) hx hx1 (by decide)) sh152 rfl rfl (Nat.le_of_ble_eq_true rfl) (fun r1 μ1 w1 q1 => ?_)
  obtain ⟨rfl, rfl, hF1, hj1, hf1⟩ := q1
  change x_T _ _ _ _ _ _ _ _ _
  have hxG : φ.1 = 0 → x = G 6 := fun z => (nI_eq (by omega) (by have := (show f_W G from hW).1.2.2.2.2.2.2; omega)).mp (hx.symm.trans ((hC.1 z).1 6 (by decide)))
  have hφ1 : s_blm φ (decide (x = 6)) 3 (s_sp T L p) = (s_blm φ (s_fl 6 G) 3 (s_sp T L p)) := by
    by_cases hz : φ.1 = 0
    · rw [hxG hz, show s_fl 6 G = decide (G 6 = 6) from (decide_eq_decide.mpr (by have := (show f_W G from hW).1.2.2.2.2.2.2; omega) : decide (6 ≤ G 6) = decide (G 6 = 6))]
    · rw [s_blm_n hz, s_blm_n hz]
  rw [hφ1] at hF1
  refine xt_aload_n _ dX12_townLine_9 rfl ?_
  refine xt_callV _ dX12_townLine_10 klX12_136 (tX12_token sc _ μ1 w1 T L (hK.1.cg (hj1 10 (by decide) (by decide)) (hf1 153 (by decide))) (s_te T L p) htl.2.2 (by rw [hj1 9 (by decide) (by decide)]; exact hK.2.2.2.2.1 (by omega))) sh152 rfl rfl (Nat.le_of_ble_eq_true rfl) (fun r2 ν0 ω0 q2 => ?_)
  obtain ⟨rfl, q2⟩ := q2
  change x_T _ _ _ _ _ _ _ _ _
  have hL0 : m_L μ ν0 ω0 T L 6 (s_te T L p) (s_blm φ (s_fl 6 G) 3 (s_sp T L p)) 0 0 := ⟨m_K.next (hK.1.cg (hj1 10 (by decide) (by decide)) (hf1 153 (by decide))) htl.2.2 q2, hF1.cg (q2.2.2.2.2.2.1 16 (by decide) (by decide) (by decide) (by decide)) (q2.2.2.2.2.2.1 17 (by decide) (by decide) (by decide) (by decide)) (by show s_sp T L p + 1 ≤ s_te T L p; omega), by rw [q2.2.2.2.2.2.1 21 (by decide) (by decide) (by decide) (by decide), hj1 21 (by decide) (by decide), hg]; rfl, fun j h => absurd h (Nat.not_lt_zero j), fun j h => absurd h (Nat.not_lt_zero j), fun j _ => by rw [q2.2.2.2.2.2.2 162 (by decide), hf1 162 (by decide)], by rw [q2.2.2.2.2.2.2 161 (by decide), hf1 161 (by decide)], by rw [q2.2.2.2.2.2.1 20 (by decide) (by decide) (by decide) (by decide), hj1 20 (by decide) (by decide)], fun a h1 _ => by rw [q2.2.2.2.2.2.2 a h1, hf1 a h1]⟩
  refine xt_aload_n _ dX12_townLine_13 rfl ?_
  refine xt_iconst (0) dX12_townLine_14 (by decide) ?_
  refine xt_iconst (0) dX12_townLine_15 (by decide) ?_
  refine xt_bipush (9) dX12_townLine_16 (by decide) ?_
  refine xt_callV _ dX12_townLine_18 klX12_139 (tX12_takeL sc _ μ hL0 (by decide) (by decide) (by decide)) sh152 rfl rfl (Nat.le_of_ble_eq_true rfl) (fun r5 ν1 ω1 q5 => ?_)
  obtain ⟨ya, yb⟩ := q5
  by_cases hk2 : s_kd T L (s_qs T L (s_te T L p) 0) = 2
  · obtain ⟨rfl, hL1⟩ := ya hk2
    change x_T _ _ _ _ _ (.int 1 :: _) _ _ _
    refine xt_if_eq 57 dX12_townLine_21 (by decide) (fun q => absurd q (by decide)) (fun _ => ?_)
    refine xt_aload_n _ dX12_townLine_24 rfl ?_
    refine xt_iconst (1) dX12_townLine_25 (by decide) ?_
    refine xt_iconst (0) dX12_townLine_26 (by decide) ?_
    refine xt_bipush (9) dX12_townLine_27 (by decide) ?_
    refine xt_callV _ dX12_townLine_29 klX12_139 (tX12_takeL sc _ μ hL1 (by decide) (by decide) (by decide)) sh152 rfl rfl (Nat.le_of_ble_eq_true rfl) (fun r5 ν2 ω2 q5 => ?_)
    obtain ⟨ya, yb⟩ := q5
    by_cases hk2 : s_kd T L (s_qs T L (s_te T L p) 1) = 2
    · obtain ⟨rfl, hL2⟩ := ya hk2
      change x_T _ _ _ _ _ (.int 1 :: _) _ _ _
      refine xt_if_eq 57 dX12_townLine_32 (by decide) (fun q => absurd q (by decide)) (fun _ => ?_)
      refine xt_aload_n _ dX12_townLine_35 rfl ?_
      refine xt_iconst (2) dX12_townLine_36 (by decide) ?_
      refine xt_iconst (0) dX12_townLine_37 (by decide) ?_
      refine xt_bipush (30) dX12_townLine_38 (by decide) ?_
      refine xt_callV _ dX12_townLine_40 klX12_139 (tX12_takeL sc _ μ hL2 (by decide) (by decide) (by decide)) sh152 rfl rfl (Nat.le_of_ble_eq_true rfl) (fun r5 ν3 ω3 q5 => ?_)
      obtain ⟨ya, yb⟩ := q5
      by_cases hk2 : s_kd T L (s_qs T L (s_te T L p) 2) = 2
      · obtain ⟨rfl, hL3⟩ := ya hk2
        change x_T _ _ _ _ _ (.int 1 :: _) _ _ _
        refine xt_if_eq 57 dX12_townLine_43 (by decide) (fun q => absurd q (by decide)) (fun _ => ?_)
        refine xt_aload_n _ dX12_townLine_46 rfl ?_
        refine xt_iconst (3) dX12_townLine_47 (by decide) ?_
        refine xt_iconst (0) dX12_townLine_48 (by decide) ?_
        refine xt_bipush (10) dX12_townLine_49 (by decide) ?_
        refine xt_callV _ dX12_townLine_51 klX12_139 (tX12_takeL sc _ μ hL3 (by decide) (by decide) (by decide)) sh152 rfl rfl (Nat.le_of_ble_eq_true rfl) (fun r5 ν4 ω4 q5 => ?_)
        obtain ⟨ya, yb⟩ := q5
        by_cases hk2 : s_kd T L (s_qs T L (s_te T L p) 3) = 2
        · obtain ⟨rfl, hL4⟩ := ya hk2
          change x_T _ _ _ _ _ (.int 1 :: _) _ _ _
          refine xt_if_ne 59 dX12_townLine_54 (by decide) (fun _ => ?_) (fun q => absurd q (by decide))
          refine xt_aload_n _ dX12_townLine_59 rfl ?_
          refine xt_bipush (6) dX12_townLine_60 (by decide) ?_
          refine xt_bipush (6) dX12_townLine_62 (by decide) ?_
          refine xt_bipush (101) dX12_townLine_64 (by decide) ?_
          refine xt_bipush (6) dX12_townLine_66 (by decide) ?_
          refine xt_iconst (4) dX12_townLine_68 (by decide) ?_
          have hx2 : ν4 161 6 = nI x := by rw [hL4.2.2.2.2.2.2.1]; exact hx
          refine xt_callV _ dX12_townLine_69 klX12_146 (tX12_keep sc _ ν4 ω4 6 6 101 6 4 x (by decide) hx2 hx1 (by decide) (by decide) (by decide) (by decide) (by decide) (by decide)) sh152 rfl rfl (Nat.le_of_ble_eq_true rfl) (fun r6 μ6 w6 q6 => ?_)
          obtain ⟨rfl, rfl, hm6⟩ := q6
          change x_T _ _ _ _ _ _ _ _ _
          refine xt_iconst (1) dX12_townLine_72 (by decide) ?_
          refine xt_iret .boolean dX12_townLine_73 rfl (by rfl) ?_
          obtain ⟨z1, z2, z3, z4, z5, z6, z7, z8, z9⟩ := hL4
          have hbn : s_bn T L (s_te T L p) 4 = 0 := m_L.bn ⟨z1, z2, z3, z4, z5, z6, z7, z8, z9⟩
          have e152 : μ6 152 = ν4 152 := by rw [hm6]; split <;> first | rfl | exact x_u_ne (by decide)
          have ene : ∀ a, a ≠ 161 → μ6 a = ν4 a := fun a h => by rw [hm6]; split <;> first | rfl | exact x_u_ne h
          refine ⟨fun _ => ⟨rfl, z1.cg (fun j _ _ => by rw [e152]) (ene 153 (by decide)), z2.cg (by rw [e152]) (by rw [e152]) (Nat.le_refl _), ?_, ?_⟩, fun h => absurd hbn h, fun a h1 h2 h3 => by rw [ene a h2]; exact z9 a h1 h3⟩
          · intro hz
            rw [if_pos hz, if_pos hz]
            obtain ⟨hz1, _⟩ := s_nf_0 hz
            obtain ⟨hz0, hfl⟩ := s_blm_0 (by decide) hz1
            have hxe := hxG hz0
            have hxm : ¬ x = 6 := fun e => by
              have h5 : decide (6 ≤ G 6) = false := hfl
              have := of_decide_eq_false h5
              omega
            rw [if_neg hxm] at hm6
            refine ⟨fun i hi => ?_, by rw [e152, z8]; exact (hC.1 hz0).2⟩
            rw [hm6, x_u_eq, z7]
            show _ = nI (s_up (s_rw G 101 6 (G 6) (s_nv T L (s_te T L p)) 4) 6 (G 6 + 1) i)
            by_cases he : i = 6
            · rw [he, pk_us, s_up_s, hxe]
            · rw [pk_un he, s_up_n he, hxe]
              exact s_wm_rw (hC.1 hz0).1 (fun j hj => by have := z5 j hj; rw [Nat.zero_add] at this; exact this) i hi
          · refine ⟨fun _ c2 h3 h6 => ?_, fun h => absurd h (by decide), fun h => absurd h (by decide)⟩
            obtain ⟨y, hy1, hy⟩ := hC.2.1 rfl c2 h3 h6
            by_cases hxm : x = 6
            · rw [if_pos hxm] at hm6; rw [hm6, z7]; exact ⟨y, hy1, hy⟩
            · rw [if_neg hxm] at hm6
              rw [hm6, x_u_eq, z7]
              by_cases he : c2 = 6
              · rw [he, pk_us]; exact ⟨x + 1, by show x + 1 ≤ 6; omega, rfl⟩
              · rw [pk_un he, s_wm_ne (by omega)]; exact ⟨y, hy1, hy⟩
        · obtain ⟨rfl, hBad⟩ := yb hk2
          change x_T _ _ _ _ _ (.int 0 :: _) _ _ _
          refine xt_if_ne 59 dX12_townLine_54 (by decide) (fun q => absurd (by decide) q) (fun _ => ?_)
          refine xt_iconst (0) dX12_townLine_57 (by decide) ?_
          exact xt_iret .boolean dX12_townLine_58 rfl (by first | rfl | assumption) ⟨fun h => absurd h (by rw [hBad.bn (g := 4) (by decide)]; exact Nat.succ_ne_zero _), fun _ => ⟨rfl, by rw [hBad.bn (g := 4) (by decide)]; exact hBad.1⟩, fun a h1 _ h3 => hBad.2.2.2 a h1 h3⟩
      · obtain ⟨rfl, hBad⟩ := yb hk2
        change x_T _ _ _ _ _ (.int 0 :: _) _ _ _
        refine xt_if_eq 57 dX12_townLine_43 (by decide) (fun _ => ?_) (fun q => absurd (by decide) q)
        refine xt_iconst (0) dX12_townLine_57 (by decide) ?_
        exact xt_iret .boolean dX12_townLine_58 rfl (by first | rfl | assumption) ⟨fun h => absurd h (by rw [hBad.bn (g := 4) (by decide)]; exact Nat.succ_ne_zero _), fun _ => ⟨rfl, by rw [hBad.bn (g := 4) (by decide)]; exact hBad.1⟩, fun a h1 _ h3 => hBad.2.2.2 a h1 h3⟩
    · obtain ⟨rfl, hBad⟩ := yb hk2
      change x_T _ _ _ _ _ (.int 0 :: _) _ _ _
      refine xt_if_eq 57 dX12_townLine_32 (by decide) (fun _ => ?_) (fun q => absurd (by decide) q)
      refine xt_iconst (0) dX12_townLine_57 (by decide) ?_
      exact xt_iret .boolean dX12_townLine_58 rfl (by first | rfl | assumption) ⟨fun h => absurd h (by rw [hBad.bn (g := 4) (by decide)]; exact Nat.succ_ne_zero _), fun _ => ⟨rfl, by rw [hBad.bn (g := 4) (by decide)]; exact hBad.1⟩, fun a h1 _ h3 => hBad.2.2.2 a h1 h3⟩
  · obtain ⟨rfl, hBad⟩ := yb hk2
    change x_T _ _ _ _ _ (.int 0 :: _) _ _ _
    refine xt_if_eq 57 dX12_townLine_21 (by decide) (fun _ => ?_) (fun q => absurd (by decide) q)
    refine xt_iconst (0) dX12_townLine_57 (by decide) ?_
    exact xt_iret .boolean dX12_townLine_58 rfl (by first | rfl | assumption) ⟨fun h => absurd h (by rw [hBad.bn (g := 4) (by decide)]; exact Nat.succ_ne_zero _), fun _ => ⟨rfl, by rw [hBad.bn (g := 4) (by decide)]; exact hBad.1⟩, fun a h1 _ h3 => hBad.2.2.2 a h1 h3⟩
set_option maxHeartbeats 4000000 in
theorem tX12_line0 (T : Nat → Nat) (L p : Nat) (φ : Nat × Nat) (G : Nat → Nat) (mx : Nat) (hK : m_K μ w T L p) (hk1 : s_kd T L p = 1) (hF : m_F μ φ p) (hg : μ 152 21 = 1) (hC : m_C μ 0 φ G mx) (hW : g_W 0 G) : x_K sc (d + 3) mX12_standLine [.ref 152] μ w (fun r μ' w' => (s_bn T L (s_te T L p) 2 = 0 → r = some (.int 1) ∧ m_K μ' w' T L (s_qs T L (s_te T L p) 2) ∧ m_F μ' (s_nf T L 0 (s_te T L p) (s_blm φ (s_fl 0 G) 3 (s_sp T L p)) 2) (s_qs T L (s_te T L p) 2) ∧ m_C μ' 0 (s_nf T L 0 (s_te T L p) (s_blm φ (s_fl 0 G) 3 (s_sp T L p)) 2) (if (s_nf T L 0 (s_te T L p) (s_blm φ (s_fl 0 G) 3 (s_sp T L p)) 2).1 = 0 then s_kp 0 (s_nv T L (s_te T L p)) G else G) (if (s_nf T L 0 (s_te T L p) (s_blm φ (s_fl 0 G) 3 (s_sp T L p)) 2).1 = 0 then s_mxl 0 (s_nv T L (s_te T L p)) mx else mx)) ∧ (s_bn T L (s_te T L p) 2 ≠ 0 → r = some (.int 0) ∧ μ' 152 15 = nI (s_sp T L (s_qs T L (s_te T L p) (s_bn T L (s_te T L p) 2 - 1)))) ∧ ∀ a, a ≠ 152 → a ≠ 161 → a ≠ 162 → μ' a = μ a) := by
  have hL := hK.1.2.1
  have htl := s_te_le hK.1.2.2.2 hK.2.1
  have hsl := s_sp_le hK.1.2.2.2 hK.2.1
  have hlt : s_sp T L p < s_te T L p := s_sp_lt (by omega) (by omega)
  refine x_K.of (by decide) (Nat.le_of_ble_eq_true rfl) ?_
  show x_T sc (d + 3) mX12_standLine 0 [.ref 152] [] μ w _
  refine xt_aload_n _ dX12_standLine_0 rfl ?_
  refine xt_callV _ dX12_standLine_1 klX12_136 (tX12_token sc _ μ w T L hK.1 (s_te T L p) htl.2.2 (hK.2.2.2.2.1 (by omega))) sh152 rfl rfl (Nat.le_of_ble_eq_true rfl) (fun r2 ν0 ω0 q2 => ?_)
  obtain ⟨rfl, q2⟩ := q2
  change x_T _ _ _ _ _ _ _ _ _
  have hφ1 : (s_blm φ (s_fl 0 G) 3 (s_sp T L p)) = φ := s_blm_f
  have hL0 : m_L μ ν0 ω0 T L 0 (s_te T L p) (s_blm φ (s_fl 0 G) 3 (s_sp T L p)) 0 0 := ⟨m_K.next hK.1 htl.2.2 q2, by rw [hφ1]; exact hF.cg (q2.2.2.2.2.2.1 16 (by decide) (by decide) (by decide) (by decide)) (q2.2.2.2.2.2.1 17 (by decide) (by decide) (by decide) (by decide)) htl.2.1, by rw [q2.2.2.2.2.2.1 21 (by decide) (by decide) (by decide) (by decide), hg]; rfl, fun j h => absurd h (Nat.not_lt_zero j), fun j h => absurd h (Nat.not_lt_zero j), fun j _ => by rw [q2.2.2.2.2.2.2 162 (by decide)], q2.2.2.2.2.2.2 161 (by decide), q2.2.2.2.2.2.1 20 (by decide) (by decide) (by decide) (by decide), fun a h1 _ => q2.2.2.2.2.2.2 a h1⟩
  refine xt_aload_n _ dX12_standLine_4 rfl ?_
  refine xt_iconst (0) dX12_standLine_5 (by decide) ?_
  refine xt_iconst (0) dX12_standLine_6 (by decide) ?_
  refine xt_bipush (9) dX12_standLine_7 (by decide) ?_
  refine xt_callV _ dX12_standLine_9 klX12_139 (tX12_takeL sc _ μ hL0 (by decide) (by decide) (by decide)) sh152 rfl rfl (Nat.le_of_ble_eq_true rfl) (fun r5 ν1 ω1 q5 => ?_)
  obtain ⟨ya, yb⟩ := q5
  by_cases hk2 : s_kd T L (s_qs T L (s_te T L p) 0) = 2
  · obtain ⟨rfl, hL1⟩ := ya hk2
    change x_T _ _ _ _ _ (.int 1 :: _) _ _ _
    refine xt_if_eq 26 dX12_standLine_12 (by decide) (fun q => absurd q (by decide)) (fun _ => ?_)
    refine xt_aload_n _ dX12_standLine_15 rfl ?_
    refine xt_iconst (1) dX12_standLine_16 (by decide) ?_
    refine xt_iconst (0) dX12_standLine_17 (by decide) ?_
    refine xt_bipush (9) dX12_standLine_18 (by decide) ?_
    refine xt_callV _ dX12_standLine_20 klX12_139 (tX12_takeL sc _ μ hL1 (by decide) (by decide) (by decide)) sh152 rfl rfl (Nat.le_of_ble_eq_true rfl) (fun r5 ν2 ω2 q5 => ?_)
    obtain ⟨ya, yb⟩ := q5
    by_cases hk2 : s_kd T L (s_qs T L (s_te T L p) 1) = 2
    · obtain ⟨rfl, hL2⟩ := ya hk2
      change x_T _ _ _ _ _ (.int 1 :: _) _ _ _
      refine xt_if_ne 28 dX12_standLine_23 (by decide) (fun _ => ?_) (fun q => absurd q (by decide))
      refine xt_aload_n _ dX12_standLine_28 rfl ?_
      refine xt_getr _ dX12_standLine_29 kfX12_35 (by first | exact sh152 | exact sh161 | exact sh162 | rfl | assumption) rfl ?_
      refine xt_iconst (0) dX12_standLine_32 (by decide) ?_
      refine xt_aload_n _ dX12_standLine_33 rfl ?_
      refine xt_geti dX12_standLine_34 kfX12_132 (by first | exact sh152 | exact sh161 | exact sh162 | rfl | assumption) rfl ?_
      refine xt_if_eq 49 dX12_standLine_37 (by decide) (fun t37 => ?_) (fun f37 => ?_)
      · refine xt_aload_n _ dX12_standLine_49 rfl ?_
        refine xt_getr _ dX12_standLine_50 kfX12_35 (by first | exact sh152 | exact sh161 | exact sh162 | rfl | assumption) rfl ?_
        refine xt_iconst (0) dX12_standLine_53 (by decide) ?_
        refine xt_ald dX12_standLine_54 (by first | exact sh152 | exact sh161 | exact sh162 | rfl | assumption) (by unfold vp_in; decide) ?_
        refine xt_ast dX12_standLine_55 (by first | exact sh152 | exact sh161 | exact sh162 | rfl | assumption) (by unfold vp_in; decide) ?_
        refine xt_aload_n _ dX12_standLine_56 rfl ?_
        refine xt_getr _ dX12_standLine_57 kfX12_35 (by first | exact sh152 | exact sh161 | exact sh162 | rfl | assumption) rfl ?_
        refine xt_iconst (1) dX12_standLine_60 (by decide) ?_
        refine xt_aload_n _ dX12_standLine_61 rfl ?_
        refine xt_geti dX12_standLine_62 kfX12_132 (by first | exact sh152 | exact sh161 | exact sh162 | rfl | assumption) rfl ?_
        refine xt_if_eq 77 dX12_standLine_65 (by decide) (fun t65 => ?_) (fun f65 => ?_)
        · refine xt_aload_n _ dX12_standLine_77 rfl ?_
          refine xt_getr _ dX12_standLine_78 kfX12_35 (by first | exact sh152 | exact sh161 | exact sh162 | rfl | assumption) rfl ?_
          refine xt_iconst (1) dX12_standLine_81 (by decide) ?_
          refine xt_ald dX12_standLine_82 (by first | exact sh152 | exact sh161 | exact sh162 | rfl | assumption) (by unfold vp_in; decide) ?_
          refine xt_ast dX12_standLine_83 (by first | exact sh152 | exact sh161 | exact sh162 | rfl | assumption) (by unfold vp_in; decide) ?_
          refine xt_iconst (1) dX12_standLine_84 (by decide) ?_
          have tbad : ν2 152 21 = 0 := t37
          refine xt_iret .boolean dX12_standLine_85 rfl (by rfl) ?_
          obtain ⟨z1, z2, z3, z4, z5, z6, z7, z8, z9⟩ := hL2
          have hbn : s_bn T L (s_te T L p) 2 = 0 := m_L.bn ⟨z1, z2, z3, z4, z5, z6, z7, z8, z9⟩
          refine ⟨fun _ => ⟨rfl, z1.cg (fun j _ _ => by rw [x_u_ne (by decide), x_u_ne (by decide)]) (by rw [x_u_ne (by decide), x_u_ne (by decide)]), z2.cg (by rw [x_u_ne (by decide), x_u_ne (by decide)]) (by rw [x_u_ne (by decide), x_u_ne (by decide)]) (Nat.le_refl _), ?_, ?_⟩, fun h => absurd hbn h, fun a h1 h2 h3 => by rw [x_u_ne h2, x_u_ne h2]; exact z9 a h1 h3⟩
          · intro hz
            have hgd := s_nf_gd hz 2 (Nat.le_refl _)
            rw [hgd, if_pos rfl] at z3
            exact absurd (z3.symm.trans tbad) (by decide)
          · refine ⟨fun _ c2 h3 h6 => ?_, fun h => absurd h (by decide), fun h => absurd h (by decide)⟩
            obtain ⟨y, hy1, hy⟩ := hC.2.1 rfl c2 h3 h6
            rw [x_u_eq, pk_un (show c2 ≠ (1 : Int32).toNatClampNeg from (by show c2 ≠ 1; omega)), x_u_eq, pk_un (show c2 ≠ (0 : Int32).toNatClampNeg from (by show c2 ≠ 0; omega)), z7]; exact ⟨y, hy1, hy⟩
        · refine xt_aload_n _ dX12_standLine_68 rfl ?_
          refine xt_getr _ dX12_standLine_69 kfX12_38 (by first | exact sh152 | exact sh161 | exact sh162 | rfl | assumption) rfl ?_
          refine xt_iconst (1) dX12_standLine_72 (by decide) ?_
          refine xt_ald dX12_standLine_73 (by first | exact sh152 | exact sh161 | exact sh162 | rfl | assumption) (by unfold vp_in; decide) ?_
          refine xt_goto 83 dX12_standLine_74 (by decide) ?_
          refine xt_ast dX12_standLine_83 (by first | exact sh152 | exact sh161 | exact sh162 | rfl | assumption) (by unfold vp_in; decide) ?_
          refine xt_iconst (1) dX12_standLine_84 (by decide) ?_
          have tbad : ν2 152 21 = 0 := t37
          refine xt_iret .boolean dX12_standLine_85 rfl (by rfl) ?_
          obtain ⟨z1, z2, z3, z4, z5, z6, z7, z8, z9⟩ := hL2
          have hbn : s_bn T L (s_te T L p) 2 = 0 := m_L.bn ⟨z1, z2, z3, z4, z5, z6, z7, z8, z9⟩
          refine ⟨fun _ => ⟨rfl, z1.cg (fun j _ _ => by rw [x_u_ne (by decide), x_u_ne (by decide)]) (by rw [x_u_ne (by decide), x_u_ne (by decide)]), z2.cg (by rw [x_u_ne (by decide), x_u_ne (by decide)]) (by rw [x_u_ne (by decide), x_u_ne (by decide)]) (Nat.le_refl _), ?_, ?_⟩, fun h => absurd hbn h, fun a h1 h2 h3 => by rw [x_u_ne h2, x_u_ne h2]; exact z9 a h1 h3⟩
          · intro hz
            have hgd := s_nf_gd hz 2 (Nat.le_refl _)
            rw [hgd, if_pos rfl] at z3
            exact absurd (z3.symm.trans tbad) (by decide)
          · refine ⟨fun _ c2 h3 h6 => ?_, fun h => absurd h (by decide), fun h => absurd h (by decide)⟩
            obtain ⟨y, hy1, hy⟩ := hC.2.1 rfl c2 h3 h6
            rw [x_u_eq, pk_un (show c2 ≠ (1 : Int32).toNatClampNeg from (by show c2 ≠ 1; omega)), x_u_eq, pk_un (show c2 ≠ (0 : Int32).toNatClampNeg from (by show c2 ≠ 0; omega)), z7]; exact ⟨y, hy1, hy⟩
      · refine xt_aload_n _ dX12_standLine_40 rfl ?_
        refine xt_getr _ dX12_standLine_41 kfX12_38 (by first | exact sh152 | exact sh161 | exact sh162 | rfl | assumption) rfl ?_
        refine xt_iconst (0) dX12_standLine_44 (by decide) ?_
        refine xt_ald dX12_standLine_45 (by first | exact sh152 | exact sh161 | exact sh162 | rfl | assumption) (by unfold vp_in; decide) ?_
        refine xt_goto 55 dX12_standLine_46 (by decide) ?_
        refine xt_ast dX12_standLine_55 (by first | exact sh152 | exact sh161 | exact sh162 | rfl | assumption) (by unfold vp_in; decide) ?_
        refine xt_aload_n _ dX12_standLine_56 rfl ?_
        refine xt_getr _ dX12_standLine_57 kfX12_35 (by first | exact sh152 | exact sh161 | exact sh162 | rfl | assumption) rfl ?_
        refine xt_iconst (1) dX12_standLine_60 (by decide) ?_
        refine xt_aload_n _ dX12_standLine_61 rfl ?_
        refine xt_geti dX12_standLine_62 kfX12_132 (by first | exact sh152 | exact sh161 | exact sh162 | rfl | assumption) rfl ?_
        refine xt_if_eq 77 dX12_standLine_65 (by decide) (fun t65 => ?_) (fun f65 => ?_)
        · refine xt_aload_n _ dX12_standLine_77 rfl ?_
          refine xt_getr _ dX12_standLine_78 kfX12_35 (by first | exact sh152 | exact sh161 | exact sh162 | rfl | assumption) rfl ?_
          refine xt_iconst (1) dX12_standLine_81 (by decide) ?_
          refine xt_ald dX12_standLine_82 (by first | exact sh152 | exact sh161 | exact sh162 | rfl | assumption) (by unfold vp_in; decide) ?_
          refine xt_ast dX12_standLine_83 (by first | exact sh152 | exact sh161 | exact sh162 | rfl | assumption) (by unfold vp_in; decide) ?_
          refine xt_iconst (1) dX12_standLine_84 (by decide) ?_
          have tbad : ν2 152 21 = 0 := t65
          refine xt_iret .boolean dX12_standLine_85 rfl (by rfl) ?_
          obtain ⟨z1, z2, z3, z4, z5, z6, z7, z8, z9⟩ := hL2
          have hbn : s_bn T L (s_te T L p) 2 = 0 := m_L.bn ⟨z1, z2, z3, z4, z5, z6, z7, z8, z9⟩
          refine ⟨fun _ => ⟨rfl, z1.cg (fun j _ _ => by rw [x_u_ne (by decide), x_u_ne (by decide)]) (by rw [x_u_ne (by decide), x_u_ne (by decide)]), z2.cg (by rw [x_u_ne (by decide), x_u_ne (by decide)]) (by rw [x_u_ne (by decide), x_u_ne (by decide)]) (Nat.le_refl _), ?_, ?_⟩, fun h => absurd hbn h, fun a h1 h2 h3 => by rw [x_u_ne h2, x_u_ne h2]; exact z9 a h1 h3⟩
          · intro hz
            have hgd := s_nf_gd hz 2 (Nat.le_refl _)
            rw [hgd, if_pos rfl] at z3
            exact absurd (z3.symm.trans tbad) (by decide)
          · refine ⟨fun _ c2 h3 h6 => ?_, fun h => absurd h (by decide), fun h => absurd h (by decide)⟩
            obtain ⟨y, hy1, hy⟩ := hC.2.1 rfl c2 h3 h6
            rw [x_u_eq, pk_un (show c2 ≠ (1 : Int32).toNatClampNeg from (by show c2 ≠ 1; omega)), x_u_eq, pk_un (show c2 ≠ (0 : Int32).toNatClampNeg from (by show c2 ≠ 0; omega)), z7]; exact ⟨y, hy1, hy⟩
        · refine xt_aload_n _ dX12_standLine_68 rfl ?_
          refine xt_getr _ dX12_standLine_69 kfX12_38 (by first | exact sh152 | exact sh161 | exact sh162 | rfl | assumption) rfl ?_
          refine xt_iconst (1) dX12_standLine_72 (by decide) ?_
          refine xt_ald dX12_standLine_73 (by first | exact sh152 | exact sh161 | exact sh162 | rfl | assumption) (by unfold vp_in; decide) ?_
          refine xt_goto 83 dX12_standLine_74 (by decide) ?_
          refine xt_ast dX12_standLine_83 (by first | exact sh152 | exact sh161 | exact sh162 | rfl | assumption) (by unfold vp_in; decide) ?_
          refine xt_iconst (1) dX12_standLine_84 (by decide) ?_
          refine xt_iret .boolean dX12_standLine_85 rfl (by rfl) ?_
          obtain ⟨z1, z2, z3, z4, z5, z6, z7, z8, z9⟩ := hL2
          have hbn : s_bn T L (s_te T L p) 2 = 0 := m_L.bn ⟨z1, z2, z3, z4, z5, z6, z7, z8, z9⟩
          refine ⟨fun _ => ⟨rfl, z1.cg (fun j _ _ => by rw [x_u_ne (by decide), x_u_ne (by decide)]) (by rw [x_u_ne (by decide), x_u_ne (by decide)]), z2.cg (by rw [x_u_ne (by decide), x_u_ne (by decide)]) (by rw [x_u_ne (by decide), x_u_ne (by decide)]) (Nat.le_refl _), ?_, ?_⟩, fun h => absurd hbn h, fun a h1 h2 h3 => by rw [x_u_ne h2, x_u_ne h2]; exact z9 a h1 h3⟩
          · intro hz
            rw [if_pos hz, if_pos hz]
            obtain ⟨hz1, _⟩ := s_nf_0 hz
            obtain ⟨hz0, hfl⟩ := s_blm_0 (by decide) hz1
            refine ⟨fun i hi => ?_, by rw [x_u_ne (by decide), x_u_ne (by decide), z8]; exact (hC.1 hz0).2⟩
            rw [cl0, cl1]
            show _ = nI (s_kp 0 (s_nv T L (s_te T L p)) G i)
            have en : ∀ x, 2 ≤ x ∨ x < 0 → s_kp 0 (s_nv T L (s_te T L p)) G x = G x := fun x hx => s_rw_ne (b := 0) (st := 1) (k := 0) (n := 2) (fun i hi => by omega)
            have e0 : s_kp 0 (s_nv T L (s_te T L p)) G 0 = s_nv T L (s_te T L p) 0 := s_rw_at (G := G) (b := 0) (st := 1) (k := 0) (v := s_nv T L (s_te T L p)) (j := 0) (n := 2) (by decide) (by decide)
            have e1 : s_kp 0 (s_nv T L (s_te T L p)) G 1 = s_nv T L (s_te T L p) 1 := s_rw_at (G := G) (b := 0) (st := 1) (k := 0) (v := s_nv T L (s_te T L p)) (j := 1) (n := 2) (by decide) (by decide)
            by_cases h1 : i = 1
            · rw [h1, x_u_eq, pk_us, e1]; rw [x_u_ne (by decide)]; have := z5 1 (by decide); rw [Nat.zero_add] at this; exact this
            · skip
              by_cases h0 : i = 0
              · rw [h0, x_u_eq, pk_un (by decide), x_u_eq, pk_us, e0]; have := z5 0 (by decide); rw [Nat.zero_add] at this; exact this
              · skip
                rw [x_u_eq, pk_un h1, x_u_eq, pk_un h0, z7, en i (by omega)]; exact (hC.1 hz0).1 i hi
          · refine ⟨fun _ c2 h3 h6 => ?_, fun h => absurd h (by decide), fun h => absurd h (by decide)⟩
            obtain ⟨y, hy1, hy⟩ := hC.2.1 rfl c2 h3 h6
            rw [x_u_eq, pk_un (show c2 ≠ (1 : Int32).toNatClampNeg from (by show c2 ≠ 1; omega)), x_u_eq, pk_un (show c2 ≠ (0 : Int32).toNatClampNeg from (by show c2 ≠ 0; omega)), z7]; exact ⟨y, hy1, hy⟩
    · obtain ⟨rfl, hBad⟩ := yb hk2
      change x_T _ _ _ _ _ (.int 0 :: _) _ _ _
      refine xt_if_ne 28 dX12_standLine_23 (by decide) (fun q => absurd (by decide) q) (fun _ => ?_)
      refine xt_iconst (0) dX12_standLine_26 (by decide) ?_
      exact xt_iret .boolean dX12_standLine_27 rfl (by first | rfl | assumption) ⟨fun h => absurd h (by rw [hBad.bn (g := 2) (by decide)]; exact Nat.succ_ne_zero _), fun _ => ⟨rfl, by rw [hBad.bn (g := 2) (by decide)]; exact hBad.1⟩, fun a h1 _ h3 => hBad.2.2.2 a h1 h3⟩
  · obtain ⟨rfl, hBad⟩ := yb hk2
    change x_T _ _ _ _ _ (.int 0 :: _) _ _ _
    refine xt_if_eq 26 dX12_standLine_12 (by decide) (fun _ => ?_) (fun q => absurd (by decide) q)
    refine xt_iconst (0) dX12_standLine_26 (by decide) ?_
    exact xt_iret .boolean dX12_standLine_27 rfl (by first | rfl | assumption) ⟨fun h => absurd h (by rw [hBad.bn (g := 2) (by decide)]; exact Nat.succ_ne_zero _), fun _ => ⟨rfl, by rw [hBad.bn (g := 2) (by decide)]; exact hBad.1⟩, fun a h1 _ h3 => hBad.2.2.2 a h1 h3⟩
set_option maxHeartbeats 4000000 in
theorem tX12_line2 (T : Nat → Nat) (L p : Nat) (φ : Nat × Nat) (G : Nat → Nat) (mx : Nat) (hK : m_K μ w T L p) (hk1 : s_kd T L p = 1) (hF : m_F μ φ p) (hg : μ 152 21 = 1) (hC : m_C μ 0 φ G mx) (hW : g_W 0 G) : x_K sc (d + 3) mX12_slantLine [.ref 152] μ w (fun r μ' w' => (s_bn T L (s_te T L p) 1 = 0 → r = some (.int 1) ∧ m_K μ' w' T L (s_qs T L (s_te T L p) 1) ∧ m_F μ' (s_nf T L 2 (s_te T L p) (s_blm φ (s_fl 2 G) 3 (s_sp T L p)) 1) (s_qs T L (s_te T L p) 1) ∧ m_C μ' 0 (s_nf T L 2 (s_te T L p) (s_blm φ (s_fl 2 G) 3 (s_sp T L p)) 1) (if (s_nf T L 2 (s_te T L p) (s_blm φ (s_fl 2 G) 3 (s_sp T L p)) 1).1 = 0 then s_kp 2 (s_nv T L (s_te T L p)) G else G) (if (s_nf T L 2 (s_te T L p) (s_blm φ (s_fl 2 G) 3 (s_sp T L p)) 1).1 = 0 then s_mxl 2 (s_nv T L (s_te T L p)) mx else mx)) ∧ (s_bn T L (s_te T L p) 1 ≠ 0 → r = some (.int 0) ∧ μ' 152 15 = nI (s_sp T L (s_qs T L (s_te T L p) (s_bn T L (s_te T L p) 1 - 1)))) ∧ ∀ a, a ≠ 152 → a ≠ 161 → a ≠ 162 → μ' a = μ a) := by
  have hL := hK.1.2.1
  have htl := s_te_le hK.1.2.2.2 hK.2.1
  have hsl := s_sp_le hK.1.2.2.2 hK.2.1
  have hlt : s_sp T L p < s_te T L p := s_sp_lt (by omega) (by omega)
  refine x_K.of (by decide) (Nat.le_of_ble_eq_true rfl) ?_
  show x_T sc (d + 3) mX12_slantLine 0 [.ref 152] [] μ w _
  refine xt_aload_n _ dX12_slantLine_0 rfl ?_
  refine xt_callV _ dX12_slantLine_1 klX12_136 (tX12_token sc _ μ w T L hK.1 (s_te T L p) htl.2.2 (hK.2.2.2.2.1 (by omega))) sh152 rfl rfl (Nat.le_of_ble_eq_true rfl) (fun r2 ν0 ω0 q2 => ?_)
  obtain ⟨rfl, q2⟩ := q2
  change x_T _ _ _ _ _ _ _ _ _
  have hφ1 : (s_blm φ (s_fl 2 G) 3 (s_sp T L p)) = φ := s_blm_f
  have hL0 : m_L μ ν0 ω0 T L 2 (s_te T L p) (s_blm φ (s_fl 2 G) 3 (s_sp T L p)) 0 0 := ⟨m_K.next hK.1 htl.2.2 q2, by rw [hφ1]; exact hF.cg (q2.2.2.2.2.2.1 16 (by decide) (by decide) (by decide) (by decide)) (q2.2.2.2.2.2.1 17 (by decide) (by decide) (by decide) (by decide)) htl.2.1, by rw [q2.2.2.2.2.2.1 21 (by decide) (by decide) (by decide) (by decide), hg]; rfl, fun j h => absurd h (Nat.not_lt_zero j), fun j h => absurd h (Nat.not_lt_zero j), fun j _ => by rw [q2.2.2.2.2.2.2 162 (by decide)], q2.2.2.2.2.2.2 161 (by decide), q2.2.2.2.2.2.1 20 (by decide) (by decide) (by decide) (by decide), fun a h1 _ => q2.2.2.2.2.2.2 a h1⟩
  refine xt_aload_n _ dX12_slantLine_4 rfl ?_
  refine xt_iconst (0) dX12_slantLine_5 (by decide) ?_
  refine xt_iconst (0) dX12_slantLine_6 (by decide) ?_
  refine xt_bipush (9) dX12_slantLine_7 (by decide) ?_
  refine xt_callV _ dX12_slantLine_9 klX12_139 (tX12_takeL sc _ μ hL0 (by decide) (by decide) (by decide)) sh152 rfl rfl (Nat.le_of_ble_eq_true rfl) (fun r5 ν1 ω1 q5 => ?_)
  obtain ⟨ya, yb⟩ := q5
  by_cases hk2 : s_kd T L (s_qs T L (s_te T L p) 0) = 2
  · obtain ⟨rfl, hL1⟩ := ya hk2
    change x_T _ _ _ _ _ (.int 1 :: _) _ _ _
    refine xt_if_ne 17 dX12_slantLine_12 (by decide) (fun _ => ?_) (fun q => absurd q (by decide))
    refine xt_aload_n _ dX12_slantLine_17 rfl ?_
    refine xt_getr _ dX12_slantLine_18 kfX12_35 (by first | exact sh152 | exact sh161 | exact sh162 | rfl | assumption) rfl ?_
    refine xt_iconst (2) dX12_slantLine_21 (by decide) ?_
    refine xt_aload_n _ dX12_slantLine_22 rfl ?_
    refine xt_geti dX12_slantLine_23 kfX12_132 (by first | exact sh152 | exact sh161 | exact sh162 | rfl | assumption) rfl ?_
    refine xt_if_eq 38 dX12_slantLine_26 (by decide) (fun t26 => ?_) (fun f26 => ?_)
    · refine xt_aload_n _ dX12_slantLine_38 rfl ?_
      refine xt_getr _ dX12_slantLine_39 kfX12_35 (by first | exact sh152 | exact sh161 | exact sh162 | rfl | assumption) rfl ?_
      refine xt_iconst (2) dX12_slantLine_42 (by decide) ?_
      refine xt_ald dX12_slantLine_43 (by first | exact sh152 | exact sh161 | exact sh162 | rfl | assumption) (by unfold vp_in; decide) ?_
      refine xt_ast dX12_slantLine_44 (by first | exact sh152 | exact sh161 | exact sh162 | rfl | assumption) (by unfold vp_in; decide) ?_
      refine xt_iconst (1) dX12_slantLine_45 (by decide) ?_
      have tbad : ν1 152 21 = 0 := t26
      refine xt_iret .boolean dX12_slantLine_46 rfl (by rfl) ?_
      obtain ⟨z1, z2, z3, z4, z5, z6, z7, z8, z9⟩ := hL1
      have hbn : s_bn T L (s_te T L p) 1 = 0 := m_L.bn ⟨z1, z2, z3, z4, z5, z6, z7, z8, z9⟩
      refine ⟨fun _ => ⟨rfl, z1.cg (fun j _ _ => by rw [x_u_ne (by decide)]) (by rw [x_u_ne (by decide)]), z2.cg (by rw [x_u_ne (by decide)]) (by rw [x_u_ne (by decide)]) (Nat.le_refl _), ?_, ?_⟩, fun h => absurd hbn h, fun a h1 h2 h3 => by rw [x_u_ne h2]; exact z9 a h1 h3⟩
      · intro hz
        have hgd := s_nf_gd hz 1 (Nat.le_refl _)
        rw [hgd, if_pos rfl] at z3
        exact absurd (z3.symm.trans tbad) (by decide)
      · refine ⟨fun _ c2 h3 h6 => ?_, fun h => absurd h (by decide), fun h => absurd h (by decide)⟩
        obtain ⟨y, hy1, hy⟩ := hC.2.1 rfl c2 h3 h6
        rw [x_u_eq, pk_un (show c2 ≠ (2 : Int32).toNatClampNeg from (by show c2 ≠ 2; omega)), z7]; exact ⟨y, hy1, hy⟩
    · refine xt_aload_n _ dX12_slantLine_29 rfl ?_
      refine xt_getr _ dX12_slantLine_30 kfX12_38 (by first | exact sh152 | exact sh161 | exact sh162 | rfl | assumption) rfl ?_
      refine xt_iconst (0) dX12_slantLine_33 (by decide) ?_
      refine xt_ald dX12_slantLine_34 (by first | exact sh152 | exact sh161 | exact sh162 | rfl | assumption) (by unfold vp_in; decide) ?_
      refine xt_goto 44 dX12_slantLine_35 (by decide) ?_
      refine xt_ast dX12_slantLine_44 (by first | exact sh152 | exact sh161 | exact sh162 | rfl | assumption) (by unfold vp_in; decide) ?_
      refine xt_iconst (1) dX12_slantLine_45 (by decide) ?_
      refine xt_iret .boolean dX12_slantLine_46 rfl (by rfl) ?_
      obtain ⟨z1, z2, z3, z4, z5, z6, z7, z8, z9⟩ := hL1
      have hbn : s_bn T L (s_te T L p) 1 = 0 := m_L.bn ⟨z1, z2, z3, z4, z5, z6, z7, z8, z9⟩
      refine ⟨fun _ => ⟨rfl, z1.cg (fun j _ _ => by rw [x_u_ne (by decide)]) (by rw [x_u_ne (by decide)]), z2.cg (by rw [x_u_ne (by decide)]) (by rw [x_u_ne (by decide)]) (Nat.le_refl _), ?_, ?_⟩, fun h => absurd hbn h, fun a h1 h2 h3 => by rw [x_u_ne h2]; exact z9 a h1 h3⟩
      · intro hz
        rw [if_pos hz, if_pos hz]
        obtain ⟨hz1, _⟩ := s_nf_0 hz
        obtain ⟨hz0, hfl⟩ := s_blm_0 (by decide) hz1
        refine ⟨fun i hi => ?_, by rw [x_u_ne (by decide), z8]; exact (hC.1 hz0).2⟩
        rw [cl2, cl0]
        show _ = nI (s_kp 2 (s_nv T L (s_te T L p)) G i)
        have en : ∀ x, 3 ≤ x ∨ x < 2 → s_kp 2 (s_nv T L (s_te T L p)) G x = G x := fun x hx => s_rw_ne (b := 2) (st := 1) (k := 0) (n := 1) (fun i hi => by omega)
        have e0 : s_kp 2 (s_nv T L (s_te T L p)) G 2 = s_nv T L (s_te T L p) 0 := s_rw_at (G := G) (b := 2) (st := 1) (k := 0) (v := s_nv T L (s_te T L p)) (j := 0) (n := 1) (by decide) (by decide)
        by_cases h0 : i = 2
        · rw [h0, x_u_eq, pk_us, e0]; have := z5 0 (by decide); rw [Nat.zero_add] at this; exact this
        · skip
          rw [x_u_eq, pk_un h0, z7, en i (by omega)]; exact (hC.1 hz0).1 i hi
      · refine ⟨fun _ c2 h3 h6 => ?_, fun h => absurd h (by decide), fun h => absurd h (by decide)⟩
        obtain ⟨y, hy1, hy⟩ := hC.2.1 rfl c2 h3 h6
        rw [x_u_eq, pk_un (show c2 ≠ (2 : Int32).toNatClampNeg from (by show c2 ≠ 2; omega)), z7]; exact ⟨y, hy1, hy⟩
  · obtain ⟨rfl, hBad⟩ := yb hk2
    change x_T _ _ _ _ _ (.int 0 :: _) _ _ _
    refine xt_if_ne 17 dX12_slantLine_12 (by decide) (fun q => absurd (by decide) q) (fun _ => ?_)
    refine xt_iconst (0) dX12_slantLine_15 (by decide) ?_
    exact xt_iret .boolean dX12_slantLine_16 rfl (by first | rfl | assumption) ⟨fun h => absurd h (by rw [hBad.bn (g := 1) (by decide)]; exact Nat.succ_ne_zero _), fun _ => ⟨rfl, by rw [hBad.bn (g := 1) (by decide)]; exact hBad.1⟩, fun a h1 _ h3 => hBad.2.2.2 a h1 h3⟩
set_option maxHeartbeats 4000000 in
theorem tX12_line4 (T : Nat → Nat) (L p : Nat) (φ : Nat × Nat) (G : Nat → Nat) (mx : Nat) (hK : m_K μ w T L p) (hk1 : s_kd T L p = 1) (hF : m_F μ φ p) (hg : μ 152 21 = 1) (hC : m_C μ 0 φ G mx) (hW : g_W 0 G) (hmx : mx ≤ 100) : x_K sc (d + 3) mX12_wrongLine [.ref 152] μ w (fun r μ' w' => (s_bn T L (s_te T L p) 3 = 0 → r = some (.int 1) ∧ m_K μ' w' T L (s_qs T L (s_te T L p) 3) ∧ m_F μ' (s_nf T L 4 (s_te T L p) (s_blm φ (s_fl 4 G) 3 (s_sp T L p)) 3) (s_qs T L (s_te T L p) 3) ∧ m_C μ' 0 (s_nf T L 4 (s_te T L p) (s_blm φ (s_fl 4 G) 3 (s_sp T L p)) 3) (if (s_nf T L 4 (s_te T L p) (s_blm φ (s_fl 4 G) 3 (s_sp T L p)) 3).1 = 0 then s_kp 4 (s_nv T L (s_te T L p)) G else G) (if (s_nf T L 4 (s_te T L p) (s_blm φ (s_fl 4 G) 3 (s_sp T L p)) 3).1 = 0 then s_mxl 4 (s_nv T L (s_te T L p)) mx else mx)) ∧ (s_bn T L (s_te T L p) 3 ≠ 0 → r = some (.int 0) ∧ μ' 152 15 = nI (s_sp T L (s_qs T L (s_te T L p) (s_bn T L (s_te T L p) 3 - 1)))) ∧ ∀ a, a ≠ 152 → a ≠ 161 → a ≠ 162 → μ' a = μ a) := by
  have hL := hK.1.2.1
  have htl := s_te_le hK.1.2.2.2 hK.2.1
  have hsl := s_sp_le hK.1.2.2.2 hK.2.1
  have hlt : s_sp T L p < s_te T L p := s_sp_lt (by omega) (by omega)
  refine x_K.of (by decide) (Nat.le_of_ble_eq_true rfl) ?_
  show x_T sc (d + 3) mX12_wrongLine 0 [.ref 152] [] μ w _
  refine xt_aload_n _ dX12_wrongLine_0 rfl ?_
  refine xt_callV _ dX12_wrongLine_1 klX12_136 (tX12_token sc _ μ w T L hK.1 (s_te T L p) htl.2.2 (hK.2.2.2.2.1 (by omega))) sh152 rfl rfl (Nat.le_of_ble_eq_true rfl) (fun r2 ν0 ω0 q2 => ?_)
  obtain ⟨rfl, q2⟩ := q2
  change x_T _ _ _ _ _ _ _ _ _
  have hφ1 : (s_blm φ (s_fl 4 G) 3 (s_sp T L p)) = φ := s_blm_f
  have hL0 : m_L μ ν0 ω0 T L 4 (s_te T L p) (s_blm φ (s_fl 4 G) 3 (s_sp T L p)) 0 0 := ⟨m_K.next hK.1 htl.2.2 q2, by rw [hφ1]; exact hF.cg (q2.2.2.2.2.2.1 16 (by decide) (by decide) (by decide) (by decide)) (q2.2.2.2.2.2.1 17 (by decide) (by decide) (by decide) (by decide)) htl.2.1, by rw [q2.2.2.2.2.2.1 21 (by decide) (by decide) (by decide) (by decide), hg]; rfl, fun j h => absurd h (Nat.not_lt_zero j), fun j h => absurd h (Nat.not_lt_zero j), fun j _ => by rw [q2.2.2.2.2.2.2 162 (by decide)], q2.2.2.2.2.2.2 161 (by decide), q2.2.2.2.2.2.1 20 (by decide) (by decide) (by decide) (by decide), fun a h1 _ => q2.2.2.2.2.2.2 a h1⟩
  refine xt_aload_n _ dX12_wrongLine_4 rfl ?_
  refine xt_iconst (0) dX12_wrongLine_5 (by decide) ?_
  refine xt_iconst (0) dX12_wrongLine_6 (by decide) ?_
  refine xt_bipush (7) dX12_wrongLine_7 (by decide) ?_
  refine xt_callV _ dX12_wrongLine_9 klX12_139 (tX12_takeL sc _ μ hL0 (by decide) (by decide) (by decide)) sh152 rfl rfl (Nat.le_of_ble_eq_true rfl) (fun r5 ν1 ω1 q5 => ?_)
  obtain ⟨ya, yb⟩ := q5
  by_cases hk2 : s_kd T L (s_qs T L (s_te T L p) 0) = 2
  · obtain ⟨rfl, hL1⟩ := ya hk2
    change x_T _ _ _ _ _ (.int 1 :: _) _ _ _
    refine xt_if_eq 36 dX12_wrongLine_12 (by decide) (fun q => absurd q (by decide)) (fun _ => ?_)
    refine xt_aload_n _ dX12_wrongLine_15 rfl ?_
    refine xt_iconst (1) dX12_wrongLine_16 (by decide) ?_
    refine xt_iconst (0) dX12_wrongLine_17 (by decide) ?_
    refine xt_iconst (5) dX12_wrongLine_18 (by decide) ?_
    refine xt_callV _ dX12_wrongLine_19 klX12_139 (tX12_takeL sc _ μ hL1 (by decide) (by decide) (by decide)) sh152 rfl rfl (Nat.le_of_ble_eq_true rfl) (fun r5 ν2 ω2 q5 => ?_)
    obtain ⟨ya, yb⟩ := q5
    by_cases hk2 : s_kd T L (s_qs T L (s_te T L p) 1) = 2
    · obtain ⟨rfl, hL2⟩ := ya hk2
      change x_T _ _ _ _ _ (.int 1 :: _) _ _ _
      refine xt_if_eq 36 dX12_wrongLine_22 (by decide) (fun q => absurd q (by decide)) (fun _ => ?_)
      refine xt_aload_n _ dX12_wrongLine_25 rfl ?_
      refine xt_iconst (2) dX12_wrongLine_26 (by decide) ?_
      refine xt_iconst (0) dX12_wrongLine_27 (by decide) ?_
      refine xt_bipush (9) dX12_wrongLine_28 (by decide) ?_
      refine xt_callV _ dX12_wrongLine_30 klX12_139 (tX12_takeL sc _ μ hL2 (by decide) (by decide) (by decide)) sh152 rfl rfl (Nat.le_of_ble_eq_true rfl) (fun r5 ν3 ω3 q5 => ?_)
      obtain ⟨ya, yb⟩ := q5
      by_cases hk2 : s_kd T L (s_qs T L (s_te T L p) 2) = 2
      · obtain ⟨rfl, hL3⟩ := ya hk2
        change x_T _ _ _ _ _ (.int 1 :: _) _ _ _
        refine xt_if_ne 38 dX12_wrongLine_33 (by decide) (fun _ => ?_) (fun q => absurd q (by decide))
        refine xt_aload_n _ dX12_wrongLine_38 rfl ?_
        refine xt_aload_n _ dX12_wrongLine_39 rfl ?_
        refine xt_geti dX12_wrongLine_40 kfX12_150 (by first | exact sh152 | exact sh161 | exact sh162 | rfl | assumption) rfl ?_
        refine xt_aload_n _ dX12_wrongLine_43 rfl ?_
        refine xt_getr _ dX12_wrongLine_44 kfX12_38 (by first | exact sh152 | exact sh161 | exact sh162 | rfl | assumption) rfl ?_
        refine xt_iconst (0) dX12_wrongLine_47 (by decide) ?_
        refine xt_ald dX12_wrongLine_48 (by first | exact sh152 | exact sh161 | exact sh162 | rfl | assumption) (by unfold vp_in; decide) ?_
        refine xt_cS _ dX12_wrongLine_49 klX12_153 (tX12_greater sc _ _ _ _ _) rfl rfl (Nat.le_of_ble_eq_true rfl) ?_
        refine xt_puti dX12_wrongLine_52 kpX12_150 (by first | exact sh152 | exact sh161 | exact sh162 | rfl | assumption) rfl (by first | rfl | assumption) (by first | rfl | assumption) ?_
        refine xt_aload_n _ dX12_wrongLine_55 rfl ?_
        refine xt_geti dX12_wrongLine_56 kfX12_132 (by first | exact sh152 | exact sh161 | exact sh162 | rfl | assumption) rfl ?_
        refine xt_if_eq 92 dX12_wrongLine_59 (by decide) (fun t59 => ?_) (fun f59 => ?_)
        · refine xt_iconst (1) dX12_wrongLine_92 (by decide) ?_
          refine xt_iret .boolean dX12_wrongLine_93 rfl (by rfl) ?_
          obtain ⟨z1, z2, z3, z4, z5, z6, z7, z8, z9⟩ := hL3
          have hbn : s_bn T L (s_te T L p) 3 = 0 := m_L.bn ⟨z1, z2, z3, z4, z5, z6, z7, z8, z9⟩
          have tbad : ν3 152 21 = 0 := t59
          refine ⟨fun _ => ⟨rfl, z1.cg (fun j h1 h2 => by rw [x_u_eq, pk_un (by omega)]) (x_u_ne (by decide)), z2.cg (by rw [x_u_eq, pk_un (by decide)]) (by rw [x_u_eq, pk_un (by decide)]) (Nat.le_refl _), ?_, ?_⟩, fun h => absurd hbn h, fun a h1 h2 h3 => by rw [x_u_ne h1]; exact z9 a h1 h3⟩
          · intro hz
            have hgd := s_nf_gd hz 3 (Nat.le_refl _)
            rw [hgd, if_pos rfl] at z3
            exact absurd (z3.symm.trans tbad) (by decide)
          · unfold m_sf; rw [x_u_ne (by decide), z7]; exact hC.2
        · have hgd1 : s_gd T L 4 (s_te T L p) 3 = true := by
            cases hq : s_gd T L 4 (s_te T L p) 3
            · exact absurd (show ν3 152 21 = 0 by rw [hL3.2.2.1, hq]; rfl) f59
            · rfl
          have b0 := of_decide_eq_false (s_gd_rg hgd1 0 (by decide))
          have b1 := of_decide_eq_false (s_gd_rg hgd1 1 (by decide))
          have r0 : s_nv T L (s_te T L p) 0 ≤ 7 := by have : ¬ 7 < s_nv T L (s_te T L p) 0 := fun z => b0 (.inr z); omega
          have r1 : s_nv T L (s_te T L p) 1 ≤ 5 := by have : ¬ 5 < s_nv T L (s_te T L p) 1 := fun z => b1 (.inr z); omega
          have hr0 : ν3 162 (0 : Int32).toNatClampNeg = nI (s_nv T L (s_te T L p) 0) := hL3.2.2.2.2.1 0 (by decide)
          have hr1 : ν3 162 (1 : Int32).toNatClampNeg = nI (s_nv T L (s_te T L p) 1) := hL3.2.2.2.2.1 1 (by decide)
          have hr2 : ν3 162 (2 : Int32).toNatClampNeg = nI (s_nv T L (s_te T L p) 2) := hL3.2.2.2.2.1 2 (by decide)
          refine xt_aload_n _ dX12_wrongLine_62 rfl ?_
          refine xt_getr _ dX12_wrongLine_63 kfX12_35 (by first | exact sh152 | exact sh161 | exact sh162 | rfl | assumption) rfl ?_
          refine xt_bipush (41) dX12_wrongLine_66 (by decide) ?_
          refine xt_bipush (6) dX12_wrongLine_68 (by decide) ?_
          refine xt_aload_n _ dX12_wrongLine_70 rfl ?_
          refine xt_getr _ dX12_wrongLine_71 kfX12_38 (by first | exact sh152 | exact sh161 | exact sh162 | rfl | assumption) rfl ?_
          refine xt_iconst (0) dX12_wrongLine_74 (by decide) ?_
          refine xt_ald dX12_wrongLine_75 (by first | exact sh152 | exact sh161 | exact sh162 | rfl | assumption) (by unfold vp_in; decide) ?_
          refine xt_imul dX12_wrongLine_76 ?_
          refine xt_iadd dX12_wrongLine_77 ?_
          refine xt_aload_n _ dX12_wrongLine_78 rfl ?_
          refine xt_getr _ dX12_wrongLine_79 kfX12_38 (by first | exact sh152 | exact sh161 | exact sh162 | rfl | assumption) rfl ?_
          refine xt_iconst (1) dX12_wrongLine_82 (by decide) ?_
          refine xt_ald dX12_wrongLine_83 (by first | exact sh152 | exact sh161 | exact sh162 | rfl | assumption) (by unfold vp_in; decide) ?_
          refine xt_iadd dX12_wrongLine_84 ?_
          refine xt_aload_n _ dX12_wrongLine_85 rfl ?_
          refine xt_getr _ dX12_wrongLine_86 kfX12_38 (by first | exact sh152 | exact sh161 | exact sh162 | rfl | assumption) rfl ?_
          refine xt_iconst (2) dX12_wrongLine_89 (by decide) ?_
          refine xt_ald dX12_wrongLine_90 (by first | exact sh152 | exact sh161 | exact sh162 | rfl | assumption) (by unfold vp_in; decide) ?_
          rw [x_u_ne (by decide), hr0, hr1]
          have hix : (41 : Int32) + 6 * nI (s_nv T L (s_te T L p) 0) + nI (s_nv T L (s_te T L p) 1) = nI (41 + (6 * s_nv T L (s_te T L p) 0 + s_nv T L (s_te T L p) 1)) := by rw [show (41 : Int32) = nI 41 from rfl, show (6 : Int32) = nI 6 from rfl, pk_mul, nI_add, nI_add, Nat.add_assoc]
          rw [hix]
          refine xt_ast dX12_wrongLine_91 (by first | exact sh152 | exact sh161 | exact sh162 | rfl | assumption) (by exact vp_in_nI (by omega) (by decide)) ?_
          rw [nI_clamp (by omega)]
          refine xt_iconst (1) dX12_wrongLine_92 (by decide) ?_
          refine xt_iret .boolean dX12_wrongLine_93 rfl (by rfl) ?_
          obtain ⟨z1, z2, z3, z4, z5, z6, z7, z8, z9⟩ := hL3
          have hbn : s_bn T L (s_te T L p) 3 = 0 := m_L.bn ⟨z1, z2, z3, z4, z5, z6, z7, z8, z9⟩
          refine ⟨fun _ => ⟨rfl, z1.cg (fun j h1 h2 => by rw [x_u_ne (by decide), x_u_eq, pk_un (by omega)]) (by rw [x_u_ne (by decide), x_u_ne (by decide)]), z2.cg (by rw [x_u_ne (by decide), x_u_eq, pk_un (by decide)]) (by rw [x_u_ne (by decide), x_u_eq, pk_un (by decide)]) (Nat.le_refl _), ?_, ?_⟩, fun h => absurd hbn h, fun a h1 h2 h3 => by rw [x_u_ne h2, x_u_ne h1]; exact z9 a h1 h3⟩
          · intro hz
            rw [if_pos hz, if_pos hz]
            obtain ⟨hz1, _⟩ := s_nf_0 hz
            obtain ⟨hz0, hfl⟩ := s_blm_0 (by decide) hz1
            refine ⟨fun i hi => ?_, ?_⟩
            · show _ = nI (s_up G (41 + (6 * s_nv T L (s_te T L p) 0 + s_nv T L (s_te T L p) 1)) (s_nv T L (s_te T L p) 2) i)
              rw [x_u_eq, x_u_ne (by decide), z7]
              by_cases he : i = 41 + (6 * s_nv T L (s_te T L p) 0 + s_nv T L (s_te T L p) 1)
              · rw [he, pk_us, s_up_s]; exact hr2
              · rw [pk_un he, s_up_n he]; exact (hC.1 hz0).1 i hi
            · rw [x_u_ne (by decide), x_u_eq, pk_us, z8, (hC.1 hz0).2]
              show s_gr (eI mx) (nI (s_nv T L (s_te T L p) 0)) = eI (max mx (s_nv T L (s_te T L p) 0 + 1))
              exact s_gr_e hmx (by omega)
          · refine ⟨fun _ c2 h3 h6 => ?_, fun h => absurd h (by decide), fun h => absurd h (by decide)⟩
            obtain ⟨y, hy1, hy⟩ := hC.2.1 rfl c2 h3 h6
            rw [x_u_eq, pk_un (by omega), x_u_ne (by decide), z7]; exact ⟨y, hy1, hy⟩
      · obtain ⟨rfl, hBad⟩ := yb hk2
        change x_T _ _ _ _ _ (.int 0 :: _) _ _ _
        refine xt_if_ne 38 dX12_wrongLine_33 (by decide) (fun q => absurd (by decide) q) (fun _ => ?_)
        refine xt_iconst (0) dX12_wrongLine_36 (by decide) ?_
        exact xt_iret .boolean dX12_wrongLine_37 rfl (by first | rfl | assumption) ⟨fun h => absurd h (by rw [hBad.bn (g := 3) (by decide)]; exact Nat.succ_ne_zero _), fun _ => ⟨rfl, by rw [hBad.bn (g := 3) (by decide)]; exact hBad.1⟩, fun a h1 _ h3 => hBad.2.2.2 a h1 h3⟩
    · obtain ⟨rfl, hBad⟩ := yb hk2
      change x_T _ _ _ _ _ (.int 0 :: _) _ _ _
      refine xt_if_eq 36 dX12_wrongLine_22 (by decide) (fun _ => ?_) (fun q => absurd (by decide) q)
      refine xt_iconst (0) dX12_wrongLine_36 (by decide) ?_
      exact xt_iret .boolean dX12_wrongLine_37 rfl (by first | rfl | assumption) ⟨fun h => absurd h (by rw [hBad.bn (g := 3) (by decide)]; exact Nat.succ_ne_zero _), fun _ => ⟨rfl, by rw [hBad.bn (g := 3) (by decide)]; exact hBad.1⟩, fun a h1 _ h3 => hBad.2.2.2 a h1 h3⟩
  · obtain ⟨rfl, hBad⟩ := yb hk2
    change x_T _ _ _ _ _ (.int 0 :: _) _ _ _
    refine xt_if_eq 36 dX12_wrongLine_12 (by decide) (fun _ => ?_) (fun q => absurd (by decide) q)
    refine xt_iconst (0) dX12_wrongLine_36 (by decide) ?_
    exact xt_iret .boolean dX12_wrongLine_37 rfl (by first | rfl | assumption) ⟨fun h => absurd h (by rw [hBad.bn (g := 3) (by decide)]; exact Nat.succ_ne_zero _), fun _ => ⟨rfl, by rw [hBad.bn (g := 3) (by decide)]; exact hBad.1⟩, fun a h1 _ h3 => hBad.2.2.2 a h1 h3⟩
end LINEM
