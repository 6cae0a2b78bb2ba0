/-! a FAIR on a DAY: the reference's half -/
def m_St (μ : x_Me) (f : Nat) (σ : s_St) : Prop := m_S μ f σ.1 ∧ (μ 152 29 = nI (σ.2 1) ∧ μ 152 30 = nI (σ.2 2) ∧ μ 152 31 = eI (σ.2 3) ∧ μ 152 32 = nI (σ.2 7) ∧ μ 152 33 = nI (σ.2 8)) ∧ μ 152 34 = 0 ∧ μ 152 35 = 0 ∧ μ 152 36 = 0
def m_fr (μ μ' : x_Me) : Prop := (∀ a, a ≠ 152 → a ≠ 163 → a ≠ 164 → a ≠ 165 → μ' a = μ a) ∧ μ' 152 40 = μ 152 40 ∧ μ' 152 51 = μ 152 51
theorem m_fr.rf (μ : x_Me) : m_fr μ μ := ⟨fun _ _ _ _ _ => rfl, rfl, rfl⟩
theorem m_fr.tr {μ μ1 μ2 : x_Me} (h1 : m_fr μ μ1) (h2 : m_fr μ1 μ2) : m_fr μ μ2 := ⟨fun a b c d e => (h2.1 a b c d e).trans (h1.1 a b c d e), h2.2.1.trans h1.2.1, h2.2.2.trans h1.2.2⟩
theorem m_S.cg {μ μ' : x_Me} {f : Nat} {G : Nat → Nat} (h : m_S μ f G) (h1 : ∀ j, 22 ≤ j → j ≤ 28 → μ' 152 j = μ 152 j) (h2 : ∀ a, a ≠ 152 → μ' a = μ a) : m_S μ' f G := by
  obtain ⟨⟨a1, a2, a3, a4, a5, a6, a7, a8⟩, b, c, e⟩ := h
  refine ⟨⟨a1, by rw [h1 22 (by decide) (by decide)]; exact a2, by rw [h1 23 (by decide) (by decide)]; exact a3, by rw [h1 24 (by decide) (by decide)]; exact a4, by rw [h1 25 (by decide) (by decide)]; exact a5, by rw [h1 26 (by decide) (by decide)]; exact a6, by rw [h1 27 (by decide) (by decide)]; exact a7, by rw [h1 28 (by decide) (by decide)]; exact a8⟩, ?_, ?_, ?_⟩
  · rw [h2 163 (by decide), h2 164 (by decide)]; exact b
  · rw [h2 165 (by decide)]; exact c
  · rw [h2 158 (by decide)]; exact e
theorem m_S.slant {μ : x_Me} {f : Nat} {G : Nat → Nat} (h : m_S μ f G) : m_S (x_u μ 152 (upd (μ 152) 28 0)) f (s_up G 2 0) := by
  obtain ⟨⟨a1, a2, a3, a4, a5, a6, a7, a8⟩, b, c, e⟩ := h
  refine ⟨⟨a1, a2, a3, a4, a5, a6, a7, rfl⟩, fun g hg => ?_, fun i hi => ?_, fun i hi h2 => ?_⟩
  · rw [s_up_n (by omega), s_up_n (by omega)]; exact b g hg
  · rw [s_up_n (by omega)]; exact c i hi
  · rw [s_up_n (by omega)]; exact e i hi h2
theorem m_S.wrong {μ : x_Me} {f : Nat} {G : Nat → Nat} (h : m_S μ f G) {j v : Nat} (hj : j < 48) : m_S (x_u μ 165 (upd (μ 165) j (nI v))) f (s_up G (41 + j) v) := by
  obtain ⟨⟨a1, a2, a3, a4, a5, a6, a7, a8⟩, b, c, e⟩ := h
  have k : ∀ {i : Nat}, i < 41 ∨ 89 ≤ i → s_up G (41 + j) v i = G i := fun h => s_up_n (by omega)
  refine ⟨⟨a1, a2, by rw [k (by omega)]; exact a3, by rw [k (by omega)]; exact a4, by rw [k (by omega)]; exact a5, by rw [k (by omega)]; exact a6, by rw [k (by omega)]; exact a7, by rw [k (by omega)]; exact a8⟩, fun g hg => ?_, fun i hi => ?_, fun i hi h2 => ?_⟩
  · rw [k (by omega), k (by omega)]; exact b g hg
  · rw [x_u_eq]
    by_cases h : i = j
    · subst h; rw [pk_us, s_up_s]
    · rw [pk_un h, s_up_n (by omega)]; exact c i hi
  · rw [k (by omega)]; exact e i hi h2
theorem m_S.place {μ : x_Me} {f : Nat} {G : Nat → Nat} (h : m_S μ f G) {g x y : Nat} (hg : g < 8) (hy : y ≤ 9) : m_S (x_u (x_u μ 163 (upd (μ 163) g (nI x))) 164 (upd (x_u μ 163 (upd (μ 163) g (nI x)) 164) g (nI y))) f (s_mg G g (10 * x + y)) := by
  have := m_S.goer (F := G) h hg (fun _ _ _ => rfl) (10 * x + y)
  rw [show (10 * x + y) / 10 = x by omega, show (10 * x + y) % 10 = y by omega] at this
  exact this
section STAGEM
variable (sc : Nat × (Nat → Int32)) (d : Nat) (μ : x_Me) (w : Int64)
set_option maxHeartbeats 2000000 in
theorem tX12_sounds (f : Nat) (σ : s_St) (hok : s_ok σ) (hm : m_St μ f σ) : x_K sc (d + 4) mX12_sounds [.ref 152] μ w (fun r μ' _ => r = some (.int (if (s_tune σ).1 then 1 else 0)) ∧ m_St μ' f (s_tune σ).2 ∧ m_fr μ μ') := by
  have hW : f_W σ.1 := hok.1
  have h8 : σ.1 4 ≤ 8 := hW.1.2.2.2.2.1
  have hS : m_S μ f σ.1 := hm.1
  have c1 := hm.2.1.1
  have hlt := s_offs_lt hW (fun _ => false)
  obtain ⟨_, o1, _⟩ := hok
  have et : (x_u μ 152 (upd (μ 152) 29 (μ 152 29 + 1))) 152 29 = nI (σ.2 1 + 1) := by show μ 152 29 + 1 = _; rw [c1, nI_succ]
  refine x_K.of (by decide) (Nat.le_of_ble_eq_true rfl) ?_
  show x_T sc (d + 4) mX12_sounds 0 [.ref 152] [] μ w _
  by_cases h99 : σ.2 1 < 99
  · skip
    refine xt_aload_n _ dX12_sounds_0 rfl ?_
    refine xt_geti dX12_sounds_1 kfX12_266 (by first | exact sh152 | rfl | assumption) rfl ?_
    refine xt_bipush (99) dX12_sounds_4 (by decide) ?_
    refine xt_icmp_ne 11 dX12_sounds_6 (by decide) (fun _ => ?_) (fun q => absurd q (by rw [c1]; exact fun z => by have := (nI_eq (b := 99) (by omega) (by decide)).mp z; omega))
    refine xt_aload_n _ dX12_sounds_11 rfl ?_
    refine xt_dup dX12_sounds_12 rfl ?_
    refine xt_geti dX12_sounds_13 kfX12_266 (by first | exact sh152 | rfl | assumption) rfl ?_
    refine xt_iconst (1) dX12_sounds_16 (by decide) ?_
    refine xt_iadd dX12_sounds_17 ?_
    refine xt_puti dX12_sounds_18 kpX12_266 (by first | exact sh152 | rfl | assumption) rfl (by first | rfl | assumption) (by first | rfl | assumption) ?_
    refine xt_aload_n _ dX12_sounds_21 rfl ?_
    refine xt_aload_n _ dX12_sounds_22 rfl ?_
    refine xt_cV _ dX12_sounds_23 klX12_322 (tX12_offenders sc _ (x_u μ 152 (upd (μ 152) 29 (μ 152 29 + 1))) _ f σ.1 (hS.cg (fun j h1 h2 => by rw [x_u_eq, pk_un (by omega)]) (fun a ha => x_u_ne ha)) hW 0 (fun _ => false) s_strM0 0 0 (by decide) (by decide) hm.2.2.1 hm.2.2.2.1 hm.2.2.2.2) sh152 rfl rfl (Nat.le_of_ble_eq_true rfl) ?_
    rw [s_any_offs]
    refine xt_if_ne 40 dX12_sounds_26 (by decide) (fun t26 => ?_) (fun f26 => ?_)
    · refine xt_iconst (1) dX12_sounds_40 (by decide) ?_
      refine xt_goto 45 dX12_sounds_41 (by decide) ?_
      refine xt_puti dX12_sounds_45 kpX12_272 (by first | exact sh152 | rfl | assumption) rfl (by first | rfl | assumption) (by first | rfl | assumption) ?_
      refine xt_aload_n _ dX12_sounds_48 rfl ?_
      refine xt_dup dX12_sounds_49 rfl ?_
      refine xt_geti dX12_sounds_50 kfX12_269 (by first | exact sh152 | rfl | assumption) rfl ?_
      refine xt_aload_n _ dX12_sounds_53 rfl ?_
      refine xt_geti dX12_sounds_54 kfX12_272 (by first | exact sh152 | rfl | assumption) rfl ?_
      refine xt_iadd dX12_sounds_57 ?_
      refine xt_puti dX12_sounds_58 kpX12_269 (by first | exact sh152 | rfl | assumption) rfl (by first | rfl | assumption) (by first | rfl | assumption) ?_
      refine xt_iconst (1) dX12_sounds_61 (by decide) ?_
      have hst : s_stops σ = true := by unfold s_stops; rw [decide_eq_false (fun z => t26 (by rw [z]; rfl))]; exact Bool.or_true _
      refine xt_iret .boolean dX12_sounds_62 rfl rfl ?_
      rw [show s_tune σ = (true, (σ.1, s_tcc σ.2 true)) from by rw [s_tune, if_pos h99, hst]]
      refine ⟨rfl, ⟨hS.cg (fun j h1 h2 => ?_) (fun a ha => by simp only [x_u_ne ha]), ⟨?_, ?_, ?_, hm.2.1.2.2.2.1, hm.2.1.2.2.2.2⟩, hm.2.2⟩, fun a ha _ _ _ => by simp only [x_u_ne ha], rfl, rfl⟩
      · simp only [x_u_eq]; rw [pk_un (by omega), pk_un (by omega), pk_un (by omega)]
      · show μ 152 29 + 1 = nI (σ.2 1 + 1); rw [hm.2.1.1, nI_succ]
      · show μ 152 30 + 1 = nI (σ.2 2 + 1); rw [hm.2.1.2.1, nI_succ]
      · show (1 : Int32) = eI 2; decide
    · refine xt_aload_n _ dX12_sounds_29 rfl ?_
      refine xt_aload_n _ dX12_sounds_30 rfl ?_
      refine xt_geti dX12_sounds_31 kfX12_266 (by first | exact sh152 | rfl | assumption) rfl ?_
      rw [et]
      refine xt_cV _ dX12_sounds_34 klX12_325 (tX12_isSlanted sc _ (x_u μ 152 (upd (μ 152) 29 (μ 152 29 + 1))) _ σ.1 hW.1.2.2.1 (hS.cg (fun j h1 h2 => by rw [x_u_eq, pk_un (by omega)]) (fun a ha => x_u_ne ha)).1.2.2.2.2.2.2.2 (σ.2 1 + 1) (by omega)) sh152 rfl rfl (Nat.le_of_ble_eq_true rfl) ?_
      refine xt_if_eq 44 dX12_sounds_37 (by decide) (fun t37 => ?_) (fun f37 => ?_)
      · refine xt_iconst (0) dX12_sounds_44 (by decide) ?_
        refine xt_puti dX12_sounds_45 kpX12_272 (by first | exact sh152 | rfl | assumption) rfl (by first | rfl | assumption) (by first | rfl | assumption) ?_
        refine xt_aload_n _ dX12_sounds_48 rfl ?_
        refine xt_dup dX12_sounds_49 rfl ?_
        refine xt_geti dX12_sounds_50 kfX12_269 (by first | exact sh152 | rfl | assumption) rfl ?_
        refine xt_aload_n _ dX12_sounds_53 rfl ?_
        refine xt_geti dX12_sounds_54 kfX12_272 (by first | exact sh152 | rfl | assumption) rfl ?_
        refine xt_iadd dX12_sounds_57 ?_
        refine xt_puti dX12_sounds_58 kpX12_269 (by first | exact sh152 | rfl | assumption) rfl (by first | rfl | assumption) (by first | rfl | assumption) ?_
        refine xt_iconst (1) dX12_sounds_61 (by decide) ?_
        have hsl : s_slant σ.1 (σ.2 1 + 1) = false := by cases hz : s_slant σ.1 (σ.2 1 + 1); rfl; (rw [hz] at t37; exact absurd t37 (by decide))
        have hst : s_stops σ = false := by unfold s_stops; rw [hsl, decide_eq_true ((nI_0e (by omega)).mp f26)]; rfl
        refine xt_iret .boolean dX12_sounds_62 rfl rfl ?_
        rw [show s_tune σ = (true, (σ.1, s_tcc σ.2 false)) from by rw [s_tune, if_pos h99, hst]]
        refine ⟨rfl, ⟨hS.cg (fun j h1 h2 => ?_) (fun a ha => by simp only [x_u_ne ha]), ⟨?_, ?_, ?_, hm.2.1.2.2.2.1, hm.2.1.2.2.2.2⟩, hm.2.2⟩, fun a ha _ _ _ => by simp only [x_u_ne ha], rfl, rfl⟩
        · simp only [x_u_eq]; rw [pk_un (by omega), pk_un (by omega), pk_un (by omega)]
        · show μ 152 29 + 1 = nI (σ.2 1 + 1); rw [hm.2.1.1, nI_succ]
        · show μ 152 30 + 0 = nI (σ.2 2); rw [hm.2.1.2.1, Int32.add_zero]
        · show (0 : Int32) = eI 1; decide
      · refine xt_iconst (1) dX12_sounds_40 (by decide) ?_
        refine xt_goto 45 dX12_sounds_41 (by decide) ?_
        refine xt_puti dX12_sounds_45 kpX12_272 (by first | exact sh152 | rfl | assumption) rfl (by first | rfl | assumption) (by first | rfl | assumption) ?_
        refine xt_aload_n _ dX12_sounds_48 rfl ?_
        refine xt_dup dX12_sounds_49 rfl ?_
        refine xt_geti dX12_sounds_50 kfX12_269 (by first | exact sh152 | rfl | assumption) rfl ?_
        refine xt_aload_n _ dX12_sounds_53 rfl ?_
        refine xt_geti dX12_sounds_54 kfX12_272 (by first | exact sh152 | rfl | assumption) rfl ?_
        refine xt_iadd dX12_sounds_57 ?_
        refine xt_puti dX12_sounds_58 kpX12_269 (by first | exact sh152 | rfl | assumption) rfl (by first | rfl | assumption) (by first | rfl | assumption) ?_
        refine xt_iconst (1) dX12_sounds_61 (by decide) ?_
        have hst : s_stops σ = true := by unfold s_stops; cases hz : s_slant σ.1 (σ.2 1 + 1); (rw [hz] at f37; exact absurd rfl f37); rfl
        refine xt_iret .boolean dX12_sounds_62 rfl rfl ?_
        rw [show s_tune σ = (true, (σ.1, s_tcc σ.2 true)) from by rw [s_tune, if_pos h99, hst]]
        refine ⟨rfl, ⟨hS.cg (fun j h1 h2 => ?_) (fun a ha => by simp only [x_u_ne ha]), ⟨?_, ?_, ?_, hm.2.1.2.2.2.1, hm.2.1.2.2.2.2⟩, hm.2.2⟩, fun a ha _ _ _ => by simp only [x_u_ne ha], rfl, rfl⟩
        · simp only [x_u_eq]; rw [pk_un (by omega), pk_un (by omega), pk_un (by omega)]
        · show μ 152 29 + 1 = nI (σ.2 1 + 1); rw [hm.2.1.1, nI_succ]
        · show μ 152 30 + 1 = nI (σ.2 2 + 1); rw [hm.2.1.2.1, nI_succ]
        · show (1 : Int32) = eI 2; decide
  · skip
    refine xt_aload_n _ dX12_sounds_0 rfl ?_
    refine xt_geti dX12_sounds_1 kfX12_266 (by first | exact sh152 | rfl | assumption) rfl ?_
    refine xt_bipush (99) dX12_sounds_4 (by decide) ?_
    refine xt_icmp_ne 11 dX12_sounds_6 (by decide) (fun q => absurd (by rw [c1, show σ.2 1 = 99 by omega]; rfl) q) (fun _ => ?_)
    refine xt_iconst (0) dX12_sounds_9 (by decide) ?_
    exact xt_iret .boolean dX12_sounds_10 rfl (by first | rfl | assumption) (by rw [show s_tune σ = (false, σ) from by rw [s_tune, if_neg h99]]; exact ⟨rfl, hm, m_fr.rf μ⟩)
set_option maxHeartbeats 2000000 in
theorem tX12_fitted (f : Nat) (σ : s_St) (hok : s_ok σ) (hm : m_St μ f σ) : x_K sc d mX12_fitted [.ref 152] μ w (fun r μ' _ => r = some (.int (if (s_fit σ).1 then 1 else 0)) ∧ m_St μ' f (s_fit σ).2 ∧ m_fr μ μ') := by
  have hW : f_W σ.1 := hok.1
  have h8 : σ.1 4 ≤ 8 := hW.1.2.2.2.2.1
  have hS : m_S μ f σ.1 := hm.1
  have h9 := hW.1.2.2.1
  have e2 := hS.1.2.2.2.2.2.2.2
  refine x_K.of (by decide) (Nat.le_of_ble_eq_true rfl) ?_
  show x_T sc d mX12_fitted 0 [.ref 152] [] μ w _
  by_cases hz : σ.1 2 = 0
  · skip
    refine xt_aload_n _ dX12_fitted_0 rfl ?_
    refine xt_geti dX12_fitted_1 kfX12_263 (by first | exact sh152 | rfl | assumption) rfl ?_
    refine xt_if_ne 9 dX12_fitted_4 (by decide) (fun q => absurd (by rw [e2, hz]; rfl) q) (fun _ => ?_)
    refine xt_iconst (0) dX12_fitted_7 (by decide) ?_
    exact xt_iret .boolean dX12_fitted_8 rfl (by first | rfl | assumption) (by rw [show s_fit σ = (false, σ) from by rw [s_fit, if_pos hz]]; exact ⟨rfl, hm, m_fr.rf μ⟩)
  · skip
    refine xt_aload_n _ dX12_fitted_0 rfl ?_
    refine xt_geti dX12_fitted_1 kfX12_263 (by first | exact sh152 | rfl | assumption) rfl ?_
    refine xt_if_ne 9 dX12_fitted_4 (by decide) (fun _ => ?_) (fun q => absurd q (by rw [e2]; exact fun z => hz ((nI_0e (by omega)).mp z)))
    refine xt_aload_n _ dX12_fitted_9 rfl ?_
    refine xt_iconst (0) dX12_fitted_10 (by decide) ?_
    refine xt_puti dX12_fitted_11 kpX12_263 (by first | exact sh152 | rfl | assumption) rfl (by first | rfl | assumption) (by first | rfl | assumption) ?_
    refine xt_iconst (1) dX12_fitted_14 (by decide) ?_
    exact xt_iret .boolean dX12_fitted_15 rfl (by first | rfl | assumption) (by rw [show s_fit σ = (true, (s_up σ.1 2 0, σ.2)) from by rw [s_fit, if_neg hz]]; exact ⟨rfl, ⟨hS.slant, hm.2.1, hm.2.2⟩, fun a ha _ _ _ => x_u_ne ha, rfl, rfl⟩)
set_option maxHeartbeats 2000000 in
theorem tX12_changes_m (f : Nat) (σ : s_St) (hok : s_ok σ) (hm : m_St μ f σ) (g k n : Nat) (hg : g < σ.1 4) (hk : k < 6) (hn : n ≤ 9) : x_K sc (d + 1) mX12_changes [.ref 152, .int (nI (6 * g + k)), .int (-(nI n))] μ w (fun r μ' _ => r = some (.int (if (s_mnd σ g k n).1 then 1 else 0)) ∧ m_St μ' f (s_mnd σ g k n).2 ∧ m_fr μ μ') := by
  have hW : f_W σ.1 := hok.1
  have h8 : σ.1 4 ≤ 8 := hW.1.2.2.2.2.1
  have hS : m_S μ f σ.1 := hm.1
  have hw9 := hW.2.2.2.1 (6 * g + k) (by omega)
  have hcl : (nI (6 * g + k)).toNatClampNeg = 6 * g + k := nI_clamp (by omega)
  have hw0 : μ 165 (6 * g + k) = nI (σ.1 (41 + (6 * g + k))) := hS.2.2.1 (6 * g + k) (by omega)
  refine x_K.of (by decide) (Nat.le_of_ble_eq_true rfl) ?_
  show x_T sc (d + 1) mX12_changes 0 [.ref 152, .int (nI (6 * g + k)), .int (-(nI n))] [] μ w _
  by_cases hz : (σ.1 (41 + (6 * g + k))) < n
  · skip
    refine xt_aload_n _ dX12_changes_0 rfl ?_
    refine xt_getr _ dX12_changes_1 kfX12_47 (by first | exact sh152 | rfl | assumption) rfl ?_
    refine xt_iload_n _ dX12_changes_4 rfl ?_
    refine xt_ald dX12_changes_5 (by first | exact sh152 | rfl | assumption) (by exact vp_in_nI (by omega) (by decide)) ?_
    refine xt_iload_n _ dX12_changes_6 rfl ?_
    refine xt_iadd dX12_changes_7 ?_
    refine xt_iconst (0) dX12_changes_8 (by decide) ?_
    refine xt_bipush (9) dX12_changes_9 (by decide) ?_
    refine xt_cS _ dX12_changes_11 klX12_84 (tX12_in sc _ _ _ _ _ _) rfl rfl (Nat.le_of_ble_eq_true rfl) ?_
    refine xt_if_ne 19 dX12_changes_14 (by decide) (fun q => absurd (by rw [hcl, hw0, ← Int32.sub_eq_add_neg, s_in, if_pos (pk_sneg (by omega) hz)]) q) (fun _ => ?_)
    refine xt_iconst (0) dX12_changes_17 (by decide) ?_
    exact xt_iret .boolean dX12_changes_18 rfl (by first | rfl | assumption) (by rw [show s_mnd σ g k n = (false, σ) from by rw [s_mnd, if_pos hz]]; exact ⟨rfl, hm, m_fr.rf μ⟩)
  · skip
    refine xt_aload_n _ dX12_changes_0 rfl ?_
    refine xt_getr _ dX12_changes_1 kfX12_47 (by first | exact sh152 | rfl | assumption) rfl ?_
    refine xt_iload_n _ dX12_changes_4 rfl ?_
    refine xt_ald dX12_changes_5 (by first | exact sh152 | rfl | assumption) (by exact vp_in_nI (by omega) (by decide)) ?_
    refine xt_iload_n _ dX12_changes_6 rfl ?_
    refine xt_iadd dX12_changes_7 ?_
    refine xt_iconst (0) dX12_changes_8 (by decide) ?_
    refine xt_bipush (9) dX12_changes_9 (by decide) ?_
    refine xt_cS _ dX12_changes_11 klX12_84 (tX12_in sc _ _ _ _ _ _) rfl rfl (Nat.le_of_ble_eq_true rfl) ?_
    refine xt_if_ne 19 dX12_changes_14 (by decide) (fun _ => ?_) (fun q => absurd q (by rw [hcl, hw0, ← Int32.sub_eq_add_neg, pk_sub (by omega)]; exact s_in_r (a := 0) (b := 9) (by omega) (by omega) (by omega) (by decide)))
    refine xt_aload_n _ dX12_changes_19 rfl ?_
    refine xt_getr _ dX12_changes_20 kfX12_47 (by first | exact sh152 | rfl | assumption) rfl ?_
    refine xt_iload_n _ dX12_changes_23 rfl ?_
    refine xt_dup2 dX12_changes_24 rfl rfl ?_
    refine xt_ald dX12_changes_25 (by first | exact sh152 | rfl | assumption) (by exact vp_in_nI (by omega) (by decide)) ?_
    refine xt_iload_n _ dX12_changes_26 rfl ?_
    refine xt_iadd dX12_changes_27 ?_
    refine xt_ast dX12_changes_28 (by first | exact sh152 | rfl | assumption) (by exact vp_in_nI (by omega) (by decide)) ?_
    refine xt_iconst (1) dX12_changes_29 (by decide) ?_
    exact xt_iret .boolean dX12_changes_30 rfl (by first | rfl | assumption) (by rw [show s_mnd σ g k n = (true, (s_up σ.1 (41 + (6 * g + k)) ((σ.1 (41 + (6 * g + k))) - n), s_up σ.2 10 (σ.2 10 + n))) from by rw [s_mnd, if_neg hz], hcl, hw0, ← Int32.sub_eq_add_neg, pk_sub (show n ≤ (σ.1 (41 + (6 * g + k))) by omega)]; exact ⟨rfl, ⟨hS.wrong (by omega), hm.2.1, hm.2.2⟩, fun a _ _ _ h4 => x_u_ne h4, rfl, rfl⟩)
set_option maxHeartbeats 2000000 in
theorem tX12_changes_d (f : Nat) (σ : s_St) (hok : s_ok σ) (hm : m_St μ f σ) (g k n : Nat) (hg : g < σ.1 4) (hk : k < 6) (hn : n ≤ 9) : x_K sc (d + 1) mX12_changes [.ref 152, .int (nI (6 * g + k)), .int (nI n)] μ w (fun r μ' _ => r = some (.int (if (s_dow σ g k n).1 then 1 else 0)) ∧ m_St μ' f (s_dow σ g k n).2 ∧ m_fr μ μ') := by
  have hW : f_W σ.1 := hok.1
  have h8 : σ.1 4 ≤ 8 := hW.1.2.2.2.2.1
  have hS : m_S μ f σ.1 := hm.1
  have hw9 := hW.2.2.2.1 (6 * g + k) (by omega)
  have hcl : (nI (6 * g + k)).toNatClampNeg = 6 * g + k := nI_clamp (by omega)
  have hw0 : μ 165 (6 * g + k) = nI (σ.1 (41 + (6 * g + k))) := hS.2.2.1 (6 * g + k) (by omega)
  refine x_K.of (by decide) (Nat.le_of_ble_eq_true rfl) ?_
  show x_T sc (d + 1) mX12_changes 0 [.ref 152, .int (nI (6 * g + k)), .int (nI n)] [] μ w _
  by_cases hz : 9 < (σ.1 (41 + (6 * g + k))) + n
  · skip
    refine xt_aload_n _ dX12_changes_0 rfl ?_
    refine xt_getr _ dX12_changes_1 kfX12_47 (by first | exact sh152 | rfl | assumption) rfl ?_
    refine xt_iload_n _ dX12_changes_4 rfl ?_
    refine xt_ald dX12_changes_5 (by first | exact sh152 | rfl | assumption) (by exact vp_in_nI (by omega) (by decide)) ?_
    refine xt_iload_n _ dX12_changes_6 rfl ?_
    refine xt_iadd dX12_changes_7 ?_
    refine xt_iconst (0) dX12_changes_8 (by decide) ?_
    refine xt_bipush (9) dX12_changes_9 (by decide) ?_
    refine xt_cS _ dX12_changes_11 klX12_84 (tX12_in sc _ _ _ _ _ _) rfl rfl (Nat.le_of_ble_eq_true rfl) ?_
    refine xt_if_ne 19 dX12_changes_14 (by decide) (fun q => absurd (by rw [hcl, hw0, nI_add]; exact s_in_r0 (a := 0) (b := 9) (Or.inr hz) (by omega) (by decide) (by decide)) q) (fun _ => ?_)
    refine xt_iconst (0) dX12_changes_17 (by decide) ?_
    exact xt_iret .boolean dX12_changes_18 rfl (by first | rfl | assumption) (by rw [show s_dow σ g k n = (false, σ) from by rw [s_dow, if_pos hz]]; exact ⟨rfl, hm, m_fr.rf μ⟩)
  · skip
    refine xt_aload_n _ dX12_changes_0 rfl ?_
    refine xt_getr _ dX12_changes_1 kfX12_47 (by first | exact sh152 | rfl | assumption) rfl ?_
    refine xt_iload_n _ dX12_changes_4 rfl ?_
    refine xt_ald dX12_changes_5 (by first | exact sh152 | rfl | assumption) (by exact vp_in_nI (by omega) (by decide)) ?_
    refine xt_iload_n _ dX12_changes_6 rfl ?_
    refine xt_iadd dX12_changes_7 ?_
    refine xt_iconst (0) dX12_changes_8 (by decide) ?_
    refine xt_bipush (9) dX12_changes_9 (by decide) ?_
    refine xt_cS _ dX12_changes_11 klX12_84 (tX12_in sc _ _ _ _ _ _) rfl rfl (Nat.le_of_ble_eq_true rfl) ?_
    refine xt_if_ne 19 dX12_changes_14 (by decide) (fun _ => ?_) (fun q => absurd q (by rw [hcl, hw0, nI_add]; exact s_in_r (a := 0) (b := 9) (by omega) (by omega) (by omega) (by decide)))
    refine xt_aload_n _ dX12_changes_19 rfl ?_
    refine xt_getr _ dX12_changes_20 kfX12_47 (by first | exact sh152 | rfl | assumption) rfl ?_
    refine xt_iload_n _ dX12_changes_23 rfl ?_
    refine xt_dup2 dX12_changes_24 rfl rfl ?_
    refine xt_ald dX12_changes_25 (by first | exact sh152 | rfl | assumption) (by exact vp_in_nI (by omega) (by decide)) ?_
    refine xt_iload_n _ dX12_changes_26 rfl ?_
    refine xt_iadd dX12_changes_27 ?_
    refine xt_ast dX12_changes_28 (by first | exact sh152 | rfl | assumption) (by exact vp_in_nI (by omega) (by decide)) ?_
    refine xt_iconst (1) dX12_changes_29 (by decide) ?_
    exact xt_iret .boolean dX12_changes_30 rfl (by first | rfl | assumption) (by rw [show s_dow σ g k n = (true, (s_up σ.1 (41 + (6 * g + k)) ((σ.1 (41 + (6 * g + k))) + n), s_up σ.2 11 (σ.2 11 + n))) from by rw [s_dow, if_neg hz], hcl, hw0, nI_add]; exact ⟨rfl, ⟨hS.wrong (by omega), hm.2.1, hm.2.2⟩, fun a _ _ _ h4 => x_u_ne h4, rfl, rfl⟩)
set_option maxHeartbeats 4000000 in
theorem tX12_does (f : Nat) (σ : s_St) (hok : s_ok σ) (hm : m_St μ f σ) (A0 A1 A2 A3 : Int32) (s a b c : Nat) (hq : q_d A0 A1 A2 A3 s a b c) : x_K sc (d + 5) mX12_does [.ref 152, .int A0, .int A1, .int A2, .int A3] μ w (fun r μ' _ => r = some (.int (if (s_act σ s a b c).1 then 1 else 0)) ∧ m_St μ' f (s_act σ s a b c).2 ∧ m_fr μ μ') := by
  have hW : f_W σ.1 := hok.1
  have h8 : σ.1 4 ≤ 8 := hW.1.2.2.2.2.1
  have hS : m_S μ f σ.1 := hm.1
  obtain ⟨rfl, hs5, hq3, hq4⟩ := hq
  refine x_K.of (by decide) (Nat.le_of_ble_eq_true rfl) ?_
  have hs' : s = 0 ∨ s = 1 ∨ s = 2 ∨ s = 3 ∨ s = 4 ∨ s = 5 := by omega
  rcases hs' with rfl | rfl | rfl | rfl | rfl | rfl
  · skip
    show x_T sc (d + 5) mX12_does 0 [.ref 152, .int (nI 0), .int A1, .int A2, .int A3] [] μ w _
    refine xt_iload_n _ dX12_does_0 rfl ?_
    refine xt_if_ne 9 dX12_does_1 (by decide) (fun q => absurd (by decide) q) (fun _ => ?_)
    refine xt_aload_n _ dX12_does_4 rfl ?_
    refine xt_callV _ dX12_does_5 klX12_328 (tX12_sounds sc _ μ w f σ hok hm) sh152 rfl rfl (Nat.le_of_ble_eq_true rfl) (fun r2 μ2 w2 q2 => ?_)
    obtain ⟨rfl, q2⟩ := q2
    change x_T _ _ _ _ _ (.int _ :: _) _ _ _
    exact xt_iret .boolean dX12_does_8 rfl (by first | rfl | exact s_nar _ | assumption) ⟨rfl, q2⟩
  · skip
    show x_T sc (d + 5) mX12_does 0 [.ref 152, .int (nI 1), .int A1, .int A2, .int A3] [] μ w _
    refine xt_iload_n _ dX12_does_0 rfl ?_
    refine xt_if_ne 9 dX12_does_1 (by decide) (fun _ => ?_) (fun q => absurd q (by decide))
    refine xt_iload_n _ dX12_does_9 rfl ?_
    refine xt_iconst (1) dX12_does_10 (by decide) ?_
    refine xt_icmp_ne 19 dX12_does_11 (by decide) (fun q => absurd (by decide) q) (fun _ => ?_)
    refine xt_aload_n _ dX12_does_14 rfl ?_
    refine xt_callV _ dX12_does_15 klX12_331 (tX12_fitted sc _ μ w f σ hok hm) sh152 rfl rfl (Nat.le_of_ble_eq_true rfl) (fun r2 μ2 w2 q2 => ?_)
    obtain ⟨rfl, q2⟩ := q2
    change x_T _ _ _ _ _ (.int _ :: _) _ _ _
    exact xt_iret .boolean dX12_does_18 rfl (by first | rfl | exact s_nar _ | assumption) ⟨rfl, q2⟩
  · skip
    obtain ⟨rfl, ha7⟩ := hq3 (by decide)
    show x_T sc (d + 5) mX12_does 0 [.ref 152, .int (nI 2), .int (nI a), .int A2, .int A3] [] μ w _
    by_cases ha : a < σ.1 4
    · have he : s_act σ 2 a b c = s_ask σ a := by unfold s_act; simp [ha]
      refine xt_iload_n _ dX12_does_0 rfl ?_
      refine xt_if_ne 9 dX12_does_1 (by decide) (fun _ => ?_) (fun q => absurd q (by decide))
      refine xt_iload_n _ dX12_does_9 rfl ?_
      refine xt_iconst (1) dX12_does_10 (by decide) ?_
      refine xt_icmp_ne 19 dX12_does_11 (by decide) (fun _ => ?_) (fun q => absurd q (by decide))
      refine xt_aload_n _ dX12_does_19 rfl ?_
      refine xt_iload_n _ dX12_does_20 rfl ?_
      refine xt_cV _ dX12_does_21 klX12_303 (tX12_isGoer sc _ μ _ σ.1 h8 hS.1.2.2.2.1 _) sh152 rfl rfl (Nat.le_of_ble_eq_true rfl) ?_
      refine xt_if_ne 29 dX12_does_24 (by decide) (fun _ => ?_) (fun q => absurd q (by rw [s_hasG_yes ha h8]; decide))
      refine xt_iload_n _ dX12_does_29 rfl ?_
      refine xt_lookup (off := 26) 56 dX12_does_30 (by decide) (by decide) (by decide) ?_
      refine xt_aload_n _ dX12_does_56 rfl ?_
      refine xt_dup dX12_does_57 rfl ?_
      refine xt_geti dX12_does_58 kfX12_275 (by first | exact sh152 | rfl | assumption) rfl ?_
      refine xt_iconst (1) dX12_does_61 (by decide) ?_
      refine xt_iload_n _ dX12_does_62 rfl ?_
      refine xt_ishl dX12_does_63 ?_
      refine xt_ior dX12_does_64 ?_
      refine xt_puti dX12_does_65 kpX12_275 (by first | exact sh152 | rfl | assumption) rfl (by first | rfl | assumption) (by first | rfl | assumption) ?_
      refine xt_aload_n _ dX12_does_68 rfl ?_
      refine xt_dup dX12_does_69 rfl ?_
      refine xt_geti dX12_does_70 kfX12_278 (by first | exact sh152 | rfl | assumption) rfl ?_
      refine xt_aload_n _ dX12_does_73 rfl ?_
      refine xt_iload_n _ dX12_does_74 rfl ?_
      refine xt_cV _ dX12_does_75 klX12_297 (tX12_offends sc _ (x_u μ 152 (upd (μ 152) 32 (μ 152 32 ||| (1 : Int32) <<< (nI a &&& 31)))) _ f σ.1 (hS.cg (fun j h1 h2 => by rw [x_u_eq, pk_un (by omega)]) (fun a ha => x_u_ne ha)) hW a ha 0 (fun _ => false) s_strM0 0 0 (by decide) (by decide) hm.2.2.1 hm.2.2.2.1 hm.2.2.2.2) sh152 rfl rfl (Nat.le_of_ble_eq_true rfl) ?_
      refine xt_if_eq 87 dX12_does_78 (by decide) (fun t78 => ?_) (fun f78 => ?_)
      · refine xt_iconst (0) dX12_does_87 (by decide) ?_
        refine xt_ior dX12_does_88 ?_
        refine xt_puti dX12_does_89 kpX12_278 (by first | exact sh152 | rfl | assumption) rfl (by first | rfl | assumption) (by first | rfl | assumption) ?_
        refine xt_iconst (1) dX12_does_92 (by decide) ?_
        have hof : s_off σ.1 (fun _ => false) 0 a = false := by unfold s_off; rw [← s_any_ear]; cases hz : s_any σ.1 (fun _ => false) 0 0 a (σ.1 3) <;> simp_all
        refine xt_iret .boolean dX12_does_93 rfl rfl ?_
        rw [he, show s_ask σ a = (true, (σ.1, s_ac σ.2 a false)) from by rw [s_ask, hof]]
        refine ⟨rfl, ⟨hS.cg (fun j h1 h2 => by simp only [x_u_eq]; rw [pk_un (by omega), pk_un (by omega)]) (fun a ha => by simp only [x_u_ne ha]), ⟨hm.2.1.1, hm.2.1.2.1, hm.2.1.2.2.1, ?_, ?_⟩, hm.2.2⟩, fun a ha _ _ _ => by simp only [x_u_ne ha], rfl, rfl⟩
        · show μ 152 32 ||| (1 : Int32) <<< (nI a &&& 31) = nI (σ.2 7 ||| 2 ^ a); rw [hm.2.1.2.2.2.1, x_1sh (by omega), nI_or]
        · show μ 152 33 ||| 0 = nI (σ.2 8); rw [hm.2.1.2.2.2.2, Int32.or_zero]
      · refine xt_iconst (1) dX12_does_81 (by decide) ?_
        refine xt_iload_n _ dX12_does_82 rfl ?_
        refine xt_ishl dX12_does_83 ?_
        refine xt_goto 88 dX12_does_84 (by decide) ?_
        refine xt_ior dX12_does_88 ?_
        refine xt_puti dX12_does_89 kpX12_278 (by first | exact sh152 | rfl | assumption) rfl (by first | rfl | assumption) (by first | rfl | assumption) ?_
        refine xt_iconst (1) dX12_does_92 (by decide) ?_
        have hof : s_off σ.1 (fun _ => false) 0 a = true := by unfold s_off; rw [← s_any_ear]; cases hz : s_any σ.1 (fun _ => false) 0 0 a (σ.1 3) <;> simp_all
        refine xt_iret .boolean dX12_does_93 rfl rfl ?_
        rw [he, show s_ask σ a = (true, (σ.1, s_ac σ.2 a true)) from by rw [s_ask, hof]]
        refine ⟨rfl, ⟨hS.cg (fun j h1 h2 => by simp only [x_u_eq]; rw [pk_un (by omega), pk_un (by omega)]) (fun a ha => by simp only [x_u_ne ha]), ⟨hm.2.1.1, hm.2.1.2.1, hm.2.1.2.2.1, ?_, ?_⟩, hm.2.2⟩, fun a ha _ _ _ => by simp only [x_u_ne ha], rfl, rfl⟩
        · show μ 152 32 ||| (1 : Int32) <<< (nI a &&& 31) = nI (σ.2 7 ||| 2 ^ a); rw [hm.2.1.2.2.2.1, x_1sh (by omega), nI_or]
        · show μ 152 33 ||| (1 : Int32) <<< (nI a &&& 31) = nI (σ.2 8 ||| 2 ^ a); rw [hm.2.1.2.2.2.2, x_1sh (by omega), nI_or]
    · have he : s_act σ 2 a b c = (false, σ) := by unfold s_act; simp [ha]
      refine xt_iload_n _ dX12_does_0 rfl ?_
      refine xt_if_ne 9 dX12_does_1 (by decide) (fun _ => ?_) (fun q => absurd q (by decide))
      refine xt_iload_n _ dX12_does_9 rfl ?_
      refine xt_iconst (1) dX12_does_10 (by decide) ?_
      refine xt_icmp_ne 19 dX12_does_11 (by decide) (fun _ => ?_) (fun q => absurd q (by decide))
      refine xt_aload_n _ dX12_does_19 rfl ?_
      refine xt_iload_n _ dX12_does_20 rfl ?_
      refine xt_cV _ dX12_does_21 klX12_303 (tX12_isGoer sc _ μ _ σ.1 h8 hS.1.2.2.2.1 _) sh152 rfl rfl (Nat.le_of_ble_eq_true rfl) ?_
      refine xt_if_ne 29 dX12_does_24 (by decide) (fun q => absurd (s_hasG_no (fun z => ha ((nI_ltI (by omega) (by omega)).mp z.2))) q) (fun _ => ?_)
      refine xt_iconst (0) dX12_does_27 (by decide) ?_
      exact xt_iret .boolean dX12_does_28 rfl (by first | rfl | assumption) (by rw [he]; exact ⟨rfl, hm, m_fr.rf μ⟩)
  · skip
    obtain ⟨rfl, ha7⟩ := hq3 (by decide)
    have hq4 := hq4 (by decide)
    rw [hq4.1, hq4.2.1]
    show x_T sc (d + 5) mX12_does 0 [.ref 152, .int (nI 3), .int (nI a), .int (nI b), .int (nI c)] [] μ w _
    by_cases ha : a < σ.1 4
    · have he : s_act σ 3 a b c = s_wlk σ a b c := by unfold s_act; simp [ha]
      refine xt_iload_n _ dX12_does_0 rfl ?_
      refine xt_if_ne 9 dX12_does_1 (by decide) (fun _ => ?_) (fun q => absurd q (by decide))
      refine xt_iload_n _ dX12_does_9 rfl ?_
      refine xt_iconst (1) dX12_does_10 (by decide) ?_
      refine xt_icmp_ne 19 dX12_does_11 (by decide) (fun _ => ?_) (fun q => absurd q (by decide))
      refine xt_aload_n _ dX12_does_19 rfl ?_
      refine xt_iload_n _ dX12_does_20 rfl ?_
      refine xt_cV _ dX12_does_21 klX12_303 (tX12_isGoer sc _ μ _ σ.1 h8 hS.1.2.2.2.1 _) sh152 rfl rfl (Nat.le_of_ble_eq_true rfl) ?_
      refine xt_if_ne 29 dX12_does_24 (by decide) (fun _ => ?_) (fun q => absurd q (by rw [s_hasG_yes ha h8]; decide))
      refine xt_iload_n _ dX12_does_29 rfl ?_
      refine xt_lookup (off := 64) 94 dX12_does_30 (by decide) (by decide) (by decide) ?_
      refine xt_aload_n _ dX12_does_94 rfl ?_
      refine xt_getr _ dX12_does_95 kfX12_41 (by first | exact sh152 | rfl | assumption) rfl ?_
      refine xt_iload_n _ dX12_does_98 rfl ?_
      refine xt_iload_n _ dX12_does_99 rfl ?_
      refine xt_ast dX12_does_100 (by first | exact sh152 | rfl | assumption) (by exact vp_in_nI (by omega) (by decide)) ?_
      refine xt_aload_n _ dX12_does_101 rfl ?_
      refine xt_getr _ dX12_does_102 kfX12_44 (by first | exact sh152 | rfl | assumption) rfl ?_
      refine xt_iload_n _ dX12_does_105 rfl ?_
      refine xt_iload _ dX12_does_106 rfl ?_
      refine xt_ast dX12_does_108 (by first | exact sh152 | rfl | assumption) (by exact vp_in_nI (by omega) (by decide)) ?_
      refine xt_iconst (1) dX12_does_109 (by decide) ?_
      refine xt_iret .boolean dX12_does_110 rfl rfl ?_
      rw [he, nI_clamp (by omega)]
      exact ⟨rfl, ⟨hS.place (by omega) hq4.2.2.2.1, hm.2.1, hm.2.2⟩, fun a _ h2 h3 _ => by rw [x_u_ne h3, x_u_ne h2], rfl, rfl⟩
    · have he : s_act σ 3 a b c = (false, σ) := by unfold s_act; simp [ha]
      refine xt_iload_n _ dX12_does_0 rfl ?_
      refine xt_if_ne 9 dX12_does_1 (by decide) (fun _ => ?_) (fun q => absurd q (by decide))
      refine xt_iload_n _ dX12_does_9 rfl ?_
      refine xt_iconst (1) dX12_does_10 (by decide) ?_
      refine xt_icmp_ne 19 dX12_does_11 (by decide) (fun _ => ?_) (fun q => absurd q (by decide))
      refine xt_aload_n _ dX12_does_19 rfl ?_
      refine xt_iload_n _ dX12_does_20 rfl ?_
      refine xt_cV _ dX12_does_21 klX12_303 (tX12_isGoer sc _ μ _ σ.1 h8 hS.1.2.2.2.1 _) sh152 rfl rfl (Nat.le_of_ble_eq_true rfl) ?_
      refine xt_if_ne 29 dX12_does_24 (by decide) (fun q => absurd (s_hasG_no (fun z => ha ((nI_ltI (by omega) (by omega)).mp z.2))) q) (fun _ => ?_)
      refine xt_iconst (0) dX12_does_27 (by decide) ?_
      exact xt_iret .boolean dX12_does_28 rfl (by first | rfl | assumption) (by rw [he]; exact ⟨rfl, hm, m_fr.rf μ⟩)
  · skip
    obtain ⟨rfl, ha7⟩ := hq3 (by decide)
    have hq4 := hq4 (by decide)
    rw [hq4.1, hq4.2.1]
    have hq5 := hq4.2.2.2.2 (by decide)
    show x_T sc (d + 5) mX12_does 0 [.ref 152, .int (nI 4), .int (nI a), .int (nI b), .int (nI c)] [] μ w _
    by_cases ha : a < σ.1 4
    · have he : s_act σ 4 a b c = s_mnd σ a b c := by unfold s_act; simp [ha]
      refine xt_iload_n _ dX12_does_0 rfl ?_
      refine xt_if_ne 9 dX12_does_1 (by decide) (fun _ => ?_) (fun q => absurd q (by decide))
      refine xt_iload_n _ dX12_does_9 rfl ?_
      refine xt_iconst (1) dX12_does_10 (by decide) ?_
      refine xt_icmp_ne 19 dX12_does_11 (by decide) (fun _ => ?_) (fun q => absurd q (by decide))
      refine xt_aload_n _ dX12_does_19 rfl ?_
      refine xt_iload_n _ dX12_does_20 rfl ?_
      refine xt_cV _ dX12_does_21 klX12_303 (tX12_isGoer sc _ μ _ σ.1 h8 hS.1.2.2.2.1 _) sh152 rfl rfl (Nat.le_of_ble_eq_true rfl) ?_
      refine xt_if_ne 29 dX12_does_24 (by decide) (fun _ => ?_) (fun q => absurd q (by rw [s_hasG_yes ha h8]; decide))
      refine xt_iload_n _ dX12_does_29 rfl ?_
      refine xt_lookup (off := 81) 111 dX12_does_30 (by decide) (by decide) (by decide) ?_
      refine xt_aload_n _ dX12_does_111 rfl ?_
      refine xt_bipush (6) dX12_does_112 (by decide) ?_
      refine xt_iload_n _ dX12_does_114 rfl ?_
      refine xt_imul dX12_does_115 ?_
      refine xt_iload_n _ dX12_does_116 rfl ?_
      refine xt_iadd dX12_does_117 ?_
      refine xt_iload_n _ dX12_does_118 rfl ?_
      refine xt_iconst (4) dX12_does_119 (by decide) ?_
      refine xt_icmp_ne 129 dX12_does_120 (by decide) (fun q => absurd (by decide) q) (fun _ => ?_)
      refine xt_iload _ dX12_does_123 rfl ?_
      refine xt_ineg dX12_does_125 ?_
      refine xt_goto 131 dX12_does_126 (by decide) ?_
      rw [show (6 : Int32) * nI a + nI b = nI (6 * a + b) by rw [show (6 : Int32) = nI 6 from rfl, pk_mul, nI_add]]
      refine xt_callV _ dX12_does_131 klX12_334 (tX12_changes_m sc _ μ w f σ hok hm a b c ha (by omega) hq4.2.2.2.1) sh152 rfl rfl (Nat.le_of_ble_eq_true rfl) (fun r2 μ2 w2 q2 => ?_)
      obtain ⟨rfl, q2⟩ := q2
      change x_T _ _ _ _ _ (.int _ :: _) _ _ _
      exact xt_iret .boolean dX12_does_134 rfl (by first | rfl | exact s_nar _ | assumption) (by rw [he]; exact ⟨rfl, q2⟩)
    · have he : s_act σ 4 a b c = (false, σ) := by unfold s_act; simp [ha]
      refine xt_iload_n _ dX12_does_0 rfl ?_
      refine xt_if_ne 9 dX12_does_1 (by decide) (fun _ => ?_) (fun q => absurd q (by decide))
      refine xt_iload_n _ dX12_does_9 rfl ?_
      refine xt_iconst (1) dX12_does_10 (by decide) ?_
      refine xt_icmp_ne 19 dX12_does_11 (by decide) (fun _ => ?_) (fun q => absurd q (by decide))
      refine xt_aload_n _ dX12_does_19 rfl ?_
      refine xt_iload_n _ dX12_does_20 rfl ?_
      refine xt_cV _ dX12_does_21 klX12_303 (tX12_isGoer sc _ μ _ σ.1 h8 hS.1.2.2.2.1 _) sh152 rfl rfl (Nat.le_of_ble_eq_true rfl) ?_
      refine xt_if_ne 29 dX12_does_24 (by decide) (fun q => absurd (s_hasG_no (fun z => ha ((nI_ltI (by omega) (by omega)).mp z.2))) q) (fun _ => ?_)
      refine xt_iconst (0) dX12_does_27 (by decide) ?_
      exact xt_iret .boolean dX12_does_28 rfl (by first | rfl | assumption) (by rw [he]; exact ⟨rfl, hm, m_fr.rf μ⟩)
  · skip
    obtain ⟨rfl, ha7⟩ := hq3 (by decide)
    have hq4 := hq4 (by decide)
    rw [hq4.1, hq4.2.1]
    have hq5 := hq4.2.2.2.2 (by decide)
    show x_T sc (d + 5) mX12_does 0 [.ref 152, .int (nI 5), .int (nI a), .int (nI b), .int (nI c)] [] μ w _
    by_cases ha : a < σ.1 4
    · have he : s_act σ 5 a b c = s_dow σ a b c := by unfold s_act; simp [ha]
      refine xt_iload_n _ dX12_does_0 rfl ?_
      refine xt_if_ne 9 dX12_does_1 (by decide) (fun _ => ?_) (fun q => absurd q (by decide))
      refine xt_iload_n _ dX12_does_9 rfl ?_
      refine xt_iconst (1) dX12_does_10 (by decide) ?_
      refine xt_icmp_ne 19 dX12_does_11 (by decide) (fun _ => ?_) (fun q => absurd q (by decide))
      refine xt_aload_n _ dX12_does_19 rfl ?_
      refine xt_iload_n _ dX12_does_20 rfl ?_
      refine xt_cV _ dX12_does_21 klX12_303 (tX12_isGoer sc _ μ _ σ.1 h8 hS.1.2.2.2.1 _) sh152 rfl rfl (Nat.le_of_ble_eq_true rfl) ?_
      refine xt_if_ne 29 dX12_does_24 (by decide) (fun _ => ?_) (fun q => absurd q (by rw [s_hasG_yes ha h8]; decide))
      refine xt_iload_n _ dX12_does_29 rfl ?_
      refine xt_lookup (off := 81) 111 dX12_does_30 (by decide) (by decide) (by decide) ?_
      refine xt_aload_n _ dX12_does_111 rfl ?_
      refine xt_bipush (6) dX12_does_112 (by decide) ?_
      refine xt_iload_n _ dX12_does_114 rfl ?_
      refine xt_imul dX12_does_115 ?_
      refine xt_iload_n _ dX12_does_116 rfl ?_
      refine xt_iadd dX12_does_117 ?_
      refine xt_iload_n _ dX12_does_118 rfl ?_
      refine xt_iconst (4) dX12_does_119 (by decide) ?_
      refine xt_icmp_ne 129 dX12_does_120 (by decide) (fun _ => ?_) (fun q => absurd q (by decide))
      refine xt_iload _ dX12_does_129 rfl ?_
      rw [show (6 : Int32) * nI a + nI b = nI (6 * a + b) by rw [show (6 : Int32) = nI 6 from rfl, pk_mul, nI_add]]
      refine xt_callV _ dX12_does_131 klX12_334 (tX12_changes_d sc _ μ w f σ hok hm a b c ha (by omega) hq4.2.2.2.1) sh152 rfl rfl (Nat.le_of_ble_eq_true rfl) (fun r2 μ2 w2 q2 => ?_)
      obtain ⟨rfl, q2⟩ := q2
      change x_T _ _ _ _ _ (.int _ :: _) _ _ _
      exact xt_iret .boolean dX12_does_134 rfl (by first | rfl | exact s_nar _ | assumption) (by rw [he]; exact ⟨rfl, q2⟩)
    · have he : s_act σ 5 a b c = (false, σ) := by unfold s_act; simp [ha]
      refine xt_iload_n _ dX12_does_0 rfl ?_
      refine xt_if_ne 9 dX12_does_1 (by decide) (fun _ => ?_) (fun q => absurd q (by decide))
      refine xt_iload_n _ dX12_does_9 rfl ?_
      refine xt_iconst (1) dX12_does_10 (by decide) ?_
      refine xt_icmp_ne 19 dX12_does_11 (by decide) (fun _ => ?_) (fun q => absurd q (by decide))
      refine xt_aload_n _ dX12_does_19 rfl ?_
      refine xt_iload_n _ dX12_does_20 rfl ?_
      refine xt_cV _ dX12_does_21 klX12_303 (tX12_isGoer sc _ μ _ σ.1 h8 hS.1.2.2.2.1 _) sh152 rfl rfl (Nat.le_of_ble_eq_true rfl) ?_
      refine xt_if_ne 29 dX12_does_24 (by decide) (fun q => absurd (s_hasG_no (fun z => ha ((nI_ltI (by omega) (by omega)).mp z.2))) q) (fun _ => ?_)
      refine xt_iconst (0) dX12_does_27 (by decide) ?_
      exact xt_iret .boolean dX12_does_28 rfl (by first | rfl | assumption) (by rw [he]; exact ⟨rfl, hm, m_fr.rf μ⟩)
set_option maxHeartbeats 1000000 in
theorem tX12_doesDeed (f : Nat) (σ : s_St) (hok : s_ok σ) (hm : m_St μ f σ) (fd n : Nat) (D : Nat → Int32) (hfd : fd < 2) (hWd : d_W n D) (hd : μ 152 40 = nI fd) (hM : d_M μ fd n D) (j : Nat) (hj : j < n) : x_K sc (d + 6) mX12_doesDeed [.ref 152, .int (nI j)] μ w (fun r μ' _ => r = some (.int (if (s_ad σ D j).1 then 1 else 0)) ∧ m_St μ' f (s_ad σ D j).2 ∧ m_fr μ μ') := by
  refine x_K.of (by decide) (Nat.le_of_ble_eq_true rfl) ?_
  show x_T sc (d + 6) mX12_doesDeed 0 [.ref 152, .int (nI j)] [] μ w _
  refine xt_aload_n _ dX12_doesDeed_0 rfl ?_
  refine xt_aload_n _ dX12_doesDeed_1 rfl ?_
  refine xt_iload_n _ dX12_doesDeed_2 rfl ?_
  refine xt_iconst (0) dX12_doesDeed_3 (by decide) ?_
  refine xt_cV _ dX12_doesDeed_4 klX12_319 (tX12_deedOf sc _ μ _ fd n D hfd hWd.1 hd hM j 0 hj (by decide)) sh152 rfl rfl (Nat.le_of_ble_eq_true rfl) ?_
  refine xt_aload_n _ dX12_doesDeed_7 rfl ?_
  refine xt_iload_n _ dX12_doesDeed_8 rfl ?_
  refine xt_iconst (1) dX12_doesDeed_9 (by decide) ?_
  refine xt_cV _ dX12_doesDeed_10 klX12_319 (tX12_deedOf sc _ μ _ fd n D hfd hWd.1 hd hM j 1 hj (by decide)) sh152 rfl rfl (Nat.le_of_ble_eq_true rfl) ?_
  refine xt_aload_n _ dX12_doesDeed_13 rfl ?_
  refine xt_iload_n _ dX12_doesDeed_14 rfl ?_
  refine xt_iconst (2) dX12_doesDeed_15 (by decide) ?_
  refine xt_cV _ dX12_doesDeed_16 klX12_319 (tX12_deedOf sc _ μ _ fd n D hfd hWd.1 hd hM j 2 hj (by decide)) sh152 rfl rfl (Nat.le_of_ble_eq_true rfl) ?_
  refine xt_aload_n _ dX12_doesDeed_19 rfl ?_
  refine xt_iload_n _ dX12_doesDeed_20 rfl ?_
  refine xt_iconst (3) dX12_doesDeed_21 (by decide) ?_
  refine xt_cV _ dX12_doesDeed_22 klX12_319 (tX12_deedOf sc _ μ _ fd n D hfd hWd.1 hd hM j 3 hj (by decide)) sh152 rfl rfl (Nat.le_of_ble_eq_true rfl) ?_
  refine xt_callV _ dX12_doesDeed_25 klX12_337 (tX12_does sc _ μ w f σ hok hm _ _ _ _ (s_dd D j 0) (s_dd D j 1) (s_dd D j 2) (s_dd D j 3) (s_dq hWd hj)) sh152 rfl rfl (Nat.le_of_ble_eq_true rfl) (fun r2 μ2 w2 q2 => ?_)
  obtain ⟨rfl, q2⟩ := q2
  change x_T _ _ _ _ _ (.int _ :: _) _ _ _
  exact xt_iret .boolean dX12_doesDeed_28 rfl (by first | rfl | exact s_nar _ | assumption) ⟨rfl, q2⟩
set_option maxHeartbeats 2000000 in
theorem tX12_play (f : Nat) (σ0 : s_St) (hok0 : s_ok σ0) (hm0 : m_St μ f σ0) (fd n : Nat) (D : Nat → Int32) (hfd : fd < 2) (hWd : d_W n D) (hd : μ 152 40 = nI fd) (hM : d_M μ fd n D) (N : Nat) (hN : N ≤ n) : x_K sc (d + 7) mX12_play [.ref 152, .int (nI N)] μ w (fun r μ' _ => r = some (.int (nI (s_go D N 0 σ0).1)) ∧ m_St μ' f (s_go D N 0 σ0).2 ∧ m_fr μ μ') := by
  have hn40 := hWd.1
  refine x_K.of (by decide) (Nat.le_of_ble_eq_true rfl) ?_
  show x_T sc (d + 7) mX12_play 0 [.ref 152, .int (nI N), .retAddr 0] [] μ w _
  refine xt_iconst (0) dX12_play_0 (by decide) ?_
  refine xt_istore_n dX12_play_1 (by decide) rfl ?_
  change x_T _ _ _ _ [_, _, _] _ _ _ _
  have L2 : ∀ (n2 m : Nat) (μ2 : x_Me) (w2 : Int64) (σ : s_St) (hok : s_ok σ) (hm : m_St μ2 f σ) (hf : m_fr μ μ2) (hR : s_go D n2 m σ = s_go D N 0 σ0), m + n2 = N → x_T sc (d + 7) mX12_play 2 [.ref 152, .int (nI N), .int (nI m)] [] μ2 w2 (fun r μ' _ => r = some (.int (nI (s_go D N 0 σ0).1)) ∧ m_St μ' f (s_go D N 0 σ0).2 ∧ m_fr μ μ') := by
    intro n2
    induction n2 with
    | zero =>
      intro m μ2 w2 σ hok hm hf hR hmn
      obtain rfl : N = m := by omega
      refine xt_iload_n _ dX12_play_2 rfl ?_
      refine xt_iload_n _ dX12_play_3 rfl ?_
      refine xt_icmp_ge 21 dX12_play_4 (by decide) (fun _ => ?_) (fun q => absurd (Int32.le_refl _) q)
      refine xt_iload_n _ dX12_play_21 rfl ?_
      exact xt_iret .int dX12_play_22 rfl (by first | rfl | assumption) ⟨by rw [← hR]; rfl, by rw [← hR]; exact hm, hf⟩
    | succ n2 ih2 =>
      intro m μ2 w2 σ hok hm hf hR hmn
      have hlt : m < N := by omega
      refine xt_iload_n _ dX12_play_2 rfl ?_
      refine xt_iload_n _ dX12_play_3 rfl ?_
      refine xt_icmp_ge 21 dX12_play_4 (by decide) (fun q => absurd q (nI_ge hlt (by omega))) (fun _ => ?_)
      refine xt_aload_n _ dX12_play_7 rfl ?_
      refine xt_iload_n _ dX12_play_8 rfl ?_
      refine xt_callV _ dX12_play_9 klX12_341 (tX12_doesDeed sc _ μ2 _ f σ hok hm fd n D hfd hWd (hf.2.1.trans hd) (fun i hi => by rw [hf.1 159 (by decide) (by decide) (by decide) (by decide)]; exact hM i hi) m (by omega)) sh152 rfl rfl (Nat.le_of_ble_eq_true rfl) (fun r3 μ3 w3 q3 => ?_)
      obtain ⟨rfl, hm3, hf3⟩ := q3
      change x_T _ _ _ _ _ (.int _ :: _) _ _ _
      refine xt_if_eq 21 dX12_play_12 (by decide) (fun t12 => ?_) (fun f12 => ?_)
      · refine xt_iload_n _ dX12_play_21 rfl ?_
        exact xt_iret .int dX12_play_22 rfl (by first | rfl | assumption) (by have hb : (s_ad σ D m).1 = false := (by cases hz : (s_ad σ D m).1 <;> simp_all); have hs2 : (s_ad σ D m).2 = σ := s_ad_no hb; rw [← hR, s_go, if_neg (by rw [hb]; decide)]; exact ⟨rfl, by rw [← hs2]; exact hm3, hf.tr hf3⟩)
      · refine xt_inc _ (1) dX12_play_15 rfl (by decide) (by decide) rfl ?_
        change x_T _ _ _ _ [_, _, _] _ _ _ _
        refine xt_goto 2 dX12_play_18 (by decide) ?_
        have hb : (s_ad σ D m).1 = true := by cases hz : (s_ad σ D m).1 <;> simp_all
        refine x_T.ls (by rw [nI_succ m]) (ih2 (m + 1) μ3 w3 (s_ad σ D m).2 (s_ad_ok hWd (by omega) hok) hm3 (hf.tr hf3) (by rw [← hR, s_go, if_pos hb]) (by omega))
  exact L2 N 0 μ w σ0 hok0 hm0 (m_fr.rf μ) rfl (by omega)
set_option maxHeartbeats 4000000 in
/-- a fair is taken in hand -/
theorem tX12_hand2 (f c : Nat) (F : Nat → Nat) (hf : f < c) (hc : c ≤ 2) (e : μ 157 0 = nI c) (hF : ∀ i, i < 125 → μ 158 (125 * f + i) = nI (F i)) : x_K sc (d + 2) mX12_hand [.ref 152, .int (nI f)] μ w (fun r μ' w' => r = some (.int 1) ∧ w' = w ∧ m_S μ' f F ∧ (m_0 μ' ∧ μ' 152 40 = μ 152 40) ∧ ∀ a, a ≠ 152 → a ≠ 163 → a ≠ 164 → a ≠ 165 → μ' a = μ a) := by
  have hf2 : f < 2 := by omega
  have e0 : ¬ (if nI f < 0 then 0 else if nI f < nI c then 1 else 0 : Int32) = 0 := by
    rw [if_neg (nI_pos (by omega)), if_pos (nI_lt hf (by omega))]; decide
  have L155 : ∀ (n m : Nat) (μ1 : x_Me), m + n = 48 → ((∀ a, a ≠ 152 → a ≠ 163 → a ≠ 164 → a ≠ 165 → μ1 a = μ a) ∧ m_sc μ1 f F ∧ (m_0 μ1 ∧ μ1 152 40 = μ 152 40) ∧ (∀ g, g < 8 → μ1 163 g = nI (F (25 + g)) ∧ μ1 164 g = nI (F (33 + g))) ∧ ∀ i, i < m → μ1 165 i = nI (F (41 + i))) → x_T sc (d + 2) mX12_hand 155 [.ref 152, .int (nI f), .int (nI m)] [] μ1 w (fun r μ' w' => r = some (.int 1) ∧ w' = w ∧ m_S μ' f F ∧ (m_0 μ' ∧ μ' 152 40 = μ 152 40) ∧ ∀ a, a ≠ 152 → a ≠ 163 → a ≠ 164 → a ≠ 165 → μ' a = μ a) := by
    intro n
    induction n with
    | zero =>
      intro m μ1 hmn hJ
      obtain rfl : m = 48 := by omega
      obtain ⟨hfr, hsc, h0, hgs, his⟩ := hJ
      refine xt_iload_n _ dX12_hand_155 rfl ?_
      refine xt_bipush (48) dX12_hand_156 (by decide) ?_
      refine xt_icmp_ge 181 dX12_hand_158 (by decide) (fun _ => ?_) (fun q => absurd (by decide) q)
      refine xt_iconst (1) dX12_hand_181 (by decide) ?_
      exact xt_iret .boolean dX12_hand_182 rfl (by first | rfl | assumption) ⟨rfl, rfl, ⟨⟨hf2, hsc⟩, hgs, his, fun i h1 h2 => by rw [hfr 158 (by decide) (by decide) (by decide) (by decide)]; exact hF i h1⟩, h0, hfr⟩
    | succ n ih =>
      intro m μ1 hmn hJ
      have hlt : m < 48 := by omega
      obtain ⟨hfr, hsc, h0, hgs, his⟩ := hJ
      refine xt_iload_n _ dX12_hand_155 rfl ?_
      refine xt_bipush (48) dX12_hand_156 (by decide) ?_
      refine xt_icmp_ge 181 dX12_hand_158 (by decide) (fun q => absurd q (nI_ge (b := 48) hlt (by decide))) (fun _ => ?_)
      refine xt_aload_n _ dX12_hand_161 rfl ?_
      refine xt_getr _ dX12_hand_162 kfX12_47 (by first | exact sh152 | rfl | assumption) rfl ?_
      refine xt_iload_n _ dX12_hand_165 rfl ?_
      refine xt_aload_n _ dX12_hand_166 rfl ?_
      refine xt_bipush (41) dX12_hand_167 (by decide) ?_
      refine xt_iload_n _ dX12_hand_169 rfl ?_
      refine xt_iadd dX12_hand_170 ?_
      rw [show (41 : Int32) + nI m = nI (41 + m) from nI_add 41 m]
      refine xt_cV _ dX12_hand_171 klX12_244 (tX12_of sc _ _ w f (41 + m) (by omega) (by omega) hsc.1) sh152 rfl rfl (Nat.le_of_ble_eq_true rfl) ?_
      refine xt_ast dX12_hand_174 (by first | exact sh152 | rfl | assumption) (by first | exact vp_in_nI (by omega) (by decide)) ?_
      refine xt_inc _ (1) dX12_hand_175 rfl (by decide) (by decide) rfl ?_
      change x_T _ _ _ _ [_, _, _] _ _ _ _
      refine xt_goto 155 dX12_hand_178 (by decide) ?_
      refine x_T.ls (by rw [nI_succ m]) (ih (m + 1) _ (by omega) ⟨?_, ?_, ?_, ?_, ?_⟩)
      · intro a h1 h2 h3 h4; rw [x_u_ne h4]; exact hfr a h1 h2 h3 h4
      · exact hsc
      · exact h0
      · exact hgs
      · intro i hi
        have e2 : μ1 158 = μ 158 := hfr 158 (by decide) (by decide) (by decide) (by decide)
        rw [e2, nI_clamp (by omega), hF _ (by omega), x_u_eq]
        by_cases him : i = m
        · subst him; simp [upd]
        · have := his i (by omega); simp [upd, him, this]
  have L113 : ∀ (n m : Nat) (μ1 : x_Me), m + n = 8 → ((∀ a, a ≠ 152 → a ≠ 163 → a ≠ 164 → μ1 a = μ a) ∧ m_sc μ1 f F ∧ (m_0 μ1 ∧ μ1 152 40 = μ 152 40) ∧ ∀ g, g < m → μ1 163 g = nI (F (25 + g)) ∧ μ1 164 g = nI (F (33 + g))) → x_T sc (d + 2) mX12_hand 113 [.ref 152, .int (nI f), .int (nI m)] [] μ1 w (fun r μ' w' => r = some (.int 1) ∧ w' = w ∧ m_S μ' f F ∧ (m_0 μ' ∧ μ' 152 40 = μ 152 40) ∧ ∀ a, a ≠ 152 → a ≠ 163 → a ≠ 164 → a ≠ 165 → μ' a = μ a) := by
    intro n
    induction n with
    | zero =>
      intro m μ1 hmn hJ
      obtain rfl : m = 8 := by omega
      obtain ⟨hfr, hsc, h0, hgs⟩ := hJ
      refine xt_iload_n _ dX12_hand_113 rfl ?_
      refine xt_bipush (8) dX12_hand_114 (by decide) ?_
      refine xt_icmp_ge 153 dX12_hand_116 (by decide) (fun _ => ?_) (fun q => absurd (by decide) q)
      refine xt_iconst (0) dX12_hand_153 (by decide) ?_
      refine xt_istore_n dX12_hand_154 (by decide) rfl ?_
      change x_T _ _ _ _ [_, _, _] _ _ _ _
      exact L155 48 0 _ (by omega) ⟨fun a h1 h2 h3 _ => hfr a h1 h2 h3, hsc, h0, hgs, fun i h => absurd h (by omega)⟩
    | succ n ih =>
      intro m μ1 hmn hJ
      have hlt : m < 8 := by omega
      obtain ⟨hfr, hsc, h0, hgs⟩ := hJ
      refine xt_iload_n _ dX12_hand_113 rfl ?_
      refine xt_bipush (8) dX12_hand_114 (by decide) ?_
      refine xt_icmp_ge 153 dX12_hand_116 (by decide) (fun q => absurd q (nI_ge (b := 8) hlt (by decide))) (fun _ => ?_)
      refine xt_aload_n _ dX12_hand_119 rfl ?_
      refine xt_getr _ dX12_hand_120 kfX12_41 (by first | exact sh152 | rfl | assumption) rfl ?_
      refine xt_iload_n _ dX12_hand_123 rfl ?_
      refine xt_aload_n _ dX12_hand_124 rfl ?_
      refine xt_bipush (25) dX12_hand_125 (by decide) ?_
      refine xt_iload_n _ dX12_hand_127 rfl ?_
      refine xt_iadd dX12_hand_128 ?_
      rw [show (25 : Int32) + nI m = nI (25 + m) from nI_add 25 m]
      refine xt_cV _ dX12_hand_129 klX12_244 (tX12_of sc _ _ w f (25 + m) (by omega) (by omega) hsc.1) sh152 rfl rfl (Nat.le_of_ble_eq_true rfl) ?_
      refine xt_ast dX12_hand_132 (by first | exact sh152 | rfl | assumption) (by first | exact vp_in_nI (by omega) (by decide)) ?_
      refine xt_aload_n _ dX12_hand_133 rfl ?_
      refine xt_getr _ dX12_hand_134 kfX12_44 (by first | exact sh152 | rfl | assumption) rfl ?_
      refine xt_iload_n _ dX12_hand_137 rfl ?_
      refine xt_aload_n _ dX12_hand_138 rfl ?_
      refine xt_bipush (33) dX12_hand_139 (by decide) ?_
      refine xt_iload_n _ dX12_hand_141 rfl ?_
      refine xt_iadd dX12_hand_142 ?_
      rw [show (33 : Int32) + nI m = nI (33 + m) from nI_add 33 m]
      refine xt_cV _ dX12_hand_143 klX12_244 (tX12_of sc _ _ w f (33 + m) (by omega) (by omega) hsc.1) sh152 rfl rfl (Nat.le_of_ble_eq_true rfl) ?_
      refine xt_ast dX12_hand_146 (by first | exact sh152 | rfl | assumption) (by first | exact vp_in_nI (by omega) (by decide)) ?_
      refine xt_inc _ (1) dX12_hand_147 rfl (by decide) (by decide) rfl ?_
      change x_T _ _ _ _ [_, _, _] _ _ _ _
      refine xt_goto 113 dX12_hand_150 (by decide) ?_
      refine x_T.ls (by rw [nI_succ m]) (ih (m + 1) _ (by omega) ⟨?_, ?_, ?_, ?_⟩)
      · intro a h1 h2 h3; rw [x_u_ne h3, x_u_ne h2]; exact hfr a h1 h2 h3
      · exact hsc
      · exact h0
      · intro g hg
        have e1 : x_u μ1 163 (upd (μ1 163) (nI m).toNatClampNeg (μ1 158 (125 * f + (25 + m)))) 158 = μ 158 := hfr 158 (by decide) (by decide) (by decide)
        have e2 : μ1 158 = μ 158 := hfr 158 (by decide) (by decide) (by decide)
        rw [e1, e2, nI_clamp (by omega), hF _ (by omega), hF _ (by omega), x_u_ne (by decide), x_u_eq, x_u_eq, x_u_ne (by decide)]
        by_cases hgm : g = m
        · subst hgm; simp [upd]
        · have := hgs g (by omega); simp [upd, hgm, this]
  refine x_K.of (by decide) (Nat.le_of_ble_eq_true rfl) ?_
  show x_T sc (d + 2) mX12_hand 0 [.ref 152, .int (nI f), .retAddr 0] [] μ w _
  refine xt_aload_n _ dX12_hand_0 rfl ?_
  refine xt_iconst (0) dX12_hand_1 (by decide) ?_
  refine xt_iload_n _ dX12_hand_2 rfl ?_
  refine xt_cV _ dX12_hand_3 klX12_231 (tX12_is sc _ _ w 0 c (by decide) (by omega) e _) sh152 rfl rfl (Nat.le_of_ble_eq_true rfl) ?_
  refine xt_if_ne 11 dX12_hand_6 (by decide) (fun _ => ?_) (fun q => absurd q e0)
  refine xt_aload_n _ dX12_hand_11 rfl ?_
  refine xt_iload_n _ dX12_hand_12 rfl ?_
  refine xt_puti dX12_hand_13 kpX12_241 (by first | exact sh152 | rfl | assumption) rfl (by first | rfl | assumption) (by first | rfl | assumption) ?_
  refine xt_aload_n _ dX12_hand_16 rfl ?_
  refine xt_aload_n _ dX12_hand_17 rfl ?_
  refine xt_iconst (3) dX12_hand_18 (by decide) ?_
  refine xt_cV _ dX12_hand_19 klX12_244 (tX12_of sc _ _ w f 3 (by omega) (by decide) rfl) sh152 rfl rfl (Nat.le_of_ble_eq_true rfl) ?_
  refine xt_puti dX12_hand_22 kpX12_248 (by first | exact sh152 | rfl | assumption) rfl (by first | rfl | assumption) (by first | rfl | assumption) ?_
  refine xt_aload_n _ dX12_hand_25 rfl ?_
  refine xt_aload_n _ dX12_hand_26 rfl ?_
  refine xt_iconst (4) dX12_hand_27 (by decide) ?_
  refine xt_cV _ dX12_hand_28 klX12_244 (tX12_of sc _ _ w f 4 (by omega) (by decide) rfl) sh152 rfl rfl (Nat.le_of_ble_eq_true rfl) ?_
  refine xt_puti dX12_hand_31 kpX12_251 (by first | exact sh152 | rfl | assumption) rfl (by first | rfl | assumption) (by first | rfl | assumption) ?_
  refine xt_aload_n _ dX12_hand_34 rfl ?_
  refine xt_aload_n _ dX12_hand_35 rfl ?_
  refine xt_bipush (6) dX12_hand_36 (by decide) ?_
  refine xt_cV _ dX12_hand_38 klX12_244 (tX12_of sc _ _ w f 6 (by omega) (by decide) rfl) sh152 rfl rfl (Nat.le_of_ble_eq_true rfl) ?_
  refine xt_puti dX12_hand_41 kpX12_254 (by first | exact sh152 | rfl | assumption) rfl (by first | rfl | assumption) (by first | rfl | assumption) ?_
  refine xt_aload_n _ dX12_hand_44 rfl ?_
  refine xt_aload_n _ dX12_hand_45 rfl ?_
  refine xt_iconst (0) dX12_hand_46 (by decide) ?_
  refine xt_cV _ dX12_hand_47 klX12_244 (tX12_of sc _ _ w f 0 (by omega) (by decide) rfl) sh152 rfl rfl (Nat.le_of_ble_eq_true rfl) ?_
  refine xt_puti dX12_hand_50 kpX12_257 (by first | exact sh152 | rfl | assumption) rfl (by first | rfl | assumption) (by first | rfl | assumption) ?_
  refine xt_aload_n _ dX12_hand_53 rfl ?_
  refine xt_aload_n _ dX12_hand_54 rfl ?_
  refine xt_iconst (1) dX12_hand_55 (by decide) ?_
  refine xt_cV _ dX12_hand_56 klX12_244 (tX12_of sc _ _ w f 1 (by omega) (by decide) rfl) sh152 rfl rfl (Nat.le_of_ble_eq_true rfl) ?_
  refine xt_puti dX12_hand_59 kpX12_260 (by first | exact sh152 | rfl | assumption) rfl (by first | rfl | assumption) (by first | rfl | assumption) ?_
  refine xt_aload_n _ dX12_hand_62 rfl ?_
  refine xt_aload_n _ dX12_hand_63 rfl ?_
  refine xt_iconst (2) dX12_hand_64 (by decide) ?_
  refine xt_cV _ dX12_hand_65 klX12_244 (tX12_of sc _ _ w f 2 (by omega) (by decide) rfl) sh152 rfl rfl (Nat.le_of_ble_eq_true rfl) ?_
  refine xt_puti dX12_hand_68 kpX12_263 (by first | exact sh152 | rfl | assumption) rfl (by first | rfl | assumption) (by first | rfl | assumption) ?_
  refine xt_aload_n _ dX12_hand_71 rfl ?_
  refine xt_iconst (0) dX12_hand_72 (by decide) ?_
  refine xt_puti dX12_hand_73 kpX12_266 (by first | exact sh152 | rfl | assumption) rfl (by first | rfl | assumption) (by first | rfl | assumption) ?_
  refine xt_aload_n _ dX12_hand_76 rfl ?_
  refine xt_iconst (0) dX12_hand_77 (by decide) ?_
  refine xt_puti dX12_hand_78 kpX12_269 (by first | exact sh152 | rfl | assumption) rfl (by first | rfl | assumption) (by first | rfl | assumption) ?_
  refine xt_aload_n _ dX12_hand_81 rfl ?_
  refine xt_iconst (-1) dX12_hand_82 (by decide) ?_
  refine xt_puti dX12_hand_83 kpX12_272 (by first | exact sh152 | rfl | assumption) rfl (by first | rfl | assumption) (by first | rfl | assumption) ?_
  refine xt_aload_n _ dX12_hand_86 rfl ?_
  refine xt_iconst (0) dX12_hand_87 (by decide) ?_
  refine xt_puti dX12_hand_88 kpX12_275 (by first | exact sh152 | rfl | assumption) rfl (by first | rfl | assumption) (by first | rfl | assumption) ?_
  refine xt_aload_n _ dX12_hand_91 rfl ?_
  refine xt_iconst (0) dX12_hand_92 (by decide) ?_
  refine xt_puti dX12_hand_93 kpX12_278 (by first | exact sh152 | rfl | assumption) rfl (by first | rfl | assumption) (by first | rfl | assumption) ?_
  refine xt_aload_n _ dX12_hand_96 rfl ?_
  refine xt_iconst (0) dX12_hand_97 (by decide) ?_
  refine xt_puti dX12_hand_98 kpX12_281 (by first | exact sh152 | rfl | assumption) rfl (by first | rfl | assumption) (by first | rfl | assumption) ?_
  refine xt_aload_n _ dX12_hand_101 rfl ?_
  refine xt_iconst (0) dX12_hand_102 (by decide) ?_
  refine xt_puti dX12_hand_103 kpX12_284 (by first | exact sh152 | rfl | assumption) rfl (by first | rfl | assumption) (by first | rfl | assumption) ?_
  refine xt_aload_n _ dX12_hand_106 rfl ?_
  refine xt_iconst (0) dX12_hand_107 (by decide) ?_
  refine xt_puti dX12_hand_108 kpX12_287 (by first | exact sh152 | rfl | assumption) rfl (by first | rfl | assumption) (by first | rfl | assumption) ?_
  refine xt_iconst (0) dX12_hand_111 (by decide) ?_
  refine xt_istore_n dX12_hand_112 (by decide) rfl ?_
  change x_T _ _ _ _ [_, _, _] _ _ _ _
  refine L113 8 0 _ (by omega) ⟨?_, ?_, ?_, fun g h => absurd h (by omega)⟩
  · intro a h1 h2 h3; simp only [x_u, if_neg h1]
  · exact ⟨rfl, hF 3 (by decide), hF 4 (by decide), hF 6 (by decide), hF 0 (by decide), hF 1 (by decide), hF 2 (by decide)⟩
  · exact ⟨⟨rfl, rfl, rfl, rfl, rfl, rfl, rfl, rfl⟩, rfl⟩
set_option maxHeartbeats 1000000 in
theorem tX12_layAll_no (cf cd : Nat) (hcf : cf ≤ 2) (hcd : cd ≤ 2) (e0 : μ 157 0 = nI cf) (e1 : μ 157 1 = nI cd) (a1 a2 : Int32) (hk : ¬ ((0 ≤ a1 ∧ a1 < nI cf) ∧ (0 ≤ a2 ∧ a2 < nI cd))) : x_D sc (d + 3) mX12_layAll [.ref 152, .int a1, .int a2] μ w (some (.int 0)) (x_u μ 152 (upd (μ 152) 40 a2)) w := by
  refine x_D.of (by decide) (Nat.le_of_ble_eq_true rfl) ?_
  show x_T sc (d + 3) mX12_layAll 0 [.ref 152, .int a1, .int a2] [] μ w _
  by_cases hd : 0 ≤ a2 ∧ a2 < nI cd
  · obtain ⟨fd, hfd31, rfl⟩ := nI_of (Int32.not_lt.mpr hd.1)
    have hfd : fd < cd := (nI_ltI hfd31 (by omega)).mp hd.2
    have hf : ¬ (0 ≤ a1 ∧ a1 < nI cf) := fun z => hk ⟨z, hd⟩
    refine xt_aload_n _ dX12_layAll_0 rfl ?_
    refine xt_iload_n _ dX12_layAll_1 rfl ?_
    refine xt_cV _ dX12_layAll_2 klX12_313 (tX12_hasDay_yes sc _ μ w fd cd hfd hcd e1) sh152 rfl rfl (Nat.le_of_ble_eq_true rfl) ?_
    refine xt_if_eq 20 dX12_layAll_5 (by decide) (fun q => absurd q (by decide)) (fun _ => ?_)
    refine xt_aload_n _ dX12_layAll_8 rfl ?_
    refine xt_iload_n _ dX12_layAll_9 rfl ?_
    refine xt_cV _ dX12_layAll_10 klX12_300 (tX12_hand_no sc _ (x_u μ 152 (upd (μ 152) 40 (nI fd))) w cf hcf e0 a1 hf) sh152 rfl rfl (Nat.le_of_ble_eq_true rfl) ?_
    refine xt_if_eq 20 dX12_layAll_13 (by decide) (fun _ => ?_) (fun q => absurd (by decide) q)
    refine xt_iconst (0) dX12_layAll_20 (by decide) ?_
    exact xt_iret .boolean dX12_layAll_21 rfl (by first | rfl | assumption) ⟨rfl, rfl, rfl⟩
  · skip
    refine xt_aload_n _ dX12_layAll_0 rfl ?_
    refine xt_iload_n _ dX12_layAll_1 rfl ?_
    refine xt_cV _ dX12_layAll_2 klX12_313 (tX12_hasDay_no sc _ μ w cd hcd a2 hd e1) sh152 rfl rfl (Nat.le_of_ble_eq_true rfl) ?_
    refine xt_if_eq 20 dX12_layAll_5 (by decide) (fun _ => ?_) (fun q => absurd (by decide) q)
    refine xt_iconst (0) dX12_layAll_20 (by decide) ?_
    exact xt_iret .boolean dX12_layAll_21 rfl (by first | rfl | assumption) ⟨rfl, rfl, rfl⟩
set_option maxHeartbeats 1000000 in
theorem tX12_layAll (f cf fd cd : Nat) (F : Nat → Nat) (hf : f < cf) (hcf : cf ≤ 2) (hfd : fd < cd) (hcd : cd ≤ 2) (e0 : μ 157 0 = nI cf) (e1 : μ 157 1 = nI cd) (hF : ∀ i, i < 125 → μ 158 (125 * f + i) = nI (F i)) : x_K sc (d + 3) mX12_layAll [.ref 152, .int (nI f), .int (nI fd)] μ w (fun r μ' _ => r = some (.int 1) ∧ m_St μ' f (F, s_c0) ∧ μ' 152 40 = nI fd ∧ ∀ a, a ≠ 152 → a ≠ 163 → a ≠ 164 → a ≠ 165 → μ' a = μ a) := by
  refine x_K.of (by decide) (Nat.le_of_ble_eq_true rfl) ?_
  show x_T sc (d + 3) mX12_layAll 0 [.ref 152, .int (nI f), .int (nI fd)] [] μ w _
  refine xt_aload_n _ dX12_layAll_0 rfl ?_
  refine xt_iload_n _ dX12_layAll_1 rfl ?_
  refine xt_cV _ dX12_layAll_2 klX12_313 (tX12_hasDay_yes sc _ μ w fd cd hfd hcd e1) sh152 rfl rfl (Nat.le_of_ble_eq_true rfl) ?_
  refine xt_if_eq 20 dX12_layAll_5 (by decide) (fun q => absurd q (by decide)) (fun _ => ?_)
  refine xt_aload_n _ dX12_layAll_8 rfl ?_
  refine xt_iload_n _ dX12_layAll_9 rfl ?_
  refine xt_callV _ dX12_layAll_10 klX12_300 (tX12_hand2 sc _ (x_u μ 152 (upd (μ 152) 40 (nI fd))) w f cf F hf hcf e0 hF) sh152 rfl rfl (Nat.le_of_ble_eq_true rfl) (fun r1 μ1 w1 q1 => ?_)
  obtain ⟨rfl, rfl, hS, h0, hfr⟩ := q1
  change x_T _ _ _ _ _ (.int 1 :: _) _ _ _
  refine xt_if_eq 20 dX12_layAll_13 (by decide) (fun q => absurd q (by decide)) (fun _ => ?_)
  refine xt_iconst (1) dX12_layAll_16 (by decide) ?_
  refine xt_goto 21 dX12_layAll_17 (by decide) ?_
  exact xt_iret .boolean dX12_layAll_21 rfl (by first | rfl | assumption) ⟨rfl, ⟨hS, ⟨h0.1.1, h0.1.2.1, h0.1.2.2.1, h0.1.2.2.2.1, h0.1.2.2.2.2.1⟩, h0.1.2.2.2.2.2⟩, h0.2, fun a h1 h2 h3 h4 => by rw [hfr a h1 h2 h3 h4, x_u_ne h1]⟩
end STAGEM
