/-! the step of walk -/
/-- a FAIR with a GOER moved -/
def s_mg (F : Nat → Nat) (g p : Nat) : Nat → Nat := fun i => if i = 25 + g then p / 10 else if i = 33 + g then p % 10 else F i
theorem s_mg_2 (F : Nat → Nat) (g p : Nat) {i : Nat} (h : i ≠ 25 + g) (h2 : i ≠ 33 + g) : s_mg F g p i = F i := by rw [s_mg, if_neg h, if_neg h2]
theorem s_mg_x (F : Nat → Nat) (g p : Nat) : s_mg F g p (25 + g) = p / 10 := by rw [s_mg, if_pos rfl]
theorem s_mg_y (F : Nat → Nat) (g p : Nat) : s_mg F g p (33 + g) = p % 10 := by rw [s_mg, if_neg (by omega), if_pos rfl]
theorem s_mg_W {F : Nat → Nat} (hW : f_W F) {g p : Nat} (hg : g < 8) (hp : p < 100) : f_W (s_mg F g p) := by
  obtain ⟨⟨h0, h1, h2, h3, h4, h5, h6⟩, a, b, c, e, q⟩ := hW
  have k : ∀ {i : Nat}, i < 25 ∨ 41 ≤ i → s_mg F g p i = F i := fun h => s_mg_2 F g p (by omega) (by omega)
  refine ⟨⟨by rw [k (by omega)]; exact h0, by rw [k (by omega)]; exact h1, by rw [k (by decide)]; exact h2, by rw [k (by decide)]; exact h3, by rw [k (by decide)]; exact h4, by rw [k (by decide)]; exact h5, by rw [k (by decide)]; exact h6⟩, ?_, ?_, ?_, ?_, ?_⟩
  · intro m hm; rw [k (by decide)] at hm; rw [k (by omega), k (by omega), k (by omega)]; exact a m hm
  · intro m hm; rw [k (by decide)] at hm
    have := b m hm
    unfold s_mg
    constructor
    · split
      · omega
      · split <;> omega
    · split
      · omega
      · split <;> omega
  · intro m hm; rw [k (by omega)]; exact c m hm
  · intro m hm; rw [k (by decide)] at hm; rw [k (by omega), k (by omega)]; exact e m hm
  · intro m hm; rw [k (by decide)] at hm; rw [k (by omega), k (by omega), k (by omega), k (by omega)]; exact q m hm
theorem s_mg_farO {F : Nat → Nat} {g p : Nat} : s_farO (s_mg F g p) g = s_farS F (p / 10) (p % 10) := by
  unfold s_farO s_farS
  rw [s_mg_x, s_mg_y, s_mg_2 F g p (i := 0) (by omega) (by omega), s_mg_2 F g p (i := 1) (by omega) (by omega)]
theorem s_mg_any {F : Nat → Nat} (hW : f_W F) {g p : Nat} (hg : g < 8) : s_any (s_mg F g p) (fun _ => false) 0 0 g (s_mg F g p 3) = decide (s_farS F (p / 10) (p % 10) < s_e F g) := by
  rw [s_any_ear, s_mg_farO, s_mg_2 F g p (i := 3) (by omega) (by omega), s_ear_cg (F := F) (fun i hi => s_mg_2 F g p (by omega) (by omega)) _ _ _ _ hW.1.2.2.2.1]
theorem m_S.goer {μ : x_Me} {f : Nat} {G F : Nat → Nat} (hS : m_S μ f G) {g : Nat} (hg : g < 8) (h : ∀ i, i ≠ 25 + g → i ≠ 33 + g → G i = F i) (p : Nat) : m_S (x_u (x_u μ 163 (upd (μ 163) g (nI (p / 10)))) 164 (upd (x_u μ 163 (upd (μ 163) g (nI (p / 10))) 164) g (nI (p % 10)))) f (s_mg F g p) := by
  obtain ⟨⟨a1, a2, a3, a4, a5, a6, a7, a8⟩, b, c, e⟩ := hS
  have k : ∀ {i : Nat}, i < 25 ∨ 41 ≤ i → s_mg F g p i = G i := fun z => by rw [s_mg_2 F g p (by omega) (by omega), h _ (by omega) (by omega)]
  refine ⟨⟨a1, a2, by rw [k (by decide)]; exact a3, by rw [k (by decide)]; exact a4, by rw [k (by decide)]; exact a5, by rw [k (by decide)]; exact a6, by rw [k (by decide)]; exact a7, by rw [k (by decide)]; exact a8⟩, ?_, ?_, ?_⟩
  · intro j hj
    have hb := b j hj
    rw [x_u_ne (show 163 ≠ 164 by decide), x_u_eq, x_u_eq, x_u_ne (show 164 ≠ 163 by decide)]
    by_cases hjg : j = g
    · subst hjg; rw [pk_us, pk_us, s_mg_x, s_mg_y]; exact ⟨rfl, rfl⟩
    · rw [pk_un hjg, pk_un hjg, s_mg_2 F g p (by omega) (by omega), s_mg_2 F g p (by omega) (by omega), ← h _ (by omega) (by omega), ← h _ (by omega) (by omega)]; exact hb
  · intro i hi; rw [k (by omega)]; exact c i hi
  · intro i hi h2; rw [k (by omega)]; exact e i hi h2
def m_mg (μ1 μ2 : x_Me) (f : Nat) (F : Nat → Nat) (g : Nat) : Prop := (∃ G, m_S μ2 f G ∧ ∀ i, i ≠ 25 + g → i ≠ 33 + g → G i = F i) ∧ (μ2 152 34 = 0 ∧ μ2 152 35 = 0 ∧ μ2 152 36 = 0) ∧ ∀ a, a ≠ 163 → a ≠ 164 → μ2 a = μ1 a
set_option maxHeartbeats 2000000 in
theorem st_walk (sc : Nat × (Nat → Int32)) (a1 a2 u : Int32) : x_stI sc (fun μ _ => x_Inv μ) (fun μ _ => x_Inv μ) mX11_walk mX12_walk [.int a1, .int a2, .int u] := by
  refine x_stF (-1) ?_ ?_ ?_
  · intro μ w c hc e hk
    refine x_K.of (by decide) (Nat.le_of_ble_eq_true rfl) ?_
    show x_T sc 29 mX11_walk 0 [.ref 0, .int a1, .int a2, .int u, .retAddr 0, .retAddr 0] [] μ w _
    refine xt_aload_n _ dX11_walk_0 rfl ?_
    refine xt_iload_n _ dX11_walk_1 rfl ?_
    refine xt_cV _ dX11_walk_2 klX11_90 (tX11_fairOf_no sc _ μ w c hc e _ hk) sh0 rfl rfl (Nat.le_of_ble_eq_true rfl) ?_
    refine xt_astore0 dX11_walk_5 (by decide) rfl ?_
    change x_T _ _ _ _ [_, _, _, _, _, _] _ _ _ _
    refine xt_aload0 dX11_walk_7 rfl ?_
    refine xt_ifnull_n 21 dX11_walk_9 (by decide) ?_
    refine xt_iconst (-1) dX11_walk_21 (by decide) ?_
    exact xt_iret .int dX11_walk_22 rfl (by first | rfl | assumption) ⟨rfl, x_keep.rf μ⟩
  · intro μ w c hc e hk
    refine x_K.of (by decide) (Nat.le_of_ble_eq_true rfl) ?_
    show x_T sc 29 mX12_walk 0 [.ref 152, .int a1, .int a2, .int u, .retAddr 0, .retAddr 0, .retAddr 0, .retAddr 0, .retAddr 0, .retAddr 0] [] μ w _
    refine xt_aload_n _ dX12_walk_0 rfl ?_
    refine xt_iconst (0) dX12_walk_1 (by decide) ?_
    refine xt_puti dX12_walk_2 kpX12_72 (by first | exact sh152 | rfl | assumption) rfl (by first | rfl | assumption) (by first | rfl | assumption) ?_
    refine xt_aload_n _ dX12_walk_5 rfl ?_
    refine xt_iload_n _ dX12_walk_6 rfl ?_
    refine xt_cV _ dX12_walk_7 klX12_300 (tX12_hand_no sc _ (x_u μ 152 (upd (μ 152) 0 0)) w c hc e _ hk) sh152 rfl rfl (Nat.le_of_ble_eq_true rfl) ?_
    refine xt_if_eq 21 dX12_walk_10 (by decide) (fun _ => ?_) (fun q => absurd (by decide) q)
    refine xt_iconst (-1) dX12_walk_21 (by decide) ?_
    exact xt_iret .int dX12_walk_22 rfl (by first | rfl | assumption) ⟨rfl, (x_keep.u (x_keep.rf μ) (by unfold x_ok; omega))⟩
  · intro f F hf2 hkk hW
    subst hkk
    have h8 := hW.1.2.2.2.2.1
    by_cases hr : 0 ≤ a2 ∧ a2 < nI (F 4)
    · obtain ⟨g, hg31, rfl⟩ := nI_of (Int32.not_lt.mpr hr.1)
      have hg : g < F 4 := (nI_ltI hg31 (by omega)).mp hr.2
      have hg8 : g < 8 := by omega
      have hcl : (nI g).toNatClampNeg = g := nI_clamp (by omega)
      have hear : s_e F g ≤ 19 := s_ear_le hW (fun _ => false) 0 g (F 3) (Nat.le_refl _)
      have hlim := s_am_lim (v := (fun p => s_farG F g (p / 10) (p % 10))) (ok := (fun p => decide (s_e F g ≤ s_farS F (p / 10) (p % 10)))) (a := 19) (b := 1000000) 100 (fun i hi => by have := s_farG_le hW hg (show i / 10 ≤ 9 by omega) (show i % 10 ≤ 9 by omega); omega)
      have hal1 := (s_am_le (v := (fun p => s_farG F g (p / 10) (p % 10))) (ok := (fun p => decide (s_e F g ≤ s_farS F (p / 10) (p % 10)))) (lim := 19) 100).2
      have hpl : ¬ (s_am (fun p => s_farG F g (p / 10) (p % 10)) (fun p => decide (s_e F g ≤ s_farS F (p / 10) (p % 10))) 19 100).1 = 0 → eI (s_am (fun p => s_farG F g (p / 10) (p % 10)) (fun p => decide (s_e F g ≤ s_farS F (p / 10) (p % 10))) 19 100).1 = nI ((s_am (fun p => s_farG F g (p / 10) (p % 10)) (fun p => decide (s_e F g ≤ s_farS F (p / 10) (p % 10))) 19 100).1 - 1) := fun z => by
        obtain ⟨q, hq⟩ : ∃ q, (s_am (fun p => s_farG F g (p / 10) (p % 10)) (fun p => decide (s_e F g ≤ s_farS F (p / 10) (p % 10))) 19 100).1 = q + 1 := ⟨(s_am (fun p => s_farG F g (p / 10) (p % 10)) (fun p => decide (s_e F g ≤ s_farS F (p / 10) (p % 10))) 19 100).1 - 1, by omega⟩
        rw [hq, eI_s]; rfl
      have heI0 : eI (s_am (fun p => s_farG F g (p / 10) (p % 10)) (fun p => decide (s_e F g ≤ s_farS F (p / 10) (p % 10))) 19 100).1 < 0 ↔ (s_am (fun p => s_farG F g (p / 10) (p % 10)) (fun p => decide (s_e F g ≤ s_farS F (p / 10) (p % 10))) 19 100).1 = 0 := by
        rw [Int32.lt_iff_toInt_lt, eI_toInt (by omega)]
        have : (0 : Int32).toInt = 0 := by decide
        omega
      have hmb : eI (s_am (fun p => s_farG F g (p / 10) (p % 10)) (fun p => decide (s_e F g ≤ s_farS F (p / 10) (p % 10))) 1000000 100).1 = -1 ↔ (s_am (fun p => s_farG F g (p / 10) (p % 10)) (fun p => decide (s_e F g ≤ s_farS F (p / 10) (p % 10))) 19 100).1 = 0 := by
        rw [← hlim.1]
        constructor
        · intro z
          apply Classical.byContradiction
          intro z2
          rw [hpl z2] at z
          exact nI_m1 (by omega) z
        · intro z; rw [z]; rfl
      have hmz : (s_am (fun p => s_farG F g (p / 10) (p % 10)) (fun p => decide (s_e F g ≤ s_farS F (p / 10) (p % 10))) 19 100).1 = 0 → eI (s_am (fun p => s_farG F g (p / 10) (p % 10)) (fun p => decide (s_e F g ≤ s_farS F (p / 10) (p % 10))) 1000000 100).1 = -1 := fun z => hmb.mpr z
      have hmv : ¬ (s_am (fun p => s_farG F g (p / 10) (p % 10)) (fun p => decide (s_e F g ≤ s_farS F (p / 10) (p % 10))) 19 100).1 = 0 → nI (s_am (fun p => s_farG F g (p / 10) (p % 10)) (fun p => decide (s_e F g ≤ s_farS F (p / 10) (p % 10))) 1000000 100).2 = nI (s_farG F g (((s_am (fun p => s_farG F g (p / 10) (p % 10)) (fun p => decide (s_e F g ≤ s_farS F (p / 10) (p % 10))) 19 100).1 - 1) / 10) (((s_am (fun p => s_farG F g (p / 10) (p % 10)) (fun p => decide (s_e F g ≤ s_farS F (p / 10) (p % 10))) 19 100).1 - 1) % 10)) := fun z => by
        rcases hlim.2 with q | q
        · exact absurd q.1 z
        · rw [← q.2, s_am_v _ z]
      refine ⟨if (s_am (fun p => s_farG F g (p / 10) (p % 10)) (fun p => decide (s_e F g ≤ s_farS F (p / 10) (p % 10))) 19 100).1 = 0 then -1 else if u = 0 then nI (s_farG F g (((s_am (fun p => s_farG F g (p / 10) (p % 10)) (fun p => decide (s_e F g ≤ s_farS F (p / 10) (p % 10))) 19 100).1 - 1) / 10) (((s_am (fun p => s_farG F g (p / 10) (p % 10)) (fun p => decide (s_e F g ≤ s_farS F (p / 10) (p % 10))) 19 100).1 - 1) % 10)) else nI ((s_am (fun p => s_farG F g (p / 10) (p % 10)) (fun p => decide (s_e F g ≤ s_farS F (p / 10) (p % 10))) 19 100).1 - 1), ?_, ?_⟩
      · intro μ w c hf hc e hC
        have hS := f_Sf hf2
        refine x_K.of (by decide) (Nat.le_of_ble_eq_true rfl) ?_
        show x_T sc 29 mX11_walk 0 [.ref 0, .int (nI f), .int (nI g), .int u, .retAddr 0, .retAddr 0] [] μ w _
        refine xt_aload_n _ dX11_walk_0 rfl ?_
        refine xt_iload_n _ dX11_walk_1 rfl ?_
        refine xt_cV _ dX11_walk_2 klX11_90 (tX11_fairOf sc _ μ w f c hf hc e) sh0 rfl rfl (Nat.le_of_ble_eq_true rfl) ?_
        refine xt_astore dX11_walk_5 (by decide) rfl ?_
        change x_T _ _ _ _ [_, _, _, _, _, _] _ _ _ _
        refine xt_aload _ dX11_walk_7 rfl ?_
        refine xt_ifnull_r dX11_walk_9 ?_
        refine xt_aload _ dX11_walk_12 rfl ?_
        refine xt_iload_n _ dX11_walk_14 rfl ?_
        refine xt_cV _ dX11_walk_15 klX11_116 (tX2_hasGoer sc _ w hS hC _) hS.1 rfl rfl (Nat.le_of_ble_eq_true rfl) ?_
        refine xt_if_ne 23 dX11_walk_18 (by decide) (fun _ => ?_) (fun q => absurd q (by rw [s_hasG_yes hg h8]; decide))
        refine xt_aload _ dX11_walk_23 rfl ?_
        refine xt_iload_n _ dX11_walk_25 rfl ?_
        refine xt_cS _ dX11_walk_26 klX11_243 (tX0_refuge sc _ w hS hC hW g hg) rfl rfl (Nat.le_of_ble_eq_true rfl) ?_
        refine xt_istore dX11_walk_29 (by decide) rfl ?_
        change x_T _ _ _ _ [_, _, _, _, _, _] _ _ _ _
        refine xt_iload _ dX11_walk_31 rfl ?_
        refine xt_if_lt 40 dX11_walk_33 (by decide) (fun t33 => ?_) (fun f33 => ?_)
        · refine xt_iload _ dX11_walk_40 rfl ?_
          refine xt_goto 61 dX11_walk_42 (by decide) ?_
          exact xt_iret .int dX11_walk_61 rfl (by first | rfl | assumption) ⟨by rw [show (s_am _ _ 19 100).1 = 0 from (heI0.mp t33)]; rfl, x_keep.rf μ⟩
        · refine xt_iload_n _ dX11_walk_36 rfl ?_
          refine xt_if_eq 45 dX11_walk_37 (by decide) (fun t37 => ?_) (fun f37 => ?_)
          · refine xt_aload _ dX11_walk_45 rfl ?_
            refine xt_iload_n _ dX11_walk_47 rfl ?_
            rw [hpl (fun z => f33 (heI0.mpr z))]
            refine xt_iload _ dX11_walk_48 rfl ?_
            refine xt_bipush (10) dX11_walk_50 (by decide) ?_
            refine xt_idiv dX11_walk_52 (by decide) ?_
            refine xt_iload _ dX11_walk_53 rfl ?_
            refine xt_bipush (10) dX11_walk_55 (by decide) ?_
            refine xt_irem dX11_walk_57 (by decide) ?_
            rw [show nI ((s_am (fun p => s_farG F g (p / 10) (p % 10)) (fun p => decide (s_e F g ≤ s_farS F (p / 10) (p % 10))) 19 100).1 - 1) - nI ((s_am (fun p => s_farG F g (p / 10) (p % 10)) (fun p => decide (s_e F g ≤ s_farS F (p / 10) (p % 10))) 19 100).1 - 1) / (10 : Int32) * 10 = nI (((s_am (fun p => s_farG F g (p / 10) (p % 10)) (fun p => decide (s_e F g ≤ s_farS F (p / 10) (p % 10))) 19 100).1 - 1) % 10) from pk_rem (d := 10) (by omega) (by decide) (by decide), show nI ((s_am (fun p => s_farG F g (p / 10) (p % 10)) (fun p => decide (s_e F g ≤ s_farS F (p / 10) (p % 10))) 19 100).1 - 1) / (10 : Int32) = nI (((s_am (fun p => s_farG F g (p / 10) (p % 10)) (fun p => decide (s_e F g ≤ s_farS F (p / 10) (p % 10))) 19 100).1 - 1) / 10) from pk_div (by omega) (by decide) (by decide)]
            refine xt_cV _ dX11_walk_58 klX11_246 (tX2_farFromGoer sc _ w hS hC hW g (((s_am (fun p => s_farG F g (p / 10) (p % 10)) (fun p => decide (s_e F g ≤ s_farS F (p / 10) (p % 10))) 19 100).1 - 1) / 10) (((s_am (fun p => s_farG F g (p / 10) (p % 10)) (fun p => decide (s_e F g ≤ s_farS F (p / 10) (p % 10))) 19 100).1 - 1) % 10) hg (by omega) (by omega)) hS.1 rfl rfl (Nat.le_of_ble_eq_true rfl) ?_
            exact xt_iret .int dX11_walk_61 rfl (by first | rfl | assumption) ⟨by rw [if_neg (fun z => f33 (heI0.mpr z)), if_pos t37], x_keep.rf μ⟩
          · refine xt_iload _ dX11_walk_40 rfl ?_
            refine xt_goto 61 dX11_walk_42 (by decide) ?_
            exact xt_iret .int dX11_walk_61 rfl (by first | rfl | assumption) ⟨by rw [if_neg (fun z => f33 (heI0.mpr z)), if_neg f37, hpl (fun z => f33 (heI0.mpr z))], x_keep.rf μ⟩
      · intro μ w c hf hc e hF
        refine x_K.of (by decide) (Nat.le_of_ble_eq_true rfl) ?_
        show x_T sc 29 mX12_walk 0 [.ref 152, .int (nI f), .int (nI g), .int u, .retAddr 0, .retAddr 0, .retAddr 0, .retAddr 0, .retAddr 0, .retAddr 0] [] μ w _
        refine xt_aload_n _ dX12_walk_0 rfl ?_
        refine xt_iconst (0) dX12_walk_1 (by decide) ?_
        refine xt_puti dX12_walk_2 kpX12_72 (by first | exact sh152 | rfl | assumption) rfl (by first | rfl | assumption) (by first | rfl | assumption) ?_
        refine xt_aload_n _ dX12_walk_5 rfl ?_
        refine xt_iload_n _ dX12_walk_6 rfl ?_
        refine xt_callV _ dX12_walk_7 klX12_300 (tX12_hand sc _ (x_u μ 152 (upd (μ 152) 0 0)) w f c F hf hc e hF) sh152 rfl rfl (Nat.le_of_ble_eq_true rfl) (fun r1 μ1 w1 q1 => ?_)
        obtain ⟨rfl, rfl, hS, h0, hfr⟩ := q1
        change x_T _ _ _ _ _ (.int 1 :: _) _ _ _
        have hgx := hS.2.1 g hg8
        refine xt_if_eq 21 dX12_walk_10 (by decide) (fun q => absurd q (by decide)) (fun _ => ?_)
        refine xt_aload_n _ dX12_walk_13 rfl ?_
        refine xt_iload_n _ dX12_walk_14 rfl ?_
        refine xt_cV _ dX12_walk_15 klX12_303 (tX12_isGoer sc _ μ1 _ F h8 hS.1.2.2.2.1 _) sh152 rfl rfl (Nat.le_of_ble_eq_true rfl) ?_
        refine xt_if_ne 23 dX12_walk_18 (by decide) (fun _ => ?_) (fun q => absurd q (by rw [s_hasG_yes hg h8]; decide))
        refine xt_aload_n _ dX12_walk_23 rfl ?_
        refine xt_getr _ dX12_walk_24 kfX12_41 (by first | exact sh152 | rfl | assumption) rfl ?_
        refine xt_iload_n _ dX12_walk_27 rfl ?_
        refine xt_ald dX12_walk_28 (by first | exact sh152 | rfl | assumption) (by exact vp_in_nI (by omega) (by decide)) ?_
        refine xt_istore dX12_walk_29 (by decide) rfl ?_
        change x_T _ _ _ _ [_, _, _, _, _, _, _, _, _, _] _ _ _ _
        refine xt_aload_n _ dX12_walk_31 rfl ?_
        refine xt_getr _ dX12_walk_32 kfX12_44 (by first | exact sh152 | rfl | assumption) rfl ?_
        refine xt_iload_n _ dX12_walk_35 rfl ?_
        refine xt_ald dX12_walk_36 (by first | exact sh152 | rfl | assumption) (by exact vp_in_nI (by omega) (by decide)) ?_
        refine xt_istore dX12_walk_37 (by decide) rfl ?_
        change x_T _ _ _ _ [_, _, _, _, _, _, _, _, _, _] _ _ _ _
        refine xt_iconst (-1) dX12_walk_39 (by decide) ?_
        refine xt_istore dX12_walk_40 (by decide) rfl ?_
        change x_T _ _ _ _ [_, _, _, _, _, _, _, _, _, _] _ _ _ _
        refine xt_ldcw _ dX12_walk_42 kkX12_353 ?_
        refine xt_istore dX12_walk_45 (by decide) rfl ?_
        change x_T _ _ _ _ [_, _, _, _, _, _, _, _, _, _] _ _ _ _
        refine xt_iconst (0) dX12_walk_47 (by decide) ?_
        refine xt_istore dX12_walk_48 (by decide) rfl ?_
        change x_T _ _ _ _ [_, _, _, _, _, _, _, _, _, _] _ _ _ _
        have L50 : ∀ (n50 m : Nat) (μ2 : x_Me) (v9 : Value) (hJ : m_mg μ1 μ2 f F g), m + n50 = 100 → x_T sc 29 mX12_walk 50 [.ref 152, .int (nI f), .int (nI g), .int u, .int (nI (F (25 + g))), .int (nI (F (33 + g))), .int (eI (s_am (fun p => s_farG F g (p / 10) (p % 10)) (fun p => decide (s_e F g ≤ s_farS F (p / 10) (p % 10))) 1000000 m).1), .int (nI (s_am (fun p => s_farG F g (p / 10) (p % 10)) (fun p => decide (s_e F g ≤ s_farS F (p / 10) (p % 10))) 1000000 m).2), .int (nI m), v9] [] μ2 w1 (fun r μ' _ => r = some (.int (if (s_am (fun p => s_farG F g (p / 10) (p % 10)) (fun p => decide (s_e F g ≤ s_farS F (p / 10) (p % 10))) 19 100).1 = 0 then -1 else if u = 0 then nI (s_farG F g (((s_am (fun p => s_farG F g (p / 10) (p % 10)) (fun p => decide (s_e F g ≤ s_farS F (p / 10) (p % 10))) 19 100).1 - 1) / 10) (((s_am (fun p => s_farG F g (p / 10) (p % 10)) (fun p => decide (s_e F g ≤ s_farS F (p / 10) (p % 10))) 19 100).1 - 1) % 10)) else nI ((s_am (fun p => s_farG F g (p / 10) (p % 10)) (fun p => decide (s_e F g ≤ s_farS F (p / 10) (p % 10))) 19 100).1 - 1))) ∧ x_keep μ μ') := by
          intro n50
          induction n50 with
          | zero =>
            intro m μ2 v9 hJ hmn
            obtain rfl : m = 100 := by omega
            obtain ⟨_, _, hfr2⟩ := hJ
            refine xt_iload _ dX12_walk_50 rfl ?_
            refine xt_bipush (100) dX12_walk_52 (by decide) ?_
            refine xt_icmp_ge 143 dX12_walk_54 (by decide) (fun _ => ?_) (fun q => absurd (by decide) q)
            refine xt_iload _ dX12_walk_143 rfl ?_
            refine xt_iconst (-1) dX12_walk_145 (by decide) ?_
            refine xt_icmp_eq 153 dX12_walk_146 (by decide) (fun t146 => ?_) (fun f146 => ?_)
            · refine xt_iload _ dX12_walk_153 rfl ?_
              refine xt_goto 160 dX12_walk_155 (by decide) ?_
              exact xt_iret .int dX12_walk_160 rfl (by first | rfl | assumption) ⟨by rw [if_pos (hmb.mp t146), hmz (hmb.mp t146)], (x_keep.tr (x_keep.hand hfr) (fun a ha => hfr2 a (by unfold x_ok at ha; omega) (by unfold x_ok at ha; omega)))⟩
            · refine xt_iload_n _ dX12_walk_149 rfl ?_
              refine xt_if_eq 158 dX12_walk_150 (by decide) (fun t150 => ?_) (fun f150 => ?_)
              · refine xt_iload _ dX12_walk_158 rfl ?_
                exact xt_iret .int dX12_walk_160 rfl (by first | rfl | assumption) ⟨by rw [if_neg (fun z => f146 (hmb.mpr z)), if_pos t150, hmv (fun z => f146 (hmb.mpr z))], (x_keep.tr (x_keep.hand hfr) (fun a ha => hfr2 a (by unfold x_ok at ha; omega) (by unfold x_ok at ha; omega)))⟩
              · refine xt_iload _ dX12_walk_153 rfl ?_
                refine xt_goto 160 dX12_walk_155 (by decide) ?_
                exact xt_iret .int dX12_walk_160 rfl (by first | rfl | assumption) ⟨by rw [if_neg (fun z => f146 (hmb.mpr z)), if_neg f150, ← hlim.1, hpl (fun z => f146 (hmb.mpr z))], (x_keep.tr (x_keep.hand hfr) (fun a ha => hfr2 a (by unfold x_ok at ha; omega) (by unfold x_ok at ha; omega)))⟩
          | succ n50 ih50 =>
            intro m μ2 v9 hJ hmn
            have hlt : m < 100 := by omega
            obtain ⟨⟨G, hSG, hGF⟩, h34, hfr2⟩ := hJ
            have hs18 := s_farS_le hW (show m / 10 ≤ 9 by omega) (show m % 10 ≤ 9 by omega)
            have hg18 := s_farG_le hW hg (show m / 10 ≤ 9 by omega) (show m % 10 ≤ 9 by omega)
            have hal := s_am_le (v := (fun p => s_farG F g (p / 10) (p % 10))) (ok := (fun p => decide (s_e F g ≤ s_farS F (p / 10) (p % 10)))) (lim := 1000000) m
            have hxy := hW.2.2.1 g hg
            have hdv : nI m / (10 : Int32) = nI (m / 10) := pk_div (by omega) (by decide) (by decide)
            have hrm : nI m - nI m / (10 : Int32) * 10 = nI (m % 10) := pk_rem (d := 10) (by omega) (by decide) (by decide)
            refine xt_iload _ dX12_walk_50 rfl ?_
            refine xt_bipush (100) dX12_walk_52 (by decide) ?_
            refine xt_icmp_ge 143 dX12_walk_54 (by decide) (fun q => absurd q (nI_ge (b := 100) hlt (by decide))) (fun _ => ?_)
            refine xt_aload_n _ dX12_walk_57 rfl ?_
            refine xt_getr _ dX12_walk_58 kfX12_41 (by first | exact sh152 | rfl | assumption) rfl ?_
            refine xt_iload_n _ dX12_walk_61 rfl ?_
            refine xt_iload _ dX12_walk_62 rfl ?_
            refine xt_bipush (10) dX12_walk_64 (by decide) ?_
            refine xt_idiv dX12_walk_66 (by decide) ?_
            rw [hdv]
            refine xt_ast dX12_walk_67 (by first | exact sh152 | rfl | assumption) (by exact vp_in_nI (by omega) (by decide)) ?_
            refine xt_aload_n _ dX12_walk_68 rfl ?_
            refine xt_getr _ dX12_walk_69 kfX12_44 (by first | exact sh152 | rfl | assumption) rfl ?_
            refine xt_iload_n _ dX12_walk_72 rfl ?_
            refine xt_iload _ dX12_walk_73 rfl ?_
            refine xt_bipush (10) dX12_walk_75 (by decide) ?_
            refine xt_irem dX12_walk_77 (by decide) ?_
            rw [hrm]
            refine xt_ast dX12_walk_78 (by first | exact sh152 | rfl | assumption) (by exact vp_in_nI (by omega) (by decide)) ?_
            rw [hcl]
            refine xt_aload_n _ dX12_walk_79 rfl ?_
            refine xt_iload_n _ dX12_walk_80 rfl ?_
            refine xt_cV _ dX12_walk_81 klX12_297 (tX12_offends sc _ (x_u (x_u μ2 163 (upd (μ2 163) g (nI (m / 10)))) 164 (upd (x_u μ2 163 (upd (μ2 163) g (nI (m / 10))) 164) g (nI (m % 10)))) _ f (s_mg F g m) (hSG.goer hg8 hGF m) (s_mg_W hW hg8 hlt) g (by rw [s_mg_2 F g m (by omega) (by omega)]; exact hg) 0 (fun _ => false) s_strM0 0 0 (by decide) (by decide) h34.1 h34.2.1 h34.2.2) sh152 rfl rfl (Nat.le_of_ble_eq_true rfl) ?_
            rw [s_mg_any hW hg8]
            refine xt_if_eq 93 dX12_walk_84 (by decide) (fun t84 => ?_) (fun f84 => ?_)
            · refine xt_iload _ dX12_walk_93 rfl ?_
              refine xt_iload _ dX12_walk_95 rfl ?_
              refine xt_iload _ dX12_walk_97 rfl ?_
              refine xt_bipush (10) dX12_walk_99 (by decide) ?_
              refine xt_idiv dX12_walk_101 (by decide) ?_
              refine xt_iload _ dX12_walk_102 rfl ?_
              refine xt_bipush (10) dX12_walk_104 (by decide) ?_
              refine xt_irem dX12_walk_106 (by decide) ?_
              rw [hrm, hdv]
              refine xt_cS _ dX12_walk_107 klX12_290 (tX12_way sc _ (x_u (x_u μ2 163 (upd (μ2 163) g (nI (m / 10)))) 164 (upd (x_u μ2 163 (upd (μ2 163) g (nI (m / 10))) 164) g (nI (m % 10)))) _ _ _ _ _) rfl rfl (Nat.le_of_ble_eq_true rfl) ?_
              rw [s_way_nI (by omega) (by omega) (by omega) (by omega), ← s_ab (F (25 + g)), ← s_ab (F (33 + g))]
              change x_T _ _ _ _ _ (.int (nI (s_farG F g (m / 10) (m % 10))) :: _) _ _ _
              refine xt_istore dX12_walk_110 (by decide) rfl ?_
              change x_T _ _ _ _ [_, _, _, _, _, _, _, _, _, _] _ _ _ _
              refine xt_iload _ dX12_walk_112 rfl ?_
              refine xt_iload _ dX12_walk_114 rfl ?_
              refine xt_icmp_ge 124 dX12_walk_116 (by decide) (fun t116 => ?_) (fun f116 => ?_)
              · refine xt_iload _ dX12_walk_124 rfl ?_
                refine xt_istore dX12_walk_126 (by decide) rfl ?_
                change x_T _ _ _ _ [_, _, _, _, _, _, _, _, _, _] _ _ _ _
                refine xt_iload _ dX12_walk_128 rfl ?_
                refine xt_iload _ dX12_walk_130 rfl ?_
                refine xt_cS _ dX12_walk_132 klX12_209 (tX12_lesser sc _ (x_u (x_u μ2 163 (upd (μ2 163) g (nI (m / 10)))) 164 (upd (x_u μ2 163 (upd (μ2 163) g (nI (m / 10))) 164) g (nI (m % 10)))) _ _ _) rfl rfl (Nat.le_of_ble_eq_true rfl) ?_
                refine xt_istore dX12_walk_135 (by decide) rfl ?_
                change x_T _ _ _ _ [_, _, _, _, _, _, _, _, _, _] _ _ _ _
                refine xt_inc _ (1) dX12_walk_137 rfl (by decide) (by decide) rfl ?_
                change x_T _ _ _ _ [_, _, _, _, _, _, _, _, _, _] _ _ _ _
                refine xt_goto 50 dX12_walk_140 (by decide) ?_
                have hz : ¬ s_farS F (m / 10) (m % 10) < s_e F g := by intro z; rw [decide_eq_true z] at t84; exact absurd t84 (by decide)
                refine x_T.ls ?_ (ih50 (m + 1) (x_u (x_u μ2 163 (upd (μ2 163) g (nI (m / 10)))) 164 (upd (x_u μ2 163 (upd (μ2 163) g (nI (m / 10))) 164) g (nI (m % 10)))) (.int (nI (s_farG F g (m / 10) (m % 10)))) ⟨⟨_, hSG.goer hg8 hGF m, fun i hi h2 => s_mg_2 F g m hi h2⟩, h34, fun a ha h2 => by rw [x_u_ne h2, x_u_ne ha]; exact hfr2 a ha h2⟩ (by omega))
                rw [s_le_nI (by omega) (by omega)]
                rw [nI_leI (by omega) (by omega)] at t116
                have es : s_am (fun p => s_farG F g (p / 10) (p % 10)) (fun p => decide (s_e F g ≤ s_farS F (p / 10) (p % 10))) 1000000 (m + 1) = s_am (fun p => s_farG F g (p / 10) (p % 10)) (fun p => decide (s_e F g ≤ s_farS F (p / 10) (p % 10))) 1000000 m := s_am_n2 (v := (fun p => s_farG F g (p / 10) (p % 10))) (ok := (fun p => decide (s_e F g ≤ s_farS F (p / 10) (p % 10)))) (by show (s_am (fun p => s_farG F g (p / 10) (p % 10)) (fun p => decide (s_e F g ≤ s_farS F (p / 10) (p % 10))) 1000000 m).2 ≤ s_farG F g (m / 10) (m % 10); omega)
                rw [es, nI_succ m, Nat.min_eq_left (by omega)]
              · refine xt_iload _ dX12_walk_119 rfl ?_
                refine xt_goto 126 dX12_walk_121 (by decide) ?_
                refine xt_istore dX12_walk_126 (by decide) rfl ?_
                change x_T _ _ _ _ [_, _, _, _, _, _, _, _, _, _] _ _ _ _
                refine xt_iload _ dX12_walk_128 rfl ?_
                refine xt_iload _ dX12_walk_130 rfl ?_
                refine xt_cS _ dX12_walk_132 klX12_209 (tX12_lesser sc _ (x_u (x_u μ2 163 (upd (μ2 163) g (nI (m / 10)))) 164 (upd (x_u μ2 163 (upd (μ2 163) g (nI (m / 10))) 164) g (nI (m % 10)))) _ _ _) rfl rfl (Nat.le_of_ble_eq_true rfl) ?_
                refine xt_istore dX12_walk_135 (by decide) rfl ?_
                change x_T _ _ _ _ [_, _, _, _, _, _, _, _, _, _] _ _ _ _
                refine xt_inc _ (1) dX12_walk_137 rfl (by decide) (by decide) rfl ?_
                change x_T _ _ _ _ [_, _, _, _, _, _, _, _, _, _] _ _ _ _
                refine xt_goto 50 dX12_walk_140 (by decide) ?_
                have hz : ¬ s_farS F (m / 10) (m % 10) < s_e F g := by intro z; rw [decide_eq_true z] at t84; exact absurd t84 (by decide)
                refine x_T.ls ?_ (ih50 (m + 1) (x_u (x_u μ2 163 (upd (μ2 163) g (nI (m / 10)))) 164 (upd (x_u μ2 163 (upd (μ2 163) g (nI (m / 10))) 164) g (nI (m % 10)))) (.int (nI (s_farG F g (m / 10) (m % 10)))) ⟨⟨_, hSG.goer hg8 hGF m, fun i hi h2 => s_mg_2 F g m hi h2⟩, h34, fun a ha h2 => by rw [x_u_ne h2, x_u_ne ha]; exact hfr2 a ha h2⟩ (by omega))
                rw [s_le_nI (by omega) (by omega)]
                rw [nI_leI (by omega) (by omega)] at f116
                have es : s_am (fun p => s_farG F g (p / 10) (p % 10)) (fun p => decide (s_e F g ≤ s_farS F (p / 10) (p % 10))) 1000000 (m + 1) = (m + 1, s_farG F g (m / 10) (m % 10)) := s_am_y (v := (fun p => s_farG F g (p / 10) (p % 10))) (ok := (fun p => decide (s_e F g ≤ s_farS F (p / 10) (p % 10)))) (by simp; omega) (by show s_farG F g (m / 10) (m % 10) < (s_am (fun p => s_farG F g (p / 10) (p % 10)) (fun p => decide (s_e F g ≤ s_farS F (p / 10) (p % 10))) 1000000 m).2; omega)
                rw [es, nI_succ m, eI_s, Nat.min_eq_right (by omega)]
            · refine xt_ldcw _ dX12_walk_87 kkX12_353 ?_
              refine xt_goto 110 dX12_walk_90 (by decide) ?_
              refine xt_istore dX12_walk_110 (by decide) rfl ?_
              change x_T _ _ _ _ [_, _, _, _, _, _, _, _, _, _] _ _ _ _
              refine xt_iload _ dX12_walk_112 rfl ?_
              refine xt_iload _ dX12_walk_114 rfl ?_
              refine xt_icmp_ge 124 dX12_walk_116 (by decide) (fun t116 => ?_) (fun f116 => ?_)
              · refine xt_iload _ dX12_walk_124 rfl ?_
                refine xt_istore dX12_walk_126 (by decide) rfl ?_
                change x_T _ _ _ _ [_, _, _, _, _, _, _, _, _, _] _ _ _ _
                refine xt_iload _ dX12_walk_128 rfl ?_
                refine xt_iload _ dX12_walk_130 rfl ?_
                refine xt_cS _ dX12_walk_132 klX12_209 (tX12_lesser sc _ (x_u (x_u μ2 163 (upd (μ2 163) g (nI (m / 10)))) 164 (upd (x_u μ2 163 (upd (μ2 163) g (nI (m / 10))) 164) g (nI (m % 10)))) _ _ _) rfl rfl (Nat.le_of_ble_eq_true rfl) ?_
                refine xt_istore dX12_walk_135 (by decide) rfl ?_
                change x_T _ _ _ _ [_, _, _, _, _, _, _, _, _, _] _ _ _ _
                refine xt_inc _ (1) dX12_walk_137 rfl (by decide) (by decide) rfl ?_
                change x_T _ _ _ _ [_, _, _, _, _, _, _, _, _, _] _ _ _ _
                refine xt_goto 50 dX12_walk_140 (by decide) ?_
                have hz : s_farS F (m / 10) (m % 10) < s_e F g := by apply Classical.byContradiction; intro z; rw [decide_eq_false z] at f84; exact f84 rfl
                refine x_T.ls ?_ (ih50 (m + 1) (x_u (x_u μ2 163 (upd (μ2 163) g (nI (m / 10)))) 164 (upd (x_u μ2 163 (upd (μ2 163) g (nI (m / 10))) 164) g (nI (m % 10)))) (.int 1000000) ⟨⟨_, hSG.goer hg8 hGF m, fun i hi h2 => s_mg_2 F g m hi h2⟩, h34, fun a ha h2 => by rw [x_u_ne h2, x_u_ne ha]; exact hfr2 a ha h2⟩ (by omega))
                have es : s_am (fun p => s_farG F g (p / 10) (p % 10)) (fun p => decide (s_e F g ≤ s_farS F (p / 10) (p % 10))) 1000000 (m + 1) = s_am (fun p => s_farG F g (p / 10) (p % 10)) (fun p => decide (s_e F g ≤ s_farS F (p / 10) (p % 10))) 1000000 m := s_am_n1 (v := (fun p => s_farG F g (p / 10) (p % 10))) (ok := (fun p => decide (s_e F g ≤ s_farS F (p / 10) (p % 10)))) (by simp; omega)
                rw [show (1000000 : Int32) = nI 1000000 from rfl, s_le_nI (by omega) (by omega), es, nI_succ m, Nat.min_eq_left (by omega)]
              · refine xt_iload _ dX12_walk_119 rfl ?_
                refine xt_goto 126 dX12_walk_121 (by decide) ?_
                refine xt_istore dX12_walk_126 (by decide) rfl ?_
                change x_T _ _ _ _ [_, _, _, _, _, _, _, _, _, _] _ _ _ _
                refine xt_iload _ dX12_walk_128 rfl ?_
                refine xt_iload _ dX12_walk_130 rfl ?_
                refine xt_cS _ dX12_walk_132 klX12_209 (tX12_lesser sc _ (x_u (x_u μ2 163 (upd (μ2 163) g (nI (m / 10)))) 164 (upd (x_u μ2 163 (upd (μ2 163) g (nI (m / 10))) 164) g (nI (m % 10)))) _ _ _) rfl rfl (Nat.le_of_ble_eq_true rfl) ?_
                refine xt_istore dX12_walk_135 (by decide) rfl ?_
                change x_T _ _ _ _ [_, _, _, _, _, _, _, _, _, _] _ _ _ _
                refine xt_inc _ (1) dX12_walk_137 rfl (by decide) (by decide) rfl ?_
                change x_T _ _ _ _ [_, _, _, _, _, _, _, _, _, _] _ _ _ _
                refine xt_goto 50 dX12_walk_140 (by decide) ?_
                exact absurd (nI_le (b := 1000000) hal.1 (by decide)) f116
        rw [hcl, hgx.1, hgx.2]
        exact L50 100 0 μ1 _ ⟨⟨F, hS, fun _ _ _ => rfl⟩, h0.2.2.2.2.2, fun _ _ _ => rfl⟩ (by omega)
    · skip
      refine ⟨-1, ?_, ?_⟩
      · intro μ w c hf hc e hC
        have hS := f_Sf hf2
        refine x_K.of (by decide) (Nat.le_of_ble_eq_true rfl) ?_
        show x_T sc 29 mX11_walk 0 [.ref 0, .int (nI f), .int a2, .int u, .retAddr 0, .retAddr 0] [] μ w _
        refine xt_aload_n _ dX11_walk_0 rfl ?_
        refine xt_iload_n _ dX11_walk_1 rfl ?_
        refine xt_cV _ dX11_walk_2 klX11_90 (tX11_fairOf sc _ μ w f c hf hc e) sh0 rfl rfl (Nat.le_of_ble_eq_true rfl) ?_
        refine xt_astore dX11_walk_5 (by decide) rfl ?_
        change x_T _ _ _ _ [_, _, _, _, _, _] _ _ _ _
        refine xt_aload _ dX11_walk_7 rfl ?_
        refine xt_ifnull_r dX11_walk_9 ?_
        refine xt_aload _ dX11_walk_12 rfl ?_
        refine xt_iload_n _ dX11_walk_14 rfl ?_
        refine xt_cV _ dX11_walk_15 klX11_116 (tX2_hasGoer sc _ w hS hC _) hS.1 rfl rfl (Nat.le_of_ble_eq_true rfl) ?_
        refine xt_if_ne 23 dX11_walk_18 (by decide) (fun q => absurd (s_hasG_no hr) q) (fun _ => ?_)
        refine xt_iconst (-1) dX11_walk_21 (by decide) ?_
        exact xt_iret .int dX11_walk_22 rfl (by first | rfl | assumption) ⟨rfl, x_keep.rf μ⟩
      · intro μ w c hf hc e hF
        refine x_K.of (by decide) (Nat.le_of_ble_eq_true rfl) ?_
        show x_T sc 29 mX12_walk 0 [.ref 152, .int (nI f), .int a2, .int u, .retAddr 0, .retAddr 0, .retAddr 0, .retAddr 0, .retAddr 0, .retAddr 0] [] μ w _
        refine xt_aload_n _ dX12_walk_0 rfl ?_
        refine xt_iconst (0) dX12_walk_1 (by decide) ?_
        refine xt_puti dX12_walk_2 kpX12_72 (by first | exact sh152 | rfl | assumption) rfl (by first | rfl | assumption) (by first | rfl | assumption) ?_
        refine xt_aload_n _ dX12_walk_5 rfl ?_
        refine xt_iload_n _ dX12_walk_6 rfl ?_
        refine xt_callV _ dX12_walk_7 klX12_300 (tX12_hand sc _ (x_u μ 152 (upd (μ 152) 0 0)) w f c F hf hc e hF) sh152 rfl rfl (Nat.le_of_ble_eq_true rfl) (fun r1 μ1 w1 q1 => ?_)
        obtain ⟨rfl, rfl, hS, h0, hfr⟩ := q1
        change x_T _ _ _ _ _ (.int 1 :: _) _ _ _
        refine xt_if_eq 21 dX12_walk_10 (by decide) (fun q => absurd q (by decide)) (fun _ => ?_)
        refine xt_aload_n _ dX12_walk_13 rfl ?_
        refine xt_iload_n _ dX12_walk_14 rfl ?_
        refine xt_cV _ dX12_walk_15 klX12_303 (tX12_isGoer sc _ μ1 _ F h8 hS.1.2.2.2.1 _) sh152 rfl rfl (Nat.le_of_ble_eq_true rfl) ?_
        refine xt_if_ne 23 dX12_walk_18 (by decide) (fun q => absurd (s_hasG_no hr) q) (fun _ => ?_)
        refine xt_iconst (-1) dX12_walk_21 (by decide) ?_
        exact xt_iret .int dX12_walk_22 rfl (by first | rfl | assumption) ⟨rfl, (x_keep.hand hfr)⟩
