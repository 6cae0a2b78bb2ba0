/-! texts: the reference takes numbers -/
/-- the reference has read the token behind p -/
def m_K (μ : x_Me) (w : Int64) (T : Nat → Nat) (L p : Nat) : Prop := m_B μ T L ∧ p ≤ L ∧ μ 152 11 = nI (s_sp T L p) ∧ μ 152 12 = nI (s_mk (s_kd T L p)) ∧ (s_kd T L p ≠ 4 → μ 152 9 = nI (s_te T L p)) ∧ (s_kd T L p = 2 → μ 152 13 = nI (s_va T L p)) ∧ (s_kd T L p = 1 → w = s_wd T L (s_sp T L p))
def m_F (μ : x_Me) (φ : Nat × Nat) (b : Nat) : Prop := φ.1 ≤ 4 ∧ μ 152 16 = nI φ.1 ∧ (φ.1 ≠ 0 → μ 152 17 = nI φ.2 ∧ φ.2 < b)
theorem m_F.cg {μ μ' : x_Me} {φ : Nat × Nat} {b b' : Nat} (h : m_F μ φ b) (h1 : μ' 152 16 = μ 152 16) (h2 : μ' 152 17 = μ 152 17) (hb : b ≤ b') : m_F μ' φ b' := by
  refine ⟨h.1, by rw [h1]; exact h.2.1, fun z => ?_⟩
  have := h.2.2 z
  rw [h2]; exact ⟨this.1, by omega⟩
theorem m_K.cg {μ μ' : x_Me} {w : Int64} {T : Nat → Nat} {L p : Nat} (h : m_K μ w T L p) (h1 : ∀ j, 9 ≤ j → j ≤ 13 → μ' 152 j = μ 152 j) (h2 : μ' 153 = μ 153) : m_K μ' w T L p := by
  obtain ⟨a, b, c, e, f, g, k⟩ := h
  refine ⟨a.cg (h1 10 (by decide) (by decide)) h2, b, ?_, ?_, ?_, ?_, k⟩
  · rw [h1 11 (by decide) (by decide)]; exact c
  · rw [h1 12 (by decide) (by decide)]; exact e
  · rw [h1 9 (by decide) (by decide)]; exact f
  · rw [h1 13 (by decide) (by decide)]; exact g
theorem m_K.next {μ μ' : x_Me} {w' : Int64} {T : Nat → Nat} {L p : Nat} (hB : m_B μ T L) (hp : p ≤ L) (q : s_PM μ μ' w' T L (s_sp T L p)) : m_K μ' w' T L p := by
  obtain ⟨a, b, c, e, f, g, k⟩ := q
  exact ⟨hB.cg (g 10 (by decide) (by decide) (by decide) (by decide)) (k 153 (by decide)), hp, a, b, c, e, f⟩
def s_mk_inj : ∀ a, a ≤ 4 → ∀ b, b ≤ 4 → s_mk a = s_mk b → a = b := by decide
theorem s_mk4 : ∀ a, a ≤ 4 → s_mk a ≤ 4 := by decide
theorem m_K.kd {μ : x_Me} {w : Int64} {T : Nat → Nat} {L p : Nat} (h : m_K μ w T L p) {k : Nat} (hk : k ≤ 4) : μ 152 12 = nI (s_mk k) ↔ s_kd T L p = k := by
  have h4 : s_kd T L p ≤ 4 := s_kq4 T L _
  have h5 := s_mk4 _ h4
  have h6 := s_mk4 _ hk
  rw [h.2.2.2.1, nI_eq (by omega) (by omega)]
  exact ⟨fun e => s_mk_inj _ h4 _ hk e, fun e => by rw [e]⟩
theorem s_sp_lt {T : Nat → Nat} {L p : Nat} (h0 : s_kd T L p ≠ 0) (h4 : s_kd T L p ≠ 4) : s_sp T L p < s_te T L p := s_eq_gt h0 h4
theorem sh161 : x_shape[161]? = some (.inr (.inl (0, 161))) := rfl
theorem sh162 : x_shape[162]? = some (.inr (.inl (0, 4))) := rfl
def s_wm (f : Nat → Int32) (b st k : Nat) (r : Nat → Int32) : Nat → Nat → Int32
  | 0 => f
  | n + 1 => upd (s_wm f b st k r n) (b + st * n + k) (r n)
theorem s_wm_ne {f : Nat → Int32} {b st k : Nat} {r : Nat → Int32} {x : Nat} : ∀ {n : Nat}, x < b → s_wm f b st k r n x = f x
  | 0, _ => rfl
  | n + 1, h => by rw [s_wm, pk_un (by omega)]; exact s_wm_ne (n := n) h
theorem s_wm_rw {f : Nat → Int32} {G : Nat → Nat} {b st k : Nat} {r : Nat → Int32} {v : Nat → Nat} (hf : ∀ i, i < 161 → f i = nI (G i)) : ∀ {n : Nat}, (∀ i, i < n → r i = nI (v i)) → ∀ i, i < 161 → s_wm f b st k r n i = nI (s_rw G b st k v n i)
  | 0, _, i, hi => hf i hi
  | n + 1, h, i, hi => by
    rw [s_wm, s_rw]
    by_cases he : i = b + st * n + k
    · rw [he, pk_us, s_up_s]; exact h n (by omega)
    · rw [pk_un he, s_up_n he]; exact s_wm_rw hf (n := n) (fun i hi => h i (by omega)) i hi
section TAKEM
variable (sc : Nat × (Nat → Int32)) (d : Nat) (μ : x_Me) (w : Int64)
set_option maxHeartbeats 1000000 in
theorem tX12_fails (a : Nat) (h : μ 152 11 = nI a) : x_K sc d mX12_fails [.ref 152] μ w (fun r μ' w' => r = some (.int 0) ∧ w' = w ∧ μ' 152 15 = nI a ∧ (∀ j, j ≠ 15 → μ' 152 j = μ 152 j) ∧ ∀ b, b ≠ 152 → μ' b = μ b) := by
  refine x_K.of (by decide) (Nat.le_of_ble_eq_true rfl) ?_
  show x_T sc d mX12_fails 0 [.ref 152] [] μ w _
  refine xt_aload_n _ dX12_fails_0 rfl ?_
  refine xt_aload_n _ dX12_fails_1 rfl ?_
  refine xt_geti dX12_fails_2 kfX12_102 (by first | exact sh152 | exact sh161 | exact sh162 | rfl | assumption) rfl ?_
  refine xt_puti dX12_fails_5 kpX12_115 (by first | exact sh152 | exact sh161 | exact sh162 | rfl | assumption) rfl (by first | rfl | assumption) (by first | rfl | assumption) ?_
  refine xt_iconst (0) dX12_fails_8 (by decide) ?_
  exact xt_iret .boolean dX12_fails_9 rfl (by first | rfl | assumption) ⟨rfl, rfl, by rw [x_u_eq, pk_us]; exact h, fun j hj => by rw [x_u_eq, pk_un hj], fun b hb => x_u_ne hb⟩
set_option maxHeartbeats 1000000 in
theorem tX12_addsFault (φ : Nat × Nat) (b f x : Nat) (hF : m_F μ φ b) (hx : b ≤ x) (hx2 : x ≤ 600) (hf4 : f ≤ 4) : x_K sc d mX12_addsFault [.ref 152, .int (nI f), .int (nI x)] μ w (fun r μ' w' => r = none ∧ w' = w ∧ m_F μ' (s_blm φ true f x) (x + 1) ∧ (∀ j, j ≠ 16 → j ≠ 17 → μ' 152 j = μ 152 j) ∧ ∀ a, a ≠ 152 → μ' a = μ a) := by
  have h4 := hF.1
  refine x_K.of (by decide) (Nat.le_of_ble_eq_true rfl) ?_
  show x_T sc d mX12_addsFault 0 [.ref 152, .int (nI f), .int (nI x)] [] μ w _
  refine xt_aload_n _ dX12_addsFault_0 rfl ?_
  refine xt_geti dX12_addsFault_1 kfX12_118 (by first | exact sh152 | exact sh161 | exact sh162 | rfl | assumption) rfl ?_
  rw [hF.2.1]
  refine xt_if_eq 31 dX12_addsFault_4 (by decide) (fun t4 => ?_) (fun f4 => ?_)
  · refine xt_aload_n _ dX12_addsFault_31 rfl ?_
    refine xt_iload_n _ dX12_addsFault_32 rfl ?_
    refine xt_puti dX12_addsFault_33 kpX12_118 (by first | exact sh152 | exact sh161 | exact sh162 | rfl | assumption) rfl (by first | rfl | assumption) (by first | rfl | assumption) ?_
    refine xt_aload_n _ dX12_addsFault_36 rfl ?_
    refine xt_iload_n _ dX12_addsFault_37 rfl ?_
    refine xt_puti dX12_addsFault_38 kpX12_121 (by first | exact sh152 | exact sh161 | exact sh162 | rfl | assumption) rfl (by first | rfl | assumption) (by first | rfl | assumption) ?_
    exact xt_ret dX12_addsFault_41 rfl ⟨rfl, rfl, by rw [s_blm, if_pos ⟨(nI_eq (b := 0) (by omega) (by decide)).mp t4, rfl⟩]; exact ⟨hf4, rfl, fun _ => ⟨rfl, by show x < x + 1; omega⟩⟩, fun j h1 h2 => by rw [x_u_eq, pk_un h2, x_u_eq, pk_un h1], fun a h => by rw [x_u_ne h, x_u_ne h]⟩
  · have hz : φ.1 ≠ 0 := fun z => f4 (by rw [z]; rfl)
    obtain ⟨h17, hlt⟩ := hF.2.2 hz
    refine xt_iload_n _ dX12_addsFault_7 rfl ?_
    refine xt_aload_n _ dX12_addsFault_8 rfl ?_
    refine xt_geti dX12_addsFault_9 kfX12_121 (by first | exact sh152 | exact sh161 | exact sh162 | rfl | assumption) rfl ?_
    rw [h17]
    refine xt_icmp_lt 31 dX12_addsFault_12 (by decide) (fun q => absurd q (fun z => absurd ((nI_ltI (by omega) (by omega)).mp z) (by omega))) (fun _ => ?_)
    refine xt_iload_n _ dX12_addsFault_15 rfl ?_
    refine xt_aload_n _ dX12_addsFault_16 rfl ?_
    refine xt_geti dX12_addsFault_17 kfX12_121 (by first | exact sh152 | exact sh161 | exact sh162 | rfl | assumption) rfl ?_
    rw [h17]
    refine xt_icmp_ne 41 dX12_addsFault_20 (by decide) (fun _ => ?_) (fun q => absurd q (fun z => absurd ((nI_eq (by omega) (by omega)).mp z) (by omega)))
    exact xt_ret dX12_addsFault_41 rfl ⟨rfl, rfl, by rw [s_blm, if_neg (fun z => f4 (by rw [z.1]; rfl))]; exact ⟨hF.1, hF.2.1, fun z => ⟨(hF.2.2 z).1, by have := (hF.2.2 z).2; omega⟩⟩, fun _ _ _ => rfl, fun _ _ => rfl⟩
set_option maxHeartbeats 2000000 in
theorem tX12_take (T : Nat → Nat) (L p : Nat) (φ : Nat × Nat) (hK : m_K μ w T L p) (hF : m_F μ φ p) (i lo hi : Nat) (hi4 : i < 4) (hlo : lo ≤ 99) (hhi : hi ≤ 99) : x_K sc (d + 2) mX12_take [.ref 152, .int (nI i), .int (nI lo), .int (nI hi)] μ w (fun r μ' w' => (s_kd T L p = 2 → r = some (.int 1) ∧ m_K μ' w' T L (s_te T L p) ∧ m_F μ' (s_blm φ (decide (s_va T L p < lo ∨ hi < s_va T L p)) 2 (s_sp T L p)) (s_te T L p) ∧ μ' 162 i = nI (s_va T L p) ∧ (∀ j, j ≠ i → μ' 162 j = μ 162 j) ∧ μ' 152 21 = (if decide (s_va T L p < lo ∨ hi < s_va T L p) then 0 else μ 152 21)) ∧ (s_kd T L p ≠ 2 → r = some (.int 0) ∧ μ' 152 15 = nI (s_sp T L p)) ∧ (∀ j, j ≠ 9 → j ≠ 11 → j ≠ 12 → j ≠ 13 → j ≠ 15 → j ≠ 16 → j ≠ 17 → j ≠ 21 → μ' 152 j = μ 152 j) ∧ ∀ a, a ≠ 152 → a ≠ 162 → μ' a = μ a) := by
  have hL := hK.1.2.1
  have htl := s_te_le hK.1.2.2.2 hK.2.1
  have hsl := s_sp_le hK.1.2.2.2 hK.2.1
  have hF1 : m_F (x_u μ 162 (upd (μ 162) i (nI (s_va T L p)))) φ p := hF.cg rfl rfl (Nat.le_refl _)
  refine x_K.of (by decide) (Nat.le_of_ble_eq_true rfl) ?_
  show x_T sc (d + 2) mX12_take 0 [.ref 152, .int (nI i), .int (nI lo), .int (nI hi)] [] μ w _
  refine xt_aload_n _ dX12_take_0 rfl ?_
  refine xt_geti dX12_take_1 kfX12_109 (by first | exact sh152 | exact sh161 | exact sh162 | rfl | assumption) rfl ?_
  refine xt_iconst (3) dX12_take_4 (by decide) ?_
  refine xt_icmp_eq 13 dX12_take_5 (by decide) (fun t5 => ?_) (fun f5 => ?_)
  · have hk2 : s_kd T L p = 2 := (hK.kd (k := 2) (by decide)).mp t5
    have hva : s_va T L p ≤ 99 := s_va_le hK.1.2.2.2 hk2
    refine xt_aload_n _ dX12_take_13 rfl ?_
    refine xt_getr _ dX12_take_14 kfX12_38 (by first | exact sh152 | exact sh161 | exact sh162 | rfl | assumption) rfl ?_
    refine xt_iload_n _ dX12_take_17 rfl ?_
    refine xt_aload_n _ dX12_take_18 rfl ?_
    refine xt_geti dX12_take_19 kfX12_112 (by first | exact sh152 | exact sh161 | exact sh162 | rfl | assumption) rfl ?_
    rw [hK.2.2.2.2.2.1 hk2]
    refine xt_ast dX12_take_22 (by first | exact sh152 | exact sh161 | exact sh162 | rfl | assumption) (by exact vp_in_nI (by omega) (by decide)) ?_
    rw [nI_clamp (by omega)]
    refine xt_aload_n _ dX12_take_23 rfl ?_
    refine xt_geti dX12_take_24 kfX12_112 (by first | exact sh152 | exact sh161 | exact sh162 | rfl | assumption) rfl ?_
    rw [show (x_u μ 162 (upd (μ 162) i (nI (s_va T L p)))) 152 13 = nI (s_va T L p) from hK.2.2.2.2.2.1 hk2]
    refine xt_iload_n _ dX12_take_27 rfl ?_
    refine xt_iload_n _ dX12_take_28 rfl ?_
    refine xt_cS _ dX12_take_29 klX12_84 (tX12_in sc _ _ _ _ _ _) rfl rfl (Nat.le_of_ble_eq_true rfl) ?_
    refine xt_if_ne 49 dX12_take_32 (by decide) (fun t32 => ?_) (fun f32 => ?_)
    · refine xt_aload_n _ dX12_take_49 rfl ?_
      refine xt_callV _ dX12_take_50 klX12_136 (tX12_token sc _ (x_u μ 162 (upd (μ 162) i (nI (s_va T L p)))) _ T L (hK.1.cg rfl rfl) (s_te T L p) htl.2.2 (hK.2.2.2.2.1 (by omega))) sh152 rfl rfl (Nat.le_of_ble_eq_true rfl) (fun r5 μ5 w5 q5 => ?_)
      obtain ⟨rfl, q5⟩ := q5
      change x_T _ _ _ _ _ _ _ _ _
      refine xt_iconst (1) dX12_take_53 (by decide) ?_
      have hbd : decide (s_va T L p < lo ∨ hi < s_va T L p) = false := decide_eq_false (by have := s_in_1 t32; rw [nI_ltI (by omega) (by omega), nI_ltI (by omega) (by omega)] at this; omega)
      refine xt_iret .boolean dX12_take_54 rfl (by rfl) ?_
      rw [hbd]
      refine ⟨fun _ => ⟨rfl, m_K.next (μ := (x_u μ 162 (upd (μ 162) i (nI (s_va T L p))))) (hK.1.cg rfl rfl) htl.2.2 q5, ?_, by rw [q5.2.2.2.2.2.2 162 (by decide), x_u_eq, pk_us], fun j hj => by rw [q5.2.2.2.2.2.2 162 (by decide), x_u_eq, pk_un hj], ?_⟩, fun h => absurd hk2 h, fun j h1 h2 h3 h4 _ _ _ _ => by rw [q5.2.2.2.2.2.1 j h1 h2 h3 h4, x_u_ne (by decide)], fun a h1 h2 => by rw [q5.2.2.2.2.2.2 a h1, x_u_ne h2]⟩
      · rw [s_blm, if_neg (fun z => absurd z.2 (by decide))]
        exact hF1.cg (q5.2.2.2.2.2.1 16 (by decide) (by decide) (by decide) (by decide)) (q5.2.2.2.2.2.1 17 (by decide) (by decide) (by decide) (by decide)) htl.2.1
      · rw [q5.2.2.2.2.2.1 21 (by decide) (by decide) (by decide) (by decide), x_u_ne (by decide)]; rfl
    · refine xt_aload_n _ dX12_take_35 rfl ?_
      refine xt_iconst (2) dX12_take_36 (by decide) ?_
      refine xt_aload_n _ dX12_take_37 rfl ?_
      refine xt_geti dX12_take_38 kfX12_102 (by first | exact sh152 | exact sh161 | exact sh162 | rfl | assumption) rfl ?_
      rw [show (x_u μ 162 (upd (μ 162) i (nI (s_va T L p)))) 152 11 = nI (s_sp T L p) from hK.2.2.1]
      refine xt_callV _ dX12_take_41 klX12_128 (tX12_addsFault sc _ (x_u μ 162 (upd (μ 162) i (nI (s_va T L p)))) w φ p 2 (s_sp T L p) hF1 hsl.1 (by omega) (by decide)) sh152 rfl rfl (Nat.le_of_ble_eq_true rfl) (fun r4 μ4 w4 q4 => ?_)
      obtain ⟨rfl, rfl, hF4, hj4, hf4⟩ := q4
      change x_T _ _ _ _ _ _ _ _ _
      refine xt_aload_n _ dX12_take_44 rfl ?_
      refine xt_iconst (0) dX12_take_45 (by decide) ?_
      refine xt_puti dX12_take_46 kpX12_132 (by first | exact sh152 | exact sh161 | exact sh162 | rfl | assumption) rfl (by first | rfl | assumption) (by first | rfl | assumption) ?_
      refine xt_aload_n _ dX12_take_49 rfl ?_
      refine xt_callV _ dX12_take_50 klX12_136 (tX12_token sc _ (x_u μ4 152 (upd (μ4 152) 21 0)) _ T L (hK.1.cg (by rw [x_u_eq, pk_un (by decide), hj4 10 (by decide) (by decide)]; rfl) (by rw [x_u_ne (by decide), hf4 153 (by decide)]; rfl)) (s_te T L p) htl.2.2 (by rw [x_u_eq, pk_un (by decide), hj4 9 (by decide) (by decide)]; exact hK.2.2.2.2.1 (by omega))) sh152 rfl rfl (Nat.le_of_ble_eq_true rfl) (fun r5 μ5 w5 q5 => ?_)
      obtain ⟨rfl, q5⟩ := q5
      change x_T _ _ _ _ _ _ _ _ _
      refine xt_iconst (1) dX12_take_53 (by decide) ?_
      have hbd : decide (s_va T L p < lo ∨ hi < s_va T L p) = true := decide_eq_true (by have := s_in_2 f32; rw [nI_ltI (by omega) (by omega), nI_ltI (by omega) (by omega)] at this; omega)
      refine xt_iret .boolean dX12_take_54 rfl (by rfl) ?_
      rw [hbd]
      refine ⟨fun _ => ⟨rfl, m_K.next (hK.1.cg (by rw [x_u_eq, pk_un (by decide), hj4 10 (by decide) (by decide)]; rfl) (by rw [x_u_ne (by decide), hf4 153 (by decide)]; rfl)) htl.2.2 q5, ?_, by rw [q5.2.2.2.2.2.2 162 (by decide), x_u_ne (by decide), hf4 162 (by decide), x_u_eq, pk_us], fun j hj => by rw [q5.2.2.2.2.2.2 162 (by decide), x_u_ne (by decide), hf4 162 (by decide), x_u_eq, pk_un hj], ?_⟩, fun h => absurd hk2 h, fun j h1 h2 h3 h4 _ h6 h7 h8 => by rw [q5.2.2.2.2.2.1 j h1 h2 h3 h4, x_u_eq, pk_un h8, hj4 j h6 h7, x_u_ne (by decide)], fun a h1 h2 => by rw [q5.2.2.2.2.2.2 a h1, x_u_ne h1, hf4 a h1, x_u_ne h2]⟩
      · exact hF4.cg (by rw [q5.2.2.2.2.2.1 16 (by decide) (by decide) (by decide) (by decide), x_u_eq, pk_un (by decide)]) (by rw [q5.2.2.2.2.2.1 17 (by decide) (by decide) (by decide) (by decide), x_u_eq, pk_un (by decide)]) (s_sp_lt (by omega) (by omega))
      · rw [q5.2.2.2.2.2.1 21 (by decide) (by decide) (by decide) (by decide), x_u_eq, pk_us]; rfl
  · have hk2 : s_kd T L p ≠ 2 := fun z => f5 ((hK.kd (by decide)).mpr z)
    refine xt_aload_n _ dX12_take_8 rfl ?_
    refine xt_callV _ dX12_take_9 klX12_124 (tX12_fails sc _ μ w _ hK.2.2.1) sh152 rfl rfl (Nat.le_of_ble_eq_true rfl) (fun r5 μ5 w5 q5 => ?_)
    obtain ⟨rfl, rfl, q15, qj, qa⟩ := q5
    change x_T _ _ _ _ _ (.int 0 :: _) _ _ _
    exact xt_iret .boolean dX12_take_12 rfl (by rfl) ⟨fun h => absurd h hk2, fun _ => ⟨rfl, q15⟩, fun j _ _ _ _ h _ _ _ => qj j h, fun a h _ => qa a h⟩
set_option maxHeartbeats 1000000 in
theorem tX12_full (φ : Nat × Nat) (b c most a x : Nat) (hF : m_F μ φ b) (hb : b ≤ a) (ha : a ≤ 600) (hc : c < 161) (hx : μ 161 c = nI x) (hxm : x ≤ most) (hm : most ≤ 99) : x_K sc (d + 1) mX12_full [.ref 152, .int (nI c), .int (nI most), .int (nI a)] μ w (fun r μ' w' => r = none ∧ w' = w ∧ m_F μ' (s_blm φ (decide (x = most)) 3 a) (a + 1) ∧ (∀ j, j ≠ 16 → j ≠ 17 → μ' 152 j = μ 152 j) ∧ ∀ b, b ≠ 152 → μ' b = μ b) := by
  refine x_K.of (by decide) (Nat.le_of_ble_eq_true rfl) ?_
  show x_T sc (d + 1) mX12_full 0 [.ref 152, .int (nI c), .int (nI most), .int (nI a)] [] μ w _
  refine xt_aload_n _ dX12_full_0 rfl ?_
  refine xt_getr _ dX12_full_1 kfX12_35 (by first | exact sh152 | exact sh161 | exact sh162 | rfl | assumption) rfl ?_
  refine xt_iload_n _ dX12_full_4 rfl ?_
  refine xt_ald dX12_full_5 (by first | exact sh152 | exact sh161 | exact sh162 | rfl | assumption) (by exact vp_in_nI (by omega) (by decide)) ?_
  refine xt_iload_n _ dX12_full_6 rfl ?_
  rw [nI_clamp (by omega), hx]
  refine xt_icmp_ne 16 dX12_full_7 (by decide) (fun t7 => ?_) (fun f7 => ?_)
  · have n7 : ¬ (x = most) := fun z => t7 ((nI_eq (a := x) (b := most) (by omega) (by omega)).mpr z)
    exact xt_ret dX12_full_16 rfl ⟨rfl, rfl, by rw [decide_eq_false n7, s_blm, if_neg (fun z => absurd z.2 (by decide))]; exact hF.cg rfl rfl (by omega), fun _ _ _ => rfl, fun _ _ => rfl⟩
  · have n7 : x = most := (nI_eq (a := x) (b := most) (by omega) (by omega)).mp f7
    refine xt_aload_n _ dX12_full_10 rfl ?_
    refine xt_iconst (3) dX12_full_11 (by decide) ?_
    refine xt_iload_n _ dX12_full_12 rfl ?_
    refine xt_callV _ dX12_full_13 klX12_128 (tX12_addsFault sc _ μ w φ b 3 a hF hb ha (by decide)) sh152 rfl rfl (Nat.le_of_ble_eq_true rfl) (fun r4 μ4 w4 q4 => ?_)
    obtain ⟨rfl, rfl, hF4, hj4, hf4⟩ := q4
    change x_T _ _ _ _ _ _ _ _ _
    exact xt_ret dX12_full_16 rfl ⟨rfl, rfl, by rw [decide_eq_true n7]; exact hF4, hj4, hf4⟩
set_option maxHeartbeats 2000000 in
theorem tX12_keep (c most b st n x : Nat) (hc : c < 161) (hx : μ 161 c = nI x) (hxm : x ≤ most) (hm : most ≤ 99) (hn : n ≤ 4) (hb : b + st * 4 + most ≤ 161) (hcb : c < b) (hst : st ≤ 99) (hb2 : b < 161) : x_K sc d mX12_keep [.ref 152, .int (nI c), .int (nI most), .int (nI b), .int (nI st), .int (nI n)] μ w (fun r μ' w' => r = none ∧ w' = w ∧ μ' = (if x = most then μ else x_u μ 161 (upd (s_wm (μ 161) b st x (μ 162) n) c (nI (x + 1))))) := by
  refine x_K.of (by decide) (Nat.le_of_ble_eq_true rfl) ?_
  show x_T sc d mX12_keep 0 [.ref 152, .int (nI c), .int (nI most), .int (nI b), .int (nI st), .int (nI n), .retAddr 0, .retAddr 0] [] μ w _
  refine xt_aload_n _ dX12_keep_0 rfl ?_
  refine xt_getr _ dX12_keep_1 kfX12_35 (by first | exact sh152 | exact sh161 | exact sh162 | rfl | assumption) rfl ?_
  refine xt_iload_n _ dX12_keep_4 rfl ?_
  refine xt_ald dX12_keep_5 (by first | exact sh152 | exact sh161 | exact sh162 | rfl | assumption) (by exact vp_in_nI (by omega) (by decide)) ?_
  rw [nI_clamp (by omega), hx]
  refine xt_istore dX12_keep_6 (by decide) rfl ?_
  change x_T _ _ _ _ [_, _, _, _, _, _, _, _] _ _ _ _
  refine xt_iload _ dX12_keep_8 rfl ?_
  refine xt_iload_n _ dX12_keep_10 rfl ?_
  refine xt_icmp_ne 15 dX12_keep_11 (by decide) (fun t11 => ?_) (fun f11 => ?_)
  · have n11 : ¬ (x = most) := fun z => t11 ((nI_eq (a := x) (b := most) (by omega) (by omega)).mpr z)
    refine xt_iconst (0) dX12_keep_15 (by decide) ?_
    refine xt_istore dX12_keep_16 (by decide) rfl ?_
    change x_T _ _ _ _ [_, _, _, _, _, _, _, _] _ _ _ _
    have L18 : ∀ (n18 m : Nat) (μ2 : x_Me) (h161 : μ2 161 = s_wm (μ 161) b st x (μ 162) m) (hf : ∀ a, a ≠ 161 → μ2 a = μ a), m + n18 = n → x_T sc d mX12_keep 18 [.ref 152, .int (nI c), .int (nI most), .int (nI b), .int (nI st), .int (nI n), .int (nI x), .int (nI m)] [] μ2 w (fun r μ' w' => r = none ∧ w' = w ∧ μ' = (if x = most then μ else x_u μ 161 (upd (s_wm (μ 161) b st x (μ 162) n) c (nI (x + 1))))) := by
      intro n18
      induction n18 with
      | zero =>
        intro m μ2 h161 hf hmn
        obtain rfl : n = m := by omega
        refine xt_iload _ dX12_keep_18 rfl ?_
        refine xt_iload _ dX12_keep_20 rfl ?_
        refine xt_icmp_ge 53 dX12_keep_22 (by decide) (fun _ => ?_) (fun q => absurd (Int32.le_refl _) q)
        refine xt_aload_n _ dX12_keep_53 rfl ?_
        refine xt_getr _ dX12_keep_54 kfX12_35 (by first | exact sh152 | exact sh161 | exact sh162 | rfl | assumption) rfl ?_
        refine xt_iload_n _ dX12_keep_57 rfl ?_
        refine xt_dup2 dX12_keep_58 rfl rfl ?_
        refine xt_ald dX12_keep_59 (by first | exact sh152 | exact sh161 | exact sh162 | rfl | assumption) (by exact vp_in_nI (by omega) (by decide)) ?_
        refine xt_iconst (1) dX12_keep_60 (by decide) ?_
        refine xt_iadd dX12_keep_61 ?_
        refine xt_ast dX12_keep_62 (by first | exact sh152 | exact sh161 | exact sh162 | rfl | assumption) (by exact vp_in_nI (by omega) (by decide)) ?_
        exact xt_ret dX12_keep_63 rfl ⟨rfl, rfl, by rw [if_neg n11]; funext b2; by_cases h : b2 = 161; rw [h, x_u_eq, x_u_eq, nI_clamp (by omega), h161, s_wm_ne (by omega), hx, nI_succ]; rw [x_u_ne h, x_u_ne h]; exact hf b2 h⟩
      | succ n18 ih18 =>
        intro m μ2 h161 hf hmn
        have hlt : m < n := by omega
        have hms : st * m ≤ st * 4 := Nat.mul_le_mul_left st (by omega)
        have hix : nI b + nI st * nI m + nI x = nI (b + st * m + x) := by rw [pk_mul, nI_add, nI_add]
        refine xt_iload _ dX12_keep_18 rfl ?_
        refine xt_iload _ dX12_keep_20 rfl ?_
        refine xt_icmp_ge 53 dX12_keep_22 (by decide) (fun q => absurd q (nI_ge hlt (by omega))) (fun _ => ?_)
        refine xt_aload_n _ dX12_keep_25 rfl ?_
        refine xt_getr _ dX12_keep_26 kfX12_35 (by first | exact sh152 | exact sh161 | exact sh162 | rfl | assumption) rfl ?_
        refine xt_iload_n _ dX12_keep_29 rfl ?_
        refine xt_iload _ dX12_keep_30 rfl ?_
        refine xt_iload _ dX12_keep_32 rfl ?_
        refine xt_imul dX12_keep_34 ?_
        refine xt_iadd dX12_keep_35 ?_
        refine xt_iload _ dX12_keep_36 rfl ?_
        refine xt_iadd dX12_keep_38 ?_
        refine xt_aload_n _ dX12_keep_39 rfl ?_
        refine xt_getr _ dX12_keep_40 kfX12_38 (by first | exact sh152 | exact sh161 | exact sh162 | rfl | assumption) rfl ?_
        refine xt_iload _ dX12_keep_43 rfl ?_
        refine xt_ald dX12_keep_45 (by first | exact sh152 | exact sh161 | exact sh162 | rfl | assumption) (by exact vp_in_nI (by omega) (by decide)) ?_
        refine xt_ast dX12_keep_46 (by first | exact sh152 | exact sh161 | exact sh162 | rfl | assumption) (by rw [hix]; exact vp_in_nI (by omega) (by decide)) ?_
        refine xt_inc _ (1) dX12_keep_47 rfl (by decide) (by decide) rfl ?_
        change x_T _ _ _ _ [_, _, _, _, _, _, _, _] _ _ _ _
        refine xt_goto 18 dX12_keep_50 (by decide) ?_
        refine x_T.ls (by rw [nI_succ m]) (ih18 (m + 1) _ ?_ (fun a h => by rw [x_u_ne h]; exact hf a h) (by omega))
        rw [x_u_eq, hix, nI_clamp (by omega), nI_clamp (by omega), h161, hf 162 (by decide)]; rfl
    exact L18 n 0 μ rfl (fun _ _ => rfl) (by omega)
  · have n11 : x = most := (nI_eq (a := x) (b := most) (by omega) (by omega)).mp f11
    exact xt_ret dX12_keep_14 rfl ⟨rfl, rfl, by rw [if_pos n11]⟩
end TAKEM
