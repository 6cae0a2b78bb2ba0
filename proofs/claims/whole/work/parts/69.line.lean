/-! texts: the class reads a line -/
def s_qs (T : Nat → Nat) (L p : Nat) : Nat → Nat
  | 0 => p
  | i + 1 => s_te T L (s_qs T L p i)
def s_blm (φ : Nat × Nat) (c : Bool) (f pl : Nat) : Nat × Nat := if φ.1 = 0 ∧ c = true then (f, pl) else φ
def s_bd (k i x : Nat) : Bool := decide (x < s_lw k i ∨ s_hg k i < x)
def s_nv (T : Nat → Nat) (L p i : Nat) : Nat := s_va T L (s_qs T L p i)
def s_nf (T : Nat → Nat) (L k p : Nat) (φ : Nat × Nat) : Nat → Nat × Nat
  | 0 => φ
  | i + 1 => s_blm (s_nf T L k p φ i) (s_bd k i (s_nv T L p i)) 2 (s_sp T L (s_qs T L p i))
def s_bn (T : Nat → Nat) (L p g : Nat) : Nat := s_fp (fun i => decide (s_kd T L (s_qs T L p i) ≠ 2)) g
def s_okl (T : Nat → Nat) (L p g : Nat) : Bool := decide (s_bn T L p g = 0 ∧ s_kd T L (s_qs T L p g) = 3)
def s_fpl (T : Nat → Nat) (L p g : Nat) : Nat := s_sp T L (s_qs T L p (if s_bn T L p g = 0 then g else s_bn T L p g - 1))
theorem s_sp_le {T : Nat → Nat} {L p : Nat} (hT : ∀ i, L ≤ i → T i = 0) (hp : p ≤ L) : p ≤ s_sp T L p ∧ s_sp T L p ≤ L := by
  have h := s_to_ok s_isB (a := p) (by decide) hT hp
  exact ⟨h.1, h.2.1⟩
theorem s_te_le {T : Nat → Nat} {L p : Nat} (hT : ∀ i, L ≤ i → T i = 0) (hp : p ≤ L) : s_sp T L p ≤ s_te T L p ∧ p ≤ s_te T L p ∧ s_te T L p ≤ L := by
  have h1 := s_sp_le hT hp
  have h2 : s_sp T L p ≤ s_te T L p ∧ s_te T L p ≤ L := s_eq_le hT h1.2
  exact ⟨h2.1, by omega, h2.2⟩
theorem s_qs_le {T : Nat → Nat} {L p : Nat} (hT : ∀ i, L ≤ i → T i = 0) (hp : p ≤ L) : ∀ i, p ≤ s_qs T L p i ∧ s_qs T L p i ≤ L
  | 0 => ⟨Nat.le_refl _, hp⟩
  | i + 1 => by
    have ih := s_qs_le hT hp i
    have h := s_te_le hT ih.2
    rw [s_qs]; exact ⟨by omega, h.2.2⟩
theorem s_blm_0 {φ : Nat × Nat} {c : Bool} {f pl : Nat} (hf : f ≠ 0) (h : (s_blm φ c f pl).1 = 0) : φ.1 = 0 ∧ c = false := by
  unfold s_blm at h
  by_cases hc : φ.1 = 0 ∧ c = true
  · rw [if_pos hc] at h; exact absurd h hf
  · rw [if_neg hc] at h
    exact ⟨h, by cases c; rfl; exact absurd ⟨h, rfl⟩ hc⟩
theorem s_nf_0 {T : Nat → Nat} {L k p : Nat} {φ : Nat × Nat} : ∀ {n : Nat}, (s_nf T L k p φ n).1 = 0 → φ.1 = 0 ∧ ∀ i, i < n → s_bd k i (s_nv T L p i) = false
  | 0, h => ⟨h, fun _ h => absurd h (by omega)⟩
  | n + 1, h => by
    obtain ⟨h1, h2⟩ := s_blm_0 (by decide) h
    obtain ⟨h3, h4⟩ := s_nf_0 (n := n) h1
    refine ⟨h3, fun i hi => ?_⟩
    by_cases he : i = n
    · rw [he]; exact h2
    · exact h4 i (by omega)
theorem s_bd_rg {k g : Nat} {v : Nat → Nat} (hg : g = s_gv k) (h : ∀ i, i < g → s_bd k i (v i) = false) : s_rgl k v := fun i hi => by
  have := of_decide_eq_false (h i (by omega))
  omega
/-- the reader between tokens -/
def c_R (μ : x_Me) (T : Nat → Nat) (L s p : Nat) (φ : Nat × Nat) (G : Nat → Nat) (mx : Nat) : Prop := c_B μ T L ∧ μ 115 8 = nI p ∧ μ 115 3 = nI φ.1 ∧ μ 115 4 = (if φ.1 = 0 then -1 else nI φ.2) ∧ c_G μ s G mx ∧ g_W s G ∧ p ≤ L
def c_fr (μ μ' : x_Me) : Prop := ∀ a, (a < 115 ∨ a = 127 ∨ 129 ≤ a) → μ' a = μ a
theorem c_fr.rf (μ : x_Me) : c_fr μ μ := fun _ _ => rfl
theorem c_fr.tr {μ μ1 μ2 : x_Me} (h1 : c_fr μ μ1) (h2 : c_fr μ1 μ2) : c_fr μ μ2 := fun a h => (h2 a h).trans (h1 a h)
theorem c_R.step {μ μ' : x_Me} {T : Nat → Nat} {L s p : Nat} {φ : Nat × Nat} {G : Nat → Nat} {mx : Nat} (h : c_R μ T L s p φ G mx) (q : s_PS μ μ' T L (s_sp T L p)) (hk : s_kd T L p ≠ 4) : c_R μ' T L s (s_te T L p) φ G mx := by
  obtain ⟨a, b, c, e, f, g, hp⟩ := h
  obtain ⟨q1, q2, q3, q4, q5, q6⟩ := q
  exact ⟨a.cg (q5 6 (by omega)) (q6 127 (by decide)), q3 hk, by rw [q5 3 (by omega)]; exact c, by rw [q5 4 (by omega)]; exact e, f.cg (q5 12 (by omega)) (fun a h1 h2 => q6 a (by omega)), g, (s_te_le a.2.2.2 hp).2.2⟩
theorem s_PS.fr {μ μ' : x_Me} {T : Nat → Nat} {L q : Nat} (h : s_PS μ μ' T L q) : c_fr μ μ' := fun a ha => h.2.2.2.2.2 a (by omega)
theorem x_rowGV (sc : Nat × (Nat → Int32)) : x_row sc 1000201 16 (fun j => [2, 2, 1, 3, 3, 2, 4, 0, 0, 1, 3, 3, 3, 1, 1, 1].getD j 0) := ⟨by decide, Or.inr ⟨(RX6, "GIVEN", 1000201, [2, 2, 1, 3, 3, 2, 4, 0, 0, 1, 3, 3, 3, 1, 1, 1]), by decide, rfl, rfl, rfl⟩⟩
theorem x_rowLW (sc : Nat × (Nat → Int32)) : x_row sc 1000202 64 (fun j => [0, 0, 0, 0, 0, 0, 0, 0, 0, 0, 0, 0, 0, 0, 1, 0, 0, 0, 0, 0, 1, 0, 0, 0, 0, 0, 0, 0, 0, 0, 0, 0, 0, 0, 0, 0, 0, 0, 0, 0, 0, 0, 0, 0, 0, 0, 1, 0, 0, 0, 1, 0, 0, 0, 0, 0, 0, 0, 0, 0, 0, 0, 0, 0].getD j 0) := ⟨by decide, Or.inr ⟨(RX6, "LOWEST", 1000202, [0, 0, 0, 0, 0, 0, 0, 0, 0, 0, 0, 0, 0, 0, 1, 0, 0, 0, 0, 0, 1, 0, 0, 0, 0, 0, 0, 0, 0, 0, 0, 0, 0, 0, 0, 0, 0, 0, 0, 0, 0, 0, 0, 0, 0, 0, 1, 0, 0, 0, 1, 0, 0, 0, 0, 0, 0, 0, 0, 0, 0, 0, 0, 0]), by decide, rfl, rfl, rfl⟩⟩
theorem x_rowHG (sc : Nat × (Nat → Int32)) : x_row sc 1000203 64 (fun j => [9, 9, 0, 0, 9, 9, 0, 0, 9, 0, 0, 0, 5, 18, 9, 0, 7, 5, 9, 0, 63, 20, 0, 0, 9, 9, 30, 10, 0, 0, 0, 0, 0, 0, 0, 0, 7, 0, 0, 0, 7, 9, 9, 0, 7, 5, 9, 0, 7, 5, 9, 0, 8, 0, 0, 0, 63, 0, 0, 0, 63, 0, 0, 0].getD j 0) := ⟨by decide, Or.inr ⟨(RX6, "GREATEST", 1000203, [9, 9, 0, 0, 9, 9, 0, 0, 9, 0, 0, 0, 5, 18, 9, 0, 7, 5, 9, 0, 63, 20, 0, 0, 9, 9, 30, 10, 0, 0, 0, 0, 0, 0, 0, 0, 7, 0, 0, 0, 7, 9, 9, 0, 7, 5, 9, 0, 7, 5, 9, 0, 8, 0, 0, 0, 63, 0, 0, 0, 63, 0, 0, 0]), by decide, rfl, rfl, rfl⟩⟩
theorem s_gvI : ∀ k, k < 16 → s_at 16 (fun j => [2, 2, 1, 3, 3, 2, 4, 0, 0, 1, 3, 3, 3, 1, 1, 1].getD j 0) (nI k) = nI (s_gv k) := by decide +kernel
theorem s_lwI : ∀ k, k < 16 → ∀ i, i < 4 → s_at 64 (fun j => [0, 0, 0, 0, 0, 0, 0, 0, 0, 0, 0, 0, 0, 0, 1, 0, 0, 0, 0, 0, 1, 0, 0, 0, 0, 0, 0, 0, 0, 0, 0, 0, 0, 0, 0, 0, 0, 0, 0, 0, 0, 0, 0, 0, 0, 0, 1, 0, 0, 0, 1, 0, 0, 0, 0, 0, 0, 0, 0, 0, 0, 0, 0, 0].getD j 0) (nI (4 * k + i)) = nI (s_lw k i) := by decide +kernel
theorem s_hgI : ∀ k, k < 16 → ∀ i, i < 4 → s_at 64 (fun j => [9, 9, 0, 0, 9, 9, 0, 0, 9, 0, 0, 0, 5, 18, 9, 0, 7, 5, 9, 0, 63, 20, 0, 0, 9, 9, 30, 10, 0, 0, 0, 0, 0, 0, 0, 0, 7, 0, 0, 0, 7, 9, 9, 0, 7, 5, 9, 0, 7, 5, 9, 0, 8, 0, 0, 0, 63, 0, 0, 0, 63, 0, 0, 0].getD j 0) (nI (4 * k + i)) = nI (s_hg k i) := by decide +kernel
theorem s_gv4 : ∀ k, k < 16 → s_gv k ≤ 4 := by decide
theorem s_hg99 : ∀ k, k < 16 → ∀ i, i < 4 → s_hg k i ≤ 99 ∧ s_lw k i ≤ 99 := by decide +kernel
theorem s_of16 {s k : Nat} (h : s_of s k) : k < 16 := by unfold s_of at h; omega
section LINE
variable (sc : Nat × (Nat → Int32)) (d : Nat) (μ : x_Me) (w : Int64)
set_option maxHeartbeats 1000000 in
theorem tX6_blame (T : Nat → Nat) (L s p : Nat) (φ : Nat × Nat) (G : Nat → Nat) (mx : Nat) (hR : c_R μ T L s p φ G mx) (f pl : Nat) (hf : φ.1 ≤ 4) (hf0 : f ≠ 0) : x_K sc d mX6_blame [.ref 115, .int (nI f), .int (nI pl)] μ w (fun r μ' _ => r = none ∧ c_R μ' T L s p (s_blm φ true f pl) G mx ∧ (∀ j, j ≠ 3 → j ≠ 4 → μ' 115 j = μ 115 j) ∧ ∀ a, a ≠ 115 → μ' a = μ a) := by
  obtain ⟨a, b, c, e, g, h, hp⟩ := hR
  refine x_K.of (by decide) (Nat.le_of_ble_eq_true rfl) ?_
  show x_T sc d mX6_blame 0 [.ref 115, .int (nI f), .int (nI pl)] [] μ w _
  refine xt_aload_n _ dX6_blame_0 rfl ?_
  refine xt_geti dX6_blame_1 kfX6_61 (by first | exact sh115 | exact sh116 | exact sh122 | exact sh124 | exact sh128 | rfl | assumption) rfl ?_
  rw [c]
  refine xt_if_ne 17 dX6_blame_4 (by decide) (fun t4 => ?_) (fun f4 => ?_)
  · exact xt_ret dX6_blame_17 rfl ⟨rfl, by rw [s_blm, if_neg (fun z => t4 (by rw [z.1]; rfl))]; exact ⟨a, b, c, e, g, h, hp⟩, fun _ _ _ => rfl, fun _ _ => rfl⟩
  · refine xt_aload_n _ dX6_blame_7 rfl ?_
    refine xt_iload_n _ dX6_blame_8 rfl ?_
    refine xt_puti dX6_blame_9 kpX6_61 (by first | exact sh115 | exact sh116 | exact sh122 | exact sh124 | exact sh128 | rfl | assumption) rfl (by first | rfl | assumption) (by first | rfl | assumption) ?_
    refine xt_aload_n _ dX6_blame_12 rfl ?_
    refine xt_iload_n _ dX6_blame_13 rfl ?_
    refine xt_puti dX6_blame_14 kpX6_64 (by first | exact sh115 | exact sh116 | exact sh122 | exact sh124 | exact sh128 | rfl | assumption) rfl (by first | rfl | assumption) (by first | rfl | assumption) ?_
    exact xt_ret dX6_blame_17 rfl ⟨rfl, by rw [s_blm, if_pos ⟨(nI_eq (b := 0) (by omega) (by decide)).mp f4, rfl⟩]; exact ⟨a.cg rfl rfl, b, rfl, by rw [if_neg hf0, x_u_eq, pk_us], g.cg rfl (fun _ h1 h2 => by rw [x_u_ne (by omega), x_u_ne (by omega)]), h, hp⟩, fun j h1 h2 => by rw [x_u_eq, pk_un h2, x_u_eq, pk_un h1], fun b hb => by rw [x_u_ne hb, x_u_ne hb]⟩
set_option maxHeartbeats 4000000 in
theorem tX6_isOneTooMany (s k : Nat) (G : Nat → Nat) (mx : Nat) (hs : s_of s k) (hC : c_G μ s G mx) (hW : g_W s G) : x_K sc d mX6_isOneTooMany [.ref 115, .int (nI k)] μ w (x_p (some (.int (if s_fl k G then 1 else 0))) μ w) := by
  rcases hs with ⟨rfl, hk⟩ | ⟨rfl, h1, h2⟩ | ⟨rfl, h1, h2⟩
  · have hk : k = 0 ∨ k = 1 ∨ k = 2 ∨ k = 3 ∨ k = 4 ∨ k = 5 ∨ k = 6 := by omega
    rcases hk with rfl | rfl | rfl | rfl | rfl | rfl | rfl
    · refine x_K.of (by decide) (Nat.le_of_ble_eq_true rfl) ?_
      show x_T sc d mX6_isOneTooMany 0 [.ref 115, .int 0] [] μ w _
      refine xt_iload_n _ dX6_isOneTooMany_0 rfl ?_
      refine xt_tabIn 72 dX6_isOneTooMany_1 (by decide) (by decide) (by rfl) (by decide) ?_
      refine xt_iconst (0) dX6_isOneTooMany_72 (by decide) ?_
      exact xt_iret .boolean dX6_isOneTooMany_73 rfl (by first | rfl | assumption) ⟨rfl, rfl, rfl⟩
    · have ee : μ 116 4 = nI (G 4) := (hC.1 rfl).1.1 4 (by decide)
      obtain ⟨⟨w0, w1, w2, w3, w4, w5, w6⟩, wR⟩ := (show f_W G from hW)
      refine x_K.of (by decide) (Nat.le_of_ble_eq_true rfl) ?_
      show x_T sc d mX6_isOneTooMany 0 [.ref 115, .int 1] [] μ w _
      refine xt_iload_n _ dX6_isOneTooMany_0 rfl ?_
      refine xt_tabIn 74 dX6_isOneTooMany_1 (by decide) (by decide) (by rfl) (by decide) ?_
      refine xt_aload_n _ dX6_isOneTooMany_74 rfl ?_
      refine xt_getr _ dX6_isOneTooMany_75 kfX6_12 (by first | exact sh115 | exact sh116 | exact sh122 | exact sh124 | exact sh128 | rfl | assumption) rfl ?_
      refine xt_geti dX6_isOneTooMany_78 kfX6_80 (by first | exact sh115 | exact sh116 | exact sh122 | exact sh124 | exact sh128 | rfl | assumption) rfl ?_
      refine xt_bipush (8) dX6_isOneTooMany_81 (by decide) ?_
      rw [ee]
      refine xt_icmp_lt 90 dX6_isOneTooMany_83 (by decide) (fun t83 => ?_) (fun f83 => ?_)
      · have n83 : G 4 < 8 := (nI_ltI (a := G 4) (b := 8) (by omega) (by omega)).mp t83
        refine xt_iconst (0) dX6_isOneTooMany_90 (by decide) ?_
        exact xt_iret .boolean dX6_isOneTooMany_91 rfl (by first | rfl | assumption) ⟨by rw [show s_fl 1 G = false from decide_eq_false (p := 8 ≤ G 4) (by omega)]; rfl, rfl, rfl⟩
      · have n83 : ¬ (G 4 < 8) := fun z => f83 ((nI_ltI (a := G 4) (b := 8) (by omega) (by omega)).mpr z)
        refine xt_iconst (1) dX6_isOneTooMany_86 (by decide) ?_
        refine xt_goto 91 dX6_isOneTooMany_87 (by decide) ?_
        exact xt_iret .boolean dX6_isOneTooMany_91 rfl (by first | rfl | assumption) ⟨by rw [show s_fl 1 G = true from decide_eq_true (p := 8 ≤ G 4) (by omega)]; rfl, rfl, rfl⟩
    · refine x_K.of (by decide) (Nat.le_of_ble_eq_true rfl) ?_
      show x_T sc d mX6_isOneTooMany 0 [.ref 115, .int 2] [] μ w _
      refine xt_iload_n _ dX6_isOneTooMany_0 rfl ?_
      refine xt_tabIn 72 dX6_isOneTooMany_1 (by decide) (by decide) (by rfl) (by decide) ?_
      refine xt_iconst (0) dX6_isOneTooMany_72 (by decide) ?_
      exact xt_iret .boolean dX6_isOneTooMany_73 rfl (by first | rfl | assumption) ⟨rfl, rfl, rfl⟩
    · have ee : μ 116 3 = nI (G 3) := (hC.1 rfl).1.1 3 (by decide)
      obtain ⟨⟨w0, w1, w2, w3, w4, w5, w6⟩, wR⟩ := (show f_W G from hW)
      refine x_K.of (by decide) (Nat.le_of_ble_eq_true rfl) ?_
      show x_T sc d mX6_isOneTooMany 0 [.ref 115, .int 3] [] μ w _
      refine xt_iload_n _ dX6_isOneTooMany_0 rfl ?_
      refine xt_tabIn 92 dX6_isOneTooMany_1 (by decide) (by decide) (by rfl) (by decide) ?_
      refine xt_aload_n _ dX6_isOneTooMany_92 rfl ?_
      refine xt_getr _ dX6_isOneTooMany_93 kfX6_12 (by first | exact sh115 | exact sh116 | exact sh122 | exact sh124 | exact sh128 | rfl | assumption) rfl ?_
      refine xt_geti dX6_isOneTooMany_96 kfX6_127 (by first | exact sh115 | exact sh116 | exact sh122 | exact sh124 | exact sh128 | rfl | assumption) rfl ?_
      refine xt_bipush (6) dX6_isOneTooMany_99 (by decide) ?_
      rw [ee]
      refine xt_icmp_lt 108 dX6_isOneTooMany_101 (by decide) (fun t101 => ?_) (fun f101 => ?_)
      · have n101 : G 3 < 6 := (nI_ltI (a := G 3) (b := 6) (by omega) (by omega)).mp t101
        refine xt_iconst (0) dX6_isOneTooMany_108 (by decide) ?_
        exact xt_iret .boolean dX6_isOneTooMany_109 rfl (by first | rfl | assumption) ⟨by rw [show s_fl 3 G = false from decide_eq_false (p := 6 ≤ G 3) (by omega)]; rfl, rfl, rfl⟩
      · have n101 : ¬ (G 3 < 6) := fun z => f101 ((nI_ltI (a := G 3) (b := 6) (by omega) (by omega)).mpr z)
        refine xt_iconst (1) dX6_isOneTooMany_104 (by decide) ?_
        refine xt_goto 109 dX6_isOneTooMany_105 (by decide) ?_
        exact xt_iret .boolean dX6_isOneTooMany_109 rfl (by first | rfl | assumption) ⟨by rw [show s_fl 3 G = true from decide_eq_true (p := 6 ≤ G 3) (by omega)]; rfl, rfl, rfl⟩
    · refine x_K.of (by decide) (Nat.le_of_ble_eq_true rfl) ?_
      show x_T sc d mX6_isOneTooMany 0 [.ref 115, .int 4] [] μ w _
      refine xt_iload_n _ dX6_isOneTooMany_0 rfl ?_
      refine xt_tabIn 72 dX6_isOneTooMany_1 (by decide) (by decide) (by rfl) (by decide) ?_
      refine xt_iconst (0) dX6_isOneTooMany_72 (by decide) ?_
      exact xt_iret .boolean dX6_isOneTooMany_73 rfl (by first | rfl | assumption) ⟨rfl, rfl, rfl⟩
    · have ee : μ 116 5 = nI (G 5) := (hC.1 rfl).1.1 5 (by decide)
      obtain ⟨⟨w0, w1, w2, w3, w4, w5, w6⟩, wR⟩ := (show f_W G from hW)
      refine x_K.of (by decide) (Nat.le_of_ble_eq_true rfl) ?_
      show x_T sc d mX6_isOneTooMany 0 [.ref 115, .int 5] [] μ w _
      refine xt_iload_n _ dX6_isOneTooMany_0 rfl ?_
      refine xt_tabIn 110 dX6_isOneTooMany_1 (by decide) (by decide) (by rfl) (by decide) ?_
      refine xt_aload_n _ dX6_isOneTooMany_110 rfl ?_
      refine xt_getr _ dX6_isOneTooMany_111 kfX6_12 (by first | exact sh115 | exact sh116 | exact sh122 | exact sh124 | exact sh128 | rfl | assumption) rfl ?_
      refine xt_geti dX6_isOneTooMany_114 kfX6_130 (by first | exact sh115 | exact sh116 | exact sh122 | exact sh124 | exact sh128 | rfl | assumption) rfl ?_
      refine xt_bipush (6) dX6_isOneTooMany_117 (by decide) ?_
      rw [ee]
      refine xt_icmp_lt 126 dX6_isOneTooMany_119 (by decide) (fun t119 => ?_) (fun f119 => ?_)
      · have n119 : G 5 < 6 := (nI_ltI (a := G 5) (b := 6) (by omega) (by omega)).mp t119
        refine xt_iconst (0) dX6_isOneTooMany_126 (by decide) ?_
        exact xt_iret .boolean dX6_isOneTooMany_127 rfl (by first | rfl | assumption) ⟨by rw [show s_fl 5 G = false from decide_eq_false (p := 6 ≤ G 5) (by omega)]; rfl, rfl, rfl⟩
      · have n119 : ¬ (G 5 < 6) := fun z => f119 ((nI_ltI (a := G 5) (b := 6) (by omega) (by omega)).mpr z)
        refine xt_iconst (1) dX6_isOneTooMany_122 (by decide) ?_
        refine xt_goto 127 dX6_isOneTooMany_123 (by decide) ?_
        exact xt_iret .boolean dX6_isOneTooMany_127 rfl (by first | rfl | assumption) ⟨by rw [show s_fl 5 G = true from decide_eq_true (p := 6 ≤ G 5) (by omega)]; rfl, rfl, rfl⟩
    · have ee : μ 116 6 = nI (G 6) := (hC.1 rfl).1.1 6 (by decide)
      obtain ⟨⟨w0, w1, w2, w3, w4, w5, w6⟩, wR⟩ := (show f_W G from hW)
      refine x_K.of (by decide) (Nat.le_of_ble_eq_true rfl) ?_
      show x_T sc d mX6_isOneTooMany 0 [.ref 115, .int 6] [] μ w _
      refine xt_iload_n _ dX6_isOneTooMany_0 rfl ?_
      refine xt_tabIn 128 dX6_isOneTooMany_1 (by decide) (by decide) (by rfl) (by decide) ?_
      refine xt_aload_n _ dX6_isOneTooMany_128 rfl ?_
      refine xt_getr _ dX6_isOneTooMany_129 kfX6_12 (by first | exact sh115 | exact sh116 | exact sh122 | exact sh124 | exact sh128 | rfl | assumption) rfl ?_
      refine xt_geti dX6_isOneTooMany_132 kfX6_133 (by first | exact sh115 | exact sh116 | exact sh122 | exact sh124 | exact sh128 | rfl | assumption) rfl ?_
      refine xt_bipush (6) dX6_isOneTooMany_135 (by decide) ?_
      rw [ee]
      refine xt_icmp_lt 144 dX6_isOneTooMany_137 (by decide) (fun t137 => ?_) (fun f137 => ?_)
      · have n137 : G 6 < 6 := (nI_ltI (a := G 6) (b := 6) (by omega) (by omega)).mp t137
        refine xt_iconst (0) dX6_isOneTooMany_144 (by decide) ?_
        exact xt_iret .boolean dX6_isOneTooMany_145 rfl (by first | rfl | assumption) ⟨by rw [show s_fl 6 G = false from decide_eq_false (p := 6 ≤ G 6) (by omega)]; rfl, rfl, rfl⟩
      · have n137 : ¬ (G 6 < 6) := fun z => f137 ((nI_ltI (a := G 6) (b := 6) (by omega) (by omega)).mpr z)
        refine xt_iconst (1) dX6_isOneTooMany_140 (by decide) ?_
        refine xt_goto 145 dX6_isOneTooMany_141 (by decide) ?_
        exact xt_iret .boolean dX6_isOneTooMany_145 rfl (by first | rfl | assumption) ⟨by rw [show s_fl 6 G = true from decide_eq_true (p := 6 ≤ G 6) (by omega)]; rfl, rfl, rfl⟩
  · have hk : k = 7 ∨ k = 8 ∨ k = 9 ∨ k = 10 ∨ k = 11 ∨ k = 12 := by omega
    rcases hk with rfl | rfl | rfl | rfl | rfl | rfl
    · have ee : μ 122 0 = nI (G 0) := (hC.2.2.1 rfl).1
      have w0 : G 0 ≤ 40 := (show gd_W G from hW).1
      refine x_K.of (by decide) (Nat.le_of_ble_eq_true rfl) ?_
      show x_T sc d mX6_isOneTooMany 0 [.ref 115, .int 7] [] μ w _
      refine xt_iload_n _ dX6_isOneTooMany_0 rfl ?_
      refine xt_tabIn 146 dX6_isOneTooMany_1 (by decide) (by decide) (by rfl) (by decide) ?_
      refine xt_iload_n _ dX6_isOneTooMany_146 rfl ?_
      refine xt_bipush (13) dX6_isOneTooMany_147 (by decide) ?_
      refine xt_icmp_ge 172 dX6_isOneTooMany_149 (by decide) (fun q => absurd q (by decide)) (fun _ => ?_)
      refine xt_aload_n _ dX6_isOneTooMany_152 rfl ?_
      refine xt_getr _ dX6_isOneTooMany_153 kfX6_21 (by first | exact sh115 | exact sh116 | exact sh122 | exact sh124 | exact sh128 | rfl | assumption) rfl ?_
      refine xt_geti dX6_isOneTooMany_156 kfX6_57 (by first | exact sh115 | exact sh116 | exact sh122 | exact sh124 | exact sh128 | rfl | assumption) rfl ?_
      refine xt_bipush (40) dX6_isOneTooMany_159 (by decide) ?_
      rw [ee]
      refine xt_icmp_lt 168 dX6_isOneTooMany_161 (by decide) (fun t161 => ?_) (fun f161 => ?_)
      · have n161 : G 0 < 40 := (nI_ltI (a := G 0) (b := 40) (by omega) (by omega)).mp t161
        refine xt_iconst (0) dX6_isOneTooMany_168 (by decide) ?_
        refine xt_goto 189 dX6_isOneTooMany_169 (by decide) ?_
        exact xt_iret .boolean dX6_isOneTooMany_189 rfl (by first | rfl | assumption) ⟨by rw [show s_fl 7 G = false from decide_eq_false (p := 40 ≤ G 0) (by omega)]; rfl, rfl, rfl⟩
      · have n161 : ¬ (G 0 < 40) := fun z => f161 ((nI_ltI (a := G 0) (b := 40) (by omega) (by omega)).mpr z)
        refine xt_iconst (1) dX6_isOneTooMany_164 (by decide) ?_
        refine xt_goto 189 dX6_isOneTooMany_165 (by decide) ?_
        exact xt_iret .boolean dX6_isOneTooMany_189 rfl (by first | rfl | assumption) ⟨by rw [show s_fl 7 G = true from decide_eq_true (p := 40 ≤ G 0) (by omega)]; rfl, rfl, rfl⟩
    · have ee : μ 122 0 = nI (G 0) := (hC.2.2.1 rfl).1
      have w0 : G 0 ≤ 40 := (show gd_W G from hW).1
      refine x_K.of (by decide) (Nat.le_of_ble_eq_true rfl) ?_
      show x_T sc d mX6_isOneTooMany 0 [.ref 115, .int 8] [] μ w _
      refine xt_iload_n _ dX6_isOneTooMany_0 rfl ?_
      refine xt_tabIn 146 dX6_isOneTooMany_1 (by decide) (by decide) (by rfl) (by decide) ?_
      refine xt_iload_n _ dX6_isOneTooMany_146 rfl ?_
      refine xt_bipush (13) dX6_isOneTooMany_147 (by decide) ?_
      refine xt_icmp_ge 172 dX6_isOneTooMany_149 (by decide) (fun q => absurd q (by decide)) (fun _ => ?_)
      refine xt_aload_n _ dX6_isOneTooMany_152 rfl ?_
      refine xt_getr _ dX6_isOneTooMany_153 kfX6_21 (by first | exact sh115 | exact sh116 | exact sh122 | exact sh124 | exact sh128 | rfl | assumption) rfl ?_
      refine xt_geti dX6_isOneTooMany_156 kfX6_57 (by first | exact sh115 | exact sh116 | exact sh122 | exact sh124 | exact sh128 | rfl | assumption) rfl ?_
      refine xt_bipush (40) dX6_isOneTooMany_159 (by decide) ?_
      rw [ee]
      refine xt_icmp_lt 168 dX6_isOneTooMany_161 (by decide) (fun t161 => ?_) (fun f161 => ?_)
      · have n161 : G 0 < 40 := (nI_ltI (a := G 0) (b := 40) (by omega) (by omega)).mp t161
        refine xt_iconst (0) dX6_isOneTooMany_168 (by decide) ?_
        refine xt_goto 189 dX6_isOneTooMany_169 (by decide) ?_
        exact xt_iret .boolean dX6_isOneTooMany_189 rfl (by first | rfl | assumption) ⟨by rw [show s_fl 8 G = false from decide_eq_false (p := 40 ≤ G 0) (by omega)]; rfl, rfl, rfl⟩
      · have n161 : ¬ (G 0 < 40) := fun z => f161 ((nI_ltI (a := G 0) (b := 40) (by omega) (by omega)).mpr z)
        refine xt_iconst (1) dX6_isOneTooMany_164 (by decide) ?_
        refine xt_goto 189 dX6_isOneTooMany_165 (by decide) ?_
        exact xt_iret .boolean dX6_isOneTooMany_189 rfl (by first | rfl | assumption) ⟨by rw [show s_fl 8 G = true from decide_eq_true (p := 40 ≤ G 0) (by omega)]; rfl, rfl, rfl⟩
    · have ee : μ 122 0 = nI (G 0) := (hC.2.2.1 rfl).1
      have w0 : G 0 ≤ 40 := (show gd_W G from hW).1
      refine x_K.of (by decide) (Nat.le_of_ble_eq_true rfl) ?_
      show x_T sc d mX6_isOneTooMany 0 [.ref 115, .int 9] [] μ w _
      refine xt_iload_n _ dX6_isOneTooMany_0 rfl ?_
      refine xt_tabIn 146 dX6_isOneTooMany_1 (by decide) (by decide) (by rfl) (by decide) ?_
      refine xt_iload_n _ dX6_isOneTooMany_146 rfl ?_
      refine xt_bipush (13) dX6_isOneTooMany_147 (by decide) ?_
      refine xt_icmp_ge 172 dX6_isOneTooMany_149 (by decide) (fun q => absurd q (by decide)) (fun _ => ?_)
      refine xt_aload_n _ dX6_isOneTooMany_152 rfl ?_
      refine xt_getr _ dX6_isOneTooMany_153 kfX6_21 (by first | exact sh115 | exact sh116 | exact sh122 | exact sh124 | exact sh128 | rfl | assumption) rfl ?_
      refine xt_geti dX6_isOneTooMany_156 kfX6_57 (by first | exact sh115 | exact sh116 | exact sh122 | exact sh124 | exact sh128 | rfl | assumption) rfl ?_
      refine xt_bipush (40) dX6_isOneTooMany_159 (by decide) ?_
      rw [ee]
      refine xt_icmp_lt 168 dX6_isOneTooMany_161 (by decide) (fun t161 => ?_) (fun f161 => ?_)
      · have n161 : G 0 < 40 := (nI_ltI (a := G 0) (b := 40) (by omega) (by omega)).mp t161
        refine xt_iconst (0) dX6_isOneTooMany_168 (by decide) ?_
        refine xt_goto 189 dX6_isOneTooMany_169 (by decide) ?_
        exact xt_iret .boolean dX6_isOneTooMany_189 rfl (by first | rfl | assumption) ⟨by rw [show s_fl 9 G = false from decide_eq_false (p := 40 ≤ G 0) (by omega)]; rfl, rfl, rfl⟩
      · have n161 : ¬ (G 0 < 40) := fun z => f161 ((nI_ltI (a := G 0) (b := 40) (by omega) (by omega)).mpr z)
        refine xt_iconst (1) dX6_isOneTooMany_164 (by decide) ?_
        refine xt_goto 189 dX6_isOneTooMany_165 (by decide) ?_
        exact xt_iret .boolean dX6_isOneTooMany_189 rfl (by first | rfl | assumption) ⟨by rw [show s_fl 9 G = true from decide_eq_true (p := 40 ≤ G 0) (by omega)]; rfl, rfl, rfl⟩
    · have ee : μ 122 0 = nI (G 0) := (hC.2.2.1 rfl).1
      have w0 : G 0 ≤ 40 := (show gd_W G from hW).1
      refine x_K.of (by decide) (Nat.le_of_ble_eq_true rfl) ?_
      show x_T sc d mX6_isOneTooMany 0 [.ref 115, .int 10] [] μ w _
      refine xt_iload_n _ dX6_isOneTooMany_0 rfl ?_
      refine xt_tabIn 146 dX6_isOneTooMany_1 (by decide) (by decide) (by rfl) (by decide) ?_
      refine xt_iload_n _ dX6_isOneTooMany_146 rfl ?_
      refine xt_bipush (13) dX6_isOneTooMany_147 (by decide) ?_
      refine xt_icmp_ge 172 dX6_isOneTooMany_149 (by decide) (fun q => absurd q (by decide)) (fun _ => ?_)
      refine xt_aload_n _ dX6_isOneTooMany_152 rfl ?_
      refine xt_getr _ dX6_isOneTooMany_153 kfX6_21 (by first | exact sh115 | exact sh116 | exact sh122 | exact sh124 | exact sh128 | rfl | assumption) rfl ?_
      refine xt_geti dX6_isOneTooMany_156 kfX6_57 (by first | exact sh115 | exact sh116 | exact sh122 | exact sh124 | exact sh128 | rfl | assumption) rfl ?_
      refine xt_bipush (40) dX6_isOneTooMany_159 (by decide) ?_
      rw [ee]
      refine xt_icmp_lt 168 dX6_isOneTooMany_161 (by decide) (fun t161 => ?_) (fun f161 => ?_)
      · have n161 : G 0 < 40 := (nI_ltI (a := G 0) (b := 40) (by omega) (by omega)).mp t161
        refine xt_iconst (0) dX6_isOneTooMany_168 (by decide) ?_
        refine xt_goto 189 dX6_isOneTooMany_169 (by decide) ?_
        exact xt_iret .boolean dX6_isOneTooMany_189 rfl (by first | rfl | assumption) ⟨by rw [show s_fl 10 G = false from decide_eq_false (p := 40 ≤ G 0) (by omega)]; rfl, rfl, rfl⟩
      · have n161 : ¬ (G 0 < 40) := fun z => f161 ((nI_ltI (a := G 0) (b := 40) (by omega) (by omega)).mpr z)
        refine xt_iconst (1) dX6_isOneTooMany_164 (by decide) ?_
        refine xt_goto 189 dX6_isOneTooMany_165 (by decide) ?_
        exact xt_iret .boolean dX6_isOneTooMany_189 rfl (by first | rfl | assumption) ⟨by rw [show s_fl 10 G = true from decide_eq_true (p := 40 ≤ G 0) (by omega)]; rfl, rfl, rfl⟩
    · have ee : μ 122 0 = nI (G 0) := (hC.2.2.1 rfl).1
      have w0 : G 0 ≤ 40 := (show gd_W G from hW).1
      refine x_K.of (by decide) (Nat.le_of_ble_eq_true rfl) ?_
      show x_T sc d mX6_isOneTooMany 0 [.ref 115, .int 11] [] μ w _
      refine xt_iload_n _ dX6_isOneTooMany_0 rfl ?_
      refine xt_tabIn 146 dX6_isOneTooMany_1 (by decide) (by decide) (by rfl) (by decide) ?_
      refine xt_iload_n _ dX6_isOneTooMany_146 rfl ?_
      refine xt_bipush (13) dX6_isOneTooMany_147 (by decide) ?_
      refine xt_icmp_ge 172 dX6_isOneTooMany_149 (by decide) (fun q => absurd q (by decide)) (fun _ => ?_)
      refine xt_aload_n _ dX6_isOneTooMany_152 rfl ?_
      refine xt_getr _ dX6_isOneTooMany_153 kfX6_21 (by first | exact sh115 | exact sh116 | exact sh122 | exact sh124 | exact sh128 | rfl | assumption) rfl ?_
      refine xt_geti dX6_isOneTooMany_156 kfX6_57 (by first | exact sh115 | exact sh116 | exact sh122 | exact sh124 | exact sh128 | rfl | assumption) rfl ?_
      refine xt_bipush (40) dX6_isOneTooMany_159 (by decide) ?_
      rw [ee]
      refine xt_icmp_lt 168 dX6_isOneTooMany_161 (by decide) (fun t161 => ?_) (fun f161 => ?_)
      · have n161 : G 0 < 40 := (nI_ltI (a := G 0) (b := 40) (by omega) (by omega)).mp t161
        refine xt_iconst (0) dX6_isOneTooMany_168 (by decide) ?_
        refine xt_goto 189 dX6_isOneTooMany_169 (by decide) ?_
        exact xt_iret .boolean dX6_isOneTooMany_189 rfl (by first | rfl | assumption) ⟨by rw [show s_fl 11 G = false from decide_eq_false (p := 40 ≤ G 0) (by omega)]; rfl, rfl, rfl⟩
      · have n161 : ¬ (G 0 < 40) := fun z => f161 ((nI_ltI (a := G 0) (b := 40) (by omega) (by omega)).mpr z)
        refine xt_iconst (1) dX6_isOneTooMany_164 (by decide) ?_
        refine xt_goto 189 dX6_isOneTooMany_165 (by decide) ?_
        exact xt_iret .boolean dX6_isOneTooMany_189 rfl (by first | rfl | assumption) ⟨by rw [show s_fl 11 G = true from decide_eq_true (p := 40 ≤ G 0) (by omega)]; rfl, rfl, rfl⟩
    · have ee : μ 122 0 = nI (G 0) := (hC.2.2.1 rfl).1
      have w0 : G 0 ≤ 40 := (show gd_W G from hW).1
      refine x_K.of (by decide) (Nat.le_of_ble_eq_true rfl) ?_
      show x_T sc d mX6_isOneTooMany 0 [.ref 115, .int 12] [] μ w _
      refine xt_iload_n _ dX6_isOneTooMany_0 rfl ?_
      refine xt_tabIn 146 dX6_isOneTooMany_1 (by decide) (by decide) (by rfl) (by decide) ?_
      refine xt_iload_n _ dX6_isOneTooMany_146 rfl ?_
      refine xt_bipush (13) dX6_isOneTooMany_147 (by decide) ?_
      refine xt_icmp_ge 172 dX6_isOneTooMany_149 (by decide) (fun q => absurd q (by decide)) (fun _ => ?_)
      refine xt_aload_n _ dX6_isOneTooMany_152 rfl ?_
      refine xt_getr _ dX6_isOneTooMany_153 kfX6_21 (by first | exact sh115 | exact sh116 | exact sh122 | exact sh124 | exact sh128 | rfl | assumption) rfl ?_
      refine xt_geti dX6_isOneTooMany_156 kfX6_57 (by first | exact sh115 | exact sh116 | exact sh122 | exact sh124 | exact sh128 | rfl | assumption) rfl ?_
      refine xt_bipush (40) dX6_isOneTooMany_159 (by decide) ?_
      rw [ee]
      refine xt_icmp_lt 168 dX6_isOneTooMany_161 (by decide) (fun t161 => ?_) (fun f161 => ?_)
      · have n161 : G 0 < 40 := (nI_ltI (a := G 0) (b := 40) (by omega) (by omega)).mp t161
        refine xt_iconst (0) dX6_isOneTooMany_168 (by decide) ?_
        refine xt_goto 189 dX6_isOneTooMany_169 (by decide) ?_
        exact xt_iret .boolean dX6_isOneTooMany_189 rfl (by first | rfl | assumption) ⟨by rw [show s_fl 12 G = false from decide_eq_false (p := 40 ≤ G 0) (by omega)]; rfl, rfl, rfl⟩
      · have n161 : ¬ (G 0 < 40) := fun z => f161 ((nI_ltI (a := G 0) (b := 40) (by omega) (by omega)).mpr z)
        refine xt_iconst (1) dX6_isOneTooMany_164 (by decide) ?_
        refine xt_goto 189 dX6_isOneTooMany_165 (by decide) ?_
        exact xt_iret .boolean dX6_isOneTooMany_189 rfl (by first | rfl | assumption) ⟨by rw [show s_fl 12 G = true from decide_eq_true (p := 40 ≤ G 0) (by omega)]; rfl, rfl, rfl⟩
  · have hk : k = 13 ∨ k = 14 ∨ k = 15 := by omega
    rcases hk with rfl | rfl | rfl
    · refine x_K.of (by decide) (Nat.le_of_ble_eq_true rfl) ?_
      show x_T sc d mX6_isOneTooMany 0 [.ref 115, .int 13] [] μ w _
      refine xt_iload_n _ dX6_isOneTooMany_0 rfl ?_
      refine xt_tabIn 72 dX6_isOneTooMany_1 (by decide) (by decide) (by rfl) (by decide) ?_
      refine xt_iconst (0) dX6_isOneTooMany_72 (by decide) ?_
      exact xt_iret .boolean dX6_isOneTooMany_73 rfl (by first | rfl | assumption) ⟨rfl, rfl, rfl⟩
    · have ee : μ 124 1 = nI (G 1) := (hC.2.2.2 rfl).2.1
      have w0 : G 1 ≤ 8 := (show gl_W G from hW).2.1
      refine x_K.of (by decide) (Nat.le_of_ble_eq_true rfl) ?_
      show x_T sc d mX6_isOneTooMany 0 [.ref 115, .int 14] [] μ w _
      refine xt_iload_n _ dX6_isOneTooMany_0 rfl ?_
      refine xt_tabOut 146 dX6_isOneTooMany_1 (by decide) (by decide) ?_
      refine xt_iload_n _ dX6_isOneTooMany_146 rfl ?_
      refine xt_bipush (13) dX6_isOneTooMany_147 (by decide) ?_
      refine xt_icmp_ge 172 dX6_isOneTooMany_149 (by decide) (fun _ => ?_) (fun q => absurd (by decide) q)
      refine xt_aload_n _ dX6_isOneTooMany_172 rfl ?_
      refine xt_getr _ dX6_isOneTooMany_173 kfX6_28 (by first | exact sh115 | exact sh116 | exact sh122 | exact sh124 | exact sh128 | rfl | assumption) rfl ?_
      refine xt_geti dX6_isOneTooMany_176 kfX6_136 (by first | exact sh115 | exact sh116 | exact sh122 | exact sh124 | exact sh128 | rfl | assumption) rfl ?_
      refine xt_bipush (8) dX6_isOneTooMany_179 (by decide) ?_
      rw [ee]
      refine xt_icmp_lt 188 dX6_isOneTooMany_181 (by decide) (fun t181 => ?_) (fun f181 => ?_)
      · have n181 : G 1 < 8 := (nI_ltI (a := G 1) (b := 8) (by omega) (by omega)).mp t181
        refine xt_iconst (0) dX6_isOneTooMany_188 (by decide) ?_
        exact xt_iret .boolean dX6_isOneTooMany_189 rfl (by first | rfl | assumption) ⟨by rw [show s_fl 14 G = false from decide_eq_false (p := 8 ≤ G 1) (by omega)]; rfl, rfl, rfl⟩
      · have n181 : ¬ (G 1 < 8) := fun z => f181 ((nI_ltI (a := G 1) (b := 8) (by omega) (by omega)).mpr z)
        refine xt_iconst (1) dX6_isOneTooMany_184 (by decide) ?_
        refine xt_goto 189 dX6_isOneTooMany_185 (by decide) ?_
        exact xt_iret .boolean dX6_isOneTooMany_189 rfl (by first | rfl | assumption) ⟨by rw [show s_fl 14 G = true from decide_eq_true (p := 8 ≤ G 1) (by omega)]; rfl, rfl, rfl⟩
    · have ee : μ 124 1 = nI (G 1) := (hC.2.2.2 rfl).2.1
      have w0 : G 1 ≤ 8 := (show gl_W G from hW).2.1
      refine x_K.of (by decide) (Nat.le_of_ble_eq_true rfl) ?_
      show x_T sc d mX6_isOneTooMany 0 [.ref 115, .int 15] [] μ w _
      refine xt_iload_n _ dX6_isOneTooMany_0 rfl ?_
      refine xt_tabOut 146 dX6_isOneTooMany_1 (by decide) (by decide) ?_
      refine xt_iload_n _ dX6_isOneTooMany_146 rfl ?_
      refine xt_bipush (13) dX6_isOneTooMany_147 (by decide) ?_
      refine xt_icmp_ge 172 dX6_isOneTooMany_149 (by decide) (fun _ => ?_) (fun q => absurd (by decide) q)
      refine xt_aload_n _ dX6_isOneTooMany_172 rfl ?_
      refine xt_getr _ dX6_isOneTooMany_173 kfX6_28 (by first | exact sh115 | exact sh116 | exact sh122 | exact sh124 | exact sh128 | rfl | assumption) rfl ?_
      refine xt_geti dX6_isOneTooMany_176 kfX6_136 (by first | exact sh115 | exact sh116 | exact sh122 | exact sh124 | exact sh128 | rfl | assumption) rfl ?_
      refine xt_bipush (8) dX6_isOneTooMany_179 (by decide) ?_
      rw [ee]
      refine xt_icmp_lt 188 dX6_isOneTooMany_181 (by decide) (fun t181 => ?_) (fun f181 => ?_)
      · have n181 : G 1 < 8 := (nI_ltI (a := G 1) (b := 8) (by omega) (by omega)).mp t181
        refine xt_iconst (0) dX6_isOneTooMany_188 (by decide) ?_
        exact xt_iret .boolean dX6_isOneTooMany_189 rfl (by first | rfl | assumption) ⟨by rw [show s_fl 15 G = false from decide_eq_false (p := 8 ≤ G 1) (by omega)]; rfl, rfl, rfl⟩
      · have n181 : ¬ (G 1 < 8) := fun z => f181 ((nI_ltI (a := G 1) (b := 8) (by omega) (by omega)).mpr z)
        refine xt_iconst (1) dX6_isOneTooMany_184 (by decide) ?_
        refine xt_goto 189 dX6_isOneTooMany_185 (by decide) ?_
        exact xt_iret .boolean dX6_isOneTooMany_189 rfl (by first | rfl | assumption) ⟨by rw [show s_fl 15 G = true from decide_eq_true (p := 8 ≤ G 1) (by omega)]; rfl, rfl, rfl⟩
theorem s_kq4 (T : Nat → Nat) (L q : Nat) : s_kq T L q ≤ 4 := by
  unfold s_kq
  split
  · omega
  · split
    · omega
    · split
      · omega
      · split
        · split <;> omega
        · omega
theorem s_blm4 {φ : Nat × Nat} {c : Bool} {f pl : Nat} (h : φ.1 ≤ 4) (hf : f ≤ 4) : (s_blm φ c f pl).1 ≤ 4 := by
  unfold s_blm
  split
  · exact hf
  · exact h
theorem s_nf4 {T : Nat → Nat} {L k p : Nat} {φ : Nat × Nat} (h : φ.1 ≤ 4) : ∀ n, (s_nf T L k p φ n).1 ≤ 4
  | 0 => h
  | n + 1 => s_blm4 (s_nf4 h n) (by decide)
set_option maxHeartbeats 8000000 in
theorem tX6_readLine17 (T : Nat → Nat) (L s p k : Nat) (φ : Nat × Nat) (G : Nat → Nat) (mx : Nat) (hs : s_of s k) (hR : c_R μ T L s p φ G mx) (hφ : φ.1 ≤ 4) (hfl : φ.1 = 0 → s_fl k G = false) : x_T sc (d + 4) mX6_readLine 17 [.ref 115, .int (nI k), .retAddr 0, .retAddr 0] [] μ w (fun r μ' _ => (s_okl T L p (s_gv k) = true → r = some (.int 1) ∧ c_R μ' T L s (s_te T L (s_qs T L p (s_gv k))) (s_nf T L k p φ (s_gv k)) (if (s_nf T L k p φ (s_gv k)).1 = 0 then s_kp k (s_nv T L p) G else G) (if (s_nf T L k p φ (s_gv k)).1 = 0 then s_mxl k (s_nv T L p) mx else mx)) ∧ (s_okl T L p (s_gv k) = false → r = some (.int 0) ∧ μ' 115 9 = nI (s_fpl T L p (s_gv k))) ∧ c_fr μ μ') := by
  have hk16 := s_of16 hs
  refine xt_gets (RX6, "GIVEN", 1000201, [2, 2, 1, 3, 3, 2, 4, 0, 0, 1, 3, 3, 3, 1, 1, 1]) dX6_readLine_17 (by decide) (by decide) ksX6_103 ?_
  refine xt_iload_n _ dX6_readLine_20 rfl ?_
  refine xt_cS _ dX6_readLine_21 klX6_106 (tX8_atT sc _ _ _ (x_rowGV sc) (by decide) _) rfl rfl (Nat.le_of_ble_eq_true rfl) ?_
  rw [s_gvI k hk16]
  refine xt_istore_n dX6_readLine_24 (by decide) rfl ?_
  change x_T _ _ _ _ [_, _, _, _] _ _ _ _
  refine xt_iconst (0) dX6_readLine_25 (by decide) ?_
  refine xt_istore_n dX6_readLine_26 (by decide) rfl ?_
  change x_T _ _ _ _ [_, _, _, _] _ _ _ _
  obtain ⟨g, hgk⟩ : ∃ g, g = s_gv k := ⟨_, rfl⟩
  have hg4 : g ≤ 4 := by rw [hgk]; exact s_gv4 k hk16
  rw [← hgk]
  have L27 : ∀ (n27 m : Nat) (μ2 : x_Me) (w2 : Int64) (hR2 : c_R μ2 T L s (s_qs T L p m) (s_nf T L k p φ m) G mx) (hN2 : ∀ i, i < m → μ2 128 i = nI (s_nv T L p i)) (hK2 : ∀ i, i < m → s_kd T L (s_qs T L p i) = 2) (hf2 : c_fr μ μ2), m + n27 = g → x_T sc (d + 4) mX6_readLine 27 [.ref 115, .int (nI k), .int (nI g), .int (nI m)] [] μ2 w2 (fun r μ' _ => (s_okl T L p (g) = true → r = some (.int 1) ∧ c_R μ' T L s (s_te T L (s_qs T L p (g))) (s_nf T L k p φ (g)) (if (s_nf T L k p φ (g)).1 = 0 then s_kp k (s_nv T L p) G else G) (if (s_nf T L k p φ (g)).1 = 0 then s_mxl k (s_nv T L p) mx else mx)) ∧ (s_okl T L p (g) = false → r = some (.int 0) ∧ μ' 115 9 = nI (s_fpl T L p (g))) ∧ c_fr μ μ') := by
    intro n27
    induction n27 with
    | zero =>
      intro m μ2 w2 hR2 hN2 hK2 hf2 hmn
      obtain rfl : m = g := by omega
      refine xt_iload_n _ dX6_readLine_27 rfl ?_
      refine xt_iload_n _ dX6_readLine_28 rfl ?_
      refine xt_icmp_ge 109 dX6_readLine_29 (by decide) (fun _ => ?_) (fun q => absurd (Int32.le_refl _) q)
      refine xt_aload_n _ dX6_readLine_109 rfl ?_
      refine xt_callV _ dX6_readLine_110 klX6_87 (tX6_step sc _ μ2 w2 T L hR2.1 (s_qs T L p m) hR2.2.2.2.2.2.2 hR2.2.1) sh115 rfl rfl (Nat.le_of_ble_eq_true rfl) (fun r3 μ3 w3 q3 => ?_)
      obtain ⟨rfl, q3⟩ := q3
      change x_T _ _ _ _ _ _ _ _ _
      refine xt_aload_n _ dX6_readLine_113 rfl ?_
      refine xt_geti dX6_readLine_114 kfX6_90 (by first | exact sh115 | exact sh116 | exact sh122 | exact sh124 | exact sh128 | rfl | assumption) rfl ?_
      refine xt_iconst (3) dX6_readLine_117 (by decide) ?_
      rw [q3.2.1]
      have hbn0 : s_bn T L p m = 0 := s_fp_z (fun i hi => decide_eq_false (fun z => z (hK2 i hi)))
      refine xt_icmp_eq 123 dX6_readLine_118 (by decide) (fun t118 => ?_) (fun f118 => ?_)
      · have hk3 : s_kd T L (s_qs T L p m) = 3 := (nI_eq (b := 3) (by have : s_kd T L (s_qs T L p m) ≤ 4 := s_kq4 T L _; omega) (by decide)).mp t118
        have hok : s_okl T L p m = true := decide_eq_true ⟨hbn0, hk3⟩
        have hR3 := hR2.step q3 (by rw [hk3]; decide)
        refine xt_aload_n _ dX6_readLine_123 rfl ?_
        refine xt_geti dX6_readLine_124 kfX6_61 (by first | exact sh115 | exact sh116 | exact sh122 | exact sh124 | exact sh128 | rfl | assumption) rfl ?_
        rw [hR3.2.2.1]
        refine xt_if_ne 136 dX6_readLine_127 (by decide) (fun t127 => ?_) (fun f127 => ?_)
        · have hfz : ¬ (s_nf T L k p φ m).1 = 0 := fun z => t127 (by rw [z]; rfl)
          refine xt_iconst (1) dX6_readLine_136 (by decide) ?_
          exact xt_iret .boolean dX6_readLine_137 rfl (by first | rfl | assumption) ⟨fun _ => ⟨rfl, by rw [if_neg hfz, if_neg hfz]; exact hR3⟩, fun h => absurd hok (by rw [h]; decide), c_fr.tr hf2 q3.fr⟩
        · have hfz : (s_nf T L k p φ m).1 = 0 := (nI_eq (b := 0) (by have := s_nf4 (T := T) (L := L) (k := k) (p := p) hφ m; omega) (by decide)).mp f127
          obtain ⟨hz1, hz2⟩ := s_nf_0 hfz
          have hfl := hfl hz1
          have hrg : s_rgl k (s_nv T L p) := s_bd_rg hgk hz2
          refine xt_aload_n _ dX6_readLine_130 rfl ?_
          refine xt_iload_n _ dX6_readLine_131 rfl ?_
          refine xt_iload_n _ dX6_readLine_132 rfl ?_
          refine xt_callV _ dX6_readLine_133 klX6_124 (hgk ▸ tX6_keep sc _ μ3 w3 G mx (s_nv T L p) s k hs hR3.2.2.2.2.2.1 hR3.2.2.2.2.1 hfl (fun i hi => by rw [q3.2.2.2.2.2 128 (by decide)]; exact hN2 i (by omega)) hrg) sh115 rfl rfl (Nat.le_of_ble_eq_true rfl) (fun r4 μ4 w4 q4 => ?_)
          obtain ⟨rfl, hG4, hj4, hf4⟩ := q4
          change x_T _ _ _ _ _ _ _ _ _
          refine xt_iconst (1) dX6_readLine_136 (by decide) ?_
          exact xt_iret .boolean dX6_readLine_137 rfl (by first | rfl | assumption) ⟨fun _ => ⟨rfl, by rw [if_pos hfz, if_pos hfz]; obtain ⟨z1, z2, z3, z4, z5, z6, z7⟩ := hR3; exact ⟨z1.cg (hj4 6 (by decide)) (hf4 127 (by omega)), by rw [hj4 8 (by decide)]; exact z2, by rw [hj4 3 (by decide)]; exact z3, by rw [hj4 4 (by decide)]; exact z4, hG4, s_kpW hs z6 hfl hrg, z7⟩⟩, fun h => absurd hok (by rw [h]; decide), c_fr.tr hf2 (c_fr.tr q3.fr (fun a ha => hf4 a (by omega)))⟩
      · have hk3 : s_kd T L (s_qs T L p m) ≠ 3 := fun z => f118 (by rw [show s_kq T L (s_sp T L (s_qs T L p m)) = 3 from z]; rfl)
        refine xt_iconst (0) dX6_readLine_121 (by decide) ?_
        exact xt_iret .boolean dX6_readLine_122 rfl (by first | rfl | assumption) ⟨fun h => absurd (of_decide_eq_true h).2 hk3, fun _ => ⟨rfl, by rw [s_fpl, hbn0, if_pos rfl]; exact q3.1⟩, c_fr.tr hf2 q3.fr⟩
    | succ n27 ih27 =>
      intro m μ2 w2 hR2 hN2 hK2 hf2 hmn
      have hlt : m < g := by omega
      refine xt_iload_n _ dX6_readLine_27 rfl ?_
      refine xt_iload_n _ dX6_readLine_28 rfl ?_
      refine xt_icmp_ge 109 dX6_readLine_29 (by decide) (fun q => absurd q (nI_ge hlt (by omega))) (fun _ => ?_)
      refine xt_aload_n _ dX6_readLine_32 rfl ?_
      refine xt_callV _ dX6_readLine_33 klX6_87 (tX6_step sc _ μ2 w2 T L hR2.1 (s_qs T L p m) hR2.2.2.2.2.2.2 hR2.2.1) sh115 rfl rfl (Nat.le_of_ble_eq_true rfl) (fun r3 μ3 w3 q3 => ?_)
      obtain ⟨rfl, q3⟩ := q3
      change x_T _ _ _ _ _ _ _ _ _
      refine xt_aload_n _ dX6_readLine_36 rfl ?_
      refine xt_geti dX6_readLine_37 kfX6_90 (by first | exact sh115 | exact sh116 | exact sh122 | exact sh124 | exact sh128 | rfl | assumption) rfl ?_
      refine xt_iconst (2) dX6_readLine_40 (by decide) ?_
      rw [q3.2.1]
      refine xt_icmp_eq 46 dX6_readLine_41 (by decide) (fun t41 => ?_) (fun f41 => ?_)
      · have hk2 : s_kd T L (s_qs T L p m) = 2 := (nI_eq (b := 2) (by have : s_kd T L (s_qs T L p m) ≤ 4 := s_kq4 T L _; omega) (by decide)).mp t41
        have hR3 := hR2.step q3 (by rw [hk2]; decide)
        have hv99 : s_nv T L p m ≤ 99 := s_va_le hR2.1.2.2.2 hk2
        have h9l := s_hg99 k hk16 m (by omega)
        have hix : (4 : Int32) * nI k + nI m = nI (4 * k + m) := by rw [show (4 : Int32) = nI 4 from rfl, pk_mul, nI_add]
        refine xt_aload_n _ dX6_readLine_46 rfl ?_
        refine xt_geti dX6_readLine_47 kfX6_111 (by first | exact sh115 | exact sh116 | exact sh122 | exact sh124 | exact sh128 | rfl | assumption) rfl ?_
        refine xt_gets (RX6, "LOWEST", 1000202, [0, 0, 0, 0, 0, 0, 0, 0, 0, 0, 0, 0, 0, 0, 1, 0, 0, 0, 0, 0, 1, 0, 0, 0, 0, 0, 0, 0, 0, 0, 0, 0, 0, 0, 0, 0, 0, 0, 0, 0, 0, 0, 0, 0, 0, 0, 1, 0, 0, 0, 1, 0, 0, 0, 0, 0, 0, 0, 0, 0, 0, 0, 0, 0]) dX6_readLine_50 (by decide) (by decide) ksX6_114 ?_
        refine xt_iconst (4) dX6_readLine_53 (by decide) ?_
        refine xt_iload_n _ dX6_readLine_54 rfl ?_
        refine xt_imul dX6_readLine_55 ?_
        refine xt_iload_n _ dX6_readLine_56 rfl ?_
        refine xt_iadd dX6_readLine_57 ?_
        refine xt_cS _ dX6_readLine_58 klX6_106 (tX8_atT sc _ _ _ (x_rowLW sc) (by decide) _) rfl rfl (Nat.le_of_ble_eq_true rfl) ?_
        rw [hix, s_lwI k hk16 m (by omega)]
        rw [show μ3 115 11 = nI (s_nv T L p m) from q3.2.2.2.1 hk2]
        refine xt_icmp_lt 82 dX6_readLine_61 (by decide) (fun t61 => ?_) (fun f61 => ?_)
        · have n61 : s_nv T L p m < s_lw k m := (nI_ltI (a := s_nv T L p m) (b := s_lw k m) (by omega) (by omega)).mp t61
          refine xt_aload_n _ dX6_readLine_82 rfl ?_
          refine xt_iconst (2) dX6_readLine_83 (by decide) ?_
          refine xt_aload_n _ dX6_readLine_84 rfl ?_
          refine xt_geti dX6_readLine_85 kfX6_77 (by first | exact sh115 | exact sh116 | exact sh122 | exact sh124 | exact sh128 | rfl | assumption) rfl ?_
          rw [q3.1]
          refine xt_callV _ dX6_readLine_88 klX6_83 (tX6_blame sc _ μ3 w3 T L s (s_te T L (s_qs T L p m)) (s_nf T L k p φ m) G mx hR3 2 (s_sp T L (s_qs T L p m)) (s_nf4 hφ m) (by decide)) sh115 rfl rfl (Nat.le_of_ble_eq_true rfl) (fun r4 μ4 w4 q4 => ?_)
          obtain ⟨rfl, hR4, hj4, hf4⟩ := q4
          change x_T _ _ _ _ _ _ _ _ _
          refine xt_aload_n _ dX6_readLine_91 rfl ?_
          refine xt_getr _ dX6_readLine_92 kfX6_36 (by first | exact sh115 | exact sh116 | exact sh122 | exact sh124 | exact sh128 | rfl | assumption) rfl ?_
          refine xt_iload_n _ dX6_readLine_95 rfl ?_
          refine xt_aload_n _ dX6_readLine_96 rfl ?_
          refine xt_geti dX6_readLine_97 kfX6_111 (by first | exact sh115 | exact sh116 | exact sh122 | exact sh124 | exact sh128 | rfl | assumption) rfl ?_
          rw [hj4 11 (by decide) (by decide), q3.2.2.2.1 hk2]
          refine xt_cS0 _ dX6_readLine_100 klX6_120 (tX8_set sc _ _ _ sh128 (by decide) _ _) rfl rfl (Nat.le_of_ble_eq_true rfl) ?_
          rw [s_set_ix (by omega) (by decide)]
          refine xt_inc _ (1) dX6_readLine_103 rfl (by decide) (by decide) rfl ?_
          change x_T _ _ _ _ [_, _, _, _] _ _ _ _
          refine xt_goto 27 dX6_readLine_106 (by decide) ?_
          have hbd : s_bd k m (s_nv T L p m) = true := decide_eq_true (by omega)
          have hnf : s_nf T L k p φ (m + 1) = s_blm (s_nf T L k p φ m) true 2 (s_sp T L (s_qs T L p m)) := by
            rw [s_nf, hbd]
          refine x_T.ls (by rw [nI_succ m]) (ih27 (m + 1) _ w4 ?_ (fun i hi => ?_) (fun i hi => ?_) ?_ (by omega))
          · rw [hnf]; obtain ⟨z1, z2, z3, z4, z5, z6, z7⟩ := hR4; exact ⟨z1.cg rfl rfl, z2, z3, z4, z5.cg rfl (fun a h1 h2 => x_u_ne (by omega)), z6, z7⟩
          · rw [x_u_eq]
            by_cases he : i = m
            · rw [he, pk_us]; rfl
            · rw [pk_un he, hf4 128 (by decide), q3.2.2.2.2.2 128 (by decide)]; exact hN2 i (by omega)
          · by_cases he : i = m
            · rw [he]; exact hk2
            · exact hK2 i (by omega)
          · intro a ha; rw [x_u_ne (by omega), hf4 a (by omega), q3.2.2.2.2.2 a (by omega)]; exact hf2 a ha
        · have n61 : ¬ (s_nv T L p m < s_lw k m) := fun z => f61 ((nI_ltI (a := s_nv T L p m) (b := s_lw k m) (by omega) (by omega)).mpr z)
          refine xt_aload_n _ dX6_readLine_64 rfl ?_
          refine xt_geti dX6_readLine_65 kfX6_111 (by first | exact sh115 | exact sh116 | exact sh122 | exact sh124 | exact sh128 | rfl | assumption) rfl ?_
          refine xt_gets (RX6, "GREATEST", 1000203, [9, 9, 0, 0, 9, 9, 0, 0, 9, 0, 0, 0, 5, 18, 9, 0, 7, 5, 9, 0, 63, 20, 0, 0, 9, 9, 30, 10, 0, 0, 0, 0, 0, 0, 0, 0, 7, 0, 0, 0, 7, 9, 9, 0, 7, 5, 9, 0, 7, 5, 9, 0, 8, 0, 0, 0, 63, 0, 0, 0, 63, 0, 0, 0]) dX6_readLine_68 (by decide) (by decide) ksX6_117 ?_
          refine xt_iconst (4) dX6_readLine_71 (by decide) ?_
          refine xt_iload_n _ dX6_readLine_72 rfl ?_
          refine xt_imul dX6_readLine_73 ?_
          refine xt_iload_n _ dX6_readLine_74 rfl ?_
          refine xt_iadd dX6_readLine_75 ?_
          refine xt_cS _ dX6_readLine_76 klX6_106 (tX8_atT sc _ _ _ (x_rowHG sc) (by decide) _) rfl rfl (Nat.le_of_ble_eq_true rfl) ?_
          rw [hix, s_hgI k hk16 m (by omega)]
          rw [show μ3 115 11 = nI (s_nv T L p m) from q3.2.2.2.1 hk2]
          refine xt_icmp_le 91 dX6_readLine_79 (by decide) (fun t79 => ?_) (fun f79 => ?_)
          · have n79 : s_nv T L p m ≤ s_hg k m := (nI_leI (a := s_nv T L p m) (b := s_hg k m) (by omega) (by omega)).mp t79
            refine xt_aload_n _ dX6_readLine_91 rfl ?_
            refine xt_getr _ dX6_readLine_92 kfX6_36 (by first | exact sh115 | exact sh116 | exact sh122 | exact sh124 | exact sh128 | rfl | assumption) rfl ?_
            refine xt_iload_n _ dX6_readLine_95 rfl ?_
            refine xt_aload_n _ dX6_readLine_96 rfl ?_
            refine xt_geti dX6_readLine_97 kfX6_111 (by first | exact sh115 | exact sh116 | exact sh122 | exact sh124 | exact sh128 | rfl | assumption) rfl ?_
            rw [q3.2.2.2.1 hk2]
            refine xt_cS0 _ dX6_readLine_100 klX6_120 (tX8_set sc _ _ _ sh128 (by decide) _ _) rfl rfl (Nat.le_of_ble_eq_true rfl) ?_
            rw [s_set_ix (by omega) (by decide)]
            refine xt_inc _ (1) dX6_readLine_103 rfl (by decide) (by decide) rfl ?_
            change x_T _ _ _ _ [_, _, _, _] _ _ _ _
            refine xt_goto 27 dX6_readLine_106 (by decide) ?_
            have hbd : s_bd k m (s_nv T L p m) = false := decide_eq_false (by omega)
            have hnf : s_nf T L k p φ (m + 1) = (s_nf T L k p φ m) := by
              rw [s_nf, hbd]; unfold s_blm; rw [if_neg (fun z => absurd z.2 (by decide))]
            refine x_T.ls (by rw [nI_succ m]) (ih27 (m + 1) _ w3 ?_ (fun i hi => ?_) (fun i hi => ?_) ?_ (by omega))
            · rw [hnf]; obtain ⟨z1, z2, z3, z4, z5, z6, z7⟩ := hR3; exact ⟨z1.cg rfl rfl, z2, z3, z4, z5.cg rfl (fun a h1 h2 => x_u_ne (by omega)), z6, z7⟩
            · rw [x_u_eq]
              by_cases he : i = m
              · rw [he, pk_us]; rfl
              · rw [pk_un he, q3.2.2.2.2.2 128 (by decide)]; exact hN2 i (by omega)
            · by_cases he : i = m
              · rw [he]; exact hk2
              · exact hK2 i (by omega)
            · intro a ha; rw [x_u_ne (by omega), q3.2.2.2.2.2 a (by omega)]; exact hf2 a ha
          · have n79 : ¬ (s_nv T L p m ≤ s_hg k m) := fun z => f79 ((nI_leI (a := s_nv T L p m) (b := s_hg k m) (by omega) (by omega)).mpr z)
            refine xt_aload_n _ dX6_readLine_82 rfl ?_
            refine xt_iconst (2) dX6_readLine_83 (by decide) ?_
            refine xt_aload_n _ dX6_readLine_84 rfl ?_
            refine xt_geti dX6_readLine_85 kfX6_77 (by first | exact sh115 | exact sh116 | exact sh122 | exact sh124 | exact sh128 | rfl | assumption) rfl ?_
            rw [q3.1]
            refine xt_callV _ dX6_readLine_88 klX6_83 (tX6_blame sc _ μ3 w3 T L s (s_te T L (s_qs T L p m)) (s_nf T L k p φ m) G mx hR3 2 (s_sp T L (s_qs T L p m)) (s_nf4 hφ m) (by decide)) sh115 rfl rfl (Nat.le_of_ble_eq_true rfl) (fun r4 μ4 w4 q4 => ?_)
            obtain ⟨rfl, hR4, hj4, hf4⟩ := q4
            change x_T _ _ _ _ _ _ _ _ _
            refine xt_aload_n _ dX6_readLine_91 rfl ?_
            refine xt_getr _ dX6_readLine_92 kfX6_36 (by first | exact sh115 | exact sh116 | exact sh122 | exact sh124 | exact sh128 | rfl | assumption) rfl ?_
            refine xt_iload_n _ dX6_readLine_95 rfl ?_
            refine xt_aload_n _ dX6_readLine_96 rfl ?_
            refine xt_geti dX6_readLine_97 kfX6_111 (by first | exact sh115 | exact sh116 | exact sh122 | exact sh124 | exact sh128 | rfl | assumption) rfl ?_
            rw [hj4 11 (by decide) (by decide), q3.2.2.2.1 hk2]
            refine xt_cS0 _ dX6_readLine_100 klX6_120 (tX8_set sc _ _ _ sh128 (by decide) _ _) rfl rfl (Nat.le_of_ble_eq_true rfl) ?_
            rw [s_set_ix (by omega) (by decide)]
            refine xt_inc _ (1) dX6_readLine_103 rfl (by decide) (by decide) rfl ?_
            change x_T _ _ _ _ [_, _, _, _] _ _ _ _
            refine xt_goto 27 dX6_readLine_106 (by decide) ?_
            have hbd : s_bd k m (s_nv T L p m) = true := decide_eq_true (by omega)
            have hnf : s_nf T L k p φ (m + 1) = s_blm (s_nf T L k p φ m) true 2 (s_sp T L (s_qs T L p m)) := by
              rw [s_nf, hbd]
            refine x_T.ls (by rw [nI_succ m]) (ih27 (m + 1) _ w4 ?_ (fun i hi => ?_) (fun i hi => ?_) ?_ (by omega))
            · rw [hnf]; obtain ⟨z1, z2, z3, z4, z5, z6, z7⟩ := hR4; exact ⟨z1.cg rfl rfl, z2, z3, z4, z5.cg rfl (fun a h1 h2 => x_u_ne (by omega)), z6, z7⟩
            · rw [x_u_eq]
              by_cases he : i = m
              · rw [he, pk_us]; rfl
              · rw [pk_un he, hf4 128 (by decide), q3.2.2.2.2.2 128 (by decide)]; exact hN2 i (by omega)
            · by_cases he : i = m
              · rw [he]; exact hk2
              · exact hK2 i (by omega)
            · intro a ha; rw [x_u_ne (by omega), hf4 a (by omega), q3.2.2.2.2.2 a (by omega)]; exact hf2 a ha
      · have hkn : s_kd T L (s_qs T L p m) ≠ 2 := fun z => f41 (by rw [show s_kq T L (s_sp T L (s_qs T L p m)) = 2 from z]; rfl)
        have hbn : s_bn T L p g = m + 1 := s_fp_at (p := fun i => decide (s_kd T L (s_qs T L p i) ≠ 2)) (m := m) (fun i hi => decide_eq_false (fun z => z (hK2 i hi))) (decide_eq_true hkn) hlt
        refine xt_iconst (0) dX6_readLine_44 (by decide) ?_
        exact xt_iret .boolean dX6_readLine_45 rfl (by first | rfl | assumption) ⟨fun h => absurd (of_decide_eq_true h).1 (by rw [hbn]; omega), fun _ => ⟨rfl, by rw [s_fpl, hbn, if_neg (Nat.succ_ne_zero _)]; exact q3.1⟩, c_fr.tr hf2 q3.fr⟩
  exact L27 g 0 μ w hR (fun i h => absurd h (by omega)) (fun i h => absurd h (by omega)) (c_fr.rf μ) (by omega)
set_option maxHeartbeats 2000000 in
theorem tX6_readLine (T : Nat → Nat) (L s p k : Nat) (φ : Nat × Nat) (G : Nat → Nat) (mx : Nat) (hs : s_of s k) (hR : c_R μ T L s p φ G mx) (hφ : φ.1 ≤ 4) (a : Nat) (h9 : μ 115 9 = nI a) : x_K sc (d + 4) mX6_readLine [.ref 115, .int (nI k)] μ w (fun r μ' _ => (s_okl T L p (s_gv k) = true → r = some (.int 1) ∧ c_R μ' T L s (s_te T L (s_qs T L p (s_gv k))) (s_nf T L k p (s_blm φ (s_fl k G) 3 a) (s_gv k)) (if (s_nf T L k p (s_blm φ (s_fl k G) 3 a) (s_gv k)).1 = 0 then s_kp k (s_nv T L p) G else G) (if (s_nf T L k p (s_blm φ (s_fl k G) 3 a) (s_gv k)).1 = 0 then s_mxl k (s_nv T L p) mx else mx)) ∧ (s_okl T L p (s_gv k) = false → r = some (.int 0) ∧ μ' 115 9 = nI (s_fpl T L p (s_gv k))) ∧ c_fr μ μ') := by
  refine x_K.of (by decide) (Nat.le_of_ble_eq_true rfl) ?_
  show x_T sc (d + 4) mX6_readLine 0 [.ref 115, .int (nI k), .retAddr 0, .retAddr 0] [] μ w _
  refine xt_aload_n _ dX6_readLine_0 rfl ?_
  refine xt_iload_n _ dX6_readLine_1 rfl ?_
  refine xt_cV _ dX6_readLine_2 klX6_100 (tX6_isOneTooMany sc _ μ w s k G mx hs hR.2.2.2.2.1 hR.2.2.2.2.2.1) sh115 rfl rfl (Nat.le_of_ble_eq_true rfl) ?_
  refine xt_if_eq 17 dX6_readLine_5 (by decide) (fun t5 => ?_) (fun f5 => ?_)
  · have hb := s_if0 t5
    have e : s_blm φ (s_fl k G) 3 a = φ := by rw [s_blm, if_neg (fun z => by rw [hb] at z; exact absurd z.2 (by decide))]
    rw [e]
    exact tX6_readLine17 sc d μ w T L s p k φ G mx hs hR hφ (fun _ => hb)
  · refine xt_aload_n _ dX6_readLine_8 rfl ?_
    refine xt_iconst (3) dX6_readLine_9 (by decide) ?_
    refine xt_aload_n _ dX6_readLine_10 rfl ?_
    refine xt_geti dX6_readLine_11 kfX6_77 (by first | exact sh115 | exact sh116 | exact sh122 | exact sh124 | exact sh128 | rfl | assumption) rfl ?_
    rw [h9]
    refine xt_callV _ dX6_readLine_14 klX6_83 (tX6_blame sc _ μ w T L s p φ G mx hR 3 a hφ (by decide)) sh115 rfl rfl (Nat.le_of_ble_eq_true rfl) (fun r4 μ4 w4 q4 => ?_)
    obtain ⟨rfl, hR4, hj4, hf4⟩ := q4
    change x_T _ _ _ _ _ _ _ _ _
    have hb := s_if1 f5
    rw [hb]
    exact (tX6_readLine17 sc d μ4 w4 T L s p k _ G mx hs hR4 (s_blm4 hφ (by decide)) (fun z => absurd (s_blm_0 (by decide) z).2 (by decide))).mono (fun r μ5 w5 q => ⟨q.1, q.2.1, c_fr.tr (fun a ha => hf4 a (by omega)) q.2.2⟩)
end LINE
