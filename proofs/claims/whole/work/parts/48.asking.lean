/-! the step of asking: many weights, the two least of which are put together -/
abbrev s_ct (v : Nat → Nat) (n x : Nat) : Nat := s_cnt (fun i => decide (v i = x)) n
noncomputable def s_lm (M : Nat → Nat) : Nat := Classical.epsilon (fun a => 0 < M a ∧ ∀ x, x < a → M x = 0)
theorem s_lm_eq {M : Nat → Nat} {a : Nat} (h1 : 0 < M a) (h2 : ∀ x, x < a → M x = 0) : s_lm M = a := by
  have h := Classical.epsilon_spec (p := fun a => 0 < M a ∧ ∀ x, x < a → M x = 0) ⟨a, h1, h2⟩
  have h3 : 0 < M (s_lm M) ∧ ∀ x, x < s_lm M → M x = 0 := h
  rcases Nat.lt_trichotomy (s_lm M) a with q | q | q
  · have := h2 _ q; omega
  · exact q
  · have := h3.2 _ q; omega
def s_dcr (M : Nat → Nat) (a : Nat) : Nat → Nat := fun x => if x = a then M x - 1 else M x
def s_icr (M : Nat → Nat) (a : Nat) : Nat → Nat := fun x => if x = a then M x + 1 else M x
noncomputable def s_two (M : Nat → Nat) : Nat := s_lm M + s_lm (s_dcr M (s_lm M))
noncomputable def s_nx (M : Nat → Nat) : Nat → Nat := s_icr (s_dcr (s_dcr M (s_lm M)) (s_lm (s_dcr M (s_lm M)))) (s_two M)
noncomputable def s_hm (M0 : Nat → Nat) : Nat → Nat → Nat
  | 0 => M0
  | j + 1 => s_nx (s_hm M0 j)
noncomputable def s_hs (M0 : Nat → Nat) : Nat → Nat
  | 0 => 0
  | j + 1 => s_hs M0 j + s_two (s_hm M0 j)
theorem s_ct_z {v : Nat → Nat} {n x : Nat} (h : ∀ i, i < n → v i ≠ x) : s_ct v n x = 0 := (s_cnt_z _ _).mpr (fun i hi => decide_eq_false (h i hi))
theorem s_ct_p {v : Nat → Nat} {n i : Nat} (hi : i < n) : 0 < s_ct v n (v i) := by
  apply Nat.pos_of_ne_zero
  intro z
  have := (s_cnt_z _ _).mp z i hi
  simp at this
theorem s_am_min {v : Nat → Nat} {lim : Nat} : ∀ n, ∀ i, i < n → (s_am v (fun _ => true) lim n).2 ≤ v i
  | 0, i, h => absurd h (by omega)
  | n + 1, i, h => by
    have ih := s_am_min (v := v) (lim := lim) n
    rw [s_am]
    by_cases hc : v n < (s_am v (fun _ => true) lim n).2
    · rw [if_pos ⟨rfl, hc⟩]
      by_cases e : i = n
      · subst e; exact Nat.le_refl _
      · have := ih i (by omega); show v n ≤ v i; omega
    · rw [if_neg (fun z => hc z.2)]
      by_cases e : i = n
      · subst e; omega
      · exact ih i (by omega)
/-- the least of them -/
theorem s_lm_ct {v : Nat → Nat} {n b : Nat} (hb : b < n) (hm : ∀ i, i < n → v b ≤ v i) : s_lm (s_ct v n) = v b := s_lm_eq (s_ct_p hb) (fun x hx => s_ct_z (fun i hi => by have := hm i hi; omega))
theorem s_cnt_ud {p q : Nat → Bool} {i : Nat} : ∀ {n : Nat}, i < n → (∀ k, k ≠ i → q k = p k) → s_cnt q n + (if p i then 1 else 0) = s_cnt p n + (if q i then 1 else 0)
  | 0, h, _ => absurd h (by omega)
  | n + 1, h, hq => by
    rw [s_cnt, s_cnt]
    by_cases e : i = n
    · subst e
      rw [s_cnt_cong (p := q) (q := p) (fun k hk => hq k (by omega))]; omega
    · have ih := s_cnt_ud (p := p) (q := q) (n := n) (show i < n by omega) hq
      rw [hq n (fun z => e z.symm)]; omega
theorem s_ct_ud {v : Nat → Nat} {n b y x : Nat} (hb : b < n) : s_ct (s_up v b y) n x + (if decide (v b = x) then 1 else 0) = s_ct v n x + (if decide (y = x) then 1 else 0) := by
  have q := s_cnt_ud (p := fun i => decide (v i = x)) (q := fun i => decide (s_up v b y i = x)) (i := b) (n := n) hb (fun k hk => by show decide (s_up v b y k = x) = decide (v k = x); rw [s_up_n hk])
  have e : decide (s_up v b y b = x) = decide (y = x) := by rw [s_up_s]
  rw [← e]; exact q
theorem s_ct_lo {v : Nat → Nat} {m y x : Nat} : s_ct (s_up v m y) m x = s_ct v m x := s_cnt_cong (fun i hi => by show decide (s_up v m y i = x) = decide (v i = x); rw [s_up_n (by omega)])
theorem s_b1 {p : Prop} [Decidable p] (h : p) : (if decide p then 1 else 0) = 1 := by rw [decide_eq_true h]; rfl
theorem s_b0 {p : Prop} [Decidable p] (h : ¬ p) : (if decide p then 1 else 0) = 0 := by rw [decide_eq_false h]; rfl
theorem s_ct_take {v : Nat → Nat} {n b : Nat} (hb : b < n) : s_ct (s_up v b (v (n - 1))) (n - 1) = s_dcr (s_ct v n) (v b) := by
  funext x
  obtain ⟨m, rfl⟩ : ∃ m, n = m + 1 := ⟨n - 1, by omega⟩
  rw [Nat.add_sub_cancel]
  have e1 : s_ct v (m + 1) x = s_ct v m x + (if decide (v m = x) then 1 else 0) := rfl
  show _ = (if x = v b then s_ct v (m + 1) x - 1 else s_ct v (m + 1) x)
  rw [e1]
  by_cases hbm : b = m
  · subst hbm
    rw [s_ct_lo]
    by_cases hx : x = v b
    · rw [if_pos hx, s_b1 hx.symm]; omega
    · rw [if_neg hx, s_b0 (fun z => hx z.symm)]; rfl
  · have h := s_ct_ud (v := v) (y := v m) (x := x) (show b < m by omega)
    by_cases hx : x = v b
    · rw [s_b1 hx.symm] at h; rw [if_pos hx]; omega
    · rw [s_b0 (p := v b = x) (fun z => hx z.symm)] at h; rw [if_neg hx]; exact h
theorem s_ct_put {v : Nat → Nat} {m y : Nat} : s_ct (s_up v m y) (m + 1) = s_icr (s_ct v m) y := by
  funext x
  have e1 : s_ct (s_up v m y) (m + 1) x = s_ct (s_up v m y) m x + (if decide (s_up v m y m = x) then 1 else 0) := rfl
  rw [e1, s_ct_lo, s_up_s]
  show _ = (if x = y then s_ct v m x + 1 else s_ct v m x)
  by_cases hx : x = y
  · rw [if_pos hx, s_b1 hx.symm]
  · rw [if_neg hx, s_b0 (fun z => hx z.symm)]; rfl
/-- eight places, some empty -/
def s_mm (v : Nat → Nat) : Nat → Nat := fun x => if x = 1000000 then 0 else s_ct v 8 x
theorem s_lm_mm {v : Nat → Nat} {b : Nat} (hb : b < 8) (hm : ∀ i, i < 8 → v b ≤ v i) (h : v b < 1000000) : s_lm (s_mm v) = v b := by
  refine s_lm_eq ?_ (fun x hx => ?_)
  · unfold s_mm; rw [if_neg (by omega)]; exact s_ct_p hb
  · unfold s_mm; rw [if_neg (by omega)]; exact s_ct_z (fun i hi => by have := hm i hi; omega)
theorem s_mm_take {v : Nat → Nat} {b : Nat} (hb : b < 8) (h : v b < 1000000) : s_mm (s_up v b 1000000) = s_dcr (s_mm v) (v b) := by
  funext x
  show (if x = 1000000 then 0 else s_ct (s_up v b 1000000) 8 x) = (if x = v b then (if x = 1000000 then 0 else s_ct v 8 x) - 1 else (if x = 1000000 then 0 else s_ct v 8 x))
  by_cases hf : x = 1000000
  · rw [if_pos hf, if_neg (by omega), if_pos hf]
  · rw [if_neg hf, if_neg hf]
    have q := s_ct_ud (v := v) (y := 1000000) (x := x) hb
    rw [s_b0 (p := 1000000 = x) (fun z => hf z.symm)] at q
    by_cases hx : x = v b
    · rw [s_b1 (p := v b = x) hx.symm] at q; rw [if_pos hx]; omega
    · rw [s_b0 (p := v b = x) (fun z => hx z.symm)] at q; rw [if_neg hx]; exact q
theorem s_mm_put {v : Nat → Nat} {b y : Nat} (hb : b < 8) (h : v b = 1000000) (hy : y < 1000000) : s_mm (s_up v b y) = s_icr (s_mm v) y := by
  funext x
  show (if x = 1000000 then 0 else s_ct (s_up v b y) 8 x) = (if x = y then (if x = 1000000 then 0 else s_ct v 8 x) + 1 else (if x = 1000000 then 0 else s_ct v 8 x))
  by_cases hf : x = 1000000
  · rw [if_pos hf, if_neg (by omega), if_pos hf]
  · rw [if_neg hf, if_neg hf]
    have q := s_ct_ud (v := v) (y := y) (x := x) hb
    rw [s_b0 (p := v b = x) (fun z => hf (by omega))] at q
    by_cases hx : x = y
    · rw [s_b1 (p := y = x) hx.symm] at q; rw [if_pos hx]; exact q
    · rw [s_b0 (p := y = x) (fun z => hx z.symm)] at q; rw [if_neg hx]; exact q
theorem s_nf_ud {v : Nat → Nat} {b y : Nat} (hb : b < 8) : s_cnt (fun i => decide (s_up v b y i ≠ 1000000)) 8 + (if decide (v b ≠ 1000000) then 1 else 0) = s_cnt (fun i => decide (v i ≠ 1000000)) 8 + (if decide (y ≠ 1000000) then 1 else 0) := by
  have q := s_cnt_ud (p := fun i => decide (v i ≠ 1000000)) (q := fun i => decide (s_up v b y i ≠ 1000000)) (i := b) (n := 8) hb (fun k hk => by show decide (s_up v b y k ≠ 1000000) = decide (v k ≠ 1000000); rw [s_up_n hk])
  have e : decide (s_up v b y b ≠ 1000000) = decide (y ≠ 1000000) := by rw [s_up_s]
  rw [← e]; exact q
/-- at the beginning both have the same -/
theorem s_mm_0 {v v8 : Nat → Nat} {n : Nat} (hn : n ≤ 8) (h1 : ∀ i, i < n → v8 i = v i ∧ v i < 1000000) (h2 : ∀ i, n ≤ i → i < 8 → v8 i = 1000000) : s_mm v8 = s_ct v n := by
  funext x
  unfold s_mm
  by_cases hf : x = 1000000
  · rw [if_pos hf]; exact (s_ct_z (fun i hi => by have := (h1 i hi).2; omega)).symm
  · rw [if_neg hf]
    have e := s_cnt_ext (fun i => decide (v i = x)) n (8 - n)
    rw [show n + (8 - n) = 8 by omega] at e
    refine Eq.trans (s_cnt_cong (fun i hi => ?_)) e
    by_cases hin : i < n
    · show decide (v8 i = x) = (decide (i < n) && decide (v i = x))
      rw [(h1 i hin).1, decide_eq_true hin, Bool.true_and]
    · show decide (v8 i = x) = (decide (i < n) && decide (v i = x))
      rw [h2 i (by omega) hi, decide_eq_false hin, Bool.false_and]; exact decide_eq_false (fun z => hf z.symm)
theorem s_fst_free {v : Nat → Nat} {c : Nat} : ∀ n, (∃ e, e < n ∧ v e = c) → ∃ b, b < n ∧ v b = c ∧ ∀ i, i < b → v i ≠ c := by
  intro n h
  obtain ⟨k, hk, hl⟩ := pk_least (fun e => e < n ∧ v e = c) h
  exact ⟨k, hk.1, hk.2, fun i hi z => hl i hi ⟨by omega, z⟩⟩
def s_qq (G : Nat) : Nat → Nat → Nat
  | 0, m => m
  | n + 1, m => if 2 ^ m < G then s_qq G n (m + 1) else m
section ASKING
variable (sc : Nat × (Nat → Int32)) (d : Nat) (μ : x_Me) (w : Int64)
set_option maxHeartbeats 2000000 in
theorem tX3_takeLightest (v : Nat → Nat) (L C : Nat) (h1 : 1 ≤ L) (h8 : L ≤ 8) (hC : C < 1000000) (hv : ∀ i, i < L → μ 145 i = nI (v i)) (hb : ∀ i, i < L → v i ≤ C) : x_K sc (d + 1) mX3_takeLightest [.ref 144, .int (nI L)] μ w (fun r μ' _ => r = some (.int (nI (s_lm (s_ct v L)))) ∧ s_lm (s_ct v L) ≤ C ∧ (∃ v', (∀ i, i < L - 1 → μ' 145 i = nI (v' i) ∧ v' i ≤ C) ∧ s_ct v' (L - 1) = s_dcr (s_ct v L) (s_lm (s_ct v L))) ∧ ∀ a, a ≠ 145 → μ' a = μ a) := by
  have hne : ∀ m, m + 1 ≤ L → (s_am v (fun _ => true) 1000001 (m + 1)).1 ≠ 0 := fun m hm z => by have hz := s_am_0 (m + 1) z; have h2 := s_am_min (v := v) (lim := 1000001) (m + 1) m (by omega); have h3 := hb m (by omega); omega
  refine x_K.of (by decide) (Nat.le_of_ble_eq_true rfl) ?_
  show x_T sc (d + 1) mX3_takeLightest 0 [.ref 144, .int (nI L), .retAddr 0, .retAddr 0] [] μ w _
  refine xt_iconst (0) dX3_takeLightest_0 (by decide) ?_
  refine xt_istore_n dX3_takeLightest_1 (by decide) rfl ?_
  change x_T _ _ _ _ [_, _, _, _] _ _ _ _
  refine xt_iconst (1) dX3_takeLightest_2 (by decide) ?_
  refine xt_istore_n dX3_takeLightest_3 (by decide) rfl ?_
  change x_T _ _ _ _ [_, _, _, _] _ _ _ _
  have L4 : ∀ (n4 m : Nat) , m + n4 = L - 1 → x_T sc (d + 1) mX3_takeLightest 4 [.ref 144, .int (nI L), .int (nI ((s_am v (fun _ => true) 1000001 (m + 1)).1 - 1)), .int (nI (m + 1))] [] μ w (fun r μ' _ => r = some (.int (nI (s_lm (s_ct v L)))) ∧ s_lm (s_ct v L) ≤ C ∧ (∃ v', (∀ i, i < L - 1 → μ' 145 i = nI (v' i) ∧ v' i ≤ C) ∧ s_ct v' (L - 1) = s_dcr (s_ct v L) (s_lm (s_ct v L))) ∧ ∀ a, a ≠ 145 → μ' a = μ a) := by
    intro n4
    induction n4 with
    | zero =>
      intro m  hmn
      obtain rfl : L - 1 = m := by omega
      rw [show L - 1 + 1 = L by omega]
      refine xt_iload_n _ dX3_takeLightest_4 rfl ?_
      refine xt_iload_n _ dX3_takeLightest_5 rfl ?_
      refine xt_icmp_ge 36 dX3_takeLightest_6 (by decide) (fun _ => ?_) (fun q => absurd (nI_le (by omega) (by omega)) q)
      refine xt_aload_n _ dX3_takeLightest_36 rfl ?_
      refine xt_getr _ dX3_takeLightest_37 kfX3_9 (by first | exact sh144 | exact hS.1 | rfl | assumption) rfl ?_
      refine xt_iload_n _ dX3_takeLightest_40 rfl ?_
      have hneL : (s_am v (fun _ => true) 1000001 L).1 ≠ 0 := by rw [show L = L - 1 + 1 by omega]; exact hne (L - 1) (by omega)
      have haL := s_am_le (v := v) (ok := (fun _ => true)) (lim := 1000001) L
      have hvL := s_am_v (v := v) (ok := (fun _ => true)) (lim := 1000001) L hneL
      have hbL := hb ((s_am v (fun _ => true) 1000001 L).1 - 1) (by omega)
      have hlm : s_lm (s_ct v L) = v ((s_am v (fun _ => true) 1000001 L).1 - 1) := s_lm_ct (by omega) (fun i hi => by rw [← hvL]; exact s_am_min L i hi)
      refine xt_cS _ dX3_takeLightest_41 klX3_78 (tX8_at sc _ μ _ (k := 145) (n := 8) rfl (by decide) _) rfl rfl (Nat.le_of_ble_eq_true rfl) ?_
      rw [s_at_ix (j := ((s_am v (fun _ => true) 1000001 L).1 - 1)) (by omega) (by decide) rfl, hv ((s_am v (fun _ => true) 1000001 L).1 - 1) (by omega)]
      refine xt_istore_n dX3_takeLightest_44 (by decide) rfl ?_
      change x_T _ _ _ _ [_, _, _, _] _ _ _ _
      refine xt_aload_n _ dX3_takeLightest_45 rfl ?_
      refine xt_getr _ dX3_takeLightest_46 kfX3_9 (by first | exact sh144 | exact hS.1 | rfl | assumption) rfl ?_
      refine xt_iload_n _ dX3_takeLightest_49 rfl ?_
      refine xt_aload_n _ dX3_takeLightest_50 rfl ?_
      refine xt_getr _ dX3_takeLightest_51 kfX3_9 (by first | exact sh144 | exact hS.1 | rfl | assumption) rfl ?_
      refine xt_iload_n _ dX3_takeLightest_54 rfl ?_
      refine xt_iconst (1) dX3_takeLightest_55 (by decide) ?_
      refine xt_isub dX3_takeLightest_56 ?_
      rw [show nI L - (1 : Int32) = nI (L - 1) from pk_sub (b := 1) h1]
      refine xt_cS _ dX3_takeLightest_57 klX3_78 (tX8_at sc _ μ _ (k := 145) (n := 8) rfl (by decide) _) rfl rfl (Nat.le_of_ble_eq_true rfl) ?_
      rw [s_at_ix (j := (L - 1)) (by omega) (by decide) rfl, hv (L - 1) (by omega)]
      refine xt_cS0 _ dX3_takeLightest_60 klX3_61 (tX8_set sc _ μ _ (k := 145) (n := 8) rfl (by decide) _ _) rfl rfl (Nat.le_of_ble_eq_true rfl) ?_
      rw [s_set_ix (by omega) (by decide)]
      refine xt_iload_n _ dX3_takeLightest_63 rfl ?_
      refine xt_iret .int dX3_takeLightest_64 rfl rfl ?_
      rw [hlm]
      refine ⟨rfl, hbL, ⟨s_up v ((s_am v (fun _ => true) 1000001 L).1 - 1) (v (L - 1)), fun i hi => ?_, s_ct_take (by omega)⟩, fun a ha => x_u_ne ha⟩
      rw [x_u_eq]
      by_cases he : i = ((s_am v (fun _ => true) 1000001 L).1 - 1)
      · rw [he, pk_us, s_up_s]; exact ⟨rfl, hb _ (by omega)⟩
      · rw [pk_un he, s_up_n he]; exact ⟨hv i (by omega), hb i (by omega)⟩
    | succ n4 ih4 =>
      intro m  hmn
      have hlt : m < L - 1 := by omega
      have hal := s_am_le (v := v) (ok := (fun _ => true)) (lim := 1000001) (m + 1)
      have hn1 := hne m (by omega)
      have hvv := s_am_v (v := v) (ok := (fun _ => true)) (lim := 1000001) (m + 1) hn1
      have hb1 := hb (m + 1) (by omega)
      have hb2 := hb ((s_am v (fun _ => true) 1000001 (m + 1)).1 - 1) (by omega)
      refine xt_iload_n _ dX3_takeLightest_4 rfl ?_
      refine xt_iload_n _ dX3_takeLightest_5 rfl ?_
      refine xt_icmp_ge 36 dX3_takeLightest_6 (by decide) (fun q => absurd q (nI_ge (by omega) (by omega))) (fun _ => ?_)
      refine xt_aload_n _ dX3_takeLightest_9 rfl ?_
      refine xt_getr _ dX3_takeLightest_10 kfX3_9 (by first | exact sh144 | exact hS.1 | rfl | assumption) rfl ?_
      refine xt_iload_n _ dX3_takeLightest_13 rfl ?_
      refine xt_cS _ dX3_takeLightest_14 klX3_78 (tX8_at sc _ μ _ (k := 145) (n := 8) rfl (by decide) _) rfl rfl (Nat.le_of_ble_eq_true rfl) ?_
      rw [s_at_ix (j := (m + 1)) (by omega) (by decide) rfl, hv (m + 1) (by omega)]
      refine xt_aload_n _ dX3_takeLightest_17 rfl ?_
      refine xt_getr _ dX3_takeLightest_18 kfX3_9 (by first | exact sh144 | exact hS.1 | rfl | assumption) rfl ?_
      refine xt_iload_n _ dX3_takeLightest_21 rfl ?_
      refine xt_cS _ dX3_takeLightest_22 klX3_78 (tX8_at sc _ μ _ (k := 145) (n := 8) rfl (by decide) _) rfl rfl (Nat.le_of_ble_eq_true rfl) ?_
      rw [s_at_ix (j := ((s_am v (fun _ => true) 1000001 (m + 1)).1 - 1)) (by omega) (by decide) rfl, hv ((s_am v (fun _ => true) 1000001 (m + 1)).1 - 1) (by omega)]
      refine xt_icmp_ge 30 dX3_takeLightest_25 (by decide) (fun t25 => ?_) (fun f25 => ?_)
      · refine xt_inc _ (1) dX3_takeLightest_30 rfl (by decide) (by decide) rfl ?_
        change x_T _ _ _ _ [_, _, _, _] _ _ _ _
        refine xt_goto 4 dX3_takeLightest_33 (by decide) ?_
        rw [nI_leI (by omega) (by omega)] at t25
        refine x_T.ls ?_ (ih4 (m + 1) (by omega))
        have es : s_am v (fun _ => true) 1000001 (m + 1 + 1) = s_am v (fun _ => true) 1000001 (m + 1) := s_am_n2 (by omega)
        rw [es, nI_succ (m + 1)]
      · refine xt_iload_n _ dX3_takeLightest_28 rfl ?_
        refine xt_istore_n dX3_takeLightest_29 (by decide) rfl ?_
        change x_T _ _ _ _ [_, _, _, _] _ _ _ _
        refine xt_inc _ (1) dX3_takeLightest_30 rfl (by decide) (by decide) rfl ?_
        change x_T _ _ _ _ [_, _, _, _] _ _ _ _
        refine xt_goto 4 dX3_takeLightest_33 (by decide) ?_
        rw [nI_leI (by omega) (by omega)] at f25
        refine x_T.ls ?_ (ih4 (m + 1) (by omega))
        have es : s_am v (fun _ => true) 1000001 (m + 1 + 1) = (m + 1 + 1, v (m + 1)) := s_am_y rfl (by omega)
        rw [es, nI_succ (m + 1)]
        rfl
  refine x_T.ls ?_ (L4 (L - 1) 0 (by omega))
  have e1 : s_am v (fun _ => true) 1000001 (0 + 1) = (0 + 1, v 0) := s_am_y rfl (by show v 0 < 1000001; have := hb 0 (by omega); omega)
  rw [e1]; rfl
set_option maxHeartbeats 1000000 in
theorem tX3_questionsForSure (G : Nat) (hG : G ≤ 8) : x_K sc d mX3_questionsForSure [.int (nI G)] μ w (x_p (some (.int (nI (s_qq G 8 0)))) μ w) := by
  refine x_K.of (by decide) (Nat.le_of_ble_eq_true rfl) ?_
  show x_T sc d mX3_questionsForSure 0 [.int (nI G), .retAddr 0, .retAddr 0] [] μ w _
  refine xt_iconst (0) dX3_questionsForSure_0 (by decide) ?_
  refine xt_istore_n dX3_questionsForSure_1 (by decide) rfl ?_
  change x_T _ _ _ _ [_, _, _] _ _ _ _
  refine xt_iconst (0) dX3_questionsForSure_2 (by decide) ?_
  refine xt_istore_n dX3_questionsForSure_3 (by decide) rfl ?_
  change x_T _ _ _ _ [_, _, _] _ _ _ _
  have L4 : ∀ (n4 m : Nat) (hR : s_qq G n4 m = s_qq G 8 0), m + n4 = 8 → x_T sc d mX3_questionsForSure 4 [.int (nI G), .int (nI m), .int (nI m)] [] μ w (x_p (some (.int (nI (s_qq G 8 0)))) μ w) := by
    intro n4
    induction n4 with
    | zero =>
      intro m hR hmn
      obtain rfl : 8 = m := by omega
      refine xt_iload_n _ dX3_questionsForSure_4 rfl ?_
      refine xt_bipush (8) dX3_questionsForSure_5 (by decide) ?_
      refine xt_icmp_ge 27 dX3_questionsForSure_7 (by decide) (fun _ => ?_) (fun q => absurd (by decide) q)
      refine xt_iload_n _ dX3_questionsForSure_27 rfl ?_
      exact xt_iret .int dX3_questionsForSure_28 rfl (by first | rfl | assumption) ⟨by rw [← hR]; rfl, rfl, rfl⟩
    | succ n4 ih4 =>
      intro m hR hmn
      have hlt : m < 8 := by omega
      have hp : 2 ^ m ≤ 2 ^ 8 := Nat.pow_le_pow_right (by decide) (by omega)
      refine xt_iload_n _ dX3_questionsForSure_4 rfl ?_
      refine xt_bipush (8) dX3_questionsForSure_5 (by decide) ?_
      refine xt_icmp_ge 27 dX3_questionsForSure_7 (by decide) (fun q => absurd q (nI_ge (b := 8) hlt (by decide))) (fun _ => ?_)
      refine xt_iconst (1) dX3_questionsForSure_10 (by decide) ?_
      refine xt_iload_n _ dX3_questionsForSure_11 rfl ?_
      refine xt_ishl dX3_questionsForSure_12 ?_
      refine xt_iload_n _ dX3_questionsForSure_13 rfl ?_
      rw [x_1sh (by omega)]
      refine xt_icmp_ge 27 dX3_questionsForSure_14 (by decide) (fun t14 => ?_) (fun f14 => ?_)
      · have n14 : G ≤ 2 ^ m := (nI_leI (a := G) (b := 2 ^ m) (by omega) (by omega)).mp t14
        refine xt_iload_n _ dX3_questionsForSure_27 rfl ?_
        exact xt_iret .int dX3_questionsForSure_28 rfl (by first | rfl | assumption) ⟨by rw [← hR, s_qq, if_neg (by omega)], rfl, rfl⟩
      · have n14 : ¬ (G ≤ 2 ^ m) := fun z => f14 ((nI_leI (a := G) (b := 2 ^ m) (by omega) (by omega)).mpr z)
        refine xt_iload_n _ dX3_questionsForSure_17 rfl ?_
        refine xt_iconst (1) dX3_questionsForSure_18 (by decide) ?_
        refine xt_iadd dX3_questionsForSure_19 ?_
        refine xt_istore_n dX3_questionsForSure_20 (by decide) rfl ?_
        change x_T _ _ _ _ [_, _, _] _ _ _ _
        refine xt_inc _ (1) dX3_questionsForSure_21 rfl (by decide) (by decide) rfl ?_
        change x_T _ _ _ _ [_, _, _] _ _ _ _
        refine xt_goto 4 dX3_questionsForSure_24 (by decide) ?_
        refine x_T.ls ?_ (ih4 (m + 1) (by rw [← hR, s_qq, if_pos (by omega)]) (by omega))
        rw [nI_succ m]
  exact L4 (8) 0 rfl (by omega)
set_option maxHeartbeats 4000000 in
theorem tX3_meanQuestions (k : Nat) (F : Nat → Nat) (hS : f_S k) (hk : k + 5 < 144) (hW : f_W F) (hC : f_C μ k F) (h1 : 1 ≤ F 4) (u : Int32) : x_K sc (d + 4) mX3_meanQuestions [.ref 144, .ref k, .int u] μ w (fun r μ' _ => r = some (.int (nI (if u = 0 then (s_hs (s_ct (fun g => s_wt F g + 1) (F 4)) (F 4 - 1)) / Nat.gcd (s_hs (s_ct (fun g => s_wt F g + 1) (F 4)) (F 4 - 1)) (s_all F + F 4) else (s_all F + F 4) / Nat.gcd (s_hs (s_ct (fun g => s_wt F g + 1) (F 4)) (F 4 - 1)) (s_all F + F 4)))) ∧ ∀ a, a ≠ 145 → μ' a = μ a) := by
  have h8 : F 4 ≤ 8 := hW.1.2.2.2.2.1
  have e4 : μ k 4 = nI (F 4) := hC.1 4 (by decide)
  have hall := s_all_le hW
  refine x_K.of (by decide) (Nat.le_of_ble_eq_true rfl) ?_
  show x_T sc (d + 4) mX3_meanQuestions 0 [.ref 144, .ref k, .int u, .retAddr 0, .retAddr 0, .retAddr 0, .retAddr 0] [] μ w _
  refine xt_iconst (0) dX3_meanQuestions_0 (by decide) ?_
  refine xt_istore_n dX3_meanQuestions_1 (by decide) rfl ?_
  change x_T _ _ _ _ [_, _, _, _, _, _, _] _ _ _ _
  have L2 : ∀ (n2 m : Nat) (μ2 : x_Me) (w2 : Int64) (hv : ∀ i, i < m → μ2 145 i = nI (s_wt F i + 1)) (hf : ∀ a, a ≠ 145 → μ2 a = μ a), m + n2 = F 4 → x_T sc (d + 4) mX3_meanQuestions 2 [.ref 144, .ref k, .int u, .int (nI m), .retAddr 0, .retAddr 0, .retAddr 0] [] μ2 w2 (fun r μ' _ => r = some (.int (nI (if u = 0 then (s_hs (s_ct (fun g => s_wt F g + 1) (F 4)) (F 4 - 1)) / Nat.gcd (s_hs (s_ct (fun g => s_wt F g + 1) (F 4)) (F 4 - 1)) (s_all F + F 4) else (s_all F + F 4) / Nat.gcd (s_hs (s_ct (fun g => s_wt F g + 1) (F 4)) (F 4 - 1)) (s_all F + F 4)))) ∧ ∀ a, a ≠ 145 → μ' a = μ a) := by
    intro n2
    induction n2 with
    | zero =>
      intro m μ2 w2 hv hf hmn
      obtain rfl : F 4 = m := by omega
      refine xt_iload_n _ dX3_meanQuestions_2 rfl ?_
      refine xt_aload_n _ dX3_meanQuestions_3 rfl ?_
      refine xt_geti dX3_meanQuestions_4 kfX3_55 (by first | exact sh144 | exact hS.1 | rfl | assumption) rfl ?_
      refine xt_icmp_ge 31 dX3_meanQuestions_7 (by decide) (fun _ => ?_) (fun q => absurd (by rw [hf k (by omega), e4]; exact Int32.le_refl _) q)
      refine xt_iconst (0) dX3_meanQuestions_31 (by decide) ?_
      refine xt_istore_n dX3_meanQuestions_32 (by decide) rfl ?_
      change x_T _ _ _ _ [_, _, _, _, _, _, _] _ _ _ _
      refine xt_aload_n _ dX3_meanQuestions_33 rfl ?_
      refine xt_geti dX3_meanQuestions_34 kfX3_55 (by first | exact sh144 | exact hS.1 | rfl | assumption) rfl ?_
      rw [hf k (by omega), e4]
      refine xt_istore dX3_meanQuestions_37 (by decide) rfl ?_
      change x_T _ _ _ _ [_, _, _, _, _, _, _] _ _ _ _
      have L39 : ∀ (n39 j : Nat) (μ2 : x_Me) (w2 : Int64) (v5 v6 : Value) (v : Nat → Nat) (hv : ∀ i, i < F 4 - j → μ2 145 i = nI (v i)) (hb : ∀ i, i < F 4 - j → v i ≤ 55 * 2 ^ j) (hM : s_ct v (F 4 - j) = s_hm (s_ct (fun g => s_wt F g + 1) (F 4)) j) (hs : s_hs (s_ct (fun g => s_wt F g + 1) (F 4)) j ≤ 110 * 2 ^ j) (hf : ∀ a, a ≠ 145 → μ2 a = μ a), j + n39 = F 4 - 1 → x_T sc (d + 4) mX3_meanQuestions 39 [.ref 144, .ref k, .int u, .int (nI (s_hs (s_ct (fun g => s_wt F g + 1) (F 4)) j)), .int (nI (F 4 - j)), v5, v6] [] μ2 w2 (fun r μ' _ => r = some (.int (nI (if u = 0 then (s_hs (s_ct (fun g => s_wt F g + 1) (F 4)) (F 4 - 1)) / Nat.gcd (s_hs (s_ct (fun g => s_wt F g + 1) (F 4)) (F 4 - 1)) (s_all F + F 4) else (s_all F + F 4) / Nat.gcd (s_hs (s_ct (fun g => s_wt F g + 1) (F 4)) (F 4 - 1)) (s_all F + F 4)))) ∧ ∀ a, a ≠ 145 → μ' a = μ a) := by
        intro n39
        induction n39 with
        | zero =>
          intro j μ2 w2 v5 v6 v hv hb hM hs hf hmn
          obtain rfl : F 4 - 1 = j := by omega
          have hp : 2 ^ (F 4 - 1) ≤ 2 ^ 7 := Nat.pow_le_pow_right (by decide) (by omega)
          obtain hsum := hs
          refine xt_iload _ dX3_meanQuestions_39 rfl ?_
          refine xt_iconst (1) dX3_meanQuestions_41 (by decide) ?_
          refine xt_icmp_le 93 dX3_meanQuestions_42 (by decide) (fun _ => ?_) (fun q => absurd (by rw [show F 4 - (F 4 - 1) = 1 by omega]; exact Int32.le_refl _) q)
          refine xt_iload_n _ dX3_meanQuestions_93 rfl ?_
          refine xt_i2l dX3_meanQuestions_94 ?_
          refine xt_aload_n _ dX3_meanQuestions_95 rfl ?_
          refine xt_cV _ dX3_meanQuestions_96 klX3_70 (tX2_allWrongs sc _ _ hS (hC.cg (fun j hj => hf _ (by omega))) hW) hS.1 rfl rfl (Nat.le_of_ble_eq_true rfl) ?_
          change x_T _ _ _ _ _ (.int (nI (s_all F)) :: _) _ _ _
          refine xt_aload_n _ dX3_meanQuestions_99 rfl ?_
          refine xt_geti dX3_meanQuestions_100 kfX3_55 (by first | exact sh144 | exact hS.1 | rfl | assumption) rfl ?_
          refine xt_iadd dX3_meanQuestions_103 ?_
          refine xt_i2l dX3_meanQuestions_104 ?_
          refine xt_iload_n _ dX3_meanQuestions_105 rfl ?_
          rw [hf k (by omega), e4, nI_add, nI_l (by omega), nI_l (by omega)]
          refine xt_cS _ dX3_meanQuestions_106 klX3_74 (tX8_part sc _ μ2 _ (s_hs (s_ct (fun g => s_wt F g + 1) (F 4)) (F 4 - 1)) (s_all F + F 4) (by omega) (by omega) (by omega) u) rfl rfl (Nat.le_of_ble_eq_true rfl) ?_
          refine xt_l2i dX3_meanQuestions_109 ?_
          exact xt_iret .int dX3_meanQuestions_110 rfl (by first | rfl | assumption) ⟨by rw [lN_i], hf⟩
        | succ n39 ih39 =>
          intro j μ2 w2 v5 v6 v hv hb hM hs hf hmn
          have hlt_j : j < F 4 - 1 := by omega
          have hp : 2 ^ j ≤ 2 ^ 7 := Nat.pow_le_pow_right (by decide) (by omega)
          refine xt_iload _ dX3_meanQuestions_39 rfl ?_
          refine xt_iconst (1) dX3_meanQuestions_41 (by decide) ?_
          refine xt_icmp_le 93 dX3_meanQuestions_42 (by decide) (fun q => absurd q (by intro z; have := (nI_leI (b := 1) (by omega) (by decide)).mp z; omega)) (fun _ => ?_)
          refine xt_aload_n _ dX3_meanQuestions_45 rfl ?_
          refine xt_iload _ dX3_meanQuestions_46 rfl ?_
          refine xt_callV _ dX3_meanQuestions_48 klX3_67 (tX3_takeLightest sc _ μ2 w2 v (F 4 - j) (55 * 2 ^ j) (by omega) (by omega) (by omega) hv hb) sh144 rfl rfl (Nat.le_of_ble_eq_true rfl) (fun r3 μ3 w3 q3 => ?_)
          obtain ⟨rfl, hl3, ⟨v3, hvb3, hM3⟩, hf3⟩ := q3
          change x_T _ _ _ _ _ (.int _ :: _) _ _ _
          have hv3 : ∀ i, i < (F 4 - j) - 1 → μ3 145 i = nI (v3 i) := fun i hi => (hvb3 i hi).1
          have hb3 : ∀ i, i < (F 4 - j) - 1 → v3 i ≤ (55 * 2 ^ j) := fun i hi => (hvb3 i hi).2
          refine xt_istore dX3_meanQuestions_51 (by decide) rfl ?_
          change x_T _ _ _ _ [_, _, _, _, _, _, _] _ _ _ _
          refine xt_aload_n _ dX3_meanQuestions_53 rfl ?_
          refine xt_iload _ dX3_meanQuestions_54 rfl ?_
          refine xt_iconst (1) dX3_meanQuestions_56 (by decide) ?_
          refine xt_isub dX3_meanQuestions_57 ?_
          rw [show nI (F 4 - j) - (1 : Int32) = nI (F 4 - j - 1) from pk_sub (b := 1) (by omega)]
          refine xt_callV _ dX3_meanQuestions_58 klX3_67 (tX3_takeLightest sc _ μ3 w3 v3 (F 4 - j - 1) (55 * 2 ^ j) (by omega) (by omega) (by omega) hv3 hb3) sh144 rfl rfl (Nat.le_of_ble_eq_true rfl) (fun r4 μ4 w4 q4 => ?_)
          obtain ⟨rfl, hl4, ⟨v4, hvb4, hM4⟩, hf4⟩ := q4
          change x_T _ _ _ _ _ (.int _ :: _) _ _ _
          have hv4 : ∀ i, i < (F 4 - j - 1) - 1 → μ4 145 i = nI (v4 i) := fun i hi => (hvb4 i hi).1
          have hb4 : ∀ i, i < (F 4 - j - 1) - 1 → v4 i ≤ (55 * 2 ^ j) := fun i hi => (hvb4 i hi).2
          refine xt_istore dX3_meanQuestions_61 (by decide) rfl ?_
          change x_T _ _ _ _ [_, _, _, _, _, _, _] _ _ _ _
          refine xt_aload_n _ dX3_meanQuestions_63 rfl ?_
          refine xt_getr _ dX3_meanQuestions_64 kfX3_9 (by first | exact sh144 | exact hS.1 | rfl | assumption) rfl ?_
          refine xt_iload _ dX3_meanQuestions_67 rfl ?_
          refine xt_iconst (2) dX3_meanQuestions_69 (by decide) ?_
          refine xt_isub dX3_meanQuestions_70 ?_
          refine xt_iload _ dX3_meanQuestions_71 rfl ?_
          refine xt_iload _ dX3_meanQuestions_73 rfl ?_
          refine xt_iadd dX3_meanQuestions_75 ?_
          rw [show nI (F 4 - j) - (2 : Int32) = nI (F 4 - j - 2) from pk_sub (b := 2) (by omega)]
          refine xt_cS0 _ dX3_meanQuestions_76 klX3_61 (tX8_set sc _ μ4 _ (k := 145) (n := 8) rfl (by decide) _ _) rfl rfl (Nat.le_of_ble_eq_true rfl) ?_
          rw [s_set_ix (by omega) (by decide)]
          refine xt_iload_n _ dX3_meanQuestions_79 rfl ?_
          refine xt_iload _ dX3_meanQuestions_80 rfl ?_
          refine xt_iload _ dX3_meanQuestions_82 rfl ?_
          refine xt_iadd dX3_meanQuestions_84 ?_
          refine xt_iadd dX3_meanQuestions_85 ?_
          refine xt_istore_n dX3_meanQuestions_86 (by decide) rfl ?_
          change x_T _ _ _ _ [_, _, _, _, _, _, _] _ _ _ _
          refine xt_inc _ (-1) dX3_meanQuestions_87 rfl (by decide) (by decide) rfl ?_
          change x_T _ _ _ _ [_, _, _, _, _, _, _] _ _ _ _
          refine xt_goto 39 dX3_meanQuestions_90 (by decide) ?_
          have e3 : s_lm (s_ct v (F 4 - j)) = s_lm (s_hm (s_ct (fun g => s_wt F g + 1) (F 4)) j) := by rw [hM]
          have e4b : s_lm (s_ct v3 (F 4 - j - 1)) = s_lm (s_dcr (s_hm (s_ct (fun g => s_wt F g + 1) (F 4)) j) (s_lm (s_hm (s_ct (fun g => s_wt F g + 1) (F 4)) j))) := by rw [hM3, hM]
          have etw : s_lm (s_ct v (F 4 - j)) + s_lm (s_ct v3 (F 4 - j - 1)) = (s_two (s_hm (s_ct (fun g => s_wt F g + 1) (F 4)) j)) := by rw [e3, e4b]; rfl
          refine x_T.ls ?_ (ih39 (j + 1) _ w4 (.int (nI (s_lm (s_ct v (F 4 - j))))) (.int (nI (s_lm (s_ct v3 (F 4 - j - 1))))) (s_up v4 (F 4 - j - 2) (s_two (s_hm (s_ct (fun g => s_wt F g + 1) (F 4)) j))) ?_ ?_ ?_ ?_ ?_ (by omega))
          · rw [nI_add, nI_add, etw, show F 4 - j = F 4 - (j + 1) + 1 by omega, pk_m1]; rfl
          · intro i hi
            rw [x_u_eq, nI_add, etw]
            by_cases he : i = F 4 - j - 2
            · subst he; rw [pk_us, s_up_s]
            · rw [pk_un he, s_up_n he]; exact hv4 i (by omega)
          · intro i hi
            rw [Nat.pow_succ]
            by_cases he : i = F 4 - j - 2
            · rw [he, s_up_s]; omega
            · rw [s_up_n he]; have := hb4 i (by omega); omega
          · rw [show F 4 - (j + 1) = F 4 - j - 2 + 1 by omega, s_ct_put, show F 4 - j - 2 = F 4 - j - 1 - 1 by omega, hM4, hM3, hM]; rfl
          · show s_hs (s_ct (fun g => s_wt F g + 1) (F 4)) j + (s_two (s_hm (s_ct (fun g => s_wt F g + 1) (F 4)) j)) ≤ _; rw [Nat.pow_succ]; omega
          · intro a ha; rw [x_u_ne ha, hf4 a ha, hf3 a ha]; exact hf a ha
      exact L39 (F 4 - 1) 0 μ2 w2 _ _ (fun g => s_wt F g + 1) (fun i hi => hv i (by omega)) (fun i hi => by have := s_wt_le hW (show i < 8 by omega); rw [Nat.pow_zero]; omega) rfl (by show 0 ≤ _; omega) hf (by omega)
    | succ n2 ih2 =>
      intro m μ2 w2 hv hf hmn
      have hlt : m < F 4 := by omega
      refine xt_iload_n _ dX3_meanQuestions_2 rfl ?_
      refine xt_aload_n _ dX3_meanQuestions_3 rfl ?_
      refine xt_geti dX3_meanQuestions_4 kfX3_55 (by first | exact sh144 | exact hS.1 | rfl | assumption) rfl ?_
      refine xt_icmp_ge 31 dX3_meanQuestions_7 (by decide) (fun q => absurd q (by rw [hf k (by omega), e4]; exact nI_ge hlt (by omega))) (fun _ => ?_)
      refine xt_aload_n _ dX3_meanQuestions_10 rfl ?_
      refine xt_getr _ dX3_meanQuestions_11 kfX3_9 (by first | exact sh144 | exact hS.1 | rfl | assumption) rfl ?_
      refine xt_iload_n _ dX3_meanQuestions_14 rfl ?_
      refine xt_aload_n _ dX3_meanQuestions_15 rfl ?_
      refine xt_iload_n _ dX3_meanQuestions_16 rfl ?_
      refine xt_cV _ dX3_meanQuestions_17 klX3_58 (tX2_wrongsTogether sc _ _ hS (hC.cg (fun j hj => hf _ (by omega))) m (by omega)) hS.1 rfl rfl (Nat.le_of_ble_eq_true rfl) ?_
      change x_T _ _ _ _ _ (.int (nI (s_wt F m)) :: _) _ _ _
      refine xt_iconst (1) dX3_meanQuestions_20 (by decide) ?_
      refine xt_iadd dX3_meanQuestions_21 ?_
      rw [← nI_succ]
      refine xt_cS0 _ dX3_meanQuestions_22 klX3_61 (tX8_set sc _ μ2 _ (k := 145) (n := 8) rfl (by decide) _ _) rfl rfl (Nat.le_of_ble_eq_true rfl) ?_
      rw [s_set_ix (by omega) (by decide)]
      refine xt_inc _ (1) dX3_meanQuestions_25 rfl (by decide) (by decide) rfl ?_
      change x_T _ _ _ _ [_, _, _, _, _, _, _] _ _ _ _
      refine xt_goto 2 dX3_meanQuestions_28 (by decide) ?_
      refine x_T.ls (by rw [nI_succ m]) (ih2 (m + 1) _ w2 (fun i hi => ?_) (fun a ha => by rw [x_u_ne ha]; exact hf a ha) (by omega))
      rw [x_u_eq]
      by_cases he : i = m
      · subst he; rw [pk_us]
      · rw [pk_un he]; exact hv i (by omega)
  exact L2 (F 4) 0 μ w (fun i hi => absurd hi (by omega)) (fun _ _ => rfl) (by omega)
end ASKING
section ASKINGM
variable (sc : Nat × (Nat → Int32)) (d : Nat) (μ : x_Me) (w : Int64)
set_option maxHeartbeats 2000000 in
theorem tX12_takeLeast (v : Nat → Nat) (C : Nat) (hC : C < 1000000) (hvb : ∀ i, i < 8 → μ 166 i = nI (v i) ∧ (v i ≤ C ∨ v i = 1000000)) (hpos : 0 < s_cnt (fun i => decide (v i ≠ 1000000)) 8) : x_K sc d mX12_takeLeast [.ref 152] μ w (fun r μ' _ => r = some (.int (nI (s_lm (s_mm v)))) ∧ s_lm (s_mm v) ≤ C ∧ (∃ v', (∀ i, i < 8 → μ' 166 i = nI (v' i) ∧ (v' i ≤ C ∨ v' i = 1000000)) ∧ s_mm v' = s_dcr (s_mm v) (s_lm (s_mm v)) ∧ (∃ e, e < 8 ∧ v' e = 1000000) ∧ s_cnt (fun i => decide (v' i ≠ 1000000)) 8 + 1 = s_cnt (fun i => decide (v i ≠ 1000000)) 8) ∧ ∀ a, a ≠ 166 → μ' a = μ a) := by
  have hv : ∀ i, i < 8 → μ 166 i = nI (v i) := fun i hi => (hvb i hi).1
  have hb : ∀ i, i < 8 → v i ≤ 1000000 := fun i hi => by have := (hvb i hi).2; omega
  have hne : ∀ m, m + 1 ≤ 8 → (s_am v (fun _ => true) 1000001 (m + 1)).1 ≠ 0 := fun m hm z => by have hz := s_am_0 (m + 1) z; have h2 := s_am_min (v := v) (lim := 1000001) (m + 1) m (by omega); have h3 := hb m (by omega); omega
  have hneL : (s_am v (fun _ => true) 1000001 8).1 ≠ 0 := hne 7 (by decide)
  have haL := s_am_le (v := v) (ok := (fun _ => true)) (lim := 1000001) 8
  have hvL := s_am_v (v := v) (ok := (fun _ => true)) (lim := 1000001) 8 hneL
  have hmin : ∀ i, i < 8 → v ((s_am v (fun _ => true) 1000001 8).1 - 1) ≤ v i := fun i hi => by rw [← hvL]; exact s_am_min 8 i hi
  have hlt8 : v ((s_am v (fun _ => true) 1000001 8).1 - 1) < 1000000 := by
    apply Classical.byContradiction
    intro z
    have hz : s_cnt (fun i => decide (v i ≠ 1000000)) 8 = 0 := (s_cnt_z _ _).mpr (fun i hi => decide_eq_false (fun q => q (by have := hmin i hi; have := hb i hi; omega)))
    omega
  have hlm : s_lm (s_mm v) = v ((s_am v (fun _ => true) 1000001 8).1 - 1) := s_lm_mm (by omega) hmin hlt8
  have hbC : v ((s_am v (fun _ => true) 1000001 8).1 - 1) ≤ C := by have := (hvb ((s_am v (fun _ => true) 1000001 8).1 - 1) (by omega)).2; omega
  refine x_K.of (by decide) (Nat.le_of_ble_eq_true rfl) ?_
  show x_T sc d mX12_takeLeast 0 [.ref 152, .retAddr 0, .retAddr 0] [] μ w _
  refine xt_iconst (0) dX12_takeLeast_0 (by decide) ?_
  refine xt_istore_n dX12_takeLeast_1 (by decide) rfl ?_
  change x_T _ _ _ _ [_, _, _] _ _ _ _
  refine xt_iconst (1) dX12_takeLeast_2 (by decide) ?_
  refine xt_istore_n dX12_takeLeast_3 (by decide) rfl ?_
  change x_T _ _ _ _ [_, _, _] _ _ _ _
  have L4 : ∀ (n4 m : Nat) , m + n4 = 7 → x_T sc d mX12_takeLeast 4 [.ref 152, .int (nI ((s_am v (fun _ => true) 1000001 (m + 1)).1 - 1)), .int (nI (m + 1))] [] μ w (fun r μ' _ => r = some (.int (nI (s_lm (s_mm v)))) ∧ s_lm (s_mm v) ≤ C ∧ (∃ v', (∀ i, i < 8 → μ' 166 i = nI (v' i) ∧ (v' i ≤ C ∨ v' i = 1000000)) ∧ s_mm v' = s_dcr (s_mm v) (s_lm (s_mm v)) ∧ (∃ e, e < 8 ∧ v' e = 1000000) ∧ s_cnt (fun i => decide (v' i ≠ 1000000)) 8 + 1 = s_cnt (fun i => decide (v i ≠ 1000000)) 8) ∧ ∀ a, a ≠ 166 → μ' a = μ a) := by
    intro n4
    induction n4 with
    | zero =>
      intro m  hmn
      obtain rfl : 7 = m := by omega
      rw [show (7 : Nat) + 1 = 8 from rfl]
      refine xt_iload_n _ dX12_takeLeast_4 rfl ?_
      refine xt_bipush (8) dX12_takeLeast_5 (by decide) ?_
      refine xt_icmp_ge 37 dX12_takeLeast_7 (by decide) (fun _ => ?_) (fun q => absurd (by decide) q)
      refine xt_aload_n _ dX12_takeLeast_37 rfl ?_
      refine xt_getr _ dX12_takeLeast_38 kfX12_50 (by first | exact sh152 | rfl | assumption) rfl ?_
      refine xt_iload_n _ dX12_takeLeast_41 rfl ?_
      refine xt_ald dX12_takeLeast_42 (by first | exact sh152 | rfl | assumption) (by exact vp_in_nI (by omega) (by decide)) ?_
      refine xt_istore_n dX12_takeLeast_43 (by decide) rfl ?_
      change x_T _ _ _ _ [_, _, _] _ _ _ _
      refine xt_aload_n _ dX12_takeLeast_44 rfl ?_
      refine xt_getr _ dX12_takeLeast_45 kfX12_50 (by first | exact sh152 | rfl | assumption) rfl ?_
      refine xt_iload_n _ dX12_takeLeast_48 rfl ?_
      refine xt_ldcw _ dX12_takeLeast_49 kkX12_353 ?_
      refine xt_ast dX12_takeLeast_52 (by first | exact sh152 | rfl | assumption) (by exact vp_in_nI (by omega) (by decide)) ?_
      refine xt_iload_n _ dX12_takeLeast_53 rfl ?_
      refine xt_iret .int dX12_takeLeast_54 rfl rfl ?_
      rw [nI_clamp (by omega), hv ((s_am v (fun _ => true) 1000001 8).1 - 1) (by omega), hlm]
      refine ⟨rfl, hbC, ⟨s_up v ((s_am v (fun _ => true) 1000001 8).1 - 1) 1000000, fun i hi => ?_, s_mm_take (by omega) hlt8, ⟨((s_am v (fun _ => true) 1000001 8).1 - 1), by omega, s_up_s⟩, ?_⟩, fun a ha => x_u_ne ha⟩
      · rw [x_u_eq]
        by_cases he : i = ((s_am v (fun _ => true) 1000001 8).1 - 1)
        · rw [he, pk_us, s_up_s]; exact ⟨rfl, Or.inr rfl⟩
        · rw [pk_un he, s_up_n he]; exact hvb i hi
      · have q := s_nf_ud (v := v) (y := 1000000) (show ((s_am v (fun _ => true) 1000001 8).1 - 1) < 8 by omega)
        rw [s_b1 (show v ((s_am v (fun _ => true) 1000001 8).1 - 1) ≠ 1000000 by omega), s_b0 (show ¬ (1000000 : Nat) ≠ 1000000 from fun z => z rfl)] at q
        exact q
    | succ n4 ih4 =>
      intro m  hmn
      have hlt : m < 7 := by omega
      have hal := s_am_le (v := v) (ok := (fun _ => true)) (lim := 1000001) (m + 1)
      have hn1 := hne m (by omega)
      have hvv := s_am_v (v := v) (ok := (fun _ => true)) (lim := 1000001) (m + 1) hn1
      have hb1 := hb (m + 1) (by omega)
      have hb2 := hb ((s_am v (fun _ => true) 1000001 (m + 1)).1 - 1) (by omega)
      refine xt_iload_n _ dX12_takeLeast_4 rfl ?_
      refine xt_bipush (8) dX12_takeLeast_5 (by decide) ?_
      refine xt_icmp_ge 37 dX12_takeLeast_7 (by decide) (fun q => absurd q (nI_ge (b := 8) (by omega) (by decide))) (fun _ => ?_)
      refine xt_aload_n _ dX12_takeLeast_10 rfl ?_
      refine xt_getr _ dX12_takeLeast_11 kfX12_50 (by first | exact sh152 | rfl | assumption) rfl ?_
      refine xt_iload_n _ dX12_takeLeast_14 rfl ?_
      refine xt_ald dX12_takeLeast_15 (by first | exact sh152 | rfl | assumption) (by exact vp_in_nI (by omega) (by decide)) ?_
      refine xt_aload_n _ dX12_takeLeast_16 rfl ?_
      refine xt_getr _ dX12_takeLeast_17 kfX12_50 (by first | exact sh152 | rfl | assumption) rfl ?_
      refine xt_iload_n _ dX12_takeLeast_20 rfl ?_
      refine xt_ald dX12_takeLeast_21 (by first | exact sh152 | rfl | assumption) (by exact vp_in_nI (by omega) (by decide)) ?_
      refine xt_icmp_ge 29 dX12_takeLeast_22 (by decide) (fun t22 => ?_) (fun f22 => ?_)
      · refine xt_iload_n _ dX12_takeLeast_29 rfl ?_
        refine xt_istore_n dX12_takeLeast_30 (by decide) rfl ?_
        change x_T _ _ _ _ [_, _, _] _ _ _ _
        refine xt_inc _ (1) dX12_takeLeast_31 rfl (by decide) (by decide) rfl ?_
        change x_T _ _ _ _ [_, _, _] _ _ _ _
        refine xt_goto 4 dX12_takeLeast_34 (by decide) ?_
        refine x_T.ls ?_ (ih4 (m + 1) (by omega))
        rw [nI_clamp (by omega), nI_clamp (by omega), hv (m + 1) (by omega), hv _ (by omega), nI_leI (by omega) (by omega)] at t22
        have es : s_am v (fun _ => true) 1000001 (m + 1 + 1) = s_am v (fun _ => true) 1000001 (m + 1) := s_am_n2 (by omega)
        rw [es, nI_succ (m + 1)]
      · refine xt_iload_n _ dX12_takeLeast_25 rfl ?_
        refine xt_goto 30 dX12_takeLeast_26 (by decide) ?_
        refine xt_istore_n dX12_takeLeast_30 (by decide) rfl ?_
        change x_T _ _ _ _ [_, _, _] _ _ _ _
        refine xt_inc _ (1) dX12_takeLeast_31 rfl (by decide) (by decide) rfl ?_
        change x_T _ _ _ _ [_, _, _] _ _ _ _
        refine xt_goto 4 dX12_takeLeast_34 (by decide) ?_
        refine x_T.ls ?_ (ih4 (m + 1) (by omega))
        rw [nI_clamp (by omega), nI_clamp (by omega), hv (m + 1) (by omega), hv _ (by omega), nI_leI (by omega) (by omega)] at f22
        have es : s_am v (fun _ => true) 1000001 (m + 1 + 1) = (m + 1 + 1, v (m + 1)) := s_am_y rfl (by omega)
        rw [es, nI_succ (m + 1)]
        rfl
  refine x_T.ls ?_ (L4 7 0 (by omega))
  have e1 : s_am v (fun _ => true) 1000001 (0 + 1) = (0 + 1, v 0) := s_am_y rfl (by show v 0 < 1000001; have := hb 0 (by omega); omega)
  rw [e1]; rfl
set_option maxHeartbeats 4000000 in
theorem tX12_questions (f : Nat) (F : Nat → Nat) (hS : m_S μ f F) (hW : f_W F) (h1 : 1 ≤ F 4) : x_K sc (d + 1) mX12_questions [.ref 152] μ w (fun r μ' _ => r = some (.int (nI (s_hs (s_ct (fun g => s_wt F g + 1) (F 4)) (F 4 - 1)))) ∧ (s_hs (s_ct (fun g => s_wt F g + 1) (F 4)) (F 4 - 1)) ≤ 110 * 2 ^ 7 ∧ ∀ a, a ≠ 166 → μ' a = μ a) := by
  have h8 : F 4 ≤ 8 := hW.1.2.2.2.2.1
  have e4 : μ 152 24 = nI (F 4) := hS.1.2.2.2.1
  refine x_K.of (by decide) (Nat.le_of_ble_eq_true rfl) ?_
  show x_T sc (d + 1) mX12_questions 0 [.ref 152, .retAddr 0, .retAddr 0, .retAddr 0, .retAddr 0] [] μ w _
  refine xt_iconst (0) dX12_questions_0 (by decide) ?_
  refine xt_istore_n dX12_questions_1 (by decide) rfl ?_
  change x_T _ _ _ _ [_, _, _, _, _] _ _ _ _
  have L2 : ∀ (n2 m : Nat) (μ2 : x_Me) (w2 : Int64) (hv : ∀ i, i < m → μ2 166 i = nI (if i < F 4 then s_wt F i + 1 else 1000000)) (hf : ∀ a, a ≠ 166 → μ2 a = μ a), m + n2 = 8 → x_T sc (d + 1) mX12_questions 2 [.ref 152, .int (nI m), .retAddr 0, .retAddr 0, .retAddr 0] [] μ2 w2 (fun r μ' _ => r = some (.int (nI (s_hs (s_ct (fun g => s_wt F g + 1) (F 4)) (F 4 - 1)))) ∧ (s_hs (s_ct (fun g => s_wt F g + 1) (F 4)) (F 4 - 1)) ≤ 110 * 2 ^ 7 ∧ ∀ a, a ≠ 166 → μ' a = μ a) := by
    intro n2
    induction n2 with
    | zero =>
      intro m μ2 w2 hv hf hmn
      obtain rfl : 8 = m := by omega
      refine xt_iload_n _ dX12_questions_2 rfl ?_
      refine xt_bipush (8) dX12_questions_3 (by decide) ?_
      refine xt_icmp_ge 41 dX12_questions_5 (by decide) (fun _ => ?_) (fun q => absurd (by decide) q)
      refine xt_iconst (0) dX12_questions_41 (by decide) ?_
      refine xt_istore_n dX12_questions_42 (by decide) rfl ?_
      change x_T _ _ _ _ [_, _, _, _, _] _ _ _ _
      refine xt_aload_n _ dX12_questions_43 rfl ?_
      refine xt_geti dX12_questions_44 kfX12_251 (by first | exact sh152 | rfl | assumption) rfl ?_
      rw [hf 152 (by decide), e4]
      refine xt_istore_n dX12_questions_47 (by decide) rfl ?_
      change x_T _ _ _ _ [_, _, _, _, _] _ _ _ _
      have L48 : ∀ (n48 j : Nat) (μ2 : x_Me) (w2 : Int64) (v3l v4l : Value) (v : Nat → Nat) (hvb : ∀ i, i < 8 → μ2 166 i = nI (v i) ∧ (v i ≤ 55 * 2 ^ j ∨ v i = 1000000)) (hM : s_mm v = s_hm (s_ct (fun g => s_wt F g + 1) (F 4)) j) (hc : s_cnt (fun i => decide (v i ≠ 1000000)) 8 = F 4 - j) (hs : s_hs (s_ct (fun g => s_wt F g + 1) (F 4)) j ≤ 110 * 2 ^ j) (hf : ∀ a, a ≠ 166 → μ2 a = μ a), j + n48 = F 4 - 1 → x_T sc (d + 1) mX12_questions 48 [.ref 152, .int (nI (s_hs (s_ct (fun g => s_wt F g + 1) (F 4)) j)), .int (nI (F 4 - j)), v3l, v4l] [] μ2 w2 (fun r μ' _ => r = some (.int (nI (s_hs (s_ct (fun g => s_wt F g + 1) (F 4)) (F 4 - 1)))) ∧ (s_hs (s_ct (fun g => s_wt F g + 1) (F 4)) (F 4 - 1)) ≤ 110 * 2 ^ 7 ∧ ∀ a, a ≠ 166 → μ' a = μ a) := by
        intro n48
        induction n48 with
        | zero =>
          intro j μ2 w2 v3l v4l v hvb hM hc hs hf hmn
          obtain rfl : F 4 - 1 = j := by omega
          refine xt_iload_n _ dX12_questions_48 rfl ?_
          refine xt_iconst (1) dX12_questions_49 (by decide) ?_
          refine xt_icmp_le 105 dX12_questions_50 (by decide) (fun _ => ?_) (fun q => absurd (by rw [show F 4 - (F 4 - 1) = 1 by omega]; exact Int32.le_refl _) q)
          refine xt_iload_n _ dX12_questions_105 rfl ?_
          exact xt_iret .int dX12_questions_106 rfl (by first | rfl | assumption) ⟨rfl, Nat.le_trans hs (Nat.mul_le_mul_left _ (Nat.pow_le_pow_right (by decide) (by omega))), hf⟩
        | succ n48 ih48 =>
          intro j μ2 w2 v3l v4l v hvb hM hc hs hf hmn
          have hlt_j : j < F 4 - 1 := by omega
          have hp : 2 ^ j ≤ 2 ^ 7 := Nat.pow_le_pow_right (by decide) (by omega)
          refine xt_iload_n _ dX12_questions_48 rfl ?_
          refine xt_iconst (1) dX12_questions_49 (by decide) ?_
          refine xt_icmp_le 105 dX12_questions_50 (by decide) (fun q => absurd q (by intro z; have := (nI_leI (b := 1) (by omega) (by decide)).mp z; omega)) (fun _ => ?_)
          refine xt_aload_n _ dX12_questions_53 rfl ?_
          refine xt_callV _ dX12_questions_54 klX12_364 (tX12_takeLeast sc _ μ2 w2 v (55 * 2 ^ j) (by omega) hvb (by omega)) sh152 rfl rfl (Nat.le_of_ble_eq_true rfl) (fun r3 μ3 w3 q3 => ?_)
          obtain ⟨rfl, hl3, ⟨v3, hvb3, hM3, he3, hc3⟩, hf3⟩ := q3
          change x_T _ _ _ _ _ (.int _ :: _) _ _ _
          refine xt_istore_n dX12_questions_57 (by decide) rfl ?_
          change x_T _ _ _ _ [_, _, _, _, _] _ _ _ _
          refine xt_iload_n _ dX12_questions_58 rfl ?_
          refine xt_aload_n _ dX12_questions_59 rfl ?_
          refine xt_callV _ dX12_questions_60 klX12_364 (tX12_takeLeast sc _ μ3 w3 v3 (55 * 2 ^ j) (by omega) hvb3 (by omega)) sh152 rfl rfl (Nat.le_of_ble_eq_true rfl) (fun r4 μ4 w4 q4 => ?_)
          obtain ⟨rfl, hl4, ⟨v4, hvb4, hM4, he4, hc4⟩, hf4⟩ := q4
          change x_T _ _ _ _ _ (.int _ :: _) _ _ _
          have etw : s_lm (s_mm v) + s_lm (s_mm v3) = (s_two (s_hm (s_ct (fun g => s_wt F g + 1) (F 4)) j)) := by rw [hM3, hM]; rfl
          obtain ⟨b, hb8, hbv, hbn⟩ := s_fst_free 8 he4
          refine xt_iadd dX12_questions_63 ?_
          rw [nI_add, etw]
          refine xt_istore_n dX12_questions_64 (by decide) rfl ?_
          change x_T _ _ _ _ [_, _, _, _, _] _ _ _ _
          refine xt_iload_n _ dX12_questions_65 rfl ?_
          refine xt_iload_n _ dX12_questions_66 rfl ?_
          refine xt_iadd dX12_questions_67 ?_
          refine xt_istore_n dX12_questions_68 (by decide) rfl ?_
          change x_T _ _ _ _ [_, _, _, _, _] _ _ _ _
          refine xt_iconst (0) dX12_questions_69 (by decide) ?_
          refine xt_istore dX12_questions_70 (by decide) rfl ?_
          change x_T _ _ _ _ [_, _, _, _, _] _ _ _ _
          have L72 : ∀ (n72 e : Nat) , e + n72 = b → x_T sc (d + 1) mX12_questions 72 [.ref 152, .int (nI (s_hs (s_ct (fun g => s_wt F g + 1) (F 4)) j) + nI (s_two (s_hm (s_ct (fun g => s_wt F g + 1) (F 4)) j))), .int (nI (F 4 - j)), .int (nI (s_two (s_hm (s_ct (fun g => s_wt F g + 1) (F 4)) j))), .int (nI e)] [] μ4 w4 (fun r μ' _ => r = some (.int (nI (s_hs (s_ct (fun g => s_wt F g + 1) (F 4)) (F 4 - 1)))) ∧ (s_hs (s_ct (fun g => s_wt F g + 1) (F 4)) (F 4 - 1)) ≤ 110 * 2 ^ 7 ∧ ∀ a, a ≠ 166 → μ' a = μ a) := by
            intro n72
            induction n72 with
            | zero =>
              intro e  hmn
              obtain rfl : b = e := by omega
              refine xt_aload_n _ dX12_questions_72 rfl ?_
              refine xt_getr _ dX12_questions_73 kfX12_50 (by first | exact sh152 | rfl | assumption) rfl ?_
              refine xt_iload _ dX12_questions_76 rfl ?_
              refine xt_ald dX12_questions_78 (by first | exact sh152 | rfl | assumption) (by exact vp_in_nI (by omega) (by decide)) ?_
              refine xt_ldcw _ dX12_questions_79 kkX12_353 ?_
              refine xt_icmp_eq 91 dX12_questions_82 (by decide) (fun _ => ?_) (fun q => absurd (by rw [nI_clamp (by omega), (hvb4 b hb8).1, hbv]; rfl) q)
              refine xt_aload_n _ dX12_questions_91 rfl ?_
              refine xt_getr _ dX12_questions_92 kfX12_50 (by first | exact sh152 | rfl | assumption) rfl ?_
              refine xt_iload _ dX12_questions_95 rfl ?_
              refine xt_iload_n _ dX12_questions_97 rfl ?_
              skip
              refine xt_ast dX12_questions_98 (by first | exact sh152 | rfl | assumption) (by exact vp_in_nI (by omega) (by decide)) ?_
              refine xt_inc _ (-1) dX12_questions_99 rfl (by decide) (by decide) rfl ?_
              change x_T _ _ _ _ [_, _, _, _, _] _ _ _ _
              refine xt_goto 48 dX12_questions_102 (by decide) ?_
              refine x_T.ls ?_ (ih48 (j + 1) _ w4 (.int (nI (s_two (s_hm (s_ct (fun g => s_wt F g + 1) (F 4)) j)))) (.int (nI b)) (s_up v4 b (s_two (s_hm (s_ct (fun g => s_wt F g + 1) (F 4)) j))) (fun i hi => ?_) ?_ ?_ ?_ ?_ (by omega))
              · rw [show F 4 - j = F 4 - (j + 1) + 1 by omega, pk_m1, nI_add]; rfl
              · rw [x_u_eq, nI_clamp (by omega), Nat.pow_succ]
                by_cases he : i = b
                · subst he; rw [pk_us, s_up_s]; exact ⟨rfl, Or.inl (by omega)⟩
                · rw [pk_un he, s_up_n he]; have := hvb4 i hi; exact ⟨this.1, by omega⟩
              · rw [s_mm_put hb8 hbv (by omega), hM4, hM3, hM]; rfl
              · have q := s_nf_ud (v := v4) (y := (s_two (s_hm (s_ct (fun g => s_wt F g + 1) (F 4)) j))) hb8
                rw [s_b0 (show ¬ v4 b ≠ 1000000 from fun z => z hbv), s_b1 (show (s_two (s_hm (s_ct (fun g => s_wt F g + 1) (F 4)) j)) ≠ 1000000 by omega)] at q
                omega
              · show s_hs (s_ct (fun g => s_wt F g + 1) (F 4)) j + (s_two (s_hm (s_ct (fun g => s_wt F g + 1) (F 4)) j)) ≤ _; rw [Nat.pow_succ]; omega
              · intro a ha; rw [x_u_ne ha, hf4 a ha, hf3 a ha]; exact hf a ha
            | succ n72 ih72 =>
              intro e  hmn
              have hlt_e : e < b := by omega
              refine xt_aload_n _ dX12_questions_72 rfl ?_
              refine xt_getr _ dX12_questions_73 kfX12_50 (by first | exact sh152 | rfl | assumption) rfl ?_
              refine xt_iload _ dX12_questions_76 rfl ?_
              refine xt_ald dX12_questions_78 (by first | exact sh152 | rfl | assumption) (by exact vp_in_nI (by omega) (by decide)) ?_
              refine xt_ldcw _ dX12_questions_79 kkX12_353 ?_
              refine xt_icmp_eq 91 dX12_questions_82 (by decide) (fun q => absurd q (by rw [nI_clamp (by omega), (hvb4 e (by omega)).1]; intro z; have hq := hvb4 e (by omega); exact hbn e hlt_e ((nI_eq (b := 1000000) (by omega) (by decide)).mp z))) (fun _ => ?_)
              refine xt_inc _ (1) dX12_questions_85 rfl (by decide) (by decide) rfl ?_
              change x_T _ _ _ _ [_, _, _, _, _] _ _ _ _
              refine xt_goto 72 dX12_questions_88 (by decide) ?_
              refine x_T.ls ?_ (ih72 (e + 1) (by omega))
              rw [nI_succ e]
          exact L72 b 0 (by omega)
      refine L48 (F 4 - 1) 0 μ2 w2 _ _ (fun i => if i < F 4 then s_wt F i + 1 else 1000000) (fun i hi => ⟨hv i hi, ?_⟩) ?_ ?_ (by show 0 ≤ _; omega) hf (by omega)
      · have := s_wt_le hW hi; rw [Nat.pow_zero]; split
        · exact Or.inl (by omega)
        · exact Or.inr rfl
      · exact s_mm_0 h8 (fun i hi => ⟨if_pos hi, by have := s_wt_le hW (show i < 8 by omega); omega⟩) (fun i h1 h2 => if_neg (by omega))
      · have e := s_cnt_ext (fun _ => true) (F 4) (8 - F 4)
        rw [show F 4 + (8 - F 4) = 8 by omega, s_cnt_all] at e
        refine Eq.trans (s_cnt_cong (q := fun i => decide (i < F 4) && true) (fun i hi => ?_)) e
        have := s_wt_le hW hi
        show decide ((if i < F 4 then s_wt F i + 1 else 1000000) ≠ 1000000) = (decide (i < F 4) && true)
        by_cases hin : i < F 4
        · rw [if_pos hin, decide_eq_true hin, Bool.and_true]; exact decide_eq_true (by omega)
        · rw [if_neg hin, decide_eq_false hin, Bool.false_and]; exact decide_eq_false (fun z => z rfl)
    | succ n2 ih2 =>
      intro m μ2 w2 hv hf hmn
      have hlt : m < 8 := by omega
      have hwt := s_wt_le hW hlt
      refine xt_iload_n _ dX12_questions_2 rfl ?_
      refine xt_bipush (8) dX12_questions_3 (by decide) ?_
      refine xt_icmp_ge 41 dX12_questions_5 (by decide) (fun q => absurd q (nI_ge (b := 8) hlt (by decide))) (fun _ => ?_)
      refine xt_aload_n _ dX12_questions_8 rfl ?_
      refine xt_getr _ dX12_questions_9 kfX12_50 (by first | exact sh152 | rfl | assumption) rfl ?_
      refine xt_iload_n _ dX12_questions_12 rfl ?_
      refine xt_iload_n _ dX12_questions_13 rfl ?_
      refine xt_aload_n _ dX12_questions_14 rfl ?_
      refine xt_geti dX12_questions_15 kfX12_251 (by first | exact sh152 | rfl | assumption) rfl ?_
      refine xt_icmp_ge 31 dX12_questions_18 (by decide) (fun t18 => ?_) (fun f18 => ?_)
      · refine xt_ldcw _ dX12_questions_31 kkX12_353 ?_
        refine xt_ast dX12_questions_34 (by first | exact sh152 | rfl | assumption) (by exact vp_in_nI (by omega) (by decide)) ?_
        refine xt_inc _ (1) dX12_questions_35 rfl (by decide) (by decide) rfl ?_
        change x_T _ _ _ _ [_, _, _, _, _] _ _ _ _
        refine xt_goto 2 dX12_questions_38 (by decide) ?_
        refine x_T.ls (by rw [nI_succ m]) (ih2 (m + 1) _ w2 (fun i hi => ?_) (fun a ha => by rw [x_u_ne ha]; exact hf a ha) (by omega))
        rw [hf 152 (by decide), e4, nI_leI (by omega) (by omega)] at t18
        rw [x_u_eq, nI_clamp (by omega)]
        by_cases he : i = m
        · subst he; rw [pk_us, if_neg (by omega)]; rfl
        · rw [pk_un he]; exact hv i (by omega)
      · refine xt_iconst (1) dX12_questions_21 (by decide) ?_
        refine xt_aload_n _ dX12_questions_22 rfl ?_
        refine xt_iload_n _ dX12_questions_23 rfl ?_
        refine xt_cV _ dX12_questions_24 klX12_354 (tX12_wrongsOf sc _ μ2 _ F (fun i hi => by rw [hf 165 (by decide)]; exact hS.2.2.1 i hi) m (by omega)) sh152 rfl rfl (Nat.le_of_ble_eq_true rfl) ?_
        refine xt_iadd dX12_questions_27 ?_
        refine xt_goto 34 dX12_questions_28 (by decide) ?_
        refine xt_ast dX12_questions_34 (by first | exact sh152 | rfl | assumption) (by exact vp_in_nI (by omega) (by decide)) ?_
        refine xt_inc _ (1) dX12_questions_35 rfl (by decide) (by decide) rfl ?_
        change x_T _ _ _ _ [_, _, _, _, _] _ _ _ _
        refine xt_goto 2 dX12_questions_38 (by decide) ?_
        refine x_T.ls (by rw [nI_succ m]) (ih2 (m + 1) _ w2 (fun i hi => ?_) (fun a ha => by rw [x_u_ne ha]; exact hf a ha) (by omega))
        rw [hf 152 (by decide), e4, nI_leI (by omega) (by omega)] at f18
        rw [x_u_eq, nI_clamp (by omega)]
        by_cases he : i = m
        · subst he; rw [pk_us, if_pos (by omega), Nat.add_comm, ← nI_add]; rfl
        · rw [pk_un he]; exact hv i (by omega)
  exact L2 (8) 0 μ w (fun i hi => absurd hi (by omega)) (fun _ _ => rfl) (by omega)
end ASKINGM
set_option maxHeartbeats 4000000 in
theorem st_asking (sc : Nat × (Nat → Int32)) (a1 a2 : Int32) : x_stI sc (fun μ _ => x_Inv μ) (fun μ _ => x_Inv μ) mX11_asking mX12_asking [.int a1, .int a2] := by
  refine x_stF (-1) ?_ ?_ ?_
  · intro μ w c hc e hk
    refine x_K.of (by decide) (Nat.le_of_ble_eq_true rfl) ?_
    show x_T sc 29 mX11_asking 0 [.ref 0, .int a1, .int a2, .retAddr 0] [] μ w _
    refine xt_aload_n _ dX11_asking_0 rfl ?_
    refine xt_iload_n _ dX11_asking_1 rfl ?_
    refine xt_cV _ dX11_asking_2 klX11_90 (tX11_fairOf_no sc _ μ w c hc e _ hk) sh0 rfl rfl (Nat.le_of_ble_eq_true rfl) ?_
    refine xt_astore_n0 dX11_asking_5 (by decide) rfl ?_
    change x_T _ _ _ _ [_, _, _, _] _ _ _ _
    refine xt_aload_n0 dX11_asking_6 rfl ?_
    refine xt_ifnull_n 17 dX11_asking_7 (by decide) ?_
    refine xt_iconst (-1) dX11_asking_17 (by decide) ?_
    exact xt_iret .int dX11_asking_18 rfl (by first | rfl | assumption) ⟨rfl, x_keep.rf μ⟩
  · intro μ w c hc e hk
    refine x_K.of (by decide) (Nat.le_of_ble_eq_true rfl) ?_
    show x_T sc 29 mX12_asking 0 [.ref 152, .int a1, .int a2, .retAddr 0] [] μ w _
    refine xt_aload_n _ dX12_asking_0 rfl ?_
    refine xt_iconst (0) dX12_asking_1 (by decide) ?_
    refine xt_puti dX12_asking_2 kpX12_72 (by first | exact sh152 | rfl | assumption) rfl (by first | rfl | assumption) (by first | rfl | assumption) ?_
    refine xt_aload_n _ dX12_asking_5 rfl ?_
    refine xt_iload_n _ dX12_asking_6 rfl ?_
    refine xt_cV _ dX12_asking_7 klX12_300 (tX12_hand_no sc _ (x_u μ 152 (upd (μ 152) 0 0)) w c hc e _ hk) sh152 rfl rfl (Nat.le_of_ble_eq_true rfl) ?_
    refine xt_if_eq 29 dX12_asking_10 (by decide) (fun _ => ?_) (fun q => absurd (by decide) q)
    refine xt_iconst (-1) dX12_asking_29 (by decide) ?_
    exact xt_iret .int dX12_asking_30 rfl (by first | rfl | assumption) ⟨rfl, (x_keep.u (x_keep.rf μ) (by unfold x_ok; omega))⟩
  · intro f F hf2 hkk hW
    subst hkk
    have h8 : F 4 ≤ 8 := hW.1.2.2.2.2.1
    have hall := s_all_le hW
    by_cases hz4 : F 4 = 0
    · skip
      refine ⟨-1, ?_, ?_⟩
      · intro μ w c hf hc e hC
        have hS := f_Sf hf2
        refine x_K.of (by decide) (Nat.le_of_ble_eq_true rfl) ?_
        show x_T sc 29 mX11_asking 0 [.ref 0, .int (nI f), .int a2, .retAddr 0] [] μ w _
        refine xt_aload_n _ dX11_asking_0 rfl ?_
        refine xt_iload_n _ dX11_asking_1 rfl ?_
        refine xt_cV _ dX11_asking_2 klX11_90 (tX11_fairOf sc _ μ w f c hf hc e) sh0 rfl rfl (Nat.le_of_ble_eq_true rfl) ?_
        refine xt_astore_n dX11_asking_5 (by decide) rfl ?_
        change x_T _ _ _ _ [_, _, _, _] _ _ _ _
        refine xt_aload_n _ dX11_asking_6 rfl ?_
        refine xt_ifnull_r dX11_asking_7 ?_
        refine xt_aload_n _ dX11_asking_10 rfl ?_
        refine xt_geti dX11_asking_11 kfX11_131 (by first | exact sh0 | exact sh1 | exact hS.1 | rfl | assumption) rfl ?_
        refine xt_if_ne 19 dX11_asking_14 (by decide) (fun q => absurd (by rw [hC.1 4 (by decide), hz4]; rfl) q) (fun _ => ?_)
        refine xt_iconst (-1) dX11_asking_17 (by decide) ?_
        exact xt_iret .int dX11_asking_18 rfl (by first | rfl | assumption) ⟨rfl, x_keep.rf μ⟩
      · intro μ w c hf hc e hF
        refine x_K.of (by decide) (Nat.le_of_ble_eq_true rfl) ?_
        show x_T sc 29 mX12_asking 0 [.ref 152, .int (nI f), .int a2, .retAddr 0] [] μ w _
        refine xt_aload_n _ dX12_asking_0 rfl ?_
        refine xt_iconst (0) dX12_asking_1 (by decide) ?_
        refine xt_puti dX12_asking_2 kpX12_72 (by first | exact sh152 | rfl | assumption) rfl (by first | rfl | assumption) (by first | rfl | assumption) ?_
        refine xt_aload_n _ dX12_asking_5 rfl ?_
        refine xt_iload_n _ dX12_asking_6 rfl ?_
        refine xt_callV _ dX12_asking_7 klX12_300 (tX12_hand sc _ (x_u μ 152 (upd (μ 152) 0 0)) w f c F hf hc e hF) sh152 rfl rfl (Nat.le_of_ble_eq_true rfl) (fun r1 μ1 w1 q1 => ?_)
        obtain ⟨rfl, rfl, hS, h0, hfr⟩ := q1
        change x_T _ _ _ _ _ (.int 1 :: _) _ _ _
        have e4 : μ1 152 24 = nI (F 4) := hS.1.2.2.2.1
        refine xt_if_eq 29 dX12_asking_10 (by decide) (fun q => absurd q (by decide)) (fun _ => ?_)
        refine xt_aload_n _ dX12_asking_13 rfl ?_
        refine xt_geti dX12_asking_14 kfX12_251 (by first | exact sh152 | rfl | assumption) rfl ?_
        refine xt_if_eq 29 dX12_asking_17 (by decide) (fun _ => ?_) (fun q => absurd (by rw [e4, hz4]; rfl) q)
        refine xt_iconst (-1) dX12_asking_29 (by decide) ?_
        exact xt_iret .int dX12_asking_30 rfl (by first | rfl | assumption) ⟨rfl, (x_keep.hand hfr)⟩
    · have h1 : 1 ≤ F 4 := by omega
      by_cases hw : 0 ≤ a2 ∧ a2 ≤ nI 2
      · obtain ⟨j, hj, rfl⟩ := x_rng (N := 2) (by decide) hw
        have hj' : j = 0 ∨ j = 1 ∨ j = 2 := by omega
        rcases hj' with rfl | rfl | rfl
        · skip
          refine ⟨nI (if (0 : Int32) = 0 then (s_hs (s_ct (fun g => s_wt F g + 1) (F 4)) (F 4 - 1)) / Nat.gcd (s_hs (s_ct (fun g => s_wt F g + 1) (F 4)) (F 4 - 1)) (s_all F + F 4) else (s_all F + F 4) / Nat.gcd (s_hs (s_ct (fun g => s_wt F g + 1) (F 4)) (F 4 - 1)) (s_all F + F 4)), ?_, ?_⟩
          · intro μ w c hf hc e hC
            have hS := f_Sf hf2
            refine x_K.of (by decide) (Nat.le_of_ble_eq_true rfl) ?_
            show x_T sc 29 mX11_asking 0 [.ref 0, .int (nI f), .int (nI 0), .retAddr 0] [] μ w _
            refine xt_aload_n _ dX11_asking_0 rfl ?_
            refine xt_iload_n _ dX11_asking_1 rfl ?_
            refine xt_cV _ dX11_asking_2 klX11_90 (tX11_fairOf sc _ μ w f c hf hc e) sh0 rfl rfl (Nat.le_of_ble_eq_true rfl) ?_
            refine xt_astore_n dX11_asking_5 (by decide) rfl ?_
            change x_T _ _ _ _ [_, _, _, _] _ _ _ _
            refine xt_aload_n _ dX11_asking_6 rfl ?_
            refine xt_ifnull_r dX11_asking_7 ?_
            refine xt_aload_n _ dX11_asking_10 rfl ?_
            refine xt_geti dX11_asking_11 kfX11_131 (by first | exact sh0 | exact sh1 | exact hS.1 | rfl | assumption) rfl ?_
            refine xt_if_ne 19 dX11_asking_14 (by decide) (fun _ => ?_) (fun q => absurd q (by rw [hC.1 4 (by decide)]; exact nI_ne0 (by omega) (by omega)))
            refine xt_iload_n _ dX11_asking_19 rfl ?_
            refine xt_iconst (2) dX11_asking_20 (by decide) ?_
            refine xt_icmp_ne 32 dX11_asking_21 (by decide) (fun _ => ?_) (fun q => absurd q (by decide))
            refine xt_iload_n _ dX11_asking_32 rfl ?_
            refine xt_if_eq 41 dX11_asking_33 (by decide) (fun _ => ?_) (fun q => absurd (by decide) q)
            refine xt_aload_n _ dX11_asking_41 rfl ?_
            refine xt_getr _ dX11_asking_42 kfX11_48 (by first | exact sh0 | exact sh1 | exact hS.1 | rfl | assumption) rfl ?_
            refine xt_aload_n _ dX11_asking_45 rfl ?_
            refine xt_iload_n _ dX11_asking_46 rfl ?_
            refine xt_iconst (1) dX11_asking_47 (by decide) ?_
            refine xt_icmp_ne 55 dX11_asking_48 (by decide) (fun _ => ?_) (fun q => absurd q (by decide))
            refine xt_iconst (0) dX11_asking_55 (by decide) ?_
            refine xt_callV _ dX11_asking_56 klX11_137 (tX3_meanQuestions sc _ μ w (7 + 11 * f) F hS (by omega) hW hC h1 0) sh144 rfl rfl (Nat.le_of_ble_eq_true rfl) (fun r2 μ2 w2 q2 => ?_)
            obtain ⟨rfl, hfr2⟩ := q2
            change x_T _ _ _ _ _ (.int _ :: _) _ _ _
            refine xt_goto 63 dX11_asking_59 (by decide) ?_
            exact xt_iret .int dX11_asking_63 rfl (by first | rfl | assumption) ⟨rfl, (fun a ha => hfr2 a (by unfold x_ok at ha; omega))⟩
          · intro μ w c hf hc e hF
            refine x_K.of (by decide) (Nat.le_of_ble_eq_true rfl) ?_
            show x_T sc 29 mX12_asking 0 [.ref 152, .int (nI f), .int (nI 0), .retAddr 0] [] μ w _
            refine xt_aload_n _ dX12_asking_0 rfl ?_
            refine xt_iconst (0) dX12_asking_1 (by decide) ?_
            refine xt_puti dX12_asking_2 kpX12_72 (by first | exact sh152 | rfl | assumption) rfl (by first | rfl | assumption) (by first | rfl | assumption) ?_
            refine xt_aload_n _ dX12_asking_5 rfl ?_
            refine xt_iload_n _ dX12_asking_6 rfl ?_
            refine xt_callV _ dX12_asking_7 klX12_300 (tX12_hand sc _ (x_u μ 152 (upd (μ 152) 0 0)) w f c F hf hc e hF) sh152 rfl rfl (Nat.le_of_ble_eq_true rfl) (fun r1 μ1 w1 q1 => ?_)
            obtain ⟨rfl, rfl, hS, h0, hfr⟩ := q1
            change x_T _ _ _ _ _ (.int 1 :: _) _ _ _
            have e4 : μ1 152 24 = nI (F 4) := hS.1.2.2.2.1
            refine xt_if_eq 29 dX12_asking_10 (by decide) (fun q => absurd q (by decide)) (fun _ => ?_)
            refine xt_aload_n _ dX12_asking_13 rfl ?_
            refine xt_geti dX12_asking_14 kfX12_251 (by first | exact sh152 | rfl | assumption) rfl ?_
            refine xt_if_eq 29 dX12_asking_17 (by decide) (fun q => absurd q (by rw [e4]; exact nI_ne0 (by omega) (by omega))) (fun _ => ?_)
            refine xt_iload_n _ dX12_asking_20 rfl ?_
            refine xt_iconst (0) dX12_asking_21 (by decide) ?_
            refine xt_iconst (2) dX12_asking_22 (by decide) ?_
            refine xt_cS _ dX12_asking_23 klX12_84 (tX12_in sc _ _ _ _ _ _) rfl rfl (Nat.le_of_ble_eq_true rfl) ?_
            refine xt_if_ne 31 dX12_asking_26 (by decide) (fun _ => ?_) (fun q => absurd q (by decide))
            refine xt_iload_n _ dX12_asking_31 rfl ?_
            refine xt_iconst (2) dX12_asking_32 (by decide) ?_
            refine xt_icmp_ne 56 dX12_asking_33 (by decide) (fun _ => ?_) (fun q => absurd q (by decide))
            refine xt_aload_n _ dX12_asking_56 rfl ?_
            refine xt_callV _ dX12_asking_57 klX12_367 (tX12_questions sc _ μ1 _ f F hS hW h1) sh152 rfl rfl (Nat.le_of_ble_eq_true rfl) (fun r2 μ2 w2 q2 => ?_)
            obtain ⟨rfl, hX, hfr2⟩ := q2
            change x_T _ _ _ _ _ (.int _ :: _) _ _ _
            refine xt_aload_n _ dX12_asking_60 rfl ?_
            refine xt_geti dX12_asking_61 kfX12_251 (by first | exact sh152 | rfl | assumption) rfl ?_
            refine xt_aload_n _ dX12_asking_64 rfl ?_
            refine xt_cV _ dX12_asking_65 klX12_370 (tX12_allWrongs sc _ μ2 _ F h8 (by rw [hfr2 152 (by decide)]; exact e4) (fun i hi => by rw [hfr2 165 (by decide)]; exact hS.2.2.1 i hi)) sh152 rfl rfl (Nat.le_of_ble_eq_true rfl) ?_
            refine xt_iadd dX12_asking_68 ?_
            refine xt_iload_n _ dX12_asking_69 rfl ?_
            refine xt_iconst (1) dX12_asking_70 (by decide) ?_
            refine xt_icmp_ne 78 dX12_asking_71 (by decide) (fun _ => ?_) (fun q => absurd q (by decide))
            refine xt_iconst (0) dX12_asking_78 (by decide) ?_
            rw [hfr2 152 (by decide), e4, nI_add]
            try rw [Nat.add_comm (F 4) (s_all F)]
            refine xt_cS _ dX12_asking_79 klX12_373 (tX12_part sc _ μ2 _ (s_hs (s_ct (fun g => s_wt F g + 1) (F 4)) (F 4 - 1)) (s_all F + F 4) (by omega) (by omega) (by omega) 0) rfl rfl (Nat.le_of_ble_eq_true rfl) ?_
            exact xt_iret .int dX12_asking_82 rfl (by first | rfl | assumption) ⟨rfl, (x_keep.tr (x_keep.hand hfr) (fun a ha => hfr2 a (by unfold x_ok at ha; omega)))⟩
        · skip
          refine ⟨nI (if (1 : Int32) = 0 then (s_hs (s_ct (fun g => s_wt F g + 1) (F 4)) (F 4 - 1)) / Nat.gcd (s_hs (s_ct (fun g => s_wt F g + 1) (F 4)) (F 4 - 1)) (s_all F + F 4) else (s_all F + F 4) / Nat.gcd (s_hs (s_ct (fun g => s_wt F g + 1) (F 4)) (F 4 - 1)) (s_all F + F 4)), ?_, ?_⟩
          · intro μ w c hf hc e hC
            have hS := f_Sf hf2
            refine x_K.of (by decide) (Nat.le_of_ble_eq_true rfl) ?_
            show x_T sc 29 mX11_asking 0 [.ref 0, .int (nI f), .int (nI 1), .retAddr 0] [] μ w _
            refine xt_aload_n _ dX11_asking_0 rfl ?_
            refine xt_iload_n _ dX11_asking_1 rfl ?_
            refine xt_cV _ dX11_asking_2 klX11_90 (tX11_fairOf sc _ μ w f c hf hc e) sh0 rfl rfl (Nat.le_of_ble_eq_true rfl) ?_
            refine xt_astore_n dX11_asking_5 (by decide) rfl ?_
            change x_T _ _ _ _ [_, _, _, _] _ _ _ _
            refine xt_aload_n _ dX11_asking_6 rfl ?_
            refine xt_ifnull_r dX11_asking_7 ?_
            refine xt_aload_n _ dX11_asking_10 rfl ?_
            refine xt_geti dX11_asking_11 kfX11_131 (by first | exact sh0 | exact sh1 | exact hS.1 | rfl | assumption) rfl ?_
            refine xt_if_ne 19 dX11_asking_14 (by decide) (fun _ => ?_) (fun q => absurd q (by rw [hC.1 4 (by decide)]; exact nI_ne0 (by omega) (by omega)))
            refine xt_iload_n _ dX11_asking_19 rfl ?_
            refine xt_iconst (2) dX11_asking_20 (by decide) ?_
            refine xt_icmp_ne 32 dX11_asking_21 (by decide) (fun _ => ?_) (fun q => absurd q (by decide))
            refine xt_iload_n _ dX11_asking_32 rfl ?_
            refine xt_if_eq 41 dX11_asking_33 (by decide) (fun q => absurd q (by decide)) (fun _ => ?_)
            refine xt_iload_n _ dX11_asking_36 rfl ?_
            refine xt_iconst (1) dX11_asking_37 (by decide) ?_
            refine xt_icmp_ne 62 dX11_asking_38 (by decide) (fun q => absurd (by decide) q) (fun _ => ?_)
            refine xt_aload_n _ dX11_asking_41 rfl ?_
            refine xt_getr _ dX11_asking_42 kfX11_48 (by first | exact sh0 | exact sh1 | exact hS.1 | rfl | assumption) rfl ?_
            refine xt_aload_n _ dX11_asking_45 rfl ?_
            refine xt_iload_n _ dX11_asking_46 rfl ?_
            refine xt_iconst (1) dX11_asking_47 (by decide) ?_
            refine xt_icmp_ne 55 dX11_asking_48 (by decide) (fun q => absurd (by decide) q) (fun _ => ?_)
            refine xt_iconst (1) dX11_asking_51 (by decide) ?_
            refine xt_goto 56 dX11_asking_52 (by decide) ?_
            refine xt_callV _ dX11_asking_56 klX11_137 (tX3_meanQuestions sc _ μ w (7 + 11 * f) F hS (by omega) hW hC h1 1) sh144 rfl rfl (Nat.le_of_ble_eq_true rfl) (fun r2 μ2 w2 q2 => ?_)
            obtain ⟨rfl, hfr2⟩ := q2
            change x_T _ _ _ _ _ (.int _ :: _) _ _ _
            refine xt_goto 63 dX11_asking_59 (by decide) ?_
            exact xt_iret .int dX11_asking_63 rfl (by first | rfl | assumption) ⟨rfl, (fun a ha => hfr2 a (by unfold x_ok at ha; omega))⟩
          · intro μ w c hf hc e hF
            refine x_K.of (by decide) (Nat.le_of_ble_eq_true rfl) ?_
            show x_T sc 29 mX12_asking 0 [.ref 152, .int (nI f), .int (nI 1), .retAddr 0] [] μ w _
            refine xt_aload_n _ dX12_asking_0 rfl ?_
            refine xt_iconst (0) dX12_asking_1 (by decide) ?_
            refine xt_puti dX12_asking_2 kpX12_72 (by first | exact sh152 | rfl | assumption) rfl (by first | rfl | assumption) (by first | rfl | assumption) ?_
            refine xt_aload_n _ dX12_asking_5 rfl ?_
            refine xt_iload_n _ dX12_asking_6 rfl ?_
            refine xt_callV _ dX12_asking_7 klX12_300 (tX12_hand sc _ (x_u μ 152 (upd (μ 152) 0 0)) w f c F hf hc e hF) sh152 rfl rfl (Nat.le_of_ble_eq_true rfl) (fun r1 μ1 w1 q1 => ?_)
            obtain ⟨rfl, rfl, hS, h0, hfr⟩ := q1
            change x_T _ _ _ _ _ (.int 1 :: _) _ _ _
            have e4 : μ1 152 24 = nI (F 4) := hS.1.2.2.2.1
            refine xt_if_eq 29 dX12_asking_10 (by decide) (fun q => absurd q (by decide)) (fun _ => ?_)
            refine xt_aload_n _ dX12_asking_13 rfl ?_
            refine xt_geti dX12_asking_14 kfX12_251 (by first | exact sh152 | rfl | assumption) rfl ?_
            refine xt_if_eq 29 dX12_asking_17 (by decide) (fun q => absurd q (by rw [e4]; exact nI_ne0 (by omega) (by omega))) (fun _ => ?_)
            refine xt_iload_n _ dX12_asking_20 rfl ?_
            refine xt_iconst (0) dX12_asking_21 (by decide) ?_
            refine xt_iconst (2) dX12_asking_22 (by decide) ?_
            refine xt_cS _ dX12_asking_23 klX12_84 (tX12_in sc _ _ _ _ _ _) rfl rfl (Nat.le_of_ble_eq_true rfl) ?_
            refine xt_if_ne 31 dX12_asking_26 (by decide) (fun _ => ?_) (fun q => absurd q (by decide))
            refine xt_iload_n _ dX12_asking_31 rfl ?_
            refine xt_iconst (2) dX12_asking_32 (by decide) ?_
            refine xt_icmp_ne 56 dX12_asking_33 (by decide) (fun _ => ?_) (fun q => absurd q (by decide))
            refine xt_aload_n _ dX12_asking_56 rfl ?_
            refine xt_callV _ dX12_asking_57 klX12_367 (tX12_questions sc _ μ1 _ f F hS hW h1) sh152 rfl rfl (Nat.le_of_ble_eq_true rfl) (fun r2 μ2 w2 q2 => ?_)
            obtain ⟨rfl, hX, hfr2⟩ := q2
            change x_T _ _ _ _ _ (.int _ :: _) _ _ _
            refine xt_aload_n _ dX12_asking_60 rfl ?_
            refine xt_geti dX12_asking_61 kfX12_251 (by first | exact sh152 | rfl | assumption) rfl ?_
            refine xt_aload_n _ dX12_asking_64 rfl ?_
            refine xt_cV _ dX12_asking_65 klX12_370 (tX12_allWrongs sc _ μ2 _ F h8 (by rw [hfr2 152 (by decide)]; exact e4) (fun i hi => by rw [hfr2 165 (by decide)]; exact hS.2.2.1 i hi)) sh152 rfl rfl (Nat.le_of_ble_eq_true rfl) ?_
            refine xt_iadd dX12_asking_68 ?_
            refine xt_iload_n _ dX12_asking_69 rfl ?_
            refine xt_iconst (1) dX12_asking_70 (by decide) ?_
            refine xt_icmp_ne 78 dX12_asking_71 (by decide) (fun q => absurd (by decide) q) (fun _ => ?_)
            refine xt_iconst (1) dX12_asking_74 (by decide) ?_
            refine xt_goto 79 dX12_asking_75 (by decide) ?_
            rw [hfr2 152 (by decide), e4, nI_add]
            try rw [Nat.add_comm (F 4) (s_all F)]
            refine xt_cS _ dX12_asking_79 klX12_373 (tX12_part sc _ μ2 _ (s_hs (s_ct (fun g => s_wt F g + 1) (F 4)) (F 4 - 1)) (s_all F + F 4) (by omega) (by omega) (by omega) 1) rfl rfl (Nat.le_of_ble_eq_true rfl) ?_
            exact xt_iret .int dX12_asking_82 rfl (by first | rfl | assumption) ⟨rfl, (x_keep.tr (x_keep.hand hfr) (fun a ha => hfr2 a (by unfold x_ok at ha; omega)))⟩
        · skip
          refine ⟨nI (s_qq (F 4) 8 0), ?_, ?_⟩
          · intro μ w c hf hc e hC
            have hS := f_Sf hf2
            refine x_K.of (by decide) (Nat.le_of_ble_eq_true rfl) ?_
            show x_T sc 29 mX11_asking 0 [.ref 0, .int (nI f), .int (nI 2), .retAddr 0] [] μ w _
            refine xt_aload_n _ dX11_asking_0 rfl ?_
            refine xt_iload_n _ dX11_asking_1 rfl ?_
            refine xt_cV _ dX11_asking_2 klX11_90 (tX11_fairOf sc _ μ w f c hf hc e) sh0 rfl rfl (Nat.le_of_ble_eq_true rfl) ?_
            refine xt_astore_n dX11_asking_5 (by decide) rfl ?_
            change x_T _ _ _ _ [_, _, _, _] _ _ _ _
            refine xt_aload_n _ dX11_asking_6 rfl ?_
            refine xt_ifnull_r dX11_asking_7 ?_
            refine xt_aload_n _ dX11_asking_10 rfl ?_
            refine xt_geti dX11_asking_11 kfX11_131 (by first | exact sh0 | exact sh1 | exact hS.1 | rfl | assumption) rfl ?_
            refine xt_if_ne 19 dX11_asking_14 (by decide) (fun _ => ?_) (fun q => absurd q (by rw [hC.1 4 (by decide)]; exact nI_ne0 (by omega) (by omega)))
            refine xt_iload_n _ dX11_asking_19 rfl ?_
            refine xt_iconst (2) dX11_asking_20 (by decide) ?_
            refine xt_icmp_ne 32 dX11_asking_21 (by decide) (fun q => absurd (by decide) q) (fun _ => ?_)
            refine xt_aload_n _ dX11_asking_24 rfl ?_
            refine xt_geti dX11_asking_25 kfX11_131 (by first | exact sh0 | exact sh1 | exact hS.1 | rfl | assumption) rfl ?_
            rw [hC.1 4 (by decide)]
            refine xt_cS _ dX11_asking_28 klX11_134 (tX3_questionsForSure sc _ μ w (F 4) h8) rfl rfl (Nat.le_of_ble_eq_true rfl) ?_
            exact xt_iret .int dX11_asking_31 rfl (by first | rfl | assumption) ⟨rfl, x_keep.rf μ⟩
          · intro μ w c hf hc e hF
            refine x_K.of (by decide) (Nat.le_of_ble_eq_true rfl) ?_
            show x_T sc 29 mX12_asking 0 [.ref 152, .int (nI f), .int (nI 2), .retAddr 0] [] μ w _
            refine xt_aload_n _ dX12_asking_0 rfl ?_
            refine xt_iconst (0) dX12_asking_1 (by decide) ?_
            refine xt_puti dX12_asking_2 kpX12_72 (by first | exact sh152 | rfl | assumption) rfl (by first | rfl | assumption) (by first | rfl | assumption) ?_
            refine xt_aload_n _ dX12_asking_5 rfl ?_
            refine xt_iload_n _ dX12_asking_6 rfl ?_
            refine xt_callV _ dX12_asking_7 klX12_300 (tX12_hand sc _ (x_u μ 152 (upd (μ 152) 0 0)) w f c F hf hc e hF) sh152 rfl rfl (Nat.le_of_ble_eq_true rfl) (fun r1 μ1 w1 q1 => ?_)
            obtain ⟨rfl, rfl, hS, h0, hfr⟩ := q1
            change x_T _ _ _ _ _ (.int 1 :: _) _ _ _
            have e4 : μ1 152 24 = nI (F 4) := hS.1.2.2.2.1
            refine xt_if_eq 29 dX12_asking_10 (by decide) (fun q => absurd q (by decide)) (fun _ => ?_)
            refine xt_aload_n _ dX12_asking_13 rfl ?_
            refine xt_geti dX12_asking_14 kfX12_251 (by first | exact sh152 | rfl | assumption) rfl ?_
            refine xt_if_eq 29 dX12_asking_17 (by decide) (fun q => absurd q (by rw [e4]; exact nI_ne0 (by omega) (by omega))) (fun _ => ?_)
            refine xt_iload_n _ dX12_asking_20 rfl ?_
            refine xt_iconst (0) dX12_asking_21 (by decide) ?_
            refine xt_iconst (2) dX12_asking_22 (by decide) ?_
            refine xt_cS _ dX12_asking_23 klX12_84 (tX12_in sc _ _ _ _ _ _) rfl rfl (Nat.le_of_ble_eq_true rfl) ?_
            refine xt_if_ne 31 dX12_asking_26 (by decide) (fun _ => ?_) (fun q => absurd q (by decide))
            refine xt_iload_n _ dX12_asking_31 rfl ?_
            refine xt_iconst (2) dX12_asking_32 (by decide) ?_
            refine xt_icmp_ne 56 dX12_asking_33 (by decide) (fun q => absurd (by decide) q) (fun _ => ?_)
            refine xt_iconst (0) dX12_asking_36 (by decide) ?_
            refine xt_istore_n dX12_asking_37 (by decide) rfl ?_
            change x_T _ _ _ _ [_, _, _, _] _ _ _ _
            have L38 : ∀ (n38 m : Nat) (hR : s_qq (F 4) n38 m = s_qq (F 4) 8 0), m + n38 = 8 → x_T sc 29 mX12_asking 38 [.ref 152, .int (nI f), .int (nI 2), .int (nI m)] [] μ1 w1 (fun r μ' _ => r = some (.int (nI (s_qq (F 4) 8 0))) ∧ x_keep μ μ') := by
              intro n38
              induction n38 with
              | zero =>
                intro m hR hmn
                obtain rfl : 8 = m := by omega
                refine xt_iconst (1) dX12_asking_38 (by decide) ?_
                refine xt_iload_n _ dX12_asking_39 rfl ?_
                refine xt_ishl dX12_asking_40 ?_
                refine xt_aload_n _ dX12_asking_41 rfl ?_
                refine xt_geti dX12_asking_42 kfX12_251 (by first | exact sh152 | rfl | assumption) rfl ?_
                refine xt_icmp_ge 54 dX12_asking_45 (by decide) (fun _ => ?_) (fun q => absurd (by rw [e4, x_1sh (by omega)]; exact nI_le (by omega) (by decide)) q)
                refine xt_iload_n _ dX12_asking_54 rfl ?_
                exact xt_iret .int dX12_asking_55 rfl (by first | rfl | assumption) ⟨by rw [← hR]; rfl, (x_keep.hand hfr)⟩
              | succ n38 ih38 =>
                intro m hR hmn
                have hlt : m < 8 := by omega
                have hp : 2 ^ m ≤ 2 ^ 8 := Nat.pow_le_pow_right (by decide) (by omega)
                refine xt_iconst (1) dX12_asking_38 (by decide) ?_
                refine xt_iload_n _ dX12_asking_39 rfl ?_
                refine xt_ishl dX12_asking_40 ?_
                refine xt_aload_n _ dX12_asking_41 rfl ?_
                refine xt_geti dX12_asking_42 kfX12_251 (by first | exact sh152 | rfl | assumption) rfl ?_
                refine xt_icmp_ge 54 dX12_asking_45 (by decide) (fun t45 => ?_) (fun f45 => ?_)
                · refine xt_iload_n _ dX12_asking_54 rfl ?_
                  exact xt_iret .int dX12_asking_55 rfl (by first | rfl | assumption) ⟨by rw [e4, x_1sh (by omega), nI_leI (by omega) (by omega)] at t45; rw [← hR, s_qq, if_neg (by omega)], (x_keep.hand hfr)⟩
                · refine xt_inc _ (1) dX12_asking_48 rfl (by decide) (by decide) rfl ?_
                  change x_T _ _ _ _ [_, _, _, _] _ _ _ _
                  refine xt_goto 38 dX12_asking_51 (by decide) ?_
                  have hlt2 : 2 ^ m < F 4 := Classical.byContradiction (fun z => f45 (by rw [e4, x_1sh (by omega)]; exact nI_le (by omega) (by omega)))
                  refine x_T.ls ?_ (ih38 (m + 1) (by rw [← hR, s_qq, if_pos hlt2]) (by omega))
                  rw [nI_succ m]
            exact L38 (8) 0 rfl (by omega)
      · have hout := x_out (N := 2) (by decide) hw
        refine ⟨-1, ?_, ?_⟩
        · intro μ w c hf hc e hC
          have hS := f_Sf hf2
          refine x_K.of (by decide) (Nat.le_of_ble_eq_true rfl) ?_
          show x_T sc 29 mX11_asking 0 [.ref 0, .int (nI f), .int a2, .retAddr 0] [] μ w _
          refine xt_aload_n _ dX11_asking_0 rfl ?_
          refine xt_iload_n _ dX11_asking_1 rfl ?_
          refine xt_cV _ dX11_asking_2 klX11_90 (tX11_fairOf sc _ μ w f c hf hc e) sh0 rfl rfl (Nat.le_of_ble_eq_true rfl) ?_
          refine xt_astore_n dX11_asking_5 (by decide) rfl ?_
          change x_T _ _ _ _ [_, _, _, _] _ _ _ _
          refine xt_aload_n _ dX11_asking_6 rfl ?_
          refine xt_ifnull_r dX11_asking_7 ?_
          refine xt_aload_n _ dX11_asking_10 rfl ?_
          refine xt_geti dX11_asking_11 kfX11_131 (by first | exact sh0 | exact sh1 | exact hS.1 | rfl | assumption) rfl ?_
          refine xt_if_ne 19 dX11_asking_14 (by decide) (fun _ => ?_) (fun q => absurd q (by rw [hC.1 4 (by decide)]; exact nI_ne0 (by omega) (by omega)))
          refine xt_iload_n _ dX11_asking_19 rfl ?_
          refine xt_iconst (2) dX11_asking_20 (by decide) ?_
          refine xt_icmp_ne 32 dX11_asking_21 (by decide) (fun _ => ?_) (fun q => absurd q (fun z => by rw [z] at hout; exact absurd hout (by decide)))
          refine xt_iload_n _ dX11_asking_32 rfl ?_
          refine xt_if_eq 41 dX11_asking_33 (by decide) (fun q => absurd q (fun z => by rw [z] at hout; exact absurd hout (by decide))) (fun _ => ?_)
          refine xt_iload_n _ dX11_asking_36 rfl ?_
          refine xt_iconst (1) dX11_asking_37 (by decide) ?_
          refine xt_icmp_ne 62 dX11_asking_38 (by decide) (fun _ => ?_) (fun q => absurd q (fun z => by rw [z] at hout; exact absurd hout (by decide)))
          refine xt_iconst (-1) dX11_asking_62 (by decide) ?_
          exact xt_iret .int dX11_asking_63 rfl (by first | rfl | assumption) ⟨rfl, x_keep.rf μ⟩
        · intro μ w c hf hc e hF
          refine x_K.of (by decide) (Nat.le_of_ble_eq_true rfl) ?_
          show x_T sc 29 mX12_asking 0 [.ref 152, .int (nI f), .int a2, .retAddr 0] [] μ w _
          refine xt_aload_n _ dX12_asking_0 rfl ?_
          refine xt_iconst (0) dX12_asking_1 (by decide) ?_
          refine xt_puti dX12_asking_2 kpX12_72 (by first | exact sh152 | rfl | assumption) rfl (by first | rfl | assumption) (by first | rfl | assumption) ?_
          refine xt_aload_n _ dX12_asking_5 rfl ?_
          refine xt_iload_n _ dX12_asking_6 rfl ?_
          refine xt_callV _ dX12_asking_7 klX12_300 (tX12_hand sc _ (x_u μ 152 (upd (μ 152) 0 0)) w f c F hf hc e hF) sh152 rfl rfl (Nat.le_of_ble_eq_true rfl) (fun r1 μ1 w1 q1 => ?_)
          obtain ⟨rfl, rfl, hS, h0, hfr⟩ := q1
          change x_T _ _ _ _ _ (.int 1 :: _) _ _ _
          have e4 : μ1 152 24 = nI (F 4) := hS.1.2.2.2.1
          refine xt_if_eq 29 dX12_asking_10 (by decide) (fun q => absurd q (by decide)) (fun _ => ?_)
          refine xt_aload_n _ dX12_asking_13 rfl ?_
          refine xt_geti dX12_asking_14 kfX12_251 (by first | exact sh152 | rfl | assumption) rfl ?_
          refine xt_if_eq 29 dX12_asking_17 (by decide) (fun q => absurd q (by rw [e4]; exact nI_ne0 (by omega) (by omega))) (fun _ => ?_)
          refine xt_iload_n _ dX12_asking_20 rfl ?_
          refine xt_iconst (0) dX12_asking_21 (by decide) ?_
          refine xt_iconst (2) dX12_asking_22 (by decide) ?_
          refine xt_cS _ dX12_asking_23 klX12_84 (tX12_in sc _ _ _ _ _ _) rfl rfl (Nat.le_of_ble_eq_true rfl) ?_
          refine xt_if_ne 31 dX12_asking_26 (by decide) (fun q => absurd (s_in_out hw) q) (fun _ => ?_)
          refine xt_iconst (-1) dX12_asking_29 (by decide) ?_
          exact xt_iret .int dX12_asking_30 rfl (by first | rfl | assumption) ⟨rfl, (x_keep.hand hfr)⟩
