/-! the step of ladder: chains of GOERS, each with more WRONGS than the one before -/
abbrev s_rn (F : Nat → Nat) (a b : Nat) : Bool := s_mt F b a && !s_mt F a b
theorem s_if0 {b : Bool} (h : (if b then (1 : Int32) else 0) = 0) : b = false := by
  cases b
  · rfl
  · exact absurd h (by decide)
theorem s_if1 {b : Bool} (h : ¬ (if b then (1 : Int32) else 0) = 0) : b = true := by
  cases b
  · exact absurd rfl h
  · rfl
def s_ch (F : Nat → Nat) : Nat → Nat → Prop
  | 0, _ => True
  | h + 1, g => ∃ b, b < F 4 ∧ s_rn F g b = true ∧ s_ch F h b
theorem s_ch_m {F : Nat → Nat} : ∀ {h g : Nat}, s_ch F (h + 1) g → s_ch F h g
  | 0, _, _ => trivial
  | h + 1, g, ⟨b, h1, h2, h3⟩ => ⟨b, h1, h2, s_ch_m h3⟩
theorem s_ch_le {F : Nat → Nat} {h g : Nat} : ∀ {n : Nat}, s_ch F (h + n) g → s_ch F h g
  | 0, q => q
  | n + 1, q => s_ch_le (n := n) (s_ch_m q)
theorem s_ch_l {F : Nat → Nat} {h h' g : Nat} (hl : h ≤ h') (q : s_ch F h' g) : s_ch F h g := s_ch_le (n := h' - h) (by rw [show h + (h' - h) = h' by omega]; exact q)
noncomputable def s_ht (F : Nat → Nat) : Nat → Nat → Nat
  | 0, _ => 0
  | n + 1, g => @ite Nat (s_ch F n g) (Classical.propDecidable _) (n + 1) (s_ht F n g)
theorem s_ht_y {F : Nat → Nat} {n g : Nat} (h : s_ch F n g) : s_ht F (n + 1) g = n + 1 := by rw [s_ht, if_pos h]
theorem s_ht_n {F : Nat → Nat} {n g : Nat} (h : ¬ s_ch F n g) : s_ht F (n + 1) g = s_ht F n g := by rw [s_ht, if_neg h]
theorem s_ht_iff {F : Nat → Nat} {j g : Nat} : ∀ n, j < s_ht F n g ↔ j < n ∧ s_ch F j g
  | 0 => by simp [s_ht]
  | n + 1 => by
    by_cases h : s_ch F n g
    · rw [s_ht_y h]; exact ⟨fun q => ⟨q, s_ch_l (by omega) h⟩, fun q => q.1⟩
    · rw [s_ht_n h, s_ht_iff n]
      refine ⟨fun q => ⟨by omega, q.2⟩, fun q => ⟨?_, q.2⟩⟩
      rcases Nat.lt_or_ge j n with z | z
      · exact z
      · obtain rfl : j = n := by omega
        exact absurd q.2 h
theorem s_ht_le {F : Nat → Nat} {n g : Nat} : s_ht F n g ≤ n := Classical.byContradiction (fun z => by have := ((s_ht_iff (F := F) (g := g) (j := n) n).mp (by omega)).1; omega)
theorem s_ht_mono {F : Nat → Nat} {n g : Nat} : s_ht F n g ≤ s_ht F (n + 1) g := by
  by_cases h : s_ch F n g
  · rw [s_ht_y h]; exact Nat.le_trans s_ht_le (by omega)
  · rw [s_ht_n h]; exact Nat.le_refl _
theorem s_sum_mo {f g : Nat → Nat} : ∀ {n : Nat}, (∀ i, i < n → f i ≤ g i) → s_sum f n ≤ s_sum g n
  | 0, _ => Nat.le_refl _
  | n + 1, h => by
    rw [s_sum, s_sum]
    have h1 := s_sum_mo (f := f) (g := g) (n := n) (fun i hi => h i (by omega))
    have h2 := h n (by omega)
    omega
theorem s_sum_ge {f g : Nat → Nat} : ∀ {n : Nat}, (∀ i, i < n → f i ≤ g i) → s_sum g n ≤ s_sum f n → ∀ i, i < n → g i ≤ f i
  | 0, _, _, i, hi => absurd hi (by omega)
  | n + 1, h, q, i, hi => by
    rw [s_sum, s_sum] at q
    have h1 := s_sum_mo (f := f) (g := g) (n := n) (fun i hi => h i (by omega))
    have h2 := h n (by omega)
    by_cases e : i = n
    · subst e; omega
    · exact s_sum_ge (n := n) (fun i hi => h i (by omega)) (by omega) i (by omega)
theorem s_rn_wt {F : Nat → Nat} {a b : Nat} (h : s_rn F a b = true) : s_wt F a < s_wt F b := by
  have h' : (s_mt F b a && !s_mt F a b) = true := h
  rw [Bool.and_eq_true, Bool.not_eq_true'] at h'
  have h1 := (s_al_iff _ _).mp h'.1
  apply Classical.byContradiction
  intro z
  have h2 := s_sum_ge (f := fun j => F (41 + (6 * a + j))) (g := fun j => F (41 + (6 * b + j))) (n := 6) (fun i hi => of_decide_eq_true (h1 i hi)) (Nat.not_lt.mp z)
  have h3 : s_mt F a b = true := (s_al_iff _ _).mpr (fun i hi => decide_eq_true (h2 i hi))
  rw [h3] at h'; exact absurd h'.2 (by decide)
theorem s_cnt_st {p q : Nat → Bool} {a : Nat} : ∀ {n : Nat}, a < n → (∀ i, i < n → p i = true → q i = true) → p a = false → q a = true → s_cnt p n + 1 ≤ s_cnt q n
  | 0, h, _, _, _ => absurd h (by omega)
  | n + 1, h, hm, h1, h2 => by
    rw [s_cnt, s_cnt]
    by_cases e : a = n
    · subst e
      have h3 := s_cnt_mono (p := p) (q := q) (n := a) (fun i hi => hm i (by omega))
      rw [h1, h2]
      show s_cnt p a + 0 + 1 ≤ s_cnt q a + 1
      omega
    · have h3 := s_cnt_st (p := p) (q := q) (n := n) (show a < n by omega) (fun i hi => hm i (by omega)) h1 h2
      have h5 := hm n (by omega)
      have h4 : (if p n then 1 else 0) ≤ (if q n then 1 else 0 : Nat) := by
        cases hp : p n
        · exact Nat.zero_le _
        · rw [h5 hp]; exact Nat.le_refl _
      omega
theorem s_ch_bd {F : Nat → Nat} : ∀ {h a : Nat}, a < F 4 → s_ch F h a → h + 1 ≤ s_cnt (fun i => decide (s_wt F a ≤ s_wt F i)) (F 4)
  | 0, a, ha, _ => by
    apply Nat.succ_le_of_lt
    apply Nat.pos_of_ne_zero
    intro z
    have h1 := (s_cnt_z _ _).mp z a ha
    exact absurd (decide_eq_true (Nat.le_refl (s_wt F a))) (by rw [h1]; decide)
  | h + 1, a, ha, ⟨b, hb, hr, hc⟩ => by
    have ih := s_ch_bd hb hc
    have hw := s_rn_wt hr
    have h1 := s_cnt_st (p := fun i => decide (s_wt F b ≤ s_wt F i)) (q := fun i => decide (s_wt F a ≤ s_wt F i)) ha (fun i _ q => decide_eq_true (Nat.le_trans (Nat.le_of_lt hw) (of_decide_eq_true q))) (decide_eq_false (Nat.not_le.mpr hw)) (decide_eq_true (Nat.le_refl _))
    omega
theorem s_ch_G {F : Nat → Nat} {h a : Nat} (ha : a < F 4) (hc : s_ch F h a) : h < F 4 := Nat.lt_of_lt_of_le (s_ch_bd ha hc) (s_cnt_le _ _)
noncomputable def s_H (F : Nat → Nat) : Nat → Nat := s_ht F (F 4)
theorem s_H_le {F : Nat → Nat} {g : Nat} : s_H F g ≤ F 4 := s_ht_le
theorem s_H_iff {F : Nat → Nat} {j g : Nat} (hg : g < F 4) : j < s_H F g ↔ s_ch F j g := ⟨fun q => ((s_ht_iff (F 4)).mp q).2, fun q => (s_ht_iff (F 4)).mpr ⟨s_ch_G hg q, q⟩⟩
theorem s_H_pos {F : Nat → Nat} {g : Nat} (hg : g < F 4) : 0 < s_H F g := (s_H_iff hg).mpr trivial
theorem s_H_rn {F : Nat → Nat} {a b : Nat} (ha : a < F 4) (hb : b < F 4) (h : s_rn F a b = true) : s_H F b < s_H F a := by
  have hp := s_H_pos hb
  have h1 : s_ch F (s_H F b - 1) b := (s_H_iff hb).mp (by omega)
  have h2 : s_ch F (s_H F b - 1 + 1) a := ⟨b, hb, h, h1⟩
  have h3 := (s_H_iff ha).mpr h2
  omega
theorem s_H_up {F : Nat → Nat} {a : Nat} (ha : a < F 4) (h : 1 < s_H F a) : ∃ b, b < F 4 ∧ s_rn F a b = true ∧ s_H F b = s_H F a - 1 := by
  have h1 : s_ch F (s_H F a - 2 + 1) a := (s_H_iff ha).mp (by omega)
  obtain ⟨b, hb, hr, hc⟩ := h1
  have h2 := (s_H_iff hb).mpr hc
  have h3 := s_H_rn ha hb hr
  exact ⟨b, hb, hr, by omega⟩
def s_mxr (v : Nat → Nat) : Nat → Nat
  | 0 => 0
  | n + 1 => max (s_mxr v n) (v n)
theorem s_mxr_ge {v : Nat → Nat} : ∀ {n i : Nat}, i < n → v i ≤ s_mxr v n
  | 0, i, h => absurd h (by omega)
  | n + 1, i, h => by
    rw [s_mxr]
    by_cases e : i = n
    · subst e; omega
    · have := s_mxr_ge (v := v) (n := n) (i := i) (by omega); omega
theorem s_mxr_bd {v : Nat → Nat} {c : Nat} : ∀ {n : Nat}, (∀ i, i < n → v i ≤ c) → s_mxr v n ≤ c
  | 0, _ => Nat.zero_le _
  | n + 1, h => by
    rw [s_mxr]
    have h1 := s_mxr_bd (v := v) (c := c) (n := n) (fun i hi => h i (by omega))
    have h2 := h n (by omega)
    omega
theorem s_mxr_mo {v u : Nat → Nat} {n : Nat} (h : ∀ i, i < n → v i ≤ u i) : s_mxr v n ≤ s_mxr u n := s_mxr_bd (fun i hi => Nat.le_trans (h i hi) (s_mxr_ge hi))
theorem s_mxr_ex {v : Nat → Nat} : ∀ {n : Nat}, 0 < s_mxr v n → ∃ i, i < n ∧ v i = s_mxr v n
  | 0, h => absurd h (Nat.lt_irrefl 0)
  | n + 1, h => by
    rw [s_mxr] at h ⊢
    rcases Nat.le_total (s_mxr v n) (v n) with q | q
    · exact ⟨n, by omega, by omega⟩
    · obtain ⟨i, hi, e⟩ := s_mxr_ex (v := v) (n := n) (by omega)
      exact ⟨i, by omega, by omega⟩
theorem s_mxr_00 {F : Nat → Nat} {n : Nat} : s_mxr (s_ht F 0) n = 0 := Nat.le_zero.mp (s_mxr_bd (fun _ _ => Nat.le_refl 0))
noncomputable def s_M (F : Nat → Nat) : Nat := s_mxr (s_H F) (F 4)
theorem s_M_le {F : Nat → Nat} : s_M F ≤ F 4 := s_mxr_bd (fun _ _ => s_H_le)
theorem s_mxn {F : Nat → Nat} {n j : Nat} (h : ¬ s_ch F n j) (hj : j < F 4) : max (s_mxr (s_ht F n) (F 4)) (s_mxr (s_ht F (n + 1)) (j + 1)) = max (s_mxr (s_ht F n) (F 4)) (s_mxr (s_ht F (n + 1)) j) := by
  have e : s_mxr (s_ht F (n + 1)) (j + 1) = max (s_mxr (s_ht F (n + 1)) j) (s_ht F (n + 1) j) := rfl
  rw [e, s_ht_n h]
  have := s_mxr_ge (v := s_ht F n) hj
  omega
theorem s_mxy {F : Nat → Nat} {n j : Nat} (h : s_ch F n j) : max (s_mxr (s_ht F n) (F 4)) (s_mxr (s_ht F (n + 1)) (j + 1)) = n + 1 := by
  have e : s_mxr (s_ht F (n + 1)) (j + 1) = max (s_mxr (s_ht F (n + 1)) j) (s_ht F (n + 1) j) := rfl
  rw [e, s_ht_y h]
  have h1 := s_mxr_bd (v := s_ht F n) (c := n) (n := F 4) (fun _ _ => s_ht_le)
  have h2 := s_mxr_bd (v := s_ht F (n + 1)) (c := n + 1) (n := j) (fun _ _ => s_ht_le)
  omega
noncomputable def s_lst (p : Nat → Prop) : Nat := Classical.epsilon (fun a => p a ∧ ∀ x, x < a → ¬ p x)
theorem s_lst_ok {p : Nat → Prop} (h : ∃ a, p a) : p (s_lst p) ∧ ∀ x, x < s_lst p → ¬ p x := by
  obtain ⟨k, hk, hl⟩ := pk_least p h
  exact Classical.epsilon_spec (p := fun a => p a ∧ ∀ x, x < a → ¬ p x) ⟨k, hk, hl⟩
def s_rp (F : Nat → Nat) (i a g : Nat) : Prop := g < F 4 ∧ (i ≠ 0 → s_rn F a g = true) ∧ s_H F g = s_M F - i
noncomputable def s_rg (F : Nat → Nat) : Nat → Nat
  | 0 => s_lst (s_rp F 0 0)
  | i + 1 => s_lst (s_rp F (i + 1) (s_rg F i))
noncomputable def s_pv (F : Nat → Nat) : Nat → Nat
  | 0 => 0
  | i + 1 => s_rg F i
noncomputable def s_pw (F : Nat → Nat) : Nat → Nat
  | 0 => 0
  | i + 1 => s_rg F i + 1
theorem s_rg_ok {F : Nat → Nat} : ∀ {i : Nat}, i < s_M F → s_rp F i (s_pv F i) (s_rg F i) ∧ ∀ x, x < s_rg F i → ¬ s_rp F i (s_pv F i) x
  | 0, h => by
    obtain ⟨g, hg, he⟩ := s_mxr_ex h
    exact s_lst_ok (p := s_rp F 0 0) ⟨g, hg, fun z => absurd rfl z, he⟩
  | i + 1, h => by
    obtain ⟨⟨h1, h2, h3⟩, _⟩ := s_rg_ok (F := F) (i := i) (by omega)
    obtain ⟨b, hb, hr, he⟩ := s_H_up h1 (by omega)
    exact s_lst_ok (p := s_rp F (i + 1) (s_rg F i)) ⟨b, hb, fun _ => hr, by rw [he, h3]; omega⟩
theorem s_pv_lt {F : Nat → Nat} {i : Nat} (h0 : i ≠ 0) (h : i < s_M F) : s_pv F i < F 4 := by
  cases i with
  | zero => exact absurd rfl h0
  | succ i => exact (s_rg_ok (F := F) (i := i) (by omega)).1.1
theorem s_pw_pv {F : Nat → Nat} {i : Nat} (h0 : i ≠ 0) : eI (s_pw F i) = nI (s_pv F i) := by
  cases i with
  | zero => exact absurd rfl h0
  | succ i => exact eI_s _
theorem s_pw_m1 {F : Nat → Nat} {i : Nat} (h8 : F 4 ≤ 8) (h : i < s_M F) (z : eI (s_pw F i) = -1) : i = 0 := by
  cases i with
  | zero => rfl
  | succ i =>
    have h1 := (s_rg_ok (F := F) (i := i) (by omega)).1.1
    have h2 : eI (s_rg F i + 1) = -1 := z
    exact absurd ((eI_m1 (by omega)).mp h2) (by omega)
theorem s_nofirst {F : Nat → Nat} {i e : Nat} (hi : i < s_M F) (he : e < s_rg F i) (hH : s_H F e = s_M F - i) : i ≠ 0 ∧ s_rn F (s_pv F i) e = false := by
  obtain ⟨⟨h1, _, _⟩, hl⟩ := s_rg_ok hi
  have h4 : e < F 4 := by omega
  refine ⟨fun z => hl e he ⟨h4, fun q => absurd z q, hH⟩, ?_⟩
  cases hq : s_rn F (s_pv F i) e
  · rfl
  · exact absurd ⟨h4, fun _ => hq, hH⟩ (hl e he)
noncomputable def s_op (F : Nat → Nat) : Nat → Nat
  | 0 => 2 ^ F 4 - 1
  | i + 1 => s_bits (s_rn F (s_rg F i)) (F 4)
theorem s_b256 {F : Nat → Nat} (h8 : F 4 ≤ 8) (p : Nat → Bool) : s_bits p (F 4) < 256 := by
  have h1 := s_bits_lt p (F 4)
  have h2 : 2 ^ F 4 ≤ 2 ^ 8 := Nat.pow_le_pow_right (by decide) h8
  omega
theorem s_op_lt {F : Nat → Nat} (h8 : F 4 ≤ 8) (i : Nat) : s_op F i < 256 := by
  cases i with
  | zero =>
    have h2 : 2 ^ F 4 ≤ 2 ^ 8 := Nat.pow_le_pow_right (by decide) h8
    show 2 ^ F 4 - 1 < 256
    omega
  | succ i => exact s_b256 h8 _
theorem s_op_bit {F : Nat → Nat} {i g : Nat} (h : g < F 4) : (s_op F i).testBit g = true ↔ (i ≠ 0 → s_rn F (s_pv F i) g = true) := by
  cases i with
  | zero =>
    have e : (s_op F 0).testBit g = true := by
      show (2 ^ F 4 - 1).testBit g = true
      rw [Nat.testBit_two_pow_sub_one]; exact decide_eq_true h
    exact ⟨fun _ z => absurd rfl z, fun _ => e⟩
  | succ i =>
    have e : (s_op F (i + 1)).testBit g = s_rn F (s_rg F i) g := by
      show (s_bits (s_rn F (s_rg F i)) (F 4)).testBit g = _
      rw [s_bits_bit, decide_eq_true h, Bool.true_and]
    rw [e]
    exact ⟨fun q _ => q, fun q => q (by omega)⟩
def s_fp (p : Nat → Bool) : Nat → Nat
  | 0 => 0
  | n + 1 => if s_fp p n = 0 then (if p n then n + 1 else 0) else s_fp p n
theorem s_fp_z {p : Nat → Bool} : ∀ {n : Nat}, (∀ i, i < n → p i = false) → s_fp p n = 0
  | 0, _ => rfl
  | n + 1, h => by rw [s_fp, if_pos (s_fp_z (n := n) (fun i hi => h i (by omega))), h n (by omega)]; rfl
theorem s_fp_at {p : Nat → Bool} {m : Nat} (hm : ∀ i, i < m → p i = false) (hp : p m = true) : ∀ {n : Nat}, m < n → s_fp p n = m + 1
  | 0, h => absurd h (by omega)
  | n + 1, h => by
    rw [s_fp]
    by_cases e : m = n
    · subst e
      rw [if_pos (s_fp_z hm), hp]; rfl
    · have h1 := s_fp_at hm hp (n := n) (by omega)
      rw [if_neg (by omega), h1]
theorem s_fp_0 {p : Nat → Bool} {n : Nat} (h : s_fp p n = 0) : ∀ i, i < n → p i = false := by
  apply Classical.byContradiction
  intro z
  have h1 : ∃ i, i < n ∧ p i = true := by
    apply Classical.byContradiction
    intro q
    refine z (fun i hi => ?_)
    cases hp : p i
    · rfl
    · exact absurd ⟨i, hi, hp⟩ q
  obtain ⟨k, hk, hl⟩ := pk_least (fun i => i < n ∧ p i = true) h1
  have h2 := s_fp_at (p := p) (m := k) (fun i hi => by
    cases hp : p i
    · rfl
    · exact absurd ⟨by omega, hp⟩ (hl i hi)) hk.2 hk.1
  omega
theorem s_fp_le {p : Nat → Bool} : ∀ {n : Nat}, s_fp p n ≤ n
  | 0 => Nat.le_refl _
  | n + 1 => by
    have := s_fp_le (p := p) (n := n)
    rw [s_fp]
    split
    · split <;> omega
    · omega
abbrev s_hp (S h : Nat) (v : Nat → Nat) : Nat → Bool := fun g => S.testBit g && decide (h ≤ v g)
theorem s_rg_fp {F : Nat → Nat} {i : Nat} (hi : i < s_M F) : s_fp (s_hp (s_op F i) (s_M F - i) (s_H F)) (F 4) = s_rg F i + 1 := by
  obtain ⟨⟨h1, h2, h3⟩, hl⟩ := s_rg_ok hi
  refine s_fp_at (fun x hx => ?_) ?_ h1
  · cases hq : s_hp (s_op F i) (s_M F - i) (s_H F) x
    · rfl
    · exfalso
      have hq' : ((s_op F i).testBit x && decide (s_M F - i ≤ s_H F x)) = true := hq
      rw [Bool.and_eq_true] at hq'
      have hx4 : x < F 4 := by omega
      have hb := (s_op_bit hx4).mp hq'.1
      have hh : s_M F - i ≤ s_H F x := of_decide_eq_true hq'.2
      refine hl x hx ⟨hx4, hb, ?_⟩
      cases i with
      | zero =>
        have : s_H F x ≤ s_M F := s_mxr_ge hx4
        omega
      | succ i =>
        obtain ⟨⟨k1, _, k3⟩, _⟩ := s_rg_ok (F := F) (i := i) (by omega)
        have := s_H_rn k1 hx4 (hb (by omega))
        omega
  · show ((s_op F i).testBit (s_rg F i) && decide (s_M F - i ≤ s_H F (s_rg F i))) = true
    rw [(s_op_bit h1).mpr h2, Bool.true_and]; exact decide_eq_true (by omega)
theorem s_hb {F : Nat → Nat} {n g : Nat} (v : Nat → Nat) (hn : n ≠ 0) (hv : ∀ i, i < F 4 → (n ≤ v i ↔ s_ch F (n - 1) i)) : s_fp (s_hp (s_bits (s_rn F g) (F 4)) n v) (F 4) = 0 ↔ ¬ s_ch F n g := by
  obtain ⟨m, rfl⟩ : ∃ m, n = m + 1 := ⟨n - 1, by omega⟩
  constructor
  · intro h ⟨b, hb, hr, hc⟩
    have h1 : ((s_bits (s_rn F g) (F 4)).testBit b && decide (m + 1 ≤ v b)) = false := s_fp_0 h b hb
    rw [s_bits_bit, decide_eq_true hb, hr, decide_eq_true ((hv b hb).mpr hc)] at h1
    exact absurd h1 (by decide)
  · intro h
    refine s_fp_z (fun i hi => ?_)
    cases hq : s_hp (s_bits (s_rn F g) (F 4)) (m + 1) v i
    · rfl
    · exfalso
      have hq' : ((s_bits (s_rn F g) (F 4)).testBit i && decide (m + 1 ≤ v i)) = true := hq
      rw [Bool.and_eq_true, s_bits_bit, decide_eq_true hi, Bool.true_and] at hq'
      exact h ⟨i, hi, hq'.1, (hv i hi).mp (of_decide_eq_true hq'.2)⟩
theorem s_vv {F : Nat → Nat} {n j i : Nat} (hn : n ≠ 0) : n ≤ (if i < j then s_ht F (n + 1) i else s_ht F n i) ↔ s_ch F (n - 1) i := by
  by_cases h : i < j
  · rw [if_pos h]
    have := s_ht_iff (F := F) (j := n - 1) (g := i) (n + 1)
    exact ⟨fun q => (this.mp (by omega)).2, fun q => by have := this.mpr ⟨by omega, q⟩; omega⟩
  · rw [if_neg h]
    have := s_ht_iff (F := F) (j := n - 1) (g := i) n
    exact ⟨fun q => (this.mp (by omega)).2, fun q => by have := this.mpr ⟨by omega, q⟩; omega⟩
def s_rv (F : Nat → Nat) (v : Nat → Nat) (r m : Nat) : Prop := (∀ g, F 4 ≤ g → g < 8 → v g = 0) ∧ (∀ g, g < F 4 → 0 < v g ∧ s_ch F (v g - 1) g) ∧ ∀ g j, g < F 4 → s_ch F j g → (j ≤ r ∨ (j = r + 1 ∧ g < m)) → j < v g
theorem s_rv_up {F v : Nat → Nat} {r m b : Nat} (h : s_rv F v r m) (hm : m < F 4) (hb : b < F 4) (hr : s_rn F m b = true) : s_rv F (s_up v m (max (v m) (1 + v b))) r m := by
  obtain ⟨h1, h2, h3⟩ := h
  refine ⟨fun g hg h8 => ?_, fun g hg => ?_, fun g j hg hc hj => ?_⟩
  · rw [s_up_n (by omega)]; exact h1 g hg h8
  · by_cases e : g = m
    · subst e
      rw [s_up_s]
      refine ⟨by have := (h2 g hg).1; omega, ?_⟩
      rcases Nat.le_total (1 + v b) (v g) with q | q
      · rw [Nat.max_eq_left q]; exact (h2 g hg).2
      · rw [Nat.max_eq_right q, show 1 + v b - 1 = v b - 1 + 1 by have := (h2 b hb).1; omega]; exact ⟨b, hb, hr, (h2 b hb).2⟩
    · rw [s_up_n e]; exact h2 g hg
  · have h4 := h3 g j hg hc hj
    by_cases e : g = m
    · subst e; rw [s_up_s]; omega
    · rw [s_up_n e]; exact h4
theorem s_rv_next {F v : Nat → Nat} {r m : Nat} (h : s_rv F v r m) (hb : ∀ b, b < F 4 → s_rn F m b = true → v b < v m) : s_rv F v r (m + 1) := by
  obtain ⟨h1, h2, h3⟩ := h
  refine ⟨h1, h2, fun g j hg hc hj => ?_⟩
  rcases hj with q | ⟨q, q2⟩
  · exact h3 g j hg hc (.inl q)
  · by_cases e : g = m
    · subst e; subst q
      obtain ⟨b, hb1, hr, hcb⟩ := hc
      have h4 := h3 b r hb1 hcb (.inl (Nat.le_refl _))
      have h5 := hb b hb1 hr
      omega
    · exact h3 g j hg hc (.inr ⟨q, by omega⟩)
theorem s_rv_wrap {F v : Nat → Nat} {r : Nat} (h : s_rv F v r (F 4)) : s_rv F v (r + 1) 0 := ⟨h.1, h.2.1, fun g j hg hc hj => h.2.2 g j hg hc (by omega)⟩
theorem s_rv_H {F v : Nat → Nat} (h8 : F 4 ≤ 8) (h : s_rv F v 8 0) {g : Nat} (hg8 : g < 8) : v g = if g < F 4 then s_H F g else 0 := by
  obtain ⟨h1, h2, h3⟩ := h
  by_cases hg : g < F 4
  · rw [if_pos hg]
    have a1 := h2 g hg
    have a2 := (s_H_iff hg).mpr a1.2
    have a5 := s_H_pos hg
    have a3 : s_ch F (s_H F g - 1) g := (s_H_iff hg).mp (by omega)
    have a6 : s_H F g ≤ F 4 := s_H_le
    have a4 := h3 g _ hg a3 (.inl (by omega))
    omega
  · rw [if_neg hg]; exact h1 g (by omega) hg8
theorem s_rv_bd {F v : Nat → Nat} {r m : Nat} (h8 : F 4 ≤ 8) (h : s_rv F v r m) {g : Nat} (hg : g < 8) : v g ≤ 8 := by
  by_cases e : g < F 4
  · have := s_ch_G e (h.2.1 g e).2; omega
  · rw [h.1 g (by omega) hg]; omega
theorem s_rv_0 {F : Nat → Nat} : s_rv F (fun g => if g < F 4 then 1 else 0) 0 0 := by
  refine ⟨fun g hg _ => if_neg (by omega), fun g hg => ?_, fun g j hg _ hj => ?_⟩
  · show 0 < (if g < F 4 then 1 else 0) ∧ s_ch F ((if g < F 4 then 1 else 0) - 1) g
    rw [if_pos hg]; exact ⟨by decide, trivial⟩
  · show j < (if g < F 4 then 1 else 0)
    rw [if_pos hg]; omega
theorem s_rn_ne {F : Nat → Nat} {a b : Nat} (h : s_rn F a b = true) : b ≠ a := fun z => by
  have := s_rn_wt h
  rw [z] at this
  exact absurd this (Nat.lt_irrefl _)
theorem s_byI : ∀ A, A < 10 → ∀ B, B < 10 → ((0 ≤ nI B - nI A ↔ A ≤ B) ∧ (nI B - nI A ≤ 0 ↔ B ≤ A)) := by decide +kernel
theorem s_in_hno {n : Nat} (hn : n < 1000) {a : Int32} (h : ¬ (0 ≤ a ∧ a < nI n)) : s_in a 0 (nI n - 1) = 0 := by
  rw [s_in_has hn]
  by_cases h1 : a < 0
  · rw [if_pos h1]
  · rw [if_neg h1, if_neg (fun q => h ⟨Int32.not_lt.mp h1, q⟩)]
section LADDER
variable (sc : Nat × (Nat → Int32)) (d : Nat) (μ : x_Me) (w : Int64)
set_option maxHeartbeats 2000000 in
theorem tX3_compare (k : Nat) (F : Nat → Nat) (hS : f_S k) (hk : k + 5 < 144) (hW : f_W F) (hC : f_C μ k F) : x_K sc (d + 3) mX3_compare [.ref 144, .ref k] μ w (fun r μ' _ => r = none ∧ (∀ a, a < F 4 → μ' 147 a = nI (s_bits (s_rn F a) (F 4))) ∧ ∀ a, a ≠ 147 → μ' a = μ a) := by
  have h8 : F 4 ≤ 8 := hW.1.2.2.2.2.1
  have e4 : μ k 4 = nI (F 4) := hC.1 4 (by decide)
  refine x_K.of (by decide) (Nat.le_of_ble_eq_true rfl) ?_
  show x_T sc (d + 3) mX3_compare 0 [.ref 144, .ref k, .retAddr 0, .retAddr 0, .retAddr 0] [] μ w _
  refine xt_iconst (0) dX3_compare_0 (by decide) ?_
  refine xt_istore_n dX3_compare_1 (by decide) rfl ?_
  change x_T _ _ _ _ [_, _, _, _, _] _ _ _ _
  have L2 : ∀ (n2 m : Nat) (μ2 : x_Me) (w2 : Int64) (v3 v4 : Value) (hA : ∀ a, a < m → μ2 147 a = nI (s_bits (s_rn F a) (F 4))) (hf : ∀ a, a ≠ 147 → μ2 a = μ a), m + n2 = F 4 → x_T sc (d + 3) mX3_compare 2 [.ref 144, .ref k, .int (nI m), v3, v4] [] μ2 w2 (fun r μ' _ => r = none ∧ (∀ a, a < F 4 → μ' 147 a = nI (s_bits (s_rn F a) (F 4))) ∧ ∀ a, a ≠ 147 → μ' a = μ a) := by
    intro n2
    induction n2 with
    | zero =>
      intro m μ2 w2 v3 v4 hA hf hmn
      obtain rfl : F 4 = m := by omega
      refine xt_iload_n _ dX3_compare_2 rfl ?_
      refine xt_aload_n _ dX3_compare_3 rfl ?_
      refine xt_geti dX3_compare_4 kfX3_55 (by first | exact sh144 | exact hS.1 | rfl | assumption) rfl ?_
      refine xt_icmp_ge 72 dX3_compare_7 (by decide) (fun _ => ?_) (fun q => absurd (by rw [hf k (by omega), e4]; exact Int32.le_refl _) q)
      exact xt_ret dX3_compare_72 rfl ⟨rfl, hA, hf⟩
    | succ n2 ih2 =>
      intro m μ2 w2 v3 v4 hA hf hmn
      have hlt : m < F 4 := by omega
      have hC2 : f_C μ2 k F := hC.cg (fun j hj => hf _ (by omega))
      refine xt_iload_n _ dX3_compare_2 rfl ?_
      refine xt_aload_n _ dX3_compare_3 rfl ?_
      refine xt_geti dX3_compare_4 kfX3_55 (by first | exact sh144 | exact hS.1 | rfl | assumption) rfl ?_
      refine xt_icmp_ge 72 dX3_compare_7 (by decide) (fun q => absurd q (by rw [hf k (by omega), e4]; exact nI_ge hlt (by omega))) (fun _ => ?_)
      refine xt_iconst (0) dX3_compare_10 (by decide) ?_
      refine xt_istore_n dX3_compare_11 (by decide) rfl ?_
      change x_T _ _ _ _ [_, _, _, _, _] _ _ _ _
      refine xt_iconst (0) dX3_compare_12 (by decide) ?_
      refine xt_istore dX3_compare_13 (by decide) rfl ?_
      change x_T _ _ _ _ [_, _, _, _, _] _ _ _ _
      have L15 : ∀ (n15 j : Nat) , j + n15 = F 4 → x_T sc (d + 3) mX3_compare 15 [.ref 144, .ref k, .int (nI m), .int (nI (s_bits (s_rn F m) j)), .int (nI j)] [] μ2 w2 (fun r μ' _ => r = none ∧ (∀ a, a < F 4 → μ' 147 a = nI (s_bits (s_rn F a) (F 4))) ∧ ∀ a, a ≠ 147 → μ' a = μ a) := by
        intro n15
        induction n15 with
        | zero =>
          intro j  hmn
          obtain rfl : F 4 = j := by omega
          refine xt_iload _ dX3_compare_15 rfl ?_
          refine xt_aload_n _ dX3_compare_17 rfl ?_
          refine xt_geti dX3_compare_18 kfX3_55 (by first | exact sh144 | exact hS.1 | rfl | assumption) rfl ?_
          refine xt_icmp_ge 57 dX3_compare_21 (by decide) (fun _ => ?_) (fun q => absurd (by rw [hf k (by omega), e4]; exact Int32.le_refl _) q)
          refine xt_aload_n _ dX3_compare_57 rfl ?_
          refine xt_getr _ dX3_compare_58 kfX3_18 (by first | exact sh144 | exact hS.1 | rfl | assumption) rfl ?_
          refine xt_iload_n _ dX3_compare_61 rfl ?_
          refine xt_iload_n _ dX3_compare_62 rfl ?_
          refine xt_cS0 _ dX3_compare_63 klX3_61 (tX8_set sc _ _ _ (k := 147) (n := 8) rfl (by decide) _ _) rfl rfl (Nat.le_of_ble_eq_true rfl) ?_
          rw [s_set_ix (by omega) (by decide)]
          refine xt_inc _ (1) dX3_compare_66 rfl (by decide) (by decide) rfl ?_
          change x_T _ _ _ _ [_, _, _, _, _] _ _ _ _
          refine xt_goto 2 dX3_compare_69 (by decide) ?_
          refine x_T.ls (by rw [nI_succ m]) (ih2 (m + 1) _ w2 _ _ (fun i hi => ?_) (fun a ha => by rw [x_u_ne ha]; exact hf a ha) (by omega))
          rw [x_u_eq]
          by_cases he : i = m
          · rw [he, pk_us]
          · rw [pk_un he]; exact hA i (by omega)
        | succ n15 ih15 =>
          intro j  hmn
          have hlt_j : j < F 4 := by omega
          refine xt_iload _ dX3_compare_15 rfl ?_
          refine xt_aload_n _ dX3_compare_17 rfl ?_
          refine xt_geti dX3_compare_18 kfX3_55 (by first | exact sh144 | exact hS.1 | rfl | assumption) rfl ?_
          refine xt_icmp_ge 57 dX3_compare_21 (by decide) (fun q => absurd q (by rw [hf k (by omega), e4]; exact nI_ge hlt_j (by omega))) (fun _ => ?_)
          refine xt_aload_n _ dX3_compare_24 rfl ?_
          refine xt_iload _ dX3_compare_25 rfl ?_
          refine xt_iload_n _ dX3_compare_27 rfl ?_
          refine xt_cS _ dX3_compare_28 klX3_113 (tX3_matches sc _ w2 hS hC2 hW j m (by omega) (by omega)) rfl rfl (Nat.le_of_ble_eq_true rfl) ?_
          refine xt_if_eq 51 dX3_compare_31 (by decide) (fun t31 => ?_) (fun f31 => ?_)
          · refine xt_inc _ (1) dX3_compare_51 rfl (by decide) (by decide) rfl ?_
            change x_T _ _ _ _ [_, _, _, _, _] _ _ _ _
            refine xt_goto 15 dX3_compare_54 (by decide) ?_
            have h1 := s_if0 t31
            have hn : s_rn F m j = false := by
              show (s_mt F j m && !s_mt F m j) = false
              rw [h1, Bool.false_and]
            refine x_T.ls ?_ (ih15 (j + 1) (by omega))
            rw [s_bits_no hn, nI_succ j]
          · refine xt_aload_n _ dX3_compare_34 rfl ?_
            refine xt_iload_n _ dX3_compare_35 rfl ?_
            refine xt_iload _ dX3_compare_36 rfl ?_
            refine xt_cS _ dX3_compare_38 klX3_113 (tX3_matches sc _ w2 hS hC2 hW m j (by omega) (by omega)) rfl rfl (Nat.le_of_ble_eq_true rfl) ?_
            refine xt_if_ne 51 dX3_compare_41 (by decide) (fun t41 => ?_) (fun f41 => ?_)
            · refine xt_inc _ (1) dX3_compare_51 rfl (by decide) (by decide) rfl ?_
              change x_T _ _ _ _ [_, _, _, _, _] _ _ _ _
              refine xt_goto 15 dX3_compare_54 (by decide) ?_
              have h1 := s_if1 t41
              have hn : s_rn F m j = false := by
                show (s_mt F j m && !s_mt F m j) = false
                rw [h1, Bool.not_true, Bool.and_false]
              refine x_T.ls ?_ (ih15 (j + 1) (by omega))
              rw [s_bits_no hn, nI_succ j]
            · refine xt_iload_n _ dX3_compare_44 rfl ?_
              refine xt_iconst (1) dX3_compare_45 (by decide) ?_
              refine xt_iload _ dX3_compare_46 rfl ?_
              refine xt_ishl dX3_compare_48 ?_
              refine xt_ior dX3_compare_49 ?_
              refine xt_istore_n dX3_compare_50 (by decide) rfl ?_
              change x_T _ _ _ _ [_, _, _, _, _] _ _ _ _
              refine xt_inc _ (1) dX3_compare_51 rfl (by decide) (by decide) rfl ?_
              change x_T _ _ _ _ [_, _, _, _, _] _ _ _ _
              refine xt_goto 15 dX3_compare_54 (by decide) ?_
              have h1 := s_if1 f31
              have h2 := s_if0 f41
              have hy : s_rn F m j = true := by
                show (s_mt F j m && !s_mt F m j) = true
                rw [h1, h2]; rfl
              refine x_T.ls ?_ (ih15 (j + 1) (by omega))
              rw [← s_bits_or (by omega) hy, nI_succ j]
      exact L15 (F 4) 0  (by omega)
  exact L2 (F 4) 0 μ w _ _ (fun i hi => absurd hi (by omega)) (fun _ _ => rfl) (by omega)
set_option maxHeartbeats 1000000 in
theorem tX3_firstOfHeight (S h : Nat) (v : Nat → Nat) (G : Nat) (hG : G ≤ 8) (hS : S < 256) (hh : h ≤ 9) (hv : ∀ i, i < G → μ 148 i = nI (v i) ∧ v i ≤ 8) : x_K sc (d + 1) mX3_firstOfHeight [.ref 144, .int (nI G), .int (nI S), .int (nI h)] μ w (x_p (some (.int (eI (s_fp (s_hp S h v) G)))) μ w) := by
  refine x_K.of (by decide) (Nat.le_of_ble_eq_true rfl) ?_
  show x_T sc (d + 1) mX3_firstOfHeight 0 [.ref 144, .int (nI G), .int (nI S), .int (nI h), .retAddr 0] [] μ w _
  refine xt_iconst (0) dX3_firstOfHeight_0 (by decide) ?_
  refine xt_istore dX3_firstOfHeight_1 (by decide) rfl ?_
  change x_T _ _ _ _ [_, _, _, _, _] _ _ _ _
  have L3 : ∀ (n3 m : Nat) (hR : ∀ i, i < m → s_hp S h v i = false), m + n3 = G → x_T sc (d + 1) mX3_firstOfHeight 3 [.ref 144, .int (nI G), .int (nI S), .int (nI h), .int (nI m)] [] μ w (x_p (some (.int (eI (s_fp (s_hp S h v) G)))) μ w) := by
    intro n3
    induction n3 with
    | zero =>
      intro m hR hmn
      obtain rfl : G = m := by omega
      refine xt_iload _ dX3_firstOfHeight_3 rfl ?_
      refine xt_iload_n _ dX3_firstOfHeight_5 rfl ?_
      refine xt_icmp_ge 40 dX3_firstOfHeight_6 (by decide) (fun _ => ?_) (fun q => absurd (Int32.le_refl _) q)
      refine xt_iconst (-1) dX3_firstOfHeight_40 (by decide) ?_
      exact xt_iret .int dX3_firstOfHeight_41 rfl (by first | rfl | assumption) ⟨by rw [s_fp_z hR, eI_0], rfl, rfl⟩
    | succ n3 ih3 =>
      intro m hR hmn
      have hlt : m < G := by omega
      refine xt_iload _ dX3_firstOfHeight_3 rfl ?_
      refine xt_iload_n _ dX3_firstOfHeight_5 rfl ?_
      refine xt_icmp_ge 40 dX3_firstOfHeight_6 (by decide) (fun q => absurd q (nI_ge hlt (by omega))) (fun _ => ?_)
      refine xt_iload_n _ dX3_firstOfHeight_9 rfl ?_
      refine xt_iload _ dX3_firstOfHeight_10 rfl ?_
      refine xt_ishr dX3_firstOfHeight_12 ?_
      refine xt_iconst (1) dX3_firstOfHeight_13 (by decide) ?_
      refine xt_iand dX3_firstOfHeight_14 ?_
      refine xt_if_eq 34 dX3_firstOfHeight_15 (by decide) (fun t15 => ?_) (fun f15 => ?_)
      · refine xt_inc _ (1) dX3_firstOfHeight_34 rfl (by decide) (by decide) rfl ?_
        change x_T _ _ _ _ [_, _, _, _, _] _ _ _ _
        refine xt_goto 3 dX3_firstOfHeight_37 (by decide) ?_
        refine x_T.ls (by rw [nI_succ m]) (ih3 (m + 1) (fun i hi => ?_) (by omega))
        by_cases he : i = m
        · rw [he]
          show (S.testBit m && _) = false
          rw [(s_sh1 S hS m (by omega)).mp t15, Bool.false_and]
        · exact hR i (by omega)
      · refine xt_aload_n _ dX3_firstOfHeight_18 rfl ?_
        refine xt_getr _ dX3_firstOfHeight_19 kfX3_21 (by first | exact sh144 | rfl | assumption) rfl ?_
        refine xt_iload _ dX3_firstOfHeight_22 rfl ?_
        have hb1 : S.testBit m = true := by
          cases hq : S.testBit m
          · exact absurd ((s_sh1 S hS m (by omega)).mpr hq) f15
          · rfl
        refine xt_cS _ dX3_firstOfHeight_24 klX3_78 (tX8_at sc _ _ _ (k := 148) (n := 8) rfl (by decide) _) rfl rfl (Nat.le_of_ble_eq_true rfl) ?_
        rw [s_at_ix (j := m) (by omega) (by decide) rfl]
        rw [(hv m hlt).1]
        have hv8 := (hv m hlt).2
        refine xt_iload_n _ dX3_firstOfHeight_27 rfl ?_
        refine xt_icmp_lt 34 dX3_firstOfHeight_28 (by decide) (fun t28 => ?_) (fun f28 => ?_)
        · have n28 : v m < h := (nI_ltI (a := v m) (b := h) (by omega) (by omega)).mp t28
          refine xt_inc _ (1) dX3_firstOfHeight_34 rfl (by decide) (by decide) rfl ?_
          change x_T _ _ _ _ [_, _, _, _, _] _ _ _ _
          refine xt_goto 3 dX3_firstOfHeight_37 (by decide) ?_
          refine x_T.ls (by rw [nI_succ m]) (ih3 (m + 1) (fun i hi => ?_) (by omega))
          by_cases he : i = m
          · rw [he]
            show (S.testBit m && decide (h ≤ v m)) = false
            rw [decide_eq_false (by omega), Bool.and_false]
          · exact hR i (by omega)
        · have n28 : ¬ (v m < h) := fun z => f28 ((nI_ltI (a := v m) (b := h) (by omega) (by omega)).mpr z)
          refine xt_iload _ dX3_firstOfHeight_31 rfl ?_
          exact xt_iret .int dX3_firstOfHeight_33 rfl (by first | rfl | assumption) ⟨by rw [s_fp_at hR (show (S.testBit m && decide (h ≤ v m)) = true by rw [hb1, Bool.true_and]; exact decide_eq_true (by omega)) hlt, eI_s], rfl, rfl⟩
  exact L3 (G) 0 (fun i hi => absurd hi (by omega)) (by omega)
set_option maxHeartbeats 1000000 in
theorem tX3_hasAbove (S h : Nat) (v : Nat → Nat) (G : Nat) (hG : G ≤ 8) (hS : S < 256) (hh : h ≤ 9) (hv : ∀ i, i < G → μ 148 i = nI (v i) ∧ v i ≤ 8) (g : Nat) (hg : g < 8) (hA : μ 147 g = nI S) : x_K sc (d + 2) mX3_hasAbove [.ref 144, .int (nI G), .int (nI g), .int (nI h)] μ w (x_p (some (.int (if s_fp (s_hp S h v) G = 0 then 0 else 1))) μ w) := by
  have hle := s_fp_le (p := s_hp S h v) (n := G)
  refine x_K.of (by decide) (Nat.le_of_ble_eq_true rfl) ?_
  show x_T sc (d + 2) mX3_hasAbove 0 [.ref 144, .int (nI G), .int (nI g), .int (nI h)] [] μ w _
  refine xt_aload_n _ dX3_hasAbove_0 rfl ?_
  refine xt_iload_n _ dX3_hasAbove_1 rfl ?_
  refine xt_aload_n _ dX3_hasAbove_2 rfl ?_
  refine xt_getr _ dX3_hasAbove_3 kfX3_18 (by first | exact sh144 | rfl | assumption) rfl ?_
  refine xt_iload_n _ dX3_hasAbove_6 rfl ?_
  refine xt_cS _ dX3_hasAbove_7 klX3_78 (tX8_at sc _ _ _ (k := 147) (n := 8) rfl (by decide) _) rfl rfl (Nat.le_of_ble_eq_true rfl) ?_
  rw [s_at_ix (j := g) (by omega) (by decide) rfl]
  rw [hA]
  refine xt_iload_n _ dX3_hasAbove_10 rfl ?_
  refine xt_cV _ dX3_hasAbove_11 klX3_128 (tX3_firstOfHeight sc _ μ w S h v G hG hS hh hv) sh144 rfl rfl (Nat.le_of_ble_eq_true rfl) ?_
  refine xt_if_lt 21 dX3_hasAbove_14 (by decide) (fun t14 => ?_) (fun f14 => ?_)
  · refine xt_iconst (0) dX3_hasAbove_21 (by decide) ?_
    exact xt_iret .boolean dX3_hasAbove_22 rfl (by first | rfl | assumption) ⟨by rw [if_pos ((eI_neg (by omega)).mp t14)], rfl, rfl⟩
  · refine xt_iconst (1) dX3_hasAbove_17 (by decide) ?_
    refine xt_goto 22 dX3_hasAbove_18 (by decide) ?_
    exact xt_iret .boolean dX3_hasAbove_22 rfl (by first | rfl | assumption) ⟨by rw [if_neg (fun z => f14 ((eI_neg (by omega)).mpr z))], rfl, rfl⟩
set_option maxHeartbeats 4000000 in
theorem tX3_climb (k : Nat) (F : Nat → Nat) (hS : f_S k) (hk : k + 5 < 144) (hW : f_W F) (hC : f_C μ k F) : x_K sc (d + 4) mX3_climb [.ref 144, .ref k] μ w (fun r μ' _ => r = none ∧ μ' 144 5 = nI (s_M F) ∧ (∀ q, q < s_M F → μ' 149 q = nI (s_rg F q)) ∧ ∀ a, (a < 144 ∨ 149 < a) → μ' a = μ a) := by
  have h8 : F 4 ≤ 8 := hW.1.2.2.2.2.1
  have e4 : μ k 4 = nI (F 4) := hC.1 4 (by decide)
  have hM8 : s_M F ≤ F 4 := s_M_le
  refine x_K.of (by decide) (Nat.le_of_ble_eq_true rfl) ?_
  show x_T sc (d + 4) mX3_climb 0 [.ref 144, .ref k, .retAddr 0, .retAddr 0, .retAddr 0, .retAddr 0] [] μ w _
  refine xt_aload_n _ dX3_climb_0 rfl ?_
  refine xt_aload_n _ dX3_climb_1 rfl ?_
  refine xt_callV _ dX3_climb_2 klX3_117 (tX3_compare sc _ μ w k F hS hk hW hC) sh144 rfl rfl (Nat.le_of_ble_eq_true rfl) (fun r2 μ2 w2 q2 => ?_)
  obtain ⟨rfl, hA, hf1⟩ := q2
  change x_T _ _ _ _ _ _ _ _ _
  refine xt_iconst (0) dX3_climb_5 (by decide) ?_
  refine xt_istore_n dX3_climb_6 (by decide) rfl ?_
  change x_T _ _ _ _ [_, _, _, _, _, _] _ _ _ _
  refine xt_iconst (1) dX3_climb_7 (by decide) ?_
  refine xt_istore_n dX3_climb_8 (by decide) rfl ?_
  change x_T _ _ _ _ [_, _, _, _, _, _] _ _ _ _
  have L9 : ∀ (n9 n : Nat) (μ3 : x_Me) (w3 : Int64) (v4 v5 : Value) (hH : ∀ g, g < F 4 → n ≠ 0 → μ3 148 g = nI (s_ht F n g)) (hf : ∀ a, a ≠ 148 → μ3 a = μ2 a), n + n9 = F 4 → x_T sc (d + 4) mX3_climb 9 [.ref 144, .ref k, .int (nI (s_mxr (s_ht F n) (F 4))), .int (nI (n + 1)), v4, v5] [] μ3 w3 (fun r μ' _ => r = none ∧ μ' 144 5 = nI (s_M F) ∧ (∀ q, q < s_M F → μ' 149 q = nI (s_rg F q)) ∧ ∀ a, (a < 144 ∨ 149 < a) → μ' a = μ a) := by
    intro n9
    induction n9 with
    | zero =>
      intro n μ3 w3 v4 v5 hH hf hmn
      obtain rfl : F 4 = n := by omega
      rw [show s_mxr (s_ht F (F 4)) (F 4) = s_M F from rfl]
      refine xt_iload_n _ dX3_climb_9 rfl ?_
      refine xt_aload_n _ dX3_climb_10 rfl ?_
      refine xt_geti dX3_climb_11 kfX3_55 (by first | exact sh144 | exact hS.1 | rfl | assumption) rfl ?_
      refine xt_icmp_gt 74 dX3_climb_14 (by decide) (fun _ => ?_) (fun q => absurd (by rw [hf k (by omega), hf1 k (by omega), e4]; exact nI_lt (by omega) (by omega)) q)
      refine xt_aload_n _ dX3_climb_74 rfl ?_
      refine xt_iload_n _ dX3_climb_75 rfl ?_
      refine xt_puti dX3_climb_76 kpX3_125 (by first | exact sh144 | exact hS.1 | rfl | assumption) rfl (by first | rfl | assumption) (by first | rfl | assumption) ?_
      refine xt_iconst (1) dX3_climb_79 (by decide) ?_
      refine xt_aload_n _ dX3_climb_80 rfl ?_
      refine xt_geti dX3_climb_81 kfX3_55 (by first | exact sh144 | exact hS.1 | rfl | assumption) rfl ?_
      rw [x_u_ne (by omega)]
      rw [hf k (by omega), hf1 k (by omega), e4]
      refine xt_ishl dX3_climb_84 ?_
      refine xt_iconst (1) dX3_climb_85 (by decide) ?_
      refine xt_isub dX3_climb_86 ?_
      rw [x_1sh h8, show nI (2 ^ F 4) - (1 : Int32) = nI (2 ^ F 4 - 1) from pk_sub (b := 1) Nat.one_le_two_pow]
      refine xt_istore_n dX3_climb_87 (by decide) rfl ?_
      change x_T _ _ _ _ [_, _, _, _, _, _] _ _ _ _
      refine xt_iconst (0) dX3_climb_88 (by decide) ?_
      refine xt_istore dX3_climb_89 (by decide) rfl ?_
      change x_T _ _ _ _ [_, _, _, _, _, _] _ _ _ _
      have L91 : ∀ (n91 i : Nat) (μ5 : x_Me) (v6 : Value) (h5M : μ5 144 5 = nI (s_M F)) (h5A : ∀ a, a < F 4 → μ5 147 a = nI (s_bits (s_rn F a) (F 4))) (h5H : ∀ g, g < F 4 → μ5 148 g = nI (s_H F g)) (h5R : ∀ q, q < i → μ5 149 q = nI (s_rg F q)) (h5f : ∀ a, (a < 144 ∨ 149 < a) → μ5 a = μ a), i + n91 = s_M F → x_T sc (d + 4) mX3_climb 91 [.ref 144, .ref k, .int (nI (s_M F)), .int (nI (s_op F i)), .int (nI i), v6] [] μ5 w3 (fun r μ' _ => r = none ∧ μ' 144 5 = nI (s_M F) ∧ (∀ q, q < s_M F → μ' 149 q = nI (s_rg F q)) ∧ ∀ a, (a < 144 ∨ 149 < a) → μ' a = μ a) := by
        intro n91
        induction n91 with
        | zero =>
          intro i μ5 v6 h5M h5A h5H h5R h5f hmn
          obtain rfl : s_M F = i := by omega
          refine xt_iload _ dX3_climb_91 rfl ?_
          refine xt_iload_n _ dX3_climb_93 rfl ?_
          refine xt_icmp_ge 139 dX3_climb_94 (by decide) (fun _ => ?_) (fun q => absurd (Int32.le_refl _) q)
          exact xt_ret dX3_climb_139 rfl ⟨rfl, h5M, h5R, h5f⟩
        | succ n91 ih91 =>
          intro i μ5 v6 h5M h5A h5H h5R h5f hmn
          have hlt_i : i < s_M F := by omega
          have hr4 : s_rg F i < F 4 := (s_rg_ok hlt_i).1.1
          refine xt_iload _ dX3_climb_91 rfl ?_
          refine xt_iload_n _ dX3_climb_93 rfl ?_
          refine xt_icmp_ge 139 dX3_climb_94 (by decide) (fun q => absurd q (nI_ge hlt_i (by omega))) (fun _ => ?_)
          refine xt_aload_n _ dX3_climb_97 rfl ?_
          refine xt_aload_n _ dX3_climb_98 rfl ?_
          refine xt_geti dX3_climb_99 kfX3_55 (by first | exact sh144 | exact hS.1 | rfl | assumption) rfl ?_
          refine xt_iload_n _ dX3_climb_102 rfl ?_
          refine xt_iload_n _ dX3_climb_103 rfl ?_
          refine xt_iload _ dX3_climb_104 rfl ?_
          refine xt_isub dX3_climb_106 ?_
          rw [h5f k (by omega), e4, pk_sub (a := s_M F) (b := i) (by omega)]
          refine xt_cV _ dX3_climb_107 klX3_128 (tX3_firstOfHeight sc _ μ5 w3 (s_op F i) (s_M F - i) (s_H F) (F 4) h8 (s_op_lt h8 i) (by omega) (fun g hg => ⟨h5H g hg, Nat.le_trans s_H_le h8⟩)) sh144 rfl rfl (Nat.le_of_ble_eq_true rfl) ?_
          rw [s_rg_fp hlt_i, eI_s]
          refine xt_istore dX3_climb_110 (by decide) rfl ?_
          change x_T _ _ _ _ [_, _, _, _, _, _] _ _ _ _
          refine xt_aload_n _ dX3_climb_112 rfl ?_
          refine xt_getr _ dX3_climb_113 kfX3_24 (by first | exact sh144 | exact hS.1 | rfl | assumption) rfl ?_
          refine xt_iload _ dX3_climb_116 rfl ?_
          refine xt_iload _ dX3_climb_118 rfl ?_
          refine xt_cS0 _ dX3_climb_120 klX3_61 (tX8_set sc _ _ _ (k := 149) (n := 8) rfl (by decide) _ _) rfl rfl (Nat.le_of_ble_eq_true rfl) ?_
          rw [s_set_ix (by omega) (by decide)]
          refine xt_aload_n _ dX3_climb_123 rfl ?_
          refine xt_getr _ dX3_climb_124 kfX3_18 (by first | exact sh144 | exact hS.1 | rfl | assumption) rfl ?_
          refine xt_iload _ dX3_climb_127 rfl ?_
          refine xt_cS _ dX3_climb_129 klX3_78 (tX8_at sc _ _ _ (k := 147) (n := 8) rfl (by decide) _) rfl rfl (Nat.le_of_ble_eq_true rfl) ?_
          rw [s_at_ix (j := s_rg F i) (by omega) (by decide) rfl]
          rw [x_u_ne (by decide), h5A _ (by omega)]
          refine xt_istore_n dX3_climb_132 (by decide) rfl ?_
          change x_T _ _ _ _ [_, _, _, _, _, _] _ _ _ _
          refine xt_inc _ (1) dX3_climb_133 rfl (by decide) (by decide) rfl ?_
          change x_T _ _ _ _ [_, _, _, _, _, _] _ _ _ _
          refine xt_goto 91 dX3_climb_136 (by decide) ?_
          refine x_T.ls (by rw [nI_succ i]; rfl) (ih91 (i + 1) _ (.int (nI (s_rg F i))) (by rw [x_u_ne (by decide)]; exact h5M) (fun a ha => by rw [x_u_ne (by decide)]; exact h5A a ha) (fun g hg => by rw [x_u_ne (by decide)]; exact h5H g hg) (fun q hq => ?_) (fun a ha => by rw [x_u_ne (by omega)]; exact h5f a ha) (by omega))
          rw [x_u_eq]
          by_cases he : q = i
          · rw [he, pk_us]
          · rw [pk_un he]; exact h5R q (by omega)
      exact L91 (s_M F) 0 _ _ (by rw [x_u_eq, pk_us]) (fun a ha => by rw [x_u_ne (by decide), hf 147 (by decide)]; exact hA a ha) (fun g hg => by rw [x_u_ne (by decide)]; exact hH g hg (by omega)) (fun q hq => absurd hq (by omega)) (fun a ha => by rw [x_u_ne (by omega), hf a (by omega), hf1 a (by omega)]) (by omega)
    | succ n9 ih9 =>
      intro n μ3 w3 v4 v5 hH hf hmn
      have hlt_n : n < F 4 := by omega
      refine xt_iload_n _ dX3_climb_9 rfl ?_
      refine xt_aload_n _ dX3_climb_10 rfl ?_
      refine xt_geti dX3_climb_11 kfX3_55 (by first | exact sh144 | exact hS.1 | rfl | assumption) rfl ?_
      refine xt_icmp_gt 74 dX3_climb_14 (by decide) (fun q => absurd q (by rw [hf k (by omega), hf1 k (by omega), e4]; exact Int32.not_lt.mpr (nI_le (by omega) (by omega)))) (fun _ => ?_)
      refine xt_iconst (0) dX3_climb_17 (by decide) ?_
      refine xt_istore dX3_climb_18 (by decide) rfl ?_
      change x_T _ _ _ _ [_, _, _, _, _, _] _ _ _ _
      have L20 : ∀ (n20 j : Nat) (μ4 : x_Me) (hH4 : ∀ g, g < F 4 → (g < j → μ4 148 g = nI (s_ht F (n + 1) g)) ∧ (j ≤ g → n ≠ 0 → μ4 148 g = nI (s_ht F n g))) (hf4 : ∀ a, a ≠ 148 → μ4 a = μ2 a), j + n20 = F 4 → x_T sc (d + 4) mX3_climb 20 [.ref 144, .ref k, .int (nI (max (s_mxr (s_ht F n) (F 4)) (s_mxr (s_ht F (n + 1)) j))), .int (nI (n + 1)), .int (nI j), v5] [] μ4 w3 (fun r μ' _ => r = none ∧ μ' 144 5 = nI (s_M F) ∧ (∀ q, q < s_M F → μ' 149 q = nI (s_rg F q)) ∧ ∀ a, (a < 144 ∨ 149 < a) → μ' a = μ a) := by
        intro n20
        induction n20 with
        | zero =>
          intro j μ4 hH4 hf4 hmn
          obtain rfl : F 4 = j := by omega
          refine xt_iload _ dX3_climb_20 rfl ?_
          refine xt_aload_n _ dX3_climb_22 rfl ?_
          refine xt_geti dX3_climb_23 kfX3_55 (by first | exact sh144 | exact hS.1 | rfl | assumption) rfl ?_
          refine xt_icmp_ge 68 dX3_climb_26 (by decide) (fun _ => ?_) (fun q => absurd (by rw [hf4 k (by omega), hf1 k (by omega), e4]; exact Int32.le_refl _) q)
          refine xt_inc _ (1) dX3_climb_68 rfl (by decide) (by decide) rfl ?_
          change x_T _ _ _ _ [_, _, _, _, _, _] _ _ _ _
          refine xt_goto 9 dX3_climb_71 (by decide) ?_
          refine x_T.ls ?_ (ih9 (n + 1) μ4 w3 (.int (nI (F 4))) v5 (fun g hg _ => (hH4 g hg).1 hg) hf4 (by omega))
          rw [nI_succ (n + 1), show (max (s_mxr (s_ht F n) (F 4)) (s_mxr (s_ht F (n + 1)) (F 4))) = s_mxr (s_ht F (n + 1)) (F 4) from Nat.max_eq_right (s_mxr_mo (fun i _ => s_ht_mono))]
        | succ n20 ih20 =>
          intro j μ4 hH4 hf4 hmn
          have hlt_j : j < F 4 := by omega
          have n31x : n < F 4 := hlt_n
          refine xt_iload _ dX3_climb_20 rfl ?_
          refine xt_aload_n _ dX3_climb_22 rfl ?_
          refine xt_geti dX3_climb_23 kfX3_55 (by first | exact sh144 | exact hS.1 | rfl | assumption) rfl ?_
          refine xt_icmp_ge 68 dX3_climb_26 (by decide) (fun q => absurd q (by rw [hf4 k (by omega), hf1 k (by omega), e4]; exact nI_ge hlt_j (by omega))) (fun _ => ?_)
          refine xt_iload_n _ dX3_climb_29 rfl ?_
          refine xt_iconst (1) dX3_climb_30 (by decide) ?_
          refine xt_icmp_eq 50 dX3_climb_31 (by decide) (fun t31 => ?_) (fun f31 => ?_)
          · have n31 : n + 1 = 1 := (nI_eq (a := n + 1) (b := 1) (by omega) (by omega)).mp t31
            refine xt_aload_n _ dX3_climb_50 rfl ?_
            refine xt_getr _ dX3_climb_51 kfX3_21 (by first | exact sh144 | exact hS.1 | rfl | assumption) rfl ?_
            refine xt_iload _ dX3_climb_54 rfl ?_
            refine xt_iload_n _ dX3_climb_56 rfl ?_
            refine xt_cS0 _ dX3_climb_57 klX3_61 (tX8_set sc _ _ _ (k := 148) (n := 8) rfl (by decide) _ _) rfl rfl (Nat.le_of_ble_eq_true rfl) ?_
            rw [s_set_ix (by omega) (by decide)]
            refine xt_iload_n _ dX3_climb_60 rfl ?_
            refine xt_istore_n dX3_climb_61 (by decide) rfl ?_
            change x_T _ _ _ _ [_, _, _, _, _, _] _ _ _ _
            refine xt_inc _ (1) dX3_climb_62 rfl (by decide) (by decide) rfl ?_
            change x_T _ _ _ _ [_, _, _, _, _, _] _ _ _ _
            refine xt_goto 20 dX3_climb_65 (by decide) ?_
            have hc : s_ch F n j := by
              rw [show n = 0 by omega]; exact trivial
            refine x_T.ls ?_ (ih20 (j + 1) _ (fun g hg => ⟨fun hgj => ?_, fun h2 hn => ?_⟩) (fun a ha => by rw [x_u_ne ha]; exact hf4 a ha) (by omega))
            · rw [nI_succ j, s_mxy hc]
            · rw [x_u_eq]
              by_cases he : g = j
              · rw [he, pk_us, s_ht_y hc]
              · rw [pk_un he]; exact (hH4 g hg).1 (by omega)
            · rw [x_u_eq, pk_un (by omega)]; exact (hH4 g hg).2 (by omega) hn
          · have n31 : ¬ (n + 1 = 1) := fun z => f31 ((nI_eq (a := n + 1) (b := 1) (by omega) (by omega)).mpr z)
            refine xt_aload_n _ dX3_climb_34 rfl ?_
            refine xt_aload_n _ dX3_climb_35 rfl ?_
            refine xt_geti dX3_climb_36 kfX3_55 (by first | exact sh144 | exact hS.1 | rfl | assumption) rfl ?_
            refine xt_iload _ dX3_climb_39 rfl ?_
            refine xt_iload_n _ dX3_climb_41 rfl ?_
            refine xt_iconst (1) dX3_climb_42 (by decide) ?_
            refine xt_isub dX3_climb_43 ?_
            have hn0 : n ≠ 0 := fun z => n31 (by omega)
            rw [hf4 k (by omega), hf1 k (by omega), e4]
            rw [show nI (n + 1) - (1 : Int32) = nI n from pk_sub (a := n + 1) (b := 1) (by omega)]
            have hvv : ∀ i, i < F 4 → μ4 148 i = nI ((fun g => if g < j then s_ht F (n + 1) g else s_ht F n g) i) ∧ (fun g => if g < j then s_ht F (n + 1) g else s_ht F n g) i ≤ 8 := by
              intro i hi
              show μ4 148 i = nI (if i < j then s_ht F (n + 1) i else s_ht F n i) ∧ (if i < j then s_ht F (n + 1) i else s_ht F n i) ≤ 8
              have q1 : s_ht F (n + 1) i ≤ n + 1 := s_ht_le
              have q2 : s_ht F n i ≤ n := s_ht_le
              by_cases hij : i < j
              · rw [if_pos hij]; exact ⟨(hH4 i hi).1 hij, by omega⟩
              · rw [if_neg hij]; exact ⟨(hH4 i hi).2 (by omega) hn0, by omega⟩
            refine xt_cV _ dX3_climb_44 klX3_121 (tX3_hasAbove sc _ μ4 w3 (s_bits (s_rn F j) (F 4)) n (fun g => if g < j then s_ht F (n + 1) g else s_ht F n g) (F 4) h8 (s_b256 h8 _) (by omega) hvv j (by omega) (by rw [hf4 147 (by decide)]; exact hA j hlt_j)) sh144 rfl rfl (Nat.le_of_ble_eq_true rfl) ?_
            refine xt_if_eq 62 dX3_climb_47 (by decide) (fun t47 => ?_) (fun f47 => ?_)
            · refine xt_inc _ (1) dX3_climb_62 rfl (by decide) (by decide) rfl ?_
              change x_T _ _ _ _ [_, _, _, _, _, _] _ _ _ _
              refine xt_goto 20 dX3_climb_65 (by decide) ?_
              have hnc : ¬ s_ch F n j := (s_hb (fun g => if g < j then s_ht F (n + 1) g else s_ht F n g) hn0 (fun i _ => s_vv hn0)).mp (Classical.byContradiction (fun z => by rw [if_neg z] at t47; exact absurd t47 (by decide)))
              refine x_T.ls ?_ (ih20 (j + 1) μ4 (fun g hg => ⟨fun hgj => ?_, fun h2 => (hH4 g hg).2 (by omega)⟩) hf4 (by omega))
              · rw [nI_succ j, s_mxn hnc hlt_j]
              · by_cases he : g = j
                · rw [he, s_ht_n hnc]; exact (hH4 j hlt_j).2 (Nat.le_refl _) hn0
                · exact (hH4 g hg).1 (by omega)
            · refine xt_aload_n _ dX3_climb_50 rfl ?_
              refine xt_getr _ dX3_climb_51 kfX3_21 (by first | exact sh144 | exact hS.1 | rfl | assumption) rfl ?_
              refine xt_iload _ dX3_climb_54 rfl ?_
              refine xt_iload_n _ dX3_climb_56 rfl ?_
              refine xt_cS0 _ dX3_climb_57 klX3_61 (tX8_set sc _ _ _ (k := 148) (n := 8) rfl (by decide) _ _) rfl rfl (Nat.le_of_ble_eq_true rfl) ?_
              rw [s_set_ix (by omega) (by decide)]
              refine xt_iload_n _ dX3_climb_60 rfl ?_
              refine xt_istore_n dX3_climb_61 (by decide) rfl ?_
              change x_T _ _ _ _ [_, _, _, _, _, _] _ _ _ _
              refine xt_inc _ (1) dX3_climb_62 rfl (by decide) (by decide) rfl ?_
              change x_T _ _ _ _ [_, _, _, _, _, _] _ _ _ _
              refine xt_goto 20 dX3_climb_65 (by decide) ?_
              have hc : s_ch F n j := Classical.byContradiction (fun z => f47 (if_pos ((s_hb (fun g => if g < j then s_ht F (n + 1) g else s_ht F n g) hn0 (fun i _ => s_vv hn0)).mpr z)))
              refine x_T.ls ?_ (ih20 (j + 1) _ (fun g hg => ⟨fun hgj => ?_, fun h2 hn => ?_⟩) (fun a ha => by rw [x_u_ne ha]; exact hf4 a ha) (by omega))
              · rw [nI_succ j, s_mxy hc]
              · rw [x_u_eq]
                by_cases he : g = j
                · rw [he, pk_us, s_ht_y hc]
                · rw [pk_un he]; exact (hH4 g hg).1 (by omega)
              · rw [x_u_eq, pk_un (by omega)]; exact (hH4 g hg).2 (by omega) hn
      refine x_T.ls ?_ (L20 (F 4) 0 μ3 (fun g hg => ⟨fun z => absurd z (by omega), fun _ hn => hH g hg hn⟩) hf (by omega))
      rw [show (max (s_mxr (s_ht F n) (F 4)) (s_mxr (s_ht F (n + 1)) 0)) = (s_mxr (s_ht F n) (F 4)) from Nat.max_zero _]; rfl
  refine x_T.ls ?_ (L9 (F 4) 0 μ2 w2 (.retAddr 0) (.retAddr 0) (fun g hg z => absurd rfl z) (fun _ _ => rfl) (by omega))
  rw [s_mxr_00]; rfl
set_option maxHeartbeats 1000000 in
theorem tX3_rungAt (M : Nat) (R : Nat → Nat) (hM : M ≤ 8) (e5 : μ 144 5 = nI M) (hR : ∀ q, q < M → μ 149 q = nI (R q)) (a : Int32) : x_K sc (d + 1) mX3_rungAt [.ref 144, .int a] μ w (x_p (some (.int (if 0 ≤ a ∧ a < nI M then nI (R a.toNatClampNeg) else -1))) μ w) := by
  refine x_K.of (by decide) (Nat.le_of_ble_eq_true rfl) ?_
  show x_T sc (d + 1) mX3_rungAt 0 [.ref 144, .int a] [] μ w _
  refine xt_iload_n _ dX3_rungAt_0 rfl ?_
  refine xt_if_lt 23 dX3_rungAt_1 (by decide) (fun t1 => ?_) (fun f1 => ?_)
  · refine xt_iconst (-1) dX3_rungAt_23 (by decide) ?_
    exact xt_iret .int dX3_rungAt_24 rfl (by first | rfl | assumption) ⟨by rw [if_neg (fun z => absurd t1 (Int32.not_lt.mpr z.1))], rfl, rfl⟩
  · refine xt_iload_n _ dX3_rungAt_4 rfl ?_
    refine xt_aload_n _ dX3_rungAt_5 rfl ?_
    refine xt_geti dX3_rungAt_6 kfX3_125 (by first | exact sh144 | rfl | assumption) rfl ?_
    refine xt_icmp_ge 23 dX3_rungAt_9 (by decide) (fun t9 => ?_) (fun f9 => ?_)
    · refine xt_iconst (-1) dX3_rungAt_23 (by decide) ?_
      exact xt_iret .int dX3_rungAt_24 rfl (by first | rfl | assumption) ⟨by rw [e5] at t9; rw [if_neg (fun z => absurd z.2 (Int32.not_lt.mpr t9))], rfl, rfl⟩
    · refine xt_aload_n _ dX3_rungAt_12 rfl ?_
      refine xt_getr _ dX3_rungAt_13 kfX3_24 (by first | exact sh144 | rfl | assumption) rfl ?_
      refine xt_iload_n _ dX3_rungAt_16 rfl ?_
      rw [e5] at f9
      obtain ⟨j, hj, rfl⟩ := nI_of f1
      have hjM : j < M := (nI_ltI hj (by omega)).mp (Int32.not_le.mp f9)
      refine xt_cS _ dX3_rungAt_17 klX3_78 (tX8_at sc _ _ _ (k := 149) (n := 8) rfl (by decide) _) rfl rfl (Nat.le_of_ble_eq_true rfl) ?_
      rw [s_at_ix (j := j) (by omega) (by decide) rfl]
      rw [hR j hjM]
      refine xt_goto 24 dX3_rungAt_20 (by decide) ?_
      exact xt_iret .int dX3_rungAt_24 rfl (by first | rfl | assumption) ⟨by rw [if_pos ⟨Int32.not_lt.mp f1, nI_lt hjM (by omega)⟩, nI_clamp (by omega)], rfl, rfl⟩
end LADDER
section LADDERM
variable (sc : Nat × (Nat → Int32)) (d : Nat) (μ : x_Me) (w : Int64)
set_option maxHeartbeats 2000000 in
theorem tX12_isRung (F : Nat → Nat) (hW : f_W F) (hw : ∀ i, i < 48 → μ 165 i = nI (F (41 + i))) (a b : Nat) (ha : a < 8) (hb : b < 8) : x_K sc d mX12_isRung [.ref 152, .int (nI a), .int (nI b)] μ w (x_p (some (.int (if s_rn F a b then 1 else 0))) μ w) := by
  refine x_K.of (by decide) (Nat.le_of_ble_eq_true rfl) ?_
  show x_T sc d mX12_isRung 0 [.ref 152, .int (nI a), .int (nI b), .retAddr 0, .retAddr 0, .retAddr 0] [] μ w _
  refine xt_iconst (0) dX12_isRung_0 (by decide) ?_
  refine xt_istore_n dX12_isRung_1 (by decide) rfl ?_
  change x_T _ _ _ _ [_, _, _, _, _, _] _ _ _ _
  refine xt_iconst (0) dX12_isRung_2 (by decide) ?_
  refine xt_istore dX12_isRung_3 (by decide) rfl ?_
  change x_T _ _ _ _ [_, _, _, _, _, _] _ _ _ _
  have L5 : ∀ (n5 m : Nat) (v5 : Value) (hall : s_al (fun j => decide (F (41 + (6 * a + j)) ≤ F (41 + (6 * b + j)))) m = true), m + n5 = 6 → x_T sc d mX12_isRung 5 [.ref 152, .int (nI a), .int (nI b), .int (if !s_al (fun j => decide (F (41 + (6 * b + j)) ≤ F (41 + (6 * a + j)))) m then 1 else 0), .int (nI m), v5] [] μ w (x_p (some (.int (if s_rn F a b then 1 else 0))) μ w) := by
    intro n5
    induction n5 with
    | zero =>
      intro m v5 hall hmn
      obtain rfl : 6 = m := by omega
      refine xt_iload _ dX12_isRung_5 rfl ?_
      refine xt_bipush (6) dX12_isRung_7 (by decide) ?_
      refine xt_icmp_ge 67 dX12_isRung_9 (by decide) (fun _ => ?_) (fun q => absurd (by decide) q)
      refine xt_iload_n _ dX12_isRung_67 rfl ?_
      exact xt_iret .boolean dX12_isRung_68 rfl (by first | rfl | exact s_nar _ | assumption) ⟨by rw [show s_rn F a b = !s_al (fun j => decide (F (41 + (6 * b + j)) ≤ F (41 + (6 * a + j)))) 6 by show (s_mt F b a && !s_mt F a b) = _; rw [show s_mt F b a = true from hall, Bool.true_and]], rfl, rfl⟩
    | succ n5 ih5 =>
      intro m v5 hall hmn
      have hlt : m < 6 := by omega
      have hia : (6 : Int32) * nI a + nI m = nI (6 * a + m) := by rw [show (6 : Int32) = nI 6 from rfl, pk_mul, nI_add]
      have hib : (6 : Int32) * nI b + nI m = nI (6 * b + m) := by rw [show (6 : Int32) = nI 6 from rfl, pk_mul, nI_add]
      have hby := s_byI (F (41 + (6 * a + m))) (Nat.lt_succ_of_le (hW.2.2.2.1 _ (by omega))) (F (41 + (6 * b + m))) (Nat.lt_succ_of_le (hW.2.2.2.1 _ (by omega)))
      refine xt_iload _ dX12_isRung_5 rfl ?_
      refine xt_bipush (6) dX12_isRung_7 (by decide) ?_
      refine xt_icmp_ge 67 dX12_isRung_9 (by decide) (fun q => absurd q (nI_ge (b := 6) hlt (by decide))) (fun _ => ?_)
      refine xt_aload_n _ dX12_isRung_12 rfl ?_
      refine xt_getr _ dX12_isRung_13 kfX12_47 (by first | exact sh152 | rfl | assumption) rfl ?_
      refine xt_bipush (6) dX12_isRung_16 (by decide) ?_
      refine xt_iload_n _ dX12_isRung_18 rfl ?_
      refine xt_imul dX12_isRung_19 ?_
      refine xt_iload _ dX12_isRung_20 rfl ?_
      refine xt_iadd dX12_isRung_22 ?_
      refine xt_ald dX12_isRung_23 (by first | exact sh152 | rfl | assumption) (by rw [hib]; exact vp_in_nI (by omega) (by decide)) ?_
      refine xt_aload_n _ dX12_isRung_24 rfl ?_
      refine xt_getr _ dX12_isRung_25 kfX12_47 (by first | exact sh152 | rfl | assumption) rfl ?_
      refine xt_bipush (6) dX12_isRung_28 (by decide) ?_
      refine xt_iload_n _ dX12_isRung_30 rfl ?_
      refine xt_imul dX12_isRung_31 ?_
      refine xt_iload _ dX12_isRung_32 rfl ?_
      refine xt_iadd dX12_isRung_34 ?_
      refine xt_ald dX12_isRung_35 (by first | exact sh152 | rfl | assumption) (by rw [hia]; exact vp_in_nI (by omega) (by decide)) ?_
      refine xt_isub dX12_isRung_36 ?_
      rw [hia, hib, nI_clamp (by omega), nI_clamp (by omega), hw _ (by omega), hw _ (by omega)]
      refine xt_istore dX12_isRung_37 (by decide) rfl ?_
      change x_T _ _ _ _ [_, _, _, _, _, _] _ _ _ _
      refine xt_iload _ dX12_isRung_39 rfl ?_
      refine xt_if_ge 46 dX12_isRung_41 (by decide) (fun t41 => ?_) (fun f41 => ?_)
      · refine xt_iload_n _ dX12_isRung_46 rfl ?_
        refine xt_if_ne 55 dX12_isRung_47 (by decide) (fun t47 => ?_) (fun f47 => ?_)
        · refine xt_iconst (1) dX12_isRung_55 (by decide) ?_
          refine xt_goto 60 dX12_isRung_56 (by decide) ?_
          refine xt_istore_n dX12_isRung_60 (by decide) rfl ?_
          change x_T _ _ _ _ [_, _, _, _, _, _] _ _ _ _
          refine xt_inc _ (1) dX12_isRung_61 rfl (by decide) (by decide) rfl ?_
          change x_T _ _ _ _ [_, _, _, _, _, _] _ _ _ _
          refine xt_goto 5 dX12_isRung_64 (by decide) ?_
          have hA2 : s_al (fun j => decide (F (41 + (6 * a + j)) ≤ F (41 + (6 * b + j)))) (m + 1) = true := by
            show (s_al (fun j => decide (F (41 + (6 * a + j)) ≤ F (41 + (6 * b + j)))) m && decide (F (41 + (6 * a + m)) ≤ F (41 + (6 * b + m)))) = true
            rw [hall, decide_eq_true (hby.1.mp t41)]; rfl
          refine x_T.ls ?_ (ih5 (m + 1) (.int (nI (F (41 + (6 * b + m))) - nI (F (41 + (6 * a + m))))) hA2 (by omega))
          have es : s_al (fun j => decide (F (41 + (6 * b + j)) ≤ F (41 + (6 * a + j)))) (m + 1) = (s_al (fun j => decide (F (41 + (6 * b + j)) ≤ F (41 + (6 * a + j)))) m && decide (F (41 + (6 * b + m)) ≤ F (41 + (6 * a + m)))) := rfl
          have h1 := s_if1 t47
          rw [Bool.not_eq_true'] at h1
          rw [es, h1, nI_succ m]; rfl
        · refine xt_iload _ dX12_isRung_50 rfl ?_
          refine xt_if_le 59 dX12_isRung_52 (by decide) (fun t52 => ?_) (fun f52 => ?_)
          · refine xt_iconst (0) dX12_isRung_59 (by decide) ?_
            refine xt_istore_n dX12_isRung_60 (by decide) rfl ?_
            change x_T _ _ _ _ [_, _, _, _, _, _] _ _ _ _
            refine xt_inc _ (1) dX12_isRung_61 rfl (by decide) (by decide) rfl ?_
            change x_T _ _ _ _ [_, _, _, _, _, _] _ _ _ _
            refine xt_goto 5 dX12_isRung_64 (by decide) ?_
            have hA2 : s_al (fun j => decide (F (41 + (6 * a + j)) ≤ F (41 + (6 * b + j)))) (m + 1) = true := by
              show (s_al (fun j => decide (F (41 + (6 * a + j)) ≤ F (41 + (6 * b + j)))) m && decide (F (41 + (6 * a + m)) ≤ F (41 + (6 * b + m)))) = true
              rw [hall, decide_eq_true (hby.1.mp t41)]; rfl
            refine x_T.ls ?_ (ih5 (m + 1) (.int (nI (F (41 + (6 * b + m))) - nI (F (41 + (6 * a + m))))) hA2 (by omega))
            have es : s_al (fun j => decide (F (41 + (6 * b + j)) ≤ F (41 + (6 * a + j)))) (m + 1) = (s_al (fun j => decide (F (41 + (6 * b + j)) ≤ F (41 + (6 * a + j)))) m && decide (F (41 + (6 * b + m)) ≤ F (41 + (6 * a + m)))) := rfl
            have h1 := s_if0 f47
            rw [Bool.not_eq_false'] at h1
            rw [es, h1, decide_eq_true (hby.2.mp t52), nI_succ m]; rfl
          · refine xt_iconst (1) dX12_isRung_55 (by decide) ?_
            refine xt_goto 60 dX12_isRung_56 (by decide) ?_
            refine xt_istore_n dX12_isRung_60 (by decide) rfl ?_
            change x_T _ _ _ _ [_, _, _, _, _, _] _ _ _ _
            refine xt_inc _ (1) dX12_isRung_61 rfl (by decide) (by decide) rfl ?_
            change x_T _ _ _ _ [_, _, _, _, _, _] _ _ _ _
            refine xt_goto 5 dX12_isRung_64 (by decide) ?_
            have hA2 : s_al (fun j => decide (F (41 + (6 * a + j)) ≤ F (41 + (6 * b + j)))) (m + 1) = true := by
              show (s_al (fun j => decide (F (41 + (6 * a + j)) ≤ F (41 + (6 * b + j)))) m && decide (F (41 + (6 * a + m)) ≤ F (41 + (6 * b + m)))) = true
              rw [hall, decide_eq_true (hby.1.mp t41)]; rfl
            refine x_T.ls ?_ (ih5 (m + 1) (.int (nI (F (41 + (6 * b + m))) - nI (F (41 + (6 * a + m))))) hA2 (by omega))
            have es : s_al (fun j => decide (F (41 + (6 * b + j)) ≤ F (41 + (6 * a + j)))) (m + 1) = (s_al (fun j => decide (F (41 + (6 * b + j)) ≤ F (41 + (6 * a + j)))) m && decide (F (41 + (6 * b + m)) ≤ F (41 + (6 * a + m)))) := rfl
            have h1 := s_if0 f47
            rw [Bool.not_eq_false'] at h1
            rw [es, h1, decide_eq_false (fun z => f52 (hby.2.mpr z)), nI_succ m]; rfl
      · refine xt_iconst (0) dX12_isRung_44 (by decide) ?_
        exact xt_iret .boolean dX12_isRung_45 rfl (by first | rfl | exact s_nar _ | assumption) ⟨by rw [show s_rn F a b = false by show (s_mt F b a && !s_mt F a b) = false; rw [show s_mt F b a = false from s_al_f (p := (fun j => decide (F (41 + (6 * a + j)) ≤ F (41 + (6 * b + j))))) hlt (decide_eq_false (fun z => f41 (hby.1.mpr z))), Bool.false_and]]; rfl, rfl, rfl⟩
  exact L5 (6) 0 _ rfl (by omega)
set_option maxHeartbeats 4000000 in
theorem tX12_findRungs (f : Nat) (F : Nat → Nat) (hS : m_S μ f F) (hW : f_W F) : x_K sc (d + 1) mX12_findRungs [.ref 152] μ w (fun r μ' _ => r = none ∧ (∀ g, g < 8 → μ' 171 g = nI (if g < F 4 then s_H F g else 0)) ∧ ∀ a, a ≠ 171 → μ' a = μ a) := by
  have h8 : F 4 ≤ 8 := hW.1.2.2.2.2.1
  have e4 : μ 152 24 = nI (F 4) := hS.1.2.2.2.1
  refine x_K.of (by decide) (Nat.le_of_ble_eq_true rfl) ?_
  show x_T sc (d + 1) mX12_findRungs 0 [.ref 152, .retAddr 0, .retAddr 0, .retAddr 0] [] μ w _
  refine xt_iconst (0) dX12_findRungs_0 (by decide) ?_
  refine xt_istore_n dX12_findRungs_1 (by decide) rfl ?_
  change x_T _ _ _ _ [_, _, _, _] _ _ _ _
  have L2 : ∀ (n2 m : Nat) (μ2 : x_Me) (hv : ∀ i, i < m → μ2 171 i = nI (if i < F 4 then 1 else 0)) (hf : ∀ a, a ≠ 171 → μ2 a = μ a), m + n2 = 8 → x_T sc (d + 1) mX12_findRungs 2 [.ref 152, .int (nI m), .retAddr 0, .retAddr 0] [] μ2 w (fun r μ' _ => r = none ∧ (∀ g, g < 8 → μ' 171 g = nI (if g < F 4 then s_H F g else 0)) ∧ ∀ a, a ≠ 171 → μ' a = μ a) := by
    intro n2
    induction n2 with
    | zero =>
      intro m μ2 hv hf hmn
      obtain rfl : 8 = m := by omega
      refine xt_iload_n _ dX12_findRungs_2 rfl ?_
      refine xt_bipush (8) dX12_findRungs_3 (by decide) ?_
      refine xt_icmp_ge 33 dX12_findRungs_5 (by decide) (fun _ => ?_) (fun q => absurd (by decide) q)
      refine xt_iconst (0) dX12_findRungs_33 (by decide) ?_
      refine xt_istore_n dX12_findRungs_34 (by decide) rfl ?_
      change x_T _ _ _ _ [_, _, _, _] _ _ _ _
      have L35 : ∀ (n35 r : Nat) (μ3 : x_Me) (v2 v3 : Value) (v : Nat → Nat) (hv3 : ∀ g, g < 8 → μ3 171 g = nI (v g)) (hR3 : s_rv F v r 0) (hf3 : ∀ a, a ≠ 171 → μ3 a = μ a), r + n35 = 8 → x_T sc (d + 1) mX12_findRungs 35 [.ref 152, .int (nI r), v2, v3] [] μ3 w (fun r μ' _ => r = none ∧ (∀ g, g < 8 → μ' 171 g = nI (if g < F 4 then s_H F g else 0)) ∧ ∀ a, a ≠ 171 → μ' a = μ a) := by
        intro n35
        induction n35 with
        | zero =>
          intro r μ3 v2 v3 v hv3 hR3 hf3 hmn
          obtain rfl : 8 = r := by omega
          refine xt_iload_n _ dX12_findRungs_35 rfl ?_
          refine xt_bipush (8) dX12_findRungs_36 (by decide) ?_
          refine xt_icmp_ge 120 dX12_findRungs_38 (by decide) (fun _ => ?_) (fun q => absurd (by decide) q)
          exact xt_ret dX12_findRungs_120 rfl ⟨rfl, fun g hg => by rw [hv3 g hg, s_rv_H h8 hR3 hg], hf3⟩
        | succ n35 ih35 =>
          intro r μ3 v2 v3 v hv3 hR3 hf3 hmn
          have hlt_r : r < 8 := by omega
          refine xt_iload_n _ dX12_findRungs_35 rfl ?_
          refine xt_bipush (8) dX12_findRungs_36 (by decide) ?_
          refine xt_icmp_ge 120 dX12_findRungs_38 (by decide) (fun q => absurd q (nI_ge (b := 8) hlt_r (by decide))) (fun _ => ?_)
          refine xt_iconst (0) dX12_findRungs_41 (by decide) ?_
          refine xt_istore_n dX12_findRungs_42 (by decide) rfl ?_
          change x_T _ _ _ _ [_, _, _, _] _ _ _ _
          have L43 : ∀ (n43 a : Nat) (μ4 : x_Me) (v3 : Value) (v : Nat → Nat) (hv4 : ∀ g, g < 8 → μ4 171 g = nI (v g)) (hR4 : s_rv F v r a) (hf4 : ∀ a, a ≠ 171 → μ4 a = μ a), a + n43 = F 4 → x_T sc (d + 1) mX12_findRungs 43 [.ref 152, .int (nI r), .int (nI a), v3] [] μ4 w (fun r μ' _ => r = none ∧ (∀ g, g < 8 → μ' 171 g = nI (if g < F 4 then s_H F g else 0)) ∧ ∀ a, a ≠ 171 → μ' a = μ a) := by
            intro n43
            induction n43 with
            | zero =>
              intro a μ4 v3 v hv4 hR4 hf4 hmn
              obtain rfl : F 4 = a := by omega
              refine xt_iload_n _ dX12_findRungs_43 rfl ?_
              refine xt_aload_n _ dX12_findRungs_44 rfl ?_
              refine xt_geti dX12_findRungs_45 kfX12_251 (by first | exact sh152 | rfl | assumption) rfl ?_
              refine xt_icmp_ge 114 dX12_findRungs_48 (by decide) (fun _ => ?_) (fun q => absurd (by rw [hf4 152 (by decide), e4]; exact Int32.le_refl _) q)
              refine xt_inc _ (1) dX12_findRungs_114 rfl (by decide) (by decide) rfl ?_
              change x_T _ _ _ _ [_, _, _, _] _ _ _ _
              refine xt_goto 35 dX12_findRungs_117 (by decide) ?_
              refine x_T.ls ?_ (ih35 (r + 1) μ4 (.int (nI (F 4))) v3 v hv4 (s_rv_wrap hR4) hf4 (by omega))
              rw [nI_succ r]
            | succ n43 ih43 =>
              intro a μ4 v3 v hv4 hR4 hf4 hmn
              have hlt_a : a < F 4 := by omega
              refine xt_iload_n _ dX12_findRungs_43 rfl ?_
              refine xt_aload_n _ dX12_findRungs_44 rfl ?_
              refine xt_geti dX12_findRungs_45 kfX12_251 (by first | exact sh152 | rfl | assumption) rfl ?_
              refine xt_icmp_ge 114 dX12_findRungs_48 (by decide) (fun q => absurd q (by rw [hf4 152 (by decide), e4]; exact nI_ge hlt_a (by omega))) (fun _ => ?_)
              refine xt_iconst (0) dX12_findRungs_51 (by decide) ?_
              refine xt_istore_n dX12_findRungs_52 (by decide) rfl ?_
              change x_T _ _ _ _ [_, _, _, _] _ _ _ _
              have L53 : ∀ (n53 b : Nat) (μ5 : x_Me) (v : Nat → Nat) (hv5 : ∀ g, g < 8 → μ5 171 g = nI (v g)) (hR5 : s_rv F v r a) (hQ : ∀ b2, b2 < b → s_rn F a b2 = true → v b2 < v a) (hf5 : ∀ a, a ≠ 171 → μ5 a = μ a), b + n53 = F 4 → x_T sc (d + 1) mX12_findRungs 53 [.ref 152, .int (nI r), .int (nI a), .int (nI b)] [] μ5 w (fun r μ' _ => r = none ∧ (∀ g, g < 8 → μ' 171 g = nI (if g < F 4 then s_H F g else 0)) ∧ ∀ a, a ≠ 171 → μ' a = μ a) := by
                intro n53
                induction n53 with
                | zero =>
                  intro b μ5 v hv5 hR5 hQ hf5 hmn
                  obtain rfl : F 4 = b := by omega
                  refine xt_iload_n _ dX12_findRungs_53 rfl ?_
                  refine xt_aload_n _ dX12_findRungs_54 rfl ?_
                  refine xt_geti dX12_findRungs_55 kfX12_251 (by first | exact sh152 | rfl | assumption) rfl ?_
                  refine xt_icmp_ge 108 dX12_findRungs_58 (by decide) (fun _ => ?_) (fun q => absurd (by rw [hf5 152 (by decide), e4]; exact Int32.le_refl _) q)
                  refine xt_inc _ (1) dX12_findRungs_108 rfl (by decide) (by decide) rfl ?_
                  change x_T _ _ _ _ [_, _, _, _] _ _ _ _
                  refine xt_goto 43 dX12_findRungs_111 (by decide) ?_
                  refine x_T.ls ?_ (ih43 (a + 1) μ5 (.int (nI (F 4))) v hv5 (s_rv_next hR5 hQ) hf5 (by omega))
                  rw [nI_succ a]
                | succ n53 ih53 =>
                  intro b μ5 v hv5 hR5 hQ hf5 hmn
                  have hlt_b : b < F 4 := by omega
                  have hba := s_rv_bd h8 hR5 (show a < 8 by omega)
                  have hbb := s_rv_bd h8 hR5 (show b < 8 by omega)
                  refine xt_iload_n _ dX12_findRungs_53 rfl ?_
                  refine xt_aload_n _ dX12_findRungs_54 rfl ?_
                  refine xt_geti dX12_findRungs_55 kfX12_251 (by first | exact sh152 | rfl | assumption) rfl ?_
                  refine xt_icmp_ge 108 dX12_findRungs_58 (by decide) (fun q => absurd q (by rw [hf5 152 (by decide), e4]; exact nI_ge hlt_b (by omega))) (fun _ => ?_)
                  refine xt_aload_n _ dX12_findRungs_61 rfl ?_
                  refine xt_getr _ dX12_findRungs_62 kfX12_65 (by first | exact sh152 | rfl | assumption) rfl ?_
                  refine xt_iload_n _ dX12_findRungs_65 rfl ?_
                  refine xt_aload_n _ dX12_findRungs_66 rfl ?_
                  refine xt_iload_n _ dX12_findRungs_67 rfl ?_
                  refine xt_iload_n _ dX12_findRungs_68 rfl ?_
                  refine xt_cV _ dX12_findRungs_69 klX12_529 (tX12_isRung sc _ μ5 w F hW (fun i hi => by rw [hf5 165 (by decide)]; exact hS.2.2.1 i hi) a b (by omega) (by omega)) sh152 rfl rfl (Nat.le_of_ble_eq_true rfl) ?_
                  refine xt_if_eq 95 dX12_findRungs_72 (by decide) (fun t72 => ?_) (fun f72 => ?_)
                  · refine xt_aload_n _ dX12_findRungs_95 rfl ?_
                    refine xt_getr _ dX12_findRungs_96 kfX12_65 (by first | exact sh152 | rfl | assumption) rfl ?_
                    refine xt_iload_n _ dX12_findRungs_99 rfl ?_
                    refine xt_ald dX12_findRungs_100 (by first | exact sh152 | rfl | assumption) (by exact vp_in_nI (by omega) (by decide)) ?_
                    refine xt_ast dX12_findRungs_101 (by first | exact sh152 | rfl | assumption) (by exact vp_in_nI (by omega) (by decide)) ?_
                    refine xt_inc _ (1) dX12_findRungs_102 rfl (by decide) (by decide) rfl ?_
                    change x_T _ _ _ _ [_, _, _, _] _ _ _ _
                    refine xt_goto 53 dX12_findRungs_105 (by decide) ?_
                    have hn := s_if0 t72
                    refine x_T.ls ?_ (ih53 (b + 1) _ v (fun g hg => ?_) hR5 (fun b2 h2 hr => ?_) (fun c hc => by rw [x_u_ne hc]; exact hf5 c hc) (by omega))
                    · rw [nI_succ b]
                    · rw [x_u_eq, nI_clamp (by omega)]
                      by_cases he : g = a
                      · rw [he, pk_us]; exact hv5 a (by omega)
                      · rw [pk_un he]; exact hv5 g hg
                    · by_cases he : b2 = b
                      · rw [he, hn] at hr; exact absurd hr (by decide)
                      · exact hQ b2 (by omega) hr
                  · refine xt_aload_n _ dX12_findRungs_75 rfl ?_
                    refine xt_getr _ dX12_findRungs_76 kfX12_65 (by first | exact sh152 | rfl | assumption) rfl ?_
                    refine xt_iload_n _ dX12_findRungs_79 rfl ?_
                    refine xt_ald dX12_findRungs_80 (by first | exact sh152 | rfl | assumption) (by exact vp_in_nI (by omega) (by decide)) ?_
                    refine xt_iconst (1) dX12_findRungs_81 (by decide) ?_
                    refine xt_aload_n _ dX12_findRungs_82 rfl ?_
                    refine xt_getr _ dX12_findRungs_83 kfX12_65 (by first | exact sh152 | rfl | assumption) rfl ?_
                    refine xt_iload_n _ dX12_findRungs_86 rfl ?_
                    refine xt_ald dX12_findRungs_87 (by first | exact sh152 | rfl | assumption) (by exact vp_in_nI (by omega) (by decide)) ?_
                    refine xt_iadd dX12_findRungs_88 ?_
                    rw [nI_clamp (by omega), nI_clamp (by omega), hv5 a (by omega), hv5 b (by omega), show (1 : Int32) + nI (v b) = nI (1 + v b) from nI_add 1 (v b)]
                    refine xt_cS _ dX12_findRungs_89 klX12_153 (tX12_greater sc _ μ5 _ _ _) rfl rfl (Nat.le_of_ble_eq_true rfl) ?_
                    rw [s_gr_nI (by omega) (by omega)]
                    refine xt_goto 101 dX12_findRungs_92 (by decide) ?_
                    refine xt_ast dX12_findRungs_101 (by first | exact sh152 | rfl | assumption) (by exact vp_in_nI (by omega) (by decide)) ?_
                    refine xt_inc _ (1) dX12_findRungs_102 rfl (by decide) (by decide) rfl ?_
                    change x_T _ _ _ _ [_, _, _, _] _ _ _ _
                    refine xt_goto 53 dX12_findRungs_105 (by decide) ?_
                    have hy := s_if1 f72
                    refine x_T.ls ?_ (ih53 (b + 1) _ (s_up v a (max (v a) (1 + v b))) (fun g hg => ?_) (s_rv_up hR5 hlt_a hlt_b hy) (fun b2 h2 hr => ?_) (fun c hc => by rw [x_u_ne hc]; exact hf5 c hc) (by omega))
                    · rw [nI_succ b]
                    · rw [x_u_eq, nI_clamp (by omega)]
                      by_cases he : g = a
                      · rw [he, pk_us, s_up_s]
                      · rw [pk_un he, s_up_n he]; exact hv5 g hg
                    · rw [s_up_s, s_up_n (s_rn_ne hr)]
                      by_cases he : b2 = b
                      · rw [he]; omega
                      · have := hQ b2 (by omega) hr; omega
              exact L53 (F 4) 0 μ4 v hv4 hR4 (fun b h => absurd h (by omega)) hf4 (by omega)
          exact L43 (F 4) 0 μ3 _ v hv3 hR3 hf3 (by omega)
      exact L35 8 0 μ2 _ _ (fun g => if g < F 4 then 1 else 0) hv s_rv_0 hf (by omega)
    | succ n2 ih2 =>
      intro m μ2 hv hf hmn
      have hlt : m < 8 := by omega
      refine xt_iload_n _ dX12_findRungs_2 rfl ?_
      refine xt_bipush (8) dX12_findRungs_3 (by decide) ?_
      refine xt_icmp_ge 33 dX12_findRungs_5 (by decide) (fun q => absurd q (nI_ge (b := 8) hlt (by decide))) (fun _ => ?_)
      refine xt_aload_n _ dX12_findRungs_8 rfl ?_
      refine xt_getr _ dX12_findRungs_9 kfX12_65 (by first | exact sh152 | rfl | assumption) rfl ?_
      refine xt_iload_n _ dX12_findRungs_12 rfl ?_
      refine xt_iload_n _ dX12_findRungs_13 rfl ?_
      refine xt_aload_n _ dX12_findRungs_14 rfl ?_
      refine xt_geti dX12_findRungs_15 kfX12_251 (by first | exact sh152 | rfl | assumption) rfl ?_
      refine xt_icmp_ge 25 dX12_findRungs_18 (by decide) (fun t18 => ?_) (fun f18 => ?_)
      · refine xt_iconst (0) dX12_findRungs_25 (by decide) ?_
        refine xt_ast dX12_findRungs_26 (by first | exact sh152 | rfl | assumption) (by exact vp_in_nI (by omega) (by decide)) ?_
        refine xt_inc _ (1) dX12_findRungs_27 rfl (by decide) (by decide) rfl ?_
        change x_T _ _ _ _ [_, _, _, _] _ _ _ _
        refine xt_goto 2 dX12_findRungs_30 (by decide) ?_
        refine x_T.ls (by rw [nI_succ m]) (ih2 (m + 1) _ (fun i hi => ?_) (fun a ha => by rw [x_u_ne ha]; exact hf a ha) (by omega))
        rw [hf 152 (by decide), e4, nI_leI (by omega) (by omega)] at t18
        rw [x_u_eq, nI_clamp (by omega)]
        by_cases he : i = m
        · rw [he, pk_us, if_neg (by omega)]; rfl
        · rw [pk_un he]; exact hv i (by omega)
      · refine xt_iconst (1) dX12_findRungs_21 (by decide) ?_
        refine xt_goto 26 dX12_findRungs_22 (by decide) ?_
        refine xt_ast dX12_findRungs_26 (by first | exact sh152 | rfl | assumption) (by exact vp_in_nI (by omega) (by decide)) ?_
        refine xt_inc _ (1) dX12_findRungs_27 rfl (by decide) (by decide) rfl ?_
        change x_T _ _ _ _ [_, _, _, _] _ _ _ _
        refine xt_goto 2 dX12_findRungs_30 (by decide) ?_
        refine x_T.ls (by rw [nI_succ m]) (ih2 (m + 1) _ (fun i hi => ?_) (fun a ha => by rw [x_u_ne ha]; exact hf a ha) (by omega))
        rw [hf 152 (by decide), e4, nI_leI (by omega) (by omega)] at f18
        rw [x_u_eq, nI_clamp (by omega)]
        by_cases he : i = m
        · rw [he, pk_us, if_pos (by omega)]; rfl
        · rw [pk_un he]; exact hv i (by omega)
  exact L2 (8) 0 μ (fun i hi => absurd hi (by omega)) (fun _ _ => rfl) (by omega)
end LADDERM
set_option maxHeartbeats 4000000 in
theorem st_ladder (sc : Nat × (Nat → Int32)) (a1 a2 : Int32) : x_stI sc (fun μ _ => x_Inv μ) (fun μ _ => x_Inv μ) mX11_ladder mX12_ladder [.int a1, .int a2] := by
  refine x_stF (-1) ?_ ?_ ?_
  · intro μ w c hc e hk
    refine x_K.of (by decide) (Nat.le_of_ble_eq_true rfl) ?_
    show x_T sc 29 mX11_ladder 0 [.ref 0, .int a1, .int a2, .retAddr 0] [] μ w _
    refine xt_aload_n _ dX11_ladder_0 rfl ?_
    refine xt_iload_n _ dX11_ladder_1 rfl ?_
    refine xt_cV _ dX11_ladder_2 klX11_90 (tX11_fairOf_no sc _ μ w c hc e _ hk) sh0 rfl rfl (Nat.le_of_ble_eq_true rfl) ?_
    refine xt_astore_n0 dX11_ladder_5 (by decide) rfl ?_
    change x_T _ _ _ _ [_, _, _, _] _ _ _ _
    refine xt_aload_n0 dX11_ladder_6 rfl ?_
    refine xt_ifnonnull_n dX11_ladder_7 ?_
    refine xt_iconst (-1) dX11_ladder_10 (by decide) ?_
    exact xt_iret .int dX11_ladder_11 rfl (by first | rfl | assumption) ⟨rfl, x_keep.rf μ⟩
  · intro μ w c hc e hk
    refine x_K.of (by decide) (Nat.le_of_ble_eq_true rfl) ?_
    show x_T sc 29 mX12_ladder 0 [.ref 152, .int a1, .int a2, .retAddr 0, .retAddr 0, .retAddr 0, .retAddr 0] [] μ w _
    refine xt_aload_n _ dX12_ladder_0 rfl ?_
    refine xt_iconst (0) dX12_ladder_1 (by decide) ?_
    refine xt_puti dX12_ladder_2 kpX12_72 (by first | exact sh152 | rfl | assumption) rfl (by first | rfl | assumption) (by first | rfl | assumption) ?_
    refine xt_aload_n _ dX12_ladder_5 rfl ?_
    refine xt_iload_n _ dX12_ladder_6 rfl ?_
    refine xt_cV _ dX12_ladder_7 klX12_300 (tX12_hand_no sc _ (x_u μ 152 (upd (μ 152) 0 0)) w c hc e _ hk) sh152 rfl rfl (Nat.le_of_ble_eq_true rfl) ?_
    refine xt_if_ne 15 dX12_ladder_10 (by decide) (fun q => absurd (by decide) q) (fun _ => ?_)
    refine xt_iconst (-1) dX12_ladder_13 (by decide) ?_
    exact xt_iret .int dX12_ladder_14 rfl (by first | rfl | assumption) ⟨rfl, (x_keep.u (x_keep.rf μ) (by unfold x_ok; omega))⟩
  · intro f F hf2 hkk hW
    subst hkk
    have h8 : F 4 ≤ 8 := hW.1.2.2.2.2.1
    have hM8 : s_M F ≤ F 4 := s_M_le
    by_cases hm1 : a2 = -1
    · subst hm1
      refine ⟨nI (s_M F), ?_, ?_⟩
      · intro μ w c hf hc e hC
        have hS := f_Sf hf2
        refine x_K.of (by decide) (Nat.le_of_ble_eq_true rfl) ?_
        show x_T sc 29 mX11_ladder 0 [.ref 0, .int (nI f), .int (-1), .retAddr 0] [] μ w _
        refine xt_aload_n _ dX11_ladder_0 rfl ?_
        refine xt_iload_n _ dX11_ladder_1 rfl ?_
        refine xt_cV _ dX11_ladder_2 klX11_90 (tX11_fairOf sc _ μ w f c hf hc e) sh0 rfl rfl (Nat.le_of_ble_eq_true rfl) ?_
        refine xt_astore_n dX11_ladder_5 (by decide) rfl ?_
        change x_T _ _ _ _ [_, _, _, _] _ _ _ _
        refine xt_aload_n _ dX11_ladder_6 rfl ?_
        refine xt_ifnonnull_r 12 dX11_ladder_7 (by decide) ?_
        refine xt_aload_n _ dX11_ladder_12 rfl ?_
        refine xt_getr _ dX11_ladder_13 kfX11_48 (by first | exact sh0 | exact sh1 | exact sh144 | exact hS.1 | rfl | assumption) rfl ?_
        refine xt_aload_n _ dX11_ladder_16 rfl ?_
        refine xt_callV _ dX11_ladder_17 klX11_281 (tX3_climb sc _ μ w (7 + 11 * f) F hS (by omega) hW hC) sh144 rfl rfl (Nat.le_of_ble_eq_true rfl) (fun r2 μ2 w2 q2 => ?_)
        obtain ⟨rfl, h5, hR, hfr2⟩ := q2
        change x_T _ _ _ _ _ _ _ _ _
        refine xt_iload_n _ dX11_ladder_20 rfl ?_
        refine xt_iconst (-1) dX11_ladder_21 (by decide) ?_
        refine xt_icmp_ne 35 dX11_ladder_22 (by decide) (fun q => absurd (by decide) q) (fun _ => ?_)
        refine xt_aload_n _ dX11_ladder_25 rfl ?_
        refine xt_getr _ dX11_ladder_26 kfX11_48 (by first | exact sh0 | exact sh1 | exact sh144 | exact hS.1 | rfl | assumption) rfl ?_
        refine xt_geti dX11_ladder_29 kfX11_285 (by first | exact sh0 | exact sh1 | exact sh144 | exact hS.1 | rfl | assumption) rfl ?_
        refine xt_goto 43 dX11_ladder_32 (by decide) ?_
        exact xt_iret .int dX11_ladder_43 rfl (by first | rfl | assumption) ⟨by rw [h5], (fun a ha => hfr2 a (by unfold x_ok at ha; omega))⟩
      · intro μ w c hf hc e hF
        refine x_K.of (by decide) (Nat.le_of_ble_eq_true rfl) ?_
        show x_T sc 29 mX12_ladder 0 [.ref 152, .int (nI f), .int (-1), .retAddr 0, .retAddr 0, .retAddr 0, .retAddr 0] [] μ w _
        refine xt_aload_n _ dX12_ladder_0 rfl ?_
        refine xt_iconst (0) dX12_ladder_1 (by decide) ?_
        refine xt_puti dX12_ladder_2 kpX12_72 (by first | exact sh152 | rfl | assumption) rfl (by first | rfl | assumption) (by first | rfl | assumption) ?_
        refine xt_aload_n _ dX12_ladder_5 rfl ?_
        refine xt_iload_n _ dX12_ladder_6 rfl ?_
        refine xt_callV _ dX12_ladder_7 klX12_300 (tX12_hand sc _ (x_u μ 152 (upd (μ 152) 0 0)) w f c F hf hc e hF) sh152 rfl rfl (Nat.le_of_ble_eq_true rfl) (fun r1 μ1 w1 q1 => ?_)
        obtain ⟨rfl, rfl, hS, h0, hfr⟩ := q1
        change x_T _ _ _ _ _ (.int 1 :: _) _ _ _
        have e4 : μ1 152 24 = nI (F 4) := hS.1.2.2.2.1
        refine xt_if_ne 15 dX12_ladder_10 (by decide) (fun _ => ?_) (fun q => absurd q (by decide))
        refine xt_aload_n _ dX12_ladder_15 rfl ?_
        refine xt_callV _ dX12_ladder_16 klX12_532 (tX12_findRungs sc _ μ1 _ f F hS hW) sh152 rfl rfl (Nat.le_of_ble_eq_true rfl) (fun r2 μ2 w2 q2 => ?_)
        obtain ⟨rfl, hv, hfr2⟩ := q2
        change x_T _ _ _ _ _ _ _ _ _
        refine xt_iconst (0) dX12_ladder_19 (by decide) ?_
        refine xt_istore_n dX12_ladder_20 (by decide) rfl ?_
        change x_T _ _ _ _ [_, _, _, _, _, _, _] _ _ _ _
        refine xt_iconst (0) dX12_ladder_21 (by decide) ?_
        refine xt_istore dX12_ladder_22 (by decide) rfl ?_
        change x_T _ _ _ _ [_, _, _, _, _, _, _] _ _ _ _
        have L24 : ∀ (n24 g : Nat) , g + n24 = F 4 → x_T sc 29 mX12_ladder 24 [.ref 152, .int (nI f), .int (-1), .int (nI (s_mxr (s_H F) g)), .int (nI g), .retAddr 0, .retAddr 0] [] μ2 w2 (fun r μ' _ => r = some (.int (nI (s_M F))) ∧ x_keep μ μ') := by
          intro n24
          induction n24 with
          | zero =>
            intro g  hmn
            obtain rfl : F 4 = g := by omega
            rw [show s_mxr (s_H F) (F 4) = s_M F from rfl]
            refine xt_iload _ dX12_ladder_24 rfl ?_
            refine xt_aload_n _ dX12_ladder_26 rfl ?_
            refine xt_geti dX12_ladder_27 kfX12_251 (by first | exact sh152 | rfl | assumption) rfl ?_
            refine xt_icmp_ge 51 dX12_ladder_30 (by decide) (fun _ => ?_) (fun q => absurd (by rw [hfr2 152 (by decide), e4]; exact Int32.le_refl _) q)
            refine xt_iload_n _ dX12_ladder_51 rfl ?_
            refine xt_iconst (-1) dX12_ladder_52 (by decide) ?_
            refine xt_icmp_eq 67 dX12_ladder_53 (by decide) (fun _ => ?_) (fun q => absurd (by decide) q)
            refine xt_iload_n _ dX12_ladder_67 rfl ?_
            refine xt_iconst (-1) dX12_ladder_68 (by decide) ?_
            refine xt_icmp_ne 76 dX12_ladder_69 (by decide) (fun q => absurd (by decide) q) (fun _ => ?_)
            refine xt_iload_n _ dX12_ladder_72 rfl ?_
            refine xt_goto 77 dX12_ladder_73 (by decide) ?_
            exact xt_iret .int dX12_ladder_77 rfl (by first | rfl | assumption) ⟨rfl, (x_keep.tr (x_keep.hand hfr) (fun a ha => hfr2 a (by unfold x_ok at ha; omega)))⟩
          | succ n24 ih24 =>
            intro g  hmn
            have hlt_g : g < F 4 := by omega
            have hm1 : s_mxr (s_H F) g ≤ F 4 := s_mxr_bd (fun _ _ => s_H_le)
            have hm2 : s_H F g ≤ F 4 := s_H_le
            refine xt_iload _ dX12_ladder_24 rfl ?_
            refine xt_aload_n _ dX12_ladder_26 rfl ?_
            refine xt_geti dX12_ladder_27 kfX12_251 (by first | exact sh152 | rfl | assumption) rfl ?_
            refine xt_icmp_ge 51 dX12_ladder_30 (by decide) (fun q => absurd q (by rw [hfr2 152 (by decide), e4]; exact nI_ge hlt_g (by omega))) (fun _ => ?_)
            refine xt_iload_n _ dX12_ladder_33 rfl ?_
            refine xt_aload_n _ dX12_ladder_34 rfl ?_
            refine xt_getr _ dX12_ladder_35 kfX12_65 (by first | exact sh152 | rfl | assumption) rfl ?_
            refine xt_iload _ dX12_ladder_38 rfl ?_
            refine xt_ald dX12_ladder_40 (by first | exact sh152 | rfl | assumption) (by exact vp_in_nI (by omega) (by decide)) ?_
            rw [nI_clamp (by omega), hv _ (by omega), if_pos hlt_g]
            refine xt_cS _ dX12_ladder_41 klX12_153 (tX12_greater sc _ μ2 _ _ _) rfl rfl (Nat.le_of_ble_eq_true rfl) ?_
            rw [s_gr_nI (by omega) (by omega)]
            refine xt_istore_n dX12_ladder_44 (by decide) rfl ?_
            change x_T _ _ _ _ [_, _, _, _, _, _, _] _ _ _ _
            refine xt_inc _ (1) dX12_ladder_45 rfl (by decide) (by decide) rfl ?_
            change x_T _ _ _ _ [_, _, _, _, _, _, _] _ _ _ _
            refine xt_goto 24 dX12_ladder_48 (by decide) ?_
            refine x_T.ls ?_ (ih24 (g + 1) (by omega))
            rw [nI_succ g]; rfl
        exact L24 (F 4) 0  (by omega)
    · by_cases hw : 0 ≤ a2 ∧ a2 < nI (s_M F)
      · obtain ⟨j, hj31, rfl⟩ := nI_of (Int32.not_lt.mpr hw.1)
        have hj : j < s_M F := (nI_ltI hj31 (by omega)).mp hw.2
        refine ⟨nI (s_rg F j), ?_, ?_⟩
        · intro μ w c hf hc e hC
          have hS := f_Sf hf2
          refine x_K.of (by decide) (Nat.le_of_ble_eq_true rfl) ?_
          show x_T sc 29 mX11_ladder 0 [.ref 0, .int (nI f), .int (nI j), .retAddr 0] [] μ w _
          refine xt_aload_n _ dX11_ladder_0 rfl ?_
          refine xt_iload_n _ dX11_ladder_1 rfl ?_
          refine xt_cV _ dX11_ladder_2 klX11_90 (tX11_fairOf sc _ μ w f c hf hc e) sh0 rfl rfl (Nat.le_of_ble_eq_true rfl) ?_
          refine xt_astore_n dX11_ladder_5 (by decide) rfl ?_
          change x_T _ _ _ _ [_, _, _, _] _ _ _ _
          refine xt_aload_n _ dX11_ladder_6 rfl ?_
          refine xt_ifnonnull_r 12 dX11_ladder_7 (by decide) ?_
          refine xt_aload_n _ dX11_ladder_12 rfl ?_
          refine xt_getr _ dX11_ladder_13 kfX11_48 (by first | exact sh0 | exact sh1 | exact sh144 | exact hS.1 | rfl | assumption) rfl ?_
          refine xt_aload_n _ dX11_ladder_16 rfl ?_
          refine xt_callV _ dX11_ladder_17 klX11_281 (tX3_climb sc _ μ w (7 + 11 * f) F hS (by omega) hW hC) sh144 rfl rfl (Nat.le_of_ble_eq_true rfl) (fun r2 μ2 w2 q2 => ?_)
          obtain ⟨rfl, h5, hR, hfr2⟩ := q2
          change x_T _ _ _ _ _ _ _ _ _
          refine xt_iload_n _ dX11_ladder_20 rfl ?_
          refine xt_iconst (-1) dX11_ladder_21 (by decide) ?_
          refine xt_icmp_ne 35 dX11_ladder_22 (by decide) (fun _ => ?_) (fun q => absurd q (fun z => absurd ((eI_m1 (a := j + 1) (by omega)).mp ((eI_s j).trans z)) (by omega)))
          refine xt_aload_n _ dX11_ladder_35 rfl ?_
          refine xt_getr _ dX11_ladder_36 kfX11_48 (by first | exact sh0 | exact sh1 | exact sh144 | exact hS.1 | rfl | assumption) rfl ?_
          refine xt_iload_n _ dX11_ladder_39 rfl ?_
          refine xt_cV _ dX11_ladder_40 klX11_288 (tX3_rungAt sc _ μ2 w2 (s_M F) (s_rg F) (by omega) h5 hR _) sh144 rfl rfl (Nat.le_of_ble_eq_true rfl) ?_
          exact xt_iret .int dX11_ladder_43 rfl (by first | rfl | assumption) ⟨by rw [if_pos ⟨Int32.not_lt.mp (nI_pos (by omega)), nI_lt hj (by omega)⟩, nI_clamp (by omega)], (fun a ha => hfr2 a (by unfold x_ok at ha; omega))⟩
        · intro μ w c hf hc e hF
          refine x_K.of (by decide) (Nat.le_of_ble_eq_true rfl) ?_
          show x_T sc 29 mX12_ladder 0 [.ref 152, .int (nI f), .int (nI j), .retAddr 0, .retAddr 0, .retAddr 0, .retAddr 0] [] μ w _
          refine xt_aload_n _ dX12_ladder_0 rfl ?_
          refine xt_iconst (0) dX12_ladder_1 (by decide) ?_
          refine xt_puti dX12_ladder_2 kpX12_72 (by first | exact sh152 | rfl | assumption) rfl (by first | rfl | assumption) (by first | rfl | assumption) ?_
          refine xt_aload_n _ dX12_ladder_5 rfl ?_
          refine xt_iload_n _ dX12_ladder_6 rfl ?_
          refine xt_callV _ dX12_ladder_7 klX12_300 (tX12_hand sc _ (x_u μ 152 (upd (μ 152) 0 0)) w f c F hf hc e hF) sh152 rfl rfl (Nat.le_of_ble_eq_true rfl) (fun r1 μ1 w1 q1 => ?_)
          obtain ⟨rfl, rfl, hS, h0, hfr⟩ := q1
          change x_T _ _ _ _ _ (.int 1 :: _) _ _ _
          have e4 : μ1 152 24 = nI (F 4) := hS.1.2.2.2.1
          refine xt_if_ne 15 dX12_ladder_10 (by decide) (fun _ => ?_) (fun q => absurd q (by decide))
          refine xt_aload_n _ dX12_ladder_15 rfl ?_
          refine xt_callV _ dX12_ladder_16 klX12_532 (tX12_findRungs sc _ μ1 _ f F hS hW) sh152 rfl rfl (Nat.le_of_ble_eq_true rfl) (fun r2 μ2 w2 q2 => ?_)
          obtain ⟨rfl, hv, hfr2⟩ := q2
          change x_T _ _ _ _ _ _ _ _ _
          refine xt_iconst (0) dX12_ladder_19 (by decide) ?_
          refine xt_istore_n dX12_ladder_20 (by decide) rfl ?_
          change x_T _ _ _ _ [_, _, _, _, _, _, _] _ _ _ _
          refine xt_iconst (0) dX12_ladder_21 (by decide) ?_
          refine xt_istore dX12_ladder_22 (by decide) rfl ?_
          change x_T _ _ _ _ [_, _, _, _, _, _, _] _ _ _ _
          have L24 : ∀ (n24 g : Nat) , g + n24 = F 4 → x_T sc 29 mX12_ladder 24 [.ref 152, .int (nI f), .int (nI j), .int (nI (s_mxr (s_H F) g)), .int (nI g), .retAddr 0, .retAddr 0] [] μ2 w2 (fun r μ' _ => r = some (.int (nI (s_rg F j))) ∧ x_keep μ μ') := by
            intro n24
            induction n24 with
            | zero =>
              intro g  hmn
              obtain rfl : F 4 = g := by omega
              rw [show s_mxr (s_H F) (F 4) = s_M F from rfl]
              refine xt_iload _ dX12_ladder_24 rfl ?_
              refine xt_aload_n _ dX12_ladder_26 rfl ?_
              refine xt_geti dX12_ladder_27 kfX12_251 (by first | exact sh152 | rfl | assumption) rfl ?_
              refine xt_icmp_ge 51 dX12_ladder_30 (by decide) (fun _ => ?_) (fun q => absurd (by rw [hfr2 152 (by decide), e4]; exact Int32.le_refl _) q)
              refine xt_iload_n _ dX12_ladder_51 rfl ?_
              refine xt_iconst (-1) dX12_ladder_52 (by decide) ?_
              refine xt_icmp_eq 67 dX12_ladder_53 (by decide) (fun q => absurd q (fun z => absurd ((eI_m1 (a := j + 1) (by omega)).mp ((eI_s j).trans z)) (by omega))) (fun _ => ?_)
              refine xt_iload_n _ dX12_ladder_56 rfl ?_
              refine xt_iconst (0) dX12_ladder_57 (by decide) ?_
              refine xt_iload_n _ dX12_ladder_58 rfl ?_
              refine xt_iconst (1) dX12_ladder_59 (by decide) ?_
              refine xt_isub dX12_ladder_60 ?_
              refine xt_cS _ dX12_ladder_61 klX12_84 (tX12_in sc _ _ _ _ _ _) rfl rfl (Nat.le_of_ble_eq_true rfl) ?_
              refine xt_if_ne 78 dX12_ladder_64 (by decide) (fun _ => ?_) (fun q => absurd q (by rw [s_in_has (by omega), if_neg (nI_pos (by omega)), if_pos (nI_lt hj (by omega))]; decide))
              refine xt_iconst (-1) dX12_ladder_78 (by decide) ?_
              refine xt_istore dX12_ladder_79 (by decide) rfl ?_
              change x_T _ _ _ _ [_, _, _, _, _, _, _] _ _ _ _
              refine xt_iconst (0) dX12_ladder_81 (by decide) ?_
              refine xt_istore dX12_ladder_82 (by decide) rfl ?_
              change x_T _ _ _ _ [_, _, _, _, _, _, _] _ _ _ _
              have L84 : ∀ (n84 i : Nat) (v6 : Value), i + n84 = j + 1 → x_T sc 29 mX12_ladder 84 [.ref 152, .int (nI f), .int (nI j), .int (nI (s_M F)), .int (eI (s_pw F i)), .int (nI i), v6] [] μ2 w2 (fun r μ' _ => r = some (.int (nI (s_rg F j))) ∧ x_keep μ μ') := by
                intro n84
                induction n84 with
                | zero =>
                  intro i v6 hmn
                  obtain rfl : j + 1 = i := by omega
                  refine xt_iload _ dX12_ladder_84 rfl ?_
                  refine xt_iload_n _ dX12_ladder_86 rfl ?_
                  refine xt_icmp_gt 140 dX12_ladder_87 (by decide) (fun _ => ?_) (fun q => absurd (nI_lt (by omega) (by omega)) q)
                  refine xt_iload _ dX12_ladder_140 rfl ?_
                  exact xt_iret .int dX12_ladder_142 rfl (by first | rfl | assumption) ⟨by show some (Value.int (eI (s_rg F j + 1))) = _; rw [eI_s], (x_keep.tr (x_keep.hand hfr) (fun a ha => hfr2 a (by unfold x_ok at ha; omega)))⟩
                | succ n84 ih84 =>
                  intro i v6 hmn
                  have hlt_i : i < j + 1 := by omega
                  have hiM : i < s_M F := by omega
                  have hr4 : s_rg F i < F 4 := (s_rg_ok hiM).1.1
                  refine xt_iload _ dX12_ladder_84 rfl ?_
                  refine xt_iload_n _ dX12_ladder_86 rfl ?_
                  refine xt_icmp_gt 140 dX12_ladder_87 (by decide) (fun q => absurd q (Int32.not_lt.mpr (nI_le (by omega) (by omega)))) (fun _ => ?_)
                  refine xt_iconst (0) dX12_ladder_90 (by decide) ?_
                  refine xt_istore dX12_ladder_91 (by decide) rfl ?_
                  change x_T _ _ _ _ [_, _, _, _, _, _, _] _ _ _ _
                  have L93 : ∀ (n93 e : Nat) , e + n93 = s_rg F i → x_T sc 29 mX12_ladder 93 [.ref 152, .int (nI f), .int (nI j), .int (nI (s_M F)), .int (eI (s_pw F i)), .int (nI i), .int (nI e)] [] μ2 w2 (fun r μ' _ => r = some (.int (nI (s_rg F j))) ∧ x_keep μ μ') := by
                    intro n93
                    induction n93 with
                    | zero =>
                      intro e  hmn
                      obtain rfl : s_rg F i = e := by omega
                      refine xt_aload_n _ dX12_ladder_93 rfl ?_
                      refine xt_getr _ dX12_ladder_94 kfX12_65 (by first | exact sh152 | rfl | assumption) rfl ?_
                      refine xt_iload _ dX12_ladder_97 rfl ?_
                      refine xt_ald dX12_ladder_99 (by first | exact sh152 | rfl | assumption) (by exact vp_in_nI (by omega) (by decide)) ?_
                      refine xt_iload_n _ dX12_ladder_100 rfl ?_
                      refine xt_iload _ dX12_ladder_101 rfl ?_
                      refine xt_isub dX12_ladder_103 ?_
                      rw [nI_clamp (by omega), hv _ (by omega), if_pos (by omega), pk_sub (a := s_M F) (b := i) (by omega)]
                      refine xt_icmp_ne 124 dX12_ladder_104 (by decide) (fun q => absurd (by rw [(s_rg_ok hiM).1.2.2]) q) (fun _ => ?_)
                      refine xt_iload _ dX12_ladder_107 rfl ?_
                      refine xt_iconst (-1) dX12_ladder_109 (by decide) ?_
                      refine xt_icmp_eq 130 dX12_ladder_110 (by decide) (fun t110 => ?_) (fun f110 => ?_)
                      · refine xt_iload _ dX12_ladder_130 rfl ?_
                        refine xt_istore dX12_ladder_132 (by decide) rfl ?_
                        change x_T _ _ _ _ [_, _, _, _, _, _, _] _ _ _ _
                        refine xt_inc _ (1) dX12_ladder_134 rfl (by decide) (by decide) rfl ?_
                        change x_T _ _ _ _ [_, _, _, _, _, _, _] _ _ _ _
                        refine xt_goto 84 dX12_ladder_137 (by decide) ?_
                        refine x_T.ls ?_ (ih84 (i + 1) (.int (nI (s_rg F i))) (by omega))
                        rw [show eI (s_pw F (i + 1)) = nI (s_rg F i) from eI_s _, nI_succ i]
                      · refine xt_aload_n _ dX12_ladder_113 rfl ?_
                        refine xt_iload _ dX12_ladder_114 rfl ?_
                        refine xt_iload _ dX12_ladder_116 rfl ?_
                        have hi0 : i ≠ 0 := fun z => f110 (by rw [z]; exact eI_0)
                        have hpv := s_pv_lt hi0 hiM
                        rw [s_pw_pv hi0]
                        refine xt_cV _ dX12_ladder_118 klX12_529 (tX12_isRung sc _ μ2 w2 F hW (fun i hi => by rw [hfr2 165 (by decide)]; exact hS.2.2.1 i hi) (s_pv F i) _ (by omega) (by omega)) sh152 rfl rfl (Nat.le_of_ble_eq_true rfl) ?_
                        refine xt_if_ne 130 dX12_ladder_121 (by decide) (fun _ => ?_) (fun q => absurd q (by rw [(s_rg_ok hiM).1.2.1 hi0]; decide))
                        refine xt_iload _ dX12_ladder_130 rfl ?_
                        refine xt_istore dX12_ladder_132 (by decide) rfl ?_
                        change x_T _ _ _ _ [_, _, _, _, _, _, _] _ _ _ _
                        refine xt_inc _ (1) dX12_ladder_134 rfl (by decide) (by decide) rfl ?_
                        change x_T _ _ _ _ [_, _, _, _, _, _, _] _ _ _ _
                        refine xt_goto 84 dX12_ladder_137 (by decide) ?_
                        refine x_T.ls ?_ (ih84 (i + 1) (.int (nI (s_rg F i))) (by omega))
                        rw [show eI (s_pw F (i + 1)) = nI (s_rg F i) from eI_s _, nI_succ i]
                    | succ n93 ih93 =>
                      intro e  hmn
                      have hlt_e : e < s_rg F i := by omega
                      refine xt_aload_n _ dX12_ladder_93 rfl ?_
                      refine xt_getr _ dX12_ladder_94 kfX12_65 (by first | exact sh152 | rfl | assumption) rfl ?_
                      refine xt_iload _ dX12_ladder_97 rfl ?_
                      refine xt_ald dX12_ladder_99 (by first | exact sh152 | rfl | assumption) (by exact vp_in_nI (by omega) (by decide)) ?_
                      refine xt_iload_n _ dX12_ladder_100 rfl ?_
                      refine xt_iload _ dX12_ladder_101 rfl ?_
                      refine xt_isub dX12_ladder_103 ?_
                      rw [nI_clamp (by omega), hv _ (by omega), if_pos (by omega), pk_sub (a := s_M F) (b := i) (by omega)]
                      refine xt_icmp_ne 124 dX12_ladder_104 (by decide) (fun t104 => ?_) (fun f104 => ?_)
                      · refine xt_inc _ (1) dX12_ladder_124 rfl (by decide) (by decide) rfl ?_
                        change x_T _ _ _ _ [_, _, _, _, _, _, _] _ _ _ _
                        refine xt_goto 93 dX12_ladder_127 (by decide) ?_
                        refine x_T.ls ?_ (ih93 (e + 1) (by omega))
                        rw [nI_succ e]
                      · refine xt_iload _ dX12_ladder_107 rfl ?_
                        have hHe : s_H F e ≤ F 4 := s_H_le
                        have hno := s_nofirst hiM hlt_e ((nI_eq (by omega) (by omega)).mp f104)
                        refine xt_iconst (-1) dX12_ladder_109 (by decide) ?_
                        refine xt_icmp_eq 130 dX12_ladder_110 (by decide) (fun q => absurd q (fun z => hno.1 (s_pw_m1 h8 hiM z))) (fun _ => ?_)
                        refine xt_aload_n _ dX12_ladder_113 rfl ?_
                        refine xt_iload _ dX12_ladder_114 rfl ?_
                        refine xt_iload _ dX12_ladder_116 rfl ?_
                        have hpv := s_pv_lt hno.1 hiM
                        rw [s_pw_pv hno.1]
                        refine xt_cV _ dX12_ladder_118 klX12_529 (tX12_isRung sc _ μ2 w2 F hW (fun i hi => by rw [hfr2 165 (by decide)]; exact hS.2.2.1 i hi) (s_pv F i) _ (by omega) (by omega)) sh152 rfl rfl (Nat.le_of_ble_eq_true rfl) ?_
                        refine xt_if_ne 130 dX12_ladder_121 (by decide) (fun q => absurd (by rw [hno.2]; rfl) q) (fun _ => ?_)
                        refine xt_inc _ (1) dX12_ladder_124 rfl (by decide) (by decide) rfl ?_
                        change x_T _ _ _ _ [_, _, _, _, _, _, _] _ _ _ _
                        refine xt_goto 93 dX12_ladder_127 (by decide) ?_
                        refine x_T.ls ?_ (ih93 (e + 1) (by omega))
                        rw [nI_succ e, s_pw_pv hno.1]
                  exact L93 (s_rg F i) 0 (by omega)
              refine x_T.ls ?_ (L84 (j + 1) 0 (.retAddr 0) (by omega))
              rw [show eI (s_pw F 0) = -1 from eI_0]; rfl
            | succ n24 ih24 =>
              intro g  hmn
              have hlt_g : g < F 4 := by omega
              have hm1 : s_mxr (s_H F) g ≤ F 4 := s_mxr_bd (fun _ _ => s_H_le)
              have hm2 : s_H F g ≤ F 4 := s_H_le
              refine xt_iload _ dX12_ladder_24 rfl ?_
              refine xt_aload_n _ dX12_ladder_26 rfl ?_
              refine xt_geti dX12_ladder_27 kfX12_251 (by first | exact sh152 | rfl | assumption) rfl ?_
              refine xt_icmp_ge 51 dX12_ladder_30 (by decide) (fun q => absurd q (by rw [hfr2 152 (by decide), e4]; exact nI_ge hlt_g (by omega))) (fun _ => ?_)
              refine xt_iload_n _ dX12_ladder_33 rfl ?_
              refine xt_aload_n _ dX12_ladder_34 rfl ?_
              refine xt_getr _ dX12_ladder_35 kfX12_65 (by first | exact sh152 | rfl | assumption) rfl ?_
              refine xt_iload _ dX12_ladder_38 rfl ?_
              refine xt_ald dX12_ladder_40 (by first | exact sh152 | rfl | assumption) (by exact vp_in_nI (by omega) (by decide)) ?_
              rw [nI_clamp (by omega), hv _ (by omega), if_pos hlt_g]
              refine xt_cS _ dX12_ladder_41 klX12_153 (tX12_greater sc _ μ2 _ _ _) rfl rfl (Nat.le_of_ble_eq_true rfl) ?_
              rw [s_gr_nI (by omega) (by omega)]
              refine xt_istore_n dX12_ladder_44 (by decide) rfl ?_
              change x_T _ _ _ _ [_, _, _, _, _, _, _] _ _ _ _
              refine xt_inc _ (1) dX12_ladder_45 rfl (by decide) (by decide) rfl ?_
              change x_T _ _ _ _ [_, _, _, _, _, _, _] _ _ _ _
              refine xt_goto 24 dX12_ladder_48 (by decide) ?_
              refine x_T.ls ?_ (ih24 (g + 1) (by omega))
              rw [nI_succ g]; rfl
          exact L24 (F 4) 0  (by omega)
      · skip
        refine ⟨-1, ?_, ?_⟩
        · intro μ w c hf hc e hC
          have hS := f_Sf hf2
          refine x_K.of (by decide) (Nat.le_of_ble_eq_true rfl) ?_
          show x_T sc 29 mX11_ladder 0 [.ref 0, .int (nI f), .int a2, .retAddr 0] [] μ w _
          refine xt_aload_n _ dX11_ladder_0 rfl ?_
          refine xt_iload_n _ dX11_ladder_1 rfl ?_
          refine xt_cV _ dX11_ladder_2 klX11_90 (tX11_fairOf sc _ μ w f c hf hc e) sh0 rfl rfl (Nat.le_of_ble_eq_true rfl) ?_
          refine xt_astore_n dX11_ladder_5 (by decide) rfl ?_
          change x_T _ _ _ _ [_, _, _, _] _ _ _ _
          refine xt_aload_n _ dX11_ladder_6 rfl ?_
          refine xt_ifnonnull_r 12 dX11_ladder_7 (by decide) ?_
          refine xt_aload_n _ dX11_ladder_12 rfl ?_
          refine xt_getr _ dX11_ladder_13 kfX11_48 (by first | exact sh0 | exact sh1 | exact sh144 | exact hS.1 | rfl | assumption) rfl ?_
          refine xt_aload_n _ dX11_ladder_16 rfl ?_
          refine xt_callV _ dX11_ladder_17 klX11_281 (tX3_climb sc _ μ w (7 + 11 * f) F hS (by omega) hW hC) sh144 rfl rfl (Nat.le_of_ble_eq_true rfl) (fun r2 μ2 w2 q2 => ?_)
          obtain ⟨rfl, h5, hR, hfr2⟩ := q2
          change x_T _ _ _ _ _ _ _ _ _
          refine xt_iload_n _ dX11_ladder_20 rfl ?_
          refine xt_iconst (-1) dX11_ladder_21 (by decide) ?_
          refine xt_icmp_ne 35 dX11_ladder_22 (by decide) (fun _ => ?_) (fun q => absurd q hm1)
          refine xt_aload_n _ dX11_ladder_35 rfl ?_
          refine xt_getr _ dX11_ladder_36 kfX11_48 (by first | exact sh0 | exact sh1 | exact sh144 | exact hS.1 | rfl | assumption) rfl ?_
          refine xt_iload_n _ dX11_ladder_39 rfl ?_
          refine xt_cV _ dX11_ladder_40 klX11_288 (tX3_rungAt sc _ μ2 w2 (s_M F) (s_rg F) (by omega) h5 hR _) sh144 rfl rfl (Nat.le_of_ble_eq_true rfl) ?_
          exact xt_iret .int dX11_ladder_43 rfl (by first | rfl | assumption) ⟨by rw [if_neg hw], (fun a ha => hfr2 a (by unfold x_ok at ha; omega))⟩
        · intro μ w c hf hc e hF
          refine x_K.of (by decide) (Nat.le_of_ble_eq_true rfl) ?_
          show x_T sc 29 mX12_ladder 0 [.ref 152, .int (nI f), .int a2, .retAddr 0, .retAddr 0, .retAddr 0, .retAddr 0] [] μ w _
          refine xt_aload_n _ dX12_ladder_0 rfl ?_
          refine xt_iconst (0) dX12_ladder_1 (by decide) ?_
          refine xt_puti dX12_ladder_2 kpX12_72 (by first | exact sh152 | rfl | assumption) rfl (by first | rfl | assumption) (by first | rfl | assumption) ?_
          refine xt_aload_n _ dX12_ladder_5 rfl ?_
          refine xt_iload_n _ dX12_ladder_6 rfl ?_
          refine xt_callV _ dX12_ladder_7 klX12_300 (tX12_hand sc _ (x_u μ 152 (upd (μ 152) 0 0)) w f c F hf hc e hF) sh152 rfl rfl (Nat.le_of_ble_eq_true rfl) (fun r1 μ1 w1 q1 => ?_)
          obtain ⟨rfl, rfl, hS, h0, hfr⟩ := q1
          change x_T _ _ _ _ _ (.int 1 :: _) _ _ _
          have e4 : μ1 152 24 = nI (F 4) := hS.1.2.2.2.1
          refine xt_if_ne 15 dX12_ladder_10 (by decide) (fun _ => ?_) (fun q => absurd q (by decide))
          refine xt_aload_n _ dX12_ladder_15 rfl ?_
          refine xt_callV _ dX12_ladder_16 klX12_532 (tX12_findRungs sc _ μ1 _ f F hS hW) sh152 rfl rfl (Nat.le_of_ble_eq_true rfl) (fun r2 μ2 w2 q2 => ?_)
          obtain ⟨rfl, hv, hfr2⟩ := q2
          change x_T _ _ _ _ _ _ _ _ _
          refine xt_iconst (0) dX12_ladder_19 (by decide) ?_
          refine xt_istore_n dX12_ladder_20 (by decide) rfl ?_
          change x_T _ _ _ _ [_, _, _, _, _, _, _] _ _ _ _
          refine xt_iconst (0) dX12_ladder_21 (by decide) ?_
          refine xt_istore dX12_ladder_22 (by decide) rfl ?_
          change x_T _ _ _ _ [_, _, _, _, _, _, _] _ _ _ _
          have L24 : ∀ (n24 g : Nat) , g + n24 = F 4 → x_T sc 29 mX12_ladder 24 [.ref 152, .int (nI f), .int a2, .int (nI (s_mxr (s_H F) g)), .int (nI g), .retAddr 0, .retAddr 0] [] μ2 w2 (fun r μ' _ => r = some (.int (-1)) ∧ x_keep μ μ') := by
            intro n24
            induction n24 with
            | zero =>
              intro g  hmn
              obtain rfl : F 4 = g := by omega
              rw [show s_mxr (s_H F) (F 4) = s_M F from rfl]
              refine xt_iload _ dX12_ladder_24 rfl ?_
              refine xt_aload_n _ dX12_ladder_26 rfl ?_
              refine xt_geti dX12_ladder_27 kfX12_251 (by first | exact sh152 | rfl | assumption) rfl ?_
              refine xt_icmp_ge 51 dX12_ladder_30 (by decide) (fun _ => ?_) (fun q => absurd (by rw [hfr2 152 (by decide), e4]; exact Int32.le_refl _) q)
              refine xt_iload_n _ dX12_ladder_51 rfl ?_
              refine xt_iconst (-1) dX12_ladder_52 (by decide) ?_
              refine xt_icmp_eq 67 dX12_ladder_53 (by decide) (fun q => absurd q hm1) (fun _ => ?_)
              refine xt_iload_n _ dX12_ladder_56 rfl ?_
              refine xt_iconst (0) dX12_ladder_57 (by decide) ?_
              refine xt_iload_n _ dX12_ladder_58 rfl ?_
              refine xt_iconst (1) dX12_ladder_59 (by decide) ?_
              refine xt_isub dX12_ladder_60 ?_
              refine xt_cS _ dX12_ladder_61 klX12_84 (tX12_in sc _ _ _ _ _ _) rfl rfl (Nat.le_of_ble_eq_true rfl) ?_
              refine xt_if_ne 78 dX12_ladder_64 (by decide) (fun q => absurd (s_in_hno (by omega) hw) q) (fun _ => ?_)
              refine xt_iload_n _ dX12_ladder_67 rfl ?_
              refine xt_iconst (-1) dX12_ladder_68 (by decide) ?_
              refine xt_icmp_ne 76 dX12_ladder_69 (by decide) (fun _ => ?_) (fun q => absurd q hm1)
              refine xt_iconst (-1) dX12_ladder_76 (by decide) ?_
              exact xt_iret .int dX12_ladder_77 rfl (by first | rfl | assumption) ⟨rfl, (x_keep.tr (x_keep.hand hfr) (fun a ha => hfr2 a (by unfold x_ok at ha; omega)))⟩
            | succ n24 ih24 =>
              intro g  hmn
              have hlt_g : g < F 4 := by omega
              have hm1 : s_mxr (s_H F) g ≤ F 4 := s_mxr_bd (fun _ _ => s_H_le)
              have hm2 : s_H F g ≤ F 4 := s_H_le
              refine xt_iload _ dX12_ladder_24 rfl ?_
              refine xt_aload_n _ dX12_ladder_26 rfl ?_
              refine xt_geti dX12_ladder_27 kfX12_251 (by first | exact sh152 | rfl | assumption) rfl ?_
              refine xt_icmp_ge 51 dX12_ladder_30 (by decide) (fun q => absurd q (by rw [hfr2 152 (by decide), e4]; exact nI_ge hlt_g (by omega))) (fun _ => ?_)
              refine xt_iload_n _ dX12_ladder_33 rfl ?_
              refine xt_aload_n _ dX12_ladder_34 rfl ?_
              refine xt_getr _ dX12_ladder_35 kfX12_65 (by first | exact sh152 | rfl | assumption) rfl ?_
              refine xt_iload _ dX12_ladder_38 rfl ?_
              refine xt_ald dX12_ladder_40 (by first | exact sh152 | rfl | assumption) (by exact vp_in_nI (by omega) (by decide)) ?_
              rw [nI_clamp (by omega), hv _ (by omega), if_pos hlt_g]
              refine xt_cS _ dX12_ladder_41 klX12_153 (tX12_greater sc _ μ2 _ _ _) rfl rfl (Nat.le_of_ble_eq_true rfl) ?_
              rw [s_gr_nI (by omega) (by omega)]
              refine xt_istore_n dX12_ladder_44 (by decide) rfl ?_
              change x_T _ _ _ _ [_, _, _, _, _, _, _] _ _ _ _
              refine xt_inc _ (1) dX12_ladder_45 rfl (by decide) (by decide) rfl ?_
              change x_T _ _ _ _ [_, _, _, _, _, _, _] _ _ _ _
              refine xt_goto 24 dX12_ladder_48 (by decide) ?_
              refine x_T.ls ?_ (ih24 (g + 1) (by omega))
              rw [nI_succ g]; rfl
          exact L24 (F 4) 0  (by omega)
