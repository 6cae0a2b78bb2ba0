/-! the step of centre -/
theorem x_out {a : Int32} {N : Nat} (hN : N < 2 ^ 31) (h : ¬ (0 ≤ a ∧ a ≤ nI N)) : a.toInt < 0 ∨ (N : Int) < a.toInt := by
  have h0 : (0 : Int32).toInt = 0 := by decide
  rw [Int32.le_iff_toInt_le, Int32.le_iff_toInt_le, h0, nI_toInt hN] at h
  omega
/-- the first of greatest v (one more; none: 0), and one more than that v -/
def s_ax (v : Nat → Nat) : Nat → Nat × Nat
  | 0 => (0, 0)
  | n + 1 => if (s_ax v n).2 ≤ v n then (n + 1, v n + 1) else s_ax v n
theorem s_ax_y {v : Nat → Nat} {n : Nat} (h : (s_ax v n).2 ≤ v n) : s_ax v (n + 1) = (n + 1, v n + 1) := by rw [s_ax, if_pos h]
theorem s_ax_n {v : Nat → Nat} {n : Nat} (h : ¬ (s_ax v n).2 ≤ v n) : s_ax v (n + 1) = s_ax v n := by rw [s_ax, if_neg h]
theorem s_ax_le {v : Nat → Nat} {c : Nat} : ∀ n, (∀ i, i < n → v i ≤ c) → (s_ax v n).2 ≤ c + 1 ∧ (s_ax v n).1 ≤ n
  | 0, _ => ⟨Nat.zero_le _, Nat.le_refl _⟩
  | n + 1, h => by
    have ih := s_ax_le (v := v) (c := c) n (fun i hi => h i (by omega))
    have := h n (by omega)
    rw [s_ax]; split
    · simp only; omega
    · omega
theorem s_ax_v {v : Nat → Nat} : ∀ n, (s_ax v n).1 ≠ 0 → (s_ax v n).2 = v ((s_ax v n).1 - 1) + 1
  | 0 => fun h => absurd rfl h
  | n + 1 => by
    have h := s_ax_v (v := v) n
    rw [s_ax]; split
    · intro _; rfl
    · exact h
theorem s_ax_1 {v : Nat → Nat} : ∀ n, (s_ax v (n + 1)).1 ≠ 0
  | 0 => by simp [s_ax]
  | n + 1 => by
    have := s_ax_1 (v := v) n
    rw [s_ax]; split
    · simp
    · exact this
theorem s_gr_eI {a b : Nat} (ha : a < 1000) (hb : b < 999) : s_gr (eI a) (nI b) = eI (max a (b + 1)) := by
  rw [← eI_max ha hb]
  unfold s_gr
  have e1 := eI_toInt ha
  have e2 : (nI b).toInt = (b : Int) := nI_toInt (by omega)
  by_cases h : eI a < nI b
  · rw [if_pos h, if_pos (Int32.le_of_lt h)]
  · rw [if_neg h]
    by_cases h2 : eI a ≤ nI b
    · rw [if_pos h2]; exact Int32.le_antisymm (Int32.not_lt.mp h) h2
    · rw [if_neg h2]
def s_al (p : Nat → Bool) : Nat → Bool
  | 0 => true
  | n + 1 => s_al p n && p n
theorem s_al_iff (p : Nat → Bool) : ∀ n, s_al p n = true ↔ ∀ i, i < n → p i = true
  | 0 => by simp [s_al]
  | n + 1 => by
    rw [s_al, Bool.and_eq_true, s_al_iff p n]
    constructor
    · rintro ⟨h1, h2⟩ i hi
      by_cases h : i = n
      · rw [h]; exact h2
      · exact h1 i (by omega)
    · intro h; exact ⟨fun i hi => h i (by omega), h n (by omega)⟩
theorem s_al_f {p : Nat → Bool} {n i : Nat} (hi : i < n) (h : p i = false) : s_al p n = false := by
  by_cases hq : s_al p n = true
  · rw [(s_al_iff p n).mp hq i hi] at h; exact absurd h (by decide)
  · simpa using hq
/-- all ways to a PLACE together -/
abbrev s_fa (F : Nat → Nat) (p : Nat) : Nat := s_sum (fun g => s_farG F g (p / 10) (p % 10)) (F 4)
theorem s_fa_le {F : Nat → Nat} (hW : f_W F) {p : Nat} (hp : p < 100) {n : Nat} (hn : n ≤ F 4) : s_sum (fun g => s_farG F g (p / 10) (p % 10)) n ≤ 144 := by
  have h8 := hW.1.2.2.2.2.1
  have := s_sum_le (f := fun g => s_farG F g (p / 10) (p % 10)) (c := 18) (n := n) (fun i hi => s_farG_le hW (by omega) (by omega) (by omega))
  omega
/-- are two GOERS twins -/
abbrev s_tq (F : Nat → Nat) (a b : Nat) : Bool := s_al (fun j => decide (F (41 + (6 * a + j)) = F (41 + (6 * b + j)))) 6
/-- has a as many WRONGS of each KIND as b -/
abbrev s_mt (F : Nat → Nat) (a b : Nat) : Bool := s_al (fun j => decide (F (41 + (6 * b + j)) ≤ F (41 + (6 * a + j)))) 6
theorem s_mt_tq (F : Nat → Nat) (a b : Nat) : (s_mt F a b && s_mt F b a) = s_tq F a b := by
  rw [Bool.eq_iff_iff, Bool.and_eq_true, s_al_iff, s_al_iff, s_al_iff]
  simp only [decide_eq_true_eq]
  constructor
  · rintro ⟨h1, h2⟩ i hi; have := h1 i hi; have := h2 i hi; omega
  · intro h; exact ⟨fun i hi => Nat.le_of_eq (h i hi).symm, fun i hi => Nat.le_of_eq (h i hi)⟩
theorem s_tq_comm (F : Nat → Nat) (a b : Nat) : s_tq F a b = s_tq F b a := by
  rw [Bool.eq_iff_iff, s_al_iff, s_al_iff]
  simp only [decide_eq_true_eq]
  exact ⟨fun h i hi => (h i hi).symm, fun h i hi => (h i hi).symm⟩
abbrev s_tc (F : Nat → Nat) (N n : Nat) : Nat := s_sum (fun a => s_cnt (fun b => decide (a < b) && s_tq F a b) N) n
abbrev s_tm (F : Nat → Nat) (n : Nat) : Nat := s_sum (fun a => s_cnt (fun b => s_tq F a b) a) n
theorem s_sum_cong {f g : Nat → Nat} : ∀ {n : Nat}, (∀ i, i < n → f i = g i) → s_sum f n = s_sum g n
  | 0, _ => rfl
  | n + 1, h => by rw [s_sum, s_sum, s_sum_cong (fun i hi => h i (by omega)), h n (by omega)]
theorem s_sum_add {f g : Nat → Nat} : ∀ {n : Nat}, s_sum (fun i => f i + g i) n = s_sum f n + s_sum g n
  | 0 => rfl
  | n + 1 => by rw [s_sum, s_sum, s_sum, s_sum_add (n := n)]; omega
theorem s_sum_cnt {p : Nat → Bool} : ∀ {n : Nat}, s_sum (fun i => if p i then 1 else 0) n = s_cnt p n
  | 0 => rfl
  | n + 1 => by rw [s_sum, s_cnt, s_sum_cnt (n := n)]
theorem s_tw (F : Nat → Nat) : ∀ n, s_tc F n n = s_tm F n
  | 0 => rfl
  | n + 1 => by
    have ih := s_tw F n
    have h0 : s_cnt (fun b => decide (n < b) && s_tq F n b) (n + 1) = 0 := (s_cnt_z _ _).mpr (fun i hi => by have : ¬ n < i := by omega
                                                                                                             simp [this])
    have h1 : s_sum (fun a => s_cnt (fun b => decide (a < b) && s_tq F a b) (n + 1)) n = s_tc F n n + s_cnt (fun a => s_tq F n a) n := by
      rw [← s_sum_cnt, ← s_sum_add]
      refine s_sum_cong (fun i hi => ?_)
      rw [s_cnt, s_tq_comm F n i]
      simp [hi]
    show s_sum (fun a => s_cnt (fun b => decide (a < b) && s_tq F a b) (n + 1)) n + s_cnt (fun b => decide (n < b) && s_tq F n b) (n + 1) = s_tm F n + s_cnt (fun b => s_tq F n b) n
    rw [h0, h1, ih, Nat.add_zero]
/-- from e on: the first that is so -/
def s_fst (q : Nat → Bool) : Nat → Nat → Nat
  | 0, e => e
  | r + 1, e => if q e then e else s_fst q r (e + 1)
theorem s_any_ear2 (G : Nat → Nat) (st : Nat → Bool) (h e g : Nat) : ∀ n, s_any G st h e g n = decide (s_farO G g + e < s_ear G st h g n)
  | 0 => by simp [s_any, s_ear]
  | n + 1 => by
    rw [s_any, s_any_ear2 G st h e g n, s_ear]
    by_cases h1 : st n = false
    · by_cases h2 : G (19 + n) + h ≤ G (41 + (6 * g + G (7 + n)))
      · rw [if_pos ⟨h1, h2⟩]
        simp only [h1, h2, decide_true, Bool.true_and, Bool.and_true]
        rw [← Bool.decide_or]
        congr 1
        apply propext
        omega
      · rw [if_neg (fun q => h2 q.2)]
        simp [h2]
    · rw [if_neg (fun q => h1 q.1)]
      simp [h1]
/-- nobody offends, LEAST more by e -/
abbrev s_pe (F : Nat → Nat) (e : Nat) : Bool := s_al (fun g => !s_off F (fun _ => false) e g) (F 4)
theorem s_pe_9 {F : Nat → Nat} (hW : f_W F) : s_pe F 9 = true := by
  rw [s_al_iff]
  intro g hg
  have h8 := hW.1.2.2.2.2.1
  have : ∀ n, n ≤ F 3 → s_ear F (fun _ => false) 9 g n = 0 := by
    intro n
    induction n with
    | zero => intro _; rfl
    | succ n ih =>
      intro hn
      have h1 := hW.2.1 n (by omega)
      have h2 := hW.2.2.2.1 (6 * g + F (7 + n)) (by omega)
      rw [s_ear, if_neg (fun q => by omega), ih (by omega)]
  rw [s_off, this (F 3) (Nat.le_refl _)]
  simp
theorem s_pe_bits (F : Nat → Nat) (e : Nat) : s_bits (fun g => s_any F (fun _ => false) e 0 g (F 3)) (F 4) = 0 ↔ s_pe F e = true := by
  rw [s_bits_z, s_al_iff]
  constructor
  · intro h g hg; have := h g hg; rw [s_any_ear] at this; rw [s_off, this]; rfl
  · intro h g hg; have := h g hg; rw [s_any_ear]; rw [s_off] at this; simpa using this
def s_mxx (v : Nat → Nat) : Nat → Nat
  | 0 => 0
  | n + 1 => max (s_mxx v n) (v n)
theorem s_mxx_ge (v : Nat → Nat) : ∀ n i, i < n → v i ≤ s_mxx v n
  | 0, _, h => absurd h (by omega)
  | n + 1, i, h => by
    have := s_mxx_ge v n
    rw [s_mxx]
    by_cases hi : i = n
    · subst hi; omega
    · have := this i (by omega); omega
theorem s_mxx_le {v : Nat → Nat} {c : Nat} : ∀ n, (∀ i, i < n → v i ≤ c) → s_mxx v n ≤ c
  | 0, _ => Nat.zero_le _
  | n + 1, h => by
    have := s_mxx_le (v := v) (c := c) n (fun i hi => h i (by omega))
    have := h n (by omega)
    rw [s_mxx]; omega
theorem s_dx : ∀ a, a < 20 → ∀ e, e < 20 → ∀ f, f < 19 → (if nI a < eI e - nI f + 1 then eI e - nI f + 1 else nI a) = nI (max a (e - f)) := by decide +kernel
abbrev s_df (F : Nat → Nat) : Nat → Nat := s_mxx (fun g => s_e F g - s_farO F g)
section CENTRE
variable (sc : Nat × (Nat → Int32)) (d : Nat) {μ : x_Me} (w : Int64) {k : Nat} {F : Nat → Nat}
set_option maxHeartbeats 1000000 in
theorem tX3_farToAll (hS : f_S k) (hC : f_C μ k F) (hW : f_W F) (p : Nat) (hp : p < 100) : x_K sc (d + 3) mX3_farToAll [.ref k, .int (nI p)] μ w (x_p (some (.int (nI (s_fa F p)))) μ w) := by
  have h8 : F 4 ≤ 8 := hW.1.2.2.2.2.1
  have e4 : μ k 4 = nI (F 4) := hC.1 4 (by decide)
  have hdv : nI p / (10 : Int32) = nI (p / 10) := pk_div (by omega) (by decide) (by decide)
  have hrm : nI p - nI p / (10 : Int32) * 10 = nI (p % 10) := pk_rem (d := 10) (by omega) (by decide) (by decide)
  refine x_K.of (by decide) (Nat.le_of_ble_eq_true rfl) ?_
  show x_T sc (d + 3) mX3_farToAll 0 [.ref k, .int (nI p), .retAddr 0, .retAddr 0] [] μ w _
  refine xt_iconst (0) dX3_farToAll_0 (by decide) ?_
  refine xt_istore_n dX3_farToAll_1 (by decide) rfl ?_
  change x_T _ _ _ _ [_, _, _, _] _ _ _ _
  refine xt_iconst (0) dX3_farToAll_2 (by decide) ?_
  refine xt_istore_n dX3_farToAll_3 (by decide) rfl ?_
  change x_T _ _ _ _ [_, _, _, _] _ _ _ _
  have L4 : ∀ (n4 m : Nat) , m + n4 = F 4 → x_T sc (d + 3) mX3_farToAll 4 [.ref k, .int (nI p), .int (nI (s_sum (fun g => s_farG F g (p / 10) (p % 10)) m)), .int (nI m)] [] μ w (x_p (some (.int (nI (s_fa F p)))) μ w) := by
    intro n4
    induction n4 with
    | zero =>
      intro m  hmn
      obtain rfl : F 4 = m := by omega
      refine xt_iload_n _ dX3_farToAll_4 rfl ?_
      refine xt_aload_n _ dX3_farToAll_5 rfl ?_
      refine xt_geti dX3_farToAll_6 kfX3_55 (by first | exact sh0 | exact hS.1 | exact sh150 | rfl | assumption) rfl ?_
      refine xt_icmp_ge 34 dX3_farToAll_9 (by decide) (fun _ => ?_) (fun q => absurd (by rw [e4]; exact Int32.le_refl _) q)
      refine xt_iload_n _ dX3_farToAll_34 rfl ?_
      exact xt_iret .int dX3_farToAll_35 rfl (by first | rfl | assumption) ⟨rfl, rfl, rfl⟩
    | succ n4 ih4 =>
      intro m  hmn
      have hlt : m < F 4 := by omega
      refine xt_iload_n _ dX3_farToAll_4 rfl ?_
      refine xt_aload_n _ dX3_farToAll_5 rfl ?_
      refine xt_geti dX3_farToAll_6 kfX3_55 (by first | exact sh0 | exact hS.1 | exact sh150 | rfl | assumption) rfl ?_
      refine xt_icmp_ge 34 dX3_farToAll_9 (by decide) (fun q => absurd q (by rw [e4]; exact nI_ge hlt (by omega))) (fun _ => ?_)
      refine xt_iload_n _ dX3_farToAll_12 rfl ?_
      refine xt_aload_n _ dX3_farToAll_13 rfl ?_
      refine xt_iload_n _ dX3_farToAll_14 rfl ?_
      refine xt_iload_n _ dX3_farToAll_15 rfl ?_
      refine xt_bipush (10) dX3_farToAll_16 (by decide) ?_
      refine xt_idiv dX3_farToAll_18 (by decide) ?_
      refine xt_iload_n _ dX3_farToAll_19 rfl ?_
      refine xt_bipush (10) dX3_farToAll_20 (by decide) ?_
      refine xt_irem dX3_farToAll_22 (by decide) ?_
      rw [hrm, hdv]
      refine xt_cV _ dX3_farToAll_23 klX3_101 (tX2_farFromGoer sc _ w hS hC hW m (p / 10) (p % 10) hlt (by omega) (by omega)) hS.1 rfl rfl (Nat.le_of_ble_eq_true rfl) ?_
      refine xt_iadd dX3_farToAll_26 ?_
      refine xt_istore_n dX3_farToAll_27 (by decide) rfl ?_
      change x_T _ _ _ _ [_, _, _, _] _ _ _ _
      refine xt_inc _ (1) dX3_farToAll_28 rfl (by decide) (by decide) rfl ?_
      change x_T _ _ _ _ [_, _, _, _] _ _ _ _
      refine xt_goto 4 dX3_farToAll_31 (by decide) ?_
      refine x_T.ls ?_ (ih4 (m + 1) (by omega))
      rw [nI_add, nI_succ m]
      rfl
  exact L4 (F 4) 0  (by omega)
set_option maxHeartbeats 1000000 in
theorem tX3_middle (hS : f_S k) (hC : f_C μ k F) (hW : f_W F) : x_K sc (d + 4) mX3_middle [.ref k] μ w (x_p (some (.int (nI ((s_am (s_fa F) (fun _ => true) 1000000 100).1 - 1)))) μ w) := by
  have h8 : F 4 ≤ 8 := hW.1.2.2.2.2.1
  have h00 : s_fa F 0 ≤ 144 := s_fa_le hW (p := 0) (by decide) (Nat.le_refl _)
  have e1 : s_am (s_fa F) (fun _ => true) 1000000 (0 + 1) = (0 + 1, s_fa F 0) := s_am_y (v := (s_fa F)) (ok := (fun _ => true)) rfl (by show s_fa F 0 < 1000000; omega)
  refine x_K.of (by decide) (Nat.le_of_ble_eq_true rfl) ?_
  show x_T sc (d + 4) mX3_middle 0 [.ref k, .retAddr 0, .retAddr 0, .retAddr 0, .retAddr 0] [] μ w _
  refine xt_iconst (0) dX3_middle_0 (by decide) ?_
  refine xt_istore_n dX3_middle_1 (by decide) rfl ?_
  change x_T _ _ _ _ [_, _, _, _, _] _ _ _ _
  refine xt_aload_n _ dX3_middle_2 rfl ?_
  refine xt_iconst (0) dX3_middle_3 (by decide) ?_
  refine xt_cS _ dX3_middle_4 klX3_109 (tX3_farToAll sc _ w hS hC hW 0 (by decide)) rfl rfl (Nat.le_of_ble_eq_true rfl) ?_
  refine xt_istore_n dX3_middle_7 (by decide) rfl ?_
  change x_T _ _ _ _ [_, _, _, _, _] _ _ _ _
  refine xt_iconst (1) dX3_middle_8 (by decide) ?_
  refine xt_istore_n dX3_middle_9 (by decide) rfl ?_
  change x_T _ _ _ _ [_, _, _, _, _] _ _ _ _
  have L10 : ∀ (n10 m : Nat) (v4 : Value), m + n10 = 99 → x_T sc (d + 4) mX3_middle 10 [.ref k, .int (nI ((s_am (s_fa F) (fun _ => true) 1000000 (m + 1)).1 - 1)), .int (nI (s_am (s_fa F) (fun _ => true) 1000000 (m + 1)).2), .int (nI (m + 1)), v4] [] μ w (x_p (some (.int (nI ((s_am (s_fa F) (fun _ => true) 1000000 100).1 - 1)))) μ w) := by
    intro n10
    induction n10 with
    | zero =>
      intro m v4 hmn
      obtain rfl : 99 = m := by omega
      refine xt_iload_n _ dX3_middle_10 rfl ?_
      refine xt_bipush (100) dX3_middle_11 (by decide) ?_
      refine xt_icmp_ge 40 dX3_middle_13 (by decide) (fun _ => ?_) (fun q => absurd (by decide) q)
      refine xt_iload_n _ dX3_middle_40 rfl ?_
      exact xt_iret .int dX3_middle_41 rfl (by first | rfl | assumption) ⟨rfl, rfl, rfl⟩
    | succ n10 ih10 =>
      intro m v4 hmn
      have hlt : m < 99 := by omega
      have hal := s_am_le (v := (s_fa F)) (ok := (fun _ => true)) (lim := 1000000) (m + 1)
      have hfa : s_fa F (m + 1) ≤ 144 := s_fa_le hW (p := m + 1) (by omega) (Nat.le_refl _)
      refine xt_iload_n _ dX3_middle_10 rfl ?_
      refine xt_bipush (100) dX3_middle_11 (by decide) ?_
      refine xt_icmp_ge 40 dX3_middle_13 (by decide) (fun q => absurd q (nI_ge (b := 100) (a := m + 1) (by omega) (by decide))) (fun _ => ?_)
      refine xt_aload_n _ dX3_middle_16 rfl ?_
      refine xt_iload_n _ dX3_middle_17 rfl ?_
      refine xt_cS _ dX3_middle_18 klX3_109 (tX3_farToAll sc _ w hS hC hW (m + 1) (by omega)) rfl rfl (Nat.le_of_ble_eq_true rfl) ?_
      refine xt_istore dX3_middle_21 (by decide) rfl ?_
      change x_T _ _ _ _ [_, _, _, _, _] _ _ _ _
      refine xt_iload _ dX3_middle_23 rfl ?_
      refine xt_iload_n _ dX3_middle_25 rfl ?_
      refine xt_icmp_ge 34 dX3_middle_26 (by decide) (fun t26 => ?_) (fun f26 => ?_)
      · refine xt_inc _ (1) dX3_middle_34 rfl (by decide) (by decide) rfl ?_
        change x_T _ _ _ _ [_, _, _, _, _] _ _ _ _
        refine xt_goto 10 dX3_middle_37 (by decide) ?_
        refine x_T.ls ?_ (ih10 (m + 1) (.int (nI (s_fa F (m + 1)))) (by omega))
        rw [nI_leI (by omega) (by omega)] at t26
        have es : s_am (s_fa F) (fun _ => true) 1000000 ((m + 1) + 1) = s_am (s_fa F) (fun _ => true) 1000000 (m + 1) := s_am_n2 (v := (s_fa F)) (ok := (fun _ => true)) (by show (s_am (s_fa F) (fun _ => true) 1000000 (m + 1)).2 ≤ s_fa F (m + 1); omega)
        rw [es, nI_succ (m + 1)]
      · refine xt_iload _ dX3_middle_29 rfl ?_
        refine xt_istore_n dX3_middle_31 (by decide) rfl ?_
        change x_T _ _ _ _ [_, _, _, _, _] _ _ _ _
        refine xt_iload_n _ dX3_middle_32 rfl ?_
        refine xt_istore_n dX3_middle_33 (by decide) rfl ?_
        change x_T _ _ _ _ [_, _, _, _, _] _ _ _ _
        refine xt_inc _ (1) dX3_middle_34 rfl (by decide) (by decide) rfl ?_
        change x_T _ _ _ _ [_, _, _, _, _] _ _ _ _
        refine xt_goto 10 dX3_middle_37 (by decide) ?_
        refine x_T.ls ?_ (ih10 (m + 1) (.int (nI (s_fa F (m + 1)))) (by omega))
        rw [nI_leI (by omega) (by omega)] at f26
        have es : s_am (s_fa F) (fun _ => true) 1000000 ((m + 1) + 1) = ((m + 1) + 1, s_fa F (m + 1)) := s_am_y (v := (s_fa F)) (ok := (fun _ => true)) (by rfl) (by show s_fa F (m + 1) < (s_am (s_fa F) (fun _ => true) 1000000 (m + 1)).2; omega)
        rw [es, nI_succ (m + 1)]
        rfl
  refine x_T.ls ?_ (L10 99 0 (.retAddr 0) (by omega))
  rw [e1]
  rfl
set_option maxHeartbeats 1000000 in
theorem tX0_worstPlace (hS : f_S k) (hC : f_C μ k F) (hW : f_W F) (hk : k + 5 < 151) : x_K sc (d + 4) mX0_worstPlace [.ref 150, .ref k] μ w (fun r μ' _ => r = some (.int (nI ((s_ax (s_hf F) 100).1 - 1))) ∧ ∀ a, a ≠ 151 → μ' a = μ a) := by
  have h8 : F 4 ≤ 8 := hW.1.2.2.2.2.1
  refine x_K.of (by decide) (Nat.le_of_ble_eq_true rfl) ?_
  show x_T sc (d + 4) mX0_worstPlace 0 [.ref 150, .ref k, .retAddr 0, .retAddr 0, .retAddr 0, .retAddr 0] [] μ w _
  refine xt_aload_n _ dX0_worstPlace_0 rfl ?_
  refine xt_aload_n _ dX0_worstPlace_1 rfl ?_
  refine xt_callV _ dX0_worstPlace_2 klX0_38 (tX0_listen sc _ w hS hC hW hk) sh150 rfl rfl (Nat.le_of_ble_eq_true rfl) (fun r1 μ1 w1 q1 => ?_)
  obtain ⟨rfl, he, hfr⟩ := q1
  change x_T _ _ _ _ _ [] _ _ _
  have hC1 : f_C μ1 k F := hC.cg (fun j hj => hfr _ (by omega))
  refine xt_iconst (0) dX0_worstPlace_5 (by decide) ?_
  refine xt_istore_n dX0_worstPlace_6 (by decide) rfl ?_
  change x_T _ _ _ _ [_, _, _, _, _, _] _ _ _ _
  refine xt_iconst (-1) dX0_worstPlace_7 (by decide) ?_
  refine xt_istore_n dX0_worstPlace_8 (by decide) rfl ?_
  change x_T _ _ _ _ [_, _, _, _, _, _] _ _ _ _
  refine xt_iconst (0) dX0_worstPlace_9 (by decide) ?_
  refine xt_istore dX0_worstPlace_10 (by decide) rfl ?_
  change x_T _ _ _ _ [_, _, _, _, _, _] _ _ _ _
  have L12 : ∀ (n12 m : Nat) (v5 : Value), m + n12 = 100 → x_T sc (d + 4) mX0_worstPlace 12 [.ref 150, .ref k, .int (nI ((s_ax (s_hf F) m).1 - 1)), .int (eI (s_ax (s_hf F) m).2), .int (nI m), v5] [] μ1 w1 (fun r μ' _ => r = some (.int (nI ((s_ax (s_hf F) 100).1 - 1))) ∧ ∀ a, a ≠ 151 → μ' a = μ a) := by
    intro n12
    induction n12 with
    | zero =>
      intro m v5 hmn
      obtain rfl : 100 = m := by omega
      refine xt_iload _ dX0_worstPlace_12 rfl ?_
      refine xt_bipush (100) dX0_worstPlace_14 (by decide) ?_
      refine xt_icmp_ge 46 dX0_worstPlace_16 (by decide) (fun _ => ?_) (fun q => absurd (by decide) q)
      refine xt_iload_n _ dX0_worstPlace_46 rfl ?_
      exact xt_iret .int dX0_worstPlace_47 rfl (by first | rfl | assumption) ⟨rfl, hfr⟩
    | succ n12 ih12 =>
      intro m v5 hmn
      have hlt : m < 100 := by omega
      have hfb : s_hf F m ≤ 8 := Nat.le_trans (s_cnt_le _ _) h8
      have hax := s_ax_le (v := s_hf F) (c := 8) m (fun i hi => Nat.le_trans (s_cnt_le _ _) h8)
      refine xt_iload _ dX0_worstPlace_12 rfl ?_
      refine xt_bipush (100) dX0_worstPlace_14 (by decide) ?_
      refine xt_icmp_ge 46 dX0_worstPlace_16 (by decide) (fun q => absurd q (nI_ge (b := 100) hlt (by decide))) (fun _ => ?_)
      refine xt_aload_n _ dX0_worstPlace_19 rfl ?_
      refine xt_aload_n _ dX0_worstPlace_20 rfl ?_
      refine xt_iload _ dX0_worstPlace_21 rfl ?_
      refine xt_cV _ dX0_worstPlace_23 klX0_42 (tX0_heardFrom sc _ w1 hS hC1 hW he m hlt) sh150 rfl rfl (Nat.le_of_ble_eq_true rfl) ?_
      refine xt_istore dX0_worstPlace_26 (by decide) rfl ?_
      change x_T _ _ _ _ [_, _, _, _, _, _] _ _ _ _
      refine xt_iload _ dX0_worstPlace_28 rfl ?_
      refine xt_iload_n _ dX0_worstPlace_30 rfl ?_
      refine xt_icmp_le 40 dX0_worstPlace_31 (by decide) (fun t31 => ?_) (fun f31 => ?_)
      · refine xt_inc _ (1) dX0_worstPlace_40 rfl (by decide) (by decide) rfl ?_
        change x_T _ _ _ _ [_, _, _, _, _, _] _ _ _ _
        refine xt_goto 12 dX0_worstPlace_43 (by decide) ?_
        refine x_T.ls ?_ (ih12 (m + 1) (.int (nI (s_hf F m))) (by omega))
        rw [eI_lt (by omega) (by omega)] at t31
        rw [s_ax_n (v := s_hf F) (n := m) (by omega), nI_succ m]
      · refine xt_iload _ dX0_worstPlace_34 rfl ?_
        refine xt_istore_n dX0_worstPlace_36 (by decide) rfl ?_
        change x_T _ _ _ _ [_, _, _, _, _, _] _ _ _ _
        refine xt_iload _ dX0_worstPlace_37 rfl ?_
        refine xt_istore_n dX0_worstPlace_39 (by decide) rfl ?_
        change x_T _ _ _ _ [_, _, _, _, _, _] _ _ _ _
        refine xt_inc _ (1) dX0_worstPlace_40 rfl (by decide) (by decide) rfl ?_
        change x_T _ _ _ _ [_, _, _, _, _, _] _ _ _ _
        refine xt_goto 12 dX0_worstPlace_43 (by decide) ?_
        refine x_T.ls ?_ (ih12 (m + 1) (.int (nI (s_hf F m))) (by omega))
        rw [eI_lt (by omega) (by omega)] at f31
        rw [s_ax_y (v := s_hf F) (n := m) (by omega), nI_succ m]
        show _ = [_, _, Value.int (nI (m + 1 - 1)), Value.int (eI (s_hf F m + 1)), _, _]
        rw [eI_s]; rfl
  exact L12 (100) 0 _ (by omega)
set_option maxHeartbeats 1000000 in
theorem tX0_offendersAt (hS : f_S k) (hC : f_C μ k F) (hW : f_W F) (hk : k + 5 < 151) (m : Nat) (hlt : m < 100) : x_K sc (d + 4) mX0_offendersAt [.ref 150, .ref k, .int (nI m)] μ w (fun r μ' _ => r = some (.int (nI (s_hf F m))) ∧ ∀ a, a ≠ 151 → μ' a = μ a) := by
  refine x_K.of (by decide) (Nat.le_of_ble_eq_true rfl) ?_
  show x_T sc (d + 4) mX0_offendersAt 0 [.ref 150, .ref k, .int (nI m)] [] μ w _
  refine xt_aload_n _ dX0_offendersAt_0 rfl ?_
  refine xt_aload_n _ dX0_offendersAt_1 rfl ?_
  refine xt_callV _ dX0_offendersAt_2 klX0_38 (tX0_listen sc _ w hS hC hW hk) sh150 rfl rfl (Nat.le_of_ble_eq_true rfl) (fun r1 μ1 w1 q1 => ?_)
  obtain ⟨rfl, he, hfr⟩ := q1
  change x_T _ _ _ _ _ [] _ _ _
  have hC1 : f_C μ1 k F := hC.cg (fun j hj => hfr _ (by omega))
  refine xt_aload_n _ dX0_offendersAt_5 rfl ?_
  refine xt_aload_n _ dX0_offendersAt_6 rfl ?_
  refine xt_iload_n _ dX0_offendersAt_7 rfl ?_
  refine xt_cV _ dX0_offendersAt_8 klX0_42 (tX0_heardFrom sc _ w1 hS hC1 hW he m hlt) sh150 rfl rfl (Nat.le_of_ble_eq_true rfl) ?_
  exact xt_iret .int dX0_offendersAt_11 rfl (by first | rfl | assumption) ⟨rfl, hfr⟩
set_option maxHeartbeats 1000000 in
theorem tX3_matches (hS : f_S k) (hC : f_C μ k F) (hW : f_W F) (a b : Nat) (ha : a < 8) (hb : b < 8) : x_K sc (d + 2) mX3_matches [.ref k, .int (nI a), .int (nI b)] μ w (x_p (some (.int (if s_mt F a b then 1 else 0))) μ w) := by
  refine x_K.of (by decide) (Nat.le_of_ble_eq_true rfl) ?_
  show x_T sc (d + 2) mX3_matches 0 [.ref k, .int (nI a), .int (nI b), .retAddr 0] [] μ w _
  refine xt_iconst (0) dX3_matches_0 (by decide) ?_
  refine xt_istore_n dX3_matches_1 (by decide) rfl ?_
  change x_T _ _ _ _ [_, _, _, _] _ _ _ _
  have L2 : ∀ (n2 m : Nat) (hall : s_al (fun j => decide (F (41 + (6 * b + j)) ≤ F (41 + (6 * a + j)))) m = true), m + n2 = 6 → x_T sc (d + 2) mX3_matches 2 [.ref k, .int (nI a), .int (nI b), .int (nI m)] [] μ w (x_p (some (.int (if s_mt F a b then 1 else 0))) μ w) := by
    intro n2
    induction n2 with
    | zero =>
      intro m hall hmn
      obtain rfl : 6 = m := by omega
      refine xt_iload_n _ dX3_matches_2 rfl ?_
      refine xt_bipush (6) dX3_matches_3 (by decide) ?_
      refine xt_icmp_ge 31 dX3_matches_5 (by decide) (fun _ => ?_) (fun q => absurd (by decide) q)
      refine xt_iconst (1) dX3_matches_31 (by decide) ?_
      exact xt_iret .boolean dX3_matches_32 rfl (by first | rfl | assumption) ⟨by rw [show s_mt F a b = true from hall]; rfl, rfl, rfl⟩
    | succ n2 ih2 =>
      intro m hall hmn
      have hlt : m < 6 := by omega
      have hwa := hW.2.2.2.1 (6 * a + m) (by omega)
      have hwb := hW.2.2.2.1 (6 * b + m) (by omega)
      refine xt_iload_n _ dX3_matches_2 rfl ?_
      refine xt_bipush (6) dX3_matches_3 (by decide) ?_
      refine xt_icmp_ge 31 dX3_matches_5 (by decide) (fun q => absurd q (nI_ge (b := 6) hlt (by decide))) (fun _ => ?_)
      refine xt_aload_n _ dX3_matches_8 rfl ?_
      refine xt_iload_n _ dX3_matches_9 rfl ?_
      refine xt_iload_n _ dX3_matches_10 rfl ?_
      refine xt_cV _ dX3_matches_11 klX3_43 (tX2_wrongsOf sc _ w hS hC a m (by omega) (by omega)) hS.1 rfl rfl (Nat.le_of_ble_eq_true rfl) ?_
      refine xt_aload_n _ dX3_matches_14 rfl ?_
      refine xt_iload_n _ dX3_matches_15 rfl ?_
      refine xt_iload_n _ dX3_matches_16 rfl ?_
      refine xt_cV _ dX3_matches_17 klX3_43 (tX2_wrongsOf sc _ w hS hC b m (by omega) (by omega)) hS.1 rfl rfl (Nat.le_of_ble_eq_true rfl) ?_
      refine xt_icmp_ge 25 dX3_matches_20 (by decide) (fun t20 => ?_) (fun f20 => ?_)
      · refine xt_inc _ (1) dX3_matches_25 rfl (by decide) (by decide) rfl ?_
        change x_T _ _ _ _ [_, _, _, _] _ _ _ _
        refine xt_goto 2 dX3_matches_28 (by decide) ?_
        rw [nI_leI (by omega) (by omega)] at t20
        refine x_T.ls (by rw [nI_succ m]) (ih2 (m + 1) ?_ (by omega))
        rw [s_al, hall, Bool.true_and]; simpa using t20
      · refine xt_iconst (0) dX3_matches_23 (by decide) ?_
        exact xt_iret .boolean dX3_matches_24 rfl (by first | rfl | assumption) ⟨by rw [s_mt, s_al_f (p := (fun j => decide (F (41 + (6 * b + j)) ≤ F (41 + (6 * a + j))))) (i := m) hlt (by rw [nI_leI (by omega) (by omega)] at f20; simpa using f20)]; rfl, rfl, rfl⟩
  exact L2 (6) 0 rfl (by omega)
set_option maxHeartbeats 1000000 in
theorem tX3_twins (hS : f_S k) (hC : f_C μ k F) (hW : f_W F) : x_K sc (d + 3) mX3_twins [.ref k] μ w (x_p (some (.int (nI (s_tc F (F 4) (F 4))))) μ w) := by
  have h8 : F 4 ≤ 8 := hW.1.2.2.2.2.1
  have e4 : μ k 4 = nI (F 4) := hC.1 4 (by decide)
  refine x_K.of (by decide) (Nat.le_of_ble_eq_true rfl) ?_
  show x_T sc (d + 3) mX3_twins 0 [.ref k, .retAddr 0, .retAddr 0, .retAddr 0] [] μ w _
  refine xt_iconst (0) dX3_twins_0 (by decide) ?_
  refine xt_istore_n dX3_twins_1 (by decide) rfl ?_
  change x_T _ _ _ _ [_, _, _, _] _ _ _ _
  refine xt_iconst (0) dX3_twins_2 (by decide) ?_
  refine xt_istore_n dX3_twins_3 (by decide) rfl ?_
  change x_T _ _ _ _ [_, _, _, _] _ _ _ _
  have L4 : ∀ (n4 a : Nat) (v3 : Value), a + n4 = F 4 → x_T sc (d + 3) mX3_twins 4 [.ref k, .int (nI (s_tc F (F 4) a)), .int (nI a), v3] [] μ w (x_p (some (.int (nI (s_tc F (F 4) (F 4))))) μ w) := by
    intro n4
    induction n4 with
    | zero =>
      intro a v3 hmn
      obtain rfl : F 4 = a := by omega
      refine xt_iload_n _ dX3_twins_4 rfl ?_
      refine xt_aload_n _ dX3_twins_5 rfl ?_
      refine xt_geti dX3_twins_6 kfX3_55 (by first | exact sh0 | exact hS.1 | exact sh150 | rfl | assumption) rfl ?_
      refine xt_icmp_ge 57 dX3_twins_9 (by decide) (fun _ => ?_) (fun q => absurd (by rw [e4]; exact Int32.le_refl _) q)
      refine xt_iload_n _ dX3_twins_57 rfl ?_
      exact xt_iret .int dX3_twins_58 rfl (by first | rfl | assumption) ⟨rfl, rfl, rfl⟩
    | succ n4 ih4 =>
      intro a v3 hmn
      have hlt_a : a < F 4 := by omega
      refine xt_iload_n _ dX3_twins_4 rfl ?_
      refine xt_aload_n _ dX3_twins_5 rfl ?_
      refine xt_geti dX3_twins_6 kfX3_55 (by first | exact sh0 | exact hS.1 | exact sh150 | rfl | assumption) rfl ?_
      refine xt_icmp_ge 57 dX3_twins_9 (by decide) (fun q => absurd q (by rw [e4]; exact nI_ge hlt_a (by omega))) (fun _ => ?_)
      refine xt_iload_n _ dX3_twins_12 rfl ?_
      refine xt_iconst (1) dX3_twins_13 (by decide) ?_
      refine xt_iadd dX3_twins_14 ?_
      refine xt_istore_n dX3_twins_15 (by decide) rfl ?_
      change x_T _ _ _ _ [_, _, _, _] _ _ _ _
      have L16 : ∀ (n16 b : Nat) (hab : a < b), b + n16 = F 4 → x_T sc (d + 3) mX3_twins 16 [.ref k, .int (nI (s_tc F (F 4) a + s_cnt (fun b => decide (a < b) && s_tq F a b) b)), .int (nI a), .int (nI b)] [] μ w (x_p (some (.int (nI (s_tc F (F 4) (F 4))))) μ w) := by
        intro n16
        induction n16 with
        | zero =>
          intro b hab hmn
          obtain rfl : F 4 = b := by omega
          refine xt_iload_n _ dX3_twins_16 rfl ?_
          refine xt_aload_n _ dX3_twins_17 rfl ?_
          refine xt_geti dX3_twins_18 kfX3_55 (by first | exact sh0 | exact hS.1 | exact sh150 | rfl | assumption) rfl ?_
          refine xt_icmp_ge 51 dX3_twins_21 (by decide) (fun _ => ?_) (fun q => absurd (by rw [e4]; exact Int32.le_refl _) q)
          refine xt_inc _ (1) dX3_twins_51 rfl (by decide) (by decide) rfl ?_
          change x_T _ _ _ _ [_, _, _, _] _ _ _ _
          refine xt_goto 4 dX3_twins_54 (by decide) ?_
          refine x_T.ls ?_ (ih4 (a + 1) (.int (nI (F 4))) (by omega))
          rw [nI_succ a]
          rfl
        | succ n16 ih16 =>
          intro b hab hmn
          have hlt_b : b < F 4 := by omega
          refine xt_iload_n _ dX3_twins_16 rfl ?_
          refine xt_aload_n _ dX3_twins_17 rfl ?_
          refine xt_geti dX3_twins_18 kfX3_55 (by first | exact sh0 | exact hS.1 | exact sh150 | rfl | assumption) rfl ?_
          refine xt_icmp_ge 51 dX3_twins_21 (by decide) (fun q => absurd q (by rw [e4]; exact nI_ge hlt_b (by omega))) (fun _ => ?_)
          refine xt_aload_n _ dX3_twins_24 rfl ?_
          refine xt_iload_n _ dX3_twins_25 rfl ?_
          refine xt_iload_n _ dX3_twins_26 rfl ?_
          refine xt_cS _ dX3_twins_27 klX3_113 (tX3_matches sc _ w hS hC hW a b (by omega) (by omega)) rfl rfl (Nat.le_of_ble_eq_true rfl) ?_
          refine xt_if_eq 45 dX3_twins_30 (by decide) (fun t30 => ?_) (fun f30 => ?_)
          · refine xt_inc _ (1) dX3_twins_45 rfl (by decide) (by decide) rfl ?_
            change x_T _ _ _ _ [_, _, _, _] _ _ _ _
            refine xt_goto 16 dX3_twins_48 (by decide) ?_
            refine x_T.ls ?_ (ih16 (b + 1) (by omega) (by omega))
            have hmq := s_mt_tq F a b
            have h1 : s_mt F a b = false := by cases hq : s_mt F a b <;> simp_all
            rw [h1, Bool.false_and] at hmq
            have es : s_cnt (fun b => decide (a < b) && s_tq F a b) (b + 1) = s_cnt (fun b => decide (a < b) && s_tq F a b) b := by rw [s_cnt, ← hmq]; simp
            rw [es, nI_succ b]
          · refine xt_aload_n _ dX3_twins_33 rfl ?_
            refine xt_iload_n _ dX3_twins_34 rfl ?_
            refine xt_iload_n _ dX3_twins_35 rfl ?_
            refine xt_cS _ dX3_twins_36 klX3_113 (tX3_matches sc _ w hS hC hW b a (by omega) (by omega)) rfl rfl (Nat.le_of_ble_eq_true rfl) ?_
            refine xt_if_eq 45 dX3_twins_39 (by decide) (fun t39 => ?_) (fun f39 => ?_)
            · refine xt_inc _ (1) dX3_twins_45 rfl (by decide) (by decide) rfl ?_
              change x_T _ _ _ _ [_, _, _, _] _ _ _ _
              refine xt_goto 16 dX3_twins_48 (by decide) ?_
              refine x_T.ls ?_ (ih16 (b + 1) (by omega) (by omega))
              have hmq := s_mt_tq F a b
              have h1 : s_mt F b a = false := by cases hq : s_mt F b a <;> simp_all
              rw [h1, Bool.and_false] at hmq
              have es : s_cnt (fun b => decide (a < b) && s_tq F a b) (b + 1) = s_cnt (fun b => decide (a < b) && s_tq F a b) b := by rw [s_cnt, ← hmq]; simp
              rw [es, nI_succ b]
            · refine xt_inc _ (1) dX3_twins_42 rfl (by decide) (by decide) rfl ?_
              change x_T _ _ _ _ [_, _, _, _] _ _ _ _
              refine xt_inc _ (1) dX3_twins_45 rfl (by decide) (by decide) rfl ?_
              change x_T _ _ _ _ [_, _, _, _] _ _ _ _
              refine xt_goto 16 dX3_twins_48 (by decide) ?_
              refine x_T.ls ?_ (ih16 (b + 1) (by omega) (by omega))
              have hmq := s_mt_tq F a b
              have h1 : s_mt F a b = true := by cases hq : s_mt F a b <;> simp_all
              have h2 : s_mt F b a = true := by cases hq : s_mt F b a <;> simp_all
              rw [h1, h2, Bool.true_and] at hmq
              have es : s_cnt (fun b => decide (a < b) && s_tq F a b) (b + 1) = s_cnt (fun b => decide (a < b) && s_tq F a b) b + 1 := by rw [s_cnt, ← hmq]; simp [hab]
              rw [es, nI_succ b, ← Nat.add_assoc, nI_succ (s_tc F (F 4) a + s_cnt _ b)]
      refine x_T.ls ?_ (L16 (F 4 - (a + 1)) (a + 1) (by omega) (by omega))
      rw [(s_cnt_z (fun b => decide (a < b) && s_tq F a b) (a + 1)).mpr (fun i hi => by have : ¬ a < i := (by omega); simp [this]), nI_succ a]
      rfl
  exact L4 (F 4) 0 _ (by omega)
set_option maxHeartbeats 1000000 in
theorem tX0_grace (hS : f_S k) (hC : f_C μ k F) (hW : f_W F) : x_K sc (d + 3) mX0_grace [.ref k] μ w (x_p (some (.int (nI (s_fst (s_pe F) 9 0)))) μ w) := by
  have h8 : F 4 ≤ 8 := hW.1.2.2.2.2.1
  have e4 : μ k 4 = nI (F 4) := hC.1 4 (by decide)
  refine x_K.of (by decide) (Nat.le_of_ble_eq_true rfl) ?_
  show x_T sc (d + 3) mX0_grace 0 [.ref k, .retAddr 0, .retAddr 0, .retAddr 0] [] μ w _
  refine xt_iconst (0) dX0_grace_0 (by decide) ?_
  refine xt_istore_n dX0_grace_1 (by decide) rfl ?_
  change x_T _ _ _ _ [_, _, _, _] _ _ _ _
  have L2 : ∀ (n2 e : Nat) (v2 v3 : Value) (hr : s_fst (s_pe F) n2 e = s_fst (s_pe F) 9 0), e + n2 = 9 → x_T sc (d + 3) mX0_grace 2 [.ref k, .int (nI e), v2, v3] [] μ w (x_p (some (.int (nI (s_fst (s_pe F) 9 0)))) μ w) := by
    intro n2
    induction n2 with
    | zero =>
      intro e v2 v3 hr hmn
      obtain rfl : 9 = e := by omega
      refine xt_iload_n _ dX0_grace_2 rfl ?_
      refine xt_bipush (9) dX0_grace_3 (by decide) ?_
      refine xt_icmp_ge 63 dX0_grace_5 (by decide) (fun _ => ?_) (fun q => absurd (by decide) q)
      refine xt_bipush (9) dX0_grace_63 (by decide) ?_
      exact xt_iret .int dX0_grace_65 rfl (by first | rfl | assumption) ⟨by rw [← hr]; rfl, rfl, rfl⟩
    | succ n2 ih2 =>
      intro e v2 v3 hr hmn
      have hlt_e : e < 9 := by omega
      refine xt_iload_n _ dX0_grace_2 rfl ?_
      refine xt_bipush (9) dX0_grace_3 (by decide) ?_
      refine xt_icmp_ge 63 dX0_grace_5 (by decide) (fun q => absurd q (nI_ge (b := 9) hlt_e (by decide))) (fun _ => ?_)
      refine xt_iconst (1) dX0_grace_8 (by decide) ?_
      refine xt_istore_n dX0_grace_9 (by decide) rfl ?_
      change x_T _ _ _ _ [_, _, _, _] _ _ _ _
      refine xt_iconst (0) dX0_grace_10 (by decide) ?_
      refine xt_istore_n dX0_grace_11 (by decide) rfl ?_
      change x_T _ _ _ _ [_, _, _, _] _ _ _ _
      have L12 : ∀ (n12 m : Nat) , m + n12 = F 4 → x_T sc (d + 3) mX0_grace 12 [.ref k, .int (nI e), .int (if s_al (fun g => !s_off F (fun _ => false) e g) m then 1 else 0), .int (nI m)] [] μ w (x_p (some (.int (nI (s_fst (s_pe F) 9 0)))) μ w) := by
        intro n12
        induction n12 with
        | zero =>
          intro m  hmn
          obtain rfl : F 4 = m := by omega
          refine xt_iload_n _ dX0_grace_12 rfl ?_
          refine xt_aload_n _ dX0_grace_13 rfl ?_
          refine xt_geti dX0_grace_14 kfX0_15 (by first | exact sh0 | exact hS.1 | exact sh150 | rfl | assumption) rfl ?_
          refine xt_icmp_ge 51 dX0_grace_17 (by decide) (fun _ => ?_) (fun q => absurd (by rw [e4]; exact Int32.le_refl _) q)
          refine xt_iload_n _ dX0_grace_51 rfl ?_
          refine xt_if_eq 57 dX0_grace_52 (by decide) (fun t52 => ?_) (fun f52 => ?_)
          · refine xt_inc _ (1) dX0_grace_57 rfl (by decide) (by decide) rfl ?_
            change x_T _ _ _ _ [_, _, _, _] _ _ _ _
            refine xt_goto 2 dX0_grace_60 (by decide) ?_
            refine x_T.ls ?_ (ih2 (e + 1) (.int (if s_pe F e then 1 else 0)) (.int (nI (F 4))) ?_ (by omega))
            · rw [nI_succ e]
            · rw [← hr, s_fst, if_neg (by cases hq : s_pe F e <;> simp_all)]
          · refine xt_iload_n _ dX0_grace_55 rfl ?_
            exact xt_iret .int dX0_grace_56 rfl (by first | rfl | assumption) ⟨by rw [← hr, s_fst, if_pos (by cases hq : s_pe F e <;> simp_all)], rfl, rfl⟩
        | succ n12 ih12 =>
          intro m  hmn
          have hlt : m < F 4 := by omega
          have hfar := s_farO_le hW hlt
          have hear := s_ear_le hW (fun _ => false) e m (F 3) (Nat.le_refl _)
          refine xt_iload_n _ dX0_grace_12 rfl ?_
          refine xt_aload_n _ dX0_grace_13 rfl ?_
          refine xt_geti dX0_grace_14 kfX0_15 (by first | exact sh0 | exact hS.1 | exact sh150 | rfl | assumption) rfl ?_
          refine xt_icmp_ge 51 dX0_grace_17 (by decide) (fun q => absurd q (by rw [e4]; exact nI_ge hlt (by omega))) (fun _ => ?_)
          refine xt_iload_n _ dX0_grace_20 rfl ?_
          refine xt_if_eq 43 dX0_grace_21 (by decide) (fun t21 => ?_) (fun f21 => ?_)
          · refine xt_iconst (0) dX0_grace_43 (by decide) ?_
            refine xt_istore_n dX0_grace_44 (by decide) rfl ?_
            change x_T _ _ _ _ [_, _, _, _] _ _ _ _
            refine xt_inc _ (1) dX0_grace_45 rfl (by decide) (by decide) rfl ?_
            change x_T _ _ _ _ [_, _, _, _] _ _ _ _
            refine xt_goto 12 dX0_grace_48 (by decide) ?_
            refine x_T.ls ?_ (ih12 (m + 1) (by omega))
            have h1 : s_al (fun g => !s_off F (fun _ => false) e g) m = false := by cases hq : s_al (fun g => !s_off F (fun _ => false) e g) m <;> simp_all
            rw [s_al, h1, nI_succ m]
            rfl
          · refine xt_aload_n _ dX0_grace_24 rfl ?_
            refine xt_iload_n _ dX0_grace_25 rfl ?_
            refine xt_cV _ dX0_grace_26 klX0_50 (tX2_farOf sc _ w hS hC hW m hlt) hS.1 rfl rfl (Nat.le_of_ble_eq_true rfl) ?_
            refine xt_aload_n _ dX0_grace_29 rfl ?_
            refine xt_iload_n _ dX0_grace_30 rfl ?_
            refine xt_iload_n _ dX0_grace_31 rfl ?_
            refine xt_iconst (0) dX0_grace_32 (by decide) ?_
            refine xt_cV _ dX0_grace_33 klX0_21 (tX2_earshot sc _ w hS hC hW m e hlt (by omega) 0 (fun _ => false) s_str0) hS.1 rfl rfl (Nat.le_of_ble_eq_true rfl) ?_
            refine xt_icmp_le 43 dX0_grace_36 (by decide) (fun t36 => ?_) (fun f36 => ?_)
            · refine xt_iconst (0) dX0_grace_43 (by decide) ?_
              refine xt_istore_n dX0_grace_44 (by decide) rfl ?_
              change x_T _ _ _ _ [_, _, _, _] _ _ _ _
              refine xt_inc _ (1) dX0_grace_45 rfl (by decide) (by decide) rfl ?_
              change x_T _ _ _ _ [_, _, _, _] _ _ _ _
              refine xt_goto 12 dX0_grace_48 (by decide) ?_
              refine x_T.ls ?_ (ih12 (m + 1) (by omega))
              have h1 : s_al (fun g => !s_off F (fun _ => false) e g) m = true := by cases hq : s_al (fun g => !s_off F (fun _ => false) e g) m <;> simp_all
              rw [eI_lt (by omega) (by omega)] at t36
              have h2 : s_off F (fun _ => false) e m = true := by simpa [s_off] using t36
              rw [s_al, h1, h2, nI_succ m]
              rfl
            · refine xt_iconst (1) dX0_grace_39 (by decide) ?_
              refine xt_goto 44 dX0_grace_40 (by decide) ?_
              refine xt_istore_n dX0_grace_44 (by decide) rfl ?_
              change x_T _ _ _ _ [_, _, _, _] _ _ _ _
              refine xt_inc _ (1) dX0_grace_45 rfl (by decide) (by decide) rfl ?_
              change x_T _ _ _ _ [_, _, _, _] _ _ _ _
              refine xt_goto 12 dX0_grace_48 (by decide) ?_
              refine x_T.ls ?_ (ih12 (m + 1) (by omega))
              have h1 : s_al (fun g => !s_off F (fun _ => false) e g) m = true := by cases hq : s_al (fun g => !s_off F (fun _ => false) e g) m <;> simp_all
              rw [eI_lt (by omega) (by omega)] at f36
              have h2 : s_off F (fun _ => false) e m = false := by simpa [s_off] using f36
              rw [s_al, h1, h2, nI_succ m]
              rfl
      exact L12 (F 4) 0  (by omega)
  exact L2 (9) 0 _ _ rfl (by omega)
set_option maxHeartbeats 1000000 in
theorem tX0_deafness (hS : f_S k) (hC : f_C μ k F) (hW : f_W F) : x_K sc (d + 3) mX0_deafness [.ref k] μ w (x_p (some (.int (nI (s_df F (F 4))))) μ w) := by
  have h8 : F 4 ≤ 8 := hW.1.2.2.2.2.1
  have e4 : μ k 4 = nI (F 4) := hC.1 4 (by decide)
  refine x_K.of (by decide) (Nat.le_of_ble_eq_true rfl) ?_
  show x_T sc (d + 3) mX0_deafness 0 [.ref k, .retAddr 0, .retAddr 0] [] μ w _
  refine xt_iconst (0) dX0_deafness_0 (by decide) ?_
  refine xt_istore_n dX0_deafness_1 (by decide) rfl ?_
  change x_T _ _ _ _ [_, _, _] _ _ _ _
  refine xt_iconst (0) dX0_deafness_2 (by decide) ?_
  refine xt_istore_n dX0_deafness_3 (by decide) rfl ?_
  change x_T _ _ _ _ [_, _, _] _ _ _ _
  have L4 : ∀ (n4 m : Nat) , m + n4 = F 4 → x_T sc (d + 3) mX0_deafness 4 [.ref k, .int (nI (s_df F m)), .int (nI m)] [] μ w (x_p (some (.int (nI (s_df F (F 4))))) μ w) := by
    intro n4
    induction n4 with
    | zero =>
      intro m  hmn
      obtain rfl : F 4 = m := by omega
      refine xt_iload_n _ dX0_deafness_4 rfl ?_
      refine xt_aload_n _ dX0_deafness_5 rfl ?_
      refine xt_geti dX0_deafness_6 kfX0_15 (by first | exact sh0 | exact hS.1 | exact sh150 | rfl | assumption) rfl ?_
      refine xt_icmp_ge 38 dX0_deafness_9 (by decide) (fun _ => ?_) (fun q => absurd (by rw [e4]; exact Int32.le_refl _) q)
      refine xt_iload_n _ dX0_deafness_38 rfl ?_
      exact xt_iret .int dX0_deafness_39 rfl (by first | rfl | assumption) ⟨rfl, rfl, rfl⟩
    | succ n4 ih4 =>
      intro m  hmn
      have hlt : m < F 4 := by omega
      have hfar := s_farO_le hW hlt
      have hear := s_ear_le hW (fun _ => false) 0 m (F 3) (Nat.le_refl _)
      have hdf : s_df F m ≤ 19 := s_mxx_le m (fun i hi => by have : s_e F i ≤ 19 := s_ear_le hW (fun _ => false) 0 i (F 3) (Nat.le_refl _); omega)
      refine xt_iload_n _ dX0_deafness_4 rfl ?_
      refine xt_aload_n _ dX0_deafness_5 rfl ?_
      refine xt_geti dX0_deafness_6 kfX0_15 (by first | exact sh0 | exact hS.1 | exact sh150 | rfl | assumption) rfl ?_
      refine xt_icmp_ge 38 dX0_deafness_9 (by decide) (fun q => absurd q (by rw [e4]; exact nI_ge hlt (by omega))) (fun _ => ?_)
      refine xt_iload_n _ dX0_deafness_12 rfl ?_
      refine xt_aload_n _ dX0_deafness_13 rfl ?_
      refine xt_iload_n _ dX0_deafness_14 rfl ?_
      refine xt_iconst (0) dX0_deafness_15 (by decide) ?_
      refine xt_iconst (0) dX0_deafness_16 (by decide) ?_
      refine xt_cV _ dX0_deafness_17 klX0_21 (tX2_earshot sc _ w hS hC hW m 0 hlt (by omega) 0 (fun _ => false) s_str0) hS.1 rfl rfl (Nat.le_of_ble_eq_true rfl) ?_
      refine xt_aload_n _ dX0_deafness_20 rfl ?_
      refine xt_iload_n _ dX0_deafness_21 rfl ?_
      refine xt_cV _ dX0_deafness_22 klX0_50 (tX2_farOf sc _ w hS hC hW m hlt) hS.1 rfl rfl (Nat.le_of_ble_eq_true rfl) ?_
      refine xt_isub dX0_deafness_25 ?_
      refine xt_iconst (1) dX0_deafness_26 (by decide) ?_
      refine xt_iadd dX0_deafness_27 ?_
      refine xt_mmax dX0_deafness_28 kmX0_54 (Nat.le_of_ble_eq_true rfl) ?_
      refine xt_istore_n dX0_deafness_31 (by decide) rfl ?_
      change x_T _ _ _ _ [_, _, _] _ _ _ _
      refine xt_inc _ (1) dX0_deafness_32 rfl (by decide) (by decide) rfl ?_
      change x_T _ _ _ _ [_, _, _] _ _ _ _
      refine xt_goto 4 dX0_deafness_35 (by decide) ?_
      refine x_T.ls ?_ (ih4 (m + 1) (by omega))
      rw [s_dx _ (by omega) _ (by omega) _ (by omega), nI_succ m]
      rfl
  exact L4 (F 4) 0  (by omega)
end CENTRE
section CENTREM
variable (sc : Nat × (Nat → Int32)) (d : Nat) (μ : x_Me) (w : Int64)
set_option maxHeartbeats 1000000 in
theorem tX12_middle (f : Nat) (F : Nat → Nat) (hS : m_S μ f F) (hW : f_W F) (u : Int32) : x_K sc (d + 2) mX12_middle [.ref 152, .int u] μ w (x_p (some (.int (if u = 0 then eI (s_am (s_fa F) (fun _ => true) 1000000 100).1 else nI (s_am (s_fa F) (fun _ => true) 1000000 100).2))) μ w) := by
  have h8 : F 4 ≤ 8 := hW.1.2.2.2.2.1
  have e4 : μ 152 24 = nI (F 4) := hS.1.2.2.2.1
  refine x_K.of (by decide) (Nat.le_of_ble_eq_true rfl) ?_
  show x_T sc (d + 2) mX12_middle 0 [.ref 152, .int u, .retAddr 0, .retAddr 0, .retAddr 0, .retAddr 0, .retAddr 0] [] μ w _
  refine xt_iconst (-1) dX12_middle_0 (by decide) ?_
  refine xt_istore_n dX12_middle_1 (by decide) rfl ?_
  change x_T _ _ _ _ [_, _, _, _, _, _, _] _ _ _ _
  refine xt_ldcw _ dX12_middle_2 kkX12_353 ?_
  refine xt_istore_n dX12_middle_5 (by decide) rfl ?_
  change x_T _ _ _ _ [_, _, _, _, _, _, _] _ _ _ _
  refine xt_iconst (0) dX12_middle_6 (by decide) ?_
  refine xt_istore dX12_middle_7 (by decide) rfl ?_
  change x_T _ _ _ _ [_, _, _, _, _, _, _] _ _ _ _
  have L9 : ∀ (n9 m : Nat) (v5 v6 : Value), m + n9 = 100 → x_T sc (d + 2) mX12_middle 9 [.ref 152, .int u, .int (eI (s_am (s_fa F) (fun _ => true) 1000000 m).1), .int (nI (s_am (s_fa F) (fun _ => true) 1000000 m).2), .int (nI m), v5, v6] [] μ w (x_p (some (.int (if u = 0 then eI (s_am (s_fa F) (fun _ => true) 1000000 100).1 else nI (s_am (s_fa F) (fun _ => true) 1000000 100).2))) μ w) := by
    intro n9
    induction n9 with
    | zero =>
      intro m v5 v6 hmn
      obtain rfl : 100 = m := by omega
      refine xt_iload _ dX12_middle_9 rfl ?_
      refine xt_bipush (100) dX12_middle_11 (by decide) ?_
      refine xt_icmp_ge 95 dX12_middle_13 (by decide) (fun _ => ?_) (fun q => absurd (by decide) q)
      refine xt_iload_n _ dX12_middle_95 rfl ?_
      refine xt_if_eq 103 dX12_middle_96 (by decide) (fun t96 => ?_) (fun f96 => ?_)
      · refine xt_iload_n _ dX12_middle_103 rfl ?_
        exact xt_iret .int dX12_middle_104 rfl (by first | rfl | assumption) ⟨by rw [if_pos t96], rfl, rfl⟩
      · refine xt_iload_n _ dX12_middle_99 rfl ?_
        refine xt_goto 104 dX12_middle_100 (by decide) ?_
        exact xt_iret .int dX12_middle_104 rfl (by first | rfl | assumption) ⟨by rw [if_neg f96], rfl, rfl⟩
    | succ n9 ih9 =>
      intro m v5 v6 hmn
      have hlt : m < 100 := by omega
      have hal := s_am_le (v := (s_fa F)) (ok := (fun _ => true)) (lim := 1000000) m
      have hfa : s_fa F m ≤ 144 := s_fa_le hW hlt (Nat.le_refl _)
      have hdv : nI m / (10 : Int32) = nI (m / 10) := pk_div (by omega) (by decide) (by decide)
      have hrm : nI m - nI m / (10 : Int32) * 10 = nI (m % 10) := pk_rem (d := 10) (by omega) (by decide) (by decide)
      refine xt_iload _ dX12_middle_9 rfl ?_
      refine xt_bipush (100) dX12_middle_11 (by decide) ?_
      refine xt_icmp_ge 95 dX12_middle_13 (by decide) (fun q => absurd q (nI_ge (b := 100) hlt (by decide))) (fun _ => ?_)
      refine xt_iconst (0) dX12_middle_16 (by decide) ?_
      refine xt_istore dX12_middle_17 (by decide) rfl ?_
      change x_T _ _ _ _ [_, _, _, _, _, _, _] _ _ _ _
      refine xt_iconst (0) dX12_middle_19 (by decide) ?_
      refine xt_istore dX12_middle_20 (by decide) rfl ?_
      change x_T _ _ _ _ [_, _, _, _, _, _, _] _ _ _ _
      have L22 : ∀ (n22 j : Nat) , j + n22 = F 4 → x_T sc (d + 2) mX12_middle 22 [.ref 152, .int u, .int (eI (s_am (s_fa F) (fun _ => true) 1000000 m).1), .int (nI (s_am (s_fa F) (fun _ => true) 1000000 m).2), .int (nI m), .int (nI (s_sum (fun g => s_farG F g (m / 10) (m % 10)) j)), .int (nI j)] [] μ w (x_p (some (.int (if u = 0 then eI (s_am (s_fa F) (fun _ => true) 1000000 100).1 else nI (s_am (s_fa F) (fun _ => true) 1000000 100).2))) μ w) := by
        intro n22
        induction n22 with
        | zero =>
          intro j  hmn
          obtain rfl : F 4 = j := by omega
          change x_T _ _ _ _ [_, _, _, _, _, .int (nI (s_fa F m)), _] _ _ _ _
          refine xt_iload _ dX12_middle_22 rfl ?_
          refine xt_aload_n _ dX12_middle_24 rfl ?_
          refine xt_geti dX12_middle_25 kfX12_251 (by first | exact sh152 | rfl | assumption) rfl ?_
          refine xt_icmp_ge 69 dX12_middle_28 (by decide) (fun _ => ?_) (fun q => absurd (by rw [e4]; exact Int32.le_refl _) q)
          refine xt_iload _ dX12_middle_69 rfl ?_
          refine xt_iload_n _ dX12_middle_71 rfl ?_
          refine xt_icmp_ge 80 dX12_middle_72 (by decide) (fun t72 => ?_) (fun f72 => ?_)
          · refine xt_iload_n _ dX12_middle_80 rfl ?_
            refine xt_istore_n dX12_middle_81 (by decide) rfl ?_
            change x_T _ _ _ _ [_, _, _, _, _, _, _] _ _ _ _
            refine xt_iload_n _ dX12_middle_82 rfl ?_
            refine xt_iload _ dX12_middle_83 rfl ?_
            refine xt_cS _ dX12_middle_85 klX12_209 (tX12_lesser sc _ μ _ _ _) rfl rfl (Nat.le_of_ble_eq_true rfl) ?_
            refine xt_istore_n dX12_middle_88 (by decide) rfl ?_
            change x_T _ _ _ _ [_, _, _, _, _, _, _] _ _ _ _
            refine xt_inc _ (1) dX12_middle_89 rfl (by decide) (by decide) rfl ?_
            change x_T _ _ _ _ [_, _, _, _, _, _, _] _ _ _ _
            refine xt_goto 9 dX12_middle_92 (by decide) ?_
            refine x_T.ls ?_ (ih9 (m + 1) (.int (nI (s_fa F m))) (.int (nI (F 4))) (by omega))
            rw [s_le_nI (by omega) (by omega)]
            rw [nI_leI (by omega) (by omega)] at t72
            have es : s_am (s_fa F) (fun _ => true) 1000000 (m + 1) = s_am (s_fa F) (fun _ => true) 1000000 m := s_am_n2 (v := (s_fa F)) (ok := (fun _ => true)) (by show (s_am (s_fa F) (fun _ => true) 1000000 m).2 ≤ s_fa F m; omega)
            rw [es, nI_succ m, Nat.min_eq_left (by omega)]
          · refine xt_iload _ dX12_middle_75 rfl ?_
            refine xt_goto 81 dX12_middle_77 (by decide) ?_
            refine xt_istore_n dX12_middle_81 (by decide) rfl ?_
            change x_T _ _ _ _ [_, _, _, _, _, _, _] _ _ _ _
            refine xt_iload_n _ dX12_middle_82 rfl ?_
            refine xt_iload _ dX12_middle_83 rfl ?_
            refine xt_cS _ dX12_middle_85 klX12_209 (tX12_lesser sc _ μ _ _ _) rfl rfl (Nat.le_of_ble_eq_true rfl) ?_
            refine xt_istore_n dX12_middle_88 (by decide) rfl ?_
            change x_T _ _ _ _ [_, _, _, _, _, _, _] _ _ _ _
            refine xt_inc _ (1) dX12_middle_89 rfl (by decide) (by decide) rfl ?_
            change x_T _ _ _ _ [_, _, _, _, _, _, _] _ _ _ _
            refine xt_goto 9 dX12_middle_92 (by decide) ?_
            refine x_T.ls ?_ (ih9 (m + 1) (.int (nI (s_fa F m))) (.int (nI (F 4))) (by omega))
            rw [s_le_nI (by omega) (by omega)]
            rw [nI_leI (by omega) (by omega)] at f72
            have es : s_am (s_fa F) (fun _ => true) 1000000 (m + 1) = (m + 1, s_fa F m) := s_am_y (v := (s_fa F)) (ok := (fun _ => true)) (by rfl) (by show s_fa F m < (s_am (s_fa F) (fun _ => true) 1000000 m).2; omega)
            rw [es, nI_succ m, eI_s, Nat.min_eq_right (by omega)]
        | succ n22 ih22 =>
          intro j  hmn
          have hlt_j : j < F 4 := by omega
          have hxy := hW.2.2.1 j hlt_j
          refine xt_iload _ dX12_middle_22 rfl ?_
          refine xt_aload_n _ dX12_middle_24 rfl ?_
          refine xt_geti dX12_middle_25 kfX12_251 (by first | exact sh152 | rfl | assumption) rfl ?_
          refine xt_icmp_ge 69 dX12_middle_28 (by decide) (fun q => absurd q (by rw [e4]; exact nI_ge hlt_j (by omega))) (fun _ => ?_)
          refine xt_iload _ dX12_middle_31 rfl ?_
          refine xt_aload_n _ dX12_middle_33 rfl ?_
          refine xt_getr _ dX12_middle_34 kfX12_41 (by first | exact sh152 | rfl | assumption) rfl ?_
          refine xt_iload _ dX12_middle_37 rfl ?_
          refine xt_ald dX12_middle_39 (by first | exact sh152 | rfl | assumption) (by exact vp_in_nI (by omega) (by decide)) ?_
          refine xt_aload_n _ dX12_middle_40 rfl ?_
          refine xt_getr _ dX12_middle_41 kfX12_44 (by first | exact sh152 | rfl | assumption) rfl ?_
          refine xt_iload _ dX12_middle_44 rfl ?_
          refine xt_ald dX12_middle_46 (by first | exact sh152 | rfl | assumption) (by exact vp_in_nI (by omega) (by decide)) ?_
          refine xt_iload _ dX12_middle_47 rfl ?_
          refine xt_bipush (10) dX12_middle_49 (by decide) ?_
          refine xt_idiv dX12_middle_51 (by decide) ?_
          refine xt_iload _ dX12_middle_52 rfl ?_
          refine xt_bipush (10) dX12_middle_54 (by decide) ?_
          refine xt_irem dX12_middle_56 (by decide) ?_
          rw [hrm, hdv]
          refine xt_cS _ dX12_middle_57 klX12_290 (tX12_way sc _ μ _ _ _ _ _) rfl rfl (Nat.le_of_ble_eq_true rfl) ?_
          rw [nI_clamp (by omega), (hS.2.1 j (by omega)).1, (hS.2.1 j (by omega)).2, s_way_nI (by omega) (by omega) (by omega) (by omega), ← s_ab (F (25 + j)), ← s_ab (F (33 + j))]
          change x_T _ _ _ _ _ (.int (nI (s_farG F j (m / 10) (m % 10))) :: _) _ _ _
          refine xt_iadd dX12_middle_60 ?_
          refine xt_istore dX12_middle_61 (by decide) rfl ?_
          change x_T _ _ _ _ [_, _, _, _, _, _, _] _ _ _ _
          refine xt_inc _ (1) dX12_middle_63 rfl (by decide) (by decide) rfl ?_
          change x_T _ _ _ _ [_, _, _, _, _, _, _] _ _ _ _
          refine xt_goto 22 dX12_middle_66 (by decide) ?_
          refine x_T.ls ?_ (ih22 (j + 1) (by omega))
          rw [nI_add, nI_succ j]
          rfl
      exact L22 (F 4) 0  (by omega)
  exact L9 (100) 0 _ _ (by omega)
set_option maxHeartbeats 1000000 in
theorem tX12_spot (f : Nat) (F : Nat → Nat) (hS : m_S μ f F) (hW : f_W F) (h0 : μ 152 34 = 0 ∧ μ 152 35 = 0 ∧ μ 152 36 = 0) (u : Int32) : x_K sc (d + 4) mX12_spot [.ref 152, .int u] μ w (fun r μ' _ => r = some (.int (if u = 0 then eI (s_ax (s_hf F) 100).1 else eI (s_ax (s_hf F) 100).2)) ∧ ∀ a, a ≠ 152 → μ' a = μ a) := by
  have h8 : F 4 ≤ 8 := hW.1.2.2.2.2.1
  refine x_K.of (by decide) (Nat.le_of_ble_eq_true rfl) ?_
  show x_T sc (d + 4) mX12_spot 0 [.ref 152, .int u, .retAddr 0, .retAddr 0, .retAddr 0, .retAddr 0] [] μ w _
  refine xt_iconst (-1) dX12_spot_0 (by decide) ?_
  refine xt_istore_n dX12_spot_1 (by decide) rfl ?_
  change x_T _ _ _ _ [_, _, _, _, _, _] _ _ _ _
  refine xt_iconst (-1) dX12_spot_2 (by decide) ?_
  refine xt_istore_n dX12_spot_3 (by decide) rfl ?_
  change x_T _ _ _ _ [_, _, _, _, _, _] _ _ _ _
  refine xt_iconst (0) dX12_spot_4 (by decide) ?_
  refine xt_istore dX12_spot_5 (by decide) rfl ?_
  change x_T _ _ _ _ [_, _, _, _, _, _] _ _ _ _
  have L7 : ∀ (n7 m : Nat) (μ2 : x_Me) (v5 : Value) (hJ : m_mv μ μ2 f F), m + n7 = 100 → x_T sc (d + 4) mX12_spot 7 [.ref 152, .int u, .int (eI (s_ax (s_hf F) m).1), .int (eI (s_ax (s_hf F) m).2), .int (nI m), v5] [] μ2 w (fun r μ' _ => r = some (.int (if u = 0 then eI (s_ax (s_hf F) 100).1 else eI (s_ax (s_hf F) 100).2)) ∧ ∀ a, a ≠ 152 → μ' a = μ a) := by
    intro n7
    induction n7 with
    | zero =>
      intro m μ2 v5 hJ hmn
      obtain rfl : 100 = m := by omega
      refine xt_iload _ dX12_spot_7 rfl ?_
      refine xt_bipush (100) dX12_spot_9 (by decide) ?_
      refine xt_icmp_ge 67 dX12_spot_11 (by decide) (fun _ => ?_) (fun q => absurd (by decide) q)
      refine xt_iload_n _ dX12_spot_67 rfl ?_
      refine xt_if_eq 75 dX12_spot_68 (by decide) (fun t68 => ?_) (fun f68 => ?_)
      · refine xt_iload_n _ dX12_spot_75 rfl ?_
        exact xt_iret .int dX12_spot_76 rfl (by first | rfl | assumption) ⟨by rw [if_pos t68], hJ.2.2⟩
      · refine xt_iload_n _ dX12_spot_71 rfl ?_
        refine xt_goto 76 dX12_spot_72 (by decide) ?_
        exact xt_iret .int dX12_spot_76 rfl (by first | rfl | assumption) ⟨by rw [if_neg f68], hJ.2.2⟩
    | succ n7 ih7 =>
      intro m μ2 v5 hJ hmn
      have hlt : m < 100 := by omega
      obtain ⟨⟨G, hSG, hGF⟩, h34, hfr2⟩ := hJ
      have hfb : s_hf F m ≤ 8 := Nat.le_trans (s_cnt_le _ _) h8
      have hsb := s_bits_lt (fun g => decide (s_farG F g (m / 10) (m % 10) < s_e F g)) (F 4)
      have h256 : 2 ^ F 4 ≤ 256 := Nat.pow_le_pow_right (i := F 4) (j := 8) (by decide) h8
      have hax := s_ax_le (v := s_hf F) (c := 8) m (fun i hi => Nat.le_trans (s_cnt_le _ _) h8)
      have hdv : nI m / (10 : Int32) = nI (m / 10) := pk_div (by omega) (by decide) (by decide)
      have hrm : nI m - nI m / (10 : Int32) * 10 = nI (m % 10) := pk_rem (d := 10) (by omega) (by decide) (by decide)
      refine xt_iload _ dX12_spot_7 rfl ?_
      refine xt_bipush (100) dX12_spot_9 (by decide) ?_
      refine xt_icmp_ge 67 dX12_spot_11 (by decide) (fun q => absurd q (nI_ge (b := 100) hlt (by decide))) (fun _ => ?_)
      refine xt_aload_n _ dX12_spot_14 rfl ?_
      refine xt_iload _ dX12_spot_15 rfl ?_
      refine xt_bipush (10) dX12_spot_17 (by decide) ?_
      refine xt_idiv dX12_spot_19 (by decide) ?_
      rw [hdv]
      refine xt_puti dX12_spot_20 kpX12_257 (by first | exact sh152 | rfl | assumption) rfl (by first | rfl | assumption) (by first | rfl | assumption) ?_
      refine xt_aload_n _ dX12_spot_23 rfl ?_
      refine xt_iload _ dX12_spot_24 rfl ?_
      refine xt_bipush (10) dX12_spot_26 (by decide) ?_
      refine xt_irem dX12_spot_28 (by decide) ?_
      rw [hrm]
      refine xt_puti dX12_spot_29 kpX12_260 (by first | exact sh152 | rfl | assumption) rfl (by first | rfl | assumption) (by first | rfl | assumption) ?_
      refine xt_aload_n _ dX12_spot_32 rfl ?_
      refine xt_cV _ dX12_spot_33 klX12_322 (tX12_offenders sc _ (x_u (x_u μ2 152 (upd (μ2 152) 26 (nI (m / 10)))) 152 (upd (x_u μ2 152 (upd (μ2 152) 26 (nI (m / 10))) 152) 27 (nI (m % 10)))) _ f (s_mv F m) (hSG.stand hGF m) (s_mv_W hW hlt) 0 (fun _ => false) s_strM0 0 0 (by decide) (by decide) h34.1 h34.2.1 h34.2.2) sh152 rfl rfl (Nat.le_of_ble_eq_true rfl) ?_
      rw [s_any_offs, s_mv_offs hW]
      refine xt_cS _ dX12_spot_36 klX12_412 (tX12_ones sc _ (x_u (x_u μ2 152 (upd (μ2 152) 26 (nI (m / 10)))) 152 (upd (x_u μ2 152 (upd (μ2 152) 26 (nI (m / 10))) 152) 27 (nI (m % 10)))) _ _ (by omega)) rfl rfl (Nat.le_of_ble_eq_true rfl) ?_
      rw [s_pop_bits _ h8]
      change x_T _ _ _ _ _ (.int (nI (s_hf F m)) :: _) _ _ _
      refine xt_istore dX12_spot_39 (by decide) rfl ?_
      change x_T _ _ _ _ [_, _, _, _, _, _] _ _ _ _
      refine xt_iload _ dX12_spot_41 rfl ?_
      refine xt_iload_n _ dX12_spot_43 rfl ?_
      refine xt_icmp_le 52 dX12_spot_44 (by decide) (fun t44 => ?_) (fun f44 => ?_)
      · refine xt_iload_n _ dX12_spot_52 rfl ?_
        refine xt_istore_n dX12_spot_53 (by decide) rfl ?_
        change x_T _ _ _ _ [_, _, _, _, _, _] _ _ _ _
        refine xt_iload_n _ dX12_spot_54 rfl ?_
        refine xt_iload _ dX12_spot_55 rfl ?_
        refine xt_cS _ dX12_spot_57 klX12_153 (tX12_greater sc _ (x_u (x_u μ2 152 (upd (μ2 152) 26 (nI (m / 10)))) 152 (upd (x_u μ2 152 (upd (μ2 152) 26 (nI (m / 10))) 152) 27 (nI (m % 10)))) _ _ _) rfl rfl (Nat.le_of_ble_eq_true rfl) ?_
        refine xt_istore_n dX12_spot_60 (by decide) rfl ?_
        change x_T _ _ _ _ [_, _, _, _, _, _] _ _ _ _
        refine xt_inc _ (1) dX12_spot_61 rfl (by decide) (by decide) rfl ?_
        change x_T _ _ _ _ [_, _, _, _, _, _] _ _ _ _
        refine xt_goto 7 dX12_spot_64 (by decide) ?_
        refine x_T.ls ?_ (ih7 (m + 1) (x_u (x_u μ2 152 (upd (μ2 152) 26 (nI (m / 10)))) 152 (upd (x_u μ2 152 (upd (μ2 152) 26 (nI (m / 10))) 152) 27 (nI (m % 10)))) (.int (nI (s_hf F m))) ⟨⟨_, hSG.stand hGF m, fun i hi => s_mv_2 F m hi⟩, h34, fun a ha => by rw [x_u_ne ha, x_u_ne ha]; exact hfr2 a ha⟩ (by omega))
        rw [s_gr_eI (by omega) (by omega)]
        rw [eI_lt (by omega) (by omega)] at t44
        rw [s_ax_n (v := s_hf F) (n := m) (by omega), nI_succ m, Nat.max_eq_left (by omega)]
      · refine xt_iload _ dX12_spot_47 rfl ?_
        refine xt_goto 53 dX12_spot_49 (by decide) ?_
        refine xt_istore_n dX12_spot_53 (by decide) rfl ?_
        change x_T _ _ _ _ [_, _, _, _, _, _] _ _ _ _
        refine xt_iload_n _ dX12_spot_54 rfl ?_
        refine xt_iload _ dX12_spot_55 rfl ?_
        refine xt_cS _ dX12_spot_57 klX12_153 (tX12_greater sc _ (x_u (x_u μ2 152 (upd (μ2 152) 26 (nI (m / 10)))) 152 (upd (x_u μ2 152 (upd (μ2 152) 26 (nI (m / 10))) 152) 27 (nI (m % 10)))) _ _ _) rfl rfl (Nat.le_of_ble_eq_true rfl) ?_
        refine xt_istore_n dX12_spot_60 (by decide) rfl ?_
        change x_T _ _ _ _ [_, _, _, _, _, _] _ _ _ _
        refine xt_inc _ (1) dX12_spot_61 rfl (by decide) (by decide) rfl ?_
        change x_T _ _ _ _ [_, _, _, _, _, _] _ _ _ _
        refine xt_goto 7 dX12_spot_64 (by decide) ?_
        refine x_T.ls ?_ (ih7 (m + 1) (x_u (x_u μ2 152 (upd (μ2 152) 26 (nI (m / 10)))) 152 (upd (x_u μ2 152 (upd (μ2 152) 26 (nI (m / 10))) 152) 27 (nI (m % 10)))) (.int (nI (s_hf F m))) ⟨⟨_, hSG.stand hGF m, fun i hi => s_mv_2 F m hi⟩, h34, fun a ha => by rw [x_u_ne ha, x_u_ne ha]; exact hfr2 a ha⟩ (by omega))
        rw [s_gr_eI (by omega) (by omega)]
        rw [eI_lt (by omega) (by omega)] at f44
        rw [s_ax_y (v := s_hf F) (n := m) (by omega), nI_succ m, Nat.max_eq_right (by omega)]
        simp only [eI_s]
  exact L7 (100) 0 μ _ ⟨⟨F, hS, fun _ _ => rfl⟩, h0, fun _ _ => rfl⟩ (by omega)
set_option maxHeartbeats 1000000 in
theorem tX12_twins (f : Nat) (F : Nat → Nat) (hS : m_S μ f F) (hW : f_W F) : x_K sc d mX12_twins [.ref 152] μ w (x_p (some (.int (nI (s_tm F (F 4))))) μ w) := by
  have h8 : F 4 ≤ 8 := hW.1.2.2.2.2.1
  have e4 : μ 152 24 = nI (F 4) := hS.1.2.2.2.1
  refine x_K.of (by decide) (Nat.le_of_ble_eq_true rfl) ?_
  show x_T sc d mX12_twins 0 [.ref 152, .retAddr 0, .retAddr 0, .retAddr 0, .retAddr 0, .retAddr 0] [] μ w _
  refine xt_iconst (0) dX12_twins_0 (by decide) ?_
  refine xt_istore_n dX12_twins_1 (by decide) rfl ?_
  change x_T _ _ _ _ [_, _, _, _, _, _] _ _ _ _
  refine xt_iconst (0) dX12_twins_2 (by decide) ?_
  refine xt_istore_n dX12_twins_3 (by decide) rfl ?_
  change x_T _ _ _ _ [_, _, _, _, _, _] _ _ _ _
  have L4 : ∀ (n4 a : Nat) (v3 v4 v5 : Value), a + n4 = F 4 → x_T sc d mX12_twins 4 [.ref 152, .int (nI (s_tm F a)), .int (nI a), v3, v4, v5] [] μ w (x_p (some (.int (nI (s_tm F (F 4))))) μ w) := by
    intro n4
    induction n4 with
    | zero =>
      intro a v3 v4 v5 hmn
      obtain rfl : F 4 = a := by omega
      refine xt_iload_n _ dX12_twins_4 rfl ?_
      refine xt_aload_n _ dX12_twins_5 rfl ?_
      refine xt_geti dX12_twins_6 kfX12_251 (by first | exact sh152 | rfl | assumption) rfl ?_
      refine xt_icmp_ge 102 dX12_twins_9 (by decide) (fun _ => ?_) (fun q => absurd (by rw [e4]; exact Int32.le_refl _) q)
      refine xt_iload_n _ dX12_twins_102 rfl ?_
      exact xt_iret .int dX12_twins_103 rfl (by first | rfl | assumption) ⟨rfl, rfl, rfl⟩
    | succ n4 ih4 =>
      intro a v3 v4 v5 hmn
      have hlt_a : a < F 4 := by omega
      refine xt_iload_n _ dX12_twins_4 rfl ?_
      refine xt_aload_n _ dX12_twins_5 rfl ?_
      refine xt_geti dX12_twins_6 kfX12_251 (by first | exact sh152 | rfl | assumption) rfl ?_
      refine xt_icmp_ge 102 dX12_twins_9 (by decide) (fun q => absurd q (by rw [e4]; exact nI_ge hlt_a (by omega))) (fun _ => ?_)
      refine xt_iconst (0) dX12_twins_12 (by decide) ?_
      refine xt_istore_n dX12_twins_13 (by decide) rfl ?_
      change x_T _ _ _ _ [_, _, _, _, _, _] _ _ _ _
      have L14 : ∀ (n14 b : Nat) (v4 v5 : Value), b + n14 = a → x_T sc d mX12_twins 14 [.ref 152, .int (nI (s_tm F a + (s_cnt (fun b => s_tq F a b) b))), .int (nI a), .int (nI b), v4, v5] [] μ w (x_p (some (.int (nI (s_tm F (F 4))))) μ w) := by
        intro n14
        induction n14 with
        | zero =>
          intro b v4 v5 hmn
          obtain rfl : a = b := by omega
          refine xt_iload_n _ dX12_twins_14 rfl ?_
          refine xt_iload_n _ dX12_twins_15 rfl ?_
          refine xt_icmp_ge 96 dX12_twins_16 (by decide) (fun _ => ?_) (fun q => absurd (Int32.le_refl _) q)
          refine xt_inc _ (1) dX12_twins_96 rfl (by decide) (by decide) rfl ?_
          change x_T _ _ _ _ [_, _, _, _, _, _] _ _ _ _
          refine xt_goto 4 dX12_twins_99 (by decide) ?_
          refine x_T.ls ?_ (ih4 (a + 1) (.int (nI a)) v4 v5 (by omega))
          rw [nI_succ a]
          rfl
        | succ n14 ih14 =>
          intro b v4 v5 hmn
          have hlt_b : b < a := by omega
          refine xt_iload_n _ dX12_twins_14 rfl ?_
          refine xt_iload_n _ dX12_twins_15 rfl ?_
          refine xt_icmp_ge 96 dX12_twins_16 (by decide) (fun q => absurd q (nI_ge hlt_b (by omega))) (fun _ => ?_)
          refine xt_iconst (1) dX12_twins_19 (by decide) ?_
          refine xt_istore dX12_twins_20 (by decide) rfl ?_
          change x_T _ _ _ _ [_, _, _, _, _, _] _ _ _ _
          refine xt_iconst (0) dX12_twins_22 (by decide) ?_
          refine xt_istore dX12_twins_23 (by decide) rfl ?_
          change x_T _ _ _ _ [_, _, _, _, _, _] _ _ _ _
          have L25 : ∀ (n25 m : Nat) , m + n25 = 6 → x_T sc d mX12_twins 25 [.ref 152, .int (nI (s_tm F a + (s_cnt (fun b => s_tq F a b) b))), .int (nI a), .int (nI b), .int (if s_al (fun j => decide (F (41 + (6 * a + j)) = F (41 + (6 * b + j)))) m then 1 else 0), .int (nI m)] [] μ w (x_p (some (.int (nI (s_tm F (F 4))))) μ w) := by
            intro n25
            induction n25 with
            | zero =>
              intro m  hmn
              obtain rfl : 6 = m := by omega
              refine xt_iload _ dX12_twins_25 rfl ?_
              refine xt_bipush (6) dX12_twins_27 (by decide) ?_
              refine xt_icmp_ge 77 dX12_twins_29 (by decide) (fun _ => ?_) (fun q => absurd (by decide) q)
              refine xt_iload_n _ dX12_twins_77 rfl ?_
              refine xt_iload _ dX12_twins_78 rfl ?_
              refine xt_if_eq 87 dX12_twins_80 (by decide) (fun t80 => ?_) (fun f80 => ?_)
              · refine xt_iconst (0) dX12_twins_87 (by decide) ?_
                refine xt_iadd dX12_twins_88 ?_
                refine xt_istore_n dX12_twins_89 (by decide) rfl ?_
                change x_T _ _ _ _ [_, _, _, _, _, _] _ _ _ _
                refine xt_inc _ (1) dX12_twins_90 rfl (by decide) (by decide) rfl ?_
                change x_T _ _ _ _ [_, _, _, _, _, _] _ _ _ _
                refine xt_goto 14 dX12_twins_93 (by decide) ?_
                refine x_T.ls ?_ (ih14 (b + 1) (.int (if s_al (fun j => decide (F (41 + (6 * a + j)) = F (41 + (6 * b + j)))) 6 then 1 else 0)) (.int (nI 6)) (by omega))
                have hq : s_tq F a b = false := by cases hq : s_tq F a b <;> simp_all
                have es : s_cnt (fun b => s_tq F a b) (b + 1) = s_cnt (fun b => s_tq F a b) b := by rw [s_cnt, hq]; rfl
                rw [es, nI_succ b, Int32.add_zero]
              · refine xt_iconst (1) dX12_twins_83 (by decide) ?_
                refine xt_goto 88 dX12_twins_84 (by decide) ?_
                refine xt_iadd dX12_twins_88 ?_
                refine xt_istore_n dX12_twins_89 (by decide) rfl ?_
                change x_T _ _ _ _ [_, _, _, _, _, _] _ _ _ _
                refine xt_inc _ (1) dX12_twins_90 rfl (by decide) (by decide) rfl ?_
                change x_T _ _ _ _ [_, _, _, _, _, _] _ _ _ _
                refine xt_goto 14 dX12_twins_93 (by decide) ?_
                refine x_T.ls ?_ (ih14 (b + 1) (.int (if s_al (fun j => decide (F (41 + (6 * a + j)) = F (41 + (6 * b + j)))) 6 then 1 else 0)) (.int (nI 6)) (by omega))
                have hq : s_tq F a b = true := by cases hq : s_tq F a b <;> simp_all
                have es : s_cnt (fun b => s_tq F a b) (b + 1) = s_cnt (fun b => s_tq F a b) b + 1 := by rw [s_cnt, hq]; rfl
                rw [es, nI_succ b, ← Nat.add_assoc, nI_succ (s_tm F a + s_cnt _ b)]
            | succ n25 ih25 =>
              intro m  hmn
              have hlt : m < 6 := by omega
              have hia : (6 : Int32) * nI a + nI m = nI (6 * a + m) := by rw [show (6 : Int32) = nI 6 from rfl, pk_mul, nI_add]
              have hib : (6 : Int32) * nI b + nI m = nI (6 * b + m) := by rw [show (6 : Int32) = nI 6 from rfl, pk_mul, nI_add]
              have hwa := hW.2.2.2.1 (6 * a + m) (by omega)
              have hwb := hW.2.2.2.1 (6 * b + m) (by omega)
              refine xt_iload _ dX12_twins_25 rfl ?_
              refine xt_bipush (6) dX12_twins_27 (by decide) ?_
              refine xt_icmp_ge 77 dX12_twins_29 (by decide) (fun q => absurd q (nI_ge (b := 6) hlt (by decide))) (fun _ => ?_)
              refine xt_iload _ dX12_twins_32 rfl ?_
              refine xt_if_eq 68 dX12_twins_34 (by decide) (fun t34 => ?_) (fun f34 => ?_)
              · refine xt_iconst (0) dX12_twins_68 (by decide) ?_
                refine xt_istore dX12_twins_69 (by decide) rfl ?_
                change x_T _ _ _ _ [_, _, _, _, _, _] _ _ _ _
                refine xt_inc _ (1) dX12_twins_71 rfl (by decide) (by decide) rfl ?_
                change x_T _ _ _ _ [_, _, _, _, _, _] _ _ _ _
                refine xt_goto 25 dX12_twins_74 (by decide) ?_
                refine x_T.ls ?_ (ih25 (m + 1) (by omega))
                have h1 : s_al (fun j => decide (F (41 + (6 * a + j)) = F (41 + (6 * b + j)))) m = false := by cases hq : s_al (fun j => decide (F (41 + (6 * a + j)) = F (41 + (6 * b + j)))) m <;> simp_all
                rw [s_al, h1, nI_succ m]
                rfl
              · refine xt_aload_n _ dX12_twins_37 rfl ?_
                refine xt_getr _ dX12_twins_38 kfX12_47 (by first | exact sh152 | rfl | assumption) rfl ?_
                refine xt_bipush (6) dX12_twins_41 (by decide) ?_
                refine xt_iload_n _ dX12_twins_43 rfl ?_
                refine xt_imul dX12_twins_44 ?_
                refine xt_iload _ dX12_twins_45 rfl ?_
                refine xt_iadd dX12_twins_47 ?_
                refine xt_ald dX12_twins_48 (by first | exact sh152 | rfl | assumption) (by first | (rw [hia]; exact vp_in_nI (by omega) (by decide)) | (rw [hib]; exact vp_in_nI (by omega) (by decide))) ?_
                refine xt_aload_n _ dX12_twins_49 rfl ?_
                refine xt_getr _ dX12_twins_50 kfX12_47 (by first | exact sh152 | rfl | assumption) rfl ?_
                refine xt_bipush (6) dX12_twins_53 (by decide) ?_
                refine xt_iload_n _ dX12_twins_55 rfl ?_
                refine xt_imul dX12_twins_56 ?_
                refine xt_iload _ dX12_twins_57 rfl ?_
                refine xt_iadd dX12_twins_59 ?_
                refine xt_ald dX12_twins_60 (by first | exact sh152 | rfl | assumption) (by first | (rw [hia]; exact vp_in_nI (by omega) (by decide)) | (rw [hib]; exact vp_in_nI (by omega) (by decide))) ?_
                refine xt_icmp_ne 68 dX12_twins_61 (by decide) (fun t61 => ?_) (fun f61 => ?_)
                · refine xt_iconst (0) dX12_twins_68 (by decide) ?_
                  refine xt_istore dX12_twins_69 (by decide) rfl ?_
                  change x_T _ _ _ _ [_, _, _, _, _, _] _ _ _ _
                  refine xt_inc _ (1) dX12_twins_71 rfl (by decide) (by decide) rfl ?_
                  change x_T _ _ _ _ [_, _, _, _, _, _] _ _ _ _
                  refine xt_goto 25 dX12_twins_74 (by decide) ?_
                  refine x_T.ls ?_ (ih25 (m + 1) (by omega))
                  have h1 : s_al (fun j => decide (F (41 + (6 * a + j)) = F (41 + (6 * b + j)))) m = true := by cases hq : s_al (fun j => decide (F (41 + (6 * a + j)) = F (41 + (6 * b + j)))) m <;> simp_all
                  rw [hia, hib, nI_clamp (by omega), nI_clamp (by omega), hS.2.2.1 _ (by omega), hS.2.2.1 _ (by omega), nI_eq (by omega) (by omega)] at t61
                  rw [s_al, h1, decide_eq_false t61, nI_succ m]
                  rfl
                · refine xt_iconst (1) dX12_twins_64 (by decide) ?_
                  refine xt_goto 69 dX12_twins_65 (by decide) ?_
                  refine xt_istore dX12_twins_69 (by decide) rfl ?_
                  change x_T _ _ _ _ [_, _, _, _, _, _] _ _ _ _
                  refine xt_inc _ (1) dX12_twins_71 rfl (by decide) (by decide) rfl ?_
                  change x_T _ _ _ _ [_, _, _, _, _, _] _ _ _ _
                  refine xt_goto 25 dX12_twins_74 (by decide) ?_
                  refine x_T.ls ?_ (ih25 (m + 1) (by omega))
                  have h1 : s_al (fun j => decide (F (41 + (6 * a + j)) = F (41 + (6 * b + j)))) m = true := by cases hq : s_al (fun j => decide (F (41 + (6 * a + j)) = F (41 + (6 * b + j)))) m <;> simp_all
                  rw [hia, hib, nI_clamp (by omega), nI_clamp (by omega), hS.2.2.1 _ (by omega), hS.2.2.1 _ (by omega), nI_eq (by omega) (by omega)] at f61
                  rw [s_al, h1, decide_eq_true f61, nI_succ m]
                  rfl
          exact L25 (6) 0  (by omega)
      exact L14 (a) 0 _ _ (by omega)
  exact L4 (F 4) 0 _ _ _ (by omega)
set_option maxHeartbeats 1000000 in
theorem tX12_grace (f : Nat) (F : Nat → Nat) (hS : m_S μ f F) (hW : f_W F) (h0 : μ 152 34 = 0 ∧ μ 152 35 = 0 ∧ μ 152 36 = 0) : x_K sc (d + 4) mX12_grace [.ref 152] μ w (fun r μ' _ => r = some (.int (nI (s_fst (s_pe F) 9 0))) ∧ ∀ a, a ≠ 152 → μ' a = μ a) := by
  have h8 : F 4 ≤ 8 := hW.1.2.2.2.2.1
  refine x_K.of (by decide) (Nat.le_of_ble_eq_true rfl) ?_
  show x_T sc (d + 4) mX12_grace 0 [.ref 152] [] μ w _
  refine xt_aload_n _ dX12_grace_0 rfl ?_
  refine xt_iconst (0) dX12_grace_1 (by decide) ?_
  refine xt_puti dX12_grace_2 kpX12_284 (by first | exact sh152 | rfl | assumption) rfl (by first | rfl | assumption) (by first | rfl | assumption) ?_
  have L5 : ∀ (n5 m : Nat) (μ2 : x_Me) (hS2 : m_S μ2 f F) (h34 : μ2 152 34 = 0 ∧ μ2 152 36 = 0) (hm : μ2 152 35 = nI m) (hfr2 : ∀ a, a ≠ 152 → μ2 a = μ a) (hr : s_fst (s_pe F) n5 m = s_fst (s_pe F) 9 0), m + n5 = 9 → x_T sc (d + 4) mX12_grace 5 [.ref 152] [] μ2 w (fun r μ' _ => r = some (.int (nI (s_fst (s_pe F) 9 0))) ∧ ∀ a, a ≠ 152 → μ' a = μ a) := by
    intro n5
    induction n5 with
    | zero =>
      intro m μ2 hS2 h34 hm hfr2 hr hmn
      obtain rfl : 9 = m := by omega
      refine xt_aload_n _ dX12_grace_5 rfl ?_
      refine xt_cV _ dX12_grace_6 klX12_322 (tX12_offenders sc _ μ2 _ f F hS2 hW 0 (fun _ => false) s_strM0 _ 0 (by omega) (by omega) h34.1 hm h34.2) sh152 rfl rfl (Nat.le_of_ble_eq_true rfl) ?_
      refine xt_if_eq 25 dX12_grace_9 (by decide) (fun _ => ?_) (fun q => absurd (by rw [(s_pe_bits F 9).mpr (s_pe_9 hW)]; rfl) q)
      refine xt_aload_n _ dX12_grace_25 rfl ?_
      refine xt_geti dX12_grace_26 kfX12_284 (by first | exact sh152 | rfl | assumption) rfl ?_
      exact xt_iret .int dX12_grace_29 rfl (by first | rfl | assumption) ⟨by rw [hm, ← hr]; rfl, hfr2⟩
    | succ n5 ih5 =>
      intro m μ2 hS2 h34 hm hfr2 hr hmn
      have hlt : m < 9 := by omega
      have hsb := s_bits_lt (fun g => s_any F (fun _ => false) m 0 g (F 3)) (F 4)
      have h256 : 2 ^ F 4 ≤ 256 := Nat.pow_le_pow_right (i := F 4) (j := 8) (by decide) h8
      refine xt_aload_n _ dX12_grace_5 rfl ?_
      refine xt_cV _ dX12_grace_6 klX12_322 (tX12_offenders sc _ μ2 _ f F hS2 hW 0 (fun _ => false) s_strM0 _ 0 (by omega) (by omega) h34.1 hm h34.2) sh152 rfl rfl (Nat.le_of_ble_eq_true rfl) ?_
      refine xt_if_eq 25 dX12_grace_9 (by decide) (fun t9 => ?_) (fun f9 => ?_)
      · refine xt_aload_n _ dX12_grace_25 rfl ?_
        refine xt_geti dX12_grace_26 kfX12_284 (by first | exact sh152 | rfl | assumption) rfl ?_
        exact xt_iret .int dX12_grace_29 rfl (by first | rfl | assumption) ⟨by rw [hm, ← hr, s_fst, if_pos ((s_pe_bits F m).mp ((nI_0e (by omega)).mp t9))], hfr2⟩
      · refine xt_aload_n _ dX12_grace_12 rfl ?_
        refine xt_dup dX12_grace_13 rfl ?_
        refine xt_geti dX12_grace_14 kfX12_284 (by first | exact sh152 | rfl | assumption) rfl ?_
        refine xt_iconst (1) dX12_grace_17 (by decide) ?_
        refine xt_iadd dX12_grace_18 ?_
        refine xt_puti dX12_grace_19 kpX12_284 (by first | exact sh152 | rfl | assumption) rfl (by first | rfl | assumption) (by first | rfl | assumption) ?_
        refine xt_goto 5 dX12_grace_22 (by decide) ?_
        refine ih5 (m + 1) _ hS2 h34 (by show μ2 152 35 + 1 = nI (m + 1); rw [hm, nI_succ m]) (fun a ha => by rw [x_u_ne ha]; exact hfr2 a ha) (by rw [← hr, s_fst, if_neg (fun z => f9 (by rw [(s_pe_bits F m).mpr z]; rfl))]) (by omega)
  exact L5 (9) 0 _ hS ⟨h0.1, h0.2.2⟩ rfl (fun a ha => x_u_ne ha) rfl (by omega)
theorem s_df_bits (F : Nat → Nat) (e : Nat) : s_bits (fun g => s_any F (fun _ => false) 0 e g (F 3)) (F 4) = 0 ↔ s_df F (F 4) ≤ e := by
  rw [s_bits_z]
  constructor
  · intro h
    refine s_mxx_le _ (fun g hg => ?_)
    have := h g hg
    rw [s_any_ear2] at this
    have := of_decide_eq_false this
    show s_ear F (fun _ => false) 0 g (F 3) - s_farO F g ≤ e
    omega
  · intro h g hg
    have := s_mxx_ge (fun g => s_e F g - s_farO F g) (F 4) g hg
    have h2 : s_ear F (fun _ => false) 0 g (F 3) - s_farO F g ≤ e := Nat.le_trans this h
    rw [s_any_ear2]
    exact decide_eq_false (by omega)
theorem s_df_19 {F : Nat → Nat} (hW : f_W F) : s_df F (F 4) ≤ 19 := s_mxx_le _ (fun i hi => by have : s_e F i ≤ 19 := s_ear_le hW (fun _ => false) 0 i (F 3) (Nat.le_refl _); omega)
set_option maxHeartbeats 1000000 in
theorem tX12_deaf (f : Nat) (F : Nat → Nat) (hS : m_S μ f F) (hW : f_W F) (h0 : μ 152 34 = 0 ∧ μ 152 35 = 0 ∧ μ 152 36 = 0) : x_K sc (d + 4) mX12_deaf [.ref 152] μ w (fun r μ' _ => r = some (.int (nI (s_df F (F 4)))) ∧ ∀ a, a ≠ 152 → μ' a = μ a) := by
  have h8 : F 4 ≤ 8 := hW.1.2.2.2.2.1
  refine x_K.of (by decide) (Nat.le_of_ble_eq_true rfl) ?_
  show x_T sc (d + 4) mX12_deaf 0 [.ref 152] [] μ w _
  refine xt_aload_n _ dX12_deaf_0 rfl ?_
  refine xt_iconst (0) dX12_deaf_1 (by decide) ?_
  refine xt_puti dX12_deaf_2 kpX12_287 (by first | exact sh152 | rfl | assumption) rfl (by first | rfl | assumption) (by first | rfl | assumption) ?_
  have L5 : ∀ (n5 m : Nat) (μ2 : x_Me) (hS2 : m_S μ2 f F) (h34 : μ2 152 34 = 0 ∧ μ2 152 35 = 0) (hm : μ2 152 36 = nI m) (hfr2 : ∀ a, a ≠ 152 → μ2 a = μ a) (hr : m ≤ s_df F (F 4)), m + n5 = 19 → x_T sc (d + 4) mX12_deaf 5 [.ref 152] [] μ2 w (fun r μ' _ => r = some (.int (nI (s_df F (F 4)))) ∧ ∀ a, a ≠ 152 → μ' a = μ a) := by
    intro n5
    induction n5 with
    | zero =>
      intro m μ2 hS2 h34 hm hfr2 hr hmn
      obtain rfl : 19 = m := by omega
      refine xt_aload_n _ dX12_deaf_5 rfl ?_
      refine xt_cV _ dX12_deaf_6 klX12_322 (tX12_offenders sc _ μ2 _ f F hS2 hW 0 (fun _ => false) s_strM0 0 _ (by omega) (by omega) h34.1 h34.2 hm) sh152 rfl rfl (Nat.le_of_ble_eq_true rfl) ?_
      refine xt_if_eq 25 dX12_deaf_9 (by decide) (fun _ => ?_) (fun q => absurd (by rw [(s_df_bits F 19).mpr (s_df_19 hW)]; rfl) q)
      refine xt_aload_n _ dX12_deaf_25 rfl ?_
      refine xt_geti dX12_deaf_26 kfX12_287 (by first | exact sh152 | rfl | assumption) rfl ?_
      exact xt_iret .int dX12_deaf_29 rfl (by first | rfl | assumption) ⟨by rw [hm, Nat.le_antisymm hr (s_df_19 hW)], hfr2⟩
    | succ n5 ih5 =>
      intro m μ2 hS2 h34 hm hfr2 hr hmn
      have hlt : m < 19 := by omega
      have hsb := s_bits_lt (fun g => s_any F (fun _ => false) 0 m g (F 3)) (F 4)
      have h256 : 2 ^ F 4 ≤ 256 := Nat.pow_le_pow_right (i := F 4) (j := 8) (by decide) h8
      refine xt_aload_n _ dX12_deaf_5 rfl ?_
      refine xt_cV _ dX12_deaf_6 klX12_322 (tX12_offenders sc _ μ2 _ f F hS2 hW 0 (fun _ => false) s_strM0 0 _ (by omega) (by omega) h34.1 h34.2 hm) sh152 rfl rfl (Nat.le_of_ble_eq_true rfl) ?_
      refine xt_if_eq 25 dX12_deaf_9 (by decide) (fun t9 => ?_) (fun f9 => ?_)
      · refine xt_aload_n _ dX12_deaf_25 rfl ?_
        refine xt_geti dX12_deaf_26 kfX12_287 (by first | exact sh152 | rfl | assumption) rfl ?_
        exact xt_iret .int dX12_deaf_29 rfl (by first | rfl | assumption) ⟨by rw [hm, Nat.le_antisymm hr ((s_df_bits F m).mp ((nI_0e (by omega)).mp t9))], hfr2⟩
      · refine xt_aload_n _ dX12_deaf_12 rfl ?_
        refine xt_dup dX12_deaf_13 rfl ?_
        refine xt_geti dX12_deaf_14 kfX12_287 (by first | exact sh152 | rfl | assumption) rfl ?_
        refine xt_iconst (1) dX12_deaf_17 (by decide) ?_
        refine xt_iadd dX12_deaf_18 ?_
        refine xt_puti dX12_deaf_19 kpX12_287 (by first | exact sh152 | rfl | assumption) rfl (by first | rfl | assumption) (by first | rfl | assumption) ?_
        refine xt_goto 5 dX12_deaf_22 (by decide) ?_
        refine ih5 (m + 1) _ hS2 h34 (by show μ2 152 36 + 1 = nI (m + 1); rw [hm, nI_succ m]) (fun a ha => by rw [x_u_ne ha]; exact hfr2 a ha) (by have hz : ¬ s_df F (F 4) ≤ m := (fun z => f9 (by rw [(s_df_bits F m).mpr z]; rfl)); omega) (by omega)
  exact L5 (19) 0 _ hS ⟨h0.1, h0.2.1⟩ rfl (fun a ha => x_u_ne ha) (Nat.zero_le _) (by omega)
end CENTREM
set_option maxHeartbeats 2000000 in
theorem st_centre (sc : Nat × (Nat → Int32)) (a1 a2 : Int32) : x_stI sc (fun μ _ => x_Inv μ) (fun μ _ => x_Inv μ) mX11_centre mX12_centre [.int a1, .int a2] := by
  refine x_stF (-2) ?_ ?_ ?_
  · intro μ w c hc e hk
    refine x_K.of (by decide) (Nat.le_of_ble_eq_true rfl) ?_
    show x_T sc 29 mX11_centre 0 [.ref 0, .int a1, .int a2, .retAddr 0] [] μ w _
    refine xt_aload_n _ dX11_centre_0 rfl ?_
    refine xt_iload_n _ dX11_centre_1 rfl ?_
    refine xt_cV _ dX11_centre_2 klX11_90 (tX11_fairOf_no sc _ μ w c hc e _ hk) sh0 rfl rfl (Nat.le_of_ble_eq_true rfl) ?_
    refine xt_astore_n0 dX11_centre_5 (by decide) rfl ?_
    change x_T _ _ _ _ [_, _, _, _] _ _ _ _
    refine xt_aload_n0 dX11_centre_6 rfl ?_
    refine xt_ifnonnull_n dX11_centre_7 ?_
    refine xt_bipush (-2) dX11_centre_10 (by decide) ?_
    exact xt_iret .int dX11_centre_12 rfl (by first | rfl | assumption) ⟨rfl, x_keep.rf μ⟩
  · intro μ w c hc e hk
    refine x_K.of (by decide) (Nat.le_of_ble_eq_true rfl) ?_
    show x_T sc 29 mX12_centre 0 [.ref 152, .int a1, .int a2] [] μ w _
    refine xt_aload_n _ dX12_centre_0 rfl ?_
    refine xt_iconst (0) dX12_centre_1 (by decide) ?_
    refine xt_puti dX12_centre_2 kpX12_72 (by first | exact sh152 | rfl | assumption) rfl (by first | rfl | assumption) (by first | rfl | assumption) ?_
    refine xt_aload_n _ dX12_centre_5 rfl ?_
    refine xt_iload_n _ dX12_centre_6 rfl ?_
    refine xt_cV _ dX12_centre_7 klX12_300 (tX12_hand_no sc _ (x_u μ 152 (upd (μ 152) 0 0)) w c hc e _ hk) sh152 rfl rfl (Nat.le_of_ble_eq_true rfl) ?_
    refine xt_if_ne 16 dX12_centre_10 (by decide) (fun q => absurd (by decide) q) (fun _ => ?_)
    refine xt_bipush (-2) dX12_centre_13 (by decide) ?_
    exact xt_iret .int dX12_centre_15 rfl (by first | rfl | assumption) ⟨rfl, (x_keep.u (x_keep.rf μ) (by unfold x_ok; omega))⟩
  · intro f F hf2 hkk hW
    subst hkk
    have h8 := hW.1.2.2.2.2.1
    have hal := s_am_le (v := (s_fa F)) (ok := (fun _ => true)) (lim := 1000000) 100
    have hax := s_ax_le (v := s_hf F) (c := 8) 100 (fun i hi => Nat.le_trans (s_cnt_le _ _) h8)
    have hax0 : (s_ax (s_hf F) 100).1 ≠ 0 := s_ax_1 99
    have hax1 : eI (s_ax (s_hf F) 100).1 = nI ((s_ax (s_hf F) 100).1 - 1) := by
      obtain ⟨q, hq⟩ : ∃ q, (s_ax (s_hf F) 100).1 = q + 1 := ⟨(s_ax (s_hf F) 100).1 - 1, by omega⟩
      rw [hq, eI_s]; rfl
    have hmd0 : (s_am (s_fa F) (fun _ => true) 1000000 100).1 ≠ 0 := by
      have key : ∀ n, (s_am (s_fa F) (fun _ => true) 1000000 (n + 1)).1 ≠ 0 := by
        intro n
        induction n with
        | zero =>
          have h00 : s_fa F 0 ≤ 144 := s_fa_le hW (p := 0) (by decide) (Nat.le_refl _)
          have e1 : s_am (s_fa F) (fun _ => true) 1000000 (0 + 1) = (0 + 1, s_fa F 0) := s_am_y (v := (s_fa F)) (ok := (fun _ => true)) rfl (by show s_fa F 0 < 1000000; omega)
          rw [e1]; simp
        | succ n ih => rw [s_am]; split
                       · simp
                       · exact ih
      exact key 99
    have hmd1 : eI (s_am (s_fa F) (fun _ => true) 1000000 100).1 = nI ((s_am (s_fa F) (fun _ => true) 1000000 100).1 - 1) := by
      obtain ⟨q, hq⟩ : ∃ q, (s_am (s_fa F) (fun _ => true) 1000000 100).1 = q + 1 := ⟨(s_am (s_fa F) (fun _ => true) 1000000 100).1 - 1, by omega⟩
      rw [hq, eI_s]; rfl
    by_cases hw : 0 ≤ a2 ∧ a2 ≤ nI 6
    · obtain ⟨j, hj, rfl⟩ := x_rng (N := 6) (by decide) hw
      have hj' : j = 0 ∨ j = 1 ∨ j = 2 ∨ j = 3 ∨ j = 4 ∨ j = 5 ∨ j = 6 := by omega
      rcases hj' with rfl | rfl | rfl | rfl | rfl | rfl | rfl
      · skip
        refine ⟨nI ((s_am (s_fa F) (fun _ => true) 1000000 100).1 - 1), ?_, ?_⟩
        · intro μ w c hf hc e hC
          have hS := f_Sf hf2
          refine x_K.of (by decide) (Nat.le_of_ble_eq_true rfl) ?_
          show x_T sc 29 mX11_centre 0 [.ref 0, .int (nI f), .int (nI 0), .retAddr 0] [] μ w _
          refine xt_aload_n _ dX11_centre_0 rfl ?_
          refine xt_iload_n _ dX11_centre_1 rfl ?_
          refine xt_cV _ dX11_centre_2 klX11_90 (tX11_fairOf sc _ μ w f c hf hc e) sh0 rfl rfl (Nat.le_of_ble_eq_true rfl) ?_
          refine xt_astore_n dX11_centre_5 (by decide) rfl ?_
          change x_T _ _ _ _ [_, _, _, _] _ _ _ _
          refine xt_aload_n _ dX11_centre_6 rfl ?_
          refine xt_ifnonnull_r 13 dX11_centre_7 (by decide) ?_
          refine xt_iload_n _ dX11_centre_13 rfl ?_
          refine xt_tabIn 56 dX11_centre_14 (by decide) (by decide) (by rfl) (by decide) ?_
          refine xt_aload_n _ dX11_centre_56 rfl ?_
          refine xt_cS _ dX11_centre_57 klX11_257 (tX3_middle sc _ w hS hC hW) rfl rfl (Nat.le_of_ble_eq_true rfl) ?_
          exact xt_iret .int dX11_centre_60 rfl (by first | rfl | assumption) ⟨rfl, x_keep.rf μ⟩
        · intro μ w c hf hc e hF
          refine x_K.of (by decide) (Nat.le_of_ble_eq_true rfl) ?_
          show x_T sc 29 mX12_centre 0 [.ref 152, .int (nI f), .int (nI 0)] [] μ w _
          refine xt_aload_n _ dX12_centre_0 rfl ?_
          refine xt_iconst (0) dX12_centre_1 (by decide) ?_
          refine xt_puti dX12_centre_2 kpX12_72 (by first | exact sh152 | rfl | assumption) rfl (by first | rfl | assumption) (by first | rfl | assumption) ?_
          refine xt_aload_n _ dX12_centre_5 rfl ?_
          refine xt_iload_n _ dX12_centre_6 rfl ?_
          refine xt_callV _ dX12_centre_7 klX12_300 (tX12_hand sc _ (x_u μ 152 (upd (μ 152) 0 0)) w f c F hf hc e hF) sh152 rfl rfl (Nat.le_of_ble_eq_true rfl) (fun r1 μ1 w1 q1 => ?_)
          obtain ⟨rfl, rfl, hS, h0, hfr⟩ := q1
          change x_T _ _ _ _ _ (.int 1 :: _) _ _ _
          refine xt_if_ne 16 dX12_centre_10 (by decide) (fun _ => ?_) (fun q => absurd q (by decide))
          refine xt_iload_n _ dX12_centre_16 rfl ?_
          refine xt_tabIn 60 dX12_centre_17 (by decide) (by decide) (by rfl) (by decide) ?_
          refine xt_aload_n _ dX12_centre_60 rfl ?_
          refine xt_iload_n _ dX12_centre_61 rfl ?_
          refine xt_iconst (1) dX12_centre_62 (by decide) ?_
          refine xt_icmp_ne 70 dX12_centre_63 (by decide) (fun _ => ?_) (fun q => absurd q (by decide))
          refine xt_iconst (0) dX12_centre_70 (by decide) ?_
          refine xt_cV _ dX12_centre_71 klX12_514 (tX12_middle sc _ μ1 _ f F hS hW 0) sh152 rfl rfl (Nat.le_of_ble_eq_true rfl) ?_
          exact xt_iret .int dX12_centre_74 rfl (by first | rfl | assumption) ⟨by rw [if_pos rfl, hmd1], (x_keep.hand hfr)⟩
      · skip
        refine ⟨nI (s_fa F ((s_am (s_fa F) (fun _ => true) 1000000 100).1 - 1)), ?_, ?_⟩
        · intro μ w c hf hc e hC
          have hS := f_Sf hf2
          refine x_K.of (by decide) (Nat.le_of_ble_eq_true rfl) ?_
          show x_T sc 29 mX11_centre 0 [.ref 0, .int (nI f), .int (nI 1), .retAddr 0] [] μ w _
          refine xt_aload_n _ dX11_centre_0 rfl ?_
          refine xt_iload_n _ dX11_centre_1 rfl ?_
          refine xt_cV _ dX11_centre_2 klX11_90 (tX11_fairOf sc _ μ w f c hf hc e) sh0 rfl rfl (Nat.le_of_ble_eq_true rfl) ?_
          refine xt_astore_n dX11_centre_5 (by decide) rfl ?_
          change x_T _ _ _ _ [_, _, _, _] _ _ _ _
          refine xt_aload_n _ dX11_centre_6 rfl ?_
          refine xt_ifnonnull_r 13 dX11_centre_7 (by decide) ?_
          refine xt_iload_n _ dX11_centre_13 rfl ?_
          refine xt_tabIn 61 dX11_centre_14 (by decide) (by decide) (by rfl) (by decide) ?_
          refine xt_aload_n _ dX11_centre_61 rfl ?_
          refine xt_aload_n _ dX11_centre_62 rfl ?_
          refine xt_cS _ dX11_centre_63 klX11_257 (tX3_middle sc _ w hS hC hW) rfl rfl (Nat.le_of_ble_eq_true rfl) ?_
          refine xt_cS _ dX11_centre_66 klX11_260 (tX3_farToAll sc _ w hS hC hW ((s_am (s_fa F) (fun _ => true) 1000000 100).1 - 1) (by omega)) rfl rfl (Nat.le_of_ble_eq_true rfl) ?_
          exact xt_iret .int dX11_centre_69 rfl (by first | rfl | assumption) ⟨rfl, x_keep.rf μ⟩
        · intro μ w c hf hc e hF
          refine x_K.of (by decide) (Nat.le_of_ble_eq_true rfl) ?_
          show x_T sc 29 mX12_centre 0 [.ref 152, .int (nI f), .int (nI 1)] [] μ w _
          refine xt_aload_n _ dX12_centre_0 rfl ?_
          refine xt_iconst (0) dX12_centre_1 (by decide) ?_
          refine xt_puti dX12_centre_2 kpX12_72 (by first | exact sh152 | rfl | assumption) rfl (by first | rfl | assumption) (by first | rfl | assumption) ?_
          refine xt_aload_n _ dX12_centre_5 rfl ?_
          refine xt_iload_n _ dX12_centre_6 rfl ?_
          refine xt_callV _ dX12_centre_7 klX12_300 (tX12_hand sc _ (x_u μ 152 (upd (μ 152) 0 0)) w f c F hf hc e hF) sh152 rfl rfl (Nat.le_of_ble_eq_true rfl) (fun r1 μ1 w1 q1 => ?_)
          obtain ⟨rfl, rfl, hS, h0, hfr⟩ := q1
          change x_T _ _ _ _ _ (.int 1 :: _) _ _ _
          refine xt_if_ne 16 dX12_centre_10 (by decide) (fun _ => ?_) (fun q => absurd q (by decide))
          refine xt_iload_n _ dX12_centre_16 rfl ?_
          refine xt_tabIn 60 dX12_centre_17 (by decide) (by decide) (by rfl) (by decide) ?_
          refine xt_aload_n _ dX12_centre_60 rfl ?_
          refine xt_iload_n _ dX12_centre_61 rfl ?_
          refine xt_iconst (1) dX12_centre_62 (by decide) ?_
          refine xt_icmp_ne 70 dX12_centre_63 (by decide) (fun q => absurd (by decide) q) (fun _ => ?_)
          refine xt_iconst (1) dX12_centre_66 (by decide) ?_
          refine xt_goto 71 dX12_centre_67 (by decide) ?_
          refine xt_cV _ dX12_centre_71 klX12_514 (tX12_middle sc _ μ1 _ f F hS hW 1) sh152 rfl rfl (Nat.le_of_ble_eq_true rfl) ?_
          exact xt_iret .int dX12_centre_74 rfl (by first | rfl | assumption) ⟨by rw [if_neg (by decide), s_am_v _ hmd0], (x_keep.hand hfr)⟩
      · skip
        refine ⟨nI ((s_ax (s_hf F) 100).1 - 1), ?_, ?_⟩
        · intro μ w c hf hc e hC
          have hS := f_Sf hf2
          refine x_K.of (by decide) (Nat.le_of_ble_eq_true rfl) ?_
          show x_T sc 29 mX11_centre 0 [.ref 0, .int (nI f), .int (nI 2), .retAddr 0] [] μ w _
          refine xt_aload_n _ dX11_centre_0 rfl ?_
          refine xt_iload_n _ dX11_centre_1 rfl ?_
          refine xt_cV _ dX11_centre_2 klX11_90 (tX11_fairOf sc _ μ w f c hf hc e) sh0 rfl rfl (Nat.le_of_ble_eq_true rfl) ?_
          refine xt_astore_n dX11_centre_5 (by decide) rfl ?_
          change x_T _ _ _ _ [_, _, _, _] _ _ _ _
          refine xt_aload_n _ dX11_centre_6 rfl ?_
          refine xt_ifnonnull_r 13 dX11_centre_7 (by decide) ?_
          refine xt_iload_n _ dX11_centre_13 rfl ?_
          refine xt_tabIn 70 dX11_centre_14 (by decide) (by decide) (by rfl) (by decide) ?_
          refine xt_aload_n _ dX11_centre_70 rfl ?_
          refine xt_getr _ dX11_centre_71 kfX11_55 (by first | exact sh0 | exact sh1 | rfl | assumption) rfl ?_
          refine xt_aload_n _ dX11_centre_74 rfl ?_
          refine xt_callV _ dX11_centre_75 klX11_263 (tX0_worstPlace sc _ w hS hC hW (by omega)) sh150 rfl rfl (Nat.le_of_ble_eq_true rfl) (fun r2 μ2 w2 q2 => ?_)
          obtain ⟨rfl, hfr2⟩ := q2
          change x_T _ _ _ _ _ (.int _ :: _) _ _ _
          exact xt_iret .int dX11_centre_78 rfl (by first | rfl | assumption) ⟨rfl, fun a ha => hfr2 a (by unfold x_ok at ha; omega)⟩
        · intro μ w c hf hc e hF
          refine x_K.of (by decide) (Nat.le_of_ble_eq_true rfl) ?_
          show x_T sc 29 mX12_centre 0 [.ref 152, .int (nI f), .int (nI 2)] [] μ w _
          refine xt_aload_n _ dX12_centre_0 rfl ?_
          refine xt_iconst (0) dX12_centre_1 (by decide) ?_
          refine xt_puti dX12_centre_2 kpX12_72 (by first | exact sh152 | rfl | assumption) rfl (by first | rfl | assumption) (by first | rfl | assumption) ?_
          refine xt_aload_n _ dX12_centre_5 rfl ?_
          refine xt_iload_n _ dX12_centre_6 rfl ?_
          refine xt_callV _ dX12_centre_7 klX12_300 (tX12_hand sc _ (x_u μ 152 (upd (μ 152) 0 0)) w f c F hf hc e hF) sh152 rfl rfl (Nat.le_of_ble_eq_true rfl) (fun r1 μ1 w1 q1 => ?_)
          obtain ⟨rfl, rfl, hS, h0, hfr⟩ := q1
          change x_T _ _ _ _ _ (.int 1 :: _) _ _ _
          refine xt_if_ne 16 dX12_centre_10 (by decide) (fun _ => ?_) (fun q => absurd q (by decide))
          refine xt_iload_n _ dX12_centre_16 rfl ?_
          refine xt_tabIn 75 dX12_centre_17 (by decide) (by decide) (by rfl) (by decide) ?_
          refine xt_aload_n _ dX12_centre_75 rfl ?_
          refine xt_iload_n _ dX12_centre_76 rfl ?_
          refine xt_iconst (3) dX12_centre_77 (by decide) ?_
          refine xt_icmp_ne 85 dX12_centre_78 (by decide) (fun _ => ?_) (fun q => absurd q (by decide))
          refine xt_iconst (0) dX12_centre_85 (by decide) ?_
          refine xt_callV _ dX12_centre_86 klX12_517 (tX12_spot sc _ μ1 _ f F hS hW h0.2.2.2.2.2 0) sh152 rfl rfl (Nat.le_of_ble_eq_true rfl) (fun r2 μ2 w2 q2 => ?_)
          obtain ⟨rfl, hfr2⟩ := q2
          change x_T _ _ _ _ _ (.int _ :: _) _ _ _
          exact xt_iret .int dX12_centre_89 rfl (by first | rfl | assumption) ⟨by rw [if_pos rfl, hax1], (x_keep.tr (x_keep.hand hfr) (fun a ha => hfr2 a (by unfold x_ok at ha; omega)))⟩
      · skip
        refine ⟨nI (s_hf F ((s_ax (s_hf F) 100).1 - 1)), ?_, ?_⟩
        · intro μ w c hf hc e hC
          have hS := f_Sf hf2
          refine x_K.of (by decide) (Nat.le_of_ble_eq_true rfl) ?_
          show x_T sc 29 mX11_centre 0 [.ref 0, .int (nI f), .int (nI 3), .retAddr 0] [] μ w _
          refine xt_aload_n _ dX11_centre_0 rfl ?_
          refine xt_iload_n _ dX11_centre_1 rfl ?_
          refine xt_cV _ dX11_centre_2 klX11_90 (tX11_fairOf sc _ μ w f c hf hc e) sh0 rfl rfl (Nat.le_of_ble_eq_true rfl) ?_
          refine xt_astore_n dX11_centre_5 (by decide) rfl ?_
          change x_T _ _ _ _ [_, _, _, _] _ _ _ _
          refine xt_aload_n _ dX11_centre_6 rfl ?_
          refine xt_ifnonnull_r 13 dX11_centre_7 (by decide) ?_
          refine xt_iload_n _ dX11_centre_13 rfl ?_
          refine xt_tabIn 79 dX11_centre_14 (by decide) (by decide) (by rfl) (by decide) ?_
          refine xt_aload_n _ dX11_centre_79 rfl ?_
          refine xt_getr _ dX11_centre_80 kfX11_55 (by first | exact sh0 | exact sh1 | rfl | assumption) rfl ?_
          refine xt_aload_n _ dX11_centre_83 rfl ?_
          refine xt_aload_n _ dX11_centre_84 rfl ?_
          refine xt_getr _ dX11_centre_85 kfX11_55 (by first | exact sh0 | exact sh1 | rfl | assumption) rfl ?_
          refine xt_aload_n _ dX11_centre_88 rfl ?_
          refine xt_callV _ dX11_centre_89 klX11_263 (tX0_worstPlace sc _ w hS hC hW (by omega)) sh150 rfl rfl (Nat.le_of_ble_eq_true rfl) (fun r2 μ2 w2 q2 => ?_)
          obtain ⟨rfl, hfr2⟩ := q2
          change x_T _ _ _ _ _ (.int _ :: _) _ _ _
          have hC2 : f_C μ2 (7 + 11 * f) F := hC.cg (fun j hj => hfr2 _ (by omega))
          refine xt_callV _ dX11_centre_92 klX11_266 (tX0_offendersAt sc _ w2 hS hC2 hW (by omega) ((s_ax (s_hf F) 100).1 - 1) (by omega)) sh150 rfl rfl (Nat.le_of_ble_eq_true rfl) (fun r3 μ3 w3 q3 => ?_)
          obtain ⟨rfl, hfr3⟩ := q3
          change x_T _ _ _ _ _ (.int _ :: _) _ _ _
          exact xt_iret .int dX11_centre_95 rfl (by first | rfl | assumption) ⟨rfl, fun a ha => by rw [hfr3 a (by unfold x_ok at ha; omega), hfr2 a (by unfold x_ok at ha; omega)]⟩
        · intro μ w c hf hc e hF
          refine x_K.of (by decide) (Nat.le_of_ble_eq_true rfl) ?_
          show x_T sc 29 mX12_centre 0 [.ref 152, .int (nI f), .int (nI 3)] [] μ w _
          refine xt_aload_n _ dX12_centre_0 rfl ?_
          refine xt_iconst (0) dX12_centre_1 (by decide) ?_
          refine xt_puti dX12_centre_2 kpX12_72 (by first | exact sh152 | rfl | assumption) rfl (by first | rfl | assumption) (by first | rfl | assumption) ?_
          refine xt_aload_n _ dX12_centre_5 rfl ?_
          refine xt_iload_n _ dX12_centre_6 rfl ?_
          refine xt_callV _ dX12_centre_7 klX12_300 (tX12_hand sc _ (x_u μ 152 (upd (μ 152) 0 0)) w f c F hf hc e hF) sh152 rfl rfl (Nat.le_of_ble_eq_true rfl) (fun r1 μ1 w1 q1 => ?_)
          obtain ⟨rfl, rfl, hS, h0, hfr⟩ := q1
          change x_T _ _ _ _ _ (.int 1 :: _) _ _ _
          refine xt_if_ne 16 dX12_centre_10 (by decide) (fun _ => ?_) (fun q => absurd q (by decide))
          refine xt_iload_n _ dX12_centre_16 rfl ?_
          refine xt_tabIn 75 dX12_centre_17 (by decide) (by decide) (by rfl) (by decide) ?_
          refine xt_aload_n _ dX12_centre_75 rfl ?_
          refine xt_iload_n _ dX12_centre_76 rfl ?_
          refine xt_iconst (3) dX12_centre_77 (by decide) ?_
          refine xt_icmp_ne 85 dX12_centre_78 (by decide) (fun q => absurd (by decide) q) (fun _ => ?_)
          refine xt_iconst (1) dX12_centre_81 (by decide) ?_
          refine xt_goto 86 dX12_centre_82 (by decide) ?_
          refine xt_callV _ dX12_centre_86 klX12_517 (tX12_spot sc _ μ1 _ f F hS hW h0.2.2.2.2.2 1) sh152 rfl rfl (Nat.le_of_ble_eq_true rfl) (fun r2 μ2 w2 q2 => ?_)
          obtain ⟨rfl, hfr2⟩ := q2
          change x_T _ _ _ _ _ (.int _ :: _) _ _ _
          exact xt_iret .int dX12_centre_89 rfl (by first | rfl | assumption) ⟨by rw [if_neg (by decide), s_ax_v _ hax0, eI_s], (x_keep.tr (x_keep.hand hfr) (fun a ha => hfr2 a (by unfold x_ok at ha; omega)))⟩
      · skip
        refine ⟨nI (s_tm F (F 4)), ?_, ?_⟩
        · intro μ w c hf hc e hC
          have hS := f_Sf hf2
          refine x_K.of (by decide) (Nat.le_of_ble_eq_true rfl) ?_
          show x_T sc 29 mX11_centre 0 [.ref 0, .int (nI f), .int (nI 4), .retAddr 0] [] μ w _
          refine xt_aload_n _ dX11_centre_0 rfl ?_
          refine xt_iload_n _ dX11_centre_1 rfl ?_
          refine xt_cV _ dX11_centre_2 klX11_90 (tX11_fairOf sc _ μ w f c hf hc e) sh0 rfl rfl (Nat.le_of_ble_eq_true rfl) ?_
          refine xt_astore_n dX11_centre_5 (by decide) rfl ?_
          change x_T _ _ _ _ [_, _, _, _] _ _ _ _
          refine xt_aload_n _ dX11_centre_6 rfl ?_
          refine xt_ifnonnull_r 13 dX11_centre_7 (by decide) ?_
          refine xt_iload_n _ dX11_centre_13 rfl ?_
          refine xt_tabIn 96 dX11_centre_14 (by decide) (by decide) (by rfl) (by decide) ?_
          refine xt_aload_n _ dX11_centre_96 rfl ?_
          refine xt_cS _ dX11_centre_97 klX11_269 (tX3_twins sc _ w hS hC hW) rfl rfl (Nat.le_of_ble_eq_true rfl) ?_
          exact xt_iret .int dX11_centre_100 rfl (by first | rfl | assumption) ⟨by rw [s_tw], x_keep.rf μ⟩
        · intro μ w c hf hc e hF
          refine x_K.of (by decide) (Nat.le_of_ble_eq_true rfl) ?_
          show x_T sc 29 mX12_centre 0 [.ref 152, .int (nI f), .int (nI 4)] [] μ w _
          refine xt_aload_n _ dX12_centre_0 rfl ?_
          refine xt_iconst (0) dX12_centre_1 (by decide) ?_
          refine xt_puti dX12_centre_2 kpX12_72 (by first | exact sh152 | rfl | assumption) rfl (by first | rfl | assumption) (by first | rfl | assumption) ?_
          refine xt_aload_n _ dX12_centre_5 rfl ?_
          refine xt_iload_n _ dX12_centre_6 rfl ?_
          refine xt_callV _ dX12_centre_7 klX12_300 (tX12_hand sc _ (x_u μ 152 (upd (μ 152) 0 0)) w f c F hf hc e hF) sh152 rfl rfl (Nat.le_of_ble_eq_true rfl) (fun r1 μ1 w1 q1 => ?_)
          obtain ⟨rfl, rfl, hS, h0, hfr⟩ := q1
          change x_T _ _ _ _ _ (.int 1 :: _) _ _ _
          refine xt_if_ne 16 dX12_centre_10 (by decide) (fun _ => ?_) (fun q => absurd q (by decide))
          refine xt_iload_n _ dX12_centre_16 rfl ?_
          refine xt_tabIn 90 dX12_centre_17 (by decide) (by decide) (by rfl) (by decide) ?_
          refine xt_aload_n _ dX12_centre_90 rfl ?_
          refine xt_cV _ dX12_centre_91 klX12_520 (tX12_twins sc _ μ1 _ f F hS hW) sh152 rfl rfl (Nat.le_of_ble_eq_true rfl) ?_
          exact xt_iret .int dX12_centre_94 rfl (by first | rfl | assumption) ⟨rfl, (x_keep.hand hfr)⟩
      · skip
        refine ⟨nI (s_fst (s_pe F) 9 0), ?_, ?_⟩
        · intro μ w c hf hc e hC
          have hS := f_Sf hf2
          refine x_K.of (by decide) (Nat.le_of_ble_eq_true rfl) ?_
          show x_T sc 29 mX11_centre 0 [.ref 0, .int (nI f), .int (nI 5), .retAddr 0] [] μ w _
          refine xt_aload_n _ dX11_centre_0 rfl ?_
          refine xt_iload_n _ dX11_centre_1 rfl ?_
          refine xt_cV _ dX11_centre_2 klX11_90 (tX11_fairOf sc _ μ w f c hf hc e) sh0 rfl rfl (Nat.le_of_ble_eq_true rfl) ?_
          refine xt_astore_n dX11_centre_5 (by decide) rfl ?_
          change x_T _ _ _ _ [_, _, _, _] _ _ _ _
          refine xt_aload_n _ dX11_centre_6 rfl ?_
          refine xt_ifnonnull_r 13 dX11_centre_7 (by decide) ?_
          refine xt_iload_n _ dX11_centre_13 rfl ?_
          refine xt_tabIn 101 dX11_centre_14 (by decide) (by decide) (by rfl) (by decide) ?_
          refine xt_aload_n _ dX11_centre_101 rfl ?_
          refine xt_cS _ dX11_centre_102 klX11_272 (tX0_grace sc _ w hS hC hW) rfl rfl (Nat.le_of_ble_eq_true rfl) ?_
          exact xt_iret .int dX11_centre_105 rfl (by first | rfl | assumption) ⟨rfl, x_keep.rf μ⟩
        · intro μ w c hf hc e hF
          refine x_K.of (by decide) (Nat.le_of_ble_eq_true rfl) ?_
          show x_T sc 29 mX12_centre 0 [.ref 152, .int (nI f), .int (nI 5)] [] μ w _
          refine xt_aload_n _ dX12_centre_0 rfl ?_
          refine xt_iconst (0) dX12_centre_1 (by decide) ?_
          refine xt_puti dX12_centre_2 kpX12_72 (by first | exact sh152 | rfl | assumption) rfl (by first | rfl | assumption) (by first | rfl | assumption) ?_
          refine xt_aload_n _ dX12_centre_5 rfl ?_
          refine xt_iload_n _ dX12_centre_6 rfl ?_
          refine xt_callV _ dX12_centre_7 klX12_300 (tX12_hand sc _ (x_u μ 152 (upd (μ 152) 0 0)) w f c F hf hc e hF) sh152 rfl rfl (Nat.le_of_ble_eq_true rfl) (fun r1 μ1 w1 q1 => ?_)
          obtain ⟨rfl, rfl, hS, h0, hfr⟩ := q1
          change x_T _ _ _ _ _ (.int 1 :: _) _ _ _
          refine xt_if_ne 16 dX12_centre_10 (by decide) (fun _ => ?_) (fun q => absurd q (by decide))
          refine xt_iload_n _ dX12_centre_16 rfl ?_
          refine xt_tabIn 95 dX12_centre_17 (by decide) (by decide) (by rfl) (by decide) ?_
          refine xt_aload_n _ dX12_centre_95 rfl ?_
          refine xt_callV _ dX12_centre_96 klX12_523 (tX12_grace sc _ μ1 _ f F hS hW h0.2.2.2.2.2) sh152 rfl rfl (Nat.le_of_ble_eq_true rfl) (fun r2 μ2 w2 q2 => ?_)
          obtain ⟨rfl, hfr2⟩ := q2
          change x_T _ _ _ _ _ (.int _ :: _) _ _ _
          exact xt_iret .int dX12_centre_99 rfl (by first | rfl | assumption) ⟨rfl, (x_keep.tr (x_keep.hand hfr) (fun a ha => hfr2 a (by unfold x_ok at ha; omega)))⟩
      · skip
        refine ⟨nI (s_df F (F 4)), ?_, ?_⟩
        · intro μ w c hf hc e hC
          have hS := f_Sf hf2
          refine x_K.of (by decide) (Nat.le_of_ble_eq_true rfl) ?_
          show x_T sc 29 mX11_centre 0 [.ref 0, .int (nI f), .int (nI 6), .retAddr 0] [] μ w _
          refine xt_aload_n _ dX11_centre_0 rfl ?_
          refine xt_iload_n _ dX11_centre_1 rfl ?_
          refine xt_cV _ dX11_centre_2 klX11_90 (tX11_fairOf sc _ μ w f c hf hc e) sh0 rfl rfl (Nat.le_of_ble_eq_true rfl) ?_
          refine xt_astore_n dX11_centre_5 (by decide) rfl ?_
          change x_T _ _ _ _ [_, _, _, _] _ _ _ _
          refine xt_aload_n _ dX11_centre_6 rfl ?_
          refine xt_ifnonnull_r 13 dX11_centre_7 (by decide) ?_
          refine xt_iload_n _ dX11_centre_13 rfl ?_
          refine xt_tabIn 106 dX11_centre_14 (by decide) (by decide) (by rfl) (by decide) ?_
          refine xt_aload_n _ dX11_centre_106 rfl ?_
          refine xt_cS _ dX11_centre_107 klX11_275 (tX0_deafness sc _ w hS hC hW) rfl rfl (Nat.le_of_ble_eq_true rfl) ?_
          exact xt_iret .int dX11_centre_110 rfl (by first | rfl | assumption) ⟨rfl, x_keep.rf μ⟩
        · intro μ w c hf hc e hF
          refine x_K.of (by decide) (Nat.le_of_ble_eq_true rfl) ?_
          show x_T sc 29 mX12_centre 0 [.ref 152, .int (nI f), .int (nI 6)] [] μ w _
          refine xt_aload_n _ dX12_centre_0 rfl ?_
          refine xt_iconst (0) dX12_centre_1 (by decide) ?_
          refine xt_puti dX12_centre_2 kpX12_72 (by first | exact sh152 | rfl | assumption) rfl (by first | rfl | assumption) (by first | rfl | assumption) ?_
          refine xt_aload_n _ dX12_centre_5 rfl ?_
          refine xt_iload_n _ dX12_centre_6 rfl ?_
          refine xt_callV _ dX12_centre_7 klX12_300 (tX12_hand sc _ (x_u μ 152 (upd (μ 152) 0 0)) w f c F hf hc e hF) sh152 rfl rfl (Nat.le_of_ble_eq_true rfl) (fun r1 μ1 w1 q1 => ?_)
          obtain ⟨rfl, rfl, hS, h0, hfr⟩ := q1
          change x_T _ _ _ _ _ (.int 1 :: _) _ _ _
          refine xt_if_ne 16 dX12_centre_10 (by decide) (fun _ => ?_) (fun q => absurd q (by decide))
          refine xt_iload_n _ dX12_centre_16 rfl ?_
          refine xt_tabIn 100 dX12_centre_17 (by decide) (by decide) (by rfl) (by decide) ?_
          refine xt_aload_n _ dX12_centre_100 rfl ?_
          refine xt_callV _ dX12_centre_101 klX12_526 (tX12_deaf sc _ μ1 _ f F hS hW h0.2.2.2.2.2) sh152 rfl rfl (Nat.le_of_ble_eq_true rfl) (fun r2 μ2 w2 q2 => ?_)
          obtain ⟨rfl, hfr2⟩ := q2
          change x_T _ _ _ _ _ (.int _ :: _) _ _ _
          exact xt_iret .int dX12_centre_104 rfl (by first | rfl | assumption) ⟨rfl, (x_keep.tr (x_keep.hand hfr) (fun a ha => hfr2 a (by unfold x_ok at ha; omega)))⟩
    · have hout := x_out (N := 6) (by decide) hw
      refine ⟨-2, ?_, ?_⟩
      · intro μ w c hf hc e hC
        have hS := f_Sf hf2
        refine x_K.of (by decide) (Nat.le_of_ble_eq_true rfl) ?_
        show x_T sc 29 mX11_centre 0 [.ref 0, .int (nI f), .int a2, .retAddr 0] [] μ w _
        refine xt_aload_n _ dX11_centre_0 rfl ?_
        refine xt_iload_n _ dX11_centre_1 rfl ?_
        refine xt_cV _ dX11_centre_2 klX11_90 (tX11_fairOf sc _ μ w f c hf hc e) sh0 rfl rfl (Nat.le_of_ble_eq_true rfl) ?_
        refine xt_astore_n dX11_centre_5 (by decide) rfl ?_
        change x_T _ _ _ _ [_, _, _, _] _ _ _ _
        refine xt_aload_n _ dX11_centre_6 rfl ?_
        refine xt_ifnonnull_r 13 dX11_centre_7 (by decide) ?_
        refine xt_iload_n _ dX11_centre_13 rfl ?_
        refine xt_tabOut 111 dX11_centre_14 (by omega) (by decide) ?_
        refine xt_bipush (-2) dX11_centre_111 (by decide) ?_
        exact xt_iret .int dX11_centre_113 rfl (by first | rfl | assumption) ⟨rfl, x_keep.rf μ⟩
      · intro μ w c hf hc e hF
        refine x_K.of (by decide) (Nat.le_of_ble_eq_true rfl) ?_
        show x_T sc 29 mX12_centre 0 [.ref 152, .int (nI f), .int a2] [] μ w _
        refine xt_aload_n _ dX12_centre_0 rfl ?_
        refine xt_iconst (0) dX12_centre_1 (by decide) ?_
        refine xt_puti dX12_centre_2 kpX12_72 (by first | exact sh152 | rfl | assumption) rfl (by first | rfl | assumption) (by first | rfl | assumption) ?_
        refine xt_aload_n _ dX12_centre_5 rfl ?_
        refine xt_iload_n _ dX12_centre_6 rfl ?_
        refine xt_callV _ dX12_centre_7 klX12_300 (tX12_hand sc _ (x_u μ 152 (upd (μ 152) 0 0)) w f c F hf hc e hF) sh152 rfl rfl (Nat.le_of_ble_eq_true rfl) (fun r1 μ1 w1 q1 => ?_)
        obtain ⟨rfl, rfl, hS, h0, hfr⟩ := q1
        change x_T _ _ _ _ _ (.int 1 :: _) _ _ _
        refine xt_if_ne 16 dX12_centre_10 (by decide) (fun _ => ?_) (fun q => absurd q (by decide))
        refine xt_iload_n _ dX12_centre_16 rfl ?_
        refine xt_tabOut 105 dX12_centre_17 (by omega) (by decide) ?_
        refine xt_bipush (-2) dX12_centre_105 (by decide) ?_
        exact xt_iret .int dX12_centre_107 rfl (by first | rfl | assumption) ⟨rfl, (x_keep.hand hfr)⟩
