/-! the step of upright -/
theorem sh144 : x_shape[144]? = some (.inl (3, [some (some (.ref 145)), some (some (.ref 146)), some (some (.ref 147)), some (some (.ref 148)), some (some (.ref 149)), none])) := by rfl
theorem nI_or (a b : Nat) : nI a ||| nI b = nI (a ||| b) := by
  show Int32.ofNat _ ||| Int32.ofNat _ = Int32.ofNat _
  apply Int32.toBitVec_inj.mp
  simp [BitVec.ofNat_or]
theorem s_or0 {s g : Nat} (hs : s < 2 ^ g) (hg : g < 31) : nI s ||| ((1 : Int32) <<< (nI g &&& 31)) = nI (s + 2 ^ g) := by
  rw [show (1 : Int32) <<< (nI g &&& 31) = nI (2 ^ g) from x_bit g hg, nI_or]
  have h2 := Nat.two_pow_add_eq_or_of_lt hs 1
  rw [Nat.mul_one] at h2
  rw [Nat.add_comm, h2, Nat.or_comm]
theorem s_or1 {s g : Nat} (hs : s < 2 ^ g) (hg : g < 31) : nI (s + 2 ^ g) ||| ((1 : Int32) <<< (nI g &&& 31)) = nI (s + 2 ^ g) := by
  rw [show (1 : Int32) <<< (nI g &&& 31) = nI (2 ^ g) from x_bit g hg, nI_or]
  have h2 := Nat.two_pow_add_eq_or_of_lt hs 1
  rw [Nat.mul_one] at h2
  rw [Nat.add_comm, h2, Nat.or_comm, ← Nat.or_assoc, Nat.or_self]
theorem eI_pr {a : Nat} (h : a ≠ 0) : eI a = nI (a - 1) := by
  obtain ⟨q, rfl⟩ : ∃ q, a = q + 1 := ⟨a - 1, by omega⟩
  rw [eI_s]; rfl
theorem eI_m1 {a : Nat} (ha : a < 1000) : eI a = -1 ↔ a = 0 := by
  constructor
  · intro z
    apply Classical.byContradiction
    intro h
    rw [eI_pr h] at z
    exact nI_m1 (by omega) z
  · intro z; rw [z]; rfl
theorem eI_neg {a : Nat} (ha : a < 1000) : eI a < 0 ↔ a = 0 := by
  rw [Int32.lt_iff_toInt_lt, eI_toInt ha]
  have : (0 : Int32).toInt = 0 := by decide
  omega
/-- all WRONGS of a KIND -/
abbrev s_wk (F : Nat → Nat) (j : Nat) : Nat := s_sum (fun g => F (41 + (6 * g + j))) (F 4)
theorem s_wk_le {F : Nat → Nat} (hW : f_W F) {j n : Nat} (hj : j < 6) (hn : n ≤ 8) : s_sum (fun g => F (41 + (6 * g + j))) n ≤ 72 := by
  have := s_sum_le (f := fun g => F (41 + (6 * g + j))) (c := 9) (n := n) (fun i hi => hW.2.2.2.1 _ (by omega))
  omega
/-- how far two GOERS are from each other -/
def s_bt (F : Nat → Nat) (a b : Nat) : Nat := s_farG F a (F (25 + b)) (F (33 + b))
theorem s_bt_le {F : Nat → Nat} (hW : f_W F) {a b : Nat} (ha : a < F 4) (hb : b < F 4) : s_bt F a b ≤ 18 := s_farG_le hW ha (hW.2.2.1 b hb).1 (hW.2.2.1 b hb).2
theorem s_bt_comm (F : Nat → Nat) (a b : Nat) : s_bt F a b = s_bt F b a := by
  unfold s_bt s_farG
  rw [s_ab (F (25 + a)), s_ab (F (33 + a))]
/-- how far one is from the STAND and those of a set -/
def s_nr (F : Nat → Nat) (J g : Nat) : Nat → Nat
  | 0 => s_farO F g
  | n + 1 => if J.testBit n then min (s_nr F J g n) (s_bt F g n) else s_nr F J g n
theorem s_nr_le {F : Nat → Nat} (hW : f_W F) (J : Nat) {g : Nat} (hg : g < F 4) : ∀ n, s_nr F J g n ≤ 18
  | 0 => s_farO_le hW hg
  | n + 1 => by
    have := s_nr_le hW J hg n
    rw [s_nr]; split <;> omega
theorem s_or_bit (J t i : Nat) : (J ||| 2 ^ t).testBit i = (J.testBit i || decide (t = i)) := by rw [Nat.testBit_or, Nat.testBit_two_pow]
theorem s_nr_add (F : Nat → Nat) (J t g : Nat) : ∀ n, s_nr F (J ||| 2 ^ t) g n = if t < n then min (s_nr F J g n) (s_bt F g t) else s_nr F J g n
  | 0 => rfl
  | n + 1 => by
    rw [s_nr, s_nr, s_nr_add F J t g n, s_or_bit]
    by_cases ht : t = n
    · subst ht
      rw [if_neg (Nat.lt_irrefl _), if_pos (Nat.lt_succ_self _)]
      by_cases hb : J.testBit t = true
      · simp only [hb, Bool.true_or, if_true]; omega
      · simp [hb]
    · have e : decide (t = n) = false := by simp [ht]
      rw [e, Bool.or_false]
      by_cases h1 : t < n
      · rw [if_pos h1, if_pos (show t < n + 1 by omega)]
        split
        · omega
        · rfl
      · rw [if_neg h1, if_neg (show ¬ t < n + 1 by omega)]
/-- the next one to be joined -/
def s_pk (F : Nat → Nat) (J lim : Nat) : Nat × Nat := s_am (fun g => s_nr F J g (F 4)) (fun g => !J.testBit g) lim (F 4)
def s_tr (F : Nat → Nat) : Nat → Nat × Nat
  | 0 => (0, 0)
  | i + 1 => ((s_tr F i).1 ||| 2 ^ ((s_pk F (s_tr F i).1 19).1 - 1), (s_tr F i).2 + (s_pk F (s_tr F i).1 19).2)
theorem s_am_none {v : Nat → Nat} {ok : Nat → Bool} {lim : Nat} : ∀ n, (s_am v ok lim n).1 = 0 → (∀ i, i < n → v i < lim) → (s_am v ok lim n).2 = lim ∧ ∀ i, i < n → ok i = false
  | 0, _, _ => ⟨rfl, fun i h => absurd h (by omega)⟩
  | n + 1, h, hv => by
    rw [s_am] at h
    by_cases hq : ok n = true ∧ v n < (s_am v ok lim n).2
    · rw [if_pos hq] at h; exact absurd h (by simp)
    · rw [if_neg hq] at h
      obtain ⟨h1, h2⟩ := s_am_none n h (fun i hi => hv i (by omega))
      rw [s_am, if_neg hq]
      refine ⟨h1, fun i hi => ?_⟩
      by_cases hin : i = n
      · subst hin
        rw [h1] at hq
        by_cases ho : ok i = true
        · exact absurd ⟨ho, hv i (by omega)⟩ hq
        · simpa using ho
      · exact h2 i (by omega)
theorem s_am_ok {v : Nat → Nat} {ok : Nat → Bool} {lim : Nat} : ∀ n, (s_am v ok lim n).1 ≠ 0 → ok ((s_am v ok lim n).1 - 1) = true
  | 0 => fun h => absurd rfl h
  | n + 1 => by
    have h := s_am_ok (v := v) (ok := ok) (lim := lim) n
    rw [s_am]; split
    · rename_i hq; intro _; exact hq.1
    · exact h
theorem s_am_skip {v : Nat → Nat} {ok : Nat → Bool} {lim : Nat} (p : Nat) : ∀ q, (∀ i, p ≤ i → i < p + q → ok i = false) → s_am v ok lim (p + q) = s_am v ok lim p
  | 0, _ => rfl
  | q + 1, h => by
    rw [← Nat.add_assoc, s_am_n1 (h (p + q) (by omega) (by omega)), s_am_skip p q (fun i h1 h2 => h i h1 (by omega))]
theorem s_cnt_add {p : Nat → Bool} {t : Nat} (hp : p t = false) : ∀ n, s_cnt (fun i => p i || decide (t = i)) n = s_cnt p n + (if t < n then 1 else 0)
  | 0 => rfl
  | n + 1 => by
    rw [s_cnt, s_cnt, s_cnt_add hp n]
    by_cases ht : t = n
    · subst ht
      rw [if_neg (Nat.lt_irrefl _), if_pos (Nat.lt_succ_self _), hp]; simp
    · have e : decide (t = n) = false := by simp [ht]
      rw [e, Bool.or_false]
      by_cases h1 : t < n
      · rw [if_pos h1, if_pos (show t < n + 1 by omega)]; omega
      · rw [if_neg h1, if_neg (show ¬ t < n + 1 by omega), Nat.add_zero, Nat.add_zero]
theorem s_pk_ok {F : Nat → Nat} (hW : f_W F) {J i : Nat} (hc : s_cnt (fun g => J.testBit g) (F 4) = i) (hi : i < F 4) : (s_pk F J 19).1 ≠ 0 ∧ (s_pk F J 19).1 ≤ F 4 ∧ J.testBit ((s_pk F J 19).1 - 1) = false ∧ (s_pk F J 19).2 = s_nr F J ((s_pk F J 19).1 - 1) (F 4) ∧ (s_pk F J 1000000) = (s_pk F J 19) := by
  have hv : ∀ g, g < F 4 → s_nr F J g (F 4) < 19 := fun g hg => by have := s_nr_le hW J hg (F 4); omega
  have h0 : (s_pk F J 19).1 ≠ 0 := by
    intro z
    obtain ⟨_, h2⟩ := s_am_none (F 4) z hv
    have e : s_cnt (fun g => J.testBit g) (F 4) = s_cnt (fun _ => true) (F 4) := s_cnt_cong (fun g hg => by have := h2 g hg; simpa using this)
    rw [e, s_cnt_all] at hc
    omega
  have hl := s_am_lim (v := fun g => s_nr F J g (F 4)) (ok := fun g => !J.testBit g) (a := 19) (b := 1000000) (F 4) (fun g hg => ⟨hv g hg, by have := hv g hg; omega⟩)
  refine ⟨h0, (s_am_le (F 4)).2, ?_, s_am_v (F 4) h0, ?_⟩
  · have := s_am_ok (F 4) h0
    simpa [s_pk] using this
  · rcases hl.2 with q | q
    · exact absurd q.1 h0
    · exact Prod.ext hl.1.symm q.2.symm
theorem s_tr_ok {F : Nat → Nat} (hW : f_W F) : ∀ i, i ≤ F 4 → (s_tr F i).1 < 2 ^ F 4 ∧ s_cnt (fun g => (s_tr F i).1.testBit g) (F 4) = i ∧ (s_tr F i).2 ≤ 18 * i
  | 0, _ => ⟨Nat.pow_pos (by decide), (s_cnt_z _ _).mpr (fun i _ => by simp [s_tr]), Nat.le_refl _⟩
  | i + 1, h => by
    obtain ⟨h1, h2, h3⟩ := s_tr_ok hW i (by omega)
    obtain ⟨p1, p2, p3, p4, _⟩ := s_pk_ok hW h2 (by omega)
    have ht : (s_pk F (s_tr F i).1 19).1 - 1 < F 4 := by omega
    refine ⟨?_, ?_, ?_⟩
    · exact Nat.or_lt_two_pow h1 (Nat.pow_lt_pow_right (by decide) ht)
    · rw [s_tr]
      rw [s_cnt_cong (q := fun g => (s_tr F i).1.testBit g || decide ((s_pk F (s_tr F i).1 19).1 - 1 = g)) (fun g _ => s_or_bit _ _ _), s_cnt_add p3, h2, if_pos ht]
    · rw [s_tr]
      have := s_nr_le hW (s_tr F i).1 ht (F 4)
      simp only; omega
theorem s_sh1 : ∀ x, x < 256 → ∀ j, j < 8 → (((nI x >>> (nI j &&& 31)) &&& 1 = 0) ↔ x.testBit j = false) := by decide +kernel
/-- couples of GOERS, by 10 a + b -/
abbrev s_cv (F : Nat → Nat) : Nat → Nat := fun i => s_bt F (i / 10) (i % 10)
abbrev s_ck (F : Nat → Nat) : Nat → Bool := fun i => decide (i / 10 < i % 10 ∧ i % 10 < F 4)
theorem s_cp_in {F : Nat → Nat} (h8 : F 4 ≤ 8) (lim a : Nat) (ha : a < F 4) : s_am (s_cv F) (s_ck F) lim (10 * a + (a + 1)) = s_am (s_cv F) (s_ck F) lim (10 * a) := s_am_skip (10 * a) (a + 1) (fun i h1 h2 => decide_eq_false (by omega))
theorem s_cp_out {F : Nat → Nat} (h8 : F 4 ≤ 8) (lim a : Nat) : s_am (s_cv F) (s_ck F) lim (10 * (a + 1)) = s_am (s_cv F) (s_ck F) lim (10 * a + F 4) := by
  have := s_am_skip (v := s_cv F) (ok := s_ck F) (lim := lim) (10 * a + F 4) (10 - F 4) (fun i h1 h2 => decide_eq_false (by omega))
  rw [← this]
  congr 1
  omega
theorem s_br_ax (F : Nat → Nat) : ∀ n, s_br F n = s_ax (s_by F) n
  | 0 => rfl
  | n + 1 => by rw [s_br, s_ax, s_br_ax F n]
theorem s_strMO : ∀ m, m < 6 → s_strM ((1 : Int32) <<< (nI m &&& 31)) (fun j => decide (j = m)) := by
  have h : ∀ m, m < 6 → ∀ j, j < 6 → s_has ((1 : Int32) <<< (nI m &&& 31)) (nI j) = (if decide (j = m) then 1 else 0) := by decide +kernel
  exact h
theorem s_strMB : ∀ m, m < 6 → s_strM ((63 : Int32) &&& (((1 : Int32) <<< (nI m &&& 31)) ^^^ (-1))) (fun j => decide (j ≠ m)) := by
  have h : ∀ m, m < 6 → ∀ j, j < 6 → s_has ((63 : Int32) &&& (((1 : Int32) <<< (nI m &&& 31)) ^^^ (-1))) (nI j) = (if decide (j ≠ m) then 1 else 0) := by decide +kernel
  exact h
theorem s_gr0 {a : Nat} (ha : a < 1000) : s_gr 0 (eI a) = nI (a - 1) := by
  unfold s_gr
  by_cases h : a = 0
  · subst h; decide
  · rw [eI_pr h, if_pos (nI_pos' (by omega))]
theorem s_min_nI {a b : Nat} (ha : a < 2 ^ 31) (hb : b < 2 ^ 31) : (if nI b < nI a then nI b else nI a) = nI (min a b) := by
  by_cases h : b < a
  · rw [if_pos (nI_lt h ha), Nat.min_eq_right (by omega)]
  · rw [if_neg (nI_nlt (by omega) hb), Nat.min_eq_left (by omega)]
theorem s_nr_0 (F : Nat → Nat) (g : Nat) : ∀ n, s_nr F (s_tr F 0).1 g n = s_farO F g
  | 0 => rfl
  | n + 1 => by rw [s_nr, show (s_tr F 0).1.testBit n = false from Nat.zero_testBit n]; exact s_nr_0 F g n
section UPRIGHT
variable (sc : Nat × (Nat → Int32)) (d : Nat) {μ : x_Me} (w : Int64) {k : Nat} {F : Nat → Nat}
set_option maxHeartbeats 1000000 in
theorem tX3_withoutWrongs (hS : f_S k) (hC : f_C μ k F) (hW : f_W F) : x_K sc (d + 3) mX3_withoutWrongs [.ref k] μ w (x_p (some (.int (nI (s_bits (fun g => decide (s_wt F g = 0)) (F 4))))) μ w) := by
  have h8 : F 4 ≤ 8 := hW.1.2.2.2.2.1
  have e4 : μ k 4 = nI (F 4) := hC.1 4 (by decide)
  refine x_K.of (by decide) (Nat.le_of_ble_eq_true rfl) ?_
  show x_T sc (d + 3) mX3_withoutWrongs 0 [.ref k, .retAddr 0, .retAddr 0] [] μ w _
  refine xt_iconst (0) dX3_withoutWrongs_0 (by decide) ?_
  refine xt_istore_n dX3_withoutWrongs_1 (by decide) rfl ?_
  change x_T _ _ _ _ [_, _, _] _ _ _ _
  refine xt_iconst (0) dX3_withoutWrongs_2 (by decide) ?_
  refine xt_istore_n dX3_withoutWrongs_3 (by decide) rfl ?_
  change x_T _ _ _ _ [_, _, _] _ _ _ _
  have L4 : ∀ (n4 m : Nat) , m + n4 = F 4 → x_T sc (d + 3) mX3_withoutWrongs 4 [.ref k, .int (nI (s_bits (fun g => decide (s_wt F g = 0)) m)), .int (nI m)] [] μ w (x_p (some (.int (nI (s_bits (fun g => decide (s_wt F g = 0)) (F 4))))) μ w) := by
    intro n4
    induction n4 with
    | zero =>
      intro m  hmn
      obtain rfl : F 4 = m := by omega
      refine xt_iload_n _ dX3_withoutWrongs_4 rfl ?_
      refine xt_aload_n _ dX3_withoutWrongs_5 rfl ?_
      refine xt_geti dX3_withoutWrongs_6 kfX3_55 (by first | exact sh0 | exact hS.1 | exact sh150 | rfl | assumption) rfl ?_
      refine xt_icmp_ge 32 dX3_withoutWrongs_9 (by decide) (fun _ => ?_) (fun q => absurd (by rw [e4]; exact Int32.le_refl _) q)
      refine xt_iload_n _ dX3_withoutWrongs_32 rfl ?_
      exact xt_iret .int dX3_withoutWrongs_33 rfl (by first | rfl | assumption) ⟨rfl, rfl, rfl⟩
    | succ n4 ih4 =>
      intro m  hmn
      have hlt : m < F 4 := by omega
      have hwt := s_wt_le hW (show m < 8 by omega)
      refine xt_iload_n _ dX3_withoutWrongs_4 rfl ?_
      refine xt_aload_n _ dX3_withoutWrongs_5 rfl ?_
      refine xt_geti dX3_withoutWrongs_6 kfX3_55 (by first | exact sh0 | exact hS.1 | exact sh150 | rfl | assumption) rfl ?_
      refine xt_icmp_ge 32 dX3_withoutWrongs_9 (by decide) (fun q => absurd q (by rw [e4]; exact nI_ge hlt (by omega))) (fun _ => ?_)
      refine xt_aload_n _ dX3_withoutWrongs_12 rfl ?_
      refine xt_iload_n _ dX3_withoutWrongs_13 rfl ?_
      refine xt_cV _ dX3_withoutWrongs_14 klX3_58 (tX2_wrongsTogether sc _ w hS hC m (by omega)) hS.1 rfl rfl (Nat.le_of_ble_eq_true rfl) ?_
      change x_T _ _ _ _ _ (.int (nI (s_wt F m)) :: _) _ _ _
      refine xt_if_ne 26 dX3_withoutWrongs_17 (by decide) (fun t17 => ?_) (fun f17 => ?_)
      · refine xt_inc _ (1) dX3_withoutWrongs_26 rfl (by decide) (by decide) rfl ?_
        change x_T _ _ _ _ [_, _, _] _ _ _ _
        refine xt_goto 4 dX3_withoutWrongs_29 (by decide) ?_
        refine x_T.ls ?_ (ih4 (m + 1) (by omega))
        rw [s_bits_no (p := (fun g => decide (s_wt F g = 0))) (by rw [nI_0e (by omega)] at t17; simpa using t17), nI_succ m]
      · refine xt_iload_n _ dX3_withoutWrongs_20 rfl ?_
        refine xt_iconst (1) dX3_withoutWrongs_21 (by decide) ?_
        refine xt_iload_n _ dX3_withoutWrongs_22 rfl ?_
        refine xt_ishl dX3_withoutWrongs_23 ?_
        refine xt_ior dX3_withoutWrongs_24 ?_
        refine xt_istore_n dX3_withoutWrongs_25 (by decide) rfl ?_
        change x_T _ _ _ _ [_, _, _] _ _ _ _
        refine xt_inc _ (1) dX3_withoutWrongs_26 rfl (by decide) (by decide) rfl ?_
        change x_T _ _ _ _ [_, _, _] _ _ _ _
        refine xt_goto 4 dX3_withoutWrongs_29 (by decide) ?_
        refine x_T.ls ?_ (ih4 (m + 1) (by omega))
        rw [← s_bits_or (p := (fun g => decide (s_wt F g = 0))) (g := m) (by omega) (by rw [nI_0e (by omega)] at f17; simpa using f17), nI_succ m]
  exact L4 (F 4) 0  (by omega)
set_option maxHeartbeats 1000000 in
theorem tX3_worst (hS : f_S k) (hC : f_C μ k F) (hW : f_W F) : x_K sc (d + 3) mX3_worst [.ref k] μ w (x_p (some (.int (eI (s_ax (s_wt F) (F 4)).1))) μ w) := by
  have h8 : F 4 ≤ 8 := hW.1.2.2.2.2.1
  have e4 : μ k 4 = nI (F 4) := hC.1 4 (by decide)
  refine x_K.of (by decide) (Nat.le_of_ble_eq_true rfl) ?_
  show x_T sc (d + 3) mX3_worst 0 [.ref k, .retAddr 0, .retAddr 0, .retAddr 0] [] μ w _
  refine xt_iconst (-1) dX3_worst_0 (by decide) ?_
  refine xt_istore_n dX3_worst_1 (by decide) rfl ?_
  change x_T _ _ _ _ [_, _, _, _] _ _ _ _
  refine xt_iconst (-1) dX3_worst_2 (by decide) ?_
  refine xt_istore_n dX3_worst_3 (by decide) rfl ?_
  change x_T _ _ _ _ [_, _, _, _] _ _ _ _
  refine xt_iconst (0) dX3_worst_4 (by decide) ?_
  refine xt_istore_n dX3_worst_5 (by decide) rfl ?_
  change x_T _ _ _ _ [_, _, _, _] _ _ _ _
  have L6 : ∀ (n6 m : Nat) , m + n6 = F 4 → x_T sc (d + 3) mX3_worst 6 [.ref k, .int (eI (s_ax (s_wt F) m).1), .int (eI (s_ax (s_wt F) m).2), .int (nI m)] [] μ w (x_p (some (.int (eI (s_ax (s_wt F) (F 4)).1))) μ w) := by
    intro n6
    induction n6 with
    | zero =>
      intro m  hmn
      obtain rfl : F 4 = m := by omega
      refine xt_iload_n _ dX3_worst_6 rfl ?_
      refine xt_aload_n _ dX3_worst_7 rfl ?_
      refine xt_geti dX3_worst_8 kfX3_55 (by first | exact sh0 | exact hS.1 | exact sh150 | rfl | assumption) rfl ?_
      refine xt_icmp_ge 37 dX3_worst_11 (by decide) (fun _ => ?_) (fun q => absurd (by rw [e4]; exact Int32.le_refl _) q)
      refine xt_iload_n _ dX3_worst_37 rfl ?_
      exact xt_iret .int dX3_worst_38 rfl (by first | rfl | assumption) ⟨rfl, rfl, rfl⟩
    | succ n6 ih6 =>
      intro m  hmn
      have hlt : m < F 4 := by omega
      have hwt := s_wt_le hW (show m < 8 by omega)
      have hax := s_ax_le (v := s_wt F) (c := 54) m (fun i hi => s_wt_le hW (by omega))
      refine xt_iload_n _ dX3_worst_6 rfl ?_
      refine xt_aload_n _ dX3_worst_7 rfl ?_
      refine xt_geti dX3_worst_8 kfX3_55 (by first | exact sh0 | exact hS.1 | exact sh150 | rfl | assumption) rfl ?_
      refine xt_icmp_ge 37 dX3_worst_11 (by decide) (fun q => absurd q (by rw [e4]; exact nI_ge hlt (by omega))) (fun _ => ?_)
      refine xt_aload_n _ dX3_worst_14 rfl ?_
      refine xt_iload_n _ dX3_worst_15 rfl ?_
      refine xt_cV _ dX3_worst_16 klX3_58 (tX2_wrongsTogether sc _ w hS hC m (by omega)) hS.1 rfl rfl (Nat.le_of_ble_eq_true rfl) ?_
      change x_T _ _ _ _ _ (.int (nI (s_wt F m)) :: _) _ _ _
      refine xt_iload_n _ dX3_worst_19 rfl ?_
      refine xt_icmp_le 31 dX3_worst_20 (by decide) (fun t20 => ?_) (fun f20 => ?_)
      · refine xt_inc _ (1) dX3_worst_31 rfl (by decide) (by decide) rfl ?_
        change x_T _ _ _ _ [_, _, _, _] _ _ _ _
        refine xt_goto 6 dX3_worst_34 (by decide) ?_
        refine x_T.ls ?_ (ih6 (m + 1) (by omega))
        rw [eI_lt (by omega) (by omega)] at t20
        rw [s_ax_n (v := s_wt F) (n := m) (by omega), nI_succ m]
      · refine xt_aload_n _ dX3_worst_23 rfl ?_
        refine xt_iload_n _ dX3_worst_24 rfl ?_
        refine xt_cV _ dX3_worst_25 klX3_58 (tX2_wrongsTogether sc _ w hS hC m (by omega)) hS.1 rfl rfl (Nat.le_of_ble_eq_true rfl) ?_
        change x_T _ _ _ _ _ (.int (nI (s_wt F m)) :: _) _ _ _
        refine xt_istore_n dX3_worst_28 (by decide) rfl ?_
        change x_T _ _ _ _ [_, _, _, _] _ _ _ _
        refine xt_iload_n _ dX3_worst_29 rfl ?_
        refine xt_istore_n dX3_worst_30 (by decide) rfl ?_
        change x_T _ _ _ _ [_, _, _, _] _ _ _ _
        refine xt_inc _ (1) dX3_worst_31 rfl (by decide) (by decide) rfl ?_
        change x_T _ _ _ _ [_, _, _, _] _ _ _ _
        refine xt_goto 6 dX3_worst_34 (by decide) ?_
        refine x_T.ls ?_ (ih6 (m + 1) (by omega))
        rw [eI_lt (by omega) (by omega)] at f20
        rw [s_ax_y (v := s_wt F) (n := m) (by omega), nI_succ m]
        simp only [eI_s]
  exact L6 (F 4) 0  (by omega)
set_option maxHeartbeats 1000000 in
theorem tX3_mostKind (hS : f_S k) (hC : f_C μ k F) (hW : f_W F) : x_K sc (d + 3) mX3_mostKind [.ref k] μ w (x_p (some (.int (nI ((s_ax (s_wk F) 6).1 - 1)))) μ w) := by
  have h8 : F 4 ≤ 8 := hW.1.2.2.2.2.1
  refine x_K.of (by decide) (Nat.le_of_ble_eq_true rfl) ?_
  show x_T sc (d + 3) mX3_mostKind 0 [.ref k, .retAddr 0, .retAddr 0] [] μ w _
  refine xt_iconst (0) dX3_mostKind_0 (by decide) ?_
  refine xt_istore_n dX3_mostKind_1 (by decide) rfl ?_
  change x_T _ _ _ _ [_, _, _] _ _ _ _
  refine xt_iconst (1) dX3_mostKind_2 (by decide) ?_
  refine xt_istore_n dX3_mostKind_3 (by decide) rfl ?_
  change x_T _ _ _ _ [_, _, _] _ _ _ _
  have L4 : ∀ (n4 m : Nat) , m + n4 = 5 → x_T sc (d + 3) mX3_mostKind 4 [.ref k, .int (nI ((s_ax (s_wk F) (m + 1)).1 - 1)), .int (nI (m + 1))] [] μ w (x_p (some (.int (nI ((s_ax (s_wk F) 6).1 - 1)))) μ w) := by
    intro n4
    induction n4 with
    | zero =>
      intro m  hmn
      obtain rfl : 5 = m := by omega
      refine xt_iload_n _ dX3_mostKind_4 rfl ?_
      refine xt_bipush (6) dX3_mostKind_5 (by decide) ?_
      refine xt_icmp_ge 31 dX3_mostKind_7 (by decide) (fun _ => ?_) (fun q => absurd (by decide) q)
      refine xt_iload_n _ dX3_mostKind_31 rfl ?_
      exact xt_iret .int dX3_mostKind_32 rfl (by first | rfl | assumption) ⟨rfl, rfl, rfl⟩
    | succ n4 ih4 =>
      intro m  hmn
      have hlt : m < 5 := by omega
      have hax := s_ax_le (v := s_wk F) (c := 72) (m + 1) (fun i hi => s_wk_le hW (by omega) h8)
      have hv := s_ax_v (v := s_wk F) (m + 1) (s_ax_1 m)
      have hk1 : s_wk F (m + 1) ≤ 72 := s_wk_le hW (by omega) h8
      refine xt_iload_n _ dX3_mostKind_4 rfl ?_
      refine xt_bipush (6) dX3_mostKind_5 (by decide) ?_
      refine xt_icmp_ge 31 dX3_mostKind_7 (by decide) (fun q => absurd q (nI_ge (b := 6) (a := m + 1) (by omega) (by decide))) (fun _ => ?_)
      refine xt_aload_n _ dX3_mostKind_10 rfl ?_
      refine xt_iload_n _ dX3_mostKind_11 rfl ?_
      refine xt_cV _ dX3_mostKind_12 klX3_82 (tX2_wrongsOfKind sc _ w hS hC hW (m + 1) (by omega)) hS.1 rfl rfl (Nat.le_of_ble_eq_true rfl) ?_
      change x_T _ _ _ _ _ (.int (nI (s_wk F (m + 1))) :: _) _ _ _
      refine xt_aload_n _ dX3_mostKind_15 rfl ?_
      refine xt_iload_n _ dX3_mostKind_16 rfl ?_
      refine xt_cV _ dX3_mostKind_17 klX3_82 (tX2_wrongsOfKind sc _ w hS hC hW ((s_ax (s_wk F) (m + 1)).1 - 1) (by omega)) hS.1 rfl rfl (Nat.le_of_ble_eq_true rfl) ?_
      change x_T _ _ _ _ _ (.int (nI (s_wk F ((s_ax (s_wk F) (m + 1)).1 - 1))) :: _) _ _ _
      refine xt_icmp_le 25 dX3_mostKind_20 (by decide) (fun t20 => ?_) (fun f20 => ?_)
      · refine xt_inc _ (1) dX3_mostKind_25 rfl (by decide) (by decide) rfl ?_
        change x_T _ _ _ _ [_, _, _] _ _ _ _
        refine xt_goto 4 dX3_mostKind_28 (by decide) ?_
        refine x_T.ls ?_ (ih4 (m + 1) (by omega))
        rw [nI_leI (by omega) (by omega)] at t20
        rw [s_ax_n (v := s_wk F) (n := m + 1) (by omega), nI_succ (m + 1)]
      · refine xt_iload_n _ dX3_mostKind_23 rfl ?_
        refine xt_istore_n dX3_mostKind_24 (by decide) rfl ?_
        change x_T _ _ _ _ [_, _, _] _ _ _ _
        refine xt_inc _ (1) dX3_mostKind_25 rfl (by decide) (by decide) rfl ?_
        change x_T _ _ _ _ [_, _, _] _ _ _ _
        refine xt_goto 4 dX3_mostKind_28 (by decide) ?_
        refine x_T.ls ?_ (ih4 (m + 1) (by omega))
        rw [nI_leI (by omega) (by omega)] at f20
        rw [s_ax_y (v := s_wk F) (n := m + 1) (by omega), nI_succ (m + 1)]
        rfl
  exact L4 5 0 (by omega)
set_option maxHeartbeats 1000000 in
theorem tX3_between (hS : f_S k) (hC : f_C μ k F) (hW : f_W F) (a b : Nat) (ha : a < F 4) (hb : b < F 4) : x_K sc (d + 3) mX3_between [.ref k, .int (nI a), .int (nI b)] μ w (x_p (some (.int (nI (s_bt F a b)))) μ w) := by
  refine x_K.of (by decide) (Nat.le_of_ble_eq_true rfl) ?_
  show x_T sc (d + 3) mX3_between 0 [.ref k, .int (nI a), .int (nI b)] [] μ w _
  refine xt_aload_n _ dX3_between_0 rfl ?_
  refine xt_iload_n _ dX3_between_1 rfl ?_
  refine xt_aload_n _ dX3_between_2 rfl ?_
  refine xt_iload_n _ dX3_between_3 rfl ?_
  refine xt_cV _ dX3_between_4 klX3_95 (tX2_xOf sc _ w hS hC hW b hb) hS.1 rfl rfl (Nat.le_of_ble_eq_true rfl) ?_
  refine xt_aload_n _ dX3_between_7 rfl ?_
  refine xt_iload_n _ dX3_between_8 rfl ?_
  refine xt_cV _ dX3_between_9 klX3_98 (tX2_yOf sc _ w hS hC hW b hb) hS.1 rfl rfl (Nat.le_of_ble_eq_true rfl) ?_
  refine xt_cV _ dX3_between_12 klX3_101 (tX2_farFromGoer sc _ w hS hC hW a _ _ ha (hW.2.2.1 b hb).1 (hW.2.2.1 b hb).2) hS.1 rfl rfl (Nat.le_of_ble_eq_true rfl) ?_
  exact xt_iret .int dX3_between_15 rfl (by first | rfl | assumption) ⟨rfl, rfl, rfl⟩
set_option maxHeartbeats 1000000 in
theorem tX3_nearestTwo (hS : f_S k) (hC : f_C μ k F) (hW : f_W F) : x_K sc (d + 4) mX3_nearestTwo [.ref k] μ w (x_p (some (.int (eI (s_am (s_cv F) (s_ck F) 19 (10 * F 4)).1))) μ w) := by
  have h8 : F 4 ≤ 8 := hW.1.2.2.2.2.1
  have e4 : μ k 4 = nI (F 4) := hC.1 4 (by decide)
  refine x_K.of (by decide) (Nat.le_of_ble_eq_true rfl) ?_
  show x_T sc (d + 4) mX3_nearestTwo 0 [.ref k, .retAddr 0, .retAddr 0, .retAddr 0, .retAddr 0] [] μ w _
  refine xt_iconst (-1) dX3_nearestTwo_0 (by decide) ?_
  refine xt_istore_n dX3_nearestTwo_1 (by decide) rfl ?_
  change x_T _ _ _ _ [_, _, _, _, _] _ _ _ _
  refine xt_bipush (19) dX3_nearestTwo_2 (by decide) ?_
  refine xt_istore_n dX3_nearestTwo_4 (by decide) rfl ?_
  change x_T _ _ _ _ [_, _, _, _, _] _ _ _ _
  refine xt_iconst (0) dX3_nearestTwo_5 (by decide) ?_
  refine xt_istore_n dX3_nearestTwo_6 (by decide) rfl ?_
  change x_T _ _ _ _ [_, _, _, _, _] _ _ _ _
  have L7 : ∀ (n7 a : Nat) (v4 : Value), a + n7 = F 4 → x_T sc (d + 4) mX3_nearestTwo 7 [.ref k, .int (eI (s_am (s_cv F) (s_ck F) 19 (10 * a)).1), .int (nI (s_am (s_cv F) (s_ck F) 19 (10 * a)).2), .int (nI a), v4] [] μ w (x_p (some (.int (eI (s_am (s_cv F) (s_ck F) 19 (10 * F 4)).1))) μ w) := by
    intro n7
    induction n7 with
    | zero =>
      intro a v4 hmn
      obtain rfl : F 4 = a := by omega
      refine xt_iload_n _ dX3_nearestTwo_7 rfl ?_
      refine xt_aload_n _ dX3_nearestTwo_8 rfl ?_
      refine xt_geti dX3_nearestTwo_9 kfX3_55 (by first | exact sh0 | exact hS.1 | exact sh150 | rfl | assumption) rfl ?_
      refine xt_icmp_ge 68 dX3_nearestTwo_12 (by decide) (fun _ => ?_) (fun q => absurd (by rw [e4]; exact Int32.le_refl _) q)
      refine xt_iload_n _ dX3_nearestTwo_68 rfl ?_
      exact xt_iret .int dX3_nearestTwo_69 rfl (by first | rfl | assumption) ⟨rfl, rfl, rfl⟩
    | succ n7 ih7 =>
      intro a v4 hmn
      have hlt_a : a < F 4 := by omega
      refine xt_iload_n _ dX3_nearestTwo_7 rfl ?_
      refine xt_aload_n _ dX3_nearestTwo_8 rfl ?_
      refine xt_geti dX3_nearestTwo_9 kfX3_55 (by first | exact sh0 | exact hS.1 | exact sh150 | rfl | assumption) rfl ?_
      refine xt_icmp_ge 68 dX3_nearestTwo_12 (by decide) (fun q => absurd q (by rw [e4]; exact nI_ge hlt_a (by omega))) (fun _ => ?_)
      refine xt_iload_n _ dX3_nearestTwo_15 rfl ?_
      refine xt_iconst (1) dX3_nearestTwo_16 (by decide) ?_
      refine xt_iadd dX3_nearestTwo_17 ?_
      refine xt_istore dX3_nearestTwo_18 (by decide) rfl ?_
      change x_T _ _ _ _ [_, _, _, _, _] _ _ _ _
      have L20 : ∀ (n20 b : Nat) (hab : a < b), b + n20 = F 4 → x_T sc (d + 4) mX3_nearestTwo 20 [.ref k, .int (eI (s_am (s_cv F) (s_ck F) 19 (10 * a + b)).1), .int (nI (s_am (s_cv F) (s_ck F) 19 (10 * a + b)).2), .int (nI a), .int (nI b)] [] μ w (x_p (some (.int (eI (s_am (s_cv F) (s_ck F) 19 (10 * F 4)).1))) μ w) := by
        intro n20
        induction n20 with
        | zero =>
          intro b hab hmn
          obtain rfl : F 4 = b := by omega
          refine xt_iload _ dX3_nearestTwo_20 rfl ?_
          refine xt_aload_n _ dX3_nearestTwo_22 rfl ?_
          refine xt_geti dX3_nearestTwo_23 kfX3_55 (by first | exact sh0 | exact hS.1 | exact sh150 | rfl | assumption) rfl ?_
          refine xt_icmp_ge 62 dX3_nearestTwo_26 (by decide) (fun _ => ?_) (fun q => absurd (by rw [e4]; exact Int32.le_refl _) q)
          refine xt_inc _ (1) dX3_nearestTwo_62 rfl (by decide) (by decide) rfl ?_
          change x_T _ _ _ _ [_, _, _, _, _] _ _ _ _
          refine xt_goto 7 dX3_nearestTwo_65 (by decide) ?_
          refine x_T.ls ?_ (ih7 (a + 1) (.int (nI (F 4))) (by omega))
          rw [s_cp_out h8, nI_succ a]
        | succ n20 ih20 =>
          intro b hab hmn
          have hlt_b : b < F 4 := by omega
          have hal := s_am_le (v := s_cv F) (ok := s_ck F) (lim := 19) (10 * a + b)
          have hbt := s_bt_le hW (a := a) (b := b) (by omega) hlt_b
          refine xt_iload _ dX3_nearestTwo_20 rfl ?_
          refine xt_aload_n _ dX3_nearestTwo_22 rfl ?_
          refine xt_geti dX3_nearestTwo_23 kfX3_55 (by first | exact sh0 | exact hS.1 | exact sh150 | rfl | assumption) rfl ?_
          refine xt_icmp_ge 62 dX3_nearestTwo_26 (by decide) (fun q => absurd q (by rw [e4]; exact nI_ge hlt_b (by omega))) (fun _ => ?_)
          refine xt_aload_n _ dX3_nearestTwo_29 rfl ?_
          refine xt_iload_n _ dX3_nearestTwo_30 rfl ?_
          refine xt_iload _ dX3_nearestTwo_31 rfl ?_
          refine xt_cS _ dX3_nearestTwo_33 klX3_88 (tX3_between sc _ w hS hC hW a b (by omega) (by omega)) rfl rfl (Nat.le_of_ble_eq_true rfl) ?_
          refine xt_iload_n _ dX3_nearestTwo_36 rfl ?_
          refine xt_icmp_ge 56 dX3_nearestTwo_37 (by decide) (fun t37 => ?_) (fun f37 => ?_)
          · refine xt_inc _ (1) dX3_nearestTwo_56 rfl (by decide) (by decide) rfl ?_
            change x_T _ _ _ _ [_, _, _, _, _] _ _ _ _
            refine xt_goto 20 dX3_nearestTwo_59 (by decide) ?_
            refine x_T.ls ?_ (ih20 (b + 1) (by omega) (by omega))
            have hi1 : (10 * a + b) / 10 = a := by omega
            have hi2 : (10 * a + b) % 10 = b := by omega
            have hv : s_cv F (10 * a + b) = s_bt F a b := by show s_bt F ((10 * a + b) / 10) ((10 * a + b) % 10) = _; rw [hi1, hi2]
            rw [nI_leI (by omega) (by omega)] at t37
            have es : s_am (s_cv F) (s_ck F) 19 (10 * a + b + 1) = s_am (s_cv F) (s_ck F) 19 (10 * a + b) := s_am_n2 (by rw [hv]; exact t37)
            rw [← Nat.add_assoc, es, nI_succ b]
          · refine xt_aload_n _ dX3_nearestTwo_40 rfl ?_
            refine xt_iload_n _ dX3_nearestTwo_41 rfl ?_
            refine xt_iload _ dX3_nearestTwo_42 rfl ?_
            refine xt_cS _ dX3_nearestTwo_44 klX3_88 (tX3_between sc _ w hS hC hW a b (by omega) (by omega)) rfl rfl (Nat.le_of_ble_eq_true rfl) ?_
            refine xt_istore_n dX3_nearestTwo_47 (by decide) rfl ?_
            change x_T _ _ _ _ [_, _, _, _, _] _ _ _ _
            refine xt_bipush (10) dX3_nearestTwo_48 (by decide) ?_
            refine xt_iload_n _ dX3_nearestTwo_50 rfl ?_
            refine xt_imul dX3_nearestTwo_51 ?_
            refine xt_iload _ dX3_nearestTwo_52 rfl ?_
            refine xt_iadd dX3_nearestTwo_54 ?_
            refine xt_istore_n dX3_nearestTwo_55 (by decide) rfl ?_
            change x_T _ _ _ _ [_, _, _, _, _] _ _ _ _
            refine xt_inc _ (1) dX3_nearestTwo_56 rfl (by decide) (by decide) rfl ?_
            change x_T _ _ _ _ [_, _, _, _, _] _ _ _ _
            refine xt_goto 20 dX3_nearestTwo_59 (by decide) ?_
            refine x_T.ls ?_ (ih20 (b + 1) (by omega) (by omega))
            have hi1 : (10 * a + b) / 10 = a := by omega
            have hi2 : (10 * a + b) % 10 = b := by omega
            have hv : s_cv F (10 * a + b) = s_bt F a b := by show s_bt F ((10 * a + b) / 10) ((10 * a + b) % 10) = _; rw [hi1, hi2]
            rw [nI_leI (by omega) (by omega)] at f37
            have es : s_am (s_cv F) (s_ck F) 19 (10 * a + b + 1) = (10 * a + b + 1, s_bt F a b) := by rw [s_am_y (by show decide _ = true; rw [hi1, hi2]; exact decide_eq_true ⟨by omega, by omega⟩) (by rw [hv]; omega), hv]
            rw [← Nat.add_assoc, es, nI_succ b]
            simp only [eI_s]
            rw [show (10 : Int32) = nI 10 from rfl, pk_mul, nI_add]
      refine x_T.ls ?_ (L20 (F 4 - (a + 1)) (a + 1) (by omega) (by omega))
      rw [s_cp_in h8 19 a (by omega), nI_succ a]
  exact L7 (F 4) 0 _ (by omega)
set_option maxHeartbeats 1000000 in
theorem tX3_betweenNearest (hS : f_S k) (hC : f_C μ k F) (hW : f_W F) : x_K sc (d + 5) mX3_betweenNearest [.ref k] μ w (x_p (some (.int (if (s_am (s_cv F) (s_ck F) 19 (10 * F 4)).1 = 0 then 0 else nI (s_am (s_cv F) (s_ck F) 19 (10 * F 4)).2))) μ w) := by
  have h8 : F 4 ≤ 8 := hW.1.2.2.2.2.1
  have hcl := (s_am_le (v := s_cv F) (ok := s_ck F) (lim := 19) (10 * F 4)).2
  refine x_K.of (by decide) (Nat.le_of_ble_eq_true rfl) ?_
  show x_T sc (d + 5) mX3_betweenNearest 0 [.ref k, .retAddr 0] [] μ w _
  refine xt_aload_n _ dX3_betweenNearest_0 rfl ?_
  refine xt_cS _ dX3_betweenNearest_1 klX3_105 (tX3_nearestTwo sc _ w hS hC hW) rfl rfl (Nat.le_of_ble_eq_true rfl) ?_
  refine xt_istore_n dX3_betweenNearest_4 (by decide) rfl ?_
  change x_T _ _ _ _ [_, _] _ _ _ _
  refine xt_iload_n _ dX3_betweenNearest_5 rfl ?_
  refine xt_if_ge 13 dX3_betweenNearest_6 (by decide) (fun t6 => ?_) (fun f6 => ?_)
  · refine xt_aload_n _ dX3_betweenNearest_13 rfl ?_
    refine xt_iload_n _ dX3_betweenNearest_14 rfl ?_
    refine xt_bipush (10) dX3_betweenNearest_15 (by decide) ?_
    refine xt_idiv dX3_betweenNearest_17 (by decide) ?_
    refine xt_iload_n _ dX3_betweenNearest_18 rfl ?_
    refine xt_bipush (10) dX3_betweenNearest_19 (by decide) ?_
    refine xt_irem dX3_betweenNearest_21 (by decide) ?_
    have hne : (s_am (s_cv F) (s_ck F) 19 (10 * F 4)).1 ≠ 0 := fun z => absurd ((eI_neg (by omega)).mpr z) (Int32.not_lt.mpr t6)
    have hok := s_am_ok _ hne
    have hok2 : ((s_am (s_cv F) (s_ck F) 19 (10 * F 4)).1 - 1) / 10 < ((s_am (s_cv F) (s_ck F) 19 (10 * F 4)).1 - 1) % 10 ∧ ((s_am (s_cv F) (s_ck F) 19 (10 * F 4)).1 - 1) % 10 < F 4 := of_decide_eq_true hok
    rw [eI_pr hne]
    rw [show nI ((s_am (s_cv F) (s_ck F) 19 (10 * F 4)).1 - 1) - nI ((s_am (s_cv F) (s_ck F) 19 (10 * F 4)).1 - 1) / (10 : Int32) * 10 = nI (((s_am (s_cv F) (s_ck F) 19 (10 * F 4)).1 - 1) % 10) from pk_rem (d := 10) (by omega) (by decide) (by decide), show nI ((s_am (s_cv F) (s_ck F) 19 (10 * F 4)).1 - 1) / (10 : Int32) = nI (((s_am (s_cv F) (s_ck F) 19 (10 * F 4)).1 - 1) / 10) from pk_div (by omega) (by decide) (by decide)]
    refine xt_cS _ dX3_betweenNearest_22 klX3_88 (tX3_between sc _ w hS hC hW (((s_am (s_cv F) (s_ck F) 19 (10 * F 4)).1 - 1) / 10) (((s_am (s_cv F) (s_ck F) 19 (10 * F 4)).1 - 1) % 10) (by omega) (by omega)) rfl rfl (Nat.le_of_ble_eq_true rfl) ?_
    exact xt_iret .int dX3_betweenNearest_25 rfl (by first | rfl | assumption) ⟨by rw [if_neg hne, s_am_v _ hne], rfl, rfl⟩
  · refine xt_iconst (0) dX3_betweenNearest_9 (by decide) ?_
    refine xt_goto 25 dX3_betweenNearest_10 (by decide) ?_
    exact xt_iret .int dX3_betweenNearest_25 rfl (by first | rfl | assumption) ⟨by rw [if_pos ((eI_neg (by omega)).mp (Int32.not_le.mp f6))], rfl, rfl⟩
set_option maxHeartbeats 1000000 in
theorem tX3_nearestApart (hW : f_W F) (J : Nat) (hJ : J < 256) (hn : ∀ g, g < F 4 → μ 146 g = nI (s_nr F J g (F 4))) : x_K sc (d + 1) mX3_nearestApart [.ref 144, .int (nI (F 4)), .int (nI J)] μ w (x_p (some (.int (nI ((s_pk F J 19).1 - 1)))) μ w) := by
  have h8 : F 4 ≤ 8 := hW.1.2.2.2.2.1
  refine x_K.of (by decide) (Nat.le_of_ble_eq_true rfl) ?_
  show x_T sc (d + 1) mX3_nearestApart 0 [.ref 144, .int (nI (F 4)), .int (nI J), .retAddr 0, .retAddr 0, .retAddr 0] [] μ w _
  refine xt_iconst (0) dX3_nearestApart_0 (by decide) ?_
  refine xt_istore_n dX3_nearestApart_1 (by decide) rfl ?_
  change x_T _ _ _ _ [_, _, _, _, _, _] _ _ _ _
  refine xt_bipush (19) dX3_nearestApart_2 (by decide) ?_
  refine xt_istore dX3_nearestApart_4 (by decide) rfl ?_
  change x_T _ _ _ _ [_, _, _, _, _, _] _ _ _ _
  refine xt_iconst (0) dX3_nearestApart_6 (by decide) ?_
  refine xt_istore dX3_nearestApart_7 (by decide) rfl ?_
  change x_T _ _ _ _ [_, _, _, _, _, _] _ _ _ _
  have L9 : ∀ (n9 m : Nat) , m + n9 = F 4 → x_T sc (d + 1) mX3_nearestApart 9 [.ref 144, .int (nI (F 4)), .int (nI J), .int (nI ((s_am (fun g => s_nr F J g (F 4)) (fun g => !J.testBit g) 19 m).1 - 1)), .int (nI (s_am (fun g => s_nr F J g (F 4)) (fun g => !J.testBit g) 19 m).2), .int (nI m)] [] μ w (x_p (some (.int (nI ((s_pk F J 19).1 - 1)))) μ w) := by
    intro n9
    induction n9 with
    | zero =>
      intro m  hmn
      obtain rfl : F 4 = m := by omega
      refine xt_iload _ dX3_nearestApart_9 rfl ?_
      refine xt_iload_n _ dX3_nearestApart_11 rfl ?_
      refine xt_icmp_ge 58 dX3_nearestApart_12 (by decide) (fun _ => ?_) (fun q => absurd (Int32.le_refl _) q)
      refine xt_iload_n _ dX3_nearestApart_58 rfl ?_
      exact xt_iret .int dX3_nearestApart_59 rfl (by first | rfl | assumption) ⟨rfl, rfl, rfl⟩
    | succ n9 ih9 =>
      intro m  hmn
      have hlt : m < F 4 := by omega
      have hnr := s_nr_le hW J hlt (F 4)
      have ha : s_at 8 (μ 146) (nI m) = nI (s_nr F J m (F 4)) := by rw [s_at_ix (j := m) (by omega) (by decide) rfl, hn m hlt]
      have hal := s_am_le (v := (fun g => s_nr F J g (F 4))) (ok := (fun g => !J.testBit g)) (lim := 19) m
      refine xt_iload _ dX3_nearestApart_9 rfl ?_
      refine xt_iload_n _ dX3_nearestApart_11 rfl ?_
      refine xt_icmp_ge 58 dX3_nearestApart_12 (by decide) (fun q => absurd q (nI_ge hlt (by omega))) (fun _ => ?_)
      refine xt_iload_n _ dX3_nearestApart_15 rfl ?_
      refine xt_iload _ dX3_nearestApart_16 rfl ?_
      refine xt_ishr dX3_nearestApart_18 ?_
      refine xt_iconst (1) dX3_nearestApart_19 (by decide) ?_
      refine xt_iand dX3_nearestApart_20 ?_
      refine xt_if_ne 52 dX3_nearestApart_21 (by decide) (fun t21 => ?_) (fun f21 => ?_)
      · refine xt_inc _ (1) dX3_nearestApart_52 rfl (by decide) (by decide) rfl ?_
        change x_T _ _ _ _ [_, _, _, _, _, _] _ _ _ _
        refine xt_goto 9 dX3_nearestApart_55 (by decide) ?_
        refine x_T.ls ?_ (ih9 (m + 1) (by omega))
        rw [s_sh1 J hJ m (by omega)] at t21
        have es : s_am (fun g => s_nr F J g (F 4)) (fun g => !J.testBit g) 19 (m + 1) = s_am (fun g => s_nr F J g (F 4)) (fun g => !J.testBit g) 19 m := s_am_n1 (v := (fun g => s_nr F J g (F 4))) (ok := (fun g => !J.testBit g)) (by simpa using t21)
        rw [es, nI_succ m]
      · refine xt_aload_n _ dX3_nearestApart_24 rfl ?_
        refine xt_getr _ dX3_nearestApart_25 kfX3_15 (by first | exact sh144 | rfl | assumption) rfl ?_
        refine xt_iload _ dX3_nearestApart_28 rfl ?_
        refine xt_cS _ dX3_nearestApart_30 klX3_78 (tX8_at sc _ _ _ (k := 146) (n := 8) rfl (by decide) _) rfl rfl (Nat.le_of_ble_eq_true rfl) ?_
        refine xt_iload _ dX3_nearestApart_33 rfl ?_
        refine xt_icmp_ge 52 dX3_nearestApart_35 (by decide) (fun t35 => ?_) (fun f35 => ?_)
        · refine xt_inc _ (1) dX3_nearestApart_52 rfl (by decide) (by decide) rfl ?_
          change x_T _ _ _ _ [_, _, _, _, _, _] _ _ _ _
          refine xt_goto 9 dX3_nearestApart_55 (by decide) ?_
          refine x_T.ls ?_ (ih9 (m + 1) (by omega))
          rw [ha, nI_leI (by omega) (by omega)] at t35
          have es : s_am (fun g => s_nr F J g (F 4)) (fun g => !J.testBit g) 19 (m + 1) = s_am (fun g => s_nr F J g (F 4)) (fun g => !J.testBit g) 19 m := s_am_n2 (v := (fun g => s_nr F J g (F 4))) (ok := (fun g => !J.testBit g)) (by show (s_am (fun g => s_nr F J g (F 4)) (fun g => !J.testBit g) 19 m).2 ≤ s_nr F J m (F 4); omega)
          rw [es, nI_succ m]
        · refine xt_aload_n _ dX3_nearestApart_38 rfl ?_
          refine xt_getr _ dX3_nearestApart_39 kfX3_15 (by first | exact sh144 | rfl | assumption) rfl ?_
          refine xt_iload _ dX3_nearestApart_42 rfl ?_
          refine xt_cS _ dX3_nearestApart_44 klX3_78 (tX8_at sc _ _ _ (k := 146) (n := 8) rfl (by decide) _) rfl rfl (Nat.le_of_ble_eq_true rfl) ?_
          rw [ha]
          refine xt_istore dX3_nearestApart_47 (by decide) rfl ?_
          change x_T _ _ _ _ [_, _, _, _, _, _] _ _ _ _
          refine xt_iload _ dX3_nearestApart_49 rfl ?_
          refine xt_istore_n dX3_nearestApart_51 (by decide) rfl ?_
          change x_T _ _ _ _ [_, _, _, _, _, _] _ _ _ _
          refine xt_inc _ (1) dX3_nearestApart_52 rfl (by decide) (by decide) rfl ?_
          change x_T _ _ _ _ [_, _, _, _, _, _] _ _ _ _
          refine xt_goto 9 dX3_nearestApart_55 (by decide) ?_
          refine x_T.ls ?_ (ih9 (m + 1) (by omega))
          rw [s_sh1 J hJ m (by omega)] at f21
          rw [ha, nI_leI (by omega) (by omega)] at f35
          have es : s_am (fun g => s_nr F J g (F 4)) (fun g => !J.testBit g) 19 (m + 1) = (m + 1, s_nr F J m (F 4)) := s_am_y (v := (fun g => s_nr F J g (F 4))) (ok := (fun g => !J.testBit g)) (by simpa using f21) (by show s_nr F J m (F 4) < (s_am (fun g => s_nr F J g (F 4)) (fun g => !J.testBit g) 19 m).2; omega)
          rw [es, nI_succ m]
          rfl
  exact L9 (F 4) 0  (by omega)
set_option maxHeartbeats 2000000 in
theorem tX3_tree (hS : f_S k) (hC : f_C μ k F) (hW : f_W F) (hk : k + 5 < 144) : x_K sc (d + 4) mX3_tree [.ref 144, .ref k] μ w (fun r μ' _ => r = some (.int (nI (s_tr F (F 4)).2)) ∧ ∀ a, a ≠ 146 → μ' a = μ a) := by
  have h8 : F 4 ≤ 8 := hW.1.2.2.2.2.1
  have e4 : μ k 4 = nI (F 4) := hC.1 4 (by decide)
  refine x_K.of (by decide) (Nat.le_of_ble_eq_true rfl) ?_
  show x_T sc (d + 4) mX3_tree 0 [.ref 144, .ref k, .retAddr 0, .retAddr 0, .retAddr 0, .retAddr 0, .retAddr 0] [] μ w _
  refine xt_iconst (0) dX3_tree_0 (by decide) ?_
  refine xt_istore_n dX3_tree_1 (by decide) rfl ?_
  change x_T _ _ _ _ [_, _, _, _, _, _, _] _ _ _ _
  have L2 : ∀ (n2 m : Nat) (μ2 : x_Me) (hJ1 : ∀ g, g < m → μ2 146 g = nI (s_farO F g)) (hJ2 : ∀ a, a ≠ 146 → μ2 a = μ a), m + n2 = F 4 → x_T sc (d + 4) mX3_tree 2 [.ref 144, .ref k, .int (nI m), .retAddr 0, .retAddr 0, .retAddr 0, .retAddr 0] [] μ2 w (fun r μ' _ => r = some (.int (nI (s_tr F (F 4)).2)) ∧ ∀ a, a ≠ 146 → μ' a = μ a) := by
    intro n2
    induction n2 with
    | zero =>
      intro m μ2 hJ1 hJ2 hmn
      obtain rfl : F 4 = m := by omega
      refine xt_iload_n _ dX3_tree_2 rfl ?_
      refine xt_aload_n _ dX3_tree_3 rfl ?_
      refine xt_geti dX3_tree_4 kfX3_55 (by first | exact sh0 | exact hS.1 | exact sh144 | rfl | assumption) rfl ?_
      refine xt_icmp_ge 29 dX3_tree_7 (by decide) (fun _ => ?_) (fun q => absurd (by rw [hJ2 k (by omega), e4]; exact Int32.le_refl _) q)
      refine xt_iconst (0) dX3_tree_29 (by decide) ?_
      refine xt_istore_n dX3_tree_30 (by decide) rfl ?_
      change x_T _ _ _ _ [_, _, _, _, _, _, _] _ _ _ _
      refine xt_iconst (0) dX3_tree_31 (by decide) ?_
      refine xt_istore_n dX3_tree_32 (by decide) rfl ?_
      change x_T _ _ _ _ [_, _, _, _, _, _, _] _ _ _ _
      refine xt_iconst (0) dX3_tree_33 (by decide) ?_
      refine xt_istore dX3_tree_34 (by decide) rfl ?_
      change x_T _ _ _ _ [_, _, _, _, _, _, _] _ _ _ _
      have L36 : ∀ (n36 i : Nat) (μ2 : x_Me) (v5 v6 : Value) (hn : ∀ g, g < F 4 → μ2 146 g = nI (s_nr F (s_tr F i).1 g (F 4))) (hJ2 : ∀ a, a ≠ 146 → μ2 a = μ a), i + n36 = F 4 → x_T sc (d + 4) mX3_tree 36 [.ref 144, .ref k, .int (nI (s_tr F i).1), .int (nI (s_tr F i).2), .int (nI i), v5, v6] [] μ2 w (fun r μ' _ => r = some (.int (nI (s_tr F (F 4)).2)) ∧ ∀ a, a ≠ 146 → μ' a = μ a) := by
        intro n36
        induction n36 with
        | zero =>
          intro i μ2 v5 v6 hn hJ2 hmn
          obtain rfl : F 4 = i := by omega
          refine xt_iload _ dX3_tree_36 rfl ?_
          refine xt_aload_n _ dX3_tree_38 rfl ?_
          refine xt_geti dX3_tree_39 kfX3_55 (by first | exact sh0 | exact hS.1 | exact sh144 | rfl | assumption) rfl ?_
          refine xt_icmp_ge 128 dX3_tree_42 (by decide) (fun _ => ?_) (fun q => absurd (by rw [hJ2 k (by omega), e4]; exact Int32.le_refl _) q)
          refine xt_iload_n _ dX3_tree_128 rfl ?_
          exact xt_iret .int dX3_tree_129 rfl (by first | rfl | assumption) ⟨rfl, hJ2⟩
        | succ n36 ih36 =>
          intro i μ2 v5 v6 hn hJ2 hmn
          have hlt_i : i < F 4 := by omega
          obtain ⟨h1, h2, h3⟩ := s_tr_ok hW i (by omega)
          obtain ⟨p1, p2, p3, p4, _⟩ := s_pk_ok hW h2 (by omega)
          have h256 : 2 ^ F 4 ≤ 256 := Nat.pow_le_pow_right (i := F 4) (j := 8) (by decide) h8
          have hT : ((s_pk F (s_tr F i).1 19).1 - 1) < F 4 := by omega
          refine xt_iload _ dX3_tree_36 rfl ?_
          refine xt_aload_n _ dX3_tree_38 rfl ?_
          refine xt_geti dX3_tree_39 kfX3_55 (by first | exact sh0 | exact hS.1 | exact sh144 | rfl | assumption) rfl ?_
          refine xt_icmp_ge 128 dX3_tree_42 (by decide) (fun q => absurd q (by rw [hJ2 k (by omega), e4]; exact nI_ge hlt_i (by omega))) (fun _ => ?_)
          refine xt_aload_n _ dX3_tree_45 rfl ?_
          refine xt_aload_n _ dX3_tree_46 rfl ?_
          refine xt_geti dX3_tree_47 kfX3_55 (by first | exact sh0 | exact hS.1 | exact sh144 | rfl | assumption) rfl ?_
          refine xt_iload_n _ dX3_tree_50 rfl ?_
          rw [hJ2 k (by omega), e4]
          refine xt_cV _ dX3_tree_51 klX3_85 (tX3_nearestApart sc _ w hW (s_tr F i).1 (by omega) hn) sh144 rfl rfl (Nat.le_of_ble_eq_true rfl) ?_
          refine xt_istore dX3_tree_54 (by decide) rfl ?_
          change x_T _ _ _ _ [_, _, _, _, _, _, _] _ _ _ _
          refine xt_iload_n _ dX3_tree_56 rfl ?_
          refine xt_iconst (1) dX3_tree_57 (by decide) ?_
          refine xt_iload _ dX3_tree_58 rfl ?_
          refine xt_ishl dX3_tree_60 ?_
          refine xt_ior dX3_tree_61 ?_
          refine xt_istore_n dX3_tree_62 (by decide) rfl ?_
          change x_T _ _ _ _ [_, _, _, _, _, _, _] _ _ _ _
          refine xt_iload_n _ dX3_tree_63 rfl ?_
          refine xt_aload_n _ dX3_tree_64 rfl ?_
          refine xt_getr _ dX3_tree_65 kfX3_15 (by first | exact sh0 | exact hS.1 | exact sh144 | rfl | assumption) rfl ?_
          refine xt_iload _ dX3_tree_68 rfl ?_
          refine xt_cS _ dX3_tree_70 klX3_78 (tX8_at sc _ _ _ (k := 146) (n := 8) rfl (by decide) _) rfl rfl (Nat.le_of_ble_eq_true rfl) ?_
          rw [show s_at 8 (μ2 146) (nI ((s_pk F (s_tr F i).1 19).1 - 1)) = nI (s_nr F (s_tr F i).1 ((s_pk F (s_tr F i).1 19).1 - 1) (F 4)) by rw [s_at_ix (j := ((s_pk F (s_tr F i).1 19).1 - 1)) (by omega) (by decide) rfl, hn _ (by omega)]]
          refine xt_iadd dX3_tree_73 ?_
          refine xt_istore_n dX3_tree_74 (by decide) rfl ?_
          change x_T _ _ _ _ [_, _, _, _, _, _, _] _ _ _ _
          refine xt_iconst (0) dX3_tree_75 (by decide) ?_
          refine xt_istore dX3_tree_76 (by decide) rfl ?_
          change x_T _ _ _ _ [_, _, _, _, _, _, _] _ _ _ _
          have L78 : ∀ (n78 j : Nat) (μ3 : x_Me) (hq : ∀ g, g < F 4 → μ3 146 g = nI (if g < j then min (s_nr F (s_tr F i).1 g (F 4)) (s_bt F ((s_pk F (s_tr F i).1 19).1 - 1) g) else s_nr F (s_tr F i).1 g (F 4))) (hJ3 : ∀ a, a ≠ 146 → μ3 a = μ a), j + n78 = F 4 → x_T sc (d + 4) mX3_tree 78 [.ref 144, .ref k, .int (nI (s_tr F i).1 ||| ((1 : Int32) <<< (nI ((s_pk F (s_tr F i).1 19).1 - 1) &&& 31))), .int (nI (s_tr F i).2 + nI (s_nr F (s_tr F i).1 ((s_pk F (s_tr F i).1 19).1 - 1) (F 4))), .int (nI i), .int (nI ((s_pk F (s_tr F i).1 19).1 - 1)), .int (nI j)] [] μ3 w (fun r μ' _ => r = some (.int (nI (s_tr F (F 4)).2)) ∧ ∀ a, a ≠ 146 → μ' a = μ a) := by
            intro n78
            induction n78 with
            | zero =>
              intro j μ3 hq hJ3 hmn
              obtain rfl : F 4 = j := by omega
              refine xt_iload _ dX3_tree_78 rfl ?_
              refine xt_aload_n _ dX3_tree_80 rfl ?_
              refine xt_geti dX3_tree_81 kfX3_55 (by first | exact sh0 | exact hS.1 | exact sh144 | rfl | assumption) rfl ?_
              refine xt_icmp_ge 122 dX3_tree_84 (by decide) (fun _ => ?_) (fun q => absurd (by rw [hJ3 k (by omega), e4]; exact Int32.le_refl _) q)
              refine xt_inc _ (1) dX3_tree_122 rfl (by decide) (by decide) rfl ?_
              change x_T _ _ _ _ [_, _, _, _, _, _, _] _ _ _ _
              refine xt_goto 36 dX3_tree_125 (by decide) ?_
              refine x_T.ls ?_ (ih36 (i + 1) μ3 (.int (nI ((s_pk F (s_tr F i).1 19).1 - 1))) (.int (nI (F 4))) ?_ hJ3 (by omega))
              · rw [show (1 : Int32) <<< (nI ((s_pk F (s_tr F i).1 19).1 - 1) &&& 31) = nI (2 ^ ((s_pk F (s_tr F i).1 19).1 - 1)) from x_bit _ (by omega), nI_or, nI_add, ← p4, nI_succ i]
                rfl
              · intro g hg
                rw [hq g hg, if_pos hg]
                show _ = nI (s_nr F ((s_tr F i).1 ||| 2 ^ ((s_pk F (s_tr F i).1 19).1 - 1)) g (F 4))
                rw [s_nr_add, if_pos hT, s_bt_comm]
            | succ n78 ih78 =>
              intro j μ3 hq hJ3 hmn
              have hlt_j : j < F 4 := by omega
              have hC3 : f_C μ3 k F := hC.cg (fun j hj => hJ3 _ (by omega))
              have hnr := s_nr_le hW (s_tr F i).1 hlt_j (F 4)
              have hbt := s_bt_le hW (a := ((s_pk F (s_tr F i).1 19).1 - 1)) (b := j) hT hlt_j
              refine xt_iload _ dX3_tree_78 rfl ?_
              refine xt_aload_n _ dX3_tree_80 rfl ?_
              refine xt_geti dX3_tree_81 kfX3_55 (by first | exact sh0 | exact hS.1 | exact sh144 | rfl | assumption) rfl ?_
              refine xt_icmp_ge 122 dX3_tree_84 (by decide) (fun q => absurd q (by rw [hJ3 k (by omega), e4]; exact nI_ge hlt_j (by omega))) (fun _ => ?_)
              refine xt_aload_n _ dX3_tree_87 rfl ?_
              refine xt_getr _ dX3_tree_88 kfX3_15 (by first | exact sh0 | exact hS.1 | exact sh144 | rfl | assumption) rfl ?_
              refine xt_iload _ dX3_tree_91 rfl ?_
              refine xt_aload_n _ dX3_tree_93 rfl ?_
              refine xt_getr _ dX3_tree_94 kfX3_15 (by first | exact sh0 | exact hS.1 | exact sh144 | rfl | assumption) rfl ?_
              refine xt_iload _ dX3_tree_97 rfl ?_
              refine xt_cS _ dX3_tree_99 klX3_78 (tX8_at sc _ _ _ (k := 146) (n := 8) rfl (by decide) _) rfl rfl (Nat.le_of_ble_eq_true rfl) ?_
              rw [show s_at 8 (μ3 146) (nI j) = nI (s_nr F (s_tr F i).1 j (F 4)) by rw [s_at_ix (j := j) (by omega) (by decide) rfl, hq j hlt_j, if_neg (Nat.lt_irrefl _)]]
              refine xt_aload_n _ dX3_tree_102 rfl ?_
              refine xt_iload _ dX3_tree_103 rfl ?_
              refine xt_iload _ dX3_tree_105 rfl ?_
              refine xt_cS _ dX3_tree_107 klX3_88 (tX3_between sc _ w hS hC3 hW ((s_pk F (s_tr F i).1 19).1 - 1) j (by omega) hlt_j) rfl rfl (Nat.le_of_ble_eq_true rfl) ?_
              refine xt_mmin dX3_tree_110 kmX3_92 (Nat.le_of_ble_eq_true rfl) ?_
              rw [show (if nI (s_bt F ((s_pk F (s_tr F i).1 19).1 - 1) j) < nI (s_nr F (s_tr F i).1 j (F 4)) then nI (s_bt F ((s_pk F (s_tr F i).1 19).1 - 1) j) else nI (s_nr F (s_tr F i).1 j (F 4))) = nI (min (s_nr F (s_tr F i).1 j (F 4)) (s_bt F ((s_pk F (s_tr F i).1 19).1 - 1) j)) from s_min_nI (by omega) (by omega)]
              refine xt_cS0 _ dX3_tree_113 klX3_61 (tX8_set sc _ μ3 _ (k := 146) (n := 8) rfl (by decide) _ _) rfl rfl (Nat.le_of_ble_eq_true rfl) ?_
              refine xt_inc _ (1) dX3_tree_116 rfl (by decide) (by decide) rfl ?_
              change x_T _ _ _ _ [_, _, _, _, _, _, _] _ _ _ _
              refine xt_goto 78 dX3_tree_119 (by decide) ?_
              refine x_T.ls (by rw [nI_succ j]) (ih78 (j + 1) _ ?_ ?_ (by omega))
              · intro g hg
                rw [x_u_eq, s_set_ix (by omega) (by decide)]
                by_cases h : g = j
                · subst h; rw [pk_us, if_pos (Nat.lt_succ_self _)]
                · rw [pk_un h, hq g hg]
                  by_cases h2 : g < j
                  · rw [if_pos h2, if_pos (by omega)]
                  · rw [if_neg h2, if_neg (by omega)]
              · intro a ha; rw [x_u_ne ha]; exact hJ3 a ha
          exact L78 (F 4) 0 μ2 (fun g hg => by rw [hn g hg, if_neg (by omega)]) hJ2 (by omega)
      exact L36 (F 4) 0 μ2 _ _ (fun g hg => by rw [hJ1 g hg, s_nr_0]) hJ2 (by omega)
    | succ n2 ih2 =>
      intro m μ2 hJ1 hJ2 hmn
      have hlt : m < F 4 := by omega
      have hC2 : f_C μ2 k F := hC.cg (fun j hj => hJ2 _ (by omega))
      refine xt_iload_n _ dX3_tree_2 rfl ?_
      refine xt_aload_n _ dX3_tree_3 rfl ?_
      refine xt_geti dX3_tree_4 kfX3_55 (by first | exact sh0 | exact hS.1 | exact sh144 | rfl | assumption) rfl ?_
      refine xt_icmp_ge 29 dX3_tree_7 (by decide) (fun q => absurd q (by rw [hJ2 k (by omega), e4]; exact nI_ge hlt (by omega))) (fun _ => ?_)
      refine xt_aload_n _ dX3_tree_10 rfl ?_
      refine xt_getr _ dX3_tree_11 kfX3_15 (by first | exact sh0 | exact hS.1 | exact sh144 | rfl | assumption) rfl ?_
      refine xt_iload_n _ dX3_tree_14 rfl ?_
      refine xt_aload_n _ dX3_tree_15 rfl ?_
      refine xt_iload_n _ dX3_tree_16 rfl ?_
      refine xt_cV _ dX3_tree_17 klX3_37 (tX2_farOf sc _ w hS hC2 hW m hlt) hS.1 rfl rfl (Nat.le_of_ble_eq_true rfl) ?_
      refine xt_cS0 _ dX3_tree_20 klX3_61 (tX8_set sc _ μ2 _ (k := 146) (n := 8) rfl (by decide) _ _) rfl rfl (Nat.le_of_ble_eq_true rfl) ?_
      refine xt_inc _ (1) dX3_tree_23 rfl (by decide) (by decide) rfl ?_
      change x_T _ _ _ _ [_, _, _, _, _, _, _] _ _ _ _
      refine xt_goto 2 dX3_tree_26 (by decide) ?_
      refine x_T.ls (by rw [nI_succ m]) (ih2 (m + 1) _ ?_ ?_ (by omega))
      · intro g hg
        rw [x_u_eq, s_set_ix (by omega) (by decide)]
        by_cases h : g = m
        · subst h; rw [pk_us]
        · rw [pk_un h]; exact hJ1 g (by omega)
      · intro a ha; rw [x_u_ne ha]; exact hJ2 a ha
  exact L2 (F 4) 0 μ (fun g h => absurd h (by omega)) (fun a _ => rfl) (by omega)
end UPRIGHT
