/-! sets of MINDS; tunes that play -/
section FAIRS
variable (sc : Nat × (Nat → Int32)) (d : Nat) {μ : x_Me} (w : Int64) {k : Nat} {F : Nat → Nat}
def s_no : Nat → Bool := fun _ => false
/-- the GOERS that offend -/
def s_offs (F : Nat → Nat) (st : Nat → Bool) : Nat := s_bits (s_off F st 0) (F 4)
/-- from t on, r tunes long: the first that the slant doesn't stop -/
def s_pa (F : Nat → Nat) : Nat → Nat → Int32
  | 0, _ => -1
  | r + 1, t => if s_slant F t then s_pa F r (t + 1) else nI t
theorem s_offs_lt (hW : f_W F) (st : Nat → Bool) : s_offs F st < 256 := by
  have h1 := s_bits_lt (s_off F st 0) (F 4)
  have h2 : 2 ^ F 4 ≤ 2 ^ 8 := Nat.pow_le_pow_right (by decide) hW.1.2.2.2.2.1
  unfold s_offs
  omega
theorem nI_0e {n : Nat} (hn : n < 2 ^ 31) : nI n = 0 ↔ n = 0 := by rw [show (0 : Int32) = nI 0 from rfl, nI_eq hn (by decide)]
theorem s_nar (b : Bool) : narrow .boolean (.int (if b then 1 else 0)) = .int (if b then 1 else 0) := by cases b <;> rfl
set_option maxHeartbeats 600000 in
theorem tX2_playingAfter (hS : f_S k) (hC : f_C μ k F) (hW : f_W F) (n : Nat) (hn : n ≤ 99) : x_D sc (d + 4) mX2_playingAfter [.ref k, .int (nI n)] μ w (some (.int (if s_offs F (fun _ => false) = 0 then s_pa F (99 - n) (n + 1) else -1))) μ w := by
  obtain ⟨hs0, hs1, hs2, hs3, hs4, hs5⟩ := hS
  have hb := s_offs_lt hW (fun _ => false)
  have L14 : s_offs F (fun _ => false) = 0 → ∀ (r t : Nat), t + r = 100 → s_pa F r t = s_pa F (99 - n) (n + 1) → x_T sc (d + 4) mX2_playingAfter 14 [.ref k, .int (nI n), .int (nI t)] [] μ w (x_p (some (.int (if s_offs F (fun _ => false) = 0 then s_pa F (99 - n) (n + 1) else -1))) μ w) := by
    intro hq r
    induction r with
    | zero =>
      intro t hmn hr
      refine xt_iload_n _ dX2_playingAfter_14 rfl ?_
      refine xt_bipush (99) dX2_playingAfter_15 (by decide) ?_
      refine xt_icmp_gt 36 dX2_playingAfter_17 (by decide) (fun _ => ?_) (fun q => absurd (nI_lt (a := 99) (by omega) (by omega)) q)
      refine xt_iconst (-1) dX2_playingAfter_36 (by decide) ?_
      exact xt_iret .int dX2_playingAfter_37 rfl (by first | rfl | assumption) ⟨by rw [if_pos hq]; rw [← hr]; rfl, rfl, rfl⟩
    | succ r ih =>
      intro t hmn hr
      refine xt_iload_n _ dX2_playingAfter_14 rfl ?_
      refine xt_bipush (99) dX2_playingAfter_15 (by decide) ?_
      refine xt_icmp_gt 36 dX2_playingAfter_17 (by decide) (fun q => absurd q (fun z => absurd ((nI_ltI (a := 99) (by decide) (by omega)).mp z) (by omega))) (fun _ => ?_)
      refine xt_aload_n _ dX2_playingAfter_20 rfl ?_
      refine xt_iload_n _ dX2_playingAfter_21 rfl ?_
      refine xt_cV _ dX2_playingAfter_22 klX2_134 (tX2_slantStops sc _ w (by exact ⟨hs0, hs1, hs2, hs3, hs4, hs5⟩) hC hW t (by omega)) (by assumption) rfl rfl (Nat.le_of_ble_eq_true rfl) ?_
      refine xt_if_ne 30 dX2_playingAfter_25 (by decide) (fun t25 => ?_) (fun f25 => ?_)
      · refine xt_inc _ (1) dX2_playingAfter_30 rfl (by decide) (by decide) rfl ?_
        change x_T _ _ _ _ [_, _, _] _ _ _ _
        refine xt_goto 14 dX2_playingAfter_33 (by decide) ?_
        refine x_T.ls ?_ (ih (t + 1) (by omega) ?_)
        · rw [nI_succ t]
        · rw [← hr, s_pa, if_pos (by cases hs : s_slant F t <;> simp_all)]
      · refine xt_iload_n _ dX2_playingAfter_28 rfl ?_
        exact xt_iret .int dX2_playingAfter_29 rfl (by first | rfl | assumption) ⟨by rw [if_pos hq, ← hr, s_pa, if_neg (by cases hs : s_slant F t <;> simp_all)], rfl, rfl⟩
  refine x_D.of (by decide) (Nat.le_of_ble_eq_true rfl) ?_
  show x_T sc (d + 4) mX2_playingAfter 0 [.ref k, .int (nI n), .retAddr 0] [] μ w _
  refine xt_aload_n _ dX2_playingAfter_0 rfl ?_
  refine xt_iconst (0) dX2_playingAfter_1 (by decide) ?_
  refine xt_cV _ dX2_playingAfter_2 klX2_120 (tX2_offenders sc _ w (by exact ⟨hs0, hs1, hs2, hs3, hs4, hs5⟩) hC hW 0 (fun _ => false) s_str0) (by assumption) rfl rfl (Nat.le_of_ble_eq_true rfl) ?_
  refine xt_if_eq 10 dX2_playingAfter_5 (by decide) (fun t5 => ?_) (fun f5 => ?_)
  · refine xt_iload_n _ dX2_playingAfter_10 rfl ?_
    refine xt_iconst (1) dX2_playingAfter_11 (by decide) ?_
    refine xt_iadd dX2_playingAfter_12 ?_
    refine xt_istore_n dX2_playingAfter_13 (by decide) rfl ?_
    change x_T _ _ _ _ [_, _, _] _ _ _ _
    have hq : s_offs F (fun _ => false) = 0 := (nI_0e (by omega)).mp t5
    refine x_T.ls ?_ (L14 hq (99 - n) (n + 1) (by omega) rfl)
    rw [nI_succ n]
  · refine xt_iconst (-1) dX2_playingAfter_8 (by decide) ?_
    exact xt_iret .int dX2_playingAfter_9 rfl (by first | rfl | assumption) ⟨by have hz : ¬ s_offs F (fun _ => false) = 0 := (fun z => f5 ((nI_0e (show s_offs F (fun _ => false) < 2 ^ 31 by omega)).mpr z)); rw [if_neg hz], rfl, rfl⟩
set_option maxHeartbeats 600000 in
theorem tX2_playingUpTo (hS : f_S k) (hC : f_C μ k F) (hW : f_W F) (n : Nat) (hn : n ≤ 99) : x_D sc (d + 4) mX2_playingUpTo [.ref k, .int (nI n)] μ w (some (.int (if s_offs F (fun _ => false) = 0 then nI (if F 2 = 0 then n else n - n / F 2) else 0))) μ w := by
  obtain ⟨hs0, hs1, hs2, hs3, hs4, hs5⟩ := hS
  have hb := s_offs_lt hW (fun _ => false)
  have h9 : F 2 ≤ 9 := hW.1.2.2.1
  have e2 : μ k 2 = nI (F 2) := hC.1 2 (by decide)
  refine x_D.of (by decide) (Nat.le_of_ble_eq_true rfl) ?_
  show x_T sc (d + 4) mX2_playingUpTo 0 [.ref k, .int (nI n)] [] μ w _
  refine xt_aload_n _ dX2_playingUpTo_0 rfl ?_
  refine xt_iconst (0) dX2_playingUpTo_1 (by decide) ?_
  refine xt_cV _ dX2_playingUpTo_2 klX2_120 (tX2_offenders sc _ w (by exact ⟨hs0, hs1, hs2, hs3, hs4, hs5⟩) hC hW 0 (fun _ => false) s_str0) (by assumption) rfl rfl (Nat.le_of_ble_eq_true rfl) ?_
  refine xt_if_eq 10 dX2_playingUpTo_5 (by decide) (fun t5 => ?_) (fun f5 => ?_)
  · refine xt_aload_n _ dX2_playingUpTo_10 rfl ?_
    refine xt_geti dX2_playingUpTo_11 kfX2_34 (by first | rfl | assumption) rfl ?_
    refine xt_if_ne 21 dX2_playingUpTo_14 (by decide) (fun t14 => ?_) (fun f14 => ?_)
    · refine xt_iload_n _ dX2_playingUpTo_21 rfl ?_
      refine xt_iload_n _ dX2_playingUpTo_22 rfl ?_
      refine xt_aload_n _ dX2_playingUpTo_23 rfl ?_
      refine xt_geti dX2_playingUpTo_24 kfX2_34 (by first | rfl | assumption) rfl ?_
      refine xt_idiv dX2_playingUpTo_27 (by assumption) ?_
      refine xt_isub dX2_playingUpTo_28 ?_
      exact xt_iret .int dX2_playingUpTo_29 rfl (by first | rfl | assumption) ⟨by have hz : ¬ F 2 = 0 := fun z => t14 (by rw [e2, z]; rfl); rw [if_pos ((nI_0e (show s_offs F (fun _ => false) < 2 ^ 31 by omega)).mp t5), if_neg hz, e2, pk_div (by omega) (by omega) (by omega), pk_sub (Nat.div_le_self _ _)], rfl, rfl⟩
    · refine xt_iload_n _ dX2_playingUpTo_17 rfl ?_
      refine xt_goto 29 dX2_playingUpTo_18 (by decide) ?_
      exact xt_iret .int dX2_playingUpTo_29 rfl (by first | rfl | assumption) ⟨by rw [if_pos ((nI_0e (show s_offs F (fun _ => false) < 2 ^ 31 by omega)).mp t5), if_pos ((nI_0e (by omega)).mp (e2 ▸ f14))], rfl, rfl⟩
  · refine xt_iconst (0) dX2_playingUpTo_8 (by decide) ?_
    exact xt_iret .int dX2_playingUpTo_9 rfl (by first | rfl | assumption) ⟨by have hz : ¬ s_offs F (fun _ => false) = 0 := (fun z => f5 ((nI_0e (show s_offs F (fun _ => false) < 2 ^ 31 by omega)).mpr z)); rw [if_neg hz], rfl, rfl⟩
theorem s_strB : ∀ m, m < 6 → s_str (((1 : Int32) <<< (nI m &&& 31)) ^^^ (-1)) (fun j => decide (j ≠ m)) := by
  have h : ∀ m, m < 6 → ∀ j, j < 6 → ((((((1 : Int32) <<< (nI m &&& 31)) ^^^ (-1)) >>> (nI j &&& 31)) &&& 1 = 0) ↔ (decide (j ≠ m) = false)) := by decide +kernel
  intro m hm j hj
  exact h m hm j hj
theorem s_strO : ∀ m, m < 6 → s_str ((1 : Int32) <<< (nI m &&& 31)) (fun j => decide (j = m)) := by
  have h : ∀ m, m < 6 → ∀ j, j < 6 → (((((1 : Int32) <<< (nI m &&& 31)) >>> (nI j &&& 31)) &&& 1 = 0) ↔ (decide (j = m) = false)) := by decide +kernel
  intro m hm j hj
  exact h m hm j hj
/-- how many offend by one MINDS alone -/
def s_by (F : Nat → Nat) (m : Nat) : Nat := s_cnt (s_off F (fun j => decide (j ≠ m)) 0) (F 4)
theorem s_by_le (hW : f_W F) (m : Nat) : s_by F m ≤ 8 := Nat.le_trans (s_cnt_le _ _) hW.1.2.2.2.2.1
set_option maxHeartbeats 600000 in
theorem tX2_offendersBy (hS : f_S k) (hC : f_C μ k F) (hW : f_W F) (m : Nat) (hm : m < F 3) : x_D sc (d + 4) mX2_offendersBy [.ref k, .int (nI m)] μ w (some (.int (nI (s_by F m)))) μ w := by
  obtain ⟨hs0, hs1, hs2, hs3, hs4, hs5⟩ := hS
  have hm6 : F 3 ≤ 6 := hW.1.2.2.2.1
  refine x_D.of (by decide) (Nat.le_of_ble_eq_true rfl) ?_
  show x_T sc (d + 4) mX2_offendersBy 0 [.ref k, .int (nI m)] [] μ w _
  refine xt_aload_n _ dX2_offendersBy_0 rfl ?_
  refine xt_iconst (1) dX2_offendersBy_1 (by decide) ?_
  refine xt_iload_n _ dX2_offendersBy_2 rfl ?_
  refine xt_ishl dX2_offendersBy_3 ?_
  refine xt_iconst (-1) dX2_offendersBy_4 (by decide) ?_
  refine xt_ixor dX2_offendersBy_5 ?_
  refine xt_cV _ dX2_offendersBy_6 klX2_120 (tX2_offenders sc _ w (by exact ⟨hs0, hs1, hs2, hs3, hs4, hs5⟩) hC hW _ _ (s_strB m (by omega))) (by assumption) rfl rfl (Nat.le_of_ble_eq_true rfl) ?_
  refine xt_cS _ dX2_offendersBy_9 klX2_123 (tJ_bitCount sc _ w _) rfl rfl (Nat.le_of_ble_eq_true rfl) ?_
  exact xt_iret .int dX2_offendersBy_12 rfl (by first | rfl | assumption) ⟨by rw [s_bc_bits _ hW.1.2.2.2.2.1]; rfl, rfl, rfl⟩
set_option maxHeartbeats 600000 in
theorem tX2_offendedMinds (hS : f_S k) (hC : f_C μ k F) (hW : f_W F) : x_D sc (d + 5) mX2_offendedMinds [.ref k] μ w (some (.int (nI (s_bits (fun m => decide (0 < s_by F m)) (F 3))))) μ w := by
  obtain ⟨hs0, hs1, hs2, hs3, hs4, hs5⟩ := hS
  have hm6 : F 3 ≤ 6 := hW.1.2.2.2.1
  have e3 : μ k 3 = nI (F 3) := hC.1 3 (by decide)
  have L4 : ∀ (n m : Nat) , m + n = F 3 → x_T sc (d + 5) mX2_offendedMinds 4 [.ref k, .int (nI (s_bits (fun m => decide (0 < s_by F m)) m)), .int (nI m)] [] μ w (x_p (some (.int (nI (s_bits (fun m => decide (0 < s_by F m)) (F 3))))) μ w) := by
    intro n
    induction n with
    | zero =>
      intro m  hmn
      obtain rfl : m = F 3 := by omega
      refine xt_iload_n _ dX2_offendedMinds_4 rfl ?_
      refine xt_aload_n _ dX2_offendedMinds_5 rfl ?_
      refine xt_geti dX2_offendedMinds_6 kfX2_37 (by first | rfl | assumption) rfl ?_
      refine xt_icmp_ge 32 dX2_offendedMinds_9 (by decide) (fun _ => ?_) (fun q => absurd (by rw [e3]; exact Int32.le_refl _) q)
      refine xt_iload_n _ dX2_offendedMinds_32 rfl ?_
      exact xt_iret .int dX2_offendedMinds_33 rfl (by first | rfl | assumption) ⟨rfl, rfl, rfl⟩
    | succ n ih =>
      intro m  hmn
      have hlt : m < F 3 := by omega
      refine xt_iload_n _ dX2_offendedMinds_4 rfl ?_
      refine xt_aload_n _ dX2_offendedMinds_5 rfl ?_
      refine xt_geti dX2_offendedMinds_6 kfX2_37 (by first | rfl | assumption) rfl ?_
      refine xt_icmp_ge 32 dX2_offendedMinds_9 (by decide) (fun q => absurd q (by rw [e3]; exact nI_ge hlt (by omega))) (fun _ => ?_)
      refine xt_aload_n _ dX2_offendedMinds_12 rfl ?_
      refine xt_iload_n _ dX2_offendedMinds_13 rfl ?_
      refine xt_cV _ dX2_offendedMinds_14 klX2_128 (tX2_offendersBy sc d w (by exact ⟨hs0, hs1, hs2, hs3, hs4, hs5⟩) hC hW m hlt) (by assumption) rfl rfl (Nat.le_of_ble_eq_true rfl) ?_
      refine xt_if_le 26 dX2_offendedMinds_17 (by decide) (fun t17 => ?_) (fun f17 => ?_)
      · refine xt_inc _ (1) dX2_offendedMinds_26 rfl (by decide) (by decide) rfl ?_
        change x_T _ _ _ _ [_, _, _] _ _ _ _
        refine xt_goto 4 dX2_offendedMinds_29 (by decide) ?_
        have h8 := s_by_le hW m
        refine x_T.ls ?_ (ih (m + 1) (by omega))
        rw [s_bits_no (p := (fun m => decide (0 < s_by F m))) (by have := (nI_leI (b := 0) (by omega) (by decide)).mp t17; simp; omega), nI_succ m]
      · refine xt_iload_n _ dX2_offendedMinds_20 rfl ?_
        refine xt_iconst (1) dX2_offendedMinds_21 (by decide) ?_
        refine xt_iload_n _ dX2_offendedMinds_22 rfl ?_
        refine xt_ishl dX2_offendedMinds_23 ?_
        refine xt_ior dX2_offendedMinds_24 ?_
        refine xt_istore_n dX2_offendedMinds_25 (by decide) rfl ?_
        change x_T _ _ _ _ [_, _, _] _ _ _ _
        refine xt_inc _ (1) dX2_offendedMinds_26 rfl (by decide) (by decide) rfl ?_
        change x_T _ _ _ _ [_, _, _] _ _ _ _
        refine xt_goto 4 dX2_offendedMinds_29 (by decide) ?_
        have h8 := s_by_le hW m
        refine x_T.ls ?_ (ih (m + 1) (by omega))
        rw [← s_bits_or (p := (fun m => decide (0 < s_by F m))) (g := m) (by omega) (by have hz : ¬ s_by F m ≤ 0 := (fun z => f17 ((nI_leI (a := s_by F m) (b := 0) (by omega) (by decide)).mpr z)); simp; omega), nI_succ m]
  refine x_D.of (by decide) (Nat.le_of_ble_eq_true rfl) ?_
  show x_T sc (d + 5) mX2_offendedMinds 0 [.ref k, .retAddr 0, .retAddr 0] [] μ w _
  refine xt_iconst (0) dX2_offendedMinds_0 (by decide) ?_
  refine xt_istore_n dX2_offendedMinds_1 (by decide) rfl ?_
  change x_T _ _ _ _ [_, _, _] _ _ _ _
  refine xt_iconst (0) dX2_offendedMinds_2 (by decide) ?_
  refine xt_istore_n dX2_offendedMinds_3 (by decide) rfl ?_
  change x_T _ _ _ _ [_, _, _] _ _ _ _
  exact L4 (F 3) 0 (by omega)
set_option maxHeartbeats 600000 in
theorem tX2_idleMinds (hS : f_S k) (hC : f_C μ k F) (hW : f_W F) : x_D sc (d + 4) mX2_idleMinds [.ref k] μ w (some (.int (nI (s_bits (fun m => decide (s_offs F (fun j => decide (j = m)) = s_offs F (fun _ => false))) (F 3))))) μ w := by
  obtain ⟨hs0, hs1, hs2, hs3, hs4, hs5⟩ := hS
  have hm6 : F 3 ≤ 6 := hW.1.2.2.2.1
  have e3 : μ k 3 = nI (F 3) := hC.1 3 (by decide)
  have hb0 := s_offs_lt hW (fun _ => false)
  have L10 : ∀ (n m : Nat) , m + n = F 3 → x_T sc (d + 4) mX2_idleMinds 10 [.ref k, .int (nI (s_offs F (fun _ => false))), .int (nI (s_bits (fun m => decide (s_offs F (fun j => decide (j = m)) = s_offs F (fun _ => false))) m)), .int (nI m)] [] μ w (x_p (some (.int (nI (s_bits (fun m => decide (s_offs F (fun j => decide (j = m)) = s_offs F (fun _ => false))) (F 3))))) μ w) := by
    intro n
    induction n with
    | zero =>
      intro m  hmn
      obtain rfl : m = F 3 := by omega
      refine xt_iload_n _ dX2_idleMinds_10 rfl ?_
      refine xt_aload_n _ dX2_idleMinds_11 rfl ?_
      refine xt_geti dX2_idleMinds_12 kfX2_37 (by first | rfl | assumption) rfl ?_
      refine xt_icmp_ge 41 dX2_idleMinds_15 (by decide) (fun _ => ?_) (fun q => absurd (by rw [e3]; exact Int32.le_refl _) q)
      refine xt_iload_n _ dX2_idleMinds_41 rfl ?_
      exact xt_iret .int dX2_idleMinds_42 rfl (by first | rfl | assumption) ⟨rfl, rfl, rfl⟩
    | succ n ih =>
      intro m  hmn
      have hlt : m < F 3 := by omega
      refine xt_iload_n _ dX2_idleMinds_10 rfl ?_
      refine xt_aload_n _ dX2_idleMinds_11 rfl ?_
      refine xt_geti dX2_idleMinds_12 kfX2_37 (by first | rfl | assumption) rfl ?_
      refine xt_icmp_ge 41 dX2_idleMinds_15 (by decide) (fun q => absurd q (by rw [e3]; exact nI_ge hlt (by omega))) (fun _ => ?_)
      refine xt_aload_n _ dX2_idleMinds_18 rfl ?_
      refine xt_iconst (1) dX2_idleMinds_19 (by decide) ?_
      refine xt_iload_n _ dX2_idleMinds_20 rfl ?_
      refine xt_ishl dX2_idleMinds_21 ?_
      refine xt_cV _ dX2_idleMinds_22 klX2_120 (tX2_offenders sc _ w (by exact ⟨hs0, hs1, hs2, hs3, hs4, hs5⟩) hC hW _ _ (s_strO m (by omega))) (by assumption) rfl rfl (Nat.le_of_ble_eq_true rfl) ?_
      refine xt_iload_n _ dX2_idleMinds_25 rfl ?_
      refine xt_icmp_ne 35 dX2_idleMinds_26 (by decide) (fun t26 => ?_) (fun f26 => ?_)
      · refine xt_inc _ (1) dX2_idleMinds_35 rfl (by decide) (by decide) rfl ?_
        change x_T _ _ _ _ [_, _, _, _] _ _ _ _
        refine xt_goto 10 dX2_idleMinds_38 (by decide) ?_
        have hb1 := s_offs_lt hW (fun j => decide (j = m))
        refine x_T.ls ?_ (ih (m + 1) (by omega))
        rw [s_bits_no (p := (fun m => decide (s_offs F (fun j => decide (j = m)) = s_offs F (fun _ => false)))) (by have := (fun z => t26 ((nI_eq (show s_offs F (fun j => decide (j = m)) < 2 ^ 31 by omega) (show s_offs F (fun _ => false) < 2 ^ 31 by omega)).mpr z)); simpa using this), nI_succ m]
      · refine xt_iload_n _ dX2_idleMinds_29 rfl ?_
        refine xt_iconst (1) dX2_idleMinds_30 (by decide) ?_
        refine xt_iload_n _ dX2_idleMinds_31 rfl ?_
        refine xt_ishl dX2_idleMinds_32 ?_
        refine xt_ior dX2_idleMinds_33 ?_
        refine xt_istore_n dX2_idleMinds_34 (by decide) rfl ?_
        change x_T _ _ _ _ [_, _, _, _] _ _ _ _
        refine xt_inc _ (1) dX2_idleMinds_35 rfl (by decide) (by decide) rfl ?_
        change x_T _ _ _ _ [_, _, _, _] _ _ _ _
        refine xt_goto 10 dX2_idleMinds_38 (by decide) ?_
        have hb1 := s_offs_lt hW (fun j => decide (j = m))
        refine x_T.ls ?_ (ih (m + 1) (by omega))
        rw [← s_bits_or (p := (fun m => decide (s_offs F (fun j => decide (j = m)) = s_offs F (fun _ => false)))) (g := m) (by omega) (by have := (nI_eq (show s_offs F (fun j => decide (j = m)) < 2 ^ 31 by omega) (show s_offs F (fun _ => false) < 2 ^ 31 by omega)).mp f26; simpa using this), nI_succ m]
  refine x_D.of (by decide) (Nat.le_of_ble_eq_true rfl) ?_
  show x_T sc (d + 4) mX2_idleMinds 0 [.ref k, .retAddr 0, .retAddr 0, .retAddr 0] [] μ w _
  refine xt_aload_n _ dX2_idleMinds_0 rfl ?_
  refine xt_iconst (0) dX2_idleMinds_1 (by decide) ?_
  refine xt_cV _ dX2_idleMinds_2 klX2_120 (tX2_offenders sc _ w (by exact ⟨hs0, hs1, hs2, hs3, hs4, hs5⟩) hC hW 0 (fun _ => false) s_str0) (by assumption) rfl rfl (Nat.le_of_ble_eq_true rfl) ?_
  refine xt_istore_n dX2_idleMinds_5 (by decide) rfl ?_
  change x_T _ _ _ _ [_, _, _, _] _ _ _ _
  refine xt_iconst (0) dX2_idleMinds_6 (by decide) ?_
  refine xt_istore_n dX2_idleMinds_7 (by decide) rfl ?_
  change x_T _ _ _ _ [_, _, _, _] _ _ _ _
  refine xt_iconst (0) dX2_idleMinds_8 (by decide) ?_
  refine xt_istore_n dX2_idleMinds_9 (by decide) rfl ?_
  change x_T _ _ _ _ [_, _, _, _] _ _ _ _
  exact L10 (F 3) 0 (by omega)
/-- the broadest MINDS below n and how many offend by it, each one more (none: 0) -/
def s_br (F : Nat → Nat) : Nat → Nat × Nat
  | 0 => (0, 0)
  | m + 1 => if (s_br F m).2 ≤ s_by F m then (m + 1, s_by F m + 1) else s_br F m
theorem s_br_le (hW : f_W F) : ∀ m, (s_br F m).2 ≤ 9 ∧ (s_br F m).1 ≤ m
  | 0 => by simp [s_br]
  | m + 1 => by
    have h1 := s_br_le hW m
    have h2 := s_by_le hW m
    rw [s_br]; split
    · simp; omega
    · omega
set_option maxHeartbeats 600000 in
theorem tX2_broadest (hS : f_S k) (hC : f_C μ k F) (hW : f_W F) : x_D sc (d + 5) mX2_broadest [.ref k] μ w (some (.int (eI (s_br F (F 3)).1))) μ w := by
  obtain ⟨hs0, hs1, hs2, hs3, hs4, hs5⟩ := hS
  have hm6 : F 3 ≤ 6 := hW.1.2.2.2.1
  have e3 : μ k 3 = nI (F 3) := hC.1 3 (by decide)
  have L6 : ∀ (n m : Nat) (v4 : Value), m + n = F 3 → x_T sc (d + 5) mX2_broadest 6 [.ref k, .int (eI (s_br F m).1), .int (eI (s_br F m).2), .int (nI m), v4] [] μ w (x_p (some (.int (eI (s_br F (F 3)).1))) μ w) := by
    intro n
    induction n with
    | zero =>
      intro m v4 hmn
      obtain rfl : m = F 3 := by omega
      refine xt_iload_n _ dX2_broadest_6 rfl ?_
      refine xt_aload_n _ dX2_broadest_7 rfl ?_
      refine xt_geti dX2_broadest_8 kfX2_37 (by first | rfl | assumption) rfl ?_
      refine xt_icmp_ge 38 dX2_broadest_11 (by decide) (fun _ => ?_) (fun q => absurd (by rw [e3]; exact Int32.le_refl _) q)
      refine xt_iload_n _ dX2_broadest_38 rfl ?_
      exact xt_iret .int dX2_broadest_39 rfl (by first | rfl | assumption) ⟨rfl, rfl, rfl⟩
    | succ n ih =>
      intro m v4 hmn
      have hlt : m < F 3 := by omega
      refine xt_iload_n _ dX2_broadest_6 rfl ?_
      refine xt_aload_n _ dX2_broadest_7 rfl ?_
      refine xt_geti dX2_broadest_8 kfX2_37 (by first | rfl | assumption) rfl ?_
      refine xt_icmp_ge 38 dX2_broadest_11 (by decide) (fun q => absurd q (by rw [e3]; exact nI_ge hlt (by omega))) (fun _ => ?_)
      refine xt_aload_n _ dX2_broadest_14 rfl ?_
      refine xt_iload_n _ dX2_broadest_15 rfl ?_
      refine xt_cV _ dX2_broadest_16 klX2_128 (tX2_offendersBy sc d w (by exact ⟨hs0, hs1, hs2, hs3, hs4, hs5⟩) hC hW m hlt) (by assumption) rfl rfl (Nat.le_of_ble_eq_true rfl) ?_
      refine xt_istore dX2_broadest_19 (by decide) rfl ?_
      change x_T _ _ _ _ [_, _, _, _, _] _ _ _ _
      refine xt_iload _ dX2_broadest_21 rfl ?_
      refine xt_iload_n _ dX2_broadest_23 rfl ?_
      refine xt_icmp_le 32 dX2_broadest_24 (by decide) (fun t24 => ?_) (fun f24 => ?_)
      · refine xt_inc _ (1) dX2_broadest_32 rfl (by decide) (by decide) rfl ?_
        change x_T _ _ _ _ [_, _, _, _, _] _ _ _ _
        refine xt_goto 6 dX2_broadest_35 (by decide) ?_
        have h8 := s_by_le hW m
        have hbr := s_br_le hW m
        refine x_T.ls ?_ (ih (m + 1) (.int (nI (s_by F m))) (by omega))
        have hno : ¬ (s_br F m).2 ≤ s_by F m := by have := (eI_lt (by omega) (by omega)).mp t24; omega
        have es : s_br F (m + 1) = s_br F m := by rw [s_br, if_neg hno]
        rw [es, nI_succ m]
      · refine xt_iload _ dX2_broadest_27 rfl ?_
        refine xt_istore_n dX2_broadest_29 (by decide) rfl ?_
        change x_T _ _ _ _ [_, _, _, _, _] _ _ _ _
        refine xt_iload_n _ dX2_broadest_30 rfl ?_
        refine xt_istore_n dX2_broadest_31 (by decide) rfl ?_
        change x_T _ _ _ _ [_, _, _, _, _] _ _ _ _
        refine xt_inc _ (1) dX2_broadest_32 rfl (by decide) (by decide) rfl ?_
        change x_T _ _ _ _ [_, _, _, _, _] _ _ _ _
        refine xt_goto 6 dX2_broadest_35 (by decide) ?_
        have h8 := s_by_le hW m
        have hbr := s_br_le hW m
        refine x_T.ls ?_ (ih (m + 1) (.int (nI (s_by F m))) (by omega))
        have hye : (s_br F m).2 ≤ s_by F m := by have hz : ¬ s_by F m < (s_br F m).2 := (fun z => f24 ((eI_lt (by omega) (by omega)).mpr z)); omega
        have es : s_br F (m + 1) = (m + 1, s_by F m + 1) := by rw [s_br, if_pos hye]
        rw [es, nI_succ m]
        rw [eI_s, eI_s]
  refine x_D.of (by decide) (Nat.le_of_ble_eq_true rfl) ?_
  show x_T sc (d + 5) mX2_broadest 0 [.ref k, .retAddr 0, .retAddr 0, .retAddr 0, .retAddr 0] [] μ w _
  refine xt_iconst (-1) dX2_broadest_0 (by decide) ?_
  refine xt_istore_n dX2_broadest_1 (by decide) rfl ?_
  change x_T _ _ _ _ [_, _, _, _, _] _ _ _ _
  refine xt_iconst (-1) dX2_broadest_2 (by decide) ?_
  refine xt_istore_n dX2_broadest_3 (by decide) rfl ?_
  change x_T _ _ _ _ [_, _, _, _, _] _ _ _ _
  refine xt_iconst (0) dX2_broadest_4 (by decide) ?_
  refine xt_istore_n dX2_broadest_5 (by decide) rfl ?_
  change x_T _ _ _ _ [_, _, _, _, _] _ _ _ _
  exact L6 (F 3) 0 _ (by omega)
end FAIRS
