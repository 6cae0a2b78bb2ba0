/-! LOGS: the reference's half; the steps of fits, odds, small -/
def m_G (μ : x_Me) (f : Nat) (L : Nat → Nat) : Prop := μ 152 47 = nI f ∧ μ 152 50 = -1 ∧ μ 152 49 = nI (s_cnt (s_ft L) 64) ∧ (∀ i, i < s_cnt (s_ft L) 64 → μ 170 i = nI (s_gi (s_ft L) 64 i)) ∧ l_M μ f L
theorem s_lcq (L : Nat → Nat) (h : Nat) : s_cnt (fun j => s_lie L j h && !(fun _ => false) j) (L 1) = s_lc L h := s_cnt_cong (fun j _ => by simp)
theorem s_cnt_but {q : Nat → Bool} {j : Nat} : ∀ {n : Nat}, j < n → s_cnt q n = s_cnt (fun i => q i && !decide (i = j)) n + (if q j then 1 else 0)
  | 0, h => absurd h (by omega)
  | n + 1, h => by
    rw [s_cnt, s_cnt]
    by_cases e : j = n
    · subst e
      rw [s_cnt_cong (q := q) (p := fun i => q i && !decide (i = j)) (fun i hi => by have : ¬ i = j := by omega
                                                                                     simp [this])]
      simp
    · have ih := s_cnt_but (q := q) (j := j) (n := n) (by omega)
      have hne : ¬ n = j := fun z => e z.symm
      rw [ih]
      simp only [hne, decide_false, Bool.not_false, Bool.and_true]
      omega
theorem s_al_cong {q r : Nat → Bool} : ∀ {n : Nat}, (∀ i, i < n → q i = r i) → s_al q n = s_al r n
  | 0, _ => rfl
  | n + 1, h => by rw [s_al, s_al, s_al_cong (fun i hi => h i (by omega)), h n (by omega)]
abbrev s_lb (L : Nat → Nat) (k h : Nat) : Nat := s_cnt (fun j => s_lie L j h && !decide (j = k)) (L 1)
abbrev s_ndl (L : Nat → Nat) (k : Nat) : Bool := s_al (fun h => decide (decide (s_lc L h ≤ L 0) = decide (s_lb L k h ≤ L 0))) 64
theorem s_ndl_eq (L : Nat → Nat) {k : Nat} (hk : k < L 1) : s_ndl L k = s_al (fun h => !(decide (s_lc L h = L 0 + 1) && s_lie L k h)) 64 := by
  refine s_al_cong (fun h _ => ?_)
  have e := s_cnt_but (q := fun j => s_lie L j h) (j := k) hk
  have e2 : s_lc L h = s_lb L k h + (if s_lie L k h then 1 else 0) := e
  cases hl : s_lie L k h
  · rw [hl] at e2
    have e3 : s_lc L h = s_lb L k h := e2
    rw [e3]; simp
  · rw [hl] at e2
    have e3 : s_lc L h = s_lb L k h + 1 := e2
    rw [e3, Bool.and_true]
    by_cases h1 : s_lb L k h + 1 ≤ L 0
    · rw [decide_eq_true h1, decide_eq_true (show s_lb L k h ≤ L 0 by omega), decide_eq_false (show ¬ s_lb L k h + 1 = L 0 + 1 by omega)]; rfl
    · rw [decide_eq_false h1]
      by_cases h2 : s_lb L k h ≤ L 0
      · rw [decide_eq_true h2, decide_eq_true (show s_lb L k h + 1 = L 0 + 1 by omega)]; rfl
      · rw [decide_eq_false h2, decide_eq_false (show ¬ s_lb L k h + 1 = L 0 + 1 by omega)]; rfl
abbrev s_fS : Nat → Nat → Nat := fun a h => if a = 0 ∨ s_pop h + 1 < a then s_pop h + 1 else a
theorem s_fd_z {f : Nat → Nat → Nat} {a : Nat} {p : Nat → Bool} : ∀ n, s_cnt p n = 0 → s_fd f a p n = a
  | 0, _ => rfl
  | n + 1, h => by
    rw [s_cnt] at h
    by_cases hp : p n = true
    · rw [if_pos hp] at h; exact absurd h (by omega)
    · rw [s_fd, if_neg hp]; exact s_fd_z n (by omega)
theorem s_fS_ok (p : Nat → Bool) : ∀ n, n ≤ 64 → (s_cnt p n = 0 → s_fd s_fS 0 p n = 0) ∧ (s_cnt p n ≠ 0 → s_fd s_fS 0 p n = s_fd s_f2 6 p n + 1)
  | 0, _ => ⟨fun _ => rfl, fun h => absurd rfl h⟩
  | n + 1, hn => by
    have ih := s_fS_ok p n (by omega)
    have h6 := s_pop6 n (by omega)
    have hle := s_fd2_le p n
    by_cases h : p n = true
    · have e : s_cnt p (n + 1) = s_cnt p n + 1 := by rw [s_cnt, if_pos h]
      refine ⟨fun z => by omega, fun _ => ?_⟩
      rw [s_fd_y h, s_fd_y h]
      show (if s_fd s_fS 0 p n = 0 ∨ s_pop n + 1 < s_fd s_fS 0 p n then s_pop n + 1 else s_fd s_fS 0 p n) = min (s_fd s_f2 6 p n) (s_pop n) + 1
      by_cases hz : s_cnt p n = 0
      · have h1 := ih.1 hz
        have h2 : s_fd s_f2 6 p n = 6 := s_fd_z n hz
        rw [h1, if_pos (Or.inl rfl), h2]; omega
      · have h1 := ih.2 hz
        rw [h1]
        by_cases hc : s_pop n + 1 < s_fd s_f2 6 p n + 1
        · rw [if_pos (Or.inr hc)]; omega
        · rw [if_neg (by omega)]; omega
    · have e : s_cnt p (n + 1) = s_cnt p n := by rw [s_cnt, if_neg h]; rfl
      have hf : p n = false := by simpa using h
      rw [e, s_fd_n hf, s_fd_n hf]; exact ih
theorem s_fS_eI (p : Nat → Bool) : eI (s_fd s_fS 0 p 64) = if s_cnt p 64 = 0 then -1 else nI (s_fd s_f2 6 p 64) := by
  have h := s_fS_ok p 64 (Nat.le_refl _)
  by_cases hz : s_cnt p 64 = 0
  · rw [if_pos hz, h.1 hz]; rfl
  · rw [if_neg hz, h.2 hz, eI_s]
theorem s_fS_le (p : Nat → Bool) : ∀ n, n ≤ 64 → s_fd s_fS 0 p n ≤ 7
  | 0, _ => by show 0 ≤ 7; decide
  | n + 1, h => by
    have h1 := s_fS_le p n (by omega)
    have h2 := s_pop6 n (by omega)
    rw [s_fd]; split
    · show (if s_fd s_fS 0 p n = 0 ∨ s_pop n + 1 < s_fd s_fS 0 p n then s_pop n + 1 else s_fd s_fS 0 p n) ≤ 7
      split <;> omega
    · exact h1
theorem s_fi_fd2 {f : Nat → Nat → Nat} {a c : Nat} {g : Nat → Nat} : ∀ n, a ≤ c → (∀ b i, b ≤ c → i < n → f b (g i) ≤ c) → s_fi f a g n ≤ c
  | 0, h, _ => h
  | n + 1, h, hf => hf _ n (s_fi_fd2 n h (fun b i hb hi => hf b i hb (by omega))) (Nat.lt_succ_self n)
theorem s_in_r {n a b : Nat} (h1 : a ≤ n) (h2 : n ≤ b) (hn : n < 2 ^ 31) (hb : b < 2 ^ 31) : ¬ s_in (nI n) (nI a) (nI b) = 0 := by
  rw [s_in, if_neg (nI_nlt h1 hn), if_neg (nI_nlt h2 hb)]; decide
theorem s_in_r0 {n a b : Nat} (h : n < a ∨ b < n) (hn : n < 2 ^ 31) (ha : a < 2 ^ 31) (hb : b < 2 ^ 31) : s_in (nI n) (nI a) (nI b) = 0 := by
  unfold s_in
  by_cases h1 : n < a
  · rw [if_pos (nI_lt h1 ha)]
  · rw [if_neg (nI_nlt (by omega) hn), if_pos (nI_lt (by omega) hn)]
theorem s_gr_nI {a b : Nat} (ha : a < 2 ^ 31) (hb : b < 2 ^ 31) : s_gr (nI a) (nI b) = nI (max a b) := by
  unfold s_gr
  by_cases h : a ≤ b
  · rw [if_pos (nI_le h hb), Nat.max_eq_right h]
  · rw [if_neg (nI_ge (by omega) ha), Nat.max_eq_left (by omega)]
section LEDGERM
variable (sc : Nat × (Nat → Int32)) (d : Nat) (μ : x_Me) (w : Int64)
set_option maxHeartbeats 1000000 in
theorem tX12_halts (h K : Nat) : x_K sc d mX12_halts [.int (nI h), .int (nI K)] μ w (x_p (some (.int (if s_ha h K then 1 else 0))) μ w) := by
  refine x_K.of (by decide) (Nat.le_of_ble_eq_true rfl) ?_
  show x_T sc d mX12_halts 0 [.int (nI h), .int (nI K)] [] μ w _
  refine xt_iload_n _ dX12_halts_0 rfl ?_
  refine xt_iload_n _ dX12_halts_1 rfl ?_
  refine xt_iand dX12_halts_2 ?_
  refine xt_if_eq 10 dX12_halts_3 (by decide) (fun t3 => ?_) (fun f3 => ?_)
  · refine xt_iconst (0) dX12_halts_10 (by decide) ?_
    exact xt_iret .boolean dX12_halts_11 rfl (by first | rfl | assumption) ⟨by rw [show s_ha h K = false from decide_eq_false (fun z => z t3)]; rfl, rfl, rfl⟩
  · refine xt_iconst (1) dX12_halts_6 (by decide) ?_
    refine xt_goto 11 dX12_halts_7 (by decide) ?_
    exact xt_iret .boolean dX12_halts_11 rfl (by first | rfl | assumption) ⟨by rw [show s_ha h K = true from decide_eq_true f3]; rfl, rfl, rfl⟩
set_option maxHeartbeats 1000000 in
theorem tX12_liesOf (f : Nat) (L : Nat → Nat) (hf : f < 2) (hW : l_W L) (hl : μ 152 47 = nI f) (hM : l_M μ f L) (h : Nat) (q : Nat → Bool) (hq : ∀ j, j < L 1 → (nI j = μ 152 50 ↔ q j = true)) : x_K sc (d + 1) mX12_liesOf [.ref 152, .int (nI h)] μ w (x_p (some (.int (nI (s_cnt (fun j => s_lie L j h && !q j) (L 1))))) μ w) := by
  have h8 := hW.2.1
  refine x_K.of (by decide) (Nat.le_of_ble_eq_true rfl) ?_
  show x_T sc (d + 1) mX12_liesOf 0 [.ref 152, .int (nI h), .retAddr 0, .retAddr 0, .retAddr 0] [] μ w _
  refine xt_iconst (0) dX12_liesOf_0 (by decide) ?_
  refine xt_istore_n dX12_liesOf_1 (by decide) rfl ?_
  change x_T _ _ _ _ [_, _, _, _, _] _ _ _ _
  refine xt_iconst (0) dX12_liesOf_2 (by decide) ?_
  refine xt_istore_n dX12_liesOf_3 (by decide) rfl ?_
  change x_T _ _ _ _ [_, _, _, _, _] _ _ _ _
  have L4 : ∀ (n4 m : Nat) (v4 : Value), m + n4 = L 1 → x_T sc (d + 1) mX12_liesOf 4 [.ref 152, .int (nI h), .int (nI (s_cnt (fun j => s_lie L j h && !q j) m)), .int (nI m), v4] [] μ w (x_p (some (.int (nI (s_cnt (fun j => s_lie L j h && !q j) (L 1))))) μ w) := by
    intro n4
    induction n4 with
    | zero =>
      intro m v4 hmn
      obtain rfl : L 1 = m := by omega
      refine xt_iload_n _ dX12_liesOf_4 rfl ?_
      refine xt_aload_n _ dX12_liesOf_5 rfl ?_
      refine xt_cV _ dX12_liesOf_6 klX12_434 (tX12_facts sc _ μ _ f L hf hW hl hM) sh152 rfl rfl (Nat.le_of_ble_eq_true rfl) ?_
      refine xt_icmp_ge 74 dX12_liesOf_9 (by decide) (fun _ => ?_) (fun q => absurd (Int32.le_refl _) q)
      refine xt_iload_n _ dX12_liesOf_74 rfl ?_
      exact xt_iret .int dX12_liesOf_75 rfl (by first | rfl | assumption) ⟨rfl, rfl, rfl⟩
    | succ n4 ih4 =>
      intro m v4 hmn
      have hlt : m < L 1 := by omega
      have hb := hW.2.2 m hlt
      refine xt_iload_n _ dX12_liesOf_4 rfl ?_
      refine xt_aload_n _ dX12_liesOf_5 rfl ?_
      refine xt_cV _ dX12_liesOf_6 klX12_434 (tX12_facts sc _ μ _ f L hf hW hl hM) sh152 rfl rfl (Nat.le_of_ble_eq_true rfl) ?_
      refine xt_icmp_ge 74 dX12_liesOf_9 (by decide) (fun q => absurd q (nI_ge hlt (by omega))) (fun _ => ?_)
      refine xt_iload_n _ dX12_liesOf_12 rfl ?_
      refine xt_aload_n _ dX12_liesOf_13 rfl ?_
      refine xt_iload_n _ dX12_liesOf_14 rfl ?_
      refine xt_iconst (1) dX12_liesOf_15 (by decide) ?_
      refine xt_cV _ dX12_liesOf_16 klX12_437 (tX12_factOf sc _ μ _ f L hf hW hl hM m 1 hlt (by decide)) sh152 rfl rfl (Nat.le_of_ble_eq_true rfl) ?_
      rw [show 2 + (2 * m + 1) = 3 + 2 * m by omega]
      refine xt_cS _ dX12_liesOf_19 klX12_440 (tX12_halts sc _ μ _ h _) rfl rfl (Nat.le_of_ble_eq_true rfl) ?_
      refine xt_aload_n _ dX12_liesOf_22 rfl ?_
      refine xt_iload_n _ dX12_liesOf_23 rfl ?_
      refine xt_iconst (0) dX12_liesOf_24 (by decide) ?_
      refine xt_cV _ dX12_liesOf_25 klX12_437 (tX12_factOf sc _ μ _ f L hf hW hl hM m 0 hlt (by decide)) sh152 rfl rfl (Nat.le_of_ble_eq_true rfl) ?_
      rw [show 2 + (2 * m + 0) = 2 + 2 * m by omega]
      refine xt_iconst (1) dX12_liesOf_28 (by decide) ?_
      refine xt_icmp_ne 36 dX12_liesOf_29 (by decide) (fun t29 => ?_) (fun f29 => ?_)
      · have n29 : ¬ (L (2 + 2 * m) = 1) := fun z => t29 ((nI_eq (a := L (2 + 2 * m)) (b := 1) (by omega) (by omega)).mpr z)
        refine xt_iconst (0) dX12_liesOf_36 (by decide) ?_
        refine xt_icmp_ne 44 dX12_liesOf_37 (by decide) (fun t37 => ?_) (fun f37 => ?_)
        · refine xt_iconst (0) dX12_liesOf_44 (by decide) ?_
          refine xt_istore dX12_liesOf_45 (by decide) rfl ?_
          change x_T _ _ _ _ [_, _, _, _, _] _ _ _ _
          refine xt_iload_n _ dX12_liesOf_47 rfl ?_
          refine xt_iload _ dX12_liesOf_48 rfl ?_
          refine xt_if_ne 61 dX12_liesOf_50 (by decide) (fun q => absurd (by decide) q) (fun _ => ?_)
          refine xt_iload_n _ dX12_liesOf_53 rfl ?_
          refine xt_aload_n _ dX12_liesOf_54 rfl ?_
          refine xt_geti dX12_liesOf_55 kfX12_443 (by first | exact sh152 | rfl | assumption) rfl ?_
          refine xt_icmp_ne 65 dX12_liesOf_58 (by decide) (fun t58 => ?_) (fun f58 => ?_)
          · refine xt_iconst (1) dX12_liesOf_65 (by decide) ?_
            refine xt_iadd dX12_liesOf_66 ?_
            refine xt_istore_n dX12_liesOf_67 (by decide) rfl ?_
            change x_T _ _ _ _ [_, _, _, _, _] _ _ _ _
            refine xt_inc _ (1) dX12_liesOf_68 rfl (by decide) (by decide) rfl ?_
            change x_T _ _ _ _ [_, _, _, _, _] _ _ _ _
            refine xt_goto 4 dX12_liesOf_71 (by decide) ?_
            have ha : s_ha h (L (3 + 2 * m)) = true := by cases hz : s_ha h (L (3 + 2 * m)) <;> simp_all
            have hl2 : s_lie L m h = true := decide_eq_true (by rw [ha]; show ¬ 1 = _; omega)
            refine x_T.ls ?_ (ih4 (m + 1) (.int 0) (by omega))
            have hq2 : q m = false := by cases hz : q m; rfl; exact absurd ((hq m hlt).mpr hz) t58
            rw [show s_cnt (fun j => s_lie L j h && !q j) (m + 1) = s_cnt (fun j => s_lie L j h && !q j) m + 1 by rw [s_cnt, hl2, hq2]; rfl, nI_succ m, nI_succ (s_cnt _ m)]
          · refine xt_iconst (0) dX12_liesOf_61 (by decide) ?_
            refine xt_goto 66 dX12_liesOf_62 (by decide) ?_
            refine xt_iadd dX12_liesOf_66 ?_
            refine xt_istore_n dX12_liesOf_67 (by decide) rfl ?_
            change x_T _ _ _ _ [_, _, _, _, _] _ _ _ _
            refine xt_inc _ (1) dX12_liesOf_68 rfl (by decide) (by decide) rfl ?_
            change x_T _ _ _ _ [_, _, _, _, _] _ _ _ _
            refine xt_goto 4 dX12_liesOf_71 (by decide) ?_
            have ha : s_ha h (L (3 + 2 * m)) = true := by cases hz : s_ha h (L (3 + 2 * m)) <;> simp_all
            have hl2 : s_lie L m h = true := decide_eq_true (by rw [ha]; show ¬ 1 = _; omega)
            refine x_T.ls ?_ (ih4 (m + 1) (.int 0) (by omega))
            have hq2 : q m = true := (hq m hlt).mp f58
            rw [show s_cnt (fun j => s_lie L j h && !q j) (m + 1) = s_cnt (fun j => s_lie L j h && !q j) m by rw [s_cnt, hl2, hq2]; rfl, nI_succ m, Int32.add_zero]
        · refine xt_iconst (1) dX12_liesOf_40 (by decide) ?_
          refine xt_goto 45 dX12_liesOf_41 (by decide) ?_
          refine xt_istore dX12_liesOf_45 (by decide) rfl ?_
          change x_T _ _ _ _ [_, _, _, _, _] _ _ _ _
          refine xt_iload_n _ dX12_liesOf_47 rfl ?_
          refine xt_iload _ dX12_liesOf_48 rfl ?_
          refine xt_if_ne 61 dX12_liesOf_50 (by decide) (fun _ => ?_) (fun q => absurd q (by decide))
          refine xt_iconst (0) dX12_liesOf_61 (by decide) ?_
          refine xt_goto 66 dX12_liesOf_62 (by decide) ?_
          refine xt_iadd dX12_liesOf_66 ?_
          refine xt_istore_n dX12_liesOf_67 (by decide) rfl ?_
          change x_T _ _ _ _ [_, _, _, _, _] _ _ _ _
          refine xt_inc _ (1) dX12_liesOf_68 rfl (by decide) (by decide) rfl ?_
          change x_T _ _ _ _ [_, _, _, _, _] _ _ _ _
          refine xt_goto 4 dX12_liesOf_71 (by decide) ?_
          have ha : s_ha h (L (3 + 2 * m)) = false := by cases hz : s_ha h (L (3 + 2 * m)) <;> simp_all
          have hl2 : s_lie L m h = false := decide_eq_false (fun z => z (by rw [ha]; show 0 = _; omega))
          refine x_T.ls ?_ (ih4 (m + 1) (.int 1) (by omega))
          rw [show s_cnt (fun j => s_lie L j h && !q j) (m + 1) = s_cnt (fun j => s_lie L j h && !q j) m by rw [s_cnt, hl2]; rfl, nI_succ m, Int32.add_zero]
      · have n29 : L (2 + 2 * m) = 1 := (nI_eq (a := L (2 + 2 * m)) (b := 1) (by omega) (by omega)).mp f29
        refine xt_iconst (1) dX12_liesOf_32 (by decide) ?_
        refine xt_goto 37 dX12_liesOf_33 (by decide) ?_
        refine xt_icmp_ne 44 dX12_liesOf_37 (by decide) (fun t37 => ?_) (fun f37 => ?_)
        · refine xt_iconst (0) dX12_liesOf_44 (by decide) ?_
          refine xt_istore dX12_liesOf_45 (by decide) rfl ?_
          change x_T _ _ _ _ [_, _, _, _, _] _ _ _ _
          refine xt_iload_n _ dX12_liesOf_47 rfl ?_
          refine xt_iload _ dX12_liesOf_48 rfl ?_
          refine xt_if_ne 61 dX12_liesOf_50 (by decide) (fun q => absurd (by decide) q) (fun _ => ?_)
          refine xt_iload_n _ dX12_liesOf_53 rfl ?_
          refine xt_aload_n _ dX12_liesOf_54 rfl ?_
          refine xt_geti dX12_liesOf_55 kfX12_443 (by first | exact sh152 | rfl | assumption) rfl ?_
          refine xt_icmp_ne 65 dX12_liesOf_58 (by decide) (fun t58 => ?_) (fun f58 => ?_)
          · refine xt_iconst (1) dX12_liesOf_65 (by decide) ?_
            refine xt_iadd dX12_liesOf_66 ?_
            refine xt_istore_n dX12_liesOf_67 (by decide) rfl ?_
            change x_T _ _ _ _ [_, _, _, _, _] _ _ _ _
            refine xt_inc _ (1) dX12_liesOf_68 rfl (by decide) (by decide) rfl ?_
            change x_T _ _ _ _ [_, _, _, _, _] _ _ _ _
            refine xt_goto 4 dX12_liesOf_71 (by decide) ?_
            have ha : s_ha h (L (3 + 2 * m)) = false := by cases hz : s_ha h (L (3 + 2 * m)) <;> simp_all
            have hl2 : s_lie L m h = true := decide_eq_true (by rw [ha]; show ¬ 0 = _; omega)
            refine x_T.ls ?_ (ih4 (m + 1) (.int 0) (by omega))
            have hq2 : q m = false := by cases hz : q m; rfl; exact absurd ((hq m hlt).mpr hz) t58
            rw [show s_cnt (fun j => s_lie L j h && !q j) (m + 1) = s_cnt (fun j => s_lie L j h && !q j) m + 1 by rw [s_cnt, hl2, hq2]; rfl, nI_succ m, nI_succ (s_cnt _ m)]
          · refine xt_iconst (0) dX12_liesOf_61 (by decide) ?_
            refine xt_goto 66 dX12_liesOf_62 (by decide) ?_
            refine xt_iadd dX12_liesOf_66 ?_
            refine xt_istore_n dX12_liesOf_67 (by decide) rfl ?_
            change x_T _ _ _ _ [_, _, _, _, _] _ _ _ _
            refine xt_inc _ (1) dX12_liesOf_68 rfl (by decide) (by decide) rfl ?_
            change x_T _ _ _ _ [_, _, _, _, _] _ _ _ _
            refine xt_goto 4 dX12_liesOf_71 (by decide) ?_
            have ha : s_ha h (L (3 + 2 * m)) = false := by cases hz : s_ha h (L (3 + 2 * m)) <;> simp_all
            have hl2 : s_lie L m h = true := decide_eq_true (by rw [ha]; show ¬ 0 = _; omega)
            refine x_T.ls ?_ (ih4 (m + 1) (.int 0) (by omega))
            have hq2 : q m = true := (hq m hlt).mp f58
            rw [show s_cnt (fun j => s_lie L j h && !q j) (m + 1) = s_cnt (fun j => s_lie L j h && !q j) m by rw [s_cnt, hl2, hq2]; rfl, nI_succ m, Int32.add_zero]
        · refine xt_iconst (1) dX12_liesOf_40 (by decide) ?_
          refine xt_goto 45 dX12_liesOf_41 (by decide) ?_
          refine xt_istore dX12_liesOf_45 (by decide) rfl ?_
          change x_T _ _ _ _ [_, _, _, _, _] _ _ _ _
          refine xt_iload_n _ dX12_liesOf_47 rfl ?_
          refine xt_iload _ dX12_liesOf_48 rfl ?_
          refine xt_if_ne 61 dX12_liesOf_50 (by decide) (fun _ => ?_) (fun q => absurd q (by decide))
          refine xt_iconst (0) dX12_liesOf_61 (by decide) ?_
          refine xt_goto 66 dX12_liesOf_62 (by decide) ?_
          refine xt_iadd dX12_liesOf_66 ?_
          refine xt_istore_n dX12_liesOf_67 (by decide) rfl ?_
          change x_T _ _ _ _ [_, _, _, _, _] _ _ _ _
          refine xt_inc _ (1) dX12_liesOf_68 rfl (by decide) (by decide) rfl ?_
          change x_T _ _ _ _ [_, _, _, _, _] _ _ _ _
          refine xt_goto 4 dX12_liesOf_71 (by decide) ?_
          have ha : s_ha h (L (3 + 2 * m)) = true := by cases hz : s_ha h (L (3 + 2 * m)) <;> simp_all
          have hl2 : s_lie L m h = false := decide_eq_false (fun z => z (by rw [ha]; show 1 = _; omega))
          refine x_T.ls ?_ (ih4 (m + 1) (.int 1) (by omega))
          rw [show s_cnt (fun j => s_lie L j h && !q j) (m + 1) = s_cnt (fun j => s_lie L j h && !q j) m by rw [s_cnt, hl2]; rfl, nI_succ m, Int32.add_zero]
  exact L4 (L 1) 0 _ (by omega)
set_option maxHeartbeats 2000000 in
theorem tX12_findHearts (f : Nat) (L : Nat → Nat) (hf : f < 2) (hW : l_W L) (hl : μ 152 47 = nI f) (hM : l_M μ f L) (h50 : μ 152 50 = -1) : x_K sc (d + 3) mX12_findHearts [.ref 152] μ w (fun r μ' _ => r = none ∧ m_G μ' f L ∧ ∀ a, a ≠ 152 → a ≠ 170 → μ' a = μ a) := by
  have h8 := hW.2.1
  have h08 := hW.1
  refine x_K.of (by decide) (Nat.le_of_ble_eq_true rfl) ?_
  show x_T sc (d + 3) mX12_findHearts 0 [.ref 152, .retAddr 0] [] μ w _
  refine xt_aload_n _ dX12_findHearts_0 rfl ?_
  refine xt_iconst (0) dX12_findHearts_1 (by decide) ?_
  refine xt_puti dX12_findHearts_2 kpX12_446 (by first | exact sh152 | rfl | assumption) rfl (by first | rfl | assumption) (by first | rfl | assumption) ?_
  refine xt_iconst (0) dX12_findHearts_5 (by decide) ?_
  refine xt_istore_n dX12_findHearts_6 (by decide) rfl ?_
  change x_T _ _ _ _ [_, _] _ _ _ _
  have L7 : ∀ (n7 m : Nat) (μ2 : x_Me) (h49 : μ2 152 49 = nI (s_cnt (s_ft L) m)) (hg : ∀ i, i < (s_cnt (s_ft L) m) → μ2 170 i = nI (s_gi (s_ft L) m i)) (h152 : ∀ j, j ≠ 49 → μ2 152 j = μ 152 j) (hfr2 : ∀ a, a ≠ 152 → a ≠ 170 → μ2 a = μ a), m + n7 = 64 → x_T sc (d + 3) mX12_findHearts 7 [.ref 152, .int (nI m)] [] μ2 w (fun r μ' _ => r = none ∧ m_G μ' f L ∧ ∀ a, a ≠ 152 → a ≠ 170 → μ' a = μ a) := by
    intro n7
    induction n7 with
    | zero =>
      intro m μ2 h49 hg h152 hfr2 hmn
      obtain rfl : 64 = m := by omega
      refine xt_iload_n _ dX12_findHearts_7 rfl ?_
      refine xt_bipush (64) dX12_findHearts_8 (by decide) ?_
      refine xt_icmp_ge 51 dX12_findHearts_10 (by decide) (fun _ => ?_) (fun q => absurd (by decide) q)
      exact xt_ret dX12_findHearts_51 rfl ⟨rfl, ⟨(h152 47 (by decide)).trans hl, (h152 50 (by decide)).trans h50, h49, hg, fun i hi => by rw [hfr2 160 (by decide) (by decide)]; exact hM i hi⟩, hfr2⟩
    | succ n7 ih7 =>
      intro m μ2 h49 hg h152 hfr2 hmn
      have hlt : m < 64 := by omega
      have hM2 : l_M μ2 f L := fun i hi => by rw [hfr2 160 (by decide) (by decide)]; exact hM i hi
      have hlc : s_lc L m ≤ L 1 := s_cnt_le _ _
      have hcm := s_cnt_le (s_ft L) m
      refine xt_iload_n _ dX12_findHearts_7 rfl ?_
      refine xt_bipush (64) dX12_findHearts_8 (by decide) ?_
      refine xt_icmp_ge 51 dX12_findHearts_10 (by decide) (fun q => absurd q (nI_ge (b := 64) hlt (by decide))) (fun _ => ?_)
      refine xt_aload_n _ dX12_findHearts_13 rfl ?_
      refine xt_iload_n _ dX12_findHearts_14 rfl ?_
      refine xt_cV _ dX12_findHearts_15 klX12_449 (tX12_liesOf sc _ μ2 _ f L hf hW ((h152 47 (by decide)).trans hl) hM2 m (fun _ => false) (fun j hj => ⟨fun z => absurd z (by rw [h152 50 (by decide), h50]; exact nI_m1 (by omega)), fun z => absurd z (by decide)⟩)) sh152 rfl rfl (Nat.le_of_ble_eq_true rfl) ?_
      rw [s_lcq]
      refine xt_aload_n _ dX12_findHearts_18 rfl ?_
      refine xt_cV _ dX12_findHearts_19 klX12_431 (tX12_lies sc _ μ2 _ f L hf hW ((h152 47 (by decide)).trans hl) hM2) sh152 rfl rfl (Nat.le_of_ble_eq_true rfl) ?_
      refine xt_icmp_gt 45 dX12_findHearts_22 (by decide) (fun t22 => ?_) (fun f22 => ?_)
      · have n22 : L 0 < s_lc L m := (nI_ltI (a := L 0) (b := s_lc L m) (by omega) (by omega)).mp t22
        refine xt_inc _ (1) dX12_findHearts_45 rfl (by decide) (by decide) rfl ?_
        change x_T _ _ _ _ [_, _] _ _ _ _
        refine xt_goto 7 dX12_findHearts_48 (by decide) ?_
        have hb : s_ft L m = false := decide_eq_false (by omega)
        have es : (s_cnt (s_ft L) (m + 1)) = (s_cnt (s_ft L) m) := by rw [s_cnt, hb]; rfl
        refine x_T.ls (by rw [nI_succ m]) (ih7 (m + 1) μ2 (by rw [es]; exact h49) (fun i hi => by rw [es] at hi; rw [s_gi_st _ hi]; exact hg i hi) h152 hfr2 (by omega))
      · have n22 : ¬ (L 0 < s_lc L m) := fun z => f22 ((nI_ltI (a := L 0) (b := s_lc L m) (by omega) (by omega)).mpr z)
        refine xt_aload_n _ dX12_findHearts_25 rfl ?_
        refine xt_getr _ dX12_findHearts_26 kfX12_62 (by first | exact sh152 | rfl | assumption) rfl ?_
        refine xt_aload_n _ dX12_findHearts_29 rfl ?_
        refine xt_geti dX12_findHearts_30 kfX12_446 (by first | exact sh152 | rfl | assumption) rfl ?_
        refine xt_iload_n _ dX12_findHearts_33 rfl ?_
        refine xt_ast dX12_findHearts_34 (by first | exact sh152 | rfl | assumption) (by rw [h49]; exact vp_in_nI (by omega) (by decide)) ?_
        refine xt_aload_n _ dX12_findHearts_35 rfl ?_
        refine xt_dup dX12_findHearts_36 rfl ?_
        refine xt_geti dX12_findHearts_37 kfX12_446 (by first | exact sh152 | rfl | assumption) rfl ?_
        refine xt_iconst (1) dX12_findHearts_40 (by decide) ?_
        refine xt_iadd dX12_findHearts_41 ?_
        refine xt_puti dX12_findHearts_42 kpX12_446 (by first | exact sh152 | rfl | assumption) rfl (by first | rfl | assumption) (by first | rfl | assumption) ?_
        refine xt_inc _ (1) dX12_findHearts_45 rfl (by decide) (by decide) rfl ?_
        change x_T _ _ _ _ [_, _] _ _ _ _
        refine xt_goto 7 dX12_findHearts_48 (by decide) ?_
        have hb : s_ft L m = true := decide_eq_true (by omega)
        have es : (s_cnt (s_ft L) (m + 1)) = (s_cnt (s_ft L) m) + 1 := by rw [s_cnt, if_pos hb]
        refine x_T.ls (by rw [nI_succ m]) (ih7 (m + 1) _ ?_ ?_ ?_ ?_ (by omega))
        · show μ2 152 49 + 1 = _; rw [es, h49, nI_succ (s_cnt (s_ft L) m)]
        · intro i hi
          rw [x_u_ne (by decide), x_u_eq, h49, nI_clamp (by omega)]
          by_cases he : i = (s_cnt (s_ft L) m)
          · subst he; rw [pk_us, s_gi, if_pos ⟨hb, rfl⟩]
          · rw [pk_un he, s_gi_st _ (by omega)]; exact hg i (by omega)
        · intro j hj; rw [x_u_eq, pk_un hj]; exact h152 j hj
        · intro a h1 h2; rw [x_u_ne h1, x_u_ne h2]; exact hfr2 a h1 h2
  refine L7 64 0 _ rfl (fun i hi => absurd hi (by show ¬ i < 0; omega)) (fun j hj => by rw [x_u_eq, pk_un hj]) (fun a h1 h2 => x_u_ne h1) (by omega)
set_option maxHeartbeats 400000 in
theorem tX12_layLog_no (c : Nat) (hc : c ≤ 2) (a : Int32) (hk : ¬ (0 ≤ a ∧ a < nI c)) (e : μ 157 2 = nI c) : x_D sc (d + 3) mX12_layLog [.ref 152, .int a] μ w (some (.int 0)) (x_u μ 152 (upd (μ 152) 47 a)) w := by
  refine x_D.of (by decide) (Nat.le_of_ble_eq_true rfl) ?_
  show x_T sc (d + 3) mX12_layLog 0 [.ref 152, .int a] [] μ w _
  refine xt_aload_n _ dX12_layLog_0 rfl ?_
  refine xt_iload_n _ dX12_layLog_1 rfl ?_
  refine xt_cV _ dX12_layLog_2 klX12_428 (tX12_hasLog_no sc _ μ w c hc a hk e) sh152 rfl rfl (Nat.le_of_ble_eq_true rfl) ?_
  refine xt_if_ne 10 dX12_layLog_5 (by decide) (fun q => absurd (by decide) q) (fun _ => ?_)
  refine xt_iconst (0) dX12_layLog_8 (by decide) ?_
  exact xt_iret .boolean dX12_layLog_9 rfl (by first | rfl | assumption) ⟨rfl, rfl, rfl⟩
set_option maxHeartbeats 1000000 in
theorem tX12_layLog (f c : Nat) (L : Nat → Nat) (hf : f < c) (hc : c ≤ 2) (e : μ 157 2 = nI c) (hW : l_W L) (hM : l_M μ f L) : x_K sc (d + 4) mX12_layLog [.ref 152, .int (nI f)] μ w (fun r μ' _ => r = some (.int 1) ∧ m_G μ' f L ∧ ∀ a, a ≠ 152 → a ≠ 170 → μ' a = μ a) := by
  refine x_K.of (by decide) (Nat.le_of_ble_eq_true rfl) ?_
  show x_T sc (d + 4) mX12_layLog 0 [.ref 152, .int (nI f)] [] μ w _
  refine xt_aload_n _ dX12_layLog_0 rfl ?_
  refine xt_iload_n _ dX12_layLog_1 rfl ?_
  refine xt_cV _ dX12_layLog_2 klX12_428 (tX12_hasLog_yes sc _ μ w f c hf hc e) sh152 rfl rfl (Nat.le_of_ble_eq_true rfl) ?_
  refine xt_if_ne 10 dX12_layLog_5 (by decide) (fun _ => ?_) (fun q => absurd q (by decide))
  refine xt_aload_n _ dX12_layLog_10 rfl ?_
  refine xt_iconst (-1) dX12_layLog_11 (by decide) ?_
  refine xt_puti dX12_layLog_12 kpX12_443 (by first | exact sh152 | rfl | assumption) rfl (by first | rfl | assumption) (by first | rfl | assumption) ?_
  refine xt_aload_n _ dX12_layLog_15 rfl ?_
  refine xt_callV _ dX12_layLog_16 klX12_452 (tX12_findHearts sc _ (x_u (x_u μ 152 (upd (μ 152) 47 (nI f))) 152 (upd ((x_u μ 152 (upd (μ 152) 47 (nI f))) 152) 50 (-1))) _ f L (by omega) hW rfl hM rfl) sh152 rfl rfl (Nat.le_of_ble_eq_true rfl) (fun r2 μ2 w2 q2 => ?_)
  obtain ⟨rfl, hG, hfr⟩ := q2
  change x_T _ _ _ _ _ [] _ _ _
  refine xt_iconst (1) dX12_layLog_19 (by decide) ?_
  exact xt_iret .boolean dX12_layLog_20 rfl (by first | rfl | assumption) ⟨rfl, hG, fun a h1 h2 => by rw [hfr a h1 h2, x_u_ne h1, x_u_ne h1]⟩
set_option maxHeartbeats 1000000 in
theorem tX12_manyHalt (f : Nat) (L : Nat → Nat) (hf : f < 2) (hW : l_W L) (hG : m_G μ f L) (K : Nat) : x_K sc (d + 1) mX12_manyHalt [.ref 152, .int (nI K)] μ w (x_p (some (.int (nI (s_stp (s_ft L) K)))) μ w) := by
  have e49 : μ 152 49 = nI (s_cnt (s_ft L) 64) := hG.2.2.1
  have hc64 := s_cnt_le (s_ft L) 64
  refine x_K.of (by decide) (Nat.le_of_ble_eq_true rfl) ?_
  show x_T sc (d + 1) mX12_manyHalt 0 [.ref 152, .int (nI K), .retAddr 0, .retAddr 0] [] μ w _
  refine xt_iconst (0) dX12_manyHalt_0 (by decide) ?_
  refine xt_istore_n dX12_manyHalt_1 (by decide) rfl ?_
  change x_T _ _ _ _ [_, _, _, _] _ _ _ _
  refine xt_iconst (0) dX12_manyHalt_2 (by decide) ?_
  refine xt_istore_n dX12_manyHalt_3 (by decide) rfl ?_
  change x_T _ _ _ _ [_, _, _, _] _ _ _ _
  have L4 : ∀ (n4 m : Nat) , m + n4 = (s_cnt (s_ft L) 64) → x_T sc (d + 1) mX12_manyHalt 4 [.ref 152, .int (nI K), .int (nI (s_fi (s_f1 K) 0 (s_gi (s_ft L) 64) m)), .int (nI m)] [] μ w (x_p (some (.int (nI (s_stp (s_ft L) K)))) μ w) := by
    intro n4
    induction n4 with
    | zero =>
      intro m  hmn
      obtain rfl : (s_cnt (s_ft L) 64) = m := by omega
      refine xt_iload_n _ dX12_manyHalt_4 rfl ?_
      refine xt_aload_n _ dX12_manyHalt_5 rfl ?_
      refine xt_geti dX12_manyHalt_6 kfX12_446 (by first | exact sh152 | rfl | assumption) rfl ?_
      refine xt_icmp_ge 39 dX12_manyHalt_9 (by decide) (fun _ => ?_) (fun q => absurd (by rw [e49]; exact Int32.le_refl _) q)
      refine xt_iload_n _ dX12_manyHalt_39 rfl ?_
      exact xt_iret .int dX12_manyHalt_40 rfl (by first | rfl | assumption) ⟨by rw [s_fi_fd], rfl, rfl⟩
    | succ n4 ih4 =>
      intro m  hmn
      have hlt : m < (s_cnt (s_ft L) 64) := by omega
      refine xt_iload_n _ dX12_manyHalt_4 rfl ?_
      refine xt_aload_n _ dX12_manyHalt_5 rfl ?_
      refine xt_geti dX12_manyHalt_6 kfX12_446 (by first | exact sh152 | rfl | assumption) rfl ?_
      refine xt_icmp_ge 39 dX12_manyHalt_9 (by decide) (fun q => absurd q (by rw [e49]; exact nI_ge hlt (by omega))) (fun _ => ?_)
      refine xt_iload_n _ dX12_manyHalt_12 rfl ?_
      refine xt_aload_n _ dX12_manyHalt_13 rfl ?_
      refine xt_getr _ dX12_manyHalt_14 kfX12_62 (by first | exact sh152 | rfl | assumption) rfl ?_
      refine xt_iload_n _ dX12_manyHalt_17 rfl ?_
      refine xt_ald dX12_manyHalt_18 (by first | exact sh152 | rfl | assumption) (by exact vp_in_nI (by omega) (by decide)) ?_
      refine xt_iload_n _ dX12_manyHalt_19 rfl ?_
      rw [nI_clamp (by omega), hG.2.2.2.1 m hlt]
      refine xt_cS _ dX12_manyHalt_20 klX12_440 (tX12_halts sc _ μ _ _ K) rfl rfl (Nat.le_of_ble_eq_true rfl) ?_
      refine xt_if_eq 30 dX12_manyHalt_23 (by decide) (fun t23 => ?_) (fun f23 => ?_)
      · refine xt_iconst (0) dX12_manyHalt_30 (by decide) ?_
        refine xt_iadd dX12_manyHalt_31 ?_
        refine xt_istore_n dX12_manyHalt_32 (by decide) rfl ?_
        change x_T _ _ _ _ [_, _, _, _] _ _ _ _
        refine xt_inc _ (1) dX12_manyHalt_33 rfl (by decide) (by decide) rfl ?_
        change x_T _ _ _ _ [_, _, _, _] _ _ _ _
        refine xt_goto 4 dX12_manyHalt_36 (by decide) ?_
        refine x_T.ls ?_ (ih4 (m + 1) (by omega))
        have hb : s_ha ((s_gi (s_ft L) 64) m) K = false := by cases hz : s_ha ((s_gi (s_ft L) 64) m) K <;> simp_all
        rw [show s_fi (s_f1 K) 0 (s_gi (s_ft L) 64) (m + 1) = s_fi (s_f1 K) 0 (s_gi (s_ft L) 64) m + 0 by show _ + (if s_ha ((s_gi (s_ft L) 64) m) K then 1 else 0) = _; rw [hb]; rfl, nI_succ m, Int32.add_zero, Nat.add_zero]
      · refine xt_iconst (1) dX12_manyHalt_26 (by decide) ?_
        refine xt_goto 31 dX12_manyHalt_27 (by decide) ?_
        refine xt_iadd dX12_manyHalt_31 ?_
        refine xt_istore_n dX12_manyHalt_32 (by decide) rfl ?_
        change x_T _ _ _ _ [_, _, _, _] _ _ _ _
        refine xt_inc _ (1) dX12_manyHalt_33 rfl (by decide) (by decide) rfl ?_
        change x_T _ _ _ _ [_, _, _, _] _ _ _ _
        refine xt_goto 4 dX12_manyHalt_36 (by decide) ?_
        refine x_T.ls ?_ (ih4 (m + 1) (by omega))
        have hb : s_ha ((s_gi (s_ft L) 64) m) K = true := by cases hz : s_ha ((s_gi (s_ft L) 64) m) K <;> simp_all
        rw [show s_fi (s_f1 K) 0 (s_gi (s_ft L) 64) (m + 1) = s_fi (s_f1 K) 0 (s_gi (s_ft L) 64) m + 1 by show _ + (if s_ha ((s_gi (s_ft L) 64) m) K then 1 else 0) = _; rw [hb]; rfl, nI_succ m, nI_succ (s_fi (s_f1 K) 0 (s_gi (s_ft L) 64) m)]
  exact L4 ((s_cnt (s_ft L) 64)) 0  (by omega)
set_option maxHeartbeats 2000000 in
theorem tX12_askWhat (f : Nat) (L : Nat → Nat) (hf : f < 2) (hW : l_W L) (hG : m_G μ f L) (h0 : (s_cnt (s_ft L) 64) ≠ 0) : x_K sc (d + 2) mX12_askWhat [.ref 152] μ w (x_p (some (.int (if (s_am (fun i => max (s_stp (s_ft L) (i + 1)) (s_cnt (s_ft L) 64 - s_stp (s_ft L) (i + 1))) (fun _ => true) 1000000 63).1 = 0 then -1 else nI (s_am (fun i => max (s_stp (s_ft L) (i + 1)) (s_cnt (s_ft L) 64 - s_stp (s_ft L) (i + 1))) (fun _ => true) 1000000 63).1))) μ w) := by
  have e49 : μ 152 49 = nI (s_cnt (s_ft L) 64) := hG.2.2.1
  have hc64 := s_cnt_le (s_ft L) 64
  refine x_K.of (by decide) (Nat.le_of_ble_eq_true rfl) ?_
  show x_T sc (d + 2) mX12_askWhat 0 [.ref 152, .retAddr 0, .retAddr 0, .retAddr 0, .retAddr 0] [] μ w _
  refine xt_iconst (-1) dX12_askWhat_0 (by decide) ?_
  refine xt_istore_n dX12_askWhat_1 (by decide) rfl ?_
  change x_T _ _ _ _ [_, _, _, _, _] _ _ _ _
  refine xt_ldcw _ dX12_askWhat_2 kkX12_353 ?_
  refine xt_istore_n dX12_askWhat_5 (by decide) rfl ?_
  change x_T _ _ _ _ [_, _, _, _, _] _ _ _ _
  refine xt_iconst (1) dX12_askWhat_6 (by decide) ?_
  refine xt_istore_n dX12_askWhat_7 (by decide) rfl ?_
  change x_T _ _ _ _ [_, _, _, _, _] _ _ _ _
  have L8 : ∀ (n8 m : Nat) (v4 : Value), m + n8 = 63 → x_T sc (d + 2) mX12_askWhat 8 [.ref 152, .int (if (s_am (fun i => max (s_stp (s_ft L) (i + 1)) (s_cnt (s_ft L) 64 - s_stp (s_ft L) (i + 1))) (fun _ => true) 1000000 m).1 = 0 then -1 else nI (s_am (fun i => max (s_stp (s_ft L) (i + 1)) (s_cnt (s_ft L) 64 - s_stp (s_ft L) (i + 1))) (fun _ => true) 1000000 m).1), .int (nI (s_am (fun i => max (s_stp (s_ft L) (i + 1)) (s_cnt (s_ft L) 64 - s_stp (s_ft L) (i + 1))) (fun _ => true) 1000000 m).2), .int (nI (m + 1)), v4] [] μ w (x_p (some (.int (if (s_am (fun i => max (s_stp (s_ft L) (i + 1)) (s_cnt (s_ft L) 64 - s_stp (s_ft L) (i + 1))) (fun _ => true) 1000000 63).1 = 0 then -1 else nI (s_am (fun i => max (s_stp (s_ft L) (i + 1)) (s_cnt (s_ft L) 64 - s_stp (s_ft L) (i + 1))) (fun _ => true) 1000000 63).1))) μ w) := by
    intro n8
    induction n8 with
    | zero =>
      intro m v4 hmn
      obtain rfl : 63 = m := by omega
      refine xt_iload_n _ dX12_askWhat_8 rfl ?_
      refine xt_bipush (64) dX12_askWhat_9 (by decide) ?_
      refine xt_icmp_ge 66 dX12_askWhat_11 (by decide) (fun _ => ?_) (fun q => absurd (by decide) q)
      refine xt_iload_n _ dX12_askWhat_66 rfl ?_
      exact xt_iret .int dX12_askWhat_67 rfl (by first | rfl | assumption) ⟨rfl, rfl, rfl⟩
    | succ n8 ih8 =>
      intro m v4 hmn
      have hlt : m < 63 := by omega
      have hst : s_stp (s_ft L) (m + 1) ≤ (s_cnt (s_ft L) 64) := s_fd1_le (s_ft L) (m + 1) 64
      have hal := s_am_le (v := (fun i => max (s_stp (s_ft L) (i + 1)) (s_cnt (s_ft L) 64 - s_stp (s_ft L) (i + 1)))) (ok := fun _ => true) (lim := 1000000) m
      refine xt_iload_n _ dX12_askWhat_8 rfl ?_
      refine xt_bipush (64) dX12_askWhat_9 (by decide) ?_
      refine xt_icmp_ge 66 dX12_askWhat_11 (by decide) (fun q => absurd q (nI_ge (b := 64) (by omega) (by decide))) (fun _ => ?_)
      refine xt_aload_n _ dX12_askWhat_14 rfl ?_
      refine xt_geti dX12_askWhat_15 kfX12_446 (by first | exact sh152 | rfl | assumption) rfl ?_
      refine xt_if_le 66 dX12_askWhat_18 (by decide) (fun q => absurd q (by rw [e49]; exact nI_nle (by omega) (by omega))) (fun _ => ?_)
      refine xt_aload_n _ dX12_askWhat_21 rfl ?_
      refine xt_iload_n _ dX12_askWhat_22 rfl ?_
      refine xt_cV _ dX12_askWhat_23 klX12_455 (tX12_manyHalt sc _ μ _ f L hf hW hG (m + 1)) sh152 rfl rfl (Nat.le_of_ble_eq_true rfl) ?_
      refine xt_aload_n _ dX12_askWhat_26 rfl ?_
      refine xt_geti dX12_askWhat_27 kfX12_446 (by first | exact sh152 | rfl | assumption) rfl ?_
      refine xt_aload_n _ dX12_askWhat_30 rfl ?_
      refine xt_iload_n _ dX12_askWhat_31 rfl ?_
      refine xt_cV _ dX12_askWhat_32 klX12_455 (tX12_manyHalt sc _ μ _ f L hf hW hG (m + 1)) sh152 rfl rfl (Nat.le_of_ble_eq_true rfl) ?_
      refine xt_isub dX12_askWhat_35 ?_
      rw [e49, pk_sub hst]
      refine xt_cS _ dX12_askWhat_36 klX12_153 (tX12_greater sc _ μ _ _ _) rfl rfl (Nat.le_of_ble_eq_true rfl) ?_
      rw [show s_gr (nI (s_stp (s_ft L) (m + 1))) (nI ((s_cnt (s_ft L) 64) - s_stp (s_ft L) (m + 1))) = nI (max (s_stp (s_ft L) (m + 1)) ((s_cnt (s_ft L) 64) - s_stp (s_ft L) (m + 1))) from s_gr_nI (by omega) (by omega)]
      refine xt_istore dX12_askWhat_39 (by decide) rfl ?_
      change x_T _ _ _ _ [_, _, _, _, _] _ _ _ _
      refine xt_iload _ dX12_askWhat_41 rfl ?_
      refine xt_iload_n _ dX12_askWhat_43 rfl ?_
      refine xt_icmp_ge 51 dX12_askWhat_44 (by decide) (fun t44 => ?_) (fun f44 => ?_)
      · refine xt_iload_n _ dX12_askWhat_51 rfl ?_
        refine xt_istore_n dX12_askWhat_52 (by decide) rfl ?_
        change x_T _ _ _ _ [_, _, _, _, _] _ _ _ _
        refine xt_iload_n _ dX12_askWhat_53 rfl ?_
        refine xt_iload _ dX12_askWhat_54 rfl ?_
        refine xt_cS _ dX12_askWhat_56 klX12_209 (tX12_lesser sc _ μ _ _ _) rfl rfl (Nat.le_of_ble_eq_true rfl) ?_
        refine xt_istore_n dX12_askWhat_59 (by decide) rfl ?_
        change x_T _ _ _ _ [_, _, _, _, _] _ _ _ _
        refine xt_inc _ (1) dX12_askWhat_60 rfl (by decide) (by decide) rfl ?_
        change x_T _ _ _ _ [_, _, _, _, _] _ _ _ _
        refine xt_goto 8 dX12_askWhat_63 (by decide) ?_
        rw [nI_leI (by omega) (by omega)] at t44
        refine x_T.ls ?_ (ih8 (m + 1) (.int (nI (max (s_stp (s_ft L) (m + 1)) ((s_cnt (s_ft L) 64) - s_stp (s_ft L) (m + 1))))) (by omega))
        rw [s_le_nI (by omega) (by omega)]
        have es : s_am (fun i => max (s_stp (s_ft L) (i + 1)) (s_cnt (s_ft L) 64 - s_stp (s_ft L) (i + 1))) (fun _ => true) 1000000 (m + 1) = s_am (fun i => max (s_stp (s_ft L) (i + 1)) (s_cnt (s_ft L) 64 - s_stp (s_ft L) (i + 1))) (fun _ => true) 1000000 m := s_am_n2 (v := (fun i => max (s_stp (s_ft L) (i + 1)) (s_cnt (s_ft L) 64 - s_stp (s_ft L) (i + 1)))) (ok := (fun _ => true)) (by show (s_am (fun i => max (s_stp (s_ft L) (i + 1)) (s_cnt (s_ft L) 64 - s_stp (s_ft L) (i + 1))) (fun _ => true) 1000000 m).2 ≤ max (s_stp (s_ft L) (m + 1)) ((s_cnt (s_ft L) 64) - s_stp (s_ft L) (m + 1)); omega)
        rw [es, nI_succ (m + 1), Nat.min_eq_left (by omega)]
      · refine xt_iload_n _ dX12_askWhat_47 rfl ?_
        refine xt_goto 52 dX12_askWhat_48 (by decide) ?_
        refine xt_istore_n dX12_askWhat_52 (by decide) rfl ?_
        change x_T _ _ _ _ [_, _, _, _, _] _ _ _ _
        refine xt_iload_n _ dX12_askWhat_53 rfl ?_
        refine xt_iload _ dX12_askWhat_54 rfl ?_
        refine xt_cS _ dX12_askWhat_56 klX12_209 (tX12_lesser sc _ μ _ _ _) rfl rfl (Nat.le_of_ble_eq_true rfl) ?_
        refine xt_istore_n dX12_askWhat_59 (by decide) rfl ?_
        change x_T _ _ _ _ [_, _, _, _, _] _ _ _ _
        refine xt_inc _ (1) dX12_askWhat_60 rfl (by decide) (by decide) rfl ?_
        change x_T _ _ _ _ [_, _, _, _, _] _ _ _ _
        refine xt_goto 8 dX12_askWhat_63 (by decide) ?_
        rw [nI_leI (by omega) (by omega)] at f44
        refine x_T.ls ?_ (ih8 (m + 1) (.int (nI (max (s_stp (s_ft L) (m + 1)) ((s_cnt (s_ft L) 64) - s_stp (s_ft L) (m + 1))))) (by omega))
        rw [s_le_nI (by omega) (by omega)]
        have es : s_am (fun i => max (s_stp (s_ft L) (i + 1)) (s_cnt (s_ft L) 64 - s_stp (s_ft L) (i + 1))) (fun _ => true) 1000000 (m + 1) = (m + 1, max (s_stp (s_ft L) (m + 1)) ((s_cnt (s_ft L) 64) - s_stp (s_ft L) (m + 1))) := s_am_y (v := (fun i => max (s_stp (s_ft L) (i + 1)) (s_cnt (s_ft L) 64 - s_stp (s_ft L) (i + 1)))) (ok := (fun _ => true)) (by rfl) (by show max (s_stp (s_ft L) (m + 1)) ((s_cnt (s_ft L) 64) - s_stp (s_ft L) (m + 1)) < (s_am (fun i => max (s_stp (s_ft L) (i + 1)) (s_cnt (s_ft L) 64 - s_stp (s_ft L) (i + 1))) (fun _ => true) 1000000 m).2; omega)
        rw [es, nI_succ (m + 1), if_neg (by simp), Nat.min_eq_right (by omega)]
  exact L8 63 0 _ (by omega)
set_option maxHeartbeats 1000000 in
theorem tX12_askWhat_0 (f : Nat) (L : Nat → Nat) (hf : f < 2) (hW : l_W L) (hG : m_G μ f L) (h0 : (s_cnt (s_ft L) 64) = 0) : x_K sc (d + 2) mX12_askWhat [.ref 152] μ w (x_p (some (.int (-1))) μ w) := by
  have e49 : μ 152 49 = nI (s_cnt (s_ft L) 64) := hG.2.2.1
  have hc64 := s_cnt_le (s_ft L) 64
  refine x_K.of (by decide) (Nat.le_of_ble_eq_true rfl) ?_
  show x_T sc (d + 2) mX12_askWhat 0 [.ref 152, .retAddr 0, .retAddr 0, .retAddr 0, .retAddr 0] [] μ w _
  refine xt_iconst (-1) dX12_askWhat_0 (by decide) ?_
  refine xt_istore_n dX12_askWhat_1 (by decide) rfl ?_
  change x_T _ _ _ _ [_, _, _, _, _] _ _ _ _
  refine xt_ldcw _ dX12_askWhat_2 kkX12_353 ?_
  refine xt_istore_n dX12_askWhat_5 (by decide) rfl ?_
  change x_T _ _ _ _ [_, _, _, _, _] _ _ _ _
  refine xt_iconst (1) dX12_askWhat_6 (by decide) ?_
  refine xt_istore_n dX12_askWhat_7 (by decide) rfl ?_
  change x_T _ _ _ _ [_, _, _, _, _] _ _ _ _
  refine xt_iload_n _ dX12_askWhat_8 rfl ?_
  refine xt_bipush (64) dX12_askWhat_9 (by decide) ?_
  refine xt_icmp_ge 66 dX12_askWhat_11 (by decide) (fun q => absurd q (nI_ge (a := 1) (b := 64) (by decide) (by decide))) (fun _ => ?_)
  refine xt_aload_n _ dX12_askWhat_14 rfl ?_
  refine xt_geti dX12_askWhat_15 kfX12_446 (by first | exact sh152 | rfl | assumption) rfl ?_
  refine xt_if_le 66 dX12_askWhat_18 (by decide) (fun _ => ?_) (fun q => absurd (by rw [e49, h0]; exact Int32.le_refl _) q)
  refine xt_iload_n _ dX12_askWhat_66 rfl ?_
  exact xt_iret .int dX12_askWhat_67 rfl (by first | rfl | assumption) ⟨rfl, rfl, rfl⟩
set_option maxHeartbeats 1000000 in
theorem tX12_sure (f : Nat) (L : Nat → Nat) (hf : f < 2) (hW : l_W L) (hG : m_G μ f L) (j : Nat) (hj : j < 6) : x_K sc (d + 2) mX12_sure [.ref 152, .int (nI j)] μ w (x_p (some (.int (if (s_cnt (s_ft L) 64) = 0 then -1 else if s_stp (s_ft L) (2 ^ j) = (s_cnt (s_ft L) 64) then 1 else if s_stp (s_ft L) (2 ^ j) = 0 then 0 else -1))) μ w) := by
  have e49 : μ 152 49 = nI (s_cnt (s_ft L) 64) := hG.2.2.1
  have hc64 := s_cnt_le (s_ft L) 64
  have hst : s_stp (s_ft L) (2 ^ j) ≤ (s_cnt (s_ft L) 64) := s_fd1_le (s_ft L) (2 ^ j) 64
  refine x_K.of (by decide) (Nat.le_of_ble_eq_true rfl) ?_
  show x_T sc (d + 2) mX12_sure 0 [.ref 152, .int (nI j), .retAddr 0] [] μ w _
  refine xt_aload_n _ dX12_sure_0 rfl ?_
  refine xt_iconst (1) dX12_sure_1 (by decide) ?_
  refine xt_iload_n _ dX12_sure_2 rfl ?_
  refine xt_ishl dX12_sure_3 ?_
  rw [x_1sh (by omega)]
  refine xt_cV _ dX12_sure_4 klX12_455 (tX12_manyHalt sc _ μ _ f L hf hW hG (2 ^ j)) sh152 rfl rfl (Nat.le_of_ble_eq_true rfl) ?_
  refine xt_istore_n dX12_sure_7 (by decide) rfl ?_
  change x_T _ _ _ _ [_, _, _] _ _ _ _
  refine xt_aload_n _ dX12_sure_8 rfl ?_
  refine xt_geti dX12_sure_9 kfX12_446 (by first | exact sh152 | rfl | assumption) rfl ?_
  rw [e49]
  refine xt_if_ne 19 dX12_sure_12 (by decide) (fun t12 => ?_) (fun f12 => ?_)
  · have n12 : ¬ ((s_cnt (s_ft L) 64) = 0) := fun z => t12 ((nI_eq (a := (s_cnt (s_ft L) 64)) (b := 0) (by omega) (by omega)).mpr z)
    refine xt_iload_n _ dX12_sure_19 rfl ?_
    refine xt_aload_n _ dX12_sure_20 rfl ?_
    refine xt_geti dX12_sure_21 kfX12_446 (by first | exact sh152 | rfl | assumption) rfl ?_
    rw [e49]
    refine xt_icmp_ne 31 dX12_sure_24 (by decide) (fun t24 => ?_) (fun f24 => ?_)
    · have n24 : ¬ (s_stp (s_ft L) (2 ^ j) = (s_cnt (s_ft L) 64)) := fun z => t24 ((nI_eq (a := s_stp (s_ft L) (2 ^ j)) (b := (s_cnt (s_ft L) 64)) (by omega) (by omega)).mpr z)
      refine xt_iload_n _ dX12_sure_31 rfl ?_
      refine xt_if_ne 39 dX12_sure_32 (by decide) (fun t32 => ?_) (fun f32 => ?_)
      · have n32 : ¬ (s_stp (s_ft L) (2 ^ j) = 0) := fun z => t32 ((nI_eq (a := s_stp (s_ft L) (2 ^ j)) (b := 0) (by omega) (by omega)).mpr z)
        refine xt_iconst (-1) dX12_sure_39 (by decide) ?_
        exact xt_iret .int dX12_sure_40 rfl (by first | rfl | assumption) ⟨by rw [if_neg n12, if_neg n24, if_neg n32], rfl, rfl⟩
      · have n32 : s_stp (s_ft L) (2 ^ j) = 0 := (nI_eq (a := s_stp (s_ft L) (2 ^ j)) (b := 0) (by omega) (by omega)).mp f32
        refine xt_iconst (0) dX12_sure_35 (by decide) ?_
        refine xt_goto 40 dX12_sure_36 (by decide) ?_
        exact xt_iret .int dX12_sure_40 rfl (by first | rfl | assumption) ⟨by rw [if_neg n12, if_neg n24, if_pos n32], rfl, rfl⟩
    · have n24 : s_stp (s_ft L) (2 ^ j) = (s_cnt (s_ft L) 64) := (nI_eq (a := s_stp (s_ft L) (2 ^ j)) (b := (s_cnt (s_ft L) 64)) (by omega) (by omega)).mp f24
      refine xt_iconst (1) dX12_sure_27 (by decide) ?_
      refine xt_goto 40 dX12_sure_28 (by decide) ?_
      exact xt_iret .int dX12_sure_40 rfl (by first | rfl | assumption) ⟨by rw [if_neg n12, if_pos n24], rfl, rfl⟩
  · have n12 : (s_cnt (s_ft L) 64) = 0 := (nI_eq (a := (s_cnt (s_ft L) 64)) (b := 0) (by omega) (by omega)).mp f12
    refine xt_iconst (-1) dX12_sure_15 (by decide) ?_
    refine xt_goto 40 dX12_sure_16 (by decide) ?_
    exact xt_iret .int dX12_sure_40 rfl (by first | rfl | assumption) ⟨by rw [if_pos n12], rfl, rfl⟩
set_option maxHeartbeats 1000000 in
theorem tX12_sizeOf0 (f : Nat) (L : Nat → Nat) (hf : f < 2) (hW : l_W L) (hG : m_G μ f L) : x_K sc (d + 2) mX12_sizeOf [.ref 152, .int 0] μ w (x_p (some (.int (eI (s_fd s_fS 0 (s_ft L) 64)))) μ w) := by
  have e49 : μ 152 49 = nI (s_cnt (s_ft L) 64) := hG.2.2.1
  have hc64 := s_cnt_le (s_ft L) 64
  refine x_K.of (by decide) (Nat.le_of_ble_eq_true rfl) ?_
  show x_T sc (d + 2) mX12_sizeOf 0 [.ref 152, .int 0, .retAddr 0, .retAddr 0, .retAddr 0] [] μ w _
  refine xt_iconst (-1) dX12_sizeOf_0 (by decide) ?_
  refine xt_istore_n dX12_sizeOf_1 (by decide) rfl ?_
  change x_T _ _ _ _ [_, _, _, _, _] _ _ _ _
  refine xt_iconst (0) dX12_sizeOf_2 (by decide) ?_
  refine xt_istore_n dX12_sizeOf_3 (by decide) rfl ?_
  change x_T _ _ _ _ [_, _, _, _, _] _ _ _ _
  have L4 : ∀ (n4 m : Nat) (v4 : Value), m + n4 = (s_cnt (s_ft L) 64) → x_T sc (d + 2) mX12_sizeOf 4 [.ref 152, .int 0, .int (eI (s_fi s_fS 0 (s_gi (s_ft L) 64) m)), .int (nI m), v4] [] μ w (x_p (some (.int (eI (s_fd s_fS 0 (s_ft L) 64)))) μ w) := by
    intro n4
    induction n4 with
    | zero =>
      intro m v4 hmn
      obtain rfl : (s_cnt (s_ft L) 64) = m := by omega
      refine xt_iload_n _ dX12_sizeOf_4 rfl ?_
      refine xt_aload_n _ dX12_sizeOf_5 rfl ?_
      refine xt_geti dX12_sizeOf_6 kfX12_446 (by first | exact sh152 | rfl | assumption) rfl ?_
      refine xt_icmp_ge 60 dX12_sizeOf_9 (by decide) (fun _ => ?_) (fun q => absurd (by rw [e49]; exact Int32.le_refl _) q)
      refine xt_iload_n _ dX12_sizeOf_60 rfl ?_
      exact xt_iret .int dX12_sizeOf_61 rfl (by first | rfl | assumption) ⟨by rw [s_fi_fd], rfl, rfl⟩
    | succ n4 ih4 =>
      intro m v4 hmn
      have hlt : m < (s_cnt (s_ft L) 64) := by omega
      have hle : s_fi s_fS 0 (s_gi (s_ft L) 64) m ≤ 7 := s_fi_fd2 m (by decide) (fun b i hb hi => by have := s_pop6 ((s_gi (s_ft L) 64) i) (s_gi_lt _ 64 i (by decide)); show (if b = 0 ∨ s_pop ((s_gi (s_ft L) 64) i) + 1 < b then s_pop ((s_gi (s_ft L) 64) i) + 1 else b) ≤ 7; split <;> omega)
      have hgl := s_gi_lt (s_ft L) 64 m (by decide)
      have hp6 := s_pop6 ((s_gi (s_ft L) 64) m) hgl
      refine xt_iload_n _ dX12_sizeOf_4 rfl ?_
      refine xt_aload_n _ dX12_sizeOf_5 rfl ?_
      refine xt_geti dX12_sizeOf_6 kfX12_446 (by first | exact sh152 | rfl | assumption) rfl ?_
      refine xt_icmp_ge 60 dX12_sizeOf_9 (by decide) (fun q => absurd q (by rw [e49]; exact nI_ge hlt (by omega))) (fun _ => ?_)
      refine xt_aload_n _ dX12_sizeOf_12 rfl ?_
      refine xt_getr _ dX12_sizeOf_13 kfX12_62 (by first | exact sh152 | rfl | assumption) rfl ?_
      refine xt_iload_n _ dX12_sizeOf_16 rfl ?_
      refine xt_ald dX12_sizeOf_17 (by first | exact sh152 | rfl | assumption) (by exact vp_in_nI (by omega) (by decide)) ?_
      rw [nI_clamp (by omega), hG.2.2.2.1 m hlt]
      refine xt_cS _ dX12_sizeOf_18 klX12_412 (tX12_ones sc _ μ _ ((s_gi (s_ft L) 64) m) (by omega)) rfl rfl (Nat.le_of_ble_eq_true rfl) ?_
      change x_T _ _ _ _ _ (.int (nI (s_pop ((s_gi (s_ft L) 64) m))) :: _) _ _ _
      refine xt_istore dX12_sizeOf_21 (by decide) rfl ?_
      change x_T _ _ _ _ [_, _, _, _, _] _ _ _ _
      refine xt_iload_n _ dX12_sizeOf_23 rfl ?_
      refine xt_iconst (-1) dX12_sizeOf_24 (by decide) ?_
      refine xt_icmp_eq 47 dX12_sizeOf_25 (by decide) (fun t25 => ?_) (fun f25 => ?_)
      · refine xt_iload _ dX12_sizeOf_47 rfl ?_
        refine xt_goto 53 dX12_sizeOf_49 (by decide) ?_
        refine xt_istore_n dX12_sizeOf_53 (by decide) rfl ?_
        change x_T _ _ _ _ [_, _, _, _, _] _ _ _ _
        refine xt_inc _ (1) dX12_sizeOf_54 rfl (by decide) (by decide) rfl ?_
        change x_T _ _ _ _ [_, _, _, _, _] _ _ _ _
        refine xt_goto 4 dX12_sizeOf_57 (by decide) ?_
        rw [eI_m1 (by omega)] at t25
        refine x_T.ls ?_ (ih4 (m + 1) (.int (nI (s_pop ((s_gi (s_ft L) 64) m)))) (by omega))
        rw [show s_fi s_fS 0 (s_gi (s_ft L) 64) (m + 1) = s_pop ((s_gi (s_ft L) 64) m) + 1 by show (if s_fi s_fS 0 (s_gi (s_ft L) 64) m = 0 ∨ s_pop ((s_gi (s_ft L) 64) m) + 1 < s_fi s_fS 0 (s_gi (s_ft L) 64) m then s_pop ((s_gi (s_ft L) 64) m) + 1 else s_fi s_fS 0 (s_gi (s_ft L) 64) m) = _; rw [if_pos (Or.inl t25)], eI_s, nI_succ m]
      · refine xt_iload_n _ dX12_sizeOf_28 rfl ?_
        refine xt_if_eq 41 dX12_sizeOf_29 (by decide) (fun _ => ?_) (fun q => absurd (by decide) q)
        refine xt_iload _ dX12_sizeOf_41 rfl ?_
        refine xt_iload_n _ dX12_sizeOf_43 rfl ?_
        refine xt_icmp_ge 52 dX12_sizeOf_44 (by decide) (fun t44 => ?_) (fun f44 => ?_)
        · refine xt_iload_n _ dX12_sizeOf_52 rfl ?_
          refine xt_istore_n dX12_sizeOf_53 (by decide) rfl ?_
          change x_T _ _ _ _ [_, _, _, _, _] _ _ _ _
          refine xt_inc _ (1) dX12_sizeOf_54 rfl (by decide) (by decide) rfl ?_
          change x_T _ _ _ _ [_, _, _, _, _] _ _ _ _
          refine xt_goto 4 dX12_sizeOf_57 (by decide) ?_
          have hne : ¬ s_fi s_fS 0 (s_gi (s_ft L) 64) m = 0 := fun z => f25 ((eI_m1 (by omega)).mpr z)
          refine x_T.ls ?_ (ih4 (m + 1) (.int (nI (s_pop ((s_gi (s_ft L) 64) m)))) (by omega))
          rw [eI_pr hne, nI_leI (by omega) (by omega)] at t44
          rw [show s_fi s_fS 0 (s_gi (s_ft L) 64) (m + 1) = s_fi s_fS 0 (s_gi (s_ft L) 64) m by show (if s_fi s_fS 0 (s_gi (s_ft L) 64) m = 0 ∨ s_pop ((s_gi (s_ft L) 64) m) + 1 < s_fi s_fS 0 (s_gi (s_ft L) 64) m then s_pop ((s_gi (s_ft L) 64) m) + 1 else s_fi s_fS 0 (s_gi (s_ft L) 64) m) = _; rw [if_neg (fun z => by omega)], nI_succ m]
        · refine xt_iload _ dX12_sizeOf_47 rfl ?_
          refine xt_goto 53 dX12_sizeOf_49 (by decide) ?_
          refine xt_istore_n dX12_sizeOf_53 (by decide) rfl ?_
          change x_T _ _ _ _ [_, _, _, _, _] _ _ _ _
          refine xt_inc _ (1) dX12_sizeOf_54 rfl (by decide) (by decide) rfl ?_
          change x_T _ _ _ _ [_, _, _, _, _] _ _ _ _
          refine xt_goto 4 dX12_sizeOf_57 (by decide) ?_
          have hne : ¬ s_fi s_fS 0 (s_gi (s_ft L) 64) m = 0 := fun z => f25 ((eI_m1 (by omega)).mpr z)
          refine x_T.ls ?_ (ih4 (m + 1) (.int (nI (s_pop ((s_gi (s_ft L) 64) m)))) (by omega))
          rw [eI_pr hne, nI_leI (by omega) (by omega)] at f44
          rw [show s_fi s_fS 0 (s_gi (s_ft L) 64) (m + 1) = s_pop ((s_gi (s_ft L) 64) m) + 1 by show (if s_fi s_fS 0 (s_gi (s_ft L) 64) m = 0 ∨ s_pop ((s_gi (s_ft L) 64) m) + 1 < s_fi s_fS 0 (s_gi (s_ft L) 64) m then s_pop ((s_gi (s_ft L) 64) m) + 1 else s_fi s_fS 0 (s_gi (s_ft L) 64) m) = _; rw [if_pos (Or.inr (by omega))], eI_s, nI_succ m]
  exact L4 ((s_cnt (s_ft L) 64)) 0 _ (by omega)
set_option maxHeartbeats 1000000 in
theorem tX12_sizeOf1 (f : Nat) (L : Nat → Nat) (hf : f < 2) (hW : l_W L) (hG : m_G μ f L) : x_K sc (d + 2) mX12_sizeOf [.ref 152, .int 1] μ w (x_p (some (.int (eI (s_fd s_f3 0 (s_ft L) 64)))) μ w) := by
  have e49 : μ 152 49 = nI (s_cnt (s_ft L) 64) := hG.2.2.1
  have hc64 := s_cnt_le (s_ft L) 64
  refine x_K.of (by decide) (Nat.le_of_ble_eq_true rfl) ?_
  show x_T sc (d + 2) mX12_sizeOf 0 [.ref 152, .int 1, .retAddr 0, .retAddr 0, .retAddr 0] [] μ w _
  refine xt_iconst (-1) dX12_sizeOf_0 (by decide) ?_
  refine xt_istore_n dX12_sizeOf_1 (by decide) rfl ?_
  change x_T _ _ _ _ [_, _, _, _, _] _ _ _ _
  refine xt_iconst (0) dX12_sizeOf_2 (by decide) ?_
  refine xt_istore_n dX12_sizeOf_3 (by decide) rfl ?_
  change x_T _ _ _ _ [_, _, _, _, _] _ _ _ _
  have L4 : ∀ (n4 m : Nat) (v4 : Value), m + n4 = (s_cnt (s_ft L) 64) → x_T sc (d + 2) mX12_sizeOf 4 [.ref 152, .int 1, .int (eI (s_fi s_f3 0 (s_gi (s_ft L) 64) m)), .int (nI m), v4] [] μ w (x_p (some (.int (eI (s_fd s_f3 0 (s_ft L) 64)))) μ w) := by
    intro n4
    induction n4 with
    | zero =>
      intro m v4 hmn
      obtain rfl : (s_cnt (s_ft L) 64) = m := by omega
      refine xt_iload_n _ dX12_sizeOf_4 rfl ?_
      refine xt_aload_n _ dX12_sizeOf_5 rfl ?_
      refine xt_geti dX12_sizeOf_6 kfX12_446 (by first | exact sh152 | rfl | assumption) rfl ?_
      refine xt_icmp_ge 60 dX12_sizeOf_9 (by decide) (fun _ => ?_) (fun q => absurd (by rw [e49]; exact Int32.le_refl _) q)
      refine xt_iload_n _ dX12_sizeOf_60 rfl ?_
      exact xt_iret .int dX12_sizeOf_61 rfl (by first | rfl | assumption) ⟨by rw [s_fi_fd], rfl, rfl⟩
    | succ n4 ih4 =>
      intro m v4 hmn
      have hlt : m < (s_cnt (s_ft L) 64) := by omega
      have hle : s_fi s_f3 0 (s_gi (s_ft L) 64) m ≤ 7 := s_fi_fd2 m (by decide) (fun b i hb hi => by have := s_pop6 ((s_gi (s_ft L) 64) i) (s_gi_lt _ 64 i (by decide)); show max b _ ≤ 7; omega)
      have hgl := s_gi_lt (s_ft L) 64 m (by decide)
      have hp6 := s_pop6 ((s_gi (s_ft L) 64) m) hgl
      refine xt_iload_n _ dX12_sizeOf_4 rfl ?_
      refine xt_aload_n _ dX12_sizeOf_5 rfl ?_
      refine xt_geti dX12_sizeOf_6 kfX12_446 (by first | exact sh152 | rfl | assumption) rfl ?_
      refine xt_icmp_ge 60 dX12_sizeOf_9 (by decide) (fun q => absurd q (by rw [e49]; exact nI_ge hlt (by omega))) (fun _ => ?_)
      refine xt_aload_n _ dX12_sizeOf_12 rfl ?_
      refine xt_getr _ dX12_sizeOf_13 kfX12_62 (by first | exact sh152 | rfl | assumption) rfl ?_
      refine xt_iload_n _ dX12_sizeOf_16 rfl ?_
      refine xt_ald dX12_sizeOf_17 (by first | exact sh152 | rfl | assumption) (by exact vp_in_nI (by omega) (by decide)) ?_
      rw [nI_clamp (by omega), hG.2.2.2.1 m hlt]
      refine xt_cS _ dX12_sizeOf_18 klX12_412 (tX12_ones sc _ μ _ ((s_gi (s_ft L) 64) m) (by omega)) rfl rfl (Nat.le_of_ble_eq_true rfl) ?_
      change x_T _ _ _ _ _ (.int (nI (s_pop ((s_gi (s_ft L) 64) m))) :: _) _ _ _
      refine xt_istore dX12_sizeOf_21 (by decide) rfl ?_
      change x_T _ _ _ _ [_, _, _, _, _] _ _ _ _
      refine xt_iload_n _ dX12_sizeOf_23 rfl ?_
      refine xt_iconst (-1) dX12_sizeOf_24 (by decide) ?_
      refine xt_icmp_eq 47 dX12_sizeOf_25 (by decide) (fun t25 => ?_) (fun f25 => ?_)
      · refine xt_iload _ dX12_sizeOf_47 rfl ?_
        refine xt_goto 53 dX12_sizeOf_49 (by decide) ?_
        refine xt_istore_n dX12_sizeOf_53 (by decide) rfl ?_
        change x_T _ _ _ _ [_, _, _, _, _] _ _ _ _
        refine xt_inc _ (1) dX12_sizeOf_54 rfl (by decide) (by decide) rfl ?_
        change x_T _ _ _ _ [_, _, _, _, _] _ _ _ _
        refine xt_goto 4 dX12_sizeOf_57 (by decide) ?_
        rw [eI_m1 (by omega)] at t25
        refine x_T.ls ?_ (ih4 (m + 1) (.int (nI (s_pop ((s_gi (s_ft L) 64) m)))) (by omega))
        rw [show s_fi s_f3 0 (s_gi (s_ft L) 64) (m + 1) = s_pop ((s_gi (s_ft L) 64) m) + 1 by show max (s_fi s_f3 0 (s_gi (s_ft L) 64) m) (s_pop ((s_gi (s_ft L) 64) m) + 1) = _; omega, eI_s, nI_succ m]
      · refine xt_iload_n _ dX12_sizeOf_28 rfl ?_
        refine xt_if_eq 41 dX12_sizeOf_29 (by decide) (fun q => absurd q (by decide)) (fun _ => ?_)
        refine xt_iload _ dX12_sizeOf_32 rfl ?_
        refine xt_iload_n _ dX12_sizeOf_34 rfl ?_
        refine xt_icmp_le 52 dX12_sizeOf_35 (by decide) (fun t35 => ?_) (fun f35 => ?_)
        · refine xt_iload_n _ dX12_sizeOf_52 rfl ?_
          refine xt_istore_n dX12_sizeOf_53 (by decide) rfl ?_
          change x_T _ _ _ _ [_, _, _, _, _] _ _ _ _
          refine xt_inc _ (1) dX12_sizeOf_54 rfl (by decide) (by decide) rfl ?_
          change x_T _ _ _ _ [_, _, _, _, _] _ _ _ _
          refine xt_goto 4 dX12_sizeOf_57 (by decide) ?_
          rw [eI_lt (by omega) (by omega)] at t35
          have hne : ¬ s_fi s_f3 0 (s_gi (s_ft L) 64) m = 0 := fun z => f25 ((eI_m1 (by omega)).mpr z)
          refine x_T.ls ?_ (ih4 (m + 1) (.int (nI (s_pop ((s_gi (s_ft L) 64) m)))) (by omega))
          rw [show s_fi s_f3 0 (s_gi (s_ft L) 64) (m + 1) = s_fi s_f3 0 (s_gi (s_ft L) 64) m by show max (s_fi s_f3 0 (s_gi (s_ft L) 64) m) (s_pop ((s_gi (s_ft L) 64) m) + 1) = _; omega, nI_succ m]
        · refine xt_goto 47 dX12_sizeOf_38 (by decide) ?_
          refine xt_iload _ dX12_sizeOf_47 rfl ?_
          refine xt_goto 53 dX12_sizeOf_49 (by decide) ?_
          refine xt_istore_n dX12_sizeOf_53 (by decide) rfl ?_
          change x_T _ _ _ _ [_, _, _, _, _] _ _ _ _
          refine xt_inc _ (1) dX12_sizeOf_54 rfl (by decide) (by decide) rfl ?_
          change x_T _ _ _ _ [_, _, _, _, _] _ _ _ _
          refine xt_goto 4 dX12_sizeOf_57 (by decide) ?_
          rw [eI_lt (by omega) (by omega)] at f35
          have hne : ¬ s_fi s_f3 0 (s_gi (s_ft L) 64) m = 0 := fun z => f25 ((eI_m1 (by omega)).mpr z)
          refine x_T.ls ?_ (ih4 (m + 1) (.int (nI (s_pop ((s_gi (s_ft L) 64) m)))) (by omega))
          rw [show s_fi s_f3 0 (s_gi (s_ft L) 64) (m + 1) = s_pop ((s_gi (s_ft L) 64) m) + 1 by show max (s_fi s_f3 0 (s_gi (s_ft L) 64) m) (s_pop ((s_gi (s_ft L) 64) m) + 1) = _; omega, eI_s, nI_succ m]
  exact L4 ((s_cnt (s_ft L) 64)) 0 _ (by omega)
set_option maxHeartbeats 1000000 in
theorem tX12_fewestLies (f : Nat) (L : Nat → Nat) (hf : f < 2) (hW : l_W L) (hG : m_G μ f L) : x_K sc (d + 2) mX12_fewestLies [.ref 152] μ w (x_p (some (.int (nI (s_mnn (s_lc L) 64)))) μ w) := by
  have h8 := hW.2.1
  refine x_K.of (by decide) (Nat.le_of_ble_eq_true rfl) ?_
  show x_T sc (d + 2) mX12_fewestLies 0 [.ref 152, .retAddr 0, .retAddr 0] [] μ w _
  refine xt_bipush (8) dX12_fewestLies_0 (by decide) ?_
  refine xt_istore_n dX12_fewestLies_2 (by decide) rfl ?_
  change x_T _ _ _ _ [_, _, _] _ _ _ _
  refine xt_iconst (0) dX12_fewestLies_3 (by decide) ?_
  refine xt_istore_n dX12_fewestLies_4 (by decide) rfl ?_
  change x_T _ _ _ _ [_, _, _] _ _ _ _
  have L5 : ∀ (n5 m : Nat) , m + n5 = 64 → x_T sc (d + 2) mX12_fewestLies 5 [.ref 152, .int (nI (s_mnn (s_lc L) m)), .int (nI m)] [] μ w (x_p (some (.int (nI (s_mnn (s_lc L) 64)))) μ w) := by
    intro n5
    induction n5 with
    | zero =>
      intro m  hmn
      obtain rfl : 64 = m := by omega
      refine xt_iload_n _ dX12_fewestLies_5 rfl ?_
      refine xt_bipush (64) dX12_fewestLies_6 (by decide) ?_
      refine xt_icmp_ge 27 dX12_fewestLies_8 (by decide) (fun _ => ?_) (fun q => absurd (by decide) q)
      refine xt_iload_n _ dX12_fewestLies_27 rfl ?_
      exact xt_iret .int dX12_fewestLies_28 rfl (by first | rfl | assumption) ⟨rfl, rfl, rfl⟩
    | succ n5 ih5 =>
      intro m  hmn
      have hlt : m < 64 := by omega
      have hlc : s_lc L m ≤ L 1 := s_cnt_le _ _
      have hmn := s_mnn_le (s_lc L) m
      refine xt_iload_n _ dX12_fewestLies_5 rfl ?_
      refine xt_bipush (64) dX12_fewestLies_6 (by decide) ?_
      refine xt_icmp_ge 27 dX12_fewestLies_8 (by decide) (fun q => absurd q (nI_ge (b := 64) hlt (by decide))) (fun _ => ?_)
      refine xt_iload_n _ dX12_fewestLies_11 rfl ?_
      refine xt_aload_n _ dX12_fewestLies_12 rfl ?_
      refine xt_iload_n _ dX12_fewestLies_13 rfl ?_
      refine xt_cV _ dX12_fewestLies_14 klX12_449 (tX12_liesOf sc _ μ _ f L hf hW hG.1 hG.2.2.2.2 m (fun _ => false) (fun j hj => ⟨fun z => absurd z (by rw [hG.2.1]; exact nI_m1 (by omega)), fun z => absurd z (by decide)⟩)) sh152 rfl rfl (Nat.le_of_ble_eq_true rfl) ?_
      rw [s_lcq]
      refine xt_cS _ dX12_fewestLies_17 klX12_209 (tX12_lesser sc _ μ _ _ _) rfl rfl (Nat.le_of_ble_eq_true rfl) ?_
      refine xt_istore_n dX12_fewestLies_20 (by decide) rfl ?_
      change x_T _ _ _ _ [_, _, _] _ _ _ _
      refine xt_inc _ (1) dX12_fewestLies_21 rfl (by decide) (by decide) rfl ?_
      change x_T _ _ _ _ [_, _, _] _ _ _ _
      refine xt_goto 5 dX12_fewestLies_24 (by decide) ?_
      refine x_T.ls ?_ (ih5 (m + 1) (by omega))
      rw [s_le_nI (by omega) (by omega), nI_succ m]
      rfl
  exact L5 (64) 0  (by omega)
set_option maxHeartbeats 2000000 in
theorem tX12_isNeedless (f : Nat) (L : Nat → Nat) (hf : f < 2) (hW : l_W L) (hl : μ 152 47 = nI f) (hM : l_M μ f L) (k : Nat) (hk : k < L 1) : x_K sc (d + 2) mX12_isNeedless [.ref 152, .int (nI k)] μ w (fun r μ' _ => r = some (.int (if s_ndl L k then 1 else 0)) ∧ μ' 152 50 = -1 ∧ (∀ j, j ≠ 50 → μ' 152 j = μ 152 j) ∧ ∀ a, a ≠ 152 → μ' a = μ a) := by
  have h8 := hW.2.1
  have h08 := hW.1
  refine x_K.of (by decide) (Nat.le_of_ble_eq_true rfl) ?_
  show x_T sc (d + 2) mX12_isNeedless 0 [.ref 152, .int (nI k), .retAddr 0, .retAddr 0, .retAddr 0] [] μ w _
  refine xt_iconst (1) dX12_isNeedless_0 (by decide) ?_
  refine xt_istore_n dX12_isNeedless_1 (by decide) rfl ?_
  change x_T _ _ _ _ [_, _, _, _, _] _ _ _ _
  refine xt_iconst (0) dX12_isNeedless_2 (by decide) ?_
  refine xt_istore_n dX12_isNeedless_3 (by decide) rfl ?_
  change x_T _ _ _ _ [_, _, _, _, _] _ _ _ _
  have L4 : ∀ (n4 m : Nat) (μ2 : x_Me) (v4 : Value) (h152 : ∀ j, j ≠ 50 → μ2 152 j = μ 152 j) (hfr2 : ∀ a, a ≠ 152 → μ2 a = μ a), m + n4 = 64 → x_T sc (d + 2) mX12_isNeedless 4 [.ref 152, .int (nI k), .int (if (s_al (fun h => decide (decide (s_lc L h ≤ L 0) = decide (s_lb L k h ≤ L 0))) m) then 1 else 0), .int (nI m), v4] [] μ2 w (fun r μ' _ => r = some (.int (if s_ndl L k then 1 else 0)) ∧ μ' 152 50 = -1 ∧ (∀ j, j ≠ 50 → μ' 152 j = μ 152 j) ∧ ∀ a, a ≠ 152 → μ' a = μ a) := by
    intro n4
    induction n4 with
    | zero =>
      intro m μ2 v4 h152 hfr2 hmn
      obtain rfl : 64 = m := by omega
      refine xt_iload_n _ dX12_isNeedless_4 rfl ?_
      refine xt_bipush (64) dX12_isNeedless_5 (by decide) ?_
      refine xt_icmp_ge 77 dX12_isNeedless_7 (by decide) (fun _ => ?_) (fun q => absurd (by decide) q)
      refine xt_aload_n _ dX12_isNeedless_77 rfl ?_
      refine xt_iconst (-1) dX12_isNeedless_78 (by decide) ?_
      refine xt_puti dX12_isNeedless_79 kpX12_443 (by first | exact sh152 | rfl | assumption) rfl (by first | rfl | exact s_nar _ | assumption) (by first | rfl | exact s_nar _ | assumption) ?_
      refine xt_iload_n _ dX12_isNeedless_82 rfl ?_
      exact xt_iret .boolean dX12_isNeedless_83 rfl (by first | rfl | exact s_nar _ | assumption) ⟨rfl, rfl, fun j hj => by rw [x_u_eq, pk_un hj]; exact h152 j hj, fun a ha => by rw [x_u_ne ha]; exact hfr2 a ha⟩
    | succ n4 ih4 =>
      intro m μ2 v4 h152 hfr2 hmn
      have hlt : m < 64 := by omega
      have hM2 : l_M μ2 f L := fun i hi => by rw [hfr2 160 (by decide)]; exact hM i hi
      have hlc : s_lc L m ≤ L 1 := s_cnt_le _ _
      have hlb : s_lb L k m ≤ L 1 := s_cnt_le _ _
      refine xt_iload_n _ dX12_isNeedless_4 rfl ?_
      refine xt_bipush (64) dX12_isNeedless_5 (by decide) ?_
      refine xt_icmp_ge 77 dX12_isNeedless_7 (by decide) (fun q => absurd q (nI_ge (b := 64) hlt (by decide))) (fun _ => ?_)
      refine xt_aload_n _ dX12_isNeedless_10 rfl ?_
      refine xt_iconst (-1) dX12_isNeedless_11 (by decide) ?_
      refine xt_puti dX12_isNeedless_12 kpX12_443 (by first | exact sh152 | rfl | assumption) rfl (by first | rfl | exact s_nar _ | assumption) (by first | rfl | exact s_nar _ | assumption) ?_
      refine xt_aload_n _ dX12_isNeedless_15 rfl ?_
      refine xt_iload_n _ dX12_isNeedless_16 rfl ?_
      refine xt_cV _ dX12_isNeedless_17 klX12_449 (tX12_liesOf sc _ (x_u μ2 152 (upd (μ2 152) 50 (-1))) _ f L hf hW ((h152 47 (by decide)).trans hl) hM2 m (fun _ => false) (fun j hj => ⟨fun z => absurd z (by rw [show (x_u μ2 152 (upd (μ2 152) 50 (-1))) 152 50 = -1 from rfl]; exact nI_m1 (by omega)), fun z => absurd z (by decide)⟩)) sh152 rfl rfl (Nat.le_of_ble_eq_true rfl) ?_
      rw [s_lcq]
      refine xt_aload_n _ dX12_isNeedless_20 rfl ?_
      refine xt_cV _ dX12_isNeedless_21 klX12_431 (tX12_lies sc _ (x_u μ2 152 (upd (μ2 152) 50 (-1))) _ f L hf hW ((h152 47 (by decide)).trans hl) hM2) sh152 rfl rfl (Nat.le_of_ble_eq_true rfl) ?_
      refine xt_icmp_gt 31 dX12_isNeedless_24 (by decide) (fun t24 => ?_) (fun f24 => ?_)
      · have n24 : L 0 < s_lc L m := (nI_ltI (a := L 0) (b := s_lc L m) (by omega) (by omega)).mp t24
        refine xt_iconst (0) dX12_isNeedless_31 (by decide) ?_
        refine xt_istore dX12_isNeedless_32 (by decide) rfl ?_
        change x_T _ _ _ _ [_, _, _, _, _] _ _ _ _
        refine xt_aload_n _ dX12_isNeedless_34 rfl ?_
        refine xt_iload_n _ dX12_isNeedless_35 rfl ?_
        refine xt_puti dX12_isNeedless_36 kpX12_443 (by first | exact sh152 | rfl | assumption) rfl (by first | rfl | exact s_nar _ | assumption) (by first | rfl | exact s_nar _ | assumption) ?_
        refine xt_iload_n _ dX12_isNeedless_39 rfl ?_
        refine xt_if_eq 69 dX12_isNeedless_40 (by decide) (fun t40 => ?_) (fun f40 => ?_)
        · refine xt_iconst (0) dX12_isNeedless_69 (by decide) ?_
          refine xt_istore_n dX12_isNeedless_70 (by decide) rfl ?_
          change x_T _ _ _ _ [_, _, _, _, _] _ _ _ _
          refine xt_inc _ (1) dX12_isNeedless_71 rfl (by decide) (by decide) rfl ?_
          change x_T _ _ _ _ [_, _, _, _, _] _ _ _ _
          refine xt_goto 4 dX12_isNeedless_74 (by decide) ?_
          refine x_T.ls ?_ (ih4 (m + 1) (x_u (x_u μ2 152 (upd (μ2 152) 50 (-1))) 152 (upd ((x_u μ2 152 (upd (μ2 152) 50 (-1))) 152) 50 (nI k))) (.int 0) (fun j hj => by rw [x_u_eq, pk_un hj, x_u_eq, pk_un hj]; exact h152 j hj) (fun a ha => by rw [x_u_ne ha, x_u_ne ha]; exact hfr2 a ha) (by omega))
          rw [nI_succ m]
          show [_, _, _, _, _] = [_, _, Value.int (if s_al _ (m + 1) then 1 else 0), _, _]
          rw [s_al]
          have hq : (s_al (fun h => decide (decide (s_lc L h ≤ L 0) = decide (s_lb L k h ≤ L 0))) m) = false := by cases hz : (s_al (fun h => decide (decide (s_lc L h ≤ L 0) = decide (s_lb L k h ≤ L 0))) m) <;> simp_all
          rw [hq]; rfl
        · refine xt_iload _ dX12_isNeedless_43 rfl ?_
          refine xt_aload_n _ dX12_isNeedless_45 rfl ?_
          refine xt_iload_n _ dX12_isNeedless_46 rfl ?_
          refine xt_cV _ dX12_isNeedless_47 klX12_449 (tX12_liesOf sc _ (x_u (x_u μ2 152 (upd (μ2 152) 50 (-1))) 152 (upd ((x_u μ2 152 (upd (μ2 152) 50 (-1))) 152) 50 (nI k))) _ f L hf hW ((h152 47 (by decide)).trans hl) hM2 m (fun j => decide (j = k)) (fun j hj => by rw [show (x_u (x_u μ2 152 (upd (μ2 152) 50 (-1))) 152 (upd ((x_u μ2 152 (upd (μ2 152) 50 (-1))) 152) 50 (nI k))) 152 50 = nI k from rfl, nI_eq (by omega) (by omega)]; simp)) sh152 rfl rfl (Nat.le_of_ble_eq_true rfl) ?_
          refine xt_aload_n _ dX12_isNeedless_50 rfl ?_
          refine xt_cV _ dX12_isNeedless_51 klX12_431 (tX12_lies sc _ (x_u (x_u μ2 152 (upd (μ2 152) 50 (-1))) 152 (upd ((x_u μ2 152 (upd (μ2 152) 50 (-1))) 152) 50 (nI k))) _ f L hf hW ((h152 47 (by decide)).trans hl) hM2) sh152 rfl rfl (Nat.le_of_ble_eq_true rfl) ?_
          refine xt_icmp_gt 61 dX12_isNeedless_54 (by decide) (fun t54 => ?_) (fun f54 => ?_)
          · have n54 : L 0 < s_lb L k m := (nI_ltI (a := L 0) (b := s_lb L k m) (by omega) (by omega)).mp t54
            refine xt_iconst (0) dX12_isNeedless_61 (by decide) ?_
            refine xt_icmp_ne 69 dX12_isNeedless_62 (by decide) (fun q => absurd (by decide) q) (fun _ => ?_)
            refine xt_iconst (1) dX12_isNeedless_65 (by decide) ?_
            refine xt_goto 70 dX12_isNeedless_66 (by decide) ?_
            refine xt_istore_n dX12_isNeedless_70 (by decide) rfl ?_
            change x_T _ _ _ _ [_, _, _, _, _] _ _ _ _
            refine xt_inc _ (1) dX12_isNeedless_71 rfl (by decide) (by decide) rfl ?_
            change x_T _ _ _ _ [_, _, _, _, _] _ _ _ _
            refine xt_goto 4 dX12_isNeedless_74 (by decide) ?_
            refine x_T.ls ?_ (ih4 (m + 1) (x_u (x_u μ2 152 (upd (μ2 152) 50 (-1))) 152 (upd ((x_u μ2 152 (upd (μ2 152) 50 (-1))) 152) 50 (nI k))) (.int 0) (fun j hj => by rw [x_u_eq, pk_un hj, x_u_eq, pk_un hj]; exact h152 j hj) (fun a ha => by rw [x_u_ne ha, x_u_ne ha]; exact hfr2 a ha) (by omega))
            rw [nI_succ m]
            show [_, _, _, _, _] = [_, _, Value.int (if s_al _ (m + 1) then 1 else 0), _, _]
            rw [s_al]
            have hq : (s_al (fun h => decide (decide (s_lc L h ≤ L 0) = decide (s_lb L k h ≤ L 0))) m) = true := by cases hz : (s_al (fun h => decide (decide (s_lc L h ≤ L 0) = decide (s_lb L k h ≤ L 0))) m) <;> simp_all
            rw [hq, Bool.true_and, decide_eq_false (show ¬ s_lc L m ≤ L 0 by omega), decide_eq_false (show ¬ s_lb L k m ≤ L 0 by omega)]
            rfl
          · have n54 : ¬ (L 0 < s_lb L k m) := fun z => f54 ((nI_ltI (a := L 0) (b := s_lb L k m) (by omega) (by omega)).mpr z)
            refine xt_iconst (1) dX12_isNeedless_57 (by decide) ?_
            refine xt_goto 62 dX12_isNeedless_58 (by decide) ?_
            refine xt_icmp_ne 69 dX12_isNeedless_62 (by decide) (fun _ => ?_) (fun q => absurd q (by decide))
            refine xt_iconst (0) dX12_isNeedless_69 (by decide) ?_
            refine xt_istore_n dX12_isNeedless_70 (by decide) rfl ?_
            change x_T _ _ _ _ [_, _, _, _, _] _ _ _ _
            refine xt_inc _ (1) dX12_isNeedless_71 rfl (by decide) (by decide) rfl ?_
            change x_T _ _ _ _ [_, _, _, _, _] _ _ _ _
            refine xt_goto 4 dX12_isNeedless_74 (by decide) ?_
            refine x_T.ls ?_ (ih4 (m + 1) (x_u (x_u μ2 152 (upd (μ2 152) 50 (-1))) 152 (upd ((x_u μ2 152 (upd (μ2 152) 50 (-1))) 152) 50 (nI k))) (.int 0) (fun j hj => by rw [x_u_eq, pk_un hj, x_u_eq, pk_un hj]; exact h152 j hj) (fun a ha => by rw [x_u_ne ha, x_u_ne ha]; exact hfr2 a ha) (by omega))
            rw [nI_succ m]
            show [_, _, _, _, _] = [_, _, Value.int (if s_al _ (m + 1) then 1 else 0), _, _]
            rw [s_al]
            have hq : (s_al (fun h => decide (decide (s_lc L h ≤ L 0) = decide (s_lb L k h ≤ L 0))) m) = true := by cases hz : (s_al (fun h => decide (decide (s_lc L h ≤ L 0) = decide (s_lb L k h ≤ L 0))) m) <;> simp_all
            rw [hq, Bool.true_and, decide_eq_false (show ¬ s_lc L m ≤ L 0 by omega), decide_eq_true (show s_lb L k m ≤ L 0 by omega)]
            rfl
      · have n24 : ¬ (L 0 < s_lc L m) := fun z => f24 ((nI_ltI (a := L 0) (b := s_lc L m) (by omega) (by omega)).mpr z)
        refine xt_iconst (1) dX12_isNeedless_27 (by decide) ?_
        refine xt_goto 32 dX12_isNeedless_28 (by decide) ?_
        refine xt_istore dX12_isNeedless_32 (by decide) rfl ?_
        change x_T _ _ _ _ [_, _, _, _, _] _ _ _ _
        refine xt_aload_n _ dX12_isNeedless_34 rfl ?_
        refine xt_iload_n _ dX12_isNeedless_35 rfl ?_
        refine xt_puti dX12_isNeedless_36 kpX12_443 (by first | exact sh152 | rfl | assumption) rfl (by first | rfl | exact s_nar _ | assumption) (by first | rfl | exact s_nar _ | assumption) ?_
        refine xt_iload_n _ dX12_isNeedless_39 rfl ?_
        refine xt_if_eq 69 dX12_isNeedless_40 (by decide) (fun t40 => ?_) (fun f40 => ?_)
        · refine xt_iconst (0) dX12_isNeedless_69 (by decide) ?_
          refine xt_istore_n dX12_isNeedless_70 (by decide) rfl ?_
          change x_T _ _ _ _ [_, _, _, _, _] _ _ _ _
          refine xt_inc _ (1) dX12_isNeedless_71 rfl (by decide) (by decide) rfl ?_
          change x_T _ _ _ _ [_, _, _, _, _] _ _ _ _
          refine xt_goto 4 dX12_isNeedless_74 (by decide) ?_
          refine x_T.ls ?_ (ih4 (m + 1) (x_u (x_u μ2 152 (upd (μ2 152) 50 (-1))) 152 (upd ((x_u μ2 152 (upd (μ2 152) 50 (-1))) 152) 50 (nI k))) (.int 1) (fun j hj => by rw [x_u_eq, pk_un hj, x_u_eq, pk_un hj]; exact h152 j hj) (fun a ha => by rw [x_u_ne ha, x_u_ne ha]; exact hfr2 a ha) (by omega))
          rw [nI_succ m]
          show [_, _, _, _, _] = [_, _, Value.int (if s_al _ (m + 1) then 1 else 0), _, _]
          rw [s_al]
          have hq : (s_al (fun h => decide (decide (s_lc L h ≤ L 0) = decide (s_lb L k h ≤ L 0))) m) = false := by cases hz : (s_al (fun h => decide (decide (s_lc L h ≤ L 0) = decide (s_lb L k h ≤ L 0))) m) <;> simp_all
          rw [hq]; rfl
        · refine xt_iload _ dX12_isNeedless_43 rfl ?_
          refine xt_aload_n _ dX12_isNeedless_45 rfl ?_
          refine xt_iload_n _ dX12_isNeedless_46 rfl ?_
          refine xt_cV _ dX12_isNeedless_47 klX12_449 (tX12_liesOf sc _ (x_u (x_u μ2 152 (upd (μ2 152) 50 (-1))) 152 (upd ((x_u μ2 152 (upd (μ2 152) 50 (-1))) 152) 50 (nI k))) _ f L hf hW ((h152 47 (by decide)).trans hl) hM2 m (fun j => decide (j = k)) (fun j hj => by rw [show (x_u (x_u μ2 152 (upd (μ2 152) 50 (-1))) 152 (upd ((x_u μ2 152 (upd (μ2 152) 50 (-1))) 152) 50 (nI k))) 152 50 = nI k from rfl, nI_eq (by omega) (by omega)]; simp)) sh152 rfl rfl (Nat.le_of_ble_eq_true rfl) ?_
          refine xt_aload_n _ dX12_isNeedless_50 rfl ?_
          refine xt_cV _ dX12_isNeedless_51 klX12_431 (tX12_lies sc _ (x_u (x_u μ2 152 (upd (μ2 152) 50 (-1))) 152 (upd ((x_u μ2 152 (upd (μ2 152) 50 (-1))) 152) 50 (nI k))) _ f L hf hW ((h152 47 (by decide)).trans hl) hM2) sh152 rfl rfl (Nat.le_of_ble_eq_true rfl) ?_
          refine xt_icmp_gt 61 dX12_isNeedless_54 (by decide) (fun t54 => ?_) (fun f54 => ?_)
          · have n54 : L 0 < s_lb L k m := (nI_ltI (a := L 0) (b := s_lb L k m) (by omega) (by omega)).mp t54
            refine xt_iconst (0) dX12_isNeedless_61 (by decide) ?_
            refine xt_icmp_ne 69 dX12_isNeedless_62 (by decide) (fun _ => ?_) (fun q => absurd q (by decide))
            refine xt_iconst (0) dX12_isNeedless_69 (by decide) ?_
            refine xt_istore_n dX12_isNeedless_70 (by decide) rfl ?_
            change x_T _ _ _ _ [_, _, _, _, _] _ _ _ _
            refine xt_inc _ (1) dX12_isNeedless_71 rfl (by decide) (by decide) rfl ?_
            change x_T _ _ _ _ [_, _, _, _, _] _ _ _ _
            refine xt_goto 4 dX12_isNeedless_74 (by decide) ?_
            refine x_T.ls ?_ (ih4 (m + 1) (x_u (x_u μ2 152 (upd (μ2 152) 50 (-1))) 152 (upd ((x_u μ2 152 (upd (μ2 152) 50 (-1))) 152) 50 (nI k))) (.int 1) (fun j hj => by rw [x_u_eq, pk_un hj, x_u_eq, pk_un hj]; exact h152 j hj) (fun a ha => by rw [x_u_ne ha, x_u_ne ha]; exact hfr2 a ha) (by omega))
            rw [nI_succ m]
            show [_, _, _, _, _] = [_, _, Value.int (if s_al _ (m + 1) then 1 else 0), _, _]
            rw [s_al]
            have hq : (s_al (fun h => decide (decide (s_lc L h ≤ L 0) = decide (s_lb L k h ≤ L 0))) m) = true := by cases hz : (s_al (fun h => decide (decide (s_lc L h ≤ L 0) = decide (s_lb L k h ≤ L 0))) m) <;> simp_all
            rw [hq, Bool.true_and, decide_eq_true (show s_lc L m ≤ L 0 by omega), decide_eq_false (show ¬ s_lb L k m ≤ L 0 by omega)]
            rfl
          · have n54 : ¬ (L 0 < s_lb L k m) := fun z => f54 ((nI_ltI (a := L 0) (b := s_lb L k m) (by omega) (by omega)).mpr z)
            refine xt_iconst (1) dX12_isNeedless_57 (by decide) ?_
            refine xt_goto 62 dX12_isNeedless_58 (by decide) ?_
            refine xt_icmp_ne 69 dX12_isNeedless_62 (by decide) (fun q => absurd (by decide) q) (fun _ => ?_)
            refine xt_iconst (1) dX12_isNeedless_65 (by decide) ?_
            refine xt_goto 70 dX12_isNeedless_66 (by decide) ?_
            refine xt_istore_n dX12_isNeedless_70 (by decide) rfl ?_
            change x_T _ _ _ _ [_, _, _, _, _] _ _ _ _
            refine xt_inc _ (1) dX12_isNeedless_71 rfl (by decide) (by decide) rfl ?_
            change x_T _ _ _ _ [_, _, _, _, _] _ _ _ _
            refine xt_goto 4 dX12_isNeedless_74 (by decide) ?_
            refine x_T.ls ?_ (ih4 (m + 1) (x_u (x_u μ2 152 (upd (μ2 152) 50 (-1))) 152 (upd ((x_u μ2 152 (upd (μ2 152) 50 (-1))) 152) 50 (nI k))) (.int 1) (fun j hj => by rw [x_u_eq, pk_un hj, x_u_eq, pk_un hj]; exact h152 j hj) (fun a ha => by rw [x_u_ne ha, x_u_ne ha]; exact hfr2 a ha) (by omega))
            rw [nI_succ m]
            show [_, _, _, _, _] = [_, _, Value.int (if s_al _ (m + 1) then 1 else 0), _, _]
            rw [s_al]
            have hq : (s_al (fun h => decide (decide (s_lc L h ≤ L 0) = decide (s_lb L k h ≤ L 0))) m) = true := by cases hz : (s_al (fun h => decide (decide (s_lc L h ≤ L 0) = decide (s_lb L k h ≤ L 0))) m) <;> simp_all
            rw [hq, Bool.true_and, decide_eq_true (show s_lc L m ≤ L 0 by omega), decide_eq_true (show s_lb L k m ≤ L 0 by omega)]
            rfl
  exact L4 (64) 0 μ _ (fun _ _ => rfl) (fun _ _ => rfl) (by omega)
set_option maxHeartbeats 1000000 in
theorem tX12_needless (f : Nat) (L : Nat → Nat) (hf : f < 2) (hW : l_W L) (hl : μ 152 47 = nI f) (hM : l_M μ f L) : x_K sc (d + 3) mX12_needless [.ref 152] μ w (fun r μ' _ => r = some (.int (nI (s_bits (s_ndl L) (L 1)))) ∧ ∀ a, a ≠ 152 → μ' a = μ a) := by
  have h8 := hW.2.1
  refine x_K.of (by decide) (Nat.le_of_ble_eq_true rfl) ?_
  show x_T sc (d + 3) mX12_needless 0 [.ref 152, .retAddr 0, .retAddr 0] [] μ w _
  refine xt_iconst (0) dX12_needless_0 (by decide) ?_
  refine xt_istore_n dX12_needless_1 (by decide) rfl ?_
  change x_T _ _ _ _ [_, _, _] _ _ _ _
  refine xt_iconst (0) dX12_needless_2 (by decide) ?_
  refine xt_istore_n dX12_needless_3 (by decide) rfl ?_
  change x_T _ _ _ _ [_, _, _] _ _ _ _
  have L4 : ∀ (n4 m : Nat) (μ2 : x_Me) (w2 : Int64) (h47 : μ2 152 47 = nI f) (hfr2 : ∀ a, a ≠ 152 → μ2 a = μ a), m + n4 = L 1 → x_T sc (d + 3) mX12_needless 4 [.ref 152, .int (nI (s_bits (s_ndl L) m)), .int (nI m)] [] μ2 w2 (fun r μ' _ => r = some (.int (nI (s_bits (s_ndl L) (L 1)))) ∧ ∀ a, a ≠ 152 → μ' a = μ a) := by
    intro n4
    induction n4 with
    | zero =>
      intro m μ2 w2 h47 hfr2 hmn
      obtain rfl : L 1 = m := by omega
      refine xt_iload_n _ dX12_needless_4 rfl ?_
      refine xt_aload_n _ dX12_needless_5 rfl ?_
      refine xt_cV _ dX12_needless_6 klX12_434 (tX12_facts sc _ μ2 _ f L hf hW h47 (fun i hi => by rw [hfr2 160 (by decide)]; exact hM i hi)) sh152 rfl rfl (Nat.le_of_ble_eq_true rfl) ?_
      refine xt_icmp_ge 36 dX12_needless_9 (by decide) (fun _ => ?_) (fun q => absurd (Int32.le_refl _) q)
      refine xt_iload_n _ dX12_needless_36 rfl ?_
      exact xt_iret .int dX12_needless_37 rfl (by first | rfl | assumption) ⟨rfl, hfr2⟩
    | succ n4 ih4 =>
      intro m μ2 w2 h47 hfr2 hmn
      have hlt : m < L 1 := by omega
      refine xt_iload_n _ dX12_needless_4 rfl ?_
      refine xt_aload_n _ dX12_needless_5 rfl ?_
      refine xt_cV _ dX12_needless_6 klX12_434 (tX12_facts sc _ μ2 _ f L hf hW h47 (fun i hi => by rw [hfr2 160 (by decide)]; exact hM i hi)) sh152 rfl rfl (Nat.le_of_ble_eq_true rfl) ?_
      refine xt_icmp_ge 36 dX12_needless_9 (by decide) (fun q => absurd q (nI_ge hlt (by omega))) (fun _ => ?_)
      refine xt_iload_n _ dX12_needless_12 rfl ?_
      refine xt_aload_n _ dX12_needless_13 rfl ?_
      refine xt_iload_n _ dX12_needless_14 rfl ?_
      refine xt_callV _ dX12_needless_15 klX12_551 (tX12_isNeedless sc _ μ2 _ f L hf hW h47 (fun i hi => by rw [hfr2 160 (by decide)]; exact hM i hi) m hlt) sh152 rfl rfl (Nat.le_of_ble_eq_true rfl) (fun r3 μ3 w3 q3 => ?_)
      obtain ⟨rfl, _, h3, hfr3⟩ := q3
      change x_T _ _ _ _ _ (.int _ :: _) _ _ _
      refine xt_if_eq 27 dX12_needless_18 (by decide) (fun t18 => ?_) (fun f18 => ?_)
      · refine xt_iconst (0) dX12_needless_27 (by decide) ?_
        refine xt_ior dX12_needless_28 ?_
        refine xt_istore_n dX12_needless_29 (by decide) rfl ?_
        change x_T _ _ _ _ [_, _, _] _ _ _ _
        refine xt_inc _ (1) dX12_needless_30 rfl (by decide) (by decide) rfl ?_
        change x_T _ _ _ _ [_, _, _] _ _ _ _
        refine xt_goto 4 dX12_needless_33 (by decide) ?_
        have hb : s_ndl L m = false := by cases hz : s_ndl L m <;> simp_all
        refine x_T.ls ?_ (ih4 (m + 1) μ3 w3 ((h3 47 (by decide)).trans h47) (fun a ha => (hfr3 a ha).trans (hfr2 a ha)) (by omega))
        rw [s_bits_no (p := s_ndl L) hb, nI_succ m, Int32.or_zero]
      · refine xt_iconst (1) dX12_needless_21 (by decide) ?_
        refine xt_iload_n _ dX12_needless_22 rfl ?_
        refine xt_ishl dX12_needless_23 ?_
        refine xt_goto 28 dX12_needless_24 (by decide) ?_
        refine xt_ior dX12_needless_28 ?_
        refine xt_istore_n dX12_needless_29 (by decide) rfl ?_
        change x_T _ _ _ _ [_, _, _] _ _ _ _
        refine xt_inc _ (1) dX12_needless_30 rfl (by decide) (by decide) rfl ?_
        change x_T _ _ _ _ [_, _, _] _ _ _ _
        refine xt_goto 4 dX12_needless_33 (by decide) ?_
        have hb : s_ndl L m = true := by cases hz : s_ndl L m <;> simp_all
        refine x_T.ls ?_ (ih4 (m + 1) μ3 w3 ((h3 47 (by decide)).trans h47) (fun a ha => (hfr3 a ha).trans (hfr2 a ha)) (by omega))
        rw [← s_bits_or (p := s_ndl L) (g := m) (by omega) hb, nI_succ m]
  exact L4 (L 1) 0 μ w hl (fun _ _ => rfl) (by omega)
end LEDGERM
set_option maxHeartbeats 4000000 in
theorem st_fits (sc : Nat × (Nat → Int32)) (a1 a2 : Int32) : x_stI sc (fun μ _ => x_Inv μ) (fun μ _ => x_Inv μ) mX11_fits mX12_fits [.int a1, .int a2] := by
  refine x_stO (-2) ?_ ?_ ?_
  · intro μ w c hc e hk
    refine x_K.of (by decide) (Nat.le_of_ble_eq_true rfl) ?_
    show x_T sc 29 mX11_fits 0 [.ref 0, .int a1, .int a2, .retAddr 0, .retAddr 0, .retAddr 0] [] μ w _
    refine xt_aload_n _ dX11_fits_0 rfl ?_
    refine xt_iload_n _ dX11_fits_1 rfl ?_
    refine xt_cV _ dX11_fits_2 klX11_166 (tX11_ledgerOf_no sc _ μ w c hc e _ hk) sh0 rfl rfl (Nat.le_of_ble_eq_true rfl) ?_
    refine xt_astore_n0 dX11_fits_5 (by decide) rfl ?_
    change x_T _ _ _ _ [_, _, _, _, _, _] _ _ _ _
    refine xt_aload_n0 dX11_fits_6 rfl ?_
    refine xt_ifnull_n 14 dX11_fits_7 (by decide) ?_
    refine xt_bipush (-2) dX11_fits_14 (by decide) ?_
    exact xt_iret .int dX11_fits_16 rfl (by first | rfl | assumption) ⟨rfl, x_keep.rf μ⟩
  · intro μ w c hc e hk
    refine x_K.of (by decide) (Nat.le_of_ble_eq_true rfl) ?_
    show x_T sc 29 mX12_fits 0 [.ref 152, .int a1, .int a2] [] μ w _
    refine xt_aload_n _ dX12_fits_0 rfl ?_
    refine xt_iconst (0) dX12_fits_1 (by decide) ?_
    refine xt_puti dX12_fits_2 kpX12_72 (by first | exact sh152 | rfl | assumption) rfl (by first | rfl | assumption) (by first | rfl | assumption) ?_
    refine xt_aload_n _ dX12_fits_5 rfl ?_
    refine xt_iload_n _ dX12_fits_6 rfl ?_
    refine xt_cV _ dX12_fits_7 klX12_458 (tX12_layLog_no sc _ (x_u μ 152 (upd (μ 152) 0 0)) w c hc _ hk e) sh152 rfl rfl (Nat.le_of_ble_eq_true rfl) ?_
    refine xt_if_ne 16 dX12_fits_10 (by decide) (fun q => absurd (by decide) q) (fun _ => ?_)
    refine xt_bipush (-2) dX12_fits_13 (by decide) ?_
    exact xt_iret .int dX12_fits_15 rfl (by first | rfl | assumption) ⟨rfl, (x_keep.u (x_keep.u (x_keep.rf μ) (by unfold x_ok; omega)) (by unfold x_ok; omega))⟩
  · intro f L hf2 hkk hW
    subst hkk
    have hc64 := s_cnt_le (s_ft L) 64
    by_cases hneg : a2 < 0
    · skip
      refine ⟨-2, ?_, ?_⟩
      · intro μ w c hf hc e hC
        have hS := l_Sf hf2
        refine x_K.of (by decide) (Nat.le_of_ble_eq_true rfl) ?_
        show x_T sc 29 mX11_fits 0 [.ref 0, .int (nI f), .int a2, .retAddr 0, .retAddr 0, .retAddr 0] [] μ w _
        refine xt_aload_n _ dX11_fits_0 rfl ?_
        refine xt_iload_n _ dX11_fits_1 rfl ?_
        refine xt_cV _ dX11_fits_2 klX11_166 (tX11_ledgerOf sc _ μ w f c hf hc e) sh0 rfl rfl (Nat.le_of_ble_eq_true rfl) ?_
        refine xt_astore_n dX11_fits_5 (by decide) rfl ?_
        change x_T _ _ _ _ [_, _, _, _, _, _] _ _ _ _
        refine xt_aload_n _ dX11_fits_6 rfl ?_
        refine xt_ifnull_r dX11_fits_7 ?_
        refine xt_iload_n _ dX11_fits_10 rfl ?_
        refine xt_if_ge 17 dX11_fits_11 (by decide) (fun q => absurd q (Int32.not_le.mpr hneg)) (fun _ => ?_)
        refine xt_bipush (-2) dX11_fits_14 (by decide) ?_
        exact xt_iret .int dX11_fits_16 rfl (by first | rfl | assumption) ⟨rfl, x_keep.rf μ⟩
      · intro μ w c hf hc e hM
        refine x_K.of (by decide) (Nat.le_of_ble_eq_true rfl) ?_
        show x_T sc 29 mX12_fits 0 [.ref 152, .int (nI f), .int a2] [] μ w _
        refine xt_aload_n _ dX12_fits_0 rfl ?_
        refine xt_iconst (0) dX12_fits_1 (by decide) ?_
        refine xt_puti dX12_fits_2 kpX12_72 (by first | exact sh152 | rfl | assumption) rfl (by first | rfl | assumption) (by first | rfl | assumption) ?_
        refine xt_aload_n _ dX12_fits_5 rfl ?_
        refine xt_iload_n _ dX12_fits_6 rfl ?_
        refine xt_callV _ dX12_fits_7 klX12_458 (tX12_layLog sc _ (x_u μ 152 (upd (μ 152) 0 0)) w f c L hf hc e hW hM) sh152 rfl rfl (Nat.le_of_ble_eq_true rfl) (fun r1 μ1 w1 q1 => ?_)
        obtain ⟨rfl, hG, hfr⟩ := q1
        change x_T _ _ _ _ _ (.int 1 :: _) _ _ _
        have e49 : μ1 152 49 = nI (s_cnt (s_ft L) 64) := hG.2.2.1
        refine xt_if_ne 16 dX12_fits_10 (by decide) (fun _ => ?_) (fun q => absurd q (by decide))
        refine xt_iload_n _ dX12_fits_16 rfl ?_
        refine xt_bipush (10) dX12_fits_17 (by decide) ?_
        refine xt_icmp_lt 48 dX12_fits_19 (by decide) (fun _ => ?_) (fun q => absurd (Int32.lt_trans hneg (by decide)) q)
        refine xt_iload_n _ dX12_fits_48 rfl ?_
        refine xt_iconst (2) dX12_fits_49 (by decide) ?_
        refine xt_bipush (7) dX12_fits_50 (by decide) ?_
        refine xt_cS _ dX12_fits_52 klX12_84 (tX12_in sc _ _ _ _ _ _) rfl rfl (Nat.le_of_ble_eq_true rfl) ?_
        refine xt_if_eq 66 dX12_fits_55 (by decide) (fun _ => ?_) (fun q => absurd (by rw [s_in, if_pos (Int32.lt_trans hneg (by decide))]) q)
        refine xt_iload_n _ dX12_fits_66 rfl ?_
        refine xt_if_ne 77 dX12_fits_67 (by decide) (fun _ => ?_) (fun q => absurd q (fun z => by rw [z] at hneg; exact absurd hneg (by decide)))
        refine xt_iload_n _ dX12_fits_77 rfl ?_
        refine xt_iconst (1) dX12_fits_78 (by decide) ?_
        refine xt_icmp_ne 89 dX12_fits_79 (by decide) (fun _ => ?_) (fun q => absurd q (fun z => by rw [z] at hneg; exact absurd hneg (by decide)))
        refine xt_bipush (-2) dX12_fits_89 (by decide) ?_
        exact xt_iret .int dX12_fits_91 rfl (by first | rfl | assumption) ⟨rfl, (fun a ha => by rw [hfr a (by unfold x_ok at ha; omega) (by unfold x_ok at ha; omega), x_u_ne (by unfold x_ok at ha; omega)])⟩
    · obtain ⟨n, hn31, rfl⟩ := nI_of hneg
      have hge : 0 ≤ nI n := Int32.not_lt.mp hneg
      by_cases h0 : n = 0
      · subst h0
        refine ⟨nI (s_cnt (s_ft L) 64), ?_, ?_⟩
        · intro μ w c hf hc e hC
          have hS := l_Sf hf2
          refine x_K.of (by decide) (Nat.le_of_ble_eq_true rfl) ?_
          show x_T sc 29 mX11_fits 0 [.ref 0, .int (nI f), .int (nI 0), .retAddr 0, .retAddr 0, .retAddr 0] [] μ w _
          refine xt_aload_n _ dX11_fits_0 rfl ?_
          refine xt_iload_n _ dX11_fits_1 rfl ?_
          refine xt_cV _ dX11_fits_2 klX11_166 (tX11_ledgerOf sc _ μ w f c hf hc e) sh0 rfl rfl (Nat.le_of_ble_eq_true rfl) ?_
          refine xt_astore_n dX11_fits_5 (by decide) rfl ?_
          change x_T _ _ _ _ [_, _, _, _, _, _] _ _ _ _
          refine xt_aload_n _ dX11_fits_6 rfl ?_
          refine xt_ifnull_r dX11_fits_7 ?_
          refine xt_iload_n _ dX11_fits_10 rfl ?_
          refine xt_if_ge 17 dX11_fits_11 (by decide) (fun _ => ?_) (fun q => absurd hge q)
          refine xt_aload_n _ dX11_fits_17 rfl ?_
          refine xt_cV _ dX11_fits_18 klX11_173 (tX4_fitting sc _ μ w hS hW hC) hS.1 rfl rfl (Nat.le_of_ble_eq_true rfl) ?_
          refine xt_lstore dX11_fits_21 (by decide) rfl ?_
          change x_T _ _ _ _ [_, _, _, _, _, _] _ _ _ _
          refine xt_iload_n _ dX11_fits_23 rfl ?_
          refine xt_if_ne 33 dX11_fits_24 (by decide) (fun q => absurd rfl q) (fun _ => ?_)
          refine xt_lload _ dX11_fits_27 rfl ?_
          refine xt_cS _ dX11_fits_29 klX11_177 (tJ_bitCountL sc _ μ w (s_bits (s_ft L) 64) (s_bits_lt _ 64)) rfl rfl (Nat.le_of_ble_eq_true rfl) ?_
          rw [mb_bits]
          exact xt_iret .int dX11_fits_32 rfl (by first | rfl | assumption) ⟨rfl, x_keep.rf μ⟩
        · intro μ w c hf hc e hM
          refine x_K.of (by decide) (Nat.le_of_ble_eq_true rfl) ?_
          show x_T sc 29 mX12_fits 0 [.ref 152, .int (nI f), .int (nI 0)] [] μ w _
          refine xt_aload_n _ dX12_fits_0 rfl ?_
          refine xt_iconst (0) dX12_fits_1 (by decide) ?_
          refine xt_puti dX12_fits_2 kpX12_72 (by first | exact sh152 | rfl | assumption) rfl (by first | rfl | assumption) (by first | rfl | assumption) ?_
          refine xt_aload_n _ dX12_fits_5 rfl ?_
          refine xt_iload_n _ dX12_fits_6 rfl ?_
          refine xt_callV _ dX12_fits_7 klX12_458 (tX12_layLog sc _ (x_u μ 152 (upd (μ 152) 0 0)) w f c L hf hc e hW hM) sh152 rfl rfl (Nat.le_of_ble_eq_true rfl) (fun r1 μ1 w1 q1 => ?_)
          obtain ⟨rfl, hG, hfr⟩ := q1
          change x_T _ _ _ _ _ (.int 1 :: _) _ _ _
          have e49 : μ1 152 49 = nI (s_cnt (s_ft L) 64) := hG.2.2.1
          refine xt_if_ne 16 dX12_fits_10 (by decide) (fun _ => ?_) (fun q => absurd q (by decide))
          refine xt_iload_n _ dX12_fits_16 rfl ?_
          refine xt_bipush (10) dX12_fits_17 (by decide) ?_
          refine xt_icmp_lt 48 dX12_fits_19 (by decide) (fun _ => ?_) (fun q => absurd (by decide) q)
          refine xt_iload_n _ dX12_fits_48 rfl ?_
          refine xt_iconst (2) dX12_fits_49 (by decide) ?_
          refine xt_bipush (7) dX12_fits_50 (by decide) ?_
          refine xt_cS _ dX12_fits_52 klX12_84 (tX12_in sc _ _ _ _ _ _) rfl rfl (Nat.le_of_ble_eq_true rfl) ?_
          refine xt_if_eq 66 dX12_fits_55 (by decide) (fun _ => ?_) (fun q => absurd (by decide) q)
          refine xt_iload_n _ dX12_fits_66 rfl ?_
          refine xt_if_ne 77 dX12_fits_67 (by decide) (fun q => absurd rfl q) (fun _ => ?_)
          refine xt_aload_n _ dX12_fits_70 rfl ?_
          refine xt_geti dX12_fits_71 kfX12_446 (by first | exact sh152 | rfl | assumption) rfl ?_
          refine xt_goto 91 dX12_fits_74 (by decide) ?_
          exact xt_iret .int dX12_fits_91 rfl (by first | rfl | assumption) ⟨by rw [e49], (fun a ha => by rw [hfr a (by unfold x_ok at ha; omega) (by unfold x_ok at ha; omega), x_u_ne (by unfold x_ok at ha; omega)])⟩
      · by_cases h1 : n = 1
        · subst h1
          by_cases hz : (s_cnt (s_ft L) 64) = 0
          · skip
            refine ⟨if (s_cnt (s_ft L) 64) = 0 then -1 else (if (s_am (fun i => max (s_stp (s_ft L) (i + 1)) (s_cnt (s_ft L) 64 - s_stp (s_ft L) (i + 1))) (fun _ => true) 65 63).1 = 0 then -1 else nI (s_am (fun i => max (s_stp (s_ft L) (i + 1)) (s_cnt (s_ft L) 64 - s_stp (s_ft L) (i + 1))) (fun _ => true) 65 63).1), ?_, ?_⟩
            · intro μ w c hf hc e hC
              have hS := l_Sf hf2
              refine x_K.of (by decide) (Nat.le_of_ble_eq_true rfl) ?_
              show x_T sc 29 mX11_fits 0 [.ref 0, .int (nI f), .int (nI 1), .retAddr 0, .retAddr 0, .retAddr 0] [] μ w _
              refine xt_aload_n _ dX11_fits_0 rfl ?_
              refine xt_iload_n _ dX11_fits_1 rfl ?_
              refine xt_cV _ dX11_fits_2 klX11_166 (tX11_ledgerOf sc _ μ w f c hf hc e) sh0 rfl rfl (Nat.le_of_ble_eq_true rfl) ?_
              refine xt_astore_n dX11_fits_5 (by decide) rfl ?_
              change x_T _ _ _ _ [_, _, _, _, _, _] _ _ _ _
              refine xt_aload_n _ dX11_fits_6 rfl ?_
              refine xt_ifnull_r dX11_fits_7 ?_
              refine xt_iload_n _ dX11_fits_10 rfl ?_
              refine xt_if_ge 17 dX11_fits_11 (by decide) (fun _ => ?_) (fun q => absurd hge q)
              refine xt_aload_n _ dX11_fits_17 rfl ?_
              refine xt_cV _ dX11_fits_18 klX11_173 (tX4_fitting sc _ μ w hS hW hC) hS.1 rfl rfl (Nat.le_of_ble_eq_true rfl) ?_
              refine xt_lstore dX11_fits_21 (by decide) rfl ?_
              change x_T _ _ _ _ [_, _, _, _, _, _] _ _ _ _
              refine xt_iload_n _ dX11_fits_23 rfl ?_
              refine xt_if_ne 33 dX11_fits_24 (by decide) (fun _ => ?_) (fun q => absurd q (by decide))
              refine xt_iload_n _ dX11_fits_33 rfl ?_
              refine xt_iconst (1) dX11_fits_34 (by decide) ?_
              refine xt_icmp_ne 44 dX11_fits_35 (by decide) (fun q => absurd rfl q) (fun _ => ?_)
              refine xt_lload _ dX11_fits_38 rfl ?_
              refine xt_cS _ dX11_fits_40 klX11_183 (tX4_bestQuestion sc _ μ w (s_ft L)) rfl rfl (Nat.le_of_ble_eq_true rfl) ?_
              exact xt_iret .int dX11_fits_43 rfl (by first | rfl | assumption) ⟨rfl, x_keep.rf μ⟩
            · intro μ w c hf hc e hM
              refine x_K.of (by decide) (Nat.le_of_ble_eq_true rfl) ?_
              show x_T sc 29 mX12_fits 0 [.ref 152, .int (nI f), .int (nI 1)] [] μ w _
              refine xt_aload_n _ dX12_fits_0 rfl ?_
              refine xt_iconst (0) dX12_fits_1 (by decide) ?_
              refine xt_puti dX12_fits_2 kpX12_72 (by first | exact sh152 | rfl | assumption) rfl (by first | rfl | assumption) (by first | rfl | assumption) ?_
              refine xt_aload_n _ dX12_fits_5 rfl ?_
              refine xt_iload_n _ dX12_fits_6 rfl ?_
              refine xt_callV _ dX12_fits_7 klX12_458 (tX12_layLog sc _ (x_u μ 152 (upd (μ 152) 0 0)) w f c L hf hc e hW hM) sh152 rfl rfl (Nat.le_of_ble_eq_true rfl) (fun r1 μ1 w1 q1 => ?_)
              obtain ⟨rfl, hG, hfr⟩ := q1
              change x_T _ _ _ _ _ (.int 1 :: _) _ _ _
              have e49 : μ1 152 49 = nI (s_cnt (s_ft L) 64) := hG.2.2.1
              refine xt_if_ne 16 dX12_fits_10 (by decide) (fun _ => ?_) (fun q => absurd q (by decide))
              refine xt_iload_n _ dX12_fits_16 rfl ?_
              refine xt_bipush (10) dX12_fits_17 (by decide) ?_
              refine xt_icmp_lt 48 dX12_fits_19 (by decide) (fun _ => ?_) (fun q => absurd (by decide) q)
              refine xt_iload_n _ dX12_fits_48 rfl ?_
              refine xt_iconst (2) dX12_fits_49 (by decide) ?_
              refine xt_bipush (7) dX12_fits_50 (by decide) ?_
              refine xt_cS _ dX12_fits_52 klX12_84 (tX12_in sc _ _ _ _ _ _) rfl rfl (Nat.le_of_ble_eq_true rfl) ?_
              refine xt_if_eq 66 dX12_fits_55 (by decide) (fun _ => ?_) (fun q => absurd (by decide) q)
              refine xt_iload_n _ dX12_fits_66 rfl ?_
              refine xt_if_ne 77 dX12_fits_67 (by decide) (fun _ => ?_) (fun q => absurd q (by decide))
              refine xt_iload_n _ dX12_fits_77 rfl ?_
              refine xt_iconst (1) dX12_fits_78 (by decide) ?_
              refine xt_icmp_ne 89 dX12_fits_79 (by decide) (fun q => absurd rfl q) (fun _ => ?_)
              refine xt_aload_n _ dX12_fits_82 rfl ?_
              refine xt_cV _ dX12_fits_83 klX12_464 (tX12_askWhat_0 sc _ μ1 _ f L hf2 hW hG hz) sh152 rfl rfl (Nat.le_of_ble_eq_true rfl) ?_
              refine xt_goto 91 dX12_fits_86 (by decide) ?_
              exact xt_iret .int dX12_fits_91 rfl (by first | rfl | assumption) ⟨by rw [if_pos hz], (fun a ha => by rw [hfr a (by unfold x_ok at ha; omega) (by unfold x_ok at ha; omega), x_u_ne (by unfold x_ok at ha; omega)])⟩
          · have hlim := s_am_lim (v := (fun i => max (s_stp (s_ft L) (i + 1)) (s_cnt (s_ft L) 64 - s_stp (s_ft L) (i + 1)))) (ok := fun _ => true) (a := 65) (b := 1000000) 63 (fun i _ => by have := s_fd1_le (s_ft L) (i + 1) 64; have h2 : s_stp (s_ft L) (i + 1) ≤ 64 := Nat.le_trans this hc64; show max (s_stp (s_ft L) (i + 1)) ((s_cnt (s_ft L) 64) - s_stp (s_ft L) (i + 1)) < 65 ∧ max (s_stp (s_ft L) (i + 1)) ((s_cnt (s_ft L) 64) - s_stp (s_ft L) (i + 1)) < 1000000; omega)
            refine ⟨if (s_cnt (s_ft L) 64) = 0 then -1 else (if (s_am (fun i => max (s_stp (s_ft L) (i + 1)) (s_cnt (s_ft L) 64 - s_stp (s_ft L) (i + 1))) (fun _ => true) 65 63).1 = 0 then -1 else nI (s_am (fun i => max (s_stp (s_ft L) (i + 1)) (s_cnt (s_ft L) 64 - s_stp (s_ft L) (i + 1))) (fun _ => true) 65 63).1), ?_, ?_⟩
            · intro μ w c hf hc e hC
              have hS := l_Sf hf2
              refine x_K.of (by decide) (Nat.le_of_ble_eq_true rfl) ?_
              show x_T sc 29 mX11_fits 0 [.ref 0, .int (nI f), .int (nI 1), .retAddr 0, .retAddr 0, .retAddr 0] [] μ w _
              refine xt_aload_n _ dX11_fits_0 rfl ?_
              refine xt_iload_n _ dX11_fits_1 rfl ?_
              refine xt_cV _ dX11_fits_2 klX11_166 (tX11_ledgerOf sc _ μ w f c hf hc e) sh0 rfl rfl (Nat.le_of_ble_eq_true rfl) ?_
              refine xt_astore_n dX11_fits_5 (by decide) rfl ?_
              change x_T _ _ _ _ [_, _, _, _, _, _] _ _ _ _
              refine xt_aload_n _ dX11_fits_6 rfl ?_
              refine xt_ifnull_r dX11_fits_7 ?_
              refine xt_iload_n _ dX11_fits_10 rfl ?_
              refine xt_if_ge 17 dX11_fits_11 (by decide) (fun _ => ?_) (fun q => absurd hge q)
              refine xt_aload_n _ dX11_fits_17 rfl ?_
              refine xt_cV _ dX11_fits_18 klX11_173 (tX4_fitting sc _ μ w hS hW hC) hS.1 rfl rfl (Nat.le_of_ble_eq_true rfl) ?_
              refine xt_lstore dX11_fits_21 (by decide) rfl ?_
              change x_T _ _ _ _ [_, _, _, _, _, _] _ _ _ _
              refine xt_iload_n _ dX11_fits_23 rfl ?_
              refine xt_if_ne 33 dX11_fits_24 (by decide) (fun _ => ?_) (fun q => absurd q (by decide))
              refine xt_iload_n _ dX11_fits_33 rfl ?_
              refine xt_iconst (1) dX11_fits_34 (by decide) ?_
              refine xt_icmp_ne 44 dX11_fits_35 (by decide) (fun q => absurd rfl q) (fun _ => ?_)
              refine xt_lload _ dX11_fits_38 rfl ?_
              refine xt_cS _ dX11_fits_40 klX11_183 (tX4_bestQuestion sc _ μ w (s_ft L)) rfl rfl (Nat.le_of_ble_eq_true rfl) ?_
              exact xt_iret .int dX11_fits_43 rfl (by first | rfl | assumption) ⟨rfl, x_keep.rf μ⟩
            · intro μ w c hf hc e hM
              refine x_K.of (by decide) (Nat.le_of_ble_eq_true rfl) ?_
              show x_T sc 29 mX12_fits 0 [.ref 152, .int (nI f), .int (nI 1)] [] μ w _
              refine xt_aload_n _ dX12_fits_0 rfl ?_
              refine xt_iconst (0) dX12_fits_1 (by decide) ?_
              refine xt_puti dX12_fits_2 kpX12_72 (by first | exact sh152 | rfl | assumption) rfl (by first | rfl | assumption) (by first | rfl | assumption) ?_
              refine xt_aload_n _ dX12_fits_5 rfl ?_
              refine xt_iload_n _ dX12_fits_6 rfl ?_
              refine xt_callV _ dX12_fits_7 klX12_458 (tX12_layLog sc _ (x_u μ 152 (upd (μ 152) 0 0)) w f c L hf hc e hW hM) sh152 rfl rfl (Nat.le_of_ble_eq_true rfl) (fun r1 μ1 w1 q1 => ?_)
              obtain ⟨rfl, hG, hfr⟩ := q1
              change x_T _ _ _ _ _ (.int 1 :: _) _ _ _
              have e49 : μ1 152 49 = nI (s_cnt (s_ft L) 64) := hG.2.2.1
              refine xt_if_ne 16 dX12_fits_10 (by decide) (fun _ => ?_) (fun q => absurd q (by decide))
              refine xt_iload_n _ dX12_fits_16 rfl ?_
              refine xt_bipush (10) dX12_fits_17 (by decide) ?_
              refine xt_icmp_lt 48 dX12_fits_19 (by decide) (fun _ => ?_) (fun q => absurd (by decide) q)
              refine xt_iload_n _ dX12_fits_48 rfl ?_
              refine xt_iconst (2) dX12_fits_49 (by decide) ?_
              refine xt_bipush (7) dX12_fits_50 (by decide) ?_
              refine xt_cS _ dX12_fits_52 klX12_84 (tX12_in sc _ _ _ _ _ _) rfl rfl (Nat.le_of_ble_eq_true rfl) ?_
              refine xt_if_eq 66 dX12_fits_55 (by decide) (fun _ => ?_) (fun q => absurd (by decide) q)
              refine xt_iload_n _ dX12_fits_66 rfl ?_
              refine xt_if_ne 77 dX12_fits_67 (by decide) (fun _ => ?_) (fun q => absurd q (by decide))
              refine xt_iload_n _ dX12_fits_77 rfl ?_
              refine xt_iconst (1) dX12_fits_78 (by decide) ?_
              refine xt_icmp_ne 89 dX12_fits_79 (by decide) (fun q => absurd rfl q) (fun _ => ?_)
              refine xt_aload_n _ dX12_fits_82 rfl ?_
              refine xt_cV _ dX12_fits_83 klX12_464 (tX12_askWhat sc _ μ1 _ f L hf2 hW hG hz) sh152 rfl rfl (Nat.le_of_ble_eq_true rfl) ?_
              refine xt_goto 91 dX12_fits_86 (by decide) ?_
              exact xt_iret .int dX12_fits_91 rfl (by first | rfl | assumption) ⟨by rw [if_neg hz, hlim.1], (fun a ha => by rw [hfr a (by unfold x_ok at ha; omega) (by unfold x_ok at ha; omega), x_u_ne (by unfold x_ok at ha; omega)])⟩
        · by_cases h8 : n < 8
          · skip
            refine ⟨(if (s_cnt (s_ft L) 64) = 0 then -1 else if s_stp (s_ft L) (2 ^ (n - 2)) = (s_cnt (s_ft L) 64) then 1 else if s_stp (s_ft L) (2 ^ (n - 2)) = 0 then 0 else -1), ?_, ?_⟩
            · intro μ w c hf hc e hC
              have hS := l_Sf hf2
              refine x_K.of (by decide) (Nat.le_of_ble_eq_true rfl) ?_
              show x_T sc 29 mX11_fits 0 [.ref 0, .int (nI f), .int (nI n), .retAddr 0, .retAddr 0, .retAddr 0] [] μ w _
              refine xt_aload_n _ dX11_fits_0 rfl ?_
              refine xt_iload_n _ dX11_fits_1 rfl ?_
              refine xt_cV _ dX11_fits_2 klX11_166 (tX11_ledgerOf sc _ μ w f c hf hc e) sh0 rfl rfl (Nat.le_of_ble_eq_true rfl) ?_
              refine xt_astore_n dX11_fits_5 (by decide) rfl ?_
              change x_T _ _ _ _ [_, _, _, _, _, _] _ _ _ _
              refine xt_aload_n _ dX11_fits_6 rfl ?_
              refine xt_ifnull_r dX11_fits_7 ?_
              refine xt_iload_n _ dX11_fits_10 rfl ?_
              refine xt_if_ge 17 dX11_fits_11 (by decide) (fun _ => ?_) (fun q => absurd hge q)
              refine xt_aload_n _ dX11_fits_17 rfl ?_
              refine xt_cV _ dX11_fits_18 klX11_173 (tX4_fitting sc _ μ w hS hW hC) hS.1 rfl rfl (Nat.le_of_ble_eq_true rfl) ?_
              refine xt_lstore dX11_fits_21 (by decide) rfl ?_
              change x_T _ _ _ _ [_, _, _, _, _, _] _ _ _ _
              refine xt_iload_n _ dX11_fits_23 rfl ?_
              refine xt_if_ne 33 dX11_fits_24 (by decide) (fun _ => ?_) (fun q => absurd q (fun z => h0 ((nI_eq (by omega) (by decide)).mp z)))
              refine xt_iload_n _ dX11_fits_33 rfl ?_
              refine xt_iconst (1) dX11_fits_34 (by decide) ?_
              refine xt_icmp_ne 44 dX11_fits_35 (by decide) (fun _ => ?_) (fun q => absurd q (fun z => h1 ((nI_eq (b := 1) (by omega) (by decide)).mp z)))
              refine xt_iload_n _ dX11_fits_44 rfl ?_
              refine xt_bipush (8) dX11_fits_45 (by decide) ?_
              refine xt_icmp_ge 59 dX11_fits_47 (by decide) (fun q => absurd q (nI_ge (b := 8) h8 (by decide))) (fun _ => ?_)
              refine xt_lload _ dX11_fits_50 rfl ?_
              refine xt_iload_n _ dX11_fits_52 rfl ?_
              refine xt_iconst (2) dX11_fits_53 (by decide) ?_
              refine xt_isub dX11_fits_54 ?_
              rw [show nI n - (2 : Int32) = nI (n - 2) from pk_sub (b := 2) (by omega)]
              refine xt_cS _ dX11_fits_55 klX11_186 (tX4_sure sc _ μ w (s_ft L) (n - 2) (by omega)) rfl rfl (Nat.le_of_ble_eq_true rfl) ?_
              exact xt_iret .int dX11_fits_58 rfl (by first | rfl | assumption) ⟨rfl, x_keep.rf μ⟩
            · intro μ w c hf hc e hM
              refine x_K.of (by decide) (Nat.le_of_ble_eq_true rfl) ?_
              show x_T sc 29 mX12_fits 0 [.ref 152, .int (nI f), .int (nI n)] [] μ w _
              refine xt_aload_n _ dX12_fits_0 rfl ?_
              refine xt_iconst (0) dX12_fits_1 (by decide) ?_
              refine xt_puti dX12_fits_2 kpX12_72 (by first | exact sh152 | rfl | assumption) rfl (by first | rfl | assumption) (by first | rfl | assumption) ?_
              refine xt_aload_n _ dX12_fits_5 rfl ?_
              refine xt_iload_n _ dX12_fits_6 rfl ?_
              refine xt_callV _ dX12_fits_7 klX12_458 (tX12_layLog sc _ (x_u μ 152 (upd (μ 152) 0 0)) w f c L hf hc e hW hM) sh152 rfl rfl (Nat.le_of_ble_eq_true rfl) (fun r1 μ1 w1 q1 => ?_)
              obtain ⟨rfl, hG, hfr⟩ := q1
              change x_T _ _ _ _ _ (.int 1 :: _) _ _ _
              have e49 : μ1 152 49 = nI (s_cnt (s_ft L) 64) := hG.2.2.1
              refine xt_if_ne 16 dX12_fits_10 (by decide) (fun _ => ?_) (fun q => absurd q (by decide))
              refine xt_iload_n _ dX12_fits_16 rfl ?_
              refine xt_bipush (10) dX12_fits_17 (by decide) ?_
              refine xt_icmp_lt 48 dX12_fits_19 (by decide) (fun _ => ?_) (fun q => absurd (nI_lt (b := 10) (by omega) (by decide)) q)
              refine xt_iload_n _ dX12_fits_48 rfl ?_
              refine xt_iconst (2) dX12_fits_49 (by decide) ?_
              refine xt_bipush (7) dX12_fits_50 (by decide) ?_
              refine xt_cS _ dX12_fits_52 klX12_84 (tX12_in sc _ _ _ _ _ _) rfl rfl (Nat.le_of_ble_eq_true rfl) ?_
              refine xt_if_eq 66 dX12_fits_55 (by decide) (fun q => absurd q (s_in_r (a := 2) (b := 7) (n := n) (by omega) (by omega) (by omega) (by decide))) (fun _ => ?_)
              refine xt_aload_n _ dX12_fits_58 rfl ?_
              refine xt_iload_n _ dX12_fits_59 rfl ?_
              refine xt_iconst (2) dX12_fits_60 (by decide) ?_
              refine xt_isub dX12_fits_61 ?_
              rw [show nI n - (2 : Int32) = nI (n - 2) from pk_sub (b := 2) (by omega)]
              refine xt_cV _ dX12_fits_62 klX12_461 (tX12_sure sc _ μ1 _ f L hf2 hW hG (n - 2) (by omega)) sh152 rfl rfl (Nat.le_of_ble_eq_true rfl) ?_
              exact xt_iret .int dX12_fits_65 rfl (by first | rfl | assumption) ⟨rfl, (fun a ha => by rw [hfr a (by unfold x_ok at ha; omega) (by unfold x_ok at ha; omega), x_u_ne (by unfold x_ok at ha; omega)])⟩
          · by_cases h10 : n < 10
            · skip
              refine ⟨-2, ?_, ?_⟩
              · intro μ w c hf hc e hC
                have hS := l_Sf hf2
                refine x_K.of (by decide) (Nat.le_of_ble_eq_true rfl) ?_
                show x_T sc 29 mX11_fits 0 [.ref 0, .int (nI f), .int (nI n), .retAddr 0, .retAddr 0, .retAddr 0] [] μ w _
                refine xt_aload_n _ dX11_fits_0 rfl ?_
                refine xt_iload_n _ dX11_fits_1 rfl ?_
                refine xt_cV _ dX11_fits_2 klX11_166 (tX11_ledgerOf sc _ μ w f c hf hc e) sh0 rfl rfl (Nat.le_of_ble_eq_true rfl) ?_
                refine xt_astore_n dX11_fits_5 (by decide) rfl ?_
                change x_T _ _ _ _ [_, _, _, _, _, _] _ _ _ _
                refine xt_aload_n _ dX11_fits_6 rfl ?_
                refine xt_ifnull_r dX11_fits_7 ?_
                refine xt_iload_n _ dX11_fits_10 rfl ?_
                refine xt_if_ge 17 dX11_fits_11 (by decide) (fun _ => ?_) (fun q => absurd hge q)
                refine xt_aload_n _ dX11_fits_17 rfl ?_
                refine xt_cV _ dX11_fits_18 klX11_173 (tX4_fitting sc _ μ w hS hW hC) hS.1 rfl rfl (Nat.le_of_ble_eq_true rfl) ?_
                refine xt_lstore dX11_fits_21 (by decide) rfl ?_
                change x_T _ _ _ _ [_, _, _, _, _, _] _ _ _ _
                refine xt_iload_n _ dX11_fits_23 rfl ?_
                refine xt_if_ne 33 dX11_fits_24 (by decide) (fun _ => ?_) (fun q => absurd q (fun z => h0 ((nI_eq (by omega) (by decide)).mp z)))
                refine xt_iload_n _ dX11_fits_33 rfl ?_
                refine xt_iconst (1) dX11_fits_34 (by decide) ?_
                refine xt_icmp_ne 44 dX11_fits_35 (by decide) (fun _ => ?_) (fun q => absurd q (fun z => h1 ((nI_eq (b := 1) (by omega) (by decide)).mp z)))
                refine xt_iload_n _ dX11_fits_44 rfl ?_
                refine xt_bipush (8) dX11_fits_45 (by decide) ?_
                refine xt_icmp_ge 59 dX11_fits_47 (by decide) (fun _ => ?_) (fun q => absurd (nI_le (a := 8) (by omega) (by omega)) q)
                refine xt_iload_n _ dX11_fits_59 rfl ?_
                refine xt_bipush (10) dX11_fits_60 (by decide) ?_
                refine xt_icmp_ge 70 dX11_fits_62 (by decide) (fun q => absurd q (nI_ge (b := 10) h10 (by decide))) (fun _ => ?_)
                refine xt_bipush (-2) dX11_fits_65 (by decide) ?_
                refine xt_goto 79 dX11_fits_67 (by decide) ?_
                exact xt_iret .int dX11_fits_79 rfl (by first | rfl | assumption) ⟨rfl, x_keep.rf μ⟩
              · intro μ w c hf hc e hM
                refine x_K.of (by decide) (Nat.le_of_ble_eq_true rfl) ?_
                show x_T sc 29 mX12_fits 0 [.ref 152, .int (nI f), .int (nI n)] [] μ w _
                refine xt_aload_n _ dX12_fits_0 rfl ?_
                refine xt_iconst (0) dX12_fits_1 (by decide) ?_
                refine xt_puti dX12_fits_2 kpX12_72 (by first | exact sh152 | rfl | assumption) rfl (by first | rfl | assumption) (by first | rfl | assumption) ?_
                refine xt_aload_n _ dX12_fits_5 rfl ?_
                refine xt_iload_n _ dX12_fits_6 rfl ?_
                refine xt_callV _ dX12_fits_7 klX12_458 (tX12_layLog sc _ (x_u μ 152 (upd (μ 152) 0 0)) w f c L hf hc e hW hM) sh152 rfl rfl (Nat.le_of_ble_eq_true rfl) (fun r1 μ1 w1 q1 => ?_)
                obtain ⟨rfl, hG, hfr⟩ := q1
                change x_T _ _ _ _ _ (.int 1 :: _) _ _ _
                have e49 : μ1 152 49 = nI (s_cnt (s_ft L) 64) := hG.2.2.1
                refine xt_if_ne 16 dX12_fits_10 (by decide) (fun _ => ?_) (fun q => absurd q (by decide))
                refine xt_iload_n _ dX12_fits_16 rfl ?_
                refine xt_bipush (10) dX12_fits_17 (by decide) ?_
                refine xt_icmp_lt 48 dX12_fits_19 (by decide) (fun _ => ?_) (fun q => absurd (nI_lt (b := 10) (by omega) (by decide)) q)
                refine xt_iload_n _ dX12_fits_48 rfl ?_
                refine xt_iconst (2) dX12_fits_49 (by decide) ?_
                refine xt_bipush (7) dX12_fits_50 (by decide) ?_
                refine xt_cS _ dX12_fits_52 klX12_84 (tX12_in sc _ _ _ _ _ _) rfl rfl (Nat.le_of_ble_eq_true rfl) ?_
                refine xt_if_eq 66 dX12_fits_55 (by decide) (fun _ => ?_) (fun q => absurd (s_in_r0 (a := 2) (b := 7) (n := n) (by omega) (by omega) (by decide) (by decide)) q)
                refine xt_iload_n _ dX12_fits_66 rfl ?_
                refine xt_if_ne 77 dX12_fits_67 (by decide) (fun _ => ?_) (fun q => absurd q (fun z => h0 ((nI_eq (by omega) (by decide)).mp z)))
                refine xt_iload_n _ dX12_fits_77 rfl ?_
                refine xt_iconst (1) dX12_fits_78 (by decide) ?_
                refine xt_icmp_ne 89 dX12_fits_79 (by decide) (fun _ => ?_) (fun q => absurd q (fun z => h1 ((nI_eq (b := 1) (by omega) (by decide)).mp z)))
                refine xt_bipush (-2) dX12_fits_89 (by decide) ?_
                exact xt_iret .int dX12_fits_91 rfl (by first | rfl | assumption) ⟨rfl, (fun a ha => by rw [hfr a (by unfold x_ok at ha; omega) (by unfold x_ok at ha; omega), x_u_ne (by unfold x_ok at ha; omega)])⟩
            · skip
              refine ⟨(if n - 10 < (s_cnt (s_ft L) 64) then nI ((s_gi (s_ft L) 64) (n - 10)) else -2), ?_, ?_⟩
              · intro μ w c hf hc e hC
                have hS := l_Sf hf2
                refine x_K.of (by decide) (Nat.le_of_ble_eq_true rfl) ?_
                show x_T sc 29 mX11_fits 0 [.ref 0, .int (nI f), .int (nI n), .retAddr 0, .retAddr 0, .retAddr 0] [] μ w _
                refine xt_aload_n _ dX11_fits_0 rfl ?_
                refine xt_iload_n _ dX11_fits_1 rfl ?_
                refine xt_cV _ dX11_fits_2 klX11_166 (tX11_ledgerOf sc _ μ w f c hf hc e) sh0 rfl rfl (Nat.le_of_ble_eq_true rfl) ?_
                refine xt_astore_n dX11_fits_5 (by decide) rfl ?_
                change x_T _ _ _ _ [_, _, _, _, _, _] _ _ _ _
                refine xt_aload_n _ dX11_fits_6 rfl ?_
                refine xt_ifnull_r dX11_fits_7 ?_
                refine xt_iload_n _ dX11_fits_10 rfl ?_
                refine xt_if_ge 17 dX11_fits_11 (by decide) (fun _ => ?_) (fun q => absurd hge q)
                refine xt_aload_n _ dX11_fits_17 rfl ?_
                refine xt_cV _ dX11_fits_18 klX11_173 (tX4_fitting sc _ μ w hS hW hC) hS.1 rfl rfl (Nat.le_of_ble_eq_true rfl) ?_
                refine xt_lstore dX11_fits_21 (by decide) rfl ?_
                change x_T _ _ _ _ [_, _, _, _, _, _] _ _ _ _
                refine xt_iload_n _ dX11_fits_23 rfl ?_
                refine xt_if_ne 33 dX11_fits_24 (by decide) (fun _ => ?_) (fun q => absurd q (fun z => h0 ((nI_eq (by omega) (by decide)).mp z)))
                refine xt_iload_n _ dX11_fits_33 rfl ?_
                refine xt_iconst (1) dX11_fits_34 (by decide) ?_
                refine xt_icmp_ne 44 dX11_fits_35 (by decide) (fun _ => ?_) (fun q => absurd q (fun z => h1 ((nI_eq (b := 1) (by omega) (by decide)).mp z)))
                refine xt_iload_n _ dX11_fits_44 rfl ?_
                refine xt_bipush (8) dX11_fits_45 (by decide) ?_
                refine xt_icmp_ge 59 dX11_fits_47 (by decide) (fun _ => ?_) (fun q => absurd (nI_le (a := 8) (by omega) (by omega)) q)
                refine xt_iload_n _ dX11_fits_59 rfl ?_
                refine xt_bipush (10) dX11_fits_60 (by decide) ?_
                refine xt_icmp_ge 70 dX11_fits_62 (by decide) (fun _ => ?_) (fun q => absurd (nI_le (a := 10) (by omega) (by omega)) q)
                refine xt_lload _ dX11_fits_70 rfl ?_
                refine xt_iload_n _ dX11_fits_72 rfl ?_
                refine xt_bipush (10) dX11_fits_73 (by decide) ?_
                refine xt_isub dX11_fits_75 ?_
                rw [show nI n - (10 : Int32) = nI (n - 10) from pk_sub (b := 10) (by omega)]
                refine xt_cS _ dX11_fits_76 klX11_190 (tX4_heartAt sc _ μ w (s_ft L) (n - 10) (by omega)) rfl rfl (Nat.le_of_ble_eq_true rfl) ?_
                exact xt_iret .int dX11_fits_79 rfl (by first | rfl | assumption) ⟨rfl, x_keep.rf μ⟩
              · intro μ w c hf hc e hM
                refine x_K.of (by decide) (Nat.le_of_ble_eq_true rfl) ?_
                show x_T sc 29 mX12_fits 0 [.ref 152, .int (nI f), .int (nI n)] [] μ w _
                refine xt_aload_n _ dX12_fits_0 rfl ?_
                refine xt_iconst (0) dX12_fits_1 (by decide) ?_
                refine xt_puti dX12_fits_2 kpX12_72 (by first | exact sh152 | rfl | assumption) rfl (by first | rfl | assumption) (by first | rfl | assumption) ?_
                refine xt_aload_n _ dX12_fits_5 rfl ?_
                refine xt_iload_n _ dX12_fits_6 rfl ?_
                refine xt_callV _ dX12_fits_7 klX12_458 (tX12_layLog sc _ (x_u μ 152 (upd (μ 152) 0 0)) w f c L hf hc e hW hM) sh152 rfl rfl (Nat.le_of_ble_eq_true rfl) (fun r1 μ1 w1 q1 => ?_)
                obtain ⟨rfl, hG, hfr⟩ := q1
                change x_T _ _ _ _ _ (.int 1 :: _) _ _ _
                have e49 : μ1 152 49 = nI (s_cnt (s_ft L) 64) := hG.2.2.1
                refine xt_if_ne 16 dX12_fits_10 (by decide) (fun _ => ?_) (fun q => absurd q (by decide))
                refine xt_iload_n _ dX12_fits_16 rfl ?_
                refine xt_bipush (10) dX12_fits_17 (by decide) ?_
                refine xt_icmp_lt 48 dX12_fits_19 (by decide) (fun q => absurd q (nI_nlt (b := 10) (by omega) (by omega))) (fun _ => ?_)
                refine xt_iload_n _ dX12_fits_22 rfl ?_
                refine xt_bipush (10) dX12_fits_23 (by decide) ?_
                refine xt_isub dX12_fits_25 ?_
                refine xt_aload_n _ dX12_fits_26 rfl ?_
                refine xt_geti dX12_fits_27 kfX12_446 (by first | exact sh152 | rfl | assumption) rfl ?_
                rw [e49, show nI n - (10 : Int32) = nI (n - 10) from pk_sub (b := 10) (by omega)]
                refine xt_icmp_ge 45 dX12_fits_30 (by decide) (fun t30 => ?_) (fun f30 => ?_)
                · have n30 : (s_cnt (s_ft L) 64) ≤ (n - 10) := (nI_leI (a := (s_cnt (s_ft L) 64)) (b := (n - 10)) (by omega) (by omega)).mp t30
                  refine xt_bipush (-2) dX12_fits_45 (by decide) ?_
                  exact xt_iret .int dX12_fits_47 rfl (by first | rfl | assumption) ⟨by rw [if_neg (by omega)], (fun a ha => by rw [hfr a (by unfold x_ok at ha; omega) (by unfold x_ok at ha; omega), x_u_ne (by unfold x_ok at ha; omega)])⟩
                · have n30 : ¬ ((s_cnt (s_ft L) 64) ≤ (n - 10)) := fun z => f30 ((nI_leI (a := (s_cnt (s_ft L) 64)) (b := (n - 10)) (by omega) (by omega)).mpr z)
                  refine xt_aload_n _ dX12_fits_33 rfl ?_
                  refine xt_getr _ dX12_fits_34 kfX12_62 (by first | exact sh152 | rfl | assumption) rfl ?_
                  refine xt_iload_n _ dX12_fits_37 rfl ?_
                  refine xt_bipush (10) dX12_fits_38 (by decide) ?_
                  refine xt_isub dX12_fits_40 ?_
                  rw [show nI n - (10 : Int32) = nI (n - 10) from pk_sub (b := 10) (by omega)]
                  refine xt_ald dX12_fits_41 (by first | exact sh152 | rfl | assumption) (by exact vp_in_nI (by omega) (by decide)) ?_
                  refine xt_goto 47 dX12_fits_42 (by decide) ?_
                  exact xt_iret .int dX12_fits_47 rfl (by first | rfl | assumption) ⟨by rw [if_pos (by omega), nI_clamp (by omega), hG.2.2.2.1 _ (by omega)], (fun a ha => by rw [hfr a (by unfold x_ok at ha; omega) (by unfold x_ok at ha; omega), x_u_ne (by unfold x_ok at ha; omega)])⟩
theorem s_le63 {a : Int32} (h : a < 64) : a ≤ nI 63 := by
  rw [Int32.le_iff_toInt_le]
  rw [Int32.lt_iff_toInt_lt] at h
  have h1 : (64 : Int32).toInt = 64 := by decide
  have h2 : (nI 63).toInt = 63 := by decide
  omega
set_option maxHeartbeats 2000000 in
theorem st_odds (sc : Nat × (Nat → Int32)) (a1 a2 u : Int32) : x_stI sc (fun μ _ => x_Inv μ) (fun μ _ => x_Inv μ) mX11_odds mX12_odds [.int a1, .int a2, .int u] := by
  refine x_stO (-1) ?_ ?_ ?_
  · intro μ w c hc e hk
    refine x_K.of (by decide) (Nat.le_of_ble_eq_true rfl) ?_
    show x_T sc 29 mX11_odds 0 [.ref 0, .int a1, .int a2, .int u, .retAddr 0, .retAddr 0, .retAddr 0] [] μ w _
    refine xt_aload_n _ dX11_odds_0 rfl ?_
    refine xt_iload_n _ dX11_odds_1 rfl ?_
    refine xt_cV _ dX11_odds_2 klX11_166 (tX11_ledgerOf_no sc _ μ w c hc e _ hk) sh0 rfl rfl (Nat.le_of_ble_eq_true rfl) ?_
    refine xt_astore0 dX11_odds_5 (by decide) rfl ?_
    change x_T _ _ _ _ [_, _, _, _, _, _, _] _ _ _ _
    refine xt_aload0 dX11_odds_7 rfl ?_
    refine xt_ifnull_n 22 dX11_odds_9 (by decide) ?_
    refine xt_iconst (-1) dX11_odds_22 (by decide) ?_
    exact xt_iret .int dX11_odds_23 rfl (by first | rfl | assumption) ⟨rfl, x_keep.rf μ⟩
  · intro μ w c hc e hk
    refine x_K.of (by decide) (Nat.le_of_ble_eq_true rfl) ?_
    show x_T sc 29 mX12_odds 0 [.ref 152, .int a1, .int a2, .int u] [] μ w _
    refine xt_aload_n _ dX12_odds_0 rfl ?_
    refine xt_iconst (0) dX12_odds_1 (by decide) ?_
    refine xt_puti dX12_odds_2 kpX12_72 (by first | exact sh152 | rfl | assumption) rfl (by first | rfl | assumption) (by first | rfl | assumption) ?_
    refine xt_iload_n _ dX12_odds_5 rfl ?_
    refine xt_iconst (0) dX12_odds_6 (by decide) ?_
    refine xt_bipush (63) dX12_odds_7 (by decide) ?_
    refine xt_cS _ dX12_odds_9 klX12_84 (tX12_in sc _ _ w _ _ _) rfl rfl (Nat.le_of_ble_eq_true rfl) ?_
    refine xt_if_eq 30 dX12_odds_12 (by decide) (fun t12 => ?_) (fun f12 => ?_)
    · refine xt_iconst (-1) dX12_odds_30 (by decide) ?_
      exact xt_iret .int dX12_odds_31 rfl (by first | rfl | assumption) ⟨rfl, (x_keep.u (x_keep.rf μ) (by unfold x_ok; omega))⟩
    · refine xt_aload_n _ dX12_odds_15 rfl ?_
      refine xt_iload_n _ dX12_odds_16 rfl ?_
      refine xt_cV _ dX12_odds_17 klX12_458 (tX12_layLog_no sc _ (x_u μ 152 (upd (μ 152) 0 0)) w c hc _ hk e) sh152 rfl rfl (Nat.le_of_ble_eq_true rfl) ?_
      refine xt_if_eq 30 dX12_odds_20 (by decide) (fun _ => ?_) (fun q => absurd (by decide) q)
      refine xt_iconst (-1) dX12_odds_30 (by decide) ?_
      exact xt_iret .int dX12_odds_31 rfl (by first | rfl | assumption) ⟨rfl, (x_keep.u (x_keep.u (x_keep.rf μ) (by unfold x_ok; omega)) (by unfold x_ok; omega))⟩
  · intro f L hf2 hkk hW
    subst hkk
    have hc64 := s_cnt_le (s_ft L) 64
    by_cases hr : 0 ≤ a2 ∧ a2 ≤ nI 63
    · obtain ⟨K, hK, rfl⟩ := x_rng (N := 63) (by decide) hr
      have hst : (s_stp (s_ft L) K) ≤ (s_cnt (s_ft L) 64) := s_fd1_le (s_ft L) K 64
      refine ⟨if (s_cnt (s_ft L) 64) = 0 then -1 else nI (if u = 0 then (s_stp (s_ft L) K) / Nat.gcd (s_stp (s_ft L) K) (s_cnt (s_ft L) 64) else (s_cnt (s_ft L) 64) / Nat.gcd (s_stp (s_ft L) K) (s_cnt (s_ft L) 64)), ?_, ?_⟩
      · intro μ w c hf hc e hC
        have hS := l_Sf hf2
        refine x_K.of (by decide) (Nat.le_of_ble_eq_true rfl) ?_
        show x_T sc 29 mX11_odds 0 [.ref 0, .int (nI f), .int (nI K), .int u, .retAddr 0, .retAddr 0, .retAddr 0] [] μ w _
        refine xt_aload_n _ dX11_odds_0 rfl ?_
        refine xt_iload_n _ dX11_odds_1 rfl ?_
        refine xt_cV _ dX11_odds_2 klX11_166 (tX11_ledgerOf sc _ μ w f c hf hc e) sh0 rfl rfl (Nat.le_of_ble_eq_true rfl) ?_
        refine xt_astore dX11_odds_5 (by decide) rfl ?_
        change x_T _ _ _ _ [_, _, _, _, _, _, _] _ _ _ _
        refine xt_aload _ dX11_odds_7 rfl ?_
        refine xt_ifnull_r dX11_odds_9 ?_
        refine xt_iload_n _ dX11_odds_12 rfl ?_
        refine xt_if_lt 22 dX11_odds_13 (by decide) (fun q => absurd q (nI_pos (by omega))) (fun _ => ?_)
        refine xt_iload_n _ dX11_odds_16 rfl ?_
        refine xt_bipush (64) dX11_odds_17 (by decide) ?_
        refine xt_icmp_lt 24 dX11_odds_19 (by decide) (fun _ => ?_) (fun q => absurd (nI_lt (b := 64) (by omega) (by decide)) q)
        refine xt_aload _ dX11_odds_24 rfl ?_
        refine xt_cV _ dX11_odds_26 klX11_173 (tX4_fitting sc _ μ w hS hW hC) hS.1 rfl rfl (Nat.le_of_ble_eq_true rfl) ?_
        refine xt_lstore dX11_odds_29 (by decide) rfl ?_
        change x_T _ _ _ _ [_, _, _, _, _, _, _] _ _ _ _
        refine xt_lload _ dX11_odds_31 rfl ?_
        refine xt_lconst (0) dX11_odds_33 (by decide) ?_
        refine xt_lcmp dX11_odds_34 ?_
        refine xt_if_ne 42 dX11_odds_35 (by decide) (fun t35 => ?_) (fun f35 => ?_)
        · refine xt_lload _ dX11_odds_42 rfl ?_
          refine xt_iload_n _ dX11_odds_44 rfl ?_
          refine xt_cS _ dX11_odds_45 klX11_317 (tX4_stopping sc _ μ w (s_ft L) K) rfl rfl (Nat.le_of_ble_eq_true rfl) ?_
          refine xt_i2l dX11_odds_48 ?_
          refine xt_lload _ dX11_odds_49 rfl ?_
          refine xt_cS _ dX11_odds_51 klX11_177 (tJ_bitCountL sc _ μ w (s_bits (s_ft L) 64) (s_bits_lt _ 64)) rfl rfl (Nat.le_of_ble_eq_true rfl) ?_
          rw [mb_bits]
          refine xt_i2l dX11_odds_54 ?_
          refine xt_iload_n _ dX11_odds_55 rfl ?_
          have hnz : ¬ (s_cnt (s_ft L) 64) = 0 := fun z => t35 (x_lcmp0.mpr ((lN_bits0 _).mpr z))
          rw [nI_l (by omega), nI_l (by omega)]
          refine xt_cS _ dX11_odds_56 klX11_237 (tX8_part sc _ μ w (s_stp (s_ft L) K) (s_cnt (s_ft L) 64) (by omega) (by omega) (by omega) u) rfl rfl (Nat.le_of_ble_eq_true rfl) ?_
          refine xt_l2i dX11_odds_59 ?_
          exact xt_iret .int dX11_odds_60 rfl (by first | rfl | assumption) ⟨by rw [if_neg hnz, lN_i], x_keep.rf μ⟩
        · refine xt_iconst (-1) dX11_odds_38 (by decide) ?_
          refine xt_goto 60 dX11_odds_39 (by decide) ?_
          exact xt_iret .int dX11_odds_60 rfl (by first | rfl | assumption) ⟨by rw [if_pos ((lN_bits0 _).mp (x_lcmp0.mp f35))], x_keep.rf μ⟩
      · intro μ w c hf hc e hM
        refine x_K.of (by decide) (Nat.le_of_ble_eq_true rfl) ?_
        show x_T sc 29 mX12_odds 0 [.ref 152, .int (nI f), .int (nI K), .int u] [] μ w _
        refine xt_aload_n _ dX12_odds_0 rfl ?_
        refine xt_iconst (0) dX12_odds_1 (by decide) ?_
        refine xt_puti dX12_odds_2 kpX12_72 (by first | exact sh152 | rfl | assumption) rfl (by first | rfl | assumption) (by first | rfl | assumption) ?_
        refine xt_iload_n _ dX12_odds_5 rfl ?_
        refine xt_iconst (0) dX12_odds_6 (by decide) ?_
        refine xt_bipush (63) dX12_odds_7 (by decide) ?_
        refine xt_cS _ dX12_odds_9 klX12_84 (tX12_in sc _ _ _ _ _ _) rfl rfl (Nat.le_of_ble_eq_true rfl) ?_
        refine xt_if_eq 30 dX12_odds_12 (by decide) (fun q => absurd q (s_in_nI (n := K) (N := 63) hK (by decide))) (fun _ => ?_)
        refine xt_aload_n _ dX12_odds_15 rfl ?_
        refine xt_iload_n _ dX12_odds_16 rfl ?_
        refine xt_callV _ dX12_odds_17 klX12_458 (tX12_layLog sc _ (x_u μ 152 (upd (μ 152) 0 0)) w f c L hf hc e hW hM) sh152 rfl rfl (Nat.le_of_ble_eq_true rfl) (fun r1 μ1 w1 q1 => ?_)
        obtain ⟨rfl, hG, hfr⟩ := q1
        change x_T _ _ _ _ _ (.int 1 :: _) _ _ _
        have e49 : μ1 152 49 = nI (s_cnt (s_ft L) 64) := hG.2.2.1
        refine xt_if_eq 30 dX12_odds_20 (by decide) (fun q => absurd q (by decide)) (fun _ => ?_)
        refine xt_aload_n _ dX12_odds_23 rfl ?_
        refine xt_geti dX12_odds_24 kfX12_446 (by first | exact sh152 | rfl | assumption) rfl ?_
        rw [e49]
        refine xt_if_ne 32 dX12_odds_27 (by decide) (fun t27 => ?_) (fun f27 => ?_)
        · have n27 : ¬ ((s_cnt (s_ft L) 64) = 0) := fun z => t27 ((nI_eq (a := (s_cnt (s_ft L) 64)) (b := 0) (by omega) (by omega)).mpr z)
          refine xt_aload_n _ dX12_odds_32 rfl ?_
          refine xt_iload_n _ dX12_odds_33 rfl ?_
          refine xt_cV _ dX12_odds_34 klX12_455 (tX12_manyHalt sc _ μ1 _ f L hf2 hW hG K) sh152 rfl rfl (Nat.le_of_ble_eq_true rfl) ?_
          refine xt_aload_n _ dX12_odds_37 rfl ?_
          refine xt_geti dX12_odds_38 kfX12_446 (by first | exact sh152 | rfl | assumption) rfl ?_
          refine xt_iload_n _ dX12_odds_41 rfl ?_
          rw [e49]
          refine xt_cS _ dX12_odds_42 klX12_373 (tX12_part sc _ μ1 _ (s_stp (s_ft L) K) (s_cnt (s_ft L) 64) (by omega) (by omega) (by omega) u) rfl rfl (Nat.le_of_ble_eq_true rfl) ?_
          exact xt_iret .int dX12_odds_45 rfl (by first | rfl | assumption) ⟨by rw [if_neg n27], (fun a ha => by rw [hfr a (by unfold x_ok at ha; omega) (by unfold x_ok at ha; omega), x_u_ne (by unfold x_ok at ha; omega)])⟩
        · have n27 : (s_cnt (s_ft L) 64) = 0 := (nI_eq (a := (s_cnt (s_ft L) 64)) (b := 0) (by omega) (by omega)).mp f27
          refine xt_iconst (-1) dX12_odds_30 (by decide) ?_
          exact xt_iret .int dX12_odds_31 rfl (by first | rfl | assumption) ⟨by rw [if_pos n27], (fun a ha => by rw [hfr a (by unfold x_ok at ha; omega) (by unfold x_ok at ha; omega), x_u_ne (by unfold x_ok at ha; omega)])⟩
    · skip
      refine ⟨-1, ?_, ?_⟩
      · intro μ w c hf hc e hC
        have hS := l_Sf hf2
        refine x_K.of (by decide) (Nat.le_of_ble_eq_true rfl) ?_
        show x_T sc 29 mX11_odds 0 [.ref 0, .int (nI f), .int a2, .int u, .retAddr 0, .retAddr 0, .retAddr 0] [] μ w _
        refine xt_aload_n _ dX11_odds_0 rfl ?_
        refine xt_iload_n _ dX11_odds_1 rfl ?_
        refine xt_cV _ dX11_odds_2 klX11_166 (tX11_ledgerOf sc _ μ w f c hf hc e) sh0 rfl rfl (Nat.le_of_ble_eq_true rfl) ?_
        refine xt_astore dX11_odds_5 (by decide) rfl ?_
        change x_T _ _ _ _ [_, _, _, _, _, _, _] _ _ _ _
        refine xt_aload _ dX11_odds_7 rfl ?_
        refine xt_ifnull_r dX11_odds_9 ?_
        refine xt_iload_n _ dX11_odds_12 rfl ?_
        refine xt_if_lt 22 dX11_odds_13 (by decide) (fun t13 => ?_) (fun f13 => ?_)
        · refine xt_iconst (-1) dX11_odds_22 (by decide) ?_
          exact xt_iret .int dX11_odds_23 rfl (by first | rfl | assumption) ⟨rfl, x_keep.rf μ⟩
        · refine xt_iload_n _ dX11_odds_16 rfl ?_
          refine xt_bipush (64) dX11_odds_17 (by decide) ?_
          refine xt_icmp_lt 24 dX11_odds_19 (by decide) (fun t19 => ?_) (fun f19 => ?_)
          · exact absurd ⟨Int32.not_lt.mp f13, s_le63 t19⟩ hr
          · refine xt_iconst (-1) dX11_odds_22 (by decide) ?_
            exact xt_iret .int dX11_odds_23 rfl (by first | rfl | assumption) ⟨rfl, x_keep.rf μ⟩
      · intro μ w c hf hc e hM
        refine x_K.of (by decide) (Nat.le_of_ble_eq_true rfl) ?_
        show x_T sc 29 mX12_odds 0 [.ref 152, .int (nI f), .int a2, .int u] [] μ w _
        refine xt_aload_n _ dX12_odds_0 rfl ?_
        refine xt_iconst (0) dX12_odds_1 (by decide) ?_
        refine xt_puti dX12_odds_2 kpX12_72 (by first | exact sh152 | rfl | assumption) rfl (by first | rfl | assumption) (by first | rfl | assumption) ?_
        refine xt_iload_n _ dX12_odds_5 rfl ?_
        refine xt_iconst (0) dX12_odds_6 (by decide) ?_
        refine xt_bipush (63) dX12_odds_7 (by decide) ?_
        refine xt_cS _ dX12_odds_9 klX12_84 (tX12_in sc _ _ _ _ _ _) rfl rfl (Nat.le_of_ble_eq_true rfl) ?_
        refine xt_if_eq 30 dX12_odds_12 (by decide) (fun _ => ?_) (fun q => absurd (s_in_out hr) q)
        refine xt_iconst (-1) dX12_odds_30 (by decide) ?_
        exact xt_iret .int dX12_odds_31 rfl (by first | rfl | assumption) ⟨rfl, (x_keep.u (x_keep.rf μ) (by unfold x_ok; omega))⟩
set_option maxHeartbeats 4000000 in
theorem st_small (sc : Nat × (Nat → Int32)) (a1 a2 : Int32) : x_stI sc (fun μ _ => x_Inv μ) (fun μ _ => x_Inv μ) mX11_small mX12_small [.int a1, .int a2] := by
  refine x_stO (-2) ?_ ?_ ?_
  · intro μ w c hc e hk
    refine x_K.of (by decide) (Nat.le_of_ble_eq_true rfl) ?_
    show x_T sc 29 mX11_small 0 [.ref 0, .int a1, .int a2, .retAddr 0] [] μ w _
    refine xt_aload_n _ dX11_small_0 rfl ?_
    refine xt_iload_n _ dX11_small_1 rfl ?_
    refine xt_cV _ dX11_small_2 klX11_166 (tX11_ledgerOf_no sc _ μ w c hc e _ hk) sh0 rfl rfl (Nat.le_of_ble_eq_true rfl) ?_
    refine xt_astore_n0 dX11_small_5 (by decide) rfl ?_
    change x_T _ _ _ _ [_, _, _, _] _ _ _ _
    refine xt_aload_n0 dX11_small_6 rfl ?_
    refine xt_ifnonnull_n dX11_small_7 ?_
    refine xt_bipush (-2) dX11_small_10 (by decide) ?_
    exact xt_iret .int dX11_small_12 rfl (by first | rfl | assumption) ⟨rfl, x_keep.rf μ⟩
  · intro μ w c hc e hk
    refine x_K.of (by decide) (Nat.le_of_ble_eq_true rfl) ?_
    show x_T sc 29 mX12_small 0 [.ref 152, .int a1, .int a2] [] μ w _
    refine xt_aload_n _ dX12_small_0 rfl ?_
    refine xt_iconst (0) dX12_small_1 (by decide) ?_
    refine xt_puti dX12_small_2 kpX12_72 (by first | exact sh152 | rfl | assumption) rfl (by first | rfl | assumption) (by first | rfl | assumption) ?_
    refine xt_aload_n _ dX12_small_5 rfl ?_
    refine xt_iload_n _ dX12_small_6 rfl ?_
    refine xt_cV _ dX12_small_7 klX12_458 (tX12_layLog_no sc _ (x_u μ 152 (upd (μ 152) 0 0)) w c hc _ hk e) sh152 rfl rfl (Nat.le_of_ble_eq_true rfl) ?_
    refine xt_if_ne 16 dX12_small_10 (by decide) (fun q => absurd (by decide) q) (fun _ => ?_)
    refine xt_bipush (-2) dX12_small_13 (by decide) ?_
    exact xt_iret .int dX12_small_15 rfl (by first | rfl | assumption) ⟨rfl, (x_keep.u (x_keep.u (x_keep.rf μ) (by unfold x_ok; omega)) (by unfold x_ok; omega))⟩
  · intro f L hf2 hkk hW
    subst hkk
    by_cases hw : 0 ≤ a2 ∧ a2 ≤ nI 3
    · obtain ⟨j, hj, rfl⟩ := x_rng (N := 3) (by decide) hw
      have hj' : j = 0 ∨ j = 1 ∨ j = 2 ∨ j = 3 := by omega
      rcases hj' with rfl | rfl | rfl | rfl
      · skip
        refine ⟨if (s_cnt (s_ft L) 64) = 0 then -1 else nI (s_fd s_f2 6 (s_ft L) 64), ?_, ?_⟩
        · intro μ w c hf hc e hC
          have hS := l_Sf hf2
          refine x_K.of (by decide) (Nat.le_of_ble_eq_true rfl) ?_
          show x_T sc 29 mX11_small 0 [.ref 0, .int (nI f), .int (nI 0), .retAddr 0] [] μ w _
          refine xt_aload_n _ dX11_small_0 rfl ?_
          refine xt_iload_n _ dX11_small_1 rfl ?_
          refine xt_cV _ dX11_small_2 klX11_166 (tX11_ledgerOf sc _ μ w f c hf hc e) sh0 rfl rfl (Nat.le_of_ble_eq_true rfl) ?_
          refine xt_astore_n dX11_small_5 (by decide) rfl ?_
          change x_T _ _ _ _ [_, _, _, _] _ _ _ _
          refine xt_aload_n _ dX11_small_6 rfl ?_
          refine xt_ifnonnull_r 13 dX11_small_7 (by decide) ?_
          refine xt_iload_n _ dX11_small_13 rfl ?_
          refine xt_tabIn 44 dX11_small_14 (by decide) (by decide) (by rfl) (by decide) ?_
          refine xt_aload_n _ dX11_small_44 rfl ?_
          refine xt_cV _ dX11_small_45 klX11_173 (tX4_fitting sc _ μ w hS hW hC) hS.1 rfl rfl (Nat.le_of_ble_eq_true rfl) ?_
          refine xt_cS _ dX11_small_48 klX11_320 (tX4_smallest sc _ μ w (s_ft L)) rfl rfl (Nat.le_of_ble_eq_true rfl) ?_
          exact xt_iret .int dX11_small_51 rfl (by first | rfl | assumption) ⟨rfl, x_keep.rf μ⟩
        · intro μ w c hf hc e hM
          refine x_K.of (by decide) (Nat.le_of_ble_eq_true rfl) ?_
          show x_T sc 29 mX12_small 0 [.ref 152, .int (nI f), .int (nI 0)] [] μ w _
          refine xt_aload_n _ dX12_small_0 rfl ?_
          refine xt_iconst (0) dX12_small_1 (by decide) ?_
          refine xt_puti dX12_small_2 kpX12_72 (by first | exact sh152 | rfl | assumption) rfl (by first | rfl | assumption) (by first | rfl | assumption) ?_
          refine xt_aload_n _ dX12_small_5 rfl ?_
          refine xt_iload_n _ dX12_small_6 rfl ?_
          refine xt_callV _ dX12_small_7 klX12_458 (tX12_layLog sc _ (x_u μ 152 (upd (μ 152) 0 0)) w f c L hf hc e hW hM) sh152 rfl rfl (Nat.le_of_ble_eq_true rfl) (fun r1 μ1 w1 q1 => ?_)
          obtain ⟨rfl, hG, hfr⟩ := q1
          change x_T _ _ _ _ _ (.int 1 :: _) _ _ _
          have e49 : μ1 152 49 = nI (s_cnt (s_ft L) 64) := hG.2.2.1
          refine xt_if_ne 16 dX12_small_10 (by decide) (fun _ => ?_) (fun q => absurd q (by decide))
          refine xt_iload_n _ dX12_small_16 rfl ?_
          refine xt_tabIn 48 dX12_small_17 (by decide) (by decide) (by rfl) (by decide) ?_
          refine xt_aload_n _ dX12_small_48 rfl ?_
          refine xt_iload_n _ dX12_small_49 rfl ?_
          refine xt_iconst (1) dX12_small_50 (by decide) ?_
          refine xt_icmp_ne 58 dX12_small_51 (by decide) (fun _ => ?_) (fun q => absurd q (by decide))
          refine xt_iconst (0) dX12_small_58 (by decide) ?_
          refine xt_cV _ dX12_small_59 klX12_554 (tX12_sizeOf0 sc _ μ1 _ f L hf2 hW hG) sh152 rfl rfl (Nat.le_of_ble_eq_true rfl) ?_
          exact xt_iret .int dX12_small_62 rfl (by first | rfl | assumption) ⟨by rw [s_fS_eI], (fun a ha => by rw [hfr a (by unfold x_ok at ha; omega) (by unfold x_ok at ha; omega), x_u_ne (by unfold x_ok at ha; omega)])⟩
      · skip
        refine ⟨eI (s_fd s_f3 0 (s_ft L) 64), ?_, ?_⟩
        · intro μ w c hf hc e hC
          have hS := l_Sf hf2
          refine x_K.of (by decide) (Nat.le_of_ble_eq_true rfl) ?_
          show x_T sc 29 mX11_small 0 [.ref 0, .int (nI f), .int (nI 1), .retAddr 0] [] μ w _
          refine xt_aload_n _ dX11_small_0 rfl ?_
          refine xt_iload_n _ dX11_small_1 rfl ?_
          refine xt_cV _ dX11_small_2 klX11_166 (tX11_ledgerOf sc _ μ w f c hf hc e) sh0 rfl rfl (Nat.le_of_ble_eq_true rfl) ?_
          refine xt_astore_n dX11_small_5 (by decide) rfl ?_
          change x_T _ _ _ _ [_, _, _, _] _ _ _ _
          refine xt_aload_n _ dX11_small_6 rfl ?_
          refine xt_ifnonnull_r 13 dX11_small_7 (by decide) ?_
          refine xt_iload_n _ dX11_small_13 rfl ?_
          refine xt_tabIn 52 dX11_small_14 (by decide) (by decide) (by rfl) (by decide) ?_
          refine xt_aload_n _ dX11_small_52 rfl ?_
          refine xt_cV _ dX11_small_53 klX11_173 (tX4_fitting sc _ μ w hS hW hC) hS.1 rfl rfl (Nat.le_of_ble_eq_true rfl) ?_
          refine xt_cS _ dX11_small_56 klX11_323 (tX4_largest sc _ μ w (s_ft L)) rfl rfl (Nat.le_of_ble_eq_true rfl) ?_
          exact xt_iret .int dX11_small_59 rfl (by first | rfl | assumption) ⟨rfl, x_keep.rf μ⟩
        · intro μ w c hf hc e hM
          refine x_K.of (by decide) (Nat.le_of_ble_eq_true rfl) ?_
          show x_T sc 29 mX12_small 0 [.ref 152, .int (nI f), .int (nI 1)] [] μ w _
          refine xt_aload_n _ dX12_small_0 rfl ?_
          refine xt_iconst (0) dX12_small_1 (by decide) ?_
          refine xt_puti dX12_small_2 kpX12_72 (by first | exact sh152 | rfl | assumption) rfl (by first | rfl | assumption) (by first | rfl | assumption) ?_
          refine xt_aload_n _ dX12_small_5 rfl ?_
          refine xt_iload_n _ dX12_small_6 rfl ?_
          refine xt_callV _ dX12_small_7 klX12_458 (tX12_layLog sc _ (x_u μ 152 (upd (μ 152) 0 0)) w f c L hf hc e hW hM) sh152 rfl rfl (Nat.le_of_ble_eq_true rfl) (fun r1 μ1 w1 q1 => ?_)
          obtain ⟨rfl, hG, hfr⟩ := q1
          change x_T _ _ _ _ _ (.int 1 :: _) _ _ _
          have e49 : μ1 152 49 = nI (s_cnt (s_ft L) 64) := hG.2.2.1
          refine xt_if_ne 16 dX12_small_10 (by decide) (fun _ => ?_) (fun q => absurd q (by decide))
          refine xt_iload_n _ dX12_small_16 rfl ?_
          refine xt_tabIn 48 dX12_small_17 (by decide) (by decide) (by rfl) (by decide) ?_
          refine xt_aload_n _ dX12_small_48 rfl ?_
          refine xt_iload_n _ dX12_small_49 rfl ?_
          refine xt_iconst (1) dX12_small_50 (by decide) ?_
          refine xt_icmp_ne 58 dX12_small_51 (by decide) (fun q => absurd (by decide) q) (fun _ => ?_)
          refine xt_iconst (1) dX12_small_54 (by decide) ?_
          refine xt_goto 59 dX12_small_55 (by decide) ?_
          refine xt_cV _ dX12_small_59 klX12_554 (tX12_sizeOf1 sc _ μ1 _ f L hf2 hW hG) sh152 rfl rfl (Nat.le_of_ble_eq_true rfl) ?_
          exact xt_iret .int dX12_small_62 rfl (by first | rfl | assumption) ⟨rfl, (fun a ha => by rw [hfr a (by unfold x_ok at ha; omega) (by unfold x_ok at ha; omega), x_u_ne (by unfold x_ok at ha; omega)])⟩
      · skip
        refine ⟨nI (s_mnn (s_lc L) 64), ?_, ?_⟩
        · intro μ w c hf hc e hC
          have hS := l_Sf hf2
          refine x_K.of (by decide) (Nat.le_of_ble_eq_true rfl) ?_
          show x_T sc 29 mX11_small 0 [.ref 0, .int (nI f), .int (nI 2), .retAddr 0] [] μ w _
          refine xt_aload_n _ dX11_small_0 rfl ?_
          refine xt_iload_n _ dX11_small_1 rfl ?_
          refine xt_cV _ dX11_small_2 klX11_166 (tX11_ledgerOf sc _ μ w f c hf hc e) sh0 rfl rfl (Nat.le_of_ble_eq_true rfl) ?_
          refine xt_astore_n dX11_small_5 (by decide) rfl ?_
          change x_T _ _ _ _ [_, _, _, _] _ _ _ _
          refine xt_aload_n _ dX11_small_6 rfl ?_
          refine xt_ifnonnull_r 13 dX11_small_7 (by decide) ?_
          refine xt_iload_n _ dX11_small_13 rfl ?_
          refine xt_tabIn 60 dX11_small_14 (by decide) (by decide) (by rfl) (by decide) ?_
          refine xt_aload_n _ dX11_small_60 rfl ?_
          refine xt_cV _ dX11_small_61 klX11_326 (tX4_fewestLies sc _ μ w hS hW hC) hS.1 rfl rfl (Nat.le_of_ble_eq_true rfl) ?_
          exact xt_iret .int dX11_small_64 rfl (by first | rfl | assumption) ⟨rfl, x_keep.rf μ⟩
        · intro μ w c hf hc e hM
          refine x_K.of (by decide) (Nat.le_of_ble_eq_true rfl) ?_
          show x_T sc 29 mX12_small 0 [.ref 152, .int (nI f), .int (nI 2)] [] μ w _
          refine xt_aload_n _ dX12_small_0 rfl ?_
          refine xt_iconst (0) dX12_small_1 (by decide) ?_
          refine xt_puti dX12_small_2 kpX12_72 (by first | exact sh152 | rfl | assumption) rfl (by first | rfl | assumption) (by first | rfl | assumption) ?_
          refine xt_aload_n _ dX12_small_5 rfl ?_
          refine xt_iload_n _ dX12_small_6 rfl ?_
          refine xt_callV _ dX12_small_7 klX12_458 (tX12_layLog sc _ (x_u μ 152 (upd (μ 152) 0 0)) w f c L hf hc e hW hM) sh152 rfl rfl (Nat.le_of_ble_eq_true rfl) (fun r1 μ1 w1 q1 => ?_)
          obtain ⟨rfl, hG, hfr⟩ := q1
          change x_T _ _ _ _ _ (.int 1 :: _) _ _ _
          have e49 : μ1 152 49 = nI (s_cnt (s_ft L) 64) := hG.2.2.1
          refine xt_if_ne 16 dX12_small_10 (by decide) (fun _ => ?_) (fun q => absurd q (by decide))
          refine xt_iload_n _ dX12_small_16 rfl ?_
          refine xt_tabIn 63 dX12_small_17 (by decide) (by decide) (by rfl) (by decide) ?_
          refine xt_aload_n _ dX12_small_63 rfl ?_
          refine xt_cV _ dX12_small_64 klX12_557 (tX12_fewestLies sc _ μ1 _ f L hf2 hW hG) sh152 rfl rfl (Nat.le_of_ble_eq_true rfl) ?_
          exact xt_iret .int dX12_small_67 rfl (by first | rfl | assumption) ⟨rfl, (fun a ha => by rw [hfr a (by unfold x_ok at ha; omega) (by unfold x_ok at ha; omega), x_u_ne (by unfold x_ok at ha; omega)])⟩
      · skip
        refine ⟨nI (s_bits (s_ndl L) (L 1)), ?_, ?_⟩
        · intro μ w c hf hc e hC
          have hS := l_Sf hf2
          refine x_K.of (by decide) (Nat.le_of_ble_eq_true rfl) ?_
          show x_T sc 29 mX11_small 0 [.ref 0, .int (nI f), .int (nI 3), .retAddr 0] [] μ w _
          refine xt_aload_n _ dX11_small_0 rfl ?_
          refine xt_iload_n _ dX11_small_1 rfl ?_
          refine xt_cV _ dX11_small_2 klX11_166 (tX11_ledgerOf sc _ μ w f c hf hc e) sh0 rfl rfl (Nat.le_of_ble_eq_true rfl) ?_
          refine xt_astore_n dX11_small_5 (by decide) rfl ?_
          change x_T _ _ _ _ [_, _, _, _] _ _ _ _
          refine xt_aload_n _ dX11_small_6 rfl ?_
          refine xt_ifnonnull_r 13 dX11_small_7 (by decide) ?_
          refine xt_iload_n _ dX11_small_13 rfl ?_
          refine xt_tabIn 65 dX11_small_14 (by decide) (by decide) (by rfl) (by decide) ?_
          refine xt_aload_n _ dX11_small_65 rfl ?_
          refine xt_cV _ dX11_small_66 klX11_329 (tX4_needless sc _ μ w hS hW hC) hS.1 rfl rfl (Nat.le_of_ble_eq_true rfl) ?_
          rw [s_bits_cong (q := s_ndl L) (fun j hj => (s_ndl_eq L hj).symm)]
          exact xt_iret .int dX11_small_69 rfl (by first | rfl | assumption) ⟨rfl, x_keep.rf μ⟩
        · intro μ w c hf hc e hM
          refine x_K.of (by decide) (Nat.le_of_ble_eq_true rfl) ?_
          show x_T sc 29 mX12_small 0 [.ref 152, .int (nI f), .int (nI 3)] [] μ w _
          refine xt_aload_n _ dX12_small_0 rfl ?_
          refine xt_iconst (0) dX12_small_1 (by decide) ?_
          refine xt_puti dX12_small_2 kpX12_72 (by first | exact sh152 | rfl | assumption) rfl (by first | rfl | assumption) (by first | rfl | assumption) ?_
          refine xt_aload_n _ dX12_small_5 rfl ?_
          refine xt_iload_n _ dX12_small_6 rfl ?_
          refine xt_callV _ dX12_small_7 klX12_458 (tX12_layLog sc _ (x_u μ 152 (upd (μ 152) 0 0)) w f c L hf hc e hW hM) sh152 rfl rfl (Nat.le_of_ble_eq_true rfl) (fun r1 μ1 w1 q1 => ?_)
          obtain ⟨rfl, hG, hfr⟩ := q1
          change x_T _ _ _ _ _ (.int 1 :: _) _ _ _
          have e49 : μ1 152 49 = nI (s_cnt (s_ft L) 64) := hG.2.2.1
          refine xt_if_ne 16 dX12_small_10 (by decide) (fun _ => ?_) (fun q => absurd q (by decide))
          refine xt_iload_n _ dX12_small_16 rfl ?_
          refine xt_tabIn 68 dX12_small_17 (by decide) (by decide) (by rfl) (by decide) ?_
          refine xt_aload_n _ dX12_small_68 rfl ?_
          refine xt_callV _ dX12_small_69 klX12_560 (tX12_needless sc _ μ1 _ f L hf2 hW hG.1 hG.2.2.2.2) sh152 rfl rfl (Nat.le_of_ble_eq_true rfl) (fun r2 μ2 w2 q2 => ?_)
          obtain ⟨rfl, hfr2⟩ := q2
          change x_T _ _ _ _ _ (.int _ :: _) _ _ _
          exact xt_iret .int dX12_small_72 rfl (by first | rfl | assumption) ⟨rfl, x_keep.tr (fun a ha => by rw [hfr a (by unfold x_ok at ha; omega) (by unfold x_ok at ha; omega), x_u_ne (by unfold x_ok at ha; omega)]) (fun a ha => hfr2 a (by unfold x_ok at ha; omega))⟩
    · have hout := x_out (N := 3) (by decide) hw
      refine ⟨-2, ?_, ?_⟩
      · intro μ w c hf hc e hC
        have hS := l_Sf hf2
        refine x_K.of (by decide) (Nat.le_of_ble_eq_true rfl) ?_
        show x_T sc 29 mX11_small 0 [.ref 0, .int (nI f), .int a2, .retAddr 0] [] μ w _
        refine xt_aload_n _ dX11_small_0 rfl ?_
        refine xt_iload_n _ dX11_small_1 rfl ?_
        refine xt_cV _ dX11_small_2 klX11_166 (tX11_ledgerOf sc _ μ w f c hf hc e) sh0 rfl rfl (Nat.le_of_ble_eq_true rfl) ?_
        refine xt_astore_n dX11_small_5 (by decide) rfl ?_
        change x_T _ _ _ _ [_, _, _, _] _ _ _ _
        refine xt_aload_n _ dX11_small_6 rfl ?_
        refine xt_ifnonnull_r 13 dX11_small_7 (by decide) ?_
        refine xt_iload_n _ dX11_small_13 rfl ?_
        refine xt_tabOut 70 dX11_small_14 (by omega) (by decide) ?_
        refine xt_bipush (-2) dX11_small_70 (by decide) ?_
        exact xt_iret .int dX11_small_72 rfl (by first | rfl | assumption) ⟨rfl, x_keep.rf μ⟩
      · intro μ w c hf hc e hM
        refine x_K.of (by decide) (Nat.le_of_ble_eq_true rfl) ?_
        show x_T sc 29 mX12_small 0 [.ref 152, .int (nI f), .int a2] [] μ w _
        refine xt_aload_n _ dX12_small_0 rfl ?_
        refine xt_iconst (0) dX12_small_1 (by decide) ?_
        refine xt_puti dX12_small_2 kpX12_72 (by first | exact sh152 | rfl | assumption) rfl (by first | rfl | assumption) (by first | rfl | assumption) ?_
        refine xt_aload_n _ dX12_small_5 rfl ?_
        refine xt_iload_n _ dX12_small_6 rfl ?_
        refine xt_callV _ dX12_small_7 klX12_458 (tX12_layLog sc _ (x_u μ 152 (upd (μ 152) 0 0)) w f c L hf hc e hW hM) sh152 rfl rfl (Nat.le_of_ble_eq_true rfl) (fun r1 μ1 w1 q1 => ?_)
        obtain ⟨rfl, hG, hfr⟩ := q1
        change x_T _ _ _ _ _ (.int 1 :: _) _ _ _
        have e49 : μ1 152 49 = nI (s_cnt (s_ft L) 64) := hG.2.2.1
        refine xt_if_ne 16 dX12_small_10 (by decide) (fun _ => ?_) (fun q => absurd q (by decide))
        refine xt_iload_n _ dX12_small_16 rfl ?_
        refine xt_tabOut 73 dX12_small_17 (by omega) (by decide) ?_
        refine xt_bipush (-2) dX12_small_73 (by decide) ?_
        exact xt_iret .int dX12_small_75 rfl (by first | rfl | assumption) ⟨rfl, (fun a ha => by rw [hfr a (by unfold x_ok at ha; omega) (by unfold x_ok at ha; omega), x_u_ne (by unfold x_ok at ha; omega)])⟩
