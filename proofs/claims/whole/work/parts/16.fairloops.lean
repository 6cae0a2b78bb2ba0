/-! loops over a FAIR -/
theorem x_T.ls {sc : Nat × (Nat → Int32)} {d : Nat} {M : x_Mt} {pc : Nat} {ls ls' st : List Value} {μ : x_Me} {w : Int64} {P : Option Value → x_Me → Int64 → Prop} (e : ls = ls') (h : x_T sc d M pc ls' st μ w P) : x_T sc d M pc ls st μ w P := by rw [e]; exact h
theorem nI_s (n : Nat) : nI n + nI 1 = nI (n + 1) := nI_add n 1
/-- a number that may be none: one more than it, none being 0 -/
def eI (a : Nat) : Int32 := nI a - nI 1
theorem eI_toInt {a : Nat} (h : a < 1000) : (eI a).toInt = (a : Int) - 1 := pk_sub_toInt (a := a) (b := 1) (by omega) (by decide)
theorem eI_0 : eI 0 = -1 := by decide
theorem eI_s (a : Nat) : eI (a + 1) = nI a := by
  rw [eI, pk_sub (by omega)]; rfl
theorem eI_max {a r : Nat} (ha : a < 1000) (hr : r < 999) : (if eI a < nI r then nI r else eI a) = eI (max a (r + 1)) := by
  have e1 := eI_toInt ha
  have e2 : (nI r).toInt = (r : Int) := nI_toInt (by omega)
  by_cases h : a < r + 1
  · rw [if_pos (by rw [Int32.lt_iff_toInt_lt, e1, e2]; omega), Nat.max_eq_right (by omega), eI_s]
  · rw [if_neg (by rw [Int32.lt_iff_toInt_lt, e1, e2]; omega), Nat.max_eq_left (by omega)]
theorem eI_lt {a b : Nat} (ha : a < 1000) (hb : b < 1000) : nI a ≤ eI b ↔ a < b := by
  rw [Int32.le_iff_toInt_le, eI_toInt hb, nI_toInt (by omega)]; omega
theorem eI_gt {a b : Nat} (ha : a < 1000) (hb : b < 1000) : eI b < nI a ↔ b ≤ a := by
  rw [Int32.lt_iff_toInt_lt, eI_toInt hb, nI_toInt (by omega)]; omega
/-- the set of those below n that have p -/
def s_bits (p : Nat → Bool) : Nat → Nat
  | 0 => 0
  | n + 1 => s_bits p n + (if p n then 2 ^ n else 0)
theorem s_bits_lt (p : Nat → Bool) : ∀ n, s_bits p n < 2 ^ n
  | 0 => by simp [s_bits]
  | n + 1 => by
    have := s_bits_lt p n
    rw [s_bits, Nat.pow_succ]
    split <;> omega
theorem x_bit : ∀ g, g < 31 → (nI 1 <<< (nI g &&& nI 31)) = nI (2 ^ g) := by decide +kernel
theorem s_bits_or {p : Nat → Bool} {g : Nat} (hg : g < 31) (hp : p g = true) : nI (s_bits p g) ||| ((1 : Int32) <<< (nI g &&& 31)) = nI (s_bits p (g + 1)) := by
  show nI (s_bits p g) ||| (nI 1 <<< (nI g &&& nI 31)) = nI (s_bits p (g + 1))
  have h1 := s_bits_lt p g
  have e : s_bits p (g + 1) = s_bits p g ||| 2 ^ g := by
    have h2 := Nat.two_pow_add_eq_or_of_lt h1 1
    rw [Nat.mul_one] at h2
    rw [s_bits, hp, if_pos rfl, Nat.add_comm, h2, Nat.or_comm]
  rw [x_bit g hg, e]
  show Int32.ofNat _ ||| Int32.ofNat _ = Int32.ofNat _
  apply Int32.toBitVec_inj.mp
  simp [BitVec.ofNat_or]
theorem s_bits_no {p : Nat → Bool} {g : Nat} (hp : p g = false) : s_bits p (g + 1) = s_bits p g := by
  rw [s_bits, hp]; simp
section FAIRL
variable (sc : Nat × (Nat → Int32)) (d : Nat) {μ : x_Me} (w : Int64) {k : Nat} {F : Nat → Nat}
def s_ear (F : Nat → Nat) (st : Nat → Bool) (more g : Nat) : Nat → Nat
  | 0 => 0
  | m + 1 => if st m = false ∧ F (19 + m) + more ≤ F (41 + (6 * g + F (7 + m))) then max (s_ear F st more g m) (F (13 + m) + 1) else s_ear F st more g m
theorem s_ear_le (hW : f_W F) (st : Nat → Bool) (more g : Nat) : ∀ m, m ≤ F 3 → s_ear F st more g m ≤ 19
  | 0, _ => by simp [s_ear]
  | m + 1, h => by
    have h1 := s_ear_le hW st more g m (by omega)
    have h2 := (hW.2.1 m (by omega)).2.1
    rw [s_ear]
    split
    · omega
    · omega
/-- a set of MINDS, as bits -/
def s_str (x : Int32) (st : Nat → Bool) : Prop := ∀ m, m < 6 → ((x >>> (nI m &&& 31)) &&& 1 = 0 ↔ st m = false)
set_option maxHeartbeats 2000000 in
theorem tX2_earshot (hS : f_S k) (hC : f_C μ k F) (hW : f_W F) (g more : Nat) (hg : g < F 4) (hm : more ≤ 9) (x : Int32) (st : Nat → Bool) (hst : s_str x st) : x_D sc (d + 2) mX2_earshot [.ref k, .int (nI g), .int (nI more), .int x] μ w (some (.int (eI (s_ear F st more g (F 3))))) μ w := by
  obtain ⟨hs0, hs1, hs2, hs3, hs4, hs5⟩ := hS
  have hg8 : g < 8 := by have := hW.1.2.2.2.2.1; omega
  have hm6 : F 3 ≤ 6 := hW.1.2.2.2.1
  have e3 : μ k 3 = nI (F 3) := hC.1 3 (by decide)
  have L6 : ∀ (n m : Nat) (v6 : Value), m + n = F 3 → x_T sc (d + 2) mX2_earshot 6 [.ref k, .int (nI g), .int (nI more), .int x, .int (eI (s_ear F st more g m)), .int (nI m), v6] [] μ w (x_p (some (.int (eI (s_ear F st more g (F 3))))) μ w) := by
    intro n
    induction n with
    | zero =>
      intro m v6 hmn
      obtain rfl : m = F 3 := by omega
      refine xt_iload _ dX2_earshot_6 rfl ?_
      refine xt_aload_n _ dX2_earshot_8 rfl ?_
      refine xt_geti dX2_earshot_9 kfX2_37 (by first | rfl | assumption) rfl ?_
      refine xt_icmp_ge 77 dX2_earshot_12 (by decide) (fun _ => ?_) (fun q => absurd (by rw [e3]; exact Int32.le_refl _) q)
      refine xt_iload _ dX2_earshot_77 rfl ?_
      exact xt_iret .int dX2_earshot_79 rfl (by first | rfl | assumption) ⟨rfl, rfl, rfl⟩
    | succ n ih =>
      intro m v6 hmn
      have hlt : m < F 3 := by omega
      have hr := (hW.2.1 m hlt).2.1
      have hear := s_ear_le hW st more g m (by omega)
      have hwb := hW.2.2.2.1 (6 * g + F (7 + m)) (by have := (hW.2.1 m hlt).1; omega)
      have hl9 := (hW.2.1 m hlt).2.2.2
      refine xt_iload _ dX2_earshot_6 rfl ?_
      refine xt_aload_n _ dX2_earshot_8 rfl ?_
      refine xt_geti dX2_earshot_9 kfX2_37 (by first | rfl | assumption) rfl ?_
      refine xt_icmp_ge 77 dX2_earshot_12 (by decide) (fun q => absurd q (by rw [e3]; exact nI_ge hlt (by omega))) (fun _ => ?_)
      refine xt_iload_n _ dX2_earshot_15 rfl ?_
      refine xt_iload _ dX2_earshot_16 rfl ?_
      refine xt_ishr dX2_earshot_18 ?_
      refine xt_iconst (1) dX2_earshot_19 (by decide) ?_
      refine xt_iand dX2_earshot_20 ?_
      refine xt_if_ne 28 dX2_earshot_21 (by decide) (fun t21 => ?_) (fun f21 => ?_)
      · refine xt_iconst (0) dX2_earshot_28 (by decide) ?_
        refine xt_istore dX2_earshot_29 (by decide) rfl ?_
        change x_T _ _ _ _ [_, _, _, _, _, _, _] _ _ _ _
        refine xt_iload _ dX2_earshot_31 rfl ?_
        refine xt_if_eq 71 dX2_earshot_33 (by decide) (fun _ => ?_) (fun q => absurd (by decide) q)
        refine xt_inc _ (1) dX2_earshot_71 rfl (by decide) (by decide) rfl ?_
        change x_T _ _ _ _ [_, _, _, _, _, _, _] _ _ _ _
        refine xt_goto 6 dX2_earshot_74 (by decide) ?_
        refine x_T.ls ?_ (ih (m + 1) (.int 0) (by omega))
        have hs : ¬ st m = false := fun q => t21 ((hst m (by omega)).mpr q)
        have es : s_ear F st more g (m + 1) = s_ear F st more g m := by rw [s_ear, if_neg (fun q => hs q.1)]
        first | (rw [es, nI_succ m]; done) | (rw [es, nI_succ m]; rfl)
      · refine xt_iconst (1) dX2_earshot_24 (by decide) ?_
        refine xt_goto 29 dX2_earshot_25 (by decide) ?_
        refine xt_istore dX2_earshot_29 (by decide) rfl ?_
        change x_T _ _ _ _ [_, _, _, _, _, _, _] _ _ _ _
        refine xt_iload _ dX2_earshot_31 rfl ?_
        refine xt_if_eq 71 dX2_earshot_33 (by decide) (fun q => absurd q (by decide)) (fun _ => ?_)
        refine xt_aload_n _ dX2_earshot_36 rfl ?_
        refine xt_iload_n _ dX2_earshot_37 rfl ?_
        refine xt_aload_n _ dX2_earshot_38 rfl ?_
        refine xt_iload _ dX2_earshot_39 rfl ?_
        refine xt_cV _ dX2_earshot_41 klX2_99 (tX2_kindOf sc d w (by exact ⟨hs0, hs1, hs2, hs3, hs4, hs5⟩) hC hW m hlt) (by assumption) rfl rfl (Nat.le_of_ble_eq_true rfl) ?_
        refine xt_cV _ dX2_earshot_44 klX2_73 (tX2_wrongsOf sc d w (by exact ⟨hs0, hs1, hs2, hs3, hs4, hs5⟩) hC g _ hg8 (by have := (hW.2.1 m hlt).1; omega)) (by assumption) rfl rfl (Nat.le_of_ble_eq_true rfl) ?_
        refine xt_aload_n _ dX2_earshot_47 rfl ?_
        refine xt_iload _ dX2_earshot_48 rfl ?_
        refine xt_cV _ dX2_earshot_50 klX2_102 (tX2_leastOf sc d w (by exact ⟨hs0, hs1, hs2, hs3, hs4, hs5⟩) hC hW m hlt) (by assumption) rfl rfl (Nat.le_of_ble_eq_true rfl) ?_
        refine xt_iload_n _ dX2_earshot_53 rfl ?_
        refine xt_iadd dX2_earshot_54 ?_
        refine xt_icmp_lt 71 dX2_earshot_55 (by decide) (fun t55 => ?_) (fun f55 => ?_)
        · refine xt_inc _ (1) dX2_earshot_71 rfl (by decide) (by decide) rfl ?_
          change x_T _ _ _ _ [_, _, _, _, _, _, _] _ _ _ _
          refine xt_goto 6 dX2_earshot_74 (by decide) ?_
          refine x_T.ls ?_ (ih (m + 1) (.int 1) (by omega))
          have hs : st m = false := (hst m (by omega)).mp f21
          rw [nI_add, nI_ltI (by omega) (by omega)] at t55
          have es : s_ear F st more g (m + 1) = s_ear F st more g m := by rw [s_ear, if_neg (fun q => by omega)]
          first | (rw [es, nI_succ m]; done) | (rw [es, nI_succ m]; rfl)
        · refine xt_iload _ dX2_earshot_58 rfl ?_
          refine xt_aload_n _ dX2_earshot_60 rfl ?_
          refine xt_iload _ dX2_earshot_61 rfl ?_
          refine xt_cV _ dX2_earshot_63 klX2_105 (tX2_reachOf sc d w (by exact ⟨hs0, hs1, hs2, hs3, hs4, hs5⟩) hC hW m hlt) (by assumption) rfl rfl (Nat.le_of_ble_eq_true rfl) ?_
          refine xt_mmax dX2_earshot_66 kmX2_108 (Nat.le_of_ble_eq_true rfl) ?_
          refine xt_istore dX2_earshot_69 (by decide) rfl ?_
          change x_T _ _ _ _ [_, _, _, _, _, _, _] _ _ _ _
          refine xt_inc _ (1) dX2_earshot_71 rfl (by decide) (by decide) rfl ?_
          change x_T _ _ _ _ [_, _, _, _, _, _, _] _ _ _ _
          refine xt_goto 6 dX2_earshot_74 (by decide) ?_
          refine x_T.ls ?_ (ih (m + 1) (.int 1) (by omega))
          have hs : st m = false := (hst m (by omega)).mp f21
          rw [nI_add, nI_ltI (by omega) (by omega)] at f55
          have es : s_ear F st more g (m + 1) = max (s_ear F st more g m) (F (13 + m) + 1) := by rw [s_ear, if_pos ⟨hs, by omega⟩]
          first | (rw [es, ← eI_max (by omega) (by omega), nI_succ m]; done) | (rw [es, ← eI_max (by omega) (by omega), nI_succ m]; rfl)
  refine x_D.of (by decide) (Nat.le_of_ble_eq_true rfl) ?_
  show x_T sc (d + 2) mX2_earshot 0 [.ref k, .int (nI g), .int (nI more), .int x, .retAddr 0, .retAddr 0, .retAddr 0] [] μ w _
  refine xt_iconst (-1) dX2_earshot_0 (by decide) ?_
  refine xt_istore dX2_earshot_1 (by decide) rfl ?_
  change x_T _ _ _ _ [_, _, _, _, _, _, _] _ _ _ _
  refine xt_iconst (0) dX2_earshot_3 (by decide) ?_
  refine xt_istore dX2_earshot_4 (by decide) rfl ?_
  change x_T _ _ _ _ [_, _, _, _, _, _, _] _ _ _ _
  exact L6 (F 3) 0 _ (by omega)
/-- who offends, the MINDS st struck, LEAST more by so much -/
def s_off (F : Nat → Nat) (st : Nat → Bool) (more g : Nat) : Bool := decide (s_farO F g < s_ear F st more g (F 3))
theorem s_farO_le (hW : f_W F) {g : Nat} (hg : g < F 4) : s_farO F g ≤ 18 := by
  have h1 := hW.1.1
  have h2 := hW.1.2.1
  have h3 := (hW.2.2.1 g hg)
  unfold s_farO s_farS
  split <;> split <;> omega
set_option maxHeartbeats 2000000 in
theorem tX2_offenders (hS : f_S k) (hC : f_C μ k F) (hW : f_W F) (x : Int32) (st : Nat → Bool) (hst : s_str x st) : x_D sc (d + 3) mX2_offenders [.ref k, .int x] μ w (some (.int (nI (s_bits (s_off F st 0) (F 4))))) μ w := by
  obtain ⟨hs0, hs1, hs2, hs3, hs4, hs5⟩ := hS
  have hm8 : F 4 ≤ 8 := hW.1.2.2.2.2.1
  have e4 : μ k 4 = nI (F 4) := hC.1 4 (by decide)
  have L4 : ∀ (n g : Nat) , g + n = F 4 → x_T sc (d + 3) mX2_offenders 4 [.ref k, .int x, .int (nI (s_bits (s_off F st 0) g)), .int (nI g)] [] μ w (x_p (some (.int (nI (s_bits (s_off F st 0) (F 4))))) μ w) := by
    intro n
    induction n with
    | zero =>
      intro g  hmn
      obtain rfl : g = F 4 := by omega
      refine xt_iload_n _ dX2_offenders_4 rfl ?_
      refine xt_aload_n _ dX2_offenders_5 rfl ?_
      refine xt_geti dX2_offenders_6 kfX2_40 (by first | rfl | assumption) rfl ?_
      refine xt_icmp_ge 39 dX2_offenders_9 (by decide) (fun _ => ?_) (fun q => absurd (by rw [e4]; exact Int32.le_refl _) q)
      refine xt_iload_n _ dX2_offenders_39 rfl ?_
      exact xt_iret .int dX2_offenders_40 rfl (by first | rfl | assumption) ⟨rfl, rfl, rfl⟩
    | succ n ih =>
      intro g  hmn
      have hlt : g < F 4 := by omega
      have hfar := s_farO_le hW hlt
      have hear := s_ear_le hW st 0 g (F 3) (by omega)
      refine xt_iload_n _ dX2_offenders_4 rfl ?_
      refine xt_aload_n _ dX2_offenders_5 rfl ?_
      refine xt_geti dX2_offenders_6 kfX2_40 (by first | rfl | assumption) rfl ?_
      refine xt_icmp_ge 39 dX2_offenders_9 (by decide) (fun q => absurd q (by rw [e4]; exact nI_ge hlt (by omega))) (fun _ => ?_)
      refine xt_aload_n _ dX2_offenders_12 rfl ?_
      refine xt_iload_n _ dX2_offenders_13 rfl ?_
      refine xt_cV _ dX2_offenders_14 klX2_113 (tX2_farOf sc (d + 0) w (by exact ⟨hs0, hs1, hs2, hs3, hs4, hs5⟩) hC hW g hlt) (by assumption) rfl rfl (Nat.le_of_ble_eq_true rfl) ?_
      refine xt_aload_n _ dX2_offenders_17 rfl ?_
      refine xt_iload_n _ dX2_offenders_18 rfl ?_
      refine xt_iconst (0) dX2_offenders_19 (by decide) ?_
      refine xt_iload_n _ dX2_offenders_20 rfl ?_
      refine xt_cV _ dX2_offenders_21 klX2_116 (tX2_earshot sc d w (by exact ⟨hs0, hs1, hs2, hs3, hs4, hs5⟩) hC hW g 0 hlt (by omega) x st hst) (by assumption) rfl rfl (Nat.le_of_ble_eq_true rfl) ?_
      refine xt_icmp_gt 33 dX2_offenders_24 (by decide) (fun t24 => ?_) (fun f24 => ?_)
      · refine xt_inc _ (1) dX2_offenders_33 rfl (by decide) (by decide) rfl ?_
        change x_T _ _ _ _ [_, _, _, _] _ _ _ _
        refine xt_goto 4 dX2_offenders_36 (by decide) ?_
        refine x_T.ls ?_ (ih (g + 1) (by omega))
        rw [eI_gt (by omega) (by omega)] at t24
        first | (rw [s_bits_no (p := s_off F st 0) (by simp [s_off]; omega), nI_succ g]; done) | (rw [s_bits_no (p := s_off F st 0) (by simp [s_off]; omega), nI_succ g]; rfl)
      · refine xt_iload_n _ dX2_offenders_27 rfl ?_
        refine xt_iconst (1) dX2_offenders_28 (by decide) ?_
        refine xt_iload_n _ dX2_offenders_29 rfl ?_
        refine xt_ishl dX2_offenders_30 ?_
        refine xt_ior dX2_offenders_31 ?_
        refine xt_istore_n dX2_offenders_32 (by decide) rfl ?_
        change x_T _ _ _ _ [_, _, _, _] _ _ _ _
        refine xt_inc _ (1) dX2_offenders_33 rfl (by decide) (by decide) rfl ?_
        change x_T _ _ _ _ [_, _, _, _] _ _ _ _
        refine xt_goto 4 dX2_offenders_36 (by decide) ?_
        refine x_T.ls ?_ (ih (g + 1) (by omega))
        rw [eI_gt (by omega) (by omega)] at f24
        first | (rw [← s_bits_or (p := s_off F st 0) (g := g) (by omega) (by simp [s_off]; omega), nI_succ g]; done) | (rw [← s_bits_or (p := s_off F st 0) (g := g) (by omega) (by simp [s_off]; omega), nI_succ g]; rfl)
  refine x_D.of (by decide) (Nat.le_of_ble_eq_true rfl) ?_
  show x_T sc (d + 3) mX2_offenders 0 [.ref k, .int x, .retAddr 0, .retAddr 0] [] μ w _
  refine xt_iconst (0) dX2_offenders_0 (by decide) ?_
  refine xt_istore_n dX2_offenders_1 (by decide) rfl ?_
  change x_T _ _ _ _ [_, _, _, _] _ _ _ _
  refine xt_iconst (0) dX2_offenders_2 (by decide) ?_
  refine xt_istore_n dX2_offenders_3 (by decide) rfl ?_
  change x_T _ _ _ _ [_, _, _, _] _ _ _ _
  exact L4 (F 4) 0 (by omega)
end FAIRL
