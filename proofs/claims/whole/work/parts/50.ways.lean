/-! ways over the TOWNS: the class's table -/
def iI (z : Int) : Int32 := Int32.ofInt z
theorem iI_toInt {z : Int} (h : -1000000000 ≤ z) (h2 : z ≤ 1000000000) : (iI z).toInt = z := by
  unfold iI
  first
    | exact Int32.toInt_ofInt_of_le (by have : Int32.minValue.toInt = -2147483648 := by decide
                                        omega) (by have : Int32.maxValue.toInt = 2147483647 := by decide
                                                   omega)
    | (rw [Int32.toInt_ofInt, Int.bmod_eq_of_le (by omega) (by omega)])
    | (rw [Int32.toInt_ofInt]; unfold Int.bmod; simp only [Int32.size]; omega)
theorem iI_add (a b : Int) : iI a + iI b = iI (a + b) := by
  unfold iI
  first
    | exact (Int32.ofInt_add a b).symm
    | (apply Int32.toBitVec_inj.mp; simp [BitVec.ofInt_add])
theorem iI_sub (a b : Int) : iI a - iI b = iI (a - b) := by
  unfold iI
  first
    | exact (Int32.ofInt_sub a b).symm
    | (apply Int32.toBitVec_inj.mp; simp [BitVec.ofInt_sub])
theorem iI_mul (a b : Int) : iI a * iI b = iI (a * b) := by
  unfold iI
  first
    | exact (Int32.ofInt_mul a b).symm
    | (apply Int32.toBitVec_inj.mp; simp [BitVec.ofInt_mul])
theorem iI_nI {n : Nat} (h : n ≤ 1000000000) : nI n = iI n := by
  apply Int32.toInt_inj.mp
  rw [nI_toInt (by omega), iI_toInt (by omega) (by omega)]
theorem iI_lt {a b : Int} (h1 : -1000000000 ≤ a) (h2 : a ≤ 1000000000) (h3 : -1000000000 ≤ b) (h4 : b ≤ 1000000000) : iI a < iI b ↔ a < b := by
  rw [Int32.lt_iff_toInt_lt, iI_toInt h1 h2, iI_toInt h3 h4]
theorem iI_eq {a b : Int} (h1 : -1000000000 ≤ a) (h2 : a ≤ 1000000000) (h3 : -1000000000 ≤ b) (h4 : b ≤ 1000000000) : iI a = iI b ↔ a = b := by
  rw [← Int32.toInt_inj, iI_toInt h1 h2, iI_toInt h3 h4]
abbrev w_X : Type := Int × Nat × Nat
def w_st (re : Bool) (x : w_X) (t : Nat) (v : Int) (m : Nat) : w_X := if (x.1 < v ∨ (v = x.1 ∧ m < x.2.1)) ∨ (re = false ∧ x.2.2 = 0) then (v, m, t + 1) else x
abbrev w_v (P : Nat → Int) (D : Nat → Nat → Int) (tb : Nat → Nat → w_X) (s p t : Nat) : Int := P t - D p t + (tb (s ||| 2 ^ t) t).1
abbrev w_m (tb : Nat → Nat → w_X) (s t : Nat) : Nat := 1 + (tb (s ||| 2 ^ t) t).2.1
def w_fold (P : Nat → Int) (D : Nat → Nat → Int) (re : Bool) (x0 : Int) (tb : Nat → Nat → w_X) (s p : Nat) : Nat → w_X
  | 0 => (x0, 0, 0)
  | t + 1 => if s.testBit t then w_fold P D re x0 tb s p t else w_st re (w_fold P D re x0 tb s p t) t (w_v P D tb s p t) (w_m tb s t)
def w_re (wh : Bool) (T s : Nat) : Bool := !wh || decide (s + 1 = 2 ^ T)
def w_x0 (wh : Bool) (D : Nat → Nat → Int) (p : Nat) : Int := if wh then - D p 6 else 0
def w_go (wh : Bool) (T : Nat) (P : Nat → Int) (D : Nat → Nat → Int) (tb : Nat → Nat → w_X) (s p : Nat) : w_X := w_fold P D (w_re wh T s) (w_x0 wh D p) tb s p T
def w_tb (wh : Bool) (T : Nat) (P : Nat → Int) (D : Nat → Nat → Int) : Nat → Nat → Nat → w_X
  | 0 => fun _ _ => (0, 0, 0)
  | m + 1 => fun s p => if s + m + 1 = 2 ^ T then w_go wh T P D (w_tb wh T P D m) s p else w_tb wh T P D m s p
def w_W (wh : Bool) (T : Nat) (P : Nat → Int) (D : Nat → Nat → Int) : Nat → Nat → w_X := w_tb wh T P D (2 ^ T)
theorem w_or_gt {s t : Nat} (h : s.testBit t = false) : s < s ||| 2 ^ t := by
  refine Nat.lt_of_le_of_ne Nat.left_le_or (fun z => ?_)
  have h1 : (s ||| 2 ^ t).testBit t = true := by rw [Nat.testBit_or, Nat.testBit_two_pow_self, Bool.or_true]
  rw [← z, h] at h1
  exact absurd h1 (by decide)
theorem w_fold_cg {P : Nat → Int} {D : Nat → Nat → Int} {re : Bool} {x0 : Int} {tb tb' : Nat → Nat → w_X} {s p : Nat} (h : ∀ t, s.testBit t = false → tb (s ||| 2 ^ t) t = tb' (s ||| 2 ^ t) t) : ∀ T, w_fold P D re x0 tb s p T = w_fold P D re x0 tb' s p T
  | 0 => rfl
  | t + 1 => by
    rw [w_fold, w_fold, w_fold_cg h t]
    cases hb : s.testBit t
    · rw [w_v, w_m, h t hb]
    · rfl
theorem w_tb_st {wh : Bool} {T : Nat} {P : Nat → Int} {D : Nat → Nat → Int} {m s p : Nat} (h : 2 ^ T ≤ s + m) : ∀ k, w_tb wh T P D (m + k) s p = w_tb wh T P D m s p
  | 0 => rfl
  | k + 1 => by
    show (if s + (m + k) + 1 = 2 ^ T then _ else w_tb wh T P D (m + k) s p) = _
    rw [if_neg (by omega)]; exact w_tb_st h k
theorem w_W_fix {wh : Bool} {T : Nat} {P : Nat → Int} {D : Nat → Nat → Int} {s p : Nat} (h : s < 2 ^ T) : w_W wh T P D s p = w_go wh T P D (w_W wh T P D) s p := by
  obtain ⟨m, hm⟩ : ∃ m, s + m + 1 = 2 ^ T := ⟨2 ^ T - s - 1, by omega⟩
  have e1 : w_W wh T P D s p = w_tb wh T P D (m + 1) s p := by
    show w_tb wh T P D (2 ^ T) s p = _
    rw [show 2 ^ T = (m + 1) + (2 ^ T - (m + 1)) by omega]; exact w_tb_st (by omega) _
  rw [e1]
  show (if s + m + 1 = 2 ^ T then w_go wh T P D (w_tb wh T P D m) s p else w_tb wh T P D m s p) = _
  rw [if_pos hm]
  refine w_fold_cg (fun t ht => ?_) T
  have h1 := w_or_gt ht
  show _ = w_tb wh T P D (2 ^ T) (s ||| 2 ^ t) t
  rw [show 2 ^ T = m + (2 ^ T - m) by omega]; exact (w_tb_st (by omega) _).symm
theorem w_f_b {P : Nat → Int} {D : Nat → Nat → Int} {re : Bool} {x0 : Int} {tb : Nat → Nat → w_X} {s p t : Nat} (h : s.testBit t = true) : w_fold P D re x0 tb s p (t + 1) = w_fold P D re x0 tb s p t := by rw [w_fold, if_pos h]
theorem w_f_y {P : Nat → Int} {D : Nat → Nat → Int} {re : Bool} {x0 : Int} {tb : Nat → Nat → w_X} {s p t : Nat} (h : s.testBit t = false) (hc : ((w_fold P D re x0 tb s p t).1 < w_v P D tb s p t ∨ (w_v P D tb s p t = (w_fold P D re x0 tb s p t).1 ∧ w_m tb s t < (w_fold P D re x0 tb s p t).2.1)) ∨ (re = false ∧ (w_fold P D re x0 tb s p t).2.2 = 0)) : w_fold P D re x0 tb s p (t + 1) = (w_v P D tb s p t, w_m tb s t, t + 1) := by
  rw [w_fold, h, if_neg (by decide), w_st, if_pos hc]
theorem w_f_n {P : Nat → Int} {D : Nat → Nat → Int} {re : Bool} {x0 : Int} {tb : Nat → Nat → w_X} {s p t : Nat} (h : s.testBit t = false) (hc : ¬ (((w_fold P D re x0 tb s p t).1 < w_v P D tb s p t ∨ (w_v P D tb s p t = (w_fold P D re x0 tb s p t).1 ∧ w_m tb s t < (w_fold P D re x0 tb s p t).2.1)) ∨ (re = false ∧ (w_fold P D re x0 tb s p t).2.2 = 0))) : w_fold P D re x0 tb s p (t + 1) = w_fold P D re x0 tb s p t := by
  rw [w_fold, h, if_neg (by decide), w_st, if_neg hc]
/-- bounds of a row of the table -/
def w_ok (C : Int) (N : Nat) (x : w_X) : Prop := - C ≤ x.1 ∧ x.1 ≤ C ∧ x.2.1 ≤ N ∧ x.2.2 ≤ 6
abbrev w_cn (T s : Nat) : Nat := s_cnt (fun i => !s.testBit i) T
def w_PD (T : Nat) (P : Nat → Int) (D : Nat → Nat → Int) : Prop := (∀ t, t < T → 0 ≤ P t ∧ P t ≤ 300) ∧ ∀ a b, (a < T ∨ a = 6) → (b < T ∨ b = 6) → 0 ≤ D a b ∧ D a b ≤ 200
theorem w_fold_ok {P : Nat → Int} {D : Nat → Nat → Int} {re : Bool} {x0 : Int} {tb : Nat → Nat → w_X} {s p T : Nat} {C : Int} {N : Nat} (hT : T ≤ 6) (hPD : w_PD T P D) (hp : p < T ∨ p = 6) (h0 : - C ≤ x0 ∧ x0 ≤ C) (h : ∀ t, t < T → s.testBit t = false → w_ok (C - 300) (N - 1) (tb (s ||| 2 ^ t) t) ∧ 1 ≤ N) : ∀ t, t ≤ T → w_ok C N (w_fold P D re x0 tb s p t)
  | 0, _ => ⟨h0.1, h0.2, Nat.zero_le _, Nat.zero_le _⟩
  | t + 1, ht => by
    have ih := w_fold_ok (re := re) hT hPD hp h0 h t (by omega)
    cases hb : s.testBit t
    · rw [w_fold, hb, if_neg (by decide), w_st]
      split
      · obtain ⟨⟨h1, h2, h3, h4⟩, h5⟩ := h t (by omega) hb
        have h6 := hPD.1 t (by omega)
        have h7 := hPD.2 p t hp (.inl (by omega))
        refine ⟨?_, ?_, ?_, ?_⟩
        · show - C ≤ P t - D p t + (tb (s ||| 2 ^ t) t).1
          omega
        · show P t - D p t + (tb (s ||| 2 ^ t) t).1 ≤ C
          omega
        · show 1 + (tb (s ||| 2 ^ t) t).2.1 ≤ N
          omega
        · show t + 1 ≤ 6
          omega
      · exact ih
    · rw [w_f_b hb]; exact ih
theorem w_cn_or {T s t : Nat} (ht : t < T) (h : s.testBit t = false) : w_cn T (s ||| 2 ^ t) + 1 = w_cn T s := by
  have q := s_cnt_ud (p := fun i => !s.testBit i) (q := fun i => !(s ||| 2 ^ t).testBit i) (i := t) (n := T) ht (fun k hk => by
    show (!(s ||| 2 ^ t).testBit k) = (!s.testBit k)
    rw [Nat.testBit_or, Nat.testBit_two_pow_of_ne (fun z => hk z.symm), Bool.or_false])
  have e1 : (s ||| 2 ^ t).testBit t = true := by rw [Nat.testBit_or, Nat.testBit_two_pow_self, Bool.or_true]
  rw [h, e1] at q
  have q2 : w_cn T (s ||| 2 ^ t) + 1 = w_cn T s + 0 := q
  omega
theorem w_or_lt {T s t : Nat} (ht : t < T) (h : s < 2 ^ T) : s ||| 2 ^ t < 2 ^ T := Nat.or_lt_two_pow h (Nat.pow_lt_pow_right (by decide) ht)
theorem w_W_ok {wh : Bool} {T : Nat} {P : Nat → Int} {D : Nat → Nat → Int} (hT : T ≤ 6) (hPD : w_PD T P D) : ∀ (n s : Nat) {p : Nat}, w_cn T s = n → s < 2 ^ T → (p < T ∨ p = 6) → w_ok (500 * ((n : Int) + 1)) n (w_W wh T P D s p)
  | n, s, p, hn, hs, hp => by
    rw [w_W_fix hs]
    have hD := hPD.2 p 6 hp (.inr rfl)
    refine w_fold_ok hT hPD hp ?_ (fun t ht hb => ?_) T (Nat.le_refl _)
    · unfold w_x0
      split <;> constructor <;> omega
    · have h1 := w_cn_or ht hb
      have h2 := w_W_ok (wh := wh) hT hPD (n - 1) (s ||| 2 ^ t) (p := t) (by omega) (w_or_lt ht hs) (.inl ht)
      obtain ⟨a1, a2, a3, a4⟩ := h2
      have e : ((n - 1 : Nat) : Int) = (n : Int) - 1 := by omega
      rw [e] at a1 a2
      exact ⟨⟨by omega, by omega, a3, a4⟩, by omega⟩
  termination_by n => n
  decreasing_by omega
theorem sh137 : x_shape[137]? = some (.inl (8, [some (some (.ref 138)), some (some (.ref 139)), some (some (.ref 140)), some (some (.ref 141)), some (some (.ref 142)), some (some (.ref 143)), none, none])) := by rfl
theorem iI_neg (a : Int) : - iI a = iI (- a) := by
  unfold iI
  first
    | exact (Int32.ofInt_neg a).symm
    | (apply Int32.toBitVec_inj.mp; simp [BitVec.ofInt_neg])
section WAYS
variable (sc : Nat × (Nat → Int32)) (d : Nat) (μ : x_Me) (w : Int64)
set_option maxHeartbeats 4000000 in
theorem tX10_goOn (wh : Bool) (T s p : Nat) (P : Nat → Int) (D : Nat → Nat → Int) (tb : Nat → Nat → w_X) (hT : T ≤ 6) (hs : s < 2 ^ T) (hp : p < T ∨ p = 6) (hPD : w_PD T P D) (hP : ∀ t, t < T → μ 142 t = iI (P t)) (hD : ∀ a b, (a < T ∨ a = 6) → (b < T ∨ b = 6) → μ 141 (7 * a + b) = iI (D a b)) (hB : ∀ t, t < T → s.testBit t = false → μ 138 (7 * (s ||| 2 ^ t) + t) = iI (tb (s ||| 2 ^ t) t).1 ∧ μ 139 (7 * (s ||| 2 ^ t) + t) = nI (tb (s ||| 2 ^ t) t).2.1) (hok : ∀ t, t < T → s.testBit t = false → w_ok 5000 6 (tb (s ||| 2 ^ t) t)) : x_K sc (d + 1) mX10_goOn [.ref 137, .int (nI T), .int (nI s), .int (nI p), .int (if wh then 1 else 0)] μ w (fun r μ' _ => r = none ∧ μ' 138 = upd (μ 138) (7 * s + p) (iI (w_go wh T P D tb s p).1) ∧ μ' 139 = upd (μ 139) (7 * s + p) (nI (w_go wh T P D tb s p).2.1) ∧ μ' 140 = upd (μ 140) (7 * s + p) (eI (w_go wh T P D tb s p).2.2) ∧ ∀ a, a ≠ 138 → a ≠ 139 → a ≠ 140 → μ' a = μ a) := by
  have h64 : 2 ^ T ≤ 2 ^ 6 := Nat.pow_le_pow_right (by decide) hT
  have hx0 : - 5300 ≤ w_x0 wh D p ∧ w_x0 wh D p ≤ 5300 := by
    have := hPD.2 p 6 hp (.inr rfl)
    unfold w_x0
    split <;> constructor <;> omega
  have hfo : ∀ t, t ≤ T → w_ok 5300 7 (w_fold P D (w_re wh T s) (w_x0 wh D p) tb s p t) := fun t ht => w_fold_ok (tb := tb) (s := s) (C := 5300) (N := 7) hT hPD hp hx0 (fun t ht hb => ⟨hok t ht hb, by decide⟩) t ht
  refine x_K.of (by decide) (Nat.le_of_ble_eq_true rfl) ?_
  show x_T sc (d + 1) mX10_goOn 0 [.ref 137, .int (nI T), .int (nI s), .int (nI p), .int (if wh then 1 else 0), .retAddr 0, .retAddr 0, .retAddr 0, .retAddr 0, .retAddr 0, .retAddr 0, .retAddr 0, .retAddr 0, .retAddr 0] [] μ w _
  have L56 : ∀ (n56 t : Nat) (v10 v11 v12 v13 : Value), t + n56 = T → x_T sc (d + 1) mX10_goOn 56 [.ref 137, .int (nI T), .int (nI s), .int (nI p), .int (if wh then 1 else 0), .int (if w_re wh T s then 1 else 0), .int (iI (w_fold P D (w_re wh T s) (w_x0 wh D p) tb s p t).1), .int (nI (w_fold P D (w_re wh T s) (w_x0 wh D p) tb s p t).2.1), .int (eI (w_fold P D (w_re wh T s) (w_x0 wh D p) tb s p t).2.2), .int (nI t), v10, v11, v12, v13] [] μ w (fun r μ' _ => r = none ∧ μ' 138 = upd (μ 138) (7 * s + p) (iI (w_go wh T P D tb s p).1) ∧ μ' 139 = upd (μ 139) (7 * s + p) (nI (w_go wh T P D tb s p).2.1) ∧ μ' 140 = upd (μ 140) (7 * s + p) (eI (w_go wh T P D tb s p).2.2) ∧ ∀ a, a ≠ 138 → a ≠ 139 → a ≠ 140 → μ' a = μ a) := by
    intro n56
    induction n56 with
    | zero =>
      intro t v10 v11 v12 v13 hmn
      obtain rfl : T = t := by omega
      rw [show (w_fold P D (w_re wh T s) (w_x0 wh D p) tb s p T) = (w_go wh T P D tb s p) from rfl]
      refine xt_iload _ dX10_goOn_56 rfl ?_
      refine xt_iload_n _ dX10_goOn_58 rfl ?_
      refine xt_icmp_ge 199 dX10_goOn_59 (by decide) (fun _ => ?_) (fun q => absurd (Int32.le_refl _) q)
      refine xt_bipush (7) dX10_goOn_199 (by decide) ?_
      refine xt_iload_n _ dX10_goOn_201 rfl ?_
      refine xt_imul dX10_goOn_202 ?_
      refine xt_iload_n _ dX10_goOn_203 rfl ?_
      refine xt_iadd dX10_goOn_204 ?_
      rw [show (7 : Int32) * nI s + nI p = nI (7 * s + p) by rw [show (7 : Int32) = nI 7 from rfl, pk_mul, nI_add]]
      refine xt_istore dX10_goOn_205 (by decide) rfl ?_
      change x_T _ _ _ _ [_, _, _, _, _, _, _, _, _, _, _, _, _, _] _ _ _ _
      refine xt_aload_n _ dX10_goOn_207 rfl ?_
      refine xt_getr _ dX10_goOn_208 kfX10_11 (by first | exact sh137 | rfl | assumption) rfl ?_
      refine xt_iload _ dX10_goOn_211 rfl ?_
      refine xt_iload _ dX10_goOn_213 rfl ?_
      refine xt_cS0 _ dX10_goOn_215 klX10_75 (tX8_set sc _ _ _ (k := 138) (n := 448) rfl (by decide) _ _) rfl rfl (Nat.le_of_ble_eq_true rfl) ?_
      rw [s_set_ix (by omega) (by decide)]
      refine xt_aload_n _ dX10_goOn_218 rfl ?_
      refine xt_getr _ dX10_goOn_219 kfX10_15 (by first | exact sh137 | rfl | assumption) rfl ?_
      refine xt_iload _ dX10_goOn_222 rfl ?_
      refine xt_iload _ dX10_goOn_224 rfl ?_
      refine xt_cS0 _ dX10_goOn_226 klX10_75 (tX8_set sc _ _ _ (k := 139) (n := 448) rfl (by decide) _ _) rfl rfl (Nat.le_of_ble_eq_true rfl) ?_
      rw [s_set_ix (by omega) (by decide)]
      refine xt_aload_n _ dX10_goOn_229 rfl ?_
      refine xt_getr _ dX10_goOn_230 kfX10_18 (by first | exact sh137 | rfl | assumption) rfl ?_
      refine xt_iload _ dX10_goOn_233 rfl ?_
      refine xt_iload _ dX10_goOn_235 rfl ?_
      refine xt_cS0 _ dX10_goOn_237 klX10_75 (tX8_set sc _ _ _ (k := 140) (n := 448) rfl (by decide) _ _) rfl rfl (Nat.le_of_ble_eq_true rfl) ?_
      rw [s_set_ix (by omega) (by decide)]
      exact xt_ret dX10_goOn_240 rfl ⟨rfl, by rw [x_u_ne (by decide), x_u_ne (by decide), x_u_eq], by rw [x_u_ne (by decide), x_u_eq, x_u_ne (by decide)], by rw [x_u_eq, x_u_ne (by decide), x_u_ne (by decide)], fun a h1 h2 h3 => by rw [x_u_ne h3, x_u_ne h2, x_u_ne h1]⟩
    | succ n56 ih56 =>
      intro t v10 v11 v12 v13 hmn
      have hlt_t : t < T := by omega
      obtain ⟨x1, x2, x3, x4⟩ := hfo t (by omega)
      refine xt_iload _ dX10_goOn_56 rfl ?_
      refine xt_iload_n _ dX10_goOn_58 rfl ?_
      refine xt_icmp_ge 199 dX10_goOn_59 (by decide) (fun q => absurd q (nI_ge hlt_t (by omega))) (fun _ => ?_)
      refine xt_iload_n _ dX10_goOn_62 rfl ?_
      refine xt_iload _ dX10_goOn_63 rfl ?_
      refine xt_ishr dX10_goOn_65 ?_
      refine xt_iconst (1) dX10_goOn_66 (by decide) ?_
      refine xt_iand dX10_goOn_67 ?_
      refine xt_if_eq 74 dX10_goOn_68 (by decide) (fun t68 => ?_) (fun f68 => ?_)
      · have hb : s.testBit t = false := (s_sh1 s (by omega) t (by omega)).mp t68
        have hor := w_or_lt hlt_t hs
        obtain ⟨b1, b2, b3, b4⟩ := hok t hlt_t hb
        have hPt := hPD.1 t hlt_t
        have hDt := hPD.2 p t hp (.inl hlt_t)
        refine xt_bipush (7) dX10_goOn_74 (by decide) ?_
        refine xt_iload_n _ dX10_goOn_76 rfl ?_
        refine xt_iconst (1) dX10_goOn_77 (by decide) ?_
        refine xt_iload _ dX10_goOn_78 rfl ?_
        refine xt_ishl dX10_goOn_80 ?_
        refine xt_ior dX10_goOn_81 ?_
        refine xt_imul dX10_goOn_82 ?_
        refine xt_iload _ dX10_goOn_83 rfl ?_
        refine xt_iadd dX10_goOn_85 ?_
        rw [show (7 : Int32) * (nI s ||| ((1 : Int32) <<< (nI t &&& 31))) + nI t = nI (7 * (s ||| 2 ^ t) + t) by rw [x_1sh (by omega), nI_or, show (7 : Int32) = nI 7 from rfl, pk_mul, nI_add]]
        refine xt_istore dX10_goOn_86 (by decide) rfl ?_
        change x_T _ _ _ _ [_, _, _, _, _, _, _, _, _, _, _, _, _, _] _ _ _ _
        refine xt_aload_n _ dX10_goOn_88 rfl ?_
        refine xt_getr _ dX10_goOn_89 kfX10_24 (by first | exact sh137 | rfl | assumption) rfl ?_
        refine xt_iload _ dX10_goOn_92 rfl ?_
        refine xt_cS _ dX10_goOn_94 klX10_65 (tX8_at sc _ _ _ (k := 142) (n := 6) rfl (by decide) _) rfl rfl (Nat.le_of_ble_eq_true rfl) ?_
        rw [s_at_ix (j := t) (by omega) (by decide) rfl]
        rw [hP t hlt_t]
        refine xt_aload_n _ dX10_goOn_97 rfl ?_
        refine xt_getr _ dX10_goOn_98 kfX10_21 (by first | exact sh137 | rfl | assumption) rfl ?_
        refine xt_bipush (7) dX10_goOn_101 (by decide) ?_
        refine xt_iload_n _ dX10_goOn_103 rfl ?_
        refine xt_imul dX10_goOn_104 ?_
        refine xt_iload _ dX10_goOn_105 rfl ?_
        refine xt_iadd dX10_goOn_107 ?_
        rw [show (7 : Int32) * nI p + nI t = nI (7 * p + t) by rw [show (7 : Int32) = nI 7 from rfl, pk_mul, nI_add]]
        refine xt_cS _ dX10_goOn_108 klX10_65 (tX8_at sc _ _ _ (k := 141) (n := 49) rfl (by decide) _) rfl rfl (Nat.le_of_ble_eq_true rfl) ?_
        rw [s_at_ix (j := 7 * p + t) (by omega) (by decide) rfl]
        rw [hD p t hp (.inl hlt_t)]
        refine xt_isub dX10_goOn_111 ?_
        refine xt_aload_n _ dX10_goOn_112 rfl ?_
        refine xt_getr _ dX10_goOn_113 kfX10_11 (by first | exact sh137 | rfl | assumption) rfl ?_
        refine xt_iload _ dX10_goOn_116 rfl ?_
        refine xt_cS _ dX10_goOn_118 klX10_65 (tX8_at sc _ _ _ (k := 138) (n := 448) rfl (by decide) _) rfl rfl (Nat.le_of_ble_eq_true rfl) ?_
        rw [s_at_ix (j := (7 * (s ||| 2 ^ t) + t)) (by omega) (by decide) rfl]
        rw [(hB t hlt_t hb).1]
        refine xt_iadd dX10_goOn_121 ?_
        rw [iI_sub, iI_add]
        refine xt_istore dX10_goOn_122 (by decide) rfl ?_
        change x_T _ _ _ _ [_, _, _, _, _, _, _, _, _, _, _, _, _, _] _ _ _ _
        refine xt_iconst (1) dX10_goOn_124 (by decide) ?_
        refine xt_aload_n _ dX10_goOn_125 rfl ?_
        refine xt_getr _ dX10_goOn_126 kfX10_15 (by first | exact sh137 | rfl | assumption) rfl ?_
        refine xt_iload _ dX10_goOn_129 rfl ?_
        refine xt_cS _ dX10_goOn_131 klX10_65 (tX8_at sc _ _ _ (k := 139) (n := 448) rfl (by decide) _) rfl rfl (Nat.le_of_ble_eq_true rfl) ?_
        rw [s_at_ix (j := (7 * (s ||| 2 ^ t) + t)) (by omega) (by decide) rfl]
        rw [(hB t hlt_t hb).2]
        refine xt_iadd dX10_goOn_134 ?_
        rw [show (1 : Int32) + nI (tb (s ||| 2 ^ t) t).2.1 = nI (1 + (tb (s ||| 2 ^ t) t).2.1) from nI_add 1 (tb (s ||| 2 ^ t) t).2.1]
        refine xt_istore dX10_goOn_135 (by decide) rfl ?_
        change x_T _ _ _ _ [_, _, _, _, _, _, _, _, _, _, _, _, _, _] _ _ _ _
        have g1 := iI_lt (a := (w_fold P D (w_re wh T s) (w_x0 wh D p) tb s p t).1) (b := (P t - D p t + (tb (s ||| 2 ^ t) t).1)) (by omega) (by omega) (by omega) (by omega)
        have g2 := iI_eq (a := (P t - D p t + (tb (s ||| 2 ^ t) t).1)) (b := (w_fold P D (w_re wh T s) (w_x0 wh D p) tb s p t).1) (by omega) (by omega) (by omega) (by omega)
        refine xt_iload _ dX10_goOn_137 rfl ?_
        refine xt_iload _ dX10_goOn_139 rfl ?_
        refine xt_icmp_gt 158 dX10_goOn_141 (by decide) (fun t141 => ?_) (fun f141 => ?_)
        · refine xt_iconst (1) dX10_goOn_158 (by decide) ?_
          refine xt_goto 163 dX10_goOn_159 (by decide) ?_
          refine xt_istore dX10_goOn_163 (by decide) rfl ?_
          change x_T _ _ _ _ [_, _, _, _, _, _, _, _, _, _, _, _, _, _] _ _ _ _
          refine xt_iload _ dX10_goOn_165 rfl ?_
          refine xt_if_ne 181 dX10_goOn_167 (by decide) (fun _ => ?_) (fun q => absurd q (by decide))
          refine xt_iload _ dX10_goOn_181 rfl ?_
          refine xt_istore dX10_goOn_183 (by decide) rfl ?_
          change x_T _ _ _ _ [_, _, _, _, _, _, _, _, _, _, _, _, _, _] _ _ _ _
          refine xt_iload _ dX10_goOn_185 rfl ?_
          refine xt_istore dX10_goOn_187 (by decide) rfl ?_
          change x_T _ _ _ _ [_, _, _, _, _, _, _, _, _, _, _, _, _, _] _ _ _ _
          refine xt_iload _ dX10_goOn_189 rfl ?_
          refine xt_istore dX10_goOn_191 (by decide) rfl ?_
          change x_T _ _ _ _ [_, _, _, _, _, _, _, _, _, _, _, _, _, _] _ _ _ _
          refine xt_inc _ (1) dX10_goOn_193 rfl (by decide) (by decide) rfl ?_
          change x_T _ _ _ _ [_, _, _, _, _, _, _, _, _, _, _, _, _, _] _ _ _ _
          refine xt_goto 56 dX10_goOn_196 (by decide) ?_
          have es : (w_fold P D (w_re wh T s) (w_x0 wh D p) tb s p (t + 1)) = ((P t - D p t + (tb (s ||| 2 ^ t) t).1), 1 + (tb (s ||| 2 ^ t) t).2.1, t + 1) := w_f_y hb (.inl (.inl (g1.mp t141)))
          refine x_T.ls ?_ (ih56 (t + 1) (.int (nI (7 * (s ||| 2 ^ t) + t))) (.int (iI (P t - D p t + (tb (s ||| 2 ^ t) t).1))) (.int (nI (1 + (tb (s ||| 2 ^ t) t).2.1))) (.int 1) (by omega))
          rw [es]
          dsimp only
          rw [eI_s, nI_succ t]
        · refine xt_iload _ dX10_goOn_144 rfl ?_
          refine xt_iload _ dX10_goOn_146 rfl ?_
          refine xt_icmp_ne 162 dX10_goOn_148 (by decide) (fun t148 => ?_) (fun f148 => ?_)
          · refine xt_iconst (0) dX10_goOn_162 (by decide) ?_
            refine xt_istore dX10_goOn_163 (by decide) rfl ?_
            change x_T _ _ _ _ [_, _, _, _, _, _, _, _, _, _, _, _, _, _] _ _ _ _
            refine xt_iload _ dX10_goOn_165 rfl ?_
            refine xt_if_ne 181 dX10_goOn_167 (by decide) (fun q => absurd (by decide) q) (fun _ => ?_)
            refine xt_iload _ dX10_goOn_170 rfl ?_
            refine xt_if_ne 193 dX10_goOn_172 (by decide) (fun t172 => ?_) (fun f172 => ?_)
            · refine xt_inc _ (1) dX10_goOn_193 rfl (by decide) (by decide) rfl ?_
              change x_T _ _ _ _ [_, _, _, _, _, _, _, _, _, _, _, _, _, _] _ _ _ _
              refine xt_goto 56 dX10_goOn_196 (by decide) ?_
              have es : (w_fold P D (w_re wh T s) (w_x0 wh D p) tb s p (t + 1)) = (w_fold P D (w_re wh T s) (w_x0 wh D p) tb s p t) := by
                refine w_f_n hb (fun z => ?_)
                rcases z with (z | z) | z
                · exact f141 (g1.mpr z)
                · exact t148 (g2.mpr z.1)
                · rw [s_if1 t172] at z; exact absurd z.1 (by decide)
              refine x_T.ls ?_ (ih56 (t + 1) (.int (nI (7 * (s ||| 2 ^ t) + t))) (.int (iI (P t - D p t + (tb (s ||| 2 ^ t) t).1))) (.int (nI (1 + (tb (s ||| 2 ^ t) t).2.1))) (.int 0) (by omega))
              rw [es, nI_succ t]
            · refine xt_iload _ dX10_goOn_175 rfl ?_
              refine xt_iconst (-1) dX10_goOn_177 (by decide) ?_
              refine xt_icmp_ne 193 dX10_goOn_178 (by decide) (fun t178 => ?_) (fun f178 => ?_)
              · refine xt_inc _ (1) dX10_goOn_193 rfl (by decide) (by decide) rfl ?_
                change x_T _ _ _ _ [_, _, _, _, _, _, _, _, _, _, _, _, _, _] _ _ _ _
                refine xt_goto 56 dX10_goOn_196 (by decide) ?_
                have es : (w_fold P D (w_re wh T s) (w_x0 wh D p) tb s p (t + 1)) = (w_fold P D (w_re wh T s) (w_x0 wh D p) tb s p t) := by
                  refine w_f_n hb (fun z => ?_)
                  rcases z with (z | z) | z
                  · exact f141 (g1.mpr z)
                  · exact t148 (g2.mpr z.1)
                  · exact t178 ((eI_m1 (by omega)).mpr z.2)
                refine x_T.ls ?_ (ih56 (t + 1) (.int (nI (7 * (s ||| 2 ^ t) + t))) (.int (iI (P t - D p t + (tb (s ||| 2 ^ t) t).1))) (.int (nI (1 + (tb (s ||| 2 ^ t) t).2.1))) (.int 0) (by omega))
                rw [es, nI_succ t]
              · refine xt_iload _ dX10_goOn_181 rfl ?_
                refine xt_istore dX10_goOn_183 (by decide) rfl ?_
                change x_T _ _ _ _ [_, _, _, _, _, _, _, _, _, _, _, _, _, _] _ _ _ _
                refine xt_iload _ dX10_goOn_185 rfl ?_
                refine xt_istore dX10_goOn_187 (by decide) rfl ?_
                change x_T _ _ _ _ [_, _, _, _, _, _, _, _, _, _, _, _, _, _] _ _ _ _
                refine xt_iload _ dX10_goOn_189 rfl ?_
                refine xt_istore dX10_goOn_191 (by decide) rfl ?_
                change x_T _ _ _ _ [_, _, _, _, _, _, _, _, _, _, _, _, _, _] _ _ _ _
                refine xt_inc _ (1) dX10_goOn_193 rfl (by decide) (by decide) rfl ?_
                change x_T _ _ _ _ [_, _, _, _, _, _, _, _, _, _, _, _, _, _] _ _ _ _
                refine xt_goto 56 dX10_goOn_196 (by decide) ?_
                have es : (w_fold P D (w_re wh T s) (w_x0 wh D p) tb s p (t + 1)) = ((P t - D p t + (tb (s ||| 2 ^ t) t).1), 1 + (tb (s ||| 2 ^ t) t).2.1, t + 1) := w_f_y hb (.inr ⟨s_if0 f172, (eI_m1 (by omega)).mp f178⟩)
                refine x_T.ls ?_ (ih56 (t + 1) (.int (nI (7 * (s ||| 2 ^ t) + t))) (.int (iI (P t - D p t + (tb (s ||| 2 ^ t) t).1))) (.int (nI (1 + (tb (s ||| 2 ^ t) t).2.1))) (.int 0) (by omega))
                rw [es]
                dsimp only
                rw [eI_s, nI_succ t]
          · refine xt_iload _ dX10_goOn_151 rfl ?_
            refine xt_iload _ dX10_goOn_153 rfl ?_
            refine xt_icmp_ge 162 dX10_goOn_155 (by decide) (fun t155 => ?_) (fun f155 => ?_)
            · have n155 : (w_fold P D (w_re wh T s) (w_x0 wh D p) tb s p t).2.1 ≤ (1 + (tb (s ||| 2 ^ t) t).2.1) := (nI_leI (a := (w_fold P D (w_re wh T s) (w_x0 wh D p) tb s p t).2.1) (b := (1 + (tb (s ||| 2 ^ t) t).2.1)) (by omega) (by omega)).mp t155
              refine xt_iconst (0) dX10_goOn_162 (by decide) ?_
              refine xt_istore dX10_goOn_163 (by decide) rfl ?_
              change x_T _ _ _ _ [_, _, _, _, _, _, _, _, _, _, _, _, _, _] _ _ _ _
              refine xt_iload _ dX10_goOn_165 rfl ?_
              refine xt_if_ne 181 dX10_goOn_167 (by decide) (fun q => absurd (by decide) q) (fun _ => ?_)
              refine xt_iload _ dX10_goOn_170 rfl ?_
              refine xt_if_ne 193 dX10_goOn_172 (by decide) (fun t172 => ?_) (fun f172 => ?_)
              · refine xt_inc _ (1) dX10_goOn_193 rfl (by decide) (by decide) rfl ?_
                change x_T _ _ _ _ [_, _, _, _, _, _, _, _, _, _, _, _, _, _] _ _ _ _
                refine xt_goto 56 dX10_goOn_196 (by decide) ?_
                have es : (w_fold P D (w_re wh T s) (w_x0 wh D p) tb s p (t + 1)) = (w_fold P D (w_re wh T s) (w_x0 wh D p) tb s p t) := by
                  refine w_f_n hb (fun z => ?_)
                  rcases z with (z | z) | z
                  · exact f141 (g1.mpr z)
                  · have z2 : 1 + (tb (s ||| 2 ^ t) t).2.1 < (w_fold P D (w_re wh T s) (w_x0 wh D p) tb s p t).2.1 := z.2
                    omega
                  · rw [s_if1 t172] at z; exact absurd z.1 (by decide)
                refine x_T.ls ?_ (ih56 (t + 1) (.int (nI (7 * (s ||| 2 ^ t) + t))) (.int (iI (P t - D p t + (tb (s ||| 2 ^ t) t).1))) (.int (nI (1 + (tb (s ||| 2 ^ t) t).2.1))) (.int 0) (by omega))
                rw [es, nI_succ t]
              · refine xt_iload _ dX10_goOn_175 rfl ?_
                refine xt_iconst (-1) dX10_goOn_177 (by decide) ?_
                refine xt_icmp_ne 193 dX10_goOn_178 (by decide) (fun t178 => ?_) (fun f178 => ?_)
                · refine xt_inc _ (1) dX10_goOn_193 rfl (by decide) (by decide) rfl ?_
                  change x_T _ _ _ _ [_, _, _, _, _, _, _, _, _, _, _, _, _, _] _ _ _ _
                  refine xt_goto 56 dX10_goOn_196 (by decide) ?_
                  have es : (w_fold P D (w_re wh T s) (w_x0 wh D p) tb s p (t + 1)) = (w_fold P D (w_re wh T s) (w_x0 wh D p) tb s p t) := by
                    refine w_f_n hb (fun z => ?_)
                    rcases z with (z | z) | z
                    · exact f141 (g1.mpr z)
                    · have z2 : 1 + (tb (s ||| 2 ^ t) t).2.1 < (w_fold P D (w_re wh T s) (w_x0 wh D p) tb s p t).2.1 := z.2
                      omega
                    · exact t178 ((eI_m1 (by omega)).mpr z.2)
                  refine x_T.ls ?_ (ih56 (t + 1) (.int (nI (7 * (s ||| 2 ^ t) + t))) (.int (iI (P t - D p t + (tb (s ||| 2 ^ t) t).1))) (.int (nI (1 + (tb (s ||| 2 ^ t) t).2.1))) (.int 0) (by omega))
                  rw [es, nI_succ t]
                · refine xt_iload _ dX10_goOn_181 rfl ?_
                  refine xt_istore dX10_goOn_183 (by decide) rfl ?_
                  change x_T _ _ _ _ [_, _, _, _, _, _, _, _, _, _, _, _, _, _] _ _ _ _
                  refine xt_iload _ dX10_goOn_185 rfl ?_
                  refine xt_istore dX10_goOn_187 (by decide) rfl ?_
                  change x_T _ _ _ _ [_, _, _, _, _, _, _, _, _, _, _, _, _, _] _ _ _ _
                  refine xt_iload _ dX10_goOn_189 rfl ?_
                  refine xt_istore dX10_goOn_191 (by decide) rfl ?_
                  change x_T _ _ _ _ [_, _, _, _, _, _, _, _, _, _, _, _, _, _] _ _ _ _
                  refine xt_inc _ (1) dX10_goOn_193 rfl (by decide) (by decide) rfl ?_
                  change x_T _ _ _ _ [_, _, _, _, _, _, _, _, _, _, _, _, _, _] _ _ _ _
                  refine xt_goto 56 dX10_goOn_196 (by decide) ?_
                  have es : (w_fold P D (w_re wh T s) (w_x0 wh D p) tb s p (t + 1)) = ((P t - D p t + (tb (s ||| 2 ^ t) t).1), 1 + (tb (s ||| 2 ^ t) t).2.1, t + 1) := w_f_y hb (.inr ⟨s_if0 f172, (eI_m1 (by omega)).mp f178⟩)
                  refine x_T.ls ?_ (ih56 (t + 1) (.int (nI (7 * (s ||| 2 ^ t) + t))) (.int (iI (P t - D p t + (tb (s ||| 2 ^ t) t).1))) (.int (nI (1 + (tb (s ||| 2 ^ t) t).2.1))) (.int 0) (by omega))
                  rw [es]
                  dsimp only
                  rw [eI_s, nI_succ t]
            · have n155 : ¬ ((w_fold P D (w_re wh T s) (w_x0 wh D p) tb s p t).2.1 ≤ (1 + (tb (s ||| 2 ^ t) t).2.1)) := fun z => f155 ((nI_leI (a := (w_fold P D (w_re wh T s) (w_x0 wh D p) tb s p t).2.1) (b := (1 + (tb (s ||| 2 ^ t) t).2.1)) (by omega) (by omega)).mpr z)
              refine xt_iconst (1) dX10_goOn_158 (by decide) ?_
              refine xt_goto 163 dX10_goOn_159 (by decide) ?_
              refine xt_istore dX10_goOn_163 (by decide) rfl ?_
              change x_T _ _ _ _ [_, _, _, _, _, _, _, _, _, _, _, _, _, _] _ _ _ _
              refine xt_iload _ dX10_goOn_165 rfl ?_
              refine xt_if_ne 181 dX10_goOn_167 (by decide) (fun _ => ?_) (fun q => absurd q (by decide))
              refine xt_iload _ dX10_goOn_181 rfl ?_
              refine xt_istore dX10_goOn_183 (by decide) rfl ?_
              change x_T _ _ _ _ [_, _, _, _, _, _, _, _, _, _, _, _, _, _] _ _ _ _
              refine xt_iload _ dX10_goOn_185 rfl ?_
              refine xt_istore dX10_goOn_187 (by decide) rfl ?_
              change x_T _ _ _ _ [_, _, _, _, _, _, _, _, _, _, _, _, _, _] _ _ _ _
              refine xt_iload _ dX10_goOn_189 rfl ?_
              refine xt_istore dX10_goOn_191 (by decide) rfl ?_
              change x_T _ _ _ _ [_, _, _, _, _, _, _, _, _, _, _, _, _, _] _ _ _ _
              refine xt_inc _ (1) dX10_goOn_193 rfl (by decide) (by decide) rfl ?_
              change x_T _ _ _ _ [_, _, _, _, _, _, _, _, _, _, _, _, _, _] _ _ _ _
              refine xt_goto 56 dX10_goOn_196 (by decide) ?_
              have es : (w_fold P D (w_re wh T s) (w_x0 wh D p) tb s p (t + 1)) = ((P t - D p t + (tb (s ||| 2 ^ t) t).1), 1 + (tb (s ||| 2 ^ t) t).2.1, t + 1) := w_f_y hb (.inl (.inr ⟨g2.mp f148, show 1 + (tb (s ||| 2 ^ t) t).2.1 < (w_fold P D (w_re wh T s) (w_x0 wh D p) tb s p t).2.1 by omega⟩))
              refine x_T.ls ?_ (ih56 (t + 1) (.int (nI (7 * (s ||| 2 ^ t) + t))) (.int (iI (P t - D p t + (tb (s ||| 2 ^ t) t).1))) (.int (nI (1 + (tb (s ||| 2 ^ t) t).2.1))) (.int 1) (by omega))
              rw [es]
              dsimp only
              rw [eI_s, nI_succ t]
      · refine xt_goto 193 dX10_goOn_71 (by decide) ?_
        refine xt_inc _ (1) dX10_goOn_193 rfl (by decide) (by decide) rfl ?_
        change x_T _ _ _ _ [_, _, _, _, _, _, _, _, _, _, _, _, _, _] _ _ _ _
        refine xt_goto 56 dX10_goOn_196 (by decide) ?_
        have hb : s.testBit t = true := by
          cases hq : s.testBit t
          · exact absurd ((s_sh1 s (by omega) t (by omega)).mpr hq) f68
          · rfl
        refine x_T.ls ?_ (ih56 (t + 1) v10 v11 v12 v13 (by omega))
        rw [w_f_b hb, nI_succ t]
  refine xt_iload _ dX10_goOn_0 rfl ?_
  refine xt_if_eq 14 dX10_goOn_2 (by decide) (fun t2 => ?_) (fun f2 => ?_)
  · refine xt_iconst (1) dX10_goOn_14 (by decide) ?_
    refine xt_goto 19 dX10_goOn_15 (by decide) ?_
    refine xt_istore dX10_goOn_19 (by decide) rfl ?_
    change x_T _ _ _ _ [_, _, _, _, _, _, _, _, _, _, _, _, _, _] _ _ _ _
    refine xt_iload _ dX10_goOn_21 rfl ?_
    refine xt_if_eq 44 dX10_goOn_23 (by decide) (fun t23 => ?_) (fun f23 => ?_)
    · refine xt_iconst (0) dX10_goOn_44 (by decide) ?_
      refine xt_istore dX10_goOn_45 (by decide) rfl ?_
      change x_T _ _ _ _ [_, _, _, _, _, _, _, _, _, _, _, _, _, _] _ _ _ _
      refine xt_iconst (0) dX10_goOn_47 (by decide) ?_
      refine xt_istore dX10_goOn_48 (by decide) rfl ?_
      change x_T _ _ _ _ [_, _, _, _, _, _, _, _, _, _, _, _, _, _] _ _ _ _
      refine xt_iconst (-1) dX10_goOn_50 (by decide) ?_
      refine xt_istore dX10_goOn_51 (by decide) rfl ?_
      change x_T _ _ _ _ [_, _, _, _, _, _, _, _, _, _, _, _, _, _] _ _ _ _
      refine xt_iconst (0) dX10_goOn_53 (by decide) ?_
      refine xt_istore dX10_goOn_54 (by decide) rfl ?_
      change x_T _ _ _ _ [_, _, _, _, _, _, _, _, _, _, _, _, _, _] _ _ _ _
      have hw := s_if0 t2
      have e1 : w_re wh T s = true := by rw [w_re, hw]; rfl
      have e2 : iI (w_x0 wh D p) = 0 := by rw [hw]; rfl
      have e3 : (w_fold P D (w_re wh T s) (w_x0 wh D p) tb s p 0) = (w_x0 wh D p, 0, 0) := rfl
      refine x_T.ls ?_ (L56 T 0 (.retAddr 0) (.retAddr 0) (.retAddr 0) (.retAddr 0) (by omega))
      rw [e3, e1]
      dsimp only
      rw [e2, eI_0]
      try rfl
    · refine xt_aload_n _ dX10_goOn_26 rfl ?_
      refine xt_getr _ dX10_goOn_27 kfX10_21 (by first | exact sh137 | rfl | assumption) rfl ?_
      refine xt_bipush (7) dX10_goOn_30 (by decide) ?_
      refine xt_iload_n _ dX10_goOn_32 rfl ?_
      refine xt_imul dX10_goOn_33 ?_
      refine xt_bipush (6) dX10_goOn_34 (by decide) ?_
      refine xt_iadd dX10_goOn_36 ?_
      rw [show (7 : Int32) * nI p + 6 = nI (7 * p + 6) by rw [show (7 : Int32) = nI 7 from rfl, show (6 : Int32) = nI 6 from rfl, pk_mul, nI_add]]
      refine xt_cS _ dX10_goOn_37 klX10_65 (tX8_at sc _ _ _ (k := 141) (n := 49) rfl (by decide) _) rfl rfl (Nat.le_of_ble_eq_true rfl) ?_
      rw [s_at_ix (j := 7 * p + 6) (by omega) (by decide) rfl]
      rw [hD p 6 hp (.inr rfl)]
      refine xt_ineg dX10_goOn_40 ?_
      refine xt_goto 45 dX10_goOn_41 (by decide) ?_
      refine xt_istore dX10_goOn_45 (by decide) rfl ?_
      change x_T _ _ _ _ [_, _, _, _, _, _, _, _, _, _, _, _, _, _] _ _ _ _
      refine xt_iconst (0) dX10_goOn_47 (by decide) ?_
      refine xt_istore dX10_goOn_48 (by decide) rfl ?_
      change x_T _ _ _ _ [_, _, _, _, _, _, _, _, _, _, _, _, _, _] _ _ _ _
      refine xt_iconst (-1) dX10_goOn_50 (by decide) ?_
      refine xt_istore dX10_goOn_51 (by decide) rfl ?_
      change x_T _ _ _ _ [_, _, _, _, _, _, _, _, _, _, _, _, _, _] _ _ _ _
      refine xt_iconst (0) dX10_goOn_53 (by decide) ?_
      refine xt_istore dX10_goOn_54 (by decide) rfl ?_
      change x_T _ _ _ _ [_, _, _, _, _, _, _, _, _, _, _, _, _, _] _ _ _ _
      exact absurd t2 f23
  · refine xt_iload_n _ dX10_goOn_5 rfl ?_
    refine xt_iconst (1) dX10_goOn_6 (by decide) ?_
    refine xt_iload_n _ dX10_goOn_7 rfl ?_
    refine xt_ishl dX10_goOn_8 ?_
    refine xt_iconst (1) dX10_goOn_9 (by decide) ?_
    refine xt_isub dX10_goOn_10 ?_
    rw [x_1sh (by omega), show nI (2 ^ T) - (1 : Int32) = nI (2 ^ T - 1) from pk_sub (b := 1) Nat.one_le_two_pow]
    refine xt_icmp_ne 18 dX10_goOn_11 (by decide) (fun t11 => ?_) (fun f11 => ?_)
    · have n11 : ¬ (s = (2 ^ T - 1)) := fun z => t11 ((nI_eq (a := s) (b := (2 ^ T - 1)) (by omega) (by omega)).mpr z)
      refine xt_iconst (0) dX10_goOn_18 (by decide) ?_
      refine xt_istore dX10_goOn_19 (by decide) rfl ?_
      change x_T _ _ _ _ [_, _, _, _, _, _, _, _, _, _, _, _, _, _] _ _ _ _
      refine xt_iload _ dX10_goOn_21 rfl ?_
      refine xt_if_eq 44 dX10_goOn_23 (by decide) (fun t23 => ?_) (fun f23 => ?_)
      · refine xt_iconst (0) dX10_goOn_44 (by decide) ?_
        refine xt_istore dX10_goOn_45 (by decide) rfl ?_
        change x_T _ _ _ _ [_, _, _, _, _, _, _, _, _, _, _, _, _, _] _ _ _ _
        refine xt_iconst (0) dX10_goOn_47 (by decide) ?_
        refine xt_istore dX10_goOn_48 (by decide) rfl ?_
        change x_T _ _ _ _ [_, _, _, _, _, _, _, _, _, _, _, _, _, _] _ _ _ _
        refine xt_iconst (-1) dX10_goOn_50 (by decide) ?_
        refine xt_istore dX10_goOn_51 (by decide) rfl ?_
        change x_T _ _ _ _ [_, _, _, _, _, _, _, _, _, _, _, _, _, _] _ _ _ _
        refine xt_iconst (0) dX10_goOn_53 (by decide) ?_
        refine xt_istore dX10_goOn_54 (by decide) rfl ?_
        change x_T _ _ _ _ [_, _, _, _, _, _, _, _, _, _, _, _, _, _] _ _ _ _
        exact absurd t23 f2
      · refine xt_aload_n _ dX10_goOn_26 rfl ?_
        refine xt_getr _ dX10_goOn_27 kfX10_21 (by first | exact sh137 | rfl | assumption) rfl ?_
        refine xt_bipush (7) dX10_goOn_30 (by decide) ?_
        refine xt_iload_n _ dX10_goOn_32 rfl ?_
        refine xt_imul dX10_goOn_33 ?_
        refine xt_bipush (6) dX10_goOn_34 (by decide) ?_
        refine xt_iadd dX10_goOn_36 ?_
        rw [show (7 : Int32) * nI p + 6 = nI (7 * p + 6) by rw [show (7 : Int32) = nI 7 from rfl, show (6 : Int32) = nI 6 from rfl, pk_mul, nI_add]]
        refine xt_cS _ dX10_goOn_37 klX10_65 (tX8_at sc _ _ _ (k := 141) (n := 49) rfl (by decide) _) rfl rfl (Nat.le_of_ble_eq_true rfl) ?_
        rw [s_at_ix (j := 7 * p + 6) (by omega) (by decide) rfl]
        rw [hD p 6 hp (.inr rfl)]
        refine xt_ineg dX10_goOn_40 ?_
        refine xt_goto 45 dX10_goOn_41 (by decide) ?_
        refine xt_istore dX10_goOn_45 (by decide) rfl ?_
        change x_T _ _ _ _ [_, _, _, _, _, _, _, _, _, _, _, _, _, _] _ _ _ _
        refine xt_iconst (0) dX10_goOn_47 (by decide) ?_
        refine xt_istore dX10_goOn_48 (by decide) rfl ?_
        change x_T _ _ _ _ [_, _, _, _, _, _, _, _, _, _, _, _, _, _] _ _ _ _
        refine xt_iconst (-1) dX10_goOn_50 (by decide) ?_
        refine xt_istore dX10_goOn_51 (by decide) rfl ?_
        change x_T _ _ _ _ [_, _, _, _, _, _, _, _, _, _, _, _, _, _] _ _ _ _
        refine xt_iconst (0) dX10_goOn_53 (by decide) ?_
        refine xt_istore dX10_goOn_54 (by decide) rfl ?_
        change x_T _ _ _ _ [_, _, _, _, _, _, _, _, _, _, _, _, _, _] _ _ _ _
        have hw := s_if1 f2
        have e1 : w_re wh T s = false := by
          rw [w_re, hw]
          show decide (s + 1 = 2 ^ T) = false
          exact decide_eq_false (by omega)
        have e2 : iI (w_x0 wh D p) = - iI (D p 6) := by rw [hw, iI_neg]; rfl
        have e3 : (w_fold P D (w_re wh T s) (w_x0 wh D p) tb s p 0) = (w_x0 wh D p, 0, 0) := rfl
        refine x_T.ls ?_ (L56 T 0 (.retAddr 0) (.retAddr 0) (.retAddr 0) (.retAddr 0) (by omega))
        rw [e3, e1]
        dsimp only
        rw [e2, eI_0]
        try rfl
    · have n11 : s = (2 ^ T - 1) := (nI_eq (a := s) (b := (2 ^ T - 1)) (by omega) (by omega)).mp f11
      refine xt_iconst (1) dX10_goOn_14 (by decide) ?_
      refine xt_goto 19 dX10_goOn_15 (by decide) ?_
      refine xt_istore dX10_goOn_19 (by decide) rfl ?_
      change x_T _ _ _ _ [_, _, _, _, _, _, _, _, _, _, _, _, _, _] _ _ _ _
      refine xt_iload _ dX10_goOn_21 rfl ?_
      refine xt_if_eq 44 dX10_goOn_23 (by decide) (fun t23 => ?_) (fun f23 => ?_)
      · refine xt_iconst (0) dX10_goOn_44 (by decide) ?_
        refine xt_istore dX10_goOn_45 (by decide) rfl ?_
        change x_T _ _ _ _ [_, _, _, _, _, _, _, _, _, _, _, _, _, _] _ _ _ _
        refine xt_iconst (0) dX10_goOn_47 (by decide) ?_
        refine xt_istore dX10_goOn_48 (by decide) rfl ?_
        change x_T _ _ _ _ [_, _, _, _, _, _, _, _, _, _, _, _, _, _] _ _ _ _
        refine xt_iconst (-1) dX10_goOn_50 (by decide) ?_
        refine xt_istore dX10_goOn_51 (by decide) rfl ?_
        change x_T _ _ _ _ [_, _, _, _, _, _, _, _, _, _, _, _, _, _] _ _ _ _
        refine xt_iconst (0) dX10_goOn_53 (by decide) ?_
        refine xt_istore dX10_goOn_54 (by decide) rfl ?_
        change x_T _ _ _ _ [_, _, _, _, _, _, _, _, _, _, _, _, _, _] _ _ _ _
        exact absurd t23 f2
      · refine xt_aload_n _ dX10_goOn_26 rfl ?_
        refine xt_getr _ dX10_goOn_27 kfX10_21 (by first | exact sh137 | rfl | assumption) rfl ?_
        refine xt_bipush (7) dX10_goOn_30 (by decide) ?_
        refine xt_iload_n _ dX10_goOn_32 rfl ?_
        refine xt_imul dX10_goOn_33 ?_
        refine xt_bipush (6) dX10_goOn_34 (by decide) ?_
        refine xt_iadd dX10_goOn_36 ?_
        rw [show (7 : Int32) * nI p + 6 = nI (7 * p + 6) by rw [show (7 : Int32) = nI 7 from rfl, show (6 : Int32) = nI 6 from rfl, pk_mul, nI_add]]
        refine xt_cS _ dX10_goOn_37 klX10_65 (tX8_at sc _ _ _ (k := 141) (n := 49) rfl (by decide) _) rfl rfl (Nat.le_of_ble_eq_true rfl) ?_
        rw [s_at_ix (j := 7 * p + 6) (by omega) (by decide) rfl]
        rw [hD p 6 hp (.inr rfl)]
        refine xt_ineg dX10_goOn_40 ?_
        refine xt_goto 45 dX10_goOn_41 (by decide) ?_
        refine xt_istore dX10_goOn_45 (by decide) rfl ?_
        change x_T _ _ _ _ [_, _, _, _, _, _, _, _, _, _, _, _, _, _] _ _ _ _
        refine xt_iconst (0) dX10_goOn_47 (by decide) ?_
        refine xt_istore dX10_goOn_48 (by decide) rfl ?_
        change x_T _ _ _ _ [_, _, _, _, _, _, _, _, _, _, _, _, _, _] _ _ _ _
        refine xt_iconst (-1) dX10_goOn_50 (by decide) ?_
        refine xt_istore dX10_goOn_51 (by decide) rfl ?_
        change x_T _ _ _ _ [_, _, _, _, _, _, _, _, _, _, _, _, _, _] _ _ _ _
        refine xt_iconst (0) dX10_goOn_53 (by decide) ?_
        refine xt_istore dX10_goOn_54 (by decide) rfl ?_
        change x_T _ _ _ _ [_, _, _, _, _, _, _, _, _, _, _, _, _, _] _ _ _ _
        have hw := s_if1 f2
        have e1 : w_re wh T s = true := by
          rw [w_re, hw]
          show decide (s + 1 = 2 ^ T) = true
          exact decide_eq_true (by omega)
        have e2 : iI (w_x0 wh D p) = - iI (D p 6) := by rw [hw, iI_neg]; rfl
        have e3 : (w_fold P D (w_re wh T s) (w_x0 wh D p) tb s p 0) = (w_x0 wh D p, 0, 0) := rfl
        refine x_T.ls ?_ (L56 T 0 (.retAddr 0) (.retAddr 0) (.retAddr 0) (.retAddr 0) (by omega))
        rw [e3, e1]
        dsimp only
        rw [e2, eI_0]
        try rfl
end WAYS
