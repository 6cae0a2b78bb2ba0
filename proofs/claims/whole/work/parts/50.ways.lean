/-! ways over the TOWNS: the class's table -/
def iI (z : Int) : Int32 := Int32.ofInt z
theorem iI_toInt {z : Int} (h : -1000000000 ≤ z) (h2 : z ≤ 1000000000) : (iI z).toInt = z := by
  unfold iI
  first
    | exact Int32.toInt_ofInt_of_le (by have : Int32.minValue.toInt = -2147483648 := by decide
                                        omega) (by have : Int32.maxValue.toInt = 2147483647 := by decide
                                                   omega)
    | (rw [Int32.toInt_ofInt, Int.bmod_eq_of_le (by omega) (by omega)])
    | (rw [Int32.toInt_ofInt]; unfold Int.bmod; simp only [Int32.size]; omega)
theorem iI_add (a b : Int) : iI a + iI b = iI (a + b) := by
  unfold iI
  first
    | exact (Int32.ofInt_add a b).symm
    | (apply Int32.toBitVec_inj.mp; simp [BitVec.ofInt_add])
theorem iI_sub (a b : Int) : iI a - iI b = iI (a - b) := by
  unfold iI
  first
    | exact (Int32.ofInt_sub a b).symm
    | (apply Int32.toBitVec_inj.mp; simp [BitVec.ofInt_sub])
theorem iI_mul (a b : Int) : iI a * iI b = iI (a * b) := by
  unfold iI
  first
    | exact (Int32.ofInt_mul a b).symm
    | (apply Int32.toBitVec_inj.mp; simp [BitVec.ofInt_mul])
theorem iI_nI {n : Nat} (h : n ≤ 1000000000) : nI n = iI n := by
  apply Int32.toInt_inj.mp
  rw [nI_toInt (by omega), iI_toInt (by omega) (by omega)]
theorem iI_lt {a b : Int} (h1 : -1000000000 ≤ a) (h2 : a ≤ 1000000000) (h3 : -1000000000 ≤ b) (h4 : b ≤ 1000000000) : iI a < iI b ↔ a < b := by
  rw [Int32.lt_iff_toInt_lt, iI_toInt h1 h2, iI_toInt h3 h4]
theorem iI_eq {a b : Int} (h1 : -1000000000 ≤ a) (h2 : a ≤ 1000000000) (h3 : -1000000000 ≤ b) (h4 : b ≤ 1000000000) : iI a = iI b ↔ a = b := by
  rw [← Int32.toInt_inj, iI_toInt h1 h2, iI_toInt h3 h4]
abbrev w_X : Type := Int × Nat × Nat
def w_st (re : Bool) (x : w_X) (t : Nat) (v : Int) (m : Nat) : w_X := if (x.1 < v ∨ (v = x.1 ∧ m < x.2.1)) ∨ (re = false ∧ x.2.2 = 0) then (v, m, t + 1) else x
abbrev w_v (P : Nat → Int) (D : Nat → Nat → Int) (tb : Nat → Nat → w_X) (s p t : Nat) : Int := P t - D p t + (tb (s ||| 2 ^ t) t).1
abbrev w_m (tb : Nat → Nat → w_X) (s t : Nat) : Nat := 1 + (tb (s ||| 2 ^ t) t).2.1
def w_fold (P : Nat → Int) (D : Nat → Nat → Int) (re : Bool) (x0 : Int) (tb : Nat → Nat → w_X) (s p : Nat) : Nat → w_X
  | 0 => (x0, 0, 0)
  | t + 1 => if s.testBit t then w_fold P D re x0 tb s p t else w_st re (w_fold P D re x0 tb s p t) t (w_v P D tb s p t) (w_m tb s t)
def w_re (wh : Bool) (T s : Nat) : Bool := !wh || decide (s + 1 = 2 ^ T)
def w_x0 (wh : Bool) (D : Nat → Nat → Int) (p : Nat) : Int := if wh then - D p 6 else 0
def w_go (wh : Bool) (T : Nat) (P : Nat → Int) (D : Nat → Nat → Int) (tb : Nat → Nat → w_X) (s p : Nat) : w_X := w_fold P D (w_re wh T s) (w_x0 wh D p) tb s p T
def w_tb (wh : Bool) (T : Nat) (P : Nat → Int) (D : Nat → Nat → Int) : Nat → Nat → Nat → w_X
  | 0 => fun _ _ => (0, 0, 0)
  | m + 1 => fun s p => if s + m + 1 = 2 ^ T then w_go wh T P D (w_tb wh T P D m) s p else w_tb wh T P D m s p
def w_W (wh : Bool) (T : Nat) (P : Nat → Int) (D : Nat → Nat → Int) : Nat → Nat → w_X := w_tb wh T P D (2 ^ T)
theorem w_or_gt {s t : Nat} (h : s.testBit t = false) : s < s ||| 2 ^ t := by
  refine Nat.lt_of_le_of_ne Nat.left_le_or (fun z => ?_)
  have h1 : (s ||| 2 ^ t).testBit t = true := by rw [Nat.testBit_or, Nat.testBit_two_pow_self, Bool.or_true]
  rw [← z, h] at h1
  exact absurd h1 (by decide)
theorem w_fold_cg {P : Nat → Int} {D : Nat → Nat → Int} {re : Bool} {x0 : Int} {tb tb' : Nat → Nat → w_X} {s p : Nat} (h : ∀ t, s.testBit t = false → tb (s ||| 2 ^ t) t = tb' (s ||| 2 ^ t) t) : ∀ T, w_fold P D re x0 tb s p T = w_fold P D re x0 tb' s p T
  | 0 => rfl
  | t + 1 => by
    rw [w_fold, w_fold, w_fold_cg h t]
    cases hb : s.testBit t
    · rw [w_v, w_m, h t hb]
    · rfl
theorem w_tb_st {wh : Bool} {T : Nat} {P : Nat → Int} {D : Nat → Nat → Int} {m s p : Nat} (h : 2 ^ T ≤ s + m) : ∀ k, w_tb wh T P D (m + k) s p = w_tb wh T P D m s p
  | 0 => rfl
  | k + 1 => by
    show (if s + (m + k) + 1 = 2 ^ T then _ else w_tb wh T P D (m + k) s p) = _
    rw [if_neg (by omega)]; exact w_tb_st h k
theorem w_W_fix {wh : Bool} {T : Nat} {P : Nat → Int} {D : Nat → Nat → Int} {s p : Nat} (h : s < 2 ^ T) : w_W wh T P D s p = w_go wh T P D (w_W wh T P D) s p := by
  obtain ⟨m, hm⟩ : ∃ m, s + m + 1 = 2 ^ T := ⟨2 ^ T - s - 1, by omega⟩
  have e1 : w_W wh T P D s p = w_tb wh T P D (m + 1) s p := by
    show w_tb wh T P D (2 ^ T) s p = _
    rw [show 2 ^ T = (m + 1) + (2 ^ T - (m + 1)) by omega]; exact w_tb_st (by omega) _
  rw [e1]
  show (if s + m + 1 = 2 ^ T then w_go wh T P D (w_tb wh T P D m) s p else w_tb wh T P D m s p) = _
  rw [if_pos hm]
  refine w_fold_cg (fun t ht => ?_) T
  have h1 := w_or_gt ht
  show _ = w_tb wh T P D (2 ^ T) (s ||| 2 ^ t) t
  rw [show 2 ^ T = m + (2 ^ T - m) by omega]; exact (w_tb_st (by omega) _).symm
theorem w_f_b {P : Nat → Int} {D : Nat → Nat → Int} {re : Bool} {x0 : Int} {tb : Nat → Nat → w_X} {s p t : Nat} (h : s.testBit t = true) : w_fold P D re x0 tb s p (t + 1) = w_fold P D re x0 tb s p t := by rw [w_fold, if_pos h]
theorem w_f_y {P : Nat → Int} {D : Nat → Nat → Int} {re : Bool} {x0 : Int} {tb : Nat → Nat → w_X} {s p t : Nat} (h : s.testBit t = false) (hc : ((w_fold P D re x0 tb s p t).1 < w_v P D tb s p t ∨ (w_v P D tb s p t = (w_fold P D re x0 tb s p t).1 ∧ w_m tb s t < (w_fold P D re x0 tb s p t).2.1)) ∨ (re = false ∧ (w_fold P D re x0 tb s p t).2.2 = 0)) : w_fold P D re x0 tb s p (t + 1) = (w_v P D tb s p t, w_m tb s t, t + 1) := by
  rw [w_fold, h, if_neg (by decide), w_st, if_pos hc]
theorem w_f_n {P : Nat → Int} {D : Nat → Nat → Int} {re : Bool} {x0 : Int} {tb : Nat → Nat → w_X} {s p t : Nat} (h : s.testBit t = false) (hc : ¬ (((w_fold P D re x0 tb s p t).1 < w_v P D tb s p t ∨ (w_v P D tb s p t = (w_fold P D re x0 tb s p t).1 ∧ w_m tb s t < (w_fold P D re x0 tb s p t).2.1)) ∨ (re = false ∧ (w_fold P D re x0 tb s p t).2.2 = 0))) : w_fold P D re x0 tb s p (t + 1) = w_fold P D re x0 tb s p t := by
  rw [w_fold, h, if_neg (by decide), w_st, if_neg hc]
/-- bounds of a row of the table -/
def w_ok (C : Int) (N : Nat) (x : w_X) : Prop := - C ≤ x.1 ∧ x.1 ≤ C ∧ x.2.1 ≤ N ∧ x.2.2 ≤ 6
abbrev w_cn (T s : Nat) : Nat := s_cnt (fun i => !s.testBit i) T
def w_PD (T : Nat) (P : Nat → Int) (D : Nat → Nat → Int) : Prop := (∀ t, t < T → 0 ≤ P t ∧ P t ≤ 300) ∧ ∀ a b, (a < T ∨ a = 6) → (b < T ∨ b = 6) → 0 ≤ D a b ∧ D a b ≤ 200
theorem w_fold_ok {P : Nat → Int} {D : Nat → Nat → Int} {re : Bool} {x0 : Int} {tb : Nat → Nat → w_X} {s p T : Nat} {C : Int} {N : Nat} (hT : T ≤ 6) (hPD : w_PD T P D) (hp : p < T ∨ p = 6) (h0 : - C ≤ x0 ∧ x0 ≤ C) (h : ∀ t, t < T → s.testBit t = false → w_ok (C - 300) (N - 1) (tb (s ||| 2 ^ t) t) ∧ 1 ≤ N) : ∀ t, t ≤ T → w_ok C N (w_fold P D re x0 tb s p t)
  | 0, _ => ⟨h0.1, h0.2, Nat.zero_le _, Nat.zero_le _⟩
  | t + 1, ht => by
    have ih := w_fold_ok (re := re) hT hPD hp h0 h t (by omega)
    cases hb : s.testBit t
    · rw [w_fold, hb, if_neg (by decide), w_st]
      split
      · obtain ⟨⟨h1, h2, h3, h4⟩, h5⟩ := h t (by omega) hb
        have h6 := hPD.1 t (by omega)
        have h7 := hPD.2 p t hp (.inl (by omega))
        refine ⟨?_, ?_, ?_, ?_⟩
        · show - C ≤ P t - D p t + (tb (s ||| 2 ^ t) t).1
          omega
        · show P t - D p t + (tb (s ||| 2 ^ t) t).1 ≤ C
          omega
        · show 1 + (tb (s ||| 2 ^ t) t).2.1 ≤ N
          omega
        · show t + 1 ≤ 6
          omega
      · exact ih
    · rw [w_f_b hb]; exact ih
theorem w_cn_or {T s t : Nat} (ht : t < T) (h : s.testBit t = false) : w_cn T (s ||| 2 ^ t) + 1 = w_cn T s := by
  have q := s_cnt_ud (p := fun i => !s.testBit i) (q := fun i => !(s ||| 2 ^ t).testBit i) (i := t) (n := T) ht (fun k hk => by
    show (!(s ||| 2 ^ t).testBit k) = (!s.testBit k)
    rw [Nat.testBit_or, Nat.testBit_two_pow_of_ne (fun z => hk z.symm), Bool.or_false])
  have e1 : (s ||| 2 ^ t).testBit t = true := by rw [Nat.testBit_or, Nat.testBit_two_pow_self, Bool.or_true]
  rw [h, e1] at q
  have q2 : w_cn T (s ||| 2 ^ t) + 1 = w_cn T s + 0 := q
  omega
theorem w_or_lt {T s t : Nat} (ht : t < T) (h : s < 2 ^ T) : s ||| 2 ^ t < 2 ^ T := Nat.or_lt_two_pow h (Nat.pow_lt_pow_right (by decide) ht)
theorem w_W_ok {wh : Bool} {T : Nat} {P : Nat → Int} {D : Nat → Nat → Int} (hT : T ≤ 6) (hPD : w_PD T P D) : ∀ (n s : Nat) {p : Nat}, w_cn T s = n → s < 2 ^ T → (p < T ∨ p = 6) → w_ok (500 * ((n : Int) + 1)) n (w_W wh T P D s p)
  | n, s, p, hn, hs, hp => by
    rw [w_W_fix hs]
    have hD := hPD.2 p 6 hp (.inr rfl)
    refine w_fold_ok hT hPD hp ?_ (fun t ht hb => ?_) T (Nat.le_refl _)
    · unfold w_x0
      split <;> constructor <;> omega
    · have h1 := w_cn_or ht hb
      have h2 := w_W_ok (wh := wh) hT hPD (n - 1) (s ||| 2 ^ t) (p := t) (by omega) (w_or_lt ht hs) (.inl ht)
      obtain ⟨a1, a2, a3, a4⟩ := h2
      have e : ((n - 1 : Nat) : Int) = (n : Int) - 1 := by omega
      rw [e] at a1 a2
      exact ⟨⟨by omega, by omega, a3, a4⟩, by omega⟩
  termination_by n => n
  decreasing_by omega
theorem sh137 : x_shape[137]? = some (.inl (8, [some (some (.ref 138)), some (some (.ref 139)), some (some (.ref 140)), some (some (.ref 141)), some (some (.ref 142)), some (some (.ref 143)), none, none])) := by rfl
theorem iI_neg (a : Int) : - iI a = iI (- a) := by
  unfold iI
  first
    | exact (Int32.ofInt_neg a).symm
    | (apply Int32.toBitVec_inj.mp; simp [BitVec.ofInt_neg])
section WAYS
variable (sc : Nat × (Nat → Int32)) (d : Nat) (μ : x_Me) (w : Int64)
set_option maxHeartbeats 4000000 in
theorem tX10_goOn (wh : Bool) (T s p : Nat) (P : Nat → Int) (D : Nat → Nat → Int) (tb : Nat → Nat → w_X) (hT : T ≤ 6) (hs : s < 2 ^ T) (hp : p < T ∨ p = 6) (hPD : w_PD T P D) (hP : ∀ t, t < T → μ 142 t = iI (P t)) (hD : ∀ a b, (a < T ∨ a = 6) → (b < T ∨ b = 6) → μ 141 (7 * a + b) = iI (D a b)) (hB : ∀ t, t < T → s.testBit t = false → μ 138 (7 * (s ||| 2 ^ t) + t) = iI (tb (s ||| 2 ^ t) t).1 ∧ μ 139 (7 * (s ||| 2 ^ t) + t) = nI (tb (s ||| 2 ^ t) t).2.1) (hok : ∀ t, t < T → s.testBit t = false → w_ok 5000 6 (tb (s ||| 2 ^ t) t)) : x_K sc (d + 1) mX10_goOn [.ref 137, .int (nI T), .int (nI s), .int (nI p), .int (if wh then 1 else 0)] μ w (fun r μ' _ => r = none ∧ μ' 138 = upd (μ 138) (7 * s + p) (iI (w_go wh T P D tb s p).1) ∧ μ' 139 = upd (μ 139) (7 * s + p) (nI (w_go wh T P D tb s p).2.1) ∧ μ' 140 = upd (μ 140) (7 * s + p) (eI (w_go wh T P D tb s p).2.2) ∧ ∀ a, a ≠ 138 → a ≠ 139 → a ≠ 140 → μ' a = μ a) := by
  have h64 : 2 ^ T ≤ 2 ^ 6 := Nat.pow_le_pow_right (by decide) hT
  have hx0 : - 5300 ≤ w_x0 wh D p ∧ w_x0 wh D p ≤ 5300 := by
    have := hPD.2 p 6 hp (.inr rfl)
    unfold w_x0
    split <;> constructor <;> omega
  have hfo : ∀ t, t ≤ T → w_ok 5300 7 (w_fold P D (w_re wh T s) (w_x0 wh D p) tb s p t) := fun t ht => w_fold_ok (tb := tb) (s := s) (C := 5300) (N := 7) hT hPD hp hx0 (fun t ht hb => ⟨hok t ht hb, by decide⟩) t ht
  refine x_K.of (by decide) (Nat.le_of_ble_eq_true rfl) ?_
  show x_T sc (d + 1) mX10_goOn 0 [.ref 137, .int (nI T), .int (nI s), .int (nI p), .int (if wh then 1 else 0), .retAddr 0, .retAddr 0, .retAddr 0, .retAddr 0, .retAddr 0, .retAddr 0, .retAddr 0, .retAddr 0, .retAddr 0] [] μ w _
  have L56 : ∀ (n56 t : Nat) (v10 v11 v12 v13 : Value), t + n56 = T → x_T sc (d + 1) mX10_goOn 56 [.ref 137, .int (nI T), .int (nI s), .int (nI p), .int (if wh then 1 else 0), .int (if w_re wh T s then 1 else 0), .int (iI (w_fold P D (w_re wh T s) (w_x0 wh D p) tb s p t).1), .int (nI (w_fold P D (w_re wh T s) (w_x0 wh D p) tb s p t).2.1), .int (eI (w_fold P D (w_re wh T s) (w_x0 wh D p) tb s p t).2.2), .int (nI t), v10, v11, v12, v13] [] μ w (fun r μ' _ => r = none ∧ μ' 138 = upd (μ 138) (7 * s + p) (iI (w_go wh T P D tb s p).1) ∧ μ' 139 = upd (μ 139) (7 * s + p) (nI (w_go wh T P D tb s p).2.1) ∧ μ' 140 = upd (μ 140) (7 * s + p) (eI (w_go wh T P D tb s p).2.2) ∧ ∀ a, a ≠ 138 → a ≠ 139 → a ≠ 140 → μ' a = μ a) := by
    intro n56
    induction n56 with
    | zero =>
      intro t v10 v11 v12 v13 hmn
      obtain rfl : T = t := by omega
      rw [show (w_fold P D (w_re wh T s) (w_x0 wh D p) tb s p T) = (w_go wh T P D tb s p) from rfl]
      refine xt_iload _ dX10_goOn_56 rfl ?_
      refine xt_iload_n _ dX10_goOn_58 rfl ?_
      refine xt_icmp_ge 199 dX10_goOn_59 (by decide) (fun _ => ?_) (fun q => absurd (Int32.le_refl _) q)
      refine xt_bipush (7) dX10_goOn_199 (by decide) ?_
      refine xt_iload_n _ dX10_goOn_201 rfl ?_
      refine xt_imul dX10_goOn_202 ?_
      refine xt_iload_n _ dX10_goOn_203 rfl ?_
      refine xt_iadd dX10_goOn_204 ?_
      rw [show (7 : Int32) * nI s + nI p = nI (7 * s + p) by rw [show (7 : Int32) = nI 7 from rfl, pk_mul, nI_add]]
      refine xt_istore dX10_goOn_205 (by decide) rfl ?_
      change x_T _ _ _ _ [_, _, _, _, _, _, _, _, _, _, _, _, _, _] _ _ _ _
      refine xt_aload_n _ dX10_goOn_207 rfl ?_
      refine xt_getr _ dX10_goOn_208 kfX10_11 (by first | exact sh137 | rfl | assumption) rfl ?_
      refine xt_iload _ dX10_goOn_211 rfl ?_
      refine xt_iload _ dX10_goOn_213 rfl ?_
      refine xt_cS0 _ dX10_goOn_215 klX10_75 (tX8_set sc _ _ _ (k := 138) (n := 448) rfl (by decide) _ _) rfl rfl (Nat.le_of_ble_eq_true rfl) ?_
      rw [s_set_ix (by omega) (by decide)]
      refine xt_aload_n _ dX10_goOn_218 rfl ?_
      refine xt_getr _ dX10_goOn_219 kfX10_15 (by first | exact sh137 | rfl | assumption) rfl ?_
      refine xt_iload _ dX10_goOn_222 rfl ?_
      refine xt_iload _ dX10_goOn_224 rfl ?_
      refine xt_cS0 _ dX10_goOn_226 klX10_75 (tX8_set sc _ _ _ (k := 139) (n := 448) rfl (by decide) _ _) rfl rfl (Nat.le_of_ble_eq_true rfl) ?_
      rw [s_set_ix (by omega) (by decide)]
      refine xt_aload_n _ dX10_goOn_229 rfl ?_
      refine xt_getr _ dX10_goOn_230 kfX10_18 (by first | exact sh137 | rfl | assumption) rfl ?_
      refine xt_iload _ dX10_goOn_233 rfl ?_
      refine xt_iload _ dX10_goOn_235 rfl ?_
      refine xt_cS0 _ dX10_goOn_237 klX10_75 (tX8_set sc _ _ _ (k := 140) (n := 448) rfl (by decide) _ _) rfl rfl (Nat.le_of_ble_eq_true rfl) ?_
      rw [s_set_ix (by omega) (by decide)]
      exact xt_ret dX10_goOn_240 rfl ⟨rfl, by rw [x_u_ne (by decide), x_u_ne (by decide), x_u_eq], by rw [x_u_ne (by decide), x_u_eq, x_u_ne (by decide)], by rw [x_u_eq, x_u_ne (by decide), x_u_ne (by decide)], fun a h1 h2 h3 => by rw [x_u_ne h3, x_u_ne h2, x_u_ne h1]⟩
    | succ n56 ih56 =>
      intro t v10 v11 v12 v13 hmn
      have hlt_t : t < T := by omega
      obtain ⟨x1, x2, x3, x4⟩ := hfo t (by omega)
      refine xt_iload _ dX10_goOn_56 rfl ?_
      refine xt_iload_n _ dX10_goOn_58 rfl ?_
      refine xt_icmp_ge 199 dX10_goOn_59 (by decide) (fun q => absurd q (nI_ge hlt_t (by omega))) (fun _ => ?_)
      refine xt_iload_n _ dX10_goOn_62 rfl ?_
      refine xt_iload _ dX10_goOn_63 rfl ?_
      refine xt_ishr dX10_goOn_65 ?_
      refine xt_iconst (1) dX10_goOn_66 (by decide) ?_
      refine xt_iand dX10_goOn_67 ?_
      refine xt_if_eq 74 dX10_goOn_68 (by decide) (fun t68 => ?_) (fun f68 => ?_)
      · have hb : s.testBit t = false := (s_sh1 s (by omega) t (by omega)).mp t68
        have hor := w_or_lt hlt_t hs
        obtain ⟨b1, b2, b3, b4⟩ := hok t hlt_t hb
        have hPt := hPD.1 t hlt_t
        have hDt := hPD.2 p t hp (.inl hlt_t)
        refine xt_bipush (7) dX10_goOn_74 (by decide) ?_
        refine xt_iload_n _ dX10_goOn_76 rfl ?_
        refine xt_iconst (1) dX10_goOn_77 (by decide) ?_
        refine xt_iload _ dX10_goOn_78 rfl ?_
        refine xt_ishl dX10_goOn_80 ?_
        refine xt_ior dX10_goOn_81 ?_
        refine xt_imul dX10_goOn_82 ?_
        refine xt_iload _ dX10_goOn_83 rfl ?_
        refine xt_iadd dX10_goOn_85 ?_
        rw [show (7 : Int32) * (nI s ||| ((1 : Int32) <<< (nI t &&& 31))) + nI t = nI (7 * (s ||| 2 ^ t) + t) by rw [x_1sh (by omega), nI_or, show (7 : Int32) = nI 7 from rfl, pk_mul, nI_add]]
        refine xt_istore dX10_goOn_86 (by decide) rfl ?_
        change x_T _ _ _ _ [_, _, _, _, _, _, _, _, _, _, _, _, _, _] _ _ _ _
        refine xt_aload_n _ dX10_goOn_88 rfl ?_
        refine xt_getr _ dX10_goOn_89 kfX10_24 (by first | exact sh137 | rfl | assumption) rfl ?_
        refine xt_iload _ dX10_goOn_92 rfl ?_
        refine xt_cS _ dX10_goOn_94 klX10_65 (tX8_at sc _ _ _ (k := 142) (n := 6) rfl (by decide) _) rfl rfl (Nat.le_of_ble_eq_true rfl) ?_
        rw [s_at_ix (j := t) (by omega) (by decide) rfl]
        rw [hP t hlt_t]
        refine xt_aload_n _ dX10_goOn_97 rfl ?_
        refine xt_getr _ dX10_goOn_98 kfX10_21 (by first | exact sh137 | rfl | assumption) rfl ?_
        refine xt_bipush (7) dX10_goOn_101 (by decide) ?_
        refine xt_iload_n _ dX10_goOn_103 rfl ?_
        refine xt_imul dX10_goOn_104 ?_
        refine xt_iload _ dX10_goOn_105 rfl ?_
        refine xt_iadd dX10_goOn_107 ?_
        rw [show (7 : Int32) * nI p + nI t = nI (7 * p + t) by rw [show (7 : Int32) = nI 7 from rfl, pk_mul, nI_add]]
        refine xt_cS _ dX10_goOn_108 klX10_65 (tX8_at sc _ _ _ (k := 141) (n := 49) rfl (by decide) _) rfl rfl (Nat.le_of_ble_eq_true rfl) ?_
        rw [s_at_ix (j := 7 * p + t) (by omega) (by decide) rfl]
        rw [hD p t hp (.inl hlt_t)]
        refine xt_isub dX10_goOn_111 ?_
        refine xt_aload_n _ dX10_goOn_112 rfl ?_
        refine xt_getr _ dX10_goOn_113 kfX10_11 (by first | exact sh137 | rfl | assumption) rfl ?_
        refine xt_iload _ dX10_goOn_116 rfl ?_
        refine xt_cS _ dX10_goOn_118 klX10_65 (tX8_at sc _ _ _ (k := 138) (n := 448) rfl (by decide) _) rfl rfl (Nat.le_of_ble_eq_true rfl) ?_
        rw [s_at_ix (j := (7 * (s ||| 2 ^ t) + t)) (by omega) (by decide) rfl]
        rw [(hB t hlt_t hb).1]
        refine xt_iadd dX10_goOn_121 ?_
        rw [iI_sub, iI_add]
        refine xt_istore dX10_goOn_122 (by decide) rfl ?_
        change x_T _ _ _ _ [_, _, _, _, _, _, _, _, _, _, _, _, _, _] _ _ _ _
        refine xt_iconst (1) dX10_goOn_124 (by decide) ?_
        refine xt_aload_n _ dX10_goOn_125 rfl ?_
        refine xt_getr _ dX10_goOn_126 kfX10_15 (by first | exact sh137 | rfl | assumption) rfl ?_
        refine xt_iload _ dX10_goOn_129 rfl ?_
        refine xt_cS _ dX10_goOn_131 klX10_65 (tX8_at sc _ _ _ (k := 139) (n := 448) rfl (by decide) _) rfl rfl (Nat.le_of_ble_eq_true rfl) ?_
        rw [s_at_ix (j := (7 * (s ||| 2 ^ t) + t)) (by omega) (by decide) rfl]
        rw [(hB t hlt_t hb).2]
        refine xt_iadd dX10_goOn_134 ?_
        rw [show (1 : Int32) + nI (tb (s ||| 2 ^ t) t).2.1 = nI (1 + (tb (s ||| 2 ^ t) t).2.1) from nI_add 1 (tb (s ||| 2 ^ t) t).2.1]
        refine xt_istore dX10_goOn_135 (by decide) rfl ?_
        change x_T _ _ _ _ [_, _, _, _, _, _, _, _, _, _, _, _, _, _] _ _ _ _
        have g1 := iI_lt (a := (w_fold P D (w_re wh T s) (w_x0 wh D p) tb s p t).1) (b := (P t - D p t + (tb (s ||| 2 ^ t) t).1)) (by omega) (by omega) (by omega) (by omega)
        have g2 := iI_eq (a := (P t - D p t + (tb (s ||| 2 ^ t) t).1)) (b := (w_fold P D (w_re wh T s) (w_x0 wh D p) tb s p t).1) (by omega) (by omega) (by omega) (by omega)
        refine xt_iload _ dX10_goOn_137 rfl ?_
        refine xt_iload _ dX10_goOn_139 rfl ?_
        refine xt_icmp_gt 158 dX10_goOn_141 (by decide) (fun t141 => ?_) (fun f141 => ?_)
        · refine xt_iconst (1) dX10_goOn_158 (by decide) ?_
          refine xt_goto 163 dX10_goOn_159 (by decide) ?_
          refine xt_istore dX10_goOn_163 (by decide) rfl ?_
          change x_T _ _ _ _ [_, _, _, _, _, _, _, _, _, _, _, _, _, _] _ _ _ _
          refine xt_iload _ dX10_goOn_165 rfl ?_
          refine xt_if_ne 181 dX10_goOn_167 (by decide) (fun _ => ?_) (fun q => absurd q (by decide))
          refine xt_iload _ dX10_goOn_181 rfl ?_
          refine xt_istore dX10_goOn_183 (by decide) rfl ?_
          change x_T _ _ _ _ [_, _, _, _, _, _, _, _, _, _, _, _, _, _] _ _ _ _
          refine xt_iload _ dX10_goOn_185 rfl ?_
          refine xt_istore dX10_goOn_187 (by decide) rfl ?_
          change x_T _ _ _ _ [_, _, _, _, _, _, _, _, _, _, _, _, _, _] _ _ _ _
          refine xt_iload _ dX10_goOn_189 rfl ?_
          refine xt_istore dX10_goOn_191 (by decide) rfl ?_
          change x_T _ _ _ _ [_, _, _, _, _, _, _, _, _, _, _, _, _, _] _ _ _ _
          refine xt_inc _ (1) dX10_goOn_193 rfl (by decide) (by decide) rfl ?_
          change x_T _ _ _ _ [_, _, _, _, _, _, _, _, _, _, _, _, _, _] _ _ _ _
          refine xt_goto 56 dX10_goOn_196 (by decide) ?_
          have es : (w_fold P D (w_re wh T s) (w_x0 wh D p) tb s p (t + 1)) = ((P t - D p t + (tb (s ||| 2 ^ t) t).1), 1 + (tb (s ||| 2 ^ t) t).2.1, t + 1) := w_f_y hb (.inl (.inl (g1.mp t141)))
          refine x_T.ls ?_ (ih56 (t + 1) (.int (nI (7 * (s ||| 2 ^ t) + t))) (.int (iI (P t - D p t + (tb (s ||| 2 ^ t) t).1))) (.int (nI (1 + (tb (s ||| 2 ^ t) t).2.1))) (.int 1) (by omega))
          rw [es]
          dsimp only
          rw [eI_s, nI_succ t]
        · refine xt_iload _ dX10_goOn_144 rfl ?_
          refine xt_iload _ dX10_goOn_146 rfl ?_
          refine xt_icmp_ne 162 dX10_goOn_148 (by decide) (fun t148 => ?_) (fun f148 => ?_)
          · refine xt_iconst (0) dX10_goOn_162 (by decide) ?_
            refine xt_istore dX10_goOn_163 (by decide) rfl ?_
            change x_T _ _ _ _ [_, _, _, _, _, _, _, _, _, _, _, _, _, _] _ _ _ _
            refine xt_iload _ dX10_goOn_165 rfl ?_
            refine xt_if_ne 181 dX10_goOn_167 (by decide) (fun q => absurd (by decide) q) (fun _ => ?_)
            refine xt_iload _ dX10_goOn_170 rfl ?_
            refine xt_if_ne 193 dX10_goOn_172 (by decide) (fun t172 => ?_) (fun f172 => ?_)
            · refine xt_inc _ (1) dX10_goOn_193 rfl (by decide) (by decide) rfl ?_
              change x_T _ _ _ _ [_, _, _, _, _, _, _, _, _, _, _, _, _, _] _ _ _ _
              refine xt_goto 56 dX10_goOn_196 (by decide) ?_
              have es : (w_fold P D (w_re wh T s) (w_x0 wh D p) tb s p (t + 1)) = (w_fold P D (w_re wh T s) (w_x0 wh D p) tb s p t) := by
                refine w_f_n hb (fun z => ?_)
                rcases z with (z | z) | z
                · exact f141 (g1.mpr z)
                · exact t148 (g2.mpr z.1)
                · rw [s_if1 t172] at z; exact absurd z.1 (by decide)
              refine x_T.ls ?_ (ih56 (t + 1) (.int (nI (7 * (s ||| 2 ^ t) + t))) (.int (iI (P t - D p t + (tb (s ||| 2 ^ t) t).1))) (.int (nI (1 + (tb (s ||| 2 ^ t) t).2.1))) (.int 0) (by omega))
              rw [es, nI_succ t]
            · refine xt_iload _ dX10_goOn_175 rfl ?_
              refine xt_iconst (-1) dX10_goOn_177 (by decide) ?_
              refine xt_icmp_ne 193 dX10_goOn_178 (by decide) (fun t178 => ?_) (fun f178 => ?_)
              · refine xt_inc _ (1) dX10_goOn_193 rfl (by decide) (by decide) rfl ?_
                change x_T _ _ _ _ [_, _, _, _, _, _, _, _, _, _, _, _, _, _] _ _ _ _
                refine xt_goto 56 dX10_goOn_196 (by decide) ?_
                have es : (w_fold P D (w_re wh T s) (w_x0 wh D p) tb s p (t + 1)) = (w_fold P D (w_re wh T s) (w_x0 wh D p) tb s p t) := by
                  refine w_f_n hb (fun z => ?_)
                  rcases z with (z | z) | z
                  · exact f141 (g1.mpr z)
                  · exact t148 (g2.mpr z.1)
                  · exact t178 ((eI_m1 (by omega)).mpr z.2)
                refine x_T.ls ?_ (ih56 (t + 1) (.int (nI (7 * (s ||| 2 ^ t) + t))) (.int (iI (P t - D p t + (tb (s ||| 2 ^ t) t).1))) (.int (nI (1 + (tb (s ||| 2 ^ t) t).2.1))) (.int 0) (by omega))
                rw [es, nI_succ t]
              · refine xt_iload _ dX10_goOn_181 rfl ?_
                refine xt_istore dX10_goOn_183 (by decide) rfl ?_
                change x_T _ _ _ _ [_, _, _, _, _, _, _, _, _, _, _, _, _, _] _ _ _ _
                refine xt_iload _ dX10_goOn_185 rfl ?_
                refine xt_istore dX10_goOn_187 (by decide) rfl ?_
                change x_T _ _ _ _ [_, _, _, _, _, _, _, _, _, _, _, _, _, _] _ _ _ _
                refine xt_iload _ dX10_goOn_189 rfl ?_
                refine xt_istore dX10_goOn_191 (by decide) rfl ?_
                change x_T _ _ _ _ [_, _, _, _, _, _, _, _, _, _, _, _, _, _] _ _ _ _
                refine xt_inc _ (1) dX10_goOn_193 rfl (by decide) (by decide) rfl ?_
                change x_T _ _ _ _ [_, _, _, _, _, _, _, _, _, _, _, _, _, _] _ _ _ _
                refine xt_goto 56 dX10_goOn_196 (by decide) ?_
                have es : (w_fold P D (w_re wh T s) (w_x0 wh D p) tb s p (t + 1)) = ((P t - D p t + (tb (s ||| 2 ^ t) t).1), 1 + (tb (s ||| 2 ^ t) t).2.1, t + 1) := w_f_y hb (.inr ⟨s_if0 f172, (eI_m1 (by omega)).mp f178⟩)
                refine x_T.ls ?_ (ih56 (t + 1) (.int (nI (7 * (s ||| 2 ^ t) + t))) (.int (iI (P t - D p t + (tb (s ||| 2 ^ t) t).1))) (.int (nI (1 + (tb (s ||| 2 ^ t) t).2.1))) (.int 0) (by omega))
                rw [es]
                dsimp only
                rw [eI_s, nI_succ t]
          · refine xt_iload _ dX10_goOn_151 rfl ?_
            refine xt_iload _ dX10_goOn_153 rfl ?_
            refine xt_icmp_ge 162 dX10_goOn_155 (by decide) (fun t155 => ?_) (fun f155 => ?_)
            · have n155 : (w_fold P D (w_re wh T s) (w_x0 wh D p) tb s p t).2.1 ≤ (1 + (tb (s ||| 2 ^ t) t).2.1) := (nI_leI (a := (w_fold P D (w_re wh T s) (w_x0 wh D p) tb s p t).2.1) (b := (1 + (tb (s ||| 2 ^ t) t).2.1)) (by omega) (by omega)).mp t155
              refine xt_iconst (0) dX10_goOn_162 (by decide) ?_
              refine xt_istore dX10_goOn_163 (by decide) rfl ?_
              change x_T _ _ _ _ [_, _, _, _, _, _, _, _, _, _, _, _, _, _] _ _ _ _
              refine xt_iload _ dX10_goOn_165 rfl ?_
              refine xt_if_ne 181 dX10_goOn_167 (by decide) (fun q => absurd (by decide) q) (fun _ => ?_)
              refine xt_iload _ dX10_goOn_170 rfl ?_
              refine xt_if_ne 193 dX10_goOn_172 (by decide) (fun t172 => ?_) (fun f172 => ?_)
              · refine xt_inc _ (1) dX10_goOn_193 rfl (by decide) (by decide) rfl ?_
                change x_T _ _ _ _ [_, _, _, _, _, _, _, _, _, _, _, _, _, _] _ _ _ _
                refine xt_goto 56 dX10_goOn_196 (by decide) ?_
                have es : (w_fold P D (w_re wh T s) (w_x0 wh D p) tb s p (t + 1)) = (w_fold P D (w_re wh T s) (w_x0 wh D p) tb s p t) := by
                  refine w_f_n hb (fun z => ?_)
                  rcases z with (z | z) | z
                  · exact f141 (g1.mpr z)
                  · have z2 : 1 + (tb (s ||| 2 ^ t) t).2.1 < (w_fold P D (w_re wh T s) (w_x0 wh D p) tb s p t).2.1 := z.2
                    omega
                  · rw [s_if1 t172] at z; exact absurd z.1 (by decide)
                refine x_T.ls ?_ (ih56 (t + 1) (.int (nI (7 * (s ||| 2 ^ t) + t))) (.int (iI (P t - D p t + (tb (s ||| 2 ^ t) t).1))) (.int (nI (1 + (tb (s ||| 2 ^ t) t).2.1))) (.int 0) (by omega))
                rw [es, nI_succ t]
              · refine xt_iload _ dX10_goOn_175 rfl ?_
                refine xt_iconst (-1) dX10_goOn_177 (by decide) ?_
                refine xt_icmp_ne 193 dX10_goOn_178 (by decide) (fun t178 => ?_) (fun f178 => ?_)
                · refine xt_inc _ (1) dX10_goOn_193 rfl (by decide) (by decide) rfl ?_
                  change x_T _ _ _ _ [_, _, _, _, _, _, _, _, _, _, _, _, _, _] _ _ _ _
                  refine xt_goto 56 dX10_goOn_196 (by decide) ?_
                  have es : (w_fold P D (w_re wh T s) (w_x0 wh D p) tb s p (t + 1)) = (w_fold P D (w_re wh T s) (w_x0 wh D p) tb s p t) := by
                    refine w_f_n hb (fun z => ?_)
                    rcases z with (z | z) | z
                    · exact f141 (g1.mpr z)
                    · have z2 : 1 + (tb (s ||| 2 ^ t) t).2.1 < (w_fold P D (w_re wh T s) (w_x0 wh D p) tb s p t).2.1 := z.2
                      omega
                    · exact t178 ((eI_m1 (by omega)).mpr z.2)
                  refine x_T.ls ?_ (ih56 (t + 1) (.int (nI (7 * (s ||| 2 ^ t) + t))) (.int (iI (P t - D p t + (tb (s ||| 2 ^ t) t).1))) (.int (nI (1 + (tb (s ||| 2 ^ t) t).2.1))) (.int 0) (by omega))
                  rw [es, nI_succ t]
                · refine xt_iload _ dX10_goOn_181 rfl ?_
                  refine xt_istore dX10_goOn_183 (by decide) rfl ?_
                  change x_T _ _ _ _ [_, _, _, _, _, _, _, _, _, _, _, _, _, _] _ _ _ _
                  refine xt_iload _ dX10_goOn_185 rfl ?_
                  refine xt_istore dX10_goOn_187 (by decide) rfl ?_
                  change x_T _ _ _ _ [_, _, _, _, _, _, _, _, _, _, _, _, _, _] _ _ _ _
                  refine xt_iload _ dX10_goOn_189 rfl ?_
                  refine xt_istore dX10_goOn_191 (by decide) rfl ?_
                  change x_T _ _ _ _ [_, _, _, _, _, _, _, _, _, _, _, _, _, _] _ _ _ _
                  refine xt_inc _ (1) dX10_goOn_193 rfl (by decide) (by decide) rfl ?_
                  change x_T _ _ _ _ [_, _, _, _, _, _, _, _, _, _, _, _, _, _] _ _ _ _
                  refine xt_goto 56 dX10_goOn_196 (by decide) ?_
                  have es : (w_fold P D (w_re wh T s) (w_x0 wh D p) tb s p (t + 1)) = ((P t - D p t + (tb (s ||| 2 ^ t) t).1), 1 + (tb (s ||| 2 ^ t) t).2.1, t + 1) := w_f_y hb (.inr ⟨s_if0 f172, (eI_m1 (by omega)).mp f178⟩)
                  refine x_T.ls ?_ (ih56 (t + 1) (.int (nI (7 * (s ||| 2 ^ t) + t))) (.int (iI (P t - D p t + (tb (s ||| 2 ^ t) t).1))) (.int (nI (1 + (tb (s ||| 2 ^ t) t).2.1))) (.int 0) (by omega))
                  rw [es]
                  dsimp only
                  rw [eI_s, nI_succ t]
            · have n155 : ¬ ((w_fold P D (w_re wh T s) (w_x0 wh D p) tb s p t).2.1 ≤ (1 + (tb (s ||| 2 ^ t) t).2.1)) := fun z => f155 ((nI_leI (a := (w_fold P D (w_re wh T s) (w_x0 wh D p) tb s p t).2.1) (b := (1 + (tb (s ||| 2 ^ t) t).2.1)) (by omega) (by omega)).mpr z)
              refine xt_iconst (1) dX10_goOn_158 (by decide) ?_
              refine xt_goto 163 dX10_goOn_159 (by decide) ?_
              refine xt_istore dX10_goOn_163 (by decide) rfl ?_
              change x_T _ _ _ _ [_, _, _, _, _, _, _, _, _, _, _, _, _, _] _ _ _ _
              refine xt_iload _ dX10_goOn_165 rfl ?_
              refine xt_if_ne 181 dX10_goOn_167 (by decide) (fun _ => ?_) (fun q => absurd q (by decide))
              refine xt_iload _ dX10_goOn_181 rfl ?_
              refine xt_istore dX10_goOn_183 (by decide) rfl ?_
              change x_T _ _ _ _ [_, _, _, _, _, _, _, _, _, _, _, _, _, _] _ _ _ _
              refine xt_iload _ dX10_goOn_185 rfl ?_
              refine xt_istore dX10_goOn_187 (by decide) rfl ?_
              change x_T _ _ _ _ [_, _, _, _, _, _, _, _, _, _, _, _, _, _] _ _ _ _
              refine xt_iload _ dX10_goOn_189 rfl ?_
              refine xt_istore dX10_goOn_191 (by decide) rfl ?_
              change x_T _ _ _ _ [_, _, _, _, _, _, _, _, _, _, _, _, _, _] _ _ _ _
              refine xt_inc _ (1) dX10_goOn_193 rfl (by decide) (by decide) rfl ?_
              change x_T _ _ _ _ [_, _, _, _, _, _, _, _, _, _, _, _, _, _] _ _ _ _
              refine xt_goto 56 dX10_goOn_196 (by decide) ?_
              have es : (w_fold P D (w_re wh T s) (w_x0 wh D p) tb s p (t + 1)) = ((P t - D p t + (tb (s ||| 2 ^ t) t).1), 1 + (tb (s ||| 2 ^ t) t).2.1, t + 1) := w_f_y hb (.inl (.inr ⟨g2.mp f148, show 1 + (tb (s ||| 2 ^ t) t).2.1 < (w_fold P D (w_re wh T s) (w_x0 wh D p) tb s p t).2.1 by omega⟩))
              refine x_T.ls ?_ (ih56 (t + 1) (.int (nI (7 * (s ||| 2 ^ t) + t))) (.int (iI (P t - D p t + (tb (s ||| 2 ^ t) t).1))) (.int (nI (1 + (tb (s ||| 2 ^ t) t).2.1))) (.int 1) (by omega))
              rw [es]
              dsimp only
              rw [eI_s, nI_succ t]
      · refine xt_goto 193 dX10_goOn_71 (by decide) ?_
        refine xt_inc _ (1) dX10_goOn_193 rfl (by decide) (by decide) rfl ?_
        change x_T _ _ _ _ [_, _, _, _, _, _, _, _, _, _, _, _, _, _] _ _ _ _
        refine xt_goto 56 dX10_goOn_196 (by decide) ?_
        have hb : s.testBit t = true := by
          cases hq : s.testBit t
          · exact absurd ((s_sh1 s (by omega) t (by omega)).mpr hq) f68
          · rfl
        refine x_T.ls ?_ (ih56 (t + 1) v10 v11 v12 v13 (by omega))
        rw [w_f_b hb, nI_succ t]
  refine xt_iload _ dX10_goOn_0 rfl ?_
  refine xt_if_eq 14 dX10_goOn_2 (by decide) (fun t2 => ?_) (fun f2 => ?_)
  · refine xt_iconst (1) dX10_goOn_14 (by decide) ?_
    refine xt_goto 19 dX10_goOn_15 (by decide) ?_
    refine xt_istore dX10_goOn_19 (by decide) rfl ?_
    change x_T _ _ _ _ [_, _, _, _, _, _, _, _, _, _, _, _, _, _] _ _ _ _
    refine xt_iload _ dX10_goOn_21 rfl ?_
    refine xt_if_eq 44 dX10_goOn_23 (by decide) (fun t23 => ?_) (fun f23 => ?_)
    · refine xt_iconst (0) dX10_goOn_44 (by decide) ?_
      refine xt_istore dX10_goOn_45 (by decide) rfl ?_
      change x_T _ _ _ _ [_, _, _, _, _, _, _, _, _, _, _, _, _, _] _ _ _ _
      refine xt_iconst (0) dX10_goOn_47 (by decide) ?_
      refine xt_istore dX10_goOn_48 (by decide) rfl ?_
      change x_T _ _ _ _ [_, _, _, _, _, _, _, _, _, _, _, _, _, _] _ _ _ _
      refine xt_iconst (-1) dX10_goOn_50 (by decide) ?_
      refine xt_istore dX10_goOn_51 (by decide) rfl ?_
      change x_T _ _ _ _ [_, _, _, _, _, _, _, _, _, _, _, _, _, _] _ _ _ _
      refine xt_iconst (0) dX10_goOn_53 (by decide) ?_
      refine xt_istore dX10_goOn_54 (by decide) rfl ?_
      change x_T _ _ _ _ [_, _, _, _, _, _, _, _, _, _, _, _, _, _] _ _ _ _
      have hw := s_if0 t2
      have e1 : w_re wh T s = true := by rw [w_re, hw]; rfl
      have e2 : iI (w_x0 wh D p) = 0 := by rw [hw]; rfl
      have e3 : (w_fold P D (w_re wh T s) (w_x0 wh D p) tb s p 0) = (w_x0 wh D p, 0, 0) := rfl
      refine x_T.ls ?_ (L56 T 0 (.retAddr 0) (.retAddr 0) (.retAddr 0) (.retAddr 0) (by omega))
      rw [e3, e1]
      dsimp only
      rw [e2, eI_0]
      try rfl
    · refine xt_aload_n _ dX10_goOn_26 rfl ?_
      refine xt_getr _ dX10_goOn_27 kfX10_21 (by first | exact sh137 | rfl | assumption) rfl ?_
      refine xt_bipush (7) dX10_goOn_30 (by decide) ?_
      refine xt_iload_n _ dX10_goOn_32 rfl ?_
      refine xt_imul dX10_goOn_33 ?_
      refine xt_bipush (6) dX10_goOn_34 (by decide) ?_
      refine xt_iadd dX10_goOn_36 ?_
      rw [show (7 : Int32) * nI p + 6 = nI (7 * p + 6) by rw [show (7 : Int32) = nI 7 from rfl, show (6 : Int32) = nI 6 from rfl, pk_mul, nI_add]]
      refine xt_cS _ dX10_goOn_37 klX10_65 (tX8_at sc _ _ _ (k := 141) (n := 49) rfl (by decide) _) rfl rfl (Nat.le_of_ble_eq_true rfl) ?_
      rw [s_at_ix (j := 7 * p + 6) (by omega) (by decide) rfl]
      rw [hD p 6 hp (.inr rfl)]
      refine xt_ineg dX10_goOn_40 ?_
      refine xt_goto 45 dX10_goOn_41 (by decide) ?_
      refine xt_istore dX10_goOn_45 (by decide) rfl ?_
      change x_T _ _ _ _ [_, _, _, _, _, _, _, _, _, _, _, _, _, _] _ _ _ _
      refine xt_iconst (0) dX10_goOn_47 (by decide) ?_
      refine xt_istore dX10_goOn_48 (by decide) rfl ?_
      change x_T _ _ _ _ [_, _, _, _, _, _, _, _, _, _, _, _, _, _] _ _ _ _
      refine xt_iconst (-1) dX10_goOn_50 (by decide) ?_
      refine xt_istore dX10_goOn_51 (by decide) rfl ?_
      change x_T _ _ _ _ [_, _, _, _, _, _, _, _, _, _, _, _, _, _] _ _ _ _
      refine xt_iconst (0) dX10_goOn_53 (by decide) ?_
      refine xt_istore dX10_goOn_54 (by decide) rfl ?_
      change x_T _ _ _ _ [_, _, _, _, _, _, _, _, _, _, _, _, _, _] _ _ _ _
      exact absurd t2 f23
  · refine xt_iload_n _ dX10_goOn_5 rfl ?_
    refine xt_iconst (1) dX10_goOn_6 (by decide) ?_
    refine xt_iload_n _ dX10_goOn_7 rfl ?_
    refine xt_ishl dX10_goOn_8 ?_
    refine xt_iconst (1) dX10_goOn_9 (by decide) ?_
    refine xt_isub dX10_goOn_10 ?_
    rw [x_1sh (by omega), show nI (2 ^ T) - (1 : Int32) = nI (2 ^ T - 1) from pk_sub (b := 1) Nat.one_le_two_pow]
    refine xt_icmp_ne 18 dX10_goOn_11 (by decide) (fun t11 => ?_) (fun f11 => ?_)
    · have n11 : ¬ (s = (2 ^ T - 1)) := fun z => t11 ((nI_eq (a := s) (b := (2 ^ T - 1)) (by omega) (by omega)).mpr z)
      refine xt_iconst (0) dX10_goOn_18 (by decide) ?_
      refine xt_istore dX10_goOn_19 (by decide) rfl ?_
      change x_T _ _ _ _ [_, _, _, _, _, _, _, _, _, _, _, _, _, _] _ _ _ _
      refine xt_iload _ dX10_goOn_21 rfl ?_
      refine xt_if_eq 44 dX10_goOn_23 (by decide) (fun t23 => ?_) (fun f23 => ?_)
      · refine xt_iconst (0) dX10_goOn_44 (by decide) ?_
        refine xt_istore dX10_goOn_45 (by decide) rfl ?_
        change x_T _ _ _ _ [_, _, _, _, _, _, _, _, _, _, _, _, _, _] _ _ _ _
        refine xt_iconst (0) dX10_goOn_47 (by decide) ?_
        refine xt_istore dX10_goOn_48 (by decide) rfl ?_
        change x_T _ _ _ _ [_, _, _, _, _, _, _, _, _, _, _, _, _, _] _ _ _ _
        refine xt_iconst (-1) dX10_goOn_50 (by decide) ?_
        refine xt_istore dX10_goOn_51 (by decide) rfl ?_
        change x_T _ _ _ _ [_, _, _, _, _, _, _, _, _, _, _, _, _, _] _ _ _ _
        refine xt_iconst (0) dX10_goOn_53 (by decide) ?_
        refine xt_istore dX10_goOn_54 (by decide) rfl ?_
        change x_T _ _ _ _ [_, _, _, _, _, _, _, _, _, _, _, _, _, _] _ _ _ _
        exact absurd t23 f2
      · refine xt_aload_n _ dX10_goOn_26 rfl ?_
        refine xt_getr _ dX10_goOn_27 kfX10_21 (by first | exact sh137 | rfl | assumption) rfl ?_
        refine xt_bipush (7) dX10_goOn_30 (by decide) ?_
        refine xt_iload_n _ dX10_goOn_32 rfl ?_
        refine xt_imul dX10_goOn_33 ?_
        refine xt_bipush (6) dX10_goOn_34 (by decide) ?_
        refine xt_iadd dX10_goOn_36 ?_
        rw [show (7 : Int32) * nI p + 6 = nI (7 * p + 6) by rw [show (7 : Int32) = nI 7 from rfl, show (6 : Int32) = nI 6 from rfl, pk_mul, nI_add]]
        refine xt_cS _ dX10_goOn_37 klX10_65 (tX8_at sc _ _ _ (k := 141) (n := 49) rfl (by decide) _) rfl rfl (Nat.le_of_ble_eq_true rfl) ?_
        rw [s_at_ix (j := 7 * p + 6) (by omega) (by decide) rfl]
        rw [hD p 6 hp (.inr rfl)]
        refine xt_ineg dX10_goOn_40 ?_
        refine xt_goto 45 dX10_goOn_41 (by decide) ?_
        refine xt_istore dX10_goOn_45 (by decide) rfl ?_
        change x_T _ _ _ _ [_, _, _, _, _, _, _, _, _, _, _, _, _, _] _ _ _ _
        refine xt_iconst (0) dX10_goOn_47 (by decide) ?_
        refine xt_istore dX10_goOn_48 (by decide) rfl ?_
        change x_T _ _ _ _ [_, _, _, _, _, _, _, _, _, _, _, _, _, _] _ _ _ _
        refine xt_iconst (-1) dX10_goOn_50 (by decide) ?_
        refine xt_istore dX10_goOn_51 (by decide) rfl ?_
        change x_T _ _ _ _ [_, _, _, _, _, _, _, _, _, _, _, _, _, _] _ _ _ _
        refine xt_iconst (0) dX10_goOn_53 (by decide) ?_
        refine xt_istore dX10_goOn_54 (by decide) rfl ?_
        change x_T _ _ _ _ [_, _, _, _, _, _, _, _, _, _, _, _, _, _] _ _ _ _
        have hw := s_if1 f2
        have e1 : w_re wh T s = false := by
          rw [w_re, hw]
          show decide (s + 1 = 2 ^ T) = false
          exact decide_eq_false (by omega)
        have e2 : iI (w_x0 wh D p) = - iI (D p 6) := by rw [hw, iI_neg]; rfl
        have e3 : (w_fold P D (w_re wh T s) (w_x0 wh D p) tb s p 0) = (w_x0 wh D p, 0, 0) := rfl
        refine x_T.ls ?_ (L56 T 0 (.retAddr 0) (.retAddr 0) (.retAddr 0) (.retAddr 0) (by omega))
        rw [e3, e1]
        dsimp only
        rw [e2, eI_0]
        try rfl
    · have n11 : s = (2 ^ T - 1) := (nI_eq (a := s) (b := (2 ^ T - 1)) (by omega) (by omega)).mp f11
      refine xt_iconst (1) dX10_goOn_14 (by decide) ?_
      refine xt_goto 19 dX10_goOn_15 (by decide) ?_
      refine xt_istore dX10_goOn_19 (by decide) rfl ?_
      change x_T _ _ _ _ [_, _, _, _, _, _, _, _, _, _, _, _, _, _] _ _ _ _
      refine xt_iload _ dX10_goOn_21 rfl ?_
      refine xt_if_eq 44 dX10_goOn_23 (by decide) (fun t23 => ?_) (fun f23 => ?_)
      · refine xt_iconst (0) dX10_goOn_44 (by decide) ?_
        refine xt_istore dX10_goOn_45 (by decide) rfl ?_
        change x_T _ _ _ _ [_, _, _, _, _, _, _, _, _, _, _, _, _, _] _ _ _ _
        refine xt_iconst (0) dX10_goOn_47 (by decide) ?_
        refine xt_istore dX10_goOn_48 (by decide) rfl ?_
        change x_T _ _ _ _ [_, _, _, _, _, _, _, _, _, _, _, _, _, _] _ _ _ _
        refine xt_iconst (-1) dX10_goOn_50 (by decide) ?_
        refine xt_istore dX10_goOn_51 (by decide) rfl ?_
        change x_T _ _ _ _ [_, _, _, _, _, _, _, _, _, _, _, _, _, _] _ _ _ _
        refine xt_iconst (0) dX10_goOn_53 (by decide) ?_
        refine xt_istore dX10_goOn_54 (by decide) rfl ?_
        change x_T _ _ _ _ [_, _, _, _, _, _, _, _, _, _, _, _, _, _] _ _ _ _
        exact absurd t23 f2
      · refine xt_aload_n _ dX10_goOn_26 rfl ?_
        refine xt_getr _ dX10_goOn_27 kfX10_21 (by first | exact sh137 | rfl | assumption) rfl ?_
        refine xt_bipush (7) dX10_goOn_30 (by decide) ?_
        refine xt_iload_n _ dX10_goOn_32 rfl ?_
        refine xt_imul dX10_goOn_33 ?_
        refine xt_bipush (6) dX10_goOn_34 (by decide) ?_
        refine xt_iadd dX10_goOn_36 ?_
        rw [show (7 : Int32) * nI p + 6 = nI (7 * p + 6) by rw [show (7 : Int32) = nI 7 from rfl, show (6 : Int32) = nI 6 from rfl, pk_mul, nI_add]]
        refine xt_cS _ dX10_goOn_37 klX10_65 (tX8_at sc _ _ _ (k := 141) (n := 49) rfl (by decide) _) rfl rfl (Nat.le_of_ble_eq_true rfl) ?_
        rw [s_at_ix (j := 7 * p + 6) (by omega) (by decide) rfl]
        rw [hD p 6 hp (.inr rfl)]
        refine xt_ineg dX10_goOn_40 ?_
        refine xt_goto 45 dX10_goOn_41 (by decide) ?_
        refine xt_istore dX10_goOn_45 (by decide) rfl ?_
        change x_T _ _ _ _ [_, _, _, _, _, _, _, _, _, _, _, _, _, _] _ _ _ _
        refine xt_iconst (0) dX10_goOn_47 (by decide) ?_
        refine xt_istore dX10_goOn_48 (by decide) rfl ?_
        change x_T _ _ _ _ [_, _, _, _, _, _, _, _, _, _, _, _, _, _] _ _ _ _
        refine xt_iconst (-1) dX10_goOn_50 (by decide) ?_
        refine xt_istore dX10_goOn_51 (by decide) rfl ?_
        change x_T _ _ _ _ [_, _, _, _, _, _, _, _, _, _, _, _, _, _] _ _ _ _
        refine xt_iconst (0) dX10_goOn_53 (by decide) ?_
        refine xt_istore dX10_goOn_54 (by decide) rfl ?_
        change x_T _ _ _ _ [_, _, _, _, _, _, _, _, _, _, _, _, _, _] _ _ _ _
        have hw := s_if1 f2
        have e1 : w_re wh T s = true := by
          rw [w_re, hw]
          show decide (s + 1 = 2 ^ T) = true
          exact decide_eq_true (by omega)
        have e2 : iI (w_x0 wh D p) = - iI (D p 6) := by rw [hw, iI_neg]; rfl
        have e3 : (w_fold P D (w_re wh T s) (w_x0 wh D p) tb s p 0) = (w_x0 wh D p, 0, 0) := rfl
        refine x_T.ls ?_ (L56 T 0 (.retAddr 0) (.retAddr 0) (.retAddr 0) (.retAddr 0) (by omega))
        rw [e3, e1]
        dsimp only
        rw [e2, eI_0]
        try rfl
def w_x (F : Nat → Nat) (a : Nat) : Nat := if a = 6 then F 0 else F (101 + a)
def w_y (F : Nat → Nat) (a : Nat) : Nat := if a = 6 then F 1 else F (107 + a)
def w_fr (F : Nat → Nat) (a b : Nat) : Nat := (if w_x F a < w_x F b then w_x F b - w_x F a else w_x F a - w_x F b) + (if w_y F a < w_y F b then w_y F b - w_y F a else w_y F a - w_y F b)
def w_D (wh : Bool) (F : Nat → Nat) (a b : Nat) : Int := (if wh then 1 else 10) * (w_fr F a b : Int)
def w_P (wh : Bool) (F : Nat → Nat) (t : Nat) : Int := if wh then 0 else ((F (113 + t) * F (119 + t) : Nat) : Int)
theorem w_xy_le {F : Nat → Nat} (hW : f_W F) {a : Nat} (h : a < F 6 ∨ a = 6) : w_x F a ≤ 9 ∧ w_y F a ≤ 9 := by
  have h6 := hW.1.2.2.2.2.2.2
  unfold w_x w_y
  by_cases e : a = 6
  · rw [if_pos e, if_pos e]; exact ⟨hW.1.1, hW.1.2.1⟩
  · rw [if_neg e, if_neg e]
    have := hW.2.2.2.2.2 a (by omega)
    exact ⟨this.1, this.2.1⟩
theorem w_fr_le {F : Nat → Nat} (hW : f_W F) {a b : Nat} (ha : a < F 6 ∨ a = 6) (hb : b < F 6 ∨ b = 6) : w_fr F a b ≤ 18 := by
  have h1 := w_xy_le hW ha
  have h2 := w_xy_le hW hb
  unfold w_fr
  split <;> split <;> omega
theorem w_pd {F : Nat → Nat} (hW : f_W F) (wh : Bool) : w_PD (F 6) (w_P wh F) (w_D wh F) := by
  refine ⟨fun t ht => ?_, fun a b ha hb => ?_⟩
  · unfold w_P
    cases wh
    · have h1 := hW.2.2.2.2.2 t ht
      have h2 : F (113 + t) * F (119 + t) ≤ 30 * 10 := Nat.mul_le_mul h1.2.2.1 h1.2.2.2
      show 0 ≤ ((F (113 + t) * F (119 + t) : Nat) : Int) ∧ ((F (113 + t) * F (119 + t) : Nat) : Int) ≤ 300
      omega
    · show (0 : Int) ≤ 0 ∧ (0 : Int) ≤ 300
      decide
  · have h1 := w_fr_le hW ha hb
    unfold w_D
    cases wh
    · show 0 ≤ (10 : Int) * _ ∧ (10 : Int) * _ ≤ 200
      omega
    · show 0 ≤ (1 : Int) * _ ∧ (1 : Int) * _ ≤ 200
      omega
def w_rx (μ : x_Me) (k a : Nat) : Int32 := if a = 6 then μ k 0 else μ (k + 5) (4 * a)
def w_ry (μ : x_Me) (k a : Nat) : Int32 := if a = 6 then μ k 1 else μ (k + 5) (4 * a + 1)
theorem w_rx_cg {μ μ' : x_Me} {k : Nat} (h1 : μ' k = μ k) (h2 : μ' (k + 5) = μ (k + 5)) (a : Nat) : w_rx μ' k a = w_rx μ k a := by unfold w_rx; rw [h1, h2]
theorem w_ry_cg {μ μ' : x_Me} {k : Nat} (h1 : μ' k = μ k) (h2 : μ' (k + 5) = μ (k + 5)) (a : Nat) : w_ry μ' k a = w_ry μ k a := by unfold w_ry; rw [h1, h2]
def w_rf (μ : x_Me) (k : Nat) (wh : Bool) (a b : Nat) : Int32 := (if wh then 1 else 10) * s_far (w_rx μ k a) (w_ry μ k a) (w_rx μ k b) (w_ry μ k b)
def w_rp (μ : x_Me) (k : Nat) (wh : Bool) (t : Nat) : Int32 := if wh then 0 else μ (k + 5) (4 * t + 2) * μ (k + 5) (4 * t + 3)
theorem w_rxy {μ : x_Me} {k : Nat} {F : Nat → Nat} (hC : f_C μ k F) {a : Nat} (h : a < F 6 ∨ a = 6) : w_rx μ k a = nI (w_x F a) ∧ w_ry μ k a = nI (w_y F a) := by
  unfold w_rx w_ry w_x w_y
  by_cases e : a = 6
  · rw [if_pos e, if_pos e, if_pos e, if_pos e]; exact ⟨hC.1 0 (by decide), hC.1 1 (by decide)⟩
  · rw [if_neg e, if_neg e, if_neg e, if_neg e]
    exact ⟨hC.2.2.2.2.2 a (by omega) 0 (by decide), hC.2.2.2.2.2 a (by omega) 1 (by decide)⟩
theorem w_rf_D {μ : x_Me} {k : Nat} {F : Nat → Nat} (hC : f_C μ k F) (hW : f_W F) (wh : Bool) {a b : Nat} (ha : a < F 6 ∨ a = 6) (hb : b < F 6 ∨ b = 6) : w_rf μ k wh a b = iI (w_D wh F a b) := by
  have h1 := w_xy_le hW ha
  have h2 := w_xy_le hW hb
  have h3 := w_fr_le hW ha hb
  have e : s_far (w_rx μ k a) (w_ry μ k a) (w_rx μ k b) (w_ry μ k b) = nI (w_fr F a b) := by
    rw [(w_rxy hC ha).1, (w_rxy hC ha).2, (w_rxy hC hb).1, (w_rxy hC hb).2, s_far_nI (by omega) (by omega) (by omega) (by omega)]; rfl
  unfold w_rf w_D
  rw [e, iI_nI (by omega)]
  cases wh
  · show iI 10 * iI (w_fr F a b) = iI (10 * (w_fr F a b : Int))
    exact iI_mul _ _
  · show iI 1 * iI (w_fr F a b) = iI (1 * (w_fr F a b : Int))
    exact iI_mul _ _
theorem w_rp_P {μ : x_Me} {k : Nat} {F : Nat → Nat} (hC : f_C μ k F) (hW : f_W F) (wh : Bool) {t : Nat} (ht : t < F 6) : w_rp μ k wh t = iI (w_P wh F t) := by
  unfold w_rp w_P
  cases wh
  · have h1 := hW.2.2.2.2.2 t ht
    have h2 : F (113 + t) * F (119 + t) ≤ 30 * 10 := Nat.mul_le_mul h1.2.2.1 h1.2.2.2
    show μ (k + 5) (4 * t + 2) * μ (k + 5) (4 * t + 3) = iI ((F (113 + t) * F (119 + t) : Nat) : Int)
    rw [hC.2.2.2.2.2 t ht 2 (by decide), hC.2.2.2.2.2 t ht 3 (by decide), ← iI_nI (by omega)]
    exact pk_mul _ _
  · rfl
set_option maxHeartbeats 1000000 in
theorem tX10_xOf (k : Nat) (hS : f_S k) (a : Nat) (ha : a < 7) : x_K sc (d + 1) mX10_xOf [.ref k, .int (nI a)] μ w (x_p (some (.int (w_rx μ k a))) μ w) := by
  refine x_K.of (by decide) (Nat.le_of_ble_eq_true rfl) ?_
  show x_T sc (d + 1) mX10_xOf 0 [.ref k, .int (nI a)] [] μ w _
  refine xt_iload_n _ dX10_xOf_0 rfl ?_
  refine xt_bipush (6) dX10_xOf_1 (by decide) ?_
  refine xt_icmp_ne 13 dX10_xOf_3 (by decide) (fun t3 => ?_) (fun f3 => ?_)
  · have n3 : ¬ (a = 6) := fun z => t3 ((nI_eq (a := a) (b := 6) (by omega) (by omega)).mpr z)
    refine xt_aload_n _ dX10_xOf_13 rfl ?_
    refine xt_getr _ dX10_xOf_14 kfX10_62 (by first | exact sh137 | exact hS.1 | exact hS.2.2.2.2.2 | rfl | assumption) rfl ?_
    refine xt_iconst (4) dX10_xOf_17 (by decide) ?_
    refine xt_iload_n _ dX10_xOf_18 rfl ?_
    refine xt_imul dX10_xOf_19 ?_
    rw [show (4 : Int32) * nI a = nI (4 * a) by rw [show (4 : Int32) = nI 4 from rfl, pk_mul]]
    refine xt_cS _ dX10_xOf_20 klX10_65 (tX8_at sc _ _ _ (k := k + 5) (n := 24) hS.2.2.2.2.2 (by decide) _) rfl rfl (Nat.le_of_ble_eq_true rfl) ?_
    rw [s_at_ix (j := 4 * a) (by omega) (by decide) rfl]
    exact xt_iret .int dX10_xOf_23 rfl (by first | rfl | assumption) ⟨by rw [w_rx, if_neg n3], rfl, rfl⟩
  · have n3 : a = 6 := (nI_eq (a := a) (b := 6) (by omega) (by omega)).mp f3
    refine xt_aload_n _ dX10_xOf_6 rfl ?_
    refine xt_geti dX10_xOf_7 kfX10_69 (by first | exact sh137 | exact hS.1 | exact hS.2.2.2.2.2 | rfl | assumption) rfl ?_
    refine xt_goto 23 dX10_xOf_10 (by decide) ?_
    exact xt_iret .int dX10_xOf_23 rfl (by first | rfl | assumption) ⟨by rw [w_rx, if_pos n3], rfl, rfl⟩
set_option maxHeartbeats 1000000 in
theorem tX10_yOf (k : Nat) (hS : f_S k) (a : Nat) (ha : a < 7) : x_K sc (d + 1) mX10_yOf [.ref k, .int (nI a)] μ w (x_p (some (.int (w_ry μ k a))) μ w) := by
  refine x_K.of (by decide) (Nat.le_of_ble_eq_true rfl) ?_
  show x_T sc (d + 1) mX10_yOf 0 [.ref k, .int (nI a)] [] μ w _
  refine xt_iload_n _ dX10_yOf_0 rfl ?_
  refine xt_bipush (6) dX10_yOf_1 (by decide) ?_
  refine xt_icmp_ne 13 dX10_yOf_3 (by decide) (fun t3 => ?_) (fun f3 => ?_)
  · have n3 : ¬ (a = 6) := fun z => t3 ((nI_eq (a := a) (b := 6) (by omega) (by omega)).mpr z)
    refine xt_aload_n _ dX10_yOf_13 rfl ?_
    refine xt_getr _ dX10_yOf_14 kfX10_62 (by first | exact sh137 | exact hS.1 | exact hS.2.2.2.2.2 | rfl | assumption) rfl ?_
    refine xt_iconst (4) dX10_yOf_17 (by decide) ?_
    refine xt_iload_n _ dX10_yOf_18 rfl ?_
    refine xt_imul dX10_yOf_19 ?_
    refine xt_iconst (1) dX10_yOf_20 (by decide) ?_
    refine xt_iadd dX10_yOf_21 ?_
    rw [show (4 : Int32) * nI a + 1 = nI (4 * a + 1) by rw [show (4 : Int32) = nI 4 from rfl, show (1 : Int32) = nI 1 from rfl, pk_mul, nI_add]]
    refine xt_cS _ dX10_yOf_22 klX10_65 (tX8_at sc _ _ _ (k := k + 5) (n := 24) hS.2.2.2.2.2 (by decide) _) rfl rfl (Nat.le_of_ble_eq_true rfl) ?_
    rw [s_at_ix (j := 4 * a + 1) (by omega) (by decide) rfl]
    exact xt_iret .int dX10_yOf_25 rfl (by first | rfl | assumption) ⟨by rw [w_ry, if_neg n3], rfl, rfl⟩
  · have n3 : a = 6 := (nI_eq (a := a) (b := 6) (by omega) (by omega)).mp f3
    refine xt_aload_n _ dX10_yOf_6 rfl ?_
    refine xt_geti dX10_yOf_7 kfX10_72 (by first | exact sh137 | exact hS.1 | exact hS.2.2.2.2.2 | rfl | assumption) rfl ?_
    refine xt_goto 25 dX10_yOf_10 (by decide) ?_
    exact xt_iret .int dX10_yOf_25 rfl (by first | rfl | assumption) ⟨by rw [w_ry, if_pos n3], rfl, rfl⟩
set_option maxHeartbeats 4000000 in
theorem tX10_measure (k : Nat) (F : Nat → Nat) (hS : f_S k) (hk : k + 5 < 137) (hW : f_W F) (hC : f_C μ k F) (wh : Bool) : x_K sc (d + 2) mX10_measure [.ref 137, .ref k, .int (if wh then 1 else 0)] μ w (fun r μ' _ => r = none ∧ (∀ a b, (a < F 6 ∨ a = 6) → (b < F 6 ∨ b = 6) → μ' 141 (7 * a + b) = iI (w_D wh F a b)) ∧ (∀ t, t < F 6 → μ' 142 t = iI (w_P wh F t)) ∧ ∀ a, a ≠ 141 → a ≠ 142 → μ' a = μ a) := by
  have h6 := hW.1.2.2.2.2.2.2
  refine x_K.of (by decide) (Nat.le_of_ble_eq_true rfl) ?_
  show x_T sc (d + 2) mX10_measure 0 [.ref 137, .ref k, .int (if wh then 1 else 0), .retAddr 0, .retAddr 0, .retAddr 0] [] μ w _
  have L14 : ∀ (n14 a : Nat) (μ2 : x_Me) (v5 : Value) (hM : ∀ a2 b2, a2 < a → b2 < 7 → μ2 141 (7 * a2 + b2) = w_rf μ k wh a2 b2) (hf : ∀ c, c ≠ 141 → μ2 c = μ c), a + n14 = 7 → x_T sc (d + 2) mX10_measure 14 [.ref 137, .ref k, .int (if wh then 1 else 0), .int (if wh then 1 else 10), .int (nI a), v5] [] μ2 w (fun r μ' _ => r = none ∧ (∀ a b, (a < F 6 ∨ a = 6) → (b < F 6 ∨ b = 6) → μ' 141 (7 * a + b) = iI (w_D wh F a b)) ∧ (∀ t, t < F 6 → μ' 142 t = iI (w_P wh F t)) ∧ ∀ a, a ≠ 141 → a ≠ 142 → μ' a = μ a) := by
    intro n14
    induction n14 with
    | zero =>
      intro a μ2 v5 hM hf hmn
      obtain rfl : 7 = a := by omega
      refine xt_iload _ dX10_measure_14 rfl ?_
      refine xt_bipush (7) dX10_measure_16 (by decide) ?_
      refine xt_icmp_ge 85 dX10_measure_18 (by decide) (fun _ => ?_) (fun q => absurd (by decide) q)
      refine xt_iconst (0) dX10_measure_85 (by decide) ?_
      refine xt_istore dX10_measure_86 (by decide) rfl ?_
      change x_T _ _ _ _ [_, _, _, _, _, _] _ _ _ _
      have L88 : ∀ (n88 t : Nat) (μ4 : x_Me) (hP4 : ∀ t2, t2 < t → μ4 142 t2 = w_rp μ k wh t2) (h141 : μ4 141 = μ2 141) (hf4 : ∀ c, c ≠ 141 → c ≠ 142 → μ4 c = μ c), t + n88 = 6 → x_T sc (d + 2) mX10_measure 88 [.ref 137, .ref k, .int (if wh then 1 else 0), .int (if wh then 1 else 10), .int (nI t), v5] [] μ4 w (fun r μ' _ => r = none ∧ (∀ a b, (a < F 6 ∨ a = 6) → (b < F 6 ∨ b = 6) → μ' 141 (7 * a + b) = iI (w_D wh F a b)) ∧ (∀ t, t < F 6 → μ' 142 t = iI (w_P wh F t)) ∧ ∀ a, a ≠ 141 → a ≠ 142 → μ' a = μ a) := by
        intro n88
        induction n88 with
        | zero =>
          intro t μ4 hP4 h141 hf4 hmn
          obtain rfl : 6 = t := by omega
          refine xt_iload _ dX10_measure_88 rfl ?_
          refine xt_bipush (6) dX10_measure_90 (by decide) ?_
          refine xt_icmp_ge 143 dX10_measure_92 (by decide) (fun _ => ?_) (fun q => absurd (by decide) q)
          exact xt_ret dX10_measure_143 rfl ⟨rfl, fun a b ha hb => by rw [h141, hM a b (by omega) (by omega)]; exact w_rf_D hC hW wh ha hb, fun t ht => by rw [hP4 t (by omega)]; exact w_rp_P hC hW wh ht, hf4⟩
        | succ n88 ih88 =>
          intro t μ4 hP4 h141 hf4 hmn
          have hlt_t : t < 6 := by omega
          refine xt_iload _ dX10_measure_88 rfl ?_
          refine xt_bipush (6) dX10_measure_90 (by decide) ?_
          refine xt_icmp_ge 143 dX10_measure_92 (by decide) (fun q => absurd q (nI_ge (b := 6) hlt_t (by decide))) (fun _ => ?_)
          refine xt_aload_n _ dX10_measure_95 rfl ?_
          refine xt_getr _ dX10_measure_96 kfX10_24 (by first | exact sh137 | exact hS.1 | exact hS.2.2.2.2.2 | rfl | assumption) rfl ?_
          refine xt_iload _ dX10_measure_99 rfl ?_
          refine xt_iload_n _ dX10_measure_101 rfl ?_
          refine xt_if_eq 109 dX10_measure_102 (by decide) (fun t102 => ?_) (fun f102 => ?_)
          · refine xt_aload_n _ dX10_measure_109 rfl ?_
            refine xt_getr _ dX10_measure_110 kfX10_62 (by first | exact sh137 | exact hS.1 | exact hS.2.2.2.2.2 | rfl | assumption) rfl ?_
            refine xt_iconst (4) dX10_measure_113 (by decide) ?_
            refine xt_iload _ dX10_measure_114 rfl ?_
            refine xt_imul dX10_measure_116 ?_
            refine xt_iconst (2) dX10_measure_117 (by decide) ?_
            refine xt_iadd dX10_measure_118 ?_
            rw [show (4 : Int32) * nI t + 2 = nI (4 * t + 2) by rw [show (4 : Int32) = nI 4 from rfl, show (2 : Int32) = nI 2 from rfl, pk_mul, nI_add]]
            refine xt_cS _ dX10_measure_119 klX10_65 (tX8_at sc _ _ _ (k := k + 5) (n := 24) hS.2.2.2.2.2 (by decide) _) rfl rfl (Nat.le_of_ble_eq_true rfl) ?_
            rw [s_at_ix (j := 4 * t + 2) (by omega) (by decide) rfl]
            refine xt_aload_n _ dX10_measure_122 rfl ?_
            refine xt_getr _ dX10_measure_123 kfX10_62 (by first | exact sh137 | exact hS.1 | exact hS.2.2.2.2.2 | rfl | assumption) rfl ?_
            refine xt_iconst (4) dX10_measure_126 (by decide) ?_
            refine xt_iload _ dX10_measure_127 rfl ?_
            refine xt_imul dX10_measure_129 ?_
            refine xt_iconst (3) dX10_measure_130 (by decide) ?_
            refine xt_iadd dX10_measure_131 ?_
            rw [show (4 : Int32) * nI t + 3 = nI (4 * t + 3) by rw [show (4 : Int32) = nI 4 from rfl, show (3 : Int32) = nI 3 from rfl, pk_mul, nI_add]]
            refine xt_cS _ dX10_measure_132 klX10_65 (tX8_at sc _ _ _ (k := k + 5) (n := 24) hS.2.2.2.2.2 (by decide) _) rfl rfl (Nat.le_of_ble_eq_true rfl) ?_
            rw [s_at_ix (j := 4 * t + 3) (by omega) (by decide) rfl]
            refine xt_imul dX10_measure_135 ?_
            refine xt_ast dX10_measure_136 (by first | exact sh137 | exact hS.1 | exact hS.2.2.2.2.2 | rfl | assumption) (by exact vp_in_nI (by omega) (by decide)) ?_
            refine xt_inc _ (1) dX10_measure_137 rfl (by decide) (by decide) rfl ?_
            change x_T _ _ _ _ [_, _, _, _, _, _] _ _ _ _
            refine xt_goto 88 dX10_measure_140 (by decide) ?_
            have hw := s_if0 t102
            refine x_T.ls (by rw [nI_succ t]) (ih88 (t + 1) _ (fun t2 h => ?_) (by rw [x_u_ne (by decide)]; exact h141) (fun c h1 h2 => by rw [x_u_ne h2]; exact hf4 c h1 h2) (by omega))
            rw [x_u_eq, nI_clamp (by omega)]
            by_cases he : t2 = t
            · rw [he, pk_us, w_rp, hw, hf4 (k + 5) (by omega) (by omega)]; rfl
            · rw [pk_un he]; exact hP4 t2 (by omega)
          · refine xt_iconst (0) dX10_measure_105 (by decide) ?_
            refine xt_goto 136 dX10_measure_106 (by decide) ?_
            refine xt_ast dX10_measure_136 (by first | exact sh137 | exact hS.1 | exact hS.2.2.2.2.2 | rfl | assumption) (by exact vp_in_nI (by omega) (by decide)) ?_
            refine xt_inc _ (1) dX10_measure_137 rfl (by decide) (by decide) rfl ?_
            change x_T _ _ _ _ [_, _, _, _, _, _] _ _ _ _
            refine xt_goto 88 dX10_measure_140 (by decide) ?_
            have hw := s_if1 f102
            refine x_T.ls (by rw [nI_succ t]) (ih88 (t + 1) _ (fun t2 h => ?_) (by rw [x_u_ne (by decide)]; exact h141) (fun c h1 h2 => by rw [x_u_ne h2]; exact hf4 c h1 h2) (by omega))
            rw [x_u_eq, nI_clamp (by omega)]
            by_cases he : t2 = t
            · rw [he, pk_us, w_rp, hw]; rfl
            · rw [pk_un he]; exact hP4 t2 (by omega)
      exact L88 6 0 μ2 (fun t h => absurd h (by omega)) rfl (fun c h1 _ => hf c h1) (by omega)
    | succ n14 ih14 =>
      intro a μ2 v5 hM hf hmn
      have hlt_a : a < 7 := by omega
      refine xt_iload _ dX10_measure_14 rfl ?_
      refine xt_bipush (7) dX10_measure_16 (by decide) ?_
      refine xt_icmp_ge 85 dX10_measure_18 (by decide) (fun q => absurd q (nI_ge (b := 7) hlt_a (by decide))) (fun _ => ?_)
      refine xt_iconst (0) dX10_measure_21 (by decide) ?_
      refine xt_istore dX10_measure_22 (by decide) rfl ?_
      change x_T _ _ _ _ [_, _, _, _, _, _] _ _ _ _
      have L24 : ∀ (n24 b : Nat) (μ3 : x_Me) (hM3 : ∀ a2 b2, (a2 < a ∧ b2 < 7 ∨ a2 = a ∧ b2 < b) → μ3 141 (7 * a2 + b2) = w_rf μ k wh a2 b2) (hf3 : ∀ c, c ≠ 141 → μ3 c = μ c), b + n24 = 7 → x_T sc (d + 2) mX10_measure 24 [.ref 137, .ref k, .int (if wh then 1 else 0), .int (if wh then 1 else 10), .int (nI a), .int (nI b)] [] μ3 w (fun r μ' _ => r = none ∧ (∀ a b, (a < F 6 ∨ a = 6) → (b < F 6 ∨ b = 6) → μ' 141 (7 * a + b) = iI (w_D wh F a b)) ∧ (∀ t, t < F 6 → μ' 142 t = iI (w_P wh F t)) ∧ ∀ a, a ≠ 141 → a ≠ 142 → μ' a = μ a) := by
        intro n24
        induction n24 with
        | zero =>
          intro b μ3 hM3 hf3 hmn
          obtain rfl : 7 = b := by omega
          refine xt_iload _ dX10_measure_24 rfl ?_
          refine xt_bipush (7) dX10_measure_26 (by decide) ?_
          refine xt_icmp_ge 79 dX10_measure_28 (by decide) (fun _ => ?_) (fun q => absurd (by decide) q)
          refine xt_inc _ (1) dX10_measure_79 rfl (by decide) (by decide) rfl ?_
          change x_T _ _ _ _ [_, _, _, _, _, _] _ _ _ _
          refine xt_goto 14 dX10_measure_82 (by decide) ?_
          refine x_T.ls (by rw [nI_succ a]) (ih14 (a + 1) μ3 (.int (nI 7)) (fun a2 b2 h1 h2 => hM3 a2 b2 (by omega)) hf3 (by omega))
        | succ n24 ih24 =>
          intro b μ3 hM3 hf3 hmn
          have hlt_b : b < 7 := by omega
          refine xt_iload _ dX10_measure_24 rfl ?_
          refine xt_bipush (7) dX10_measure_26 (by decide) ?_
          refine xt_icmp_ge 79 dX10_measure_28 (by decide) (fun q => absurd q (nI_ge (b := 7) hlt_b (by decide))) (fun _ => ?_)
          refine xt_aload_n _ dX10_measure_31 rfl ?_
          refine xt_getr _ dX10_measure_32 kfX10_21 (by first | exact sh137 | exact hS.1 | exact hS.2.2.2.2.2 | rfl | assumption) rfl ?_
          refine xt_bipush (7) dX10_measure_35 (by decide) ?_
          refine xt_iload _ dX10_measure_37 rfl ?_
          refine xt_imul dX10_measure_39 ?_
          refine xt_iload _ dX10_measure_40 rfl ?_
          refine xt_iadd dX10_measure_42 ?_
          rw [show (7 : Int32) * nI a + nI b = nI (7 * a + b) by rw [show (7 : Int32) = nI 7 from rfl, pk_mul, nI_add]]
          refine xt_iload_n _ dX10_measure_43 rfl ?_
          refine xt_aload_n _ dX10_measure_44 rfl ?_
          refine xt_iload _ dX10_measure_45 rfl ?_
          refine xt_cS _ dX10_measure_47 klX10_50 (tX10_xOf sc _ μ3 w k hS a (by omega)) rfl rfl (Nat.le_of_ble_eq_true rfl) ?_
          refine xt_aload_n _ dX10_measure_50 rfl ?_
          refine xt_iload _ dX10_measure_51 rfl ?_
          refine xt_cS _ dX10_measure_53 klX10_54 (tX10_yOf sc _ μ3 w k hS a (by omega)) rfl rfl (Nat.le_of_ble_eq_true rfl) ?_
          refine xt_aload_n _ dX10_measure_56 rfl ?_
          refine xt_iload _ dX10_measure_57 rfl ?_
          refine xt_cS _ dX10_measure_59 klX10_50 (tX10_xOf sc _ μ3 w k hS b (by omega)) rfl rfl (Nat.le_of_ble_eq_true rfl) ?_
          refine xt_aload_n _ dX10_measure_62 rfl ?_
          refine xt_iload _ dX10_measure_63 rfl ?_
          refine xt_cS _ dX10_measure_65 klX10_54 (tX10_yOf sc _ μ3 w k hS b (by omega)) rfl rfl (Nat.le_of_ble_eq_true rfl) ?_
          rw [w_rx_cg (hf3 k (by omega)) (hf3 (k + 5) (by omega)) a, w_ry_cg (hf3 k (by omega)) (hf3 (k + 5) (by omega)) a, w_rx_cg (hf3 k (by omega)) (hf3 (k + 5) (by omega)) b, w_ry_cg (hf3 k (by omega)) (hf3 (k + 5) (by omega)) b]
          refine xt_cS _ dX10_measure_68 klX10_57 (tX8_far sc _ μ3 w _ _ _ _) rfl rfl (Nat.le_of_ble_eq_true rfl) ?_
          refine xt_imul dX10_measure_71 ?_
          refine xt_ast dX10_measure_72 (by first | exact sh137 | exact hS.1 | exact hS.2.2.2.2.2 | rfl | assumption) (by exact vp_in_nI (by omega) (by decide)) ?_
          refine xt_inc _ (1) dX10_measure_73 rfl (by decide) (by decide) rfl ?_
          change x_T _ _ _ _ [_, _, _, _, _, _] _ _ _ _
          refine xt_goto 24 dX10_measure_76 (by decide) ?_
          refine x_T.ls (by rw [nI_succ b]) (ih24 (b + 1) _ (fun a2 b2 h => ?_) (fun c hc => by rw [x_u_ne hc]; exact hf3 c hc) (by omega))
          rw [x_u_eq, nI_clamp (by omega)]
          by_cases he : 7 * a2 + b2 = 7 * a + b
          · rw [he, pk_us]
            obtain rfl : a2 = a := by omega
            obtain rfl : b2 = b := by omega
            rfl
          · rw [pk_un he]; exact hM3 a2 b2 (by omega)
      exact L24 7 0 μ2 (fun a2 b2 h => hM a2 b2 (by omega) (by omega)) hf (by omega)
  refine xt_iload_n _ dX10_measure_0 rfl ?_
  refine xt_if_eq 8 dX10_measure_1 (by decide) (fun t1 => ?_) (fun f1 => ?_)
  · refine xt_bipush (10) dX10_measure_8 (by decide) ?_
    refine xt_istore_n dX10_measure_10 (by decide) rfl ?_
    change x_T _ _ _ _ [_, _, _, _, _, _] _ _ _ _
    refine xt_iconst (0) dX10_measure_11 (by decide) ?_
    refine xt_istore dX10_measure_12 (by decide) rfl ?_
    change x_T _ _ _ _ [_, _, _, _, _, _] _ _ _ _
    refine x_T.ls ?_ (L14 7 0 μ (.retAddr 0) (fun a b h _ => absurd h (by omega)) (fun _ _ => rfl) (by omega))
    rw [s_if0 t1]; rfl
  · refine xt_iconst (1) dX10_measure_4 (by decide) ?_
    refine xt_goto 10 dX10_measure_5 (by decide) ?_
    refine xt_istore_n dX10_measure_10 (by decide) rfl ?_
    change x_T _ _ _ _ [_, _, _, _, _, _] _ _ _ _
    refine xt_iconst (0) dX10_measure_11 (by decide) ?_
    refine xt_istore dX10_measure_12 (by decide) rfl ?_
    change x_T _ _ _ _ [_, _, _, _, _, _] _ _ _ _
    refine x_T.ls ?_ (L14 7 0 μ (.retAddr 0) (fun a b h _ => absurd h (by omega)) (fun _ _ => rfl) (by omega))
    rw [s_if1 f1]; rfl
theorem w_fold_in {P : Nat → Int} {D : Nat → Nat → Int} {re : Bool} {x0 : Int} {tb : Nat → Nat → w_X} {s p : Nat} : ∀ n, w_fold P D re x0 tb s p n = (x0, 0, 0) ∨ ∃ t, t < n ∧ s.testBit t = false ∧ w_fold P D re x0 tb s p n = (w_v P D tb s p t, w_m tb s t, t + 1)
  | 0 => .inl rfl
  | n + 1 => by
    have keep : w_fold P D re x0 tb s p (n + 1) = w_fold P D re x0 tb s p n → (w_fold P D re x0 tb s p (n + 1) = (x0, 0, 0) ∨ ∃ t, t < n + 1 ∧ s.testBit t = false ∧ w_fold P D re x0 tb s p (n + 1) = (w_v P D tb s p t, w_m tb s t, t + 1)) := fun e => by
      rw [e]
      rcases w_fold_in (P := P) (D := D) (re := re) (x0 := x0) (tb := tb) (s := s) (p := p) n with h | ⟨t, h1, h2, h3⟩
      · exact .inl h
      · exact .inr ⟨t, by omega, h2, h3⟩
    cases hb : s.testBit n
    · by_cases hc : ((w_fold P D re x0 tb s p n).1 < w_v P D tb s p n ∨ (w_v P D tb s p n = (w_fold P D re x0 tb s p n).1 ∧ w_m tb s n < (w_fold P D re x0 tb s p n).2.1)) ∨ (re = false ∧ (w_fold P D re x0 tb s p n).2.2 = 0)
      · exact .inr ⟨n, by omega, hb, w_f_y hb hc⟩
      · exact keep (w_f_n hb hc)
    · exact keep (w_f_b hb)
theorem w_W_in {wh : Bool} {T : Nat} {P : Nat → Int} {D : Nat → Nat → Int} {s p : Nat} (h : s < 2 ^ T) : w_W wh T P D s p = (w_x0 wh D p, 0, 0) ∨ ∃ t, t < T ∧ s.testBit t = false ∧ w_W wh T P D s p = (w_v P D (w_W wh T P D) s p t, w_m (w_W wh T P D) s t, t + 1) := by
  rw [w_W_fix h]; exact w_fold_in T
theorem w_W_ok2 {wh : Bool} {T : Nat} {P : Nat → Int} {D : Nat → Nat → Int} (hT : T ≤ 6) (hPD : w_PD T P D) {s p : Nat} (hs : s < 2 ^ T) (hp : p < T ∨ p = 6) : w_ok 5000 6 (w_W wh T P D s p) := by
  have h1 := s_cnt_le (fun i => !s.testBit i) T
  obtain ⟨a1, a2, a3, a4⟩ := w_W_ok (wh := wh) hT hPD (w_cn T s) s rfl hs hp
  have h2 : (w_cn T s : Int) ≤ 6 := by
    have : w_cn T s ≤ 6 := Nat.le_trans h1 hT
    omega
  have h3 : w_cn T s ≤ 6 := Nat.le_trans h1 hT
  exact ⟨by omega, by omega, by omega, a4⟩
def w_chn (W : Nat → Nat → w_X) : Nat → Nat × Nat
  | 0 => (0, 6)
  | i + 1 => ((w_chn W i).1 ||| 2 ^ ((W (w_chn W i).1 (w_chn W i).2).2.2 - 1), (W (w_chn W i).1 (w_chn W i).2).2.2 - 1)
def w_pos (T s p : Nat) : Prop := s < 2 ^ T ∧ (p < T ∧ s.testBit p = true ∨ s = 0 ∧ p = 6)
theorem w_or_pos {T s t : Nat} (hs : s < 2 ^ T) (ht : t < T) : w_pos T (s ||| 2 ^ t) t := ⟨w_or_lt ht hs, .inl ⟨ht, by rw [Nat.testBit_or, Nat.testBit_two_pow_self, Bool.or_true]⟩⟩
theorem w_chn_ok {wh : Bool} {T : Nat} {P : Nat → Int} {D : Nat → Nat → Int} : ∀ i, i ≤ (w_W wh T P D 0 6).2.1 → w_pos T (w_chn (w_W wh T P D) i).1 (w_chn (w_W wh T P D) i).2 ∧ (w_W wh T P D (w_chn (w_W wh T P D) i).1 (w_chn (w_W wh T P D) i).2).2.1 = (w_W wh T P D 0 6).2.1 - i
  | 0, _ => ⟨⟨Nat.two_pow_pos T, .inr ⟨rfl, rfl⟩⟩, rfl⟩
  | i + 1, h => by
    obtain ⟨h1, h2⟩ := w_chn_ok (wh := wh) (T := T) (P := P) (D := D) i (by omega)
    rcases w_W_in (wh := wh) (T := T) (P := P) (D := D) (p := (w_chn (w_W wh T P D) i).2) h1.1 with e | ⟨t, ht, hb, e⟩
    · rw [e] at h2
      have h3 : 0 = (w_W wh T P D 0 6).2.1 - i := h2
      omega
    · have e1 : w_chn (w_W wh T P D) (i + 1) = ((w_chn (w_W wh T P D) i).1 ||| 2 ^ t, t) := by
        rw [w_chn, e]; rfl
      rw [e1]
      refine ⟨w_or_pos h1.1 ht, ?_⟩
      rw [e] at h2
      have h3 : 1 + (w_W wh T P D ((w_chn (w_W wh T P D) i).1 ||| 2 ^ t) t).2.1 = (w_W wh T P D 0 6).2.1 - i := h2
      show (w_W wh T P D ((w_chn (w_W wh T P D) i).1 ||| 2 ^ t) t).2.1 = _
      omega
theorem w_chn_t {wh : Bool} {T : Nat} {P : Nat → Int} {D : Nat → Nat → Int} {i : Nat} (h : i < (w_W wh T P D 0 6).2.1) : (w_W wh T P D (w_chn (w_W wh T P D) i).1 (w_chn (w_W wh T P D) i).2).2.2 ≠ 0 ∧ (w_W wh T P D (w_chn (w_W wh T P D) i).1 (w_chn (w_W wh T P D) i).2).2.2 - 1 < T := by
  obtain ⟨h1, h2⟩ := w_chn_ok (wh := wh) (T := T) (P := P) (D := D) i (by omega)
  rcases w_W_in (wh := wh) (T := T) (P := P) (D := D) (p := (w_chn (w_W wh T P D) i).2) h1.1 with e | ⟨t, ht, hb, e⟩
  · rw [e] at h2
    have h3 : 0 = (w_W wh T P D 0 6).2.1 - i := h2
    omega
  · rw [e]
    exact ⟨Nat.succ_ne_zero t, ht⟩
def w_hm (W : Nat → Nat → w_X) (μ : x_Me) (s p : Nat) : Prop := μ 138 (7 * s + p) = iI (W s p).1 ∧ μ 139 (7 * s + p) = nI (W s p).2.1 ∧ μ 140 (7 * s + p) = eI (W s p).2.2
set_option maxHeartbeats 2000000 in
theorem tX10_follow (wh : Bool) (T : Nat) (P : Nat → Int) (D : Nat → Nat → Int) (hT : T ≤ 6) (hN : ((w_W wh T P D) 0 6).2.1 ≤ 6) (h139 : μ 139 6 = nI ((w_W wh T P D) 0 6).2.1) (hA : ∀ s p, w_pos T s p → μ 140 (7 * s + p) = eI ((w_W wh T P D) s p).2.2) : x_K sc (d + 1) mX10_follow [.ref 137] μ w (fun r μ' _ => r = none ∧ μ' 137 = upd (μ 137) 6 (nI ((w_W wh T P D) 0 6).2.1) ∧ (∀ q, q < ((w_W wh T P D) 0 6).2.1 → μ' 143 q = nI (w_chn (w_W wh T P D) (q + 1)).2) ∧ ∀ a, a ≠ 137 → a ≠ 143 → μ' a = μ a) := by
  have h64 : 2 ^ T ≤ 2 ^ 6 := Nat.pow_le_pow_right (by decide) hT
  refine x_K.of (by decide) (Nat.le_of_ble_eq_true rfl) ?_
  show x_T sc (d + 1) mX10_follow 0 [.ref 137, .retAddr 0, .retAddr 0, .retAddr 0] [] μ w _
  refine xt_aload_n _ dX10_follow_0 rfl ?_
  refine xt_aload_n _ dX10_follow_1 rfl ?_
  refine xt_getr _ dX10_follow_2 kfX10_15 (by first | exact sh137 | rfl | assumption) rfl ?_
  refine xt_bipush (6) dX10_follow_5 (by decide) ?_
  refine xt_ald dX10_follow_7 (by first | exact sh137 | rfl | assumption) (by unfold vp_in; decide) ?_
  rw [show (6 : Int32).toNatClampNeg = 6 from rfl, h139]
  refine xt_bipush (6) dX10_follow_8 (by decide) ?_
  refine xt_mmin dX10_follow_10 kmX10_79 (Nat.le_of_ble_eq_true rfl) ?_
  rw [if_neg (show ¬ (6 : Int32) < nI ((w_W wh T P D) 0 6).2.1 from fun z => Nat.not_lt.mpr hN ((nI_ltI (a := 6) (by decide) (by omega)).mp z))]
  refine xt_puti dX10_follow_13 kpX10_85 (by first | exact sh137 | rfl | assumption) rfl (by first | rfl | assumption) (by first | rfl | assumption) ?_
  refine xt_iconst (0) dX10_follow_16 (by decide) ?_
  refine xt_istore_n dX10_follow_17 (by decide) rfl ?_
  change x_T _ _ _ _ [_, _, _, _] _ _ _ _
  refine xt_bipush (6) dX10_follow_18 (by decide) ?_
  refine xt_istore_n dX10_follow_20 (by decide) rfl ?_
  change x_T _ _ _ _ [_, _, _, _] _ _ _ _
  refine xt_iconst (0) dX10_follow_21 (by decide) ?_
  refine xt_istore_n dX10_follow_22 (by decide) rfl ?_
  change x_T _ _ _ _ [_, _, _, _] _ _ _ _
  have L23 : ∀ (n23 i : Nat) (μ2 : x_Me) (h1 : μ2 137 = upd (μ 137) 6 (nI ((w_W wh T P D) 0 6).2.1)) (h2 : ∀ q, q < i → μ2 143 q = nI (w_chn (w_W wh T P D) (q + 1)).2) (hf : ∀ a, a ≠ 137 → a ≠ 143 → μ2 a = μ a), i + n23 = ((w_W wh T P D) 0 6).2.1 → x_T sc (d + 1) mX10_follow 23 [.ref 137, .int (nI (w_chn (w_W wh T P D) i).1), .int (nI (w_chn (w_W wh T P D) i).2), .int (nI i)] [] μ2 w (fun r μ' _ => r = none ∧ μ' 137 = upd (μ 137) 6 (nI ((w_W wh T P D) 0 6).2.1) ∧ (∀ q, q < ((w_W wh T P D) 0 6).2.1 → μ' 143 q = nI (w_chn (w_W wh T P D) (q + 1)).2) ∧ ∀ a, a ≠ 137 → a ≠ 143 → μ' a = μ a) := by
    intro n23
    induction n23 with
    | zero =>
      intro i μ2 h1 h2 hf hmn
      obtain rfl : ((w_W wh T P D) 0 6).2.1 = i := by omega
      refine xt_iload_n _ dX10_follow_23 rfl ?_
      refine xt_aload_n _ dX10_follow_24 rfl ?_
      refine xt_geti dX10_follow_25 kfX10_85 (by first | exact sh137 | rfl | assumption) rfl ?_
      refine xt_icmp_ge 64 dX10_follow_28 (by decide) (fun _ => ?_) (fun q => absurd (by rw [h1, pk_us]; exact Int32.le_refl _) q)
      exact xt_ret dX10_follow_64 rfl ⟨rfl, h1, h2, hf⟩
    | succ n23 ih23 =>
      intro i μ2 h1 h2 hf hmn
      have hlt_i : i < ((w_W wh T P D) 0 6).2.1 := by omega
      have hps := (w_chn_ok (wh := wh) (T := T) (P := P) (D := D) i (by omega)).1
      have hct := w_chn_t (wh := wh) (T := T) (P := P) (D := D) hlt_i
      have hpl := hps.1
      have hpp : (w_chn (w_W wh T P D) i).2 ≤ 6 := by have := hps.2; omega
      refine xt_iload_n _ dX10_follow_23 rfl ?_
      refine xt_aload_n _ dX10_follow_24 rfl ?_
      refine xt_geti dX10_follow_25 kfX10_85 (by first | exact sh137 | rfl | assumption) rfl ?_
      refine xt_icmp_ge 64 dX10_follow_28 (by decide) (fun q => absurd q (by rw [h1, pk_us]; exact nI_ge hlt_i (by omega))) (fun _ => ?_)
      refine xt_aload_n _ dX10_follow_31 rfl ?_
      refine xt_getr _ dX10_follow_32 kfX10_18 (by first | exact sh137 | rfl | assumption) rfl ?_
      refine xt_bipush (7) dX10_follow_35 (by decide) ?_
      refine xt_iload_n _ dX10_follow_37 rfl ?_
      refine xt_imul dX10_follow_38 ?_
      refine xt_iload_n _ dX10_follow_39 rfl ?_
      refine xt_iadd dX10_follow_40 ?_
      rw [show (7 : Int32) * nI (w_chn (w_W wh T P D) i).1 + nI (w_chn (w_W wh T P D) i).2 = nI (7 * (w_chn (w_W wh T P D) i).1 + (w_chn (w_W wh T P D) i).2) by rw [show (7 : Int32) = nI 7 from rfl, pk_mul, nI_add]]
      refine xt_cS _ dX10_follow_41 klX10_65 (tX8_at sc _ _ _ (k := 140) (n := 448) rfl (by decide) _) rfl rfl (Nat.le_of_ble_eq_true rfl) ?_
      rw [s_at_ix (j := 7 * (w_chn (w_W wh T P D) i).1 + (w_chn (w_W wh T P D) i).2) (by omega) (by decide) rfl]
      rw [hf 140 (by decide) (by decide), hA _ _ hps, eI_pr hct.1]
      refine xt_istore_n dX10_follow_44 (by decide) rfl ?_
      change x_T _ _ _ _ [_, _, _, _] _ _ _ _
      refine xt_aload_n _ dX10_follow_45 rfl ?_
      refine xt_getr _ dX10_follow_46 kfX10_27 (by first | exact sh137 | rfl | assumption) rfl ?_
      refine xt_iload_n _ dX10_follow_49 rfl ?_
      refine xt_iload_n _ dX10_follow_50 rfl ?_
      refine xt_ast dX10_follow_51 (by first | exact sh137 | rfl | assumption) (by exact vp_in_nI (by omega) (by decide)) ?_
      refine xt_iload_n _ dX10_follow_52 rfl ?_
      refine xt_iconst (1) dX10_follow_53 (by decide) ?_
      refine xt_iload_n _ dX10_follow_54 rfl ?_
      refine xt_ishl dX10_follow_55 ?_
      refine xt_ior dX10_follow_56 ?_
      refine xt_istore_n dX10_follow_57 (by decide) rfl ?_
      change x_T _ _ _ _ [_, _, _, _] _ _ _ _
      refine xt_inc _ (1) dX10_follow_58 rfl (by decide) (by decide) rfl ?_
      change x_T _ _ _ _ [_, _, _, _] _ _ _ _
      refine xt_goto 23 dX10_follow_61 (by decide) ?_
      refine x_T.ls ?_ (ih23 (i + 1) _ (by rw [x_u_ne (by decide)]; exact h1) (fun q hq => ?_) (fun a ha hb => by rw [x_u_ne hb]; exact hf a ha hb) (by omega))
      · rw [show (w_chn (w_W wh T P D) (i + 1)) = ((w_chn (w_W wh T P D) i).1 ||| 2 ^ (((w_W wh T P D) (w_chn (w_W wh T P D) i).1 (w_chn (w_W wh T P D) i).2).2.2 - 1), ((w_W wh T P D) (w_chn (w_W wh T P D) i).1 (w_chn (w_W wh T P D) i).2).2.2 - 1) from rfl]
        dsimp only
        rw [x_1sh (by omega), nI_or, nI_succ i]
      · rw [x_u_eq, nI_clamp (by omega)]
        by_cases he : q = i
        · rw [he, pk_us]; rfl
        · rw [pk_un he]; exact h2 q (by omega)
  exact L23 ((w_W wh T P D) 0 6).2.1 0 _ x_u_eq (fun q h => absurd h (by omega)) (fun a h1 _ => x_u_ne h1) (by omega)
set_option maxHeartbeats 1000000 in
theorem tX10_townAt (M : Nat) (R : Nat → Nat) (hM : M ≤ 6) (e5 : μ 137 6 = nI M) (hR : ∀ q, q < M → μ 143 q = nI (R q)) (a o : Int32) : x_K sc (d + 1) mX10_townAt [.ref 137, .int a, .int o] μ w (x_p (some (.int (if 0 ≤ a ∧ a < nI M then nI (R a.toNatClampNeg) else o))) μ w) := by
  refine x_K.of (by decide) (Nat.le_of_ble_eq_true rfl) ?_
  show x_T sc (d + 1) mX10_townAt 0 [.ref 137, .int a, .int o] [] μ w _
  refine xt_iload_n _ dX10_townAt_0 rfl ?_
  refine xt_if_lt 23 dX10_townAt_1 (by decide) (fun t1 => ?_) (fun f1 => ?_)
  · refine xt_iload_n _ dX10_townAt_23 rfl ?_
    exact xt_iret .int dX10_townAt_24 rfl (by first | rfl | assumption) ⟨by rw [if_neg (fun z => absurd t1 (Int32.not_lt.mpr z.1))], rfl, rfl⟩
  · refine xt_iload_n _ dX10_townAt_4 rfl ?_
    refine xt_aload_n _ dX10_townAt_5 rfl ?_
    refine xt_geti dX10_townAt_6 kfX10_85 (by first | exact sh137 | rfl | assumption) rfl ?_
    refine xt_icmp_ge 23 dX10_townAt_9 (by decide) (fun t9 => ?_) (fun f9 => ?_)
    · refine xt_iload_n _ dX10_townAt_23 rfl ?_
      exact xt_iret .int dX10_townAt_24 rfl (by first | rfl | assumption) ⟨by rw [e5] at t9; rw [if_neg (fun z => absurd z.2 (Int32.not_lt.mpr t9))], rfl, rfl⟩
    · refine xt_aload_n _ dX10_townAt_12 rfl ?_
      refine xt_getr _ dX10_townAt_13 kfX10_27 (by first | exact sh137 | rfl | assumption) rfl ?_
      refine xt_iload_n _ dX10_townAt_16 rfl ?_
      rw [e5] at f9
      obtain ⟨j, hj, rfl⟩ := nI_of f1
      have hjM : j < M := (nI_ltI hj (by omega)).mp (Int32.not_le.mp f9)
      refine xt_cS _ dX10_townAt_17 klX10_65 (tX8_at sc _ _ _ (k := 143) (n := 6) rfl (by decide) _) rfl rfl (Nat.le_of_ble_eq_true rfl) ?_
      rw [s_at_ix (j := j) (by omega) (by decide) rfl]
      rw [hR j hjM]
      refine xt_goto 24 dX10_townAt_20 (by decide) ?_
      exact xt_iret .int dX10_townAt_24 rfl (by first | rfl | assumption) ⟨by rw [if_pos ⟨Int32.not_lt.mp f1, nI_lt hjM (by omega)⟩, nI_clamp (by omega)], rfl, rfl⟩
end WAYS
