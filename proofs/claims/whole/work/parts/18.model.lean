/-! the reference: its small methods, a fair in hand -/
theorem sh152 : x_shape[152]? = some (.inl (10, [none, some (some (.ref 153)), some (some (.ref 154)), some (some (.ref 155)), some (some (.ref 156)), some (some (.ref 157)), some (some (.ref 158)), some (some (.ref 159)), some (some (.ref 160)), none, none, none, none, none, some none, none, none, none, some (some (.ref 161)), some (some (.ref 162)), none, none, none, none, none, none, none, none, none, none, none, none, none, none, none, none, none, some (some (.ref 163)), some (some (.ref 164)), some (some (.ref 165)), none, some (some (.ref 166)), some (some (.ref 167)), some (some (.ref 168)), none, some (some (.ref 169)), none, none, some (some (.ref 170)), none, none, none, some (some (.ref 171)), some (some (.ref 172))])) := by rfl
/-- the cells that stay from call to call -/
def x_ok (a : Nat) : Prop := a ≤ 114 ∨ (153 ≤ a ∧ a ≤ 160) ∨ a = 172
def x_keep (μ μ' : x_Me) : Prop := ∀ a, x_ok a → μ' a = μ a
theorem x_keep.rf (μ : x_Me) : x_keep μ μ := fun _ _ => rfl
theorem x_keep.tr {μ μ1 μ2 : x_Me} (h1 : x_keep μ μ1) (h2 : x_keep μ1 μ2) : x_keep μ μ2 := fun a h => (h2 a h).trans (h1 a h)
theorem x_u_ne {μ : x_Me} {k a : Nat} {m : Nat → Int32} (h : a ≠ k) : x_u μ k m a = μ a := if_neg h
theorem x_u_eq {μ : x_Me} {k : Nat} {m : Nat → Int32} : x_u μ k m k = m := if_pos rfl
theorem x_keep.u {μ μ' : x_Me} (h : x_keep μ μ') {k : Nat} {m : Nat → Int32} (hk : ¬ x_ok k) : x_keep μ (x_u μ' k m) := fun a ha => by
  rw [x_u_ne (fun e => hk (by rw [← e]; exact ha))]; exact h a ha
section MODEL
variable (sc : Nat × (Nat → Int32)) (d : Nat) (μ : x_Me) (w : Int64)
def s_in (v lo hi : Int32) : Int32 := if v < lo then 0 else if hi < v then 0 else 1
theorem s_in_nar (v lo hi : Int32) : narrow .boolean (.int (s_in v lo hi)) = .int (s_in v lo hi) := by
  unfold s_in; split
  · rfl
  · split <;> rfl
set_option maxHeartbeats 1000000 in
theorem tX12_in (v lo hi : Int32) : x_D sc d mX12_in [.int v, .int lo, .int hi] μ w (some (.int (s_in v lo hi))) μ w := by
  refine x_D.of (by decide) (Nat.le_of_ble_eq_true rfl) ?_
  show x_T sc d mX12_in 0 [.int v, .int lo, .int hi] [] μ w _
  refine xt_iload_n _ dX12_in_0 rfl ?_
  refine xt_iload_n _ dX12_in_1 rfl ?_
  refine xt_icmp_lt 14 dX12_in_2 (by decide) (fun t2 => ?_) (fun f2 => ?_)
  · refine xt_iconst (0) dX12_in_14 (by decide) ?_
    exact xt_iret .boolean dX12_in_15 rfl (by first | rfl | exact s_in_nar _ _ _ | assumption) ⟨by simp [s_in, t2], rfl, rfl⟩
  · refine xt_iload_n _ dX12_in_5 rfl ?_
    refine xt_iload_n _ dX12_in_6 rfl ?_
    refine xt_icmp_gt 14 dX12_in_7 (by decide) (fun t7 => ?_) (fun f7 => ?_)
    · refine xt_iconst (0) dX12_in_14 (by decide) ?_
      exact xt_iret .boolean dX12_in_15 rfl (by first | rfl | exact s_in_nar _ _ _ | assumption) ⟨by simp [s_in, f2, t7], rfl, rfl⟩
    · refine xt_iconst (1) dX12_in_10 (by decide) ?_
      refine xt_goto 15 dX12_in_11 (by decide) ?_
      exact xt_iret .boolean dX12_in_15 rfl (by first | rfl | exact s_in_nar _ _ _ | assumption) ⟨by simp [s_in, f2, f7], rfl, rfl⟩
def s_has (x k : Int32) : Int32 := if (x >>> (k &&& 31)) &&& 1 = 1 then 1 else 0
set_option maxHeartbeats 1000000 in
theorem tX12_has (x k : Int32) : x_D sc d mX12_has [.int x, .int k] μ w (some (.int (s_has x k))) μ w := by
  refine x_D.of (by decide) (Nat.le_of_ble_eq_true rfl) ?_
  show x_T sc d mX12_has 0 [.int x, .int k] [] μ w _
  refine xt_iload_n _ dX12_has_0 rfl ?_
  refine xt_iload_n _ dX12_has_1 rfl ?_
  refine xt_ishr dX12_has_2 ?_
  refine xt_iconst (1) dX12_has_3 (by decide) ?_
  refine xt_iand dX12_has_4 ?_
  refine xt_iconst (1) dX12_has_5 (by decide) ?_
  refine xt_icmp_ne 13 dX12_has_6 (by decide) (fun t6 => ?_) (fun f6 => ?_)
  · refine xt_iconst (0) dX12_has_13 (by decide) ?_
    exact xt_iret .boolean dX12_has_14 rfl (by first | rfl | exact s_in_nar _ _ _ | assumption) ⟨by simp [s_has, t6], rfl, rfl⟩
  · refine xt_iconst (1) dX12_has_9 (by decide) ?_
    refine xt_goto 14 dX12_has_10 (by decide) ?_
    exact xt_iret .boolean dX12_has_14 rfl (by first | rfl | exact s_in_nar _ _ _ | assumption) ⟨by simp [s_has, f6], rfl, rfl⟩
def s_gr (a b : Int32) : Int32 := if a ≤ b then b else a
set_option maxHeartbeats 1000000 in
theorem tX12_greater (a b : Int32) : x_D sc d mX12_greater [.int a, .int b] μ w (some (.int (s_gr a b))) μ w := by
  refine x_D.of (by decide) (Nat.le_of_ble_eq_true rfl) ?_
  show x_T sc d mX12_greater 0 [.int a, .int b] [] μ w _
  refine xt_iload_n _ dX12_greater_0 rfl ?_
  refine xt_iload_n _ dX12_greater_1 rfl ?_
  refine xt_icmp_le 9 dX12_greater_2 (by decide) (fun t2 => ?_) (fun f2 => ?_)
  · refine xt_iload_n _ dX12_greater_9 rfl ?_
    exact xt_iret .int dX12_greater_10 rfl (by first | rfl | exact s_in_nar _ _ _ | assumption) ⟨by simp [s_gr, t2], rfl, rfl⟩
  · refine xt_iload_n _ dX12_greater_5 rfl ?_
    refine xt_goto 10 dX12_greater_6 (by decide) ?_
    exact xt_iret .int dX12_greater_10 rfl (by first | rfl | exact s_in_nar _ _ _ | assumption) ⟨by simp [s_gr, f2], rfl, rfl⟩
def s_le (a b : Int32) : Int32 := if b ≤ a then b else a
set_option maxHeartbeats 1000000 in
theorem tX12_lesser (a b : Int32) : x_D sc d mX12_lesser [.int a, .int b] μ w (some (.int (s_le a b))) μ w := by
  refine x_D.of (by decide) (Nat.le_of_ble_eq_true rfl) ?_
  show x_T sc d mX12_lesser 0 [.int a, .int b] [] μ w _
  refine xt_iload_n _ dX12_lesser_0 rfl ?_
  refine xt_iload_n _ dX12_lesser_1 rfl ?_
  refine xt_icmp_ge 9 dX12_lesser_2 (by decide) (fun t2 => ?_) (fun f2 => ?_)
  · refine xt_iload_n _ dX12_lesser_9 rfl ?_
    exact xt_iret .int dX12_lesser_10 rfl (by first | rfl | exact s_in_nar _ _ _ | assumption) ⟨by simp [s_le, t2], rfl, rfl⟩
  · refine xt_iload_n _ dX12_lesser_5 rfl ?_
    refine xt_goto 10 dX12_lesser_6 (by decide) ?_
    exact xt_iret .int dX12_lesser_10 rfl (by first | rfl | exact s_in_nar _ _ _ | assumption) ⟨by simp [s_le, f2], rfl, rfl⟩
def s_way (x y u v : Int32) : Int32 := (if u ≤ x then x - u else u - x) + (if v ≤ y then y - v else v - y)
set_option maxHeartbeats 1000000 in
theorem tX12_way (x y u v : Int32) : x_D sc d mX12_way [.int x, .int y, .int u, .int v] μ w (some (.int (s_way x y u v))) μ w := by
  refine x_D.of (by decide) (Nat.le_of_ble_eq_true rfl) ?_
  show x_T sc d mX12_way 0 [.int x, .int y, .int u, .int v, .retAddr 0] [] μ w _
  refine xt_iload_n _ dX12_way_0 rfl ?_
  refine xt_iload_n _ dX12_way_1 rfl ?_
  refine xt_icmp_ge 11 dX12_way_2 (by decide) (fun t2 => ?_) (fun f2 => ?_)
  · refine xt_iload_n _ dX12_way_11 rfl ?_
    refine xt_iload_n _ dX12_way_12 rfl ?_
    refine xt_isub dX12_way_13 ?_
    refine xt_istore dX12_way_14 (by decide) rfl ?_
    change x_T _ _ _ _ [_, _, _, _, _] _ _ _ _
    refine xt_iload _ dX12_way_16 rfl ?_
    refine xt_iload_n _ dX12_way_18 rfl ?_
    refine xt_iload_n _ dX12_way_19 rfl ?_
    refine xt_icmp_ge 29 dX12_way_20 (by decide) (fun t20 => ?_) (fun f20 => ?_)
    · refine xt_iload_n _ dX12_way_29 rfl ?_
      refine xt_iload_n _ dX12_way_30 rfl ?_
      refine xt_isub dX12_way_31 ?_
      refine xt_iadd dX12_way_32 ?_
      exact xt_iret .int dX12_way_33 rfl (by first | rfl | exact s_in_nar _ _ _ | assumption) ⟨by simp [s_way, t2, t20], rfl, rfl⟩
    · refine xt_iload_n _ dX12_way_23 rfl ?_
      refine xt_iload_n _ dX12_way_24 rfl ?_
      refine xt_isub dX12_way_25 ?_
      refine xt_goto 32 dX12_way_26 (by decide) ?_
      refine xt_iadd dX12_way_32 ?_
      exact xt_iret .int dX12_way_33 rfl (by first | rfl | exact s_in_nar _ _ _ | assumption) ⟨by simp [s_way, t2, f20], rfl, rfl⟩
  · refine xt_iload_n _ dX12_way_5 rfl ?_
    refine xt_iload_n _ dX12_way_6 rfl ?_
    refine xt_isub dX12_way_7 ?_
    refine xt_goto 14 dX12_way_8 (by decide) ?_
    refine xt_istore dX12_way_14 (by decide) rfl ?_
    change x_T _ _ _ _ [_, _, _, _, _] _ _ _ _
    refine xt_iload _ dX12_way_16 rfl ?_
    refine xt_iload_n _ dX12_way_18 rfl ?_
    refine xt_iload_n _ dX12_way_19 rfl ?_
    refine xt_icmp_ge 29 dX12_way_20 (by decide) (fun t20 => ?_) (fun f20 => ?_)
    · refine xt_iload_n _ dX12_way_29 rfl ?_
      refine xt_iload_n _ dX12_way_30 rfl ?_
      refine xt_isub dX12_way_31 ?_
      refine xt_iadd dX12_way_32 ?_
      exact xt_iret .int dX12_way_33 rfl (by first | rfl | exact s_in_nar _ _ _ | assumption) ⟨by simp [s_way, f2, t20], rfl, rfl⟩
    · refine xt_iload_n _ dX12_way_23 rfl ?_
      refine xt_iload_n _ dX12_way_24 rfl ?_
      refine xt_isub dX12_way_25 ?_
      refine xt_goto 32 dX12_way_26 (by decide) ?_
      refine xt_iadd dX12_way_32 ?_
      exact xt_iret .int dX12_way_33 rfl (by first | rfl | exact s_in_nar _ _ _ | assumption) ⟨by simp [s_way, f2, f20], rfl, rfl⟩
theorem s_way_nI {a b x y : Nat} (ha : a ≤ 99) (hb : b ≤ 99) (hx : x ≤ 99) (hy : y ≤ 99) : s_way (nI a) (nI b) (nI x) (nI y) = nI ((if x < a then a - x else x - a) + (if y < b then b - y else y - b)) := by
  have key : ∀ p q : Nat, p ≤ 99 → q ≤ 99 → (if nI q ≤ nI p then nI p - nI q else nI q - nI p) = nI (if q < p then p - q else q - p) := by
    intro p q hp hq
    by_cases h : q ≤ p
    · rw [if_pos ((nI_leI (by omega) (by omega)).mpr h), pk_sub h]
      congr 1
      split <;> omega
    · rw [if_neg (fun z => h ((nI_leI (by omega) (by omega)).mp z)), pk_sub (by omega)]
      congr 1
      split <;> omega
  rw [s_way, key a x ha hx, key b y hb hy, nI_add]
theorem s_has_nI : ∀ x, x < 256 → ∀ j, j < 8 → s_has (nI x) (nI j) = (if x.testBit j then 1 else 0) := by decide +kernel
set_option maxHeartbeats 1000000 in
theorem tX12_ones (x : Nat) (hx : x < 256) : x_D sc (d + 1) mX12_ones [.int (nI x)] μ w (some (.int (nI (s_cnt (fun i => x.testBit i) 8)))) μ w := by
  have L4 : ∀ (n m : Nat) , m + n = 8 → x_T sc (d + 1) mX12_ones 4 [.int (nI x), .int (nI (s_cnt (fun i => x.testBit i) m)), .int (nI m)] [] μ w (x_p (some (.int (nI (s_cnt (fun i => x.testBit i) 8)))) μ w) := by
    intro n
    induction n with
    | zero =>
      intro m  hmn
      obtain rfl : m = 8 := by omega
      refine xt_iload_n _ dX12_ones_4 rfl ?_
      refine xt_bipush (8) dX12_ones_5 (by decide) ?_
      refine xt_icmp_ge 32 dX12_ones_7 (by decide) (fun _ => ?_) (fun q => absurd (by decide) q)
      refine xt_iload_n _ dX12_ones_32 rfl ?_
      exact xt_iret .int dX12_ones_33 rfl (by first | rfl | assumption) ⟨rfl, rfl, rfl⟩
    | succ n ih =>
      intro m  hmn
      have hlt : m < 8 := by omega
      refine xt_iload_n _ dX12_ones_4 rfl ?_
      refine xt_bipush (8) dX12_ones_5 (by decide) ?_
      refine xt_icmp_ge 32 dX12_ones_7 (by decide) (fun q => absurd q (nI_ge (b := 8) hlt (by decide))) (fun _ => ?_)
      refine xt_iload_n _ dX12_ones_10 rfl ?_
      refine xt_iload_n _ dX12_ones_11 rfl ?_
      refine xt_iload_n _ dX12_ones_12 rfl ?_
      refine xt_cS _ dX12_ones_13 klX12_76 (tX12_has sc d μ w _ _) rfl rfl (Nat.le_of_ble_eq_true rfl) ?_
      refine xt_if_eq 23 dX12_ones_16 (by decide) (fun t16 => ?_) (fun f16 => ?_)
      · refine xt_iconst (0) dX12_ones_23 (by decide) ?_
        refine xt_iadd dX12_ones_24 ?_
        refine xt_istore_n dX12_ones_25 (by decide) rfl ?_
        change x_T _ _ _ _ [_, _, _] _ _ _ _
        refine xt_inc _ (1) dX12_ones_26 rfl (by decide) (by decide) rfl ?_
        change x_T _ _ _ _ [_, _, _] _ _ _ _
        refine xt_goto 4 dX12_ones_29 (by decide) ?_
        refine x_T.ls ?_ (ih (m + 1) (by omega))
        rw [s_has_nI x hx m hlt] at t16
        have hb : x.testBit m = false := by cases hq : x.testBit m <;> simp_all
        have es : s_cnt (fun i => x.testBit i) (m + 1) = s_cnt (fun i => x.testBit i) m + 0 := by rw [s_cnt, hb]; rfl
        first | (rw [es, ← nI_add, nI_succ m]; done) | (rw [es, ← nI_add, nI_succ m]; rfl)
      · refine xt_iconst (1) dX12_ones_19 (by decide) ?_
        refine xt_goto 24 dX12_ones_20 (by decide) ?_
        refine xt_iadd dX12_ones_24 ?_
        refine xt_istore_n dX12_ones_25 (by decide) rfl ?_
        change x_T _ _ _ _ [_, _, _] _ _ _ _
        refine xt_inc _ (1) dX12_ones_26 rfl (by decide) (by decide) rfl ?_
        change x_T _ _ _ _ [_, _, _] _ _ _ _
        refine xt_goto 4 dX12_ones_29 (by decide) ?_
        refine x_T.ls ?_ (ih (m + 1) (by omega))
        rw [s_has_nI x hx m hlt] at f16
        have hb : x.testBit m = true := by cases hq : x.testBit m <;> simp_all
        have es : s_cnt (fun i => x.testBit i) (m + 1) = s_cnt (fun i => x.testBit i) m + 1 := by rw [s_cnt, hb]; rfl
        first | (rw [es, ← nI_add, nI_succ m]; done) | (rw [es, ← nI_add, nI_succ m]; rfl)
  refine x_D.of (by decide) (Nat.le_of_ble_eq_true rfl) ?_
  show x_T sc (d + 1) mX12_ones 0 [.int (nI x), .retAddr 0, .retAddr 0] [] μ w _
  refine xt_iconst (0) dX12_ones_0 (by decide) ?_
  refine xt_istore_n dX12_ones_1 (by decide) rfl ?_
  change x_T _ _ _ _ [_, _, _] _ _ _ _
  refine xt_iconst (0) dX12_ones_2 (by decide) ?_
  refine xt_istore_n dX12_ones_3 (by decide) rfl ?_
  change x_T _ _ _ _ [_, _, _] _ _ _ _
  exact L4 8 0 (by omega)
set_option maxHeartbeats 1000000 in
theorem tX12_of (f i : Nat) (hf : f < 8) (hi : i < 125) (e : μ 152 22 = nI f) : x_D sc d mX12_of [.ref 152, .int (nI i)] μ w (some (.int (μ 158 (125 * f + i)))) μ w := by
  refine x_D.of (by decide) (Nat.le_of_ble_eq_true rfl) ?_
  show x_T sc d mX12_of 0 [.ref 152, .int (nI i)] [] μ w _
  refine xt_aload_n _ dX12_of_0 rfl ?_
  refine xt_getr _ dX12_of_1 kfX12_26 (by first | exact sh152 | rfl | assumption) rfl ?_
  refine xt_bipush (125) dX12_of_4 (by decide) ?_
  refine xt_aload_n _ dX12_of_6 rfl ?_
  refine xt_geti dX12_of_7 kfX12_241 (by first | exact sh152 | rfl | assumption) rfl ?_
  refine xt_imul dX12_of_10 ?_
  refine xt_iload_n _ dX12_of_11 rfl ?_
  refine xt_iadd dX12_of_12 ?_
  refine xt_ald dX12_of_13 (by first | exact sh152 | rfl | assumption) (by rw [e, show (125 : Int32) * nI f + nI i = nI (125 * f + i) by rw [show (125 : Int32) = nI 125 from rfl, pk_mul, nI_add]]; exact vp_in_nI (by omega) (by decide)) ?_
  exact xt_iret .int dX12_of_14 rfl (by first | rfl | exact s_in_nar _ _ _ | assumption) ⟨by rw [e]; rw [show (125 : Int32) * nI f + nI i = nI (125 * f + i) by rw [show (125 : Int32) = nI 125 from rfl, pk_mul, nI_add], nI_clamp (by omega)], rfl, rfl⟩
theorem s_in_has {n : Nat} (hn : n < 1000) (g : Int32) : s_in g 0 (nI n - 1) = (if g < 0 then 0 else if g < nI n then 1 else 0) := by
  unfold s_in
  by_cases h : g < 0
  · rw [if_pos h, if_pos h]
  · rw [if_neg h, if_neg h]
    have e : (nI n - 1 : Int32).toInt = (n : Int) - 1 := pk_sub_toInt (a := n) (b := 1) (by omega) (by decide)
    by_cases h2 : g < nI n
    · rw [if_pos h2, if_neg (by rw [Int32.lt_iff_toInt_lt, e]; rw [Int32.lt_iff_toInt_lt, nI_toInt (by omega)] at h2; omega)]
    · rw [if_neg h2, if_pos (by rw [Int32.lt_iff_toInt_lt, e]; rw [Int32.lt_iff_toInt_lt, nI_toInt (by omega)] at h2; omega)]
set_option maxHeartbeats 1000000 in
theorem tX12_isGoer (G : Nat → Nat) (hG : G 4 ≤ 8) (e : μ 152 24 = nI (G 4)) (g : Int32) : x_D sc (d + 1) mX12_isGoer [.ref 152, .int g] μ w (some (.int (s_hasG G g))) μ w := by
  refine x_D.of (by decide) (Nat.le_of_ble_eq_true rfl) ?_
  show x_T sc (d + 1) mX12_isGoer 0 [.ref 152, .int g] [] μ w _
  refine xt_iload_n _ dX12_isGoer_0 rfl ?_
  refine xt_iconst (0) dX12_isGoer_1 (by decide) ?_
  refine xt_aload_n _ dX12_isGoer_2 rfl ?_
  refine xt_geti dX12_isGoer_3 kfX12_251 (by first | exact sh152 | rfl | assumption) rfl ?_
  refine xt_iconst (1) dX12_isGoer_6 (by decide) ?_
  refine xt_isub dX12_isGoer_7 ?_
  refine xt_cS _ dX12_isGoer_8 klX12_84 (tX12_in sc d μ w _ _ _) rfl rfl (Nat.le_of_ble_eq_true rfl) ?_
  exact xt_iret .boolean dX12_isGoer_11 rfl (by first | rfl | exact s_in_nar _ _ _ | assumption) ⟨by rw [e, s_in_has (by omega)]; rfl, rfl, rfl⟩
set_option maxHeartbeats 1000000 in
theorem tX12_is (s c : Nat) (hs : s < 12) (hc : c < 100) (e : μ 157 s = nI c) (k : Int32) : x_D sc (d + 1) mX12_is [.ref 152, .int (nI s), .int k] μ w (some (.int (if k < 0 then 0 else if k < nI c then 1 else 0))) μ w := by
  refine x_D.of (by decide) (Nat.le_of_ble_eq_true rfl) ?_
  show x_T sc (d + 1) mX12_is 0 [.ref 152, .int (nI s), .int k] [] μ w _
  refine xt_iload_n _ dX12_is_0 rfl ?_
  refine xt_iconst (0) dX12_is_1 (by decide) ?_
  refine xt_aload_n _ dX12_is_2 rfl ?_
  refine xt_getr _ dX12_is_3 kfX12_23 (by first | exact sh152 | rfl | assumption) rfl ?_
  refine xt_iload_n _ dX12_is_6 rfl ?_
  refine xt_ald dX12_is_7 (by first | exact sh152 | rfl | assumption) (by exact vp_in_nI (by omega) (by decide)) ?_
  refine xt_iconst (1) dX12_is_8 (by decide) ?_
  refine xt_isub dX12_is_9 ?_
  refine xt_cS _ dX12_is_10 klX12_84 (tX12_in sc d μ w _ _ _) rfl rfl (Nat.le_of_ble_eq_true rfl) ?_
  exact xt_iret .boolean dX12_is_13 rfl (by first | rfl | exact s_in_nar _ _ _ | assumption) ⟨by rw [nI_clamp (by omega), e, s_in_has (by omega)], rfl, rfl⟩
/-- a scene in hand: of the row f, with the stand, the slant, the goers' places and wrongs as G has them -/
def m_S (μ : x_Me) (f : Nat) (G : Nat → Nat) : Prop := (f < 2 ∧ μ 152 22 = nI f ∧ μ 152 23 = nI (G 3) ∧ μ 152 24 = nI (G 4) ∧ μ 152 25 = nI (G 6) ∧ μ 152 26 = nI (G 0) ∧ μ 152 27 = nI (G 1) ∧ μ 152 28 = nI (G 2)) ∧
  (∀ g, g < 8 → μ 163 g = nI (G (25 + g)) ∧ μ 164 g = nI (G (33 + g))) ∧ (∀ i, i < 48 → μ 165 i = nI (G (41 + i))) ∧ (∀ i, i < 125 → (3 ≤ i ∧ i < 25 ∨ 89 ≤ i) → μ 158 (125 * f + i) = nI (G i))
set_option maxHeartbeats 1000000 in
theorem tX12_fromStand (f : Nat) (G : Nat → Nat) (hS : m_S μ f G) (hW : f_W G) (g : Nat) (hg : g < G 4) : x_D sc (d + 1) mX12_fromStand [.ref 152, .int (nI g)] μ w (some (.int (nI (s_farO G g)))) μ w := by
  have hg8 : g < 8 := by have := hW.1.2.2.2.2.1; omega
  refine x_D.of (by decide) (Nat.le_of_ble_eq_true rfl) ?_
  show x_T sc (d + 1) mX12_fromStand 0 [.ref 152, .int (nI g)] [] μ w _
  refine xt_aload_n _ dX12_fromStand_0 rfl ?_
  refine xt_getr _ dX12_fromStand_1 kfX12_41 (by first | exact sh152 | rfl | assumption) rfl ?_
  refine xt_iload_n _ dX12_fromStand_4 rfl ?_
  refine xt_ald dX12_fromStand_5 (by first | exact sh152 | rfl | assumption) (by exact vp_in_nI (by omega) (by decide)) ?_
  refine xt_aload_n _ dX12_fromStand_6 rfl ?_
  refine xt_getr _ dX12_fromStand_7 kfX12_44 (by first | exact sh152 | rfl | assumption) rfl ?_
  refine xt_iload_n _ dX12_fromStand_10 rfl ?_
  refine xt_ald dX12_fromStand_11 (by first | exact sh152 | rfl | assumption) (by exact vp_in_nI (by omega) (by decide)) ?_
  refine xt_aload_n _ dX12_fromStand_12 rfl ?_
  refine xt_geti dX12_fromStand_13 kfX12_257 (by first | exact sh152 | rfl | assumption) rfl ?_
  refine xt_aload_n _ dX12_fromStand_16 rfl ?_
  refine xt_geti dX12_fromStand_17 kfX12_260 (by first | exact sh152 | rfl | assumption) rfl ?_
  refine xt_cS _ dX12_fromStand_20 klX12_290 (tX12_way sc d μ w _ _ _ _) rfl rfl (Nat.le_of_ble_eq_true rfl) ?_
  exact xt_iret .int dX12_fromStand_23 rfl (by first | rfl | exact s_in_nar _ _ _ | assumption) ⟨by rw [nI_clamp (by omega), (hS.2.1 g (by omega)).1, (hS.2.1 g (by omega)).2, hS.1.2.2.2.2.2.1, hS.1.2.2.2.2.2.2.1, s_way_nI (by have := (hW.2.2.1 g hg).1; omega) (by have := (hW.2.2.1 g hg).2; omega) (by have := hW.1.1; omega) (by have := hW.1.2.1; omega)]; rfl, rfl, rfl⟩
set_option maxHeartbeats 1000000 in
theorem tX12_isSlanted (G : Nat → Nat) (h9 : G 2 ≤ 9) (e2 : μ 152 28 = nI (G 2)) (t : Nat) (ht : t < 1000) : x_D sc d mX12_isSlanted [.ref 152, .int (nI t)] μ w (some (.int (if s_slant G t then 1 else 0))) μ w := by
  refine x_D.of (by decide) (Nat.le_of_ble_eq_true rfl) ?_
  show x_T sc d mX12_isSlanted 0 [.ref 152, .int (nI t)] [] μ w _
  refine xt_aload_n _ dX12_isSlanted_0 rfl ?_
  refine xt_geti dX12_isSlanted_1 kfX12_263 (by first | exact sh152 | rfl | assumption) rfl ?_
  refine xt_if_eq 20 dX12_isSlanted_4 (by decide) (fun t4 => ?_) (fun f4 => ?_)
  · refine xt_iconst (0) dX12_isSlanted_20 (by decide) ?_
    exact xt_iret .boolean dX12_isSlanted_21 rfl (by first | rfl | exact s_in_nar _ _ _ | assumption) ⟨by rw [e2, show (0 : Int32) = nI 0 from rfl, nI_eq (by omega) (by decide)] at t4; simp [s_slant, t4], rfl, rfl⟩
  · refine xt_iload_n _ dX12_isSlanted_7 rfl ?_
    refine xt_aload_n _ dX12_isSlanted_8 rfl ?_
    refine xt_geti dX12_isSlanted_9 kfX12_263 (by first | exact sh152 | rfl | assumption) rfl ?_
    refine xt_irem dX12_isSlanted_12 (by assumption) ?_
    refine xt_if_ne 20 dX12_isSlanted_13 (by decide) (fun t13 => ?_) (fun f13 => ?_)
    · refine xt_iconst (0) dX12_isSlanted_20 (by decide) ?_
      exact xt_iret .boolean dX12_isSlanted_21 rfl (by first | rfl | exact s_in_nar _ _ _ | assumption) ⟨by rw [e2, show (0 : Int32) = nI 0 from rfl, nI_eq (by omega) (by decide)] at f4; rw [e2, pk_rem (by omega) (by omega) (by omega), show (0 : Int32) = nI 0 from rfl, nI_eq (by have := Nat.mod_lt t (show G 2 > 0 by omega); omega) (by decide)] at t13; simp [s_slant, f4, t13], rfl, rfl⟩
    · refine xt_iconst (1) dX12_isSlanted_16 (by decide) ?_
      refine xt_goto 21 dX12_isSlanted_17 (by decide) ?_
      exact xt_iret .boolean dX12_isSlanted_21 rfl (by first | rfl | exact s_in_nar _ _ _ | assumption) ⟨by rw [e2, show (0 : Int32) = nI 0 from rfl, nI_eq (by omega) (by decide)] at f4; rw [e2, pk_rem (by omega) (by omega) (by omega), show (0 : Int32) = nI 0 from rfl, nI_eq (by have := Nat.mod_lt t (show G 2 > 0 by omega); omega) (by decide)] at f13; simp [s_slant, f4, f13], rfl, rfl⟩
end MODEL
