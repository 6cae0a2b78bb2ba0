/-! texts: bytes and tokens -/
def s_byt (t : Nat) (v : Int32) : Prop := t < 256 ∧ (t < 128 → v = nI t) ∧ (128 ≤ t → v < 0)
theorem s_by_eq {t : Nat} {v : Int32} (h : s_byt t v) {c : Nat} (hc : c < 128) : v = nI c ↔ t = c := by
  by_cases ht : t < 128
  · rw [h.2.1 ht, nI_eq (by omega) (by omega)]
  · constructor
    · intro e
      have := h.2.2 (by omega)
      rw [e] at this
      exact absurd this (nI_pos (by omega))
    · intro e; omega
theorem s_by_lt {t : Nat} {v : Int32} (h : s_byt t v) {c : Nat} (hc : c < 128) : v < nI c ↔ t < c ∨ 128 ≤ t := by
  by_cases ht : t < 128
  · rw [h.2.1 ht, nI_ltI (by omega) (by omega)]; omega
  · have h1 := h.2.2 (by omega)
    exact ⟨fun _ => .inr (by omega), fun _ => Int32.lt_of_lt_of_le h1 (Int32.not_lt.mp (nI_pos (by omega)))⟩
theorem s_by_gt {t : Nat} {v : Int32} (h : s_byt t v) {c : Nat} (hc : c < 128) : nI c < v ↔ c < t ∧ t < 128 := by
  by_cases ht : t < 128
  · rw [h.2.1 ht, nI_ltI (by omega) (by omega)]; omega
  · have h1 := h.2.2 (by omega)
    constructor
    · intro e; exact absurd (Int32.lt_trans e h1) (nI_pos (by omega))
    · intro e; omega
abbrev s_isB (t : Nat) : Bool := decide (t = 10 ∨ t = 32)
abbrev s_isL (t : Nat) : Bool := decide (97 ≤ t ∧ t ≤ 122)
abbrev s_isD (t : Nat) : Bool := decide (48 ≤ t ∧ t ≤ 57)
def s_rnn (p : Nat → Bool) (T : Nat → Nat) : Nat → Nat → Nat
  | 0, a => a
  | n + 1, a => if p (T a) = true then s_rnn p T n (a + 1) else a
theorem s_rnn_ok (p : Nat → Bool) (T : Nat → Nat) : ∀ n a, a ≤ s_rnn p T n a ∧ s_rnn p T n a ≤ a + n ∧ (∀ m, a ≤ m → m < s_rnn p T n a → p (T m) = true) ∧ (s_rnn p T n a < a + n → p (T (s_rnn p T n a)) = false)
  | 0, a => ⟨Nat.le_refl _, Nat.le_refl _, fun m h1 h2 => absurd h2 (by show ¬ m < a; omega), fun h => absurd h (by show ¬ a < a + 0; omega)⟩
  | n + 1, a => by
    by_cases hp : p (T a) = true
    · obtain ⟨h1, h2, h3, h4⟩ := s_rnn_ok p T n (a + 1)
      rw [s_rnn, if_pos hp]
      refine ⟨by omega, by omega, fun m hm hl => ?_, fun h => h4 (by omega)⟩
      by_cases he : m = a
      · rw [he]; exact hp
      · exact h3 m (by omega) hl
    · rw [s_rnn, if_neg hp]
      exact ⟨Nat.le_refl _, by omega, fun m h1 h2 => absurd h2 (by omega), fun _ => by cases h : p (T a); rfl; exact absurd h hp⟩
abbrev s_to (p : Nat → Bool) (T : Nat → Nat) (L a : Nat) : Nat := s_rnn p T (L - a) a
theorem s_to_ok (p : Nat → Bool) {T : Nat → Nat} {L a : Nat} (h0 : p 0 = false) (hT : ∀ i, L ≤ i → T i = 0) (ha : a ≤ L) : a ≤ s_to p T L a ∧ s_to p T L a ≤ L ∧ (∀ m, a ≤ m → m < s_to p T L a → p (T m) = true) ∧ p (T (s_to p T L a)) = false := by
  obtain ⟨h1, h2, h3, h4⟩ := s_rnn_ok p T (L - a) a
  refine ⟨h1, by show s_rnn p T (L - a) a ≤ L; omega, h3, ?_⟩
  by_cases h : s_rnn p T (L - a) a < a + (L - a)
  · exact h4 h
  · rw [hT _ (by show L ≤ s_rnn p T (L - a) a; omega)]; exact h0
theorem s_to_1 (p : Nat → Bool) {T : Nat → Nat} {L a : Nat} (ha : a < L) (hp : p (T a) = true) : a + 1 ≤ s_to p T L a := by
  obtain ⟨n, hn⟩ : ∃ n, L - a = n + 1 := ⟨L - a - 1, by omega⟩
  have h1 := (s_rnn_ok p T n (a + 1)).1
  show a + 1 ≤ s_rnn p T (L - a) a
  rw [hn, s_rnn, if_pos hp]; exact h1
/-- a token that starts at q (no blank): its kind (0 over, 1 word, 2 number, 3 mark, 4 bad), its end, its value -/
def s_kq (T : Nat → Nat) (L q : Nat) : Nat := if L ≤ q then 0 else if T q = 59 then 3 else if s_isL (T q) = true then 1 else if s_isD (T q) = true then (if s_to s_isD T L q - q ≤ 2 then 2 else 4) else 4
def s_eq (T : Nat → Nat) (L q : Nat) : Nat := if L ≤ q then q else if T q = 59 then q + 1 else if s_isL (T q) = true then s_to s_isL T L q else s_to s_isD T L q
def s_vd (T : Nat → Nat) (q : Nat) : Nat → Nat
  | 0 => 0
  | n + 1 => 10 * s_vd T q n + (T (q + n) - 48)
def s_vq (T : Nat → Nat) (L q : Nat) : Nat := s_vd T q (s_to s_isD T L q - q)
abbrev s_sp (T : Nat → Nat) (L p : Nat) : Nat := s_to s_isB T L p
abbrev s_kd (T : Nat → Nat) (L p : Nat) : Nat := s_kq T L (s_sp T L p)
abbrev s_te (T : Nat → Nat) (L p : Nat) : Nat := s_eq T L (s_sp T L p)
abbrev s_va (T : Nat → Nat) (L p : Nat) : Nat := s_vq T L (s_sp T L p)
theorem s_k0 {T : Nat → Nat} {L q : Nat} (h : L ≤ q) : s_kq T L q = 0 ∧ s_eq T L q = q := by
  unfold s_kq s_eq; rw [if_pos h, if_pos h]; exact ⟨rfl, rfl⟩
theorem s_k3 {T : Nat → Nat} {L q : Nat} (h : ¬ L ≤ q) (h2 : T q = 59) : s_kq T L q = 3 ∧ s_eq T L q = q + 1 := by
  unfold s_kq s_eq; rw [if_neg h, if_neg h, if_pos h2, if_pos h2]; exact ⟨rfl, rfl⟩
theorem s_k1 {T : Nat → Nat} {L q : Nat} (h : ¬ L ≤ q) (h2 : s_isL (T q) = true) : s_kq T L q = 1 ∧ s_eq T L q = s_to s_isL T L q := by
  have h3 := of_decide_eq_true h2
  unfold s_kq s_eq; rw [if_neg h, if_neg h, if_neg (show ¬ T q = 59 by omega), if_neg (show ¬ T q = 59 by omega), if_pos h2, if_pos h2]; exact ⟨rfl, rfl⟩
theorem s_k2 {T : Nat → Nat} {L q : Nat} (h : ¬ L ≤ q) (h2 : s_isD (T q) = true) : s_kq T L q = (if s_to s_isD T L q - q ≤ 2 then 2 else 4) ∧ s_eq T L q = s_to s_isD T L q := by
  have h3 := of_decide_eq_true h2
  have h4 : ¬ s_isL (T q) = true := fun z => by have := of_decide_eq_true z; omega
  unfold s_kq s_eq; rw [if_neg h, if_neg h, if_neg (show ¬ T q = 59 by omega), if_neg (show ¬ T q = 59 by omega), if_neg h4, if_neg h4, if_pos h2]; exact ⟨rfl, rfl⟩
theorem s_k4 {T : Nat → Nat} {L q : Nat} (h : ¬ L ≤ q) (h1 : ¬ T q = 59) (h2 : s_isL (T q) = false) (h3 : s_isD (T q) = false) : s_kq T L q = 4 := by
  unfold s_kq; rw [if_neg h, if_neg h1, if_neg (by rw [h2]; decide), if_neg (by rw [h3]; decide)]
theorem s_eq_le {T : Nat → Nat} {L q : Nat} (hT : ∀ i, L ≤ i → T i = 0) (hq : q ≤ L) : q ≤ s_eq T L q ∧ s_eq T L q ≤ L := by
  unfold s_eq
  by_cases h : L ≤ q
  · rw [if_pos h]; omega
  · rw [if_neg h]
    by_cases h2 : T q = 59
    · rw [if_pos h2]; omega
    · rw [if_neg h2]
      by_cases h3 : s_isL (T q) = true
      · rw [if_pos h3]; have := s_to_ok s_isL (a := q) (by decide) hT hq; exact ⟨this.1, this.2.1⟩
      · rw [if_neg h3]; have := s_to_ok s_isD (a := q) (by decide) hT hq; exact ⟨this.1, this.2.1⟩
/-- a token that isn't the end and isn't bad takes a byte at least -/
theorem s_eq_gt {T : Nat → Nat} {L q : Nat} (hk : s_kq T L q ≠ 0) (hk4 : s_kq T L q ≠ 4) : q + 1 ≤ s_eq T L q := by
  by_cases h : L ≤ q
  · exact absurd (s_k0 h).1 hk
  · by_cases h2 : T q = 59
    · rw [(s_k3 h h2).2]; exact Nat.le_refl _
    · cases h3 : s_isL (T q)
      · cases h4 : s_isD (T q)
        · exact absurd (s_k4 h h2 h3 h4) hk4
        · rw [(s_k2 h h4).2]; exact s_to_1 _ (by omega) h4
      · rw [(s_k1 h h3).2]; exact s_to_1 _ (by omega) h3
theorem s_vd_le {T : Nat → Nat} {q : Nat} : ∀ n, n ≤ 2 → (∀ j, j < n → T (q + j) ≤ 57) → s_vd T q n ≤ 99
  | 0, _, _ => Nat.zero_le _
  | 1, _, h => by have := h 0 (by decide); show 10 * 0 + (T (q + 0) - 48) ≤ 99; omega
  | 2, _, h => by
    have h0 := h 0 (by decide)
    have h1 := h 1 (by decide)
    show 10 * (10 * 0 + (T (q + 0) - 48)) + (T (q + 1) - 48) ≤ 99; omega
  | n + 3, h, _ => absurd h (by omega)
theorem s_va_le {T : Nat → Nat} {L q : Nat} (hT : ∀ i, L ≤ i → T i = 0) (hk : s_kq T L q = 2) : s_vq T L q ≤ 99 := by
  by_cases h : L ≤ q
  · rw [(s_k0 h).1] at hk; exact absurd hk (by decide)
  · by_cases h2 : T q = 59
    · rw [(s_k3 h h2).1] at hk; exact absurd hk (by decide)
    · cases h3 : s_isL (T q)
      · cases h4 : s_isD (T q)
        · rw [s_k4 h h2 h3 h4] at hk; exact absurd hk (by decide)
        · rw [(s_k2 h h4).1] at hk
          by_cases h5 : s_to s_isD T L q - q ≤ 2
          · obtain ⟨a1, a2, a3, _⟩ := s_to_ok s_isD (a := q) (by decide) hT (by omega)
            exact s_vd_le _ h5 (fun j hj => (of_decide_eq_true (a3 (q + j) (by omega) (by omega))).2)
          · rw [if_neg h5] at hk; exact absurd hk (by decide)
      · rw [(s_k1 h h3).1] at hk; exact absurd hk (by decide)
/-- the reader's bytes -/
def c_B (μ : x_Me) (T : Nat → Nat) (L : Nat) : Prop := μ 115 6 = nI L ∧ L ≤ 600 ∧ (∀ i, i < L → s_byt (T i) (μ 127 i)) ∧ ∀ i, L ≤ i → T i = 0
def s_PS (μ μ' : x_Me) (T : Nat → Nat) (L q : Nat) : Prop := μ' 115 9 = nI q ∧ μ' 115 10 = nI (s_kq T L q) ∧ (s_kq T L q ≠ 4 → μ' 115 8 = nI (s_eq T L q)) ∧ (s_kq T L q = 2 → μ' 115 11 = nI (s_vq T L q)) ∧ (∀ j, j < 8 ∨ 12 ≤ j → μ' 115 j = μ 115 j) ∧ ∀ a, a ≠ 115 → μ' a = μ a
theorem sh115 : x_shape[115]? = some (.inl (5, [some (some (.ref 116)), some (some (.ref 122)), some (some (.ref 124)), none, none, some (some (.ref 127)), none, some (some (.ref 128)), none, none, none, none, none])) := rfl
theorem c_B.at {μ : x_Me} {T : Nat → Nat} {L : Nat} (h : c_B μ T L) (p : Nat) : s_byt (T p) (if p < L then μ 127 p else 0) := by
  by_cases hp : p < L
  · rw [if_pos hp]; exact h.2.2.1 p hp
  · rw [if_neg hp, h.2.2.2 p (by omega)]; exact ⟨by decide, fun _ => rfl, fun h => absurd h (by decide)⟩
theorem c_B.cg {μ μ' : x_Me} {T : Nat → Nat} {L : Nat} (h : c_B μ T L) (h1 : μ' 115 6 = μ 115 6) (h2 : μ' 127 = μ 127) : c_B μ' T L := by
  unfold c_B; rw [h1, h2]; exact h
section TOKEN
variable (sc : Nat × (Nat → Int32)) (d : Nat) (μ : x_Me) (w : Int64)
set_option maxHeartbeats 1000000 in
theorem tX6_byteAt (T : Nat → Nat) (L : Nat) (hB : c_B μ T L) (p : Nat) (hp : p ≤ 700) : x_K sc d mX6_byteAt [.ref 115, .int (nI p)] μ w (x_p (some (.int (if p < L then μ 127 p else 0))) μ w) := by
  have hL := hB.2.1
  refine x_K.of (by decide) (Nat.le_of_ble_eq_true rfl) ?_
  show x_T sc d mX6_byteAt 0 [.ref 115, .int (nI p)] [] μ w _
  refine xt_iload_n _ dX6_byteAt_0 rfl ?_
  refine xt_if_lt 28 dX6_byteAt_1 (by decide) (fun q => absurd q (nI_pos (by omega))) (fun _ => ?_)
  refine xt_iload_n _ dX6_byteAt_4 rfl ?_
  refine xt_aload_n _ dX6_byteAt_5 rfl ?_
  refine xt_geti dX6_byteAt_6 kfX6_53 (by first | exact sh115 | rfl | assumption) rfl ?_
  rw [hB.1]
  refine xt_icmp_ge 28 dX6_byteAt_9 (by decide) (fun t9 => ?_) (fun f9 => ?_)
  · have n9 : L ≤ p := (nI_leI (a := L) (b := p) (by omega) (by omega)).mp t9
    refine xt_iconst (0) dX6_byteAt_28 (by decide) ?_
    exact xt_iret .int dX6_byteAt_29 rfl (by first | rfl | assumption) ⟨by rw [if_neg (by omega)], rfl, rfl⟩
  · have n9 : ¬ (L ≤ p) := fun z => f9 ((nI_leI (a := L) (b := p) (by omega) (by omega)).mpr z)
    refine xt_iload_n _ dX6_byteAt_12 rfl ?_
    refine xt_sipush (600) dX6_byteAt_13 (by decide) ?_
    refine xt_icmp_ge 28 dX6_byteAt_16 (by decide) (fun t16 => ?_) (fun f16 => ?_)
    · have n16 : 600 ≤ p := (nI_leI (a := 600) (b := p) (by omega) (by omega)).mp t16
      refine xt_iconst (0) dX6_byteAt_28 (by decide) ?_
      exact xt_iret .int dX6_byteAt_29 rfl (by first | rfl | assumption) ⟨by rw [if_neg (by omega)], rfl, rfl⟩
    · have n16 : ¬ (600 ≤ p) := fun z => f16 ((nI_leI (a := 600) (b := p) (by omega) (by omega)).mpr z)
      refine xt_aload_n _ dX6_byteAt_19 rfl ?_
      refine xt_getr _ dX6_byteAt_20 kfX6_32 (by first | exact sh115 | rfl | assumption) rfl ?_
      refine xt_iload_n _ dX6_byteAt_23 rfl ?_
      refine xt_bald dX6_byteAt_24 (by first | exact sh115 | rfl | assumption) (by exact vp_in_nI (by omega) (by decide)) ?_
      refine xt_goto 29 dX6_byteAt_25 (by decide) ?_
      exact xt_iret .int dX6_byteAt_29 rfl (by first | rfl | assumption) ⟨by rw [if_pos (by omega), nI_clamp (by omega)], rfl, rfl⟩
set_option maxHeartbeats 1000000 in
theorem tX6_isLetter (t : Nat) (v : Int32) (h : s_byt t v) : x_K sc d mX6_isLetter [.int v] μ w (x_p (some (.int (if s_isL t then 1 else 0))) μ w) := by
  refine x_K.of (by decide) (Nat.le_of_ble_eq_true rfl) ?_
  show x_T sc d mX6_isLetter 0 [.int v] [] μ w _
  refine xt_iload_n _ dX6_isLetter_0 rfl ?_
  refine xt_bipush (97) dX6_isLetter_1 (by decide) ?_
  refine xt_icmp_lt 16 dX6_isLetter_3 (by decide) (fun t3 => ?_) (fun f3 => ?_)
  · refine xt_iconst (0) dX6_isLetter_16 (by decide) ?_
    exact xt_iret .boolean dX6_isLetter_17 rfl (by first | rfl | assumption) ⟨by rw [show s_isL t = false from decide_eq_false (by have := (s_by_lt h (c := 97) (by decide)).mp t3; omega)]; rfl, rfl, rfl⟩
  · refine xt_iload_n _ dX6_isLetter_6 rfl ?_
    refine xt_bipush (122) dX6_isLetter_7 (by decide) ?_
    refine xt_icmp_gt 16 dX6_isLetter_9 (by decide) (fun t9 => ?_) (fun f9 => ?_)
    · refine xt_iconst (0) dX6_isLetter_16 (by decide) ?_
      exact xt_iret .boolean dX6_isLetter_17 rfl (by first | rfl | assumption) ⟨by rw [show s_isL t = false from decide_eq_false (by have := (s_by_gt h (c := 122) (by decide)).mp t9; omega)]; rfl, rfl, rfl⟩
    · refine xt_iconst (1) dX6_isLetter_12 (by decide) ?_
      refine xt_goto 17 dX6_isLetter_13 (by decide) ?_
      exact xt_iret .boolean dX6_isLetter_17 rfl (by first | rfl | assumption) ⟨by rw [show s_isL t = true from decide_eq_true (by have h1 : ¬ (t < 97 ∨ 128 ≤ t) := fun z => f3 ((s_by_lt h (c := 97) (by decide)).mpr z); have h2 : ¬ (122 < t ∧ t < 128) := fun z => f9 ((s_by_gt h (c := 122) (by decide)).mpr z); have h3 := h.1; omega)]; rfl, rfl, rfl⟩
set_option maxHeartbeats 1000000 in
theorem tX6_isDigit (t : Nat) (v : Int32) (h : s_byt t v) : x_K sc d mX6_isDigit [.int v] μ w (x_p (some (.int (if s_isD t then 1 else 0))) μ w) := by
  refine x_K.of (by decide) (Nat.le_of_ble_eq_true rfl) ?_
  show x_T sc d mX6_isDigit 0 [.int v] [] μ w _
  refine xt_iload_n _ dX6_isDigit_0 rfl ?_
  refine xt_bipush (48) dX6_isDigit_1 (by decide) ?_
  refine xt_icmp_lt 16 dX6_isDigit_3 (by decide) (fun t3 => ?_) (fun f3 => ?_)
  · refine xt_iconst (0) dX6_isDigit_16 (by decide) ?_
    exact xt_iret .boolean dX6_isDigit_17 rfl (by first | rfl | assumption) ⟨by rw [show s_isD t = false from decide_eq_false (by have := (s_by_lt h (c := 48) (by decide)).mp t3; omega)]; rfl, rfl, rfl⟩
  · refine xt_iload_n _ dX6_isDigit_6 rfl ?_
    refine xt_bipush (57) dX6_isDigit_7 (by decide) ?_
    refine xt_icmp_gt 16 dX6_isDigit_9 (by decide) (fun t9 => ?_) (fun f9 => ?_)
    · refine xt_iconst (0) dX6_isDigit_16 (by decide) ?_
      exact xt_iret .boolean dX6_isDigit_17 rfl (by first | rfl | assumption) ⟨by rw [show s_isD t = false from decide_eq_false (by have := (s_by_gt h (c := 57) (by decide)).mp t9; omega)]; rfl, rfl, rfl⟩
    · refine xt_iconst (1) dX6_isDigit_12 (by decide) ?_
      refine xt_goto 17 dX6_isDigit_13 (by decide) ?_
      exact xt_iret .boolean dX6_isDigit_17 rfl (by first | rfl | assumption) ⟨by rw [show s_isD t = true from decide_eq_true (by have h1 : ¬ (t < 48 ∨ 128 ≤ t) := fun z => f3 ((s_by_lt h (c := 48) (by decide)).mpr z); have h2 : ¬ (57 < t ∧ t < 128) := fun z => f9 ((s_by_gt h (c := 57) (by decide)).mpr z); have h3 := h.1; omega)]; rfl, rfl, rfl⟩
set_option maxHeartbeats 1000000 in
theorem tX6_isBlank (t : Nat) (v : Int32) (h : s_byt t v) : x_K sc d mX6_isBlank [.int v] μ w (x_p (some (.int (if s_isB t then 1 else 0))) μ w) := by
  refine x_K.of (by decide) (Nat.le_of_ble_eq_true rfl) ?_
  show x_T sc d mX6_isBlank 0 [.int v] [] μ w _
  refine xt_iload_n _ dX6_isBlank_0 rfl ?_
  refine xt_bipush (10) dX6_isBlank_1 (by decide) ?_
  refine xt_icmp_eq 12 dX6_isBlank_3 (by decide) (fun t3 => ?_) (fun f3 => ?_)
  · refine xt_iconst (1) dX6_isBlank_12 (by decide) ?_
    refine xt_goto 17 dX6_isBlank_13 (by decide) ?_
    exact xt_iret .boolean dX6_isBlank_17 rfl (by first | rfl | assumption) ⟨by rw [show s_isB t = true from decide_eq_true (.inl ((s_by_eq h (c := 10) (by decide)).mp t3))]; rfl, rfl, rfl⟩
  · refine xt_iload_n _ dX6_isBlank_6 rfl ?_
    refine xt_bipush (32) dX6_isBlank_7 (by decide) ?_
    refine xt_icmp_ne 16 dX6_isBlank_9 (by decide) (fun t9 => ?_) (fun f9 => ?_)
    · refine xt_iconst (0) dX6_isBlank_16 (by decide) ?_
      exact xt_iret .boolean dX6_isBlank_17 rfl (by first | rfl | assumption) ⟨by rw [show s_isB t = false from decide_eq_false (fun z => by rcases z with z | z; exact f3 ((s_by_eq h (c := 10) (by decide)).mpr z); exact t9 ((s_by_eq h (c := 32) (by decide)).mpr z))]; rfl, rfl, rfl⟩
    · refine xt_iconst (1) dX6_isBlank_12 (by decide) ?_
      refine xt_goto 17 dX6_isBlank_13 (by decide) ?_
      exact xt_iret .boolean dX6_isBlank_17 rfl (by first | rfl | assumption) ⟨by rw [show s_isB t = true from decide_eq_true (.inr ((s_by_eq h (c := 32) (by decide)).mp f9))]; rfl, rfl, rfl⟩
set_option maxHeartbeats 2000000 in
theorem tX6_stepOverDigits (T : Nat → Nat) (L : Nat) (hB : c_B μ T L) (q : Nat) (hq : q ≤ L) (h8 : μ 115 8 = nI q) (h9 : μ 115 9 = nI q) : x_K sc (d + 1) mX6_stepOverDigits [.ref 115] μ w (fun r μ' _ => r = none ∧ μ' 115 10 = nI (if s_to s_isD T L q - q ≤ 2 then 2 else 4) ∧ μ' 115 8 = nI (s_to s_isD T L q) ∧ (s_to s_isD T L q - q ≤ 2 → μ' 115 11 = nI (s_vq T L q)) ∧ (∀ j, j < 8 ∨ j = 9 ∨ 12 ≤ j → μ' 115 j = μ 115 j) ∧ ∀ a, a ≠ 115 → μ' a = μ a) := by
  have hL := hB.2.1
  obtain ⟨N, hN⟩ : ∃ N, s_to s_isD T L q = N := ⟨_, rfl⟩
  obtain ⟨b1, b2, b3, b4⟩ := s_to_ok s_isD (a := q) (by decide) hB.2.2.2 hq
  have hvq : s_vq T L q = s_vd T q (N - q) := by rw [s_vq, hN]
  rw [hN] at b1 b2 b3 b4
  rw [hN, hvq]
  refine x_K.of (by decide) (Nat.le_of_ble_eq_true rfl) ?_
  show x_T sc (d + 1) mX6_stepOverDigits 0 [.ref 115] [] μ w _
  refine xt_aload_n _ dX6_stepOverDigits_0 rfl ?_
  refine xt_iconst (0) dX6_stepOverDigits_1 (by decide) ?_
  refine xt_puti dX6_stepOverDigits_2 kpX6_111 (by first | exact sh115 | rfl | assumption) rfl (by first | rfl | assumption) (by first | rfl | assumption) ?_
  have L5 : ∀ (n5 m : Nat) (μ2 : x_Me) (h8 : μ2 115 8 = nI m) (h11 : m - q ≤ 2 → μ2 115 11 = nI (s_vd T q (m - q))) (hj : ∀ j, j < 8 ∨ j = 9 ∨ j = 10 ∨ 12 ≤ j → μ2 115 j = μ 115 j) (hf : ∀ a, a ≠ 115 → μ2 a = μ a) (hqm : q ≤ m), m + n5 = N → x_T sc (d + 1) mX6_stepOverDigits 5 [.ref 115] [] μ2 w (fun r μ' _ => r = none ∧ μ' 115 10 = nI (if N - q ≤ 2 then 2 else 4) ∧ μ' 115 8 = nI N ∧ (N - q ≤ 2 → μ' 115 11 = nI (s_vd T q (N - q))) ∧ (∀ j, j < 8 ∨ j = 9 ∨ 12 ≤ j → μ' 115 j = μ 115 j) ∧ ∀ a, a ≠ 115 → μ' a = μ a) := by
    intro n5
    induction n5 with
    | zero =>
      intro m μ2 h8 h11 hj hf hqm hmn
      obtain rfl : m = N := by omega
      have hB2 : c_B μ2 T L := hB.cg (hj 6 (by omega)) (hf 127 (by decide))
      refine xt_aload_n _ dX6_stepOverDigits_5 rfl ?_
      refine xt_geti dX6_stepOverDigits_6 kfX6_67 (by first | exact sh115 | rfl | assumption) rfl ?_
      refine xt_aload_n _ dX6_stepOverDigits_9 rfl ?_
      refine xt_geti dX6_stepOverDigits_10 kfX6_53 (by first | exact sh115 | rfl | assumption) rfl ?_
      rw [h8, hj 6 (by omega), hB.1]
      refine xt_icmp_ge 66 dX6_stepOverDigits_13 (by decide) (fun t13 => ?_) (fun f13 => ?_)
      · have n13 : L ≤ m := (nI_leI (a := L) (b := m) (by omega) (by omega)).mp t13
        refine xt_aload_n _ dX6_stepOverDigits_66 rfl ?_
        refine xt_aload_n _ dX6_stepOverDigits_67 rfl ?_
        refine xt_geti dX6_stepOverDigits_68 kfX6_67 (by first | exact sh115 | rfl | assumption) rfl ?_
        refine xt_aload_n _ dX6_stepOverDigits_71 rfl ?_
        refine xt_geti dX6_stepOverDigits_72 kfX6_77 (by first | exact sh115 | rfl | assumption) rfl ?_
        refine xt_isub dX6_stepOverDigits_75 ?_
        rw [h8, hj 9 (by omega), h9, pk_sub b1]
        refine xt_iconst (2) dX6_stepOverDigits_76 (by decide) ?_
        refine xt_icmp_gt 84 dX6_stepOverDigits_77 (by decide) (fun t77 => ?_) (fun f77 => ?_)
        · have n77 : 2 < m - q := (nI_ltI (a := 2) (b := m - q) (by omega) (by omega)).mp t77
          refine xt_iconst (4) dX6_stepOverDigits_84 (by decide) ?_
          refine xt_puti dX6_stepOverDigits_85 kpX6_90 (by first | exact sh115 | rfl | assumption) rfl (by first | rfl | assumption) (by first | rfl | assumption) ?_
          exact xt_ret dX6_stepOverDigits_88 rfl ⟨rfl, by rw [x_u_eq, pk_us, if_neg (by omega)]; rfl, by rw [x_u_eq, pk_un (by decide)]; exact h8, fun h => absurd h (by omega), fun j h => by rw [x_u_eq, pk_un (by omega)]; exact hj j (by omega), fun a h => by rw [x_u_ne h]; exact hf a h⟩
        · have n77 : ¬ (2 < m - q) := fun z => f77 ((nI_ltI (a := 2) (b := m - q) (by omega) (by omega)).mpr z)
          refine xt_iconst (2) dX6_stepOverDigits_80 (by decide) ?_
          refine xt_goto 85 dX6_stepOverDigits_81 (by decide) ?_
          refine xt_puti dX6_stepOverDigits_85 kpX6_90 (by first | exact sh115 | rfl | assumption) rfl (by first | rfl | assumption) (by first | rfl | assumption) ?_
          exact xt_ret dX6_stepOverDigits_88 rfl ⟨rfl, by rw [x_u_eq, pk_us, if_pos (by omega)]; rfl, by rw [x_u_eq, pk_un (by decide)]; exact h8, fun h => by rw [x_u_eq, pk_un (by decide)]; exact h11 h, fun j h => by rw [x_u_eq, pk_un (by omega)]; exact hj j (by omega), fun a h => by rw [x_u_ne h]; exact hf a h⟩
      · have n13 : ¬ (L ≤ m) := fun z => f13 ((nI_leI (a := L) (b := m) (by omega) (by omega)).mpr z)
        refine xt_aload_n _ dX6_stepOverDigits_16 rfl ?_
        refine xt_aload_n _ dX6_stepOverDigits_17 rfl ?_
        refine xt_geti dX6_stepOverDigits_18 kfX6_67 (by first | exact sh115 | rfl | assumption) rfl ?_
        rw [h8]
        refine xt_cV _ dX6_stepOverDigits_21 klX6_181 (tX6_byteAt sc _ μ2 _ T L hB2 m (by omega)) sh115 rfl rfl (Nat.le_of_ble_eq_true rfl) ?_
        refine xt_cS _ dX6_stepOverDigits_24 klX6_190 (tX6_isDigit sc _ _ _ _ _ (hB2.at m)) rfl rfl (Nat.le_of_ble_eq_true rfl) ?_
        refine xt_if_eq 66 dX6_stepOverDigits_27 (by decide) (fun _ => ?_) (fun q => absurd (by rw [b4]; rfl) q)
        refine xt_aload_n _ dX6_stepOverDigits_66 rfl ?_
        refine xt_aload_n _ dX6_stepOverDigits_67 rfl ?_
        refine xt_geti dX6_stepOverDigits_68 kfX6_67 (by first | exact sh115 | rfl | assumption) rfl ?_
        refine xt_aload_n _ dX6_stepOverDigits_71 rfl ?_
        refine xt_geti dX6_stepOverDigits_72 kfX6_77 (by first | exact sh115 | rfl | assumption) rfl ?_
        refine xt_isub dX6_stepOverDigits_75 ?_
        rw [h8, hj 9 (by omega), h9, pk_sub b1]
        refine xt_iconst (2) dX6_stepOverDigits_76 (by decide) ?_
        refine xt_icmp_gt 84 dX6_stepOverDigits_77 (by decide) (fun t77 => ?_) (fun f77 => ?_)
        · have n77 : 2 < m - q := (nI_ltI (a := 2) (b := m - q) (by omega) (by omega)).mp t77
          refine xt_iconst (4) dX6_stepOverDigits_84 (by decide) ?_
          refine xt_puti dX6_stepOverDigits_85 kpX6_90 (by first | exact sh115 | rfl | assumption) rfl (by first | rfl | assumption) (by first | rfl | assumption) ?_
          exact xt_ret dX6_stepOverDigits_88 rfl ⟨rfl, by rw [x_u_eq, pk_us, if_neg (by omega)]; rfl, by rw [x_u_eq, pk_un (by decide)]; exact h8, fun h => absurd h (by omega), fun j h => by rw [x_u_eq, pk_un (by omega)]; exact hj j (by omega), fun a h => by rw [x_u_ne h]; exact hf a h⟩
        · have n77 : ¬ (2 < m - q) := fun z => f77 ((nI_ltI (a := 2) (b := m - q) (by omega) (by omega)).mpr z)
          refine xt_iconst (2) dX6_stepOverDigits_80 (by decide) ?_
          refine xt_goto 85 dX6_stepOverDigits_81 (by decide) ?_
          refine xt_puti dX6_stepOverDigits_85 kpX6_90 (by first | exact sh115 | rfl | assumption) rfl (by first | rfl | assumption) (by first | rfl | assumption) ?_
          exact xt_ret dX6_stepOverDigits_88 rfl ⟨rfl, by rw [x_u_eq, pk_us, if_pos (by omega)]; rfl, by rw [x_u_eq, pk_un (by decide)]; exact h8, fun h => by rw [x_u_eq, pk_un (by decide)]; exact h11 h, fun j h => by rw [x_u_eq, pk_un (by omega)]; exact hj j (by omega), fun a h => by rw [x_u_ne h]; exact hf a h⟩
    | succ n5 ih5 =>
      intro m μ2 h8 h11 hj hf hqm hmn
      have hlt : m < N := by omega
      have hB2 : c_B μ2 T L := hB.cg (hj 6 (by omega)) (hf 127 (by decide))
      have hdm := b3 m hqm hlt
      refine xt_aload_n _ dX6_stepOverDigits_5 rfl ?_
      refine xt_geti dX6_stepOverDigits_6 kfX6_67 (by first | exact sh115 | rfl | assumption) rfl ?_
      refine xt_aload_n _ dX6_stepOverDigits_9 rfl ?_
      refine xt_geti dX6_stepOverDigits_10 kfX6_53 (by first | exact sh115 | rfl | assumption) rfl ?_
      rw [h8, hj 6 (by omega), hB.1]
      refine xt_icmp_ge 66 dX6_stepOverDigits_13 (by decide) (fun q => absurd q (nI_ge (show m < L by omega) (by omega))) (fun _ => ?_)
      refine xt_aload_n _ dX6_stepOverDigits_16 rfl ?_
      refine xt_aload_n _ dX6_stepOverDigits_17 rfl ?_
      refine xt_geti dX6_stepOverDigits_18 kfX6_67 (by first | exact sh115 | rfl | assumption) rfl ?_
      rw [h8]
      refine xt_cV _ dX6_stepOverDigits_21 klX6_181 (tX6_byteAt sc _ μ2 _ T L hB2 m (by omega)) sh115 rfl rfl (Nat.le_of_ble_eq_true rfl) ?_
      refine xt_cS _ dX6_stepOverDigits_24 klX6_190 (tX6_isDigit sc _ _ _ _ _ (hB2.at m)) rfl rfl (Nat.le_of_ble_eq_true rfl) ?_
      refine xt_if_eq 66 dX6_stepOverDigits_27 (by decide) (fun q => absurd q (by rw [hdm]; decide)) (fun _ => ?_)
      refine xt_aload_n _ dX6_stepOverDigits_30 rfl ?_
      refine xt_bipush (10) dX6_stepOverDigits_31 (by decide) ?_
      refine xt_aload_n _ dX6_stepOverDigits_33 rfl ?_
      refine xt_geti dX6_stepOverDigits_34 kfX6_111 (by first | exact sh115 | rfl | assumption) rfl ?_
      refine xt_imul dX6_stepOverDigits_37 ?_
      refine xt_aload_n _ dX6_stepOverDigits_38 rfl ?_
      refine xt_aload_n _ dX6_stepOverDigits_39 rfl ?_
      refine xt_geti dX6_stepOverDigits_40 kfX6_67 (by first | exact sh115 | rfl | assumption) rfl ?_
      rw [h8]
      refine xt_cV _ dX6_stepOverDigits_43 klX6_181 (tX6_byteAt sc _ μ2 _ T L hB2 m (by omega)) sh115 rfl rfl (Nat.le_of_ble_eq_true rfl) ?_
      have hvv : (if m < L then μ2 127 m else 0) = nI (T m) := (hB2.at m).2.1 (by have := of_decide_eq_true hdm; omega)
      rw [hvv]
      refine xt_iadd dX6_stepOverDigits_46 ?_
      refine xt_bipush (48) dX6_stepOverDigits_47 (by decide) ?_
      refine xt_isub dX6_stepOverDigits_49 ?_
      refine xt_puti dX6_stepOverDigits_50 kpX6_111 (by first | exact sh115 | rfl | assumption) rfl (by first | rfl | assumption) (by first | rfl | assumption) ?_
      refine xt_aload_n _ dX6_stepOverDigits_53 rfl ?_
      refine xt_dup dX6_stepOverDigits_54 rfl ?_
      refine xt_geti dX6_stepOverDigits_55 kfX6_67 (by first | exact sh115 | rfl | assumption) rfl ?_
      refine xt_iconst (1) dX6_stepOverDigits_58 (by decide) ?_
      refine xt_iadd dX6_stepOverDigits_59 ?_
      refine xt_puti dX6_stepOverDigits_60 kpX6_67 (by first | exact sh115 | rfl | assumption) rfl (by first | rfl | assumption) (by first | rfl | assumption) ?_
      refine xt_goto 5 dX6_stepOverDigits_63 (by decide) ?_
      have hdg := of_decide_eq_true hdm
      refine ih5 (m + 1) _ ?_ (fun h2 => ?_) (fun j h => ?_) (fun a h => ?_) (by omega) (by omega)
      · rw [x_u_eq, pk_us, x_u_eq, pk_un (by decide), h8, nI_succ m]
      · rw [x_u_eq, pk_un (by decide), x_u_eq, pk_us, h11 (by omega), show m + 1 - q = (m - q) + 1 by omega, s_vd, show q + (m - q) = m by omega]
        rw [show (10 : Int32) = nI 10 from rfl, pk_mul, nI_add, show (48 : Int32) = nI 48 from rfl, pk_sub (by omega)]
        congr 1
        omega
      · rw [x_u_eq, pk_un (by omega), x_u_eq, pk_un (by omega)]; exact hj j h
      · rw [x_u_ne h, x_u_ne h]; exact hf a h
  exact L5 (N - q) q _ (by rw [x_u_eq, pk_un (by decide)]; exact h8) (fun _ => by rw [x_u_eq, pk_us, Nat.sub_self]; rfl) (fun j h => by rw [x_u_eq, pk_un (by omega)]) (fun a h => x_u_ne h) (Nat.le_refl _) (by omega)
set_option maxHeartbeats 4000000 in
theorem tX6_step38 (T : Nat → Nat) (L : Nat) (hB : c_B μ T L) (q : Nat) (hq : q ≤ L) (h8 : μ 115 8 = nI q) : x_T sc (d + 2) mX6_step 38 [.ref 115, .retAddr 0] [] μ w (fun r μ' _ => r = none ∧ s_PS μ μ' T L q) := by
  have hL := hB.2.1
  have hB1 : c_B (x_u μ 115 (upd (μ 115) 9 (nI q))) T L := hB.cg rfl rfl
  obtain ⟨N, hN⟩ : ∃ N, s_to s_isL T L q = N := ⟨_, rfl⟩
  obtain ⟨b1, b2, b3, b4⟩ := s_to_ok s_isL (a := q) (by decide) hB.2.2.2 hq
  rw [hN] at b1 b2 b3 b4
  refine xt_aload_n _ dX6_step_38 rfl ?_
  refine xt_aload_n _ dX6_step_39 rfl ?_
  refine xt_geti dX6_step_40 kfX6_67 (by first | exact sh115 | rfl | assumption) rfl ?_
  rw [h8]
  refine xt_puti dX6_step_43 kpX6_77 (by first | exact sh115 | rfl | assumption) rfl (by first | rfl | assumption) (by first | rfl | assumption) ?_
  refine xt_aload_n _ dX6_step_46 rfl ?_
  refine xt_aload_n _ dX6_step_47 rfl ?_
  refine xt_geti dX6_step_48 kfX6_67 (by first | exact sh115 | rfl | assumption) rfl ?_
  rw [x_u_eq, pk_un (show (8 : Nat) ≠ 9 by decide), h8]
  refine xt_cV _ dX6_step_51 klX6_181 (tX6_byteAt sc _ (x_u μ 115 (upd (μ 115) 9 (nI q))) _ T L hB1 q (by omega)) sh115 rfl rfl (Nat.le_of_ble_eq_true rfl) ?_
  refine xt_istore_n dX6_step_54 (by decide) rfl ?_
  change x_T _ _ _ _ [_, _] _ _ _ _
  refine xt_aload_n _ dX6_step_55 rfl ?_
  refine xt_geti dX6_step_56 kfX6_67 (by first | exact sh115 | rfl | assumption) rfl ?_
  refine xt_aload_n _ dX6_step_59 rfl ?_
  refine xt_geti dX6_step_60 kfX6_53 (by first | exact sh115 | rfl | assumption) rfl ?_
  rw [show (x_u μ 115 (upd (μ 115) 9 (nI q))) 115 8 = nI q from (by rw [x_u_eq, pk_un (by decide)]; exact h8), show (x_u μ 115 (upd (μ 115) 9 (nI q))) 115 6 = nI L from hB1.1]
  refine xt_icmp_lt 74 dX6_step_63 (by decide) (fun t63 => ?_) (fun f63 => ?_)
  · have n63 : q < L := (nI_ltI (a := q) (b := L) (by omega) (by omega)).mp t63
    have hnL : ¬ L ≤ q := by omega
    refine xt_iload_n _ dX6_step_74 rfl ?_
    refine xt_bipush (59) dX6_step_75 (by decide) ?_
    refine xt_icmp_ne 98 dX6_step_77 (by decide) (fun t77 => ?_) (fun f77 => ?_)
    · have h59 : ¬ T q = 59 := fun z => t77 ((s_by_eq (hB1.at q) (c := 59) (by decide)).mpr z)
      refine xt_iload_n _ dX6_step_98 rfl ?_
      refine xt_cS _ dX6_step_99 klX6_187 (tX6_isLetter sc _ _ _ _ _ (hB1.at q)) rfl rfl (Nat.le_of_ble_eq_true rfl) ?_
      refine xt_if_eq 148 dX6_step_102 (by decide) (fun t102 => ?_) (fun f102 => ?_)
      · have hl0 := s_if0 t102
        refine xt_iload_n _ dX6_step_148 rfl ?_
        refine xt_cS _ dX6_step_149 klX6_190 (tX6_isDigit sc _ _ _ _ _ (hB1.at q)) rfl rfl (Nat.le_of_ble_eq_true rfl) ?_
        refine xt_if_eq 162 dX6_step_152 (by decide) (fun t152 => ?_) (fun f152 => ?_)
        · have hd0 := s_if0 t152
          refine xt_aload_n _ dX6_step_162 rfl ?_
          refine xt_iconst (4) dX6_step_163 (by decide) ?_
          refine xt_puti dX6_step_164 kpX6_90 (by first | exact sh115 | rfl | assumption) rfl (by first | rfl | assumption) (by first | rfl | assumption) ?_
          exact xt_ret dX6_step_167 rfl ⟨rfl, by rw [x_u_eq, pk_un (by decide), x_u_eq, pk_us], by rw [x_u_eq, pk_us, s_k4 hnL h59 hl0 hd0]; rfl, fun h => absurd (s_k4 hnL h59 hl0 hd0) h, fun h => by rw [s_k4 hnL h59 hl0 hd0] at h; exact absurd h (by decide), fun j h => by rw [x_u_eq, pk_un (by omega), x_u_eq, pk_un (by omega)], fun a h => by rw [x_u_ne h, x_u_ne h]⟩
        · have hd1 := s_if1 f152
          refine xt_aload_n _ dX6_step_155 rfl ?_
          refine xt_callV _ dX6_step_156 klX6_193 (tX6_stepOverDigits sc _ (x_u μ 115 (upd (μ 115) 9 (nI q))) _ T L hB1 q hq (by rw [x_u_eq, pk_un (by decide)]; exact h8) (by rw [x_u_eq, pk_us])) sh115 rfl rfl (Nat.le_of_ble_eq_true rfl) (fun r2 μ2 w2 q2 => ?_)
          obtain ⟨rfl, hk, he, hv, hj, hf⟩ := q2
          change x_T _ _ _ _ _ _ _ _ _
          refine xt_goto 167 dX6_step_159 (by decide) ?_
          exact xt_ret dX6_step_167 rfl ⟨rfl, by rw [hj 9 (by omega), x_u_eq, pk_us], by rw [hk, (s_k2 hnL hd1).1], fun _ => by rw [he, (s_k2 hnL hd1).2], fun h => hv (by rw [(s_k2 hnL hd1).1] at h; exact Classical.byContradiction (fun z => by rw [if_neg z] at h; exact absurd h (by decide))), fun j h => by rw [hj j (by omega), x_u_eq, pk_un (by omega)], fun a h => by rw [hf a h, x_u_ne h]⟩
      · have hl1 := s_if1 f102
        refine xt_aload_n _ dX6_step_105 rfl ?_
        refine xt_iconst (1) dX6_step_106 (by decide) ?_
        refine xt_puti dX6_step_107 kpX6_90 (by first | exact sh115 | rfl | assumption) rfl (by first | rfl | assumption) (by first | rfl | assumption) ?_
        have L110 : ∀ (n110 m : Nat) (μ2 : x_Me) (h8 : μ2 115 8 = nI m) (hj : ∀ j, j ≠ 8 → μ2 115 j = (x_u (x_u μ 115 (upd (μ 115) 9 (nI q))) 115 (upd ((x_u μ 115 (upd (μ 115) 9 (nI q))) 115) 10 1)) 115 j) (hf : ∀ a, a ≠ 115 → μ2 a = (x_u (x_u μ 115 (upd (μ 115) 9 (nI q))) 115 (upd ((x_u μ 115 (upd (μ 115) 9 (nI q))) 115) 10 1)) a) (hqm : q ≤ m), m + n110 = N → x_T sc (d + 2) mX6_step 110 [.ref 115, .int (if q < L then (x_u μ 115 (upd (μ 115) 9 (nI q))) 127 q else 0)] [] μ2 w (fun r μ' _ => r = none ∧ s_PS μ μ' T L q) := by
          intro n110
          induction n110 with
          | zero =>
            intro m μ2 h8 hj hf hqm hmn
            obtain rfl : m = N := by omega
            have hB2 : c_B μ2 T L := hB.cg (by rw [hj 6 (by decide)]; rfl) (by rw [hf 127 (by decide)]; rfl)
            refine xt_aload_n _ dX6_step_110 rfl ?_
            refine xt_geti dX6_step_111 kfX6_67 (by first | exact sh115 | rfl | assumption) rfl ?_
            refine xt_aload_n _ dX6_step_114 rfl ?_
            refine xt_geti dX6_step_115 kfX6_53 (by first | exact sh115 | rfl | assumption) rfl ?_
            rw [h8, hB2.1]
            refine xt_icmp_ge 167 dX6_step_118 (by decide) (fun t118 => ?_) (fun f118 => ?_)
            · have n118 : L ≤ m := (nI_leI (a := L) (b := m) (by omega) (by omega)).mp t118
              exact xt_ret dX6_step_167 rfl ⟨rfl, by rw [hj 9 (by decide), x_u_eq, pk_un (by decide), x_u_eq, pk_us], by rw [hj 10 (by decide), x_u_eq, pk_us, (s_k1 hnL hl1).1]; rfl, fun _ => by rw [h8, (s_k1 hnL hl1).2, hN], fun h => by rw [(s_k1 hnL hl1).1] at h; exact absurd h (by decide), fun j h => by rw [hj j (by omega), x_u_eq, pk_un (by omega), x_u_eq, pk_un (by omega)], fun a h => by rw [hf a h, x_u_ne h, x_u_ne h]⟩
            · have n118 : ¬ (L ≤ m) := fun z => f118 ((nI_leI (a := L) (b := m) (by omega) (by omega)).mpr z)
              refine xt_aload_n _ dX6_step_121 rfl ?_
              refine xt_aload_n _ dX6_step_122 rfl ?_
              refine xt_geti dX6_step_123 kfX6_67 (by first | exact sh115 | rfl | assumption) rfl ?_
              rw [h8]
              refine xt_cV _ dX6_step_126 klX6_181 (tX6_byteAt sc _ μ2 _ T L hB2 m (by omega)) sh115 rfl rfl (Nat.le_of_ble_eq_true rfl) ?_
              refine xt_cS _ dX6_step_129 klX6_187 (tX6_isLetter sc _ _ _ _ _ (hB2.at m)) rfl rfl (Nat.le_of_ble_eq_true rfl) ?_
              refine xt_if_eq 167 dX6_step_132 (by decide) (fun _ => ?_) (fun q => absurd (by rw [b4]; rfl) q)
              exact xt_ret dX6_step_167 rfl ⟨rfl, by rw [hj 9 (by decide), x_u_eq, pk_un (by decide), x_u_eq, pk_us], by rw [hj 10 (by decide), x_u_eq, pk_us, (s_k1 hnL hl1).1]; rfl, fun _ => by rw [h8, (s_k1 hnL hl1).2, hN], fun h => by rw [(s_k1 hnL hl1).1] at h; exact absurd h (by decide), fun j h => by rw [hj j (by omega), x_u_eq, pk_un (by omega), x_u_eq, pk_un (by omega)], fun a h => by rw [hf a h, x_u_ne h, x_u_ne h]⟩
          | succ n110 ih110 =>
            intro m μ2 h8 hj hf hqm hmn
            have hlt : m < N := by omega
            have hB2 : c_B μ2 T L := hB.cg (by rw [hj 6 (by decide)]; rfl) (by rw [hf 127 (by decide)]; rfl)
            have hdm := b3 m hqm hlt
            refine xt_aload_n _ dX6_step_110 rfl ?_
            refine xt_geti dX6_step_111 kfX6_67 (by first | exact sh115 | rfl | assumption) rfl ?_
            refine xt_aload_n _ dX6_step_114 rfl ?_
            refine xt_geti dX6_step_115 kfX6_53 (by first | exact sh115 | rfl | assumption) rfl ?_
            rw [h8, hB2.1]
            refine xt_icmp_ge 167 dX6_step_118 (by decide) (fun q => absurd q (nI_ge (show m < L by omega) (by omega))) (fun _ => ?_)
            refine xt_aload_n _ dX6_step_121 rfl ?_
            refine xt_aload_n _ dX6_step_122 rfl ?_
            refine xt_geti dX6_step_123 kfX6_67 (by first | exact sh115 | rfl | assumption) rfl ?_
            rw [h8]
            refine xt_cV _ dX6_step_126 klX6_181 (tX6_byteAt sc _ μ2 _ T L hB2 m (by omega)) sh115 rfl rfl (Nat.le_of_ble_eq_true rfl) ?_
            refine xt_cS _ dX6_step_129 klX6_187 (tX6_isLetter sc _ _ _ _ _ (hB2.at m)) rfl rfl (Nat.le_of_ble_eq_true rfl) ?_
            refine xt_if_eq 167 dX6_step_132 (by decide) (fun q => absurd q (by rw [hdm]; decide)) (fun _ => ?_)
            refine xt_aload_n _ dX6_step_135 rfl ?_
            refine xt_dup dX6_step_136 rfl ?_
            refine xt_geti dX6_step_137 kfX6_67 (by first | exact sh115 | rfl | assumption) rfl ?_
            refine xt_iconst (1) dX6_step_140 (by decide) ?_
            refine xt_iadd dX6_step_141 ?_
            refine xt_puti dX6_step_142 kpX6_67 (by first | exact sh115 | rfl | assumption) rfl (by first | rfl | assumption) (by first | rfl | assumption) ?_
            refine xt_goto 110 dX6_step_145 (by decide) ?_
            exact ih110 (m + 1) _ (by rw [x_u_eq, pk_us, h8, nI_succ m]) (fun j h => by rw [x_u_eq, pk_un h]; exact hj j h) (fun a h => by rw [x_u_ne h]; exact hf a h) (by omega) (by omega)
        exact L110 (N - q) q _ (by rw [x_u_eq, pk_un (by decide), x_u_eq, pk_un (by decide)]; exact h8) (fun j _ => rfl) (fun a _ => rfl) (Nat.le_refl _) (by omega)
    · have h59 : T q = 59 := (s_by_eq (hB1.at q) (c := 59) (by decide)).mp f77
      refine xt_aload_n _ dX6_step_80 rfl ?_
      refine xt_iconst (3) dX6_step_81 (by decide) ?_
      refine xt_puti dX6_step_82 kpX6_90 (by first | exact sh115 | rfl | assumption) rfl (by first | rfl | assumption) (by first | rfl | assumption) ?_
      refine xt_aload_n _ dX6_step_85 rfl ?_
      refine xt_dup dX6_step_86 rfl ?_
      refine xt_geti dX6_step_87 kfX6_67 (by first | exact sh115 | rfl | assumption) rfl ?_
      refine xt_iconst (1) dX6_step_90 (by decide) ?_
      refine xt_iadd dX6_step_91 ?_
      refine xt_puti dX6_step_92 kpX6_67 (by first | exact sh115 | rfl | assumption) rfl (by first | rfl | assumption) (by first | rfl | assumption) ?_
      refine xt_goto 167 dX6_step_95 (by decide) ?_
      exact xt_ret dX6_step_167 rfl ⟨rfl, by rw [x_u_eq, pk_un (by decide), x_u_eq, pk_un (by decide), x_u_eq, pk_us], by rw [x_u_eq, pk_un (by decide), x_u_eq, pk_us, (s_k3 hnL h59).1]; rfl, fun _ => by rw [x_u_eq, pk_us, x_u_eq, pk_un (by decide), x_u_eq, pk_un (by decide), (s_k3 hnL h59).2, h8, nI_succ q], fun h => by rw [(s_k3 hnL h59).1] at h; exact absurd h (by decide), fun j h => by rw [x_u_eq, pk_un (by omega), x_u_eq, pk_un (by omega), x_u_eq, pk_un (by omega)], fun a h => by rw [x_u_ne h, x_u_ne h, x_u_ne h]⟩
  · have n63 : ¬ (q < L) := fun z => f63 ((nI_ltI (a := q) (b := L) (by omega) (by omega)).mpr z)
    refine xt_aload_n _ dX6_step_66 rfl ?_
    refine xt_iconst (0) dX6_step_67 (by decide) ?_
    refine xt_puti dX6_step_68 kpX6_90 (by first | exact sh115 | rfl | assumption) rfl (by first | rfl | assumption) (by first | rfl | assumption) ?_
    refine xt_goto 167 dX6_step_71 (by decide) ?_
    exact xt_ret dX6_step_167 rfl ⟨rfl, by rw [x_u_eq, pk_un (by decide), x_u_eq, pk_us], by rw [x_u_eq, pk_us, (s_k0 (L := L) (q := q) (by omega)).1]; rfl, fun _ => by rw [x_u_eq, pk_un (by decide), x_u_eq, pk_un (by decide), (s_k0 (L := L) (q := q) (by omega)).2]; exact h8, fun h => by rw [(s_k0 (L := L) (q := q) (by omega)).1] at h; exact absurd h (by decide), fun j h => by rw [x_u_eq, pk_un (by omega), x_u_eq, pk_un (by omega)], fun a h => by rw [x_u_ne h, x_u_ne h]⟩
set_option maxHeartbeats 2000000 in
theorem tX6_step (T : Nat → Nat) (L : Nat) (hB : c_B μ T L) (p : Nat) (hp : p ≤ L) (h8 : μ 115 8 = nI p) : x_K sc (d + 2) mX6_step [.ref 115] μ w (fun r μ' _ => r = none ∧ s_PS μ μ' T L (s_sp T L p)) := by
  have hL := hB.2.1
  obtain ⟨N, hN⟩ : ∃ N, s_to s_isB T L p = N := ⟨_, rfl⟩
  obtain ⟨b1, b2, b3, b4⟩ := s_to_ok s_isB (a := p) (by decide) hB.2.2.2 hp
  rw [hN] at b1 b2 b3 b4
  refine x_K.of (by decide) (Nat.le_of_ble_eq_true rfl) ?_
  show x_T sc (d + 2) mX6_step 0 [.ref 115, .retAddr 0] [] μ w _
  have L0 : ∀ (n0 m : Nat) (μ2 : x_Me) (h8 : μ2 115 8 = nI m) (hj : ∀ j, j ≠ 8 → μ2 115 j = μ 115 j) (hf : ∀ a, a ≠ 115 → μ2 a = μ a) (hqm : p ≤ m), m + n0 = N → x_T sc (d + 2) mX6_step 0 [.ref 115, .retAddr 0] [] μ2 w (fun r μ' _ => r = none ∧ s_PS μ μ' T L (s_sp T L p)) := by
    intro n0
    induction n0 with
    | zero =>
      intro m μ2 h8 hj hf hqm hmn
      obtain rfl : m = N := by omega
      have hB2 : c_B μ2 T L := hB.cg (hj 6 (by decide)) (hf 127 (by decide))
      refine xt_aload_n _ dX6_step_0 rfl ?_
      refine xt_geti dX6_step_1 kfX6_67 (by first | exact sh115 | rfl | assumption) rfl ?_
      refine xt_aload_n _ dX6_step_4 rfl ?_
      refine xt_geti dX6_step_5 kfX6_53 (by first | exact sh115 | rfl | assumption) rfl ?_
      rw [h8, hB2.1]
      refine xt_icmp_ge 38 dX6_step_8 (by decide) (fun t8 => ?_) (fun f8 => ?_)
      · have n8 : L ≤ m := (nI_leI (a := L) (b := m) (by omega) (by omega)).mp t8
        refine (tX6_step38 sc d μ2 w T L hB2 m b2 h8).mono (fun r μ3 w3 q3 => ⟨q3.1, by
          rw [show s_sp T L p = m from hN]
          exact ⟨q3.2.1, q3.2.2.1, q3.2.2.2.1, q3.2.2.2.2.1, fun j h => (q3.2.2.2.2.2.1 j h).trans (hj j (by omega)), fun a h => (q3.2.2.2.2.2.2 a h).trans (hf a h)⟩⟩)
      · have n8 : ¬ (L ≤ m) := fun z => f8 ((nI_leI (a := L) (b := m) (by omega) (by omega)).mpr z)
        refine xt_aload_n _ dX6_step_11 rfl ?_
        refine xt_aload_n _ dX6_step_12 rfl ?_
        refine xt_geti dX6_step_13 kfX6_67 (by first | exact sh115 | rfl | assumption) rfl ?_
        rw [h8]
        refine xt_cV _ dX6_step_16 klX6_181 (tX6_byteAt sc _ μ2 _ T L hB2 m (by omega)) sh115 rfl rfl (Nat.le_of_ble_eq_true rfl) ?_
        refine xt_cS _ dX6_step_19 klX6_184 (tX6_isBlank sc _ _ _ _ _ (hB2.at m)) rfl rfl (Nat.le_of_ble_eq_true rfl) ?_
        refine xt_if_eq 38 dX6_step_22 (by decide) (fun _ => ?_) (fun q => absurd (by rw [b4]; rfl) q)
        refine (tX6_step38 sc d μ2 w T L hB2 m b2 h8).mono (fun r μ3 w3 q3 => ⟨q3.1, by
          rw [show s_sp T L p = m from hN]
          exact ⟨q3.2.1, q3.2.2.1, q3.2.2.2.1, q3.2.2.2.2.1, fun j h => (q3.2.2.2.2.2.1 j h).trans (hj j (by omega)), fun a h => (q3.2.2.2.2.2.2 a h).trans (hf a h)⟩⟩)
    | succ n0 ih0 =>
      intro m μ2 h8 hj hf hqm hmn
      have hlt : m < N := by omega
      have hB2 : c_B μ2 T L := hB.cg (hj 6 (by decide)) (hf 127 (by decide))
      have hdm := b3 m hqm hlt
      refine xt_aload_n _ dX6_step_0 rfl ?_
      refine xt_geti dX6_step_1 kfX6_67 (by first | exact sh115 | rfl | assumption) rfl ?_
      refine xt_aload_n _ dX6_step_4 rfl ?_
      refine xt_geti dX6_step_5 kfX6_53 (by first | exact sh115 | rfl | assumption) rfl ?_
      rw [h8, hB2.1]
      refine xt_icmp_ge 38 dX6_step_8 (by decide) (fun q => absurd q (nI_ge (show m < L by omega) (by omega))) (fun _ => ?_)
      refine xt_aload_n _ dX6_step_11 rfl ?_
      refine xt_aload_n _ dX6_step_12 rfl ?_
      refine xt_geti dX6_step_13 kfX6_67 (by first | exact sh115 | rfl | assumption) rfl ?_
      rw [h8]
      refine xt_cV _ dX6_step_16 klX6_181 (tX6_byteAt sc _ μ2 _ T L hB2 m (by omega)) sh115 rfl rfl (Nat.le_of_ble_eq_true rfl) ?_
      refine xt_cS _ dX6_step_19 klX6_184 (tX6_isBlank sc _ _ _ _ _ (hB2.at m)) rfl rfl (Nat.le_of_ble_eq_true rfl) ?_
      refine xt_if_eq 38 dX6_step_22 (by decide) (fun q => absurd q (by rw [hdm]; decide)) (fun _ => ?_)
      refine xt_aload_n _ dX6_step_25 rfl ?_
      refine xt_dup dX6_step_26 rfl ?_
      refine xt_geti dX6_step_27 kfX6_67 (by first | exact sh115 | rfl | assumption) rfl ?_
      refine xt_iconst (1) dX6_step_30 (by decide) ?_
      refine xt_iadd dX6_step_31 ?_
      refine xt_puti dX6_step_32 kpX6_67 (by first | exact sh115 | rfl | assumption) rfl (by first | rfl | assumption) (by first | rfl | assumption) ?_
      refine xt_goto 0 dX6_step_35 (by decide) ?_
      exact ih0 (m + 1) _ (by rw [x_u_eq, pk_us, h8, nI_succ m]) (fun j h => by rw [x_u_eq, pk_un h]; exact hj j h) (fun a h => by rw [x_u_ne h]; exact hf a h) (by omega) (by omega)
  exact L0 (N - p) p μ h8 (fun _ _ => rfl) (fun _ _ => rfl) (Nat.le_refl _) (by omega)
end TOKEN
