/-! turns: sets after a turn, and the fold's mathematics -/
abbrev s_NO (G : Nat → Nat) : Nat := s_bits (s_off G (fun _ => false) 0) (G 4)
abbrev s_WD (G : Nat → Nat) : Nat := s_bits (fun g => decide (0 < s_e G g)) (G 4)
theorem s_clr_bit : ∀ x, x < 256 → ∀ g, g < 8 → ∀ i, i < 8 → (s_clr x g).testBit i = (x.testBit i && !decide (i = g)) := by decide +kernel
theorem s_ext8 {x y : Nat} (hx : x < 256) (hy : y < 256) (h : ∀ i, i < 8 → x.testBit i = y.testBit i) : x = y := by
  apply Nat.eq_of_testBit_eq
  intro i
  by_cases hi : i < 8
  · exact h i hi
  · rw [Nat.testBit_lt_two_pow (Nat.lt_of_lt_of_le hx (Nat.pow_le_pow_right (n := 2) (by decide) (show 8 ≤ i by omega))), Nat.testBit_lt_two_pow (Nat.lt_of_lt_of_le hy (Nat.pow_le_pow_right (n := 2) (by decide) (show 8 ≤ i by omega)))]
theorem s_2bt : ∀ g, g < 8 → ∀ i, i < 8 → (2 ^ g).testBit i = decide (i = g) := by decide
theorem s_ear_q {G : Nat → Nat} (hW : f_W G) {g q : Nat} (hg : g < 8) (hne : q ≠ g) (st : Nat → Bool) (b : Bool) : ∀ m, m ≤ G 3 → s_ear (s_tu G g b) st 0 q m = s_ear G st 0 q m
  | 0, _ => rfl
  | m + 1, hm => by
    have h6 := hW.1.2.2.2.1
    have hb := hW.2.1 m (by omega)
    have ih := s_ear_q hW hg hne st b m (by omega)
    have o := fun (i : Nat) (h : i < 25 ∨ 89 ≤ i) => s_tu_o (G := G) hg b h
    have ew : s_tu G g b (41 + (6 * q + G (7 + m))) = G (41 + (6 * q + G (7 + m))) := by
      cases b
      · by_cases hq : 41 + (6 * q + G (7 + m)) = 25 + g
        · omega
        · exact s_tu_f (by omega) (by omega)
      · exact s_tu_t (by omega)
    rw [s_ear, s_ear, ih, o (19 + m) (by omega), o (7 + m) (by omega), o (13 + m) (by omega), ew]
theorem s_ear_st {G : Nat → Nat} (hW : f_W G) {g : Nat} (hg : g < 8) (st : Nat → Bool) : ∀ m, m ≤ G 3 → s_ear (s_tu G g true) st 0 g m = 0
  | 0, _ => rfl
  | m + 1, hm => by
    have h6 := hW.1.2.2.2.1
    have hb := hW.2.1 m (by omega)
    have ih := s_ear_st hW hg st m (by omega)
    have h3 : s_tu G g true (41 + (6 * g + s_tu G g true (7 + m))) = 0 := by
      rw [s_tu_o (i := 7 + m) hg true (by omega)]
      show (if 41 + 6 * g ≤ 41 + (6 * g + G (7 + m)) ∧ 41 + (6 * g + G (7 + m)) < 47 + 6 * g then 0 else _) = 0
      rw [if_pos (by omega)]
    rw [s_ear, ih, h3, s_tu_o (i := 19 + m) hg true (by omega), if_neg (by omega)]
theorem s_NO_lt {G : Nat → Nat} (hW : f_W G) : s_NO G < 256 := s_b256 hW.1.2.2.2.2.1 _
theorem s_WD_lt {G : Nat → Nat} (hW : f_W G) : s_WD G < 256 := s_b256 hW.1.2.2.2.2.1 _
theorem s_NO_WD {G : Nat → Nat} (i : Nat) (h : (s_NO G).testBit i = true) : (s_WD G).testBit i = true := by
  rw [s_bits_bit] at h ⊢
  rw [Bool.and_eq_true] at h ⊢
  refine ⟨h.1, ?_⟩
  have h2 := h.2
  unfold s_off at h2
  have h3 := of_decide_eq_true h2
  exact decide_eq_true (by show 0 < s_ear G (fun _ => false) 0 i (G 3); omega)
theorem s_NO_t {G : Nat → Nat} (hW : f_W G) {g : Nat} (hg : g < 8) : s_NO (s_tu G g true) = s_clr (s_NO G) g := by
  refine s_ext8 (s_NO_lt (s_tu_W hW hg true)) (s_clr_lt (s_NO_lt hW)) (fun i hi => ?_)
  rw [s_clr_bit _ (s_NO_lt hW) g hg i hi, s_bits_bit, s_bits_bit, s_tu_o hg true (by omega)]
  by_cases he : i = g
  · rw [he, s_tu_stoked hW hg]; simp
  · rw [s_tu_other hW hg hi he]; simp [he]
theorem s_WD_t {G : Nat → Nat} (hW : f_W G) {g : Nat} (hg : g < 8) : s_WD (s_tu G g true) = s_clr (s_WD G) g := by
  refine s_ext8 (s_WD_lt (s_tu_W hW hg true)) (s_clr_lt (s_WD_lt hW)) (fun i hi => ?_)
  rw [s_clr_bit _ (s_WD_lt hW) g hg i hi, s_bits_bit, s_bits_bit, s_tu_o (i := 4) hg true (by omega)]
  have e3 : s_tu G g true 3 = G 3 := s_tu_o hg true (by omega)
  by_cases he : i = g
  · have e : s_e (s_tu G g true) i = 0 := by
      show s_ear _ _ 0 i (s_tu G g true 3) = 0
      rw [e3, he]; exact s_ear_st hW hg _ _ (Nat.le_refl _)
    rw [e]; simp [he]
  · have e : s_e (s_tu G g true) i = s_e G i := by
      show s_ear _ _ 0 i (s_tu G g true 3) = s_ear _ _ 0 i (G 3)
      rw [e3]; exact s_ear_q hW hg he _ _ _ (Nat.le_refl _)
    rw [e]; simp [he]
theorem s_WD_f {G : Nat → Nat} (hW : f_W G) {g : Nat} (hg : g < 8) : s_WD (s_tu G g false) = s_WD G := by
  have e3 : s_tu G g false 3 = G 3 := s_tu_o hg false (by omega)
  show s_bits _ (s_tu G g false 4) = _
  rw [s_tu_o (i := 4) hg false (by omega)]
  refine s_bits_cong (fun i hi => ?_)
  have e : s_e (s_tu G g false) i = s_e G i := by
    show s_ear _ _ 0 i (s_tu G g false 3) = s_ear _ _ 0 i (G 3)
    rw [e3]; exact s_ear_cg (fun j hj => s_tu_f (by omega) (by omega)) _ _ _ _ hW.1.2.2.2.1
  rw [e]
theorem s_NO_f {G : Nat → Nat} (hW : f_W G) {g : Nat} (hg : g < 8) (i : Nat) (hi : i < 8) : (s_NO (s_tu G g false)).testBit i = if i = g then (s_WD G).testBit g else (s_NO G).testBit i := by
  rw [s_bits_bit, s_tu_o (i := 4) hg false (by omega)]
  by_cases he : i = g
  · rw [if_pos he, he, s_tu_moved hW hg, s_bits_bit]
  · rw [if_neg he, s_tu_other hW hg hi he, s_bits_bit]
theorem s_NO_f1 {G : Nat → Nat} (hW : f_W G) {g : Nat} (hg : g < 8) (h : (s_WD G).testBit g = true) : s_NO (s_tu G g false) = s_NO G ||| 2 ^ g := by
  refine s_ext8 (s_NO_lt (s_tu_W hW hg false)) (Nat.or_lt_two_pow (n := 8) (s_NO_lt hW) (Nat.pow_lt_pow_right (by decide) hg)) (fun i hi => ?_)
  rw [s_NO_f hW hg i hi, Nat.testBit_or, s_2bt g hg i hi]
  by_cases he : i = g
  · rw [if_pos he, h, he]; simp
  · rw [if_neg he]; simp [he]
theorem s_NO_f0 {G : Nat → Nat} (hW : f_W G) {g : Nat} (hg : g < 8) (h : (s_WD G).testBit g = false ∨ (s_NO G).testBit g = true) : s_NO (s_tu G g false) = s_NO G := by
  refine s_ext8 (s_NO_lt (s_tu_W hW hg false)) (s_NO_lt hW) (fun i hi => ?_)
  rw [s_NO_f hW hg i hi]
  by_cases he : i = g
  · rw [if_pos he, he]
    cases hn : (s_NO G).testBit g
    · rcases h with h | h
      · exact h
      · rw [hn] at h; exact absurd h (by decide)
    · exact s_NO_WD g hn
  · rw [if_neg he]
theorem s_clr_id {x g : Nat} (h : x.testBit g = false) : s_clr x g = x := by
  unfold s_clr; rw [h]; rfl
/-! the least (or the most) of those that may be -/
theorem s_lf_T (f : Nat → Nat) (now wd b0 : Nat) : ∀ n, (s_lf f true now wd b0 n ≤ b0 ∧ ∀ g, g < n → s_apt true now wd g = true → s_lf f true now wd b0 n ≤ f g) ∧ (s_lf f true now wd b0 n = b0 ∨ ∃ g, g < n ∧ s_apt true now wd g = true ∧ s_lf f true now wd b0 n = f g)
  | 0 => ⟨⟨Nat.le_refl _, fun _ h => absurd h (by omega)⟩, .inl rfl⟩
  | n + 1 => by
    obtain ⟨⟨h1, h2⟩, h3⟩ := s_lf_T f now wd b0 n
    by_cases ha : s_apt true now wd n = true
    · have e : s_lf f true now wd b0 (n + 1) = min (s_lf f true now wd b0 n) (f n) := by rw [s_lf, if_pos ha]; rfl
      rw [e]
      refine ⟨⟨by omega, fun g hg hq => ?_⟩, ?_⟩
      · by_cases he : g = n
        · rw [he]; omega
        · have := h2 g (by omega) hq; omega
      · by_cases hc : f n < s_lf f true now wd b0 n
        · exact .inr ⟨n, by omega, ha, by omega⟩
        · rcases h3 with h | ⟨g, hg, hq, h⟩
          · exact .inl (by omega)
          · exact .inr ⟨g, by omega, hq, by omega⟩
    · have e : s_lf f true now wd b0 (n + 1) = s_lf f true now wd b0 n := by rw [s_lf, if_neg ha]
      rw [e]
      refine ⟨⟨h1, fun g hg hq => ?_⟩, ?_⟩
      · by_cases he : g = n
        · rw [he] at hq; exact absurd hq ha
        · exact h2 g (by omega) hq
      · rcases h3 with h | ⟨g, hg, hq, h⟩
        · exact .inl h
        · exact .inr ⟨g, by omega, hq, h⟩
theorem s_bf_T (v : Nat → Nat) (ok : Nat → Bool) : ∀ n, ((s_bf false v ok n).1 = 0 → ∀ i, i < n → ok i = false) ∧ ((s_bf false v ok n).1 ≠ 0 → ∃ j, j < n ∧ (s_bf false v ok n).1 = j + 1 ∧ ok j = true ∧ (s_bf false v ok n).2 = v j ∧ (∀ i, i < n → ok i = true → v j ≤ v i) ∧ ∀ i, i < j → ok i = true → v j < v i)
  | 0 => ⟨fun _ _ h => absurd h (by omega), fun h => absurd rfl h⟩
  | n + 1 => by
    obtain ⟨h1, h2⟩ := s_bf_T v ok n
    by_cases hc : ok n = true ∧ ((s_bf false v ok n).1 = 0 ∨ (if false then (s_bf false v ok n).2 < v n else v n < (s_bf false v ok n).2))
    · have e : s_bf false v ok (n + 1) = (n + 1, v n) := by rw [s_bf, if_pos hc]
      rw [e]
      refine ⟨fun h => absurd h (by show ¬ n + 1 = 0; omega), fun _ => ⟨n, by omega, rfl, hc.1, rfl, ?_⟩⟩
      have hall : ∀ i, i < n → ok i = true → v n < v i := fun i hi ho => by
        by_cases hz : (s_bf false v ok n).1 = 0
        · rw [h1 hz i hi] at ho; exact absurd ho (by decide)
        · obtain ⟨j, _, _, _, hj, hm, _⟩ := h2 hz
          have h3 := hm i hi ho
          rcases hc.2 with z | z
          · exact absurd z hz
          · have z : v n < (s_bf false v ok n).2 := z
            omega
      exact ⟨fun i hi ho => by
        by_cases he : i = n
        · rw [he]; exact Nat.le_refl _
        · have := hall i (by omega) ho; omega, hall⟩
    · have e : s_bf false v ok (n + 1) = s_bf false v ok n := by rw [s_bf, if_neg hc]
      rw [e]
      refine ⟨fun hz i hi => ?_, fun hz => ?_⟩
      · by_cases he : i = n
        · cases hq : ok i
          · rfl
          · rw [he] at hq; exact absurd ⟨hq, .inl hz⟩ hc
        · exact h1 hz i (by omega)
      · obtain ⟨j, a1, a2, a3, a4, a5, a6⟩ := h2 hz
        refine ⟨j, by omega, a2, a3, a4, fun i hi ho => ?_, a6⟩
        by_cases he : i = n
        · rw [he] at ho ⊢
          have z : ¬ v n < (s_bf false v ok n).2 := fun z => hc ⟨ho, .inr z⟩
          omega
        · exact a5 i (by omega) ho
theorem s_lf_F (f : Nat → Nat) (now wd b0 : Nat) : ∀ n, (s_lf f false now wd b0 n ≥ b0 ∧ ∀ g, g < n → s_apt false now wd g = true → s_lf f false now wd b0 n ≥ f g) ∧ (s_lf f false now wd b0 n = b0 ∨ ∃ g, g < n ∧ s_apt false now wd g = true ∧ s_lf f false now wd b0 n = f g)
  | 0 => ⟨⟨Nat.le_refl _, fun _ h => absurd h (by omega)⟩, .inl rfl⟩
  | n + 1 => by
    obtain ⟨⟨h1, h2⟩, h3⟩ := s_lf_F f now wd b0 n
    by_cases ha : s_apt false now wd n = true
    · have e : s_lf f false now wd b0 (n + 1) = max (s_lf f false now wd b0 n) (f n) := by rw [s_lf, if_pos ha]; rfl
      rw [e]
      refine ⟨⟨by omega, fun g hg hq => ?_⟩, ?_⟩
      · by_cases he : g = n
        · rw [he]; omega
        · have := h2 g (by omega) hq; omega
      · by_cases hc : f n > s_lf f false now wd b0 n
        · exact .inr ⟨n, by omega, ha, by omega⟩
        · rcases h3 with h | ⟨g, hg, hq, h⟩
          · exact .inl (by omega)
          · exact .inr ⟨g, by omega, hq, by omega⟩
    · have e : s_lf f false now wd b0 (n + 1) = s_lf f false now wd b0 n := by rw [s_lf, if_neg ha]
      rw [e]
      refine ⟨⟨h1, fun g hg hq => ?_⟩, ?_⟩
      · by_cases he : g = n
        · rw [he] at hq; exact absurd hq ha
        · exact h2 g (by omega) hq
      · rcases h3 with h | ⟨g, hg, hq, h⟩
        · exact .inl h
        · exact .inr ⟨g, by omega, hq, h⟩
theorem s_bf_F (v : Nat → Nat) (ok : Nat → Bool) : ∀ n, ((s_bf true v ok n).1 = 0 → ∀ i, i < n → ok i = false) ∧ ((s_bf true v ok n).1 ≠ 0 → ∃ j, j < n ∧ (s_bf true v ok n).1 = j + 1 ∧ ok j = true ∧ (s_bf true v ok n).2 = v j ∧ (∀ i, i < n → ok i = true → v j ≥ v i) ∧ ∀ i, i < j → ok i = true → v j > v i)
  | 0 => ⟨fun _ _ h => absurd h (by omega), fun h => absurd rfl h⟩
  | n + 1 => by
    obtain ⟨h1, h2⟩ := s_bf_F v ok n
    by_cases hc : ok n = true ∧ ((s_bf true v ok n).1 = 0 ∨ (if true then (s_bf true v ok n).2 < v n else v n < (s_bf true v ok n).2))
    · have e : s_bf true v ok (n + 1) = (n + 1, v n) := by rw [s_bf, if_pos hc]
      rw [e]
      refine ⟨fun h => absurd h (by show ¬ n + 1 = 0; omega), fun _ => ⟨n, by omega, rfl, hc.1, rfl, ?_⟩⟩
      have hall : ∀ i, i < n → ok i = true → v n > v i := fun i hi ho => by
        by_cases hz : (s_bf true v ok n).1 = 0
        · rw [h1 hz i hi] at ho; exact absurd ho (by decide)
        · obtain ⟨j, _, _, _, hj, hm, _⟩ := h2 hz
          have h3 := hm i hi ho
          rcases hc.2 with z | z
          · exact absurd z hz
          · have z : (s_bf true v ok n).2 < v n := z
            omega
      exact ⟨fun i hi ho => by
        by_cases he : i = n
        · rw [he]; exact Nat.le_refl _
        · have := hall i (by omega) ho; omega, hall⟩
    · have e : s_bf true v ok (n + 1) = s_bf true v ok n := by rw [s_bf, if_neg hc]
      rw [e]
      refine ⟨fun hz i hi => ?_, fun hz => ?_⟩
      · by_cases he : i = n
        · cases hq : ok i
          · rfl
          · rw [he] at hq; exact absurd ⟨hq, .inl hz⟩ hc
        · exact h1 hz i (by omega)
      · obtain ⟨j, a1, a2, a3, a4, a5, a6⟩ := h2 hz
        refine ⟨j, by omega, a2, a3, a4, fun i hi ho => ?_, a6⟩
        by_cases he : i = n
        · rw [he] at ho ⊢
          have z : ¬ (s_bf true v ok n).2 < v n := fun z => hc ⟨ho, .inr z⟩
          omega
        · exact a5 i (by omega) ho
theorem s_apt_lt {G : Nat → Nat} {st : Bool} {g : Nat} (h : s_apt st (s_NO G) (s_WD G) g = true) : g < G 4 := by
  have h1 : (s_WD G).testBit g = true := by
    have h : ((s_WD G).testBit g && (st || !(s_NO G).testBit g)) = true := h
    rw [Bool.and_eq_true] at h
    exact h.1
  rw [s_bits_bit, Bool.and_eq_true] at h1
  exact of_decide_eq_true h1.1
/-- a turn of the one that is asked: what comes of GOER j, or of none (8) -/
def s_nxt (G : Nat → Nat) (st : Bool) (j : Nat) : Nat → Nat := if j < 8 then s_tu G j st else G
def s_vl (m : Nat) (st : Bool) (G : Nat → Nat) : Nat := s_la m st (s_NO G) (s_WD G)
abbrev s_may (G4 j : Nat) : Bool := decide (j = 8 ∨ j < G4)
theorem s_vl_T {G : Nat → Nat} (hW : f_W G) (m : Nat) {j : Nat} (hj : j < 8) : s_vl m false (s_nxt G true j) = s_la m false (s_clr (s_NO G) j) (s_clr (s_WD G) j) := by
  unfold s_vl s_nxt
  rw [if_pos hj, s_NO_t hW hj, s_WD_t hW hj]
theorem s_foldT {G : Nat → Nat} (hW : f_W G) (m : Nat) : ∃ j, j < 9 ∧ s_may (G 4) j = true ∧ s_bf false (fun j => s_vl m false (s_nxt G true j)) (s_may (G 4)) 9 = (j + 1, s_vl (m + 1) true G) ∧ s_vl m false (s_nxt G true j) = s_vl (m + 1) true G ∧ ∀ i, i < j → s_may (G 4) i = true → s_vl m false (s_nxt G true i) ≠ s_vl (m + 1) true G := by
  have h8 : G 4 ≤ 8 := hW.1.2.2.2.2.1
  obtain ⟨hz, hn⟩ := s_bf_T (fun j => s_vl m false (s_nxt G true j)) (s_may (G 4)) 9
  have hm8 : s_may (G 4) 8 = true := decide_eq_true (.inl rfl)
  obtain ⟨j, hj9, e1, ho, e2, hle, hfi⟩ := hn (fun z => by rw [hz z 8 (by decide)] at hm8; exact absurd hm8 (by decide))
  obtain ⟨⟨l0, lg⟩, la⟩ := s_lf_T (fun g => if true then s_la m false (s_clr (s_NO G) g) (s_clr (s_WD G) g) else s_la m true (s_NO G ||| 2 ^ g) (s_WD G)) (s_NO G) (s_WD G) (s_la m (!true) (s_NO G) (s_WD G)) 8
  have ev : s_vl (m + 1) true G = s_lf (fun g => if true then s_la m false (s_clr (s_NO G) g) (s_clr (s_WD G) g) else s_la m true (s_NO G ||| 2 ^ g) (s_WD G)) true (s_NO G) (s_WD G) (s_la m (!true) (s_NO G) (s_WD G)) 8 := by unfold s_vl; rw [s_la]
  have v8 : s_vl m false (s_nxt G true 8) = s_la m (!true) (s_NO G) (s_WD G) := by unfold s_vl s_nxt; rw [if_neg (by decide)]; rfl
  have vn : ∀ g, g < 8 → s_apt true (s_NO G) (s_WD G) g = false → s_vl m false (s_nxt G true g) = s_la m (!true) (s_NO G) (s_WD G) := fun g hg ha => by
    have hw0 : (s_WD G).testBit g = false := by
      have ha : ((s_WD G).testBit g && (true || !(s_NO G).testBit g)) = false := ha
      rw [Bool.true_or, Bool.and_true] at ha; exact ha
    have hn0 : (s_NO G).testBit g = false := by
      cases hq : (s_NO G).testBit g
      · rfl
      · rw [s_NO_WD g hq] at hw0; exact absurd hw0 (by decide)
    rw [s_vl_T hW m hg, s_clr_id hw0, s_clr_id hn0]; rfl
  have key : s_vl m false (s_nxt G true j) = s_vl (m + 1) true G := by
    apply Nat.le_antisymm
    · rw [ev]
      rcases la with h | ⟨g, hg, hq, h⟩
      · rw [h, ← v8]; exact hle 8 (by decide) hm8
      · rw [h]
        have h1 := hle g (by omega) (decide_eq_true (.inr (s_apt_lt hq)))
        have h1 : s_vl m false (s_nxt G true j) ≤ s_vl m false (s_nxt G true g) := h1
        rw [s_vl_T hW m hg] at h1; exact h1
    · rw [ev]
      by_cases hj8 : j < 8
      · cases hq : s_apt true (s_NO G) (s_WD G) j
        · rw [vn j hj8 hq]; exact l0
        · rw [s_vl_T hW m hj8]; exact lg j hj8 hq
      · rw [show j = 8 by omega, v8]; exact l0
  refine ⟨j, hj9, ho, ?_, key, fun i hi hm => ?_⟩
  · have e2 : (s_bf false (fun j => s_vl m false (s_nxt G true j)) (s_may (G 4)) 9).2 = s_vl m false (s_nxt G true j) := e2
    exact Prod.ext e1 (e2.trans key)
  · have h1 : s_vl m false (s_nxt G true j) < s_vl m false (s_nxt G true i) := hfi i hi hm
    omega
theorem s_foldF {G : Nat → Nat} (hW : f_W G) (m : Nat) : (s_bf true (fun j => s_vl m true (s_nxt G false j)) (s_may (G 4)) 9).1 ≠ 0 ∧ (s_bf true (fun j => s_vl m true (s_nxt G false j)) (s_may (G 4)) 9).2 = s_vl (m + 1) false G := by
  have h8 : G 4 ≤ 8 := hW.1.2.2.2.2.1
  obtain ⟨hz, hn⟩ := s_bf_F (fun j => s_vl m true (s_nxt G false j)) (s_may (G 4)) 9
  have hm8 : s_may (G 4) 8 = true := decide_eq_true (.inl rfl)
  have hne : (s_bf true (fun j => s_vl m true (s_nxt G false j)) (s_may (G 4)) 9).1 ≠ 0 := fun z => by rw [hz z 8 (by decide)] at hm8; exact absurd hm8 (by decide)
  obtain ⟨j, hj9, e1, ho, e2, hle, hfi⟩ := hn hne
  obtain ⟨⟨l0, lg⟩, la⟩ := s_lf_F (fun g => if false then s_la m false (s_clr (s_NO G) g) (s_clr (s_WD G) g) else s_la m true (s_NO G ||| 2 ^ g) (s_WD G)) (s_NO G) (s_WD G) (s_la m (!false) (s_NO G) (s_WD G)) 8
  have ev : s_vl (m + 1) false G = s_lf (fun g => if false then s_la m false (s_clr (s_NO G) g) (s_clr (s_WD G) g) else s_la m true (s_NO G ||| 2 ^ g) (s_WD G)) false (s_NO G) (s_WD G) (s_la m (!false) (s_NO G) (s_WD G)) 8 := by unfold s_vl; rw [s_la]
  have v8 : s_vl m true (s_nxt G false 8) = s_la m (!false) (s_NO G) (s_WD G) := by unfold s_vl s_nxt; rw [if_neg (by decide)]; rfl
  have vy : ∀ g, g < 8 → s_apt false (s_NO G) (s_WD G) g = true → s_vl m true (s_nxt G false g) = s_la m true (s_NO G ||| 2 ^ g) (s_WD G) := fun g hg ha => by
    have ha : ((s_WD G).testBit g && (false || !(s_NO G).testBit g)) = true := ha
    rw [Bool.and_eq_true] at ha
    unfold s_vl s_nxt
    rw [if_pos hg, s_NO_f1 hW hg ha.1, s_WD_f hW hg]
  have vn : ∀ g, g < 8 → s_apt false (s_NO G) (s_WD G) g = false → s_vl m true (s_nxt G false g) = s_la m (!false) (s_NO G) (s_WD G) := fun g hg ha => by
    have ha : ((s_WD G).testBit g && (false || !(s_NO G).testBit g)) = false := ha
    have hd : (s_WD G).testBit g = false ∨ (s_NO G).testBit g = true := by
      cases h1 : (s_WD G).testBit g
      · exact .inl rfl
      · rw [h1, Bool.true_and, Bool.false_or] at ha
        cases h2 : (s_NO G).testBit g
        · rw [h2] at ha; exact absurd ha (by decide)
        · exact .inr rfl
    unfold s_vl s_nxt
    rw [if_pos hg, s_NO_f0 hW hg hd, s_WD_f hW hg]; rfl
  refine ⟨hne, ?_⟩
  have e2 : (s_bf true (fun j => s_vl m true (s_nxt G false j)) (s_may (G 4)) 9).2 = s_vl m true (s_nxt G false j) := e2
  rw [e2]
  apply Nat.le_antisymm
  · rw [ev]
    by_cases hj8 : j < 8
    · cases hq : s_apt false (s_NO G) (s_WD G) j
      · rw [vn j hj8 hq]; exact l0
      · rw [vy j hj8 hq]; exact lg j hj8 hq
    · rw [show j = 8 by omega, v8]; exact l0
  · rw [ev]
    rcases la with h | ⟨g, hg, hq, h⟩
    · rw [h, ← v8]; exact hle 8 (by decide) hm8
    · rw [h]
      have h1 : s_vl m true (s_nxt G false g) ≤ s_vl m true (s_nxt G false j) := hle g (by omega) (decide_eq_true (.inr (s_apt_lt hq)))
      rw [vy g hg hq] at h1; exact h1
/-! the ends of a number's turns -/
abbrev s_sk (t : Nat) : Bool := decide (t % 2 = 0)
def s_gs (F : Nat → Nat) : Nat → Nat → (Nat → Nat)
  | 0, _ => F
  | t + 1, k => s_nxt (s_gs F t (k / 9)) (s_sk t) (k % 9)
def s_okk (G4 : Nat) : Nat → Nat → Bool
  | 0, _ => true
  | t + 1, k => s_okk G4 t (k / 9) && s_may G4 (k % 9)
theorem s_gs_W {F : Nat → Nat} (hW : f_W F) : ∀ t k, f_W (s_gs F t k)
  | 0, _ => hW
  | t + 1, k => by
    have ih := s_gs_W hW t (k / 9)
    show f_W (s_nxt _ _ _)
    unfold s_nxt
    by_cases h : k % 9 < 8
    · rw [if_pos h]; exact s_tu_W ih h _
    · rw [if_neg h]; exact ih
theorem s_gs_o {F : Nat → Nat} {i : Nat} (hi : i < 25 ∨ 89 ≤ i) : ∀ t k, s_gs F t k i = F i
  | 0, _ => rfl
  | t + 1, k => by
    have ih := s_gs_o (F := F) hi t (k / 9)
    show s_nxt _ _ _ i = _
    unfold s_nxt
    by_cases h : k % 9 < 8
    · rw [if_pos h, s_tu_o h _ hi]; exact ih
    · rw [if_neg h]; exact ih
theorem s_ok_pre {G4 : Nat} : ∀ (j t k : Nat), s_okk G4 (t + j) k = true → s_okk G4 t (k / 9 ^ j) = true
  | 0, t, k, h => by rw [Nat.pow_zero, Nat.div_one]; exact h
  | j + 1, t, k, h => by
    have h : (s_okk G4 (t + j) (k / 9) && s_may G4 (k % 9)) = true := h
    rw [Bool.and_eq_true] at h
    have := s_ok_pre j t (k / 9) h.1
    rw [Nat.div_div_eq_div_mul] at this
    rw [Nat.pow_succ, Nat.mul_comm]; exact this
def s_en (F : Nat → Nat) (n t k : Nat) : Int32 := if s_okk (F 4) t k then nI (s_vl (n - t) (s_sk t) (s_gs F t k)) else -99
theorem s_vl_le (m : Nat) (st : Bool) (G : Nat → Nat) : s_vl m st G ≤ 8 := s_la_le m st _ _
theorem s_sk_s (t : Nat) : s_sk (t + 1) = !s_sk t := by
  show decide ((t + 1) % 2 = 0) = !decide (t % 2 = 0)
  rcases Nat.mod_two_eq_zero_or_one t with h | h
  · rw [decide_eq_true h, decide_eq_false (show ¬ (t + 1) % 2 = 0 by omega)]; rfl
  · rw [decide_eq_false (show ¬ t % 2 = 0 by omega), decide_eq_true (show (t + 1) % 2 = 0 by omega)]; rfl
theorem s_bf_cg {most : Bool} {v v' : Nat → Nat} {ok ok' : Nat → Bool} : ∀ {n : Nat}, (∀ i, i < n → v i = v' i ∧ ok i = ok' i) → s_bf most v ok n = s_bf most v' ok' n
  | 0, _ => rfl
  | n + 1, h => by rw [s_bf, s_bf, s_bf_cg (n := n) (fun i hi => h i (by omega)), (h n (by omega)).1, (h n (by omega)).2]
theorem s_bf_no {most : Bool} {v : Nat → Nat} {ok : Nat → Bool} : ∀ {n : Nat}, (∀ i, i < n → ok i = false) → s_bf most v ok n = (0, 0)
  | 0, _ => rfl
  | n + 1, h => by rw [s_bf, if_neg (fun z => by rw [h n (by omega)] at z; exact absurd z.1 (by decide)), s_bf_no (n := n) (fun i hi => h i (by omega))]
theorem s_en_at (F : Nat → Nat) (t k : Nat) {j : Nat} (hj : j < 9) : s_gs F (t + 1) (9 * k + j) = s_nxt (s_gs F t k) (s_sk t) j ∧ s_okk (F 4) (t + 1) (9 * k + j) = (s_okk (F 4) t k && s_may (F 4) j) := by
  have e1 : (9 * k + j) / 9 = k := by omega
  have e2 : (9 * k + j) % 9 = j := by omega
  constructor
  · show s_nxt (s_gs F t ((9 * k + j) / 9)) (s_sk t) ((9 * k + j) % 9) = _
    rw [e1, e2]
  · show (s_okk (F 4) t ((9 * k + j) / 9) && s_may (F 4) ((9 * k + j) % 9)) = _
    rw [e1, e2]
abbrev s_ev (F : Nat → Nat) (n t k j : Nat) : Nat := s_vl (n - (t + 1)) (s_sk (t + 1)) (s_gs F (t + 1) (9 * k + j))
abbrev s_eo (F : Nat → Nat) (t k j : Nat) : Bool := s_okk (F 4) (t + 1) (9 * k + j)
theorem s_en_fold {F : Nat → Nat} (hW : f_W F) {n t : Nat} (ht : t < n) (k : Nat) : (if (s_bf (!s_sk t) (s_ev F n t k) (s_eo F t k) 9).1 = 0 then (-99 : Int32) else nI (s_bf (!s_sk t) (s_ev F n t k) (s_eo F t k) 9).2) = s_en F n t k := by
  have hG := s_gs_W hW t k
  have h4 : s_gs F t k 4 = F 4 := s_gs_o (by omega) t k
  unfold s_en
  cases hok : s_okk (F 4) t k
  · rw [s_bf_no (fun i hi => by show s_okk (F 4) (t + 1) (9 * k + i) = false; rw [(s_en_at F t k hi).2, hok]; rfl)]; rfl
  · have em : n - t = n - (t + 1) + 1 := by omega
    rw [s_bf_cg (v' := fun j => s_vl (n - (t + 1)) (!s_sk t) (s_nxt (s_gs F t k) (s_sk t) j)) (ok' := s_may (s_gs F t k 4)) (fun i hi => ⟨by show s_vl _ _ (s_gs F (t + 1) (9 * k + i)) = _; rw [(s_en_at F t k hi).1, s_sk_s], by show s_okk (F 4) (t + 1) (9 * k + i) = _; rw [(s_en_at F t k hi).2, hok, h4, Bool.true_and]⟩), if_pos rfl, em]
    cases s_sk t
    · obtain ⟨a, b⟩ := s_foldF hG (n - (t + 1))
      show (if (s_bf true (fun j => s_vl (n - (t + 1)) true (s_nxt (s_gs F t k) false j)) (s_may (s_gs F t k 4)) 9).1 = 0 then (-99 : Int32) else nI (s_bf true (fun j => s_vl (n - (t + 1)) true (s_nxt (s_gs F t k) false j)) (s_may (s_gs F t k 4)) 9).2) = _
      rw [if_neg a, b]
    · obtain ⟨j, _, _, b, _⟩ := s_foldT hG (n - (t + 1))
      show (if (s_bf false (fun j => s_vl (n - (t + 1)) false (s_nxt (s_gs F t k) true j)) (s_may (s_gs F t k 4)) 9).1 = 0 then (-99 : Int32) else nI (s_bf false (fun j => s_vl (n - (t + 1)) false (s_nxt (s_gs F t k) true j)) (s_may (s_gs F t k 4)) 9).2) = _
      rw [b, if_neg (by show ¬ j + 1 = 0; omega)]
theorem s_en_root {F : Nat → Nat} (hW : f_W F) {n : Nat} (hn : 0 < n) : eI (s_bf false (s_ev F n 0 0) (s_eo F 0 0) 9).1 = (if n = 0 then -1 else if s_fz n (s_NO F) (s_WD F) (F 4) = 0 then 8 else nI (s_fz n (s_NO F) (s_WD F) (F 4) - 1)) := by
  have h8 : F 4 ≤ 8 := hW.1.2.2.2.2.1
  rw [s_bf_cg (v' := fun j => s_vl (n - 1) false (s_nxt F true j)) (ok' := s_may (F 4)) (fun i hi => ⟨by show s_vl _ _ (s_gs F (0 + 1) (9 * 0 + i)) = _; rw [(s_en_at F 0 0 hi).1]; rfl, by show s_okk (F 4) (0 + 1) (9 * 0 + i) = _; rw [(s_en_at F 0 0 hi).2]; rfl⟩)]
  obtain ⟨j, hj9, ho, b, hk, hf⟩ := s_foldT hW (n - 1)
  rw [show n - 1 + 1 = n by omega] at hk hf
  rw [b, if_neg (by omega)]
  show eI (j + 1) = _
  rw [eI_s]
  have hp : ∀ i, i < 8 → ((decide (s_la (n - 1) false (s_clr (s_NO F) i) (s_clr (s_WD F) i) = s_la n true (s_NO F) (s_WD F))) = true ↔ s_vl (n - 1) false (s_nxt F true i) = s_vl n true F) := fun i hi => by
    rw [s_vl_T hW _ hi]; exact ⟨fun h => of_decide_eq_true h, fun h => decide_eq_true h⟩
  have hno : ∀ i, i < j → i < F 4 → (fun g => decide (s_la (n - 1) false (s_clr (s_NO F) g) (s_clr (s_WD F) g) = s_la n true (s_NO F) (s_WD F))) i = false := fun i hi hi4 => by
    cases hq : (fun g => decide (s_la (n - 1) false (s_clr (s_NO F) g) (s_clr (s_WD F) g) = s_la n true (s_NO F) (s_WD F))) i
    · rfl
    · exact absurd ((hp i (by omega)).mp hq) (hf i hi (decide_eq_true (.inr hi4)))
  by_cases hj4 : j < F 4
  · have e : s_fz n (s_NO F) (s_WD F) (F 4) = j + 1 := by
      unfold s_fz
      exact s_fp_at (fun i hi => hno i hi (by omega)) ((hp j (by omega)).mpr hk) hj4
    rw [e, if_neg (by omega)]; rfl
  · have e8 : j = 8 := by
      rcases of_decide_eq_true ho with h | h
      · exact h
      · exact absurd h hj4
    have e : s_fz n (s_NO F) (s_WD F) (F 4) = 0 := by
      unfold s_fz
      exact s_fp_z (fun i hi => hno i (by omega) hi)
    rw [e, if_pos rfl, e8]; rfl
