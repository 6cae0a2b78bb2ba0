/-! turns: a fair after a turn -/
theorem s_tu_o {G : Nat → Nat} {g i : Nat} (hg : g < 8) (st : Bool) (h : i < 25 ∨ 89 ≤ i) : s_tu G g st i = G i := by
  cases st
  · exact s_tu_f (by omega) (by omega)
  · exact s_tu_t (by omega)
theorem s_tu_W {G : Nat → Nat} (hW : f_W G) {g : Nat} (hg : g < 8) (st : Bool) : f_W (s_tu G g st) := by
  have o := fun (i : Nat) (h : i < 25 ∨ 89 ≤ i) => s_tu_o (G := G) hg st h
  obtain ⟨⟨a0, a1, a2, a3, a4, a5, a6⟩, b, c, d, e, t⟩ := hW
  refine ⟨?_, fun m hm => ?_, fun q hq => ?_, fun i hi => ?_, fun q hq => ?_, fun q hq => ?_⟩
  · rw [o 0 (by omega), o 1 (by omega), o 2 (by omega), o 3 (by omega), o 4 (by omega), o 5 (by omega), o 6 (by omega)]
    exact ⟨a0, a1, a2, a3, a4, a5, a6⟩
  · rw [o 3 (by omega)] at hm
    rw [o (7 + m) (by omega), o (13 + m) (by omega), o (19 + m) (by omega)]; exact b m hm
  · rw [o 4 (by omega)] at hq
    have h1 := c q hq
    cases st
    · show (if 25 + q = 25 + g then G 0 else if 25 + q = 33 + g then G 1 else G (25 + q)) ≤ 9 ∧ (if 33 + q = 25 + g then G 0 else if 33 + q = 33 + g then G 1 else G (33 + q)) ≤ 9
      constructor <;> (split <;> first | omega | (split <;> omega))
    · rw [s_tu_t (by omega), s_tu_t (by omega)]; exact h1
  · have h1 := d i hi
    cases st
    · rw [s_tu_f (by omega) (by omega)]; exact h1
    · show (if 41 + 6 * g ≤ 41 + i ∧ 41 + i < 47 + 6 * g then 0 else G (41 + i)) ≤ 9
      split <;> omega
  · rw [o 5 (by omega)] at hq
    rw [o (89 + q) (by omega), o (95 + q) (by omega)]; exact e q hq
  · rw [o 6 (by omega)] at hq
    rw [o (101 + q) (by omega), o (107 + q) (by omega), o (113 + q) (by omega), o (119 + q) (by omega)]; exact t q hq
theorem s_tu_stoked {G : Nat → Nat} (hW : f_W G) {g : Nat} (hg : g < 8) (st : Nat → Bool) : s_off (s_tu G g true) st 0 g = false := by
  cases hq : s_off (s_tu G g true) st 0 g
  · rfl
  · exfalso
    obtain ⟨m, hm, _, _, h2⟩ := (s_off_iff _ _ _).mp hq
    have h6 := hW.1.2.2.2.1
    rw [s_tu_o hg true (by omega)] at hm
    have hb := hW.2.1 m hm
    rw [s_tu_o (i := 19 + m) hg true (by omega), s_tu_o (i := 7 + m) hg true (by omega)] at h2
    have h3 : s_tu G g true (41 + (6 * g + G (7 + m))) = 0 := by
      show (if 41 + 6 * g ≤ 41 + (6 * g + G (7 + m)) ∧ 41 + (6 * g + G (7 + m)) < 47 + 6 * g then 0 else _) = 0
      rw [if_pos (by omega)]
    omega
theorem s_tu_other {G : Nat → Nat} (hW : f_W G) {g q : Nat} (hg : g < 8) (hq8 : q < 8) (hne : q ≠ g) (b : Bool) (st : Nat → Bool) : s_off (s_tu G g b) st 0 q = s_off G st 0 q := by
  have h6 := hW.1.2.2.2.1
  have o := fun (i : Nat) (h : i < 25 ∨ 89 ≤ i) => s_tu_o (G := G) hg b h
  have ex : s_tu G g b (25 + q) = G (25 + q) := by
    cases b
    · exact s_tu_f (by omega) (by omega)
    · exact s_tu_t (by omega)
  have ey : s_tu G g b (33 + q) = G (33 + q) := by
    cases b
    · exact s_tu_f (by omega) (by omega)
    · exact s_tu_t (by omega)
  have ef : s_farO (s_tu G g b) q = s_farO G q := by
    unfold s_farO s_farS
    rw [ex, ey, o 0 (by omega), o 1 (by omega)]
  rw [Bool.eq_iff_iff, s_off_iff, s_off_iff, o 3 (by omega)]
  have hh : ∀ m, m < G 3 → (s_hit (s_tu G g b) q m ↔ s_hit G q m) := fun m hm => by
    have hb := hW.2.1 m hm
    unfold s_hit
    have ew : s_tu G g b (41 + (6 * q + G (7 + m))) = G (41 + (6 * q + G (7 + m))) := by
      cases b
      · exact s_tu_f (by omega) (by omega)
      · exact s_tu_t (by omega)
    rw [ef, o (13 + m) (by omega), o (19 + m) (by omega), o (7 + m) (by omega), ew]
  exact ⟨fun ⟨m, h1, h2, h3⟩ => ⟨m, h1, h2, (hh m h1).mp h3⟩, fun ⟨m, h1, h2, h3⟩ => ⟨m, h1, h2, (hh m h1).mpr h3⟩⟩
theorem s_tu_moved {G : Nat → Nat} (hW : f_W G) {g : Nat} (hg : g < 8) (st : Nat → Bool) : s_off (s_tu G g false) st 0 g = decide (0 < s_ear G st 0 g (G 3)) := by
  have h6 := hW.1.2.2.2.1
  have ex : s_tu G g false (25 + g) = G 0 := by
    show (if 25 + g = 25 + g then G 0 else _) = G 0
    rw [if_pos rfl]
  have ey : s_tu G g false (33 + g) = G 1 := by
    show (if 33 + g = 25 + g then G 0 else if 33 + g = 33 + g then G 1 else _) = G 1
    rw [if_neg (by omega), if_pos rfl]
  have ef : s_farO (s_tu G g false) g = 0 := by
    unfold s_farO s_farS
    rw [ex, ey, s_tu_o hg false (by omega), s_tu_o hg false (by omega), if_neg (Nat.lt_irrefl _), if_neg (Nat.lt_irrefl _), Nat.sub_self, Nat.sub_self]
  unfold s_off
  rw [ef, s_tu_o (i := 3) hg false (by omega), s_ear_cg (fun i hi => s_tu_f (by omega) (by omega)) st 0 g (G 3) h6]
