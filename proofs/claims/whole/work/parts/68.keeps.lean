/-! texts: what is kept is well formed; DAYS and LOGS -/
theorem s_kpW1 {G v : Nat → Nat} (hW : f_W G) (hc : G 4 < 8) (hr : s_rgl 1 v) : f_W (s_kp 1 v G) := by
  show f_W (s_up (s_rw G 25 8 (G 4) v 2) 4 (G 4 + 1))
  have r0 : 0 ≤ v 0 ∧ v 0 ≤ 9 := hr 0 (by decide)
  have r1 : 0 ≤ v 1 ∧ v 1 ≤ 9 := hr 1 (by decide)
  have ec : (s_up (s_rw G 25 8 (G 4) v 2) 4 (G 4 + 1)) 4 = G 4 + 1 := by rw [s_up, if_pos rfl]
  have en : ∀ x, x ≠ 4 → (∀ i, i < 2 → x ≠ 25 + 8 * i + G 4) → (s_up (s_rw G 25 8 (G 4) v 2) 4 (G 4 + 1)) x = G x := fun x h1 h2 => by rw [s_up, if_neg h1]; exact s_rw_ne h2
  have ea0 : (s_up (s_rw G 25 8 (G 4) v 2) 4 (G 4 + 1)) (25 + G 4) = v 0 := by rw [s_up, if_neg (by omega)]; exact s_rw_at (b := 25) (st := 8) (k := G 4) (j := 0) (n := 2) (by decide) (by decide)
  have ea1 : (s_up (s_rw G 25 8 (G 4) v 2) 4 (G 4 + 1)) (33 + G 4) = v 1 := by rw [s_up, if_neg (by omega)]; exact s_rw_at (b := 25) (st := 8) (k := G 4) (j := 1) (n := 2) (by decide) (by decide)
  obtain ⟨⟨w0, w1, w2, w3, w4, w5, w6⟩, a, b, c, e, t⟩ := hW
  refine ⟨?_, fun m hm => ?_, fun m hm => ?_, fun i hi => ?_, fun m hm => ?_, fun m hm => ?_⟩
  · rw [en 0 (by decide) (fun i hi => by omega), en 1 (by decide) (fun i hi => by omega), en 2 (by decide) (fun i hi => by omega), en 3 (by decide) (fun i hi => by omega), ec, en 5 (by decide) (fun i hi => by omega), en 6 (by decide) (fun i hi => by omega)]
    exact ⟨by omega, by omega, by omega, by omega, by omega, by omega, by omega⟩
  · rw [en 3 (by decide) (fun i hi => by omega)] at hm
    rw [en (7 + m) (by omega) (fun i hi => by omega), en (13 + m) (by omega) (fun i hi => by omega), en (19 + m) (by omega) (fun i hi => by omega)]; exact a m hm
  · rw [ec] at hm
    by_cases he : m = G 4
    · rw [he, ea0, ea1]; omega
    · rw [en (25 + m) (by omega) (fun i hi => by omega), en (33 + m) (by omega) (fun i hi => by omega)]; exact b m (by omega)
  · rw [en (41 + i) (by omega) (fun j hj => by omega)]; exact c i hi
  · rw [en 5 (by decide) (fun i hi => by omega)] at hm
    rw [en (89 + m) (by omega) (fun i hi => by omega), en (95 + m) (by omega) (fun i hi => by omega)]; exact e m hm
  · rw [en 6 (by decide) (fun i hi => by omega)] at hm
    rw [en (101 + m) (by omega) (fun i hi => by omega), en (107 + m) (by omega) (fun i hi => by omega), en (113 + m) (by omega) (fun i hi => by omega), en (119 + m) (by omega) (fun i hi => by omega)]; exact t m hm
theorem s_kpW3 {G v : Nat → Nat} (hW : f_W G) (hc : G 3 < 6) (hr : s_rgl 3 v) : f_W (s_kp 3 v G) := by
  show f_W (s_up (s_rw G 7 6 (G 3) v 3) 3 (G 3 + 1))
  have r0 : 0 ≤ v 0 ∧ v 0 ≤ 5 := hr 0 (by decide)
  have r1 : 0 ≤ v 1 ∧ v 1 ≤ 18 := hr 1 (by decide)
  have r2 : 1 ≤ v 2 ∧ v 2 ≤ 9 := hr 2 (by decide)
  have ec : (s_up (s_rw G 7 6 (G 3) v 3) 3 (G 3 + 1)) 3 = G 3 + 1 := by rw [s_up, if_pos rfl]
  have en : ∀ x, x ≠ 3 → (∀ i, i < 3 → x ≠ 7 + 6 * i + G 3) → (s_up (s_rw G 7 6 (G 3) v 3) 3 (G 3 + 1)) x = G x := fun x h1 h2 => by rw [s_up, if_neg h1]; exact s_rw_ne h2
  have ea0 : (s_up (s_rw G 7 6 (G 3) v 3) 3 (G 3 + 1)) (7 + G 3) = v 0 := by rw [s_up, if_neg (by omega)]; exact s_rw_at (b := 7) (st := 6) (k := G 3) (j := 0) (n := 3) (by decide) (by decide)
  have ea1 : (s_up (s_rw G 7 6 (G 3) v 3) 3 (G 3 + 1)) (13 + G 3) = v 1 := by rw [s_up, if_neg (by omega)]; exact s_rw_at (b := 7) (st := 6) (k := G 3) (j := 1) (n := 3) (by decide) (by decide)
  have ea2 : (s_up (s_rw G 7 6 (G 3) v 3) 3 (G 3 + 1)) (19 + G 3) = v 2 := by rw [s_up, if_neg (by omega)]; exact s_rw_at (b := 7) (st := 6) (k := G 3) (j := 2) (n := 3) (by decide) (by decide)
  obtain ⟨⟨w0, w1, w2, w3, w4, w5, w6⟩, a, b, c, e, t⟩ := hW
  refine ⟨?_, fun m hm => ?_, fun m hm => ?_, fun i hi => ?_, fun m hm => ?_, fun m hm => ?_⟩
  · rw [en 0 (by decide) (fun i hi => by omega), en 1 (by decide) (fun i hi => by omega), en 2 (by decide) (fun i hi => by omega), ec, en 4 (by decide) (fun i hi => by omega), en 5 (by decide) (fun i hi => by omega), en 6 (by decide) (fun i hi => by omega)]
    exact ⟨by omega, by omega, by omega, by omega, by omega, by omega, by omega⟩
  · rw [ec] at hm
    by_cases he : m = G 3
    · rw [he, ea0, ea1, ea2]; omega
    · rw [en (7 + m) (by omega) (fun i hi => by omega), en (13 + m) (by omega) (fun i hi => by omega), en (19 + m) (by omega) (fun i hi => by omega)]; exact a m (by omega)
  · rw [en 4 (by decide) (fun i hi => by omega)] at hm
    rw [en (25 + m) (by omega) (fun i hi => by omega), en (33 + m) (by omega) (fun i hi => by omega)]; exact b m hm
  · rw [en (41 + i) (by omega) (fun j hj => by omega)]; exact c i hi
  · rw [en 5 (by decide) (fun i hi => by omega)] at hm
    rw [en (89 + m) (by omega) (fun i hi => by omega), en (95 + m) (by omega) (fun i hi => by omega)]; exact e m hm
  · rw [en 6 (by decide) (fun i hi => by omega)] at hm
    rw [en (101 + m) (by omega) (fun i hi => by omega), en (107 + m) (by omega) (fun i hi => by omega), en (113 + m) (by omega) (fun i hi => by omega), en (119 + m) (by omega) (fun i hi => by omega)]; exact t m hm
theorem s_kpW5 {G v : Nat → Nat} (hW : f_W G) (hc : G 5 < 6) (hr : s_rgl 5 v) : f_W (s_kp 5 v G) := by
  show f_W (s_up (s_rw G 89 6 (G 5) v 2) 5 (G 5 + 1))
  have r0 : 1 ≤ v 0 ∧ v 0 ≤ 63 := hr 0 (by decide)
  have r1 : 0 ≤ v 1 ∧ v 1 ≤ 20 := hr 1 (by decide)
  have ec : (s_up (s_rw G 89 6 (G 5) v 2) 5 (G 5 + 1)) 5 = G 5 + 1 := by rw [s_up, if_pos rfl]
  have en : ∀ x, x ≠ 5 → (∀ i, i < 2 → x ≠ 89 + 6 * i + G 5) → (s_up (s_rw G 89 6 (G 5) v 2) 5 (G 5 + 1)) x = G x := fun x h1 h2 => by rw [s_up, if_neg h1]; exact s_rw_ne h2
  have ea0 : (s_up (s_rw G 89 6 (G 5) v 2) 5 (G 5 + 1)) (89 + G 5) = v 0 := by rw [s_up, if_neg (by omega)]; exact s_rw_at (b := 89) (st := 6) (k := G 5) (j := 0) (n := 2) (by decide) (by decide)
  have ea1 : (s_up (s_rw G 89 6 (G 5) v 2) 5 (G 5 + 1)) (95 + G 5) = v 1 := by rw [s_up, if_neg (by omega)]; exact s_rw_at (b := 89) (st := 6) (k := G 5) (j := 1) (n := 2) (by decide) (by decide)
  obtain ⟨⟨w0, w1, w2, w3, w4, w5, w6⟩, a, b, c, e, t⟩ := hW
  refine ⟨?_, fun m hm => ?_, fun m hm => ?_, fun i hi => ?_, fun m hm => ?_, fun m hm => ?_⟩
  · rw [en 0 (by decide) (fun i hi => by omega), en 1 (by decide) (fun i hi => by omega), en 2 (by decide) (fun i hi => by omega), en 3 (by decide) (fun i hi => by omega), en 4 (by decide) (fun i hi => by omega), ec, en 6 (by decide) (fun i hi => by omega)]
    exact ⟨by omega, by omega, by omega, by omega, by omega, by omega, by omega⟩
  · rw [en 3 (by decide) (fun i hi => by omega)] at hm
    rw [en (7 + m) (by omega) (fun i hi => by omega), en (13 + m) (by omega) (fun i hi => by omega), en (19 + m) (by omega) (fun i hi => by omega)]; exact a m hm
  · rw [en 4 (by decide) (fun i hi => by omega)] at hm
    rw [en (25 + m) (by omega) (fun i hi => by omega), en (33 + m) (by omega) (fun i hi => by omega)]; exact b m hm
  · rw [en (41 + i) (by omega) (fun j hj => by omega)]; exact c i hi
  · rw [ec] at hm
    by_cases he : m = G 5
    · rw [he, ea0, ea1]; omega
    · rw [en (89 + m) (by omega) (fun i hi => by omega), en (95 + m) (by omega) (fun i hi => by omega)]; exact e m (by omega)
  · rw [en 6 (by decide) (fun i hi => by omega)] at hm
    rw [en (101 + m) (by omega) (fun i hi => by omega), en (107 + m) (by omega) (fun i hi => by omega), en (113 + m) (by omega) (fun i hi => by omega), en (119 + m) (by omega) (fun i hi => by omega)]; exact t m hm
theorem s_kpW6 {G v : Nat → Nat} (hW : f_W G) (hc : G 6 < 6) (hr : s_rgl 6 v) : f_W (s_kp 6 v G) := by
  show f_W (s_up (s_rw G 101 6 (G 6) v 4) 6 (G 6 + 1))
  have r0 : 0 ≤ v 0 ∧ v 0 ≤ 9 := hr 0 (by decide)
  have r1 : 0 ≤ v 1 ∧ v 1 ≤ 9 := hr 1 (by decide)
  have r2 : 0 ≤ v 2 ∧ v 2 ≤ 30 := hr 2 (by decide)
  have r3 : 0 ≤ v 3 ∧ v 3 ≤ 10 := hr 3 (by decide)
  have ec : (s_up (s_rw G 101 6 (G 6) v 4) 6 (G 6 + 1)) 6 = G 6 + 1 := by rw [s_up, if_pos rfl]
  have en : ∀ x, x ≠ 6 → (∀ i, i < 4 → x ≠ 101 + 6 * i + G 6) → (s_up (s_rw G 101 6 (G 6) v 4) 6 (G 6 + 1)) x = G x := fun x h1 h2 => by rw [s_up, if_neg h1]; exact s_rw_ne h2
  have ea0 : (s_up (s_rw G 101 6 (G 6) v 4) 6 (G 6 + 1)) (101 + G 6) = v 0 := by rw [s_up, if_neg (by omega)]; exact s_rw_at (b := 101) (st := 6) (k := G 6) (j := 0) (n := 4) (by decide) (by decide)
  have ea1 : (s_up (s_rw G 101 6 (G 6) v 4) 6 (G 6 + 1)) (107 + G 6) = v 1 := by rw [s_up, if_neg (by omega)]; exact s_rw_at (b := 101) (st := 6) (k := G 6) (j := 1) (n := 4) (by decide) (by decide)
  have ea2 : (s_up (s_rw G 101 6 (G 6) v 4) 6 (G 6 + 1)) (113 + G 6) = v 2 := by rw [s_up, if_neg (by omega)]; exact s_rw_at (b := 101) (st := 6) (k := G 6) (j := 2) (n := 4) (by decide) (by decide)
  have ea3 : (s_up (s_rw G 101 6 (G 6) v 4) 6 (G 6 + 1)) (119 + G 6) = v 3 := by rw [s_up, if_neg (by omega)]; exact s_rw_at (b := 101) (st := 6) (k := G 6) (j := 3) (n := 4) (by decide) (by decide)
  obtain ⟨⟨w0, w1, w2, w3, w4, w5, w6⟩, a, b, c, e, t⟩ := hW
  refine ⟨?_, fun m hm => ?_, fun m hm => ?_, fun i hi => ?_, fun m hm => ?_, fun m hm => ?_⟩
  · rw [en 0 (by decide) (fun i hi => by omega), en 1 (by decide) (fun i hi => by omega), en 2 (by decide) (fun i hi => by omega), en 3 (by decide) (fun i hi => by omega), en 4 (by decide) (fun i hi => by omega), en 5 (by decide) (fun i hi => by omega), ec]
    exact ⟨by omega, by omega, by omega, by omega, by omega, by omega, by omega⟩
  · rw [en 3 (by decide) (fun i hi => by omega)] at hm
    rw [en (7 + m) (by omega) (fun i hi => by omega), en (13 + m) (by omega) (fun i hi => by omega), en (19 + m) (by omega) (fun i hi => by omega)]; exact a m hm
  · rw [en 4 (by decide) (fun i hi => by omega)] at hm
    rw [en (25 + m) (by omega) (fun i hi => by omega), en (33 + m) (by omega) (fun i hi => by omega)]; exact b m hm
  · rw [en (41 + i) (by omega) (fun j hj => by omega)]; exact c i hi
  · rw [en 5 (by decide) (fun i hi => by omega)] at hm
    rw [en (89 + m) (by omega) (fun i hi => by omega), en (95 + m) (by omega) (fun i hi => by omega)]; exact e m hm
  · rw [ec] at hm
    by_cases he : m = G 6
    · rw [he, ea0, ea1, ea2, ea3]; omega
    · rw [en (101 + m) (by omega) (fun i hi => by omega), en (107 + m) (by omega) (fun i hi => by omega), en (113 + m) (by omega) (fun i hi => by omega), en (119 + m) (by omega) (fun i hi => by omega)]; exact t m (by omega)
theorem s_kpW0 {G v : Nat → Nat} (hW : f_W G) (hr : s_rgl 0 v) : f_W (s_kp 0 v G) := by
  have r0 : v 0 ≤ 9 := (hr 0 (by decide)).2
  have r1 : v 1 ≤ 9 := (hr 1 (by decide)).2
  have en : ∀ x, 2 ≤ x → s_kp 0 v G x = G x := fun x hx => s_rw_ne (b := 0) (st := 1) (k := 0) (n := 2) (fun i hi => by omega)
  have e0 : s_kp 0 v G 0 = v 0 := s_rw_at (G := G) (b := 0) (st := 1) (k := 0) (v := v) (j := 0) (n := 2) (by decide) (by decide)
  have e1 : s_kp 0 v G 1 = v 1 := s_rw_at (G := G) (b := 0) (st := 1) (k := 0) (v := v) (j := 1) (n := 2) (by decide) (by decide)
  obtain ⟨⟨w0, w1, w2, w3, w4, w5, w6⟩, a, b, c, e, t⟩ := hW
  unfold f_W
  rw [e0, e1, en 2 (by decide), en 3 (by decide), en 4 (by decide), en 5 (by decide), en 6 (by decide)]
  refine ⟨⟨r0, r1, w2, w3, w4, w5, w6⟩, fun m hm => ?_, fun m hm => ?_, fun i hi => ?_, fun m hm => ?_, fun m hm => ?_⟩
  · rw [en (7 + m) (by omega), en (13 + m) (by omega), en (19 + m) (by omega)]; exact a m hm
  · rw [en (25 + m) (by omega), en (33 + m) (by omega)]; exact b m hm
  · rw [en (41 + i) (by omega)]; exact c i hi
  · rw [en (89 + m) (by omega), en (95 + m) (by omega)]; exact e m hm
  · rw [en (101 + m) (by omega), en (107 + m) (by omega), en (113 + m) (by omega), en (119 + m) (by omega)]; exact t m hm
theorem s_kpW2 {G v : Nat → Nat} (hW : f_W G) (hr : s_rgl 2 v) : f_W (s_kp 2 v G) := by
  have r0 : v 0 ≤ 9 := (hr 0 (by decide)).2
  have en : ∀ x, x ≠ 2 → s_kp 2 v G x = G x := fun x hx => s_rw_ne (b := 2) (st := 1) (k := 0) (n := 1) (fun i hi => by omega)
  have e0 : s_kp 2 v G 2 = v 0 := s_rw_at (G := G) (b := 2) (st := 1) (k := 0) (v := v) (j := 0) (n := 1) (by decide) (by decide)
  obtain ⟨⟨w0, w1, w2, w3, w4, w5, w6⟩, a, b, c, e, t⟩ := hW
  unfold f_W
  rw [e0, en 0 (by decide), en 1 (by decide), en 3 (by decide), en 4 (by decide), en 5 (by decide), en 6 (by decide)]
  refine ⟨⟨w0, w1, r0, w3, w4, w5, w6⟩, fun m hm => ?_, fun m hm => ?_, fun i hi => ?_, fun m hm => ?_, fun m hm => ?_⟩
  · rw [en (7 + m) (by omega), en (13 + m) (by omega), en (19 + m) (by omega)]; exact a m hm
  · rw [en (25 + m) (by omega), en (33 + m) (by omega)]; exact b m hm
  · rw [en (41 + i) (by omega)]; exact c i hi
  · rw [en (89 + m) (by omega), en (95 + m) (by omega)]; exact e m hm
  · rw [en (101 + m) (by omega), en (107 + m) (by omega), en (113 + m) (by omega), en (119 + m) (by omega)]; exact t m hm
theorem s_kpW4 {G v : Nat → Nat} (hW : f_W G) (hr : s_rgl 4 v) : f_W (s_kp 4 v G) := by
  have r0 : v 0 ≤ 7 := (hr 0 (by decide)).2
  have r1 : v 1 ≤ 5 := (hr 1 (by decide)).2
  have r2 : v 2 ≤ 9 := (hr 2 (by decide)).2
  exact s_up_W (j := 6 * v 0 + v 1) hW (by omega) r2
/-- the numbers of a DEED's line -/
def s_dxl (k : Nat) (v : Nat → Nat) (i : Nat) : Nat := if i = 0 then k - 7 + 1 else if i - 1 < s_gv k then v (i - 1) + 1 else 0
theorem s_kp_d {k : Nat} (h1 : 7 ≤ k) (h2 : k ≤ 12) (v G : Nat → Nat) : s_kp k v G = s_up (s_rw G 1 1 (4 * G 0) (s_dxl k v) 4) 0 (G 0 + 1) := by
  unfold s_kp
  rw [if_neg (by omega), if_neg (by omega), if_neg (by omega), if_neg (by omega), if_neg (by omega), if_neg (by omega), if_neg (by omega), if_pos h2]
  rfl
theorem s_kp_l {k : Nat} (h1 : k = 14 ∨ k = 15) (v G : Nat → Nat) : s_kp k v G = s_up (s_rw G 2 1 (2 * G 1) (fun i => if i = 0 then (if k = 14 then 1 else 0) else v 0) 2) 1 (G 1 + 1) := by
  unfold s_kp
  rw [if_neg (by omega), if_neg (by omega), if_neg (by omega), if_neg (by omega), if_neg (by omega), if_neg (by omega), if_neg (by omega), if_neg (by omega), if_neg (by omega)]
theorem s_kp_d_at {k : Nat} (h1 : 7 ≤ k) (h2 : k ≤ 12) (v G : Nat → Nat) : s_kp k v G 0 = G 0 + 1 ∧ (∀ j, j < 4 → s_kp k v G (1 + 4 * G 0 + j) = s_dxl k v j) ∧ ∀ x, x ≠ 0 → x < 1 + 4 * G 0 ∨ 5 + 4 * G 0 ≤ x → s_kp k v G x = G x := by
  rw [s_kp_d h1 h2]
  refine ⟨s_up_s, fun j hj => ?_, fun x hx h => ?_⟩
  · rw [s_up_n (by omega), show 1 + 4 * G 0 + j = 1 + 1 * j + 4 * G 0 by omega]; exact s_rw_at (by decide) hj
  · rw [s_up_n hx]; exact s_rw_ne (fun i hi => by omega)
theorem s_kp_l_at {k : Nat} (h : k = 14 ∨ k = 15) (v G : Nat → Nat) : s_kp k v G 1 = G 1 + 1 ∧ s_kp k v G (2 + 2 * G 1) = (if k = 14 then 1 else 0) ∧ s_kp k v G (3 + 2 * G 1) = v 0 ∧ ∀ x, x ≠ 1 → x < 2 + 2 * G 1 ∨ 4 + 2 * G 1 ≤ x → s_kp k v G x = G x := by
  rw [s_kp_l h]
  refine ⟨s_up_s, ?_, ?_, fun x hx hh => ?_⟩
  · rw [s_up_n (by omega)]
    exact s_rw_at (G := G) (b := 2) (st := 1) (k := 2 * G 1) (v := fun i => if i = 0 then (if k = 14 then 1 else 0) else v 0) (j := 0) (n := 2) (by decide) (by decide)
  · rw [s_up_n (by omega)]
    exact s_rw_at (G := G) (b := 2) (st := 1) (k := 2 * G 1) (v := fun i => if i = 0 then (if k = 14 then 1 else 0) else v 0) (j := 1) (n := 2) (by decide) (by decide)
  · rw [s_up_n hx]; exact s_rw_ne (fun i hi => by omega)
theorem s_kpWl {k : Nat} {G v : Nat → Nat} (hW : gl_W G) (h : k = 14 ∨ k = 15) (hc : G 1 < 8) (hr : v 0 ≤ 63) : gl_W (s_kp k v G) := by
  obtain ⟨e1, e2, e3, en⟩ := s_kp_l_at h v G
  obtain ⟨a, b, c⟩ := hW
  refine ⟨by rw [en 0 (by decide) (by omega)]; exact a, by omega, fun j hj => ?_⟩
  rw [e1] at hj
  by_cases he : j = G 1
  · rw [he, e2, e3]; exact ⟨by split <;> omega, hr⟩
  · rw [en (2 + 2 * j) (by omega) (by omega), en (3 + 2 * j) (by omega) (by omega)]; exact c j (by omega)
theorem s_kpW13 {G v : Nat → Nat} (hW : gl_W G) (hr : v 0 ≤ 8) : gl_W (s_kp 13 v G) := by
  have e0 : s_kp 13 v G 0 = v 0 := s_rw_at (G := G) (b := 0) (st := 1) (k := 0) (v := v) (j := 0) (n := 1) (by decide) (by decide)
  have en : ∀ x, x ≠ 0 → s_kp 13 v G x = G x := fun x hx => s_rw_ne (b := 0) (st := 1) (k := 0) (n := 1) (fun i hi => by omega)
  obtain ⟨a, b, c⟩ := hW
  refine ⟨by rw [e0]; exact hr, by rw [en 1 (by decide)]; exact b, fun j hj => ?_⟩
  rw [en 1 (by decide)] at hj
  rw [en _ (by omega), en _ (by omega)]; exact c j hj
theorem s_dxl_e (k : Nat) (v : Nat → Nat) : eI (s_dxl k v 0) = nI (k - 7) ∧ ∀ j, j < 3 → eI (s_dxl k v (1 + j)) = (if j < s_gv k then nI (v j) else -1) := by
  refine ⟨eI_s _, fun j hj => ?_⟩
  unfold s_dxl
  rw [if_neg (by omega), show 1 + j - 1 = j by omega]
  by_cases h : j < s_gv k
  · rw [if_pos h, if_pos h]; exact eI_s _
  · rw [if_neg h, if_neg h]; exact eI_0
theorem s_kpWd {k : Nat} {G v : Nat → Nat} (hW : gd_W G) (h1 : 7 ≤ k) (h2 : k ≤ 12) (hc : G 0 < 40) (hr : s_rgl k v) : gd_W (s_kp k v G) := by
  obtain ⟨e0, ea, en⟩ := s_kp_d_at h1 h2 v G
  obtain ⟨a, b⟩ := hW
  refine ⟨by omega, fun j hj => ?_⟩
  rw [e0] at hj
  by_cases he : j = G 0
  · rw [he]
    have x0 : s_kp k v G (1 + 4 * G 0) = s_dxl k v 0 := ea 0 (by decide)
    have x1 : s_kp k v G (2 + 4 * G 0) = s_dxl k v 1 := by rw [show 2 + 4 * G 0 = 1 + 4 * G 0 + 1 by omega]; exact ea 1 (by decide)
    have x2 : s_kp k v G (3 + 4 * G 0) = s_dxl k v 2 := by rw [show 3 + 4 * G 0 = 1 + 4 * G 0 + 2 by omega]; exact ea 2 (by decide)
    have x3 : s_kp k v G (4 + 4 * G 0) = s_dxl k v 3 := by rw [show 4 + 4 * G 0 = 1 + 4 * G 0 + 3 by omega]; exact ea 3 (by decide)
    obtain ⟨y0, y⟩ := s_dxl_e k v
    have y1 := y 0 (by decide)
    have y2 := y 1 (by decide)
    have y3 := y 2 (by decide)
    have hk : k = 7 ∨ k = 8 ∨ k = 9 ∨ k = 10 ∨ k = 11 ∨ k = 12 := by omega
    rcases hk with rfl | rfl | rfl | rfl | rfl | rfl
    · refine ⟨0, 0, 0, 0, by decide, by omega, by omega, by omega, ?_, ?_, ?_⟩
      · show eI (s_kp 7 v G (1 + 4 * G 0)) = _; rw [x0, y0]
      · rw [if_pos (by decide)]; show eI (s_kp 7 v G (2 + 4 * G 0)) = _; rw [x1]; exact y1
      · rw [if_pos (by decide)]; exact ⟨by show eI (s_kp 7 v G (3 + 4 * G 0)) = _; rw [x2]; exact y2, by show eI (s_kp 7 v G (4 + 4 * G 0)) = _; rw [x3]; exact y3⟩
    · refine ⟨1, 0, 0, 0, by decide, by omega, by omega, by omega, ?_, ?_, ?_⟩
      · show eI (s_kp 8 v G (1 + 4 * G 0)) = _; rw [x0, y0]
      · rw [if_pos (by decide)]; show eI (s_kp 8 v G (2 + 4 * G 0)) = _; rw [x1]; exact y1
      · rw [if_pos (by decide)]; exact ⟨by show eI (s_kp 8 v G (3 + 4 * G 0)) = _; rw [x2]; exact y2, by show eI (s_kp 8 v G (4 + 4 * G 0)) = _; rw [x3]; exact y3⟩
    · have r0 : v 0 ≤ 7 := (hr 0 (by decide)).2
      refine ⟨2, v 0, 0, 0, by decide, by omega, by omega, by omega, ?_, ?_, ?_⟩
      · show eI (s_kp 9 v G (1 + 4 * G 0)) = _; rw [x0, y0]
      · rw [if_neg (by decide)]; show eI (s_kp 9 v G (2 + 4 * G 0)) = _; rw [x1]; exact y1
      · rw [if_pos (by decide)]; exact ⟨by show eI (s_kp 9 v G (3 + 4 * G 0)) = _; rw [x2]; exact y2, by show eI (s_kp 9 v G (4 + 4 * G 0)) = _; rw [x3]; exact y3⟩
    · have r0 : v 0 ≤ 7 := (hr 0 (by decide)).2
      have r1 : v 1 ≤ 9 := (hr 1 (by decide)).2
      have r2 : v 2 ≤ 9 := (hr 2 (by decide)).2
      refine ⟨3, v 0, v 1, v 2, by decide, by omega, by omega, by omega, ?_, ?_, ?_⟩
      · show eI (s_kp 10 v G (1 + 4 * G 0)) = _; rw [x0, y0]
      · rw [if_neg (by decide)]; show eI (s_kp 10 v G (2 + 4 * G 0)) = _; rw [x1]; exact y1
      · rw [if_neg (by decide)]; exact ⟨by show eI (s_kp 10 v G (3 + 4 * G 0)) = _; rw [x2]; exact y2, by show eI (s_kp 10 v G (4 + 4 * G 0)) = _; rw [x3]; exact y3, fun hs => by omega⟩
    · have r0 : v 0 ≤ 7 := (hr 0 (by decide)).2
      have r1 : v 1 ≤ 5 := (hr 1 (by decide)).2
      have r2 : (1 ≤ v 2 ∧ v 2 ≤ 9) := (hr 2 (by decide))
      refine ⟨4, v 0, v 1, v 2, by decide, by omega, by omega, by omega, ?_, ?_, ?_⟩
      · show eI (s_kp 11 v G (1 + 4 * G 0)) = _; rw [x0, y0]
      · rw [if_neg (by decide)]; show eI (s_kp 11 v G (2 + 4 * G 0)) = _; rw [x1]; exact y1
      · rw [if_neg (by decide)]; exact ⟨by show eI (s_kp 11 v G (3 + 4 * G 0)) = _; rw [x2]; exact y2, by show eI (s_kp 11 v G (4 + 4 * G 0)) = _; rw [x3]; exact y3, fun hs => by omega⟩
    · have r0 : v 0 ≤ 7 := (hr 0 (by decide)).2
      have r1 : v 1 ≤ 5 := (hr 1 (by decide)).2
      have r2 : (1 ≤ v 2 ∧ v 2 ≤ 9) := (hr 2 (by decide))
      refine ⟨5, v 0, v 1, v 2, by decide, by omega, by omega, by omega, ?_, ?_, ?_⟩
      · show eI (s_kp 12 v G (1 + 4 * G 0)) = _; rw [x0, y0]
      · rw [if_neg (by decide)]; show eI (s_kp 12 v G (2 + 4 * G 0)) = _; rw [x1]; exact y1
      · rw [if_neg (by decide)]; exact ⟨by show eI (s_kp 12 v G (3 + 4 * G 0)) = _; rw [x2]; exact y2, by show eI (s_kp 12 v G (4 + 4 * G 0)) = _; rw [x3]; exact y3, fun hs => by omega⟩
  · have x0 : s_kp k v G (1 + 4 * j) = G (1 + 4 * j) := en _ (by omega) (by omega)
    have x1 : s_kp k v G (2 + 4 * j) = G (2 + 4 * j) := en _ (by omega) (by omega)
    have x2 : s_kp k v G (3 + 4 * j) = G (3 + 4 * j) := en _ (by omega) (by omega)
    have x3 : s_kp k v G (4 + 4 * j) = G (4 + 4 * j) := en _ (by omega) (by omega)
    have h := b j (by omega)
    unfold i_dw at h ⊢
    simp only [x0, x1, x2, x3]
    exact h
/-- a line of a sort -/
def s_of (s k : Nat) : Prop := (s = 0 ∧ k < 7) ∨ (s = 1 ∧ 7 ≤ k ∧ k < 13) ∨ (s = 2 ∧ 13 ≤ k ∧ k < 16)
theorem s_kpW {s k : Nat} {G v : Nat → Nat} (h : s_of s k) (hW : g_W s G) (hf : s_fl k G = false) (hr : s_rgl k v) : g_W s (s_kp k v G) := by
  rcases h with ⟨rfl, hk⟩ | ⟨rfl, h1, h2⟩ | ⟨rfl, h1, h2⟩
  · have hk : k = 0 ∨ k = 1 ∨ k = 2 ∨ k = 3 ∨ k = 4 ∨ k = 5 ∨ k = 6 := by omega
    rcases hk with rfl | rfl | rfl | rfl | rfl | rfl | rfl
    · exact s_kpW0 hW hr
    · exact s_kpW1 hW (Nat.not_le.mp (of_decide_eq_false (p := 8 ≤ G 4) hf)) hr
    · exact s_kpW2 hW hr
    · exact s_kpW3 hW (Nat.not_le.mp (of_decide_eq_false (p := 6 ≤ G 3) hf)) hr
    · exact s_kpW4 hW hr
    · exact s_kpW5 hW (Nat.not_le.mp (of_decide_eq_false (p := 6 ≤ G 5) hf)) hr
    · exact s_kpW6 hW (Nat.not_le.mp (of_decide_eq_false (p := 6 ≤ G 6) hf)) hr
  · have hf : decide (40 ≤ G 0) = false := by
      unfold s_fl at hf
      rw [if_neg (by omega), if_neg (by omega), if_neg (by omega), if_neg (by omega), if_pos (by omega)] at hf
      exact hf
    exact s_kpWd hW h1 (by omega) (Nat.not_le.mp (of_decide_eq_false hf)) hr
  · have hk : k = 13 ∨ k = 14 ∨ k = 15 := by omega
    rcases hk with rfl | rfl | rfl
    · exact s_kpW13 hW (hr 0 (by decide)).2
    · exact s_kpWl hW (.inl rfl) (Nat.not_le.mp (of_decide_eq_false (p := 8 ≤ G 1) hf)) (hr 0 (by decide)).2
    · exact s_kpWl hW (.inr rfl) (Nat.not_le.mp (of_decide_eq_false (p := 8 ≤ G 1) hf)) (hr 0 (by decide)).2
theorem sh122 : x_shape[122]? = some (.inl (1, [none, some (some (.ref 123))])) := rfl
theorem sh123 : x_shape[123]? = some (.inr (.inl (0, 160))) := rfl
theorem sh124 : x_shape[124]? = some (.inl (4, [none, none, some (some (.ref 125)), some (some (.ref 126))])) := rfl
section KEEPS
variable (sc : Nat × (Nat → Int32)) (d : Nat) (μ : x_Me) (w : Int64)
set_option maxHeartbeats 2000000 in
theorem tX1_add (n k : Nat) (v : Nat → Nat) (hn : n < 40) (h7 : 7 ≤ k) (h12 : k ≤ 12) (e : μ 122 0 = nI n) (hv : ∀ i, i < s_gv k → μ 128 i = nI (v i)) (hg : s_gv k ≤ 3) : x_K sc (d + 1) mX1_add [.ref 122, .int (nI (k - 7)), .ref 128, .int (nI (s_gv k))] μ w (fun r μ' _ => r = none ∧ μ' 122 0 = nI (n + 1) ∧ (∀ j, j < 4 → μ' 123 (4 * n + j) = eI (s_dxl k v j)) ∧ (∀ i, i < 4 * n → μ' 123 i = μ 123 i) ∧ ∀ a, a ≠ 122 → a ≠ 123 → μ' a = μ a) := by
  have hix : (4 : Int32) * nI n = nI (4 * n) := by rw [show (4 : Int32) = nI 4 from rfl, pk_mul]
  obtain ⟨y0, y⟩ := s_dxl_e k v
  refine x_K.of (by decide) (Nat.le_of_ble_eq_true rfl) ?_
  show x_T sc (d + 1) mX1_add 0 [.ref 122, .int (nI (k - 7)), .ref 128, .int (nI (s_gv k)), .retAddr 0] [] μ w _
  refine xt_aload_n _ dX1_add_0 rfl ?_
  refine xt_geti dX1_add_1 kfX1_15 (by first | exact sh115 | exact sh122 | exact sh123 | exact sh124 | exact sh128 | rfl | assumption) rfl ?_
  refine xt_bipush (40) dX1_add_4 (by decide) ?_
  refine xt_icmp_lt 10 dX1_add_6 (by decide) (fun _ => ?_) (fun q => absurd (by rw [e]; exact nI_lt hn (by decide)) q)
  refine xt_aload_n _ dX1_add_10 rfl ?_
  refine xt_getr _ dX1_add_11 kfX1_9 (by first | exact sh115 | exact sh122 | exact sh123 | exact sh124 | exact sh128 | rfl | assumption) rfl ?_
  refine xt_iconst (4) dX1_add_14 (by decide) ?_
  refine xt_aload_n _ dX1_add_15 rfl ?_
  refine xt_geti dX1_add_16 kfX1_15 (by first | exact sh115 | exact sh122 | exact sh123 | exact sh124 | exact sh128 | rfl | assumption) rfl ?_
  refine xt_imul dX1_add_19 ?_
  refine xt_iload_n _ dX1_add_20 rfl ?_
  rw [e, hix]
  refine xt_cS0 _ dX1_add_21 klX1_31 (tX8_set sc _ _ _ sh123 (by decide) _ _) rfl rfl (Nat.le_of_ble_eq_true rfl) ?_
  rw [s_set_ix (by omega) (by decide)]
  refine xt_iconst (0) dX1_add_24 (by decide) ?_
  refine xt_istore dX1_add_25 (by decide) rfl ?_
  change x_T _ _ _ _ [_, _, _, _, _] _ _ _ _
  have L27 : ∀ (n27 m : Nat) (μ2 : x_Me) (h122 : μ2 122 0 = nI n) (hD : ∀ j, j < 1 + m → μ2 123 (4 * n + j) = eI (s_dxl k v j)) (hO : ∀ i, i < 4 * n → μ2 123 i = μ 123 i) (hf : ∀ a, a ≠ 123 → μ2 a = μ a), m + n27 = 3 → x_T sc (d + 1) mX1_add 27 [.ref 122, .int (nI (k - 7)), .ref 128, .int (nI (s_gv k)), .int (nI m)] [] μ2 w (fun r μ' _ => r = none ∧ μ' 122 0 = nI (n + 1) ∧ (∀ j, j < 4 → μ' 123 (4 * n + j) = eI (s_dxl k v j)) ∧ (∀ i, i < 4 * n → μ' 123 i = μ 123 i) ∧ ∀ a, a ≠ 122 → a ≠ 123 → μ' a = μ a) := by
    intro n27
    induction n27 with
    | zero =>
      intro m μ2 h122 hD hO hf hmn
      obtain rfl : 3 = m := by omega
      refine xt_iload _ dX1_add_27 rfl ?_
      refine xt_iconst (3) dX1_add_29 (by decide) ?_
      refine xt_icmp_ge 73 dX1_add_30 (by decide) (fun _ => ?_) (fun q => absurd (by decide) q)
      refine xt_aload_n _ dX1_add_73 rfl ?_
      refine xt_dup dX1_add_74 rfl ?_
      refine xt_geti dX1_add_75 kfX1_15 (by first | exact sh115 | exact sh122 | exact sh123 | exact sh124 | exact sh128 | rfl | assumption) rfl ?_
      refine xt_iconst (1) dX1_add_78 (by decide) ?_
      refine xt_iadd dX1_add_79 ?_
      refine xt_puti dX1_add_80 kpX1_15 (by first | exact sh115 | exact sh122 | exact sh123 | exact sh124 | exact sh128 | rfl | assumption) rfl (by first | rfl | assumption) (by first | rfl | assumption) ?_
      exact xt_ret dX1_add_83 rfl ⟨rfl, by rw [x_u_eq, pk_us, h122, nI_succ], fun j hj => by rw [x_u_ne (by decide)]; exact hD j (by omega), fun i hi => by rw [x_u_ne (by decide)]; exact hO i hi, fun a h1 h2 => by rw [x_u_ne h1]; exact hf a h2⟩
    | succ n27 ih27 =>
      intro m μ2 h122 hD hO hf hmn
      have hlt : m < 3 := by omega
      refine xt_iload _ dX1_add_27 rfl ?_
      refine xt_iconst (3) dX1_add_29 (by decide) ?_
      refine xt_icmp_ge 73 dX1_add_30 (by decide) (fun q => absurd q (nI_ge (b := 3) hlt (by decide))) (fun _ => ?_)
      refine xt_aload_n _ dX1_add_33 rfl ?_
      refine xt_getr _ dX1_add_34 kfX1_9 (by first | exact sh115 | exact sh122 | exact sh123 | exact sh124 | exact sh128 | rfl | assumption) rfl ?_
      refine xt_iconst (4) dX1_add_37 (by decide) ?_
      refine xt_aload_n _ dX1_add_38 rfl ?_
      refine xt_geti dX1_add_39 kfX1_15 (by first | exact sh115 | exact sh122 | exact sh123 | exact sh124 | exact sh128 | rfl | assumption) rfl ?_
      refine xt_imul dX1_add_42 ?_
      refine xt_iconst (1) dX1_add_43 (by decide) ?_
      refine xt_iadd dX1_add_44 ?_
      refine xt_iload _ dX1_add_45 rfl ?_
      refine xt_iadd dX1_add_47 ?_
      refine xt_iload _ dX1_add_48 rfl ?_
      refine xt_iload_n _ dX1_add_50 rfl ?_
      refine xt_icmp_ge 63 dX1_add_51 (by decide) (fun t51 => ?_) (fun f51 => ?_)
      · have n51 : s_gv k ≤ m := (nI_leI (a := s_gv k) (b := m) (by omega) (by omega)).mp t51
        have n51b : ¬ m < s_gv k := by omega
        refine xt_iconst (-1) dX1_add_63 (by decide) ?_
        rw [h122, hix, show nI (4 * n) + (1 : Int32) = nI (4 * n + 1) from nI_add _ 1, nI_add]
        refine xt_cS0 _ dX1_add_64 klX1_31 (tX8_set sc _ _ _ sh123 (by decide) _ _) rfl rfl (Nat.le_of_ble_eq_true rfl) ?_
        rw [s_set_ix (by omega) (by decide)]
        refine xt_inc _ (1) dX1_add_67 rfl (by decide) (by decide) rfl ?_
        change x_T _ _ _ _ [_, _, _, _, _] _ _ _ _
        refine xt_goto 27 dX1_add_70 (by decide) ?_
        refine x_T.ls (by rw [nI_succ m]) (ih27 (m + 1) _ (by rw [x_u_ne (by decide)]; exact h122) (fun j hj => ?_) (fun i hi => by rw [x_u_eq, pk_un (by omega)]; exact hO i hi) (fun a h => by rw [x_u_ne h]; exact hf a h) (by omega))
        rw [x_u_eq]
        by_cases he : j = 1 + m
        · rw [he, show 4 * n + 1 + m = 4 * n + (1 + m) by omega, pk_us, y m hlt, if_neg n51b]
        · rw [pk_un (by omega)]; exact hD j (by omega)
      · have n51 : ¬ (s_gv k ≤ m) := fun z => f51 ((nI_leI (a := s_gv k) (b := m) (by omega) (by omega)).mpr z)
        have n51 : m < s_gv k := by omega
        refine xt_aload_n _ dX1_add_54 rfl ?_
        refine xt_iload _ dX1_add_55 rfl ?_
        refine xt_cS _ dX1_add_57 klX1_25 (tX8_at sc _ _ _ sh128 (by decide) _) rfl rfl (Nat.le_of_ble_eq_true rfl) ?_
        rw [s_at_ix (j := m) (by omega) (by decide) rfl, hf 128 (by decide), hv m n51]
        refine xt_goto 64 dX1_add_60 (by decide) ?_
        rw [h122, hix, show nI (4 * n) + (1 : Int32) = nI (4 * n + 1) from nI_add _ 1, nI_add]
        refine xt_cS0 _ dX1_add_64 klX1_31 (tX8_set sc _ _ _ sh123 (by decide) _ _) rfl rfl (Nat.le_of_ble_eq_true rfl) ?_
        rw [s_set_ix (by omega) (by decide)]
        refine xt_inc _ (1) dX1_add_67 rfl (by decide) (by decide) rfl ?_
        change x_T _ _ _ _ [_, _, _, _, _] _ _ _ _
        refine xt_goto 27 dX1_add_70 (by decide) ?_
        refine x_T.ls (by rw [nI_succ m]) (ih27 (m + 1) _ (by rw [x_u_ne (by decide)]; exact h122) (fun j hj => ?_) (fun i hi => by rw [x_u_eq, pk_un (by omega)]; exact hO i hi) (fun a h => by rw [x_u_ne h]; exact hf a h) (by omega))
        rw [x_u_eq]
        by_cases he : j = 1 + m
        · rw [he, show 4 * n + 1 + m = 4 * n + (1 + m) by omega, pk_us, y m hlt, if_pos n51]
        · rw [pk_un (by omega)]; exact hD j (by omega)
  exact L27 3 0 _ (by rw [x_u_ne (by decide)]; exact e) (fun j hj => by rw [show j = 0 by omega, x_u_eq, Nat.add_zero, pk_us, y0]) (fun i hi => by rw [x_u_eq, pk_un (by omega)]) (fun a h => x_u_ne h) (by omega)
set_option maxHeartbeats 1000000 in
theorem tX4_add (n : Nat) (b x : Int32) (hn : n < 8) (e : μ 124 1 = nI n) : x_K sc (d + 1) mX4_add [.ref 124, .int b, .int x] μ w (fun r μ' _ => r = none ∧ μ' 124 0 = μ 124 0 ∧ μ' 124 1 = nI (n + 1) ∧ μ' 125 = upd (μ 125) n b ∧ μ' 126 = upd (μ 126) n x ∧ ∀ a, a ≠ 124 → a ≠ 125 → a ≠ 126 → μ' a = μ a) := by
  refine x_K.of (by decide) (Nat.le_of_ble_eq_true rfl) ?_
  show x_T sc (d + 1) mX4_add 0 [.ref 124, .int b, .int x] [] μ w _
  refine xt_aload_n _ dX4_add_0 rfl ?_
  refine xt_geti dX4_add_1 kfX4_22 (by first | exact sh115 | exact sh122 | exact sh123 | exact sh124 | exact sh128 | rfl | assumption) rfl ?_
  refine xt_bipush (8) dX4_add_4 (by decide) ?_
  refine xt_icmp_ge 43 dX4_add_6 (by decide) (fun q => absurd q (by rw [e]; exact nI_ge hn (by decide))) (fun _ => ?_)
  refine xt_aload_n _ dX4_add_9 rfl ?_
  refine xt_getr _ dX4_add_10 kfX4_9 (by first | exact sh115 | exact sh122 | exact sh123 | exact sh124 | exact sh128 | rfl | assumption) rfl ?_
  refine xt_aload_n _ dX4_add_13 rfl ?_
  refine xt_geti dX4_add_14 kfX4_22 (by first | exact sh115 | exact sh122 | exact sh123 | exact sh124 | exact sh128 | rfl | assumption) rfl ?_
  refine xt_iload_n _ dX4_add_17 rfl ?_
  rw [e]
  refine xt_cS0 _ dX4_add_18 klX4_31 (tX8_set sc _ _ _ (n := 8) rfl (by decide) _ _) rfl rfl (Nat.le_of_ble_eq_true rfl) ?_
  rw [s_set_ix (by omega) (by decide)]
  refine xt_aload_n _ dX4_add_21 rfl ?_
  refine xt_getr _ dX4_add_22 kfX4_15 (by first | exact sh115 | exact sh122 | exact sh123 | exact sh124 | exact sh128 | rfl | assumption) rfl ?_
  refine xt_aload_n _ dX4_add_25 rfl ?_
  refine xt_geti dX4_add_26 kfX4_22 (by first | exact sh115 | exact sh122 | exact sh123 | exact sh124 | exact sh128 | rfl | assumption) rfl ?_
  refine xt_iload_n _ dX4_add_29 rfl ?_
  rw [x_u_ne (by decide), e]
  refine xt_cS0 _ dX4_add_30 klX4_31 (tX8_set sc _ _ _ (n := 8) rfl (by decide) _ _) rfl rfl (Nat.le_of_ble_eq_true rfl) ?_
  rw [s_set_ix (by omega) (by decide)]
  refine xt_aload_n _ dX4_add_33 rfl ?_
  refine xt_dup dX4_add_34 rfl ?_
  refine xt_geti dX4_add_35 kfX4_22 (by first | exact sh115 | exact sh122 | exact sh123 | exact sh124 | exact sh128 | rfl | assumption) rfl ?_
  refine xt_iconst (1) dX4_add_38 (by decide) ?_
  refine xt_iadd dX4_add_39 ?_
  refine xt_puti dX4_add_40 kpX4_22 (by first | exact sh115 | exact sh122 | exact sh123 | exact sh124 | exact sh128 | rfl | assumption) rfl (by first | rfl | assumption) (by first | rfl | assumption) ?_
  exact xt_ret dX4_add_43 rfl ⟨rfl, by rw [x_u_eq, pk_un (by decide), x_u_ne (by decide), x_u_ne (by decide)], by rw [x_u_eq, pk_us, x_u_ne (by decide), x_u_ne (by decide), e, nI_succ], by rw [x_u_ne (by decide), x_u_ne (by decide), x_u_eq], by rw [x_u_ne (by decide), x_u_eq, x_u_ne (by decide)], fun a h1 h2 h3 => by rw [x_u_ne h1, x_u_ne h3, x_u_ne h2]⟩
set_option maxHeartbeats 2000000 in
theorem tX6_keepL13 (G : Nat → Nat) (mx : Nat) (v : Nat → Nat) (hC : c_G μ 2 G mx) (hv : ∀ i, i < 1 → μ 128 i = nI (v i)) : x_K sc (d + 2) mX6_keepOfLog [.ref 115, .int 13] μ w (fun r μ' _ => r = none ∧ c_G μ' 2 (s_kp 13 v G) (s_mxl 13 v mx) ∧ (∀ j, j ≠ 12 → μ' 115 j = μ 115 j) ∧ ∀ a, (a < 115 ∨ 127 ≤ a) → μ' a = μ a) := by
  obtain ⟨_, h12, _, hL⟩ := hC
  obtain ⟨e0, e1, eR⟩ := hL rfl
  refine x_K.of (by decide) (Nat.le_of_ble_eq_true rfl) ?_
  show x_T sc (d + 2) mX6_keepOfLog 0 [.ref 115, .int 13] [] μ w _
  refine xt_iload_n _ dX6_keepOfLog_0 rfl ?_
  refine xt_bipush (13) dX6_keepOfLog_1 (by decide) ?_
  refine xt_icmp_ne 22 dX6_keepOfLog_3 (by decide) (fun q => absurd (by decide) q) (fun _ => ?_)
  refine xt_aload_n _ dX6_keepOfLog_6 rfl ?_
  refine xt_getr _ dX6_keepOfLog_7 kfX6_28 (by first | exact sh115 | exact sh122 | exact sh123 | exact sh124 | exact sh128 | rfl | assumption) rfl ?_
  refine xt_aload_n _ dX6_keepOfLog_10 rfl ?_
  refine xt_getr _ dX6_keepOfLog_11 kfX6_36 (by first | exact sh115 | exact sh122 | exact sh123 | exact sh124 | exact sh128 | rfl | assumption) rfl ?_
  refine xt_iconst (0) dX6_keepOfLog_14 (by decide) ?_
  refine xt_ald dX6_keepOfLog_15 (by first | exact sh115 | exact sh122 | exact sh123 | exact sh124 | exact sh128 | rfl | assumption) (by unfold vp_in; decide) ?_
  rw [show (0 : Int32).toNatClampNeg = 0 from rfl, hv 0 (by decide)]
  refine xt_puti dX6_keepOfLog_16 kpX6_148 (by first | exact sh115 | exact sh122 | exact sh123 | exact sh124 | exact sh128 | rfl | assumption) rfl (by first | rfl | assumption) (by first | rfl | assumption) ?_
  refine xt_goto 46 dX6_keepOfLog_19 (by decide) ?_
  refine xt_ret dX6_keepOfLog_46 rfl ?_
  have x0 : s_kp 13 v G 0 = v 0 := s_rw_at (G := G) (b := 0) (st := 1) (k := 0) (v := v) (j := 0) (n := 1) (by decide) (by decide)
  have xn : ∀ x, x ≠ 0 → s_kp 13 v G x = G x := fun x hx => s_rw_ne (b := 0) (st := 1) (k := 0) (n := 1) (fun i hi => by omega)
  refine ⟨rfl, ⟨fun h => absurd h (by decide), fun _ => by rw [x_u_ne (by decide)]; exact h12 (by decide), fun h => absurd h (by decide), fun _ => ⟨by rw [x_u_eq, pk_us, x0], by rw [x_u_eq, pk_un (by decide), xn 1 (by decide)]; exact e1, fun j hj => ?_⟩⟩, fun j hj => by rw [x_u_ne (by decide)], fun a ha => by rw [x_u_ne (by omega)]⟩
  rw [xn 1 (by decide)] at hj
  rw [x_u_ne (by decide), x_u_ne (by decide), xn _ (by omega), xn _ (by omega)]; exact eR j hj
set_option maxHeartbeats 2000000 in
theorem tX6_keepL14 (G : Nat → Nat) (mx : Nat) (v : Nat → Nat) (hC : c_G μ 2 G mx) (hv : ∀ i, i < 1 → μ 128 i = nI (v i)) (hc : G 1 < 8) : x_K sc (d + 2) mX6_keepOfLog [.ref 115, .int 14] μ w (fun r μ' _ => r = none ∧ c_G μ' 2 (s_kp 14 v G) (s_mxl 14 v mx) ∧ (∀ j, j ≠ 12 → μ' 115 j = μ 115 j) ∧ ∀ a, (a < 115 ∨ 127 ≤ a) → μ' a = μ a) := by
  obtain ⟨_, h12, _, hL⟩ := hC
  obtain ⟨e0, e1, eR⟩ := hL rfl
  refine x_K.of (by decide) (Nat.le_of_ble_eq_true rfl) ?_
  show x_T sc (d + 2) mX6_keepOfLog 0 [.ref 115, .int 14] [] μ w _
  refine xt_iload_n _ dX6_keepOfLog_0 rfl ?_
  refine xt_bipush (13) dX6_keepOfLog_1 (by decide) ?_
  refine xt_icmp_ne 22 dX6_keepOfLog_3 (by decide) (fun _ => ?_) (fun q => absurd q (by decide))
  refine xt_aload_n _ dX6_keepOfLog_22 rfl ?_
  refine xt_getr _ dX6_keepOfLog_23 kfX6_28 (by first | exact sh115 | exact sh122 | exact sh123 | exact sh124 | exact sh128 | rfl | assumption) rfl ?_
  refine xt_iload_n _ dX6_keepOfLog_26 rfl ?_
  refine xt_bipush (14) dX6_keepOfLog_27 (by decide) ?_
  refine xt_icmp_ne 36 dX6_keepOfLog_29 (by decide) (fun q => absurd (by decide) q) (fun _ => ?_)
  refine xt_iconst (1) dX6_keepOfLog_32 (by decide) ?_
  refine xt_goto 37 dX6_keepOfLog_33 (by decide) ?_
  refine xt_aload_n _ dX6_keepOfLog_37 rfl ?_
  refine xt_getr _ dX6_keepOfLog_38 kfX6_36 (by first | exact sh115 | exact sh122 | exact sh123 | exact sh124 | exact sh128 | rfl | assumption) rfl ?_
  refine xt_iconst (0) dX6_keepOfLog_41 (by decide) ?_
  refine xt_ald dX6_keepOfLog_42 (by first | exact sh115 | exact sh122 | exact sh123 | exact sh124 | exact sh128 | rfl | assumption) (by unfold vp_in; decide) ?_
  rw [show (0 : Int32).toNatClampNeg = 0 from rfl, hv 0 (by decide)]
  refine xt_callV _ dX6_keepOfLog_43 klX6_151 (tX4_add sc _ μ w (G 1) 1 (nI (v 0)) hc e1) sh124 rfl rfl (Nat.le_of_ble_eq_true rfl) (fun r2 μ2 w2 q2 => ?_)
  obtain ⟨rfl, q0, q1, q5, q6, qf⟩ := q2
  change x_T _ _ _ _ _ _ _ _ _
  refine xt_ret dX6_keepOfLog_46 rfl ?_
  obtain ⟨x1, x2, x3, xn⟩ := s_kp_l_at (k := 14) (by decide) v G
  refine ⟨rfl, ⟨fun h => absurd h (by decide), fun _ => by rw [qf 115 (by decide) (by decide) (by decide)]; exact h12 (by decide), fun h => absurd h (by decide), fun _ => ⟨by rw [q0, xn 0 (by decide) (by omega)]; exact e0, by rw [q1, x1], fun j hj => ?_⟩⟩, fun j hj => by rw [qf 115 (by decide) (by decide) (by decide)], fun a ha => qf a (by omega) (by omega) (by omega)⟩
  rw [x1] at hj
  rw [q5, q6]
  by_cases he : j = G 1
  · rw [he, pk_us, pk_us, x2, x3]; exact ⟨rfl, rfl⟩
  · rw [pk_un he, pk_un he, xn _ (by omega) (by omega), xn _ (by omega) (by omega)]; exact eR j (by omega)
set_option maxHeartbeats 2000000 in
theorem tX6_keepL15 (G : Nat → Nat) (mx : Nat) (v : Nat → Nat) (hC : c_G μ 2 G mx) (hv : ∀ i, i < 1 → μ 128 i = nI (v i)) (hc : G 1 < 8) : x_K sc (d + 2) mX6_keepOfLog [.ref 115, .int 15] μ w (fun r μ' _ => r = none ∧ c_G μ' 2 (s_kp 15 v G) (s_mxl 15 v mx) ∧ (∀ j, j ≠ 12 → μ' 115 j = μ 115 j) ∧ ∀ a, (a < 115 ∨ 127 ≤ a) → μ' a = μ a) := by
  obtain ⟨_, h12, _, hL⟩ := hC
  obtain ⟨e0, e1, eR⟩ := hL rfl
  refine x_K.of (by decide) (Nat.le_of_ble_eq_true rfl) ?_
  show x_T sc (d + 2) mX6_keepOfLog 0 [.ref 115, .int 15] [] μ w _
  refine xt_iload_n _ dX6_keepOfLog_0 rfl ?_
  refine xt_bipush (13) dX6_keepOfLog_1 (by decide) ?_
  refine xt_icmp_ne 22 dX6_keepOfLog_3 (by decide) (fun _ => ?_) (fun q => absurd q (by decide))
  refine xt_aload_n _ dX6_keepOfLog_22 rfl ?_
  refine xt_getr _ dX6_keepOfLog_23 kfX6_28 (by first | exact sh115 | exact sh122 | exact sh123 | exact sh124 | exact sh128 | rfl | assumption) rfl ?_
  refine xt_iload_n _ dX6_keepOfLog_26 rfl ?_
  refine xt_bipush (14) dX6_keepOfLog_27 (by decide) ?_
  refine xt_icmp_ne 36 dX6_keepOfLog_29 (by decide) (fun _ => ?_) (fun q => absurd q (by decide))
  refine xt_iconst (0) dX6_keepOfLog_36 (by decide) ?_
  refine xt_aload_n _ dX6_keepOfLog_37 rfl ?_
  refine xt_getr _ dX6_keepOfLog_38 kfX6_36 (by first | exact sh115 | exact sh122 | exact sh123 | exact sh124 | exact sh128 | rfl | assumption) rfl ?_
  refine xt_iconst (0) dX6_keepOfLog_41 (by decide) ?_
  refine xt_ald dX6_keepOfLog_42 (by first | exact sh115 | exact sh122 | exact sh123 | exact sh124 | exact sh128 | rfl | assumption) (by unfold vp_in; decide) ?_
  rw [show (0 : Int32).toNatClampNeg = 0 from rfl, hv 0 (by decide)]
  refine xt_callV _ dX6_keepOfLog_43 klX6_151 (tX4_add sc _ μ w (G 1) 0 (nI (v 0)) hc e1) sh124 rfl rfl (Nat.le_of_ble_eq_true rfl) (fun r2 μ2 w2 q2 => ?_)
  obtain ⟨rfl, q0, q1, q5, q6, qf⟩ := q2
  change x_T _ _ _ _ _ _ _ _ _
  refine xt_ret dX6_keepOfLog_46 rfl ?_
  obtain ⟨x1, x2, x3, xn⟩ := s_kp_l_at (k := 15) (by decide) v G
  refine ⟨rfl, ⟨fun h => absurd h (by decide), fun _ => by rw [qf 115 (by decide) (by decide) (by decide)]; exact h12 (by decide), fun h => absurd h (by decide), fun _ => ⟨by rw [q0, xn 0 (by decide) (by omega)]; exact e0, by rw [q1, x1], fun j hj => ?_⟩⟩, fun j hj => by rw [qf 115 (by decide) (by decide) (by decide)], fun a ha => qf a (by omega) (by omega) (by omega)⟩
  rw [x1] at hj
  rw [q5, q6]
  by_cases he : j = G 1
  · rw [he, pk_us, pk_us, x2, x3]; exact ⟨rfl, rfl⟩
  · rw [pk_un he, pk_un he, xn _ (by omega) (by omega), xn _ (by omega) (by omega)]; exact eR j (by omega)
set_option maxHeartbeats 4000000 in
theorem tX6_keep (G : Nat → Nat) (mx : Nat) (v : Nat → Nat) (s k : Nat) (hs : s_of s k) (hW : g_W s G) (hC : c_G μ s G mx) (hf : s_fl k G = false) (hv : ∀ i, i < s_gv k → μ 128 i = nI (v i)) (hr : s_rgl k v) : x_K sc (d + 3) mX6_keep [.ref 115, .int (nI k), .int (nI (s_gv k))] μ w (fun r μ' _ => r = none ∧ c_G μ' s (s_kp k v G) (s_mxl k v mx) ∧ (∀ j, j ≠ 12 → μ' 115 j = μ 115 j) ∧ ∀ a, (a < 115 ∨ 127 ≤ a) → μ' a = μ a) := by
  rcases hs with ⟨rfl, hk⟩ | ⟨rfl, h1, h2⟩ | ⟨rfl, h1, h2⟩
  · have hk : k = 0 ∨ k = 1 ∨ k = 2 ∨ k = 3 ∨ k = 4 ∨ k = 5 ∨ k = 6 := by omega
    rcases hk with rfl | rfl | rfl | rfl | rfl | rfl | rfl
    · refine x_K.of (by decide) (Nat.le_of_ble_eq_true rfl) ?_
      show x_T sc (d + 3) mX6_keep 0 [.ref 115, .int 0, .int 2] [] μ w _
      refine xt_iload_n _ dX6_keep_0 rfl ?_
      refine xt_bipush (13) dX6_keep_1 (by decide) ?_
      refine xt_icmp_lt 14 dX6_keep_3 (by decide) (fun _ => ?_) (fun q => absurd (by decide) q)
      refine xt_iload_n _ dX6_keep_14 rfl ?_
      refine xt_bipush (7) dX6_keep_15 (by decide) ?_
      refine xt_icmp_lt 39 dX6_keep_17 (by decide) (fun _ => ?_) (fun q => absurd (by decide) q)
      refine xt_aload_n _ dX6_keep_39 rfl ?_
      refine xt_iload_n _ dX6_keep_40 rfl ?_
      refine xt_callV _ dX6_keep_41 klX6_145 (tX6_keepF0 sc _ μ w G mx hW hC v hv hr) sh115 rfl rfl (Nat.le_of_ble_eq_true rfl) (fun r2 μ2 w2 q2 => ?_)
      obtain ⟨rfl, q2⟩ := q2
      change x_T _ _ _ _ _ _ _ _ _
      exact xt_ret dX6_keep_44 rfl ⟨rfl, q2⟩
    · refine x_K.of (by decide) (Nat.le_of_ble_eq_true rfl) ?_
      show x_T sc (d + 3) mX6_keep 0 [.ref 115, .int 1, .int 2] [] μ w _
      refine xt_iload_n _ dX6_keep_0 rfl ?_
      refine xt_bipush (13) dX6_keep_1 (by decide) ?_
      refine xt_icmp_lt 14 dX6_keep_3 (by decide) (fun _ => ?_) (fun q => absurd (by decide) q)
      refine xt_iload_n _ dX6_keep_14 rfl ?_
      refine xt_bipush (7) dX6_keep_15 (by decide) ?_
      refine xt_icmp_lt 39 dX6_keep_17 (by decide) (fun _ => ?_) (fun q => absurd (by decide) q)
      refine xt_aload_n _ dX6_keep_39 rfl ?_
      refine xt_iload_n _ dX6_keep_40 rfl ?_
      refine xt_callV _ dX6_keep_41 klX6_145 (tX6_keepF1 sc _ μ w G mx hW hC v hv hr (Nat.not_le.mp (of_decide_eq_false (p := 8 ≤ G 4) hf))) sh115 rfl rfl (Nat.le_of_ble_eq_true rfl) (fun r2 μ2 w2 q2 => ?_)
      obtain ⟨rfl, q2⟩ := q2
      change x_T _ _ _ _ _ _ _ _ _
      exact xt_ret dX6_keep_44 rfl ⟨rfl, q2⟩
    · refine x_K.of (by decide) (Nat.le_of_ble_eq_true rfl) ?_
      show x_T sc (d + 3) mX6_keep 0 [.ref 115, .int 2, .int 1] [] μ w _
      refine xt_iload_n _ dX6_keep_0 rfl ?_
      refine xt_bipush (13) dX6_keep_1 (by decide) ?_
      refine xt_icmp_lt 14 dX6_keep_3 (by decide) (fun _ => ?_) (fun q => absurd (by decide) q)
      refine xt_iload_n _ dX6_keep_14 rfl ?_
      refine xt_bipush (7) dX6_keep_15 (by decide) ?_
      refine xt_icmp_lt 39 dX6_keep_17 (by decide) (fun _ => ?_) (fun q => absurd (by decide) q)
      refine xt_aload_n _ dX6_keep_39 rfl ?_
      refine xt_iload_n _ dX6_keep_40 rfl ?_
      refine xt_callV _ dX6_keep_41 klX6_145 (tX6_keepF2 sc _ μ w G mx hW hC v hv hr) sh115 rfl rfl (Nat.le_of_ble_eq_true rfl) (fun r2 μ2 w2 q2 => ?_)
      obtain ⟨rfl, q2⟩ := q2
      change x_T _ _ _ _ _ _ _ _ _
      exact xt_ret dX6_keep_44 rfl ⟨rfl, q2⟩
    · refine x_K.of (by decide) (Nat.le_of_ble_eq_true rfl) ?_
      show x_T sc (d + 3) mX6_keep 0 [.ref 115, .int 3, .int 3] [] μ w _
      refine xt_iload_n _ dX6_keep_0 rfl ?_
      refine xt_bipush (13) dX6_keep_1 (by decide) ?_
      refine xt_icmp_lt 14 dX6_keep_3 (by decide) (fun _ => ?_) (fun q => absurd (by decide) q)
      refine xt_iload_n _ dX6_keep_14 rfl ?_
      refine xt_bipush (7) dX6_keep_15 (by decide) ?_
      refine xt_icmp_lt 39 dX6_keep_17 (by decide) (fun _ => ?_) (fun q => absurd (by decide) q)
      refine xt_aload_n _ dX6_keep_39 rfl ?_
      refine xt_iload_n _ dX6_keep_40 rfl ?_
      refine xt_callV _ dX6_keep_41 klX6_145 (tX6_keepF3 sc _ μ w G mx hW hC v hv hr (Nat.not_le.mp (of_decide_eq_false (p := 6 ≤ G 3) hf))) sh115 rfl rfl (Nat.le_of_ble_eq_true rfl) (fun r2 μ2 w2 q2 => ?_)
      obtain ⟨rfl, q2⟩ := q2
      change x_T _ _ _ _ _ _ _ _ _
      exact xt_ret dX6_keep_44 rfl ⟨rfl, q2⟩
    · refine x_K.of (by decide) (Nat.le_of_ble_eq_true rfl) ?_
      show x_T sc (d + 3) mX6_keep 0 [.ref 115, .int 4, .int 3] [] μ w _
      refine xt_iload_n _ dX6_keep_0 rfl ?_
      refine xt_bipush (13) dX6_keep_1 (by decide) ?_
      refine xt_icmp_lt 14 dX6_keep_3 (by decide) (fun _ => ?_) (fun q => absurd (by decide) q)
      refine xt_iload_n _ dX6_keep_14 rfl ?_
      refine xt_bipush (7) dX6_keep_15 (by decide) ?_
      refine xt_icmp_lt 39 dX6_keep_17 (by decide) (fun _ => ?_) (fun q => absurd (by decide) q)
      refine xt_aload_n _ dX6_keep_39 rfl ?_
      refine xt_iload_n _ dX6_keep_40 rfl ?_
      refine xt_callV _ dX6_keep_41 klX6_145 (tX6_keepF4 sc _ μ w G mx hW hC v hv hr) sh115 rfl rfl (Nat.le_of_ble_eq_true rfl) (fun r2 μ2 w2 q2 => ?_)
      obtain ⟨rfl, q2⟩ := q2
      change x_T _ _ _ _ _ _ _ _ _
      exact xt_ret dX6_keep_44 rfl ⟨rfl, q2⟩
    · refine x_K.of (by decide) (Nat.le_of_ble_eq_true rfl) ?_
      show x_T sc (d + 3) mX6_keep 0 [.ref 115, .int 5, .int 2] [] μ w _
      refine xt_iload_n _ dX6_keep_0 rfl ?_
      refine xt_bipush (13) dX6_keep_1 (by decide) ?_
      refine xt_icmp_lt 14 dX6_keep_3 (by decide) (fun _ => ?_) (fun q => absurd (by decide) q)
      refine xt_iload_n _ dX6_keep_14 rfl ?_
      refine xt_bipush (7) dX6_keep_15 (by decide) ?_
      refine xt_icmp_lt 39 dX6_keep_17 (by decide) (fun _ => ?_) (fun q => absurd (by decide) q)
      refine xt_aload_n _ dX6_keep_39 rfl ?_
      refine xt_iload_n _ dX6_keep_40 rfl ?_
      refine xt_callV _ dX6_keep_41 klX6_145 (tX6_keepF5 sc _ μ w G mx hW hC v hv hr (Nat.not_le.mp (of_decide_eq_false (p := 6 ≤ G 5) hf))) sh115 rfl rfl (Nat.le_of_ble_eq_true rfl) (fun r2 μ2 w2 q2 => ?_)
      obtain ⟨rfl, q2⟩ := q2
      change x_T _ _ _ _ _ _ _ _ _
      exact xt_ret dX6_keep_44 rfl ⟨rfl, q2⟩
    · refine x_K.of (by decide) (Nat.le_of_ble_eq_true rfl) ?_
      show x_T sc (d + 3) mX6_keep 0 [.ref 115, .int 6, .int 4] [] μ w _
      refine xt_iload_n _ dX6_keep_0 rfl ?_
      refine xt_bipush (13) dX6_keep_1 (by decide) ?_
      refine xt_icmp_lt 14 dX6_keep_3 (by decide) (fun _ => ?_) (fun q => absurd (by decide) q)
      refine xt_iload_n _ dX6_keep_14 rfl ?_
      refine xt_bipush (7) dX6_keep_15 (by decide) ?_
      refine xt_icmp_lt 39 dX6_keep_17 (by decide) (fun _ => ?_) (fun q => absurd (by decide) q)
      refine xt_aload_n _ dX6_keep_39 rfl ?_
      refine xt_iload_n _ dX6_keep_40 rfl ?_
      refine xt_callV _ dX6_keep_41 klX6_145 (tX6_keepF6 sc _ μ w G mx hW hC v hv hr (Nat.not_le.mp (of_decide_eq_false (p := 6 ≤ G 6) hf))) sh115 rfl rfl (Nat.le_of_ble_eq_true rfl) (fun r2 μ2 w2 q2 => ?_)
      obtain ⟨rfl, q2⟩ := q2
      change x_T _ _ _ _ _ _ _ _ _
      exact xt_ret dX6_keep_44 rfl ⟨rfl, q2⟩
  · obtain ⟨_, h12, hD, _⟩ := hC
    obtain ⟨e0, eR⟩ := hD rfl
    have hc : G 0 < 40 := by
      unfold s_fl at hf
      rw [if_neg (by omega), if_neg (by omega), if_neg (by omega), if_neg (by omega), if_pos (by omega)] at hf
      exact Nat.not_le.mp (of_decide_eq_false hf)
    have hg : s_gv k ≤ 3 := by
      have hk : k = 7 ∨ k = 8 ∨ k = 9 ∨ k = 10 ∨ k = 11 ∨ k = 12 := by omega
      rcases hk with rfl | rfl | rfl | rfl | rfl | rfl <;> decide
    refine x_K.of (by decide) (Nat.le_of_ble_eq_true rfl) ?_
    show x_T sc (d + 3) mX6_keep 0 [.ref 115, .int (nI k), .int (nI (s_gv k))] [] μ w _
    refine xt_iload_n _ dX6_keep_0 rfl ?_
    refine xt_bipush (13) dX6_keep_1 (by decide) ?_
    refine xt_icmp_lt 14 dX6_keep_3 (by decide) (fun _ => ?_) (fun q => absurd (nI_lt (show k < 13 by omega) (by decide)) q)
    refine xt_iload_n _ dX6_keep_14 rfl ?_
    refine xt_bipush (7) dX6_keep_15 (by decide) ?_
    refine xt_icmp_lt 39 dX6_keep_17 (by decide) (fun q => absurd q (fun z => absurd ((nI_ltI (a := k) (b := 7) (by omega) (by decide)).mp z) (by omega))) (fun _ => ?_)
    refine xt_aload_n _ dX6_keep_20 rfl ?_
    refine xt_getr _ dX6_keep_21 kfX6_21 (by first | exact sh115 | exact sh122 | exact sh123 | exact sh124 | exact sh128 | rfl | assumption) rfl ?_
    refine xt_iload_n _ dX6_keep_24 rfl ?_
    refine xt_bipush (7) dX6_keep_25 (by decide) ?_
    refine xt_isub dX6_keep_27 ?_
    refine xt_aload_n _ dX6_keep_28 rfl ?_
    refine xt_getr _ dX6_keep_29 kfX6_36 (by first | exact sh115 | exact sh122 | exact sh123 | exact sh124 | exact sh128 | rfl | assumption) rfl ?_
    refine xt_iload_n _ dX6_keep_32 rfl ?_
    rw [show (nI k - (7 : Int32)) = nI (k - 7) from pk_sub (b := 7) h1]
    refine xt_callV _ dX6_keep_33 klX6_141 (tX1_add sc _ μ w (G 0) k v hc h1 (by omega) e0 hv hg) sh122 rfl rfl (Nat.le_of_ble_eq_true rfl) (fun r2 μ2 w2 q2 => ?_)
    obtain ⟨rfl, q0, qD, qO, qf⟩ := q2
    change x_T _ _ _ _ _ _ _ _ _
    refine xt_goto 44 dX6_keep_36 (by decide) ?_
    refine xt_ret dX6_keep_44 rfl ?_
    obtain ⟨x0, xa, xn⟩ := s_kp_d_at h1 (show k ≤ 12 by omega) v G
    refine ⟨rfl, ⟨fun h => absurd h (by decide), fun _ => by rw [qf 115 (by decide) (by decide)]; exact h12 (by decide), fun _ => ⟨by rw [q0, x0], fun i hi => ?_⟩, fun h => absurd h (by decide)⟩, fun j hj => by rw [qf 115 (by decide) (by decide)], fun a ha => qf a (by omega) (by omega)⟩
    rw [x0] at hi
    by_cases hl : i < 4 * G 0
    · rw [qO i hl, xn _ (by omega) (by omega)]; exact eR i hl
    · obtain ⟨j, rfl⟩ : ∃ j, i = 4 * G 0 + j := ⟨i - 4 * G 0, by omega⟩
      rw [qD j (by omega), show 1 + (4 * G 0 + j) = 1 + 4 * G 0 + j by omega, xa j (by omega)]
  · have hk : k = 13 ∨ k = 14 ∨ k = 15 := by omega
    rcases hk with rfl | rfl | rfl
    · refine x_K.of (by decide) (Nat.le_of_ble_eq_true rfl) ?_
      show x_T sc (d + 3) mX6_keep 0 [.ref 115, .int 13, .int 1] [] μ w _
      refine xt_iload_n _ dX6_keep_0 rfl ?_
      refine xt_bipush (13) dX6_keep_1 (by decide) ?_
      refine xt_icmp_lt 14 dX6_keep_3 (by decide) (fun q => absurd q (by decide)) (fun _ => ?_)
      refine xt_aload_n _ dX6_keep_6 rfl ?_
      refine xt_iload_n _ dX6_keep_7 rfl ?_
      refine xt_callV _ dX6_keep_8 klX6_137 (tX6_keepL13 sc _ μ w G mx v hC hv) sh115 rfl rfl (Nat.le_of_ble_eq_true rfl) (fun r2 μ2 w2 q2 => ?_)
      obtain ⟨rfl, q2⟩ := q2
      change x_T _ _ _ _ _ _ _ _ _
      refine xt_goto 44 dX6_keep_11 (by decide) ?_
      exact xt_ret dX6_keep_44 rfl ⟨rfl, q2⟩
    · refine x_K.of (by decide) (Nat.le_of_ble_eq_true rfl) ?_
      show x_T sc (d + 3) mX6_keep 0 [.ref 115, .int 14, .int 1] [] μ w _
      refine xt_iload_n _ dX6_keep_0 rfl ?_
      refine xt_bipush (13) dX6_keep_1 (by decide) ?_
      refine xt_icmp_lt 14 dX6_keep_3 (by decide) (fun q => absurd q (by decide)) (fun _ => ?_)
      refine xt_aload_n _ dX6_keep_6 rfl ?_
      refine xt_iload_n _ dX6_keep_7 rfl ?_
      refine xt_callV _ dX6_keep_8 klX6_137 (tX6_keepL14 sc _ μ w G mx v hC hv (Nat.not_le.mp (of_decide_eq_false (p := 8 ≤ G 1) hf))) sh115 rfl rfl (Nat.le_of_ble_eq_true rfl) (fun r2 μ2 w2 q2 => ?_)
      obtain ⟨rfl, q2⟩ := q2
      change x_T _ _ _ _ _ _ _ _ _
      refine xt_goto 44 dX6_keep_11 (by decide) ?_
      exact xt_ret dX6_keep_44 rfl ⟨rfl, q2⟩
    · refine x_K.of (by decide) (Nat.le_of_ble_eq_true rfl) ?_
      show x_T sc (d + 3) mX6_keep 0 [.ref 115, .int 15, .int 1] [] μ w _
      refine xt_iload_n _ dX6_keep_0 rfl ?_
      refine xt_bipush (13) dX6_keep_1 (by decide) ?_
      refine xt_icmp_lt 14 dX6_keep_3 (by decide) (fun q => absurd q (by decide)) (fun _ => ?_)
      refine xt_aload_n _ dX6_keep_6 rfl ?_
      refine xt_iload_n _ dX6_keep_7 rfl ?_
      refine xt_callV _ dX6_keep_8 klX6_137 (tX6_keepL15 sc _ μ w G mx v hC hv (Nat.not_le.mp (of_decide_eq_false (p := 8 ≤ G 1) hf))) sh115 rfl rfl (Nat.le_of_ble_eq_true rfl) (fun r2 μ2 w2 q2 => ?_)
      obtain ⟨rfl, q2⟩ := q2
      change x_T _ _ _ _ _ _ _ _ _
      refine xt_goto 44 dX6_keep_11 (by decide) ?_
      exact xt_ret dX6_keep_44 rfl ⟨rfl, q2⟩
end KEEPS
