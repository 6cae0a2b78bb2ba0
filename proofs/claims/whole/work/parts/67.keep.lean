/-! texts: what a line says, and how the class keeps it -/
def s_gv (k : Nat) : Nat := [2, 2, 1, 3, 3, 2, 4, 0, 0, 1, 3, 3, 3, 1, 1, 1].getD k 0
def s_lw (k i : Nat) : Nat := [0, 0, 0, 0, 0, 0, 0, 0, 0, 0, 0, 0, 0, 0, 1, 0, 0, 0, 0, 0, 1, 0, 0, 0, 0, 0, 0, 0, 0, 0, 0, 0, 0, 0, 0, 0, 0, 0, 0, 0, 0, 0, 0, 0, 0, 0, 1, 0, 0, 0, 1, 0, 0, 0, 0, 0, 0, 0, 0, 0, 0, 0, 0, 0].getD (4 * k + i) 0
def s_hg (k i : Nat) : Nat := [9, 9, 0, 0, 9, 9, 0, 0, 9, 0, 0, 0, 5, 18, 9, 0, 7, 5, 9, 0, 63, 20, 0, 0, 9, 9, 30, 10, 0, 0, 0, 0, 0, 0, 0, 0, 7, 0, 0, 0, 7, 9, 9, 0, 7, 5, 9, 0, 7, 5, 9, 0, 8, 0, 0, 0, 63, 0, 0, 0, 63, 0, 0, 0].getD (4 * k + i) 0
/-- is there one too many of what line k tells -/
def s_fl (k : Nat) (G : Nat → Nat) : Bool := if k = 1 then decide (8 ≤ G 4) else if k = 3 then decide (6 ≤ G 3) else if k = 5 then decide (6 ≤ G 5) else if k = 6 then decide (6 ≤ G 6) else if 7 ≤ k ∧ k ≤ 12 then decide (40 ≤ G 0) else if k = 14 ∨ k = 15 then decide (8 ≤ G 1) else false
def s_rw (G : Nat → Nat) (b st k : Nat) (v : Nat → Nat) : Nat → Nat → Nat
  | 0 => G
  | n + 1 => s_up (s_rw G b st k v n) (b + st * n + k) (v n)
def s_kp (k : Nat) (v : Nat → Nat) (G : Nat → Nat) : Nat → Nat :=
  if k = 0 then s_rw G 0 1 0 v 2 else if k = 1 then s_up (s_rw G 25 8 (G 4) v 2) 4 (G 4 + 1) else if k = 2 then s_rw G 2 1 0 v 1 else if k = 3 then s_up (s_rw G 7 6 (G 3) v 3) 3 (G 3 + 1)
  else if k = 4 then s_up G (41 + (6 * v 0 + v 1)) (v 2) else if k = 5 then s_up (s_rw G 89 6 (G 5) v 2) 5 (G 5 + 1) else if k = 6 then s_up (s_rw G 101 6 (G 6) v 4) 6 (G 6 + 1)
  else if k ≤ 12 then s_up (s_rw G 1 1 (4 * G 0) (fun i => if i = 0 then k - 7 + 1 else if i - 1 < s_gv k then v (i - 1) + 1 else 0) 4) 0 (G 0 + 1)
  else if k = 13 then s_rw G 0 1 0 v 1 else s_up (s_rw G 2 1 (2 * G 1) (fun i => if i = 0 then (if k = 14 then 1 else 0) else v 0) 2) 1 (G 1 + 1)
def s_mxl (k : Nat) (v : Nat → Nat) (mx : Nat) : Nat := if k = 4 then max mx (v 0 + 1) else mx
theorem s_rw_ne {G : Nat → Nat} {b st k : Nat} {v : Nat → Nat} {x : Nat} : ∀ {n : Nat}, (∀ i, i < n → x ≠ b + st * i + k) → s_rw G b st k v n x = G x
  | 0, _ => rfl
  | n + 1, h => by
    rw [s_rw, s_up, if_neg (h n (by omega))]
    exact s_rw_ne (n := n) (fun i hi => h i (by omega))
theorem s_rw_at {G : Nat → Nat} {b st k : Nat} {v : Nat → Nat} (hst : 0 < st) {j : Nat} : ∀ {n : Nat}, j < n → s_rw G b st k v n (b + st * j + k) = v j
  | 0, h => absurd h (by omega)
  | n + 1, h => by
    rw [s_rw, s_up]
    by_cases he : j = n
    · rw [he, if_pos rfl]
    · have h1 : st * j < st * n := Nat.mul_lt_mul_of_pos_left (by omega) hst
      rw [if_neg (by omega)]; exact s_rw_at hst (n := n) (by omega)
def s_wr (f : Nat → Int32) (o : Nat) (v : Nat → Nat) : Nat → Nat → Int32
  | 0 => f
  | n + 1 => upd (s_wr f o v n) (o + n) (nI (v n))
theorem s_wr_ne {f : Nat → Int32} {o : Nat} {v : Nat → Nat} {x : Nat} : ∀ {n : Nat}, x < o ∨ o + n ≤ x → s_wr f o v n x = f x
  | 0, _ => rfl
  | n + 1, h => by
    rw [s_wr, pk_un (by omega)]; exact s_wr_ne (n := n) (by omega)
theorem s_wr_at {f : Nat → Int32} {o : Nat} {v : Nat → Nat} {j : Nat} : ∀ {n : Nat}, j < n → s_wr f o v n (o + j) = nI (v j)
  | 0, h => absurd h (by omega)
  | n + 1, h => by
    rw [s_wr]
    by_cases he : j = n
    · rw [he, pk_us]
    · rw [pk_un (by omega)]; exact s_wr_at (n := n) (by omega)
def gd_W (G : Nat → Nat) : Prop := G 0 ≤ 40 ∧ ∀ k, k < G 0 → i_dw (fun i => eI (G i)) k
def gl_W (G : Nat → Nat) : Prop := G 0 ≤ 8 ∧ G 1 ≤ 8 ∧ ∀ k, k < G 1 → G (2 + 2 * k) ≤ 1 ∧ G (3 + 2 * k) ≤ 63
def g_W (s : Nat) (G : Nat → Nat) : Prop := if s = 0 then f_W G else if s = 1 then gd_W G else gl_W G
/-- the reader holds G -/
def c_G (μ : x_Me) (s : Nat) (G : Nat → Nat) (mx : Nat) : Prop :=
  (s = 0 → f_C μ 116 G ∧ ∃ B, B < 256 ∧ μ 115 12 = nI B ∧ ∀ g, g ≤ 8 → (2 ^ g ≤ B ↔ g < mx)) ∧ (s ≠ 0 → μ 115 12 = 0) ∧
  (s = 1 → μ 122 0 = nI (G 0) ∧ ∀ i, i < 4 * G 0 → μ 123 i = eI (G (1 + i))) ∧
  (s = 2 → μ 124 0 = nI (G 0) ∧ μ 124 1 = nI (G 1) ∧ ∀ k, k < G 1 → μ 125 k = nI (G (2 + 2 * k)) ∧ μ 126 k = nI (G (3 + 2 * k)))
theorem c_G.cg {μ μ' : x_Me} {s : Nat} {G : Nat → Nat} {mx : Nat} (h : c_G μ s G mx) (h1 : μ' 115 12 = μ 115 12) (h2 : ∀ a, 116 ≤ a → a ≤ 126 → μ' a = μ a) : c_G μ' s G mx := by
  obtain ⟨a, b, c, e⟩ := h
  refine ⟨fun hs => ⟨(a hs).1.cg (fun j hj => h2 _ (by omega) (by omega)), by rw [h1]; exact (a hs).2⟩, fun hs => by rw [h1]; exact b hs, fun hs => ?_, fun hs => ?_⟩
  · rw [h2 122 (by decide) (by decide), h2 123 (by decide) (by decide)]; exact c hs
  · rw [h2 124 (by decide) (by decide), h2 125 (by decide) (by decide), h2 126 (by decide) (by decide)]; exact e hs
theorem s_orB : ∀ B, B < 256 → ∀ v, v < 8 → (B ||| 2 ^ v < 256) ∧ ∀ g, g ≤ 8 → (2 ^ g ≤ B ||| 2 ^ v ↔ 2 ^ g ≤ B ∨ g ≤ v) := by decide +kernel
/-- the values that line k lets through -/
def s_rgl (k : Nat) (v : Nat → Nat) : Prop := ∀ i, i < s_gv k → s_lw k i ≤ v i ∧ v i ≤ s_hg k i
theorem f_C_row1 {μ μ' : x_Me} {G : Nat → Nat} {v : Nat → Nat} (hW : f_W G) (hC : f_C μ 116 G) (hc : G 4 < 8) (h0 : μ' 116 4 = nI (G 4 + 1)) (h0' : ∀ j, j ≠ 4 → μ' 116 j = μ 116 j) (hr : μ' 118 = s_wr (μ 118) (2 * G 4) v 2) (hf : ∀ a, 117 ≤ a → a ≤ 121 → a ≠ 118 → μ' a = μ a) : f_C μ' 116 (s_up (s_rw G 25 8 (G 4) v 2) 4 (G 4 + 1)) := by
  obtain ⟨⟨w0, w1, w2, w3, w4, w5, w6⟩, _⟩ := hW
  obtain ⟨c0, c1, c2, c3, c4, c5⟩ := hC
  have ec : (s_up (s_rw G 25 8 (G 4) v 2) 4 (G 4 + 1)) 4 = G 4 + 1 := by rw [s_up, if_pos rfl]
  have en : ∀ x, x ≠ 4 → (∀ i, i < 2 → x ≠ 25 + 8 * i + G 4) → (s_up (s_rw G 25 8 (G 4) v 2) 4 (G 4 + 1)) x = G x := fun x h1 h2 => by rw [s_up, if_neg h1]; exact s_rw_ne h2
  refine ⟨fun j hj => ?_, ?_, ?_, fun i hi => ?_, ?_, ?_⟩
  · by_cases he : j = 4
    · rw [he, h0, ec]
    · rw [h0' j he, en j he (fun i hi => by omega)]; exact c0 j hj
  · intro g hg j hj
    rw [en 3 (by decide) (fun i hi => by omega)] at hg
    show μ' 117 _ = _
    rw [hf 117 (by decide) (by decide) (by decide), en _ (by omega) (fun i hi => by omega)]; exact c1 g hg j hj
  · intro g hg j hj
    rw [ec] at hg
    show μ' 118 _ = _
    rw [hr]
    by_cases he : g = G 4
    · rw [he, s_wr_at hj, show 25 + 8 * j + G 4 = 25 + 8 * j + G 4 from rfl, s_up, if_neg (by omega), s_rw_at (by decide) hj]
    · rw [s_wr_ne (by omega), en _ (by omega) (fun i hi => by omega)]; exact c2 g (by omega) j hj
  · show μ' 119 _ = _
    rw [hf 119 (by decide) (by decide) (by decide), en _ (by omega) (fun i hi => by omega)]; exact c3 i hi
  · intro g hg j hj
    rw [en 5 (by decide) (fun i hi => by omega)] at hg
    show μ' 120 _ = _
    rw [hf 120 (by decide) (by decide) (by decide), en _ (by omega) (fun i hi => by omega)]; exact c4 g hg j hj
  · intro g hg j hj
    rw [en 6 (by decide) (fun i hi => by omega)] at hg
    show μ' 121 _ = _
    rw [hf 121 (by decide) (by decide) (by decide), en _ (by omega) (fun i hi => by omega)]; exact c5 g hg j hj
theorem f_C_row3 {μ μ' : x_Me} {G : Nat → Nat} {v : Nat → Nat} (hW : f_W G) (hC : f_C μ 116 G) (hc : G 3 < 6) (h0 : μ' 116 3 = nI (G 3 + 1)) (h0' : ∀ j, j ≠ 3 → μ' 116 j = μ 116 j) (hr : μ' 117 = s_wr (μ 117) (3 * G 3) v 3) (hf : ∀ a, 117 ≤ a → a ≤ 121 → a ≠ 117 → μ' a = μ a) : f_C μ' 116 (s_up (s_rw G 7 6 (G 3) v 3) 3 (G 3 + 1)) := by
  obtain ⟨⟨w0, w1, w2, w3, w4, w5, w6⟩, _⟩ := hW
  obtain ⟨c0, c1, c2, c3, c4, c5⟩ := hC
  have ec : (s_up (s_rw G 7 6 (G 3) v 3) 3 (G 3 + 1)) 3 = G 3 + 1 := by rw [s_up, if_pos rfl]
  have en : ∀ x, x ≠ 3 → (∀ i, i < 3 → x ≠ 7 + 6 * i + G 3) → (s_up (s_rw G 7 6 (G 3) v 3) 3 (G 3 + 1)) x = G x := fun x h1 h2 => by rw [s_up, if_neg h1]; exact s_rw_ne h2
  refine ⟨fun j hj => ?_, ?_, ?_, fun i hi => ?_, ?_, ?_⟩
  · by_cases he : j = 3
    · rw [he, h0, ec]
    · rw [h0' j he, en j he (fun i hi => by omega)]; exact c0 j hj
  · intro g hg j hj
    rw [ec] at hg
    show μ' 117 _ = _
    rw [hr]
    by_cases he : g = G 3
    · rw [he, s_wr_at hj, show 7 + 6 * j + G 3 = 7 + 6 * j + G 3 from rfl, s_up, if_neg (by omega), s_rw_at (by decide) hj]
    · rw [s_wr_ne (by omega), en _ (by omega) (fun i hi => by omega)]; exact c1 g (by omega) j hj
  · intro g hg j hj
    rw [en 4 (by decide) (fun i hi => by omega)] at hg
    show μ' 118 _ = _
    rw [hf 118 (by decide) (by decide) (by decide), en _ (by omega) (fun i hi => by omega)]; exact c2 g hg j hj
  · show μ' 119 _ = _
    rw [hf 119 (by decide) (by decide) (by decide), en _ (by omega) (fun i hi => by omega)]; exact c3 i hi
  · intro g hg j hj
    rw [en 5 (by decide) (fun i hi => by omega)] at hg
    show μ' 120 _ = _
    rw [hf 120 (by decide) (by decide) (by decide), en _ (by omega) (fun i hi => by omega)]; exact c4 g hg j hj
  · intro g hg j hj
    rw [en 6 (by decide) (fun i hi => by omega)] at hg
    show μ' 121 _ = _
    rw [hf 121 (by decide) (by decide) (by decide), en _ (by omega) (fun i hi => by omega)]; exact c5 g hg j hj
theorem f_C_row5 {μ μ' : x_Me} {G : Nat → Nat} {v : Nat → Nat} (hW : f_W G) (hC : f_C μ 116 G) (hc : G 5 < 6) (h0 : μ' 116 5 = nI (G 5 + 1)) (h0' : ∀ j, j ≠ 5 → μ' 116 j = μ 116 j) (hr : μ' 120 = s_wr (μ 120) (2 * G 5) v 2) (hf : ∀ a, 117 ≤ a → a ≤ 121 → a ≠ 120 → μ' a = μ a) : f_C μ' 116 (s_up (s_rw G 89 6 (G 5) v 2) 5 (G 5 + 1)) := by
  obtain ⟨⟨w0, w1, w2, w3, w4, w5, w6⟩, _⟩ := hW
  obtain ⟨c0, c1, c2, c3, c4, c5⟩ := hC
  have ec : (s_up (s_rw G 89 6 (G 5) v 2) 5 (G 5 + 1)) 5 = G 5 + 1 := by rw [s_up, if_pos rfl]
  have en : ∀ x, x ≠ 5 → (∀ i, i < 2 → x ≠ 89 + 6 * i + G 5) → (s_up (s_rw G 89 6 (G 5) v 2) 5 (G 5 + 1)) x = G x := fun x h1 h2 => by rw [s_up, if_neg h1]; exact s_rw_ne h2
  refine ⟨fun j hj => ?_, ?_, ?_, fun i hi => ?_, ?_, ?_⟩
  · by_cases he : j = 5
    · rw [he, h0, ec]
    · rw [h0' j he, en j he (fun i hi => by omega)]; exact c0 j hj
  · intro g hg j hj
    rw [en 3 (by decide) (fun i hi => by omega)] at hg
    show μ' 117 _ = _
    rw [hf 117 (by decide) (by decide) (by decide), en _ (by omega) (fun i hi => by omega)]; exact c1 g hg j hj
  · intro g hg j hj
    rw [en 4 (by decide) (fun i hi => by omega)] at hg
    show μ' 118 _ = _
    rw [hf 118 (by decide) (by decide) (by decide), en _ (by omega) (fun i hi => by omega)]; exact c2 g hg j hj
  · show μ' 119 _ = _
    rw [hf 119 (by decide) (by decide) (by decide), en _ (by omega) (fun i hi => by omega)]; exact c3 i hi
  · intro g hg j hj
    rw [ec] at hg
    show μ' 120 _ = _
    rw [hr]
    by_cases he : g = G 5
    · rw [he, s_wr_at hj, show 89 + 6 * j + G 5 = 89 + 6 * j + G 5 from rfl, s_up, if_neg (by omega), s_rw_at (by decide) hj]
    · rw [s_wr_ne (by omega), en _ (by omega) (fun i hi => by omega)]; exact c4 g (by omega) j hj
  · intro g hg j hj
    rw [en 6 (by decide) (fun i hi => by omega)] at hg
    show μ' 121 _ = _
    rw [hf 121 (by decide) (by decide) (by decide), en _ (by omega) (fun i hi => by omega)]; exact c5 g hg j hj
theorem f_C_row6 {μ μ' : x_Me} {G : Nat → Nat} {v : Nat → Nat} (hW : f_W G) (hC : f_C μ 116 G) (hc : G 6 < 6) (h0 : μ' 116 6 = nI (G 6 + 1)) (h0' : ∀ j, j ≠ 6 → μ' 116 j = μ 116 j) (hr : μ' 121 = s_wr (μ 121) (4 * G 6) v 4) (hf : ∀ a, 117 ≤ a → a ≤ 121 → a ≠ 121 → μ' a = μ a) : f_C μ' 116 (s_up (s_rw G 101 6 (G 6) v 4) 6 (G 6 + 1)) := by
  obtain ⟨⟨w0, w1, w2, w3, w4, w5, w6⟩, _⟩ := hW
  obtain ⟨c0, c1, c2, c3, c4, c5⟩ := hC
  have ec : (s_up (s_rw G 101 6 (G 6) v 4) 6 (G 6 + 1)) 6 = G 6 + 1 := by rw [s_up, if_pos rfl]
  have en : ∀ x, x ≠ 6 → (∀ i, i < 4 → x ≠ 101 + 6 * i + G 6) → (s_up (s_rw G 101 6 (G 6) v 4) 6 (G 6 + 1)) x = G x := fun x h1 h2 => by rw [s_up, if_neg h1]; exact s_rw_ne h2
  refine ⟨fun j hj => ?_, ?_, ?_, fun i hi => ?_, ?_, ?_⟩
  · by_cases he : j = 6
    · rw [he, h0, ec]
    · rw [h0' j he, en j he (fun i hi => by omega)]; exact c0 j hj
  · intro g hg j hj
    rw [en 3 (by decide) (fun i hi => by omega)] at hg
    show μ' 117 _ = _
    rw [hf 117 (by decide) (by decide) (by decide), en _ (by omega) (fun i hi => by omega)]; exact c1 g hg j hj
  · intro g hg j hj
    rw [en 4 (by decide) (fun i hi => by omega)] at hg
    show μ' 118 _ = _
    rw [hf 118 (by decide) (by decide) (by decide), en _ (by omega) (fun i hi => by omega)]; exact c2 g hg j hj
  · show μ' 119 _ = _
    rw [hf 119 (by decide) (by decide) (by decide), en _ (by omega) (fun i hi => by omega)]; exact c3 i hi
  · intro g hg j hj
    rw [en 5 (by decide) (fun i hi => by omega)] at hg
    show μ' 120 _ = _
    rw [hf 120 (by decide) (by decide) (by decide), en _ (by omega) (fun i hi => by omega)]; exact c4 g hg j hj
  · intro g hg j hj
    rw [ec] at hg
    show μ' 121 _ = _
    rw [hr]
    by_cases he : g = G 6
    · rw [he, s_wr_at hj, show 101 + 6 * j + G 6 = 101 + 6 * j + G 6 from rfl, s_up, if_neg (by omega), s_rw_at (by decide) hj]
    · rw [s_wr_ne (by omega), en _ (by omega) (fun i hi => by omega)]; exact c5 g (by omega) j hj
theorem sh116 : x_shape[116]? = some (.inl (2, [none, none, none, none, none, none, none, some (some (.ref 117)), some (some (.ref 118)), some (some (.ref 119)), some (some (.ref 120)), some (some (.ref 121))])) := rfl
theorem sh128 : x_shape[128]? = some (.inr (.inl (0, 4))) := rfl
section KEEP
variable (sc : Nat × (Nat → Int32)) (d : Nat) (μ : x_Me) (w : Int64)
set_option maxHeartbeats 1000000 in
theorem tX6_keepRow (a n k0 wd : Nat) (v : Nat → Nat) (hs : x_shape[a]? = some (.inr (.inl (0, n)))) (hn : n ≤ 100) (hk : wd * k0 + wd ≤ n) (hw : wd ≤ 4) (ha : a ≠ 128) (ha2 : a ≠ 115) (hv : ∀ i, i < wd → μ 128 i = nI (v i)) : x_K sc (d + 1) mX6_keepRow [.ref 115, .ref a, .int (nI k0), .int (nI wd)] μ w (fun r μ' _ => r = none ∧ μ' = x_u μ a (s_wr (μ a) (wd * k0) v wd)) := by
  refine x_K.of (by decide) (Nat.le_of_ble_eq_true rfl) ?_
  show x_T sc (d + 1) mX6_keepRow 0 [.ref 115, .ref a, .int (nI k0), .int (nI wd), .retAddr 0] [] μ w _
  refine xt_iconst (0) dX6_keepRow_0 (by decide) ?_
  refine xt_istore dX6_keepRow_1 (by decide) rfl ?_
  change x_T _ _ _ _ [_, _, _, _, _] _ _ _ _
  have L3 : ∀ (n3 m : Nat) (μ2 : x_Me) (hm2 : μ2 = x_u μ a (s_wr (μ a) (wd * k0) v m)), m + n3 = wd → x_T sc (d + 1) mX6_keepRow 3 [.ref 115, .ref a, .int (nI k0), .int (nI wd), .int (nI m)] [] μ2 w (fun r μ' _ => r = none ∧ μ' = x_u μ a (s_wr (μ a) (wd * k0) v wd)) := by
    intro n3
    induction n3 with
    | zero =>
      intro m μ2 hm2 hmn
      obtain rfl : wd = m := by omega
      refine xt_iload _ dX6_keepRow_3 rfl ?_
      refine xt_iload_n _ dX6_keepRow_5 rfl ?_
      refine xt_icmp_ge 34 dX6_keepRow_6 (by decide) (fun _ => ?_) (fun q => absurd (Int32.le_refl _) q)
      exact xt_ret dX6_keepRow_34 rfl ⟨rfl, hm2⟩
    | succ n3 ih3 =>
      intro m μ2 hm2 hmn
      have hlt : m < wd := by omega
      refine xt_iload _ dX6_keepRow_3 rfl ?_
      refine xt_iload_n _ dX6_keepRow_5 rfl ?_
      refine xt_icmp_ge 34 dX6_keepRow_6 (by decide) (fun q => absurd q (nI_ge hlt (by omega))) (fun _ => ?_)
      refine xt_aload_n _ dX6_keepRow_9 rfl ?_
      refine xt_iload_n _ dX6_keepRow_10 rfl ?_
      refine xt_iload_n _ dX6_keepRow_11 rfl ?_
      refine xt_imul dX6_keepRow_12 ?_
      refine xt_iload _ dX6_keepRow_13 rfl ?_
      refine xt_iadd dX6_keepRow_15 ?_
      refine xt_aload_n _ dX6_keepRow_16 rfl ?_
      refine xt_getr _ dX6_keepRow_17 kfX6_36 (by first | exact sh115 | exact sh116 | exact sh128 | rfl | assumption) rfl ?_
      refine xt_iload _ dX6_keepRow_20 rfl ?_
      have e128 : μ2 128 = μ 128 := by rw [hm2]; exact x_u_ne (Ne.symm ha)
      refine xt_cS _ dX6_keepRow_22 klX6_106 (tX8_at sc _ _ _ sh128 (by decide) _) rfl rfl (Nat.le_of_ble_eq_true rfl) ?_
      rw [s_at_ix (j := m) (by omega) (by decide) rfl]
      rw [e128, hv m hlt]
      rw [pk_mul, nI_add]
      refine xt_cS0 _ dX6_keepRow_25 klX6_120 (tX8_set sc _ _ _ hs (by omega) _ _) rfl rfl (Nat.le_of_ble_eq_true rfl) ?_
      refine xt_inc _ (1) dX6_keepRow_28 rfl (by decide) (by decide) rfl ?_
      change x_T _ _ _ _ [_, _, _, _, _] _ _ _ _
      refine xt_goto 3 dX6_keepRow_31 (by decide) ?_
      refine x_T.ls (by rw [nI_succ m]) (ih3 (m + 1) _ ?_ (by omega))
      rw [hm2]
      funext b
      by_cases h : b = a
      · rw [h, x_u_eq, x_u_eq, x_u_eq, s_set, if_neg (nI_pos (by omega)), if_neg (nI_ge (by omega) (by omega)), nI_clamp (by omega)]; rfl
      · rw [x_u_ne h, x_u_ne h, x_u_ne h]
  exact L3 wd 0 μ (funext (fun b => by by_cases h : b = a; rw [h, x_u_eq]; rfl; rw [x_u_ne h])) (by omega)
set_option maxHeartbeats 2000000 in
theorem tX6_keepF0 (G : Nat → Nat) (mx : Nat) (hW : f_W G) (hC : c_G μ 0 G mx) (v : Nat → Nat) (hv : ∀ i, i < 2 → μ 128 i = nI (v i)) (hr : s_rgl 0 v) : x_K sc (d + 2) mX6_keepOfFair [.ref 115, .int 0] μ w (fun r μ' _ => r = none ∧ c_G μ' 0 (s_kp 0 v G) (s_mxl 0 v mx) ∧ (∀ j, j ≠ 12 → μ' 115 j = μ 115 j) ∧ ∀ a, (a < 115 ∨ 127 ≤ a) → μ' a = μ a) := by
  obtain ⟨hC, B, hB, h12, hBg⟩ := hC.1 rfl
  obtain ⟨⟨w0, w1, w2, w3, w4, w5, w6⟩, wR⟩ := hW
  have hW : f_W G := ⟨⟨w0, w1, w2, w3, w4, w5, w6⟩, wR⟩
  refine x_K.of (by decide) (Nat.le_of_ble_eq_true rfl) ?_
  show x_T sc (d + 2) mX6_keepOfFair 0 [.ref 115, .int 0] [] μ w _
  refine xt_iload_n _ dX6_keepOfFair_0 rfl ?_
  refine xt_tabIn 40 dX6_keepOfFair_1 (by decide) (by decide) (by rfl) (by decide) ?_
  refine xt_aload_n _ dX6_keepOfFair_40 rfl ?_
  refine xt_getr _ dX6_keepOfFair_41 kfX6_12 (by first | exact sh115 | exact sh116 | exact sh128 | rfl | assumption) rfl ?_
  refine xt_aload_n _ dX6_keepOfFair_44 rfl ?_
  refine xt_getr _ dX6_keepOfFair_45 kfX6_36 (by first | exact sh115 | exact sh116 | exact sh128 | rfl | assumption) rfl ?_
  refine xt_iconst (0) dX6_keepOfFair_48 (by decide) ?_
  refine xt_ald dX6_keepOfFair_49 (by first | exact sh115 | exact sh116 | exact sh128 | rfl | assumption) (by unfold vp_in; decide) ?_
  refine xt_puti dX6_keepOfFair_50 kpX6_153 (by first | exact sh115 | exact sh116 | exact sh128 | rfl | assumption) rfl (by first | rfl | assumption) (by first | rfl | assumption) ?_
  refine xt_aload_n _ dX6_keepOfFair_53 rfl ?_
  refine xt_getr _ dX6_keepOfFair_54 kfX6_12 (by first | exact sh115 | exact sh116 | exact sh128 | rfl | assumption) rfl ?_
  refine xt_aload_n _ dX6_keepOfFair_57 rfl ?_
  refine xt_getr _ dX6_keepOfFair_58 kfX6_36 (by first | exact sh115 | exact sh116 | exact sh128 | rfl | assumption) rfl ?_
  refine xt_iconst (1) dX6_keepOfFair_61 (by decide) ?_
  refine xt_ald dX6_keepOfFair_62 (by first | exact sh115 | exact sh116 | exact sh128 | rfl | assumption) (by unfold vp_in; decide) ?_
  refine xt_puti dX6_keepOfFair_63 kpX6_156 (by first | exact sh115 | exact sh116 | exact sh128 | rfl | assumption) rfl (by first | rfl | assumption) (by first | rfl | assumption) ?_
  refine xt_goto 274 dX6_keepOfFair_66 (by decide) ?_
  refine xt_ret dX6_keepOfFair_274 rfl ?_
  refine ⟨rfl, ⟨fun _ => ⟨?_, B, hB, h12, hBg⟩, fun h => absurd rfl h, fun h => absurd h (by decide), fun h => absurd h (by decide)⟩, fun j _ => rfl, fun a ha => ?_⟩
  · obtain ⟨c0, c1, c2, c3, c4, c5⟩ := hC
    have en : ∀ x, 2 ≤ x ∨ x < 0 → s_kp 0 v G x = G x := fun x hx => s_rw_ne (b := 0) (st := 1) (k := 0) (n := 2) (fun i hi => by omega)
    have e0 : s_kp 0 v G 0 = v 0 := s_rw_at (G := G) (b := 0) (st := 1) (k := 0) (v := v) (j := 0) (n := 2) (by decide) (by decide)
    have e1 : s_kp 0 v G 1 = v 1 := s_rw_at (G := G) (b := 0) (st := 1) (k := 0) (v := v) (j := 1) (n := 2) (by decide) (by decide)
    refine ⟨fun j hj => ?_, ?_, ?_, fun i hi => ?_, ?_, ?_⟩
    · by_cases h1 : j = 1
      · rw [h1, x_u_eq, pk_us, e1]; exact hv 1 (by decide)
      · by_cases h0 : j = 0
        · rw [h0, x_u_eq, pk_un (by decide), x_u_eq, pk_us, e0]; exact hv 0 (by decide)
        · rw [x_u_eq, pk_un h1, x_u_eq, pk_un h0, en j (by omega)]; exact c0 j hj
    · intro g hg j hj
      rw [en 3 (by decide)] at hg
      rw [x_u_ne (by decide), x_u_ne (by decide), en _ (by omega)]; exact c1 g hg j hj
    · intro g hg j hj
      rw [en 4 (by decide)] at hg
      rw [x_u_ne (by decide), x_u_ne (by decide), en _ (by omega)]; exact c2 g hg j hj
    · rw [x_u_ne (by decide), x_u_ne (by decide), en _ (by omega)]; exact c3 i hi
    · intro g hg j hj
      rw [en 5 (by decide)] at hg
      rw [x_u_ne (by decide), x_u_ne (by decide), en _ (by omega)]; exact c4 g hg j hj
    · intro g hg j hj
      rw [en 6 (by decide)] at hg
      rw [x_u_ne (by decide), x_u_ne (by decide), en _ (by omega)]; exact c5 g hg j hj
  · rw [x_u_ne (by omega), x_u_ne (by omega)]
set_option maxHeartbeats 2000000 in
theorem tX6_keepF1 (G : Nat → Nat) (mx : Nat) (hW : f_W G) (hC : c_G μ 0 G mx) (v : Nat → Nat) (hv : ∀ i, i < 2 → μ 128 i = nI (v i)) (hr : s_rgl 1 v) (hc : G 4 < 8) : x_K sc (d + 2) mX6_keepOfFair [.ref 115, .int 1] μ w (fun r μ' _ => r = none ∧ c_G μ' 0 (s_kp 1 v G) (s_mxl 1 v mx) ∧ (∀ j, j ≠ 12 → μ' 115 j = μ 115 j) ∧ ∀ a, (a < 115 ∨ 127 ≤ a) → μ' a = μ a) := by
  obtain ⟨hC, B, hB, h12, hBg⟩ := hC.1 rfl
  obtain ⟨⟨w0, w1, w2, w3, w4, w5, w6⟩, wR⟩ := hW
  have hW : f_W G := ⟨⟨w0, w1, w2, w3, w4, w5, w6⟩, wR⟩
  have e4 : μ 116 4 = nI (G 4) := hC.1 4 (by decide)
  refine x_K.of (by decide) (Nat.le_of_ble_eq_true rfl) ?_
  show x_T sc (d + 2) mX6_keepOfFair 0 [.ref 115, .int 1] [] μ w _
  refine xt_iload_n _ dX6_keepOfFair_0 rfl ?_
  refine xt_tabIn 130 dX6_keepOfFair_1 (by decide) (by decide) (by rfl) (by decide) ?_
  refine xt_aload_n _ dX6_keepOfFair_130 rfl ?_
  refine xt_getr _ dX6_keepOfFair_131 kfX6_12 (by first | exact sh115 | exact sh116 | exact sh128 | rfl | assumption) rfl ?_
  refine xt_aload_n _ dX6_keepOfFair_134 rfl ?_
  refine xt_getr _ dX6_keepOfFair_135 kfX6_12 (by first | exact sh115 | exact sh116 | exact sh128 | rfl | assumption) rfl ?_
  refine xt_geti dX6_keepOfFair_138 kfX6_80 (by first | exact sh115 | exact sh116 | exact sh128 | rfl | assumption) rfl ?_
  refine xt_aload_n _ dX6_keepOfFair_141 rfl ?_
  refine xt_getr _ dX6_keepOfFair_142 kfX6_36 (by first | exact sh115 | exact sh116 | exact sh128 | rfl | assumption) rfl ?_
  refine xt_iconst (0) dX6_keepOfFair_145 (by decide) ?_
  refine xt_ald dX6_keepOfFair_146 (by first | exact sh115 | exact sh116 | exact sh128 | rfl | assumption) (by unfold vp_in; decide) ?_
  refine xt_aload_n _ dX6_keepOfFair_147 rfl ?_
  refine xt_getr _ dX6_keepOfFair_148 kfX6_36 (by first | exact sh115 | exact sh116 | exact sh128 | rfl | assumption) rfl ?_
  refine xt_iconst (1) dX6_keepOfFair_151 (by decide) ?_
  refine xt_ald dX6_keepOfFair_152 (by first | exact sh115 | exact sh116 | exact sh128 | rfl | assumption) (by unfold vp_in; decide) ?_
  rw [e4]
  rw [show ((0 : Int32).toNatClampNeg) = 0 from rfl, hv 0 (by decide)]
  rw [show ((1 : Int32).toNatClampNeg) = 1 from rfl, hv 1 (by decide)]
  refine xt_cV0 _ dX6_keepOfFair_153 klX6_166 (tX2_setPlace sc _ μ w 116 f_S116 (G 4) hc (nI (v 0)) (nI (v 1))) sh116 rfl rfl (Nat.le_of_ble_eq_true rfl) ?_
  change x_T _ _ _ _ _ _ (x_u μ 118 (s_wr (μ 118) (2 * G 4) v 2)) _ _
  refine xt_aload_n _ dX6_keepOfFair_156 rfl ?_
  refine xt_getr _ dX6_keepOfFair_157 kfX6_12 (by first | exact sh115 | exact sh116 | exact sh128 | rfl | assumption) rfl ?_
  refine xt_dup dX6_keepOfFair_160 rfl ?_
  refine xt_geti dX6_keepOfFair_161 kfX6_80 (by first | exact sh115 | exact sh116 | exact sh128 | rfl | assumption) rfl ?_
  refine xt_iconst (1) dX6_keepOfFair_164 (by decide) ?_
  refine xt_iadd dX6_keepOfFair_165 ?_
  refine xt_puti dX6_keepOfFair_166 kpX6_80 (by first | exact sh115 | exact sh116 | exact sh128 | rfl | assumption) rfl (by first | rfl | assumption) (by first | rfl | assumption) ?_
  refine xt_goto 274 dX6_keepOfFair_169 (by decide) ?_
  refine xt_ret dX6_keepOfFair_274 rfl ?_
  refine ⟨rfl, ⟨fun _ => ⟨f_C_row1 hW hC hc ?_ ?_ ?_ ?_, B, hB, h12, hBg⟩, fun h => absurd rfl h, fun h => absurd h (by decide), fun h => absurd h (by decide)⟩, fun j _ => rfl, fun a ha => by rw [x_u_ne (by omega), x_u_ne (by omega)]⟩
  · rw [x_u_eq, pk_us, x_u_ne (by decide), e4, nI_succ]
  · intro j hj; rw [x_u_eq, pk_un hj, x_u_ne (by decide)]
  · rw [x_u_ne (by decide), x_u_eq]
  · intro a h1 h2 h3; rw [x_u_ne (by omega), x_u_ne h3]
set_option maxHeartbeats 2000000 in
theorem tX6_keepF2 (G : Nat → Nat) (mx : Nat) (hW : f_W G) (hC : c_G μ 0 G mx) (v : Nat → Nat) (hv : ∀ i, i < 1 → μ 128 i = nI (v i)) (hr : s_rgl 2 v) : x_K sc (d + 2) mX6_keepOfFair [.ref 115, .int 2] μ w (fun r μ' _ => r = none ∧ c_G μ' 0 (s_kp 2 v G) (s_mxl 2 v mx) ∧ (∀ j, j ≠ 12 → μ' 115 j = μ 115 j) ∧ ∀ a, (a < 115 ∨ 127 ≤ a) → μ' a = μ a) := by
  obtain ⟨hC, B, hB, h12, hBg⟩ := hC.1 rfl
  obtain ⟨⟨w0, w1, w2, w3, w4, w5, w6⟩, wR⟩ := hW
  have hW : f_W G := ⟨⟨w0, w1, w2, w3, w4, w5, w6⟩, wR⟩
  refine x_K.of (by decide) (Nat.le_of_ble_eq_true rfl) ?_
  show x_T sc (d + 2) mX6_keepOfFair 0 [.ref 115, .int 2] [] μ w _
  refine xt_iload_n _ dX6_keepOfFair_0 rfl ?_
  refine xt_tabIn 69 dX6_keepOfFair_1 (by decide) (by decide) (by rfl) (by decide) ?_
  refine xt_aload_n _ dX6_keepOfFair_69 rfl ?_
  refine xt_getr _ dX6_keepOfFair_70 kfX6_12 (by first | exact sh115 | exact sh116 | exact sh128 | rfl | assumption) rfl ?_
  refine xt_aload_n _ dX6_keepOfFair_73 rfl ?_
  refine xt_getr _ dX6_keepOfFair_74 kfX6_36 (by first | exact sh115 | exact sh116 | exact sh128 | rfl | assumption) rfl ?_
  refine xt_iconst (0) dX6_keepOfFair_77 (by decide) ?_
  refine xt_ald dX6_keepOfFair_78 (by first | exact sh115 | exact sh116 | exact sh128 | rfl | assumption) (by unfold vp_in; decide) ?_
  refine xt_puti dX6_keepOfFair_79 kpX6_159 (by first | exact sh115 | exact sh116 | exact sh128 | rfl | assumption) rfl (by first | rfl | assumption) (by first | rfl | assumption) ?_
  refine xt_goto 274 dX6_keepOfFair_82 (by decide) ?_
  refine xt_ret dX6_keepOfFair_274 rfl ?_
  refine ⟨rfl, ⟨fun _ => ⟨?_, B, hB, h12, hBg⟩, fun h => absurd rfl h, fun h => absurd h (by decide), fun h => absurd h (by decide)⟩, fun j _ => rfl, fun a ha => ?_⟩
  · obtain ⟨c0, c1, c2, c3, c4, c5⟩ := hC
    have en : ∀ x, 3 ≤ x ∨ x < 2 → s_kp 2 v G x = G x := fun x hx => s_rw_ne (b := 2) (st := 1) (k := 0) (n := 1) (fun i hi => by omega)
    have e0 : s_kp 2 v G 2 = v 0 := s_rw_at (G := G) (b := 2) (st := 1) (k := 0) (v := v) (j := 0) (n := 1) (by decide) (by decide)
    refine ⟨fun j hj => ?_, ?_, ?_, fun i hi => ?_, ?_, ?_⟩
    · by_cases h1 : j = 2
      · rw [h1, x_u_eq, pk_us, e0]; exact hv 0 (by decide)
      · rw [x_u_eq, pk_un h1, en j (by omega)]; exact c0 j hj
    · intro g hg j hj
      rw [en 3 (by decide)] at hg
      rw [x_u_ne (by decide), en _ (by omega)]; exact c1 g hg j hj
    · intro g hg j hj
      rw [en 4 (by decide)] at hg
      rw [x_u_ne (by decide), en _ (by omega)]; exact c2 g hg j hj
    · rw [x_u_ne (by decide), en _ (by omega)]; exact c3 i hi
    · intro g hg j hj
      rw [en 5 (by decide)] at hg
      rw [x_u_ne (by decide), en _ (by omega)]; exact c4 g hg j hj
    · intro g hg j hj
      rw [en 6 (by decide)] at hg
      rw [x_u_ne (by decide), en _ (by omega)]; exact c5 g hg j hj
  · rw [x_u_ne (by omega)]
set_option maxHeartbeats 2000000 in
theorem tX6_keepF3 (G : Nat → Nat) (mx : Nat) (hW : f_W G) (hC : c_G μ 0 G mx) (v : Nat → Nat) (hv : ∀ i, i < 3 → μ 128 i = nI (v i)) (hr : s_rgl 3 v) (hc : G 3 < 6) : x_K sc (d + 2) mX6_keepOfFair [.ref 115, .int 3] μ w (fun r μ' _ => r = none ∧ c_G μ' 0 (s_kp 3 v G) (s_mxl 3 v mx) ∧ (∀ j, j ≠ 12 → μ' 115 j = μ 115 j) ∧ ∀ a, (a < 115 ∨ 127 ≤ a) → μ' a = μ a) := by
  obtain ⟨hC, B, hB, h12, hBg⟩ := hC.1 rfl
  obtain ⟨⟨w0, w1, w2, w3, w4, w5, w6⟩, wR⟩ := hW
  have hW : f_W G := ⟨⟨w0, w1, w2, w3, w4, w5, w6⟩, wR⟩
  have e4 : μ 116 3 = nI (G 3) := hC.1 3 (by decide)
  refine x_K.of (by decide) (Nat.le_of_ble_eq_true rfl) ?_
  show x_T sc (d + 2) mX6_keepOfFair 0 [.ref 115, .int 3] [] μ w _
  refine xt_iload_n _ dX6_keepOfFair_0 rfl ?_
  refine xt_tabIn 172 dX6_keepOfFair_1 (by decide) (by decide) (by rfl) (by decide) ?_
  refine xt_aload_n _ dX6_keepOfFair_172 rfl ?_
  refine xt_aload_n _ dX6_keepOfFair_173 rfl ?_
  refine xt_getr _ dX6_keepOfFair_174 kfX6_12 (by first | exact sh115 | exact sh116 | exact sh128 | rfl | assumption) rfl ?_
  refine xt_getr _ dX6_keepOfFair_177 kfX6_169 (by first | exact sh115 | exact sh116 | exact sh128 | rfl | assumption) rfl ?_
  refine xt_aload_n _ dX6_keepOfFair_180 rfl ?_
  refine xt_getr _ dX6_keepOfFair_181 kfX6_12 (by first | exact sh115 | exact sh116 | exact sh128 | rfl | assumption) rfl ?_
  refine xt_geti dX6_keepOfFair_184 kfX6_127 (by first | exact sh115 | exact sh116 | exact sh128 | rfl | assumption) rfl ?_
  refine xt_iconst (3) dX6_keepOfFair_187 (by decide) ?_
  rw [e4]
  refine xt_callV _ dX6_keepOfFair_188 klX6_172 (tX6_keepRow sc _ μ w 117 18 (G 3) 3 v rfl (by decide) (by omega) (by decide) (by decide) (by decide) hv) sh115 rfl rfl (Nat.le_of_ble_eq_true rfl) (fun r2 μ2 w2 q2 => ?_)
  obtain ⟨rfl, rfl⟩ := q2
  change x_T _ _ _ _ _ _ _ _ _
  refine xt_aload_n _ dX6_keepOfFair_191 rfl ?_
  refine xt_getr _ dX6_keepOfFair_192 kfX6_12 (by first | exact sh115 | exact sh116 | exact sh128 | rfl | assumption) rfl ?_
  refine xt_dup dX6_keepOfFair_195 rfl ?_
  refine xt_geti dX6_keepOfFair_196 kfX6_127 (by first | exact sh115 | exact sh116 | exact sh128 | rfl | assumption) rfl ?_
  refine xt_iconst (1) dX6_keepOfFair_199 (by decide) ?_
  refine xt_iadd dX6_keepOfFair_200 ?_
  refine xt_puti dX6_keepOfFair_201 kpX6_127 (by first | exact sh115 | exact sh116 | exact sh128 | rfl | assumption) rfl (by first | rfl | assumption) (by first | rfl | assumption) ?_
  refine xt_goto 274 dX6_keepOfFair_204 (by decide) ?_
  refine xt_ret dX6_keepOfFair_274 rfl ?_
  refine ⟨rfl, ⟨fun _ => ⟨f_C_row3 hW hC hc ?_ ?_ ?_ ?_, B, hB, h12, hBg⟩, fun h => absurd rfl h, fun h => absurd h (by decide), fun h => absurd h (by decide)⟩, fun j _ => rfl, fun a ha => by rw [x_u_ne (by omega), x_u_ne (by omega)]⟩
  · rw [x_u_eq, pk_us, x_u_ne (by decide), e4, nI_succ]
  · intro j hj; rw [x_u_eq, pk_un hj, x_u_ne (by decide)]
  · rw [x_u_ne (by decide), x_u_eq]
  · intro a h1 h2 h3; rw [x_u_ne (by omega), x_u_ne h3]
set_option maxHeartbeats 2000000 in
theorem tX6_keepF4 (G : Nat → Nat) (mx : Nat) (hW : f_W G) (hC : c_G μ 0 G mx) (v : Nat → Nat) (hv : ∀ i, i < 3 → μ 128 i = nI (v i)) (hr : s_rgl 4 v) : x_K sc (d + 2) mX6_keepOfFair [.ref 115, .int 4] μ w (fun r μ' _ => r = none ∧ c_G μ' 0 (s_kp 4 v G) (s_mxl 4 v mx) ∧ (∀ j, j ≠ 12 → μ' 115 j = μ 115 j) ∧ ∀ a, (a < 115 ∨ 127 ≤ a) → μ' a = μ a) := by
  obtain ⟨hC, B, hB, h12, hBg⟩ := hC.1 rfl
  obtain ⟨⟨w0, w1, w2, w3, w4, w5, w6⟩, wR⟩ := hW
  have hW : f_W G := ⟨⟨w0, w1, w2, w3, w4, w5, w6⟩, wR⟩
  have r0 : v 0 ≤ 7 := (hr 0 (by decide)).2
  have r1 : v 1 ≤ 5 := (hr 1 (by decide)).2
  refine x_K.of (by decide) (Nat.le_of_ble_eq_true rfl) ?_
  show x_T sc (d + 2) mX6_keepOfFair 0 [.ref 115, .int 4] [] μ w _
  refine xt_iload_n _ dX6_keepOfFair_0 rfl ?_
  refine xt_tabIn 85 dX6_keepOfFair_1 (by decide) (by decide) (by rfl) (by decide) ?_
  refine xt_aload_n _ dX6_keepOfFair_85 rfl ?_
  refine xt_getr _ dX6_keepOfFair_86 kfX6_12 (by first | exact sh115 | exact sh116 | exact sh128 | rfl | assumption) rfl ?_
  refine xt_aload_n _ dX6_keepOfFair_89 rfl ?_
  refine xt_getr _ dX6_keepOfFair_90 kfX6_36 (by first | exact sh115 | exact sh116 | exact sh128 | rfl | assumption) rfl ?_
  refine xt_iconst (0) dX6_keepOfFair_93 (by decide) ?_
  refine xt_ald dX6_keepOfFair_94 (by first | exact sh115 | exact sh116 | exact sh128 | rfl | assumption) (by unfold vp_in; decide) ?_
  refine xt_aload_n _ dX6_keepOfFair_95 rfl ?_
  refine xt_getr _ dX6_keepOfFair_96 kfX6_36 (by first | exact sh115 | exact sh116 | exact sh128 | rfl | assumption) rfl ?_
  refine xt_iconst (1) dX6_keepOfFair_99 (by decide) ?_
  refine xt_ald dX6_keepOfFair_100 (by first | exact sh115 | exact sh116 | exact sh128 | rfl | assumption) (by unfold vp_in; decide) ?_
  refine xt_aload_n _ dX6_keepOfFair_101 rfl ?_
  refine xt_getr _ dX6_keepOfFair_102 kfX6_36 (by first | exact sh115 | exact sh116 | exact sh128 | rfl | assumption) rfl ?_
  refine xt_iconst (2) dX6_keepOfFair_105 (by decide) ?_
  refine xt_ald dX6_keepOfFair_106 (by first | exact sh115 | exact sh116 | exact sh128 | rfl | assumption) (by unfold vp_in; decide) ?_
  rw [show ((0 : Int32).toNatClampNeg) = 0 from rfl, hv 0 (by decide)]
  rw [show ((1 : Int32).toNatClampNeg) = 1 from rfl, hv 1 (by decide)]
  rw [show ((2 : Int32).toNatClampNeg) = 2 from rfl, hv 2 (by decide)]
  refine xt_cV0 _ dX6_keepOfFair_107 klX6_162 (tX2_setWrongs sc _ μ w 116 f_S116 (v 0) (v 1) (by omega) (by omega) (nI (v 2))) sh116 rfl rfl (Nat.le_of_ble_eq_true rfl) ?_
  refine xt_aload_n _ dX6_keepOfFair_110 rfl ?_
  refine xt_dup dX6_keepOfFair_111 rfl ?_
  refine xt_geti dX6_keepOfFair_112 kfX6_70 (by first | exact sh115 | exact sh116 | exact sh128 | rfl | assumption) rfl ?_
  refine xt_iconst (1) dX6_keepOfFair_115 (by decide) ?_
  refine xt_aload_n _ dX6_keepOfFair_116 rfl ?_
  refine xt_getr _ dX6_keepOfFair_117 kfX6_36 (by first | exact sh115 | exact sh116 | exact sh128 | rfl | assumption) rfl ?_
  refine xt_iconst (0) dX6_keepOfFair_120 (by decide) ?_
  refine xt_ald dX6_keepOfFair_121 (by first | exact sh115 | exact sh116 | exact sh128 | rfl | assumption) (by unfold vp_in; decide) ?_
  rw [show (0 : Int32).toNatClampNeg = 0 from rfl, x_u_ne (by decide), hv 0 (by decide)]
  refine xt_ishl dX6_keepOfFair_122 ?_
  refine xt_ior dX6_keepOfFair_123 ?_
  rw [x_u_ne (by decide), h12, x_1sh (by omega), nI_or]
  refine xt_puti dX6_keepOfFair_124 kpX6_70 (by first | exact sh115 | exact sh116 | exact sh128 | rfl | assumption) rfl (by first | rfl | assumption) (by first | rfl | assumption) ?_
  refine xt_goto 274 dX6_keepOfFair_127 (by decide) ?_
  refine xt_ret dX6_keepOfFair_274 rfl ?_
  refine ⟨rfl, ⟨fun _ => ⟨?_, B ||| 2 ^ v 0, (s_orB B hB (v 0) (by omega)).1, by rw [x_u_eq, pk_us], fun g hg => ?_⟩, fun h => absurd rfl h, fun h => absurd h (by decide), fun h => absurd h (by decide)⟩, fun j hj => by rw [x_u_eq, pk_un hj, x_u_ne (by decide)], fun a ha => by rw [x_u_ne (by omega), x_u_ne (by omega)]⟩
  · obtain ⟨c0, c1, c2, c3, c4, c5⟩ := hC
    have en : ∀ x, x ≠ 41 + (6 * v 0 + v 1) → s_kp 4 v G x = G x := fun x hx => by
      show s_up G (41 + (6 * v 0 + v 1)) (v 2) x = G x
      rw [s_up, if_neg hx]
    refine ⟨fun j hj => ?_, ?_, ?_, fun i hi => ?_, ?_, ?_⟩
    · rw [x_u_ne (by decide), x_u_ne (by decide), en j (by omega)]; exact c0 j hj
    · intro g hg j hj
      rw [en 3 (by omega)] at hg
      rw [x_u_ne (by decide), x_u_ne (by decide), en _ (by omega)]; exact c1 g hg j hj
    · intro g hg j hj
      rw [en 4 (by omega)] at hg
      rw [x_u_ne (by decide), x_u_ne (by decide), en _ (by omega)]; exact c2 g hg j hj
    · rw [x_u_ne (by decide), x_u_eq]
      by_cases he : i = 6 * v 0 + v 1
      · rw [he, pk_us]
        show _ = nI (s_up G (41 + (6 * v 0 + v 1)) (v 2) (41 + (6 * v 0 + v 1)))
        rw [s_up, if_pos rfl]
      · rw [pk_un he, en _ (by omega)]; exact c3 i hi
    · intro g hg j hj
      rw [en 5 (by omega)] at hg
      rw [x_u_ne (by decide), x_u_ne (by decide), en _ (by omega)]; exact c4 g hg j hj
    · intro g hg j hj
      rw [en 6 (by omega)] at hg
      rw [x_u_ne (by decide), x_u_ne (by decide), en _ (by omega)]; exact c5 g hg j hj
  · rw [(s_orB B hB (v 0) (by omega)).2 g hg, hBg g hg]
    show g < mx ∨ g ≤ v 0 ↔ g < max mx (v 0 + 1)
    omega
set_option maxHeartbeats 2000000 in
theorem tX6_keepF5 (G : Nat → Nat) (mx : Nat) (hW : f_W G) (hC : c_G μ 0 G mx) (v : Nat → Nat) (hv : ∀ i, i < 2 → μ 128 i = nI (v i)) (hr : s_rgl 5 v) (hc : G 5 < 6) : x_K sc (d + 2) mX6_keepOfFair [.ref 115, .int 5] μ w (fun r μ' _ => r = none ∧ c_G μ' 0 (s_kp 5 v G) (s_mxl 5 v mx) ∧ (∀ j, j ≠ 12 → μ' 115 j = μ 115 j) ∧ ∀ a, (a < 115 ∨ 127 ≤ a) → μ' a = μ a) := by
  obtain ⟨hC, B, hB, h12, hBg⟩ := hC.1 rfl
  obtain ⟨⟨w0, w1, w2, w3, w4, w5, w6⟩, wR⟩ := hW
  have hW : f_W G := ⟨⟨w0, w1, w2, w3, w4, w5, w6⟩, wR⟩
  have e4 : μ 116 5 = nI (G 5) := hC.1 5 (by decide)
  refine x_K.of (by decide) (Nat.le_of_ble_eq_true rfl) ?_
  show x_T sc (d + 2) mX6_keepOfFair 0 [.ref 115, .int 5] [] μ w _
  refine xt_iload_n _ dX6_keepOfFair_0 rfl ?_
  refine xt_tabIn 207 dX6_keepOfFair_1 (by decide) (by decide) (by rfl) (by decide) ?_
  refine xt_aload_n _ dX6_keepOfFair_207 rfl ?_
  refine xt_aload_n _ dX6_keepOfFair_208 rfl ?_
  refine xt_getr _ dX6_keepOfFair_209 kfX6_12 (by first | exact sh115 | exact sh116 | exact sh128 | rfl | assumption) rfl ?_
  refine xt_getr _ dX6_keepOfFair_212 kfX6_175 (by first | exact sh115 | exact sh116 | exact sh128 | rfl | assumption) rfl ?_
  refine xt_aload_n _ dX6_keepOfFair_215 rfl ?_
  refine xt_getr _ dX6_keepOfFair_216 kfX6_12 (by first | exact sh115 | exact sh116 | exact sh128 | rfl | assumption) rfl ?_
  refine xt_geti dX6_keepOfFair_219 kfX6_130 (by first | exact sh115 | exact sh116 | exact sh128 | rfl | assumption) rfl ?_
  refine xt_iconst (2) dX6_keepOfFair_222 (by decide) ?_
  rw [e4]
  refine xt_callV _ dX6_keepOfFair_223 klX6_172 (tX6_keepRow sc _ μ w 120 12 (G 5) 2 v rfl (by decide) (by omega) (by decide) (by decide) (by decide) hv) sh115 rfl rfl (Nat.le_of_ble_eq_true rfl) (fun r2 μ2 w2 q2 => ?_)
  obtain ⟨rfl, rfl⟩ := q2
  change x_T _ _ _ _ _ _ _ _ _
  refine xt_aload_n _ dX6_keepOfFair_226 rfl ?_
  refine xt_getr _ dX6_keepOfFair_227 kfX6_12 (by first | exact sh115 | exact sh116 | exact sh128 | rfl | assumption) rfl ?_
  refine xt_dup dX6_keepOfFair_230 rfl ?_
  refine xt_geti dX6_keepOfFair_231 kfX6_130 (by first | exact sh115 | exact sh116 | exact sh128 | rfl | assumption) rfl ?_
  refine xt_iconst (1) dX6_keepOfFair_234 (by decide) ?_
  refine xt_iadd dX6_keepOfFair_235 ?_
  refine xt_puti dX6_keepOfFair_236 kpX6_130 (by first | exact sh115 | exact sh116 | exact sh128 | rfl | assumption) rfl (by first | rfl | assumption) (by first | rfl | assumption) ?_
  refine xt_goto 274 dX6_keepOfFair_239 (by decide) ?_
  refine xt_ret dX6_keepOfFair_274 rfl ?_
  refine ⟨rfl, ⟨fun _ => ⟨f_C_row5 hW hC hc ?_ ?_ ?_ ?_, B, hB, h12, hBg⟩, fun h => absurd rfl h, fun h => absurd h (by decide), fun h => absurd h (by decide)⟩, fun j _ => rfl, fun a ha => by rw [x_u_ne (by omega), x_u_ne (by omega)]⟩
  · rw [x_u_eq, pk_us, x_u_ne (by decide), e4, nI_succ]
  · intro j hj; rw [x_u_eq, pk_un hj, x_u_ne (by decide)]
  · rw [x_u_ne (by decide), x_u_eq]
  · intro a h1 h2 h3; rw [x_u_ne (by omega), x_u_ne h3]
set_option maxHeartbeats 2000000 in
theorem tX6_keepF6 (G : Nat → Nat) (mx : Nat) (hW : f_W G) (hC : c_G μ 0 G mx) (v : Nat → Nat) (hv : ∀ i, i < 4 → μ 128 i = nI (v i)) (hr : s_rgl 6 v) (hc : G 6 < 6) : x_K sc (d + 2) mX6_keepOfFair [.ref 115, .int 6] μ w (fun r μ' _ => r = none ∧ c_G μ' 0 (s_kp 6 v G) (s_mxl 6 v mx) ∧ (∀ j, j ≠ 12 → μ' 115 j = μ 115 j) ∧ ∀ a, (a < 115 ∨ 127 ≤ a) → μ' a = μ a) := by
  obtain ⟨hC, B, hB, h12, hBg⟩ := hC.1 rfl
  obtain ⟨⟨w0, w1, w2, w3, w4, w5, w6⟩, wR⟩ := hW
  have hW : f_W G := ⟨⟨w0, w1, w2, w3, w4, w5, w6⟩, wR⟩
  have e4 : μ 116 6 = nI (G 6) := hC.1 6 (by decide)
  refine x_K.of (by decide) (Nat.le_of_ble_eq_true rfl) ?_
  show x_T sc (d + 2) mX6_keepOfFair 0 [.ref 115, .int 6] [] μ w _
  refine xt_iload_n _ dX6_keepOfFair_0 rfl ?_
  refine xt_tabOut 242 dX6_keepOfFair_1 (by decide) (by decide) ?_
  refine xt_aload_n _ dX6_keepOfFair_242 rfl ?_
  refine xt_aload_n _ dX6_keepOfFair_243 rfl ?_
  refine xt_getr _ dX6_keepOfFair_244 kfX6_12 (by first | exact sh115 | exact sh116 | exact sh128 | rfl | assumption) rfl ?_
  refine xt_getr _ dX6_keepOfFair_247 kfX6_178 (by first | exact sh115 | exact sh116 | exact sh128 | rfl | assumption) rfl ?_
  refine xt_aload_n _ dX6_keepOfFair_250 rfl ?_
  refine xt_getr _ dX6_keepOfFair_251 kfX6_12 (by first | exact sh115 | exact sh116 | exact sh128 | rfl | assumption) rfl ?_
  refine xt_geti dX6_keepOfFair_254 kfX6_133 (by first | exact sh115 | exact sh116 | exact sh128 | rfl | assumption) rfl ?_
  refine xt_iconst (4) dX6_keepOfFair_257 (by decide) ?_
  rw [e4]
  refine xt_callV _ dX6_keepOfFair_258 klX6_172 (tX6_keepRow sc _ μ w 121 24 (G 6) 4 v rfl (by decide) (by omega) (by decide) (by decide) (by decide) hv) sh115 rfl rfl (Nat.le_of_ble_eq_true rfl) (fun r2 μ2 w2 q2 => ?_)
  obtain ⟨rfl, rfl⟩ := q2
  change x_T _ _ _ _ _ _ _ _ _
  refine xt_aload_n _ dX6_keepOfFair_261 rfl ?_
  refine xt_getr _ dX6_keepOfFair_262 kfX6_12 (by first | exact sh115 | exact sh116 | exact sh128 | rfl | assumption) rfl ?_
  refine xt_dup dX6_keepOfFair_265 rfl ?_
  refine xt_geti dX6_keepOfFair_266 kfX6_133 (by first | exact sh115 | exact sh116 | exact sh128 | rfl | assumption) rfl ?_
  refine xt_iconst (1) dX6_keepOfFair_269 (by decide) ?_
  refine xt_iadd dX6_keepOfFair_270 ?_
  refine xt_puti dX6_keepOfFair_271 kpX6_133 (by first | exact sh115 | exact sh116 | exact sh128 | rfl | assumption) rfl (by first | rfl | assumption) (by first | rfl | assumption) ?_
  refine xt_ret dX6_keepOfFair_274 rfl ?_
  refine ⟨rfl, ⟨fun _ => ⟨f_C_row6 hW hC hc ?_ ?_ ?_ ?_, B, hB, h12, hBg⟩, fun h => absurd rfl h, fun h => absurd h (by decide), fun h => absurd h (by decide)⟩, fun j _ => rfl, fun a ha => by rw [x_u_ne (by omega), x_u_ne (by omega)]⟩
  · rw [x_u_eq, pk_us, x_u_ne (by decide), e4, nI_succ]
  · intro j hj; rw [x_u_eq, pk_un hj, x_u_ne (by decide)]
  · rw [x_u_ne (by decide), x_u_eq]
  · intro a h1 h2 h3; rw [x_u_ne (by omega), x_u_ne h3]
end KEEP
