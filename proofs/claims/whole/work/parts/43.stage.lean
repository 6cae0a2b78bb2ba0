/-! a FAIR on a DAY: the state that comes; the class's Stage -/
abbrev s_St : Type := (Nat → Nat) × (Nat → Nat)
/-- the counters: 1 tunes, 2 stopped, 3 last (one more), 4 first (one more), 5 playing, 6 longest, 7 asked, 8 found, 9 asks, 10 mended, 11 done, 12 farthest -/
def s_dec (i v : Nat) : Int32 := if i = 3 ∨ i = 4 then eI v else nI v
def c_St (μ : x_Me) (σ : s_St) : Prop := f_C μ 130 σ.1 ∧ ∀ i, 1 ≤ i → i ≤ 12 → μ 129 i = s_dec i (σ.2 i)
def s_ok (σ : s_St) : Prop := f_W σ.1 ∧ σ.2 1 ≤ 99 ∧ σ.2 5 ≤ σ.2 1 ∧ σ.2 6 ≤ 99 ∧ σ.2 12 ≤ 18 ∧ σ.2 4 ≤ 100 ∧ σ.2 3 ≤ 2
def s_up (c : Nat → Nat) (j v : Nat) : Nat → Nat := fun i => if i = j then v else c i
theorem s_up_s {c : Nat → Nat} {j v : Nat} : s_up c j v j = v := if_pos rfl
theorem s_up_n {c : Nat → Nat} {i j v : Nat} (h : i ≠ j) : s_up c j v i = c i := if_neg h
def s_stops (σ : s_St) : Bool := s_slant σ.1 (σ.2 1 + 1) || !decide (s_offs σ.1 (fun _ => false) = 0)
def s_tcc (c : Nat → Nat) (b : Bool) : Nat → Nat := fun i => if i = 1 then c 1 + 1 else if i = 2 then (if b then c 2 + 1 else c 2) else if i = 3 then (if b then 2 else 1) else if i = 4 then (if b then (if c 4 = 0 then c 1 + 2 else c 4) else c 4) else if i = 5 then (if b then 0 else c 5 + 1) else if i = 6 then (if b then c 6 else max (c 6) (c 5 + 1)) else c i
def s_tune (σ : s_St) : Bool × s_St := if σ.2 1 < 99 then (true, (σ.1, s_tcc σ.2 (s_stops σ))) else (false, σ)
def s_fit (σ : s_St) : Bool × s_St := if σ.1 2 = 0 then (false, σ) else (true, (s_up σ.1 2 0, σ.2))
def s_ac (c : Nat → Nat) (g : Nat) (b : Bool) : Nat → Nat := fun i => if i = 9 then c 9 + 1 else if i = 7 then c 7 ||| 2 ^ g else if i = 8 then (if b then c 8 ||| 2 ^ g else c 8) else c i
def s_ask (σ : s_St) (g : Nat) : Bool × s_St := (true, (σ.1, s_ac σ.2 g (s_off σ.1 (fun _ => false) 0 g)))
def s_wlk (σ : s_St) (g x y : Nat) : Bool × s_St := (true, (s_mg σ.1 g (10 * x + y), s_up σ.2 12 (max (σ.2 12) (s_farG σ.1 g x y))))
def s_mnd (σ : s_St) (g k n : Nat) : Bool × s_St := if σ.1 (41 + (6 * g + k)) < n then (false, σ) else (true, (s_up σ.1 (41 + (6 * g + k)) (σ.1 (41 + (6 * g + k)) - n), s_up σ.2 10 (σ.2 10 + n)))
def s_dow (σ : s_St) (g k n : Nat) : Bool × s_St := if 9 < σ.1 (41 + (6 * g + k)) + n then (false, σ) else (true, (s_up σ.1 (41 + (6 * g + k)) (σ.1 (41 + (6 * g + k)) + n), s_up σ.2 11 (σ.2 11 + n)))
def s_act (σ : s_St) (s a b c : Nat) : Bool × s_St := if s = 0 then s_tune σ else if s = 1 then s_fit σ else if ¬ a < σ.1 4 then (false, σ) else if s = 2 then s_ask σ a else if s = 3 then s_wlk σ a b c else if s = 4 then s_mnd σ a b c else s_dow σ a b c
/-- the numbers of a DEED that are looked at -/
def q_d (A0 A1 A2 A3 : Int32) (s a b c : Nat) : Prop := A0 = nI s ∧ s ≤ 5 ∧ (2 ≤ s → A1 = nI a ∧ a ≤ 7) ∧ (3 ≤ s → A2 = nI b ∧ A3 = nI c ∧ b ≤ 9 ∧ c ≤ 9 ∧ (3 < s → b ≤ 5 ∧ 1 ≤ c))
theorem s_up_W2 {G : Nat → Nat} (hW : f_W G) : f_W (s_up G 2 0) := by
  obtain ⟨⟨h0, h1, h2, h3, h4, h5, h6⟩, a, b, c, e, q⟩ := hW
  have k : ∀ {i : Nat}, i ≠ 2 → s_up G 2 0 i = G i := fun h => s_up_n h
  refine ⟨⟨h0, h1, Nat.zero_le _, h3, h4, h5, h6⟩, fun m hm => ?_, fun m hm => ?_, fun m hm => ?_, fun m hm => ?_, fun m hm => ?_⟩
  · rw [k (by omega), k (by omega), k (by omega)]; exact a m hm
  · rw [k (by omega), k (by omega)]; exact b m hm
  · rw [k (by omega)]; exact c m hm
  · rw [k (by omega), k (by omega)]; exact e m hm
  · rw [k (by omega), k (by omega), k (by omega), k (by omega)]; exact q m hm
theorem s_up_W {G : Nat → Nat} (hW : f_W G) {j v : Nat} (hj : j < 48) (hv : v ≤ 9) : f_W (s_up G (41 + j) v) := by
  obtain ⟨⟨h0, h1, h2, h3, h4, h5, h6⟩, a, b, c, e, q⟩ := hW
  have k : ∀ {i : Nat}, i < 41 ∨ 89 ≤ i → s_up G (41 + j) v i = G i := fun h => s_up_n (by omega)
  refine ⟨⟨by rw [k (by omega)]; exact h0, by rw [k (by omega)]; exact h1, by rw [k (by omega)]; exact h2, by rw [k (by omega)]; exact h3, by rw [k (by omega)]; exact h4, by rw [k (by omega)]; exact h5, by rw [k (by omega)]; exact h6⟩, fun m hm => ?_, fun m hm => ?_, fun m hm => ?_, fun m hm => ?_, fun m hm => ?_⟩
  · rw [k (by omega)] at hm; rw [k (by omega), k (by omega), k (by omega)]; exact a m hm
  · rw [k (by omega)] at hm; rw [k (by omega), k (by omega)]; exact b m hm
  · by_cases h : m = j
    · subst h; rw [s_up_s]; exact hv
    · rw [s_up_n (by omega)]; exact c m hm
  · rw [k (by omega)] at hm; rw [k (by omega), k (by omega)]; exact e m hm
  · rw [k (by omega)] at hm; rw [k (by omega), k (by omega), k (by omega), k (by omega)]; exact q m hm
theorem s_act_ok {σ : s_St} (h : s_ok σ) {s a b c : Nat} (hs : 3 ≤ s → b ≤ 9 ∧ c ≤ 9 ∧ (3 < s → b ≤ 5)) : s_ok (s_act σ s a b c).2 := by
  obtain ⟨hW, h1, h5, h6, h12, h4, h3⟩ := h
  have h8 : σ.1 4 ≤ 8 := hW.1.2.2.2.2.1
  have hok : s_ok σ := ⟨hW, h1, h5, h6, h12, h4, h3⟩
  unfold s_act
  split
  · unfold s_tune; split
    · cases hb : s_stops σ
      · refine ⟨hW, ?_, ?_, ?_, h12, h4, ?_⟩
        · show σ.2 1 + 1 ≤ 99; omega
        · show σ.2 5 + 1 ≤ σ.2 1 + 1; omega
        · show max (σ.2 6) (σ.2 5 + 1) ≤ 99; omega
        · show 1 ≤ 2; omega
      · refine ⟨hW, ?_, ?_, h6, h12, ?_, ?_⟩
        · show σ.2 1 + 1 ≤ 99; omega
        · show 0 ≤ σ.2 1 + 1; omega
        · show (if σ.2 4 = 0 then σ.2 1 + 2 else σ.2 4) ≤ 100; split <;> omega
        · show 2 ≤ 2; omega
    · exact hok
  · split
    · unfold s_fit; split
      · exact hok
      · exact ⟨s_up_W2 hW, h1, h5, h6, h12, h4, h3⟩
    · split
      · exact hok
      · rename_i hs0 hs1 ha
        have ha8 : a < σ.1 4 := by omega
        split
        · exact ⟨hW, h1, h5, h6, h12, h4, h3⟩
        · split
          · rename_i hs2 hs3
            have hb := hs (by omega)
            refine ⟨s_mg_W hW (by omega) (by omega), h1, h5, h6, ?_, h4, h3⟩
            have := s_farG_le hW ha8 hb.1 hb.2.1
            show max (σ.2 12) (s_farG σ.1 a b c) ≤ 18; omega
          · split
            · rename_i hs2 hs3 hs4
              have hb := hs (by omega)
              have hb5 := hb.2.2 (by omega)
              have hw9 := hW.2.2.2.1 (6 * a + b) (by omega)
              unfold s_mnd; split
              · exact hok
              · exact ⟨s_up_W hW (by omega) (by omega), h1, h5, h6, h12, h4, h3⟩
            · rename_i hs2 hs3 hs4
              unfold s_dow; split
              · exact hok
              · by_cases h3s : 3 ≤ s
                · have hb := hs h3s
                  have hb5 := hb.2.2 (by omega)
                  exact ⟨s_up_W hW (by omega) (by omega), h1, h5, h6, h12, h4, h3⟩
                · omega
/-- a FAIR's cells behind setPlace and setWrongs -/
theorem f_C.slant {μ : x_Me} {k : Nat} {G : Nat → Nat} (h : f_C μ k G) : f_C (x_u μ k (upd (μ k) 2 0)) k (s_up G 2 0) := by
  obtain ⟨h0, h1, h2, h3, h4, h5⟩ := h
  have e : ∀ {i : Nat}, i ≠ 2 → s_up G 2 0 i = G i := fun h => s_up_n h
  refine ⟨fun j hj => ?_, fun m hm j hj => ?_, fun m hm j hj => ?_, fun i hi => ?_, fun m hm j hj => ?_, fun m hm j hj => ?_⟩
  · rw [x_u_eq]
    by_cases h : j = 2
    · subst h; rw [pk_us, s_up_s]; rfl
    · rw [pk_un h, e h]; exact h0 j hj
  · rw [x_u_ne (by omega), e (by omega)]; exact h1 m hm j hj
  · rw [x_u_ne (by omega), e (by omega)]; exact h2 m hm j hj
  · rw [x_u_ne (by omega), e (by omega)]; exact h3 i hi
  · rw [x_u_ne (by omega), e (by omega)]; exact h4 m hm j hj
  · rw [x_u_ne (by omega), e (by omega)]; exact h5 m hm j hj
theorem f_C.wrong {μ : x_Me} {k : Nat} {G : Nat → Nat} (hW : f_W G) (h : f_C μ k G) {j v : Nat} (hj : j < 48) : f_C (x_u μ (k + 3) (upd (μ (k + 3)) j (nI v))) k (s_up G (41 + j) v) := by
  obtain ⟨h0, h1, h2, h3, h4, h5⟩ := h
  obtain ⟨⟨_, _, _, w3, w4, w5, w6⟩, _⟩ := hW
  have e : ∀ {i : Nat}, i < 41 ∨ 89 ≤ i → s_up G (41 + j) v i = G i := fun h => s_up_n (by omega)
  refine ⟨fun i hi => ?_, fun m hm i hi => ?_, fun m hm i hi => ?_, fun i hi => ?_, fun m hm i hi => ?_, fun m hm i hi => ?_⟩
  · rw [x_u_ne (by omega), e (by omega)]; exact h0 i hi
  · rw [e (by omega)] at hm; rw [x_u_ne (by omega), e (by omega)]; exact h1 m hm i hi
  · rw [e (by omega)] at hm; rw [x_u_ne (by omega), e (by omega)]; exact h2 m hm i hi
  · rw [x_u_eq]
    by_cases hz : i = j
    · subst hz; rw [pk_us, s_up_s]
    · rw [pk_un hz, s_up_n (by omega)]; exact h3 i hi
  · rw [e (by omega)] at hm; rw [x_u_ne (by omega), e (by omega)]; exact h4 m hm i hi
  · rw [e (by omega)] at hm; rw [x_u_ne (by omega), e (by omega)]; exact h5 m hm i hi
theorem f_C.place {μ : x_Me} {k : Nat} {G : Nat → Nat} (hW : f_W G) (h : f_C μ k G) {g x y : Nat} (hg : g < G 4) (hy : y ≤ 9) : f_C (x_u μ (k + 2) (upd (upd (μ (k + 2)) (2 * g) (nI x)) (2 * g + 1) (nI y))) k (s_mg G g (10 * x + y)) := by
  obtain ⟨h0, h1, h2, h3, h4, h5⟩ := h
  obtain ⟨⟨_, _, _, w3, w4, w5, w6⟩, _⟩ := hW
  have e : ∀ {i : Nat}, i < 25 ∨ 41 ≤ i → s_mg G g (10 * x + y) i = G i := fun h => s_mg_2 G g _ (by omega) (by omega)
  refine ⟨fun i hi => ?_, fun m hm i hi => ?_, fun m hm i hi => ?_, fun i hi => ?_, fun m hm i hi => ?_, fun m hm i hi => ?_⟩
  · rw [x_u_ne (by omega), e (by omega)]; exact h0 i hi
  · rw [e (by omega)] at hm; rw [x_u_ne (by omega), e (by omega)]; exact h1 m hm i hi
  · rw [e (by omega)] at hm; rw [x_u_eq]
    have hi2 : i = 0 ∨ i = 1 := by omega
    by_cases hz : m = g
    · subst hz
      rcases hi2 with rfl | rfl
      · rw [pk_un (by omega), show 2 * m + 0 = 2 * m from rfl, pk_us, show 25 + 8 * 0 + m = 25 + m by omega, s_mg_x]; congr 1; omega
      · rw [pk_us, show 25 + 8 * 1 + m = 33 + m by omega, s_mg_y]; congr 1; omega
    · rw [pk_un (by omega), pk_un (by omega), s_mg_2 G g _ (by omega) (by omega)]; exact h2 m hm i hi
  · rw [x_u_ne (by omega), e (by omega)]; exact h3 i hi
  · rw [e (by omega)] at hm; rw [x_u_ne (by omega), e (by omega)]; exact h4 m hm i hi
  · rw [e (by omega)] at hm; rw [x_u_ne (by omega), e (by omega)]; exact h5 m hm i hi
theorem sh129 : x_shape[129]? = some (.inl (6, [some (some (.ref 130)), none, none, none, none, none, none, none, none, none, none, none, none, none, some (some (.ref 136))])) := by rfl
theorem sh130 : x_shape[130]? = some (.inl (2, [none, none, none, none, none, none, none, some (some (.ref 131)), some (some (.ref 132)), some (some (.ref 133)), some (some (.ref 134)), some (some (.ref 135))])) := by rfl
/-- what a DEED leaves as it was -/
def s_fr (μ μ' : x_Me) : Prop := (∀ a, (a < 129 ∨ 135 < a) → μ' a = μ a) ∧ μ' 129 13 = μ 129 13
/-- the counters at first -/
def s_c0 : Nat → Nat := fun _ => 0
theorem s_ok0 {F : Nat → Nat} (hW : f_W F) : s_ok (F, s_c0) := ⟨hW, Nat.zero_le _, Nat.zero_le _, Nat.zero_le _, Nat.zero_le _, Nat.zero_le _, Nat.zero_le _⟩
/-- DEEDS of a DAY one by one, up to one that can't be -/
def s_dd (D : Nat → Int32) (k i : Nat) : Nat := (D (1 + (4 * k + i))).toNatClampNeg
def s_ad (σ : s_St) (D : Nat → Int32) (k : Nat) : Bool × s_St := s_act σ (s_dd D k 0) (s_dd D k 1) (s_dd D k 2) (s_dd D k 3)
def s_go (D : Nat → Int32) : Nat → Nat → s_St → Nat × s_St
  | 0, k, σ => (k, σ)
  | n + 1, k, σ => if (s_ad σ D k).1 then s_go D n (k + 1) (s_ad σ D k).2 else (k, σ)
theorem s_dq {n k : Nat} {D : Nat → Int32} (hW : d_W n D) (hk : k < n) : q_d (D (1 + (4 * k + 0))) (D (1 + (4 * k + 1))) (D (1 + (4 * k + 2))) (D (1 + (4 * k + 3))) (s_dd D k 0) (s_dd D k 1) (s_dd D k 2) (s_dd D k 3) := by
  obtain ⟨s, a, b, c, hs, ha, hb, hc, e0, e1, e2⟩ := hW.2.2 k hk
  rw [show 1 + 4 * k = 1 + (4 * k + 0) by omega] at e0
  rw [show 2 + 4 * k = 1 + (4 * k + 1) by omega] at e1
  rw [show 3 + 4 * k = 1 + (4 * k + 2) by omega, show 4 + 4 * k = 1 + (4 * k + 3) by omega] at e2
  unfold s_dd
  rw [e0, nI_clamp (show s < 2 ^ 31 by omega)]
  refine ⟨rfl, hs, fun h2 => ?_, fun h3 => ?_⟩
  · rw [if_neg (by omega)] at e1; rw [e1, nI_clamp (by omega)]; exact ⟨rfl, ha⟩
  · rw [if_neg (by omega)] at e2; rw [e2.1, e2.2.1, nI_clamp (by omega), nI_clamp (by omega)]; exact ⟨rfl, rfl, hb, hc, e2.2.2⟩
theorem s_ad_ok {n k : Nat} {D : Nat → Int32} (hW : d_W n D) (hk : k < n) {σ : s_St} (h : s_ok σ) : s_ok (s_ad σ D k).2 := by
  have hq := s_dq hW hk
  exact s_act_ok h (fun h3 => ⟨(hq.2.2.2 h3).2.2.1, (hq.2.2.2 h3).2.2.2.1, fun h4 => ((hq.2.2.2 h3).2.2.2.2 h4).1⟩)
theorem s_go_le (D : Nat → Int32) : ∀ n k σ, (s_go D n k σ).1 ≤ k + n
  | 0, k, σ => Nat.le_refl _
  | n + 1, k, σ => by
    rw [s_go]; split
    · have := s_go_le D n (k + 1) (s_ad σ D k).2; omega
    · show k ≤ _; omega
theorem s_act_no {σ : s_St} {s a b c : Nat} (h : (s_act σ s a b c).1 = false) : (s_act σ s a b c).2 = σ := by
  revert h
  unfold s_act
  split
  · unfold s_tune; split
    · intro h; exact absurd h (by simp)
    · intro _; rfl
  · split
    · unfold s_fit; split
      · intro _; rfl
      · intro h; exact absurd h (by simp)
    · split
      · intro _; rfl
      · split
        · intro h; exact absurd h (by simp [s_ask])
        · split
          · intro h; exact absurd h (by simp [s_wlk])
          · split
            · unfold s_mnd; split
              · intro _; rfl
              · intro h; exact absurd h (by simp)
            · unfold s_dow; split
              · intro _; rfl
              · intro h; exact absurd h (by simp)
theorem s_ad_no {σ : s_St} {D : Nat → Int32} {k : Nat} (h : (s_ad σ D k).1 = false) : (s_ad σ D k).2 = σ := s_act_no h
section STAGE
variable (sc : Nat × (Nat → Int32)) (d : Nat) (μ : x_Me) (w : Int64)
set_option maxHeartbeats 1000000 in
theorem tX2_setWrongs (k : Nat) (hS : f_S k) (g j : Nat) (hg : g < 8) (hj : j < 6) (v : Int32) : x_K sc (d + 1) mX2_setWrongs [.ref k, .int (nI g), .int (nI j), .int v] μ w (x_p none (x_u μ (k + 3) (upd (μ (k + 3)) (6 * g + j) v)) w) := by
  have hix : (6 : Int32) * nI g + nI j = nI (6 * g + j) := by rw [show (6 : Int32) = nI 6 from rfl, pk_mul, nI_add]
  refine x_K.of (by decide) (Nat.le_of_ble_eq_true rfl) ?_
  show x_T sc (d + 1) mX2_setWrongs 0 [.ref k, .int (nI g), .int (nI j), .int v] [] μ w _
  refine xt_aload_n _ dX2_setWrongs_0 rfl ?_
  refine xt_getr _ dX2_setWrongs_1 kfX2_18 (by first | exact hS.1 | rfl | assumption) rfl ?_
  refine xt_bipush (6) dX2_setWrongs_4 (by decide) ?_
  refine xt_iload_n _ dX2_setWrongs_6 rfl ?_
  refine xt_imul dX2_setWrongs_7 ?_
  refine xt_iload_n _ dX2_setWrongs_8 rfl ?_
  refine xt_iadd dX2_setWrongs_9 ?_
  refine xt_iload_n _ dX2_setWrongs_10 rfl ?_
  rw [hix]
  refine xt_cS0 _ dX2_setWrongs_11 klX2_82 (tX8_set sc _ μ w (k := k + 3) (n := 48) hS.2.2.2.1 (by decide) _ _) rfl rfl (Nat.le_of_ble_eq_true rfl) ?_
  rw [s_set_ix (by omega) (by decide)]
  exact xt_ret dX2_setWrongs_14 rfl ⟨rfl, rfl, rfl⟩
set_option maxHeartbeats 1000000 in
theorem tX2_setPlace (k : Nat) (hS : f_S k) (g : Nat) (hg : g < 8) (x y : Int32) : x_K sc (d + 1) mX2_setPlace [.ref k, .int (nI g), .int x, .int y] μ w (x_p none (x_u μ (k + 2) (upd (upd (μ (k + 2)) (2 * g) x) (2 * g + 1) y)) w) := by
  have hix : (2 : Int32) * nI g = nI (2 * g) := by rw [show (2 : Int32) = nI 2 from rfl, pk_mul]
  have hiy : (2 : Int32) * nI g + 1 = nI (2 * g + 1) := by rw [hix, nI_1]
  refine x_K.of (by decide) (Nat.le_of_ble_eq_true rfl) ?_
  show x_T sc (d + 1) mX2_setPlace 0 [.ref k, .int (nI g), .int x, .int y] [] μ w _
  refine xt_aload_n _ dX2_setPlace_0 rfl ?_
  refine xt_getr _ dX2_setPlace_1 kfX2_15 (by first | exact hS.1 | rfl | assumption) rfl ?_
  refine xt_iconst (2) dX2_setPlace_4 (by decide) ?_
  refine xt_iload_n _ dX2_setPlace_5 rfl ?_
  refine xt_imul dX2_setPlace_6 ?_
  refine xt_iload_n _ dX2_setPlace_7 rfl ?_
  rw [hix]
  refine xt_cS0 _ dX2_setPlace_8 klX2_82 (tX8_set sc _ μ w (k := k + 2) (n := 16) hS.2.2.1 (by decide) _ _) rfl rfl (Nat.le_of_ble_eq_true rfl) ?_
  rw [s_set_ix (by omega) (by decide)]
  refine xt_aload_n _ dX2_setPlace_11 rfl ?_
  refine xt_getr _ dX2_setPlace_12 kfX2_15 (by first | exact hS.1 | rfl | assumption) rfl ?_
  refine xt_iconst (2) dX2_setPlace_15 (by decide) ?_
  refine xt_iload_n _ dX2_setPlace_16 rfl ?_
  refine xt_imul dX2_setPlace_17 ?_
  refine xt_iconst (1) dX2_setPlace_18 (by decide) ?_
  refine xt_iadd dX2_setPlace_19 ?_
  refine xt_iload_n _ dX2_setPlace_20 rfl ?_
  rw [hiy]
  refine xt_cS0 _ dX2_setPlace_21 klX2_82 (tX8_set sc _ (x_u μ (k + 2) (upd (μ (k + 2)) (2 * g) x)) w (k := k + 2) (n := 16) hS.2.2.1 (by decide) _ _) rfl rfl (Nat.le_of_ble_eq_true rfl) ?_
  rw [s_set_ix (by omega) (by decide), x_uu, x_u_eq]
  exact xt_ret dX2_setPlace_24 rfl ⟨rfl, rfl, rfl⟩
set_option maxHeartbeats 2000000 in
theorem tX7_startTune (σ : s_St) (hok : s_ok σ) (hc : c_St μ σ) : x_K sc (d + 4) mX7_startTune [.ref 129] μ w (fun r μ' _ => r = some (.int (if (s_tune σ).1 then 1 else 0)) ∧ c_St μ' (s_tune σ).2 ∧ s_fr μ μ') := by
  have hW : f_W σ.1 := hok.1
  have h8 : σ.1 4 ≤ 8 := hW.1.2.2.2.2.1
  have hC : f_C μ 130 σ.1 := hc.1
  have c1 : μ 129 1 = nI (σ.2 1) := hc.2 1 (by decide) (by decide)
  have c2 : μ 129 2 = nI (σ.2 2) := hc.2 2 (by decide) (by decide)
  have c3 : μ 129 3 = eI (σ.2 3) := hc.2 3 (by decide) (by decide)
  have c4 : μ 129 4 = eI (σ.2 4) := hc.2 4 (by decide) (by decide)
  have c5 : μ 129 5 = nI (σ.2 5) := hc.2 5 (by decide) (by decide)
  have c6 : μ 129 6 = nI (σ.2 6) := hc.2 6 (by decide) (by decide)
  have hlt := s_offs_lt hW (fun _ => false)
  obtain ⟨_, o1, o5, o6, _, o4, _⟩ := hok
  have hCt : f_C (x_u μ 129 (upd (μ 129) 1 (μ 129 1 + 1))) 130 σ.1 := hC.cg (fun j hj => x_u_ne (by omega))
  have et : (x_u μ 129 (upd (μ 129) 1 (μ 129 1 + 1))) 129 1 = nI (σ.2 1 + 1) := by show μ 129 1 + 1 = _; rw [c1, nI_succ]
  refine x_K.of (by decide) (Nat.le_of_ble_eq_true rfl) ?_
  show x_T sc (d + 4) mX7_startTune 0 [.ref 129, .retAddr 0] [] μ w _
  by_cases h99 : σ.2 1 < 99
  · skip
    refine xt_aload_n _ dX7_startTune_0 rfl ?_
    refine xt_geti dX7_startTune_1 kfX7_47 (by first | exact sh129 | exact sh130 | rfl | assumption) rfl ?_
    refine xt_bipush (99) dX7_startTune_4 (by decide) ?_
    refine xt_icmp_lt 11 dX7_startTune_6 (by decide) (fun _ => ?_) (fun q => absurd (by rw [c1]; exact nI_lt (b := 99) h99 (by decide)) q)
    refine xt_aload_n _ dX7_startTune_11 rfl ?_
    refine xt_dup dX7_startTune_12 rfl ?_
    refine xt_geti dX7_startTune_13 kfX7_47 (by first | exact sh129 | exact sh130 | rfl | assumption) rfl ?_
    refine xt_iconst (1) dX7_startTune_16 (by decide) ?_
    refine xt_iadd dX7_startTune_17 ?_
    refine xt_puti dX7_startTune_18 kpX7_47 (by first | exact sh129 | exact sh130 | rfl | assumption) rfl (by first | rfl | assumption) (by first | rfl | assumption) ?_
    refine xt_aload_n _ dX7_startTune_21 rfl ?_
    refine xt_getr _ dX7_startTune_22 kfX7_12 (by first | exact sh129 | exact sh130 | rfl | assumption) rfl ?_
    refine xt_aload_n _ dX7_startTune_25 rfl ?_
    refine xt_geti dX7_startTune_26 kfX7_47 (by first | exact sh129 | exact sh130 | rfl | assumption) rfl ?_
    rw [et]
    refine xt_cV _ dX7_startTune_29 klX7_123 (tX2_slantStops sc _ w f_S130 hCt hW (σ.2 1 + 1) (by omega)) sh130 rfl rfl (Nat.le_of_ble_eq_true rfl) ?_
    refine xt_if_ne 46 dX7_startTune_32 (by decide) (fun t32 => ?_) (fun f32 => ?_)
    · refine xt_iconst (1) dX7_startTune_46 (by decide) ?_
      refine xt_goto 51 dX7_startTune_47 (by decide) ?_
      refine xt_istore_n dX7_startTune_51 (by decide) rfl ?_
      change x_T _ _ _ _ [_, _] _ _ _ _
      refine xt_aload_n _ dX7_startTune_52 rfl ?_
      refine xt_iload_n _ dX7_startTune_53 rfl ?_
      refine xt_if_eq 61 dX7_startTune_54 (by decide) (fun q => absurd q (by decide)) (fun _ => ?_)
      refine xt_iconst (1) dX7_startTune_57 (by decide) ?_
      refine xt_goto 62 dX7_startTune_58 (by decide) ?_
      refine xt_puti dX7_startTune_62 kpX7_53 (by first | exact sh129 | exact sh130 | rfl | assumption) rfl (by first | rfl | assumption) (by first | rfl | assumption) ?_
      refine xt_iload_n _ dX7_startTune_65 rfl ?_
      refine xt_if_eq 110 dX7_startTune_66 (by decide) (fun q => absurd q (by decide)) (fun _ => ?_)
      refine xt_aload_n _ dX7_startTune_69 rfl ?_
      refine xt_dup dX7_startTune_70 rfl ?_
      refine xt_geti dX7_startTune_71 kfX7_50 (by first | exact sh129 | exact sh130 | rfl | assumption) rfl ?_
      refine xt_iconst (1) dX7_startTune_74 (by decide) ?_
      refine xt_iadd dX7_startTune_75 ?_
      refine xt_puti dX7_startTune_76 kpX7_50 (by first | exact sh129 | exact sh130 | rfl | assumption) rfl (by first | rfl | assumption) (by first | rfl | assumption) ?_
      refine xt_aload_n _ dX7_startTune_79 rfl ?_
      refine xt_iconst (0) dX7_startTune_80 (by decide) ?_
      refine xt_puti dX7_startTune_81 kpX7_59 (by first | exact sh129 | exact sh130 | rfl | assumption) rfl (by first | rfl | assumption) (by first | rfl | assumption) ?_
      refine xt_aload_n _ dX7_startTune_84 rfl ?_
      refine xt_aload_n _ dX7_startTune_85 rfl ?_
      refine xt_geti dX7_startTune_86 kfX7_56 (by first | exact sh129 | exact sh130 | rfl | assumption) rfl ?_
      refine xt_iconst (-1) dX7_startTune_89 (by decide) ?_
      refine xt_icmp_ne 100 dX7_startTune_90 (by decide) (fun t90 => ?_) (fun f90 => ?_)
      · refine xt_aload_n _ dX7_startTune_100 rfl ?_
        refine xt_geti dX7_startTune_101 kfX7_56 (by first | exact sh129 | exact sh130 | rfl | assumption) rfl ?_
        refine xt_puti dX7_startTune_104 kpX7_56 (by first | exact sh129 | exact sh130 | rfl | assumption) rfl (by first | rfl | assumption) (by first | rfl | assumption) ?_
        refine xt_goto 135 dX7_startTune_107 (by decide) ?_
        refine xt_iconst (1) dX7_startTune_135 (by decide) ?_
        have hst : s_stops σ = true := by unfold s_stops; cases hz : s_slant σ.1 (σ.2 1 + 1); (rw [hz] at t32; exact absurd rfl t32); rfl
        refine xt_iret .boolean dX7_startTune_136 rfl rfl ?_
        rw [show s_tune σ = (true, (σ.1, s_tcc σ.2 true)) from by rw [s_tune, if_pos h99, hst]]
        refine ⟨rfl, ⟨hC.cg (fun j hj => by simp only [x_u_ne (show 130 + j ≠ 129 by omega)]), ?_⟩, fun a ha => by simp only [x_u_ne (show a ≠ 129 by omega)], rfl⟩
        intro i h1 h2
        have hi : i = 1 ∨ i = 2 ∨ i = 3 ∨ i = 4 ∨ i = 5 ∨ i = 6 ∨ i = 7 ∨ i = 8 ∨ i = 9 ∨ i = 10 ∨ i = 11 ∨ i = 12 := by omega
        rcases hi with rfl | rfl | rfl | rfl | rfl | rfl | rfl | rfl | rfl | rfl | rfl | rfl
        · show μ 129 1 + 1 = nI (σ.2 1 + 1); rw [c1, nI_succ]
        · show μ 129 2 + 1 = nI (σ.2 2 + 1); rw [c2, nI_succ]
        · show (1 : Int32) = eI 2; decide
        · have hz : ¬ σ.2 4 = 0 := fun z => t90 (c4.trans ((eI_m1 (by omega)).mpr z)); show μ 129 4 = eI (if σ.2 4 = 0 then σ.2 1 + 2 else σ.2 4); rw [if_neg hz, c4]
        · show (0 : Int32) = nI 0; rfl
        · exact hc.2 6 (by decide) (by decide)
        · exact hc.2 7 (by decide) (by decide)
        · exact hc.2 8 (by decide) (by decide)
        · exact hc.2 9 (by decide) (by decide)
        · exact hc.2 10 (by decide) (by decide)
        · exact hc.2 11 (by decide) (by decide)
        · exact hc.2 12 (by decide) (by decide)
      · refine xt_aload_n _ dX7_startTune_93 rfl ?_
        refine xt_geti dX7_startTune_94 kfX7_47 (by first | exact sh129 | exact sh130 | rfl | assumption) rfl ?_
        refine xt_goto 104 dX7_startTune_97 (by decide) ?_
        refine xt_puti dX7_startTune_104 kpX7_56 (by first | exact sh129 | exact sh130 | rfl | assumption) rfl (by first | rfl | assumption) (by first | rfl | assumption) ?_
        refine xt_goto 135 dX7_startTune_107 (by decide) ?_
        refine xt_iconst (1) dX7_startTune_135 (by decide) ?_
        have hst : s_stops σ = true := by unfold s_stops; cases hz : s_slant σ.1 (σ.2 1 + 1); (rw [hz] at t32; exact absurd rfl t32); rfl
        refine xt_iret .boolean dX7_startTune_136 rfl rfl ?_
        rw [show s_tune σ = (true, (σ.1, s_tcc σ.2 true)) from by rw [s_tune, if_pos h99, hst]]
        refine ⟨rfl, ⟨hC.cg (fun j hj => by simp only [x_u_ne (show 130 + j ≠ 129 by omega)]), ?_⟩, fun a ha => by simp only [x_u_ne (show a ≠ 129 by omega)], rfl⟩
        intro i h1 h2
        have hi : i = 1 ∨ i = 2 ∨ i = 3 ∨ i = 4 ∨ i = 5 ∨ i = 6 ∨ i = 7 ∨ i = 8 ∨ i = 9 ∨ i = 10 ∨ i = 11 ∨ i = 12 := by omega
        rcases hi with rfl | rfl | rfl | rfl | rfl | rfl | rfl | rfl | rfl | rfl | rfl | rfl
        · show μ 129 1 + 1 = nI (σ.2 1 + 1); rw [c1, nI_succ]
        · show μ 129 2 + 1 = nI (σ.2 2 + 1); rw [c2, nI_succ]
        · show (1 : Int32) = eI 2; decide
        · have hz : σ.2 4 = 0 := (eI_m1 (by omega)).mp (c4.symm.trans f90); show μ 129 1 + 1 = eI (if σ.2 4 = 0 then σ.2 1 + 2 else σ.2 4); rw [if_pos hz, c1, eI_s, nI_succ]
        · show (0 : Int32) = nI 0; rfl
        · exact hc.2 6 (by decide) (by decide)
        · exact hc.2 7 (by decide) (by decide)
        · exact hc.2 8 (by decide) (by decide)
        · exact hc.2 9 (by decide) (by decide)
        · exact hc.2 10 (by decide) (by decide)
        · exact hc.2 11 (by decide) (by decide)
        · exact hc.2 12 (by decide) (by decide)
    · refine xt_aload_n _ dX7_startTune_35 rfl ?_
      refine xt_getr _ dX7_startTune_36 kfX7_12 (by first | exact sh129 | exact sh130 | rfl | assumption) rfl ?_
      refine xt_iconst (0) dX7_startTune_39 (by decide) ?_
      refine xt_cV _ dX7_startTune_40 klX7_126 (tX2_offenders sc _ w f_S130 hCt hW 0 (fun _ => false) s_str0) sh130 rfl rfl (Nat.le_of_ble_eq_true rfl) ?_
      change x_T _ _ _ _ _ (.int (nI (s_offs σ.1 (fun _ => false))) :: _) _ _ _
      refine xt_if_eq 50 dX7_startTune_43 (by decide) (fun t43 => ?_) (fun f43 => ?_)
      · refine xt_iconst (0) dX7_startTune_50 (by decide) ?_
        refine xt_istore_n dX7_startTune_51 (by decide) rfl ?_
        change x_T _ _ _ _ [_, _] _ _ _ _
        refine xt_aload_n _ dX7_startTune_52 rfl ?_
        refine xt_iload_n _ dX7_startTune_53 rfl ?_
        refine xt_if_eq 61 dX7_startTune_54 (by decide) (fun _ => ?_) (fun q => absurd (by decide) q)
        refine xt_iconst (0) dX7_startTune_61 (by decide) ?_
        refine xt_puti dX7_startTune_62 kpX7_53 (by first | exact sh129 | exact sh130 | rfl | assumption) rfl (by first | rfl | assumption) (by first | rfl | assumption) ?_
        refine xt_iload_n _ dX7_startTune_65 rfl ?_
        refine xt_if_eq 110 dX7_startTune_66 (by decide) (fun _ => ?_) (fun q => absurd (by decide) q)
        refine xt_aload_n _ dX7_startTune_110 rfl ?_
        refine xt_dup dX7_startTune_111 rfl ?_
        refine xt_geti dX7_startTune_112 kfX7_59 (by first | exact sh129 | exact sh130 | rfl | assumption) rfl ?_
        refine xt_iconst (1) dX7_startTune_115 (by decide) ?_
        refine xt_iadd dX7_startTune_116 ?_
        refine xt_puti dX7_startTune_117 kpX7_59 (by first | exact sh129 | exact sh130 | rfl | assumption) rfl (by first | rfl | assumption) (by first | rfl | assumption) ?_
        refine xt_aload_n _ dX7_startTune_120 rfl ?_
        refine xt_aload_n _ dX7_startTune_121 rfl ?_
        refine xt_geti dX7_startTune_122 kfX7_62 (by first | exact sh129 | exact sh130 | rfl | assumption) rfl ?_
        refine xt_aload_n _ dX7_startTune_125 rfl ?_
        refine xt_geti dX7_startTune_126 kfX7_59 (by first | exact sh129 | exact sh130 | rfl | assumption) rfl ?_
        refine xt_mmax dX7_startTune_129 kmX7_129 (Nat.le_of_ble_eq_true rfl) ?_
        refine xt_puti dX7_startTune_132 kpX7_62 (by first | exact sh129 | exact sh130 | rfl | assumption) rfl (by first | rfl | assumption) (by first | rfl | assumption) ?_
        refine xt_iconst (1) dX7_startTune_135 (by decide) ?_
        have hsl : s_slant σ.1 (σ.2 1 + 1) = false := by cases hz : s_slant σ.1 (σ.2 1 + 1); rfl; (rw [hz] at f32; exact absurd f32 (by decide))
        have hst : s_stops σ = false := by unfold s_stops; rw [hsl, decide_eq_true ((nI_0e (by omega)).mp t43)]; rfl
        refine xt_iret .boolean dX7_startTune_136 rfl rfl ?_
        rw [show s_tune σ = (true, (σ.1, s_tcc σ.2 false)) from by rw [s_tune, if_pos h99, hst]]
        refine ⟨rfl, ⟨hC.cg (fun j hj => by simp only [x_u_ne (show 130 + j ≠ 129 by omega)]), ?_⟩, fun a ha => by simp only [x_u_ne (show a ≠ 129 by omega)], rfl⟩
        intro i h1 h2
        have hi : i = 1 ∨ i = 2 ∨ i = 3 ∨ i = 4 ∨ i = 5 ∨ i = 6 ∨ i = 7 ∨ i = 8 ∨ i = 9 ∨ i = 10 ∨ i = 11 ∨ i = 12 := by omega
        rcases hi with rfl | rfl | rfl | rfl | rfl | rfl | rfl | rfl | rfl | rfl | rfl | rfl
        · show μ 129 1 + 1 = nI (σ.2 1 + 1); rw [c1, nI_succ]
        · exact hc.2 2 (by decide) (by decide)
        · show (0 : Int32) = eI 1; decide
        · exact hc.2 4 (by decide) (by decide)
        · show μ 129 5 + 1 = nI (σ.2 5 + 1); rw [c5, nI_succ]
        · show (if μ 129 6 < μ 129 5 + 1 then μ 129 5 + 1 else μ 129 6) = nI (max (σ.2 6) (σ.2 5 + 1)); rw [c5, c6, ← nI_succ, s_max_nI (by omega) (by omega)]
        · exact hc.2 7 (by decide) (by decide)
        · exact hc.2 8 (by decide) (by decide)
        · exact hc.2 9 (by decide) (by decide)
        · exact hc.2 10 (by decide) (by decide)
        · exact hc.2 11 (by decide) (by decide)
        · exact hc.2 12 (by decide) (by decide)
      · refine xt_iconst (1) dX7_startTune_46 (by decide) ?_
        refine xt_goto 51 dX7_startTune_47 (by decide) ?_
        refine xt_istore_n dX7_startTune_51 (by decide) rfl ?_
        change x_T _ _ _ _ [_, _] _ _ _ _
        refine xt_aload_n _ dX7_startTune_52 rfl ?_
        refine xt_iload_n _ dX7_startTune_53 rfl ?_
        refine xt_if_eq 61 dX7_startTune_54 (by decide) (fun q => absurd q (by decide)) (fun _ => ?_)
        refine xt_iconst (1) dX7_startTune_57 (by decide) ?_
        refine xt_goto 62 dX7_startTune_58 (by decide) ?_
        refine xt_puti dX7_startTune_62 kpX7_53 (by first | exact sh129 | exact sh130 | rfl | assumption) rfl (by first | rfl | assumption) (by first | rfl | assumption) ?_
        refine xt_iload_n _ dX7_startTune_65 rfl ?_
        refine xt_if_eq 110 dX7_startTune_66 (by decide) (fun q => absurd q (by decide)) (fun _ => ?_)
        refine xt_aload_n _ dX7_startTune_69 rfl ?_
        refine xt_dup dX7_startTune_70 rfl ?_
        refine xt_geti dX7_startTune_71 kfX7_50 (by first | exact sh129 | exact sh130 | rfl | assumption) rfl ?_
        refine xt_iconst (1) dX7_startTune_74 (by decide) ?_
        refine xt_iadd dX7_startTune_75 ?_
        refine xt_puti dX7_startTune_76 kpX7_50 (by first | exact sh129 | exact sh130 | rfl | assumption) rfl (by first | rfl | assumption) (by first | rfl | assumption) ?_
        refine xt_aload_n _ dX7_startTune_79 rfl ?_
        refine xt_iconst (0) dX7_startTune_80 (by decide) ?_
        refine xt_puti dX7_startTune_81 kpX7_59 (by first | exact sh129 | exact sh130 | rfl | assumption) rfl (by first | rfl | assumption) (by first | rfl | assumption) ?_
        refine xt_aload_n _ dX7_startTune_84 rfl ?_
        refine xt_aload_n _ dX7_startTune_85 rfl ?_
        refine xt_geti dX7_startTune_86 kfX7_56 (by first | exact sh129 | exact sh130 | rfl | assumption) rfl ?_
        refine xt_iconst (-1) dX7_startTune_89 (by decide) ?_
        refine xt_icmp_ne 100 dX7_startTune_90 (by decide) (fun t90 => ?_) (fun f90 => ?_)
        · refine xt_aload_n _ dX7_startTune_100 rfl ?_
          refine xt_geti dX7_startTune_101 kfX7_56 (by first | exact sh129 | exact sh130 | rfl | assumption) rfl ?_
          refine xt_puti dX7_startTune_104 kpX7_56 (by first | exact sh129 | exact sh130 | rfl | assumption) rfl (by first | rfl | assumption) (by first | rfl | assumption) ?_
          refine xt_goto 135 dX7_startTune_107 (by decide) ?_
          refine xt_iconst (1) dX7_startTune_135 (by decide) ?_
          have hst : s_stops σ = true := by unfold s_stops; rw [decide_eq_false (fun z => f43 (by rw [z]; rfl))]; exact Bool.or_true _
          refine xt_iret .boolean dX7_startTune_136 rfl rfl ?_
          rw [show s_tune σ = (true, (σ.1, s_tcc σ.2 true)) from by rw [s_tune, if_pos h99, hst]]
          refine ⟨rfl, ⟨hC.cg (fun j hj => by simp only [x_u_ne (show 130 + j ≠ 129 by omega)]), ?_⟩, fun a ha => by simp only [x_u_ne (show a ≠ 129 by omega)], rfl⟩
          intro i h1 h2
          have hi : i = 1 ∨ i = 2 ∨ i = 3 ∨ i = 4 ∨ i = 5 ∨ i = 6 ∨ i = 7 ∨ i = 8 ∨ i = 9 ∨ i = 10 ∨ i = 11 ∨ i = 12 := by omega
          rcases hi with rfl | rfl | rfl | rfl | rfl | rfl | rfl | rfl | rfl | rfl | rfl | rfl
          · show μ 129 1 + 1 = nI (σ.2 1 + 1); rw [c1, nI_succ]
          · show μ 129 2 + 1 = nI (σ.2 2 + 1); rw [c2, nI_succ]
          · show (1 : Int32) = eI 2; decide
          · have hz : ¬ σ.2 4 = 0 := fun z => t90 (c4.trans ((eI_m1 (by omega)).mpr z)); show μ 129 4 = eI (if σ.2 4 = 0 then σ.2 1 + 2 else σ.2 4); rw [if_neg hz, c4]
          · show (0 : Int32) = nI 0; rfl
          · exact hc.2 6 (by decide) (by decide)
          · exact hc.2 7 (by decide) (by decide)
          · exact hc.2 8 (by decide) (by decide)
          · exact hc.2 9 (by decide) (by decide)
          · exact hc.2 10 (by decide) (by decide)
          · exact hc.2 11 (by decide) (by decide)
          · exact hc.2 12 (by decide) (by decide)
        · refine xt_aload_n _ dX7_startTune_93 rfl ?_
          refine xt_geti dX7_startTune_94 kfX7_47 (by first | exact sh129 | exact sh130 | rfl | assumption) rfl ?_
          refine xt_goto 104 dX7_startTune_97 (by decide) ?_
          refine xt_puti dX7_startTune_104 kpX7_56 (by first | exact sh129 | exact sh130 | rfl | assumption) rfl (by first | rfl | assumption) (by first | rfl | assumption) ?_
          refine xt_goto 135 dX7_startTune_107 (by decide) ?_
          refine xt_iconst (1) dX7_startTune_135 (by decide) ?_
          have hst : s_stops σ = true := by unfold s_stops; rw [decide_eq_false (fun z => f43 (by rw [z]; rfl))]; exact Bool.or_true _
          refine xt_iret .boolean dX7_startTune_136 rfl rfl ?_
          rw [show s_tune σ = (true, (σ.1, s_tcc σ.2 true)) from by rw [s_tune, if_pos h99, hst]]
          refine ⟨rfl, ⟨hC.cg (fun j hj => by simp only [x_u_ne (show 130 + j ≠ 129 by omega)]), ?_⟩, fun a ha => by simp only [x_u_ne (show a ≠ 129 by omega)], rfl⟩
          intro i h1 h2
          have hi : i = 1 ∨ i = 2 ∨ i = 3 ∨ i = 4 ∨ i = 5 ∨ i = 6 ∨ i = 7 ∨ i = 8 ∨ i = 9 ∨ i = 10 ∨ i = 11 ∨ i = 12 := by omega
          rcases hi with rfl | rfl | rfl | rfl | rfl | rfl | rfl | rfl | rfl | rfl | rfl | rfl
          · show μ 129 1 + 1 = nI (σ.2 1 + 1); rw [c1, nI_succ]
          · show μ 129 2 + 1 = nI (σ.2 2 + 1); rw [c2, nI_succ]
          · show (1 : Int32) = eI 2; decide
          · have hz : σ.2 4 = 0 := (eI_m1 (by omega)).mp (c4.symm.trans f90); show μ 129 1 + 1 = eI (if σ.2 4 = 0 then σ.2 1 + 2 else σ.2 4); rw [if_pos hz, c1, eI_s, nI_succ]
          · show (0 : Int32) = nI 0; rfl
          · exact hc.2 6 (by decide) (by decide)
          · exact hc.2 7 (by decide) (by decide)
          · exact hc.2 8 (by decide) (by decide)
          · exact hc.2 9 (by decide) (by decide)
          · exact hc.2 10 (by decide) (by decide)
          · exact hc.2 11 (by decide) (by decide)
          · exact hc.2 12 (by decide) (by decide)
  · skip
    refine xt_aload_n _ dX7_startTune_0 rfl ?_
    refine xt_geti dX7_startTune_1 kfX7_47 (by first | exact sh129 | exact sh130 | rfl | assumption) rfl ?_
    refine xt_bipush (99) dX7_startTune_4 (by decide) ?_
    refine xt_icmp_lt 11 dX7_startTune_6 (by decide) (fun q => absurd q (by rw [c1]; exact nI_nlt (b := 99) (by omega) (by omega))) (fun _ => ?_)
    refine xt_iconst (0) dX7_startTune_9 (by decide) ?_
    exact xt_iret .boolean dX7_startTune_10 rfl (by first | rfl | assumption) (by rw [show s_tune σ = (false, σ) from by rw [s_tune, if_neg h99]]; exact ⟨rfl, hc, fun _ _ => rfl, rfl⟩)
set_option maxHeartbeats 2000000 in
theorem tX7_straighten (σ : s_St) (hok : s_ok σ) (hc : c_St μ σ) : x_K sc d mX7_straighten [.ref 129] μ w (fun r μ' _ => r = some (.int (if (s_fit σ).1 then 1 else 0)) ∧ c_St μ' (s_fit σ).2 ∧ s_fr μ μ') := by
  have hW : f_W σ.1 := hok.1
  have h8 : σ.1 4 ≤ 8 := hW.1.2.2.2.2.1
  have hC : f_C μ 130 σ.1 := hc.1
  have h9 := hW.1.2.2.1
  refine x_K.of (by decide) (Nat.le_of_ble_eq_true rfl) ?_
  show x_T sc d mX7_straighten 0 [.ref 129] [] μ w _
  by_cases hz : σ.1 2 = 0
  · skip
    refine xt_aload_n _ dX7_straighten_0 rfl ?_
    refine xt_getr _ dX7_straighten_1 kfX7_12 (by first | exact sh129 | exact sh130 | rfl | assumption) rfl ?_
    refine xt_geti dX7_straighten_4 kfX7_134 (by first | exact sh129 | exact sh130 | rfl | assumption) rfl ?_
    refine xt_if_ne 12 dX7_straighten_7 (by decide) (fun q => absurd (by rw [hC.1 2 (by decide), hz]; rfl) q) (fun _ => ?_)
    refine xt_iconst (0) dX7_straighten_10 (by decide) ?_
    exact xt_iret .boolean dX7_straighten_11 rfl (by first | rfl | assumption) (by rw [show s_fit σ = (false, σ) from by rw [s_fit, if_pos hz]]; exact ⟨rfl, hc, fun _ _ => rfl, rfl⟩)
  · skip
    refine xt_aload_n _ dX7_straighten_0 rfl ?_
    refine xt_getr _ dX7_straighten_1 kfX7_12 (by first | exact sh129 | exact sh130 | rfl | assumption) rfl ?_
    refine xt_geti dX7_straighten_4 kfX7_134 (by first | exact sh129 | exact sh130 | rfl | assumption) rfl ?_
    refine xt_if_ne 12 dX7_straighten_7 (by decide) (fun _ => ?_) (fun q => absurd q (by rw [hC.1 2 (by decide)]; exact fun z => hz ((nI_0e (by omega)).mp z)))
    refine xt_aload_n _ dX7_straighten_12 rfl ?_
    refine xt_getr _ dX7_straighten_13 kfX7_12 (by first | exact sh129 | exact sh130 | rfl | assumption) rfl ?_
    refine xt_iconst (0) dX7_straighten_16 (by decide) ?_
    refine xt_puti dX7_straighten_17 kpX7_134 (by first | exact sh129 | exact sh130 | rfl | assumption) rfl (by first | rfl | assumption) (by first | rfl | assumption) ?_
    refine xt_iconst (1) dX7_straighten_20 (by decide) ?_
    exact xt_iret .boolean dX7_straighten_21 rfl (by first | rfl | assumption) (by rw [show s_fit σ = (true, (s_up σ.1 2 0, σ.2)) from by rw [s_fit, if_neg hz]]; exact ⟨rfl, ⟨hC.slant, hc.2⟩, fun a ha => x_u_ne (by omega), rfl⟩)
set_option maxHeartbeats 1000000 in
theorem tX7_question (σ : s_St) (hok : s_ok σ) (hc : c_St μ σ) (g : Nat) (hg : g < σ.1 4) : x_K sc (d + 4) mX7_question [.ref 129, .int (nI g)] μ w (fun r μ' _ => r = some (.int (if (s_ask σ g).1 then 1 else 0)) ∧ c_St μ' (s_ask σ g).2 ∧ s_fr μ μ') := by
  have hW : f_W σ.1 := hok.1
  have h8 : σ.1 4 ≤ 8 := hW.1.2.2.2.2.1
  have hC : f_C μ 130 σ.1 := hc.1
  have c9 : μ 129 9 = nI (σ.2 9) := hc.2 9 (by decide) (by decide)
  have c7 : μ 129 7 = nI (σ.2 7) := hc.2 7 (by decide) (by decide)
  have c8 : μ 129 8 = nI (σ.2 8) := hc.2 8 (by decide) (by decide)
  refine x_K.of (by decide) (Nat.le_of_ble_eq_true rfl) ?_
  show x_T sc (d + 4) mX7_question 0 [.ref 129, .int (nI g)] [] μ w _
  refine xt_aload_n _ dX7_question_0 rfl ?_
  refine xt_dup dX7_question_1 rfl ?_
  refine xt_geti dX7_question_2 kfX7_71 (by first | exact sh129 | exact sh130 | rfl | assumption) rfl ?_
  refine xt_iconst (1) dX7_question_5 (by decide) ?_
  refine xt_iadd dX7_question_6 ?_
  refine xt_puti dX7_question_7 kpX7_71 (by first | exact sh129 | exact sh130 | rfl | assumption) rfl (by first | rfl | assumption) (by first | rfl | assumption) ?_
  refine xt_aload_n _ dX7_question_10 rfl ?_
  refine xt_dup dX7_question_11 rfl ?_
  refine xt_geti dX7_question_12 kfX7_65 (by first | exact sh129 | exact sh130 | rfl | assumption) rfl ?_
  refine xt_iconst (1) dX7_question_15 (by decide) ?_
  refine xt_iload_n _ dX7_question_16 rfl ?_
  refine xt_ishl dX7_question_17 ?_
  refine xt_ior dX7_question_18 ?_
  refine xt_puti dX7_question_19 kpX7_65 (by first | exact sh129 | exact sh130 | rfl | assumption) rfl (by first | rfl | assumption) (by first | rfl | assumption) ?_
  refine xt_aload_n _ dX7_question_22 rfl ?_
  refine xt_getr _ dX7_question_23 kfX7_12 (by first | exact sh129 | exact sh130 | rfl | assumption) rfl ?_
  refine xt_iload_n _ dX7_question_26 rfl ?_
  refine xt_cV _ dX7_question_27 klX7_137 (tX2_isOffending sc _ w f_S130 (μ := (x_u (x_u μ 129 (upd (μ 129) 9 (μ 129 9 + 1))) 129 (upd (x_u μ 129 (upd (μ 129) 9 (μ 129 9 + 1)) 129) 7 (x_u μ 129 (upd (μ 129) 9 (μ 129 9 + 1)) 129 7 ||| (1 : Int32) <<< (nI g &&& 31))))) (hC.cg (fun j hj => by simp only [x_u_ne (show 130 + j ≠ 129 by omega)])) hW g hg) sh130 rfl rfl (Nat.le_of_ble_eq_true rfl) ?_
  refine xt_if_eq 45 dX7_question_30 (by decide) (fun t30 => ?_) (fun f30 => ?_)
  · refine xt_iconst (1) dX7_question_45 (by decide) ?_
    have hof : s_off σ.1 (fun _ => false) 0 g = false := by cases hz : s_off σ.1 (fun _ => false) 0 g <;> simp_all
    refine xt_iret .boolean dX7_question_46 rfl rfl ?_
    rw [show s_ask σ g = (true, (σ.1, s_ac σ.2 g false)) from by rw [s_ask, hof]]
    refine ⟨rfl, ⟨hC.cg (fun j hj => by simp only [x_u_ne (show 130 + j ≠ 129 by omega)]), ?_⟩, fun a ha => by simp only [x_u_ne (show a ≠ 129 by omega)], rfl⟩
    intro i h1 h2
    have hi : i = 1 ∨ i = 2 ∨ i = 3 ∨ i = 4 ∨ i = 5 ∨ i = 6 ∨ i = 7 ∨ i = 8 ∨ i = 9 ∨ i = 10 ∨ i = 11 ∨ i = 12 := by omega
    rcases hi with rfl | rfl | rfl | rfl | rfl | rfl | rfl | rfl | rfl | rfl | rfl | rfl
    · exact hc.2 1 (by decide) (by decide)
    · exact hc.2 2 (by decide) (by decide)
    · exact hc.2 3 (by decide) (by decide)
    · exact hc.2 4 (by decide) (by decide)
    · exact hc.2 5 (by decide) (by decide)
    · exact hc.2 6 (by decide) (by decide)
    · show μ 129 7 ||| (1 : Int32) <<< (nI g &&& 31) = nI (σ.2 7 ||| 2 ^ g); rw [c7, x_1sh (by omega), nI_or]
    · exact hc.2 8 (by decide) (by decide)
    · show μ 129 9 + 1 = nI (σ.2 9 + 1); rw [c9, nI_succ]
    · exact hc.2 10 (by decide) (by decide)
    · exact hc.2 11 (by decide) (by decide)
    · exact hc.2 12 (by decide) (by decide)
  · refine xt_aload_n _ dX7_question_33 rfl ?_
    refine xt_dup dX7_question_34 rfl ?_
    refine xt_geti dX7_question_35 kfX7_68 (by first | exact sh129 | exact sh130 | rfl | assumption) rfl ?_
    refine xt_iconst (1) dX7_question_38 (by decide) ?_
    refine xt_iload_n _ dX7_question_39 rfl ?_
    refine xt_ishl dX7_question_40 ?_
    refine xt_ior dX7_question_41 ?_
    refine xt_puti dX7_question_42 kpX7_68 (by first | exact sh129 | exact sh130 | rfl | assumption) rfl (by first | rfl | assumption) (by first | rfl | assumption) ?_
    refine xt_iconst (1) dX7_question_45 (by decide) ?_
    have hof : s_off σ.1 (fun _ => false) 0 g = true := by cases hz : s_off σ.1 (fun _ => false) 0 g <;> simp_all
    refine xt_iret .boolean dX7_question_46 rfl rfl ?_
    rw [show s_ask σ g = (true, (σ.1, s_ac σ.2 g true)) from by rw [s_ask, hof]]
    refine ⟨rfl, ⟨hC.cg (fun j hj => by simp only [x_u_ne (show 130 + j ≠ 129 by omega)]), ?_⟩, fun a ha => by simp only [x_u_ne (show a ≠ 129 by omega)], rfl⟩
    intro i h1 h2
    have hi : i = 1 ∨ i = 2 ∨ i = 3 ∨ i = 4 ∨ i = 5 ∨ i = 6 ∨ i = 7 ∨ i = 8 ∨ i = 9 ∨ i = 10 ∨ i = 11 ∨ i = 12 := by omega
    rcases hi with rfl | rfl | rfl | rfl | rfl | rfl | rfl | rfl | rfl | rfl | rfl | rfl
    · exact hc.2 1 (by decide) (by decide)
    · exact hc.2 2 (by decide) (by decide)
    · exact hc.2 3 (by decide) (by decide)
    · exact hc.2 4 (by decide) (by decide)
    · exact hc.2 5 (by decide) (by decide)
    · exact hc.2 6 (by decide) (by decide)
    · show μ 129 7 ||| (1 : Int32) <<< (nI g &&& 31) = nI (σ.2 7 ||| 2 ^ g); rw [c7, x_1sh (by omega), nI_or]
    · show μ 129 8 ||| (1 : Int32) <<< (nI g &&& 31) = nI (σ.2 8 ||| 2 ^ g); rw [c8, x_1sh (by omega), nI_or]
    · show μ 129 9 + 1 = nI (σ.2 9 + 1); rw [c9, nI_succ]
    · exact hc.2 10 (by decide) (by decide)
    · exact hc.2 11 (by decide) (by decide)
    · exact hc.2 12 (by decide) (by decide)
set_option maxHeartbeats 1000000 in
theorem tX7_bring (σ : s_St) (hok : s_ok σ) (hc : c_St μ σ) (g x y : Nat) (hg : g < σ.1 4) (hx : x ≤ 9) (hy : y ≤ 9) : x_K sc (d + 3) mX7_bring [.ref 129, .int (nI g), .int (nI x), .int (nI y)] μ w (fun r μ' _ => r = some (.int (if (s_wlk σ g x y).1 then 1 else 0)) ∧ c_St μ' (s_wlk σ g x y).2 ∧ s_fr μ μ') := by
  have hW : f_W σ.1 := hok.1
  have h8 : σ.1 4 ≤ 8 := hW.1.2.2.2.2.1
  have hC : f_C μ 130 σ.1 := hc.1
  have c12 : μ 129 12 = nI (σ.2 12) := hc.2 12 (by decide) (by decide)
  have hfg := s_farG_le hW hg hx hy
  obtain ⟨_, _, _, _, o12, _, _⟩ := hok
  refine x_K.of (by decide) (Nat.le_of_ble_eq_true rfl) ?_
  show x_T sc (d + 3) mX7_bring 0 [.ref 129, .int (nI g), .int (nI x), .int (nI y)] [] μ w _
  refine xt_aload_n _ dX7_bring_0 rfl ?_
  refine xt_aload_n _ dX7_bring_1 rfl ?_
  refine xt_geti dX7_bring_2 kfX7_80 (by first | exact sh129 | exact sh130 | rfl | assumption) rfl ?_
  refine xt_aload_n _ dX7_bring_5 rfl ?_
  refine xt_getr _ dX7_bring_6 kfX7_12 (by first | exact sh129 | exact sh130 | rfl | assumption) rfl ?_
  refine xt_iload_n _ dX7_bring_9 rfl ?_
  refine xt_iload_n _ dX7_bring_10 rfl ?_
  refine xt_iload_n _ dX7_bring_11 rfl ?_
  refine xt_cV _ dX7_bring_12 klX7_140 (tX2_farFromGoer sc _ w f_S130 hC hW g x y hg hx hy) sh130 rfl rfl (Nat.le_of_ble_eq_true rfl) ?_
  refine xt_mmax dX7_bring_15 kmX7_129 (Nat.le_of_ble_eq_true rfl) ?_
  rw [c12, s_max_nI (by omega) (by omega)]
  refine xt_puti dX7_bring_18 kpX7_80 (by first | exact sh129 | exact sh130 | rfl | assumption) rfl (by first | rfl | assumption) (by first | rfl | assumption) ?_
  refine xt_aload_n _ dX7_bring_21 rfl ?_
  refine xt_getr _ dX7_bring_22 kfX7_12 (by first | exact sh129 | exact sh130 | rfl | assumption) rfl ?_
  refine xt_iload_n _ dX7_bring_25 rfl ?_
  refine xt_iload_n _ dX7_bring_26 rfl ?_
  refine xt_iload_n _ dX7_bring_27 rfl ?_
  refine xt_cV0 _ dX7_bring_28 klX7_144 (tX2_setPlace sc _ (x_u μ 129 (upd (μ 129) 12 (nI (max (σ.2 12) (s_farG σ.1 g x y))))) w 130 f_S130 g (by omega) (nI x) (nI y)) sh130 rfl rfl (Nat.le_of_ble_eq_true rfl) ?_
  refine xt_iconst (1) dX7_bring_31 (by decide) ?_
  refine xt_iret .boolean dX7_bring_32 rfl rfl ?_
  refine ⟨rfl, ⟨f_C.place hW (hC.cg (fun j hj => x_u_ne (by omega))) hg hy, ?_⟩, fun a ha => by rw [x_u_ne (by omega), x_u_ne (by omega)], rfl⟩
  intro i h1 h2
  have hi : i = 1 ∨ i = 2 ∨ i = 3 ∨ i = 4 ∨ i = 5 ∨ i = 6 ∨ i = 7 ∨ i = 8 ∨ i = 9 ∨ i = 10 ∨ i = 11 ∨ i = 12 := by omega
  rcases hi with rfl | rfl | rfl | rfl | rfl | rfl | rfl | rfl | rfl | rfl | rfl | rfl
  · exact hc.2 1 (by decide) (by decide)
  · exact hc.2 2 (by decide) (by decide)
  · exact hc.2 3 (by decide) (by decide)
  · exact hc.2 4 (by decide) (by decide)
  · exact hc.2 5 (by decide) (by decide)
  · exact hc.2 6 (by decide) (by decide)
  · exact hc.2 7 (by decide) (by decide)
  · exact hc.2 8 (by decide) (by decide)
  · exact hc.2 9 (by decide) (by decide)
  · exact hc.2 10 (by decide) (by decide)
  · exact hc.2 11 (by decide) (by decide)
  · rfl
set_option maxHeartbeats 2000000 in
theorem tX7_makeGood (σ : s_St) (hok : s_ok σ) (hc : c_St μ σ) (g k n : Nat) (hg : g < σ.1 4) (hk : k < 6) (hn : n ≤ 9) : x_K sc (d + 2) mX7_makeGood [.ref 129, .int (nI g), .int (nI k), .int (nI n)] μ w (fun r μ' _ => r = some (.int (if (s_mnd σ g k n).1 then 1 else 0)) ∧ c_St μ' (s_mnd σ g k n).2 ∧ s_fr μ μ') := by
  have hW : f_W σ.1 := hok.1
  have h8 : σ.1 4 ≤ 8 := hW.1.2.2.2.2.1
  have hC : f_C μ 130 σ.1 := hc.1
  have c10 : μ 129 10 = nI (σ.2 10) := hc.2 10 (by decide) (by decide)
  have hw9 := hW.2.2.2.1 (6 * g + k) (by omega)
  refine x_K.of (by decide) (Nat.le_of_ble_eq_true rfl) ?_
  show x_T sc (d + 2) mX7_makeGood 0 [.ref 129, .int (nI g), .int (nI k), .int (nI n), .retAddr 0] [] μ w _
  by_cases hz : (σ.1 (41 + (6 * g + k))) < n
  · skip
    refine xt_aload_n _ dX7_makeGood_0 rfl ?_
    refine xt_getr _ dX7_makeGood_1 kfX7_12 (by first | exact sh129 | exact sh130 | rfl | assumption) rfl ?_
    refine xt_iload_n _ dX7_makeGood_4 rfl ?_
    refine xt_iload_n _ dX7_makeGood_5 rfl ?_
    refine xt_cV _ dX7_makeGood_6 klX7_148 (tX2_wrongsOf sc _ w f_S130 hC g k (by omega) hk) sh130 rfl rfl (Nat.le_of_ble_eq_true rfl) ?_
    refine xt_istore dX7_makeGood_9 (by decide) rfl ?_
    change x_T _ _ _ _ [_, _, _, _, _] _ _ _ _
    refine xt_iload _ dX7_makeGood_11 rfl ?_
    refine xt_iload_n _ dX7_makeGood_13 rfl ?_
    refine xt_icmp_ge 19 dX7_makeGood_14 (by decide) (fun q => absurd q (nI_ge hz (by omega))) (fun _ => ?_)
    refine xt_iconst (0) dX7_makeGood_17 (by decide) ?_
    exact xt_iret .boolean dX7_makeGood_18 rfl (by first | rfl | assumption) (by rw [show s_mnd σ g k n = (false, σ) from by rw [s_mnd, if_pos hz]]; exact ⟨rfl, hc, fun _ _ => rfl, rfl⟩)
  · skip
    refine xt_aload_n _ dX7_makeGood_0 rfl ?_
    refine xt_getr _ dX7_makeGood_1 kfX7_12 (by first | exact sh129 | exact sh130 | rfl | assumption) rfl ?_
    refine xt_iload_n _ dX7_makeGood_4 rfl ?_
    refine xt_iload_n _ dX7_makeGood_5 rfl ?_
    refine xt_cV _ dX7_makeGood_6 klX7_148 (tX2_wrongsOf sc _ w f_S130 hC g k (by omega) hk) sh130 rfl rfl (Nat.le_of_ble_eq_true rfl) ?_
    refine xt_istore dX7_makeGood_9 (by decide) rfl ?_
    change x_T _ _ _ _ [_, _, _, _, _] _ _ _ _
    refine xt_iload _ dX7_makeGood_11 rfl ?_
    refine xt_iload_n _ dX7_makeGood_13 rfl ?_
    refine xt_icmp_ge 19 dX7_makeGood_14 (by decide) (fun _ => ?_) (fun q => absurd (nI_le (by omega) (by omega)) q)
    refine xt_aload_n _ dX7_makeGood_19 rfl ?_
    refine xt_getr _ dX7_makeGood_20 kfX7_12 (by first | exact sh129 | exact sh130 | rfl | assumption) rfl ?_
    refine xt_iload_n _ dX7_makeGood_23 rfl ?_
    refine xt_iload_n _ dX7_makeGood_24 rfl ?_
    refine xt_iload _ dX7_makeGood_25 rfl ?_
    refine xt_iload_n _ dX7_makeGood_27 rfl ?_
    refine xt_isub dX7_makeGood_28 ?_
    rw [pk_sub (by omega)]
    refine xt_cV0 _ dX7_makeGood_29 klX7_151 (tX2_setWrongs sc _ μ w 130 f_S130 g k (by omega) hk _) sh130 rfl rfl (Nat.le_of_ble_eq_true rfl) ?_
    refine xt_aload_n _ dX7_makeGood_32 rfl ?_
    refine xt_dup dX7_makeGood_33 rfl ?_
    refine xt_geti dX7_makeGood_34 kfX7_74 (by first | exact sh129 | exact sh130 | rfl | assumption) rfl ?_
    refine xt_iload_n _ dX7_makeGood_37 rfl ?_
    refine xt_iadd dX7_makeGood_38 ?_
    refine xt_puti dX7_makeGood_39 kpX7_74 (by first | exact sh129 | exact sh130 | rfl | assumption) rfl (by first | rfl | assumption) (by first | rfl | assumption) ?_
    refine xt_iconst (1) dX7_makeGood_42 (by decide) ?_
    refine xt_iret .boolean dX7_makeGood_43 rfl rfl ?_
    rw [show s_mnd σ g k n = (true, (s_up σ.1 (41 + (6 * g + k)) ((σ.1 (41 + (6 * g + k))) - n), s_up σ.2 10 (σ.2 10 + n))) from by rw [s_mnd, if_neg hz]]
    refine ⟨rfl, ⟨(f_C.wrong hW hC (by omega)).cg (fun j hj => x_u_ne (by omega)), ?_⟩, fun a ha => by rw [x_u_ne (by omega), x_u_ne (by omega)], rfl⟩
    intro i h1 h2
    have hi : i = 1 ∨ i = 2 ∨ i = 3 ∨ i = 4 ∨ i = 5 ∨ i = 6 ∨ i = 7 ∨ i = 8 ∨ i = 9 ∨ i = 10 ∨ i = 11 ∨ i = 12 := by omega
    rcases hi with rfl | rfl | rfl | rfl | rfl | rfl | rfl | rfl | rfl | rfl | rfl | rfl
    · exact hc.2 1 (by decide) (by decide)
    · exact hc.2 2 (by decide) (by decide)
    · exact hc.2 3 (by decide) (by decide)
    · exact hc.2 4 (by decide) (by decide)
    · exact hc.2 5 (by decide) (by decide)
    · exact hc.2 6 (by decide) (by decide)
    · exact hc.2 7 (by decide) (by decide)
    · exact hc.2 8 (by decide) (by decide)
    · exact hc.2 9 (by decide) (by decide)
    · show μ 129 10 + nI n = nI (σ.2 10 + n); rw [c10, nI_add]
    · exact hc.2 11 (by decide) (by decide)
    · exact hc.2 12 (by decide) (by decide)
set_option maxHeartbeats 2000000 in
theorem tX7_offend (σ : s_St) (hok : s_ok σ) (hc : c_St μ σ) (g k n : Nat) (hg : g < σ.1 4) (hk : k < 6) (hn : n ≤ 9) : x_K sc (d + 2) mX7_offend [.ref 129, .int (nI g), .int (nI k), .int (nI n)] μ w (fun r μ' _ => r = some (.int (if (s_dow σ g k n).1 then 1 else 0)) ∧ c_St μ' (s_dow σ g k n).2 ∧ s_fr μ μ') := by
  have hW : f_W σ.1 := hok.1
  have h8 : σ.1 4 ≤ 8 := hW.1.2.2.2.2.1
  have hC : f_C μ 130 σ.1 := hc.1
  have c11 : μ 129 11 = nI (σ.2 11) := hc.2 11 (by decide) (by decide)
  have hw9 := hW.2.2.2.1 (6 * g + k) (by omega)
  refine x_K.of (by decide) (Nat.le_of_ble_eq_true rfl) ?_
  show x_T sc (d + 2) mX7_offend 0 [.ref 129, .int (nI g), .int (nI k), .int (nI n), .retAddr 0] [] μ w _
  by_cases hz : 9 < (σ.1 (41 + (6 * g + k))) + n
  · skip
    refine xt_aload_n _ dX7_offend_0 rfl ?_
    refine xt_getr _ dX7_offend_1 kfX7_12 (by first | exact sh129 | exact sh130 | rfl | assumption) rfl ?_
    refine xt_iload_n _ dX7_offend_4 rfl ?_
    refine xt_iload_n _ dX7_offend_5 rfl ?_
    refine xt_cV _ dX7_offend_6 klX7_148 (tX2_wrongsOf sc _ w f_S130 hC g k (by omega) hk) sh130 rfl rfl (Nat.le_of_ble_eq_true rfl) ?_
    refine xt_istore dX7_offend_9 (by decide) rfl ?_
    change x_T _ _ _ _ [_, _, _, _, _] _ _ _ _
    refine xt_iload _ dX7_offend_11 rfl ?_
    refine xt_iload_n _ dX7_offend_13 rfl ?_
    refine xt_iadd dX7_offend_14 ?_
    refine xt_bipush (9) dX7_offend_15 (by decide) ?_
    refine xt_icmp_le 22 dX7_offend_17 (by decide) (fun q => absurd q (by rw [nI_add]; exact nI_ge (a := 9) hz (by omega))) (fun _ => ?_)
    refine xt_iconst (0) dX7_offend_20 (by decide) ?_
    exact xt_iret .boolean dX7_offend_21 rfl (by first | rfl | assumption) (by rw [show s_dow σ g k n = (false, σ) from by rw [s_dow, if_pos hz]]; exact ⟨rfl, hc, fun _ _ => rfl, rfl⟩)
  · skip
    refine xt_aload_n _ dX7_offend_0 rfl ?_
    refine xt_getr _ dX7_offend_1 kfX7_12 (by first | exact sh129 | exact sh130 | rfl | assumption) rfl ?_
    refine xt_iload_n _ dX7_offend_4 rfl ?_
    refine xt_iload_n _ dX7_offend_5 rfl ?_
    refine xt_cV _ dX7_offend_6 klX7_148 (tX2_wrongsOf sc _ w f_S130 hC g k (by omega) hk) sh130 rfl rfl (Nat.le_of_ble_eq_true rfl) ?_
    refine xt_istore dX7_offend_9 (by decide) rfl ?_
    change x_T _ _ _ _ [_, _, _, _, _] _ _ _ _
    refine xt_iload _ dX7_offend_11 rfl ?_
    refine xt_iload_n _ dX7_offend_13 rfl ?_
    refine xt_iadd dX7_offend_14 ?_
    refine xt_bipush (9) dX7_offend_15 (by decide) ?_
    refine xt_icmp_le 22 dX7_offend_17 (by decide) (fun _ => ?_) (fun q => absurd (by rw [nI_add]; exact nI_le (b := 9) (by omega) (by omega)) q)
    refine xt_aload_n _ dX7_offend_22 rfl ?_
    refine xt_getr _ dX7_offend_23 kfX7_12 (by first | exact sh129 | exact sh130 | rfl | assumption) rfl ?_
    refine xt_iload_n _ dX7_offend_26 rfl ?_
    refine xt_iload_n _ dX7_offend_27 rfl ?_
    refine xt_iload _ dX7_offend_28 rfl ?_
    refine xt_iload_n _ dX7_offend_30 rfl ?_
    refine xt_iadd dX7_offend_31 ?_
    rw [nI_add]
    refine xt_cV0 _ dX7_offend_32 klX7_151 (tX2_setWrongs sc _ μ w 130 f_S130 g k (by omega) hk _) sh130 rfl rfl (Nat.le_of_ble_eq_true rfl) ?_
    refine xt_aload_n _ dX7_offend_35 rfl ?_
    refine xt_dup dX7_offend_36 rfl ?_
    refine xt_geti dX7_offend_37 kfX7_77 (by first | exact sh129 | exact sh130 | rfl | assumption) rfl ?_
    refine xt_iload_n _ dX7_offend_40 rfl ?_
    refine xt_iadd dX7_offend_41 ?_
    refine xt_puti dX7_offend_42 kpX7_77 (by first | exact sh129 | exact sh130 | rfl | assumption) rfl (by first | rfl | assumption) (by first | rfl | assumption) ?_
    refine xt_iconst (1) dX7_offend_45 (by decide) ?_
    refine xt_iret .boolean dX7_offend_46 rfl rfl ?_
    rw [show s_dow σ g k n = (true, (s_up σ.1 (41 + (6 * g + k)) ((σ.1 (41 + (6 * g + k))) + n), s_up σ.2 11 (σ.2 11 + n))) from by rw [s_dow, if_neg hz]]
    refine ⟨rfl, ⟨(f_C.wrong hW hC (by omega)).cg (fun j hj => x_u_ne (by omega)), ?_⟩, fun a ha => by rw [x_u_ne (by omega), x_u_ne (by omega)], rfl⟩
    intro i h1 h2
    have hi : i = 1 ∨ i = 2 ∨ i = 3 ∨ i = 4 ∨ i = 5 ∨ i = 6 ∨ i = 7 ∨ i = 8 ∨ i = 9 ∨ i = 10 ∨ i = 11 ∨ i = 12 := by omega
    rcases hi with rfl | rfl | rfl | rfl | rfl | rfl | rfl | rfl | rfl | rfl | rfl | rfl
    · exact hc.2 1 (by decide) (by decide)
    · exact hc.2 2 (by decide) (by decide)
    · exact hc.2 3 (by decide) (by decide)
    · exact hc.2 4 (by decide) (by decide)
    · exact hc.2 5 (by decide) (by decide)
    · exact hc.2 6 (by decide) (by decide)
    · exact hc.2 7 (by decide) (by decide)
    · exact hc.2 8 (by decide) (by decide)
    · exact hc.2 9 (by decide) (by decide)
    · exact hc.2 10 (by decide) (by decide)
    · show μ 129 11 + nI n = nI (σ.2 11 + n); rw [c11, nI_add]
    · exact hc.2 12 (by decide) (by decide)
set_option maxHeartbeats 4000000 in
theorem tX7_act (σ : s_St) (hok : s_ok σ) (hc : c_St μ σ) (A0 A1 A2 A3 : Int32) (s a b c : Nat) (hq : q_d A0 A1 A2 A3 s a b c) : x_K sc (d + 5) mX7_act [.ref 129, .int A0, .int A1, .int A2, .int A3] μ w (fun r μ' _ => r = some (.int (if (s_act σ s a b c).1 then 1 else 0)) ∧ c_St μ' (s_act σ s a b c).2 ∧ s_fr μ μ') := by
  have hW : f_W σ.1 := hok.1
  have h8 : σ.1 4 ≤ 8 := hW.1.2.2.2.2.1
  have hC : f_C μ 130 σ.1 := hc.1
  obtain ⟨rfl, hs5, hq3, hq4⟩ := hq
  refine x_K.of (by decide) (Nat.le_of_ble_eq_true rfl) ?_
  have hs' : s = 0 ∨ s = 1 ∨ s = 2 ∨ s = 3 ∨ s = 4 ∨ s = 5 := by omega
  rcases hs' with rfl | rfl | rfl | rfl | rfl | rfl
  · skip
    show x_T sc (d + 5) mX7_act 0 [.ref 129, .int (nI 0), .int A1, .int A2, .int A3] [] μ w _
    refine xt_iload_n _ dX7_act_0 rfl ?_
    refine xt_if_ne 9 dX7_act_1 (by decide) (fun q => absurd (by decide) q) (fun _ => ?_)
    refine xt_aload_n _ dX7_act_4 rfl ?_
    refine xt_callV _ dX7_act_5 klX7_100 (tX7_startTune sc _ μ w σ hok hc) sh129 rfl rfl (Nat.le_of_ble_eq_true rfl) (fun r2 μ2 w2 q2 => ?_)
    obtain ⟨rfl, q2⟩ := q2
    change x_T _ _ _ _ _ (.int _ :: _) _ _ _
    exact xt_iret .boolean dX7_act_8 rfl (by first | rfl | exact s_nar _ | assumption) ⟨rfl, q2⟩
  · skip
    show x_T sc (d + 5) mX7_act 0 [.ref 129, .int (nI 1), .int A1, .int A2, .int A3] [] μ w _
    refine xt_iload_n _ dX7_act_0 rfl ?_
    refine xt_if_ne 9 dX7_act_1 (by decide) (fun _ => ?_) (fun q => absurd q (by decide))
    refine xt_iload_n _ dX7_act_9 rfl ?_
    refine xt_iconst (1) dX7_act_10 (by decide) ?_
    refine xt_icmp_ne 19 dX7_act_11 (by decide) (fun q => absurd (by decide) q) (fun _ => ?_)
    refine xt_aload_n _ dX7_act_14 rfl ?_
    refine xt_callV _ dX7_act_15 klX7_103 (tX7_straighten sc _ μ w σ hok hc) sh129 rfl rfl (Nat.le_of_ble_eq_true rfl) (fun r2 μ2 w2 q2 => ?_)
    obtain ⟨rfl, q2⟩ := q2
    change x_T _ _ _ _ _ (.int _ :: _) _ _ _
    exact xt_iret .boolean dX7_act_18 rfl (by first | rfl | exact s_nar _ | assumption) ⟨rfl, q2⟩
  · skip
    obtain ⟨rfl, ha7⟩ := hq3 (by decide)
    show x_T sc (d + 5) mX7_act 0 [.ref 129, .int (nI 2), .int (nI a), .int A2, .int A3] [] μ w _
    by_cases ha : a < σ.1 4
    · have he : s_act σ 2 a b c = s_ask σ a := by unfold s_act; simp [ha]
      refine xt_iload_n _ dX7_act_0 rfl ?_
      refine xt_if_ne 9 dX7_act_1 (by decide) (fun _ => ?_) (fun q => absurd q (by decide))
      refine xt_iload_n _ dX7_act_9 rfl ?_
      refine xt_iconst (1) dX7_act_10 (by decide) ?_
      refine xt_icmp_ne 19 dX7_act_11 (by decide) (fun _ => ?_) (fun q => absurd q (by decide))
      refine xt_aload_n _ dX7_act_19 rfl ?_
      refine xt_getr _ dX7_act_20 kfX7_12 (by first | exact sh129 | exact sh130 | rfl | assumption) rfl ?_
      refine xt_iload_n _ dX7_act_23 rfl ?_
      refine xt_cV _ dX7_act_24 klX7_106 (tX2_hasGoer sc _ w f_S130 hC _) sh130 rfl rfl (Nat.le_of_ble_eq_true rfl) ?_
      refine xt_if_ne 32 dX7_act_27 (by decide) (fun _ => ?_) (fun q => absurd q (by rw [s_hasG_yes ha h8]; decide))
      refine xt_iload_n _ dX7_act_32 rfl ?_
      refine xt_tabIn 60 dX7_act_33 (by decide) (by decide) (by rfl) (by decide) ?_
      refine xt_aload_n _ dX7_act_60 rfl ?_
      refine xt_iload_n _ dX7_act_61 rfl ?_
      refine xt_callV _ dX7_act_62 klX7_110 (tX7_question sc _ μ w σ hok hc a ha) sh129 rfl rfl (Nat.le_of_ble_eq_true rfl) (fun r2 μ2 w2 q2 => ?_)
      obtain ⟨rfl, q2⟩ := q2
      change x_T _ _ _ _ _ (.int _ :: _) _ _ _
      exact xt_iret .boolean dX7_act_65 rfl (by first | rfl | exact s_nar _ | assumption) (by rw [he]; exact ⟨rfl, q2⟩)
    · have he : s_act σ 2 a b c = (false, σ) := by unfold s_act; simp [ha]
      refine xt_iload_n _ dX7_act_0 rfl ?_
      refine xt_if_ne 9 dX7_act_1 (by decide) (fun _ => ?_) (fun q => absurd q (by decide))
      refine xt_iload_n _ dX7_act_9 rfl ?_
      refine xt_iconst (1) dX7_act_10 (by decide) ?_
      refine xt_icmp_ne 19 dX7_act_11 (by decide) (fun _ => ?_) (fun q => absurd q (by decide))
      refine xt_aload_n _ dX7_act_19 rfl ?_
      refine xt_getr _ dX7_act_20 kfX7_12 (by first | exact sh129 | exact sh130 | rfl | assumption) rfl ?_
      refine xt_iload_n _ dX7_act_23 rfl ?_
      refine xt_cV _ dX7_act_24 klX7_106 (tX2_hasGoer sc _ w f_S130 hC _) sh130 rfl rfl (Nat.le_of_ble_eq_true rfl) ?_
      refine xt_if_ne 32 dX7_act_27 (by decide) (fun q => absurd (s_hasG_no (fun z => ha ((nI_ltI (by omega) (by omega)).mp z.2))) q) (fun _ => ?_)
      refine xt_iconst (0) dX7_act_30 (by decide) ?_
      exact xt_iret .boolean dX7_act_31 rfl (by first | rfl | assumption) (by rw [he]; exact ⟨rfl, hc, fun _ _ => rfl, rfl⟩)
  · skip
    obtain ⟨rfl, ha7⟩ := hq3 (by decide)
    have hq4 := hq4 (by decide)
    rw [hq4.1, hq4.2.1]
    show x_T sc (d + 5) mX7_act 0 [.ref 129, .int (nI 3), .int (nI a), .int (nI b), .int (nI c)] [] μ w _
    by_cases ha : a < σ.1 4
    · have he : s_act σ 3 a b c = s_wlk σ a b c := by unfold s_act; simp [ha]
      refine xt_iload_n _ dX7_act_0 rfl ?_
      refine xt_if_ne 9 dX7_act_1 (by decide) (fun _ => ?_) (fun q => absurd q (by decide))
      refine xt_iload_n _ dX7_act_9 rfl ?_
      refine xt_iconst (1) dX7_act_10 (by decide) ?_
      refine xt_icmp_ne 19 dX7_act_11 (by decide) (fun _ => ?_) (fun q => absurd q (by decide))
      refine xt_aload_n _ dX7_act_19 rfl ?_
      refine xt_getr _ dX7_act_20 kfX7_12 (by first | exact sh129 | exact sh130 | rfl | assumption) rfl ?_
      refine xt_iload_n _ dX7_act_23 rfl ?_
      refine xt_cV _ dX7_act_24 klX7_106 (tX2_hasGoer sc _ w f_S130 hC _) sh130 rfl rfl (Nat.le_of_ble_eq_true rfl) ?_
      refine xt_if_ne 32 dX7_act_27 (by decide) (fun _ => ?_) (fun q => absurd q (by rw [s_hasG_yes ha h8]; decide))
      refine xt_iload_n _ dX7_act_32 rfl ?_
      refine xt_tabIn 66 dX7_act_33 (by decide) (by decide) (by rfl) (by decide) ?_
      refine xt_aload_n _ dX7_act_66 rfl ?_
      refine xt_iload_n _ dX7_act_67 rfl ?_
      refine xt_iload_n _ dX7_act_68 rfl ?_
      refine xt_iload _ dX7_act_69 rfl ?_
      refine xt_callV _ dX7_act_71 klX7_113 (tX7_bring sc _ μ w σ hok hc a b c ha hq4.2.2.1 hq4.2.2.2.1) sh129 rfl rfl (Nat.le_of_ble_eq_true rfl) (fun r2 μ2 w2 q2 => ?_)
      obtain ⟨rfl, q2⟩ := q2
      change x_T _ _ _ _ _ (.int _ :: _) _ _ _
      exact xt_iret .boolean dX7_act_74 rfl (by first | rfl | exact s_nar _ | assumption) (by rw [he]; exact ⟨rfl, q2⟩)
    · have he : s_act σ 3 a b c = (false, σ) := by unfold s_act; simp [ha]
      refine xt_iload_n _ dX7_act_0 rfl ?_
      refine xt_if_ne 9 dX7_act_1 (by decide) (fun _ => ?_) (fun q => absurd q (by decide))
      refine xt_iload_n _ dX7_act_9 rfl ?_
      refine xt_iconst (1) dX7_act_10 (by decide) ?_
      refine xt_icmp_ne 19 dX7_act_11 (by decide) (fun _ => ?_) (fun q => absurd q (by decide))
      refine xt_aload_n _ dX7_act_19 rfl ?_
      refine xt_getr _ dX7_act_20 kfX7_12 (by first | exact sh129 | exact sh130 | rfl | assumption) rfl ?_
      refine xt_iload_n _ dX7_act_23 rfl ?_
      refine xt_cV _ dX7_act_24 klX7_106 (tX2_hasGoer sc _ w f_S130 hC _) sh130 rfl rfl (Nat.le_of_ble_eq_true rfl) ?_
      refine xt_if_ne 32 dX7_act_27 (by decide) (fun q => absurd (s_hasG_no (fun z => ha ((nI_ltI (by omega) (by omega)).mp z.2))) q) (fun _ => ?_)
      refine xt_iconst (0) dX7_act_30 (by decide) ?_
      exact xt_iret .boolean dX7_act_31 rfl (by first | rfl | assumption) (by rw [he]; exact ⟨rfl, hc, fun _ _ => rfl, rfl⟩)
  · skip
    obtain ⟨rfl, ha7⟩ := hq3 (by decide)
    have hq4 := hq4 (by decide)
    rw [hq4.1, hq4.2.1]
    have hq5 := hq4.2.2.2.2 (by decide)
    show x_T sc (d + 5) mX7_act 0 [.ref 129, .int (nI 4), .int (nI a), .int (nI b), .int (nI c)] [] μ w _
    by_cases ha : a < σ.1 4
    · have he : s_act σ 4 a b c = s_mnd σ a b c := by unfold s_act; simp [ha]
      refine xt_iload_n _ dX7_act_0 rfl ?_
      refine xt_if_ne 9 dX7_act_1 (by decide) (fun _ => ?_) (fun q => absurd q (by decide))
      refine xt_iload_n _ dX7_act_9 rfl ?_
      refine xt_iconst (1) dX7_act_10 (by decide) ?_
      refine xt_icmp_ne 19 dX7_act_11 (by decide) (fun _ => ?_) (fun q => absurd q (by decide))
      refine xt_aload_n _ dX7_act_19 rfl ?_
      refine xt_getr _ dX7_act_20 kfX7_12 (by first | exact sh129 | exact sh130 | rfl | assumption) rfl ?_
      refine xt_iload_n _ dX7_act_23 rfl ?_
      refine xt_cV _ dX7_act_24 klX7_106 (tX2_hasGoer sc _ w f_S130 hC _) sh130 rfl rfl (Nat.le_of_ble_eq_true rfl) ?_
      refine xt_if_ne 32 dX7_act_27 (by decide) (fun _ => ?_) (fun q => absurd q (by rw [s_hasG_yes ha h8]; decide))
      refine xt_iload_n _ dX7_act_32 rfl ?_
      refine xt_tabIn 75 dX7_act_33 (by decide) (by decide) (by rfl) (by decide) ?_
      refine xt_aload_n _ dX7_act_75 rfl ?_
      refine xt_iload_n _ dX7_act_76 rfl ?_
      refine xt_iload_n _ dX7_act_77 rfl ?_
      refine xt_iload _ dX7_act_78 rfl ?_
      refine xt_callV _ dX7_act_80 klX7_117 (tX7_makeGood sc _ μ w σ hok hc a b c ha (by omega) hq4.2.2.2.1) sh129 rfl rfl (Nat.le_of_ble_eq_true rfl) (fun r2 μ2 w2 q2 => ?_)
      obtain ⟨rfl, q2⟩ := q2
      change x_T _ _ _ _ _ (.int _ :: _) _ _ _
      exact xt_iret .boolean dX7_act_83 rfl (by first | rfl | exact s_nar _ | assumption) (by rw [he]; exact ⟨rfl, q2⟩)
    · have he : s_act σ 4 a b c = (false, σ) := by unfold s_act; simp [ha]
      refine xt_iload_n _ dX7_act_0 rfl ?_
      refine xt_if_ne 9 dX7_act_1 (by decide) (fun _ => ?_) (fun q => absurd q (by decide))
      refine xt_iload_n _ dX7_act_9 rfl ?_
      refine xt_iconst (1) dX7_act_10 (by decide) ?_
      refine xt_icmp_ne 19 dX7_act_11 (by decide) (fun _ => ?_) (fun q => absurd q (by decide))
      refine xt_aload_n _ dX7_act_19 rfl ?_
      refine xt_getr _ dX7_act_20 kfX7_12 (by first | exact sh129 | exact sh130 | rfl | assumption) rfl ?_
      refine xt_iload_n _ dX7_act_23 rfl ?_
      refine xt_cV _ dX7_act_24 klX7_106 (tX2_hasGoer sc _ w f_S130 hC _) sh130 rfl rfl (Nat.le_of_ble_eq_true rfl) ?_
      refine xt_if_ne 32 dX7_act_27 (by decide) (fun q => absurd (s_hasG_no (fun z => ha ((nI_ltI (by omega) (by omega)).mp z.2))) q) (fun _ => ?_)
      refine xt_iconst (0) dX7_act_30 (by decide) ?_
      exact xt_iret .boolean dX7_act_31 rfl (by first | rfl | assumption) (by rw [he]; exact ⟨rfl, hc, fun _ _ => rfl, rfl⟩)
  · skip
    obtain ⟨rfl, ha7⟩ := hq3 (by decide)
    have hq4 := hq4 (by decide)
    rw [hq4.1, hq4.2.1]
    have hq5 := hq4.2.2.2.2 (by decide)
    show x_T sc (d + 5) mX7_act 0 [.ref 129, .int (nI 5), .int (nI a), .int (nI b), .int (nI c)] [] μ w _
    by_cases ha : a < σ.1 4
    · have he : s_act σ 5 a b c = s_dow σ a b c := by unfold s_act; simp [ha]
      refine xt_iload_n _ dX7_act_0 rfl ?_
      refine xt_if_ne 9 dX7_act_1 (by decide) (fun _ => ?_) (fun q => absurd q (by decide))
      refine xt_iload_n _ dX7_act_9 rfl ?_
      refine xt_iconst (1) dX7_act_10 (by decide) ?_
      refine xt_icmp_ne 19 dX7_act_11 (by decide) (fun _ => ?_) (fun q => absurd q (by decide))
      refine xt_aload_n _ dX7_act_19 rfl ?_
      refine xt_getr _ dX7_act_20 kfX7_12 (by first | exact sh129 | exact sh130 | rfl | assumption) rfl ?_
      refine xt_iload_n _ dX7_act_23 rfl ?_
      refine xt_cV _ dX7_act_24 klX7_106 (tX2_hasGoer sc _ w f_S130 hC _) sh130 rfl rfl (Nat.le_of_ble_eq_true rfl) ?_
      refine xt_if_ne 32 dX7_act_27 (by decide) (fun _ => ?_) (fun q => absurd q (by rw [s_hasG_yes ha h8]; decide))
      refine xt_iload_n _ dX7_act_32 rfl ?_
      refine xt_tabOut 84 dX7_act_33 (by decide) (by decide) ?_
      refine xt_aload_n _ dX7_act_84 rfl ?_
      refine xt_iload_n _ dX7_act_85 rfl ?_
      refine xt_iload_n _ dX7_act_86 rfl ?_
      refine xt_iload _ dX7_act_87 rfl ?_
      refine xt_callV _ dX7_act_89 klX7_120 (tX7_offend sc _ μ w σ hok hc a b c ha (by omega) hq4.2.2.2.1) sh129 rfl rfl (Nat.le_of_ble_eq_true rfl) (fun r2 μ2 w2 q2 => ?_)
      obtain ⟨rfl, q2⟩ := q2
      change x_T _ _ _ _ _ (.int _ :: _) _ _ _
      exact xt_iret .boolean dX7_act_92 rfl (by first | rfl | exact s_nar _ | assumption) (by rw [he]; exact ⟨rfl, q2⟩)
    · have he : s_act σ 5 a b c = (false, σ) := by unfold s_act; simp [ha]
      refine xt_iload_n _ dX7_act_0 rfl ?_
      refine xt_if_ne 9 dX7_act_1 (by decide) (fun _ => ?_) (fun q => absurd q (by decide))
      refine xt_iload_n _ dX7_act_9 rfl ?_
      refine xt_iconst (1) dX7_act_10 (by decide) ?_
      refine xt_icmp_ne 19 dX7_act_11 (by decide) (fun _ => ?_) (fun q => absurd q (by decide))
      refine xt_aload_n _ dX7_act_19 rfl ?_
      refine xt_getr _ dX7_act_20 kfX7_12 (by first | exact sh129 | exact sh130 | rfl | assumption) rfl ?_
      refine xt_iload_n _ dX7_act_23 rfl ?_
      refine xt_cV _ dX7_act_24 klX7_106 (tX2_hasGoer sc _ w f_S130 hC _) sh130 rfl rfl (Nat.le_of_ble_eq_true rfl) ?_
      refine xt_if_ne 32 dX7_act_27 (by decide) (fun q => absurd (s_hasG_no (fun z => ha ((nI_ltI (by omega) (by omega)).mp z.2))) q) (fun _ => ?_)
      refine xt_iconst (0) dX7_act_30 (by decide) ?_
      exact xt_iret .boolean dX7_act_31 rfl (by first | rfl | assumption) (by rw [he]; exact ⟨rfl, hc, fun _ _ => rfl, rfl⟩)
set_option maxHeartbeats 1000000 in
theorem tX7_begin (k : Nat) (F : Nat → Nat) (hS : f_S k) (hk : k + 5 < 129) (hW : f_W F) (hCF : f_C μ k F) : x_K sc (d + 2) mX7_begin [.ref 129, .ref k] μ w (fun r μ' _ => r = none ∧ c_St μ' (F, s_c0) ∧ s_fr μ μ') := by
  refine x_K.of (by decide) (Nat.le_of_ble_eq_true rfl) ?_
  show x_T sc (d + 2) mX7_begin 0 [.ref 129, .ref k] [] μ w _
  refine xt_aload_n _ dX7_begin_0 rfl ?_
  refine xt_getr _ dX7_begin_1 kfX7_12 (by first | exact sh129 | exact hS.1 | rfl | assumption) rfl ?_
  refine xt_aload_n _ dX7_begin_4 rfl ?_
  refine xt_callV _ dX7_begin_5 klX7_44 (tX2_copyFrom sc _ μ w 130 k f_S130 hS (by omega)) sh130 rfl rfl (Nat.le_of_ble_eq_true rfl) (fun r2 μ2 w2 q2 => ?_)
  obtain ⟨rfl, hc2, hf2⟩ := q2
  change x_T _ _ _ _ _ [] _ _ _
  refine xt_aload_n _ dX7_begin_8 rfl ?_
  refine xt_iconst (0) dX7_begin_9 (by decide) ?_
  refine xt_puti dX7_begin_10 kpX7_47 (by first | exact sh129 | exact hS.1 | rfl | assumption) rfl (by first | rfl | assumption) (by first | rfl | assumption) ?_
  refine xt_aload_n _ dX7_begin_13 rfl ?_
  refine xt_iconst (0) dX7_begin_14 (by decide) ?_
  refine xt_puti dX7_begin_15 kpX7_50 (by first | exact sh129 | exact hS.1 | rfl | assumption) rfl (by first | rfl | assumption) (by first | rfl | assumption) ?_
  refine xt_aload_n _ dX7_begin_18 rfl ?_
  refine xt_iconst (-1) dX7_begin_19 (by decide) ?_
  refine xt_puti dX7_begin_20 kpX7_53 (by first | exact sh129 | exact hS.1 | rfl | assumption) rfl (by first | rfl | assumption) (by first | rfl | assumption) ?_
  refine xt_aload_n _ dX7_begin_23 rfl ?_
  refine xt_iconst (-1) dX7_begin_24 (by decide) ?_
  refine xt_puti dX7_begin_25 kpX7_56 (by first | exact sh129 | exact hS.1 | rfl | assumption) rfl (by first | rfl | assumption) (by first | rfl | assumption) ?_
  refine xt_aload_n _ dX7_begin_28 rfl ?_
  refine xt_iconst (0) dX7_begin_29 (by decide) ?_
  refine xt_puti dX7_begin_30 kpX7_59 (by first | exact sh129 | exact hS.1 | rfl | assumption) rfl (by first | rfl | assumption) (by first | rfl | assumption) ?_
  refine xt_aload_n _ dX7_begin_33 rfl ?_
  refine xt_iconst (0) dX7_begin_34 (by decide) ?_
  refine xt_puti dX7_begin_35 kpX7_62 (by first | exact sh129 | exact hS.1 | rfl | assumption) rfl (by first | rfl | assumption) (by first | rfl | assumption) ?_
  refine xt_aload_n _ dX7_begin_38 rfl ?_
  refine xt_iconst (0) dX7_begin_39 (by decide) ?_
  refine xt_puti dX7_begin_40 kpX7_65 (by first | exact sh129 | exact hS.1 | rfl | assumption) rfl (by first | rfl | assumption) (by first | rfl | assumption) ?_
  refine xt_aload_n _ dX7_begin_43 rfl ?_
  refine xt_iconst (0) dX7_begin_44 (by decide) ?_
  refine xt_puti dX7_begin_45 kpX7_68 (by first | exact sh129 | exact hS.1 | rfl | assumption) rfl (by first | rfl | assumption) (by first | rfl | assumption) ?_
  refine xt_aload_n _ dX7_begin_48 rfl ?_
  refine xt_iconst (0) dX7_begin_49 (by decide) ?_
  refine xt_puti dX7_begin_50 kpX7_71 (by first | exact sh129 | exact hS.1 | rfl | assumption) rfl (by first | rfl | assumption) (by first | rfl | assumption) ?_
  refine xt_aload_n _ dX7_begin_53 rfl ?_
  refine xt_iconst (0) dX7_begin_54 (by decide) ?_
  refine xt_puti dX7_begin_55 kpX7_74 (by first | exact sh129 | exact hS.1 | rfl | assumption) rfl (by first | rfl | assumption) (by first | rfl | assumption) ?_
  refine xt_aload_n _ dX7_begin_58 rfl ?_
  refine xt_iconst (0) dX7_begin_59 (by decide) ?_
  refine xt_puti dX7_begin_60 kpX7_77 (by first | exact sh129 | exact hS.1 | rfl | assumption) rfl (by first | rfl | assumption) (by first | rfl | assumption) ?_
  refine xt_aload_n _ dX7_begin_63 rfl ?_
  refine xt_iconst (0) dX7_begin_64 (by decide) ?_
  refine xt_puti dX7_begin_65 kpX7_80 (by first | exact sh129 | exact hS.1 | rfl | assumption) rfl (by first | rfl | assumption) (by first | rfl | assumption) ?_
  refine xt_ret dX7_begin_68 rfl ⟨rfl, ⟨(hCF.copy hW hc2).cg (fun j hj => by simp only [x_u_ne (show 130 + j ≠ 129 by omega)]), ?_⟩, fun a ha => by simp only [x_u_ne (show a ≠ 129 by omega)]; exact hf2 a (by omega), ?_⟩
  · intro i h1 h2
    have hi : i = 1 ∨ i = 2 ∨ i = 3 ∨ i = 4 ∨ i = 5 ∨ i = 6 ∨ i = 7 ∨ i = 8 ∨ i = 9 ∨ i = 10 ∨ i = 11 ∨ i = 12 := by omega
    rcases hi with rfl | rfl | rfl | rfl | rfl | rfl | rfl | rfl | rfl | rfl | rfl | rfl <;> rfl
  · show μ2 129 13 = μ 129 13; rw [hf2 129 (by omega)]
set_option maxHeartbeats 2000000 in
theorem tX7_run (k kd n N : Nat) (F : Nat → Nat) (D : Nat → Int32) (hS : f_S k) (hk : k + 5 < 129) (hW : f_W F) (hCF : f_C μ k F) (hSd : d_S kd) (hkd : kd + 1 < 129) (hWd : d_W n D) (hD : d_C μ kd n D) (hN : N ≤ n) : x_K sc (d + 6) mX7_run [.ref 129, .ref k, .ref kd, .int (nI N)] μ w (fun r μ' _ => r = some (.int (nI (s_go D N 0 (F, s_c0)).1)) ∧ c_St μ' (s_go D N 0 (F, s_c0)).2 ∧ s_fr μ μ') := by
  have hn40 := hWd.1
  refine x_K.of (by decide) (Nat.le_of_ble_eq_true rfl) ?_
  show x_T sc (d + 6) mX7_run 0 [.ref 129, .ref k, .ref kd, .int (nI N), .retAddr 0] [] μ w _
  refine xt_aload_n _ dX7_run_0 rfl ?_
  refine xt_aload_n _ dX7_run_1 rfl ?_
  refine xt_callV _ dX7_run_2 klX7_22 (tX7_begin sc _ μ w k F hS hk hW hCF) sh129 rfl rfl (Nat.le_of_ble_eq_true rfl) (fun r2 μ2 w2 q2 => ?_)
  obtain ⟨rfl, hc2, hf2⟩ := q2
  change x_T _ _ _ _ _ [] _ _ _
  refine xt_iconst (0) dX7_run_5 (by decide) ?_
  refine xt_istore dX7_run_6 (by decide) rfl ?_
  change x_T _ _ _ _ [_, _, _, _, _] _ _ _ _
  have L8 : ∀ (n8 m : Nat) (μ2 : x_Me) (w2 : Int64) (σ : s_St) (hok : s_ok σ) (hc : c_St μ2 σ) (hf : s_fr μ μ2) (hR : s_go D n8 m σ = s_go D N 0 (F, s_c0)), m + n8 = N → x_T sc (d + 6) mX7_run 8 [.ref 129, .ref k, .ref kd, .int (nI N), .int (nI m)] [] μ2 w2 (fun r μ' _ => r = some (.int (nI (s_go D N 0 (F, s_c0)).1)) ∧ c_St μ' (s_go D N 0 (F, s_c0)).2 ∧ s_fr μ μ') := by
    intro n8
    induction n8 with
    | zero =>
      intro m μ2 w2 σ hok hc hf hR hmn
      obtain rfl : N = m := by omega
      refine xt_iload _ dX7_run_8 rfl ?_
      refine xt_iload_n _ dX7_run_10 rfl ?_
      refine xt_icmp_ge 58 dX7_run_11 (by decide) (fun _ => ?_) (fun q => absurd (Int32.le_refl _) q)
      refine xt_iload_n _ dX7_run_58 rfl ?_
      exact xt_iret .int dX7_run_59 rfl (by first | rfl | assumption) ⟨by rw [← hR]; rfl, by rw [← hR]; exact hc, hf⟩
    | succ n8 ih8 =>
      intro m μ2 w2 σ hok hc hf hR hmn
      have hlt : m < N := by omega
      have hD2 : d_C μ2 kd n D := ⟨by rw [hf.1 kd (by omega)]; exact hD.1, fun i hi => by rw [hf.1 (kd + 1) (by omega)]; exact hD.2 i hi⟩
      refine xt_iload _ dX7_run_8 rfl ?_
      refine xt_iload_n _ dX7_run_10 rfl ?_
      refine xt_icmp_ge 58 dX7_run_11 (by decide) (fun q => absurd q (nI_ge hlt (by omega))) (fun _ => ?_)
      refine xt_aload_n _ dX7_run_14 rfl ?_
      refine xt_aload_n _ dX7_run_15 rfl ?_
      refine xt_iload _ dX7_run_16 rfl ?_
      refine xt_iconst (0) dX7_run_18 (by decide) ?_
      refine xt_cV _ dX7_run_19 klX7_26 (tX1_part sc _ μ2 _ hSd hWd.1 hD2 m 0 (by omega) (by decide)) hSd.1 rfl rfl (Nat.le_of_ble_eq_true rfl) ?_
      refine xt_aload_n _ dX7_run_22 rfl ?_
      refine xt_iload _ dX7_run_23 rfl ?_
      refine xt_iconst (1) dX7_run_25 (by decide) ?_
      refine xt_cV _ dX7_run_26 klX7_26 (tX1_part sc _ μ2 _ hSd hWd.1 hD2 m 1 (by omega) (by decide)) hSd.1 rfl rfl (Nat.le_of_ble_eq_true rfl) ?_
      refine xt_aload_n _ dX7_run_29 rfl ?_
      refine xt_iload _ dX7_run_30 rfl ?_
      refine xt_iconst (2) dX7_run_32 (by decide) ?_
      refine xt_cV _ dX7_run_33 klX7_26 (tX1_part sc _ μ2 _ hSd hWd.1 hD2 m 2 (by omega) (by decide)) hSd.1 rfl rfl (Nat.le_of_ble_eq_true rfl) ?_
      refine xt_aload_n _ dX7_run_36 rfl ?_
      refine xt_iload _ dX7_run_37 rfl ?_
      refine xt_iconst (3) dX7_run_39 (by decide) ?_
      refine xt_cV _ dX7_run_40 klX7_26 (tX1_part sc _ μ2 _ hSd hWd.1 hD2 m 3 (by omega) (by decide)) hSd.1 rfl rfl (Nat.le_of_ble_eq_true rfl) ?_
      refine xt_callV _ dX7_run_43 klX7_32 (tX7_act sc _ μ2 _ σ hok hc _ _ _ _ (s_dd D m 0) (s_dd D m 1) (s_dd D m 2) (s_dd D m 3) (s_dq hWd (by omega))) sh129 rfl rfl (Nat.le_of_ble_eq_true rfl) (fun r3 μ3 w3 q3 => ?_)
      obtain ⟨rfl, hc3, hf3⟩ := q3
      change x_T _ _ _ _ _ (.int (if (s_ad σ D m).1 then 1 else 0) :: _) _ _ _
      refine xt_if_ne 52 dX7_run_46 (by decide) (fun t46 => ?_) (fun f46 => ?_)
      · refine xt_inc _ (1) dX7_run_52 rfl (by decide) (by decide) rfl ?_
        change x_T _ _ _ _ [_, _, _, _, _] _ _ _ _
        refine xt_goto 8 dX7_run_55 (by decide) ?_
        refine x_T.ls (by rw [nI_succ m]) (ih8 (m + 1) μ3 w3 (s_ad σ D m).2 (s_ad_ok hWd (by omega) hok) hc3 ⟨fun a ha => (hf3.1 a ha).trans (hf.1 a ha), hf3.2.trans hf.2⟩ ?_ (by omega))
        have hb : (s_ad σ D m).1 = true := by cases hz : (s_ad σ D m).1 <;> simp_all
        rw [← hR, s_go, if_pos hb]
      · refine xt_iload _ dX7_run_49 rfl ?_
        exact xt_iret .int dX7_run_51 rfl (by first | rfl | assumption) (by have hb : (s_ad σ D m).1 = false := (by cases hz : (s_ad σ D m).1 <;> simp_all); have he : s_ad σ D m = ((s_ad σ D m).1, (s_ad σ D m).2) := rfl; have hs2 : (s_ad σ D m).2 = σ := s_ad_no hb; rw [← hR, s_go, if_neg (by rw [hb]; decide)]; exact ⟨rfl, by rw [← hs2]; exact hc3, fun a ha => (hf3.1 a ha).trans (hf.1 a ha), hf3.2.trans hf.2⟩)
  exact L8 N 0 μ2 w2 (F, s_c0) (s_ok0 hW) hc2 hf2 rfl (by omega)
end STAGE
