/-! the PLACES: quiet, walk -/
theorem sh150 : x_shape[150]? = some (.inl (0, [some (some (.ref 151))])) := by rfl
theorem s_set_ix {n j : Nat} {f : Nat → Int32} {v : Int32} (hj : j < n) (hn : n < 2 ^ 31) : s_set n f (nI j) v = upd f j v := by
  rw [s_set, if_neg (nI_pos (by omega)), if_neg (nI_ge hj hn), nI_clamp (by omega)]
/-- the first of least v among those that are ok (one more; none: 0), and that v -/
def s_am (v : Nat → Nat) (ok : Nat → Bool) (lim : Nat) : Nat → Nat × Nat
  | 0 => (0, lim)
  | n + 1 => if ok n = true ∧ v n < (s_am v ok lim n).2 then (n + 1, v n) else s_am v ok lim n
theorem s_am_le {v : Nat → Nat} {ok : Nat → Bool} {lim : Nat} : ∀ n, (s_am v ok lim n).2 ≤ lim ∧ (s_am v ok lim n).1 ≤ n
  | 0 => ⟨Nat.le_refl _, Nat.le_refl _⟩
  | n + 1 => by
    have h := s_am_le (v := v) (ok := ok) (lim := lim) n
    rw [s_am]; split
    · simp only; omega
    · omega
theorem s_am_v {v : Nat → Nat} {ok : Nat → Bool} {lim : Nat} : ∀ n, (s_am v ok lim n).1 ≠ 0 → (s_am v ok lim n).2 = v ((s_am v ok lim n).1 - 1)
  | 0 => fun h => absurd rfl h
  | n + 1 => by
    have h := s_am_v (v := v) (ok := ok) (lim := lim) n
    rw [s_am]; split
    · intro _; rfl
    · exact h
theorem s_am_cong {v v' : Nat → Nat} {ok ok' : Nat → Bool} {lim : Nat} : ∀ n, (∀ i, i < n → v i = v' i ∧ ok i = ok' i) → s_am v ok lim n = s_am v' ok' lim n
  | 0, _ => rfl
  | n + 1, h => by rw [s_am, s_am, s_am_cong n (fun i hi => h i (by omega)), (h n (by omega)).1, (h n (by omega)).2]
theorem s_am_lim {v : Nat → Nat} {ok : Nat → Bool} {a b : Nat} : ∀ n, (∀ i, i < n → v i < a ∧ v i < b) → (s_am v ok a n).1 = (s_am v ok b n).1 ∧ (((s_am v ok a n).1 = 0 ∧ (s_am v ok a n).2 = a ∧ (s_am v ok b n).2 = b) ∨ ((s_am v ok a n).1 ≠ 0 ∧ (s_am v ok a n).2 = (s_am v ok b n).2))
  | 0, _ => ⟨rfl, Or.inl ⟨rfl, rfl, rfl⟩⟩
  | n + 1, h => by
    have ih := s_am_lim (v := v) (ok := ok) (a := a) (b := b) n (fun i hi => h i (by omega))
    have hn := h n (by omega)
    rw [s_am, s_am]
    by_cases h1 : ok n = true
    · rcases ih.2 with ⟨z0, z1, z2⟩ | ⟨z0, z1⟩
      · rw [z1, z2, if_pos ⟨h1, hn.1⟩, if_pos ⟨h1, hn.2⟩]
        exact ⟨rfl, Or.inr ⟨by simp, rfl⟩⟩
      · rw [z1]
        by_cases h2 : v n < (s_am v ok b n).2
        · rw [if_pos ⟨h1, h2⟩, if_pos ⟨h1, h2⟩]; exact ⟨rfl, Or.inr ⟨by simp, rfl⟩⟩
        · rw [if_neg (fun q => h2 q.2), if_neg (fun q => h2 q.2)]; exact ⟨ih.1, Or.inr ⟨z0, z1⟩⟩
    · rw [if_neg (fun q => h1 q.1), if_neg (fun q => h1 q.1)]; exact ih
theorem s_am_y {v : Nat → Nat} {ok : Nat → Bool} {lim n : Nat} (h1 : ok n = true) (h2 : v n < (s_am v ok lim n).2) : s_am v ok lim (n + 1) = (n + 1, v n) := by rw [s_am, if_pos ⟨h1, h2⟩]
theorem s_am_n1 {v : Nat → Nat} {ok : Nat → Bool} {lim n : Nat} (h1 : ok n = false) : s_am v ok lim (n + 1) = s_am v ok lim n := by rw [s_am, if_neg (fun q => by rw [h1] at q; exact absurd q.1 (by decide))]
theorem s_am_n2 {v : Nat → Nat} {ok : Nat → Bool} {lim n : Nat} (h2 : (s_am v ok lim n).2 ≤ v n) : s_am v ok lim (n + 1) = s_am v ok lim n := by rw [s_am, if_neg (fun q => absurd q.2 (by omega))]
/-- how near a GOER offends, one more -/
abbrev s_e (F : Nat → Nat) (g : Nat) : Nat := s_ear F (fun _ => false) 0 g (F 3)
/-- how many offend, the STAND being at a PLACE -/
abbrev s_hf (F : Nat → Nat) (p : Nat) : Nat := s_cnt (fun g => decide (s_farG F g (p / 10) (p % 10) < s_e F g)) (F 4)
theorem s_farG_le {F : Nat → Nat} (hW : f_W F) {g x y : Nat} (hg : g < F 4) (hx : x ≤ 9) (hy : y ≤ 9) : s_farG F g x y ≤ 18 := by
  have h3 := hW.2.2.1 g hg
  unfold s_farG; split <;> split <;> omega
theorem s_farS_le {F : Nat → Nat} (hW : f_W F) {x y : Nat} (hx : x ≤ 9) (hy : y ≤ 9) : s_farS F x y ≤ 18 := by
  have h1 := hW.1.1
  have h2 := hW.1.2.1
  unfold s_farS; split <;> split <;> omega
section PLACES
variable (sc : Nat × (Nat → Int32)) (d : Nat) {μ : x_Me} (w : Int64) {k : Nat} {F : Nat → Nat}
set_option maxHeartbeats 1000000 in
theorem tX0_listen (hS : f_S k) (hC : f_C μ k F) (hW : f_W F) (hk : k + 5 < 151) : x_K sc (d + 3) mX0_listen [.ref 150, .ref k] μ w (fun r μ' _ => r = none ∧ (∀ g, g < F 4 → μ' 151 g = eI (s_e F g)) ∧ ∀ a, a ≠ 151 → μ' a = μ a) := by
  have h8 : F 4 ≤ 8 := hW.1.2.2.2.2.1
  have e4 : μ k 4 = nI (F 4) := hC.1 4 (by decide)
  refine x_K.of (by decide) (Nat.le_of_ble_eq_true rfl) ?_
  show x_T sc (d + 3) mX0_listen 0 [.ref 150, .ref k, .retAddr 0] [] μ w _
  refine xt_iconst (0) dX0_listen_0 (by decide) ?_
  refine xt_istore_n dX0_listen_1 (by decide) rfl ?_
  change x_T _ _ _ _ [_, _, _] _ _ _ _
  have L2 : ∀ (n2 m : Nat) (μ2 : x_Me) (hJ1 : ∀ g, g < m → μ2 151 g = eI (s_e F g)) (hJ2 : ∀ a, a ≠ 151 → μ2 a = μ a), m + n2 = F 4 → x_T sc (d + 3) mX0_listen 2 [.ref 150, .ref k, .int (nI m)] [] μ2 w (fun r μ' _ => r = none ∧ (∀ g, g < F 4 → μ' 151 g = eI (s_e F g)) ∧ ∀ a, a ≠ 151 → μ' a = μ a) := by
    intro n2
    induction n2 with
    | zero =>
      intro m μ2 hJ1 hJ2 hmn
      obtain rfl : F 4 = m := by omega
      refine xt_iload_n _ dX0_listen_2 rfl ?_
      refine xt_aload_n _ dX0_listen_3 rfl ?_
      refine xt_geti dX0_listen_4 kfX0_15 (by first | exact sh0 | exact hS.1 | exact sh150 | rfl | assumption) rfl ?_
      refine xt_icmp_ge 31 dX0_listen_7 (by decide) (fun _ => ?_) (fun q => absurd (by rw [hJ2 k (by omega), e4]; exact Int32.le_refl _) q)
      exact xt_ret dX0_listen_31 rfl ⟨rfl, hJ1, hJ2⟩
    | succ n2 ih2 =>
      intro m μ2 hJ1 hJ2 hmn
      have hlt : m < F 4 := by omega
      have hC2 : f_C μ2 k F := hC.cg (fun j hj => hJ2 _ (by omega))
      refine xt_iload_n _ dX0_listen_2 rfl ?_
      refine xt_aload_n _ dX0_listen_3 rfl ?_
      refine xt_geti dX0_listen_4 kfX0_15 (by first | exact sh0 | exact hS.1 | exact sh150 | rfl | assumption) rfl ?_
      refine xt_icmp_ge 31 dX0_listen_7 (by decide) (fun q => absurd q (by rw [hJ2 k (by omega), e4]; exact nI_ge hlt (by omega))) (fun _ => ?_)
      refine xt_aload_n _ dX0_listen_10 rfl ?_
      refine xt_getr _ dX0_listen_11 kfX0_9 (by first | exact sh0 | exact hS.1 | exact sh150 | rfl | assumption) rfl ?_
      refine xt_iload_n _ dX0_listen_14 rfl ?_
      refine xt_aload_n _ dX0_listen_15 rfl ?_
      refine xt_iload_n _ dX0_listen_16 rfl ?_
      refine xt_iconst (0) dX0_listen_17 (by decide) ?_
      refine xt_iconst (0) dX0_listen_18 (by decide) ?_
      refine xt_cV _ dX0_listen_19 klX0_21 (tX2_earshot sc _ w hS hC2 hW m 0 hlt (by omega) 0 (fun _ => false) s_str0) hS.1 rfl rfl (Nat.le_of_ble_eq_true rfl) ?_
      refine xt_cS0 _ dX0_listen_22 klX0_25 (tX8_set sc _ μ2 w (k := 151) (n := 8) rfl (by decide) _ _) rfl rfl (Nat.le_of_ble_eq_true rfl) ?_
      refine xt_inc _ (1) dX0_listen_25 rfl (by decide) (by decide) rfl ?_
      change x_T _ _ _ _ [_, _, _] _ _ _ _
      refine xt_goto 2 dX0_listen_28 (by decide) ?_
      refine x_T.ls (by rw [nI_succ m]) (ih2 (m + 1) _ ?_ ?_ (by omega))
      · intro g hg
        rw [x_u_eq, s_set_ix (by omega) (by decide)]
        by_cases h : g = m
        · subst h; rw [pk_us]
        · rw [pk_un h]; exact hJ1 g (by omega)
      · intro a ha; rw [x_u_ne ha]; exact hJ2 a ha
  exact L2 (F 4) 0 μ (fun g h => absurd h (by omega)) (fun a _ => rfl) (by omega)
set_option maxHeartbeats 1000000 in
theorem tX0_heardFrom (hS : f_S k) (hC : f_C μ k F) (hW : f_W F) (he : ∀ g, g < F 4 → μ 151 g = eI (s_e F g)) (p : Nat) (hp : p < 100) : x_K sc (d + 3) mX0_heardFrom [.ref 150, .ref k, .int (nI p)] μ w (x_p (some (.int (nI (s_hf F p)))) μ w) := by
  have h8 : F 4 ≤ 8 := hW.1.2.2.2.2.1
  have e4 : μ k 4 = nI (F 4) := hC.1 4 (by decide)
  have hdv : nI p / (10 : Int32) = nI (p / 10) := pk_div (by omega) (by decide) (by decide)
  have hrm : nI p - nI p / (10 : Int32) * 10 = nI (p % 10) := pk_rem (d := 10) (by omega) (by decide) (by decide)
  refine x_K.of (by decide) (Nat.le_of_ble_eq_true rfl) ?_
  show x_T sc (d + 3) mX0_heardFrom 0 [.ref 150, .ref k, .int (nI p), .retAddr 0, .retAddr 0] [] μ w _
  refine xt_iconst (0) dX0_heardFrom_0 (by decide) ?_
  refine xt_istore_n dX0_heardFrom_1 (by decide) rfl ?_
  change x_T _ _ _ _ [_, _, _, _, _] _ _ _ _
  refine xt_iconst (0) dX0_heardFrom_2 (by decide) ?_
  refine xt_istore dX0_heardFrom_3 (by decide) rfl ?_
  change x_T _ _ _ _ [_, _, _, _, _] _ _ _ _
  have L5 : ∀ (n5 m : Nat) , m + n5 = F 4 → x_T sc (d + 3) mX0_heardFrom 5 [.ref 150, .ref k, .int (nI p), .int (nI (s_cnt (fun g => decide (s_farG F g (p / 10) (p % 10) < s_e F g)) m)), .int (nI m)] [] μ w (x_p (some (.int (nI (s_hf F p)))) μ w) := by
    intro n5
    induction n5 with
    | zero =>
      intro m  hmn
      obtain rfl : F 4 = m := by omega
      refine xt_iload _ dX0_heardFrom_5 rfl ?_
      refine xt_aload_n _ dX0_heardFrom_7 rfl ?_
      refine xt_geti dX0_heardFrom_8 kfX0_15 (by first | exact sh0 | exact hS.1 | exact sh150 | rfl | assumption) rfl ?_
      refine xt_icmp_ge 49 dX0_heardFrom_11 (by decide) (fun _ => ?_) (fun q => absurd (by rw [e4]; exact Int32.le_refl _) q)
      refine xt_iload_n _ dX0_heardFrom_49 rfl ?_
      exact xt_iret .int dX0_heardFrom_50 rfl (by first | rfl | assumption) ⟨rfl, rfl, rfl⟩
    | succ n5 ih5 =>
      intro m  hmn
      have hlt : m < F 4 := by omega
      have hg18 := s_farG_le hW hlt (show p / 10 ≤ 9 by omega) (show p % 10 ≤ 9 by omega)
      have hear : s_e F m ≤ 19 := s_ear_le hW (fun _ => false) 0 m (F 3) (Nat.le_refl _)
      have ha : s_at 8 (μ 151) (nI m) = eI (s_e F m) := by rw [s_at_ix (j := m) (by omega) (by decide) rfl, he m hlt]
      refine xt_iload _ dX0_heardFrom_5 rfl ?_
      refine xt_aload_n _ dX0_heardFrom_7 rfl ?_
      refine xt_geti dX0_heardFrom_8 kfX0_15 (by first | exact sh0 | exact hS.1 | exact sh150 | rfl | assumption) rfl ?_
      refine xt_icmp_ge 49 dX0_heardFrom_11 (by decide) (fun q => absurd q (by rw [e4]; exact nI_ge hlt (by omega))) (fun _ => ?_)
      refine xt_aload_n _ dX0_heardFrom_14 rfl ?_
      refine xt_iload _ dX0_heardFrom_15 rfl ?_
      refine xt_iload_n _ dX0_heardFrom_17 rfl ?_
      refine xt_bipush (10) dX0_heardFrom_18 (by decide) ?_
      refine xt_idiv dX0_heardFrom_20 (by decide) ?_
      refine xt_iload_n _ dX0_heardFrom_21 rfl ?_
      refine xt_bipush (10) dX0_heardFrom_22 (by decide) ?_
      refine xt_irem dX0_heardFrom_24 (by decide) ?_
      rw [hrm, hdv]
      refine xt_cV _ dX0_heardFrom_25 klX0_31 (tX2_farFromGoer sc _ w hS hC hW m (p / 10) (p % 10) hlt (by omega) (by omega)) hS.1 rfl rfl (Nat.le_of_ble_eq_true rfl) ?_
      refine xt_aload_n _ dX0_heardFrom_28 rfl ?_
      refine xt_getr _ dX0_heardFrom_29 kfX0_9 (by first | exact sh0 | exact hS.1 | exact sh150 | rfl | assumption) rfl ?_
      refine xt_iload _ dX0_heardFrom_32 rfl ?_
      refine xt_cS _ dX0_heardFrom_34 klX0_34 (tX8_at sc _ μ w (k := 151) (n := 8) rfl (by decide) _) rfl rfl (Nat.le_of_ble_eq_true rfl) ?_
      refine xt_icmp_gt 43 dX0_heardFrom_37 (by decide) (fun t37 => ?_) (fun f37 => ?_)
      · refine xt_inc _ (1) dX0_heardFrom_43 rfl (by decide) (by decide) rfl ?_
        change x_T _ _ _ _ [_, _, _, _, _] _ _ _ _
        refine xt_goto 5 dX0_heardFrom_46 (by decide) ?_
        refine x_T.ls ?_ (ih5 (m + 1) (by omega))
        rw [ha, eI_gt (by omega) (by omega)] at t37
        have es : s_cnt (fun g => decide (s_farG F g (p / 10) (p % 10) < s_e F g)) (m + 1) = s_cnt (fun g => decide (s_farG F g (p / 10) (p % 10) < s_e F g)) m := by rw [s_cnt, if_neg (by simp; omega)]; rfl
        rw [es, nI_succ m]
      · refine xt_inc _ (1) dX0_heardFrom_40 rfl (by decide) (by decide) rfl ?_
        change x_T _ _ _ _ [_, _, _, _, _] _ _ _ _
        refine xt_inc _ (1) dX0_heardFrom_43 rfl (by decide) (by decide) rfl ?_
        change x_T _ _ _ _ [_, _, _, _, _] _ _ _ _
        refine xt_goto 5 dX0_heardFrom_46 (by decide) ?_
        refine x_T.ls ?_ (ih5 (m + 1) (by omega))
        rw [ha, eI_gt (by omega) (by omega)] at f37
        have es : s_cnt (fun g => decide (s_farG F g (p / 10) (p % 10) < s_e F g)) (m + 1) = s_cnt (fun g => decide (s_farG F g (p / 10) (p % 10) < s_e F g)) m + 1 := by rw [s_cnt, if_pos (by simp; omega)]
        rw [es, nI_succ m, nI_succ (s_cnt _ m)]
  exact L5 (F 4) 0  (by omega)
set_option maxHeartbeats 1000000 in
theorem tX0_quietPlaces (hS : f_S k) (hC : f_C μ k F) (hW : f_W F) (hk : k + 5 < 151) : x_K sc (d + 4) mX0_quietPlaces [.ref 150, .ref k] μ w (fun r μ' _ => r = some (.int (nI (s_cnt (fun p => decide (s_hf F p = 0)) 100))) ∧ ∀ a, a ≠ 151 → μ' a = μ a) := by
  have h8 : F 4 ≤ 8 := hW.1.2.2.2.2.1
  refine x_K.of (by decide) (Nat.le_of_ble_eq_true rfl) ?_
  show x_T sc (d + 4) mX0_quietPlaces 0 [.ref 150, .ref k, .retAddr 0, .retAddr 0] [] μ w _
  refine xt_aload_n _ dX0_quietPlaces_0 rfl ?_
  refine xt_aload_n _ dX0_quietPlaces_1 rfl ?_
  refine xt_callV _ dX0_quietPlaces_2 klX0_38 (tX0_listen sc _ w hS hC hW hk) sh150 rfl rfl (Nat.le_of_ble_eq_true rfl) (fun r1 μ1 w1 q1 => ?_)
  obtain ⟨rfl, he, hfr⟩ := q1
  change x_T _ _ _ _ _ [] _ _ _
  have hC1 : f_C μ1 k F := hC.cg (fun j hj => hfr _ (by omega))
  refine xt_iconst (0) dX0_quietPlaces_5 (by decide) ?_
  refine xt_istore_n dX0_quietPlaces_6 (by decide) rfl ?_
  change x_T _ _ _ _ [_, _, _, _] _ _ _ _
  refine xt_iconst (0) dX0_quietPlaces_7 (by decide) ?_
  refine xt_istore_n dX0_quietPlaces_8 (by decide) rfl ?_
  change x_T _ _ _ _ [_, _, _, _] _ _ _ _
  have L9 : ∀ (n9 m : Nat) , m + n9 = 100 → x_T sc (d + 4) mX0_quietPlaces 9 [.ref 150, .ref k, .int (nI (s_cnt (fun p => decide (s_hf F p = 0)) m)), .int (nI m)] [] μ1 w1 (fun r μ' _ => r = some (.int (nI (s_cnt (fun p => decide (s_hf F p = 0)) 100))) ∧ ∀ a, a ≠ 151 → μ' a = μ a) := by
    intro n9
    induction n9 with
    | zero =>
      intro m  hmn
      obtain rfl : 100 = m := by omega
      refine xt_iload_n _ dX0_quietPlaces_9 rfl ?_
      refine xt_bipush (100) dX0_quietPlaces_10 (by decide) ?_
      refine xt_icmp_ge 33 dX0_quietPlaces_12 (by decide) (fun _ => ?_) (fun q => absurd (by decide) q)
      refine xt_iload_n _ dX0_quietPlaces_33 rfl ?_
      exact xt_iret .int dX0_quietPlaces_34 rfl (by first | rfl | assumption) ⟨rfl, hfr⟩
    | succ n9 ih9 =>
      intro m  hmn
      have hlt : m < 100 := by omega
      have hfb : s_hf F m ≤ 8 := Nat.le_trans (s_cnt_le _ _) h8
      refine xt_iload_n _ dX0_quietPlaces_9 rfl ?_
      refine xt_bipush (100) dX0_quietPlaces_10 (by decide) ?_
      refine xt_icmp_ge 33 dX0_quietPlaces_12 (by decide) (fun q => absurd q (nI_ge (b := 100) hlt (by decide))) (fun _ => ?_)
      refine xt_aload_n _ dX0_quietPlaces_15 rfl ?_
      refine xt_aload_n _ dX0_quietPlaces_16 rfl ?_
      refine xt_iload_n _ dX0_quietPlaces_17 rfl ?_
      refine xt_cV _ dX0_quietPlaces_18 klX0_42 (tX0_heardFrom sc _ w1 hS hC1 hW he m hlt) sh150 rfl rfl (Nat.le_of_ble_eq_true rfl) ?_
      refine xt_if_ne 27 dX0_quietPlaces_21 (by decide) (fun t21 => ?_) (fun f21 => ?_)
      · refine xt_inc _ (1) dX0_quietPlaces_27 rfl (by decide) (by decide) rfl ?_
        change x_T _ _ _ _ [_, _, _, _] _ _ _ _
        refine xt_goto 9 dX0_quietPlaces_30 (by decide) ?_
        refine x_T.ls ?_ (ih9 (m + 1) (by omega))
        rw [nI_0e (by omega)] at t21
        have es : s_cnt (fun p => decide (s_hf F p = 0)) (m + 1) = s_cnt (fun p => decide (s_hf F p = 0)) m := by rw [s_cnt, if_neg (by simpa using t21)]; rfl
        rw [es, nI_succ m]
      · refine xt_inc _ (1) dX0_quietPlaces_24 rfl (by decide) (by decide) rfl ?_
        change x_T _ _ _ _ [_, _, _, _] _ _ _ _
        refine xt_inc _ (1) dX0_quietPlaces_27 rfl (by decide) (by decide) rfl ?_
        change x_T _ _ _ _ [_, _, _, _] _ _ _ _
        refine xt_goto 9 dX0_quietPlaces_30 (by decide) ?_
        refine x_T.ls ?_ (ih9 (m + 1) (by omega))
        rw [nI_0e (by omega)] at f21
        have es : s_cnt (fun p => decide (s_hf F p = 0)) (m + 1) = s_cnt (fun p => decide (s_hf F p = 0)) m + 1 := by rw [s_cnt, if_pos (by simpa using f21)]
        rw [es, nI_succ m, nI_succ (s_cnt _ m)]
  exact L9 (100) 0  (by omega)
set_option maxHeartbeats 1000000 in
theorem tX0_nearestQuiet (hS : f_S k) (hC : f_C μ k F) (hW : f_W F) (hk : k + 5 < 151) : x_K sc (d + 4) mX0_nearestQuiet [.ref 150, .ref k] μ w (fun r μ' _ => r = some (.int (eI (s_am (fun p => s_farS F (p / 10) (p % 10)) (fun p => decide (s_hf F p = 0)) 19 100).1)) ∧ ∀ a, a ≠ 151 → μ' a = μ a) := by
  have h8 : F 4 ≤ 8 := hW.1.2.2.2.2.1
  refine x_K.of (by decide) (Nat.le_of_ble_eq_true rfl) ?_
  show x_T sc (d + 4) mX0_nearestQuiet 0 [.ref 150, .ref k, .retAddr 0, .retAddr 0, .retAddr 0, .retAddr 0] [] μ w _
  refine xt_aload_n _ dX0_nearestQuiet_0 rfl ?_
  refine xt_aload_n _ dX0_nearestQuiet_1 rfl ?_
  refine xt_callV _ dX0_nearestQuiet_2 klX0_38 (tX0_listen sc _ w hS hC hW hk) sh150 rfl rfl (Nat.le_of_ble_eq_true rfl) (fun r1 μ1 w1 q1 => ?_)
  obtain ⟨rfl, he, hfr⟩ := q1
  change x_T _ _ _ _ _ [] _ _ _
  have hC1 : f_C μ1 k F := hC.cg (fun j hj => hfr _ (by omega))
  refine xt_iconst (-1) dX0_nearestQuiet_5 (by decide) ?_
  refine xt_istore_n dX0_nearestQuiet_6 (by decide) rfl ?_
  change x_T _ _ _ _ [_, _, _, _, _, _] _ _ _ _
  refine xt_bipush (19) dX0_nearestQuiet_7 (by decide) ?_
  refine xt_istore_n dX0_nearestQuiet_9 (by decide) rfl ?_
  change x_T _ _ _ _ [_, _, _, _, _, _] _ _ _ _
  refine xt_iconst (0) dX0_nearestQuiet_10 (by decide) ?_
  refine xt_istore dX0_nearestQuiet_11 (by decide) rfl ?_
  change x_T _ _ _ _ [_, _, _, _, _, _] _ _ _ _
  have L13 : ∀ (n13 m : Nat) (v5 : Value), m + n13 = 100 → x_T sc (d + 4) mX0_nearestQuiet 13 [.ref 150, .ref k, .int (eI (s_am (fun p => s_farS F (p / 10) (p % 10)) (fun p => decide (s_hf F p = 0)) 19 m).1), .int (nI (s_am (fun p => s_farS F (p / 10) (p % 10)) (fun p => decide (s_hf F p = 0)) 19 m).2), .int (nI m), v5] [] μ1 w1 (fun r μ' _ => r = some (.int (eI (s_am (fun p => s_farS F (p / 10) (p % 10)) (fun p => decide (s_hf F p = 0)) 19 100).1)) ∧ ∀ a, a ≠ 151 → μ' a = μ a) := by
    intro n13
    induction n13 with
    | zero =>
      intro m v5 hmn
      obtain rfl : 100 = m := by omega
      refine xt_iload _ dX0_nearestQuiet_13 rfl ?_
      refine xt_bipush (100) dX0_nearestQuiet_15 (by decide) ?_
      refine xt_icmp_ge 64 dX0_nearestQuiet_17 (by decide) (fun _ => ?_) (fun q => absurd (by decide) q)
      refine xt_iload_n _ dX0_nearestQuiet_64 rfl ?_
      exact xt_iret .int dX0_nearestQuiet_65 rfl (by first | rfl | assumption) ⟨rfl, hfr⟩
    | succ n13 ih13 =>
      intro m v5 hmn
      have hlt : m < 100 := by omega
      have hfb : s_hf F m ≤ 8 := Nat.le_trans (s_cnt_le _ _) h8
      have hs18 := s_farS_le hW (show m / 10 ≤ 9 by omega) (show m % 10 ≤ 9 by omega)
      have hal := s_am_le (v := (fun p => s_farS F (p / 10) (p % 10))) (ok := (fun p => decide (s_hf F p = 0))) (lim := 19) m
      have hdv : nI m / (10 : Int32) = nI (m / 10) := pk_div (by omega) (by decide) (by decide)
      have hrm : nI m - nI m / (10 : Int32) * 10 = nI (m % 10) := pk_rem (d := 10) (by omega) (by decide) (by decide)
      refine xt_iload _ dX0_nearestQuiet_13 rfl ?_
      refine xt_bipush (100) dX0_nearestQuiet_15 (by decide) ?_
      refine xt_icmp_ge 64 dX0_nearestQuiet_17 (by decide) (fun q => absurd q (nI_ge (b := 100) hlt (by decide))) (fun _ => ?_)
      refine xt_aload_n _ dX0_nearestQuiet_20 rfl ?_
      refine xt_iload _ dX0_nearestQuiet_21 rfl ?_
      refine xt_bipush (10) dX0_nearestQuiet_23 (by decide) ?_
      refine xt_idiv dX0_nearestQuiet_25 (by decide) ?_
      refine xt_iload _ dX0_nearestQuiet_26 rfl ?_
      refine xt_bipush (10) dX0_nearestQuiet_28 (by decide) ?_
      refine xt_irem dX0_nearestQuiet_30 (by decide) ?_
      rw [hrm, hdv]
      refine xt_cV _ dX0_nearestQuiet_31 klX0_46 (tX2_farFromStand sc _ w1 hS hC1 hW (m / 10) (m % 10) (by omega) (by omega)) hS.1 rfl rfl (Nat.le_of_ble_eq_true rfl) ?_
      refine xt_istore dX0_nearestQuiet_34 (by decide) rfl ?_
      change x_T _ _ _ _ [_, _, _, _, _, _] _ _ _ _
      refine xt_iload _ dX0_nearestQuiet_36 rfl ?_
      refine xt_iload_n _ dX0_nearestQuiet_38 rfl ?_
      refine xt_icmp_ge 58 dX0_nearestQuiet_39 (by decide) (fun t39 => ?_) (fun f39 => ?_)
      · refine xt_inc _ (1) dX0_nearestQuiet_58 rfl (by decide) (by decide) rfl ?_
        change x_T _ _ _ _ [_, _, _, _, _, _] _ _ _ _
        refine xt_goto 13 dX0_nearestQuiet_61 (by decide) ?_
        refine x_T.ls ?_ (ih13 (m + 1) (.int (nI (s_farS F (m / 10) (m % 10)))) (by omega))
        rw [nI_leI (by omega) (by omega)] at t39
        have es : s_am (fun p => s_farS F (p / 10) (p % 10)) (fun p => decide (s_hf F p = 0)) 19 (m + 1) = s_am (fun p => s_farS F (p / 10) (p % 10)) (fun p => decide (s_hf F p = 0)) 19 m := s_am_n2 (v := (fun p => s_farS F (p / 10) (p % 10))) (ok := (fun p => decide (s_hf F p = 0))) (by show (s_am (fun p => s_farS F (p / 10) (p % 10)) (fun p => decide (s_hf F p = 0)) 19 m).2 ≤ s_farS F (m / 10) (m % 10); omega)
        rw [es, nI_succ m]
      · refine xt_aload_n _ dX0_nearestQuiet_42 rfl ?_
        refine xt_aload_n _ dX0_nearestQuiet_43 rfl ?_
        refine xt_iload _ dX0_nearestQuiet_44 rfl ?_
        refine xt_cV _ dX0_nearestQuiet_46 klX0_42 (tX0_heardFrom sc _ w1 hS hC1 hW he m hlt) sh150 rfl rfl (Nat.le_of_ble_eq_true rfl) ?_
        refine xt_if_ne 58 dX0_nearestQuiet_49 (by decide) (fun t49 => ?_) (fun f49 => ?_)
        · refine xt_inc _ (1) dX0_nearestQuiet_58 rfl (by decide) (by decide) rfl ?_
          change x_T _ _ _ _ [_, _, _, _, _, _] _ _ _ _
          refine xt_goto 13 dX0_nearestQuiet_61 (by decide) ?_
          refine x_T.ls ?_ (ih13 (m + 1) (.int (nI (s_farS F (m / 10) (m % 10)))) (by omega))
          rw [nI_0e (by omega)] at t49
          have es : s_am (fun p => s_farS F (p / 10) (p % 10)) (fun p => decide (s_hf F p = 0)) 19 (m + 1) = s_am (fun p => s_farS F (p / 10) (p % 10)) (fun p => decide (s_hf F p = 0)) 19 m := s_am_n1 (v := (fun p => s_farS F (p / 10) (p % 10))) (ok := (fun p => decide (s_hf F p = 0))) (by simpa using t49)
          rw [es, nI_succ m]
        · refine xt_iload _ dX0_nearestQuiet_52 rfl ?_
          refine xt_istore_n dX0_nearestQuiet_54 (by decide) rfl ?_
          change x_T _ _ _ _ [_, _, _, _, _, _] _ _ _ _
          refine xt_iload _ dX0_nearestQuiet_55 rfl ?_
          refine xt_istore_n dX0_nearestQuiet_57 (by decide) rfl ?_
          change x_T _ _ _ _ [_, _, _, _, _, _] _ _ _ _
          refine xt_inc _ (1) dX0_nearestQuiet_58 rfl (by decide) (by decide) rfl ?_
          change x_T _ _ _ _ [_, _, _, _, _, _] _ _ _ _
          refine xt_goto 13 dX0_nearestQuiet_61 (by decide) ?_
          refine x_T.ls ?_ (ih13 (m + 1) (.int (nI (s_farS F (m / 10) (m % 10)))) (by omega))
          rw [nI_leI (by omega) (by omega)] at f39
          rw [nI_0e (by omega)] at f49
          have es : s_am (fun p => s_farS F (p / 10) (p % 10)) (fun p => decide (s_hf F p = 0)) 19 (m + 1) = (m + 1, s_farS F (m / 10) (m % 10)) := s_am_y (v := (fun p => s_farS F (p / 10) (p % 10))) (ok := (fun p => decide (s_hf F p = 0))) (by simpa using f49) (by show s_farS F (m / 10) (m % 10) < (s_am (fun p => s_farS F (p / 10) (p % 10)) (fun p => decide (s_hf F p = 0)) 19 m).2; omega)
          rw [es, nI_succ m, eI_s]
  exact L13 (100) 0 _ (by omega)
set_option maxHeartbeats 1000000 in
theorem tX0_refuge (hS : f_S k) (hC : f_C μ k F) (hW : f_W F) (g : Nat) (hg : g < F 4) : x_K sc (d + 3) mX0_refuge [.ref k, .int (nI g)] μ w (x_p (some (.int (eI (s_am (fun p => s_farG F g (p / 10) (p % 10)) (fun p => decide (s_e F g ≤ s_farS F (p / 10) (p % 10))) 19 100).1))) μ w) := by
  have h8 : F 4 ≤ 8 := hW.1.2.2.2.2.1
  have hear : s_e F g ≤ 19 := s_ear_le hW (fun _ => false) 0 g (F 3) (Nat.le_refl _)
  refine x_K.of (by decide) (Nat.le_of_ble_eq_true rfl) ?_
  show x_T sc (d + 3) mX0_refuge 0 [.ref k, .int (nI g), .retAddr 0, .retAddr 0, .retAddr 0, .retAddr 0, .retAddr 0, .retAddr 0] [] μ w _
  refine xt_aload_n _ dX0_refuge_0 rfl ?_
  refine xt_iload_n _ dX0_refuge_1 rfl ?_
  refine xt_iconst (0) dX0_refuge_2 (by decide) ?_
  refine xt_iconst (0) dX0_refuge_3 (by decide) ?_
  refine xt_cV _ dX0_refuge_4 klX0_21 (tX2_earshot sc _ w hS hC hW g 0 hg (by omega) 0 (fun _ => false) s_str0) hS.1 rfl rfl (Nat.le_of_ble_eq_true rfl) ?_
  refine xt_istore_n dX0_refuge_7 (by decide) rfl ?_
  change x_T _ _ _ _ [_, _, _, _, _, _, _, _] _ _ _ _
  refine xt_iconst (-1) dX0_refuge_8 (by decide) ?_
  refine xt_istore_n dX0_refuge_9 (by decide) rfl ?_
  change x_T _ _ _ _ [_, _, _, _, _, _, _, _] _ _ _ _
  refine xt_bipush (19) dX0_refuge_10 (by decide) ?_
  refine xt_istore dX0_refuge_12 (by decide) rfl ?_
  change x_T _ _ _ _ [_, _, _, _, _, _, _, _] _ _ _ _
  refine xt_iconst (0) dX0_refuge_14 (by decide) ?_
  refine xt_istore dX0_refuge_15 (by decide) rfl ?_
  change x_T _ _ _ _ [_, _, _, _, _, _, _, _] _ _ _ _
  have L17 : ∀ (n17 m : Nat) (v6 v7 : Value), m + n17 = 100 → x_T sc (d + 3) mX0_refuge 17 [.ref k, .int (nI g), .int (eI (s_e F g)), .int (eI (s_am (fun p => s_farG F g (p / 10) (p % 10)) (fun p => decide (s_e F g ≤ s_farS F (p / 10) (p % 10))) 19 m).1), .int (nI (s_am (fun p => s_farG F g (p / 10) (p % 10)) (fun p => decide (s_e F g ≤ s_farS F (p / 10) (p % 10))) 19 m).2), .int (nI m), v6, v7] [] μ w (x_p (some (.int (eI (s_am (fun p => s_farG F g (p / 10) (p % 10)) (fun p => decide (s_e F g ≤ s_farS F (p / 10) (p % 10))) 19 100).1))) μ w) := by
    intro n17
    induction n17 with
    | zero =>
      intro m v6 v7 hmn
      obtain rfl : 100 = m := by omega
      refine xt_iload _ dX0_refuge_17 rfl ?_
      refine xt_bipush (100) dX0_refuge_19 (by decide) ?_
      refine xt_icmp_ge 84 dX0_refuge_21 (by decide) (fun _ => ?_) (fun q => absurd (by decide) q)
      refine xt_iload_n _ dX0_refuge_84 rfl ?_
      exact xt_iret .int dX0_refuge_85 rfl (by first | rfl | assumption) ⟨rfl, rfl, rfl⟩
    | succ n17 ih17 =>
      intro m v6 v7 hmn
      have hlt : m < 100 := by omega
      have hs18 := s_farS_le hW (show m / 10 ≤ 9 by omega) (show m % 10 ≤ 9 by omega)
      have hg18 := s_farG_le hW hg (show m / 10 ≤ 9 by omega) (show m % 10 ≤ 9 by omega)
      have hal := s_am_le (v := (fun p => s_farG F g (p / 10) (p % 10))) (ok := (fun p => decide (s_e F g ≤ s_farS F (p / 10) (p % 10)))) (lim := 19) m
      have hdv : nI m / (10 : Int32) = nI (m / 10) := pk_div (by omega) (by decide) (by decide)
      have hrm : nI m - nI m / (10 : Int32) * 10 = nI (m % 10) := pk_rem (d := 10) (by omega) (by decide) (by decide)
      refine xt_iload _ dX0_refuge_17 rfl ?_
      refine xt_bipush (100) dX0_refuge_19 (by decide) ?_
      refine xt_icmp_ge 84 dX0_refuge_21 (by decide) (fun q => absurd q (nI_ge (b := 100) hlt (by decide))) (fun _ => ?_)
      refine xt_iload _ dX0_refuge_24 rfl ?_
      refine xt_bipush (10) dX0_refuge_26 (by decide) ?_
      refine xt_idiv dX0_refuge_28 (by decide) ?_
      refine xt_istore dX0_refuge_29 (by decide) rfl ?_
      change x_T _ _ _ _ [_, _, _, _, _, _, _, _] _ _ _ _
      refine xt_iload _ dX0_refuge_31 rfl ?_
      refine xt_bipush (10) dX0_refuge_33 (by decide) ?_
      refine xt_irem dX0_refuge_35 (by decide) ?_
      refine xt_istore dX0_refuge_36 (by decide) rfl ?_
      change x_T _ _ _ _ [_, _, _, _, _, _, _, _] _ _ _ _
      rw [hrm, hdv]
      refine xt_aload_n _ dX0_refuge_38 rfl ?_
      refine xt_iload _ dX0_refuge_39 rfl ?_
      refine xt_iload _ dX0_refuge_41 rfl ?_
      refine xt_cV _ dX0_refuge_43 klX0_46 (tX2_farFromStand sc _ w hS hC hW (m / 10) (m % 10) (by omega) (by omega)) hS.1 rfl rfl (Nat.le_of_ble_eq_true rfl) ?_
      refine xt_iload_n _ dX0_refuge_46 rfl ?_
      refine xt_icmp_le 78 dX0_refuge_47 (by decide) (fun t47 => ?_) (fun f47 => ?_)
      · refine xt_inc _ (1) dX0_refuge_78 rfl (by decide) (by decide) rfl ?_
        change x_T _ _ _ _ [_, _, _, _, _, _, _, _] _ _ _ _
        refine xt_goto 17 dX0_refuge_81 (by decide) ?_
        refine x_T.ls ?_ (ih17 (m + 1) (.int (nI (m / 10))) (.int (nI (m % 10))) (by omega))
        rw [eI_lt (by omega) (by omega)] at t47
        have es : s_am (fun p => s_farG F g (p / 10) (p % 10)) (fun p => decide (s_e F g ≤ s_farS F (p / 10) (p % 10))) 19 (m + 1) = s_am (fun p => s_farG F g (p / 10) (p % 10)) (fun p => decide (s_e F g ≤ s_farS F (p / 10) (p % 10))) 19 m := s_am_n1 (v := (fun p => s_farG F g (p / 10) (p % 10))) (ok := (fun p => decide (s_e F g ≤ s_farS F (p / 10) (p % 10)))) (by simp; omega)
        rw [es, nI_succ m]
      · refine xt_aload_n _ dX0_refuge_50 rfl ?_
        refine xt_iload_n _ dX0_refuge_51 rfl ?_
        refine xt_iload _ dX0_refuge_52 rfl ?_
        refine xt_iload _ dX0_refuge_54 rfl ?_
        refine xt_cV _ dX0_refuge_56 klX0_31 (tX2_farFromGoer sc _ w hS hC hW g (m / 10) (m % 10) hg (by omega) (by omega)) hS.1 rfl rfl (Nat.le_of_ble_eq_true rfl) ?_
        refine xt_iload _ dX0_refuge_59 rfl ?_
        refine xt_icmp_ge 78 dX0_refuge_61 (by decide) (fun t61 => ?_) (fun f61 => ?_)
        · refine xt_inc _ (1) dX0_refuge_78 rfl (by decide) (by decide) rfl ?_
          change x_T _ _ _ _ [_, _, _, _, _, _, _, _] _ _ _ _
          refine xt_goto 17 dX0_refuge_81 (by decide) ?_
          refine x_T.ls ?_ (ih17 (m + 1) (.int (nI (m / 10))) (.int (nI (m % 10))) (by omega))
          rw [nI_leI (by omega) (by omega)] at t61
          have es : s_am (fun p => s_farG F g (p / 10) (p % 10)) (fun p => decide (s_e F g ≤ s_farS F (p / 10) (p % 10))) 19 (m + 1) = s_am (fun p => s_farG F g (p / 10) (p % 10)) (fun p => decide (s_e F g ≤ s_farS F (p / 10) (p % 10))) 19 m := s_am_n2 (v := (fun p => s_farG F g (p / 10) (p % 10))) (ok := (fun p => decide (s_e F g ≤ s_farS F (p / 10) (p % 10)))) (by show (s_am (fun p => s_farG F g (p / 10) (p % 10)) (fun p => decide (s_e F g ≤ s_farS F (p / 10) (p % 10))) 19 m).2 ≤ s_farG F g (m / 10) (m % 10); omega)
          rw [es, nI_succ m]
        · refine xt_aload_n _ dX0_refuge_64 rfl ?_
          refine xt_iload_n _ dX0_refuge_65 rfl ?_
          refine xt_iload _ dX0_refuge_66 rfl ?_
          refine xt_iload _ dX0_refuge_68 rfl ?_
          refine xt_cV _ dX0_refuge_70 klX0_31 (tX2_farFromGoer sc _ w hS hC hW g (m / 10) (m % 10) hg (by omega) (by omega)) hS.1 rfl rfl (Nat.le_of_ble_eq_true rfl) ?_
          refine xt_istore dX0_refuge_73 (by decide) rfl ?_
          change x_T _ _ _ _ [_, _, _, _, _, _, _, _] _ _ _ _
          refine xt_iload _ dX0_refuge_75 rfl ?_
          refine xt_istore_n dX0_refuge_77 (by decide) rfl ?_
          change x_T _ _ _ _ [_, _, _, _, _, _, _, _] _ _ _ _
          refine xt_inc _ (1) dX0_refuge_78 rfl (by decide) (by decide) rfl ?_
          change x_T _ _ _ _ [_, _, _, _, _, _, _, _] _ _ _ _
          refine xt_goto 17 dX0_refuge_81 (by decide) ?_
          refine x_T.ls ?_ (ih17 (m + 1) (.int (nI (m / 10))) (.int (nI (m % 10))) (by omega))
          rw [nI_leI (by omega) (by omega)] at f61
          rw [eI_lt (by omega) (by omega)] at f47
          have es : s_am (fun p => s_farG F g (p / 10) (p % 10)) (fun p => decide (s_e F g ≤ s_farS F (p / 10) (p % 10))) 19 (m + 1) = (m + 1, s_farG F g (m / 10) (m % 10)) := s_am_y (v := (fun p => s_farG F g (p / 10) (p % 10))) (ok := (fun p => decide (s_e F g ≤ s_farS F (p / 10) (p % 10)))) (by simp; omega) (by show s_farG F g (m / 10) (m % 10) < (s_am (fun p => s_farG F g (p / 10) (p % 10)) (fun p => decide (s_e F g ≤ s_farS F (p / 10) (p % 10))) 19 m).2; omega)
          rw [es, nI_succ m, eI_s]
  exact L17 (100) 0 _ _ (by omega)
end PLACES
/-- a FAIR with its STAND moved; with a GOER moved -/
def s_mv (F : Nat → Nat) (p : Nat) : Nat → Nat := fun i => if i = 0 then p / 10 else if i = 1 then p % 10 else F i
theorem s_mv_2 (F : Nat → Nat) (p : Nat) {i : Nat} (h : 2 ≤ i) : s_mv F p i = F i := by rw [s_mv, if_neg (by omega), if_neg (by omega)]
theorem s_mv_W {F : Nat → Nat} (hW : f_W F) {p : Nat} (hp : p < 100) : f_W (s_mv F p) := by
  obtain ⟨⟨h0, h1, h2, h3, h4, h5, h6⟩, a, b, c, e, g⟩ := hW
  have k : ∀ {i : Nat}, 2 ≤ i → s_mv F p i = F i := fun h => s_mv_2 F p h
  refine ⟨⟨?_, ?_, by rw [k (by decide)]; exact h2, by rw [k (by decide)]; exact h3, by rw [k (by decide)]; exact h4, by rw [k (by decide)]; exact h5, by rw [k (by decide)]; exact h6⟩, ?_, ?_, ?_, ?_, ?_⟩
  · show p / 10 ≤ 9; omega
  · show p % 10 ≤ 9; omega
  · intro m hm; rw [k (by decide)] at hm; rw [k (by omega), k (by omega), k (by omega)]; exact a m hm
  · intro m hm; rw [k (by decide)] at hm; rw [k (by omega), k (by omega)]; exact b m hm
  · intro m hm; rw [k (by omega)]; exact c m hm
  · intro m hm; rw [k (by decide)] at hm; rw [k (by omega), k (by omega)]; exact e m hm
  · intro m hm; rw [k (by decide)] at hm; rw [k (by omega), k (by omega), k (by omega), k (by omega)]; exact g m hm
theorem s_ear_cg {F G : Nat → Nat} (h : ∀ i, (7 ≤ i ∧ i < 25) ∨ (41 ≤ i) → G i = F i) (st : Nat → Bool) (more g : Nat) : ∀ m, m ≤ 6 → s_ear G st more g m = s_ear F st more g m
  | 0, _ => rfl
  | m + 1, hm => by rw [s_ear, s_ear, s_ear_cg h st more g m (by omega), h (19 + m) (by omega), h (7 + m) (by omega), h (13 + m) (by omega), h (41 + _) (by omega)]
theorem s_ab (a b : Nat) : (if a < b then b - a else a - b) = (if b < a then a - b else b - a) := by split <;> split <;> omega
theorem s_mv_farO (F : Nat → Nat) (p g : Nat) : s_farO (s_mv F p) g = s_farG F g (p / 10) (p % 10) := by
  unfold s_farO s_farS s_farG
  rw [s_mv_2 F p (show 2 ≤ 25 + g by omega), s_mv_2 F p (show 2 ≤ 33 + g by omega)]
  show (if p / 10 < F (25 + g) then F (25 + g) - p / 10 else p / 10 - F (25 + g)) + (if p % 10 < F (33 + g) then F (33 + g) - p % 10 else p % 10 - F (33 + g)) = _
  rw [s_ab (p / 10), s_ab (p % 10)]
theorem s_mv_off {F : Nat → Nat} (hW : f_W F) (p g : Nat) : s_off (s_mv F p) (fun _ => false) 0 g = decide (s_farG F g (p / 10) (p % 10) < s_e F g) := by
  unfold s_off
  rw [s_mv_farO, s_mv_2 F p (show 2 ≤ 3 by decide), s_ear_cg (F := F) (fun i hi => s_mv_2 F p (by omega)) _ _ _ _ hW.1.2.2.2.1]
theorem s_mv_offs {F : Nat → Nat} (hW : f_W F) (p : Nat) : s_offs (s_mv F p) (fun _ => false) = s_bits (fun g => decide (s_farG F g (p / 10) (p % 10) < s_e F g)) (F 4) := by
  unfold s_offs
  rw [s_mv_2 F p (show 2 ≤ 4 by decide)]
  exact s_bits_cong (fun g _ => s_mv_off hW p g)
theorem s_bits_cnt0 (p : Nat → Bool) (n : Nat) : s_bits p n = 0 ↔ s_cnt p n = 0 := by rw [s_bits_z, s_cnt_z]
theorem m_S.stand {μ : x_Me} {f : Nat} {G F : Nat → Nat} (hS : m_S μ f G) (h : ∀ i, 2 ≤ i → G i = F i) (p : Nat) : m_S (x_u (x_u μ 152 (upd (μ 152) 26 (nI (p / 10)))) 152 (upd (x_u μ 152 (upd (μ 152) 26 (nI (p / 10))) 152) 27 (nI (p % 10)))) f (s_mv F p) := by
  obtain ⟨⟨a1, a2, a3, a4, a5, a6, a7, a8⟩, b, c, e⟩ := hS
  have k : ∀ {i : Nat}, 2 ≤ i → s_mv F p i = G i := fun z => by rw [s_mv_2 F p z, h _ z]
  refine ⟨⟨a1, a2, by rw [k (by decide)]; exact a3, by rw [k (by decide)]; exact a4, by rw [k (by decide)]; exact a5, rfl, rfl, by rw [k (by decide)]; exact a8⟩, ?_, ?_, ?_⟩
  · intro g hg; rw [k (by omega), k (by omega)]; exact b g hg
  · intro i hi; rw [k (by omega)]; exact c i hi
  · intro i hi h2; rw [k (by omega)]; exact e i hi h2
/-- the STAND moved about: all else as it was -/
def m_mv (μ1 μ2 : x_Me) (f : Nat) (F : Nat → Nat) : Prop := (∃ G, m_S μ2 f G ∧ ∀ i, 2 ≤ i → G i = F i) ∧ (μ2 152 34 = 0 ∧ μ2 152 35 = 0 ∧ μ2 152 36 = 0) ∧ ∀ a, a ≠ 152 → μ2 a = μ1 a
set_option maxHeartbeats 2000000 in
theorem st_quiet (sc : Nat × (Nat → Int32)) (a1 u : Int32) : x_stI sc (fun μ _ => x_Inv μ) (fun μ _ => x_Inv μ) mX11_quiet mX12_quiet [.int a1, .int u] := by
  refine x_stF (-2) ?_ ?_ ?_
  · intro μ w c hc e hk
    refine x_K.of (by decide) (Nat.le_of_ble_eq_true rfl) ?_
    show x_T sc 29 mX11_quiet 0 [.ref 0, .int a1, .int u, .retAddr 0] [] μ w _
    refine xt_aload_n _ dX11_quiet_0 rfl ?_
    refine xt_iload_n _ dX11_quiet_1 rfl ?_
    refine xt_cV _ dX11_quiet_2 klX11_90 (tX11_fairOf_no sc _ μ w c hc e _ hk) sh0 rfl rfl (Nat.le_of_ble_eq_true rfl) ?_
    refine xt_astore_n0 dX11_quiet_5 (by decide) rfl ?_
    change x_T _ _ _ _ [_, _, _, _] _ _ _ _
    refine xt_aload_n0 dX11_quiet_6 rfl ?_
    refine xt_ifnonnull_n dX11_quiet_7 ?_
    refine xt_bipush (-2) dX11_quiet_10 (by decide) ?_
    exact xt_iret .int dX11_quiet_12 rfl (by first | rfl | assumption) ⟨rfl, x_keep.rf μ⟩
  · intro μ w c hc e hk
    refine x_K.of (by decide) (Nat.le_of_ble_eq_true rfl) ?_
    show x_T sc 29 mX12_quiet 0 [.ref 152, .int a1, .int u, .retAddr 0, .retAddr 0, .retAddr 0, .retAddr 0, .retAddr 0] [] μ w _
    refine xt_aload_n _ dX12_quiet_0 rfl ?_
    refine xt_iconst (0) dX12_quiet_1 (by decide) ?_
    refine xt_puti dX12_quiet_2 kpX12_72 (by first | exact sh152 | rfl | assumption) rfl (by first | rfl | assumption) (by first | rfl | assumption) ?_
    refine xt_aload_n _ dX12_quiet_5 rfl ?_
    refine xt_iload_n _ dX12_quiet_6 rfl ?_
    refine xt_cV _ dX12_quiet_7 klX12_300 (tX12_hand_no sc _ (x_u μ 152 (upd (μ 152) 0 0)) w c hc e _ hk) sh152 rfl rfl (Nat.le_of_ble_eq_true rfl) ?_
    refine xt_if_ne 16 dX12_quiet_10 (by decide) (fun q => absurd (by decide) q) (fun _ => ?_)
    refine xt_bipush (-2) dX12_quiet_13 (by decide) ?_
    exact xt_iret .int dX12_quiet_15 rfl (by first | rfl | assumption) ⟨rfl, (x_keep.u (x_keep.rf μ) (by unfold x_ok; omega))⟩
  · intro f F hf2 hkk hW
    subst hkk
    have h8 : F 4 ≤ 8 := hW.1.2.2.2.2.1
    have hlim := s_am_lim (v := (fun p => s_farS F (p / 10) (p % 10))) (ok := (fun p => decide (s_hf F p = 0))) (a := 19) (b := 1000000) 100 (fun i hi => by have := s_farS_le hW (show i / 10 ≤ 9 by omega) (show i % 10 ≤ 9 by omega); omega)
    refine ⟨if u = 0 then nI (s_cnt (fun p => decide (s_hf F p = 0)) 100) else eI (s_am (fun p => s_farS F (p / 10) (p % 10)) (fun p => decide (s_hf F p = 0)) 19 100).1, ?_, ?_⟩
    · intro μ w c hf hc e hC
      have hS := f_Sf hf2
      refine x_K.of (by decide) (Nat.le_of_ble_eq_true rfl) ?_
      show x_T sc 29 mX11_quiet 0 [.ref 0, .int (nI f), .int u, .retAddr 0] [] μ w _
      refine xt_aload_n _ dX11_quiet_0 rfl ?_
      refine xt_iload_n _ dX11_quiet_1 rfl ?_
      refine xt_cV _ dX11_quiet_2 klX11_90 (tX11_fairOf sc _ μ w f c hf hc e) sh0 rfl rfl (Nat.le_of_ble_eq_true rfl) ?_
      refine xt_astore_n dX11_quiet_5 (by decide) rfl ?_
      change x_T _ _ _ _ [_, _, _, _] _ _ _ _
      refine xt_aload_n _ dX11_quiet_6 rfl ?_
      refine xt_ifnonnull_r 13 dX11_quiet_7 (by decide) ?_
      refine xt_iload_n _ dX11_quiet_13 rfl ?_
      refine xt_if_eq 28 dX11_quiet_14 (by decide) (fun t14 => ?_) (fun f14 => ?_)
      · refine xt_aload_n _ dX11_quiet_28 rfl ?_
        refine xt_getr _ dX11_quiet_29 kfX11_55 (by first | exact sh0 | exact sh1 | rfl | assumption) rfl ?_
        refine xt_aload_n _ dX11_quiet_32 rfl ?_
        refine xt_callV _ dX11_quiet_33 klX11_128 (tX0_quietPlaces sc _ w hS hC hW (by omega)) sh150 rfl rfl (Nat.le_of_ble_eq_true rfl) (fun r1 μ1 w1 q1 => ?_)
        obtain ⟨rfl, hfr⟩ := q1
        change x_T _ _ _ _ _ [.int _] _ _ _
        exact xt_iret .int dX11_quiet_36 rfl (by first | rfl | assumption) ⟨by rw [if_pos t14], fun a ha => hfr a (by unfold x_ok at ha; omega)⟩
      · refine xt_aload_n _ dX11_quiet_17 rfl ?_
        refine xt_getr _ dX11_quiet_18 kfX11_55 (by first | exact sh0 | exact sh1 | rfl | assumption) rfl ?_
        refine xt_aload_n _ dX11_quiet_21 rfl ?_
        refine xt_callV _ dX11_quiet_22 klX11_124 (tX0_nearestQuiet sc _ w hS hC hW (by omega)) sh150 rfl rfl (Nat.le_of_ble_eq_true rfl) (fun r1 μ1 w1 q1 => ?_)
        obtain ⟨rfl, hfr⟩ := q1
        change x_T _ _ _ _ _ [.int _] _ _ _
        refine xt_goto 36 dX11_quiet_25 (by decide) ?_
        exact xt_iret .int dX11_quiet_36 rfl (by first | rfl | assumption) ⟨by rw [if_neg f14], fun a ha => hfr a (by unfold x_ok at ha; omega)⟩
    · intro μ w c hf hc e hF
      refine x_K.of (by decide) (Nat.le_of_ble_eq_true rfl) ?_
      show x_T sc 29 mX12_quiet 0 [.ref 152, .int (nI f), .int u, .retAddr 0, .retAddr 0, .retAddr 0, .retAddr 0, .retAddr 0] [] μ w _
      refine xt_aload_n _ dX12_quiet_0 rfl ?_
      refine xt_iconst (0) dX12_quiet_1 (by decide) ?_
      refine xt_puti dX12_quiet_2 kpX12_72 (by first | exact sh152 | rfl | assumption) rfl (by first | rfl | assumption) (by first | rfl | assumption) ?_
      refine xt_aload_n _ dX12_quiet_5 rfl ?_
      refine xt_iload_n _ dX12_quiet_6 rfl ?_
      refine xt_callV _ dX12_quiet_7 klX12_300 (tX12_hand sc _ (x_u μ 152 (upd (μ 152) 0 0)) w f c F hf hc e hF) sh152 rfl rfl (Nat.le_of_ble_eq_true rfl) (fun r1 μ1 w1 q1 => ?_)
      obtain ⟨rfl, rfl, hS, h0, hfr⟩ := q1
      change x_T _ _ _ _ _ (.int 1 :: _) _ _ _
      have h158 : μ1 158 = μ 158 := hfr 158 (by decide) (by decide) (by decide) (by decide)
      refine xt_if_ne 16 dX12_quiet_10 (by decide) (fun _ => ?_) (fun q => absurd q (by decide))
      refine xt_iconst (0) dX12_quiet_16 (by decide) ?_
      refine xt_istore_n dX12_quiet_17 (by decide) rfl ?_
      change x_T _ _ _ _ [_, _, _, _, _, _, _, _] _ _ _ _
      refine xt_iconst (-1) dX12_quiet_18 (by decide) ?_
      refine xt_istore dX12_quiet_19 (by decide) rfl ?_
      change x_T _ _ _ _ [_, _, _, _, _, _, _, _] _ _ _ _
      refine xt_ldcw _ dX12_quiet_21 kkX12_353 ?_
      refine xt_istore dX12_quiet_24 (by decide) rfl ?_
      change x_T _ _ _ _ [_, _, _, _, _, _, _, _] _ _ _ _
      refine xt_iconst (0) dX12_quiet_26 (by decide) ?_
      refine xt_istore dX12_quiet_27 (by decide) rfl ?_
      change x_T _ _ _ _ [_, _, _, _, _, _, _, _] _ _ _ _
      have L29 : ∀ (n29 m : Nat) (μ2 : x_Me) (v7 : Value) (hJ : m_mv μ1 μ2 f F), m + n29 = 100 → x_T sc 29 mX12_quiet 29 [.ref 152, .int (nI f), .int u, .int (nI (s_cnt (fun p => decide (s_hf F p = 0)) m)), .int (eI (s_am (fun p => s_farS F (p / 10) (p % 10)) (fun p => decide (s_hf F p = 0)) 1000000 m).1), .int (nI (s_am (fun p => s_farS F (p / 10) (p % 10)) (fun p => decide (s_hf F p = 0)) 1000000 m).2), .int (nI m), v7] [] μ2 w1 (fun r μ' _ => r = some (.int (if u = 0 then nI (s_cnt (fun p => decide (s_hf F p = 0)) 100) else eI (s_am (fun p => s_farS F (p / 10) (p % 10)) (fun p => decide (s_hf F p = 0)) 19 100).1)) ∧ x_keep μ μ') := by
        intro n29
        induction n29 with
        | zero =>
          intro m μ2 v7 hJ hmn
          obtain rfl : 100 = m := by omega
          obtain ⟨_, _, hfr2⟩ := hJ
          refine xt_iload _ dX12_quiet_29 rfl ?_
          refine xt_bipush (100) dX12_quiet_31 (by decide) ?_
          refine xt_icmp_ge 118 dX12_quiet_33 (by decide) (fun _ => ?_) (fun q => absurd (by decide) q)
          refine xt_iload_n _ dX12_quiet_118 rfl ?_
          refine xt_if_eq 127 dX12_quiet_119 (by decide) (fun t119 => ?_) (fun f119 => ?_)
          · refine xt_iload_n _ dX12_quiet_127 rfl ?_
            exact xt_iret .int dX12_quiet_128 rfl (by first | rfl | assumption) ⟨by rw [if_pos t119], (x_keep.tr (x_keep.hand hfr) (fun a ha => hfr2 a (by unfold x_ok at ha; omega)))⟩
          · refine xt_iload _ dX12_quiet_122 rfl ?_
            refine xt_goto 128 dX12_quiet_124 (by decide) ?_
            exact xt_iret .int dX12_quiet_128 rfl (by first | rfl | assumption) ⟨by rw [if_neg f119, hlim.1], (x_keep.tr (x_keep.hand hfr) (fun a ha => hfr2 a (by unfold x_ok at ha; omega)))⟩
        | succ n29 ih29 =>
          intro m μ2 v7 hJ hmn
          have hlt : m < 100 := by omega
          obtain ⟨⟨G, hSG, hGF⟩, h34, hfr2⟩ := hJ
          have hs18 := s_farS_le hW (show m / 10 ≤ 9 by omega) (show m % 10 ≤ 9 by omega)
          have hal := s_am_le (v := (fun p => s_farS F (p / 10) (p % 10))) (ok := (fun p => decide (s_hf F p = 0))) (lim := 1000000) m
          have hsb := s_bits_lt (fun g => decide (s_farG F g (m / 10) (m % 10) < s_e F g)) (F 4)
          have h256 : 2 ^ F 4 ≤ 256 := Nat.pow_le_pow_right (i := F 4) (j := 8) (by decide) h8
          have hdv : nI m / (10 : Int32) = nI (m / 10) := pk_div (by omega) (by decide) (by decide)
          have hrm : nI m - nI m / (10 : Int32) * 10 = nI (m % 10) := pk_rem (d := 10) (by omega) (by decide) (by decide)
          refine xt_iload _ dX12_quiet_29 rfl ?_
          refine xt_bipush (100) dX12_quiet_31 (by decide) ?_
          refine xt_icmp_ge 118 dX12_quiet_33 (by decide) (fun q => absurd q (nI_ge (b := 100) hlt (by decide))) (fun _ => ?_)
          refine xt_aload_n _ dX12_quiet_36 rfl ?_
          refine xt_iload _ dX12_quiet_37 rfl ?_
          refine xt_bipush (10) dX12_quiet_39 (by decide) ?_
          refine xt_idiv dX12_quiet_41 (by decide) ?_
          rw [hdv]
          refine xt_puti dX12_quiet_42 kpX12_257 (by first | exact sh152 | rfl | assumption) rfl (by first | rfl | assumption) (by first | rfl | assumption) ?_
          refine xt_aload_n _ dX12_quiet_45 rfl ?_
          refine xt_iload _ dX12_quiet_46 rfl ?_
          refine xt_bipush (10) dX12_quiet_48 (by decide) ?_
          refine xt_irem dX12_quiet_50 (by decide) ?_
          rw [hrm]
          refine xt_puti dX12_quiet_51 kpX12_260 (by first | exact sh152 | rfl | assumption) rfl (by first | rfl | assumption) (by first | rfl | assumption) ?_
          refine xt_aload_n _ dX12_quiet_54 rfl ?_
          refine xt_geti dX12_quiet_55 kfX12_257 (by first | exact sh152 | rfl | assumption) rfl ?_
          refine xt_aload_n _ dX12_quiet_58 rfl ?_
          refine xt_geti dX12_quiet_59 kfX12_260 (by first | exact sh152 | rfl | assumption) rfl ?_
          refine xt_aload_n _ dX12_quiet_62 rfl ?_
          refine xt_iconst (0) dX12_quiet_63 (by decide) ?_
          refine xt_cV _ dX12_quiet_64 klX12_244 (tX12_of sc _ (x_u (x_u μ2 152 (upd (μ2 152) 26 (nI (m / 10)))) 152 (upd (x_u μ2 152 (upd (μ2 152) 26 (nI (m / 10))) 152) 27 (nI (m % 10)))) _ f 0 (by omega) (by decide) hSG.1.2.1) sh152 rfl rfl (Nat.le_of_ble_eq_true rfl) ?_
          rw [show (x_u (x_u μ2 152 (upd (μ2 152) 26 (nI (m / 10)))) 152 (upd (x_u μ2 152 (upd (μ2 152) 26 (nI (m / 10))) 152) 27 (nI (m % 10)))) 158 (125 * f + 0) = nI (F 0) by rw [x_u_ne (by decide), x_u_ne (by decide), hfr2 158 (by decide), h158]; exact hF 0 (by decide)]
          refine xt_aload_n _ dX12_quiet_67 rfl ?_
          refine xt_iconst (1) dX12_quiet_68 (by decide) ?_
          refine xt_cV _ dX12_quiet_69 klX12_244 (tX12_of sc _ (x_u (x_u μ2 152 (upd (μ2 152) 26 (nI (m / 10)))) 152 (upd (x_u μ2 152 (upd (μ2 152) 26 (nI (m / 10))) 152) 27 (nI (m % 10)))) _ f 1 (by omega) (by decide) hSG.1.2.1) sh152 rfl rfl (Nat.le_of_ble_eq_true rfl) ?_
          rw [show (x_u (x_u μ2 152 (upd (μ2 152) 26 (nI (m / 10)))) 152 (upd (x_u μ2 152 (upd (μ2 152) 26 (nI (m / 10))) 152) 27 (nI (m % 10)))) 158 (125 * f + 1) = nI (F 1) by rw [x_u_ne (by decide), x_u_ne (by decide), hfr2 158 (by decide), h158]; exact hF 1 (by decide)]
          refine xt_cS _ dX12_quiet_72 klX12_290 (tX12_way sc _ (x_u (x_u μ2 152 (upd (μ2 152) 26 (nI (m / 10)))) 152 (upd (x_u μ2 152 (upd (μ2 152) 26 (nI (m / 10))) 152) 27 (nI (m % 10)))) _ _ _ _ _) rfl rfl (Nat.le_of_ble_eq_true rfl) ?_
          rw [show (x_u (x_u μ2 152 (upd (μ2 152) 26 (nI (m / 10)))) 152 (upd (x_u μ2 152 (upd (μ2 152) 26 (nI (m / 10))) 152) 27 (nI (m % 10)))) 152 26 = nI (m / 10) from rfl, show (x_u (x_u μ2 152 (upd (μ2 152) 26 (nI (m / 10)))) 152 (upd (x_u μ2 152 (upd (μ2 152) 26 (nI (m / 10))) 152) 27 (nI (m % 10)))) 152 27 = nI (m % 10) from rfl, s_way_nI (by omega) (by omega) (by have := hW.1.1; omega) (by have := hW.1.2.1; omega)]
          change x_T _ _ _ _ _ (.int (nI (s_farS F (m / 10) (m % 10))) :: _) _ _ _
          refine xt_istore dX12_quiet_75 (by decide) rfl ?_
          change x_T _ _ _ _ [_, _, _, _, _, _, _, _] _ _ _ _
          refine xt_aload_n _ dX12_quiet_77 rfl ?_
          refine xt_cV _ dX12_quiet_78 klX12_322 (tX12_offenders sc _ (x_u (x_u μ2 152 (upd (μ2 152) 26 (nI (m / 10)))) 152 (upd (x_u μ2 152 (upd (μ2 152) 26 (nI (m / 10))) 152) 27 (nI (m % 10)))) _ f (s_mv F m) (hSG.stand hGF m) (s_mv_W hW hlt) 0 (fun _ => false) s_strM0 0 0 (by decide) (by decide) h34.1 h34.2.1 h34.2.2) sh152 rfl rfl (Nat.le_of_ble_eq_true rfl) ?_
          rw [s_any_offs, s_mv_offs hW]
          refine xt_if_ne 112 dX12_quiet_81 (by decide) (fun t81 => ?_) (fun f81 => ?_)
          · refine xt_inc _ (1) dX12_quiet_112 rfl (by decide) (by decide) rfl ?_
            change x_T _ _ _ _ [_, _, _, _, _, _, _, _] _ _ _ _
            refine xt_goto 29 dX12_quiet_115 (by decide) ?_
            refine x_T.ls ?_ (ih29 (m + 1) (x_u (x_u μ2 152 (upd (μ2 152) 26 (nI (m / 10)))) 152 (upd (x_u μ2 152 (upd (μ2 152) 26 (nI (m / 10))) 152) 27 (nI (m % 10)))) (.int (nI (s_farS F (m / 10) (m % 10)))) ⟨⟨_, hSG.stand hGF m, fun i hi => s_mv_2 F m hi⟩, h34, fun a ha => by rw [x_u_ne ha, x_u_ne ha]; exact hfr2 a ha⟩ (by omega))
            have hz : ¬ s_hf F m = 0 := fun z => t81 (by rw [(s_bits_cnt0 _ _).mpr z]; rfl)
            have ec : s_cnt (fun p => decide (s_hf F p = 0)) (m + 1) = s_cnt (fun p => decide (s_hf F p = 0)) m := by rw [s_cnt, if_neg (by simpa using hz)]; rfl
            have es : s_am (fun p => s_farS F (p / 10) (p % 10)) (fun p => decide (s_hf F p = 0)) 1000000 (m + 1) = s_am (fun p => s_farS F (p / 10) (p % 10)) (fun p => decide (s_hf F p = 0)) 1000000 m := s_am_n1 (v := (fun p => s_farS F (p / 10) (p % 10))) (ok := (fun p => decide (s_hf F p = 0))) (by simpa using hz)
            rw [es, ec, nI_succ m]
          · refine xt_inc _ (1) dX12_quiet_84 rfl (by decide) (by decide) rfl ?_
            change x_T _ _ _ _ [_, _, _, _, _, _, _, _] _ _ _ _
            refine xt_iload _ dX12_quiet_87 rfl ?_
            refine xt_iload _ dX12_quiet_89 rfl ?_
            refine xt_icmp_ge 99 dX12_quiet_91 (by decide) (fun t91 => ?_) (fun f91 => ?_)
            · refine xt_iload _ dX12_quiet_99 rfl ?_
              refine xt_istore dX12_quiet_101 (by decide) rfl ?_
              change x_T _ _ _ _ [_, _, _, _, _, _, _, _] _ _ _ _
              refine xt_iload _ dX12_quiet_103 rfl ?_
              refine xt_iload _ dX12_quiet_105 rfl ?_
              refine xt_cS _ dX12_quiet_107 klX12_209 (tX12_lesser sc _ (x_u (x_u μ2 152 (upd (μ2 152) 26 (nI (m / 10)))) 152 (upd (x_u μ2 152 (upd (μ2 152) 26 (nI (m / 10))) 152) 27 (nI (m % 10)))) _ _ _) rfl rfl (Nat.le_of_ble_eq_true rfl) ?_
              refine xt_istore dX12_quiet_110 (by decide) rfl ?_
              change x_T _ _ _ _ [_, _, _, _, _, _, _, _] _ _ _ _
              refine xt_inc _ (1) dX12_quiet_112 rfl (by decide) (by decide) rfl ?_
              change x_T _ _ _ _ [_, _, _, _, _, _, _, _] _ _ _ _
              refine xt_goto 29 dX12_quiet_115 (by decide) ?_
              refine x_T.ls ?_ (ih29 (m + 1) (x_u (x_u μ2 152 (upd (μ2 152) 26 (nI (m / 10)))) 152 (upd (x_u μ2 152 (upd (μ2 152) 26 (nI (m / 10))) 152) 27 (nI (m % 10)))) (.int (nI (s_farS F (m / 10) (m % 10)))) ⟨⟨_, hSG.stand hGF m, fun i hi => s_mv_2 F m hi⟩, h34, fun a ha => by rw [x_u_ne ha, x_u_ne ha]; exact hfr2 a ha⟩ (by omega))
              have hz : s_hf F m = 0 := (s_bits_cnt0 _ _).mp ((nI_0e (by omega)).mp f81)
              have ec : s_cnt (fun p => decide (s_hf F p = 0)) (m + 1) = s_cnt (fun p => decide (s_hf F p = 0)) m + 1 := by rw [s_cnt, if_pos (by simpa using hz)]
              rw [s_le_nI (by omega) (by omega)]
              rw [nI_leI (by omega) (by omega)] at t91
              have es : s_am (fun p => s_farS F (p / 10) (p % 10)) (fun p => decide (s_hf F p = 0)) 1000000 (m + 1) = s_am (fun p => s_farS F (p / 10) (p % 10)) (fun p => decide (s_hf F p = 0)) 1000000 m := s_am_n2 (v := (fun p => s_farS F (p / 10) (p % 10))) (ok := (fun p => decide (s_hf F p = 0))) (by show (s_am (fun p => s_farS F (p / 10) (p % 10)) (fun p => decide (s_hf F p = 0)) 1000000 m).2 ≤ s_farS F (m / 10) (m % 10); omega)
              rw [es, ec, nI_succ m, nI_succ (s_cnt _ m), Nat.min_eq_left (by omega)]
            · refine xt_iload _ dX12_quiet_94 rfl ?_
              refine xt_goto 101 dX12_quiet_96 (by decide) ?_
              refine xt_istore dX12_quiet_101 (by decide) rfl ?_
              change x_T _ _ _ _ [_, _, _, _, _, _, _, _] _ _ _ _
              refine xt_iload _ dX12_quiet_103 rfl ?_
              refine xt_iload _ dX12_quiet_105 rfl ?_
              refine xt_cS _ dX12_quiet_107 klX12_209 (tX12_lesser sc _ (x_u (x_u μ2 152 (upd (μ2 152) 26 (nI (m / 10)))) 152 (upd (x_u μ2 152 (upd (μ2 152) 26 (nI (m / 10))) 152) 27 (nI (m % 10)))) _ _ _) rfl rfl (Nat.le_of_ble_eq_true rfl) ?_
              refine xt_istore dX12_quiet_110 (by decide) rfl ?_
              change x_T _ _ _ _ [_, _, _, _, _, _, _, _] _ _ _ _
              refine xt_inc _ (1) dX12_quiet_112 rfl (by decide) (by decide) rfl ?_
              change x_T _ _ _ _ [_, _, _, _, _, _, _, _] _ _ _ _
              refine xt_goto 29 dX12_quiet_115 (by decide) ?_
              refine x_T.ls ?_ (ih29 (m + 1) (x_u (x_u μ2 152 (upd (μ2 152) 26 (nI (m / 10)))) 152 (upd (x_u μ2 152 (upd (μ2 152) 26 (nI (m / 10))) 152) 27 (nI (m % 10)))) (.int (nI (s_farS F (m / 10) (m % 10)))) ⟨⟨_, hSG.stand hGF m, fun i hi => s_mv_2 F m hi⟩, h34, fun a ha => by rw [x_u_ne ha, x_u_ne ha]; exact hfr2 a ha⟩ (by omega))
              have hz : s_hf F m = 0 := (s_bits_cnt0 _ _).mp ((nI_0e (by omega)).mp f81)
              have ec : s_cnt (fun p => decide (s_hf F p = 0)) (m + 1) = s_cnt (fun p => decide (s_hf F p = 0)) m + 1 := by rw [s_cnt, if_pos (by simpa using hz)]
              rw [s_le_nI (by omega) (by omega)]
              rw [nI_leI (by omega) (by omega)] at f91
              have es : s_am (fun p => s_farS F (p / 10) (p % 10)) (fun p => decide (s_hf F p = 0)) 1000000 (m + 1) = (m + 1, s_farS F (m / 10) (m % 10)) := s_am_y (v := (fun p => s_farS F (p / 10) (p % 10))) (ok := (fun p => decide (s_hf F p = 0))) (by simpa using hz) (by show s_farS F (m / 10) (m % 10) < (s_am (fun p => s_farS F (p / 10) (p % 10)) (fun p => decide (s_hf F p = 0)) 1000000 m).2; omega)
              rw [es, ec, nI_succ m, nI_succ (s_cnt _ m), eI_s, Nat.min_eq_right (by omega)]
      exact L29 (100) 0 μ1 _ ⟨⟨F, hS, fun _ _ => rfl⟩, h0.2.2.2.2.2, fun _ _ => rfl⟩ (by omega)
