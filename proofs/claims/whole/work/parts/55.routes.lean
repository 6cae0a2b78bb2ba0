/-! the step of route, both sides -/
theorem w_kpos {T : Nat} {P : Nat → Int} {D : Nat → Nat → Int} (hT : T ≤ 6) (hPD : w_PD T P D) {s p : Nat} (hs : s < 2 ^ T) (hp : p < T ∨ p = 6) : 0 ≤ w_k (w_W false T P D s p) ∧ ((w_W false T P D s p).2.2 ≠ 0 → 0 < w_k (w_W false T P D s p)) :=
  (w_rte hT hPD hs hp (g := fun t => if s.testBit t then -1000000 else iI (8 * w_v P D (w_W false T P D) s p t - (w_m (w_W false T P D) s t : Int))) (fun t _ => ⟨fun hb => if_pos hb, fun hb => by
    show (if s.testBit t = true then -1000000 else _) = _
    rw [hb, if_neg (by decide)]⟩)).2
theorem w_end {T : Nat} {P : Nat → Int} {D : Nat → Nat → Int} {s p : Nat} (hs : s < 2 ^ T) (h : (w_W false T P D s p).2.1 = 0) : w_k (w_W false T P D s p) = 0 := by
  rcases w_W_in (wh := false) (P := P) (D := D) (p := p) hs with e | ⟨u, hu, hb, e⟩
  · rw [e]; rfl
  · rw [e] at h
    have : 1 + (w_W false T P D (s ||| 2 ^ u) u).2.1 = 0 := h
    omega
theorem iI_npos {a : Int} (h : 0 < a) (h2 : a ≤ 1000000000) : ¬ iI a ≤ 0 := by
  have e0 : (0 : Int32).toInt = 0 := by decide
  rw [Int32.le_iff_toInt_le, iI_toInt (by omega) h2, e0]; omega
theorem w_div {z : Int} {n : Nat} (h0 : 0 ≤ z) (h1 : z ≤ 5000) (hn : n ≤ 6) : (iI (8 * z - (n : Int)) + nI n) / 8 = iI z := by
  obtain ⟨m, rfl⟩ : ∃ m : Nat, z = m := ⟨z.toNat, by omega⟩
  rw [iI_nI (n := n) (by omega), iI_add, show 8 * (m : Int) - (n : Int) + (n : Int) = ((8 * m : Nat) : Int) by omega, ← iI_nI (by omega), ← iI_nI (by omega)]
  exact (pk_div (d := 8) (by omega) (by decide) (by decide)).trans (by rw [Nat.mul_div_cancel_left m (by decide)])
section ROUTEL
variable (sc : Nat × (Nat → Int32)) (d : Nat) (μ : x_Me) (w : Int64)
set_option maxHeartbeats 4000000 in
theorem tX12_layRoute (f : Nat) (F : Nat → Nat) (hf2 : f < 2) (h22 : μ 152 22 = nI f) (hF : ∀ i, i < 125 → μ 158 (125 * f + i) = nI (F i)) (hW : f_W F) (e6 : μ 152 25 = nI (F 6)) : x_K sc (d + 4) mX12_layRoute [.ref 152] μ w (fun r μ' _ => r = none ∧ μ' 152 44 = nI ((w_W false (F 6) (w_P false F) (w_D false F)) 0 6).2.1 ∧ (∀ q, q < ((w_W false (F 6) (w_P false F) (w_D false F)) 0 6).2.1 → μ' 168 q = nI (w_chn (w_W false (F 6) (w_P false F) (w_D false F)) (q + 1)).2) ∧ μ' 167 384 = iI (w_k ((w_W false (F 6) (w_P false F) (w_D false F)) 0 6)) ∧ ∀ a, a ≠ 152 → a ≠ 167 → a ≠ 168 → μ' a = μ a) := by
  have h6 : F 6 ≤ 6 := hW.1.2.2.2.2.2.2
  have h64 : 2 ^ F 6 ≤ 2 ^ 6 := Nat.pow_le_pow_right (by decide) h6
  have h1p : 1 ≤ 2 ^ F 6 := Nat.one_le_two_pow
  have hPD := w_pd hW false
  have hN : ((w_W false (F 6) (w_P false F) (w_D false F)) 0 6).2.1 ≤ 6 := (w_W_ok2 (wh := false) h6 hPD (s := 0) (p := 6) (by omega) (.inr rfl)).2.2.1
  refine x_K.of (by decide) (Nat.le_of_ble_eq_true rfl) ?_
  show x_T sc (d + 4) mX12_layRoute 0 [.ref 152, .retAddr 0, .retAddr 0, .retAddr 0] [] μ w _
  refine xt_aload_n _ dX12_layRoute_0 rfl ?_
  refine xt_callV _ dX12_layRoute_1 klX12_393 (tX12_findRoutes sc _ μ w f F hf2 h22 hF hW e6) sh152 rfl rfl (Nat.le_of_ble_eq_true rfl) (fun r1 μ1 w1 q1 => ?_)
  obtain ⟨rfl, hSc1, hf1⟩ := q1
  change x_T _ _ _ _ _ _ _ _ _
  refine xt_iconst (0) dX12_layRoute_4 (by decide) ?_
  refine xt_istore_n dX12_layRoute_5 (by decide) rfl ?_
  change x_T _ _ _ _ [_, _, _, _] _ _ _ _
  refine xt_bipush (6) dX12_layRoute_6 (by decide) ?_
  refine xt_istore_n dX12_layRoute_8 (by decide) rfl ?_
  change x_T _ _ _ _ [_, _, _, _] _ _ _ _
  refine xt_aload_n _ dX12_layRoute_9 rfl ?_
  refine xt_iconst (0) dX12_layRoute_10 (by decide) ?_
  refine xt_puti dX12_layRoute_11 kpX12_396 (by first | exact sh152 | rfl | assumption) rfl (by first | rfl | assumption) (by first | rfl | assumption) ?_
  have L14 : ∀ (n14 i : Nat) (μ2 : x_Me) (v3 : Value) (h44 : μ2 152 44 = nI i) (hL : ∀ q, q < i → μ2 168 q = nI (w_chn (w_W false (F 6) (w_P false F) (w_D false F)) (q + 1)).2) (h167 : μ2 167 = μ1 167) (h152 : ∀ j, j ≠ 44 → μ2 152 j = μ1 152 j) (hfr : ∀ a, a ≠ 152 → a ≠ 168 → μ2 a = μ1 a), i + n14 = ((w_W false (F 6) (w_P false F) (w_D false F)) 0 6).2.1 → x_T sc (d + 4) mX12_layRoute 14 [.ref 152, .int (nI (w_chn (w_W false (F 6) (w_P false F) (w_D false F)) i).1), .int (nI (w_chn (w_W false (F 6) (w_P false F) (w_D false F)) i).2), v3] [] μ2 w1 (fun r μ' _ => r = none ∧ μ' 152 44 = nI ((w_W false (F 6) (w_P false F) (w_D false F)) 0 6).2.1 ∧ (∀ q, q < ((w_W false (F 6) (w_P false F) (w_D false F)) 0 6).2.1 → μ' 168 q = nI (w_chn (w_W false (F 6) (w_P false F) (w_D false F)) (q + 1)).2) ∧ μ' 167 384 = iI (w_k ((w_W false (F 6) (w_P false F) (w_D false F)) 0 6)) ∧ ∀ a, a ≠ 152 → a ≠ 167 → a ≠ 168 → μ' a = μ a) := by
    intro n14
    induction n14 with
    | zero =>
      intro i μ2 v3 h44 hL h167 h152 hfr hmn
      obtain rfl : ((w_W false (F 6) (w_P false F) (w_D false F)) 0 6).2.1 = i := by omega
      have hck := w_chn_ok (wh := false) (T := F 6) (P := w_P false F) (D := w_D false F) ((w_W false (F 6) (w_P false F) (w_D false F)) 0 6).2.1 (by omega)
      have hps := hck.1
      have hpg : ((w_chn (w_W false (F 6) (w_P false F) (w_D false F)) ((w_W false (F 6) (w_P false F) (w_D false F)) 0 6).2.1).2 < F 6 ∨ (w_chn (w_W false (F 6) (w_P false F) (w_D false F)) ((w_W false (F 6) (w_P false F) (w_D false F)) 0 6).2.1).2 = 6) := by have := hps.2; omega
      have hpl := hps.1
      have hixc : (64 : Int32) * nI (w_chn (w_W false (F 6) (w_P false F) (w_D false F)) ((w_W false (F 6) (w_P false F) (w_D false F)) 0 6).2.1).2 + nI (w_chn (w_W false (F 6) (w_P false F) (w_D false F)) ((w_W false (F 6) (w_P false F) (w_D false F)) 0 6).2.1).1 = nI (64 * (w_chn (w_W false (F 6) (w_P false F) (w_D false F)) ((w_W false (F 6) (w_P false F) (w_D false F)) 0 6).2.1).2 + (w_chn (w_W false (F 6) (w_P false F) (w_D false F)) ((w_W false (F 6) (w_P false F) (w_D false F)) 0 6).2.1).1) := by rw [show (64 : Int32) = nI 64 from rfl, pk_mul, nI_add]
      have hsc : μ2 167 (64 * (w_chn (w_W false (F 6) (w_P false F) (w_D false F)) ((w_W false (F 6) (w_P false F) (w_D false F)) 0 6).2.1).2 + (w_chn (w_W false (F 6) (w_P false F) (w_D false F)) ((w_W false (F 6) (w_P false F) (w_D false F)) 0 6).2.1).1) = iI (w_k ((w_W false (F 6) (w_P false F) (w_D false F)) (w_chn (w_W false (F 6) (w_P false F) (w_D false F)) ((w_W false (F 6) (w_P false F) (w_D false F)) 0 6).2.1).1 (w_chn (w_W false (F 6) (w_P false F) (w_D false F)) ((w_W false (F 6) (w_P false F) (w_D false F)) 0 6).2.1).2)) := by rw [h167]; exact hSc1 _ _ hps.1 hpg
      have hkp := w_kpos h6 hPD hps.1 hpg
      obtain ⟨o1, o2, o3, _⟩ := w_W_ok2 (wh := false) h6 hPD hps.1 hpg
      have ik : w_k ((w_W false (F 6) (w_P false F) (w_D false F)) (w_chn (w_W false (F 6) (w_P false F) (w_D false F)) ((w_W false (F 6) (w_P false F) (w_D false F)) 0 6).2.1).1 (w_chn (w_W false (F 6) (w_P false F) (w_D false F)) ((w_W false (F 6) (w_P false F) (w_D false F)) 0 6).2.1).2) = 8 * ((w_W false (F 6) (w_P false F) (w_D false F)) (w_chn (w_W false (F 6) (w_P false F) (w_D false F)) ((w_W false (F 6) (w_P false F) (w_D false F)) 0 6).2.1).1 (w_chn (w_W false (F 6) (w_P false F) (w_D false F)) ((w_W false (F 6) (w_P false F) (w_D false F)) 0 6).2.1).2).1 - (((w_W false (F 6) (w_P false F) (w_D false F)) (w_chn (w_W false (F 6) (w_P false F) (w_D false F)) ((w_W false (F 6) (w_P false F) (w_D false F)) 0 6).2.1).1 (w_chn (w_W false (F 6) (w_P false F) (w_D false F)) ((w_W false (F 6) (w_P false F) (w_D false F)) 0 6).2.1).2).2.1 : Int) := rfl
      refine xt_aload_n _ dX12_layRoute_14 rfl ?_
      refine xt_getr _ dX12_layRoute_15 kfX12_53 (by first | exact sh152 | rfl | assumption) rfl ?_
      refine xt_bipush (64) dX12_layRoute_18 (by decide) ?_
      refine xt_iload_n _ dX12_layRoute_20 rfl ?_
      refine xt_imul dX12_layRoute_21 ?_
      refine xt_iload_n _ dX12_layRoute_22 rfl ?_
      refine xt_iadd dX12_layRoute_23 ?_
      refine xt_ald dX12_layRoute_24 (by first | exact sh152 | rfl | assumption) (by rw [hixc]; exact vp_in_nI (by omega) (by decide)) ?_
      rw [hixc, nI_clamp (by omega), hsc]
      refine xt_if_le 88 dX12_layRoute_25 (by decide) (fun _ => ?_) (fun q => absurd (by rw [w_end hps.1 (hck.2.trans (Nat.sub_self _))]; decide) q)
      exact xt_ret dX12_layRoute_88 rfl ⟨rfl, h44, hL, by rw [h167]; exact hSc1 0 6 (by omega) (.inr rfl), fun a h1 h2 h3 => by rw [hfr a h1 h3]; exact hf1 a h2⟩
    | succ n14 ih14 =>
      intro i μ2 v3 h44 hL h167 h152 hfr hmn
      have hlt_i : i < ((w_W false (F 6) (w_P false F) (w_D false F)) 0 6).2.1 := by omega
      have hck := w_chn_ok (wh := false) (T := F 6) (P := w_P false F) (D := w_D false F) i (by omega)
      have hps := hck.1
      have hpg : ((w_chn (w_W false (F 6) (w_P false F) (w_D false F)) i).2 < F 6 ∨ (w_chn (w_W false (F 6) (w_P false F) (w_D false F)) i).2 = 6) := by have := hps.2; omega
      have hpl := hps.1
      have hixc : (64 : Int32) * nI (w_chn (w_W false (F 6) (w_P false F) (w_D false F)) i).2 + nI (w_chn (w_W false (F 6) (w_P false F) (w_D false F)) i).1 = nI (64 * (w_chn (w_W false (F 6) (w_P false F) (w_D false F)) i).2 + (w_chn (w_W false (F 6) (w_P false F) (w_D false F)) i).1) := by rw [show (64 : Int32) = nI 64 from rfl, pk_mul, nI_add]
      have hsc : μ2 167 (64 * (w_chn (w_W false (F 6) (w_P false F) (w_D false F)) i).2 + (w_chn (w_W false (F 6) (w_P false F) (w_D false F)) i).1) = iI (w_k ((w_W false (F 6) (w_P false F) (w_D false F)) (w_chn (w_W false (F 6) (w_P false F) (w_D false F)) i).1 (w_chn (w_W false (F 6) (w_P false F) (w_D false F)) i).2)) := by rw [h167]; exact hSc1 _ _ hps.1 hpg
      have hkp := w_kpos h6 hPD hps.1 hpg
      obtain ⟨o1, o2, o3, _⟩ := w_W_ok2 (wh := false) h6 hPD hps.1 hpg
      have ik : w_k ((w_W false (F 6) (w_P false F) (w_D false F)) (w_chn (w_W false (F 6) (w_P false F) (w_D false F)) i).1 (w_chn (w_W false (F 6) (w_P false F) (w_D false F)) i).2) = 8 * ((w_W false (F 6) (w_P false F) (w_D false F)) (w_chn (w_W false (F 6) (w_P false F) (w_D false F)) i).1 (w_chn (w_W false (F 6) (w_P false F) (w_D false F)) i).2).1 - (((w_W false (F 6) (w_P false F) (w_D false F)) (w_chn (w_W false (F 6) (w_P false F) (w_D false F)) i).1 (w_chn (w_W false (F 6) (w_P false F) (w_D false F)) i).2).2.1 : Int) := rfl
      have hct := w_chn_t (wh := false) (T := F 6) (P := w_P false F) (D := w_D false F) hlt_i
      have hpk := w_pickR (P := w_P false F) (D := w_D false F) (p := (w_chn (w_W false (F 6) (w_P false F) (w_D false F)) i).2) (t := (((w_W false (F 6) (w_P false F) (w_D false F)) (w_chn (w_W false (F 6) (w_P false F) (w_D false F)) i).1 (w_chn (w_W false (F 6) (w_P false F) (w_D false F)) i).2).2.2 - 1)) h6 hPD hps.1 hpg (show ((w_W false (F 6) (w_P false F) (w_D false F)) (w_chn (w_W false (F 6) (w_P false F) (w_D false F)) i).1 (w_chn (w_W false (F 6) (w_P false F) (w_D false F)) i).2).2.2 = (((w_W false (F 6) (w_P false F) (w_D false F)) (w_chn (w_W false (F 6) (w_P false F) (w_D false F)) i).1 (w_chn (w_W false (F 6) (w_P false F) (w_D false F)) i).2).2.2 - 1) + 1 by omega)
      have h222 : μ2 152 22 = nI f := by rw [h152 22 (by decide), hf1 152 (by decide)]; exact h22
      have hF2 : ∀ i, i < 125 → μ2 158 (125 * f + i) = nI (F i) := fun i hi => by rw [hfr 158 (by decide) (by decide), hf1 158 (by decide)]; exact hF i hi
      have hval : ∀ e, e < F 6 → (w_chn (w_W false (F 6) (w_P false F) (w_D false F)) i).1.testBit e = false → (if (w_chn (w_W false (F 6) (w_P false F) (w_D false F)) i).1.testBit e then -1000000 else (8 : Int32) * (nI (F (113 + e)) * nI (F (119 + e)) - 10 * w_tw F (w_chn (w_W false (F 6) (w_P false F) (w_D false F)) i).2 e) - 1 + μ2 167 (64 * e + ((w_chn (w_W false (F 6) (w_P false F) (w_D false F)) i).1 ||| 2 ^ e))) = iI (8 * w_v (w_P false F) (w_D false F) (w_W false (F 6) (w_P false F) (w_D false F)) (w_chn (w_W false (F 6) (w_P false F) (w_D false F)) i).1 (w_chn (w_W false (F 6) (w_P false F) (w_D false F)) i).2 e - (w_m (w_W false (F 6) (w_P false F) (w_D false F)) (w_chn (w_W false (F 6) (w_P false F) (w_D false F)) i).1 e : Int)) := fun e he hb => w_srt hW hpg he hb (by rw [h167]; exact hSc1 _ e (w_or_lt he hps.1) (.inl he))
      have hnot : ∀ e, e < (((w_W false (F 6) (w_P false F) (w_D false F)) (w_chn (w_W false (F 6) (w_P false F) (w_D false F)) i).1 (w_chn (w_W false (F 6) (w_P false F) (w_D false F)) i).2).2.2 - 1) → ¬ (if (w_chn (w_W false (F 6) (w_P false F) (w_D false F)) i).1.testBit e then -1000000 else (8 : Int32) * (nI (F (113 + e)) * nI (F (119 + e)) - 10 * w_tw F (w_chn (w_W false (F 6) (w_P false F) (w_D false F)) i).2 e) - 1 + μ2 167 (64 * e + ((w_chn (w_W false (F 6) (w_P false F) (w_D false F)) i).1 ||| 2 ^ e))) = iI (w_k ((w_W false (F 6) (w_P false F) (w_D false F)) (w_chn (w_W false (F 6) (w_P false F) (w_D false F)) i).1 (w_chn (w_W false (F 6) (w_P false F) (w_D false F)) i).2)) := by
        intro e he z
        cases hb : (w_chn (w_W false (F 6) (w_P false F) (w_D false F)) i).1.testBit e
        · rw [hval e (by omega) hb] at z
          have h1 := hpk.2.2.2 e he hb
          obtain ⟨c1, c2, c3, _⟩ := w_W_ok2 (wh := false) h6 hPD (w_or_lt (show e < F 6 by omega) hps.1) (p := e) (.inl (by omega))
          have h2 := hPD.2 _ e hpg (.inl (by omega))
          have h5 := hPD.1 e (by omega)
          have h3 : w_v (w_P false F) (w_D false F) (w_W false (F 6) (w_P false F) (w_D false F)) (w_chn (w_W false (F 6) (w_P false F) (w_D false F)) i).1 (w_chn (w_W false (F 6) (w_P false F) (w_D false F)) i).2 e = w_P false F e - w_D false F (w_chn (w_W false (F 6) (w_P false F) (w_D false F)) i).2 e + ((w_W false (F 6) (w_P false F) (w_D false F)) ((w_chn (w_W false (F 6) (w_P false F) (w_D false F)) i).1 ||| 2 ^ e) e).1 := rfl
          have h6m : w_m (w_W false (F 6) (w_P false F) (w_D false F)) (w_chn (w_W false (F 6) (w_P false F) (w_D false F)) i).1 e = 1 + ((w_W false (F 6) (w_P false F) (w_D false F)) ((w_chn (w_W false (F 6) (w_P false F) (w_D false F)) i).1 ||| 2 ^ e) e).2.1 := rfl
          rw [h3, h6m] at z h1
          have h4 := (iI_eq (by omega) (by omega) (by omega) (by omega)).mp z
          omega
        · rw [hb, if_pos rfl, show (-1000000 : Int32) = iI (-1000000) by decide] at z
          have h4 := (iI_eq (by omega) (by omega) (by omega) (by omega)).mp z
          omega
      refine xt_aload_n _ dX12_layRoute_14 rfl ?_
      refine xt_getr _ dX12_layRoute_15 kfX12_53 (by first | exact sh152 | rfl | assumption) rfl ?_
      refine xt_bipush (64) dX12_layRoute_18 (by decide) ?_
      refine xt_iload_n _ dX12_layRoute_20 rfl ?_
      refine xt_imul dX12_layRoute_21 ?_
      refine xt_iload_n _ dX12_layRoute_22 rfl ?_
      refine xt_iadd dX12_layRoute_23 ?_
      refine xt_ald dX12_layRoute_24 (by first | exact sh152 | rfl | assumption) (by rw [hixc]; exact vp_in_nI (by omega) (by decide)) ?_
      rw [hixc, nI_clamp (by omega), hsc]
      refine xt_if_le 88 dX12_layRoute_25 (by decide) (fun q => absurd q (iI_npos (hkp.2 hct.1) (by omega))) (fun _ => ?_)
      refine xt_iconst (0) dX12_layRoute_28 (by decide) ?_
      refine xt_istore_n dX12_layRoute_29 (by decide) rfl ?_
      change x_T _ _ _ _ [_, _, _, _] _ _ _ _
      have L30 : ∀ (n30 e : Nat) , e + n30 = (((w_W false (F 6) (w_P false F) (w_D false F)) (w_chn (w_W false (F 6) (w_P false F) (w_D false F)) i).1 (w_chn (w_W false (F 6) (w_P false F) (w_D false F)) i).2).2.2 - 1) → x_T sc (d + 4) mX12_layRoute 30 [.ref 152, .int (nI (w_chn (w_W false (F 6) (w_P false F) (w_D false F)) i).1), .int (nI (w_chn (w_W false (F 6) (w_P false F) (w_D false F)) i).2), .int (nI e)] [] μ2 w1 (fun r μ' _ => r = none ∧ μ' 152 44 = nI ((w_W false (F 6) (w_P false F) (w_D false F)) 0 6).2.1 ∧ (∀ q, q < ((w_W false (F 6) (w_P false F) (w_D false F)) 0 6).2.1 → μ' 168 q = nI (w_chn (w_W false (F 6) (w_P false F) (w_D false F)) (q + 1)).2) ∧ μ' 167 384 = iI (w_k ((w_W false (F 6) (w_P false F) (w_D false F)) 0 6)) ∧ ∀ a, a ≠ 152 → a ≠ 167 → a ≠ 168 → μ' a = μ a) := by
        intro n30
        induction n30 with
        | zero =>
          intro e  hmn
          obtain rfl : (((w_W false (F 6) (w_P false F) (w_D false F)) (w_chn (w_W false (F 6) (w_P false F) (w_D false F)) i).1 (w_chn (w_W false (F 6) (w_P false F) (w_D false F)) i).2).2.2 - 1) = e := by omega
          refine xt_aload_n _ dX12_layRoute_30 rfl ?_
          refine xt_iload_n _ dX12_layRoute_31 rfl ?_
          refine xt_iload_n _ dX12_layRoute_32 rfl ?_
          refine xt_iload_n _ dX12_layRoute_33 rfl ?_
          refine xt_cV _ dX12_layRoute_34 klX12_390 (tX12_scoreBy sc _ μ2 w1 f F hf2 h222 hF2 (w_chn (w_W false (F 6) (w_P false F) (w_D false F)) i).1 (w_chn (w_W false (F 6) (w_P false F) (w_D false F)) i).2 _ (by omega) (by omega) (by omega)) sh152 rfl rfl (Nat.le_of_ble_eq_true rfl) ?_
          refine xt_aload_n _ dX12_layRoute_37 rfl ?_
          refine xt_getr _ dX12_layRoute_38 kfX12_53 (by first | exact sh152 | rfl | assumption) rfl ?_
          refine xt_bipush (64) dX12_layRoute_41 (by decide) ?_
          refine xt_iload_n _ dX12_layRoute_43 rfl ?_
          refine xt_imul dX12_layRoute_44 ?_
          refine xt_iload_n _ dX12_layRoute_45 rfl ?_
          refine xt_iadd dX12_layRoute_46 ?_
          refine xt_ald dX12_layRoute_47 (by first | exact sh152 | rfl | assumption) (by rw [hixc]; exact vp_in_nI (by omega) (by decide)) ?_
          rw [hixc, nI_clamp (by omega), hsc]
          refine xt_icmp_eq 57 dX12_layRoute_48 (by decide) (fun _ => ?_) (fun q => absurd (by rw [hval _ (by omega) hpk.1, hpk.2.2.1]) q)
          refine xt_aload_n _ dX12_layRoute_57 rfl ?_
          refine xt_getr _ dX12_layRoute_58 kfX12_56 (by first | exact sh152 | rfl | assumption) rfl ?_
          refine xt_aload_n _ dX12_layRoute_61 rfl ?_
          refine xt_geti dX12_layRoute_62 kfX12_396 (by first | exact sh152 | rfl | assumption) rfl ?_
          rw [h44]
          refine xt_iload_n _ dX12_layRoute_65 rfl ?_
          refine xt_ast dX12_layRoute_66 (by first | exact sh152 | rfl | assumption) (by exact vp_in_nI (by omega) (by decide)) ?_
          refine xt_aload_n _ dX12_layRoute_67 rfl ?_
          refine xt_dup dX12_layRoute_68 rfl ?_
          refine xt_geti dX12_layRoute_69 kfX12_396 (by first | exact sh152 | rfl | assumption) rfl ?_
          refine xt_iconst (1) dX12_layRoute_72 (by decide) ?_
          refine xt_iadd dX12_layRoute_73 ?_
          refine xt_puti dX12_layRoute_74 kpX12_396 (by first | exact sh152 | rfl | assumption) rfl (by first | rfl | assumption) (by first | rfl | assumption) ?_
          refine xt_iload_n _ dX12_layRoute_77 rfl ?_
          refine xt_iconst (1) dX12_layRoute_78 (by decide) ?_
          refine xt_iload_n _ dX12_layRoute_79 rfl ?_
          refine xt_ishl dX12_layRoute_80 ?_
          refine xt_ior dX12_layRoute_81 ?_
          refine xt_istore_n dX12_layRoute_82 (by decide) rfl ?_
          change x_T _ _ _ _ [_, _, _, _] _ _ _ _
          refine xt_iload_n _ dX12_layRoute_83 rfl ?_
          refine xt_istore_n dX12_layRoute_84 (by decide) rfl ?_
          change x_T _ _ _ _ [_, _, _, _] _ _ _ _
          refine xt_goto 14 dX12_layRoute_85 (by decide) ?_
          refine x_T.ls ?_ (ih14 (i + 1) _ (.int (nI (((w_W false (F 6) (w_P false F) (w_D false F)) (w_chn (w_W false (F 6) (w_P false F) (w_D false F)) i).1 (w_chn (w_W false (F 6) (w_P false F) (w_D false F)) i).2).2.2 - 1))) ?_ (fun q hq => ?_) ?_ (fun j hj => ?_) (fun a h1 h2 => ?_) (by omega))
          · rw [show (w_chn (w_W false (F 6) (w_P false F) (w_D false F)) (i + 1)) = ((w_chn (w_W false (F 6) (w_P false F) (w_D false F)) i).1 ||| 2 ^ (((w_W false (F 6) (w_P false F) (w_D false F)) (w_chn (w_W false (F 6) (w_P false F) (w_D false F)) i).1 (w_chn (w_W false (F 6) (w_P false F) (w_D false F)) i).2).2.2 - 1), (((w_W false (F 6) (w_P false F) (w_D false F)) (w_chn (w_W false (F 6) (w_P false F) (w_D false F)) i).1 (w_chn (w_W false (F 6) (w_P false F) (w_D false F)) i).2).2.2 - 1)) from rfl]
            dsimp only
            rw [x_1sh (by omega), nI_or]
          · rw [x_u_eq, pk_us, x_u_ne (by decide), h44, nI_succ i]
          · rw [x_u_ne (by decide), x_u_eq, nI_clamp (by omega)]
            by_cases he : q = i
            · rw [he, pk_us]; rfl
            · rw [pk_un he]; exact hL q (by omega)
          · rw [x_u_ne (by decide), x_u_ne (by decide)]; exact h167
          · rw [x_u_eq, pk_un hj, x_u_ne (by decide)]; exact h152 j hj
          · rw [x_u_ne h1, x_u_ne h2]; exact hfr a h1 h2
        | succ n30 ih30 =>
          intro e  hmn
          have hlt_e : e < (((w_W false (F 6) (w_P false F) (w_D false F)) (w_chn (w_W false (F 6) (w_P false F) (w_D false F)) i).1 (w_chn (w_W false (F 6) (w_P false F) (w_D false F)) i).2).2.2 - 1) := by omega
          refine xt_aload_n _ dX12_layRoute_30 rfl ?_
          refine xt_iload_n _ dX12_layRoute_31 rfl ?_
          refine xt_iload_n _ dX12_layRoute_32 rfl ?_
          refine xt_iload_n _ dX12_layRoute_33 rfl ?_
          refine xt_cV _ dX12_layRoute_34 klX12_390 (tX12_scoreBy sc _ μ2 w1 f F hf2 h222 hF2 (w_chn (w_W false (F 6) (w_P false F) (w_D false F)) i).1 (w_chn (w_W false (F 6) (w_P false F) (w_D false F)) i).2 _ (by omega) (by omega) (by omega)) sh152 rfl rfl (Nat.le_of_ble_eq_true rfl) ?_
          refine xt_aload_n _ dX12_layRoute_37 rfl ?_
          refine xt_getr _ dX12_layRoute_38 kfX12_53 (by first | exact sh152 | rfl | assumption) rfl ?_
          refine xt_bipush (64) dX12_layRoute_41 (by decide) ?_
          refine xt_iload_n _ dX12_layRoute_43 rfl ?_
          refine xt_imul dX12_layRoute_44 ?_
          refine xt_iload_n _ dX12_layRoute_45 rfl ?_
          refine xt_iadd dX12_layRoute_46 ?_
          refine xt_ald dX12_layRoute_47 (by first | exact sh152 | rfl | assumption) (by rw [hixc]; exact vp_in_nI (by omega) (by decide)) ?_
          rw [hixc, nI_clamp (by omega), hsc]
          refine xt_icmp_eq 57 dX12_layRoute_48 (by decide) (fun q => absurd q (hnot e hlt_e)) (fun _ => ?_)
          refine xt_inc _ (1) dX12_layRoute_51 rfl (by decide) (by decide) rfl ?_
          change x_T _ _ _ _ [_, _, _, _] _ _ _ _
          refine xt_goto 30 dX12_layRoute_54 (by decide) ?_
          refine x_T.ls ?_ (ih30 (e + 1) (by omega))
          rw [nI_succ e]
      exact L30 (((w_W false (F 6) (w_P false F) (w_D false F)) (w_chn (w_W false (F 6) (w_P false F) (w_D false F)) i).1 (w_chn (w_W false (F 6) (w_P false F) (w_D false F)) i).2).2.2 - 1) 0 (by omega)
  exact L14 ((w_W false (F 6) (w_P false F) (w_D false F)) 0 6).2.1 0 _ (.retAddr 0) (by rw [x_u_eq, pk_us]; rfl) (fun q h => absurd h (by omega)) (x_u_ne (by decide)) (fun j hj => by rw [x_u_eq, pk_un hj]) (fun a h1 _ => x_u_ne h1) (by omega)
end ROUTEL
set_option maxHeartbeats 8000000 in
theorem st_route (sc : Nat × (Nat → Int32)) (a1 a2 : Int32) : x_stI sc (fun μ _ => x_Inv μ) (fun μ _ => x_Inv μ) mX11_route mX12_route [.int a1, .int a2] := by
  refine x_stF (-2) ?_ ?_ ?_
  · intro μ w c hc e hk
    refine x_K.of (by decide) (Nat.le_of_ble_eq_true rfl) ?_
    show x_T sc 29 mX11_route 0 [.ref 0, .int a1, .int a2, .retAddr 0] [] μ w _
    refine xt_aload_n _ dX11_route_0 rfl ?_
    refine xt_iload_n _ dX11_route_1 rfl ?_
    refine xt_cV _ dX11_route_2 klX11_90 (tX11_fairOf_no sc _ μ w c hc e _ hk) sh0 rfl rfl (Nat.le_of_ble_eq_true rfl) ?_
    refine xt_astore_n0 dX11_route_5 (by decide) rfl ?_
    change x_T _ _ _ _ [_, _, _, _] _ _ _ _
    refine xt_aload_n0 dX11_route_6 rfl ?_
    refine xt_ifnonnull_n dX11_route_7 ?_
    refine xt_bipush (-2) dX11_route_10 (by decide) ?_
    exact xt_iret .int dX11_route_12 rfl (by first | rfl | assumption) ⟨rfl, x_keep.rf μ⟩
  · intro μ w c hc e hk
    refine x_K.of (by decide) (Nat.le_of_ble_eq_true rfl) ?_
    show x_T sc 29 mX12_route 0 [.ref 152, .int a1, .int a2] [] μ w _
    refine xt_aload_n _ dX12_route_0 rfl ?_
    refine xt_iconst (0) dX12_route_1 (by decide) ?_
    refine xt_puti dX12_route_2 kpX12_72 (by first | exact sh152 | rfl | assumption) rfl (by first | rfl | assumption) (by first | rfl | assumption) ?_
    refine xt_aload_n _ dX12_route_5 rfl ?_
    refine xt_iload_n _ dX12_route_6 rfl ?_
    refine xt_cV _ dX12_route_7 klX12_300 (tX12_hand_no sc _ (x_u μ 152 (upd (μ 152) 0 0)) w c hc e _ hk) sh152 rfl rfl (Nat.le_of_ble_eq_true rfl) ?_
    refine xt_if_ne 16 dX12_route_10 (by decide) (fun q => absurd (by decide) q) (fun _ => ?_)
    refine xt_bipush (-2) dX12_route_13 (by decide) ?_
    exact xt_iret .int dX12_route_15 rfl (by first | rfl | assumption) ⟨rfl, (x_keep.u (x_keep.rf μ) (by unfold x_ok; omega))⟩
  · intro f F hf2 hkk hW
    subst hkk
    have h6 : F 6 ≤ 6 := hW.1.2.2.2.2.2.2
    have h1p : 1 ≤ 2 ^ F 6 := Nat.one_le_two_pow
    have hPD := w_pd hW false
    obtain ⟨o1, o2, hN, _⟩ := w_W_ok2 (wh := false) h6 hPD (s := 0) (p := 6) (by omega) (.inr rfl)
    have hW0 : 0 ≤ ((w_W false (F 6) (w_P false F) (w_D false F)) 0 6).1 := by
      have h1 := (w_kpos h6 hPD (s := 0) (p := 6) (by omega) (.inr rfl)).1
      have h2 : w_k ((w_W false (F 6) (w_P false F) (w_D false F)) 0 6) = 8 * ((w_W false (F 6) (w_P false F) (w_D false F)) 0 6).1 - (((w_W false (F 6) (w_P false F) (w_D false F)) 0 6).2.1 : Int) := rfl
      omega
    by_cases hz0 : a2 = 0
    · subst hz0
      refine ⟨iI ((w_W false (F 6) (w_P false F) (w_D false F)) 0 6).1, ?_, ?_⟩
      · intro μ w c hf hc e hC
        have hS := f_Sf hf2
        refine x_K.of (by decide) (Nat.le_of_ble_eq_true rfl) ?_
        show x_T sc 29 mX11_route 0 [.ref 0, .int (nI f), .int 0, .retAddr 0] [] μ w _
        refine xt_aload_n _ dX11_route_0 rfl ?_
        refine xt_iload_n _ dX11_route_1 rfl ?_
        refine xt_cV _ dX11_route_2 klX11_90 (tX11_fairOf sc _ μ w f c hf hc e) sh0 rfl rfl (Nat.le_of_ble_eq_true rfl) ?_
        refine xt_astore_n dX11_route_5 (by decide) rfl ?_
        change x_T _ _ _ _ [_, _, _, _] _ _ _ _
        refine xt_aload_n _ dX11_route_6 rfl ?_
        refine xt_ifnonnull_r 13 dX11_route_7 (by decide) ?_
        refine xt_aload_n _ dX11_route_13 rfl ?_
        refine xt_getr _ dX11_route_14 kfX11_41 (by first | exact sh0 | exact sh1 | exact sh137 | exact hS.1 | rfl | assumption) rfl ?_
        refine xt_aload_n _ dX11_route_17 rfl ?_
        refine xt_iconst (0) dX11_route_18 (by decide) ?_
        refine xt_callV _ dX11_route_19 klX11_149 (tX10_lay sc _ μ w (7 + 11 * f) F hS (by omega) hW hC false) sh137 rfl rfl (Nat.le_of_ble_eq_true rfl) (fun r2 μ2 w2 q2 => ?_)
        obtain ⟨rfl, h7, h6s, hR, hfr2⟩ := q2
        change x_T _ _ _ _ _ _ _ _ _
        refine xt_iload_n _ dX11_route_22 rfl ?_
        refine xt_if_ne 34 dX11_route_23 (by decide) (fun q => absurd (by decide) q) (fun _ => ?_)
        refine xt_aload_n _ dX11_route_26 rfl ?_
        refine xt_getr _ dX11_route_27 kfX11_41 (by first | exact sh0 | exact sh1 | exact sh137 | exact hS.1 | rfl | assumption) rfl ?_
        refine xt_geti dX11_route_30 kfX11_153 (by first | exact sh0 | exact sh1 | exact sh137 | exact hS.1 | rfl | assumption) rfl ?_
        exact xt_iret .int dX11_route_33 rfl (by first | rfl | assumption) ⟨by rw [h7], (fun a ha => hfr2 a (by unfold x_ok at ha; omega))⟩
      · intro μ w c hf hc e hF
        refine x_K.of (by decide) (Nat.le_of_ble_eq_true rfl) ?_
        show x_T sc 29 mX12_route 0 [.ref 152, .int (nI f), .int 0] [] μ w _
        refine xt_aload_n _ dX12_route_0 rfl ?_
        refine xt_iconst (0) dX12_route_1 (by decide) ?_
        refine xt_puti dX12_route_2 kpX12_72 (by first | exact sh152 | rfl | assumption) rfl (by first | rfl | assumption) (by first | rfl | assumption) ?_
        refine xt_aload_n _ dX12_route_5 rfl ?_
        refine xt_iload_n _ dX12_route_6 rfl ?_
        refine xt_callV _ dX12_route_7 klX12_300 (tX12_hand sc _ (x_u μ 152 (upd (μ 152) 0 0)) w f c F hf hc e hF) sh152 rfl rfl (Nat.le_of_ble_eq_true rfl) (fun r1 μ1 w1 q1 => ?_)
        obtain ⟨rfl, rfl, hS, h0, hfr⟩ := q1
        change x_T _ _ _ _ _ (.int 1 :: _) _ _ _
        have e6 : μ1 152 25 = nI (F 6) := hS.1.2.2.2.2.1
        have hF1 : ∀ i, i < 125 → μ1 158 (125 * f + i) = nI (F i) := fun i hi => by rw [show μ1 158 = μ 158 from hfr 158 (by decide) (by decide) (by decide) (by decide)]; exact hF i hi
        refine xt_if_ne 16 dX12_route_10 (by decide) (fun _ => ?_) (fun q => absurd q (by decide))
        refine xt_aload_n _ dX12_route_16 rfl ?_
        refine xt_callV _ dX12_route_17 klX12_399 (tX12_layRoute sc _ μ1 w1 f F hf2 hS.1.2.1 hF1 hW e6) sh152 rfl rfl (Nat.le_of_ble_eq_true rfl) (fun r2 μ2 w2 q2 => ?_)
        obtain ⟨rfl, h44, hL, hk384, hfr2⟩ := q2
        change x_T _ _ _ _ _ _ _ _ _
        refine xt_iload_n _ dX12_route_20 rfl ?_
        refine xt_bipush (10) dX12_route_21 (by decide) ?_
        refine xt_icmp_lt 52 dX12_route_23 (by decide) (fun _ => ?_) (fun q => absurd (by decide) q)
        refine xt_iload_n _ dX12_route_52 rfl ?_
        refine xt_if_ne 75 dX12_route_53 (by decide) (fun q => absurd (by decide) q) (fun _ => ?_)
        refine xt_aload_n _ dX12_route_56 rfl ?_
        refine xt_getr _ dX12_route_57 kfX12_53 (by first | exact sh152 | rfl | assumption) rfl ?_
        refine xt_sipush (384) dX12_route_60 (by decide) ?_
        refine xt_ald dX12_route_63 (by first | exact sh152 | rfl | assumption) (by unfold vp_in; decide) ?_
        refine xt_aload_n _ dX12_route_64 rfl ?_
        refine xt_geti dX12_route_65 kfX12_396 (by first | exact sh152 | rfl | assumption) rfl ?_
        refine xt_iadd dX12_route_68 ?_
        refine xt_bipush (8) dX12_route_69 (by decide) ?_
        refine xt_idiv dX12_route_71 (by decide) ?_
        refine xt_goto 89 dX12_route_72 (by decide) ?_
        exact xt_iret .int dX12_route_89 rfl (by first | rfl | assumption) ⟨by rw [show (384 : Int32).toNatClampNeg = 384 from rfl, hk384, h44, w_div hW0 o2 hN], (x_keep.tr (x_keep.hand hfr) (fun a ha => hfr2 a (by unfold x_ok at ha; omega) (by unfold x_ok at ha; omega) (by unfold x_ok at ha; omega)))⟩
    · by_cases hz1 : a2 = 1
      · subst hz1
        refine ⟨nI ((w_W false (F 6) (w_P false F) (w_D false F)) 0 6).2.1, ?_, ?_⟩
        · intro μ w c hf hc e hC
          have hS := f_Sf hf2
          refine x_K.of (by decide) (Nat.le_of_ble_eq_true rfl) ?_
          show x_T sc 29 mX11_route 0 [.ref 0, .int (nI f), .int 1, .retAddr 0] [] μ w _
          refine xt_aload_n _ dX11_route_0 rfl ?_
          refine xt_iload_n _ dX11_route_1 rfl ?_
          refine xt_cV _ dX11_route_2 klX11_90 (tX11_fairOf sc _ μ w f c hf hc e) sh0 rfl rfl (Nat.le_of_ble_eq_true rfl) ?_
          refine xt_astore_n dX11_route_5 (by decide) rfl ?_
          change x_T _ _ _ _ [_, _, _, _] _ _ _ _
          refine xt_aload_n _ dX11_route_6 rfl ?_
          refine xt_ifnonnull_r 13 dX11_route_7 (by decide) ?_
          refine xt_aload_n _ dX11_route_13 rfl ?_
          refine xt_getr _ dX11_route_14 kfX11_41 (by first | exact sh0 | exact sh1 | exact sh137 | exact hS.1 | rfl | assumption) rfl ?_
          refine xt_aload_n _ dX11_route_17 rfl ?_
          refine xt_iconst (0) dX11_route_18 (by decide) ?_
          refine xt_callV _ dX11_route_19 klX11_149 (tX10_lay sc _ μ w (7 + 11 * f) F hS (by omega) hW hC false) sh137 rfl rfl (Nat.le_of_ble_eq_true rfl) (fun r2 μ2 w2 q2 => ?_)
          obtain ⟨rfl, h7, h6s, hR, hfr2⟩ := q2
          change x_T _ _ _ _ _ _ _ _ _
          refine xt_iload_n _ dX11_route_22 rfl ?_
          refine xt_if_ne 34 dX11_route_23 (by decide) (fun _ => ?_) (fun q => absurd q (by decide))
          refine xt_iload_n _ dX11_route_34 rfl ?_
          refine xt_iconst (1) dX11_route_35 (by decide) ?_
          refine xt_icmp_ne 49 dX11_route_36 (by decide) (fun q => absurd (by decide) q) (fun _ => ?_)
          refine xt_aload_n _ dX11_route_39 rfl ?_
          refine xt_getr _ dX11_route_40 kfX11_41 (by first | exact sh0 | exact sh1 | exact sh137 | exact hS.1 | rfl | assumption) rfl ?_
          refine xt_geti dX11_route_43 kfX11_156 (by first | exact sh0 | exact sh1 | exact sh137 | exact hS.1 | rfl | assumption) rfl ?_
          refine xt_goto 72 dX11_route_46 (by decide) ?_
          exact xt_iret .int dX11_route_72 rfl (by first | rfl | assumption) ⟨by rw [h6s], (fun a ha => hfr2 a (by unfold x_ok at ha; omega))⟩
        · intro μ w c hf hc e hF
          refine x_K.of (by decide) (Nat.le_of_ble_eq_true rfl) ?_
          show x_T sc 29 mX12_route 0 [.ref 152, .int (nI f), .int 1] [] μ w _
          refine xt_aload_n _ dX12_route_0 rfl ?_
          refine xt_iconst (0) dX12_route_1 (by decide) ?_
          refine xt_puti dX12_route_2 kpX12_72 (by first | exact sh152 | rfl | assumption) rfl (by first | rfl | assumption) (by first | rfl | assumption) ?_
          refine xt_aload_n _ dX12_route_5 rfl ?_
          refine xt_iload_n _ dX12_route_6 rfl ?_
          refine xt_callV _ dX12_route_7 klX12_300 (tX12_hand sc _ (x_u μ 152 (upd (μ 152) 0 0)) w f c F hf hc e hF) sh152 rfl rfl (Nat.le_of_ble_eq_true rfl) (fun r1 μ1 w1 q1 => ?_)
          obtain ⟨rfl, rfl, hS, h0, hfr⟩ := q1
          change x_T _ _ _ _ _ (.int 1 :: _) _ _ _
          have e6 : μ1 152 25 = nI (F 6) := hS.1.2.2.2.2.1
          have hF1 : ∀ i, i < 125 → μ1 158 (125 * f + i) = nI (F i) := fun i hi => by rw [show μ1 158 = μ 158 from hfr 158 (by decide) (by decide) (by decide) (by decide)]; exact hF i hi
          refine xt_if_ne 16 dX12_route_10 (by decide) (fun _ => ?_) (fun q => absurd q (by decide))
          refine xt_aload_n _ dX12_route_16 rfl ?_
          refine xt_callV _ dX12_route_17 klX12_399 (tX12_layRoute sc _ μ1 w1 f F hf2 hS.1.2.1 hF1 hW e6) sh152 rfl rfl (Nat.le_of_ble_eq_true rfl) (fun r2 μ2 w2 q2 => ?_)
          obtain ⟨rfl, h44, hL, hk384, hfr2⟩ := q2
          change x_T _ _ _ _ _ _ _ _ _
          refine xt_iload_n _ dX12_route_20 rfl ?_
          refine xt_bipush (10) dX12_route_21 (by decide) ?_
          refine xt_icmp_lt 52 dX12_route_23 (by decide) (fun _ => ?_) (fun q => absurd (by decide) q)
          refine xt_iload_n _ dX12_route_52 rfl ?_
          refine xt_if_ne 75 dX12_route_53 (by decide) (fun _ => ?_) (fun q => absurd q (by decide))
          refine xt_iload_n _ dX12_route_75 rfl ?_
          refine xt_iconst (1) dX12_route_76 (by decide) ?_
          refine xt_icmp_ne 87 dX12_route_77 (by decide) (fun q => absurd (by decide) q) (fun _ => ?_)
          refine xt_aload_n _ dX12_route_80 rfl ?_
          refine xt_geti dX12_route_81 kfX12_396 (by first | exact sh152 | rfl | assumption) rfl ?_
          refine xt_goto 89 dX12_route_84 (by decide) ?_
          exact xt_iret .int dX12_route_89 rfl (by first | rfl | assumption) ⟨by rw [h44], (x_keep.tr (x_keep.hand hfr) (fun a ha => hfr2 a (by unfold x_ok at ha; omega) (by unfold x_ok at ha; omega) (by unfold x_ok at ha; omega)))⟩
      · by_cases h10 : 10 ≤ a2
        · obtain ⟨n, hn, rfl⟩ := nI_of (x := a2) (fun z => absurd (Int32.lt_of_le_of_lt h10 z) (by decide))
          have hn10 : 10 ≤ n := (nI_leI (a := 10) (by decide) hn).mp h10
          have h10s : nI n - (10 : Int32) = nI (n - 10) := pk_sub (b := 10) hn10
          by_cases hq : n - 10 < ((w_W false (F 6) (w_P false F) (w_D false F)) 0 6).2.1
          · skip
            refine ⟨nI (w_chn (w_W false (F 6) (w_P false F) (w_D false F)) (n - 10 + 1)).2, ?_, ?_⟩
            · intro μ w c hf hc e hC
              have hS := f_Sf hf2
              refine x_K.of (by decide) (Nat.le_of_ble_eq_true rfl) ?_
              show x_T sc 29 mX11_route 0 [.ref 0, .int (nI f), .int (nI n), .retAddr 0] [] μ w _
              refine xt_aload_n _ dX11_route_0 rfl ?_
              refine xt_iload_n _ dX11_route_1 rfl ?_
              refine xt_cV _ dX11_route_2 klX11_90 (tX11_fairOf sc _ μ w f c hf hc e) sh0 rfl rfl (Nat.le_of_ble_eq_true rfl) ?_
              refine xt_astore_n dX11_route_5 (by decide) rfl ?_
              change x_T _ _ _ _ [_, _, _, _] _ _ _ _
              refine xt_aload_n _ dX11_route_6 rfl ?_
              refine xt_ifnonnull_r 13 dX11_route_7 (by decide) ?_
              refine xt_aload_n _ dX11_route_13 rfl ?_
              refine xt_getr _ dX11_route_14 kfX11_41 (by first | exact sh0 | exact sh1 | exact sh137 | exact hS.1 | rfl | assumption) rfl ?_
              refine xt_aload_n _ dX11_route_17 rfl ?_
              refine xt_iconst (0) dX11_route_18 (by decide) ?_
              refine xt_callV _ dX11_route_19 klX11_149 (tX10_lay sc _ μ w (7 + 11 * f) F hS (by omega) hW hC false) sh137 rfl rfl (Nat.le_of_ble_eq_true rfl) (fun r2 μ2 w2 q2 => ?_)
              obtain ⟨rfl, h7, h6s, hR, hfr2⟩ := q2
              change x_T _ _ _ _ _ _ _ _ _
              refine xt_iload_n _ dX11_route_22 rfl ?_
              refine xt_if_ne 34 dX11_route_23 (by decide) (fun _ => ?_) (fun q => absurd q (fun z => absurd ((nI_eq (b := 0) (by omega) (by decide)).mp z) (by omega)))
              refine xt_iload_n _ dX11_route_34 rfl ?_
              refine xt_iconst (1) dX11_route_35 (by decide) ?_
              refine xt_icmp_ne 49 dX11_route_36 (by decide) (fun _ => ?_) (fun q => absurd q (fun z => absurd ((nI_eq (b := 1) (by omega) (by decide)).mp z) (by omega)))
              refine xt_aload_n _ dX11_route_49 rfl ?_
              refine xt_getr _ dX11_route_50 kfX11_41 (by first | exact sh0 | exact sh1 | exact sh137 | exact hS.1 | rfl | assumption) rfl ?_
              refine xt_iload_n _ dX11_route_53 rfl ?_
              refine xt_bipush (10) dX11_route_54 (by decide) ?_
              refine xt_icmp_ge 63 dX11_route_56 (by decide) (fun _ => ?_) (fun q => absurd h10 q)
              refine xt_iload_n _ dX11_route_63 rfl ?_
              refine xt_bipush (10) dX11_route_64 (by decide) ?_
              refine xt_isub dX11_route_66 ?_
              refine xt_bipush (-2) dX11_route_67 (by decide) ?_
              rw [h10s]
              refine xt_cV _ dX11_route_69 klX11_157 (tX10_townAt sc _ μ2 w2 ((w_W false (F 6) (w_P false F) (w_D false F)) 0 6).2.1 (fun q => (w_chn (w_W false (F 6) (w_P false F) (w_D false F)) (q + 1)).2) (by omega) h6s hR _ _) sh137 rfl rfl (Nat.le_of_ble_eq_true rfl) ?_
              exact xt_iret .int dX11_route_72 rfl (by first | rfl | assumption) ⟨by rw [if_pos ⟨Int32.not_lt.mp (nI_pos (by omega)), nI_lt hq (by omega)⟩, nI_clamp (by omega)], (fun a ha => hfr2 a (by unfold x_ok at ha; omega))⟩
            · intro μ w c hf hc e hF
              refine x_K.of (by decide) (Nat.le_of_ble_eq_true rfl) ?_
              show x_T sc 29 mX12_route 0 [.ref 152, .int (nI f), .int (nI n)] [] μ w _
              refine xt_aload_n _ dX12_route_0 rfl ?_
              refine xt_iconst (0) dX12_route_1 (by decide) ?_
              refine xt_puti dX12_route_2 kpX12_72 (by first | exact sh152 | rfl | assumption) rfl (by first | rfl | assumption) (by first | rfl | assumption) ?_
              refine xt_aload_n _ dX12_route_5 rfl ?_
              refine xt_iload_n _ dX12_route_6 rfl ?_
              refine xt_callV _ dX12_route_7 klX12_300 (tX12_hand sc _ (x_u μ 152 (upd (μ 152) 0 0)) w f c F hf hc e hF) sh152 rfl rfl (Nat.le_of_ble_eq_true rfl) (fun r1 μ1 w1 q1 => ?_)
              obtain ⟨rfl, rfl, hS, h0, hfr⟩ := q1
              change x_T _ _ _ _ _ (.int 1 :: _) _ _ _
              have e6 : μ1 152 25 = nI (F 6) := hS.1.2.2.2.2.1
              have hF1 : ∀ i, i < 125 → μ1 158 (125 * f + i) = nI (F i) := fun i hi => by rw [show μ1 158 = μ 158 from hfr 158 (by decide) (by decide) (by decide) (by decide)]; exact hF i hi
              refine xt_if_ne 16 dX12_route_10 (by decide) (fun _ => ?_) (fun q => absurd q (by decide))
              refine xt_aload_n _ dX12_route_16 rfl ?_
              refine xt_callV _ dX12_route_17 klX12_399 (tX12_layRoute sc _ μ1 w1 f F hf2 hS.1.2.1 hF1 hW e6) sh152 rfl rfl (Nat.le_of_ble_eq_true rfl) (fun r2 μ2 w2 q2 => ?_)
              obtain ⟨rfl, h44, hL, hk384, hfr2⟩ := q2
              change x_T _ _ _ _ _ _ _ _ _
              refine xt_iload_n _ dX12_route_20 rfl ?_
              refine xt_bipush (10) dX12_route_21 (by decide) ?_
              refine xt_icmp_lt 52 dX12_route_23 (by decide) (fun q => absurd q (Int32.not_lt.mpr h10)) (fun _ => ?_)
              refine xt_iload_n _ dX12_route_26 rfl ?_
              refine xt_bipush (10) dX12_route_27 (by decide) ?_
              refine xt_isub dX12_route_29 ?_
              refine xt_aload_n _ dX12_route_30 rfl ?_
              refine xt_geti dX12_route_31 kfX12_396 (by first | exact sh152 | rfl | assumption) rfl ?_
              refine xt_icmp_ge 49 dX12_route_34 (by decide) (fun q => absurd q (by rw [h44, h10s]; exact nI_ge hq (by omega))) (fun _ => ?_)
              refine xt_aload_n _ dX12_route_37 rfl ?_
              refine xt_getr _ dX12_route_38 kfX12_56 (by first | exact sh152 | rfl | assumption) rfl ?_
              refine xt_iload_n _ dX12_route_41 rfl ?_
              refine xt_bipush (10) dX12_route_42 (by decide) ?_
              refine xt_isub dX12_route_44 ?_
              refine xt_ald dX12_route_45 (by first | exact sh152 | rfl | assumption) (by rw [h10s]; exact vp_in_nI (by omega) (by decide)) ?_
              refine xt_goto 51 dX12_route_46 (by decide) ?_
              exact xt_iret .int dX12_route_51 rfl (by first | rfl | assumption) ⟨by rw [h10s, nI_clamp (by omega), hL _ hq], (x_keep.tr (x_keep.hand hfr) (fun a ha => hfr2 a (by unfold x_ok at ha; omega) (by unfold x_ok at ha; omega) (by unfold x_ok at ha; omega)))⟩
          · skip
            refine ⟨-2, ?_, ?_⟩
            · intro μ w c hf hc e hC
              have hS := f_Sf hf2
              refine x_K.of (by decide) (Nat.le_of_ble_eq_true rfl) ?_
              show x_T sc 29 mX11_route 0 [.ref 0, .int (nI f), .int (nI n), .retAddr 0] [] μ w _
              refine xt_aload_n _ dX11_route_0 rfl ?_
              refine xt_iload_n _ dX11_route_1 rfl ?_
              refine xt_cV _ dX11_route_2 klX11_90 (tX11_fairOf sc _ μ w f c hf hc e) sh0 rfl rfl (Nat.le_of_ble_eq_true rfl) ?_
              refine xt_astore_n dX11_route_5 (by decide) rfl ?_
              change x_T _ _ _ _ [_, _, _, _] _ _ _ _
              refine xt_aload_n _ dX11_route_6 rfl ?_
              refine xt_ifnonnull_r 13 dX11_route_7 (by decide) ?_
              refine xt_aload_n _ dX11_route_13 rfl ?_
              refine xt_getr _ dX11_route_14 kfX11_41 (by first | exact sh0 | exact sh1 | exact sh137 | exact hS.1 | rfl | assumption) rfl ?_
              refine xt_aload_n _ dX11_route_17 rfl ?_
              refine xt_iconst (0) dX11_route_18 (by decide) ?_
              refine xt_callV _ dX11_route_19 klX11_149 (tX10_lay sc _ μ w (7 + 11 * f) F hS (by omega) hW hC false) sh137 rfl rfl (Nat.le_of_ble_eq_true rfl) (fun r2 μ2 w2 q2 => ?_)
              obtain ⟨rfl, h7, h6s, hR, hfr2⟩ := q2
              change x_T _ _ _ _ _ _ _ _ _
              refine xt_iload_n _ dX11_route_22 rfl ?_
              refine xt_if_ne 34 dX11_route_23 (by decide) (fun _ => ?_) (fun q => absurd q (fun z => absurd ((nI_eq (b := 0) (by omega) (by decide)).mp z) (by omega)))
              refine xt_iload_n _ dX11_route_34 rfl ?_
              refine xt_iconst (1) dX11_route_35 (by decide) ?_
              refine xt_icmp_ne 49 dX11_route_36 (by decide) (fun _ => ?_) (fun q => absurd q (fun z => absurd ((nI_eq (b := 1) (by omega) (by decide)).mp z) (by omega)))
              refine xt_aload_n _ dX11_route_49 rfl ?_
              refine xt_getr _ dX11_route_50 kfX11_41 (by first | exact sh0 | exact sh1 | exact sh137 | exact hS.1 | rfl | assumption) rfl ?_
              refine xt_iload_n _ dX11_route_53 rfl ?_
              refine xt_bipush (10) dX11_route_54 (by decide) ?_
              refine xt_icmp_ge 63 dX11_route_56 (by decide) (fun _ => ?_) (fun q => absurd h10 q)
              refine xt_iload_n _ dX11_route_63 rfl ?_
              refine xt_bipush (10) dX11_route_64 (by decide) ?_
              refine xt_isub dX11_route_66 ?_
              refine xt_bipush (-2) dX11_route_67 (by decide) ?_
              rw [h10s]
              refine xt_cV _ dX11_route_69 klX11_157 (tX10_townAt sc _ μ2 w2 ((w_W false (F 6) (w_P false F) (w_D false F)) 0 6).2.1 (fun q => (w_chn (w_W false (F 6) (w_P false F) (w_D false F)) (q + 1)).2) (by omega) h6s hR _ _) sh137 rfl rfl (Nat.le_of_ble_eq_true rfl) ?_
              exact xt_iret .int dX11_route_72 rfl (by first | rfl | assumption) ⟨by rw [if_neg (fun z => hq ((nI_ltI (by omega) (by omega)).mp z.2))], (fun a ha => hfr2 a (by unfold x_ok at ha; omega))⟩
            · intro μ w c hf hc e hF
              refine x_K.of (by decide) (Nat.le_of_ble_eq_true rfl) ?_
              show x_T sc 29 mX12_route 0 [.ref 152, .int (nI f), .int (nI n)] [] μ w _
              refine xt_aload_n _ dX12_route_0 rfl ?_
              refine xt_iconst (0) dX12_route_1 (by decide) ?_
              refine xt_puti dX12_route_2 kpX12_72 (by first | exact sh152 | rfl | assumption) rfl (by first | rfl | assumption) (by first | rfl | assumption) ?_
              refine xt_aload_n _ dX12_route_5 rfl ?_
              refine xt_iload_n _ dX12_route_6 rfl ?_
              refine xt_callV _ dX12_route_7 klX12_300 (tX12_hand sc _ (x_u μ 152 (upd (μ 152) 0 0)) w f c F hf hc e hF) sh152 rfl rfl (Nat.le_of_ble_eq_true rfl) (fun r1 μ1 w1 q1 => ?_)
              obtain ⟨rfl, rfl, hS, h0, hfr⟩ := q1
              change x_T _ _ _ _ _ (.int 1 :: _) _ _ _
              have e6 : μ1 152 25 = nI (F 6) := hS.1.2.2.2.2.1
              have hF1 : ∀ i, i < 125 → μ1 158 (125 * f + i) = nI (F i) := fun i hi => by rw [show μ1 158 = μ 158 from hfr 158 (by decide) (by decide) (by decide) (by decide)]; exact hF i hi
              refine xt_if_ne 16 dX12_route_10 (by decide) (fun _ => ?_) (fun q => absurd q (by decide))
              refine xt_aload_n _ dX12_route_16 rfl ?_
              refine xt_callV _ dX12_route_17 klX12_399 (tX12_layRoute sc _ μ1 w1 f F hf2 hS.1.2.1 hF1 hW e6) sh152 rfl rfl (Nat.le_of_ble_eq_true rfl) (fun r2 μ2 w2 q2 => ?_)
              obtain ⟨rfl, h44, hL, hk384, hfr2⟩ := q2
              change x_T _ _ _ _ _ _ _ _ _
              refine xt_iload_n _ dX12_route_20 rfl ?_
              refine xt_bipush (10) dX12_route_21 (by decide) ?_
              refine xt_icmp_lt 52 dX12_route_23 (by decide) (fun q => absurd q (Int32.not_lt.mpr h10)) (fun _ => ?_)
              refine xt_iload_n _ dX12_route_26 rfl ?_
              refine xt_bipush (10) dX12_route_27 (by decide) ?_
              refine xt_isub dX12_route_29 ?_
              refine xt_aload_n _ dX12_route_30 rfl ?_
              refine xt_geti dX12_route_31 kfX12_396 (by first | exact sh152 | rfl | assumption) rfl ?_
              refine xt_icmp_ge 49 dX12_route_34 (by decide) (fun _ => ?_) (fun q => absurd (by rw [h44, h10s]; exact nI_le (by omega) (by omega)) q)
              refine xt_bipush (-2) dX12_route_49 (by decide) ?_
              exact xt_iret .int dX12_route_51 rfl (by first | rfl | assumption) ⟨rfl, (x_keep.tr (x_keep.hand hfr) (fun a ha => hfr2 a (by unfold x_ok at ha; omega) (by unfold x_ok at ha; omega) (by unfold x_ok at ha; omega)))⟩
        · skip
          refine ⟨-2, ?_, ?_⟩
          · intro μ w c hf hc e hC
            have hS := f_Sf hf2
            refine x_K.of (by decide) (Nat.le_of_ble_eq_true rfl) ?_
            show x_T sc 29 mX11_route 0 [.ref 0, .int (nI f), .int a2, .retAddr 0] [] μ w _
            refine xt_aload_n _ dX11_route_0 rfl ?_
            refine xt_iload_n _ dX11_route_1 rfl ?_
            refine xt_cV _ dX11_route_2 klX11_90 (tX11_fairOf sc _ μ w f c hf hc e) sh0 rfl rfl (Nat.le_of_ble_eq_true rfl) ?_
            refine xt_astore_n dX11_route_5 (by decide) rfl ?_
            change x_T _ _ _ _ [_, _, _, _] _ _ _ _
            refine xt_aload_n _ dX11_route_6 rfl ?_
            refine xt_ifnonnull_r 13 dX11_route_7 (by decide) ?_
            refine xt_aload_n _ dX11_route_13 rfl ?_
            refine xt_getr _ dX11_route_14 kfX11_41 (by first | exact sh0 | exact sh1 | exact sh137 | exact hS.1 | rfl | assumption) rfl ?_
            refine xt_aload_n _ dX11_route_17 rfl ?_
            refine xt_iconst (0) dX11_route_18 (by decide) ?_
            refine xt_callV _ dX11_route_19 klX11_149 (tX10_lay sc _ μ w (7 + 11 * f) F hS (by omega) hW hC false) sh137 rfl rfl (Nat.le_of_ble_eq_true rfl) (fun r2 μ2 w2 q2 => ?_)
            obtain ⟨rfl, h7, h6s, hR, hfr2⟩ := q2
            change x_T _ _ _ _ _ _ _ _ _
            refine xt_iload_n _ dX11_route_22 rfl ?_
            refine xt_if_ne 34 dX11_route_23 (by decide) (fun _ => ?_) (fun q => absurd q hz0)
            refine xt_iload_n _ dX11_route_34 rfl ?_
            refine xt_iconst (1) dX11_route_35 (by decide) ?_
            refine xt_icmp_ne 49 dX11_route_36 (by decide) (fun _ => ?_) (fun q => absurd q hz1)
            refine xt_aload_n _ dX11_route_49 rfl ?_
            refine xt_getr _ dX11_route_50 kfX11_41 (by first | exact sh0 | exact sh1 | exact sh137 | exact hS.1 | rfl | assumption) rfl ?_
            refine xt_iload_n _ dX11_route_53 rfl ?_
            refine xt_bipush (10) dX11_route_54 (by decide) ?_
            refine xt_icmp_ge 63 dX11_route_56 (by decide) (fun q => absurd q h10) (fun _ => ?_)
            refine xt_iconst (-1) dX11_route_59 (by decide) ?_
            refine xt_goto 67 dX11_route_60 (by decide) ?_
            refine xt_bipush (-2) dX11_route_67 (by decide) ?_
            refine xt_cV _ dX11_route_69 klX11_157 (tX10_townAt sc _ μ2 w2 ((w_W false (F 6) (w_P false F) (w_D false F)) 0 6).2.1 (fun q => (w_chn (w_W false (F 6) (w_P false F) (w_D false F)) (q + 1)).2) (by omega) h6s hR _ _) sh137 rfl rfl (Nat.le_of_ble_eq_true rfl) ?_
            exact xt_iret .int dX11_route_72 rfl (by first | rfl | assumption) ⟨by rw [if_neg (fun z => absurd z.1 (by decide))], (fun a ha => hfr2 a (by unfold x_ok at ha; omega))⟩
          · intro μ w c hf hc e hF
            refine x_K.of (by decide) (Nat.le_of_ble_eq_true rfl) ?_
            show x_T sc 29 mX12_route 0 [.ref 152, .int (nI f), .int a2] [] μ w _
            refine xt_aload_n _ dX12_route_0 rfl ?_
            refine xt_iconst (0) dX12_route_1 (by decide) ?_
            refine xt_puti dX12_route_2 kpX12_72 (by first | exact sh152 | rfl | assumption) rfl (by first | rfl | assumption) (by first | rfl | assumption) ?_
            refine xt_aload_n _ dX12_route_5 rfl ?_
            refine xt_iload_n _ dX12_route_6 rfl ?_
            refine xt_callV _ dX12_route_7 klX12_300 (tX12_hand sc _ (x_u μ 152 (upd (μ 152) 0 0)) w f c F hf hc e hF) sh152 rfl rfl (Nat.le_of_ble_eq_true rfl) (fun r1 μ1 w1 q1 => ?_)
            obtain ⟨rfl, rfl, hS, h0, hfr⟩ := q1
            change x_T _ _ _ _ _ (.int 1 :: _) _ _ _
            have e6 : μ1 152 25 = nI (F 6) := hS.1.2.2.2.2.1
            have hF1 : ∀ i, i < 125 → μ1 158 (125 * f + i) = nI (F i) := fun i hi => by rw [show μ1 158 = μ 158 from hfr 158 (by decide) (by decide) (by decide) (by decide)]; exact hF i hi
            refine xt_if_ne 16 dX12_route_10 (by decide) (fun _ => ?_) (fun q => absurd q (by decide))
            refine xt_aload_n _ dX12_route_16 rfl ?_
            refine xt_callV _ dX12_route_17 klX12_399 (tX12_layRoute sc _ μ1 w1 f F hf2 hS.1.2.1 hF1 hW e6) sh152 rfl rfl (Nat.le_of_ble_eq_true rfl) (fun r2 μ2 w2 q2 => ?_)
            obtain ⟨rfl, h44, hL, hk384, hfr2⟩ := q2
            change x_T _ _ _ _ _ _ _ _ _
            refine xt_iload_n _ dX12_route_20 rfl ?_
            refine xt_bipush (10) dX12_route_21 (by decide) ?_
            refine xt_icmp_lt 52 dX12_route_23 (by decide) (fun _ => ?_) (fun q => absurd (Int32.not_le.mp h10) q)
            refine xt_iload_n _ dX12_route_52 rfl ?_
            refine xt_if_ne 75 dX12_route_53 (by decide) (fun _ => ?_) (fun q => absurd q hz0)
            refine xt_iload_n _ dX12_route_75 rfl ?_
            refine xt_iconst (1) dX12_route_76 (by decide) ?_
            refine xt_icmp_ne 87 dX12_route_77 (by decide) (fun _ => ?_) (fun q => absurd q hz1)
            refine xt_bipush (-2) dX12_route_87 (by decide) ?_
            exact xt_iret .int dX12_route_89 rfl (by first | rfl | assumption) ⟨rfl, (x_keep.tr (x_keep.hand hfr) (fun a ha => hfr2 a (by unfold x_ok at ha; omega) (by unfold x_ok at ha; omega) (by unfold x_ok at ha; omega)))⟩
