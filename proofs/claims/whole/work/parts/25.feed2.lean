/-! the step of feed, whole -/
def s_feed (t : Nat → Int32) (n : Nat) : List Int32 → Nat → Int32
  | [] => t
  | v :: vs => s_feed (s_app t n v 4) (n + 4) vs
theorem s_feed_fit {n : Nat} : ∀ {vs : List Int32} {t : Nat → Int32} {n : Nat}, (∀ i, i < 600 → fits .byte (.int (t i)) = true) → ∀ i, i < 600 → fits .byte (.int (s_feed t n vs i)) = true
  | [], _, _, h => h
  | v :: vs, t, n, h => by rw [s_feed]; exact s_feed_fit (n := n) (s_app_fit h 4)
theorem s_feed_hi : ∀ {vs : List Int32} {t : Nat → Int32} {n i : Nat}, n + 4 * vs.length ≤ i → s_feed t n vs i = t i
  | [], _, _, _, _ => rfl
  | v :: vs, t, n, i, h => by
    rw [List.length_cons] at h
    rw [s_feed, s_feed_hi (by omega), s_app_hi (by omega)]
theorem s_feed_cg : ∀ {vs : List Int32} {t t' : Nat → Int32} {n i : Nat}, i < n + 4 * vs.length → (∀ i, i < n → t i = t' i) → s_feed t n vs i = s_feed t' n vs i
  | [], t, t', n, i, h, hc => hc i (by simpa using h)
  | v :: vs, t, t', n, i, h, hc => by
    rw [List.length_cons] at h
    rw [s_feed, s_feed]
    exact s_feed_cg (by omega) (fun i hi => s_app_cg hi (hc i))
section FEED2
variable (sc : Nat × (Nat → Int32)) (d : Nat) (μ : x_Me) (w : Int64)
set_option maxHeartbeats 1000000 in
theorem tX11_feed (n : Nat) (hn : n + 20 ≤ 600) (e : μ 1 1 = nI n) (a1 a2 a3 a4 a5 : Int32) : x_K sc (d + 1) mX11_feed [.ref 0, .int a1, .int a2, .int a3, .int a4, .int a5] μ w (fun r μ' _ => r = some (.int (nI (n + 20))) ∧ μ' 1 1 = nI (n + 20) ∧ (∀ i, i ≠ 1 → μ' 1 i = μ 1 i) ∧ μ' 2 = s_feed (μ 2) n [a1, a2, a3, a4, a5] ∧ ∀ a, a ≠ 1 → a ≠ 2 → μ' a = μ a) := by
  refine x_K.of (by decide) (Nat.le_of_ble_eq_true rfl) ?_
  show x_T sc (d + 1) mX11_feed 0 [.ref 0, .int a1, .int a2, .int a3, .int a4, .int a5] [] μ w _
  refine xt_aload_n _ dX11_feed_0 rfl ?_
  refine xt_getr _ dX11_feed_1 kfX11_10 (by first | exact sh0 | exact sh1 | rfl | assumption) rfl ?_
  refine xt_geti dX11_feed_4 kfX11_59 (by first | exact sh0 | exact sh1 | rfl | assumption) rfl ?_
  refine xt_bipush (20) dX11_feed_7 (by decide) ?_
  refine xt_iadd dX11_feed_9 ?_
  refine xt_sipush (600) dX11_feed_10 (by decide) ?_
  refine xt_icmp_le 18 dX11_feed_13 (by decide) (fun _ => ?_) (fun q => absurd (by rw [e, show (20 : Int32) = nI 20 from rfl, nI_add]; exact nI_le (b := 600) hn (by decide)) q)
  refine xt_aload_n _ dX11_feed_18 rfl ?_
  refine xt_getr _ dX11_feed_19 kfX11_10 (by first | exact sh0 | exact sh1 | rfl | assumption) rfl ?_
  refine xt_iload_n _ dX11_feed_22 rfl ?_
  refine xt_callV _ dX11_feed_23 klX11_63 (tX9_put sc _ μ _ (n + 0) a1 (by omega) e) sh1 rfl rfl (Nat.le_of_ble_eq_true rfl) (fun r1 μ1 w1 q => ?_)
  obtain ⟨rfl, rfl, h1⟩ := q
  change x_T _ _ _ _ _ [] _ _ _
  refine xt_aload_n _ dX11_feed_26 rfl ?_
  refine xt_getr _ dX11_feed_27 kfX11_10 (by first | exact sh0 | exact sh1 | rfl | assumption) rfl ?_
  refine xt_iload_n _ dX11_feed_30 rfl ?_
  refine xt_callV _ dX11_feed_31 klX11_63 (tX9_put sc _ μ1 _ (n + 4) a2 (by omega) h1.1) sh1 rfl rfl (Nat.le_of_ble_eq_true rfl) (fun r1 μ2 w2 q => ?_)
  obtain ⟨rfl, rfl, h2⟩ := q
  change x_T _ _ _ _ _ [] _ _ _
  refine xt_aload_n _ dX11_feed_34 rfl ?_
  refine xt_getr _ dX11_feed_35 kfX11_10 (by first | exact sh0 | exact sh1 | rfl | assumption) rfl ?_
  refine xt_iload_n _ dX11_feed_38 rfl ?_
  refine xt_callV _ dX11_feed_39 klX11_63 (tX9_put sc _ μ2 _ (n + 8) a3 (by omega) h2.1) sh1 rfl rfl (Nat.le_of_ble_eq_true rfl) (fun r1 μ3 w3 q => ?_)
  obtain ⟨rfl, rfl, h3⟩ := q
  change x_T _ _ _ _ _ [] _ _ _
  refine xt_aload_n _ dX11_feed_42 rfl ?_
  refine xt_getr _ dX11_feed_43 kfX11_10 (by first | exact sh0 | exact sh1 | rfl | assumption) rfl ?_
  refine xt_iload _ dX11_feed_46 rfl ?_
  refine xt_callV _ dX11_feed_48 klX11_63 (tX9_put sc _ μ3 _ (n + 12) a4 (by omega) h3.1) sh1 rfl rfl (Nat.le_of_ble_eq_true rfl) (fun r1 μ4 w4 q => ?_)
  obtain ⟨rfl, rfl, h4⟩ := q
  change x_T _ _ _ _ _ [] _ _ _
  refine xt_aload_n _ dX11_feed_51 rfl ?_
  refine xt_getr _ dX11_feed_52 kfX11_10 (by first | exact sh0 | exact sh1 | rfl | assumption) rfl ?_
  refine xt_iload _ dX11_feed_55 rfl ?_
  refine xt_callV _ dX11_feed_57 klX11_63 (tX9_put sc _ μ4 _ (n + 16) a5 (by omega) h4.1) sh1 rfl rfl (Nat.le_of_ble_eq_true rfl) (fun r1 μ5 w5 q => ?_)
  obtain ⟨rfl, rfl, h5⟩ := q
  change x_T _ _ _ _ _ [] _ _ _
  refine xt_aload_n _ dX11_feed_60 rfl ?_
  refine xt_getr _ dX11_feed_61 kfX11_10 (by first | exact sh0 | exact sh1 | rfl | assumption) rfl ?_
  refine xt_geti dX11_feed_64 kfX11_59 (by first | exact sh0 | exact sh1 | rfl | assumption) rfl ?_
  exact xt_iret .int dX11_feed_67 rfl (by first | rfl | assumption) ⟨by rw [h5.1], h5.1, fun i hi => by rw [h5.2.1 i hi, h4.2.1 i hi, h3.2.1 i hi, h2.2.1 i hi, h1.2.1 i hi], by rw [h5.2.2.1, h4.2.2.1, h3.2.2.1, h2.2.2.1, h1.2.2.1]; rfl, fun a z1 z2 => by rw [h5.2.2.2 a z1 z2, h4.2.2.2 a z1 z2, h3.2.2.2 a z1 z2, h2.2.2.2 a z1 z2, h1.2.2.2 a z1 z2]⟩
set_option maxHeartbeats 1000000 in
theorem tX12_feed (n : Nat) (hn : n + 20 ≤ 600) (e : μ 154 0 = nI n) (a1 a2 a3 a4 a5 : Int32) : x_K sc (d + 1) mX12_feed [.ref 152, .int a1, .int a2, .int a3, .int a4, .int a5] μ w (fun r μ' _ => r = some (.int (nI (n + 20))) ∧ μ' 154 0 = nI (n + 20) ∧ (∀ i, i ≠ 0 → μ' 154 i = μ 154 i) ∧ μ' 153 = s_feed (μ 153) n [a1, a2, a3, a4, a5] ∧ ∀ a, a ≠ 152 → a ≠ 153 → a ≠ 154 → μ' a = μ a) := by
  refine x_K.of (by decide) (Nat.le_of_ble_eq_true rfl) ?_
  show x_T sc (d + 1) mX12_feed 0 [.ref 152, .int a1, .int a2, .int a3, .int a4, .int a5] [] μ w _
  refine xt_aload_n _ dX12_feed_0 rfl ?_
  refine xt_iconst (0) dX12_feed_1 (by decide) ?_
  refine xt_puti dX12_feed_2 kpX12_72 (by first | exact sh152 | rfl | assumption) rfl (by first | rfl | assumption) (by first | rfl | assumption) ?_
  refine xt_aload_n _ dX12_feed_5 rfl ?_
  refine xt_getr _ dX12_feed_6 kfX12_13 (by first | exact sh152 | rfl | assumption) rfl ?_
  refine xt_iconst (0) dX12_feed_9 (by decide) ?_
  refine xt_ald dX12_feed_10 (by first | exact sh152 | rfl | assumption) (by unfold vp_in; decide) ?_
  refine xt_bipush (20) dX12_feed_11 (by decide) ?_
  refine xt_iadd dX12_feed_13 ?_
  refine xt_sipush (600) dX12_feed_14 (by decide) ?_
  refine xt_icmp_le 22 dX12_feed_17 (by decide) (fun _ => ?_) (fun q => absurd (by show μ 154 0 + 20 ≤ 600; rw [e, show (20 : Int32) = nI 20 from rfl, nI_add]; exact nI_le (b := 600) hn (by decide)) q)
  refine xt_aload_n _ dX12_feed_22 rfl ?_
  refine xt_iload_n _ dX12_feed_23 rfl ?_
  refine xt_callV _ dX12_feed_24 klX12_88 (tX12_four sc _ (x_u μ 152 (upd (μ 152) 0 0)) _ (n + 0) a1 (by omega) e) sh152 rfl rfl (Nat.le_of_ble_eq_true rfl) (fun r1 μ1 w1 q => ?_)
  obtain ⟨rfl, rfl, h1⟩ := q
  change x_T _ _ _ _ _ [] _ _ _
  refine xt_aload_n _ dX12_feed_27 rfl ?_
  refine xt_iload_n _ dX12_feed_28 rfl ?_
  refine xt_callV _ dX12_feed_29 klX12_88 (tX12_four sc _ μ1 _ (n + 4) a2 (by omega) h1.1) sh152 rfl rfl (Nat.le_of_ble_eq_true rfl) (fun r1 μ2 w2 q => ?_)
  obtain ⟨rfl, rfl, h2⟩ := q
  change x_T _ _ _ _ _ [] _ _ _
  refine xt_aload_n _ dX12_feed_32 rfl ?_
  refine xt_iload_n _ dX12_feed_33 rfl ?_
  refine xt_callV _ dX12_feed_34 klX12_88 (tX12_four sc _ μ2 _ (n + 8) a3 (by omega) h2.1) sh152 rfl rfl (Nat.le_of_ble_eq_true rfl) (fun r1 μ3 w3 q => ?_)
  obtain ⟨rfl, rfl, h3⟩ := q
  change x_T _ _ _ _ _ [] _ _ _
  refine xt_aload_n _ dX12_feed_37 rfl ?_
  refine xt_iload _ dX12_feed_38 rfl ?_
  refine xt_callV _ dX12_feed_40 klX12_88 (tX12_four sc _ μ3 _ (n + 12) a4 (by omega) h3.1) sh152 rfl rfl (Nat.le_of_ble_eq_true rfl) (fun r1 μ4 w4 q => ?_)
  obtain ⟨rfl, rfl, h4⟩ := q
  change x_T _ _ _ _ _ [] _ _ _
  refine xt_aload_n _ dX12_feed_43 rfl ?_
  refine xt_iload _ dX12_feed_44 rfl ?_
  refine xt_callV _ dX12_feed_46 klX12_88 (tX12_four sc _ μ4 _ (n + 16) a5 (by omega) h4.1) sh152 rfl rfl (Nat.le_of_ble_eq_true rfl) (fun r1 μ5 w5 q => ?_)
  obtain ⟨rfl, rfl, h5⟩ := q
  change x_T _ _ _ _ _ [] _ _ _
  refine xt_aload_n _ dX12_feed_49 rfl ?_
  refine xt_getr _ dX12_feed_50 kfX12_13 (by first | exact sh152 | rfl | assumption) rfl ?_
  refine xt_iconst (0) dX12_feed_53 (by decide) ?_
  refine xt_ald dX12_feed_54 (by first | exact sh152 | rfl | assumption) (by unfold vp_in; decide) ?_
  exact xt_iret .int dX12_feed_55 rfl (by first | rfl | assumption) ⟨by rw [show (0 : Int32).toNatClampNeg = 0 by decide, h5.1], h5.1, fun i hi => by rw [h5.2.1 i hi, h4.2.1 i hi, h3.2.1 i hi, h2.2.1 i hi, h1.2.1 i hi, x_u_ne (by decide)], by rw [h5.2.2.1, h4.2.2.1, h3.2.2.1, h2.2.2.1, h1.2.2.1]; rfl, fun a z0 z1 z2 => by rw [h5.2.2.2 a z1 z2, h4.2.2.2 a z1 z2, h3.2.2.2 a z1 z2, h2.2.2.2 a z1 z2, h1.2.2.2 a z1 z2, x_u_ne z0]⟩
end FEED2
set_option maxHeartbeats 1000000 in
theorem st_feed (sc : Nat × (Nat → Int32)) (a1 a2 a3 a4 a5 : Int32) : x_stI sc (fun μ _ => x_Inv μ) (fun μ _ => x_Inv μ) mX11_feed mX12_feed [.int a1, .int a2, .int a3, .int a4, .int a5] := by
  intro μ w hI
  obtain ⟨⟨n, n1, n2, n3, n4⟩, i2, i3, i4, -⟩ := id hI.2.1
  have n2 : μ 1 1 = nI n := n2
  have n3 : μ 154 0 = nI n := n3
  by_cases hr : n + 20 ≤ 600
  · refine (tX11_feed sc 28 μ w n hr n2 a1 a2 a3 a4 a5).mono (fun r μ1 w1 q => ⟨_, q.1, ?_⟩)
    obtain ⟨-, p1, p2, p3, p4⟩ := q
    refine (tX12_feed sc 28 μ1 w1 n hr (by rw [p4 154 (by decide) (by decide)]; exact n3) a1 a2 a3 a4 a5).mono (fun r2 μ2 w2 q2 => ⟨q2.1, ?_⟩)
    obtain ⟨-, g1, g2, g3, g4⟩ := q2
    have c1 : μ2 1 = μ1 1 := g4 1 (by decide) (by decide) (by decide)
    have c2 : μ2 2 = μ1 2 := g4 2 (by decide) (by decide) (by decide)
    have c5 : μ2 155 = μ 155 := (g4 155 (by decide) (by decide) (by decide)).trans (p4 155 (by decide) (by decide))
    have c6 : μ2 156 = μ 156 := (g4 156 (by decide) (by decide) (by decide)).trans (p4 156 (by decide) (by decide))
    refine hI.head ?_ ?_ ?_ ⟨⟨n + 20, hr, ?_, g1, ?_⟩, ?_, ?_, ?_⟩
    · intro a ha h1 h2 h3 h4 h5 h6
      have : a ≠ 152 := by unfold x_ok at ha; omega
      rw [g4 a this h3 h4, p4 a h1 h2]
    · intro i hi
      rw [g3, s_feed_hi (by show n + 20 ≤ i; omega), p4 153 (by decide) (by decide)]
    · intro q hq
      rw [c5, c6, g2 q (by omega), p4 154 (by decide) (by decide)]
      exact ⟨rfl, rfl, rfl⟩
    · show μ2 1 1 = nI (n + 20)
      rw [c1]; exact p1
    · intro i hi
      show μ2 2 i = μ2 153 (600 * 0 + i)
      rw [c2, p3, g3, Nat.mul_zero, Nat.zero_add, p4 153 (by decide) (by decide)]
      exact s_feed_cg hi (fun i hi => by have := n4 i hi; rw [Nat.mul_zero, Nat.zero_add] at this; exact this)
    · show ∀ i, i < 600 → fits .byte (.int (μ2 2 i)) = true
      rw [c2, p3]
      exact s_feed_fit (n := n) i2
    · show μ2 1 2 = μ2 155 0
      rw [c1, c5, p2 2 (by decide)]; exact i3
    · show μ2 1 3 = μ2 156 0
      rw [c1, c6, p2 3 (by decide)]; exact i4
  · have hlt : ¬ nI n + 20 ≤ 600 := by
      rw [show (20 : Int32) = nI 20 from rfl, show (600 : Int32) = nI 600 from rfl, nI_add, nI_leI (by omega) (by decide)]; exact hr
    have hC : x_K sc 29 mX11_feed [.ref 0, .int a1, .int a2, .int a3, .int a4, .int a5] μ w (x_p (some (.int (-1))) μ w) := by
      refine x_K.of (by decide) (Nat.le_of_ble_eq_true rfl) ?_
      show x_T sc 29 mX11_feed 0 [.ref 0, .int a1, .int a2, .int a3, .int a4, .int a5] [] μ w _
      refine xt_aload_n _ dX11_feed_0 rfl ?_
      refine xt_getr _ dX11_feed_1 kfX11_10 (by first | exact sh0 | exact sh1 | rfl | assumption) rfl ?_
      refine xt_geti dX11_feed_4 kfX11_59 (by first | exact sh0 | exact sh1 | rfl | assumption) rfl ?_
      refine xt_bipush (20) dX11_feed_7 (by decide) ?_
      refine xt_iadd dX11_feed_9 ?_
      refine xt_sipush (600) dX11_feed_10 (by decide) ?_
      refine xt_icmp_le 18 dX11_feed_13 (by decide) (fun q => absurd q (by rw [n2]; exact hlt)) (fun _ => ?_)
      refine xt_iconst (-1) dX11_feed_16 (by decide) ?_
      exact xt_iret .int dX11_feed_17 rfl (by first | rfl | assumption) ⟨rfl, rfl, rfl⟩
    have hM : ∀ w1, x_K sc 29 mX12_feed [.ref 152, .int a1, .int a2, .int a3, .int a4, .int a5] μ w1 (fun r μ' _ => r = some (.int (-1)) ∧ x_keep μ μ') := by
      intro w1
      refine x_K.of (by decide) (Nat.le_of_ble_eq_true rfl) ?_
      show x_T sc 29 mX12_feed 0 [.ref 152, .int a1, .int a2, .int a3, .int a4, .int a5] [] μ w1 _
      refine xt_aload_n _ dX12_feed_0 rfl ?_
      refine xt_iconst (0) dX12_feed_1 (by decide) ?_
      refine xt_puti dX12_feed_2 kpX12_72 (by first | exact sh152 | rfl | assumption) rfl (by first | rfl | assumption) (by first | rfl | assumption) ?_
      refine xt_aload_n _ dX12_feed_5 rfl ?_
      refine xt_getr _ dX12_feed_6 kfX12_13 (by first | exact sh152 | rfl | assumption) rfl ?_
      refine xt_iconst (0) dX12_feed_9 (by decide) ?_
      refine xt_ald dX12_feed_10 (by first | exact sh152 | rfl | assumption) (by unfold vp_in; decide) ?_
      refine xt_bipush (20) dX12_feed_11 (by decide) ?_
      refine xt_iadd dX12_feed_13 ?_
      refine xt_sipush (600) dX12_feed_14 (by decide) ?_
      refine xt_icmp_le 22 dX12_feed_17 (by decide) (fun q => absurd q (by show ¬ μ 154 0 + 20 ≤ 600; rw [n3]; exact hlt)) (fun _ => ?_)
      refine xt_iconst (-1) dX12_feed_20 (by decide) ?_
      exact xt_iret .int dX12_feed_21 rfl (by first | rfl | assumption) ⟨rfl, (x_keep.u (x_keep.rf μ) (by unfold x_ok; omega))⟩
    refine hC.mono (fun r μ1 w1 q => ⟨-1, q.1, ?_⟩)
    obtain ⟨-, rfl, rfl⟩ := q
    exact (hM _).mono (fun r2 μ2 w2 q2 => ⟨q2.1, hI.keep q2.2⟩)
