/-! texts: both sides of the step -/
def t_C (μ : x_Me) (s f : Nat) (G : Nat → Nat) : Prop := g_W s G ∧ (s = 0 → f_C μ (7 + 11 * f) G) ∧ (s = 1 → μ (13 + 11 * f) 0 = nI (G 0) ∧ ∀ i, i < 4 * G 0 → μ (14 + 11 * f) i = eI (G (1 + i))) ∧ (s = 2 → μ (15 + 11 * f) 0 = nI (G 0) ∧ μ (15 + 11 * f) 1 = nI (G 1) ∧ ∀ k, k < G 1 → μ (16 + 11 * f) k = nI (G (2 + 2 * k)) ∧ μ (17 + 11 * f) k = nI (G (3 + 2 * k)))
theorem f_C.cp {μ μ' : x_Me} {k k' : Nat} {F : Nat → Nat} (hW : f_W F) (hc : c_F μ k μ' k') (h : f_C μ k F) : f_C μ' k' F := by
  obtain ⟨⟨w0, w1, w2, w3, w4, w5, w6⟩, _⟩ := hW
  obtain ⟨e0, e1, e2, e3, e4, e5⟩ := hc
  obtain ⟨c0, c1, c2, c3, c4, c5⟩ := h
  exact ⟨fun j hj => by rw [e0 j hj]; exact c0 j hj, fun m hm j hj => by rw [e1 _ (by omega)]; exact c1 m hm j hj, fun m hm j hj => by rw [e2 _ (by omega)]; exact c2 m hm j hj, fun i hi => by rw [e3 i hi]; exact c3 i hi, fun m hm j hj => by rw [e4 _ (by omega)]; exact c4 m hm j hj, fun m hm j hj => by rw [e5 _ (by omega)]; exact c5 m hm j hj⟩
theorem s_flt4 (T : Nat → Nat) (L s : Nat) : (s_flt T L s).1 ≤ 4 := by
  unfold s_flt
  have h := s_rr4 T L s
  split
  · show 1 ≤ 4; decide
  · split
    · exact h
    · split
      · exact Nat.le_refl 4
      · exact Nat.zero_le 4
section TEXTS
variable (sc : Nat × (Nat → Int32)) (d : Nat) (μ : x_Me) (w : Int64)
set_option maxHeartbeats 1000000 in
theorem tX11_textN (n : Nat) (hn : n ≤ 600) (e1 : μ 1 1 = nI n) (hfit : ∀ i, i < 600 → fits .byte (.int (μ 2 i)) = true) (a1 a2 : Int32) (hnum : ∀ d, x_D sc (d + 2) mX9_numberFor [.ref 1, .int a1, .int a2] μ w (some (.int (-1))) μ w) : x_K sc (d + 28) mX11_text [.ref 0, .int a1, .int a2] μ w (fun r μ' _ => r = some (.int (-2)) ∧ μ' 1 1 = 0 ∧ μ' 1 2 = 0 ∧ μ' 1 3 = -1 ∧ ∀ a, a ≠ 1 → (a < 115 ∨ 129 ≤ a) → μ' a = μ a) := by
  refine x_K.of (by decide) (Nat.le_of_ble_eq_true rfl) ?_
  show x_T sc (d + 28) mX11_text 0 [.ref 0, .int a1, .int a2, .retAddr 0] [] μ w _
  refine xt_aload_n _ dX11_text_0 rfl ?_
  refine xt_getr _ dX11_text_1 kfX11_10 (by first | exact sh0 | exact sh1 | exact sh115 | exact sh152 | rfl | assumption) rfl ?_
  refine xt_iload_n _ dX11_text_4 rfl ?_
  refine xt_iload_n _ dX11_text_5 rfl ?_
  refine xt_cV _ dX11_text_6 klX11_67 (hnum _) sh1 rfl rfl (Nat.le_of_ble_eq_true rfl) ?_
  refine xt_istore_n dX11_text_9 (by decide) rfl ?_
  change x_T _ _ _ _ [_, _, _, _] _ _ _ _
  refine xt_aload_n _ dX11_text_10 rfl ?_
  refine xt_getr _ dX11_text_11 kfX11_27 (by first | exact sh0 | exact sh1 | exact sh115 | exact sh152 | rfl | assumption) rfl ?_
  refine xt_aload_n _ dX11_text_14 rfl ?_
  refine xt_getr _ dX11_text_15 kfX11_10 (by first | exact sh0 | exact sh1 | exact sh115 | exact sh152 | rfl | assumption) rfl ?_
  refine xt_callV _ dX11_text_18 klX11_71 (tX6_takeTape sc _ μ w n hn e1 hfit) sh115 rfl rfl (Nat.le_of_ble_eq_true rfl) (fun r1 μ1 w1 q1 => ?_)
  obtain ⟨rfl, hB1, h11, hj1, hf1⟩ := q1
  change x_T _ _ _ _ _ _ _ _ _
  refine xt_iload_n _ dX11_text_21 rfl ?_
  refine xt_if_ge 44 dX11_text_22 (by decide) (fun q => absurd q (by decide)) (fun _ => ?_)
  refine xt_aload_n _ dX11_text_25 rfl ?_
  refine xt_getr _ dX11_text_26 kfX11_10 (by first | exact sh0 | exact sh1 | exact sh115 | exact sh152 | rfl | assumption) rfl ?_
  refine xt_iconst (0) dX11_text_29 (by decide) ?_
  refine xt_puti dX11_text_30 kpX11_75 (by first | exact sh0 | exact sh1 | exact sh115 | exact sh152 | rfl | assumption) rfl (by first | rfl | assumption) (by first | rfl | assumption) ?_
  refine xt_aload_n _ dX11_text_33 rfl ?_
  refine xt_getr _ dX11_text_34 kfX11_10 (by first | exact sh0 | exact sh1 | exact sh115 | exact sh152 | rfl | assumption) rfl ?_
  refine xt_iconst (-1) dX11_text_37 (by decide) ?_
  refine xt_puti dX11_text_38 kpX11_78 (by first | exact sh0 | exact sh1 | exact sh115 | exact sh152 | rfl | assumption) rfl (by first | rfl | assumption) (by first | rfl | assumption) ?_
  refine xt_bipush (-2) dX11_text_41 (by decide) ?_
  exact xt_iret .int dX11_text_43 rfl (by first | rfl | assumption) ⟨rfl, by rw [x_u_eq, pk_un (by decide), x_u_eq, pk_un (by decide)]; exact h11, by rw [x_u_eq, pk_un (by decide), x_u_eq, pk_us], by rw [x_u_eq, pk_us], fun a h1 h2 => by rw [x_u_ne h1, x_u_ne h1]; exact hf1 a h1 (by omega) (by omega)⟩
set_option maxHeartbeats 1000000 in
theorem tX11_text00 (n : Nat) (hn : n ≤ 600) (e1 : μ 1 1 = nI n) (hfit : ∀ i, i < 600 → fits .byte (.int (μ 2 i)) = true) (c : Nat) (hc : c ≤ 2) (e3 : μ 3 0 = nI c) (a2 : Int32) (hv : (if a2 = -1 then (if c < 2 then nI c else -1) else if s_hasT c a2 = 0 then -1 else a2) = (0 : Int32)) : x_K sc (d + 28) mX11_text [.ref 0, .int 0, .int a2] μ w (fun r μ' _ => r = some (.int (if (s_flt (t_By μ n) n 0).1 = 0 then 0 else -1)) ∧ μ' 1 1 = 0 ∧ μ' 1 2 = nI (s_flt (t_By μ n) n 0).1 ∧ μ' 1 3 = (if (s_flt (t_By μ n) n 0).1 = 0 then -1 else nI (s_flt (t_By μ n) n 0).2) ∧ ((s_flt (t_By μ n) n 0).1 ≠ 0 → ∀ a, a ≠ 1 → (a < 115 ∨ 129 ≤ a) → μ' a = μ a) ∧ ((s_flt (t_By μ n) n 0).1 = 0 → t_C μ' 0 0 (s_rr (t_By μ n) n 0).2.2.2.1 ∧ μ' 3 = upd (μ 3) 0 (nI (max c 1)) ∧ ∀ a, a ≠ 1 → a ≠ 3 → (a < 7 ∨ 12 < a) → (a < 115 ∨ 129 ≤ a) → μ' a = μ a)) := by
  refine x_K.of (by decide) (Nat.le_of_ble_eq_true rfl) ?_
  show x_T sc (d + 28) mX11_text 0 [.ref 0, .int 0, .int a2, .retAddr 0] [] μ w _
  refine xt_aload_n _ dX11_text_0 rfl ?_
  refine xt_getr _ dX11_text_1 kfX11_10 (by first | exact sh0 | exact sh1 | exact sh115 | exact sh152 | rfl | assumption) rfl ?_
  refine xt_iload_n _ dX11_text_4 rfl ?_
  refine xt_iload_n _ dX11_text_5 rfl ?_
  refine xt_cV _ dX11_text_6 klX11_67 (tX9_numberFor sc _ μ w 0 c (by decide) hc e3 a2) sh1 rfl rfl (Nat.le_of_ble_eq_true rfl) ?_
  rw [hv]
  refine xt_istore_n dX11_text_9 (by decide) rfl ?_
  change x_T _ _ _ _ [_, _, _, _] _ _ _ _
  refine xt_aload_n _ dX11_text_10 rfl ?_
  refine xt_getr _ dX11_text_11 kfX11_27 (by first | exact sh0 | exact sh1 | exact sh115 | exact sh152 | rfl | assumption) rfl ?_
  refine xt_aload_n _ dX11_text_14 rfl ?_
  refine xt_getr _ dX11_text_15 kfX11_10 (by first | exact sh0 | exact sh1 | exact sh115 | exact sh152 | rfl | assumption) rfl ?_
  refine xt_callV _ dX11_text_18 klX11_71 (tX6_takeTape sc _ μ w n hn e1 hfit) sh115 rfl rfl (Nat.le_of_ble_eq_true rfl) (fun r1 μ1 w1 q1 => ?_)
  obtain ⟨rfl, hB1, h11, hj1, hf1⟩ := q1
  change x_T _ _ _ _ _ _ _ _ _
  refine xt_iload_n _ dX11_text_21 rfl ?_
  refine xt_if_ge 44 dX11_text_22 (by decide) (fun _ => ?_) (fun q => absurd (by decide) q)
  refine xt_aload_n _ dX11_text_44 rfl ?_
  refine xt_getr _ dX11_text_45 kfX11_27 (by first | exact sh0 | exact sh1 | exact sh115 | exact sh152 | rfl | assumption) rfl ?_
  refine xt_iload_n _ dX11_text_48 rfl ?_
  refine xt_callV _ dX11_text_49 klX11_81 (tX6_read sc _ μ1 w1 (t_By μ n) n 0 (by decide) hB1) sh115 rfl rfl (Nat.le_of_ble_eq_true rfl) (fun r2 μ2 w2 q2 => ?_)
  obtain ⟨rfl, h3, h4, hG, hf2⟩ := q2
  change x_T _ _ _ _ _ _ _ _ _
  refine xt_aload_n _ dX11_text_52 rfl ?_
  refine xt_getr _ dX11_text_53 kfX11_10 (by first | exact sh0 | exact sh1 | exact sh115 | exact sh152 | rfl | assumption) rfl ?_
  refine xt_aload_n _ dX11_text_56 rfl ?_
  refine xt_getr _ dX11_text_57 kfX11_27 (by first | exact sh0 | exact sh1 | exact sh115 | exact sh152 | rfl | assumption) rfl ?_
  refine xt_geti dX11_text_60 kfX11_84 (by first | exact sh0 | exact sh1 | exact sh115 | exact sh152 | rfl | assumption) rfl ?_
  refine xt_puti dX11_text_63 kpX11_75 (by first | exact sh0 | exact sh1 | exact sh115 | exact sh152 | rfl | assumption) rfl (by first | rfl | assumption) (by first | rfl | assumption) ?_
  refine xt_aload_n _ dX11_text_66 rfl ?_
  refine xt_getr _ dX11_text_67 kfX11_10 (by first | exact sh0 | exact sh1 | exact sh115 | exact sh152 | rfl | assumption) rfl ?_
  refine xt_aload_n _ dX11_text_70 rfl ?_
  refine xt_getr _ dX11_text_71 kfX11_27 (by first | exact sh0 | exact sh1 | exact sh115 | exact sh152 | rfl | assumption) rfl ?_
  refine xt_geti dX11_text_74 kfX11_85 (by first | exact sh0 | exact sh1 | exact sh115 | exact sh152 | rfl | assumption) rfl ?_
  refine xt_puti dX11_text_77 kpX11_78 (by first | exact sh0 | exact sh1 | exact sh115 | exact sh152 | rfl | assumption) rfl (by first | rfl | assumption) (by first | rfl | assumption) ?_
  obtain ⟨μ4, hμ4⟩ : ∃ ν, (x_u (x_u μ2 1 (upd (μ2 1) 2 (μ2 115 3))) 1 (upd ((x_u μ2 1 (upd (μ2 1) 2 (μ2 115 3))) 1) 3 ((x_u μ2 1 (upd (μ2 1) 2 (μ2 115 3))) 115 4))) = ν := ⟨_, rfl⟩
  change x_T _ _ _ _ _ _ (x_u (x_u μ2 1 (upd (μ2 1) 2 (μ2 115 3))) 1 (upd ((x_u μ2 1 (upd (μ2 1) 2 (μ2 115 3))) 1) 3 ((x_u μ2 1 (upd (μ2 1) 2 (μ2 115 3))) 115 4))) _ _
  rw [hμ4]
  have k3 : μ4 115 3 = nI (s_flt (t_By μ n) n 0).1 := by rw [← hμ4, x_u_ne (by decide), x_u_ne (by decide)]; exact h3
  have k11 : μ4 1 1 = 0 := by rw [← hμ4, x_u_eq, pk_un (by decide), x_u_eq, pk_un (by decide), hf2 1 (by omega)]; exact h11
  have k12 : μ4 1 2 = nI (s_flt (t_By μ n) n 0).1 := by rw [← hμ4, x_u_eq, pk_un (by decide), x_u_eq, pk_us]; exact h3
  have k13 : μ4 1 3 = (if (s_flt (t_By μ n) n 0).1 = 0 then -1 else nI (s_flt (t_By μ n) n 0).2) := by rw [← hμ4, x_u_eq, pk_us, x_u_ne (by decide)]; exact h4
  have kne : ∀ a, a ≠ 1 → μ4 a = μ2 a := fun a h => by rw [← hμ4, x_u_ne h, x_u_ne h]
  refine xt_aload_n _ dX11_text_80 rfl ?_
  refine xt_getr _ dX11_text_81 kfX11_27 (by first | exact sh0 | exact sh1 | exact sh115 | exact sh152 | rfl | assumption) rfl ?_
  refine xt_geti dX11_text_84 kfX11_84 (by first | exact sh0 | exact sh1 | exact sh115 | exact sh152 | rfl | assumption) rfl ?_
  rw [k3]
  refine xt_if_eq 92 dX11_text_87 (by decide) (fun t87 => ?_) (fun f87 => ?_)
  · have hzF : (s_flt (t_By μ n) n 0).1 = 0 := (nI_eq (b := 0) (by have := s_flt4 (t_By μ n) n 0; omega) (by decide)).mp t87
    refine xt_aload_n _ dX11_text_92 rfl ?_
    refine xt_getr _ dX11_text_93 kfX11_10 (by first | exact sh0 | exact sh1 | exact sh115 | exact sh152 | rfl | assumption) rfl ?_
    refine xt_iload_n _ dX11_text_96 rfl ?_
    refine xt_iload_n _ dX11_text_97 rfl ?_
    refine xt_aload_n _ dX11_text_98 rfl ?_
    refine xt_getr _ dX11_text_99 kfX11_27 (by first | exact sh0 | exact sh1 | exact sh115 | exact sh152 | rfl | assumption) rfl ?_
    refine xt_callV _ dX11_text_102 klX11_86 (tX9_take00 sc _ μ4 _ c hc (by rw [kne 3 (by decide), hf2 3 (by omega), hf1 3 (by decide) (by decide) (by decide)]; exact e3)) sh1 rfl rfl (Nat.le_of_ble_eq_true rfl) (fun r5 μ5 w5 q5 => ?_)
    obtain ⟨rfl, hcp, h53, hf5⟩ := q5
    change x_T _ _ _ _ _ _ _ _ _
    refine xt_iload_n _ dX11_text_105 rfl ?_
    refine xt_iret .int dX11_text_106 rfl (by first | rfl | assumption) ?_
    obtain ⟨hGC, hGW⟩ := hG hzF
    refine ⟨by rw [if_pos hzF], ?_, ?_, ?_, fun z => absurd hzF z, fun _ => ⟨⟨hGW, fun h0 => ?_, fun h1 => ?_, fun h2 => ?_⟩, ?_, fun a h1 h2 h3 h4 => ?_⟩⟩
    · rw [hf5 1 (by omega) (by decide)]; exact k11
    · rw [hf5 1 (by omega) (by decide)]; exact k12
    · rw [hf5 1 (by omega) (by decide)]; exact k13
    · exact f_C.cp hGW hcp ((hGC.1 rfl).1.cg (fun j hj => by rw [kne _ (by omega)]))
    · exact absurd h1 (by decide)
    · exact absurd h2 (by decide)
    · rw [h53, kne 3 (by decide), hf2 3 (by omega), hf1 3 (by decide) (by decide) (by decide)]
    · rw [hf5 a h3 h2, kne a h1, hf2 a (by omega)]; exact hf1 a h1 (by omega) (by omega)
  · have hzF : ¬ (s_flt (t_By μ n) n 0).1 = 0 := fun z => f87 (by rw [z]; rfl)
    refine xt_iconst (-1) dX11_text_90 (by decide) ?_
    exact xt_iret .int dX11_text_91 rfl (by first | rfl | assumption) ⟨by rw [if_neg hzF], k11, k12, k13, fun _ a h1 h2 => by rw [kne a h1, hf2 a (by omega)]; exact hf1 a h1 (by omega) (by omega), fun z => absurd z hzF⟩
set_option maxHeartbeats 1000000 in
theorem tX11_text01 (n : Nat) (hn : n ≤ 600) (e1 : μ 1 1 = nI n) (hfit : ∀ i, i < 600 → fits .byte (.int (μ 2 i)) = true) (c : Nat) (hc : c ≤ 2) (e3 : μ 3 0 = nI c) (a2 : Int32) (hv : (if a2 = -1 then (if c < 2 then nI c else -1) else if s_hasT c a2 = 0 then -1 else a2) = (1 : Int32)) : x_K sc (d + 28) mX11_text [.ref 0, .int 0, .int a2] μ w (fun r μ' _ => r = some (.int (if (s_flt (t_By μ n) n 0).1 = 0 then 1 else -1)) ∧ μ' 1 1 = 0 ∧ μ' 1 2 = nI (s_flt (t_By μ n) n 0).1 ∧ μ' 1 3 = (if (s_flt (t_By μ n) n 0).1 = 0 then -1 else nI (s_flt (t_By μ n) n 0).2) ∧ ((s_flt (t_By μ n) n 0).1 ≠ 0 → ∀ a, a ≠ 1 → (a < 115 ∨ 129 ≤ a) → μ' a = μ a) ∧ ((s_flt (t_By μ n) n 0).1 = 0 → t_C μ' 0 1 (s_rr (t_By μ n) n 0).2.2.2.1 ∧ μ' 3 = upd (μ 3) 0 (nI (max c 2)) ∧ ∀ a, a ≠ 1 → a ≠ 3 → (a < 18 ∨ 23 < a) → (a < 115 ∨ 129 ≤ a) → μ' a = μ a)) := by
  refine x_K.of (by decide) (Nat.le_of_ble_eq_true rfl) ?_
  show x_T sc (d + 28) mX11_text 0 [.ref 0, .int 0, .int a2, .retAddr 0] [] μ w _
  refine xt_aload_n _ dX11_text_0 rfl ?_
  refine xt_getr _ dX11_text_1 kfX11_10 (by first | exact sh0 | exact sh1 | exact sh115 | exact sh152 | rfl | assumption) rfl ?_
  refine xt_iload_n _ dX11_text_4 rfl ?_
  refine xt_iload_n _ dX11_text_5 rfl ?_
  refine xt_cV _ dX11_text_6 klX11_67 (tX9_numberFor sc _ μ w 0 c (by decide) hc e3 a2) sh1 rfl rfl (Nat.le_of_ble_eq_true rfl) ?_
  rw [hv]
  refine xt_istore_n dX11_text_9 (by decide) rfl ?_
  change x_T _ _ _ _ [_, _, _, _] _ _ _ _
  refine xt_aload_n _ dX11_text_10 rfl ?_
  refine xt_getr _ dX11_text_11 kfX11_27 (by first | exact sh0 | exact sh1 | exact sh115 | exact sh152 | rfl | assumption) rfl ?_
  refine xt_aload_n _ dX11_text_14 rfl ?_
  refine xt_getr _ dX11_text_15 kfX11_10 (by first | exact sh0 | exact sh1 | exact sh115 | exact sh152 | rfl | assumption) rfl ?_
  refine xt_callV _ dX11_text_18 klX11_71 (tX6_takeTape sc _ μ w n hn e1 hfit) sh115 rfl rfl (Nat.le_of_ble_eq_true rfl) (fun r1 μ1 w1 q1 => ?_)
  obtain ⟨rfl, hB1, h11, hj1, hf1⟩ := q1
  change x_T _ _ _ _ _ _ _ _ _
  refine xt_iload_n _ dX11_text_21 rfl ?_
  refine xt_if_ge 44 dX11_text_22 (by decide) (fun _ => ?_) (fun q => absurd (by decide) q)
  refine xt_aload_n _ dX11_text_44 rfl ?_
  refine xt_getr _ dX11_text_45 kfX11_27 (by first | exact sh0 | exact sh1 | exact sh115 | exact sh152 | rfl | assumption) rfl ?_
  refine xt_iload_n _ dX11_text_48 rfl ?_
  refine xt_callV _ dX11_text_49 klX11_81 (tX6_read sc _ μ1 w1 (t_By μ n) n 0 (by decide) hB1) sh115 rfl rfl (Nat.le_of_ble_eq_true rfl) (fun r2 μ2 w2 q2 => ?_)
  obtain ⟨rfl, h3, h4, hG, hf2⟩ := q2
  change x_T _ _ _ _ _ _ _ _ _
  refine xt_aload_n _ dX11_text_52 rfl ?_
  refine xt_getr _ dX11_text_53 kfX11_10 (by first | exact sh0 | exact sh1 | exact sh115 | exact sh152 | rfl | assumption) rfl ?_
  refine xt_aload_n _ dX11_text_56 rfl ?_
  refine xt_getr _ dX11_text_57 kfX11_27 (by first | exact sh0 | exact sh1 | exact sh115 | exact sh152 | rfl | assumption) rfl ?_
  refine xt_geti dX11_text_60 kfX11_84 (by first | exact sh0 | exact sh1 | exact sh115 | exact sh152 | rfl | assumption) rfl ?_
  refine xt_puti dX11_text_63 kpX11_75 (by first | exact sh0 | exact sh1 | exact sh115 | exact sh152 | rfl | assumption) rfl (by first | rfl | assumption) (by first | rfl | assumption) ?_
  refine xt_aload_n _ dX11_text_66 rfl ?_
  refine xt_getr _ dX11_text_67 kfX11_10 (by first | exact sh0 | exact sh1 | exact sh115 | exact sh152 | rfl | assumption) rfl ?_
  refine xt_aload_n _ dX11_text_70 rfl ?_
  refine xt_getr _ dX11_text_71 kfX11_27 (by first | exact sh0 | exact sh1 | exact sh115 | exact sh152 | rfl | assumption) rfl ?_
  refine xt_geti dX11_text_74 kfX11_85 (by first | exact sh0 | exact sh1 | exact sh115 | exact sh152 | rfl | assumption) rfl ?_
  refine xt_puti dX11_text_77 kpX11_78 (by first | exact sh0 | exact sh1 | exact sh115 | exact sh152 | rfl | assumption) rfl (by first | rfl | assumption) (by first | rfl | assumption) ?_
  obtain ⟨μ4, hμ4⟩ : ∃ ν, (x_u (x_u μ2 1 (upd (μ2 1) 2 (μ2 115 3))) 1 (upd ((x_u μ2 1 (upd (μ2 1) 2 (μ2 115 3))) 1) 3 ((x_u μ2 1 (upd (μ2 1) 2 (μ2 115 3))) 115 4))) = ν := ⟨_, rfl⟩
  change x_T _ _ _ _ _ _ (x_u (x_u μ2 1 (upd (μ2 1) 2 (μ2 115 3))) 1 (upd ((x_u μ2 1 (upd (μ2 1) 2 (μ2 115 3))) 1) 3 ((x_u μ2 1 (upd (μ2 1) 2 (μ2 115 3))) 115 4))) _ _
  rw [hμ4]
  have k3 : μ4 115 3 = nI (s_flt (t_By μ n) n 0).1 := by rw [← hμ4, x_u_ne (by decide), x_u_ne (by decide)]; exact h3
  have k11 : μ4 1 1 = 0 := by rw [← hμ4, x_u_eq, pk_un (by decide), x_u_eq, pk_un (by decide), hf2 1 (by omega)]; exact h11
  have k12 : μ4 1 2 = nI (s_flt (t_By μ n) n 0).1 := by rw [← hμ4, x_u_eq, pk_un (by decide), x_u_eq, pk_us]; exact h3
  have k13 : μ4 1 3 = (if (s_flt (t_By μ n) n 0).1 = 0 then -1 else nI (s_flt (t_By μ n) n 0).2) := by rw [← hμ4, x_u_eq, pk_us, x_u_ne (by decide)]; exact h4
  have kne : ∀ a, a ≠ 1 → μ4 a = μ2 a := fun a h => by rw [← hμ4, x_u_ne h, x_u_ne h]
  refine xt_aload_n _ dX11_text_80 rfl ?_
  refine xt_getr _ dX11_text_81 kfX11_27 (by first | exact sh0 | exact sh1 | exact sh115 | exact sh152 | rfl | assumption) rfl ?_
  refine xt_geti dX11_text_84 kfX11_84 (by first | exact sh0 | exact sh1 | exact sh115 | exact sh152 | rfl | assumption) rfl ?_
  rw [k3]
  refine xt_if_eq 92 dX11_text_87 (by decide) (fun t87 => ?_) (fun f87 => ?_)
  · have hzF : (s_flt (t_By μ n) n 0).1 = 0 := (nI_eq (b := 0) (by have := s_flt4 (t_By μ n) n 0; omega) (by decide)).mp t87
    refine xt_aload_n _ dX11_text_92 rfl ?_
    refine xt_getr _ dX11_text_93 kfX11_10 (by first | exact sh0 | exact sh1 | exact sh115 | exact sh152 | rfl | assumption) rfl ?_
    refine xt_iload_n _ dX11_text_96 rfl ?_
    refine xt_iload_n _ dX11_text_97 rfl ?_
    refine xt_aload_n _ dX11_text_98 rfl ?_
    refine xt_getr _ dX11_text_99 kfX11_27 (by first | exact sh0 | exact sh1 | exact sh115 | exact sh152 | rfl | assumption) rfl ?_
    refine xt_callV _ dX11_text_102 klX11_86 (tX9_take01 sc _ μ4 _ c hc (by rw [kne 3 (by decide), hf2 3 (by omega), hf1 3 (by decide) (by decide) (by decide)]; exact e3)) sh1 rfl rfl (Nat.le_of_ble_eq_true rfl) (fun r5 μ5 w5 q5 => ?_)
    obtain ⟨rfl, hcp, h53, hf5⟩ := q5
    change x_T _ _ _ _ _ _ _ _ _
    refine xt_iload_n _ dX11_text_105 rfl ?_
    refine xt_iret .int dX11_text_106 rfl (by first | rfl | assumption) ?_
    obtain ⟨hGC, hGW⟩ := hG hzF
    refine ⟨by rw [if_pos hzF], ?_, ?_, ?_, fun z => absurd hzF z, fun _ => ⟨⟨hGW, fun h0 => ?_, fun h1 => ?_, fun h2 => ?_⟩, ?_, fun a h1 h2 h3 h4 => ?_⟩⟩
    · rw [hf5 1 (by omega) (by decide)]; exact k11
    · rw [hf5 1 (by omega) (by decide)]; exact k12
    · rw [hf5 1 (by omega) (by decide)]; exact k13
    · exact f_C.cp hGW hcp ((hGC.1 rfl).1.cg (fun j hj => by rw [kne _ (by omega)]))
    · exact absurd h1 (by decide)
    · exact absurd h2 (by decide)
    · rw [h53, kne 3 (by decide), hf2 3 (by omega), hf1 3 (by decide) (by decide) (by decide)]
    · rw [hf5 a h3 h2, kne a h1, hf2 a (by omega)]; exact hf1 a h1 (by omega) (by omega)
  · have hzF : ¬ (s_flt (t_By μ n) n 0).1 = 0 := fun z => f87 (by rw [z]; rfl)
    refine xt_iconst (-1) dX11_text_90 (by decide) ?_
    exact xt_iret .int dX11_text_91 rfl (by first | rfl | assumption) ⟨by rw [if_neg hzF], k11, k12, k13, fun _ a h1 h2 => by rw [kne a h1, hf2 a (by omega)]; exact hf1 a h1 (by omega) (by omega), fun z => absurd z hzF⟩
set_option maxHeartbeats 1000000 in
theorem tX11_text10 (n : Nat) (hn : n ≤ 600) (e1 : μ 1 1 = nI n) (hfit : ∀ i, i < 600 → fits .byte (.int (μ 2 i)) = true) (c : Nat) (hc : c ≤ 2) (e3 : μ 3 1 = nI c) (a2 : Int32) (hv : (if a2 = -1 then (if c < 2 then nI c else -1) else if s_hasT c a2 = 0 then -1 else a2) = (0 : Int32)) : x_K sc (d + 28) mX11_text [.ref 0, .int 1, .int a2] μ w (fun r μ' _ => r = some (.int (if (s_flt (t_By μ n) n 1).1 = 0 then 0 else -1)) ∧ μ' 1 1 = 0 ∧ μ' 1 2 = nI (s_flt (t_By μ n) n 1).1 ∧ μ' 1 3 = (if (s_flt (t_By μ n) n 1).1 = 0 then -1 else nI (s_flt (t_By μ n) n 1).2) ∧ ((s_flt (t_By μ n) n 1).1 ≠ 0 → ∀ a, a ≠ 1 → (a < 115 ∨ 129 ≤ a) → μ' a = μ a) ∧ ((s_flt (t_By μ n) n 1).1 = 0 → t_C μ' 1 0 (s_rr (t_By μ n) n 1).2.2.2.1 ∧ μ' 3 = upd (μ 3) 1 (nI (max c 1)) ∧ ∀ a, a ≠ 1 → a ≠ 3 → (a < 13 ∨ 14 < a) → (a < 115 ∨ 129 ≤ a) → μ' a = μ a)) := by
  refine x_K.of (by decide) (Nat.le_of_ble_eq_true rfl) ?_
  show x_T sc (d + 28) mX11_text 0 [.ref 0, .int 1, .int a2, .retAddr 0] [] μ w _
  refine xt_aload_n _ dX11_text_0 rfl ?_
  refine xt_getr _ dX11_text_1 kfX11_10 (by first | exact sh0 | exact sh1 | exact sh115 | exact sh152 | rfl | assumption) rfl ?_
  refine xt_iload_n _ dX11_text_4 rfl ?_
  refine xt_iload_n _ dX11_text_5 rfl ?_
  refine xt_cV _ dX11_text_6 klX11_67 (tX9_numberFor sc _ μ w 1 c (by decide) hc e3 a2) sh1 rfl rfl (Nat.le_of_ble_eq_true rfl) ?_
  rw [hv]
  refine xt_istore_n dX11_text_9 (by decide) rfl ?_
  change x_T _ _ _ _ [_, _, _, _] _ _ _ _
  refine xt_aload_n _ dX11_text_10 rfl ?_
  refine xt_getr _ dX11_text_11 kfX11_27 (by first | exact sh0 | exact sh1 | exact sh115 | exact sh152 | rfl | assumption) rfl ?_
  refine xt_aload_n _ dX11_text_14 rfl ?_
  refine xt_getr _ dX11_text_15 kfX11_10 (by first | exact sh0 | exact sh1 | exact sh115 | exact sh152 | rfl | assumption) rfl ?_
  refine xt_callV _ dX11_text_18 klX11_71 (tX6_takeTape sc _ μ w n hn e1 hfit) sh115 rfl rfl (Nat.le_of_ble_eq_true rfl) (fun r1 μ1 w1 q1 => ?_)
  obtain ⟨rfl, hB1, h11, hj1, hf1⟩ := q1
  change x_T _ _ _ _ _ _ _ _ _
  refine xt_iload_n _ dX11_text_21 rfl ?_
  refine xt_if_ge 44 dX11_text_22 (by decide) (fun _ => ?_) (fun q => absurd (by decide) q)
  refine xt_aload_n _ dX11_text_44 rfl ?_
  refine xt_getr _ dX11_text_45 kfX11_27 (by first | exact sh0 | exact sh1 | exact sh115 | exact sh152 | rfl | assumption) rfl ?_
  refine xt_iload_n _ dX11_text_48 rfl ?_
  refine xt_callV _ dX11_text_49 klX11_81 (tX6_read sc _ μ1 w1 (t_By μ n) n 1 (by decide) hB1) sh115 rfl rfl (Nat.le_of_ble_eq_true rfl) (fun r2 μ2 w2 q2 => ?_)
  obtain ⟨rfl, h3, h4, hG, hf2⟩ := q2
  change x_T _ _ _ _ _ _ _ _ _
  refine xt_aload_n _ dX11_text_52 rfl ?_
  refine xt_getr _ dX11_text_53 kfX11_10 (by first | exact sh0 | exact sh1 | exact sh115 | exact sh152 | rfl | assumption) rfl ?_
  refine xt_aload_n _ dX11_text_56 rfl ?_
  refine xt_getr _ dX11_text_57 kfX11_27 (by first | exact sh0 | exact sh1 | exact sh115 | exact sh152 | rfl | assumption) rfl ?_
  refine xt_geti dX11_text_60 kfX11_84 (by first | exact sh0 | exact sh1 | exact sh115 | exact sh152 | rfl | assumption) rfl ?_
  refine xt_puti dX11_text_63 kpX11_75 (by first | exact sh0 | exact sh1 | exact sh115 | exact sh152 | rfl | assumption) rfl (by first | rfl | assumption) (by first | rfl | assumption) ?_
  refine xt_aload_n _ dX11_text_66 rfl ?_
  refine xt_getr _ dX11_text_67 kfX11_10 (by first | exact sh0 | exact sh1 | exact sh115 | exact sh152 | rfl | assumption) rfl ?_
  refine xt_aload_n _ dX11_text_70 rfl ?_
  refine xt_getr _ dX11_text_71 kfX11_27 (by first | exact sh0 | exact sh1 | exact sh115 | exact sh152 | rfl | assumption) rfl ?_
  refine xt_geti dX11_text_74 kfX11_85 (by first | exact sh0 | exact sh1 | exact sh115 | exact sh152 | rfl | assumption) rfl ?_
  refine xt_puti dX11_text_77 kpX11_78 (by first | exact sh0 | exact sh1 | exact sh115 | exact sh152 | rfl | assumption) rfl (by first | rfl | assumption) (by first | rfl | assumption) ?_
  obtain ⟨μ4, hμ4⟩ : ∃ ν, (x_u (x_u μ2 1 (upd (μ2 1) 2 (μ2 115 3))) 1 (upd ((x_u μ2 1 (upd (μ2 1) 2 (μ2 115 3))) 1) 3 ((x_u μ2 1 (upd (μ2 1) 2 (μ2 115 3))) 115 4))) = ν := ⟨_, rfl⟩
  change x_T _ _ _ _ _ _ (x_u (x_u μ2 1 (upd (μ2 1) 2 (μ2 115 3))) 1 (upd ((x_u μ2 1 (upd (μ2 1) 2 (μ2 115 3))) 1) 3 ((x_u μ2 1 (upd (μ2 1) 2 (μ2 115 3))) 115 4))) _ _
  rw [hμ4]
  have k3 : μ4 115 3 = nI (s_flt (t_By μ n) n 1).1 := by rw [← hμ4, x_u_ne (by decide), x_u_ne (by decide)]; exact h3
  have k11 : μ4 1 1 = 0 := by rw [← hμ4, x_u_eq, pk_un (by decide), x_u_eq, pk_un (by decide), hf2 1 (by omega)]; exact h11
  have k12 : μ4 1 2 = nI (s_flt (t_By μ n) n 1).1 := by rw [← hμ4, x_u_eq, pk_un (by decide), x_u_eq, pk_us]; exact h3
  have k13 : μ4 1 3 = (if (s_flt (t_By μ n) n 1).1 = 0 then -1 else nI (s_flt (t_By μ n) n 1).2) := by rw [← hμ4, x_u_eq, pk_us, x_u_ne (by decide)]; exact h4
  have kne : ∀ a, a ≠ 1 → μ4 a = μ2 a := fun a h => by rw [← hμ4, x_u_ne h, x_u_ne h]
  refine xt_aload_n _ dX11_text_80 rfl ?_
  refine xt_getr _ dX11_text_81 kfX11_27 (by first | exact sh0 | exact sh1 | exact sh115 | exact sh152 | rfl | assumption) rfl ?_
  refine xt_geti dX11_text_84 kfX11_84 (by first | exact sh0 | exact sh1 | exact sh115 | exact sh152 | rfl | assumption) rfl ?_
  rw [k3]
  refine xt_if_eq 92 dX11_text_87 (by decide) (fun t87 => ?_) (fun f87 => ?_)
  · have hzF : (s_flt (t_By μ n) n 1).1 = 0 := (nI_eq (b := 0) (by have := s_flt4 (t_By μ n) n 1; omega) (by decide)).mp t87
    refine xt_aload_n _ dX11_text_92 rfl ?_
    refine xt_getr _ dX11_text_93 kfX11_10 (by first | exact sh0 | exact sh1 | exact sh115 | exact sh152 | rfl | assumption) rfl ?_
    refine xt_iload_n _ dX11_text_96 rfl ?_
    refine xt_iload_n _ dX11_text_97 rfl ?_
    refine xt_aload_n _ dX11_text_98 rfl ?_
    refine xt_getr _ dX11_text_99 kfX11_27 (by first | exact sh0 | exact sh1 | exact sh115 | exact sh152 | rfl | assumption) rfl ?_
    refine xt_callV _ dX11_text_102 klX11_86 (tX9_take10 sc _ μ4 _ c hc (by rw [kne 3 (by decide), hf2 3 (by omega), hf1 3 (by decide) (by decide) (by decide)]; exact e3)) sh1 rfl rfl (Nat.le_of_ble_eq_true rfl) (fun r5 μ5 w5 q5 => ?_)
    obtain ⟨rfl, hcp, h53, hf5⟩ := q5
    change x_T _ _ _ _ _ _ _ _ _
    refine xt_iload_n _ dX11_text_105 rfl ?_
    refine xt_iret .int dX11_text_106 rfl (by first | rfl | assumption) ?_
    obtain ⟨hGC, hGW⟩ := hG hzF
    refine ⟨by rw [if_pos hzF], ?_, ?_, ?_, fun z => absurd hzF z, fun _ => ⟨⟨hGW, fun h0 => ?_, fun h1 => ?_, fun h2 => ?_⟩, ?_, fun a h1 h2 h3 h4 => ?_⟩⟩
    · rw [hf5 1 (by omega) (by decide)]; exact k11
    · rw [hf5 1 (by omega) (by decide)]; exact k12
    · rw [hf5 1 (by omega) (by decide)]; exact k13
    · exact absurd h0 (by decide)
    · refine ⟨hcp.1.trans (by rw [kne _ (by decide)]; exact (hGC.2.2.1 rfl).1), fun i hi => ?_⟩
      have hw : (s_rr (t_By μ n) n 1).2.2.2.1 0 ≤ 40 := (show gd_W (s_rr (t_By μ n) n 1).2.2.2.1 from hGW).1
      exact (hcp.2 i (by omega)).trans (by rw [kne _ (by decide)]; exact (hGC.2.2.1 rfl).2 i hi)
    · exact absurd h2 (by decide)
    · rw [h53, kne 3 (by decide), hf2 3 (by omega), hf1 3 (by decide) (by decide) (by decide)]
    · rw [hf5 a h3 h2, kne a h1, hf2 a (by omega)]; exact hf1 a h1 (by omega) (by omega)
  · have hzF : ¬ (s_flt (t_By μ n) n 1).1 = 0 := fun z => f87 (by rw [z]; rfl)
    refine xt_iconst (-1) dX11_text_90 (by decide) ?_
    exact xt_iret .int dX11_text_91 rfl (by first | rfl | assumption) ⟨by rw [if_neg hzF], k11, k12, k13, fun _ a h1 h2 => by rw [kne a h1, hf2 a (by omega)]; exact hf1 a h1 (by omega) (by omega), fun z => absurd z hzF⟩
set_option maxHeartbeats 1000000 in
theorem tX11_text11 (n : Nat) (hn : n ≤ 600) (e1 : μ 1 1 = nI n) (hfit : ∀ i, i < 600 → fits .byte (.int (μ 2 i)) = true) (c : Nat) (hc : c ≤ 2) (e3 : μ 3 1 = nI c) (a2 : Int32) (hv : (if a2 = -1 then (if c < 2 then nI c else -1) else if s_hasT c a2 = 0 then -1 else a2) = (1 : Int32)) : x_K sc (d + 28) mX11_text [.ref 0, .int 1, .int a2] μ w (fun r μ' _ => r = some (.int (if (s_flt (t_By μ n) n 1).1 = 0 then 1 else -1)) ∧ μ' 1 1 = 0 ∧ μ' 1 2 = nI (s_flt (t_By μ n) n 1).1 ∧ μ' 1 3 = (if (s_flt (t_By μ n) n 1).1 = 0 then -1 else nI (s_flt (t_By μ n) n 1).2) ∧ ((s_flt (t_By μ n) n 1).1 ≠ 0 → ∀ a, a ≠ 1 → (a < 115 ∨ 129 ≤ a) → μ' a = μ a) ∧ ((s_flt (t_By μ n) n 1).1 = 0 → t_C μ' 1 1 (s_rr (t_By μ n) n 1).2.2.2.1 ∧ μ' 3 = upd (μ 3) 1 (nI (max c 2)) ∧ ∀ a, a ≠ 1 → a ≠ 3 → (a < 24 ∨ 25 < a) → (a < 115 ∨ 129 ≤ a) → μ' a = μ a)) := by
  refine x_K.of (by decide) (Nat.le_of_ble_eq_true rfl) ?_
  show x_T sc (d + 28) mX11_text 0 [.ref 0, .int 1, .int a2, .retAddr 0] [] μ w _
  refine xt_aload_n _ dX11_text_0 rfl ?_
  refine xt_getr _ dX11_text_1 kfX11_10 (by first | exact sh0 | exact sh1 | exact sh115 | exact sh152 | rfl | assumption) rfl ?_
  refine xt_iload_n _ dX11_text_4 rfl ?_
  refine xt_iload_n _ dX11_text_5 rfl ?_
  refine xt_cV _ dX11_text_6 klX11_67 (tX9_numberFor sc _ μ w 1 c (by decide) hc e3 a2) sh1 rfl rfl (Nat.le_of_ble_eq_true rfl) ?_
  rw [hv]
  refine xt_istore_n dX11_text_9 (by decide) rfl ?_
  change x_T _ _ _ _ [_, _, _, _] _ _ _ _
  refine xt_aload_n _ dX11_text_10 rfl ?_
  refine xt_getr _ dX11_text_11 kfX11_27 (by first | exact sh0 | exact sh1 | exact sh115 | exact sh152 | rfl | assumption) rfl ?_
  refine xt_aload_n _ dX11_text_14 rfl ?_
  refine xt_getr _ dX11_text_15 kfX11_10 (by first | exact sh0 | exact sh1 | exact sh115 | exact sh152 | rfl | assumption) rfl ?_
  refine xt_callV _ dX11_text_18 klX11_71 (tX6_takeTape sc _ μ w n hn e1 hfit) sh115 rfl rfl (Nat.le_of_ble_eq_true rfl) (fun r1 μ1 w1 q1 => ?_)
  obtain ⟨rfl, hB1, h11, hj1, hf1⟩ := q1
  change x_T _ _ _ _ _ _ _ _ _
  refine xt_iload_n _ dX11_text_21 rfl ?_
  refine xt_if_ge 44 dX11_text_22 (by decide) (fun _ => ?_) (fun q => absurd (by decide) q)
  refine xt_aload_n _ dX11_text_44 rfl ?_
  refine xt_getr _ dX11_text_45 kfX11_27 (by first | exact sh0 | exact sh1 | exact sh115 | exact sh152 | rfl | assumption) rfl ?_
  refine xt_iload_n _ dX11_text_48 rfl ?_
  refine xt_callV _ dX11_text_49 klX11_81 (tX6_read sc _ μ1 w1 (t_By μ n) n 1 (by decide) hB1) sh115 rfl rfl (Nat.le_of_ble_eq_true rfl) (fun r2 μ2 w2 q2 => ?_)
  obtain ⟨rfl, h3, h4, hG, hf2⟩ := q2
  change x_T _ _ _ _ _ _ _ _ _
  refine xt_aload_n _ dX11_text_52 rfl ?_
  refine xt_getr _ dX11_text_53 kfX11_10 (by first | exact sh0 | exact sh1 | exact sh115 | exact sh152 | rfl | assumption) rfl ?_
  refine xt_aload_n _ dX11_text_56 rfl ?_
  refine xt_getr _ dX11_text_57 kfX11_27 (by first | exact sh0 | exact sh1 | exact sh115 | exact sh152 | rfl | assumption) rfl ?_
  refine xt_geti dX11_text_60 kfX11_84 (by first | exact sh0 | exact sh1 | exact sh115 | exact sh152 | rfl | assumption) rfl ?_
  refine xt_puti dX11_text_63 kpX11_75 (by first | exact sh0 | exact sh1 | exact sh115 | exact sh152 | rfl | assumption) rfl (by first | rfl | assumption) (by first | rfl | assumption) ?_
  refine xt_aload_n _ dX11_text_66 rfl ?_
  refine xt_getr _ dX11_text_67 kfX11_10 (by first | exact sh0 | exact sh1 | exact sh115 | exact sh152 | rfl | assumption) rfl ?_
  refine xt_aload_n _ dX11_text_70 rfl ?_
  refine xt_getr _ dX11_text_71 kfX11_27 (by first | exact sh0 | exact sh1 | exact sh115 | exact sh152 | rfl | assumption) rfl ?_
  refine xt_geti dX11_text_74 kfX11_85 (by first | exact sh0 | exact sh1 | exact sh115 | exact sh152 | rfl | assumption) rfl ?_
  refine xt_puti dX11_text_77 kpX11_78 (by first | exact sh0 | exact sh1 | exact sh115 | exact sh152 | rfl | assumption) rfl (by first | rfl | assumption) (by first | rfl | assumption) ?_
  obtain ⟨μ4, hμ4⟩ : ∃ ν, (x_u (x_u μ2 1 (upd (μ2 1) 2 (μ2 115 3))) 1 (upd ((x_u μ2 1 (upd (μ2 1) 2 (μ2 115 3))) 1) 3 ((x_u μ2 1 (upd (μ2 1) 2 (μ2 115 3))) 115 4))) = ν := ⟨_, rfl⟩
  change x_T _ _ _ _ _ _ (x_u (x_u μ2 1 (upd (μ2 1) 2 (μ2 115 3))) 1 (upd ((x_u μ2 1 (upd (μ2 1) 2 (μ2 115 3))) 1) 3 ((x_u μ2 1 (upd (μ2 1) 2 (μ2 115 3))) 115 4))) _ _
  rw [hμ4]
  have k3 : μ4 115 3 = nI (s_flt (t_By μ n) n 1).1 := by rw [← hμ4, x_u_ne (by decide), x_u_ne (by decide)]; exact h3
  have k11 : μ4 1 1 = 0 := by rw [← hμ4, x_u_eq, pk_un (by decide), x_u_eq, pk_un (by decide), hf2 1 (by omega)]; exact h11
  have k12 : μ4 1 2 = nI (s_flt (t_By μ n) n 1).1 := by rw [← hμ4, x_u_eq, pk_un (by decide), x_u_eq, pk_us]; exact h3
  have k13 : μ4 1 3 = (if (s_flt (t_By μ n) n 1).1 = 0 then -1 else nI (s_flt (t_By μ n) n 1).2) := by rw [← hμ4, x_u_eq, pk_us, x_u_ne (by decide)]; exact h4
  have kne : ∀ a, a ≠ 1 → μ4 a = μ2 a := fun a h => by rw [← hμ4, x_u_ne h, x_u_ne h]
  refine xt_aload_n _ dX11_text_80 rfl ?_
  refine xt_getr _ dX11_text_81 kfX11_27 (by first | exact sh0 | exact sh1 | exact sh115 | exact sh152 | rfl | assumption) rfl ?_
  refine xt_geti dX11_text_84 kfX11_84 (by first | exact sh0 | exact sh1 | exact sh115 | exact sh152 | rfl | assumption) rfl ?_
  rw [k3]
  refine xt_if_eq 92 dX11_text_87 (by decide) (fun t87 => ?_) (fun f87 => ?_)
  · have hzF : (s_flt (t_By μ n) n 1).1 = 0 := (nI_eq (b := 0) (by have := s_flt4 (t_By μ n) n 1; omega) (by decide)).mp t87
    refine xt_aload_n _ dX11_text_92 rfl ?_
    refine xt_getr _ dX11_text_93 kfX11_10 (by first | exact sh0 | exact sh1 | exact sh115 | exact sh152 | rfl | assumption) rfl ?_
    refine xt_iload_n _ dX11_text_96 rfl ?_
    refine xt_iload_n _ dX11_text_97 rfl ?_
    refine xt_aload_n _ dX11_text_98 rfl ?_
    refine xt_getr _ dX11_text_99 kfX11_27 (by first | exact sh0 | exact sh1 | exact sh115 | exact sh152 | rfl | assumption) rfl ?_
    refine xt_callV _ dX11_text_102 klX11_86 (tX9_take11 sc _ μ4 _ c hc (by rw [kne 3 (by decide), hf2 3 (by omega), hf1 3 (by decide) (by decide) (by decide)]; exact e3)) sh1 rfl rfl (Nat.le_of_ble_eq_true rfl) (fun r5 μ5 w5 q5 => ?_)
    obtain ⟨rfl, hcp, h53, hf5⟩ := q5
    change x_T _ _ _ _ _ _ _ _ _
    refine xt_iload_n _ dX11_text_105 rfl ?_
    refine xt_iret .int dX11_text_106 rfl (by first | rfl | assumption) ?_
    obtain ⟨hGC, hGW⟩ := hG hzF
    refine ⟨by rw [if_pos hzF], ?_, ?_, ?_, fun z => absurd hzF z, fun _ => ⟨⟨hGW, fun h0 => ?_, fun h1 => ?_, fun h2 => ?_⟩, ?_, fun a h1 h2 h3 h4 => ?_⟩⟩
    · rw [hf5 1 (by omega) (by decide)]; exact k11
    · rw [hf5 1 (by omega) (by decide)]; exact k12
    · rw [hf5 1 (by omega) (by decide)]; exact k13
    · exact absurd h0 (by decide)
    · refine ⟨hcp.1.trans (by rw [kne _ (by decide)]; exact (hGC.2.2.1 rfl).1), fun i hi => ?_⟩
      have hw : (s_rr (t_By μ n) n 1).2.2.2.1 0 ≤ 40 := (show gd_W (s_rr (t_By μ n) n 1).2.2.2.1 from hGW).1
      exact (hcp.2 i (by omega)).trans (by rw [kne _ (by decide)]; exact (hGC.2.2.1 rfl).2 i hi)
    · exact absurd h2 (by decide)
    · rw [h53, kne 3 (by decide), hf2 3 (by omega), hf1 3 (by decide) (by decide) (by decide)]
    · rw [hf5 a h3 h2, kne a h1, hf2 a (by omega)]; exact hf1 a h1 (by omega) (by omega)
  · have hzF : ¬ (s_flt (t_By μ n) n 1).1 = 0 := fun z => f87 (by rw [z]; rfl)
    refine xt_iconst (-1) dX11_text_90 (by decide) ?_
    exact xt_iret .int dX11_text_91 rfl (by first | rfl | assumption) ⟨by rw [if_neg hzF], k11, k12, k13, fun _ a h1 h2 => by rw [kne a h1, hf2 a (by omega)]; exact hf1 a h1 (by omega) (by omega), fun z => absurd z hzF⟩
set_option maxHeartbeats 1000000 in
theorem tX11_text20 (n : Nat) (hn : n ≤ 600) (e1 : μ 1 1 = nI n) (hfit : ∀ i, i < 600 → fits .byte (.int (μ 2 i)) = true) (c : Nat) (hc : c ≤ 2) (e3 : μ 3 2 = nI c) (a2 : Int32) (hv : (if a2 = -1 then (if c < 2 then nI c else -1) else if s_hasT c a2 = 0 then -1 else a2) = (0 : Int32)) : x_K sc (d + 28) mX11_text [.ref 0, .int 2, .int a2] μ w (fun r μ' _ => r = some (.int (if (s_flt (t_By μ n) n 2).1 = 0 then 0 else -1)) ∧ μ' 1 1 = 0 ∧ μ' 1 2 = nI (s_flt (t_By μ n) n 2).1 ∧ μ' 1 3 = (if (s_flt (t_By μ n) n 2).1 = 0 then -1 else nI (s_flt (t_By μ n) n 2).2) ∧ ((s_flt (t_By μ n) n 2).1 ≠ 0 → ∀ a, a ≠ 1 → (a < 115 ∨ 129 ≤ a) → μ' a = μ a) ∧ ((s_flt (t_By μ n) n 2).1 = 0 → t_C μ' 2 0 (s_rr (t_By μ n) n 2).2.2.2.1 ∧ μ' 3 = upd (μ 3) 2 (nI (max c 1)) ∧ ∀ a, a ≠ 1 → a ≠ 3 → (a < 15 ∨ 17 < a) → (a < 115 ∨ 129 ≤ a) → μ' a = μ a)) := by
  refine x_K.of (by decide) (Nat.le_of_ble_eq_true rfl) ?_
  show x_T sc (d + 28) mX11_text 0 [.ref 0, .int 2, .int a2, .retAddr 0] [] μ w _
  refine xt_aload_n _ dX11_text_0 rfl ?_
  refine xt_getr _ dX11_text_1 kfX11_10 (by first | exact sh0 | exact sh1 | exact sh115 | exact sh152 | rfl | assumption) rfl ?_
  refine xt_iload_n _ dX11_text_4 rfl ?_
  refine xt_iload_n _ dX11_text_5 rfl ?_
  refine xt_cV _ dX11_text_6 klX11_67 (tX9_numberFor sc _ μ w 2 c (by decide) hc e3 a2) sh1 rfl rfl (Nat.le_of_ble_eq_true rfl) ?_
  rw [hv]
  refine xt_istore_n dX11_text_9 (by decide) rfl ?_
  change x_T _ _ _ _ [_, _, _, _] _ _ _ _
  refine xt_aload_n _ dX11_text_10 rfl ?_
  refine xt_getr _ dX11_text_11 kfX11_27 (by first | exact sh0 | exact sh1 | exact sh115 | exact sh152 | rfl | assumption) rfl ?_
  refine xt_aload_n _ dX11_text_14 rfl ?_
  refine xt_getr _ dX11_text_15 kfX11_10 (by first | exact sh0 | exact sh1 | exact sh115 | exact sh152 | rfl | assumption) rfl ?_
  refine xt_callV _ dX11_text_18 klX11_71 (tX6_takeTape sc _ μ w n hn e1 hfit) sh115 rfl rfl (Nat.le_of_ble_eq_true rfl) (fun r1 μ1 w1 q1 => ?_)
  obtain ⟨rfl, hB1, h11, hj1, hf1⟩ := q1
  change x_T _ _ _ _ _ _ _ _ _
  refine xt_iload_n _ dX11_text_21 rfl ?_
  refine xt_if_ge 44 dX11_text_22 (by decide) (fun _ => ?_) (fun q => absurd (by decide) q)
  refine xt_aload_n _ dX11_text_44 rfl ?_
  refine xt_getr _ dX11_text_45 kfX11_27 (by first | exact sh0 | exact sh1 | exact sh115 | exact sh152 | rfl | assumption) rfl ?_
  refine xt_iload_n _ dX11_text_48 rfl ?_
  refine xt_callV _ dX11_text_49 klX11_81 (tX6_read sc _ μ1 w1 (t_By μ n) n 2 (by decide) hB1) sh115 rfl rfl (Nat.le_of_ble_eq_true rfl) (fun r2 μ2 w2 q2 => ?_)
  obtain ⟨rfl, h3, h4, hG, hf2⟩ := q2
  change x_T _ _ _ _ _ _ _ _ _
  refine xt_aload_n _ dX11_text_52 rfl ?_
  refine xt_getr _ dX11_text_53 kfX11_10 (by first | exact sh0 | exact sh1 | exact sh115 | exact sh152 | rfl | assumption) rfl ?_
  refine xt_aload_n _ dX11_text_56 rfl ?_
  refine xt_getr _ dX11_text_57 kfX11_27 (by first | exact sh0 | exact sh1 | exact sh115 | exact sh152 | rfl | assumption) rfl ?_
  refine xt_geti dX11_text_60 kfX11_84 (by first | exact sh0 | exact sh1 | exact sh115 | exact sh152 | rfl | assumption) rfl ?_
  refine xt_puti dX11_text_63 kpX11_75 (by first | exact sh0 | exact sh1 | exact sh115 | exact sh152 | rfl | assumption) rfl (by first | rfl | assumption) (by first | rfl | assumption) ?_
  refine xt_aload_n _ dX11_text_66 rfl ?_
  refine xt_getr _ dX11_text_67 kfX11_10 (by first | exact sh0 | exact sh1 | exact sh115 | exact sh152 | rfl | assumption) rfl ?_
  refine xt_aload_n _ dX11_text_70 rfl ?_
  refine xt_getr _ dX11_text_71 kfX11_27 (by first | exact sh0 | exact sh1 | exact sh115 | exact sh152 | rfl | assumption) rfl ?_
  refine xt_geti dX11_text_74 kfX11_85 (by first | exact sh0 | exact sh1 | exact sh115 | exact sh152 | rfl | assumption) rfl ?_
  refine xt_puti dX11_text_77 kpX11_78 (by first | exact sh0 | exact sh1 | exact sh115 | exact sh152 | rfl | assumption) rfl (by first | rfl | assumption) (by first | rfl | assumption) ?_
  obtain ⟨μ4, hμ4⟩ : ∃ ν, (x_u (x_u μ2 1 (upd (μ2 1) 2 (μ2 115 3))) 1 (upd ((x_u μ2 1 (upd (μ2 1) 2 (μ2 115 3))) 1) 3 ((x_u μ2 1 (upd (μ2 1) 2 (μ2 115 3))) 115 4))) = ν := ⟨_, rfl⟩
  change x_T _ _ _ _ _ _ (x_u (x_u μ2 1 (upd (μ2 1) 2 (μ2 115 3))) 1 (upd ((x_u μ2 1 (upd (μ2 1) 2 (μ2 115 3))) 1) 3 ((x_u μ2 1 (upd (μ2 1) 2 (μ2 115 3))) 115 4))) _ _
  rw [hμ4]
  have k3 : μ4 115 3 = nI (s_flt (t_By μ n) n 2).1 := by rw [← hμ4, x_u_ne (by decide), x_u_ne (by decide)]; exact h3
  have k11 : μ4 1 1 = 0 := by rw [← hμ4, x_u_eq, pk_un (by decide), x_u_eq, pk_un (by decide), hf2 1 (by omega)]; exact h11
  have k12 : μ4 1 2 = nI (s_flt (t_By μ n) n 2).1 := by rw [← hμ4, x_u_eq, pk_un (by decide), x_u_eq, pk_us]; exact h3
  have k13 : μ4 1 3 = (if (s_flt (t_By μ n) n 2).1 = 0 then -1 else nI (s_flt (t_By μ n) n 2).2) := by rw [← hμ4, x_u_eq, pk_us, x_u_ne (by decide)]; exact h4
  have kne : ∀ a, a ≠ 1 → μ4 a = μ2 a := fun a h => by rw [← hμ4, x_u_ne h, x_u_ne h]
  refine xt_aload_n _ dX11_text_80 rfl ?_
  refine xt_getr _ dX11_text_81 kfX11_27 (by first | exact sh0 | exact sh1 | exact sh115 | exact sh152 | rfl | assumption) rfl ?_
  refine xt_geti dX11_text_84 kfX11_84 (by first | exact sh0 | exact sh1 | exact sh115 | exact sh152 | rfl | assumption) rfl ?_
  rw [k3]
  refine xt_if_eq 92 dX11_text_87 (by decide) (fun t87 => ?_) (fun f87 => ?_)
  · have hzF : (s_flt (t_By μ n) n 2).1 = 0 := (nI_eq (b := 0) (by have := s_flt4 (t_By μ n) n 2; omega) (by decide)).mp t87
    refine xt_aload_n _ dX11_text_92 rfl ?_
    refine xt_getr _ dX11_text_93 kfX11_10 (by first | exact sh0 | exact sh1 | exact sh115 | exact sh152 | rfl | assumption) rfl ?_
    refine xt_iload_n _ dX11_text_96 rfl ?_
    refine xt_iload_n _ dX11_text_97 rfl ?_
    refine xt_aload_n _ dX11_text_98 rfl ?_
    refine xt_getr _ dX11_text_99 kfX11_27 (by first | exact sh0 | exact sh1 | exact sh115 | exact sh152 | rfl | assumption) rfl ?_
    refine xt_callV _ dX11_text_102 klX11_86 (tX9_take20 sc _ μ4 _ c hc (by rw [kne 3 (by decide), hf2 3 (by omega), hf1 3 (by decide) (by decide) (by decide)]; exact e3)) sh1 rfl rfl (Nat.le_of_ble_eq_true rfl) (fun r5 μ5 w5 q5 => ?_)
    obtain ⟨rfl, hcp, h53, hf5⟩ := q5
    change x_T _ _ _ _ _ _ _ _ _
    refine xt_iload_n _ dX11_text_105 rfl ?_
    refine xt_iret .int dX11_text_106 rfl (by first | rfl | assumption) ?_
    obtain ⟨hGC, hGW⟩ := hG hzF
    refine ⟨by rw [if_pos hzF], ?_, ?_, ?_, fun z => absurd hzF z, fun _ => ⟨⟨hGW, fun h0 => ?_, fun h1 => ?_, fun h2 => ?_⟩, ?_, fun a h1 h2 h3 h4 => ?_⟩⟩
    · rw [hf5 1 (by omega) (by decide)]; exact k11
    · rw [hf5 1 (by omega) (by decide)]; exact k12
    · rw [hf5 1 (by omega) (by decide)]; exact k13
    · exact absurd h0 (by decide)
    · exact absurd h1 (by decide)
    · have hw : (s_rr (t_By μ n) n 2).2.2.2.1 1 ≤ 8 := (show gl_W (s_rr (t_By μ n) n 2).2.2.2.1 from hGW).2.1
      refine ⟨hcp.1.1.trans (by rw [kne _ (by decide)]; exact (hGC.2.2.2 rfl).1), hcp.1.2.trans (by rw [kne _ (by decide)]; exact (hGC.2.2.2 rfl).2.1), fun i hi => ⟨(hcp.2.1 i (by omega)).trans (by rw [kne _ (by decide)]; exact ((hGC.2.2.2 rfl).2.2 i hi).1), (hcp.2.2 i (by omega)).trans (by rw [kne _ (by decide)]; exact ((hGC.2.2.2 rfl).2.2 i hi).2)⟩⟩
    · rw [h53, kne 3 (by decide), hf2 3 (by omega), hf1 3 (by decide) (by decide) (by decide)]
    · rw [hf5 a h3 h2, kne a h1, hf2 a (by omega)]; exact hf1 a h1 (by omega) (by omega)
  · have hzF : ¬ (s_flt (t_By μ n) n 2).1 = 0 := fun z => f87 (by rw [z]; rfl)
    refine xt_iconst (-1) dX11_text_90 (by decide) ?_
    exact xt_iret .int dX11_text_91 rfl (by first | rfl | assumption) ⟨by rw [if_neg hzF], k11, k12, k13, fun _ a h1 h2 => by rw [kne a h1, hf2 a (by omega)]; exact hf1 a h1 (by omega) (by omega), fun z => absurd z hzF⟩
set_option maxHeartbeats 1000000 in
theorem tX11_text21 (n : Nat) (hn : n ≤ 600) (e1 : μ 1 1 = nI n) (hfit : ∀ i, i < 600 → fits .byte (.int (μ 2 i)) = true) (c : Nat) (hc : c ≤ 2) (e3 : μ 3 2 = nI c) (a2 : Int32) (hv : (if a2 = -1 then (if c < 2 then nI c else -1) else if s_hasT c a2 = 0 then -1 else a2) = (1 : Int32)) : x_K sc (d + 28) mX11_text [.ref 0, .int 2, .int a2] μ w (fun r μ' _ => r = some (.int (if (s_flt (t_By μ n) n 2).1 = 0 then 1 else -1)) ∧ μ' 1 1 = 0 ∧ μ' 1 2 = nI (s_flt (t_By μ n) n 2).1 ∧ μ' 1 3 = (if (s_flt (t_By μ n) n 2).1 = 0 then -1 else nI (s_flt (t_By μ n) n 2).2) ∧ ((s_flt (t_By μ n) n 2).1 ≠ 0 → ∀ a, a ≠ 1 → (a < 115 ∨ 129 ≤ a) → μ' a = μ a) ∧ ((s_flt (t_By μ n) n 2).1 = 0 → t_C μ' 2 1 (s_rr (t_By μ n) n 2).2.2.2.1 ∧ μ' 3 = upd (μ 3) 2 (nI (max c 2)) ∧ ∀ a, a ≠ 1 → a ≠ 3 → (a < 26 ∨ 28 < a) → (a < 115 ∨ 129 ≤ a) → μ' a = μ a)) := by
  refine x_K.of (by decide) (Nat.le_of_ble_eq_true rfl) ?_
  show x_T sc (d + 28) mX11_text 0 [.ref 0, .int 2, .int a2, .retAddr 0] [] μ w _
  refine xt_aload_n _ dX11_text_0 rfl ?_
  refine xt_getr _ dX11_text_1 kfX11_10 (by first | exact sh0 | exact sh1 | exact sh115 | exact sh152 | rfl | assumption) rfl ?_
  refine xt_iload_n _ dX11_text_4 rfl ?_
  refine xt_iload_n _ dX11_text_5 rfl ?_
  refine xt_cV _ dX11_text_6 klX11_67 (tX9_numberFor sc _ μ w 2 c (by decide) hc e3 a2) sh1 rfl rfl (Nat.le_of_ble_eq_true rfl) ?_
  rw [hv]
  refine xt_istore_n dX11_text_9 (by decide) rfl ?_
  change x_T _ _ _ _ [_, _, _, _] _ _ _ _
  refine xt_aload_n _ dX11_text_10 rfl ?_
  refine xt_getr _ dX11_text_11 kfX11_27 (by first | exact sh0 | exact sh1 | exact sh115 | exact sh152 | rfl | assumption) rfl ?_
  refine xt_aload_n _ dX11_text_14 rfl ?_
  refine xt_getr _ dX11_text_15 kfX11_10 (by first | exact sh0 | exact sh1 | exact sh115 | exact sh152 | rfl | assumption) rfl ?_
  refine xt_callV _ dX11_text_18 klX11_71 (tX6_takeTape sc _ μ w n hn e1 hfit) sh115 rfl rfl (Nat.le_of_ble_eq_true rfl) (fun r1 μ1 w1 q1 => ?_)
  obtain ⟨rfl, hB1, h11, hj1, hf1⟩ := q1
  change x_T _ _ _ _ _ _ _ _ _
  refine xt_iload_n _ dX11_text_21 rfl ?_
  refine xt_if_ge 44 dX11_text_22 (by decide) (fun _ => ?_) (fun q => absurd (by decide) q)
  refine xt_aload_n _ dX11_text_44 rfl ?_
  refine xt_getr _ dX11_text_45 kfX11_27 (by first | exact sh0 | exact sh1 | exact sh115 | exact sh152 | rfl | assumption) rfl ?_
  refine xt_iload_n _ dX11_text_48 rfl ?_
  refine xt_callV _ dX11_text_49 klX11_81 (tX6_read sc _ μ1 w1 (t_By μ n) n 2 (by decide) hB1) sh115 rfl rfl (Nat.le_of_ble_eq_true rfl) (fun r2 μ2 w2 q2 => ?_)
  obtain ⟨rfl, h3, h4, hG, hf2⟩ := q2
  change x_T _ _ _ _ _ _ _ _ _
  refine xt_aload_n _ dX11_text_52 rfl ?_
  refine xt_getr _ dX11_text_53 kfX11_10 (by first | exact sh0 | exact sh1 | exact sh115 | exact sh152 | rfl | assumption) rfl ?_
  refine xt_aload_n _ dX11_text_56 rfl ?_
  refine xt_getr _ dX11_text_57 kfX11_27 (by first | exact sh0 | exact sh1 | exact sh115 | exact sh152 | rfl | assumption) rfl ?_
  refine xt_geti dX11_text_60 kfX11_84 (by first | exact sh0 | exact sh1 | exact sh115 | exact sh152 | rfl | assumption) rfl ?_
  refine xt_puti dX11_text_63 kpX11_75 (by first | exact sh0 | exact sh1 | exact sh115 | exact sh152 | rfl | assumption) rfl (by first | rfl | assumption) (by first | rfl | assumption) ?_
  refine xt_aload_n _ dX11_text_66 rfl ?_
  refine xt_getr _ dX11_text_67 kfX11_10 (by first | exact sh0 | exact sh1 | exact sh115 | exact sh152 | rfl | assumption) rfl ?_
  refine xt_aload_n _ dX11_text_70 rfl ?_
  refine xt_getr _ dX11_text_71 kfX11_27 (by first | exact sh0 | exact sh1 | exact sh115 | exact sh152 | rfl | assumption) rfl ?_
  refine xt_geti dX11_text_74 kfX11_85 (by first | exact sh0 | exact sh1 | exact sh115 | exact sh152 | rfl | assumption) rfl ?_
  refine xt_puti dX11_text_77 kpX11_78 (by first | exact sh0 | exact sh1 | exact sh115 | exact sh152 | rfl | assumption) rfl (by first | rfl | assumption) (by first | rfl | assumption) ?_
  obtain ⟨μ4, hμ4⟩ : ∃ ν, (x_u (x_u μ2 1 (upd (μ2 1) 2 (μ2 115 3))) 1 (upd ((x_u μ2 1 (upd (μ2 1) 2 (μ2 115 3))) 1) 3 ((x_u μ2 1 (upd (μ2 1) 2 (μ2 115 3))) 115 4))) = ν := ⟨_, rfl⟩
  change x_T _ _ _ _ _ _ (x_u (x_u μ2 1 (upd (μ2 1) 2 (μ2 115 3))) 1 (upd ((x_u μ2 1 (upd (μ2 1) 2 (μ2 115 3))) 1) 3 ((x_u μ2 1 (upd (μ2 1) 2 (μ2 115 3))) 115 4))) _ _
  rw [hμ4]
  have k3 : μ4 115 3 = nI (s_flt (t_By μ n) n 2).1 := by rw [← hμ4, x_u_ne (by decide), x_u_ne (by decide)]; exact h3
  have k11 : μ4 1 1 = 0 := by rw [← hμ4, x_u_eq, pk_un (by decide), x_u_eq, pk_un (by decide), hf2 1 (by omega)]; exact h11
  have k12 : μ4 1 2 = nI (s_flt (t_By μ n) n 2).1 := by rw [← hμ4, x_u_eq, pk_un (by decide), x_u_eq, pk_us]; exact h3
  have k13 : μ4 1 3 = (if (s_flt (t_By μ n) n 2).1 = 0 then -1 else nI (s_flt (t_By μ n) n 2).2) := by rw [← hμ4, x_u_eq, pk_us, x_u_ne (by decide)]; exact h4
  have kne : ∀ a, a ≠ 1 → μ4 a = μ2 a := fun a h => by rw [← hμ4, x_u_ne h, x_u_ne h]
  refine xt_aload_n _ dX11_text_80 rfl ?_
  refine xt_getr _ dX11_text_81 kfX11_27 (by first | exact sh0 | exact sh1 | exact sh115 | exact sh152 | rfl | assumption) rfl ?_
  refine xt_geti dX11_text_84 kfX11_84 (by first | exact sh0 | exact sh1 | exact sh115 | exact sh152 | rfl | assumption) rfl ?_
  rw [k3]
  refine xt_if_eq 92 dX11_text_87 (by decide) (fun t87 => ?_) (fun f87 => ?_)
  · have hzF : (s_flt (t_By μ n) n 2).1 = 0 := (nI_eq (b := 0) (by have := s_flt4 (t_By μ n) n 2; omega) (by decide)).mp t87
    refine xt_aload_n _ dX11_text_92 rfl ?_
    refine xt_getr _ dX11_text_93 kfX11_10 (by first | exact sh0 | exact sh1 | exact sh115 | exact sh152 | rfl | assumption) rfl ?_
    refine xt_iload_n _ dX11_text_96 rfl ?_
    refine xt_iload_n _ dX11_text_97 rfl ?_
    refine xt_aload_n _ dX11_text_98 rfl ?_
    refine xt_getr _ dX11_text_99 kfX11_27 (by first | exact sh0 | exact sh1 | exact sh115 | exact sh152 | rfl | assumption) rfl ?_
    refine xt_callV _ dX11_text_102 klX11_86 (tX9_take21 sc _ μ4 _ c hc (by rw [kne 3 (by decide), hf2 3 (by omega), hf1 3 (by decide) (by decide) (by decide)]; exact e3)) sh1 rfl rfl (Nat.le_of_ble_eq_true rfl) (fun r5 μ5 w5 q5 => ?_)
    obtain ⟨rfl, hcp, h53, hf5⟩ := q5
    change x_T _ _ _ _ _ _ _ _ _
    refine xt_iload_n _ dX11_text_105 rfl ?_
    refine xt_iret .int dX11_text_106 rfl (by first | rfl | assumption) ?_
    obtain ⟨hGC, hGW⟩ := hG hzF
    refine ⟨by rw [if_pos hzF], ?_, ?_, ?_, fun z => absurd hzF z, fun _ => ⟨⟨hGW, fun h0 => ?_, fun h1 => ?_, fun h2 => ?_⟩, ?_, fun a h1 h2 h3 h4 => ?_⟩⟩
    · rw [hf5 1 (by omega) (by decide)]; exact k11
    · rw [hf5 1 (by omega) (by decide)]; exact k12
    · rw [hf5 1 (by omega) (by decide)]; exact k13
    · exact absurd h0 (by decide)
    · exact absurd h1 (by decide)
    · have hw : (s_rr (t_By μ n) n 2).2.2.2.1 1 ≤ 8 := (show gl_W (s_rr (t_By μ n) n 2).2.2.2.1 from hGW).2.1
      refine ⟨hcp.1.1.trans (by rw [kne _ (by decide)]; exact (hGC.2.2.2 rfl).1), hcp.1.2.trans (by rw [kne _ (by decide)]; exact (hGC.2.2.2 rfl).2.1), fun i hi => ⟨(hcp.2.1 i (by omega)).trans (by rw [kne _ (by decide)]; exact ((hGC.2.2.2 rfl).2.2 i hi).1), (hcp.2.2 i (by omega)).trans (by rw [kne _ (by decide)]; exact ((hGC.2.2.2 rfl).2.2 i hi).2)⟩⟩
    · rw [h53, kne 3 (by decide), hf2 3 (by omega), hf1 3 (by decide) (by decide) (by decide)]
    · rw [hf5 a h3 h2, kne a h1, hf2 a (by omega)]; exact hf1 a h1 (by omega) (by omega)
  · have hzF : ¬ (s_flt (t_By μ n) n 2).1 = 0 := fun z => f87 (by rw [z]; rfl)
    refine xt_iconst (-1) dX11_text_90 (by decide) ?_
    exact xt_iret .int dX11_text_91 rfl (by first | rfl | assumption) ⟨by rw [if_neg hzF], k11, k12, k13, fun _ a h1 h2 => by rw [kne a h1, hf2 a (by omega)]; exact hf1 a h1 (by omega) (by omega), fun z => absurd z hzF⟩
set_option maxHeartbeats 1000000 in
theorem tX12_text00A (n : Nat) (T : Nat → Nat) (hn : n ≤ 600) (e154 : μ 154 0 = nI n) (hT : ∀ i, i < n → μ 153 i &&& 255 = nI (T i) ∧ T i < 256) (hT0 : ∀ i, n ≤ i → T i = 0) (e157 : μ 157 0 = nI 0) : x_K sc (d + 8) mX12_text [.ref 152, .int 0, .int (-1)] μ w (fun r μ' _ => r = some (.int (if (s_flt T n 0).1 = 0 then 0 else -1)) ∧ μ' 154 0 = 0 ∧ μ' 155 0 = nI (s_flt T n 0).1 ∧ μ' 156 0 = (if (s_flt T n 0).1 = 0 then -1 else nI (s_flt T n 0).2) ∧ (∀ j, j ≠ 0 → μ' 154 j = μ 154 j ∧ μ' 155 j = μ 155 j ∧ μ' 156 j = μ 156 j) ∧ ((s_flt T n 0).1 ≠ 0 → ∀ a, a ≠ 152 → a ≠ 154 → a ≠ 155 → a ≠ 156 → a ≠ 161 → a ≠ 162 → μ' a = μ a) ∧ ((s_flt T n 0).1 = 0 → (∀ i, i < 125 → μ' 158 (125 * 0 + i) = s_tv 0 i ((s_rr T n 0).2.2.2.1 i)) ∧ (∀ j, j < 125 * 0 ∨ 125 * 0 + 125 ≤ j → μ' 158 j = μ 158 j) ∧ μ' 157 = upd (μ 157) 0 (nI 1) ∧ ∀ a, a ≠ 152 → a ≠ 154 → a ≠ 155 → a ≠ 156 → a ≠ 157 → a ≠ 158 → a ≠ 161 → a ≠ 162 → μ' a = μ a)) := by
  refine x_K.of (by decide) (Nat.le_of_ble_eq_true rfl) ?_
  show x_T sc (d + 8) mX12_text 0 [.ref 152, .int 0, .int (-1), .retAddr 0] [] μ w _
  refine xt_aload_n _ dX12_text_0 rfl ?_
  refine xt_iconst (0) dX12_text_1 (by decide) ?_
  refine xt_puti dX12_text_2 kpX12_72 (by first | exact sh0 | exact sh1 | exact sh115 | exact sh152 | rfl | assumption) rfl (by first | rfl | assumption) (by first | rfl | assumption) ?_
  refine xt_aload_n _ dX12_text_5 rfl ?_
  refine xt_aload_n _ dX12_text_6 rfl ?_
  refine xt_getr _ dX12_text_7 kfX12_13 (by first | exact sh0 | exact sh1 | exact sh115 | exact sh152 | rfl | assumption) rfl ?_
  refine xt_iconst (0) dX12_text_10 (by decide) ?_
  refine xt_ald dX12_text_11 (by first | exact sh0 | exact sh1 | exact sh115 | exact sh152 | rfl | assumption) (by unfold vp_in; decide) ?_
  refine xt_puti dX12_text_12 kpX12_95 (by first | exact sh0 | exact sh1 | exact sh115 | exact sh152 | rfl | assumption) rfl (by first | rfl | assumption) (by first | rfl | assumption) ?_
  refine xt_aload_n _ dX12_text_15 rfl ?_
  refine xt_getr _ dX12_text_16 kfX12_13 (by first | exact sh0 | exact sh1 | exact sh115 | exact sh152 | rfl | assumption) rfl ?_
  refine xt_iconst (0) dX12_text_19 (by decide) ?_
  refine xt_iconst (0) dX12_text_20 (by decide) ?_
  refine xt_ast dX12_text_21 (by first | exact sh0 | exact sh1 | exact sh115 | exact sh152 | rfl | assumption) (by unfold vp_in; decide) ?_
  refine xt_aload_n _ dX12_text_22 rfl ?_
  refine xt_getr _ dX12_text_23 kfX12_17 (by first | exact sh0 | exact sh1 | exact sh115 | exact sh152 | rfl | assumption) rfl ?_
  refine xt_iconst (0) dX12_text_26 (by decide) ?_
  refine xt_iconst (0) dX12_text_27 (by decide) ?_
  refine xt_ast dX12_text_28 (by first | exact sh0 | exact sh1 | exact sh115 | exact sh152 | rfl | assumption) (by unfold vp_in; decide) ?_
  refine xt_aload_n _ dX12_text_29 rfl ?_
  refine xt_getr _ dX12_text_30 kfX12_20 (by first | exact sh0 | exact sh1 | exact sh115 | exact sh152 | rfl | assumption) rfl ?_
  refine xt_iconst (0) dX12_text_33 (by decide) ?_
  refine xt_iconst (-1) dX12_text_34 (by decide) ?_
  refine xt_ast dX12_text_35 (by first | exact sh0 | exact sh1 | exact sh115 | exact sh152 | rfl | assumption) (by unfold vp_in; decide) ?_
  obtain ⟨μ1, hμ1⟩ : ∃ ν, (x_u (x_u (x_u (x_u (x_u μ 152 (upd (μ 152) 0 0)) 152 (upd ((x_u μ 152 (upd (μ 152) 0 0)) 152) 10 ((x_u μ 152 (upd (μ 152) 0 0)) 154 (0 : Int32).toNatClampNeg))) 154 (upd ((x_u (x_u μ 152 (upd (μ 152) 0 0)) 152 (upd ((x_u μ 152 (upd (μ 152) 0 0)) 152) 10 ((x_u μ 152 (upd (μ 152) 0 0)) 154 (0 : Int32).toNatClampNeg))) 154) (0 : Int32).toNatClampNeg 0)) 155 (upd ((x_u (x_u (x_u μ 152 (upd (μ 152) 0 0)) 152 (upd ((x_u μ 152 (upd (μ 152) 0 0)) 152) 10 ((x_u μ 152 (upd (μ 152) 0 0)) 154 (0 : Int32).toNatClampNeg))) 154 (upd ((x_u (x_u μ 152 (upd (μ 152) 0 0)) 152 (upd ((x_u μ 152 (upd (μ 152) 0 0)) 152) 10 ((x_u μ 152 (upd (μ 152) 0 0)) 154 (0 : Int32).toNatClampNeg))) 154) (0 : Int32).toNatClampNeg 0)) 155) (0 : Int32).toNatClampNeg 0)) 156 (upd ((x_u (x_u (x_u (x_u μ 152 (upd (μ 152) 0 0)) 152 (upd ((x_u μ 152 (upd (μ 152) 0 0)) 152) 10 ((x_u μ 152 (upd (μ 152) 0 0)) 154 (0 : Int32).toNatClampNeg))) 154 (upd ((x_u (x_u μ 152 (upd (μ 152) 0 0)) 152 (upd ((x_u μ 152 (upd (μ 152) 0 0)) 152) 10 ((x_u μ 152 (upd (μ 152) 0 0)) 154 (0 : Int32).toNatClampNeg))) 154) (0 : Int32).toNatClampNeg 0)) 155 (upd ((x_u (x_u (x_u μ 152 (upd (μ 152) 0 0)) 152 (upd ((x_u μ 152 (upd (μ 152) 0 0)) 152) 10 ((x_u μ 152 (upd (μ 152) 0 0)) 154 (0 : Int32).toNatClampNeg))) 154 (upd ((x_u (x_u μ 152 (upd (μ 152) 0 0)) 152 (upd ((x_u μ 152 (upd (μ 152) 0 0)) 152) 10 ((x_u μ 152 (upd (μ 152) 0 0)) 154 (0 : Int32).toNatClampNeg))) 154) (0 : Int32).toNatClampNeg 0)) 155) (0 : Int32).toNatClampNeg 0)) 156) (0 : Int32).toNatClampNeg (-1))) = ν := ⟨_, rfl⟩
  change x_T _ _ _ _ _ _ (x_u (x_u (x_u (x_u (x_u μ 152 (upd (μ 152) 0 0)) 152 (upd ((x_u μ 152 (upd (μ 152) 0 0)) 152) 10 ((x_u μ 152 (upd (μ 152) 0 0)) 154 (0 : Int32).toNatClampNeg))) 154 (upd ((x_u (x_u μ 152 (upd (μ 152) 0 0)) 152 (upd ((x_u μ 152 (upd (μ 152) 0 0)) 152) 10 ((x_u μ 152 (upd (μ 152) 0 0)) 154 (0 : Int32).toNatClampNeg))) 154) (0 : Int32).toNatClampNeg 0)) 155 (upd ((x_u (x_u (x_u μ 152 (upd (μ 152) 0 0)) 152 (upd ((x_u μ 152 (upd (μ 152) 0 0)) 152) 10 ((x_u μ 152 (upd (μ 152) 0 0)) 154 (0 : Int32).toNatClampNeg))) 154 (upd ((x_u (x_u μ 152 (upd (μ 152) 0 0)) 152 (upd ((x_u μ 152 (upd (μ 152) 0 0)) 152) 10 ((x_u μ 152 (upd (μ 152) 0 0)) 154 (0 : Int32).toNatClampNeg))) 154) (0 : Int32).toNatClampNeg 0)) 155) (0 : Int32).toNatClampNeg 0)) 156 (upd ((x_u (x_u (x_u (x_u μ 152 (upd (μ 152) 0 0)) 152 (upd ((x_u μ 152 (upd (μ 152) 0 0)) 152) 10 ((x_u μ 152 (upd (μ 152) 0 0)) 154 (0 : Int32).toNatClampNeg))) 154 (upd ((x_u (x_u μ 152 (upd (μ 152) 0 0)) 152 (upd ((x_u μ 152 (upd (μ 152) 0 0)) 152) 10 ((x_u μ 152 (upd (μ 152) 0 0)) 154 (0 : Int32).toNatClampNeg))) 154) (0 : Int32).toNatClampNeg 0)) 155 (upd ((x_u (x_u (x_u μ 152 (upd (μ 152) 0 0)) 152 (upd ((x_u μ 152 (upd (μ 152) 0 0)) 152) 10 ((x_u μ 152 (upd (μ 152) 0 0)) 154 (0 : Int32).toNatClampNeg))) 154 (upd ((x_u (x_u μ 152 (upd (μ 152) 0 0)) 152 (upd ((x_u μ 152 (upd (μ 152) 0 0)) 152) 10 ((x_u μ 152 (upd (μ 152) 0 0)) 154 (0 : Int32).toNatClampNeg))) 154) (0 : Int32).toNatClampNeg 0)) 155) (0 : Int32).toNatClampNeg 0)) 156) (0 : Int32).toNatClampNeg (-1))) _ _
  rw [hμ1]
  have g10 : μ1 152 10 = nI n := by rw [← hμ1, x_u_ne (by decide), x_u_ne (by decide), x_u_ne (by decide), x_u_eq, pk_us, x_u_ne (by decide)]; exact e154
  have g154 : μ1 154 = upd (μ 154) 0 0 := by rw [← hμ1, x_u_ne (by decide), x_u_ne (by decide), x_u_eq, x_u_ne (by decide), x_u_ne (by decide)]; rfl
  have g155 : μ1 155 = upd (μ 155) 0 0 := by rw [← hμ1, x_u_ne (by decide), x_u_eq, x_u_ne (by decide), x_u_ne (by decide), x_u_ne (by decide)]; rfl
  have g156 : μ1 156 = upd (μ 156) 0 (-1) := by rw [← hμ1, x_u_eq, x_u_ne (by decide), x_u_ne (by decide), x_u_ne (by decide), x_u_ne (by decide)]; rfl
  have gf : ∀ a, a ≠ 152 → a ≠ 154 → a ≠ 155 → a ≠ 156 → μ1 a = μ a := fun a h1 h2 h3 h4 => by rw [← hμ1, x_u_ne h4, x_u_ne h3, x_u_ne h2, x_u_ne h1, x_u_ne h1]
  have g157 : μ1 157 0 = nI 0 := by rw [gf 157 (by decide) (by decide) (by decide) (by decide)]; exact e157
  have hB1 : m_B μ1 T n := ⟨g10, hn, by rw [gf 153 (by decide) (by decide) (by decide) (by decide)]; exact hT, hT0⟩
  refine xt_iload_n _ dX12_text_36 rfl ?_
  refine xt_iconst (0) dX12_text_37 (by decide) ?_
  refine xt_iconst (2) dX12_text_38 (by decide) ?_
  refine xt_cS _ dX12_text_39 klX12_84 (tX12_in sc _ _ _ _ _ _) rfl rfl (Nat.le_of_ble_eq_true rfl) ?_
  refine xt_if_eq 72 dX12_text_42 (by decide) (fun q => absurd q (by decide)) (fun _ => ?_)
  refine xt_iload_n _ dX12_text_45 rfl ?_
  refine xt_iconst (-1) dX12_text_46 (by decide) ?_
  refine xt_icmp_ne 63 dX12_text_47 (by decide) (fun q => absurd (by decide) q) (fun _ => ?_)
  refine xt_aload_n _ dX12_text_50 rfl ?_
  refine xt_getr _ dX12_text_51 kfX12_23 (by first | exact sh0 | exact sh1 | exact sh115 | exact sh152 | rfl | assumption) rfl ?_
  refine xt_iload_n _ dX12_text_54 rfl ?_
  refine xt_ald dX12_text_55 (by first | exact sh0 | exact sh1 | exact sh115 | exact sh152 | rfl | assumption) (by unfold vp_in; decide) ?_
  refine xt_iconst (2) dX12_text_56 (by decide) ?_
  rw [show μ1 157 (0 : Int32).toNatClampNeg = nI 0 from g157]
  refine xt_icmp_ne 75 dX12_text_57 (by decide) (fun _ => ?_) (fun q => absurd q (by decide))
  refine xt_aload_n _ dX12_text_75 rfl ?_
  refine xt_iload_n _ dX12_text_76 rfl ?_
  refine xt_callV _ dX12_text_77 klX12_234 (tX12_readText0 sc _ μ1 w T n hB1) sh152 rfl rfl (Nat.le_of_ble_eq_true rfl) (fun r2 μ2 w2 q2 => ?_)
  obtain ⟨rfl, k155, k156, kD, kj, kf⟩ := q2
  by_cases hzF : (s_flt T n 0).1 = 0
  · rw [if_pos hzF]
    change x_T _ _ _ _ _ (.int 1 :: _) _ _ _
    refine xt_if_ne 85 dX12_text_80 (by decide) (fun _ => ?_) (fun q => absurd q (by decide))
    refine xt_iload_n _ dX12_text_85 rfl ?_
    refine xt_iconst (-1) dX12_text_86 (by decide) ?_
    refine xt_icmp_ne 99 dX12_text_87 (by decide) (fun q => absurd (by decide) q) (fun _ => ?_)
    refine xt_aload_n _ dX12_text_90 rfl ?_
    refine xt_getr _ dX12_text_91 kfX12_23 (by first | exact sh0 | exact sh1 | exact sh115 | exact sh152 | rfl | assumption) rfl ?_
    refine xt_iload_n _ dX12_text_94 rfl ?_
    refine xt_ald dX12_text_95 (by first | exact sh0 | exact sh1 | exact sh115 | exact sh152 | rfl | assumption) (by unfold vp_in; decide) ?_
    refine xt_goto 100 dX12_text_96 (by decide) ?_
    rw [show μ2 157 (0 : Int32).toNatClampNeg = nI 0 from (by rw [kf 157 (by decide) (by decide) (by decide) (by decide) (by decide)]; exact g157)]
    change x_T _ _ _ _ _ (.int 0 :: _) _ _ _
    refine xt_istore_n dX12_text_100 (by decide) rfl ?_
    change x_T _ _ _ _ [_, _, _, _] _ _ _ _
    refine xt_aload_n _ dX12_text_101 rfl ?_
    refine xt_getr _ dX12_text_102 kfX12_23 (by first | exact sh0 | exact sh1 | exact sh115 | exact sh152 | rfl | assumption) rfl ?_
    refine xt_iload_n _ dX12_text_105 rfl ?_
    refine xt_dup2 dX12_text_106 rfl rfl ?_
    refine xt_ald dX12_text_107 (by first | exact sh0 | exact sh1 | exact sh115 | exact sh152 | rfl | assumption) (by unfold vp_in; decide) ?_
    refine xt_iload_n _ dX12_text_108 rfl ?_
    refine xt_iconst (-1) dX12_text_109 (by decide) ?_
    refine xt_icmp_ne 117 dX12_text_110 (by decide) (fun q => absurd (by decide) q) (fun _ => ?_)
    refine xt_iconst (1) dX12_text_113 (by decide) ?_
    refine xt_goto 118 dX12_text_114 (by decide) ?_
    refine xt_iadd dX12_text_118 ?_
    refine xt_ast dX12_text_119 (by first | exact sh0 | exact sh1 | exact sh115 | exact sh152 | rfl | assumption) (by unfold vp_in; decide) ?_
    refine xt_iload_n _ dX12_text_120 rfl ?_
    refine xt_if_ne 138 dX12_text_121 (by decide) (fun q => absurd (by decide) q) (fun _ => ?_)
    refine xt_aload_n _ dX12_text_124 rfl ?_
    refine xt_aload_n _ dX12_text_125 rfl ?_
    refine xt_getr _ dX12_text_126 kfX12_26 (by first | exact sh0 | exact sh1 | exact sh115 | exact sh152 | rfl | assumption) rfl ?_
    refine xt_bipush (125) dX12_text_129 (by decide) ?_
    refine xt_iload_n _ dX12_text_131 rfl ?_
    refine xt_callV _ dX12_text_132 klX12_237 (tX12_store sc _ (x_u μ2 157 (upd (μ2 157) (0 : Int32).toNatClampNeg (μ2 157 (0 : Int32).toNatClampNeg + 1))) _ 158 1000 125 0 rfl (by decide) (by decide) (by decide) (by decide)) sh152 rfl rfl (Nat.le_of_ble_eq_true rfl) (fun r6 μ6 w6 q6 => ?_)
    obtain ⟨rfl, s1, s2, sf⟩ := q6
    change x_T _ _ _ _ _ _ _ _ _
    refine xt_goto 169 dX12_text_135 (by decide) ?_
    refine xt_iload_n _ dX12_text_169 rfl ?_
    refine xt_iret .int dX12_text_170 rfl (by first | rfl | assumption) ?_
    have q157 : μ2 157 = μ 157 := by rw [kf 157 (by decide) (by decide) (by decide) (by decide) (by decide), gf 157 (by decide) (by decide) (by decide) (by decide)]
    refine ⟨by rw [if_pos hzF], ?_, ?_, ?_, fun j hj => ⟨?_, ?_, ?_⟩, fun z => absurd hzF z, fun _ => ⟨fun i hi => ?_, fun j hj => ?_, ?_, fun a h1 h2 h3 h4 h5 h6 h7 h8 => ?_⟩⟩
    · rw [sf 154 (by decide), x_u_ne (by decide), kf 154 (by decide) (by decide) (by decide) (by decide) (by decide), g154, pk_us]
    · rw [sf 155 (by decide), x_u_ne (by decide)]; exact k155
    · rw [sf 156 (by decide), x_u_ne (by decide)]; exact k156
    · rw [sf 154 (by decide), x_u_ne (by decide), kf 154 (by decide) (by decide) (by decide) (by decide) (by decide), g154, pk_un hj]
    · rw [sf 155 (by decide), x_u_ne (by decide), (kj j hj).1, g155, pk_un hj]
    · rw [sf 156 (by decide), x_u_ne (by decide), (kj j hj).2, g156, pk_un hj]
    · rw [s1 i hi, x_u_ne (by decide)]; exact kD hzF i (by omega)
    · rw [s2 j hj, x_u_ne (by decide), kf 158 (by decide) (by decide) (by decide) (by decide) (by decide), gf 158 (by decide) (by decide) (by decide) (by decide)]
    · rw [sf 157 (by decide), x_u_eq, q157]
      show upd (μ 157) 0 (μ 157 0 + 1) = _
      rw [e157]; rfl
    · rw [sf a h6, x_u_ne h5, kf a h1 h3 h4 h7 h8]; exact gf a h1 h2 h3 h4
  · rw [if_neg hzF]
    change x_T _ _ _ _ _ (.int 0 :: _) _ _ _
    refine xt_if_ne 85 dX12_text_80 (by decide) (fun q => absurd (by decide) q) (fun _ => ?_)
    refine xt_iconst (-1) dX12_text_83 (by decide) ?_
    refine xt_iret .int dX12_text_84 rfl (by first | rfl | assumption) ?_
    refine ⟨by rw [if_neg hzF], by rw [kf 154 (by decide) (by decide) (by decide) (by decide) (by decide), g154, pk_us], k155, k156, fun j hj => ⟨by rw [kf 154 (by decide) (by decide) (by decide) (by decide) (by decide), g154, pk_un hj], by rw [(kj j hj).1, g155, pk_un hj], by rw [(kj j hj).2, g156, pk_un hj]⟩, fun _ a h1 h2 h3 h4 h5 h6 => by rw [kf a h1 h3 h4 h5 h6]; exact gf a h1 h2 h3 h4, fun z => absurd z hzF⟩
set_option maxHeartbeats 1000000 in
theorem tX12_text00B (n : Nat) (T : Nat → Nat) (hn : n ≤ 600) (e154 : μ 154 0 = nI n) (hT : ∀ i, i < n → μ 153 i &&& 255 = nI (T i) ∧ T i < 256) (hT0 : ∀ i, n ≤ i → T i = 0) (c : Nat) (hc : c ≤ 2) (hfc : 0 < c) (e157 : μ 157 0 = nI c) : x_K sc (d + 8) mX12_text [.ref 152, .int 0, .int 0] μ w (fun r μ' _ => r = some (.int (if (s_flt T n 0).1 = 0 then 0 else -1)) ∧ μ' 154 0 = 0 ∧ μ' 155 0 = nI (s_flt T n 0).1 ∧ μ' 156 0 = (if (s_flt T n 0).1 = 0 then -1 else nI (s_flt T n 0).2) ∧ (∀ j, j ≠ 0 → μ' 154 j = μ 154 j ∧ μ' 155 j = μ 155 j ∧ μ' 156 j = μ 156 j) ∧ ((s_flt T n 0).1 ≠ 0 → ∀ a, a ≠ 152 → a ≠ 154 → a ≠ 155 → a ≠ 156 → a ≠ 161 → a ≠ 162 → μ' a = μ a) ∧ ((s_flt T n 0).1 = 0 → (∀ i, i < 125 → μ' 158 (125 * 0 + i) = s_tv 0 i ((s_rr T n 0).2.2.2.1 i)) ∧ (∀ j, j < 125 * 0 ∨ 125 * 0 + 125 ≤ j → μ' 158 j = μ 158 j) ∧ μ' 157 = upd (μ 157) 0 (nI c) ∧ ∀ a, a ≠ 152 → a ≠ 154 → a ≠ 155 → a ≠ 156 → a ≠ 157 → a ≠ 158 → a ≠ 161 → a ≠ 162 → μ' a = μ a)) := by
  refine x_K.of (by decide) (Nat.le_of_ble_eq_true rfl) ?_
  show x_T sc (d + 8) mX12_text 0 [.ref 152, .int 0, .int 0, .retAddr 0] [] μ w _
  refine xt_aload_n _ dX12_text_0 rfl ?_
  refine xt_iconst (0) dX12_text_1 (by decide) ?_
  refine xt_puti dX12_text_2 kpX12_72 (by first | exact sh0 | exact sh1 | exact sh115 | exact sh152 | rfl | assumption) rfl (by first | rfl | assumption) (by first | rfl | assumption) ?_
  refine xt_aload_n _ dX12_text_5 rfl ?_
  refine xt_aload_n _ dX12_text_6 rfl ?_
  refine xt_getr _ dX12_text_7 kfX12_13 (by first | exact sh0 | exact sh1 | exact sh115 | exact sh152 | rfl | assumption) rfl ?_
  refine xt_iconst (0) dX12_text_10 (by decide) ?_
  refine xt_ald dX12_text_11 (by first | exact sh0 | exact sh1 | exact sh115 | exact sh152 | rfl | assumption) (by unfold vp_in; decide) ?_
  refine xt_puti dX12_text_12 kpX12_95 (by first | exact sh0 | exact sh1 | exact sh115 | exact sh152 | rfl | assumption) rfl (by first | rfl | assumption) (by first | rfl | assumption) ?_
  refine xt_aload_n _ dX12_text_15 rfl ?_
  refine xt_getr _ dX12_text_16 kfX12_13 (by first | exact sh0 | exact sh1 | exact sh115 | exact sh152 | rfl | assumption) rfl ?_
  refine xt_iconst (0) dX12_text_19 (by decide) ?_
  refine xt_iconst (0) dX12_text_20 (by decide) ?_
  refine xt_ast dX12_text_21 (by first | exact sh0 | exact sh1 | exact sh115 | exact sh152 | rfl | assumption) (by unfold vp_in; decide) ?_
  refine xt_aload_n _ dX12_text_22 rfl ?_
  refine xt_getr _ dX12_text_23 kfX12_17 (by first | exact sh0 | exact sh1 | exact sh115 | exact sh152 | rfl | assumption) rfl ?_
  refine xt_iconst (0) dX12_text_26 (by decide) ?_
  refine xt_iconst (0) dX12_text_27 (by decide) ?_
  refine xt_ast dX12_text_28 (by first | exact sh0 | exact sh1 | exact sh115 | exact sh152 | rfl | assumption) (by unfold vp_in; decide) ?_
  refine xt_aload_n _ dX12_text_29 rfl ?_
  refine xt_getr _ dX12_text_30 kfX12_20 (by first | exact sh0 | exact sh1 | exact sh115 | exact sh152 | rfl | assumption) rfl ?_
  refine xt_iconst (0) dX12_text_33 (by decide) ?_
  refine xt_iconst (-1) dX12_text_34 (by decide) ?_
  refine xt_ast dX12_text_35 (by first | exact sh0 | exact sh1 | exact sh115 | exact sh152 | rfl | assumption) (by unfold vp_in; decide) ?_
  obtain ⟨μ1, hμ1⟩ : ∃ ν, (x_u (x_u (x_u (x_u (x_u μ 152 (upd (μ 152) 0 0)) 152 (upd ((x_u μ 152 (upd (μ 152) 0 0)) 152) 10 ((x_u μ 152 (upd (μ 152) 0 0)) 154 (0 : Int32).toNatClampNeg))) 154 (upd ((x_u (x_u μ 152 (upd (μ 152) 0 0)) 152 (upd ((x_u μ 152 (upd (μ 152) 0 0)) 152) 10 ((x_u μ 152 (upd (μ 152) 0 0)) 154 (0 : Int32).toNatClampNeg))) 154) (0 : Int32).toNatClampNeg 0)) 155 (upd ((x_u (x_u (x_u μ 152 (upd (μ 152) 0 0)) 152 (upd ((x_u μ 152 (upd (μ 152) 0 0)) 152) 10 ((x_u μ 152 (upd (μ 152) 0 0)) 154 (0 : Int32).toNatClampNeg))) 154 (upd ((x_u (x_u μ 152 (upd (μ 152) 0 0)) 152 (upd ((x_u μ 152 (upd (μ 152) 0 0)) 152) 10 ((x_u μ 152 (upd (μ 152) 0 0)) 154 (0 : Int32).toNatClampNeg))) 154) (0 : Int32).toNatClampNeg 0)) 155) (0 : Int32).toNatClampNeg 0)) 156 (upd ((x_u (x_u (x_u (x_u μ 152 (upd (μ 152) 0 0)) 152 (upd ((x_u μ 152 (upd (μ 152) 0 0)) 152) 10 ((x_u μ 152 (upd (μ 152) 0 0)) 154 (0 : Int32).toNatClampNeg))) 154 (upd ((x_u (x_u μ 152 (upd (μ 152) 0 0)) 152 (upd ((x_u μ 152 (upd (μ 152) 0 0)) 152) 10 ((x_u μ 152 (upd (μ 152) 0 0)) 154 (0 : Int32).toNatClampNeg))) 154) (0 : Int32).toNatClampNeg 0)) 155 (upd ((x_u (x_u (x_u μ 152 (upd (μ 152) 0 0)) 152 (upd ((x_u μ 152 (upd (μ 152) 0 0)) 152) 10 ((x_u μ 152 (upd (μ 152) 0 0)) 154 (0 : Int32).toNatClampNeg))) 154 (upd ((x_u (x_u μ 152 (upd (μ 152) 0 0)) 152 (upd ((x_u μ 152 (upd (μ 152) 0 0)) 152) 10 ((x_u μ 152 (upd (μ 152) 0 0)) 154 (0 : Int32).toNatClampNeg))) 154) (0 : Int32).toNatClampNeg 0)) 155) (0 : Int32).toNatClampNeg 0)) 156) (0 : Int32).toNatClampNeg (-1))) = ν := ⟨_, rfl⟩
  change x_T _ _ _ _ _ _ (x_u (x_u (x_u (x_u (x_u μ 152 (upd (μ 152) 0 0)) 152 (upd ((x_u μ 152 (upd (μ 152) 0 0)) 152) 10 ((x_u μ 152 (upd (μ 152) 0 0)) 154 (0 : Int32).toNatClampNeg))) 154 (upd ((x_u (x_u μ 152 (upd (μ 152) 0 0)) 152 (upd ((x_u μ 152 (upd (μ 152) 0 0)) 152) 10 ((x_u μ 152 (upd (μ 152) 0 0)) 154 (0 : Int32).toNatClampNeg))) 154) (0 : Int32).toNatClampNeg 0)) 155 (upd ((x_u (x_u (x_u μ 152 (upd (μ 152) 0 0)) 152 (upd ((x_u μ 152 (upd (μ 152) 0 0)) 152) 10 ((x_u μ 152 (upd (μ 152) 0 0)) 154 (0 : Int32).toNatClampNeg))) 154 (upd ((x_u (x_u μ 152 (upd (μ 152) 0 0)) 152 (upd ((x_u μ 152 (upd (μ 152) 0 0)) 152) 10 ((x_u μ 152 (upd (μ 152) 0 0)) 154 (0 : Int32).toNatClampNeg))) 154) (0 : Int32).toNatClampNeg 0)) 155) (0 : Int32).toNatClampNeg 0)) 156 (upd ((x_u (x_u (x_u (x_u μ 152 (upd (μ 152) 0 0)) 152 (upd ((x_u μ 152 (upd (μ 152) 0 0)) 152) 10 ((x_u μ 152 (upd (μ 152) 0 0)) 154 (0 : Int32).toNatClampNeg))) 154 (upd ((x_u (x_u μ 152 (upd (μ 152) 0 0)) 152 (upd ((x_u μ 152 (upd (μ 152) 0 0)) 152) 10 ((x_u μ 152 (upd (μ 152) 0 0)) 154 (0 : Int32).toNatClampNeg))) 154) (0 : Int32).toNatClampNeg 0)) 155 (upd ((x_u (x_u (x_u μ 152 (upd (μ 152) 0 0)) 152 (upd ((x_u μ 152 (upd (μ 152) 0 0)) 152) 10 ((x_u μ 152 (upd (μ 152) 0 0)) 154 (0 : Int32).toNatClampNeg))) 154 (upd ((x_u (x_u μ 152 (upd (μ 152) 0 0)) 152 (upd ((x_u μ 152 (upd (μ 152) 0 0)) 152) 10 ((x_u μ 152 (upd (μ 152) 0 0)) 154 (0 : Int32).toNatClampNeg))) 154) (0 : Int32).toNatClampNeg 0)) 155) (0 : Int32).toNatClampNeg 0)) 156) (0 : Int32).toNatClampNeg (-1))) _ _
  rw [hμ1]
  have g10 : μ1 152 10 = nI n := by rw [← hμ1, x_u_ne (by decide), x_u_ne (by decide), x_u_ne (by decide), x_u_eq, pk_us, x_u_ne (by decide)]; exact e154
  have g154 : μ1 154 = upd (μ 154) 0 0 := by rw [← hμ1, x_u_ne (by decide), x_u_ne (by decide), x_u_eq, x_u_ne (by decide), x_u_ne (by decide)]; rfl
  have g155 : μ1 155 = upd (μ 155) 0 0 := by rw [← hμ1, x_u_ne (by decide), x_u_eq, x_u_ne (by decide), x_u_ne (by decide), x_u_ne (by decide)]; rfl
  have g156 : μ1 156 = upd (μ 156) 0 (-1) := by rw [← hμ1, x_u_eq, x_u_ne (by decide), x_u_ne (by decide), x_u_ne (by decide), x_u_ne (by decide)]; rfl
  have gf : ∀ a, a ≠ 152 → a ≠ 154 → a ≠ 155 → a ≠ 156 → μ1 a = μ a := fun a h1 h2 h3 h4 => by rw [← hμ1, x_u_ne h4, x_u_ne h3, x_u_ne h2, x_u_ne h1, x_u_ne h1]
  have g157 : μ1 157 0 = nI c := by rw [gf 157 (by decide) (by decide) (by decide) (by decide)]; exact e157
  have hB1 : m_B μ1 T n := ⟨g10, hn, by rw [gf 153 (by decide) (by decide) (by decide) (by decide)]; exact hT, hT0⟩
  refine xt_iload_n _ dX12_text_36 rfl ?_
  refine xt_iconst (0) dX12_text_37 (by decide) ?_
  refine xt_iconst (2) dX12_text_38 (by decide) ?_
  refine xt_cS _ dX12_text_39 klX12_84 (tX12_in sc _ _ _ _ _ _) rfl rfl (Nat.le_of_ble_eq_true rfl) ?_
  refine xt_if_eq 72 dX12_text_42 (by decide) (fun q => absurd q (by decide)) (fun _ => ?_)
  refine xt_iload_n _ dX12_text_45 rfl ?_
  refine xt_iconst (-1) dX12_text_46 (by decide) ?_
  refine xt_icmp_ne 63 dX12_text_47 (by decide) (fun _ => ?_) (fun q => absurd q (by decide))
  refine xt_aload_n _ dX12_text_63 rfl ?_
  refine xt_iload_n _ dX12_text_64 rfl ?_
  refine xt_iload_n _ dX12_text_65 rfl ?_
  refine xt_cV _ dX12_text_66 klX12_231 (tX12_is sc _ _ _ 0 c (by decide) (by omega) g157 0) sh152 rfl rfl (Nat.le_of_ble_eq_true rfl) ?_
  rw [if_neg (show ¬ ((0 : Int32) < 0) by decide), if_pos (show (0 : Int32) < nI c from nI_lt (a := 0) (by omega) (by omega))]
  refine xt_if_ne 75 dX12_text_69 (by decide) (fun _ => ?_) (fun q => absurd q (by decide))
  refine xt_aload_n _ dX12_text_75 rfl ?_
  refine xt_iload_n _ dX12_text_76 rfl ?_
  refine xt_callV _ dX12_text_77 klX12_234 (tX12_readText0 sc _ μ1 w T n hB1) sh152 rfl rfl (Nat.le_of_ble_eq_true rfl) (fun r2 μ2 w2 q2 => ?_)
  obtain ⟨rfl, k155, k156, kD, kj, kf⟩ := q2
  by_cases hzF : (s_flt T n 0).1 = 0
  · rw [if_pos hzF]
    change x_T _ _ _ _ _ (.int 1 :: _) _ _ _
    refine xt_if_ne 85 dX12_text_80 (by decide) (fun _ => ?_) (fun q => absurd q (by decide))
    refine xt_iload_n _ dX12_text_85 rfl ?_
    refine xt_iconst (-1) dX12_text_86 (by decide) ?_
    refine xt_icmp_ne 99 dX12_text_87 (by decide) (fun _ => ?_) (fun q => absurd q (by decide))
    refine xt_iload_n _ dX12_text_99 rfl ?_
    refine xt_istore_n dX12_text_100 (by decide) rfl ?_
    change x_T _ _ _ _ [_, _, _, _] _ _ _ _
    refine xt_aload_n _ dX12_text_101 rfl ?_
    refine xt_getr _ dX12_text_102 kfX12_23 (by first | exact sh0 | exact sh1 | exact sh115 | exact sh152 | rfl | assumption) rfl ?_
    refine xt_iload_n _ dX12_text_105 rfl ?_
    refine xt_dup2 dX12_text_106 rfl rfl ?_
    refine xt_ald dX12_text_107 (by first | exact sh0 | exact sh1 | exact sh115 | exact sh152 | rfl | assumption) (by unfold vp_in; decide) ?_
    refine xt_iload_n _ dX12_text_108 rfl ?_
    refine xt_iconst (-1) dX12_text_109 (by decide) ?_
    refine xt_icmp_ne 117 dX12_text_110 (by decide) (fun _ => ?_) (fun q => absurd q (by decide))
    refine xt_iconst (0) dX12_text_117 (by decide) ?_
    refine xt_iadd dX12_text_118 ?_
    refine xt_ast dX12_text_119 (by first | exact sh0 | exact sh1 | exact sh115 | exact sh152 | rfl | assumption) (by unfold vp_in; decide) ?_
    refine xt_iload_n _ dX12_text_120 rfl ?_
    refine xt_if_ne 138 dX12_text_121 (by decide) (fun q => absurd (by decide) q) (fun _ => ?_)
    refine xt_aload_n _ dX12_text_124 rfl ?_
    refine xt_aload_n _ dX12_text_125 rfl ?_
    refine xt_getr _ dX12_text_126 kfX12_26 (by first | exact sh0 | exact sh1 | exact sh115 | exact sh152 | rfl | assumption) rfl ?_
    refine xt_bipush (125) dX12_text_129 (by decide) ?_
    refine xt_iload_n _ dX12_text_131 rfl ?_
    refine xt_callV _ dX12_text_132 klX12_237 (tX12_store sc _ (x_u μ2 157 (upd (μ2 157) (0 : Int32).toNatClampNeg (μ2 157 (0 : Int32).toNatClampNeg + 0))) _ 158 1000 125 0 rfl (by decide) (by decide) (by decide) (by decide)) sh152 rfl rfl (Nat.le_of_ble_eq_true rfl) (fun r6 μ6 w6 q6 => ?_)
    obtain ⟨rfl, s1, s2, sf⟩ := q6
    change x_T _ _ _ _ _ _ _ _ _
    refine xt_goto 169 dX12_text_135 (by decide) ?_
    refine xt_iload_n _ dX12_text_169 rfl ?_
    refine xt_iret .int dX12_text_170 rfl (by first | rfl | assumption) ?_
    have q157 : μ2 157 = μ 157 := by rw [kf 157 (by decide) (by decide) (by decide) (by decide) (by decide), gf 157 (by decide) (by decide) (by decide) (by decide)]
    refine ⟨by rw [if_pos hzF], ?_, ?_, ?_, fun j hj => ⟨?_, ?_, ?_⟩, fun z => absurd hzF z, fun _ => ⟨fun i hi => ?_, fun j hj => ?_, ?_, fun a h1 h2 h3 h4 h5 h6 h7 h8 => ?_⟩⟩
    · rw [sf 154 (by decide), x_u_ne (by decide), kf 154 (by decide) (by decide) (by decide) (by decide) (by decide), g154, pk_us]
    · rw [sf 155 (by decide), x_u_ne (by decide)]; exact k155
    · rw [sf 156 (by decide), x_u_ne (by decide)]; exact k156
    · rw [sf 154 (by decide), x_u_ne (by decide), kf 154 (by decide) (by decide) (by decide) (by decide) (by decide), g154, pk_un hj]
    · rw [sf 155 (by decide), x_u_ne (by decide), (kj j hj).1, g155, pk_un hj]
    · rw [sf 156 (by decide), x_u_ne (by decide), (kj j hj).2, g156, pk_un hj]
    · rw [s1 i hi, x_u_ne (by decide)]; exact kD hzF i (by omega)
    · rw [s2 j hj, x_u_ne (by decide), kf 158 (by decide) (by decide) (by decide) (by decide) (by decide), gf 158 (by decide) (by decide) (by decide) (by decide)]
    · rw [sf 157 (by decide), x_u_eq, q157]
      show upd (μ 157) 0 (μ 157 0 + 0) = _
      rw [e157]; congr 1; exact Int32.add_zero _
    · rw [sf a h6, x_u_ne h5, kf a h1 h3 h4 h7 h8]; exact gf a h1 h2 h3 h4
  · rw [if_neg hzF]
    change x_T _ _ _ _ _ (.int 0 :: _) _ _ _
    refine xt_if_ne 85 dX12_text_80 (by decide) (fun q => absurd (by decide) q) (fun _ => ?_)
    refine xt_iconst (-1) dX12_text_83 (by decide) ?_
    refine xt_iret .int dX12_text_84 rfl (by first | rfl | assumption) ?_
    refine ⟨by rw [if_neg hzF], by rw [kf 154 (by decide) (by decide) (by decide) (by decide) (by decide), g154, pk_us], k155, k156, fun j hj => ⟨by rw [kf 154 (by decide) (by decide) (by decide) (by decide) (by decide), g154, pk_un hj], by rw [(kj j hj).1, g155, pk_un hj], by rw [(kj j hj).2, g156, pk_un hj]⟩, fun _ a h1 h2 h3 h4 h5 h6 => by rw [kf a h1 h3 h4 h5 h6]; exact gf a h1 h2 h3 h4, fun z => absurd z hzF⟩
set_option maxHeartbeats 1000000 in
theorem tX12_text01A (n : Nat) (T : Nat → Nat) (hn : n ≤ 600) (e154 : μ 154 0 = nI n) (hT : ∀ i, i < n → μ 153 i &&& 255 = nI (T i) ∧ T i < 256) (hT0 : ∀ i, n ≤ i → T i = 0) (e157 : μ 157 0 = nI 1) : x_K sc (d + 8) mX12_text [.ref 152, .int 0, .int (-1)] μ w (fun r μ' _ => r = some (.int (if (s_flt T n 0).1 = 0 then 1 else -1)) ∧ μ' 154 0 = 0 ∧ μ' 155 0 = nI (s_flt T n 0).1 ∧ μ' 156 0 = (if (s_flt T n 0).1 = 0 then -1 else nI (s_flt T n 0).2) ∧ (∀ j, j ≠ 0 → μ' 154 j = μ 154 j ∧ μ' 155 j = μ 155 j ∧ μ' 156 j = μ 156 j) ∧ ((s_flt T n 0).1 ≠ 0 → ∀ a, a ≠ 152 → a ≠ 154 → a ≠ 155 → a ≠ 156 → a ≠ 161 → a ≠ 162 → μ' a = μ a) ∧ ((s_flt T n 0).1 = 0 → (∀ i, i < 125 → μ' 158 (125 * 1 + i) = s_tv 0 i ((s_rr T n 0).2.2.2.1 i)) ∧ (∀ j, j < 125 * 1 ∨ 125 * 1 + 125 ≤ j → μ' 158 j = μ 158 j) ∧ μ' 157 = upd (μ 157) 0 (nI 2) ∧ ∀ a, a ≠ 152 → a ≠ 154 → a ≠ 155 → a ≠ 156 → a ≠ 157 → a ≠ 158 → a ≠ 161 → a ≠ 162 → μ' a = μ a)) := by
  refine x_K.of (by decide) (Nat.le_of_ble_eq_true rfl) ?_
  show x_T sc (d + 8) mX12_text 0 [.ref 152, .int 0, .int (-1), .retAddr 0] [] μ w _
  refine xt_aload_n _ dX12_text_0 rfl ?_
  refine xt_iconst (0) dX12_text_1 (by decide) ?_
  refine xt_puti dX12_text_2 kpX12_72 (by first | exact sh0 | exact sh1 | exact sh115 | exact sh152 | rfl | assumption) rfl (by first | rfl | assumption) (by first | rfl | assumption) ?_
  refine xt_aload_n _ dX12_text_5 rfl ?_
  refine xt_aload_n _ dX12_text_6 rfl ?_
  refine xt_getr _ dX12_text_7 kfX12_13 (by first | exact sh0 | exact sh1 | exact sh115 | exact sh152 | rfl | assumption) rfl ?_
  refine xt_iconst (0) dX12_text_10 (by decide) ?_
  refine xt_ald dX12_text_11 (by first | exact sh0 | exact sh1 | exact sh115 | exact sh152 | rfl | assumption) (by unfold vp_in; decide) ?_
  refine xt_puti dX12_text_12 kpX12_95 (by first | exact sh0 | exact sh1 | exact sh115 | exact sh152 | rfl | assumption) rfl (by first | rfl | assumption) (by first | rfl | assumption) ?_
  refine xt_aload_n _ dX12_text_15 rfl ?_
  refine xt_getr _ dX12_text_16 kfX12_13 (by first | exact sh0 | exact sh1 | exact sh115 | exact sh152 | rfl | assumption) rfl ?_
  refine xt_iconst (0) dX12_text_19 (by decide) ?_
  refine xt_iconst (0) dX12_text_20 (by decide) ?_
  refine xt_ast dX12_text_21 (by first | exact sh0 | exact sh1 | exact sh115 | exact sh152 | rfl | assumption) (by unfold vp_in; decide) ?_
  refine xt_aload_n _ dX12_text_22 rfl ?_
  refine xt_getr _ dX12_text_23 kfX12_17 (by first | exact sh0 | exact sh1 | exact sh115 | exact sh152 | rfl | assumption) rfl ?_
  refine xt_iconst (0) dX12_text_26 (by decide) ?_
  refine xt_iconst (0) dX12_text_27 (by decide) ?_
  refine xt_ast dX12_text_28 (by first | exact sh0 | exact sh1 | exact sh115 | exact sh152 | rfl | assumption) (by unfold vp_in; decide) ?_
  refine xt_aload_n _ dX12_text_29 rfl ?_
  refine xt_getr _ dX12_text_30 kfX12_20 (by first | exact sh0 | exact sh1 | exact sh115 | exact sh152 | rfl | assumption) rfl ?_
  refine xt_iconst (0) dX12_text_33 (by decide) ?_
  refine xt_iconst (-1) dX12_text_34 (by decide) ?_
  refine xt_ast dX12_text_35 (by first | exact sh0 | exact sh1 | exact sh115 | exact sh152 | rfl | assumption) (by unfold vp_in; decide) ?_
  obtain ⟨μ1, hμ1⟩ : ∃ ν, (x_u (x_u (x_u (x_u (x_u μ 152 (upd (μ 152) 0 0)) 152 (upd ((x_u μ 152 (upd (μ 152) 0 0)) 152) 10 ((x_u μ 152 (upd (μ 152) 0 0)) 154 (0 : Int32).toNatClampNeg))) 154 (upd ((x_u (x_u μ 152 (upd (μ 152) 0 0)) 152 (upd ((x_u μ 152 (upd (μ 152) 0 0)) 152) 10 ((x_u μ 152 (upd (μ 152) 0 0)) 154 (0 : Int32).toNatClampNeg))) 154) (0 : Int32).toNatClampNeg 0)) 155 (upd ((x_u (x_u (x_u μ 152 (upd (μ 152) 0 0)) 152 (upd ((x_u μ 152 (upd (μ 152) 0 0)) 152) 10 ((x_u μ 152 (upd (μ 152) 0 0)) 154 (0 : Int32).toNatClampNeg))) 154 (upd ((x_u (x_u μ 152 (upd (μ 152) 0 0)) 152 (upd ((x_u μ 152 (upd (μ 152) 0 0)) 152) 10 ((x_u μ 152 (upd (μ 152) 0 0)) 154 (0 : Int32).toNatClampNeg))) 154) (0 : Int32).toNatClampNeg 0)) 155) (0 : Int32).toNatClampNeg 0)) 156 (upd ((x_u (x_u (x_u (x_u μ 152 (upd (μ 152) 0 0)) 152 (upd ((x_u μ 152 (upd (μ 152) 0 0)) 152) 10 ((x_u μ 152 (upd (μ 152) 0 0)) 154 (0 : Int32).toNatClampNeg))) 154 (upd ((x_u (x_u μ 152 (upd (μ 152) 0 0)) 152 (upd ((x_u μ 152 (upd (μ 152) 0 0)) 152) 10 ((x_u μ 152 (upd (μ 152) 0 0)) 154 (0 : Int32).toNatClampNeg))) 154) (0 : Int32).toNatClampNeg 0)) 155 (upd ((x_u (x_u (x_u μ 152 (upd (μ 152) 0 0)) 152 (upd ((x_u μ 152 (upd (μ 152) 0 0)) 152) 10 ((x_u μ 152 (upd (μ 152) 0 0)) 154 (0 : Int32).toNatClampNeg))) 154 (upd ((x_u (x_u μ 152 (upd (μ 152) 0 0)) 152 (upd ((x_u μ 152 (upd (μ 152) 0 0)) 152) 10 ((x_u μ 152 (upd (μ 152) 0 0)) 154 (0 : Int32).toNatClampNeg))) 154) (0 : Int32).toNatClampNeg 0)) 155) (0 : Int32).toNatClampNeg 0)) 156) (0 : Int32).toNatClampNeg (-1))) = ν := ⟨_, rfl⟩
  change x_T _ _ _ _ _ _ (x_u (x_u (x_u (x_u (x_u μ 152 (upd (μ 152) 0 0)) 152 (upd ((x_u μ 152 (upd (μ 152) 0 0)) 152) 10 ((x_u μ 152 (upd (μ 152) 0 0)) 154 (0 : Int32).toNatClampNeg))) 154 (upd ((x_u (x_u μ 152 (upd (μ 152) 0 0)) 152 (upd ((x_u μ 152 (upd (μ 152) 0 0)) 152) 10 ((x_u μ 152 (upd (μ 152) 0 0)) 154 (0 : Int32).toNatClampNeg))) 154) (0 : Int32).toNatClampNeg 0)) 155 (upd ((x_u (x_u (x_u μ 152 (upd (μ 152) 0 0)) 152 (upd ((x_u μ 152 (upd (μ 152) 0 0)) 152) 10 ((x_u μ 152 (upd (μ 152) 0 0)) 154 (0 : Int32).toNatClampNeg))) 154 (upd ((x_u (x_u μ 152 (upd (μ 152) 0 0)) 152 (upd ((x_u μ 152 (upd (μ 152) 0 0)) 152) 10 ((x_u μ 152 (upd (μ 152) 0 0)) 154 (0 : Int32).toNatClampNeg))) 154) (0 : Int32).toNatClampNeg 0)) 155) (0 : Int32).toNatClampNeg 0)) 156 (upd ((x_u (x_u (x_u (x_u μ 152 (upd (μ 152) 0 0)) 152 (upd ((x_u μ 152 (upd (μ 152) 0 0)) 152) 10 ((x_u μ 152 (upd (μ 152) 0 0)) 154 (0 : Int32).toNatClampNeg))) 154 (upd ((x_u (x_u μ 152 (upd (μ 152) 0 0)) 152 (upd ((x_u μ 152 (upd (μ 152) 0 0)) 152) 10 ((x_u μ 152 (upd (μ 152) 0 0)) 154 (0 : Int32).toNatClampNeg))) 154) (0 : Int32).toNatClampNeg 0)) 155 (upd ((x_u (x_u (x_u μ 152 (upd (μ 152) 0 0)) 152 (upd ((x_u μ 152 (upd (μ 152) 0 0)) 152) 10 ((x_u μ 152 (upd (μ 152) 0 0)) 154 (0 : Int32).toNatClampNeg))) 154 (upd ((x_u (x_u μ 152 (upd (μ 152) 0 0)) 152 (upd ((x_u μ 152 (upd (μ 152) 0 0)) 152) 10 ((x_u μ 152 (upd (μ 152) 0 0)) 154 (0 : Int32).toNatClampNeg))) 154) (0 : Int32).toNatClampNeg 0)) 155) (0 : Int32).toNatClampNeg 0)) 156) (0 : Int32).toNatClampNeg (-1))) _ _
  rw [hμ1]
  have g10 : μ1 152 10 = nI n := by rw [← hμ1, x_u_ne (by decide), x_u_ne (by decide), x_u_ne (by decide), x_u_eq, pk_us, x_u_ne (by decide)]; exact e154
  have g154 : μ1 154 = upd (μ 154) 0 0 := by rw [← hμ1, x_u_ne (by decide), x_u_ne (by decide), x_u_eq, x_u_ne (by decide), x_u_ne (by decide)]; rfl
  have g155 : μ1 155 = upd (μ 155) 0 0 := by rw [← hμ1, x_u_ne (by decide), x_u_eq, x_u_ne (by decide), x_u_ne (by decide), x_u_ne (by decide)]; rfl
  have g156 : μ1 156 = upd (μ 156) 0 (-1) := by rw [← hμ1, x_u_eq, x_u_ne (by decide), x_u_ne (by decide), x_u_ne (by decide), x_u_ne (by decide)]; rfl
  have gf : ∀ a, a ≠ 152 → a ≠ 154 → a ≠ 155 → a ≠ 156 → μ1 a = μ a := fun a h1 h2 h3 h4 => by rw [← hμ1, x_u_ne h4, x_u_ne h3, x_u_ne h2, x_u_ne h1, x_u_ne h1]
  have g157 : μ1 157 0 = nI 1 := by rw [gf 157 (by decide) (by decide) (by decide) (by decide)]; exact e157
  have hB1 : m_B μ1 T n := ⟨g10, hn, by rw [gf 153 (by decide) (by decide) (by decide) (by decide)]; exact hT, hT0⟩
  refine xt_iload_n _ dX12_text_36 rfl ?_
  refine xt_iconst (0) dX12_text_37 (by decide) ?_
  refine xt_iconst (2) dX12_text_38 (by decide) ?_
  refine xt_cS _ dX12_text_39 klX12_84 (tX12_in sc _ _ _ _ _ _) rfl rfl (Nat.le_of_ble_eq_true rfl) ?_
  refine xt_if_eq 72 dX12_text_42 (by decide) (fun q => absurd q (by decide)) (fun _ => ?_)
  refine xt_iload_n _ dX12_text_45 rfl ?_
  refine xt_iconst (-1) dX12_text_46 (by decide) ?_
  refine xt_icmp_ne 63 dX12_text_47 (by decide) (fun q => absurd (by decide) q) (fun _ => ?_)
  refine xt_aload_n _ dX12_text_50 rfl ?_
  refine xt_getr _ dX12_text_51 kfX12_23 (by first | exact sh0 | exact sh1 | exact sh115 | exact sh152 | rfl | assumption) rfl ?_
  refine xt_iload_n _ dX12_text_54 rfl ?_
  refine xt_ald dX12_text_55 (by first | exact sh0 | exact sh1 | exact sh115 | exact sh152 | rfl | assumption) (by unfold vp_in; decide) ?_
  refine xt_iconst (2) dX12_text_56 (by decide) ?_
  rw [show μ1 157 (0 : Int32).toNatClampNeg = nI 1 from g157]
  refine xt_icmp_ne 75 dX12_text_57 (by decide) (fun _ => ?_) (fun q => absurd q (by decide))
  refine xt_aload_n _ dX12_text_75 rfl ?_
  refine xt_iload_n _ dX12_text_76 rfl ?_
  refine xt_callV _ dX12_text_77 klX12_234 (tX12_readText0 sc _ μ1 w T n hB1) sh152 rfl rfl (Nat.le_of_ble_eq_true rfl) (fun r2 μ2 w2 q2 => ?_)
  obtain ⟨rfl, k155, k156, kD, kj, kf⟩ := q2
  by_cases hzF : (s_flt T n 0).1 = 0
  · rw [if_pos hzF]
    change x_T _ _ _ _ _ (.int 1 :: _) _ _ _
    refine xt_if_ne 85 dX12_text_80 (by decide) (fun _ => ?_) (fun q => absurd q (by decide))
    refine xt_iload_n _ dX12_text_85 rfl ?_
    refine xt_iconst (-1) dX12_text_86 (by decide) ?_
    refine xt_icmp_ne 99 dX12_text_87 (by decide) (fun q => absurd (by decide) q) (fun _ => ?_)
    refine xt_aload_n _ dX12_text_90 rfl ?_
    refine xt_getr _ dX12_text_91 kfX12_23 (by first | exact sh0 | exact sh1 | exact sh115 | exact sh152 | rfl | assumption) rfl ?_
    refine xt_iload_n _ dX12_text_94 rfl ?_
    refine xt_ald dX12_text_95 (by first | exact sh0 | exact sh1 | exact sh115 | exact sh152 | rfl | assumption) (by unfold vp_in; decide) ?_
    refine xt_goto 100 dX12_text_96 (by decide) ?_
    rw [show μ2 157 (0 : Int32).toNatClampNeg = nI 1 from (by rw [kf 157 (by decide) (by decide) (by decide) (by decide) (by decide)]; exact g157)]
    change x_T _ _ _ _ _ (.int 1 :: _) _ _ _
    refine xt_istore_n dX12_text_100 (by decide) rfl ?_
    change x_T _ _ _ _ [_, _, _, _] _ _ _ _
    refine xt_aload_n _ dX12_text_101 rfl ?_
    refine xt_getr _ dX12_text_102 kfX12_23 (by first | exact sh0 | exact sh1 | exact sh115 | exact sh152 | rfl | assumption) rfl ?_
    refine xt_iload_n _ dX12_text_105 rfl ?_
    refine xt_dup2 dX12_text_106 rfl rfl ?_
    refine xt_ald dX12_text_107 (by first | exact sh0 | exact sh1 | exact sh115 | exact sh152 | rfl | assumption) (by unfold vp_in; decide) ?_
    refine xt_iload_n _ dX12_text_108 rfl ?_
    refine xt_iconst (-1) dX12_text_109 (by decide) ?_
    refine xt_icmp_ne 117 dX12_text_110 (by decide) (fun q => absurd (by decide) q) (fun _ => ?_)
    refine xt_iconst (1) dX12_text_113 (by decide) ?_
    refine xt_goto 118 dX12_text_114 (by decide) ?_
    refine xt_iadd dX12_text_118 ?_
    refine xt_ast dX12_text_119 (by first | exact sh0 | exact sh1 | exact sh115 | exact sh152 | rfl | assumption) (by unfold vp_in; decide) ?_
    refine xt_iload_n _ dX12_text_120 rfl ?_
    refine xt_if_ne 138 dX12_text_121 (by decide) (fun q => absurd (by decide) q) (fun _ => ?_)
    refine xt_aload_n _ dX12_text_124 rfl ?_
    refine xt_aload_n _ dX12_text_125 rfl ?_
    refine xt_getr _ dX12_text_126 kfX12_26 (by first | exact sh0 | exact sh1 | exact sh115 | exact sh152 | rfl | assumption) rfl ?_
    refine xt_bipush (125) dX12_text_129 (by decide) ?_
    refine xt_iload_n _ dX12_text_131 rfl ?_
    refine xt_callV _ dX12_text_132 klX12_237 (tX12_store sc _ (x_u μ2 157 (upd (μ2 157) (0 : Int32).toNatClampNeg (μ2 157 (0 : Int32).toNatClampNeg + 1))) _ 158 1000 125 1 rfl (by decide) (by decide) (by decide) (by decide)) sh152 rfl rfl (Nat.le_of_ble_eq_true rfl) (fun r6 μ6 w6 q6 => ?_)
    obtain ⟨rfl, s1, s2, sf⟩ := q6
    change x_T _ _ _ _ _ _ _ _ _
    refine xt_goto 169 dX12_text_135 (by decide) ?_
    refine xt_iload_n _ dX12_text_169 rfl ?_
    refine xt_iret .int dX12_text_170 rfl (by first | rfl | assumption) ?_
    have q157 : μ2 157 = μ 157 := by rw [kf 157 (by decide) (by decide) (by decide) (by decide) (by decide), gf 157 (by decide) (by decide) (by decide) (by decide)]
    refine ⟨by rw [if_pos hzF], ?_, ?_, ?_, fun j hj => ⟨?_, ?_, ?_⟩, fun z => absurd hzF z, fun _ => ⟨fun i hi => ?_, fun j hj => ?_, ?_, fun a h1 h2 h3 h4 h5 h6 h7 h8 => ?_⟩⟩
    · rw [sf 154 (by decide), x_u_ne (by decide), kf 154 (by decide) (by decide) (by decide) (by decide) (by decide), g154, pk_us]
    · rw [sf 155 (by decide), x_u_ne (by decide)]; exact k155
    · rw [sf 156 (by decide), x_u_ne (by decide)]; exact k156
    · rw [sf 154 (by decide), x_u_ne (by decide), kf 154 (by decide) (by decide) (by decide) (by decide) (by decide), g154, pk_un hj]
    · rw [sf 155 (by decide), x_u_ne (by decide), (kj j hj).1, g155, pk_un hj]
    · rw [sf 156 (by decide), x_u_ne (by decide), (kj j hj).2, g156, pk_un hj]
    · rw [s1 i hi, x_u_ne (by decide)]; exact kD hzF i (by omega)
    · rw [s2 j hj, x_u_ne (by decide), kf 158 (by decide) (by decide) (by decide) (by decide) (by decide), gf 158 (by decide) (by decide) (by decide) (by decide)]
    · rw [sf 157 (by decide), x_u_eq, q157]
      show upd (μ 157) 0 (μ 157 0 + 1) = _
      rw [e157]; rfl
    · rw [sf a h6, x_u_ne h5, kf a h1 h3 h4 h7 h8]; exact gf a h1 h2 h3 h4
  · rw [if_neg hzF]
    change x_T _ _ _ _ _ (.int 0 :: _) _ _ _
    refine xt_if_ne 85 dX12_text_80 (by decide) (fun q => absurd (by decide) q) (fun _ => ?_)
    refine xt_iconst (-1) dX12_text_83 (by decide) ?_
    refine xt_iret .int dX12_text_84 rfl (by first | rfl | assumption) ?_
    refine ⟨by rw [if_neg hzF], by rw [kf 154 (by decide) (by decide) (by decide) (by decide) (by decide), g154, pk_us], k155, k156, fun j hj => ⟨by rw [kf 154 (by decide) (by decide) (by decide) (by decide) (by decide), g154, pk_un hj], by rw [(kj j hj).1, g155, pk_un hj], by rw [(kj j hj).2, g156, pk_un hj]⟩, fun _ a h1 h2 h3 h4 h5 h6 => by rw [kf a h1 h3 h4 h5 h6]; exact gf a h1 h2 h3 h4, fun z => absurd z hzF⟩
set_option maxHeartbeats 1000000 in
theorem tX12_text01B (n : Nat) (T : Nat → Nat) (hn : n ≤ 600) (e154 : μ 154 0 = nI n) (hT : ∀ i, i < n → μ 153 i &&& 255 = nI (T i) ∧ T i < 256) (hT0 : ∀ i, n ≤ i → T i = 0) (c : Nat) (hc : c ≤ 2) (hfc : 1 < c) (e157 : μ 157 0 = nI c) : x_K sc (d + 8) mX12_text [.ref 152, .int 0, .int 1] μ w (fun r μ' _ => r = some (.int (if (s_flt T n 0).1 = 0 then 1 else -1)) ∧ μ' 154 0 = 0 ∧ μ' 155 0 = nI (s_flt T n 0).1 ∧ μ' 156 0 = (if (s_flt T n 0).1 = 0 then -1 else nI (s_flt T n 0).2) ∧ (∀ j, j ≠ 0 → μ' 154 j = μ 154 j ∧ μ' 155 j = μ 155 j ∧ μ' 156 j = μ 156 j) ∧ ((s_flt T n 0).1 ≠ 0 → ∀ a, a ≠ 152 → a ≠ 154 → a ≠ 155 → a ≠ 156 → a ≠ 161 → a ≠ 162 → μ' a = μ a) ∧ ((s_flt T n 0).1 = 0 → (∀ i, i < 125 → μ' 158 (125 * 1 + i) = s_tv 0 i ((s_rr T n 0).2.2.2.1 i)) ∧ (∀ j, j < 125 * 1 ∨ 125 * 1 + 125 ≤ j → μ' 158 j = μ 158 j) ∧ μ' 157 = upd (μ 157) 0 (nI c) ∧ ∀ a, a ≠ 152 → a ≠ 154 → a ≠ 155 → a ≠ 156 → a ≠ 157 → a ≠ 158 → a ≠ 161 → a ≠ 162 → μ' a = μ a)) := by
  refine x_K.of (by decide) (Nat.le_of_ble_eq_true rfl) ?_
  show x_T sc (d + 8) mX12_text 0 [.ref 152, .int 0, .int 1, .retAddr 0] [] μ w _
  refine xt_aload_n _ dX12_text_0 rfl ?_
  refine xt_iconst (0) dX12_text_1 (by decide) ?_
  refine xt_puti dX12_text_2 kpX12_72 (by first | exact sh0 | exact sh1 | exact sh115 | exact sh152 | rfl | assumption) rfl (by first | rfl | assumption) (by first | rfl | assumption) ?_
  refine xt_aload_n _ dX12_text_5 rfl ?_
  refine xt_aload_n _ dX12_text_6 rfl ?_
  refine xt_getr _ dX12_text_7 kfX12_13 (by first | exact sh0 | exact sh1 | exact sh115 | exact sh152 | rfl | assumption) rfl ?_
  refine xt_iconst (0) dX12_text_10 (by decide) ?_
  refine xt_ald dX12_text_11 (by first | exact sh0 | exact sh1 | exact sh115 | exact sh152 | rfl | assumption) (by unfold vp_in; decide) ?_
  refine xt_puti dX12_text_12 kpX12_95 (by first | exact sh0 | exact sh1 | exact sh115 | exact sh152 | rfl | assumption) rfl (by first | rfl | assumption) (by first | rfl | assumption) ?_
  refine xt_aload_n _ dX12_text_15 rfl ?_
  refine xt_getr _ dX12_text_16 kfX12_13 (by first | exact sh0 | exact sh1 | exact sh115 | exact sh152 | rfl | assumption) rfl ?_
  refine xt_iconst (0) dX12_text_19 (by decide) ?_
  refine xt_iconst (0) dX12_text_20 (by decide) ?_
  refine xt_ast dX12_text_21 (by first | exact sh0 | exact sh1 | exact sh115 | exact sh152 | rfl | assumption) (by unfold vp_in; decide) ?_
  refine xt_aload_n _ dX12_text_22 rfl ?_
  refine xt_getr _ dX12_text_23 kfX12_17 (by first | exact sh0 | exact sh1 | exact sh115 | exact sh152 | rfl | assumption) rfl ?_
  refine xt_iconst (0) dX12_text_26 (by decide) ?_
  refine xt_iconst (0) dX12_text_27 (by decide) ?_
  refine xt_ast dX12_text_28 (by first | exact sh0 | exact sh1 | exact sh115 | exact sh152 | rfl | assumption) (by unfold vp_in; decide) ?_
  refine xt_aload_n _ dX12_text_29 rfl ?_
  refine xt_getr _ dX12_text_30 kfX12_20 (by first | exact sh0 | exact sh1 | exact sh115 | exact sh152 | rfl | assumption) rfl ?_
  refine xt_iconst (0) dX12_text_33 (by decide) ?_
  refine xt_iconst (-1) dX12_text_34 (by decide) ?_
  refine xt_ast dX12_text_35 (by first | exact sh0 | exact sh1 | exact sh115 | exact sh152 | rfl | assumption) (by unfold vp_in; decide) ?_
  obtain ⟨μ1, hμ1⟩ : ∃ ν, (x_u (x_u (x_u (x_u (x_u μ 152 (upd (μ 152) 0 0)) 152 (upd ((x_u μ 152 (upd (μ 152) 0 0)) 152) 10 ((x_u μ 152 (upd (μ 152) 0 0)) 154 (0 : Int32).toNatClampNeg))) 154 (upd ((x_u (x_u μ 152 (upd (μ 152) 0 0)) 152 (upd ((x_u μ 152 (upd (μ 152) 0 0)) 152) 10 ((x_u μ 152 (upd (μ 152) 0 0)) 154 (0 : Int32).toNatClampNeg))) 154) (0 : Int32).toNatClampNeg 0)) 155 (upd ((x_u (x_u (x_u μ 152 (upd (μ 152) 0 0)) 152 (upd ((x_u μ 152 (upd (μ 152) 0 0)) 152) 10 ((x_u μ 152 (upd (μ 152) 0 0)) 154 (0 : Int32).toNatClampNeg))) 154 (upd ((x_u (x_u μ 152 (upd (μ 152) 0 0)) 152 (upd ((x_u μ 152 (upd (μ 152) 0 0)) 152) 10 ((x_u μ 152 (upd (μ 152) 0 0)) 154 (0 : Int32).toNatClampNeg))) 154) (0 : Int32).toNatClampNeg 0)) 155) (0 : Int32).toNatClampNeg 0)) 156 (upd ((x_u (x_u (x_u (x_u μ 152 (upd (μ 152) 0 0)) 152 (upd ((x_u μ 152 (upd (μ 152) 0 0)) 152) 10 ((x_u μ 152 (upd (μ 152) 0 0)) 154 (0 : Int32).toNatClampNeg))) 154 (upd ((x_u (x_u μ 152 (upd (μ 152) 0 0)) 152 (upd ((x_u μ 152 (upd (μ 152) 0 0)) 152) 10 ((x_u μ 152 (upd (μ 152) 0 0)) 154 (0 : Int32).toNatClampNeg))) 154) (0 : Int32).toNatClampNeg 0)) 155 (upd ((x_u (x_u (x_u μ 152 (upd (μ 152) 0 0)) 152 (upd ((x_u μ 152 (upd (μ 152) 0 0)) 152) 10 ((x_u μ 152 (upd (μ 152) 0 0)) 154 (0 : Int32).toNatClampNeg))) 154 (upd ((x_u (x_u μ 152 (upd (μ 152) 0 0)) 152 (upd ((x_u μ 152 (upd (μ 152) 0 0)) 152) 10 ((x_u μ 152 (upd (μ 152) 0 0)) 154 (0 : Int32).toNatClampNeg))) 154) (0 : Int32).toNatClampNeg 0)) 155) (0 : Int32).toNatClampNeg 0)) 156) (0 : Int32).toNatClampNeg (-1))) = ν := ⟨_, rfl⟩
  change x_T _ _ _ _ _ _ (x_u (x_u (x_u (x_u (x_u μ 152 (upd (μ 152) 0 0)) 152 (upd ((x_u μ 152 (upd (μ 152) 0 0)) 152) 10 ((x_u μ 152 (upd (μ 152) 0 0)) 154 (0 : Int32).toNatClampNeg))) 154 (upd ((x_u (x_u μ 152 (upd (μ 152) 0 0)) 152 (upd ((x_u μ 152 (upd (μ 152) 0 0)) 152) 10 ((x_u μ 152 (upd (μ 152) 0 0)) 154 (0 : Int32).toNatClampNeg))) 154) (0 : Int32).toNatClampNeg 0)) 155 (upd ((x_u (x_u (x_u μ 152 (upd (μ 152) 0 0)) 152 (upd ((x_u μ 152 (upd (μ 152) 0 0)) 152) 10 ((x_u μ 152 (upd (μ 152) 0 0)) 154 (0 : Int32).toNatClampNeg))) 154 (upd ((x_u (x_u μ 152 (upd (μ 152) 0 0)) 152 (upd ((x_u μ 152 (upd (μ 152) 0 0)) 152) 10 ((x_u μ 152 (upd (μ 152) 0 0)) 154 (0 : Int32).toNatClampNeg))) 154) (0 : Int32).toNatClampNeg 0)) 155) (0 : Int32).toNatClampNeg 0)) 156 (upd ((x_u (x_u (x_u (x_u μ 152 (upd (μ 152) 0 0)) 152 (upd ((x_u μ 152 (upd (μ 152) 0 0)) 152) 10 ((x_u μ 152 (upd (μ 152) 0 0)) 154 (0 : Int32).toNatClampNeg))) 154 (upd ((x_u (x_u μ 152 (upd (μ 152) 0 0)) 152 (upd ((x_u μ 152 (upd (μ 152) 0 0)) 152) 10 ((x_u μ 152 (upd (μ 152) 0 0)) 154 (0 : Int32).toNatClampNeg))) 154) (0 : Int32).toNatClampNeg 0)) 155 (upd ((x_u (x_u (x_u μ 152 (upd (μ 152) 0 0)) 152 (upd ((x_u μ 152 (upd (μ 152) 0 0)) 152) 10 ((x_u μ 152 (upd (μ 152) 0 0)) 154 (0 : Int32).toNatClampNeg))) 154 (upd ((x_u (x_u μ 152 (upd (μ 152) 0 0)) 152 (upd ((x_u μ 152 (upd (μ 152) 0 0)) 152) 10 ((x_u μ 152 (upd (μ 152) 0 0)) 154 (0 : Int32).toNatClampNeg))) 154) (0 : Int32).toNatClampNeg 0)) 155) (0 : Int32).toNatClampNeg 0)) 156) (0 : Int32).toNatClampNeg (-1))) _ _
  rw [hμ1]
  have g10 : μ1 152 10 = nI n := by rw [← hμ1, x_u_ne (by decide), x_u_ne (by decide), x_u_ne (by decide), x_u_eq, pk_us, x_u_ne (by decide)]; exact e154
  have g154 : μ1 154 = upd (μ 154) 0 0 := by rw [← hμ1, x_u_ne (by decide), x_u_ne (by decide), x_u_eq, x_u_ne (by decide), x_u_ne (by decide)]; rfl
  have g155 : μ1 155 = upd (μ 155) 0 0 := by rw [← hμ1, x_u_ne (by decide), x_u_eq, x_u_ne (by decide), x_u_ne (by decide), x_u_ne (by decide)]; rfl
  have g156 : μ1 156 = upd (μ 156) 0 (-1) := by rw [← hμ1, x_u_eq, x_u_ne (by decide), x_u_ne (by decide), x_u_ne (by decide), x_u_ne (by decide)]; rfl
  have gf : ∀ a, a ≠ 152 → a ≠ 154 → a ≠ 155 → a ≠ 156 → μ1 a = μ a := fun a h1 h2 h3 h4 => by rw [← hμ1, x_u_ne h4, x_u_ne h3, x_u_ne h2, x_u_ne h1, x_u_ne h1]
  have g157 : μ1 157 0 = nI c := by rw [gf 157 (by decide) (by decide) (by decide) (by decide)]; exact e157
  have hB1 : m_B μ1 T n := ⟨g10, hn, by rw [gf 153 (by decide) (by decide) (by decide) (by decide)]; exact hT, hT0⟩
  refine xt_iload_n _ dX12_text_36 rfl ?_
  refine xt_iconst (0) dX12_text_37 (by decide) ?_
  refine xt_iconst (2) dX12_text_38 (by decide) ?_
  refine xt_cS _ dX12_text_39 klX12_84 (tX12_in sc _ _ _ _ _ _) rfl rfl (Nat.le_of_ble_eq_true rfl) ?_
  refine xt_if_eq 72 dX12_text_42 (by decide) (fun q => absurd q (by decide)) (fun _ => ?_)
  refine xt_iload_n _ dX12_text_45 rfl ?_
  refine xt_iconst (-1) dX12_text_46 (by decide) ?_
  refine xt_icmp_ne 63 dX12_text_47 (by decide) (fun _ => ?_) (fun q => absurd q (by decide))
  refine xt_aload_n _ dX12_text_63 rfl ?_
  refine xt_iload_n _ dX12_text_64 rfl ?_
  refine xt_iload_n _ dX12_text_65 rfl ?_
  refine xt_cV _ dX12_text_66 klX12_231 (tX12_is sc _ _ _ 0 c (by decide) (by omega) g157 1) sh152 rfl rfl (Nat.le_of_ble_eq_true rfl) ?_
  rw [if_neg (show ¬ ((1 : Int32) < 0) by decide), if_pos (show (1 : Int32) < nI c from nI_lt (a := 1) (by omega) (by omega))]
  refine xt_if_ne 75 dX12_text_69 (by decide) (fun _ => ?_) (fun q => absurd q (by decide))
  refine xt_aload_n _ dX12_text_75 rfl ?_
  refine xt_iload_n _ dX12_text_76 rfl ?_
  refine xt_callV _ dX12_text_77 klX12_234 (tX12_readText0 sc _ μ1 w T n hB1) sh152 rfl rfl (Nat.le_of_ble_eq_true rfl) (fun r2 μ2 w2 q2 => ?_)
  obtain ⟨rfl, k155, k156, kD, kj, kf⟩ := q2
  by_cases hzF : (s_flt T n 0).1 = 0
  · rw [if_pos hzF]
    change x_T _ _ _ _ _ (.int 1 :: _) _ _ _
    refine xt_if_ne 85 dX12_text_80 (by decide) (fun _ => ?_) (fun q => absurd q (by decide))
    refine xt_iload_n _ dX12_text_85 rfl ?_
    refine xt_iconst (-1) dX12_text_86 (by decide) ?_
    refine xt_icmp_ne 99 dX12_text_87 (by decide) (fun _ => ?_) (fun q => absurd q (by decide))
    refine xt_iload_n _ dX12_text_99 rfl ?_
    refine xt_istore_n dX12_text_100 (by decide) rfl ?_
    change x_T _ _ _ _ [_, _, _, _] _ _ _ _
    refine xt_aload_n _ dX12_text_101 rfl ?_
    refine xt_getr _ dX12_text_102 kfX12_23 (by first | exact sh0 | exact sh1 | exact sh115 | exact sh152 | rfl | assumption) rfl ?_
    refine xt_iload_n _ dX12_text_105 rfl ?_
    refine xt_dup2 dX12_text_106 rfl rfl ?_
    refine xt_ald dX12_text_107 (by first | exact sh0 | exact sh1 | exact sh115 | exact sh152 | rfl | assumption) (by unfold vp_in; decide) ?_
    refine xt_iload_n _ dX12_text_108 rfl ?_
    refine xt_iconst (-1) dX12_text_109 (by decide) ?_
    refine xt_icmp_ne 117 dX12_text_110 (by decide) (fun _ => ?_) (fun q => absurd q (by decide))
    refine xt_iconst (0) dX12_text_117 (by decide) ?_
    refine xt_iadd dX12_text_118 ?_
    refine xt_ast dX12_text_119 (by first | exact sh0 | exact sh1 | exact sh115 | exact sh152 | rfl | assumption) (by unfold vp_in; decide) ?_
    refine xt_iload_n _ dX12_text_120 rfl ?_
    refine xt_if_ne 138 dX12_text_121 (by decide) (fun q => absurd (by decide) q) (fun _ => ?_)
    refine xt_aload_n _ dX12_text_124 rfl ?_
    refine xt_aload_n _ dX12_text_125 rfl ?_
    refine xt_getr _ dX12_text_126 kfX12_26 (by first | exact sh0 | exact sh1 | exact sh115 | exact sh152 | rfl | assumption) rfl ?_
    refine xt_bipush (125) dX12_text_129 (by decide) ?_
    refine xt_iload_n _ dX12_text_131 rfl ?_
    refine xt_callV _ dX12_text_132 klX12_237 (tX12_store sc _ (x_u μ2 157 (upd (μ2 157) (0 : Int32).toNatClampNeg (μ2 157 (0 : Int32).toNatClampNeg + 0))) _ 158 1000 125 1 rfl (by decide) (by decide) (by decide) (by decide)) sh152 rfl rfl (Nat.le_of_ble_eq_true rfl) (fun r6 μ6 w6 q6 => ?_)
    obtain ⟨rfl, s1, s2, sf⟩ := q6
    change x_T _ _ _ _ _ _ _ _ _
    refine xt_goto 169 dX12_text_135 (by decide) ?_
    refine xt_iload_n _ dX12_text_169 rfl ?_
    refine xt_iret .int dX12_text_170 rfl (by first | rfl | assumption) ?_
    have q157 : μ2 157 = μ 157 := by rw [kf 157 (by decide) (by decide) (by decide) (by decide) (by decide), gf 157 (by decide) (by decide) (by decide) (by decide)]
    refine ⟨by rw [if_pos hzF], ?_, ?_, ?_, fun j hj => ⟨?_, ?_, ?_⟩, fun z => absurd hzF z, fun _ => ⟨fun i hi => ?_, fun j hj => ?_, ?_, fun a h1 h2 h3 h4 h5 h6 h7 h8 => ?_⟩⟩
    · rw [sf 154 (by decide), x_u_ne (by decide), kf 154 (by decide) (by decide) (by decide) (by decide) (by decide), g154, pk_us]
    · rw [sf 155 (by decide), x_u_ne (by decide)]; exact k155
    · rw [sf 156 (by decide), x_u_ne (by decide)]; exact k156
    · rw [sf 154 (by decide), x_u_ne (by decide), kf 154 (by decide) (by decide) (by decide) (by decide) (by decide), g154, pk_un hj]
    · rw [sf 155 (by decide), x_u_ne (by decide), (kj j hj).1, g155, pk_un hj]
    · rw [sf 156 (by decide), x_u_ne (by decide), (kj j hj).2, g156, pk_un hj]
    · rw [s1 i hi, x_u_ne (by decide)]; exact kD hzF i (by omega)
    · rw [s2 j hj, x_u_ne (by decide), kf 158 (by decide) (by decide) (by decide) (by decide) (by decide), gf 158 (by decide) (by decide) (by decide) (by decide)]
    · rw [sf 157 (by decide), x_u_eq, q157]
      show upd (μ 157) 0 (μ 157 0 + 0) = _
      rw [e157]; congr 1; exact Int32.add_zero _
    · rw [sf a h6, x_u_ne h5, kf a h1 h3 h4 h7 h8]; exact gf a h1 h2 h3 h4
  · rw [if_neg hzF]
    change x_T _ _ _ _ _ (.int 0 :: _) _ _ _
    refine xt_if_ne 85 dX12_text_80 (by decide) (fun q => absurd (by decide) q) (fun _ => ?_)
    refine xt_iconst (-1) dX12_text_83 (by decide) ?_
    refine xt_iret .int dX12_text_84 rfl (by first | rfl | assumption) ?_
    refine ⟨by rw [if_neg hzF], by rw [kf 154 (by decide) (by decide) (by decide) (by decide) (by decide), g154, pk_us], k155, k156, fun j hj => ⟨by rw [kf 154 (by decide) (by decide) (by decide) (by decide) (by decide), g154, pk_un hj], by rw [(kj j hj).1, g155, pk_un hj], by rw [(kj j hj).2, g156, pk_un hj]⟩, fun _ a h1 h2 h3 h4 h5 h6 => by rw [kf a h1 h3 h4 h5 h6]; exact gf a h1 h2 h3 h4, fun z => absurd z hzF⟩
set_option maxHeartbeats 1000000 in
theorem tX12_text10A (n : Nat) (T : Nat → Nat) (hn : n ≤ 600) (e154 : μ 154 0 = nI n) (hT : ∀ i, i < n → μ 153 i &&& 255 = nI (T i) ∧ T i < 256) (hT0 : ∀ i, n ≤ i → T i = 0) (e157 : μ 157 1 = nI 0) : x_K sc (d + 8) mX12_text [.ref 152, .int 1, .int (-1)] μ w (fun r μ' _ => r = some (.int (if (s_flt T n 1).1 = 0 then 0 else -1)) ∧ μ' 154 0 = 0 ∧ μ' 155 0 = nI (s_flt T n 1).1 ∧ μ' 156 0 = (if (s_flt T n 1).1 = 0 then -1 else nI (s_flt T n 1).2) ∧ (∀ j, j ≠ 0 → μ' 154 j = μ 154 j ∧ μ' 155 j = μ 155 j ∧ μ' 156 j = μ 156 j) ∧ ((s_flt T n 1).1 ≠ 0 → ∀ a, a ≠ 152 → a ≠ 154 → a ≠ 155 → a ≠ 156 → a ≠ 161 → a ≠ 162 → μ' a = μ a) ∧ ((s_flt T n 1).1 = 0 → (∀ i, i < 161 → μ' 159 (161 * 0 + i) = s_tv 1 i ((s_rr T n 1).2.2.2.1 i)) ∧ (∀ j, j < 161 * 0 ∨ 161 * 0 + 161 ≤ j → μ' 159 j = μ 159 j) ∧ μ' 157 = upd (μ 157) 1 (nI 1) ∧ ∀ a, a ≠ 152 → a ≠ 154 → a ≠ 155 → a ≠ 156 → a ≠ 157 → a ≠ 159 → a ≠ 161 → a ≠ 162 → μ' a = μ a)) := by
  refine x_K.of (by decide) (Nat.le_of_ble_eq_true rfl) ?_
  show x_T sc (d + 8) mX12_text 0 [.ref 152, .int 1, .int (-1), .retAddr 0] [] μ w _
  refine xt_aload_n _ dX12_text_0 rfl ?_
  refine xt_iconst (0) dX12_text_1 (by decide) ?_
  refine xt_puti dX12_text_2 kpX12_72 (by first | exact sh0 | exact sh1 | exact sh115 | exact sh152 | rfl | assumption) rfl (by first | rfl | assumption) (by first | rfl | assumption) ?_
  refine xt_aload_n _ dX12_text_5 rfl ?_
  refine xt_aload_n _ dX12_text_6 rfl ?_
  refine xt_getr _ dX12_text_7 kfX12_13 (by first | exact sh0 | exact sh1 | exact sh115 | exact sh152 | rfl | assumption) rfl ?_
  refine xt_iconst (0) dX12_text_10 (by decide) ?_
  refine xt_ald dX12_text_11 (by first | exact sh0 | exact sh1 | exact sh115 | exact sh152 | rfl | assumption) (by unfold vp_in; decide) ?_
  refine xt_puti dX12_text_12 kpX12_95 (by first | exact sh0 | exact sh1 | exact sh115 | exact sh152 | rfl | assumption) rfl (by first | rfl | assumption) (by first | rfl | assumption) ?_
  refine xt_aload_n _ dX12_text_15 rfl ?_
  refine xt_getr _ dX12_text_16 kfX12_13 (by first | exact sh0 | exact sh1 | exact sh115 | exact sh152 | rfl | assumption) rfl ?_
  refine xt_iconst (0) dX12_text_19 (by decide) ?_
  refine xt_iconst (0) dX12_text_20 (by decide) ?_
  refine xt_ast dX12_text_21 (by first | exact sh0 | exact sh1 | exact sh115 | exact sh152 | rfl | assumption) (by unfold vp_in; decide) ?_
  refine xt_aload_n _ dX12_text_22 rfl ?_
  refine xt_getr _ dX12_text_23 kfX12_17 (by first | exact sh0 | exact sh1 | exact sh115 | exact sh152 | rfl | assumption) rfl ?_
  refine xt_iconst (0) dX12_text_26 (by decide) ?_
  refine xt_iconst (0) dX12_text_27 (by decide) ?_
  refine xt_ast dX12_text_28 (by first | exact sh0 | exact sh1 | exact sh115 | exact sh152 | rfl | assumption) (by unfold vp_in; decide) ?_
  refine xt_aload_n _ dX12_text_29 rfl ?_
  refine xt_getr _ dX12_text_30 kfX12_20 (by first | exact sh0 | exact sh1 | exact sh115 | exact sh152 | rfl | assumption) rfl ?_
  refine xt_iconst (0) dX12_text_33 (by decide) ?_
  refine xt_iconst (-1) dX12_text_34 (by decide) ?_
  refine xt_ast dX12_text_35 (by first | exact sh0 | exact sh1 | exact sh115 | exact sh152 | rfl | assumption) (by unfold vp_in; decide) ?_
  obtain ⟨μ1, hμ1⟩ : ∃ ν, (x_u (x_u (x_u (x_u (x_u μ 152 (upd (μ 152) 0 0)) 152 (upd ((x_u μ 152 (upd (μ 152) 0 0)) 152) 10 ((x_u μ 152 (upd (μ 152) 0 0)) 154 (0 : Int32).toNatClampNeg))) 154 (upd ((x_u (x_u μ 152 (upd (μ 152) 0 0)) 152 (upd ((x_u μ 152 (upd (μ 152) 0 0)) 152) 10 ((x_u μ 152 (upd (μ 152) 0 0)) 154 (0 : Int32).toNatClampNeg))) 154) (0 : Int32).toNatClampNeg 0)) 155 (upd ((x_u (x_u (x_u μ 152 (upd (μ 152) 0 0)) 152 (upd ((x_u μ 152 (upd (μ 152) 0 0)) 152) 10 ((x_u μ 152 (upd (μ 152) 0 0)) 154 (0 : Int32).toNatClampNeg))) 154 (upd ((x_u (x_u μ 152 (upd (μ 152) 0 0)) 152 (upd ((x_u μ 152 (upd (μ 152) 0 0)) 152) 10 ((x_u μ 152 (upd (μ 152) 0 0)) 154 (0 : Int32).toNatClampNeg))) 154) (0 : Int32).toNatClampNeg 0)) 155) (0 : Int32).toNatClampNeg 0)) 156 (upd ((x_u (x_u (x_u (x_u μ 152 (upd (μ 152) 0 0)) 152 (upd ((x_u μ 152 (upd (μ 152) 0 0)) 152) 10 ((x_u μ 152 (upd (μ 152) 0 0)) 154 (0 : Int32).toNatClampNeg))) 154 (upd ((x_u (x_u μ 152 (upd (μ 152) 0 0)) 152 (upd ((x_u μ 152 (upd (μ 152) 0 0)) 152) 10 ((x_u μ 152 (upd (μ 152) 0 0)) 154 (0 : Int32).toNatClampNeg))) 154) (0 : Int32).toNatClampNeg 0)) 155 (upd ((x_u (x_u (x_u μ 152 (upd (μ 152) 0 0)) 152 (upd ((x_u μ 152 (upd (μ 152) 0 0)) 152) 10 ((x_u μ 152 (upd (μ 152) 0 0)) 154 (0 : Int32).toNatClampNeg))) 154 (upd ((x_u (x_u μ 152 (upd (μ 152) 0 0)) 152 (upd ((x_u μ 152 (upd (μ 152) 0 0)) 152) 10 ((x_u μ 152 (upd (μ 152) 0 0)) 154 (0 : Int32).toNatClampNeg))) 154) (0 : Int32).toNatClampNeg 0)) 155) (0 : Int32).toNatClampNeg 0)) 156) (0 : Int32).toNatClampNeg (-1))) = ν := ⟨_, rfl⟩
  change x_T _ _ _ _ _ _ (x_u (x_u (x_u (x_u (x_u μ 152 (upd (μ 152) 0 0)) 152 (upd ((x_u μ 152 (upd (μ 152) 0 0)) 152) 10 ((x_u μ 152 (upd (μ 152) 0 0)) 154 (0 : Int32).toNatClampNeg))) 154 (upd ((x_u (x_u μ 152 (upd (μ 152) 0 0)) 152 (upd ((x_u μ 152 (upd (μ 152) 0 0)) 152) 10 ((x_u μ 152 (upd (μ 152) 0 0)) 154 (0 : Int32).toNatClampNeg))) 154) (0 : Int32).toNatClampNeg 0)) 155 (upd ((x_u (x_u (x_u μ 152 (upd (μ 152) 0 0)) 152 (upd ((x_u μ 152 (upd (μ 152) 0 0)) 152) 10 ((x_u μ 152 (upd (μ 152) 0 0)) 154 (0 : Int32).toNatClampNeg))) 154 (upd ((x_u (x_u μ 152 (upd (μ 152) 0 0)) 152 (upd ((x_u μ 152 (upd (μ 152) 0 0)) 152) 10 ((x_u μ 152 (upd (μ 152) 0 0)) 154 (0 : Int32).toNatClampNeg))) 154) (0 : Int32).toNatClampNeg 0)) 155) (0 : Int32).toNatClampNeg 0)) 156 (upd ((x_u (x_u (x_u (x_u μ 152 (upd (μ 152) 0 0)) 152 (upd ((x_u μ 152 (upd (μ 152) 0 0)) 152) 10 ((x_u μ 152 (upd (μ 152) 0 0)) 154 (0 : Int32).toNatClampNeg))) 154 (upd ((x_u (x_u μ 152 (upd (μ 152) 0 0)) 152 (upd ((x_u μ 152 (upd (μ 152) 0 0)) 152) 10 ((x_u μ 152 (upd (μ 152) 0 0)) 154 (0 : Int32).toNatClampNeg))) 154) (0 : Int32).toNatClampNeg 0)) 155 (upd ((x_u (x_u (x_u μ 152 (upd (μ 152) 0 0)) 152 (upd ((x_u μ 152 (upd (μ 152) 0 0)) 152) 10 ((x_u μ 152 (upd (μ 152) 0 0)) 154 (0 : Int32).toNatClampNeg))) 154 (upd ((x_u (x_u μ 152 (upd (μ 152) 0 0)) 152 (upd ((x_u μ 152 (upd (μ 152) 0 0)) 152) 10 ((x_u μ 152 (upd (μ 152) 0 0)) 154 (0 : Int32).toNatClampNeg))) 154) (0 : Int32).toNatClampNeg 0)) 155) (0 : Int32).toNatClampNeg 0)) 156) (0 : Int32).toNatClampNeg (-1))) _ _
  rw [hμ1]
  have g10 : μ1 152 10 = nI n := by rw [← hμ1, x_u_ne (by decide), x_u_ne (by decide), x_u_ne (by decide), x_u_eq, pk_us, x_u_ne (by decide)]; exact e154
  have g154 : μ1 154 = upd (μ 154) 0 0 := by rw [← hμ1, x_u_ne (by decide), x_u_ne (by decide), x_u_eq, x_u_ne (by decide), x_u_ne (by decide)]; rfl
  have g155 : μ1 155 = upd (μ 155) 0 0 := by rw [← hμ1, x_u_ne (by decide), x_u_eq, x_u_ne (by decide), x_u_ne (by decide), x_u_ne (by decide)]; rfl
  have g156 : μ1 156 = upd (μ 156) 0 (-1) := by rw [← hμ1, x_u_eq, x_u_ne (by decide), x_u_ne (by decide), x_u_ne (by decide), x_u_ne (by decide)]; rfl
  have gf : ∀ a, a ≠ 152 → a ≠ 154 → a ≠ 155 → a ≠ 156 → μ1 a = μ a := fun a h1 h2 h3 h4 => by rw [← hμ1, x_u_ne h4, x_u_ne h3, x_u_ne h2, x_u_ne h1, x_u_ne h1]
  have g157 : μ1 157 1 = nI 0 := by rw [gf 157 (by decide) (by decide) (by decide) (by decide)]; exact e157
  have hB1 : m_B μ1 T n := ⟨g10, hn, by rw [gf 153 (by decide) (by decide) (by decide) (by decide)]; exact hT, hT0⟩
  refine xt_iload_n _ dX12_text_36 rfl ?_
  refine xt_iconst (0) dX12_text_37 (by decide) ?_
  refine xt_iconst (2) dX12_text_38 (by decide) ?_
  refine xt_cS _ dX12_text_39 klX12_84 (tX12_in sc _ _ _ _ _ _) rfl rfl (Nat.le_of_ble_eq_true rfl) ?_
  refine xt_if_eq 72 dX12_text_42 (by decide) (fun q => absurd q (by decide)) (fun _ => ?_)
  refine xt_iload_n _ dX12_text_45 rfl ?_
  refine xt_iconst (-1) dX12_text_46 (by decide) ?_
  refine xt_icmp_ne 63 dX12_text_47 (by decide) (fun q => absurd (by decide) q) (fun _ => ?_)
  refine xt_aload_n _ dX12_text_50 rfl ?_
  refine xt_getr _ dX12_text_51 kfX12_23 (by first | exact sh0 | exact sh1 | exact sh115 | exact sh152 | rfl | assumption) rfl ?_
  refine xt_iload_n _ dX12_text_54 rfl ?_
  refine xt_ald dX12_text_55 (by first | exact sh0 | exact sh1 | exact sh115 | exact sh152 | rfl | assumption) (by unfold vp_in; decide) ?_
  refine xt_iconst (2) dX12_text_56 (by decide) ?_
  rw [show μ1 157 (1 : Int32).toNatClampNeg = nI 0 from g157]
  refine xt_icmp_ne 75 dX12_text_57 (by decide) (fun _ => ?_) (fun q => absurd q (by decide))
  refine xt_aload_n _ dX12_text_75 rfl ?_
  refine xt_iload_n _ dX12_text_76 rfl ?_
  refine xt_callV _ dX12_text_77 klX12_234 (tX12_readText1 sc _ μ1 w T n hB1) sh152 rfl rfl (Nat.le_of_ble_eq_true rfl) (fun r2 μ2 w2 q2 => ?_)
  obtain ⟨rfl, k155, k156, kD, kj, kf⟩ := q2
  by_cases hzF : (s_flt T n 1).1 = 0
  · rw [if_pos hzF]
    change x_T _ _ _ _ _ (.int 1 :: _) _ _ _
    refine xt_if_ne 85 dX12_text_80 (by decide) (fun _ => ?_) (fun q => absurd q (by decide))
    refine xt_iload_n _ dX12_text_85 rfl ?_
    refine xt_iconst (-1) dX12_text_86 (by decide) ?_
    refine xt_icmp_ne 99 dX12_text_87 (by decide) (fun q => absurd (by decide) q) (fun _ => ?_)
    refine xt_aload_n _ dX12_text_90 rfl ?_
    refine xt_getr _ dX12_text_91 kfX12_23 (by first | exact sh0 | exact sh1 | exact sh115 | exact sh152 | rfl | assumption) rfl ?_
    refine xt_iload_n _ dX12_text_94 rfl ?_
    refine xt_ald dX12_text_95 (by first | exact sh0 | exact sh1 | exact sh115 | exact sh152 | rfl | assumption) (by unfold vp_in; decide) ?_
    refine xt_goto 100 dX12_text_96 (by decide) ?_
    rw [show μ2 157 (1 : Int32).toNatClampNeg = nI 0 from (by rw [kf 157 (by decide) (by decide) (by decide) (by decide) (by decide)]; exact g157)]
    change x_T _ _ _ _ _ (.int 0 :: _) _ _ _
    refine xt_istore_n dX12_text_100 (by decide) rfl ?_
    change x_T _ _ _ _ [_, _, _, _] _ _ _ _
    refine xt_aload_n _ dX12_text_101 rfl ?_
    refine xt_getr _ dX12_text_102 kfX12_23 (by first | exact sh0 | exact sh1 | exact sh115 | exact sh152 | rfl | assumption) rfl ?_
    refine xt_iload_n _ dX12_text_105 rfl ?_
    refine xt_dup2 dX12_text_106 rfl rfl ?_
    refine xt_ald dX12_text_107 (by first | exact sh0 | exact sh1 | exact sh115 | exact sh152 | rfl | assumption) (by unfold vp_in; decide) ?_
    refine xt_iload_n _ dX12_text_108 rfl ?_
    refine xt_iconst (-1) dX12_text_109 (by decide) ?_
    refine xt_icmp_ne 117 dX12_text_110 (by decide) (fun q => absurd (by decide) q) (fun _ => ?_)
    refine xt_iconst (1) dX12_text_113 (by decide) ?_
    refine xt_goto 118 dX12_text_114 (by decide) ?_
    refine xt_iadd dX12_text_118 ?_
    refine xt_ast dX12_text_119 (by first | exact sh0 | exact sh1 | exact sh115 | exact sh152 | rfl | assumption) (by unfold vp_in; decide) ?_
    refine xt_iload_n _ dX12_text_120 rfl ?_
    refine xt_if_ne 138 dX12_text_121 (by decide) (fun _ => ?_) (fun q => absurd q (by decide))
    refine xt_iload_n _ dX12_text_138 rfl ?_
    refine xt_iconst (1) dX12_text_139 (by decide) ?_
    refine xt_icmp_ne 158 dX12_text_140 (by decide) (fun q => absurd (by decide) q) (fun _ => ?_)
    refine xt_aload_n _ dX12_text_143 rfl ?_
    refine xt_aload_n _ dX12_text_144 rfl ?_
    refine xt_getr _ dX12_text_145 kfX12_29 (by first | exact sh0 | exact sh1 | exact sh115 | exact sh152 | rfl | assumption) rfl ?_
    refine xt_sipush (161) dX12_text_148 (by decide) ?_
    refine xt_iload_n _ dX12_text_151 rfl ?_
    refine xt_callV _ dX12_text_152 klX12_237 (tX12_store sc _ (x_u μ2 157 (upd (μ2 157) (1 : Int32).toNatClampNeg (μ2 157 (1 : Int32).toNatClampNeg + 1))) _ 159 1288 161 0 rfl (by decide) (by decide) (by decide) (by decide)) sh152 rfl rfl (Nat.le_of_ble_eq_true rfl) (fun r6 μ6 w6 q6 => ?_)
    obtain ⟨rfl, s1, s2, sf⟩ := q6
    change x_T _ _ _ _ _ _ _ _ _
    refine xt_goto 169 dX12_text_155 (by decide) ?_
    refine xt_iload_n _ dX12_text_169 rfl ?_
    refine xt_iret .int dX12_text_170 rfl (by first | rfl | assumption) ?_
    have q157 : μ2 157 = μ 157 := by rw [kf 157 (by decide) (by decide) (by decide) (by decide) (by decide), gf 157 (by decide) (by decide) (by decide) (by decide)]
    refine ⟨by rw [if_pos hzF], ?_, ?_, ?_, fun j hj => ⟨?_, ?_, ?_⟩, fun z => absurd hzF z, fun _ => ⟨fun i hi => ?_, fun j hj => ?_, ?_, fun a h1 h2 h3 h4 h5 h6 h7 h8 => ?_⟩⟩
    · rw [sf 154 (by decide), x_u_ne (by decide), kf 154 (by decide) (by decide) (by decide) (by decide) (by decide), g154, pk_us]
    · rw [sf 155 (by decide), x_u_ne (by decide)]; exact k155
    · rw [sf 156 (by decide), x_u_ne (by decide)]; exact k156
    · rw [sf 154 (by decide), x_u_ne (by decide), kf 154 (by decide) (by decide) (by decide) (by decide) (by decide), g154, pk_un hj]
    · rw [sf 155 (by decide), x_u_ne (by decide), (kj j hj).1, g155, pk_un hj]
    · rw [sf 156 (by decide), x_u_ne (by decide), (kj j hj).2, g156, pk_un hj]
    · rw [s1 i hi, x_u_ne (by decide)]; exact kD hzF i (by omega)
    · rw [s2 j hj, x_u_ne (by decide), kf 159 (by decide) (by decide) (by decide) (by decide) (by decide), gf 159 (by decide) (by decide) (by decide) (by decide)]
    · rw [sf 157 (by decide), x_u_eq, q157]
      show upd (μ 157) 1 (μ 157 1 + 1) = _
      rw [e157]; rfl
    · rw [sf a h6, x_u_ne h5, kf a h1 h3 h4 h7 h8]; exact gf a h1 h2 h3 h4
  · rw [if_neg hzF]
    change x_T _ _ _ _ _ (.int 0 :: _) _ _ _
    refine xt_if_ne 85 dX12_text_80 (by decide) (fun q => absurd (by decide) q) (fun _ => ?_)
    refine xt_iconst (-1) dX12_text_83 (by decide) ?_
    refine xt_iret .int dX12_text_84 rfl (by first | rfl | assumption) ?_
    refine ⟨by rw [if_neg hzF], by rw [kf 154 (by decide) (by decide) (by decide) (by decide) (by decide), g154, pk_us], k155, k156, fun j hj => ⟨by rw [kf 154 (by decide) (by decide) (by decide) (by decide) (by decide), g154, pk_un hj], by rw [(kj j hj).1, g155, pk_un hj], by rw [(kj j hj).2, g156, pk_un hj]⟩, fun _ a h1 h2 h3 h4 h5 h6 => by rw [kf a h1 h3 h4 h5 h6]; exact gf a h1 h2 h3 h4, fun z => absurd z hzF⟩
set_option maxHeartbeats 1000000 in
theorem tX12_text10B (n : Nat) (T : Nat → Nat) (hn : n ≤ 600) (e154 : μ 154 0 = nI n) (hT : ∀ i, i < n → μ 153 i &&& 255 = nI (T i) ∧ T i < 256) (hT0 : ∀ i, n ≤ i → T i = 0) (c : Nat) (hc : c ≤ 2) (hfc : 0 < c) (e157 : μ 157 1 = nI c) : x_K sc (d + 8) mX12_text [.ref 152, .int 1, .int 0] μ w (fun r μ' _ => r = some (.int (if (s_flt T n 1).1 = 0 then 0 else -1)) ∧ μ' 154 0 = 0 ∧ μ' 155 0 = nI (s_flt T n 1).1 ∧ μ' 156 0 = (if (s_flt T n 1).1 = 0 then -1 else nI (s_flt T n 1).2) ∧ (∀ j, j ≠ 0 → μ' 154 j = μ 154 j ∧ μ' 155 j = μ 155 j ∧ μ' 156 j = μ 156 j) ∧ ((s_flt T n 1).1 ≠ 0 → ∀ a, a ≠ 152 → a ≠ 154 → a ≠ 155 → a ≠ 156 → a ≠ 161 → a ≠ 162 → μ' a = μ a) ∧ ((s_flt T n 1).1 = 0 → (∀ i, i < 161 → μ' 159 (161 * 0 + i) = s_tv 1 i ((s_rr T n 1).2.2.2.1 i)) ∧ (∀ j, j < 161 * 0 ∨ 161 * 0 + 161 ≤ j → μ' 159 j = μ 159 j) ∧ μ' 157 = upd (μ 157) 1 (nI c) ∧ ∀ a, a ≠ 152 → a ≠ 154 → a ≠ 155 → a ≠ 156 → a ≠ 157 → a ≠ 159 → a ≠ 161 → a ≠ 162 → μ' a = μ a)) := by
  refine x_K.of (by decide) (Nat.le_of_ble_eq_true rfl) ?_
  show x_T sc (d + 8) mX12_text 0 [.ref 152, .int 1, .int 0, .retAddr 0] [] μ w _
  refine xt_aload_n _ dX12_text_0 rfl ?_
  refine xt_iconst (0) dX12_text_1 (by decide) ?_
  refine xt_puti dX12_text_2 kpX12_72 (by first | exact sh0 | exact sh1 | exact sh115 | exact sh152 | rfl | assumption) rfl (by first | rfl | assumption) (by first | rfl | assumption) ?_
  refine xt_aload_n _ dX12_text_5 rfl ?_
  refine xt_aload_n _ dX12_text_6 rfl ?_
  refine xt_getr _ dX12_text_7 kfX12_13 (by first | exact sh0 | exact sh1 | exact sh115 | exact sh152 | rfl | assumption) rfl ?_
  refine xt_iconst (0) dX12_text_10 (by decide) ?_
  refine xt_ald dX12_text_11 (by first | exact sh0 | exact sh1 | exact sh115 | exact sh152 | rfl | assumption) (by unfold vp_in; decide) ?_
  refine xt_puti dX12_text_12 kpX12_95 (by first | exact sh0 | exact sh1 | exact sh115 | exact sh152 | rfl | assumption) rfl (by first | rfl | assumption) (by first | rfl | assumption) ?_
  refine xt_aload_n _ dX12_text_15 rfl ?_
  refine xt_getr _ dX12_text_16 kfX12_13 (by first | exact sh0 | exact sh1 | exact sh115 | exact sh152 | rfl | assumption) rfl ?_
  refine xt_iconst (0) dX12_text_19 (by decide) ?_
  refine xt_iconst (0) dX12_text_20 (by decide) ?_
  refine xt_ast dX12_text_21 (by first | exact sh0 | exact sh1 | exact sh115 | exact sh152 | rfl | assumption) (by unfold vp_in; decide) ?_
  refine xt_aload_n _ dX12_text_22 rfl ?_
  refine xt_getr _ dX12_text_23 kfX12_17 (by first | exact sh0 | exact sh1 | exact sh115 | exact sh152 | rfl | assumption) rfl ?_
  refine xt_iconst (0) dX12_text_26 (by decide) ?_
  refine xt_iconst (0) dX12_text_27 (by decide) ?_
  refine xt_ast dX12_text_28 (by first | exact sh0 | exact sh1 | exact sh115 | exact sh152 | rfl | assumption) (by unfold vp_in; decide) ?_
  refine xt_aload_n _ dX12_text_29 rfl ?_
  refine xt_getr _ dX12_text_30 kfX12_20 (by first | exact sh0 | exact sh1 | exact sh115 | exact sh152 | rfl | assumption) rfl ?_
  refine xt_iconst (0) dX12_text_33 (by decide) ?_
  refine xt_iconst (-1) dX12_text_34 (by decide) ?_
  refine xt_ast dX12_text_35 (by first | exact sh0 | exact sh1 | exact sh115 | exact sh152 | rfl | assumption) (by unfold vp_in; decide) ?_
  obtain ⟨μ1, hμ1⟩ : ∃ ν, (x_u (x_u (x_u (x_u (x_u μ 152 (upd (μ 152) 0 0)) 152 (upd ((x_u μ 152 (upd (μ 152) 0 0)) 152) 10 ((x_u μ 152 (upd (μ 152) 0 0)) 154 (0 : Int32).toNatClampNeg))) 154 (upd ((x_u (x_u μ 152 (upd (μ 152) 0 0)) 152 (upd ((x_u μ 152 (upd (μ 152) 0 0)) 152) 10 ((x_u μ 152 (upd (μ 152) 0 0)) 154 (0 : Int32).toNatClampNeg))) 154) (0 : Int32).toNatClampNeg 0)) 155 (upd ((x_u (x_u (x_u μ 152 (upd (μ 152) 0 0)) 152 (upd ((x_u μ 152 (upd (μ 152) 0 0)) 152) 10 ((x_u μ 152 (upd (μ 152) 0 0)) 154 (0 : Int32).toNatClampNeg))) 154 (upd ((x_u (x_u μ 152 (upd (μ 152) 0 0)) 152 (upd ((x_u μ 152 (upd (μ 152) 0 0)) 152) 10 ((x_u μ 152 (upd (μ 152) 0 0)) 154 (0 : Int32).toNatClampNeg))) 154) (0 : Int32).toNatClampNeg 0)) 155) (0 : Int32).toNatClampNeg 0)) 156 (upd ((x_u (x_u (x_u (x_u μ 152 (upd (μ 152) 0 0)) 152 (upd ((x_u μ 152 (upd (μ 152) 0 0)) 152) 10 ((x_u μ 152 (upd (μ 152) 0 0)) 154 (0 : Int32).toNatClampNeg))) 154 (upd ((x_u (x_u μ 152 (upd (μ 152) 0 0)) 152 (upd ((x_u μ 152 (upd (μ 152) 0 0)) 152) 10 ((x_u μ 152 (upd (μ 152) 0 0)) 154 (0 : Int32).toNatClampNeg))) 154) (0 : Int32).toNatClampNeg 0)) 155 (upd ((x_u (x_u (x_u μ 152 (upd (μ 152) 0 0)) 152 (upd ((x_u μ 152 (upd (μ 152) 0 0)) 152) 10 ((x_u μ 152 (upd (μ 152) 0 0)) 154 (0 : Int32).toNatClampNeg))) 154 (upd ((x_u (x_u μ 152 (upd (μ 152) 0 0)) 152 (upd ((x_u μ 152 (upd (μ 152) 0 0)) 152) 10 ((x_u μ 152 (upd (μ 152) 0 0)) 154 (0 : Int32).toNatClampNeg))) 154) (0 : Int32).toNatClampNeg 0)) 155) (0 : Int32).toNatClampNeg 0)) 156) (0 : Int32).toNatClampNeg (-1))) = ν := ⟨_, rfl⟩
  change x_T _ _ _ _ _ _ (x_u (x_u (x_u (x_u (x_u μ 152 (upd (μ 152) 0 0)) 152 (upd ((x_u μ 152 (upd (μ 152) 0 0)) 152) 10 ((x_u μ 152 (upd (μ 152) 0 0)) 154 (0 : Int32).toNatClampNeg))) 154 (upd ((x_u (x_u μ 152 (upd (μ 152) 0 0)) 152 (upd ((x_u μ 152 (upd (μ 152) 0 0)) 152) 10 ((x_u μ 152 (upd (μ 152) 0 0)) 154 (0 : Int32).toNatClampNeg))) 154) (0 : Int32).toNatClampNeg 0)) 155 (upd ((x_u (x_u (x_u μ 152 (upd (μ 152) 0 0)) 152 (upd ((x_u μ 152 (upd (μ 152) 0 0)) 152) 10 ((x_u μ 152 (upd (μ 152) 0 0)) 154 (0 : Int32).toNatClampNeg))) 154 (upd ((x_u (x_u μ 152 (upd (μ 152) 0 0)) 152 (upd ((x_u μ 152 (upd (μ 152) 0 0)) 152) 10 ((x_u μ 152 (upd (μ 152) 0 0)) 154 (0 : Int32).toNatClampNeg))) 154) (0 : Int32).toNatClampNeg 0)) 155) (0 : Int32).toNatClampNeg 0)) 156 (upd ((x_u (x_u (x_u (x_u μ 152 (upd (μ 152) 0 0)) 152 (upd ((x_u μ 152 (upd (μ 152) 0 0)) 152) 10 ((x_u μ 152 (upd (μ 152) 0 0)) 154 (0 : Int32).toNatClampNeg))) 154 (upd ((x_u (x_u μ 152 (upd (μ 152) 0 0)) 152 (upd ((x_u μ 152 (upd (μ 152) 0 0)) 152) 10 ((x_u μ 152 (upd (μ 152) 0 0)) 154 (0 : Int32).toNatClampNeg))) 154) (0 : Int32).toNatClampNeg 0)) 155 (upd ((x_u (x_u (x_u μ 152 (upd (μ 152) 0 0)) 152 (upd ((x_u μ 152 (upd (μ 152) 0 0)) 152) 10 ((x_u μ 152 (upd (μ 152) 0 0)) 154 (0 : Int32).toNatClampNeg))) 154 (upd ((x_u (x_u μ 152 (upd (μ 152) 0 0)) 152 (upd ((x_u μ 152 (upd (μ 152) 0 0)) 152) 10 ((x_u μ 152 (upd (μ 152) 0 0)) 154 (0 : Int32).toNatClampNeg))) 154) (0 : Int32).toNatClampNeg 0)) 155) (0 : Int32).toNatClampNeg 0)) 156) (0 : Int32).toNatClampNeg (-1))) _ _
  rw [hμ1]
  have g10 : μ1 152 10 = nI n := by rw [← hμ1, x_u_ne (by decide), x_u_ne (by decide), x_u_ne (by decide), x_u_eq, pk_us, x_u_ne (by decide)]; exact e154
  have g154 : μ1 154 = upd (μ 154) 0 0 := by rw [← hμ1, x_u_ne (by decide), x_u_ne (by decide), x_u_eq, x_u_ne (by decide), x_u_ne (by decide)]; rfl
  have g155 : μ1 155 = upd (μ 155) 0 0 := by rw [← hμ1, x_u_ne (by decide), x_u_eq, x_u_ne (by decide), x_u_ne (by decide), x_u_ne (by decide)]; rfl
  have g156 : μ1 156 = upd (μ 156) 0 (-1) := by rw [← hμ1, x_u_eq, x_u_ne (by decide), x_u_ne (by decide), x_u_ne (by decide), x_u_ne (by decide)]; rfl
  have gf : ∀ a, a ≠ 152 → a ≠ 154 → a ≠ 155 → a ≠ 156 → μ1 a = μ a := fun a h1 h2 h3 h4 => by rw [← hμ1, x_u_ne h4, x_u_ne h3, x_u_ne h2, x_u_ne h1, x_u_ne h1]
  have g157 : μ1 157 1 = nI c := by rw [gf 157 (by decide) (by decide) (by decide) (by decide)]; exact e157
  have hB1 : m_B μ1 T n := ⟨g10, hn, by rw [gf 153 (by decide) (by decide) (by decide) (by decide)]; exact hT, hT0⟩
  refine xt_iload_n _ dX12_text_36 rfl ?_
  refine xt_iconst (0) dX12_text_37 (by decide) ?_
  refine xt_iconst (2) dX12_text_38 (by decide) ?_
  refine xt_cS _ dX12_text_39 klX12_84 (tX12_in sc _ _ _ _ _ _) rfl rfl (Nat.le_of_ble_eq_true rfl) ?_
  refine xt_if_eq 72 dX12_text_42 (by decide) (fun q => absurd q (by decide)) (fun _ => ?_)
  refine xt_iload_n _ dX12_text_45 rfl ?_
  refine xt_iconst (-1) dX12_text_46 (by decide) ?_
  refine xt_icmp_ne 63 dX12_text_47 (by decide) (fun _ => ?_) (fun q => absurd q (by decide))
  refine xt_aload_n _ dX12_text_63 rfl ?_
  refine xt_iload_n _ dX12_text_64 rfl ?_
  refine xt_iload_n _ dX12_text_65 rfl ?_
  refine xt_cV _ dX12_text_66 klX12_231 (tX12_is sc _ _ _ 1 c (by decide) (by omega) g157 0) sh152 rfl rfl (Nat.le_of_ble_eq_true rfl) ?_
  rw [if_neg (show ¬ ((0 : Int32) < 0) by decide), if_pos (show (0 : Int32) < nI c from nI_lt (a := 0) (by omega) (by omega))]
  refine xt_if_ne 75 dX12_text_69 (by decide) (fun _ => ?_) (fun q => absurd q (by decide))
  refine xt_aload_n _ dX12_text_75 rfl ?_
  refine xt_iload_n _ dX12_text_76 rfl ?_
  refine xt_callV _ dX12_text_77 klX12_234 (tX12_readText1 sc _ μ1 w T n hB1) sh152 rfl rfl (Nat.le_of_ble_eq_true rfl) (fun r2 μ2 w2 q2 => ?_)
  obtain ⟨rfl, k155, k156, kD, kj, kf⟩ := q2
  by_cases hzF : (s_flt T n 1).1 = 0
  · rw [if_pos hzF]
    change x_T _ _ _ _ _ (.int 1 :: _) _ _ _
    refine xt_if_ne 85 dX12_text_80 (by decide) (fun _ => ?_) (fun q => absurd q (by decide))
    refine xt_iload_n _ dX12_text_85 rfl ?_
    refine xt_iconst (-1) dX12_text_86 (by decide) ?_
    refine xt_icmp_ne 99 dX12_text_87 (by decide) (fun _ => ?_) (fun q => absurd q (by decide))
    refine xt_iload_n _ dX12_text_99 rfl ?_
    refine xt_istore_n dX12_text_100 (by decide) rfl ?_
    change x_T _ _ _ _ [_, _, _, _] _ _ _ _
    refine xt_aload_n _ dX12_text_101 rfl ?_
    refine xt_getr _ dX12_text_102 kfX12_23 (by first | exact sh0 | exact sh1 | exact sh115 | exact sh152 | rfl | assumption) rfl ?_
    refine xt_iload_n _ dX12_text_105 rfl ?_
    refine xt_dup2 dX12_text_106 rfl rfl ?_
    refine xt_ald dX12_text_107 (by first | exact sh0 | exact sh1 | exact sh115 | exact sh152 | rfl | assumption) (by unfold vp_in; decide) ?_
    refine xt_iload_n _ dX12_text_108 rfl ?_
    refine xt_iconst (-1) dX12_text_109 (by decide) ?_
    refine xt_icmp_ne 117 dX12_text_110 (by decide) (fun _ => ?_) (fun q => absurd q (by decide))
    refine xt_iconst (0) dX12_text_117 (by decide) ?_
    refine xt_iadd dX12_text_118 ?_
    refine xt_ast dX12_text_119 (by first | exact sh0 | exact sh1 | exact sh115 | exact sh152 | rfl | assumption) (by unfold vp_in; decide) ?_
    refine xt_iload_n _ dX12_text_120 rfl ?_
    refine xt_if_ne 138 dX12_text_121 (by decide) (fun _ => ?_) (fun q => absurd q (by decide))
    refine xt_iload_n _ dX12_text_138 rfl ?_
    refine xt_iconst (1) dX12_text_139 (by decide) ?_
    refine xt_icmp_ne 158 dX12_text_140 (by decide) (fun q => absurd (by decide) q) (fun _ => ?_)
    refine xt_aload_n _ dX12_text_143 rfl ?_
    refine xt_aload_n _ dX12_text_144 rfl ?_
    refine xt_getr _ dX12_text_145 kfX12_29 (by first | exact sh0 | exact sh1 | exact sh115 | exact sh152 | rfl | assumption) rfl ?_
    refine xt_sipush (161) dX12_text_148 (by decide) ?_
    refine xt_iload_n _ dX12_text_151 rfl ?_
    refine xt_callV _ dX12_text_152 klX12_237 (tX12_store sc _ (x_u μ2 157 (upd (μ2 157) (1 : Int32).toNatClampNeg (μ2 157 (1 : Int32).toNatClampNeg + 0))) _ 159 1288 161 0 rfl (by decide) (by decide) (by decide) (by decide)) sh152 rfl rfl (Nat.le_of_ble_eq_true rfl) (fun r6 μ6 w6 q6 => ?_)
    obtain ⟨rfl, s1, s2, sf⟩ := q6
    change x_T _ _ _ _ _ _ _ _ _
    refine xt_goto 169 dX12_text_155 (by decide) ?_
    refine xt_iload_n _ dX12_text_169 rfl ?_
    refine xt_iret .int dX12_text_170 rfl (by first | rfl | assumption) ?_
    have q157 : μ2 157 = μ 157 := by rw [kf 157 (by decide) (by decide) (by decide) (by decide) (by decide), gf 157 (by decide) (by decide) (by decide) (by decide)]
    refine ⟨by rw [if_pos hzF], ?_, ?_, ?_, fun j hj => ⟨?_, ?_, ?_⟩, fun z => absurd hzF z, fun _ => ⟨fun i hi => ?_, fun j hj => ?_, ?_, fun a h1 h2 h3 h4 h5 h6 h7 h8 => ?_⟩⟩
    · rw [sf 154 (by decide), x_u_ne (by decide), kf 154 (by decide) (by decide) (by decide) (by decide) (by decide), g154, pk_us]
    · rw [sf 155 (by decide), x_u_ne (by decide)]; exact k155
    · rw [sf 156 (by decide), x_u_ne (by decide)]; exact k156
    · rw [sf 154 (by decide), x_u_ne (by decide), kf 154 (by decide) (by decide) (by decide) (by decide) (by decide), g154, pk_un hj]
    · rw [sf 155 (by decide), x_u_ne (by decide), (kj j hj).1, g155, pk_un hj]
    · rw [sf 156 (by decide), x_u_ne (by decide), (kj j hj).2, g156, pk_un hj]
    · rw [s1 i hi, x_u_ne (by decide)]; exact kD hzF i (by omega)
    · rw [s2 j hj, x_u_ne (by decide), kf 159 (by decide) (by decide) (by decide) (by decide) (by decide), gf 159 (by decide) (by decide) (by decide) (by decide)]
    · rw [sf 157 (by decide), x_u_eq, q157]
      show upd (μ 157) 1 (μ 157 1 + 0) = _
      rw [e157]; congr 1; exact Int32.add_zero _
    · rw [sf a h6, x_u_ne h5, kf a h1 h3 h4 h7 h8]; exact gf a h1 h2 h3 h4
  · rw [if_neg hzF]
    change x_T _ _ _ _ _ (.int 0 :: _) _ _ _
    refine xt_if_ne 85 dX12_text_80 (by decide) (fun q => absurd (by decide) q) (fun _ => ?_)
    refine xt_iconst (-1) dX12_text_83 (by decide) ?_
    refine xt_iret .int dX12_text_84 rfl (by first | rfl | assumption) ?_
    refine ⟨by rw [if_neg hzF], by rw [kf 154 (by decide) (by decide) (by decide) (by decide) (by decide), g154, pk_us], k155, k156, fun j hj => ⟨by rw [kf 154 (by decide) (by decide) (by decide) (by decide) (by decide), g154, pk_un hj], by rw [(kj j hj).1, g155, pk_un hj], by rw [(kj j hj).2, g156, pk_un hj]⟩, fun _ a h1 h2 h3 h4 h5 h6 => by rw [kf a h1 h3 h4 h5 h6]; exact gf a h1 h2 h3 h4, fun z => absurd z hzF⟩
set_option maxHeartbeats 1000000 in
theorem tX12_text11A (n : Nat) (T : Nat → Nat) (hn : n ≤ 600) (e154 : μ 154 0 = nI n) (hT : ∀ i, i < n → μ 153 i &&& 255 = nI (T i) ∧ T i < 256) (hT0 : ∀ i, n ≤ i → T i = 0) (e157 : μ 157 1 = nI 1) : x_K sc (d + 8) mX12_text [.ref 152, .int 1, .int (-1)] μ w (fun r μ' _ => r = some (.int (if (s_flt T n 1).1 = 0 then 1 else -1)) ∧ μ' 154 0 = 0 ∧ μ' 155 0 = nI (s_flt T n 1).1 ∧ μ' 156 0 = (if (s_flt T n 1).1 = 0 then -1 else nI (s_flt T n 1).2) ∧ (∀ j, j ≠ 0 → μ' 154 j = μ 154 j ∧ μ' 155 j = μ 155 j ∧ μ' 156 j = μ 156 j) ∧ ((s_flt T n 1).1 ≠ 0 → ∀ a, a ≠ 152 → a ≠ 154 → a ≠ 155 → a ≠ 156 → a ≠ 161 → a ≠ 162 → μ' a = μ a) ∧ ((s_flt T n 1).1 = 0 → (∀ i, i < 161 → μ' 159 (161 * 1 + i) = s_tv 1 i ((s_rr T n 1).2.2.2.1 i)) ∧ (∀ j, j < 161 * 1 ∨ 161 * 1 + 161 ≤ j → μ' 159 j = μ 159 j) ∧ μ' 157 = upd (μ 157) 1 (nI 2) ∧ ∀ a, a ≠ 152 → a ≠ 154 → a ≠ 155 → a ≠ 156 → a ≠ 157 → a ≠ 159 → a ≠ 161 → a ≠ 162 → μ' a = μ a)) := by
  refine x_K.of (by decide) (Nat.le_of_ble_eq_true rfl) ?_
  show x_T sc (d + 8) mX12_text 0 [.ref 152, .int 1, .int (-1), .retAddr 0] [] μ w _
  refine xt_aload_n _ dX12_text_0 rfl ?_
  refine xt_iconst (0) dX12_text_1 (by decide) ?_
  refine xt_puti dX12_text_2 kpX12_72 (by first | exact sh0 | exact sh1 | exact sh115 | exact sh152 | rfl | assumption) rfl (by first | rfl | assumption) (by first | rfl | assumption) ?_
  refine xt_aload_n _ dX12_text_5 rfl ?_
  refine xt_aload_n _ dX12_text_6 rfl ?_
  refine xt_getr _ dX12_text_7 kfX12_13 (by first | exact sh0 | exact sh1 | exact sh115 | exact sh152 | rfl | assumption) rfl ?_
  refine xt_iconst (0) dX12_text_10 (by decide) ?_
  refine xt_ald dX12_text_11 (by first | exact sh0 | exact sh1 | exact sh115 | exact sh152 | rfl | assumption) (by unfold vp_in; decide) ?_
  refine xt_puti dX12_text_12 kpX12_95 (by first | exact sh0 | exact sh1 | exact sh115 | exact sh152 | rfl | assumption) rfl (by first | rfl | assumption) (by first | rfl | assumption) ?_
  refine xt_aload_n _ dX12_text_15 rfl ?_
  refine xt_getr _ dX12_text_16 kfX12_13 (by first | exact sh0 | exact sh1 | exact sh115 | exact sh152 | rfl | assumption) rfl ?_
  refine xt_iconst (0) dX12_text_19 (by decide) ?_
  refine xt_iconst (0) dX12_text_20 (by decide) ?_
  refine xt_ast dX12_text_21 (by first | exact sh0 | exact sh1 | exact sh115 | exact sh152 | rfl | assumption) (by unfold vp_in; decide) ?_
  refine xt_aload_n _ dX12_text_22 rfl ?_
  refine xt_getr _ dX12_text_23 kfX12_17 (by first | exact sh0 | exact sh1 | exact sh115 | exact sh152 | rfl | assumption) rfl ?_
  refine xt_iconst (0) dX12_text_26 (by decide) ?_
  refine xt_iconst (0) dX12_text_27 (by decide) ?_
  refine xt_ast dX12_text_28 (by first | exact sh0 | exact sh1 | exact sh115 | exact sh152 | rfl | assumption) (by unfold vp_in; decide) ?_
  refine xt_aload_n _ dX12_text_29 rfl ?_
  refine xt_getr _ dX12_text_30 kfX12_20 (by first | exact sh0 | exact sh1 | exact sh115 | exact sh152 | rfl | assumption) rfl ?_
  refine xt_iconst (0) dX12_text_33 (by decide) ?_
  refine xt_iconst (-1) dX12_text_34 (by decide) ?_
  refine xt_ast dX12_text_35 (by first | exact sh0 | exact sh1 | exact sh115 | exact sh152 | rfl | assumption) (by unfold vp_in; decide) ?_
  obtain ⟨μ1, hμ1⟩ : ∃ ν, (x_u (x_u (x_u (x_u (x_u μ 152 (upd (μ 152) 0 0)) 152 (upd ((x_u μ 152 (upd (μ 152) 0 0)) 152) 10 ((x_u μ 152 (upd (μ 152) 0 0)) 154 (0 : Int32).toNatClampNeg))) 154 (upd ((x_u (x_u μ 152 (upd (μ 152) 0 0)) 152 (upd ((x_u μ 152 (upd (μ 152) 0 0)) 152) 10 ((x_u μ 152 (upd (μ 152) 0 0)) 154 (0 : Int32).toNatClampNeg))) 154) (0 : Int32).toNatClampNeg 0)) 155 (upd ((x_u (x_u (x_u μ 152 (upd (μ 152) 0 0)) 152 (upd ((x_u μ 152 (upd (μ 152) 0 0)) 152) 10 ((x_u μ 152 (upd (μ 152) 0 0)) 154 (0 : Int32).toNatClampNeg))) 154 (upd ((x_u (x_u μ 152 (upd (μ 152) 0 0)) 152 (upd ((x_u μ 152 (upd (μ 152) 0 0)) 152) 10 ((x_u μ 152 (upd (μ 152) 0 0)) 154 (0 : Int32).toNatClampNeg))) 154) (0 : Int32).toNatClampNeg 0)) 155) (0 : Int32).toNatClampNeg 0)) 156 (upd ((x_u (x_u (x_u (x_u μ 152 (upd (μ 152) 0 0)) 152 (upd ((x_u μ 152 (upd (μ 152) 0 0)) 152) 10 ((x_u μ 152 (upd (μ 152) 0 0)) 154 (0 : Int32).toNatClampNeg))) 154 (upd ((x_u (x_u μ 152 (upd (μ 152) 0 0)) 152 (upd ((x_u μ 152 (upd (μ 152) 0 0)) 152) 10 ((x_u μ 152 (upd (μ 152) 0 0)) 154 (0 : Int32).toNatClampNeg))) 154) (0 : Int32).toNatClampNeg 0)) 155 (upd ((x_u (x_u (x_u μ 152 (upd (μ 152) 0 0)) 152 (upd ((x_u μ 152 (upd (μ 152) 0 0)) 152) 10 ((x_u μ 152 (upd (μ 152) 0 0)) 154 (0 : Int32).toNatClampNeg))) 154 (upd ((x_u (x_u μ 152 (upd (μ 152) 0 0)) 152 (upd ((x_u μ 152 (upd (μ 152) 0 0)) 152) 10 ((x_u μ 152 (upd (μ 152) 0 0)) 154 (0 : Int32).toNatClampNeg))) 154) (0 : Int32).toNatClampNeg 0)) 155) (0 : Int32).toNatClampNeg 0)) 156) (0 : Int32).toNatClampNeg (-1))) = ν := ⟨_, rfl⟩
  change x_T _ _ _ _ _ _ (x_u (x_u (x_u (x_u (x_u μ 152 (upd (μ 152) 0 0)) 152 (upd ((x_u μ 152 (upd (μ 152) 0 0)) 152) 10 ((x_u μ 152 (upd (μ 152) 0 0)) 154 (0 : Int32).toNatClampNeg))) 154 (upd ((x_u (x_u μ 152 (upd (μ 152) 0 0)) 152 (upd ((x_u μ 152 (upd (μ 152) 0 0)) 152) 10 ((x_u μ 152 (upd (μ 152) 0 0)) 154 (0 : Int32).toNatClampNeg))) 154) (0 : Int32).toNatClampNeg 0)) 155 (upd ((x_u (x_u (x_u μ 152 (upd (μ 152) 0 0)) 152 (upd ((x_u μ 152 (upd (μ 152) 0 0)) 152) 10 ((x_u μ 152 (upd (μ 152) 0 0)) 154 (0 : Int32).toNatClampNeg))) 154 (upd ((x_u (x_u μ 152 (upd (μ 152) 0 0)) 152 (upd ((x_u μ 152 (upd (μ 152) 0 0)) 152) 10 ((x_u μ 152 (upd (μ 152) 0 0)) 154 (0 : Int32).toNatClampNeg))) 154) (0 : Int32).toNatClampNeg 0)) 155) (0 : Int32).toNatClampNeg 0)) 156 (upd ((x_u (x_u (x_u (x_u μ 152 (upd (μ 152) 0 0)) 152 (upd ((x_u μ 152 (upd (μ 152) 0 0)) 152) 10 ((x_u μ 152 (upd (μ 152) 0 0)) 154 (0 : Int32).toNatClampNeg))) 154 (upd ((x_u (x_u μ 152 (upd (μ 152) 0 0)) 152 (upd ((x_u μ 152 (upd (μ 152) 0 0)) 152) 10 ((x_u μ 152 (upd (μ 152) 0 0)) 154 (0 : Int32).toNatClampNeg))) 154) (0 : Int32).toNatClampNeg 0)) 155 (upd ((x_u (x_u (x_u μ 152 (upd (μ 152) 0 0)) 152 (upd ((x_u μ 152 (upd (μ 152) 0 0)) 152) 10 ((x_u μ 152 (upd (μ 152) 0 0)) 154 (0 : Int32).toNatClampNeg))) 154 (upd ((x_u (x_u μ 152 (upd (μ 152) 0 0)) 152 (upd ((x_u μ 152 (upd (μ 152) 0 0)) 152) 10 ((x_u μ 152 (upd (μ 152) 0 0)) 154 (0 : Int32).toNatClampNeg))) 154) (0 : Int32).toNatClampNeg 0)) 155) (0 : Int32).toNatClampNeg 0)) 156) (0 : Int32).toNatClampNeg (-1))) _ _
  rw [hμ1]
  have g10 : μ1 152 10 = nI n := by rw [← hμ1, x_u_ne (by decide), x_u_ne (by decide), x_u_ne (by decide), x_u_eq, pk_us, x_u_ne (by decide)]; exact e154
  have g154 : μ1 154 = upd (μ 154) 0 0 := by rw [← hμ1, x_u_ne (by decide), x_u_ne (by decide), x_u_eq, x_u_ne (by decide), x_u_ne (by decide)]; rfl
  have g155 : μ1 155 = upd (μ 155) 0 0 := by rw [← hμ1, x_u_ne (by decide), x_u_eq, x_u_ne (by decide), x_u_ne (by decide), x_u_ne (by decide)]; rfl
  have g156 : μ1 156 = upd (μ 156) 0 (-1) := by rw [← hμ1, x_u_eq, x_u_ne (by decide), x_u_ne (by decide), x_u_ne (by decide), x_u_ne (by decide)]; rfl
  have gf : ∀ a, a ≠ 152 → a ≠ 154 → a ≠ 155 → a ≠ 156 → μ1 a = μ a := fun a h1 h2 h3 h4 => by rw [← hμ1, x_u_ne h4, x_u_ne h3, x_u_ne h2, x_u_ne h1, x_u_ne h1]
  have g157 : μ1 157 1 = nI 1 := by rw [gf 157 (by decide) (by decide) (by decide) (by decide)]; exact e157
  have hB1 : m_B μ1 T n := ⟨g10, hn, by rw [gf 153 (by decide) (by decide) (by decide) (by decide)]; exact hT, hT0⟩
  refine xt_iload_n _ dX12_text_36 rfl ?_
  refine xt_iconst (0) dX12_text_37 (by decide) ?_
  refine xt_iconst (2) dX12_text_38 (by decide) ?_
  refine xt_cS _ dX12_text_39 klX12_84 (tX12_in sc _ _ _ _ _ _) rfl rfl (Nat.le_of_ble_eq_true rfl) ?_
  refine xt_if_eq 72 dX12_text_42 (by decide) (fun q => absurd q (by decide)) (fun _ => ?_)
  refine xt_iload_n _ dX12_text_45 rfl ?_
  refine xt_iconst (-1) dX12_text_46 (by decide) ?_
  refine xt_icmp_ne 63 dX12_text_47 (by decide) (fun q => absurd (by decide) q) (fun _ => ?_)
  refine xt_aload_n _ dX12_text_50 rfl ?_
  refine xt_getr _ dX12_text_51 kfX12_23 (by first | exact sh0 | exact sh1 | exact sh115 | exact sh152 | rfl | assumption) rfl ?_
  refine xt_iload_n _ dX12_text_54 rfl ?_
  refine xt_ald dX12_text_55 (by first | exact sh0 | exact sh1 | exact sh115 | exact sh152 | rfl | assumption) (by unfold vp_in; decide) ?_
  refine xt_iconst (2) dX12_text_56 (by decide) ?_
  rw [show μ1 157 (1 : Int32).toNatClampNeg = nI 1 from g157]
  refine xt_icmp_ne 75 dX12_text_57 (by decide) (fun _ => ?_) (fun q => absurd q (by decide))
  refine xt_aload_n _ dX12_text_75 rfl ?_
  refine xt_iload_n _ dX12_text_76 rfl ?_
  refine xt_callV _ dX12_text_77 klX12_234 (tX12_readText1 sc _ μ1 w T n hB1) sh152 rfl rfl (Nat.le_of_ble_eq_true rfl) (fun r2 μ2 w2 q2 => ?_)
  obtain ⟨rfl, k155, k156, kD, kj, kf⟩ := q2
  by_cases hzF : (s_flt T n 1).1 = 0
  · rw [if_pos hzF]
    change x_T _ _ _ _ _ (.int 1 :: _) _ _ _
    refine xt_if_ne 85 dX12_text_80 (by decide) (fun _ => ?_) (fun q => absurd q (by decide))
    refine xt_iload_n _ dX12_text_85 rfl ?_
    refine xt_iconst (-1) dX12_text_86 (by decide) ?_
    refine xt_icmp_ne 99 dX12_text_87 (by decide) (fun q => absurd (by decide) q) (fun _ => ?_)
    refine xt_aload_n _ dX12_text_90 rfl ?_
    refine xt_getr _ dX12_text_91 kfX12_23 (by first | exact sh0 | exact sh1 | exact sh115 | exact sh152 | rfl | assumption) rfl ?_
    refine xt_iload_n _ dX12_text_94 rfl ?_
    refine xt_ald dX12_text_95 (by first | exact sh0 | exact sh1 | exact sh115 | exact sh152 | rfl | assumption) (by unfold vp_in; decide) ?_
    refine xt_goto 100 dX12_text_96 (by decide) ?_
    rw [show μ2 157 (1 : Int32).toNatClampNeg = nI 1 from (by rw [kf 157 (by decide) (by decide) (by decide) (by decide) (by decide)]; exact g157)]
    change x_T _ _ _ _ _ (.int 1 :: _) _ _ _
    refine xt_istore_n dX12_text_100 (by decide) rfl ?_
    change x_T _ _ _ _ [_, _, _, _] _ _ _ _
    refine xt_aload_n _ dX12_text_101 rfl ?_
    refine xt_getr _ dX12_text_102 kfX12_23 (by first | exact sh0 | exact sh1 | exact sh115 | exact sh152 | rfl | assumption) rfl ?_
    refine xt_iload_n _ dX12_text_105 rfl ?_
    refine xt_dup2 dX12_text_106 rfl rfl ?_
    refine xt_ald dX12_text_107 (by first | exact sh0 | exact sh1 | exact sh115 | exact sh152 | rfl | assumption) (by unfold vp_in; decide) ?_
    refine xt_iload_n _ dX12_text_108 rfl ?_
    refine xt_iconst (-1) dX12_text_109 (by decide) ?_
    refine xt_icmp_ne 117 dX12_text_110 (by decide) (fun q => absurd (by decide) q) (fun _ => ?_)
    refine xt_iconst (1) dX12_text_113 (by decide) ?_
    refine xt_goto 118 dX12_text_114 (by decide) ?_
    refine xt_iadd dX12_text_118 ?_
    refine xt_ast dX12_text_119 (by first | exact sh0 | exact sh1 | exact sh115 | exact sh152 | rfl | assumption) (by unfold vp_in; decide) ?_
    refine xt_iload_n _ dX12_text_120 rfl ?_
    refine xt_if_ne 138 dX12_text_121 (by decide) (fun _ => ?_) (fun q => absurd q (by decide))
    refine xt_iload_n _ dX12_text_138 rfl ?_
    refine xt_iconst (1) dX12_text_139 (by decide) ?_
    refine xt_icmp_ne 158 dX12_text_140 (by decide) (fun q => absurd (by decide) q) (fun _ => ?_)
    refine xt_aload_n _ dX12_text_143 rfl ?_
    refine xt_aload_n _ dX12_text_144 rfl ?_
    refine xt_getr _ dX12_text_145 kfX12_29 (by first | exact sh0 | exact sh1 | exact sh115 | exact sh152 | rfl | assumption) rfl ?_
    refine xt_sipush (161) dX12_text_148 (by decide) ?_
    refine xt_iload_n _ dX12_text_151 rfl ?_
    refine xt_callV _ dX12_text_152 klX12_237 (tX12_store sc _ (x_u μ2 157 (upd (μ2 157) (1 : Int32).toNatClampNeg (μ2 157 (1 : Int32).toNatClampNeg + 1))) _ 159 1288 161 1 rfl (by decide) (by decide) (by decide) (by decide)) sh152 rfl rfl (Nat.le_of_ble_eq_true rfl) (fun r6 μ6 w6 q6 => ?_)
    obtain ⟨rfl, s1, s2, sf⟩ := q6
    change x_T _ _ _ _ _ _ _ _ _
    refine xt_goto 169 dX12_text_155 (by decide) ?_
    refine xt_iload_n _ dX12_text_169 rfl ?_
    refine xt_iret .int dX12_text_170 rfl (by first | rfl | assumption) ?_
    have q157 : μ2 157 = μ 157 := by rw [kf 157 (by decide) (by decide) (by decide) (by decide) (by decide), gf 157 (by decide) (by decide) (by decide) (by decide)]
    refine ⟨by rw [if_pos hzF], ?_, ?_, ?_, fun j hj => ⟨?_, ?_, ?_⟩, fun z => absurd hzF z, fun _ => ⟨fun i hi => ?_, fun j hj => ?_, ?_, fun a h1 h2 h3 h4 h5 h6 h7 h8 => ?_⟩⟩
    · rw [sf 154 (by decide), x_u_ne (by decide), kf 154 (by decide) (by decide) (by decide) (by decide) (by decide), g154, pk_us]
    · rw [sf 155 (by decide), x_u_ne (by decide)]; exact k155
    · rw [sf 156 (by decide), x_u_ne (by decide)]; exact k156
    · rw [sf 154 (by decide), x_u_ne (by decide), kf 154 (by decide) (by decide) (by decide) (by decide) (by decide), g154, pk_un hj]
    · rw [sf 155 (by decide), x_u_ne (by decide), (kj j hj).1, g155, pk_un hj]
    · rw [sf 156 (by decide), x_u_ne (by decide), (kj j hj).2, g156, pk_un hj]
    · rw [s1 i hi, x_u_ne (by decide)]; exact kD hzF i (by omega)
    · rw [s2 j hj, x_u_ne (by decide), kf 159 (by decide) (by decide) (by decide) (by decide) (by decide), gf 159 (by decide) (by decide) (by decide) (by decide)]
    · rw [sf 157 (by decide), x_u_eq, q157]
      show upd (μ 157) 1 (μ 157 1 + 1) = _
      rw [e157]; rfl
    · rw [sf a h6, x_u_ne h5, kf a h1 h3 h4 h7 h8]; exact gf a h1 h2 h3 h4
  · rw [if_neg hzF]
    change x_T _ _ _ _ _ (.int 0 :: _) _ _ _
    refine xt_if_ne 85 dX12_text_80 (by decide) (fun q => absurd (by decide) q) (fun _ => ?_)
    refine xt_iconst (-1) dX12_text_83 (by decide) ?_
    refine xt_iret .int dX12_text_84 rfl (by first | rfl | assumption) ?_
    refine ⟨by rw [if_neg hzF], by rw [kf 154 (by decide) (by decide) (by decide) (by decide) (by decide), g154, pk_us], k155, k156, fun j hj => ⟨by rw [kf 154 (by decide) (by decide) (by decide) (by decide) (by decide), g154, pk_un hj], by rw [(kj j hj).1, g155, pk_un hj], by rw [(kj j hj).2, g156, pk_un hj]⟩, fun _ a h1 h2 h3 h4 h5 h6 => by rw [kf a h1 h3 h4 h5 h6]; exact gf a h1 h2 h3 h4, fun z => absurd z hzF⟩
set_option maxHeartbeats 1000000 in
theorem tX12_text11B (n : Nat) (T : Nat → Nat) (hn : n ≤ 600) (e154 : μ 154 0 = nI n) (hT : ∀ i, i < n → μ 153 i &&& 255 = nI (T i) ∧ T i < 256) (hT0 : ∀ i, n ≤ i → T i = 0) (c : Nat) (hc : c ≤ 2) (hfc : 1 < c) (e157 : μ 157 1 = nI c) : x_K sc (d + 8) mX12_text [.ref 152, .int 1, .int 1] μ w (fun r μ' _ => r = some (.int (if (s_flt T n 1).1 = 0 then 1 else -1)) ∧ μ' 154 0 = 0 ∧ μ' 155 0 = nI (s_flt T n 1).1 ∧ μ' 156 0 = (if (s_flt T n 1).1 = 0 then -1 else nI (s_flt T n 1).2) ∧ (∀ j, j ≠ 0 → μ' 154 j = μ 154 j ∧ μ' 155 j = μ 155 j ∧ μ' 156 j = μ 156 j) ∧ ((s_flt T n 1).1 ≠ 0 → ∀ a, a ≠ 152 → a ≠ 154 → a ≠ 155 → a ≠ 156 → a ≠ 161 → a ≠ 162 → μ' a = μ a) ∧ ((s_flt T n 1).1 = 0 → (∀ i, i < 161 → μ' 159 (161 * 1 + i) = s_tv 1 i ((s_rr T n 1).2.2.2.1 i)) ∧ (∀ j, j < 161 * 1 ∨ 161 * 1 + 161 ≤ j → μ' 159 j = μ 159 j) ∧ μ' 157 = upd (μ 157) 1 (nI c) ∧ ∀ a, a ≠ 152 → a ≠ 154 → a ≠ 155 → a ≠ 156 → a ≠ 157 → a ≠ 159 → a ≠ 161 → a ≠ 162 → μ' a = μ a)) := by
  refine x_K.of (by decide) (Nat.le_of_ble_eq_true rfl) ?_
  show x_T sc (d + 8) mX12_text 0 [.ref 152, .int 1, .int 1, .retAddr 0] [] μ w _
  refine xt_aload_n _ dX12_text_0 rfl ?_
  refine xt_iconst (0) dX12_text_1 (by decide) ?_
  refine xt_puti dX12_text_2 kpX12_72 (by first | exact sh0 | exact sh1 | exact sh115 | exact sh152 | rfl | assumption) rfl (by first | rfl | assumption) (by first | rfl | assumption) ?_
  refine xt_aload_n _ dX12_text_5 rfl ?_
  refine xt_aload_n _ dX12_text_6 rfl ?_
  refine xt_getr _ dX12_text_7 kfX12_13 (by first | exact sh0 | exact sh1 | exact sh115 | exact sh152 | rfl | assumption) rfl ?_
  refine xt_iconst (0) dX12_text_10 (by decide) ?_
  refine xt_ald dX12_text_11 (by first | exact sh0 | exact sh1 | exact sh115 | exact sh152 | rfl | assumption) (by unfold vp_in; decide) ?_
  refine xt_puti dX12_text_12 kpX12_95 (by first | exact sh0 | exact sh1 | exact sh115 | exact sh152 | rfl | assumption) rfl (by first | rfl | assumption) (by first | rfl | assumption) ?_
  refine xt_aload_n _ dX12_text_15 rfl ?_
  refine xt_getr _ dX12_text_16 kfX12_13 (by first | exact sh0 | exact sh1 | exact sh115 | exact sh152 | rfl | assumption) rfl ?_
  refine xt_iconst (0) dX12_text_19 (by decide) ?_
  refine xt_iconst (0) dX12_text_20 (by decide) ?_
  refine xt_ast dX12_text_21 (by first | exact sh0 | exact sh1 | exact sh115 | exact sh152 | rfl | assumption) (by unfold vp_in; decide) ?_
  refine xt_aload_n _ dX12_text_22 rfl ?_
  refine xt_getr _ dX12_text_23 kfX12_17 (by first | exact sh0 | exact sh1 | exact sh115 | exact sh152 | rfl | assumption) rfl ?_
  refine xt_iconst (0) dX12_text_26 (by decide) ?_
  refine xt_iconst (0) dX12_text_27 (by decide) ?_
  refine xt_ast dX12_text_28 (by first | exact sh0 | exact sh1 | exact sh115 | exact sh152 | rfl | assumption) (by unfold vp_in; decide) ?_
  refine xt_aload_n _ dX12_text_29 rfl ?_
  refine xt_getr _ dX12_text_30 kfX12_20 (by first | exact sh0 | exact sh1 | exact sh115 | exact sh152 | rfl | assumption) rfl ?_
  refine xt_iconst (0) dX12_text_33 (by decide) ?_
  refine xt_iconst (-1) dX12_text_34 (by decide) ?_
  refine xt_ast dX12_text_35 (by first | exact sh0 | exact sh1 | exact sh115 | exact sh152 | rfl | assumption) (by unfold vp_in; decide) ?_
  obtain ⟨μ1, hμ1⟩ : ∃ ν, (x_u (x_u (x_u (x_u (x_u μ 152 (upd (μ 152) 0 0)) 152 (upd ((x_u μ 152 (upd (μ 152) 0 0)) 152) 10 ((x_u μ 152 (upd (μ 152) 0 0)) 154 (0 : Int32).toNatClampNeg))) 154 (upd ((x_u (x_u μ 152 (upd (μ 152) 0 0)) 152 (upd ((x_u μ 152 (upd (μ 152) 0 0)) 152) 10 ((x_u μ 152 (upd (μ 152) 0 0)) 154 (0 : Int32).toNatClampNeg))) 154) (0 : Int32).toNatClampNeg 0)) 155 (upd ((x_u (x_u (x_u μ 152 (upd (μ 152) 0 0)) 152 (upd ((x_u μ 152 (upd (μ 152) 0 0)) 152) 10 ((x_u μ 152 (upd (μ 152) 0 0)) 154 (0 : Int32).toNatClampNeg))) 154 (upd ((x_u (x_u μ 152 (upd (μ 152) 0 0)) 152 (upd ((x_u μ 152 (upd (μ 152) 0 0)) 152) 10 ((x_u μ 152 (upd (μ 152) 0 0)) 154 (0 : Int32).toNatClampNeg))) 154) (0 : Int32).toNatClampNeg 0)) 155) (0 : Int32).toNatClampNeg 0)) 156 (upd ((x_u (x_u (x_u (x_u μ 152 (upd (μ 152) 0 0)) 152 (upd ((x_u μ 152 (upd (μ 152) 0 0)) 152) 10 ((x_u μ 152 (upd (μ 152) 0 0)) 154 (0 : Int32).toNatClampNeg))) 154 (upd ((x_u (x_u μ 152 (upd (μ 152) 0 0)) 152 (upd ((x_u μ 152 (upd (μ 152) 0 0)) 152) 10 ((x_u μ 152 (upd (μ 152) 0 0)) 154 (0 : Int32).toNatClampNeg))) 154) (0 : Int32).toNatClampNeg 0)) 155 (upd ((x_u (x_u (x_u μ 152 (upd (μ 152) 0 0)) 152 (upd ((x_u μ 152 (upd (μ 152) 0 0)) 152) 10 ((x_u μ 152 (upd (μ 152) 0 0)) 154 (0 : Int32).toNatClampNeg))) 154 (upd ((x_u (x_u μ 152 (upd (μ 152) 0 0)) 152 (upd ((x_u μ 152 (upd (μ 152) 0 0)) 152) 10 ((x_u μ 152 (upd (μ 152) 0 0)) 154 (0 : Int32).toNatClampNeg))) 154) (0 : Int32).toNatClampNeg 0)) 155) (0 : Int32).toNatClampNeg 0)) 156) (0 : Int32).toNatClampNeg (-1))) = ν := ⟨_, rfl⟩
  change x_T _ _ _ _ _ _ (x_u (x_u (x_u (x_u (x_u μ 152 (upd (μ 152) 0 0)) 152 (upd ((x_u μ 152 (upd (μ 152) 0 0)) 152) 10 ((x_u μ 152 (upd (μ 152) 0 0)) 154 (0 : Int32).toNatClampNeg))) 154 (upd ((x_u (x_u μ 152 (upd (μ 152) 0 0)) 152 (upd ((x_u μ 152 (upd (μ 152) 0 0)) 152) 10 ((x_u μ 152 (upd (μ 152) 0 0)) 154 (0 : Int32).toNatClampNeg))) 154) (0 : Int32).toNatClampNeg 0)) 155 (upd ((x_u (x_u (x_u μ 152 (upd (μ 152) 0 0)) 152 (upd ((x_u μ 152 (upd (μ 152) 0 0)) 152) 10 ((x_u μ 152 (upd (μ 152) 0 0)) 154 (0 : Int32).toNatClampNeg))) 154 (upd ((x_u (x_u μ 152 (upd (μ 152) 0 0)) 152 (upd ((x_u μ 152 (upd (μ 152) 0 0)) 152) 10 ((x_u μ 152 (upd (μ 152) 0 0)) 154 (0 : Int32).toNatClampNeg))) 154) (0 : Int32).toNatClampNeg 0)) 155) (0 : Int32).toNatClampNeg 0)) 156 (upd ((x_u (x_u (x_u (x_u μ 152 (upd (μ 152) 0 0)) 152 (upd ((x_u μ 152 (upd (μ 152) 0 0)) 152) 10 ((x_u μ 152 (upd (μ 152) 0 0)) 154 (0 : Int32).toNatClampNeg))) 154 (upd ((x_u (x_u μ 152 (upd (μ 152) 0 0)) 152 (upd ((x_u μ 152 (upd (μ 152) 0 0)) 152) 10 ((x_u μ 152 (upd (μ 152) 0 0)) 154 (0 : Int32).toNatClampNeg))) 154) (0 : Int32).toNatClampNeg 0)) 155 (upd ((x_u (x_u (x_u μ 152 (upd (μ 152) 0 0)) 152 (upd ((x_u μ 152 (upd (μ 152) 0 0)) 152) 10 ((x_u μ 152 (upd (μ 152) 0 0)) 154 (0 : Int32).toNatClampNeg))) 154 (upd ((x_u (x_u μ 152 (upd (μ 152) 0 0)) 152 (upd ((x_u μ 152 (upd (μ 152) 0 0)) 152) 10 ((x_u μ 152 (upd (μ 152) 0 0)) 154 (0 : Int32).toNatClampNeg))) 154) (0 : Int32).toNatClampNeg 0)) 155) (0 : Int32).toNatClampNeg 0)) 156) (0 : Int32).toNatClampNeg (-1))) _ _
  rw [hμ1]
  have g10 : μ1 152 10 = nI n := by rw [← hμ1, x_u_ne (by decide), x_u_ne (by decide), x_u_ne (by decide), x_u_eq, pk_us, x_u_ne (by decide)]; exact e154
  have g154 : μ1 154 = upd (μ 154) 0 0 := by rw [← hμ1, x_u_ne (by decide), x_u_ne (by decide), x_u_eq, x_u_ne (by decide), x_u_ne (by decide)]; rfl
  have g155 : μ1 155 = upd (μ 155) 0 0 := by rw [← hμ1, x_u_ne (by decide), x_u_eq, x_u_ne (by decide), x_u_ne (by decide), x_u_ne (by decide)]; rfl
  have g156 : μ1 156 = upd (μ 156) 0 (-1) := by rw [← hμ1, x_u_eq, x_u_ne (by decide), x_u_ne (by decide), x_u_ne (by decide), x_u_ne (by decide)]; rfl
  have gf : ∀ a, a ≠ 152 → a ≠ 154 → a ≠ 155 → a ≠ 156 → μ1 a = μ a := fun a h1 h2 h3 h4 => by rw [← hμ1, x_u_ne h4, x_u_ne h3, x_u_ne h2, x_u_ne h1, x_u_ne h1]
  have g157 : μ1 157 1 = nI c := by rw [gf 157 (by decide) (by decide) (by decide) (by decide)]; exact e157
  have hB1 : m_B μ1 T n := ⟨g10, hn, by rw [gf 153 (by decide) (by decide) (by decide) (by decide)]; exact hT, hT0⟩
  refine xt_iload_n _ dX12_text_36 rfl ?_
  refine xt_iconst (0) dX12_text_37 (by decide) ?_
  refine xt_iconst (2) dX12_text_38 (by decide) ?_
  refine xt_cS _ dX12_text_39 klX12_84 (tX12_in sc _ _ _ _ _ _) rfl rfl (Nat.le_of_ble_eq_true rfl) ?_
  refine xt_if_eq 72 dX12_text_42 (by decide) (fun q => absurd q (by decide)) (fun _ => ?_)
  refine xt_iload_n _ dX12_text_45 rfl ?_
  refine xt_iconst (-1) dX12_text_46 (by decide) ?_
  refine xt_icmp_ne 63 dX12_text_47 (by decide) (fun _ => ?_) (fun q => absurd q (by decide))
  refine xt_aload_n _ dX12_text_63 rfl ?_
  refine xt_iload_n _ dX12_text_64 rfl ?_
  refine xt_iload_n _ dX12_text_65 rfl ?_
  refine xt_cV _ dX12_text_66 klX12_231 (tX12_is sc _ _ _ 1 c (by decide) (by omega) g157 1) sh152 rfl rfl (Nat.le_of_ble_eq_true rfl) ?_
  rw [if_neg (show ¬ ((1 : Int32) < 0) by decide), if_pos (show (1 : Int32) < nI c from nI_lt (a := 1) (by omega) (by omega))]
  refine xt_if_ne 75 dX12_text_69 (by decide) (fun _ => ?_) (fun q => absurd q (by decide))
  refine xt_aload_n _ dX12_text_75 rfl ?_
  refine xt_iload_n _ dX12_text_76 rfl ?_
  refine xt_callV _ dX12_text_77 klX12_234 (tX12_readText1 sc _ μ1 w T n hB1) sh152 rfl rfl (Nat.le_of_ble_eq_true rfl) (fun r2 μ2 w2 q2 => ?_)
  obtain ⟨rfl, k155, k156, kD, kj, kf⟩ := q2
  by_cases hzF : (s_flt T n 1).1 = 0
  · rw [if_pos hzF]
    change x_T _ _ _ _ _ (.int 1 :: _) _ _ _
    refine xt_if_ne 85 dX12_text_80 (by decide) (fun _ => ?_) (fun q => absurd q (by decide))
    refine xt_iload_n _ dX12_text_85 rfl ?_
    refine xt_iconst (-1) dX12_text_86 (by decide) ?_
    refine xt_icmp_ne 99 dX12_text_87 (by decide) (fun _ => ?_) (fun q => absurd q (by decide))
    refine xt_iload_n _ dX12_text_99 rfl ?_
    refine xt_istore_n dX12_text_100 (by decide) rfl ?_
    change x_T _ _ _ _ [_, _, _, _] _ _ _ _
    refine xt_aload_n _ dX12_text_101 rfl ?_
    refine xt_getr _ dX12_text_102 kfX12_23 (by first | exact sh0 | exact sh1 | exact sh115 | exact sh152 | rfl | assumption) rfl ?_
    refine xt_iload_n _ dX12_text_105 rfl ?_
    refine xt_dup2 dX12_text_106 rfl rfl ?_
    refine xt_ald dX12_text_107 (by first | exact sh0 | exact sh1 | exact sh115 | exact sh152 | rfl | assumption) (by unfold vp_in; decide) ?_
    refine xt_iload_n _ dX12_text_108 rfl ?_
    refine xt_iconst (-1) dX12_text_109 (by decide) ?_
    refine xt_icmp_ne 117 dX12_text_110 (by decide) (fun _ => ?_) (fun q => absurd q (by decide))
    refine xt_iconst (0) dX12_text_117 (by decide) ?_
    refine xt_iadd dX12_text_118 ?_
    refine xt_ast dX12_text_119 (by first | exact sh0 | exact sh1 | exact sh115 | exact sh152 | rfl | assumption) (by unfold vp_in; decide) ?_
    refine xt_iload_n _ dX12_text_120 rfl ?_
    refine xt_if_ne 138 dX12_text_121 (by decide) (fun _ => ?_) (fun q => absurd q (by decide))
    refine xt_iload_n _ dX12_text_138 rfl ?_
    refine xt_iconst (1) dX12_text_139 (by decide) ?_
    refine xt_icmp_ne 158 dX12_text_140 (by decide) (fun q => absurd (by decide) q) (fun _ => ?_)
    refine xt_aload_n _ dX12_text_143 rfl ?_
    refine xt_aload_n _ dX12_text_144 rfl ?_
    refine xt_getr _ dX12_text_145 kfX12_29 (by first | exact sh0 | exact sh1 | exact sh115 | exact sh152 | rfl | assumption) rfl ?_
    refine xt_sipush (161) dX12_text_148 (by decide) ?_
    refine xt_iload_n _ dX12_text_151 rfl ?_
    refine xt_callV _ dX12_text_152 klX12_237 (tX12_store sc _ (x_u μ2 157 (upd (μ2 157) (1 : Int32).toNatClampNeg (μ2 157 (1 : Int32).toNatClampNeg + 0))) _ 159 1288 161 1 rfl (by decide) (by decide) (by decide) (by decide)) sh152 rfl rfl (Nat.le_of_ble_eq_true rfl) (fun r6 μ6 w6 q6 => ?_)
    obtain ⟨rfl, s1, s2, sf⟩ := q6
    change x_T _ _ _ _ _ _ _ _ _
    refine xt_goto 169 dX12_text_155 (by decide) ?_
    refine xt_iload_n _ dX12_text_169 rfl ?_
    refine xt_iret .int dX12_text_170 rfl (by first | rfl | assumption) ?_
    have q157 : μ2 157 = μ 157 := by rw [kf 157 (by decide) (by decide) (by decide) (by decide) (by decide), gf 157 (by decide) (by decide) (by decide) (by decide)]
    refine ⟨by rw [if_pos hzF], ?_, ?_, ?_, fun j hj => ⟨?_, ?_, ?_⟩, fun z => absurd hzF z, fun _ => ⟨fun i hi => ?_, fun j hj => ?_, ?_, fun a h1 h2 h3 h4 h5 h6 h7 h8 => ?_⟩⟩
    · rw [sf 154 (by decide), x_u_ne (by decide), kf 154 (by decide) (by decide) (by decide) (by decide) (by decide), g154, pk_us]
    · rw [sf 155 (by decide), x_u_ne (by decide)]; exact k155
    · rw [sf 156 (by decide), x_u_ne (by decide)]; exact k156
    · rw [sf 154 (by decide), x_u_ne (by decide), kf 154 (by decide) (by decide) (by decide) (by decide) (by decide), g154, pk_un hj]
    · rw [sf 155 (by decide), x_u_ne (by decide), (kj j hj).1, g155, pk_un hj]
    · rw [sf 156 (by decide), x_u_ne (by decide), (kj j hj).2, g156, pk_un hj]
    · rw [s1 i hi, x_u_ne (by decide)]; exact kD hzF i (by omega)
    · rw [s2 j hj, x_u_ne (by decide), kf 159 (by decide) (by decide) (by decide) (by decide) (by decide), gf 159 (by decide) (by decide) (by decide) (by decide)]
    · rw [sf 157 (by decide), x_u_eq, q157]
      show upd (μ 157) 1 (μ 157 1 + 0) = _
      rw [e157]; congr 1; exact Int32.add_zero _
    · rw [sf a h6, x_u_ne h5, kf a h1 h3 h4 h7 h8]; exact gf a h1 h2 h3 h4
  · rw [if_neg hzF]
    change x_T _ _ _ _ _ (.int 0 :: _) _ _ _
    refine xt_if_ne 85 dX12_text_80 (by decide) (fun q => absurd (by decide) q) (fun _ => ?_)
    refine xt_iconst (-1) dX12_text_83 (by decide) ?_
    refine xt_iret .int dX12_text_84 rfl (by first | rfl | assumption) ?_
    refine ⟨by rw [if_neg hzF], by rw [kf 154 (by decide) (by decide) (by decide) (by decide) (by decide), g154, pk_us], k155, k156, fun j hj => ⟨by rw [kf 154 (by decide) (by decide) (by decide) (by decide) (by decide), g154, pk_un hj], by rw [(kj j hj).1, g155, pk_un hj], by rw [(kj j hj).2, g156, pk_un hj]⟩, fun _ a h1 h2 h3 h4 h5 h6 => by rw [kf a h1 h3 h4 h5 h6]; exact gf a h1 h2 h3 h4, fun z => absurd z hzF⟩
set_option maxHeartbeats 1000000 in
theorem tX12_text20A (n : Nat) (T : Nat → Nat) (hn : n ≤ 600) (e154 : μ 154 0 = nI n) (hT : ∀ i, i < n → μ 153 i &&& 255 = nI (T i) ∧ T i < 256) (hT0 : ∀ i, n ≤ i → T i = 0) (e157 : μ 157 2 = nI 0) : x_K sc (d + 8) mX12_text [.ref 152, .int 2, .int (-1)] μ w (fun r μ' _ => r = some (.int (if (s_flt T n 2).1 = 0 then 0 else -1)) ∧ μ' 154 0 = 0 ∧ μ' 155 0 = nI (s_flt T n 2).1 ∧ μ' 156 0 = (if (s_flt T n 2).1 = 0 then -1 else nI (s_flt T n 2).2) ∧ (∀ j, j ≠ 0 → μ' 154 j = μ 154 j ∧ μ' 155 j = μ 155 j ∧ μ' 156 j = μ 156 j) ∧ ((s_flt T n 2).1 ≠ 0 → ∀ a, a ≠ 152 → a ≠ 154 → a ≠ 155 → a ≠ 156 → a ≠ 161 → a ≠ 162 → μ' a = μ a) ∧ ((s_flt T n 2).1 = 0 → (∀ i, i < 18 → μ' 160 (18 * 0 + i) = s_tv 2 i ((s_rr T n 2).2.2.2.1 i)) ∧ (∀ j, j < 18 * 0 ∨ 18 * 0 + 18 ≤ j → μ' 160 j = μ 160 j) ∧ μ' 157 = upd (μ 157) 2 (nI 1) ∧ ∀ a, a ≠ 152 → a ≠ 154 → a ≠ 155 → a ≠ 156 → a ≠ 157 → a ≠ 160 → a ≠ 161 → a ≠ 162 → μ' a = μ a)) := by
  refine x_K.of (by decide) (Nat.le_of_ble_eq_true rfl) ?_
  show x_T sc (d + 8) mX12_text 0 [.ref 152, .int 2, .int (-1), .retAddr 0] [] μ w _
  refine xt_aload_n _ dX12_text_0 rfl ?_
  refine xt_iconst (0) dX12_text_1 (by decide) ?_
  refine xt_puti dX12_text_2 kpX12_72 (by first | exact sh0 | exact sh1 | exact sh115 | exact sh152 | rfl | assumption) rfl (by first | rfl | assumption) (by first | rfl | assumption) ?_
  refine xt_aload_n _ dX12_text_5 rfl ?_
  refine xt_aload_n _ dX12_text_6 rfl ?_
  refine xt_getr _ dX12_text_7 kfX12_13 (by first | exact sh0 | exact sh1 | exact sh115 | exact sh152 | rfl | assumption) rfl ?_
  refine xt_iconst (0) dX12_text_10 (by decide) ?_
  refine xt_ald dX12_text_11 (by first | exact sh0 | exact sh1 | exact sh115 | exact sh152 | rfl | assumption) (by unfold vp_in; decide) ?_
  refine xt_puti dX12_text_12 kpX12_95 (by first | exact sh0 | exact sh1 | exact sh115 | exact sh152 | rfl | assumption) rfl (by first | rfl | assumption) (by first | rfl | assumption) ?_
  refine xt_aload_n _ dX12_text_15 rfl ?_
  refine xt_getr _ dX12_text_16 kfX12_13 (by first | exact sh0 | exact sh1 | exact sh115 | exact sh152 | rfl | assumption) rfl ?_
  refine xt_iconst (0) dX12_text_19 (by decide) ?_
  refine xt_iconst (0) dX12_text_20 (by decide) ?_
  refine xt_ast dX12_text_21 (by first | exact sh0 | exact sh1 | exact sh115 | exact sh152 | rfl | assumption) (by unfold vp_in; decide) ?_
  refine xt_aload_n _ dX12_text_22 rfl ?_
  refine xt_getr _ dX12_text_23 kfX12_17 (by first | exact sh0 | exact sh1 | exact sh115 | exact sh152 | rfl | assumption) rfl ?_
  refine xt_iconst (0) dX12_text_26 (by decide) ?_
  refine xt_iconst (0) dX12_text_27 (by decide) ?_
  refine xt_ast dX12_text_28 (by first | exact sh0 | exact sh1 | exact sh115 | exact sh152 | rfl | assumption) (by unfold vp_in; decide) ?_
  refine xt_aload_n _ dX12_text_29 rfl ?_
  refine xt_getr _ dX12_text_30 kfX12_20 (by first | exact sh0 | exact sh1 | exact sh115 | exact sh152 | rfl | assumption) rfl ?_
  refine xt_iconst (0) dX12_text_33 (by decide) ?_
  refine xt_iconst (-1) dX12_text_34 (by decide) ?_
  refine xt_ast dX12_text_35 (by first | exact sh0 | exact sh1 | exact sh115 | exact sh152 | rfl | assumption) (by unfold vp_in; decide) ?_
  obtain ⟨μ1, hμ1⟩ : ∃ ν, (x_u (x_u (x_u (x_u (x_u μ 152 (upd (μ 152) 0 0)) 152 (upd ((x_u μ 152 (upd (μ 152) 0 0)) 152) 10 ((x_u μ 152 (upd (μ 152) 0 0)) 154 (0 : Int32).toNatClampNeg))) 154 (upd ((x_u (x_u μ 152 (upd (μ 152) 0 0)) 152 (upd ((x_u μ 152 (upd (μ 152) 0 0)) 152) 10 ((x_u μ 152 (upd (μ 152) 0 0)) 154 (0 : Int32).toNatClampNeg))) 154) (0 : Int32).toNatClampNeg 0)) 155 (upd ((x_u (x_u (x_u μ 152 (upd (μ 152) 0 0)) 152 (upd ((x_u μ 152 (upd (μ 152) 0 0)) 152) 10 ((x_u μ 152 (upd (μ 152) 0 0)) 154 (0 : Int32).toNatClampNeg))) 154 (upd ((x_u (x_u μ 152 (upd (μ 152) 0 0)) 152 (upd ((x_u μ 152 (upd (μ 152) 0 0)) 152) 10 ((x_u μ 152 (upd (μ 152) 0 0)) 154 (0 : Int32).toNatClampNeg))) 154) (0 : Int32).toNatClampNeg 0)) 155) (0 : Int32).toNatClampNeg 0)) 156 (upd ((x_u (x_u (x_u (x_u μ 152 (upd (μ 152) 0 0)) 152 (upd ((x_u μ 152 (upd (μ 152) 0 0)) 152) 10 ((x_u μ 152 (upd (μ 152) 0 0)) 154 (0 : Int32).toNatClampNeg))) 154 (upd ((x_u (x_u μ 152 (upd (μ 152) 0 0)) 152 (upd ((x_u μ 152 (upd (μ 152) 0 0)) 152) 10 ((x_u μ 152 (upd (μ 152) 0 0)) 154 (0 : Int32).toNatClampNeg))) 154) (0 : Int32).toNatClampNeg 0)) 155 (upd ((x_u (x_u (x_u μ 152 (upd (μ 152) 0 0)) 152 (upd ((x_u μ 152 (upd (μ 152) 0 0)) 152) 10 ((x_u μ 152 (upd (μ 152) 0 0)) 154 (0 : Int32).toNatClampNeg))) 154 (upd ((x_u (x_u μ 152 (upd (μ 152) 0 0)) 152 (upd ((x_u μ 152 (upd (μ 152) 0 0)) 152) 10 ((x_u μ 152 (upd (μ 152) 0 0)) 154 (0 : Int32).toNatClampNeg))) 154) (0 : Int32).toNatClampNeg 0)) 155) (0 : Int32).toNatClampNeg 0)) 156) (0 : Int32).toNatClampNeg (-1))) = ν := ⟨_, rfl⟩
  change x_T _ _ _ _ _ _ (x_u (x_u (x_u (x_u (x_u μ 152 (upd (μ 152) 0 0)) 152 (upd ((x_u μ 152 (upd (μ 152) 0 0)) 152) 10 ((x_u μ 152 (upd (μ 152) 0 0)) 154 (0 : Int32).toNatClampNeg))) 154 (upd ((x_u (x_u μ 152 (upd (μ 152) 0 0)) 152 (upd ((x_u μ 152 (upd (μ 152) 0 0)) 152) 10 ((x_u μ 152 (upd (μ 152) 0 0)) 154 (0 : Int32).toNatClampNeg))) 154) (0 : Int32).toNatClampNeg 0)) 155 (upd ((x_u (x_u (x_u μ 152 (upd (μ 152) 0 0)) 152 (upd ((x_u μ 152 (upd (μ 152) 0 0)) 152) 10 ((x_u μ 152 (upd (μ 152) 0 0)) 154 (0 : Int32).toNatClampNeg))) 154 (upd ((x_u (x_u μ 152 (upd (μ 152) 0 0)) 152 (upd ((x_u μ 152 (upd (μ 152) 0 0)) 152) 10 ((x_u μ 152 (upd (μ 152) 0 0)) 154 (0 : Int32).toNatClampNeg))) 154) (0 : Int32).toNatClampNeg 0)) 155) (0 : Int32).toNatClampNeg 0)) 156 (upd ((x_u (x_u (x_u (x_u μ 152 (upd (μ 152) 0 0)) 152 (upd ((x_u μ 152 (upd (μ 152) 0 0)) 152) 10 ((x_u μ 152 (upd (μ 152) 0 0)) 154 (0 : Int32).toNatClampNeg))) 154 (upd ((x_u (x_u μ 152 (upd (μ 152) 0 0)) 152 (upd ((x_u μ 152 (upd (μ 152) 0 0)) 152) 10 ((x_u μ 152 (upd (μ 152) 0 0)) 154 (0 : Int32).toNatClampNeg))) 154) (0 : Int32).toNatClampNeg 0)) 155 (upd ((x_u (x_u (x_u μ 152 (upd (μ 152) 0 0)) 152 (upd ((x_u μ 152 (upd (μ 152) 0 0)) 152) 10 ((x_u μ 152 (upd (μ 152) 0 0)) 154 (0 : Int32).toNatClampNeg))) 154 (upd ((x_u (x_u μ 152 (upd (μ 152) 0 0)) 152 (upd ((x_u μ 152 (upd (μ 152) 0 0)) 152) 10 ((x_u μ 152 (upd (μ 152) 0 0)) 154 (0 : Int32).toNatClampNeg))) 154) (0 : Int32).toNatClampNeg 0)) 155) (0 : Int32).toNatClampNeg 0)) 156) (0 : Int32).toNatClampNeg (-1))) _ _
  rw [hμ1]
  have g10 : μ1 152 10 = nI n := by rw [← hμ1, x_u_ne (by decide), x_u_ne (by decide), x_u_ne (by decide), x_u_eq, pk_us, x_u_ne (by decide)]; exact e154
  have g154 : μ1 154 = upd (μ 154) 0 0 := by rw [← hμ1, x_u_ne (by decide), x_u_ne (by decide), x_u_eq, x_u_ne (by decide), x_u_ne (by decide)]; rfl
  have g155 : μ1 155 = upd (μ 155) 0 0 := by rw [← hμ1, x_u_ne (by decide), x_u_eq, x_u_ne (by decide), x_u_ne (by decide), x_u_ne (by decide)]; rfl
  have g156 : μ1 156 = upd (μ 156) 0 (-1) := by rw [← hμ1, x_u_eq, x_u_ne (by decide), x_u_ne (by decide), x_u_ne (by decide), x_u_ne (by decide)]; rfl
  have gf : ∀ a, a ≠ 152 → a ≠ 154 → a ≠ 155 → a ≠ 156 → μ1 a = μ a := fun a h1 h2 h3 h4 => by rw [← hμ1, x_u_ne h4, x_u_ne h3, x_u_ne h2, x_u_ne h1, x_u_ne h1]
  have g157 : μ1 157 2 = nI 0 := by rw [gf 157 (by decide) (by decide) (by decide) (by decide)]; exact e157
  have hB1 : m_B μ1 T n := ⟨g10, hn, by rw [gf 153 (by decide) (by decide) (by decide) (by decide)]; exact hT, hT0⟩
  refine xt_iload_n _ dX12_text_36 rfl ?_
  refine xt_iconst (0) dX12_text_37 (by decide) ?_
  refine xt_iconst (2) dX12_text_38 (by decide) ?_
  refine xt_cS _ dX12_text_39 klX12_84 (tX12_in sc _ _ _ _ _ _) rfl rfl (Nat.le_of_ble_eq_true rfl) ?_
  refine xt_if_eq 72 dX12_text_42 (by decide) (fun q => absurd q (by decide)) (fun _ => ?_)
  refine xt_iload_n _ dX12_text_45 rfl ?_
  refine xt_iconst (-1) dX12_text_46 (by decide) ?_
  refine xt_icmp_ne 63 dX12_text_47 (by decide) (fun q => absurd (by decide) q) (fun _ => ?_)
  refine xt_aload_n _ dX12_text_50 rfl ?_
  refine xt_getr _ dX12_text_51 kfX12_23 (by first | exact sh0 | exact sh1 | exact sh115 | exact sh152 | rfl | assumption) rfl ?_
  refine xt_iload_n _ dX12_text_54 rfl ?_
  refine xt_ald dX12_text_55 (by first | exact sh0 | exact sh1 | exact sh115 | exact sh152 | rfl | assumption) (by unfold vp_in; decide) ?_
  refine xt_iconst (2) dX12_text_56 (by decide) ?_
  rw [show μ1 157 (2 : Int32).toNatClampNeg = nI 0 from g157]
  refine xt_icmp_ne 75 dX12_text_57 (by decide) (fun _ => ?_) (fun q => absurd q (by decide))
  refine xt_aload_n _ dX12_text_75 rfl ?_
  refine xt_iload_n _ dX12_text_76 rfl ?_
  refine xt_callV _ dX12_text_77 klX12_234 (tX12_readText2 sc _ μ1 w T n hB1) sh152 rfl rfl (Nat.le_of_ble_eq_true rfl) (fun r2 μ2 w2 q2 => ?_)
  obtain ⟨rfl, k155, k156, kD, kj, kf⟩ := q2
  by_cases hzF : (s_flt T n 2).1 = 0
  · rw [if_pos hzF]
    change x_T _ _ _ _ _ (.int 1 :: _) _ _ _
    refine xt_if_ne 85 dX12_text_80 (by decide) (fun _ => ?_) (fun q => absurd q (by decide))
    refine xt_iload_n _ dX12_text_85 rfl ?_
    refine xt_iconst (-1) dX12_text_86 (by decide) ?_
    refine xt_icmp_ne 99 dX12_text_87 (by decide) (fun q => absurd (by decide) q) (fun _ => ?_)
    refine xt_aload_n _ dX12_text_90 rfl ?_
    refine xt_getr _ dX12_text_91 kfX12_23 (by first | exact sh0 | exact sh1 | exact sh115 | exact sh152 | rfl | assumption) rfl ?_
    refine xt_iload_n _ dX12_text_94 rfl ?_
    refine xt_ald dX12_text_95 (by first | exact sh0 | exact sh1 | exact sh115 | exact sh152 | rfl | assumption) (by unfold vp_in; decide) ?_
    refine xt_goto 100 dX12_text_96 (by decide) ?_
    rw [show μ2 157 (2 : Int32).toNatClampNeg = nI 0 from (by rw [kf 157 (by decide) (by decide) (by decide) (by decide) (by decide)]; exact g157)]
    change x_T _ _ _ _ _ (.int 0 :: _) _ _ _
    refine xt_istore_n dX12_text_100 (by decide) rfl ?_
    change x_T _ _ _ _ [_, _, _, _] _ _ _ _
    refine xt_aload_n _ dX12_text_101 rfl ?_
    refine xt_getr _ dX12_text_102 kfX12_23 (by first | exact sh0 | exact sh1 | exact sh115 | exact sh152 | rfl | assumption) rfl ?_
    refine xt_iload_n _ dX12_text_105 rfl ?_
    refine xt_dup2 dX12_text_106 rfl rfl ?_
    refine xt_ald dX12_text_107 (by first | exact sh0 | exact sh1 | exact sh115 | exact sh152 | rfl | assumption) (by unfold vp_in; decide) ?_
    refine xt_iload_n _ dX12_text_108 rfl ?_
    refine xt_iconst (-1) dX12_text_109 (by decide) ?_
    refine xt_icmp_ne 117 dX12_text_110 (by decide) (fun q => absurd (by decide) q) (fun _ => ?_)
    refine xt_iconst (1) dX12_text_113 (by decide) ?_
    refine xt_goto 118 dX12_text_114 (by decide) ?_
    refine xt_iadd dX12_text_118 ?_
    refine xt_ast dX12_text_119 (by first | exact sh0 | exact sh1 | exact sh115 | exact sh152 | rfl | assumption) (by unfold vp_in; decide) ?_
    refine xt_iload_n _ dX12_text_120 rfl ?_
    refine xt_if_ne 138 dX12_text_121 (by decide) (fun _ => ?_) (fun q => absurd q (by decide))
    refine xt_iload_n _ dX12_text_138 rfl ?_
    refine xt_iconst (1) dX12_text_139 (by decide) ?_
    refine xt_icmp_ne 158 dX12_text_140 (by decide) (fun _ => ?_) (fun q => absurd q (by decide))
    refine xt_aload_n _ dX12_text_158 rfl ?_
    refine xt_aload_n _ dX12_text_159 rfl ?_
    refine xt_getr _ dX12_text_160 kfX12_32 (by first | exact sh0 | exact sh1 | exact sh115 | exact sh152 | rfl | assumption) rfl ?_
    refine xt_bipush (18) dX12_text_163 (by decide) ?_
    refine xt_iload_n _ dX12_text_165 rfl ?_
    refine xt_callV _ dX12_text_166 klX12_237 (tX12_store sc _ (x_u μ2 157 (upd (μ2 157) (2 : Int32).toNatClampNeg (μ2 157 (2 : Int32).toNatClampNeg + 1))) _ 160 144 18 0 rfl (by decide) (by decide) (by decide) (by decide)) sh152 rfl rfl (Nat.le_of_ble_eq_true rfl) (fun r6 μ6 w6 q6 => ?_)
    obtain ⟨rfl, s1, s2, sf⟩ := q6
    change x_T _ _ _ _ _ _ _ _ _
    refine xt_iload_n _ dX12_text_169 rfl ?_
    refine xt_iret .int dX12_text_170 rfl (by first | rfl | assumption) ?_
    have q157 : μ2 157 = μ 157 := by rw [kf 157 (by decide) (by decide) (by decide) (by decide) (by decide), gf 157 (by decide) (by decide) (by decide) (by decide)]
    refine ⟨by rw [if_pos hzF], ?_, ?_, ?_, fun j hj => ⟨?_, ?_, ?_⟩, fun z => absurd hzF z, fun _ => ⟨fun i hi => ?_, fun j hj => ?_, ?_, fun a h1 h2 h3 h4 h5 h6 h7 h8 => ?_⟩⟩
    · rw [sf 154 (by decide), x_u_ne (by decide), kf 154 (by decide) (by decide) (by decide) (by decide) (by decide), g154, pk_us]
    · rw [sf 155 (by decide), x_u_ne (by decide)]; exact k155
    · rw [sf 156 (by decide), x_u_ne (by decide)]; exact k156
    · rw [sf 154 (by decide), x_u_ne (by decide), kf 154 (by decide) (by decide) (by decide) (by decide) (by decide), g154, pk_un hj]
    · rw [sf 155 (by decide), x_u_ne (by decide), (kj j hj).1, g155, pk_un hj]
    · rw [sf 156 (by decide), x_u_ne (by decide), (kj j hj).2, g156, pk_un hj]
    · rw [s1 i hi, x_u_ne (by decide)]; exact kD hzF i (by omega)
    · rw [s2 j hj, x_u_ne (by decide), kf 160 (by decide) (by decide) (by decide) (by decide) (by decide), gf 160 (by decide) (by decide) (by decide) (by decide)]
    · rw [sf 157 (by decide), x_u_eq, q157]
      show upd (μ 157) 2 (μ 157 2 + 1) = _
      rw [e157]; rfl
    · rw [sf a h6, x_u_ne h5, kf a h1 h3 h4 h7 h8]; exact gf a h1 h2 h3 h4
  · rw [if_neg hzF]
    change x_T _ _ _ _ _ (.int 0 :: _) _ _ _
    refine xt_if_ne 85 dX12_text_80 (by decide) (fun q => absurd (by decide) q) (fun _ => ?_)
    refine xt_iconst (-1) dX12_text_83 (by decide) ?_
    refine xt_iret .int dX12_text_84 rfl (by first | rfl | assumption) ?_
    refine ⟨by rw [if_neg hzF], by rw [kf 154 (by decide) (by decide) (by decide) (by decide) (by decide), g154, pk_us], k155, k156, fun j hj => ⟨by rw [kf 154 (by decide) (by decide) (by decide) (by decide) (by decide), g154, pk_un hj], by rw [(kj j hj).1, g155, pk_un hj], by rw [(kj j hj).2, g156, pk_un hj]⟩, fun _ a h1 h2 h3 h4 h5 h6 => by rw [kf a h1 h3 h4 h5 h6]; exact gf a h1 h2 h3 h4, fun z => absurd z hzF⟩
set_option maxHeartbeats 1000000 in
theorem tX12_text20B (n : Nat) (T : Nat → Nat) (hn : n ≤ 600) (e154 : μ 154 0 = nI n) (hT : ∀ i, i < n → μ 153 i &&& 255 = nI (T i) ∧ T i < 256) (hT0 : ∀ i, n ≤ i → T i = 0) (c : Nat) (hc : c ≤ 2) (hfc : 0 < c) (e157 : μ 157 2 = nI c) : x_K sc (d + 8) mX12_text [.ref 152, .int 2, .int 0] μ w (fun r μ' _ => r = some (.int (if (s_flt T n 2).1 = 0 then 0 else -1)) ∧ μ' 154 0 = 0 ∧ μ' 155 0 = nI (s_flt T n 2).1 ∧ μ' 156 0 = (if (s_flt T n 2).1 = 0 then -1 else nI (s_flt T n 2).2) ∧ (∀ j, j ≠ 0 → μ' 154 j = μ 154 j ∧ μ' 155 j = μ 155 j ∧ μ' 156 j = μ 156 j) ∧ ((s_flt T n 2).1 ≠ 0 → ∀ a, a ≠ 152 → a ≠ 154 → a ≠ 155 → a ≠ 156 → a ≠ 161 → a ≠ 162 → μ' a = μ a) ∧ ((s_flt T n 2).1 = 0 → (∀ i, i < 18 → μ' 160 (18 * 0 + i) = s_tv 2 i ((s_rr T n 2).2.2.2.1 i)) ∧ (∀ j, j < 18 * 0 ∨ 18 * 0 + 18 ≤ j → μ' 160 j = μ 160 j) ∧ μ' 157 = upd (μ 157) 2 (nI c) ∧ ∀ a, a ≠ 152 → a ≠ 154 → a ≠ 155 → a ≠ 156 → a ≠ 157 → a ≠ 160 → a ≠ 161 → a ≠ 162 → μ' a = μ a)) := by
  refine x_K.of (by decide) (Nat.le_of_ble_eq_true rfl) ?_
  show x_T sc (d + 8) mX12_text 0 [.ref 152, .int 2, .int 0, .retAddr 0] [] μ w _
  refine xt_aload_n _ dX12_text_0 rfl ?_
  refine xt_iconst (0) dX12_text_1 (by decide) ?_
  refine xt_puti dX12_text_2 kpX12_72 (by first | exact sh0 | exact sh1 | exact sh115 | exact sh152 | rfl | assumption) rfl (by first | rfl | assumption) (by first | rfl | assumption) ?_
  refine xt_aload_n _ dX12_text_5 rfl ?_
  refine xt_aload_n _ dX12_text_6 rfl ?_
  refine xt_getr _ dX12_text_7 kfX12_13 (by first | exact sh0 | exact sh1 | exact sh115 | exact sh152 | rfl | assumption) rfl ?_
  refine xt_iconst (0) dX12_text_10 (by decide) ?_
  refine xt_ald dX12_text_11 (by first | exact sh0 | exact sh1 | exact sh115 | exact sh152 | rfl | assumption) (by unfold vp_in; decide) ?_
  refine xt_puti dX12_text_12 kpX12_95 (by first | exact sh0 | exact sh1 | exact sh115 | exact sh152 | rfl | assumption) rfl (by first | rfl | assumption) (by first | rfl | assumption) ?_
  refine xt_aload_n _ dX12_text_15 rfl ?_
  refine xt_getr _ dX12_text_16 kfX12_13 (by first | exact sh0 | exact sh1 | exact sh115 | exact sh152 | rfl | assumption) rfl ?_
  refine xt_iconst (0) dX12_text_19 (by decide) ?_
  refine xt_iconst (0) dX12_text_20 (by decide) ?_
  refine xt_ast dX12_text_21 (by first | exact sh0 | exact sh1 | exact sh115 | exact sh152 | rfl | assumption) (by unfold vp_in; decide) ?_
  refine xt_aload_n _ dX12_text_22 rfl ?_
  refine xt_getr _ dX12_text_23 kfX12_17 (by first | exact sh0 | exact sh1 | exact sh115 | exact sh152 | rfl | assumption) rfl ?_
  refine xt_iconst (0) dX12_text_26 (by decide) ?_
  refine xt_iconst (0) dX12_text_27 (by decide) ?_
  refine xt_ast dX12_text_28 (by first | exact sh0 | exact sh1 | exact sh115 | exact sh152 | rfl | assumption) (by unfold vp_in; decide) ?_
  refine xt_aload_n _ dX12_text_29 rfl ?_
  refine xt_getr _ dX12_text_30 kfX12_20 (by first | exact sh0 | exact sh1 | exact sh115 | exact sh152 | rfl | assumption) rfl ?_
  refine xt_iconst (0) dX12_text_33 (by decide) ?_
  refine xt_iconst (-1) dX12_text_34 (by decide) ?_
  refine xt_ast dX12_text_35 (by first | exact sh0 | exact sh1 | exact sh115 | exact sh152 | rfl | assumption) (by unfold vp_in; decide) ?_
  obtain ⟨μ1, hμ1⟩ : ∃ ν, (x_u (x_u (x_u (x_u (x_u μ 152 (upd (μ 152) 0 0)) 152 (upd ((x_u μ 152 (upd (μ 152) 0 0)) 152) 10 ((x_u μ 152 (upd (μ 152) 0 0)) 154 (0 : Int32).toNatClampNeg))) 154 (upd ((x_u (x_u μ 152 (upd (μ 152) 0 0)) 152 (upd ((x_u μ 152 (upd (μ 152) 0 0)) 152) 10 ((x_u μ 152 (upd (μ 152) 0 0)) 154 (0 : Int32).toNatClampNeg))) 154) (0 : Int32).toNatClampNeg 0)) 155 (upd ((x_u (x_u (x_u μ 152 (upd (μ 152) 0 0)) 152 (upd ((x_u μ 152 (upd (μ 152) 0 0)) 152) 10 ((x_u μ 152 (upd (μ 152) 0 0)) 154 (0 : Int32).toNatClampNeg))) 154 (upd ((x_u (x_u μ 152 (upd (μ 152) 0 0)) 152 (upd ((x_u μ 152 (upd (μ 152) 0 0)) 152) 10 ((x_u μ 152 (upd (μ 152) 0 0)) 154 (0 : Int32).toNatClampNeg))) 154) (0 : Int32).toNatClampNeg 0)) 155) (0 : Int32).toNatClampNeg 0)) 156 (upd ((x_u (x_u (x_u (x_u μ 152 (upd (μ 152) 0 0)) 152 (upd ((x_u μ 152 (upd (μ 152) 0 0)) 152) 10 ((x_u μ 152 (upd (μ 152) 0 0)) 154 (0 : Int32).toNatClampNeg))) 154 (upd ((x_u (x_u μ 152 (upd (μ 152) 0 0)) 152 (upd ((x_u μ 152 (upd (μ 152) 0 0)) 152) 10 ((x_u μ 152 (upd (μ 152) 0 0)) 154 (0 : Int32).toNatClampNeg))) 154) (0 : Int32).toNatClampNeg 0)) 155 (upd ((x_u (x_u (x_u μ 152 (upd (μ 152) 0 0)) 152 (upd ((x_u μ 152 (upd (μ 152) 0 0)) 152) 10 ((x_u μ 152 (upd (μ 152) 0 0)) 154 (0 : Int32).toNatClampNeg))) 154 (upd ((x_u (x_u μ 152 (upd (μ 152) 0 0)) 152 (upd ((x_u μ 152 (upd (μ 152) 0 0)) 152) 10 ((x_u μ 152 (upd (μ 152) 0 0)) 154 (0 : Int32).toNatClampNeg))) 154) (0 : Int32).toNatClampNeg 0)) 155) (0 : Int32).toNatClampNeg 0)) 156) (0 : Int32).toNatClampNeg (-1))) = ν := ⟨_, rfl⟩
  change x_T _ _ _ _ _ _ (x_u (x_u (x_u (x_u (x_u μ 152 (upd (μ 152) 0 0)) 152 (upd ((x_u μ 152 (upd (μ 152) 0 0)) 152) 10 ((x_u μ 152 (upd (μ 152) 0 0)) 154 (0 : Int32).toNatClampNeg))) 154 (upd ((x_u (x_u μ 152 (upd (μ 152) 0 0)) 152 (upd ((x_u μ 152 (upd (μ 152) 0 0)) 152) 10 ((x_u μ 152 (upd (μ 152) 0 0)) 154 (0 : Int32).toNatClampNeg))) 154) (0 : Int32).toNatClampNeg 0)) 155 (upd ((x_u (x_u (x_u μ 152 (upd (μ 152) 0 0)) 152 (upd ((x_u μ 152 (upd (μ 152) 0 0)) 152) 10 ((x_u μ 152 (upd (μ 152) 0 0)) 154 (0 : Int32).toNatClampNeg))) 154 (upd ((x_u (x_u μ 152 (upd (μ 152) 0 0)) 152 (upd ((x_u μ 152 (upd (μ 152) 0 0)) 152) 10 ((x_u μ 152 (upd (μ 152) 0 0)) 154 (0 : Int32).toNatClampNeg))) 154) (0 : Int32).toNatClampNeg 0)) 155) (0 : Int32).toNatClampNeg 0)) 156 (upd ((x_u (x_u (x_u (x_u μ 152 (upd (μ 152) 0 0)) 152 (upd ((x_u μ 152 (upd (μ 152) 0 0)) 152) 10 ((x_u μ 152 (upd (μ 152) 0 0)) 154 (0 : Int32).toNatClampNeg))) 154 (upd ((x_u (x_u μ 152 (upd (μ 152) 0 0)) 152 (upd ((x_u μ 152 (upd (μ 152) 0 0)) 152) 10 ((x_u μ 152 (upd (μ 152) 0 0)) 154 (0 : Int32).toNatClampNeg))) 154) (0 : Int32).toNatClampNeg 0)) 155 (upd ((x_u (x_u (x_u μ 152 (upd (μ 152) 0 0)) 152 (upd ((x_u μ 152 (upd (μ 152) 0 0)) 152) 10 ((x_u μ 152 (upd (μ 152) 0 0)) 154 (0 : Int32).toNatClampNeg))) 154 (upd ((x_u (x_u μ 152 (upd (μ 152) 0 0)) 152 (upd ((x_u μ 152 (upd (μ 152) 0 0)) 152) 10 ((x_u μ 152 (upd (μ 152) 0 0)) 154 (0 : Int32).toNatClampNeg))) 154) (0 : Int32).toNatClampNeg 0)) 155) (0 : Int32).toNatClampNeg 0)) 156) (0 : Int32).toNatClampNeg (-1))) _ _
  rw [hμ1]
  have g10 : μ1 152 10 = nI n := by rw [← hμ1, x_u_ne (by decide), x_u_ne (by decide), x_u_ne (by decide), x_u_eq, pk_us, x_u_ne (by decide)]; exact e154
  have g154 : μ1 154 = upd (μ 154) 0 0 := by rw [← hμ1, x_u_ne (by decide), x_u_ne (by decide), x_u_eq, x_u_ne (by decide), x_u_ne (by decide)]; rfl
  have g155 : μ1 155 = upd (μ 155) 0 0 := by rw [← hμ1, x_u_ne (by decide), x_u_eq, x_u_ne (by decide), x_u_ne (by decide), x_u_ne (by decide)]; rfl
  have g156 : μ1 156 = upd (μ 156) 0 (-1) := by rw [← hμ1, x_u_eq, x_u_ne (by decide), x_u_ne (by decide), x_u_ne (by decide), x_u_ne (by decide)]; rfl
  have gf : ∀ a, a ≠ 152 → a ≠ 154 → a ≠ 155 → a ≠ 156 → μ1 a = μ a := fun a h1 h2 h3 h4 => by rw [← hμ1, x_u_ne h4, x_u_ne h3, x_u_ne h2, x_u_ne h1, x_u_ne h1]
  have g157 : μ1 157 2 = nI c := by rw [gf 157 (by decide) (by decide) (by decide) (by decide)]; exact e157
  have hB1 : m_B μ1 T n := ⟨g10, hn, by rw [gf 153 (by decide) (by decide) (by decide) (by decide)]; exact hT, hT0⟩
  refine xt_iload_n _ dX12_text_36 rfl ?_
  refine xt_iconst (0) dX12_text_37 (by decide) ?_
  refine xt_iconst (2) dX12_text_38 (by decide) ?_
  refine xt_cS _ dX12_text_39 klX12_84 (tX12_in sc _ _ _ _ _ _) rfl rfl (Nat.le_of_ble_eq_true rfl) ?_
  refine xt_if_eq 72 dX12_text_42 (by decide) (fun q => absurd q (by decide)) (fun _ => ?_)
  refine xt_iload_n _ dX12_text_45 rfl ?_
  refine xt_iconst (-1) dX12_text_46 (by decide) ?_
  refine xt_icmp_ne 63 dX12_text_47 (by decide) (fun _ => ?_) (fun q => absurd q (by decide))
  refine xt_aload_n _ dX12_text_63 rfl ?_
  refine xt_iload_n _ dX12_text_64 rfl ?_
  refine xt_iload_n _ dX12_text_65 rfl ?_
  refine xt_cV _ dX12_text_66 klX12_231 (tX12_is sc _ _ _ 2 c (by decide) (by omega) g157 0) sh152 rfl rfl (Nat.le_of_ble_eq_true rfl) ?_
  rw [if_neg (show ¬ ((0 : Int32) < 0) by decide), if_pos (show (0 : Int32) < nI c from nI_lt (a := 0) (by omega) (by omega))]
  refine xt_if_ne 75 dX12_text_69 (by decide) (fun _ => ?_) (fun q => absurd q (by decide))
  refine xt_aload_n _ dX12_text_75 rfl ?_
  refine xt_iload_n _ dX12_text_76 rfl ?_
  refine xt_callV _ dX12_text_77 klX12_234 (tX12_readText2 sc _ μ1 w T n hB1) sh152 rfl rfl (Nat.le_of_ble_eq_true rfl) (fun r2 μ2 w2 q2 => ?_)
  obtain ⟨rfl, k155, k156, kD, kj, kf⟩ := q2
  by_cases hzF : (s_flt T n 2).1 = 0
  · rw [if_pos hzF]
    change x_T _ _ _ _ _ (.int 1 :: _) _ _ _
    refine xt_if_ne 85 dX12_text_80 (by decide) (fun _ => ?_) (fun q => absurd q (by decide))
    refine xt_iload_n _ dX12_text_85 rfl ?_
    refine xt_iconst (-1) dX12_text_86 (by decide) ?_
    refine xt_icmp_ne 99 dX12_text_87 (by decide) (fun _ => ?_) (fun q => absurd q (by decide))
    refine xt_iload_n _ dX12_text_99 rfl ?_
    refine xt_istore_n dX12_text_100 (by decide) rfl ?_
    change x_T _ _ _ _ [_, _, _, _] _ _ _ _
    refine xt_aload_n _ dX12_text_101 rfl ?_
    refine xt_getr _ dX12_text_102 kfX12_23 (by first | exact sh0 | exact sh1 | exact sh115 | exact sh152 | rfl | assumption) rfl ?_
    refine xt_iload_n _ dX12_text_105 rfl ?_
    refine xt_dup2 dX12_text_106 rfl rfl ?_
    refine xt_ald dX12_text_107 (by first | exact sh0 | exact sh1 | exact sh115 | exact sh152 | rfl | assumption) (by unfold vp_in; decide) ?_
    refine xt_iload_n _ dX12_text_108 rfl ?_
    refine xt_iconst (-1) dX12_text_109 (by decide) ?_
    refine xt_icmp_ne 117 dX12_text_110 (by decide) (fun _ => ?_) (fun q => absurd q (by decide))
    refine xt_iconst (0) dX12_text_117 (by decide) ?_
    refine xt_iadd dX12_text_118 ?_
    refine xt_ast dX12_text_119 (by first | exact sh0 | exact sh1 | exact sh115 | exact sh152 | rfl | assumption) (by unfold vp_in; decide) ?_
    refine xt_iload_n _ dX12_text_120 rfl ?_
    refine xt_if_ne 138 dX12_text_121 (by decide) (fun _ => ?_) (fun q => absurd q (by decide))
    refine xt_iload_n _ dX12_text_138 rfl ?_
    refine xt_iconst (1) dX12_text_139 (by decide) ?_
    refine xt_icmp_ne 158 dX12_text_140 (by decide) (fun _ => ?_) (fun q => absurd q (by decide))
    refine xt_aload_n _ dX12_text_158 rfl ?_
    refine xt_aload_n _ dX12_text_159 rfl ?_
    refine xt_getr _ dX12_text_160 kfX12_32 (by first | exact sh0 | exact sh1 | exact sh115 | exact sh152 | rfl | assumption) rfl ?_
    refine xt_bipush (18) dX12_text_163 (by decide) ?_
    refine xt_iload_n _ dX12_text_165 rfl ?_
    refine xt_callV _ dX12_text_166 klX12_237 (tX12_store sc _ (x_u μ2 157 (upd (μ2 157) (2 : Int32).toNatClampNeg (μ2 157 (2 : Int32).toNatClampNeg + 0))) _ 160 144 18 0 rfl (by decide) (by decide) (by decide) (by decide)) sh152 rfl rfl (Nat.le_of_ble_eq_true rfl) (fun r6 μ6 w6 q6 => ?_)
    obtain ⟨rfl, s1, s2, sf⟩ := q6
    change x_T _ _ _ _ _ _ _ _ _
    refine xt_iload_n _ dX12_text_169 rfl ?_
    refine xt_iret .int dX12_text_170 rfl (by first | rfl | assumption) ?_
    have q157 : μ2 157 = μ 157 := by rw [kf 157 (by decide) (by decide) (by decide) (by decide) (by decide), gf 157 (by decide) (by decide) (by decide) (by decide)]
    refine ⟨by rw [if_pos hzF], ?_, ?_, ?_, fun j hj => ⟨?_, ?_, ?_⟩, fun z => absurd hzF z, fun _ => ⟨fun i hi => ?_, fun j hj => ?_, ?_, fun a h1 h2 h3 h4 h5 h6 h7 h8 => ?_⟩⟩
    · rw [sf 154 (by decide), x_u_ne (by decide), kf 154 (by decide) (by decide) (by decide) (by decide) (by decide), g154, pk_us]
    · rw [sf 155 (by decide), x_u_ne (by decide)]; exact k155
    · rw [sf 156 (by decide), x_u_ne (by decide)]; exact k156
    · rw [sf 154 (by decide), x_u_ne (by decide), kf 154 (by decide) (by decide) (by decide) (by decide) (by decide), g154, pk_un hj]
    · rw [sf 155 (by decide), x_u_ne (by decide), (kj j hj).1, g155, pk_un hj]
    · rw [sf 156 (by decide), x_u_ne (by decide), (kj j hj).2, g156, pk_un hj]
    · rw [s1 i hi, x_u_ne (by decide)]; exact kD hzF i (by omega)
    · rw [s2 j hj, x_u_ne (by decide), kf 160 (by decide) (by decide) (by decide) (by decide) (by decide), gf 160 (by decide) (by decide) (by decide) (by decide)]
    · rw [sf 157 (by decide), x_u_eq, q157]
      show upd (μ 157) 2 (μ 157 2 + 0) = _
      rw [e157]; congr 1; exact Int32.add_zero _
    · rw [sf a h6, x_u_ne h5, kf a h1 h3 h4 h7 h8]; exact gf a h1 h2 h3 h4
  · rw [if_neg hzF]
    change x_T _ _ _ _ _ (.int 0 :: _) _ _ _
    refine xt_if_ne 85 dX12_text_80 (by decide) (fun q => absurd (by decide) q) (fun _ => ?_)
    refine xt_iconst (-1) dX12_text_83 (by decide) ?_
    refine xt_iret .int dX12_text_84 rfl (by first | rfl | assumption) ?_
    refine ⟨by rw [if_neg hzF], by rw [kf 154 (by decide) (by decide) (by decide) (by decide) (by decide), g154, pk_us], k155, k156, fun j hj => ⟨by rw [kf 154 (by decide) (by decide) (by decide) (by decide) (by decide), g154, pk_un hj], by rw [(kj j hj).1, g155, pk_un hj], by rw [(kj j hj).2, g156, pk_un hj]⟩, fun _ a h1 h2 h3 h4 h5 h6 => by rw [kf a h1 h3 h4 h5 h6]; exact gf a h1 h2 h3 h4, fun z => absurd z hzF⟩
set_option maxHeartbeats 1000000 in
theorem tX12_text21A (n : Nat) (T : Nat → Nat) (hn : n ≤ 600) (e154 : μ 154 0 = nI n) (hT : ∀ i, i < n → μ 153 i &&& 255 = nI (T i) ∧ T i < 256) (hT0 : ∀ i, n ≤ i → T i = 0) (e157 : μ 157 2 = nI 1) : x_K sc (d + 8) mX12_text [.ref 152, .int 2, .int (-1)] μ w (fun r μ' _ => r = some (.int (if (s_flt T n 2).1 = 0 then 1 else -1)) ∧ μ' 154 0 = 0 ∧ μ' 155 0 = nI (s_flt T n 2).1 ∧ μ' 156 0 = (if (s_flt T n 2).1 = 0 then -1 else nI (s_flt T n 2).2) ∧ (∀ j, j ≠ 0 → μ' 154 j = μ 154 j ∧ μ' 155 j = μ 155 j ∧ μ' 156 j = μ 156 j) ∧ ((s_flt T n 2).1 ≠ 0 → ∀ a, a ≠ 152 → a ≠ 154 → a ≠ 155 → a ≠ 156 → a ≠ 161 → a ≠ 162 → μ' a = μ a) ∧ ((s_flt T n 2).1 = 0 → (∀ i, i < 18 → μ' 160 (18 * 1 + i) = s_tv 2 i ((s_rr T n 2).2.2.2.1 i)) ∧ (∀ j, j < 18 * 1 ∨ 18 * 1 + 18 ≤ j → μ' 160 j = μ 160 j) ∧ μ' 157 = upd (μ 157) 2 (nI 2) ∧ ∀ a, a ≠ 152 → a ≠ 154 → a ≠ 155 → a ≠ 156 → a ≠ 157 → a ≠ 160 → a ≠ 161 → a ≠ 162 → μ' a = μ a)) := by
  refine x_K.of (by decide) (Nat.le_of_ble_eq_true rfl) ?_
  show x_T sc (d + 8) mX12_text 0 [.ref 152, .int 2, .int (-1), .retAddr 0] [] μ w _
  refine xt_aload_n _ dX12_text_0 rfl ?_
  refine xt_iconst (0) dX12_text_1 (by decide) ?_
  refine xt_puti dX12_text_2 kpX12_72 (by first | exact sh0 | exact sh1 | exact sh115 | exact sh152 | rfl | assumption) rfl (by first | rfl | assumption) (by first | rfl | assumption) ?_
  refine xt_aload_n _ dX12_text_5 rfl ?_
  refine xt_aload_n _ dX12_text_6 rfl ?_
  refine xt_getr _ dX12_text_7 kfX12_13 (by first | exact sh0 | exact sh1 | exact sh115 | exact sh152 | rfl | assumption) rfl ?_
  refine xt_iconst (0) dX12_text_10 (by decide) ?_
  refine xt_ald dX12_text_11 (by first | exact sh0 | exact sh1 | exact sh115 | exact sh152 | rfl | assumption) (by unfold vp_in; decide) ?_
  refine xt_puti dX12_text_12 kpX12_95 (by first | exact sh0 | exact sh1 | exact sh115 | exact sh152 | rfl | assumption) rfl (by first | rfl | assumption) (by first | rfl | assumption) ?_
  refine xt_aload_n _ dX12_text_15 rfl ?_
  refine xt_getr _ dX12_text_16 kfX12_13 (by first | exact sh0 | exact sh1 | exact sh115 | exact sh152 | rfl | assumption) rfl ?_
  refine xt_iconst (0) dX12_text_19 (by decide) ?_
  refine xt_iconst (0) dX12_text_20 (by decide) ?_
  refine xt_ast dX12_text_21 (by first | exact sh0 | exact sh1 | exact sh115 | exact sh152 | rfl | assumption) (by unfold vp_in; decide) ?_
  refine xt_aload_n _ dX12_text_22 rfl ?_
  refine xt_getr _ dX12_text_23 kfX12_17 (by first | exact sh0 | exact sh1 | exact sh115 | exact sh152 | rfl | assumption) rfl ?_
  refine xt_iconst (0) dX12_text_26 (by decide) ?_
  refine xt_iconst (0) dX12_text_27 (by decide) ?_
  refine xt_ast dX12_text_28 (by first | exact sh0 | exact sh1 | exact sh115 | exact sh152 | rfl | assumption) (by unfold vp_in; decide) ?_
  refine xt_aload_n _ dX12_text_29 rfl ?_
  refine xt_getr _ dX12_text_30 kfX12_20 (by first | exact sh0 | exact sh1 | exact sh115 | exact sh152 | rfl | assumption) rfl ?_
  refine xt_iconst (0) dX12_text_33 (by decide) ?_
  refine xt_iconst (-1) dX12_text_34 (by decide) ?_
  refine xt_ast dX12_text_35 (by first | exact sh0 | exact sh1 | exact sh115 | exact sh152 | rfl | assumption) (by unfold vp_in; decide) ?_
  obtain ⟨μ1, hμ1⟩ : ∃ ν, (x_u (x_u (x_u (x_u (x_u μ 152 (upd (μ 152) 0 0)) 152 (upd ((x_u μ 152 (upd (μ 152) 0 0)) 152) 10 ((x_u μ 152 (upd (μ 152) 0 0)) 154 (0 : Int32).toNatClampNeg))) 154 (upd ((x_u (x_u μ 152 (upd (μ 152) 0 0)) 152 (upd ((x_u μ 152 (upd (μ 152) 0 0)) 152) 10 ((x_u μ 152 (upd (μ 152) 0 0)) 154 (0 : Int32).toNatClampNeg))) 154) (0 : Int32).toNatClampNeg 0)) 155 (upd ((x_u (x_u (x_u μ 152 (upd (μ 152) 0 0)) 152 (upd ((x_u μ 152 (upd (μ 152) 0 0)) 152) 10 ((x_u μ 152 (upd (μ 152) 0 0)) 154 (0 : Int32).toNatClampNeg))) 154 (upd ((x_u (x_u μ 152 (upd (μ 152) 0 0)) 152 (upd ((x_u μ 152 (upd (μ 152) 0 0)) 152) 10 ((x_u μ 152 (upd (μ 152) 0 0)) 154 (0 : Int32).toNatClampNeg))) 154) (0 : Int32).toNatClampNeg 0)) 155) (0 : Int32).toNatClampNeg 0)) 156 (upd ((x_u (x_u (x_u (x_u μ 152 (upd (μ 152) 0 0)) 152 (upd ((x_u μ 152 (upd (μ 152) 0 0)) 152) 10 ((x_u μ 152 (upd (μ 152) 0 0)) 154 (0 : Int32).toNatClampNeg))) 154 (upd ((x_u (x_u μ 152 (upd (μ 152) 0 0)) 152 (upd ((x_u μ 152 (upd (μ 152) 0 0)) 152) 10 ((x_u μ 152 (upd (μ 152) 0 0)) 154 (0 : Int32).toNatClampNeg))) 154) (0 : Int32).toNatClampNeg 0)) 155 (upd ((x_u (x_u (x_u μ 152 (upd (μ 152) 0 0)) 152 (upd ((x_u μ 152 (upd (μ 152) 0 0)) 152) 10 ((x_u μ 152 (upd (μ 152) 0 0)) 154 (0 : Int32).toNatClampNeg))) 154 (upd ((x_u (x_u μ 152 (upd (μ 152) 0 0)) 152 (upd ((x_u μ 152 (upd (μ 152) 0 0)) 152) 10 ((x_u μ 152 (upd (μ 152) 0 0)) 154 (0 : Int32).toNatClampNeg))) 154) (0 : Int32).toNatClampNeg 0)) 155) (0 : Int32).toNatClampNeg 0)) 156) (0 : Int32).toNatClampNeg (-1))) = ν := ⟨_, rfl⟩
  change x_T _ _ _ _ _ _ (x_u (x_u (x_u (x_u (x_u μ 152 (upd (μ 152) 0 0)) 152 (upd ((x_u μ 152 (upd (μ 152) 0 0)) 152) 10 ((x_u μ 152 (upd (μ 152) 0 0)) 154 (0 : Int32).toNatClampNeg))) 154 (upd ((x_u (x_u μ 152 (upd (μ 152) 0 0)) 152 (upd ((x_u μ 152 (upd (μ 152) 0 0)) 152) 10 ((x_u μ 152 (upd (μ 152) 0 0)) 154 (0 : Int32).toNatClampNeg))) 154) (0 : Int32).toNatClampNeg 0)) 155 (upd ((x_u (x_u (x_u μ 152 (upd (μ 152) 0 0)) 152 (upd ((x_u μ 152 (upd (μ 152) 0 0)) 152) 10 ((x_u μ 152 (upd (μ 152) 0 0)) 154 (0 : Int32).toNatClampNeg))) 154 (upd ((x_u (x_u μ 152 (upd (μ 152) 0 0)) 152 (upd ((x_u μ 152 (upd (μ 152) 0 0)) 152) 10 ((x_u μ 152 (upd (μ 152) 0 0)) 154 (0 : Int32).toNatClampNeg))) 154) (0 : Int32).toNatClampNeg 0)) 155) (0 : Int32).toNatClampNeg 0)) 156 (upd ((x_u (x_u (x_u (x_u μ 152 (upd (μ 152) 0 0)) 152 (upd ((x_u μ 152 (upd (μ 152) 0 0)) 152) 10 ((x_u μ 152 (upd (μ 152) 0 0)) 154 (0 : Int32).toNatClampNeg))) 154 (upd ((x_u (x_u μ 152 (upd (μ 152) 0 0)) 152 (upd ((x_u μ 152 (upd (μ 152) 0 0)) 152) 10 ((x_u μ 152 (upd (μ 152) 0 0)) 154 (0 : Int32).toNatClampNeg))) 154) (0 : Int32).toNatClampNeg 0)) 155 (upd ((x_u (x_u (x_u μ 152 (upd (μ 152) 0 0)) 152 (upd ((x_u μ 152 (upd (μ 152) 0 0)) 152) 10 ((x_u μ 152 (upd (μ 152) 0 0)) 154 (0 : Int32).toNatClampNeg))) 154 (upd ((x_u (x_u μ 152 (upd (μ 152) 0 0)) 152 (upd ((x_u μ 152 (upd (μ 152) 0 0)) 152) 10 ((x_u μ 152 (upd (μ 152) 0 0)) 154 (0 : Int32).toNatClampNeg))) 154) (0 : Int32).toNatClampNeg 0)) 155) (0 : Int32).toNatClampNeg 0)) 156) (0 : Int32).toNatClampNeg (-1))) _ _
  rw [hμ1]
  have g10 : μ1 152 10 = nI n := by rw [← hμ1, x_u_ne (by decide), x_u_ne (by decide), x_u_ne (by decide), x_u_eq, pk_us, x_u_ne (by decide)]; exact e154
  have g154 : μ1 154 = upd (μ 154) 0 0 := by rw [← hμ1, x_u_ne (by decide), x_u_ne (by decide), x_u_eq, x_u_ne (by decide), x_u_ne (by decide)]; rfl
  have g155 : μ1 155 = upd (μ 155) 0 0 := by rw [← hμ1, x_u_ne (by decide), x_u_eq, x_u_ne (by decide), x_u_ne (by decide), x_u_ne (by decide)]; rfl
  have g156 : μ1 156 = upd (μ 156) 0 (-1) := by rw [← hμ1, x_u_eq, x_u_ne (by decide), x_u_ne (by decide), x_u_ne (by decide), x_u_ne (by decide)]; rfl
  have gf : ∀ a, a ≠ 152 → a ≠ 154 → a ≠ 155 → a ≠ 156 → μ1 a = μ a := fun a h1 h2 h3 h4 => by rw [← hμ1, x_u_ne h4, x_u_ne h3, x_u_ne h2, x_u_ne h1, x_u_ne h1]
  have g157 : μ1 157 2 = nI 1 := by rw [gf 157 (by decide) (by decide) (by decide) (by decide)]; exact e157
  have hB1 : m_B μ1 T n := ⟨g10, hn, by rw [gf 153 (by decide) (by decide) (by decide) (by decide)]; exact hT, hT0⟩
  refine xt_iload_n _ dX12_text_36 rfl ?_
  refine xt_iconst (0) dX12_text_37 (by decide) ?_
  refine xt_iconst (2) dX12_text_38 (by decide) ?_
  refine xt_cS _ dX12_text_39 klX12_84 (tX12_in sc _ _ _ _ _ _) rfl rfl (Nat.le_of_ble_eq_true rfl) ?_
  refine xt_if_eq 72 dX12_text_42 (by decide) (fun q => absurd q (by decide)) (fun _ => ?_)
  refine xt_iload_n _ dX12_text_45 rfl ?_
  refine xt_iconst (-1) dX12_text_46 (by decide) ?_
  refine xt_icmp_ne 63 dX12_text_47 (by decide) (fun q => absurd (by decide) q) (fun _ => ?_)
  refine xt_aload_n _ dX12_text_50 rfl ?_
  refine xt_getr _ dX12_text_51 kfX12_23 (by first | exact sh0 | exact sh1 | exact sh115 | exact sh152 | rfl | assumption) rfl ?_
  refine xt_iload_n _ dX12_text_54 rfl ?_
  refine xt_ald dX12_text_55 (by first | exact sh0 | exact sh1 | exact sh115 | exact sh152 | rfl | assumption) (by unfold vp_in; decide) ?_
  refine xt_iconst (2) dX12_text_56 (by decide) ?_
  rw [show μ1 157 (2 : Int32).toNatClampNeg = nI 1 from g157]
  refine xt_icmp_ne 75 dX12_text_57 (by decide) (fun _ => ?_) (fun q => absurd q (by decide))
  refine xt_aload_n _ dX12_text_75 rfl ?_
  refine xt_iload_n _ dX12_text_76 rfl ?_
  refine xt_callV _ dX12_text_77 klX12_234 (tX12_readText2 sc _ μ1 w T n hB1) sh152 rfl rfl (Nat.le_of_ble_eq_true rfl) (fun r2 μ2 w2 q2 => ?_)
  obtain ⟨rfl, k155, k156, kD, kj, kf⟩ := q2
  by_cases hzF : (s_flt T n 2).1 = 0
  · rw [if_pos hzF]
    change x_T _ _ _ _ _ (.int 1 :: _) _ _ _
    refine xt_if_ne 85 dX12_text_80 (by decide) (fun _ => ?_) (fun q => absurd q (by decide))
    refine xt_iload_n _ dX12_text_85 rfl ?_
    refine xt_iconst (-1) dX12_text_86 (by decide) ?_
    refine xt_icmp_ne 99 dX12_text_87 (by decide) (fun q => absurd (by decide) q) (fun _ => ?_)
    refine xt_aload_n _ dX12_text_90 rfl ?_
    refine xt_getr _ dX12_text_91 kfX12_23 (by first | exact sh0 | exact sh1 | exact sh115 | exact sh152 | rfl | assumption) rfl ?_
    refine xt_iload_n _ dX12_text_94 rfl ?_
    refine xt_ald dX12_text_95 (by first | exact sh0 | exact sh1 | exact sh115 | exact sh152 | rfl | assumption) (by unfold vp_in; decide) ?_
    refine xt_goto 100 dX12_text_96 (by decide) ?_
    rw [show μ2 157 (2 : Int32).toNatClampNeg = nI 1 from (by rw [kf 157 (by decide) (by decide) (by decide) (by decide) (by decide)]; exact g157)]
    change x_T _ _ _ _ _ (.int 1 :: _) _ _ _
    refine xt_istore_n dX12_text_100 (by decide) rfl ?_
    change x_T _ _ _ _ [_, _, _, _] _ _ _ _
    refine xt_aload_n _ dX12_text_101 rfl ?_
    refine xt_getr _ dX12_text_102 kfX12_23 (by first | exact sh0 | exact sh1 | exact sh115 | exact sh152 | rfl | assumption) rfl ?_
    refine xt_iload_n _ dX12_text_105 rfl ?_
    refine xt_dup2 dX12_text_106 rfl rfl ?_
    refine xt_ald dX12_text_107 (by first | exact sh0 | exact sh1 | exact sh115 | exact sh152 | rfl | assumption) (by unfold vp_in; decide) ?_
    refine xt_iload_n _ dX12_text_108 rfl ?_
    refine xt_iconst (-1) dX12_text_109 (by decide) ?_
    refine xt_icmp_ne 117 dX12_text_110 (by decide) (fun q => absurd (by decide) q) (fun _ => ?_)
    refine xt_iconst (1) dX12_text_113 (by decide) ?_
    refine xt_goto 118 dX12_text_114 (by decide) ?_
    refine xt_iadd dX12_text_118 ?_
    refine xt_ast dX12_text_119 (by first | exact sh0 | exact sh1 | exact sh115 | exact sh152 | rfl | assumption) (by unfold vp_in; decide) ?_
    refine xt_iload_n _ dX12_text_120 rfl ?_
    refine xt_if_ne 138 dX12_text_121 (by decide) (fun _ => ?_) (fun q => absurd q (by decide))
    refine xt_iload_n _ dX12_text_138 rfl ?_
    refine xt_iconst (1) dX12_text_139 (by decide) ?_
    refine xt_icmp_ne 158 dX12_text_140 (by decide) (fun _ => ?_) (fun q => absurd q (by decide))
    refine xt_aload_n _ dX12_text_158 rfl ?_
    refine xt_aload_n _ dX12_text_159 rfl ?_
    refine xt_getr _ dX12_text_160 kfX12_32 (by first | exact sh0 | exact sh1 | exact sh115 | exact sh152 | rfl | assumption) rfl ?_
    refine xt_bipush (18) dX12_text_163 (by decide) ?_
    refine xt_iload_n _ dX12_text_165 rfl ?_
    refine xt_callV _ dX12_text_166 klX12_237 (tX12_store sc _ (x_u μ2 157 (upd (μ2 157) (2 : Int32).toNatClampNeg (μ2 157 (2 : Int32).toNatClampNeg + 1))) _ 160 144 18 1 rfl (by decide) (by decide) (by decide) (by decide)) sh152 rfl rfl (Nat.le_of_ble_eq_true rfl) (fun r6 μ6 w6 q6 => ?_)
    obtain ⟨rfl, s1, s2, sf⟩ := q6
    change x_T _ _ _ _ _ _ _ _ _
    refine xt_iload_n _ dX12_text_169 rfl ?_
    refine xt_iret .int dX12_text_170 rfl (by first | rfl | assumption) ?_
    have q157 : μ2 157 = μ 157 := by rw [kf 157 (by decide) (by decide) (by decide) (by decide) (by decide), gf 157 (by decide) (by decide) (by decide) (by decide)]
    refine ⟨by rw [if_pos hzF], ?_, ?_, ?_, fun j hj => ⟨?_, ?_, ?_⟩, fun z => absurd hzF z, fun _ => ⟨fun i hi => ?_, fun j hj => ?_, ?_, fun a h1 h2 h3 h4 h5 h6 h7 h8 => ?_⟩⟩
    · rw [sf 154 (by decide), x_u_ne (by decide), kf 154 (by decide) (by decide) (by decide) (by decide) (by decide), g154, pk_us]
    · rw [sf 155 (by decide), x_u_ne (by decide)]; exact k155
    · rw [sf 156 (by decide), x_u_ne (by decide)]; exact k156
    · rw [sf 154 (by decide), x_u_ne (by decide), kf 154 (by decide) (by decide) (by decide) (by decide) (by decide), g154, pk_un hj]
    · rw [sf 155 (by decide), x_u_ne (by decide), (kj j hj).1, g155, pk_un hj]
    · rw [sf 156 (by decide), x_u_ne (by decide), (kj j hj).2, g156, pk_un hj]
    · rw [s1 i hi, x_u_ne (by decide)]; exact kD hzF i (by omega)
    · rw [s2 j hj, x_u_ne (by decide), kf 160 (by decide) (by decide) (by decide) (by decide) (by decide), gf 160 (by decide) (by decide) (by decide) (by decide)]
    · rw [sf 157 (by decide), x_u_eq, q157]
      show upd (μ 157) 2 (μ 157 2 + 1) = _
      rw [e157]; rfl
    · rw [sf a h6, x_u_ne h5, kf a h1 h3 h4 h7 h8]; exact gf a h1 h2 h3 h4
  · rw [if_neg hzF]
    change x_T _ _ _ _ _ (.int 0 :: _) _ _ _
    refine xt_if_ne 85 dX12_text_80 (by decide) (fun q => absurd (by decide) q) (fun _ => ?_)
    refine xt_iconst (-1) dX12_text_83 (by decide) ?_
    refine xt_iret .int dX12_text_84 rfl (by first | rfl | assumption) ?_
    refine ⟨by rw [if_neg hzF], by rw [kf 154 (by decide) (by decide) (by decide) (by decide) (by decide), g154, pk_us], k155, k156, fun j hj => ⟨by rw [kf 154 (by decide) (by decide) (by decide) (by decide) (by decide), g154, pk_un hj], by rw [(kj j hj).1, g155, pk_un hj], by rw [(kj j hj).2, g156, pk_un hj]⟩, fun _ a h1 h2 h3 h4 h5 h6 => by rw [kf a h1 h3 h4 h5 h6]; exact gf a h1 h2 h3 h4, fun z => absurd z hzF⟩
set_option maxHeartbeats 1000000 in
theorem tX12_text21B (n : Nat) (T : Nat → Nat) (hn : n ≤ 600) (e154 : μ 154 0 = nI n) (hT : ∀ i, i < n → μ 153 i &&& 255 = nI (T i) ∧ T i < 256) (hT0 : ∀ i, n ≤ i → T i = 0) (c : Nat) (hc : c ≤ 2) (hfc : 1 < c) (e157 : μ 157 2 = nI c) : x_K sc (d + 8) mX12_text [.ref 152, .int 2, .int 1] μ w (fun r μ' _ => r = some (.int (if (s_flt T n 2).1 = 0 then 1 else -1)) ∧ μ' 154 0 = 0 ∧ μ' 155 0 = nI (s_flt T n 2).1 ∧ μ' 156 0 = (if (s_flt T n 2).1 = 0 then -1 else nI (s_flt T n 2).2) ∧ (∀ j, j ≠ 0 → μ' 154 j = μ 154 j ∧ μ' 155 j = μ 155 j ∧ μ' 156 j = μ 156 j) ∧ ((s_flt T n 2).1 ≠ 0 → ∀ a, a ≠ 152 → a ≠ 154 → a ≠ 155 → a ≠ 156 → a ≠ 161 → a ≠ 162 → μ' a = μ a) ∧ ((s_flt T n 2).1 = 0 → (∀ i, i < 18 → μ' 160 (18 * 1 + i) = s_tv 2 i ((s_rr T n 2).2.2.2.1 i)) ∧ (∀ j, j < 18 * 1 ∨ 18 * 1 + 18 ≤ j → μ' 160 j = μ 160 j) ∧ μ' 157 = upd (μ 157) 2 (nI c) ∧ ∀ a, a ≠ 152 → a ≠ 154 → a ≠ 155 → a ≠ 156 → a ≠ 157 → a ≠ 160 → a ≠ 161 → a ≠ 162 → μ' a = μ a)) := by
  refine x_K.of (by decide) (Nat.le_of_ble_eq_true rfl) ?_
  show x_T sc (d + 8) mX12_text 0 [.ref 152, .int 2, .int 1, .retAddr 0] [] μ w _
  refine xt_aload_n _ dX12_text_0 rfl ?_
  refine xt_iconst (0) dX12_text_1 (by decide) ?_
  refine xt_puti dX12_text_2 kpX12_72 (by first | exact sh0 | exact sh1 | exact sh115 | exact sh152 | rfl | assumption) rfl (by first | rfl | assumption) (by first | rfl | assumption) ?_
  refine xt_aload_n _ dX12_text_5 rfl ?_
  refine xt_aload_n _ dX12_text_6 rfl ?_
  refine xt_getr _ dX12_text_7 kfX12_13 (by first | exact sh0 | exact sh1 | exact sh115 | exact sh152 | rfl | assumption) rfl ?_
  refine xt_iconst (0) dX12_text_10 (by decide) ?_
  refine xt_ald dX12_text_11 (by first | exact sh0 | exact sh1 | exact sh115 | exact sh152 | rfl | assumption) (by unfold vp_in; decide) ?_
  refine xt_puti dX12_text_12 kpX12_95 (by first | exact sh0 | exact sh1 | exact sh115 | exact sh152 | rfl | assumption) rfl (by first | rfl | assumption) (by first | rfl | assumption) ?_
  refine xt_aload_n _ dX12_text_15 rfl ?_
  refine xt_getr _ dX12_text_16 kfX12_13 (by first | exact sh0 | exact sh1 | exact sh115 | exact sh152 | rfl | assumption) rfl ?_
  refine xt_iconst (0) dX12_text_19 (by decide) ?_
  refine xt_iconst (0) dX12_text_20 (by decide) ?_
  refine xt_ast dX12_text_21 (by first | exact sh0 | exact sh1 | exact sh115 | exact sh152 | rfl | assumption) (by unfold vp_in; decide) ?_
  refine xt_aload_n _ dX12_text_22 rfl ?_
  refine xt_getr _ dX12_text_23 kfX12_17 (by first | exact sh0 | exact sh1 | exact sh115 | exact sh152 | rfl | assumption) rfl ?_
  refine xt_iconst (0) dX12_text_26 (by decide) ?_
  refine xt_iconst (0) dX12_text_27 (by decide) ?_
  refine xt_ast dX12_text_28 (by first | exact sh0 | exact sh1 | exact sh115 | exact sh152 | rfl | assumption) (by unfold vp_in; decide) ?_
  refine xt_aload_n _ dX12_text_29 rfl ?_
  refine xt_getr _ dX12_text_30 kfX12_20 (by first | exact sh0 | exact sh1 | exact sh115 | exact sh152 | rfl | assumption) rfl ?_
  refine xt_iconst (0) dX12_text_33 (by decide) ?_
  refine xt_iconst (-1) dX12_text_34 (by decide) ?_
  refine xt_ast dX12_text_35 (by first | exact sh0 | exact sh1 | exact sh115 | exact sh152 | rfl | assumption) (by unfold vp_in; decide) ?_
  obtain ⟨μ1, hμ1⟩ : ∃ ν, (x_u (x_u (x_u (x_u (x_u μ 152 (upd (μ 152) 0 0)) 152 (upd ((x_u μ 152 (upd (μ 152) 0 0)) 152) 10 ((x_u μ 152 (upd (μ 152) 0 0)) 154 (0 : Int32).toNatClampNeg))) 154 (upd ((x_u (x_u μ 152 (upd (μ 152) 0 0)) 152 (upd ((x_u μ 152 (upd (μ 152) 0 0)) 152) 10 ((x_u μ 152 (upd (μ 152) 0 0)) 154 (0 : Int32).toNatClampNeg))) 154) (0 : Int32).toNatClampNeg 0)) 155 (upd ((x_u (x_u (x_u μ 152 (upd (μ 152) 0 0)) 152 (upd ((x_u μ 152 (upd (μ 152) 0 0)) 152) 10 ((x_u μ 152 (upd (μ 152) 0 0)) 154 (0 : Int32).toNatClampNeg))) 154 (upd ((x_u (x_u μ 152 (upd (μ 152) 0 0)) 152 (upd ((x_u μ 152 (upd (μ 152) 0 0)) 152) 10 ((x_u μ 152 (upd (μ 152) 0 0)) 154 (0 : Int32).toNatClampNeg))) 154) (0 : Int32).toNatClampNeg 0)) 155) (0 : Int32).toNatClampNeg 0)) 156 (upd ((x_u (x_u (x_u (x_u μ 152 (upd (μ 152) 0 0)) 152 (upd ((x_u μ 152 (upd (μ 152) 0 0)) 152) 10 ((x_u μ 152 (upd (μ 152) 0 0)) 154 (0 : Int32).toNatClampNeg))) 154 (upd ((x_u (x_u μ 152 (upd (μ 152) 0 0)) 152 (upd ((x_u μ 152 (upd (μ 152) 0 0)) 152) 10 ((x_u μ 152 (upd (μ 152) 0 0)) 154 (0 : Int32).toNatClampNeg))) 154) (0 : Int32).toNatClampNeg 0)) 155 (upd ((x_u (x_u (x_u μ 152 (upd (μ 152) 0 0)) 152 (upd ((x_u μ 152 (upd (μ 152) 0 0)) 152) 10 ((x_u μ 152 (upd (μ 152) 0 0)) 154 (0 : Int32).toNatClampNeg))) 154 (upd ((x_u (x_u μ 152 (upd (μ 152) 0 0)) 152 (upd ((x_u μ 152 (upd (μ 152) 0 0)) 152) 10 ((x_u μ 152 (upd (μ 152) 0 0)) 154 (0 : Int32).toNatClampNeg))) 154) (0 : Int32).toNatClampNeg 0)) 155) (0 : Int32).toNatClampNeg 0)) 156) (0 : Int32).toNatClampNeg (-1))) = ν := ⟨_, rfl⟩
  change x_T _ _ _ _ _ _ (x_u (x_u (x_u (x_u (x_u μ 152 (upd (μ 152) 0 0)) 152 (upd ((x_u μ 152 (upd (μ 152) 0 0)) 152) 10 ((x_u μ 152 (upd (μ 152) 0 0)) 154 (0 : Int32).toNatClampNeg))) 154 (upd ((x_u (x_u μ 152 (upd (μ 152) 0 0)) 152 (upd ((x_u μ 152 (upd (μ 152) 0 0)) 152) 10 ((x_u μ 152 (upd (μ 152) 0 0)) 154 (0 : Int32).toNatClampNeg))) 154) (0 : Int32).toNatClampNeg 0)) 155 (upd ((x_u (x_u (x_u μ 152 (upd (μ 152) 0 0)) 152 (upd ((x_u μ 152 (upd (μ 152) 0 0)) 152) 10 ((x_u μ 152 (upd (μ 152) 0 0)) 154 (0 : Int32).toNatClampNeg))) 154 (upd ((x_u (x_u μ 152 (upd (μ 152) 0 0)) 152 (upd ((x_u μ 152 (upd (μ 152) 0 0)) 152) 10 ((x_u μ 152 (upd (μ 152) 0 0)) 154 (0 : Int32).toNatClampNeg))) 154) (0 : Int32).toNatClampNeg 0)) 155) (0 : Int32).toNatClampNeg 0)) 156 (upd ((x_u (x_u (x_u (x_u μ 152 (upd (μ 152) 0 0)) 152 (upd ((x_u μ 152 (upd (μ 152) 0 0)) 152) 10 ((x_u μ 152 (upd (μ 152) 0 0)) 154 (0 : Int32).toNatClampNeg))) 154 (upd ((x_u (x_u μ 152 (upd (μ 152) 0 0)) 152 (upd ((x_u μ 152 (upd (μ 152) 0 0)) 152) 10 ((x_u μ 152 (upd (μ 152) 0 0)) 154 (0 : Int32).toNatClampNeg))) 154) (0 : Int32).toNatClampNeg 0)) 155 (upd ((x_u (x_u (x_u μ 152 (upd (μ 152) 0 0)) 152 (upd ((x_u μ 152 (upd (μ 152) 0 0)) 152) 10 ((x_u μ 152 (upd (μ 152) 0 0)) 154 (0 : Int32).toNatClampNeg))) 154 (upd ((x_u (x_u μ 152 (upd (μ 152) 0 0)) 152 (upd ((x_u μ 152 (upd (μ 152) 0 0)) 152) 10 ((x_u μ 152 (upd (μ 152) 0 0)) 154 (0 : Int32).toNatClampNeg))) 154) (0 : Int32).toNatClampNeg 0)) 155) (0 : Int32).toNatClampNeg 0)) 156) (0 : Int32).toNatClampNeg (-1))) _ _
  rw [hμ1]
  have g10 : μ1 152 10 = nI n := by rw [← hμ1, x_u_ne (by decide), x_u_ne (by decide), x_u_ne (by decide), x_u_eq, pk_us, x_u_ne (by decide)]; exact e154
  have g154 : μ1 154 = upd (μ 154) 0 0 := by rw [← hμ1, x_u_ne (by decide), x_u_ne (by decide), x_u_eq, x_u_ne (by decide), x_u_ne (by decide)]; rfl
  have g155 : μ1 155 = upd (μ 155) 0 0 := by rw [← hμ1, x_u_ne (by decide), x_u_eq, x_u_ne (by decide), x_u_ne (by decide), x_u_ne (by decide)]; rfl
  have g156 : μ1 156 = upd (μ 156) 0 (-1) := by rw [← hμ1, x_u_eq, x_u_ne (by decide), x_u_ne (by decide), x_u_ne (by decide), x_u_ne (by decide)]; rfl
  have gf : ∀ a, a ≠ 152 → a ≠ 154 → a ≠ 155 → a ≠ 156 → μ1 a = μ a := fun a h1 h2 h3 h4 => by rw [← hμ1, x_u_ne h4, x_u_ne h3, x_u_ne h2, x_u_ne h1, x_u_ne h1]
  have g157 : μ1 157 2 = nI c := by rw [gf 157 (by decide) (by decide) (by decide) (by decide)]; exact e157
  have hB1 : m_B μ1 T n := ⟨g10, hn, by rw [gf 153 (by decide) (by decide) (by decide) (by decide)]; exact hT, hT0⟩
  refine xt_iload_n _ dX12_text_36 rfl ?_
  refine xt_iconst (0) dX12_text_37 (by decide) ?_
  refine xt_iconst (2) dX12_text_38 (by decide) ?_
  refine xt_cS _ dX12_text_39 klX12_84 (tX12_in sc _ _ _ _ _ _) rfl rfl (Nat.le_of_ble_eq_true rfl) ?_
  refine xt_if_eq 72 dX12_text_42 (by decide) (fun q => absurd q (by decide)) (fun _ => ?_)
  refine xt_iload_n _ dX12_text_45 rfl ?_
  refine xt_iconst (-1) dX12_text_46 (by decide) ?_
  refine xt_icmp_ne 63 dX12_text_47 (by decide) (fun _ => ?_) (fun q => absurd q (by decide))
  refine xt_aload_n _ dX12_text_63 rfl ?_
  refine xt_iload_n _ dX12_text_64 rfl ?_
  refine xt_iload_n _ dX12_text_65 rfl ?_
  refine xt_cV _ dX12_text_66 klX12_231 (tX12_is sc _ _ _ 2 c (by decide) (by omega) g157 1) sh152 rfl rfl (Nat.le_of_ble_eq_true rfl) ?_
  rw [if_neg (show ¬ ((1 : Int32) < 0) by decide), if_pos (show (1 : Int32) < nI c from nI_lt (a := 1) (by omega) (by omega))]
  refine xt_if_ne 75 dX12_text_69 (by decide) (fun _ => ?_) (fun q => absurd q (by decide))
  refine xt_aload_n _ dX12_text_75 rfl ?_
  refine xt_iload_n _ dX12_text_76 rfl ?_
  refine xt_callV _ dX12_text_77 klX12_234 (tX12_readText2 sc _ μ1 w T n hB1) sh152 rfl rfl (Nat.le_of_ble_eq_true rfl) (fun r2 μ2 w2 q2 => ?_)
  obtain ⟨rfl, k155, k156, kD, kj, kf⟩ := q2
  by_cases hzF : (s_flt T n 2).1 = 0
  · rw [if_pos hzF]
    change x_T _ _ _ _ _ (.int 1 :: _) _ _ _
    refine xt_if_ne 85 dX12_text_80 (by decide) (fun _ => ?_) (fun q => absurd q (by decide))
    refine xt_iload_n _ dX12_text_85 rfl ?_
    refine xt_iconst (-1) dX12_text_86 (by decide) ?_
    refine xt_icmp_ne 99 dX12_text_87 (by decide) (fun _ => ?_) (fun q => absurd q (by decide))
    refine xt_iload_n _ dX12_text_99 rfl ?_
    refine xt_istore_n dX12_text_100 (by decide) rfl ?_
    change x_T _ _ _ _ [_, _, _, _] _ _ _ _
    refine xt_aload_n _ dX12_text_101 rfl ?_
    refine xt_getr _ dX12_text_102 kfX12_23 (by first | exact sh0 | exact sh1 | exact sh115 | exact sh152 | rfl | assumption) rfl ?_
    refine xt_iload_n _ dX12_text_105 rfl ?_
    refine xt_dup2 dX12_text_106 rfl rfl ?_
    refine xt_ald dX12_text_107 (by first | exact sh0 | exact sh1 | exact sh115 | exact sh152 | rfl | assumption) (by unfold vp_in; decide) ?_
    refine xt_iload_n _ dX12_text_108 rfl ?_
    refine xt_iconst (-1) dX12_text_109 (by decide) ?_
    refine xt_icmp_ne 117 dX12_text_110 (by decide) (fun _ => ?_) (fun q => absurd q (by decide))
    refine xt_iconst (0) dX12_text_117 (by decide) ?_
    refine xt_iadd dX12_text_118 ?_
    refine xt_ast dX12_text_119 (by first | exact sh0 | exact sh1 | exact sh115 | exact sh152 | rfl | assumption) (by unfold vp_in; decide) ?_
    refine xt_iload_n _ dX12_text_120 rfl ?_
    refine xt_if_ne 138 dX12_text_121 (by decide) (fun _ => ?_) (fun q => absurd q (by decide))
    refine xt_iload_n _ dX12_text_138 rfl ?_
    refine xt_iconst (1) dX12_text_139 (by decide) ?_
    refine xt_icmp_ne 158 dX12_text_140 (by decide) (fun _ => ?_) (fun q => absurd q (by decide))
    refine xt_aload_n _ dX12_text_158 rfl ?_
    refine xt_aload_n _ dX12_text_159 rfl ?_
    refine xt_getr _ dX12_text_160 kfX12_32 (by first | exact sh0 | exact sh1 | exact sh115 | exact sh152 | rfl | assumption) rfl ?_
    refine xt_bipush (18) dX12_text_163 (by decide) ?_
    refine xt_iload_n _ dX12_text_165 rfl ?_
    refine xt_callV _ dX12_text_166 klX12_237 (tX12_store sc _ (x_u μ2 157 (upd (μ2 157) (2 : Int32).toNatClampNeg (μ2 157 (2 : Int32).toNatClampNeg + 0))) _ 160 144 18 1 rfl (by decide) (by decide) (by decide) (by decide)) sh152 rfl rfl (Nat.le_of_ble_eq_true rfl) (fun r6 μ6 w6 q6 => ?_)
    obtain ⟨rfl, s1, s2, sf⟩ := q6
    change x_T _ _ _ _ _ _ _ _ _
    refine xt_iload_n _ dX12_text_169 rfl ?_
    refine xt_iret .int dX12_text_170 rfl (by first | rfl | assumption) ?_
    have q157 : μ2 157 = μ 157 := by rw [kf 157 (by decide) (by decide) (by decide) (by decide) (by decide), gf 157 (by decide) (by decide) (by decide) (by decide)]
    refine ⟨by rw [if_pos hzF], ?_, ?_, ?_, fun j hj => ⟨?_, ?_, ?_⟩, fun z => absurd hzF z, fun _ => ⟨fun i hi => ?_, fun j hj => ?_, ?_, fun a h1 h2 h3 h4 h5 h6 h7 h8 => ?_⟩⟩
    · rw [sf 154 (by decide), x_u_ne (by decide), kf 154 (by decide) (by decide) (by decide) (by decide) (by decide), g154, pk_us]
    · rw [sf 155 (by decide), x_u_ne (by decide)]; exact k155
    · rw [sf 156 (by decide), x_u_ne (by decide)]; exact k156
    · rw [sf 154 (by decide), x_u_ne (by decide), kf 154 (by decide) (by decide) (by decide) (by decide) (by decide), g154, pk_un hj]
    · rw [sf 155 (by decide), x_u_ne (by decide), (kj j hj).1, g155, pk_un hj]
    · rw [sf 156 (by decide), x_u_ne (by decide), (kj j hj).2, g156, pk_un hj]
    · rw [s1 i hi, x_u_ne (by decide)]; exact kD hzF i (by omega)
    · rw [s2 j hj, x_u_ne (by decide), kf 160 (by decide) (by decide) (by decide) (by decide) (by decide), gf 160 (by decide) (by decide) (by decide) (by decide)]
    · rw [sf 157 (by decide), x_u_eq, q157]
      show upd (μ 157) 2 (μ 157 2 + 0) = _
      rw [e157]; congr 1; exact Int32.add_zero _
    · rw [sf a h6, x_u_ne h5, kf a h1 h3 h4 h7 h8]; exact gf a h1 h2 h3 h4
  · rw [if_neg hzF]
    change x_T _ _ _ _ _ (.int 0 :: _) _ _ _
    refine xt_if_ne 85 dX12_text_80 (by decide) (fun q => absurd (by decide) q) (fun _ => ?_)
    refine xt_iconst (-1) dX12_text_83 (by decide) ?_
    refine xt_iret .int dX12_text_84 rfl (by first | rfl | assumption) ?_
    refine ⟨by rw [if_neg hzF], by rw [kf 154 (by decide) (by decide) (by decide) (by decide) (by decide), g154, pk_us], k155, k156, fun j hj => ⟨by rw [kf 154 (by decide) (by decide) (by decide) (by decide) (by decide), g154, pk_un hj], by rw [(kj j hj).1, g155, pk_un hj], by rw [(kj j hj).2, g156, pk_un hj]⟩, fun _ a h1 h2 h3 h4 h5 h6 => by rw [kf a h1 h3 h4 h5 h6]; exact gf a h1 h2 h3 h4, fun z => absurd z hzF⟩
end TEXTS
