/-! texts: the class's side of the step -/
theorem s_byte8 : ∀ k, k < 256 → (((nI k - nI 128) &&& 255).toNatClampNeg < 256 ∧ (((nI k - nI 128) &&& 255).toNatClampNeg < 128 → nI k - nI 128 = nI ((nI k - nI 128) &&& 255).toNatClampNeg) ∧ (128 ≤ ((nI k - nI 128) &&& 255).toNatClampNeg → nI k - nI 128 < 0)) ∧ (nI k - nI 128) &&& 255 = nI ((nI k - nI 128) &&& 255).toNatClampNeg := by decide +kernel
theorem s_byte {v : Int32} (h : fits .byte (.int v) = true) : s_byt (v &&& 255).toNatClampNeg v ∧ v &&& 255 = nI (v &&& 255).toNatClampNeg ∧ (v &&& 255).toNatClampNeg < 256 := by
  have h : (decide (-128 ≤ v) && decide (v ≤ 127)) = true := h
  rw [Bool.and_eq_true] at h
  have h1 := of_decide_eq_true h.1
  have h2 := of_decide_eq_true h.2
  rw [Int32.le_iff_toInt_le] at h1 h2
  have e1 : (-128 : Int32).toInt = -128 := by decide
  have e2 : (127 : Int32).toInt = 127 := by decide
  rw [e1] at h1
  rw [e2] at h2
  obtain ⟨k, hk, rfl⟩ : ∃ k : Nat, k < 256 ∧ v = nI k - nI 128 := by
    refine ⟨(v.toInt + 128).toNat, by omega, ?_⟩
    apply Int32.toInt_inj.mp
    rw [pk_sub_toInt (by omega) (by decide)]
    omega
  obtain ⟨h3, h4⟩ := s_byte8 k hk
  exact ⟨h3, h4, h3.1⟩
/-- one more text: the told, but for the text itself -/
def t_By (μ : x_Me) (n : Nat) : Nat → Nat := fun i => if i < n then (μ 2 i &&& 255).toNatClampNeg else 0
theorem x_le2 {a : Int32} (h : a < 3) : a ≤ nI 2 := by
  rw [Int32.lt_iff_toInt_lt] at h
  rw [Int32.le_iff_toInt_le]
  have h3 : (3 : Int32).toInt = 3 := by decide
  have h2 : (nI 2).toInt = 2 := by decide
  omega
theorem s_max0 : ∀ c, c ≤ 2 → (if nI c < (0 : Int32) + 1 then (0 : Int32) + 1 else nI c) = nI (max c 1) := by decide
theorem s_max1 : ∀ c, c ≤ 2 → (if nI c < (1 : Int32) + 1 then (1 : Int32) + 1 else nI c) = nI (max c 2) := by decide
theorem c_F.cgr {μ μ' μ'' : x_Me} {k k' : Nat} (h : c_F μ k μ' k') (e : ∀ a, k' ≤ a → a ≤ k' + 5 → μ'' a = μ' a) : c_F μ k μ'' k' := by
  unfold c_F
  rw [e k' (by omega) (by omega), e (k' + 1) (by omega) (by omega), e (k' + 2) (by omega) (by omega), e (k' + 3) (by omega) (by omega), e (k' + 4) (by omega) (by omega), e (k' + 5) (by omega) (by omega)]; exact h
theorem c_D.cgr {μ μ' μ'' : x_Me} {k k' : Nat} (h : c_D μ k μ' k') (e : ∀ a, k' ≤ a → a ≤ k' + 1 → μ'' a = μ' a) : c_D μ k μ'' k' := by
  unfold c_D
  rw [e k' (by omega) (by omega), e (k' + 1) (by omega) (by omega)]; exact h
theorem c_L.cgr {μ μ' μ'' : x_Me} {k k' : Nat} (h : c_L μ k μ' k') (e : ∀ a, k' ≤ a → a ≤ k' + 2 → μ'' a = μ' a) : c_L μ k μ'' k' := by
  unfold c_L
  rw [e k' (by omega) (by omega), e (k' + 1) (by omega) (by omega), e (k' + 2) (by omega) (by omega)]; exact h
section TEXTC
variable (sc : Nat × (Nat → Int32)) (d : Nat) (μ : x_Me) (w : Int64)
set_option maxHeartbeats 1000000 in
theorem tX9_numberFor (s c : Nat) (hs : s < 3) (hc : c ≤ 2) (e : μ 3 s = nI c) (a2 : Int32) : x_K sc (d + 2) mX9_numberFor [.ref 1, .int (nI s), .int a2] μ w (x_p (some (.int (if a2 = -1 then (if c < 2 then nI c else -1) else if s_hasT c a2 = 0 then -1 else a2))) μ w) := by
  refine x_K.of (by decide) (Nat.le_of_ble_eq_true rfl) ?_
  show x_T sc (d + 2) mX9_numberFor 0 [.ref 1, .int (nI s), .int a2] [] μ w _
  refine xt_iload_n _ dX9_numberFor_0 rfl ?_
  refine xt_if_lt 9 dX9_numberFor_1 (by decide) (fun q => absurd q (nI_pos (by omega))) (fun _ => ?_)
  refine xt_iload_n _ dX9_numberFor_4 rfl ?_
  refine xt_iconst (3) dX9_numberFor_5 (by decide) ?_
  refine xt_icmp_lt 11 dX9_numberFor_6 (by decide) (fun _ => ?_) (fun q => absurd (nI_lt hs (by decide)) q)
  refine xt_iload_n _ dX9_numberFor_11 rfl ?_
  refine xt_iconst (-1) dX9_numberFor_12 (by decide) ?_
  refine xt_icmp_ne 37 dX9_numberFor_13 (by decide) (fun t13 => ?_) (fun f13 => ?_)
  · refine xt_aload_n _ dX9_numberFor_37 rfl ?_
    refine xt_iload_n _ dX9_numberFor_38 rfl ?_
    refine xt_iload_n _ dX9_numberFor_39 rfl ?_
    refine xt_cV _ dX9_numberFor_40 klX9_72 (tX9_has sc _ μ w s c hs hc e a2) sh1 rfl rfl (Nat.le_of_ble_eq_true rfl) ?_
    refine xt_if_eq 50 dX9_numberFor_43 (by decide) (fun t43 => ?_) (fun f43 => ?_)
    · refine xt_iconst (-1) dX9_numberFor_50 (by decide) ?_
      exact xt_iret .int dX9_numberFor_51 rfl (by first | rfl | assumption) ⟨by rw [if_neg t13, if_pos t43], rfl, rfl⟩
    · refine xt_iload_n _ dX9_numberFor_46 rfl ?_
      refine xt_goto 51 dX9_numberFor_47 (by decide) ?_
      exact xt_iret .int dX9_numberFor_51 rfl (by first | rfl | assumption) ⟨by rw [if_neg t13, if_neg f43], rfl, rfl⟩
  · refine xt_aload_n _ dX9_numberFor_16 rfl ?_
    refine xt_getr _ dX9_numberFor_17 kfX9_19 (by first | exact sh0 | exact sh1 | exact sh115 | rfl | assumption) rfl ?_
    refine xt_iload_n _ dX9_numberFor_20 rfl ?_
    refine xt_ald dX9_numberFor_21 (by first | exact sh0 | exact sh1 | exact sh115 | rfl | assumption) (by exact vp_in_nI (by omega) (by decide)) ?_
    refine xt_iconst (2) dX9_numberFor_22 (by decide) ?_
    rw [nI_clamp (by omega), e]
    refine xt_icmp_ge 35 dX9_numberFor_23 (by decide) (fun t23 => ?_) (fun f23 => ?_)
    · have n23 : 2 ≤ c := (nI_leI (a := 2) (b := c) (by omega) (by omega)).mp t23
      refine xt_iconst (-1) dX9_numberFor_35 (by decide) ?_
      exact xt_iret .int dX9_numberFor_36 rfl (by first | rfl | assumption) ⟨by rw [if_pos f13, if_neg (by omega)], rfl, rfl⟩
    · have n23 : ¬ (2 ≤ c) := fun z => f23 ((nI_leI (a := 2) (b := c) (by omega) (by omega)).mpr z)
      refine xt_aload_n _ dX9_numberFor_26 rfl ?_
      refine xt_getr _ dX9_numberFor_27 kfX9_19 (by first | exact sh0 | exact sh1 | exact sh115 | rfl | assumption) rfl ?_
      refine xt_iload_n _ dX9_numberFor_30 rfl ?_
      refine xt_ald dX9_numberFor_31 (by first | exact sh0 | exact sh1 | exact sh115 | rfl | assumption) (by exact vp_in_nI (by omega) (by decide)) ?_
      rw [nI_clamp (by omega), e]
      refine xt_goto 36 dX9_numberFor_32 (by decide) ?_
      exact xt_iret .int dX9_numberFor_36 rfl (by first | rfl | assumption) ⟨by rw [if_pos f13, if_pos (by omega)], rfl, rfl⟩
set_option maxHeartbeats 1000000 in
theorem tX9_numberFor_no (a1 a2 : Int32) (h : ¬ (0 ≤ a1 ∧ a1 ≤ nI 2)) : x_K sc (d + 2) mX9_numberFor [.ref 1, .int a1, .int a2] μ w (x_p (some (.int (-1))) μ w) := by
  refine x_K.of (by decide) (Nat.le_of_ble_eq_true rfl) ?_
  show x_T sc (d + 2) mX9_numberFor 0 [.ref 1, .int a1, .int a2] [] μ w _
  refine xt_iload_n _ dX9_numberFor_0 rfl ?_
  refine xt_if_lt 9 dX9_numberFor_1 (by decide) (fun t1 => ?_) (fun f1 => ?_)
  · refine xt_iconst (-1) dX9_numberFor_9 (by decide) ?_
    exact xt_iret .int dX9_numberFor_10 rfl (by first | rfl | assumption) ⟨rfl, rfl, rfl⟩
  · refine xt_iload_n _ dX9_numberFor_4 rfl ?_
    refine xt_iconst (3) dX9_numberFor_5 (by decide) ?_
    refine xt_icmp_lt 11 dX9_numberFor_6 (by decide) (fun t6 => ?_) (fun f6 => ?_)
    · exact absurd ⟨Int32.not_lt.mp f1, x_le2 t6⟩ h
    · refine xt_iconst (-1) dX9_numberFor_9 (by decide) ?_
      exact xt_iret .int dX9_numberFor_10 rfl (by first | rfl | assumption) ⟨rfl, rfl, rfl⟩
set_option maxHeartbeats 1000000 in
theorem tX6_takeTape (n : Nat) (hn : n ≤ 600) (e : μ 1 1 = nI n) (hfit : ∀ i, i < 600 → fits .byte (.int (μ 2 i)) = true) : x_K sc (d + 1) mX6_takeTape [.ref 115, .ref 1] μ w (fun r μ' _ => r = none ∧ c_B μ' (t_By μ n) n ∧ μ' 1 1 = 0 ∧ (∀ j, j ≠ 1 → μ' 1 j = μ 1 j) ∧ ∀ a, a ≠ 1 → a ≠ 115 → a ≠ 127 → μ' a = μ a) := by
  refine x_K.of (by decide) (Nat.le_of_ble_eq_true rfl) ?_
  show x_T sc (d + 1) mX6_takeTape 0 [.ref 115, .ref 1] [] μ w _
  refine xt_aload_n _ dX6_takeTape_0 rfl ?_
  refine xt_getr _ dX6_takeTape_1 kfX6_40 (by first | exact sh0 | exact sh1 | exact sh115 | rfl | assumption) rfl ?_
  refine xt_iconst (0) dX6_takeTape_4 (by decide) ?_
  refine xt_aload_n _ dX6_takeTape_5 rfl ?_
  refine xt_getr _ dX6_takeTape_6 kfX6_32 (by first | exact sh0 | exact sh1 | exact sh115 | rfl | assumption) rfl ?_
  refine xt_iconst (0) dX6_takeTape_9 (by decide) ?_
  refine xt_sipush (600) dX6_takeTape_10 (by decide) ?_
  refine xt_copyB dX6_takeTape_13 kaX6_43 (N := 600) rfl rfl rfl (by decide) hfit (Nat.le_of_ble_eq_true rfl) ?_
  refine xt_aload_n _ dX6_takeTape_16 rfl ?_
  refine xt_aload_n _ dX6_takeTape_17 rfl ?_
  refine xt_geti dX6_takeTape_18 kfX6_49 (by first | exact sh0 | exact sh1 | exact sh115 | rfl | assumption) rfl ?_
  refine xt_puti dX6_takeTape_21 kpX6_53 (by first | exact sh0 | exact sh1 | exact sh115 | rfl | assumption) rfl (by first | rfl | assumption) (by first | rfl | assumption) ?_
  refine xt_aload_n _ dX6_takeTape_24 rfl ?_
  refine xt_iconst (0) dX6_takeTape_25 (by decide) ?_
  refine xt_puti dX6_takeTape_26 kpX6_49 (by first | exact sh0 | exact sh1 | exact sh115 | rfl | assumption) rfl (by first | rfl | assumption) (by first | rfl | assumption) ?_
  refine xt_ret dX6_takeTape_29 rfl ?_
  refine ⟨rfl, ⟨?_, hn, fun i hi => ?_, fun i hi => if_neg (by omega)⟩, by rw [x_u_eq, pk_us], fun j hj => by rw [x_u_eq, pk_un hj, x_u_ne (by decide), x_u_ne (by decide)], fun a h1 h2 h3 => by rw [x_u_ne h1, x_u_ne h2, x_u_ne h3]⟩
  · rw [x_u_ne (by decide), x_u_eq, pk_us, x_u_ne (by decide)]; exact e
  · rw [x_u_ne (by decide), x_u_ne (by decide), x_u_eq, s_cpy (by omega), t_By, if_pos hi]; exact (s_byte (hfit i (by omega))).1
set_option maxHeartbeats 1000000 in
theorem tX9_take00 (c : Nat) (hc : c ≤ 2) (e : μ 3 0 = nI c) : x_K sc (d + 2) mX9_take [.ref 1, .int 0, .int 0, .ref 115] μ w (fun r μ' _ => r = none ∧ c_F μ 116 μ' 7 ∧ μ' 3 = upd (μ 3) 0 (nI (max c 1)) ∧ ∀ a, (a < 7 ∨ 12 < a) → a ≠ 3 → μ' a = μ a) := by
  refine x_K.of (by decide) (Nat.le_of_ble_eq_true rfl) ?_
  show x_T sc (d + 2) mX9_take 0 [.ref 1, .int 0, .int 0, .ref 115] [] μ w _
  refine xt_iload_n _ dX9_take_0 rfl ?_
  refine xt_if_lt 18 dX9_take_1 (by decide) (fun q => absurd q (by decide)) (fun _ => ?_)
  refine xt_iload_n _ dX9_take_4 rfl ?_
  refine xt_iconst (3) dX9_take_5 (by decide) ?_
  refine xt_icmp_ge 18 dX9_take_6 (by decide) (fun q => absurd q (by decide)) (fun _ => ?_)
  refine xt_iload_n _ dX9_take_9 rfl ?_
  refine xt_if_lt 18 dX9_take_10 (by decide) (fun q => absurd q (by decide)) (fun _ => ?_)
  refine xt_iload_n _ dX9_take_13 rfl ?_
  refine xt_iconst (2) dX9_take_14 (by decide) ?_
  refine xt_icmp_lt 19 dX9_take_15 (by decide) (fun _ => ?_) (fun q => absurd (by decide) q)
  refine xt_iload_n _ dX9_take_19 rfl ?_
  refine xt_if_ne 39 dX9_take_20 (by decide) (fun q => absurd (by decide) q) (fun _ => ?_)
  refine xt_aload_n _ dX9_take_23 rfl ?_
  refine xt_getr _ dX9_take_24 kfX9_25 (by first | exact sh0 | exact sh1 | exact sh115 | rfl | assumption) rfl ?_
  refine xt_iload_n _ dX9_take_27 rfl ?_
  refine xt_aald (.ref 7) dX9_take_28 (by rfl) (by decide) (by unfold vp_in; decide) rfl ?_
  refine xt_aload_n _ dX9_take_29 rfl ?_
  refine xt_getr _ dX9_take_30 kfX9_76 (by first | exact sh0 | exact sh1 | exact sh115 | rfl | assumption) rfl ?_
  refine xt_callV _ dX9_take_33 klX9_56 (tX2_copyFrom sc _ μ w 7 116 (f_Sf (f := 0) (by decide)) f_S116 (by decide)) rfl rfl rfl (Nat.le_of_ble_eq_true rfl) (fun r2 μ2 w2 q2 => ?_)
  obtain ⟨rfl, hcp, hf2⟩ := q2
  change x_T _ _ _ _ _ _ _ _ _
  refine xt_goto 73 dX9_take_36 (by decide) ?_
  refine xt_aload_n _ dX9_take_73 rfl ?_
  refine xt_getr _ dX9_take_74 kfX9_19 (by first | exact sh0 | exact sh1 | exact sh115 | rfl | assumption) rfl ?_
  refine xt_iload_n _ dX9_take_77 rfl ?_
  refine xt_aload_n _ dX9_take_78 rfl ?_
  refine xt_getr _ dX9_take_79 kfX9_19 (by first | exact sh0 | exact sh1 | exact sh115 | rfl | assumption) rfl ?_
  refine xt_iload_n _ dX9_take_82 rfl ?_
  refine xt_ald dX9_take_83 (by first | exact sh0 | exact sh1 | exact sh115 | rfl | assumption) (by unfold vp_in; decide) ?_
  refine xt_iload_n _ dX9_take_84 rfl ?_
  refine xt_iconst (1) dX9_take_85 (by decide) ?_
  refine xt_iadd dX9_take_86 ?_
  rw [hf2 3 (by omega), show (0 : Int32).toNatClampNeg = 0 from rfl, e]
  refine xt_mmax dX9_take_87 kmX9_90 (Nat.le_of_ble_eq_true rfl) ?_
  rw [show (if nI c < (0 : Int32) + 1 then (0 : Int32) + 1 else nI c) = nI (max c 1) from s_max0 c hc]
  refine xt_ast dX9_take_90 (by first | exact sh0 | exact sh1 | exact sh115 | rfl | assumption) (by unfold vp_in; decide) ?_
  refine xt_ret dX9_take_91 rfl ?_
  refine ⟨rfl, ?_, ?_, fun a h1 h2 => ?_⟩
  · exact hcp.cgr (fun a h1 h2 => x_u_ne (by omega))
  · rw [x_u_eq, hf2 3 (by omega)]; rfl
  · rw [x_u_ne h2]; exact hf2 a (by omega)
set_option maxHeartbeats 1000000 in
theorem tX9_take01 (c : Nat) (hc : c ≤ 2) (e : μ 3 0 = nI c) : x_K sc (d + 2) mX9_take [.ref 1, .int 0, .int 1, .ref 115] μ w (fun r μ' _ => r = none ∧ c_F μ 116 μ' 18 ∧ μ' 3 = upd (μ 3) 0 (nI (max c 2)) ∧ ∀ a, (a < 18 ∨ 23 < a) → a ≠ 3 → μ' a = μ a) := by
  refine x_K.of (by decide) (Nat.le_of_ble_eq_true rfl) ?_
  show x_T sc (d + 2) mX9_take 0 [.ref 1, .int 0, .int 1, .ref 115] [] μ w _
  refine xt_iload_n _ dX9_take_0 rfl ?_
  refine xt_if_lt 18 dX9_take_1 (by decide) (fun q => absurd q (by decide)) (fun _ => ?_)
  refine xt_iload_n _ dX9_take_4 rfl ?_
  refine xt_iconst (3) dX9_take_5 (by decide) ?_
  refine xt_icmp_ge 18 dX9_take_6 (by decide) (fun q => absurd q (by decide)) (fun _ => ?_)
  refine xt_iload_n _ dX9_take_9 rfl ?_
  refine xt_if_lt 18 dX9_take_10 (by decide) (fun q => absurd q (by decide)) (fun _ => ?_)
  refine xt_iload_n _ dX9_take_13 rfl ?_
  refine xt_iconst (2) dX9_take_14 (by decide) ?_
  refine xt_icmp_lt 19 dX9_take_15 (by decide) (fun _ => ?_) (fun q => absurd (by decide) q)
  refine xt_iload_n _ dX9_take_19 rfl ?_
  refine xt_if_ne 39 dX9_take_20 (by decide) (fun q => absurd (by decide) q) (fun _ => ?_)
  refine xt_aload_n _ dX9_take_23 rfl ?_
  refine xt_getr _ dX9_take_24 kfX9_25 (by first | exact sh0 | exact sh1 | exact sh115 | rfl | assumption) rfl ?_
  refine xt_iload_n _ dX9_take_27 rfl ?_
  refine xt_aald (.ref 18) dX9_take_28 (by rfl) (by decide) (by unfold vp_in; decide) rfl ?_
  refine xt_aload_n _ dX9_take_29 rfl ?_
  refine xt_getr _ dX9_take_30 kfX9_76 (by first | exact sh0 | exact sh1 | exact sh115 | rfl | assumption) rfl ?_
  refine xt_callV _ dX9_take_33 klX9_56 (tX2_copyFrom sc _ μ w 18 116 (f_Sf (f := 1) (by decide)) f_S116 (by decide)) rfl rfl rfl (Nat.le_of_ble_eq_true rfl) (fun r2 μ2 w2 q2 => ?_)
  obtain ⟨rfl, hcp, hf2⟩ := q2
  change x_T _ _ _ _ _ _ _ _ _
  refine xt_goto 73 dX9_take_36 (by decide) ?_
  refine xt_aload_n _ dX9_take_73 rfl ?_
  refine xt_getr _ dX9_take_74 kfX9_19 (by first | exact sh0 | exact sh1 | exact sh115 | rfl | assumption) rfl ?_
  refine xt_iload_n _ dX9_take_77 rfl ?_
  refine xt_aload_n _ dX9_take_78 rfl ?_
  refine xt_getr _ dX9_take_79 kfX9_19 (by first | exact sh0 | exact sh1 | exact sh115 | rfl | assumption) rfl ?_
  refine xt_iload_n _ dX9_take_82 rfl ?_
  refine xt_ald dX9_take_83 (by first | exact sh0 | exact sh1 | exact sh115 | rfl | assumption) (by unfold vp_in; decide) ?_
  refine xt_iload_n _ dX9_take_84 rfl ?_
  refine xt_iconst (1) dX9_take_85 (by decide) ?_
  refine xt_iadd dX9_take_86 ?_
  rw [hf2 3 (by omega), show (0 : Int32).toNatClampNeg = 0 from rfl, e]
  refine xt_mmax dX9_take_87 kmX9_90 (Nat.le_of_ble_eq_true rfl) ?_
  rw [show (if nI c < (1 : Int32) + 1 then (1 : Int32) + 1 else nI c) = nI (max c 2) from s_max1 c hc]
  refine xt_ast dX9_take_90 (by first | exact sh0 | exact sh1 | exact sh115 | rfl | assumption) (by unfold vp_in; decide) ?_
  refine xt_ret dX9_take_91 rfl ?_
  refine ⟨rfl, ?_, ?_, fun a h1 h2 => ?_⟩
  · exact hcp.cgr (fun a h1 h2 => x_u_ne (by omega))
  · rw [x_u_eq, hf2 3 (by omega)]; rfl
  · rw [x_u_ne h2]; exact hf2 a (by omega)
set_option maxHeartbeats 1000000 in
theorem tX9_take10 (c : Nat) (hc : c ≤ 2) (e : μ 3 1 = nI c) : x_K sc (d + 2) mX9_take [.ref 1, .int 1, .int 0, .ref 115] μ w (fun r μ' _ => r = none ∧ c_D μ 122 μ' 13 ∧ μ' 3 = upd (μ 3) 1 (nI (max c 1)) ∧ ∀ a, (a < 13 ∨ 14 < a) → a ≠ 3 → μ' a = μ a) := by
  refine x_K.of (by decide) (Nat.le_of_ble_eq_true rfl) ?_
  show x_T sc (d + 2) mX9_take 0 [.ref 1, .int 1, .int 0, .ref 115] [] μ w _
  refine xt_iload_n _ dX9_take_0 rfl ?_
  refine xt_if_lt 18 dX9_take_1 (by decide) (fun q => absurd q (by decide)) (fun _ => ?_)
  refine xt_iload_n _ dX9_take_4 rfl ?_
  refine xt_iconst (3) dX9_take_5 (by decide) ?_
  refine xt_icmp_ge 18 dX9_take_6 (by decide) (fun q => absurd q (by decide)) (fun _ => ?_)
  refine xt_iload_n _ dX9_take_9 rfl ?_
  refine xt_if_lt 18 dX9_take_10 (by decide) (fun q => absurd q (by decide)) (fun _ => ?_)
  refine xt_iload_n _ dX9_take_13 rfl ?_
  refine xt_iconst (2) dX9_take_14 (by decide) ?_
  refine xt_icmp_lt 19 dX9_take_15 (by decide) (fun _ => ?_) (fun q => absurd (by decide) q)
  refine xt_iload_n _ dX9_take_19 rfl ?_
  refine xt_if_ne 39 dX9_take_20 (by decide) (fun _ => ?_) (fun q => absurd q (by decide))
  refine xt_iload_n _ dX9_take_39 rfl ?_
  refine xt_iconst (1) dX9_take_40 (by decide) ?_
  refine xt_icmp_ne 60 dX9_take_41 (by decide) (fun q => absurd (by decide) q) (fun _ => ?_)
  refine xt_aload_n _ dX9_take_44 rfl ?_
  refine xt_getr _ dX9_take_45 kfX9_31 (by first | exact sh0 | exact sh1 | exact sh115 | rfl | assumption) rfl ?_
  refine xt_iload_n _ dX9_take_48 rfl ?_
  refine xt_aald (.ref 13) dX9_take_49 (by rfl) (by decide) (by unfold vp_in; decide) rfl ?_
  refine xt_aload_n _ dX9_take_50 rfl ?_
  refine xt_getr _ dX9_take_51 kfX9_82 (by first | exact sh0 | exact sh1 | exact sh115 | rfl | assumption) rfl ?_
  refine xt_callV _ dX9_take_54 klX9_60 (tX1_copyFrom sc _ μ w 13 122 (d_Sf (f := 0) (by decide)) (show d_S 122 from ⟨rfl, rfl⟩) (by decide)) rfl rfl rfl (Nat.le_of_ble_eq_true rfl) (fun r2 μ2 w2 q2 => ?_)
  obtain ⟨rfl, hcp, hf2⟩ := q2
  change x_T _ _ _ _ _ _ _ _ _
  refine xt_goto 73 dX9_take_57 (by decide) ?_
  refine xt_aload_n _ dX9_take_73 rfl ?_
  refine xt_getr _ dX9_take_74 kfX9_19 (by first | exact sh0 | exact sh1 | exact sh115 | rfl | assumption) rfl ?_
  refine xt_iload_n _ dX9_take_77 rfl ?_
  refine xt_aload_n _ dX9_take_78 rfl ?_
  refine xt_getr _ dX9_take_79 kfX9_19 (by first | exact sh0 | exact sh1 | exact sh115 | rfl | assumption) rfl ?_
  refine xt_iload_n _ dX9_take_82 rfl ?_
  refine xt_ald dX9_take_83 (by first | exact sh0 | exact sh1 | exact sh115 | rfl | assumption) (by unfold vp_in; decide) ?_
  refine xt_iload_n _ dX9_take_84 rfl ?_
  refine xt_iconst (1) dX9_take_85 (by decide) ?_
  refine xt_iadd dX9_take_86 ?_
  rw [hf2 3 (by omega), show (1 : Int32).toNatClampNeg = 1 from rfl, e]
  refine xt_mmax dX9_take_87 kmX9_90 (Nat.le_of_ble_eq_true rfl) ?_
  rw [show (if nI c < (0 : Int32) + 1 then (0 : Int32) + 1 else nI c) = nI (max c 1) from s_max0 c hc]
  refine xt_ast dX9_take_90 (by first | exact sh0 | exact sh1 | exact sh115 | rfl | assumption) (by unfold vp_in; decide) ?_
  refine xt_ret dX9_take_91 rfl ?_
  refine ⟨rfl, ?_, ?_, fun a h1 h2 => ?_⟩
  · exact hcp.cgr (fun a h1 h2 => x_u_ne (by omega))
  · rw [x_u_eq, hf2 3 (by omega)]; rfl
  · rw [x_u_ne h2]; exact hf2 a (by omega)
set_option maxHeartbeats 1000000 in
theorem tX9_take11 (c : Nat) (hc : c ≤ 2) (e : μ 3 1 = nI c) : x_K sc (d + 2) mX9_take [.ref 1, .int 1, .int 1, .ref 115] μ w (fun r μ' _ => r = none ∧ c_D μ 122 μ' 24 ∧ μ' 3 = upd (μ 3) 1 (nI (max c 2)) ∧ ∀ a, (a < 24 ∨ 25 < a) → a ≠ 3 → μ' a = μ a) := by
  refine x_K.of (by decide) (Nat.le_of_ble_eq_true rfl) ?_
  show x_T sc (d + 2) mX9_take 0 [.ref 1, .int 1, .int 1, .ref 115] [] μ w _
  refine xt_iload_n _ dX9_take_0 rfl ?_
  refine xt_if_lt 18 dX9_take_1 (by decide) (fun q => absurd q (by decide)) (fun _ => ?_)
  refine xt_iload_n _ dX9_take_4 rfl ?_
  refine xt_iconst (3) dX9_take_5 (by decide) ?_
  refine xt_icmp_ge 18 dX9_take_6 (by decide) (fun q => absurd q (by decide)) (fun _ => ?_)
  refine xt_iload_n _ dX9_take_9 rfl ?_
  refine xt_if_lt 18 dX9_take_10 (by decide) (fun q => absurd q (by decide)) (fun _ => ?_)
  refine xt_iload_n _ dX9_take_13 rfl ?_
  refine xt_iconst (2) dX9_take_14 (by decide) ?_
  refine xt_icmp_lt 19 dX9_take_15 (by decide) (fun _ => ?_) (fun q => absurd (by decide) q)
  refine xt_iload_n _ dX9_take_19 rfl ?_
  refine xt_if_ne 39 dX9_take_20 (by decide) (fun _ => ?_) (fun q => absurd q (by decide))
  refine xt_iload_n _ dX9_take_39 rfl ?_
  refine xt_iconst (1) dX9_take_40 (by decide) ?_
  refine xt_icmp_ne 60 dX9_take_41 (by decide) (fun q => absurd (by decide) q) (fun _ => ?_)
  refine xt_aload_n _ dX9_take_44 rfl ?_
  refine xt_getr _ dX9_take_45 kfX9_31 (by first | exact sh0 | exact sh1 | exact sh115 | rfl | assumption) rfl ?_
  refine xt_iload_n _ dX9_take_48 rfl ?_
  refine xt_aald (.ref 24) dX9_take_49 (by rfl) (by decide) (by unfold vp_in; decide) rfl ?_
  refine xt_aload_n _ dX9_take_50 rfl ?_
  refine xt_getr _ dX9_take_51 kfX9_82 (by first | exact sh0 | exact sh1 | exact sh115 | rfl | assumption) rfl ?_
  refine xt_callV _ dX9_take_54 klX9_60 (tX1_copyFrom sc _ μ w 24 122 (d_Sf (f := 1) (by decide)) (show d_S 122 from ⟨rfl, rfl⟩) (by decide)) rfl rfl rfl (Nat.le_of_ble_eq_true rfl) (fun r2 μ2 w2 q2 => ?_)
  obtain ⟨rfl, hcp, hf2⟩ := q2
  change x_T _ _ _ _ _ _ _ _ _
  refine xt_goto 73 dX9_take_57 (by decide) ?_
  refine xt_aload_n _ dX9_take_73 rfl ?_
  refine xt_getr _ dX9_take_74 kfX9_19 (by first | exact sh0 | exact sh1 | exact sh115 | rfl | assumption) rfl ?_
  refine xt_iload_n _ dX9_take_77 rfl ?_
  refine xt_aload_n _ dX9_take_78 rfl ?_
  refine xt_getr _ dX9_take_79 kfX9_19 (by first | exact sh0 | exact sh1 | exact sh115 | rfl | assumption) rfl ?_
  refine xt_iload_n _ dX9_take_82 rfl ?_
  refine xt_ald dX9_take_83 (by first | exact sh0 | exact sh1 | exact sh115 | rfl | assumption) (by unfold vp_in; decide) ?_
  refine xt_iload_n _ dX9_take_84 rfl ?_
  refine xt_iconst (1) dX9_take_85 (by decide) ?_
  refine xt_iadd dX9_take_86 ?_
  rw [hf2 3 (by omega), show (1 : Int32).toNatClampNeg = 1 from rfl, e]
  refine xt_mmax dX9_take_87 kmX9_90 (Nat.le_of_ble_eq_true rfl) ?_
  rw [show (if nI c < (1 : Int32) + 1 then (1 : Int32) + 1 else nI c) = nI (max c 2) from s_max1 c hc]
  refine xt_ast dX9_take_90 (by first | exact sh0 | exact sh1 | exact sh115 | rfl | assumption) (by unfold vp_in; decide) ?_
  refine xt_ret dX9_take_91 rfl ?_
  refine ⟨rfl, ?_, ?_, fun a h1 h2 => ?_⟩
  · exact hcp.cgr (fun a h1 h2 => x_u_ne (by omega))
  · rw [x_u_eq, hf2 3 (by omega)]; rfl
  · rw [x_u_ne h2]; exact hf2 a (by omega)
set_option maxHeartbeats 1000000 in
theorem tX9_take20 (c : Nat) (hc : c ≤ 2) (e : μ 3 2 = nI c) : x_K sc (d + 2) mX9_take [.ref 1, .int 2, .int 0, .ref 115] μ w (fun r μ' _ => r = none ∧ c_L μ 124 μ' 15 ∧ μ' 3 = upd (μ 3) 2 (nI (max c 1)) ∧ ∀ a, (a < 15 ∨ 17 < a) → a ≠ 3 → μ' a = μ a) := by
  refine x_K.of (by decide) (Nat.le_of_ble_eq_true rfl) ?_
  show x_T sc (d + 2) mX9_take 0 [.ref 1, .int 2, .int 0, .ref 115] [] μ w _
  refine xt_iload_n _ dX9_take_0 rfl ?_
  refine xt_if_lt 18 dX9_take_1 (by decide) (fun q => absurd q (by decide)) (fun _ => ?_)
  refine xt_iload_n _ dX9_take_4 rfl ?_
  refine xt_iconst (3) dX9_take_5 (by decide) ?_
  refine xt_icmp_ge 18 dX9_take_6 (by decide) (fun q => absurd q (by decide)) (fun _ => ?_)
  refine xt_iload_n _ dX9_take_9 rfl ?_
  refine xt_if_lt 18 dX9_take_10 (by decide) (fun q => absurd q (by decide)) (fun _ => ?_)
  refine xt_iload_n _ dX9_take_13 rfl ?_
  refine xt_iconst (2) dX9_take_14 (by decide) ?_
  refine xt_icmp_lt 19 dX9_take_15 (by decide) (fun _ => ?_) (fun q => absurd (by decide) q)
  refine xt_iload_n _ dX9_take_19 rfl ?_
  refine xt_if_ne 39 dX9_take_20 (by decide) (fun _ => ?_) (fun q => absurd q (by decide))
  refine xt_iload_n _ dX9_take_39 rfl ?_
  refine xt_iconst (1) dX9_take_40 (by decide) ?_
  refine xt_icmp_ne 60 dX9_take_41 (by decide) (fun _ => ?_) (fun q => absurd q (by decide))
  refine xt_aload_n _ dX9_take_60 rfl ?_
  refine xt_getr _ dX9_take_61 kfX9_37 (by first | exact sh0 | exact sh1 | exact sh115 | rfl | assumption) rfl ?_
  refine xt_iload_n _ dX9_take_64 rfl ?_
  refine xt_aald (.ref 15) dX9_take_65 (by rfl) (by decide) (by unfold vp_in; decide) rfl ?_
  refine xt_aload_n _ dX9_take_66 rfl ?_
  refine xt_getr _ dX9_take_67 kfX9_86 (by first | exact sh0 | exact sh1 | exact sh115 | rfl | assumption) rfl ?_
  refine xt_callV _ dX9_take_70 klX9_63 (tX4_copyFrom sc _ μ w 15 124 (l_Sf (f := 0) (by decide)) (show l_S 124 from ⟨rfl, rfl, rfl⟩) (by decide)) rfl rfl rfl (Nat.le_of_ble_eq_true rfl) (fun r2 μ2 w2 q2 => ?_)
  obtain ⟨rfl, hcp, hf2⟩ := q2
  change x_T _ _ _ _ _ _ _ _ _
  refine xt_aload_n _ dX9_take_73 rfl ?_
  refine xt_getr _ dX9_take_74 kfX9_19 (by first | exact sh0 | exact sh1 | exact sh115 | rfl | assumption) rfl ?_
  refine xt_iload_n _ dX9_take_77 rfl ?_
  refine xt_aload_n _ dX9_take_78 rfl ?_
  refine xt_getr _ dX9_take_79 kfX9_19 (by first | exact sh0 | exact sh1 | exact sh115 | rfl | assumption) rfl ?_
  refine xt_iload_n _ dX9_take_82 rfl ?_
  refine xt_ald dX9_take_83 (by first | exact sh0 | exact sh1 | exact sh115 | rfl | assumption) (by unfold vp_in; decide) ?_
  refine xt_iload_n _ dX9_take_84 rfl ?_
  refine xt_iconst (1) dX9_take_85 (by decide) ?_
  refine xt_iadd dX9_take_86 ?_
  rw [hf2 3 (by omega), show (2 : Int32).toNatClampNeg = 2 from rfl, e]
  refine xt_mmax dX9_take_87 kmX9_90 (Nat.le_of_ble_eq_true rfl) ?_
  rw [show (if nI c < (0 : Int32) + 1 then (0 : Int32) + 1 else nI c) = nI (max c 1) from s_max0 c hc]
  refine xt_ast dX9_take_90 (by first | exact sh0 | exact sh1 | exact sh115 | rfl | assumption) (by unfold vp_in; decide) ?_
  refine xt_ret dX9_take_91 rfl ?_
  refine ⟨rfl, ?_, ?_, fun a h1 h2 => ?_⟩
  · exact hcp.cgr (fun a h1 h2 => x_u_ne (by omega))
  · rw [x_u_eq, hf2 3 (by omega)]; rfl
  · rw [x_u_ne h2]; exact hf2 a (by omega)
set_option maxHeartbeats 1000000 in
theorem tX9_take21 (c : Nat) (hc : c ≤ 2) (e : μ 3 2 = nI c) : x_K sc (d + 2) mX9_take [.ref 1, .int 2, .int 1, .ref 115] μ w (fun r μ' _ => r = none ∧ c_L μ 124 μ' 26 ∧ μ' 3 = upd (μ 3) 2 (nI (max c 2)) ∧ ∀ a, (a < 26 ∨ 28 < a) → a ≠ 3 → μ' a = μ a) := by
  refine x_K.of (by decide) (Nat.le_of_ble_eq_true rfl) ?_
  show x_T sc (d + 2) mX9_take 0 [.ref 1, .int 2, .int 1, .ref 115] [] μ w _
  refine xt_iload_n _ dX9_take_0 rfl ?_
  refine xt_if_lt 18 dX9_take_1 (by decide) (fun q => absurd q (by decide)) (fun _ => ?_)
  refine xt_iload_n _ dX9_take_4 rfl ?_
  refine xt_iconst (3) dX9_take_5 (by decide) ?_
  refine xt_icmp_ge 18 dX9_take_6 (by decide) (fun q => absurd q (by decide)) (fun _ => ?_)
  refine xt_iload_n _ dX9_take_9 rfl ?_
  refine xt_if_lt 18 dX9_take_10 (by decide) (fun q => absurd q (by decide)) (fun _ => ?_)
  refine xt_iload_n _ dX9_take_13 rfl ?_
  refine xt_iconst (2) dX9_take_14 (by decide) ?_
  refine xt_icmp_lt 19 dX9_take_15 (by decide) (fun _ => ?_) (fun q => absurd (by decide) q)
  refine xt_iload_n _ dX9_take_19 rfl ?_
  refine xt_if_ne 39 dX9_take_20 (by decide) (fun _ => ?_) (fun q => absurd q (by decide))
  refine xt_iload_n _ dX9_take_39 rfl ?_
  refine xt_iconst (1) dX9_take_40 (by decide) ?_
  refine xt_icmp_ne 60 dX9_take_41 (by decide) (fun _ => ?_) (fun q => absurd q (by decide))
  refine xt_aload_n _ dX9_take_60 rfl ?_
  refine xt_getr _ dX9_take_61 kfX9_37 (by first | exact sh0 | exact sh1 | exact sh115 | rfl | assumption) rfl ?_
  refine xt_iload_n _ dX9_take_64 rfl ?_
  refine xt_aald (.ref 26) dX9_take_65 (by rfl) (by decide) (by unfold vp_in; decide) rfl ?_
  refine xt_aload_n _ dX9_take_66 rfl ?_
  refine xt_getr _ dX9_take_67 kfX9_86 (by first | exact sh0 | exact sh1 | exact sh115 | rfl | assumption) rfl ?_
  refine xt_callV _ dX9_take_70 klX9_63 (tX4_copyFrom sc _ μ w 26 124 (l_Sf (f := 1) (by decide)) (show l_S 124 from ⟨rfl, rfl, rfl⟩) (by decide)) rfl rfl rfl (Nat.le_of_ble_eq_true rfl) (fun r2 μ2 w2 q2 => ?_)
  obtain ⟨rfl, hcp, hf2⟩ := q2
  change x_T _ _ _ _ _ _ _ _ _
  refine xt_aload_n _ dX9_take_73 rfl ?_
  refine xt_getr _ dX9_take_74 kfX9_19 (by first | exact sh0 | exact sh1 | exact sh115 | rfl | assumption) rfl ?_
  refine xt_iload_n _ dX9_take_77 rfl ?_
  refine xt_aload_n _ dX9_take_78 rfl ?_
  refine xt_getr _ dX9_take_79 kfX9_19 (by first | exact sh0 | exact sh1 | exact sh115 | rfl | assumption) rfl ?_
  refine xt_iload_n _ dX9_take_82 rfl ?_
  refine xt_ald dX9_take_83 (by first | exact sh0 | exact sh1 | exact sh115 | rfl | assumption) (by unfold vp_in; decide) ?_
  refine xt_iload_n _ dX9_take_84 rfl ?_
  refine xt_iconst (1) dX9_take_85 (by decide) ?_
  refine xt_iadd dX9_take_86 ?_
  rw [hf2 3 (by omega), show (2 : Int32).toNatClampNeg = 2 from rfl, e]
  refine xt_mmax dX9_take_87 kmX9_90 (Nat.le_of_ble_eq_true rfl) ?_
  rw [show (if nI c < (1 : Int32) + 1 then (1 : Int32) + 1 else nI c) = nI (max c 2) from s_max1 c hc]
  refine xt_ast dX9_take_90 (by first | exact sh0 | exact sh1 | exact sh115 | rfl | assumption) (by unfold vp_in; decide) ?_
  refine xt_ret dX9_take_91 rfl ?_
  refine ⟨rfl, ?_, ?_, fun a h1 h2 => ?_⟩
  · exact hcp.cgr (fun a h1 h2 => x_u_ne (by omega))
  · rw [x_u_eq, hf2 3 (by omega)]; rfl
  · rw [x_u_ne h2]; exact hf2 a (by omega)
end TEXTC
