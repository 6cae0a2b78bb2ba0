/-! copies: the steps of image and again -/
theorem s_fb {x : Int32} (h : fits .byte (.int x) = true) : vp_nar .byte x = x := by
  have h0 : ((-128 : Int32) ≤ x && x ≤ 127) = true := h
  rw [Bool.and_eq_true, decide_eq_true_eq, decide_eq_true_eq] at h0
  rw [vp_nar_byte]
  apply Int32.toInt_inj.mp
  rw [Int8.toInt_toInt32, Int32.toInt_toInt8]
  have a := Int32.le_iff_toInt_le.mp h0.1
  have b := Int32.le_iff_toInt_le.mp h0.2
  have c : (-128 : Int32).toInt = -128 := by decide
  have d : (127 : Int32).toInt = 127 := by decide
  rw [c] at a; rw [d] at b
  have e : (2 : Nat) ^ 8 = 256 := by decide
  rw [e]; simp only [Int.bmod]; split <;> omega
theorem x_uu (μ : x_Me) (k : Nat) (m m' : Nat → Int32) : x_u (x_u μ k m) k m' = x_u μ k m' := by
  funext a
  by_cases h : a = k
  · subst h; rw [x_u_eq, x_u_eq]
  · rw [x_u_ne h, x_u_ne h, x_u_ne h]
theorem xt_copyI {sc : Nat × (Nat → Int32)} {d : Nat} {M : x_Mt} {pc : Nat} {ls rest : List Value} {μ : x_Me} {w : Int64} {P : Option Value → x_Me → Int64 → Prop} {idx k1 k2 N : Nat} {n : Int32} (hd : decode M.2.1 pc = .ok (.invokestatic idx, 3)) (hl : Cond.methodLink M.1.cls idx arraycopyName ∈ x_WS ∧ Cond.native arraycopyName ∈ x_WS ∧ Cond.static arraycopyName ∈ x_WS ∧ Cond.initialized "java/lang/System" ∈ x_WS)
    (hs1 : x_shape[k1]? = some (.inr (.inl (0, N)))) (hs2 : x_shape[k2]? = some (.inr (.inl (0, N)))) (hn : n = nI N) (hN : N < 2 ^ 31) (hc : (rest.map fun v => v.category).sum ≤ 8)
    (K : x_T sc (d + 1) M (pc + 3) ls rest (x_u μ k2 (va_cpy (μ k1) (μ k2) 0 0 N)) w P) : x_T sc (d + 1) M pc ls (.int n :: .int 0 :: .ref k2 :: .int 0 :: .ref k1 :: rest) μ w P := by
  have e0 : (0 : Int32).toNatClampNeg = 0 := by decide
  have en : n.toNatClampNeg = N := by rw [hn, nI_clamp hN]
  refine xt_copy .int hd hl hs1 hs2 (fun E => rfl) rfl (by decide) (by decide) (by rw [hn]; exact nI_pos hN) (by rw [e0, en]; omega) (by rw [e0, en]; omega) (fun i _ => rfl) hc ?_
  rw [e0, en]; exact K
theorem xt_copyB {sc : Nat × (Nat → Int32)} {d : Nat} {M : x_Mt} {pc : Nat} {ls rest : List Value} {μ : x_Me} {w : Int64} {P : Option Value → x_Me → Int64 → Prop} {idx k1 k2 N : Nat} {n : Int32} (hd : decode M.2.1 pc = .ok (.invokestatic idx, 3)) (hl : Cond.methodLink M.1.cls idx arraycopyName ∈ x_WS ∧ Cond.native arraycopyName ∈ x_WS ∧ Cond.static arraycopyName ∈ x_WS ∧ Cond.initialized "java/lang/System" ∈ x_WS)
    (hs1 : x_shape[k1]? = some (.inr (.inl (1, N)))) (hs2 : x_shape[k2]? = some (.inr (.inl (1, N)))) (hn : n = nI N) (hN : N < 2 ^ 31) (hfit : ∀ i, i < N → fits .byte (.int (μ k1 i)) = true) (hc : (rest.map fun v => v.category).sum ≤ 8)
    (K : x_T sc (d + 1) M (pc + 3) ls rest (x_u μ k2 (va_cpy (μ k1) (μ k2) 0 0 N)) w P) : x_T sc (d + 1) M pc ls (.int n :: .int 0 :: .ref k2 :: .int 0 :: .ref k1 :: rest) μ w P := by
  have e0 : (0 : Int32).toNatClampNeg = 0 := by decide
  have en : n.toNatClampNeg = N := by rw [hn, nI_clamp hN]
  refine xt_copy .byte hd hl hs1 hs2 (fun E => rfl) rfl (by decide) (by decide) (by rw [hn]; exact nI_pos hN) (by rw [e0, en]; omega) (by rw [e0, en]; omega) (fun i hi => by rw [e0, Nat.zero_add]; rw [en] at hi; exact hfit i hi) hc ?_
  rw [e0, en]; exact K
theorem s_cpy {f g : Nat → Int32} {N i : Nat} (h : i < N) : va_cpy f g 0 0 N i = f i := by
  rw [pk_cpy_in (Nat.zero_le _) (by omega)]; congr 1; omega
/-- a FAIR, a DAY, a LOG, copied -/
def c_F (μ : x_Me) (k : Nat) (μ' : x_Me) (k' : Nat) : Prop := (∀ j, j < 7 → μ' k' j = μ k j) ∧ (∀ i, i < 18 → μ' (k' + 1) i = μ (k + 1) i) ∧ (∀ i, i < 16 → μ' (k' + 2) i = μ (k + 2) i) ∧ (∀ i, i < 48 → μ' (k' + 3) i = μ (k + 3) i) ∧ (∀ i, i < 12 → μ' (k' + 4) i = μ (k + 4) i) ∧ ∀ i, i < 24 → μ' (k' + 5) i = μ (k + 5) i
def c_D (μ : x_Me) (k : Nat) (μ' : x_Me) (k' : Nat) : Prop := μ' k' 0 = μ k 0 ∧ ∀ i, i < 160 → μ' (k' + 1) i = μ (k + 1) i
def c_L (μ : x_Me) (k : Nat) (μ' : x_Me) (k' : Nat) : Prop := (μ' k' 0 = μ k 0 ∧ μ' k' 1 = μ k 1) ∧ (∀ i, i < 8 → μ' (k' + 1) i = μ (k + 1) i) ∧ ∀ i, i < 8 → μ' (k' + 2) i = μ (k + 2) i
theorem f_C.copy {μ μ' : x_Me} {k k' : Nat} {F : Nat → Nat} (hW : f_W F) (h : f_C μ k F) (e : c_F μ k μ' k') : f_C μ' k' F := by
  obtain ⟨h0, h1, h2, h3, h4, h5⟩ := h
  obtain ⟨e0, e1, e2, e3, e4, e5⟩ := e
  obtain ⟨⟨_, _, _, w3, w4, w5, w6⟩, _⟩ := hW
  refine ⟨fun j hj => by rw [e0 j hj]; exact h0 j hj, fun m hm j hj => ?_, fun m hm j hj => ?_, fun i hi => by rw [e3 i hi]; exact h3 i hi, fun m hm j hj => ?_, fun m hm j hj => ?_⟩
  · rw [e1 _ (by omega)]; exact h1 m hm j hj
  · rw [e2 _ (by omega)]; exact h2 m hm j hj
  · rw [e4 _ (by omega)]; exact h4 m hm j hj
  · rw [e5 _ (by omega)]; exact h5 m hm j hj
section COPY
variable (sc : Nat × (Nat → Int32)) (d : Nat) (μ : x_Me) (w : Int64)
set_option maxHeartbeats 2000000 in
theorem tX2_copyFrom (k k2 : Nat) (hS1 : f_S k) (hS2 : f_S k2) (hd : k + 5 < k2 ∨ k2 + 5 < k) : x_K sc (d + 1) mX2_copyFrom [.ref k, .ref k2] μ w (fun r μ' _ => r = none ∧ c_F μ k2 μ' k ∧ ∀ a, (a < k ∨ k + 5 < a) → μ' a = μ a) := by
  have hne : k2 ≠ k := by omega
  refine x_K.of (by decide) (Nat.le_of_ble_eq_true rfl) ?_
  show x_T sc (d + 1) mX2_copyFrom 0 [.ref k, .ref k2] [] μ w _
  refine xt_aload_n _ dX2_copyFrom_0 rfl ?_
  refine xt_aload_n _ dX2_copyFrom_1 rfl ?_
  refine xt_geti dX2_copyFrom_2 kfX2_27 (by first | exact hS1.1 | exact hS2.1 | rfl | assumption) rfl ?_
  try simp only [x_u_ne hne]
  refine xt_puti dX2_copyFrom_5 kpX2_27 (by first | exact hS1.1 | exact hS2.1 | rfl | assumption) rfl (by first | rfl | assumption) (by first | rfl | assumption) ?_
  try simp only [x_uu, x_u_eq]
  refine xt_aload_n _ dX2_copyFrom_8 rfl ?_
  refine xt_aload_n _ dX2_copyFrom_9 rfl ?_
  refine xt_geti dX2_copyFrom_10 kfX2_31 (by first | exact hS1.1 | exact hS2.1 | rfl | assumption) rfl ?_
  try simp only [x_u_ne hne]
  refine xt_puti dX2_copyFrom_13 kpX2_31 (by first | exact hS1.1 | exact hS2.1 | rfl | assumption) rfl (by first | rfl | assumption) (by first | rfl | assumption) ?_
  try simp only [x_uu, x_u_eq]
  refine xt_aload_n _ dX2_copyFrom_16 rfl ?_
  refine xt_aload_n _ dX2_copyFrom_17 rfl ?_
  refine xt_geti dX2_copyFrom_18 kfX2_34 (by first | exact hS1.1 | exact hS2.1 | rfl | assumption) rfl ?_
  try simp only [x_u_ne hne]
  refine xt_puti dX2_copyFrom_21 kpX2_34 (by first | exact hS1.1 | exact hS2.1 | rfl | assumption) rfl (by first | rfl | assumption) (by first | rfl | assumption) ?_
  try simp only [x_uu, x_u_eq]
  refine xt_aload_n _ dX2_copyFrom_24 rfl ?_
  refine xt_aload_n _ dX2_copyFrom_25 rfl ?_
  refine xt_geti dX2_copyFrom_26 kfX2_37 (by first | exact hS1.1 | exact hS2.1 | rfl | assumption) rfl ?_
  try simp only [x_u_ne hne]
  refine xt_puti dX2_copyFrom_29 kpX2_37 (by first | exact hS1.1 | exact hS2.1 | rfl | assumption) rfl (by first | rfl | assumption) (by first | rfl | assumption) ?_
  try simp only [x_uu, x_u_eq]
  refine xt_aload_n _ dX2_copyFrom_32 rfl ?_
  refine xt_aload_n _ dX2_copyFrom_33 rfl ?_
  refine xt_geti dX2_copyFrom_34 kfX2_40 (by first | exact hS1.1 | exact hS2.1 | rfl | assumption) rfl ?_
  try simp only [x_u_ne hne]
  refine xt_puti dX2_copyFrom_37 kpX2_40 (by first | exact hS1.1 | exact hS2.1 | rfl | assumption) rfl (by first | rfl | assumption) (by first | rfl | assumption) ?_
  try simp only [x_uu, x_u_eq]
  refine xt_aload_n _ dX2_copyFrom_40 rfl ?_
  refine xt_aload_n _ dX2_copyFrom_41 rfl ?_
  refine xt_geti dX2_copyFrom_42 kfX2_43 (by first | exact hS1.1 | exact hS2.1 | rfl | assumption) rfl ?_
  try simp only [x_u_ne hne]
  refine xt_puti dX2_copyFrom_45 kpX2_43 (by first | exact hS1.1 | exact hS2.1 | rfl | assumption) rfl (by first | rfl | assumption) (by first | rfl | assumption) ?_
  try simp only [x_uu, x_u_eq]
  refine xt_aload_n _ dX2_copyFrom_48 rfl ?_
  refine xt_aload_n _ dX2_copyFrom_49 rfl ?_
  refine xt_geti dX2_copyFrom_50 kfX2_46 (by first | exact hS1.1 | exact hS2.1 | rfl | assumption) rfl ?_
  try simp only [x_u_ne hne]
  refine xt_puti dX2_copyFrom_53 kpX2_46 (by first | exact hS1.1 | exact hS2.1 | rfl | assumption) rfl (by first | rfl | assumption) (by first | rfl | assumption) ?_
  try simp only [x_uu, x_u_eq]
  refine xt_aload_n _ dX2_copyFrom_56 rfl ?_
  refine xt_getr _ dX2_copyFrom_57 kfX2_9 (by first | exact hS1.1 | exact hS2.1 | rfl | assumption) rfl ?_
  refine xt_iconst (0) dX2_copyFrom_60 (by decide) ?_
  refine xt_aload_n _ dX2_copyFrom_61 rfl ?_
  refine xt_getr _ dX2_copyFrom_62 kfX2_9 (by first | exact hS1.1 | exact hS2.1 | rfl | assumption) rfl ?_
  refine xt_iconst (0) dX2_copyFrom_65 (by decide) ?_
  refine xt_aload_n _ dX2_copyFrom_66 rfl ?_
  refine xt_getr _ dX2_copyFrom_67 kfX2_9 (by first | exact hS1.1 | exact hS2.1 | rfl | assumption) rfl ?_
  refine xt_alen (nI 18) dX2_copyFrom_70 (hS1.2.1) (by decide) rfl ?_
  refine xt_copyI dX2_copyFrom_71 kaX2_55 (N := 18) (hS2.2.1) (hS1.2.1) rfl (by decide) (Nat.le_of_ble_eq_true rfl) ?_
  refine xt_aload_n _ dX2_copyFrom_74 rfl ?_
  refine xt_getr _ dX2_copyFrom_75 kfX2_15 (by first | exact hS1.1 | exact hS2.1 | rfl | assumption) rfl ?_
  refine xt_iconst (0) dX2_copyFrom_78 (by decide) ?_
  refine xt_aload_n _ dX2_copyFrom_79 rfl ?_
  refine xt_getr _ dX2_copyFrom_80 kfX2_15 (by first | exact hS1.1 | exact hS2.1 | rfl | assumption) rfl ?_
  refine xt_iconst (0) dX2_copyFrom_83 (by decide) ?_
  refine xt_aload_n _ dX2_copyFrom_84 rfl ?_
  refine xt_getr _ dX2_copyFrom_85 kfX2_15 (by first | exact hS1.1 | exact hS2.1 | rfl | assumption) rfl ?_
  refine xt_alen (nI 16) dX2_copyFrom_88 (hS1.2.2.1) (by decide) rfl ?_
  refine xt_copyI dX2_copyFrom_89 kaX2_55 (N := 16) (hS2.2.2.1) (hS1.2.2.1) rfl (by decide) (Nat.le_of_ble_eq_true rfl) ?_
  refine xt_aload_n _ dX2_copyFrom_92 rfl ?_
  refine xt_getr _ dX2_copyFrom_93 kfX2_18 (by first | exact hS1.1 | exact hS2.1 | rfl | assumption) rfl ?_
  refine xt_iconst (0) dX2_copyFrom_96 (by decide) ?_
  refine xt_aload_n _ dX2_copyFrom_97 rfl ?_
  refine xt_getr _ dX2_copyFrom_98 kfX2_18 (by first | exact hS1.1 | exact hS2.1 | rfl | assumption) rfl ?_
  refine xt_iconst (0) dX2_copyFrom_101 (by decide) ?_
  refine xt_aload_n _ dX2_copyFrom_102 rfl ?_
  refine xt_getr _ dX2_copyFrom_103 kfX2_18 (by first | exact hS1.1 | exact hS2.1 | rfl | assumption) rfl ?_
  refine xt_alen (nI 48) dX2_copyFrom_106 (hS1.2.2.2.1) (by decide) rfl ?_
  refine xt_copyI dX2_copyFrom_107 kaX2_55 (N := 48) (hS2.2.2.2.1) (hS1.2.2.2.1) rfl (by decide) (Nat.le_of_ble_eq_true rfl) ?_
  refine xt_aload_n _ dX2_copyFrom_110 rfl ?_
  refine xt_getr _ dX2_copyFrom_111 kfX2_21 (by first | exact hS1.1 | exact hS2.1 | rfl | assumption) rfl ?_
  refine xt_iconst (0) dX2_copyFrom_114 (by decide) ?_
  refine xt_aload_n _ dX2_copyFrom_115 rfl ?_
  refine xt_getr _ dX2_copyFrom_116 kfX2_21 (by first | exact hS1.1 | exact hS2.1 | rfl | assumption) rfl ?_
  refine xt_iconst (0) dX2_copyFrom_119 (by decide) ?_
  refine xt_aload_n _ dX2_copyFrom_120 rfl ?_
  refine xt_getr _ dX2_copyFrom_121 kfX2_21 (by first | exact hS1.1 | exact hS2.1 | rfl | assumption) rfl ?_
  refine xt_alen (nI 12) dX2_copyFrom_124 (hS1.2.2.2.2.1) (by decide) rfl ?_
  refine xt_copyI dX2_copyFrom_125 kaX2_55 (N := 12) (hS2.2.2.2.2.1) (hS1.2.2.2.2.1) rfl (by decide) (Nat.le_of_ble_eq_true rfl) ?_
  refine xt_aload_n _ dX2_copyFrom_128 rfl ?_
  refine xt_getr _ dX2_copyFrom_129 kfX2_24 (by first | exact hS1.1 | exact hS2.1 | rfl | assumption) rfl ?_
  refine xt_iconst (0) dX2_copyFrom_132 (by decide) ?_
  refine xt_aload_n _ dX2_copyFrom_133 rfl ?_
  refine xt_getr _ dX2_copyFrom_134 kfX2_24 (by first | exact hS1.1 | exact hS2.1 | rfl | assumption) rfl ?_
  refine xt_iconst (0) dX2_copyFrom_137 (by decide) ?_
  refine xt_aload_n _ dX2_copyFrom_138 rfl ?_
  refine xt_getr _ dX2_copyFrom_139 kfX2_24 (by first | exact hS1.1 | exact hS2.1 | rfl | assumption) rfl ?_
  refine xt_alen (nI 24) dX2_copyFrom_142 (hS1.2.2.2.2.2) (by decide) rfl ?_
  refine xt_copyI dX2_copyFrom_143 kaX2_55 (N := 24) (hS2.2.2.2.2.2) (hS1.2.2.2.2.2) rfl (by decide) (Nat.le_of_ble_eq_true rfl) ?_
  refine xt_ret dX2_copyFrom_146 rfl ⟨rfl, ⟨fun j hj => ?_, fun i hi => ?_, fun i hi => ?_, fun i hi => ?_, fun i hi => ?_, fun i hi => ?_⟩, fun a ha => ?_⟩
  · rw [x_u_ne (by omega), x_u_ne (by omega), x_u_ne (by omega), x_u_ne (by omega), x_u_ne (by omega), x_u_eq]
    have hj7 : j = 0 ∨ j = 1 ∨ j = 2 ∨ j = 3 ∨ j = 4 ∨ j = 5 ∨ j = 6 := by omega
    rcases hj7 with rfl | rfl | rfl | rfl | rfl | rfl | rfl <;> rfl
  · rw [x_u_ne (by omega), x_u_ne (by omega), x_u_ne (by omega), x_u_ne (by omega), x_u_eq, s_cpy hi, x_u_ne (by omega)]
  · rw [x_u_ne (by omega), x_u_ne (by omega), x_u_ne (by omega), x_u_eq, s_cpy hi, x_u_ne (by omega), x_u_ne (by omega)]
  · rw [x_u_ne (by omega), x_u_ne (by omega), x_u_eq, s_cpy hi, x_u_ne (by omega), x_u_ne (by omega), x_u_ne (by omega)]
  · rw [x_u_ne (by omega), x_u_eq, s_cpy hi, x_u_ne (by omega), x_u_ne (by omega), x_u_ne (by omega), x_u_ne (by omega)]
  · rw [x_u_eq, s_cpy hi, x_u_ne (by omega), x_u_ne (by omega), x_u_ne (by omega), x_u_ne (by omega), x_u_ne (by omega)]
  · rw [x_u_ne (by omega), x_u_ne (by omega), x_u_ne (by omega), x_u_ne (by omega), x_u_ne (by omega), x_u_ne (by omega)]
set_option maxHeartbeats 1000000 in
theorem tX1_copyFrom (k k2 : Nat) (hS1 : d_S k) (hS2 : d_S k2) (hd : k + 1 < k2 ∨ k2 + 1 < k) : x_K sc (d + 1) mX1_copyFrom [.ref k, .ref k2] μ w (fun r μ' _ => r = none ∧ c_D μ k2 μ' k ∧ ∀ a, (a < k ∨ k + 1 < a) → μ' a = μ a) := by
  refine x_K.of (by decide) (Nat.le_of_ble_eq_true rfl) ?_
  show x_T sc (d + 1) mX1_copyFrom 0 [.ref k, .ref k2] [] μ w _
  refine xt_aload_n _ dX1_copyFrom_0 rfl ?_
  refine xt_aload_n _ dX1_copyFrom_1 rfl ?_
  refine xt_geti dX1_copyFrom_2 kfX1_15 (by first | exact hS1.1 | exact hS2.1 | rfl | assumption) rfl ?_
  refine xt_puti dX1_copyFrom_5 kpX1_15 (by first | exact hS1.1 | exact hS2.1 | rfl | assumption) rfl (by first | rfl | assumption) (by first | rfl | assumption) ?_
  refine xt_aload_n _ dX1_copyFrom_8 rfl ?_
  refine xt_getr _ dX1_copyFrom_9 kfX1_9 (by first | exact hS1.1 | exact hS2.1 | rfl | assumption) rfl ?_
  refine xt_iconst (0) dX1_copyFrom_12 (by decide) ?_
  refine xt_aload_n _ dX1_copyFrom_13 rfl ?_
  refine xt_getr _ dX1_copyFrom_14 kfX1_9 (by first | exact hS1.1 | exact hS2.1 | rfl | assumption) rfl ?_
  refine xt_iconst (0) dX1_copyFrom_17 (by decide) ?_
  refine xt_aload_n _ dX1_copyFrom_18 rfl ?_
  refine xt_getr _ dX1_copyFrom_19 kfX1_9 (by first | exact hS1.1 | exact hS2.1 | rfl | assumption) rfl ?_
  refine xt_alen (nI 160) dX1_copyFrom_22 hS1.2 (by decide) rfl ?_
  refine xt_copyI dX1_copyFrom_23 kaX1_19 (N := 160) hS2.2 hS1.2 rfl (by decide) (Nat.le_of_ble_eq_true rfl) ?_
  refine xt_ret dX1_copyFrom_26 rfl ⟨rfl, ⟨?_, fun i hi => ?_⟩, fun a ha => ?_⟩
  · rw [x_u_ne (by omega), x_u_eq, pk_us]
  · rw [x_u_eq, s_cpy hi, x_u_ne (by omega)]
  · rw [x_u_ne (by omega), x_u_ne (by omega)]
set_option maxHeartbeats 1000000 in
theorem tX4_copyFrom (k k2 : Nat) (hS1 : l_S k) (hS2 : l_S k2) (hd : k + 2 < k2 ∨ k2 + 2 < k) : x_K sc (d + 1) mX4_copyFrom [.ref k, .ref k2] μ w (fun r μ' _ => r = none ∧ c_L μ k2 μ' k ∧ ∀ a, (a < k ∨ k + 2 < a) → μ' a = μ a) := by
  have hne : k2 ≠ k := by omega
  refine x_K.of (by decide) (Nat.le_of_ble_eq_true rfl) ?_
  show x_T sc (d + 1) mX4_copyFrom 0 [.ref k, .ref k2] [] μ w _
  refine xt_aload_n _ dX4_copyFrom_0 rfl ?_
  refine xt_aload_n _ dX4_copyFrom_1 rfl ?_
  refine xt_geti dX4_copyFrom_2 kfX4_18 (by first | exact hS1.1 | exact hS2.1 | rfl | assumption) rfl ?_
  refine xt_puti dX4_copyFrom_5 kpX4_18 (by first | exact hS1.1 | exact hS2.1 | rfl | assumption) rfl (by first | rfl | assumption) (by first | rfl | assumption) ?_
  refine xt_aload_n _ dX4_copyFrom_8 rfl ?_
  refine xt_aload_n _ dX4_copyFrom_9 rfl ?_
  refine xt_geti dX4_copyFrom_10 kfX4_22 (by first | exact hS1.1 | exact hS2.1 | rfl | assumption) rfl ?_
  try simp only [x_u_ne hne]
  refine xt_puti dX4_copyFrom_13 kpX4_22 (by first | exact hS1.1 | exact hS2.1 | rfl | assumption) rfl (by first | rfl | assumption) (by first | rfl | assumption) ?_
  try simp only [x_uu, x_u_eq]
  refine xt_aload_n _ dX4_copyFrom_16 rfl ?_
  refine xt_getr _ dX4_copyFrom_17 kfX4_9 (by first | exact hS1.1 | exact hS2.1 | rfl | assumption) rfl ?_
  refine xt_iconst (0) dX4_copyFrom_20 (by decide) ?_
  refine xt_aload_n _ dX4_copyFrom_21 rfl ?_
  refine xt_getr _ dX4_copyFrom_22 kfX4_9 (by first | exact hS1.1 | exact hS2.1 | rfl | assumption) rfl ?_
  refine xt_iconst (0) dX4_copyFrom_25 (by decide) ?_
  refine xt_aload_n _ dX4_copyFrom_26 rfl ?_
  refine xt_getr _ dX4_copyFrom_27 kfX4_9 (by first | exact hS1.1 | exact hS2.1 | rfl | assumption) rfl ?_
  refine xt_alen (nI 8) dX4_copyFrom_30 hS1.2.1 (by decide) rfl ?_
  refine xt_copyI dX4_copyFrom_31 kaX4_25 (N := 8) hS2.2.1 hS1.2.1 rfl (by decide) (Nat.le_of_ble_eq_true rfl) ?_
  refine xt_aload_n _ dX4_copyFrom_34 rfl ?_
  refine xt_getr _ dX4_copyFrom_35 kfX4_15 (by first | exact hS1.1 | exact hS2.1 | rfl | assumption) rfl ?_
  refine xt_iconst (0) dX4_copyFrom_38 (by decide) ?_
  refine xt_aload_n _ dX4_copyFrom_39 rfl ?_
  refine xt_getr _ dX4_copyFrom_40 kfX4_15 (by first | exact hS1.1 | exact hS2.1 | rfl | assumption) rfl ?_
  refine xt_iconst (0) dX4_copyFrom_43 (by decide) ?_
  refine xt_aload_n _ dX4_copyFrom_44 rfl ?_
  refine xt_getr _ dX4_copyFrom_45 kfX4_15 (by first | exact hS1.1 | exact hS2.1 | rfl | assumption) rfl ?_
  refine xt_alen (nI 8) dX4_copyFrom_48 hS1.2.2 (by decide) rfl ?_
  refine xt_copyI dX4_copyFrom_49 kaX4_25 (N := 8) hS2.2.2 hS1.2.2 rfl (by decide) (Nat.le_of_ble_eq_true rfl) ?_
  refine xt_ret dX4_copyFrom_52 rfl ⟨rfl, ⟨⟨?_, ?_⟩, fun i hi => ?_, fun i hi => ?_⟩, fun a ha => ?_⟩
  · rw [x_u_ne (by omega), x_u_ne (by omega), x_u_eq, pk_un (by decide), pk_us]
  · rw [x_u_ne (by omega), x_u_ne (by omega), x_u_eq, pk_us]
  · rw [x_u_ne (by omega), x_u_eq, s_cpy hi, x_u_ne (by omega)]
  · rw [x_u_eq, s_cpy hi, x_u_ne (by omega), x_u_ne (by omega)]
  · rw [x_u_ne (by omega), x_u_ne (by omega), x_u_ne (by omega)]
end COPY
/-- all that is told: its cells -/
def t_S (b : Nat) : Prop := x_shape[b]? = some (.inl (7, [some (some (.ref (b + 1))), none, none, none, some (some (.ref (b + 2))), some (some (.ref (b + 3))), some (some (.ref (b + 4))), some (some (.ref (b + 5)))])) ∧ x_shape[b + 1]? = some (.inr (.inl (1, 600))) ∧ x_shape[b + 2]? = some (.inr (.inl (0, 3))) ∧
  x_shape[b + 3]? = some (.inr (.inr (3, 2, va_up (va_up (fun _ => none) 0 (some (b + 6))) 1 (some (b + 17))))) ∧ x_shape[b + 4]? = some (.inr (.inr (4, 2, va_up (va_up (fun _ => none) 0 (some (b + 12))) 1 (some (b + 23))))) ∧ x_shape[b + 5]? = some (.inr (.inr (5, 2, va_up (va_up (fun _ => none) 0 (some (b + 14))) 1 (some (b + 25))))) ∧
  f_S (b + 6) ∧ d_S (b + 12) ∧ l_S (b + 14) ∧ f_S (b + 17) ∧ d_S (b + 23) ∧ l_S (b + 25)
theorem t_S1 : t_S 1 := ⟨rfl, rfl, rfl, rfl, rfl, rfl, ⟨rfl, rfl, rfl, rfl, rfl, rfl⟩, ⟨rfl, rfl⟩, ⟨rfl, rfl, rfl⟩, ⟨rfl, rfl, rfl, rfl, rfl, rfl⟩, ⟨rfl, rfl⟩, ⟨rfl, rfl, rfl⟩⟩
theorem t_S30 : t_S 30 := ⟨rfl, rfl, rfl, rfl, rfl, rfl, ⟨rfl, rfl, rfl, rfl, rfl, rfl⟩, ⟨rfl, rfl⟩, ⟨rfl, rfl, rfl⟩, ⟨rfl, rfl, rfl, rfl, rfl, rfl⟩, ⟨rfl, rfl⟩, ⟨rfl, rfl, rfl⟩⟩
theorem t_S58 : t_S 58 := ⟨rfl, rfl, rfl, rfl, rfl, rfl, ⟨rfl, rfl, rfl, rfl, rfl, rfl⟩, ⟨rfl, rfl⟩, ⟨rfl, rfl, rfl⟩, ⟨rfl, rfl, rfl, rfl, rfl, rfl⟩, ⟨rfl, rfl⟩, ⟨rfl, rfl, rfl⟩⟩
theorem t_S86 : t_S 86 := ⟨rfl, rfl, rfl, rfl, rfl, rfl, ⟨rfl, rfl, rfl, rfl, rfl, rfl⟩, ⟨rfl, rfl⟩, ⟨rfl, rfl, rfl⟩, ⟨rfl, rfl, rfl, rfl, rfl, rfl⟩, ⟨rfl, rfl⟩, ⟨rfl, rfl, rfl⟩⟩
def c_T (μ : x_Me) (b : Nat) (μ' : x_Me) (b' : Nat) : Prop := (μ' b' 1 = μ b 1 ∧ μ' b' 2 = μ b 2 ∧ μ' b' 3 = μ b 3) ∧ (∀ i, i < 600 → μ' (b' + 1) i = μ (b + 1) i) ∧ (∀ i, i < 3 → μ' (b' + 2) i = μ (b + 2) i) ∧ ∀ f, f < 2 → c_F μ (b + 6 + 11 * f) μ' (b' + 6 + 11 * f) ∧ c_D μ (b + 12 + 11 * f) μ' (b' + 12 + 11 * f) ∧ c_L μ (b + 14 + 11 * f) μ' (b' + 14 + 11 * f)
theorem c_F.cg {μ μ1 μ2 μ3 : x_Me} {k k' : Nat} (h : c_F μ k μ1 k') (e : ∀ j, j ≤ 5 → μ2 (k' + j) = μ1 (k' + j)) (e' : ∀ j, j ≤ 5 → μ3 (k + j) = μ (k + j)) : c_F μ3 k μ2 k' := by
  obtain ⟨h0, h1, h2, h3, h4, h5⟩ := h
  have a0 : μ2 k' = μ1 k' := e 0 (by decide)
  have b0 : μ3 k = μ k := e' 0 (by decide)
  refine ⟨?_, ?_, ?_, ?_, ?_, ?_⟩
  · rw [a0, b0]; exact h0
  · rw [e 1 (by decide), e' 1 (by decide)]; exact h1
  · rw [e 2 (by decide), e' 2 (by decide)]; exact h2
  · rw [e 3 (by decide), e' 3 (by decide)]; exact h3
  · rw [e 4 (by decide), e' 4 (by decide)]; exact h4
  · rw [e 5 (by decide), e' 5 (by decide)]; exact h5
theorem c_D.cg {μ μ1 μ2 μ3 : x_Me} {k k' : Nat} (h : c_D μ k μ1 k') (e : ∀ j, j ≤ 1 → μ2 (k' + j) = μ1 (k' + j)) (e' : ∀ j, j ≤ 1 → μ3 (k + j) = μ (k + j)) : c_D μ3 k μ2 k' := by
  have a0 : μ2 k' = μ1 k' := e 0 (by decide)
  have b0 : μ3 k = μ k := e' 0 (by decide)
  refine ⟨?_, ?_⟩
  · rw [a0, b0]; exact h.1
  · rw [e 1 (by decide), e' 1 (by decide)]; exact h.2
theorem c_L.cg {μ μ1 μ2 μ3 : x_Me} {k k' : Nat} (h : c_L μ k μ1 k') (e : ∀ j, j ≤ 2 → μ2 (k' + j) = μ1 (k' + j)) (e' : ∀ j, j ≤ 2 → μ3 (k + j) = μ (k + j)) : c_L μ3 k μ2 k' := by
  have a0 : μ2 k' = μ1 k' := e 0 (by decide)
  have b0 : μ3 k = μ k := e' 0 (by decide)
  refine ⟨?_, ?_, ?_⟩
  · rw [a0, b0]; exact h.1
  · rw [e 1 (by decide), e' 1 (by decide)]; exact h.2.1
  · rw [e 2 (by decide), e' 2 (by decide)]; exact h.2.2
theorem c_T.cg {μ μ1 μ2 : x_Me} {b b' : Nat} (h : c_T μ b μ1 b') (e : ∀ j, j ≤ 27 → μ2 (b' + j) = μ1 (b' + j)) : c_T μ b μ2 b' := by
  obtain ⟨h0, h1, h2, h3⟩ := h
  have a0 : μ2 b' = μ1 b' := e 0 (by decide)
  refine ⟨by rw [a0]; exact h0, by rw [e 1 (by decide)]; exact h1, by rw [e 2 (by decide)]; exact h2, fun f hf => ⟨(h3 f hf).1.cg (fun j hj => ?_) (fun _ _ => rfl), (h3 f hf).2.1.cg (fun j hj => ?_) (fun _ _ => rfl), (h3 f hf).2.2.cg (fun j hj => ?_) (fun _ _ => rfl)⟩⟩
  · have := e (6 + 11 * f + j) (by omega)
    rw [show b' + (6 + 11 * f + j) = b' + 6 + 11 * f + j by omega] at this; exact this
  · have := e (12 + 11 * f + j) (by omega)
    rw [show b' + (12 + 11 * f + j) = b' + 12 + 11 * f + j by omega] at this; exact this
  · have := e (14 + 11 * f + j) (by omega)
    rw [show b' + (14 + 11 * f + j) = b' + 14 + 11 * f + j by omega] at this; exact this
theorem c_T.self {μ μ' : x_Me} {b : Nat} (e : ∀ j, j ≤ 27 → μ' (b + j) = μ (b + j)) : c_T μ b μ' b := by
  have h : c_T μ b μ b := ⟨⟨rfl, rfl, rfl⟩, fun _ _ => rfl, fun _ _ => rfl, fun _ _ => ⟨⟨fun _ _ => rfl, fun _ _ => rfl, fun _ _ => rfl, fun _ _ => rfl, fun _ _ => rfl, fun _ _ => rfl⟩, ⟨rfl, fun _ _ => rfl⟩, ⟨⟨rfl, rfl⟩, fun _ _ => rfl, fun _ _ => rfl⟩⟩⟩
  exact h.cg e
section COPYT
variable (sc : Nat × (Nat → Int32)) (d : Nat) (μ : x_Me) (w : Int64)
set_option maxHeartbeats 4000000 in
theorem tX9_copyFrom (b c : Nat) (hS1 : t_S b) (hS2 : t_S c) (hd : b + 27 < c ∨ c + 27 < b) (hfit : ∀ i, i < 600 → fits .byte (.int (μ (c + 1) i)) = true) : x_K sc (d + 2) mX9_copyFrom [.ref b, .ref c] μ w (fun r μ' _ => r = none ∧ c_T μ c μ' b ∧ ∀ a, (a < b ∨ b + 27 < a) → μ' a = μ a) := by
  have hne : c ≠ b := by omega
  have hne1 : c ≠ b + 1 := by omega
  refine x_K.of (by decide) (Nat.le_of_ble_eq_true rfl) ?_
  show x_T sc (d + 2) mX9_copyFrom 0 [.ref b, .ref c, .retAddr 0] [] μ w _
  refine xt_aload_n _ dX9_copyFrom_0 rfl ?_
  refine xt_getr _ dX9_copyFrom_1 kfX9_9 (by first | exact hS1.1 | exact hS2.1 | rfl | assumption) rfl ?_
  refine xt_iconst (0) dX9_copyFrom_4 (by decide) ?_
  refine xt_aload_n _ dX9_copyFrom_5 rfl ?_
  refine xt_getr _ dX9_copyFrom_6 kfX9_9 (by first | exact hS1.1 | exact hS2.1 | rfl | assumption) rfl ?_
  refine xt_iconst (0) dX9_copyFrom_9 (by decide) ?_
  refine xt_sipush (600) dX9_copyFrom_10 (by decide) ?_
  refine xt_copyB dX9_copyFrom_13 kaX9_44 (N := 600) hS2.2.1 hS1.2.1 rfl (by decide) hfit (Nat.le_of_ble_eq_true rfl) ?_
  refine xt_aload_n _ dX9_copyFrom_16 rfl ?_
  refine xt_aload_n _ dX9_copyFrom_17 rfl ?_
  refine xt_geti dX9_copyFrom_18 kfX9_50 (by first | exact hS1.1 | exact hS2.1 | rfl | assumption) rfl ?_
  simp only [x_u_ne hne1]
  refine xt_puti dX9_copyFrom_21 kpX9_50 (by first | exact hS1.1 | exact hS2.1 | rfl | assumption) rfl (by first | rfl | assumption) (by first | rfl | assumption) ?_
  refine xt_aload_n _ dX9_copyFrom_24 rfl ?_
  refine xt_aload_n _ dX9_copyFrom_25 rfl ?_
  refine xt_geti dX9_copyFrom_26 kfX9_53 (by first | exact hS1.1 | exact hS2.1 | rfl | assumption) rfl ?_
  simp only [x_u_ne hne, x_u_ne hne1]
  refine xt_puti dX9_copyFrom_29 kpX9_53 (by first | exact hS1.1 | exact hS2.1 | rfl | assumption) rfl (by first | rfl | assumption) (by first | rfl | assumption) ?_
  simp only [x_uu, x_u_eq]
  refine xt_aload_n _ dX9_copyFrom_32 rfl ?_
  refine xt_aload_n _ dX9_copyFrom_33 rfl ?_
  refine xt_geti dX9_copyFrom_34 kfX9_15 (by first | exact hS1.1 | exact hS2.1 | rfl | assumption) rfl ?_
  simp only [x_u_ne hne, x_u_ne hne1]
  refine xt_puti dX9_copyFrom_37 kpX9_15 (by first | exact hS1.1 | exact hS2.1 | rfl | assumption) rfl (by first | rfl | assumption) (by first | rfl | assumption) ?_
  simp only [x_uu, x_u_eq]
  refine xt_aload_n _ dX9_copyFrom_40 rfl ?_
  refine xt_getr _ dX9_copyFrom_41 kfX9_19 (by first | exact hS1.1 | exact hS2.1 | rfl | assumption) rfl ?_
  refine xt_iconst (0) dX9_copyFrom_44 (by decide) ?_
  refine xt_aload_n _ dX9_copyFrom_45 rfl ?_
  refine xt_getr _ dX9_copyFrom_46 kfX9_19 (by first | exact hS1.1 | exact hS2.1 | rfl | assumption) rfl ?_
  refine xt_iconst (0) dX9_copyFrom_49 (by decide) ?_
  refine xt_iconst (3) dX9_copyFrom_50 (by decide) ?_
  refine xt_copyI dX9_copyFrom_51 kaX9_44 (N := 3) hS2.2.2.1 hS1.2.2.1 rfl (by decide) (Nat.le_of_ble_eq_true rfl) ?_
  refine xt_iconst (0) dX9_copyFrom_54 (by decide) ?_
  refine xt_istore_n dX9_copyFrom_55 (by decide) rfl ?_
  change x_T _ _ _ _ [_, _, _] _ _ _ _
  refine xt_iload_n _ dX9_copyFrom_56 rfl ?_
  refine xt_iconst (2) dX9_copyFrom_57 (by decide) ?_
  refine xt_icmp_ge 112 dX9_copyFrom_58 (by decide) (fun q => absurd q (by decide)) (fun _ => ?_)
  refine xt_aload_n _ dX9_copyFrom_61 rfl ?_
  refine xt_getr _ dX9_copyFrom_62 kfX9_25 (by first | exact hS1.1 | exact hS2.1 | rfl | assumption) rfl ?_
  refine xt_iload_n _ dX9_copyFrom_65 rfl ?_
  refine xt_aald (.ref (b + 6)) dX9_copyFrom_66 hS1.2.2.2.1 (by decide) (by unfold vp_in; decide) rfl ?_
  refine xt_aload_n _ dX9_copyFrom_67 rfl ?_
  refine xt_getr _ dX9_copyFrom_68 kfX9_25 (by first | exact hS1.1 | exact hS2.1 | rfl | assumption) rfl ?_
  refine xt_iload_n _ dX9_copyFrom_71 rfl ?_
  refine xt_aald (.ref (c + 6)) dX9_copyFrom_72 hS2.2.2.2.1 (by decide) (by unfold vp_in; decide) rfl ?_
  refine xt_callV _ dX9_copyFrom_73 klX9_56 (tX2_copyFrom sc _ _ _ (b + 6) (c + 6) hS1.2.2.2.2.2.2.1 hS2.2.2.2.2.2.2.1 (by omega)) hS1.2.2.2.2.2.2.1.1 rfl rfl (Nat.le_of_ble_eq_true rfl) (fun r2 μ2 w2 q2 => ?_)
  obtain ⟨rfl, hc1, hf1⟩ := q2
  change x_T _ _ _ _ _ [] _ _ _
  refine xt_aload_n _ dX9_copyFrom_76 rfl ?_
  refine xt_getr _ dX9_copyFrom_77 kfX9_31 (by first | exact hS1.1 | exact hS2.1 | rfl | assumption) rfl ?_
  refine xt_iload_n _ dX9_copyFrom_80 rfl ?_
  refine xt_aald (.ref (b + 12)) dX9_copyFrom_81 hS1.2.2.2.2.1 (by decide) (by unfold vp_in; decide) rfl ?_
  refine xt_aload_n _ dX9_copyFrom_82 rfl ?_
  refine xt_getr _ dX9_copyFrom_83 kfX9_31 (by first | exact hS1.1 | exact hS2.1 | rfl | assumption) rfl ?_
  refine xt_iload_n _ dX9_copyFrom_86 rfl ?_
  refine xt_aald (.ref (c + 12)) dX9_copyFrom_87 hS2.2.2.2.2.1 (by decide) (by unfold vp_in; decide) rfl ?_
  refine xt_callV _ dX9_copyFrom_88 klX9_60 (tX1_copyFrom sc _ _ _ (b + 12) (c + 12) hS1.2.2.2.2.2.2.2.1 hS2.2.2.2.2.2.2.2.1 (by omega)) hS1.2.2.2.2.2.2.2.1.1 rfl rfl (Nat.le_of_ble_eq_true rfl) (fun r3 μ3 w3 q3 => ?_)
  obtain ⟨rfl, hc2, hf2⟩ := q3
  change x_T _ _ _ _ _ [] _ _ _
  refine xt_aload_n _ dX9_copyFrom_91 rfl ?_
  refine xt_getr _ dX9_copyFrom_92 kfX9_37 (by first | exact hS1.1 | exact hS2.1 | rfl | assumption) rfl ?_
  refine xt_iload_n _ dX9_copyFrom_95 rfl ?_
  refine xt_aald (.ref (b + 14)) dX9_copyFrom_96 hS1.2.2.2.2.2.1 (by decide) (by unfold vp_in; decide) rfl ?_
  refine xt_aload_n _ dX9_copyFrom_97 rfl ?_
  refine xt_getr _ dX9_copyFrom_98 kfX9_37 (by first | exact hS1.1 | exact hS2.1 | rfl | assumption) rfl ?_
  refine xt_iload_n _ dX9_copyFrom_101 rfl ?_
  refine xt_aald (.ref (c + 14)) dX9_copyFrom_102 hS2.2.2.2.2.2.1 (by decide) (by unfold vp_in; decide) rfl ?_
  refine xt_callV _ dX9_copyFrom_103 klX9_63 (tX4_copyFrom sc _ _ _ (b + 14) (c + 14) hS1.2.2.2.2.2.2.2.2.1 hS2.2.2.2.2.2.2.2.2.1 (by omega)) hS1.2.2.2.2.2.2.2.2.1.1 rfl rfl (Nat.le_of_ble_eq_true rfl) (fun r4 μ4 w4 q4 => ?_)
  obtain ⟨rfl, hc3, hf3⟩ := q4
  change x_T _ _ _ _ _ [] _ _ _
  refine xt_inc _ (1) dX9_copyFrom_106 rfl (by decide) (by decide) rfl ?_
  change x_T _ _ _ _ [_, _, _] _ _ _ _
  refine xt_goto 56 dX9_copyFrom_109 (by decide) ?_
  refine xt_iload_n _ dX9_copyFrom_56 rfl ?_
  refine xt_iconst (2) dX9_copyFrom_57 (by decide) ?_
  refine xt_icmp_ge 112 dX9_copyFrom_58 (by decide) (fun q => absurd q (by decide)) (fun _ => ?_)
  refine xt_aload_n _ dX9_copyFrom_61 rfl ?_
  refine xt_getr _ dX9_copyFrom_62 kfX9_25 (by first | exact hS1.1 | exact hS2.1 | rfl | assumption) rfl ?_
  refine xt_iload_n _ dX9_copyFrom_65 rfl ?_
  refine xt_aald (.ref (b + 17)) dX9_copyFrom_66 hS1.2.2.2.1 (by decide) (by unfold vp_in; decide) rfl ?_
  refine xt_aload_n _ dX9_copyFrom_67 rfl ?_
  refine xt_getr _ dX9_copyFrom_68 kfX9_25 (by first | exact hS1.1 | exact hS2.1 | rfl | assumption) rfl ?_
  refine xt_iload_n _ dX9_copyFrom_71 rfl ?_
  refine xt_aald (.ref (c + 17)) dX9_copyFrom_72 hS2.2.2.2.1 (by decide) (by unfold vp_in; decide) rfl ?_
  refine xt_callV _ dX9_copyFrom_73 klX9_56 (tX2_copyFrom sc _ _ _ (b + 17) (c + 17) hS1.2.2.2.2.2.2.2.2.2.1 hS2.2.2.2.2.2.2.2.2.2.1 (by omega)) hS1.2.2.2.2.2.2.2.2.2.1.1 rfl rfl (Nat.le_of_ble_eq_true rfl) (fun r5 μ5 w5 q5 => ?_)
  obtain ⟨rfl, hc4, hf4⟩ := q5
  change x_T _ _ _ _ _ [] _ _ _
  refine xt_aload_n _ dX9_copyFrom_76 rfl ?_
  refine xt_getr _ dX9_copyFrom_77 kfX9_31 (by first | exact hS1.1 | exact hS2.1 | rfl | assumption) rfl ?_
  refine xt_iload_n _ dX9_copyFrom_80 rfl ?_
  refine xt_aald (.ref (b + 23)) dX9_copyFrom_81 hS1.2.2.2.2.1 (by decide) (by unfold vp_in; decide) rfl ?_
  refine xt_aload_n _ dX9_copyFrom_82 rfl ?_
  refine xt_getr _ dX9_copyFrom_83 kfX9_31 (by first | exact hS1.1 | exact hS2.1 | rfl | assumption) rfl ?_
  refine xt_iload_n _ dX9_copyFrom_86 rfl ?_
  refine xt_aald (.ref (c + 23)) dX9_copyFrom_87 hS2.2.2.2.2.1 (by decide) (by unfold vp_in; decide) rfl ?_
  refine xt_callV _ dX9_copyFrom_88 klX9_60 (tX1_copyFrom sc _ _ _ (b + 23) (c + 23) hS1.2.2.2.2.2.2.2.2.2.2.1 hS2.2.2.2.2.2.2.2.2.2.2.1 (by omega)) hS1.2.2.2.2.2.2.2.2.2.2.1.1 rfl rfl (Nat.le_of_ble_eq_true rfl) (fun r6 μ6 w6 q6 => ?_)
  obtain ⟨rfl, hc5, hf5⟩ := q6
  change x_T _ _ _ _ _ [] _ _ _
  refine xt_aload_n _ dX9_copyFrom_91 rfl ?_
  refine xt_getr _ dX9_copyFrom_92 kfX9_37 (by first | exact hS1.1 | exact hS2.1 | rfl | assumption) rfl ?_
  refine xt_iload_n _ dX9_copyFrom_95 rfl ?_
  refine xt_aald (.ref (b + 25)) dX9_copyFrom_96 hS1.2.2.2.2.2.1 (by decide) (by unfold vp_in; decide) rfl ?_
  refine xt_aload_n _ dX9_copyFrom_97 rfl ?_
  refine xt_getr _ dX9_copyFrom_98 kfX9_37 (by first | exact hS1.1 | exact hS2.1 | rfl | assumption) rfl ?_
  refine xt_iload_n _ dX9_copyFrom_101 rfl ?_
  refine xt_aald (.ref (c + 25)) dX9_copyFrom_102 hS2.2.2.2.2.2.1 (by decide) (by unfold vp_in; decide) rfl ?_
  refine xt_callV _ dX9_copyFrom_103 klX9_63 (tX4_copyFrom sc _ _ _ (b + 25) (c + 25) hS1.2.2.2.2.2.2.2.2.2.2.2 hS2.2.2.2.2.2.2.2.2.2.2.2 (by omega)) hS1.2.2.2.2.2.2.2.2.2.2.2.1 rfl rfl (Nat.le_of_ble_eq_true rfl) (fun r7 μ7 w7 q7 => ?_)
  obtain ⟨rfl, hc6, hf6⟩ := q7
  change x_T _ _ _ _ _ [] _ _ _
  refine xt_inc _ (1) dX9_copyFrom_106 rfl (by decide) (by decide) rfl ?_
  change x_T _ _ _ _ [_, _, _] _ _ _ _
  refine xt_goto 56 dX9_copyFrom_109 (by decide) ?_
  refine xt_iload_n _ dX9_copyFrom_56 rfl ?_
  refine xt_iconst (2) dX9_copyFrom_57 (by decide) ?_
  refine xt_icmp_ge 112 dX9_copyFrom_58 (by decide) (fun _ => ?_) (fun q => absurd (by decide) q)
  refine xt_ret dX9_copyFrom_112 rfl ⟨rfl, ⟨?_, fun i hi => ?_, fun i hi => ?_, fun f hf => ?_⟩, fun a ha => ?_⟩
  · rw [((hf6 b (by omega)).trans ((hf5 b (by omega)).trans ((hf4 b (by omega)).trans ((hf3 b (by omega)).trans ((hf2 b (by omega)).trans (hf1 b (by omega)))))))]
    refine ⟨?_, ?_, ?_⟩ <;> (rw [x_u_ne (show b ≠ b + 2 by omega), x_u_eq]; first | done | rfl)
  · rw [((hf6 (b + 1) (by omega)).trans ((hf5 (b + 1) (by omega)).trans ((hf4 (b + 1) (by omega)).trans ((hf3 (b + 1) (by omega)).trans ((hf2 (b + 1) (by omega)).trans (hf1 (b + 1) (by omega)))))))]
    rw [x_u_ne (by omega), x_u_ne (by omega), x_u_eq, s_cpy hi]
  · rw [((hf6 (b + 2) (by omega)).trans ((hf5 (b + 2) (by omega)).trans ((hf4 (b + 2) (by omega)).trans ((hf3 (b + 2) (by omega)).trans ((hf2 (b + 2) (by omega)).trans (hf1 (b + 2) (by omega)))))))]
    rw [x_u_eq, s_cpy hi, x_u_ne (by omega), x_u_ne (by omega)]
  · have hf01 : f = 0 ∨ f = 1 := by omega
    rcases hf01 with rfl | rfl
    · refine ⟨hc1.cg (fun j hj => ?_) (fun j hj => ?_), hc2.cg (fun j hj => ?_) (fun j hj => ?_), hc3.cg (fun j hj => ?_) (fun j hj => ?_)⟩
      · rw [hf6 _ (by omega), hf5 _ (by omega), hf4 _ (by omega), hf3 _ (by omega), hf2 _ (by omega)]
      · rw [x_u_ne (by omega), x_u_ne (by omega), x_u_ne (by omega)]
      · rw [hf6 _ (by omega), hf5 _ (by omega), hf4 _ (by omega), hf3 _ (by omega)]
      · rw [hf1 _ (by omega), x_u_ne (by omega), x_u_ne (by omega), x_u_ne (by omega)]
      · rw [hf6 _ (by omega), hf5 _ (by omega), hf4 _ (by omega)]
      · rw [hf2 _ (by omega), hf1 _ (by omega), x_u_ne (by omega), x_u_ne (by omega), x_u_ne (by omega)]
    · refine ⟨hc4.cg (fun j hj => ?_) (fun j hj => ?_), hc5.cg (fun j hj => ?_) (fun j hj => ?_), hc6.cg (fun j hj => ?_) (fun j hj => ?_)⟩
      · rw [hf6 _ (by omega), hf5 _ (by omega)]
      · rw [hf3 _ (by omega), hf2 _ (by omega), hf1 _ (by omega), x_u_ne (by omega), x_u_ne (by omega), x_u_ne (by omega)]
      · rw [hf6 _ (by omega)]
      · rw [hf4 _ (by omega), hf3 _ (by omega), hf2 _ (by omega), hf1 _ (by omega), x_u_ne (by omega), x_u_ne (by omega), x_u_ne (by omega)]
      · rfl
      · rw [hf5 _ (by omega), hf4 _ (by omega), hf3 _ (by omega), hf2 _ (by omega), hf1 _ (by omega), x_u_ne (by omega), x_u_ne (by omega), x_u_ne (by omega)]
  · rw [((hf6 a (by omega)).trans ((hf5 a (by omega)).trans ((hf4 a (by omega)).trans ((hf3 a (by omega)).trans ((hf2 a (by omega)).trans (hf1 a (by omega)))))))]
    rw [x_u_ne (by omega), x_u_ne (by omega), x_u_ne (by omega)]
end COPYT
/-- the reference's rows, copied -/
def r_T (μ : x_Me) (q : Nat) (μ' : x_Me) (q' : Nat) : Prop := (∀ i, i < 600 → fits .byte (.int (μ 153 (600 * q + i))) = true → μ' 153 (600 * q' + i) = μ 153 (600 * q + i)) ∧ (μ' 154 q' = μ 154 q ∧ μ' 155 q' = μ 155 q ∧ μ' 156 q' = μ 156 q) ∧ (∀ i, i < 3 → μ' 157 (3 * q' + i) = μ 157 (3 * q + i)) ∧ (∀ i, i < 250 → μ' 158 (250 * q' + i) = μ 158 (250 * q + i)) ∧ (∀ i, i < 322 → μ' 159 (322 * q' + i) = μ 159 (322 * q + i)) ∧ ∀ i, i < 36 → μ' 160 (36 * q' + i) = μ 160 (36 * q + i)
section COPYM
variable (sc : Nat × (Nat → Int32)) (d : Nat) (μ : x_Me) (w : Int64)
set_option maxHeartbeats 1000000 in
theorem tX12_copyRow (k N n q r A B : Nat) (hs : x_shape[k]? = some (.inr (.inl (0, N)))) (hN : N < 2 ^ 30) (hA : n * q = A) (hB : n * r = B) (hAN : A + n ≤ N) (hBN : B + n ≤ N) (hd : A + n ≤ B ∨ B + n ≤ A) : x_K sc d mX12_copyRow [.ref k, .int (nI n), .int (nI q), .int (nI r)] μ w (fun r μ' _ => r = none ∧ (∀ i, i < n → μ' k (B + i) = μ k (A + i)) ∧ (∀ i, (i < B ∨ B + n ≤ i) → μ' k i = μ k i) ∧ ∀ a, a ≠ k → μ' a = μ a) := by
  refine x_K.of (by decide) (Nat.le_of_ble_eq_true rfl) ?_
  show x_T sc d mX12_copyRow 0 [.ref k, .int (nI n), .int (nI q), .int (nI r), .retAddr 0] [] μ w _
  refine xt_iconst (0) dX12_copyRow_0 (by decide) ?_
  refine xt_istore dX12_copyRow_1 (by decide) rfl ?_
  change x_T _ _ _ _ [_, _, _, _, _] _ _ _ _
  have L3 : ∀ (n3 m : Nat) (μ2 : x_Me) (h1 : ∀ i, i < m → μ2 k (B + i) = μ k (A + i)) (h2 : ∀ i, (i < B ∨ B + m ≤ i) → μ2 k i = μ k i) (h3 : ∀ a, a ≠ k → μ2 a = μ a), m + n3 = n → x_T sc d mX12_copyRow 3 [.ref k, .int (nI n), .int (nI q), .int (nI r), .int (nI m)] [] μ2 w (fun r μ' _ => r = none ∧ (∀ i, i < n → μ' k (B + i) = μ k (A + i)) ∧ (∀ i, (i < B ∨ B + n ≤ i) → μ' k i = μ k i) ∧ ∀ a, a ≠ k → μ' a = μ a) := by
    intro n3
    induction n3 with
    | zero =>
      intro m μ2 h1 h2 h3 hmn
      obtain rfl : n = m := by omega
      refine xt_iload _ dX12_copyRow_3 rfl ?_
      refine xt_iload_n _ dX12_copyRow_5 rfl ?_
      refine xt_icmp_ge 31 dX12_copyRow_6 (by decide) (fun _ => ?_) (fun q => absurd (Int32.le_refl _) q)
      exact xt_ret dX12_copyRow_31 rfl ⟨rfl, h1, fun i hi => h2 i (by omega), h3⟩
    | succ n3 ih3 =>
      intro m μ2 h1 h2 h3 hmn
      have hlt : m < n := by omega
      have hia : nI n * nI q + nI m = nI (A + m) := by rw [pk_mul, nI_add, hA]
      have hib : nI n * nI r + nI m = nI (B + m) := by rw [pk_mul, nI_add, hB]
      refine xt_iload _ dX12_copyRow_3 rfl ?_
      refine xt_iload_n _ dX12_copyRow_5 rfl ?_
      refine xt_icmp_ge 31 dX12_copyRow_6 (by decide) (fun q => absurd q (nI_ge hlt (by omega))) (fun _ => ?_)
      refine xt_aload_n _ dX12_copyRow_9 rfl ?_
      refine xt_iload_n _ dX12_copyRow_10 rfl ?_
      refine xt_iload_n _ dX12_copyRow_11 rfl ?_
      refine xt_imul dX12_copyRow_12 ?_
      refine xt_iload _ dX12_copyRow_13 rfl ?_
      refine xt_iadd dX12_copyRow_15 ?_
      refine xt_aload_n _ dX12_copyRow_16 rfl ?_
      refine xt_iload_n _ dX12_copyRow_17 rfl ?_
      refine xt_iload_n _ dX12_copyRow_18 rfl ?_
      refine xt_imul dX12_copyRow_19 ?_
      refine xt_iload _ dX12_copyRow_20 rfl ?_
      refine xt_iadd dX12_copyRow_22 ?_
      refine xt_ald dX12_copyRow_23 (by first | exact hs | rfl | assumption) (by first | (rw [hia]; exact vp_in_nI (by omega) (by omega)) | (rw [hib]; exact vp_in_nI (by omega) (by omega))) ?_
      refine xt_ast dX12_copyRow_24 (by first | exact hs | rfl | assumption) (by first | (rw [hia]; exact vp_in_nI (by omega) (by omega)) | (rw [hib]; exact vp_in_nI (by omega) (by omega))) ?_
      refine xt_inc _ (1) dX12_copyRow_25 rfl (by decide) (by decide) rfl ?_
      change x_T _ _ _ _ [_, _, _, _, _] _ _ _ _
      refine xt_goto 3 dX12_copyRow_28 (by decide) ?_
      refine x_T.ls (by rw [nI_succ m]) (ih3 (m + 1) _ ?_ ?_ ?_ (by omega))
      · intro i hi
        rw [x_u_eq, hib, hia, nI_clamp (by omega), nI_clamp (by omega)]
        by_cases he : i = m
        · subst he; rw [pk_us, h2 (A + i) (by omega)]
        · rw [pk_un (by omega)]; exact h1 i (by omega)
      · intro i hi
        rw [x_u_eq, hib, nI_clamp (by omega), pk_un (by omega)]; exact h2 i (by omega)
      · intro a ha; rw [x_u_ne ha]; exact h3 a ha
  exact L3 (n) 0 μ (fun i hi => absurd hi (by omega)) (fun _ _ => rfl) (fun _ _ => rfl) (by omega)
set_option maxHeartbeats 4000000 in
theorem tX12_copyAll (q r0 : Nat) (hq : q < 4) (hr : r0 < 4) (hne : q ≠ r0) : x_K sc (d + 1) mX12_copyAll [.ref 152, .int (nI q), .int (nI r0)] μ w (fun r μ' _ => r = none ∧ r_T μ q μ' r0 ∧ (∀ s, s < 4 → s ≠ r0 → r_T μ s μ' s) ∧ ∀ a, (a < 153 ∨ 160 < a) → μ' a = μ a) := by
  refine x_K.of (by decide) (Nat.le_of_ble_eq_true rfl) ?_
  show x_T sc (d + 1) mX12_copyAll 0 [.ref 152, .int (nI q), .int (nI r0), .retAddr 0] [] μ w _
  refine xt_iconst (0) dX12_copyAll_0 (by decide) ?_
  refine xt_istore_n dX12_copyAll_1 (by decide) rfl ?_
  change x_T _ _ _ _ [_, _, _, _] _ _ _ _
  have L2 : ∀ (n2 m : Nat) (μ2 : x_Me) (h1 : ∀ i, i < m → fits .byte (.int (μ 153 (600 * q + i))) = true → μ2 153 (600 * r0 + i) = μ 153 (600 * q + i)) (h2 : ∀ i, (i < 600 * r0 ∨ 600 * r0 + m ≤ i) → μ2 153 i = μ 153 i) (h3 : ∀ a, a ≠ 153 → μ2 a = μ a), m + n2 = 600 → x_T sc (d + 1) mX12_copyAll 2 [.ref 152, .int (nI q), .int (nI r0), .int (nI m)] [] μ2 w (fun r μ' _ => r = none ∧ r_T μ q μ' r0 ∧ (∀ s, s < 4 → s ≠ r0 → r_T μ s μ' s) ∧ ∀ a, (a < 153 ∨ 160 < a) → μ' a = μ a) := by
    intro n2
    induction n2 with
    | zero =>
      intro m μ2 h1 h2 h3 hmn
      obtain rfl : 600 = m := by omega
      refine xt_iload_n _ dX12_copyAll_2 rfl ?_
      refine xt_sipush (600) dX12_copyAll_3 (by decide) ?_
      refine xt_icmp_ge 39 dX12_copyAll_6 (by decide) (fun _ => ?_) (fun q => absurd (by decide) q)
      refine xt_aload_n _ dX12_copyAll_39 rfl ?_
      refine xt_getr _ dX12_copyAll_40 kfX12_13 (by first | exact sh152 | rfl | assumption) rfl ?_
      refine xt_iconst (1) dX12_copyAll_43 (by decide) ?_
      refine xt_iload_n _ dX12_copyAll_44 rfl ?_
      refine xt_iload_n _ dX12_copyAll_45 rfl ?_
      refine xt_callS _ dX12_copyAll_46 klX12_80 (tX12_copyRow sc _ _ _ 154 4 1 q r0 q r0 rfl (by decide) (Nat.one_mul q) (Nat.one_mul r0) (by omega) (by omega) (by omega)) rfl rfl (Nat.le_of_ble_eq_true rfl) (fun r3 μ3 w3 q3 => ?_)
      obtain ⟨rfl, ha0, hb0, hf0⟩ := q3
      change x_T _ _ _ _ _ [] _ _ _
      refine xt_aload_n _ dX12_copyAll_49 rfl ?_
      refine xt_getr _ dX12_copyAll_50 kfX12_17 (by first | exact sh152 | rfl | assumption) rfl ?_
      refine xt_iconst (1) dX12_copyAll_53 (by decide) ?_
      refine xt_iload_n _ dX12_copyAll_54 rfl ?_
      refine xt_iload_n _ dX12_copyAll_55 rfl ?_
      refine xt_callS _ dX12_copyAll_56 klX12_80 (tX12_copyRow sc _ _ _ 155 4 1 q r0 q r0 rfl (by decide) (Nat.one_mul q) (Nat.one_mul r0) (by omega) (by omega) (by omega)) rfl rfl (Nat.le_of_ble_eq_true rfl) (fun r4 μ4 w4 q4 => ?_)
      obtain ⟨rfl, ha1, hb1, hf1⟩ := q4
      change x_T _ _ _ _ _ [] _ _ _
      refine xt_aload_n _ dX12_copyAll_59 rfl ?_
      refine xt_getr _ dX12_copyAll_60 kfX12_20 (by first | exact sh152 | rfl | assumption) rfl ?_
      refine xt_iconst (1) dX12_copyAll_63 (by decide) ?_
      refine xt_iload_n _ dX12_copyAll_64 rfl ?_
      refine xt_iload_n _ dX12_copyAll_65 rfl ?_
      refine xt_callS _ dX12_copyAll_66 klX12_80 (tX12_copyRow sc _ _ _ 156 4 1 q r0 q r0 rfl (by decide) (Nat.one_mul q) (Nat.one_mul r0) (by omega) (by omega) (by omega)) rfl rfl (Nat.le_of_ble_eq_true rfl) (fun r5 μ5 w5 q5 => ?_)
      obtain ⟨rfl, ha2, hb2, hf2⟩ := q5
      change x_T _ _ _ _ _ [] _ _ _
      refine xt_aload_n _ dX12_copyAll_69 rfl ?_
      refine xt_getr _ dX12_copyAll_70 kfX12_23 (by first | exact sh152 | rfl | assumption) rfl ?_
      refine xt_iconst (3) dX12_copyAll_73 (by decide) ?_
      refine xt_iload_n _ dX12_copyAll_74 rfl ?_
      refine xt_iload_n _ dX12_copyAll_75 rfl ?_
      refine xt_callS _ dX12_copyAll_76 klX12_80 (tX12_copyRow sc _ _ _ 157 12 3 q r0 (3 * q) (3 * r0) rfl (by decide) rfl rfl (by omega) (by omega) (by omega)) rfl rfl (Nat.le_of_ble_eq_true rfl) (fun r6 μ6 w6 q6 => ?_)
      obtain ⟨rfl, ha3, hb3, hf3⟩ := q6
      change x_T _ _ _ _ _ [] _ _ _
      refine xt_aload_n _ dX12_copyAll_79 rfl ?_
      refine xt_getr _ dX12_copyAll_80 kfX12_26 (by first | exact sh152 | rfl | assumption) rfl ?_
      refine xt_sipush (250) dX12_copyAll_83 (by decide) ?_
      refine xt_iload_n _ dX12_copyAll_86 rfl ?_
      refine xt_iload_n _ dX12_copyAll_87 rfl ?_
      refine xt_callS _ dX12_copyAll_88 klX12_80 (tX12_copyRow sc _ _ _ 158 1000 250 q r0 (250 * q) (250 * r0) rfl (by decide) rfl rfl (by omega) (by omega) (by omega)) rfl rfl (Nat.le_of_ble_eq_true rfl) (fun r7 μ7 w7 q7 => ?_)
      obtain ⟨rfl, ha4, hb4, hf4⟩ := q7
      change x_T _ _ _ _ _ [] _ _ _
      refine xt_aload_n _ dX12_copyAll_91 rfl ?_
      refine xt_getr _ dX12_copyAll_92 kfX12_29 (by first | exact sh152 | rfl | assumption) rfl ?_
      refine xt_sipush (322) dX12_copyAll_95 (by decide) ?_
      refine xt_iload_n _ dX12_copyAll_98 rfl ?_
      refine xt_iload_n _ dX12_copyAll_99 rfl ?_
      refine xt_callS _ dX12_copyAll_100 klX12_80 (tX12_copyRow sc _ _ _ 159 1288 322 q r0 (322 * q) (322 * r0) rfl (by decide) rfl rfl (by omega) (by omega) (by omega)) rfl rfl (Nat.le_of_ble_eq_true rfl) (fun r8 μ8 w8 q8 => ?_)
      obtain ⟨rfl, ha5, hb5, hf5⟩ := q8
      change x_T _ _ _ _ _ [] _ _ _
      refine xt_aload_n _ dX12_copyAll_103 rfl ?_
      refine xt_getr _ dX12_copyAll_104 kfX12_32 (by first | exact sh152 | rfl | assumption) rfl ?_
      refine xt_bipush (36) dX12_copyAll_107 (by decide) ?_
      refine xt_iload_n _ dX12_copyAll_109 rfl ?_
      refine xt_iload_n _ dX12_copyAll_110 rfl ?_
      refine xt_callS _ dX12_copyAll_111 klX12_80 (tX12_copyRow sc _ _ _ 160 144 36 q r0 (36 * q) (36 * r0) rfl (by decide) rfl rfl (by omega) (by omega) (by omega)) rfl rfl (Nat.le_of_ble_eq_true rfl) (fun r9 μ9 w9 q9 => ?_)
      obtain ⟨rfl, ha6, hb6, hf6⟩ := q9
      change x_T _ _ _ _ _ [] _ _ _
      refine xt_ret dX12_copyAll_114 rfl ⟨rfl, ⟨?_, ⟨?_, ?_, ?_⟩, ?_, ?_, ?_, ?_⟩, fun s hs hsr => ⟨?_, ⟨?_, ?_, ?_⟩, ?_, ?_, ?_, ?_⟩, fun a ha => ?_⟩
      · intro i hi hfi; rw [hf6 153 (by decide), hf5 153 (by decide), hf4 153 (by decide), hf3 153 (by decide), hf2 153 (by decide), hf1 153 (by decide), hf0 153 (by decide)]; exact h1 i hi hfi
      · rw [hf6 154 (by decide), hf5 154 (by decide), hf4 154 (by decide), hf3 154 (by decide), hf2 154 (by decide), hf1 154 (by decide), show r0 = r0 + 0 from rfl, ha0 0 (by decide), h3 154 (by decide)]; rfl
      · rw [hf6 155 (by decide), hf5 155 (by decide), hf4 155 (by decide), hf3 155 (by decide), hf2 155 (by decide), show r0 = r0 + 0 from rfl, ha1 0 (by decide), hf0 155 (by decide), h3 155 (by decide)]; rfl
      · rw [hf6 156 (by decide), hf5 156 (by decide), hf4 156 (by decide), hf3 156 (by decide), show r0 = r0 + 0 from rfl, ha2 0 (by decide), hf1 156 (by decide), hf0 156 (by decide), h3 156 (by decide)]; rfl
      · intro i hi; rw [hf6 157 (by decide), hf5 157 (by decide), hf4 157 (by decide), ha3 i hi, hf2 157 (by decide), hf1 157 (by decide), hf0 157 (by decide), h3 157 (by decide)]
      · intro i hi; rw [hf6 158 (by decide), hf5 158 (by decide), ha4 i hi, hf3 158 (by decide), hf2 158 (by decide), hf1 158 (by decide), hf0 158 (by decide), h3 158 (by decide)]
      · intro i hi; rw [hf6 159 (by decide), ha5 i hi, hf4 159 (by decide), hf3 159 (by decide), hf2 159 (by decide), hf1 159 (by decide), hf0 159 (by decide), h3 159 (by decide)]
      · intro i hi; rw [ha6 i hi, hf5 160 (by decide), hf4 160 (by decide), hf3 160 (by decide), hf2 160 (by decide), hf1 160 (by decide), hf0 160 (by decide), h3 160 (by decide)]
      · intro i hi _; rw [hf6 153 (by decide), hf5 153 (by decide), hf4 153 (by decide), hf3 153 (by decide), hf2 153 (by decide), hf1 153 (by decide), hf0 153 (by decide)]; exact h2 _ (by omega)
      · rw [hf6 154 (by decide), hf5 154 (by decide), hf4 154 (by decide), hf3 154 (by decide), hf2 154 (by decide), hf1 154 (by decide), hb0 _ (by omega), h3 154 (by decide)]
      · rw [hf6 155 (by decide), hf5 155 (by decide), hf4 155 (by decide), hf3 155 (by decide), hf2 155 (by decide), hb1 _ (by omega), hf0 155 (by decide), h3 155 (by decide)]
      · rw [hf6 156 (by decide), hf5 156 (by decide), hf4 156 (by decide), hf3 156 (by decide), hb2 _ (by omega), hf1 156 (by decide), hf0 156 (by decide), h3 156 (by decide)]
      · intro i hi; rw [hf6 157 (by decide), hf5 157 (by decide), hf4 157 (by decide), hb3 _ (by omega), hf2 157 (by decide), hf1 157 (by decide), hf0 157 (by decide), h3 157 (by decide)]
      · intro i hi; rw [hf6 158 (by decide), hf5 158 (by decide), hb4 _ (by omega), hf3 158 (by decide), hf2 158 (by decide), hf1 158 (by decide), hf0 158 (by decide), h3 158 (by decide)]
      · intro i hi; rw [hf6 159 (by decide), hb5 _ (by omega), hf4 159 (by decide), hf3 159 (by decide), hf2 159 (by decide), hf1 159 (by decide), hf0 159 (by decide), h3 159 (by decide)]
      · intro i hi; rw [hb6 _ (by omega), hf5 160 (by decide), hf4 160 (by decide), hf3 160 (by decide), hf2 160 (by decide), hf1 160 (by decide), hf0 160 (by decide), h3 160 (by decide)]
      · rw [hf6 a (by omega), hf5 a (by omega), hf4 a (by omega), hf3 a (by omega), hf2 a (by omega), hf1 a (by omega), hf0 a (by omega), h3 a (by omega)]
    | succ n2 ih2 =>
      intro m μ2 h1 h2 h3 hmn
      have hlt : m < 600 := by omega
      have hia : (600 : Int32) * nI q + nI m = nI (600 * q + m) := by rw [show (600 : Int32) = nI 600 from rfl, pk_mul, nI_add]
      have hib : (600 : Int32) * nI r0 + nI m = nI (600 * r0 + m) := by rw [show (600 : Int32) = nI 600 from rfl, pk_mul, nI_add]
      refine xt_iload_n _ dX12_copyAll_2 rfl ?_
      refine xt_sipush (600) dX12_copyAll_3 (by decide) ?_
      refine xt_icmp_ge 39 dX12_copyAll_6 (by decide) (fun q => absurd q (nI_ge (b := 600) hlt (by decide))) (fun _ => ?_)
      refine xt_aload_n _ dX12_copyAll_9 rfl ?_
      refine xt_getr _ dX12_copyAll_10 kfX12_7 (by first | exact sh152 | rfl | assumption) rfl ?_
      refine xt_sipush (600) dX12_copyAll_13 (by decide) ?_
      refine xt_iload_n _ dX12_copyAll_16 rfl ?_
      refine xt_imul dX12_copyAll_17 ?_
      refine xt_iload_n _ dX12_copyAll_18 rfl ?_
      refine xt_iadd dX12_copyAll_19 ?_
      refine xt_aload_n _ dX12_copyAll_20 rfl ?_
      refine xt_getr _ dX12_copyAll_21 kfX12_7 (by first | exact sh152 | rfl | assumption) rfl ?_
      refine xt_sipush (600) dX12_copyAll_24 (by decide) ?_
      refine xt_iload_n _ dX12_copyAll_27 rfl ?_
      refine xt_imul dX12_copyAll_28 ?_
      refine xt_iload_n _ dX12_copyAll_29 rfl ?_
      refine xt_iadd dX12_copyAll_30 ?_
      refine xt_bald dX12_copyAll_31 (by first | exact sh152 | rfl | assumption) (by first | (rw [hia]; exact vp_in_nI (by omega) (by decide)) | (rw [hib]; exact vp_in_nI (by omega) (by decide))) ?_
      refine xt_bast dX12_copyAll_32 (by first | exact sh152 | rfl | assumption) (by first | (rw [hia]; exact vp_in_nI (by omega) (by decide)) | (rw [hib]; exact vp_in_nI (by omega) (by decide))) ?_
      refine xt_inc _ (1) dX12_copyAll_33 rfl (by decide) (by decide) rfl ?_
      change x_T _ _ _ _ [_, _, _, _] _ _ _ _
      refine xt_goto 2 dX12_copyAll_36 (by decide) ?_
      refine x_T.ls (by rw [nI_succ m]) (ih2 (m + 1) _ ?_ ?_ ?_ (by omega))
      · intro i hi hfi
        rw [x_u_eq, hib, hia, nI_clamp (by omega), nI_clamp (by omega)]
        by_cases he : i = m
        · subst he; rw [pk_us, h2 (600 * q + i) (by omega), s_fb hfi]
        · rw [pk_un (by omega)]; exact h1 i (by omega) hfi
      · intro i hi
        rw [x_u_eq, hib, nI_clamp (by omega), pk_un (by omega)]; exact h2 i (by omega)
      · intro a ha; rw [x_u_ne ha]; exact h3 a ha
  exact L2 (600) 0 μ (fun i hi => absurd hi (by omega)) (fun _ _ => rfl) (fun _ _ => rfl) (by omega)
end COPYM
theorem i_T.copy {μ μ' : x_Me} {q q' s f : Nat} (hf : f < 2) (hc : c_T μ (x_b q) μ' (x_b q')) (hr : r_T μ q μ' q') (hi : i_T μ q s f) : i_T μ' q' s f := by
  obtain ⟨_, _, _, h3⟩ := hc
  obtain ⟨_, _, _, r4, r5, r6⟩ := hr
  match s, hi with
  | 0, hi =>
    obtain ⟨F, hW, hC, hM⟩ := hi
    refine ⟨F, hW, hC.copy hW (h3 f hf).1, fun i hi => ?_⟩
    have := r4 (125 * f + i) (by omega)
    rw [show 250 * q' + 125 * f + i = 250 * q' + (125 * f + i) by omega, this, show 250 * q + (125 * f + i) = 250 * q + 125 * f + i by omega]
    exact hM i hi
  | 1, hi =>
    obtain ⟨D, n, h1, h2, h4, h5, h6, h7⟩ := hi
    refine ⟨D, n, h1, h2, by rw [(h3 f hf).2.1.1]; exact h4, fun i hi => ?_, fun i hi => ?_, h7⟩
    · have := (h3 f hf).2.1.2 i (by omega)
      rw [show x_b q' + 12 + 11 * f + 1 = x_b q' + 13 + 11 * f by omega, show x_b q + 12 + 11 * f + 1 = x_b q + 13 + 11 * f by omega] at this
      rw [this]; exact h5 i hi
    · have := r5 (161 * f + i) (by omega)
      rw [show 322 * q' + 161 * f + i = 322 * q' + (161 * f + i) by omega, this, show 322 * q + (161 * f + i) = 322 * q + 161 * f + i by omega]
      exact h6 i hi
  | s + 2, hi =>
    obtain ⟨L, h1, h2, h4, h5, h6, h7⟩ := hi
    have hl := (h3 f hf).2.2
    refine ⟨L, h1, h2, by rw [hl.1.1]; exact h4, by rw [hl.1.2]; exact h5, fun k hk => ?_, fun i hi => ?_⟩
    · have a1 := hl.2.1 k (by omega)
      have a2 := hl.2.2 k (by omega)
      rw [show x_b q' + 14 + 11 * f + 1 = x_b q' + 15 + 11 * f by omega, show x_b q + 14 + 11 * f + 1 = x_b q + 15 + 11 * f by omega] at a1
      rw [show x_b q' + 14 + 11 * f + 2 = x_b q' + 16 + 11 * f by omega, show x_b q + 14 + 11 * f + 2 = x_b q + 16 + 11 * f by omega] at a2
      rw [a1, a2]; exact h6 k hk
    · have := r6 (18 * f + i) (by omega)
      rw [show 36 * q' + 18 * f + i = 36 * q' + (18 * f + i) by omega, this, show 36 * q + (18 * f + i) = 36 * q + 18 * f + i by omega]
      exact h7 i hi
theorem i_slot.copy {μ μ' : x_Me} {q q' : Nat} (hc : c_T μ (x_b q) μ' (x_b q')) (hr : r_T μ q μ' q') (hi : i_slot μ q) : i_slot μ' q' := by
  obtain ⟨⟨n, hn, a1, a2, a3⟩, b1, b2, b3, b4⟩ := hi
  refine ⟨⟨n, hn, by rw [hc.1.1]; exact a1, by rw [hr.2.1.1]; exact a2, fun i hi => ?_⟩, fun i hi => by rw [hc.2.1 i hi]; exact b1 i hi, by rw [hc.1.2.1, hr.2.1.2.1]; exact b2, by rw [hc.1.2.2, hr.2.1.2.2]; exact b3, fun s hs => ?_⟩
  · rw [hc.2.1 i (by omega), a3 i hi]
    have hfi := b1 i (by omega)
    rw [a3 i hi] at hfi
    exact (hr.1 i (by omega) hfi).symm
  · obtain ⟨c, c1, c2, c3, c4⟩ := b4 s hs
    exact ⟨c, c1, by rw [hc.2.2.1 s hs]; exact c2, by rw [hr.2.2.1 s hs]; exact c3, fun f hf => (c4 f hf).copy (by omega) hc hr⟩
theorem r_T.cg {μ μ1 μ2 : x_Me} {q q' : Nat} (h : r_T μ1 q μ2 q') (e : ∀ a, 153 ≤ a → μ1 a = μ a) : r_T μ q μ2 q' := by
  unfold r_T at *
  rw [e 153 (by decide), e 154 (by decide), e 155 (by decide), e 156 (by decide), e 157 (by decide), e 158 (by decide), e 159 (by decide), e 160 (by decide)] at h
  exact h
theorem s_lt3 {a : Int32} (h : a < 3) : a ≤ nI 2 := by
  rw [Int32.le_iff_toInt_le]
  rw [Int32.lt_iff_toInt_lt] at h
  have h1 : (3 : Int32).toInt = 3 := by decide
  have h2 : (nI 2).toInt = 2 := by decide
  omega
theorem x_b_1 (k : Nat) : x_b (k + 1) = 30 + 28 * k := by unfold x_b; rw [if_neg (by omega)]; omega
theorem x_Inv.image {μ μ1 μ2 : x_Me} {k : Nat} (hk : k < 3) (hI : x_Inv μ) (hc : c_T μ 1 μ1 (30 + 28 * k)) (h114 : μ1 114 = upd (μ 114) k 1) (hfr : ∀ a, (a < 30 + 28 * k ∨ 57 + 28 * k < a) → a ≠ 114 → μ1 a = μ a)
    (hr : r_T μ1 0 μ2 (k + 1)) (ho : ∀ s, s < 4 → s ≠ k + 1 → r_T μ1 s μ2 s) (h172 : μ2 172 = upd (μ1 172) k 1) (hf2 : ∀ a, a < 152 → μ2 a = μ1 a) : x_Inv μ2 := by
  obtain ⟨i1, i2, i3⟩ := hI
  have e153 : ∀ a, 153 ≤ a → μ1 a = μ a := fun a ha => hfr a (by omega) (by omega)
  have hs0 : i_slot μ2 0 := i_slot.copy (q := 0) (c_T.self (b := 1) (fun j hj => by rw [hf2 _ (by omega), hfr _ (by omega) (by omega)])) ((ho 0 (by decide) (by omega)).cg e153) i2
  have hsk : i_slot μ2 (k + 1) := i_slot.copy (q := 0) (by rw [x_b_1]; exact hc.cg (fun j hj => hf2 _ (by omega))) (hr.cg e153) i2
  have t1 : μ2 114 = upd (μ 114) k 1 := by rw [hf2 114 (by decide), h114]
  have t2 : μ2 172 = upd (μ 172) k 1 := by rw [h172, e153 172 (by decide)]
  refine ⟨fun j hj => ?_, hs0, fun j hj ht => ?_⟩
  · rw [t1, t2]
    by_cases h : j = k
    · subst h; rw [pk_us, pk_us]; exact ⟨rfl, Or.inr rfl⟩
    · rw [pk_un h, pk_un h]; exact i1 j hj
  · by_cases h : j = k
    · subst h; exact hsk
    · rw [t1, pk_un h] at ht
      exact i_slot.copy (q := j + 1) (by rw [x_b_1]; exact c_T.self (fun i hi => by rw [hf2 _ (by omega), hfr _ (by omega) (by omega)])) ((ho (j + 1) (by omega) (by omega)).cg e153) (i3 j hj ht)
theorem x_Inv.again {μ μ1 μ2 : x_Me} {k : Nat} (hk : k < 3) (hI : x_Inv μ) (h1 : μ 114 k = 1) (hc : c_T μ (30 + 28 * k) μ1 1) (hfr : ∀ a, (a < 1 ∨ 28 < a) → μ1 a = μ a)
    (hr : r_T μ1 (k + 1) μ2 0) (ho : ∀ s, s < 4 → s ≠ 0 → r_T μ1 s μ2 s) (h172 : μ2 172 = μ1 172) (hf2 : ∀ a, a < 152 → μ2 a = μ1 a) : x_Inv μ2 := by
  obtain ⟨i1, i2, i3⟩ := hI
  have e153 : ∀ a, 153 ≤ a → μ1 a = μ a := fun a ha => hfr a (by omega)
  have hs0 : i_slot μ2 0 := i_slot.copy (q := k + 1) (by rw [x_b_1]; exact c_T.cg (b' := 1) hc (fun j hj => hf2 _ (by omega))) (hr.cg e153) (i3 k hk h1)
  have t1 : μ2 114 = μ 114 := by rw [hf2 114 (by decide), hfr 114 (by decide)]
  have t2 : μ2 172 = μ 172 := by rw [h172, e153 172 (by decide)]
  refine ⟨fun j hj => by rw [t1, t2]; exact i1 j hj, hs0, fun j hj ht => ?_⟩
  rw [t1] at ht
  exact i_slot.copy (q := j + 1) (by rw [x_b_1]; exact c_T.self (fun i hi => by rw [hf2 _ (by omega), hfr _ (by omega)])) ((ho (j + 1) (by omega) (by omega)).cg e153) (i3 j hj ht)
set_option maxHeartbeats 4000000 in
theorem st_image (sc : Nat × (Nat → Int32)) (a1 : Int32) : x_stI sc (fun μ _ => x_Inv μ) (fun μ _ => x_Inv μ) mX11_image mX12_image [.int a1] := by
  intro μ w hI
  by_cases hw : 0 ≤ a1 ∧ a1 ≤ nI 2
  · obtain ⟨j, hj, rfl⟩ := x_rng (N := 2) (by decide) hw
    have hj' : j = 0 ∨ j = 1 ∨ j = 2 := by omega
    rcases hj' with rfl | rfl | rfl
    · skip
      refine (x_K.mono (P := fun r μ' _ => r = some (.int 1) ∧ c_T μ 1 μ' 30 ∧ μ' 114 = upd (μ 114) 0 1 ∧ ∀ a, (a < 30 ∨ 57 < a) → a ≠ 114 → μ' a = μ a) ?_ (fun r μ1 w1 q1 => ?_))
      · refine x_K.of (by decide) (Nat.le_of_ble_eq_true rfl) ?_
        show x_T sc 29 mX11_image 0 [.ref 0, .int (nI 0)] [] μ w _
        refine xt_iload_n _ dX11_image_0 rfl ?_
        refine xt_if_lt 9 dX11_image_1 (by decide) (fun q => absurd q (by decide)) (fun _ => ?_)
        refine xt_iload_n _ dX11_image_4 rfl ?_
        refine xt_iconst (3) dX11_image_5 (by decide) ?_
        refine xt_icmp_lt 11 dX11_image_6 (by decide) (fun _ => ?_) (fun q => absurd (by decide) q)
        refine xt_aload_n _ dX11_image_11 rfl ?_
        refine xt_getr _ dX11_image_12 kfX11_16 (by first | exact sh0 | rfl | assumption) rfl ?_
        refine xt_iload_n _ dX11_image_15 rfl ?_
        refine xt_aald (.ref 30) dX11_image_16 (by rfl) (by decide) (by unfold vp_in; decide) rfl ?_
        refine xt_aload_n _ dX11_image_17 rfl ?_
        refine xt_getr _ dX11_image_18 kfX11_10 (by first | exact sh0 | rfl | assumption) rfl ?_
        refine xt_callV _ dX11_image_21 klX11_336 (tX9_copyFrom sc _ μ w 30 1 t_S30 t_S1 (by decide) hI.2.1.2.1) t_S30.1 rfl rfl (Nat.le_of_ble_eq_true rfl) (fun r2 μ2 w2 q2 => ?_)
        obtain ⟨rfl, hc2, hf2⟩ := q2
        change x_T _ _ _ _ _ [] _ _ _
        refine xt_aload_n _ dX11_image_24 rfl ?_
        refine xt_getr _ dX11_image_25 kfX11_20 (by first | exact sh0 | rfl | assumption) rfl ?_
        refine xt_iload_n _ dX11_image_28 rfl ?_
        refine xt_iconst (1) dX11_image_29 (by decide) ?_
        refine xt_zast dX11_image_30 (by first | exact sh0 | rfl | assumption) (by unfold vp_in; decide) ?_
        refine xt_iconst (1) dX11_image_31 (by decide) ?_
        exact xt_iret .boolean dX11_image_32 rfl (by first | rfl | assumption) ⟨rfl, hc2.cg (fun j hj => x_u_ne (by omega)), by rw [x_u_eq, hf2 114 (by decide)]; rfl, fun a ha h2 => by rw [x_u_ne h2]; exact hf2 a ha⟩
      · obtain ⟨rfl, hc, h114, hfr⟩ := q1
        refine ⟨1, rfl, (x_K.mono (P := fun r μ' _ => r = some (.int 1) ∧ r_T μ1 0 μ' 1 ∧ (∀ s, s < 4 → s ≠ 1 → r_T μ1 s μ' s) ∧ μ' 172 = upd (μ1 172) 0 1 ∧ ∀ a, a < 152 → μ' a = μ1 a) ?_ (fun r2 μ2 w2 q2 => ⟨q2.1, x_Inv.image (k := 0) (by decide) hI hc h114 hfr q2.2.1 q2.2.2.1 q2.2.2.2.1 q2.2.2.2.2⟩))⟩
        refine x_K.of (by decide) (Nat.le_of_ble_eq_true rfl) ?_
        show x_T sc 29 mX12_image 0 [.ref 152, .int (nI 0)] [] μ1 w1 _
        refine xt_aload_n _ dX12_image_0 rfl ?_
        refine xt_iconst (0) dX12_image_1 (by decide) ?_
        refine xt_puti dX12_image_2 kpX12_72 (by first | exact sh152 | rfl | assumption) rfl (by first | rfl | assumption) (by first | rfl | assumption) ?_
        refine xt_iload_n _ dX12_image_5 rfl ?_
        refine xt_iconst (0) dX12_image_6 (by decide) ?_
        refine xt_iconst (2) dX12_image_7 (by decide) ?_
        refine xt_cS _ dX12_image_8 klX12_84 (tX12_in sc _ _ _ _ _ _) rfl rfl (Nat.le_of_ble_eq_true rfl) ?_
        refine xt_if_ne 16 dX12_image_11 (by decide) (fun _ => ?_) (fun q => absurd q (by decide))
        refine xt_aload_n _ dX12_image_16 rfl ?_
        refine xt_iconst (0) dX12_image_17 (by decide) ?_
        refine xt_iload_n _ dX12_image_18 rfl ?_
        refine xt_iconst (1) dX12_image_19 (by decide) ?_
        refine xt_iadd dX12_image_20 ?_
        change x_T _ _ _ _ _ (.int (nI 1) :: .int (nI 0) :: _) _ _ _
        refine xt_callV _ dX12_image_21 klX12_563 (tX12_copyAll sc _ (x_u μ1 152 (upd (μ1 152) 0 0)) _ 0 1 (by decide) (by decide) (by decide)) sh152 rfl rfl (Nat.le_of_ble_eq_true rfl) (fun r3 μ3 w3 q3 => ?_)
        obtain ⟨rfl, hr3, ho3, hf3⟩ := q3
        change x_T _ _ _ _ _ [] _ _ _
        refine xt_aload_n _ dX12_image_24 rfl ?_
        refine xt_getr _ dX12_image_25 kfX12_68 (by first | exact sh152 | rfl | assumption) rfl ?_
        refine xt_iload_n _ dX12_image_28 rfl ?_
        refine xt_iconst (1) dX12_image_29 (by decide) ?_
        refine xt_zast dX12_image_30 (by first | exact sh152 | rfl | assumption) (by unfold vp_in; decide) ?_
        refine xt_iconst (1) dX12_image_31 (by decide) ?_
        exact xt_iret .boolean dX12_image_32 rfl (by first | rfl | assumption) ⟨rfl, r_T.cg hr3 (fun a ha => x_u_ne (by omega)), fun s hs h => r_T.cg (ho3 s hs h) (fun a ha => x_u_ne (by omega)), by rw [x_u_eq, hf3 172 (by decide)]; rfl, fun a ha => by rw [x_u_ne (by omega), hf3 a (by omega), x_u_ne (by omega)]⟩
    · skip
      refine (x_K.mono (P := fun r μ' _ => r = some (.int 1) ∧ c_T μ 1 μ' 58 ∧ μ' 114 = upd (μ 114) 1 1 ∧ ∀ a, (a < 58 ∨ 85 < a) → a ≠ 114 → μ' a = μ a) ?_ (fun r μ1 w1 q1 => ?_))
      · refine x_K.of (by decide) (Nat.le_of_ble_eq_true rfl) ?_
        show x_T sc 29 mX11_image 0 [.ref 0, .int (nI 1)] [] μ w _
        refine xt_iload_n _ dX11_image_0 rfl ?_
        refine xt_if_lt 9 dX11_image_1 (by decide) (fun q => absurd q (by decide)) (fun _ => ?_)
        refine xt_iload_n _ dX11_image_4 rfl ?_
        refine xt_iconst (3) dX11_image_5 (by decide) ?_
        refine xt_icmp_lt 11 dX11_image_6 (by decide) (fun _ => ?_) (fun q => absurd (by decide) q)
        refine xt_aload_n _ dX11_image_11 rfl ?_
        refine xt_getr _ dX11_image_12 kfX11_16 (by first | exact sh0 | rfl | assumption) rfl ?_
        refine xt_iload_n _ dX11_image_15 rfl ?_
        refine xt_aald (.ref 58) dX11_image_16 (by rfl) (by decide) (by unfold vp_in; decide) rfl ?_
        refine xt_aload_n _ dX11_image_17 rfl ?_
        refine xt_getr _ dX11_image_18 kfX11_10 (by first | exact sh0 | rfl | assumption) rfl ?_
        refine xt_callV _ dX11_image_21 klX11_336 (tX9_copyFrom sc _ μ w 58 1 t_S58 t_S1 (by decide) hI.2.1.2.1) t_S58.1 rfl rfl (Nat.le_of_ble_eq_true rfl) (fun r2 μ2 w2 q2 => ?_)
        obtain ⟨rfl, hc2, hf2⟩ := q2
        change x_T _ _ _ _ _ [] _ _ _
        refine xt_aload_n _ dX11_image_24 rfl ?_
        refine xt_getr _ dX11_image_25 kfX11_20 (by first | exact sh0 | rfl | assumption) rfl ?_
        refine xt_iload_n _ dX11_image_28 rfl ?_
        refine xt_iconst (1) dX11_image_29 (by decide) ?_
        refine xt_zast dX11_image_30 (by first | exact sh0 | rfl | assumption) (by unfold vp_in; decide) ?_
        refine xt_iconst (1) dX11_image_31 (by decide) ?_
        exact xt_iret .boolean dX11_image_32 rfl (by first | rfl | assumption) ⟨rfl, hc2.cg (fun j hj => x_u_ne (by omega)), by rw [x_u_eq, hf2 114 (by decide)]; rfl, fun a ha h2 => by rw [x_u_ne h2]; exact hf2 a ha⟩
      · obtain ⟨rfl, hc, h114, hfr⟩ := q1
        refine ⟨1, rfl, (x_K.mono (P := fun r μ' _ => r = some (.int 1) ∧ r_T μ1 0 μ' 2 ∧ (∀ s, s < 4 → s ≠ 2 → r_T μ1 s μ' s) ∧ μ' 172 = upd (μ1 172) 1 1 ∧ ∀ a, a < 152 → μ' a = μ1 a) ?_ (fun r2 μ2 w2 q2 => ⟨q2.1, x_Inv.image (k := 1) (by decide) hI hc h114 hfr q2.2.1 q2.2.2.1 q2.2.2.2.1 q2.2.2.2.2⟩))⟩
        refine x_K.of (by decide) (Nat.le_of_ble_eq_true rfl) ?_
        show x_T sc 29 mX12_image 0 [.ref 152, .int (nI 1)] [] μ1 w1 _
        refine xt_aload_n _ dX12_image_0 rfl ?_
        refine xt_iconst (0) dX12_image_1 (by decide) ?_
        refine xt_puti dX12_image_2 kpX12_72 (by first | exact sh152 | rfl | assumption) rfl (by first | rfl | assumption) (by first | rfl | assumption) ?_
        refine xt_iload_n _ dX12_image_5 rfl ?_
        refine xt_iconst (0) dX12_image_6 (by decide) ?_
        refine xt_iconst (2) dX12_image_7 (by decide) ?_
        refine xt_cS _ dX12_image_8 klX12_84 (tX12_in sc _ _ _ _ _ _) rfl rfl (Nat.le_of_ble_eq_true rfl) ?_
        refine xt_if_ne 16 dX12_image_11 (by decide) (fun _ => ?_) (fun q => absurd q (by decide))
        refine xt_aload_n _ dX12_image_16 rfl ?_
        refine xt_iconst (0) dX12_image_17 (by decide) ?_
        refine xt_iload_n _ dX12_image_18 rfl ?_
        refine xt_iconst (1) dX12_image_19 (by decide) ?_
        refine xt_iadd dX12_image_20 ?_
        change x_T _ _ _ _ _ (.int (nI 2) :: .int (nI 0) :: _) _ _ _
        refine xt_callV _ dX12_image_21 klX12_563 (tX12_copyAll sc _ (x_u μ1 152 (upd (μ1 152) 0 0)) _ 0 2 (by decide) (by decide) (by decide)) sh152 rfl rfl (Nat.le_of_ble_eq_true rfl) (fun r3 μ3 w3 q3 => ?_)
        obtain ⟨rfl, hr3, ho3, hf3⟩ := q3
        change x_T _ _ _ _ _ [] _ _ _
        refine xt_aload_n _ dX12_image_24 rfl ?_
        refine xt_getr _ dX12_image_25 kfX12_68 (by first | exact sh152 | rfl | assumption) rfl ?_
        refine xt_iload_n _ dX12_image_28 rfl ?_
        refine xt_iconst (1) dX12_image_29 (by decide) ?_
        refine xt_zast dX12_image_30 (by first | exact sh152 | rfl | assumption) (by unfold vp_in; decide) ?_
        refine xt_iconst (1) dX12_image_31 (by decide) ?_
        exact xt_iret .boolean dX12_image_32 rfl (by first | rfl | assumption) ⟨rfl, r_T.cg hr3 (fun a ha => x_u_ne (by omega)), fun s hs h => r_T.cg (ho3 s hs h) (fun a ha => x_u_ne (by omega)), by rw [x_u_eq, hf3 172 (by decide)]; rfl, fun a ha => by rw [x_u_ne (by omega), hf3 a (by omega), x_u_ne (by omega)]⟩
    · skip
      refine (x_K.mono (P := fun r μ' _ => r = some (.int 1) ∧ c_T μ 1 μ' 86 ∧ μ' 114 = upd (μ 114) 2 1 ∧ ∀ a, (a < 86 ∨ 113 < a) → a ≠ 114 → μ' a = μ a) ?_ (fun r μ1 w1 q1 => ?_))
      · refine x_K.of (by decide) (Nat.le_of_ble_eq_true rfl) ?_
        show x_T sc 29 mX11_image 0 [.ref 0, .int (nI 2)] [] μ w _
        refine xt_iload_n _ dX11_image_0 rfl ?_
        refine xt_if_lt 9 dX11_image_1 (by decide) (fun q => absurd q (by decide)) (fun _ => ?_)
        refine xt_iload_n _ dX11_image_4 rfl ?_
        refine xt_iconst (3) dX11_image_5 (by decide) ?_
        refine xt_icmp_lt 11 dX11_image_6 (by decide) (fun _ => ?_) (fun q => absurd (by decide) q)
        refine xt_aload_n _ dX11_image_11 rfl ?_
        refine xt_getr _ dX11_image_12 kfX11_16 (by first | exact sh0 | rfl | assumption) rfl ?_
        refine xt_iload_n _ dX11_image_15 rfl ?_
        refine xt_aald (.ref 86) dX11_image_16 (by rfl) (by decide) (by unfold vp_in; decide) rfl ?_
        refine xt_aload_n _ dX11_image_17 rfl ?_
        refine xt_getr _ dX11_image_18 kfX11_10 (by first | exact sh0 | rfl | assumption) rfl ?_
        refine xt_callV _ dX11_image_21 klX11_336 (tX9_copyFrom sc _ μ w 86 1 t_S86 t_S1 (by decide) hI.2.1.2.1) t_S86.1 rfl rfl (Nat.le_of_ble_eq_true rfl) (fun r2 μ2 w2 q2 => ?_)
        obtain ⟨rfl, hc2, hf2⟩ := q2
        change x_T _ _ _ _ _ [] _ _ _
        refine xt_aload_n _ dX11_image_24 rfl ?_
        refine xt_getr _ dX11_image_25 kfX11_20 (by first | exact sh0 | rfl | assumption) rfl ?_
        refine xt_iload_n _ dX11_image_28 rfl ?_
        refine xt_iconst (1) dX11_image_29 (by decide) ?_
        refine xt_zast dX11_image_30 (by first | exact sh0 | rfl | assumption) (by unfold vp_in; decide) ?_
        refine xt_iconst (1) dX11_image_31 (by decide) ?_
        exact xt_iret .boolean dX11_image_32 rfl (by first | rfl | assumption) ⟨rfl, hc2.cg (fun j hj => x_u_ne (by omega)), by rw [x_u_eq, hf2 114 (by decide)]; rfl, fun a ha h2 => by rw [x_u_ne h2]; exact hf2 a ha⟩
      · obtain ⟨rfl, hc, h114, hfr⟩ := q1
        refine ⟨1, rfl, (x_K.mono (P := fun r μ' _ => r = some (.int 1) ∧ r_T μ1 0 μ' 3 ∧ (∀ s, s < 4 → s ≠ 3 → r_T μ1 s μ' s) ∧ μ' 172 = upd (μ1 172) 2 1 ∧ ∀ a, a < 152 → μ' a = μ1 a) ?_ (fun r2 μ2 w2 q2 => ⟨q2.1, x_Inv.image (k := 2) (by decide) hI hc h114 hfr q2.2.1 q2.2.2.1 q2.2.2.2.1 q2.2.2.2.2⟩))⟩
        refine x_K.of (by decide) (Nat.le_of_ble_eq_true rfl) ?_
        show x_T sc 29 mX12_image 0 [.ref 152, .int (nI 2)] [] μ1 w1 _
        refine xt_aload_n _ dX12_image_0 rfl ?_
        refine xt_iconst (0) dX12_image_1 (by decide) ?_
        refine xt_puti dX12_image_2 kpX12_72 (by first | exact sh152 | rfl | assumption) rfl (by first | rfl | assumption) (by first | rfl | assumption) ?_
        refine xt_iload_n _ dX12_image_5 rfl ?_
        refine xt_iconst (0) dX12_image_6 (by decide) ?_
        refine xt_iconst (2) dX12_image_7 (by decide) ?_
        refine xt_cS _ dX12_image_8 klX12_84 (tX12_in sc _ _ _ _ _ _) rfl rfl (Nat.le_of_ble_eq_true rfl) ?_
        refine xt_if_ne 16 dX12_image_11 (by decide) (fun _ => ?_) (fun q => absurd q (by decide))
        refine xt_aload_n _ dX12_image_16 rfl ?_
        refine xt_iconst (0) dX12_image_17 (by decide) ?_
        refine xt_iload_n _ dX12_image_18 rfl ?_
        refine xt_iconst (1) dX12_image_19 (by decide) ?_
        refine xt_iadd dX12_image_20 ?_
        change x_T _ _ _ _ _ (.int (nI 3) :: .int (nI 0) :: _) _ _ _
        refine xt_callV _ dX12_image_21 klX12_563 (tX12_copyAll sc _ (x_u μ1 152 (upd (μ1 152) 0 0)) _ 0 3 (by decide) (by decide) (by decide)) sh152 rfl rfl (Nat.le_of_ble_eq_true rfl) (fun r3 μ3 w3 q3 => ?_)
        obtain ⟨rfl, hr3, ho3, hf3⟩ := q3
        change x_T _ _ _ _ _ [] _ _ _
        refine xt_aload_n _ dX12_image_24 rfl ?_
        refine xt_getr _ dX12_image_25 kfX12_68 (by first | exact sh152 | rfl | assumption) rfl ?_
        refine xt_iload_n _ dX12_image_28 rfl ?_
        refine xt_iconst (1) dX12_image_29 (by decide) ?_
        refine xt_zast dX12_image_30 (by first | exact sh152 | rfl | assumption) (by unfold vp_in; decide) ?_
        refine xt_iconst (1) dX12_image_31 (by decide) ?_
        exact xt_iret .boolean dX12_image_32 rfl (by first | rfl | assumption) ⟨rfl, r_T.cg hr3 (fun a ha => x_u_ne (by omega)), fun s hs h => r_T.cg (ho3 s hs h) (fun a ha => x_u_ne (by omega)), by rw [x_u_eq, hf3 172 (by decide)]; rfl, fun a ha => by rw [x_u_ne (by omega), hf3 a (by omega), x_u_ne (by omega)]⟩
  · refine x_K.mono (P := (fun r μ' _ => r = some (.int 0) ∧ x_keep μ μ')) ?_ (fun r μ1 w1 q1 => ⟨0, q1.1, ?_⟩)
    · refine x_K.of (by decide) (Nat.le_of_ble_eq_true rfl) ?_
      show x_T sc 29 mX11_image 0 [.ref 0, .int a1] [] μ w _
      refine xt_iload_n _ dX11_image_0 rfl ?_
      refine xt_if_lt 9 dX11_image_1 (by decide) (fun t1 => ?_) (fun f1 => ?_)
      · refine xt_iconst (0) dX11_image_9 (by decide) ?_
        exact xt_iret .boolean dX11_image_10 rfl (by first | rfl | assumption) ⟨rfl, x_keep.rf μ⟩
      · refine xt_iload_n _ dX11_image_4 rfl ?_
        refine xt_iconst (3) dX11_image_5 (by decide) ?_
        refine xt_icmp_lt 11 dX11_image_6 (by decide) (fun t6 => ?_) (fun f6 => ?_)
        · exact absurd ⟨Int32.not_lt.mp f1, s_lt3 t6⟩ hw
        · refine xt_iconst (0) dX11_image_9 (by decide) ?_
          exact xt_iret .boolean dX11_image_10 rfl (by first | rfl | assumption) ⟨rfl, x_keep.rf μ⟩
    · have hk := q1.2
      refine x_K.mono (P := fun r μ' _ => r = some (.int 0) ∧ x_keep μ1 μ') ?_ (fun r2 μ2 w2 q2 => ⟨q2.1, hI.keep (hk.tr q2.2)⟩)
      refine x_K.of (by decide) (Nat.le_of_ble_eq_true rfl) ?_
      show x_T sc 29 mX12_image 0 [.ref 152, .int a1] [] μ1 w1 _
      refine xt_aload_n _ dX12_image_0 rfl ?_
      refine xt_iconst (0) dX12_image_1 (by decide) ?_
      refine xt_puti dX12_image_2 kpX12_72 (by first | exact sh152 | rfl | assumption) rfl (by first | rfl | assumption) (by first | rfl | assumption) ?_
      refine xt_iload_n _ dX12_image_5 rfl ?_
      refine xt_iconst (0) dX12_image_6 (by decide) ?_
      refine xt_iconst (2) dX12_image_7 (by decide) ?_
      refine xt_cS _ dX12_image_8 klX12_84 (tX12_in sc _ _ _ _ _ _) rfl rfl (Nat.le_of_ble_eq_true rfl) ?_
      refine xt_if_ne 16 dX12_image_11 (by decide) (fun q => absurd (s_in_out hw) q) (fun _ => ?_)
      refine xt_iconst (0) dX12_image_14 (by decide) ?_
      exact xt_iret .boolean dX12_image_15 rfl (by first | rfl | assumption) ⟨rfl, x_keep.u (x_keep.rf μ1) (by unfold x_ok; omega)⟩
set_option maxHeartbeats 4000000 in
theorem st_again (sc : Nat × (Nat → Int32)) (a1 : Int32) : x_stI sc (fun μ _ => x_Inv μ) (fun μ _ => x_Inv μ) mX11_again mX12_again [.int a1] := by
  intro μ w hI
  by_cases hw : 0 ≤ a1 ∧ a1 ≤ nI 2
  · obtain ⟨j, hj, rfl⟩ := x_rng (N := 2) (by decide) hw
    have hj' : j = 0 ∨ j = 1 ∨ j = 2 := by omega
    rcases hj' with rfl | rfl | rfl
    · skip
      rcases (hI.1 0 (by decide)).2 with h0 | h1
      · have h02 : μ 172 0 = 0 := by rw [← (hI.1 0 (by decide)).1]; exact h0
        refine x_K.mono (P := (fun r μ' _ => r = some (.int 0) ∧ x_keep μ μ')) ?_ (fun r μ1 w1 q1 => ⟨0, q1.1, ?_⟩)
        · refine x_K.of (by decide) (Nat.le_of_ble_eq_true rfl) ?_
          show x_T sc 29 mX11_again 0 [.ref 0, .int (nI 0)] [] μ w _
          refine xt_iload_n _ dX11_again_0 rfl ?_
          refine xt_if_lt 18 dX11_again_1 (by decide) (fun q => absurd q (by decide)) (fun _ => ?_)
          refine xt_iload_n _ dX11_again_4 rfl ?_
          refine xt_iconst (3) dX11_again_5 (by decide) ?_
          refine xt_icmp_ge 18 dX11_again_6 (by decide) (fun q => absurd q (by decide)) (fun _ => ?_)
          refine xt_aload_n _ dX11_again_9 rfl ?_
          refine xt_getr _ dX11_again_10 kfX11_20 (by first | exact sh0 | rfl | assumption) rfl ?_
          refine xt_iload_n _ dX11_again_13 rfl ?_
          refine xt_zald dX11_again_14 (by first | exact sh0 | rfl | assumption) (by unfold vp_in; decide) ?_
          refine xt_if_ne 20 dX11_again_15 (by decide) (fun q => absurd (show μ 114 0 = 0 from h0) q) (fun _ => ?_)
          refine xt_iconst (0) dX11_again_18 (by decide) ?_
          exact xt_iret .boolean dX11_again_19 rfl (by first | rfl | assumption) ⟨rfl, x_keep.rf μ⟩
        · have hk := q1.2
          have h03 : μ1 172 0 = 0 := by rw [hk 172 (Or.inr (Or.inr rfl))]; exact h02
          refine x_K.mono (P := fun r μ' _ => r = some (.int 0) ∧ x_keep μ1 μ') ?_ (fun r2 μ2 w2 q2 => ⟨q2.1, hI.keep (hk.tr q2.2)⟩)
          refine x_K.of (by decide) (Nat.le_of_ble_eq_true rfl) ?_
          show x_T sc 29 mX12_again 0 [.ref 152, .int (nI 0)] [] μ1 w1 _
          refine xt_aload_n _ dX12_again_0 rfl ?_
          refine xt_iconst (0) dX12_again_1 (by decide) ?_
          refine xt_puti dX12_again_2 kpX12_72 (by first | exact sh152 | rfl | assumption) rfl (by first | rfl | assumption) (by first | rfl | assumption) ?_
          refine xt_iload_n _ dX12_again_5 rfl ?_
          refine xt_iconst (0) dX12_again_6 (by decide) ?_
          refine xt_iconst (2) dX12_again_7 (by decide) ?_
          refine xt_cS _ dX12_again_8 klX12_84 (tX12_in sc _ _ _ _ _ _) rfl rfl (Nat.le_of_ble_eq_true rfl) ?_
          refine xt_if_eq 23 dX12_again_11 (by decide) (fun q => absurd q (by decide)) (fun _ => ?_)
          refine xt_aload_n _ dX12_again_14 rfl ?_
          refine xt_getr _ dX12_again_15 kfX12_68 (by first | exact sh152 | rfl | assumption) rfl ?_
          refine xt_iload_n _ dX12_again_18 rfl ?_
          refine xt_zald dX12_again_19 (by first | exact sh152 | rfl | assumption) (by unfold vp_in; decide) ?_
          refine xt_if_ne 25 dX12_again_20 (by decide) (fun q => absurd (show μ1 172 0 = 0 from h03) q) (fun _ => ?_)
          refine xt_iconst (0) dX12_again_23 (by decide) ?_
          exact xt_iret .boolean dX12_again_24 rfl (by first | rfl | assumption) ⟨rfl, x_keep.u (x_keep.rf μ1) (by unfold x_ok; omega)⟩
      · have h12 : μ 172 0 = 1 := by rw [← (hI.1 0 (by decide)).1]; exact h1
        refine (x_K.mono (P := fun r μ' _ => r = some (.int 1) ∧ c_T μ 30 μ' 1 ∧ ∀ a, (a < 1 ∨ 28 < a) → μ' a = μ a) ?_ (fun r μ1 w1 q1 => ?_))
        · refine x_K.of (by decide) (Nat.le_of_ble_eq_true rfl) ?_
          show x_T sc 29 mX11_again 0 [.ref 0, .int (nI 0)] [] μ w _
          refine xt_iload_n _ dX11_again_0 rfl ?_
          refine xt_if_lt 18 dX11_again_1 (by decide) (fun q => absurd q (by decide)) (fun _ => ?_)
          refine xt_iload_n _ dX11_again_4 rfl ?_
          refine xt_iconst (3) dX11_again_5 (by decide) ?_
          refine xt_icmp_ge 18 dX11_again_6 (by decide) (fun q => absurd q (by decide)) (fun _ => ?_)
          refine xt_aload_n _ dX11_again_9 rfl ?_
          refine xt_getr _ dX11_again_10 kfX11_20 (by first | exact sh0 | rfl | assumption) rfl ?_
          refine xt_iload_n _ dX11_again_13 rfl ?_
          refine xt_zald dX11_again_14 (by first | exact sh0 | rfl | assumption) (by unfold vp_in; decide) ?_
          refine xt_if_ne 20 dX11_again_15 (by decide) (fun _ => ?_) (fun q => absurd q (show ¬ μ 114 0 = 0 by rw [h1]; decide))
          refine xt_aload_n _ dX11_again_20 rfl ?_
          refine xt_getr _ dX11_again_21 kfX11_10 (by first | exact sh0 | rfl | assumption) rfl ?_
          refine xt_aload_n _ dX11_again_24 rfl ?_
          refine xt_getr _ dX11_again_25 kfX11_16 (by first | exact sh0 | rfl | assumption) rfl ?_
          refine xt_iload_n _ dX11_again_28 rfl ?_
          refine xt_aald (.ref 30) dX11_again_29 (by rfl) (by decide) (by unfold vp_in; decide) rfl ?_
          refine xt_callV _ dX11_again_30 klX11_336 (tX9_copyFrom sc _ μ w 1 30 t_S1 t_S30 (by decide) (hI.2.2 0 (by decide) h1).2.1) t_S1.1 rfl rfl (Nat.le_of_ble_eq_true rfl) (fun r2 μ2 w2 q2 => ?_)
          obtain ⟨rfl, hc2, hf2⟩ := q2
          change x_T _ _ _ _ _ [] _ _ _
          refine xt_iconst (1) dX11_again_33 (by decide) ?_
          exact xt_iret .boolean dX11_again_34 rfl (by first | rfl | assumption) ⟨rfl, hc2, fun a ha => hf2 a (by omega)⟩
        · obtain ⟨rfl, hc, hfr⟩ := q1
          have h13 : μ1 172 0 = 1 := by rw [hfr 172 (by decide)]; exact h12
          refine ⟨1, rfl, (x_K.mono (P := fun r μ' _ => r = some (.int 1) ∧ r_T μ1 1 μ' 0 ∧ (∀ s, s < 4 → s ≠ 0 → r_T μ1 s μ' s) ∧ μ' 172 = μ1 172 ∧ ∀ a, a < 152 → μ' a = μ1 a) ?_ (fun r2 μ2 w2 q2 => ⟨q2.1, x_Inv.again (k := 0) (by decide) hI h1 hc hfr q2.2.1 q2.2.2.1 q2.2.2.2.1 q2.2.2.2.2⟩))⟩
          refine x_K.of (by decide) (Nat.le_of_ble_eq_true rfl) ?_
          show x_T sc 29 mX12_again 0 [.ref 152, .int (nI 0)] [] μ1 w1 _
          refine xt_aload_n _ dX12_again_0 rfl ?_
          refine xt_iconst (0) dX12_again_1 (by decide) ?_
          refine xt_puti dX12_again_2 kpX12_72 (by first | exact sh152 | rfl | assumption) rfl (by first | rfl | assumption) (by first | rfl | assumption) ?_
          refine xt_iload_n _ dX12_again_5 rfl ?_
          refine xt_iconst (0) dX12_again_6 (by decide) ?_
          refine xt_iconst (2) dX12_again_7 (by decide) ?_
          refine xt_cS _ dX12_again_8 klX12_84 (tX12_in sc _ _ _ _ _ _) rfl rfl (Nat.le_of_ble_eq_true rfl) ?_
          refine xt_if_eq 23 dX12_again_11 (by decide) (fun q => absurd q (by decide)) (fun _ => ?_)
          refine xt_aload_n _ dX12_again_14 rfl ?_
          refine xt_getr _ dX12_again_15 kfX12_68 (by first | exact sh152 | rfl | assumption) rfl ?_
          refine xt_iload_n _ dX12_again_18 rfl ?_
          refine xt_zald dX12_again_19 (by first | exact sh152 | rfl | assumption) (by unfold vp_in; decide) ?_
          refine xt_if_ne 25 dX12_again_20 (by decide) (fun _ => ?_) (fun q => absurd q (show ¬ μ1 172 0 = 0 by rw [h13]; decide))
          refine xt_aload_n _ dX12_again_25 rfl ?_
          refine xt_iload_n _ dX12_again_26 rfl ?_
          refine xt_iconst (1) dX12_again_27 (by decide) ?_
          refine xt_iadd dX12_again_28 ?_
          refine xt_iconst (0) dX12_again_29 (by decide) ?_
          change x_T _ _ _ _ _ (.int (nI 0) :: .int (nI 1) :: _) _ _ _
          refine xt_callV _ dX12_again_30 klX12_563 (tX12_copyAll sc _ (x_u μ1 152 (upd (μ1 152) 0 0)) _ 1 0 (by decide) (by decide) (by decide)) sh152 rfl rfl (Nat.le_of_ble_eq_true rfl) (fun r3 μ3 w3 q3 => ?_)
          obtain ⟨rfl, hr3, ho3, hf3⟩ := q3
          change x_T _ _ _ _ _ [] _ _ _
          refine xt_iconst (1) dX12_again_33 (by decide) ?_
          exact xt_iret .boolean dX12_again_34 rfl (by first | rfl | assumption) ⟨rfl, r_T.cg hr3 (fun a ha => x_u_ne (by omega)), fun s hs h => r_T.cg (ho3 s hs h) (fun a ha => x_u_ne (by omega)), by rw [hf3 172 (by decide)]; rfl, fun a ha => by rw [hf3 a (by omega), x_u_ne (by omega)]⟩
    · skip
      rcases (hI.1 1 (by decide)).2 with h0 | h1
      · have h02 : μ 172 1 = 0 := by rw [← (hI.1 1 (by decide)).1]; exact h0
        refine x_K.mono (P := (fun r μ' _ => r = some (.int 0) ∧ x_keep μ μ')) ?_ (fun r μ1 w1 q1 => ⟨0, q1.1, ?_⟩)
        · refine x_K.of (by decide) (Nat.le_of_ble_eq_true rfl) ?_
          show x_T sc 29 mX11_again 0 [.ref 0, .int (nI 1)] [] μ w _
          refine xt_iload_n _ dX11_again_0 rfl ?_
          refine xt_if_lt 18 dX11_again_1 (by decide) (fun q => absurd q (by decide)) (fun _ => ?_)
          refine xt_iload_n _ dX11_again_4 rfl ?_
          refine xt_iconst (3) dX11_again_5 (by decide) ?_
          refine xt_icmp_ge 18 dX11_again_6 (by decide) (fun q => absurd q (by decide)) (fun _ => ?_)
          refine xt_aload_n _ dX11_again_9 rfl ?_
          refine xt_getr _ dX11_again_10 kfX11_20 (by first | exact sh0 | rfl | assumption) rfl ?_
          refine xt_iload_n _ dX11_again_13 rfl ?_
          refine xt_zald dX11_again_14 (by first | exact sh0 | rfl | assumption) (by unfold vp_in; decide) ?_
          refine xt_if_ne 20 dX11_again_15 (by decide) (fun q => absurd (show μ 114 1 = 0 from h0) q) (fun _ => ?_)
          refine xt_iconst (0) dX11_again_18 (by decide) ?_
          exact xt_iret .boolean dX11_again_19 rfl (by first | rfl | assumption) ⟨rfl, x_keep.rf μ⟩
        · have hk := q1.2
          have h03 : μ1 172 1 = 0 := by rw [hk 172 (Or.inr (Or.inr rfl))]; exact h02
          refine x_K.mono (P := fun r μ' _ => r = some (.int 0) ∧ x_keep μ1 μ') ?_ (fun r2 μ2 w2 q2 => ⟨q2.1, hI.keep (hk.tr q2.2)⟩)
          refine x_K.of (by decide) (Nat.le_of_ble_eq_true rfl) ?_
          show x_T sc 29 mX12_again 0 [.ref 152, .int (nI 1)] [] μ1 w1 _
          refine xt_aload_n _ dX12_again_0 rfl ?_
          refine xt_iconst (0) dX12_again_1 (by decide) ?_
          refine xt_puti dX12_again_2 kpX12_72 (by first | exact sh152 | rfl | assumption) rfl (by first | rfl | assumption) (by first | rfl | assumption) ?_
          refine xt_iload_n _ dX12_again_5 rfl ?_
          refine xt_iconst (0) dX12_again_6 (by decide) ?_
          refine xt_iconst (2) dX12_again_7 (by decide) ?_
          refine xt_cS _ dX12_again_8 klX12_84 (tX12_in sc _ _ _ _ _ _) rfl rfl (Nat.le_of_ble_eq_true rfl) ?_
          refine xt_if_eq 23 dX12_again_11 (by decide) (fun q => absurd q (by decide)) (fun _ => ?_)
          refine xt_aload_n _ dX12_again_14 rfl ?_
          refine xt_getr _ dX12_again_15 kfX12_68 (by first | exact sh152 | rfl | assumption) rfl ?_
          refine xt_iload_n _ dX12_again_18 rfl ?_
          refine xt_zald dX12_again_19 (by first | exact sh152 | rfl | assumption) (by unfold vp_in; decide) ?_
          refine xt_if_ne 25 dX12_again_20 (by decide) (fun q => absurd (show μ1 172 1 = 0 from h03) q) (fun _ => ?_)
          refine xt_iconst (0) dX12_again_23 (by decide) ?_
          exact xt_iret .boolean dX12_again_24 rfl (by first | rfl | assumption) ⟨rfl, x_keep.u (x_keep.rf μ1) (by unfold x_ok; omega)⟩
      · have h12 : μ 172 1 = 1 := by rw [← (hI.1 1 (by decide)).1]; exact h1
        refine (x_K.mono (P := fun r μ' _ => r = some (.int 1) ∧ c_T μ 58 μ' 1 ∧ ∀ a, (a < 1 ∨ 28 < a) → μ' a = μ a) ?_ (fun r μ1 w1 q1 => ?_))
        · refine x_K.of (by decide) (Nat.le_of_ble_eq_true rfl) ?_
          show x_T sc 29 mX11_again 0 [.ref 0, .int (nI 1)] [] μ w _
          refine xt_iload_n _ dX11_again_0 rfl ?_
          refine xt_if_lt 18 dX11_again_1 (by decide) (fun q => absurd q (by decide)) (fun _ => ?_)
          refine xt_iload_n _ dX11_again_4 rfl ?_
          refine xt_iconst (3) dX11_again_5 (by decide) ?_
          refine xt_icmp_ge 18 dX11_again_6 (by decide) (fun q => absurd q (by decide)) (fun _ => ?_)
          refine xt_aload_n _ dX11_again_9 rfl ?_
          refine xt_getr _ dX11_again_10 kfX11_20 (by first | exact sh0 | rfl | assumption) rfl ?_
          refine xt_iload_n _ dX11_again_13 rfl ?_
          refine xt_zald dX11_again_14 (by first | exact sh0 | rfl | assumption) (by unfold vp_in; decide) ?_
          refine xt_if_ne 20 dX11_again_15 (by decide) (fun _ => ?_) (fun q => absurd q (show ¬ μ 114 1 = 0 by rw [h1]; decide))
          refine xt_aload_n _ dX11_again_20 rfl ?_
          refine xt_getr _ dX11_again_21 kfX11_10 (by first | exact sh0 | rfl | assumption) rfl ?_
          refine xt_aload_n _ dX11_again_24 rfl ?_
          refine xt_getr _ dX11_again_25 kfX11_16 (by first | exact sh0 | rfl | assumption) rfl ?_
          refine xt_iload_n _ dX11_again_28 rfl ?_
          refine xt_aald (.ref 58) dX11_again_29 (by rfl) (by decide) (by unfold vp_in; decide) rfl ?_
          refine xt_callV _ dX11_again_30 klX11_336 (tX9_copyFrom sc _ μ w 1 58 t_S1 t_S58 (by decide) (hI.2.2 1 (by decide) h1).2.1) t_S1.1 rfl rfl (Nat.le_of_ble_eq_true rfl) (fun r2 μ2 w2 q2 => ?_)
          obtain ⟨rfl, hc2, hf2⟩ := q2
          change x_T _ _ _ _ _ [] _ _ _
          refine xt_iconst (1) dX11_again_33 (by decide) ?_
          exact xt_iret .boolean dX11_again_34 rfl (by first | rfl | assumption) ⟨rfl, hc2, fun a ha => hf2 a (by omega)⟩
        · obtain ⟨rfl, hc, hfr⟩ := q1
          have h13 : μ1 172 1 = 1 := by rw [hfr 172 (by decide)]; exact h12
          refine ⟨1, rfl, (x_K.mono (P := fun r μ' _ => r = some (.int 1) ∧ r_T μ1 2 μ' 0 ∧ (∀ s, s < 4 → s ≠ 0 → r_T μ1 s μ' s) ∧ μ' 172 = μ1 172 ∧ ∀ a, a < 152 → μ' a = μ1 a) ?_ (fun r2 μ2 w2 q2 => ⟨q2.1, x_Inv.again (k := 1) (by decide) hI h1 hc hfr q2.2.1 q2.2.2.1 q2.2.2.2.1 q2.2.2.2.2⟩))⟩
          refine x_K.of (by decide) (Nat.le_of_ble_eq_true rfl) ?_
          show x_T sc 29 mX12_again 0 [.ref 152, .int (nI 1)] [] μ1 w1 _
          refine xt_aload_n _ dX12_again_0 rfl ?_
          refine xt_iconst (0) dX12_again_1 (by decide) ?_
          refine xt_puti dX12_again_2 kpX12_72 (by first | exact sh152 | rfl | assumption) rfl (by first | rfl | assumption) (by first | rfl | assumption) ?_
          refine xt_iload_n _ dX12_again_5 rfl ?_
          refine xt_iconst (0) dX12_again_6 (by decide) ?_
          refine xt_iconst (2) dX12_again_7 (by decide) ?_
          refine xt_cS _ dX12_again_8 klX12_84 (tX12_in sc _ _ _ _ _ _) rfl rfl (Nat.le_of_ble_eq_true rfl) ?_
          refine xt_if_eq 23 dX12_again_11 (by decide) (fun q => absurd q (by decide)) (fun _ => ?_)
          refine xt_aload_n _ dX12_again_14 rfl ?_
          refine xt_getr _ dX12_again_15 kfX12_68 (by first | exact sh152 | rfl | assumption) rfl ?_
          refine xt_iload_n _ dX12_again_18 rfl ?_
          refine xt_zald dX12_again_19 (by first | exact sh152 | rfl | assumption) (by unfold vp_in; decide) ?_
          refine xt_if_ne 25 dX12_again_20 (by decide) (fun _ => ?_) (fun q => absurd q (show ¬ μ1 172 1 = 0 by rw [h13]; decide))
          refine xt_aload_n _ dX12_again_25 rfl ?_
          refine xt_iload_n _ dX12_again_26 rfl ?_
          refine xt_iconst (1) dX12_again_27 (by decide) ?_
          refine xt_iadd dX12_again_28 ?_
          refine xt_iconst (0) dX12_again_29 (by decide) ?_
          change x_T _ _ _ _ _ (.int (nI 0) :: .int (nI 2) :: _) _ _ _
          refine xt_callV _ dX12_again_30 klX12_563 (tX12_copyAll sc _ (x_u μ1 152 (upd (μ1 152) 0 0)) _ 2 0 (by decide) (by decide) (by decide)) sh152 rfl rfl (Nat.le_of_ble_eq_true rfl) (fun r3 μ3 w3 q3 => ?_)
          obtain ⟨rfl, hr3, ho3, hf3⟩ := q3
          change x_T _ _ _ _ _ [] _ _ _
          refine xt_iconst (1) dX12_again_33 (by decide) ?_
          exact xt_iret .boolean dX12_again_34 rfl (by first | rfl | assumption) ⟨rfl, r_T.cg hr3 (fun a ha => x_u_ne (by omega)), fun s hs h => r_T.cg (ho3 s hs h) (fun a ha => x_u_ne (by omega)), by rw [hf3 172 (by decide)]; rfl, fun a ha => by rw [hf3 a (by omega), x_u_ne (by omega)]⟩
    · skip
      rcases (hI.1 2 (by decide)).2 with h0 | h1
      · have h02 : μ 172 2 = 0 := by rw [← (hI.1 2 (by decide)).1]; exact h0
        refine x_K.mono (P := (fun r μ' _ => r = some (.int 0) ∧ x_keep μ μ')) ?_ (fun r μ1 w1 q1 => ⟨0, q1.1, ?_⟩)
        · refine x_K.of (by decide) (Nat.le_of_ble_eq_true rfl) ?_
          show x_T sc 29 mX11_again 0 [.ref 0, .int (nI 2)] [] μ w _
          refine xt_iload_n _ dX11_again_0 rfl ?_
          refine xt_if_lt 18 dX11_again_1 (by decide) (fun q => absurd q (by decide)) (fun _ => ?_)
          refine xt_iload_n _ dX11_again_4 rfl ?_
          refine xt_iconst (3) dX11_again_5 (by decide) ?_
          refine xt_icmp_ge 18 dX11_again_6 (by decide) (fun q => absurd q (by decide)) (fun _ => ?_)
          refine xt_aload_n _ dX11_again_9 rfl ?_
          refine xt_getr _ dX11_again_10 kfX11_20 (by first | exact sh0 | rfl | assumption) rfl ?_
          refine xt_iload_n _ dX11_again_13 rfl ?_
          refine xt_zald dX11_again_14 (by first | exact sh0 | rfl | assumption) (by unfold vp_in; decide) ?_
          refine xt_if_ne 20 dX11_again_15 (by decide) (fun q => absurd (show μ 114 2 = 0 from h0) q) (fun _ => ?_)
          refine xt_iconst (0) dX11_again_18 (by decide) ?_
          exact xt_iret .boolean dX11_again_19 rfl (by first | rfl | assumption) ⟨rfl, x_keep.rf μ⟩
        · have hk := q1.2
          have h03 : μ1 172 2 = 0 := by rw [hk 172 (Or.inr (Or.inr rfl))]; exact h02
          refine x_K.mono (P := fun r μ' _ => r = some (.int 0) ∧ x_keep μ1 μ') ?_ (fun r2 μ2 w2 q2 => ⟨q2.1, hI.keep (hk.tr q2.2)⟩)
          refine x_K.of (by decide) (Nat.le_of_ble_eq_true rfl) ?_
          show x_T sc 29 mX12_again 0 [.ref 152, .int (nI 2)] [] μ1 w1 _
          refine xt_aload_n _ dX12_again_0 rfl ?_
          refine xt_iconst (0) dX12_again_1 (by decide) ?_
          refine xt_puti dX12_again_2 kpX12_72 (by first | exact sh152 | rfl | assumption) rfl (by first | rfl | assumption) (by first | rfl | assumption) ?_
          refine xt_iload_n _ dX12_again_5 rfl ?_
          refine xt_iconst (0) dX12_again_6 (by decide) ?_
          refine xt_iconst (2) dX12_again_7 (by decide) ?_
          refine xt_cS _ dX12_again_8 klX12_84 (tX12_in sc _ _ _ _ _ _) rfl rfl (Nat.le_of_ble_eq_true rfl) ?_
          refine xt_if_eq 23 dX12_again_11 (by decide) (fun q => absurd q (by decide)) (fun _ => ?_)
          refine xt_aload_n _ dX12_again_14 rfl ?_
          refine xt_getr _ dX12_again_15 kfX12_68 (by first | exact sh152 | rfl | assumption) rfl ?_
          refine xt_iload_n _ dX12_again_18 rfl ?_
          refine xt_zald dX12_again_19 (by first | exact sh152 | rfl | assumption) (by unfold vp_in; decide) ?_
          refine xt_if_ne 25 dX12_again_20 (by decide) (fun q => absurd (show μ1 172 2 = 0 from h03) q) (fun _ => ?_)
          refine xt_iconst (0) dX12_again_23 (by decide) ?_
          exact xt_iret .boolean dX12_again_24 rfl (by first | rfl | assumption) ⟨rfl, x_keep.u (x_keep.rf μ1) (by unfold x_ok; omega)⟩
      · have h12 : μ 172 2 = 1 := by rw [← (hI.1 2 (by decide)).1]; exact h1
        refine (x_K.mono (P := fun r μ' _ => r = some (.int 1) ∧ c_T μ 86 μ' 1 ∧ ∀ a, (a < 1 ∨ 28 < a) → μ' a = μ a) ?_ (fun r μ1 w1 q1 => ?_))
        · refine x_K.of (by decide) (Nat.le_of_ble_eq_true rfl) ?_
          show x_T sc 29 mX11_again 0 [.ref 0, .int (nI 2)] [] μ w _
          refine xt_iload_n _ dX11_again_0 rfl ?_
          refine xt_if_lt 18 dX11_again_1 (by decide) (fun q => absurd q (by decide)) (fun _ => ?_)
          refine xt_iload_n _ dX11_again_4 rfl ?_
          refine xt_iconst (3) dX11_again_5 (by decide) ?_
          refine xt_icmp_ge 18 dX11_again_6 (by decide) (fun q => absurd q (by decide)) (fun _ => ?_)
          refine xt_aload_n _ dX11_again_9 rfl ?_
          refine xt_getr _ dX11_again_10 kfX11_20 (by first | exact sh0 | rfl | assumption) rfl ?_
          refine xt_iload_n _ dX11_again_13 rfl ?_
          refine xt_zald dX11_again_14 (by first | exact sh0 | rfl | assumption) (by unfold vp_in; decide) ?_
          refine xt_if_ne 20 dX11_again_15 (by decide) (fun _ => ?_) (fun q => absurd q (show ¬ μ 114 2 = 0 by rw [h1]; decide))
          refine xt_aload_n _ dX11_again_20 rfl ?_
          refine xt_getr _ dX11_again_21 kfX11_10 (by first | exact sh0 | rfl | assumption) rfl ?_
          refine xt_aload_n _ dX11_again_24 rfl ?_
          refine xt_getr _ dX11_again_25 kfX11_16 (by first | exact sh0 | rfl | assumption) rfl ?_
          refine xt_iload_n _ dX11_again_28 rfl ?_
          refine xt_aald (.ref 86) dX11_again_29 (by rfl) (by decide) (by unfold vp_in; decide) rfl ?_
          refine xt_callV _ dX11_again_30 klX11_336 (tX9_copyFrom sc _ μ w 1 86 t_S1 t_S86 (by decide) (hI.2.2 2 (by decide) h1).2.1) t_S1.1 rfl rfl (Nat.le_of_ble_eq_true rfl) (fun r2 μ2 w2 q2 => ?_)
          obtain ⟨rfl, hc2, hf2⟩ := q2
          change x_T _ _ _ _ _ [] _ _ _
          refine xt_iconst (1) dX11_again_33 (by decide) ?_
          exact xt_iret .boolean dX11_again_34 rfl (by first | rfl | assumption) ⟨rfl, hc2, fun a ha => hf2 a (by omega)⟩
        · obtain ⟨rfl, hc, hfr⟩ := q1
          have h13 : μ1 172 2 = 1 := by rw [hfr 172 (by decide)]; exact h12
          refine ⟨1, rfl, (x_K.mono (P := fun r μ' _ => r = some (.int 1) ∧ r_T μ1 3 μ' 0 ∧ (∀ s, s < 4 → s ≠ 0 → r_T μ1 s μ' s) ∧ μ' 172 = μ1 172 ∧ ∀ a, a < 152 → μ' a = μ1 a) ?_ (fun r2 μ2 w2 q2 => ⟨q2.1, x_Inv.again (k := 2) (by decide) hI h1 hc hfr q2.2.1 q2.2.2.1 q2.2.2.2.1 q2.2.2.2.2⟩))⟩
          refine x_K.of (by decide) (Nat.le_of_ble_eq_true rfl) ?_
          show x_T sc 29 mX12_again 0 [.ref 152, .int (nI 2)] [] μ1 w1 _
          refine xt_aload_n _ dX12_again_0 rfl ?_
          refine xt_iconst (0) dX12_again_1 (by decide) ?_
          refine xt_puti dX12_again_2 kpX12_72 (by first | exact sh152 | rfl | assumption) rfl (by first | rfl | assumption) (by first | rfl | assumption) ?_
          refine xt_iload_n _ dX12_again_5 rfl ?_
          refine xt_iconst (0) dX12_again_6 (by decide) ?_
          refine xt_iconst (2) dX12_again_7 (by decide) ?_
          refine xt_cS _ dX12_again_8 klX12_84 (tX12_in sc _ _ _ _ _ _) rfl rfl (Nat.le_of_ble_eq_true rfl) ?_
          refine xt_if_eq 23 dX12_again_11 (by decide) (fun q => absurd q (by decide)) (fun _ => ?_)
          refine xt_aload_n _ dX12_again_14 rfl ?_
          refine xt_getr _ dX12_again_15 kfX12_68 (by first | exact sh152 | rfl | assumption) rfl ?_
          refine xt_iload_n _ dX12_again_18 rfl ?_
          refine xt_zald dX12_again_19 (by first | exact sh152 | rfl | assumption) (by unfold vp_in; decide) ?_
          refine xt_if_ne 25 dX12_again_20 (by decide) (fun _ => ?_) (fun q => absurd q (show ¬ μ1 172 2 = 0 by rw [h13]; decide))
          refine xt_aload_n _ dX12_again_25 rfl ?_
          refine xt_iload_n _ dX12_again_26 rfl ?_
          refine xt_iconst (1) dX12_again_27 (by decide) ?_
          refine xt_iadd dX12_again_28 ?_
          refine xt_iconst (0) dX12_again_29 (by decide) ?_
          change x_T _ _ _ _ _ (.int (nI 0) :: .int (nI 3) :: _) _ _ _
          refine xt_callV _ dX12_again_30 klX12_563 (tX12_copyAll sc _ (x_u μ1 152 (upd (μ1 152) 0 0)) _ 3 0 (by decide) (by decide) (by decide)) sh152 rfl rfl (Nat.le_of_ble_eq_true rfl) (fun r3 μ3 w3 q3 => ?_)
          obtain ⟨rfl, hr3, ho3, hf3⟩ := q3
          change x_T _ _ _ _ _ [] _ _ _
          refine xt_iconst (1) dX12_again_33 (by decide) ?_
          exact xt_iret .boolean dX12_again_34 rfl (by first | rfl | assumption) ⟨rfl, r_T.cg hr3 (fun a ha => x_u_ne (by omega)), fun s hs h => r_T.cg (ho3 s hs h) (fun a ha => x_u_ne (by omega)), by rw [hf3 172 (by decide)]; rfl, fun a ha => by rw [hf3 a (by omega), x_u_ne (by omega)]⟩
  · refine x_K.mono (P := (fun r μ' _ => r = some (.int 0) ∧ x_keep μ μ')) ?_ (fun r μ1 w1 q1 => ⟨0, q1.1, ?_⟩)
    · refine x_K.of (by decide) (Nat.le_of_ble_eq_true rfl) ?_
      show x_T sc 29 mX11_again 0 [.ref 0, .int a1] [] μ w _
      refine xt_iload_n _ dX11_again_0 rfl ?_
      refine xt_if_lt 18 dX11_again_1 (by decide) (fun t1 => ?_) (fun f1 => ?_)
      · refine xt_iconst (0) dX11_again_18 (by decide) ?_
        exact xt_iret .boolean dX11_again_19 rfl (by first | rfl | assumption) ⟨rfl, x_keep.rf μ⟩
      · refine xt_iload_n _ dX11_again_4 rfl ?_
        refine xt_iconst (3) dX11_again_5 (by decide) ?_
        refine xt_icmp_ge 18 dX11_again_6 (by decide) (fun t6 => ?_) (fun f6 => ?_)
        · refine xt_iconst (0) dX11_again_18 (by decide) ?_
          exact xt_iret .boolean dX11_again_19 rfl (by first | rfl | assumption) ⟨rfl, x_keep.rf μ⟩
        · exact absurd ⟨Int32.not_lt.mp f1, s_lt3 (Int32.not_le.mp f6)⟩ hw
    · have hk := q1.2
      refine x_K.mono (P := fun r μ' _ => r = some (.int 0) ∧ x_keep μ1 μ') ?_ (fun r2 μ2 w2 q2 => ⟨q2.1, hI.keep (hk.tr q2.2)⟩)
      refine x_K.of (by decide) (Nat.le_of_ble_eq_true rfl) ?_
      show x_T sc 29 mX12_again 0 [.ref 152, .int a1] [] μ1 w1 _
      refine xt_aload_n _ dX12_again_0 rfl ?_
      refine xt_iconst (0) dX12_again_1 (by decide) ?_
      refine xt_puti dX12_again_2 kpX12_72 (by first | exact sh152 | rfl | assumption) rfl (by first | rfl | assumption) (by first | rfl | assumption) ?_
      refine xt_iload_n _ dX12_again_5 rfl ?_
      refine xt_iconst (0) dX12_again_6 (by decide) ?_
      refine xt_iconst (2) dX12_again_7 (by decide) ?_
      refine xt_cS _ dX12_again_8 klX12_84 (tX12_in sc _ _ _ _ _ _) rfl rfl (Nat.le_of_ble_eq_true rfl) ?_
      refine xt_if_eq 23 dX12_again_11 (by decide) (fun _ => ?_) (fun q => absurd (s_in_out hw) q)
      refine xt_iconst (0) dX12_again_23 (by decide) ?_
      exact xt_iret .boolean dX12_again_24 rfl (by first | rfl | assumption) ⟨rfl, x_keep.u (x_keep.rf μ1) (by unfold x_ok; omega)⟩
