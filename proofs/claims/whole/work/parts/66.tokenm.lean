/-! texts: the reference's tokens -/
def x_lg : Option (Option (Option Value)) → Bool
  | some (some none) => true
  | _ => false
def x_nol : x_S → Bool
  | .inl q => q.2.all (fun o => !x_lg (some o))
  | _ => true
theorem x_nol_ok : ∀ k, k < 173 → k ≠ 152 → (x_shape[k]?.map x_nol).getD true = true := by decide +kernel
theorem x_nol_cell {s : x_S} (h : x_nol s = true) (w v : Int64) (m : Nat → Int32) : x_cell w s m = x_cell v s m := by
  match s, h with
  | .inl q, h =>
    show (Sum.inl (q.1, q.2.mapIdx (fun j o => x_fld m w j o)) : x_C) = Sum.inl (q.1, q.2.mapIdx (fun j o => x_fld m v j o))
    congr 2
    apply List.ext_getElem?
    intro i
    rw [List.getElem?_mapIdx, List.getElem?_mapIdx]
    cases ho : q.2[i]? with
    | none => rfl
    | some o =>
      have h1 : (!x_lg (some o)) = true := List.all_eq_true.mp h o (List.mem_of_getElem? ho)
      match o, h1 with
      | none, _ => rfl
      | some (some _), _ => rfl
      | some none, h1 => exact absurd h1 (by decide)
  | .inr (.inl q), _ => rfl
  | .inr (.inr q), _ => rfl
theorem x_fld_set {tm : List (Option (Option Value))} {j0 : Nat} (h : ∀ j, j < tm.length → j ≠ j0 → x_lg tm[j]? = false) (hj : tm[j0]? = some (some none)) (m : Nat → Int32) (w v : Int64) : (tm.mapIdx (fun j o => x_fld m w j o)).set j0 (.long v) = tm.mapIdx (fun j o => x_fld m v j o) := by
  have hl : j0 < tm.length := (List.getElem?_eq_some_iff.mp hj).1
  apply List.ext_getElem?
  intro i
  rw [List.getElem?_set, List.getElem?_mapIdx, List.getElem?_mapIdx, List.length_mapIdx]
  by_cases hi : j0 = i
  · rw [if_pos hi, ← hi, if_pos hl, hj]; rfl
  · rw [if_neg hi]
    cases ho : tm[i]? with
    | none => rfl
    | some o =>
      have h1 := h i (List.getElem?_eq_some_iff.mp ho).1 (fun e => hi e.symm)
      rw [ho] at h1
      match o, h1 with
      | none, _ => rfl
      | some (some _), _ => rfl
      | some none, h1 => exact absurd h1 (by decide)
theorem x_hp_long (μ : x_Me) (w v : Int64) {s : x_S} (hs : x_shape[152]? = some s) : (x_hp μ w).set 152 (x_cell v s (μ 152)) = x_hp μ v := by
  apply List.ext_getElem?
  intro i
  have hl : (x_hp μ w).length = 173 := by rw [x_hp, List.length_mapIdx, x_shape_len]
  rw [List.getElem?_set, hl]
  by_cases hi : 152 = i
  · rw [if_pos hi, ← hi, if_pos (by decide), x_hp_get hs]
  · rw [if_neg hi, x_hp, x_hp, List.getElem?_mapIdx, List.getElem?_mapIdx]
    cases hs2 : x_shape[i]? with
    | none => rfl
    | some s =>
      have hlt : i < 173 := by rw [← x_shape_len]; exact (List.getElem?_eq_some_iff.mp hs2).1
      have h1 := x_nol_ok i hlt (fun e => hi e.symm)
      rw [hs2] at h1
      exact congrArg some (x_nol_cell h1 w v (μ i))
section XPL
variable {sc : Nat × (Nat → Int32)} {d : Nat} {M : x_Mt} {pc : Nat} {ls st : List Value} {μ : x_Me} {w : Int64} {P : Option Value → x_Me → Int64 → Prop}
theorem xt_putl {idx : Nat} {v : Int64} (hd : decode M.2.1 pc = .ok (.putfield idx, 3)) (hf : x_fp M.1.cls idx 10 14 .long false)
    (K : x_T sc d M (pc + 3) ls st μ v P) : x_T sc d M pc ls (.long v :: .ref 152 :: st) μ w P := by
  obtain ⟨r, μ', w', hR, hP⟩ := K
  have hg := x_hp_get (μ := μ) (w := w) sh152
  refine ⟨r, μ', w', xr_putf 14 .long hd hg (by decide) hf (fun _ => rfl) (fun _ => rfl) (by rw [List.length_mapIdx]; decide) ?_, hP⟩
  rw [x_fld_set (j0 := 14) (by decide +kernel) rfl (μ 152) w v]
  have e := x_hp_long μ w v sh152
  rw [← e] at hR
  exact hR
end XPL
/-- the reference's bytes -/
def m_B (μ : x_Me) (T : Nat → Nat) (L : Nat) : Prop := μ 152 10 = nI L ∧ L ≤ 600 ∧ (∀ i, i < L → μ 153 i &&& 255 = nI (T i) ∧ T i < 256) ∧ ∀ i, L ≤ i → T i = 0
theorem m_B.cg {μ μ' : x_Me} {T : Nat → Nat} {L : Nat} (h : m_B μ T L) (h1 : μ' 152 10 = μ 152 10) (h2 : μ' 153 = μ 153) : m_B μ' T L := by
  unfold m_B; rw [h1, h2]; exact h
def s_se (T : Nat → Nat) (L p : Nat) : Int32 := if p < L then nI (T p) else -1
theorem m_B.lt {μ : x_Me} {T : Nat → Nat} {L : Nat} (h : m_B μ T L) (p : Nat) : T p < 256 := by
  by_cases hp : p < L
  · exact (h.2.2.1 p hp).2
  · rw [h.2.2.2 p (by omega)]; decide
theorem s_se_eq {μ : x_Me} {T : Nat → Nat} {L : Nat} (h : m_B μ T L) {p c : Nat} (h0 : 0 < c) (hc : c < 256) : s_se T L p = nI c ↔ T p = c := by
  have h1 := h.lt p
  unfold s_se
  by_cases hp : p < L
  · rw [if_pos hp, nI_eq (by omega) (by omega)]
  · rw [if_neg hp, h.2.2.2 p (by omega)]
    constructor
    · intro e
      have e1 : (0 : Int32) ≤ nI c := Int32.not_lt.mp (nI_pos (by omega))
      rw [← e] at e1
      exact absurd e1 (by decide)
    · intro e; omega
theorem s_se_in {μ : x_Me} {T : Nat → Nat} {L : Nat} (h : m_B μ T L) {p a b : Nat} (h0 : 0 < a) (hb : b < 256) (ha : a < 256) : s_in (s_se T L p) (nI a) (nI b) = (if decide (a ≤ T p ∧ T p ≤ b) then 1 else 0) := by
  have h1 := h.lt p
  unfold s_se s_in
  by_cases hp : p < L
  · rw [if_pos hp]
    by_cases hq : a ≤ T p ∧ T p ≤ b
    · rw [if_neg (fun z => by have := (nI_ltI (by omega) (by omega)).mp z; omega), if_neg (fun z => by have := (nI_ltI (by omega) (by omega)).mp z; omega), decide_eq_true hq]; rfl
    · rw [decide_eq_false hq]
      by_cases h2 : T p < a
      · rw [if_pos ((nI_ltI (by omega) (by omega)).mpr h2)]; rfl
      · rw [if_neg (fun z => h2 ((nI_ltI (by omega) (by omega)).mp z)), if_pos ((nI_ltI (by omega) (by omega)).mpr (by omega))]; rfl
  · have e1 : (-1 : Int32) < nI a := Int32.lt_of_lt_of_le (by decide) (Int32.not_lt.mp (nI_pos (by omega)))
    rw [if_neg hp, if_pos e1, decide_eq_false (by rw [h.2.2.2 p (by omega)]; omega)]; rfl
def s_pak (T : Nat → Nat) (q : Nat) : Nat → Nat
  | 0 => 0
  | n + 1 => 256 * s_pak T q n + T (q + n)
theorem s_pak_lt {T : Nat → Nat} {q : Nat} (h : ∀ i, T i < 256) : ∀ n, s_pak T q n < 256 ^ n
  | 0 => Nat.one_pos
  | n + 1 => by
    have h1 := s_pak_lt (q := q) h n
    have h2 := h (q + n)
    rw [s_pak, Nat.pow_succ]; omega
theorem s_i2l : ∀ c, c < 256 → (nI c).toInt64 = lN c := by decide +kernel
theorem s_pak_w {x c : Nat} (hx : x < 2 ^ 56) (hc : c < 256) : lN x <<< ((8 : Int32).toInt64 &&& 63) ||| (nI c).toInt64 = lN (256 * x + c) := by
  rw [show (8 : Int32) = nI 8 from rfl, wb_shl x (by decide), s_i2l c hc, wb_or (by omega) (by omega)]
  congr 1
  have h := Nat.two_pow_add_eq_or_of_lt (i := 8) (b := c) hc x
  rw [Nat.mul_comm x, ← h]
def s_wd (T : Nat → Nat) (L q : Nat) : Int64 := if s_to s_isL T L q - q ≤ 8 then lN (s_pak T q (s_to s_isL T L q - q)) else 0
def s_mk (k : Nat) : Nat := [0, 2, 3, 4, 1].getD k 0
def s_PM (μ μ' : x_Me) (w' : Int64) (T : Nat → Nat) (L q : Nat) : Prop := μ' 152 11 = nI q ∧ μ' 152 12 = nI (s_mk (s_kq T L q)) ∧ (s_kq T L q ≠ 4 → μ' 152 9 = nI (s_eq T L q)) ∧ (s_kq T L q = 2 → μ' 152 13 = nI (s_vq T L q)) ∧ (s_kq T L q = 1 → w' = s_wd T L q) ∧ (∀ j, j ≠ 9 → j ≠ 11 → j ≠ 12 → j ≠ 13 → μ' 152 j = μ 152 j) ∧ ∀ a, a ≠ 152 → μ' a = μ a
section TOKENM
variable (sc : Nat × (Nat → Int32)) (d : Nat) (μ : x_Me) (w : Int64)
set_option maxHeartbeats 1000000 in
theorem tX12_see (T : Nat → Nat) (L : Nat) (hB : m_B μ T L) (p : Nat) (hp : p ≤ 600) (h9 : μ 152 9 = nI p) : x_K sc d mX12_see [.ref 152] μ w (x_p (some (.int (s_se T L p))) μ w) := by
  have hL := hB.2.1
  refine x_K.of (by decide) (Nat.le_of_ble_eq_true rfl) ?_
  show x_T sc d mX12_see 0 [.ref 152] [] μ w _
  refine xt_aload_n _ dX12_see_0 rfl ?_
  refine xt_geti dX12_see_1 kfX12_92 (by first | exact sh152 | rfl | assumption) rfl ?_
  refine xt_aload_n _ dX12_see_4 rfl ?_
  refine xt_geti dX12_see_5 kfX12_95 (by first | exact sh152 | rfl | assumption) rfl ?_
  rw [h9, hB.1]
  refine xt_icmp_ge 27 dX12_see_8 (by decide) (fun t8 => ?_) (fun f8 => ?_)
  · have n8 : L ≤ p := (nI_leI (a := L) (b := p) (by omega) (by omega)).mp t8
    refine xt_iconst (-1) dX12_see_27 (by decide) ?_
    exact xt_iret .int dX12_see_28 rfl (by first | rfl | assumption) ⟨by rw [s_se, if_neg (by omega)], rfl, rfl⟩
  · have n8 : ¬ (L ≤ p) := fun z => f8 ((nI_leI (a := L) (b := p) (by omega) (by omega)).mpr z)
    refine xt_aload_n _ dX12_see_11 rfl ?_
    refine xt_getr _ dX12_see_12 kfX12_7 (by first | exact sh152 | rfl | assumption) rfl ?_
    refine xt_aload_n _ dX12_see_15 rfl ?_
    refine xt_geti dX12_see_16 kfX12_92 (by first | exact sh152 | rfl | assumption) rfl ?_
    refine xt_bald dX12_see_19 (by first | exact sh152 | rfl | assumption) (by rw [h9]; exact vp_in_nI (by omega) (by decide)) ?_
    refine xt_sipush (255) dX12_see_20 (by decide) ?_
    refine xt_iand dX12_see_23 ?_
    refine xt_goto 28 dX12_see_24 (by decide) ?_
    exact xt_iret .int dX12_see_28 rfl (by first | rfl | assumption) ⟨by rw [s_se, if_pos (by omega), h9, nI_clamp (by omega), (hB.2.2.1 p (by omega)).1], rfl, rfl⟩
set_option maxHeartbeats 4000000 in
theorem tX12_token31 (T : Nat → Nat) (L : Nat) (hB : m_B μ T L) (q : Nat) (hq : q ≤ L) (h9 : μ 152 9 = nI q) : x_T sc (d + 1) mX12_token 31 [.ref 152, .retAddr 0, .retAddr 0] [] μ w (fun r μ' w' => r = none ∧ s_PM μ μ' w' T L q) := by
  have hL := hB.2.1
  have hB1 : m_B (x_u μ 152 (upd (μ 152) 11 (nI q))) T L := hB.cg rfl rfl
  obtain ⟨N, hN⟩ : ∃ N, s_to s_isL T L q = N := ⟨_, rfl⟩
  obtain ⟨b1, b2, b3, b4⟩ := s_to_ok s_isL (a := q) (by decide) hB.2.2.2 hq
  rw [hN] at b1 b2 b3 b4
  obtain ⟨N2, hND⟩ : ∃ N, s_to s_isD T L q = N := ⟨_, rfl⟩
  obtain ⟨c1, c2, c3, c4⟩ := s_to_ok s_isD (a := q) (by decide) hB.2.2.2 hq
  rw [hND] at c1 c2 c3 c4
  refine xt_aload_n _ dX12_token_31 rfl ?_
  refine xt_aload_n _ dX12_token_32 rfl ?_
  refine xt_geti dX12_token_33 kfX12_92 (by first | exact sh152 | rfl | assumption) rfl ?_
  rw [h9]
  refine xt_puti dX12_token_36 kpX12_102 (by first | exact sh152 | rfl | assumption) rfl (by first | rfl | assumption) (by first | rfl | assumption) ?_
  refine xt_aload_n _ dX12_token_39 rfl ?_
  refine xt_cV _ dX12_token_40 klX12_98 (tX12_see sc _ (x_u μ 152 (upd (μ 152) 11 (nI q))) _ T L hB1 q (by omega) (by rw [x_u_eq, pk_un (by decide)]; exact h9)) sh152 rfl rfl (Nat.le_of_ble_eq_true rfl) ?_
  refine xt_istore_n dX12_token_43 (by decide) rfl ?_
  change x_T _ _ _ _ [_, _, _] _ _ _ _
  refine xt_aload_n _ dX12_token_44 rfl ?_
  refine xt_lconst (0) dX12_token_45 (by decide) ?_
  refine xt_putl dX12_token_46 kpX12_105 ?_
  refine xt_iconst (0) dX12_token_49 (by decide) ?_
  refine xt_istore_n dX12_token_50 (by decide) rfl ?_
  change x_T _ _ _ _ [_, _, _] _ _ _ _
  refine xt_iload_n _ dX12_token_51 rfl ?_
  refine xt_if_ge 63 dX12_token_52 (by decide) (fun t52 => ?_) (fun f52 => ?_)
  · have hnL : ¬ L ≤ q := fun z => absurd t52 (by unfold s_se; rw [if_neg (by omega)]; decide)
    refine xt_iload_n _ dX12_token_63 rfl ?_
    refine xt_bipush (97) dX12_token_64 (by decide) ?_
    refine xt_bipush (122) dX12_token_66 (by decide) ?_
    refine xt_cS _ dX12_token_68 klX12_84 (tX12_in sc _ _ _ _ _ _) rfl rfl (Nat.le_of_ble_eq_true rfl) ?_
    rw [show (97 : Int32) = nI 97 from rfl, show (122 : Int32) = nI 122 from rfl, s_se_in hB1 (by decide) (by decide) (by decide)]
    refine xt_if_eq 147 dX12_token_71 (by decide) (fun t71 => ?_) (fun f71 => ?_)
    · have hl0 : s_isL (T q) = false := s_if0 t71
      refine xt_iload_n _ dX12_token_147 rfl ?_
      refine xt_bipush (48) dX12_token_148 (by decide) ?_
      refine xt_bipush (57) dX12_token_150 (by decide) ?_
      refine xt_cS _ dX12_token_152 klX12_84 (tX12_in sc _ _ _ _ _ _) rfl rfl (Nat.le_of_ble_eq_true rfl) ?_
      rw [show (48 : Int32) = nI 48 from rfl, show (57 : Int32) = nI 57 from rfl, s_se_in hB1 (by decide) (by decide) (by decide)]
      refine xt_if_eq 241 dX12_token_155 (by decide) (fun t155 => ?_) (fun f155 => ?_)
      · have hd0 : s_isD (T q) = false := s_if0 t155
        refine xt_aload_n _ dX12_token_241 rfl ?_
        refine xt_dup dX12_token_242 rfl ?_
        refine xt_geti dX12_token_243 kfX12_92 (by first | exact sh152 | rfl | assumption) rfl ?_
        refine xt_iconst (1) dX12_token_246 (by decide) ?_
        refine xt_iadd dX12_token_247 ?_
        refine xt_puti dX12_token_248 kpX12_92 (by first | exact sh152 | rfl | assumption) rfl (by first | rfl | assumption) (by first | rfl | assumption) ?_
        refine xt_aload_n _ dX12_token_251 rfl ?_
        refine xt_iload_n _ dX12_token_252 rfl ?_
        refine xt_bipush (59) dX12_token_253 (by decide) ?_
        refine xt_icmp_ne 262 dX12_token_255 (by decide) (fun t255 => ?_) (fun f255 => ?_)
        · have h59 : ¬ T q = 59 := fun z => t255 ((s_se_eq hB (by decide) (by decide)).mpr z)
          refine xt_iconst (1) dX12_token_262 (by decide) ?_
          refine xt_puti dX12_token_263 kpX12_109 (by first | exact sh152 | rfl | assumption) rfl (by first | rfl | assumption) (by first | rfl | assumption) ?_
          exact xt_ret dX12_token_266 rfl ⟨rfl, by rw [x_u_eq, pk_un (by decide), x_u_eq, pk_un (by decide), x_u_eq, pk_us], by rw [x_u_eq, pk_us, (s_k4 hnL h59 hl0 hd0)]; rfl, fun h => absurd (s_k4 hnL h59 hl0 hd0) h, fun h => by rw [(s_k4 hnL h59 hl0 hd0)] at h; exact absurd h (by decide), fun h => by rw [(s_k4 hnL h59 hl0 hd0)] at h; exact absurd h (by decide), fun j h1 h2 h3 h4 => by rw [x_u_eq, pk_un (by omega), x_u_eq, pk_un (by omega), x_u_eq, pk_un (by omega)], fun a h => by rw [x_u_ne h, x_u_ne h, x_u_ne h]⟩
        · have h59 : T q = 59 := (s_se_eq hB (by decide) (by decide)).mp f255
          refine xt_iconst (4) dX12_token_258 (by decide) ?_
          refine xt_goto 263 dX12_token_259 (by decide) ?_
          refine xt_puti dX12_token_263 kpX12_109 (by first | exact sh152 | rfl | assumption) rfl (by first | rfl | assumption) (by first | rfl | assumption) ?_
          exact xt_ret dX12_token_266 rfl ⟨rfl, by rw [x_u_eq, pk_un (by decide), x_u_eq, pk_un (by decide), x_u_eq, pk_us], by rw [x_u_eq, pk_us, (s_k3 hnL h59).1]; rfl, fun _ => by rw [x_u_eq, pk_un (by decide), x_u_eq, pk_us, x_u_eq, pk_un (by decide), h9, (s_k3 hnL h59).2, nI_succ q], fun h => by rw [(s_k3 hnL h59).1] at h; exact absurd h (by decide), fun h => by rw [(s_k3 hnL h59).1] at h; exact absurd h (by decide), fun j h1 h2 h3 h4 => by rw [x_u_eq, pk_un (by omega), x_u_eq, pk_un (by omega), x_u_eq, pk_un (by omega)], fun a h => by rw [x_u_ne h, x_u_ne h, x_u_ne h]⟩
      · have hd1 : s_isD (T q) = true := s_if1 f155
        refine xt_aload_n _ dX12_token_158 rfl ?_
        refine xt_iconst (0) dX12_token_159 (by decide) ?_
        refine xt_puti dX12_token_160 kpX12_112 (by first | exact sh152 | rfl | assumption) rfl (by first | rfl | assumption) (by first | rfl | assumption) ?_
        have L163 : ∀ (n163 m : Nat) (μ2 : x_Me) (w2 : Int64) (h9 : μ2 152 9 = nI m) (h13 : m - q ≤ 2 → μ2 152 13 = nI (s_vd T q (m - q))) (hj : ∀ j, j ≠ 9 → j ≠ 13 → μ2 152 j = (x_u μ 152 (upd (μ 152) 11 (nI q))) 152 j) (hf : ∀ a, a ≠ 152 → μ2 a = (x_u μ 152 (upd (μ 152) 11 (nI q))) a) (hqm : q ≤ m), m + n163 = N2 → x_T sc (d + 1) mX12_token 163 [.ref 152, .int (s_se T L q), .int (nI (m - q))] [] μ2 w2 (fun r μ' w' => r = none ∧ s_PM μ μ' w' T L q) := by
          intro n163
          induction n163 with
          | zero =>
            intro m μ2 w2 h9 h13 hj hf hqm hmn
            obtain rfl : m = N2 := by omega
            have hB2 : m_B μ2 T L := hB1.cg (hj 10 (by decide) (by decide)) (hf 153 (by decide))
            refine xt_aload_n _ dX12_token_163 rfl ?_
            refine xt_cV _ dX12_token_164 klX12_98 (tX12_see sc _ μ2 _ T L hB2 m (by omega) h9) sh152 rfl rfl (Nat.le_of_ble_eq_true rfl) ?_
            refine xt_bipush (48) dX12_token_167 (by decide) ?_
            refine xt_bipush (57) dX12_token_169 (by decide) ?_
            refine xt_cS _ dX12_token_171 klX12_84 (tX12_in sc _ _ _ _ _ _) rfl rfl (Nat.le_of_ble_eq_true rfl) ?_
            rw [show (48 : Int32) = nI 48 from rfl, show (57 : Int32) = nI 57 from rfl, s_se_in hB2 (by decide) (by decide) (by decide)]
            refine xt_if_eq 224 dX12_token_174 (by decide) (fun _ => ?_) (fun q => absurd (by rw [show decide (48 ≤ T m ∧ T m ≤ 57) = false from c4]; rfl) q)
            refine xt_aload_n _ dX12_token_224 rfl ?_
            refine xt_iload_n _ dX12_token_225 rfl ?_
            refine xt_iconst (2) dX12_token_226 (by decide) ?_
            refine xt_icmp_le 234 dX12_token_227 (by decide) (fun t227 => ?_) (fun f227 => ?_)
            · have n227 : m - q ≤ 2 := (nI_leI (a := m - q) (b := 2) (by omega) (by omega)).mp t227
              refine xt_iconst (3) dX12_token_234 (by decide) ?_
              refine xt_puti dX12_token_235 kpX12_109 (by first | exact sh152 | rfl | assumption) rfl (by first | rfl | assumption) (by first | rfl | assumption) ?_
              refine xt_goto 266 dX12_token_238 (by decide) ?_
              exact xt_ret dX12_token_266 rfl ⟨rfl, by rw [x_u_eq, pk_un (by decide), hj 11 (by decide) (by decide), x_u_eq, pk_us], by rw [x_u_eq, pk_us, (s_k2 hnL hd1).1, hND, if_pos (by omega)]; rfl, fun _ => by rw [x_u_eq, pk_un (by decide), h9, (s_k2 hnL hd1).2, hND], fun h => by rw [(s_k2 hnL hd1).1, hND, if_pos (by omega)] at h; rw [x_u_eq, pk_un (by decide), s_vq, hND]; exact h13 (by omega), fun h => by rw [(s_k2 hnL hd1).1, hND, if_pos (by omega)] at h; exact absurd h (by decide), fun j h1 h2 h3 h4 => by rw [x_u_eq, pk_un h3, hj j h1 h4, x_u_eq, pk_un h2], fun a h => by rw [x_u_ne h, hf a h, x_u_ne h]⟩
            · have n227 : ¬ (m - q ≤ 2) := fun z => f227 ((nI_leI (a := m - q) (b := 2) (by omega) (by omega)).mpr z)
              refine xt_iconst (1) dX12_token_230 (by decide) ?_
              refine xt_goto 235 dX12_token_231 (by decide) ?_
              refine xt_puti dX12_token_235 kpX12_109 (by first | exact sh152 | rfl | assumption) rfl (by first | rfl | assumption) (by first | rfl | assumption) ?_
              refine xt_goto 266 dX12_token_238 (by decide) ?_
              exact xt_ret dX12_token_266 rfl ⟨rfl, by rw [x_u_eq, pk_un (by decide), hj 11 (by decide) (by decide), x_u_eq, pk_us], by rw [x_u_eq, pk_us, (s_k2 hnL hd1).1, hND, if_neg (by omega)]; rfl, fun _ => by rw [x_u_eq, pk_un (by decide), h9, (s_k2 hnL hd1).2, hND], fun h => by rw [(s_k2 hnL hd1).1, hND, if_neg (by omega)] at h; exact absurd h (by decide), fun h => by rw [(s_k2 hnL hd1).1, hND, if_neg (by omega)] at h; exact absurd h (by decide), fun j h1 h2 h3 h4 => by rw [x_u_eq, pk_un h3, hj j h1 h4, x_u_eq, pk_un h2], fun a h => by rw [x_u_ne h, hf a h, x_u_ne h]⟩
          | succ n163 ih163 =>
            intro m μ2 w2 h9 h13 hj hf hqm hmn
            have hlt : m < N2 := by omega
            have hB2 : m_B μ2 T L := hB1.cg (hj 10 (by decide) (by decide)) (hf 153 (by decide))
            have hdm := c3 m hqm hlt
            refine xt_aload_n _ dX12_token_163 rfl ?_
            refine xt_cV _ dX12_token_164 klX12_98 (tX12_see sc _ μ2 _ T L hB2 m (by omega) h9) sh152 rfl rfl (Nat.le_of_ble_eq_true rfl) ?_
            refine xt_bipush (48) dX12_token_167 (by decide) ?_
            refine xt_bipush (57) dX12_token_169 (by decide) ?_
            refine xt_cS _ dX12_token_171 klX12_84 (tX12_in sc _ _ _ _ _ _) rfl rfl (Nat.le_of_ble_eq_true rfl) ?_
            rw [show (48 : Int32) = nI 48 from rfl, show (57 : Int32) = nI 57 from rfl, s_se_in hB2 (by decide) (by decide) (by decide)]
            refine xt_if_eq 224 dX12_token_174 (by decide) (fun q => absurd q (by rw [show decide (48 ≤ T m ∧ T m ≤ 57) = true from hdm]; decide)) (fun _ => ?_)
            refine xt_aload_n _ dX12_token_177 rfl ?_
            refine xt_iload_n _ dX12_token_178 rfl ?_
            refine xt_iconst (2) dX12_token_179 (by decide) ?_
            refine xt_icmp_ge 201 dX12_token_180 (by decide) (fun t180 => ?_) (fun f180 => ?_)
            · have n180 : 2 ≤ m - q := (nI_leI (a := 2) (b := m - q) (by omega) (by omega)).mp t180
              refine xt_aload_n _ dX12_token_201 rfl ?_
              refine xt_geti dX12_token_202 kfX12_112 (by first | exact sh152 | rfl | assumption) rfl ?_
              refine xt_puti dX12_token_205 kpX12_112 (by first | exact sh152 | rfl | assumption) rfl (by first | rfl | assumption) (by first | rfl | assumption) ?_
              refine xt_aload_n _ dX12_token_208 rfl ?_
              refine xt_dup dX12_token_209 rfl ?_
              refine xt_geti dX12_token_210 kfX12_92 (by first | exact sh152 | rfl | assumption) rfl ?_
              refine xt_iconst (1) dX12_token_213 (by decide) ?_
              refine xt_iadd dX12_token_214 ?_
              refine xt_puti dX12_token_215 kpX12_92 (by first | exact sh152 | rfl | assumption) rfl (by first | rfl | assumption) (by first | rfl | assumption) ?_
              refine xt_inc _ (1) dX12_token_218 rfl (by decide) (by decide) rfl ?_
              change x_T _ _ _ _ [_, _, _] _ _ _ _
              refine xt_goto 163 dX12_token_221 (by decide) ?_
              have hdg := of_decide_eq_true hdm
              refine x_T.ls ?_ (ih163 (m + 1) _ w2 ?_ (fun h2 => ?_) (fun j h1 h2 => ?_) (fun a h => ?_) (by omega) (by omega))
              · rw [show m + 1 - q = m - q + 1 by omega, nI_succ (m - q)]
              · rw [x_u_eq, pk_us, x_u_eq, pk_un (by decide), h9, nI_succ m]
              · exact absurd h2 (by omega)
              · rw [x_u_eq, pk_un h1, x_u_eq, pk_un h2]; exact hj j h1 h2
              · rw [x_u_ne h, x_u_ne h]; exact hf a h
            · have n180 : ¬ (2 ≤ m - q) := fun z => f180 ((nI_leI (a := 2) (b := m - q) (by omega) (by omega)).mpr z)
              refine xt_bipush (10) dX12_token_183 (by decide) ?_
              refine xt_aload_n _ dX12_token_185 rfl ?_
              refine xt_geti dX12_token_186 kfX12_112 (by first | exact sh152 | rfl | assumption) rfl ?_
              refine xt_imul dX12_token_189 ?_
              refine xt_aload_n _ dX12_token_190 rfl ?_
              refine xt_cV _ dX12_token_191 klX12_98 (tX12_see sc _ μ2 _ T L hB2 m (by omega) h9) sh152 rfl rfl (Nat.le_of_ble_eq_true rfl) ?_
              rw [show s_se T L m = nI (T m) from by rw [s_se, if_pos (by omega)]]
              refine xt_iadd dX12_token_194 ?_
              refine xt_bipush (48) dX12_token_195 (by decide) ?_
              refine xt_isub dX12_token_197 ?_
              refine xt_goto 205 dX12_token_198 (by decide) ?_
              refine xt_puti dX12_token_205 kpX12_112 (by first | exact sh152 | rfl | assumption) rfl (by first | rfl | assumption) (by first | rfl | assumption) ?_
              refine xt_aload_n _ dX12_token_208 rfl ?_
              refine xt_dup dX12_token_209 rfl ?_
              refine xt_geti dX12_token_210 kfX12_92 (by first | exact sh152 | rfl | assumption) rfl ?_
              refine xt_iconst (1) dX12_token_213 (by decide) ?_
              refine xt_iadd dX12_token_214 ?_
              refine xt_puti dX12_token_215 kpX12_92 (by first | exact sh152 | rfl | assumption) rfl (by first | rfl | assumption) (by first | rfl | assumption) ?_
              refine xt_inc _ (1) dX12_token_218 rfl (by decide) (by decide) rfl ?_
              change x_T _ _ _ _ [_, _, _] _ _ _ _
              refine xt_goto 163 dX12_token_221 (by decide) ?_
              have hdg := of_decide_eq_true hdm
              refine x_T.ls ?_ (ih163 (m + 1) _ w2 ?_ (fun h2 => ?_) (fun j h1 h2 => ?_) (fun a h => ?_) (by omega) (by omega))
              · rw [show m + 1 - q = m - q + 1 by omega, nI_succ (m - q)]
              · rw [x_u_eq, pk_us, x_u_eq, pk_un (by decide), h9, nI_succ m]
              · rw [x_u_eq, pk_un (by decide), x_u_eq, pk_us, h13 (by omega), show m + 1 - q = (m - q) + 1 by omega, s_vd, show q + (m - q) = m by omega]
                rw [show (10 : Int32) = nI 10 from rfl, pk_mul, nI_add, show (48 : Int32) = nI 48 from rfl, pk_sub (by omega)]
                congr 1
                omega
              · rw [x_u_eq, pk_un h1, x_u_eq, pk_un h2]; exact hj j h1 h2
              · rw [x_u_ne h, x_u_ne h]; exact hf a h
        exact x_T.ls (by rw [Nat.sub_self]; rfl) (L163 (N2 - q) q _ 0 (by rw [x_u_eq, pk_un (by decide), x_u_eq, pk_un (by decide)]; exact h9) (fun _ => by rw [x_u_eq, pk_us, Nat.sub_self]; rfl) (fun j h1 h2 => by rw [x_u_eq, pk_un h2]) (fun a h => by rw [x_u_ne h]) (Nat.le_refl _) (by omega))
    · have L74 : ∀ (n74 m : Nat) (μ2 : x_Me) (w2 : Int64) (h9 : μ2 152 9 = nI m) (hw2 : m - q ≤ 8 → w2 = lN (s_pak T q (m - q))) (hj : ∀ j, j ≠ 9 → μ2 152 j = (x_u μ 152 (upd (μ 152) 11 (nI q))) 152 j) (hf : ∀ a, a ≠ 152 → μ2 a = (x_u μ 152 (upd (μ 152) 11 (nI q))) a) (hqm : q ≤ m), m + n74 = N → x_T sc (d + 1) mX12_token 74 [.ref 152, .int (s_se T L q), .int (nI (m - q))] [] μ2 w2 (fun r μ' w' => r = none ∧ s_PM μ μ' w' T L q) := by
        intro n74
        induction n74 with
        | zero =>
          intro m μ2 w2 h9 hw2 hj hf hqm hmn
          obtain rfl : m = N := by omega
          have hl1 : s_isL (T q) = true := s_if1 f71
          have hB2 : m_B μ2 T L := hB1.cg (hj 10 (by decide)) (hf 153 (by decide))
          refine xt_aload_n _ dX12_token_74 rfl ?_
          refine xt_cV _ dX12_token_75 klX12_98 (tX12_see sc _ μ2 _ T L hB2 m (by omega) h9) sh152 rfl rfl (Nat.le_of_ble_eq_true rfl) ?_
          refine xt_bipush (97) dX12_token_78 (by decide) ?_
          refine xt_bipush (122) dX12_token_80 (by decide) ?_
          refine xt_cS _ dX12_token_82 klX12_84 (tX12_in sc _ _ _ _ _ _) rfl rfl (Nat.le_of_ble_eq_true rfl) ?_
          rw [show (97 : Int32) = nI 97 from rfl, show (122 : Int32) = nI 122 from rfl, s_se_in hB2 (by decide) (by decide) (by decide)]
          refine xt_if_eq 121 dX12_token_85 (by decide) (fun _ => ?_) (fun q => absurd (by rw [show decide (97 ≤ T m ∧ T m ≤ 122) = false from b4]; rfl) q)
          refine xt_aload_n _ dX12_token_121 rfl ?_
          refine xt_iload_n _ dX12_token_122 rfl ?_
          refine xt_bipush (8) dX12_token_123 (by decide) ?_
          refine xt_icmp_le 132 dX12_token_125 (by decide) (fun t125 => ?_) (fun f125 => ?_)
          · have n125 : m - q ≤ 8 := (nI_leI (a := m - q) (b := 8) (by omega) (by omega)).mp t125
            refine xt_aload_n _ dX12_token_132 rfl ?_
            refine xt_getl dX12_token_133 kfX12_105 (by first | exact sh152 | rfl | assumption) rfl ?_
            refine xt_putl dX12_token_136 kpX12_105 ?_
            refine xt_aload_n _ dX12_token_139 rfl ?_
            refine xt_iconst (2) dX12_token_140 (by decide) ?_
            refine xt_puti dX12_token_141 kpX12_109 (by first | exact sh152 | rfl | assumption) rfl (by first | rfl | assumption) (by first | rfl | assumption) ?_
            refine xt_goto 266 dX12_token_144 (by decide) ?_
            exact xt_ret dX12_token_266 rfl ⟨rfl, by rw [x_u_eq, pk_un (by decide), hj 11 (by decide), x_u_eq, pk_us], by rw [x_u_eq, pk_us, (s_k1 hnL hl1).1]; rfl, fun _ => by rw [x_u_eq, pk_un (by decide), h9, (s_k1 hnL hl1).2, hN], fun h => by rw [(s_k1 hnL hl1).1] at h; exact absurd h (by decide), fun _ => by rw [s_wd, hN, if_pos (by omega)]; exact hw2 (by omega), fun j h1 h2 h3 h4 => by rw [x_u_eq, pk_un h3, hj j h1, x_u_eq, pk_un h2], fun a h => by rw [x_u_ne h, hf a h, x_u_ne h]⟩
          · have n125 : ¬ (m - q ≤ 8) := fun z => f125 ((nI_leI (a := m - q) (b := 8) (by omega) (by omega)).mpr z)
            refine xt_lconst (0) dX12_token_128 (by decide) ?_
            refine xt_goto 136 dX12_token_129 (by decide) ?_
            refine xt_putl dX12_token_136 kpX12_105 ?_
            refine xt_aload_n _ dX12_token_139 rfl ?_
            refine xt_iconst (2) dX12_token_140 (by decide) ?_
            refine xt_puti dX12_token_141 kpX12_109 (by first | exact sh152 | rfl | assumption) rfl (by first | rfl | assumption) (by first | rfl | assumption) ?_
            refine xt_goto 266 dX12_token_144 (by decide) ?_
            exact xt_ret dX12_token_266 rfl ⟨rfl, by rw [x_u_eq, pk_un (by decide), hj 11 (by decide), x_u_eq, pk_us], by rw [x_u_eq, pk_us, (s_k1 hnL hl1).1]; rfl, fun _ => by rw [x_u_eq, pk_un (by decide), h9, (s_k1 hnL hl1).2, hN], fun h => by rw [(s_k1 hnL hl1).1] at h; exact absurd h (by decide), fun _ => by rw [s_wd, hN, if_neg (by omega)], fun j h1 h2 h3 h4 => by rw [x_u_eq, pk_un h3, hj j h1, x_u_eq, pk_un h2], fun a h => by rw [x_u_ne h, hf a h, x_u_ne h]⟩
        | succ n74 ih74 =>
          intro m μ2 w2 h9 hw2 hj hf hqm hmn
          have hlt : m < N := by omega
          have hB2 : m_B μ2 T L := hB1.cg (hj 10 (by decide)) (hf 153 (by decide))
          have hdm := b3 m hqm hlt
          refine xt_aload_n _ dX12_token_74 rfl ?_
          refine xt_cV _ dX12_token_75 klX12_98 (tX12_see sc _ μ2 _ T L hB2 m (by omega) h9) sh152 rfl rfl (Nat.le_of_ble_eq_true rfl) ?_
          refine xt_bipush (97) dX12_token_78 (by decide) ?_
          refine xt_bipush (122) dX12_token_80 (by decide) ?_
          refine xt_cS _ dX12_token_82 klX12_84 (tX12_in sc _ _ _ _ _ _) rfl rfl (Nat.le_of_ble_eq_true rfl) ?_
          rw [show (97 : Int32) = nI 97 from rfl, show (122 : Int32) = nI 122 from rfl, s_se_in hB2 (by decide) (by decide) (by decide)]
          refine xt_if_eq 121 dX12_token_85 (by decide) (fun q => absurd q (by rw [show decide (97 ≤ T m ∧ T m ≤ 122) = true from hdm]; decide)) (fun _ => ?_)
          refine xt_aload_n _ dX12_token_88 rfl ?_
          refine xt_aload_n _ dX12_token_89 rfl ?_
          refine xt_getl dX12_token_90 kfX12_105 (by first | exact sh152 | rfl | assumption) rfl ?_
          refine xt_bipush (8) dX12_token_93 (by decide) ?_
          refine xt_lshl dX12_token_95 ?_
          refine xt_aload_n _ dX12_token_96 rfl ?_
          refine xt_cV _ dX12_token_97 klX12_98 (tX12_see sc _ μ2 _ T L hB2 m (by omega) h9) sh152 rfl rfl (Nat.le_of_ble_eq_true rfl) ?_
          refine xt_i2l dX12_token_100 ?_
          refine xt_lor dX12_token_101 ?_
          rw [show s_se T L m = nI (T m) from by rw [s_se, if_pos (by omega)]]
          refine xt_putl dX12_token_102 kpX12_105 ?_
          refine xt_aload_n _ dX12_token_105 rfl ?_
          refine xt_dup dX12_token_106 rfl ?_
          refine xt_geti dX12_token_107 kfX12_92 (by first | exact sh152 | rfl | assumption) rfl ?_
          refine xt_iconst (1) dX12_token_110 (by decide) ?_
          refine xt_iadd dX12_token_111 ?_
          refine xt_puti dX12_token_112 kpX12_92 (by first | exact sh152 | rfl | assumption) rfl (by first | rfl | assumption) (by first | rfl | assumption) ?_
          refine xt_inc _ (1) dX12_token_115 rfl (by decide) (by decide) rfl ?_
          change x_T _ _ _ _ [_, _, _] _ _ _ _
          refine xt_goto 74 dX12_token_118 (by decide) ?_
          refine x_T.ls ?_ (ih74 (m + 1) _ _ (by rw [x_u_eq, pk_us, h9, nI_succ m]) (fun h => ?_) (fun j h => by rw [x_u_eq, pk_un h]; exact hj j h) (fun a h => by rw [x_u_ne h]; exact hf a h) (by omega) (by omega))
          · rw [show m + 1 - q = m - q + 1 by omega, nI_succ (m - q)]
          · rw [show m + 1 - q = m - q + 1 by omega, s_pak, show q + (m - q) = m by omega, hw2 (by omega)]
            have hlt56 := s_pak_lt (q := q) hB.lt (m - q)
            have h256 : 256 ^ (m - q) ≤ 256 ^ 7 := Nat.pow_le_pow_right (by decide) (by omega)
            exact s_pak_w (Nat.lt_of_lt_of_le hlt56 h256) (hB.lt m)
      exact x_T.ls (by rw [Nat.sub_self]; rfl) (L74 (N - q) q _ 0 (by rw [x_u_eq, pk_un (by decide)]; exact h9) (fun _ => by rw [Nat.sub_self]; rfl) (fun _ _ => rfl) (fun _ _ => rfl) (Nat.le_refl _) (by omega))
  · have hge : L ≤ q := Classical.byContradiction (fun z => f52 (by rw [s_se, if_pos (by omega)]; exact Int32.not_lt.mp (nI_pos (by have := hB.lt q; omega))))
    refine xt_aload_n _ dX12_token_55 rfl ?_
    refine xt_iconst (0) dX12_token_56 (by decide) ?_
    refine xt_puti dX12_token_57 kpX12_109 (by first | exact sh152 | rfl | assumption) rfl (by first | rfl | assumption) (by first | rfl | assumption) ?_
    refine xt_goto 266 dX12_token_60 (by decide) ?_
    exact xt_ret dX12_token_266 rfl ⟨rfl, by rw [x_u_eq, pk_un (by decide), x_u_eq, pk_us], by rw [x_u_eq, pk_us, (s_k0 (T := T) (L := L) (q := q) (by omega)).1]; rfl, fun _ => by rw [x_u_eq, pk_un (by decide), x_u_eq, pk_un (by decide), (s_k0 (T := T) (L := L) (q := q) (by omega)).2]; exact h9, fun h => by rw [(s_k0 (T := T) (L := L) (q := q) (by omega)).1] at h; exact absurd h (by decide), fun h => by rw [(s_k0 (T := T) (L := L) (q := q) (by omega)).1] at h; exact absurd h (by decide), fun j h1 h2 h3 h4 => by rw [x_u_eq, pk_un (by omega), x_u_eq, pk_un (by omega)], fun a h => by rw [x_u_ne h, x_u_ne h]⟩
set_option maxHeartbeats 2000000 in
theorem tX12_token (T : Nat → Nat) (L : Nat) (hB : m_B μ T L) (p : Nat) (hp : p ≤ L) (h9 : μ 152 9 = nI p) : x_K sc (d + 1) mX12_token [.ref 152] μ w (fun r μ' w' => r = none ∧ s_PM μ μ' w' T L (s_sp T L p)) := by
  have hL := hB.2.1
  obtain ⟨N, hN⟩ : ∃ N, s_to s_isB T L p = N := ⟨_, rfl⟩
  obtain ⟨b1, b2, b3, b4⟩ := s_to_ok s_isB (a := p) (by decide) hB.2.2.2 hp
  rw [hN] at b1 b2 b3 b4
  refine x_K.of (by decide) (Nat.le_of_ble_eq_true rfl) ?_
  show x_T sc (d + 1) mX12_token 0 [.ref 152, .retAddr 0, .retAddr 0] [] μ w _
  have L0 : ∀ (n0 m : Nat) (μ2 : x_Me) (h9 : μ2 152 9 = nI m) (hj : ∀ j, j ≠ 9 → μ2 152 j = μ 152 j) (hf : ∀ a, a ≠ 152 → μ2 a = μ a) (hqm : p ≤ m), m + n0 = N → x_T sc (d + 1) mX12_token 0 [.ref 152, .retAddr 0, .retAddr 0] [] μ2 w (fun r μ' w' => r = none ∧ s_PM μ μ' w' T L (s_sp T L p)) := by
    intro n0
    induction n0 with
    | zero =>
      intro m μ2 h9 hj hf hqm hmn
      obtain rfl : m = N := by omega
      have hB2 : m_B μ2 T L := hB.cg (hj 10 (by decide)) (hf 153 (by decide))
      refine xt_aload_n _ dX12_token_0 rfl ?_
      refine xt_cV _ dX12_token_1 klX12_98 (tX12_see sc _ μ2 _ T L hB2 m (by omega) h9) sh152 rfl rfl (Nat.le_of_ble_eq_true rfl) ?_
      refine xt_bipush (10) dX12_token_4 (by decide) ?_
      refine xt_icmp_eq 18 dX12_token_6 (by decide) (fun q => absurd q (fun z => absurd (.inl ((s_se_eq hB2 (c := 10) (by decide) (by decide)).mp z)) (of_decide_eq_false b4))) (fun _ => ?_)
      refine xt_aload_n _ dX12_token_9 rfl ?_
      refine xt_cV _ dX12_token_10 klX12_98 (tX12_see sc _ μ2 _ T L hB2 m (by omega) h9) sh152 rfl rfl (Nat.le_of_ble_eq_true rfl) ?_
      refine xt_bipush (32) dX12_token_13 (by decide) ?_
      refine xt_icmp_ne 31 dX12_token_15 (by decide) (fun _ => ?_) (fun q => absurd q (fun z => absurd (.inr ((s_se_eq hB2 (c := 32) (by decide) (by decide)).mp z)) (of_decide_eq_false b4)))
      refine (tX12_token31 sc d μ2 w T L hB2 m b2 h9).mono (fun r μ3 w3 q3 => ⟨q3.1, by
        rw [show s_sp T L p = m from hN]
        exact ⟨q3.2.1, q3.2.2.1, q3.2.2.2.1, q3.2.2.2.2.1, q3.2.2.2.2.2.1, fun j h1 h2 h3 h4 => (q3.2.2.2.2.2.2.1 j h1 h2 h3 h4).trans (hj j h1), fun a h => (q3.2.2.2.2.2.2.2 a h).trans (hf a h)⟩⟩)
    | succ n0 ih0 =>
      intro m μ2 h9 hj hf hqm hmn
      have hlt : m < N := by omega
      have hB2 : m_B μ2 T L := hB.cg (hj 10 (by decide)) (hf 153 (by decide))
      have hdm := b3 m hqm hlt
      refine xt_aload_n _ dX12_token_0 rfl ?_
      refine xt_cV _ dX12_token_1 klX12_98 (tX12_see sc _ μ2 _ T L hB2 m (by omega) h9) sh152 rfl rfl (Nat.le_of_ble_eq_true rfl) ?_
      refine xt_bipush (10) dX12_token_4 (by decide) ?_
      refine xt_icmp_eq 18 dX12_token_6 (by decide) (fun t6 => ?_) (fun f6 => ?_)
      · refine xt_aload_n _ dX12_token_18 rfl ?_
        refine xt_dup dX12_token_19 rfl ?_
        refine xt_geti dX12_token_20 kfX12_92 (by first | exact sh152 | rfl | assumption) rfl ?_
        refine xt_iconst (1) dX12_token_23 (by decide) ?_
        refine xt_iadd dX12_token_24 ?_
        refine xt_puti dX12_token_25 kpX12_92 (by first | exact sh152 | rfl | assumption) rfl (by first | rfl | assumption) (by first | rfl | assumption) ?_
        refine xt_goto 0 dX12_token_28 (by decide) ?_
        exact ih0 (m + 1) _ (by rw [x_u_eq, pk_us, h9, nI_succ m]) (fun j h => by rw [x_u_eq, pk_un h]; exact hj j h) (fun a h => by rw [x_u_ne h]; exact hf a h) (by omega) (by omega)
      · refine xt_aload_n _ dX12_token_9 rfl ?_
        refine xt_cV _ dX12_token_10 klX12_98 (tX12_see sc _ μ2 _ T L hB2 m (by omega) h9) sh152 rfl rfl (Nat.le_of_ble_eq_true rfl) ?_
        refine xt_bipush (32) dX12_token_13 (by decide) ?_
        refine xt_icmp_ne 31 dX12_token_15 (by decide) (fun q => absurd ((s_se_eq hB2 (c := 32) (by decide) (by decide)).mpr ((of_decide_eq_true hdm).resolve_left (fun z => f6 ((s_se_eq hB2 (c := 10) (by decide) (by decide)).mpr z)))) q) (fun _ => ?_)
        refine xt_aload_n _ dX12_token_18 rfl ?_
        refine xt_dup dX12_token_19 rfl ?_
        refine xt_geti dX12_token_20 kfX12_92 (by first | exact sh152 | rfl | assumption) rfl ?_
        refine xt_iconst (1) dX12_token_23 (by decide) ?_
        refine xt_iadd dX12_token_24 ?_
        refine xt_puti dX12_token_25 kpX12_92 (by first | exact sh152 | rfl | assumption) rfl (by first | rfl | assumption) (by first | rfl | assumption) ?_
        refine xt_goto 0 dX12_token_28 (by decide) ?_
        exact ih0 (m + 1) _ (by rw [x_u_eq, pk_us, h9, nI_succ m]) (fun j h => by rw [x_u_eq, pk_un h]; exact hj j h) (fun a h => by rw [x_u_ne h]; exact hf a h) (by omega) (by omega)
  exact L0 (N - p) p μ h9 (fun _ _ => rfl) (fun _ _ => rfl) (Nat.le_refl _) (by omega)
end TOKENM
