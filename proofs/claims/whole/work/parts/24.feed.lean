/-! the step of feed -/
/-- the shifts of the four bytes -/
def s_sh : Nat → Int32
  | 0 => 24
  | j + 1 => s_sh j + (-8)
/-- a byte of a number -/
def s_by4 (v : Int32) (j : Nat) : Int32 := vp_nar .byte (v >>> (s_sh j &&& 31)).toInt8.toInt32
def s_app (t : Nat → Int32) (n : Nat) (v : Int32) : Nat → Nat → Int32
  | 0 => t
  | j + 1 => upd (s_app t n v j) (n + j) (s_by4 v j)
theorem s_sh_pos : ∀ j, j < 4 → ¬ s_sh j < 0 := by decide +kernel
theorem s_app_fit {t : Nat → Int32} {n : Nat} {v : Int32} (h : ∀ i, i < 600 → fits .byte (.int (t i)) = true) : ∀ j i, i < 600 → fits .byte (.int (s_app t n v j i)) = true
  | 0, i, hi => h i hi
  | j + 1, i, hi => by
    rw [s_app]
    by_cases he : i = n + j
    · subst he
      have : s_by4 v j = (v >>> (s_sh j &&& 31)).toInt8.toInt32 := pk_vb _
      simp only [upd, if_true, this]
      exact pk_fb _
    · simp only [upd, he, if_false]
      exact s_app_fit h j i hi
theorem s_app_lo {t : Nat → Int32} {n : Nat} {v : Int32} {i : Nat} (hi : i < n) : ∀ j, s_app t n v j i = t i
  | 0 => rfl
  | j + 1 => by rw [s_app]; simp only [upd, show i ≠ n + j by omega, if_false]; exact s_app_lo hi j
theorem s_app_hi {t : Nat → Int32} {n : Nat} {v : Int32} {i j : Nat} (hi : n + j ≤ i) : s_app t n v j i = t i := by
  induction j with
  | zero => rfl
  | succ j ih => rw [s_app]; simp only [upd, show i ≠ n + j by omega, if_false]; exact ih (by omega)
theorem s_app_cg {t t' : Nat → Int32} {n : Nat} {v : Int32} {i : Nat} : ∀ {j : Nat}, i < n + j → (i < n → t i = t' i) → s_app t n v j i = s_app t' n v j i
  | 0, h1, h2 => h2 (by omega)
  | j + 1, h1, h2 => by
    rw [s_app, s_app]
    by_cases he : i = n + j
    · simp [upd, he]
    · simp only [upd, he, if_false]
      exact s_app_cg (by omega) h2
/-- the tape has grown by the four bytes of v -/
def i_putC (μ μ' : x_Me) (n : Nat) (v : Int32) (j : Nat) : Prop := μ' 1 1 = nI (n + j) ∧ (∀ i, i ≠ 1 → μ' 1 i = μ 1 i) ∧ μ' 2 = s_app (μ 2) n v j ∧ ∀ a, a ≠ 1 → a ≠ 2 → μ' a = μ a
def i_putM (μ μ' : x_Me) (n : Nat) (v : Int32) (j : Nat) : Prop := μ' 154 0 = nI (n + j) ∧ (∀ i, i ≠ 0 → μ' 154 i = μ 154 i) ∧ μ' 153 = s_app (μ 153) n v j ∧ ∀ a, a ≠ 153 → a ≠ 154 → μ' a = μ a
section FEED
variable (sc : Nat × (Nat → Int32)) (d : Nat) (μ : x_Me) (w : Int64)
set_option maxHeartbeats 1000000 in
theorem tX9_put (n : Nat) (v : Int32) (hn : n + 4 ≤ 600) (e : μ 1 1 = nI n) : x_K sc d mX9_put [.ref 1, .int v] μ w (fun r μ' w' => r = none ∧ w' = w ∧ i_putC μ μ' n v 4) := by
  have L3 : ∀ (r j : Nat) (μ1 : x_Me), j + r = 4 → i_putC μ μ1 n v j → x_T sc d mX9_put 3 [.ref 1, .int v, .int (s_sh j)] [] μ1 w (fun r μ' w' => r = none ∧ w' = w ∧ i_putC μ μ' n v 4) := by
    intro r
    induction r with
    | zero =>
      intro j μ1 hj hJ
      obtain rfl : j = 4 := by omega
      refine xt_iload_n _ dX9_put_3 rfl ?_
      refine xt_if_lt 53 dX9_put_4 (by decide) (fun _ => ?_) (fun q => absurd (by decide) q)
      exact xt_ret dX9_put_53 rfl ⟨rfl, rfl, hJ⟩
    | succ r ih =>
      intro j μ1 hj hJ
      obtain ⟨hl, ho, ht, hfr⟩ := hJ
      refine xt_iload_n _ dX9_put_3 rfl ?_
      refine xt_if_lt 53 dX9_put_4 (by decide) (fun q => absurd q (s_sh_pos j (by omega))) (fun _ => ?_)
      refine xt_aload_n _ dX9_put_7 rfl ?_
      refine xt_geti dX9_put_8 kfX9_50 (by first | exact sh1 | rfl) rfl ?_
      refine xt_if_lt 47 dX9_put_11 (by decide) (fun q => absurd q (by rw [hl]; exact nI_pos (by omega))) (fun _ => ?_)
      refine xt_aload_n _ dX9_put_14 rfl ?_
      refine xt_geti dX9_put_15 kfX9_50 (by first | exact sh1 | rfl) rfl ?_
      refine xt_sipush (600) dX9_put_18 (by decide) ?_
      refine xt_icmp_ge 47 dX9_put_21 (by decide) (fun q => absurd q (by rw [hl]; exact nI_ge (b := 600) (by omega) (by decide))) (fun _ => ?_)
      refine xt_aload_n _ dX9_put_24 rfl ?_
      refine xt_getr _ dX9_put_25 kfX9_9 (by first | exact sh1 | rfl) rfl ?_
      refine xt_aload_n _ dX9_put_28 rfl ?_
      refine xt_geti dX9_put_29 kfX9_50 (by first | exact sh1 | rfl) rfl ?_
      refine xt_iload_n _ dX9_put_32 rfl ?_
      refine xt_iload_n _ dX9_put_33 rfl ?_
      refine xt_ishr dX9_put_34 ?_
      refine xt_i2b dX9_put_35 ?_
      refine xt_bast dX9_put_36 (by first | exact sh1 | rfl) (by rw [hl]; exact vp_in_nI (by omega) (by decide)) ?_
      refine xt_aload_n _ dX9_put_37 rfl ?_
      refine xt_dup dX9_put_38 rfl ?_
      refine xt_geti dX9_put_39 kfX9_50 (by first | exact sh1 | rfl) rfl ?_
      refine xt_iconst (1) dX9_put_42 (by decide) ?_
      refine xt_iadd dX9_put_43 ?_
      refine xt_puti dX9_put_44 kpX9_50 (by first | exact sh1 | rfl) rfl (by first | rfl | assumption) (by first | rfl | assumption) ?_
      refine xt_inc _ (-8) dX9_put_47 rfl (by decide) (by decide) rfl ?_
      change x_T _ _ _ _ [_, _, _] _ _ _ _
      refine xt_goto 3 dX9_put_50 (by decide) ?_
      refine ih (j + 1) _ (by omega) ⟨?_, ?_, ?_, ?_⟩
      · show μ1 1 1 + 1 = nI (n + j + 1)
        rw [hl, nI_succ]
      · intro i hi
        show upd (μ1 1) 1 _ i = μ 1 i
        simp only [upd, hi, if_false]
        exact ho i hi
      · show upd (μ1 2) (μ1 1 1).toNatClampNeg _ = s_app (μ 2) n v (j + 1)
        rw [hl, nI_clamp (by omega), ht]
        rfl
      · intro a h1 h2
        rw [x_u_ne h1, x_u_ne h2]
        exact hfr a h1 h2
  refine x_K.of (by decide) (Nat.le_of_ble_eq_true rfl) ?_
  show x_T sc d mX9_put 0 [.ref 1, .int v, .retAddr 0] [] μ w _
  refine xt_bipush (24) dX9_put_0 (by decide) ?_
  refine xt_istore_n dX9_put_2 (by decide) rfl ?_
  change x_T _ _ _ _ [_, _, _] _ _ _ _
  exact L3 4 0 μ (by omega) ⟨e, fun i _ => rfl, rfl, fun a _ _ => rfl⟩
set_option maxHeartbeats 1000000 in
theorem tX12_four (n : Nat) (v : Int32) (hn : n + 4 ≤ 600) (e : μ 154 0 = nI n) : x_K sc d mX12_four [.ref 152, .int v] μ w (fun r μ' w' => r = none ∧ w' = w ∧ i_putM μ μ' n v 4) := by
  have hc0 : (0 : Int32).toNatClampNeg = 0 := by decide
  have L3 : ∀ (r j : Nat) (μ1 : x_Me), j + r = 4 → i_putM μ μ1 n v j → x_T sc d mX12_four 3 [.ref 152, .int v, .int (s_sh j)] [] μ1 w (fun r μ' w' => r = none ∧ w' = w ∧ i_putM μ μ' n v 4) := by
    intro r
    induction r with
    | zero =>
      intro j μ1 hj hJ
      obtain rfl : j = 4 := by omega
      refine xt_iload_n _ dX12_four_3 rfl ?_
      refine xt_if_lt 38 dX12_four_4 (by decide) (fun _ => ?_) (fun q => absurd (by decide) q)
      exact xt_ret dX12_four_38 rfl ⟨rfl, rfl, hJ⟩
    | succ r ih =>
      intro j μ1 hj hJ
      obtain ⟨hl, ho, ht, hfr⟩ := hJ
      refine xt_iload_n _ dX12_four_3 rfl ?_
      refine xt_if_lt 38 dX12_four_4 (by decide) (fun q => absurd q (s_sh_pos j (by omega))) (fun _ => ?_)
      refine xt_aload_n _ dX12_four_7 rfl ?_
      refine xt_getr _ dX12_four_8 kfX12_7 (by first | exact sh152 | rfl | assumption) rfl ?_
      refine xt_aload_n _ dX12_four_11 rfl ?_
      refine xt_getr _ dX12_four_12 kfX12_13 (by first | exact sh152 | rfl | assumption) rfl ?_
      refine xt_iconst (0) dX12_four_15 (by decide) ?_
      refine xt_ald dX12_four_16 (by first | exact sh152 | rfl | assumption) (by unfold vp_in; decide) ?_
      refine xt_iload_n _ dX12_four_17 rfl ?_
      refine xt_iload_n _ dX12_four_18 rfl ?_
      refine xt_ishr dX12_four_19 ?_
      refine xt_i2b dX12_four_20 ?_
      refine xt_bast dX12_four_21 (by first | exact sh152 | rfl | assumption) (by rw [hc0, hl]; exact vp_in_nI (by omega) (by decide)) ?_
      refine xt_aload_n _ dX12_four_22 rfl ?_
      refine xt_getr _ dX12_four_23 kfX12_13 (by first | exact sh152 | rfl | assumption) rfl ?_
      refine xt_iconst (0) dX12_four_26 (by decide) ?_
      refine xt_dup2 dX12_four_27 rfl rfl ?_
      refine xt_ald dX12_four_28 (by first | exact sh152 | rfl | assumption) (by unfold vp_in; decide) ?_
      refine xt_iconst (1) dX12_four_29 (by decide) ?_
      refine xt_iadd dX12_four_30 ?_
      refine xt_ast dX12_four_31 (by first | exact sh152 | rfl | assumption) (by unfold vp_in; decide) ?_
      refine xt_inc _ (-8) dX12_four_32 rfl (by decide) (by decide) rfl ?_
      change x_T _ _ _ _ [_, _, _] _ _ _ _
      refine xt_goto 3 dX12_four_35 (by decide) ?_
      refine ih (j + 1) _ (by omega) ⟨?_, ?_, ?_, ?_⟩
      · show μ1 154 (0 : Int32).toNatClampNeg + 1 = nI (n + j + 1)
        rw [hc0, hl, nI_succ]
      · intro i hi
        show upd (μ1 154) (0 : Int32).toNatClampNeg _ i = μ 154 i
        rw [hc0]
        simp only [upd, hi, if_false]
        exact ho i hi
      · show upd (μ1 153) (μ1 154 (0 : Int32).toNatClampNeg).toNatClampNeg _ = s_app (μ 153) n v (j + 1)
        rw [hc0, hl, nI_clamp (by omega), ht]
        rfl
      · intro a h1 h2
        rw [x_u_ne h2, x_u_ne h1]
        exact hfr a h1 h2
  refine x_K.of (by decide) (Nat.le_of_ble_eq_true rfl) ?_
  show x_T sc d mX12_four 0 [.ref 152, .int v, .retAddr 0] [] μ w _
  refine xt_bipush (24) dX12_four_0 (by decide) ?_
  refine xt_istore_n dX12_four_2 (by decide) rfl ?_
  change x_T _ _ _ _ [_, _, _] _ _ _ _
  exact L3 4 0 μ (by omega) ⟨e, fun i _ => rfl, rfl, fun a _ _ => rfl⟩
end FEED
