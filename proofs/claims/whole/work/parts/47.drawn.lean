/-! the step of drawn -/
def s_sd (x : Int32) : Int32 := x * 1103515245 + 12345
def s_dw (x : Int32) (n : Nat) : Nat := (s_sd x).toBitVec.toNat / 65536 % n
theorem s_ush16 (x : Int32) : (x.toUInt32 >>> ((16 : Int32).toUInt32 &&& Int32.toUInt32 31)).toInt32 = nI (x.toBitVec.toNat / 65536) := by
  have h := pk_ushr x 16 16 (by decide)
  have hl := x.toBitVec.isLt
  apply Int32.toBitVec_inj.mp
  apply BitVec.eq_of_toNat_eq
  rw [h, pk_tn (by omega)]
theorem s_dw_rem (x : Int32) {n : Nat} (h0 : 0 < n) (hn : n < 2 ^ 31) : (x.toUInt32 >>> ((16 : Int32).toUInt32 &&& Int32.toUInt32 31)).toInt32 - (x.toUInt32 >>> ((16 : Int32).toUInt32 &&& Int32.toUInt32 31)).toInt32 / nI n * nI n = nI (x.toBitVec.toNat / 65536 % n) := by
  have hl := x.toBitVec.isLt
  rw [s_ush16, pk_rem (by omega) h0 hn]
theorem s_dw_lt (x : Int32) {n : Nat} (h : 0 < n) : s_dw x n < n := Nat.mod_lt _ h
def s_bl (r : Nat) : Nat := [0, 0, 0, 3, 3, 4, 5, 5, 2, 1].getD r 0
def s_lot (dw : Int32 → Nat → Nat) (sd : Int32 → Int32) (σ : s_St) (x : Int32) : s_St × Int32 := if s_bl (dw x 10) < 2 then ((s_act σ (s_bl (dw x 10)) 0 0 0).2, sd x) else if σ.1 4 = 0 then (σ, sd x) else if s_bl (dw x 10) = 2 then ((s_act σ 2 (dw (sd x) (σ.1 4)) 0 0).2, sd (sd x)) else if s_bl (dw x 10) = 3 then ((s_act σ 3 (dw (sd x) (σ.1 4)) (dw (sd (sd x)) 10) (dw (sd (sd (sd x))) 10)).2, sd (sd (sd (sd x)))) else ((s_act σ (s_bl (dw x 10)) (dw (sd x) (σ.1 4)) (dw (sd (sd x)) 6) (1 + dw (sd (sd (sd x))) 3)).2, sd (sd (sd (sd x))))
theorem s_bl_le : ∀ r, r < 10 → s_bl r ≤ 5 := by decide
theorem s_lot_ok (dw : Int32 → Nat → Nat) (sd : Int32 → Int32) (hdl : ∀ x n, 0 < n → dw x n < n) {σ : s_St} (h : s_ok σ) (x : Int32) : s_ok (s_lot dw sd σ x).1 := by
  have h1 := hdl (sd (sd x)) _ (show 0 < 10 by decide)
  have h2 := hdl (sd (sd (sd x))) _ (show 0 < 10 by decide)
  have h3 := hdl (sd (sd x)) _ (show 0 < 6 by decide)
  have h4 := hdl (sd (sd (sd x))) _ (show 0 < 3 by decide)
  unfold s_lot
  split
  · exact s_act_ok h (fun z => by omega)
  · split
    · exact h
    · split
      · exact s_act_ok h (fun z => by omega)
      · split
        · exact s_act_ok h (fun z => by omega)
        · exact s_act_ok h (fun z => by omega)
def s_lts (dw : Int32 → Nat → Nat) (sd : Int32 → Int32) (σ : s_St) (x : Int32) : Nat → s_St × Int32
  | 0 => (σ, x)
  | n + 1 => s_lot dw sd (s_lts dw sd σ x n).1 (s_lts dw sd σ x n).2
theorem s_lts_ok (dw : Int32 → Nat → Nat) (sd : Int32 → Int32) (hdl : ∀ x n, 0 < n → dw x n < n) {σ : s_St} (h : s_ok σ) (x : Int32) : ∀ n, s_ok (s_lts dw sd σ x n).1
  | 0 => h
  | n + 1 => s_lot_ok dw sd hdl (s_lts_ok dw sd hdl h x n) _
theorem x_rowB (sc : Nat × (Nat → Int32)) : x_row sc 1000204 10 (fun j => [0, 0, 0, 3, 3, 4, 5, 5, 2, 1].getD j 0) := ⟨by decide, Or.inr ⟨(RX7, "BY_LOT", 1000204, [0, 0, 0, 3, 3, 4, 5, 5, 2, 1]), by decide, rfl, rfl, rfl⟩⟩
theorem s_blI : ∀ r, r < 10 → s_at 10 (fun j => [0, 0, 0, 3, 3, 4, 5, 5, 2, 1].getD j 0) (nI r) = nI (s_bl r) := by decide +kernel
theorem s_upd2 (f : Nat → Int32) (i : Nat) (x y : Int32) : upd (upd f i x) i y = upd f i y := by
  funext j
  by_cases h : j = i
  · subst h; rw [pk_us, pk_us]
  · rw [pk_un h, pk_un h, pk_un h]
section DRAWN
variable (sc : Nat × (Nat → Int32)) (d : Nat) (μ : x_Me) (w : Int64)
set_option maxHeartbeats 1000000 in
theorem tX7_drawBelow (n : Nat) (h0 : 0 < n) (hn : n < 2 ^ 31) : x_K sc d mX7_drawBelow [.ref 129, .int (nI n)] μ w (x_p (some (.int (nI (s_dw (μ 129 13) n)))) (x_u μ 129 (upd (μ 129) 13 (s_sd (μ 129 13)))) w) := by
  refine x_K.of (by decide) (Nat.le_of_ble_eq_true rfl) ?_
  show x_T sc d mX7_drawBelow 0 [.ref 129, .int (nI n)] [] μ w _
  refine xt_aload_n _ dX7_drawBelow_0 rfl ?_
  refine xt_aload_n _ dX7_drawBelow_1 rfl ?_
  refine xt_geti dX7_drawBelow_2 kfX7_36 (by first | exact sh129 | exact sh130 | rfl | assumption) rfl ?_
  refine xt_ldc _ dX7_drawBelow_5 kkX7_83 ?_
  refine xt_imul dX7_drawBelow_7 ?_
  refine xt_sipush (12345) dX7_drawBelow_8 (by decide) ?_
  refine xt_iadd dX7_drawBelow_11 ?_
  refine xt_puti dX7_drawBelow_12 kpX7_36 (by first | exact sh129 | exact sh130 | rfl | assumption) rfl (by first | rfl | assumption) (by first | rfl | assumption) ?_
  refine xt_iload_n _ dX7_drawBelow_15 rfl ?_
  refine xt_if_le 31 dX7_drawBelow_16 (by decide) (fun q => absurd q (nI_nle h0 hn)) (fun _ => ?_)
  refine xt_aload_n _ dX7_drawBelow_19 rfl ?_
  refine xt_geti dX7_drawBelow_20 kfX7_36 (by first | exact sh129 | exact sh130 | rfl | assumption) rfl ?_
  refine xt_bipush (16) dX7_drawBelow_23 (by decide) ?_
  refine xt_iushr dX7_drawBelow_25 ?_
  refine xt_iload_n _ dX7_drawBelow_26 rfl ?_
  refine xt_irem dX7_drawBelow_27 (by exact nI_ne0 h0 hn) ?_
  refine xt_goto 32 dX7_drawBelow_28 (by decide) ?_
  exact xt_iret .int dX7_drawBelow_32 rfl (by first | rfl | assumption) ⟨congrArg (fun z => some (Value.int z)) (s_dw_rem _ h0 hn), rfl, rfl⟩
set_option maxHeartbeats 1000000 in
theorem tX12_draw (n : Nat) (h0 : 0 < n) (hn : n < 2 ^ 31) : x_K sc d mX12_draw [.ref 152, .int (nI n)] μ w (x_p (some (.int (nI (s_dw (μ 152 51) n)))) (x_u μ 152 (upd (μ 152) 51 (s_sd (μ 152 51)))) w) := by
  refine x_K.of (by decide) (Nat.le_of_ble_eq_true rfl) ?_
  show x_T sc d mX12_draw 0 [.ref 152, .int (nI n)] [] μ w _
  refine xt_aload_n _ dX12_draw_0 rfl ?_
  refine xt_aload_n _ dX12_draw_1 rfl ?_
  refine xt_geti dX12_draw_2 kfX12_467 (by first | exact sh152 | rfl | assumption) rfl ?_
  refine xt_ldcw _ dX12_draw_5 kkX12_470 ?_
  refine xt_imul dX12_draw_8 ?_
  refine xt_sipush (12345) dX12_draw_9 (by decide) ?_
  refine xt_iadd dX12_draw_12 ?_
  refine xt_puti dX12_draw_13 kpX12_467 (by first | exact sh152 | rfl | assumption) rfl (by first | rfl | assumption) (by first | rfl | assumption) ?_
  refine xt_aload_n _ dX12_draw_16 rfl ?_
  refine xt_geti dX12_draw_17 kfX12_467 (by first | exact sh152 | rfl | assumption) rfl ?_
  refine xt_bipush (16) dX12_draw_20 (by decide) ?_
  refine xt_iushr dX12_draw_22 ?_
  refine xt_iload_n _ dX12_draw_23 rfl ?_
  refine xt_irem dX12_draw_24 (by exact nI_ne0 h0 hn) ?_
  exact xt_iret .int dX12_draw_25 rfl (by first | rfl | assumption) ⟨congrArg (fun z => some (Value.int z)) (s_dw_rem _ h0 hn), rfl, rfl⟩
/-- the drawing, its reckoning hidden -/
theorem s_hide : ∃ (dw : Int32 → Nat → Nat) (sd : Int32 → Int32), (∀ x n, 0 < n → dw x n < n) ∧ (∀ (d : Nat) (μ : x_Me) (w : Int64) (n : Nat), 0 < n → n < 2 ^ 31 → x_D sc d mX7_drawBelow [.ref 129, .int (nI n)] μ w (some (.int (nI (dw (μ 129 13) n)))) (x_u μ 129 (upd (μ 129) 13 (sd (μ 129 13)))) w) ∧ (∀ (d : Nat) (μ : x_Me) (w : Int64) (n : Nat), 0 < n → n < 2 ^ 31 → x_D sc d mX12_draw [.ref 152, .int (nI n)] μ w (some (.int (nI (dw (μ 152 51) n)))) (x_u μ 152 (upd (μ 152) 51 (sd (μ 152 51)))) w) := ⟨s_dw, s_sd, fun x n h => s_dw_lt x h, fun d μ w n h0 hn => tX7_drawBelow sc d μ w n h0 hn, fun d μ w n h0 hn => tX12_draw sc d μ w n h0 hn⟩
set_option maxHeartbeats 4000000 in
theorem tX7_drawDeed (dw : Int32 → Nat → Nat) (sd : Int32 → Int32) (hdl : ∀ x n, 0 < n → dw x n < n) (hDB : ∀ (d : Nat) (μ : x_Me) (w : Int64) (n : Nat), 0 < n → n < 2 ^ 31 → x_D sc d mX7_drawBelow [.ref 129, .int (nI n)] μ w (some (.int (nI (dw (μ 129 13) n)))) (x_u μ 129 (upd (μ 129) 13 (sd (μ 129 13)))) w) (σ : s_St) (hok : s_ok σ) (hc : c_St μ σ) : x_K sc (d + 1) mX7_drawDeed [.ref 129] μ w (fun r μ' _ => ∃ (ok : Bool) (s a b c : Nat), r = some (.int (if ok then 1 else 0)) ∧ μ' 129 13 = (s_lot dw sd σ (μ 129 13)).2 ∧ (ok = true → q_d (μ' 136 0) (μ' 136 1) (μ' 136 2) (μ' 136 3) s a b c ∧ (s_lot dw sd σ (μ 129 13)).1 = (s_act σ s a b c).2) ∧ (ok = false → (s_lot dw sd σ (μ 129 13)).1 = σ) ∧ (∀ j, j ≠ 13 → μ' 129 j = μ 129 j) ∧ ∀ a, a ≠ 129 → a ≠ 136 → μ' a = μ a) := by
  have hW : f_W σ.1 := hok.1
  have h8 : σ.1 4 ≤ 8 := hW.1.2.2.2.2.1
  have hC : f_C μ 130 σ.1 := hc.1
  have e4 : μ 130 4 = nI (σ.1 4) := hC.1 4 (by decide)
  have hr := hdl (μ 129 13) _ (show 0 < 10 by decide)
  have hb10 := hdl (sd (sd (μ 129 13))) _ (show 0 < 10 by decide)
  have hc10 := hdl (sd (sd (sd (μ 129 13)))) _ (show 0 < 10 by decide)
  have hb6 := hdl (sd (sd (μ 129 13))) _ (show 0 < 6 by decide)
  have hc3 := hdl (sd (sd (sd (μ 129 13)))) _ (show 0 < 3 by decide)
  have hbl := s_bl_le (dw (μ 129 13) 10) hr
  refine x_K.of (by decide) (Nat.le_of_ble_eq_true rfl) ?_
  show x_T sc (d + 1) mX7_drawDeed 0 [.ref 129, .retAddr 0] [] μ w _
  have hs' : s_bl (dw (μ 129 13) 10) = 0 ∨ s_bl (dw (μ 129 13) 10) = 1 ∨ s_bl (dw (μ 129 13) 10) = 2 ∨ s_bl (dw (μ 129 13) 10) = 3 ∨ s_bl (dw (μ 129 13) 10) = 4 ∨ s_bl (dw (μ 129 13) 10) = 5 := by omega
  rcases hs' with hs | hs | hs | hs | hs | hs
  · skip
    have hL : s_lot dw sd σ (μ 129 13) = ((s_act σ 0 0 0 0).2, (sd (μ 129 13))) := by unfold s_lot; rw [hs, if_pos (by decide)]
    refine xt_gets (RX7, "BY_LOT", 1000204, [0, 0, 0, 3, 3, 4, 5, 5, 2, 1]) dX7_drawDeed_0 (by decide) (by decide) ksX7_84 ?_
    refine xt_aload_n _ dX7_drawDeed_3 rfl ?_
    refine xt_gets (RX7, "BY_LOT", 1000204, [0, 0, 0, 3, 3, 4, 5, 5, 2, 1]) dX7_drawDeed_4 (by decide) (by decide) ksX7_84 ?_
    refine xt_alenT (nI 10) dX7_drawDeed_7 (x_rowB sc) rfl ?_
    refine xt_cV _ dX7_drawDeed_8 klX7_87 (hDB _ μ w 10 (by decide) (by decide)) sh129 rfl rfl (Nat.le_of_ble_eq_true rfl) ?_
    refine xt_cS _ dX7_drawDeed_11 klX7_91 (tX8_atT sc _ _ _ (x_rowB sc) (by decide) _) rfl rfl (Nat.le_of_ble_eq_true rfl) ?_
    rw [s_blI _ hr, hs]
    change x_T _ _ _ _ _ (.int (nI 0) :: _) _ _ _
    refine xt_istore_n dX7_drawDeed_14 (by decide) rfl ?_
    change x_T _ _ _ _ [_, _] _ _ _ _
    refine xt_aload_n _ dX7_drawDeed_15 rfl ?_
    refine xt_getr _ dX7_drawDeed_16 kfX7_18 (by first | exact sh129 | exact sh130 | rfl | assumption) rfl ?_
    refine xt_iconst (0) dX7_drawDeed_19 (by decide) ?_
    refine xt_iload_n _ dX7_drawDeed_20 rfl ?_
    refine xt_ast dX7_drawDeed_21 (by first | exact sh129 | exact sh130 | rfl | assumption) (by unfold vp_in; decide) ?_
    refine xt_iload_n _ dX7_drawDeed_22 rfl ?_
    refine xt_if_eq 31 dX7_drawDeed_23 (by decide) (fun _ => ?_) (fun q => absurd (by decide) q)
    refine xt_iconst (1) dX7_drawDeed_31 (by decide) ?_
    refine xt_iret .boolean dX7_drawDeed_32 rfl rfl ?_
    refine ⟨true, 0, 0, 0, 0, rfl, ?_, ?_, ?_, ?_, ?_⟩
    · rw [hL]; rfl
    · intro _
      refine ⟨⟨rfl, by decide, ?_, ?_⟩, by rw [hL]⟩
      · intro z; exact absurd z (by decide)
      · intro z; exact absurd z (by decide)
    · intro z; exact absurd z (by decide)
    · intro j hj; simp only [x_u_eq, x_u_ne (show 129 ≠ 136 by decide), pk_un hj]
    · intro a h1 h2; simp only [x_u_ne h1, x_u_ne h2]
  · skip
    have hL : s_lot dw sd σ (μ 129 13) = ((s_act σ 1 0 0 0).2, (sd (μ 129 13))) := by unfold s_lot; rw [hs, if_pos (by decide)]
    refine xt_gets (RX7, "BY_LOT", 1000204, [0, 0, 0, 3, 3, 4, 5, 5, 2, 1]) dX7_drawDeed_0 (by decide) (by decide) ksX7_84 ?_
    refine xt_aload_n _ dX7_drawDeed_3 rfl ?_
    refine xt_gets (RX7, "BY_LOT", 1000204, [0, 0, 0, 3, 3, 4, 5, 5, 2, 1]) dX7_drawDeed_4 (by decide) (by decide) ksX7_84 ?_
    refine xt_alenT (nI 10) dX7_drawDeed_7 (x_rowB sc) rfl ?_
    refine xt_cV _ dX7_drawDeed_8 klX7_87 (hDB _ μ w 10 (by decide) (by decide)) sh129 rfl rfl (Nat.le_of_ble_eq_true rfl) ?_
    refine xt_cS _ dX7_drawDeed_11 klX7_91 (tX8_atT sc _ _ _ (x_rowB sc) (by decide) _) rfl rfl (Nat.le_of_ble_eq_true rfl) ?_
    rw [s_blI _ hr, hs]
    change x_T _ _ _ _ _ (.int (nI 1) :: _) _ _ _
    refine xt_istore_n dX7_drawDeed_14 (by decide) rfl ?_
    change x_T _ _ _ _ [_, _] _ _ _ _
    refine xt_aload_n _ dX7_drawDeed_15 rfl ?_
    refine xt_getr _ dX7_drawDeed_16 kfX7_18 (by first | exact sh129 | exact sh130 | rfl | assumption) rfl ?_
    refine xt_iconst (0) dX7_drawDeed_19 (by decide) ?_
    refine xt_iload_n _ dX7_drawDeed_20 rfl ?_
    refine xt_ast dX7_drawDeed_21 (by first | exact sh129 | exact sh130 | rfl | assumption) (by unfold vp_in; decide) ?_
    refine xt_iload_n _ dX7_drawDeed_22 rfl ?_
    refine xt_if_eq 31 dX7_drawDeed_23 (by decide) (fun q => absurd q (by decide)) (fun _ => ?_)
    refine xt_iload_n _ dX7_drawDeed_26 rfl ?_
    refine xt_iconst (1) dX7_drawDeed_27 (by decide) ?_
    refine xt_icmp_ne 33 dX7_drawDeed_28 (by decide) (fun q => absurd (by decide) q) (fun _ => ?_)
    refine xt_iconst (1) dX7_drawDeed_31 (by decide) ?_
    refine xt_iret .boolean dX7_drawDeed_32 rfl rfl ?_
    refine ⟨true, 1, 0, 0, 0, rfl, ?_, ?_, ?_, ?_, ?_⟩
    · rw [hL]; rfl
    · intro _
      refine ⟨⟨rfl, by decide, ?_, ?_⟩, by rw [hL]⟩
      · intro z; exact absurd z (by decide)
      · intro z; exact absurd z (by decide)
    · intro z; exact absurd z (by decide)
    · intro j hj; simp only [x_u_eq, x_u_ne (show 129 ≠ 136 by decide), pk_un hj]
    · intro a h1 h2; simp only [x_u_ne h1, x_u_ne h2]
  · skip
    by_cases h0 : σ.1 4 = 0
    · have hL : s_lot dw sd σ (μ 129 13) = (σ, (sd (μ 129 13))) := by unfold s_lot; rw [hs, if_neg (by decide), if_pos h0]
      refine xt_gets (RX7, "BY_LOT", 1000204, [0, 0, 0, 3, 3, 4, 5, 5, 2, 1]) dX7_drawDeed_0 (by decide) (by decide) ksX7_84 ?_
      refine xt_aload_n _ dX7_drawDeed_3 rfl ?_
      refine xt_gets (RX7, "BY_LOT", 1000204, [0, 0, 0, 3, 3, 4, 5, 5, 2, 1]) dX7_drawDeed_4 (by decide) (by decide) ksX7_84 ?_
      refine xt_alenT (nI 10) dX7_drawDeed_7 (x_rowB sc) rfl ?_
      refine xt_cV _ dX7_drawDeed_8 klX7_87 (hDB _ μ w 10 (by decide) (by decide)) sh129 rfl rfl (Nat.le_of_ble_eq_true rfl) ?_
      refine xt_cS _ dX7_drawDeed_11 klX7_91 (tX8_atT sc _ _ _ (x_rowB sc) (by decide) _) rfl rfl (Nat.le_of_ble_eq_true rfl) ?_
      rw [s_blI _ hr, hs]
      change x_T _ _ _ _ _ (.int (nI 2) :: _) _ _ _
      refine xt_istore_n dX7_drawDeed_14 (by decide) rfl ?_
      change x_T _ _ _ _ [_, _] _ _ _ _
      refine xt_aload_n _ dX7_drawDeed_15 rfl ?_
      refine xt_getr _ dX7_drawDeed_16 kfX7_18 (by first | exact sh129 | exact sh130 | rfl | assumption) rfl ?_
      refine xt_iconst (0) dX7_drawDeed_19 (by decide) ?_
      refine xt_iload_n _ dX7_drawDeed_20 rfl ?_
      refine xt_ast dX7_drawDeed_21 (by first | exact sh129 | exact sh130 | rfl | assumption) (by unfold vp_in; decide) ?_
      refine xt_iload_n _ dX7_drawDeed_22 rfl ?_
      refine xt_if_eq 31 dX7_drawDeed_23 (by decide) (fun q => absurd q (by decide)) (fun _ => ?_)
      refine xt_iload_n _ dX7_drawDeed_26 rfl ?_
      refine xt_iconst (1) dX7_drawDeed_27 (by decide) ?_
      refine xt_icmp_ne 33 dX7_drawDeed_28 (by decide) (fun _ => ?_) (fun q => absurd q (by decide))
      refine xt_aload_n _ dX7_drawDeed_33 rfl ?_
      refine xt_getr _ dX7_drawDeed_34 kfX7_12 (by first | exact sh129 | exact sh130 | rfl | assumption) rfl ?_
      refine xt_geti dX7_drawDeed_37 kfX7_97 sh130 rfl ?_
      change x_T _ _ _ _ _ (.int (μ 130 4) :: _) _ _ _
      rw [e4]
      refine xt_if_ne 45 dX7_drawDeed_40 (by decide) (fun q => absurd (by rw [h0]; rfl) q) (fun _ => ?_)
      refine xt_iconst (0) dX7_drawDeed_43 (by decide) ?_
      refine xt_iret .boolean dX7_drawDeed_44 rfl rfl ?_
      refine ⟨false, 2, 0, 0, 0, rfl, ?_, ?_, ?_, ?_, ?_⟩
      · rw [hL]; rfl
      · intro z; exact absurd z (by decide)
      · intro _; rw [hL]
      · intro j hj; simp only [x_u_eq, x_u_ne (show 129 ≠ 136 by decide), pk_un hj]
      · intro a h1 h2; simp only [x_u_ne h1, x_u_ne h2]
    · have hL : s_lot dw sd σ (μ 129 13) = ((s_act σ 2 (dw (sd (μ 129 13)) (σ.1 4)) 0 0).2, (sd (sd (μ 129 13)))) := by unfold s_lot; rw [hs, if_neg (by decide), if_neg h0, if_pos rfl]
      have hg8 := hdl (sd (μ 129 13)) _ (show 0 < σ.1 4 by omega)
      refine xt_gets (RX7, "BY_LOT", 1000204, [0, 0, 0, 3, 3, 4, 5, 5, 2, 1]) dX7_drawDeed_0 (by decide) (by decide) ksX7_84 ?_
      refine xt_aload_n _ dX7_drawDeed_3 rfl ?_
      refine xt_gets (RX7, "BY_LOT", 1000204, [0, 0, 0, 3, 3, 4, 5, 5, 2, 1]) dX7_drawDeed_4 (by decide) (by decide) ksX7_84 ?_
      refine xt_alenT (nI 10) dX7_drawDeed_7 (x_rowB sc) rfl ?_
      refine xt_cV _ dX7_drawDeed_8 klX7_87 (hDB _ μ w 10 (by decide) (by decide)) sh129 rfl rfl (Nat.le_of_ble_eq_true rfl) ?_
      refine xt_cS _ dX7_drawDeed_11 klX7_91 (tX8_atT sc _ _ _ (x_rowB sc) (by decide) _) rfl rfl (Nat.le_of_ble_eq_true rfl) ?_
      rw [s_blI _ hr, hs]
      change x_T _ _ _ _ _ (.int (nI 2) :: _) _ _ _
      refine xt_istore_n dX7_drawDeed_14 (by decide) rfl ?_
      change x_T _ _ _ _ [_, _] _ _ _ _
      refine xt_aload_n _ dX7_drawDeed_15 rfl ?_
      refine xt_getr _ dX7_drawDeed_16 kfX7_18 (by first | exact sh129 | exact sh130 | rfl | assumption) rfl ?_
      refine xt_iconst (0) dX7_drawDeed_19 (by decide) ?_
      refine xt_iload_n _ dX7_drawDeed_20 rfl ?_
      refine xt_ast dX7_drawDeed_21 (by first | exact sh129 | exact sh130 | rfl | assumption) (by unfold vp_in; decide) ?_
      refine xt_iload_n _ dX7_drawDeed_22 rfl ?_
      refine xt_if_eq 31 dX7_drawDeed_23 (by decide) (fun q => absurd q (by decide)) (fun _ => ?_)
      refine xt_iload_n _ dX7_drawDeed_26 rfl ?_
      refine xt_iconst (1) dX7_drawDeed_27 (by decide) ?_
      refine xt_icmp_ne 33 dX7_drawDeed_28 (by decide) (fun _ => ?_) (fun q => absurd q (by decide))
      refine xt_aload_n _ dX7_drawDeed_33 rfl ?_
      refine xt_getr _ dX7_drawDeed_34 kfX7_12 (by first | exact sh129 | exact sh130 | rfl | assumption) rfl ?_
      refine xt_geti dX7_drawDeed_37 kfX7_97 sh130 rfl ?_
      change x_T _ _ _ _ _ (.int (μ 130 4) :: _) _ _ _
      rw [e4]
      refine xt_if_ne 45 dX7_drawDeed_40 (by decide) (fun _ => ?_) (fun q => absurd q (nI_ne0 (by omega) (by omega)))
      refine xt_aload_n _ dX7_drawDeed_45 rfl ?_
      refine xt_getr _ dX7_drawDeed_46 kfX7_18 (by first | exact sh129 | exact sh130 | rfl | assumption) rfl ?_
      refine xt_iconst (1) dX7_drawDeed_49 (by decide) ?_
      refine xt_aload_n _ dX7_drawDeed_50 rfl ?_
      refine xt_aload_n _ dX7_drawDeed_51 rfl ?_
      refine xt_getr _ dX7_drawDeed_52 kfX7_12 (by first | exact sh129 | exact sh130 | rfl | assumption) rfl ?_
      refine xt_geti dX7_drawDeed_55 kfX7_97 sh130 rfl ?_
      change x_T _ _ _ _ _ (.int (μ 130 4) :: _) _ _ _
      rw [e4]
      refine xt_cV _ dX7_drawDeed_58 klX7_87 (hDB _ _ _ (σ.1 4) (by omega) (by omega)) sh129 rfl rfl (Nat.le_of_ble_eq_true rfl) ?_
      refine xt_ast dX7_drawDeed_61 (by first | exact sh129 | exact sh130 | rfl | assumption) (by unfold vp_in; decide) ?_
      refine xt_iload_n _ dX7_drawDeed_62 rfl ?_
      refine xt_iconst (3) dX7_drawDeed_63 (by decide) ?_
      refine xt_icmp_ne 94 dX7_drawDeed_64 (by decide) (fun _ => ?_) (fun q => absurd q (by decide))
      refine xt_iload_n _ dX7_drawDeed_94 rfl ?_
      refine xt_iconst (2) dX7_drawDeed_95 (by decide) ?_
      refine xt_icmp_eq 124 dX7_drawDeed_96 (by decide) (fun _ => ?_) (fun q => absurd (by decide) q)
      refine xt_iconst (1) dX7_drawDeed_124 (by decide) ?_
      refine xt_iret .boolean dX7_drawDeed_125 rfl rfl ?_
      refine ⟨true, 2, (dw (sd (μ 129 13)) (σ.1 4)), 0, 0, rfl, ?_, ?_, ?_, ?_, ?_⟩
      · rw [hL]; rfl
      · intro _
        refine ⟨⟨rfl, by decide, ?_, ?_⟩, by rw [hL]⟩
        · intro _; refine ⟨rfl, ?_⟩; omega
        · intro z; exact absurd z (by decide)
      · intro z; exact absurd z (by decide)
      · intro j hj; simp only [x_u_eq, x_u_ne (show 129 ≠ 136 by decide), pk_un hj]
      · intro a h1 h2; simp only [x_u_ne h1, x_u_ne h2]
  · skip
    by_cases h0 : σ.1 4 = 0
    · have hL : s_lot dw sd σ (μ 129 13) = (σ, (sd (μ 129 13))) := by unfold s_lot; rw [hs, if_neg (by decide), if_pos h0]
      refine xt_gets (RX7, "BY_LOT", 1000204, [0, 0, 0, 3, 3, 4, 5, 5, 2, 1]) dX7_drawDeed_0 (by decide) (by decide) ksX7_84 ?_
      refine xt_aload_n _ dX7_drawDeed_3 rfl ?_
      refine xt_gets (RX7, "BY_LOT", 1000204, [0, 0, 0, 3, 3, 4, 5, 5, 2, 1]) dX7_drawDeed_4 (by decide) (by decide) ksX7_84 ?_
      refine xt_alenT (nI 10) dX7_drawDeed_7 (x_rowB sc) rfl ?_
      refine xt_cV _ dX7_drawDeed_8 klX7_87 (hDB _ μ w 10 (by decide) (by decide)) sh129 rfl rfl (Nat.le_of_ble_eq_true rfl) ?_
      refine xt_cS _ dX7_drawDeed_11 klX7_91 (tX8_atT sc _ _ _ (x_rowB sc) (by decide) _) rfl rfl (Nat.le_of_ble_eq_true rfl) ?_
      rw [s_blI _ hr, hs]
      change x_T _ _ _ _ _ (.int (nI 3) :: _) _ _ _
      refine xt_istore_n dX7_drawDeed_14 (by decide) rfl ?_
      change x_T _ _ _ _ [_, _] _ _ _ _
      refine xt_aload_n _ dX7_drawDeed_15 rfl ?_
      refine xt_getr _ dX7_drawDeed_16 kfX7_18 (by first | exact sh129 | exact sh130 | rfl | assumption) rfl ?_
      refine xt_iconst (0) dX7_drawDeed_19 (by decide) ?_
      refine xt_iload_n _ dX7_drawDeed_20 rfl ?_
      refine xt_ast dX7_drawDeed_21 (by first | exact sh129 | exact sh130 | rfl | assumption) (by unfold vp_in; decide) ?_
      refine xt_iload_n _ dX7_drawDeed_22 rfl ?_
      refine xt_if_eq 31 dX7_drawDeed_23 (by decide) (fun q => absurd q (by decide)) (fun _ => ?_)
      refine xt_iload_n _ dX7_drawDeed_26 rfl ?_
      refine xt_iconst (1) dX7_drawDeed_27 (by decide) ?_
      refine xt_icmp_ne 33 dX7_drawDeed_28 (by decide) (fun _ => ?_) (fun q => absurd q (by decide))
      refine xt_aload_n _ dX7_drawDeed_33 rfl ?_
      refine xt_getr _ dX7_drawDeed_34 kfX7_12 (by first | exact sh129 | exact sh130 | rfl | assumption) rfl ?_
      refine xt_geti dX7_drawDeed_37 kfX7_97 sh130 rfl ?_
      change x_T _ _ _ _ _ (.int (μ 130 4) :: _) _ _ _
      rw [e4]
      refine xt_if_ne 45 dX7_drawDeed_40 (by decide) (fun q => absurd (by rw [h0]; rfl) q) (fun _ => ?_)
      refine xt_iconst (0) dX7_drawDeed_43 (by decide) ?_
      refine xt_iret .boolean dX7_drawDeed_44 rfl rfl ?_
      refine ⟨false, 3, 0, 0, 0, rfl, ?_, ?_, ?_, ?_, ?_⟩
      · rw [hL]; rfl
      · intro z; exact absurd z (by decide)
      · intro _; rw [hL]
      · intro j hj; simp only [x_u_eq, x_u_ne (show 129 ≠ 136 by decide), pk_un hj]
      · intro a h1 h2; simp only [x_u_ne h1, x_u_ne h2]
    · have hL : s_lot dw sd σ (μ 129 13) = ((s_act σ 3 (dw (sd (μ 129 13)) (σ.1 4)) (dw (sd (sd (μ 129 13))) 10) (dw (sd (sd (sd (μ 129 13)))) 10)).2, (sd (sd (sd (sd (μ 129 13)))))) := by unfold s_lot; rw [hs, if_neg (by decide), if_neg h0, if_neg (by decide), if_pos rfl]
      have hg8 := hdl (sd (μ 129 13)) _ (show 0 < σ.1 4 by omega)
      refine xt_gets (RX7, "BY_LOT", 1000204, [0, 0, 0, 3, 3, 4, 5, 5, 2, 1]) dX7_drawDeed_0 (by decide) (by decide) ksX7_84 ?_
      refine xt_aload_n _ dX7_drawDeed_3 rfl ?_
      refine xt_gets (RX7, "BY_LOT", 1000204, [0, 0, 0, 3, 3, 4, 5, 5, 2, 1]) dX7_drawDeed_4 (by decide) (by decide) ksX7_84 ?_
      refine xt_alenT (nI 10) dX7_drawDeed_7 (x_rowB sc) rfl ?_
      refine xt_cV _ dX7_drawDeed_8 klX7_87 (hDB _ μ w 10 (by decide) (by decide)) sh129 rfl rfl (Nat.le_of_ble_eq_true rfl) ?_
      refine xt_cS _ dX7_drawDeed_11 klX7_91 (tX8_atT sc _ _ _ (x_rowB sc) (by decide) _) rfl rfl (Nat.le_of_ble_eq_true rfl) ?_
      rw [s_blI _ hr, hs]
      change x_T _ _ _ _ _ (.int (nI 3) :: _) _ _ _
      refine xt_istore_n dX7_drawDeed_14 (by decide) rfl ?_
      change x_T _ _ _ _ [_, _] _ _ _ _
      refine xt_aload_n _ dX7_drawDeed_15 rfl ?_
      refine xt_getr _ dX7_drawDeed_16 kfX7_18 (by first | exact sh129 | exact sh130 | rfl | assumption) rfl ?_
      refine xt_iconst (0) dX7_drawDeed_19 (by decide) ?_
      refine xt_iload_n _ dX7_drawDeed_20 rfl ?_
      refine xt_ast dX7_drawDeed_21 (by first | exact sh129 | exact sh130 | rfl | assumption) (by unfold vp_in; decide) ?_
      refine xt_iload_n _ dX7_drawDeed_22 rfl ?_
      refine xt_if_eq 31 dX7_drawDeed_23 (by decide) (fun q => absurd q (by decide)) (fun _ => ?_)
      refine xt_iload_n _ dX7_drawDeed_26 rfl ?_
      refine xt_iconst (1) dX7_drawDeed_27 (by decide) ?_
      refine xt_icmp_ne 33 dX7_drawDeed_28 (by decide) (fun _ => ?_) (fun q => absurd q (by decide))
      refine xt_aload_n _ dX7_drawDeed_33 rfl ?_
      refine xt_getr _ dX7_drawDeed_34 kfX7_12 (by first | exact sh129 | exact sh130 | rfl | assumption) rfl ?_
      refine xt_geti dX7_drawDeed_37 kfX7_97 sh130 rfl ?_
      change x_T _ _ _ _ _ (.int (μ 130 4) :: _) _ _ _
      rw [e4]
      refine xt_if_ne 45 dX7_drawDeed_40 (by decide) (fun _ => ?_) (fun q => absurd q (nI_ne0 (by omega) (by omega)))
      refine xt_aload_n _ dX7_drawDeed_45 rfl ?_
      refine xt_getr _ dX7_drawDeed_46 kfX7_18 (by first | exact sh129 | exact sh130 | rfl | assumption) rfl ?_
      refine xt_iconst (1) dX7_drawDeed_49 (by decide) ?_
      refine xt_aload_n _ dX7_drawDeed_50 rfl ?_
      refine xt_aload_n _ dX7_drawDeed_51 rfl ?_
      refine xt_getr _ dX7_drawDeed_52 kfX7_12 (by first | exact sh129 | exact sh130 | rfl | assumption) rfl ?_
      refine xt_geti dX7_drawDeed_55 kfX7_97 sh130 rfl ?_
      change x_T _ _ _ _ _ (.int (μ 130 4) :: _) _ _ _
      rw [e4]
      refine xt_cV _ dX7_drawDeed_58 klX7_87 (hDB _ _ _ (σ.1 4) (by omega) (by omega)) sh129 rfl rfl (Nat.le_of_ble_eq_true rfl) ?_
      refine xt_ast dX7_drawDeed_61 (by first | exact sh129 | exact sh130 | rfl | assumption) (by unfold vp_in; decide) ?_
      refine xt_iload_n _ dX7_drawDeed_62 rfl ?_
      refine xt_iconst (3) dX7_drawDeed_63 (by decide) ?_
      refine xt_icmp_ne 94 dX7_drawDeed_64 (by decide) (fun q => absurd (by decide) q) (fun _ => ?_)
      refine xt_aload_n _ dX7_drawDeed_67 rfl ?_
      refine xt_getr _ dX7_drawDeed_68 kfX7_18 (by first | exact sh129 | exact sh130 | rfl | assumption) rfl ?_
      refine xt_iconst (2) dX7_drawDeed_71 (by decide) ?_
      refine xt_aload_n _ dX7_drawDeed_72 rfl ?_
      refine xt_bipush (10) dX7_drawDeed_73 (by decide) ?_
      refine xt_cV _ dX7_drawDeed_75 klX7_87 (hDB _ _ _ 10 (by decide) (by omega)) sh129 rfl rfl (Nat.le_of_ble_eq_true rfl) ?_
      refine xt_ast dX7_drawDeed_78 (by first | exact sh129 | exact sh130 | rfl | assumption) (by unfold vp_in; decide) ?_
      refine xt_aload_n _ dX7_drawDeed_79 rfl ?_
      refine xt_getr _ dX7_drawDeed_80 kfX7_18 (by first | exact sh129 | exact sh130 | rfl | assumption) rfl ?_
      refine xt_iconst (3) dX7_drawDeed_83 (by decide) ?_
      refine xt_aload_n _ dX7_drawDeed_84 rfl ?_
      refine xt_bipush (10) dX7_drawDeed_85 (by decide) ?_
      refine xt_cV _ dX7_drawDeed_87 klX7_87 (hDB _ _ _ 10 (by decide) (by omega)) sh129 rfl rfl (Nat.le_of_ble_eq_true rfl) ?_
      refine xt_ast dX7_drawDeed_90 (by first | exact sh129 | exact sh130 | rfl | assumption) (by unfold vp_in; decide) ?_
      refine xt_goto 124 dX7_drawDeed_91 (by decide) ?_
      refine xt_iconst (1) dX7_drawDeed_124 (by decide) ?_
      refine xt_iret .boolean dX7_drawDeed_125 rfl rfl ?_
      refine ⟨true, 3, (dw (sd (μ 129 13)) (σ.1 4)), (dw (sd (sd (μ 129 13))) 10), (dw (sd (sd (sd (μ 129 13)))) 10), rfl, ?_, ?_, ?_, ?_, ?_⟩
      · rw [hL]; rfl
      · intro _
        refine ⟨⟨rfl, by decide, ?_, ?_⟩, by rw [hL]⟩
        · intro _; refine ⟨rfl, ?_⟩; omega
        · intro _; refine ⟨rfl, rfl, ?_, ?_, ?_⟩; omega; omega; intro z; exact absurd z (by decide)
      · intro z; exact absurd z (by decide)
      · intro j hj; simp only [x_u_eq, x_u_ne (show 129 ≠ 136 by decide), pk_un hj]
      · intro a h1 h2; simp only [x_u_ne h1, x_u_ne h2]
  · skip
    by_cases h0 : σ.1 4 = 0
    · have hL : s_lot dw sd σ (μ 129 13) = (σ, (sd (μ 129 13))) := by unfold s_lot; rw [hs, if_neg (by decide), if_pos h0]
      refine xt_gets (RX7, "BY_LOT", 1000204, [0, 0, 0, 3, 3, 4, 5, 5, 2, 1]) dX7_drawDeed_0 (by decide) (by decide) ksX7_84 ?_
      refine xt_aload_n _ dX7_drawDeed_3 rfl ?_
      refine xt_gets (RX7, "BY_LOT", 1000204, [0, 0, 0, 3, 3, 4, 5, 5, 2, 1]) dX7_drawDeed_4 (by decide) (by decide) ksX7_84 ?_
      refine xt_alenT (nI 10) dX7_drawDeed_7 (x_rowB sc) rfl ?_
      refine xt_cV _ dX7_drawDeed_8 klX7_87 (hDB _ μ w 10 (by decide) (by decide)) sh129 rfl rfl (Nat.le_of_ble_eq_true rfl) ?_
      refine xt_cS _ dX7_drawDeed_11 klX7_91 (tX8_atT sc _ _ _ (x_rowB sc) (by decide) _) rfl rfl (Nat.le_of_ble_eq_true rfl) ?_
      rw [s_blI _ hr, hs]
      change x_T _ _ _ _ _ (.int (nI 4) :: _) _ _ _
      refine xt_istore_n dX7_drawDeed_14 (by decide) rfl ?_
      change x_T _ _ _ _ [_, _] _ _ _ _
      refine xt_aload_n _ dX7_drawDeed_15 rfl ?_
      refine xt_getr _ dX7_drawDeed_16 kfX7_18 (by first | exact sh129 | exact sh130 | rfl | assumption) rfl ?_
      refine xt_iconst (0) dX7_drawDeed_19 (by decide) ?_
      refine xt_iload_n _ dX7_drawDeed_20 rfl ?_
      refine xt_ast dX7_drawDeed_21 (by first | exact sh129 | exact sh130 | rfl | assumption) (by unfold vp_in; decide) ?_
      refine xt_iload_n _ dX7_drawDeed_22 rfl ?_
      refine xt_if_eq 31 dX7_drawDeed_23 (by decide) (fun q => absurd q (by decide)) (fun _ => ?_)
      refine xt_iload_n _ dX7_drawDeed_26 rfl ?_
      refine xt_iconst (1) dX7_drawDeed_27 (by decide) ?_
      refine xt_icmp_ne 33 dX7_drawDeed_28 (by decide) (fun _ => ?_) (fun q => absurd q (by decide))
      refine xt_aload_n _ dX7_drawDeed_33 rfl ?_
      refine xt_getr _ dX7_drawDeed_34 kfX7_12 (by first | exact sh129 | exact sh130 | rfl | assumption) rfl ?_
      refine xt_geti dX7_drawDeed_37 kfX7_97 sh130 rfl ?_
      change x_T _ _ _ _ _ (.int (μ 130 4) :: _) _ _ _
      rw [e4]
      refine xt_if_ne 45 dX7_drawDeed_40 (by decide) (fun q => absurd (by rw [h0]; rfl) q) (fun _ => ?_)
      refine xt_iconst (0) dX7_drawDeed_43 (by decide) ?_
      refine xt_iret .boolean dX7_drawDeed_44 rfl rfl ?_
      refine ⟨false, 4, 0, 0, 0, rfl, ?_, ?_, ?_, ?_, ?_⟩
      · rw [hL]; rfl
      · intro z; exact absurd z (by decide)
      · intro _; rw [hL]
      · intro j hj; simp only [x_u_eq, x_u_ne (show 129 ≠ 136 by decide), pk_un hj]
      · intro a h1 h2; simp only [x_u_ne h1, x_u_ne h2]
    · have hL : s_lot dw sd σ (μ 129 13) = ((s_act σ 4 (dw (sd (μ 129 13)) (σ.1 4)) (dw (sd (sd (μ 129 13))) 6) (1 + dw (sd (sd (sd (μ 129 13)))) 3)).2, (sd (sd (sd (sd (μ 129 13)))))) := by unfold s_lot; rw [hs, if_neg (by decide), if_neg h0, if_neg (by decide), if_neg (by decide)]
      have hg8 := hdl (sd (μ 129 13)) _ (show 0 < σ.1 4 by omega)
      refine xt_gets (RX7, "BY_LOT", 1000204, [0, 0, 0, 3, 3, 4, 5, 5, 2, 1]) dX7_drawDeed_0 (by decide) (by decide) ksX7_84 ?_
      refine xt_aload_n _ dX7_drawDeed_3 rfl ?_
      refine xt_gets (RX7, "BY_LOT", 1000204, [0, 0, 0, 3, 3, 4, 5, 5, 2, 1]) dX7_drawDeed_4 (by decide) (by decide) ksX7_84 ?_
      refine xt_alenT (nI 10) dX7_drawDeed_7 (x_rowB sc) rfl ?_
      refine xt_cV _ dX7_drawDeed_8 klX7_87 (hDB _ μ w 10 (by decide) (by decide)) sh129 rfl rfl (Nat.le_of_ble_eq_true rfl) ?_
      refine xt_cS _ dX7_drawDeed_11 klX7_91 (tX8_atT sc _ _ _ (x_rowB sc) (by decide) _) rfl rfl (Nat.le_of_ble_eq_true rfl) ?_
      rw [s_blI _ hr, hs]
      change x_T _ _ _ _ _ (.int (nI 4) :: _) _ _ _
      refine xt_istore_n dX7_drawDeed_14 (by decide) rfl ?_
      change x_T _ _ _ _ [_, _] _ _ _ _
      refine xt_aload_n _ dX7_drawDeed_15 rfl ?_
      refine xt_getr _ dX7_drawDeed_16 kfX7_18 (by first | exact sh129 | exact sh130 | rfl | assumption) rfl ?_
      refine xt_iconst (0) dX7_drawDeed_19 (by decide) ?_
      refine xt_iload_n _ dX7_drawDeed_20 rfl ?_
      refine xt_ast dX7_drawDeed_21 (by first | exact sh129 | exact sh130 | rfl | assumption) (by unfold vp_in; decide) ?_
      refine xt_iload_n _ dX7_drawDeed_22 rfl ?_
      refine xt_if_eq 31 dX7_drawDeed_23 (by decide) (fun q => absurd q (by decide)) (fun _ => ?_)
      refine xt_iload_n _ dX7_drawDeed_26 rfl ?_
      refine xt_iconst (1) dX7_drawDeed_27 (by decide) ?_
      refine xt_icmp_ne 33 dX7_drawDeed_28 (by decide) (fun _ => ?_) (fun q => absurd q (by decide))
      refine xt_aload_n _ dX7_drawDeed_33 rfl ?_
      refine xt_getr _ dX7_drawDeed_34 kfX7_12 (by first | exact sh129 | exact sh130 | rfl | assumption) rfl ?_
      refine xt_geti dX7_drawDeed_37 kfX7_97 sh130 rfl ?_
      change x_T _ _ _ _ _ (.int (μ 130 4) :: _) _ _ _
      rw [e4]
      refine xt_if_ne 45 dX7_drawDeed_40 (by decide) (fun _ => ?_) (fun q => absurd q (nI_ne0 (by omega) (by omega)))
      refine xt_aload_n _ dX7_drawDeed_45 rfl ?_
      refine xt_getr _ dX7_drawDeed_46 kfX7_18 (by first | exact sh129 | exact sh130 | rfl | assumption) rfl ?_
      refine xt_iconst (1) dX7_drawDeed_49 (by decide) ?_
      refine xt_aload_n _ dX7_drawDeed_50 rfl ?_
      refine xt_aload_n _ dX7_drawDeed_51 rfl ?_
      refine xt_getr _ dX7_drawDeed_52 kfX7_12 (by first | exact sh129 | exact sh130 | rfl | assumption) rfl ?_
      refine xt_geti dX7_drawDeed_55 kfX7_97 sh130 rfl ?_
      change x_T _ _ _ _ _ (.int (μ 130 4) :: _) _ _ _
      rw [e4]
      refine xt_cV _ dX7_drawDeed_58 klX7_87 (hDB _ _ _ (σ.1 4) (by omega) (by omega)) sh129 rfl rfl (Nat.le_of_ble_eq_true rfl) ?_
      refine xt_ast dX7_drawDeed_61 (by first | exact sh129 | exact sh130 | rfl | assumption) (by unfold vp_in; decide) ?_
      refine xt_iload_n _ dX7_drawDeed_62 rfl ?_
      refine xt_iconst (3) dX7_drawDeed_63 (by decide) ?_
      refine xt_icmp_ne 94 dX7_drawDeed_64 (by decide) (fun _ => ?_) (fun q => absurd q (by decide))
      refine xt_iload_n _ dX7_drawDeed_94 rfl ?_
      refine xt_iconst (2) dX7_drawDeed_95 (by decide) ?_
      refine xt_icmp_eq 124 dX7_drawDeed_96 (by decide) (fun q => absurd q (by decide)) (fun _ => ?_)
      refine xt_aload_n _ dX7_drawDeed_99 rfl ?_
      refine xt_getr _ dX7_drawDeed_100 kfX7_18 (by first | exact sh129 | exact sh130 | rfl | assumption) rfl ?_
      refine xt_iconst (2) dX7_drawDeed_103 (by decide) ?_
      refine xt_aload_n _ dX7_drawDeed_104 rfl ?_
      refine xt_bipush (6) dX7_drawDeed_105 (by decide) ?_
      refine xt_cV _ dX7_drawDeed_107 klX7_87 (hDB _ _ _ 6 (by decide) (by omega)) sh129 rfl rfl (Nat.le_of_ble_eq_true rfl) ?_
      refine xt_ast dX7_drawDeed_110 (by first | exact sh129 | exact sh130 | rfl | assumption) (by unfold vp_in; decide) ?_
      refine xt_aload_n _ dX7_drawDeed_111 rfl ?_
      refine xt_getr _ dX7_drawDeed_112 kfX7_18 (by first | exact sh129 | exact sh130 | rfl | assumption) rfl ?_
      refine xt_iconst (3) dX7_drawDeed_115 (by decide) ?_
      refine xt_iconst (1) dX7_drawDeed_116 (by decide) ?_
      refine xt_aload_n _ dX7_drawDeed_117 rfl ?_
      refine xt_iconst (3) dX7_drawDeed_118 (by decide) ?_
      refine xt_cV _ dX7_drawDeed_119 klX7_87 (hDB _ _ _ 3 (by decide) (by omega)) sh129 rfl rfl (Nat.le_of_ble_eq_true rfl) ?_
      refine xt_iadd dX7_drawDeed_122 ?_
      refine xt_ast dX7_drawDeed_123 (by first | exact sh129 | exact sh130 | rfl | assumption) (by unfold vp_in; decide) ?_
      refine xt_iconst (1) dX7_drawDeed_124 (by decide) ?_
      refine xt_iret .boolean dX7_drawDeed_125 rfl rfl ?_
      refine ⟨true, 4, (dw (sd (μ 129 13)) (σ.1 4)), (dw (sd (sd (μ 129 13))) 6), (1 + dw (sd (sd (sd (μ 129 13)))) 3), rfl, ?_, ?_, ?_, ?_, ?_⟩
      · rw [hL]; rfl
      · intro _
        refine ⟨⟨rfl, by decide, ?_, ?_⟩, by rw [hL]⟩
        · intro _; refine ⟨rfl, ?_⟩; omega
        · intro _; refine ⟨rfl, nI_add 1 _, ?_, ?_, ?_⟩; omega; omega; intro z; exact ⟨by omega, by omega⟩
      · intro z; exact absurd z (by decide)
      · intro j hj; simp only [x_u_eq, x_u_ne (show 129 ≠ 136 by decide), pk_un hj]
      · intro a h1 h2; simp only [x_u_ne h1, x_u_ne h2]
  · skip
    by_cases h0 : σ.1 4 = 0
    · have hL : s_lot dw sd σ (μ 129 13) = (σ, (sd (μ 129 13))) := by unfold s_lot; rw [hs, if_neg (by decide), if_pos h0]
      refine xt_gets (RX7, "BY_LOT", 1000204, [0, 0, 0, 3, 3, 4, 5, 5, 2, 1]) dX7_drawDeed_0 (by decide) (by decide) ksX7_84 ?_
      refine xt_aload_n _ dX7_drawDeed_3 rfl ?_
      refine xt_gets (RX7, "BY_LOT", 1000204, [0, 0, 0, 3, 3, 4, 5, 5, 2, 1]) dX7_drawDeed_4 (by decide) (by decide) ksX7_84 ?_
      refine xt_alenT (nI 10) dX7_drawDeed_7 (x_rowB sc) rfl ?_
      refine xt_cV _ dX7_drawDeed_8 klX7_87 (hDB _ μ w 10 (by decide) (by decide)) sh129 rfl rfl (Nat.le_of_ble_eq_true rfl) ?_
      refine xt_cS _ dX7_drawDeed_11 klX7_91 (tX8_atT sc _ _ _ (x_rowB sc) (by decide) _) rfl rfl (Nat.le_of_ble_eq_true rfl) ?_
      rw [s_blI _ hr, hs]
      change x_T _ _ _ _ _ (.int (nI 5) :: _) _ _ _
      refine xt_istore_n dX7_drawDeed_14 (by decide) rfl ?_
      change x_T _ _ _ _ [_, _] _ _ _ _
      refine xt_aload_n _ dX7_drawDeed_15 rfl ?_
      refine xt_getr _ dX7_drawDeed_16 kfX7_18 (by first | exact sh129 | exact sh130 | rfl | assumption) rfl ?_
      refine xt_iconst (0) dX7_drawDeed_19 (by decide) ?_
      refine xt_iload_n _ dX7_drawDeed_20 rfl ?_
      refine xt_ast dX7_drawDeed_21 (by first | exact sh129 | exact sh130 | rfl | assumption) (by unfold vp_in; decide) ?_
      refine xt_iload_n _ dX7_drawDeed_22 rfl ?_
      refine xt_if_eq 31 dX7_drawDeed_23 (by decide) (fun q => absurd q (by decide)) (fun _ => ?_)
      refine xt_iload_n _ dX7_drawDeed_26 rfl ?_
      refine xt_iconst (1) dX7_drawDeed_27 (by decide) ?_
      refine xt_icmp_ne 33 dX7_drawDeed_28 (by decide) (fun _ => ?_) (fun q => absurd q (by decide))
      refine xt_aload_n _ dX7_drawDeed_33 rfl ?_
      refine xt_getr _ dX7_drawDeed_34 kfX7_12 (by first | exact sh129 | exact sh130 | rfl | assumption) rfl ?_
      refine xt_geti dX7_drawDeed_37 kfX7_97 sh130 rfl ?_
      change x_T _ _ _ _ _ (.int (μ 130 4) :: _) _ _ _
      rw [e4]
      refine xt_if_ne 45 dX7_drawDeed_40 (by decide) (fun q => absurd (by rw [h0]; rfl) q) (fun _ => ?_)
      refine xt_iconst (0) dX7_drawDeed_43 (by decide) ?_
      refine xt_iret .boolean dX7_drawDeed_44 rfl rfl ?_
      refine ⟨false, 5, 0, 0, 0, rfl, ?_, ?_, ?_, ?_, ?_⟩
      · rw [hL]; rfl
      · intro z; exact absurd z (by decide)
      · intro _; rw [hL]
      · intro j hj; simp only [x_u_eq, x_u_ne (show 129 ≠ 136 by decide), pk_un hj]
      · intro a h1 h2; simp only [x_u_ne h1, x_u_ne h2]
    · have hL : s_lot dw sd σ (μ 129 13) = ((s_act σ 5 (dw (sd (μ 129 13)) (σ.1 4)) (dw (sd (sd (μ 129 13))) 6) (1 + dw (sd (sd (sd (μ 129 13)))) 3)).2, (sd (sd (sd (sd (μ 129 13)))))) := by unfold s_lot; rw [hs, if_neg (by decide), if_neg h0, if_neg (by decide), if_neg (by decide)]
      have hg8 := hdl (sd (μ 129 13)) _ (show 0 < σ.1 4 by omega)
      refine xt_gets (RX7, "BY_LOT", 1000204, [0, 0, 0, 3, 3, 4, 5, 5, 2, 1]) dX7_drawDeed_0 (by decide) (by decide) ksX7_84 ?_
      refine xt_aload_n _ dX7_drawDeed_3 rfl ?_
      refine xt_gets (RX7, "BY_LOT", 1000204, [0, 0, 0, 3, 3, 4, 5, 5, 2, 1]) dX7_drawDeed_4 (by decide) (by decide) ksX7_84 ?_
      refine xt_alenT (nI 10) dX7_drawDeed_7 (x_rowB sc) rfl ?_
      refine xt_cV _ dX7_drawDeed_8 klX7_87 (hDB _ μ w 10 (by decide) (by decide)) sh129 rfl rfl (Nat.le_of_ble_eq_true rfl) ?_
      refine xt_cS _ dX7_drawDeed_11 klX7_91 (tX8_atT sc _ _ _ (x_rowB sc) (by decide) _) rfl rfl (Nat.le_of_ble_eq_true rfl) ?_
      rw [s_blI _ hr, hs]
      change x_T _ _ _ _ _ (.int (nI 5) :: _) _ _ _
      refine xt_istore_n dX7_drawDeed_14 (by decide) rfl ?_
      change x_T _ _ _ _ [_, _] _ _ _ _
      refine xt_aload_n _ dX7_drawDeed_15 rfl ?_
      refine xt_getr _ dX7_drawDeed_16 kfX7_18 (by first | exact sh129 | exact sh130 | rfl | assumption) rfl ?_
      refine xt_iconst (0) dX7_drawDeed_19 (by decide) ?_
      refine xt_iload_n _ dX7_drawDeed_20 rfl ?_
      refine xt_ast dX7_drawDeed_21 (by first | exact sh129 | exact sh130 | rfl | assumption) (by unfold vp_in; decide) ?_
      refine xt_iload_n _ dX7_drawDeed_22 rfl ?_
      refine xt_if_eq 31 dX7_drawDeed_23 (by decide) (fun q => absurd q (by decide)) (fun _ => ?_)
      refine xt_iload_n _ dX7_drawDeed_26 rfl ?_
      refine xt_iconst (1) dX7_drawDeed_27 (by decide) ?_
      refine xt_icmp_ne 33 dX7_drawDeed_28 (by decide) (fun _ => ?_) (fun q => absurd q (by decide))
      refine xt_aload_n _ dX7_drawDeed_33 rfl ?_
      refine xt_getr _ dX7_drawDeed_34 kfX7_12 (by first | exact sh129 | exact sh130 | rfl | assumption) rfl ?_
      refine xt_geti dX7_drawDeed_37 kfX7_97 sh130 rfl ?_
      change x_T _ _ _ _ _ (.int (μ 130 4) :: _) _ _ _
      rw [e4]
      refine xt_if_ne 45 dX7_drawDeed_40 (by decide) (fun _ => ?_) (fun q => absurd q (nI_ne0 (by omega) (by omega)))
      refine xt_aload_n _ dX7_drawDeed_45 rfl ?_
      refine xt_getr _ dX7_drawDeed_46 kfX7_18 (by first | exact sh129 | exact sh130 | rfl | assumption) rfl ?_
      refine xt_iconst (1) dX7_drawDeed_49 (by decide) ?_
      refine xt_aload_n _ dX7_drawDeed_50 rfl ?_
      refine xt_aload_n _ dX7_drawDeed_51 rfl ?_
      refine xt_getr _ dX7_drawDeed_52 kfX7_12 (by first | exact sh129 | exact sh130 | rfl | assumption) rfl ?_
      refine xt_geti dX7_drawDeed_55 kfX7_97 sh130 rfl ?_
      change x_T _ _ _ _ _ (.int (μ 130 4) :: _) _ _ _
      rw [e4]
      refine xt_cV _ dX7_drawDeed_58 klX7_87 (hDB _ _ _ (σ.1 4) (by omega) (by omega)) sh129 rfl rfl (Nat.le_of_ble_eq_true rfl) ?_
      refine xt_ast dX7_drawDeed_61 (by first | exact sh129 | exact sh130 | rfl | assumption) (by unfold vp_in; decide) ?_
      refine xt_iload_n _ dX7_drawDeed_62 rfl ?_
      refine xt_iconst (3) dX7_drawDeed_63 (by decide) ?_
      refine xt_icmp_ne 94 dX7_drawDeed_64 (by decide) (fun _ => ?_) (fun q => absurd q (by decide))
      refine xt_iload_n _ dX7_drawDeed_94 rfl ?_
      refine xt_iconst (2) dX7_drawDeed_95 (by decide) ?_
      refine xt_icmp_eq 124 dX7_drawDeed_96 (by decide) (fun q => absurd q (by decide)) (fun _ => ?_)
      refine xt_aload_n _ dX7_drawDeed_99 rfl ?_
      refine xt_getr _ dX7_drawDeed_100 kfX7_18 (by first | exact sh129 | exact sh130 | rfl | assumption) rfl ?_
      refine xt_iconst (2) dX7_drawDeed_103 (by decide) ?_
      refine xt_aload_n _ dX7_drawDeed_104 rfl ?_
      refine xt_bipush (6) dX7_drawDeed_105 (by decide) ?_
      refine xt_cV _ dX7_drawDeed_107 klX7_87 (hDB _ _ _ 6 (by decide) (by omega)) sh129 rfl rfl (Nat.le_of_ble_eq_true rfl) ?_
      refine xt_ast dX7_drawDeed_110 (by first | exact sh129 | exact sh130 | rfl | assumption) (by unfold vp_in; decide) ?_
      refine xt_aload_n _ dX7_drawDeed_111 rfl ?_
      refine xt_getr _ dX7_drawDeed_112 kfX7_18 (by first | exact sh129 | exact sh130 | rfl | assumption) rfl ?_
      refine xt_iconst (3) dX7_drawDeed_115 (by decide) ?_
      refine xt_iconst (1) dX7_drawDeed_116 (by decide) ?_
      refine xt_aload_n _ dX7_drawDeed_117 rfl ?_
      refine xt_iconst (3) dX7_drawDeed_118 (by decide) ?_
      refine xt_cV _ dX7_drawDeed_119 klX7_87 (hDB _ _ _ 3 (by decide) (by omega)) sh129 rfl rfl (Nat.le_of_ble_eq_true rfl) ?_
      refine xt_iadd dX7_drawDeed_122 ?_
      refine xt_ast dX7_drawDeed_123 (by first | exact sh129 | exact sh130 | rfl | assumption) (by unfold vp_in; decide) ?_
      refine xt_iconst (1) dX7_drawDeed_124 (by decide) ?_
      refine xt_iret .boolean dX7_drawDeed_125 rfl rfl ?_
      refine ⟨true, 5, (dw (sd (μ 129 13)) (σ.1 4)), (dw (sd (sd (μ 129 13))) 6), (1 + dw (sd (sd (sd (μ 129 13)))) 3), rfl, ?_, ?_, ?_, ?_, ?_⟩
      · rw [hL]; rfl
      · intro _
        refine ⟨⟨rfl, by decide, ?_, ?_⟩, by rw [hL]⟩
        · intro _; refine ⟨rfl, ?_⟩; omega
        · intro _; refine ⟨rfl, nI_add 1 _, ?_, ?_, ?_⟩; omega; omega; intro z; exact ⟨by omega, by omega⟩
      · intro z; exact absurd z (by decide)
      · intro j hj; simp only [x_u_eq, x_u_ne (show 129 ≠ 136 by decide), pk_un hj]
      · intro a h1 h2; simp only [x_u_ne h1, x_u_ne h2]
set_option maxHeartbeats 2000000 in
theorem tX7_runByLot (dw : Int32 → Nat → Nat) (sd : Int32 → Int32) (hdl : ∀ x n, 0 < n → dw x n < n) (hDB : ∀ (d : Nat) (μ : x_Me) (w : Int64) (n : Nat), 0 < n → n < 2 ^ 31 → x_D sc d mX7_drawBelow [.ref 129, .int (nI n)] μ w (some (.int (nI (dw (μ 129 13) n)))) (x_u μ 129 (upd (μ 129) 13 (sd (μ 129 13)))) w) (k N : Nat) (F : Nat → Nat) (hS : f_S k) (hk : k + 5 < 129) (hW : f_W F) (hCF : f_C μ k F) (x : Int32) (hN : N ≤ 60) : x_K sc (d + 6) mX7_runByLot [.ref 129, .ref k, .int x, .int (nI N)] μ w (fun r μ' _ => r = none ∧ c_St μ' (s_lts dw sd (F, s_c0) x N).1 ∧ ∀ a, (a < 129 ∨ 136 < a) → μ' a = μ a) := by
  refine x_K.of (by decide) (Nat.le_of_ble_eq_true rfl) ?_
  show x_T sc (d + 6) mX7_runByLot 0 [.ref 129, .ref k, .int x, .int (nI N), .retAddr 0] [] μ w _
  refine xt_aload_n _ dX7_runByLot_0 rfl ?_
  refine xt_aload_n _ dX7_runByLot_1 rfl ?_
  refine xt_callV _ dX7_runByLot_2 klX7_22 (tX7_begin sc _ μ w k F hS hk hW hCF) sh129 rfl rfl (Nat.le_of_ble_eq_true rfl) (fun r2 μ2 w2 q2 => ?_)
  obtain ⟨rfl, hc2, hf2⟩ := q2
  change x_T _ _ _ _ _ [] _ _ _
  refine xt_aload_n _ dX7_runByLot_5 rfl ?_
  refine xt_iload_n _ dX7_runByLot_6 rfl ?_
  refine xt_puti dX7_runByLot_7 kpX7_36 (by first | exact sh129 | exact hS.1 | rfl | assumption) rfl (by first | rfl | assumption) (by first | rfl | assumption) ?_
  refine xt_iconst (0) dX7_runByLot_10 (by decide) ?_
  refine xt_istore dX7_runByLot_11 (by decide) rfl ?_
  change x_T _ _ _ _ [_, _, _, _, _] _ _ _ _
  have L13 : ∀ (n13 m : Nat) (μ2 : x_Me) (w2 : Int64) (hc : c_St μ2 (s_lts dw sd (F, s_c0) x m).1) (hx : μ2 129 13 = (s_lts dw sd (F, s_c0) x m).2) (hf : ∀ a, (a < 129 ∨ 136 < a) → μ2 a = μ a), m + n13 = N → x_T sc (d + 6) mX7_runByLot 13 [.ref 129, .ref k, .int x, .int (nI N), .int (nI m)] [] μ2 w2 (fun r μ' _ => r = none ∧ c_St μ' (s_lts dw sd (F, s_c0) x N).1 ∧ ∀ a, (a < 129 ∨ 136 < a) → μ' a = μ a) := by
    intro n13
    induction n13 with
    | zero =>
      intro m μ2 w2 hc hx hf hmn
      obtain rfl : N = m := by omega
      refine xt_iload _ dX7_runByLot_13 rfl ?_
      refine xt_iload_n _ dX7_runByLot_15 rfl ?_
      refine xt_icmp_ge 61 dX7_runByLot_16 (by decide) (fun _ => ?_) (fun q => absurd (Int32.le_refl _) q)
      exact xt_ret dX7_runByLot_61 rfl ⟨rfl, hc, hf⟩
    | succ n13 ih13 =>
      intro m μ2 w2 hc hx hf hmn
      have hlt : m < N := by omega
      have hok := s_lts_ok dw sd hdl (s_ok0 hW) x m
      refine xt_iload _ dX7_runByLot_13 rfl ?_
      refine xt_iload_n _ dX7_runByLot_15 rfl ?_
      refine xt_icmp_ge 61 dX7_runByLot_16 (by decide) (fun q => absurd q (nI_ge hlt (by omega))) (fun _ => ?_)
      refine xt_aload_n _ dX7_runByLot_19 rfl ?_
      refine xt_callV _ dX7_runByLot_20 klX7_40 (tX7_drawDeed sc _ μ2 _ dw sd hdl hDB (s_lts dw sd (F, s_c0) x m).1 hok hc) sh129 rfl rfl (Nat.le_of_ble_eq_true rfl) (fun r3 μ3 w3 q3 => ?_)
      obtain ⟨ok, s, a, b, c, rfl, h13, hy, hn, hj, hfr⟩ := q3
      change x_T _ _ _ _ _ (.int _ :: _) _ _ _
      have hc3 : c_St μ3 (s_lts dw sd (F, s_c0) x m).1 := ⟨hc.1.cg (fun j hj => hfr _ (by omega) (by omega)), fun i h1 h2 => by rw [hj i (by omega)]; exact hc.2 i h1 h2⟩
      rw [hx] at h13 hy hn
      refine xt_if_eq 55 dX7_runByLot_23 (by decide) (fun t23 => ?_) (fun f23 => ?_)
      · refine xt_inc _ (1) dX7_runByLot_55 rfl (by decide) (by decide) rfl ?_
        change x_T _ _ _ _ [_, _, _, _, _] _ _ _ _
        refine xt_goto 13 dX7_runByLot_58 (by decide) ?_
        have hok0 : ok = false := by cases ok; rfl; exact absurd t23 (by decide)
        refine x_T.ls (by rw [nI_succ m]) (ih13 (m + 1) μ3 w3 (by show c_St μ3 (s_lot _ _ _ _).1; rw [hn hok0]; exact hc3) (by rw [h13]; rfl) (fun a ha => by rw [hfr a (by omega) (by omega)]; exact hf a ha) (by omega))
      · refine xt_aload_n _ dX7_runByLot_26 rfl ?_
        refine xt_aload_n _ dX7_runByLot_27 rfl ?_
        refine xt_getr _ dX7_runByLot_28 kfX7_18 (by first | exact sh129 | exact hS.1 | rfl | assumption) rfl ?_
        refine xt_iconst (0) dX7_runByLot_31 (by decide) ?_
        refine xt_ald dX7_runByLot_32 (by first | exact sh129 | exact hS.1 | rfl | assumption) (by unfold vp_in; decide) ?_
        refine xt_aload_n _ dX7_runByLot_33 rfl ?_
        refine xt_getr _ dX7_runByLot_34 kfX7_18 (by first | exact sh129 | exact hS.1 | rfl | assumption) rfl ?_
        refine xt_iconst (1) dX7_runByLot_37 (by decide) ?_
        refine xt_ald dX7_runByLot_38 (by first | exact sh129 | exact hS.1 | rfl | assumption) (by unfold vp_in; decide) ?_
        refine xt_aload_n _ dX7_runByLot_39 rfl ?_
        refine xt_getr _ dX7_runByLot_40 kfX7_18 (by first | exact sh129 | exact hS.1 | rfl | assumption) rfl ?_
        refine xt_iconst (2) dX7_runByLot_43 (by decide) ?_
        refine xt_ald dX7_runByLot_44 (by first | exact sh129 | exact hS.1 | rfl | assumption) (by unfold vp_in; decide) ?_
        refine xt_aload_n _ dX7_runByLot_45 rfl ?_
        refine xt_getr _ dX7_runByLot_46 kfX7_18 (by first | exact sh129 | exact hS.1 | rfl | assumption) rfl ?_
        refine xt_iconst (3) dX7_runByLot_49 (by decide) ?_
        refine xt_ald dX7_runByLot_50 (by first | exact sh129 | exact hS.1 | rfl | assumption) (by unfold vp_in; decide) ?_
        have hok1 : ok = true := by cases ok; exact absurd rfl f23; rfl
        obtain ⟨hq, hst⟩ := hy hok1
        change x_T _ _ _ _ _ (.int (μ3 136 3) :: .int (μ3 136 2) :: .int (μ3 136 1) :: .int (μ3 136 0) :: _) _ _ _
        refine xt_callV _ dX7_runByLot_51 klX7_32 (tX7_act sc _ μ3 _ (s_lts dw sd (F, s_c0) x m).1 hok hc3 _ _ _ _ s a b c hq) sh129 rfl rfl (Nat.le_of_ble_eq_true rfl) (fun r4 μ4 w4 q4 => ?_)
        obtain ⟨rfl, hc4, hf4⟩ := q4
        change x_T _ _ _ _ _ (.int _ :: _) _ _ _
        refine xt_pop dX7_runByLot_54 rfl ?_
        refine xt_inc _ (1) dX7_runByLot_55 rfl (by decide) (by decide) rfl ?_
        change x_T _ _ _ _ [_, _, _, _, _] _ _ _ _
        refine xt_goto 13 dX7_runByLot_58 (by decide) ?_
        refine x_T.ls (by rw [nI_succ m]) (ih13 (m + 1) μ4 w4 (by show c_St μ4 (s_lot _ _ _ _).1; rw [hst]; exact hc4) (by rw [hf4.2, h13]; rfl) (fun a ha => by rw [hf4.1 a (by omega), hfr a (by omega) (by omega)]; exact hf a ha) (by omega))
  refine L13 N 0 _ w2 ⟨hc2.1.cg (fun j hj => x_u_ne (by omega)), fun i h1 h2 => ?_⟩ rfl (fun a ha => by rw [x_u_ne (by omega)]; exact hf2.1 a (by omega)) (by omega)
  rw [x_u_eq, pk_un (by omega)]; exact hc2.2 i h1 h2
theorem m_St.seed {μ : x_Me} {f : Nat} {σ : s_St} (h : m_St μ f σ) (v : Int32) : m_St (x_u μ 152 (upd (μ 152) 51 v)) f σ := ⟨h.1.cg (fun j h1 h2 => by rw [x_u_eq, pk_un (by omega)]) (fun a ha => x_u_ne ha), h.2.1, h.2.2⟩
set_option maxHeartbeats 8000000 in
theorem tX12_drawDeed (dw : Int32 → Nat → Nat) (sd : Int32 → Int32) (hdl : ∀ x n, 0 < n → dw x n < n) (hDM : ∀ (d : Nat) (μ : x_Me) (w : Int64) (n : Nat), 0 < n → n < 2 ^ 31 → x_D sc d mX12_draw [.ref 152, .int (nI n)] μ w (some (.int (nI (dw (μ 152 51) n)))) (x_u μ 152 (upd (μ 152) 51 (sd (μ 152 51)))) w) (f : Nat) (σ : s_St) (hok : s_ok σ) (hm : m_St μ f σ) : x_K sc (d + 6) mX12_drawDeed [.ref 152] μ w (fun r μ' _ => r = none ∧ m_St μ' f (s_lot dw sd σ (μ 152 51)).1 ∧ μ' 152 51 = (s_lot dw sd σ (μ 152 51)).2 ∧ ∀ a, a ≠ 152 → a ≠ 163 → a ≠ 164 → a ≠ 165 → μ' a = μ a) := by
  have hW : f_W σ.1 := hok.1
  have h8 : σ.1 4 ≤ 8 := hW.1.2.2.2.2.1
  have e4 : μ 152 24 = nI (σ.1 4) := hm.1.1.2.2.2.1
  have hr := hdl (μ 152 51) _ (show 0 < 10 by decide)
  have hb10 := hdl (sd (sd (μ 152 51))) _ (show 0 < 10 by decide)
  have hc10 := hdl (sd (sd (sd (μ 152 51)))) _ (show 0 < 10 by decide)
  have hb6 := hdl (sd (sd (μ 152 51))) _ (show 0 < 6 by decide)
  have hc3 := hdl (sd (sd (sd (μ 152 51)))) _ (show 0 < 3 by decide)
  refine x_K.of (by decide) (Nat.le_of_ble_eq_true rfl) ?_
  show x_T sc (d + 6) mX12_drawDeed 0 [.ref 152, .retAddr 0, .retAddr 0, .retAddr 0, .retAddr 0] [] μ w _
  have hs' : (dw (μ 152 51) 10) = 0 ∨ (dw (μ 152 51) 10) = 1 ∨ (dw (μ 152 51) 10) = 2 ∨ (dw (μ 152 51) 10) = 3 ∨ (dw (μ 152 51) 10) = 4 ∨ (dw (μ 152 51) 10) = 5 ∨ (dw (μ 152 51) 10) = 6 ∨ (dw (μ 152 51) 10) = 7 ∨ (dw (μ 152 51) 10) = 8 ∨ (dw (μ 152 51) 10) = 9 := by omega
  rcases hs' with hs | hs | hs | hs | hs | hs | hs | hs | hs | hs
  · skip
    have hL : s_lot dw sd σ (μ 152 51) = ((s_act σ 0 0 0 0).2, (sd (μ 152 51))) := by unfold s_lot; rw [hs, show s_bl 0 = 0 from rfl, if_pos (by decide)]
    refine xt_aload_n _ dX12_drawDeed_0 rfl ?_
    refine xt_bipush (10) dX12_drawDeed_1 (by decide) ?_
    refine xt_cV _ dX12_drawDeed_3 klX12_471 (hDM _ μ w 10 (by decide) (by decide)) sh152 rfl rfl (Nat.le_of_ble_eq_true rfl) ?_
    rw [hs]
    refine xt_istore_n dX12_drawDeed_6 (by decide) rfl ?_
    change x_T _ _ _ _ [_, _, _, _, _] _ _ _ _
    refine xt_iload_n _ dX12_drawDeed_7 rfl ?_
    refine xt_iconst (3) dX12_drawDeed_8 (by decide) ?_
    refine xt_icmp_lt 18 dX12_drawDeed_9 (by decide) (fun _ => ?_) (fun q => absurd (by decide) q)
    refine xt_aload_n _ dX12_drawDeed_18 rfl ?_
    refine xt_iload_n _ dX12_drawDeed_19 rfl ?_
    refine xt_bipush (9) dX12_drawDeed_20 (by decide) ?_
    refine xt_icmp_ne 29 dX12_drawDeed_22 (by decide) (fun _ => ?_) (fun q => absurd q (by decide))
    refine xt_iconst (0) dX12_drawDeed_29 (by decide) ?_
    refine xt_iconst (-1) dX12_drawDeed_30 (by decide) ?_
    refine xt_iconst (-1) dX12_drawDeed_31 (by decide) ?_
    refine xt_iconst (-1) dX12_drawDeed_32 (by decide) ?_
    refine xt_callV _ dX12_drawDeed_33 klX12_337 (tX12_does sc _ (x_u μ 152 (upd (μ 152) 51 (sd (μ 152 51)))) _ f σ hok (hm.seed _) _ _ _ _ 0 0 0 0 ⟨rfl, by decide, fun z => absurd z (by decide), fun z => absurd z (by decide)⟩) sh152 rfl rfl (Nat.le_of_ble_eq_true rfl) (fun r3 μ3 w3 q3 => ?_)
    obtain ⟨rfl, hm3, hf3⟩ := q3
    change x_T _ _ _ _ _ (.int _ :: _) _ _ _
    refine xt_pop dX12_drawDeed_36 rfl ?_
    exact xt_ret dX12_drawDeed_37 rfl (by rw [hL]; exact ⟨rfl, hm3, hf3.2.2, fun a h1 h2 h3 h4 => by rw [hf3.1 a h1 h2 h3 h4, x_u_ne h1]⟩)
  · skip
    have hL : s_lot dw sd σ (μ 152 51) = ((s_act σ 0 0 0 0).2, (sd (μ 152 51))) := by unfold s_lot; rw [hs, show s_bl 1 = 0 from rfl, if_pos (by decide)]
    refine xt_aload_n _ dX12_drawDeed_0 rfl ?_
    refine xt_bipush (10) dX12_drawDeed_1 (by decide) ?_
    refine xt_cV _ dX12_drawDeed_3 klX12_471 (hDM _ μ w 10 (by decide) (by decide)) sh152 rfl rfl (Nat.le_of_ble_eq_true rfl) ?_
    rw [hs]
    refine xt_istore_n dX12_drawDeed_6 (by decide) rfl ?_
    change x_T _ _ _ _ [_, _, _, _, _] _ _ _ _
    refine xt_iload_n _ dX12_drawDeed_7 rfl ?_
    refine xt_iconst (3) dX12_drawDeed_8 (by decide) ?_
    refine xt_icmp_lt 18 dX12_drawDeed_9 (by decide) (fun _ => ?_) (fun q => absurd (by decide) q)
    refine xt_aload_n _ dX12_drawDeed_18 rfl ?_
    refine xt_iload_n _ dX12_drawDeed_19 rfl ?_
    refine xt_bipush (9) dX12_drawDeed_20 (by decide) ?_
    refine xt_icmp_ne 29 dX12_drawDeed_22 (by decide) (fun _ => ?_) (fun q => absurd q (by decide))
    refine xt_iconst (0) dX12_drawDeed_29 (by decide) ?_
    refine xt_iconst (-1) dX12_drawDeed_30 (by decide) ?_
    refine xt_iconst (-1) dX12_drawDeed_31 (by decide) ?_
    refine xt_iconst (-1) dX12_drawDeed_32 (by decide) ?_
    refine xt_callV _ dX12_drawDeed_33 klX12_337 (tX12_does sc _ (x_u μ 152 (upd (μ 152) 51 (sd (μ 152 51)))) _ f σ hok (hm.seed _) _ _ _ _ 0 0 0 0 ⟨rfl, by decide, fun z => absurd z (by decide), fun z => absurd z (by decide)⟩) sh152 rfl rfl (Nat.le_of_ble_eq_true rfl) (fun r3 μ3 w3 q3 => ?_)
    obtain ⟨rfl, hm3, hf3⟩ := q3
    change x_T _ _ _ _ _ (.int _ :: _) _ _ _
    refine xt_pop dX12_drawDeed_36 rfl ?_
    exact xt_ret dX12_drawDeed_37 rfl (by rw [hL]; exact ⟨rfl, hm3, hf3.2.2, fun a h1 h2 h3 h4 => by rw [hf3.1 a h1 h2 h3 h4, x_u_ne h1]⟩)
  · skip
    have hL : s_lot dw sd σ (μ 152 51) = ((s_act σ 0 0 0 0).2, (sd (μ 152 51))) := by unfold s_lot; rw [hs, show s_bl 2 = 0 from rfl, if_pos (by decide)]
    refine xt_aload_n _ dX12_drawDeed_0 rfl ?_
    refine xt_bipush (10) dX12_drawDeed_1 (by decide) ?_
    refine xt_cV _ dX12_drawDeed_3 klX12_471 (hDM _ μ w 10 (by decide) (by decide)) sh152 rfl rfl (Nat.le_of_ble_eq_true rfl) ?_
    rw [hs]
    refine xt_istore_n dX12_drawDeed_6 (by decide) rfl ?_
    change x_T _ _ _ _ [_, _, _, _, _] _ _ _ _
    refine xt_iload_n _ dX12_drawDeed_7 rfl ?_
    refine xt_iconst (3) dX12_drawDeed_8 (by decide) ?_
    refine xt_icmp_lt 18 dX12_drawDeed_9 (by decide) (fun _ => ?_) (fun q => absurd (by decide) q)
    refine xt_aload_n _ dX12_drawDeed_18 rfl ?_
    refine xt_iload_n _ dX12_drawDeed_19 rfl ?_
    refine xt_bipush (9) dX12_drawDeed_20 (by decide) ?_
    refine xt_icmp_ne 29 dX12_drawDeed_22 (by decide) (fun _ => ?_) (fun q => absurd q (by decide))
    refine xt_iconst (0) dX12_drawDeed_29 (by decide) ?_
    refine xt_iconst (-1) dX12_drawDeed_30 (by decide) ?_
    refine xt_iconst (-1) dX12_drawDeed_31 (by decide) ?_
    refine xt_iconst (-1) dX12_drawDeed_32 (by decide) ?_
    refine xt_callV _ dX12_drawDeed_33 klX12_337 (tX12_does sc _ (x_u μ 152 (upd (μ 152) 51 (sd (μ 152 51)))) _ f σ hok (hm.seed _) _ _ _ _ 0 0 0 0 ⟨rfl, by decide, fun z => absurd z (by decide), fun z => absurd z (by decide)⟩) sh152 rfl rfl (Nat.le_of_ble_eq_true rfl) (fun r3 μ3 w3 q3 => ?_)
    obtain ⟨rfl, hm3, hf3⟩ := q3
    change x_T _ _ _ _ _ (.int _ :: _) _ _ _
    refine xt_pop dX12_drawDeed_36 rfl ?_
    exact xt_ret dX12_drawDeed_37 rfl (by rw [hL]; exact ⟨rfl, hm3, hf3.2.2, fun a h1 h2 h3 h4 => by rw [hf3.1 a h1 h2 h3 h4, x_u_ne h1]⟩)
  · skip
    by_cases h0 : σ.1 4 = 0
    · have hL : s_lot dw sd σ (μ 152 51) = (σ, (sd (μ 152 51))) := by unfold s_lot; rw [hs, show s_bl 3 = 3 from rfl, if_neg (by decide), if_pos h0]
      refine xt_aload_n _ dX12_drawDeed_0 rfl ?_
      refine xt_bipush (10) dX12_drawDeed_1 (by decide) ?_
      refine xt_cV _ dX12_drawDeed_3 klX12_471 (hDM _ μ w 10 (by decide) (by decide)) sh152 rfl rfl (Nat.le_of_ble_eq_true rfl) ?_
      rw [hs]
      refine xt_istore_n dX12_drawDeed_6 (by decide) rfl ?_
      change x_T _ _ _ _ [_, _, _, _, _] _ _ _ _
      refine xt_iload_n _ dX12_drawDeed_7 rfl ?_
      refine xt_iconst (3) dX12_drawDeed_8 (by decide) ?_
      refine xt_icmp_lt 18 dX12_drawDeed_9 (by decide) (fun q => absurd q (by decide)) (fun _ => ?_)
      refine xt_iload_n _ dX12_drawDeed_12 rfl ?_
      refine xt_bipush (9) dX12_drawDeed_13 (by decide) ?_
      refine xt_icmp_ne 38 dX12_drawDeed_15 (by decide) (fun _ => ?_) (fun q => absurd q (by decide))
      refine xt_aload_n _ dX12_drawDeed_38 rfl ?_
      refine xt_geti dX12_drawDeed_39 kfX12_251 (by first | exact sh152 | rfl | assumption) rfl ?_
      refine xt_if_ne 46 dX12_drawDeed_42 (by decide) (fun q => absurd (show μ 152 24 = 0 by rw [e4, h0]; rfl) q) (fun _ => ?_)
      exact xt_ret dX12_drawDeed_45 rfl (by rw [hL]; exact ⟨rfl, hm.seed _, rfl, fun a h1 _ _ _ => x_u_ne h1⟩)
    · have hL : s_lot dw sd σ (μ 152 51) = ((s_act σ 3 (dw (sd (μ 152 51)) (σ.1 4)) (dw (sd (sd (μ 152 51))) 10) (dw (sd (sd (sd (μ 152 51)))) 10)).2, (sd (sd (sd (sd (μ 152 51)))))) := by unfold s_lot; rw [hs, show s_bl 3 = 3 from rfl, if_neg (by decide), if_neg h0, if_neg (by decide), if_pos rfl]
      have hg8 := hdl (sd (μ 152 51)) _ (show 0 < σ.1 4 by omega)
      refine xt_aload_n _ dX12_drawDeed_0 rfl ?_
      refine xt_bipush (10) dX12_drawDeed_1 (by decide) ?_
      refine xt_cV _ dX12_drawDeed_3 klX12_471 (hDM _ μ w 10 (by decide) (by decide)) sh152 rfl rfl (Nat.le_of_ble_eq_true rfl) ?_
      rw [hs]
      refine xt_istore_n dX12_drawDeed_6 (by decide) rfl ?_
      change x_T _ _ _ _ [_, _, _, _, _] _ _ _ _
      refine xt_iload_n _ dX12_drawDeed_7 rfl ?_
      refine xt_iconst (3) dX12_drawDeed_8 (by decide) ?_
      refine xt_icmp_lt 18 dX12_drawDeed_9 (by decide) (fun q => absurd q (by decide)) (fun _ => ?_)
      refine xt_iload_n _ dX12_drawDeed_12 rfl ?_
      refine xt_bipush (9) dX12_drawDeed_13 (by decide) ?_
      refine xt_icmp_ne 38 dX12_drawDeed_15 (by decide) (fun _ => ?_) (fun q => absurd q (by decide))
      refine xt_aload_n _ dX12_drawDeed_38 rfl ?_
      refine xt_geti dX12_drawDeed_39 kfX12_251 (by first | exact sh152 | rfl | assumption) rfl ?_
      refine xt_if_ne 46 dX12_drawDeed_42 (by decide) (fun _ => ?_) (fun q => absurd q (show ¬ μ 152 24 = 0 by rw [e4]; exact nI_ne0 (by omega) (by omega)))
      refine xt_aload_n _ dX12_drawDeed_46 rfl ?_
      refine xt_aload_n _ dX12_drawDeed_47 rfl ?_
      refine xt_geti dX12_drawDeed_48 kfX12_251 (by first | exact sh152 | rfl | assumption) rfl ?_
      change x_T _ _ _ _ _ (.int (μ 152 24) :: _) _ _ _
      rw [e4]
      refine xt_cV _ dX12_drawDeed_51 klX12_471 (hDM _ _ _ (σ.1 4) (by omega) (by omega)) sh152 rfl rfl (Nat.le_of_ble_eq_true rfl) ?_
      simp only [x_uu, x_u_eq, s_upd2]
      refine xt_istore_n dX12_drawDeed_54 (by decide) rfl ?_
      change x_T _ _ _ _ [_, _, _, _, _] _ _ _ _
      refine xt_iload_n _ dX12_drawDeed_55 rfl ?_
      refine xt_bipush (8) dX12_drawDeed_56 (by decide) ?_
      refine xt_icmp_ne 71 dX12_drawDeed_58 (by decide) (fun _ => ?_) (fun q => absurd q (by decide))
      refine xt_aload_n _ dX12_drawDeed_71 rfl ?_
      refine xt_iload_n _ dX12_drawDeed_72 rfl ?_
      refine xt_iconst (5) dX12_drawDeed_73 (by decide) ?_
      refine xt_icmp_ge 82 dX12_drawDeed_74 (by decide) (fun q => absurd q (by decide)) (fun _ => ?_)
      refine xt_bipush (10) dX12_drawDeed_77 (by decide) ?_
      refine xt_goto 84 dX12_drawDeed_79 (by decide) ?_
      refine xt_cV _ dX12_drawDeed_84 klX12_471 (hDM _ _ _ 10 (by decide) (by omega)) sh152 rfl rfl (Nat.le_of_ble_eq_true rfl) ?_
      simp only [x_uu, x_u_eq, s_upd2]
      refine xt_istore_n dX12_drawDeed_87 (by decide) rfl ?_
      change x_T _ _ _ _ [_, _, _, _, _] _ _ _ _
      refine xt_iload_n _ dX12_drawDeed_88 rfl ?_
      refine xt_iconst (5) dX12_drawDeed_89 (by decide) ?_
      refine xt_icmp_ge 102 dX12_drawDeed_90 (by decide) (fun q => absurd q (by decide)) (fun _ => ?_)
      refine xt_aload_n _ dX12_drawDeed_93 rfl ?_
      refine xt_bipush (10) dX12_drawDeed_94 (by decide) ?_
      refine xt_cV _ dX12_drawDeed_96 klX12_471 (hDM _ _ _ 10 (by decide) (by omega)) sh152 rfl rfl (Nat.le_of_ble_eq_true rfl) ?_
      simp only [x_uu, x_u_eq, s_upd2]
      refine xt_goto 109 dX12_drawDeed_99 (by decide) ?_
      refine xt_istore dX12_drawDeed_109 (by decide) rfl ?_
      change x_T _ _ _ _ [_, _, _, _, _] _ _ _ _
      refine xt_aload_n _ dX12_drawDeed_111 rfl ?_
      refine xt_iload_n _ dX12_drawDeed_112 rfl ?_
      refine xt_iconst (5) dX12_drawDeed_113 (by decide) ?_
      refine xt_icmp_ge 121 dX12_drawDeed_114 (by decide) (fun q => absurd q (by decide)) (fun _ => ?_)
      refine xt_iconst (3) dX12_drawDeed_117 (by decide) ?_
      refine xt_goto 131 dX12_drawDeed_118 (by decide) ?_
      refine xt_iload_n _ dX12_drawDeed_131 rfl ?_
      refine xt_iload_n _ dX12_drawDeed_132 rfl ?_
      refine xt_iload _ dX12_drawDeed_133 rfl ?_
      refine xt_callV _ dX12_drawDeed_135 klX12_337 (tX12_does sc _ (x_u μ 152 (upd (μ 152) 51 (sd (sd (sd (sd (μ 152 51))))))) _ f σ hok (hm.seed _) _ _ _ _ 3 (dw (sd (μ 152 51)) (σ.1 4)) (dw (sd (sd (μ 152 51))) 10) (dw (sd (sd (sd (μ 152 51)))) 10) ⟨rfl, by decide, fun _ => ⟨rfl, by omega⟩, fun _ => ⟨rfl, rfl, by omega, by omega, fun z => absurd z (by decide)⟩⟩) sh152 rfl rfl (Nat.le_of_ble_eq_true rfl) (fun r3 μ3 w3 q3 => ?_)
      obtain ⟨rfl, hm3, hf3⟩ := q3
      change x_T _ _ _ _ _ (.int _ :: _) _ _ _
      refine xt_pop dX12_drawDeed_138 rfl ?_
      exact xt_ret dX12_drawDeed_139 rfl (by rw [hL]; exact ⟨rfl, hm3, hf3.2.2, fun a h1 h2 h3 h4 => by rw [hf3.1 a h1 h2 h3 h4, x_u_ne h1]⟩)
  · skip
    by_cases h0 : σ.1 4 = 0
    · have hL : s_lot dw sd σ (μ 152 51) = (σ, (sd (μ 152 51))) := by unfold s_lot; rw [hs, show s_bl 4 = 3 from rfl, if_neg (by decide), if_pos h0]
      refine xt_aload_n _ dX12_drawDeed_0 rfl ?_
      refine xt_bipush (10) dX12_drawDeed_1 (by decide) ?_
      refine xt_cV _ dX12_drawDeed_3 klX12_471 (hDM _ μ w 10 (by decide) (by decide)) sh152 rfl rfl (Nat.le_of_ble_eq_true rfl) ?_
      rw [hs]
      refine xt_istore_n dX12_drawDeed_6 (by decide) rfl ?_
      change x_T _ _ _ _ [_, _, _, _, _] _ _ _ _
      refine xt_iload_n _ dX12_drawDeed_7 rfl ?_
      refine xt_iconst (3) dX12_drawDeed_8 (by decide) ?_
      refine xt_icmp_lt 18 dX12_drawDeed_9 (by decide) (fun q => absurd q (by decide)) (fun _ => ?_)
      refine xt_iload_n _ dX12_drawDeed_12 rfl ?_
      refine xt_bipush (9) dX12_drawDeed_13 (by decide) ?_
      refine xt_icmp_ne 38 dX12_drawDeed_15 (by decide) (fun _ => ?_) (fun q => absurd q (by decide))
      refine xt_aload_n _ dX12_drawDeed_38 rfl ?_
      refine xt_geti dX12_drawDeed_39 kfX12_251 (by first | exact sh152 | rfl | assumption) rfl ?_
      refine xt_if_ne 46 dX12_drawDeed_42 (by decide) (fun q => absurd (show μ 152 24 = 0 by rw [e4, h0]; rfl) q) (fun _ => ?_)
      exact xt_ret dX12_drawDeed_45 rfl (by rw [hL]; exact ⟨rfl, hm.seed _, rfl, fun a h1 _ _ _ => x_u_ne h1⟩)
    · have hL : s_lot dw sd σ (μ 152 51) = ((s_act σ 3 (dw (sd (μ 152 51)) (σ.1 4)) (dw (sd (sd (μ 152 51))) 10) (dw (sd (sd (sd (μ 152 51)))) 10)).2, (sd (sd (sd (sd (μ 152 51)))))) := by unfold s_lot; rw [hs, show s_bl 4 = 3 from rfl, if_neg (by decide), if_neg h0, if_neg (by decide), if_pos rfl]
      have hg8 := hdl (sd (μ 152 51)) _ (show 0 < σ.1 4 by omega)
      refine xt_aload_n _ dX12_drawDeed_0 rfl ?_
      refine xt_bipush (10) dX12_drawDeed_1 (by decide) ?_
      refine xt_cV _ dX12_drawDeed_3 klX12_471 (hDM _ μ w 10 (by decide) (by decide)) sh152 rfl rfl (Nat.le_of_ble_eq_true rfl) ?_
      rw [hs]
      refine xt_istore_n dX12_drawDeed_6 (by decide) rfl ?_
      change x_T _ _ _ _ [_, _, _, _, _] _ _ _ _
      refine xt_iload_n _ dX12_drawDeed_7 rfl ?_
      refine xt_iconst (3) dX12_drawDeed_8 (by decide) ?_
      refine xt_icmp_lt 18 dX12_drawDeed_9 (by decide) (fun q => absurd q (by decide)) (fun _ => ?_)
      refine xt_iload_n _ dX12_drawDeed_12 rfl ?_
      refine xt_bipush (9) dX12_drawDeed_13 (by decide) ?_
      refine xt_icmp_ne 38 dX12_drawDeed_15 (by decide) (fun _ => ?_) (fun q => absurd q (by decide))
      refine xt_aload_n _ dX12_drawDeed_38 rfl ?_
      refine xt_geti dX12_drawDeed_39 kfX12_251 (by first | exact sh152 | rfl | assumption) rfl ?_
      refine xt_if_ne 46 dX12_drawDeed_42 (by decide) (fun _ => ?_) (fun q => absurd q (show ¬ μ 152 24 = 0 by rw [e4]; exact nI_ne0 (by omega) (by omega)))
      refine xt_aload_n _ dX12_drawDeed_46 rfl ?_
      refine xt_aload_n _ dX12_drawDeed_47 rfl ?_
      refine xt_geti dX12_drawDeed_48 kfX12_251 (by first | exact sh152 | rfl | assumption) rfl ?_
      change x_T _ _ _ _ _ (.int (μ 152 24) :: _) _ _ _
      rw [e4]
      refine xt_cV _ dX12_drawDeed_51 klX12_471 (hDM _ _ _ (σ.1 4) (by omega) (by omega)) sh152 rfl rfl (Nat.le_of_ble_eq_true rfl) ?_
      simp only [x_uu, x_u_eq, s_upd2]
      refine xt_istore_n dX12_drawDeed_54 (by decide) rfl ?_
      change x_T _ _ _ _ [_, _, _, _, _] _ _ _ _
      refine xt_iload_n _ dX12_drawDeed_55 rfl ?_
      refine xt_bipush (8) dX12_drawDeed_56 (by decide) ?_
      refine xt_icmp_ne 71 dX12_drawDeed_58 (by decide) (fun _ => ?_) (fun q => absurd q (by decide))
      refine xt_aload_n _ dX12_drawDeed_71 rfl ?_
      refine xt_iload_n _ dX12_drawDeed_72 rfl ?_
      refine xt_iconst (5) dX12_drawDeed_73 (by decide) ?_
      refine xt_icmp_ge 82 dX12_drawDeed_74 (by decide) (fun q => absurd q (by decide)) (fun _ => ?_)
      refine xt_bipush (10) dX12_drawDeed_77 (by decide) ?_
      refine xt_goto 84 dX12_drawDeed_79 (by decide) ?_
      refine xt_cV _ dX12_drawDeed_84 klX12_471 (hDM _ _ _ 10 (by decide) (by omega)) sh152 rfl rfl (Nat.le_of_ble_eq_true rfl) ?_
      simp only [x_uu, x_u_eq, s_upd2]
      refine xt_istore_n dX12_drawDeed_87 (by decide) rfl ?_
      change x_T _ _ _ _ [_, _, _, _, _] _ _ _ _
      refine xt_iload_n _ dX12_drawDeed_88 rfl ?_
      refine xt_iconst (5) dX12_drawDeed_89 (by decide) ?_
      refine xt_icmp_ge 102 dX12_drawDeed_90 (by decide) (fun q => absurd q (by decide)) (fun _ => ?_)
      refine xt_aload_n _ dX12_drawDeed_93 rfl ?_
      refine xt_bipush (10) dX12_drawDeed_94 (by decide) ?_
      refine xt_cV _ dX12_drawDeed_96 klX12_471 (hDM _ _ _ 10 (by decide) (by omega)) sh152 rfl rfl (Nat.le_of_ble_eq_true rfl) ?_
      simp only [x_uu, x_u_eq, s_upd2]
      refine xt_goto 109 dX12_drawDeed_99 (by decide) ?_
      refine xt_istore dX12_drawDeed_109 (by decide) rfl ?_
      change x_T _ _ _ _ [_, _, _, _, _] _ _ _ _
      refine xt_aload_n _ dX12_drawDeed_111 rfl ?_
      refine xt_iload_n _ dX12_drawDeed_112 rfl ?_
      refine xt_iconst (5) dX12_drawDeed_113 (by decide) ?_
      refine xt_icmp_ge 121 dX12_drawDeed_114 (by decide) (fun q => absurd q (by decide)) (fun _ => ?_)
      refine xt_iconst (3) dX12_drawDeed_117 (by decide) ?_
      refine xt_goto 131 dX12_drawDeed_118 (by decide) ?_
      refine xt_iload_n _ dX12_drawDeed_131 rfl ?_
      refine xt_iload_n _ dX12_drawDeed_132 rfl ?_
      refine xt_iload _ dX12_drawDeed_133 rfl ?_
      refine xt_callV _ dX12_drawDeed_135 klX12_337 (tX12_does sc _ (x_u μ 152 (upd (μ 152) 51 (sd (sd (sd (sd (μ 152 51))))))) _ f σ hok (hm.seed _) _ _ _ _ 3 (dw (sd (μ 152 51)) (σ.1 4)) (dw (sd (sd (μ 152 51))) 10) (dw (sd (sd (sd (μ 152 51)))) 10) ⟨rfl, by decide, fun _ => ⟨rfl, by omega⟩, fun _ => ⟨rfl, rfl, by omega, by omega, fun z => absurd z (by decide)⟩⟩) sh152 rfl rfl (Nat.le_of_ble_eq_true rfl) (fun r3 μ3 w3 q3 => ?_)
      obtain ⟨rfl, hm3, hf3⟩ := q3
      change x_T _ _ _ _ _ (.int _ :: _) _ _ _
      refine xt_pop dX12_drawDeed_138 rfl ?_
      exact xt_ret dX12_drawDeed_139 rfl (by rw [hL]; exact ⟨rfl, hm3, hf3.2.2, fun a h1 h2 h3 h4 => by rw [hf3.1 a h1 h2 h3 h4, x_u_ne h1]⟩)
  · skip
    by_cases h0 : σ.1 4 = 0
    · have hL : s_lot dw sd σ (μ 152 51) = (σ, (sd (μ 152 51))) := by unfold s_lot; rw [hs, show s_bl 5 = 4 from rfl, if_neg (by decide), if_pos h0]
      refine xt_aload_n _ dX12_drawDeed_0 rfl ?_
      refine xt_bipush (10) dX12_drawDeed_1 (by decide) ?_
      refine xt_cV _ dX12_drawDeed_3 klX12_471 (hDM _ μ w 10 (by decide) (by decide)) sh152 rfl rfl (Nat.le_of_ble_eq_true rfl) ?_
      rw [hs]
      refine xt_istore_n dX12_drawDeed_6 (by decide) rfl ?_
      change x_T _ _ _ _ [_, _, _, _, _] _ _ _ _
      refine xt_iload_n _ dX12_drawDeed_7 rfl ?_
      refine xt_iconst (3) dX12_drawDeed_8 (by decide) ?_
      refine xt_icmp_lt 18 dX12_drawDeed_9 (by decide) (fun q => absurd q (by decide)) (fun _ => ?_)
      refine xt_iload_n _ dX12_drawDeed_12 rfl ?_
      refine xt_bipush (9) dX12_drawDeed_13 (by decide) ?_
      refine xt_icmp_ne 38 dX12_drawDeed_15 (by decide) (fun _ => ?_) (fun q => absurd q (by decide))
      refine xt_aload_n _ dX12_drawDeed_38 rfl ?_
      refine xt_geti dX12_drawDeed_39 kfX12_251 (by first | exact sh152 | rfl | assumption) rfl ?_
      refine xt_if_ne 46 dX12_drawDeed_42 (by decide) (fun q => absurd (show μ 152 24 = 0 by rw [e4, h0]; rfl) q) (fun _ => ?_)
      exact xt_ret dX12_drawDeed_45 rfl (by rw [hL]; exact ⟨rfl, hm.seed _, rfl, fun a h1 _ _ _ => x_u_ne h1⟩)
    · have hL : s_lot dw sd σ (μ 152 51) = ((s_act σ 4 (dw (sd (μ 152 51)) (σ.1 4)) (dw (sd (sd (μ 152 51))) 6) (1 + dw (sd (sd (sd (μ 152 51)))) 3)).2, (sd (sd (sd (sd (μ 152 51)))))) := by unfold s_lot; rw [hs, show s_bl 5 = 4 from rfl, if_neg (by decide), if_neg h0, if_neg (by decide), if_neg (by decide)]
      have hg8 := hdl (sd (μ 152 51)) _ (show 0 < σ.1 4 by omega)
      refine xt_aload_n _ dX12_drawDeed_0 rfl ?_
      refine xt_bipush (10) dX12_drawDeed_1 (by decide) ?_
      refine xt_cV _ dX12_drawDeed_3 klX12_471 (hDM _ μ w 10 (by decide) (by decide)) sh152 rfl rfl (Nat.le_of_ble_eq_true rfl) ?_
      rw [hs]
      refine xt_istore_n dX12_drawDeed_6 (by decide) rfl ?_
      change x_T _ _ _ _ [_, _, _, _, _] _ _ _ _
      refine xt_iload_n _ dX12_drawDeed_7 rfl ?_
      refine xt_iconst (3) dX12_drawDeed_8 (by decide) ?_
      refine xt_icmp_lt 18 dX12_drawDeed_9 (by decide) (fun q => absurd q (by decide)) (fun _ => ?_)
      refine xt_iload_n _ dX12_drawDeed_12 rfl ?_
      refine xt_bipush (9) dX12_drawDeed_13 (by decide) ?_
      refine xt_icmp_ne 38 dX12_drawDeed_15 (by decide) (fun _ => ?_) (fun q => absurd q (by decide))
      refine xt_aload_n _ dX12_drawDeed_38 rfl ?_
      refine xt_geti dX12_drawDeed_39 kfX12_251 (by first | exact sh152 | rfl | assumption) rfl ?_
      refine xt_if_ne 46 dX12_drawDeed_42 (by decide) (fun _ => ?_) (fun q => absurd q (show ¬ μ 152 24 = 0 by rw [e4]; exact nI_ne0 (by omega) (by omega)))
      refine xt_aload_n _ dX12_drawDeed_46 rfl ?_
      refine xt_aload_n _ dX12_drawDeed_47 rfl ?_
      refine xt_geti dX12_drawDeed_48 kfX12_251 (by first | exact sh152 | rfl | assumption) rfl ?_
      change x_T _ _ _ _ _ (.int (μ 152 24) :: _) _ _ _
      rw [e4]
      refine xt_cV _ dX12_drawDeed_51 klX12_471 (hDM _ _ _ (σ.1 4) (by omega) (by omega)) sh152 rfl rfl (Nat.le_of_ble_eq_true rfl) ?_
      simp only [x_uu, x_u_eq, s_upd2]
      refine xt_istore_n dX12_drawDeed_54 (by decide) rfl ?_
      change x_T _ _ _ _ [_, _, _, _, _] _ _ _ _
      refine xt_iload_n _ dX12_drawDeed_55 rfl ?_
      refine xt_bipush (8) dX12_drawDeed_56 (by decide) ?_
      refine xt_icmp_ne 71 dX12_drawDeed_58 (by decide) (fun _ => ?_) (fun q => absurd q (by decide))
      refine xt_aload_n _ dX12_drawDeed_71 rfl ?_
      refine xt_iload_n _ dX12_drawDeed_72 rfl ?_
      refine xt_iconst (5) dX12_drawDeed_73 (by decide) ?_
      refine xt_icmp_ge 82 dX12_drawDeed_74 (by decide) (fun _ => ?_) (fun q => absurd (by decide) q)
      refine xt_bipush (6) dX12_drawDeed_82 (by decide) ?_
      refine xt_cV _ dX12_drawDeed_84 klX12_471 (hDM _ _ _ 6 (by decide) (by omega)) sh152 rfl rfl (Nat.le_of_ble_eq_true rfl) ?_
      simp only [x_uu, x_u_eq, s_upd2]
      refine xt_istore_n dX12_drawDeed_87 (by decide) rfl ?_
      change x_T _ _ _ _ [_, _, _, _, _] _ _ _ _
      refine xt_iload_n _ dX12_drawDeed_88 rfl ?_
      refine xt_iconst (5) dX12_drawDeed_89 (by decide) ?_
      refine xt_icmp_ge 102 dX12_drawDeed_90 (by decide) (fun _ => ?_) (fun q => absurd (by decide) q)
      refine xt_iconst (1) dX12_drawDeed_102 (by decide) ?_
      refine xt_aload_n _ dX12_drawDeed_103 rfl ?_
      refine xt_iconst (3) dX12_drawDeed_104 (by decide) ?_
      refine xt_cV _ dX12_drawDeed_105 klX12_471 (hDM _ _ _ 3 (by decide) (by omega)) sh152 rfl rfl (Nat.le_of_ble_eq_true rfl) ?_
      simp only [x_uu, x_u_eq, s_upd2]
      refine xt_iadd dX12_drawDeed_108 ?_
      refine xt_istore dX12_drawDeed_109 (by decide) rfl ?_
      change x_T _ _ _ _ [_, _, _, _, _] _ _ _ _
      refine xt_aload_n _ dX12_drawDeed_111 rfl ?_
      refine xt_iload_n _ dX12_drawDeed_112 rfl ?_
      refine xt_iconst (5) dX12_drawDeed_113 (by decide) ?_
      refine xt_icmp_ge 121 dX12_drawDeed_114 (by decide) (fun _ => ?_) (fun q => absurd (by decide) q)
      refine xt_iload_n _ dX12_drawDeed_121 rfl ?_
      refine xt_iconst (5) dX12_drawDeed_122 (by decide) ?_
      refine xt_icmp_ne 130 dX12_drawDeed_123 (by decide) (fun q => absurd (by decide) q) (fun _ => ?_)
      refine xt_iconst (4) dX12_drawDeed_126 (by decide) ?_
      refine xt_goto 131 dX12_drawDeed_127 (by decide) ?_
      refine xt_iload_n _ dX12_drawDeed_131 rfl ?_
      refine xt_iload_n _ dX12_drawDeed_132 rfl ?_
      refine xt_iload _ dX12_drawDeed_133 rfl ?_
      refine xt_callV _ dX12_drawDeed_135 klX12_337 (tX12_does sc _ (x_u μ 152 (upd (μ 152) 51 (sd (sd (sd (sd (μ 152 51))))))) _ f σ hok (hm.seed _) _ _ _ _ 4 (dw (sd (μ 152 51)) (σ.1 4)) (dw (sd (sd (μ 152 51))) 6) (1 + dw (sd (sd (sd (μ 152 51)))) 3) ⟨rfl, by decide, fun _ => ⟨rfl, by omega⟩, fun _ => ⟨rfl, nI_add 1 _, by omega, by omega, fun _ => ⟨by omega, by omega⟩⟩⟩) sh152 rfl rfl (Nat.le_of_ble_eq_true rfl) (fun r3 μ3 w3 q3 => ?_)
      obtain ⟨rfl, hm3, hf3⟩ := q3
      change x_T _ _ _ _ _ (.int _ :: _) _ _ _
      refine xt_pop dX12_drawDeed_138 rfl ?_
      exact xt_ret dX12_drawDeed_139 rfl (by rw [hL]; exact ⟨rfl, hm3, hf3.2.2, fun a h1 h2 h3 h4 => by rw [hf3.1 a h1 h2 h3 h4, x_u_ne h1]⟩)
  · skip
    by_cases h0 : σ.1 4 = 0
    · have hL : s_lot dw sd σ (μ 152 51) = (σ, (sd (μ 152 51))) := by unfold s_lot; rw [hs, show s_bl 6 = 5 from rfl, if_neg (by decide), if_pos h0]
      refine xt_aload_n _ dX12_drawDeed_0 rfl ?_
      refine xt_bipush (10) dX12_drawDeed_1 (by decide) ?_
      refine xt_cV _ dX12_drawDeed_3 klX12_471 (hDM _ μ w 10 (by decide) (by decide)) sh152 rfl rfl (Nat.le_of_ble_eq_true rfl) ?_
      rw [hs]
      refine xt_istore_n dX12_drawDeed_6 (by decide) rfl ?_
      change x_T _ _ _ _ [_, _, _, _, _] _ _ _ _
      refine xt_iload_n _ dX12_drawDeed_7 rfl ?_
      refine xt_iconst (3) dX12_drawDeed_8 (by decide) ?_
      refine xt_icmp_lt 18 dX12_drawDeed_9 (by decide) (fun q => absurd q (by decide)) (fun _ => ?_)
      refine xt_iload_n _ dX12_drawDeed_12 rfl ?_
      refine xt_bipush (9) dX12_drawDeed_13 (by decide) ?_
      refine xt_icmp_ne 38 dX12_drawDeed_15 (by decide) (fun _ => ?_) (fun q => absurd q (by decide))
      refine xt_aload_n _ dX12_drawDeed_38 rfl ?_
      refine xt_geti dX12_drawDeed_39 kfX12_251 (by first | exact sh152 | rfl | assumption) rfl ?_
      refine xt_if_ne 46 dX12_drawDeed_42 (by decide) (fun q => absurd (show μ 152 24 = 0 by rw [e4, h0]; rfl) q) (fun _ => ?_)
      exact xt_ret dX12_drawDeed_45 rfl (by rw [hL]; exact ⟨rfl, hm.seed _, rfl, fun a h1 _ _ _ => x_u_ne h1⟩)
    · have hL : s_lot dw sd σ (μ 152 51) = ((s_act σ 5 (dw (sd (μ 152 51)) (σ.1 4)) (dw (sd (sd (μ 152 51))) 6) (1 + dw (sd (sd (sd (μ 152 51)))) 3)).2, (sd (sd (sd (sd (μ 152 51)))))) := by unfold s_lot; rw [hs, show s_bl 6 = 5 from rfl, if_neg (by decide), if_neg h0, if_neg (by decide), if_neg (by decide)]
      have hg8 := hdl (sd (μ 152 51)) _ (show 0 < σ.1 4 by omega)
      refine xt_aload_n _ dX12_drawDeed_0 rfl ?_
      refine xt_bipush (10) dX12_drawDeed_1 (by decide) ?_
      refine xt_cV _ dX12_drawDeed_3 klX12_471 (hDM _ μ w 10 (by decide) (by decide)) sh152 rfl rfl (Nat.le_of_ble_eq_true rfl) ?_
      rw [hs]
      refine xt_istore_n dX12_drawDeed_6 (by decide) rfl ?_
      change x_T _ _ _ _ [_, _, _, _, _] _ _ _ _
      refine xt_iload_n _ dX12_drawDeed_7 rfl ?_
      refine xt_iconst (3) dX12_drawDeed_8 (by decide) ?_
      refine xt_icmp_lt 18 dX12_drawDeed_9 (by decide) (fun q => absurd q (by decide)) (fun _ => ?_)
      refine xt_iload_n _ dX12_drawDeed_12 rfl ?_
      refine xt_bipush (9) dX12_drawDeed_13 (by decide) ?_
      refine xt_icmp_ne 38 dX12_drawDeed_15 (by decide) (fun _ => ?_) (fun q => absurd q (by decide))
      refine xt_aload_n _ dX12_drawDeed_38 rfl ?_
      refine xt_geti dX12_drawDeed_39 kfX12_251 (by first | exact sh152 | rfl | assumption) rfl ?_
      refine xt_if_ne 46 dX12_drawDeed_42 (by decide) (fun _ => ?_) (fun q => absurd q (show ¬ μ 152 24 = 0 by rw [e4]; exact nI_ne0 (by omega) (by omega)))
      refine xt_aload_n _ dX12_drawDeed_46 rfl ?_
      refine xt_aload_n _ dX12_drawDeed_47 rfl ?_
      refine xt_geti dX12_drawDeed_48 kfX12_251 (by first | exact sh152 | rfl | assumption) rfl ?_
      change x_T _ _ _ _ _ (.int (μ 152 24) :: _) _ _ _
      rw [e4]
      refine xt_cV _ dX12_drawDeed_51 klX12_471 (hDM _ _ _ (σ.1 4) (by omega) (by omega)) sh152 rfl rfl (Nat.le_of_ble_eq_true rfl) ?_
      simp only [x_uu, x_u_eq, s_upd2]
      refine xt_istore_n dX12_drawDeed_54 (by decide) rfl ?_
      change x_T _ _ _ _ [_, _, _, _, _] _ _ _ _
      refine xt_iload_n _ dX12_drawDeed_55 rfl ?_
      refine xt_bipush (8) dX12_drawDeed_56 (by decide) ?_
      refine xt_icmp_ne 71 dX12_drawDeed_58 (by decide) (fun _ => ?_) (fun q => absurd q (by decide))
      refine xt_aload_n _ dX12_drawDeed_71 rfl ?_
      refine xt_iload_n _ dX12_drawDeed_72 rfl ?_
      refine xt_iconst (5) dX12_drawDeed_73 (by decide) ?_
      refine xt_icmp_ge 82 dX12_drawDeed_74 (by decide) (fun _ => ?_) (fun q => absurd (by decide) q)
      refine xt_bipush (6) dX12_drawDeed_82 (by decide) ?_
      refine xt_cV _ dX12_drawDeed_84 klX12_471 (hDM _ _ _ 6 (by decide) (by omega)) sh152 rfl rfl (Nat.le_of_ble_eq_true rfl) ?_
      simp only [x_uu, x_u_eq, s_upd2]
      refine xt_istore_n dX12_drawDeed_87 (by decide) rfl ?_
      change x_T _ _ _ _ [_, _, _, _, _] _ _ _ _
      refine xt_iload_n _ dX12_drawDeed_88 rfl ?_
      refine xt_iconst (5) dX12_drawDeed_89 (by decide) ?_
      refine xt_icmp_ge 102 dX12_drawDeed_90 (by decide) (fun _ => ?_) (fun q => absurd (by decide) q)
      refine xt_iconst (1) dX12_drawDeed_102 (by decide) ?_
      refine xt_aload_n _ dX12_drawDeed_103 rfl ?_
      refine xt_iconst (3) dX12_drawDeed_104 (by decide) ?_
      refine xt_cV _ dX12_drawDeed_105 klX12_471 (hDM _ _ _ 3 (by decide) (by omega)) sh152 rfl rfl (Nat.le_of_ble_eq_true rfl) ?_
      simp only [x_uu, x_u_eq, s_upd2]
      refine xt_iadd dX12_drawDeed_108 ?_
      refine xt_istore dX12_drawDeed_109 (by decide) rfl ?_
      change x_T _ _ _ _ [_, _, _, _, _] _ _ _ _
      refine xt_aload_n _ dX12_drawDeed_111 rfl ?_
      refine xt_iload_n _ dX12_drawDeed_112 rfl ?_
      refine xt_iconst (5) dX12_drawDeed_113 (by decide) ?_
      refine xt_icmp_ge 121 dX12_drawDeed_114 (by decide) (fun _ => ?_) (fun q => absurd (by decide) q)
      refine xt_iload_n _ dX12_drawDeed_121 rfl ?_
      refine xt_iconst (5) dX12_drawDeed_122 (by decide) ?_
      refine xt_icmp_ne 130 dX12_drawDeed_123 (by decide) (fun _ => ?_) (fun q => absurd q (by decide))
      refine xt_iconst (5) dX12_drawDeed_130 (by decide) ?_
      refine xt_iload_n _ dX12_drawDeed_131 rfl ?_
      refine xt_iload_n _ dX12_drawDeed_132 rfl ?_
      refine xt_iload _ dX12_drawDeed_133 rfl ?_
      refine xt_callV _ dX12_drawDeed_135 klX12_337 (tX12_does sc _ (x_u μ 152 (upd (μ 152) 51 (sd (sd (sd (sd (μ 152 51))))))) _ f σ hok (hm.seed _) _ _ _ _ 5 (dw (sd (μ 152 51)) (σ.1 4)) (dw (sd (sd (μ 152 51))) 6) (1 + dw (sd (sd (sd (μ 152 51)))) 3) ⟨rfl, by decide, fun _ => ⟨rfl, by omega⟩, fun _ => ⟨rfl, nI_add 1 _, by omega, by omega, fun _ => ⟨by omega, by omega⟩⟩⟩) sh152 rfl rfl (Nat.le_of_ble_eq_true rfl) (fun r3 μ3 w3 q3 => ?_)
      obtain ⟨rfl, hm3, hf3⟩ := q3
      change x_T _ _ _ _ _ (.int _ :: _) _ _ _
      refine xt_pop dX12_drawDeed_138 rfl ?_
      exact xt_ret dX12_drawDeed_139 rfl (by rw [hL]; exact ⟨rfl, hm3, hf3.2.2, fun a h1 h2 h3 h4 => by rw [hf3.1 a h1 h2 h3 h4, x_u_ne h1]⟩)
  · skip
    by_cases h0 : σ.1 4 = 0
    · have hL : s_lot dw sd σ (μ 152 51) = (σ, (sd (μ 152 51))) := by unfold s_lot; rw [hs, show s_bl 7 = 5 from rfl, if_neg (by decide), if_pos h0]
      refine xt_aload_n _ dX12_drawDeed_0 rfl ?_
      refine xt_bipush (10) dX12_drawDeed_1 (by decide) ?_
      refine xt_cV _ dX12_drawDeed_3 klX12_471 (hDM _ μ w 10 (by decide) (by decide)) sh152 rfl rfl (Nat.le_of_ble_eq_true rfl) ?_
      rw [hs]
      refine xt_istore_n dX12_drawDeed_6 (by decide) rfl ?_
      change x_T _ _ _ _ [_, _, _, _, _] _ _ _ _
      refine xt_iload_n _ dX12_drawDeed_7 rfl ?_
      refine xt_iconst (3) dX12_drawDeed_8 (by decide) ?_
      refine xt_icmp_lt 18 dX12_drawDeed_9 (by decide) (fun q => absurd q (by decide)) (fun _ => ?_)
      refine xt_iload_n _ dX12_drawDeed_12 rfl ?_
      refine xt_bipush (9) dX12_drawDeed_13 (by decide) ?_
      refine xt_icmp_ne 38 dX12_drawDeed_15 (by decide) (fun _ => ?_) (fun q => absurd q (by decide))
      refine xt_aload_n _ dX12_drawDeed_38 rfl ?_
      refine xt_geti dX12_drawDeed_39 kfX12_251 (by first | exact sh152 | rfl | assumption) rfl ?_
      refine xt_if_ne 46 dX12_drawDeed_42 (by decide) (fun q => absurd (show μ 152 24 = 0 by rw [e4, h0]; rfl) q) (fun _ => ?_)
      exact xt_ret dX12_drawDeed_45 rfl (by rw [hL]; exact ⟨rfl, hm.seed _, rfl, fun a h1 _ _ _ => x_u_ne h1⟩)
    · have hL : s_lot dw sd σ (μ 152 51) = ((s_act σ 5 (dw (sd (μ 152 51)) (σ.1 4)) (dw (sd (sd (μ 152 51))) 6) (1 + dw (sd (sd (sd (μ 152 51)))) 3)).2, (sd (sd (sd (sd (μ 152 51)))))) := by unfold s_lot; rw [hs, show s_bl 7 = 5 from rfl, if_neg (by decide), if_neg h0, if_neg (by decide), if_neg (by decide)]
      have hg8 := hdl (sd (μ 152 51)) _ (show 0 < σ.1 4 by omega)
      refine xt_aload_n _ dX12_drawDeed_0 rfl ?_
      refine xt_bipush (10) dX12_drawDeed_1 (by decide) ?_
      refine xt_cV _ dX12_drawDeed_3 klX12_471 (hDM _ μ w 10 (by decide) (by decide)) sh152 rfl rfl (Nat.le_of_ble_eq_true rfl) ?_
      rw [hs]
      refine xt_istore_n dX12_drawDeed_6 (by decide) rfl ?_
      change x_T _ _ _ _ [_, _, _, _, _] _ _ _ _
      refine xt_iload_n _ dX12_drawDeed_7 rfl ?_
      refine xt_iconst (3) dX12_drawDeed_8 (by decide) ?_
      refine xt_icmp_lt 18 dX12_drawDeed_9 (by decide) (fun q => absurd q (by decide)) (fun _ => ?_)
      refine xt_iload_n _ dX12_drawDeed_12 rfl ?_
      refine xt_bipush (9) dX12_drawDeed_13 (by decide) ?_
      refine xt_icmp_ne 38 dX12_drawDeed_15 (by decide) (fun _ => ?_) (fun q => absurd q (by decide))
      refine xt_aload_n _ dX12_drawDeed_38 rfl ?_
      refine xt_geti dX12_drawDeed_39 kfX12_251 (by first | exact sh152 | rfl | assumption) rfl ?_
      refine xt_if_ne 46 dX12_drawDeed_42 (by decide) (fun _ => ?_) (fun q => absurd q (show ¬ μ 152 24 = 0 by rw [e4]; exact nI_ne0 (by omega) (by omega)))
      refine xt_aload_n _ dX12_drawDeed_46 rfl ?_
      refine xt_aload_n _ dX12_drawDeed_47 rfl ?_
      refine xt_geti dX12_drawDeed_48 kfX12_251 (by first | exact sh152 | rfl | assumption) rfl ?_
      change x_T _ _ _ _ _ (.int (μ 152 24) :: _) _ _ _
      rw [e4]
      refine xt_cV _ dX12_drawDeed_51 klX12_471 (hDM _ _ _ (σ.1 4) (by omega) (by omega)) sh152 rfl rfl (Nat.le_of_ble_eq_true rfl) ?_
      simp only [x_uu, x_u_eq, s_upd2]
      refine xt_istore_n dX12_drawDeed_54 (by decide) rfl ?_
      change x_T _ _ _ _ [_, _, _, _, _] _ _ _ _
      refine xt_iload_n _ dX12_drawDeed_55 rfl ?_
      refine xt_bipush (8) dX12_drawDeed_56 (by decide) ?_
      refine xt_icmp_ne 71 dX12_drawDeed_58 (by decide) (fun _ => ?_) (fun q => absurd q (by decide))
      refine xt_aload_n _ dX12_drawDeed_71 rfl ?_
      refine xt_iload_n _ dX12_drawDeed_72 rfl ?_
      refine xt_iconst (5) dX12_drawDeed_73 (by decide) ?_
      refine xt_icmp_ge 82 dX12_drawDeed_74 (by decide) (fun _ => ?_) (fun q => absurd (by decide) q)
      refine xt_bipush (6) dX12_drawDeed_82 (by decide) ?_
      refine xt_cV _ dX12_drawDeed_84 klX12_471 (hDM _ _ _ 6 (by decide) (by omega)) sh152 rfl rfl (Nat.le_of_ble_eq_true rfl) ?_
      simp only [x_uu, x_u_eq, s_upd2]
      refine xt_istore_n dX12_drawDeed_87 (by decide) rfl ?_
      change x_T _ _ _ _ [_, _, _, _, _] _ _ _ _
      refine xt_iload_n _ dX12_drawDeed_88 rfl ?_
      refine xt_iconst (5) dX12_drawDeed_89 (by decide) ?_
      refine xt_icmp_ge 102 dX12_drawDeed_90 (by decide) (fun _ => ?_) (fun q => absurd (by decide) q)
      refine xt_iconst (1) dX12_drawDeed_102 (by decide) ?_
      refine xt_aload_n _ dX12_drawDeed_103 rfl ?_
      refine xt_iconst (3) dX12_drawDeed_104 (by decide) ?_
      refine xt_cV _ dX12_drawDeed_105 klX12_471 (hDM _ _ _ 3 (by decide) (by omega)) sh152 rfl rfl (Nat.le_of_ble_eq_true rfl) ?_
      simp only [x_uu, x_u_eq, s_upd2]
      refine xt_iadd dX12_drawDeed_108 ?_
      refine xt_istore dX12_drawDeed_109 (by decide) rfl ?_
      change x_T _ _ _ _ [_, _, _, _, _] _ _ _ _
      refine xt_aload_n _ dX12_drawDeed_111 rfl ?_
      refine xt_iload_n _ dX12_drawDeed_112 rfl ?_
      refine xt_iconst (5) dX12_drawDeed_113 (by decide) ?_
      refine xt_icmp_ge 121 dX12_drawDeed_114 (by decide) (fun _ => ?_) (fun q => absurd (by decide) q)
      refine xt_iload_n _ dX12_drawDeed_121 rfl ?_
      refine xt_iconst (5) dX12_drawDeed_122 (by decide) ?_
      refine xt_icmp_ne 130 dX12_drawDeed_123 (by decide) (fun _ => ?_) (fun q => absurd q (by decide))
      refine xt_iconst (5) dX12_drawDeed_130 (by decide) ?_
      refine xt_iload_n _ dX12_drawDeed_131 rfl ?_
      refine xt_iload_n _ dX12_drawDeed_132 rfl ?_
      refine xt_iload _ dX12_drawDeed_133 rfl ?_
      refine xt_callV _ dX12_drawDeed_135 klX12_337 (tX12_does sc _ (x_u μ 152 (upd (μ 152) 51 (sd (sd (sd (sd (μ 152 51))))))) _ f σ hok (hm.seed _) _ _ _ _ 5 (dw (sd (μ 152 51)) (σ.1 4)) (dw (sd (sd (μ 152 51))) 6) (1 + dw (sd (sd (sd (μ 152 51)))) 3) ⟨rfl, by decide, fun _ => ⟨rfl, by omega⟩, fun _ => ⟨rfl, nI_add 1 _, by omega, by omega, fun _ => ⟨by omega, by omega⟩⟩⟩) sh152 rfl rfl (Nat.le_of_ble_eq_true rfl) (fun r3 μ3 w3 q3 => ?_)
      obtain ⟨rfl, hm3, hf3⟩ := q3
      change x_T _ _ _ _ _ (.int _ :: _) _ _ _
      refine xt_pop dX12_drawDeed_138 rfl ?_
      exact xt_ret dX12_drawDeed_139 rfl (by rw [hL]; exact ⟨rfl, hm3, hf3.2.2, fun a h1 h2 h3 h4 => by rw [hf3.1 a h1 h2 h3 h4, x_u_ne h1]⟩)
  · skip
    by_cases h0 : σ.1 4 = 0
    · have hL : s_lot dw sd σ (μ 152 51) = (σ, (sd (μ 152 51))) := by unfold s_lot; rw [hs, show s_bl 8 = 2 from rfl, if_neg (by decide), if_pos h0]
      refine xt_aload_n _ dX12_drawDeed_0 rfl ?_
      refine xt_bipush (10) dX12_drawDeed_1 (by decide) ?_
      refine xt_cV _ dX12_drawDeed_3 klX12_471 (hDM _ μ w 10 (by decide) (by decide)) sh152 rfl rfl (Nat.le_of_ble_eq_true rfl) ?_
      rw [hs]
      refine xt_istore_n dX12_drawDeed_6 (by decide) rfl ?_
      change x_T _ _ _ _ [_, _, _, _, _] _ _ _ _
      refine xt_iload_n _ dX12_drawDeed_7 rfl ?_
      refine xt_iconst (3) dX12_drawDeed_8 (by decide) ?_
      refine xt_icmp_lt 18 dX12_drawDeed_9 (by decide) (fun q => absurd q (by decide)) (fun _ => ?_)
      refine xt_iload_n _ dX12_drawDeed_12 rfl ?_
      refine xt_bipush (9) dX12_drawDeed_13 (by decide) ?_
      refine xt_icmp_ne 38 dX12_drawDeed_15 (by decide) (fun _ => ?_) (fun q => absurd q (by decide))
      refine xt_aload_n _ dX12_drawDeed_38 rfl ?_
      refine xt_geti dX12_drawDeed_39 kfX12_251 (by first | exact sh152 | rfl | assumption) rfl ?_
      refine xt_if_ne 46 dX12_drawDeed_42 (by decide) (fun q => absurd (show μ 152 24 = 0 by rw [e4, h0]; rfl) q) (fun _ => ?_)
      exact xt_ret dX12_drawDeed_45 rfl (by rw [hL]; exact ⟨rfl, hm.seed _, rfl, fun a h1 _ _ _ => x_u_ne h1⟩)
    · have hL : s_lot dw sd σ (μ 152 51) = ((s_act σ 2 (dw (sd (μ 152 51)) (σ.1 4)) 0 0).2, (sd (sd (μ 152 51)))) := by unfold s_lot; rw [hs, show s_bl 8 = 2 from rfl, if_neg (by decide), if_neg h0, if_pos rfl]
      have hg8 := hdl (sd (μ 152 51)) _ (show 0 < σ.1 4 by omega)
      refine xt_aload_n _ dX12_drawDeed_0 rfl ?_
      refine xt_bipush (10) dX12_drawDeed_1 (by decide) ?_
      refine xt_cV _ dX12_drawDeed_3 klX12_471 (hDM _ μ w 10 (by decide) (by decide)) sh152 rfl rfl (Nat.le_of_ble_eq_true rfl) ?_
      rw [hs]
      refine xt_istore_n dX12_drawDeed_6 (by decide) rfl ?_
      change x_T _ _ _ _ [_, _, _, _, _] _ _ _ _
      refine xt_iload_n _ dX12_drawDeed_7 rfl ?_
      refine xt_iconst (3) dX12_drawDeed_8 (by decide) ?_
      refine xt_icmp_lt 18 dX12_drawDeed_9 (by decide) (fun q => absurd q (by decide)) (fun _ => ?_)
      refine xt_iload_n _ dX12_drawDeed_12 rfl ?_
      refine xt_bipush (9) dX12_drawDeed_13 (by decide) ?_
      refine xt_icmp_ne 38 dX12_drawDeed_15 (by decide) (fun _ => ?_) (fun q => absurd q (by decide))
      refine xt_aload_n _ dX12_drawDeed_38 rfl ?_
      refine xt_geti dX12_drawDeed_39 kfX12_251 (by first | exact sh152 | rfl | assumption) rfl ?_
      refine xt_if_ne 46 dX12_drawDeed_42 (by decide) (fun _ => ?_) (fun q => absurd q (show ¬ μ 152 24 = 0 by rw [e4]; exact nI_ne0 (by omega) (by omega)))
      refine xt_aload_n _ dX12_drawDeed_46 rfl ?_
      refine xt_aload_n _ dX12_drawDeed_47 rfl ?_
      refine xt_geti dX12_drawDeed_48 kfX12_251 (by first | exact sh152 | rfl | assumption) rfl ?_
      change x_T _ _ _ _ _ (.int (μ 152 24) :: _) _ _ _
      rw [e4]
      refine xt_cV _ dX12_drawDeed_51 klX12_471 (hDM _ _ _ (σ.1 4) (by omega) (by omega)) sh152 rfl rfl (Nat.le_of_ble_eq_true rfl) ?_
      simp only [x_uu, x_u_eq, s_upd2]
      refine xt_istore_n dX12_drawDeed_54 (by decide) rfl ?_
      change x_T _ _ _ _ [_, _, _, _, _] _ _ _ _
      refine xt_iload_n _ dX12_drawDeed_55 rfl ?_
      refine xt_bipush (8) dX12_drawDeed_56 (by decide) ?_
      refine xt_icmp_ne 71 dX12_drawDeed_58 (by decide) (fun q => absurd (by decide) q) (fun _ => ?_)
      refine xt_aload_n _ dX12_drawDeed_61 rfl ?_
      refine xt_iconst (2) dX12_drawDeed_62 (by decide) ?_
      refine xt_iload_n _ dX12_drawDeed_63 rfl ?_
      refine xt_iconst (-1) dX12_drawDeed_64 (by decide) ?_
      refine xt_iconst (-1) dX12_drawDeed_65 (by decide) ?_
      refine xt_callV _ dX12_drawDeed_66 klX12_337 (tX12_does sc _ (x_u μ 152 (upd (μ 152) 51 (sd (sd (μ 152 51))))) _ f σ hok (hm.seed _) _ _ _ _ 2 (dw (sd (μ 152 51)) (σ.1 4)) 0 0 ⟨rfl, by decide, fun _ => ⟨rfl, by omega⟩, fun z => absurd z (by decide)⟩) sh152 rfl rfl (Nat.le_of_ble_eq_true rfl) (fun r3 μ3 w3 q3 => ?_)
      obtain ⟨rfl, hm3, hf3⟩ := q3
      change x_T _ _ _ _ _ (.int _ :: _) _ _ _
      refine xt_pop dX12_drawDeed_69 rfl ?_
      exact xt_ret dX12_drawDeed_70 rfl (by rw [hL]; exact ⟨rfl, hm3, hf3.2.2, fun a h1 h2 h3 h4 => by rw [hf3.1 a h1 h2 h3 h4, x_u_ne h1]⟩)
  · skip
    have hL : s_lot dw sd σ (μ 152 51) = ((s_act σ 1 0 0 0).2, (sd (μ 152 51))) := by unfold s_lot; rw [hs, show s_bl 9 = 1 from rfl, if_pos (by decide)]
    refine xt_aload_n _ dX12_drawDeed_0 rfl ?_
    refine xt_bipush (10) dX12_drawDeed_1 (by decide) ?_
    refine xt_cV _ dX12_drawDeed_3 klX12_471 (hDM _ μ w 10 (by decide) (by decide)) sh152 rfl rfl (Nat.le_of_ble_eq_true rfl) ?_
    rw [hs]
    refine xt_istore_n dX12_drawDeed_6 (by decide) rfl ?_
    change x_T _ _ _ _ [_, _, _, _, _] _ _ _ _
    refine xt_iload_n _ dX12_drawDeed_7 rfl ?_
    refine xt_iconst (3) dX12_drawDeed_8 (by decide) ?_
    refine xt_icmp_lt 18 dX12_drawDeed_9 (by decide) (fun q => absurd q (by decide)) (fun _ => ?_)
    refine xt_iload_n _ dX12_drawDeed_12 rfl ?_
    refine xt_bipush (9) dX12_drawDeed_13 (by decide) ?_
    refine xt_icmp_ne 38 dX12_drawDeed_15 (by decide) (fun q => absurd (by decide) q) (fun _ => ?_)
    refine xt_aload_n _ dX12_drawDeed_18 rfl ?_
    refine xt_iload_n _ dX12_drawDeed_19 rfl ?_
    refine xt_bipush (9) dX12_drawDeed_20 (by decide) ?_
    refine xt_icmp_ne 29 dX12_drawDeed_22 (by decide) (fun q => absurd (by decide) q) (fun _ => ?_)
    refine xt_iconst (1) dX12_drawDeed_25 (by decide) ?_
    refine xt_goto 30 dX12_drawDeed_26 (by decide) ?_
    refine xt_iconst (-1) dX12_drawDeed_30 (by decide) ?_
    refine xt_iconst (-1) dX12_drawDeed_31 (by decide) ?_
    refine xt_iconst (-1) dX12_drawDeed_32 (by decide) ?_
    refine xt_callV _ dX12_drawDeed_33 klX12_337 (tX12_does sc _ (x_u μ 152 (upd (μ 152) 51 (sd (μ 152 51)))) _ f σ hok (hm.seed _) _ _ _ _ 1 0 0 0 ⟨rfl, by decide, fun z => absurd z (by decide), fun z => absurd z (by decide)⟩) sh152 rfl rfl (Nat.le_of_ble_eq_true rfl) (fun r3 μ3 w3 q3 => ?_)
    obtain ⟨rfl, hm3, hf3⟩ := q3
    change x_T _ _ _ _ _ (.int _ :: _) _ _ _
    refine xt_pop dX12_drawDeed_36 rfl ?_
    exact xt_ret dX12_drawDeed_37 rfl (by rw [hL]; exact ⟨rfl, hm3, hf3.2.2, fun a h1 h2 h3 h4 => by rw [hf3.1 a h1 h2 h3 h4, x_u_ne h1]⟩)
end DRAWN
set_option maxHeartbeats 4000000 in
theorem st_drawn (sc : Nat × (Nat → Int32)) (a1 a2 a3 a4 : Int32) : x_stI sc (fun μ _ => x_Inv μ) (fun μ _ => x_Inv μ) mX11_drawn mX12_drawn [.int a1, .int a2, .int a3, .int a4] := by
  refine x_stF (-2) ?_ ?_ ?_
  · intro μ w c hc e hk
    refine x_K.of (by decide) (Nat.le_of_ble_eq_true rfl) ?_
    show x_T sc 29 mX11_drawn 0 [.ref 0, .int a1, .int a2, .int a3, .int a4, .retAddr 0] [] μ w _
    refine xt_aload_n _ dX11_drawn_0 rfl ?_
    refine xt_iload_n _ dX11_drawn_1 rfl ?_
    refine xt_cV _ dX11_drawn_2 klX11_90 (tX11_fairOf_no sc _ μ w c hc e _ hk) sh0 rfl rfl (Nat.le_of_ble_eq_true rfl) ?_
    refine xt_astore0 dX11_drawn_5 (by decide) rfl ?_
    change x_T _ _ _ _ [_, _, _, _, _, _] _ _ _ _
    refine xt_aload0 dX11_drawn_7 rfl ?_
    refine xt_ifnull_n 22 dX11_drawn_9 (by decide) ?_
    refine xt_bipush (-2) dX11_drawn_22 (by decide) ?_
    exact xt_iret .int dX11_drawn_24 rfl (by first | rfl | assumption) ⟨rfl, x_keep.rf μ⟩
  · intro μ w c hc e hk
    refine x_K.of (by decide) (Nat.le_of_ble_eq_true rfl) ?_
    show x_T sc 29 mX12_drawn 0 [.ref 152, .int a1, .int a2, .int a3, .int a4, .retAddr 0] [] μ w _
    refine xt_aload_n _ dX12_drawn_0 rfl ?_
    refine xt_iconst (0) dX12_drawn_1 (by decide) ?_
    refine xt_puti dX12_drawn_2 kpX12_72 (by first | exact sh152 | rfl | assumption) rfl (by first | rfl | assumption) (by first | rfl | assumption) ?_
    refine xt_iload_n _ dX12_drawn_5 rfl ?_
    refine xt_iconst (0) dX12_drawn_6 (by decide) ?_
    refine xt_bipush (60) dX12_drawn_7 (by decide) ?_
    refine xt_cS _ dX12_drawn_9 klX12_84 (tX12_in sc _ _ w _ _ _) rfl rfl (Nat.le_of_ble_eq_true rfl) ?_
    refine xt_if_eq 23 dX12_drawn_12 (by decide) (fun t12 => ?_) (fun f12 => ?_)
    · refine xt_bipush (-2) dX12_drawn_23 (by decide) ?_
      exact xt_iret .int dX12_drawn_25 rfl (by first | rfl | assumption) ⟨rfl, (x_keep.u (x_keep.rf μ) (by unfold x_ok; omega))⟩
    · refine xt_aload_n _ dX12_drawn_15 rfl ?_
      refine xt_iload_n _ dX12_drawn_16 rfl ?_
      refine xt_cV _ dX12_drawn_17 klX12_300 (tX12_hand_no sc _ (x_u μ 152 (upd (μ 152) 0 0)) w c hc e _ hk) sh152 rfl rfl (Nat.le_of_ble_eq_true rfl) ?_
      refine xt_if_ne 26 dX12_drawn_20 (by decide) (fun q => absurd (by decide) q) (fun _ => ?_)
      refine xt_bipush (-2) dX12_drawn_23 (by decide) ?_
      exact xt_iret .int dX12_drawn_25 rfl (by first | rfl | assumption) ⟨rfl, (x_keep.u (x_keep.rf μ) (by unfold x_ok; omega))⟩
  · intro f F hf2 hkk hW
    subst hkk
    obtain ⟨dw, sd, hdl, hDB, hDM⟩ := s_hide sc
    by_cases hr : 0 ≤ a3 ∧ a3 ≤ nI 60
    · obtain ⟨N, hN, rfl⟩ := x_rng (N := 60) (by decide) hr
      refine ⟨s_ts (s_lts dw sd (F, s_c0) a2 N).1 a4, ?_, ?_⟩
      · intro μ w c hf hc e hC
        have hS := f_Sf hf2
        refine x_K.of (by decide) (Nat.le_of_ble_eq_true rfl) ?_
        show x_T sc 29 mX11_drawn 0 [.ref 0, .int (nI f), .int a2, .int (nI N), .int a4, .retAddr 0] [] μ w _
        refine xt_aload_n _ dX11_drawn_0 rfl ?_
        refine xt_iload_n _ dX11_drawn_1 rfl ?_
        refine xt_cV _ dX11_drawn_2 klX11_90 (tX11_fairOf sc _ μ w f c hf hc e) sh0 rfl rfl (Nat.le_of_ble_eq_true rfl) ?_
        refine xt_astore dX11_drawn_5 (by decide) rfl ?_
        change x_T _ _ _ _ [_, _, _, _, _, _] _ _ _ _
        refine xt_aload _ dX11_drawn_7 rfl ?_
        refine xt_ifnull_r dX11_drawn_9 ?_
        refine xt_iload_n _ dX11_drawn_12 rfl ?_
        refine xt_if_lt 22 dX11_drawn_13 (by decide) (fun q => absurd q (nI_pos (by omega))) (fun _ => ?_)
        refine xt_iload_n _ dX11_drawn_16 rfl ?_
        refine xt_bipush (60) dX11_drawn_17 (by decide) ?_
        refine xt_icmp_le 25 dX11_drawn_19 (by decide) (fun _ => ?_) (fun q => absurd (nI_le (b := 60) hN (by decide)) q)
        refine xt_aload_n _ dX11_drawn_25 rfl ?_
        refine xt_getr _ dX11_drawn_26 kfX11_34 (by first | exact sh0 | exact sh1 | exact sh129 | exact hS.1 | rfl | assumption) rfl ?_
        refine xt_aload _ dX11_drawn_29 rfl ?_
        refine xt_iload_n _ dX11_drawn_31 rfl ?_
        refine xt_iload_n _ dX11_drawn_32 rfl ?_
        refine xt_callV _ dX11_drawn_33 klX11_193 (tX7_runByLot sc _ μ w dw sd hdl hDB (7 + 11 * f) N F hS (by omega) hW hC a2 hN) sh129 rfl rfl (Nat.le_of_ble_eq_true rfl) (fun r2 μ2 w2 q2 => ?_)
        obtain ⟨rfl, hc2, hfr2⟩ := q2
        change x_T _ _ _ _ _ [] _ _ _
        refine xt_aload_n _ dX11_drawn_36 rfl ?_
        refine xt_getr _ dX11_drawn_37 kfX11_34 (by first | exact sh0 | exact sh1 | exact sh129 | exact hS.1 | rfl | assumption) rfl ?_
        refine xt_iload _ dX11_drawn_40 rfl ?_
        refine xt_cV _ dX11_drawn_42 klX11_115 (tX7_tell sc _ μ2 _ (s_lts dw sd (F, s_c0) a2 N).1 (s_lts_ok dw sd hdl (s_ok0 hW) a2 N) hc2 a4) sh129 rfl rfl (Nat.le_of_ble_eq_true rfl) ?_
        exact xt_iret .int dX11_drawn_45 rfl (by first | rfl | assumption) ⟨rfl, (fun a ha => hfr2 a (by unfold x_ok at ha; omega))⟩
      · intro μ w c hf hc e hF
        refine x_K.of (by decide) (Nat.le_of_ble_eq_true rfl) ?_
        show x_T sc 29 mX12_drawn 0 [.ref 152, .int (nI f), .int a2, .int (nI N), .int a4, .retAddr 0] [] μ w _
        refine xt_aload_n _ dX12_drawn_0 rfl ?_
        refine xt_iconst (0) dX12_drawn_1 (by decide) ?_
        refine xt_puti dX12_drawn_2 kpX12_72 (by first | exact sh152 | rfl | assumption) rfl (by first | rfl | assumption) (by first | rfl | assumption) ?_
        refine xt_iload_n _ dX12_drawn_5 rfl ?_
        refine xt_iconst (0) dX12_drawn_6 (by decide) ?_
        refine xt_bipush (60) dX12_drawn_7 (by decide) ?_
        refine xt_cS _ dX12_drawn_9 klX12_84 (tX12_in sc _ _ w _ _ _) rfl rfl (Nat.le_of_ble_eq_true rfl) ?_
        refine xt_if_eq 23 dX12_drawn_12 (by decide) (fun q => absurd q (s_in_nI (n := N) (N := 60) hN (by decide))) (fun _ => ?_)
        refine xt_aload_n _ dX12_drawn_15 rfl ?_
        refine xt_iload_n _ dX12_drawn_16 rfl ?_
        refine xt_callV _ dX12_drawn_17 klX12_300 (tX12_hand sc _ (x_u μ 152 (upd (μ 152) 0 0)) w f c F hf hc e hF) sh152 rfl rfl (Nat.le_of_ble_eq_true rfl) (fun r1 μ1 w1 q1 => ?_)
        obtain ⟨rfl, rfl, hS, h0, hfr⟩ := q1
        change x_T _ _ _ _ _ (.int 1 :: _) _ _ _
        refine xt_if_ne 26 dX12_drawn_20 (by decide) (fun _ => ?_) (fun q => absurd q (by decide))
        refine xt_aload_n _ dX12_drawn_26 rfl ?_
        refine xt_iload_n _ dX12_drawn_27 rfl ?_
        refine xt_puti dX12_drawn_28 kpX12_467 (by first | exact sh152 | rfl | assumption) rfl (by first | rfl | assumption) (by first | rfl | assumption) ?_
        refine xt_iconst (0) dX12_drawn_31 (by decide) ?_
        refine xt_istore dX12_drawn_32 (by decide) rfl ?_
        change x_T _ _ _ _ [_, _, _, _, _, _] _ _ _ _
        have L34 : ∀ (n34 m : Nat) (μ2 : x_Me) (w2 : Int64) (hm : m_St μ2 f (s_lts dw sd (F, s_c0) a2 m).1) (hx : μ2 152 51 = (s_lts dw sd (F, s_c0) a2 m).2) (hf : ∀ a, a ≠ 152 → a ≠ 163 → a ≠ 164 → a ≠ 165 → μ2 a = μ1 a), m + n34 = N → x_T sc 29 mX12_drawn 34 [.ref 152, .int (nI f), .int a2, .int (nI N), .int a4, .int (nI m)] [] μ2 w2 (fun r μ' _ => r = some (.int (s_ts (s_lts dw sd (F, s_c0) a2 N).1 a4)) ∧ x_keep μ μ') := by
          intro n34
          induction n34 with
          | zero =>
            intro m μ2 w2 hm hx hf hmn
            obtain rfl : N = m := by omega
            have hok := s_lts_ok dw sd hdl (s_ok0 hW) a2 N
            refine xt_iload _ dX12_drawn_34 rfl ?_
            refine xt_iload_n _ dX12_drawn_36 rfl ?_
            refine xt_icmp_ge 50 dX12_drawn_37 (by decide) (fun _ => ?_) (fun q => absurd (Int32.le_refl _) q)
            refine xt_aload_n _ dX12_drawn_50 rfl ?_
            refine xt_iload _ dX12_drawn_51 rfl ?_
            refine xt_cV _ dX12_drawn_53 klX12_350 (tX12_ofState sc _ μ2 _ f (s_lts dw sd (F, s_c0) a2 N).1 hok hm a4) sh152 rfl rfl (Nat.le_of_ble_eq_true rfl) ?_
            exact xt_iret .int dX12_drawn_56 rfl (by first | rfl | assumption) ⟨rfl, (fun a ha => by rw [hf a (by unfold x_ok at ha; omega) (by unfold x_ok at ha; omega) (by unfold x_ok at ha; omega) (by unfold x_ok at ha; omega)]; exact x_keep.hand hfr a ha)⟩
          | succ n34 ih34 =>
            intro m μ2 w2 hm hx hf hmn
            have hlt : m < N := by omega
            have hok := s_lts_ok dw sd hdl (s_ok0 hW) a2 m
            refine xt_iload _ dX12_drawn_34 rfl ?_
            refine xt_iload_n _ dX12_drawn_36 rfl ?_
            refine xt_icmp_ge 50 dX12_drawn_37 (by decide) (fun q => absurd q (nI_ge hlt (by omega))) (fun _ => ?_)
            refine xt_aload_n _ dX12_drawn_40 rfl ?_
            refine xt_callV _ dX12_drawn_41 klX12_474 (tX12_drawDeed sc _ μ2 _ dw sd hdl hDM f (s_lts dw sd (F, s_c0) a2 m).1 hok hm) sh152 rfl rfl (Nat.le_of_ble_eq_true rfl) (fun r3 μ3 w3 q3 => ?_)
            obtain ⟨rfl, hm3, hx3, hf3⟩ := q3
            change x_T _ _ _ _ _ [] _ _ _
            refine xt_inc _ (1) dX12_drawn_44 rfl (by decide) (by decide) rfl ?_
            change x_T _ _ _ _ [_, _, _, _, _, _] _ _ _ _
            refine xt_goto 34 dX12_drawn_47 (by decide) ?_
            refine x_T.ls (by rw [nI_succ m]) (ih34 (m + 1) μ3 w3 (by rw [hx] at hm3; exact hm3) (by rw [hx3, hx]; rfl) (fun a h1 h2 h3 h4 => (hf3 a h1 h2 h3 h4).trans (hf a h1 h2 h3 h4)) (by omega))
        refine L34 N 0 _ _ (m_St.seed ⟨hS, ⟨h0.1, h0.2.1, h0.2.2.1, h0.2.2.2.1, h0.2.2.2.2.1⟩, h0.2.2.2.2.2⟩ a2) rfl (fun a h1 _ _ _ => x_u_ne h1) (by omega)
    · skip
      refine ⟨-2, ?_, ?_⟩
      · intro μ w c hf hc e hC
        have hS := f_Sf hf2
        refine x_K.of (by decide) (Nat.le_of_ble_eq_true rfl) ?_
        show x_T sc 29 mX11_drawn 0 [.ref 0, .int (nI f), .int a2, .int a3, .int a4, .retAddr 0] [] μ w _
        refine xt_aload_n _ dX11_drawn_0 rfl ?_
        refine xt_iload_n _ dX11_drawn_1 rfl ?_
        refine xt_cV _ dX11_drawn_2 klX11_90 (tX11_fairOf sc _ μ w f c hf hc e) sh0 rfl rfl (Nat.le_of_ble_eq_true rfl) ?_
        refine xt_astore dX11_drawn_5 (by decide) rfl ?_
        change x_T _ _ _ _ [_, _, _, _, _, _] _ _ _ _
        refine xt_aload _ dX11_drawn_7 rfl ?_
        refine xt_ifnull_r dX11_drawn_9 ?_
        refine xt_iload_n _ dX11_drawn_12 rfl ?_
        refine xt_if_lt 22 dX11_drawn_13 (by decide) (fun t13 => ?_) (fun f13 => ?_)
        · refine xt_bipush (-2) dX11_drawn_22 (by decide) ?_
          exact xt_iret .int dX11_drawn_24 rfl (by first | rfl | assumption) ⟨rfl, x_keep.rf μ⟩
        · refine xt_iload_n _ dX11_drawn_16 rfl ?_
          refine xt_bipush (60) dX11_drawn_17 (by decide) ?_
          refine xt_icmp_le 25 dX11_drawn_19 (by decide) (fun t19 => ?_) (fun f19 => ?_)
          · exact absurd ⟨Int32.not_lt.mp f13, t19⟩ hr
          · refine xt_bipush (-2) dX11_drawn_22 (by decide) ?_
            exact xt_iret .int dX11_drawn_24 rfl (by first | rfl | assumption) ⟨rfl, x_keep.rf μ⟩
      · intro μ w c hf hc e hF
        refine x_K.of (by decide) (Nat.le_of_ble_eq_true rfl) ?_
        show x_T sc 29 mX12_drawn 0 [.ref 152, .int (nI f), .int a2, .int a3, .int a4, .retAddr 0] [] μ w _
        refine xt_aload_n _ dX12_drawn_0 rfl ?_
        refine xt_iconst (0) dX12_drawn_1 (by decide) ?_
        refine xt_puti dX12_drawn_2 kpX12_72 (by first | exact sh152 | rfl | assumption) rfl (by first | rfl | assumption) (by first | rfl | assumption) ?_
        refine xt_iload_n _ dX12_drawn_5 rfl ?_
        refine xt_iconst (0) dX12_drawn_6 (by decide) ?_
        refine xt_bipush (60) dX12_drawn_7 (by decide) ?_
        refine xt_cS _ dX12_drawn_9 klX12_84 (tX12_in sc _ _ w _ _ _) rfl rfl (Nat.le_of_ble_eq_true rfl) ?_
        refine xt_if_eq 23 dX12_drawn_12 (by decide) (fun _ => ?_) (fun q => absurd (s_in_out hr) q)
        refine xt_bipush (-2) dX12_drawn_23 (by decide) ?_
        exact xt_iret .int dX12_drawn_25 rfl (by first | rfl | assumption) ⟨rfl, (x_keep.u (x_keep.rf μ) (by unfold x_ok; omega))⟩
