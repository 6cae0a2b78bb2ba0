/-! the step of mend -/
def s_ml (F : Nat → Nat) (g j : Nat) : Nat → Nat
  | 0 => 10
  | m + 1 => if F (7 + m) = j ∧ s_farO F g ≤ F (13 + m) then min (s_ml F g j m) (F (19 + m)) else s_ml F g j m
theorem s_ml_le (F : Nat → Nat) (g j : Nat) : ∀ m, s_ml F g j m ≤ 10
  | 0 => Nat.le_refl _
  | m + 1 => by
    have := s_ml_le F g j m
    rw [s_ml]; split <;> omega
/-- what is to be mended of one KIND -/
abbrev s_ex (F : Nat → Nat) (g j m : Nat) : Nat := F (41 + (6 * g + j)) + 1 - s_ml F g j m
abbrev s_mend (F : Nat → Nat) (g : Nat) : Nat := s_sum (fun j => s_ex F g j (F 3)) 6
theorem s_mx : ∀ a, a < 11 → ∀ W, W < 10 → ∀ l, l < 11 → (if nI a < nI W - nI l + 1 then nI W - nI l + 1 else nI a) = nI (max a (W + 1 - l)) := by decide +kernel
theorem s_gx : ∀ W, W < 10 → ∀ l, l < 11 → s_gr 0 (nI W - nI l + 1) = nI (W + 1 - l) := by decide +kernel
theorem s_le_nI {a b : Nat} (ha : a < 2 ^ 31) (hb : b < 2 ^ 31) : s_le (nI a) (nI b) = nI (min a b) := by
  unfold s_le
  by_cases h : b ≤ a
  · rw [if_pos ((nI_leI hb ha).mpr h), Nat.min_eq_right h]
  · rw [if_neg (fun z => h ((nI_leI hb ha).mp z)), Nat.min_eq_left (by omega)]
section MEND
variable (sc : Nat × (Nat → Int32)) (d : Nat) {μ : x_Me} (w : Int64) {k : Nat} {F : Nat → Nat}
set_option maxHeartbeats 2000000 in
theorem tX3_toMend (hS : f_S k) (hC : f_C μ k F) (hW : f_W F) (g : Nat) (hg : g < F 4) : x_D sc (d + 3) mX3_toMend [.ref k, .int (nI g)] μ w (some (.int (nI (s_mend F g)))) μ w := by
  obtain ⟨hs0, hs1, hs2, hs3, hs4, hs5⟩ := hS
  have hg8 : g < 8 := by have := hW.1.2.2.2.2.1; omega
  have hm6 : F 3 ≤ 6 := hW.1.2.2.2.1
  have e3 : μ k 3 = nI (F 3) := hC.1 3 (by decide)
  have hfar := s_farO_le hW hg
  have L16 : ∀ j, j < 6 → ∀ s, x_T sc (d + 3) mX3_toMend 77 [.ref k, .int (nI g), .int (nI s), .int (nI j), .int (nI (s_ex F g j (F 3))), .int (nI (F 3))] [] μ w (x_p (some (.int (nI (s_mend F g)))) μ w) → ∀ n m, m + n = F 3 → x_T sc (d + 3) mX3_toMend 16 [.ref k, .int (nI g), .int (nI s), .int (nI j), .int (nI (s_ex F g j m)), .int (nI m)] [] μ w (x_p (some (.int (nI (s_mend F g)))) μ w) := by
    intro j hj s hk n
    induction n with
    | zero =>
        intro m hmn
        obtain rfl : m = F 3 := by omega
        refine xt_iload _ dX3_toMend_16 rfl ?_
        refine xt_aload_n _ dX3_toMend_18 rfl ?_
        refine xt_geti dX3_toMend_19 kfX3_27 (by first | rfl | assumption) rfl ?_
        refine xt_icmp_ge 77 dX3_toMend_22 (by decide) (fun _ => ?_) (fun q => absurd (by rw [e3]; exact Int32.le_refl _) q)
        exact hk
    | succ n ih =>
        intro m hmn
        have hlt : m < F 3 := by omega
        have hk5 := (hW.2.1 m hlt).1
        have hr18 := (hW.2.1 m hlt).2.1
        have hl9 := (hW.2.1 m hlt).2.2.2
        have hwj := hW.2.2.2.1 (6 * g + j) (by omega)
        refine xt_iload _ dX3_toMend_16 rfl ?_
        refine xt_aload_n _ dX3_toMend_18 rfl ?_
        refine xt_geti dX3_toMend_19 kfX3_27 (by first | rfl | assumption) rfl ?_
        refine xt_icmp_ge 77 dX3_toMend_22 (by decide) (fun q => absurd q (by rw [e3]; exact nI_ge hlt (by omega))) (fun _ => ?_)
        refine xt_aload_n _ dX3_toMend_25 rfl ?_
        refine xt_iload _ dX3_toMend_26 rfl ?_
        refine xt_cV _ dX3_toMend_28 klX3_33 (tX2_kindOf sc _ w (by exact ⟨hs0, hs1, hs2, hs3, hs4, hs5⟩) hC hW m hlt) (by assumption) rfl rfl (Nat.le_of_ble_eq_true rfl) ?_
        refine xt_iload_n _ dX3_toMend_31 rfl ?_
        refine xt_icmp_ne 71 dX3_toMend_32 (by decide) (fun t32 => ?_) (fun f32 => ?_)
        · refine xt_inc _ (1) dX3_toMend_71 rfl (by decide) (by decide) rfl ?_
          change x_T _ _ _ _ [_, _, _, _, _, _] _ _ _ _
          refine xt_goto 16 dX3_toMend_74 (by decide) ?_
          have hml := s_ml_le F g j m
          refine x_T.ls ?_ (ih (m + 1) (by omega))
          have es : s_ml F g j (m + 1) = s_ml F g j m := by rw [s_ml, if_neg (fun q => t32 (by rw [q.1]))]
          have ex : s_ex F g j (m + 1) = s_ex F g j m := by unfold s_ex; rw [es]
          rw [ex, nI_succ m]
        · refine xt_aload_n _ dX3_toMend_35 rfl ?_
          refine xt_iload_n _ dX3_toMend_36 rfl ?_
          refine xt_cV _ dX3_toMend_37 klX3_37 (tX2_farOf sc _ w (by exact ⟨hs0, hs1, hs2, hs3, hs4, hs5⟩) hC hW g hg) (by assumption) rfl rfl (Nat.le_of_ble_eq_true rfl) ?_
          refine xt_aload_n _ dX3_toMend_40 rfl ?_
          refine xt_iload _ dX3_toMend_41 rfl ?_
          refine xt_cV _ dX3_toMend_43 klX3_40 (tX2_reachOf sc _ w (by exact ⟨hs0, hs1, hs2, hs3, hs4, hs5⟩) hC hW m hlt) (by assumption) rfl rfl (Nat.le_of_ble_eq_true rfl) ?_
          refine xt_icmp_gt 71 dX3_toMend_46 (by decide) (fun t46 => ?_) (fun f46 => ?_)
          · refine xt_inc _ (1) dX3_toMend_71 rfl (by decide) (by decide) rfl ?_
            change x_T _ _ _ _ [_, _, _, _, _, _] _ _ _ _
            refine xt_goto 16 dX3_toMend_74 (by decide) ?_
            have hml := s_ml_le F g j m
            refine x_T.ls ?_ (ih (m + 1) (by omega))
            rw [nI_ltI (by omega) (by omega)] at t46
            have es : s_ml F g j (m + 1) = s_ml F g j m := by rw [s_ml, if_neg (fun q => by omega)]
            have ex : s_ex F g j (m + 1) = s_ex F g j m := by unfold s_ex; rw [es]
            rw [ex, nI_succ m]
          · refine xt_iload _ dX3_toMend_49 rfl ?_
            refine xt_aload_n _ dX3_toMend_51 rfl ?_
            refine xt_iload_n _ dX3_toMend_52 rfl ?_
            refine xt_iload_n _ dX3_toMend_53 rfl ?_
            refine xt_cV _ dX3_toMend_54 klX3_43 (tX2_wrongsOf sc _ w (by exact ⟨hs0, hs1, hs2, hs3, hs4, hs5⟩) hC g j hg8 hj) (by assumption) rfl rfl (Nat.le_of_ble_eq_true rfl) ?_
            refine xt_aload_n _ dX3_toMend_57 rfl ?_
            refine xt_iload _ dX3_toMend_58 rfl ?_
            refine xt_cV _ dX3_toMend_60 klX3_47 (tX2_leastOf sc _ w (by exact ⟨hs0, hs1, hs2, hs3, hs4, hs5⟩) hC hW m hlt) (by assumption) rfl rfl (Nat.le_of_ble_eq_true rfl) ?_
            refine xt_isub dX3_toMend_63 ?_
            refine xt_iconst (1) dX3_toMend_64 (by decide) ?_
            refine xt_iadd dX3_toMend_65 ?_
            refine xt_mmax dX3_toMend_66 kmX3_50 (Nat.le_of_ble_eq_true rfl) ?_
            refine xt_istore dX3_toMend_69 (by decide) rfl ?_
            change x_T _ _ _ _ [_, _, _, _, _, _] _ _ _ _
            refine xt_inc _ (1) dX3_toMend_71 rfl (by decide) (by decide) rfl ?_
            change x_T _ _ _ _ [_, _, _, _, _, _] _ _ _ _
            refine xt_goto 16 dX3_toMend_74 (by decide) ?_
            have hml := s_ml_le F g j m
            refine x_T.ls ?_ (ih (m + 1) (by omega))
            rw [nI_ltI (by omega) (by omega)] at f46
            have hkj : F (7 + m) = j := (nI_eq (by omega) (by omega)).mp f32
            have es : s_ml F g j (m + 1) = min (s_ml F g j m) (F (19 + m)) := by rw [s_ml, if_pos ⟨hkj, by omega⟩]
            have ex : s_ex F g j (m + 1) = max (s_ex F g j m) (F (41 + (6 * g + j)) + 1 - F (19 + m)) := by unfold s_ex; rw [es]; omega
            rw [ex, ← s_mx (s_ex F g j m) (by unfold s_ex; omega) _ (by omega) _ (by omega), nI_succ m]
  have L4 : ∀ n j (v4 v5 : Value), j + n = 6 → x_T sc (d + 3) mX3_toMend 4 [.ref k, .int (nI g), .int (nI (s_sum (fun j => s_ex F g j (F 3)) j)), .int (nI j), v4, v5] [] μ w (x_p (some (.int (nI (s_mend F g)))) μ w) := by
    intro n
    induction n with
    | zero =>
      intro j v4 v5 hmn
      obtain rfl : j = 6 := by omega
      refine xt_iload_n _ dX3_toMend_4 rfl ?_
      refine xt_bipush (6) dX3_toMend_5 (by decide) ?_
      refine xt_icmp_ge 88 dX3_toMend_7 (by decide) (fun _ => ?_) (fun q => absurd (by decide) q)
      refine xt_iload_n _ dX3_toMend_88 rfl ?_
      exact xt_iret .int dX3_toMend_89 rfl (by first | rfl | assumption) ⟨rfl, rfl, rfl⟩
    | succ n ih =>
      intro j v4 v5 hmn
      have hj : j < 6 := by omega
      refine xt_iload_n _ dX3_toMend_4 rfl ?_
      refine xt_bipush (6) dX3_toMend_5 (by decide) ?_
      refine xt_icmp_ge 88 dX3_toMend_7 (by decide) (fun q => absurd q (nI_ge (b := 6) hj (by decide))) (fun _ => ?_)
      refine xt_iconst (0) dX3_toMend_10 (by decide) ?_
      refine xt_istore dX3_toMend_11 (by decide) rfl ?_
      change x_T _ _ _ _ [_, _, _, _, _, _] _ _ _ _
      refine xt_iconst (0) dX3_toMend_13 (by decide) ?_
      refine xt_istore dX3_toMend_14 (by decide) rfl ?_
      change x_T _ _ _ _ [_, _, _, _, _, _] _ _ _ _
      have hwj := hW.2.2.2.1 (6 * g + j) (by omega)
      refine x_T.ls ?_ (L16 j hj (s_sum (fun j => s_ex F g j (F 3)) j) ?_ (F 3) 0 (by omega))
      · rw [s_ex, s_ml, show F (41 + (6 * g + j)) + 1 - 10 = 0 by omega]; rfl
      · refine xt_iload_n _ dX3_toMend_77 rfl ?_
        refine xt_iload _ dX3_toMend_78 rfl ?_
        refine xt_iadd dX3_toMend_80 ?_
        refine xt_istore_n dX3_toMend_81 (by decide) rfl ?_
        change x_T _ _ _ _ [_, _, _, _, _, _] _ _ _ _
        refine xt_inc _ (1) dX3_toMend_82 rfl (by decide) (by decide) rfl ?_
        change x_T _ _ _ _ [_, _, _, _, _, _] _ _ _ _
        refine xt_goto 4 dX3_toMend_85 (by decide) ?_
        refine x_T.ls ?_ (ih (j + 1) (.int (nI (s_ex F g j (F 3)))) (.int (nI (F 3))) (by omega))
        rw [nI_add, nI_succ j]
        rfl
  refine x_D.of (by decide) (Nat.le_of_ble_eq_true rfl) ?_
  show x_T sc (d + 3) mX3_toMend 0 [.ref k, .int (nI g), .retAddr 0, .retAddr 0, .retAddr 0, .retAddr 0] [] μ w _
  refine xt_iconst (0) dX3_toMend_0 (by decide) ?_
  refine xt_istore_n dX3_toMend_1 (by decide) rfl ?_
  change x_T _ _ _ _ [_, _, _, _, _, _] _ _ _ _
  refine xt_iconst (0) dX3_toMend_2 (by decide) ?_
  refine xt_istore_n dX3_toMend_3 (by decide) rfl ?_
  change x_T _ _ _ _ [_, _, _, _, _, _] _ _ _ _
  exact L4 6 0 _ _ (by omega)
end MEND
