/-! turns: the reference's fold -/
def s_bf (most : Bool) (v : Nat → Nat) (ok : Nat → Bool) : Nat → Nat × Nat
  | 0 => (0, 0)
  | k + 1 => if ok k = true ∧ ((s_bf most v ok k).1 = 0 ∨ (if most then (s_bf most v ok k).2 < v k else v k < (s_bf most v ok k).2)) then (k + 1, v k) else s_bf most v ok k
theorem s_bf_le {most : Bool} {v : Nat → Nat} {ok : Nat → Bool} (hv : ∀ k, v k ≤ 8) : ∀ k, (s_bf most v ok k).1 ≤ k ∧ (s_bf most v ok k).2 ≤ 8
  | 0 => ⟨Nat.le_refl _, Nat.zero_le _⟩
  | k + 1 => by
    have ih := s_bf_le (most := most) (ok := ok) hv k
    have := hv k
    by_cases hc : ok k = true ∧ ((s_bf most v ok k).1 = 0 ∨ (if most then (s_bf most v ok k).2 < v k else v k < (s_bf most v ok k).2))
    · rw [s_bf, if_pos hc]; exact ⟨Nat.le_refl _, this⟩
    · rw [s_bf, if_neg hc]; exact ⟨by omega, ih.2⟩
theorem s_n99 : ∀ v, v < 9 → ¬ nI v = -99 := by decide
section FOLD
variable (sc : Nat × (Nat → Int32)) (d : Nat) (μ : x_Me) (w : Int64)
set_option maxHeartbeats 2000000 in
theorem tX12_fold (most : Bool) (v : Nat → Nat) (ok : Nat → Bool) (A : Nat) (hA : A + 9 ≤ 6561) (hv : ∀ k, v k ≤ 8) (he : ∀ k, k < 9 → μ 169 (A + k) = if ok k then nI (v k) else -99) : x_K sc d mX12_fold [.ref 152, .int (nI A), .int (if most then 1 else 0)] μ w (fun r μ' _ => r = some (.int (if (s_bf most v ok 9).1 = 0 then -99 else nI (s_bf most v ok 9).2)) ∧ μ' 152 46 = eI (s_bf most v ok 9).1 ∧ (∀ j, j ≠ 46 → μ' 152 j = μ 152 j) ∧ ∀ a, a ≠ 152 → μ' a = μ a) := by
  refine x_K.of (by decide) (Nat.le_of_ble_eq_true rfl) ?_
  show x_T sc d mX12_fold 0 [.ref 152, .int (nI A), .int (if most then 1 else 0), .retAddr 0, .retAddr 0, .retAddr 0] [] μ w _
  refine xt_bipush (-99) dX12_fold_0 (by decide) ?_
  refine xt_istore_n dX12_fold_2 (by decide) rfl ?_
  change x_T _ _ _ _ [_, _, _, _, _, _] _ _ _ _
  refine xt_aload_n _ dX12_fold_3 rfl ?_
  refine xt_iconst (-1) dX12_fold_4 (by decide) ?_
  refine xt_puti dX12_fold_5 kpX12_415 (by first | exact sh152 | rfl | assumption) rfl (by first | rfl | assumption) (by first | rfl | assumption) ?_
  refine xt_iconst (0) dX12_fold_8 (by decide) ?_
  refine xt_istore dX12_fold_9 (by decide) rfl ?_
  change x_T _ _ _ _ [_, _, _, _, _, _] _ _ _ _
  have L11 : ∀ (n11 k : Nat) (μ2 : x_Me) (v5 : Value) (h46 : μ2 152 46 = eI (s_bf most v ok k).1) (h152 : ∀ j, j ≠ 46 → μ2 152 j = μ 152 j) (hf : ∀ a, a ≠ 152 → μ2 a = μ a), k + n11 = 9 → x_T sc d mX12_fold 11 [.ref 152, .int (nI A), .int (if most then 1 else 0), .int (if (s_bf most v ok k).1 = 0 then -99 else nI (s_bf most v ok k).2), .int (nI k), v5] [] μ2 w (fun r μ' _ => r = some (.int (if (s_bf most v ok 9).1 = 0 then -99 else nI (s_bf most v ok 9).2)) ∧ μ' 152 46 = eI (s_bf most v ok 9).1 ∧ (∀ j, j ≠ 46 → μ' 152 j = μ 152 j) ∧ ∀ a, a ≠ 152 → μ' a = μ a) := by
    intro n11
    induction n11 with
    | zero =>
      intro k μ2 v5 h46 h152 hf hmn
      obtain rfl : 9 = k := by omega
      refine xt_iload _ dX12_fold_11 rfl ?_
      refine xt_bipush (9) dX12_fold_13 (by decide) ?_
      refine xt_icmp_ge 76 dX12_fold_15 (by decide) (fun _ => ?_) (fun q => absurd (by decide) q)
      refine xt_iload_n _ dX12_fold_76 rfl ?_
      exact xt_iret .int dX12_fold_77 rfl (by first | rfl | assumption) ⟨rfl, h46, h152, hf⟩
    | succ n11 ih11 =>
      intro k μ2 v5 h46 h152 hf hmn
      have hlt_k : k < 9 := by omega
      have hvk := hv k
      obtain ⟨hb1, hb2⟩ := s_bf_le (most := most) (ok := ok) hv k
      refine xt_iload _ dX12_fold_11 rfl ?_
      refine xt_bipush (9) dX12_fold_13 (by decide) ?_
      refine xt_icmp_ge 76 dX12_fold_15 (by decide) (fun q => absurd q (nI_ge (b := 9) hlt_k (by decide))) (fun _ => ?_)
      refine xt_aload_n _ dX12_fold_18 rfl ?_
      refine xt_getr _ dX12_fold_19 kfX12_59 (by first | exact sh152 | rfl | assumption) rfl ?_
      refine xt_iload_n _ dX12_fold_22 rfl ?_
      refine xt_iload _ dX12_fold_23 rfl ?_
      refine xt_iadd dX12_fold_25 ?_
      refine xt_ald dX12_fold_26 (by first | exact sh152 | rfl | assumption) (by rw [nI_add]; exact vp_in_nI (by omega) (by decide)) ?_
      rw [nI_add, nI_clamp (by omega), hf 169 (by decide), he k (by omega)]
      refine xt_istore dX12_fold_27 (by decide) rfl ?_
      change x_T _ _ _ _ [_, _, _, _, _, _] _ _ _ _
      refine xt_iload _ dX12_fold_29 rfl ?_
      refine xt_bipush (-99) dX12_fold_31 (by decide) ?_
      refine xt_icmp_eq 70 dX12_fold_33 (by decide) (fun t33 => ?_) (fun f33 => ?_)
      · refine xt_inc _ (1) dX12_fold_70 rfl (by decide) (by decide) rfl ?_
        change x_T _ _ _ _ [_, _, _, _, _, _] _ _ _ _
        refine xt_goto 11 dX12_fold_73 (by decide) ?_
        have hno : ok k = false := by
          cases hq : ok k
          · rfl
          · rw [hq, if_pos rfl] at t33; exact absurd t33 (s_n99 (v k) (by omega))
        have es : s_bf most v ok (k + 1) = (s_bf most v ok k) := by rw [s_bf, if_neg (fun z => by rw [hno] at z; exact absurd z.1 (by decide))]
        refine x_T.ls ?_ (ih11 (k + 1) μ2 (.int (if ok k then nI (v k) else -99)) (by rw [es]; exact h46) h152 hf (by omega))
        rw [es, nI_succ k]
      · have hok : ok k = true := by
          cases hq : ok k
          · rw [hq] at f33; exact absurd rfl f33
          · rfl
        rw [hok, if_pos rfl]
        refine xt_iload_n _ dX12_fold_36 rfl ?_
        refine xt_bipush (-99) dX12_fold_37 (by decide) ?_
        refine xt_icmp_eq 61 dX12_fold_39 (by decide) (fun t39 => ?_) (fun f39 => ?_)
        · have hz : (s_bf most v ok k).1 = 0 := Classical.byContradiction (fun z => by rw [if_neg z] at t39; exact absurd t39 (s_n99 _ (by omega)))
          refine xt_iload _ dX12_fold_61 rfl ?_
          refine xt_istore_n dX12_fold_63 (by decide) rfl ?_
          change x_T _ _ _ _ [_, _, _, _, _, _] _ _ _ _
          refine xt_aload_n _ dX12_fold_64 rfl ?_
          refine xt_iload _ dX12_fold_65 rfl ?_
          refine xt_puti dX12_fold_67 kpX12_415 (by first | exact sh152 | rfl | assumption) rfl (by first | rfl | assumption) (by first | rfl | assumption) ?_
          refine xt_inc _ (1) dX12_fold_70 rfl (by decide) (by decide) rfl ?_
          change x_T _ _ _ _ [_, _, _, _, _, _] _ _ _ _
          refine xt_goto 11 dX12_fold_73 (by decide) ?_
          have es : s_bf most v ok (k + 1) = (k + 1, v k) := by rw [s_bf, if_pos ⟨hok, .inl hz⟩]
          refine x_T.ls ?_ (ih11 (k + 1) _ (.int (nI (v k))) (by rw [es, x_u_eq, pk_us]; exact (eI_s k).symm) (fun j hj => by rw [x_u_eq, pk_un hj]; exact h152 j hj) (fun a ha => by rw [x_u_ne ha]; exact hf a ha) (by omega))
          rw [es, nI_succ k]
          rfl
        · have hnz : ¬ (s_bf most v ok k).1 = 0 := fun z => f39 (by rw [if_pos z])
          rw [if_neg hnz]
          refine xt_iload_n _ dX12_fold_42 rfl ?_
          refine xt_if_eq 55 dX12_fold_43 (by decide) (fun t43 => ?_) (fun f43 => ?_)
          · have hm := s_if0 t43
            refine xt_iload _ dX12_fold_55 rfl ?_
            refine xt_iload_n _ dX12_fold_57 rfl ?_
            refine xt_icmp_ge 70 dX12_fold_58 (by decide) (fun t58 => ?_) (fun f58 => ?_)
            · have n58 : (s_bf most v ok k).2 ≤ v k := (nI_leI (a := (s_bf most v ok k).2) (b := v k) (by omega) (by omega)).mp t58
              refine xt_inc _ (1) dX12_fold_70 rfl (by decide) (by decide) rfl ?_
              change x_T _ _ _ _ [_, _, _, _, _, _] _ _ _ _
              refine xt_goto 11 dX12_fold_73 (by decide) ?_
              have es : s_bf most v ok (k + 1) = (s_bf most v ok k) := by
                rw [s_bf, if_neg]
                intro z0
                rcases z0.2 with z | z
                · exact hnz z
                · rw [if_neg (show ¬ most = true by rw [hm]; decide)] at z; omega
              refine x_T.ls ?_ (ih11 (k + 1) μ2 (.int (nI (v k))) (by rw [es]; exact h46) h152 hf (by omega))
              rw [es, if_neg hnz, nI_succ k]
            · have n58 : ¬ ((s_bf most v ok k).2 ≤ v k) := fun z => f58 ((nI_leI (a := (s_bf most v ok k).2) (b := v k) (by omega) (by omega)).mpr z)
              refine xt_iload _ dX12_fold_61 rfl ?_
              refine xt_istore_n dX12_fold_63 (by decide) rfl ?_
              change x_T _ _ _ _ [_, _, _, _, _, _] _ _ _ _
              refine xt_aload_n _ dX12_fold_64 rfl ?_
              refine xt_iload _ dX12_fold_65 rfl ?_
              refine xt_puti dX12_fold_67 kpX12_415 (by first | exact sh152 | rfl | assumption) rfl (by first | rfl | assumption) (by first | rfl | assumption) ?_
              refine xt_inc _ (1) dX12_fold_70 rfl (by decide) (by decide) rfl ?_
              change x_T _ _ _ _ [_, _, _, _, _, _] _ _ _ _
              refine xt_goto 11 dX12_fold_73 (by decide) ?_
              have es : s_bf most v ok (k + 1) = (k + 1, v k) := by rw [s_bf, if_pos ⟨hok, .inr (by rw [if_neg (show ¬ most = true by rw [hm]; decide)]; omega)⟩]
              refine x_T.ls ?_ (ih11 (k + 1) _ (.int (nI (v k))) (by rw [es, x_u_eq, pk_us]; exact (eI_s k).symm) (fun j hj => by rw [x_u_eq, pk_un hj]; exact h152 j hj) (fun a ha => by rw [x_u_ne ha]; exact hf a ha) (by omega))
              rw [es, nI_succ k]
              rfl
          · have hm := s_if1 f43
            refine xt_iload _ dX12_fold_46 rfl ?_
            refine xt_iload_n _ dX12_fold_48 rfl ?_
            refine xt_icmp_le 70 dX12_fold_49 (by decide) (fun t49 => ?_) (fun f49 => ?_)
            · have n49 : v k ≤ (s_bf most v ok k).2 := (nI_leI (a := v k) (b := (s_bf most v ok k).2) (by omega) (by omega)).mp t49
              refine xt_inc _ (1) dX12_fold_70 rfl (by decide) (by decide) rfl ?_
              change x_T _ _ _ _ [_, _, _, _, _, _] _ _ _ _
              refine xt_goto 11 dX12_fold_73 (by decide) ?_
              have es : s_bf most v ok (k + 1) = (s_bf most v ok k) := by
                rw [s_bf, if_neg]
                intro z0
                rcases z0.2 with z | z
                · exact hnz z
                · rw [if_pos hm] at z; omega
              refine x_T.ls ?_ (ih11 (k + 1) μ2 (.int (nI (v k))) (by rw [es]; exact h46) h152 hf (by omega))
              rw [es, if_neg hnz, nI_succ k]
            · have n49 : ¬ (v k ≤ (s_bf most v ok k).2) := fun z => f49 ((nI_leI (a := v k) (b := (s_bf most v ok k).2) (by omega) (by omega)).mpr z)
              refine xt_goto 61 dX12_fold_52 (by decide) ?_
              refine xt_iload _ dX12_fold_61 rfl ?_
              refine xt_istore_n dX12_fold_63 (by decide) rfl ?_
              change x_T _ _ _ _ [_, _, _, _, _, _] _ _ _ _
              refine xt_aload_n _ dX12_fold_64 rfl ?_
              refine xt_iload _ dX12_fold_65 rfl ?_
              refine xt_puti dX12_fold_67 kpX12_415 (by first | exact sh152 | rfl | assumption) rfl (by first | rfl | assumption) (by first | rfl | assumption) ?_
              refine xt_inc _ (1) dX12_fold_70 rfl (by decide) (by decide) rfl ?_
              change x_T _ _ _ _ [_, _, _, _, _, _] _ _ _ _
              refine xt_goto 11 dX12_fold_73 (by decide) ?_
              have es : s_bf most v ok (k + 1) = (k + 1, v k) := by rw [s_bf, if_pos ⟨hok, .inr (by rw [if_pos hm]; omega)⟩]
              refine x_T.ls ?_ (ih11 (k + 1) _ (.int (nI (v k))) (by rw [es, x_u_eq, pk_us]; exact (eI_s k).symm) (fun j hj => by rw [x_u_eq, pk_un hj]; exact h152 j hj) (fun a ha => by rw [x_u_ne ha]; exact hf a ha) (by omega))
              rw [es, nI_succ k]
              rfl
  exact L11 9 0 _ _ (by rw [x_u_eq, pk_us]; exact eI_0.symm) (fun j hj => by rw [x_u_eq, pk_un hj]) (fun a ha => x_u_ne ha) (by omega)
end FOLD
