/-! turns: the reference lays its rows -/
def m_R (μ : x_Me) (G : Nat → Nat) : Prop := (∀ g, g < 8 → μ 163 g = nI (G (25 + g)) ∧ μ 164 g = nI (G (33 + g))) ∧ ∀ i, i < 48 → μ 165 i = nI (G (41 + i))
def s_tu (G : Nat → Nat) (g : Nat) (st : Bool) : Nat → Nat := fun i => if st then (if 41 + 6 * g ≤ i ∧ i < 47 + 6 * g then 0 else G i) else (if i = 25 + g then G 0 else if i = 33 + g then G 1 else G i)
section TURNSM
variable (sc : Nat × (Nat → Int32)) (d : Nat) (μ : x_Me) (w : Int64)
set_option maxHeartbeats 1000000 in
theorem tX12_nines (n : Nat) (hn : n ≤ 4) : x_K sc d mX12_nines [.int (nI n)] μ w (x_p (some (.int (nI (9 ^ n)))) μ w) := by
  refine x_K.of (by decide) (Nat.le_of_ble_eq_true rfl) ?_
  show x_T sc d mX12_nines 0 [.int (nI n), .retAddr 0, .retAddr 0] [] μ w _
  refine xt_iconst (1) dX12_nines_0 (by decide) ?_
  refine xt_istore_n dX12_nines_1 (by decide) rfl ?_
  change x_T _ _ _ _ [_, _, _] _ _ _ _
  refine xt_iconst (0) dX12_nines_2 (by decide) ?_
  refine xt_istore_n dX12_nines_3 (by decide) rfl ?_
  change x_T _ _ _ _ [_, _, _] _ _ _ _
  have L4 : ∀ (n4 m : Nat) , m + n4 = n → x_T sc d mX12_nines 4 [.int (nI n), .int (nI (9 ^ m)), .int (nI m)] [] μ w (x_p (some (.int (nI (9 ^ n)))) μ w) := by
    intro n4
    induction n4 with
    | zero =>
      intro m  hmn
      obtain rfl : n = m := by omega
      refine xt_iload_n _ dX12_nines_4 rfl ?_
      refine xt_iload_n _ dX12_nines_5 rfl ?_
      refine xt_icmp_ge 20 dX12_nines_6 (by decide) (fun _ => ?_) (fun q => absurd (Int32.le_refl _) q)
      refine xt_iload_n _ dX12_nines_20 rfl ?_
      exact xt_iret .int dX12_nines_21 rfl (by first | rfl | assumption) ⟨rfl, rfl, rfl⟩
    | succ n4 ih4 =>
      intro m  hmn
      have hlt : m < n := by omega
      refine xt_iload_n _ dX12_nines_4 rfl ?_
      refine xt_iload_n _ dX12_nines_5 rfl ?_
      refine xt_icmp_ge 20 dX12_nines_6 (by decide) (fun q => absurd q (nI_ge hlt (by omega))) (fun _ => ?_)
      refine xt_iload_n _ dX12_nines_9 rfl ?_
      refine xt_bipush (9) dX12_nines_10 (by decide) ?_
      refine xt_imul dX12_nines_12 ?_
      refine xt_istore_n dX12_nines_13 (by decide) rfl ?_
      change x_T _ _ _ _ [_, _, _] _ _ _ _
      refine xt_inc _ (1) dX12_nines_14 rfl (by decide) (by decide) rfl ?_
      change x_T _ _ _ _ [_, _, _] _ _ _ _
      refine xt_goto 4 dX12_nines_17 (by decide) ?_
      refine x_T.ls ?_ (ih4 (m + 1) (by omega))
      rw [Nat.pow_succ, ← pk_mul, nI_succ m]; rfl
  exact L4 (n) 0  (by omega)
set_option maxHeartbeats 2000000 in
theorem tX12_asTold (f : Nat) (F : Nat → Nat) (hf2 : f < 2) (h22 : μ 152 22 = nI f) (hF : ∀ i, i < 125 → μ 158 (125 * f + i) = nI (F i)) : x_K sc (d + 1) mX12_asTold [.ref 152] μ w (fun r μ' _ => r = none ∧ m_R μ' F ∧ ∀ a, a ≠ 163 → a ≠ 164 → a ≠ 165 → μ' a = μ a) := by
  refine x_K.of (by decide) (Nat.le_of_ble_eq_true rfl) ?_
  show x_T sc (d + 1) mX12_asTold 0 [.ref 152, .retAddr 0] [] μ w _
  refine xt_iconst (0) dX12_asTold_0 (by decide) ?_
  refine xt_istore_n dX12_asTold_1 (by decide) rfl ?_
  change x_T _ _ _ _ [_, _] _ _ _ _
  have L2 : ∀ (n2 m : Nat) (μ2 : x_Me) (h1 : ∀ g, g < m → μ2 163 g = nI (F (25 + g)) ∧ μ2 164 g = nI (F (33 + g))) (hf : ∀ a, a ≠ 163 → a ≠ 164 → a ≠ 165 → μ2 a = μ a), m + n2 = 8 → x_T sc (d + 1) mX12_asTold 2 [.ref 152, .int (nI m)] [] μ2 w (fun r μ' _ => r = none ∧ m_R μ' F ∧ ∀ a, a ≠ 163 → a ≠ 164 → a ≠ 165 → μ' a = μ a) := by
    intro n2
    induction n2 with
    | zero =>
      intro m μ2 h1 hf hmn
      obtain rfl : 8 = m := by omega
      refine xt_iload_n _ dX12_asTold_2 rfl ?_
      refine xt_bipush (8) dX12_asTold_3 (by decide) ?_
      refine xt_icmp_ge 42 dX12_asTold_5 (by decide) (fun _ => ?_) (fun q => absurd (by decide) q)
      refine xt_iconst (0) dX12_asTold_42 (by decide) ?_
      refine xt_istore_n dX12_asTold_43 (by decide) rfl ?_
      change x_T _ _ _ _ [_, _] _ _ _ _
      have L44 : ∀ (n44 m : Nat) (μ3 : x_Me) (h13 : ∀ g, g < 8 → μ3 163 g = nI (F (25 + g)) ∧ μ3 164 g = nI (F (33 + g))) (h23 : ∀ i, i < m → μ3 165 i = nI (F (41 + i))) (hf3 : ∀ a, a ≠ 163 → a ≠ 164 → a ≠ 165 → μ3 a = μ a), m + n44 = 48 → x_T sc (d + 1) mX12_asTold 44 [.ref 152, .int (nI m)] [] μ3 w (fun r μ' _ => r = none ∧ m_R μ' F ∧ ∀ a, a ≠ 163 → a ≠ 164 → a ≠ 165 → μ' a = μ a) := by
        intro n44
        induction n44 with
        | zero =>
          intro m μ3 h13 h23 hf3 hmn
          obtain rfl : 48 = m := by omega
          refine xt_iload_n _ dX12_asTold_44 rfl ?_
          refine xt_bipush (48) dX12_asTold_45 (by decide) ?_
          refine xt_icmp_ge 70 dX12_asTold_47 (by decide) (fun _ => ?_) (fun q => absurd (by decide) q)
          exact xt_ret dX12_asTold_70 rfl ⟨rfl, ⟨h13, h23⟩, hf3⟩
        | succ n44 ih44 =>
          intro m μ3 h13 h23 hf3 hmn
          have hlt : m < 48 := by omega
          refine xt_iload_n _ dX12_asTold_44 rfl ?_
          refine xt_bipush (48) dX12_asTold_45 (by decide) ?_
          refine xt_icmp_ge 70 dX12_asTold_47 (by decide) (fun q => absurd q (nI_ge (b := 48) hlt (by decide))) (fun _ => ?_)
          refine xt_aload_n _ dX12_asTold_50 rfl ?_
          refine xt_getr _ dX12_asTold_51 kfX12_47 (by first | exact sh152 | rfl | assumption) rfl ?_
          refine xt_iload_n _ dX12_asTold_54 rfl ?_
          refine xt_aload_n _ dX12_asTold_55 rfl ?_
          refine xt_bipush (41) dX12_asTold_56 (by decide) ?_
          refine xt_iload_n _ dX12_asTold_58 rfl ?_
          refine xt_iadd dX12_asTold_59 ?_
          rw [show (41 : Int32) + nI m = nI (41 + m) from nI_add 41 m]
          refine xt_cV _ dX12_asTold_60 klX12_244 (tX12_of sc _ μ3 _ f (41 + m) (by omega) (by omega) (by rw [hf3 152 (by decide) (by decide) (by decide)]; exact h22)) sh152 rfl rfl (Nat.le_of_ble_eq_true rfl) ?_
          rw [hf3 158 (by decide) (by decide) (by decide), hF _ (by omega)]
          refine xt_ast dX12_asTold_63 (by first | exact sh152 | rfl | assumption) (by exact vp_in_nI (by omega) (by decide)) ?_
          refine xt_inc _ (1) dX12_asTold_64 rfl (by decide) (by decide) rfl ?_
          change x_T _ _ _ _ [_, _] _ _ _ _
          refine xt_goto 44 dX12_asTold_67 (by decide) ?_
          refine x_T.ls (by rw [nI_succ m]) (ih44 (m + 1) _ (fun g hg => by rw [x_u_ne (by decide), x_u_ne (by decide)]; exact h13 g hg) (fun i hi => ?_) (fun a ha hb hc => by rw [x_u_ne hc]; exact hf3 a ha hb hc) (by omega))
          rw [x_u_eq, nI_clamp (by omega)]
          by_cases he : i = m
          · rw [he, pk_us]
          · rw [pk_un he]; exact h23 i (by omega)
      exact L44 48 0 μ2 h1 (fun i h => absurd h (by omega)) hf (by omega)
    | succ n2 ih2 =>
      intro m μ2 h1 hf hmn
      have hlt : m < 8 := by omega
      refine xt_iload_n _ dX12_asTold_2 rfl ?_
      refine xt_bipush (8) dX12_asTold_3 (by decide) ?_
      refine xt_icmp_ge 42 dX12_asTold_5 (by decide) (fun q => absurd q (nI_ge (b := 8) hlt (by decide))) (fun _ => ?_)
      refine xt_aload_n _ dX12_asTold_8 rfl ?_
      refine xt_getr _ dX12_asTold_9 kfX12_41 (by first | exact sh152 | rfl | assumption) rfl ?_
      refine xt_iload_n _ dX12_asTold_12 rfl ?_
      refine xt_aload_n _ dX12_asTold_13 rfl ?_
      refine xt_bipush (25) dX12_asTold_14 (by decide) ?_
      refine xt_iload_n _ dX12_asTold_16 rfl ?_
      refine xt_iadd dX12_asTold_17 ?_
      rw [show (25 : Int32) + nI m = nI (25 + m) from nI_add 25 m]
      refine xt_cV _ dX12_asTold_18 klX12_244 (tX12_of sc _ μ2 _ f (25 + m) (by omega) (by omega) (by rw [hf 152 (by decide) (by decide) (by decide)]; exact h22)) sh152 rfl rfl (Nat.le_of_ble_eq_true rfl) ?_
      rw [hf 158 (by decide) (by decide) (by decide), hF _ (by omega)]
      refine xt_ast dX12_asTold_21 (by first | exact sh152 | rfl | assumption) (by exact vp_in_nI (by omega) (by decide)) ?_
      refine xt_aload_n _ dX12_asTold_22 rfl ?_
      refine xt_getr _ dX12_asTold_23 kfX12_44 (by first | exact sh152 | rfl | assumption) rfl ?_
      refine xt_iload_n _ dX12_asTold_26 rfl ?_
      refine xt_aload_n _ dX12_asTold_27 rfl ?_
      refine xt_bipush (33) dX12_asTold_28 (by decide) ?_
      refine xt_iload_n _ dX12_asTold_30 rfl ?_
      refine xt_iadd dX12_asTold_31 ?_
      rw [show (33 : Int32) + nI m = nI (33 + m) from nI_add 33 m]
      refine xt_cV _ dX12_asTold_32 klX12_244 (tX12_of sc _ _ _ f (33 + m) (by omega) (by omega) (by rw [x_u_ne (by decide), hf 152 (by decide) (by decide) (by decide)]; exact h22)) sh152 rfl rfl (Nat.le_of_ble_eq_true rfl) ?_
      rw [x_u_ne (by decide), hf 158 (by decide) (by decide) (by decide), hF _ (by omega)]
      refine xt_ast dX12_asTold_35 (by first | exact sh152 | rfl | assumption) (by exact vp_in_nI (by omega) (by decide)) ?_
      refine xt_inc _ (1) dX12_asTold_36 rfl (by decide) (by decide) rfl ?_
      change x_T _ _ _ _ [_, _] _ _ _ _
      refine xt_goto 2 dX12_asTold_39 (by decide) ?_
      refine x_T.ls (by rw [nI_succ m]) (ih2 (m + 1) _ (fun g hg => ?_) (fun a ha hb hc => by rw [x_u_ne hb, x_u_ne ha]; exact hf a ha hb hc) (by omega))
      rw [x_u_ne (by decide), x_u_eq, x_u_eq, x_u_ne (by decide), nI_clamp (by omega)]
      by_cases he : g = m
      · rw [he, pk_us, pk_us]; exact ⟨rfl, rfl⟩
      · rw [pk_un he, pk_un he]; exact h1 g (by omega)
  exact L2 (8) 0 μ (fun g h => absurd h (by omega)) (fun _ _ _ _ => rfl) (by omega)
end TURNSM
