/-! turns: the reference lays its rows -/
def m_R (μ : x_Me) (G : Nat → Nat) : Prop := (∀ g, g < 8 → μ 163 g = nI (G (25 + g)) ∧ μ 164 g = nI (G (33 + g))) ∧ ∀ i, i < 48 → μ 165 i = nI (G (41 + i))
def s_tu (G : Nat → Nat) (g : Nat) (st : Bool) : Nat → Nat := fun i => if st then (if 41 + 6 * g ≤ i ∧ i < 47 + 6 * g then 0 else G i) else (if i = 25 + g then G 0 else if i = 33 + g then G 1 else G i)
section TURNSM
variable (sc : Nat × (Nat → Int32)) (d : Nat) (μ : x_Me) (w : Int64)
set_option maxHeartbeats 1000000 in
theorem tX12_nines (n : Nat) (hn : n ≤ 4) : x_K sc d mX12_nines [.int (nI n)] μ w (x_p (some (.int (nI (9 ^ n)))) μ w) := by
  refine x_K.of (by decide) (Nat.le_of_ble_eq_true rfl) ?_
  show x_T sc d mX12_nines 0 [.int (nI n), .retAddr 0, .retAddr 0] [] μ w _
  refine xt_iconst (1) dX12_nines_0 (by decide) ?_
  refine xt_istore_n dX12_nines_1 (by decide) rfl ?_
  change x_T _ _ _ _ [_, _, _] _ _ _ _
  refine xt_iconst (0) dX12_nines_2 (by decide) ?_
  refine xt_istore_n dX12_nines_3 (by decide) rfl ?_
  change x_T _ _ _ _ [_, _, _] _ _ _ _
  have L4 : ∀ (n4 m : Nat) , m + n4 = n → x_T sc d mX12_nines 4 [.int (nI n), .int (nI (9 ^ m)), .int (nI m)] [] μ w (x_p (some (.int (nI (9 ^ n)))) μ w) := by
    intro n4
    induction n4 with
    | zero =>
      intro m  hmn
      obtain rfl : n = m := by omega
      refine xt_iload_n _ dX12_nines_4 rfl ?_
      refine xt_iload_n _ dX12_nines_5 rfl ?_
      refine xt_icmp_ge 20 dX12_nines_6 (by decide) (fun _ => ?_) (fun q => absurd (Int32.le_refl _) q)
      refine xt_iload_n _ dX12_nines_20 rfl ?_
      exact xt_iret .int dX12_nines_21 rfl (by first | rfl | assumption) ⟨rfl, rfl, rfl⟩
    | succ n4 ih4 =>
      intro m  hmn
      have hlt : m < n := by omega
      refine xt_iload_n _ dX12_nines_4 rfl ?_
      refine xt_iload_n _ dX12_nines_5 rfl ?_
      refine xt_icmp_ge 20 dX12_nines_6 (by decide) (fun q => absurd q (nI_ge hlt (by omega))) (fun _ => ?_)
      refine xt_iload_n _ dX12_nines_9 rfl ?_
      refine xt_bipush (9) dX12_nines_10 (by decide) ?_
      refine xt_imul dX12_nines_12 ?_
      refine xt_istore_n dX12_nines_13 (by decide) rfl ?_
      change x_T _ _ _ _ [_, _, _] _ _ _ _
      refine xt_inc _ (1) dX12_nines_14 rfl (by decide) (by decide) rfl ?_
      change x_T _ _ _ _ [_, _, _] _ _ _ _
      refine xt_goto 4 dX12_nines_17 (by decide) ?_
      refine x_T.ls ?_ (ih4 (m + 1) (by omega))
      rw [Nat.pow_succ, ← pk_mul, nI_succ m]; rfl
  exact L4 (n) 0  (by omega)
set_option maxHeartbeats 2000000 in
theorem tX12_asTold (f : Nat) (F : Nat → Nat) (hf2 : f < 2) (h22 : μ 152 22 = nI f) (hF : ∀ i, i < 125 → μ 158 (125 * f + i) = nI (F i)) : x_K sc (d + 1) mX12_asTold [.ref 152] μ w (fun r μ' _ => r = none ∧ m_R μ' F ∧ ∀ a, a ≠ 163 → a ≠ 164 → a ≠ 165 → μ' a = μ a) := by
  refine x_K.of (by decide) (Nat.le_of_ble_eq_true rfl) ?_
  show x_T sc (d + 1) mX12_asTold 0 [.ref 152, .retAddr 0] [] μ w _
  refine xt_iconst (0) dX12_asTold_0 (by decide) ?_
  refine xt_istore_n dX12_asTold_1 (by decide) rfl ?_
  change x_T _ _ _ _ [_, _] _ _ _ _
  have L2 : ∀ (n2 m : Nat) (μ2 : x_Me) (h1 : ∀ g, g < m → μ2 163 g = nI (F (25 + g)) ∧ μ2 164 g = nI (F (33 + g))) (hf : ∀ a, a ≠ 163 → a ≠ 164 → a ≠ 165 → μ2 a = μ a), m + n2 = 8 → x_T sc (d + 1) mX12_asTold 2 [.ref 152, .int (nI m)] [] μ2 w (fun r μ' _ => r = none ∧ m_R μ' F ∧ ∀ a, a ≠ 163 → a ≠ 164 → a ≠ 165 → μ' a = μ a) := by
    intro n2
    induction n2 with
    | zero =>
      intro m μ2 h1 hf hmn
      obtain rfl : 8 = m := by omega
      refine xt_iload_n _ dX12_asTold_2 rfl ?_
      refine xt_bipush (8) dX12_asTold_3 (by decide) ?_
      refine xt_icmp_ge 42 dX12_asTold_5 (by decide) (fun _ => ?_) (fun q => absurd (by decide) q)
      refine xt_iconst (0) dX12_asTold_42 (by decide) ?_
      refine xt_istore_n dX12_asTold_43 (by decide) rfl ?_
      change x_T _ _ _ _ [_, _] _ _ _ _
      have L44 : ∀ (n44 m : Nat) (μ3 : x_Me) (h13 : ∀ g, g < 8 → μ3 163 g = nI (F (25 + g)) ∧ μ3 164 g = nI (F (33 + g))) (h23 : ∀ i, i < m → μ3 165 i = nI (F (41 + i))) (hf3 : ∀ a, a ≠ 163 → a ≠ 164 → a ≠ 165 → μ3 a = μ a), m + n44 = 48 → x_T sc (d + 1) mX12_asTold 44 [.ref 152, .int (nI m)] [] μ3 w (fun r μ' _ => r = none ∧ m_R μ' F ∧ ∀ a, a ≠ 163 → a ≠ 164 → a ≠ 165 → μ' a = μ a) := by
        intro n44
        induction n44 with
        | zero =>
          intro m μ3 h13 h23 hf3 hmn
          obtain rfl : 48 = m := by omega
          refine xt_iload_n _ dX12_asTold_44 rfl ?_
          refine xt_bipush (48) dX12_asTold_45 (by decide) ?_
          refine xt_icmp_ge 70 dX12_asTold_47 (by decide) (fun _ => ?_) (fun q => absurd (by decide) q)
          exact xt_ret dX12_asTold_70 rfl ⟨rfl, ⟨h13, h23⟩, hf3⟩
        | succ n44 ih44 =>
          intro m μ3 h13 h23 hf3 hmn
          have hlt : m < 48 := by omega
          refine xt_iload_n _ dX12_asTold_44 rfl ?_
          refine xt_bipush (48) dX12_asTold_45 (by decide) ?_
          refine xt_icmp_ge 70 dX12_asTold_47 (by decide) (fun q => absurd q (nI_ge (b := 48) hlt (by decide))) (fun _ => ?_)
          refine xt_aload_n _ dX12_asTold_50 rfl ?_
          refine xt_getr _ dX12_asTold_51 kfX12_47 (by first | exact sh152 | rfl | assumption) rfl ?_
          refine xt_iload_n _ dX12_asTold_54 rfl ?_
          refine xt_aload_n _ dX12_asTold_55 rfl ?_
          refine xt_bipush (41) dX12_asTold_56 (by decide) ?_
          refine xt_iload_n _ dX12_asTold_58 rfl ?_
          refine xt_iadd dX12_asTold_59 ?_
          rw [show (41 : Int32) + nI m = nI (41 + m) from nI_add 41 m]
          refine xt_cV _ dX12_asTold_60 klX12_244 (tX12_of sc _ μ3 _ f (41 + m) (by omega) (by omega) (by rw [hf3 152 (by decide) (by decide) (by decide)]; exact h22)) sh152 rfl rfl (Nat.le_of_ble_eq_true rfl) ?_
          rw [hf3 158 (by decide) (by decide) (by decide), hF _ (by omega)]
          refine xt_ast dX12_asTold_63 (by first | exact sh152 | rfl | assumption) (by exact vp_in_nI (by omega) (by decide)) ?_
          refine xt_inc _ (1) dX12_asTold_64 rfl (by decide) (by decide) rfl ?_
          change x_T _ _ _ _ [_, _] _ _ _ _
          refine xt_goto 44 dX12_asTold_67 (by decide) ?_
          refine x_T.ls (by rw [nI_succ m]) (ih44 (m + 1) _ (fun g hg => by rw [x_u_ne (by decide), x_u_ne (by decide)]; exact h13 g hg) (fun i hi => ?_) (fun a ha hb hc => by rw [x_u_ne hc]; exact hf3 a ha hb hc) (by omega))
          rw [x_u_eq, nI_clamp (by omega)]
          by_cases he : i = m
          · rw [he, pk_us]
          · rw [pk_un he]; exact h23 i (by omega)
      exact L44 48 0 μ2 h1 (fun i h => absurd h (by omega)) hf (by omega)
    | succ n2 ih2 =>
      intro m μ2 h1 hf hmn
      have hlt : m < 8 := by omega
      refine xt_iload_n _ dX12_asTold_2 rfl ?_
      refine xt_bipush (8) dX12_asTold_3 (by decide) ?_
      refine xt_icmp_ge 42 dX12_asTold_5 (by decide) (fun q => absurd q (nI_ge (b := 8) hlt (by decide))) (fun _ => ?_)
      refine xt_aload_n _ dX12_asTold_8 rfl ?_
      refine xt_getr _ dX12_asTold_9 kfX12_41 (by first | exact sh152 | rfl | assumption) rfl ?_
      refine xt_iload_n _ dX12_asTold_12 rfl ?_
      refine xt_aload_n _ dX12_asTold_13 rfl ?_
      refine xt_bipush (25) dX12_asTold_14 (by decide) ?_
      refine xt_iload_n _ dX12_asTold_16 rfl ?_
      refine xt_iadd dX12_asTold_17 ?_
      rw [show (25 : Int32) + nI m = nI (25 + m) from nI_add 25 m]
      refine xt_cV _ dX12_asTold_18 klX12_244 (tX12_of sc _ μ2 _ f (25 + m) (by omega) (by omega) (by rw [hf 152 (by decide) (by decide) (by decide)]; exact h22)) sh152 rfl rfl (Nat.le_of_ble_eq_true rfl) ?_
      rw [hf 158 (by decide) (by decide) (by decide), hF _ (by omega)]
      refine xt_ast dX12_asTold_21 (by first | exact sh152 | rfl | assumption) (by exact vp_in_nI (by omega) (by decide)) ?_
      refine xt_aload_n _ dX12_asTold_22 rfl ?_
      refine xt_getr _ dX12_asTold_23 kfX12_44 (by first | exact sh152 | rfl | assumption) rfl ?_
      refine xt_iload_n _ dX12_asTold_26 rfl ?_
      refine xt_aload_n _ dX12_asTold_27 rfl ?_
      refine xt_bipush (33) dX12_asTold_28 (by decide) ?_
      refine xt_iload_n _ dX12_asTold_30 rfl ?_
      refine xt_iadd dX12_asTold_31 ?_
      rw [show (33 : Int32) + nI m = nI (33 + m) from nI_add 33 m]
      refine xt_cV _ dX12_asTold_32 klX12_244 (tX12_of sc _ _ _ f (33 + m) (by omega) (by omega) (by rw [x_u_ne (by decide), hf 152 (by decide) (by decide) (by decide)]; exact h22)) sh152 rfl rfl (Nat.le_of_ble_eq_true rfl) ?_
      rw [x_u_ne (by decide), hf 158 (by decide) (by decide) (by decide), hF _ (by omega)]
      refine xt_ast dX12_asTold_35 (by first | exact sh152 | rfl | assumption) (by exact vp_in_nI (by omega) (by decide)) ?_
      refine xt_inc _ (1) dX12_asTold_36 rfl (by decide) (by decide) rfl ?_
      change x_T _ _ _ _ [_, _] _ _ _ _
      refine xt_goto 2 dX12_asTold_39 (by decide) ?_
      refine x_T.ls (by rw [nI_succ m]) (ih2 (m + 1) _ (fun g hg => ?_) (fun a ha hb hc => by rw [x_u_ne hb, x_u_ne ha]; exact hf a ha hb hc) (by omega))
      rw [x_u_ne (by decide), x_u_eq, x_u_eq, x_u_ne (by decide), nI_clamp (by omega)]
      by_cases he : g = m
      · rw [he, pk_us, pk_us]; exact ⟨rfl, rfl⟩
      · rw [pk_un he, pk_un he]; exact h1 g (by omega)
  exact L2 (8) 0 μ (fun g h => absurd h (by omega)) (fun _ _ _ _ => rfl) (by omega)
theorem s_tu_t {G : Nat → Nat} {g i : Nat} (h : ¬ (41 + 6 * g ≤ i ∧ i < 47 + 6 * g)) : s_tu G g true i = G i := by
  show (if 41 + 6 * g ≤ i ∧ i < 47 + 6 * g then 0 else G i) = G i
  rw [if_neg h]
theorem s_tu_f {G : Nat → Nat} {g i : Nat} (h : i ≠ 25 + g) (h2 : i ≠ 33 + g) : s_tu G g false i = G i := by
  show (if i = 25 + g then G 0 else if i = 33 + g then G 1 else G i) = G i
  rw [if_neg h, if_neg h2]
set_option maxHeartbeats 2000000 in
theorem tX12_turnedT (G : Nat → Nat) (g : Nat) (hg : g < 8) (hR : m_R μ G) (hx : μ 152 26 = nI (G 0)) (hy : μ 152 27 = nI (G 1)) : x_K sc d mX12_turned [.ref 152, .int (nI g), .int 1] μ w (fun r μ' _ => r = none ∧ m_R μ' (s_tu G g true) ∧ ∀ a, a ≠ 163 → a ≠ 164 → a ≠ 165 → μ' a = μ a) := by
  refine x_K.of (by decide) (Nat.le_of_ble_eq_true rfl) ?_
  show x_T sc d mX12_turned 0 [.ref 152, .int (nI g), .int 1, .retAddr 0] [] μ w _
  refine xt_iconst (0) dX12_turned_0 (by decide) ?_
  refine xt_istore_n dX12_turned_1 (by decide) rfl ?_
  change x_T _ _ _ _ [_, _, _, _] _ _ _ _
  have L2 : ∀ (n2 m : Nat) (μ2 : x_Me) (h5 : ∀ i, i < 48 → μ2 165 i = nI (if 6 * g ≤ i ∧ i < 6 * g + m then 0 else G (41 + i))) (hf : ∀ a, a ≠ 165 → μ2 a = μ a), m + n2 = 6 → x_T sc d mX12_turned 2 [.ref 152, .int (nI g), .int 1, .int (nI m)] [] μ2 w (fun r μ' _ => r = none ∧ m_R μ' (s_tu G g true) ∧ ∀ a, a ≠ 163 → a ≠ 164 → a ≠ 165 → μ' a = μ a) := by
    intro n2
    induction n2 with
    | zero =>
      intro m μ2 h5 hf hmn
      obtain rfl : 6 = m := by omega
      refine xt_iload_n _ dX12_turned_2 rfl ?_
      refine xt_bipush (6) dX12_turned_3 (by decide) ?_
      refine xt_icmp_ge 30 dX12_turned_5 (by decide) (fun _ => ?_) (fun q => absurd (by decide) q)
      refine xt_aload_n _ dX12_turned_30 rfl ?_
      refine xt_getr _ dX12_turned_31 kfX12_41 (by first | exact sh152 | rfl | assumption) rfl ?_
      refine xt_iload_n _ dX12_turned_34 rfl ?_
      refine xt_iload_n _ dX12_turned_35 rfl ?_
      refine xt_if_eq 48 dX12_turned_36 (by decide) (fun q => absurd q (by decide)) (fun _ => ?_)
      refine xt_aload_n _ dX12_turned_39 rfl ?_
      refine xt_getr _ dX12_turned_40 kfX12_41 (by first | exact sh152 | rfl | assumption) rfl ?_
      refine xt_iload_n _ dX12_turned_43 rfl ?_
      refine xt_ald dX12_turned_44 (by first | exact sh152 | rfl | assumption) (by exact vp_in_nI (by omega) (by decide)) ?_
      refine xt_goto 52 dX12_turned_45 (by decide) ?_
      refine xt_ast dX12_turned_52 (by first | exact sh152 | rfl | assumption) (by exact vp_in_nI (by omega) (by decide)) ?_
      refine xt_aload_n _ dX12_turned_53 rfl ?_
      refine xt_getr _ dX12_turned_54 kfX12_44 (by first | exact sh152 | rfl | assumption) rfl ?_
      refine xt_iload_n _ dX12_turned_57 rfl ?_
      refine xt_iload_n _ dX12_turned_58 rfl ?_
      refine xt_if_eq 71 dX12_turned_59 (by decide) (fun q => absurd q (by decide)) (fun _ => ?_)
      refine xt_aload_n _ dX12_turned_62 rfl ?_
      refine xt_getr _ dX12_turned_63 kfX12_44 (by first | exact sh152 | rfl | assumption) rfl ?_
      refine xt_iload_n _ dX12_turned_66 rfl ?_
      refine xt_ald dX12_turned_67 (by first | exact sh152 | rfl | assumption) (by exact vp_in_nI (by omega) (by decide)) ?_
      refine xt_goto 75 dX12_turned_68 (by decide) ?_
      refine xt_ast dX12_turned_75 (by first | exact sh152 | rfl | assumption) (by exact vp_in_nI (by omega) (by decide)) ?_
      refine xt_ret dX12_turned_76 rfl ?_
      refine ⟨rfl, ⟨fun q hq => ?_, fun i hi => ?_⟩, fun a ha hb hc => by rw [x_u_ne hb, x_u_ne ha]; exact hf a hc⟩
      · rw [s_tu_t (by omega), s_tu_t (by omega), x_u_ne (by decide), x_u_eq, x_u_eq, x_u_ne (by decide), nI_clamp (by omega), hf 163 (by decide), hf 164 (by decide)]
        have h1 := hR.1 q hq
        by_cases he : q = g
        · rw [he] at h1 ⊢; rw [pk_us, pk_us]; exact h1
        · rw [pk_un he, pk_un he]; exact h1
      · rw [x_u_ne (by decide), x_u_ne (by decide), h5 i hi]
        show nI (if 6 * g ≤ i ∧ i < 6 * g + 6 then 0 else G (41 + i)) = nI (if 41 + 6 * g ≤ 41 + i ∧ 41 + i < 47 + 6 * g then 0 else G (41 + i))
        by_cases hc : 6 * g ≤ i ∧ i < 6 * g + 6
        · rw [if_pos hc, if_pos (by omega)]
        · rw [if_neg hc, if_neg (by omega)]
    | succ n2 ih2 =>
      intro m μ2 h5 hf hmn
      have hlt : m < 6 := by omega
      have hix : (6 : Int32) * nI g + nI m = nI (6 * g + m) := by rw [show (6 : Int32) = nI 6 from rfl, pk_mul, nI_add]
      refine xt_iload_n _ dX12_turned_2 rfl ?_
      refine xt_bipush (6) dX12_turned_3 (by decide) ?_
      refine xt_icmp_ge 30 dX12_turned_5 (by decide) (fun q => absurd q (nI_ge (b := 6) hlt (by decide))) (fun _ => ?_)
      refine xt_iload_n _ dX12_turned_8 rfl ?_
      refine xt_if_eq 30 dX12_turned_9 (by decide) (fun q => absurd q (by decide)) (fun _ => ?_)
      refine xt_aload_n _ dX12_turned_12 rfl ?_
      refine xt_getr _ dX12_turned_13 kfX12_47 (by first | exact sh152 | rfl | assumption) rfl ?_
      refine xt_bipush (6) dX12_turned_16 (by decide) ?_
      refine xt_iload_n _ dX12_turned_18 rfl ?_
      refine xt_imul dX12_turned_19 ?_
      refine xt_iload_n _ dX12_turned_20 rfl ?_
      refine xt_iadd dX12_turned_21 ?_
      refine xt_iconst (0) dX12_turned_22 (by decide) ?_
      refine xt_ast dX12_turned_23 (by first | exact sh152 | rfl | assumption) (by rw [hix]; exact vp_in_nI (by omega) (by decide)) ?_
      refine xt_inc _ (1) dX12_turned_24 rfl (by decide) (by decide) rfl ?_
      change x_T _ _ _ _ [_, _, _, _] _ _ _ _
      refine xt_goto 2 dX12_turned_27 (by decide) ?_
      refine x_T.ls (by rw [nI_succ m]) (ih2 (m + 1) _ (fun i hi => ?_) (fun a ha => by rw [x_u_ne ha]; exact hf a ha) (by omega))
      rw [x_u_eq, hix, nI_clamp (by omega)]
      by_cases he : i = 6 * g + m
      · rw [he, pk_us, if_pos (by omega)]; rfl
      · rw [pk_un he, h5 i hi]
        by_cases hc : 6 * g ≤ i ∧ i < 6 * g + m
        · rw [if_pos hc, if_pos (by omega)]
        · rw [if_neg hc, if_neg (by omega)]
  exact L2 6 0 μ (fun i hi => by rw [if_neg (by omega)]; exact hR.2 i hi) (fun _ _ => rfl) (by omega)
set_option maxHeartbeats 2000000 in
theorem tX12_turnedF (G : Nat → Nat) (g : Nat) (hg : g < 8) (hR : m_R μ G) (hx : μ 152 26 = nI (G 0)) (hy : μ 152 27 = nI (G 1)) : x_K sc d mX12_turned [.ref 152, .int (nI g), .int 0] μ w (fun r μ' _ => r = none ∧ m_R μ' (s_tu G g false) ∧ ∀ a, a ≠ 163 → a ≠ 164 → a ≠ 165 → μ' a = μ a) := by
  refine x_K.of (by decide) (Nat.le_of_ble_eq_true rfl) ?_
  show x_T sc d mX12_turned 0 [.ref 152, .int (nI g), .int 0, .retAddr 0] [] μ w _
  refine xt_iconst (0) dX12_turned_0 (by decide) ?_
  refine xt_istore_n dX12_turned_1 (by decide) rfl ?_
  change x_T _ _ _ _ [_, _, _, _] _ _ _ _
  refine xt_iload_n _ dX12_turned_2 rfl ?_
  refine xt_bipush (6) dX12_turned_3 (by decide) ?_
  refine xt_icmp_ge 30 dX12_turned_5 (by decide) (fun q => absurd q (by decide)) (fun _ => ?_)
  refine xt_iload_n _ dX12_turned_8 rfl ?_
  refine xt_if_eq 30 dX12_turned_9 (by decide) (fun _ => ?_) (fun q => absurd (by decide) q)
  refine xt_aload_n _ dX12_turned_30 rfl ?_
  refine xt_getr _ dX12_turned_31 kfX12_41 (by first | exact sh152 | rfl | assumption) rfl ?_
  refine xt_iload_n _ dX12_turned_34 rfl ?_
  refine xt_iload_n _ dX12_turned_35 rfl ?_
  refine xt_if_eq 48 dX12_turned_36 (by decide) (fun _ => ?_) (fun q => absurd (by decide) q)
  refine xt_aload_n _ dX12_turned_48 rfl ?_
  refine xt_geti dX12_turned_49 kfX12_257 (by first | exact sh152 | rfl | assumption) rfl ?_
  refine xt_ast dX12_turned_52 (by first | exact sh152 | rfl | assumption) (by exact vp_in_nI (by omega) (by decide)) ?_
  refine xt_aload_n _ dX12_turned_53 rfl ?_
  refine xt_getr _ dX12_turned_54 kfX12_44 (by first | exact sh152 | rfl | assumption) rfl ?_
  refine xt_iload_n _ dX12_turned_57 rfl ?_
  refine xt_iload_n _ dX12_turned_58 rfl ?_
  refine xt_if_eq 71 dX12_turned_59 (by decide) (fun _ => ?_) (fun q => absurd (by decide) q)
  refine xt_aload_n _ dX12_turned_71 rfl ?_
  refine xt_geti dX12_turned_72 kfX12_260 (by first | exact sh152 | rfl | assumption) rfl ?_
  refine xt_ast dX12_turned_75 (by first | exact sh152 | rfl | assumption) (by exact vp_in_nI (by omega) (by decide)) ?_
  refine xt_ret dX12_turned_76 rfl ?_
  refine ⟨rfl, ⟨fun q hq => ?_, fun i hi => ?_⟩, fun a ha hb hc => by rw [x_u_ne hb, x_u_ne ha]⟩
  · rw [x_u_ne (by decide), x_u_eq, x_u_eq, x_u_ne (by decide), x_u_ne (by decide), nI_clamp (by omega), hx, hy]
    have h1 := hR.1 q hq
    by_cases he : q = g
    · rw [he, pk_us, pk_us]
      refine ⟨?_, ?_⟩
      · show nI (G 0) = nI (if 25 + g = 25 + g then G 0 else _)
        rw [if_pos rfl]
      · show nI (G 1) = nI (if 33 + g = 25 + g then G 0 else if 33 + g = 33 + g then G 1 else _)
        rw [if_neg (by omega), if_pos rfl]
    · rw [pk_un he, pk_un he, s_tu_f (by omega) (by omega), s_tu_f (by omega) (by omega)]; exact h1
  · rw [x_u_ne (by decide), x_u_ne (by decide), s_tu_f (by omega) (by omega)]; exact hR.2 i hi
end TURNSM
