/-! the step of fair -/
def s_tW (F : Nat → Nat) (k : Nat) : Int32 := if k < 7 then nI (F k) else -1
def s_tS (F : Nat → Nat) (t k : Nat) : Int32 := if t ≤ 3 then (if k < F 3 then nI (F (7 + 6 * (t - 1) + k)) else -1) else if t ≤ 5 then (if k < F 4 then nI (F (25 + 8 * (t - 4) + k)) else -1) else if t ≤ 7 then (if k < F 5 then nI (F (89 + 6 * (t - 6) + k)) else -1) else -1
def s_tG (F : Nat → Nat) (t k : Nat) : Int32 := if t - 10 < F 4 ∧ k < 6 then nI (F (41 + (6 * (t - 10) + k))) else -1
def s_tT (F : Nat → Nat) (t k : Nat) : Int32 := if t - 20 < F 6 ∧ k < 4 then nI (F (101 + 6 * k + (t - 20))) else -1
def s_tell (F : Nat → Nat) (n : Nat) : Int32 := if n / 10 = 0 then s_tW F (n % 10) else if n / 10 < 10 then s_tS F (n / 10) (n % 10) else if n / 10 < 20 then s_tG F (n / 10) (n % 10) else s_tT F (n / 10) (n % 10)
theorem s_div_neg {a : Int32} (h : a < 0) (hz : ¬ a / 10 = 0) : (a / 10).toInt < 0 := by
  have h0 : (0 : Int32).toInt = 0 := by decide
  have h10 : (10 : Int32).toInt = 10 := by decide
  rw [Int32.lt_iff_toInt_lt, h0] at h
  have e : (a / 10).toInt = a.toInt.tdiv 10 := by
    rw [Int32.toInt_div_of_ne_right _ _ (by decide), h10]
  have hne : ¬ (a / 10).toInt = 0 := fun z => hz (Int32.toInt_inj.mp (by rw [z, h0]))
  rw [e] at hne ⊢
  have hle : a.toInt.tdiv 10 ≤ 0 := by have := Int.neg_tdiv (-a.toInt) 10; have h2 : 0 ≤ (-a.toInt).tdiv 10 := Int.tdiv_nonneg (by omega) (by decide); rw [show a.toInt = -(-a.toInt) by omega, Int.neg_tdiv]; omega
  omega
section TELL
variable (sc : Nat × (Nat → Int32)) (d : Nat) {μ : x_Me} (w : Int64) {k : Nat} {F : Nat → Nat}
set_option maxHeartbeats 1000000 in
theorem tX2_tellWhole (hS : f_S k) (hC : f_C μ k F) (j : Nat) (hj : j < 10) : x_D sc d mX2_tellWhole [.ref k, .int (nI j)] μ w (some (.int (s_tW F j))) μ w := by
  refine x_D.of (by decide) (Nat.le_of_ble_eq_true rfl) ?_
  show x_T sc d mX2_tellWhole 0 [.ref k, .int (nI j)] [] μ w _
  have hj' : j = 0 ∨ j = 1 ∨ j = 2 ∨ j = 3 ∨ j = 4 ∨ j = 5 ∨ j = 6 ∨ j = 7 ∨ j = 8 ∨ j = 9 := by omega
  rcases hj' with rfl | rfl | rfl | rfl | rfl | rfl | rfl | rfl | rfl | rfl
  · skip
    refine xt_iload_n _ dX2_tellWhole_0 rfl ?_
    refine xt_tabIn 44 dX2_tellWhole_1 (by decide) (by decide) (by rfl) (by decide) ?_
    refine xt_aload_n _ dX2_tellWhole_44 rfl ?_
    refine xt_geti dX2_tellWhole_45 kfX2_27 (by first | exact sh0 | exact hS.1 | exact sh150 | rfl | assumption) rfl ?_
    exact xt_iret .int dX2_tellWhole_48 rfl (by first | rfl | assumption) ⟨by rw [hC.1 0 (by decide)]; rfl, rfl, rfl⟩
  · skip
    refine xt_iload_n _ dX2_tellWhole_0 rfl ?_
    refine xt_tabIn 49 dX2_tellWhole_1 (by decide) (by decide) (by rfl) (by decide) ?_
    refine xt_aload_n _ dX2_tellWhole_49 rfl ?_
    refine xt_geti dX2_tellWhole_50 kfX2_31 (by first | exact sh0 | exact hS.1 | exact sh150 | rfl | assumption) rfl ?_
    exact xt_iret .int dX2_tellWhole_53 rfl (by first | rfl | assumption) ⟨by rw [hC.1 1 (by decide)]; rfl, rfl, rfl⟩
  · skip
    refine xt_iload_n _ dX2_tellWhole_0 rfl ?_
    refine xt_tabIn 54 dX2_tellWhole_1 (by decide) (by decide) (by rfl) (by decide) ?_
    refine xt_aload_n _ dX2_tellWhole_54 rfl ?_
    refine xt_geti dX2_tellWhole_55 kfX2_34 (by first | exact sh0 | exact hS.1 | exact sh150 | rfl | assumption) rfl ?_
    exact xt_iret .int dX2_tellWhole_58 rfl (by first | rfl | assumption) ⟨by rw [hC.1 2 (by decide)]; rfl, rfl, rfl⟩
  · skip
    refine xt_iload_n _ dX2_tellWhole_0 rfl ?_
    refine xt_tabIn 59 dX2_tellWhole_1 (by decide) (by decide) (by rfl) (by decide) ?_
    refine xt_aload_n _ dX2_tellWhole_59 rfl ?_
    refine xt_geti dX2_tellWhole_60 kfX2_37 (by first | exact sh0 | exact hS.1 | exact sh150 | rfl | assumption) rfl ?_
    exact xt_iret .int dX2_tellWhole_63 rfl (by first | rfl | assumption) ⟨by rw [hC.1 3 (by decide)]; rfl, rfl, rfl⟩
  · skip
    refine xt_iload_n _ dX2_tellWhole_0 rfl ?_
    refine xt_tabIn 64 dX2_tellWhole_1 (by decide) (by decide) (by rfl) (by decide) ?_
    refine xt_aload_n _ dX2_tellWhole_64 rfl ?_
    refine xt_geti dX2_tellWhole_65 kfX2_40 (by first | exact sh0 | exact hS.1 | exact sh150 | rfl | assumption) rfl ?_
    exact xt_iret .int dX2_tellWhole_68 rfl (by first | rfl | assumption) ⟨by rw [hC.1 4 (by decide)]; rfl, rfl, rfl⟩
  · skip
    refine xt_iload_n _ dX2_tellWhole_0 rfl ?_
    refine xt_tabIn 69 dX2_tellWhole_1 (by decide) (by decide) (by rfl) (by decide) ?_
    refine xt_aload_n _ dX2_tellWhole_69 rfl ?_
    refine xt_geti dX2_tellWhole_70 kfX2_43 (by first | exact sh0 | exact hS.1 | exact sh150 | rfl | assumption) rfl ?_
    exact xt_iret .int dX2_tellWhole_73 rfl (by first | rfl | assumption) ⟨by rw [hC.1 5 (by decide)]; rfl, rfl, rfl⟩
  · skip
    refine xt_iload_n _ dX2_tellWhole_0 rfl ?_
    refine xt_tabIn 74 dX2_tellWhole_1 (by decide) (by decide) (by rfl) (by decide) ?_
    refine xt_aload_n _ dX2_tellWhole_74 rfl ?_
    refine xt_geti dX2_tellWhole_75 kfX2_46 (by first | exact sh0 | exact hS.1 | exact sh150 | rfl | assumption) rfl ?_
    exact xt_iret .int dX2_tellWhole_78 rfl (by first | rfl | assumption) ⟨by rw [hC.1 6 (by decide)]; rfl, rfl, rfl⟩
  · skip
    refine xt_iload_n _ dX2_tellWhole_0 rfl ?_
    refine xt_tabOut 79 dX2_tellWhole_1 (by decide) (by decide) ?_
    refine xt_iconst (-1) dX2_tellWhole_79 (by decide) ?_
    exact xt_iret .int dX2_tellWhole_80 rfl (by first | rfl | assumption) ⟨rfl, rfl, rfl⟩
  · skip
    refine xt_iload_n _ dX2_tellWhole_0 rfl ?_
    refine xt_tabOut 79 dX2_tellWhole_1 (by decide) (by decide) ?_
    refine xt_iconst (-1) dX2_tellWhole_79 (by decide) ?_
    exact xt_iret .int dX2_tellWhole_80 rfl (by first | rfl | assumption) ⟨rfl, rfl, rfl⟩
  · skip
    refine xt_iload_n _ dX2_tellWhole_0 rfl ?_
    refine xt_tabOut 79 dX2_tellWhole_1 (by decide) (by decide) ?_
    refine xt_iconst (-1) dX2_tellWhole_79 (by decide) ?_
    exact xt_iret .int dX2_tellWhole_80 rfl (by first | rfl | assumption) ⟨rfl, rfl, rfl⟩
set_option maxHeartbeats 1000000 in
theorem tX2_tellSingle (hS : f_S k) (hC : f_C μ k F) (hW : f_W F) (t j : Nat) (h1 : 1 ≤ t) (ht : t < 10) (hj : j < 10) : x_K sc (d + 1) mX2_tellSingle [.ref k, .int (nI t), .int (nI j)] μ w (x_p (some (.int (s_tS F t j))) μ w) := by
  have h8 : F 4 ≤ 8 := hW.1.2.2.2.2.1
  have h6 : F 3 ≤ 6 := hW.1.2.2.2.1
  have h5 : F 5 ≤ 6 := hW.1.2.2.2.2.2.1
  have e3 : μ k 3 = nI (F 3) := hC.1 3 (by decide)
  have e4 : μ k 4 = nI (F 4) := hC.1 4 (by decide)
  have e5 : μ k 5 = nI (F 5) := hC.1 5 (by decide)
  refine x_K.of (by decide) (Nat.le_of_ble_eq_true rfl) ?_
  show x_T sc (d + 1) mX2_tellSingle 0 [.ref k, .int (nI t), .int (nI j)] [] μ w _
  refine xt_iload_n _ dX2_tellSingle_0 rfl ?_
  refine xt_iconst (3) dX2_tellSingle_1 (by decide) ?_
  refine xt_icmp_gt 32 dX2_tellSingle_2 (by decide) (fun t2 => ?_) (fun f2 => ?_)
  · have n2 : 3 < t := (nI_ltI (a := 3) (b := t) (by omega) (by omega)).mp t2
    refine xt_iload_n _ dX2_tellSingle_32 rfl ?_
    refine xt_iconst (5) dX2_tellSingle_33 (by decide) ?_
    refine xt_icmp_gt 64 dX2_tellSingle_34 (by decide) (fun t34 => ?_) (fun f34 => ?_)
    · have n34 : 5 < t := (nI_ltI (a := 5) (b := t) (by omega) (by omega)).mp t34
      refine xt_iload_n _ dX2_tellSingle_64 rfl ?_
      refine xt_bipush (7) dX2_tellSingle_65 (by decide) ?_
      refine xt_icmp_gt 96 dX2_tellSingle_67 (by decide) (fun t67 => ?_) (fun f67 => ?_)
      · have n67 : 7 < t := (nI_ltI (a := 7) (b := t) (by omega) (by omega)).mp t67
        refine xt_iconst (-1) dX2_tellSingle_96 (by decide) ?_
        exact xt_iret .int dX2_tellSingle_97 rfl (by first | rfl | assumption) ⟨by rw [s_tS, if_neg (by omega), if_neg (by omega), if_neg (by omega)], rfl, rfl⟩
      · have n67 : ¬ (7 < t) := fun z => f67 ((nI_ltI (a := 7) (b := t) (by omega) (by omega)).mpr z)
        refine xt_iload_n _ dX2_tellSingle_70 rfl ?_
        refine xt_aload_n _ dX2_tellSingle_71 rfl ?_
        refine xt_geti dX2_tellSingle_72 kfX2_43 (by first | exact sh0 | exact hS.1 | exact sh150 | rfl | assumption) rfl ?_
        rw [e5]
        refine xt_icmp_ge 96 dX2_tellSingle_75 (by decide) (fun t75 => ?_) (fun f75 => ?_)
        · have n75 : F 5 ≤ j := (nI_leI (a := F 5) (b := j) (by omega) (by omega)).mp t75
          refine xt_iconst (-1) dX2_tellSingle_96 (by decide) ?_
          exact xt_iret .int dX2_tellSingle_97 rfl (by first | rfl | assumption) ⟨by rw [s_tS, if_neg (by omega), if_neg (by omega), if_pos (by omega), if_neg (by omega)], rfl, rfl⟩
        · have n75 : ¬ (F 5 ≤ j) := fun z => f75 ((nI_leI (a := F 5) (b := j) (by omega) (by omega)).mpr z)
          refine xt_aload_n _ dX2_tellSingle_78 rfl ?_
          refine xt_getr _ dX2_tellSingle_79 kfX2_21 (by first | exact sh0 | exact hS.1 | exact sh150 | rfl | assumption) rfl ?_
          refine xt_iconst (2) dX2_tellSingle_82 (by decide) ?_
          refine xt_iload_n _ dX2_tellSingle_83 rfl ?_
          refine xt_imul dX2_tellSingle_84 ?_
          refine xt_iload_n _ dX2_tellSingle_85 rfl ?_
          refine xt_iadd dX2_tellSingle_86 ?_
          refine xt_bipush (6) dX2_tellSingle_87 (by decide) ?_
          refine xt_isub dX2_tellSingle_89 ?_
          refine xt_cS _ dX2_tellSingle_90 klX2_76 (tX8_at sc _ μ w (k := k + 4) (n := 12) hS.2.2.2.2.1 (by decide) _) rfl rfl (Nat.le_of_ble_eq_true rfl) ?_
          refine xt_goto 97 dX2_tellSingle_93 (by decide) ?_
          exact xt_iret .int dX2_tellSingle_97 rfl (by first | rfl | assumption) ⟨by rw [s_tS, if_neg (by omega), if_neg (by omega), if_pos (by omega), if_pos (by omega), s_at_ix (j := 2 * j + (t - 6)) (by omega) (by decide) (by rw [show (2 : Int32) = nI 2 from rfl, show (6 : Int32) = nI 6 from rfl, pk_mul, nI_add, pk_sub (by omega)]; congr 1; omega), hC.2.2.2.2.1 j (by omega) (t - 6) (by omega)], rfl, rfl⟩
    · have n34 : ¬ (5 < t) := fun z => f34 ((nI_ltI (a := 5) (b := t) (by omega) (by omega)).mpr z)
      refine xt_iload_n _ dX2_tellSingle_37 rfl ?_
      refine xt_aload_n _ dX2_tellSingle_38 rfl ?_
      refine xt_geti dX2_tellSingle_39 kfX2_40 (by first | exact sh0 | exact hS.1 | exact sh150 | rfl | assumption) rfl ?_
      rw [e4]
      refine xt_icmp_ge 62 dX2_tellSingle_42 (by decide) (fun t42 => ?_) (fun f42 => ?_)
      · have n42 : F 4 ≤ j := (nI_leI (a := F 4) (b := j) (by omega) (by omega)).mp t42
        refine xt_iconst (-1) dX2_tellSingle_62 (by decide) ?_
        exact xt_iret .int dX2_tellSingle_63 rfl (by first | rfl | assumption) ⟨by rw [s_tS, if_neg (by omega), if_pos (by omega), if_neg (by omega)], rfl, rfl⟩
      · have n42 : ¬ (F 4 ≤ j) := fun z => f42 ((nI_leI (a := F 4) (b := j) (by omega) (by omega)).mpr z)
        refine xt_aload_n _ dX2_tellSingle_45 rfl ?_
        refine xt_getr _ dX2_tellSingle_46 kfX2_15 (by first | exact sh0 | exact hS.1 | exact sh150 | rfl | assumption) rfl ?_
        refine xt_iconst (2) dX2_tellSingle_49 (by decide) ?_
        refine xt_iload_n _ dX2_tellSingle_50 rfl ?_
        refine xt_imul dX2_tellSingle_51 ?_
        refine xt_iload_n _ dX2_tellSingle_52 rfl ?_
        refine xt_iadd dX2_tellSingle_53 ?_
        refine xt_iconst (4) dX2_tellSingle_54 (by decide) ?_
        refine xt_isub dX2_tellSingle_55 ?_
        refine xt_cS _ dX2_tellSingle_56 klX2_76 (tX8_at sc _ μ w (k := k + 2) (n := 16) hS.2.2.1 (by decide) _) rfl rfl (Nat.le_of_ble_eq_true rfl) ?_
        refine xt_goto 63 dX2_tellSingle_59 (by decide) ?_
        exact xt_iret .int dX2_tellSingle_63 rfl (by first | rfl | assumption) ⟨by rw [s_tS, if_neg (by omega), if_pos (by omega), if_pos (by omega), s_at_ix (j := 2 * j + (t - 4)) (by omega) (by decide) (by rw [show (2 : Int32) = nI 2 from rfl, show (4 : Int32) = nI 4 from rfl, pk_mul, nI_add, pk_sub (by omega)]; congr 1; omega), hC.2.2.1 j (by omega) (t - 4) (by omega)], rfl, rfl⟩
  · have n2 : ¬ (3 < t) := fun z => f2 ((nI_ltI (a := 3) (b := t) (by omega) (by omega)).mpr z)
    refine xt_iload_n _ dX2_tellSingle_5 rfl ?_
    refine xt_aload_n _ dX2_tellSingle_6 rfl ?_
    refine xt_geti dX2_tellSingle_7 kfX2_37 (by first | exact sh0 | exact hS.1 | exact sh150 | rfl | assumption) rfl ?_
    rw [e3]
    refine xt_icmp_ge 30 dX2_tellSingle_10 (by decide) (fun t10 => ?_) (fun f10 => ?_)
    · have n10 : F 3 ≤ j := (nI_leI (a := F 3) (b := j) (by omega) (by omega)).mp t10
      refine xt_iconst (-1) dX2_tellSingle_30 (by decide) ?_
      exact xt_iret .int dX2_tellSingle_31 rfl (by first | rfl | assumption) ⟨by rw [s_tS, if_pos (by omega), if_neg (by omega)], rfl, rfl⟩
    · have n10 : ¬ (F 3 ≤ j) := fun z => f10 ((nI_leI (a := F 3) (b := j) (by omega) (by omega)).mpr z)
      refine xt_aload_n _ dX2_tellSingle_13 rfl ?_
      refine xt_getr _ dX2_tellSingle_14 kfX2_9 (by first | exact sh0 | exact hS.1 | exact sh150 | rfl | assumption) rfl ?_
      refine xt_iconst (3) dX2_tellSingle_17 (by decide) ?_
      refine xt_iload_n _ dX2_tellSingle_18 rfl ?_
      refine xt_imul dX2_tellSingle_19 ?_
      refine xt_iload_n _ dX2_tellSingle_20 rfl ?_
      refine xt_iadd dX2_tellSingle_21 ?_
      refine xt_iconst (1) dX2_tellSingle_22 (by decide) ?_
      refine xt_isub dX2_tellSingle_23 ?_
      refine xt_cS _ dX2_tellSingle_24 klX2_76 (tX8_at sc _ μ w (k := k + 1) (n := 18) hS.2.1 (by decide) _) rfl rfl (Nat.le_of_ble_eq_true rfl) ?_
      refine xt_goto 31 dX2_tellSingle_27 (by decide) ?_
      exact xt_iret .int dX2_tellSingle_31 rfl (by first | rfl | assumption) ⟨by rw [s_tS, if_pos (by omega), if_pos (by omega), s_at_ix (j := 3 * j + (t - 1)) (by omega) (by decide) (by rw [show (3 : Int32) = nI 3 from rfl, show (1 : Int32) = nI 1 from rfl, pk_mul, nI_add, pk_sub (by omega)]; congr 1; omega), hC.2.1 j (by omega) (t - 1) (by omega)], rfl, rfl⟩
set_option maxHeartbeats 1000000 in
theorem tX2_tell (hS : f_S k) (hC : f_C μ k F) (hW : f_W F) (n : Nat) (hn : n < 2 ^ 31) : x_K sc (d + 2) mX2_tell [.ref k, .int (nI n)] μ w (x_p (some (.int (s_tell F n))) μ w) := by
  have h8 : F 4 ≤ 8 := hW.1.2.2.2.2.1
  have h6 : F 3 ≤ 6 := hW.1.2.2.2.1
  have h66 : F 6 ≤ 6 := hW.1.2.2.2.2.2.2
  have e6 : μ k 6 = nI (F 6) := hC.1 6 (by decide)
  have hdv : nI n / (10 : Int32) = nI (n / 10) := pk_div (by omega) (by decide) (by decide)
  have hrm : nI n - nI n / (10 : Int32) * 10 = nI (n % 10) := pk_rem (d := 10) (by omega) (by decide) (by decide)
  refine x_K.of (by decide) (Nat.le_of_ble_eq_true rfl) ?_
  show x_T sc (d + 2) mX2_tell 0 [.ref k, .int (nI n), .retAddr 0, .retAddr 0] [] μ w _
  refine xt_iload_n _ dX2_tell_0 rfl ?_
  refine xt_if_ge 6 dX2_tell_1 (by decide) (fun _ => ?_) (fun q => absurd (nI_pos' hn) q)
  refine xt_iload_n _ dX2_tell_6 rfl ?_
  refine xt_bipush (10) dX2_tell_7 (by decide) ?_
  refine xt_idiv dX2_tell_9 (by decide) ?_
  rw [hdv]
  refine xt_istore_n dX2_tell_10 (by decide) rfl ?_
  change x_T _ _ _ _ [_, _, _, _] _ _ _ _
  refine xt_iload_n _ dX2_tell_11 rfl ?_
  refine xt_bipush (10) dX2_tell_12 (by decide) ?_
  refine xt_irem dX2_tell_14 (by decide) ?_
  rw [hrm]
  refine xt_istore_n dX2_tell_15 (by decide) rfl ?_
  change x_T _ _ _ _ [_, _, _, _] _ _ _ _
  refine xt_iload_n _ dX2_tell_16 rfl ?_
  refine xt_if_ne 26 dX2_tell_17 (by decide) (fun t17 => ?_) (fun f17 => ?_)
  · have n17 : ¬ ((n / 10) = 0) := fun z => t17 ((nI_eq (a := (n / 10)) (b := 0) (by omega) (by omega)).mpr z)
    refine xt_iload_n _ dX2_tell_26 rfl ?_
    refine xt_bipush (10) dX2_tell_27 (by decide) ?_
    refine xt_icmp_ge 39 dX2_tell_29 (by decide) (fun t29 => ?_) (fun f29 => ?_)
    · have n29 : 10 ≤ (n / 10) := (nI_leI (a := 10) (b := (n / 10)) (by omega) (by omega)).mp t29
      refine xt_iload_n _ dX2_tell_39 rfl ?_
      refine xt_bipush (20) dX2_tell_40 (by decide) ?_
      refine xt_icmp_ge 76 dX2_tell_42 (by decide) (fun t42 => ?_) (fun f42 => ?_)
      · have n42 : 20 ≤ (n / 10) := (nI_leI (a := 20) (b := (n / 10)) (by omega) (by omega)).mp t42
        refine xt_iload_n _ dX2_tell_76 rfl ?_
        refine xt_bipush (20) dX2_tell_77 (by decide) ?_
        refine xt_isub dX2_tell_79 ?_
        refine xt_aload_n _ dX2_tell_80 rfl ?_
        refine xt_geti dX2_tell_81 kfX2_46 (by first | exact sh0 | exact hS.1 | exact sh150 | rfl | assumption) rfl ?_
        rw [e6, show nI (n / 10) - (20 : Int32) = nI ((n / 10) - 20) from pk_sub (b := 20) (by omega)]
        refine xt_icmp_ge 110 dX2_tell_84 (by decide) (fun t84 => ?_) (fun f84 => ?_)
        · have n84 : F 6 ≤ ((n / 10) - 20) := (nI_leI (a := F 6) (b := ((n / 10) - 20)) (by omega) (by omega)).mp t84
          refine xt_iconst (-1) dX2_tell_110 (by decide) ?_
          exact xt_iret .int dX2_tell_111 rfl (by first | rfl | assumption) ⟨by rw [s_tell, if_neg n17, if_neg (by omega), if_neg (by omega), s_tT, if_neg (fun z => by omega)], rfl, rfl⟩
        · have n84 : ¬ (F 6 ≤ ((n / 10) - 20)) := fun z => f84 ((nI_leI (a := F 6) (b := ((n / 10) - 20)) (by omega) (by omega)).mpr z)
          refine xt_iload_n _ dX2_tell_87 rfl ?_
          refine xt_iconst (4) dX2_tell_88 (by decide) ?_
          refine xt_icmp_ge 110 dX2_tell_89 (by decide) (fun t89 => ?_) (fun f89 => ?_)
          · have n89 : 4 ≤ (n % 10) := (nI_leI (a := 4) (b := (n % 10)) (by omega) (by omega)).mp t89
            refine xt_iconst (-1) dX2_tell_110 (by decide) ?_
            exact xt_iret .int dX2_tell_111 rfl (by first | rfl | assumption) ⟨by rw [s_tell, if_neg n17, if_neg (by omega), if_neg (by omega), s_tT, if_neg (fun z => by omega)], rfl, rfl⟩
          · have n89 : ¬ (4 ≤ (n % 10)) := fun z => f89 ((nI_leI (a := 4) (b := (n % 10)) (by omega) (by omega)).mpr z)
            refine xt_aload_n _ dX2_tell_92 rfl ?_
            refine xt_getr _ dX2_tell_93 kfX2_24 (by first | exact sh0 | exact hS.1 | exact sh150 | rfl | assumption) rfl ?_
            refine xt_iconst (4) dX2_tell_96 (by decide) ?_
            refine xt_iload_n _ dX2_tell_97 rfl ?_
            refine xt_bipush (20) dX2_tell_98 (by decide) ?_
            refine xt_isub dX2_tell_100 ?_
            rw [show nI (n / 10) - (20 : Int32) = nI ((n / 10) - 20) from pk_sub (b := 20) (by omega)]
            refine xt_imul dX2_tell_101 ?_
            refine xt_iload_n _ dX2_tell_102 rfl ?_
            refine xt_iadd dX2_tell_103 ?_
            refine xt_cS _ dX2_tell_104 klX2_76 (tX8_at sc _ μ w (k := k + 5) (n := 24) hS.2.2.2.2.2 (by decide) _) rfl rfl (Nat.le_of_ble_eq_true rfl) ?_
            refine xt_goto 111 dX2_tell_107 (by decide) ?_
            exact xt_iret .int dX2_tell_111 rfl (by first | rfl | assumption) ⟨by rw [s_tell, if_neg n17, if_neg (by omega), if_neg (by omega), s_tT, if_pos ⟨by omega, by omega⟩, s_at_ix (j := 4 * (n / 10 - 20) + n % 10) (by omega) (by decide) (by rw [show (4 : Int32) = nI 4 from rfl, pk_mul, nI_add]), hC.2.2.2.2.2 (n / 10 - 20) (by omega) (n % 10) (by omega)], rfl, rfl⟩
      · have n42 : ¬ (20 ≤ (n / 10)) := fun z => f42 ((nI_leI (a := 20) (b := (n / 10)) (by omega) (by omega)).mpr z)
        refine xt_aload_n _ dX2_tell_45 rfl ?_
        refine xt_iload_n _ dX2_tell_46 rfl ?_
        refine xt_bipush (10) dX2_tell_47 (by decide) ?_
        refine xt_isub dX2_tell_49 ?_
        have hg10 : nI (n / 10) - (10 : Int32) = nI ((n / 10) - 10) := pk_sub (b := 10) (by omega)
        refine xt_cV _ dX2_tell_50 klX2_69 (tX2_hasGoer sc _ w hS hC _) hS.1 rfl rfl (Nat.le_of_ble_eq_true rfl) ?_
        refine xt_if_eq 74 dX2_tell_53 (by decide) (fun t53 => ?_) (fun f53 => ?_)
        · refine xt_iconst (-1) dX2_tell_74 (by decide) ?_
          exact xt_iret .int dX2_tell_75 rfl (by first | rfl | assumption) ⟨by rw [s_tell, if_neg n17, if_neg (by omega), if_pos (by omega), s_tG, if_neg (fun z => by rw [hg10, s_hasG_yes z.1 h8] at t53; exact absurd t53 (by decide))], rfl, rfl⟩
        · refine xt_iload_n _ dX2_tell_56 rfl ?_
          refine xt_bipush (6) dX2_tell_57 (by decide) ?_
          refine xt_icmp_ge 74 dX2_tell_59 (by decide) (fun t59 => ?_) (fun f59 => ?_)
          · have n59 : 6 ≤ (n % 10) := (nI_leI (a := 6) (b := (n % 10)) (by omega) (by omega)).mp t59
            refine xt_iconst (-1) dX2_tell_74 (by decide) ?_
            exact xt_iret .int dX2_tell_75 rfl (by first | rfl | assumption) ⟨by rw [s_tell, if_neg n17, if_neg (by omega), if_pos (by omega), s_tG, if_neg (fun z => by omega)], rfl, rfl⟩
          · have n59 : ¬ (6 ≤ (n % 10)) := fun z => f59 ((nI_leI (a := 6) (b := (n % 10)) (by omega) (by omega)).mpr z)
            refine xt_aload_n _ dX2_tell_62 rfl ?_
            refine xt_iload_n _ dX2_tell_63 rfl ?_
            refine xt_bipush (10) dX2_tell_64 (by decide) ?_
            refine xt_isub dX2_tell_66 ?_
            refine xt_iload_n _ dX2_tell_67 rfl ?_
            have hgg : (n / 10) - 10 < F 4 := by
              apply Classical.byContradiction
              intro z
              rw [hg10] at f53
              exact f53 (s_hasG_no (fun q => z ((nI_ltI (by omega) (by omega)).mp q.2)))
            rw [hg10]
            refine xt_cV _ dX2_tell_68 klX2_73 (tX2_wrongsOf sc _ w hS hC ((n / 10) - 10) (n % 10) (by omega) (by omega)) hS.1 rfl rfl (Nat.le_of_ble_eq_true rfl) ?_
            refine xt_goto 75 dX2_tell_71 (by decide) ?_
            exact xt_iret .int dX2_tell_75 rfl (by first | rfl | assumption) ⟨by rw [s_tell, if_neg n17, if_neg (by omega), if_pos (by omega), s_tG, if_pos ⟨hgg, by omega⟩], rfl, rfl⟩
    · have n29 : ¬ (10 ≤ (n / 10)) := fun z => f29 ((nI_leI (a := 10) (b := (n / 10)) (by omega) (by omega)).mpr z)
      refine xt_aload_n _ dX2_tell_32 rfl ?_
      refine xt_iload_n _ dX2_tell_33 rfl ?_
      refine xt_iload_n _ dX2_tell_34 rfl ?_
      refine xt_cV _ dX2_tell_35 klX2_65 (tX2_tellSingle sc _ w hS hC hW (n / 10) (n % 10) (by omega) (by omega) (by omega)) hS.1 rfl rfl (Nat.le_of_ble_eq_true rfl) ?_
      exact xt_iret .int dX2_tell_38 rfl (by first | rfl | assumption) ⟨by rw [s_tell, if_neg n17, if_pos (by omega)], rfl, rfl⟩
  · have n17 : (n / 10) = 0 := (nI_eq (a := (n / 10)) (b := 0) (by omega) (by omega)).mp f17
    refine xt_aload_n _ dX2_tell_20 rfl ?_
    refine xt_iload_n _ dX2_tell_21 rfl ?_
    refine xt_cV _ dX2_tell_22 klX2_61 (tX2_tellWhole sc _ w hS hC (n % 10) (by omega)) hS.1 rfl rfl (Nat.le_of_ble_eq_true rfl) ?_
    exact xt_iret .int dX2_tell_25 rfl (by first | rfl | assumption) ⟨by rw [s_tell, if_pos n17], rfl, rfl⟩
set_option maxHeartbeats 400000 in
theorem tX2_tell_no (hS : f_S k) (a : Int32) (h : a < 0) : x_D sc d mX2_tell [.ref k, .int a] μ w (some (.int (-1))) μ w := by
  refine x_D.of (by decide) (Nat.le_of_ble_eq_true rfl) ?_
  show x_T sc d mX2_tell 0 [.ref k, .int a, .retAddr 0, .retAddr 0] [] μ w _
  refine xt_iload_n _ dX2_tell_0 rfl ?_
  refine xt_if_ge 6 dX2_tell_1 (by decide) (fun q => absurd q (Int32.not_le.mpr h)) (fun _ => ?_)
  refine xt_iconst (-1) dX2_tell_4 (by decide) ?_
  exact xt_iret .int dX2_tell_5 rfl (by first | rfl | assumption) ⟨rfl, rfl, rfl⟩
end TELL
section TELLM
variable (sc : Nat × (Nat → Int32)) (d : Nat) (μ : x_Me) (w : Int64)
set_option maxHeartbeats 1000000 in
theorem tX12_row (f : Nat) (F : Nat → Nat) (hS : m_S μ f F) (hF : ∀ i, i < 125 → μ 158 (125 * f + i) = nI (F i)) (j c a : Nat) (hc : c < 7) (hj : j < 10) (ha : a + 10 ≤ 125) (hb : F c ≤ 8) : x_K sc (d + 1) mX12_row [.ref 152, .int (nI j), .int (nI c), .int (nI a)] μ w (x_p (some (.int (if j < F c then nI (F (a + j)) else -1))) μ w) := by
  have hf2 := hS.1.1
  refine x_K.of (by decide) (Nat.le_of_ble_eq_true rfl) ?_
  show x_T sc (d + 1) mX12_row 0 [.ref 152, .int (nI j), .int (nI c), .int (nI a)] [] μ w _
  refine xt_iload_n _ dX12_row_0 rfl ?_
  refine xt_aload_n _ dX12_row_1 rfl ?_
  refine xt_iload_n _ dX12_row_2 rfl ?_
  refine xt_cV _ dX12_row_3 klX12_244 (tX12_of sc _ μ _ f c (by omega) (by omega) hS.1.2.1) sh152 rfl rfl (Nat.le_of_ble_eq_true rfl) ?_
  rw [hF c (by omega)]
  refine xt_icmp_ge 19 dX12_row_6 (by decide) (fun t6 => ?_) (fun f6 => ?_)
  · have n6 : F c ≤ j := (nI_leI (a := F c) (b := j) (by omega) (by omega)).mp t6
    refine xt_iconst (-1) dX12_row_19 (by decide) ?_
    exact xt_iret .int dX12_row_20 rfl (by first | rfl | assumption) ⟨by rw [if_neg (by omega)], rfl, rfl⟩
  · have n6 : ¬ (F c ≤ j) := fun z => f6 ((nI_leI (a := F c) (b := j) (by omega) (by omega)).mpr z)
    refine xt_aload_n _ dX12_row_9 rfl ?_
    refine xt_iload_n _ dX12_row_10 rfl ?_
    refine xt_iload_n _ dX12_row_11 rfl ?_
    refine xt_iadd dX12_row_12 ?_
    rw [nI_add]
    refine xt_cV _ dX12_row_13 klX12_244 (tX12_of sc _ μ _ f (a + j) (by omega) (by omega) hS.1.2.1) sh152 rfl rfl (Nat.le_of_ble_eq_true rfl) ?_
    rw [hF (a + j) (by omega)]
    refine xt_goto 20 dX12_row_16 (by decide) ?_
    exact xt_iret .int dX12_row_20 rfl (by first | rfl | assumption) ⟨by rw [if_pos (by omega)], rfl, rfl⟩
end TELLM
set_option maxHeartbeats 4000000 in
theorem st_fair (sc : Nat × (Nat → Int32)) (a1 a2 : Int32) : x_stI sc (fun μ _ => x_Inv μ) (fun μ _ => x_Inv μ) mX11_fair mX12_fair [.int a1, .int a2] := by
  refine x_stF (-1) ?_ ?_ ?_
  · intro μ w c hc e hk
    refine x_K.of (by decide) (Nat.le_of_ble_eq_true rfl) ?_
    show x_T sc 29 mX11_fair 0 [.ref 0, .int a1, .int a2, .retAddr 0] [] μ w _
    refine xt_aload_n _ dX11_fair_0 rfl ?_
    refine xt_iload_n _ dX11_fair_1 rfl ?_
    refine xt_cV _ dX11_fair_2 klX11_90 (tX11_fairOf_no sc _ μ w c hc e _ hk) sh0 rfl rfl (Nat.le_of_ble_eq_true rfl) ?_
    refine xt_astore_n0 dX11_fair_5 (by decide) rfl ?_
    change x_T _ _ _ _ [_, _, _, _] _ _ _ _
    refine xt_aload_n0 dX11_fair_6 rfl ?_
    refine xt_ifnonnull_n dX11_fair_7 ?_
    refine xt_iconst (-1) dX11_fair_10 (by decide) ?_
    refine xt_goto 19 dX11_fair_11 (by decide) ?_
    exact xt_iret .int dX11_fair_19 rfl (by first | rfl | assumption) ⟨rfl, x_keep.rf μ⟩
  · intro μ w c hc e hk
    refine x_K.of (by decide) (Nat.le_of_ble_eq_true rfl) ?_
    show x_T sc 29 mX12_fair 0 [.ref 152, .int a1, .int a2, .retAddr 0] [] μ w _
    refine xt_aload_n _ dX12_fair_0 rfl ?_
    refine xt_iconst (0) dX12_fair_1 (by decide) ?_
    refine xt_puti dX12_fair_2 kpX12_72 (by first | exact sh152 | rfl | assumption) rfl (by first | rfl | assumption) (by first | rfl | assumption) ?_
    refine xt_aload_n _ dX12_fair_5 rfl ?_
    refine xt_iload_n _ dX12_fair_6 rfl ?_
    refine xt_cV _ dX12_fair_7 klX12_300 (tX12_hand_no sc _ (x_u μ 152 (upd (μ 152) 0 0)) w c hc e _ hk) sh152 rfl rfl (Nat.le_of_ble_eq_true rfl) ?_
    refine xt_if_ne 15 dX12_fair_10 (by decide) (fun q => absurd (by decide) q) (fun _ => ?_)
    refine xt_iconst (-1) dX12_fair_13 (by decide) ?_
    exact xt_iret .int dX12_fair_14 rfl (by first | rfl | assumption) ⟨rfl, (x_keep.u (x_keep.rf μ) (by unfold x_ok; omega))⟩
  · intro f F hf2 hkk hW
    subst hkk
    have h8 := hW.1.2.2.2.2.1
    have h6 := hW.1.2.2.2.1
    have h5 := hW.1.2.2.2.2.2.1
    have h66 := hW.1.2.2.2.2.2.2
    by_cases hneg : a2 < 0
    · skip
      refine ⟨-1, ?_, ?_⟩
      · intro μ w c hf hc e hC
        have hS := f_Sf hf2
        refine x_K.of (by decide) (Nat.le_of_ble_eq_true rfl) ?_
        show x_T sc 29 mX11_fair 0 [.ref 0, .int (nI f), .int a2, .retAddr 0] [] μ w _
        refine xt_aload_n _ dX11_fair_0 rfl ?_
        refine xt_iload_n _ dX11_fair_1 rfl ?_
        refine xt_cV _ dX11_fair_2 klX11_90 (tX11_fairOf sc _ μ w f c hf hc e) sh0 rfl rfl (Nat.le_of_ble_eq_true rfl) ?_
        refine xt_astore_n dX11_fair_5 (by decide) rfl ?_
        change x_T _ _ _ _ [_, _, _, _] _ _ _ _
        refine xt_aload_n _ dX11_fair_6 rfl ?_
        refine xt_ifnonnull_r 14 dX11_fair_7 (by decide) ?_
        refine xt_aload_n _ dX11_fair_14 rfl ?_
        refine xt_iload_n _ dX11_fair_15 rfl ?_
        refine xt_cV _ dX11_fair_16 klX11_94 (tX2_tell_no sc _ w hS a2 hneg) hS.1 rfl rfl (Nat.le_of_ble_eq_true rfl) ?_
        exact xt_iret .int dX11_fair_19 rfl (by first | rfl | assumption) ⟨rfl, x_keep.rf μ⟩
      · intro μ w c hf hc e hF
        refine x_K.of (by decide) (Nat.le_of_ble_eq_true rfl) ?_
        show x_T sc 29 mX12_fair 0 [.ref 152, .int (nI f), .int a2, .retAddr 0] [] μ w _
        refine xt_aload_n _ dX12_fair_0 rfl ?_
        refine xt_iconst (0) dX12_fair_1 (by decide) ?_
        refine xt_puti dX12_fair_2 kpX12_72 (by first | exact sh152 | rfl | assumption) rfl (by first | rfl | assumption) (by first | rfl | assumption) ?_
        refine xt_aload_n _ dX12_fair_5 rfl ?_
        refine xt_iload_n _ dX12_fair_6 rfl ?_
        refine xt_callV _ dX12_fair_7 klX12_300 (tX12_hand sc _ (x_u μ 152 (upd (μ 152) 0 0)) w f c F hf hc e hF) sh152 rfl rfl (Nat.le_of_ble_eq_true rfl) (fun r1 μ1 w1 q1 => ?_)
        obtain ⟨rfl, rfl, hS, h0, hfr⟩ := q1
        change x_T _ _ _ _ _ (.int 1 :: _) _ _ _
        have hF1 : ∀ i, i < 125 → μ1 158 (125 * f + i) = nI (F i) := fun i hi => by rw [hfr 158 (by decide) (by decide) (by decide) (by decide)]; exact hF i hi
        have e6 : μ1 152 25 = nI (F 6) := hS.1.2.2.2.2.1
        refine xt_if_ne 15 dX12_fair_10 (by decide) (fun _ => ?_) (fun q => absurd q (by decide))
        refine xt_iload_n _ dX12_fair_15 rfl ?_
        refine xt_bipush (10) dX12_fair_16 (by decide) ?_
        refine xt_irem dX12_fair_18 (by decide) ?_
        refine xt_istore_n dX12_fair_19 (by decide) rfl ?_
        change x_T _ _ _ _ [_, _, _, _] _ _ _ _
        refine xt_iload_n _ dX12_fair_20 rfl ?_
        refine xt_sipush (200) dX12_fair_21 (by decide) ?_
        refine xt_icmp_lt 79 dX12_fair_24 (by decide) (fun _ => ?_) (fun q => absurd (Int32.lt_trans hneg (by decide)) q)
        refine xt_iload_n _ dX12_fair_79 rfl ?_
        refine xt_bipush (100) dX12_fair_80 (by decide) ?_
        refine xt_icmp_lt 127 dX12_fair_82 (by decide) (fun _ => ?_) (fun q => absurd (Int32.lt_trans hneg (by decide)) q)
        refine xt_iload_n _ dX12_fair_127 rfl ?_
        refine xt_bipush (10) dX12_fair_128 (by decide) ?_
        refine xt_idiv dX12_fair_130 (by decide) ?_
        by_cases hz : a2 / 10 = 0
        · rw [hz]
          refine xt_tabIn 176 dX12_fair_131 (by decide) (by decide) (by rfl) (by decide) ?_
          refine xt_iload_n _ dX12_fair_176 rfl ?_
          refine xt_iconst (0) dX12_fair_177 (by decide) ?_
          refine xt_bipush (6) dX12_fair_178 (by decide) ?_
          refine xt_cS _ dX12_fair_180 klX12_84 (tX12_in sc _ _ _ _ _ _) rfl rfl (Nat.le_of_ble_eq_true rfl) ?_
          refine xt_if_eq 194 dX12_fair_183 (by decide) (fun _ => ?_) (fun q => absurd (show s_in a2 0 6 = 0 by rw [s_in, if_pos hneg]) q)
          refine xt_iconst (-1) dX12_fair_194 (by decide) ?_
          exact xt_iret .int dX12_fair_195 rfl rfl ⟨rfl, (x_keep.hand hfr)⟩
        refine xt_tabOut 255 dX12_fair_131 (Or.inl (s_div_neg hneg hz)) (by decide) ?_
        refine xt_iconst (-1) dX12_fair_255 (by decide) ?_
        exact xt_iret .int dX12_fair_256 rfl (by first | rfl | assumption) ⟨rfl, (x_keep.hand hfr)⟩
    · obtain ⟨n, hn31, rfl⟩ := nI_of hneg
      have hrm : nI n - nI n / (10 : Int32) * 10 = nI (n % 10) := pk_rem (d := 10) (by omega) (by decide) (by decide)
      have hdv : nI n / (10 : Int32) = nI (n / 10) := pk_div (by omega) (by decide) (by decide)
      by_cases h100 : n < 100
      · have ht' : n / 10 = 0 ∨ n / 10 = 1 ∨ n / 10 = 2 ∨ n / 10 = 3 ∨ n / 10 = 4 ∨ n / 10 = 5 ∨ n / 10 = 6 ∨ n / 10 = 7 ∨ n / 10 = 8 ∨ n / 10 = 9 := by omega
        rcases ht' with ht | ht | ht | ht | ht | ht | ht | ht | ht | ht
        · skip
          refine ⟨s_tell F n, ?_, ?_⟩
          · intro μ w c hf hc e hC
            have hS := f_Sf hf2
            refine x_K.of (by decide) (Nat.le_of_ble_eq_true rfl) ?_
            show x_T sc 29 mX11_fair 0 [.ref 0, .int (nI f), .int (nI n), .retAddr 0] [] μ w _
            refine xt_aload_n _ dX11_fair_0 rfl ?_
            refine xt_iload_n _ dX11_fair_1 rfl ?_
            refine xt_cV _ dX11_fair_2 klX11_90 (tX11_fairOf sc _ μ w f c hf hc e) sh0 rfl rfl (Nat.le_of_ble_eq_true rfl) ?_
            refine xt_astore_n dX11_fair_5 (by decide) rfl ?_
            change x_T _ _ _ _ [_, _, _, _] _ _ _ _
            refine xt_aload_n _ dX11_fair_6 rfl ?_
            refine xt_ifnonnull_r 14 dX11_fair_7 (by decide) ?_
            refine xt_aload_n _ dX11_fair_14 rfl ?_
            refine xt_iload_n _ dX11_fair_15 rfl ?_
            refine xt_cV _ dX11_fair_16 klX11_94 (tX2_tell sc _ w hS hC hW n hn31) hS.1 rfl rfl (Nat.le_of_ble_eq_true rfl) ?_
            exact xt_iret .int dX11_fair_19 rfl (by first | rfl | assumption) ⟨rfl, x_keep.rf μ⟩
          · intro μ w c hf hc e hF
            refine x_K.of (by decide) (Nat.le_of_ble_eq_true rfl) ?_
            show x_T sc 29 mX12_fair 0 [.ref 152, .int (nI f), .int (nI n), .retAddr 0] [] μ w _
            refine xt_aload_n _ dX12_fair_0 rfl ?_
            refine xt_iconst (0) dX12_fair_1 (by decide) ?_
            refine xt_puti dX12_fair_2 kpX12_72 (by first | exact sh152 | rfl | assumption) rfl (by first | rfl | assumption) (by first | rfl | assumption) ?_
            refine xt_aload_n _ dX12_fair_5 rfl ?_
            refine xt_iload_n _ dX12_fair_6 rfl ?_
            refine xt_callV _ dX12_fair_7 klX12_300 (tX12_hand sc _ (x_u μ 152 (upd (μ 152) 0 0)) w f c F hf hc e hF) sh152 rfl rfl (Nat.le_of_ble_eq_true rfl) (fun r1 μ1 w1 q1 => ?_)
            obtain ⟨rfl, rfl, hS, h0, hfr⟩ := q1
            change x_T _ _ _ _ _ (.int 1 :: _) _ _ _
            have hF1 : ∀ i, i < 125 → μ1 158 (125 * f + i) = nI (F i) := fun i hi => by rw [hfr 158 (by decide) (by decide) (by decide) (by decide)]; exact hF i hi
            have e6 : μ1 152 25 = nI (F 6) := hS.1.2.2.2.2.1
            refine xt_if_ne 15 dX12_fair_10 (by decide) (fun _ => ?_) (fun q => absurd q (by decide))
            refine xt_iload_n _ dX12_fair_15 rfl ?_
            refine xt_bipush (10) dX12_fair_16 (by decide) ?_
            refine xt_irem dX12_fair_18 (by decide) ?_
            rw [hrm]
            refine xt_istore_n dX12_fair_19 (by decide) rfl ?_
            change x_T _ _ _ _ [_, _, _, _] _ _ _ _
            refine xt_iload_n _ dX12_fair_20 rfl ?_
            refine xt_sipush (200) dX12_fair_21 (by decide) ?_
            refine xt_icmp_lt 79 dX12_fair_24 (by decide) (fun _ => ?_) (fun q => absurd (nI_lt (b := 200) (by omega) (by decide)) q)
            refine xt_iload_n _ dX12_fair_79 rfl ?_
            refine xt_bipush (100) dX12_fair_80 (by decide) ?_
            refine xt_icmp_lt 127 dX12_fair_82 (by decide) (fun _ => ?_) (fun q => absurd (nI_lt (b := 100) (by omega) (by decide)) q)
            refine xt_iload_n _ dX12_fair_127 rfl ?_
            refine xt_bipush (10) dX12_fair_128 (by decide) ?_
            refine xt_idiv dX12_fair_130 (by decide) ?_
            rw [hdv, ht]
            refine xt_tabIn 176 dX12_fair_131 (by decide) (by decide) (by rfl) (by decide) ?_
            refine xt_iload_n _ dX12_fair_176 rfl ?_
            refine xt_iconst (0) dX12_fair_177 (by decide) ?_
            refine xt_bipush (6) dX12_fair_178 (by decide) ?_
            refine xt_cS _ dX12_fair_180 klX12_84 (tX12_in sc _ _ _ _ _ _) rfl rfl (Nat.le_of_ble_eq_true rfl) ?_
            refine xt_if_eq 194 dX12_fair_183 (by decide) (fun t183 => ?_) (fun f183 => ?_)
            · refine xt_iconst (-1) dX12_fair_194 (by decide) ?_
              exact xt_iret .int dX12_fair_195 rfl (by first | rfl | assumption) ⟨by rw [s_tell, if_pos (by omega), s_tW, if_neg (fun z => by have h2 := s_in_2 t183; rcases h2 with h2 | h2; exact absurd h2 (nI_pos (by omega)); exact absurd h2 (nI_nlt (a := 6) (by omega) (by decide)))], (x_keep.hand hfr)⟩
            · refine xt_aload_n _ dX12_fair_186 rfl ?_
              refine xt_iload_n _ dX12_fair_187 rfl ?_
              refine xt_cV _ dX12_fair_188 klX12_244 (tX12_of sc _ μ1 _ f n (by omega) (by omega) hS.1.2.1) sh152 rfl rfl (Nat.le_of_ble_eq_true rfl) ?_
              rw [hF1 n (by omega)]
              refine xt_goto 195 dX12_fair_191 (by decide) ?_
              exact xt_iret .int dX12_fair_195 rfl (by first | rfl | assumption) ⟨by have hz := (s_in_1 f183).2; have hz2 : ¬ 6 < n := fun z => hz (nI_lt (a := 6) z (by omega)); rw [s_tell, if_pos (by omega), s_tW, if_pos (by omega), show n % 10 = n by omega], (x_keep.hand hfr)⟩
        · skip
          refine ⟨s_tell F n, ?_, ?_⟩
          · intro μ w c hf hc e hC
            have hS := f_Sf hf2
            refine x_K.of (by decide) (Nat.le_of_ble_eq_true rfl) ?_
            show x_T sc 29 mX11_fair 0 [.ref 0, .int (nI f), .int (nI n), .retAddr 0] [] μ w _
            refine xt_aload_n _ dX11_fair_0 rfl ?_
            refine xt_iload_n _ dX11_fair_1 rfl ?_
            refine xt_cV _ dX11_fair_2 klX11_90 (tX11_fairOf sc _ μ w f c hf hc e) sh0 rfl rfl (Nat.le_of_ble_eq_true rfl) ?_
            refine xt_astore_n dX11_fair_5 (by decide) rfl ?_
            change x_T _ _ _ _ [_, _, _, _] _ _ _ _
            refine xt_aload_n _ dX11_fair_6 rfl ?_
            refine xt_ifnonnull_r 14 dX11_fair_7 (by decide) ?_
            refine xt_aload_n _ dX11_fair_14 rfl ?_
            refine xt_iload_n _ dX11_fair_15 rfl ?_
            refine xt_cV _ dX11_fair_16 klX11_94 (tX2_tell sc _ w hS hC hW n hn31) hS.1 rfl rfl (Nat.le_of_ble_eq_true rfl) ?_
            exact xt_iret .int dX11_fair_19 rfl (by first | rfl | assumption) ⟨rfl, x_keep.rf μ⟩
          · intro μ w c hf hc e hF
            refine x_K.of (by decide) (Nat.le_of_ble_eq_true rfl) ?_
            show x_T sc 29 mX12_fair 0 [.ref 152, .int (nI f), .int (nI n), .retAddr 0] [] μ w _
            refine xt_aload_n _ dX12_fair_0 rfl ?_
            refine xt_iconst (0) dX12_fair_1 (by decide) ?_
            refine xt_puti dX12_fair_2 kpX12_72 (by first | exact sh152 | rfl | assumption) rfl (by first | rfl | assumption) (by first | rfl | assumption) ?_
            refine xt_aload_n _ dX12_fair_5 rfl ?_
            refine xt_iload_n _ dX12_fair_6 rfl ?_
            refine xt_callV _ dX12_fair_7 klX12_300 (tX12_hand sc _ (x_u μ 152 (upd (μ 152) 0 0)) w f c F hf hc e hF) sh152 rfl rfl (Nat.le_of_ble_eq_true rfl) (fun r1 μ1 w1 q1 => ?_)
            obtain ⟨rfl, rfl, hS, h0, hfr⟩ := q1
            change x_T _ _ _ _ _ (.int 1 :: _) _ _ _
            have hF1 : ∀ i, i < 125 → μ1 158 (125 * f + i) = nI (F i) := fun i hi => by rw [hfr 158 (by decide) (by decide) (by decide) (by decide)]; exact hF i hi
            have e6 : μ1 152 25 = nI (F 6) := hS.1.2.2.2.2.1
            refine xt_if_ne 15 dX12_fair_10 (by decide) (fun _ => ?_) (fun q => absurd q (by decide))
            refine xt_iload_n _ dX12_fair_15 rfl ?_
            refine xt_bipush (10) dX12_fair_16 (by decide) ?_
            refine xt_irem dX12_fair_18 (by decide) ?_
            rw [hrm]
            refine xt_istore_n dX12_fair_19 (by decide) rfl ?_
            change x_T _ _ _ _ [_, _, _, _] _ _ _ _
            refine xt_iload_n _ dX12_fair_20 rfl ?_
            refine xt_sipush (200) dX12_fair_21 (by decide) ?_
            refine xt_icmp_lt 79 dX12_fair_24 (by decide) (fun _ => ?_) (fun q => absurd (nI_lt (b := 200) (by omega) (by decide)) q)
            refine xt_iload_n _ dX12_fair_79 rfl ?_
            refine xt_bipush (100) dX12_fair_80 (by decide) ?_
            refine xt_icmp_lt 127 dX12_fair_82 (by decide) (fun _ => ?_) (fun q => absurd (nI_lt (b := 100) (by omega) (by decide)) q)
            refine xt_iload_n _ dX12_fair_127 rfl ?_
            refine xt_bipush (10) dX12_fair_128 (by decide) ?_
            refine xt_idiv dX12_fair_130 (by decide) ?_
            rw [hdv, ht]
            refine xt_tabIn 196 dX12_fair_131 (by decide) (by decide) (by rfl) (by decide) ?_
            refine xt_aload_n _ dX12_fair_196 rfl ?_
            refine xt_iload_n _ dX12_fair_197 rfl ?_
            refine xt_iconst (3) dX12_fair_198 (by decide) ?_
            refine xt_bipush (7) dX12_fair_199 (by decide) ?_
            refine xt_bipush (6) dX12_fair_201 (by decide) ?_
            refine xt_iload_n _ dX12_fair_203 rfl ?_
            refine xt_bipush (10) dX12_fair_204 (by decide) ?_
            refine xt_idiv dX12_fair_206 (by decide) ?_
            rw [hdv, ht]
            refine xt_iconst (1) dX12_fair_207 (by decide) ?_
            refine xt_isub dX12_fair_208 ?_
            refine xt_imul dX12_fair_209 ?_
            refine xt_iadd dX12_fair_210 ?_
            change x_T _ _ _ _ _ (.int (nI 7) :: _) _ _ _
            refine xt_cV _ dX12_fair_211 klX12_306 (tX12_row sc _ μ1 _ f F hS hF1 (n % 10) 3 7 (by decide) (by omega) (by decide) (by omega)) sh152 rfl rfl (Nat.le_of_ble_eq_true rfl) ?_
            exact xt_iret .int dX12_fair_214 rfl (by first | rfl | assumption) ⟨by rw [show s_tell F n = (if n % 10 < F 3 then nI (F (7 + n % 10)) else -1) from by rw [s_tell, if_neg (by omega), if_pos (by omega), s_tS, if_pos (by omega), ht]], (x_keep.hand hfr)⟩
        · skip
          refine ⟨s_tell F n, ?_, ?_⟩
          · intro μ w c hf hc e hC
            have hS := f_Sf hf2
            refine x_K.of (by decide) (Nat.le_of_ble_eq_true rfl) ?_
            show x_T sc 29 mX11_fair 0 [.ref 0, .int (nI f), .int (nI n), .retAddr 0] [] μ w _
            refine xt_aload_n _ dX11_fair_0 rfl ?_
            refine xt_iload_n _ dX11_fair_1 rfl ?_
            refine xt_cV _ dX11_fair_2 klX11_90 (tX11_fairOf sc _ μ w f c hf hc e) sh0 rfl rfl (Nat.le_of_ble_eq_true rfl) ?_
            refine xt_astore_n dX11_fair_5 (by decide) rfl ?_
            change x_T _ _ _ _ [_, _, _, _] _ _ _ _
            refine xt_aload_n _ dX11_fair_6 rfl ?_
            refine xt_ifnonnull_r 14 dX11_fair_7 (by decide) ?_
            refine xt_aload_n _ dX11_fair_14 rfl ?_
            refine xt_iload_n _ dX11_fair_15 rfl ?_
            refine xt_cV _ dX11_fair_16 klX11_94 (tX2_tell sc _ w hS hC hW n hn31) hS.1 rfl rfl (Nat.le_of_ble_eq_true rfl) ?_
            exact xt_iret .int dX11_fair_19 rfl (by first | rfl | assumption) ⟨rfl, x_keep.rf μ⟩
          · intro μ w c hf hc e hF
            refine x_K.of (by decide) (Nat.le_of_ble_eq_true rfl) ?_
            show x_T sc 29 mX12_fair 0 [.ref 152, .int (nI f), .int (nI n), .retAddr 0] [] μ w _
            refine xt_aload_n _ dX12_fair_0 rfl ?_
            refine xt_iconst (0) dX12_fair_1 (by decide) ?_
            refine xt_puti dX12_fair_2 kpX12_72 (by first | exact sh152 | rfl | assumption) rfl (by first | rfl | assumption) (by first | rfl | assumption) ?_
            refine xt_aload_n _ dX12_fair_5 rfl ?_
            refine xt_iload_n _ dX12_fair_6 rfl ?_
            refine xt_callV _ dX12_fair_7 klX12_300 (tX12_hand sc _ (x_u μ 152 (upd (μ 152) 0 0)) w f c F hf hc e hF) sh152 rfl rfl (Nat.le_of_ble_eq_true rfl) (fun r1 μ1 w1 q1 => ?_)
            obtain ⟨rfl, rfl, hS, h0, hfr⟩ := q1
            change x_T _ _ _ _ _ (.int 1 :: _) _ _ _
            have hF1 : ∀ i, i < 125 → μ1 158 (125 * f + i) = nI (F i) := fun i hi => by rw [hfr 158 (by decide) (by decide) (by decide) (by decide)]; exact hF i hi
            have e6 : μ1 152 25 = nI (F 6) := hS.1.2.2.2.2.1
            refine xt_if_ne 15 dX12_fair_10 (by decide) (fun _ => ?_) (fun q => absurd q (by decide))
            refine xt_iload_n _ dX12_fair_15 rfl ?_
            refine xt_bipush (10) dX12_fair_16 (by decide) ?_
            refine xt_irem dX12_fair_18 (by decide) ?_
            rw [hrm]
            refine xt_istore_n dX12_fair_19 (by decide) rfl ?_
            change x_T _ _ _ _ [_, _, _, _] _ _ _ _
            refine xt_iload_n _ dX12_fair_20 rfl ?_
            refine xt_sipush (200) dX12_fair_21 (by decide) ?_
            refine xt_icmp_lt 79 dX12_fair_24 (by decide) (fun _ => ?_) (fun q => absurd (nI_lt (b := 200) (by omega) (by decide)) q)
            refine xt_iload_n _ dX12_fair_79 rfl ?_
            refine xt_bipush (100) dX12_fair_80 (by decide) ?_
            refine xt_icmp_lt 127 dX12_fair_82 (by decide) (fun _ => ?_) (fun q => absurd (nI_lt (b := 100) (by omega) (by decide)) q)
            refine xt_iload_n _ dX12_fair_127 rfl ?_
            refine xt_bipush (10) dX12_fair_128 (by decide) ?_
            refine xt_idiv dX12_fair_130 (by decide) ?_
            rw [hdv, ht]
            refine xt_tabIn 196 dX12_fair_131 (by decide) (by decide) (by rfl) (by decide) ?_
            refine xt_aload_n _ dX12_fair_196 rfl ?_
            refine xt_iload_n _ dX12_fair_197 rfl ?_
            refine xt_iconst (3) dX12_fair_198 (by decide) ?_
            refine xt_bipush (7) dX12_fair_199 (by decide) ?_
            refine xt_bipush (6) dX12_fair_201 (by decide) ?_
            refine xt_iload_n _ dX12_fair_203 rfl ?_
            refine xt_bipush (10) dX12_fair_204 (by decide) ?_
            refine xt_idiv dX12_fair_206 (by decide) ?_
            rw [hdv, ht]
            refine xt_iconst (1) dX12_fair_207 (by decide) ?_
            refine xt_isub dX12_fair_208 ?_
            refine xt_imul dX12_fair_209 ?_
            refine xt_iadd dX12_fair_210 ?_
            change x_T _ _ _ _ _ (.int (nI 13) :: _) _ _ _
            refine xt_cV _ dX12_fair_211 klX12_306 (tX12_row sc _ μ1 _ f F hS hF1 (n % 10) 3 13 (by decide) (by omega) (by decide) (by omega)) sh152 rfl rfl (Nat.le_of_ble_eq_true rfl) ?_
            exact xt_iret .int dX12_fair_214 rfl (by first | rfl | assumption) ⟨by rw [show s_tell F n = (if n % 10 < F 3 then nI (F (13 + n % 10)) else -1) from by rw [s_tell, if_neg (by omega), if_pos (by omega), s_tS, if_pos (by omega), ht]], (x_keep.hand hfr)⟩
        · skip
          refine ⟨s_tell F n, ?_, ?_⟩
          · intro μ w c hf hc e hC
            have hS := f_Sf hf2
            refine x_K.of (by decide) (Nat.le_of_ble_eq_true rfl) ?_
            show x_T sc 29 mX11_fair 0 [.ref 0, .int (nI f), .int (nI n), .retAddr 0] [] μ w _
            refine xt_aload_n _ dX11_fair_0 rfl ?_
            refine xt_iload_n _ dX11_fair_1 rfl ?_
            refine xt_cV _ dX11_fair_2 klX11_90 (tX11_fairOf sc _ μ w f c hf hc e) sh0 rfl rfl (Nat.le_of_ble_eq_true rfl) ?_
            refine xt_astore_n dX11_fair_5 (by decide) rfl ?_
            change x_T _ _ _ _ [_, _, _, _] _ _ _ _
            refine xt_aload_n _ dX11_fair_6 rfl ?_
            refine xt_ifnonnull_r 14 dX11_fair_7 (by decide) ?_
            refine xt_aload_n _ dX11_fair_14 rfl ?_
            refine xt_iload_n _ dX11_fair_15 rfl ?_
            refine xt_cV _ dX11_fair_16 klX11_94 (tX2_tell sc _ w hS hC hW n hn31) hS.1 rfl rfl (Nat.le_of_ble_eq_true rfl) ?_
            exact xt_iret .int dX11_fair_19 rfl (by first | rfl | assumption) ⟨rfl, x_keep.rf μ⟩
          · intro μ w c hf hc e hF
            refine x_K.of (by decide) (Nat.le_of_ble_eq_true rfl) ?_
            show x_T sc 29 mX12_fair 0 [.ref 152, .int (nI f), .int (nI n), .retAddr 0] [] μ w _
            refine xt_aload_n _ dX12_fair_0 rfl ?_
            refine xt_iconst (0) dX12_fair_1 (by decide) ?_
            refine xt_puti dX12_fair_2 kpX12_72 (by first | exact sh152 | rfl | assumption) rfl (by first | rfl | assumption) (by first | rfl | assumption) ?_
            refine xt_aload_n _ dX12_fair_5 rfl ?_
            refine xt_iload_n _ dX12_fair_6 rfl ?_
            refine xt_callV _ dX12_fair_7 klX12_300 (tX12_hand sc _ (x_u μ 152 (upd (μ 152) 0 0)) w f c F hf hc e hF) sh152 rfl rfl (Nat.le_of_ble_eq_true rfl) (fun r1 μ1 w1 q1 => ?_)
            obtain ⟨rfl, rfl, hS, h0, hfr⟩ := q1
            change x_T _ _ _ _ _ (.int 1 :: _) _ _ _
            have hF1 : ∀ i, i < 125 → μ1 158 (125 * f + i) = nI (F i) := fun i hi => by rw [hfr 158 (by decide) (by decide) (by decide) (by decide)]; exact hF i hi
            have e6 : μ1 152 25 = nI (F 6) := hS.1.2.2.2.2.1
            refine xt_if_ne 15 dX12_fair_10 (by decide) (fun _ => ?_) (fun q => absurd q (by decide))
            refine xt_iload_n _ dX12_fair_15 rfl ?_
            refine xt_bipush (10) dX12_fair_16 (by decide) ?_
            refine xt_irem dX12_fair_18 (by decide) ?_
            rw [hrm]
            refine xt_istore_n dX12_fair_19 (by decide) rfl ?_
            change x_T _ _ _ _ [_, _, _, _] _ _ _ _
            refine xt_iload_n _ dX12_fair_20 rfl ?_
            refine xt_sipush (200) dX12_fair_21 (by decide) ?_
            refine xt_icmp_lt 79 dX12_fair_24 (by decide) (fun _ => ?_) (fun q => absurd (nI_lt (b := 200) (by omega) (by decide)) q)
            refine xt_iload_n _ dX12_fair_79 rfl ?_
            refine xt_bipush (100) dX12_fair_80 (by decide) ?_
            refine xt_icmp_lt 127 dX12_fair_82 (by decide) (fun _ => ?_) (fun q => absurd (nI_lt (b := 100) (by omega) (by decide)) q)
            refine xt_iload_n _ dX12_fair_127 rfl ?_
            refine xt_bipush (10) dX12_fair_128 (by decide) ?_
            refine xt_idiv dX12_fair_130 (by decide) ?_
            rw [hdv, ht]
            refine xt_tabIn 196 dX12_fair_131 (by decide) (by decide) (by rfl) (by decide) ?_
            refine xt_aload_n _ dX12_fair_196 rfl ?_
            refine xt_iload_n _ dX12_fair_197 rfl ?_
            refine xt_iconst (3) dX12_fair_198 (by decide) ?_
            refine xt_bipush (7) dX12_fair_199 (by decide) ?_
            refine xt_bipush (6) dX12_fair_201 (by decide) ?_
            refine xt_iload_n _ dX12_fair_203 rfl ?_
            refine xt_bipush (10) dX12_fair_204 (by decide) ?_
            refine xt_idiv dX12_fair_206 (by decide) ?_
            rw [hdv, ht]
            refine xt_iconst (1) dX12_fair_207 (by decide) ?_
            refine xt_isub dX12_fair_208 ?_
            refine xt_imul dX12_fair_209 ?_
            refine xt_iadd dX12_fair_210 ?_
            change x_T _ _ _ _ _ (.int (nI 19) :: _) _ _ _
            refine xt_cV _ dX12_fair_211 klX12_306 (tX12_row sc _ μ1 _ f F hS hF1 (n % 10) 3 19 (by decide) (by omega) (by decide) (by omega)) sh152 rfl rfl (Nat.le_of_ble_eq_true rfl) ?_
            exact xt_iret .int dX12_fair_214 rfl (by first | rfl | assumption) ⟨by rw [show s_tell F n = (if n % 10 < F 3 then nI (F (19 + n % 10)) else -1) from by rw [s_tell, if_neg (by omega), if_pos (by omega), s_tS, if_pos (by omega), ht]], (x_keep.hand hfr)⟩
        · skip
          refine ⟨s_tell F n, ?_, ?_⟩
          · intro μ w c hf hc e hC
            have hS := f_Sf hf2
            refine x_K.of (by decide) (Nat.le_of_ble_eq_true rfl) ?_
            show x_T sc 29 mX11_fair 0 [.ref 0, .int (nI f), .int (nI n), .retAddr 0] [] μ w _
            refine xt_aload_n _ dX11_fair_0 rfl ?_
            refine xt_iload_n _ dX11_fair_1 rfl ?_
            refine xt_cV _ dX11_fair_2 klX11_90 (tX11_fairOf sc _ μ w f c hf hc e) sh0 rfl rfl (Nat.le_of_ble_eq_true rfl) ?_
            refine xt_astore_n dX11_fair_5 (by decide) rfl ?_
            change x_T _ _ _ _ [_, _, _, _] _ _ _ _
            refine xt_aload_n _ dX11_fair_6 rfl ?_
            refine xt_ifnonnull_r 14 dX11_fair_7 (by decide) ?_
            refine xt_aload_n _ dX11_fair_14 rfl ?_
            refine xt_iload_n _ dX11_fair_15 rfl ?_
            refine xt_cV _ dX11_fair_16 klX11_94 (tX2_tell sc _ w hS hC hW n hn31) hS.1 rfl rfl (Nat.le_of_ble_eq_true rfl) ?_
            exact xt_iret .int dX11_fair_19 rfl (by first | rfl | assumption) ⟨rfl, x_keep.rf μ⟩
          · intro μ w c hf hc e hF
            refine x_K.of (by decide) (Nat.le_of_ble_eq_true rfl) ?_
            show x_T sc 29 mX12_fair 0 [.ref 152, .int (nI f), .int (nI n), .retAddr 0] [] μ w _
            refine xt_aload_n _ dX12_fair_0 rfl ?_
            refine xt_iconst (0) dX12_fair_1 (by decide) ?_
            refine xt_puti dX12_fair_2 kpX12_72 (by first | exact sh152 | rfl | assumption) rfl (by first | rfl | assumption) (by first | rfl | assumption) ?_
            refine xt_aload_n _ dX12_fair_5 rfl ?_
            refine xt_iload_n _ dX12_fair_6 rfl ?_
            refine xt_callV _ dX12_fair_7 klX12_300 (tX12_hand sc _ (x_u μ 152 (upd (μ 152) 0 0)) w f c F hf hc e hF) sh152 rfl rfl (Nat.le_of_ble_eq_true rfl) (fun r1 μ1 w1 q1 => ?_)
            obtain ⟨rfl, rfl, hS, h0, hfr⟩ := q1
            change x_T _ _ _ _ _ (.int 1 :: _) _ _ _
            have hF1 : ∀ i, i < 125 → μ1 158 (125 * f + i) = nI (F i) := fun i hi => by rw [hfr 158 (by decide) (by decide) (by decide) (by decide)]; exact hF i hi
            have e6 : μ1 152 25 = nI (F 6) := hS.1.2.2.2.2.1
            refine xt_if_ne 15 dX12_fair_10 (by decide) (fun _ => ?_) (fun q => absurd q (by decide))
            refine xt_iload_n _ dX12_fair_15 rfl ?_
            refine xt_bipush (10) dX12_fair_16 (by decide) ?_
            refine xt_irem dX12_fair_18 (by decide) ?_
            rw [hrm]
            refine xt_istore_n dX12_fair_19 (by decide) rfl ?_
            change x_T _ _ _ _ [_, _, _, _] _ _ _ _
            refine xt_iload_n _ dX12_fair_20 rfl ?_
            refine xt_sipush (200) dX12_fair_21 (by decide) ?_
            refine xt_icmp_lt 79 dX12_fair_24 (by decide) (fun _ => ?_) (fun q => absurd (nI_lt (b := 200) (by omega) (by decide)) q)
            refine xt_iload_n _ dX12_fair_79 rfl ?_
            refine xt_bipush (100) dX12_fair_80 (by decide) ?_
            refine xt_icmp_lt 127 dX12_fair_82 (by decide) (fun _ => ?_) (fun q => absurd (nI_lt (b := 100) (by omega) (by decide)) q)
            refine xt_iload_n _ dX12_fair_127 rfl ?_
            refine xt_bipush (10) dX12_fair_128 (by decide) ?_
            refine xt_idiv dX12_fair_130 (by decide) ?_
            rw [hdv, ht]
            refine xt_tabIn 215 dX12_fair_131 (by decide) (by decide) (by rfl) (by decide) ?_
            refine xt_aload_n _ dX12_fair_215 rfl ?_
            refine xt_iload_n _ dX12_fair_216 rfl ?_
            refine xt_iconst (4) dX12_fair_217 (by decide) ?_
            refine xt_iload_n _ dX12_fair_218 rfl ?_
            refine xt_bipush (50) dX12_fair_219 (by decide) ?_
            refine xt_icmp_ge 229 dX12_fair_221 (by decide) (fun q => absurd q (nI_ge (b := 50) (by omega) (by decide))) (fun _ => ?_)
            refine xt_bipush (25) dX12_fair_224 (by decide) ?_
            refine xt_goto 231 dX12_fair_226 (by decide) ?_
            refine xt_cV _ dX12_fair_231 klX12_306 (tX12_row sc _ μ1 _ f F hS hF1 (n % 10) 4 25 (by decide) (by omega) (by decide) (by omega)) sh152 rfl rfl (Nat.le_of_ble_eq_true rfl) ?_
            exact xt_iret .int dX12_fair_234 rfl (by first | rfl | assumption) ⟨by rw [show s_tell F n = (if n % 10 < F 4 then nI (F (25 + n % 10)) else -1) from by rw [s_tell, if_neg (by omega), if_pos (by omega), s_tS, if_neg (by omega), if_pos (by omega), ht]], (x_keep.hand hfr)⟩
        · skip
          refine ⟨s_tell F n, ?_, ?_⟩
          · intro μ w c hf hc e hC
            have hS := f_Sf hf2
            refine x_K.of (by decide) (Nat.le_of_ble_eq_true rfl) ?_
            show x_T sc 29 mX11_fair 0 [.ref 0, .int (nI f), .int (nI n), .retAddr 0] [] μ w _
            refine xt_aload_n _ dX11_fair_0 rfl ?_
            refine xt_iload_n _ dX11_fair_1 rfl ?_
            refine xt_cV _ dX11_fair_2 klX11_90 (tX11_fairOf sc _ μ w f c hf hc e) sh0 rfl rfl (Nat.le_of_ble_eq_true rfl) ?_
            refine xt_astore_n dX11_fair_5 (by decide) rfl ?_
            change x_T _ _ _ _ [_, _, _, _] _ _ _ _
            refine xt_aload_n _ dX11_fair_6 rfl ?_
            refine xt_ifnonnull_r 14 dX11_fair_7 (by decide) ?_
            refine xt_aload_n _ dX11_fair_14 rfl ?_
            refine xt_iload_n _ dX11_fair_15 rfl ?_
            refine xt_cV _ dX11_fair_16 klX11_94 (tX2_tell sc _ w hS hC hW n hn31) hS.1 rfl rfl (Nat.le_of_ble_eq_true rfl) ?_
            exact xt_iret .int dX11_fair_19 rfl (by first | rfl | assumption) ⟨rfl, x_keep.rf μ⟩
          · intro μ w c hf hc e hF
            refine x_K.of (by decide) (Nat.le_of_ble_eq_true rfl) ?_
            show x_T sc 29 mX12_fair 0 [.ref 152, .int (nI f), .int (nI n), .retAddr 0] [] μ w _
            refine xt_aload_n _ dX12_fair_0 rfl ?_
            refine xt_iconst (0) dX12_fair_1 (by decide) ?_
            refine xt_puti dX12_fair_2 kpX12_72 (by first | exact sh152 | rfl | assumption) rfl (by first | rfl | assumption) (by first | rfl | assumption) ?_
            refine xt_aload_n _ dX12_fair_5 rfl ?_
            refine xt_iload_n _ dX12_fair_6 rfl ?_
            refine xt_callV _ dX12_fair_7 klX12_300 (tX12_hand sc _ (x_u μ 152 (upd (μ 152) 0 0)) w f c F hf hc e hF) sh152 rfl rfl (Nat.le_of_ble_eq_true rfl) (fun r1 μ1 w1 q1 => ?_)
            obtain ⟨rfl, rfl, hS, h0, hfr⟩ := q1
            change x_T _ _ _ _ _ (.int 1 :: _) _ _ _
            have hF1 : ∀ i, i < 125 → μ1 158 (125 * f + i) = nI (F i) := fun i hi => by rw [hfr 158 (by decide) (by decide) (by decide) (by decide)]; exact hF i hi
            have e6 : μ1 152 25 = nI (F 6) := hS.1.2.2.2.2.1
            refine xt_if_ne 15 dX12_fair_10 (by decide) (fun _ => ?_) (fun q => absurd q (by decide))
            refine xt_iload_n _ dX12_fair_15 rfl ?_
            refine xt_bipush (10) dX12_fair_16 (by decide) ?_
            refine xt_irem dX12_fair_18 (by decide) ?_
            rw [hrm]
            refine xt_istore_n dX12_fair_19 (by decide) rfl ?_
            change x_T _ _ _ _ [_, _, _, _] _ _ _ _
            refine xt_iload_n _ dX12_fair_20 rfl ?_
            refine xt_sipush (200) dX12_fair_21 (by decide) ?_
            refine xt_icmp_lt 79 dX12_fair_24 (by decide) (fun _ => ?_) (fun q => absurd (nI_lt (b := 200) (by omega) (by decide)) q)
            refine xt_iload_n _ dX12_fair_79 rfl ?_
            refine xt_bipush (100) dX12_fair_80 (by decide) ?_
            refine xt_icmp_lt 127 dX12_fair_82 (by decide) (fun _ => ?_) (fun q => absurd (nI_lt (b := 100) (by omega) (by decide)) q)
            refine xt_iload_n _ dX12_fair_127 rfl ?_
            refine xt_bipush (10) dX12_fair_128 (by decide) ?_
            refine xt_idiv dX12_fair_130 (by decide) ?_
            rw [hdv, ht]
            refine xt_tabIn 215 dX12_fair_131 (by decide) (by decide) (by rfl) (by decide) ?_
            refine xt_aload_n _ dX12_fair_215 rfl ?_
            refine xt_iload_n _ dX12_fair_216 rfl ?_
            refine xt_iconst (4) dX12_fair_217 (by decide) ?_
            refine xt_iload_n _ dX12_fair_218 rfl ?_
            refine xt_bipush (50) dX12_fair_219 (by decide) ?_
            refine xt_icmp_ge 229 dX12_fair_221 (by decide) (fun _ => ?_) (fun q => absurd (nI_le (a := 50) (by omega) (by omega)) q)
            refine xt_bipush (33) dX12_fair_229 (by decide) ?_
            refine xt_cV _ dX12_fair_231 klX12_306 (tX12_row sc _ μ1 _ f F hS hF1 (n % 10) 4 33 (by decide) (by omega) (by decide) (by omega)) sh152 rfl rfl (Nat.le_of_ble_eq_true rfl) ?_
            exact xt_iret .int dX12_fair_234 rfl (by first | rfl | assumption) ⟨by rw [show s_tell F n = (if n % 10 < F 4 then nI (F (33 + n % 10)) else -1) from by rw [s_tell, if_neg (by omega), if_pos (by omega), s_tS, if_neg (by omega), if_pos (by omega), ht]], (x_keep.hand hfr)⟩
        · skip
          refine ⟨s_tell F n, ?_, ?_⟩
          · intro μ w c hf hc e hC
            have hS := f_Sf hf2
            refine x_K.of (by decide) (Nat.le_of_ble_eq_true rfl) ?_
            show x_T sc 29 mX11_fair 0 [.ref 0, .int (nI f), .int (nI n), .retAddr 0] [] μ w _
            refine xt_aload_n _ dX11_fair_0 rfl ?_
            refine xt_iload_n _ dX11_fair_1 rfl ?_
            refine xt_cV _ dX11_fair_2 klX11_90 (tX11_fairOf sc _ μ w f c hf hc e) sh0 rfl rfl (Nat.le_of_ble_eq_true rfl) ?_
            refine xt_astore_n dX11_fair_5 (by decide) rfl ?_
            change x_T _ _ _ _ [_, _, _, _] _ _ _ _
            refine xt_aload_n _ dX11_fair_6 rfl ?_
            refine xt_ifnonnull_r 14 dX11_fair_7 (by decide) ?_
            refine xt_aload_n _ dX11_fair_14 rfl ?_
            refine xt_iload_n _ dX11_fair_15 rfl ?_
            refine xt_cV _ dX11_fair_16 klX11_94 (tX2_tell sc _ w hS hC hW n hn31) hS.1 rfl rfl (Nat.le_of_ble_eq_true rfl) ?_
            exact xt_iret .int dX11_fair_19 rfl (by first | rfl | assumption) ⟨rfl, x_keep.rf μ⟩
          · intro μ w c hf hc e hF
            refine x_K.of (by decide) (Nat.le_of_ble_eq_true rfl) ?_
            show x_T sc 29 mX12_fair 0 [.ref 152, .int (nI f), .int (nI n), .retAddr 0] [] μ w _
            refine xt_aload_n _ dX12_fair_0 rfl ?_
            refine xt_iconst (0) dX12_fair_1 (by decide) ?_
            refine xt_puti dX12_fair_2 kpX12_72 (by first | exact sh152 | rfl | assumption) rfl (by first | rfl | assumption) (by first | rfl | assumption) ?_
            refine xt_aload_n _ dX12_fair_5 rfl ?_
            refine xt_iload_n _ dX12_fair_6 rfl ?_
            refine xt_callV _ dX12_fair_7 klX12_300 (tX12_hand sc _ (x_u μ 152 (upd (μ 152) 0 0)) w f c F hf hc e hF) sh152 rfl rfl (Nat.le_of_ble_eq_true rfl) (fun r1 μ1 w1 q1 => ?_)
            obtain ⟨rfl, rfl, hS, h0, hfr⟩ := q1
            change x_T _ _ _ _ _ (.int 1 :: _) _ _ _
            have hF1 : ∀ i, i < 125 → μ1 158 (125 * f + i) = nI (F i) := fun i hi => by rw [hfr 158 (by decide) (by decide) (by decide) (by decide)]; exact hF i hi
            have e6 : μ1 152 25 = nI (F 6) := hS.1.2.2.2.2.1
            refine xt_if_ne 15 dX12_fair_10 (by decide) (fun _ => ?_) (fun q => absurd q (by decide))
            refine xt_iload_n _ dX12_fair_15 rfl ?_
            refine xt_bipush (10) dX12_fair_16 (by decide) ?_
            refine xt_irem dX12_fair_18 (by decide) ?_
            rw [hrm]
            refine xt_istore_n dX12_fair_19 (by decide) rfl ?_
            change x_T _ _ _ _ [_, _, _, _] _ _ _ _
            refine xt_iload_n _ dX12_fair_20 rfl ?_
            refine xt_sipush (200) dX12_fair_21 (by decide) ?_
            refine xt_icmp_lt 79 dX12_fair_24 (by decide) (fun _ => ?_) (fun q => absurd (nI_lt (b := 200) (by omega) (by decide)) q)
            refine xt_iload_n _ dX12_fair_79 rfl ?_
            refine xt_bipush (100) dX12_fair_80 (by decide) ?_
            refine xt_icmp_lt 127 dX12_fair_82 (by decide) (fun _ => ?_) (fun q => absurd (nI_lt (b := 100) (by omega) (by decide)) q)
            refine xt_iload_n _ dX12_fair_127 rfl ?_
            refine xt_bipush (10) dX12_fair_128 (by decide) ?_
            refine xt_idiv dX12_fair_130 (by decide) ?_
            rw [hdv, ht]
            refine xt_tabIn 235 dX12_fair_131 (by decide) (by decide) (by rfl) (by decide) ?_
            refine xt_aload_n _ dX12_fair_235 rfl ?_
            refine xt_iload_n _ dX12_fair_236 rfl ?_
            refine xt_iconst (5) dX12_fair_237 (by decide) ?_
            refine xt_iload_n _ dX12_fair_238 rfl ?_
            refine xt_bipush (70) dX12_fair_239 (by decide) ?_
            refine xt_icmp_ge 249 dX12_fair_241 (by decide) (fun q => absurd q (nI_ge (b := 70) (by omega) (by decide))) (fun _ => ?_)
            refine xt_bipush (89) dX12_fair_244 (by decide) ?_
            refine xt_goto 251 dX12_fair_246 (by decide) ?_
            refine xt_cV _ dX12_fair_251 klX12_306 (tX12_row sc _ μ1 _ f F hS hF1 (n % 10) 5 89 (by decide) (by omega) (by decide) (by omega)) sh152 rfl rfl (Nat.le_of_ble_eq_true rfl) ?_
            exact xt_iret .int dX12_fair_254 rfl (by first | rfl | assumption) ⟨by rw [show s_tell F n = (if n % 10 < F 5 then nI (F (89 + n % 10)) else -1) from by rw [s_tell, if_neg (by omega), if_pos (by omega), s_tS, if_neg (by omega), if_neg (by omega), if_pos (by omega), ht]], (x_keep.hand hfr)⟩
        · skip
          refine ⟨s_tell F n, ?_, ?_⟩
          · intro μ w c hf hc e hC
            have hS := f_Sf hf2
            refine x_K.of (by decide) (Nat.le_of_ble_eq_true rfl) ?_
            show x_T sc 29 mX11_fair 0 [.ref 0, .int (nI f), .int (nI n), .retAddr 0] [] μ w _
            refine xt_aload_n _ dX11_fair_0 rfl ?_
            refine xt_iload_n _ dX11_fair_1 rfl ?_
            refine xt_cV _ dX11_fair_2 klX11_90 (tX11_fairOf sc _ μ w f c hf hc e) sh0 rfl rfl (Nat.le_of_ble_eq_true rfl) ?_
            refine xt_astore_n dX11_fair_5 (by decide) rfl ?_
            change x_T _ _ _ _ [_, _, _, _] _ _ _ _
            refine xt_aload_n _ dX11_fair_6 rfl ?_
            refine xt_ifnonnull_r 14 dX11_fair_7 (by decide) ?_
            refine xt_aload_n _ dX11_fair_14 rfl ?_
            refine xt_iload_n _ dX11_fair_15 rfl ?_
            refine xt_cV _ dX11_fair_16 klX11_94 (tX2_tell sc _ w hS hC hW n hn31) hS.1 rfl rfl (Nat.le_of_ble_eq_true rfl) ?_
            exact xt_iret .int dX11_fair_19 rfl (by first | rfl | assumption) ⟨rfl, x_keep.rf μ⟩
          · intro μ w c hf hc e hF
            refine x_K.of (by decide) (Nat.le_of_ble_eq_true rfl) ?_
            show x_T sc 29 mX12_fair 0 [.ref 152, .int (nI f), .int (nI n), .retAddr 0] [] μ w _
            refine xt_aload_n _ dX12_fair_0 rfl ?_
            refine xt_iconst (0) dX12_fair_1 (by decide) ?_
            refine xt_puti dX12_fair_2 kpX12_72 (by first | exact sh152 | rfl | assumption) rfl (by first | rfl | assumption) (by first | rfl | assumption) ?_
            refine xt_aload_n _ dX12_fair_5 rfl ?_
            refine xt_iload_n _ dX12_fair_6 rfl ?_
            refine xt_callV _ dX12_fair_7 klX12_300 (tX12_hand sc _ (x_u μ 152 (upd (μ 152) 0 0)) w f c F hf hc e hF) sh152 rfl rfl (Nat.le_of_ble_eq_true rfl) (fun r1 μ1 w1 q1 => ?_)
            obtain ⟨rfl, rfl, hS, h0, hfr⟩ := q1
            change x_T _ _ _ _ _ (.int 1 :: _) _ _ _
            have hF1 : ∀ i, i < 125 → μ1 158 (125 * f + i) = nI (F i) := fun i hi => by rw [hfr 158 (by decide) (by decide) (by decide) (by decide)]; exact hF i hi
            have e6 : μ1 152 25 = nI (F 6) := hS.1.2.2.2.2.1
            refine xt_if_ne 15 dX12_fair_10 (by decide) (fun _ => ?_) (fun q => absurd q (by decide))
            refine xt_iload_n _ dX12_fair_15 rfl ?_
            refine xt_bipush (10) dX12_fair_16 (by decide) ?_
            refine xt_irem dX12_fair_18 (by decide) ?_
            rw [hrm]
            refine xt_istore_n dX12_fair_19 (by decide) rfl ?_
            change x_T _ _ _ _ [_, _, _, _] _ _ _ _
            refine xt_iload_n _ dX12_fair_20 rfl ?_
            refine xt_sipush (200) dX12_fair_21 (by decide) ?_
            refine xt_icmp_lt 79 dX12_fair_24 (by decide) (fun _ => ?_) (fun q => absurd (nI_lt (b := 200) (by omega) (by decide)) q)
            refine xt_iload_n _ dX12_fair_79 rfl ?_
            refine xt_bipush (100) dX12_fair_80 (by decide) ?_
            refine xt_icmp_lt 127 dX12_fair_82 (by decide) (fun _ => ?_) (fun q => absurd (nI_lt (b := 100) (by omega) (by decide)) q)
            refine xt_iload_n _ dX12_fair_127 rfl ?_
            refine xt_bipush (10) dX12_fair_128 (by decide) ?_
            refine xt_idiv dX12_fair_130 (by decide) ?_
            rw [hdv, ht]
            refine xt_tabIn 235 dX12_fair_131 (by decide) (by decide) (by rfl) (by decide) ?_
            refine xt_aload_n _ dX12_fair_235 rfl ?_
            refine xt_iload_n _ dX12_fair_236 rfl ?_
            refine xt_iconst (5) dX12_fair_237 (by decide) ?_
            refine xt_iload_n _ dX12_fair_238 rfl ?_
            refine xt_bipush (70) dX12_fair_239 (by decide) ?_
            refine xt_icmp_ge 249 dX12_fair_241 (by decide) (fun _ => ?_) (fun q => absurd (nI_le (a := 70) (by omega) (by omega)) q)
            refine xt_bipush (95) dX12_fair_249 (by decide) ?_
            refine xt_cV _ dX12_fair_251 klX12_306 (tX12_row sc _ μ1 _ f F hS hF1 (n % 10) 5 95 (by decide) (by omega) (by decide) (by omega)) sh152 rfl rfl (Nat.le_of_ble_eq_true rfl) ?_
            exact xt_iret .int dX12_fair_254 rfl (by first | rfl | assumption) ⟨by rw [show s_tell F n = (if n % 10 < F 5 then nI (F (95 + n % 10)) else -1) from by rw [s_tell, if_neg (by omega), if_pos (by omega), s_tS, if_neg (by omega), if_neg (by omega), if_pos (by omega), ht]], (x_keep.hand hfr)⟩
        · skip
          refine ⟨s_tell F n, ?_, ?_⟩
          · intro μ w c hf hc e hC
            have hS := f_Sf hf2
            refine x_K.of (by decide) (Nat.le_of_ble_eq_true rfl) ?_
            show x_T sc 29 mX11_fair 0 [.ref 0, .int (nI f), .int (nI n), .retAddr 0] [] μ w _
            refine xt_aload_n _ dX11_fair_0 rfl ?_
            refine xt_iload_n _ dX11_fair_1 rfl ?_
            refine xt_cV _ dX11_fair_2 klX11_90 (tX11_fairOf sc _ μ w f c hf hc e) sh0 rfl rfl (Nat.le_of_ble_eq_true rfl) ?_
            refine xt_astore_n dX11_fair_5 (by decide) rfl ?_
            change x_T _ _ _ _ [_, _, _, _] _ _ _ _
            refine xt_aload_n _ dX11_fair_6 rfl ?_
            refine xt_ifnonnull_r 14 dX11_fair_7 (by decide) ?_
            refine xt_aload_n _ dX11_fair_14 rfl ?_
            refine xt_iload_n _ dX11_fair_15 rfl ?_
            refine xt_cV _ dX11_fair_16 klX11_94 (tX2_tell sc _ w hS hC hW n hn31) hS.1 rfl rfl (Nat.le_of_ble_eq_true rfl) ?_
            exact xt_iret .int dX11_fair_19 rfl (by first | rfl | assumption) ⟨rfl, x_keep.rf μ⟩
          · intro μ w c hf hc e hF
            refine x_K.of (by decide) (Nat.le_of_ble_eq_true rfl) ?_
            show x_T sc 29 mX12_fair 0 [.ref 152, .int (nI f), .int (nI n), .retAddr 0] [] μ w _
            refine xt_aload_n _ dX12_fair_0 rfl ?_
            refine xt_iconst (0) dX12_fair_1 (by decide) ?_
            refine xt_puti dX12_fair_2 kpX12_72 (by first | exact sh152 | rfl | assumption) rfl (by first | rfl | assumption) (by first | rfl | assumption) ?_
            refine xt_aload_n _ dX12_fair_5 rfl ?_
            refine xt_iload_n _ dX12_fair_6 rfl ?_
            refine xt_callV _ dX12_fair_7 klX12_300 (tX12_hand sc _ (x_u μ 152 (upd (μ 152) 0 0)) w f c F hf hc e hF) sh152 rfl rfl (Nat.le_of_ble_eq_true rfl) (fun r1 μ1 w1 q1 => ?_)
            obtain ⟨rfl, rfl, hS, h0, hfr⟩ := q1
            change x_T _ _ _ _ _ (.int 1 :: _) _ _ _
            have hF1 : ∀ i, i < 125 → μ1 158 (125 * f + i) = nI (F i) := fun i hi => by rw [hfr 158 (by decide) (by decide) (by decide) (by decide)]; exact hF i hi
            have e6 : μ1 152 25 = nI (F 6) := hS.1.2.2.2.2.1
            refine xt_if_ne 15 dX12_fair_10 (by decide) (fun _ => ?_) (fun q => absurd q (by decide))
            refine xt_iload_n _ dX12_fair_15 rfl ?_
            refine xt_bipush (10) dX12_fair_16 (by decide) ?_
            refine xt_irem dX12_fair_18 (by decide) ?_
            rw [hrm]
            refine xt_istore_n dX12_fair_19 (by decide) rfl ?_
            change x_T _ _ _ _ [_, _, _, _] _ _ _ _
            refine xt_iload_n _ dX12_fair_20 rfl ?_
            refine xt_sipush (200) dX12_fair_21 (by decide) ?_
            refine xt_icmp_lt 79 dX12_fair_24 (by decide) (fun _ => ?_) (fun q => absurd (nI_lt (b := 200) (by omega) (by decide)) q)
            refine xt_iload_n _ dX12_fair_79 rfl ?_
            refine xt_bipush (100) dX12_fair_80 (by decide) ?_
            refine xt_icmp_lt 127 dX12_fair_82 (by decide) (fun _ => ?_) (fun q => absurd (nI_lt (b := 100) (by omega) (by decide)) q)
            refine xt_iload_n _ dX12_fair_127 rfl ?_
            refine xt_bipush (10) dX12_fair_128 (by decide) ?_
            refine xt_idiv dX12_fair_130 (by decide) ?_
            rw [hdv, ht]
            refine xt_tabOut 255 dX12_fair_131 (by decide) (by decide) ?_
            refine xt_iconst (-1) dX12_fair_255 (by decide) ?_
            exact xt_iret .int dX12_fair_256 rfl (by first | rfl | assumption) ⟨by rw [s_tell, if_neg (by omega), if_pos (by omega), s_tS, if_neg (by omega), if_neg (by omega), if_neg (by omega)], (x_keep.hand hfr)⟩
        · skip
          refine ⟨s_tell F n, ?_, ?_⟩
          · intro μ w c hf hc e hC
            have hS := f_Sf hf2
            refine x_K.of (by decide) (Nat.le_of_ble_eq_true rfl) ?_
            show x_T sc 29 mX11_fair 0 [.ref 0, .int (nI f), .int (nI n), .retAddr 0] [] μ w _
            refine xt_aload_n _ dX11_fair_0 rfl ?_
            refine xt_iload_n _ dX11_fair_1 rfl ?_
            refine xt_cV _ dX11_fair_2 klX11_90 (tX11_fairOf sc _ μ w f c hf hc e) sh0 rfl rfl (Nat.le_of_ble_eq_true rfl) ?_
            refine xt_astore_n dX11_fair_5 (by decide) rfl ?_
            change x_T _ _ _ _ [_, _, _, _] _ _ _ _
            refine xt_aload_n _ dX11_fair_6 rfl ?_
            refine xt_ifnonnull_r 14 dX11_fair_7 (by decide) ?_
            refine xt_aload_n _ dX11_fair_14 rfl ?_
            refine xt_iload_n _ dX11_fair_15 rfl ?_
            refine xt_cV _ dX11_fair_16 klX11_94 (tX2_tell sc _ w hS hC hW n hn31) hS.1 rfl rfl (Nat.le_of_ble_eq_true rfl) ?_
            exact xt_iret .int dX11_fair_19 rfl (by first | rfl | assumption) ⟨rfl, x_keep.rf μ⟩
          · intro μ w c hf hc e hF
            refine x_K.of (by decide) (Nat.le_of_ble_eq_true rfl) ?_
            show x_T sc 29 mX12_fair 0 [.ref 152, .int (nI f), .int (nI n), .retAddr 0] [] μ w _
            refine xt_aload_n _ dX12_fair_0 rfl ?_
            refine xt_iconst (0) dX12_fair_1 (by decide) ?_
            refine xt_puti dX12_fair_2 kpX12_72 (by first | exact sh152 | rfl | assumption) rfl (by first | rfl | assumption) (by first | rfl | assumption) ?_
            refine xt_aload_n _ dX12_fair_5 rfl ?_
            refine xt_iload_n _ dX12_fair_6 rfl ?_
            refine xt_callV _ dX12_fair_7 klX12_300 (tX12_hand sc _ (x_u μ 152 (upd (μ 152) 0 0)) w f c F hf hc e hF) sh152 rfl rfl (Nat.le_of_ble_eq_true rfl) (fun r1 μ1 w1 q1 => ?_)
            obtain ⟨rfl, rfl, hS, h0, hfr⟩ := q1
            change x_T _ _ _ _ _ (.int 1 :: _) _ _ _
            have hF1 : ∀ i, i < 125 → μ1 158 (125 * f + i) = nI (F i) := fun i hi => by rw [hfr 158 (by decide) (by decide) (by decide) (by decide)]; exact hF i hi
            have e6 : μ1 152 25 = nI (F 6) := hS.1.2.2.2.2.1
            refine xt_if_ne 15 dX12_fair_10 (by decide) (fun _ => ?_) (fun q => absurd q (by decide))
            refine xt_iload_n _ dX12_fair_15 rfl ?_
            refine xt_bipush (10) dX12_fair_16 (by decide) ?_
            refine xt_irem dX12_fair_18 (by decide) ?_
            rw [hrm]
            refine xt_istore_n dX12_fair_19 (by decide) rfl ?_
            change x_T _ _ _ _ [_, _, _, _] _ _ _ _
            refine xt_iload_n _ dX12_fair_20 rfl ?_
            refine xt_sipush (200) dX12_fair_21 (by decide) ?_
            refine xt_icmp_lt 79 dX12_fair_24 (by decide) (fun _ => ?_) (fun q => absurd (nI_lt (b := 200) (by omega) (by decide)) q)
            refine xt_iload_n _ dX12_fair_79 rfl ?_
            refine xt_bipush (100) dX12_fair_80 (by decide) ?_
            refine xt_icmp_lt 127 dX12_fair_82 (by decide) (fun _ => ?_) (fun q => absurd (nI_lt (b := 100) (by omega) (by decide)) q)
            refine xt_iload_n _ dX12_fair_127 rfl ?_
            refine xt_bipush (10) dX12_fair_128 (by decide) ?_
            refine xt_idiv dX12_fair_130 (by decide) ?_
            rw [hdv, ht]
            refine xt_tabOut 255 dX12_fair_131 (by decide) (by decide) ?_
            refine xt_iconst (-1) dX12_fair_255 (by decide) ?_
            exact xt_iret .int dX12_fair_256 rfl (by first | rfl | assumption) ⟨by rw [s_tell, if_neg (by omega), if_pos (by omega), s_tS, if_neg (by omega), if_neg (by omega), if_neg (by omega)], (x_keep.hand hfr)⟩
      · by_cases h200 : n < 200
        · skip
          refine ⟨s_tell F n, ?_, ?_⟩
          · intro μ w c hf hc e hC
            have hS := f_Sf hf2
            refine x_K.of (by decide) (Nat.le_of_ble_eq_true rfl) ?_
            show x_T sc 29 mX11_fair 0 [.ref 0, .int (nI f), .int (nI n), .retAddr 0] [] μ w _
            refine xt_aload_n _ dX11_fair_0 rfl ?_
            refine xt_iload_n _ dX11_fair_1 rfl ?_
            refine xt_cV _ dX11_fair_2 klX11_90 (tX11_fairOf sc _ μ w f c hf hc e) sh0 rfl rfl (Nat.le_of_ble_eq_true rfl) ?_
            refine xt_astore_n dX11_fair_5 (by decide) rfl ?_
            change x_T _ _ _ _ [_, _, _, _] _ _ _ _
            refine xt_aload_n _ dX11_fair_6 rfl ?_
            refine xt_ifnonnull_r 14 dX11_fair_7 (by decide) ?_
            refine xt_aload_n _ dX11_fair_14 rfl ?_
            refine xt_iload_n _ dX11_fair_15 rfl ?_
            refine xt_cV _ dX11_fair_16 klX11_94 (tX2_tell sc _ w hS hC hW n hn31) hS.1 rfl rfl (Nat.le_of_ble_eq_true rfl) ?_
            exact xt_iret .int dX11_fair_19 rfl (by first | rfl | assumption) ⟨rfl, x_keep.rf μ⟩
          · intro μ w c hf hc e hF
            refine x_K.of (by decide) (Nat.le_of_ble_eq_true rfl) ?_
            show x_T sc 29 mX12_fair 0 [.ref 152, .int (nI f), .int (nI n), .retAddr 0] [] μ w _
            refine xt_aload_n _ dX12_fair_0 rfl ?_
            refine xt_iconst (0) dX12_fair_1 (by decide) ?_
            refine xt_puti dX12_fair_2 kpX12_72 (by first | exact sh152 | rfl | assumption) rfl (by first | rfl | assumption) (by first | rfl | assumption) ?_
            refine xt_aload_n _ dX12_fair_5 rfl ?_
            refine xt_iload_n _ dX12_fair_6 rfl ?_
            refine xt_callV _ dX12_fair_7 klX12_300 (tX12_hand sc _ (x_u μ 152 (upd (μ 152) 0 0)) w f c F hf hc e hF) sh152 rfl rfl (Nat.le_of_ble_eq_true rfl) (fun r1 μ1 w1 q1 => ?_)
            obtain ⟨rfl, rfl, hS, h0, hfr⟩ := q1
            change x_T _ _ _ _ _ (.int 1 :: _) _ _ _
            have hF1 : ∀ i, i < 125 → μ1 158 (125 * f + i) = nI (F i) := fun i hi => by rw [hfr 158 (by decide) (by decide) (by decide) (by decide)]; exact hF i hi
            have e6 : μ1 152 25 = nI (F 6) := hS.1.2.2.2.2.1
            refine xt_if_ne 15 dX12_fair_10 (by decide) (fun _ => ?_) (fun q => absurd q (by decide))
            refine xt_iload_n _ dX12_fair_15 rfl ?_
            refine xt_bipush (10) dX12_fair_16 (by decide) ?_
            refine xt_irem dX12_fair_18 (by decide) ?_
            rw [hrm]
            refine xt_istore_n dX12_fair_19 (by decide) rfl ?_
            change x_T _ _ _ _ [_, _, _, _] _ _ _ _
            refine xt_iload_n _ dX12_fair_20 rfl ?_
            refine xt_sipush (200) dX12_fair_21 (by decide) ?_
            refine xt_icmp_lt 79 dX12_fair_24 (by decide) (fun _ => ?_) (fun q => absurd (nI_lt (b := 200) (by omega) (by decide)) q)
            refine xt_iload_n _ dX12_fair_79 rfl ?_
            refine xt_bipush (100) dX12_fair_80 (by decide) ?_
            refine xt_icmp_lt 127 dX12_fair_82 (by decide) (fun q => absurd q (nI_nlt (a := n) (b := 100) (by omega) (by omega))) (fun _ => ?_)
            refine xt_aload_n _ dX12_fair_85 rfl ?_
            refine xt_iload_n _ dX12_fair_86 rfl ?_
            refine xt_bipush (100) dX12_fair_87 (by decide) ?_
            refine xt_isub dX12_fair_89 ?_
            refine xt_bipush (10) dX12_fair_90 (by decide) ?_
            refine xt_idiv dX12_fair_92 (by decide) ?_
            rw [show nI n - (100 : Int32) = nI (n - 100) from pk_sub (b := 100) (by omega), show nI (n - 100) / (10 : Int32) = nI ((n - 100) / 10) from pk_div (by omega) (by decide) (by decide)]
            refine xt_cV _ dX12_fair_93 klX12_303 (tX12_isGoer sc _ μ1 _ F h8 hS.1.2.2.2.1 _) sh152 rfl rfl (Nat.le_of_ble_eq_true rfl) ?_
            refine xt_if_eq 125 dX12_fair_96 (by decide) (fun t96 => ?_) (fun f96 => ?_)
            · refine xt_iconst (-1) dX12_fair_125 (by decide) ?_
              exact xt_iret .int dX12_fair_126 rfl (by first | rfl | assumption) ⟨by rw [s_tell, if_neg (by omega), if_neg (by omega), if_pos (by omega), s_tG, if_neg (fun z => by have hz : (n - 100) / 10 < F 4 := (by omega); rw [s_hasG_yes hz h8] at t96; exact absurd t96 (by decide))], (x_keep.hand hfr)⟩
            · refine xt_iload_n _ dX12_fair_99 rfl ?_
              refine xt_bipush (6) dX12_fair_100 (by decide) ?_
              refine xt_icmp_ge 125 dX12_fair_102 (by decide) (fun t102 => ?_) (fun f102 => ?_)
              · have n102 : 6 ≤ (n % 10) := (nI_leI (a := 6) (b := (n % 10)) (by omega) (by omega)).mp t102
                refine xt_iconst (-1) dX12_fair_125 (by decide) ?_
                exact xt_iret .int dX12_fair_126 rfl (by first | rfl | assumption) ⟨by rw [s_tell, if_neg (by omega), if_neg (by omega), if_pos (by omega), s_tG, if_neg (fun z => by omega)], (x_keep.hand hfr)⟩
              · have n102 : ¬ (6 ≤ (n % 10)) := fun z => f102 ((nI_leI (a := 6) (b := (n % 10)) (by omega) (by omega)).mpr z)
                refine xt_aload_n _ dX12_fair_105 rfl ?_
                refine xt_getr _ dX12_fair_106 kfX12_47 (by first | exact sh152 | rfl | assumption) rfl ?_
                refine xt_bipush (6) dX12_fair_109 (by decide) ?_
                refine xt_iload_n _ dX12_fair_111 rfl ?_
                refine xt_bipush (100) dX12_fair_112 (by decide) ?_
                refine xt_isub dX12_fair_114 ?_
                refine xt_bipush (10) dX12_fair_115 (by decide) ?_
                refine xt_idiv dX12_fair_117 (by decide) ?_
                rw [show nI n - (100 : Int32) = nI (n - 100) from pk_sub (b := 100) (by omega), show nI (n - 100) / (10 : Int32) = nI ((n - 100) / 10) from pk_div (by omega) (by decide) (by decide)]
                refine xt_imul dX12_fair_118 ?_
                refine xt_iload_n _ dX12_fair_119 rfl ?_
                refine xt_iadd dX12_fair_120 ?_
                have hgg : (n - 100) / 10 < F 4 := by
                  apply Classical.byContradiction
                  intro z
                  exact f96 (s_hasG_no (fun q => z ((nI_ltI (by omega) (by omega)).mp q.2)))
                have hix : (6 : Int32) * nI ((n - 100) / 10) + nI (n % 10) = nI (6 * ((n - 100) / 10) + n % 10) := by rw [show (6 : Int32) = nI 6 from rfl, pk_mul, nI_add]
                refine xt_ald dX12_fair_121 (by first | exact sh152 | rfl | assumption) (by rw [hix]; exact vp_in_nI (by omega) (by decide)) ?_
                refine xt_goto 126 dX12_fair_122 (by decide) ?_
                exact xt_iret .int dX12_fair_126 rfl (by first | rfl | assumption) ⟨by rw [s_tell, if_neg (by omega), if_neg (by omega), if_pos (by omega), s_tG, if_pos ⟨by omega, by omega⟩, hix, nI_clamp (by omega), hS.2.2.1 _ (by omega), show (n - 100) / 10 = n / 10 - 10 by omega], (x_keep.hand hfr)⟩
        · skip
          refine ⟨s_tell F n, ?_, ?_⟩
          · intro μ w c hf hc e hC
            have hS := f_Sf hf2
            refine x_K.of (by decide) (Nat.le_of_ble_eq_true rfl) ?_
            show x_T sc 29 mX11_fair 0 [.ref 0, .int (nI f), .int (nI n), .retAddr 0] [] μ w _
            refine xt_aload_n _ dX11_fair_0 rfl ?_
            refine xt_iload_n _ dX11_fair_1 rfl ?_
            refine xt_cV _ dX11_fair_2 klX11_90 (tX11_fairOf sc _ μ w f c hf hc e) sh0 rfl rfl (Nat.le_of_ble_eq_true rfl) ?_
            refine xt_astore_n dX11_fair_5 (by decide) rfl ?_
            change x_T _ _ _ _ [_, _, _, _] _ _ _ _
            refine xt_aload_n _ dX11_fair_6 rfl ?_
            refine xt_ifnonnull_r 14 dX11_fair_7 (by decide) ?_
            refine xt_aload_n _ dX11_fair_14 rfl ?_
            refine xt_iload_n _ dX11_fair_15 rfl ?_
            refine xt_cV _ dX11_fair_16 klX11_94 (tX2_tell sc _ w hS hC hW n hn31) hS.1 rfl rfl (Nat.le_of_ble_eq_true rfl) ?_
            exact xt_iret .int dX11_fair_19 rfl (by first | rfl | assumption) ⟨rfl, x_keep.rf μ⟩
          · intro μ w c hf hc e hF
            refine x_K.of (by decide) (Nat.le_of_ble_eq_true rfl) ?_
            show x_T sc 29 mX12_fair 0 [.ref 152, .int (nI f), .int (nI n), .retAddr 0] [] μ w _
            refine xt_aload_n _ dX12_fair_0 rfl ?_
            refine xt_iconst (0) dX12_fair_1 (by decide) ?_
            refine xt_puti dX12_fair_2 kpX12_72 (by first | exact sh152 | rfl | assumption) rfl (by first | rfl | assumption) (by first | rfl | assumption) ?_
            refine xt_aload_n _ dX12_fair_5 rfl ?_
            refine xt_iload_n _ dX12_fair_6 rfl ?_
            refine xt_callV _ dX12_fair_7 klX12_300 (tX12_hand sc _ (x_u μ 152 (upd (μ 152) 0 0)) w f c F hf hc e hF) sh152 rfl rfl (Nat.le_of_ble_eq_true rfl) (fun r1 μ1 w1 q1 => ?_)
            obtain ⟨rfl, rfl, hS, h0, hfr⟩ := q1
            change x_T _ _ _ _ _ (.int 1 :: _) _ _ _
            have hF1 : ∀ i, i < 125 → μ1 158 (125 * f + i) = nI (F i) := fun i hi => by rw [hfr 158 (by decide) (by decide) (by decide) (by decide)]; exact hF i hi
            have e6 : μ1 152 25 = nI (F 6) := hS.1.2.2.2.2.1
            refine xt_if_ne 15 dX12_fair_10 (by decide) (fun _ => ?_) (fun q => absurd q (by decide))
            refine xt_iload_n _ dX12_fair_15 rfl ?_
            refine xt_bipush (10) dX12_fair_16 (by decide) ?_
            refine xt_irem dX12_fair_18 (by decide) ?_
            rw [hrm]
            refine xt_istore_n dX12_fair_19 (by decide) rfl ?_
            change x_T _ _ _ _ [_, _, _, _] _ _ _ _
            refine xt_iload_n _ dX12_fair_20 rfl ?_
            refine xt_sipush (200) dX12_fair_21 (by decide) ?_
            refine xt_icmp_lt 79 dX12_fair_24 (by decide) (fun q => absurd q (nI_nlt (a := n) (b := 200) (by omega) (by omega))) (fun _ => ?_)
            refine xt_iload_n _ dX12_fair_27 rfl ?_
            refine xt_sipush (260) dX12_fair_28 (by decide) ?_
            refine xt_icmp_ge 77 dX12_fair_31 (by decide) (fun t31 => ?_) (fun f31 => ?_)
            · have n31 : 260 ≤ n := (nI_leI (a := 260) (b := n) (by omega) (by omega)).mp t31
              refine xt_iconst (-1) dX12_fair_77 (by decide) ?_
              exact xt_iret .int dX12_fair_78 rfl (by first | rfl | assumption) ⟨by rw [s_tell, if_neg (by omega), if_neg (by omega), if_neg (by omega), s_tT, if_neg (fun z => by omega)], (x_keep.hand hfr)⟩
            · have n31 : ¬ (260 ≤ n) := fun z => f31 ((nI_leI (a := 260) (b := n) (by omega) (by omega)).mpr z)
              refine xt_iload_n _ dX12_fair_34 rfl ?_
              refine xt_sipush (200) dX12_fair_35 (by decide) ?_
              refine xt_isub dX12_fair_38 ?_
              refine xt_bipush (10) dX12_fair_39 (by decide) ?_
              refine xt_idiv dX12_fair_41 (by decide) ?_
              refine xt_aload_n _ dX12_fair_42 rfl ?_
              refine xt_geti dX12_fair_43 kfX12_254 (by first | exact sh152 | rfl | assumption) rfl ?_
              rw [e6]
              rw [show nI n - (200 : Int32) = nI (n - 200) from pk_sub (b := 200) (by omega), show nI (n - 200) / (10 : Int32) = nI ((n - 200) / 10) from pk_div (by omega) (by decide) (by decide)]
              refine xt_icmp_ge 77 dX12_fair_46 (by decide) (fun t46 => ?_) (fun f46 => ?_)
              · have n46 : F 6 ≤ ((n - 200) / 10) := (nI_leI (a := F 6) (b := ((n - 200) / 10)) (by omega) (by omega)).mp t46
                refine xt_iconst (-1) dX12_fair_77 (by decide) ?_
                exact xt_iret .int dX12_fair_78 rfl (by first | rfl | assumption) ⟨by rw [s_tell, if_neg (by omega), if_neg (by omega), if_neg (by omega), s_tT, if_neg (fun z => by omega)], (x_keep.hand hfr)⟩
              · have n46 : ¬ (F 6 ≤ ((n - 200) / 10)) := fun z => f46 ((nI_leI (a := F 6) (b := ((n - 200) / 10)) (by omega) (by omega)).mpr z)
                refine xt_iload_n _ dX12_fair_49 rfl ?_
                refine xt_iconst (4) dX12_fair_50 (by decide) ?_
                refine xt_icmp_ge 77 dX12_fair_51 (by decide) (fun t51 => ?_) (fun f51 => ?_)
                · have n51 : 4 ≤ (n % 10) := (nI_leI (a := 4) (b := (n % 10)) (by omega) (by omega)).mp t51
                  refine xt_iconst (-1) dX12_fair_77 (by decide) ?_
                  exact xt_iret .int dX12_fair_78 rfl (by first | rfl | assumption) ⟨by rw [s_tell, if_neg (by omega), if_neg (by omega), if_neg (by omega), s_tT, if_neg (fun z => by omega)], (x_keep.hand hfr)⟩
                · have n51 : ¬ (4 ≤ (n % 10)) := fun z => f51 ((nI_leI (a := 4) (b := (n % 10)) (by omega) (by omega)).mpr z)
                  refine xt_aload_n _ dX12_fair_54 rfl ?_
                  refine xt_bipush (101) dX12_fair_55 (by decide) ?_
                  refine xt_bipush (6) dX12_fair_57 (by decide) ?_
                  refine xt_iload_n _ dX12_fair_59 rfl ?_
                  refine xt_imul dX12_fair_60 ?_
                  refine xt_iadd dX12_fair_61 ?_
                  refine xt_iload_n _ dX12_fair_62 rfl ?_
                  refine xt_sipush (200) dX12_fair_63 (by decide) ?_
                  refine xt_isub dX12_fair_66 ?_
                  refine xt_bipush (10) dX12_fair_67 (by decide) ?_
                  refine xt_idiv dX12_fair_69 (by decide) ?_
                  refine xt_iadd dX12_fair_70 ?_
                  rw [show nI n - (200 : Int32) = nI (n - 200) from pk_sub (b := 200) (by omega), show nI (n - 200) / (10 : Int32) = nI ((n - 200) / 10) from pk_div (by omega) (by decide) (by decide)]
                  rw [show (101 : Int32) + (6 : Int32) * nI (n % 10) + nI ((n - 200) / 10) = nI (101 + 6 * (n % 10) + (n - 200) / 10) by rw [show (101 : Int32) = nI 101 from rfl, show (6 : Int32) = nI 6 from rfl, pk_mul, nI_add, nI_add]]
                  refine xt_cV _ dX12_fair_71 klX12_244 (tX12_of sc _ μ1 _ f (101 + 6 * (n % 10) + (n - 200) / 10) (by omega) (by omega) hS.1.2.1) sh152 rfl rfl (Nat.le_of_ble_eq_true rfl) ?_
                  rw [hF1 _ (by omega)]
                  refine xt_goto 78 dX12_fair_74 (by decide) ?_
                  exact xt_iret .int dX12_fair_78 rfl (by first | rfl | assumption) ⟨by rw [s_tell, if_neg (by omega), if_neg (by omega), if_neg (by omega), s_tT, if_pos ⟨by omega, by omega⟩, show (n - 200) / 10 = n / 10 - 20 by omega], (x_keep.hand hfr)⟩
