/-! turns of the stoker and the town: the class looks ahead -/
def s_clr (x g : Nat) : Nat := x - (if x.testBit g then 2 ^ g else 0)
theorem s_clrI : ∀ x, x < 256 → ∀ g, g < 8 → nI x &&& (((1 : Int32) <<< (nI g &&& 31)) ^^^ (-1)) = nI (s_clr x g) := by decide +kernel
theorem s_clr_lt {x g : Nat} (h : x < 256) : s_clr x g < 256 := by unfold s_clr; omega
theorem s_ab1 : ∀ x, x < 256 → ∀ g, g < 8 → ((nI x &&& ((1 : Int32) <<< (nI g &&& 31)) = 0) ↔ x.testBit g = false) := by decide +kernel
theorem s_ab3 : ∀ x, x < 256 → ∀ g, g < 8 → nI x &&& ((1 : Int32) <<< (nI g &&& 31)) = (if x.testBit g then (1 : Int32) <<< (nI g &&& 31) else 0) := by decide +kernel
theorem s_ab4 : ∀ x, x < 256 → ∀ g, g < 8 → (((nI x ^^^ (-1)) &&& ((1 : Int32) <<< (nI g &&& 31)) = 0) ↔ x.testBit g = true) := by decide +kernel
theorem s_ab2 {x y g : Nat} (hx : x < 256) (hy : y < 256) (hg : g < 8) : ((nI x &&& (nI y ^^^ (-1))) &&& ((1 : Int32) <<< (nI g &&& 31)) = 0) ↔ (x.testBit g && !y.testBit g) = false := by
  rw [show (nI x &&& (nI y ^^^ (-1))) &&& ((1 : Int32) <<< (nI g &&& 31)) = (nI x &&& ((1 : Int32) <<< (nI g &&& 31))) &&& (nI y ^^^ (-1)) by rw [Int32.and_assoc, Int32.and_comm (nI y ^^^ (-1)), ← Int32.and_assoc], s_ab3 x hx g hg]
  cases hb : x.testBit g
  · simp
  · rw [if_pos rfl, Int32.and_comm, s_ab4 y hy g hg]
    cases y.testBit g <;> simp
abbrev s_apt (st : Bool) (now wd g : Nat) : Bool := wd.testBit g && (st || !now.testBit g)
def s_lf (f : Nat → Nat) (st : Bool) (now wd b0 : Nat) : Nat → Nat
  | 0 => b0
  | g + 1 => if s_apt st now wd g then (if st then min (s_lf f st now wd b0 g) (f g) else max (s_lf f st now wd b0 g) (f g)) else s_lf f st now wd b0 g
def s_la : Nat → Bool → Nat → Nat → Nat
  | 0, _, now, _ => s_pop now
  | n + 1, st, now, wd => s_lf (fun g => if st then s_la n false (s_clr now g) (s_clr wd g) else s_la n true (now ||| 2 ^ g) wd) st now wd (s_la n (!st) now wd) 8
theorem s_lf_le {f : Nat → Nat} {st : Bool} {now wd b0 : Nat} (hf : ∀ g, f g ≤ 8) (h0 : b0 ≤ 8) : ∀ g, s_lf f st now wd b0 g ≤ 8
  | 0 => h0
  | g + 1 => by
    have ih := s_lf_le (st := st) (now := now) (wd := wd) hf h0 g
    have := hf g
    rw [s_lf]
    split
    · split <;> omega
    · exact ih
theorem s_la_le : ∀ n st now wd, s_la n st now wd ≤ 8
  | 0, _, now, _ => s_cnt_le _ 8
  | n + 1, st, now, wd => by
    rw [s_la]
    refine s_lf_le (fun g => ?_) (s_la_le n _ now wd) 8
    show (if st then s_la n false (s_clr now g) (s_clr wd g) else s_la n true (now ||| 2 ^ g) wd) ≤ 8
    split
    · exact s_la_le n _ _ _
    · exact s_la_le n _ _ _
section TURNS
variable (sc : Nat × (Nat → Int32)) (d : Nat) (μ : x_Me) (w : Int64)
set_option maxHeartbeats 4000000 in
theorem tX0_lookAhead : ∀ (n : Nat) (st : Bool) (now wd : Nat), now < 256 → wd < 256 → n ≤ 4 → x_K sc (d + n + 1) mX0_lookAhead [.int (nI n), .int (if st then 1 else 0), .int (nI now), .int (nI wd)] μ w (x_p (some (.int (nI (s_la n st now wd)))) μ w) := by
  intro n
  induction n with
  | zero =>
    intro st now wd hnow hwd _
    refine x_K.of (by decide) (Nat.le_of_ble_eq_true rfl) ?_
    show x_T sc (d + 0 + 1) mX0_lookAhead 0 [.int (nI 0), .int (if st then 1 else 0), .int (nI now), .int (nI wd), .retAddr 0, .retAddr 0, .retAddr 0, .retAddr 0] [] μ w _
    refine xt_iload_n _ dX0_lookAhead_0 rfl ?_
    refine xt_if_gt 9 dX0_lookAhead_1 (by decide) (fun q => absurd q (by decide)) (fun _ => ?_)
    refine xt_iload_n _ dX0_lookAhead_4 rfl ?_
    refine xt_cS _ dX0_lookAhead_5 klX0_70 (tJ_bitCount sc _ w _) rfl rfl (Nat.le_of_ble_eq_true rfl) ?_
    rw [s_bc_pop now hnow]
    exact xt_iret .int dX0_lookAhead_8 rfl (by first | rfl | assumption) ⟨rfl, rfl, rfl⟩
  | succ n ih =>
    intro st now wd hnow hwd hn4
    cases st
    · skip
      refine x_K.of (by decide) (Nat.le_of_ble_eq_true rfl) ?_
      show x_T sc (d + n + 1 + 1) mX0_lookAhead 0 [.int (nI (n + 1)), .int 0, .int (nI now), .int (nI wd), .retAddr 0, .retAddr 0, .retAddr 0, .retAddr 0] [] μ w _
      refine xt_iload_n _ dX0_lookAhead_0 rfl ?_
      refine xt_if_gt 9 dX0_lookAhead_1 (by decide) (fun _ => ?_) (fun q => absurd (nI_lt (a := 0) (b := n + 1) (by omega) (by omega)) q)
      refine xt_iload_n _ dX0_lookAhead_9 rfl ?_
      refine xt_iconst (1) dX0_lookAhead_10 (by decide) ?_
      refine xt_isub dX0_lookAhead_11 ?_
      refine xt_iload_n _ dX0_lookAhead_12 rfl ?_
      refine xt_if_ne 20 dX0_lookAhead_13 (by decide) (fun q => absurd (by decide) q) (fun _ => ?_)
      refine xt_iconst (1) dX0_lookAhead_16 (by decide) ?_
      refine xt_goto 21 dX0_lookAhead_17 (by decide) ?_
      refine xt_iload_n _ dX0_lookAhead_21 rfl ?_
      refine xt_iload_n _ dX0_lookAhead_22 rfl ?_
      rw [show nI (n + 1) - (1 : Int32) = nI n from pk_sub (a := n + 1) (b := 1) (by omega)]
      refine xt_cS _ dX0_lookAhead_23 klX0_66 (ih (!false) now wd hnow hwd (by omega)) rfl rfl (Nat.le_of_ble_eq_true rfl) ?_
      refine xt_istore dX0_lookAhead_26 (by decide) rfl ?_
      change x_T _ _ _ _ [_, _, _, _, _, _, _, _] _ _ _ _
      refine xt_iload_n _ dX0_lookAhead_28 rfl ?_
      refine xt_if_eq 36 dX0_lookAhead_29 (by decide) (fun _ => ?_) (fun q => absurd (by decide) q)
      refine xt_iload_n _ dX0_lookAhead_36 rfl ?_
      refine xt_iload_n _ dX0_lookAhead_37 rfl ?_
      refine xt_iconst (-1) dX0_lookAhead_38 (by decide) ?_
      refine xt_ixor dX0_lookAhead_39 ?_
      refine xt_iand dX0_lookAhead_40 ?_
      refine xt_istore dX0_lookAhead_41 (by decide) rfl ?_
      change x_T _ _ _ _ [_, _, _, _, _, _, _, _] _ _ _ _
      refine xt_iconst (0) dX0_lookAhead_43 (by decide) ?_
      refine xt_istore dX0_lookAhead_44 (by decide) rfl ?_
      change x_T _ _ _ _ [_, _, _, _, _, _, _, _] _ _ _ _
      have L46 : ∀ (n46 g : Nat) (v7 : Value), g + n46 = 8 → x_T sc (d + n + 1 + 1) mX0_lookAhead 46 [.int (nI (n + 1)), .int 0, .int (nI now), .int (nI wd), .int (nI (s_lf (fun g => if false then s_la n false (s_clr now g) (s_clr wd g) else s_la n true (now ||| 2 ^ g) wd) false now wd (s_la n (!false) now wd) g)), .int (nI wd &&& (nI now ^^^ (-1))), .int (nI g), v7] [] μ w (x_p (some (.int (nI (s_la (n + 1) false now wd)))) μ w) := by
        intro n46
        induction n46 with
        | zero =>
          intro g v7 hmn
          obtain rfl : 8 = g := by omega
          refine xt_iload _ dX0_lookAhead_46 rfl ?_
          refine xt_bipush (8) dX0_lookAhead_48 (by decide) ?_
          refine xt_icmp_ge 128 dX0_lookAhead_50 (by decide) (fun _ => ?_) (fun q => absurd (by decide) q)
          refine xt_iload _ dX0_lookAhead_128 rfl ?_
          exact xt_iret .int dX0_lookAhead_130 rfl (by first | rfl | assumption) ⟨rfl, rfl, rfl⟩
        | succ n46 ih46 =>
          intro g v7 hmn
          have hlt_g : g < 8 := by omega
          have hl1 : (s_lf (fun g => if false then s_la n false (s_clr now g) (s_clr wd g) else s_la n true (now ||| 2 ^ g) wd) false now wd (s_la n (!false) now wd) g) ≤ 8 := s_lf_le (fun g => by show (if false then s_la n false (s_clr now g) (s_clr wd g) else s_la n true (now ||| 2 ^ g) wd) ≤ 8; split <;> exact s_la_le n _ _ _) (s_la_le n _ now wd) g
          have hl2 : s_la n true (now ||| 2 ^ g) wd ≤ 8 := s_la_le n _ _ _
          refine xt_iload _ dX0_lookAhead_46 rfl ?_
          refine xt_bipush (8) dX0_lookAhead_48 (by decide) ?_
          refine xt_icmp_ge 128 dX0_lookAhead_50 (by decide) (fun q => absurd q (nI_ge (b := 8) hlt_g (by decide))) (fun _ => ?_)
          refine xt_iconst (1) dX0_lookAhead_53 (by decide) ?_
          refine xt_iload _ dX0_lookAhead_54 rfl ?_
          refine xt_ishl dX0_lookAhead_56 ?_
          refine xt_istore dX0_lookAhead_57 (by decide) rfl ?_
          change x_T _ _ _ _ [_, _, _, _, _, _, _, _] _ _ _ _
          refine xt_iload _ dX0_lookAhead_59 rfl ?_
          refine xt_iload _ dX0_lookAhead_61 rfl ?_
          refine xt_iand dX0_lookAhead_63 ?_
          refine xt_if_ne 70 dX0_lookAhead_64 (by decide) (fun t64 => ?_) (fun f64 => ?_)
          · refine xt_iload_n _ dX0_lookAhead_70 rfl ?_
            refine xt_if_eq 103 dX0_lookAhead_71 (by decide) (fun _ => ?_) (fun q => absurd (by decide) q)
            refine xt_iload _ dX0_lookAhead_103 rfl ?_
            refine xt_iload_n _ dX0_lookAhead_105 rfl ?_
            refine xt_iconst (1) dX0_lookAhead_106 (by decide) ?_
            refine xt_isub dX0_lookAhead_107 ?_
            refine xt_iconst (1) dX0_lookAhead_108 (by decide) ?_
            refine xt_iload_n _ dX0_lookAhead_109 rfl ?_
            refine xt_iload _ dX0_lookAhead_110 rfl ?_
            refine xt_ior dX0_lookAhead_112 ?_
            refine xt_iload_n _ dX0_lookAhead_113 rfl ?_
            rw [show nI (n + 1) - (1 : Int32) = nI n from pk_sub (a := n + 1) (b := 1) (by omega)]
            rw [x_1sh (by omega), nI_or]
            refine xt_cS _ dX0_lookAhead_114 klX0_66 (ih true (now ||| 2 ^ g) wd (Nat.or_lt_two_pow (n := 8) hnow (Nat.pow_lt_pow_right (by decide) (by omega))) hwd (by omega)) rfl rfl (Nat.le_of_ble_eq_true rfl) ?_
            refine xt_mmax dX0_lookAhead_117 kmX0_54 (Nat.le_of_ble_eq_true rfl) ?_
            rw [s_max_nI (by omega) (by omega)]
            refine xt_istore dX0_lookAhead_120 (by decide) rfl ?_
            change x_T _ _ _ _ [_, _, _, _, _, _, _, _] _ _ _ _
            refine xt_inc _ (1) dX0_lookAhead_122 rfl (by decide) (by decide) rfl ?_
            change x_T _ _ _ _ [_, _, _, _, _, _, _, _] _ _ _ _
            refine xt_goto 46 dX0_lookAhead_125 (by decide) ?_
            have ap : s_apt false now wd g = true := by
              show (wd.testBit g && (false || !now.testBit g)) = true
              rw [Bool.false_or]; cases hq : (wd.testBit g && !now.testBit g)
              · exact absurd ((s_ab2 hwd hnow (show g < 8 by omega)).mpr hq) t64
              · rfl
            have es : (s_lf (fun g => if false then s_la n false (s_clr now g) (s_clr wd g) else s_la n true (now ||| 2 ^ g) wd) false now wd (s_la n (!false) now wd) (g + 1)) = max (s_lf (fun g => if false then s_la n false (s_clr now g) (s_clr wd g) else s_la n true (now ||| 2 ^ g) wd) false now wd (s_la n (!false) now wd) g) (s_la n true (now ||| 2 ^ g) wd) := by
              rw [s_lf, if_pos ap]; rfl
            refine x_T.ls ?_ (ih46 (g + 1) (.int (nI (2 ^ g))) (by omega))
            rw [es, nI_succ g]
          · refine xt_goto 122 dX0_lookAhead_67 (by decide) ?_
            refine xt_inc _ (1) dX0_lookAhead_122 rfl (by decide) (by decide) rfl ?_
            change x_T _ _ _ _ [_, _, _, _, _, _, _, _] _ _ _ _
            refine xt_goto 46 dX0_lookAhead_125 (by decide) ?_
            have ap : s_apt false now wd g = false := by
              show (wd.testBit g && (false || !now.testBit g)) = false
              rw [Bool.false_or]; exact (s_ab2 hwd hnow (show g < 8 by omega)).mp f64
            have es : (s_lf (fun g => if false then s_la n false (s_clr now g) (s_clr wd g) else s_la n true (now ||| 2 ^ g) wd) false now wd (s_la n (!false) now wd) (g + 1)) = (s_lf (fun g => if false then s_la n false (s_clr now g) (s_clr wd g) else s_la n true (now ||| 2 ^ g) wd) false now wd (s_la n (!false) now wd) g) := by
              rw [s_lf, ap, if_neg (by decide)]
            refine x_T.ls ?_ (ih46 (g + 1) (.int ((1 : Int32) <<< (nI g &&& 31))) (by omega))
            rw [es, nI_succ g]
      exact L46 8 0 _ (by omega)
    · skip
      refine x_K.of (by decide) (Nat.le_of_ble_eq_true rfl) ?_
      show x_T sc (d + n + 1 + 1) mX0_lookAhead 0 [.int (nI (n + 1)), .int 1, .int (nI now), .int (nI wd), .retAddr 0, .retAddr 0, .retAddr 0, .retAddr 0] [] μ w _
      refine xt_iload_n _ dX0_lookAhead_0 rfl ?_
      refine xt_if_gt 9 dX0_lookAhead_1 (by decide) (fun _ => ?_) (fun q => absurd (nI_lt (a := 0) (b := n + 1) (by omega) (by omega)) q)
      refine xt_iload_n _ dX0_lookAhead_9 rfl ?_
      refine xt_iconst (1) dX0_lookAhead_10 (by decide) ?_
      refine xt_isub dX0_lookAhead_11 ?_
      refine xt_iload_n _ dX0_lookAhead_12 rfl ?_
      refine xt_if_ne 20 dX0_lookAhead_13 (by decide) (fun _ => ?_) (fun q => absurd q (by decide))
      refine xt_iconst (0) dX0_lookAhead_20 (by decide) ?_
      refine xt_iload_n _ dX0_lookAhead_21 rfl ?_
      refine xt_iload_n _ dX0_lookAhead_22 rfl ?_
      rw [show nI (n + 1) - (1 : Int32) = nI n from pk_sub (a := n + 1) (b := 1) (by omega)]
      refine xt_cS _ dX0_lookAhead_23 klX0_66 (ih (!true) now wd hnow hwd (by omega)) rfl rfl (Nat.le_of_ble_eq_true rfl) ?_
      refine xt_istore dX0_lookAhead_26 (by decide) rfl ?_
      change x_T _ _ _ _ [_, _, _, _, _, _, _, _] _ _ _ _
      refine xt_iload_n _ dX0_lookAhead_28 rfl ?_
      refine xt_if_eq 36 dX0_lookAhead_29 (by decide) (fun q => absurd q (by decide)) (fun _ => ?_)
      refine xt_iload_n _ dX0_lookAhead_32 rfl ?_
      refine xt_goto 41 dX0_lookAhead_33 (by decide) ?_
      refine xt_istore dX0_lookAhead_41 (by decide) rfl ?_
      change x_T _ _ _ _ [_, _, _, _, _, _, _, _] _ _ _ _
      refine xt_iconst (0) dX0_lookAhead_43 (by decide) ?_
      refine xt_istore dX0_lookAhead_44 (by decide) rfl ?_
      change x_T _ _ _ _ [_, _, _, _, _, _, _, _] _ _ _ _
      have L46 : ∀ (n46 g : Nat) (v7 : Value), g + n46 = 8 → x_T sc (d + n + 1 + 1) mX0_lookAhead 46 [.int (nI (n + 1)), .int 1, .int (nI now), .int (nI wd), .int (nI (s_lf (fun g => if true then s_la n false (s_clr now g) (s_clr wd g) else s_la n true (now ||| 2 ^ g) wd) true now wd (s_la n (!true) now wd) g)), .int (nI wd), .int (nI g), v7] [] μ w (x_p (some (.int (nI (s_la (n + 1) true now wd)))) μ w) := by
        intro n46
        induction n46 with
        | zero =>
          intro g v7 hmn
          obtain rfl : 8 = g := by omega
          refine xt_iload _ dX0_lookAhead_46 rfl ?_
          refine xt_bipush (8) dX0_lookAhead_48 (by decide) ?_
          refine xt_icmp_ge 128 dX0_lookAhead_50 (by decide) (fun _ => ?_) (fun q => absurd (by decide) q)
          refine xt_iload _ dX0_lookAhead_128 rfl ?_
          exact xt_iret .int dX0_lookAhead_130 rfl (by first | rfl | assumption) ⟨rfl, rfl, rfl⟩
        | succ n46 ih46 =>
          intro g v7 hmn
          have hlt_g : g < 8 := by omega
          have hl1 : (s_lf (fun g => if true then s_la n false (s_clr now g) (s_clr wd g) else s_la n true (now ||| 2 ^ g) wd) true now wd (s_la n (!true) now wd) g) ≤ 8 := s_lf_le (fun g => by show (if true then s_la n false (s_clr now g) (s_clr wd g) else s_la n true (now ||| 2 ^ g) wd) ≤ 8; split <;> exact s_la_le n _ _ _) (s_la_le n _ now wd) g
          have hl2 : s_la n false (s_clr now g) (s_clr wd g) ≤ 8 := s_la_le n _ _ _
          refine xt_iload _ dX0_lookAhead_46 rfl ?_
          refine xt_bipush (8) dX0_lookAhead_48 (by decide) ?_
          refine xt_icmp_ge 128 dX0_lookAhead_50 (by decide) (fun q => absurd q (nI_ge (b := 8) hlt_g (by decide))) (fun _ => ?_)
          refine xt_iconst (1) dX0_lookAhead_53 (by decide) ?_
          refine xt_iload _ dX0_lookAhead_54 rfl ?_
          refine xt_ishl dX0_lookAhead_56 ?_
          refine xt_istore dX0_lookAhead_57 (by decide) rfl ?_
          change x_T _ _ _ _ [_, _, _, _, _, _, _, _] _ _ _ _
          refine xt_iload _ dX0_lookAhead_59 rfl ?_
          refine xt_iload _ dX0_lookAhead_61 rfl ?_
          refine xt_iand dX0_lookAhead_63 ?_
          refine xt_if_ne 70 dX0_lookAhead_64 (by decide) (fun t64 => ?_) (fun f64 => ?_)
          · refine xt_iload_n _ dX0_lookAhead_70 rfl ?_
            refine xt_if_eq 103 dX0_lookAhead_71 (by decide) (fun q => absurd q (by decide)) (fun _ => ?_)
            refine xt_iload _ dX0_lookAhead_74 rfl ?_
            refine xt_iload_n _ dX0_lookAhead_76 rfl ?_
            refine xt_iconst (1) dX0_lookAhead_77 (by decide) ?_
            refine xt_isub dX0_lookAhead_78 ?_
            refine xt_iconst (0) dX0_lookAhead_79 (by decide) ?_
            refine xt_iload_n _ dX0_lookAhead_80 rfl ?_
            refine xt_iload _ dX0_lookAhead_81 rfl ?_
            refine xt_iconst (-1) dX0_lookAhead_83 (by decide) ?_
            refine xt_ixor dX0_lookAhead_84 ?_
            refine xt_iand dX0_lookAhead_85 ?_
            refine xt_iload_n _ dX0_lookAhead_86 rfl ?_
            refine xt_iload _ dX0_lookAhead_87 rfl ?_
            refine xt_iconst (-1) dX0_lookAhead_89 (by decide) ?_
            refine xt_ixor dX0_lookAhead_90 ?_
            refine xt_iand dX0_lookAhead_91 ?_
            rw [show nI (n + 1) - (1 : Int32) = nI n from pk_sub (a := n + 1) (b := 1) (by omega)]
            rw [s_clrI now hnow g (by omega), s_clrI wd hwd g (by omega)]
            refine xt_cS _ dX0_lookAhead_92 klX0_66 (ih false (s_clr now g) (s_clr wd g) (s_clr_lt hnow) (s_clr_lt hwd) (by omega)) rfl rfl (Nat.le_of_ble_eq_true rfl) ?_
            refine xt_mmin dX0_lookAhead_95 kmX0_75 (Nat.le_of_ble_eq_true rfl) ?_
            rw [s_min_nI (by omega) (by omega)]
            refine xt_istore dX0_lookAhead_98 (by decide) rfl ?_
            change x_T _ _ _ _ [_, _, _, _, _, _, _, _] _ _ _ _
            refine xt_goto 122 dX0_lookAhead_100 (by decide) ?_
            refine xt_inc _ (1) dX0_lookAhead_122 rfl (by decide) (by decide) rfl ?_
            change x_T _ _ _ _ [_, _, _, _, _, _, _, _] _ _ _ _
            refine xt_goto 46 dX0_lookAhead_125 (by decide) ?_
            have ap : s_apt true now wd g = true := by
              show (wd.testBit g && (true || !now.testBit g)) = true
              rw [Bool.true_or, Bool.and_true]; cases hq : wd.testBit g
              · exact absurd ((s_ab1 wd hwd g (by omega)).mpr hq) t64
              · rfl
            have es : (s_lf (fun g => if true then s_la n false (s_clr now g) (s_clr wd g) else s_la n true (now ||| 2 ^ g) wd) true now wd (s_la n (!true) now wd) (g + 1)) = min (s_lf (fun g => if true then s_la n false (s_clr now g) (s_clr wd g) else s_la n true (now ||| 2 ^ g) wd) true now wd (s_la n (!true) now wd) g) (s_la n false (s_clr now g) (s_clr wd g)) := by
              rw [s_lf, if_pos ap]; rfl
            refine x_T.ls ?_ (ih46 (g + 1) (.int ((1 : Int32) <<< (nI g &&& 31))) (by omega))
            rw [es, nI_succ g]
          · refine xt_goto 122 dX0_lookAhead_67 (by decide) ?_
            refine xt_inc _ (1) dX0_lookAhead_122 rfl (by decide) (by decide) rfl ?_
            change x_T _ _ _ _ [_, _, _, _, _, _, _, _] _ _ _ _
            refine xt_goto 46 dX0_lookAhead_125 (by decide) ?_
            have ap : s_apt true now wd g = false := by
              show (wd.testBit g && (true || !now.testBit g)) = false
              rw [Bool.true_or, Bool.and_true]; exact (s_ab1 wd hwd g (by omega)).mp f64
            have es : (s_lf (fun g => if true then s_la n false (s_clr now g) (s_clr wd g) else s_la n true (now ||| 2 ^ g) wd) true now wd (s_la n (!true) now wd) (g + 1)) = (s_lf (fun g => if true then s_la n false (s_clr now g) (s_clr wd g) else s_la n true (now ||| 2 ^ g) wd) true now wd (s_la n (!true) now wd) g) := by
              rw [s_lf, ap, if_neg (by decide)]
            refine x_T.ls ?_ (ih46 (g + 1) (.int ((1 : Int32) <<< (nI g &&& 31))) (by omega))
            rw [es, nI_succ g]
      exact L46 8 0 _ (by omega)
end TURNS
