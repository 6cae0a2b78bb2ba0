/-! the step of after -/
theorem s_gr_z {a : Nat} (h : a < 2 ^ 31) : s_gr (nI a) 0 = nI a := by
  rw [show (0 : Int32) = nI 0 from rfl, s_gr_nI h (by decide), Nat.max_eq_left (Nat.zero_le _)]
theorem s_ad_1 {σ : s_St} {D : Nat → Int32} {m : Nat} (hs : s_dd D m 0 = 1) (hb : (s_ad σ D m).1 = true) : (s_ad σ D m).2 = (s_up σ.1 2 0, σ.2) := by
  have e : s_ad σ D m = s_fit σ := by unfold s_ad s_act; rw [hs]; rfl
  rw [e] at hb ⊢
  unfold s_fit at hb ⊢
  by_cases h : σ.1 2 = 0
  · rw [if_pos h] at hb; exact absurd hb (by simp)
  · rw [if_neg h]
theorem s_ad_g {σ : s_St} {D : Nat → Int32} {m s : Nat} (hs : s_dd D m 0 = s) (h2 : 2 ≤ s) (hb : (s_ad σ D m).1 = true) : s_dd D m 1 < σ.1 4 := by
  apply Classical.byContradiction
  intro z
  unfold s_ad s_act at hb
  rw [hs, if_neg (by omega), if_neg (by omega), if_pos z] at hb
  exact absurd hb (by simp)
theorem s_ad_2 {σ : s_St} {D : Nat → Int32} {m : Nat} (hs : s_dd D m 0 = 2) (hb : (s_ad σ D m).1 = true) : (s_ad σ D m).2 = (σ.1, s_ac σ.2 (s_dd D m 1) (s_off σ.1 (fun _ => false) 0 (s_dd D m 1))) := by
  have hg := s_ad_g hs (by decide) hb
  unfold s_ad s_act
  rw [hs, if_neg (by decide), if_neg (by decide), if_neg (fun z => z hg), if_pos rfl]; rfl
theorem s_ad_4 {σ : s_St} {D : Nat → Int32} {m : Nat} (hs : s_dd D m 0 = 4) (hb : (s_ad σ D m).1 = true) : (s_ad σ D m).2 = (s_up σ.1 (41 + (6 * (s_dd D m 1) + (s_dd D m 2))) (σ.1 (41 + (6 * (s_dd D m 1) + (s_dd D m 2))) - (s_dd D m 3)), s_up σ.2 10 (σ.2 10 + (s_dd D m 3))) := by
  have hg := s_ad_g hs (by decide) hb
  have e : s_ad σ D m = s_mnd σ (s_dd D m 1) (s_dd D m 2) (s_dd D m 3) := by
    unfold s_ad s_act
    rw [hs, if_neg (by decide), if_neg (by decide), if_neg (fun z => z hg), if_neg (by decide), if_neg (by decide), if_pos rfl]
  rw [e] at hb ⊢
  unfold s_mnd at hb ⊢
  by_cases h : σ.1 (41 + (6 * s_dd D m 1 + s_dd D m 2)) < s_dd D m 3
  · rw [if_pos h] at hb; exact absurd hb (by simp)
  · rw [if_neg h]
theorem s_ad_5 {σ : s_St} {D : Nat → Int32} {m : Nat} (hs : s_dd D m 0 = 5) (hb : (s_ad σ D m).1 = true) : (s_ad σ D m).2 = (s_up σ.1 (41 + (6 * (s_dd D m 1) + (s_dd D m 2))) (σ.1 (41 + (6 * (s_dd D m 1) + (s_dd D m 2))) + (s_dd D m 3)), s_up σ.2 11 (σ.2 11 + (s_dd D m 3))) := by
  have hg := s_ad_g hs (by decide) hb
  have e : s_ad σ D m = s_dow σ (s_dd D m 1) (s_dd D m 2) (s_dd D m 3) := by
    unfold s_ad s_act
    rw [hs, if_neg (by decide), if_neg (by decide), if_neg (fun z => z hg), if_neg (by decide), if_neg (by decide), if_neg (by decide)]
  rw [e] at hb ⊢
  unfold s_dow at hb ⊢
  by_cases h : 9 < σ.1 (41 + (6 * s_dd D m 1 + s_dd D m 2)) + s_dd D m 3
  · rw [if_pos h] at hb; exact absurd hb (by simp)
  · rw [if_neg h]
section AFTER
variable (sc : Nat × (Nat → Int32)) (d : Nat) (μ : x_Me) (w : Int64)
set_option maxHeartbeats 8000000 in
theorem x_after (f : Nat) (σ0 : s_St) (hok0 : s_ok σ0) (hm0 : m_St μ f σ0) (fd n : Nat) (D : Nat → Int32) (hfd : fd < 2) (hWd : d_W n D) (hd : μ 152 40 = nI fd) (hM : d_M μ fd n D) (a1 a2 a3 : Int32) (P : Option Value → x_Me → Int64 → Prop) (hK : ∀ (μ2 : x_Me) (w2 : Int64) (v11 v12 v13 v14 v15 : Value), m_fr μ μ2 → x_T sc (d + 8) mX12_after 307 [.ref 152, .int a1, .int a2, .int a3, .int (eI ((s_go D n 0 σ0).2.2 4)), .int (nI ((s_go D n 0 σ0).2.2 6)), .int (nI ((s_go D n 0 σ0).2.2 5)), .int (nI ((s_go D n 0 σ0).2.2 10)), .int (nI ((s_go D n 0 σ0).2.2 11)), .int (nI ((s_go D n 0 σ0).2.2 9)), .int (nI ((s_go D n 0 σ0).2.2 12)), v11, v12, v13, v14, v15] [] μ2 w2 P) :
    ∀ (k m : Nat) (μ2 : x_Me) (w2 : Int64) (σ : s_St) (v13 v14 v15 : Value), m + k = n → s_ok σ → m_St μ2 f σ → m_fr μ μ2 → s_go D k m σ = (s_go D n 0 σ0) → x_T sc (d + 8) mX12_after 53 [.ref 152, .int a1, .int a2, .int a3, .int (eI (σ.2 4)), .int (nI (σ.2 6)), .int (nI (σ.2 5)), .int (nI (σ.2 10)), .int (nI (σ.2 11)), .int (nI (σ.2 9)), .int (nI (σ.2 12)), .int 1, .int (nI m), v13, v14, v15] [] μ2 w2 P := by
  have hn40 := hWd.1
  intro k
  induction k with
  | zero =>
    intro m μ2 w2 σ v13 v14 v15 hmn hok hm hf hR
    have hd2 : μ2 152 40 = nI fd := hf.2.1.trans hd
    have hM2 : d_M μ2 fd n D := fun i hi => by rw [hf.1 159 (by decide) (by decide) (by decide) (by decide)]; exact hM i hi
    obtain rfl : n = m := by omega
    refine xt_iload _ dX12_after_53 rfl ?_
    refine xt_if_eq 307 dX12_after_55 (by decide) (fun q => absurd q (by decide)) (fun _ => ?_)
    refine xt_iload _ dX12_after_58 rfl ?_
    refine xt_aload_n _ dX12_after_60 rfl ?_
    refine xt_cV _ dX12_after_61 klX12_316 (tX12_deeds sc _ μ2 _ fd n D hfd hd2 hM2) sh152 rfl rfl (Nat.le_of_ble_eq_true rfl) ?_
    rw [hWd.2.1]
    refine xt_icmp_ge 307 dX12_after_64 (by decide) (fun _ => ?_) (fun q => absurd (Int32.le_refl _) q)
    have he : σ = (s_go D n 0 σ0).2 := by rw [← hR]; rfl
    rw [he]
    exact hK _ _ _ _ _ _ _ hf
  | succ k ih =>
    intro m μ2 w2 σ v13 v14 v15 hmn hok hm hf hR
    have hlt : m < n := by omega
    have hd2 : μ2 152 40 = nI fd := hf.2.1.trans hd
    have hM2 : d_M μ2 fd n D := fun i hi => by rw [hf.1 159 (by decide) (by decide) (by decide) (by decide)]; exact hM i hi
    have hW : f_W σ.1 := hok.1
    have h8 : σ.1 4 ≤ 8 := hW.1.2.2.2.2.1
    have hS : m_S μ2 f σ.1 := hm.1
    have hok2 := hok
    obtain ⟨_, o1, o5, o6, o12, o4, o3⟩ := hok2
    obtain ⟨e0, hs5, hq3, hq4⟩ := s_dq hWd hlt
    have hs' : s_dd D m 0 = 0 ∨ s_dd D m 0 = 1 ∨ s_dd D m 0 = 2 ∨ s_dd D m 0 = 3 ∨ s_dd D m 0 = 4 ∨ s_dd D m 0 = 5
      := by omega
    rcases hs' with hs | hs | hs | hs | hs | hs
    · skip
      by_cases hb : (s_ad σ D m).1 = true
      · have h99 : σ.2 1 < 99 := by
          apply Classical.byContradiction
          intro z
          unfold s_ad s_act at hb
          rw [if_pos hs, s_tune, if_neg z] at hb
          exact absurd hb (by simp)
        cases hst : s_stops σ
        · have heq : (s_ad σ D m).2 = (σ.1, s_tcc σ.2 false) := by unfold s_ad s_act; rw [if_pos hs, s_tune, if_pos h99, hst]
          refine xt_iload _ dX12_after_53 rfl ?_
          refine xt_if_eq 307 dX12_after_55 (by decide) (fun q => absurd q (by decide)) (fun _ => ?_)
          refine xt_iload _ dX12_after_58 rfl ?_
          refine xt_aload_n _ dX12_after_60 rfl ?_
          refine xt_cV _ dX12_after_61 klX12_316 (tX12_deeds sc _ μ2 _ fd n D hfd hd2 hM2) sh152 rfl rfl (Nat.le_of_ble_eq_true rfl) ?_
          rw [hWd.2.1]
          refine xt_icmp_ge 307 dX12_after_64 (by decide) (fun q => absurd q (nI_ge hlt (by omega))) (fun _ => ?_)
          refine xt_aload_n _ dX12_after_67 rfl ?_
          refine xt_iload _ dX12_after_68 rfl ?_
          refine xt_iconst (0) dX12_after_70 (by decide) ?_
          refine xt_cV _ dX12_after_71 klX12_319 (tX12_deedOf sc _ μ2 _ fd n D hfd hWd.1 hd2 hM2 m 0 hlt (by decide)) sh152 rfl rfl (Nat.le_of_ble_eq_true rfl) ?_
          rw [e0, hs]
          change x_T _ _ _ _ _ (.int (nI 0) :: _) _ _ _
          refine xt_istore dX12_after_74 (by decide) rfl ?_
          change x_T _ _ _ _ [_, _, _, _, _, _, _, _, _, _, _, _, _, _, _, _] _ _ _ _
          refine xt_aload_n _ dX12_after_76 rfl ?_
          refine xt_iload _ dX12_after_77 rfl ?_
          refine xt_iconst (1) dX12_after_79 (by decide) ?_
          refine xt_cV _ dX12_after_80 klX12_319 (tX12_deedOf sc _ μ2 _ fd n D hfd hWd.1 hd2 hM2 m 1 hlt (by decide)) sh152 rfl rfl (Nat.le_of_ble_eq_true rfl) ?_
          refine xt_istore dX12_after_83 (by decide) rfl ?_
          change x_T _ _ _ _ [_, _, _, _, _, _, _, _, _, _, _, _, _, _, _, _] _ _ _ _
          refine xt_iload _ dX12_after_85 rfl ?_
          refine xt_iconst (3) dX12_after_87 (by decide) ?_
          refine xt_icmp_ne 134 dX12_after_88 (by decide) (fun _ => ?_) (fun q => absurd q (by decide))
          refine xt_iconst (0) dX12_after_134 (by decide) ?_
          refine xt_istore dX12_after_135 (by decide) rfl ?_
          change x_T _ _ _ _ [_, _, _, _, _, _, _, _, _, _, _, _, _, _, _, _] _ _ _ _
          refine xt_aload_n _ dX12_after_137 rfl ?_
          refine xt_iload _ dX12_after_138 rfl ?_
          refine xt_callV _ dX12_after_140 klX12_341 (tX12_doesDeed sc _ μ2 _ f σ hok hm fd n D hfd hWd hd2 hM2 m hlt) sh152 rfl rfl (Nat.le_of_ble_eq_true rfl) (fun r3 μ3 w3 q3 => ?_)
          obtain ⟨rfl, hm3, hf3⟩ := q3
          change x_T _ _ _ _ _ (.int (if (s_ad σ D m).1 then 1 else 0) :: _) _ _ _
          rw [hb]
          change x_T _ _ _ _ _ (.int 1 :: _) _ _ _
          have ht31 : μ3 152 31 = 0 := by rw [hm3.2.1.2.2.1, heq]; show eI 1 = _; decide
          have ht29 : μ3 152 29 = nI (σ.2 1 + 1) := by rw [hm3.2.1.1, heq]; rfl
          have hd3 : μ3 152 40 = nI fd := hf3.2.1.trans hd2
          have hM3 : d_M μ3 fd n D := fun i hi => by rw [hf3.1 159 (by decide) (by decide) (by decide) (by decide)]; exact hM2 i hi
          refine xt_istore dX12_after_143 (by decide) rfl ?_
          change x_T _ _ _ _ [_, _, _, _, _, _, _, _, _, _, _, _, _, _, _, _] _ _ _ _
          refine xt_iload _ dX12_after_145 rfl ?_
          refine xt_if_eq 160 dX12_after_147 (by decide) (fun q => absurd q (by decide)) (fun _ => ?_)
          refine xt_iload _ dX12_after_150 rfl ?_
          refine xt_iload _ dX12_after_152 rfl ?_
          refine xt_cS _ dX12_after_154 klX12_153 (tX12_greater sc _ _ _ _ _) rfl rfl (Nat.le_of_ble_eq_true rfl) ?_
          refine xt_goto 162 dX12_after_157 (by decide) ?_
          refine xt_istore dX12_after_162 (by decide) rfl ?_
          change x_T _ _ _ _ [_, _, _, _, _, _, _, _, _, _, _, _, _, _, _, _] _ _ _ _
          refine xt_iload _ dX12_after_164 rfl ?_
          refine xt_iload _ dX12_after_166 rfl ?_
          refine xt_if_eq 187 dX12_after_168 (by decide) (fun q => absurd q (by decide)) (fun _ => ?_)
          refine xt_iload _ dX12_after_171 rfl ?_
          refine xt_iconst (4) dX12_after_173 (by decide) ?_
          refine xt_icmp_ne 187 dX12_after_174 (by decide) (fun _ => ?_) (fun q => absurd q (by decide))
          refine xt_iconst (0) dX12_after_187 (by decide) ?_
          refine xt_iadd dX12_after_188 ?_
          refine xt_istore dX12_after_189 (by decide) rfl ?_
          change x_T _ _ _ _ [_, _, _, _, _, _, _, _, _, _, _, _, _, _, _, _] _ _ _ _
          refine xt_iload _ dX12_after_191 rfl ?_
          refine xt_iload _ dX12_after_193 rfl ?_
          refine xt_if_eq 214 dX12_after_195 (by decide) (fun q => absurd q (by decide)) (fun _ => ?_)
          refine xt_iload _ dX12_after_198 rfl ?_
          refine xt_iconst (5) dX12_after_200 (by decide) ?_
          refine xt_icmp_ne 214 dX12_after_201 (by decide) (fun _ => ?_) (fun q => absurd q (by decide))
          refine xt_iconst (0) dX12_after_214 (by decide) ?_
          refine xt_iadd dX12_after_215 ?_
          refine xt_istore dX12_after_216 (by decide) rfl ?_
          change x_T _ _ _ _ [_, _, _, _, _, _, _, _, _, _, _, _, _, _, _, _] _ _ _ _
          refine xt_iload _ dX12_after_218 rfl ?_
          refine xt_iload _ dX12_after_220 rfl ?_
          refine xt_if_eq 235 dX12_after_222 (by decide) (fun q => absurd q (by decide)) (fun _ => ?_)
          refine xt_iload _ dX12_after_225 rfl ?_
          refine xt_iconst (2) dX12_after_227 (by decide) ?_
          refine xt_icmp_ne 235 dX12_after_228 (by decide) (fun _ => ?_) (fun q => absurd q (by decide))
          refine xt_iconst (0) dX12_after_235 (by decide) ?_
          refine xt_iadd dX12_after_236 ?_
          refine xt_istore dX12_after_237 (by decide) rfl ?_
          change x_T _ _ _ _ [_, _, _, _, _, _, _, _, _, _, _, _, _, _, _, _] _ _ _ _
          refine xt_iload _ dX12_after_239 rfl ?_
          refine xt_if_eq 301 dX12_after_241 (by decide) (fun q => absurd q (by decide)) (fun _ => ?_)
          refine xt_iload _ dX12_after_244 rfl ?_
          refine xt_if_ne 301 dX12_after_246 (by decide) (fun q => absurd (by decide) q) (fun _ => ?_)
          refine xt_iload _ dX12_after_249 rfl ?_
          refine xt_iconst (-1) dX12_after_251 (by decide) ?_
          refine xt_icmp_ne 270 dX12_after_252 (by decide) (fun t252 => ?_) (fun f252 => ?_)
          · refine xt_iload _ dX12_after_270 rfl ?_
            refine xt_istore dX12_after_272 (by decide) rfl ?_
            change x_T _ _ _ _ [_, _, _, _, _, _, _, _, _, _, _, _, _, _, _, _] _ _ _ _
            refine xt_aload_n _ dX12_after_274 rfl ?_
            refine xt_geti dX12_after_275 kfX12_272 sh152 rfl ?_
            rw [ht31]
            change x_T _ _ _ _ _ (.int 0 :: _) _ _ _
            refine xt_iconst (1) dX12_after_278 (by decide) ?_
            refine xt_icmp_ne 286 dX12_after_279 (by decide) (fun _ => ?_) (fun q => absurd q (by decide))
            refine xt_iload _ dX12_after_286 rfl ?_
            refine xt_iconst (1) dX12_after_288 (by decide) ?_
            refine xt_iadd dX12_after_289 ?_
            refine xt_istore dX12_after_290 (by decide) rfl ?_
            change x_T _ _ _ _ [_, _, _, _, _, _, _, _, _, _, _, _, _, _, _, _] _ _ _ _
            refine xt_iload _ dX12_after_292 rfl ?_
            refine xt_iload _ dX12_after_294 rfl ?_
            refine xt_cS _ dX12_after_296 klX12_153 (tX12_greater sc _ _ _ _ _) rfl rfl (Nat.le_of_ble_eq_true rfl) ?_
            refine xt_istore dX12_after_299 (by decide) rfl ?_
            change x_T _ _ _ _ [_, _, _, _, _, _, _, _, _, _, _, _, _, _, _, _] _ _ _ _
            refine xt_inc _ (1) dX12_after_301 rfl (by decide) (by decide) rfl ?_
            change x_T _ _ _ _ [_, _, _, _, _, _, _, _, _, _, _, _, _, _, _, _] _ _ _ _
            refine xt_goto 53 dX12_after_304 (by decide) ?_
            refine x_T.ls ?_ (ih (m + 1) μ3 w3 (s_ad σ D m).2 (.int (nI 0)) (.int (D (1 + (4 * m + 1)))) (.int 0) (by omega) (s_ad_ok hWd hlt hok) hm3 (hf.tr hf3) (by rw [← hR, s_go, if_pos hb]))
            rw [heq]
            show _ = [_, _, _, _, Value.int (eI (s_tcc σ.2 false 4)), Value.int (nI (s_tcc σ.2 false 6)), Value.int (nI (s_tcc σ.2 false 5)), Value.int (nI (σ.2 10)), Value.int (nI (σ.2 11)), Value.int (nI (σ.2 9)), Value.int (nI (σ.2 12)), _, _, _, _, _]
            rw [show s_tcc σ.2 false 4 = σ.2 4 from rfl, show s_tcc σ.2 false 6 = max (σ.2 6) (σ.2 5 + 1) from rfl, show s_tcc σ.2 false 5 = σ.2 5 + 1 from rfl, ← nI_succ, s_gr_nI (by omega) (by omega), nI_succ m, Int32.add_zero, Int32.add_zero, Int32.add_zero, show s_gr (nI (σ.2 12)) 0 = nI (σ.2 12) from s_gr_z (by omega)]
          · refine xt_aload_n _ dX12_after_255 rfl ?_
            refine xt_geti dX12_after_256 kfX12_272 sh152 rfl ?_
            rw [ht31]
            change x_T _ _ _ _ _ (.int 0 :: _) _ _ _
            refine xt_iconst (1) dX12_after_259 (by decide) ?_
            refine xt_icmp_ne 270 dX12_after_260 (by decide) (fun _ => ?_) (fun q => absurd q (by decide))
            refine xt_iload _ dX12_after_270 rfl ?_
            refine xt_istore dX12_after_272 (by decide) rfl ?_
            change x_T _ _ _ _ [_, _, _, _, _, _, _, _, _, _, _, _, _, _, _, _] _ _ _ _
            refine xt_aload_n _ dX12_after_274 rfl ?_
            refine xt_geti dX12_after_275 kfX12_272 sh152 rfl ?_
            rw [ht31]
            change x_T _ _ _ _ _ (.int 0 :: _) _ _ _
            refine xt_iconst (1) dX12_after_278 (by decide) ?_
            refine xt_icmp_ne 286 dX12_after_279 (by decide) (fun _ => ?_) (fun q => absurd q (by decide))
            refine xt_iload _ dX12_after_286 rfl ?_
            refine xt_iconst (1) dX12_after_288 (by decide) ?_
            refine xt_iadd dX12_after_289 ?_
            refine xt_istore dX12_after_290 (by decide) rfl ?_
            change x_T _ _ _ _ [_, _, _, _, _, _, _, _, _, _, _, _, _, _, _, _] _ _ _ _
            refine xt_iload _ dX12_after_292 rfl ?_
            refine xt_iload _ dX12_after_294 rfl ?_
            refine xt_cS _ dX12_after_296 klX12_153 (tX12_greater sc _ _ _ _ _) rfl rfl (Nat.le_of_ble_eq_true rfl) ?_
            refine xt_istore dX12_after_299 (by decide) rfl ?_
            change x_T _ _ _ _ [_, _, _, _, _, _, _, _, _, _, _, _, _, _, _, _] _ _ _ _
            refine xt_inc _ (1) dX12_after_301 rfl (by decide) (by decide) rfl ?_
            change x_T _ _ _ _ [_, _, _, _, _, _, _, _, _, _, _, _, _, _, _, _] _ _ _ _
            refine xt_goto 53 dX12_after_304 (by decide) ?_
            refine x_T.ls ?_ (ih (m + 1) μ3 w3 (s_ad σ D m).2 (.int (nI 0)) (.int (D (1 + (4 * m + 1)))) (.int 0) (by omega) (s_ad_ok hWd hlt hok) hm3 (hf.tr hf3) (by rw [← hR, s_go, if_pos hb]))
            rw [heq]
            show _ = [_, _, _, _, Value.int (eI (s_tcc σ.2 false 4)), Value.int (nI (s_tcc σ.2 false 6)), Value.int (nI (s_tcc σ.2 false 5)), Value.int (nI (σ.2 10)), Value.int (nI (σ.2 11)), Value.int (nI (σ.2 9)), Value.int (nI (σ.2 12)), _, _, _, _, _]
            rw [show s_tcc σ.2 false 4 = σ.2 4 from rfl, show s_tcc σ.2 false 6 = max (σ.2 6) (σ.2 5 + 1) from rfl, show s_tcc σ.2 false 5 = σ.2 5 + 1 from rfl, ← nI_succ, s_gr_nI (by omega) (by omega), nI_succ m, Int32.add_zero, Int32.add_zero, Int32.add_zero, show s_gr (nI (σ.2 12)) 0 = nI (σ.2 12) from s_gr_z (by omega)]
        · have heq : (s_ad σ D m).2 = (σ.1, s_tcc σ.2 true) := by unfold s_ad s_act; rw [if_pos hs, s_tune, if_pos h99, hst]
          refine xt_iload _ dX12_after_53 rfl ?_
          refine xt_if_eq 307 dX12_after_55 (by decide) (fun q => absurd q (by decide)) (fun _ => ?_)
          refine xt_iload _ dX12_after_58 rfl ?_
          refine xt_aload_n _ dX12_after_60 rfl ?_
          refine xt_cV _ dX12_after_61 klX12_316 (tX12_deeds sc _ μ2 _ fd n D hfd hd2 hM2) sh152 rfl rfl (Nat.le_of_ble_eq_true rfl) ?_
          rw [hWd.2.1]
          refine xt_icmp_ge 307 dX12_after_64 (by decide) (fun q => absurd q (nI_ge hlt (by omega))) (fun _ => ?_)
          refine xt_aload_n _ dX12_after_67 rfl ?_
          refine xt_iload _ dX12_after_68 rfl ?_
          refine xt_iconst (0) dX12_after_70 (by decide) ?_
          refine xt_cV _ dX12_after_71 klX12_319 (tX12_deedOf sc _ μ2 _ fd n D hfd hWd.1 hd2 hM2 m 0 hlt (by decide)) sh152 rfl rfl (Nat.le_of_ble_eq_true rfl) ?_
          rw [e0, hs]
          change x_T _ _ _ _ _ (.int (nI 0) :: _) _ _ _
          refine xt_istore dX12_after_74 (by decide) rfl ?_
          change x_T _ _ _ _ [_, _, _, _, _, _, _, _, _, _, _, _, _, _, _, _] _ _ _ _
          refine xt_aload_n _ dX12_after_76 rfl ?_
          refine xt_iload _ dX12_after_77 rfl ?_
          refine xt_iconst (1) dX12_after_79 (by decide) ?_
          refine xt_cV _ dX12_after_80 klX12_319 (tX12_deedOf sc _ μ2 _ fd n D hfd hWd.1 hd2 hM2 m 1 hlt (by decide)) sh152 rfl rfl (Nat.le_of_ble_eq_true rfl) ?_
          refine xt_istore dX12_after_83 (by decide) rfl ?_
          change x_T _ _ _ _ [_, _, _, _, _, _, _, _, _, _, _, _, _, _, _, _] _ _ _ _
          refine xt_iload _ dX12_after_85 rfl ?_
          refine xt_iconst (3) dX12_after_87 (by decide) ?_
          refine xt_icmp_ne 134 dX12_after_88 (by decide) (fun _ => ?_) (fun q => absurd q (by decide))
          refine xt_iconst (0) dX12_after_134 (by decide) ?_
          refine xt_istore dX12_after_135 (by decide) rfl ?_
          change x_T _ _ _ _ [_, _, _, _, _, _, _, _, _, _, _, _, _, _, _, _] _ _ _ _
          refine xt_aload_n _ dX12_after_137 rfl ?_
          refine xt_iload _ dX12_after_138 rfl ?_
          refine xt_callV _ dX12_after_140 klX12_341 (tX12_doesDeed sc _ μ2 _ f σ hok hm fd n D hfd hWd hd2 hM2 m hlt) sh152 rfl rfl (Nat.le_of_ble_eq_true rfl) (fun r3 μ3 w3 q3 => ?_)
          obtain ⟨rfl, hm3, hf3⟩ := q3
          change x_T _ _ _ _ _ (.int (if (s_ad σ D m).1 then 1 else 0) :: _) _ _ _
          rw [hb]
          change x_T _ _ _ _ _ (.int 1 :: _) _ _ _
          have ht31 : μ3 152 31 = 1 := by rw [hm3.2.1.2.2.1, heq]; show eI 2 = _; decide
          have ht29 : μ3 152 29 = nI (σ.2 1 + 1) := by rw [hm3.2.1.1, heq]; rfl
          have hd3 : μ3 152 40 = nI fd := hf3.2.1.trans hd2
          have hM3 : d_M μ3 fd n D := fun i hi => by rw [hf3.1 159 (by decide) (by decide) (by decide) (by decide)]; exact hM2 i hi
          refine xt_istore dX12_after_143 (by decide) rfl ?_
          change x_T _ _ _ _ [_, _, _, _, _, _, _, _, _, _, _, _, _, _, _, _] _ _ _ _
          refine xt_iload _ dX12_after_145 rfl ?_
          refine xt_if_eq 160 dX12_after_147 (by decide) (fun q => absurd q (by decide)) (fun _ => ?_)
          refine xt_iload _ dX12_after_150 rfl ?_
          refine xt_iload _ dX12_after_152 rfl ?_
          refine xt_cS _ dX12_after_154 klX12_153 (tX12_greater sc _ _ _ _ _) rfl rfl (Nat.le_of_ble_eq_true rfl) ?_
          refine xt_goto 162 dX12_after_157 (by decide) ?_
          refine xt_istore dX12_after_162 (by decide) rfl ?_
          change x_T _ _ _ _ [_, _, _, _, _, _, _, _, _, _, _, _, _, _, _, _] _ _ _ _
          refine xt_iload _ dX12_after_164 rfl ?_
          refine xt_iload _ dX12_after_166 rfl ?_
          refine xt_if_eq 187 dX12_after_168 (by decide) (fun q => absurd q (by decide)) (fun _ => ?_)
          refine xt_iload _ dX12_after_171 rfl ?_
          refine xt_iconst (4) dX12_after_173 (by decide) ?_
          refine xt_icmp_ne 187 dX12_after_174 (by decide) (fun _ => ?_) (fun q => absurd q (by decide))
          refine xt_iconst (0) dX12_after_187 (by decide) ?_
          refine xt_iadd dX12_after_188 ?_
          refine xt_istore dX12_after_189 (by decide) rfl ?_
          change x_T _ _ _ _ [_, _, _, _, _, _, _, _, _, _, _, _, _, _, _, _] _ _ _ _
          refine xt_iload _ dX12_after_191 rfl ?_
          refine xt_iload _ dX12_after_193 rfl ?_
          refine xt_if_eq 214 dX12_after_195 (by decide) (fun q => absurd q (by decide)) (fun _ => ?_)
          refine xt_iload _ dX12_after_198 rfl ?_
          refine xt_iconst (5) dX12_after_200 (by decide) ?_
          refine xt_icmp_ne 214 dX12_after_201 (by decide) (fun _ => ?_) (fun q => absurd q (by decide))
          refine xt_iconst (0) dX12_after_214 (by decide) ?_
          refine xt_iadd dX12_after_215 ?_
          refine xt_istore dX12_after_216 (by decide) rfl ?_
          change x_T _ _ _ _ [_, _, _, _, _, _, _, _, _, _, _, _, _, _, _, _] _ _ _ _
          refine xt_iload _ dX12_after_218 rfl ?_
          refine xt_iload _ dX12_after_220 rfl ?_
          refine xt_if_eq 235 dX12_after_222 (by decide) (fun q => absurd q (by decide)) (fun _ => ?_)
          refine xt_iload _ dX12_after_225 rfl ?_
          refine xt_iconst (2) dX12_after_227 (by decide) ?_
          refine xt_icmp_ne 235 dX12_after_228 (by decide) (fun _ => ?_) (fun q => absurd q (by decide))
          refine xt_iconst (0) dX12_after_235 (by decide) ?_
          refine xt_iadd dX12_after_236 ?_
          refine xt_istore dX12_after_237 (by decide) rfl ?_
          change x_T _ _ _ _ [_, _, _, _, _, _, _, _, _, _, _, _, _, _, _, _] _ _ _ _
          refine xt_iload _ dX12_after_239 rfl ?_
          refine xt_if_eq 301 dX12_after_241 (by decide) (fun q => absurd q (by decide)) (fun _ => ?_)
          refine xt_iload _ dX12_after_244 rfl ?_
          refine xt_if_ne 301 dX12_after_246 (by decide) (fun q => absurd (by decide) q) (fun _ => ?_)
          refine xt_iload _ dX12_after_249 rfl ?_
          refine xt_iconst (-1) dX12_after_251 (by decide) ?_
          refine xt_icmp_ne 270 dX12_after_252 (by decide) (fun t252 => ?_) (fun f252 => ?_)
          · refine xt_iload _ dX12_after_270 rfl ?_
            refine xt_istore dX12_after_272 (by decide) rfl ?_
            change x_T _ _ _ _ [_, _, _, _, _, _, _, _, _, _, _, _, _, _, _, _] _ _ _ _
            refine xt_aload_n _ dX12_after_274 rfl ?_
            refine xt_geti dX12_after_275 kfX12_272 sh152 rfl ?_
            rw [ht31]
            change x_T _ _ _ _ _ (.int 1 :: _) _ _ _
            refine xt_iconst (1) dX12_after_278 (by decide) ?_
            refine xt_icmp_ne 286 dX12_after_279 (by decide) (fun q => absurd (by decide) q) (fun _ => ?_)
            refine xt_iconst (0) dX12_after_282 (by decide) ?_
            refine xt_goto 290 dX12_after_283 (by decide) ?_
            refine xt_istore dX12_after_290 (by decide) rfl ?_
            change x_T _ _ _ _ [_, _, _, _, _, _, _, _, _, _, _, _, _, _, _, _] _ _ _ _
            refine xt_iload _ dX12_after_292 rfl ?_
            refine xt_iload _ dX12_after_294 rfl ?_
            refine xt_cS _ dX12_after_296 klX12_153 (tX12_greater sc _ _ _ _ _) rfl rfl (Nat.le_of_ble_eq_true rfl) ?_
            refine xt_istore dX12_after_299 (by decide) rfl ?_
            change x_T _ _ _ _ [_, _, _, _, _, _, _, _, _, _, _, _, _, _, _, _] _ _ _ _
            refine xt_inc _ (1) dX12_after_301 rfl (by decide) (by decide) rfl ?_
            change x_T _ _ _ _ [_, _, _, _, _, _, _, _, _, _, _, _, _, _, _, _] _ _ _ _
            refine xt_goto 53 dX12_after_304 (by decide) ?_
            refine x_T.ls ?_ (ih (m + 1) μ3 w3 (s_ad σ D m).2 (.int (nI 0)) (.int (D (1 + (4 * m + 1)))) (.int 0) (by omega) (s_ad_ok hWd hlt hok) hm3 (hf.tr hf3) (by rw [← hR, s_go, if_pos hb]))
            rw [heq]
            show _ = [_, _, _, _, Value.int (eI (s_tcc σ.2 true 4)), Value.int (nI (s_tcc σ.2 true 6)), Value.int (nI (s_tcc σ.2 true 5)), Value.int (nI (σ.2 10)), Value.int (nI (σ.2 11)), Value.int (nI (σ.2 9)), Value.int (nI (σ.2 12)), _, _, _, _, _]
            have hz : ¬ σ.2 4 = 0 := fun z => t252 ((eI_m1 (by omega)).mpr z)
            rw [show s_tcc σ.2 true 4 = σ.2 4 from if_neg hz]
            rw [show s_tcc σ.2 true 6 = σ.2 6 from rfl, show s_tcc σ.2 true 5 = 0 from rfl, nI_succ m, show s_gr (nI (σ.2 6)) 0 = nI (σ.2 6) from s_gr_z (by omega), Int32.add_zero, Int32.add_zero, Int32.add_zero, show s_gr (nI (σ.2 12)) 0 = nI (σ.2 12) from s_gr_z (by omega)]
            rfl
          · refine xt_aload_n _ dX12_after_255 rfl ?_
            refine xt_geti dX12_after_256 kfX12_272 sh152 rfl ?_
            rw [ht31]
            change x_T _ _ _ _ _ (.int 1 :: _) _ _ _
            refine xt_iconst (1) dX12_after_259 (by decide) ?_
            refine xt_icmp_ne 270 dX12_after_260 (by decide) (fun q => absurd (by decide) q) (fun _ => ?_)
            refine xt_aload_n _ dX12_after_263 rfl ?_
            refine xt_geti dX12_after_264 kfX12_266 (by first | exact sh152 | rfl | assumption) rfl ?_
            refine xt_goto 272 dX12_after_267 (by decide) ?_
            refine xt_istore dX12_after_272 (by decide) rfl ?_
            change x_T _ _ _ _ [_, _, _, _, _, _, _, _, _, _, _, _, _, _, _, _] _ _ _ _
            refine xt_aload_n _ dX12_after_274 rfl ?_
            refine xt_geti dX12_after_275 kfX12_272 sh152 rfl ?_
            rw [ht31]
            change x_T _ _ _ _ _ (.int 1 :: _) _ _ _
            refine xt_iconst (1) dX12_after_278 (by decide) ?_
            refine xt_icmp_ne 286 dX12_after_279 (by decide) (fun q => absurd (by decide) q) (fun _ => ?_)
            refine xt_iconst (0) dX12_after_282 (by decide) ?_
            refine xt_goto 290 dX12_after_283 (by decide) ?_
            refine xt_istore dX12_after_290 (by decide) rfl ?_
            change x_T _ _ _ _ [_, _, _, _, _, _, _, _, _, _, _, _, _, _, _, _] _ _ _ _
            refine xt_iload _ dX12_after_292 rfl ?_
            refine xt_iload _ dX12_after_294 rfl ?_
            refine xt_cS _ dX12_after_296 klX12_153 (tX12_greater sc _ _ _ _ _) rfl rfl (Nat.le_of_ble_eq_true rfl) ?_
            refine xt_istore dX12_after_299 (by decide) rfl ?_
            change x_T _ _ _ _ [_, _, _, _, _, _, _, _, _, _, _, _, _, _, _, _] _ _ _ _
            refine xt_inc _ (1) dX12_after_301 rfl (by decide) (by decide) rfl ?_
            change x_T _ _ _ _ [_, _, _, _, _, _, _, _, _, _, _, _, _, _, _, _] _ _ _ _
            refine xt_goto 53 dX12_after_304 (by decide) ?_
            refine x_T.ls ?_ (ih (m + 1) μ3 w3 (s_ad σ D m).2 (.int (nI 0)) (.int (D (1 + (4 * m + 1)))) (.int 0) (by omega) (s_ad_ok hWd hlt hok) hm3 (hf.tr hf3) (by rw [← hR, s_go, if_pos hb]))
            rw [heq]
            show _ = [_, _, _, _, Value.int (eI (s_tcc σ.2 true 4)), Value.int (nI (s_tcc σ.2 true 6)), Value.int (nI (s_tcc σ.2 true 5)), Value.int (nI (σ.2 10)), Value.int (nI (σ.2 11)), Value.int (nI (σ.2 9)), Value.int (nI (σ.2 12)), _, _, _, _, _]
            have hz : σ.2 4 = 0 := (eI_m1 (by omega)).mp f252
            rw [show s_tcc σ.2 true 4 = σ.2 1 + 2 from if_pos hz]
            rw [show s_tcc σ.2 true 6 = σ.2 6 from rfl, show s_tcc σ.2 true 5 = 0 from rfl, nI_succ m, show s_gr (nI (σ.2 6)) 0 = nI (σ.2 6) from s_gr_z (by omega), Int32.add_zero, Int32.add_zero, Int32.add_zero, show s_gr (nI (σ.2 12)) 0 = nI (σ.2 12) from s_gr_z (by omega), ht29, eI_s]
            rfl
      · have hb : (s_ad σ D m).1 = false := by cases hz : (s_ad σ D m).1 <;> simp_all
        · skip
          refine xt_iload _ dX12_after_53 rfl ?_
          refine xt_if_eq 307 dX12_after_55 (by decide) (fun q => absurd q (by decide)) (fun _ => ?_)
          refine xt_iload _ dX12_after_58 rfl ?_
          refine xt_aload_n _ dX12_after_60 rfl ?_
          refine xt_cV _ dX12_after_61 klX12_316 (tX12_deeds sc _ μ2 _ fd n D hfd hd2 hM2) sh152 rfl rfl (Nat.le_of_ble_eq_true rfl) ?_
          rw [hWd.2.1]
          refine xt_icmp_ge 307 dX12_after_64 (by decide) (fun q => absurd q (nI_ge hlt (by omega))) (fun _ => ?_)
          refine xt_aload_n _ dX12_after_67 rfl ?_
          refine xt_iload _ dX12_after_68 rfl ?_
          refine xt_iconst (0) dX12_after_70 (by decide) ?_
          refine xt_cV _ dX12_after_71 klX12_319 (tX12_deedOf sc _ μ2 _ fd n D hfd hWd.1 hd2 hM2 m 0 hlt (by decide)) sh152 rfl rfl (Nat.le_of_ble_eq_true rfl) ?_
          rw [e0, hs]
          change x_T _ _ _ _ _ (.int (nI 0) :: _) _ _ _
          refine xt_istore dX12_after_74 (by decide) rfl ?_
          change x_T _ _ _ _ [_, _, _, _, _, _, _, _, _, _, _, _, _, _, _, _] _ _ _ _
          refine xt_aload_n _ dX12_after_76 rfl ?_
          refine xt_iload _ dX12_after_77 rfl ?_
          refine xt_iconst (1) dX12_after_79 (by decide) ?_
          refine xt_cV _ dX12_after_80 klX12_319 (tX12_deedOf sc _ μ2 _ fd n D hfd hWd.1 hd2 hM2 m 1 hlt (by decide)) sh152 rfl rfl (Nat.le_of_ble_eq_true rfl) ?_
          refine xt_istore dX12_after_83 (by decide) rfl ?_
          change x_T _ _ _ _ [_, _, _, _, _, _, _, _, _, _, _, _, _, _, _, _] _ _ _ _
          refine xt_iload _ dX12_after_85 rfl ?_
          refine xt_iconst (3) dX12_after_87 (by decide) ?_
          refine xt_icmp_ne 134 dX12_after_88 (by decide) (fun _ => ?_) (fun q => absurd q (by decide))
          refine xt_iconst (0) dX12_after_134 (by decide) ?_
          refine xt_istore dX12_after_135 (by decide) rfl ?_
          change x_T _ _ _ _ [_, _, _, _, _, _, _, _, _, _, _, _, _, _, _, _] _ _ _ _
          refine xt_aload_n _ dX12_after_137 rfl ?_
          refine xt_iload _ dX12_after_138 rfl ?_
          refine xt_callV _ dX12_after_140 klX12_341 (tX12_doesDeed sc _ μ2 _ f σ hok hm fd n D hfd hWd hd2 hM2 m hlt) sh152 rfl rfl (Nat.le_of_ble_eq_true rfl) (fun r3 μ3 w3 q3 => ?_)
          obtain ⟨rfl, hm3, hf3⟩ := q3
          change x_T _ _ _ _ _ (.int (if (s_ad σ D m).1 then 1 else 0) :: _) _ _ _
          rw [hb]
          change x_T _ _ _ _ _ (.int 0 :: _) _ _ _
          have hd3 : μ3 152 40 = nI fd := hf3.2.1.trans hd2
          have hM3 : d_M μ3 fd n D := fun i hi => by rw [hf3.1 159 (by decide) (by decide) (by decide) (by decide)]; exact hM2 i hi
          refine xt_istore dX12_after_143 (by decide) rfl ?_
          change x_T _ _ _ _ [_, _, _, _, _, _, _, _, _, _, _, _, _, _, _, _] _ _ _ _
          refine xt_iload _ dX12_after_145 rfl ?_
          refine xt_if_eq 160 dX12_after_147 (by decide) (fun _ => ?_) (fun q => absurd (by decide) q)
          refine xt_iload _ dX12_after_160 rfl ?_
          refine xt_istore dX12_after_162 (by decide) rfl ?_
          change x_T _ _ _ _ [_, _, _, _, _, _, _, _, _, _, _, _, _, _, _, _] _ _ _ _
          refine xt_iload _ dX12_after_164 rfl ?_
          refine xt_iload _ dX12_after_166 rfl ?_
          refine xt_if_eq 187 dX12_after_168 (by decide) (fun _ => ?_) (fun q => absurd (by decide) q)
          refine xt_iconst (0) dX12_after_187 (by decide) ?_
          refine xt_iadd dX12_after_188 ?_
          refine xt_istore dX12_after_189 (by decide) rfl ?_
          change x_T _ _ _ _ [_, _, _, _, _, _, _, _, _, _, _, _, _, _, _, _] _ _ _ _
          refine xt_iload _ dX12_after_191 rfl ?_
          refine xt_iload _ dX12_after_193 rfl ?_
          refine xt_if_eq 214 dX12_after_195 (by decide) (fun _ => ?_) (fun q => absurd (by decide) q)
          refine xt_iconst (0) dX12_after_214 (by decide) ?_
          refine xt_iadd dX12_after_215 ?_
          refine xt_istore dX12_after_216 (by decide) rfl ?_
          change x_T _ _ _ _ [_, _, _, _, _, _, _, _, _, _, _, _, _, _, _, _] _ _ _ _
          refine xt_iload _ dX12_after_218 rfl ?_
          refine xt_iload _ dX12_after_220 rfl ?_
          refine xt_if_eq 235 dX12_after_222 (by decide) (fun _ => ?_) (fun q => absurd (by decide) q)
          refine xt_iconst (0) dX12_after_235 (by decide) ?_
          refine xt_iadd dX12_after_236 ?_
          refine xt_istore dX12_after_237 (by decide) rfl ?_
          change x_T _ _ _ _ [_, _, _, _, _, _, _, _, _, _, _, _, _, _, _, _] _ _ _ _
          refine xt_iload _ dX12_after_239 rfl ?_
          refine xt_if_eq 301 dX12_after_241 (by decide) (fun _ => ?_) (fun q => absurd (by decide) q)
          refine xt_inc _ (1) dX12_after_301 rfl (by decide) (by decide) rfl ?_
          change x_T _ _ _ _ [_, _, _, _, _, _, _, _, _, _, _, _, _, _, _, _] _ _ _ _
          refine xt_goto 53 dX12_after_304 (by decide) ?_
          refine xt_iload _ dX12_after_53 rfl ?_
          refine xt_if_eq 307 dX12_after_55 (by decide) (fun _ => ?_) (fun q => absurd (by decide) q)
          have he : σ = (s_go D n 0 σ0).2 := by rw [← hR, s_go, if_neg (by rw [hb]; decide)]
          rw [he]
          simp only [Int32.add_zero]
          exact hK _ _ _ _ _ _ _ (hf.tr hf3)
    · skip
      by_cases hb : (s_ad σ D m).1 = true
      · have heq : (s_ad σ D m).2 = (s_up σ.1 2 0, σ.2) := by exact s_ad_1 hs hb
        refine xt_iload _ dX12_after_53 rfl ?_
        refine xt_if_eq 307 dX12_after_55 (by decide) (fun q => absurd q (by decide)) (fun _ => ?_)
        refine xt_iload _ dX12_after_58 rfl ?_
        refine xt_aload_n _ dX12_after_60 rfl ?_
        refine xt_cV _ dX12_after_61 klX12_316 (tX12_deeds sc _ μ2 _ fd n D hfd hd2 hM2) sh152 rfl rfl (Nat.le_of_ble_eq_true rfl) ?_
        rw [hWd.2.1]
        refine xt_icmp_ge 307 dX12_after_64 (by decide) (fun q => absurd q (nI_ge hlt (by omega))) (fun _ => ?_)
        refine xt_aload_n _ dX12_after_67 rfl ?_
        refine xt_iload _ dX12_after_68 rfl ?_
        refine xt_iconst (0) dX12_after_70 (by decide) ?_
        refine xt_cV _ dX12_after_71 klX12_319 (tX12_deedOf sc _ μ2 _ fd n D hfd hWd.1 hd2 hM2 m 0 hlt (by decide)) sh152 rfl rfl (Nat.le_of_ble_eq_true rfl) ?_
        rw [e0, hs]
        change x_T _ _ _ _ _ (.int (nI 1) :: _) _ _ _
        refine xt_istore dX12_after_74 (by decide) rfl ?_
        change x_T _ _ _ _ [_, _, _, _, _, _, _, _, _, _, _, _, _, _, _, _] _ _ _ _
        refine xt_aload_n _ dX12_after_76 rfl ?_
        refine xt_iload _ dX12_after_77 rfl ?_
        refine xt_iconst (1) dX12_after_79 (by decide) ?_
        refine xt_cV _ dX12_after_80 klX12_319 (tX12_deedOf sc _ μ2 _ fd n D hfd hWd.1 hd2 hM2 m 1 hlt (by decide)) sh152 rfl rfl (Nat.le_of_ble_eq_true rfl) ?_
        refine xt_istore dX12_after_83 (by decide) rfl ?_
        change x_T _ _ _ _ [_, _, _, _, _, _, _, _, _, _, _, _, _, _, _, _] _ _ _ _
        refine xt_iload _ dX12_after_85 rfl ?_
        refine xt_iconst (3) dX12_after_87 (by decide) ?_
        refine xt_icmp_ne 134 dX12_after_88 (by decide) (fun _ => ?_) (fun q => absurd q (by decide))
        refine xt_iconst (0) dX12_after_134 (by decide) ?_
        refine xt_istore dX12_after_135 (by decide) rfl ?_
        change x_T _ _ _ _ [_, _, _, _, _, _, _, _, _, _, _, _, _, _, _, _] _ _ _ _
        refine xt_aload_n _ dX12_after_137 rfl ?_
        refine xt_iload _ dX12_after_138 rfl ?_
        refine xt_callV _ dX12_after_140 klX12_341 (tX12_doesDeed sc _ μ2 _ f σ hok hm fd n D hfd hWd hd2 hM2 m hlt) sh152 rfl rfl (Nat.le_of_ble_eq_true rfl) (fun r3 μ3 w3 q3 => ?_)
        obtain ⟨rfl, hm3, hf3⟩ := q3
        change x_T _ _ _ _ _ (.int (if (s_ad σ D m).1 then 1 else 0) :: _) _ _ _
        rw [hb]
        change x_T _ _ _ _ _ (.int 1 :: _) _ _ _
        have hd3 : μ3 152 40 = nI fd := hf3.2.1.trans hd2
        have hM3 : d_M μ3 fd n D := fun i hi => by rw [hf3.1 159 (by decide) (by decide) (by decide) (by decide)]; exact hM2 i hi
        refine xt_istore dX12_after_143 (by decide) rfl ?_
        change x_T _ _ _ _ [_, _, _, _, _, _, _, _, _, _, _, _, _, _, _, _] _ _ _ _
        refine xt_iload _ dX12_after_145 rfl ?_
        refine xt_if_eq 160 dX12_after_147 (by decide) (fun q => absurd q (by decide)) (fun _ => ?_)
        refine xt_iload _ dX12_after_150 rfl ?_
        refine xt_iload _ dX12_after_152 rfl ?_
        refine xt_cS _ dX12_after_154 klX12_153 (tX12_greater sc _ _ _ _ _) rfl rfl (Nat.le_of_ble_eq_true rfl) ?_
        refine xt_goto 162 dX12_after_157 (by decide) ?_
        refine xt_istore dX12_after_162 (by decide) rfl ?_
        change x_T _ _ _ _ [_, _, _, _, _, _, _, _, _, _, _, _, _, _, _, _] _ _ _ _
        refine xt_iload _ dX12_after_164 rfl ?_
        refine xt_iload _ dX12_after_166 rfl ?_
        refine xt_if_eq 187 dX12_after_168 (by decide) (fun q => absurd q (by decide)) (fun _ => ?_)
        refine xt_iload _ dX12_after_171 rfl ?_
        refine xt_iconst (4) dX12_after_173 (by decide) ?_
        refine xt_icmp_ne 187 dX12_after_174 (by decide) (fun _ => ?_) (fun q => absurd q (by decide))
        refine xt_iconst (0) dX12_after_187 (by decide) ?_
        refine xt_iadd dX12_after_188 ?_
        refine xt_istore dX12_after_189 (by decide) rfl ?_
        change x_T _ _ _ _ [_, _, _, _, _, _, _, _, _, _, _, _, _, _, _, _] _ _ _ _
        refine xt_iload _ dX12_after_191 rfl ?_
        refine xt_iload _ dX12_after_193 rfl ?_
        refine xt_if_eq 214 dX12_after_195 (by decide) (fun q => absurd q (by decide)) (fun _ => ?_)
        refine xt_iload _ dX12_after_198 rfl ?_
        refine xt_iconst (5) dX12_after_200 (by decide) ?_
        refine xt_icmp_ne 214 dX12_after_201 (by decide) (fun _ => ?_) (fun q => absurd q (by decide))
        refine xt_iconst (0) dX12_after_214 (by decide) ?_
        refine xt_iadd dX12_after_215 ?_
        refine xt_istore dX12_after_216 (by decide) rfl ?_
        change x_T _ _ _ _ [_, _, _, _, _, _, _, _, _, _, _, _, _, _, _, _] _ _ _ _
        refine xt_iload _ dX12_after_218 rfl ?_
        refine xt_iload _ dX12_after_220 rfl ?_
        refine xt_if_eq 235 dX12_after_222 (by decide) (fun q => absurd q (by decide)) (fun _ => ?_)
        refine xt_iload _ dX12_after_225 rfl ?_
        refine xt_iconst (2) dX12_after_227 (by decide) ?_
        refine xt_icmp_ne 235 dX12_after_228 (by decide) (fun _ => ?_) (fun q => absurd q (by decide))
        refine xt_iconst (0) dX12_after_235 (by decide) ?_
        refine xt_iadd dX12_after_236 ?_
        refine xt_istore dX12_after_237 (by decide) rfl ?_
        change x_T _ _ _ _ [_, _, _, _, _, _, _, _, _, _, _, _, _, _, _, _] _ _ _ _
        refine xt_iload _ dX12_after_239 rfl ?_
        refine xt_if_eq 301 dX12_after_241 (by decide) (fun q => absurd q (by decide)) (fun _ => ?_)
        refine xt_iload _ dX12_after_244 rfl ?_
        refine xt_if_ne 301 dX12_after_246 (by decide) (fun _ => ?_) (fun q => absurd q (by decide))
        refine xt_inc _ (1) dX12_after_301 rfl (by decide) (by decide) rfl ?_
        change x_T _ _ _ _ [_, _, _, _, _, _, _, _, _, _, _, _, _, _, _, _] _ _ _ _
        refine xt_goto 53 dX12_after_304 (by decide) ?_
        refine x_T.ls ?_ (ih (m + 1) μ3 w3 (s_ad σ D m).2 (.int (nI 1)) (.int (D (1 + (4 * m + 1)))) (.int 0) (by omega) (s_ad_ok hWd hlt hok) hm3 (hf.tr hf3) (by rw [← hR, s_go, if_pos hb]))
        rw [heq, nI_succ m, Int32.add_zero, Int32.add_zero, Int32.add_zero, show s_gr (nI (σ.2 12)) 0 = nI (σ.2 12) from s_gr_z (by omega)]
      · have hb : (s_ad σ D m).1 = false := by cases hz : (s_ad σ D m).1 <;> simp_all
        refine xt_iload _ dX12_after_53 rfl ?_
        refine xt_if_eq 307 dX12_after_55 (by decide) (fun q => absurd q (by decide)) (fun _ => ?_)
        refine xt_iload _ dX12_after_58 rfl ?_
        refine xt_aload_n _ dX12_after_60 rfl ?_
        refine xt_cV _ dX12_after_61 klX12_316 (tX12_deeds sc _ μ2 _ fd n D hfd hd2 hM2) sh152 rfl rfl (Nat.le_of_ble_eq_true rfl) ?_
        rw [hWd.2.1]
        refine xt_icmp_ge 307 dX12_after_64 (by decide) (fun q => absurd q (nI_ge hlt (by omega))) (fun _ => ?_)
        refine xt_aload_n _ dX12_after_67 rfl ?_
        refine xt_iload _ dX12_after_68 rfl ?_
        refine xt_iconst (0) dX12_after_70 (by decide) ?_
        refine xt_cV _ dX12_after_71 klX12_319 (tX12_deedOf sc _ μ2 _ fd n D hfd hWd.1 hd2 hM2 m 0 hlt (by decide)) sh152 rfl rfl (Nat.le_of_ble_eq_true rfl) ?_
        rw [e0, hs]
        change x_T _ _ _ _ _ (.int (nI 1) :: _) _ _ _
        refine xt_istore dX12_after_74 (by decide) rfl ?_
        change x_T _ _ _ _ [_, _, _, _, _, _, _, _, _, _, _, _, _, _, _, _] _ _ _ _
        refine xt_aload_n _ dX12_after_76 rfl ?_
        refine xt_iload _ dX12_after_77 rfl ?_
        refine xt_iconst (1) dX12_after_79 (by decide) ?_
        refine xt_cV _ dX12_after_80 klX12_319 (tX12_deedOf sc _ μ2 _ fd n D hfd hWd.1 hd2 hM2 m 1 hlt (by decide)) sh152 rfl rfl (Nat.le_of_ble_eq_true rfl) ?_
        refine xt_istore dX12_after_83 (by decide) rfl ?_
        change x_T _ _ _ _ [_, _, _, _, _, _, _, _, _, _, _, _, _, _, _, _] _ _ _ _
        refine xt_iload _ dX12_after_85 rfl ?_
        refine xt_iconst (3) dX12_after_87 (by decide) ?_
        refine xt_icmp_ne 134 dX12_after_88 (by decide) (fun _ => ?_) (fun q => absurd q (by decide))
        refine xt_iconst (0) dX12_after_134 (by decide) ?_
        refine xt_istore dX12_after_135 (by decide) rfl ?_
        change x_T _ _ _ _ [_, _, _, _, _, _, _, _, _, _, _, _, _, _, _, _] _ _ _ _
        refine xt_aload_n _ dX12_after_137 rfl ?_
        refine xt_iload _ dX12_after_138 rfl ?_
        refine xt_callV _ dX12_after_140 klX12_341 (tX12_doesDeed sc _ μ2 _ f σ hok hm fd n D hfd hWd hd2 hM2 m hlt) sh152 rfl rfl (Nat.le_of_ble_eq_true rfl) (fun r3 μ3 w3 q3 => ?_)
        obtain ⟨rfl, hm3, hf3⟩ := q3
        change x_T _ _ _ _ _ (.int (if (s_ad σ D m).1 then 1 else 0) :: _) _ _ _
        rw [hb]
        change x_T _ _ _ _ _ (.int 0 :: _) _ _ _
        have hd3 : μ3 152 40 = nI fd := hf3.2.1.trans hd2
        have hM3 : d_M μ3 fd n D := fun i hi => by rw [hf3.1 159 (by decide) (by decide) (by decide) (by decide)]; exact hM2 i hi
        refine xt_istore dX12_after_143 (by decide) rfl ?_
        change x_T _ _ _ _ [_, _, _, _, _, _, _, _, _, _, _, _, _, _, _, _] _ _ _ _
        refine xt_iload _ dX12_after_145 rfl ?_
        refine xt_if_eq 160 dX12_after_147 (by decide) (fun _ => ?_) (fun q => absurd (by decide) q)
        refine xt_iload _ dX12_after_160 rfl ?_
        refine xt_istore dX12_after_162 (by decide) rfl ?_
        change x_T _ _ _ _ [_, _, _, _, _, _, _, _, _, _, _, _, _, _, _, _] _ _ _ _
        refine xt_iload _ dX12_after_164 rfl ?_
        refine xt_iload _ dX12_after_166 rfl ?_
        refine xt_if_eq 187 dX12_after_168 (by decide) (fun _ => ?_) (fun q => absurd (by decide) q)
        refine xt_iconst (0) dX12_after_187 (by decide) ?_
        refine xt_iadd dX12_after_188 ?_
        refine xt_istore dX12_after_189 (by decide) rfl ?_
        change x_T _ _ _ _ [_, _, _, _, _, _, _, _, _, _, _, _, _, _, _, _] _ _ _ _
        refine xt_iload _ dX12_after_191 rfl ?_
        refine xt_iload _ dX12_after_193 rfl ?_
        refine xt_if_eq 214 dX12_after_195 (by decide) (fun _ => ?_) (fun q => absurd (by decide) q)
        refine xt_iconst (0) dX12_after_214 (by decide) ?_
        refine xt_iadd dX12_after_215 ?_
        refine xt_istore dX12_after_216 (by decide) rfl ?_
        change x_T _ _ _ _ [_, _, _, _, _, _, _, _, _, _, _, _, _, _, _, _] _ _ _ _
        refine xt_iload _ dX12_after_218 rfl ?_
        refine xt_iload _ dX12_after_220 rfl ?_
        refine xt_if_eq 235 dX12_after_222 (by decide) (fun _ => ?_) (fun q => absurd (by decide) q)
        refine xt_iconst (0) dX12_after_235 (by decide) ?_
        refine xt_iadd dX12_after_236 ?_
        refine xt_istore dX12_after_237 (by decide) rfl ?_
        change x_T _ _ _ _ [_, _, _, _, _, _, _, _, _, _, _, _, _, _, _, _] _ _ _ _
        refine xt_iload _ dX12_after_239 rfl ?_
        refine xt_if_eq 301 dX12_after_241 (by decide) (fun _ => ?_) (fun q => absurd (by decide) q)
        refine xt_inc _ (1) dX12_after_301 rfl (by decide) (by decide) rfl ?_
        change x_T _ _ _ _ [_, _, _, _, _, _, _, _, _, _, _, _, _, _, _, _] _ _ _ _
        refine xt_goto 53 dX12_after_304 (by decide) ?_
        refine xt_iload _ dX12_after_53 rfl ?_
        refine xt_if_eq 307 dX12_after_55 (by decide) (fun _ => ?_) (fun q => absurd (by decide) q)
        have he : σ = (s_go D n 0 σ0).2 := by rw [← hR, s_go, if_neg (by rw [hb]; decide)]
        rw [he]
        simp only [Int32.add_zero]
        exact hK _ _ _ _ _ _ _ (hf.tr hf3)
    · skip
      obtain ⟨hv1, ha7⟩ := hq3 (by omega)
      by_cases hb : (s_ad σ D m).1 = true
      · have heq : (s_ad σ D m).2 = (σ.1, s_ac σ.2 (s_dd D m 1) (s_off σ.1 (fun _ => false) 0 (s_dd D m 1))) := by exact s_ad_2 hs hb
        refine xt_iload _ dX12_after_53 rfl ?_
        refine xt_if_eq 307 dX12_after_55 (by decide) (fun q => absurd q (by decide)) (fun _ => ?_)
        refine xt_iload _ dX12_after_58 rfl ?_
        refine xt_aload_n _ dX12_after_60 rfl ?_
        refine xt_cV _ dX12_after_61 klX12_316 (tX12_deeds sc _ μ2 _ fd n D hfd hd2 hM2) sh152 rfl rfl (Nat.le_of_ble_eq_true rfl) ?_
        rw [hWd.2.1]
        refine xt_icmp_ge 307 dX12_after_64 (by decide) (fun q => absurd q (nI_ge hlt (by omega))) (fun _ => ?_)
        refine xt_aload_n _ dX12_after_67 rfl ?_
        refine xt_iload _ dX12_after_68 rfl ?_
        refine xt_iconst (0) dX12_after_70 (by decide) ?_
        refine xt_cV _ dX12_after_71 klX12_319 (tX12_deedOf sc _ μ2 _ fd n D hfd hWd.1 hd2 hM2 m 0 hlt (by decide)) sh152 rfl rfl (Nat.le_of_ble_eq_true rfl) ?_
        rw [e0, hs]
        change x_T _ _ _ _ _ (.int (nI 2) :: _) _ _ _
        refine xt_istore dX12_after_74 (by decide) rfl ?_
        change x_T _ _ _ _ [_, _, _, _, _, _, _, _, _, _, _, _, _, _, _, _] _ _ _ _
        refine xt_aload_n _ dX12_after_76 rfl ?_
        refine xt_iload _ dX12_after_77 rfl ?_
        refine xt_iconst (1) dX12_after_79 (by decide) ?_
        refine xt_cV _ dX12_after_80 klX12_319 (tX12_deedOf sc _ μ2 _ fd n D hfd hWd.1 hd2 hM2 m 1 hlt (by decide)) sh152 rfl rfl (Nat.le_of_ble_eq_true rfl) ?_
        refine xt_istore dX12_after_83 (by decide) rfl ?_
        change x_T _ _ _ _ [_, _, _, _, _, _, _, _, _, _, _, _, _, _, _, _] _ _ _ _
        refine xt_iload _ dX12_after_85 rfl ?_
        refine xt_iconst (3) dX12_after_87 (by decide) ?_
        refine xt_icmp_ne 134 dX12_after_88 (by decide) (fun _ => ?_) (fun q => absurd q (by decide))
        refine xt_iconst (0) dX12_after_134 (by decide) ?_
        refine xt_istore dX12_after_135 (by decide) rfl ?_
        change x_T _ _ _ _ [_, _, _, _, _, _, _, _, _, _, _, _, _, _, _, _] _ _ _ _
        refine xt_aload_n _ dX12_after_137 rfl ?_
        refine xt_iload _ dX12_after_138 rfl ?_
        refine xt_callV _ dX12_after_140 klX12_341 (tX12_doesDeed sc _ μ2 _ f σ hok hm fd n D hfd hWd hd2 hM2 m hlt) sh152 rfl rfl (Nat.le_of_ble_eq_true rfl) (fun r3 μ3 w3 q3 => ?_)
        obtain ⟨rfl, hm3, hf3⟩ := q3
        change x_T _ _ _ _ _ (.int (if (s_ad σ D m).1 then 1 else 0) :: _) _ _ _
        rw [hb]
        change x_T _ _ _ _ _ (.int 1 :: _) _ _ _
        have hd3 : μ3 152 40 = nI fd := hf3.2.1.trans hd2
        have hM3 : d_M μ3 fd n D := fun i hi => by rw [hf3.1 159 (by decide) (by decide) (by decide) (by decide)]; exact hM2 i hi
        refine xt_istore dX12_after_143 (by decide) rfl ?_
        change x_T _ _ _ _ [_, _, _, _, _, _, _, _, _, _, _, _, _, _, _, _] _ _ _ _
        refine xt_iload _ dX12_after_145 rfl ?_
        refine xt_if_eq 160 dX12_after_147 (by decide) (fun q => absurd q (by decide)) (fun _ => ?_)
        refine xt_iload _ dX12_after_150 rfl ?_
        refine xt_iload _ dX12_after_152 rfl ?_
        refine xt_cS _ dX12_after_154 klX12_153 (tX12_greater sc _ _ _ _ _) rfl rfl (Nat.le_of_ble_eq_true rfl) ?_
        refine xt_goto 162 dX12_after_157 (by decide) ?_
        refine xt_istore dX12_after_162 (by decide) rfl ?_
        change x_T _ _ _ _ [_, _, _, _, _, _, _, _, _, _, _, _, _, _, _, _] _ _ _ _
        refine xt_iload _ dX12_after_164 rfl ?_
        refine xt_iload _ dX12_after_166 rfl ?_
        refine xt_if_eq 187 dX12_after_168 (by decide) (fun q => absurd q (by decide)) (fun _ => ?_)
        refine xt_iload _ dX12_after_171 rfl ?_
        refine xt_iconst (4) dX12_after_173 (by decide) ?_
        refine xt_icmp_ne 187 dX12_after_174 (by decide) (fun _ => ?_) (fun q => absurd q (by decide))
        refine xt_iconst (0) dX12_after_187 (by decide) ?_
        refine xt_iadd dX12_after_188 ?_
        refine xt_istore dX12_after_189 (by decide) rfl ?_
        change x_T _ _ _ _ [_, _, _, _, _, _, _, _, _, _, _, _, _, _, _, _] _ _ _ _
        refine xt_iload _ dX12_after_191 rfl ?_
        refine xt_iload _ dX12_after_193 rfl ?_
        refine xt_if_eq 214 dX12_after_195 (by decide) (fun q => absurd q (by decide)) (fun _ => ?_)
        refine xt_iload _ dX12_after_198 rfl ?_
        refine xt_iconst (5) dX12_after_200 (by decide) ?_
        refine xt_icmp_ne 214 dX12_after_201 (by decide) (fun _ => ?_) (fun q => absurd q (by decide))
        refine xt_iconst (0) dX12_after_214 (by decide) ?_
        refine xt_iadd dX12_after_215 ?_
        refine xt_istore dX12_after_216 (by decide) rfl ?_
        change x_T _ _ _ _ [_, _, _, _, _, _, _, _, _, _, _, _, _, _, _, _] _ _ _ _
        refine xt_iload _ dX12_after_218 rfl ?_
        refine xt_iload _ dX12_after_220 rfl ?_
        refine xt_if_eq 235 dX12_after_222 (by decide) (fun q => absurd q (by decide)) (fun _ => ?_)
        refine xt_iload _ dX12_after_225 rfl ?_
        refine xt_iconst (2) dX12_after_227 (by decide) ?_
        refine xt_icmp_ne 235 dX12_after_228 (by decide) (fun q => absurd (by decide) q) (fun _ => ?_)
        refine xt_iconst (1) dX12_after_231 (by decide) ?_
        refine xt_goto 236 dX12_after_232 (by decide) ?_
        refine xt_iadd dX12_after_236 ?_
        refine xt_istore dX12_after_237 (by decide) rfl ?_
        change x_T _ _ _ _ [_, _, _, _, _, _, _, _, _, _, _, _, _, _, _, _] _ _ _ _
        refine xt_iload _ dX12_after_239 rfl ?_
        refine xt_if_eq 301 dX12_after_241 (by decide) (fun q => absurd q (by decide)) (fun _ => ?_)
        refine xt_iload _ dX12_after_244 rfl ?_
        refine xt_if_ne 301 dX12_after_246 (by decide) (fun _ => ?_) (fun q => absurd q (by decide))
        refine xt_inc _ (1) dX12_after_301 rfl (by decide) (by decide) rfl ?_
        change x_T _ _ _ _ [_, _, _, _, _, _, _, _, _, _, _, _, _, _, _, _] _ _ _ _
        refine xt_goto 53 dX12_after_304 (by decide) ?_
        refine x_T.ls ?_ (ih (m + 1) μ3 w3 (s_ad σ D m).2 (.int (nI 2)) (.int (D (1 + (4 * m + 1)))) (.int 0) (by omega) (s_ad_ok hWd hlt hok) hm3 (hf.tr hf3) (by rw [← hR, s_go, if_pos hb]))
        rw [heq, nI_succ m, Int32.add_zero, Int32.add_zero, show s_gr (nI (σ.2 12)) 0 = nI (σ.2 12) from s_gr_z (by omega)]
        show [_, _, _, _, _, _, _, _, _, Value.int (nI (σ.2 9) + 1), _, _, _, _, _, _] = [_, _, _, _, _, _, _, _, _, Value.int (nI (σ.2 9 + 1)), _, _, _, _, _, _]
        rw [nI_succ (σ.2 9)]
        rfl
      · have hb : (s_ad σ D m).1 = false := by cases hz : (s_ad σ D m).1 <;> simp_all
        refine xt_iload _ dX12_after_53 rfl ?_
        refine xt_if_eq 307 dX12_after_55 (by decide) (fun q => absurd q (by decide)) (fun _ => ?_)
        refine xt_iload _ dX12_after_58 rfl ?_
        refine xt_aload_n _ dX12_after_60 rfl ?_
        refine xt_cV _ dX12_after_61 klX12_316 (tX12_deeds sc _ μ2 _ fd n D hfd hd2 hM2) sh152 rfl rfl (Nat.le_of_ble_eq_true rfl) ?_
        rw [hWd.2.1]
        refine xt_icmp_ge 307 dX12_after_64 (by decide) (fun q => absurd q (nI_ge hlt (by omega))) (fun _ => ?_)
        refine xt_aload_n _ dX12_after_67 rfl ?_
        refine xt_iload _ dX12_after_68 rfl ?_
        refine xt_iconst (0) dX12_after_70 (by decide) ?_
        refine xt_cV _ dX12_after_71 klX12_319 (tX12_deedOf sc _ μ2 _ fd n D hfd hWd.1 hd2 hM2 m 0 hlt (by decide)) sh152 rfl rfl (Nat.le_of_ble_eq_true rfl) ?_
        rw [e0, hs]
        change x_T _ _ _ _ _ (.int (nI 2) :: _) _ _ _
        refine xt_istore dX12_after_74 (by decide) rfl ?_
        change x_T _ _ _ _ [_, _, _, _, _, _, _, _, _, _, _, _, _, _, _, _] _ _ _ _
        refine xt_aload_n _ dX12_after_76 rfl ?_
        refine xt_iload _ dX12_after_77 rfl ?_
        refine xt_iconst (1) dX12_after_79 (by decide) ?_
        refine xt_cV _ dX12_after_80 klX12_319 (tX12_deedOf sc _ μ2 _ fd n D hfd hWd.1 hd2 hM2 m 1 hlt (by decide)) sh152 rfl rfl (Nat.le_of_ble_eq_true rfl) ?_
        refine xt_istore dX12_after_83 (by decide) rfl ?_
        change x_T _ _ _ _ [_, _, _, _, _, _, _, _, _, _, _, _, _, _, _, _] _ _ _ _
        refine xt_iload _ dX12_after_85 rfl ?_
        refine xt_iconst (3) dX12_after_87 (by decide) ?_
        refine xt_icmp_ne 134 dX12_after_88 (by decide) (fun _ => ?_) (fun q => absurd q (by decide))
        refine xt_iconst (0) dX12_after_134 (by decide) ?_
        refine xt_istore dX12_after_135 (by decide) rfl ?_
        change x_T _ _ _ _ [_, _, _, _, _, _, _, _, _, _, _, _, _, _, _, _] _ _ _ _
        refine xt_aload_n _ dX12_after_137 rfl ?_
        refine xt_iload _ dX12_after_138 rfl ?_
        refine xt_callV _ dX12_after_140 klX12_341 (tX12_doesDeed sc _ μ2 _ f σ hok hm fd n D hfd hWd hd2 hM2 m hlt) sh152 rfl rfl (Nat.le_of_ble_eq_true rfl) (fun r3 μ3 w3 q3 => ?_)
        obtain ⟨rfl, hm3, hf3⟩ := q3
        change x_T _ _ _ _ _ (.int (if (s_ad σ D m).1 then 1 else 0) :: _) _ _ _
        rw [hb]
        change x_T _ _ _ _ _ (.int 0 :: _) _ _ _
        have hd3 : μ3 152 40 = nI fd := hf3.2.1.trans hd2
        have hM3 : d_M μ3 fd n D := fun i hi => by rw [hf3.1 159 (by decide) (by decide) (by decide) (by decide)]; exact hM2 i hi
        refine xt_istore dX12_after_143 (by decide) rfl ?_
        change x_T _ _ _ _ [_, _, _, _, _, _, _, _, _, _, _, _, _, _, _, _] _ _ _ _
        refine xt_iload _ dX12_after_145 rfl ?_
        refine xt_if_eq 160 dX12_after_147 (by decide) (fun _ => ?_) (fun q => absurd (by decide) q)
        refine xt_iload _ dX12_after_160 rfl ?_
        refine xt_istore dX12_after_162 (by decide) rfl ?_
        change x_T _ _ _ _ [_, _, _, _, _, _, _, _, _, _, _, _, _, _, _, _] _ _ _ _
        refine xt_iload _ dX12_after_164 rfl ?_
        refine xt_iload _ dX12_after_166 rfl ?_
        refine xt_if_eq 187 dX12_after_168 (by decide) (fun _ => ?_) (fun q => absurd (by decide) q)
        refine xt_iconst (0) dX12_after_187 (by decide) ?_
        refine xt_iadd dX12_after_188 ?_
        refine xt_istore dX12_after_189 (by decide) rfl ?_
        change x_T _ _ _ _ [_, _, _, _, _, _, _, _, _, _, _, _, _, _, _, _] _ _ _ _
        refine xt_iload _ dX12_after_191 rfl ?_
        refine xt_iload _ dX12_after_193 rfl ?_
        refine xt_if_eq 214 dX12_after_195 (by decide) (fun _ => ?_) (fun q => absurd (by decide) q)
        refine xt_iconst (0) dX12_after_214 (by decide) ?_
        refine xt_iadd dX12_after_215 ?_
        refine xt_istore dX12_after_216 (by decide) rfl ?_
        change x_T _ _ _ _ [_, _, _, _, _, _, _, _, _, _, _, _, _, _, _, _] _ _ _ _
        refine xt_iload _ dX12_after_218 rfl ?_
        refine xt_iload _ dX12_after_220 rfl ?_
        refine xt_if_eq 235 dX12_after_222 (by decide) (fun _ => ?_) (fun q => absurd (by decide) q)
        refine xt_iconst (0) dX12_after_235 (by decide) ?_
        refine xt_iadd dX12_after_236 ?_
        refine xt_istore dX12_after_237 (by decide) rfl ?_
        change x_T _ _ _ _ [_, _, _, _, _, _, _, _, _, _, _, _, _, _, _, _] _ _ _ _
        refine xt_iload _ dX12_after_239 rfl ?_
        refine xt_if_eq 301 dX12_after_241 (by decide) (fun _ => ?_) (fun q => absurd (by decide) q)
        refine xt_inc _ (1) dX12_after_301 rfl (by decide) (by decide) rfl ?_
        change x_T _ _ _ _ [_, _, _, _, _, _, _, _, _, _, _, _, _, _, _, _] _ _ _ _
        refine xt_goto 53 dX12_after_304 (by decide) ?_
        refine xt_iload _ dX12_after_53 rfl ?_
        refine xt_if_eq 307 dX12_after_55 (by decide) (fun _ => ?_) (fun q => absurd (by decide) q)
        have he : σ = (s_go D n 0 σ0).2 := by rw [← hR, s_go, if_neg (by rw [hb]; decide)]
        rw [he]
        simp only [Int32.add_zero]
        exact hK _ _ _ _ _ _ _ (hf.tr hf3)
    · skip
      obtain ⟨hv1, ha7⟩ := hq3 (by omega)
      obtain ⟨hv2, hv3, hb9, hc9, hb5⟩ := hq4 (by omega)
      by_cases hb : (s_ad σ D m).1 = true
      · have ha : (s_dd D m 1) < σ.1 4 := by
          apply Classical.byContradiction
          intro z
          unfold s_ad s_act at hb
          rw [hs] at hb
          simp [z] at hb
        have hxy := hW.2.2.1 (s_dd D m 1) ha
        have hfg := s_farG_le hW ha hb9 hc9
        have heq : (s_ad σ D m).2 = (s_mg σ.1 (s_dd D m 1) (10 * (s_dd D m 2) + (s_dd D m 3)), s_up σ.2 12 (max (σ.2 12) (s_farG σ.1 (s_dd D m 1) (s_dd D m 2) (s_dd D m 3)))) := by unfold s_ad s_act; rw [hs]; simp [ha, s_wlk]
        · skip
          refine xt_iload _ dX12_after_53 rfl ?_
          refine xt_if_eq 307 dX12_after_55 (by decide) (fun q => absurd q (by decide)) (fun _ => ?_)
          refine xt_iload _ dX12_after_58 rfl ?_
          refine xt_aload_n _ dX12_after_60 rfl ?_
          refine xt_cV _ dX12_after_61 klX12_316 (tX12_deeds sc _ μ2 _ fd n D hfd hd2 hM2) sh152 rfl rfl (Nat.le_of_ble_eq_true rfl) ?_
          rw [hWd.2.1]
          refine xt_icmp_ge 307 dX12_after_64 (by decide) (fun q => absurd q (nI_ge hlt (by omega))) (fun _ => ?_)
          refine xt_aload_n _ dX12_after_67 rfl ?_
          refine xt_iload _ dX12_after_68 rfl ?_
          refine xt_iconst (0) dX12_after_70 (by decide) ?_
          refine xt_cV _ dX12_after_71 klX12_319 (tX12_deedOf sc _ μ2 _ fd n D hfd hWd.1 hd2 hM2 m 0 hlt (by decide)) sh152 rfl rfl (Nat.le_of_ble_eq_true rfl) ?_
          rw [e0, hs]
          change x_T _ _ _ _ _ (.int (nI 3) :: _) _ _ _
          refine xt_istore dX12_after_74 (by decide) rfl ?_
          change x_T _ _ _ _ [_, _, _, _, _, _, _, _, _, _, _, _, _, _, _, _] _ _ _ _
          refine xt_aload_n _ dX12_after_76 rfl ?_
          refine xt_iload _ dX12_after_77 rfl ?_
          refine xt_iconst (1) dX12_after_79 (by decide) ?_
          refine xt_cV _ dX12_after_80 klX12_319 (tX12_deedOf sc _ μ2 _ fd n D hfd hWd.1 hd2 hM2 m 1 hlt (by decide)) sh152 rfl rfl (Nat.le_of_ble_eq_true rfl) ?_
          refine xt_istore dX12_after_83 (by decide) rfl ?_
          change x_T _ _ _ _ [_, _, _, _, _, _, _, _, _, _, _, _, _, _, _, _] _ _ _ _
          refine xt_iload _ dX12_after_85 rfl ?_
          refine xt_iconst (3) dX12_after_87 (by decide) ?_
          refine xt_icmp_ne 134 dX12_after_88 (by decide) (fun q => absurd (by decide) q) (fun _ => ?_)
          refine xt_aload_n _ dX12_after_91 rfl ?_
          refine xt_iload _ dX12_after_92 rfl ?_
          rw [hv1]
          refine xt_cV _ dX12_after_94 klX12_303 (tX12_isGoer sc _ μ2 _ σ.1 h8 hS.1.2.2.2.1 _) sh152 rfl rfl (Nat.le_of_ble_eq_true rfl) ?_
          refine xt_if_eq 134 dX12_after_97 (by decide) (fun q => absurd q (by rw [s_hasG_yes ha h8]; decide)) (fun _ => ?_)
          refine xt_aload_n _ dX12_after_100 rfl ?_
          refine xt_getr _ dX12_after_101 kfX12_41 (by first | exact sh152 | rfl | assumption) rfl ?_
          refine xt_iload _ dX12_after_104 rfl ?_
          refine xt_ald dX12_after_106 (by first | exact sh152 | rfl | assumption) (by exact vp_in_nI (by omega) (by decide)) ?_
          refine xt_aload_n _ dX12_after_107 rfl ?_
          refine xt_getr _ dX12_after_108 kfX12_44 (by first | exact sh152 | rfl | assumption) rfl ?_
          refine xt_iload _ dX12_after_111 rfl ?_
          refine xt_ald dX12_after_113 (by first | exact sh152 | rfl | assumption) (by exact vp_in_nI (by omega) (by decide)) ?_
          refine xt_aload_n _ dX12_after_114 rfl ?_
          refine xt_iload _ dX12_after_115 rfl ?_
          refine xt_iconst (2) dX12_after_117 (by decide) ?_
          refine xt_cV _ dX12_after_118 klX12_319 (tX12_deedOf sc _ μ2 _ fd n D hfd hWd.1 hd2 hM2 m 2 hlt (by decide)) sh152 rfl rfl (Nat.le_of_ble_eq_true rfl) ?_
          rw [hv2]
          refine xt_aload_n _ dX12_after_121 rfl ?_
          refine xt_iload _ dX12_after_122 rfl ?_
          refine xt_iconst (3) dX12_after_124 (by decide) ?_
          refine xt_cV _ dX12_after_125 klX12_319 (tX12_deedOf sc _ μ2 _ fd n D hfd hWd.1 hd2 hM2 m 3 hlt (by decide)) sh152 rfl rfl (Nat.le_of_ble_eq_true rfl) ?_
          rw [hv3]
          refine xt_cS _ dX12_after_128 klX12_290 (tX12_way sc _ μ2 _ _ _ _ _) rfl rfl (Nat.le_of_ble_eq_true rfl) ?_
          rw [nI_clamp (by omega), (hS.2.1 (s_dd D m 1) (by omega)).1, (hS.2.1 (s_dd D m 1) (by omega)).2, s_way_nI (by omega) (by omega) (by omega) (by omega), ← s_ab (σ.1 (25 + (s_dd D m 1))), ← s_ab (σ.1 (33 + (s_dd D m 1)))]
          change x_T _ _ _ _ _ (.int (nI (s_farG σ.1 (s_dd D m 1) (s_dd D m 2) (s_dd D m 3))) :: _) _ _ _
          refine xt_goto 135 dX12_after_131 (by decide) ?_
          refine xt_istore dX12_after_135 (by decide) rfl ?_
          change x_T _ _ _ _ [_, _, _, _, _, _, _, _, _, _, _, _, _, _, _, _] _ _ _ _
          refine xt_aload_n _ dX12_after_137 rfl ?_
          refine xt_iload _ dX12_after_138 rfl ?_
          refine xt_callV _ dX12_after_140 klX12_341 (tX12_doesDeed sc _ μ2 _ f σ hok hm fd n D hfd hWd hd2 hM2 m hlt) sh152 rfl rfl (Nat.le_of_ble_eq_true rfl) (fun r3 μ3 w3 q3 => ?_)
          obtain ⟨rfl, hm3, hf3⟩ := q3
          change x_T _ _ _ _ _ (.int (if (s_ad σ D m).1 then 1 else 0) :: _) _ _ _
          rw [hb]
          change x_T _ _ _ _ _ (.int 1 :: _) _ _ _
          have hd3 : μ3 152 40 = nI fd := hf3.2.1.trans hd2
          have hM3 : d_M μ3 fd n D := fun i hi => by rw [hf3.1 159 (by decide) (by decide) (by decide) (by decide)]; exact hM2 i hi
          refine xt_istore dX12_after_143 (by decide) rfl ?_
          change x_T _ _ _ _ [_, _, _, _, _, _, _, _, _, _, _, _, _, _, _, _] _ _ _ _
          refine xt_iload _ dX12_after_145 rfl ?_
          refine xt_if_eq 160 dX12_after_147 (by decide) (fun q => absurd q (by decide)) (fun _ => ?_)
          refine xt_iload _ dX12_after_150 rfl ?_
          refine xt_iload _ dX12_after_152 rfl ?_
          refine xt_cS _ dX12_after_154 klX12_153 (tX12_greater sc _ _ _ _ _) rfl rfl (Nat.le_of_ble_eq_true rfl) ?_
          refine xt_goto 162 dX12_after_157 (by decide) ?_
          refine xt_istore dX12_after_162 (by decide) rfl ?_
          change x_T _ _ _ _ [_, _, _, _, _, _, _, _, _, _, _, _, _, _, _, _] _ _ _ _
          refine xt_iload _ dX12_after_164 rfl ?_
          refine xt_iload _ dX12_after_166 rfl ?_
          refine xt_if_eq 187 dX12_after_168 (by decide) (fun q => absurd q (by decide)) (fun _ => ?_)
          refine xt_iload _ dX12_after_171 rfl ?_
          refine xt_iconst (4) dX12_after_173 (by decide) ?_
          refine xt_icmp_ne 187 dX12_after_174 (by decide) (fun _ => ?_) (fun q => absurd q (by decide))
          refine xt_iconst (0) dX12_after_187 (by decide) ?_
          refine xt_iadd dX12_after_188 ?_
          refine xt_istore dX12_after_189 (by decide) rfl ?_
          change x_T _ _ _ _ [_, _, _, _, _, _, _, _, _, _, _, _, _, _, _, _] _ _ _ _
          refine xt_iload _ dX12_after_191 rfl ?_
          refine xt_iload _ dX12_after_193 rfl ?_
          refine xt_if_eq 214 dX12_after_195 (by decide) (fun q => absurd q (by decide)) (fun _ => ?_)
          refine xt_iload _ dX12_after_198 rfl ?_
          refine xt_iconst (5) dX12_after_200 (by decide) ?_
          refine xt_icmp_ne 214 dX12_after_201 (by decide) (fun _ => ?_) (fun q => absurd q (by decide))
          refine xt_iconst (0) dX12_after_214 (by decide) ?_
          refine xt_iadd dX12_after_215 ?_
          refine xt_istore dX12_after_216 (by decide) rfl ?_
          change x_T _ _ _ _ [_, _, _, _, _, _, _, _, _, _, _, _, _, _, _, _] _ _ _ _
          refine xt_iload _ dX12_after_218 rfl ?_
          refine xt_iload _ dX12_after_220 rfl ?_
          refine xt_if_eq 235 dX12_after_222 (by decide) (fun q => absurd q (by decide)) (fun _ => ?_)
          refine xt_iload _ dX12_after_225 rfl ?_
          refine xt_iconst (2) dX12_after_227 (by decide) ?_
          refine xt_icmp_ne 235 dX12_after_228 (by decide) (fun _ => ?_) (fun q => absurd q (by decide))
          refine xt_iconst (0) dX12_after_235 (by decide) ?_
          refine xt_iadd dX12_after_236 ?_
          refine xt_istore dX12_after_237 (by decide) rfl ?_
          change x_T _ _ _ _ [_, _, _, _, _, _, _, _, _, _, _, _, _, _, _, _] _ _ _ _
          refine xt_iload _ dX12_after_239 rfl ?_
          refine xt_if_eq 301 dX12_after_241 (by decide) (fun q => absurd q (by decide)) (fun _ => ?_)
          refine xt_iload _ dX12_after_244 rfl ?_
          refine xt_if_ne 301 dX12_after_246 (by decide) (fun _ => ?_) (fun q => absurd q (by decide))
          refine xt_inc _ (1) dX12_after_301 rfl (by decide) (by decide) rfl ?_
          change x_T _ _ _ _ [_, _, _, _, _, _, _, _, _, _, _, _, _, _, _, _] _ _ _ _
          refine xt_goto 53 dX12_after_304 (by decide) ?_
          refine x_T.ls ?_ (ih (m + 1) μ3 w3 (s_ad σ D m).2 (.int (nI 3)) (.int (nI (s_dd D m 1))) (.int (nI (s_farG σ.1 (s_dd D m 1) (s_dd D m 2) (s_dd D m 3)))) (by omega) (s_ad_ok hWd hlt hok) hm3 (hf.tr hf3) (by rw [← hR, s_go, if_pos hb]))
          rw [heq, nI_succ m, Int32.add_zero, Int32.add_zero, Int32.add_zero, s_gr_nI (by omega) (by omega)]
          rfl
      · have hb : (s_ad σ D m).1 = false := by cases hz : (s_ad σ D m).1 <;> simp_all
        have ha : ¬ (s_dd D m 1) < σ.1 4 := by
          intro z
          unfold s_ad s_act at hb
          rw [hs] at hb
          simp [z, s_wlk] at hb
        · skip
          refine xt_iload _ dX12_after_53 rfl ?_
          refine xt_if_eq 307 dX12_after_55 (by decide) (fun q => absurd q (by decide)) (fun _ => ?_)
          refine xt_iload _ dX12_after_58 rfl ?_
          refine xt_aload_n _ dX12_after_60 rfl ?_
          refine xt_cV _ dX12_after_61 klX12_316 (tX12_deeds sc _ μ2 _ fd n D hfd hd2 hM2) sh152 rfl rfl (Nat.le_of_ble_eq_true rfl) ?_
          rw [hWd.2.1]
          refine xt_icmp_ge 307 dX12_after_64 (by decide) (fun q => absurd q (nI_ge hlt (by omega))) (fun _ => ?_)
          refine xt_aload_n _ dX12_after_67 rfl ?_
          refine xt_iload _ dX12_after_68 rfl ?_
          refine xt_iconst (0) dX12_after_70 (by decide) ?_
          refine xt_cV _ dX12_after_71 klX12_319 (tX12_deedOf sc _ μ2 _ fd n D hfd hWd.1 hd2 hM2 m 0 hlt (by decide)) sh152 rfl rfl (Nat.le_of_ble_eq_true rfl) ?_
          rw [e0, hs]
          change x_T _ _ _ _ _ (.int (nI 3) :: _) _ _ _
          refine xt_istore dX12_after_74 (by decide) rfl ?_
          change x_T _ _ _ _ [_, _, _, _, _, _, _, _, _, _, _, _, _, _, _, _] _ _ _ _
          refine xt_aload_n _ dX12_after_76 rfl ?_
          refine xt_iload _ dX12_after_77 rfl ?_
          refine xt_iconst (1) dX12_after_79 (by decide) ?_
          refine xt_cV _ dX12_after_80 klX12_319 (tX12_deedOf sc _ μ2 _ fd n D hfd hWd.1 hd2 hM2 m 1 hlt (by decide)) sh152 rfl rfl (Nat.le_of_ble_eq_true rfl) ?_
          refine xt_istore dX12_after_83 (by decide) rfl ?_
          change x_T _ _ _ _ [_, _, _, _, _, _, _, _, _, _, _, _, _, _, _, _] _ _ _ _
          refine xt_iload _ dX12_after_85 rfl ?_
          refine xt_iconst (3) dX12_after_87 (by decide) ?_
          refine xt_icmp_ne 134 dX12_after_88 (by decide) (fun q => absurd (by decide) q) (fun _ => ?_)
          refine xt_aload_n _ dX12_after_91 rfl ?_
          refine xt_iload _ dX12_after_92 rfl ?_
          rw [hv1]
          refine xt_cV _ dX12_after_94 klX12_303 (tX12_isGoer sc _ μ2 _ σ.1 h8 hS.1.2.2.2.1 _) sh152 rfl rfl (Nat.le_of_ble_eq_true rfl) ?_
          refine xt_if_eq 134 dX12_after_97 (by decide) (fun _ => ?_) (fun q => absurd (s_hasG_no (fun z => ha ((nI_ltI (by omega) (by omega)).mp z.2))) q)
          refine xt_iconst (0) dX12_after_134 (by decide) ?_
          refine xt_istore dX12_after_135 (by decide) rfl ?_
          change x_T _ _ _ _ [_, _, _, _, _, _, _, _, _, _, _, _, _, _, _, _] _ _ _ _
          refine xt_aload_n _ dX12_after_137 rfl ?_
          refine xt_iload _ dX12_after_138 rfl ?_
          refine xt_callV _ dX12_after_140 klX12_341 (tX12_doesDeed sc _ μ2 _ f σ hok hm fd n D hfd hWd hd2 hM2 m hlt) sh152 rfl rfl (Nat.le_of_ble_eq_true rfl) (fun r3 μ3 w3 q3 => ?_)
          obtain ⟨rfl, hm3, hf3⟩ := q3
          change x_T _ _ _ _ _ (.int (if (s_ad σ D m).1 then 1 else 0) :: _) _ _ _
          rw [hb]
          change x_T _ _ _ _ _ (.int 0 :: _) _ _ _
          have hd3 : μ3 152 40 = nI fd := hf3.2.1.trans hd2
          have hM3 : d_M μ3 fd n D := fun i hi => by rw [hf3.1 159 (by decide) (by decide) (by decide) (by decide)]; exact hM2 i hi
          refine xt_istore dX12_after_143 (by decide) rfl ?_
          change x_T _ _ _ _ [_, _, _, _, _, _, _, _, _, _, _, _, _, _, _, _] _ _ _ _
          refine xt_iload _ dX12_after_145 rfl ?_
          refine xt_if_eq 160 dX12_after_147 (by decide) (fun _ => ?_) (fun q => absurd (by decide) q)
          refine xt_iload _ dX12_after_160 rfl ?_
          refine xt_istore dX12_after_162 (by decide) rfl ?_
          change x_T _ _ _ _ [_, _, _, _, _, _, _, _, _, _, _, _, _, _, _, _] _ _ _ _
          refine xt_iload _ dX12_after_164 rfl ?_
          refine xt_iload _ dX12_after_166 rfl ?_
          refine xt_if_eq 187 dX12_after_168 (by decide) (fun _ => ?_) (fun q => absurd (by decide) q)
          refine xt_iconst (0) dX12_after_187 (by decide) ?_
          refine xt_iadd dX12_after_188 ?_
          refine xt_istore dX12_after_189 (by decide) rfl ?_
          change x_T _ _ _ _ [_, _, _, _, _, _, _, _, _, _, _, _, _, _, _, _] _ _ _ _
          refine xt_iload _ dX12_after_191 rfl ?_
          refine xt_iload _ dX12_after_193 rfl ?_
          refine xt_if_eq 214 dX12_after_195 (by decide) (fun _ => ?_) (fun q => absurd (by decide) q)
          refine xt_iconst (0) dX12_after_214 (by decide) ?_
          refine xt_iadd dX12_after_215 ?_
          refine xt_istore dX12_after_216 (by decide) rfl ?_
          change x_T _ _ _ _ [_, _, _, _, _, _, _, _, _, _, _, _, _, _, _, _] _ _ _ _
          refine xt_iload _ dX12_after_218 rfl ?_
          refine xt_iload _ dX12_after_220 rfl ?_
          refine xt_if_eq 235 dX12_after_222 (by decide) (fun _ => ?_) (fun q => absurd (by decide) q)
          refine xt_iconst (0) dX12_after_235 (by decide) ?_
          refine xt_iadd dX12_after_236 ?_
          refine xt_istore dX12_after_237 (by decide) rfl ?_
          change x_T _ _ _ _ [_, _, _, _, _, _, _, _, _, _, _, _, _, _, _, _] _ _ _ _
          refine xt_iload _ dX12_after_239 rfl ?_
          refine xt_if_eq 301 dX12_after_241 (by decide) (fun _ => ?_) (fun q => absurd (by decide) q)
          refine xt_inc _ (1) dX12_after_301 rfl (by decide) (by decide) rfl ?_
          change x_T _ _ _ _ [_, _, _, _, _, _, _, _, _, _, _, _, _, _, _, _] _ _ _ _
          refine xt_goto 53 dX12_after_304 (by decide) ?_
          refine xt_iload _ dX12_after_53 rfl ?_
          refine xt_if_eq 307 dX12_after_55 (by decide) (fun _ => ?_) (fun q => absurd (by decide) q)
          have he : σ = (s_go D n 0 σ0).2 := by rw [← hR, s_go, if_neg (by rw [hb]; decide)]
          rw [he]
          simp only [Int32.add_zero]
          exact hK _ _ _ _ _ _ _ (hf.tr hf3)
    · skip
      obtain ⟨hv1, ha7⟩ := hq3 (by omega)
      obtain ⟨hv2, hv3, hb9, hc9, hb5⟩ := hq4 (by omega)
      by_cases hb : (s_ad σ D m).1 = true
      · have heq : (s_ad σ D m).2 = (s_up σ.1 (41 + (6 * (s_dd D m 1) + (s_dd D m 2))) (σ.1 (41 + (6 * (s_dd D m 1) + (s_dd D m 2))) - (s_dd D m 3)), s_up σ.2 10 (σ.2 10 + (s_dd D m 3))) := by exact s_ad_4 hs hb
        refine xt_iload _ dX12_after_53 rfl ?_
        refine xt_if_eq 307 dX12_after_55 (by decide) (fun q => absurd q (by decide)) (fun _ => ?_)
        refine xt_iload _ dX12_after_58 rfl ?_
        refine xt_aload_n _ dX12_after_60 rfl ?_
        refine xt_cV _ dX12_after_61 klX12_316 (tX12_deeds sc _ μ2 _ fd n D hfd hd2 hM2) sh152 rfl rfl (Nat.le_of_ble_eq_true rfl) ?_
        rw [hWd.2.1]
        refine xt_icmp_ge 307 dX12_after_64 (by decide) (fun q => absurd q (nI_ge hlt (by omega))) (fun _ => ?_)
        refine xt_aload_n _ dX12_after_67 rfl ?_
        refine xt_iload _ dX12_after_68 rfl ?_
        refine xt_iconst (0) dX12_after_70 (by decide) ?_
        refine xt_cV _ dX12_after_71 klX12_319 (tX12_deedOf sc _ μ2 _ fd n D hfd hWd.1 hd2 hM2 m 0 hlt (by decide)) sh152 rfl rfl (Nat.le_of_ble_eq_true rfl) ?_
        rw [e0, hs]
        change x_T _ _ _ _ _ (.int (nI 4) :: _) _ _ _
        refine xt_istore dX12_after_74 (by decide) rfl ?_
        change x_T _ _ _ _ [_, _, _, _, _, _, _, _, _, _, _, _, _, _, _, _] _ _ _ _
        refine xt_aload_n _ dX12_after_76 rfl ?_
        refine xt_iload _ dX12_after_77 rfl ?_
        refine xt_iconst (1) dX12_after_79 (by decide) ?_
        refine xt_cV _ dX12_after_80 klX12_319 (tX12_deedOf sc _ μ2 _ fd n D hfd hWd.1 hd2 hM2 m 1 hlt (by decide)) sh152 rfl rfl (Nat.le_of_ble_eq_true rfl) ?_
        refine xt_istore dX12_after_83 (by decide) rfl ?_
        change x_T _ _ _ _ [_, _, _, _, _, _, _, _, _, _, _, _, _, _, _, _] _ _ _ _
        refine xt_iload _ dX12_after_85 rfl ?_
        refine xt_iconst (3) dX12_after_87 (by decide) ?_
        refine xt_icmp_ne 134 dX12_after_88 (by decide) (fun _ => ?_) (fun q => absurd q (by decide))
        refine xt_iconst (0) dX12_after_134 (by decide) ?_
        refine xt_istore dX12_after_135 (by decide) rfl ?_
        change x_T _ _ _ _ [_, _, _, _, _, _, _, _, _, _, _, _, _, _, _, _] _ _ _ _
        refine xt_aload_n _ dX12_after_137 rfl ?_
        refine xt_iload _ dX12_after_138 rfl ?_
        refine xt_callV _ dX12_after_140 klX12_341 (tX12_doesDeed sc _ μ2 _ f σ hok hm fd n D hfd hWd hd2 hM2 m hlt) sh152 rfl rfl (Nat.le_of_ble_eq_true rfl) (fun r3 μ3 w3 q3 => ?_)
        obtain ⟨rfl, hm3, hf3⟩ := q3
        change x_T _ _ _ _ _ (.int (if (s_ad σ D m).1 then 1 else 0) :: _) _ _ _
        rw [hb]
        change x_T _ _ _ _ _ (.int 1 :: _) _ _ _
        have hd3 : μ3 152 40 = nI fd := hf3.2.1.trans hd2
        have hM3 : d_M μ3 fd n D := fun i hi => by rw [hf3.1 159 (by decide) (by decide) (by decide) (by decide)]; exact hM2 i hi
        refine xt_istore dX12_after_143 (by decide) rfl ?_
        change x_T _ _ _ _ [_, _, _, _, _, _, _, _, _, _, _, _, _, _, _, _] _ _ _ _
        refine xt_iload _ dX12_after_145 rfl ?_
        refine xt_if_eq 160 dX12_after_147 (by decide) (fun q => absurd q (by decide)) (fun _ => ?_)
        refine xt_iload _ dX12_after_150 rfl ?_
        refine xt_iload _ dX12_after_152 rfl ?_
        refine xt_cS _ dX12_after_154 klX12_153 (tX12_greater sc _ _ _ _ _) rfl rfl (Nat.le_of_ble_eq_true rfl) ?_
        refine xt_goto 162 dX12_after_157 (by decide) ?_
        refine xt_istore dX12_after_162 (by decide) rfl ?_
        change x_T _ _ _ _ [_, _, _, _, _, _, _, _, _, _, _, _, _, _, _, _] _ _ _ _
        refine xt_iload _ dX12_after_164 rfl ?_
        refine xt_iload _ dX12_after_166 rfl ?_
        refine xt_if_eq 187 dX12_after_168 (by decide) (fun q => absurd q (by decide)) (fun _ => ?_)
        refine xt_iload _ dX12_after_171 rfl ?_
        refine xt_iconst (4) dX12_after_173 (by decide) ?_
        refine xt_icmp_ne 187 dX12_after_174 (by decide) (fun q => absurd (by decide) q) (fun _ => ?_)
        refine xt_aload_n _ dX12_after_177 rfl ?_
        refine xt_iload _ dX12_after_178 rfl ?_
        refine xt_iconst (3) dX12_after_180 (by decide) ?_
        refine xt_cV _ dX12_after_181 klX12_319 (tX12_deedOf sc _ μ3 _ fd n D hfd hWd.1 hd3 hM3 m 3 hlt (by decide)) sh152 rfl rfl (Nat.le_of_ble_eq_true rfl) ?_
        refine xt_goto 188 dX12_after_184 (by decide) ?_
        refine xt_iadd dX12_after_188 ?_
        refine xt_istore dX12_after_189 (by decide) rfl ?_
        change x_T _ _ _ _ [_, _, _, _, _, _, _, _, _, _, _, _, _, _, _, _] _ _ _ _
        refine xt_iload _ dX12_after_191 rfl ?_
        refine xt_iload _ dX12_after_193 rfl ?_
        refine xt_if_eq 214 dX12_after_195 (by decide) (fun q => absurd q (by decide)) (fun _ => ?_)
        refine xt_iload _ dX12_after_198 rfl ?_
        refine xt_iconst (5) dX12_after_200 (by decide) ?_
        refine xt_icmp_ne 214 dX12_after_201 (by decide) (fun _ => ?_) (fun q => absurd q (by decide))
        refine xt_iconst (0) dX12_after_214 (by decide) ?_
        refine xt_iadd dX12_after_215 ?_
        refine xt_istore dX12_after_216 (by decide) rfl ?_
        change x_T _ _ _ _ [_, _, _, _, _, _, _, _, _, _, _, _, _, _, _, _] _ _ _ _
        refine xt_iload _ dX12_after_218 rfl ?_
        refine xt_iload _ dX12_after_220 rfl ?_
        refine xt_if_eq 235 dX12_after_222 (by decide) (fun q => absurd q (by decide)) (fun _ => ?_)
        refine xt_iload _ dX12_after_225 rfl ?_
        refine xt_iconst (2) dX12_after_227 (by decide) ?_
        refine xt_icmp_ne 235 dX12_after_228 (by decide) (fun _ => ?_) (fun q => absurd q (by decide))
        refine xt_iconst (0) dX12_after_235 (by decide) ?_
        refine xt_iadd dX12_after_236 ?_
        refine xt_istore dX12_after_237 (by decide) rfl ?_
        change x_T _ _ _ _ [_, _, _, _, _, _, _, _, _, _, _, _, _, _, _, _] _ _ _ _
        refine xt_iload _ dX12_after_239 rfl ?_
        refine xt_if_eq 301 dX12_after_241 (by decide) (fun q => absurd q (by decide)) (fun _ => ?_)
        refine xt_iload _ dX12_after_244 rfl ?_
        refine xt_if_ne 301 dX12_after_246 (by decide) (fun _ => ?_) (fun q => absurd q (by decide))
        refine xt_inc _ (1) dX12_after_301 rfl (by decide) (by decide) rfl ?_
        change x_T _ _ _ _ [_, _, _, _, _, _, _, _, _, _, _, _, _, _, _, _] _ _ _ _
        refine xt_goto 53 dX12_after_304 (by decide) ?_
        refine x_T.ls ?_ (ih (m + 1) μ3 w3 (s_ad σ D m).2 (.int (nI 4)) (.int (D (1 + (4 * m + 1)))) (.int 0) (by omega) (s_ad_ok hWd hlt hok) hm3 (hf.tr hf3) (by rw [← hR, s_go, if_pos hb]))
        rw [heq, nI_succ m, Int32.add_zero, Int32.add_zero, show s_gr (nI (σ.2 12)) 0 = nI (σ.2 12) from s_gr_z (by omega), hv3, nI_add]
        rfl
      · have hb : (s_ad σ D m).1 = false := by cases hz : (s_ad σ D m).1 <;> simp_all
        refine xt_iload _ dX12_after_53 rfl ?_
        refine xt_if_eq 307 dX12_after_55 (by decide) (fun q => absurd q (by decide)) (fun _ => ?_)
        refine xt_iload _ dX12_after_58 rfl ?_
        refine xt_aload_n _ dX12_after_60 rfl ?_
        refine xt_cV _ dX12_after_61 klX12_316 (tX12_deeds sc _ μ2 _ fd n D hfd hd2 hM2) sh152 rfl rfl (Nat.le_of_ble_eq_true rfl) ?_
        rw [hWd.2.1]
        refine xt_icmp_ge 307 dX12_after_64 (by decide) (fun q => absurd q (nI_ge hlt (by omega))) (fun _ => ?_)
        refine xt_aload_n _ dX12_after_67 rfl ?_
        refine xt_iload _ dX12_after_68 rfl ?_
        refine xt_iconst (0) dX12_after_70 (by decide) ?_
        refine xt_cV _ dX12_after_71 klX12_319 (tX12_deedOf sc _ μ2 _ fd n D hfd hWd.1 hd2 hM2 m 0 hlt (by decide)) sh152 rfl rfl (Nat.le_of_ble_eq_true rfl) ?_
        rw [e0, hs]
        change x_T _ _ _ _ _ (.int (nI 4) :: _) _ _ _
        refine xt_istore dX12_after_74 (by decide) rfl ?_
        change x_T _ _ _ _ [_, _, _, _, _, _, _, _, _, _, _, _, _, _, _, _] _ _ _ _
        refine xt_aload_n _ dX12_after_76 rfl ?_
        refine xt_iload _ dX12_after_77 rfl ?_
        refine xt_iconst (1) dX12_after_79 (by decide) ?_
        refine xt_cV _ dX12_after_80 klX12_319 (tX12_deedOf sc _ μ2 _ fd n D hfd hWd.1 hd2 hM2 m 1 hlt (by decide)) sh152 rfl rfl (Nat.le_of_ble_eq_true rfl) ?_
        refine xt_istore dX12_after_83 (by decide) rfl ?_
        change x_T _ _ _ _ [_, _, _, _, _, _, _, _, _, _, _, _, _, _, _, _] _ _ _ _
        refine xt_iload _ dX12_after_85 rfl ?_
        refine xt_iconst (3) dX12_after_87 (by decide) ?_
        refine xt_icmp_ne 134 dX12_after_88 (by decide) (fun _ => ?_) (fun q => absurd q (by decide))
        refine xt_iconst (0) dX12_after_134 (by decide) ?_
        refine xt_istore dX12_after_135 (by decide) rfl ?_
        change x_T _ _ _ _ [_, _, _, _, _, _, _, _, _, _, _, _, _, _, _, _] _ _ _ _
        refine xt_aload_n _ dX12_after_137 rfl ?_
        refine xt_iload _ dX12_after_138 rfl ?_
        refine xt_callV _ dX12_after_140 klX12_341 (tX12_doesDeed sc _ μ2 _ f σ hok hm fd n D hfd hWd hd2 hM2 m hlt) sh152 rfl rfl (Nat.le_of_ble_eq_true rfl) (fun r3 μ3 w3 q3 => ?_)
        obtain ⟨rfl, hm3, hf3⟩ := q3
        change x_T _ _ _ _ _ (.int (if (s_ad σ D m).1 then 1 else 0) :: _) _ _ _
        rw [hb]
        change x_T _ _ _ _ _ (.int 0 :: _) _ _ _
        have hd3 : μ3 152 40 = nI fd := hf3.2.1.trans hd2
        have hM3 : d_M μ3 fd n D := fun i hi => by rw [hf3.1 159 (by decide) (by decide) (by decide) (by decide)]; exact hM2 i hi
        refine xt_istore dX12_after_143 (by decide) rfl ?_
        change x_T _ _ _ _ [_, _, _, _, _, _, _, _, _, _, _, _, _, _, _, _] _ _ _ _
        refine xt_iload _ dX12_after_145 rfl ?_
        refine xt_if_eq 160 dX12_after_147 (by decide) (fun _ => ?_) (fun q => absurd (by decide) q)
        refine xt_iload _ dX12_after_160 rfl ?_
        refine xt_istore dX12_after_162 (by decide) rfl ?_
        change x_T _ _ _ _ [_, _, _, _, _, _, _, _, _, _, _, _, _, _, _, _] _ _ _ _
        refine xt_iload _ dX12_after_164 rfl ?_
        refine xt_iload _ dX12_after_166 rfl ?_
        refine xt_if_eq 187 dX12_after_168 (by decide) (fun _ => ?_) (fun q => absurd (by decide) q)
        refine xt_iconst (0) dX12_after_187 (by decide) ?_
        refine xt_iadd dX12_after_188 ?_
        refine xt_istore dX12_after_189 (by decide) rfl ?_
        change x_T _ _ _ _ [_, _, _, _, _, _, _, _, _, _, _, _, _, _, _, _] _ _ _ _
        refine xt_iload _ dX12_after_191 rfl ?_
        refine xt_iload _ dX12_after_193 rfl ?_
        refine xt_if_eq 214 dX12_after_195 (by decide) (fun _ => ?_) (fun q => absurd (by decide) q)
        refine xt_iconst (0) dX12_after_214 (by decide) ?_
        refine xt_iadd dX12_after_215 ?_
        refine xt_istore dX12_after_216 (by decide) rfl ?_
        change x_T _ _ _ _ [_, _, _, _, _, _, _, _, _, _, _, _, _, _, _, _] _ _ _ _
        refine xt_iload _ dX12_after_218 rfl ?_
        refine xt_iload _ dX12_after_220 rfl ?_
        refine xt_if_eq 235 dX12_after_222 (by decide) (fun _ => ?_) (fun q => absurd (by decide) q)
        refine xt_iconst (0) dX12_after_235 (by decide) ?_
        refine xt_iadd dX12_after_236 ?_
        refine xt_istore dX12_after_237 (by decide) rfl ?_
        change x_T _ _ _ _ [_, _, _, _, _, _, _, _, _, _, _, _, _, _, _, _] _ _ _ _
        refine xt_iload _ dX12_after_239 rfl ?_
        refine xt_if_eq 301 dX12_after_241 (by decide) (fun _ => ?_) (fun q => absurd (by decide) q)
        refine xt_inc _ (1) dX12_after_301 rfl (by decide) (by decide) rfl ?_
        change x_T _ _ _ _ [_, _, _, _, _, _, _, _, _, _, _, _, _, _, _, _] _ _ _ _
        refine xt_goto 53 dX12_after_304 (by decide) ?_
        refine xt_iload _ dX12_after_53 rfl ?_
        refine xt_if_eq 307 dX12_after_55 (by decide) (fun _ => ?_) (fun q => absurd (by decide) q)
        have he : σ = (s_go D n 0 σ0).2 := by rw [← hR, s_go, if_neg (by rw [hb]; decide)]
        rw [he]
        simp only [Int32.add_zero]
        exact hK _ _ _ _ _ _ _ (hf.tr hf3)
    · skip
      obtain ⟨hv1, ha7⟩ := hq3 (by omega)
      obtain ⟨hv2, hv3, hb9, hc9, hb5⟩ := hq4 (by omega)
      by_cases hb : (s_ad σ D m).1 = true
      · have heq : (s_ad σ D m).2 = (s_up σ.1 (41 + (6 * (s_dd D m 1) + (s_dd D m 2))) (σ.1 (41 + (6 * (s_dd D m 1) + (s_dd D m 2))) + (s_dd D m 3)), s_up σ.2 11 (σ.2 11 + (s_dd D m 3))) := by exact s_ad_5 hs hb
        refine xt_iload _ dX12_after_53 rfl ?_
        refine xt_if_eq 307 dX12_after_55 (by decide) (fun q => absurd q (by decide)) (fun _ => ?_)
        refine xt_iload _ dX12_after_58 rfl ?_
        refine xt_aload_n _ dX12_after_60 rfl ?_
        refine xt_cV _ dX12_after_61 klX12_316 (tX12_deeds sc _ μ2 _ fd n D hfd hd2 hM2) sh152 rfl rfl (Nat.le_of_ble_eq_true rfl) ?_
        rw [hWd.2.1]
        refine xt_icmp_ge 307 dX12_after_64 (by decide) (fun q => absurd q (nI_ge hlt (by omega))) (fun _ => ?_)
        refine xt_aload_n _ dX12_after_67 rfl ?_
        refine xt_iload _ dX12_after_68 rfl ?_
        refine xt_iconst (0) dX12_after_70 (by decide) ?_
        refine xt_cV _ dX12_after_71 klX12_319 (tX12_deedOf sc _ μ2 _ fd n D hfd hWd.1 hd2 hM2 m 0 hlt (by decide)) sh152 rfl rfl (Nat.le_of_ble_eq_true rfl) ?_
        rw [e0, hs]
        change x_T _ _ _ _ _ (.int (nI 5) :: _) _ _ _
        refine xt_istore dX12_after_74 (by decide) rfl ?_
        change x_T _ _ _ _ [_, _, _, _, _, _, _, _, _, _, _, _, _, _, _, _] _ _ _ _
        refine xt_aload_n _ dX12_after_76 rfl ?_
        refine xt_iload _ dX12_after_77 rfl ?_
        refine xt_iconst (1) dX12_after_79 (by decide) ?_
        refine xt_cV _ dX12_after_80 klX12_319 (tX12_deedOf sc _ μ2 _ fd n D hfd hWd.1 hd2 hM2 m 1 hlt (by decide)) sh152 rfl rfl (Nat.le_of_ble_eq_true rfl) ?_
        refine xt_istore dX12_after_83 (by decide) rfl ?_
        change x_T _ _ _ _ [_, _, _, _, _, _, _, _, _, _, _, _, _, _, _, _] _ _ _ _
        refine xt_iload _ dX12_after_85 rfl ?_
        refine xt_iconst (3) dX12_after_87 (by decide) ?_
        refine xt_icmp_ne 134 dX12_after_88 (by decide) (fun _ => ?_) (fun q => absurd q (by decide))
        refine xt_iconst (0) dX12_after_134 (by decide) ?_
        refine xt_istore dX12_after_135 (by decide) rfl ?_
        change x_T _ _ _ _ [_, _, _, _, _, _, _, _, _, _, _, _, _, _, _, _] _ _ _ _
        refine xt_aload_n _ dX12_after_137 rfl ?_
        refine xt_iload _ dX12_after_138 rfl ?_
        refine xt_callV _ dX12_after_140 klX12_341 (tX12_doesDeed sc _ μ2 _ f σ hok hm fd n D hfd hWd hd2 hM2 m hlt) sh152 rfl rfl (Nat.le_of_ble_eq_true rfl) (fun r3 μ3 w3 q3 => ?_)
        obtain ⟨rfl, hm3, hf3⟩ := q3
        change x_T _ _ _ _ _ (.int (if (s_ad σ D m).1 then 1 else 0) :: _) _ _ _
        rw [hb]
        change x_T _ _ _ _ _ (.int 1 :: _) _ _ _
        have hd3 : μ3 152 40 = nI fd := hf3.2.1.trans hd2
        have hM3 : d_M μ3 fd n D := fun i hi => by rw [hf3.1 159 (by decide) (by decide) (by decide) (by decide)]; exact hM2 i hi
        refine xt_istore dX12_after_143 (by decide) rfl ?_
        change x_T _ _ _ _ [_, _, _, _, _, _, _, _, _, _, _, _, _, _, _, _] _ _ _ _
        refine xt_iload _ dX12_after_145 rfl ?_
        refine xt_if_eq 160 dX12_after_147 (by decide) (fun q => absurd q (by decide)) (fun _ => ?_)
        refine xt_iload _ dX12_after_150 rfl ?_
        refine xt_iload _ dX12_after_152 rfl ?_
        refine xt_cS _ dX12_after_154 klX12_153 (tX12_greater sc _ _ _ _ _) rfl rfl (Nat.le_of_ble_eq_true rfl) ?_
        refine xt_goto 162 dX12_after_157 (by decide) ?_
        refine xt_istore dX12_after_162 (by decide) rfl ?_
        change x_T _ _ _ _ [_, _, _, _, _, _, _, _, _, _, _, _, _, _, _, _] _ _ _ _
        refine xt_iload _ dX12_after_164 rfl ?_
        refine xt_iload _ dX12_after_166 rfl ?_
        refine xt_if_eq 187 dX12_after_168 (by decide) (fun q => absurd q (by decide)) (fun _ => ?_)
        refine xt_iload _ dX12_after_171 rfl ?_
        refine xt_iconst (4) dX12_after_173 (by decide) ?_
        refine xt_icmp_ne 187 dX12_after_174 (by decide) (fun _ => ?_) (fun q => absurd q (by decide))
        refine xt_iconst (0) dX12_after_187 (by decide) ?_
        refine xt_iadd dX12_after_188 ?_
        refine xt_istore dX12_after_189 (by decide) rfl ?_
        change x_T _ _ _ _ [_, _, _, _, _, _, _, _, _, _, _, _, _, _, _, _] _ _ _ _
        refine xt_iload _ dX12_after_191 rfl ?_
        refine xt_iload _ dX12_after_193 rfl ?_
        refine xt_if_eq 214 dX12_after_195 (by decide) (fun q => absurd q (by decide)) (fun _ => ?_)
        refine xt_iload _ dX12_after_198 rfl ?_
        refine xt_iconst (5) dX12_after_200 (by decide) ?_
        refine xt_icmp_ne 214 dX12_after_201 (by decide) (fun q => absurd (by decide) q) (fun _ => ?_)
        refine xt_aload_n _ dX12_after_204 rfl ?_
        refine xt_iload _ dX12_after_205 rfl ?_
        refine xt_iconst (3) dX12_after_207 (by decide) ?_
        refine xt_cV _ dX12_after_208 klX12_319 (tX12_deedOf sc _ μ3 _ fd n D hfd hWd.1 hd3 hM3 m 3 hlt (by decide)) sh152 rfl rfl (Nat.le_of_ble_eq_true rfl) ?_
        refine xt_goto 215 dX12_after_211 (by decide) ?_
        refine xt_iadd dX12_after_215 ?_
        refine xt_istore dX12_after_216 (by decide) rfl ?_
        change x_T _ _ _ _ [_, _, _, _, _, _, _, _, _, _, _, _, _, _, _, _] _ _ _ _
        refine xt_iload _ dX12_after_218 rfl ?_
        refine xt_iload _ dX12_after_220 rfl ?_
        refine xt_if_eq 235 dX12_after_222 (by decide) (fun q => absurd q (by decide)) (fun _ => ?_)
        refine xt_iload _ dX12_after_225 rfl ?_
        refine xt_iconst (2) dX12_after_227 (by decide) ?_
        refine xt_icmp_ne 235 dX12_after_228 (by decide) (fun _ => ?_) (fun q => absurd q (by decide))
        refine xt_iconst (0) dX12_after_235 (by decide) ?_
        refine xt_iadd dX12_after_236 ?_
        refine xt_istore dX12_after_237 (by decide) rfl ?_
        change x_T _ _ _ _ [_, _, _, _, _, _, _, _, _, _, _, _, _, _, _, _] _ _ _ _
        refine xt_iload _ dX12_after_239 rfl ?_
        refine xt_if_eq 301 dX12_after_241 (by decide) (fun q => absurd q (by decide)) (fun _ => ?_)
        refine xt_iload _ dX12_after_244 rfl ?_
        refine xt_if_ne 301 dX12_after_246 (by decide) (fun _ => ?_) (fun q => absurd q (by decide))
        refine xt_inc _ (1) dX12_after_301 rfl (by decide) (by decide) rfl ?_
        change x_T _ _ _ _ [_, _, _, _, _, _, _, _, _, _, _, _, _, _, _, _] _ _ _ _
        refine xt_goto 53 dX12_after_304 (by decide) ?_
        refine x_T.ls ?_ (ih (m + 1) μ3 w3 (s_ad σ D m).2 (.int (nI 5)) (.int (D (1 + (4 * m + 1)))) (.int 0) (by omega) (s_ad_ok hWd hlt hok) hm3 (hf.tr hf3) (by rw [← hR, s_go, if_pos hb]))
        rw [heq, nI_succ m, Int32.add_zero, Int32.add_zero, show s_gr (nI (σ.2 12)) 0 = nI (σ.2 12) from s_gr_z (by omega), hv3, nI_add]
        rfl
      · have hb : (s_ad σ D m).1 = false := by cases hz : (s_ad σ D m).1 <;> simp_all
        refine xt_iload _ dX12_after_53 rfl ?_
        refine xt_if_eq 307 dX12_after_55 (by decide) (fun q => absurd q (by decide)) (fun _ => ?_)
        refine xt_iload _ dX12_after_58 rfl ?_
        refine xt_aload_n _ dX12_after_60 rfl ?_
        refine xt_cV _ dX12_after_61 klX12_316 (tX12_deeds sc _ μ2 _ fd n D hfd hd2 hM2) sh152 rfl rfl (Nat.le_of_ble_eq_true rfl) ?_
        rw [hWd.2.1]
        refine xt_icmp_ge 307 dX12_after_64 (by decide) (fun q => absurd q (nI_ge hlt (by omega))) (fun _ => ?_)
        refine xt_aload_n _ dX12_after_67 rfl ?_
        refine xt_iload _ dX12_after_68 rfl ?_
        refine xt_iconst (0) dX12_after_70 (by decide) ?_
        refine xt_cV _ dX12_after_71 klX12_319 (tX12_deedOf sc _ μ2 _ fd n D hfd hWd.1 hd2 hM2 m 0 hlt (by decide)) sh152 rfl rfl (Nat.le_of_ble_eq_true rfl) ?_
        rw [e0, hs]
        change x_T _ _ _ _ _ (.int (nI 5) :: _) _ _ _
        refine xt_istore dX12_after_74 (by decide) rfl ?_
        change x_T _ _ _ _ [_, _, _, _, _, _, _, _, _, _, _, _, _, _, _, _] _ _ _ _
        refine xt_aload_n _ dX12_after_76 rfl ?_
        refine xt_iload _ dX12_after_77 rfl ?_
        refine xt_iconst (1) dX12_after_79 (by decide) ?_
        refine xt_cV _ dX12_after_80 klX12_319 (tX12_deedOf sc _ μ2 _ fd n D hfd hWd.1 hd2 hM2 m 1 hlt (by decide)) sh152 rfl rfl (Nat.le_of_ble_eq_true rfl) ?_
        refine xt_istore dX12_after_83 (by decide) rfl ?_
        change x_T _ _ _ _ [_, _, _, _, _, _, _, _, _, _, _, _, _, _, _, _] _ _ _ _
        refine xt_iload _ dX12_after_85 rfl ?_
        refine xt_iconst (3) dX12_after_87 (by decide) ?_
        refine xt_icmp_ne 134 dX12_after_88 (by decide) (fun _ => ?_) (fun q => absurd q (by decide))
        refine xt_iconst (0) dX12_after_134 (by decide) ?_
        refine xt_istore dX12_after_135 (by decide) rfl ?_
        change x_T _ _ _ _ [_, _, _, _, _, _, _, _, _, _, _, _, _, _, _, _] _ _ _ _
        refine xt_aload_n _ dX12_after_137 rfl ?_
        refine xt_iload _ dX12_after_138 rfl ?_
        refine xt_callV _ dX12_after_140 klX12_341 (tX12_doesDeed sc _ μ2 _ f σ hok hm fd n D hfd hWd hd2 hM2 m hlt) sh152 rfl rfl (Nat.le_of_ble_eq_true rfl) (fun r3 μ3 w3 q3 => ?_)
        obtain ⟨rfl, hm3, hf3⟩ := q3
        change x_T _ _ _ _ _ (.int (if (s_ad σ D m).1 then 1 else 0) :: _) _ _ _
        rw [hb]
        change x_T _ _ _ _ _ (.int 0 :: _) _ _ _
        have hd3 : μ3 152 40 = nI fd := hf3.2.1.trans hd2
        have hM3 : d_M μ3 fd n D := fun i hi => by rw [hf3.1 159 (by decide) (by decide) (by decide) (by decide)]; exact hM2 i hi
        refine xt_istore dX12_after_143 (by decide) rfl ?_
        change x_T _ _ _ _ [_, _, _, _, _, _, _, _, _, _, _, _, _, _, _, _] _ _ _ _
        refine xt_iload _ dX12_after_145 rfl ?_
        refine xt_if_eq 160 dX12_after_147 (by decide) (fun _ => ?_) (fun q => absurd (by decide) q)
        refine xt_iload _ dX12_after_160 rfl ?_
        refine xt_istore dX12_after_162 (by decide) rfl ?_
        change x_T _ _ _ _ [_, _, _, _, _, _, _, _, _, _, _, _, _, _, _, _] _ _ _ _
        refine xt_iload _ dX12_after_164 rfl ?_
        refine xt_iload _ dX12_after_166 rfl ?_
        refine xt_if_eq 187 dX12_after_168 (by decide) (fun _ => ?_) (fun q => absurd (by decide) q)
        refine xt_iconst (0) dX12_after_187 (by decide) ?_
        refine xt_iadd dX12_after_188 ?_
        refine xt_istore dX12_after_189 (by decide) rfl ?_
        change x_T _ _ _ _ [_, _, _, _, _, _, _, _, _, _, _, _, _, _, _, _] _ _ _ _
        refine xt_iload _ dX12_after_191 rfl ?_
        refine xt_iload _ dX12_after_193 rfl ?_
        refine xt_if_eq 214 dX12_after_195 (by decide) (fun _ => ?_) (fun q => absurd (by decide) q)
        refine xt_iconst (0) dX12_after_214 (by decide) ?_
        refine xt_iadd dX12_after_215 ?_
        refine xt_istore dX12_after_216 (by decide) rfl ?_
        change x_T _ _ _ _ [_, _, _, _, _, _, _, _, _, _, _, _, _, _, _, _] _ _ _ _
        refine xt_iload _ dX12_after_218 rfl ?_
        refine xt_iload _ dX12_after_220 rfl ?_
        refine xt_if_eq 235 dX12_after_222 (by decide) (fun _ => ?_) (fun q => absurd (by decide) q)
        refine xt_iconst (0) dX12_after_235 (by decide) ?_
        refine xt_iadd dX12_after_236 ?_
        refine xt_istore dX12_after_237 (by decide) rfl ?_
        change x_T _ _ _ _ [_, _, _, _, _, _, _, _, _, _, _, _, _, _, _, _] _ _ _ _
        refine xt_iload _ dX12_after_239 rfl ?_
        refine xt_if_eq 301 dX12_after_241 (by decide) (fun _ => ?_) (fun q => absurd (by decide) q)
        refine xt_inc _ (1) dX12_after_301 rfl (by decide) (by decide) rfl ?_
        change x_T _ _ _ _ [_, _, _, _, _, _, _, _, _, _, _, _, _, _, _, _] _ _ _ _
        refine xt_goto 53 dX12_after_304 (by decide) ?_
        refine xt_iload _ dX12_after_53 rfl ?_
        refine xt_if_eq 307 dX12_after_55 (by decide) (fun _ => ?_) (fun q => absurd (by decide) q)
        have he : σ = (s_go D n 0 σ0).2 := by rw [← hR, s_go, if_neg (by rw [hb]; decide)]
        rw [he]
        simp only [Int32.add_zero]
        exact hK _ _ _ _ _ _ _ (hf.tr hf3)
end AFTER
set_option maxHeartbeats 4000000 in
theorem st_after (sc : Nat × (Nat → Int32)) (a1 a2 a3 : Int32) : x_stI sc (fun μ _ => x_Inv μ) (fun μ _ => x_Inv μ) mX11_after mX12_after [.int a1, .int a2, .int a3] := by
  refine x_stFD (-2) ?_ ?_ ?_
  · intro μ w cf cd hcf hcd e0 e1 hk
    refine x_K.of (by decide) (Nat.le_of_ble_eq_true rfl) ?_
    show x_T sc 29 mX11_after 0 [.ref 0, .int a1, .int a2, .int a3, .retAddr 0, .retAddr 0] [] μ w _
    by_cases h1 : 0 ≤ a1 ∧ a1 < nI cf
    · obtain ⟨f, hf31, rfl⟩ := nI_of (Int32.not_lt.mpr h1.1)
      have hf : f < cf := (nI_ltI hf31 (by omega)).mp h1.2
      have h2 : ¬ (0 ≤ a2 ∧ a2 < nI cd) := fun z => hk ⟨h1, z⟩
      refine xt_aload_n _ dX11_after_0 rfl ?_
      refine xt_iload_n _ dX11_after_1 rfl ?_
      refine xt_cV _ dX11_after_2 klX11_90 (tX11_fairOf sc _ μ w f cf hf hcf e0) sh0 rfl rfl (Nat.le_of_ble_eq_true rfl) ?_
      refine xt_astore dX11_after_5 (by decide) rfl ?_
      change x_T _ _ _ _ [_, _, _, _, _, _] _ _ _ _
      refine xt_aload_n _ dX11_after_7 rfl ?_
      refine xt_iload_n _ dX11_after_8 rfl ?_
      refine xt_cV _ dX11_after_9 klX11_100 (tX11_dayOf_no sc _ μ w cd hcd e1 _ h2) sh0 rfl rfl (Nat.le_of_ble_eq_true rfl) ?_
      refine xt_astore0 dX11_after_12 (by decide) rfl ?_
      change x_T _ _ _ _ [_, _, _, _, _, _] _ _ _ _
      refine xt_aload _ dX11_after_14 rfl ?_
      refine xt_ifnull_r dX11_after_16 ?_
      refine xt_aload0 dX11_after_19 rfl ?_
      refine xt_ifnonnull_n dX11_after_21 ?_
      refine xt_bipush (-2) dX11_after_24 (by decide) ?_
      exact xt_iret .int dX11_after_26 rfl (by first | rfl | assumption) ⟨rfl, x_keep.rf μ⟩
    · by_cases h2 : 0 ≤ a2 ∧ a2 < nI cd
      · obtain ⟨fd, hfd31, rfl⟩ := nI_of (Int32.not_lt.mpr h2.1)
        have hfd : fd < cd := (nI_ltI hfd31 (by omega)).mp h2.2
        refine xt_aload_n _ dX11_after_0 rfl ?_
        refine xt_iload_n _ dX11_after_1 rfl ?_
        refine xt_cV _ dX11_after_2 klX11_90 (tX11_fairOf_no sc _ μ w cf hcf e0 _ h1) sh0 rfl rfl (Nat.le_of_ble_eq_true rfl) ?_
        refine xt_astore0 dX11_after_5 (by decide) rfl ?_
        change x_T _ _ _ _ [_, _, _, _, _, _] _ _ _ _
        refine xt_aload_n _ dX11_after_7 rfl ?_
        refine xt_iload_n _ dX11_after_8 rfl ?_
        refine xt_cV _ dX11_after_9 klX11_100 (tX11_dayOf sc _ μ w fd cd hfd hcd e1) sh0 rfl rfl (Nat.le_of_ble_eq_true rfl) ?_
        refine xt_astore dX11_after_12 (by decide) rfl ?_
        change x_T _ _ _ _ [_, _, _, _, _, _] _ _ _ _
        refine xt_aload0 dX11_after_14 rfl ?_
        refine xt_ifnull_n 24 dX11_after_16 (by decide) ?_
        refine xt_bipush (-2) dX11_after_24 (by decide) ?_
        exact xt_iret .int dX11_after_26 rfl (by first | rfl | assumption) ⟨rfl, x_keep.rf μ⟩
      · skip
        refine xt_aload_n _ dX11_after_0 rfl ?_
        refine xt_iload_n _ dX11_after_1 rfl ?_
        refine xt_cV _ dX11_after_2 klX11_90 (tX11_fairOf_no sc _ μ w cf hcf e0 _ h1) sh0 rfl rfl (Nat.le_of_ble_eq_true rfl) ?_
        refine xt_astore0 dX11_after_5 (by decide) rfl ?_
        change x_T _ _ _ _ [_, _, _, _, _, _] _ _ _ _
        refine xt_aload_n _ dX11_after_7 rfl ?_
        refine xt_iload_n _ dX11_after_8 rfl ?_
        refine xt_cV _ dX11_after_9 klX11_100 (tX11_dayOf_no sc _ μ w cd hcd e1 _ h2) sh0 rfl rfl (Nat.le_of_ble_eq_true rfl) ?_
        refine xt_astore0 dX11_after_12 (by decide) rfl ?_
        change x_T _ _ _ _ [_, _, _, _, _, _] _ _ _ _
        refine xt_aload0 dX11_after_14 rfl ?_
        refine xt_ifnull_n 24 dX11_after_16 (by decide) ?_
        refine xt_bipush (-2) dX11_after_24 (by decide) ?_
        exact xt_iret .int dX11_after_26 rfl (by first | rfl | assumption) ⟨rfl, x_keep.rf μ⟩
  · intro μ w cf cd hcf hcd e0 e1 hk
    refine x_K.of (by decide) (Nat.le_of_ble_eq_true rfl) ?_
    show x_T sc 29 mX12_after 0 [.ref 152, .int a1, .int a2, .int a3, .retAddr 0, .retAddr 0, .retAddr 0, .retAddr 0, .retAddr 0, .retAddr 0, .retAddr 0, .retAddr 0, .retAddr 0, .retAddr 0, .retAddr 0, .retAddr 0] [] μ w _
    refine xt_aload_n _ dX12_after_0 rfl ?_
    refine xt_iconst (0) dX12_after_1 (by decide) ?_
    refine xt_puti dX12_after_2 kpX12_72 (by first | exact sh152 | rfl | assumption) rfl (by first | rfl | assumption) (by first | rfl | assumption) ?_
    refine xt_aload_n _ dX12_after_5 rfl ?_
    refine xt_iload_n _ dX12_after_6 rfl ?_
    refine xt_iload_n _ dX12_after_7 rfl ?_
    refine xt_cV _ dX12_after_8 klX12_344 (tX12_layAll_no sc _ (x_u μ 152 (upd (μ 152) 0 0)) w cf cd hcf hcd e0 e1 a1 a2 hk) sh152 rfl rfl (Nat.le_of_ble_eq_true rfl) ?_
    refine xt_if_eq 23 dX12_after_11 (by decide) (fun _ => ?_) (fun q => absurd (by decide) q)
    refine xt_bipush (-2) dX12_after_23 (by decide) ?_
    exact xt_iret .int dX12_after_25 rfl (by first | rfl | assumption) ⟨rfl, (x_keep.u (x_keep.u (x_keep.rf μ) (by unfold x_ok; omega)) (by unfold x_ok; omega))⟩
  · intro f fd n F D hf2 hfd2 hkf hkd hW hWd
    subst hkf hkd
    have hn40 := hWd.1
    by_cases hw : 0 ≤ a3 ∧ a3 ≤ nI 5
    · obtain ⟨j, hj, rfl⟩ := x_rng (N := 5) (by decide) hw
      have hj' : j = 0 ∨ j = 1 ∨ j = 2 ∨ j = 3 ∨ j = 4 ∨ j = 5 := by omega
      rcases hj' with rfl | rfl | rfl | rfl | rfl | rfl
      · skip
        refine ⟨s_dec 4 ((s_go D n 0 (F, s_c0)).2.2 4), ?_, ?_⟩
        · intro μ w cf cd hf hcf hfd hcd e0 e1 hC hCd
          have hS := f_Sf hf2
          have hSd := d_Sf hfd2
          refine x_K.of (by decide) (Nat.le_of_ble_eq_true rfl) ?_
          show x_T sc 29 mX11_after 0 [.ref 0, .int (nI f), .int (nI fd), .int (nI 0), .retAddr 0, .retAddr 0] [] μ w _
          refine xt_aload_n _ dX11_after_0 rfl ?_
          refine xt_iload_n _ dX11_after_1 rfl ?_
          refine xt_cV _ dX11_after_2 klX11_90 (tX11_fairOf sc _ μ w f cf hf hcf e0) sh0 rfl rfl (Nat.le_of_ble_eq_true rfl) ?_
          refine xt_astore dX11_after_5 (by decide) rfl ?_
          change x_T _ _ _ _ [_, _, _, _, _, _] _ _ _ _
          refine xt_aload_n _ dX11_after_7 rfl ?_
          refine xt_iload_n _ dX11_after_8 rfl ?_
          refine xt_cV _ dX11_after_9 klX11_100 (tX11_dayOf sc _ μ w fd cd hfd hcd e1) sh0 rfl rfl (Nat.le_of_ble_eq_true rfl) ?_
          refine xt_astore dX11_after_12 (by decide) rfl ?_
          change x_T _ _ _ _ [_, _, _, _, _, _] _ _ _ _
          refine xt_aload _ dX11_after_14 rfl ?_
          refine xt_ifnull_r dX11_after_16 ?_
          refine xt_aload _ dX11_after_19 rfl ?_
          refine xt_ifnonnull_r 27 dX11_after_21 (by decide) ?_
          refine xt_aload_n _ dX11_after_27 rfl ?_
          refine xt_getr _ dX11_after_28 kfX11_34 (by first | exact sh0 | exact sh129 | exact hS.1 | exact hSd.1 | rfl | assumption) rfl ?_
          refine xt_aload _ dX11_after_31 rfl ?_
          refine xt_aload _ dX11_after_33 rfl ?_
          refine xt_aload _ dX11_after_35 rfl ?_
          refine xt_geti dX11_after_37 kfX11_108 (by first | exact sh0 | exact sh129 | exact hS.1 | exact hSd.1 | rfl | assumption) rfl ?_
          rw [hCd.1]
          refine xt_callV _ dX11_after_40 klX11_111 (tX7_run sc _ μ w (7 + 11 * f) (13 + 11 * fd) n n F D hS (by omega) hW hC hSd (by omega) hWd hCd (Nat.le_refl _)) sh129 rfl rfl (Nat.le_of_ble_eq_true rfl) (fun r2 μ2 w2 q2 => ?_)
          obtain ⟨rfl, hc2, hf2r⟩ := q2
          change x_T _ _ _ _ _ (.int _ :: _) _ _ _
          refine xt_pop dX11_after_43 rfl ?_
          refine xt_aload_n _ dX11_after_44 rfl ?_
          refine xt_getr _ dX11_after_45 kfX11_34 (by first | exact sh0 | exact sh129 | exact hS.1 | exact hSd.1 | rfl | assumption) rfl ?_
          refine xt_iload_n _ dX11_after_48 rfl ?_
          refine xt_cV _ dX11_after_49 klX11_314 (tX7_sumUp0 sc _ μ2 _ (s_go D n 0 (F, s_c0)).2 hc2) sh129 rfl rfl (Nat.le_of_ble_eq_true rfl) ?_
          exact xt_iret .int dX11_after_52 rfl (by first | rfl | assumption) ⟨rfl, (fun a ha => hf2r.1 a (by unfold x_ok at ha; omega))⟩
        · intro μ w cf cd hf hcf hfd hcd e0 e1 hF hM
          refine x_K.of (by decide) (Nat.le_of_ble_eq_true rfl) ?_
          show x_T sc 29 mX12_after 0 [.ref 152, .int (nI f), .int (nI fd), .int (nI 0), .retAddr 0, .retAddr 0, .retAddr 0, .retAddr 0, .retAddr 0, .retAddr 0, .retAddr 0, .retAddr 0, .retAddr 0, .retAddr 0, .retAddr 0, .retAddr 0] [] μ w _
          refine xt_aload_n _ dX12_after_0 rfl ?_
          refine xt_iconst (0) dX12_after_1 (by decide) ?_
          refine xt_puti dX12_after_2 kpX12_72 (by first | exact sh152 | rfl | assumption) rfl (by first | rfl | assumption) (by first | rfl | assumption) ?_
          refine xt_aload_n _ dX12_after_5 rfl ?_
          refine xt_iload_n _ dX12_after_6 rfl ?_
          refine xt_iload_n _ dX12_after_7 rfl ?_
          refine xt_callV _ dX12_after_8 klX12_344 (tX12_layAll sc _ (x_u μ 152 (upd (μ 152) 0 0)) w f cf fd cd F hf hcf hfd hcd e0 e1 hF) sh152 rfl rfl (Nat.le_of_ble_eq_true rfl) (fun r1 μ1 w1 q1 => ?_)
          obtain ⟨rfl, hm1, h40, hfr⟩ := q1
          change x_T _ _ _ _ _ (.int 1 :: _) _ _ _
          have hM1 : d_M μ1 fd n D := fun i hi => by rw [hfr 159 (by decide) (by decide) (by decide) (by decide)]; exact hM i hi
          refine xt_if_eq 23 dX12_after_11 (by decide) (fun q => absurd q (by decide)) (fun _ => ?_)
          refine xt_iload_n _ dX12_after_14 rfl ?_
          refine xt_iconst (0) dX12_after_15 (by decide) ?_
          refine xt_iconst (5) dX12_after_16 (by decide) ?_
          refine xt_cS _ dX12_after_17 klX12_84 (tX12_in sc _ _ _ _ _ _) rfl rfl (Nat.le_of_ble_eq_true rfl) ?_
          refine xt_if_ne 26 dX12_after_20 (by decide) (fun _ => ?_) (fun q => absurd q (by decide))
          refine xt_iconst (-1) dX12_after_26 (by decide) ?_
          refine xt_istore dX12_after_27 (by decide) rfl ?_
          change x_T _ _ _ _ [_, _, _, _, _, _, _, _, _, _, _, _, _, _, _, _] _ _ _ _
          refine xt_iconst (0) dX12_after_29 (by decide) ?_
          refine xt_istore dX12_after_30 (by decide) rfl ?_
          change x_T _ _ _ _ [_, _, _, _, _, _, _, _, _, _, _, _, _, _, _, _] _ _ _ _
          refine xt_iconst (0) dX12_after_32 (by decide) ?_
          refine xt_istore dX12_after_33 (by decide) rfl ?_
          change x_T _ _ _ _ [_, _, _, _, _, _, _, _, _, _, _, _, _, _, _, _] _ _ _ _
          refine xt_iconst (0) dX12_after_35 (by decide) ?_
          refine xt_istore dX12_after_36 (by decide) rfl ?_
          change x_T _ _ _ _ [_, _, _, _, _, _, _, _, _, _, _, _, _, _, _, _] _ _ _ _
          refine xt_iconst (0) dX12_after_38 (by decide) ?_
          refine xt_istore dX12_after_39 (by decide) rfl ?_
          change x_T _ _ _ _ [_, _, _, _, _, _, _, _, _, _, _, _, _, _, _, _] _ _ _ _
          refine xt_iconst (0) dX12_after_41 (by decide) ?_
          refine xt_istore dX12_after_42 (by decide) rfl ?_
          change x_T _ _ _ _ [_, _, _, _, _, _, _, _, _, _, _, _, _, _, _, _] _ _ _ _
          refine xt_iconst (0) dX12_after_44 (by decide) ?_
          refine xt_istore dX12_after_45 (by decide) rfl ?_
          change x_T _ _ _ _ [_, _, _, _, _, _, _, _, _, _, _, _, _, _, _, _] _ _ _ _
          refine xt_iconst (1) dX12_after_47 (by decide) ?_
          refine xt_istore dX12_after_48 (by decide) rfl ?_
          change x_T _ _ _ _ [_, _, _, _, _, _, _, _, _, _, _, _, _, _, _, _] _ _ _ _
          refine xt_iconst (0) dX12_after_50 (by decide) ?_
          refine xt_istore dX12_after_51 (by decide) rfl ?_
          change x_T _ _ _ _ [_, _, _, _, _, _, _, _, _, _, _, _, _, _, _, _] _ _ _ _
          refine x_after sc 21 μ1 f (F, s_c0) (s_ok0 hW) hm1 fd n D hfd2 hWd h40 hM1 _ _ _ _ (fun μ2 w2 v11 v12 v13 v14 v15 hf2 => ?_) n 0 μ1 _ (F, s_c0) _ _ _ (by omega) (s_ok0 hW) hm1 (m_fr.rf μ1) rfl
          refine xt_iload_n _ dX12_after_307 rfl ?_
          refine xt_tabIn 344 dX12_after_308 (by decide) (by decide) (by rfl) (by decide) ?_
          refine xt_iload _ dX12_after_344 rfl ?_
          exact xt_iret .int dX12_after_346 rfl (by first | rfl | assumption) ⟨rfl, (fun a ha => by rw [hf2.1 a (by unfold x_ok at ha; omega) (by unfold x_ok at ha; omega) (by unfold x_ok at ha; omega) (by unfold x_ok at ha; omega), hfr a (by unfold x_ok at ha; omega) (by unfold x_ok at ha; omega) (by unfold x_ok at ha; omega) (by unfold x_ok at ha; omega), x_u_ne (by unfold x_ok at ha; omega)])⟩
      · skip
        refine ⟨s_dec 6 ((s_go D n 0 (F, s_c0)).2.2 6), ?_, ?_⟩
        · intro μ w cf cd hf hcf hfd hcd e0 e1 hC hCd
          have hS := f_Sf hf2
          have hSd := d_Sf hfd2
          refine x_K.of (by decide) (Nat.le_of_ble_eq_true rfl) ?_
          show x_T sc 29 mX11_after 0 [.ref 0, .int (nI f), .int (nI fd), .int (nI 1), .retAddr 0, .retAddr 0] [] μ w _
          refine xt_aload_n _ dX11_after_0 rfl ?_
          refine xt_iload_n _ dX11_after_1 rfl ?_
          refine xt_cV _ dX11_after_2 klX11_90 (tX11_fairOf sc _ μ w f cf hf hcf e0) sh0 rfl rfl (Nat.le_of_ble_eq_true rfl) ?_
          refine xt_astore dX11_after_5 (by decide) rfl ?_
          change x_T _ _ _ _ [_, _, _, _, _, _] _ _ _ _
          refine xt_aload_n _ dX11_after_7 rfl ?_
          refine xt_iload_n _ dX11_after_8 rfl ?_
          refine xt_cV _ dX11_after_9 klX11_100 (tX11_dayOf sc _ μ w fd cd hfd hcd e1) sh0 rfl rfl (Nat.le_of_ble_eq_true rfl) ?_
          refine xt_astore dX11_after_12 (by decide) rfl ?_
          change x_T _ _ _ _ [_, _, _, _, _, _] _ _ _ _
          refine xt_aload _ dX11_after_14 rfl ?_
          refine xt_ifnull_r dX11_after_16 ?_
          refine xt_aload _ dX11_after_19 rfl ?_
          refine xt_ifnonnull_r 27 dX11_after_21 (by decide) ?_
          refine xt_aload_n _ dX11_after_27 rfl ?_
          refine xt_getr _ dX11_after_28 kfX11_34 (by first | exact sh0 | exact sh129 | exact hS.1 | exact hSd.1 | rfl | assumption) rfl ?_
          refine xt_aload _ dX11_after_31 rfl ?_
          refine xt_aload _ dX11_after_33 rfl ?_
          refine xt_aload _ dX11_after_35 rfl ?_
          refine xt_geti dX11_after_37 kfX11_108 (by first | exact sh0 | exact sh129 | exact hS.1 | exact hSd.1 | rfl | assumption) rfl ?_
          rw [hCd.1]
          refine xt_callV _ dX11_after_40 klX11_111 (tX7_run sc _ μ w (7 + 11 * f) (13 + 11 * fd) n n F D hS (by omega) hW hC hSd (by omega) hWd hCd (Nat.le_refl _)) sh129 rfl rfl (Nat.le_of_ble_eq_true rfl) (fun r2 μ2 w2 q2 => ?_)
          obtain ⟨rfl, hc2, hf2r⟩ := q2
          change x_T _ _ _ _ _ (.int _ :: _) _ _ _
          refine xt_pop dX11_after_43 rfl ?_
          refine xt_aload_n _ dX11_after_44 rfl ?_
          refine xt_getr _ dX11_after_45 kfX11_34 (by first | exact sh0 | exact sh129 | exact hS.1 | exact hSd.1 | rfl | assumption) rfl ?_
          refine xt_iload_n _ dX11_after_48 rfl ?_
          refine xt_cV _ dX11_after_49 klX11_314 (tX7_sumUp1 sc _ μ2 _ (s_go D n 0 (F, s_c0)).2 hc2) sh129 rfl rfl (Nat.le_of_ble_eq_true rfl) ?_
          exact xt_iret .int dX11_after_52 rfl (by first | rfl | assumption) ⟨rfl, (fun a ha => hf2r.1 a (by unfold x_ok at ha; omega))⟩
        · intro μ w cf cd hf hcf hfd hcd e0 e1 hF hM
          refine x_K.of (by decide) (Nat.le_of_ble_eq_true rfl) ?_
          show x_T sc 29 mX12_after 0 [.ref 152, .int (nI f), .int (nI fd), .int (nI 1), .retAddr 0, .retAddr 0, .retAddr 0, .retAddr 0, .retAddr 0, .retAddr 0, .retAddr 0, .retAddr 0, .retAddr 0, .retAddr 0, .retAddr 0, .retAddr 0] [] μ w _
          refine xt_aload_n _ dX12_after_0 rfl ?_
          refine xt_iconst (0) dX12_after_1 (by decide) ?_
          refine xt_puti dX12_after_2 kpX12_72 (by first | exact sh152 | rfl | assumption) rfl (by first | rfl | assumption) (by first | rfl | assumption) ?_
          refine xt_aload_n _ dX12_after_5 rfl ?_
          refine xt_iload_n _ dX12_after_6 rfl ?_
          refine xt_iload_n _ dX12_after_7 rfl ?_
          refine xt_callV _ dX12_after_8 klX12_344 (tX12_layAll sc _ (x_u μ 152 (upd (μ 152) 0 0)) w f cf fd cd F hf hcf hfd hcd e0 e1 hF) sh152 rfl rfl (Nat.le_of_ble_eq_true rfl) (fun r1 μ1 w1 q1 => ?_)
          obtain ⟨rfl, hm1, h40, hfr⟩ := q1
          change x_T _ _ _ _ _ (.int 1 :: _) _ _ _
          have hM1 : d_M μ1 fd n D := fun i hi => by rw [hfr 159 (by decide) (by decide) (by decide) (by decide)]; exact hM i hi
          refine xt_if_eq 23 dX12_after_11 (by decide) (fun q => absurd q (by decide)) (fun _ => ?_)
          refine xt_iload_n _ dX12_after_14 rfl ?_
          refine xt_iconst (0) dX12_after_15 (by decide) ?_
          refine xt_iconst (5) dX12_after_16 (by decide) ?_
          refine xt_cS _ dX12_after_17 klX12_84 (tX12_in sc _ _ _ _ _ _) rfl rfl (Nat.le_of_ble_eq_true rfl) ?_
          refine xt_if_ne 26 dX12_after_20 (by decide) (fun _ => ?_) (fun q => absurd q (by decide))
          refine xt_iconst (-1) dX12_after_26 (by decide) ?_
          refine xt_istore dX12_after_27 (by decide) rfl ?_
          change x_T _ _ _ _ [_, _, _, _, _, _, _, _, _, _, _, _, _, _, _, _] _ _ _ _
          refine xt_iconst (0) dX12_after_29 (by decide) ?_
          refine xt_istore dX12_after_30 (by decide) rfl ?_
          change x_T _ _ _ _ [_, _, _, _, _, _, _, _, _, _, _, _, _, _, _, _] _ _ _ _
          refine xt_iconst (0) dX12_after_32 (by decide) ?_
          refine xt_istore dX12_after_33 (by decide) rfl ?_
          change x_T _ _ _ _ [_, _, _, _, _, _, _, _, _, _, _, _, _, _, _, _] _ _ _ _
          refine xt_iconst (0) dX12_after_35 (by decide) ?_
          refine xt_istore dX12_after_36 (by decide) rfl ?_
          change x_T _ _ _ _ [_, _, _, _, _, _, _, _, _, _, _, _, _, _, _, _] _ _ _ _
          refine xt_iconst (0) dX12_after_38 (by decide) ?_
          refine xt_istore dX12_after_39 (by decide) rfl ?_
          change x_T _ _ _ _ [_, _, _, _, _, _, _, _, _, _, _, _, _, _, _, _] _ _ _ _
          refine xt_iconst (0) dX12_after_41 (by decide) ?_
          refine xt_istore dX12_after_42 (by decide) rfl ?_
          change x_T _ _ _ _ [_, _, _, _, _, _, _, _, _, _, _, _, _, _, _, _] _ _ _ _
          refine xt_iconst (0) dX12_after_44 (by decide) ?_
          refine xt_istore dX12_after_45 (by decide) rfl ?_
          change x_T _ _ _ _ [_, _, _, _, _, _, _, _, _, _, _, _, _, _, _, _] _ _ _ _
          refine xt_iconst (1) dX12_after_47 (by decide) ?_
          refine xt_istore dX12_after_48 (by decide) rfl ?_
          change x_T _ _ _ _ [_, _, _, _, _, _, _, _, _, _, _, _, _, _, _, _] _ _ _ _
          refine xt_iconst (0) dX12_after_50 (by decide) ?_
          refine xt_istore dX12_after_51 (by decide) rfl ?_
          change x_T _ _ _ _ [_, _, _, _, _, _, _, _, _, _, _, _, _, _, _, _] _ _ _ _
          refine x_after sc 21 μ1 f (F, s_c0) (s_ok0 hW) hm1 fd n D hfd2 hWd h40 hM1 _ _ _ _ (fun μ2 w2 v11 v12 v13 v14 v15 hf2 => ?_) n 0 μ1 _ (F, s_c0) _ _ _ (by omega) (s_ok0 hW) hm1 (m_fr.rf μ1) rfl
          refine xt_iload_n _ dX12_after_307 rfl ?_
          refine xt_tabIn 347 dX12_after_308 (by decide) (by decide) (by rfl) (by decide) ?_
          refine xt_iload _ dX12_after_347 rfl ?_
          exact xt_iret .int dX12_after_349 rfl (by first | rfl | assumption) ⟨rfl, (fun a ha => by rw [hf2.1 a (by unfold x_ok at ha; omega) (by unfold x_ok at ha; omega) (by unfold x_ok at ha; omega) (by unfold x_ok at ha; omega), hfr a (by unfold x_ok at ha; omega) (by unfold x_ok at ha; omega) (by unfold x_ok at ha; omega) (by unfold x_ok at ha; omega), x_u_ne (by unfold x_ok at ha; omega)])⟩
      · skip
        refine ⟨s_dec 10 ((s_go D n 0 (F, s_c0)).2.2 10), ?_, ?_⟩
        · intro μ w cf cd hf hcf hfd hcd e0 e1 hC hCd
          have hS := f_Sf hf2
          have hSd := d_Sf hfd2
          refine x_K.of (by decide) (Nat.le_of_ble_eq_true rfl) ?_
          show x_T sc 29 mX11_after 0 [.ref 0, .int (nI f), .int (nI fd), .int (nI 2), .retAddr 0, .retAddr 0] [] μ w _
          refine xt_aload_n _ dX11_after_0 rfl ?_
          refine xt_iload_n _ dX11_after_1 rfl ?_
          refine xt_cV _ dX11_after_2 klX11_90 (tX11_fairOf sc _ μ w f cf hf hcf e0) sh0 rfl rfl (Nat.le_of_ble_eq_true rfl) ?_
          refine xt_astore dX11_after_5 (by decide) rfl ?_
          change x_T _ _ _ _ [_, _, _, _, _, _] _ _ _ _
          refine xt_aload_n _ dX11_after_7 rfl ?_
          refine xt_iload_n _ dX11_after_8 rfl ?_
          refine xt_cV _ dX11_after_9 klX11_100 (tX11_dayOf sc _ μ w fd cd hfd hcd e1) sh0 rfl rfl (Nat.le_of_ble_eq_true rfl) ?_
          refine xt_astore dX11_after_12 (by decide) rfl ?_
          change x_T _ _ _ _ [_, _, _, _, _, _] _ _ _ _
          refine xt_aload _ dX11_after_14 rfl ?_
          refine xt_ifnull_r dX11_after_16 ?_
          refine xt_aload _ dX11_after_19 rfl ?_
          refine xt_ifnonnull_r 27 dX11_after_21 (by decide) ?_
          refine xt_aload_n _ dX11_after_27 rfl ?_
          refine xt_getr _ dX11_after_28 kfX11_34 (by first | exact sh0 | exact sh129 | exact hS.1 | exact hSd.1 | rfl | assumption) rfl ?_
          refine xt_aload _ dX11_after_31 rfl ?_
          refine xt_aload _ dX11_after_33 rfl ?_
          refine xt_aload _ dX11_after_35 rfl ?_
          refine xt_geti dX11_after_37 kfX11_108 (by first | exact sh0 | exact sh129 | exact hS.1 | exact hSd.1 | rfl | assumption) rfl ?_
          rw [hCd.1]
          refine xt_callV _ dX11_after_40 klX11_111 (tX7_run sc _ μ w (7 + 11 * f) (13 + 11 * fd) n n F D hS (by omega) hW hC hSd (by omega) hWd hCd (Nat.le_refl _)) sh129 rfl rfl (Nat.le_of_ble_eq_true rfl) (fun r2 μ2 w2 q2 => ?_)
          obtain ⟨rfl, hc2, hf2r⟩ := q2
          change x_T _ _ _ _ _ (.int _ :: _) _ _ _
          refine xt_pop dX11_after_43 rfl ?_
          refine xt_aload_n _ dX11_after_44 rfl ?_
          refine xt_getr _ dX11_after_45 kfX11_34 (by first | exact sh0 | exact sh129 | exact hS.1 | exact hSd.1 | rfl | assumption) rfl ?_
          refine xt_iload_n _ dX11_after_48 rfl ?_
          refine xt_cV _ dX11_after_49 klX11_314 (tX7_sumUp2 sc _ μ2 _ (s_go D n 0 (F, s_c0)).2 hc2) sh129 rfl rfl (Nat.le_of_ble_eq_true rfl) ?_
          exact xt_iret .int dX11_after_52 rfl (by first | rfl | assumption) ⟨rfl, (fun a ha => hf2r.1 a (by unfold x_ok at ha; omega))⟩
        · intro μ w cf cd hf hcf hfd hcd e0 e1 hF hM
          refine x_K.of (by decide) (Nat.le_of_ble_eq_true rfl) ?_
          show x_T sc 29 mX12_after 0 [.ref 152, .int (nI f), .int (nI fd), .int (nI 2), .retAddr 0, .retAddr 0, .retAddr 0, .retAddr 0, .retAddr 0, .retAddr 0, .retAddr 0, .retAddr 0, .retAddr 0, .retAddr 0, .retAddr 0, .retAddr 0] [] μ w _
          refine xt_aload_n _ dX12_after_0 rfl ?_
          refine xt_iconst (0) dX12_after_1 (by decide) ?_
          refine xt_puti dX12_after_2 kpX12_72 (by first | exact sh152 | rfl | assumption) rfl (by first | rfl | assumption) (by first | rfl | assumption) ?_
          refine xt_aload_n _ dX12_after_5 rfl ?_
          refine xt_iload_n _ dX12_after_6 rfl ?_
          refine xt_iload_n _ dX12_after_7 rfl ?_
          refine xt_callV _ dX12_after_8 klX12_344 (tX12_layAll sc _ (x_u μ 152 (upd (μ 152) 0 0)) w f cf fd cd F hf hcf hfd hcd e0 e1 hF) sh152 rfl rfl (Nat.le_of_ble_eq_true rfl) (fun r1 μ1 w1 q1 => ?_)
          obtain ⟨rfl, hm1, h40, hfr⟩ := q1
          change x_T _ _ _ _ _ (.int 1 :: _) _ _ _
          have hM1 : d_M μ1 fd n D := fun i hi => by rw [hfr 159 (by decide) (by decide) (by decide) (by decide)]; exact hM i hi
          refine xt_if_eq 23 dX12_after_11 (by decide) (fun q => absurd q (by decide)) (fun _ => ?_)
          refine xt_iload_n _ dX12_after_14 rfl ?_
          refine xt_iconst (0) dX12_after_15 (by decide) ?_
          refine xt_iconst (5) dX12_after_16 (by decide) ?_
          refine xt_cS _ dX12_after_17 klX12_84 (tX12_in sc _ _ _ _ _ _) rfl rfl (Nat.le_of_ble_eq_true rfl) ?_
          refine xt_if_ne 26 dX12_after_20 (by decide) (fun _ => ?_) (fun q => absurd q (by decide))
          refine xt_iconst (-1) dX12_after_26 (by decide) ?_
          refine xt_istore dX12_after_27 (by decide) rfl ?_
          change x_T _ _ _ _ [_, _, _, _, _, _, _, _, _, _, _, _, _, _, _, _] _ _ _ _
          refine xt_iconst (0) dX12_after_29 (by decide) ?_
          refine xt_istore dX12_after_30 (by decide) rfl ?_
          change x_T _ _ _ _ [_, _, _, _, _, _, _, _, _, _, _, _, _, _, _, _] _ _ _ _
          refine xt_iconst (0) dX12_after_32 (by decide) ?_
          refine xt_istore dX12_after_33 (by decide) rfl ?_
          change x_T _ _ _ _ [_, _, _, _, _, _, _, _, _, _, _, _, _, _, _, _] _ _ _ _
          refine xt_iconst (0) dX12_after_35 (by decide) ?_
          refine xt_istore dX12_after_36 (by decide) rfl ?_
          change x_T _ _ _ _ [_, _, _, _, _, _, _, _, _, _, _, _, _, _, _, _] _ _ _ _
          refine xt_iconst (0) dX12_after_38 (by decide) ?_
          refine xt_istore dX12_after_39 (by decide) rfl ?_
          change x_T _ _ _ _ [_, _, _, _, _, _, _, _, _, _, _, _, _, _, _, _] _ _ _ _
          refine xt_iconst (0) dX12_after_41 (by decide) ?_
          refine xt_istore dX12_after_42 (by decide) rfl ?_
          change x_T _ _ _ _ [_, _, _, _, _, _, _, _, _, _, _, _, _, _, _, _] _ _ _ _
          refine xt_iconst (0) dX12_after_44 (by decide) ?_
          refine xt_istore dX12_after_45 (by decide) rfl ?_
          change x_T _ _ _ _ [_, _, _, _, _, _, _, _, _, _, _, _, _, _, _, _] _ _ _ _
          refine xt_iconst (1) dX12_after_47 (by decide) ?_
          refine xt_istore dX12_after_48 (by decide) rfl ?_
          change x_T _ _ _ _ [_, _, _, _, _, _, _, _, _, _, _, _, _, _, _, _] _ _ _ _
          refine xt_iconst (0) dX12_after_50 (by decide) ?_
          refine xt_istore dX12_after_51 (by decide) rfl ?_
          change x_T _ _ _ _ [_, _, _, _, _, _, _, _, _, _, _, _, _, _, _, _] _ _ _ _
          refine x_after sc 21 μ1 f (F, s_c0) (s_ok0 hW) hm1 fd n D hfd2 hWd h40 hM1 _ _ _ _ (fun μ2 w2 v11 v12 v13 v14 v15 hf2 => ?_) n 0 μ1 _ (F, s_c0) _ _ _ (by omega) (s_ok0 hW) hm1 (m_fr.rf μ1) rfl
          refine xt_iload_n _ dX12_after_307 rfl ?_
          refine xt_tabIn 350 dX12_after_308 (by decide) (by decide) (by rfl) (by decide) ?_
          refine xt_iload _ dX12_after_350 rfl ?_
          exact xt_iret .int dX12_after_352 rfl (by first | rfl | assumption) ⟨rfl, (fun a ha => by rw [hf2.1 a (by unfold x_ok at ha; omega) (by unfold x_ok at ha; omega) (by unfold x_ok at ha; omega) (by unfold x_ok at ha; omega), hfr a (by unfold x_ok at ha; omega) (by unfold x_ok at ha; omega) (by unfold x_ok at ha; omega) (by unfold x_ok at ha; omega), x_u_ne (by unfold x_ok at ha; omega)])⟩
      · skip
        refine ⟨s_dec 11 ((s_go D n 0 (F, s_c0)).2.2 11), ?_, ?_⟩
        · intro μ w cf cd hf hcf hfd hcd e0 e1 hC hCd
          have hS := f_Sf hf2
          have hSd := d_Sf hfd2
          refine x_K.of (by decide) (Nat.le_of_ble_eq_true rfl) ?_
          show x_T sc 29 mX11_after 0 [.ref 0, .int (nI f), .int (nI fd), .int (nI 3), .retAddr 0, .retAddr 0] [] μ w _
          refine xt_aload_n _ dX11_after_0 rfl ?_
          refine xt_iload_n _ dX11_after_1 rfl ?_
          refine xt_cV _ dX11_after_2 klX11_90 (tX11_fairOf sc _ μ w f cf hf hcf e0) sh0 rfl rfl (Nat.le_of_ble_eq_true rfl) ?_
          refine xt_astore dX11_after_5 (by decide) rfl ?_
          change x_T _ _ _ _ [_, _, _, _, _, _] _ _ _ _
          refine xt_aload_n _ dX11_after_7 rfl ?_
          refine xt_iload_n _ dX11_after_8 rfl ?_
          refine xt_cV _ dX11_after_9 klX11_100 (tX11_dayOf sc _ μ w fd cd hfd hcd e1) sh0 rfl rfl (Nat.le_of_ble_eq_true rfl) ?_
          refine xt_astore dX11_after_12 (by decide) rfl ?_
          change x_T _ _ _ _ [_, _, _, _, _, _] _ _ _ _
          refine xt_aload _ dX11_after_14 rfl ?_
          refine xt_ifnull_r dX11_after_16 ?_
          refine xt_aload _ dX11_after_19 rfl ?_
          refine xt_ifnonnull_r 27 dX11_after_21 (by decide) ?_
          refine xt_aload_n _ dX11_after_27 rfl ?_
          refine xt_getr _ dX11_after_28 kfX11_34 (by first | exact sh0 | exact sh129 | exact hS.1 | exact hSd.1 | rfl | assumption) rfl ?_
          refine xt_aload _ dX11_after_31 rfl ?_
          refine xt_aload _ dX11_after_33 rfl ?_
          refine xt_aload _ dX11_after_35 rfl ?_
          refine xt_geti dX11_after_37 kfX11_108 (by first | exact sh0 | exact sh129 | exact hS.1 | exact hSd.1 | rfl | assumption) rfl ?_
          rw [hCd.1]
          refine xt_callV _ dX11_after_40 klX11_111 (tX7_run sc _ μ w (7 + 11 * f) (13 + 11 * fd) n n F D hS (by omega) hW hC hSd (by omega) hWd hCd (Nat.le_refl _)) sh129 rfl rfl (Nat.le_of_ble_eq_true rfl) (fun r2 μ2 w2 q2 => ?_)
          obtain ⟨rfl, hc2, hf2r⟩ := q2
          change x_T _ _ _ _ _ (.int _ :: _) _ _ _
          refine xt_pop dX11_after_43 rfl ?_
          refine xt_aload_n _ dX11_after_44 rfl ?_
          refine xt_getr _ dX11_after_45 kfX11_34 (by first | exact sh0 | exact sh129 | exact hS.1 | exact hSd.1 | rfl | assumption) rfl ?_
          refine xt_iload_n _ dX11_after_48 rfl ?_
          refine xt_cV _ dX11_after_49 klX11_314 (tX7_sumUp3 sc _ μ2 _ (s_go D n 0 (F, s_c0)).2 hc2) sh129 rfl rfl (Nat.le_of_ble_eq_true rfl) ?_
          exact xt_iret .int dX11_after_52 rfl (by first | rfl | assumption) ⟨rfl, (fun a ha => hf2r.1 a (by unfold x_ok at ha; omega))⟩
        · intro μ w cf cd hf hcf hfd hcd e0 e1 hF hM
          refine x_K.of (by decide) (Nat.le_of_ble_eq_true rfl) ?_
          show x_T sc 29 mX12_after 0 [.ref 152, .int (nI f), .int (nI fd), .int (nI 3), .retAddr 0, .retAddr 0, .retAddr 0, .retAddr 0, .retAddr 0, .retAddr 0, .retAddr 0, .retAddr 0, .retAddr 0, .retAddr 0, .retAddr 0, .retAddr 0] [] μ w _
          refine xt_aload_n _ dX12_after_0 rfl ?_
          refine xt_iconst (0) dX12_after_1 (by decide) ?_
          refine xt_puti dX12_after_2 kpX12_72 (by first | exact sh152 | rfl | assumption) rfl (by first | rfl | assumption) (by first | rfl | assumption) ?_
          refine xt_aload_n _ dX12_after_5 rfl ?_
          refine xt_iload_n _ dX12_after_6 rfl ?_
          refine xt_iload_n _ dX12_after_7 rfl ?_
          refine xt_callV _ dX12_after_8 klX12_344 (tX12_layAll sc _ (x_u μ 152 (upd (μ 152) 0 0)) w f cf fd cd F hf hcf hfd hcd e0 e1 hF) sh152 rfl rfl (Nat.le_of_ble_eq_true rfl) (fun r1 μ1 w1 q1 => ?_)
          obtain ⟨rfl, hm1, h40, hfr⟩ := q1
          change x_T _ _ _ _ _ (.int 1 :: _) _ _ _
          have hM1 : d_M μ1 fd n D := fun i hi => by rw [hfr 159 (by decide) (by decide) (by decide) (by decide)]; exact hM i hi
          refine xt_if_eq 23 dX12_after_11 (by decide) (fun q => absurd q (by decide)) (fun _ => ?_)
          refine xt_iload_n _ dX12_after_14 rfl ?_
          refine xt_iconst (0) dX12_after_15 (by decide) ?_
          refine xt_iconst (5) dX12_after_16 (by decide) ?_
          refine xt_cS _ dX12_after_17 klX12_84 (tX12_in sc _ _ _ _ _ _) rfl rfl (Nat.le_of_ble_eq_true rfl) ?_
          refine xt_if_ne 26 dX12_after_20 (by decide) (fun _ => ?_) (fun q => absurd q (by decide))
          refine xt_iconst (-1) dX12_after_26 (by decide) ?_
          refine xt_istore dX12_after_27 (by decide) rfl ?_
          change x_T _ _ _ _ [_, _, _, _, _, _, _, _, _, _, _, _, _, _, _, _] _ _ _ _
          refine xt_iconst (0) dX12_after_29 (by decide) ?_
          refine xt_istore dX12_after_30 (by decide) rfl ?_
          change x_T _ _ _ _ [_, _, _, _, _, _, _, _, _, _, _, _, _, _, _, _] _ _ _ _
          refine xt_iconst (0) dX12_after_32 (by decide) ?_
          refine xt_istore dX12_after_33 (by decide) rfl ?_
          change x_T _ _ _ _ [_, _, _, _, _, _, _, _, _, _, _, _, _, _, _, _] _ _ _ _
          refine xt_iconst (0) dX12_after_35 (by decide) ?_
          refine xt_istore dX12_after_36 (by decide) rfl ?_
          change x_T _ _ _ _ [_, _, _, _, _, _, _, _, _, _, _, _, _, _, _, _] _ _ _ _
          refine xt_iconst (0) dX12_after_38 (by decide) ?_
          refine xt_istore dX12_after_39 (by decide) rfl ?_
          change x_T _ _ _ _ [_, _, _, _, _, _, _, _, _, _, _, _, _, _, _, _] _ _ _ _
          refine xt_iconst (0) dX12_after_41 (by decide) ?_
          refine xt_istore dX12_after_42 (by decide) rfl ?_
          change x_T _ _ _ _ [_, _, _, _, _, _, _, _, _, _, _, _, _, _, _, _] _ _ _ _
          refine xt_iconst (0) dX12_after_44 (by decide) ?_
          refine xt_istore dX12_after_45 (by decide) rfl ?_
          change x_T _ _ _ _ [_, _, _, _, _, _, _, _, _, _, _, _, _, _, _, _] _ _ _ _
          refine xt_iconst (1) dX12_after_47 (by decide) ?_
          refine xt_istore dX12_after_48 (by decide) rfl ?_
          change x_T _ _ _ _ [_, _, _, _, _, _, _, _, _, _, _, _, _, _, _, _] _ _ _ _
          refine xt_iconst (0) dX12_after_50 (by decide) ?_
          refine xt_istore dX12_after_51 (by decide) rfl ?_
          change x_T _ _ _ _ [_, _, _, _, _, _, _, _, _, _, _, _, _, _, _, _] _ _ _ _
          refine x_after sc 21 μ1 f (F, s_c0) (s_ok0 hW) hm1 fd n D hfd2 hWd h40 hM1 _ _ _ _ (fun μ2 w2 v11 v12 v13 v14 v15 hf2 => ?_) n 0 μ1 _ (F, s_c0) _ _ _ (by omega) (s_ok0 hW) hm1 (m_fr.rf μ1) rfl
          refine xt_iload_n _ dX12_after_307 rfl ?_
          refine xt_tabIn 353 dX12_after_308 (by decide) (by decide) (by rfl) (by decide) ?_
          refine xt_iload _ dX12_after_353 rfl ?_
          exact xt_iret .int dX12_after_355 rfl (by first | rfl | assumption) ⟨rfl, (fun a ha => by rw [hf2.1 a (by unfold x_ok at ha; omega) (by unfold x_ok at ha; omega) (by unfold x_ok at ha; omega) (by unfold x_ok at ha; omega), hfr a (by unfold x_ok at ha; omega) (by unfold x_ok at ha; omega) (by unfold x_ok at ha; omega) (by unfold x_ok at ha; omega), x_u_ne (by unfold x_ok at ha; omega)])⟩
      · skip
        refine ⟨s_dec 9 ((s_go D n 0 (F, s_c0)).2.2 9), ?_, ?_⟩
        · intro μ w cf cd hf hcf hfd hcd e0 e1 hC hCd
          have hS := f_Sf hf2
          have hSd := d_Sf hfd2
          refine x_K.of (by decide) (Nat.le_of_ble_eq_true rfl) ?_
          show x_T sc 29 mX11_after 0 [.ref 0, .int (nI f), .int (nI fd), .int (nI 4), .retAddr 0, .retAddr 0] [] μ w _
          refine xt_aload_n _ dX11_after_0 rfl ?_
          refine xt_iload_n _ dX11_after_1 rfl ?_
          refine xt_cV _ dX11_after_2 klX11_90 (tX11_fairOf sc _ μ w f cf hf hcf e0) sh0 rfl rfl (Nat.le_of_ble_eq_true rfl) ?_
          refine xt_astore dX11_after_5 (by decide) rfl ?_
          change x_T _ _ _ _ [_, _, _, _, _, _] _ _ _ _
          refine xt_aload_n _ dX11_after_7 rfl ?_
          refine xt_iload_n _ dX11_after_8 rfl ?_
          refine xt_cV _ dX11_after_9 klX11_100 (tX11_dayOf sc _ μ w fd cd hfd hcd e1) sh0 rfl rfl (Nat.le_of_ble_eq_true rfl) ?_
          refine xt_astore dX11_after_12 (by decide) rfl ?_
          change x_T _ _ _ _ [_, _, _, _, _, _] _ _ _ _
          refine xt_aload _ dX11_after_14 rfl ?_
          refine xt_ifnull_r dX11_after_16 ?_
          refine xt_aload _ dX11_after_19 rfl ?_
          refine xt_ifnonnull_r 27 dX11_after_21 (by decide) ?_
          refine xt_aload_n _ dX11_after_27 rfl ?_
          refine xt_getr _ dX11_after_28 kfX11_34 (by first | exact sh0 | exact sh129 | exact hS.1 | exact hSd.1 | rfl | assumption) rfl ?_
          refine xt_aload _ dX11_after_31 rfl ?_
          refine xt_aload _ dX11_after_33 rfl ?_
          refine xt_aload _ dX11_after_35 rfl ?_
          refine xt_geti dX11_after_37 kfX11_108 (by first | exact sh0 | exact sh129 | exact hS.1 | exact hSd.1 | rfl | assumption) rfl ?_
          rw [hCd.1]
          refine xt_callV _ dX11_after_40 klX11_111 (tX7_run sc _ μ w (7 + 11 * f) (13 + 11 * fd) n n F D hS (by omega) hW hC hSd (by omega) hWd hCd (Nat.le_refl _)) sh129 rfl rfl (Nat.le_of_ble_eq_true rfl) (fun r2 μ2 w2 q2 => ?_)
          obtain ⟨rfl, hc2, hf2r⟩ := q2
          change x_T _ _ _ _ _ (.int _ :: _) _ _ _
          refine xt_pop dX11_after_43 rfl ?_
          refine xt_aload_n _ dX11_after_44 rfl ?_
          refine xt_getr _ dX11_after_45 kfX11_34 (by first | exact sh0 | exact sh129 | exact hS.1 | exact hSd.1 | rfl | assumption) rfl ?_
          refine xt_iload_n _ dX11_after_48 rfl ?_
          refine xt_cV _ dX11_after_49 klX11_314 (tX7_sumUp4 sc _ μ2 _ (s_go D n 0 (F, s_c0)).2 hc2) sh129 rfl rfl (Nat.le_of_ble_eq_true rfl) ?_
          exact xt_iret .int dX11_after_52 rfl (by first | rfl | assumption) ⟨rfl, (fun a ha => hf2r.1 a (by unfold x_ok at ha; omega))⟩
        · intro μ w cf cd hf hcf hfd hcd e0 e1 hF hM
          refine x_K.of (by decide) (Nat.le_of_ble_eq_true rfl) ?_
          show x_T sc 29 mX12_after 0 [.ref 152, .int (nI f), .int (nI fd), .int (nI 4), .retAddr 0, .retAddr 0, .retAddr 0, .retAddr 0, .retAddr 0, .retAddr 0, .retAddr 0, .retAddr 0, .retAddr 0, .retAddr 0, .retAddr 0, .retAddr 0] [] μ w _
          refine xt_aload_n _ dX12_after_0 rfl ?_
          refine xt_iconst (0) dX12_after_1 (by decide) ?_
          refine xt_puti dX12_after_2 kpX12_72 (by first | exact sh152 | rfl | assumption) rfl (by first | rfl | assumption) (by first | rfl | assumption) ?_
          refine xt_aload_n _ dX12_after_5 rfl ?_
          refine xt_iload_n _ dX12_after_6 rfl ?_
          refine xt_iload_n _ dX12_after_7 rfl ?_
          refine xt_callV _ dX12_after_8 klX12_344 (tX12_layAll sc _ (x_u μ 152 (upd (μ 152) 0 0)) w f cf fd cd F hf hcf hfd hcd e0 e1 hF) sh152 rfl rfl (Nat.le_of_ble_eq_true rfl) (fun r1 μ1 w1 q1 => ?_)
          obtain ⟨rfl, hm1, h40, hfr⟩ := q1
          change x_T _ _ _ _ _ (.int 1 :: _) _ _ _
          have hM1 : d_M μ1 fd n D := fun i hi => by rw [hfr 159 (by decide) (by decide) (by decide) (by decide)]; exact hM i hi
          refine xt_if_eq 23 dX12_after_11 (by decide) (fun q => absurd q (by decide)) (fun _ => ?_)
          refine xt_iload_n _ dX12_after_14 rfl ?_
          refine xt_iconst (0) dX12_after_15 (by decide) ?_
          refine xt_iconst (5) dX12_after_16 (by decide) ?_
          refine xt_cS _ dX12_after_17 klX12_84 (tX12_in sc _ _ _ _ _ _) rfl rfl (Nat.le_of_ble_eq_true rfl) ?_
          refine xt_if_ne 26 dX12_after_20 (by decide) (fun _ => ?_) (fun q => absurd q (by decide))
          refine xt_iconst (-1) dX12_after_26 (by decide) ?_
          refine xt_istore dX12_after_27 (by decide) rfl ?_
          change x_T _ _ _ _ [_, _, _, _, _, _, _, _, _, _, _, _, _, _, _, _] _ _ _ _
          refine xt_iconst (0) dX12_after_29 (by decide) ?_
          refine xt_istore dX12_after_30 (by decide) rfl ?_
          change x_T _ _ _ _ [_, _, _, _, _, _, _, _, _, _, _, _, _, _, _, _] _ _ _ _
          refine xt_iconst (0) dX12_after_32 (by decide) ?_
          refine xt_istore dX12_after_33 (by decide) rfl ?_
          change x_T _ _ _ _ [_, _, _, _, _, _, _, _, _, _, _, _, _, _, _, _] _ _ _ _
          refine xt_iconst (0) dX12_after_35 (by decide) ?_
          refine xt_istore dX12_after_36 (by decide) rfl ?_
          change x_T _ _ _ _ [_, _, _, _, _, _, _, _, _, _, _, _, _, _, _, _] _ _ _ _
          refine xt_iconst (0) dX12_after_38 (by decide) ?_
          refine xt_istore dX12_after_39 (by decide) rfl ?_
          change x_T _ _ _ _ [_, _, _, _, _, _, _, _, _, _, _, _, _, _, _, _] _ _ _ _
          refine xt_iconst (0) dX12_after_41 (by decide) ?_
          refine xt_istore dX12_after_42 (by decide) rfl ?_
          change x_T _ _ _ _ [_, _, _, _, _, _, _, _, _, _, _, _, _, _, _, _] _ _ _ _
          refine xt_iconst (0) dX12_after_44 (by decide) ?_
          refine xt_istore dX12_after_45 (by decide) rfl ?_
          change x_T _ _ _ _ [_, _, _, _, _, _, _, _, _, _, _, _, _, _, _, _] _ _ _ _
          refine xt_iconst (1) dX12_after_47 (by decide) ?_
          refine xt_istore dX12_after_48 (by decide) rfl ?_
          change x_T _ _ _ _ [_, _, _, _, _, _, _, _, _, _, _, _, _, _, _, _] _ _ _ _
          refine xt_iconst (0) dX12_after_50 (by decide) ?_
          refine xt_istore dX12_after_51 (by decide) rfl ?_
          change x_T _ _ _ _ [_, _, _, _, _, _, _, _, _, _, _, _, _, _, _, _] _ _ _ _
          refine x_after sc 21 μ1 f (F, s_c0) (s_ok0 hW) hm1 fd n D hfd2 hWd h40 hM1 _ _ _ _ (fun μ2 w2 v11 v12 v13 v14 v15 hf2 => ?_) n 0 μ1 _ (F, s_c0) _ _ _ (by omega) (s_ok0 hW) hm1 (m_fr.rf μ1) rfl
          refine xt_iload_n _ dX12_after_307 rfl ?_
          refine xt_tabIn 356 dX12_after_308 (by decide) (by decide) (by rfl) (by decide) ?_
          refine xt_iload _ dX12_after_356 rfl ?_
          exact xt_iret .int dX12_after_358 rfl (by first | rfl | assumption) ⟨rfl, (fun a ha => by rw [hf2.1 a (by unfold x_ok at ha; omega) (by unfold x_ok at ha; omega) (by unfold x_ok at ha; omega) (by unfold x_ok at ha; omega), hfr a (by unfold x_ok at ha; omega) (by unfold x_ok at ha; omega) (by unfold x_ok at ha; omega) (by unfold x_ok at ha; omega), x_u_ne (by unfold x_ok at ha; omega)])⟩
      · skip
        refine ⟨s_dec 12 ((s_go D n 0 (F, s_c0)).2.2 12), ?_, ?_⟩
        · intro μ w cf cd hf hcf hfd hcd e0 e1 hC hCd
          have hS := f_Sf hf2
          have hSd := d_Sf hfd2
          refine x_K.of (by decide) (Nat.le_of_ble_eq_true rfl) ?_
          show x_T sc 29 mX11_after 0 [.ref 0, .int (nI f), .int (nI fd), .int (nI 5), .retAddr 0, .retAddr 0] [] μ w _
          refine xt_aload_n _ dX11_after_0 rfl ?_
          refine xt_iload_n _ dX11_after_1 rfl ?_
          refine xt_cV _ dX11_after_2 klX11_90 (tX11_fairOf sc _ μ w f cf hf hcf e0) sh0 rfl rfl (Nat.le_of_ble_eq_true rfl) ?_
          refine xt_astore dX11_after_5 (by decide) rfl ?_
          change x_T _ _ _ _ [_, _, _, _, _, _] _ _ _ _
          refine xt_aload_n _ dX11_after_7 rfl ?_
          refine xt_iload_n _ dX11_after_8 rfl ?_
          refine xt_cV _ dX11_after_9 klX11_100 (tX11_dayOf sc _ μ w fd cd hfd hcd e1) sh0 rfl rfl (Nat.le_of_ble_eq_true rfl) ?_
          refine xt_astore dX11_after_12 (by decide) rfl ?_
          change x_T _ _ _ _ [_, _, _, _, _, _] _ _ _ _
          refine xt_aload _ dX11_after_14 rfl ?_
          refine xt_ifnull_r dX11_after_16 ?_
          refine xt_aload _ dX11_after_19 rfl ?_
          refine xt_ifnonnull_r 27 dX11_after_21 (by decide) ?_
          refine xt_aload_n _ dX11_after_27 rfl ?_
          refine xt_getr _ dX11_after_28 kfX11_34 (by first | exact sh0 | exact sh129 | exact hS.1 | exact hSd.1 | rfl | assumption) rfl ?_
          refine xt_aload _ dX11_after_31 rfl ?_
          refine xt_aload _ dX11_after_33 rfl ?_
          refine xt_aload _ dX11_after_35 rfl ?_
          refine xt_geti dX11_after_37 kfX11_108 (by first | exact sh0 | exact sh129 | exact hS.1 | exact hSd.1 | rfl | assumption) rfl ?_
          rw [hCd.1]
          refine xt_callV _ dX11_after_40 klX11_111 (tX7_run sc _ μ w (7 + 11 * f) (13 + 11 * fd) n n F D hS (by omega) hW hC hSd (by omega) hWd hCd (Nat.le_refl _)) sh129 rfl rfl (Nat.le_of_ble_eq_true rfl) (fun r2 μ2 w2 q2 => ?_)
          obtain ⟨rfl, hc2, hf2r⟩ := q2
          change x_T _ _ _ _ _ (.int _ :: _) _ _ _
          refine xt_pop dX11_after_43 rfl ?_
          refine xt_aload_n _ dX11_after_44 rfl ?_
          refine xt_getr _ dX11_after_45 kfX11_34 (by first | exact sh0 | exact sh129 | exact hS.1 | exact hSd.1 | rfl | assumption) rfl ?_
          refine xt_iload_n _ dX11_after_48 rfl ?_
          refine xt_cV _ dX11_after_49 klX11_314 (tX7_sumUp5 sc _ μ2 _ (s_go D n 0 (F, s_c0)).2 hc2) sh129 rfl rfl (Nat.le_of_ble_eq_true rfl) ?_
          exact xt_iret .int dX11_after_52 rfl (by first | rfl | assumption) ⟨rfl, (fun a ha => hf2r.1 a (by unfold x_ok at ha; omega))⟩
        · intro μ w cf cd hf hcf hfd hcd e0 e1 hF hM
          refine x_K.of (by decide) (Nat.le_of_ble_eq_true rfl) ?_
          show x_T sc 29 mX12_after 0 [.ref 152, .int (nI f), .int (nI fd), .int (nI 5), .retAddr 0, .retAddr 0, .retAddr 0, .retAddr 0, .retAddr 0, .retAddr 0, .retAddr 0, .retAddr 0, .retAddr 0, .retAddr 0, .retAddr 0, .retAddr 0] [] μ w _
          refine xt_aload_n _ dX12_after_0 rfl ?_
          refine xt_iconst (0) dX12_after_1 (by decide) ?_
          refine xt_puti dX12_after_2 kpX12_72 (by first | exact sh152 | rfl | assumption) rfl (by first | rfl | assumption) (by first | rfl | assumption) ?_
          refine xt_aload_n _ dX12_after_5 rfl ?_
          refine xt_iload_n _ dX12_after_6 rfl ?_
          refine xt_iload_n _ dX12_after_7 rfl ?_
          refine xt_callV _ dX12_after_8 klX12_344 (tX12_layAll sc _ (x_u μ 152 (upd (μ 152) 0 0)) w f cf fd cd F hf hcf hfd hcd e0 e1 hF) sh152 rfl rfl (Nat.le_of_ble_eq_true rfl) (fun r1 μ1 w1 q1 => ?_)
          obtain ⟨rfl, hm1, h40, hfr⟩ := q1
          change x_T _ _ _ _ _ (.int 1 :: _) _ _ _
          have hM1 : d_M μ1 fd n D := fun i hi => by rw [hfr 159 (by decide) (by decide) (by decide) (by decide)]; exact hM i hi
          refine xt_if_eq 23 dX12_after_11 (by decide) (fun q => absurd q (by decide)) (fun _ => ?_)
          refine xt_iload_n _ dX12_after_14 rfl ?_
          refine xt_iconst (0) dX12_after_15 (by decide) ?_
          refine xt_iconst (5) dX12_after_16 (by decide) ?_
          refine xt_cS _ dX12_after_17 klX12_84 (tX12_in sc _ _ _ _ _ _) rfl rfl (Nat.le_of_ble_eq_true rfl) ?_
          refine xt_if_ne 26 dX12_after_20 (by decide) (fun _ => ?_) (fun q => absurd q (by decide))
          refine xt_iconst (-1) dX12_after_26 (by decide) ?_
          refine xt_istore dX12_after_27 (by decide) rfl ?_
          change x_T _ _ _ _ [_, _, _, _, _, _, _, _, _, _, _, _, _, _, _, _] _ _ _ _
          refine xt_iconst (0) dX12_after_29 (by decide) ?_
          refine xt_istore dX12_after_30 (by decide) rfl ?_
          change x_T _ _ _ _ [_, _, _, _, _, _, _, _, _, _, _, _, _, _, _, _] _ _ _ _
          refine xt_iconst (0) dX12_after_32 (by decide) ?_
          refine xt_istore dX12_after_33 (by decide) rfl ?_
          change x_T _ _ _ _ [_, _, _, _, _, _, _, _, _, _, _, _, _, _, _, _] _ _ _ _
          refine xt_iconst (0) dX12_after_35 (by decide) ?_
          refine xt_istore dX12_after_36 (by decide) rfl ?_
          change x_T _ _ _ _ [_, _, _, _, _, _, _, _, _, _, _, _, _, _, _, _] _ _ _ _
          refine xt_iconst (0) dX12_after_38 (by decide) ?_
          refine xt_istore dX12_after_39 (by decide) rfl ?_
          change x_T _ _ _ _ [_, _, _, _, _, _, _, _, _, _, _, _, _, _, _, _] _ _ _ _
          refine xt_iconst (0) dX12_after_41 (by decide) ?_
          refine xt_istore dX12_after_42 (by decide) rfl ?_
          change x_T _ _ _ _ [_, _, _, _, _, _, _, _, _, _, _, _, _, _, _, _] _ _ _ _
          refine xt_iconst (0) dX12_after_44 (by decide) ?_
          refine xt_istore dX12_after_45 (by decide) rfl ?_
          change x_T _ _ _ _ [_, _, _, _, _, _, _, _, _, _, _, _, _, _, _, _] _ _ _ _
          refine xt_iconst (1) dX12_after_47 (by decide) ?_
          refine xt_istore dX12_after_48 (by decide) rfl ?_
          change x_T _ _ _ _ [_, _, _, _, _, _, _, _, _, _, _, _, _, _, _, _] _ _ _ _
          refine xt_iconst (0) dX12_after_50 (by decide) ?_
          refine xt_istore dX12_after_51 (by decide) rfl ?_
          change x_T _ _ _ _ [_, _, _, _, _, _, _, _, _, _, _, _, _, _, _, _] _ _ _ _
          refine x_after sc 21 μ1 f (F, s_c0) (s_ok0 hW) hm1 fd n D hfd2 hWd h40 hM1 _ _ _ _ (fun μ2 w2 v11 v12 v13 v14 v15 hf2 => ?_) n 0 μ1 _ (F, s_c0) _ _ _ (by omega) (s_ok0 hW) hm1 (m_fr.rf μ1) rfl
          refine xt_iload_n _ dX12_after_307 rfl ?_
          refine xt_tabOut 359 dX12_after_308 (by decide) (by decide) ?_
          refine xt_iload _ dX12_after_359 rfl ?_
          exact xt_iret .int dX12_after_361 rfl (by first | rfl | assumption) ⟨rfl, (fun a ha => by rw [hf2.1 a (by unfold x_ok at ha; omega) (by unfold x_ok at ha; omega) (by unfold x_ok at ha; omega) (by unfold x_ok at ha; omega), hfr a (by unfold x_ok at ha; omega) (by unfold x_ok at ha; omega) (by unfold x_ok at ha; omega) (by unfold x_ok at ha; omega), x_u_ne (by unfold x_ok at ha; omega)])⟩
    · have hout := x_out (N := 5) (by decide) hw
      refine ⟨-2, ?_, ?_⟩
      · intro μ w cf cd hf hcf hfd hcd e0 e1 hC hCd
        have hS := f_Sf hf2
        have hSd := d_Sf hfd2
        refine x_K.of (by decide) (Nat.le_of_ble_eq_true rfl) ?_
        show x_T sc 29 mX11_after 0 [.ref 0, .int (nI f), .int (nI fd), .int a3, .retAddr 0, .retAddr 0] [] μ w _
        refine xt_aload_n _ dX11_after_0 rfl ?_
        refine xt_iload_n _ dX11_after_1 rfl ?_
        refine xt_cV _ dX11_after_2 klX11_90 (tX11_fairOf sc _ μ w f cf hf hcf e0) sh0 rfl rfl (Nat.le_of_ble_eq_true rfl) ?_
        refine xt_astore dX11_after_5 (by decide) rfl ?_
        change x_T _ _ _ _ [_, _, _, _, _, _] _ _ _ _
        refine xt_aload_n _ dX11_after_7 rfl ?_
        refine xt_iload_n _ dX11_after_8 rfl ?_
        refine xt_cV _ dX11_after_9 klX11_100 (tX11_dayOf sc _ μ w fd cd hfd hcd e1) sh0 rfl rfl (Nat.le_of_ble_eq_true rfl) ?_
        refine xt_astore dX11_after_12 (by decide) rfl ?_
        change x_T _ _ _ _ [_, _, _, _, _, _] _ _ _ _
        refine xt_aload _ dX11_after_14 rfl ?_
        refine xt_ifnull_r dX11_after_16 ?_
        refine xt_aload _ dX11_after_19 rfl ?_
        refine xt_ifnonnull_r 27 dX11_after_21 (by decide) ?_
        refine xt_aload_n _ dX11_after_27 rfl ?_
        refine xt_getr _ dX11_after_28 kfX11_34 (by first | exact sh0 | exact sh129 | exact hS.1 | exact hSd.1 | rfl | assumption) rfl ?_
        refine xt_aload _ dX11_after_31 rfl ?_
        refine xt_aload _ dX11_after_33 rfl ?_
        refine xt_aload _ dX11_after_35 rfl ?_
        refine xt_geti dX11_after_37 kfX11_108 (by first | exact sh0 | exact sh129 | exact hS.1 | exact hSd.1 | rfl | assumption) rfl ?_
        rw [hCd.1]
        refine xt_callV _ dX11_after_40 klX11_111 (tX7_run sc _ μ w (7 + 11 * f) (13 + 11 * fd) n n F D hS (by omega) hW hC hSd (by omega) hWd hCd (Nat.le_refl _)) sh129 rfl rfl (Nat.le_of_ble_eq_true rfl) (fun r2 μ2 w2 q2 => ?_)
        obtain ⟨rfl, hc2, hf2r⟩ := q2
        change x_T _ _ _ _ _ (.int _ :: _) _ _ _
        refine xt_pop dX11_after_43 rfl ?_
        refine xt_aload_n _ dX11_after_44 rfl ?_
        refine xt_getr _ dX11_after_45 kfX11_34 (by first | exact sh0 | exact sh129 | exact hS.1 | exact hSd.1 | rfl | assumption) rfl ?_
        refine xt_iload_n _ dX11_after_48 rfl ?_
        refine xt_cV _ dX11_after_49 klX11_314 (tX7_sumUp_no sc _ μ2 _ a3 hout) sh129 rfl rfl (Nat.le_of_ble_eq_true rfl) ?_
        exact xt_iret .int dX11_after_52 rfl (by first | rfl | assumption) ⟨rfl, (fun a ha => hf2r.1 a (by unfold x_ok at ha; omega))⟩
      · intro μ w cf cd hf hcf hfd hcd e0 e1 hF hM
        refine x_K.of (by decide) (Nat.le_of_ble_eq_true rfl) ?_
        show x_T sc 29 mX12_after 0 [.ref 152, .int (nI f), .int (nI fd), .int a3, .retAddr 0, .retAddr 0, .retAddr 0, .retAddr 0, .retAddr 0, .retAddr 0, .retAddr 0, .retAddr 0, .retAddr 0, .retAddr 0, .retAddr 0, .retAddr 0] [] μ w _
        refine xt_aload_n _ dX12_after_0 rfl ?_
        refine xt_iconst (0) dX12_after_1 (by decide) ?_
        refine xt_puti dX12_after_2 kpX12_72 (by first | exact sh152 | rfl | assumption) rfl (by first | rfl | assumption) (by first | rfl | assumption) ?_
        refine xt_aload_n _ dX12_after_5 rfl ?_
        refine xt_iload_n _ dX12_after_6 rfl ?_
        refine xt_iload_n _ dX12_after_7 rfl ?_
        refine xt_callV _ dX12_after_8 klX12_344 (tX12_layAll sc _ (x_u μ 152 (upd (μ 152) 0 0)) w f cf fd cd F hf hcf hfd hcd e0 e1 hF) sh152 rfl rfl (Nat.le_of_ble_eq_true rfl) (fun r1 μ1 w1 q1 => ?_)
        obtain ⟨rfl, hm1, h40, hfr⟩ := q1
        change x_T _ _ _ _ _ (.int 1 :: _) _ _ _
        have hM1 : d_M μ1 fd n D := fun i hi => by rw [hfr 159 (by decide) (by decide) (by decide) (by decide)]; exact hM i hi
        refine xt_if_eq 23 dX12_after_11 (by decide) (fun q => absurd q (by decide)) (fun _ => ?_)
        refine xt_iload_n _ dX12_after_14 rfl ?_
        refine xt_iconst (0) dX12_after_15 (by decide) ?_
        refine xt_iconst (5) dX12_after_16 (by decide) ?_
        refine xt_cS _ dX12_after_17 klX12_84 (tX12_in sc _ _ _ _ _ _) rfl rfl (Nat.le_of_ble_eq_true rfl) ?_
        refine xt_if_ne 26 dX12_after_20 (by decide) (fun q => absurd (s_in_out hw) q) (fun _ => ?_)
        refine xt_bipush (-2) dX12_after_23 (by decide) ?_
        exact xt_iret .int dX12_after_25 rfl (by first | rfl | assumption) ⟨rfl, (fun a ha => by rw [hfr a (by unfold x_ok at ha; omega) (by unfold x_ok at ha; omega) (by unfold x_ok at ha; omega) (by unfold x_ok at ha; omega), x_u_ne (by unfold x_ok at ha; omega)])⟩
