/-! the law: its loop over any steps -/
def x_stI (sc : Nat × (Nat → Int32)) (I J : x_Me → Int64 → Prop) (Mc Mm : x_Mt) (as : List Value) : Prop := ∀ μ w, I μ w → x_K sc 29 Mc (.ref 0 :: as) μ w (fun r μ1 w1 => ∃ v : Int32, r = some (.int v) ∧ x_K sc 29 Mm (.ref 152 :: as) μ1 w1 (fun r2 μ2 w2 => r2 = some (.int v) ∧ J μ2 w2))
def x_stL (sc : Nat × (Nat → Int32)) (I J : x_Me → Int64 → Prop) (Mc Mm : x_Mt) (as : List Value) : Prop := ∀ μ w, I μ w → x_K sc 29 Mc (.ref 0 :: as) μ w (fun r μ1 w1 => ∃ v : Int64, r = some (.long v) ∧ x_K sc 29 Mm (.ref 152 :: as) μ1 w1 (fun r2 μ2 w2 => r2 = some (.long v) ∧ J μ2 w2))
/-- what is asked of each of the calls -/
def x_stepAt (sc : Nat × (Nat → Int32)) (I J : x_Me → Int64 → Prop) : Nat → Prop
  | 0 => ∀ (a1 : Int32) (a2 : Int32) (a3 : Int32) (a4 : Int32) (a5 : Int32), x_stI sc I J mX11_feed mX12_feed [.int a1, .int a2, .int a3, .int a4, .int a5]
  | 1 => ∀ (a1 : Int32), x_stI sc I J mX11_end mX12_end [.int a1]
  | 2 => ∀ (a1 : Int32) (a2 : Int32), x_stI sc I J mX11_text mX12_text [.int a1, .int a2]
  | 3 => ∀ (a1 : Int32), x_stI sc I J mX11_fault mX12_fault [.int a1]
  | 4 => ∀ (a1 : Int32) (a2 : Int32), x_stI sc I J mX11_fair mX12_fair [.int a1, .int a2]
  | 5 => ∀ (a1 : Int32) (a2 : Int32) (a3 : Int32), x_stI sc I J mX11_deed mX12_deed [.int a1, .int a2, .int a3]
  | 6 => ∀ (a1 : Int32) (a2 : Int32), x_stI sc I J mX11_till mX12_till [.int a1, .int a2]
  | 7 => ∀ (a1 : Int32) (a2 : Int32) (a3 : Int32) (a4 : Int32), x_stI sc I J mX11_state mX12_state [.int a1, .int a2, .int a3, .int a4]
  | 8 => ∀ (a1 : Int32) (a2 : Int32), x_stI sc I J mX11_mend mX12_mend [.int a1, .int a2]
  | 9 => ∀ (a1 : Int32) (a2 : Bool), x_stI sc I J mX11_quiet mX12_quiet [.int a1, .int (cond a2 1 0)]
  | 10 => ∀ (a1 : Int32) (a2 : Int32), x_stI sc I J mX11_asking mX12_asking [.int a1, .int a2]
  | 11 => ∀ (a1 : Int32) (a2 : Bool), x_stI sc I J mX11_confess mX12_confess [.int a1, .int (cond a2 1 0)]
  | 12 => ∀ (a1 : Int32) (a2 : Int32), x_stI sc I J mX11_route mX12_route [.int a1, .int a2]
  | 13 => ∀ (a1 : Int32) (a2 : Int32) (a3 : Bool), x_stI sc I J mX11_byTurns mX12_byTurns [.int a1, .int a2, .int (cond a3 1 0)]
  | 14 => ∀ (a1 : Int32) (a2 : Int32), x_stI sc I J mX11_log mX12_log [.int a1, .int a2]
  | 15 => ∀ (a1 : Int32) (a2 : Int32), x_stI sc I J mX11_fits mX12_fits [.int a1, .int a2]
  | 16 => ∀ (a1 : Int32) (a2 : Int32) (a3 : Int32) (a4 : Int32), x_stI sc I J mX11_drawn mX12_drawn [.int a1, .int a2, .int a3, .int a4]
  | 17 => ∀ (a1 : Int32) (a2 : Int32), x_stI sc I J mX11_upright mX12_upright [.int a1, .int a2]
  | 18 => ∀ (a1 : Int32) (a2 : Int32) (a3 : Bool), x_stI sc I J mX11_share mX12_share [.int a1, .int a2, .int (cond a3 1 0)]
  | 19 => ∀ (a1 : Int32) (a2 : Int32) (a3 : Bool), x_stI sc I J mX11_walk mX12_walk [.int a1, .int a2, .int (cond a3 1 0)]
  | 20 => ∀ (a1 : Int32) (a2 : Bool), x_stI sc I J mX11_forget mX12_forget [.int a1, .int (cond a2 1 0)]
  | 21 => ∀ (a1 : Int32) (a2 : Int32), x_stI sc I J mX11_round mX12_round [.int a1, .int a2]
  | 22 => ∀ (a1 : Int32) (a2 : Int32), x_stI sc I J mX11_centre mX12_centre [.int a1, .int a2]
  | 23 => ∀ (a1 : Int32) (a2 : Int32), x_stI sc I J mX11_ring mX12_ring [.int a1, .int a2]
  | 24 => ∀ (a1 : Int32) (a2 : Int32), x_stI sc I J mX11_ladder mX12_ladder [.int a1, .int a2]
  | 25 => ∀ (a1 : Int32) (a2 : Int32), x_stI sc I J mX11_next mX12_next [.int a1, .int a2]
  | 26 => ∀ (a1 : Int32) (a2 : Int32) (a3 : Bool), x_stI sc I J mX11_purse mX12_purse [.int a1, .int a2, .int (cond a3 1 0)]
  | 27 => ∀ (a1 : Int32) (a2 : Int32) (a3 : Bool), x_stL sc I J mX11_calm mX12_calm [.int a1, .int a2, .int (cond a3 1 0)]
  | 28 => ∀ (a1 : Int32) (a2 : Int32), x_stI sc I J mX11_plays mX12_plays [.int a1, .int a2]
  | 29 => ∀ (a1 : Int32) (a2 : Int32) (a3 : Bool), x_stL sc I J mX11_guess mX12_guess [.int a1, .int a2, .int (cond a3 1 0)]
  | 30 => ∀ (a1 : Int32) (a2 : Int32) (a3 : Int32), x_stI sc I J mX11_after mX12_after [.int a1, .int a2, .int a3]
  | 31 => ∀ (a1 : Int32) (a2 : Int32) (a3 : Bool), x_stI sc I J mX11_odds mX12_odds [.int a1, .int a2, .int (cond a3 1 0)]
  | 32 => ∀ (a1 : Int32) (a2 : Int32), x_stI sc I J mX11_small mX12_small [.int a1, .int a2]
  | 33 => ∀ (a1 : Int32), x_stI sc I J mX11_count mX12_count [.int a1]
  | 34 => ∀ (a1 : Int32), x_stI sc I J mX11_image mX12_image [.int a1]
  | 35 => ∀ (a1 : Int32), x_stI sc I J mX11_again mX12_again [.int a1]
  | _ => True
theorem x_lcmp_self (v : Int64) : lg_cmp v v = 0 := by simp [lg_cmp]
theorem x_ix {L i k : Nat} (hi : 6 * i + 6 ≤ L) (hL : L ≤ 3072) (hk : k < 6) : vp_in (nI (6 * i) + nI k) L := by
  rw [nI_add]
  exact vp_in_nI (by omega) (by omega)
abbrev x_ll (i : Nat) : List Value := [.ref 1000300, .ref 0, .ref 152, .int (nI (6 * i))]
set_option maxHeartbeats 1000000 in
theorem x_case_0 {L i : Nat} {xs : Nat → Int32} {I J : x_Me → Int64 → Prop} {P : Option Value → x_Me → Int64 → Prop} (hi : 6 * i + 6 ≤ L) (hL : L ≤ 3072) (hs : x_stepAt (L, xs) I J 0) (μ : x_Me) (w : Int64) (hI : I μ w) (k : ∀ μ2 w2, J μ2 w2 → x_T (L, xs) 30 mL_law 1652 (x_ll i) [] μ2 w2 P) : x_T (L, xs) 30 mL_law 192 (x_ll i) [] μ w P := by
  have hrow : x_row (L, xs) 1000300 L xs := ⟨by decide, Or.inl ⟨rfl, rfl, rfl⟩⟩
  have h1 : vp_in (nI (6 * i) + 1) L := x_ix (k := 1) hi hL (by decide)
  have h2 : vp_in (nI (6 * i) + 2) L := x_ix (k := 2) hi hL (by decide)
  have h3 : vp_in (nI (6 * i) + 3) L := x_ix (k := 3) hi hL (by decide)
  have h4 : vp_in (nI (6 * i) + 4) L := x_ix (k := 4) hi hL (by decide)
  have h5 : vp_in (nI (6 * i) + 5) L := x_ix (k := 5) hi hL (by decide)
  refine xt_aload_n _ dL_law_192 rfl ?_
  refine xt_aload_n _ dL_law_193 rfl ?_
  refine xt_iload_n _ dL_law_194 rfl ?_
  refine xt_iconst 1 dL_law_195 (by decide) ?_
  refine xt_iadd dL_law_196 ?_
  refine xt_ialdT dL_law_197 hrow h1 ?_
  refine xt_aload_n _ dL_law_198 rfl ?_
  refine xt_iload_n _ dL_law_199 rfl ?_
  refine xt_iconst 2 dL_law_200 (by decide) ?_
  refine xt_iadd dL_law_201 ?_
  refine xt_ialdT dL_law_202 hrow h2 ?_
  refine xt_aload_n _ dL_law_203 rfl ?_
  refine xt_iload_n _ dL_law_204 rfl ?_
  refine xt_iconst 3 dL_law_205 (by decide) ?_
  refine xt_iadd dL_law_206 ?_
  refine xt_ialdT dL_law_207 hrow h3 ?_
  refine xt_aload_n _ dL_law_208 rfl ?_
  refine xt_iload_n _ dL_law_209 rfl ?_
  refine xt_iconst 4 dL_law_210 (by decide) ?_
  refine xt_iadd dL_law_211 ?_
  refine xt_ialdT dL_law_212 hrow h4 ?_
  refine xt_aload_n _ dL_law_213 rfl ?_
  refine xt_iload_n _ dL_law_214 rfl ?_
  refine xt_iconst 5 dL_law_215 (by decide) ?_
  refine xt_iadd dL_law_216 ?_
  refine xt_ialdT dL_law_217 hrow h5 ?_
  refine xt_callV (tm := _) [] dL_law_218 klL_13 (hs _ _ _ _ _ μ w hI) rfl rfl rfl (Nat.le_of_ble_eq_true rfl) (fun r1 μ1 w1 q1 => ?_)
  obtain ⟨v, rfl, hM2⟩ := q1
  change x_T _ _ _ _ _ [.int v] _ _ _
  refine xt_aload_n _ dL_law_221 rfl ?_
  refine xt_aload_n _ dL_law_222 rfl ?_
  refine xt_iload_n _ dL_law_223 rfl ?_
  refine xt_iconst 1 dL_law_224 (by decide) ?_
  refine xt_iadd dL_law_225 ?_
  refine xt_ialdT dL_law_226 hrow h1 ?_
  refine xt_aload_n _ dL_law_227 rfl ?_
  refine xt_iload_n _ dL_law_228 rfl ?_
  refine xt_iconst 2 dL_law_229 (by decide) ?_
  refine xt_iadd dL_law_230 ?_
  refine xt_ialdT dL_law_231 hrow h2 ?_
  refine xt_aload_n _ dL_law_232 rfl ?_
  refine xt_iload_n _ dL_law_233 rfl ?_
  refine xt_iconst 3 dL_law_234 (by decide) ?_
  refine xt_iadd dL_law_235 ?_
  refine xt_ialdT dL_law_236 hrow h3 ?_
  refine xt_aload_n _ dL_law_237 rfl ?_
  refine xt_iload_n _ dL_law_238 rfl ?_
  refine xt_iconst 4 dL_law_239 (by decide) ?_
  refine xt_iadd dL_law_240 ?_
  refine xt_ialdT dL_law_241 hrow h4 ?_
  refine xt_aload_n _ dL_law_242 rfl ?_
  refine xt_iload_n _ dL_law_243 rfl ?_
  refine xt_iconst 5 dL_law_244 (by decide) ?_
  refine xt_iadd dL_law_245 ?_
  refine xt_ialdT dL_law_246 hrow h5 ?_
  refine xt_callV (tm := _) [.int v] dL_law_247 klL_17 hM2 rfl rfl rfl (Nat.le_of_ble_eq_true rfl) (fun r2 μ2 w2 q2 => ?_)
  obtain ⟨rfl, hJ⟩ := q2
  change x_T _ _ _ _ _ [.int v, .int v] _ _ _
  exact xt_icmp_eq 1652 dL_law_250 (by decide) (fun _ => k μ2 w2 hJ) (fun q => absurd rfl q)
set_option maxHeartbeats 1000000 in
theorem x_case_1 {L i : Nat} {xs : Nat → Int32} {I J : x_Me → Int64 → Prop} {P : Option Value → x_Me → Int64 → Prop} (hi : 6 * i + 6 ≤ L) (hL : L ≤ 3072) (hs : x_stepAt (L, xs) I J 1) (μ : x_Me) (w : Int64) (hI : I μ w) (k : ∀ μ2 w2, J μ2 w2 → x_T (L, xs) 30 mL_law 1652 (x_ll i) [] μ2 w2 P) : x_T (L, xs) 30 mL_law 255 (x_ll i) [] μ w P := by
  have hrow : x_row (L, xs) 1000300 L xs := ⟨by decide, Or.inl ⟨rfl, rfl, rfl⟩⟩
  have h1 : vp_in (nI (6 * i) + 1) L := x_ix (k := 1) hi hL (by decide)
  refine xt_aload_n _ dL_law_255 rfl ?_
  refine xt_aload_n _ dL_law_256 rfl ?_
  refine xt_iload_n _ dL_law_257 rfl ?_
  refine xt_iconst 1 dL_law_258 (by decide) ?_
  refine xt_iadd dL_law_259 ?_
  refine xt_ialdT dL_law_260 hrow h1 ?_
  refine xt_callV (tm := _) [] dL_law_261 klL_18 (hs _ μ w hI) rfl rfl rfl (Nat.le_of_ble_eq_true rfl) (fun r1 μ1 w1 q1 => ?_)
  obtain ⟨v, rfl, hM2⟩ := q1
  change x_T _ _ _ _ _ [.int v] _ _ _
  refine xt_aload_n _ dL_law_264 rfl ?_
  refine xt_aload_n _ dL_law_265 rfl ?_
  refine xt_iload_n _ dL_law_266 rfl ?_
  refine xt_iconst 1 dL_law_267 (by decide) ?_
  refine xt_iadd dL_law_268 ?_
  refine xt_ialdT dL_law_269 hrow h1 ?_
  refine xt_callV (tm := _) [.int v] dL_law_270 klL_22 hM2 rfl rfl rfl (Nat.le_of_ble_eq_true rfl) (fun r2 μ2 w2 q2 => ?_)
  obtain ⟨rfl, hJ⟩ := q2
  change x_T _ _ _ _ _ [.int v, .int v] _ _ _
  exact xt_icmp_eq 1652 dL_law_273 (by decide) (fun _ => k μ2 w2 hJ) (fun q => absurd rfl q)
set_option maxHeartbeats 1000000 in
theorem x_case_2 {L i : Nat} {xs : Nat → Int32} {I J : x_Me → Int64 → Prop} {P : Option Value → x_Me → Int64 → Prop} (hi : 6 * i + 6 ≤ L) (hL : L ≤ 3072) (hs : x_stepAt (L, xs) I J 2) (μ : x_Me) (w : Int64) (hI : I μ w) (k : ∀ μ2 w2, J μ2 w2 → x_T (L, xs) 30 mL_law 1652 (x_ll i) [] μ2 w2 P) : x_T (L, xs) 30 mL_law 278 (x_ll i) [] μ w P := by
  have hrow : x_row (L, xs) 1000300 L xs := ⟨by decide, Or.inl ⟨rfl, rfl, rfl⟩⟩
  have h1 : vp_in (nI (6 * i) + 1) L := x_ix (k := 1) hi hL (by decide)
  have h2 : vp_in (nI (6 * i) + 2) L := x_ix (k := 2) hi hL (by decide)
  refine xt_aload_n _ dL_law_278 rfl ?_
  refine xt_aload_n _ dL_law_279 rfl ?_
  refine xt_iload_n _ dL_law_280 rfl ?_
  refine xt_iconst 1 dL_law_281 (by decide) ?_
  refine xt_iadd dL_law_282 ?_
  refine xt_ialdT dL_law_283 hrow h1 ?_
  refine xt_aload_n _ dL_law_284 rfl ?_
  refine xt_iload_n _ dL_law_285 rfl ?_
  refine xt_iconst 2 dL_law_286 (by decide) ?_
  refine xt_iadd dL_law_287 ?_
  refine xt_ialdT dL_law_288 hrow h2 ?_
  refine xt_callV (tm := _) [] dL_law_289 klL_23 (hs _ _ μ w hI) rfl rfl rfl (Nat.le_of_ble_eq_true rfl) (fun r1 μ1 w1 q1 => ?_)
  obtain ⟨v, rfl, hM2⟩ := q1
  change x_T _ _ _ _ _ [.int v] _ _ _
  refine xt_aload_n _ dL_law_292 rfl ?_
  refine xt_aload_n _ dL_law_293 rfl ?_
  refine xt_iload_n _ dL_law_294 rfl ?_
  refine xt_iconst 1 dL_law_295 (by decide) ?_
  refine xt_iadd dL_law_296 ?_
  refine xt_ialdT dL_law_297 hrow h1 ?_
  refine xt_aload_n _ dL_law_298 rfl ?_
  refine xt_iload_n _ dL_law_299 rfl ?_
  refine xt_iconst 2 dL_law_300 (by decide) ?_
  refine xt_iadd dL_law_301 ?_
  refine xt_ialdT dL_law_302 hrow h2 ?_
  refine xt_callV (tm := _) [.int v] dL_law_303 klL_27 hM2 rfl rfl rfl (Nat.le_of_ble_eq_true rfl) (fun r2 μ2 w2 q2 => ?_)
  obtain ⟨rfl, hJ⟩ := q2
  change x_T _ _ _ _ _ [.int v, .int v] _ _ _
  exact xt_icmp_eq 1652 dL_law_306 (by decide) (fun _ => k μ2 w2 hJ) (fun q => absurd rfl q)
set_option maxHeartbeats 1000000 in
theorem x_case_3 {L i : Nat} {xs : Nat → Int32} {I J : x_Me → Int64 → Prop} {P : Option Value → x_Me → Int64 → Prop} (hi : 6 * i + 6 ≤ L) (hL : L ≤ 3072) (hs : x_stepAt (L, xs) I J 3) (μ : x_Me) (w : Int64) (hI : I μ w) (k : ∀ μ2 w2, J μ2 w2 → x_T (L, xs) 30 mL_law 1652 (x_ll i) [] μ2 w2 P) : x_T (L, xs) 30 mL_law 311 (x_ll i) [] μ w P := by
  have hrow : x_row (L, xs) 1000300 L xs := ⟨by decide, Or.inl ⟨rfl, rfl, rfl⟩⟩
  have h1 : vp_in (nI (6 * i) + 1) L := x_ix (k := 1) hi hL (by decide)
  refine xt_aload_n _ dL_law_311 rfl ?_
  refine xt_aload_n _ dL_law_312 rfl ?_
  refine xt_iload_n _ dL_law_313 rfl ?_
  refine xt_iconst 1 dL_law_314 (by decide) ?_
  refine xt_iadd dL_law_315 ?_
  refine xt_ialdT dL_law_316 hrow h1 ?_
  refine xt_callV (tm := _) [] dL_law_317 klL_28 (hs _ μ w hI) rfl rfl rfl (Nat.le_of_ble_eq_true rfl) (fun r1 μ1 w1 q1 => ?_)
  obtain ⟨v, rfl, hM2⟩ := q1
  change x_T _ _ _ _ _ [.int v] _ _ _
  refine xt_aload_n _ dL_law_320 rfl ?_
  refine xt_aload_n _ dL_law_321 rfl ?_
  refine xt_iload_n _ dL_law_322 rfl ?_
  refine xt_iconst 1 dL_law_323 (by decide) ?_
  refine xt_iadd dL_law_324 ?_
  refine xt_ialdT dL_law_325 hrow h1 ?_
  refine xt_callV (tm := _) [.int v] dL_law_326 klL_31 hM2 rfl rfl rfl (Nat.le_of_ble_eq_true rfl) (fun r2 μ2 w2 q2 => ?_)
  obtain ⟨rfl, hJ⟩ := q2
  change x_T _ _ _ _ _ [.int v, .int v] _ _ _
  exact xt_icmp_eq 1652 dL_law_329 (by decide) (fun _ => k μ2 w2 hJ) (fun q => absurd rfl q)
set_option maxHeartbeats 1000000 in
theorem x_case_4 {L i : Nat} {xs : Nat → Int32} {I J : x_Me → Int64 → Prop} {P : Option Value → x_Me → Int64 → Prop} (hi : 6 * i + 6 ≤ L) (hL : L ≤ 3072) (hs : x_stepAt (L, xs) I J 4) (μ : x_Me) (w : Int64) (hI : I μ w) (k : ∀ μ2 w2, J μ2 w2 → x_T (L, xs) 30 mL_law 1652 (x_ll i) [] μ2 w2 P) : x_T (L, xs) 30 mL_law 334 (x_ll i) [] μ w P := by
  have hrow : x_row (L, xs) 1000300 L xs := ⟨by decide, Or.inl ⟨rfl, rfl, rfl⟩⟩
  have h1 : vp_in (nI (6 * i) + 1) L := x_ix (k := 1) hi hL (by decide)
  have h2 : vp_in (nI (6 * i) + 2) L := x_ix (k := 2) hi hL (by decide)
  refine xt_aload_n _ dL_law_334 rfl ?_
  refine xt_aload_n _ dL_law_335 rfl ?_
  refine xt_iload_n _ dL_law_336 rfl ?_
  refine xt_iconst 1 dL_law_337 (by decide) ?_
  refine xt_iadd dL_law_338 ?_
  refine xt_ialdT dL_law_339 hrow h1 ?_
  refine xt_aload_n _ dL_law_340 rfl ?_
  refine xt_iload_n _ dL_law_341 rfl ?_
  refine xt_iconst 2 dL_law_342 (by decide) ?_
  refine xt_iadd dL_law_343 ?_
  refine xt_ialdT dL_law_344 hrow h2 ?_
  refine xt_callV (tm := _) [] dL_law_345 klL_32 (hs _ _ μ w hI) rfl rfl rfl (Nat.le_of_ble_eq_true rfl) (fun r1 μ1 w1 q1 => ?_)
  obtain ⟨v, rfl, hM2⟩ := q1
  change x_T _ _ _ _ _ [.int v] _ _ _
  refine xt_aload_n _ dL_law_348 rfl ?_
  refine xt_aload_n _ dL_law_349 rfl ?_
  refine xt_iload_n _ dL_law_350 rfl ?_
  refine xt_iconst 1 dL_law_351 (by decide) ?_
  refine xt_iadd dL_law_352 ?_
  refine xt_ialdT dL_law_353 hrow h1 ?_
  refine xt_aload_n _ dL_law_354 rfl ?_
  refine xt_iload_n _ dL_law_355 rfl ?_
  refine xt_iconst 2 dL_law_356 (by decide) ?_
  refine xt_iadd dL_law_357 ?_
  refine xt_ialdT dL_law_358 hrow h2 ?_
  refine xt_callV (tm := _) [.int v] dL_law_359 klL_35 hM2 rfl rfl rfl (Nat.le_of_ble_eq_true rfl) (fun r2 μ2 w2 q2 => ?_)
  obtain ⟨rfl, hJ⟩ := q2
  change x_T _ _ _ _ _ [.int v, .int v] _ _ _
  exact xt_icmp_eq 1652 dL_law_362 (by decide) (fun _ => k μ2 w2 hJ) (fun q => absurd rfl q)
set_option maxHeartbeats 1000000 in
theorem x_case_5 {L i : Nat} {xs : Nat → Int32} {I J : x_Me → Int64 → Prop} {P : Option Value → x_Me → Int64 → Prop} (hi : 6 * i + 6 ≤ L) (hL : L ≤ 3072) (hs : x_stepAt (L, xs) I J 5) (μ : x_Me) (w : Int64) (hI : I μ w) (k : ∀ μ2 w2, J μ2 w2 → x_T (L, xs) 30 mL_law 1652 (x_ll i) [] μ2 w2 P) : x_T (L, xs) 30 mL_law 367 (x_ll i) [] μ w P := by
  have hrow : x_row (L, xs) 1000300 L xs := ⟨by decide, Or.inl ⟨rfl, rfl, rfl⟩⟩
  have h1 : vp_in (nI (6 * i) + 1) L := x_ix (k := 1) hi hL (by decide)
  have h2 : vp_in (nI (6 * i) + 2) L := x_ix (k := 2) hi hL (by decide)
  have h3 : vp_in (nI (6 * i) + 3) L := x_ix (k := 3) hi hL (by decide)
  refine xt_aload_n _ dL_law_367 rfl ?_
  refine xt_aload_n _ dL_law_368 rfl ?_
  refine xt_iload_n _ dL_law_369 rfl ?_
  refine xt_iconst 1 dL_law_370 (by decide) ?_
  refine xt_iadd dL_law_371 ?_
  refine xt_ialdT dL_law_372 hrow h1 ?_
  refine xt_aload_n _ dL_law_373 rfl ?_
  refine xt_iload_n _ dL_law_374 rfl ?_
  refine xt_iconst 2 dL_law_375 (by decide) ?_
  refine xt_iadd dL_law_376 ?_
  refine xt_ialdT dL_law_377 hrow h2 ?_
  refine xt_aload_n _ dL_law_378 rfl ?_
  refine xt_iload_n _ dL_law_379 rfl ?_
  refine xt_iconst 3 dL_law_380 (by decide) ?_
  refine xt_iadd dL_law_381 ?_
  refine xt_ialdT dL_law_382 hrow h3 ?_
  refine xt_callV (tm := _) [] dL_law_383 klL_36 (hs _ _ _ μ w hI) rfl rfl rfl (Nat.le_of_ble_eq_true rfl) (fun r1 μ1 w1 q1 => ?_)
  obtain ⟨v, rfl, hM2⟩ := q1
  change x_T _ _ _ _ _ [.int v] _ _ _
  refine xt_aload_n _ dL_law_386 rfl ?_
  refine xt_aload_n _ dL_law_387 rfl ?_
  refine xt_iload_n _ dL_law_388 rfl ?_
  refine xt_iconst 1 dL_law_389 (by decide) ?_
  refine xt_iadd dL_law_390 ?_
  refine xt_ialdT dL_law_391 hrow h1 ?_
  refine xt_aload_n _ dL_law_392 rfl ?_
  refine xt_iload_n _ dL_law_393 rfl ?_
  refine xt_iconst 2 dL_law_394 (by decide) ?_
  refine xt_iadd dL_law_395 ?_
  refine xt_ialdT dL_law_396 hrow h2 ?_
  refine xt_aload_n _ dL_law_397 rfl ?_
  refine xt_iload_n _ dL_law_398 rfl ?_
  refine xt_iconst 3 dL_law_399 (by decide) ?_
  refine xt_iadd dL_law_400 ?_
  refine xt_ialdT dL_law_401 hrow h3 ?_
  refine xt_callV (tm := _) [.int v] dL_law_402 klL_40 hM2 rfl rfl rfl (Nat.le_of_ble_eq_true rfl) (fun r2 μ2 w2 q2 => ?_)
  obtain ⟨rfl, hJ⟩ := q2
  change x_T _ _ _ _ _ [.int v, .int v] _ _ _
  exact xt_icmp_eq 1652 dL_law_405 (by decide) (fun _ => k μ2 w2 hJ) (fun q => absurd rfl q)
set_option maxHeartbeats 1000000 in
theorem x_case_6 {L i : Nat} {xs : Nat → Int32} {I J : x_Me → Int64 → Prop} {P : Option Value → x_Me → Int64 → Prop} (hi : 6 * i + 6 ≤ L) (hL : L ≤ 3072) (hs : x_stepAt (L, xs) I J 6) (μ : x_Me) (w : Int64) (hI : I μ w) (k : ∀ μ2 w2, J μ2 w2 → x_T (L, xs) 30 mL_law 1652 (x_ll i) [] μ2 w2 P) : x_T (L, xs) 30 mL_law 410 (x_ll i) [] μ w P := by
  have hrow : x_row (L, xs) 1000300 L xs := ⟨by decide, Or.inl ⟨rfl, rfl, rfl⟩⟩
  have h1 : vp_in (nI (6 * i) + 1) L := x_ix (k := 1) hi hL (by decide)
  have h2 : vp_in (nI (6 * i) + 2) L := x_ix (k := 2) hi hL (by decide)
  refine xt_aload_n _ dL_law_410 rfl ?_
  refine xt_aload_n _ dL_law_411 rfl ?_
  refine xt_iload_n _ dL_law_412 rfl ?_
  refine xt_iconst 1 dL_law_413 (by decide) ?_
  refine xt_iadd dL_law_414 ?_
  refine xt_ialdT dL_law_415 hrow h1 ?_
  refine xt_aload_n _ dL_law_416 rfl ?_
  refine xt_iload_n _ dL_law_417 rfl ?_
  refine xt_iconst 2 dL_law_418 (by decide) ?_
  refine xt_iadd dL_law_419 ?_
  refine xt_ialdT dL_law_420 hrow h2 ?_
  refine xt_callV (tm := _) [] dL_law_421 klL_41 (hs _ _ μ w hI) rfl rfl rfl (Nat.le_of_ble_eq_true rfl) (fun r1 μ1 w1 q1 => ?_)
  obtain ⟨v, rfl, hM2⟩ := q1
  change x_T _ _ _ _ _ [.int v] _ _ _
  refine xt_aload_n _ dL_law_424 rfl ?_
  refine xt_aload_n _ dL_law_425 rfl ?_
  refine xt_iload_n _ dL_law_426 rfl ?_
  refine xt_iconst 1 dL_law_427 (by decide) ?_
  refine xt_iadd dL_law_428 ?_
  refine xt_ialdT dL_law_429 hrow h1 ?_
  refine xt_aload_n _ dL_law_430 rfl ?_
  refine xt_iload_n _ dL_law_431 rfl ?_
  refine xt_iconst 2 dL_law_432 (by decide) ?_
  refine xt_iadd dL_law_433 ?_
  refine xt_ialdT dL_law_434 hrow h2 ?_
  refine xt_callV (tm := _) [.int v] dL_law_435 klL_44 hM2 rfl rfl rfl (Nat.le_of_ble_eq_true rfl) (fun r2 μ2 w2 q2 => ?_)
  obtain ⟨rfl, hJ⟩ := q2
  change x_T _ _ _ _ _ [.int v, .int v] _ _ _
  exact xt_icmp_eq 1652 dL_law_438 (by decide) (fun _ => k μ2 w2 hJ) (fun q => absurd rfl q)
set_option maxHeartbeats 1000000 in
theorem x_case_7 {L i : Nat} {xs : Nat → Int32} {I J : x_Me → Int64 → Prop} {P : Option Value → x_Me → Int64 → Prop} (hi : 6 * i + 6 ≤ L) (hL : L ≤ 3072) (hs : x_stepAt (L, xs) I J 7) (μ : x_Me) (w : Int64) (hI : I μ w) (k : ∀ μ2 w2, J μ2 w2 → x_T (L, xs) 30 mL_law 1652 (x_ll i) [] μ2 w2 P) : x_T (L, xs) 30 mL_law 443 (x_ll i) [] μ w P := by
  have hrow : x_row (L, xs) 1000300 L xs := ⟨by decide, Or.inl ⟨rfl, rfl, rfl⟩⟩
  have h1 : vp_in (nI (6 * i) + 1) L := x_ix (k := 1) hi hL (by decide)
  have h2 : vp_in (nI (6 * i) + 2) L := x_ix (k := 2) hi hL (by decide)
  have h3 : vp_in (nI (6 * i) + 3) L := x_ix (k := 3) hi hL (by decide)
  have h4 : vp_in (nI (6 * i) + 4) L := x_ix (k := 4) hi hL (by decide)
  refine xt_aload_n _ dL_law_443 rfl ?_
  refine xt_aload_n _ dL_law_444 rfl ?_
  refine xt_iload_n _ dL_law_445 rfl ?_
  refine xt_iconst 1 dL_law_446 (by decide) ?_
  refine xt_iadd dL_law_447 ?_
  refine xt_ialdT dL_law_448 hrow h1 ?_
  refine xt_aload_n _ dL_law_449 rfl ?_
  refine xt_iload_n _ dL_law_450 rfl ?_
  refine xt_iconst 2 dL_law_451 (by decide) ?_
  refine xt_iadd dL_law_452 ?_
  refine xt_ialdT dL_law_453 hrow h2 ?_
  refine xt_aload_n _ dL_law_454 rfl ?_
  refine xt_iload_n _ dL_law_455 rfl ?_
  refine xt_iconst 3 dL_law_456 (by decide) ?_
  refine xt_iadd dL_law_457 ?_
  refine xt_ialdT dL_law_458 hrow h3 ?_
  refine xt_aload_n _ dL_law_459 rfl ?_
  refine xt_iload_n _ dL_law_460 rfl ?_
  refine xt_iconst 4 dL_law_461 (by decide) ?_
  refine xt_iadd dL_law_462 ?_
  refine xt_ialdT dL_law_463 hrow h4 ?_
  refine xt_callV (tm := _) [] dL_law_464 klL_45 (hs _ _ _ _ μ w hI) rfl rfl rfl (Nat.le_of_ble_eq_true rfl) (fun r1 μ1 w1 q1 => ?_)
  obtain ⟨v, rfl, hM2⟩ := q1
  change x_T _ _ _ _ _ [.int v] _ _ _
  refine xt_aload_n _ dL_law_467 rfl ?_
  refine xt_aload_n _ dL_law_468 rfl ?_
  refine xt_iload_n _ dL_law_469 rfl ?_
  refine xt_iconst 1 dL_law_470 (by decide) ?_
  refine xt_iadd dL_law_471 ?_
  refine xt_ialdT dL_law_472 hrow h1 ?_
  refine xt_aload_n _ dL_law_473 rfl ?_
  refine xt_iload_n _ dL_law_474 rfl ?_
  refine xt_iconst 2 dL_law_475 (by decide) ?_
  refine xt_iadd dL_law_476 ?_
  refine xt_ialdT dL_law_477 hrow h2 ?_
  refine xt_aload_n _ dL_law_478 rfl ?_
  refine xt_iload_n _ dL_law_479 rfl ?_
  refine xt_iconst 3 dL_law_480 (by decide) ?_
  refine xt_iadd dL_law_481 ?_
  refine xt_ialdT dL_law_482 hrow h3 ?_
  refine xt_aload_n _ dL_law_483 rfl ?_
  refine xt_iload_n _ dL_law_484 rfl ?_
  refine xt_iconst 4 dL_law_485 (by decide) ?_
  refine xt_iadd dL_law_486 ?_
  refine xt_ialdT dL_law_487 hrow h4 ?_
  refine xt_callV (tm := _) [.int v] dL_law_488 klL_49 hM2 rfl rfl rfl (Nat.le_of_ble_eq_true rfl) (fun r2 μ2 w2 q2 => ?_)
  obtain ⟨rfl, hJ⟩ := q2
  change x_T _ _ _ _ _ [.int v, .int v] _ _ _
  exact xt_icmp_eq 1652 dL_law_491 (by decide) (fun _ => k μ2 w2 hJ) (fun q => absurd rfl q)
set_option maxHeartbeats 1000000 in
theorem x_case_8 {L i : Nat} {xs : Nat → Int32} {I J : x_Me → Int64 → Prop} {P : Option Value → x_Me → Int64 → Prop} (hi : 6 * i + 6 ≤ L) (hL : L ≤ 3072) (hs : x_stepAt (L, xs) I J 8) (μ : x_Me) (w : Int64) (hI : I μ w) (k : ∀ μ2 w2, J μ2 w2 → x_T (L, xs) 30 mL_law 1652 (x_ll i) [] μ2 w2 P) : x_T (L, xs) 30 mL_law 496 (x_ll i) [] μ w P := by
  have hrow : x_row (L, xs) 1000300 L xs := ⟨by decide, Or.inl ⟨rfl, rfl, rfl⟩⟩
  have h1 : vp_in (nI (6 * i) + 1) L := x_ix (k := 1) hi hL (by decide)
  have h2 : vp_in (nI (6 * i) + 2) L := x_ix (k := 2) hi hL (by decide)
  refine xt_aload_n _ dL_law_496 rfl ?_
  refine xt_aload_n _ dL_law_497 rfl ?_
  refine xt_iload_n _ dL_law_498 rfl ?_
  refine xt_iconst 1 dL_law_499 (by decide) ?_
  refine xt_iadd dL_law_500 ?_
  refine xt_ialdT dL_law_501 hrow h1 ?_
  refine xt_aload_n _ dL_law_502 rfl ?_
  refine xt_iload_n _ dL_law_503 rfl ?_
  refine xt_iconst 2 dL_law_504 (by decide) ?_
  refine xt_iadd dL_law_505 ?_
  refine xt_ialdT dL_law_506 hrow h2 ?_
  refine xt_callV (tm := _) [] dL_law_507 klL_50 (hs _ _ μ w hI) rfl rfl rfl (Nat.le_of_ble_eq_true rfl) (fun r1 μ1 w1 q1 => ?_)
  obtain ⟨v, rfl, hM2⟩ := q1
  change x_T _ _ _ _ _ [.int v] _ _ _
  refine xt_aload_n _ dL_law_510 rfl ?_
  refine xt_aload_n _ dL_law_511 rfl ?_
  refine xt_iload_n _ dL_law_512 rfl ?_
  refine xt_iconst 1 dL_law_513 (by decide) ?_
  refine xt_iadd dL_law_514 ?_
  refine xt_ialdT dL_law_515 hrow h1 ?_
  refine xt_aload_n _ dL_law_516 rfl ?_
  refine xt_iload_n _ dL_law_517 rfl ?_
  refine xt_iconst 2 dL_law_518 (by decide) ?_
  refine xt_iadd dL_law_519 ?_
  refine xt_ialdT dL_law_520 hrow h2 ?_
  refine xt_callV (tm := _) [.int v] dL_law_521 klL_53 hM2 rfl rfl rfl (Nat.le_of_ble_eq_true rfl) (fun r2 μ2 w2 q2 => ?_)
  obtain ⟨rfl, hJ⟩ := q2
  change x_T _ _ _ _ _ [.int v, .int v] _ _ _
  exact xt_icmp_eq 1652 dL_law_524 (by decide) (fun _ => k μ2 w2 hJ) (fun q => absurd rfl q)
set_option maxHeartbeats 1000000 in
theorem x_case_9 {L i : Nat} {xs : Nat → Int32} {I J : x_Me → Int64 → Prop} {P : Option Value → x_Me → Int64 → Prop} (hi : 6 * i + 6 ≤ L) (hL : L ≤ 3072) (hs : x_stepAt (L, xs) I J 9) (μ : x_Me) (w : Int64) (hI : I μ w) (k : ∀ μ2 w2, J μ2 w2 → x_T (L, xs) 30 mL_law 1652 (x_ll i) [] μ2 w2 P) : x_T (L, xs) 30 mL_law 529 (x_ll i) [] μ w P := by
  have hrow : x_row (L, xs) 1000300 L xs := ⟨by decide, Or.inl ⟨rfl, rfl, rfl⟩⟩
  have h1 : vp_in (nI (6 * i) + 1) L := x_ix (k := 1) hi hL (by decide)
  have h2 : vp_in (nI (6 * i) + 2) L := x_ix (k := 2) hi hL (by decide)
  by_cases b2 : xs (nI (6 * i) + 2).toNatClampNeg = 0
  · refine xt_aload_n _ dL_law_529 rfl ?_
    refine xt_aload_n _ dL_law_530 rfl ?_
    refine xt_iload_n _ dL_law_531 rfl ?_
    refine xt_iconst 1 dL_law_532 (by decide) ?_
    refine xt_iadd dL_law_533 ?_
    refine xt_ialdT dL_law_534 hrow h1 ?_
    refine xt_aload_n _ dL_law_535 rfl ?_
    refine xt_iload_n _ dL_law_536 rfl ?_
    refine xt_iconst 2 dL_law_537 (by decide) ?_
    refine xt_iadd dL_law_538 ?_
    refine xt_ialdT dL_law_539 hrow h2 ?_
    refine xt_if_eq 547 dL_law_540 (by decide) (fun _ => ?_) (fun q => absurd b2 q)
    refine xt_iconst 0 dL_law_547 (by decide) ?_
    refine xt_callV (tm := _) [] dL_law_548 klL_54 (hs _ false μ w hI) rfl rfl rfl (Nat.le_of_ble_eq_true rfl) (fun r1 μ1 w1 q1 => ?_)
    obtain ⟨v, rfl, hM2⟩ := q1
    change x_T _ _ _ _ _ [.int v] _ _ _
    refine xt_aload_n _ dL_law_551 rfl ?_
    refine xt_aload_n _ dL_law_552 rfl ?_
    refine xt_iload_n _ dL_law_553 rfl ?_
    refine xt_iconst 1 dL_law_554 (by decide) ?_
    refine xt_iadd dL_law_555 ?_
    refine xt_ialdT dL_law_556 hrow h1 ?_
    refine xt_aload_n _ dL_law_557 rfl ?_
    refine xt_iload_n _ dL_law_558 rfl ?_
    refine xt_iconst 2 dL_law_559 (by decide) ?_
    refine xt_iadd dL_law_560 ?_
    refine xt_ialdT dL_law_561 hrow h2 ?_
    refine xt_if_eq 569 dL_law_562 (by decide) (fun _ => ?_) (fun q => absurd b2 q)
    refine xt_iconst 0 dL_law_569 (by decide) ?_
    refine xt_callV (tm := _) [.int v] dL_law_570 klL_58 hM2 rfl rfl rfl (Nat.le_of_ble_eq_true rfl) (fun r2 μ2 w2 q2 => ?_)
    obtain ⟨rfl, hJ⟩ := q2
    change x_T _ _ _ _ _ [.int v, .int v] _ _ _
    exact xt_icmp_eq 1652 dL_law_573 (by decide) (fun _ => k μ2 w2 hJ) (fun q => absurd rfl q)
  · refine xt_aload_n _ dL_law_529 rfl ?_
    refine xt_aload_n _ dL_law_530 rfl ?_
    refine xt_iload_n _ dL_law_531 rfl ?_
    refine xt_iconst 1 dL_law_532 (by decide) ?_
    refine xt_iadd dL_law_533 ?_
    refine xt_ialdT dL_law_534 hrow h1 ?_
    refine xt_aload_n _ dL_law_535 rfl ?_
    refine xt_iload_n _ dL_law_536 rfl ?_
    refine xt_iconst 2 dL_law_537 (by decide) ?_
    refine xt_iadd dL_law_538 ?_
    refine xt_ialdT dL_law_539 hrow h2 ?_
    refine xt_if_eq 547 dL_law_540 (by decide) (fun q => absurd q b2) (fun _ => ?_)
    refine xt_iconst 1 dL_law_543 (by decide) ?_
    refine xt_goto 548 dL_law_544 (by decide) ?_
    refine xt_callV (tm := _) [] dL_law_548 klL_54 (hs _ true μ w hI) rfl rfl rfl (Nat.le_of_ble_eq_true rfl) (fun r1 μ1 w1 q1 => ?_)
    obtain ⟨v, rfl, hM2⟩ := q1
    change x_T _ _ _ _ _ [.int v] _ _ _
    refine xt_aload_n _ dL_law_551 rfl ?_
    refine xt_aload_n _ dL_law_552 rfl ?_
    refine xt_iload_n _ dL_law_553 rfl ?_
    refine xt_iconst 1 dL_law_554 (by decide) ?_
    refine xt_iadd dL_law_555 ?_
    refine xt_ialdT dL_law_556 hrow h1 ?_
    refine xt_aload_n _ dL_law_557 rfl ?_
    refine xt_iload_n _ dL_law_558 rfl ?_
    refine xt_iconst 2 dL_law_559 (by decide) ?_
    refine xt_iadd dL_law_560 ?_
    refine xt_ialdT dL_law_561 hrow h2 ?_
    refine xt_if_eq 569 dL_law_562 (by decide) (fun q => absurd q b2) (fun _ => ?_)
    refine xt_iconst 1 dL_law_565 (by decide) ?_
    refine xt_goto 570 dL_law_566 (by decide) ?_
    refine xt_callV (tm := _) [.int v] dL_law_570 klL_58 hM2 rfl rfl rfl (Nat.le_of_ble_eq_true rfl) (fun r2 μ2 w2 q2 => ?_)
    obtain ⟨rfl, hJ⟩ := q2
    change x_T _ _ _ _ _ [.int v, .int v] _ _ _
    exact xt_icmp_eq 1652 dL_law_573 (by decide) (fun _ => k μ2 w2 hJ) (fun q => absurd rfl q)
set_option maxHeartbeats 1000000 in
theorem x_case_10 {L i : Nat} {xs : Nat → Int32} {I J : x_Me → Int64 → Prop} {P : Option Value → x_Me → Int64 → Prop} (hi : 6 * i + 6 ≤ L) (hL : L ≤ 3072) (hs : x_stepAt (L, xs) I J 10) (μ : x_Me) (w : Int64) (hI : I μ w) (k : ∀ μ2 w2, J μ2 w2 → x_T (L, xs) 30 mL_law 1652 (x_ll i) [] μ2 w2 P) : x_T (L, xs) 30 mL_law 578 (x_ll i) [] μ w P := by
  have hrow : x_row (L, xs) 1000300 L xs := ⟨by decide, Or.inl ⟨rfl, rfl, rfl⟩⟩
  have h1 : vp_in (nI (6 * i) + 1) L := x_ix (k := 1) hi hL (by decide)
  have h2 : vp_in (nI (6 * i) + 2) L := x_ix (k := 2) hi hL (by decide)
  refine xt_aload_n _ dL_law_578 rfl ?_
  refine xt_aload_n _ dL_law_579 rfl ?_
  refine xt_iload_n _ dL_law_580 rfl ?_
  refine xt_iconst 1 dL_law_581 (by decide) ?_
  refine xt_iadd dL_law_582 ?_
  refine xt_ialdT dL_law_583 hrow h1 ?_
  refine xt_aload_n _ dL_law_584 rfl ?_
  refine xt_iload_n _ dL_law_585 rfl ?_
  refine xt_iconst 2 dL_law_586 (by decide) ?_
  refine xt_iadd dL_law_587 ?_
  refine xt_ialdT dL_law_588 hrow h2 ?_
  refine xt_callV (tm := _) [] dL_law_589 klL_59 (hs _ _ μ w hI) rfl rfl rfl (Nat.le_of_ble_eq_true rfl) (fun r1 μ1 w1 q1 => ?_)
  obtain ⟨v, rfl, hM2⟩ := q1
  change x_T _ _ _ _ _ [.int v] _ _ _
  refine xt_aload_n _ dL_law_592 rfl ?_
  refine xt_aload_n _ dL_law_593 rfl ?_
  refine xt_iload_n _ dL_law_594 rfl ?_
  refine xt_iconst 1 dL_law_595 (by decide) ?_
  refine xt_iadd dL_law_596 ?_
  refine xt_ialdT dL_law_597 hrow h1 ?_
  refine xt_aload_n _ dL_law_598 rfl ?_
  refine xt_iload_n _ dL_law_599 rfl ?_
  refine xt_iconst 2 dL_law_600 (by decide) ?_
  refine xt_iadd dL_law_601 ?_
  refine xt_ialdT dL_law_602 hrow h2 ?_
  refine xt_callV (tm := _) [.int v] dL_law_603 klL_62 hM2 rfl rfl rfl (Nat.le_of_ble_eq_true rfl) (fun r2 μ2 w2 q2 => ?_)
  obtain ⟨rfl, hJ⟩ := q2
  change x_T _ _ _ _ _ [.int v, .int v] _ _ _
  exact xt_icmp_eq 1652 dL_law_606 (by decide) (fun _ => k μ2 w2 hJ) (fun q => absurd rfl q)
set_option maxHeartbeats 1000000 in
theorem x_case_11 {L i : Nat} {xs : Nat → Int32} {I J : x_Me → Int64 → Prop} {P : Option Value → x_Me → Int64 → Prop} (hi : 6 * i + 6 ≤ L) (hL : L ≤ 3072) (hs : x_stepAt (L, xs) I J 11) (μ : x_Me) (w : Int64) (hI : I μ w) (k : ∀ μ2 w2, J μ2 w2 → x_T (L, xs) 30 mL_law 1652 (x_ll i) [] μ2 w2 P) : x_T (L, xs) 30 mL_law 611 (x_ll i) [] μ w P := by
  have hrow : x_row (L, xs) 1000300 L xs := ⟨by decide, Or.inl ⟨rfl, rfl, rfl⟩⟩
  have h1 : vp_in (nI (6 * i) + 1) L := x_ix (k := 1) hi hL (by decide)
  have h2 : vp_in (nI (6 * i) + 2) L := x_ix (k := 2) hi hL (by decide)
  by_cases b2 : xs (nI (6 * i) + 2).toNatClampNeg = 0
  · refine xt_aload_n _ dL_law_611 rfl ?_
    refine xt_aload_n _ dL_law_612 rfl ?_
    refine xt_iload_n _ dL_law_613 rfl ?_
    refine xt_iconst 1 dL_law_614 (by decide) ?_
    refine xt_iadd dL_law_615 ?_
    refine xt_ialdT dL_law_616 hrow h1 ?_
    refine xt_aload_n _ dL_law_617 rfl ?_
    refine xt_iload_n _ dL_law_618 rfl ?_
    refine xt_iconst 2 dL_law_619 (by decide) ?_
    refine xt_iadd dL_law_620 ?_
    refine xt_ialdT dL_law_621 hrow h2 ?_
    refine xt_if_eq 629 dL_law_622 (by decide) (fun _ => ?_) (fun q => absurd b2 q)
    refine xt_iconst 0 dL_law_629 (by decide) ?_
    refine xt_callV (tm := _) [] dL_law_630 klL_63 (hs _ false μ w hI) rfl rfl rfl (Nat.le_of_ble_eq_true rfl) (fun r1 μ1 w1 q1 => ?_)
    obtain ⟨v, rfl, hM2⟩ := q1
    change x_T _ _ _ _ _ [.int v] _ _ _
    refine xt_aload_n _ dL_law_633 rfl ?_
    refine xt_aload_n _ dL_law_634 rfl ?_
    refine xt_iload_n _ dL_law_635 rfl ?_
    refine xt_iconst 1 dL_law_636 (by decide) ?_
    refine xt_iadd dL_law_637 ?_
    refine xt_ialdT dL_law_638 hrow h1 ?_
    refine xt_aload_n _ dL_law_639 rfl ?_
    refine xt_iload_n _ dL_law_640 rfl ?_
    refine xt_iconst 2 dL_law_641 (by decide) ?_
    refine xt_iadd dL_law_642 ?_
    refine xt_ialdT dL_law_643 hrow h2 ?_
    refine xt_if_eq 651 dL_law_644 (by decide) (fun _ => ?_) (fun q => absurd b2 q)
    refine xt_iconst 0 dL_law_651 (by decide) ?_
    refine xt_callV (tm := _) [.int v] dL_law_652 klL_66 hM2 rfl rfl rfl (Nat.le_of_ble_eq_true rfl) (fun r2 μ2 w2 q2 => ?_)
    obtain ⟨rfl, hJ⟩ := q2
    change x_T _ _ _ _ _ [.int v, .int v] _ _ _
    exact xt_icmp_eq 1652 dL_law_655 (by decide) (fun _ => k μ2 w2 hJ) (fun q => absurd rfl q)
  · refine xt_aload_n _ dL_law_611 rfl ?_
    refine xt_aload_n _ dL_law_612 rfl ?_
    refine xt_iload_n _ dL_law_613 rfl ?_
    refine xt_iconst 1 dL_law_614 (by decide) ?_
    refine xt_iadd dL_law_615 ?_
    refine xt_ialdT dL_law_616 hrow h1 ?_
    refine xt_aload_n _ dL_law_617 rfl ?_
    refine xt_iload_n _ dL_law_618 rfl ?_
    refine xt_iconst 2 dL_law_619 (by decide) ?_
    refine xt_iadd dL_law_620 ?_
    refine xt_ialdT dL_law_621 hrow h2 ?_
    refine xt_if_eq 629 dL_law_622 (by decide) (fun q => absurd q b2) (fun _ => ?_)
    refine xt_iconst 1 dL_law_625 (by decide) ?_
    refine xt_goto 630 dL_law_626 (by decide) ?_
    refine xt_callV (tm := _) [] dL_law_630 klL_63 (hs _ true μ w hI) rfl rfl rfl (Nat.le_of_ble_eq_true rfl) (fun r1 μ1 w1 q1 => ?_)
    obtain ⟨v, rfl, hM2⟩ := q1
    change x_T _ _ _ _ _ [.int v] _ _ _
    refine xt_aload_n _ dL_law_633 rfl ?_
    refine xt_aload_n _ dL_law_634 rfl ?_
    refine xt_iload_n _ dL_law_635 rfl ?_
    refine xt_iconst 1 dL_law_636 (by decide) ?_
    refine xt_iadd dL_law_637 ?_
    refine xt_ialdT dL_law_638 hrow h1 ?_
    refine xt_aload_n _ dL_law_639 rfl ?_
    refine xt_iload_n _ dL_law_640 rfl ?_
    refine xt_iconst 2 dL_law_641 (by decide) ?_
    refine xt_iadd dL_law_642 ?_
    refine xt_ialdT dL_law_643 hrow h2 ?_
    refine xt_if_eq 651 dL_law_644 (by decide) (fun q => absurd q b2) (fun _ => ?_)
    refine xt_iconst 1 dL_law_647 (by decide) ?_
    refine xt_goto 652 dL_law_648 (by decide) ?_
    refine xt_callV (tm := _) [.int v] dL_law_652 klL_66 hM2 rfl rfl rfl (Nat.le_of_ble_eq_true rfl) (fun r2 μ2 w2 q2 => ?_)
    obtain ⟨rfl, hJ⟩ := q2
    change x_T _ _ _ _ _ [.int v, .int v] _ _ _
    exact xt_icmp_eq 1652 dL_law_655 (by decide) (fun _ => k μ2 w2 hJ) (fun q => absurd rfl q)
set_option maxHeartbeats 1000000 in
theorem x_case_12 {L i : Nat} {xs : Nat → Int32} {I J : x_Me → Int64 → Prop} {P : Option Value → x_Me → Int64 → Prop} (hi : 6 * i + 6 ≤ L) (hL : L ≤ 3072) (hs : x_stepAt (L, xs) I J 12) (μ : x_Me) (w : Int64) (hI : I μ w) (k : ∀ μ2 w2, J μ2 w2 → x_T (L, xs) 30 mL_law 1652 (x_ll i) [] μ2 w2 P) : x_T (L, xs) 30 mL_law 660 (x_ll i) [] μ w P := by
  have hrow : x_row (L, xs) 1000300 L xs := ⟨by decide, Or.inl ⟨rfl, rfl, rfl⟩⟩
  have h1 : vp_in (nI (6 * i) + 1) L := x_ix (k := 1) hi hL (by decide)
  have h2 : vp_in (nI (6 * i) + 2) L := x_ix (k := 2) hi hL (by decide)
  refine xt_aload_n _ dL_law_660 rfl ?_
  refine xt_aload_n _ dL_law_661 rfl ?_
  refine xt_iload_n _ dL_law_662 rfl ?_
  refine xt_iconst 1 dL_law_663 (by decide) ?_
  refine xt_iadd dL_law_664 ?_
  refine xt_ialdT dL_law_665 hrow h1 ?_
  refine xt_aload_n _ dL_law_666 rfl ?_
  refine xt_iload_n _ dL_law_667 rfl ?_
  refine xt_iconst 2 dL_law_668 (by decide) ?_
  refine xt_iadd dL_law_669 ?_
  refine xt_ialdT dL_law_670 hrow h2 ?_
  refine xt_callV (tm := _) [] dL_law_671 klL_67 (hs _ _ μ w hI) rfl rfl rfl (Nat.le_of_ble_eq_true rfl) (fun r1 μ1 w1 q1 => ?_)
  obtain ⟨v, rfl, hM2⟩ := q1
  change x_T _ _ _ _ _ [.int v] _ _ _
  refine xt_aload_n _ dL_law_674 rfl ?_
  refine xt_aload_n _ dL_law_675 rfl ?_
  refine xt_iload_n _ dL_law_676 rfl ?_
  refine xt_iconst 1 dL_law_677 (by decide) ?_
  refine xt_iadd dL_law_678 ?_
  refine xt_ialdT dL_law_679 hrow h1 ?_
  refine xt_aload_n _ dL_law_680 rfl ?_
  refine xt_iload_n _ dL_law_681 rfl ?_
  refine xt_iconst 2 dL_law_682 (by decide) ?_
  refine xt_iadd dL_law_683 ?_
  refine xt_ialdT dL_law_684 hrow h2 ?_
  refine xt_callV (tm := _) [.int v] dL_law_685 klL_70 hM2 rfl rfl rfl (Nat.le_of_ble_eq_true rfl) (fun r2 μ2 w2 q2 => ?_)
  obtain ⟨rfl, hJ⟩ := q2
  change x_T _ _ _ _ _ [.int v, .int v] _ _ _
  exact xt_icmp_eq 1652 dL_law_688 (by decide) (fun _ => k μ2 w2 hJ) (fun q => absurd rfl q)
set_option maxHeartbeats 1000000 in
theorem x_case_13 {L i : Nat} {xs : Nat → Int32} {I J : x_Me → Int64 → Prop} {P : Option Value → x_Me → Int64 → Prop} (hi : 6 * i + 6 ≤ L) (hL : L ≤ 3072) (hs : x_stepAt (L, xs) I J 13) (μ : x_Me) (w : Int64) (hI : I μ w) (k : ∀ μ2 w2, J μ2 w2 → x_T (L, xs) 30 mL_law 1652 (x_ll i) [] μ2 w2 P) : x_T (L, xs) 30 mL_law 693 (x_ll i) [] μ w P := by
  have hrow : x_row (L, xs) 1000300 L xs := ⟨by decide, Or.inl ⟨rfl, rfl, rfl⟩⟩
  have h1 : vp_in (nI (6 * i) + 1) L := x_ix (k := 1) hi hL (by decide)
  have h2 : vp_in (nI (6 * i) + 2) L := x_ix (k := 2) hi hL (by decide)
  have h3 : vp_in (nI (6 * i) + 3) L := x_ix (k := 3) hi hL (by decide)
  by_cases b3 : xs (nI (6 * i) + 3).toNatClampNeg = 0
  · refine xt_aload_n _ dL_law_693 rfl ?_
    refine xt_aload_n _ dL_law_694 rfl ?_
    refine xt_iload_n _ dL_law_695 rfl ?_
    refine xt_iconst 1 dL_law_696 (by decide) ?_
    refine xt_iadd dL_law_697 ?_
    refine xt_ialdT dL_law_698 hrow h1 ?_
    refine xt_aload_n _ dL_law_699 rfl ?_
    refine xt_iload_n _ dL_law_700 rfl ?_
    refine xt_iconst 2 dL_law_701 (by decide) ?_
    refine xt_iadd dL_law_702 ?_
    refine xt_ialdT dL_law_703 hrow h2 ?_
    refine xt_aload_n _ dL_law_704 rfl ?_
    refine xt_iload_n _ dL_law_705 rfl ?_
    refine xt_iconst 3 dL_law_706 (by decide) ?_
    refine xt_iadd dL_law_707 ?_
    refine xt_ialdT dL_law_708 hrow h3 ?_
    refine xt_if_eq 716 dL_law_709 (by decide) (fun _ => ?_) (fun q => absurd b3 q)
    refine xt_iconst 0 dL_law_716 (by decide) ?_
    refine xt_callV (tm := _) [] dL_law_717 klL_71 (hs _ _ false μ w hI) rfl rfl rfl (Nat.le_of_ble_eq_true rfl) (fun r1 μ1 w1 q1 => ?_)
    obtain ⟨v, rfl, hM2⟩ := q1
    change x_T _ _ _ _ _ [.int v] _ _ _
    refine xt_aload_n _ dL_law_720 rfl ?_
    refine xt_aload_n _ dL_law_721 rfl ?_
    refine xt_iload_n _ dL_law_722 rfl ?_
    refine xt_iconst 1 dL_law_723 (by decide) ?_
    refine xt_iadd dL_law_724 ?_
    refine xt_ialdT dL_law_725 hrow h1 ?_
    refine xt_aload_n _ dL_law_726 rfl ?_
    refine xt_iload_n _ dL_law_727 rfl ?_
    refine xt_iconst 2 dL_law_728 (by decide) ?_
    refine xt_iadd dL_law_729 ?_
    refine xt_ialdT dL_law_730 hrow h2 ?_
    refine xt_aload_n _ dL_law_731 rfl ?_
    refine xt_iload_n _ dL_law_732 rfl ?_
    refine xt_iconst 3 dL_law_733 (by decide) ?_
    refine xt_iadd dL_law_734 ?_
    refine xt_ialdT dL_law_735 hrow h3 ?_
    refine xt_if_eq 743 dL_law_736 (by decide) (fun _ => ?_) (fun q => absurd b3 q)
    refine xt_iconst 0 dL_law_743 (by decide) ?_
    refine xt_callV (tm := _) [.int v] dL_law_744 klL_75 hM2 rfl rfl rfl (Nat.le_of_ble_eq_true rfl) (fun r2 μ2 w2 q2 => ?_)
    obtain ⟨rfl, hJ⟩ := q2
    change x_T _ _ _ _ _ [.int v, .int v] _ _ _
    exact xt_icmp_eq 1652 dL_law_747 (by decide) (fun _ => k μ2 w2 hJ) (fun q => absurd rfl q)
  · refine xt_aload_n _ dL_law_693 rfl ?_
    refine xt_aload_n _ dL_law_694 rfl ?_
    refine xt_iload_n _ dL_law_695 rfl ?_
    refine xt_iconst 1 dL_law_696 (by decide) ?_
    refine xt_iadd dL_law_697 ?_
    refine xt_ialdT dL_law_698 hrow h1 ?_
    refine xt_aload_n _ dL_law_699 rfl ?_
    refine xt_iload_n _ dL_law_700 rfl ?_
    refine xt_iconst 2 dL_law_701 (by decide) ?_
    refine xt_iadd dL_law_702 ?_
    refine xt_ialdT dL_law_703 hrow h2 ?_
    refine xt_aload_n _ dL_law_704 rfl ?_
    refine xt_iload_n _ dL_law_705 rfl ?_
    refine xt_iconst 3 dL_law_706 (by decide) ?_
    refine xt_iadd dL_law_707 ?_
    refine xt_ialdT dL_law_708 hrow h3 ?_
    refine xt_if_eq 716 dL_law_709 (by decide) (fun q => absurd q b3) (fun _ => ?_)
    refine xt_iconst 1 dL_law_712 (by decide) ?_
    refine xt_goto 717 dL_law_713 (by decide) ?_
    refine xt_callV (tm := _) [] dL_law_717 klL_71 (hs _ _ true μ w hI) rfl rfl rfl (Nat.le_of_ble_eq_true rfl) (fun r1 μ1 w1 q1 => ?_)
    obtain ⟨v, rfl, hM2⟩ := q1
    change x_T _ _ _ _ _ [.int v] _ _ _
    refine xt_aload_n _ dL_law_720 rfl ?_
    refine xt_aload_n _ dL_law_721 rfl ?_
    refine xt_iload_n _ dL_law_722 rfl ?_
    refine xt_iconst 1 dL_law_723 (by decide) ?_
    refine xt_iadd dL_law_724 ?_
    refine xt_ialdT dL_law_725 hrow h1 ?_
    refine xt_aload_n _ dL_law_726 rfl ?_
    refine xt_iload_n _ dL_law_727 rfl ?_
    refine xt_iconst 2 dL_law_728 (by decide) ?_
    refine xt_iadd dL_law_729 ?_
    refine xt_ialdT dL_law_730 hrow h2 ?_
    refine xt_aload_n _ dL_law_731 rfl ?_
    refine xt_iload_n _ dL_law_732 rfl ?_
    refine xt_iconst 3 dL_law_733 (by decide) ?_
    refine xt_iadd dL_law_734 ?_
    refine xt_ialdT dL_law_735 hrow h3 ?_
    refine xt_if_eq 743 dL_law_736 (by decide) (fun q => absurd q b3) (fun _ => ?_)
    refine xt_iconst 1 dL_law_739 (by decide) ?_
    refine xt_goto 744 dL_law_740 (by decide) ?_
    refine xt_callV (tm := _) [.int v] dL_law_744 klL_75 hM2 rfl rfl rfl (Nat.le_of_ble_eq_true rfl) (fun r2 μ2 w2 q2 => ?_)
    obtain ⟨rfl, hJ⟩ := q2
    change x_T _ _ _ _ _ [.int v, .int v] _ _ _
    exact xt_icmp_eq 1652 dL_law_747 (by decide) (fun _ => k μ2 w2 hJ) (fun q => absurd rfl q)
set_option maxHeartbeats 1000000 in
theorem x_case_14 {L i : Nat} {xs : Nat → Int32} {I J : x_Me → Int64 → Prop} {P : Option Value → x_Me → Int64 → Prop} (hi : 6 * i + 6 ≤ L) (hL : L ≤ 3072) (hs : x_stepAt (L, xs) I J 14) (μ : x_Me) (w : Int64) (hI : I μ w) (k : ∀ μ2 w2, J μ2 w2 → x_T (L, xs) 30 mL_law 1652 (x_ll i) [] μ2 w2 P) : x_T (L, xs) 30 mL_law 752 (x_ll i) [] μ w P := by
  have hrow : x_row (L, xs) 1000300 L xs := ⟨by decide, Or.inl ⟨rfl, rfl, rfl⟩⟩
  have h1 : vp_in (nI (6 * i) + 1) L := x_ix (k := 1) hi hL (by decide)
  have h2 : vp_in (nI (6 * i) + 2) L := x_ix (k := 2) hi hL (by decide)
  refine xt_aload_n _ dL_law_752 rfl ?_
  refine xt_aload_n _ dL_law_753 rfl ?_
  refine xt_iload_n _ dL_law_754 rfl ?_
  refine xt_iconst 1 dL_law_755 (by decide) ?_
  refine xt_iadd dL_law_756 ?_
  refine xt_ialdT dL_law_757 hrow h1 ?_
  refine xt_aload_n _ dL_law_758 rfl ?_
  refine xt_iload_n _ dL_law_759 rfl ?_
  refine xt_iconst 2 dL_law_760 (by decide) ?_
  refine xt_iadd dL_law_761 ?_
  refine xt_ialdT dL_law_762 hrow h2 ?_
  refine xt_callV (tm := _) [] dL_law_763 klL_76 (hs _ _ μ w hI) rfl rfl rfl (Nat.le_of_ble_eq_true rfl) (fun r1 μ1 w1 q1 => ?_)
  obtain ⟨v, rfl, hM2⟩ := q1
  change x_T _ _ _ _ _ [.int v] _ _ _
  refine xt_aload_n _ dL_law_766 rfl ?_
  refine xt_aload_n _ dL_law_767 rfl ?_
  refine xt_iload_n _ dL_law_768 rfl ?_
  refine xt_iconst 1 dL_law_769 (by decide) ?_
  refine xt_iadd dL_law_770 ?_
  refine xt_ialdT dL_law_771 hrow h1 ?_
  refine xt_aload_n _ dL_law_772 rfl ?_
  refine xt_iload_n _ dL_law_773 rfl ?_
  refine xt_iconst 2 dL_law_774 (by decide) ?_
  refine xt_iadd dL_law_775 ?_
  refine xt_ialdT dL_law_776 hrow h2 ?_
  refine xt_callV (tm := _) [.int v] dL_law_777 klL_79 hM2 rfl rfl rfl (Nat.le_of_ble_eq_true rfl) (fun r2 μ2 w2 q2 => ?_)
  obtain ⟨rfl, hJ⟩ := q2
  change x_T _ _ _ _ _ [.int v, .int v] _ _ _
  exact xt_icmp_eq 1652 dL_law_780 (by decide) (fun _ => k μ2 w2 hJ) (fun q => absurd rfl q)
set_option maxHeartbeats 1000000 in
theorem x_case_15 {L i : Nat} {xs : Nat → Int32} {I J : x_Me → Int64 → Prop} {P : Option Value → x_Me → Int64 → Prop} (hi : 6 * i + 6 ≤ L) (hL : L ≤ 3072) (hs : x_stepAt (L, xs) I J 15) (μ : x_Me) (w : Int64) (hI : I μ w) (k : ∀ μ2 w2, J μ2 w2 → x_T (L, xs) 30 mL_law 1652 (x_ll i) [] μ2 w2 P) : x_T (L, xs) 30 mL_law 785 (x_ll i) [] μ w P := by
  have hrow : x_row (L, xs) 1000300 L xs := ⟨by decide, Or.inl ⟨rfl, rfl, rfl⟩⟩
  have h1 : vp_in (nI (6 * i) + 1) L := x_ix (k := 1) hi hL (by decide)
  have h2 : vp_in (nI (6 * i) + 2) L := x_ix (k := 2) hi hL (by decide)
  refine xt_aload_n _ dL_law_785 rfl ?_
  refine xt_aload_n _ dL_law_786 rfl ?_
  refine xt_iload_n _ dL_law_787 rfl ?_
  refine xt_iconst 1 dL_law_788 (by decide) ?_
  refine xt_iadd dL_law_789 ?_
  refine xt_ialdT dL_law_790 hrow h1 ?_
  refine xt_aload_n _ dL_law_791 rfl ?_
  refine xt_iload_n _ dL_law_792 rfl ?_
  refine xt_iconst 2 dL_law_793 (by decide) ?_
  refine xt_iadd dL_law_794 ?_
  refine xt_ialdT dL_law_795 hrow h2 ?_
  refine xt_callV (tm := _) [] dL_law_796 klL_80 (hs _ _ μ w hI) rfl rfl rfl (Nat.le_of_ble_eq_true rfl) (fun r1 μ1 w1 q1 => ?_)
  obtain ⟨v, rfl, hM2⟩ := q1
  change x_T _ _ _ _ _ [.int v] _ _ _
  refine xt_aload_n _ dL_law_799 rfl ?_
  refine xt_aload_n _ dL_law_800 rfl ?_
  refine xt_iload_n _ dL_law_801 rfl ?_
  refine xt_iconst 1 dL_law_802 (by decide) ?_
  refine xt_iadd dL_law_803 ?_
  refine xt_ialdT dL_law_804 hrow h1 ?_
  refine xt_aload_n _ dL_law_805 rfl ?_
  refine xt_iload_n _ dL_law_806 rfl ?_
  refine xt_iconst 2 dL_law_807 (by decide) ?_
  refine xt_iadd dL_law_808 ?_
  refine xt_ialdT dL_law_809 hrow h2 ?_
  refine xt_callV (tm := _) [.int v] dL_law_810 klL_83 hM2 rfl rfl rfl (Nat.le_of_ble_eq_true rfl) (fun r2 μ2 w2 q2 => ?_)
  obtain ⟨rfl, hJ⟩ := q2
  change x_T _ _ _ _ _ [.int v, .int v] _ _ _
  exact xt_icmp_eq 1652 dL_law_813 (by decide) (fun _ => k μ2 w2 hJ) (fun q => absurd rfl q)
set_option maxHeartbeats 1000000 in
theorem x_case_16 {L i : Nat} {xs : Nat → Int32} {I J : x_Me → Int64 → Prop} {P : Option Value → x_Me → Int64 → Prop} (hi : 6 * i + 6 ≤ L) (hL : L ≤ 3072) (hs : x_stepAt (L, xs) I J 16) (μ : x_Me) (w : Int64) (hI : I μ w) (k : ∀ μ2 w2, J μ2 w2 → x_T (L, xs) 30 mL_law 1652 (x_ll i) [] μ2 w2 P) : x_T (L, xs) 30 mL_law 818 (x_ll i) [] μ w P := by
  have hrow : x_row (L, xs) 1000300 L xs := ⟨by decide, Or.inl ⟨rfl, rfl, rfl⟩⟩
  have h1 : vp_in (nI (6 * i) + 1) L := x_ix (k := 1) hi hL (by decide)
  have h2 : vp_in (nI (6 * i) + 2) L := x_ix (k := 2) hi hL (by decide)
  have h3 : vp_in (nI (6 * i) + 3) L := x_ix (k := 3) hi hL (by decide)
  have h4 : vp_in (nI (6 * i) + 4) L := x_ix (k := 4) hi hL (by decide)
  refine xt_aload_n _ dL_law_818 rfl ?_
  refine xt_aload_n _ dL_law_819 rfl ?_
  refine xt_iload_n _ dL_law_820 rfl ?_
  refine xt_iconst 1 dL_law_821 (by decide) ?_
  refine xt_iadd dL_law_822 ?_
  refine xt_ialdT dL_law_823 hrow h1 ?_
  refine xt_aload_n _ dL_law_824 rfl ?_
  refine xt_iload_n _ dL_law_825 rfl ?_
  refine xt_iconst 2 dL_law_826 (by decide) ?_
  refine xt_iadd dL_law_827 ?_
  refine xt_ialdT dL_law_828 hrow h2 ?_
  refine xt_aload_n _ dL_law_829 rfl ?_
  refine xt_iload_n _ dL_law_830 rfl ?_
  refine xt_iconst 3 dL_law_831 (by decide) ?_
  refine xt_iadd dL_law_832 ?_
  refine xt_ialdT dL_law_833 hrow h3 ?_
  refine xt_aload_n _ dL_law_834 rfl ?_
  refine xt_iload_n _ dL_law_835 rfl ?_
  refine xt_iconst 4 dL_law_836 (by decide) ?_
  refine xt_iadd dL_law_837 ?_
  refine xt_ialdT dL_law_838 hrow h4 ?_
  refine xt_callV (tm := _) [] dL_law_839 klL_84 (hs _ _ _ _ μ w hI) rfl rfl rfl (Nat.le_of_ble_eq_true rfl) (fun r1 μ1 w1 q1 => ?_)
  obtain ⟨v, rfl, hM2⟩ := q1
  change x_T _ _ _ _ _ [.int v] _ _ _
  refine xt_aload_n _ dL_law_842 rfl ?_
  refine xt_aload_n _ dL_law_843 rfl ?_
  refine xt_iload_n _ dL_law_844 rfl ?_
  refine xt_iconst 1 dL_law_845 (by decide) ?_
  refine xt_iadd dL_law_846 ?_
  refine xt_ialdT dL_law_847 hrow h1 ?_
  refine xt_aload_n _ dL_law_848 rfl ?_
  refine xt_iload_n _ dL_law_849 rfl ?_
  refine xt_iconst 2 dL_law_850 (by decide) ?_
  refine xt_iadd dL_law_851 ?_
  refine xt_ialdT dL_law_852 hrow h2 ?_
  refine xt_aload_n _ dL_law_853 rfl ?_
  refine xt_iload_n _ dL_law_854 rfl ?_
  refine xt_iconst 3 dL_law_855 (by decide) ?_
  refine xt_iadd dL_law_856 ?_
  refine xt_ialdT dL_law_857 hrow h3 ?_
  refine xt_aload_n _ dL_law_858 rfl ?_
  refine xt_iload_n _ dL_law_859 rfl ?_
  refine xt_iconst 4 dL_law_860 (by decide) ?_
  refine xt_iadd dL_law_861 ?_
  refine xt_ialdT dL_law_862 hrow h4 ?_
  refine xt_callV (tm := _) [.int v] dL_law_863 klL_87 hM2 rfl rfl rfl (Nat.le_of_ble_eq_true rfl) (fun r2 μ2 w2 q2 => ?_)
  obtain ⟨rfl, hJ⟩ := q2
  change x_T _ _ _ _ _ [.int v, .int v] _ _ _
  exact xt_icmp_eq 1652 dL_law_866 (by decide) (fun _ => k μ2 w2 hJ) (fun q => absurd rfl q)
set_option maxHeartbeats 1000000 in
theorem x_case_17 {L i : Nat} {xs : Nat → Int32} {I J : x_Me → Int64 → Prop} {P : Option Value → x_Me → Int64 → Prop} (hi : 6 * i + 6 ≤ L) (hL : L ≤ 3072) (hs : x_stepAt (L, xs) I J 17) (μ : x_Me) (w : Int64) (hI : I μ w) (k : ∀ μ2 w2, J μ2 w2 → x_T (L, xs) 30 mL_law 1652 (x_ll i) [] μ2 w2 P) : x_T (L, xs) 30 mL_law 871 (x_ll i) [] μ w P := by
  have hrow : x_row (L, xs) 1000300 L xs := ⟨by decide, Or.inl ⟨rfl, rfl, rfl⟩⟩
  have h1 : vp_in (nI (6 * i) + 1) L := x_ix (k := 1) hi hL (by decide)
  have h2 : vp_in (nI (6 * i) + 2) L := x_ix (k := 2) hi hL (by decide)
  refine xt_aload_n _ dL_law_871 rfl ?_
  refine xt_aload_n _ dL_law_872 rfl ?_
  refine xt_iload_n _ dL_law_873 rfl ?_
  refine xt_iconst 1 dL_law_874 (by decide) ?_
  refine xt_iadd dL_law_875 ?_
  refine xt_ialdT dL_law_876 hrow h1 ?_
  refine xt_aload_n _ dL_law_877 rfl ?_
  refine xt_iload_n _ dL_law_878 rfl ?_
  refine xt_iconst 2 dL_law_879 (by decide) ?_
  refine xt_iadd dL_law_880 ?_
  refine xt_ialdT dL_law_881 hrow h2 ?_
  refine xt_callV (tm := _) [] dL_law_882 klL_88 (hs _ _ μ w hI) rfl rfl rfl (Nat.le_of_ble_eq_true rfl) (fun r1 μ1 w1 q1 => ?_)
  obtain ⟨v, rfl, hM2⟩ := q1
  change x_T _ _ _ _ _ [.int v] _ _ _
  refine xt_aload_n _ dL_law_885 rfl ?_
  refine xt_aload_n _ dL_law_886 rfl ?_
  refine xt_iload_n _ dL_law_887 rfl ?_
  refine xt_iconst 1 dL_law_888 (by decide) ?_
  refine xt_iadd dL_law_889 ?_
  refine xt_ialdT dL_law_890 hrow h1 ?_
  refine xt_aload_n _ dL_law_891 rfl ?_
  refine xt_iload_n _ dL_law_892 rfl ?_
  refine xt_iconst 2 dL_law_893 (by decide) ?_
  refine xt_iadd dL_law_894 ?_
  refine xt_ialdT dL_law_895 hrow h2 ?_
  refine xt_callV (tm := _) [.int v] dL_law_896 klL_91 hM2 rfl rfl rfl (Nat.le_of_ble_eq_true rfl) (fun r2 μ2 w2 q2 => ?_)
  obtain ⟨rfl, hJ⟩ := q2
  change x_T _ _ _ _ _ [.int v, .int v] _ _ _
  exact xt_icmp_eq 1652 dL_law_899 (by decide) (fun _ => k μ2 w2 hJ) (fun q => absurd rfl q)
set_option maxHeartbeats 1000000 in
theorem x_case_18 {L i : Nat} {xs : Nat → Int32} {I J : x_Me → Int64 → Prop} {P : Option Value → x_Me → Int64 → Prop} (hi : 6 * i + 6 ≤ L) (hL : L ≤ 3072) (hs : x_stepAt (L, xs) I J 18) (μ : x_Me) (w : Int64) (hI : I μ w) (k : ∀ μ2 w2, J μ2 w2 → x_T (L, xs) 30 mL_law 1652 (x_ll i) [] μ2 w2 P) : x_T (L, xs) 30 mL_law 904 (x_ll i) [] μ w P := by
  have hrow : x_row (L, xs) 1000300 L xs := ⟨by decide, Or.inl ⟨rfl, rfl, rfl⟩⟩
  have h1 : vp_in (nI (6 * i) + 1) L := x_ix (k := 1) hi hL (by decide)
  have h2 : vp_in (nI (6 * i) + 2) L := x_ix (k := 2) hi hL (by decide)
  have h3 : vp_in (nI (6 * i) + 3) L := x_ix (k := 3) hi hL (by decide)
  by_cases b3 : xs (nI (6 * i) + 3).toNatClampNeg = 0
  · refine xt_aload_n _ dL_law_904 rfl ?_
    refine xt_aload_n _ dL_law_905 rfl ?_
    refine xt_iload_n _ dL_law_906 rfl ?_
    refine xt_iconst 1 dL_law_907 (by decide) ?_
    refine xt_iadd dL_law_908 ?_
    refine xt_ialdT dL_law_909 hrow h1 ?_
    refine xt_aload_n _ dL_law_910 rfl ?_
    refine xt_iload_n _ dL_law_911 rfl ?_
    refine xt_iconst 2 dL_law_912 (by decide) ?_
    refine xt_iadd dL_law_913 ?_
    refine xt_ialdT dL_law_914 hrow h2 ?_
    refine xt_aload_n _ dL_law_915 rfl ?_
    refine xt_iload_n _ dL_law_916 rfl ?_
    refine xt_iconst 3 dL_law_917 (by decide) ?_
    refine xt_iadd dL_law_918 ?_
    refine xt_ialdT dL_law_919 hrow h3 ?_
    refine xt_if_eq 927 dL_law_920 (by decide) (fun _ => ?_) (fun q => absurd b3 q)
    refine xt_iconst 0 dL_law_927 (by decide) ?_
    refine xt_callV (tm := _) [] dL_law_928 klL_92 (hs _ _ false μ w hI) rfl rfl rfl (Nat.le_of_ble_eq_true rfl) (fun r1 μ1 w1 q1 => ?_)
    obtain ⟨v, rfl, hM2⟩ := q1
    change x_T _ _ _ _ _ [.int v] _ _ _
    refine xt_aload_n _ dL_law_931 rfl ?_
    refine xt_aload_n _ dL_law_932 rfl ?_
    refine xt_iload_n _ dL_law_933 rfl ?_
    refine xt_iconst 1 dL_law_934 (by decide) ?_
    refine xt_iadd dL_law_935 ?_
    refine xt_ialdT dL_law_936 hrow h1 ?_
    refine xt_aload_n _ dL_law_937 rfl ?_
    refine xt_iload_n _ dL_law_938 rfl ?_
    refine xt_iconst 2 dL_law_939 (by decide) ?_
    refine xt_iadd dL_law_940 ?_
    refine xt_ialdT dL_law_941 hrow h2 ?_
    refine xt_aload_n _ dL_law_942 rfl ?_
    refine xt_iload_n _ dL_law_943 rfl ?_
    refine xt_iconst 3 dL_law_944 (by decide) ?_
    refine xt_iadd dL_law_945 ?_
    refine xt_ialdT dL_law_946 hrow h3 ?_
    refine xt_if_eq 954 dL_law_947 (by decide) (fun _ => ?_) (fun q => absurd b3 q)
    refine xt_iconst 0 dL_law_954 (by decide) ?_
    refine xt_callV (tm := _) [.int v] dL_law_955 klL_95 hM2 rfl rfl rfl (Nat.le_of_ble_eq_true rfl) (fun r2 μ2 w2 q2 => ?_)
    obtain ⟨rfl, hJ⟩ := q2
    change x_T _ _ _ _ _ [.int v, .int v] _ _ _
    exact xt_icmp_eq 1652 dL_law_958 (by decide) (fun _ => k μ2 w2 hJ) (fun q => absurd rfl q)
  · refine xt_aload_n _ dL_law_904 rfl ?_
    refine xt_aload_n _ dL_law_905 rfl ?_
    refine xt_iload_n _ dL_law_906 rfl ?_
    refine xt_iconst 1 dL_law_907 (by decide) ?_
    refine xt_iadd dL_law_908 ?_
    refine xt_ialdT dL_law_909 hrow h1 ?_
    refine xt_aload_n _ dL_law_910 rfl ?_
    refine xt_iload_n _ dL_law_911 rfl ?_
    refine xt_iconst 2 dL_law_912 (by decide) ?_
    refine xt_iadd dL_law_913 ?_
    refine xt_ialdT dL_law_914 hrow h2 ?_
    refine xt_aload_n _ dL_law_915 rfl ?_
    refine xt_iload_n _ dL_law_916 rfl ?_
    refine xt_iconst 3 dL_law_917 (by decide) ?_
    refine xt_iadd dL_law_918 ?_
    refine xt_ialdT dL_law_919 hrow h3 ?_
    refine xt_if_eq 927 dL_law_920 (by decide) (fun q => absurd q b3) (fun _ => ?_)
    refine xt_iconst 1 dL_law_923 (by decide) ?_
    refine xt_goto 928 dL_law_924 (by decide) ?_
    refine xt_callV (tm := _) [] dL_law_928 klL_92 (hs _ _ true μ w hI) rfl rfl rfl (Nat.le_of_ble_eq_true rfl) (fun r1 μ1 w1 q1 => ?_)
    obtain ⟨v, rfl, hM2⟩ := q1
    change x_T _ _ _ _ _ [.int v] _ _ _
    refine xt_aload_n _ dL_law_931 rfl ?_
    refine xt_aload_n _ dL_law_932 rfl ?_
    refine xt_iload_n _ dL_law_933 rfl ?_
    refine xt_iconst 1 dL_law_934 (by decide) ?_
    refine xt_iadd dL_law_935 ?_
    refine xt_ialdT dL_law_936 hrow h1 ?_
    refine xt_aload_n _ dL_law_937 rfl ?_
    refine xt_iload_n _ dL_law_938 rfl ?_
    refine xt_iconst 2 dL_law_939 (by decide) ?_
    refine xt_iadd dL_law_940 ?_
    refine xt_ialdT dL_law_941 hrow h2 ?_
    refine xt_aload_n _ dL_law_942 rfl ?_
    refine xt_iload_n _ dL_law_943 rfl ?_
    refine xt_iconst 3 dL_law_944 (by decide) ?_
    refine xt_iadd dL_law_945 ?_
    refine xt_ialdT dL_law_946 hrow h3 ?_
    refine xt_if_eq 954 dL_law_947 (by decide) (fun q => absurd q b3) (fun _ => ?_)
    refine xt_iconst 1 dL_law_950 (by decide) ?_
    refine xt_goto 955 dL_law_951 (by decide) ?_
    refine xt_callV (tm := _) [.int v] dL_law_955 klL_95 hM2 rfl rfl rfl (Nat.le_of_ble_eq_true rfl) (fun r2 μ2 w2 q2 => ?_)
    obtain ⟨rfl, hJ⟩ := q2
    change x_T _ _ _ _ _ [.int v, .int v] _ _ _
    exact xt_icmp_eq 1652 dL_law_958 (by decide) (fun _ => k μ2 w2 hJ) (fun q => absurd rfl q)
set_option maxHeartbeats 1000000 in
theorem x_case_19 {L i : Nat} {xs : Nat → Int32} {I J : x_Me → Int64 → Prop} {P : Option Value → x_Me → Int64 → Prop} (hi : 6 * i + 6 ≤ L) (hL : L ≤ 3072) (hs : x_stepAt (L, xs) I J 19) (μ : x_Me) (w : Int64) (hI : I μ w) (k : ∀ μ2 w2, J μ2 w2 → x_T (L, xs) 30 mL_law 1652 (x_ll i) [] μ2 w2 P) : x_T (L, xs) 30 mL_law 963 (x_ll i) [] μ w P := by
  have hrow : x_row (L, xs) 1000300 L xs := ⟨by decide, Or.inl ⟨rfl, rfl, rfl⟩⟩
  have h1 : vp_in (nI (6 * i) + 1) L := x_ix (k := 1) hi hL (by decide)
  have h2 : vp_in (nI (6 * i) + 2) L := x_ix (k := 2) hi hL (by decide)
  have h3 : vp_in (nI (6 * i) + 3) L := x_ix (k := 3) hi hL (by decide)
  by_cases b3 : xs (nI (6 * i) + 3).toNatClampNeg = 0
  · refine xt_aload_n _ dL_law_963 rfl ?_
    refine xt_aload_n _ dL_law_964 rfl ?_
    refine xt_iload_n _ dL_law_965 rfl ?_
    refine xt_iconst 1 dL_law_966 (by decide) ?_
    refine xt_iadd dL_law_967 ?_
    refine xt_ialdT dL_law_968 hrow h1 ?_
    refine xt_aload_n _ dL_law_969 rfl ?_
    refine xt_iload_n _ dL_law_970 rfl ?_
    refine xt_iconst 2 dL_law_971 (by decide) ?_
    refine xt_iadd dL_law_972 ?_
    refine xt_ialdT dL_law_973 hrow h2 ?_
    refine xt_aload_n _ dL_law_974 rfl ?_
    refine xt_iload_n _ dL_law_975 rfl ?_
    refine xt_iconst 3 dL_law_976 (by decide) ?_
    refine xt_iadd dL_law_977 ?_
    refine xt_ialdT dL_law_978 hrow h3 ?_
    refine xt_if_eq 986 dL_law_979 (by decide) (fun _ => ?_) (fun q => absurd b3 q)
    refine xt_iconst 0 dL_law_986 (by decide) ?_
    refine xt_callV (tm := _) [] dL_law_987 klL_96 (hs _ _ false μ w hI) rfl rfl rfl (Nat.le_of_ble_eq_true rfl) (fun r1 μ1 w1 q1 => ?_)
    obtain ⟨v, rfl, hM2⟩ := q1
    change x_T _ _ _ _ _ [.int v] _ _ _
    refine xt_aload_n _ dL_law_990 rfl ?_
    refine xt_aload_n _ dL_law_991 rfl ?_
    refine xt_iload_n _ dL_law_992 rfl ?_
    refine xt_iconst 1 dL_law_993 (by decide) ?_
    refine xt_iadd dL_law_994 ?_
    refine xt_ialdT dL_law_995 hrow h1 ?_
    refine xt_aload_n _ dL_law_996 rfl ?_
    refine xt_iload_n _ dL_law_997 rfl ?_
    refine xt_iconst 2 dL_law_998 (by decide) ?_
    refine xt_iadd dL_law_999 ?_
    refine xt_ialdT dL_law_1000 hrow h2 ?_
    refine xt_aload_n _ dL_law_1001 rfl ?_
    refine xt_iload_n _ dL_law_1002 rfl ?_
    refine xt_iconst 3 dL_law_1003 (by decide) ?_
    refine xt_iadd dL_law_1004 ?_
    refine xt_ialdT dL_law_1005 hrow h3 ?_
    refine xt_if_eq 1013 dL_law_1006 (by decide) (fun _ => ?_) (fun q => absurd b3 q)
    refine xt_iconst 0 dL_law_1013 (by decide) ?_
    refine xt_callV (tm := _) [.int v] dL_law_1014 klL_99 hM2 rfl rfl rfl (Nat.le_of_ble_eq_true rfl) (fun r2 μ2 w2 q2 => ?_)
    obtain ⟨rfl, hJ⟩ := q2
    change x_T _ _ _ _ _ [.int v, .int v] _ _ _
    exact xt_icmp_eq 1652 dL_law_1017 (by decide) (fun _ => k μ2 w2 hJ) (fun q => absurd rfl q)
  · refine xt_aload_n _ dL_law_963 rfl ?_
    refine xt_aload_n _ dL_law_964 rfl ?_
    refine xt_iload_n _ dL_law_965 rfl ?_
    refine xt_iconst 1 dL_law_966 (by decide) ?_
    refine xt_iadd dL_law_967 ?_
    refine xt_ialdT dL_law_968 hrow h1 ?_
    refine xt_aload_n _ dL_law_969 rfl ?_
    refine xt_iload_n _ dL_law_970 rfl ?_
    refine xt_iconst 2 dL_law_971 (by decide) ?_
    refine xt_iadd dL_law_972 ?_
    refine xt_ialdT dL_law_973 hrow h2 ?_
    refine xt_aload_n _ dL_law_974 rfl ?_
    refine xt_iload_n _ dL_law_975 rfl ?_
    refine xt_iconst 3 dL_law_976 (by decide) ?_
    refine xt_iadd dL_law_977 ?_
    refine xt_ialdT dL_law_978 hrow h3 ?_
    refine xt_if_eq 986 dL_law_979 (by decide) (fun q => absurd q b3) (fun _ => ?_)
    refine xt_iconst 1 dL_law_982 (by decide) ?_
    refine xt_goto 987 dL_law_983 (by decide) ?_
    refine xt_callV (tm := _) [] dL_law_987 klL_96 (hs _ _ true μ w hI) rfl rfl rfl (Nat.le_of_ble_eq_true rfl) (fun r1 μ1 w1 q1 => ?_)
    obtain ⟨v, rfl, hM2⟩ := q1
    change x_T _ _ _ _ _ [.int v] _ _ _
    refine xt_aload_n _ dL_law_990 rfl ?_
    refine xt_aload_n _ dL_law_991 rfl ?_
    refine xt_iload_n _ dL_law_992 rfl ?_
    refine xt_iconst 1 dL_law_993 (by decide) ?_
    refine xt_iadd dL_law_994 ?_
    refine xt_ialdT dL_law_995 hrow h1 ?_
    refine xt_aload_n _ dL_law_996 rfl ?_
    refine xt_iload_n _ dL_law_997 rfl ?_
    refine xt_iconst 2 dL_law_998 (by decide) ?_
    refine xt_iadd dL_law_999 ?_
    refine xt_ialdT dL_law_1000 hrow h2 ?_
    refine xt_aload_n _ dL_law_1001 rfl ?_
    refine xt_iload_n _ dL_law_1002 rfl ?_
    refine xt_iconst 3 dL_law_1003 (by decide) ?_
    refine xt_iadd dL_law_1004 ?_
    refine xt_ialdT dL_law_1005 hrow h3 ?_
    refine xt_if_eq 1013 dL_law_1006 (by decide) (fun q => absurd q b3) (fun _ => ?_)
    refine xt_iconst 1 dL_law_1009 (by decide) ?_
    refine xt_goto 1014 dL_law_1010 (by decide) ?_
    refine xt_callV (tm := _) [.int v] dL_law_1014 klL_99 hM2 rfl rfl rfl (Nat.le_of_ble_eq_true rfl) (fun r2 μ2 w2 q2 => ?_)
    obtain ⟨rfl, hJ⟩ := q2
    change x_T _ _ _ _ _ [.int v, .int v] _ _ _
    exact xt_icmp_eq 1652 dL_law_1017 (by decide) (fun _ => k μ2 w2 hJ) (fun q => absurd rfl q)
set_option maxHeartbeats 1000000 in
theorem x_case_20 {L i : Nat} {xs : Nat → Int32} {I J : x_Me → Int64 → Prop} {P : Option Value → x_Me → Int64 → Prop} (hi : 6 * i + 6 ≤ L) (hL : L ≤ 3072) (hs : x_stepAt (L, xs) I J 20) (μ : x_Me) (w : Int64) (hI : I μ w) (k : ∀ μ2 w2, J μ2 w2 → x_T (L, xs) 30 mL_law 1652 (x_ll i) [] μ2 w2 P) : x_T (L, xs) 30 mL_law 1022 (x_ll i) [] μ w P := by
  have hrow : x_row (L, xs) 1000300 L xs := ⟨by decide, Or.inl ⟨rfl, rfl, rfl⟩⟩
  have h1 : vp_in (nI (6 * i) + 1) L := x_ix (k := 1) hi hL (by decide)
  have h2 : vp_in (nI (6 * i) + 2) L := x_ix (k := 2) hi hL (by decide)
  by_cases b2 : xs (nI (6 * i) + 2).toNatClampNeg = 0
  · refine xt_aload_n _ dL_law_1022 rfl ?_
    refine xt_aload_n _ dL_law_1023 rfl ?_
    refine xt_iload_n _ dL_law_1024 rfl ?_
    refine xt_iconst 1 dL_law_1025 (by decide) ?_
    refine xt_iadd dL_law_1026 ?_
    refine xt_ialdT dL_law_1027 hrow h1 ?_
    refine xt_aload_n _ dL_law_1028 rfl ?_
    refine xt_iload_n _ dL_law_1029 rfl ?_
    refine xt_iconst 2 dL_law_1030 (by decide) ?_
    refine xt_iadd dL_law_1031 ?_
    refine xt_ialdT dL_law_1032 hrow h2 ?_
    refine xt_if_eq 1040 dL_law_1033 (by decide) (fun _ => ?_) (fun q => absurd b2 q)
    refine xt_iconst 0 dL_law_1040 (by decide) ?_
    refine xt_callV (tm := _) [] dL_law_1041 klL_100 (hs _ false μ w hI) rfl rfl rfl (Nat.le_of_ble_eq_true rfl) (fun r1 μ1 w1 q1 => ?_)
    obtain ⟨v, rfl, hM2⟩ := q1
    change x_T _ _ _ _ _ [.int v] _ _ _
    refine xt_aload_n _ dL_law_1044 rfl ?_
    refine xt_aload_n _ dL_law_1045 rfl ?_
    refine xt_iload_n _ dL_law_1046 rfl ?_
    refine xt_iconst 1 dL_law_1047 (by decide) ?_
    refine xt_iadd dL_law_1048 ?_
    refine xt_ialdT dL_law_1049 hrow h1 ?_
    refine xt_aload_n _ dL_law_1050 rfl ?_
    refine xt_iload_n _ dL_law_1051 rfl ?_
    refine xt_iconst 2 dL_law_1052 (by decide) ?_
    refine xt_iadd dL_law_1053 ?_
    refine xt_ialdT dL_law_1054 hrow h2 ?_
    refine xt_if_eq 1062 dL_law_1055 (by decide) (fun _ => ?_) (fun q => absurd b2 q)
    refine xt_iconst 0 dL_law_1062 (by decide) ?_
    refine xt_callV (tm := _) [.int v] dL_law_1063 klL_103 hM2 rfl rfl rfl (Nat.le_of_ble_eq_true rfl) (fun r2 μ2 w2 q2 => ?_)
    obtain ⟨rfl, hJ⟩ := q2
    change x_T _ _ _ _ _ [.int v, .int v] _ _ _
    exact xt_icmp_eq 1652 dL_law_1066 (by decide) (fun _ => k μ2 w2 hJ) (fun q => absurd rfl q)
  · refine xt_aload_n _ dL_law_1022 rfl ?_
    refine xt_aload_n _ dL_law_1023 rfl ?_
    refine xt_iload_n _ dL_law_1024 rfl ?_
    refine xt_iconst 1 dL_law_1025 (by decide) ?_
    refine xt_iadd dL_law_1026 ?_
    refine xt_ialdT dL_law_1027 hrow h1 ?_
    refine xt_aload_n _ dL_law_1028 rfl ?_
    refine xt_iload_n _ dL_law_1029 rfl ?_
    refine xt_iconst 2 dL_law_1030 (by decide) ?_
    refine xt_iadd dL_law_1031 ?_
    refine xt_ialdT dL_law_1032 hrow h2 ?_
    refine xt_if_eq 1040 dL_law_1033 (by decide) (fun q => absurd q b2) (fun _ => ?_)
    refine xt_iconst 1 dL_law_1036 (by decide) ?_
    refine xt_goto 1041 dL_law_1037 (by decide) ?_
    refine xt_callV (tm := _) [] dL_law_1041 klL_100 (hs _ true μ w hI) rfl rfl rfl (Nat.le_of_ble_eq_true rfl) (fun r1 μ1 w1 q1 => ?_)
    obtain ⟨v, rfl, hM2⟩ := q1
    change x_T _ _ _ _ _ [.int v] _ _ _
    refine xt_aload_n _ dL_law_1044 rfl ?_
    refine xt_aload_n _ dL_law_1045 rfl ?_
    refine xt_iload_n _ dL_law_1046 rfl ?_
    refine xt_iconst 1 dL_law_1047 (by decide) ?_
    refine xt_iadd dL_law_1048 ?_
    refine xt_ialdT dL_law_1049 hrow h1 ?_
    refine xt_aload_n _ dL_law_1050 rfl ?_
    refine xt_iload_n _ dL_law_1051 rfl ?_
    refine xt_iconst 2 dL_law_1052 (by decide) ?_
    refine xt_iadd dL_law_1053 ?_
    refine xt_ialdT dL_law_1054 hrow h2 ?_
    refine xt_if_eq 1062 dL_law_1055 (by decide) (fun q => absurd q b2) (fun _ => ?_)
    refine xt_iconst 1 dL_law_1058 (by decide) ?_
    refine xt_goto 1063 dL_law_1059 (by decide) ?_
    refine xt_callV (tm := _) [.int v] dL_law_1063 klL_103 hM2 rfl rfl rfl (Nat.le_of_ble_eq_true rfl) (fun r2 μ2 w2 q2 => ?_)
    obtain ⟨rfl, hJ⟩ := q2
    change x_T _ _ _ _ _ [.int v, .int v] _ _ _
    exact xt_icmp_eq 1652 dL_law_1066 (by decide) (fun _ => k μ2 w2 hJ) (fun q => absurd rfl q)
set_option maxHeartbeats 1000000 in
theorem x_case_21 {L i : Nat} {xs : Nat → Int32} {I J : x_Me → Int64 → Prop} {P : Option Value → x_Me → Int64 → Prop} (hi : 6 * i + 6 ≤ L) (hL : L ≤ 3072) (hs : x_stepAt (L, xs) I J 21) (μ : x_Me) (w : Int64) (hI : I μ w) (k : ∀ μ2 w2, J μ2 w2 → x_T (L, xs) 30 mL_law 1652 (x_ll i) [] μ2 w2 P) : x_T (L, xs) 30 mL_law 1071 (x_ll i) [] μ w P := by
  have hrow : x_row (L, xs) 1000300 L xs := ⟨by decide, Or.inl ⟨rfl, rfl, rfl⟩⟩
  have h1 : vp_in (nI (6 * i) + 1) L := x_ix (k := 1) hi hL (by decide)
  have h2 : vp_in (nI (6 * i) + 2) L := x_ix (k := 2) hi hL (by decide)
  refine xt_aload_n _ dL_law_1071 rfl ?_
  refine xt_aload_n _ dL_law_1072 rfl ?_
  refine xt_iload_n _ dL_law_1073 rfl ?_
  refine xt_iconst 1 dL_law_1074 (by decide) ?_
  refine xt_iadd dL_law_1075 ?_
  refine xt_ialdT dL_law_1076 hrow h1 ?_
  refine xt_aload_n _ dL_law_1077 rfl ?_
  refine xt_iload_n _ dL_law_1078 rfl ?_
  refine xt_iconst 2 dL_law_1079 (by decide) ?_
  refine xt_iadd dL_law_1080 ?_
  refine xt_ialdT dL_law_1081 hrow h2 ?_
  refine xt_callV (tm := _) [] dL_law_1082 klL_104 (hs _ _ μ w hI) rfl rfl rfl (Nat.le_of_ble_eq_true rfl) (fun r1 μ1 w1 q1 => ?_)
  obtain ⟨v, rfl, hM2⟩ := q1
  change x_T _ _ _ _ _ [.int v] _ _ _
  refine xt_aload_n _ dL_law_1085 rfl ?_
  refine xt_aload_n _ dL_law_1086 rfl ?_
  refine xt_iload_n _ dL_law_1087 rfl ?_
  refine xt_iconst 1 dL_law_1088 (by decide) ?_
  refine xt_iadd dL_law_1089 ?_
  refine xt_ialdT dL_law_1090 hrow h1 ?_
  refine xt_aload_n _ dL_law_1091 rfl ?_
  refine xt_iload_n _ dL_law_1092 rfl ?_
  refine xt_iconst 2 dL_law_1093 (by decide) ?_
  refine xt_iadd dL_law_1094 ?_
  refine xt_ialdT dL_law_1095 hrow h2 ?_
  refine xt_callV (tm := _) [.int v] dL_law_1096 klL_107 hM2 rfl rfl rfl (Nat.le_of_ble_eq_true rfl) (fun r2 μ2 w2 q2 => ?_)
  obtain ⟨rfl, hJ⟩ := q2
  change x_T _ _ _ _ _ [.int v, .int v] _ _ _
  exact xt_icmp_eq 1652 dL_law_1099 (by decide) (fun _ => k μ2 w2 hJ) (fun q => absurd rfl q)
set_option maxHeartbeats 1000000 in
theorem x_case_22 {L i : Nat} {xs : Nat → Int32} {I J : x_Me → Int64 → Prop} {P : Option Value → x_Me → Int64 → Prop} (hi : 6 * i + 6 ≤ L) (hL : L ≤ 3072) (hs : x_stepAt (L, xs) I J 22) (μ : x_Me) (w : Int64) (hI : I μ w) (k : ∀ μ2 w2, J μ2 w2 → x_T (L, xs) 30 mL_law 1652 (x_ll i) [] μ2 w2 P) : x_T (L, xs) 30 mL_law 1104 (x_ll i) [] μ w P := by
  have hrow : x_row (L, xs) 1000300 L xs := ⟨by decide, Or.inl ⟨rfl, rfl, rfl⟩⟩
  have h1 : vp_in (nI (6 * i) + 1) L := x_ix (k := 1) hi hL (by decide)
  have h2 : vp_in (nI (6 * i) + 2) L := x_ix (k := 2) hi hL (by decide)
  refine xt_aload_n _ dL_law_1104 rfl ?_
  refine xt_aload_n _ dL_law_1105 rfl ?_
  refine xt_iload_n _ dL_law_1106 rfl ?_
  refine xt_iconst 1 dL_law_1107 (by decide) ?_
  refine xt_iadd dL_law_1108 ?_
  refine xt_ialdT dL_law_1109 hrow h1 ?_
  refine xt_aload_n _ dL_law_1110 rfl ?_
  refine xt_iload_n _ dL_law_1111 rfl ?_
  refine xt_iconst 2 dL_law_1112 (by decide) ?_
  refine xt_iadd dL_law_1113 ?_
  refine xt_ialdT dL_law_1114 hrow h2 ?_
  refine xt_callV (tm := _) [] dL_law_1115 klL_108 (hs _ _ μ w hI) rfl rfl rfl (Nat.le_of_ble_eq_true rfl) (fun r1 μ1 w1 q1 => ?_)
  obtain ⟨v, rfl, hM2⟩ := q1
  change x_T _ _ _ _ _ [.int v] _ _ _
  refine xt_aload_n _ dL_law_1118 rfl ?_
  refine xt_aload_n _ dL_law_1119 rfl ?_
  refine xt_iload_n _ dL_law_1120 rfl ?_
  refine xt_iconst 1 dL_law_1121 (by decide) ?_
  refine xt_iadd dL_law_1122 ?_
  refine xt_ialdT dL_law_1123 hrow h1 ?_
  refine xt_aload_n _ dL_law_1124 rfl ?_
  refine xt_iload_n _ dL_law_1125 rfl ?_
  refine xt_iconst 2 dL_law_1126 (by decide) ?_
  refine xt_iadd dL_law_1127 ?_
  refine xt_ialdT dL_law_1128 hrow h2 ?_
  refine xt_callV (tm := _) [.int v] dL_law_1129 klL_111 hM2 rfl rfl rfl (Nat.le_of_ble_eq_true rfl) (fun r2 μ2 w2 q2 => ?_)
  obtain ⟨rfl, hJ⟩ := q2
  change x_T _ _ _ _ _ [.int v, .int v] _ _ _
  exact xt_icmp_eq 1652 dL_law_1132 (by decide) (fun _ => k μ2 w2 hJ) (fun q => absurd rfl q)
set_option maxHeartbeats 1000000 in
theorem x_case_23 {L i : Nat} {xs : Nat → Int32} {I J : x_Me → Int64 → Prop} {P : Option Value → x_Me → Int64 → Prop} (hi : 6 * i + 6 ≤ L) (hL : L ≤ 3072) (hs : x_stepAt (L, xs) I J 23) (μ : x_Me) (w : Int64) (hI : I μ w) (k : ∀ μ2 w2, J μ2 w2 → x_T (L, xs) 30 mL_law 1652 (x_ll i) [] μ2 w2 P) : x_T (L, xs) 30 mL_law 1137 (x_ll i) [] μ w P := by
  have hrow : x_row (L, xs) 1000300 L xs := ⟨by decide, Or.inl ⟨rfl, rfl, rfl⟩⟩
  have h1 : vp_in (nI (6 * i) + 1) L := x_ix (k := 1) hi hL (by decide)
  have h2 : vp_in (nI (6 * i) + 2) L := x_ix (k := 2) hi hL (by decide)
  refine xt_aload_n _ dL_law_1137 rfl ?_
  refine xt_aload_n _ dL_law_1138 rfl ?_
  refine xt_iload_n _ dL_law_1139 rfl ?_
  refine xt_iconst 1 dL_law_1140 (by decide) ?_
  refine xt_iadd dL_law_1141 ?_
  refine xt_ialdT dL_law_1142 hrow h1 ?_
  refine xt_aload_n _ dL_law_1143 rfl ?_
  refine xt_iload_n _ dL_law_1144 rfl ?_
  refine xt_iconst 2 dL_law_1145 (by decide) ?_
  refine xt_iadd dL_law_1146 ?_
  refine xt_ialdT dL_law_1147 hrow h2 ?_
  refine xt_callV (tm := _) [] dL_law_1148 klL_112 (hs _ _ μ w hI) rfl rfl rfl (Nat.le_of_ble_eq_true rfl) (fun r1 μ1 w1 q1 => ?_)
  obtain ⟨v, rfl, hM2⟩ := q1
  change x_T _ _ _ _ _ [.int v] _ _ _
  refine xt_aload_n _ dL_law_1151 rfl ?_
  refine xt_aload_n _ dL_law_1152 rfl ?_
  refine xt_iload_n _ dL_law_1153 rfl ?_
  refine xt_iconst 1 dL_law_1154 (by decide) ?_
  refine xt_iadd dL_law_1155 ?_
  refine xt_ialdT dL_law_1156 hrow h1 ?_
  refine xt_aload_n _ dL_law_1157 rfl ?_
  refine xt_iload_n _ dL_law_1158 rfl ?_
  refine xt_iconst 2 dL_law_1159 (by decide) ?_
  refine xt_iadd dL_law_1160 ?_
  refine xt_ialdT dL_law_1161 hrow h2 ?_
  refine xt_callV (tm := _) [.int v] dL_law_1162 klL_115 hM2 rfl rfl rfl (Nat.le_of_ble_eq_true rfl) (fun r2 μ2 w2 q2 => ?_)
  obtain ⟨rfl, hJ⟩ := q2
  change x_T _ _ _ _ _ [.int v, .int v] _ _ _
  exact xt_icmp_eq 1652 dL_law_1165 (by decide) (fun _ => k μ2 w2 hJ) (fun q => absurd rfl q)
set_option maxHeartbeats 1000000 in
theorem x_case_24 {L i : Nat} {xs : Nat → Int32} {I J : x_Me → Int64 → Prop} {P : Option Value → x_Me → Int64 → Prop} (hi : 6 * i + 6 ≤ L) (hL : L ≤ 3072) (hs : x_stepAt (L, xs) I J 24) (μ : x_Me) (w : Int64) (hI : I μ w) (k : ∀ μ2 w2, J μ2 w2 → x_T (L, xs) 30 mL_law 1652 (x_ll i) [] μ2 w2 P) : x_T (L, xs) 30 mL_law 1170 (x_ll i) [] μ w P := by
  have hrow : x_row (L, xs) 1000300 L xs := ⟨by decide, Or.inl ⟨rfl, rfl, rfl⟩⟩
  have h1 : vp_in (nI (6 * i) + 1) L := x_ix (k := 1) hi hL (by decide)
  have h2 : vp_in (nI (6 * i) + 2) L := x_ix (k := 2) hi hL (by decide)
  refine xt_aload_n _ dL_law_1170 rfl ?_
  refine xt_aload_n _ dL_law_1171 rfl ?_
  refine xt_iload_n _ dL_law_1172 rfl ?_
  refine xt_iconst 1 dL_law_1173 (by decide) ?_
  refine xt_iadd dL_law_1174 ?_
  refine xt_ialdT dL_law_1175 hrow h1 ?_
  refine xt_aload_n _ dL_law_1176 rfl ?_
  refine xt_iload_n _ dL_law_1177 rfl ?_
  refine xt_iconst 2 dL_law_1178 (by decide) ?_
  refine xt_iadd dL_law_1179 ?_
  refine xt_ialdT dL_law_1180 hrow h2 ?_
  refine xt_callV (tm := _) [] dL_law_1181 klL_116 (hs _ _ μ w hI) rfl rfl rfl (Nat.le_of_ble_eq_true rfl) (fun r1 μ1 w1 q1 => ?_)
  obtain ⟨v, rfl, hM2⟩ := q1
  change x_T _ _ _ _ _ [.int v] _ _ _
  refine xt_aload_n _ dL_law_1184 rfl ?_
  refine xt_aload_n _ dL_law_1185 rfl ?_
  refine xt_iload_n _ dL_law_1186 rfl ?_
  refine xt_iconst 1 dL_law_1187 (by decide) ?_
  refine xt_iadd dL_law_1188 ?_
  refine xt_ialdT dL_law_1189 hrow h1 ?_
  refine xt_aload_n _ dL_law_1190 rfl ?_
  refine xt_iload_n _ dL_law_1191 rfl ?_
  refine xt_iconst 2 dL_law_1192 (by decide) ?_
  refine xt_iadd dL_law_1193 ?_
  refine xt_ialdT dL_law_1194 hrow h2 ?_
  refine xt_callV (tm := _) [.int v] dL_law_1195 klL_119 hM2 rfl rfl rfl (Nat.le_of_ble_eq_true rfl) (fun r2 μ2 w2 q2 => ?_)
  obtain ⟨rfl, hJ⟩ := q2
  change x_T _ _ _ _ _ [.int v, .int v] _ _ _
  exact xt_icmp_eq 1652 dL_law_1198 (by decide) (fun _ => k μ2 w2 hJ) (fun q => absurd rfl q)
set_option maxHeartbeats 1000000 in
theorem x_case_25 {L i : Nat} {xs : Nat → Int32} {I J : x_Me → Int64 → Prop} {P : Option Value → x_Me → Int64 → Prop} (hi : 6 * i + 6 ≤ L) (hL : L ≤ 3072) (hs : x_stepAt (L, xs) I J 25) (μ : x_Me) (w : Int64) (hI : I μ w) (k : ∀ μ2 w2, J μ2 w2 → x_T (L, xs) 30 mL_law 1652 (x_ll i) [] μ2 w2 P) : x_T (L, xs) 30 mL_law 1203 (x_ll i) [] μ w P := by
  have hrow : x_row (L, xs) 1000300 L xs := ⟨by decide, Or.inl ⟨rfl, rfl, rfl⟩⟩
  have h1 : vp_in (nI (6 * i) + 1) L := x_ix (k := 1) hi hL (by decide)
  have h2 : vp_in (nI (6 * i) + 2) L := x_ix (k := 2) hi hL (by decide)
  refine xt_aload_n _ dL_law_1203 rfl ?_
  refine xt_aload_n _ dL_law_1204 rfl ?_
  refine xt_iload_n _ dL_law_1205 rfl ?_
  refine xt_iconst 1 dL_law_1206 (by decide) ?_
  refine xt_iadd dL_law_1207 ?_
  refine xt_ialdT dL_law_1208 hrow h1 ?_
  refine xt_aload_n _ dL_law_1209 rfl ?_
  refine xt_iload_n _ dL_law_1210 rfl ?_
  refine xt_iconst 2 dL_law_1211 (by decide) ?_
  refine xt_iadd dL_law_1212 ?_
  refine xt_ialdT dL_law_1213 hrow h2 ?_
  refine xt_callV (tm := _) [] dL_law_1214 klL_120 (hs _ _ μ w hI) rfl rfl rfl (Nat.le_of_ble_eq_true rfl) (fun r1 μ1 w1 q1 => ?_)
  obtain ⟨v, rfl, hM2⟩ := q1
  change x_T _ _ _ _ _ [.int v] _ _ _
  refine xt_aload_n _ dL_law_1217 rfl ?_
  refine xt_aload_n _ dL_law_1218 rfl ?_
  refine xt_iload_n _ dL_law_1219 rfl ?_
  refine xt_iconst 1 dL_law_1220 (by decide) ?_
  refine xt_iadd dL_law_1221 ?_
  refine xt_ialdT dL_law_1222 hrow h1 ?_
  refine xt_aload_n _ dL_law_1223 rfl ?_
  refine xt_iload_n _ dL_law_1224 rfl ?_
  refine xt_iconst 2 dL_law_1225 (by decide) ?_
  refine xt_iadd dL_law_1226 ?_
  refine xt_ialdT dL_law_1227 hrow h2 ?_
  refine xt_callV (tm := _) [.int v] dL_law_1228 klL_123 hM2 rfl rfl rfl (Nat.le_of_ble_eq_true rfl) (fun r2 μ2 w2 q2 => ?_)
  obtain ⟨rfl, hJ⟩ := q2
  change x_T _ _ _ _ _ [.int v, .int v] _ _ _
  exact xt_icmp_eq 1652 dL_law_1231 (by decide) (fun _ => k μ2 w2 hJ) (fun q => absurd rfl q)
set_option maxHeartbeats 1000000 in
theorem x_case_26 {L i : Nat} {xs : Nat → Int32} {I J : x_Me → Int64 → Prop} {P : Option Value → x_Me → Int64 → Prop} (hi : 6 * i + 6 ≤ L) (hL : L ≤ 3072) (hs : x_stepAt (L, xs) I J 26) (μ : x_Me) (w : Int64) (hI : I μ w) (k : ∀ μ2 w2, J μ2 w2 → x_T (L, xs) 30 mL_law 1652 (x_ll i) [] μ2 w2 P) : x_T (L, xs) 30 mL_law 1236 (x_ll i) [] μ w P := by
  have hrow : x_row (L, xs) 1000300 L xs := ⟨by decide, Or.inl ⟨rfl, rfl, rfl⟩⟩
  have h1 : vp_in (nI (6 * i) + 1) L := x_ix (k := 1) hi hL (by decide)
  have h2 : vp_in (nI (6 * i) + 2) L := x_ix (k := 2) hi hL (by decide)
  have h3 : vp_in (nI (6 * i) + 3) L := x_ix (k := 3) hi hL (by decide)
  by_cases b3 : xs (nI (6 * i) + 3).toNatClampNeg = 0
  · refine xt_aload_n _ dL_law_1236 rfl ?_
    refine xt_aload_n _ dL_law_1237 rfl ?_
    refine xt_iload_n _ dL_law_1238 rfl ?_
    refine xt_iconst 1 dL_law_1239 (by decide) ?_
    refine xt_iadd dL_law_1240 ?_
    refine xt_ialdT dL_law_1241 hrow h1 ?_
    refine xt_aload_n _ dL_law_1242 rfl ?_
    refine xt_iload_n _ dL_law_1243 rfl ?_
    refine xt_iconst 2 dL_law_1244 (by decide) ?_
    refine xt_iadd dL_law_1245 ?_
    refine xt_ialdT dL_law_1246 hrow h2 ?_
    refine xt_aload_n _ dL_law_1247 rfl ?_
    refine xt_iload_n _ dL_law_1248 rfl ?_
    refine xt_iconst 3 dL_law_1249 (by decide) ?_
    refine xt_iadd dL_law_1250 ?_
    refine xt_ialdT dL_law_1251 hrow h3 ?_
    refine xt_if_eq 1259 dL_law_1252 (by decide) (fun _ => ?_) (fun q => absurd b3 q)
    refine xt_iconst 0 dL_law_1259 (by decide) ?_
    refine xt_callV (tm := _) [] dL_law_1260 klL_124 (hs _ _ false μ w hI) rfl rfl rfl (Nat.le_of_ble_eq_true rfl) (fun r1 μ1 w1 q1 => ?_)
    obtain ⟨v, rfl, hM2⟩ := q1
    change x_T _ _ _ _ _ [.int v] _ _ _
    refine xt_aload_n _ dL_law_1263 rfl ?_
    refine xt_aload_n _ dL_law_1264 rfl ?_
    refine xt_iload_n _ dL_law_1265 rfl ?_
    refine xt_iconst 1 dL_law_1266 (by decide) ?_
    refine xt_iadd dL_law_1267 ?_
    refine xt_ialdT dL_law_1268 hrow h1 ?_
    refine xt_aload_n _ dL_law_1269 rfl ?_
    refine xt_iload_n _ dL_law_1270 rfl ?_
    refine xt_iconst 2 dL_law_1271 (by decide) ?_
    refine xt_iadd dL_law_1272 ?_
    refine xt_ialdT dL_law_1273 hrow h2 ?_
    refine xt_aload_n _ dL_law_1274 rfl ?_
    refine xt_iload_n _ dL_law_1275 rfl ?_
    refine xt_iconst 3 dL_law_1276 (by decide) ?_
    refine xt_iadd dL_law_1277 ?_
    refine xt_ialdT dL_law_1278 hrow h3 ?_
    refine xt_if_eq 1286 dL_law_1279 (by decide) (fun _ => ?_) (fun q => absurd b3 q)
    refine xt_iconst 0 dL_law_1286 (by decide) ?_
    refine xt_callV (tm := _) [.int v] dL_law_1287 klL_127 hM2 rfl rfl rfl (Nat.le_of_ble_eq_true rfl) (fun r2 μ2 w2 q2 => ?_)
    obtain ⟨rfl, hJ⟩ := q2
    change x_T _ _ _ _ _ [.int v, .int v] _ _ _
    exact xt_icmp_eq 1652 dL_law_1290 (by decide) (fun _ => k μ2 w2 hJ) (fun q => absurd rfl q)
  · refine xt_aload_n _ dL_law_1236 rfl ?_
    refine xt_aload_n _ dL_law_1237 rfl ?_
    refine xt_iload_n _ dL_law_1238 rfl ?_
    refine xt_iconst 1 dL_law_1239 (by decide) ?_
    refine xt_iadd dL_law_1240 ?_
    refine xt_ialdT dL_law_1241 hrow h1 ?_
    refine xt_aload_n _ dL_law_1242 rfl ?_
    refine xt_iload_n _ dL_law_1243 rfl ?_
    refine xt_iconst 2 dL_law_1244 (by decide) ?_
    refine xt_iadd dL_law_1245 ?_
    refine xt_ialdT dL_law_1246 hrow h2 ?_
    refine xt_aload_n _ dL_law_1247 rfl ?_
    refine xt_iload_n _ dL_law_1248 rfl ?_
    refine xt_iconst 3 dL_law_1249 (by decide) ?_
    refine xt_iadd dL_law_1250 ?_
    refine xt_ialdT dL_law_1251 hrow h3 ?_
    refine xt_if_eq 1259 dL_law_1252 (by decide) (fun q => absurd q b3) (fun _ => ?_)
    refine xt_iconst 1 dL_law_1255 (by decide) ?_
    refine xt_goto 1260 dL_law_1256 (by decide) ?_
    refine xt_callV (tm := _) [] dL_law_1260 klL_124 (hs _ _ true μ w hI) rfl rfl rfl (Nat.le_of_ble_eq_true rfl) (fun r1 μ1 w1 q1 => ?_)
    obtain ⟨v, rfl, hM2⟩ := q1
    change x_T _ _ _ _ _ [.int v] _ _ _
    refine xt_aload_n _ dL_law_1263 rfl ?_
    refine xt_aload_n _ dL_law_1264 rfl ?_
    refine xt_iload_n _ dL_law_1265 rfl ?_
    refine xt_iconst 1 dL_law_1266 (by decide) ?_
    refine xt_iadd dL_law_1267 ?_
    refine xt_ialdT dL_law_1268 hrow h1 ?_
    refine xt_aload_n _ dL_law_1269 rfl ?_
    refine xt_iload_n _ dL_law_1270 rfl ?_
    refine xt_iconst 2 dL_law_1271 (by decide) ?_
    refine xt_iadd dL_law_1272 ?_
    refine xt_ialdT dL_law_1273 hrow h2 ?_
    refine xt_aload_n _ dL_law_1274 rfl ?_
    refine xt_iload_n _ dL_law_1275 rfl ?_
    refine xt_iconst 3 dL_law_1276 (by decide) ?_
    refine xt_iadd dL_law_1277 ?_
    refine xt_ialdT dL_law_1278 hrow h3 ?_
    refine xt_if_eq 1286 dL_law_1279 (by decide) (fun q => absurd q b3) (fun _ => ?_)
    refine xt_iconst 1 dL_law_1282 (by decide) ?_
    refine xt_goto 1287 dL_law_1283 (by decide) ?_
    refine xt_callV (tm := _) [.int v] dL_law_1287 klL_127 hM2 rfl rfl rfl (Nat.le_of_ble_eq_true rfl) (fun r2 μ2 w2 q2 => ?_)
    obtain ⟨rfl, hJ⟩ := q2
    change x_T _ _ _ _ _ [.int v, .int v] _ _ _
    exact xt_icmp_eq 1652 dL_law_1290 (by decide) (fun _ => k μ2 w2 hJ) (fun q => absurd rfl q)
set_option maxHeartbeats 1000000 in
theorem x_case_27 {L i : Nat} {xs : Nat → Int32} {I J : x_Me → Int64 → Prop} {P : Option Value → x_Me → Int64 → Prop} (hi : 6 * i + 6 ≤ L) (hL : L ≤ 3072) (hs : x_stepAt (L, xs) I J 27) (μ : x_Me) (w : Int64) (hI : I μ w) (k : ∀ μ2 w2, J μ2 w2 → x_T (L, xs) 30 mL_law 1652 (x_ll i) [] μ2 w2 P) : x_T (L, xs) 30 mL_law 1295 (x_ll i) [] μ w P := by
  have hrow : x_row (L, xs) 1000300 L xs := ⟨by decide, Or.inl ⟨rfl, rfl, rfl⟩⟩
  have h1 : vp_in (nI (6 * i) + 1) L := x_ix (k := 1) hi hL (by decide)
  have h2 : vp_in (nI (6 * i) + 2) L := x_ix (k := 2) hi hL (by decide)
  have h3 : vp_in (nI (6 * i) + 3) L := x_ix (k := 3) hi hL (by decide)
  by_cases b3 : xs (nI (6 * i) + 3).toNatClampNeg = 0
  · refine xt_aload_n _ dL_law_1295 rfl ?_
    refine xt_aload_n _ dL_law_1296 rfl ?_
    refine xt_iload_n _ dL_law_1297 rfl ?_
    refine xt_iconst 1 dL_law_1298 (by decide) ?_
    refine xt_iadd dL_law_1299 ?_
    refine xt_ialdT dL_law_1300 hrow h1 ?_
    refine xt_aload_n _ dL_law_1301 rfl ?_
    refine xt_iload_n _ dL_law_1302 rfl ?_
    refine xt_iconst 2 dL_law_1303 (by decide) ?_
    refine xt_iadd dL_law_1304 ?_
    refine xt_ialdT dL_law_1305 hrow h2 ?_
    refine xt_aload_n _ dL_law_1306 rfl ?_
    refine xt_iload_n _ dL_law_1307 rfl ?_
    refine xt_iconst 3 dL_law_1308 (by decide) ?_
    refine xt_iadd dL_law_1309 ?_
    refine xt_ialdT dL_law_1310 hrow h3 ?_
    refine xt_if_eq 1318 dL_law_1311 (by decide) (fun _ => ?_) (fun q => absurd b3 q)
    refine xt_iconst 0 dL_law_1318 (by decide) ?_
    refine xt_callV (tm := _) [] dL_law_1319 klL_128 (hs _ _ false μ w hI) rfl rfl rfl (Nat.le_of_ble_eq_true rfl) (fun r1 μ1 w1 q1 => ?_)
    obtain ⟨v, rfl, hM2⟩ := q1
    change x_T _ _ _ _ _ [.long v] _ _ _
    refine xt_aload_n _ dL_law_1322 rfl ?_
    refine xt_aload_n _ dL_law_1323 rfl ?_
    refine xt_iload_n _ dL_law_1324 rfl ?_
    refine xt_iconst 1 dL_law_1325 (by decide) ?_
    refine xt_iadd dL_law_1326 ?_
    refine xt_ialdT dL_law_1327 hrow h1 ?_
    refine xt_aload_n _ dL_law_1328 rfl ?_
    refine xt_iload_n _ dL_law_1329 rfl ?_
    refine xt_iconst 2 dL_law_1330 (by decide) ?_
    refine xt_iadd dL_law_1331 ?_
    refine xt_ialdT dL_law_1332 hrow h2 ?_
    refine xt_aload_n _ dL_law_1333 rfl ?_
    refine xt_iload_n _ dL_law_1334 rfl ?_
    refine xt_iconst 3 dL_law_1335 (by decide) ?_
    refine xt_iadd dL_law_1336 ?_
    refine xt_ialdT dL_law_1337 hrow h3 ?_
    refine xt_if_eq 1345 dL_law_1338 (by decide) (fun _ => ?_) (fun q => absurd b3 q)
    refine xt_iconst 0 dL_law_1345 (by decide) ?_
    refine xt_callV (tm := _) [.long v] dL_law_1346 klL_132 hM2 rfl rfl rfl (Nat.le_of_ble_eq_true rfl) (fun r2 μ2 w2 q2 => ?_)
    obtain ⟨rfl, hJ⟩ := q2
    change x_T _ _ _ _ _ [.long v, .long v] _ _ _
    refine xt_lcmp dL_law_1349 ?_
    exact xt_if_eq 1652 dL_law_1350 (by decide) (fun _ => k μ2 w2 hJ) (fun q => absurd (x_lcmp_self v) q)
  · refine xt_aload_n _ dL_law_1295 rfl ?_
    refine xt_aload_n _ dL_law_1296 rfl ?_
    refine xt_iload_n _ dL_law_1297 rfl ?_
    refine xt_iconst 1 dL_law_1298 (by decide) ?_
    refine xt_iadd dL_law_1299 ?_
    refine xt_ialdT dL_law_1300 hrow h1 ?_
    refine xt_aload_n _ dL_law_1301 rfl ?_
    refine xt_iload_n _ dL_law_1302 rfl ?_
    refine xt_iconst 2 dL_law_1303 (by decide) ?_
    refine xt_iadd dL_law_1304 ?_
    refine xt_ialdT dL_law_1305 hrow h2 ?_
    refine xt_aload_n _ dL_law_1306 rfl ?_
    refine xt_iload_n _ dL_law_1307 rfl ?_
    refine xt_iconst 3 dL_law_1308 (by decide) ?_
    refine xt_iadd dL_law_1309 ?_
    refine xt_ialdT dL_law_1310 hrow h3 ?_
    refine xt_if_eq 1318 dL_law_1311 (by decide) (fun q => absurd q b3) (fun _ => ?_)
    refine xt_iconst 1 dL_law_1314 (by decide) ?_
    refine xt_goto 1319 dL_law_1315 (by decide) ?_
    refine xt_callV (tm := _) [] dL_law_1319 klL_128 (hs _ _ true μ w hI) rfl rfl rfl (Nat.le_of_ble_eq_true rfl) (fun r1 μ1 w1 q1 => ?_)
    obtain ⟨v, rfl, hM2⟩ := q1
    change x_T _ _ _ _ _ [.long v] _ _ _
    refine xt_aload_n _ dL_law_1322 rfl ?_
    refine xt_aload_n _ dL_law_1323 rfl ?_
    refine xt_iload_n _ dL_law_1324 rfl ?_
    refine xt_iconst 1 dL_law_1325 (by decide) ?_
    refine xt_iadd dL_law_1326 ?_
    refine xt_ialdT dL_law_1327 hrow h1 ?_
    refine xt_aload_n _ dL_law_1328 rfl ?_
    refine xt_iload_n _ dL_law_1329 rfl ?_
    refine xt_iconst 2 dL_law_1330 (by decide) ?_
    refine xt_iadd dL_law_1331 ?_
    refine xt_ialdT dL_law_1332 hrow h2 ?_
    refine xt_aload_n _ dL_law_1333 rfl ?_
    refine xt_iload_n _ dL_law_1334 rfl ?_
    refine xt_iconst 3 dL_law_1335 (by decide) ?_
    refine xt_iadd dL_law_1336 ?_
    refine xt_ialdT dL_law_1337 hrow h3 ?_
    refine xt_if_eq 1345 dL_law_1338 (by decide) (fun q => absurd q b3) (fun _ => ?_)
    refine xt_iconst 1 dL_law_1341 (by decide) ?_
    refine xt_goto 1346 dL_law_1342 (by decide) ?_
    refine xt_callV (tm := _) [.long v] dL_law_1346 klL_132 hM2 rfl rfl rfl (Nat.le_of_ble_eq_true rfl) (fun r2 μ2 w2 q2 => ?_)
    obtain ⟨rfl, hJ⟩ := q2
    change x_T _ _ _ _ _ [.long v, .long v] _ _ _
    refine xt_lcmp dL_law_1349 ?_
    exact xt_if_eq 1652 dL_law_1350 (by decide) (fun _ => k μ2 w2 hJ) (fun q => absurd (x_lcmp_self v) q)
set_option maxHeartbeats 1000000 in
theorem x_case_28 {L i : Nat} {xs : Nat → Int32} {I J : x_Me → Int64 → Prop} {P : Option Value → x_Me → Int64 → Prop} (hi : 6 * i + 6 ≤ L) (hL : L ≤ 3072) (hs : x_stepAt (L, xs) I J 28) (μ : x_Me) (w : Int64) (hI : I μ w) (k : ∀ μ2 w2, J μ2 w2 → x_T (L, xs) 30 mL_law 1652 (x_ll i) [] μ2 w2 P) : x_T (L, xs) 30 mL_law 1355 (x_ll i) [] μ w P := by
  have hrow : x_row (L, xs) 1000300 L xs := ⟨by decide, Or.inl ⟨rfl, rfl, rfl⟩⟩
  have h1 : vp_in (nI (6 * i) + 1) L := x_ix (k := 1) hi hL (by decide)
  have h2 : vp_in (nI (6 * i) + 2) L := x_ix (k := 2) hi hL (by decide)
  refine xt_aload_n _ dL_law_1355 rfl ?_
  refine xt_aload_n _ dL_law_1356 rfl ?_
  refine xt_iload_n _ dL_law_1357 rfl ?_
  refine xt_iconst 1 dL_law_1358 (by decide) ?_
  refine xt_iadd dL_law_1359 ?_
  refine xt_ialdT dL_law_1360 hrow h1 ?_
  refine xt_aload_n _ dL_law_1361 rfl ?_
  refine xt_iload_n _ dL_law_1362 rfl ?_
  refine xt_iconst 2 dL_law_1363 (by decide) ?_
  refine xt_iadd dL_law_1364 ?_
  refine xt_ialdT dL_law_1365 hrow h2 ?_
  refine xt_callV (tm := _) [] dL_law_1366 klL_133 (hs _ _ μ w hI) rfl rfl rfl (Nat.le_of_ble_eq_true rfl) (fun r1 μ1 w1 q1 => ?_)
  obtain ⟨v, rfl, hM2⟩ := q1
  change x_T _ _ _ _ _ [.int v] _ _ _
  refine xt_aload_n _ dL_law_1369 rfl ?_
  refine xt_aload_n _ dL_law_1370 rfl ?_
  refine xt_iload_n _ dL_law_1371 rfl ?_
  refine xt_iconst 1 dL_law_1372 (by decide) ?_
  refine xt_iadd dL_law_1373 ?_
  refine xt_ialdT dL_law_1374 hrow h1 ?_
  refine xt_aload_n _ dL_law_1375 rfl ?_
  refine xt_iload_n _ dL_law_1376 rfl ?_
  refine xt_iconst 2 dL_law_1377 (by decide) ?_
  refine xt_iadd dL_law_1378 ?_
  refine xt_ialdT dL_law_1379 hrow h2 ?_
  refine xt_callV (tm := _) [.int v] dL_law_1380 klL_136 hM2 rfl rfl rfl (Nat.le_of_ble_eq_true rfl) (fun r2 μ2 w2 q2 => ?_)
  obtain ⟨rfl, hJ⟩ := q2
  change x_T _ _ _ _ _ [.int v, .int v] _ _ _
  exact xt_icmp_eq 1652 dL_law_1383 (by decide) (fun _ => k μ2 w2 hJ) (fun q => absurd rfl q)
set_option maxHeartbeats 1000000 in
theorem x_case_29 {L i : Nat} {xs : Nat → Int32} {I J : x_Me → Int64 → Prop} {P : Option Value → x_Me → Int64 → Prop} (hi : 6 * i + 6 ≤ L) (hL : L ≤ 3072) (hs : x_stepAt (L, xs) I J 29) (μ : x_Me) (w : Int64) (hI : I μ w) (k : ∀ μ2 w2, J μ2 w2 → x_T (L, xs) 30 mL_law 1652 (x_ll i) [] μ2 w2 P) : x_T (L, xs) 30 mL_law 1388 (x_ll i) [] μ w P := by
  have hrow : x_row (L, xs) 1000300 L xs := ⟨by decide, Or.inl ⟨rfl, rfl, rfl⟩⟩
  have h1 : vp_in (nI (6 * i) + 1) L := x_ix (k := 1) hi hL (by decide)
  have h2 : vp_in (nI (6 * i) + 2) L := x_ix (k := 2) hi hL (by decide)
  have h3 : vp_in (nI (6 * i) + 3) L := x_ix (k := 3) hi hL (by decide)
  by_cases b3 : xs (nI (6 * i) + 3).toNatClampNeg = 0
  · refine xt_aload_n _ dL_law_1388 rfl ?_
    refine xt_aload_n _ dL_law_1389 rfl ?_
    refine xt_iload_n _ dL_law_1390 rfl ?_
    refine xt_iconst 1 dL_law_1391 (by decide) ?_
    refine xt_iadd dL_law_1392 ?_
    refine xt_ialdT dL_law_1393 hrow h1 ?_
    refine xt_aload_n _ dL_law_1394 rfl ?_
    refine xt_iload_n _ dL_law_1395 rfl ?_
    refine xt_iconst 2 dL_law_1396 (by decide) ?_
    refine xt_iadd dL_law_1397 ?_
    refine xt_ialdT dL_law_1398 hrow h2 ?_
    refine xt_aload_n _ dL_law_1399 rfl ?_
    refine xt_iload_n _ dL_law_1400 rfl ?_
    refine xt_iconst 3 dL_law_1401 (by decide) ?_
    refine xt_iadd dL_law_1402 ?_
    refine xt_ialdT dL_law_1403 hrow h3 ?_
    refine xt_if_eq 1411 dL_law_1404 (by decide) (fun _ => ?_) (fun q => absurd b3 q)
    refine xt_iconst 0 dL_law_1411 (by decide) ?_
    refine xt_callV (tm := _) [] dL_law_1412 klL_137 (hs _ _ false μ w hI) rfl rfl rfl (Nat.le_of_ble_eq_true rfl) (fun r1 μ1 w1 q1 => ?_)
    obtain ⟨v, rfl, hM2⟩ := q1
    change x_T _ _ _ _ _ [.long v] _ _ _
    refine xt_aload_n _ dL_law_1415 rfl ?_
    refine xt_aload_n _ dL_law_1416 rfl ?_
    refine xt_iload_n _ dL_law_1417 rfl ?_
    refine xt_iconst 1 dL_law_1418 (by decide) ?_
    refine xt_iadd dL_law_1419 ?_
    refine xt_ialdT dL_law_1420 hrow h1 ?_
    refine xt_aload_n _ dL_law_1421 rfl ?_
    refine xt_iload_n _ dL_law_1422 rfl ?_
    refine xt_iconst 2 dL_law_1423 (by decide) ?_
    refine xt_iadd dL_law_1424 ?_
    refine xt_ialdT dL_law_1425 hrow h2 ?_
    refine xt_aload_n _ dL_law_1426 rfl ?_
    refine xt_iload_n _ dL_law_1427 rfl ?_
    refine xt_iconst 3 dL_law_1428 (by decide) ?_
    refine xt_iadd dL_law_1429 ?_
    refine xt_ialdT dL_law_1430 hrow h3 ?_
    refine xt_if_eq 1438 dL_law_1431 (by decide) (fun _ => ?_) (fun q => absurd b3 q)
    refine xt_iconst 0 dL_law_1438 (by decide) ?_
    refine xt_callV (tm := _) [.long v] dL_law_1439 klL_140 hM2 rfl rfl rfl (Nat.le_of_ble_eq_true rfl) (fun r2 μ2 w2 q2 => ?_)
    obtain ⟨rfl, hJ⟩ := q2
    change x_T _ _ _ _ _ [.long v, .long v] _ _ _
    refine xt_lcmp dL_law_1442 ?_
    exact xt_if_eq 1652 dL_law_1443 (by decide) (fun _ => k μ2 w2 hJ) (fun q => absurd (x_lcmp_self v) q)
  · refine xt_aload_n _ dL_law_1388 rfl ?_
    refine xt_aload_n _ dL_law_1389 rfl ?_
    refine xt_iload_n _ dL_law_1390 rfl ?_
    refine xt_iconst 1 dL_law_1391 (by decide) ?_
    refine xt_iadd dL_law_1392 ?_
    refine xt_ialdT dL_law_1393 hrow h1 ?_
    refine xt_aload_n _ dL_law_1394 rfl ?_
    refine xt_iload_n _ dL_law_1395 rfl ?_
    refine xt_iconst 2 dL_law_1396 (by decide) ?_
    refine xt_iadd dL_law_1397 ?_
    refine xt_ialdT dL_law_1398 hrow h2 ?_
    refine xt_aload_n _ dL_law_1399 rfl ?_
    refine xt_iload_n _ dL_law_1400 rfl ?_
    refine xt_iconst 3 dL_law_1401 (by decide) ?_
    refine xt_iadd dL_law_1402 ?_
    refine xt_ialdT dL_law_1403 hrow h3 ?_
    refine xt_if_eq 1411 dL_law_1404 (by decide) (fun q => absurd q b3) (fun _ => ?_)
    refine xt_iconst 1 dL_law_1407 (by decide) ?_
    refine xt_goto 1412 dL_law_1408 (by decide) ?_
    refine xt_callV (tm := _) [] dL_law_1412 klL_137 (hs _ _ true μ w hI) rfl rfl rfl (Nat.le_of_ble_eq_true rfl) (fun r1 μ1 w1 q1 => ?_)
    obtain ⟨v, rfl, hM2⟩ := q1
    change x_T _ _ _ _ _ [.long v] _ _ _
    refine xt_aload_n _ dL_law_1415 rfl ?_
    refine xt_aload_n _ dL_law_1416 rfl ?_
    refine xt_iload_n _ dL_law_1417 rfl ?_
    refine xt_iconst 1 dL_law_1418 (by decide) ?_
    refine xt_iadd dL_law_1419 ?_
    refine xt_ialdT dL_law_1420 hrow h1 ?_
    refine xt_aload_n _ dL_law_1421 rfl ?_
    refine xt_iload_n _ dL_law_1422 rfl ?_
    refine xt_iconst 2 dL_law_1423 (by decide) ?_
    refine xt_iadd dL_law_1424 ?_
    refine xt_ialdT dL_law_1425 hrow h2 ?_
    refine xt_aload_n _ dL_law_1426 rfl ?_
    refine xt_iload_n _ dL_law_1427 rfl ?_
    refine xt_iconst 3 dL_law_1428 (by decide) ?_
    refine xt_iadd dL_law_1429 ?_
    refine xt_ialdT dL_law_1430 hrow h3 ?_
    refine xt_if_eq 1438 dL_law_1431 (by decide) (fun q => absurd q b3) (fun _ => ?_)
    refine xt_iconst 1 dL_law_1434 (by decide) ?_
    refine xt_goto 1439 dL_law_1435 (by decide) ?_
    refine xt_callV (tm := _) [.long v] dL_law_1439 klL_140 hM2 rfl rfl rfl (Nat.le_of_ble_eq_true rfl) (fun r2 μ2 w2 q2 => ?_)
    obtain ⟨rfl, hJ⟩ := q2
    change x_T _ _ _ _ _ [.long v, .long v] _ _ _
    refine xt_lcmp dL_law_1442 ?_
    exact xt_if_eq 1652 dL_law_1443 (by decide) (fun _ => k μ2 w2 hJ) (fun q => absurd (x_lcmp_self v) q)
set_option maxHeartbeats 1000000 in
theorem x_case_30 {L i : Nat} {xs : Nat → Int32} {I J : x_Me → Int64 → Prop} {P : Option Value → x_Me → Int64 → Prop} (hi : 6 * i + 6 ≤ L) (hL : L ≤ 3072) (hs : x_stepAt (L, xs) I J 30) (μ : x_Me) (w : Int64) (hI : I μ w) (k : ∀ μ2 w2, J μ2 w2 → x_T (L, xs) 30 mL_law 1652 (x_ll i) [] μ2 w2 P) : x_T (L, xs) 30 mL_law 1448 (x_ll i) [] μ w P := by
  have hrow : x_row (L, xs) 1000300 L xs := ⟨by decide, Or.inl ⟨rfl, rfl, rfl⟩⟩
  have h1 : vp_in (nI (6 * i) + 1) L := x_ix (k := 1) hi hL (by decide)
  have h2 : vp_in (nI (6 * i) + 2) L := x_ix (k := 2) hi hL (by decide)
  have h3 : vp_in (nI (6 * i) + 3) L := x_ix (k := 3) hi hL (by decide)
  refine xt_aload_n _ dL_law_1448 rfl ?_
  refine xt_aload_n _ dL_law_1449 rfl ?_
  refine xt_iload_n _ dL_law_1450 rfl ?_
  refine xt_iconst 1 dL_law_1451 (by decide) ?_
  refine xt_iadd dL_law_1452 ?_
  refine xt_ialdT dL_law_1453 hrow h1 ?_
  refine xt_aload_n _ dL_law_1454 rfl ?_
  refine xt_iload_n _ dL_law_1455 rfl ?_
  refine xt_iconst 2 dL_law_1456 (by decide) ?_
  refine xt_iadd dL_law_1457 ?_
  refine xt_ialdT dL_law_1458 hrow h2 ?_
  refine xt_aload_n _ dL_law_1459 rfl ?_
  refine xt_iload_n _ dL_law_1460 rfl ?_
  refine xt_iconst 3 dL_law_1461 (by decide) ?_
  refine xt_iadd dL_law_1462 ?_
  refine xt_ialdT dL_law_1463 hrow h3 ?_
  refine xt_callV (tm := _) [] dL_law_1464 klL_141 (hs _ _ _ μ w hI) rfl rfl rfl (Nat.le_of_ble_eq_true rfl) (fun r1 μ1 w1 q1 => ?_)
  obtain ⟨v, rfl, hM2⟩ := q1
  change x_T _ _ _ _ _ [.int v] _ _ _
  refine xt_aload_n _ dL_law_1467 rfl ?_
  refine xt_aload_n _ dL_law_1468 rfl ?_
  refine xt_iload_n _ dL_law_1469 rfl ?_
  refine xt_iconst 1 dL_law_1470 (by decide) ?_
  refine xt_iadd dL_law_1471 ?_
  refine xt_ialdT dL_law_1472 hrow h1 ?_
  refine xt_aload_n _ dL_law_1473 rfl ?_
  refine xt_iload_n _ dL_law_1474 rfl ?_
  refine xt_iconst 2 dL_law_1475 (by decide) ?_
  refine xt_iadd dL_law_1476 ?_
  refine xt_ialdT dL_law_1477 hrow h2 ?_
  refine xt_aload_n _ dL_law_1478 rfl ?_
  refine xt_iload_n _ dL_law_1479 rfl ?_
  refine xt_iconst 3 dL_law_1480 (by decide) ?_
  refine xt_iadd dL_law_1481 ?_
  refine xt_ialdT dL_law_1482 hrow h3 ?_
  refine xt_callV (tm := _) [.int v] dL_law_1483 klL_144 hM2 rfl rfl rfl (Nat.le_of_ble_eq_true rfl) (fun r2 μ2 w2 q2 => ?_)
  obtain ⟨rfl, hJ⟩ := q2
  change x_T _ _ _ _ _ [.int v, .int v] _ _ _
  exact xt_icmp_eq 1652 dL_law_1486 (by decide) (fun _ => k μ2 w2 hJ) (fun q => absurd rfl q)
set_option maxHeartbeats 1000000 in
theorem x_case_31 {L i : Nat} {xs : Nat → Int32} {I J : x_Me → Int64 → Prop} {P : Option Value → x_Me → Int64 → Prop} (hi : 6 * i + 6 ≤ L) (hL : L ≤ 3072) (hs : x_stepAt (L, xs) I J 31) (μ : x_Me) (w : Int64) (hI : I μ w) (k : ∀ μ2 w2, J μ2 w2 → x_T (L, xs) 30 mL_law 1652 (x_ll i) [] μ2 w2 P) : x_T (L, xs) 30 mL_law 1491 (x_ll i) [] μ w P := by
  have hrow : x_row (L, xs) 1000300 L xs := ⟨by decide, Or.inl ⟨rfl, rfl, rfl⟩⟩
  have h1 : vp_in (nI (6 * i) + 1) L := x_ix (k := 1) hi hL (by decide)
  have h2 : vp_in (nI (6 * i) + 2) L := x_ix (k := 2) hi hL (by decide)
  have h3 : vp_in (nI (6 * i) + 3) L := x_ix (k := 3) hi hL (by decide)
  by_cases b3 : xs (nI (6 * i) + 3).toNatClampNeg = 0
  · refine xt_aload_n _ dL_law_1491 rfl ?_
    refine xt_aload_n _ dL_law_1492 rfl ?_
    refine xt_iload_n _ dL_law_1493 rfl ?_
    refine xt_iconst 1 dL_law_1494 (by decide) ?_
    refine xt_iadd dL_law_1495 ?_
    refine xt_ialdT dL_law_1496 hrow h1 ?_
    refine xt_aload_n _ dL_law_1497 rfl ?_
    refine xt_iload_n _ dL_law_1498 rfl ?_
    refine xt_iconst 2 dL_law_1499 (by decide) ?_
    refine xt_iadd dL_law_1500 ?_
    refine xt_ialdT dL_law_1501 hrow h2 ?_
    refine xt_aload_n _ dL_law_1502 rfl ?_
    refine xt_iload_n _ dL_law_1503 rfl ?_
    refine xt_iconst 3 dL_law_1504 (by decide) ?_
    refine xt_iadd dL_law_1505 ?_
    refine xt_ialdT dL_law_1506 hrow h3 ?_
    refine xt_if_eq 1514 dL_law_1507 (by decide) (fun _ => ?_) (fun q => absurd b3 q)
    refine xt_iconst 0 dL_law_1514 (by decide) ?_
    refine xt_callV (tm := _) [] dL_law_1515 klL_145 (hs _ _ false μ w hI) rfl rfl rfl (Nat.le_of_ble_eq_true rfl) (fun r1 μ1 w1 q1 => ?_)
    obtain ⟨v, rfl, hM2⟩ := q1
    change x_T _ _ _ _ _ [.int v] _ _ _
    refine xt_aload_n _ dL_law_1518 rfl ?_
    refine xt_aload_n _ dL_law_1519 rfl ?_
    refine xt_iload_n _ dL_law_1520 rfl ?_
    refine xt_iconst 1 dL_law_1521 (by decide) ?_
    refine xt_iadd dL_law_1522 ?_
    refine xt_ialdT dL_law_1523 hrow h1 ?_
    refine xt_aload_n _ dL_law_1524 rfl ?_
    refine xt_iload_n _ dL_law_1525 rfl ?_
    refine xt_iconst 2 dL_law_1526 (by decide) ?_
    refine xt_iadd dL_law_1527 ?_
    refine xt_ialdT dL_law_1528 hrow h2 ?_
    refine xt_aload_n _ dL_law_1529 rfl ?_
    refine xt_iload_n _ dL_law_1530 rfl ?_
    refine xt_iconst 3 dL_law_1531 (by decide) ?_
    refine xt_iadd dL_law_1532 ?_
    refine xt_ialdT dL_law_1533 hrow h3 ?_
    refine xt_if_eq 1541 dL_law_1534 (by decide) (fun _ => ?_) (fun q => absurd b3 q)
    refine xt_iconst 0 dL_law_1541 (by decide) ?_
    refine xt_callV (tm := _) [.int v] dL_law_1542 klL_148 hM2 rfl rfl rfl (Nat.le_of_ble_eq_true rfl) (fun r2 μ2 w2 q2 => ?_)
    obtain ⟨rfl, hJ⟩ := q2
    change x_T _ _ _ _ _ [.int v, .int v] _ _ _
    exact xt_icmp_eq 1652 dL_law_1545 (by decide) (fun _ => k μ2 w2 hJ) (fun q => absurd rfl q)
  · refine xt_aload_n _ dL_law_1491 rfl ?_
    refine xt_aload_n _ dL_law_1492 rfl ?_
    refine xt_iload_n _ dL_law_1493 rfl ?_
    refine xt_iconst 1 dL_law_1494 (by decide) ?_
    refine xt_iadd dL_law_1495 ?_
    refine xt_ialdT dL_law_1496 hrow h1 ?_
    refine xt_aload_n _ dL_law_1497 rfl ?_
    refine xt_iload_n _ dL_law_1498 rfl ?_
    refine xt_iconst 2 dL_law_1499 (by decide) ?_
    refine xt_iadd dL_law_1500 ?_
    refine xt_ialdT dL_law_1501 hrow h2 ?_
    refine xt_aload_n _ dL_law_1502 rfl ?_
    refine xt_iload_n _ dL_law_1503 rfl ?_
    refine xt_iconst 3 dL_law_1504 (by decide) ?_
    refine xt_iadd dL_law_1505 ?_
    refine xt_ialdT dL_law_1506 hrow h3 ?_
    refine xt_if_eq 1514 dL_law_1507 (by decide) (fun q => absurd q b3) (fun _ => ?_)
    refine xt_iconst 1 dL_law_1510 (by decide) ?_
    refine xt_goto 1515 dL_law_1511 (by decide) ?_
    refine xt_callV (tm := _) [] dL_law_1515 klL_145 (hs _ _ true μ w hI) rfl rfl rfl (Nat.le_of_ble_eq_true rfl) (fun r1 μ1 w1 q1 => ?_)
    obtain ⟨v, rfl, hM2⟩ := q1
    change x_T _ _ _ _ _ [.int v] _ _ _
    refine xt_aload_n _ dL_law_1518 rfl ?_
    refine xt_aload_n _ dL_law_1519 rfl ?_
    refine xt_iload_n _ dL_law_1520 rfl ?_
    refine xt_iconst 1 dL_law_1521 (by decide) ?_
    refine xt_iadd dL_law_1522 ?_
    refine xt_ialdT dL_law_1523 hrow h1 ?_
    refine xt_aload_n _ dL_law_1524 rfl ?_
    refine xt_iload_n _ dL_law_1525 rfl ?_
    refine xt_iconst 2 dL_law_1526 (by decide) ?_
    refine xt_iadd dL_law_1527 ?_
    refine xt_ialdT dL_law_1528 hrow h2 ?_
    refine xt_aload_n _ dL_law_1529 rfl ?_
    refine xt_iload_n _ dL_law_1530 rfl ?_
    refine xt_iconst 3 dL_law_1531 (by decide) ?_
    refine xt_iadd dL_law_1532 ?_
    refine xt_ialdT dL_law_1533 hrow h3 ?_
    refine xt_if_eq 1541 dL_law_1534 (by decide) (fun q => absurd q b3) (fun _ => ?_)
    refine xt_iconst 1 dL_law_1537 (by decide) ?_
    refine xt_goto 1542 dL_law_1538 (by decide) ?_
    refine xt_callV (tm := _) [.int v] dL_law_1542 klL_148 hM2 rfl rfl rfl (Nat.le_of_ble_eq_true rfl) (fun r2 μ2 w2 q2 => ?_)
    obtain ⟨rfl, hJ⟩ := q2
    change x_T _ _ _ _ _ [.int v, .int v] _ _ _
    exact xt_icmp_eq 1652 dL_law_1545 (by decide) (fun _ => k μ2 w2 hJ) (fun q => absurd rfl q)
set_option maxHeartbeats 1000000 in
theorem x_case_32 {L i : Nat} {xs : Nat → Int32} {I J : x_Me → Int64 → Prop} {P : Option Value → x_Me → Int64 → Prop} (hi : 6 * i + 6 ≤ L) (hL : L ≤ 3072) (hs : x_stepAt (L, xs) I J 32) (μ : x_Me) (w : Int64) (hI : I μ w) (k : ∀ μ2 w2, J μ2 w2 → x_T (L, xs) 30 mL_law 1652 (x_ll i) [] μ2 w2 P) : x_T (L, xs) 30 mL_law 1550 (x_ll i) [] μ w P := by
  have hrow : x_row (L, xs) 1000300 L xs := ⟨by decide, Or.inl ⟨rfl, rfl, rfl⟩⟩
  have h1 : vp_in (nI (6 * i) + 1) L := x_ix (k := 1) hi hL (by decide)
  have h2 : vp_in (nI (6 * i) + 2) L := x_ix (k := 2) hi hL (by decide)
  refine xt_aload_n _ dL_law_1550 rfl ?_
  refine xt_aload_n _ dL_law_1551 rfl ?_
  refine xt_iload_n _ dL_law_1552 rfl ?_
  refine xt_iconst 1 dL_law_1553 (by decide) ?_
  refine xt_iadd dL_law_1554 ?_
  refine xt_ialdT dL_law_1555 hrow h1 ?_
  refine xt_aload_n _ dL_law_1556 rfl ?_
  refine xt_iload_n _ dL_law_1557 rfl ?_
  refine xt_iconst 2 dL_law_1558 (by decide) ?_
  refine xt_iadd dL_law_1559 ?_
  refine xt_ialdT dL_law_1560 hrow h2 ?_
  refine xt_callV (tm := _) [] dL_law_1561 klL_149 (hs _ _ μ w hI) rfl rfl rfl (Nat.le_of_ble_eq_true rfl) (fun r1 μ1 w1 q1 => ?_)
  obtain ⟨v, rfl, hM2⟩ := q1
  change x_T _ _ _ _ _ [.int v] _ _ _
  refine xt_aload_n _ dL_law_1564 rfl ?_
  refine xt_aload_n _ dL_law_1565 rfl ?_
  refine xt_iload_n _ dL_law_1566 rfl ?_
  refine xt_iconst 1 dL_law_1567 (by decide) ?_
  refine xt_iadd dL_law_1568 ?_
  refine xt_ialdT dL_law_1569 hrow h1 ?_
  refine xt_aload_n _ dL_law_1570 rfl ?_
  refine xt_iload_n _ dL_law_1571 rfl ?_
  refine xt_iconst 2 dL_law_1572 (by decide) ?_
  refine xt_iadd dL_law_1573 ?_
  refine xt_ialdT dL_law_1574 hrow h2 ?_
  refine xt_callV (tm := _) [.int v] dL_law_1575 klL_152 hM2 rfl rfl rfl (Nat.le_of_ble_eq_true rfl) (fun r2 μ2 w2 q2 => ?_)
  obtain ⟨rfl, hJ⟩ := q2
  change x_T _ _ _ _ _ [.int v, .int v] _ _ _
  exact xt_icmp_eq 1652 dL_law_1578 (by decide) (fun _ => k μ2 w2 hJ) (fun q => absurd rfl q)
set_option maxHeartbeats 1000000 in
theorem x_case_33 {L i : Nat} {xs : Nat → Int32} {I J : x_Me → Int64 → Prop} {P : Option Value → x_Me → Int64 → Prop} (hi : 6 * i + 6 ≤ L) (hL : L ≤ 3072) (hs : x_stepAt (L, xs) I J 33) (μ : x_Me) (w : Int64) (hI : I μ w) (k : ∀ μ2 w2, J μ2 w2 → x_T (L, xs) 30 mL_law 1652 (x_ll i) [] μ2 w2 P) : x_T (L, xs) 30 mL_law 1583 (x_ll i) [] μ w P := by
  have hrow : x_row (L, xs) 1000300 L xs := ⟨by decide, Or.inl ⟨rfl, rfl, rfl⟩⟩
  have h1 : vp_in (nI (6 * i) + 1) L := x_ix (k := 1) hi hL (by decide)
  refine xt_aload_n _ dL_law_1583 rfl ?_
  refine xt_aload_n _ dL_law_1584 rfl ?_
  refine xt_iload_n _ dL_law_1585 rfl ?_
  refine xt_iconst 1 dL_law_1586 (by decide) ?_
  refine xt_iadd dL_law_1587 ?_
  refine xt_ialdT dL_law_1588 hrow h1 ?_
  refine xt_callV (tm := _) [] dL_law_1589 klL_153 (hs _ μ w hI) rfl rfl rfl (Nat.le_of_ble_eq_true rfl) (fun r1 μ1 w1 q1 => ?_)
  obtain ⟨v, rfl, hM2⟩ := q1
  change x_T _ _ _ _ _ [.int v] _ _ _
  refine xt_aload_n _ dL_law_1592 rfl ?_
  refine xt_aload_n _ dL_law_1593 rfl ?_
  refine xt_iload_n _ dL_law_1594 rfl ?_
  refine xt_iconst 1 dL_law_1595 (by decide) ?_
  refine xt_iadd dL_law_1596 ?_
  refine xt_ialdT dL_law_1597 hrow h1 ?_
  refine xt_callV (tm := _) [.int v] dL_law_1598 klL_156 hM2 rfl rfl rfl (Nat.le_of_ble_eq_true rfl) (fun r2 μ2 w2 q2 => ?_)
  obtain ⟨rfl, hJ⟩ := q2
  change x_T _ _ _ _ _ [.int v, .int v] _ _ _
  exact xt_icmp_eq 1652 dL_law_1601 (by decide) (fun _ => k μ2 w2 hJ) (fun q => absurd rfl q)
set_option maxHeartbeats 1000000 in
theorem x_case_34 {L i : Nat} {xs : Nat → Int32} {I J : x_Me → Int64 → Prop} {P : Option Value → x_Me → Int64 → Prop} (hi : 6 * i + 6 ≤ L) (hL : L ≤ 3072) (hs : x_stepAt (L, xs) I J 34) (μ : x_Me) (w : Int64) (hI : I μ w) (k : ∀ μ2 w2, J μ2 w2 → x_T (L, xs) 30 mL_law 1652 (x_ll i) [] μ2 w2 P) : x_T (L, xs) 30 mL_law 1606 (x_ll i) [] μ w P := by
  have hrow : x_row (L, xs) 1000300 L xs := ⟨by decide, Or.inl ⟨rfl, rfl, rfl⟩⟩
  have h1 : vp_in (nI (6 * i) + 1) L := x_ix (k := 1) hi hL (by decide)
  refine xt_aload_n _ dL_law_1606 rfl ?_
  refine xt_aload_n _ dL_law_1607 rfl ?_
  refine xt_iload_n _ dL_law_1608 rfl ?_
  refine xt_iconst 1 dL_law_1609 (by decide) ?_
  refine xt_iadd dL_law_1610 ?_
  refine xt_ialdT dL_law_1611 hrow h1 ?_
  refine xt_callV (tm := _) [] dL_law_1612 klL_157 (hs _ μ w hI) rfl rfl rfl (Nat.le_of_ble_eq_true rfl) (fun r1 μ1 w1 q1 => ?_)
  obtain ⟨v, rfl, hM2⟩ := q1
  change x_T _ _ _ _ _ [.int v] _ _ _
  refine xt_aload_n _ dL_law_1615 rfl ?_
  refine xt_aload_n _ dL_law_1616 rfl ?_
  refine xt_iload_n _ dL_law_1617 rfl ?_
  refine xt_iconst 1 dL_law_1618 (by decide) ?_
  refine xt_iadd dL_law_1619 ?_
  refine xt_ialdT dL_law_1620 hrow h1 ?_
  refine xt_callV (tm := _) [.int v] dL_law_1621 klL_161 hM2 rfl rfl rfl (Nat.le_of_ble_eq_true rfl) (fun r2 μ2 w2 q2 => ?_)
  obtain ⟨rfl, hJ⟩ := q2
  change x_T _ _ _ _ _ [.int v, .int v] _ _ _
  exact xt_icmp_eq 1652 dL_law_1624 (by decide) (fun _ => k μ2 w2 hJ) (fun q => absurd rfl q)
set_option maxHeartbeats 1000000 in
theorem x_case_35 {L i : Nat} {xs : Nat → Int32} {I J : x_Me → Int64 → Prop} {P : Option Value → x_Me → Int64 → Prop} (hi : 6 * i + 6 ≤ L) (hL : L ≤ 3072) (hs : x_stepAt (L, xs) I J 35) (μ : x_Me) (w : Int64) (hI : I μ w) (k : ∀ μ2 w2, J μ2 w2 → x_T (L, xs) 30 mL_law 1652 (x_ll i) [] μ2 w2 P) : x_T (L, xs) 30 mL_law 1629 (x_ll i) [] μ w P := by
  have hrow : x_row (L, xs) 1000300 L xs := ⟨by decide, Or.inl ⟨rfl, rfl, rfl⟩⟩
  have h1 : vp_in (nI (6 * i) + 1) L := x_ix (k := 1) hi hL (by decide)
  refine xt_aload_n _ dL_law_1629 rfl ?_
  refine xt_aload_n _ dL_law_1630 rfl ?_
  refine xt_iload_n _ dL_law_1631 rfl ?_
  refine xt_iconst 1 dL_law_1632 (by decide) ?_
  refine xt_iadd dL_law_1633 ?_
  refine xt_ialdT dL_law_1634 hrow h1 ?_
  refine xt_callV (tm := _) [] dL_law_1635 klL_162 (hs _ μ w hI) rfl rfl rfl (Nat.le_of_ble_eq_true rfl) (fun r1 μ1 w1 q1 => ?_)
  obtain ⟨v, rfl, hM2⟩ := q1
  change x_T _ _ _ _ _ [.int v] _ _ _
  refine xt_aload_n _ dL_law_1638 rfl ?_
  refine xt_aload_n _ dL_law_1639 rfl ?_
  refine xt_iload_n _ dL_law_1640 rfl ?_
  refine xt_iconst 1 dL_law_1641 (by decide) ?_
  refine xt_iadd dL_law_1642 ?_
  refine xt_ialdT dL_law_1643 hrow h1 ?_
  refine xt_callV (tm := _) [.int v] dL_law_1644 klL_165 hM2 rfl rfl rfl (Nat.le_of_ble_eq_true rfl) (fun r2 μ2 w2 q2 => ?_)
  obtain ⟨rfl, hJ⟩ := q2
  change x_T _ _ _ _ _ [.int v, .int v] _ _ _
  exact xt_icmp_eq 1652 dL_law_1647 (by decide) (fun _ => k μ2 w2 hJ) (fun q => absurd rfl q)
set_option maxHeartbeats 2000000 in
/-- one turn of the loop -/
theorem x_turn {L i : Nat} {xs : Nat → Int32} {I J : x_Me → Int64 → Prop} {P : Option Value → x_Me → Int64 → Prop} (hi : 6 * i + 6 ≤ L) (hL : L ≤ 3072) (hs : ∀ c, x_stepAt (L, xs) I J c) (hIJ : ∀ μ w, I μ w → J μ w) (μ : x_Me) (w : Int64) (hI : I μ w) (k : ∀ μ2 w2, J μ2 w2 → x_T (L, xs) 30 mL_law 1652 (x_ll i) [] μ2 w2 P) : x_T (L, xs) 30 mL_law 27 (x_ll i) [] μ w P := by
  have hrow : x_row (L, xs) 1000300 L xs := ⟨by decide, Or.inl ⟨rfl, rfl, rfl⟩⟩
  have h0 : vp_in (nI (6 * i)) L := vp_in_nI (by omega) (by omega)
  refine xt_aload_n _ dL_law_27 rfl ?_
  refine xt_iload_n _ dL_law_28 rfl ?_
  refine xt_ialdT dL_law_29 hrow h0 ?_
  refine xt_bipush 63 dL_law_30 (by decide) ?_
  refine xt_iand dL_law_32 ?_
  obtain ⟨j, hj, ej⟩ := pk_andE (xs (nI (6 * i)).toNatClampNeg) (m := 63) 6 (by decide)
  rw [ej]
  have et : (nI j).toInt = (j : Int) := nI_toInt (by omega)
  rcases Nat.lt_or_ge j 36 with h36 | h36
  · match j, h36 with
    | 0, _ => exact xt_tabIn 192 dL_law_33 (by decide) (by decide) rfl (by decide) (x_case_0 hi hL (hs 0) μ w hI k)
    | 1, _ => exact xt_tabIn 255 dL_law_33 (by decide) (by decide) rfl (by decide) (x_case_1 hi hL (hs 1) μ w hI k)
    | 2, _ => exact xt_tabIn 278 dL_law_33 (by decide) (by decide) rfl (by decide) (x_case_2 hi hL (hs 2) μ w hI k)
    | 3, _ => exact xt_tabIn 311 dL_law_33 (by decide) (by decide) rfl (by decide) (x_case_3 hi hL (hs 3) μ w hI k)
    | 4, _ => exact xt_tabIn 334 dL_law_33 (by decide) (by decide) rfl (by decide) (x_case_4 hi hL (hs 4) μ w hI k)
    | 5, _ => exact xt_tabIn 367 dL_law_33 (by decide) (by decide) rfl (by decide) (x_case_5 hi hL (hs 5) μ w hI k)
    | 6, _ => exact xt_tabIn 410 dL_law_33 (by decide) (by decide) rfl (by decide) (x_case_6 hi hL (hs 6) μ w hI k)
    | 7, _ => exact xt_tabIn 443 dL_law_33 (by decide) (by decide) rfl (by decide) (x_case_7 hi hL (hs 7) μ w hI k)
    | 8, _ => exact xt_tabIn 496 dL_law_33 (by decide) (by decide) rfl (by decide) (x_case_8 hi hL (hs 8) μ w hI k)
    | 9, _ => exact xt_tabIn 529 dL_law_33 (by decide) (by decide) rfl (by decide) (x_case_9 hi hL (hs 9) μ w hI k)
    | 10, _ => exact xt_tabIn 578 dL_law_33 (by decide) (by decide) rfl (by decide) (x_case_10 hi hL (hs 10) μ w hI k)
    | 11, _ => exact xt_tabIn 611 dL_law_33 (by decide) (by decide) rfl (by decide) (x_case_11 hi hL (hs 11) μ w hI k)
    | 12, _ => exact xt_tabIn 660 dL_law_33 (by decide) (by decide) rfl (by decide) (x_case_12 hi hL (hs 12) μ w hI k)
    | 13, _ => exact xt_tabIn 693 dL_law_33 (by decide) (by decide) rfl (by decide) (x_case_13 hi hL (hs 13) μ w hI k)
    | 14, _ => exact xt_tabIn 752 dL_law_33 (by decide) (by decide) rfl (by decide) (x_case_14 hi hL (hs 14) μ w hI k)
    | 15, _ => exact xt_tabIn 785 dL_law_33 (by decide) (by decide) rfl (by decide) (x_case_15 hi hL (hs 15) μ w hI k)
    | 16, _ => exact xt_tabIn 818 dL_law_33 (by decide) (by decide) rfl (by decide) (x_case_16 hi hL (hs 16) μ w hI k)
    | 17, _ => exact xt_tabIn 871 dL_law_33 (by decide) (by decide) rfl (by decide) (x_case_17 hi hL (hs 17) μ w hI k)
    | 18, _ => exact xt_tabIn 904 dL_law_33 (by decide) (by decide) rfl (by decide) (x_case_18 hi hL (hs 18) μ w hI k)
    | 19, _ => exact xt_tabIn 963 dL_law_33 (by decide) (by decide) rfl (by decide) (x_case_19 hi hL (hs 19) μ w hI k)
    | 20, _ => exact xt_tabIn 1022 dL_law_33 (by decide) (by decide) rfl (by decide) (x_case_20 hi hL (hs 20) μ w hI k)
    | 21, _ => exact xt_tabIn 1071 dL_law_33 (by decide) (by decide) rfl (by decide) (x_case_21 hi hL (hs 21) μ w hI k)
    | 22, _ => exact xt_tabIn 1104 dL_law_33 (by decide) (by decide) rfl (by decide) (x_case_22 hi hL (hs 22) μ w hI k)
    | 23, _ => exact xt_tabIn 1137 dL_law_33 (by decide) (by decide) rfl (by decide) (x_case_23 hi hL (hs 23) μ w hI k)
    | 24, _ => exact xt_tabIn 1170 dL_law_33 (by decide) (by decide) rfl (by decide) (x_case_24 hi hL (hs 24) μ w hI k)
    | 25, _ => exact xt_tabIn 1203 dL_law_33 (by decide) (by decide) rfl (by decide) (x_case_25 hi hL (hs 25) μ w hI k)
    | 26, _ => exact xt_tabIn 1236 dL_law_33 (by decide) (by decide) rfl (by decide) (x_case_26 hi hL (hs 26) μ w hI k)
    | 27, _ => exact xt_tabIn 1295 dL_law_33 (by decide) (by decide) rfl (by decide) (x_case_27 hi hL (hs 27) μ w hI k)
    | 28, _ => exact xt_tabIn 1355 dL_law_33 (by decide) (by decide) rfl (by decide) (x_case_28 hi hL (hs 28) μ w hI k)
    | 29, _ => exact xt_tabIn 1388 dL_law_33 (by decide) (by decide) rfl (by decide) (x_case_29 hi hL (hs 29) μ w hI k)
    | 30, _ => exact xt_tabIn 1448 dL_law_33 (by decide) (by decide) rfl (by decide) (x_case_30 hi hL (hs 30) μ w hI k)
    | 31, _ => exact xt_tabIn 1491 dL_law_33 (by decide) (by decide) rfl (by decide) (x_case_31 hi hL (hs 31) μ w hI k)
    | 32, _ => exact xt_tabIn 1550 dL_law_33 (by decide) (by decide) rfl (by decide) (x_case_32 hi hL (hs 32) μ w hI k)
    | 33, _ => exact xt_tabIn 1583 dL_law_33 (by decide) (by decide) rfl (by decide) (x_case_33 hi hL (hs 33) μ w hI k)
    | 34, _ => exact xt_tabIn 1606 dL_law_33 (by decide) (by decide) rfl (by decide) (x_case_34 hi hL (hs 34) μ w hI k)
    | 35, _ => exact xt_tabIn 1629 dL_law_33 (by decide) (by decide) rfl (by decide) (x_case_35 hi hL (hs 35) μ w hI k)
    | j + 36, h => exact absurd h (by omega)
  · refine xt_tabOut 1652 dL_law_33 (Or.inr (by rw [et]; omega)) (by decide) ?_
    exact k μ w (hIJ μ w hI)
set_option maxHeartbeats 2000000 in
/-- the loop, turn by turn -/
theorem x_loop {L : Nat} {xs : Nat → Int32} (I : Nat → x_Me → Int64 → Prop) (hL : L ≤ 3072) (hs : ∀ i, 6 * i + 6 ≤ L → ∀ c, x_stepAt (L, xs) (I i) (I (i + 1)) c) (hIJ : ∀ i, 6 * i + 6 ≤ L → ∀ μ w, I i μ w → I (i + 1) μ w) :
    ∀ (n i : Nat) (μ : x_Me) (w : Int64), 6 * i ≤ L → L + 6 - 6 * i ≤ n → I i μ w → x_T (L, xs) 30 mL_law 18 (x_ll i) [] μ w (fun r _ _ => r = some (.int 1)) := by
  intro n
  induction n with
  | zero => intro i μ w h1 h2 _; omega
  | succ n ih =>
    intro i μ w h1 h2 hI
    have hrow : x_row (L, xs) 1000300 L xs := ⟨by decide, Or.inl ⟨rfl, rfl, rfl⟩⟩
    have esub : (nI L - 6 : Int32).toInt = (L : Int) - 6 := pk_sub_toInt (a := L) (b := 6) (by omega) (by decide)
    have e3 : (nI (6 * i)).toInt = ((6 * i : Nat) : Int) := nI_toInt (by omega)
    refine xt_iload_n _ dL_law_18 rfl ?_
    refine xt_aload_n _ dL_law_19 rfl ?_
    refine xt_alenT (nI L) dL_law_20 hrow rfl ?_
    refine xt_bipush 6 dL_law_21 (by decide) ?_
    refine xt_isub dL_law_23 ?_
    refine xt_icmp_gt 1658 dL_law_24 (by decide) (fun _ => ?_) (fun q => ?_)
    · refine xt_iconst 1 dL_law_1658 (by decide) ?_
      exact xt_iret .boolean dL_law_1659 rfl rfl rfl
    · have hi : 6 * i + 6 ≤ L := by
        rcases Nat.lt_or_ge L (6 * i + 6) with h | h
        · exact absurd (by rw [Int32.lt_iff_toInt_lt, esub, e3]; omega) q
        · exact h
      refine x_turn hi hL (hs i hi) (hIJ i hi) μ w hI (fun μ2 w2 hJ => ?_)
      refine xt_inc _ 6 dL_law_1652 rfl (by decide) (by decide) rfl ?_
      have e6 : nI (6 * i) + 6 = nI (6 * (i + 1)) := by
        rw [show (6 : Int32) = nI 6 from rfl, nI_add, Nat.mul_add]
      change x_T _ _ _ _ [_, _, _, .int (nI (6 * i) + 6)] _ _ _ _
      rw [e6]
      refine xt_goto 18 dL_law_1655 (by decide) ?_
      exact ih (i + 1) μ2 w2 (by omega) (by omega) hJ
/-- the memory behind the two constructors -/
def x_mu0 : x_Me := fun k => if k = 1 then upd (fun _ => 0) 3 (-1) else if k = 30 then upd (fun _ => 0) 3 (-1) else if k = 58 then upd (fun _ => 0) 3 (-1) else if k = 86 then upd (fun _ => 0) 3 (-1) else if k = 156 then upd (fun _ => 0) 0 (-1) else fun _ => 0
set_option maxRecDepth 100000 in
set_option maxHeartbeats 4000000 in
theorem x_hp0 : ctX11_init 0 ++ ctX12_init 152 = x_hp x_mu0 0 := by rfl
theorem x_hp_len (μ : x_Me) (w : Int64) : (x_hp μ w).length = 173 := by
  rw [x_hp, List.length_mapIdx, x_shape_len]
def x_sls : x_S → Nat
  | .inl q => q.2.length
  | .inr (.inl q) => q.2
  | .inr (.inr q) => q.2.1
theorem x_hp_sl0 (μ : x_Me) (w : Int64) (l : List x_S) : (l.mapIdx (fun k s => x_cell w s (μ k))).map x_slc = l.map x_sls := by
  apply List.ext_getElem?
  intro i
  simp only [List.getElem?_map, List.getElem?_mapIdx, Option.map_map]
  congr 1
  funext s
  match s with
  | .inl q => simp [x_cell, x_slc, x_sls]
  | .inr (.inl q) => rfl
  | .inr (.inr q) => rfl
theorem x_hp_sl (μ : x_Me) (w : Int64) : x_sl (x_hp μ w) = (x_shape.map x_sls).sum := congrArg List.sum (x_hp_sl0 μ w x_shape)
theorem x_sls_le : (x_shape.map x_sls).sum ≤ 20000 := by decide +kernel
set_option maxHeartbeats 2000000 in
/-- THE LAW, over any steps that hold what they need -/
theorem x_law {L : Nat} {xs : Nat → Int32} (I : Nat → x_Me → Int64 → Prop) (hL : L ≤ 3072) (h0 : I 0 x_mu0 0) (hs : ∀ i, 6 * i + 6 ≤ L → ∀ c, x_stepAt (L, xs) (I i) (I (i + 1)) c) (hIJ : ∀ i, 6 * i + 6 ≤ L → ∀ μ w, I i μ w → I (i + 1) μ w) :
    ∃ h', x_R (L, xs) 30 mL_law 0 [.ref 1000300, .retAddr 0, .retAddr 0, .retAddr 0] [] [] (some (.int 1)) h' ∧ h'.length ≤ 600000 ∧ x_sl h' ≤ 7302250 := by
  obtain ⟨r, μ', w', hR, hP⟩ := x_loop (xs := xs) I hL hs hIJ (L + 6) 0 x_mu0 0 (by omega) (by omega) h0
  subst hP
  refine ⟨x_hp μ' w', ?_, by rw [x_hp_len]; omega, by rw [x_hp_sl]; have := x_sls_le; omega⟩
  refine xr_new dL_law_0 knL_7 (by decide) ?_
  refine xr_dup dL_law_3 rfl ?_
  have c1 := cX11_init_ok (L, xs) 26 [] (by decide)
  refine xr_callI (as := []) (h1 := ctX11_init 0) (rest := [.ref 0]) dL_law_4 klL_9 rfl rfl (by decide) c1 ?_
  refine xr_astore_n dL_law_7 (by decide) rfl ?_
  change x_R _ _ _ _ [.ref 1000300, .ref 0, .retAddr 0, .retAddr 0] [] _ _ _
  have hl11 : (ctX11_init 0).length = 152 := by decide +kernel
  refine xr_new dL_law_8 knL_10 (by rw [hl11]; decide) ?_
  rw [hl11]
  refine xr_dup dL_law_11 rfl ?_
  have c2 := cX12_init_ok (L, xs) 28 (ctX11_init 0) (by rw [hl11]; decide)
  rw [hl11] at c2
  refine xr_callI (as := []) (rest := [.ref 152]) dL_law_12 klL_12 rfl rfl (by decide) c2 ?_
  refine xr_astore_n dL_law_15 (by decide) rfl ?_
  change x_R _ _ _ _ [.ref 1000300, .ref 0, .ref 152, .retAddr 0] [] _ _ _
  refine xr_iconst 0 dL_law_16 (by decide) ?_
  refine xr_istore_n dL_law_17 (by decide) rfl ?_
  rw [x_hp0]
  exact hR
