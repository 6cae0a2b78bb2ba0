/-! longs as sets; Long.bitCount (the wb rows are the kit's, pasted) -/
theorem wb_tb (n : Nat) : (lN n).toBitVec = BitVec.ofNat 64 n := rfl
theorem wb_inj {a b : Int64} (h : a.toBitVec = b.toBitVec) : a = b := Int64.toBitVec_inj.mp h
theorem wb_tn {n : Nat} (h : n < 2 ^ 64) : (lN n).toBitVec.toNat = n := by rw [wb_tb, BitVec.toNat_ofNat, Nat.mod_eq_of_lt h]
theorem wb_of (x : Int64) : ∃ n, n < 2 ^ 64 ∧ x = lN n := ⟨x.toBitVec.toNat, x.toBitVec.isLt, wb_inj (by rw [wb_tb]; simp)⟩
theorem wb_of32 (x : Int32) : ∃ n, n < 2 ^ 32 ∧ x = nI n := ⟨x.toBitVec.toNat, x.toBitVec.isLt, Int32.toBitVec_inj.mp (by show _ = BitVec.ofNat 32 _; simp)⟩
theorem wb_c : ∀ k, k < 64 → ((nI k).toInt64 &&& 63) = lN k := by decide +kernel
theorem wb_cu : ∀ k, k < 64 → ((nI k).toInt64.toUInt64 &&& Int64.toUInt64 63) = UInt64.ofNat k := by decide +kernel
theorem wb_sm : ∀ k, k < 64 → (BitVec.ofNat 64 k).smod 64 = BitVec.ofNat 64 k := by decide +kernel
theorem wb_pw {a b : Nat} (h : a ≤ b) : 2 ^ b = 2 ^ a * 2 ^ (b - a) := by rw [← Nat.pow_add]; congr 1; omega
theorem wb_lt2 {a b : Nat} (h : a < b) : 2 ^ a < 2 ^ b := Nat.pow_lt_pow_right (by decide) h
theorem wb_mod (n : Nat) : lN n = lN (n % 2 ^ 64) := wb_inj (by rw [wb_tb, wb_tb]; apply BitVec.eq_of_toNat_eq; rw [BitVec.toNat_ofNat, BitVec.toNat_ofNat, Nat.mod_mod])
theorem wb_shr {n k : Nat} (hn : n < 2 ^ 64) (hk : k < 64) : ((lN n).toUInt64 >>> ((nI k).toInt64.toUInt64 &&& Int64.toUInt64 63)).toInt64 = lN (n / 2 ^ k) := by
  rw [wb_cu k hk]
  apply wb_inj
  apply BitVec.eq_of_toNat_eq
  show ((lN n).toUInt64 >>> UInt64.ofNat k).toNat = (BitVec.ofNat 64 _).toNat
  have h1 : (UInt64.ofNat k).toNat = k := by
    show (BitVec.ofNat 64 k).toNat = k
    rw [BitVec.toNat_ofNat, Nat.mod_eq_of_lt (by omega)]
  have h2 : (lN n).toUInt64.toNat = n := wb_tn hn
  rw [UInt64.toNat_shiftRight, h1, h2, Nat.mod_eq_of_lt hk, Nat.shiftRight_eq_div_pow, BitVec.toNat_ofNat, Nat.mod_eq_of_lt (Nat.lt_of_le_of_lt (Nat.div_le_self _ _) hn)]
theorem wb_shl (n : Nat) {k : Nat} (hk : k < 64) : lN n <<< ((nI k).toInt64 &&& 63) = lN (n * 2 ^ k) := by
  rw [wb_c k hk]
  apply wb_inj
  rw [Int64.toBitVec_shiftLeft, wb_tb, wb_tb, wb_tb, wb_sm k hk]
  apply BitVec.eq_of_toNat_eq
  rw [BitVec.shiftLeft_eq', BitVec.toNat_shiftLeft, BitVec.toNat_ofNat, BitVec.toNat_ofNat, BitVec.toNat_ofNat, Nat.mod_eq_of_lt (show k < 2 ^ 64 by omega), Nat.shiftLeft_eq, Nat.mul_mod, Nat.mod_mod, ← Nat.mul_mod]
theorem wb_and {a b : Nat} (ha : a < 2 ^ 64) (hb : b < 2 ^ 64) : lN a &&& lN b = lN (a &&& b) := by
  apply wb_inj
  rw [Int64.toBitVec_and, wb_tb, wb_tb, wb_tb]
  apply BitVec.eq_of_toNat_eq
  rw [BitVec.toNat_and, BitVec.toNat_ofNat, BitVec.toNat_ofNat, BitVec.toNat_ofNat, Nat.mod_eq_of_lt ha, Nat.mod_eq_of_lt hb, Nat.mod_eq_of_lt (Nat.and_lt_two_pow _ hb)]
theorem wb_or {a b : Nat} (ha : a < 2 ^ 64) (hb : b < 2 ^ 64) : lN a ||| lN b = lN (a ||| b) := by
  apply wb_inj
  rw [Int64.toBitVec_or, wb_tb, wb_tb, wb_tb]
  apply BitVec.eq_of_toNat_eq
  rw [BitVec.toNat_or, BitVec.toNat_ofNat, BitVec.toNat_ofNat, BitVec.toNat_ofNat, Nat.mod_eq_of_lt ha, Nat.mod_eq_of_lt hb, Nat.mod_eq_of_lt (Nat.or_lt_two_pow ha hb)]
theorem wb_mask {n k : Nat} (hn : n < 2 ^ 64) (hk : k < 64) : lN n &&& lN (2 ^ k - 1) = lN (n % 2 ^ k) := by
  rw [wb_and hn (by have := wb_lt2 hk; omega), Nat.and_two_pow_sub_one_eq_mod]
theorem wb_a1 {n : Nat} (hn : n < 2 ^ 64) : lN n &&& 1 = lN (n % 2) := wb_mask (k := 1) hn (by decide)
theorem wb_bit {n k : Nat} (hn : n < 2 ^ 64) (hk : k < 64) : ((lN n).toUInt64 >>> ((nI k).toInt64.toUInt64 &&& Int64.toUInt64 63)).toInt64 &&& 1 = lN (n / 2 ^ k % 2) := by
  rw [wb_shr hn hk, wb_a1 (Nat.lt_of_le_of_lt (Nat.div_le_self _ _) hn)]
/-- a number's bytes, each through t -/
def mb_m (t : Nat → Nat) : Nat → Nat → Nat
  | 0, _ => 0
  | n + 1, x => 256 * mb_m t n (x / 256) + t (x % 256)
def mb_k (m : Nat) : Nat → Nat
  | 0 => 0
  | n + 1 => 256 * mb_k m n + m
theorem mb_id : ∀ n x, x < 256 ^ n → mb_m (fun r => r) n x = x
  | 0, x, h => by rw [Nat.pow_zero] at h; rw [mb_m]; omega
  | n + 1, x, h => by
    rw [Nat.pow_succ] at h
    rw [mb_m, mb_id n (x / 256) (by omega)]
    omega
theorem mb_cong {t s : Nat → Nat} (h : ∀ r, r < 256 → t r = s r) : ∀ n x, mb_m t n x = mb_m s n x
  | 0, _ => rfl
  | n + 1, x => by rw [mb_m, mb_m, mb_cong h n, h _ (Nat.mod_lt _ (by decide))]
theorem mb_add (t s : Nat → Nat) : ∀ n x, mb_m t n x + mb_m s n x = mb_m (fun r => t r + s r) n x
  | 0, _ => rfl
  | n + 1, x => by rw [mb_m, mb_m, mb_m, ← mb_add t s n]; omega
theorem mb_and (A M m : Nat) (hm : m < 256) : A &&& (256 * M + m) = 256 * ((A / 256) &&& M) + ((A % 256) &&& m) := by
  apply Nat.eq_of_testBit_eq
  intro i
  have h1 : (A % 256) &&& m < 2 ^ 8 := Nat.and_lt_two_pow _ (by omega)
  rw [Nat.testBit_and, show 256 * M + m = 2 ^ 8 * M + m from rfl, show 256 * ((A / 256) &&& M) + ((A % 256) &&& m) = 2 ^ 8 * ((A / 256) &&& M) + ((A % 256) &&& m) from rfl, Nat.testBit_two_pow_mul_add _ hm, Nat.testBit_two_pow_mul_add _ h1]
  by_cases hi : i < 8
  · rw [if_pos hi, if_pos hi, Nat.testBit_and, show A % 256 = A % 2 ^ 8 from rfl, Nat.testBit_mod_two_pow]
    simp [hi]
  · rw [if_neg hi, if_neg hi, Nat.testBit_and, show A / 256 = A / 2 ^ 8 from rfl, Nat.testBit_div_two_pow, show i - 8 + 8 = i by omega]
theorem mb_c85 : ∀ c, c < 2 → ∀ z, z < 128 → (128 * c + z) &&& 85 = z &&& 85 := by decide +kernel
theorem mb_c51 : ∀ c, c < 4 → ∀ z, z < 64 → (64 * c + z) &&& 51 = z &&& 51 := by decide +kernel
theorem mb_s1 {t : Nat → Nat} (ht : ∀ r, r < 256 → t r < 256) : ∀ n x, (mb_m t n x / 2) &&& mb_k 85 n = mb_m (fun r => (t r / 2) &&& 85) n x
  | 0, _ => by rw [mb_k, Nat.and_zero]; rfl
  | n + 1, x => by
    have hy := ht (x % 256) (Nat.mod_lt _ (by decide))
    have h1 : mb_m t (n + 1) x / 2 / 256 = mb_m t n (x / 256) / 2 := by rw [mb_m]; omega
    have h2 : mb_m t (n + 1) x / 2 % 256 = 128 * (mb_m t n (x / 256) % 2) + t (x % 256) / 2 := by rw [mb_m]; omega
    rw [mb_k, mb_and _ _ _ (by decide), h1, h2, mb_s1 ht n, mb_c85 _ (by omega) _ (by omega), mb_m]
theorem mb_s2 {t : Nat → Nat} (ht : ∀ r, r < 256 → t r < 256) : ∀ n x, (mb_m t n x / 4) &&& mb_k 51 n = mb_m (fun r => (t r / 4) &&& 51) n x
  | 0, _ => by rw [mb_k, Nat.and_zero]; rfl
  | n + 1, x => by
    have hy := ht (x % 256) (Nat.mod_lt _ (by decide))
    have h1 : mb_m t (n + 1) x / 4 / 256 = mb_m t n (x / 256) / 4 := by rw [mb_m]; omega
    have h2 : mb_m t (n + 1) x / 4 % 256 = 64 * (mb_m t n (x / 256) % 4) + t (x % 256) / 4 := by rw [mb_m]; omega
    rw [mb_k, mb_and _ _ _ (by decide), h1, h2, mb_s2 ht n, mb_c51 _ (by omega) _ (by omega), mb_m]
theorem mb_s0 {t : Nat → Nat} (ht : ∀ r, r < 256 → t r < 256) (m : Nat) (hm : m < 256) : ∀ n x, mb_m t n x &&& mb_k m n = mb_m (fun r => t r &&& m) n x
  | 0, _ => by rw [mb_k, Nat.and_zero]; rfl
  | n + 1, x => by
    have hy := ht (x % 256) (Nat.mod_lt _ (by decide))
    have h1 : mb_m t (n + 1) x / 256 = mb_m t n (x / 256) := by rw [mb_m]; omega
    have h2 : mb_m t (n + 1) x % 256 = t (x % 256) := by rw [mb_m]; omega
    rw [mb_k, mb_and _ _ _ hm, h1, h2, mb_s0 ht m hm n, mb_m]
theorem mb_s3 {t : Nat → Nat} (ht : ∀ r, r < 256 → t r ≤ 68 ∧ t r % 16 ≤ 4) : ∀ n x, (mb_m t n x + mb_m t n x / 16) &&& mb_k 15 n = mb_m (fun r => (t r + t r / 16) % 16) n x
  | 0, _ => by rw [mb_k, Nat.and_zero]; rfl
  | n + 1, x => by
    have hy := ht (x % 256) (Nat.mod_lt _ (by decide))
    have hY : mb_m t n (x / 256) % 16 ≤ 4 := by
      cases n with
      | zero => show 0 % 16 ≤ 4; decide
      | succ n =>
        have := ht (x / 256 % 256) (Nat.mod_lt _ (by decide))
        rw [mb_m]; omega
    have h1 : (mb_m t (n + 1) x + mb_m t (n + 1) x / 16) / 256 = mb_m t n (x / 256) + mb_m t n (x / 256) / 16 := by rw [mb_m]; omega
    have h2 : (mb_m t (n + 1) x + mb_m t (n + 1) x / 16) % 256 = 16 * (mb_m t n (x / 256) % 16) + (t (x % 256) + t (x % 256) / 16) := by rw [mb_m]; omega
    have h3 : (16 * (mb_m t n (x / 256) % 16) + (t (x % 256) + t (x % 256) / 16)) &&& 15 = (t (x % 256) + t (x % 256) / 16) % 16 := by
      have := Nat.and_two_pow_sub_one_eq_mod (16 * (mb_m t n (x / 256) % 16) + (t (x % 256) + t (x % 256) / 16)) 4
      rw [show (2 : Nat) ^ 4 - 1 = 15 from rfl, show (2 : Nat) ^ 4 = 16 from rfl] at this
      rw [this]; omega
    rw [mb_k, mb_and _ _ _ (by decide), h1, h2, h3, mb_s3 ht n, mb_m]
def mb_1 (r : Nat) : Nat := r - ((r / 2) &&& 85)
def mb_2 (r : Nat) : Nat := (mb_1 r &&& 51) + ((mb_1 r / 4) &&& 51)
theorem mb_f1 : ∀ r, r < 256 → mb_1 r + ((r / 2) &&& 85) = r ∧ mb_1 r < 256 ∧ mb_2 r ≤ 68 ∧ mb_2 r % 16 ≤ 4 ∧ (mb_2 r + mb_2 r / 16) % 16 = s_pop r ∧ s_pop r ≤ 8 := by decide +kernel
theorem mb_le {t : Nat → Nat} {c : Nat} (ht : ∀ r, r < 256 → t r ≤ c) (hc : c < 256) : ∀ n x, mb_m t n x < 256 ^ n
  | 0, _ => by rw [mb_m]; decide
  | n + 1, x => by
    have h1 := mb_le ht hc n (x / 256)
    have h2 := ht (x % 256) (Nat.mod_lt _ (by decide))
    rw [mb_m, Nat.pow_succ]; omega
/-- Long.bitCount, as its code reckons, of a number -/
def mb_bc (x : Nat) : Nat :=
  let x1 := x - ((x / 2) &&& 6148914691236517205)
  let x2 := (x1 &&& 3689348814741910323) + ((x1 / 4) &&& 3689348814741910323)
  let x3 := (x2 + x2 / 16) &&& 1085102592571150095
  let x4 := x3 + x3 / 256
  let x5 := x4 + x4 / 65536
  let x6 := x5 + x5 / 4294967296
  x6 % 128
theorem mb_k85 : mb_k 85 8 = 6148914691236517205 := by decide
theorem mb_k51 : mb_k 51 8 = 3689348814741910323 := by decide
theorem mb_k15 : mb_k 15 8 = 1085102592571150095 := by decide
theorem mb_x1 {x : Nat} (hx : x < 2 ^ 64) : x - ((x / 2) &&& 6148914691236517205) = mb_m mb_1 8 x ∧ (x / 2) &&& 6148914691236517205 ≤ x := by
  have e : mb_m (fun r => r) 8 x = x := mb_id 8 x hx
  have h1 := mb_s1 (t := fun r => r) (fun r hr => hr) 8 x
  rw [e, mb_k85] at h1
  have h2 := mb_add mb_1 (fun r => (r / 2) &&& 85) 8 x
  rw [mb_cong (s := fun r => r) (fun r hr => (mb_f1 r hr).1), e] at h2
  rw [h1]
  omega
theorem mb_x2 (x : Nat) : (mb_m mb_1 8 x &&& 3689348814741910323) + ((mb_m mb_1 8 x / 4) &&& 3689348814741910323) = mb_m mb_2 8 x := by
  rw [← mb_k51, mb_s0 (fun r hr => (mb_f1 r hr).2.1) 51 (by decide), mb_s2 (fun r hr => (mb_f1 r hr).2.1), mb_add]
  rfl
theorem mb_x3 (x : Nat) : (mb_m mb_2 8 x + mb_m mb_2 8 x / 16) &&& 1085102592571150095 = mb_m s_pop 8 x := by
  rw [← mb_k15, mb_s3 (fun r hr => ⟨(mb_f1 r hr).2.2.1, (mb_f1 r hr).2.2.2.1⟩)]
  exact mb_cong (fun r hr => (mb_f1 r hr).2.2.2.2.1) 8 x
def mb_s : Nat → Nat → Nat
  | 0, _ => 0
  | n + 1, x => s_pop (x % 256) + mb_s n (x / 256)
theorem mb_e1 {p0 Y1 y : Nat} (h0 : p0 ≤ 8) (e : y = 256 * Y1 + p0) : y / 256 = Y1 := by omega
theorem mb_e2 {p0 p1 p2 Y1 Y2 Y3 y : Nat} (h0 : p0 ≤ 8) (h1 : p1 ≤ 8) (h2 : p2 ≤ 8) (e : y = 256 * Y1 + p0) (e1 : Y1 = 256 * Y2 + p1) (e2 : Y2 = 256 * Y3 + p2) : (y + Y1) / 65536 = Y2 + Y3 := by
  have : y + Y1 = 65536 * (Y2 + Y3) + (256 * (p1 + p2) + (p0 + p1)) := by omega
  rw [this]
  generalize Y2 + Y3 = Z
  omega
theorem mb_e3 {p0 p1 p2 p3 p4 p5 p6 Y1 Y2 Y3 Y4 Y5 Y6 Y7 y : Nat} (h0 : p0 ≤ 8) (h1 : p1 ≤ 8) (h2 : p2 ≤ 8) (h3 : p3 ≤ 8) (h4 : p4 ≤ 8) (h5 : p5 ≤ 8) (h6 : p6 ≤ 8) (e : y = 256 * Y1 + p0) (e1 : Y1 = 256 * Y2 + p1) (e2 : Y2 = 256 * Y3 + p2) (e3 : Y3 = 256 * Y4 + p3) (e4 : Y4 = 256 * Y5 + p4) (e5 : Y5 = 256 * Y6 + p5) (e6 : Y6 = 256 * Y7 + p6) : (y + Y1 + (Y2 + Y3)) / 4294967296 = Y4 + Y5 + Y6 + Y7 := by
  have a3 : Y3 = 4294967296 * Y7 + (16777216 * p6 + 65536 * p5 + 256 * p4 + p3) := by rw [e3, e4, e5, e6]; omega
  have a2 : Y2 = 4294967296 * Y6 + (16777216 * p5 + 65536 * p4 + 256 * p3 + p2) := by rw [e2, e3, e4, e5]; omega
  have a1 : Y1 = 4294967296 * Y5 + (16777216 * p4 + 65536 * p3 + 256 * p2 + p1) := by rw [e1, e2, e3, e4]; omega
  have a0 : y = 4294967296 * Y4 + (16777216 * p3 + 65536 * p2 + 256 * p1 + p0) := by rw [e, e1, e2, e3]; omega
  clear e e1 e2 e3 e4 e5 e6
  have b3 : 16777216 * p6 + 65536 * p5 + 256 * p4 + p3 ≤ 141314816 := by omega
  have b2 : 16777216 * p5 + 65536 * p4 + 256 * p3 + p2 ≤ 141314816 := by omega
  have b1 : 16777216 * p4 + 65536 * p3 + 256 * p2 + p1 ≤ 141314816 := by omega
  have b0 : 16777216 * p3 + 65536 * p2 + 256 * p1 + p0 ≤ 141314816 := by omega
  rw [a3, a2, a1, a0]
  generalize 16777216 * p6 + 65536 * p5 + 256 * p4 + p3 = c3 at b3
  generalize 16777216 * p5 + 65536 * p4 + 256 * p3 + p2 = c2 at b2
  generalize 16777216 * p4 + 65536 * p3 + 256 * p2 + p1 = c1 at b1
  generalize 16777216 * p3 + 65536 * p2 + 256 * p1 + p0 = c0 at b0
  have : 4294967296 * Y4 + c0 + (4294967296 * Y5 + c1) + (4294967296 * Y6 + c2 + (4294967296 * Y7 + c3)) = 4294967296 * (Y4 + Y5 + Y6 + Y7) + (c0 + c1 + c2 + c3) := by omega
  rw [this]
  generalize Y4 + Y5 + Y6 + Y7 = Z
  omega
theorem mb_e4 {p0 p1 p2 p3 p4 p5 p6 p7 Y1 Y2 Y3 Y4 Y5 Y6 Y7 y : Nat} (h0 : p0 ≤ 8) (h1 : p1 ≤ 8) (h2 : p2 ≤ 8) (h3 : p3 ≤ 8) (h4 : p4 ≤ 8) (h5 : p5 ≤ 8) (h6 : p6 ≤ 8) (h7 : p7 ≤ 8) (e : y = 256 * Y1 + p0) (e1 : Y1 = 256 * Y2 + p1) (e2 : Y2 = 256 * Y3 + p2) (e3 : Y3 = 256 * Y4 + p3) (e4 : Y4 = 256 * Y5 + p4) (e5 : Y5 = 256 * Y6 + p5) (e6 : Y6 = 256 * Y7 + p6) (e7 : Y7 = p7) : (y + Y1 + (Y2 + Y3) + (Y4 + Y5 + Y6 + Y7)) % 128 = p0 + (p1 + (p2 + (p3 + (p4 + (p5 + (p6 + p7)))))) := by
  have : y + Y1 + (Y2 + Y3) + (Y4 + Y5 + Y6 + Y7) = 128 * (2 * Y1 + 2 * Y2 + 2 * Y3 + 2 * Y4 + 2 * Y5 + 2 * Y6 + 2 * Y7) + (p0 + (p1 + (p2 + (p3 + (p4 + (p5 + (p6 + p7))))))) := by omega
  rw [this]
  generalize 2 * Y1 + 2 * Y2 + 2 * Y3 + 2 * Y4 + 2 * Y5 + 2 * Y6 + 2 * Y7 = Z
  clear this e e1 e2 e3 e4 e5 e6 e7
  omega
theorem mb_end (x : Nat) : (mb_m s_pop 8 x + mb_m s_pop 8 x / 256 + (mb_m s_pop 8 x + mb_m s_pop 8 x / 256) / 65536 + (mb_m s_pop 8 x + mb_m s_pop 8 x / 256 + (mb_m s_pop 8 x + mb_m s_pop 8 x / 256) / 65536) / 4294967296) % 128 = mb_s 8 x := by
  have hp : ∀ r, s_pop (r % 256) ≤ 8 := fun r => (mb_f1 (r % 256) (Nat.mod_lt _ (by decide))).2.2.2.2.2
  have E : ∀ n z, mb_m s_pop (n + 1) z = 256 * mb_m s_pop n (z / 256) + s_pop (z % 256) := fun n z => rfl
  have e7 : mb_m s_pop 1 (x / 256 / 256 / 256 / 256 / 256 / 256 / 256) = s_pop (x / 256 / 256 / 256 / 256 / 256 / 256 / 256 % 256) := by
    rw [E]; show 256 * 0 + _ = _; rw [Nat.mul_zero, Nat.zero_add]
  rw [mb_e1 (hp x) (E 7 x), mb_e2 (hp x) (hp _) (hp _) (E 7 x) (E 6 _) (E 5 _), mb_e3 (hp x) (hp _) (hp _) (hp _) (hp _) (hp _) (hp _) (E 7 x) (E 6 _) (E 5 _) (E 4 _) (E 3 _) (E 2 _) (E 1 _), mb_e4 (hp x) (hp _) (hp _) (hp _) (hp _) (hp _) (hp _) (hp _) (E 7 x) (E 6 _) (E 5 _) (E 4 _) (E 3 _) (E 2 _) (E 1 _) e7]
  rfl
theorem mb_bc_s {x : Nat} (hx : x < 2 ^ 64) : mb_bc x = mb_s 8 x := by
  rw [← mb_end]
  unfold mb_bc
  simp only [(mb_x1 hx).1, mb_x2, mb_x3]
theorem s_cnt_split (p : Nat → Bool) (a : Nat) : ∀ b, s_cnt p (a + b) = s_cnt p a + s_cnt (fun i => p (a + i)) b
  | 0 => rfl
  | b + 1 => by rw [← Nat.add_assoc, s_cnt, s_cnt, s_cnt_split p a b]; omega
theorem mb_s_cnt : ∀ n x, s_cnt (fun i => x.testBit i) (8 * n) = mb_s n x
  | 0, _ => rfl
  | n + 1, x => by
    rw [show 8 * (n + 1) = 8 + 8 * n by omega, s_cnt_split, mb_s, ← mb_s_cnt n (x / 256)]
    congr 1
    · unfold s_pop
      refine s_cnt_cong (fun i hi => ?_)
      rw [show x % 256 = x % 2 ^ 8 from rfl, Nat.testBit_mod_two_pow]; simp [hi]
    · refine s_cnt_cong (fun i hi => ?_)
      rw [show x / 256 = x / 2 ^ 8 from rfl, Nat.testBit_div_two_pow, Nat.add_comm]
theorem mb_bc_cnt {x : Nat} (hx : x < 2 ^ 64) : mb_bc x = s_cnt (fun i => x.testBit i) 64 := by
  rw [mb_bc_s hx, ← mb_s_cnt 8 x]
theorem mb_bits (p : Nat → Bool) : mb_bc (s_bits p 64) = s_cnt p 64 := by
  rw [mb_bc_cnt (s_bits_lt p 64)]
  refine s_cnt_cong (fun i hi => ?_)
  rw [s_bits_bit]; simp [hi]
theorem mb_tp {t : Nat → Nat} {c : Nat} (ht : ∀ r, r < 256 → t r ≤ c) (hc : c < 256) : ∀ n x, mb_m t (n + 1) x < (c + 1) * 256 ^ n
  | 0, x => by
    have h2 := ht (x % 256) (Nat.mod_lt _ (by decide))
    rw [mb_m, Nat.pow_zero, Nat.mul_one]; show 256 * 0 + t (x % 256) < c + 1; omega
  | n + 1, x => by
    have h1 := mb_tp ht hc n (x / 256)
    have h2 := ht (x % 256) (Nat.mod_lt _ (by decide))
    rw [mb_m, Nat.pow_succ, ← Nat.mul_assoc]
    generalize (c + 1) * 256 ^ n = Z at h1
    omega
theorem mb_top (x : Nat) : mb_m mb_2 8 x < 69 * 2 ^ 56 := mb_tp (c := 68) (fun r hr => (mb_f1 r hr).2.2.1) (by decide) 7 x
theorem mb_top3 (x : Nat) : mb_m s_pop 8 x < 9 * 2 ^ 56 := mb_tp (c := 8) (fun r hr => (mb_f1 r hr).2.2.2.2.2) (by decide) 7 x
theorem s_mask (n k : Nat) : nI n &&& nI (2 ^ k - 1) = nI (n % 2 ^ k) := by
  rw [← Nat.and_two_pow_sub_one_eq_mod]
  apply Int32.toBitVec_inj.mp
  rw [Int32.toBitVec_and]
  exact BitVec.ofNat_and.symm
section LONGS
variable (sc : Nat × (Nat → Int32)) (d : Nat) (μ : x_Me) (w : Int64)
set_option maxHeartbeats 1000000 in
theorem tJ_bitCountL (x : Nat) (hx : x < 2 ^ 64) : x_D sc d mJ13_bitCount_95d88 [.long (lN x)] μ w (some (.int (nI (mb_bc x)))) μ w := by
  have hx1 := mb_x1 hx
  have hb1 : mb_m mb_1 8 x < 2 ^ 64 := mb_le (c := 255) (fun r hr => by have := (mb_f1 r hr).2.1; omega) (by decide) 8 x
  have hb2 : mb_m mb_2 8 x < 2 ^ 64 := mb_le (c := 68) (fun r hr => (mb_f1 r hr).2.2.1) (by decide) 8 x
  have e1 : lN x - (((lN x).toUInt64 >>> ((1 : Int32).toInt64.toUInt64 &&& Int64.toUInt64 63)).toInt64 &&& 6148914691236517205) = lN (mb_m mb_1 8 x) := by
    rw [show (1 : Int32) = nI 1 from rfl, wb_shr hx (by decide), show (6148914691236517205 : Int64) = lN 6148914691236517205 from rfl, wb_and (by omega) (by decide), lN_sub hx1.2, ← hx1.1]
  have e2 : (lN (mb_m mb_1 8 x) &&& 3689348814741910323) + (((lN (mb_m mb_1 8 x)).toUInt64 >>> ((2 : Int32).toInt64.toUInt64 &&& Int64.toUInt64 63)).toInt64 &&& 3689348814741910323) = lN (mb_m mb_2 8 x) := by
    rw [show (2 : Int32) = nI 2 from rfl, wb_shr hb1 (by decide), show (3689348814741910323 : Int64) = lN 3689348814741910323 from rfl, wb_and (by omega) (by decide), wb_and (by omega) (by decide), lN_add, ← mb_x2 x]
  have e3 : (lN (mb_m mb_2 8 x) + ((lN (mb_m mb_2 8 x)).toUInt64 >>> ((4 : Int32).toInt64.toUInt64 &&& Int64.toUInt64 63)).toInt64) &&& 1085102592571150095 = lN (mb_m s_pop 8 x) := by
    have hq2 : mb_m mb_2 8 x + mb_m mb_2 8 x / 16 < 2 ^ 64 := by
      have hlt : mb_m mb_2 8 x < 69 * 2 ^ 56 := mb_top x
      omega
    rw [show (4 : Int32) = nI 4 from rfl, wb_shr hb2 (by decide), show (1085102592571150095 : Int64) = lN 1085102592571150095 from rfl, lN_add, wb_and (by omega) (by decide), ← mb_x3 x]
  have hb3 : mb_m s_pop 8 x < 9 * 2 ^ 56 := mb_top3 x
  have e4 : lN (mb_m s_pop 8 x) + ((lN (mb_m s_pop 8 x)).toUInt64 >>> ((8 : Int32).toInt64.toUInt64 &&& Int64.toUInt64 63)).toInt64 = lN (mb_m s_pop 8 x + mb_m s_pop 8 x / 256) := by
    rw [show (8 : Int32) = nI 8 from rfl, wb_shr (by omega) (by decide), lN_add]
  have e5 : lN (mb_m s_pop 8 x + mb_m s_pop 8 x / 256) + ((lN (mb_m s_pop 8 x + mb_m s_pop 8 x / 256)).toUInt64 >>> ((16 : Int32).toInt64.toUInt64 &&& Int64.toUInt64 63)).toInt64 = lN (mb_m s_pop 8 x + mb_m s_pop 8 x / 256 + (mb_m s_pop 8 x + mb_m s_pop 8 x / 256) / 65536) := by
    rw [show (16 : Int32) = nI 16 from rfl, wb_shr (by omega) (by decide), lN_add]
  have e6 : lN (mb_m s_pop 8 x + mb_m s_pop 8 x / 256 + (mb_m s_pop 8 x + mb_m s_pop 8 x / 256) / 65536) + ((lN (mb_m s_pop 8 x + mb_m s_pop 8 x / 256 + (mb_m s_pop 8 x + mb_m s_pop 8 x / 256) / 65536)).toUInt64 >>> ((32 : Int32).toInt64.toUInt64 &&& Int64.toUInt64 63)).toInt64 = lN (mb_m s_pop 8 x + mb_m s_pop 8 x / 256 + (mb_m s_pop 8 x + mb_m s_pop 8 x / 256) / 65536 + (mb_m s_pop 8 x + mb_m s_pop 8 x / 256 + (mb_m s_pop 8 x + mb_m s_pop 8 x / 256) / 65536) / 4294967296) := by
    rw [show (32 : Int32) = nI 32 from rfl, wb_shr (by omega) (by decide), lN_add]
  have e7 : mb_bc x = (mb_m s_pop 8 x + mb_m s_pop 8 x / 256 + (mb_m s_pop 8 x + mb_m s_pop 8 x / 256) / 65536 + (mb_m s_pop 8 x + mb_m s_pop 8 x / 256 + (mb_m s_pop 8 x + mb_m s_pop 8 x / 256) / 65536) / 4294967296) % 128 := by
    unfold mb_bc
    simp only [hx1.1, mb_x2, mb_x3]
  refine x_D.of (by decide) (Nat.le_of_ble_eq_true rfl) ?_
  show x_T sc d mJ13_bitCount_95d88 0 [.long (lN x), .retAddr 0] [] μ w _
  refine xt_lload_n _ dJ13_bitCount_95d88_0 rfl ?_
  refine xt_lload_n _ dJ13_bitCount_95d88_1 rfl ?_
  refine xt_iconst (1) dJ13_bitCount_95d88_2 (by decide) ?_
  refine xt_lushr dJ13_bitCount_95d88_3 ?_
  refine xt_ldc2 _ dJ13_bitCount_95d88_4 kkJ13_314 ?_
  refine xt_land dJ13_bitCount_95d88_7 ?_
  refine xt_lsub dJ13_bitCount_95d88_8 ?_
  rw [e1]
  refine xt_lstore_n dJ13_bitCount_95d88_9 (by decide) rfl ?_
  change x_T _ _ _ _ [_, _] _ _ _ _
  refine xt_lload_n _ dJ13_bitCount_95d88_10 rfl ?_
  refine xt_ldc2 _ dJ13_bitCount_95d88_11 kkJ13_316 ?_
  refine xt_land dJ13_bitCount_95d88_14 ?_
  refine xt_lload_n _ dJ13_bitCount_95d88_15 rfl ?_
  refine xt_iconst (2) dJ13_bitCount_95d88_16 (by decide) ?_
  refine xt_lushr dJ13_bitCount_95d88_17 ?_
  refine xt_ldc2 _ dJ13_bitCount_95d88_18 kkJ13_316 ?_
  refine xt_land dJ13_bitCount_95d88_21 ?_
  refine xt_ladd dJ13_bitCount_95d88_22 ?_
  rw [e2]
  refine xt_lstore_n dJ13_bitCount_95d88_23 (by decide) rfl ?_
  change x_T _ _ _ _ [_, _] _ _ _ _
  refine xt_lload_n _ dJ13_bitCount_95d88_24 rfl ?_
  refine xt_lload_n _ dJ13_bitCount_95d88_25 rfl ?_
  refine xt_iconst (4) dJ13_bitCount_95d88_26 (by decide) ?_
  refine xt_lushr dJ13_bitCount_95d88_27 ?_
  refine xt_ladd dJ13_bitCount_95d88_28 ?_
  refine xt_ldc2 _ dJ13_bitCount_95d88_29 kkJ13_318 ?_
  refine xt_land dJ13_bitCount_95d88_32 ?_
  rw [e3]
  refine xt_lstore_n dJ13_bitCount_95d88_33 (by decide) rfl ?_
  change x_T _ _ _ _ [_, _] _ _ _ _
  refine xt_lload_n _ dJ13_bitCount_95d88_34 rfl ?_
  refine xt_lload_n _ dJ13_bitCount_95d88_35 rfl ?_
  refine xt_bipush (8) dJ13_bitCount_95d88_36 (by decide) ?_
  refine xt_lushr dJ13_bitCount_95d88_38 ?_
  refine xt_ladd dJ13_bitCount_95d88_39 ?_
  rw [e4]
  refine xt_lstore_n dJ13_bitCount_95d88_40 (by decide) rfl ?_
  change x_T _ _ _ _ [_, _] _ _ _ _
  refine xt_lload_n _ dJ13_bitCount_95d88_41 rfl ?_
  refine xt_lload_n _ dJ13_bitCount_95d88_42 rfl ?_
  refine xt_bipush (16) dJ13_bitCount_95d88_43 (by decide) ?_
  refine xt_lushr dJ13_bitCount_95d88_45 ?_
  refine xt_ladd dJ13_bitCount_95d88_46 ?_
  rw [e5]
  refine xt_lstore_n dJ13_bitCount_95d88_47 (by decide) rfl ?_
  change x_T _ _ _ _ [_, _] _ _ _ _
  refine xt_lload_n _ dJ13_bitCount_95d88_48 rfl ?_
  refine xt_lload_n _ dJ13_bitCount_95d88_49 rfl ?_
  refine xt_bipush (32) dJ13_bitCount_95d88_50 (by decide) ?_
  refine xt_lushr dJ13_bitCount_95d88_52 ?_
  refine xt_ladd dJ13_bitCount_95d88_53 ?_
  rw [e6]
  refine xt_lstore_n dJ13_bitCount_95d88_54 (by decide) rfl ?_
  change x_T _ _ _ _ [_, _] _ _ _ _
  refine xt_lload_n _ dJ13_bitCount_95d88_55 rfl ?_
  refine xt_l2i dJ13_bitCount_95d88_56 ?_
  refine xt_bipush (127) dJ13_bitCount_95d88_57 (by decide) ?_
  refine xt_iand dJ13_bitCount_95d88_59 ?_
  exact xt_iret .int dJ13_bitCount_95d88_60 rfl (by first | rfl | assumption) ⟨by rw [e7, lN_i, show (127 : Int32) = nI (2 ^ 7 - 1) from rfl, s_mask], rfl, rfl⟩
end LONGS
