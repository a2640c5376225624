/-! ===== lN n to 2^64: shifts, and, or, masks, one bit ===== -/
theorem wb_tb (n : Nat) : (lN n).toBitVec = BitVec.ofNat 64 n := rfl
theorem wb_inj {a b : Int64} (h : a.toBitVec = b.toBitVec) : a = b := Int64.toBitVec_inj.mp h
theorem wb_tn {n : Nat} (h : n < 2 ^ 64) : (lN n).toBitVec.toNat = n := by rw [wb_tb, BitVec.toNat_ofNat, Nat.mod_eq_of_lt h]
theorem wb_of (x : Int64) : ∃ n, n < 2 ^ 64 ∧ x = lN n := ⟨x.toBitVec.toNat, x.toBitVec.isLt, wb_inj (by rw [wb_tb]; simp)⟩
theorem wb_of32 (x : Int32) : ∃ n, n < 2 ^ 32 ∧ x = nI n := ⟨x.toBitVec.toNat, x.toBitVec.isLt, Int32.toBitVec_inj.mp (by show _ = BitVec.ofNat 32 _; simp)⟩
theorem wb_c : ∀ k, k < 64 → ((nI k).toInt64 &&& 63) = lN k := by decide +kernel
theorem wb_cu : ∀ k, k < 64 → ((nI k).toInt64.toUInt64 &&& Int64.toUInt64 63) = UInt64.ofNat k := by decide +kernel
theorem wb_sm : ∀ k, k < 64 → (BitVec.ofNat 64 k).smod 64 = BitVec.ofNat 64 k := by decide +kernel
theorem wb_pw {a b : Nat} (h : a ≤ b) : 2 ^ b = 2 ^ a * 2 ^ (b - a) := by rw [← Nat.pow_add]; congr 1; omega
theorem wb_lt2 {a b : Nat} (h : a < b) : 2 ^ a < 2 ^ b := Nat.pow_lt_pow_right (by decide) h
theorem wb_mod (n : Nat) : lN n = lN (n % 2 ^ 64) := wb_inj (by rw [wb_tb, wb_tb]; apply BitVec.eq_of_toNat_eq; rw [BitVec.toNat_ofNat, BitVec.toNat_ofNat, Nat.mod_mod])
theorem wb_shr {n k : Nat} (hn : n < 2 ^ 64) (hk : k < 64) : ((lN n).toUInt64 >>> ((nI k).toInt64.toUInt64 &&& Int64.toUInt64 63)).toInt64 = lN (n / 2 ^ k) := by
  rw [wb_cu k hk]
  apply wb_inj
  apply BitVec.eq_of_toNat_eq
  show ((lN n).toUInt64 >>> UInt64.ofNat k).toNat = (BitVec.ofNat 64 _).toNat
  have h1 : (UInt64.ofNat k).toNat = k := by
    show (BitVec.ofNat 64 k).toNat = k
    rw [BitVec.toNat_ofNat, Nat.mod_eq_of_lt (by omega)]
  have h2 : (lN n).toUInt64.toNat = n := wb_tn hn
  rw [UInt64.toNat_shiftRight, h1, h2, Nat.mod_eq_of_lt hk, Nat.shiftRight_eq_div_pow, BitVec.toNat_ofNat, Nat.mod_eq_of_lt (Nat.lt_of_le_of_lt (Nat.div_le_self _ _) hn)]
theorem wb_shl (n : Nat) {k : Nat} (hk : k < 64) : lN n <<< ((nI k).toInt64 &&& 63) = lN (n * 2 ^ k) := by
  rw [wb_c k hk]
  apply wb_inj
  rw [Int64.toBitVec_shiftLeft, wb_tb, wb_tb, wb_tb, wb_sm k hk]
  apply BitVec.eq_of_toNat_eq
  rw [BitVec.shiftLeft_eq', BitVec.toNat_shiftLeft, BitVec.toNat_ofNat, BitVec.toNat_ofNat, BitVec.toNat_ofNat, Nat.mod_eq_of_lt (show k < 2 ^ 64 by omega), Nat.shiftLeft_eq, Nat.mul_mod, Nat.mod_mod, ← Nat.mul_mod]
theorem wb_and {a b : Nat} (ha : a < 2 ^ 64) (hb : b < 2 ^ 64) : lN a &&& lN b = lN (a &&& b) := by
  apply wb_inj
  rw [Int64.toBitVec_and, wb_tb, wb_tb, wb_tb]
  apply BitVec.eq_of_toNat_eq
  rw [BitVec.toNat_and, BitVec.toNat_ofNat, BitVec.toNat_ofNat, BitVec.toNat_ofNat, Nat.mod_eq_of_lt ha, Nat.mod_eq_of_lt hb, Nat.mod_eq_of_lt (Nat.and_lt_two_pow _ hb)]
theorem wb_or {a b : Nat} (ha : a < 2 ^ 64) (hb : b < 2 ^ 64) : lN a ||| lN b = lN (a ||| b) := by
  apply wb_inj
  rw [Int64.toBitVec_or, wb_tb, wb_tb, wb_tb]
  apply BitVec.eq_of_toNat_eq
  rw [BitVec.toNat_or, BitVec.toNat_ofNat, BitVec.toNat_ofNat, BitVec.toNat_ofNat, Nat.mod_eq_of_lt ha, Nat.mod_eq_of_lt hb, Nat.mod_eq_of_lt (Nat.or_lt_two_pow ha hb)]
theorem wb_mask {n k : Nat} (hn : n < 2 ^ 64) (hk : k < 64) : lN n &&& lN (2 ^ k - 1) = lN (n % 2 ^ k) := by
  rw [wb_and hn (by have := wb_lt2 hk; omega), Nat.and_two_pow_sub_one_eq_mod]
theorem wb_a1 {n : Nat} (hn : n < 2 ^ 64) : lN n &&& 1 = lN (n % 2) := wb_mask (k := 1) hn (by decide)
theorem wb_bit {n k : Nat} (hn : n < 2 ^ 64) (hk : k < 64) : ((lN n).toUInt64 >>> ((nI k).toInt64.toUInt64 &&& Int64.toUInt64 63)).toInt64 &&& 1 = lN (n / 2 ^ k % 2) := by
  rw [wb_shr hn hk, wb_a1 (Nat.lt_of_le_of_lt (Nat.div_le_self _ _) hn)]
theorem wb_xor {q k : Nat} (hk : k < 63) (h : 2 ^ k ≤ q) (h2 : q < 2 ^ (k + 1)) : lN q ^^^ lN (2 ^ k) = lN (q - 2 ^ k) := by
  obtain ⟨r, rfl⟩ : ∃ r, q = 2 ^ k + r := ⟨q - 2 ^ k, by omega⟩
  have hr : r < 2 ^ k := by rw [Nat.pow_succ] at h2; omega
  have hx : (2 ^ k + r) ^^^ 2 ^ k = r := by
    apply Nat.eq_of_testBit_eq
    intro i
    rw [Nat.testBit_xor, Nat.testBit_two_pow]
    rcases Nat.lt_trichotomy i k with h | h | h
    · rw [Nat.testBit_two_pow_add_gt h]
      simp [show ¬ k = i by omega]
    · subst h
      rw [Nat.testBit_two_pow_add_eq]
      simp
    · have a1 : 2 ^ (k + 1) ≤ 2 ^ i := Nat.pow_le_pow_right (by decide) h
      rw [Nat.testBit_lt_two_pow (show 2 ^ k + r < 2 ^ i by omega), Nat.testBit_lt_two_pow (show r < 2 ^ i by omega)]
      simp [show ¬ k = i by omega]
  have b1 := wb_lt2 (show k + 1 < 64 by omega)
  have b2 := wb_lt2 (show k < 64 by omega)
  apply wb_inj
  rw [Int64.toBitVec_xor, wb_tb, wb_tb, wb_tb]
  apply BitVec.eq_of_toNat_eq
  rw [BitVec.toNat_xor, BitVec.toNat_ofNat, BitVec.toNat_ofNat, BitVec.toNat_ofNat, Nat.mod_eq_of_lt (by omega : 2 ^ k + r < 2 ^ 64), Nat.mod_eq_of_lt b2, hx, Nat.add_sub_cancel_left, Nat.mod_eq_of_lt (by omega)]
-- ints
theorem nb_tb (n : Nat) : (nI n).toBitVec = BitVec.ofNat 32 n := rfl
theorem nb_inj {a b : Int32} (h : a.toBitVec = b.toBitVec) : a = b := Int32.toBitVec_inj.mp h
theorem nb_mod (n : Nat) : nI n = nI (n % 2 ^ 32) := nb_inj (by rw [nb_tb, nb_tb]; apply BitVec.eq_of_toNat_eq; rw [BitVec.toNat_ofNat, BitVec.toNat_ofNat, Nat.mod_mod])
theorem nb_and {a b : Nat} (ha : a < 2 ^ 32) (hb : b < 2 ^ 32) : nI a &&& nI b = nI (a &&& b) := by
  apply nb_inj
  rw [Int32.toBitVec_and, nb_tb, nb_tb, nb_tb]
  apply BitVec.eq_of_toNat_eq
  rw [BitVec.toNat_and, BitVec.toNat_ofNat, BitVec.toNat_ofNat, BitVec.toNat_ofNat, Nat.mod_eq_of_lt ha, Nat.mod_eq_of_lt hb, Nat.mod_eq_of_lt (Nat.lt_of_le_of_lt Nat.and_le_left ha)]
theorem nb_or {a b : Nat} (ha : a < 2 ^ 32) (hb : b < 2 ^ 32) : nI a ||| nI b = nI (a ||| b) := by
  apply nb_inj
  rw [Int32.toBitVec_or, nb_tb, nb_tb, nb_tb]
  apply BitVec.eq_of_toNat_eq
  rw [BitVec.toNat_or, BitVec.toNat_ofNat, BitVec.toNat_ofNat, BitVec.toNat_ofNat, Nat.mod_eq_of_lt ha, Nat.mod_eq_of_lt hb, Nat.mod_eq_of_lt (Nat.or_lt_two_pow ha hb)]
theorem nb_c : ∀ k, k < 32 → ((nI k &&& 31).toBitVec.smod 32).toNat = k := by decide +kernel
theorem nb_cu : ∀ k, k < 32 → (((nI k).toUInt32 &&& Int32.toUInt32 31).toBitVec % 32).toNat = k := by decide +kernel
theorem nb_shl {n k : Nat} (hk : k < 32) (h : n * 2 ^ k < 2 ^ 32) : nI n <<< (nI k &&& 31) = nI (n * 2 ^ k) := pk_shlN _ k (nb_c k hk) h
theorem nb_shr {n k : Nat} (hk : k < 32) (h : n < 2 ^ 31) : nI n >>> (nI k &&& 31) = nI (n / 2 ^ k) := pk_shrN h _ k (nb_c k hk)
theorem nb_ushr {n k : Nat} (hk : k < 32) (h : n < 2 ^ 32) : ((nI n).toUInt32 >>> ((nI k).toUInt32 &&& Int32.toUInt32 31)).toInt32 = nI (n / 2 ^ k) := pk_ushrN h _ k (nb_cu k hk)
-- longs
theorem lb_xor {a b : Nat} (ha : a < 2 ^ 64) (hb : b < 2 ^ 64) : lN a ^^^ lN b = lN (a ^^^ b) := by
  apply wb_inj
  rw [Int64.toBitVec_xor, wb_tb, wb_tb, wb_tb]
  apply BitVec.eq_of_toNat_eq
  rw [BitVec.toNat_xor, BitVec.toNat_ofNat, BitVec.toNat_ofNat, BitVec.toNat_ofNat, Nat.mod_eq_of_lt ha, Nat.mod_eq_of_lt hb, Nat.mod_eq_of_lt (Nat.xor_lt_two_pow ha hb)]
theorem lb_neg {n : Nat} (hn : n ≤ 2 ^ 64) : -(lN n) = lN (2 ^ 64 - n) := by
  apply wb_inj
  rw [Int64.toBitVec_neg, wb_tb, wb_tb]
  apply BitVec.eq_of_toNat_eq
  rw [BitVec.toNat_neg, BitVec.toNat_ofNat, BitVec.toNat_ofNat]
  rcases Nat.lt_or_ge n (2 ^ 64) with h | h
  · rw [Nat.mod_eq_of_lt h]
  · have : n = 2 ^ 64 := by omega
    subst this
    decide
theorem lb_cs : ∀ k, k < 64 → ((((nI k).toInt64 &&& 63).toBitVec).smod 64).toNat = k := by decide +kernel
theorem lb_eq {a b : Nat} (ha : a < 2 ^ 64) (hb : b < 2 ^ 64) : lN a = lN b ↔ a = b := by
  constructor
  · intro h
    have := congrArg (fun x : Int64 => x.toBitVec.toNat) h
    simpa [wb_tn ha, wb_tn hb] using this
  · rintro rfl; rfl
-- the count of ones
def popk : Nat → Nat → Nat
  | 0, _ => 0
  | k + 1, x => x % 2 + popk k (x / 2)
def m1k : Nat → Nat
  | 0 => 0
  | k + 1 => 4 * m1k k + 1
def m2k : Nat → Nat
  | 0 => 0
  | k + 1 => 16 * m2k k + 3
def m4k : Nat → Nat
  | 0 => 0
  | k + 1 => 256 * m4k k + 15
theorem and_dig (s x y : Nat) : x &&& y = 2 ^ s * ((x / 2 ^ s) &&& (y / 2 ^ s)) + ((x % 2 ^ s) &&& (y % 2 ^ s)) := by
  rw [← Nat.and_div_two_pow, ← Nat.and_mod_two_pow, Nat.div_add_mod]
def D1k (k x : Nat) : Nat := x - ((x / 2) &&& m1k k)
theorem D1k_s (k x : Nat) : D1k (k + 1) x = 4 * D1k k (x / 4) + (x % 2 + x / 2 % 2) := by
  unfold D1k
  have h : (x / 2) &&& m1k (k + 1) = 4 * ((x / 4 / 2) &&& m1k k) + x / 2 % 2 := by
    rw [and_dig 2 (x / 2) (m1k (k + 1))]
    have e1 : m1k (k + 1) / 2 ^ 2 = m1k k := by simp only [m1k]; omega
    have e2 : m1k (k + 1) % 2 ^ 2 = 2 ^ 1 - 1 := by simp only [m1k]; omega
    have e3 : x / 2 / 2 ^ 2 = x / 4 / 2 := by omega
    rw [e1, e2, e3, Nat.and_two_pow_sub_one_eq_mod]
    omega
  have h2 : (x / 4 / 2) &&& m1k k ≤ x / 4 / 2 := Nat.and_le_left
  rw [h]
  omega
def E2k (k y : Nat) : Nat := (y &&& m2k k) + ((y / 4) &&& m2k k)
theorem dv (B A d : Nat) (h : d < B) : (B * A + d) / B = A := by
  rw [Nat.add_comm, Nat.add_mul_div_left _ _ (by omega), Nat.div_eq_of_lt h, Nat.zero_add]
theorem md (B A d : Nat) (h : d < B) : (B * A + d) % B = d := by
  rw [Nat.mul_add_mod, Nat.mod_eq_of_lt h]
theorem E2k_s (k q c1 c0 : Nat) (h1 : c1 < 4) (h0 : c0 < 4) : E2k (k + 1) (16 * q + (4 * c1 + c0)) = 16 * E2k k q + (c0 + c1) := by
  unfold E2k
  have e1 : m2k (k + 1) / 2 ^ 4 = m2k k := dv 16 (m2k k) 3 (by decide)
  have e2 : m2k (k + 1) % 2 ^ 4 = 2 ^ 2 - 1 := md 16 (m2k k) 3 (by decide)
  have y1 : (16 * q + (4 * c1 + c0)) / 2 ^ 4 = q := dv 16 q _ (by omega)
  have y2 : (16 * q + (4 * c1 + c0)) % 2 ^ 4 = 4 * c1 + c0 := md 16 q _ (by omega)
  have y3 : (16 * q + (4 * c1 + c0)) / 4 = 4 * q + c1 := by omega
  have y4 : (4 * q + c1) / 2 ^ 4 = q / 4 := by show (4 * q + c1) / 16 = q / 4; omega
  have y5 : (4 * q + c1) % 2 ^ 4 % 2 ^ 2 = c1 := by show (4 * q + c1) % 16 % 4 = c1; omega
  have y6 : (4 * c1 + c0) % 2 ^ 2 = c0 := by show (4 * c1 + c0) % 4 = c0; omega
  rw [y3, and_dig 4 _ (m2k (k + 1)), and_dig 4 (4 * q + c1) (m2k (k + 1)), e1, e2, Nat.and_two_pow_sub_one_eq_mod, Nat.and_two_pow_sub_one_eq_mod, y1, y2, y4, y5, y6]
  show 16 * _ + _ + (16 * _ + _) = _
  omega
def H4k (k z : Nat) : Nat := (z + z / 16) &&& m4k k
theorem H4k_s (k q a b : Nat) (ha : a ≤ 4) (hb : b ≤ 4) (hq : q % 16 ≤ 4) : H4k (k + 1) (256 * q + (16 * a + b)) = 256 * H4k k q + (b + a) := by
  unfold H4k
  have e1 : m4k (k + 1) / 2 ^ 8 = m4k k := dv 256 (m4k k) 15 (by decide)
  have e2 : m4k (k + 1) % 2 ^ 8 = 2 ^ 4 - 1 := md 256 (m4k k) 15 (by decide)
  have y1 : (256 * q + (16 * a + b)) / 16 = 16 * q + a := by omega
  have y0 : q = 16 * (q / 16) + q % 16 := by omega
  generalize q / 16 = u at y0
  generalize q % 16 = v at y0 hq
  have y2 : (256 * q + (16 * a + b) + (16 * q + a)) / 2 ^ 8 = q + u := by show _ / 256 = _; omega
  have y3 : (256 * q + (16 * a + b) + (16 * q + a)) % 2 ^ 8 % 2 ^ 4 = b + a := by show _ % 256 % 16 = _; omega
  have y4 : q / 16 = u := by omega
  rw [y1, and_dig 8 _ (m4k (k + 1)), e1, e2, Nat.and_two_pow_sub_one_eq_mod, y2, y3]
/-- the ones of 4 and of 8 bits -/
def b4k (x : Nat) : Nat := x % 2 + x / 2 % 2 + (x / 4 % 2 + x / 8 % 2)
theorem b4k_le (x : Nat) : b4k x ≤ 4 := by unfold b4k; omega
theorem ED (k x : Nat) : E2k (k + 1) (D1k (2 * k + 2) x) = 16 * E2k k (D1k (2 * k) (x / 16)) + b4k x := by
  have h1 : D1k (2 * k + 2) x = 4 * D1k (2 * k + 1) (x / 4) + (x % 2 + x / 2 % 2) := D1k_s (2 * k + 1) x
  have h2 : D1k (2 * k + 1) (x / 4) = 4 * D1k (2 * k) (x / 16) + (x / 4 % 2 + x / 8 % 2) := by
    have q := D1k_s (2 * k) (x / 4)
    have e : x / 4 / 4 = x / 16 := by omega
    have e' : x / 4 / 2 = x / 8 := by omega
    rw [e, e'] at q
    exact q
  have e3 : D1k (2 * k + 2) x = 16 * D1k (2 * k) (x / 16) + (4 * (x / 4 % 2 + x / 8 % 2) + (x % 2 + x / 2 % 2)) := by rw [h1, h2]; omega
  rw [e3, E2k_s _ _ _ _ (by omega) (by omega)]
  rfl
theorem ED_lt (k x : Nat) : E2k k (D1k (2 * k) x) % 16 ≤ 4 := by
  cases k with
  | zero => simp [E2k, m2k]
  | succ k =>
    have q := ED k x
    have e : 2 * (k + 1) = 2 * k + 2 := by omega
    have b := b4k_le x
    rw [e, q, md 16 _ _ (by omega)]
    exact b
def W8k (k x : Nat) : Nat := H4k k (E2k (2 * k) (D1k (4 * k) x))
theorem W8k_s (k x : Nat) : W8k (k + 1) x = 256 * W8k k (x / 256) + (b4k x + b4k (x / 16)) := by
  unfold W8k
  have h1 := ED (2 * k + 1) x
  have h2 := ED (2 * k) (x / 16)
  have e1 : 2 * (2 * k + 1) + 2 = 4 * (k + 1) := by omega
  have e2 : 2 * k + 1 + 1 = 2 * (k + 1) := by omega
  have e3 : 2 * (2 * k + 1) = 4 * k + 2 := by omega
  have e4 : 2 * (2 * k) + 2 = 4 * k + 2 := by omega
  have e5 : 2 * (2 * k) = 4 * k := by omega
  have e6 : x / 16 / 16 = x / 256 := by omega
  rw [e1, e2, e3] at h1
  rw [e4, e5, e6] at h2
  have b1 := b4k_le x
  have b2 := b4k_le (x / 16)
  have b3 := ED_lt (2 * k) (x / 256)
  rw [e5] at b3
  rw [h1, h2]
  have e7 : 16 * (16 * E2k (2 * k) (D1k (4 * k) (x / 256)) + b4k (x / 16)) + b4k x = 256 * E2k (2 * k) (D1k (4 * k) (x / 256)) + (16 * b4k (x / 16) + b4k x) := by omega
  rw [e7, H4k_s k _ _ _ b2 b1 b3]
def b8k (x : Nat) : Nat := b4k x + b4k (x / 16)
theorem b8k_le (x : Nat) : b8k x ≤ 8 := by
  have h1 := b4k_le x
  have h2 := b4k_le (x / 16)
  unfold b8k
  omega
theorem popk_8 (k x : Nat) : popk (k + 8) x = b8k x + popk k (x / 256) := by
  have a1 : x / 2 / 2 = x / 4 := by omega
  have a2 : x / 4 / 2 = x / 8 := by omega
  have a3 : x / 8 / 2 = x / 16 := by omega
  have a4 : x / 16 / 2 = x / 32 := by omega
  have a5 : x / 32 / 2 = x / 64 := by omega
  have a6 : x / 64 / 2 = x / 128 := by omega
  have a7 : x / 128 / 2 = x / 256 := by omega
  have a8 : x / 16 / 4 = x / 64 := by omega
  have a9 : x / 16 / 8 = x / 128 := by omega
  simp only [popk, b8k, b4k, a1, a2, a3, a4, a5, a6, a7, a8, a9]
  generalize popk k (x / 256) = z
  generalize x % 2 = c0
  generalize x / 2 % 2 = c1
  generalize x / 4 % 2 = c2
  generalize x / 8 % 2 = c3
  generalize x / 16 % 2 = c4
  generalize x / 32 % 2 = c5
  generalize x / 64 % 2 = c6
  generalize x / 128 % 2 = c7
  omega
theorem m4k_8 : m4k 8 < 2 ^ 60 := by
  simp only [m4k]
  omega
theorem ps_1 (W1 W2 W3 d0 d1 d2 w : Nat) (hw : w = 256 * W1 + d0) (w1 : W1 = 256 * W2 + d1) (w2 : W2 = 256 * W3 + d2) (l0 : d0 ≤ 8) : w + w / 2 ^ 8 = 65536 * (W2 + W3) + (256 * (d1 + d2) + (d0 + d1)) := by
  have q1 : w / 2 ^ 8 = W1 := by rw [hw]; exact dv 256 _ _ (by omega)
  rw [q1]
  omega
theorem ps_2 (W2 W3 W4 W5 d2 d3 d4 : Nat) (w2 : W2 = 256 * W3 + d2) (w3 : W3 = 256 * W4 + d3) (w4 : W4 = 256 * W5 + d4) : W2 + W3 = 65536 * (W4 + W5) + (256 * (d3 + d4) + (d2 + d3)) := by omega
theorem ps_3 (t1 U2 U4 U6 c0 c2 c4 : Nat) (h1 : t1 = 65536 * U2 + c0) (h2 : U2 = 65536 * U4 + c2) (h4 : U4 = 65536 * U6 + c4) (l0 : c0 ≤ 9000) (l2 : c2 ≤ 9000) (l4 : c4 ≤ 9000) : t1 / 2 ^ 16 = U2 ∧ (t1 + U2) / 2 ^ 32 = U4 + U6 ∧ t1 + U2 + (U4 + U6) = 65536 * (U2 + U4 + U6) + (c0 + c2 + c4 + U6) := by
  refine ⟨by rw [h1]; exact dv 65536 _ _ (by omega), ?_, by omega⟩
  have e : t1 + U2 = 4294967296 * (U4 + U6) + (65536 * (c2 + c4) + (c0 + c2)) := by omega
  rw [e]
  exact dv 4294967296 _ _ (by omega)
theorem ps_4 (X U6 d0 d1 d2 d3 d4 d5 d6 d7 : Nat) (u6 : U6 = 256 * d7 + (d6 + d7)) (l0 : d0 ≤ 8) (l1 : d1 ≤ 8) (l2 : d2 ≤ 8) (l3 : d3 ≤ 8) (l4 : d4 ≤ 8) (l5 : d5 ≤ 8) (l6 : d6 ≤ 8) (l7 : d7 ≤ 8) : (65536 * X + (256 * (d1 + d2) + (d0 + d1) + (256 * (d3 + d4) + (d2 + d3)) + (256 * (d5 + d6) + (d4 + d5)) + U6)) % 128 = d0 + (d1 + (d2 + (d3 + (d4 + (d5 + (d6 + d7)))))) := by
  have e : 65536 * X + (256 * (d1 + d2) + (d0 + d1) + (256 * (d3 + d4) + (d2 + d3)) + (256 * (d5 + d6) + (d4 + d5)) + U6) = 128 * (512 * X + 2 * (d1 + d2) + 2 * (d3 + d4) + 2 * (d5 + d6) + 2 * d7) + (d0 + (d1 + (d2 + (d3 + (d4 + (d5 + (d6 + d7))))))) := by
    clear l0 l1 l2 l3 l4 l5 l6 l7
    omega
  rw [e]
  exact md 128 _ _ (by omega)
theorem pop_sum (d0 d1 d2 d3 d4 d5 d6 d7 w : Nat) (l0 : d0 ≤ 8) (l1 : d1 ≤ 8) (l2 : d2 ≤ 8) (l3 : d3 ≤ 8) (l4 : d4 ≤ 8) (l5 : d5 ≤ 8) (l6 : d6 ≤ 8) (l7 : d7 ≤ 8) (W1 W2 W3 W4 W5 W6 : Nat) (hw : w = 256 * W1 + d0) (w1 : W1 = 256 * W2 + d1) (w2 : W2 = 256 * W3 + d2) (w3 : W3 = 256 * W4 + d3) (w4 : W4 = 256 * W5 + d4) (w5 : W5 = 256 * W6 + d5) (w6 : W6 = 256 * d7 + d6) (t1 t2 t3 : Nat) (h1 : t1 = w + w / 2 ^ 8) (h2 : t2 = t1 + t1 / 2 ^ 16) (h3 : t3 = t2 + t2 / 2 ^ 32) : t3 % 128 = d0 + (d1 + (d2 + (d3 + (d4 + (d5 + (d6 + d7)))))) := by
  have a1 := ps_1 W1 W2 W3 d0 d1 d2 w hw w1 w2 l0
  have a2 := ps_2 W2 W3 W4 W5 d2 d3 d4 w2 w3 w4
  have a3 := ps_2 W4 W5 W6 d7 d4 d5 d6 w4 w5 w6
  have u6 : W6 + d7 = 256 * d7 + (d6 + d7) := by rw [w6]; omega
  have b0 : 256 * (d1 + d2) + (d0 + d1) ≤ 9000 := by clear a1 a2 a3 u6 hw w1 w2 w3 w4 w5 w6 h1 h2 h3; omega
  have b2 : 256 * (d3 + d4) + (d2 + d3) ≤ 9000 := by clear a1 a2 a3 u6 hw w1 w2 w3 w4 w5 w6 h1 h2 h3; omega
  have b4 : 256 * (d5 + d6) + (d4 + d5) ≤ 9000 := by clear a1 a2 a3 u6 hw w1 w2 w3 w4 w5 w6 h1 h2 h3; omega
  obtain ⟨c1, c2, c3⟩ := ps_3 t1 (W2 + W3) (W4 + W5) (W6 + d7) _ _ _ (h1.trans a1) a2 a3 b0 b2 b4
  rw [c1] at h2
  rw [h2, c2, c3] at h3
  rw [h3]
  exact ps_4 _ _ d0 d1 d2 d3 d4 d5 d6 d7 u6 l0 l1 l2 l3 l4 l5 l6 l7
theorem pop64 (x : Nat) (t1 t2 t3 : Nat) (h1 : t1 = W8k 8 x + W8k 8 x / 2 ^ 8) (h2 : t2 = t1 + t1 / 2 ^ 16) (h3 : t3 = t2 + t2 / 2 ^ 32) : t3 % 128 = popk 64 x ∧ W8k 8 x < 2 ^ 60 := by
  have e : popk 64 x = b8k x + (b8k (x / 256) + (b8k (x / 256 / 256) + (b8k (x / 256 / 256 / 256) + (b8k (x / 256 / 256 / 256 / 256) + (b8k (x / 256 / 256 / 256 / 256 / 256) + (b8k (x / 256 / 256 / 256 / 256 / 256 / 256) + (b8k (x / 256 / 256 / 256 / 256 / 256 / 256 / 256)))))))) := by
    rw [popk_8 56, popk_8 48, popk_8 40, popk_8 32, popk_8 24, popk_8 16, popk_8 8, popk_8 0]
    rfl
  have e0 : W8k 0 (x / 256 / 256 / 256 / 256 / 256 / 256 / 256 / 256) = 0 := by simp [W8k, H4k, m4k]
  rw [e]
  refine ⟨?_, Nat.lt_of_le_of_lt (show H4k 8 _ ≤ m4k 8 from Nat.and_le_right) m4k_8⟩
  have k0 : W8k 1 (x / 256 / 256 / 256 / 256 / 256 / 256 / 256) = b8k (x / 256 / 256 / 256 / 256 / 256 / 256 / 256) := by
    have q : W8k 1 (x / 256 / 256 / 256 / 256 / 256 / 256 / 256) = 256 * W8k 0 (x / 256 / 256 / 256 / 256 / 256 / 256 / 256 / 256) + b8k (x / 256 / 256 / 256 / 256 / 256 / 256 / 256) := W8k_s 0 _
    rw [e0] at q
    omega
  have k1 : W8k 2 (x / 256 / 256 / 256 / 256 / 256 / 256) = _ := W8k_s 1 _
  have k2 : W8k 3 (x / 256 / 256 / 256 / 256 / 256) = _ := W8k_s 2 _
  have k3 : W8k 4 (x / 256 / 256 / 256 / 256) = _ := W8k_s 3 _
  have k4 : W8k 5 (x / 256 / 256 / 256) = _ := W8k_s 4 _
  have k5 : W8k 6 (x / 256 / 256) = _ := W8k_s 5 _
  have k6 : W8k 7 (x / 256) = _ := W8k_s 6 _
  have k7 : W8k 8 x = _ := W8k_s 7 _
  rw [k0] at k1
  exact pop_sum _ _ _ _ _ _ _ _ _ (b8k_le _) (b8k_le _) (b8k_le _) (b8k_le _) (b8k_le _) (b8k_le _) (b8k_le _) (b8k_le _) _ _ _ _ _ _ k7 k6 k5 k4 k3 k2 k1 t1 t2 t3 h1 h2 h3
theorem pop32 (x : Nat) (t1 t2 : Nat) (h1 : t1 = W8k 4 x + W8k 4 x / 2 ^ 8) (h2 : t2 = t1 + t1 / 2 ^ 16) : t2 % 64 = popk 32 x % 64 ∧ W8k 4 x < 2 ^ 30 ∧ t1 < 2 ^ 30 ∧ t2 < 2 ^ 30 := by
  have e : popk 32 x = b8k x + (b8k (x / 256) + (b8k (x / 256 / 256) + (b8k (x / 256 / 256 / 256)))) := by
    rw [popk_8 24, popk_8 16, popk_8 8, popk_8 0]
    rfl
  have e0 : W8k 0 (x / 256 / 256 / 256 / 256) = 0 := by simp [W8k, H4k, m4k]
  have k0 : W8k 1 (x / 256 / 256 / 256) = b8k (x / 256 / 256 / 256) := by
    have q : W8k 1 (x / 256 / 256 / 256) = 256 * W8k 0 (x / 256 / 256 / 256 / 256) + b8k (x / 256 / 256 / 256) := W8k_s 0 _
    rw [e0] at q
    omega
  have k1 : W8k 2 (x / 256 / 256) = 256 * W8k 1 (x / 256 / 256 / 256) + b8k (x / 256 / 256) := W8k_s 1 _
  have k2 : W8k 3 (x / 256) = 256 * W8k 2 (x / 256 / 256) + b8k (x / 256) := W8k_s 2 _
  have k3 : W8k 4 x = 256 * W8k 3 (x / 256) + b8k x := W8k_s 3 _
  have l0 := b8k_le x
  have l1 := b8k_le (x / 256)
  have l2 := b8k_le (x / 256 / 256)
  have l3 := b8k_le (x / 256 / 256 / 256)
  rw [e]
  rw [k0] at k1
  clear e e0 k0
  generalize b8k (x / 256 / 256 / 256) = d3 at *
  generalize b8k (x / 256 / 256) = d2 at *
  generalize b8k (x / 256) = d1 at *
  generalize b8k x = d0 at *
  generalize W8k 2 (x / 256 / 256) = W2 at *
  generalize W8k 3 (x / 256) = W1 at *
  generalize W8k 4 x = w at *
  have q1 : w / 2 ^ 8 = W1 := by rw [k3]; exact dv 256 _ _ (by omega)
  rw [q1] at h1
  obtain ⟨U2, u2⟩ : ∃ y, y = W2 + d3 := ⟨_, rfl⟩
  have f1 : t1 = 256 * (W1 + W2) + (d1 + d0) := by omega
  have f3 : W1 + W2 = 256 * U2 + (d1 + d2) := by omega
  have q2 : t1 / 2 ^ 16 = U2 := by
    have : t1 = 65536 * U2 + (256 * (d1 + d2) + (d1 + d0)) := by omega
    rw [this]; exact dv 65536 _ _ (by omega)
  rw [q2] at h2
  refine ⟨?_, by omega, by omega, by omega⟩
  have f2 : t2 = 64 * (4 * (W1 + W2) + 4 * d3) + (d0 + (d1 + (d2 + d3))) := by omega
  rw [f2, Nat.mul_add_mod]
