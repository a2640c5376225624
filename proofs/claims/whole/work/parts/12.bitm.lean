-- the JDK's counts of ones; cells of masks
theorem m1k_32 : m1k 32 = 6148914691236517205 := by decide +kernel
theorem m2k_16 : m2k 16 = 3689348814741910323 := by decide +kernel
theorem m4k_8v : m4k 8 = 1085102592571150095 := by decide +kernel
theorem m1k_16 : m1k 16 = 1431655765 := by decide +kernel
theorem m2k_8 : m2k 8 = 858993459 := by decide +kernel
theorem m4k_4 : m4k 4 = 252645135 := by decide +kernel
theorem bc_1 {n : Nat} (hn : n < 2 ^ 64) : lN n - (((lN n).toUInt64 >>> ((nI 1).toInt64.toUInt64 &&& Int64.toUInt64 63)).toInt64 &&& 6148914691236517205) = lN (D1k 32 n) := by
  rw [wb_shr hn (by decide), show (6148914691236517205 : Int64) = lN (m1k 32) by rw [m1k_32]; rfl, wb_and (by omega) (by rw [m1k_32]; decide), lN_sub (Nat.le_trans Nat.and_le_left (by omega))]
  rfl
theorem D1k_le (k x : Nat) : D1k k x ≤ x := Nat.sub_le _ _
theorem bc_2 {n : Nat} (hn : n < 2 ^ 64) : (lN n &&& 3689348814741910323) + (((lN n).toUInt64 >>> ((nI 2).toInt64.toUInt64 &&& Int64.toUInt64 63)).toInt64 &&& 3689348814741910323) = lN (E2k 16 n) := by
  rw [wb_shr hn (by decide), show (3689348814741910323 : Int64) = lN (m2k 16) by rw [m2k_16]; rfl, wb_and hn (by rw [m2k_16]; decide), wb_and (by omega) (by rw [m2k_16]; decide), lN_add]
  rfl
theorem E2k_lt (x : Nat) : E2k 16 x < 2 ^ 63 := by
  have h1 : (x &&& m2k 16) ≤ m2k 16 := Nat.and_le_right
  have h2 : ((x / 4) &&& m2k 16) ≤ m2k 16 := Nat.and_le_right
  rw [m2k_16] at h1 h2
  unfold E2k
  rw [m2k_16]
  omega
theorem bc_3 {n : Nat} (hn : n < 2 ^ 63) : (lN n + ((lN n).toUInt64 >>> ((nI 4).toInt64.toUInt64 &&& Int64.toUInt64 63)).toInt64) &&& 1085102592571150095 = lN (H4k 8 n) := by
  rw [wb_shr (by omega) (by decide), lN_add, show (1085102592571150095 : Int64) = lN (m4k 8) by rw [m4k_8v]; rfl, wb_and (by omega) (by rw [m4k_8v]; decide)]
  rfl
theorem bc_4 {n k : Nat} (hk : k < 64) (hn : n < 2 ^ 63) : lN n + ((lN n).toUInt64 >>> ((nI k).toInt64.toUInt64 &&& Int64.toUInt64 63)).toInt64 = lN (n + n / 2 ^ k) := by
  rw [wb_shr (by omega) hk, lN_add]
theorem ct_bitCount64 (g : GG) (f : Mm) {n : Nat} (hn : n < 2 ^ 64) : Ct g MJ13_bitCount_95d88 [.long (lN n)] f 0 0 (fun r f' => f = f' ∧ r = some (.int (nI (popk 64 n)))) := by
  refine Ct.of ok_MJ13_bitCount_95d88 (Nat.le_of_ble_eq_true rfl) ?_
  change Wp g MJ13_bitCount_95d88 0 [some (.long (lN n)), none] [] f 0 0 _
  refine rn_lload_n dJ13_bitCount_95d88_0 rfl ?_
  refine rn_lload_n dJ13_bitCount_95d88_1 rfl ?_
  refine rn_iconst (v := nI 1) dJ13_bitCount_95d88_2 (by decide) ?_
  refine rn_lushr dJ13_bitCount_95d88_3 ?_
  refine rn_ldc2 dJ13_bitCount_95d88_4 lcJ13_314 ?_
  refine rn_land dJ13_bitCount_95d88_7 ?_
  refine rn_lsub dJ13_bitCount_95d88_8 ?_
  rw [bc_1 hn]
  refine rn_lstore_n dJ13_bitCount_95d88_9 (Nat.le_of_ble_eq_true rfl) rfl ?_
  refine rn_lload_n dJ13_bitCount_95d88_10 rfl ?_
  refine rn_ldc2 dJ13_bitCount_95d88_11 lcJ13_316 ?_
  refine rn_land dJ13_bitCount_95d88_14 ?_
  refine rn_lload_n dJ13_bitCount_95d88_15 rfl ?_
  refine rn_iconst (v := nI 2) dJ13_bitCount_95d88_16 (by decide) ?_
  refine rn_lushr dJ13_bitCount_95d88_17 ?_
  refine rn_ldc2 dJ13_bitCount_95d88_18 lcJ13_316 ?_
  refine rn_land dJ13_bitCount_95d88_21 ?_
  refine rn_ladd dJ13_bitCount_95d88_22 ?_
  rw [bc_2 (Nat.lt_of_le_of_lt (D1k_le 32 n) hn)]
  refine rn_lstore_n dJ13_bitCount_95d88_23 (Nat.le_of_ble_eq_true rfl) rfl ?_
  refine rn_lload_n dJ13_bitCount_95d88_24 rfl ?_
  refine rn_lload_n dJ13_bitCount_95d88_25 rfl ?_
  refine rn_iconst (v := nI 4) dJ13_bitCount_95d88_26 (by decide) ?_
  refine rn_lushr dJ13_bitCount_95d88_27 ?_
  refine rn_ladd dJ13_bitCount_95d88_28 ?_
  refine rn_ldc2 dJ13_bitCount_95d88_29 lcJ13_318 ?_
  refine rn_land dJ13_bitCount_95d88_32 ?_
  rw [bc_3 (E2k_lt _)]
  rw [show H4k 8 (E2k 16 (D1k 32 n)) = W8k 8 n from rfl]
  have hp := pop64 n _ _ _ rfl rfl rfl
  generalize W8k 8 n = w at hp ⊢
  obtain ⟨hp1, hp2⟩ := hp
  refine rn_lstore_n dJ13_bitCount_95d88_33 (Nat.le_of_ble_eq_true rfl) rfl ?_
  refine rn_lload_n dJ13_bitCount_95d88_34 rfl ?_
  refine rn_lload_n dJ13_bitCount_95d88_35 rfl ?_
  refine rn_bipush (v := nI 8) dJ13_bitCount_95d88_36 (by decide) ?_
  refine rn_lushr dJ13_bitCount_95d88_38 ?_
  refine rn_ladd dJ13_bitCount_95d88_39 ?_
  rw [bc_4 (by decide) (by omega)]
  have b1 : w + w / 2 ^ 8 < 2 ^ 62 := by omega
  generalize w + w / 2 ^ 8 = t1 at b1 hp1 ⊢
  refine rn_lstore_n dJ13_bitCount_95d88_40 (Nat.le_of_ble_eq_true rfl) rfl ?_
  refine rn_lload_n dJ13_bitCount_95d88_41 rfl ?_
  refine rn_lload_n dJ13_bitCount_95d88_42 rfl ?_
  refine rn_bipush (v := nI 16) dJ13_bitCount_95d88_43 (by decide) ?_
  refine rn_lushr dJ13_bitCount_95d88_45 ?_
  refine rn_ladd dJ13_bitCount_95d88_46 ?_
  rw [bc_4 (by decide) (by omega)]
  have b2 : t1 + t1 / 2 ^ 16 < 2 ^ 63 := by omega
  generalize t1 + t1 / 2 ^ 16 = t2 at b2 hp1 ⊢
  refine rn_lstore_n dJ13_bitCount_95d88_47 (Nat.le_of_ble_eq_true rfl) rfl ?_
  refine rn_lload_n dJ13_bitCount_95d88_48 rfl ?_
  refine rn_lload_n dJ13_bitCount_95d88_49 rfl ?_
  refine rn_bipush (v := nI 32) dJ13_bitCount_95d88_50 (by decide) ?_
  refine rn_lushr dJ13_bitCount_95d88_52 ?_
  refine rn_ladd dJ13_bitCount_95d88_53 ?_
  rw [bc_4 (by decide) (by omega)]
  refine rn_lstore_n dJ13_bitCount_95d88_54 (Nat.le_of_ble_eq_true rfl) rfl ?_
  refine rn_lload_n dJ13_bitCount_95d88_55 rfl ?_
  refine rn_l2i dJ13_bitCount_95d88_56 ?_
  refine rn_bipush (v := nI 127) dJ13_bitCount_95d88_57 (by decide) ?_
  refine rn_iand dJ13_bitCount_95d88_59 ?_
  refine rn_iret dJ13_bitCount_95d88_60 rfl ?_
  refine ⟨rfl, ?_⟩
  rw [lN_i, show (nI 127 : Int32) = nI (2 ^ 7 - 1) from rfl, nb_mod, nb_and (Nat.mod_lt _ (by decide)) (by decide), Nat.and_two_pow_sub_one_eq_mod, Nat.mod_mod_of_dvd _ (by decide : 2 ^ 7 ∣ 2 ^ 32)]
  rw [show (2 ^ 7 : Nat) = 128 from rfl, hp1]
theorem bc32_1 {n : Nat} (hn : n < 2 ^ 32) : nI n - (((nI n).toUInt32 >>> ((nI 1).toUInt32 &&& Int32.toUInt32 31)).toInt32 &&& 1431655765) = nI (D1k 16 n) := by
  rw [nb_ushr (by decide) hn, show (1431655765 : Int32) = nI (m1k 16) by rw [m1k_16]; rfl, nb_and (by omega) (by rw [m1k_16]; decide), pk_sub (Nat.le_trans Nat.and_le_left (by omega))]
  rfl
theorem bc32_2 {n : Nat} (hn : n < 2 ^ 32) : (nI n &&& 858993459) + (((nI n).toUInt32 >>> ((nI 2).toUInt32 &&& Int32.toUInt32 31)).toInt32 &&& 858993459) = nI (E2k 8 n) := by
  rw [nb_ushr (by decide) hn, show (858993459 : Int32) = nI (m2k 8) by rw [m2k_8]; rfl, nb_and hn (by rw [m2k_8]; decide), nb_and (by omega) (by rw [m2k_8]; decide), nI_add]
  rfl
theorem E2k_lt8 (x : Nat) : E2k 8 x < 2 ^ 31 := by
  have h1 : (x &&& m2k 8) ≤ m2k 8 := Nat.and_le_right
  have h2 : ((x / 4) &&& m2k 8) ≤ m2k 8 := Nat.and_le_right
  rw [m2k_8] at h1 h2
  unfold E2k
  rw [m2k_8]
  omega
theorem bc32_3 {n : Nat} (hn : n < 2 ^ 31) : (nI n + ((nI n).toUInt32 >>> ((nI 4).toUInt32 &&& Int32.toUInt32 31)).toInt32) &&& 252645135 = nI (H4k 4 n) := by
  rw [nb_ushr (by decide) (by omega), nI_add, show (252645135 : Int32) = nI (m4k 4) by rw [m4k_4]; rfl, nb_and (by omega) (by rw [m4k_4]; decide)]
  rfl
theorem bc32_4 {n k : Nat} (hk : k < 32) (hn : n < 2 ^ 31) : nI n + ((nI n).toUInt32 >>> ((nI k).toUInt32 &&& Int32.toUInt32 31)).toInt32 = nI (n + n / 2 ^ k) := by
  rw [nb_ushr hk (by omega), nI_add]
theorem popk_le (k : Nat) : ∀ x, popk k x ≤ k := by
  induction k with
  | zero => intro x; simp [popk]
  | succ k ih =>
    intro x
    have := ih (x / 2)
    simp only [popk]
    omega
theorem ct_bitCount32 (g : GG) (f : Mm) {n : Nat} (hn : n < 2 ^ 32) : Ct g MJ6_bitCount_0f7a4 [.int (nI n)] f 0 0 (fun r f' => f = f' ∧ r = some (.int (nI (popk 32 n)))) := by
  refine Ct.of ok_MJ6_bitCount_0f7a4 (Nat.le_of_ble_eq_true rfl) ?_
  change Wp g MJ6_bitCount_0f7a4 0 [some (.int (nI n))] [] f 0 0 _
  refine rn_iload_n dJ6_bitCount_0f7a4_0 rfl ?_
  refine rn_iload_n dJ6_bitCount_0f7a4_1 rfl ?_
  refine rn_iconst (v := nI 1) dJ6_bitCount_0f7a4_2 (by decide) ?_
  refine rn_iushr dJ6_bitCount_0f7a4_3 ?_
  refine rn_ldcw dJ6_bitCount_0f7a4_4 lcJ6_265 ?_
  refine rn_iand dJ6_bitCount_0f7a4_7 ?_
  refine rn_isub dJ6_bitCount_0f7a4_8 ?_
  rw [bc32_1 hn]
  refine rn_istore_n dJ6_bitCount_0f7a4_9 (Nat.le_of_ble_eq_true rfl) rfl ?_
  refine rn_iload_n dJ6_bitCount_0f7a4_10 rfl ?_
  refine rn_ldcw dJ6_bitCount_0f7a4_11 lcJ6_266 ?_
  refine rn_iand dJ6_bitCount_0f7a4_14 ?_
  refine rn_iload_n dJ6_bitCount_0f7a4_15 rfl ?_
  refine rn_iconst (v := nI 2) dJ6_bitCount_0f7a4_16 (by decide) ?_
  refine rn_iushr dJ6_bitCount_0f7a4_17 ?_
  refine rn_ldcw dJ6_bitCount_0f7a4_18 lcJ6_266 ?_
  refine rn_iand dJ6_bitCount_0f7a4_21 ?_
  refine rn_iadd dJ6_bitCount_0f7a4_22 ?_
  rw [bc32_2 (Nat.lt_of_le_of_lt (D1k_le 16 n) hn)]
  refine rn_istore_n dJ6_bitCount_0f7a4_23 (Nat.le_of_ble_eq_true rfl) rfl ?_
  refine rn_iload_n dJ6_bitCount_0f7a4_24 rfl ?_
  refine rn_iload_n dJ6_bitCount_0f7a4_25 rfl ?_
  refine rn_iconst (v := nI 4) dJ6_bitCount_0f7a4_26 (by decide) ?_
  refine rn_iushr dJ6_bitCount_0f7a4_27 ?_
  refine rn_iadd dJ6_bitCount_0f7a4_28 ?_
  refine rn_ldcw dJ6_bitCount_0f7a4_29 lcJ6_267 ?_
  refine rn_iand dJ6_bitCount_0f7a4_32 ?_
  rw [bc32_3 (E2k_lt8 _)]
  rw [show H4k 4 (E2k 8 (D1k 16 n)) = W8k 4 n from rfl]
  have hp := pop32 n _ _ rfl rfl
  generalize W8k 4 n = w at hp ⊢
  obtain ⟨hp1, hp2, hp3, hp4⟩ := hp
  refine rn_istore_n dJ6_bitCount_0f7a4_33 (Nat.le_of_ble_eq_true rfl) rfl ?_
  refine rn_iload_n dJ6_bitCount_0f7a4_34 rfl ?_
  refine rn_iload_n dJ6_bitCount_0f7a4_35 rfl ?_
  refine rn_bipush (v := nI 8) dJ6_bitCount_0f7a4_36 (by decide) ?_
  refine rn_iushr dJ6_bitCount_0f7a4_38 ?_
  refine rn_iadd dJ6_bitCount_0f7a4_39 ?_
  rw [bc32_4 (by decide) (by omega)]
  refine rn_istore_n dJ6_bitCount_0f7a4_40 (Nat.le_of_ble_eq_true rfl) rfl ?_
  refine rn_iload_n dJ6_bitCount_0f7a4_41 rfl ?_
  refine rn_iload_n dJ6_bitCount_0f7a4_42 rfl ?_
  refine rn_bipush (v := nI 16) dJ6_bitCount_0f7a4_43 (by decide) ?_
  refine rn_iushr dJ6_bitCount_0f7a4_45 ?_
  refine rn_iadd dJ6_bitCount_0f7a4_46 ?_
  rw [bc32_4 (by decide) (by omega)]
  refine rn_istore_n dJ6_bitCount_0f7a4_47 (Nat.le_of_ble_eq_true rfl) rfl ?_
  refine rn_iload_n dJ6_bitCount_0f7a4_48 rfl ?_
  refine rn_bipush (v := nI 63) dJ6_bitCount_0f7a4_49 (by decide) ?_
  refine rn_iand dJ6_bitCount_0f7a4_51 ?_
  refine rn_iret dJ6_bitCount_0f7a4_52 rfl ?_
  refine ⟨rfl, ?_⟩
  have hl := popk_le 32 n
  rw [show (nI 63 : Int32) = nI (2 ^ 6 - 1) from rfl, nb_and (by omega) (by decide), Nat.and_two_pow_sub_one_eq_mod]
  rw [show (2 ^ 6 : Nat) = 64 from rfl, hp1, Nat.mod_eq_of_lt (by omega)]
-- the lowest bit
def lowk : Nat → Nat → Nat
  | 0, _ => 0
  | k + 1, n => if n % 2 = 1 then 0 else lowk k (n / 2) + 1
def low (n : Nat) : Nat := lowk 64 n
theorem lowk_spec (k : Nat) : ∀ n, 0 < n → n < 2 ^ k → lowk k n < k ∧ ∃ o, n = 2 ^ (lowk k n + 1) * o + 2 ^ lowk k n := by
  induction k with
  | zero => intro n h0 h1; simp at h1; omega
  | succ k ih =>
    intro n h0 h1
    by_cases h : n % 2 = 1
    · refine ⟨by simp [lowk, h], n / 2, ?_⟩
      simp only [lowk, h, if_true]
      omega
    · have hp : 2 ^ (k + 1) = 2 * 2 ^ k := by rw [Nat.pow_succ]; omega
      obtain ⟨a, o, e⟩ := ih (n / 2) (by omega) (by omega)
      simp only [lowk, h, if_false]
      refine ⟨by omega, o, ?_⟩
      generalize lowk k (n / 2) = l at e ⊢
      have p1 : 2 ^ (l + 1 + 1) * o = 2 * (2 ^ (l + 1) * o) := by rw [Nat.pow_succ 2 (l + 1), Nat.mul_comm (2 ^ (l + 1)) 2, Nat.mul_assoc]
      have p2 : 2 ^ (l + 1) = 2 * 2 ^ l := by rw [Nat.pow_succ]; omega
      rw [p1]
      generalize 2 ^ (l + 1) * o = X at e ⊢
      omega
theorem low_bit {n l o : Nat} (hl : l < 64) (hn : n < 2 ^ 64) (e : n = 2 ^ (l + 1) * o + 2 ^ l) : n &&& (2 ^ 64 - n) = 2 ^ l := by
  have hpos : 0 < 2 ^ l := Nat.two_pow_pos l
  have hlt : 2 ^ l < 2 ^ (l + 1) := Nat.pow_lt_pow_right (by decide) (by omega)
  have e1 : 2 ^ 64 - n = 2 ^ 64 - ((n - 1) + 1) := by omega
  have e2 : n - 1 = 2 ^ (l + 1) * o + (2 ^ l - 1) := by omega
  apply Nat.eq_of_testBit_eq
  intro i
  rw [Nat.testBit_and, e1, Nat.testBit_two_pow_sub_succ (by omega), e2, Nat.testBit_two_pow_mul_add _ (by omega), Nat.testBit_two_pow]
  rw [show n.testBit i = (2 ^ (l + 1) * o + 2 ^ l).testBit i by rw [← e], Nat.testBit_two_pow_mul_add _ hlt]
  by_cases hi : i < l + 1
  · simp only [hi, if_true, Nat.testBit_two_pow, Nat.testBit_two_pow_sub_one]
    by_cases hli : l = i
    · subst hli; simp; omega
    · simp [hli]
  · simp only [hi, if_false]
    have : ¬ l = i := by omega
    simp [this]
    intro ht _
    exact ht
theorem pop_ones : ∀ l, l ≤ 64 → popk 64 (2 ^ l - 1) = l := by
  have h : ∀ l : Fin 65, popk 64 (2 ^ l.val - 1) = l.val := by decide +kernel
  intro l hl
  exact h ⟨l, by omega⟩
theorem low_0 : low 0 = 64 := by decide +kernel
theorem low_lt {n : Nat} (h0 : 0 < n) (hn : n < 2 ^ 64) : low n < 64 := (lowk_spec 64 n h0 hn).1
theorem ct_smallestCell (g : GG) (f : Mm) {n : Nat} (hn : n < 2 ^ 64) : Ct g MX11_smallestCell [.long (lN n)] f 0 0 (fun r f' => f = f' ∧ r = some (.int (nI (low n)))) := by
  refine Ct.of ok_MX11_smallestCell (Nat.le_of_ble_eq_true rfl) ?_
  change Wp g MX11_smallestCell 0 [some (.long (lN n)), none] [] f 0 0 _
  have key : ((lN n &&& -(lN n)) - 1 : Int64) = lN (2 ^ low n - 1) := by
    rcases Nat.eq_zero_or_pos n with h | h
    · subst h
      rw [low_0]
      decide +kernel
    · obtain ⟨h1, o, h2⟩ := lowk_spec 64 n h hn
      rw [lb_neg (by omega), wb_and hn (by omega), low_bit h1 hn h2]
      exact lN_sub (b := 1) (Nat.two_pow_pos _)
  have hle : low n ≤ 64 := by
    rcases Nat.eq_zero_or_pos n with h | h
    · rw [h, low_0]; omega
    · exact Nat.le_of_lt (low_lt h hn)
  have hpw : 2 ^ low n ≤ 2 ^ 64 := Nat.pow_le_pow_right (by decide) hle
  refine rn_lload_n dX11_smallestCell_0 rfl ?_
  refine rn_lload_n dX11_smallestCell_1 rfl ?_
  refine rn_lneg dX11_smallestCell_2 ?_
  refine rn_land dX11_smallestCell_3 ?_
  refine rn_lconst (v := 1) dX11_smallestCell_4 (by decide) ?_
  refine rn_lsub dX11_smallestCell_5 ?_
  rw [show (lN n &&& -lN n) - 1 = lN (2 ^ low n - 1) from key]
  refine rn_callS dX11_smallestCell_6 lmX11_304 ⟨Nat.le_of_ble_eq_true rfl, Nat.le_of_ble_eq_true rfl⟩ (ct_bitCount64 g f (n := 2 ^ low n - 1) (by have := Nat.two_pow_pos (low n); omega)) rfl rfl (Nat.le_of_ble_eq_true rfl) ?_
  rintro _ _ ⟨rfl, rfl⟩
  refine rn_iret dX11_smallestCell_9 rfl ?_
  exact ⟨rfl, by rw [pop_ones _ hle]⟩
theorem ct_holds (g : GG) (f : Mm) {n k : Nat} (hn : n < 2 ^ 64) (hk : k < 64) : Ct g MX11_holds [.long (lN n), .int (nI k)] f 0 0 (fun r f' => f = f' ∧ r = some (.int (bI (n.testBit k)))) := by
  refine Ct.of ok_MX11_holds (Nat.le_of_ble_eq_true rfl) ?_
  change Wp g MX11_holds 0 [some (.long (lN n)), none, some (.int (nI k))] [] f 0 0 _
  have key : (((lN n).toUInt64 >>> ((nI k).toInt64.toUInt64 &&& Int64.toUInt64 63)).toInt64 &&& 1 : Int64) = lN (n / 2 ^ k % 2) := wb_bit hn hk
  have kb : n.testBit k = decide (n / 2 ^ k % 2 = 1) := Nat.testBit_eq_decide_div_mod_eq
  refine rn_lload_n dX11_holds_0 rfl ?_
  refine rn_iload_n dX11_holds_1 rfl ?_
  refine rn_lushr dX11_holds_2 ?_
  refine rn_lconst (v := 1) dX11_holds_3 (by decide) ?_
  refine rn_land dX11_holds_4 ?_
  rw [show (((lN n).toUInt64 >>> ((nI k).toInt64.toUInt64 &&& Int64.toUInt64 63)).toInt64 &&& 1 : Int64) = lN (n / 2 ^ k % 2) from key]
  refine rn_lconst (v := 0) dX11_holds_5 (by decide) ?_
  refine rn_lcmp dX11_holds_6 ?_
  refine rn_if_eq (tgt := 14) dX11_holds_7 (by decide) (fun c7 => ?_) (fun c7 => ?_)
  · refine rn_iconst (v := nI 0) dX11_holds_14 (by decide) ?_
    refine rn_zret dX11_holds_15 rfl rfl ?_
    have h0 := (lg_cmp_eq _ _).mp c7
    have h1 : n / 2 ^ k % 2 = 0 := (lb_eq (by omega) (by decide)).mp h0
    exact ⟨rfl, by rw [kb, decide_eq_false (by omega)]; rfl⟩
  · refine rn_iconst (v := nI 1) dX11_holds_10 (by decide) ?_
    refine rn_goto (tgt := 15) dX11_holds_11 (by decide) ?_
    refine rn_zret dX11_holds_15 rfl rfl ?_
    have h1 : ¬ n / 2 ^ k % 2 = 0 := fun q => c7 ((lg_cmp_eq _ _).mpr (by rw [q]; rfl))
    exact ⟨rfl, by rw [kb, decide_eq_true (by omega)]; rfl⟩
theorem ct_greatestCell (g : GG) (f : Mm) {n : Nat} (hn : n < 2 ^ 64) : Ct g MX11_greatestCell [.long (lN n)] f 0 0 (fun r f' => f = f' ∧ ∃ k, k ≤ 35 ∧ r = some (.int (nI k)) ∧ (k = 0 ∨ n.testBit k = true) ∧ ∀ j, k < j → j ≤ 35 → n.testBit j = false) := by
  refine Ct.of ok_MX11_greatestCell (Nat.le_of_ble_eq_true rfl) ?_
  change Wp g MX11_greatestCell 0 [some (.long (lN n)), none, none] [] f 0 0 _
  have loop : ∀ k, k ≤ 35 → (∀ j, k < j → j ≤ 35 → n.testBit j = false) → Wp g MX11_greatestCell 3 [some (.long (lN n)), none, some (.int (nI k))] [] f 0 0 (fun r f' => f = f' ∧ ∃ k, k ≤ 35 ∧ r = some (.int (nI k)) ∧ (k = 0 ∨ n.testBit k = true) ∧ ∀ j, k < j → j ≤ 35 → n.testBit j = false) := by
    intro k
    induction k with
    | zero =>
      intro hk hj
      refine rn_iload_n dX11_greatestCell_3 rfl ?_
      refine rn_if_le (tgt := 21) dX11_greatestCell_4 (by decide) (fun c4 => ?_) (fun c4 => ?_)
      · refine rn_iload_n dX11_greatestCell_21 rfl ?_
        refine rn_iret dX11_greatestCell_22 rfl ?_
        exact ⟨rfl, 0, hk, rfl, Or.inl rfl, hj⟩
      · refine rn_lload_n dX11_greatestCell_7 rfl ?_
        refine rn_iload_n dX11_greatestCell_8 rfl ?_
        refine rn_callS dX11_greatestCell_9 lmX11_308 ⟨Nat.le_of_ble_eq_true rfl, Nat.le_of_ble_eq_true rfl⟩ (ct_holds g f hn (by omega)) rfl rfl (Nat.le_of_ble_eq_true rfl) ?_
        rintro _ _ ⟨rfl, rfl⟩
        refine rn_if_ne (tgt := 21) dX11_greatestCell_12 (by decide) (fun c12 => ?_) (fun c12 => ?_)
        · refine rn_iload_n dX11_greatestCell_21 rfl ?_
          refine rn_iret dX11_greatestCell_22 rfl ?_
          exact absurd (show nI 0 ≤ 0 by decide) c4
        · refine rn_iinc dX11_greatestCell_15 rfl rfl (Nat.le_of_ble_eq_true rfl) rfl ?_
          refine rn_goto (tgt := 3) dX11_greatestCell_18 (by decide) ?_
          exact absurd (show nI 0 ≤ 0 by decide) c4
    | succ k ih =>
      intro hk hj
      refine rn_iload_n dX11_greatestCell_3 rfl ?_
      refine rn_if_le (tgt := 21) dX11_greatestCell_4 (by decide) (fun c4 => ?_) (fun c4 => ?_)
      · refine rn_iload_n dX11_greatestCell_21 rfl ?_
        refine rn_iret dX11_greatestCell_22 rfl ?_
        exact absurd c4 (nI_nle (by omega) (by omega))
      · refine rn_lload_n dX11_greatestCell_7 rfl ?_
        refine rn_iload_n dX11_greatestCell_8 rfl ?_
        refine rn_callS dX11_greatestCell_9 lmX11_308 ⟨Nat.le_of_ble_eq_true rfl, Nat.le_of_ble_eq_true rfl⟩ (ct_holds g f hn (by omega)) rfl rfl (Nat.le_of_ble_eq_true rfl) ?_
        rintro _ _ ⟨rfl, rfl⟩
        refine rn_if_ne (tgt := 21) dX11_greatestCell_12 (by decide) (fun c12 => ?_) (fun c12 => ?_)
        · refine rn_iload_n dX11_greatestCell_21 rfl ?_
          refine rn_iret dX11_greatestCell_22 rfl ?_
          exact ⟨rfl, k + 1, hk, rfl, Or.inr (bI_n0.mp c12), hj⟩
        · refine rn_iinc (v := nI k) dX11_greatestCell_15 rfl (pk_m1 k) (Nat.le_of_ble_eq_true rfl) rfl ?_
          refine rn_goto (tgt := 3) dX11_greatestCell_18 (by decide) ?_
          refine ih (by omega) (fun j h1 h2 => ?_)
          by_cases e : j = k + 1
          · subst e; exact bI_0.mp c12
          · exact hj j (by omega) h2
  refine rn_bipush (v := nI 35) dX11_greatestCell_0 (by decide) ?_
  refine rn_istore_n dX11_greatestCell_2 (Nat.le_of_ble_eq_true rfl) rfl ?_
  exact loop 35 (by omega) (fun j h1 h2 => absurd h1 (by omega))
-- open cells
def opk (cs : Nat → Int32) : Nat → Nat
  | 0 => 0
  | i + 1 => if cs i = -1 then opk cs i else opk cs i + 2 ^ i
def opn (cs : Nat → Int32) : Nat → Nat
  | 0 => 0
  | i + 1 => if cs i = -1 then opn cs i else opn cs i + 1
theorem opk_lt (cs : Nat → Int32) : ∀ i, opk cs i < 2 ^ i
  | 0 => by simp [opk]
  | i + 1 => by
    have h := opk_lt cs i
    have hp : 2 ^ (i + 1) = 2 * 2 ^ i := by rw [Nat.pow_succ]; omega
    simp only [opk]
    split <;> omega
theorem or_add {x i : Nat} (h : x < 2 ^ i) : x ||| 2 ^ i = x + 2 ^ i := by
  have := Nat.two_pow_add_eq_or_of_lt h 1
  rw [Nat.mul_one] at this
  rw [Nat.or_comm, ← this, Nat.add_comm]
theorem pop_add : ∀ (k x i : Nat), x < 2 ^ i → i < k → popk k (x + 2 ^ i) = popk k x + 1
  | 0, _, _, _, h => absurd h (by omega)
  | k + 1, x, 0, hx, _ => by
    have : x = 0 := by simpa using hx
    subst this
    have z : ∀ k, popk k 0 = 0 := fun k => by
      induction k with
      | zero => rfl
      | succ k ih => simp [popk, ih]
    simp [popk, z]
  | k + 1, x, i + 1, hx, hk => by
    have hp : 2 ^ (i + 1) = 2 * 2 ^ i := by rw [Nat.pow_succ]; omega
    have h1 : (x + 2 ^ (i + 1)) % 2 = x % 2 := by omega
    have h2 : (x + 2 ^ (i + 1)) / 2 = x / 2 + 2 ^ i := by omega
    simp only [popk, h1, h2]
    rw [pop_add k (x / 2) i (by omega) (by omega)]
    omega
theorem pop_opk (cs : Nat → Int32) : ∀ i, i ≤ 64 → popk 64 (opk cs i) = opn cs i
  | 0, _ => by
    show popk 64 0 = 0
    decide +kernel
  | i + 1, h => by
    have ih := pop_opk cs i (by omega)
    simp only [opk, opn]
    split
    · exact ih
    · rw [pop_add 64 _ i (opk_lt cs i) (by omega), ih]
theorem ct_openMask (g : GG) (f : Mm) {h : Nat} {P : PS} (hP : PB f h P) (hV : VD P) : Ct g MX4_openMask [.ref h] f 0 0 (fun r f' => f = f' ∧ r = some (.long (lN (opk (pC P) (pW P * pH P))))) := by
  refine Ct.of ok_MX4_openMask (Nat.le_of_ble_eq_true rfl) ?_
  change Wp g MX4_openMask 0 [some (.ref h), none, none, none] [] f 0 0 _
  have ha := hV.area
  have loop : ∀ (n i : Nat), pW P * pH P - i = n → i ≤ pW P * pH P → Wp g MX4_openMask 4 [some (.ref h), some (.long (lN (opk (pC P) i))), none, some (.int (nI i))] [] f 0 0 (fun r f' => f = f' ∧ r = some (.long (lN (opk (pC P) (pW P * pH P))))) := by
    intro n
    induction n using Nat.strongRecOn with
    | ind n ih =>
      intro i hn hi
      refine rn_iload_n dX4_openMask_4 rfl ?_
      refine rn_aload_n dX4_openMask_5 rfl ?_
      refine rn_callV dX4_openMask_6 lmX4_64 ⟨Nat.le_of_ble_eq_true rfl, Nat.le_of_ble_eq_true rfl⟩ (ct_cellCount g f hP) hP.1 rfl rfl (Nat.le_of_ble_eq_true rfl) ?_
      rintro _ _ ⟨rfl, rfl⟩
      refine rn_icmp_ge (tgt := 32) dX4_openMask_9 (by decide) (fun c9 => ?_) (fun c9 => ?_)
      · refine rn_lload_n dX4_openMask_32 rfl ?_
        refine rn_lret dX4_openMask_33 rfl ?_
        have := ge_ex c9 (by omega) (by omega)
        exact ⟨rfl, by rw [show i = pW P * pH P by omega]⟩
      · have hi2 := ge_in c9 (by omega)
        refine rn_aload_n dX4_openMask_12 rfl ?_
        refine rn_iload_n dX4_openMask_13 rfl ?_
        refine rn_callV dX4_openMask_14 lmX4_85 ⟨Nat.le_of_ble_eq_true rfl, Nat.le_of_ble_eq_true rfl⟩ (ct_isHole g f (nI i) hP) hP.1 rfl rfl (Nat.le_of_ble_eq_true rfl) ?_
        rintro _ _ ⟨rfl, rfl⟩
        rw [atf_nI (by omega) (by decide)]
        refine rn_if_ne (tgt := 26) dX4_openMask_17 (by decide) (fun c17 => ?_) (fun c17 => ?_)
        · refine rn_iinc (v := nI (i + 1)) dX4_openMask_26 rfl (nI_1 i) (Nat.le_of_ble_eq_true rfl) rfl ?_
          refine rn_goto (tgt := 4) dX4_openMask_29 (by decide) ?_
          refine (?_ : Wp g MX4_openMask 4 _ _ _ _ _ _)
          have e := ih (pW P * pH P - (i + 1)) (by omega) (i + 1) rfl (by omega)
          rw [show opk (pC P) (i + 1) = opk (pC P) i by simp only [opk, of_decide_eq_true (bI_n0.mp c17), if_true]] at e
          exact e
        · refine rn_lload_n dX4_openMask_20 rfl ?_
          refine rn_lconst (v := 1) dX4_openMask_21 (by decide) ?_
          refine rn_iload_n dX4_openMask_22 rfl ?_
          refine rn_lshl dX4_openMask_23 ?_
          refine rn_lor dX4_openMask_24 ?_
          refine rn_lstore_n dX4_openMask_25 (Nat.le_of_ble_eq_true rfl) rfl ?_
          refine rn_iinc (v := nI (i + 1)) dX4_openMask_26 rfl (nI_1 i) (Nat.le_of_ble_eq_true rfl) rfl ?_
          refine rn_goto (tgt := 4) dX4_openMask_29 (by decide) ?_
          have e := ih (pW P * pH P - (i + 1)) (by omega) (i + 1) rfl (by omega)
          have hb := opk_lt (pC P) i
          have hlt : 2 ^ i < 2 ^ 64 := Nat.pow_lt_pow_right (by decide) (by omega)
          rw [show opk (pC P) (i + 1) = opk (pC P) i + 2 ^ i by simp only [opk, of_decide_eq_false (bI_0.mp c17), if_false], ← or_add hb, ← wb_or (by omega) hlt] at e
          rw [show (1 : Int64) = lN 1 from rfl, wb_shl 1 (by omega), Nat.one_mul]
          exact e
  refine rn_lconst (v := 0) dX4_openMask_0 (by decide) ?_
  refine rn_lstore_n dX4_openMask_1 (Nat.le_of_ble_eq_true rfl) rfl ?_
  refine rn_iconst (v := nI 0) dX4_openMask_2 (by decide) ?_
  refine rn_istore_n dX4_openMask_3 (Nat.le_of_ble_eq_true rfl) rfl ?_
  exact loop _ 0 rfl (by omega)
theorem ct_openCount (g : GG) (f : Mm) {h : Nat} {P : PS} (hP : PB f h P) (hV : VD P) : Ct g MX4_openCount [.ref h] f 0 0 (fun r f' => f = f' ∧ r = some (.int (nI (opn (pC P) (pW P * pH P))))) := by
  refine Ct.of ok_MX4_openCount (Nat.le_of_ble_eq_true rfl) ?_
  change Wp g MX4_openCount 0 [some (.ref h)] [] f 0 0 _
  have ha := hV.area
  have hb := opk_lt (pC P) (pW P * pH P)
  have hlt : 2 ^ (pW P * pH P) ≤ 2 ^ 64 := Nat.pow_le_pow_right (by decide) (by omega)
  refine rn_aload_n dX4_openCount_0 rfl ?_
  refine rn_callV dX4_openCount_1 lmX4_75 ⟨Nat.le_of_ble_eq_true rfl, Nat.le_of_ble_eq_true rfl⟩ (ct_openMask g f hP hV) hP.1 rfl rfl (Nat.le_of_ble_eq_true rfl) ?_
  rintro _ _ ⟨rfl, rfl⟩
  refine rn_callS dX4_openCount_4 lmX4_79 ⟨Nat.le_of_ble_eq_true rfl, Nat.le_of_ble_eq_true rfl⟩ (ct_bitCount64 g f (by omega)) rfl rfl (Nat.le_of_ble_eq_true rfl) ?_
  rintro _ _ ⟨rfl, rfl⟩
  refine rn_iret dX4_openCount_7 rfl ?_
  exact ⟨rfl, by rw [pop_opk _ _ (by omega)]⟩
