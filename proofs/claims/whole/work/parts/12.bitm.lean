-- the JDK's counts of ones; cells of masks
theorem m1k_32 : m1k 32 = 6148914691236517205 := by decide +kernel
theorem m2k_16 : m2k 16 = 3689348814741910323 := by decide +kernel
theorem m4k_8v : m4k 8 = 1085102592571150095 := by decide +kernel
theorem m1k_16 : m1k 16 = 1431655765 := by decide +kernel
theorem m2k_8 : m2k 8 = 858993459 := by decide +kernel
theorem m4k_4 : m4k 4 = 252645135 := by decide +kernel
theorem bc_1 {n : Nat} (hn : n < 2 ^ 64) : lN n - (((lN n).toUInt64 >>> ((nI 1).toInt64.toUInt64 &&& Int64.toUInt64 63)).toInt64 &&& 6148914691236517205) = lN (D1k 32 n) := by
  rw [wb_shr hn (by decide), show (6148914691236517205 : Int64) = lN (m1k 32) by rw [m1k_32]; rfl, wb_and (by omega) (by rw [m1k_32]; decide), lN_sub (Nat.le_trans Nat.and_le_left (by omega))]
  rfl
theorem D1k_le (k x : Nat) : D1k k x ≤ x := Nat.sub_le _ _
theorem bc_2 {n : Nat} (hn : n < 2 ^ 64) : (lN n &&& 3689348814741910323) + (((lN n).toUInt64 >>> ((nI 2).toInt64.toUInt64 &&& Int64.toUInt64 63)).toInt64 &&& 3689348814741910323) = lN (E2k 16 n) := by
  rw [wb_shr hn (by decide), show (3689348814741910323 : Int64) = lN (m2k 16) by rw [m2k_16]; rfl, wb_and hn (by rw [m2k_16]; decide), wb_and (by omega) (by rw [m2k_16]; decide), lN_add]
  rfl
theorem E2k_lt (x : Nat) : E2k 16 x < 2 ^ 63 := by
  have h1 : (x &&& m2k 16) ≤ m2k 16 := Nat.and_le_right
  have h2 : ((x / 4) &&& m2k 16) ≤ m2k 16 := Nat.and_le_right
  rw [m2k_16] at h1 h2
  unfold E2k
  rw [m2k_16]
  omega
theorem bc_3 {n : Nat} (hn : n < 2 ^ 63) : (lN n + ((lN n).toUInt64 >>> ((nI 4).toInt64.toUInt64 &&& Int64.toUInt64 63)).toInt64) &&& 1085102592571150095 = lN (H4k 8 n) := by
  rw [wb_shr (by omega) (by decide), lN_add, show (1085102592571150095 : Int64) = lN (m4k 8) by rw [m4k_8v]; rfl, wb_and (by omega) (by rw [m4k_8v]; decide)]
  rfl
theorem bc_4 {n k : Nat} (hk : k < 64) (hn : n < 2 ^ 63) : lN n + ((lN n).toUInt64 >>> ((nI k).toInt64.toUInt64 &&& Int64.toUInt64 63)).toInt64 = lN (n + n / 2 ^ k) := by
  rw [wb_shr (by omega) hk, lN_add]
theorem ct_bitCount64 (g : GG) (f : Mm) {n : Nat} (hn : n < 2 ^ 64) : Ct g MJ13_bitCount_95d88 [.long (lN n)] f 0 0 (fun r f' => f = f' ∧ r = some (.int (nI (popk 64 n)))) := by
  refine Ct.of ok_MJ13_bitCount_95d88 (Nat.le_of_ble_eq_true rfl) ?_
  change Wp g MJ13_bitCount_95d88 0 [some (.long (lN n)), none] [] f 0 0 _
  refine rn_lload_n dJ13_bitCount_95d88_0 rfl ?_
  refine rn_lload_n dJ13_bitCount_95d88_1 rfl ?_
  refine rn_iconst (v := nI 1) dJ13_bitCount_95d88_2 (by decide) ?_
  refine rn_lushr dJ13_bitCount_95d88_3 ?_
  refine rn_ldc2 dJ13_bitCount_95d88_4 lcJ13_314 ?_
  refine rn_land dJ13_bitCount_95d88_7 ?_
  refine rn_lsub dJ13_bitCount_95d88_8 ?_
  rw [bc_1 hn]
  refine rn_lstore_n dJ13_bitCount_95d88_9 (Nat.le_of_ble_eq_true rfl) rfl ?_
  refine rn_lload_n dJ13_bitCount_95d88_10 rfl ?_
  refine rn_ldc2 dJ13_bitCount_95d88_11 lcJ13_316 ?_
  refine rn_land dJ13_bitCount_95d88_14 ?_
  refine rn_lload_n dJ13_bitCount_95d88_15 rfl ?_
  refine rn_iconst (v := nI 2) dJ13_bitCount_95d88_16 (by decide) ?_
  refine rn_lushr dJ13_bitCount_95d88_17 ?_
  refine rn_ldc2 dJ13_bitCount_95d88_18 lcJ13_316 ?_
  refine rn_land dJ13_bitCount_95d88_21 ?_
  refine rn_ladd dJ13_bitCount_95d88_22 ?_
  rw [bc_2 (Nat.lt_of_le_of_lt (D1k_le 32 n) hn)]
  refine rn_lstore_n dJ13_bitCount_95d88_23 (Nat.le_of_ble_eq_true rfl) rfl ?_
  refine rn_lload_n dJ13_bitCount_95d88_24 rfl ?_
  refine rn_lload_n dJ13_bitCount_95d88_25 rfl ?_
  refine rn_iconst (v := nI 4) dJ13_bitCount_95d88_26 (by decide) ?_
  refine rn_lushr dJ13_bitCount_95d88_27 ?_
  refine rn_ladd dJ13_bitCount_95d88_28 ?_
  refine rn_ldc2 dJ13_bitCount_95d88_29 lcJ13_318 ?_
  refine rn_land dJ13_bitCount_95d88_32 ?_
  rw [bc_3 (E2k_lt _)]
  rw [show H4k 8 (E2k 16 (D1k 32 n)) = W8k 8 n from rfl]
  have hp := pop64 n _ _ _ rfl rfl rfl
  generalize W8k 8 n = w at hp ⊢
  obtain ⟨hp1, hp2⟩ := hp
  refine rn_lstore_n dJ13_bitCount_95d88_33 (Nat.le_of_ble_eq_true rfl) rfl ?_
  refine rn_lload_n dJ13_bitCount_95d88_34 rfl ?_
  refine rn_lload_n dJ13_bitCount_95d88_35 rfl ?_
  refine rn_bipush (v := nI 8) dJ13_bitCount_95d88_36 (by decide) ?_
  refine rn_lushr dJ13_bitCount_95d88_38 ?_
  refine rn_ladd dJ13_bitCount_95d88_39 ?_
  rw [bc_4 (by decide) (by omega)]
  have b1 : w + w / 2 ^ 8 < 2 ^ 62 := by omega
  generalize w + w / 2 ^ 8 = t1 at b1 hp1 ⊢
  refine rn_lstore_n dJ13_bitCount_95d88_40 (Nat.le_of_ble_eq_true rfl) rfl ?_
  refine rn_lload_n dJ13_bitCount_95d88_41 rfl ?_
  refine rn_lload_n dJ13_bitCount_95d88_42 rfl ?_
  refine rn_bipush (v := nI 16) dJ13_bitCount_95d88_43 (by decide) ?_
  refine rn_lushr dJ13_bitCount_95d88_45 ?_
  refine rn_ladd dJ13_bitCount_95d88_46 ?_
  rw [bc_4 (by decide) (by omega)]
  have b2 : t1 + t1 / 2 ^ 16 < 2 ^ 63 := by omega
  generalize t1 + t1 / 2 ^ 16 = t2 at b2 hp1 ⊢
  refine rn_lstore_n dJ13_bitCount_95d88_47 (Nat.le_of_ble_eq_true rfl) rfl ?_
  refine rn_lload_n dJ13_bitCount_95d88_48 rfl ?_
  refine rn_lload_n dJ13_bitCount_95d88_49 rfl ?_
  refine rn_bipush (v := nI 32) dJ13_bitCount_95d88_50 (by decide) ?_
  refine rn_lushr dJ13_bitCount_95d88_52 ?_
  refine rn_ladd dJ13_bitCount_95d88_53 ?_
  rw [bc_4 (by decide) (by omega)]
  refine rn_lstore_n dJ13_bitCount_95d88_54 (Nat.le_of_ble_eq_true rfl) rfl ?_
  refine rn_lload_n dJ13_bitCount_95d88_55 rfl ?_
  refine rn_l2i dJ13_bitCount_95d88_56 ?_
  refine rn_bipush (v := nI 127) dJ13_bitCount_95d88_57 (by decide) ?_
  refine rn_iand dJ13_bitCount_95d88_59 ?_
  refine rn_iret dJ13_bitCount_95d88_60 rfl ?_
  refine ⟨rfl, ?_⟩
  rw [lN_i, show (nI 127 : Int32) = nI (2 ^ 7 - 1) from rfl, nb_mod, nb_and (Nat.mod_lt _ (by decide)) (by decide), Nat.and_two_pow_sub_one_eq_mod, Nat.mod_mod_of_dvd _ (by decide : 2 ^ 7 ∣ 2 ^ 32)]
  rw [show (2 ^ 7 : Nat) = 128 from rfl, hp1]
