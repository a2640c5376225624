-- the constructors (written by wip/whole/gencons.py)
abbrev zF : Nat → Int32 := fun _ => 0
def P0 : PS := (4, 4, 0, 0, 0, zF, zF, zF, zF, zF)
theorem ct_X4_init (g : GG) {f : Mm} {q : Nat} (hz : FZ f (q + 1)) (o0 : f q = some (.inr (4, [.int 0, .int 0, .int 0, .int 0, .int 0, .null, .null, .null, .null, .null]))) : Ct g MX4_init [.ref q] f 5 68 (fun r f' => r = none ∧ FZ f' (q + 6) ∧ (∀ j, j < q → f' j = f j) ∧ PB f' q P0) := by
  refine Ct.of ok_MX4_init (Nat.le_of_ble_eq_true rfl) ?_
  change Wp g MX4_init 0 [some (.ref q)] [] f 5 68 _
  have K : ∀ j, j < q → f j = f j := fun _ _ => rfl
  refine rn_aload_n dX4_init_0 rfl ?_
  refine rn_obj dX4_init_1 loX4_3 ⟨Nat.le_of_ble_eq_true rfl, Nat.le_of_ble_eq_true rfl⟩ (Nat.le_of_ble_eq_true rfl) ?_
  refine rn_aload_n dX4_init_4 rfl ?_
  refine rn_iconst (v := nI 4) dX4_init_5 (by decide) ?_
  refine rf_put dX4_init_6 lpX4_9 o0 rfl rfl (Nat.le_of_ble_eq_true rfl) hz (fun f1 hz1 k1 (o1 : f1 q = some (.inr (4, [.int (nI 4), .int 0, .int 0, .int 0, .int 0, .null, .null, .null, .null, .null]))) => ?_)
  have K : ∀ j, j < q → f1 j = f j := fun j a => (k1 j (by omega)).trans (K j a)
  refine rn_aload_n dX4_init_9 rfl ?_
  refine rn_iconst (v := nI 4) dX4_init_10 (by decide) ?_
  refine rf_put dX4_init_11 lpX4_15 o1 rfl rfl (Nat.le_of_ble_eq_true rfl) hz1 (fun f2 hz2 k2 (o2 : f2 q = some (.inr (4, [.int (nI 4), .int (nI 4), .int 0, .int 0, .int 0, .null, .null, .null, .null, .null]))) => ?_)
  have K : ∀ j, j < q → f2 j = f j := fun j a => (k2 j (by omega)).trans (K j a)
  refine rn_aload_n dX4_init_14 rfl ?_
  refine rn_iconst (v := nI 0) dX4_init_15 (by decide) ?_
  refine rf_put dX4_init_16 lpX4_18 o2 rfl rfl (Nat.le_of_ble_eq_true rfl) hz2 (fun f3 hz3 k3 (o3 : f3 q = some (.inr (4, [.int (nI 4), .int (nI 4), .int (nI 0), .int 0, .int 0, .null, .null, .null, .null, .null]))) => ?_)
  have K : ∀ j, j < q → f3 j = f j := fun j a => (k3 j (by omega)).trans (K j a)
  refine rn_aload_n dX4_init_19 rfl ?_
  refine rn_iconst (v := nI 0) dX4_init_20 (by decide) ?_
  refine rf_put dX4_init_21 lpX4_21 o3 rfl rfl (Nat.le_of_ble_eq_true rfl) hz3 (fun f4 hz4 k4 (o4 : f4 q = some (.inr (4, [.int (nI 4), .int (nI 4), .int (nI 0), .int (nI 0), .int 0, .null, .null, .null, .null, .null]))) => ?_)
  have K : ∀ j, j < q → f4 j = f j := fun j a => (k4 j (by omega)).trans (K j a)
  refine rn_aload_n dX4_init_24 rfl ?_
  refine rn_iconst (v := nI 0) dX4_init_25 (by decide) ?_
  refine rf_put dX4_init_26 lpX4_24 o4 rfl rfl (Nat.le_of_ble_eq_true rfl) hz4 (fun f5 hz5 k5 (o5 : f5 q = some (.inr (4, [.int (nI 4), .int (nI 4), .int (nI 0), .int (nI 0), .int (nI 0), .null, .null, .null, .null, .null]))) => ?_)
  have K : ∀ j, j < q → f5 j = f j := fun j a => (k5 j (by omega)).trans (K j a)
  refine rn_aload_n dX4_init_29 rfl ?_
  refine rn_bipush (v := nI 36) dX4_init_30 (by decide) ?_
  refine rf_ia (k := 4) (n := 32) dX4_init_32 dX4_init_34 lpX4_27 rfl o5 (Nat.le_of_ble_eq_true rfl) (Nat.le_of_ble_eq_true rfl) rfl rfl hz5 (fun f6 (hz6 : FZ f6 (q + 2)) k6 (o6 : f6 q = some (.inr (4, [.int (nI 4), .int (nI 4), .int (nI 0), .int (nI 0), .int (nI 0), .ref (q + 1), .null, .null, .null, .null]))) (a6 : f6 (q + 1) = some (.inl (0, 36, .inl (fun _ => 0)))) => ?_)
  have K : ∀ j, j < q → f6 j = f j := fun j a => (k6 j (by omega) (by omega)).trans (K j a)
  refine rn_aload_n dX4_init_37 rfl ?_
  refine rn_bipush (v := nI 8) dX4_init_38 (by decide) ?_
  refine rf_ia (k := 3) (n := 24) dX4_init_40 dX4_init_42 lpX4_31 rfl o6 (Nat.le_of_ble_eq_true rfl) (Nat.le_of_ble_eq_true rfl) rfl rfl hz6 (fun f7 (hz7 : FZ f7 (q + 3)) k7 (o7 : f7 q = some (.inr (4, [.int (nI 4), .int (nI 4), .int (nI 0), .int (nI 0), .int (nI 0), .ref (q + 1), .ref (q + 2), .null, .null, .null]))) (a7 : f7 (q + 2) = some (.inl (0, 8, .inl (fun _ => 0)))) => ?_)
  have K : ∀ j, j < q → f7 j = f j := fun j a => (k7 j (by omega) (by omega)).trans (K j a)
  have a6 := (k7 (q + 1) (by omega) (by omega)).trans a6
  refine rn_aload_n dX4_init_45 rfl ?_
  refine rn_bipush (v := nI 8) dX4_init_46 (by decide) ?_
  refine rf_ia (k := 2) (n := 16) dX4_init_48 dX4_init_50 lpX4_34 rfl o7 (Nat.le_of_ble_eq_true rfl) (Nat.le_of_ble_eq_true rfl) rfl rfl hz7 (fun f8 (hz8 : FZ f8 (q + 4)) k8 (o8 : f8 q = some (.inr (4, [.int (nI 4), .int (nI 4), .int (nI 0), .int (nI 0), .int (nI 0), .ref (q + 1), .ref (q + 2), .ref (q + 3), .null, .null]))) (a8 : f8 (q + 3) = some (.inl (0, 8, .inl (fun _ => 0)))) => ?_)
  have K : ∀ j, j < q → f8 j = f j := fun j a => (k8 j (by omega) (by omega)).trans (K j a)
  have a6 := (k8 (q + 1) (by omega) (by omega)).trans a6
  have a7 := (k8 (q + 2) (by omega) (by omega)).trans a7
  refine rn_aload_n dX4_init_53 rfl ?_
  refine rn_bipush (v := nI 8) dX4_init_54 (by decide) ?_
  refine rf_ia (k := 1) (n := 8) dX4_init_56 dX4_init_58 lpX4_37 rfl o8 (Nat.le_of_ble_eq_true rfl) (Nat.le_of_ble_eq_true rfl) rfl rfl hz8 (fun f9 (hz9 : FZ f9 (q + 5)) k9 (o9 : f9 q = some (.inr (4, [.int (nI 4), .int (nI 4), .int (nI 0), .int (nI 0), .int (nI 0), .ref (q + 1), .ref (q + 2), .ref (q + 3), .ref (q + 4), .null]))) (a9 : f9 (q + 4) = some (.inl (0, 8, .inl (fun _ => 0)))) => ?_)
  have K : ∀ j, j < q → f9 j = f j := fun j a => (k9 j (by omega) (by omega)).trans (K j a)
  have a6 := (k9 (q + 1) (by omega) (by omega)).trans a6
  have a7 := (k9 (q + 2) (by omega) (by omega)).trans a7
  have a8 := (k9 (q + 3) (by omega) (by omega)).trans a8
  refine rn_aload_n dX4_init_61 rfl ?_
  refine rn_bipush (v := nI 8) dX4_init_62 (by decide) ?_
  refine rf_ia (k := 0) (n := 0) dX4_init_64 dX4_init_66 lpX4_40 rfl o9 (Nat.le_of_ble_eq_true rfl) (Nat.le_of_ble_eq_true rfl) rfl rfl hz9 (fun f10 (hz10 : FZ f10 (q + 6)) k10 (o10 : f10 q = some (.inr (4, [.int (nI 4), .int (nI 4), .int (nI 0), .int (nI 0), .int (nI 0), .ref (q + 1), .ref (q + 2), .ref (q + 3), .ref (q + 4), .ref (q + 5)]))) (a10 : f10 (q + 5) = some (.inl (0, 8, .inl (fun _ => 0)))) => ?_)
  have K : ∀ j, j < q → f10 j = f j := fun j a => (k10 j (by omega) (by omega)).trans (K j a)
  have a6 := (k10 (q + 1) (by omega) (by omega)).trans a6
  have a7 := (k10 (q + 2) (by omega) (by omega)).trans a7
  have a8 := (k10 (q + 3) (by omega) (by omega)).trans a8
  have a9 := (k10 (q + 4) (by omega) (by omega)).trans a9
  refine rn_vret dX4_init_69 rfl ?_
  exact ⟨rfl, hz10, K, ⟨o10, ⟨_, a6, fun _ _ => rfl⟩, ⟨_, a7, fun _ _ => rfl⟩, ⟨_, a8, fun _ _ => rfl⟩, ⟨_, a9, fun _ _ => rfl⟩, ⟨_, a10, fun _ _ => rfl⟩⟩⟩
theorem ct_X2_init (g : GG) {f : Mm} (hz : FZ f 8) (o0 : f 7 = some (.inr (2, [.null, .int 0, .int 0]))) : Ct g MX2_init [.ref 7] f 37 474 (fun r f' => r = none ∧ FZ f' 45 ∧ (∀ j, j < 7 → f' j = f j) ∧ HB f' 0 0 (fun _ => P0)) := by
  refine Ct.of ok_MX2_init (Nat.le_of_ble_eq_true rfl) ?_
  change Wp g MX2_init 0 [some (.ref 7), none] [] f 37 474 _
  have loop : ∀ (d i : Nat) (f1 : Mm) (a : Nat → Option Nat), i + d = 6 → FZ f1 (9 + 6 * i) → f1 7 = some (.inr (2, [.ref 8, .int (nI 0), .int (nI 0)])) → f1 8 = some (.inl (4, 6, .inr (.inr (.inr (.inr a))))) → (∀ j, j < i → a j = some (9 + 6 * j)) → (∀ j, j < i → PB f1 (9 + 6 * j) P0) → (∀ j, j < 7 → f1 j = f j) → Wp g MX2_init 25 [some (.ref 7), some (.int (nI i))] [] f1 (6 * d) (78 * d) (fun r f' => r = none ∧ FZ f' 45 ∧ (∀ j, j < 7 → f' j = f j) ∧ HB f' 0 0 (fun _ => P0)) := by
    intro d
    induction d with
    | zero =>
      intro i f1 a hi hz1 h7 h8 ha hP hK
      have hi6 : i = 6 := by omega
      subst hi6
      refine rn_iload_n dX2_init_25 rfl ?_
      refine rn_aload_n dX2_init_26 rfl ?_
      refine rn_get dX2_init_27 lfX2_11 h7 rfl ?_
      refine rn_alen dX2_init_30 h8 (by decide) ?_
      refine rn_icmp_ge (tgt := 53) dX2_init_31 (by decide) (fun c31 => ?_) (fun c31 => ?_)
      · refine rn_vret dX2_init_53 rfl ?_
        exact ⟨rfl, hz1, hK, h7, ⟨a, h8, ha⟩, hP, by omega, by omega⟩
      · exact absurd (by decide) c31
    | succ d ih =>
      intro i f1 a hi hz1 h7 h8 ha hP hK
      refine rn_iload_n dX2_init_25 rfl ?_
      refine rn_aload_n dX2_init_26 rfl ?_
      refine rn_get dX2_init_27 lfX2_11 h7 rfl ?_
      refine rn_alen dX2_init_30 h8 (by decide) ?_
      refine rn_icmp_ge (tgt := 53) dX2_init_31 (by decide) (fun c31 => ?_) (fun c31 => ?_)
      · have := ge_ex c31 (by omega) (by omega)
        omega
      · refine rn_aload_n dX2_init_34 rfl ?_
        refine rn_get dX2_init_35 lfX2_11 h7 rfl ?_
        refine rn_iload_n dX2_init_38 rfl ?_
        refine rf_new (k := 6 * d + 5) (n := 78 * d + 68) (ci := 4) (C := RX4) (T := TX4) (N := 10) (fs := [.int 0, .int 0, .int 0, .int 0, .int 0, .null, .null, .null, .null, .null]) dX2_init_39 lkX2_9 liX4 lzX4 rfl inX4 tyX4 tyX4_ok (fun j hj => match j, hj with | 0, _ => rfl | 1, _ => rfl | 2, _ => rfl | 3, _ => rfl | 4, _ => rfl | 5, _ => rfl | 6, _ => rfl | 7, _ => rfl | 8, _ => rfl | 9, _ => rfl | j + 10, h => absurd h (by omega)) (fun _ => rfl) (by omega) (by omega) hz1 (fun f2 hz2 k2 s2 => ?_)
        refine rn_dup dX2_init_42 rfl ?_
        refine rf_callI (k := 6 * d) (n := 78 * d) dX2_init_43 lmX2_24 ⟨Nat.le_of_ble_eq_true rfl, Nat.le_of_ble_eq_true rfl⟩ (ct_X4_init (q := 9 + 6 * i) g hz2 s2) rfl rfl (Nat.le_of_ble_eq_true rfl) (by omega) (by omega) ?_
        rintro _ f3 ⟨rfl, hz3, k3, u3⟩
        have h73 := (k3 7 (by omega)).trans ((k2 7 (by omega)).trans h7)
        have h83 := (k3 8 (by omega)).trans ((k2 8 (by omega)).trans h8)
        refine rn_aast dX2_init_46 h83 u3.1 (vp_in_nI (by omega) (by omega)) ?_
        rw [nI_clamp (by omega)]
        refine Wp.gen (fun f4 k4 o4 => ?_)
        refine rn_iinc (v := nI (i + 1)) dX2_init_47 rfl (nI_1 i) (Nat.le_of_ble_eq_true rfl) rfl ?_
        refine rn_goto (tgt := 25) dX2_init_50 (by decide) ?_
        refine ih (i + 1) f4 (va_up a i (some (9 + 6 * i))) (by omega) (fun j => ?_) ((k4 7 (by omega)).trans h73) o4 (fun j hj => ?_) (fun j hj => ?_) (fun j hj => ?_)
        · by_cases hj : j = 8
          · rw [hj, o4]
            constructor
            · intro q; cases q
            · intro q; omega
          · rw [k4 j hj, hz3 j]
            omega
        · by_cases e : j = i
          · rw [e]; simp [va_up]
          · have : va_up a i (some (9 + 6 * i)) j = a j := by simp [va_up, e]
            rw [this]; exact ha j (by omega)
        · by_cases e : j = i
          · rw [e]; exact u3.keep (fun k a b => k4 k (by omega))
          · exact (hP j (by omega)).keep (fun k a b => (k4 k (by omega)).trans ((k3 k (by omega)).trans (k2 k (by omega))))
        · exact (k4 j (by omega)).trans ((k3 j (by omega)).trans ((k2 j (by omega)).trans (hK j hj)))
  refine rn_aload_n dX2_init_0 rfl ?_
  refine rn_obj dX2_init_1 loX2_3 ⟨Nat.le_of_ble_eq_true rfl, Nat.le_of_ble_eq_true rfl⟩ (Nat.le_of_ble_eq_true rfl) ?_
  refine rn_aload_n dX2_init_4 rfl ?_
  refine rn_bipush (v := nI 6) dX2_init_5 (by decide) ?_
  refine rf_qa (k := 36) (n := 468) dX2_init_7 dX2_init_10 lkX2_9 lpX2_11 rfl o0 (fun _ => rfl) (fun _ => rfl) (Nat.le_of_ble_eq_true rfl) (Nat.le_of_ble_eq_true rfl) rfl rfl hz (fun f1 (hz1 : FZ f1 9) k1 (o1 : f1 7 = some (.inr (2, [.ref 8, .int 0, .int 0]))) a1 => ?_)
  refine rn_aload_n dX2_init_13 rfl ?_
  refine rn_iconst (v := nI 0) dX2_init_14 (by decide) ?_
  refine rf_put dX2_init_15 lpX2_17 o1 rfl rfl (Nat.le_of_ble_eq_true rfl) hz1 (fun f2 hz2 k2 (o2 : f2 7 = some (.inr (2, [.ref 8, .int (nI 0), .int 0]))) => ?_)
  refine rn_aload_n dX2_init_18 rfl ?_
  refine rn_iconst (v := nI 0) dX2_init_19 (by decide) ?_
  refine rf_put dX2_init_20 lpX2_21 o2 rfl rfl (Nat.le_of_ble_eq_true rfl) hz2 (fun f3 hz3 k3 (o3 : f3 7 = some (.inr (2, [.ref 8, .int (nI 0), .int (nI 0)]))) => ?_)
  refine rn_iconst (v := nI 0) dX2_init_23 (by decide) ?_
  refine rn_istore_n dX2_init_24 (Nat.le_of_ble_eq_true rfl) rfl ?_
  exact loop 6 0 f3 (fun _ => none) (by omega) hz3 o3 ((k3 8 (by omega)).trans ((k2 8 (by omega)).trans a1)) (fun j hj => by omega) (fun j hj => by omega) (fun j hj => (k3 j (by omega)).trans ((k2 j (by omega)).trans (k1 j (by omega) (by omega))))
theorem ct_X5_init (g : GG) {f : Mm} (hz : FZ f (46)) (o0 : f 45 = some (.inr (5, [.null, .int 0, .null, .int 0, .int 0, .int 0, .int 0]))) : Ct g MX5_init [.ref 45] f 7 238 (fun r f' => r = none ∧ FZ f' (53) ∧ (∀ j, j < 45 → f' j = f j) ∧ f' 45 = some (RDE 0 0 0 0 0) ∧ AR f' 46 160 zF ∧ PB f' 47 P0) := by
  refine Ct.of ok_MX5_init (Nat.le_of_ble_eq_true rfl) ?_
  change Wp g MX5_init 0 [some (.ref 45)] [] f 7 238 _
  have K : ∀ j, j < 45 → f j = f j := fun _ _ => rfl
  refine rn_aload_n dX5_init_0 rfl ?_
  refine rn_obj dX5_init_1 loX5_3 ⟨Nat.le_of_ble_eq_true rfl, Nat.le_of_ble_eq_true rfl⟩ (Nat.le_of_ble_eq_true rfl) ?_
  refine rn_aload_n dX5_init_4 rfl ?_
  refine rn_sipush (v := nI 160) dX5_init_5 (by decide) ?_
  refine rf_ia (k := 6) (n := 78) dX5_init_8 dX5_init_10 lpX5_9 rfl o0 (Nat.le_of_ble_eq_true rfl) (Nat.le_of_ble_eq_true rfl) rfl rfl hz (fun f1 (hz1 : FZ f1 (47)) k1 (o1 : f1 45 = some (.inr (5, [.ref 46, .int 0, .null, .int 0, .int 0, .int 0, .int 0]))) (a1 : f1 46 = some (.inl (0, 160, .inl (fun _ => 0)))) => ?_)
  have K : ∀ j, j < 45 → f1 j = f j := fun j a => (k1 j (by omega) (by omega)).trans (K j a)
  refine rn_aload_n dX5_init_13 rfl ?_
  refine rn_iconst (v := nI 0) dX5_init_14 (by decide) ?_
  refine rf_put dX5_init_15 lpX5_15 o1 rfl rfl (Nat.le_of_ble_eq_true rfl) hz1 (fun f2 hz2 k2 (o2 : f2 45 = some (.inr (5, [.ref 46, .int (nI 0), .null, .int 0, .int 0, .int 0, .int 0]))) => ?_)
  have K : ∀ j, j < 45 → f2 j = f j := fun j a => (k2 j (by omega)).trans (K j a)
  have a1 := (k2 46 (by omega)).trans a1
  refine rn_aload_n dX5_init_18 rfl ?_
  refine rf_new (k := 5) (n := 68) (ci := 4) (C := RX4) (T := TX4) (N := 10) (fs := [.int 0, .int 0, .int 0, .int 0, .int 0, .null, .null, .null, .null, .null]) dX5_init_19 lkX5_19 liX4 lzX4 rfl inX4 tyX4 tyX4_ok (fun j hj => match j, hj with | 0, _ => rfl | 1, _ => rfl | 2, _ => rfl | 3, _ => rfl | 4, _ => rfl | 5, _ => rfl | 6, _ => rfl | 7, _ => rfl | 8, _ => rfl | 9, _ => rfl | j + 10, h => absurd h (by omega)) (fun _ => rfl) rfl rfl hz2 (fun f3 (hz3 : FZ f3 (48)) k3 s3 => ?_)
  have K : ∀ j, j < 45 → f3 j = f j := fun j a => (k3 j (by omega)).trans (K j a)
  have o3 := (k3 45 (by omega)).trans o2
  have a1 := (k3 46 (by omega)).trans a1
  refine rn_dup dX5_init_22 rfl ?_
  refine rf_callI (k := 0) (n := 0) dX5_init_23 lmX5_21 ⟨Nat.le_of_ble_eq_true rfl, Nat.le_of_ble_eq_true rfl⟩ (ct_X4_init (q := 47) g hz3 s3) rfl rfl (Nat.le_of_ble_eq_true rfl) rfl rfl ?_
  rintro _ f4 ⟨rfl, hz4, k4, u4⟩
  have K : ∀ j, j < 45 → f4 j = f j := fun j a => (k4 j (by omega)).trans (K j a)
  have o4 := (k4 45 (by omega)).trans o3
  have a1 := (k4 46 (by omega)).trans a1
  have C4 : ∀ j, 46 < j → j < 53 → f4 j = f4 j := fun _ _ _ => rfl
  refine rf_putF dX5_init_26 lpX5_22 rfl o4 rfl rfl (Nat.le_of_ble_eq_true rfl) hz4 (fun f5 hz5 k5 (o5 : f5 45 = some (.inr (5, [.ref 46, .int (nI 0), .ref 47, .int 0, .int 0, .int 0, .int 0]))) => ?_)
  have K : ∀ j, j < 45 → f5 j = f j := fun j a => (k5 j (by omega)).trans (K j a)
  have a1 := (k5 46 (by omega)).trans a1
  have C4 : ∀ j, 46 < j → j < 53 → f5 j = f4 j := fun j a b => (k5 j (by omega)).trans (C4 j a b)
  refine rn_aload_n dX5_init_29 rfl ?_
  refine rn_iconst (v := nI 0) dX5_init_30 (by decide) ?_
  refine rf_put dX5_init_31 lpX5_26 o5 rfl rfl (Nat.le_of_ble_eq_true rfl) hz5 (fun f6 hz6 k6 (o6 : f6 45 = some (.inr (5, [.ref 46, .int (nI 0), .ref 47, .int (nI 0), .int 0, .int 0, .int 0]))) => ?_)
  have K : ∀ j, j < 45 → f6 j = f j := fun j a => (k6 j (by omega)).trans (K j a)
  have a1 := (k6 46 (by omega)).trans a1
  have C4 : ∀ j, 46 < j → j < 53 → f6 j = f4 j := fun j a b => (k6 j (by omega)).trans (C4 j a b)
  refine rn_aload_n dX5_init_34 rfl ?_
  refine rn_iconst (v := nI 0) dX5_init_35 (by decide) ?_
  refine rf_put dX5_init_36 lpX5_29 o6 rfl rfl (Nat.le_of_ble_eq_true rfl) hz6 (fun f7 hz7 k7 (o7 : f7 45 = some (.inr (5, [.ref 46, .int (nI 0), .ref 47, .int (nI 0), .int (nI 0), .int 0, .int 0]))) => ?_)
  have K : ∀ j, j < 45 → f7 j = f j := fun j a => (k7 j (by omega)).trans (K j a)
  have a1 := (k7 46 (by omega)).trans a1
  have C4 : ∀ j, 46 < j → j < 53 → f7 j = f4 j := fun j a b => (k7 j (by omega)).trans (C4 j a b)
  refine rn_aload_n dX5_init_39 rfl ?_
  refine rn_iconst (v := nI 0) dX5_init_40 (by decide) ?_
  refine rf_put dX5_init_41 lpX5_32 o7 rfl rfl (Nat.le_of_ble_eq_true rfl) hz7 (fun f8 hz8 k8 (o8 : f8 45 = some (.inr (5, [.ref 46, .int (nI 0), .ref 47, .int (nI 0), .int (nI 0), .int (nI 0), .int 0]))) => ?_)
  have K : ∀ j, j < 45 → f8 j = f j := fun j a => (k8 j (by omega)).trans (K j a)
  have a1 := (k8 46 (by omega)).trans a1
  have C4 : ∀ j, 46 < j → j < 53 → f8 j = f4 j := fun j a b => (k8 j (by omega)).trans (C4 j a b)
  refine rn_aload_n dX5_init_44 rfl ?_
  refine rn_iconst (v := nI 0) dX5_init_45 (by decide) ?_
  refine rf_put dX5_init_46 lpX5_35 o8 rfl rfl (Nat.le_of_ble_eq_true rfl) hz8 (fun f9 hz9 k9 (o9 : f9 45 = some (.inr (5, [.ref 46, .int (nI 0), .ref 47, .int (nI 0), .int (nI 0), .int (nI 0), .int (nI 0)]))) => ?_)
  have K : ∀ j, j < 45 → f9 j = f j := fun j a => (k9 j (by omega)).trans (K j a)
  have a1 := (k9 46 (by omega)).trans a1
  have C4 : ∀ j, 46 < j → j < 53 → f9 j = f4 j := fun j a b => (k9 j (by omega)).trans (C4 j a b)
  refine rn_vret dX5_init_49 rfl ?_
  exact ⟨rfl, hz9, K, o9, ⟨_, a1, fun _ _ => rfl⟩, u4.keep (fun k a b => C4 k (by omega) (by omega))⟩
theorem ct_X1_init (g : GG) {f : Mm} (hz : FZ f (54)) (o0 : f 53 = some (.inr (1, [.null, .null]))) : Ct g MX1_init [.ref 53] f 2 72 (fun r f' => r = none ∧ FZ f' (56) ∧ (∀ j, j < 53 → f' j = f j) ∧ f' 53 = some FE ∧ AR f' 54 64 zF ∧ AR f' 55 8 zF) := by
  refine Ct.of ok_MX1_init (Nat.le_of_ble_eq_true rfl) ?_
  change Wp g MX1_init 0 [some (.ref 53)] [] f 2 72 _
  have K : ∀ j, j < 53 → f j = f j := fun _ _ => rfl
  refine rn_aload_n dX1_init_0 rfl ?_
  refine rn_obj dX1_init_1 loX1_3 ⟨Nat.le_of_ble_eq_true rfl, Nat.le_of_ble_eq_true rfl⟩ (Nat.le_of_ble_eq_true rfl) ?_
  refine rn_aload_n dX1_init_4 rfl ?_
  refine rn_bipush (v := nI 64) dX1_init_5 (by decide) ?_
  refine rf_ia (k := 1) (n := 8) dX1_init_7 dX1_init_9 lpX1_9 rfl o0 (Nat.le_of_ble_eq_true rfl) (Nat.le_of_ble_eq_true rfl) rfl rfl hz (fun f1 (hz1 : FZ f1 (55)) k1 (o1 : f1 53 = some (.inr (1, [.ref 54, .null]))) (a1 : f1 54 = some (.inl (0, 64, .inl (fun _ => 0)))) => ?_)
  have K : ∀ j, j < 53 → f1 j = f j := fun j a => (k1 j (by omega) (by omega)).trans (K j a)
  refine rn_aload_n dX1_init_12 rfl ?_
  refine rn_bipush (v := nI 8) dX1_init_13 (by decide) ?_
  refine rf_ia (k := 0) (n := 0) dX1_init_15 dX1_init_17 lpX1_15 rfl o1 (Nat.le_of_ble_eq_true rfl) (Nat.le_of_ble_eq_true rfl) rfl rfl hz1 (fun f2 (hz2 : FZ f2 (56)) k2 (o2 : f2 53 = some (.inr (1, [.ref 54, .ref 55]))) (a2 : f2 55 = some (.inl (0, 8, .inl (fun _ => 0)))) => ?_)
  have K : ∀ j, j < 53 → f2 j = f j := fun j a => (k2 j (by omega) (by omega)).trans (K j a)
  have a1 := (k2 54 (by omega) (by omega)).trans a1
  refine rn_vret dX1_init_20 rfl ?_
  exact ⟨rfl, hz2, K, o2, ⟨_, a1, fun _ _ => rfl⟩, ⟨_, a2, fun _ _ => rfl⟩⟩
theorem ct_X3_init (g : GG) {f : Mm} (hz : FZ f (57)) (o0 : f 56 = some (.inr (3, [.null, .null, .null, .null, .int 0, .long 0]))) : Ct g MX3_init [.ref 56] f 4 3877 (fun r f' => r = none ∧ FZ f' (61) ∧ (∀ j, j < 56 → f' j = f j) ∧ PLc f' [] 0 ∧ AR f' 59 1280 zF ∧ AR f' 60 37 zF) := by
  refine Ct.of ok_MX3_init (Nat.le_of_ble_eq_true rfl) ?_
  change Wp g MX3_init 0 [some (.ref 56)] [] f 4 3877 _
  have K : ∀ j, j < 56 → f j = f j := fun _ _ => rfl
  refine rn_aload_n dX3_init_0 rfl ?_
  refine rn_obj dX3_init_1 loX3_3 ⟨Nat.le_of_ble_eq_true rfl, Nat.le_of_ble_eq_true rfl⟩ (Nat.le_of_ble_eq_true rfl) ?_
  refine rn_aload_n dX3_init_4 rfl ?_
  refine rn_sipush (v := nI 1280) dX3_init_5 (by decide) ?_
  refine rf_la (k := 3) (n := 2597) dX3_init_8 dX3_init_10 lpX3_9 rfl o0 (Nat.le_of_ble_eq_true rfl) (Nat.le_of_ble_eq_true rfl) rfl rfl hz (fun f1 (hz1 : FZ f1 (58)) k1 (o1 : f1 56 = some (.inr (3, [.ref 57, .null, .null, .null, .int 0, .long 0]))) (a1 : f1 57 = some (.inl (1, 1280, .inr (.inl (fun _ => 0))))) => ?_)
  have K : ∀ j, j < 56 → f1 j = f j := fun j a => (k1 j (by omega) (by omega)).trans (K j a)
  refine rn_aload_n dX3_init_13 rfl ?_
  refine rn_sipush (v := nI 1280) dX3_init_14 (by decide) ?_
  refine rf_ia (k := 2) (n := 1317) dX3_init_17 dX3_init_19 lpX3_15 rfl o1 (Nat.le_of_ble_eq_true rfl) (Nat.le_of_ble_eq_true rfl) rfl rfl hz1 (fun f2 (hz2 : FZ f2 (59)) k2 (o2 : f2 56 = some (.inr (3, [.ref 57, .ref 58, .null, .null, .int 0, .long 0]))) (a2 : f2 58 = some (.inl (0, 1280, .inl (fun _ => 0)))) => ?_)
  have K : ∀ j, j < 56 → f2 j = f j := fun j a => (k2 j (by omega) (by omega)).trans (K j a)
  have a1 := (k2 57 (by omega) (by omega)).trans a1
  refine rn_aload_n dX3_init_22 rfl ?_
  refine rn_sipush (v := nI 1280) dX3_init_23 (by decide) ?_
  refine rf_ia (k := 1) (n := 37) dX3_init_26 dX3_init_28 lpX3_19 rfl o2 (Nat.le_of_ble_eq_true rfl) (Nat.le_of_ble_eq_true rfl) rfl rfl hz2 (fun f3 (hz3 : FZ f3 (60)) k3 (o3 : f3 56 = some (.inr (3, [.ref 57, .ref 58, .ref 59, .null, .int 0, .long 0]))) (a3 : f3 59 = some (.inl (0, 1280, .inl (fun _ => 0)))) => ?_)
  have K : ∀ j, j < 56 → f3 j = f j := fun j a => (k3 j (by omega) (by omega)).trans (K j a)
  have a1 := (k3 57 (by omega) (by omega)).trans a1
  have a2 := (k3 58 (by omega) (by omega)).trans a2
  refine rn_aload_n dX3_init_31 rfl ?_
  refine rn_bipush (v := nI 37) dX3_init_32 (by decide) ?_
  refine rf_ia (k := 0) (n := 0) dX3_init_34 dX3_init_36 lpX3_22 rfl o3 (Nat.le_of_ble_eq_true rfl) (Nat.le_of_ble_eq_true rfl) rfl rfl hz3 (fun f4 (hz4 : FZ f4 (61)) k4 (o4 : f4 56 = some (.inr (3, [.ref 57, .ref 58, .ref 59, .ref 60, .int 0, .long 0]))) (a4 : f4 60 = some (.inl (0, 37, .inl (fun _ => 0)))) => ?_)
  have K : ∀ j, j < 56 → f4 j = f j := fun j a => (k4 j (by omega) (by omega)).trans (K j a)
  have a1 := (k4 57 (by omega) (by omega)).trans a1
  have a2 := (k4 58 (by omega) (by omega)).trans a2
  have a3 := (k4 59 (by omega) (by omega)).trans a3
  refine rn_aload_n dX3_init_39 rfl ?_
  refine rn_iconst (v := nI 0) dX3_init_40 (by decide) ?_
  refine rf_put dX3_init_41 lpX3_25 o4 rfl rfl (Nat.le_of_ble_eq_true rfl) hz4 (fun f5 hz5 k5 (o5 : f5 56 = some (.inr (3, [.ref 57, .ref 58, .ref 59, .ref 60, .int (nI 0), .long 0]))) => ?_)
  have K : ∀ j, j < 56 → f5 j = f j := fun j a => (k5 j (by omega)).trans (K j a)
  have a1 := (k5 57 (by omega)).trans a1
  have a2 := (k5 58 (by omega)).trans a2
  have a3 := (k5 59 (by omega)).trans a3
  have a4 := (k5 60 (by omega)).trans a4
  refine rn_aload_n dX3_init_44 rfl ?_
  refine rn_lconst (v := 0) dX3_init_45 (by decide) ?_
  refine rf_put dX3_init_46 lpX3_29 o5 rfl rfl (Nat.le_of_ble_eq_true rfl) hz5 (fun f6 hz6 k6 (o6 : f6 56 = some (.inr (3, [.ref 57, .ref 58, .ref 59, .ref 60, .int (nI 0), .long 0]))) => ?_)
  have K : ∀ j, j < 56 → f6 j = f j := fun j a => (k6 j (by omega)).trans (K j a)
  have a1 := (k6 57 (by omega)).trans a1
  have a2 := (k6 58 (by omega)).trans a2
  have a3 := (k6 59 (by omega)).trans a3
  have a4 := (k6 60 (by omega)).trans a4
  refine rn_vret dX3_init_49 rfl ?_
  exact ⟨rfl, hz6, K, ⟨o6, ⟨_, a1, fun k e h => (by cases h)⟩, ⟨_, a2, fun k e h => (by cases h)⟩⟩, ⟨_, a3, fun _ _ => rfl⟩, ⟨_, a4, fun _ _ => rfl⟩⟩
theorem ct_X8_init (g : GG) {f : Mm} (hz : FZ f (62)) (o0 : f 61 = some (.inr (7, [.null, .int 0]))) : Ct g MX8_init [.ref 61] f 1 288 (fun r f' => r = none ∧ FZ f' (63) ∧ (∀ j, j < 61 → f' j = f j) ∧ f' 61 = some (SYE 0) ∧ AR f' 62 288 zF) := by
  refine Ct.of ok_MX8_init (Nat.le_of_ble_eq_true rfl) ?_
  change Wp g MX8_init 0 [some (.ref 61)] [] f 1 288 _
  have K : ∀ j, j < 61 → f j = f j := fun _ _ => rfl
  refine rn_aload_n dX8_init_0 rfl ?_
  refine rn_obj dX8_init_1 loX8_3 ⟨Nat.le_of_ble_eq_true rfl, Nat.le_of_ble_eq_true rfl⟩ (Nat.le_of_ble_eq_true rfl) ?_
  refine rn_aload_n dX8_init_4 rfl ?_
  refine rn_sipush (v := nI 288) dX8_init_5 (by decide) ?_
  refine rf_ia (k := 0) (n := 0) dX8_init_8 dX8_init_10 lpX8_9 rfl o0 (Nat.le_of_ble_eq_true rfl) (Nat.le_of_ble_eq_true rfl) rfl rfl hz (fun f1 (hz1 : FZ f1 (63)) k1 (o1 : f1 61 = some (.inr (7, [.ref 62, .int 0]))) (a1 : f1 62 = some (.inl (0, 288, .inl (fun _ => 0)))) => ?_)
  have K : ∀ j, j < 61 → f1 j = f j := fun j a => (k1 j (by omega) (by omega)).trans (K j a)
  refine rn_aload_n dX8_init_13 rfl ?_
  refine rn_iconst (v := nI 0) dX8_init_14 (by decide) ?_
  refine rf_put dX8_init_15 lpX8_15 o1 rfl rfl (Nat.le_of_ble_eq_true rfl) hz1 (fun f2 hz2 k2 (o2 : f2 61 = some (.inr (7, [.ref 62, .int (nI 0)]))) => ?_)
  have K : ∀ j, j < 61 → f2 j = f j := fun j a => (k2 j (by omega)).trans (K j a)
  have a1 := (k2 62 (by omega)).trans a1
  refine rn_vret dX8_init_18 rfl ?_
  exact ⟨rfl, hz2, K, o2, ⟨_, a1, fun _ _ => rfl⟩⟩
theorem ct_X9_init (g : GG) {f : Mm} (hz : FZ f (64)) (o0 : f 63 = some (.inr (8, [.null, .null, .null, .null, .null, .null, .long 0, .long 0, .long 0, .int 0, .int 0, .int 0, .int 0, .int 0, .int 0, .int 0]))) : Ct g MX9_init [.ref 63, .ref 1, .ref 56] f 4 84 (fun r f' => r = none ∧ FZ f' (68) ∧ (∀ j, j < 63 → f' j = f j) ∧ WKa f') := by
  refine Ct.of ok_MX9_init (Nat.le_of_ble_eq_true rfl) ?_
  change Wp g MX9_init 0 [some (.ref 63), some (.ref 1), some (.ref 56)] [] f 4 84 _
  have K : ∀ j, j < 63 → f j = f j := fun _ _ => rfl
  refine rn_aload_n dX9_init_0 rfl ?_
  refine rn_obj dX9_init_1 loX9_3 ⟨Nat.le_of_ble_eq_true rfl, Nat.le_of_ble_eq_true rfl⟩ (Nat.le_of_ble_eq_true rfl) ?_
  refine rn_aload_n dX9_init_4 rfl ?_
  refine rn_bipush (v := nI 36) dX9_init_5 (by decide) ?_
  refine rf_ia (k := 3) (n := 48) dX9_init_7 dX9_init_9 lpX9_9 rfl o0 (Nat.le_of_ble_eq_true rfl) (Nat.le_of_ble_eq_true rfl) rfl rfl hz (fun f1 (hz1 : FZ f1 (65)) k1 (o1 : f1 63 = some (.inr (8, [.null, .null, .ref 64, .null, .null, .null, .long 0, .long 0, .long 0, .int 0, .int 0, .int 0, .int 0, .int 0, .int 0, .int 0]))) (a1 : f1 64 = some (.inl (0, 36, .inl (fun _ => 0)))) => ?_)
  have K : ∀ j, j < 63 → f1 j = f j := fun j a => (k1 j (by omega) (by omega)).trans (K j a)
  refine rn_aload_n dX9_init_12 rfl ?_
  refine rn_bipush (v := nI 36) dX9_init_13 (by decide) ?_
  refine rf_ia (k := 2) (n := 12) dX9_init_15 dX9_init_17 lpX9_15 rfl o1 (Nat.le_of_ble_eq_true rfl) (Nat.le_of_ble_eq_true rfl) rfl rfl hz1 (fun f2 (hz2 : FZ f2 (66)) k2 (o2 : f2 63 = some (.inr (8, [.null, .null, .ref 64, .ref 65, .null, .null, .long 0, .long 0, .long 0, .int 0, .int 0, .int 0, .int 0, .int 0, .int 0, .int 0]))) (a2 : f2 65 = some (.inl (0, 36, .inl (fun _ => 0)))) => ?_)
  have K : ∀ j, j < 63 → f2 j = f j := fun j a => (k2 j (by omega) (by omega)).trans (K j a)
  have a1 := (k2 64 (by omega) (by omega)).trans a1
  refine rn_aload_n dX9_init_20 rfl ?_
  refine rn_bipush (v := nI 8) dX9_init_21 (by decide) ?_
  refine rf_ia (k := 1) (n := 4) dX9_init_23 dX9_init_25 lpX9_18 rfl o2 (Nat.le_of_ble_eq_true rfl) (Nat.le_of_ble_eq_true rfl) rfl rfl hz2 (fun f3 (hz3 : FZ f3 (67)) k3 (o3 : f3 63 = some (.inr (8, [.null, .null, .ref 64, .ref 65, .ref 66, .null, .long 0, .long 0, .long 0, .int 0, .int 0, .int 0, .int 0, .int 0, .int 0, .int 0]))) (a3 : f3 66 = some (.inl (0, 8, .inl (fun _ => 0)))) => ?_)
  have K : ∀ j, j < 63 → f3 j = f j := fun j a => (k3 j (by omega) (by omega)).trans (K j a)
  have a1 := (k3 64 (by omega) (by omega)).trans a1
  have a2 := (k3 65 (by omega) (by omega)).trans a2
  refine rn_aload_n dX9_init_28 rfl ?_
  refine rn_iconst (v := nI 4) dX9_init_29 (by decide) ?_
  refine rf_la (k := 0) (n := 0) dX9_init_30 dX9_init_32 lpX9_21 rfl o3 (Nat.le_of_ble_eq_true rfl) (Nat.le_of_ble_eq_true rfl) rfl rfl hz3 (fun f4 (hz4 : FZ f4 (68)) k4 (o4 : f4 63 = some (.inr (8, [.null, .null, .ref 64, .ref 65, .ref 66, .ref 67, .long 0, .long 0, .long 0, .int 0, .int 0, .int 0, .int 0, .int 0, .int 0, .int 0]))) (a4 : f4 67 = some (.inl (1, 4, .inr (.inl (fun _ => 0))))) => ?_)
  have K : ∀ j, j < 63 → f4 j = f j := fun j a => (k4 j (by omega) (by omega)).trans (K j a)
  have a1 := (k4 64 (by omega) (by omega)).trans a1
  have a2 := (k4 65 (by omega) (by omega)).trans a2
  have a3 := (k4 66 (by omega) (by omega)).trans a3
  refine rn_aload_n dX9_init_35 rfl ?_
  refine rn_lconst (v := 0) dX9_init_36 (by decide) ?_
  refine rf_put dX9_init_37 lpX9_25 o4 rfl rfl (Nat.le_of_ble_eq_true rfl) hz4 (fun f5 hz5 k5 (o5 : f5 63 = some (.inr (8, [.null, .null, .ref 64, .ref 65, .ref 66, .ref 67, .long 0, .long 0, .long 0, .int 0, .int 0, .int 0, .int 0, .int 0, .int 0, .int 0]))) => ?_)
  have K : ∀ j, j < 63 → f5 j = f j := fun j a => (k5 j (by omega)).trans (K j a)
  have a1 := (k5 64 (by omega)).trans a1
  have a2 := (k5 65 (by omega)).trans a2
  have a3 := (k5 66 (by omega)).trans a3
  have a4 := (k5 67 (by omega)).trans a4
  refine rn_aload_n dX9_init_40 rfl ?_
  refine rn_lconst (v := 0) dX9_init_41 (by decide) ?_
  refine rf_put dX9_init_42 lpX9_29 o5 rfl rfl (Nat.le_of_ble_eq_true rfl) hz5 (fun f6 hz6 k6 (o6 : f6 63 = some (.inr (8, [.null, .null, .ref 64, .ref 65, .ref 66, .ref 67, .long 0, .long 0, .long 0, .int 0, .int 0, .int 0, .int 0, .int 0, .int 0, .int 0]))) => ?_)
  have K : ∀ j, j < 63 → f6 j = f j := fun j a => (k6 j (by omega)).trans (K j a)
  have a1 := (k6 64 (by omega)).trans a1
  have a2 := (k6 65 (by omega)).trans a2
  have a3 := (k6 66 (by omega)).trans a3
  have a4 := (k6 67 (by omega)).trans a4
  refine rn_aload_n dX9_init_45 rfl ?_
  refine rn_lconst (v := 0) dX9_init_46 (by decide) ?_
  refine rf_put dX9_init_47 lpX9_32 o6 rfl rfl (Nat.le_of_ble_eq_true rfl) hz6 (fun f7 hz7 k7 (o7 : f7 63 = some (.inr (8, [.null, .null, .ref 64, .ref 65, .ref 66, .ref 67, .long 0, .long 0, .long 0, .int 0, .int 0, .int 0, .int 0, .int 0, .int 0, .int 0]))) => ?_)
  have K : ∀ j, j < 63 → f7 j = f j := fun j a => (k7 j (by omega)).trans (K j a)
  have a1 := (k7 64 (by omega)).trans a1
  have a2 := (k7 65 (by omega)).trans a2
  have a3 := (k7 66 (by omega)).trans a3
  have a4 := (k7 67 (by omega)).trans a4
  refine rn_aload_n dX9_init_50 rfl ?_
  refine rn_iconst (v := nI 0) dX9_init_51 (by decide) ?_
  refine rf_put dX9_init_52 lpX9_35 o7 rfl rfl (Nat.le_of_ble_eq_true rfl) hz7 (fun f8 hz8 k8 (o8 : f8 63 = some (.inr (8, [.null, .null, .ref 64, .ref 65, .ref 66, .ref 67, .long 0, .long 0, .long 0, .int (nI 0), .int 0, .int 0, .int 0, .int 0, .int 0, .int 0]))) => ?_)
  have K : ∀ j, j < 63 → f8 j = f j := fun j a => (k8 j (by omega)).trans (K j a)
  have a1 := (k8 64 (by omega)).trans a1
  have a2 := (k8 65 (by omega)).trans a2
  have a3 := (k8 66 (by omega)).trans a3
  have a4 := (k8 67 (by omega)).trans a4
  refine rn_aload_n dX9_init_55 rfl ?_
  refine rn_iconst (v := nI 0) dX9_init_56 (by decide) ?_
  refine rf_put dX9_init_57 lpX9_39 o8 rfl rfl (Nat.le_of_ble_eq_true rfl) hz8 (fun f9 hz9 k9 (o9 : f9 63 = some (.inr (8, [.null, .null, .ref 64, .ref 65, .ref 66, .ref 67, .long 0, .long 0, .long 0, .int (nI 0), .int (nI 0), .int 0, .int 0, .int 0, .int 0, .int 0]))) => ?_)
  have K : ∀ j, j < 63 → f9 j = f j := fun j a => (k9 j (by omega)).trans (K j a)
  have a1 := (k9 64 (by omega)).trans a1
  have a2 := (k9 65 (by omega)).trans a2
  have a3 := (k9 66 (by omega)).trans a3
  have a4 := (k9 67 (by omega)).trans a4
  refine rn_aload_n dX9_init_60 rfl ?_
  refine rn_iconst (v := nI 0) dX9_init_61 (by decide) ?_
  refine rf_put dX9_init_62 lpX9_42 o9 rfl rfl (Nat.le_of_ble_eq_true rfl) hz9 (fun f10 hz10 k10 (o10 : f10 63 = some (.inr (8, [.null, .null, .ref 64, .ref 65, .ref 66, .ref 67, .long 0, .long 0, .long 0, .int (nI 0), .int (nI 0), .int (nI 0), .int 0, .int 0, .int 0, .int 0]))) => ?_)
  have K : ∀ j, j < 63 → f10 j = f j := fun j a => (k10 j (by omega)).trans (K j a)
  have a1 := (k10 64 (by omega)).trans a1
  have a2 := (k10 65 (by omega)).trans a2
  have a3 := (k10 66 (by omega)).trans a3
  have a4 := (k10 67 (by omega)).trans a4
  refine rn_aload_n dX9_init_65 rfl ?_
  refine rn_iconst (v := nI 0) dX9_init_66 (by decide) ?_
  refine rf_put dX9_init_67 lpX9_45 o10 rfl rfl (Nat.le_of_ble_eq_true rfl) hz10 (fun f11 hz11 k11 (o11 : f11 63 = some (.inr (8, [.null, .null, .ref 64, .ref 65, .ref 66, .ref 67, .long 0, .long 0, .long 0, .int (nI 0), .int (nI 0), .int (nI 0), .int (nI 0), .int 0, .int 0, .int 0]))) => ?_)
  have K : ∀ j, j < 63 → f11 j = f j := fun j a => (k11 j (by omega)).trans (K j a)
  have a1 := (k11 64 (by omega)).trans a1
  have a2 := (k11 65 (by omega)).trans a2
  have a3 := (k11 66 (by omega)).trans a3
  have a4 := (k11 67 (by omega)).trans a4
  refine rn_aload_n dX9_init_70 rfl ?_
  refine rn_iconst (v := nI 0) dX9_init_71 (by decide) ?_
  refine rf_put dX9_init_72 lpX9_48 o11 rfl rfl (Nat.le_of_ble_eq_true rfl) hz11 (fun f12 hz12 k12 (o12 : f12 63 = some (.inr (8, [.null, .null, .ref 64, .ref 65, .ref 66, .ref 67, .long 0, .long 0, .long 0, .int (nI 0), .int (nI 0), .int (nI 0), .int (nI 0), .int (nI 0), .int 0, .int 0]))) => ?_)
  have K : ∀ j, j < 63 → f12 j = f j := fun j a => (k12 j (by omega)).trans (K j a)
  have a1 := (k12 64 (by omega)).trans a1
  have a2 := (k12 65 (by omega)).trans a2
  have a3 := (k12 66 (by omega)).trans a3
  have a4 := (k12 67 (by omega)).trans a4
  refine rn_aload_n dX9_init_75 rfl ?_
  refine rn_iconst (v := nI 1) dX9_init_76 (by decide) ?_
  refine rf_put dX9_init_77 lpX9_52 o12 rfl rfl (Nat.le_of_ble_eq_true rfl) hz12 (fun f13 hz13 k13 (o13 : f13 63 = some (.inr (8, [.null, .null, .ref 64, .ref 65, .ref 66, .ref 67, .long 0, .long 0, .long 0, .int (nI 0), .int (nI 0), .int (nI 0), .int (nI 0), .int (nI 0), .int (nI 1), .int 0]))) => ?_)
  have K : ∀ j, j < 63 → f13 j = f j := fun j a => (k13 j (by omega)).trans (K j a)
  have a1 := (k13 64 (by omega)).trans a1
  have a2 := (k13 65 (by omega)).trans a2
  have a3 := (k13 66 (by omega)).trans a3
  have a4 := (k13 67 (by omega)).trans a4
  refine rn_aload_n dX9_init_80 rfl ?_
  refine rn_iconst (v := nI 0) dX9_init_81 (by decide) ?_
  refine rf_put dX9_init_82 lpX9_55 o13 rfl rfl (Nat.le_of_ble_eq_true rfl) hz13 (fun f14 hz14 k14 (o14 : f14 63 = some (.inr (8, [.null, .null, .ref 64, .ref 65, .ref 66, .ref 67, .long 0, .long 0, .long 0, .int (nI 0), .int (nI 0), .int (nI 0), .int (nI 0), .int (nI 0), .int (nI 1), .int (nI 0)]))) => ?_)
  have K : ∀ j, j < 63 → f14 j = f j := fun j a => (k14 j (by omega)).trans (K j a)
  have a1 := (k14 64 (by omega)).trans a1
  have a2 := (k14 65 (by omega)).trans a2
  have a3 := (k14 66 (by omega)).trans a3
  have a4 := (k14 67 (by omega)).trans a4
  refine rn_aload_n dX9_init_85 rfl ?_
  refine rn_aload_n dX9_init_86 rfl ?_
  refine rf_putF dX9_init_87 lpX9_58 rfl o14 rfl rfl (Nat.le_of_ble_eq_true rfl) hz14 (fun f15 hz15 k15 (o15 : f15 63 = some (.inr (8, [.ref 1, .null, .ref 64, .ref 65, .ref 66, .ref 67, .long 0, .long 0, .long 0, .int (nI 0), .int (nI 0), .int (nI 0), .int (nI 0), .int (nI 0), .int (nI 1), .int (nI 0)]))) => ?_)
  have K : ∀ j, j < 63 → f15 j = f j := fun j a => (k15 j (by omega)).trans (K j a)
  have a1 := (k15 64 (by omega)).trans a1
  have a2 := (k15 65 (by omega)).trans a2
  have a3 := (k15 66 (by omega)).trans a3
  have a4 := (k15 67 (by omega)).trans a4
  refine rn_aload_n dX9_init_90 rfl ?_
  refine rn_aload_n dX9_init_91 rfl ?_
  refine rf_putF dX9_init_92 lpX9_62 rfl o15 rfl rfl (Nat.le_of_ble_eq_true rfl) hz15 (fun f16 hz16 k16 (o16 : f16 63 = some (.inr (8, [.ref 1, .ref 56, .ref 64, .ref 65, .ref 66, .ref 67, .long 0, .long 0, .long 0, .int (nI 0), .int (nI 0), .int (nI 0), .int (nI 0), .int (nI 0), .int (nI 1), .int (nI 0)]))) => ?_)
  have K : ∀ j, j < 63 → f16 j = f j := fun j a => (k16 j (by omega)).trans (K j a)
  have a1 := (k16 64 (by omega)).trans a1
  have a2 := (k16 65 (by omega)).trans a2
  have a3 := (k16 66 (by omega)).trans a3
  have a4 := (k16 67 (by omega)).trans a4
  refine rn_vret dX9_init_95 rfl ?_
  exact ⟨rfl, hz16, K, ⟨_, _, _, _, _, _, _, _, _, _, o16⟩, ⟨zF, ⟨_, a1, fun _ _ => rfl⟩⟩, ⟨zF, ⟨_, a2, fun _ _ => rfl⟩⟩, ⟨zF, ⟨_, a3, fun _ _ => rfl⟩⟩, ⟨fun _ => 0, _, a4, fun _ _ => rfl⟩⟩
theorem ct_X0_init (g : GG) {f : Mm} (hz : FZ f (69)) (o0 : f 68 = some (.inr (0, [.null, .null, .null, .null, .int 0, .int 0, .int 0, .int 0]))) : Ct g MX0_init [.ref 68, .ref 63, .ref 56, .ref 61] f 1 3672 (fun r f' => r = none ∧ FZ f' (70) ∧ (∀ j, j < 68 → f' j = f j) ∧ (∃ a b c d, f' 68 = some (CVR a b c d)) ∧ AR f' 69 3672 zF) := by
  refine Ct.of ok_MX0_init (Nat.le_of_ble_eq_true rfl) ?_
  change Wp g MX0_init 0 [some (.ref 68), some (.ref 63), some (.ref 56), some (.ref 61)] [] f 1 3672 _
  have K : ∀ j, j < 68 → f j = f j := fun _ _ => rfl
  refine rn_aload_n dX0_init_0 rfl ?_
  refine rn_obj dX0_init_1 loX0_3 ⟨Nat.le_of_ble_eq_true rfl, Nat.le_of_ble_eq_true rfl⟩ (Nat.le_of_ble_eq_true rfl) ?_
  refine rn_aload_n dX0_init_4 rfl ?_
  refine rn_sipush (v := nI 3672) dX0_init_5 (by decide) ?_
  refine rf_ia (k := 0) (n := 0) dX0_init_8 dX0_init_10 lpX0_9 rfl o0 (Nat.le_of_ble_eq_true rfl) (Nat.le_of_ble_eq_true rfl) rfl rfl hz (fun f1 (hz1 : FZ f1 (70)) k1 (o1 : f1 68 = some (.inr (0, [.null, .null, .null, .ref 69, .int 0, .int 0, .int 0, .int 0]))) (a1 : f1 69 = some (.inl (0, 3672, .inl (fun _ => 0)))) => ?_)
  have K : ∀ j, j < 68 → f1 j = f j := fun j a => (k1 j (by omega) (by omega)).trans (K j a)
  refine rn_aload_n dX0_init_13 rfl ?_
  refine rn_iconst (v := nI 0) dX0_init_14 (by decide) ?_
  refine rf_put dX0_init_15 lpX0_15 o1 rfl rfl (Nat.le_of_ble_eq_true rfl) hz1 (fun f2 hz2 k2 (o2 : f2 68 = some (.inr (0, [.null, .null, .null, .ref 69, .int (nI 0), .int 0, .int 0, .int 0]))) => ?_)
  have K : ∀ j, j < 68 → f2 j = f j := fun j a => (k2 j (by omega)).trans (K j a)
  have a1 := (k2 69 (by omega)).trans a1
  refine rn_aload_n dX0_init_18 rfl ?_
  refine rn_iconst (v := nI 0) dX0_init_19 (by decide) ?_
  refine rf_put dX0_init_20 lpX0_19 o2 rfl rfl (Nat.le_of_ble_eq_true rfl) hz2 (fun f3 hz3 k3 (o3 : f3 68 = some (.inr (0, [.null, .null, .null, .ref 69, .int (nI 0), .int (nI 0), .int 0, .int 0]))) => ?_)
  have K : ∀ j, j < 68 → f3 j = f j := fun j a => (k3 j (by omega)).trans (K j a)
  have a1 := (k3 69 (by omega)).trans a1
  refine rn_aload_n dX0_init_23 rfl ?_
  refine rn_iconst (v := nI 0) dX0_init_24 (by decide) ?_
  refine rf_put dX0_init_25 lpX0_22 o3 rfl rfl (Nat.le_of_ble_eq_true rfl) hz3 (fun f4 hz4 k4 (o4 : f4 68 = some (.inr (0, [.null, .null, .null, .ref 69, .int (nI 0), .int (nI 0), .int (nI 0), .int 0]))) => ?_)
  have K : ∀ j, j < 68 → f4 j = f j := fun j a => (k4 j (by omega)).trans (K j a)
  have a1 := (k4 69 (by omega)).trans a1
  refine rn_aload_n dX0_init_28 rfl ?_
  refine rn_iconst (v := nI 0) dX0_init_29 (by decide) ?_
  refine rf_put dX0_init_30 lpX0_25 o4 rfl rfl (Nat.le_of_ble_eq_true rfl) hz4 (fun f5 hz5 k5 (o5 : f5 68 = some (.inr (0, [.null, .null, .null, .ref 69, .int (nI 0), .int (nI 0), .int (nI 0), .int (nI 0)]))) => ?_)
  have K : ∀ j, j < 68 → f5 j = f j := fun j a => (k5 j (by omega)).trans (K j a)
  have a1 := (k5 69 (by omega)).trans a1
  refine rn_aload_n dX0_init_33 rfl ?_
  refine rn_aload_n dX0_init_34 rfl ?_
  refine rf_putF dX0_init_35 lpX0_29 rfl o5 rfl rfl (Nat.le_of_ble_eq_true rfl) hz5 (fun f6 hz6 k6 (o6 : f6 68 = some (.inr (0, [.ref 63, .null, .null, .ref 69, .int (nI 0), .int (nI 0), .int (nI 0), .int (nI 0)]))) => ?_)
  have K : ∀ j, j < 68 → f6 j = f j := fun j a => (k6 j (by omega)).trans (K j a)
  have a1 := (k6 69 (by omega)).trans a1
  refine rn_aload_n dX0_init_38 rfl ?_
  refine rn_aload_n dX0_init_39 rfl ?_
  refine rf_putF dX0_init_40 lpX0_33 rfl o6 rfl rfl (Nat.le_of_ble_eq_true rfl) hz6 (fun f7 hz7 k7 (o7 : f7 68 = some (.inr (0, [.ref 63, .ref 56, .null, .ref 69, .int (nI 0), .int (nI 0), .int (nI 0), .int (nI 0)]))) => ?_)
  have K : ∀ j, j < 68 → f7 j = f j := fun j a => (k7 j (by omega)).trans (K j a)
  have a1 := (k7 69 (by omega)).trans a1
  refine rn_aload_n dX0_init_43 rfl ?_
  refine rn_aload_n dX0_init_44 rfl ?_
  refine rf_putF dX0_init_45 lpX0_37 rfl o7 rfl rfl (Nat.le_of_ble_eq_true rfl) hz7 (fun f8 hz8 k8 (o8 : f8 68 = some (.inr (0, [.ref 63, .ref 56, .ref 61, .ref 69, .int (nI 0), .int (nI 0), .int (nI 0), .int (nI 0)]))) => ?_)
  have K : ∀ j, j < 68 → f8 j = f j := fun j a => (k8 j (by omega)).trans (K j a)
  have a1 := (k8 69 (by omega)).trans a1
  refine rn_vret dX0_init_48 rfl ?_
  exact ⟨rfl, hz8, K, ⟨_, _, _, _, o8⟩, ⟨_, a1, fun _ _ => rfl⟩⟩
theorem ct_X7_init (g : GG) {f : Mm} (hz : FZ f (71)) (o0 : f 70 = some (.inr (6, [.null]))) : Ct g MX7_init [.ref 70] f 1 1280 (fun r f' => r = none ∧ FZ f' (72) ∧ (∀ j, j < 70 → f' j = f j) ∧ f' 70 = some SVE ∧ AZ f' 71 1280 (fun _ => false)) := by
  refine Ct.of ok_MX7_init (Nat.le_of_ble_eq_true rfl) ?_
  change Wp g MX7_init 0 [some (.ref 70)] [] f 1 1280 _
  have K : ∀ j, j < 70 → f j = f j := fun _ _ => rfl
  refine rn_aload_n dX7_init_0 rfl ?_
  refine rn_obj dX7_init_1 loX7_3 ⟨Nat.le_of_ble_eq_true rfl, Nat.le_of_ble_eq_true rfl⟩ (Nat.le_of_ble_eq_true rfl) ?_
  refine rn_aload_n dX7_init_4 rfl ?_
  refine rn_sipush (v := nI 1280) dX7_init_5 (by decide) ?_
  refine rf_za (k := 0) (n := 0) dX7_init_8 dX7_init_10 lpX7_9 rfl o0 (Nat.le_of_ble_eq_true rfl) (Nat.le_of_ble_eq_true rfl) rfl rfl hz (fun f1 (hz1 : FZ f1 (72)) k1 (o1 : f1 70 = some (.inr (6, [.ref 71]))) (a1 : f1 71 = some (.inl (3, 1280, .inl (fun _ => 0)))) => ?_)
  have K : ∀ j, j < 70 → f1 j = f j := fun j a => (k1 j (by omega) (by omega)).trans (K j a)
  refine rn_vret dX7_init_13 rfl ?_
  exact ⟨rfl, hz1, K, o1, ⟨_, a1, fun _ _ => rfl⟩⟩
theorem ct_X10_init (g : GG) {f : Mm} (hz : FZ f (73)) (o0 : f 72 = some (.inr (9, [.null, .null, .int 0]))) : Ct g MX10_init [.ref 72] f 2 44 (fun r f' => r = none ∧ FZ f' (75) ∧ (∀ j, j < 72 → f' j = f j) ∧ f' 72 = some (WE 2) ∧ AR f' 73 36 zF ∧ AR f' 74 8 zF) := by
  refine Ct.of ok_MX10_init (Nat.le_of_ble_eq_true rfl) ?_
  change Wp g MX10_init 0 [some (.ref 72)] [] f 2 44 _
  have K : ∀ j, j < 72 → f j = f j := fun _ _ => rfl
  refine rn_aload_n dX10_init_0 rfl ?_
  refine rn_obj dX10_init_1 loX10_3 ⟨Nat.le_of_ble_eq_true rfl, Nat.le_of_ble_eq_true rfl⟩ (Nat.le_of_ble_eq_true rfl) ?_
  refine rn_aload_n dX10_init_4 rfl ?_
  refine rn_bipush (v := nI 36) dX10_init_5 (by decide) ?_
  refine rf_ia (k := 1) (n := 8) dX10_init_7 dX10_init_9 lpX10_9 rfl o0 (Nat.le_of_ble_eq_true rfl) (Nat.le_of_ble_eq_true rfl) rfl rfl hz (fun f1 (hz1 : FZ f1 (74)) k1 (o1 : f1 72 = some (.inr (9, [.ref 73, .null, .int 0]))) (a1 : f1 73 = some (.inl (0, 36, .inl (fun _ => 0)))) => ?_)
  have K : ∀ j, j < 72 → f1 j = f j := fun j a => (k1 j (by omega) (by omega)).trans (K j a)
  refine rn_aload_n dX10_init_12 rfl ?_
  refine rn_bipush (v := nI 8) dX10_init_13 (by decide) ?_
  refine rf_ia (k := 0) (n := 0) dX10_init_15 dX10_init_17 lpX10_15 rfl o1 (Nat.le_of_ble_eq_true rfl) (Nat.le_of_ble_eq_true rfl) rfl rfl hz1 (fun f2 (hz2 : FZ f2 (75)) k2 (o2 : f2 72 = some (.inr (9, [.ref 73, .ref 74, .int 0]))) (a2 : f2 74 = some (.inl (0, 8, .inl (fun _ => 0)))) => ?_)
  have K : ∀ j, j < 72 → f2 j = f j := fun j a => (k2 j (by omega) (by omega)).trans (K j a)
  have a1 := (k2 73 (by omega) (by omega)).trans a1
  refine rn_aload_n dX10_init_20 rfl ?_
  refine rn_iconst (v := nI 2) dX10_init_21 (by decide) ?_
  refine rf_put dX10_init_22 lpX10_18 o2 rfl rfl (Nat.le_of_ble_eq_true rfl) hz2 (fun f3 hz3 k3 (o3 : f3 72 = some (.inr (9, [.ref 73, .ref 74, .int (nI 2)]))) => ?_)
  have K : ∀ j, j < 72 → f3 j = f j := fun j a => (k3 j (by omega)).trans (K j a)
  have a1 := (k3 73 (by omega)).trans a1
  have a2 := (k3 74 (by omega)).trans a2
  refine rn_vret dX10_init_25 rfl ?_
  exact ⟨rfl, hz3, K, o3, ⟨_, a1, fun _ _ => rfl⟩, ⟨_, a2, fun _ _ => rfl⟩⟩
theorem ct_X11_init (g : GG) {f : Mm} (hz : FZ f (1)) (o0 : f 0 = some (.inr (10, [.null, .null, .null, .null, .null, .null, .null, .null, .null, .null, .int 0, .int 0, .int 0]))) : Ct g MX11_init [.ref 0] f 74 10155 (fun r f' => r = none ∧ FZ f' (75) ∧ (∀ j, j < 0 → f' j = f j) ∧ CI f' P0 [] []) := by
  refine Ct.of ok_MX11_init (Nat.le_of_ble_eq_true rfl) ?_
  change Wp g MX11_init 0 [some (.ref 0)] [] f 74 10155 _
  have K : ∀ j, j < 0 → f j = f j := fun _ _ => rfl
  refine rn_aload_n dX11_init_0 rfl ?_
  refine rn_obj dX11_init_1 loX11_3 ⟨Nat.le_of_ble_eq_true rfl, Nat.le_of_ble_eq_true rfl⟩ (Nat.le_of_ble_eq_true rfl) ?_
  refine rn_aload_n dX11_init_4 rfl ?_
  refine rf_new (k := 73) (n := 10145) (ci := 4) (C := RX4) (T := TX4) (N := 10) (fs := [.int 0, .int 0, .int 0, .int 0, .int 0, .null, .null, .null, .null, .null]) dX11_init_5 lkX11_9 liX4 lzX4 rfl inX4 tyX4 tyX4_ok (fun j hj => match j, hj with | 0, _ => rfl | 1, _ => rfl | 2, _ => rfl | 3, _ => rfl | 4, _ => rfl | 5, _ => rfl | 6, _ => rfl | 7, _ => rfl | 8, _ => rfl | 9, _ => rfl | j + 10, h => absurd h (by omega)) (fun _ => rfl) rfl rfl hz (fun f1 (hz1 : FZ f1 (2)) k1 s1 => ?_)
  have K : ∀ j, j < 0 → f1 j = f j := fun j a => (k1 j (by omega)).trans (K j a)
  have o1 := (k1 0 (by omega)).trans o0
  refine rn_dup dX11_init_8 rfl ?_
  refine rf_callI (k := 68) (n := 10077) dX11_init_9 lmX11_11 ⟨Nat.le_of_ble_eq_true rfl, Nat.le_of_ble_eq_true rfl⟩ (ct_X4_init (q := 1) g hz1 s1) rfl rfl (Nat.le_of_ble_eq_true rfl) rfl rfl ?_
  rintro _ f2 ⟨rfl, hz2, k2, u2⟩
  have K : ∀ j, j < 0 → f2 j = f j := fun j a => (k2 j (by omega)).trans (K j a)
  have o2 := (k2 0 (by omega)).trans o1
  have C2 : ∀ j, 0 < j → j < 7 → f2 j = f2 j := fun _ _ _ => rfl
  refine rf_putF dX11_init_12 lpX11_12 rfl o2 rfl rfl (Nat.le_of_ble_eq_true rfl) hz2 (fun f3 hz3 k3 (o3 : f3 0 = some (.inr (10, [.ref 1, .null, .null, .null, .null, .null, .null, .null, .null, .null, .int 0, .int 0, .int 0]))) => ?_)
  have K : ∀ j, j < 0 → f3 j = f j := fun j a => (k3 j (by omega)).trans (K j a)
  have C2 : ∀ j, 0 < j → j < 7 → f3 j = f2 j := fun j a b => (k3 j (by omega)).trans (C2 j a b)
  refine rn_aload_n dX11_init_15 rfl ?_
  refine rf_new (k := 67) (n := 10074) (ci := 2) (C := RX2) (T := TX2) (N := 3) (fs := [.null, .int 0, .int 0]) dX11_init_16 lkX11_16 liX2 lzX2 rfl inX2 tyX2 tyX2_ok (fun j hj => match j, hj with | 0, _ => rfl | 1, _ => rfl | 2, _ => rfl | j + 3, h => absurd h (by omega)) (fun _ => rfl) rfl rfl hz3 (fun f4 (hz4 : FZ f4 (8)) k4 s4 => ?_)
  have K : ∀ j, j < 0 → f4 j = f j := fun j a => (k4 j (by omega)).trans (K j a)
  have o4 := (k4 0 (by omega)).trans o3
  have C2 : ∀ j, 0 < j → j < 7 → f4 j = f2 j := fun j a b => (k4 j (by omega)).trans (C2 j a b)
  refine rn_dup dX11_init_19 rfl ?_
  refine rf_callI (k := 30) (n := 9600) dX11_init_20 lmX11_18 ⟨Nat.le_of_ble_eq_true rfl, Nat.le_of_ble_eq_true rfl⟩ (ct_X2_init g hz4 s4) rfl rfl (Nat.le_of_ble_eq_true rfl) rfl rfl ?_
  rintro _ f5 ⟨rfl, hz5, k5, u5⟩
  have K : ∀ j, j < 0 → f5 j = f j := fun j a => (k5 j (by omega)).trans (K j a)
  have o5 := (k5 0 (by omega)).trans o4
  have C2 : ∀ j, 0 < j → j < 7 → f5 j = f2 j := fun j a b => (k5 j (by omega)).trans (C2 j a b)
  have C5 : ∀ j, 6 < j → j < 45 → f5 j = f5 j := fun _ _ _ => rfl
  refine rf_putF dX11_init_23 lpX11_19 rfl o5 rfl rfl (Nat.le_of_ble_eq_true rfl) hz5 (fun f6 hz6 k6 (o6 : f6 0 = some (.inr (10, [.ref 1, .ref 7, .null, .null, .null, .null, .null, .null, .null, .null, .int 0, .int 0, .int 0]))) => ?_)
  have K : ∀ j, j < 0 → f6 j = f j := fun j a => (k6 j (by omega)).trans (K j a)
  have C2 : ∀ j, 0 < j → j < 7 → f6 j = f2 j := fun j a b => (k6 j (by omega)).trans (C2 j a b)
  have C5 : ∀ j, 6 < j → j < 45 → f6 j = f5 j := fun j a b => (k6 j (by omega)).trans (C5 j a b)
  refine rn_aload_n dX11_init_26 rfl ?_
  refine rf_new (k := 29) (n := 9593) (ci := 5) (C := RX5) (T := TX5) (N := 7) (fs := [.null, .int 0, .null, .int 0, .int 0, .int 0, .int 0]) dX11_init_27 lkX11_23 liX5 lzX5 rfl inX5 tyX5 tyX5_ok (fun j hj => match j, hj with | 0, _ => rfl | 1, _ => rfl | 2, _ => rfl | 3, _ => rfl | 4, _ => rfl | 5, _ => rfl | 6, _ => rfl | j + 7, h => absurd h (by omega)) (fun _ => rfl) rfl rfl hz6 (fun f7 (hz7 : FZ f7 (46)) k7 s7 => ?_)
  have K : ∀ j, j < 0 → f7 j = f j := fun j a => (k7 j (by omega)).trans (K j a)
  have o7 := (k7 0 (by omega)).trans o6
  have C2 : ∀ j, 0 < j → j < 7 → f7 j = f2 j := fun j a b => (k7 j (by omega)).trans (C2 j a b)
  have C5 : ∀ j, 6 < j → j < 45 → f7 j = f5 j := fun j a b => (k7 j (by omega)).trans (C5 j a b)
  refine rn_dup dX11_init_30 rfl ?_
  refine rf_callI (k := 22) (n := 9355) dX11_init_31 lmX11_25 ⟨Nat.le_of_ble_eq_true rfl, Nat.le_of_ble_eq_true rfl⟩ (ct_X5_init g hz7 s7) rfl rfl (Nat.le_of_ble_eq_true rfl) rfl rfl ?_
  rintro _ f8 ⟨rfl, hz8, k8, u8a, u8b, u8c⟩
  have K : ∀ j, j < 0 → f8 j = f j := fun j a => (k8 j (by omega)).trans (K j a)
  have o8 := (k8 0 (by omega)).trans o7
  have C2 : ∀ j, 0 < j → j < 7 → f8 j = f2 j := fun j a b => (k8 j (by omega)).trans (C2 j a b)
  have C5 : ∀ j, 6 < j → j < 45 → f8 j = f5 j := fun j a b => (k8 j (by omega)).trans (C5 j a b)
  have C8 : ∀ j, 44 < j → j < 53 → f8 j = f8 j := fun _ _ _ => rfl
  refine rf_putF dX11_init_34 lpX11_26 rfl o8 rfl rfl (Nat.le_of_ble_eq_true rfl) hz8 (fun f9 hz9 k9 (o9 : f9 0 = some (.inr (10, [.ref 1, .ref 7, .ref 45, .null, .null, .null, .null, .null, .null, .null, .int 0, .int 0, .int 0]))) => ?_)
  have K : ∀ j, j < 0 → f9 j = f j := fun j a => (k9 j (by omega)).trans (K j a)
  have C2 : ∀ j, 0 < j → j < 7 → f9 j = f2 j := fun j a b => (k9 j (by omega)).trans (C2 j a b)
  have C5 : ∀ j, 6 < j → j < 45 → f9 j = f5 j := fun j a b => (k9 j (by omega)).trans (C5 j a b)
  have C8 : ∀ j, 44 < j → j < 53 → f9 j = f8 j := fun j a b => (k9 j (by omega)).trans (C8 j a b)
  refine rn_aload_n dX11_init_37 rfl ?_
  refine rf_new (k := 21) (n := 9353) (ci := 1) (C := RX1) (T := TX1) (N := 2) (fs := [.null, .null]) dX11_init_38 lkX11_30 liX1 lzX1 rfl inX1 tyX1 tyX1_ok (fun j hj => match j, hj with | 0, _ => rfl | 1, _ => rfl | j + 2, h => absurd h (by omega)) (fun _ => rfl) rfl rfl hz9 (fun f10 (hz10 : FZ f10 (54)) k10 s10 => ?_)
  have K : ∀ j, j < 0 → f10 j = f j := fun j a => (k10 j (by omega)).trans (K j a)
  have o10 := (k10 0 (by omega)).trans o9
  have C2 : ∀ j, 0 < j → j < 7 → f10 j = f2 j := fun j a b => (k10 j (by omega)).trans (C2 j a b)
  have C5 : ∀ j, 6 < j → j < 45 → f10 j = f5 j := fun j a b => (k10 j (by omega)).trans (C5 j a b)
  have C8 : ∀ j, 44 < j → j < 53 → f10 j = f8 j := fun j a b => (k10 j (by omega)).trans (C8 j a b)
  refine rn_dup dX11_init_41 rfl ?_
  refine rf_callI (k := 19) (n := 9281) dX11_init_42 lmX11_32 ⟨Nat.le_of_ble_eq_true rfl, Nat.le_of_ble_eq_true rfl⟩ (ct_X1_init g hz10 s10) rfl rfl (Nat.le_of_ble_eq_true rfl) rfl rfl ?_
  rintro _ f11 ⟨rfl, hz11, k11, u11a, u11b, u11c⟩
  have K : ∀ j, j < 0 → f11 j = f j := fun j a => (k11 j (by omega)).trans (K j a)
  have o11 := (k11 0 (by omega)).trans o10
  have C2 : ∀ j, 0 < j → j < 7 → f11 j = f2 j := fun j a b => (k11 j (by omega)).trans (C2 j a b)
  have C5 : ∀ j, 6 < j → j < 45 → f11 j = f5 j := fun j a b => (k11 j (by omega)).trans (C5 j a b)
  have C8 : ∀ j, 44 < j → j < 53 → f11 j = f8 j := fun j a b => (k11 j (by omega)).trans (C8 j a b)
  have C11 : ∀ j, 52 < j → j < 56 → f11 j = f11 j := fun _ _ _ => rfl
  refine rf_putF dX11_init_45 lpX11_33 rfl o11 rfl rfl (Nat.le_of_ble_eq_true rfl) hz11 (fun f12 hz12 k12 (o12 : f12 0 = some (.inr (10, [.ref 1, .ref 7, .ref 45, .ref 53, .null, .null, .null, .null, .null, .null, .int 0, .int 0, .int 0]))) => ?_)
  have K : ∀ j, j < 0 → f12 j = f j := fun j a => (k12 j (by omega)).trans (K j a)
  have C2 : ∀ j, 0 < j → j < 7 → f12 j = f2 j := fun j a b => (k12 j (by omega)).trans (C2 j a b)
  have C5 : ∀ j, 6 < j → j < 45 → f12 j = f5 j := fun j a b => (k12 j (by omega)).trans (C5 j a b)
  have C8 : ∀ j, 44 < j → j < 53 → f12 j = f8 j := fun j a b => (k12 j (by omega)).trans (C8 j a b)
  have C11 : ∀ j, 52 < j → j < 56 → f12 j = f11 j := fun j a b => (k12 j (by omega)).trans (C11 j a b)
  refine rn_aload_n dX11_init_48 rfl ?_
  refine rf_new (k := 18) (n := 9275) (ci := 3) (C := RX3) (T := TX3) (N := 6) (fs := [.null, .null, .null, .null, .int 0, .long 0]) dX11_init_49 lkX11_37 liX3 lzX3 rfl inX3 tyX3 tyX3_ok (fun j hj => match j, hj with | 0, _ => rfl | 1, _ => rfl | 2, _ => rfl | 3, _ => rfl | 4, _ => rfl | 5, _ => rfl | j + 6, h => absurd h (by omega)) (fun _ => rfl) rfl rfl hz12 (fun f13 (hz13 : FZ f13 (57)) k13 s13 => ?_)
  have K : ∀ j, j < 0 → f13 j = f j := fun j a => (k13 j (by omega)).trans (K j a)
  have o13 := (k13 0 (by omega)).trans o12
  have C2 : ∀ j, 0 < j → j < 7 → f13 j = f2 j := fun j a b => (k13 j (by omega)).trans (C2 j a b)
  have C5 : ∀ j, 6 < j → j < 45 → f13 j = f5 j := fun j a b => (k13 j (by omega)).trans (C5 j a b)
  have C8 : ∀ j, 44 < j → j < 53 → f13 j = f8 j := fun j a b => (k13 j (by omega)).trans (C8 j a b)
  have C11 : ∀ j, 52 < j → j < 56 → f13 j = f11 j := fun j a b => (k13 j (by omega)).trans (C11 j a b)
  refine rn_dup dX11_init_52 rfl ?_
  refine rf_callI (k := 14) (n := 5398) dX11_init_53 lmX11_39 ⟨Nat.le_of_ble_eq_true rfl, Nat.le_of_ble_eq_true rfl⟩ (ct_X3_init g hz13 s13) rfl rfl (Nat.le_of_ble_eq_true rfl) rfl rfl ?_
  rintro _ f14 ⟨rfl, hz14, k14, u14a, u14b, u14c⟩
  have K : ∀ j, j < 0 → f14 j = f j := fun j a => (k14 j (by omega)).trans (K j a)
  have o14 := (k14 0 (by omega)).trans o13
  have C2 : ∀ j, 0 < j → j < 7 → f14 j = f2 j := fun j a b => (k14 j (by omega)).trans (C2 j a b)
  have C5 : ∀ j, 6 < j → j < 45 → f14 j = f5 j := fun j a b => (k14 j (by omega)).trans (C5 j a b)
  have C8 : ∀ j, 44 < j → j < 53 → f14 j = f8 j := fun j a b => (k14 j (by omega)).trans (C8 j a b)
  have C11 : ∀ j, 52 < j → j < 56 → f14 j = f11 j := fun j a b => (k14 j (by omega)).trans (C11 j a b)
  have C14 : ∀ j, 55 < j → j < 61 → f14 j = f14 j := fun _ _ _ => rfl
  refine rf_putF dX11_init_56 lpX11_40 rfl o14 rfl rfl (Nat.le_of_ble_eq_true rfl) hz14 (fun f15 hz15 k15 (o15 : f15 0 = some (.inr (10, [.ref 1, .ref 7, .ref 45, .ref 53, .ref 56, .null, .null, .null, .null, .null, .int 0, .int 0, .int 0]))) => ?_)
  have K : ∀ j, j < 0 → f15 j = f j := fun j a => (k15 j (by omega)).trans (K j a)
  have C2 : ∀ j, 0 < j → j < 7 → f15 j = f2 j := fun j a b => (k15 j (by omega)).trans (C2 j a b)
  have C5 : ∀ j, 6 < j → j < 45 → f15 j = f5 j := fun j a b => (k15 j (by omega)).trans (C5 j a b)
  have C8 : ∀ j, 44 < j → j < 53 → f15 j = f8 j := fun j a b => (k15 j (by omega)).trans (C8 j a b)
  have C11 : ∀ j, 52 < j → j < 56 → f15 j = f11 j := fun j a b => (k15 j (by omega)).trans (C11 j a b)
  have C14 : ∀ j, 55 < j → j < 61 → f15 j = f14 j := fun j a b => (k15 j (by omega)).trans (C14 j a b)
  refine rn_aload_n dX11_init_59 rfl ?_
  refine rf_new (k := 13) (n := 5396) (ci := 7) (C := RX8) (T := TX8) (N := 2) (fs := [.null, .int 0]) dX11_init_60 lkX11_44 liX8 lzX8 rfl inX8 tyX8 tyX8_ok (fun j hj => match j, hj with | 0, _ => rfl | 1, _ => rfl | j + 2, h => absurd h (by omega)) (fun _ => rfl) rfl rfl hz15 (fun f16 (hz16 : FZ f16 (62)) k16 s16 => ?_)
  have K : ∀ j, j < 0 → f16 j = f j := fun j a => (k16 j (by omega)).trans (K j a)
  have o16 := (k16 0 (by omega)).trans o15
  have C2 : ∀ j, 0 < j → j < 7 → f16 j = f2 j := fun j a b => (k16 j (by omega)).trans (C2 j a b)
  have C5 : ∀ j, 6 < j → j < 45 → f16 j = f5 j := fun j a b => (k16 j (by omega)).trans (C5 j a b)
  have C8 : ∀ j, 44 < j → j < 53 → f16 j = f8 j := fun j a b => (k16 j (by omega)).trans (C8 j a b)
  have C11 : ∀ j, 52 < j → j < 56 → f16 j = f11 j := fun j a b => (k16 j (by omega)).trans (C11 j a b)
  have C14 : ∀ j, 55 < j → j < 61 → f16 j = f14 j := fun j a b => (k16 j (by omega)).trans (C14 j a b)
  refine rn_dup dX11_init_63 rfl ?_
  refine rf_callI (k := 12) (n := 5108) dX11_init_64 lmX11_46 ⟨Nat.le_of_ble_eq_true rfl, Nat.le_of_ble_eq_true rfl⟩ (ct_X8_init g hz16 s16) rfl rfl (Nat.le_of_ble_eq_true rfl) rfl rfl ?_
  rintro _ f17 ⟨rfl, hz17, k17, u17a, u17b⟩
  have K : ∀ j, j < 0 → f17 j = f j := fun j a => (k17 j (by omega)).trans (K j a)
  have o17 := (k17 0 (by omega)).trans o16
  have C2 : ∀ j, 0 < j → j < 7 → f17 j = f2 j := fun j a b => (k17 j (by omega)).trans (C2 j a b)
  have C5 : ∀ j, 6 < j → j < 45 → f17 j = f5 j := fun j a b => (k17 j (by omega)).trans (C5 j a b)
  have C8 : ∀ j, 44 < j → j < 53 → f17 j = f8 j := fun j a b => (k17 j (by omega)).trans (C8 j a b)
  have C11 : ∀ j, 52 < j → j < 56 → f17 j = f11 j := fun j a b => (k17 j (by omega)).trans (C11 j a b)
  have C14 : ∀ j, 55 < j → j < 61 → f17 j = f14 j := fun j a b => (k17 j (by omega)).trans (C14 j a b)
  have C17 : ∀ j, 60 < j → j < 63 → f17 j = f17 j := fun _ _ _ => rfl
  refine rf_putF dX11_init_67 lpX11_47 rfl o17 rfl rfl (Nat.le_of_ble_eq_true rfl) hz17 (fun f18 hz18 k18 (o18 : f18 0 = some (.inr (10, [.ref 1, .ref 7, .ref 45, .ref 53, .ref 56, .ref 61, .null, .null, .null, .null, .int 0, .int 0, .int 0]))) => ?_)
  have K : ∀ j, j < 0 → f18 j = f j := fun j a => (k18 j (by omega)).trans (K j a)
  have C2 : ∀ j, 0 < j → j < 7 → f18 j = f2 j := fun j a b => (k18 j (by omega)).trans (C2 j a b)
  have C5 : ∀ j, 6 < j → j < 45 → f18 j = f5 j := fun j a b => (k18 j (by omega)).trans (C5 j a b)
  have C8 : ∀ j, 44 < j → j < 53 → f18 j = f8 j := fun j a b => (k18 j (by omega)).trans (C8 j a b)
  have C11 : ∀ j, 52 < j → j < 56 → f18 j = f11 j := fun j a b => (k18 j (by omega)).trans (C11 j a b)
  have C14 : ∀ j, 55 < j → j < 61 → f18 j = f14 j := fun j a b => (k18 j (by omega)).trans (C14 j a b)
  have C17 : ∀ j, 60 < j → j < 63 → f18 j = f17 j := fun j a b => (k18 j (by omega)).trans (C17 j a b)
  refine rn_aload_n dX11_init_70 rfl ?_
  refine rf_new (k := 11) (n := 5092) (ci := 8) (C := RX9) (T := TX9) (N := 16) (fs := [.null, .null, .null, .null, .null, .null, .long 0, .long 0, .long 0, .int 0, .int 0, .int 0, .int 0, .int 0, .int 0, .int 0]) dX11_init_71 lkX11_51 liX9 lzX9 rfl inX9 tyX9 tyX9_ok (fun j hj => match j, hj with | 0, _ => rfl | 1, _ => rfl | 2, _ => rfl | 3, _ => rfl | 4, _ => rfl | 5, _ => rfl | 6, _ => rfl | 7, _ => rfl | 8, _ => rfl | 9, _ => rfl | 10, _ => rfl | 11, _ => rfl | 12, _ => rfl | 13, _ => rfl | 14, _ => rfl | 15, _ => rfl | j + 16, h => absurd h (by omega)) (fun _ => rfl) rfl rfl hz18 (fun f19 (hz19 : FZ f19 (64)) k19 s19 => ?_)
  have K : ∀ j, j < 0 → f19 j = f j := fun j a => (k19 j (by omega)).trans (K j a)
  have o19 := (k19 0 (by omega)).trans o18
  have C2 : ∀ j, 0 < j → j < 7 → f19 j = f2 j := fun j a b => (k19 j (by omega)).trans (C2 j a b)
  have C5 : ∀ j, 6 < j → j < 45 → f19 j = f5 j := fun j a b => (k19 j (by omega)).trans (C5 j a b)
  have C8 : ∀ j, 44 < j → j < 53 → f19 j = f8 j := fun j a b => (k19 j (by omega)).trans (C8 j a b)
  have C11 : ∀ j, 52 < j → j < 56 → f19 j = f11 j := fun j a b => (k19 j (by omega)).trans (C11 j a b)
  have C14 : ∀ j, 55 < j → j < 61 → f19 j = f14 j := fun j a b => (k19 j (by omega)).trans (C14 j a b)
  have C17 : ∀ j, 60 < j → j < 63 → f19 j = f17 j := fun j a b => (k19 j (by omega)).trans (C17 j a b)
  refine rn_dup dX11_init_74 rfl ?_
  refine rn_aload_n dX11_init_75 rfl ?_
  refine rn_get dX11_init_76 lfX11_12 o19 rfl ?_
  refine rn_aload_n dX11_init_79 rfl ?_
  refine rn_get dX11_init_80 lfX11_40 o19 rfl ?_
  refine rf_callI (k := 7) (n := 5008) dX11_init_83 lmX11_53 ⟨Nat.le_of_ble_eq_true rfl, Nat.le_of_ble_eq_true rfl⟩ (ct_X9_init g hz19 s19) rfl rfl (Nat.le_of_ble_eq_true rfl) rfl rfl ?_
  rintro _ f20 ⟨rfl, hz20, k20, u20⟩
  have K : ∀ j, j < 0 → f20 j = f j := fun j a => (k20 j (by omega)).trans (K j a)
  have o20 := (k20 0 (by omega)).trans o19
  have C2 : ∀ j, 0 < j → j < 7 → f20 j = f2 j := fun j a b => (k20 j (by omega)).trans (C2 j a b)
  have C5 : ∀ j, 6 < j → j < 45 → f20 j = f5 j := fun j a b => (k20 j (by omega)).trans (C5 j a b)
  have C8 : ∀ j, 44 < j → j < 53 → f20 j = f8 j := fun j a b => (k20 j (by omega)).trans (C8 j a b)
  have C11 : ∀ j, 52 < j → j < 56 → f20 j = f11 j := fun j a b => (k20 j (by omega)).trans (C11 j a b)
  have C14 : ∀ j, 55 < j → j < 61 → f20 j = f14 j := fun j a b => (k20 j (by omega)).trans (C14 j a b)
  have C17 : ∀ j, 60 < j → j < 63 → f20 j = f17 j := fun j a b => (k20 j (by omega)).trans (C17 j a b)
  have C20 : ∀ j, 62 < j → j < 68 → f20 j = f20 j := fun _ _ _ => rfl
  refine rf_putF dX11_init_86 lpX11_56 rfl o20 rfl rfl (Nat.le_of_ble_eq_true rfl) hz20 (fun f21 hz21 k21 (o21 : f21 0 = some (.inr (10, [.ref 1, .ref 7, .ref 45, .ref 53, .ref 56, .ref 61, .ref 63, .null, .null, .null, .int 0, .int 0, .int 0]))) => ?_)
  have K : ∀ j, j < 0 → f21 j = f j := fun j a => (k21 j (by omega)).trans (K j a)
  have C2 : ∀ j, 0 < j → j < 7 → f21 j = f2 j := fun j a b => (k21 j (by omega)).trans (C2 j a b)
  have C5 : ∀ j, 6 < j → j < 45 → f21 j = f5 j := fun j a b => (k21 j (by omega)).trans (C5 j a b)
  have C8 : ∀ j, 44 < j → j < 53 → f21 j = f8 j := fun j a b => (k21 j (by omega)).trans (C8 j a b)
  have C11 : ∀ j, 52 < j → j < 56 → f21 j = f11 j := fun j a b => (k21 j (by omega)).trans (C11 j a b)
  have C14 : ∀ j, 55 < j → j < 61 → f21 j = f14 j := fun j a b => (k21 j (by omega)).trans (C14 j a b)
  have C17 : ∀ j, 60 < j → j < 63 → f21 j = f17 j := fun j a b => (k21 j (by omega)).trans (C17 j a b)
  have C20 : ∀ j, 62 < j → j < 68 → f21 j = f20 j := fun j a b => (k21 j (by omega)).trans (C20 j a b)
  refine rn_aload_n dX11_init_89 rfl ?_
  refine rf_new (k := 6) (n := 5000) (ci := 0) (C := RX0) (T := TX0) (N := 8) (fs := [.null, .null, .null, .null, .int 0, .int 0, .int 0, .int 0]) dX11_init_90 lkX11_60 liX0 lzX0 rfl inX0 tyX0 tyX0_ok (fun j hj => match j, hj with | 0, _ => rfl | 1, _ => rfl | 2, _ => rfl | 3, _ => rfl | 4, _ => rfl | 5, _ => rfl | 6, _ => rfl | 7, _ => rfl | j + 8, h => absurd h (by omega)) (fun _ => rfl) rfl rfl hz21 (fun f22 (hz22 : FZ f22 (69)) k22 s22 => ?_)
  have K : ∀ j, j < 0 → f22 j = f j := fun j a => (k22 j (by omega)).trans (K j a)
  have o22 := (k22 0 (by omega)).trans o21
  have C2 : ∀ j, 0 < j → j < 7 → f22 j = f2 j := fun j a b => (k22 j (by omega)).trans (C2 j a b)
  have C5 : ∀ j, 6 < j → j < 45 → f22 j = f5 j := fun j a b => (k22 j (by omega)).trans (C5 j a b)
  have C8 : ∀ j, 44 < j → j < 53 → f22 j = f8 j := fun j a b => (k22 j (by omega)).trans (C8 j a b)
  have C11 : ∀ j, 52 < j → j < 56 → f22 j = f11 j := fun j a b => (k22 j (by omega)).trans (C11 j a b)
  have C14 : ∀ j, 55 < j → j < 61 → f22 j = f14 j := fun j a b => (k22 j (by omega)).trans (C14 j a b)
  have C17 : ∀ j, 60 < j → j < 63 → f22 j = f17 j := fun j a b => (k22 j (by omega)).trans (C17 j a b)
  have C20 : ∀ j, 62 < j → j < 68 → f22 j = f20 j := fun j a b => (k22 j (by omega)).trans (C20 j a b)
  refine rn_dup dX11_init_93 rfl ?_
  refine rn_aload_n dX11_init_94 rfl ?_
  refine rn_get dX11_init_95 lfX11_56 o22 rfl ?_
  refine rn_aload_n dX11_init_98 rfl ?_
  refine rn_get dX11_init_99 lfX11_40 o22 rfl ?_
  refine rn_aload_n dX11_init_102 rfl ?_
  refine rn_get dX11_init_103 lfX11_47 o22 rfl ?_
  refine rf_callI (k := 5) (n := 1328) dX11_init_106 lmX11_62 ⟨Nat.le_of_ble_eq_true rfl, Nat.le_of_ble_eq_true rfl⟩ (ct_X0_init g hz22 s22) rfl rfl (Nat.le_of_ble_eq_true rfl) rfl rfl ?_
  rintro _ f23 ⟨rfl, hz23, k23, u23a, u23b⟩
  have K : ∀ j, j < 0 → f23 j = f j := fun j a => (k23 j (by omega)).trans (K j a)
  have o23 := (k23 0 (by omega)).trans o22
  have C2 : ∀ j, 0 < j → j < 7 → f23 j = f2 j := fun j a b => (k23 j (by omega)).trans (C2 j a b)
  have C5 : ∀ j, 6 < j → j < 45 → f23 j = f5 j := fun j a b => (k23 j (by omega)).trans (C5 j a b)
  have C8 : ∀ j, 44 < j → j < 53 → f23 j = f8 j := fun j a b => (k23 j (by omega)).trans (C8 j a b)
  have C11 : ∀ j, 52 < j → j < 56 → f23 j = f11 j := fun j a b => (k23 j (by omega)).trans (C11 j a b)
  have C14 : ∀ j, 55 < j → j < 61 → f23 j = f14 j := fun j a b => (k23 j (by omega)).trans (C14 j a b)
  have C17 : ∀ j, 60 < j → j < 63 → f23 j = f17 j := fun j a b => (k23 j (by omega)).trans (C17 j a b)
  have C20 : ∀ j, 62 < j → j < 68 → f23 j = f20 j := fun j a b => (k23 j (by omega)).trans (C20 j a b)
  have C23 : ∀ j, 67 < j → j < 70 → f23 j = f23 j := fun _ _ _ => rfl
  refine rf_putF dX11_init_109 lpX11_65 rfl o23 rfl rfl (Nat.le_of_ble_eq_true rfl) hz23 (fun f24 hz24 k24 (o24 : f24 0 = some (.inr (10, [.ref 1, .ref 7, .ref 45, .ref 53, .ref 56, .ref 61, .ref 63, .ref 68, .null, .null, .int 0, .int 0, .int 0]))) => ?_)
  have K : ∀ j, j < 0 → f24 j = f j := fun j a => (k24 j (by omega)).trans (K j a)
  have C2 : ∀ j, 0 < j → j < 7 → f24 j = f2 j := fun j a b => (k24 j (by omega)).trans (C2 j a b)
  have C5 : ∀ j, 6 < j → j < 45 → f24 j = f5 j := fun j a b => (k24 j (by omega)).trans (C5 j a b)
  have C8 : ∀ j, 44 < j → j < 53 → f24 j = f8 j := fun j a b => (k24 j (by omega)).trans (C8 j a b)
  have C11 : ∀ j, 52 < j → j < 56 → f24 j = f11 j := fun j a b => (k24 j (by omega)).trans (C11 j a b)
  have C14 : ∀ j, 55 < j → j < 61 → f24 j = f14 j := fun j a b => (k24 j (by omega)).trans (C14 j a b)
  have C17 : ∀ j, 60 < j → j < 63 → f24 j = f17 j := fun j a b => (k24 j (by omega)).trans (C17 j a b)
  have C20 : ∀ j, 62 < j → j < 68 → f24 j = f20 j := fun j a b => (k24 j (by omega)).trans (C20 j a b)
  have C23 : ∀ j, 67 < j → j < 70 → f24 j = f23 j := fun j a b => (k24 j (by omega)).trans (C23 j a b)
  refine rn_aload_n dX11_init_112 rfl ?_
  refine rf_new (k := 4) (n := 1327) (ci := 6) (C := RX7) (T := TX7) (N := 1) (fs := [.null]) dX11_init_113 lkX11_69 liX7 lzX7 rfl inX7 tyX7 tyX7_ok (fun j hj => match j, hj with | 0, _ => rfl | j + 1, h => absurd h (by omega)) (fun _ => rfl) rfl rfl hz24 (fun f25 (hz25 : FZ f25 (71)) k25 s25 => ?_)
  have K : ∀ j, j < 0 → f25 j = f j := fun j a => (k25 j (by omega)).trans (K j a)
  have o25 := (k25 0 (by omega)).trans o24
  have C2 : ∀ j, 0 < j → j < 7 → f25 j = f2 j := fun j a b => (k25 j (by omega)).trans (C2 j a b)
  have C5 : ∀ j, 6 < j → j < 45 → f25 j = f5 j := fun j a b => (k25 j (by omega)).trans (C5 j a b)
  have C8 : ∀ j, 44 < j → j < 53 → f25 j = f8 j := fun j a b => (k25 j (by omega)).trans (C8 j a b)
  have C11 : ∀ j, 52 < j → j < 56 → f25 j = f11 j := fun j a b => (k25 j (by omega)).trans (C11 j a b)
  have C14 : ∀ j, 55 < j → j < 61 → f25 j = f14 j := fun j a b => (k25 j (by omega)).trans (C14 j a b)
  have C17 : ∀ j, 60 < j → j < 63 → f25 j = f17 j := fun j a b => (k25 j (by omega)).trans (C17 j a b)
  have C20 : ∀ j, 62 < j → j < 68 → f25 j = f20 j := fun j a b => (k25 j (by omega)).trans (C20 j a b)
  have C23 : ∀ j, 67 < j → j < 70 → f25 j = f23 j := fun j a b => (k25 j (by omega)).trans (C23 j a b)
  refine rn_dup dX11_init_116 rfl ?_
  refine rf_callI (k := 3) (n := 47) dX11_init_117 lmX11_71 ⟨Nat.le_of_ble_eq_true rfl, Nat.le_of_ble_eq_true rfl⟩ (ct_X7_init g hz25 s25) rfl rfl (Nat.le_of_ble_eq_true rfl) rfl rfl ?_
  rintro _ f26 ⟨rfl, hz26, k26, u26a, u26b⟩
  have K : ∀ j, j < 0 → f26 j = f j := fun j a => (k26 j (by omega)).trans (K j a)
  have o26 := (k26 0 (by omega)).trans o25
  have C2 : ∀ j, 0 < j → j < 7 → f26 j = f2 j := fun j a b => (k26 j (by omega)).trans (C2 j a b)
  have C5 : ∀ j, 6 < j → j < 45 → f26 j = f5 j := fun j a b => (k26 j (by omega)).trans (C5 j a b)
  have C8 : ∀ j, 44 < j → j < 53 → f26 j = f8 j := fun j a b => (k26 j (by omega)).trans (C8 j a b)
  have C11 : ∀ j, 52 < j → j < 56 → f26 j = f11 j := fun j a b => (k26 j (by omega)).trans (C11 j a b)
  have C14 : ∀ j, 55 < j → j < 61 → f26 j = f14 j := fun j a b => (k26 j (by omega)).trans (C14 j a b)
  have C17 : ∀ j, 60 < j → j < 63 → f26 j = f17 j := fun j a b => (k26 j (by omega)).trans (C17 j a b)
  have C20 : ∀ j, 62 < j → j < 68 → f26 j = f20 j := fun j a b => (k26 j (by omega)).trans (C20 j a b)
  have C23 : ∀ j, 67 < j → j < 70 → f26 j = f23 j := fun j a b => (k26 j (by omega)).trans (C23 j a b)
  have C26 : ∀ j, 69 < j → j < 72 → f26 j = f26 j := fun _ _ _ => rfl
  refine rf_putF dX11_init_120 lpX11_72 rfl o26 rfl rfl (Nat.le_of_ble_eq_true rfl) hz26 (fun f27 hz27 k27 (o27 : f27 0 = some (.inr (10, [.ref 1, .ref 7, .ref 45, .ref 53, .ref 56, .ref 61, .ref 63, .ref 68, .ref 70, .null, .int 0, .int 0, .int 0]))) => ?_)
  have K : ∀ j, j < 0 → f27 j = f j := fun j a => (k27 j (by omega)).trans (K j a)
  have C2 : ∀ j, 0 < j → j < 7 → f27 j = f2 j := fun j a b => (k27 j (by omega)).trans (C2 j a b)
  have C5 : ∀ j, 6 < j → j < 45 → f27 j = f5 j := fun j a b => (k27 j (by omega)).trans (C5 j a b)
  have C8 : ∀ j, 44 < j → j < 53 → f27 j = f8 j := fun j a b => (k27 j (by omega)).trans (C8 j a b)
  have C11 : ∀ j, 52 < j → j < 56 → f27 j = f11 j := fun j a b => (k27 j (by omega)).trans (C11 j a b)
  have C14 : ∀ j, 55 < j → j < 61 → f27 j = f14 j := fun j a b => (k27 j (by omega)).trans (C14 j a b)
  have C17 : ∀ j, 60 < j → j < 63 → f27 j = f17 j := fun j a b => (k27 j (by omega)).trans (C17 j a b)
  have C20 : ∀ j, 62 < j → j < 68 → f27 j = f20 j := fun j a b => (k27 j (by omega)).trans (C20 j a b)
  have C23 : ∀ j, 67 < j → j < 70 → f27 j = f23 j := fun j a b => (k27 j (by omega)).trans (C23 j a b)
  have C26 : ∀ j, 69 < j → j < 72 → f27 j = f26 j := fun j a b => (k27 j (by omega)).trans (C26 j a b)
  refine rn_aload_n dX11_init_123 rfl ?_
  refine rf_new (k := 2) (n := 44) (ci := 9) (C := RX10) (T := TX10) (N := 3) (fs := [.null, .null, .int 0]) dX11_init_124 lkX11_76 liX10 lzX10 rfl inX10 tyX10 tyX10_ok (fun j hj => match j, hj with | 0, _ => rfl | 1, _ => rfl | 2, _ => rfl | j + 3, h => absurd h (by omega)) (fun _ => rfl) rfl rfl hz27 (fun f28 (hz28 : FZ f28 (73)) k28 s28 => ?_)
  have K : ∀ j, j < 0 → f28 j = f j := fun j a => (k28 j (by omega)).trans (K j a)
  have o28 := (k28 0 (by omega)).trans o27
  have C2 : ∀ j, 0 < j → j < 7 → f28 j = f2 j := fun j a b => (k28 j (by omega)).trans (C2 j a b)
  have C5 : ∀ j, 6 < j → j < 45 → f28 j = f5 j := fun j a b => (k28 j (by omega)).trans (C5 j a b)
  have C8 : ∀ j, 44 < j → j < 53 → f28 j = f8 j := fun j a b => (k28 j (by omega)).trans (C8 j a b)
  have C11 : ∀ j, 52 < j → j < 56 → f28 j = f11 j := fun j a b => (k28 j (by omega)).trans (C11 j a b)
  have C14 : ∀ j, 55 < j → j < 61 → f28 j = f14 j := fun j a b => (k28 j (by omega)).trans (C14 j a b)
  have C17 : ∀ j, 60 < j → j < 63 → f28 j = f17 j := fun j a b => (k28 j (by omega)).trans (C17 j a b)
  have C20 : ∀ j, 62 < j → j < 68 → f28 j = f20 j := fun j a b => (k28 j (by omega)).trans (C20 j a b)
  have C23 : ∀ j, 67 < j → j < 70 → f28 j = f23 j := fun j a b => (k28 j (by omega)).trans (C23 j a b)
  have C26 : ∀ j, 69 < j → j < 72 → f28 j = f26 j := fun j a b => (k28 j (by omega)).trans (C26 j a b)
  refine rn_dup dX11_init_127 rfl ?_
  refine rf_callI (k := 0) (n := 0) dX11_init_128 lmX11_78 ⟨Nat.le_of_ble_eq_true rfl, Nat.le_of_ble_eq_true rfl⟩ (ct_X10_init g hz28 s28) rfl rfl (Nat.le_of_ble_eq_true rfl) rfl rfl ?_
  rintro _ f29 ⟨rfl, hz29, k29, u29a, u29b, u29c⟩
  have K : ∀ j, j < 0 → f29 j = f j := fun j a => (k29 j (by omega)).trans (K j a)
  have o29 := (k29 0 (by omega)).trans o28
  have C2 : ∀ j, 0 < j → j < 7 → f29 j = f2 j := fun j a b => (k29 j (by omega)).trans (C2 j a b)
  have C5 : ∀ j, 6 < j → j < 45 → f29 j = f5 j := fun j a b => (k29 j (by omega)).trans (C5 j a b)
  have C8 : ∀ j, 44 < j → j < 53 → f29 j = f8 j := fun j a b => (k29 j (by omega)).trans (C8 j a b)
  have C11 : ∀ j, 52 < j → j < 56 → f29 j = f11 j := fun j a b => (k29 j (by omega)).trans (C11 j a b)
  have C14 : ∀ j, 55 < j → j < 61 → f29 j = f14 j := fun j a b => (k29 j (by omega)).trans (C14 j a b)
  have C17 : ∀ j, 60 < j → j < 63 → f29 j = f17 j := fun j a b => (k29 j (by omega)).trans (C17 j a b)
  have C20 : ∀ j, 62 < j → j < 68 → f29 j = f20 j := fun j a b => (k29 j (by omega)).trans (C20 j a b)
  have C23 : ∀ j, 67 < j → j < 70 → f29 j = f23 j := fun j a b => (k29 j (by omega)).trans (C23 j a b)
  have C26 : ∀ j, 69 < j → j < 72 → f29 j = f26 j := fun j a b => (k29 j (by omega)).trans (C26 j a b)
  have C29 : ∀ j, 71 < j → j < 75 → f29 j = f29 j := fun _ _ _ => rfl
  refine rf_putF dX11_init_131 lpX11_79 rfl o29 rfl rfl (Nat.le_of_ble_eq_true rfl) hz29 (fun f30 hz30 k30 (o30 : f30 0 = some (.inr (10, [.ref 1, .ref 7, .ref 45, .ref 53, .ref 56, .ref 61, .ref 63, .ref 68, .ref 70, .ref 72, .int 0, .int 0, .int 0]))) => ?_)
  have K : ∀ j, j < 0 → f30 j = f j := fun j a => (k30 j (by omega)).trans (K j a)
  have C2 : ∀ j, 0 < j → j < 7 → f30 j = f2 j := fun j a b => (k30 j (by omega)).trans (C2 j a b)
  have C5 : ∀ j, 6 < j → j < 45 → f30 j = f5 j := fun j a b => (k30 j (by omega)).trans (C5 j a b)
  have C8 : ∀ j, 44 < j → j < 53 → f30 j = f8 j := fun j a b => (k30 j (by omega)).trans (C8 j a b)
  have C11 : ∀ j, 52 < j → j < 56 → f30 j = f11 j := fun j a b => (k30 j (by omega)).trans (C11 j a b)
  have C14 : ∀ j, 55 < j → j < 61 → f30 j = f14 j := fun j a b => (k30 j (by omega)).trans (C14 j a b)
  have C17 : ∀ j, 60 < j → j < 63 → f30 j = f17 j := fun j a b => (k30 j (by omega)).trans (C17 j a b)
  have C20 : ∀ j, 62 < j → j < 68 → f30 j = f20 j := fun j a b => (k30 j (by omega)).trans (C20 j a b)
  have C23 : ∀ j, 67 < j → j < 70 → f30 j = f23 j := fun j a b => (k30 j (by omega)).trans (C23 j a b)
  have C26 : ∀ j, 69 < j → j < 72 → f30 j = f26 j := fun j a b => (k30 j (by omega)).trans (C26 j a b)
  have C29 : ∀ j, 71 < j → j < 75 → f30 j = f29 j := fun j a b => (k30 j (by omega)).trans (C29 j a b)
  refine rn_aload_n dX11_init_134 rfl ?_
  refine rn_iconst (v := nI 0) dX11_init_135 (by decide) ?_
  refine rf_put dX11_init_136 lpX11_83 o30 rfl rfl (Nat.le_of_ble_eq_true rfl) hz30 (fun f31 hz31 k31 (o31 : f31 0 = some (.inr (10, [.ref 1, .ref 7, .ref 45, .ref 53, .ref 56, .ref 61, .ref 63, .ref 68, .ref 70, .ref 72, .int (nI 0), .int 0, .int 0]))) => ?_)
  have K : ∀ j, j < 0 → f31 j = f j := fun j a => (k31 j (by omega)).trans (K j a)
  have C2 : ∀ j, 0 < j → j < 7 → f31 j = f2 j := fun j a b => (k31 j (by omega)).trans (C2 j a b)
  have C5 : ∀ j, 6 < j → j < 45 → f31 j = f5 j := fun j a b => (k31 j (by omega)).trans (C5 j a b)
  have C8 : ∀ j, 44 < j → j < 53 → f31 j = f8 j := fun j a b => (k31 j (by omega)).trans (C8 j a b)
  have C11 : ∀ j, 52 < j → j < 56 → f31 j = f11 j := fun j a b => (k31 j (by omega)).trans (C11 j a b)
  have C14 : ∀ j, 55 < j → j < 61 → f31 j = f14 j := fun j a b => (k31 j (by omega)).trans (C14 j a b)
  have C17 : ∀ j, 60 < j → j < 63 → f31 j = f17 j := fun j a b => (k31 j (by omega)).trans (C17 j a b)
  have C20 : ∀ j, 62 < j → j < 68 → f31 j = f20 j := fun j a b => (k31 j (by omega)).trans (C20 j a b)
  have C23 : ∀ j, 67 < j → j < 70 → f31 j = f23 j := fun j a b => (k31 j (by omega)).trans (C23 j a b)
  have C26 : ∀ j, 69 < j → j < 72 → f31 j = f26 j := fun j a b => (k31 j (by omega)).trans (C26 j a b)
  have C29 : ∀ j, 71 < j → j < 75 → f31 j = f29 j := fun j a b => (k31 j (by omega)).trans (C29 j a b)
  refine rn_aload_n dX11_init_139 rfl ?_
  refine rn_iconst (v := nI 0) dX11_init_140 (by decide) ?_
  refine rf_put dX11_init_141 lpX11_87 o31 rfl rfl (Nat.le_of_ble_eq_true rfl) hz31 (fun f32 hz32 k32 (o32 : f32 0 = some (.inr (10, [.ref 1, .ref 7, .ref 45, .ref 53, .ref 56, .ref 61, .ref 63, .ref 68, .ref 70, .ref 72, .int (nI 0), .int (nI 0), .int 0]))) => ?_)
  have K : ∀ j, j < 0 → f32 j = f j := fun j a => (k32 j (by omega)).trans (K j a)
  have C2 : ∀ j, 0 < j → j < 7 → f32 j = f2 j := fun j a b => (k32 j (by omega)).trans (C2 j a b)
  have C5 : ∀ j, 6 < j → j < 45 → f32 j = f5 j := fun j a b => (k32 j (by omega)).trans (C5 j a b)
  have C8 : ∀ j, 44 < j → j < 53 → f32 j = f8 j := fun j a b => (k32 j (by omega)).trans (C8 j a b)
  have C11 : ∀ j, 52 < j → j < 56 → f32 j = f11 j := fun j a b => (k32 j (by omega)).trans (C11 j a b)
  have C14 : ∀ j, 55 < j → j < 61 → f32 j = f14 j := fun j a b => (k32 j (by omega)).trans (C14 j a b)
  have C17 : ∀ j, 60 < j → j < 63 → f32 j = f17 j := fun j a b => (k32 j (by omega)).trans (C17 j a b)
  have C20 : ∀ j, 62 < j → j < 68 → f32 j = f20 j := fun j a b => (k32 j (by omega)).trans (C20 j a b)
  have C23 : ∀ j, 67 < j → j < 70 → f32 j = f23 j := fun j a b => (k32 j (by omega)).trans (C23 j a b)
  have C26 : ∀ j, 69 < j → j < 72 → f32 j = f26 j := fun j a b => (k32 j (by omega)).trans (C26 j a b)
  have C29 : ∀ j, 71 < j → j < 75 → f32 j = f29 j := fun j a b => (k32 j (by omega)).trans (C29 j a b)
  refine rn_aload_n dX11_init_144 rfl ?_
  refine rn_iconst (v := nI 0) dX11_init_145 (by decide) ?_
  refine rf_put dX11_init_146 lpX11_90 o32 rfl rfl (Nat.le_of_ble_eq_true rfl) hz32 (fun f33 hz33 k33 (o33 : f33 0 = some (.inr (10, [.ref 1, .ref 7, .ref 45, .ref 53, .ref 56, .ref 61, .ref 63, .ref 68, .ref 70, .ref 72, .int (nI 0), .int (nI 0), .int (nI 0)]))) => ?_)
  have K : ∀ j, j < 0 → f33 j = f j := fun j a => (k33 j (by omega)).trans (K j a)
  have C2 : ∀ j, 0 < j → j < 7 → f33 j = f2 j := fun j a b => (k33 j (by omega)).trans (C2 j a b)
  have C5 : ∀ j, 6 < j → j < 45 → f33 j = f5 j := fun j a b => (k33 j (by omega)).trans (C5 j a b)
  have C8 : ∀ j, 44 < j → j < 53 → f33 j = f8 j := fun j a b => (k33 j (by omega)).trans (C8 j a b)
  have C11 : ∀ j, 52 < j → j < 56 → f33 j = f11 j := fun j a b => (k33 j (by omega)).trans (C11 j a b)
  have C14 : ∀ j, 55 < j → j < 61 → f33 j = f14 j := fun j a b => (k33 j (by omega)).trans (C14 j a b)
  have C17 : ∀ j, 60 < j → j < 63 → f33 j = f17 j := fun j a b => (k33 j (by omega)).trans (C17 j a b)
  have C20 : ∀ j, 62 < j → j < 68 → f33 j = f20 j := fun j a b => (k33 j (by omega)).trans (C20 j a b)
  have C23 : ∀ j, 67 < j → j < 70 → f33 j = f23 j := fun j a b => (k33 j (by omega)).trans (C23 j a b)
  have C26 : ∀ j, 69 < j → j < 72 → f33 j = f26 j := fun j a b => (k33 j (by omega)).trans (C26 j a b)
  have C29 : ∀ j, 71 < j → j < 75 → f33 j = f29 j := fun j a b => (k33 j (by omega)).trans (C29 j a b)
  refine rn_vret dX11_init_149 rfl ?_
  have w0 : ∃ a b c d, f33 68 = some (CVR a b c d) := by
    obtain ⟨a, b, c, d, h⟩ := u23a
    exact ⟨a, b, c, d, (C23 68 (by omega) (by omega)).trans h⟩
  exact ⟨rfl, hz33, K, false, false, false, o33, u2.keep (fun k a b => C2 k (by omega) (by omega)), ⟨0, _, u5.keep (fun k a b => C5 k (by omega) (by omega)), fun i S h => (by cases h)⟩, ⟨⟨0, 0, 0, 0, (C8 45 (by omega) (by omega)).trans u8a⟩, ⟨by decide, zF, u8b.keep (C8 46 (by omega) (by omega)), fun i c h => (by cases h)⟩, P0, u8c.keep (fun k a b => C8 k (by omega) (by omega))⟩, ⟨⟨(C11 53 (by omega) (by omega)).trans u11a, ⟨zF, u11b.keep (C11 54 (by omega) (by omega))⟩, zF, u11c.keep (C11 55 (by omega) (by omega))⟩, ⟨⟨[], 0, u14a.keep (C14 56 (by omega) (by omega)) (C14 57 (by omega) (by omega)) (C14 58 (by omega) (by omega))⟩, ⟨zF, u14b.keep (C14 59 (by omega) (by omega))⟩, zF, u14c.keep (C14 60 (by omega) (by omega))⟩, ⟨⟨0, (C17 61 (by omega) (by omega)).trans u17a⟩, zF, u17b.keep (C17 62 (by omega) (by omega))⟩, ⟨u20.keep (fun k a b => C20 k (by omega) (by omega)), w0, zF, u23b.keep (C23 69 (by omega) (by omega))⟩, ⟨(C26 70 (by omega) (by omega)).trans u26a, _, u26b.keep (C26 71 (by omega) (by omega))⟩, ⟨2, (C29 72 (by omega) (by omega)).trans u29a⟩, ⟨zF, u29b.keep (C29 73 (by omega) (by omega))⟩, zF, u29c.keep (C29 74 (by omega) (by omega))⟩, fun x => (by cases x), fun x => (by cases x), fun x => (by cases x)⟩
theorem ct_X12_init (g : GG) {f : Mm} (hz : FZ f (76)) (o0 : f 75 = some (.inr (11, [.null, .null, .int 0, .null, .int 0, .null, .int 0, .null, .null, .null, .null, .null, .int 0, .int 0, .int 0, .null, .int 0, .int 0, .int 0, .int 0, .null, .int 0, .int 0, .int 0, .null, .null, .int 0, .long 0, .null, .null, .int 0, .int 0, .int 0, .int 0, .int 0, .int 0, .null, .null]))) : Ct g MX12_init [.ref 75] f 17 47099 (fun r f' => r = none ∧ FZ f' (93) ∧ (∀ j, j < 75 → f' j = f j) ∧ MI f' P0 [] []) := by
  refine Ct.of ok_MX12_init (Nat.le_of_ble_eq_true rfl) ?_
  change Wp g MX12_init 0 [some (.ref 75)] [] f 17 47099 _
  have K : ∀ j, j < 75 → f j = f j := fun _ _ => rfl
  refine rn_aload_n dX12_init_0 rfl ?_
  refine rn_obj dX12_init_1 loX12_1 ⟨Nat.le_of_ble_eq_true rfl, Nat.le_of_ble_eq_true rfl⟩ (Nat.le_of_ble_eq_true rfl) ?_
  refine rn_aload_n dX12_init_4 rfl ?_
  refine rn_bipush (v := nI 73) dX12_init_5 (by decide) ?_
  refine rf_ia (k := 16) (n := 47026) dX12_init_7 dX12_init_9 lpX12_7 rfl o0 (Nat.le_of_ble_eq_true rfl) (Nat.le_of_ble_eq_true rfl) rfl rfl hz (fun f1 (hz1 : FZ f1 (77)) k1 (o1 : f1 75 = some (.inr (11, [.ref 76, .null, .int 0, .null, .int 0, .null, .int 0, .null, .null, .null, .null, .null, .int 0, .int 0, .int 0, .null, .int 0, .int 0, .int 0, .int 0, .null, .int 0, .int 0, .int 0, .null, .null, .int 0, .long 0, .null, .null, .int 0, .int 0, .int 0, .int 0, .int 0, .int 0, .null, .null]))) (a1 : f1 76 = some (.inl (0, 73, .inl (fun _ => 0)))) => ?_)
  have K : ∀ j, j < 75 → f1 j = f j := fun j a => (k1 j (by omega) (by omega)).trans (K j a)
  refine rn_aload_n dX12_init_12 rfl ?_
  refine rn_sipush (v := nI 438) dX12_init_13 (by decide) ?_
  refine rf_ia (k := 15) (n := 46588) dX12_init_16 dX12_init_18 lpX12_13 rfl o1 (Nat.le_of_ble_eq_true rfl) (Nat.le_of_ble_eq_true rfl) rfl rfl hz1 (fun f2 (hz2 : FZ f2 (78)) k2 (o2 : f2 75 = some (.inr (11, [.ref 76, .ref 77, .int 0, .null, .int 0, .null, .int 0, .null, .null, .null, .null, .null, .int 0, .int 0, .int 0, .null, .int 0, .int 0, .int 0, .int 0, .null, .int 0, .int 0, .int 0, .null, .null, .int 0, .long 0, .null, .null, .int 0, .int 0, .int 0, .int 0, .int 0, .int 0, .null, .null]))) (a2 : f2 77 = some (.inl (0, 438, .inl (fun _ => 0)))) => ?_)
  have K : ∀ j, j < 75 → f2 j = f j := fun j a => (k2 j (by omega) (by omega)).trans (K j a)
  have a1 := (k2 76 (by omega) (by omega)).trans a1
  refine rn_aload_n dX12_init_21 rfl ?_
  refine rn_sipush (v := nI 160) dX12_init_22 (by decide) ?_
  refine rf_ba (k := 14) (n := 46428) dX12_init_25 dX12_init_27 lpX12_16 rfl o2 (Nat.le_of_ble_eq_true rfl) (Nat.le_of_ble_eq_true rfl) rfl rfl hz2 (fun f3 (hz3 : FZ f3 (79)) k3 (o3 : f3 75 = some (.inr (11, [.ref 76, .ref 77, .int 0, .ref 78, .int 0, .null, .int 0, .null, .null, .null, .null, .null, .int 0, .int 0, .int 0, .null, .int 0, .int 0, .int 0, .int 0, .null, .int 0, .int 0, .int 0, .null, .null, .int 0, .long 0, .null, .null, .int 0, .int 0, .int 0, .int 0, .int 0, .int 0, .null, .null]))) (a3 : f3 78 = some (.inl (2, 160, .inl (fun _ => 0)))) => ?_)
  have K : ∀ j, j < 75 → f3 j = f j := fun j a => (k3 j (by omega) (by omega)).trans (K j a)
  have a1 := (k3 76 (by omega) (by omega)).trans a1
  have a2 := (k3 77 (by omega) (by omega)).trans a2
  refine rn_aload_n dX12_init_30 rfl ?_
  refine rn_bipush (v := nI 9) dX12_init_31 (by decide) ?_
  refine rf_ia (k := 13) (n := 46419) dX12_init_33 dX12_init_35 lpX12_20 rfl o3 (Nat.le_of_ble_eq_true rfl) (Nat.le_of_ble_eq_true rfl) rfl rfl hz3 (fun f4 (hz4 : FZ f4 (80)) k4 (o4 : f4 75 = some (.inr (11, [.ref 76, .ref 77, .int 0, .ref 78, .int 0, .ref 79, .int 0, .null, .null, .null, .null, .null, .int 0, .int 0, .int 0, .null, .int 0, .int 0, .int 0, .int 0, .null, .int 0, .int 0, .int 0, .null, .null, .int 0, .long 0, .null, .null, .int 0, .int 0, .int 0, .int 0, .int 0, .int 0, .null, .null]))) (a4 : f4 79 = some (.inl (0, 9, .inl (fun _ => 0)))) => ?_)
  have K : ∀ j, j < 75 → f4 j = f j := fun j a => (k4 j (by omega) (by omega)).trans (K j a)
  have a1 := (k4 76 (by omega) (by omega)).trans a1
  have a2 := (k4 77 (by omega) (by omega)).trans a2
  have a3 := (k4 78 (by omega) (by omega)).trans a3
  refine rn_aload_n dX12_init_38 rfl ?_
  refine rn_sipush (v := nI 2304) dX12_init_39 (by decide) ?_
  refine rf_ia (k := 12) (n := 44115) dX12_init_42 dX12_init_44 lpX12_23 rfl o4 (Nat.le_of_ble_eq_true rfl) (Nat.le_of_ble_eq_true rfl) rfl rfl hz4 (fun f5 (hz5 : FZ f5 (81)) k5 (o5 : f5 75 = some (.inr (11, [.ref 76, .ref 77, .int 0, .ref 78, .int 0, .ref 79, .int 0, .ref 80, .null, .null, .null, .null, .int 0, .int 0, .int 0, .null, .int 0, .int 0, .int 0, .int 0, .null, .int 0, .int 0, .int 0, .null, .null, .int 0, .long 0, .null, .null, .int 0, .int 0, .int 0, .int 0, .int 0, .int 0, .null, .null]))) (a5 : f5 80 = some (.inl (0, 2304, .inl (fun _ => 0)))) => ?_)
  have K : ∀ j, j < 75 → f5 j = f j := fun j a => (k5 j (by omega) (by omega)).trans (K j a)
  have a1 := (k5 76 (by omega) (by omega)).trans a1
  have a2 := (k5 77 (by omega) (by omega)).trans a2
  have a3 := (k5 78 (by omega) (by omega)).trans a3
  have a4 := (k5 79 (by omega) (by omega)).trans a4
  refine rn_aload_n dX12_init_47 rfl ?_
  refine rn_sipush (v := nI 2304) dX12_init_48 (by decide) ?_
  refine rf_ia (k := 11) (n := 41811) dX12_init_51 dX12_init_53 lpX12_26 rfl o5 (Nat.le_of_ble_eq_true rfl) (Nat.le_of_ble_eq_true rfl) rfl rfl hz5 (fun f6 (hz6 : FZ f6 (82)) k6 (o6 : f6 75 = some (.inr (11, [.ref 76, .ref 77, .int 0, .ref 78, .int 0, .ref 79, .int 0, .ref 80, .ref 81, .null, .null, .null, .int 0, .int 0, .int 0, .null, .int 0, .int 0, .int 0, .int 0, .null, .int 0, .int 0, .int 0, .null, .null, .int 0, .long 0, .null, .null, .int 0, .int 0, .int 0, .int 0, .int 0, .int 0, .null, .null]))) (a6 : f6 81 = some (.inl (0, 2304, .inl (fun _ => 0)))) => ?_)
  have K : ∀ j, j < 75 → f6 j = f j := fun j a => (k6 j (by omega) (by omega)).trans (K j a)
  have a1 := (k6 76 (by omega) (by omega)).trans a1
  have a2 := (k6 77 (by omega) (by omega)).trans a2
  have a3 := (k6 78 (by omega) (by omega)).trans a3
  have a4 := (k6 79 (by omega) (by omega)).trans a4
  have a5 := (k6 80 (by omega) (by omega)).trans a5
  refine rn_aload_n dX12_init_56 rfl ?_
  refine rn_sipush (v := nI 2304) dX12_init_57 (by decide) ?_
  refine rf_ia (k := 10) (n := 39507) dX12_init_60 dX12_init_62 lpX12_29 rfl o6 (Nat.le_of_ble_eq_true rfl) (Nat.le_of_ble_eq_true rfl) rfl rfl hz6 (fun f7 (hz7 : FZ f7 (83)) k7 (o7 : f7 75 = some (.inr (11, [.ref 76, .ref 77, .int 0, .ref 78, .int 0, .ref 79, .int 0, .ref 80, .ref 81, .ref 82, .null, .null, .int 0, .int 0, .int 0, .null, .int 0, .int 0, .int 0, .int 0, .null, .int 0, .int 0, .int 0, .null, .null, .int 0, .long 0, .null, .null, .int 0, .int 0, .int 0, .int 0, .int 0, .int 0, .null, .null]))) (a7 : f7 82 = some (.inl (0, 2304, .inl (fun _ => 0)))) => ?_)
  have K : ∀ j, j < 75 → f7 j = f j := fun j a => (k7 j (by omega) (by omega)).trans (K j a)
  have a1 := (k7 76 (by omega) (by omega)).trans a1
  have a2 := (k7 77 (by omega) (by omega)).trans a2
  have a3 := (k7 78 (by omega) (by omega)).trans a3
  have a4 := (k7 79 (by omega) (by omega)).trans a4
  have a5 := (k7 80 (by omega) (by omega)).trans a5
  have a6 := (k7 81 (by omega) (by omega)).trans a6
  refine rn_aload_n dX12_init_65 rfl ?_
  refine rn_sipush (v := nI 2304) dX12_init_66 (by decide) ?_
  refine rf_la (k := 9) (n := 37203) dX12_init_69 dX12_init_71 lpX12_32 rfl o7 (Nat.le_of_ble_eq_true rfl) (Nat.le_of_ble_eq_true rfl) rfl rfl hz7 (fun f8 (hz8 : FZ f8 (84)) k8 (o8 : f8 75 = some (.inr (11, [.ref 76, .ref 77, .int 0, .ref 78, .int 0, .ref 79, .int 0, .ref 80, .ref 81, .ref 82, .ref 83, .null, .int 0, .int 0, .int 0, .null, .int 0, .int 0, .int 0, .int 0, .null, .int 0, .int 0, .int 0, .null, .null, .int 0, .long 0, .null, .null, .int 0, .int 0, .int 0, .int 0, .int 0, .int 0, .null, .null]))) (a8 : f8 83 = some (.inl (1, 2304, .inr (.inl (fun _ => 0))))) => ?_)
  have K : ∀ j, j < 75 → f8 j = f j := fun j a => (k8 j (by omega) (by omega)).trans (K j a)
  have a1 := (k8 76 (by omega) (by omega)).trans a1
  have a2 := (k8 77 (by omega) (by omega)).trans a2
  have a3 := (k8 78 (by omega) (by omega)).trans a3
  have a4 := (k8 79 (by omega) (by omega)).trans a4
  have a5 := (k8 80 (by omega) (by omega)).trans a5
  have a6 := (k8 81 (by omega) (by omega)).trans a6
  have a7 := (k8 82 (by omega) (by omega)).trans a7
  refine rn_aload_n dX12_init_74 rfl ?_
  refine rn_sipush (v := nI 2304) dX12_init_75 (by decide) ?_
  refine rf_ia (k := 8) (n := 34899) dX12_init_78 dX12_init_80 lpX12_36 rfl o8 (Nat.le_of_ble_eq_true rfl) (Nat.le_of_ble_eq_true rfl) rfl rfl hz8 (fun f9 (hz9 : FZ f9 (85)) k9 (o9 : f9 75 = some (.inr (11, [.ref 76, .ref 77, .int 0, .ref 78, .int 0, .ref 79, .int 0, .ref 80, .ref 81, .ref 82, .ref 83, .ref 84, .int 0, .int 0, .int 0, .null, .int 0, .int 0, .int 0, .int 0, .null, .int 0, .int 0, .int 0, .null, .null, .int 0, .long 0, .null, .null, .int 0, .int 0, .int 0, .int 0, .int 0, .int 0, .null, .null]))) (a9 : f9 84 = some (.inl (0, 2304, .inl (fun _ => 0)))) => ?_)
  have K : ∀ j, j < 75 → f9 j = f j := fun j a => (k9 j (by omega) (by omega)).trans (K j a)
  have a1 := (k9 76 (by omega) (by omega)).trans a1
  have a2 := (k9 77 (by omega) (by omega)).trans a2
  have a3 := (k9 78 (by omega) (by omega)).trans a3
  have a4 := (k9 79 (by omega) (by omega)).trans a4
  have a5 := (k9 80 (by omega) (by omega)).trans a5
  have a6 := (k9 81 (by omega) (by omega)).trans a6
  have a7 := (k9 82 (by omega) (by omega)).trans a7
  have a8 := (k9 83 (by omega) (by omega)).trans a8
  refine rn_aload_n dX12_init_83 rfl ?_
  refine rn_bipush (v := nI 73) dX12_init_84 (by decide) ?_
  refine rf_ia (k := 7) (n := 34826) dX12_init_86 dX12_init_88 lpX12_39 rfl o9 (Nat.le_of_ble_eq_true rfl) (Nat.le_of_ble_eq_true rfl) rfl rfl hz9 (fun f10 (hz10 : FZ f10 (86)) k10 (o10 : f10 75 = some (.inr (11, [.ref 76, .ref 77, .int 0, .ref 78, .int 0, .ref 79, .int 0, .ref 80, .ref 81, .ref 82, .ref 83, .ref 84, .int 0, .int 0, .int 0, .ref 85, .int 0, .int 0, .int 0, .int 0, .null, .int 0, .int 0, .int 0, .null, .null, .int 0, .long 0, .null, .null, .int 0, .int 0, .int 0, .int 0, .int 0, .int 0, .null, .null]))) (a10 : f10 85 = some (.inl (0, 73, .inl (fun _ => 0)))) => ?_)
  have K : ∀ j, j < 75 → f10 j = f j := fun j a => (k10 j (by omega) (by omega)).trans (K j a)
  have a1 := (k10 76 (by omega) (by omega)).trans a1
  have a2 := (k10 77 (by omega) (by omega)).trans a2
  have a3 := (k10 78 (by omega) (by omega)).trans a3
  have a4 := (k10 79 (by omega) (by omega)).trans a4
  have a5 := (k10 80 (by omega) (by omega)).trans a5
  have a6 := (k10 81 (by omega) (by omega)).trans a6
  have a7 := (k10 82 (by omega) (by omega)).trans a7
  have a8 := (k10 83 (by omega) (by omega)).trans a8
  have a9 := (k10 84 (by omega) (by omega)).trans a9
  refine rn_aload_n dX12_init_91 rfl ?_
  refine rn_bipush (v := nI 36) dX12_init_92 (by decide) ?_
  refine rf_ia (k := 6) (n := 34790) dX12_init_94 dX12_init_96 lpX12_42 rfl o10 (Nat.le_of_ble_eq_true rfl) (Nat.le_of_ble_eq_true rfl) rfl rfl hz10 (fun f11 (hz11 : FZ f11 (87)) k11 (o11 : f11 75 = some (.inr (11, [.ref 76, .ref 77, .int 0, .ref 78, .int 0, .ref 79, .int 0, .ref 80, .ref 81, .ref 82, .ref 83, .ref 84, .int 0, .int 0, .int 0, .ref 85, .int 0, .int 0, .int 0, .int 0, .ref 86, .int 0, .int 0, .int 0, .null, .null, .int 0, .long 0, .null, .null, .int 0, .int 0, .int 0, .int 0, .int 0, .int 0, .null, .null]))) (a11 : f11 86 = some (.inl (0, 36, .inl (fun _ => 0)))) => ?_)
  have K : ∀ j, j < 75 → f11 j = f j := fun j a => (k11 j (by omega) (by omega)).trans (K j a)
  have a1 := (k11 76 (by omega) (by omega)).trans a1
  have a2 := (k11 77 (by omega) (by omega)).trans a2
  have a3 := (k11 78 (by omega) (by omega)).trans a3
  have a4 := (k11 79 (by omega) (by omega)).trans a4
  have a5 := (k11 80 (by omega) (by omega)).trans a5
  have a6 := (k11 81 (by omega) (by omega)).trans a6
  have a7 := (k11 82 (by omega) (by omega)).trans a7
  have a8 := (k11 83 (by omega) (by omega)).trans a8
  have a9 := (k11 84 (by omega) (by omega)).trans a9
  have a10 := (k11 85 (by omega) (by omega)).trans a10
  refine rn_aload_n dX12_init_99 rfl ?_
  refine rn_bipush (v := nI 37) dX12_init_100 (by decide) ?_
  refine rf_ia (k := 5) (n := 34753) dX12_init_102 dX12_init_104 lpX12_45 rfl o11 (Nat.le_of_ble_eq_true rfl) (Nat.le_of_ble_eq_true rfl) rfl rfl hz11 (fun f12 (hz12 : FZ f12 (88)) k12 (o12 : f12 75 = some (.inr (11, [.ref 76, .ref 77, .int 0, .ref 78, .int 0, .ref 79, .int 0, .ref 80, .ref 81, .ref 82, .ref 83, .ref 84, .int 0, .int 0, .int 0, .ref 85, .int 0, .int 0, .int 0, .int 0, .ref 86, .int 0, .int 0, .int 0, .ref 87, .null, .int 0, .long 0, .null, .null, .int 0, .int 0, .int 0, .int 0, .int 0, .int 0, .null, .null]))) (a12 : f12 87 = some (.inl (0, 37, .inl (fun _ => 0)))) => ?_)
  have K : ∀ j, j < 75 → f12 j = f j := fun j a => (k12 j (by omega) (by omega)).trans (K j a)
  have a1 := (k12 76 (by omega) (by omega)).trans a1
  have a2 := (k12 77 (by omega) (by omega)).trans a2
  have a3 := (k12 78 (by omega) (by omega)).trans a3
  have a4 := (k12 79 (by omega) (by omega)).trans a4
  have a5 := (k12 80 (by omega) (by omega)).trans a5
  have a6 := (k12 81 (by omega) (by omega)).trans a6
  have a7 := (k12 82 (by omega) (by omega)).trans a7
  have a8 := (k12 83 (by omega) (by omega)).trans a8
  have a9 := (k12 84 (by omega) (by omega)).trans a9
  have a10 := (k12 85 (by omega) (by omega)).trans a10
  have a11 := (k12 86 (by omega) (by omega)).trans a11
  refine rn_aload_n dX12_init_107 rfl ?_
  refine rn_bipush (v := nI 37) dX12_init_108 (by decide) ?_
  refine rf_ia (k := 4) (n := 34716) dX12_init_110 dX12_init_112 lpX12_48 rfl o12 (Nat.le_of_ble_eq_true rfl) (Nat.le_of_ble_eq_true rfl) rfl rfl hz12 (fun f13 (hz13 : FZ f13 (89)) k13 (o13 : f13 75 = some (.inr (11, [.ref 76, .ref 77, .int 0, .ref 78, .int 0, .ref 79, .int 0, .ref 80, .ref 81, .ref 82, .ref 83, .ref 84, .int 0, .int 0, .int 0, .ref 85, .int 0, .int 0, .int 0, .int 0, .ref 86, .int 0, .int 0, .int 0, .ref 87, .ref 88, .int 0, .long 0, .null, .null, .int 0, .int 0, .int 0, .int 0, .int 0, .int 0, .null, .null]))) (a13 : f13 88 = some (.inl (0, 37, .inl (fun _ => 0)))) => ?_)
  have K : ∀ j, j < 75 → f13 j = f j := fun j a => (k13 j (by omega) (by omega)).trans (K j a)
  have a1 := (k13 76 (by omega) (by omega)).trans a1
  have a2 := (k13 77 (by omega) (by omega)).trans a2
  have a3 := (k13 78 (by omega) (by omega)).trans a3
  have a4 := (k13 79 (by omega) (by omega)).trans a4
  have a5 := (k13 80 (by omega) (by omega)).trans a5
  have a6 := (k13 81 (by omega) (by omega)).trans a6
  have a7 := (k13 82 (by omega) (by omega)).trans a7
  have a8 := (k13 83 (by omega) (by omega)).trans a8
  have a9 := (k13 84 (by omega) (by omega)).trans a9
  have a10 := (k13 85 (by omega) (by omega)).trans a10
  have a11 := (k13 86 (by omega) (by omega)).trans a11
  have a12 := (k13 87 (by omega) (by omega)).trans a12
  refine rn_aload_n dX12_init_115 rfl ?_
  refine rn_iconst (v := nI 4) dX12_init_116 (by decide) ?_
  refine rf_la (k := 3) (n := 34712) dX12_init_117 dX12_init_119 lpX12_51 rfl o13 (Nat.le_of_ble_eq_true rfl) (Nat.le_of_ble_eq_true rfl) rfl rfl hz13 (fun f14 (hz14 : FZ f14 (90)) k14 (o14 : f14 75 = some (.inr (11, [.ref 76, .ref 77, .int 0, .ref 78, .int 0, .ref 79, .int 0, .ref 80, .ref 81, .ref 82, .ref 83, .ref 84, .int 0, .int 0, .int 0, .ref 85, .int 0, .int 0, .int 0, .int 0, .ref 86, .int 0, .int 0, .int 0, .ref 87, .ref 88, .int 0, .long 0, .ref 89, .null, .int 0, .int 0, .int 0, .int 0, .int 0, .int 0, .null, .null]))) (a14 : f14 89 = some (.inl (1, 4, .inr (.inl (fun _ => 0))))) => ?_)
  have K : ∀ j, j < 75 → f14 j = f j := fun j a => (k14 j (by omega) (by omega)).trans (K j a)
  have a1 := (k14 76 (by omega) (by omega)).trans a1
  have a2 := (k14 77 (by omega) (by omega)).trans a2
  have a3 := (k14 78 (by omega) (by omega)).trans a3
  have a4 := (k14 79 (by omega) (by omega)).trans a4
  have a5 := (k14 80 (by omega) (by omega)).trans a5
  have a6 := (k14 81 (by omega) (by omega)).trans a6
  have a7 := (k14 82 (by omega) (by omega)).trans a7
  have a8 := (k14 83 (by omega) (by omega)).trans a8
  have a9 := (k14 84 (by omega) (by omega)).trans a9
  have a10 := (k14 85 (by omega) (by omega)).trans a10
  have a11 := (k14 86 (by omega) (by omega)).trans a11
  have a12 := (k14 87 (by omega) (by omega)).trans a12
  have a13 := (k14 88 (by omega) (by omega)).trans a13
  refine rn_aload_n dX12_init_122 rfl ?_
  refine rn_bipush (v := nI 8) dX12_init_123 (by decide) ?_
  refine rf_ia (k := 2) (n := 34704) dX12_init_125 dX12_init_127 lpX12_54 rfl o14 (Nat.le_of_ble_eq_true rfl) (Nat.le_of_ble_eq_true rfl) rfl rfl hz14 (fun f15 (hz15 : FZ f15 (91)) k15 (o15 : f15 75 = some (.inr (11, [.ref 76, .ref 77, .int 0, .ref 78, .int 0, .ref 79, .int 0, .ref 80, .ref 81, .ref 82, .ref 83, .ref 84, .int 0, .int 0, .int 0, .ref 85, .int 0, .int 0, .int 0, .int 0, .ref 86, .int 0, .int 0, .int 0, .ref 87, .ref 88, .int 0, .long 0, .ref 89, .ref 90, .int 0, .int 0, .int 0, .int 0, .int 0, .int 0, .null, .null]))) (a15 : f15 90 = some (.inl (0, 8, .inl (fun _ => 0)))) => ?_)
  have K : ∀ j, j < 75 → f15 j = f j := fun j a => (k15 j (by omega) (by omega)).trans (K j a)
  have a1 := (k15 76 (by omega) (by omega)).trans a1
  have a2 := (k15 77 (by omega) (by omega)).trans a2
  have a3 := (k15 78 (by omega) (by omega)).trans a3
  have a4 := (k15 79 (by omega) (by omega)).trans a4
  have a5 := (k15 80 (by omega) (by omega)).trans a5
  have a6 := (k15 81 (by omega) (by omega)).trans a6
  have a7 := (k15 82 (by omega) (by omega)).trans a7
  have a8 := (k15 83 (by omega) (by omega)).trans a8
  have a9 := (k15 84 (by omega) (by omega)).trans a9
  have a10 := (k15 85 (by omega) (by omega)).trans a10
  have a11 := (k15 86 (by omega) (by omega)).trans a11
  have a12 := (k15 87 (by omega) (by omega)).trans a12
  have a13 := (k15 88 (by omega) (by omega)).trans a13
  have a14 := (k15 89 (by omega) (by omega)).trans a14
  refine rn_aload_n dX12_init_130 rfl ?_
  refine rn_sipush (v := nI 32400) dX12_init_131 (by decide) ?_
  refine rf_ia (k := 1) (n := 2304) dX12_init_134 dX12_init_136 lpX12_57 rfl o15 (Nat.le_of_ble_eq_true rfl) (Nat.le_of_ble_eq_true rfl) rfl rfl hz15 (fun f16 (hz16 : FZ f16 (92)) k16 (o16 : f16 75 = some (.inr (11, [.ref 76, .ref 77, .int 0, .ref 78, .int 0, .ref 79, .int 0, .ref 80, .ref 81, .ref 82, .ref 83, .ref 84, .int 0, .int 0, .int 0, .ref 85, .int 0, .int 0, .int 0, .int 0, .ref 86, .int 0, .int 0, .int 0, .ref 87, .ref 88, .int 0, .long 0, .ref 89, .ref 90, .int 0, .int 0, .int 0, .int 0, .int 0, .int 0, .ref 91, .null]))) (a16 : f16 91 = some (.inl (0, 32400, .inl (fun _ => 0)))) => ?_)
  have K : ∀ j, j < 75 → f16 j = f j := fun j a => (k16 j (by omega) (by omega)).trans (K j a)
  have a1 := (k16 76 (by omega) (by omega)).trans a1
  have a2 := (k16 77 (by omega) (by omega)).trans a2
  have a3 := (k16 78 (by omega) (by omega)).trans a3
  have a4 := (k16 79 (by omega) (by omega)).trans a4
  have a5 := (k16 80 (by omega) (by omega)).trans a5
  have a6 := (k16 81 (by omega) (by omega)).trans a6
  have a7 := (k16 82 (by omega) (by omega)).trans a7
  have a8 := (k16 83 (by omega) (by omega)).trans a8
  have a9 := (k16 84 (by omega) (by omega)).trans a9
  have a10 := (k16 85 (by omega) (by omega)).trans a10
  have a11 := (k16 86 (by omega) (by omega)).trans a11
  have a12 := (k16 87 (by omega) (by omega)).trans a12
  have a13 := (k16 88 (by omega) (by omega)).trans a13
  have a14 := (k16 89 (by omega) (by omega)).trans a14
  have a15 := (k16 90 (by omega) (by omega)).trans a15
  refine rn_aload_n dX12_init_139 rfl ?_
  refine rn_sipush (v := nI 2304) dX12_init_140 (by decide) ?_
  refine rf_za (k := 0) (n := 0) dX12_init_143 dX12_init_145 lpX12_60 rfl o16 (Nat.le_of_ble_eq_true rfl) (Nat.le_of_ble_eq_true rfl) rfl rfl hz16 (fun f17 (hz17 : FZ f17 (93)) k17 (o17 : f17 75 = some (.inr (11, [.ref 76, .ref 77, .int 0, .ref 78, .int 0, .ref 79, .int 0, .ref 80, .ref 81, .ref 82, .ref 83, .ref 84, .int 0, .int 0, .int 0, .ref 85, .int 0, .int 0, .int 0, .int 0, .ref 86, .int 0, .int 0, .int 0, .ref 87, .ref 88, .int 0, .long 0, .ref 89, .ref 90, .int 0, .int 0, .int 0, .int 0, .int 0, .int 0, .ref 91, .ref 92]))) (a17 : f17 92 = some (.inl (3, 2304, .inl (fun _ => 0)))) => ?_)
  have K : ∀ j, j < 75 → f17 j = f j := fun j a => (k17 j (by omega) (by omega)).trans (K j a)
  have a1 := (k17 76 (by omega) (by omega)).trans a1
  have a2 := (k17 77 (by omega) (by omega)).trans a2
  have a3 := (k17 78 (by omega) (by omega)).trans a3
  have a4 := (k17 79 (by omega) (by omega)).trans a4
  have a5 := (k17 80 (by omega) (by omega)).trans a5
  have a6 := (k17 81 (by omega) (by omega)).trans a6
  have a7 := (k17 82 (by omega) (by omega)).trans a7
  have a8 := (k17 83 (by omega) (by omega)).trans a8
  have a9 := (k17 84 (by omega) (by omega)).trans a9
  have a10 := (k17 85 (by omega) (by omega)).trans a10
  have a11 := (k17 86 (by omega) (by omega)).trans a11
  have a12 := (k17 87 (by omega) (by omega)).trans a12
  have a13 := (k17 88 (by omega) (by omega)).trans a13
  have a14 := (k17 89 (by omega) (by omega)).trans a14
  have a15 := (k17 90 (by omega) (by omega)).trans a15
  have a16 := (k17 91 (by omega) (by omega)).trans a16
  refine rn_aload_n dX12_init_148 rfl ?_
  refine rn_get dX12_init_149 lfX12_7 o17 rfl ?_
  refine rn_iconst (v := nI 0) dX12_init_152 (by decide) ?_
  refine rn_iconst (v := nI 4) dX12_init_153 (by decide) ?_
  refine rn_iast dX12_init_154 a1 (vp_in_nI (by decide) (by decide)) ?_
  refine Wp.gen (fun f18 k18 a1 => ?_)
  have hz18 : FZ f18 (93) := fun j => by
    by_cases hj : j = 76
    · subst hj; rw [a1]; exact ⟨fun a => (by cases a), fun a => (by omega)⟩
    · rw [k18 j hj]; exact hz17 j
  have K : ∀ j, j < 75 → f18 j = f j := fun j a => (k18 j (by omega)).trans (K j a)
  have o18 := (k18 75 (by omega)).trans o17
  have a2 := (k18 77 (by omega)).trans a2
  have a3 := (k18 78 (by omega)).trans a3
  have a4 := (k18 79 (by omega)).trans a4
  have a5 := (k18 80 (by omega)).trans a5
  have a6 := (k18 81 (by omega)).trans a6
  have a7 := (k18 82 (by omega)).trans a7
  have a8 := (k18 83 (by omega)).trans a8
  have a9 := (k18 84 (by omega)).trans a9
  have a10 := (k18 85 (by omega)).trans a10
  have a11 := (k18 86 (by omega)).trans a11
  have a12 := (k18 87 (by omega)).trans a12
  have a13 := (k18 88 (by omega)).trans a13
  have a14 := (k18 89 (by omega)).trans a14
  have a15 := (k18 90 (by omega)).trans a15
  have a16 := (k18 91 (by omega)).trans a16
  have a17 := (k18 92 (by omega)).trans a17
  refine rn_aload_n dX12_init_155 rfl ?_
  refine rn_get dX12_init_156 lfX12_7 o18 rfl ?_
  refine rn_iconst (v := nI 1) dX12_init_159 (by decide) ?_
  refine rn_iconst (v := nI 4) dX12_init_160 (by decide) ?_
  refine rn_iast dX12_init_161 a1 (vp_in_nI (by decide) (by decide)) ?_
  refine Wp.gen (fun f19 k19 a1 => ?_)
  have hz19 : FZ f19 (93) := fun j => by
    by_cases hj : j = 76
    · subst hj; rw [a1]; exact ⟨fun a => (by cases a), fun a => (by omega)⟩
    · rw [k19 j hj]; exact hz18 j
  have K : ∀ j, j < 75 → f19 j = f j := fun j a => (k19 j (by omega)).trans (K j a)
  have o19 := (k19 75 (by omega)).trans o18
  have a2 := (k19 77 (by omega)).trans a2
  have a3 := (k19 78 (by omega)).trans a3
  have a4 := (k19 79 (by omega)).trans a4
  have a5 := (k19 80 (by omega)).trans a5
  have a6 := (k19 81 (by omega)).trans a6
  have a7 := (k19 82 (by omega)).trans a7
  have a8 := (k19 83 (by omega)).trans a8
  have a9 := (k19 84 (by omega)).trans a9
  have a10 := (k19 85 (by omega)).trans a10
  have a11 := (k19 86 (by omega)).trans a11
  have a12 := (k19 87 (by omega)).trans a12
  have a13 := (k19 88 (by omega)).trans a13
  have a14 := (k19 89 (by omega)).trans a14
  have a15 := (k19 90 (by omega)).trans a15
  have a16 := (k19 91 (by omega)).trans a16
  have a17 := (k19 92 (by omega)).trans a17
  refine rn_vret dX12_init_162 rfl ?_
  have s5 : ∀ i, i < pW P0 * pH P0 → upd (upd (fun _ => (0 : Int32)) (nI 0).toNatClampNeg (nI 4)) (nI 1).toNatClampNeg (nI 4) (5 + i) = pC P0 i := fun i hi => by
    rw [upd_ne (by rw [nI_clamp (by decide)]; omega), upd_ne (by rw [nI_clamp (by decide)]; omega)]
    rfl
  exact ⟨rfl, hz19, K, fun _ => 0, 0, _, zF, ⟨o19, ⟨_, a1, fun _ _ => rfl⟩, ⟨rfl, rfl, rfl, rfl, rfl, fun i hi => s5 i hi, fun i hi => absurd hi (Nat.not_lt_zero _)⟩, ⟨⟨zF, ⟨_, a4, fun _ _ => rfl⟩⟩, ⟨[], ⟨_, a5, fun k e h => (by cases h)⟩, ⟨_, a6, fun k e h => (by cases h)⟩, ⟨_, a7, fun k e h => (by cases h)⟩, ⟨_, a8, fun k e h => (by cases h)⟩, _, a9, fun k e h => (by cases h)⟩, ⟨⟨zF, ⟨_, a12, fun _ _ => rfl⟩⟩, ⟨zF, ⟨_, a13, fun _ _ => rfl⟩⟩, ⟨fun _ => 0, _, a14, fun _ _ => rfl⟩, zF, ⟨_, a15, fun _ _ => rfl⟩⟩, ⟨zF, ⟨_, a16, fun _ _ => rfl⟩⟩, ⟨fun _ => false, _, a17, fun _ _ => rfl⟩, ⟨zF, ⟨_, a10, fun _ _ => rfl⟩⟩, zF, ⟨_, a11, fun _ _ => rfl⟩⟩⟩, ⟨_, a2, fun _ _ => rfl⟩, rfl, by decide, fun i S h => (by cases h), ⟨_, a3, by decide, fun i c h => (by cases h)⟩, rfl⟩
