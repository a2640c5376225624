theorem ct_save (g : GG) (f : Mm) {o s : Nat} {R : Nat → PS} {P : PS} (hH : HB f o s R) (hP : PB f 1 P) : Ct g MX2_save [.ref 7, .ref 1] f 0 0 (fun r f' => r = none ∧ FR f f' 7 38 ∧ HB f' (if s < 6 then o else (o + 1) % 6) (if s < 6 then s + 1 else s) (fun j => if j = (o + s) % 6 then P else R j)) := by
  refine Ct.of ok_MX2_save (Nat.le_of_ble_eq_true rfl) ?_
  change Wp g MX2_save 0 [some (.ref 7), some (.ref 1), none] [] f 0 0 _
  obtain ⟨h1, ⟨a, h2, h3⟩, h4, h5, h6⟩ := id hH
  have hm : (o + s) % 6 < 6 := Nat.mod_lt _ (by decide)
  refine rn_aload_n dX2_save_0 rfl ?_
  refine rn_aload_n dX2_save_1 rfl ?_
  refine rn_get dX2_save_2 lfX2_21 h1 rfl ?_
  refine rn_callV dX2_save_5 lmX2_25 ⟨Nat.le_of_ble_eq_true rfl, Nat.le_of_ble_eq_true rfl⟩ (ct_slotAfterOldest g f hH h6) h1 rfl rfl (Nat.le_of_ble_eq_true rfl) ?_
  rintro _ _ ⟨rfl, rfl⟩
  refine rn_astore_n dX2_save_8 (Nat.le_of_ble_eq_true rfl) rfl ?_
  refine rn_aload_n dX2_save_9 rfl ?_
  refine rn_ifnonnull (tgt := 14) dX2_save_10 (by decide) ?_
  refine rn_aload_n dX2_save_14 rfl ?_
  refine rn_aload_n dX2_save_15 rfl ?_
  refine rn_callV dX2_save_16 lmX2_29 ⟨Nat.le_of_ble_eq_true rfl, Nat.le_of_ble_eq_true rfl⟩ (ct_copyFrom g f (h4 _ hm) hP (by omega)) (h4 _ hm).1 rfl rfl (Nat.le_of_ble_eq_true rfl) ?_
  rintro _ f1 ⟨rfl, a1, k1⟩
  have o1 := (k1 7 (by omega)).trans h1
  have hR : ∀ j, j < 6 → PB f1 (9 + 6 * j) (if j = (o + s) % 6 then P else R j) := fun j hj => by
    by_cases e : j = (o + s) % 6
    · rw [if_pos e, e]; exact a1
    · rw [if_neg e]; exact (h4 j hj).keep (fun k x y => k1 k (by omega))
  refine rn_aload_n dX2_save_19 rfl ?_
  refine rn_get dX2_save_20 lfX2_21 o1 rfl ?_
  refine rn_bipush (v := nI 6) dX2_save_23 (by decide) ?_
  refine rn_icmp_ge (tgt := 41) dX2_save_25 (by decide) (fun c25 => ?_) (fun c25 => ?_)
  · refine rn_aload_n dX2_save_41 rfl ?_
    refine rn_aload_n dX2_save_42 rfl ?_
    refine rn_get dX2_save_43 lfX2_17 o1 rfl ?_
    refine rn_iconst (v := nI 1) dX2_save_46 (by decide) ?_
    refine rn_iadd dX2_save_47 ?_
    refine rn_bipush (v := nI 6) dX2_save_48 (by decide) ?_
    refine rn_irem dX2_save_50 (by decide) ?_
    rw [nI_add, pk_rem (by omega) (by decide) (by decide)]
    refine rn_put dX2_save_51 lpX2_17 o1 rfl rfl (Nat.le_of_ble_eq_true rfl) ?_
    refine rn_vret dX2_save_54 rfl ?_
    have hs := ge_ex c25 (by omega) (by decide)
    rw [if_neg (by omega), if_neg (by omega)]
    exact ⟨rfl, (fun k hk => (up_ne (by omega)).trans (k1 k (by omega))), up_same _ _ _, ⟨a, (up_ne (by decide)).trans ((k1 8 (by omega)).trans h2), h3⟩, fun j hj => (hR j hj).keep (fun k x y => up_ne (by omega)), Nat.mod_lt _ (by decide), h6⟩
  · refine rn_aload_n dX2_save_28 rfl ?_
    refine rn_dup dX2_save_29 rfl ?_
    refine rn_get dX2_save_30 lfX2_21 o1 rfl ?_
    refine rn_iconst (v := nI 1) dX2_save_33 (by decide) ?_
    refine rn_iadd dX2_save_34 ?_
    rw [nI_add]
    refine rn_put dX2_save_35 lpX2_21 o1 rfl rfl (Nat.le_of_ble_eq_true rfl) ?_
    refine rn_goto (tgt := 54) dX2_save_38 (by decide) ?_
    refine rn_vret dX2_save_54 rfl ?_
    have hs := ge_in c25 (by omega)
    rw [if_pos hs, if_pos hs]
    exact ⟨rfl, (fun k hk => (up_ne (by omega)).trans (k1 k (by omega))), up_same _ _ _, ⟨a, (up_ne (by decide)).trans ((k1 8 (by omega)).trans h2), h3⟩, fun j hj => (hR j hj).keep (fun k x y => up_ne (by omega)), h5, by omega⟩
theorem ct_restore (g : GG) (f : Mm) {o s : Nat} {R : Nat → PS} {P : PS} (hH : HB f o s R) (hP : PB f 1 P) (hs : 0 < s) : Ct g MX2_restore [.ref 7, .ref 1] f 0 0 (fun r f' => r = none ∧ FR f f' 1 7 ∧ PB f' 1 (R ((o + (s - 1)) % 6)) ∧ HB f' o (s - 1) R) := by
  refine Ct.of ok_MX2_restore (Nat.le_of_ble_eq_true rfl) ?_
  change Wp g MX2_restore 0 [some (.ref 7), some (.ref 1), none] [] f 0 0 _
  obtain ⟨h1, ⟨a, h2, h3⟩, h4, h5, h6⟩ := id hH
  have hm : (o + (s - 1)) % 6 < 6 := Nat.mod_lt _ (by decide)
  refine rn_aload_n dX2_restore_0 rfl ?_
  refine rn_get dX2_restore_1 lfX2_21 h1 rfl ?_
  refine rn_if_le (tgt := 20) dX2_restore_4 (by decide) (fun c4 => ?_) (fun c4 => ?_)
  · exact absurd c4 (nI_nle hs (by omega))
  · refine rn_aload_n dX2_restore_7 rfl ?_
    refine rn_aload_n dX2_restore_8 rfl ?_
    refine rn_get dX2_restore_9 lfX2_21 h1 rfl ?_
    refine rn_iconst (v := nI 1) dX2_restore_12 (by decide) ?_
    refine rn_isub dX2_restore_13 ?_
    rw [show nI s - nI 1 = nI (s - 1) from pk_sub hs]
    refine rn_callV dX2_restore_14 lmX2_25 ⟨Nat.le_of_ble_eq_true rfl, Nat.le_of_ble_eq_true rfl⟩ (ct_slotAfterOldest g f hH (by omega)) h1 rfl rfl (Nat.le_of_ble_eq_true rfl) ?_
    rintro _ _ ⟨rfl, rfl⟩
    refine rn_goto (tgt := 21) dX2_restore_17 (by decide) ?_
    refine rn_astore_n dX2_restore_21 (Nat.le_of_ble_eq_true rfl) rfl ?_
    refine rn_aload_n dX2_restore_22 rfl ?_
    refine rn_ifnonnull (tgt := 27) dX2_restore_23 (by decide) ?_
    refine rn_aload_n dX2_restore_27 rfl ?_
    refine rn_aload_n dX2_restore_28 rfl ?_
    refine rn_callV dX2_restore_29 lmX2_29 ⟨Nat.le_of_ble_eq_true rfl, Nat.le_of_ble_eq_true rfl⟩ (ct_copyFrom g f hP (h4 _ hm) (by omega)) hP.1 rfl rfl (Nat.le_of_ble_eq_true rfl) ?_
    rintro _ f1 ⟨rfl, a1, k1⟩
    have o1 := (k1 7 (by omega)).trans h1
    refine rn_aload_n dX2_restore_32 rfl ?_
    refine rn_dup dX2_restore_33 rfl ?_
    refine rn_get dX2_restore_34 lfX2_21 o1 rfl ?_
    refine rn_iconst (v := nI 1) dX2_restore_37 (by decide) ?_
    refine rn_isub dX2_restore_38 ?_
    rw [show nI s - nI 1 = nI (s - 1) from pk_sub hs]
    refine rn_put dX2_restore_39 lpX2_21 o1 rfl rfl (Nat.le_of_ble_eq_true rfl) ?_
    refine rn_vret dX2_restore_42 rfl ?_
    exact ⟨rfl, (fun k hk => (up_ne (by omega)).trans (k1 k (by omega))), a1.keep (fun k x y => up_ne (by omega)), up_same _ _ _, ⟨a, (up_ne (by decide)).trans ((k1 8 (by omega)).trans h2), h3⟩, fun j hj => ((h4 j hj).keep (fun k x y => k1 k (by omega))).keep (fun k x y => up_ne (by omega)), h5, by omega⟩
-- the object itself, at 0
abbrev XE (b1 b2 b3 : Int32) : Ent := .inr (10, [.ref 1, .ref 7, .ref 45, .ref 53, .ref 56, .ref 61, .ref 63, .ref 68, .ref 70, .ref 72, .int b1, .int b2, .int b3])
theorem ct_forgetDerived (g : GG) (f : Mm) {b1 b2 b3 : Int32} (hX : f 0 = some (XE b1 b2 b3)) : Ct g MX11_forgetDerived [.ref 0] f 0 0 (fun r f' => r = none ∧ f' 0 = some (XE 0 0 0) ∧ FR f f' 0 1) := by
  refine Ct.of ok_MX11_forgetDerived (Nat.le_of_ble_eq_true rfl) ?_
  change Wp g MX11_forgetDerived 0 [some (.ref 0)] [] f 0 0 _
  refine rn_aload_n dX11_forgetDerived_0 rfl ?_
  refine rn_iconst (v := nI 0) dX11_forgetDerived_1 (by decide) ?_
  refine rn_put dX11_forgetDerived_2 lpX11_83 hX rfl rfl (Nat.le_of_ble_eq_true rfl) ?_
  refine rn_aload_n dX11_forgetDerived_5 rfl ?_
  refine rn_iconst (v := nI 0) dX11_forgetDerived_6 (by decide) ?_
  refine rn_put dX11_forgetDerived_7 lpX11_87 (up_same _ _ _) rfl rfl (Nat.le_of_ble_eq_true rfl) ?_
  refine rn_aload_n dX11_forgetDerived_10 rfl ?_
  refine rn_iconst (v := nI 0) dX11_forgetDerived_11 (by decide) ?_
  refine rn_put dX11_forgetDerived_12 lpX11_90 (up_same _ _ _) rfl rfl (Nat.le_of_ble_eq_true rfl) ?_
  refine rn_vret dX11_forgetDerived_15 rfl ?_
  exact ⟨rfl, up_same _ _ _, fun k hk => (up_ne (by omega)).trans ((up_ne (by omega)).trans (up_ne (by omega)))⟩
theorem ct_prepareChange (g : GG) (f : Mm) {b1 b2 b3 : Int32} {o s : Nat} {R : Nat → PS} {P : PS} (hX : f 0 = some (XE b1 b2 b3)) (hH : HB f o s R) (hP : PB f 1 P) : Ct g MX11_prepareChange [.ref 0] f 0 0 (fun r f' => r = none ∧ f' 0 = some (XE 0 0 0) ∧ (∀ k, k ≠ 0 → (k < 7 ∨ 45 ≤ k) → f' k = f k) ∧ HB f' (if s < 6 then o else (o + 1) % 6) (if s < 6 then s + 1 else s) (fun j => if j = (o + s) % 6 then P else R j)) := by
  refine Ct.of ok_MX11_prepareChange (Nat.le_of_ble_eq_true rfl) ?_
  change Wp g MX11_prepareChange 0 [some (.ref 0)] [] f 0 0 _
  refine rn_aload_n dX11_prepareChange_0 rfl ?_
  refine rn_get dX11_prepareChange_1 lfX11_19 hX rfl ?_
  refine rn_aload_n dX11_prepareChange_4 rfl ?_
  refine rn_get dX11_prepareChange_5 lfX11_12 hX rfl ?_
  refine rn_callV dX11_prepareChange_8 lmX11_287 ⟨Nat.le_of_ble_eq_true rfl, Nat.le_of_ble_eq_true rfl⟩ (ct_save g f hH hP) hH.1 rfl rfl (Nat.le_of_ble_eq_true rfl) ?_
  rintro _ f1 ⟨rfl, k1, a1⟩
  have x1 := (k1 0 (by omega)).trans hX
  refine rn_aload_n dX11_prepareChange_11 rfl ?_
  refine rn_callV dX11_prepareChange_12 lmX11_281 ⟨Nat.le_of_ble_eq_true rfl, Nat.le_of_ble_eq_true rfl⟩ (ct_forgetDerived g f1 x1) x1 rfl rfl (Nat.le_of_ble_eq_true rfl) ?_
  rintro _ f2 ⟨rfl, a2, k2⟩
  refine rn_vret dX11_prepareChange_15 rfl ?_
  exact ⟨rfl, a2, fun k h0 hk => (k2 k (by omega)).trans (k1 k (by omega)), a1.keep (fun k x y => k2 k (by omega))⟩
