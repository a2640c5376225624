theorem cc_addPieceNo (g : GG) (f : Mm) {P : PS} {H : List PS} {T : List Nat} {x y z : Int32} (hI : CI f P H T) (hx : okSh x = false ∨ ¬ (nI 0 ≤ y ∧ y ≤ nI 2) ∨ ¬ (nI 0 ≤ z ∧ z ≤ nI 3)) : Ct g MX11_addPiece [.ref 0, .int x, .int y, .int z] f 0 0 (fun r f' => f = f' ∧ r = some (.int (-1))) := by
  refine Ct.of ok_MX11_addPiece (Nat.le_of_ble_eq_true rfl) ?_
  change Wp g MX11_addPiece 0 [some (.ref 0), some (.int x), some (.int y), some (.int z)] [] f 0 0 _
  obtain ⟨b1, b2, b3, hX⟩ := hI.X
  have hP := hI.P
  cases h1 : okSh x with
  | false =>
    refine rn_iload_n dX11_addPiece_0 rfl ?_
    refine rn_callS dX11_addPiece_1 lmX11_125 ⟨Nat.le_of_ble_eq_true rfl, Nat.le_of_ble_eq_true rfl⟩ (cb_isShape g f x) rfl rfl (Nat.le_of_ble_eq_true rfl) ?_
    rintro _ _ ⟨rfl, rfl⟩
    rw [h1]
    refine rn_if_eq (tgt := 25) dX11_addPiece_4 (by decide) (fun c4 => ?_) (fun c4 => ?_)
    · refine rn_iconst (v := (-1)) dX11_addPiece_25 (by decide) ?_
      refine rn_iret dX11_addPiece_26 rfl ?_
      exact ⟨rfl, rfl⟩
    · exact absurd (show bI false = 0 from rfl) c4
  | true =>
    by_cases h2 : nI 0 ≤ y ∧ y ≤ nI 2
    · have h3 : ¬ (nI 0 ≤ z ∧ z ≤ nI 3) := (hx.resolve_left (fun h => by rw [h1] at h; cases h)).resolve_left (fun h => h h2)
      refine rn_iload_n dX11_addPiece_0 rfl ?_
      refine rn_callS dX11_addPiece_1 lmX11_125 ⟨Nat.le_of_ble_eq_true rfl, Nat.le_of_ble_eq_true rfl⟩ (cb_isShape g f x) rfl rfl (Nat.le_of_ble_eq_true rfl) ?_
      rintro _ _ ⟨rfl, rfl⟩
      rw [h1]
      refine rn_if_eq (tgt := 25) dX11_addPiece_4 (by decide) (fun c4 => ?_) (fun c4 => ?_)
      · refine rn_iconst (v := (-1)) dX11_addPiece_25 (by decide) ?_
        refine rn_iret dX11_addPiece_26 rfl ?_
        exact absurd c4 (by decide)
      · refine rn_iload_n dX11_addPiece_7 rfl ?_
        refine rn_iconst (v := nI 0) dX11_addPiece_8 (by decide) ?_
        refine rn_iconst (v := nI 2) dX11_addPiece_9 (by decide) ?_
        refine rn_callS dX11_addPiece_10 lmX11_93 ⟨Nat.le_of_ble_eq_true rfl, Nat.le_of_ble_eq_true rfl⟩ (ct_isWithin g f y (nI 0) (nI 2)) rfl rfl (Nat.le_of_ble_eq_true rfl) ?_
        rintro _ _ ⟨rfl, rfl⟩
        rw [decide_eq_true h2]
        refine rn_if_eq (tgt := 25) dX11_addPiece_13 (by decide) (fun c13 => ?_) (fun c13 => ?_)
        · refine rn_iconst (v := (-1)) dX11_addPiece_25 (by decide) ?_
          refine rn_iret dX11_addPiece_26 rfl ?_
          exact absurd c13 (by decide)
        · refine rn_iload_n dX11_addPiece_16 rfl ?_
          refine rn_iconst (v := nI 0) dX11_addPiece_17 (by decide) ?_
          refine rn_iconst (v := nI 3) dX11_addPiece_18 (by decide) ?_
          refine rn_callS dX11_addPiece_19 lmX11_93 ⟨Nat.le_of_ble_eq_true rfl, Nat.le_of_ble_eq_true rfl⟩ (ct_isWithin g f z (nI 0) (nI 3)) rfl rfl (Nat.le_of_ble_eq_true rfl) ?_
          rintro _ _ ⟨rfl, rfl⟩
          rw [decide_eq_false h3]
          refine rn_if_ne (tgt := 27) dX11_addPiece_22 (by decide) (fun c22 => ?_) (fun c22 => ?_)
          · exact absurd (show bI false = 0 from rfl) c22
          · refine rn_iconst (v := (-1)) dX11_addPiece_25 (by decide) ?_
            refine rn_iret dX11_addPiece_26 rfl ?_
            exact ⟨rfl, rfl⟩
    · refine rn_iload_n dX11_addPiece_0 rfl ?_
      refine rn_callS dX11_addPiece_1 lmX11_125 ⟨Nat.le_of_ble_eq_true rfl, Nat.le_of_ble_eq_true rfl⟩ (cb_isShape g f x) rfl rfl (Nat.le_of_ble_eq_true rfl) ?_
      rintro _ _ ⟨rfl, rfl⟩
      rw [h1]
      refine rn_if_eq (tgt := 25) dX11_addPiece_4 (by decide) (fun c4 => ?_) (fun c4 => ?_)
      · refine rn_iconst (v := (-1)) dX11_addPiece_25 (by decide) ?_
        refine rn_iret dX11_addPiece_26 rfl ?_
        exact absurd c4 (by decide)
      · refine rn_iload_n dX11_addPiece_7 rfl ?_
        refine rn_iconst (v := nI 0) dX11_addPiece_8 (by decide) ?_
        refine rn_iconst (v := nI 2) dX11_addPiece_9 (by decide) ?_
        refine rn_callS dX11_addPiece_10 lmX11_93 ⟨Nat.le_of_ble_eq_true rfl, Nat.le_of_ble_eq_true rfl⟩ (ct_isWithin g f y (nI 0) (nI 2)) rfl rfl (Nat.le_of_ble_eq_true rfl) ?_
        rintro _ _ ⟨rfl, rfl⟩
        rw [decide_eq_false h2]
        refine rn_if_eq (tgt := 25) dX11_addPiece_13 (by decide) (fun c13 => ?_) (fun c13 => ?_)
        · refine rn_iconst (v := (-1)) dX11_addPiece_25 (by decide) ?_
          refine rn_iret dX11_addPiece_26 rfl ?_
          exact ⟨rfl, rfl⟩
        · exact absurd (show bI false = 0 from rfl) c13
theorem cc_addPieceFull (g : GG) (f : Mm) {P : PS} {H : List PS} {T : List Nat} {x y z : Int32} (hI : CI f P H T) (hx : okSh x = true) (hy : nI 0 ≤ y ∧ y ≤ nI 2) (hz : nI 0 ≤ z ∧ z ≤ nI 3) (hn : pN P = 8) : Ct g MX11_addPiece [.ref 0, .int x, .int y, .int z] f 0 0 (fun r f' => f = f' ∧ r = some (.int (-3))) := by
  refine Ct.of ok_MX11_addPiece (Nat.le_of_ble_eq_true rfl) ?_
  change Wp g MX11_addPiece 0 [some (.ref 0), some (.int x), some (.int y), some (.int z)] [] f 0 0 _
  obtain ⟨b1, b2, b3, hX⟩ := hI.X
  have hP := hI.P
  refine rn_iload_n dX11_addPiece_0 rfl ?_
  refine rn_callS dX11_addPiece_1 lmX11_125 ⟨Nat.le_of_ble_eq_true rfl, Nat.le_of_ble_eq_true rfl⟩ (cb_isShape g f x) rfl rfl (Nat.le_of_ble_eq_true rfl) ?_
  rintro _ _ ⟨rfl, rfl⟩
  rw [hx]
  refine rn_if_eq (tgt := 25) dX11_addPiece_4 (by decide) (fun c4 => ?_) (fun c4 => ?_)
  · exact absurd c4 (by decide)
  · refine rn_iload_n dX11_addPiece_7 rfl ?_
    refine rn_iconst (v := nI 0) dX11_addPiece_8 (by decide) ?_
    refine rn_iconst (v := nI 2) dX11_addPiece_9 (by decide) ?_
    refine rn_callS dX11_addPiece_10 lmX11_93 ⟨Nat.le_of_ble_eq_true rfl, Nat.le_of_ble_eq_true rfl⟩ (ct_isWithin g f y (nI 0) (nI 2)) rfl rfl (Nat.le_of_ble_eq_true rfl) ?_
    rintro _ _ ⟨rfl, rfl⟩
    rw [decide_eq_true hy]
    refine rn_if_eq (tgt := 25) dX11_addPiece_13 (by decide) (fun c13 => ?_) (fun c13 => ?_)
    · exact absurd c13 (by decide)
    · refine rn_iload_n dX11_addPiece_16 rfl ?_
      refine rn_iconst (v := nI 0) dX11_addPiece_17 (by decide) ?_
      refine rn_iconst (v := nI 3) dX11_addPiece_18 (by decide) ?_
      refine rn_callS dX11_addPiece_19 lmX11_93 ⟨Nat.le_of_ble_eq_true rfl, Nat.le_of_ble_eq_true rfl⟩ (ct_isWithin g f z (nI 0) (nI 3)) rfl rfl (Nat.le_of_ble_eq_true rfl) ?_
      rintro _ _ ⟨rfl, rfl⟩
      rw [decide_eq_true hz]
      refine rn_if_ne (tgt := 27) dX11_addPiece_22 (by decide) (fun c22 => ?_) (fun c22 => ?_)
      · refine rn_aload_n dX11_addPiece_27 rfl ?_
        refine rn_get dX11_addPiece_28 lfX11_12 hX rfl ?_
        refine rn_get dX11_addPiece_31 lfX11_130 hP.1 rfl ?_
        rw [hn]
        refine rn_bipush (v := nI 8) dX11_addPiece_34 (by decide) ?_
        refine rn_icmp_lt (tgt := 42) dX11_addPiece_36 (by decide) (fun c36 => ?_) (fun c36 => ?_)
        · exact absurd c36 (by decide)
        · refine rn_bipush (v := (-3)) dX11_addPiece_39 (by decide) ?_
          refine rn_iret dX11_addPiece_41 rfl ?_
          exact ⟨rfl, rfl⟩
      · exact absurd c22 (by decide)
theorem cc_addPiece (g : GG) (f : Mm) {P : PS} {H : List PS} {T : List Nat} {s0 : Nat} {y z : Int32} (hI : CI f P H T) (hs0 : s0 < 65536) (hx : okC s0 = true) (hy : nI 0 ≤ y ∧ y ≤ nI 2) (hz : nI 0 ≤ z ∧ z ≤ nI 3) (hn : pN P < 8) : Ct g MX11_addPiece [.ref 0, .int (nI s0), .int y, .int z] f 0 0 (fun r f' => (∀ j, 74 < j → f' j = f j) ∧ CI f' (pAdd P (nI (nrC s0)) y z (nI 1)) (psh H P) T ∧ r = some (.int (nI (pN P)))) := by
  refine Ct.of ok_MX11_addPiece (Nat.le_of_ble_eq_true rfl) ?_
  change Wp g MX11_addPiece 0 [some (.ref 0), some (.int (nI s0)), some (.int y), some (.int z)] [] f 0 0 _
  obtain ⟨b1, b2, b3, hX⟩ := hI.X
  have hP := hI.P
  refine rn_iload_n dX11_addPiece_0 rfl ?_
  refine rn_callS dX11_addPiece_1 lmX11_125 ⟨Nat.le_of_ble_eq_true rfl, Nat.le_of_ble_eq_true rfl⟩ (cb_isShape g f (nI s0)) rfl rfl (Nat.le_of_ble_eq_true rfl) ?_
  rintro _ _ ⟨rfl, rfl⟩
  rw [okSh_nI hs0, hx]
  refine rn_if_eq (tgt := 25) dX11_addPiece_4 (by decide) (fun c4 => ?_) (fun c4 => ?_)
  · exact absurd c4 (by decide)
  · refine rn_iload_n dX11_addPiece_7 rfl ?_
    refine rn_iconst (v := nI 0) dX11_addPiece_8 (by decide) ?_
    refine rn_iconst (v := nI 2) dX11_addPiece_9 (by decide) ?_
    refine rn_callS dX11_addPiece_10 lmX11_93 ⟨Nat.le_of_ble_eq_true rfl, Nat.le_of_ble_eq_true rfl⟩ (ct_isWithin g f y (nI 0) (nI 2)) rfl rfl (Nat.le_of_ble_eq_true rfl) ?_
    rintro _ _ ⟨rfl, rfl⟩
    rw [decide_eq_true hy]
    refine rn_if_eq (tgt := 25) dX11_addPiece_13 (by decide) (fun c13 => ?_) (fun c13 => ?_)
    · exact absurd c13 (by decide)
    · refine rn_iload_n dX11_addPiece_16 rfl ?_
      refine rn_iconst (v := nI 0) dX11_addPiece_17 (by decide) ?_
      refine rn_iconst (v := nI 3) dX11_addPiece_18 (by decide) ?_
      refine rn_callS dX11_addPiece_19 lmX11_93 ⟨Nat.le_of_ble_eq_true rfl, Nat.le_of_ble_eq_true rfl⟩ (ct_isWithin g f z (nI 0) (nI 3)) rfl rfl (Nat.le_of_ble_eq_true rfl) ?_
      rintro _ _ ⟨rfl, rfl⟩
      rw [decide_eq_true hz]
      refine rn_if_ne (tgt := 27) dX11_addPiece_22 (by decide) (fun c22 => ?_) (fun c22 => ?_)
      · refine rn_aload_n dX11_addPiece_27 rfl ?_
        refine rn_get dX11_addPiece_28 lfX11_12 hX rfl ?_
        refine rn_get dX11_addPiece_31 lfX11_130 hP.1 rfl ?_
        refine rn_bipush (v := nI 8) dX11_addPiece_34 (by decide) ?_
        refine rn_icmp_lt (tgt := 42) dX11_addPiece_36 (by decide) (fun c36 => ?_) (fun c36 => ?_)
        · refine rn_aload_n dX11_addPiece_42 rfl ?_
          refine rn_callV dX11_addPiece_43 lmX11_97 ⟨Nat.le_of_ble_eq_true rfl, Nat.le_of_ble_eq_true rfl⟩ (cc_prep g f hI) hX rfl rfl (Nat.le_of_ble_eq_true rfl) ?_
          rintro _ f1 ⟨rfl, o1, k1, hA1, hP1⟩
          refine rn_aload_n dX11_addPiece_46 rfl ?_
          refine rn_get dX11_addPiece_47 lfX11_12 o1 rfl ?_
          refine rn_iload_n dX11_addPiece_50 rfl ?_
          refine rn_callS dX11_addPiece_51 lmX11_134 ⟨Nat.le_of_ble_eq_true rfl, Nat.le_of_ble_eq_true rfl⟩ (ct_normalize g f1 hs0) rfl rfl (Nat.le_of_ble_eq_true rfl) ?_
          rintro _ _ ⟨rfl, rfl⟩
          refine rn_iload_n dX11_addPiece_54 rfl ?_
          refine rn_iload_n dX11_addPiece_55 rfl ?_
          refine rn_iconst (v := nI 1) dX11_addPiece_56 (by decide) ?_
          refine rn_callV dX11_addPiece_57 lmX11_137 ⟨Nat.le_of_ble_eq_true rfl, Nat.le_of_ble_eq_true rfl⟩ (ct_append g f1 (nI (nrC s0)) y z (nI 1) hP1 hn) hP1.1 rfl rfl (Nat.le_of_ble_eq_true rfl) ?_
          rintro _ f2 ⟨rfl, hP2, k2⟩
          have hF := hI.fin o1 k1 hA1 k2 hP2
          refine rn_aload_n dX11_addPiece_60 rfl ?_
          refine rn_get dX11_addPiece_61 lfX11_12 ((k2 0 (by omega)).trans o1) rfl ?_
          refine rn_get dX11_addPiece_64 lfX11_130 hP2.1 rfl ?_
          refine rn_iconst (v := nI 1) dX11_addPiece_67 (by decide) ?_
          refine rn_isub dX11_addPiece_68 ?_
          rw [show nI (pN P + 1) - nI 1 = nI (pN P) from by rw [← nI_add]; exact Int32.add_sub_cancel _ _]
          refine rn_iret dX11_addPiece_69 rfl ?_
          exact ⟨hF.1, hF.2, rfl⟩
        · exact absurd ((nI_ltI (by omega) (by decide)).mpr hn) c36
      · exact absurd c22 (by decide)
theorem CIf.rd {f f' : Mm} {P : PS} {H : List PS} {T T' : List Nat} {b1 b2 b3 : Bool} (h : CIf f P H T b1 b2 b3) (e : ∀ j, (j < 45 ∨ 52 < j) → j < 75 → f' j = f j) (hR : CR f' T') : CIf f' P H T' b1 b2 b3 := by
  obtain ⟨h1, h2, h3, -, h5, h6, h7, h8⟩ := h
  exact ⟨(e 0 (by omega) (by omega)).trans h1, h2.keep (fun k a b => e k (by omega) (by omega)), h3.keep (fun k a b => e k (by omega) (by omega)), hR, h5.keep (fun k a b => e k (by omega) b), fun x => (h6 x).keep (fun k a b => e k (by omega) (by omega)), fun x => ⟨(h7 x).1, (h7 x).2.keep (fun k a b => e k (by omega) (by omega))⟩, fun x => ⟨(h8 x).1, (h8 x).2.keep (e 71 (by omega) (by omega))⟩⟩
theorem CI.rd {f f' : Mm} {P : PS} {H : List PS} {T T' : List Nat} (h : CI f P H T) (e : ∀ j, (j < 45 ∨ 52 < j) → j < 75 → f' j = f j) (hR : CR f' T') : CI f' P H T' := by
  obtain ⟨b1, b2, b3, h⟩ := h
  exact ⟨b1, b2, b3, h.rd e hR⟩
theorem CI.R {f : Mm} {P : PS} {H : List PS} {T : List Nat} (h : CI f P H T) : CR f T := by
  obtain ⟨b1, b2, b3, -, -, -, h, -⟩ := h
  exact h
theorem ct_rappend (g : GG) (f : Mm) {T : List Nat} {p c r s x : Nat} (hO : f 45 = some (RDE T.length p c r s)) (hT : RDt f T) (hl : T.length < 160) (hx : x < 256) : Ct g MX5_append [.ref 45, .int (nI x)] f 0 0 (fun r' f' => r' = none ∧ (∀ j, j ≠ 45 → j ≠ 46 → f' j = f j) ∧ f' 45 = some (RDE (T.length + 1) p c r s) ∧ RDt f' (T ++ [x])) := by
  refine Ct.of ok_MX5_append (Nat.le_of_ble_eq_true rfl) ?_
  change Wp g MX5_append 0 [some (.ref 45), some (.int (nI x))] [] f 0 0 _
  obtain ⟨-, C, hC, hCe⟩ := id hT
  obtain ⟨cb, hcb, hcbe⟩ := id hC
  have at37 : ∀ f', (∀ j, j ≠ 45 → j ≠ 46 → f' j = f j) → f' 45 = some (RDE (T.length + 1) p c r s) → RDt f' (T ++ [x]) → Wp g MX5_append 37 [some (.ref 45), some (.int (nI x))] [] f' 0 0 (fun r' f' => r' = none ∧ (∀ j, j ≠ 45 → j ≠ 46 → f' j = f j) ∧ f' 45 = some (RDE (T.length + 1) p c r s) ∧ RDt f' (T ++ [x])) := fun f' a b c => by
    refine rn_vret dX5_append_37 rfl ?_
    exact ⟨rfl, a, b, c⟩
  refine rn_aload_n dX5_append_0 rfl ?_
  refine rn_get dX5_append_1 lfX5_15 hO rfl ?_
  refine rn_if_lt (tgt := 37) dX5_append_4 (by decide) (fun c4 => ?_) (fun c4 => ?_)
  · exact absurd c4 (nI_pos (by omega))
  · refine rn_aload_n dX5_append_7 rfl ?_
    refine rn_get dX5_append_8 lfX5_15 hO rfl ?_
    refine rn_sipush (v := nI 160) dX5_append_11 (by decide) ?_
    refine rn_icmp_ge (tgt := 37) dX5_append_14 (by decide) (fun c14 => ?_) (fun c14 => ?_)
    · exact absurd (ge_ex c14 (by omega) (by decide)) (by omega)
    · refine rn_aload_n dX5_append_17 rfl ?_
      refine rn_get dX5_append_18 lfX5_9 hO rfl ?_
      refine rn_aload_n dX5_append_21 rfl ?_
      refine rn_get dX5_append_22 lfX5_15 hO rfl ?_
      refine rn_iload_n dX5_append_25 rfl ?_
      refine rn_iast dX5_append_26 hcb (vp_in_nI hl (by decide)) ?_
      refine Wp.gen (e := .inl (0, 160, .inl (upd cb (nI T.length).toNatClampNeg (nI x)))) (fun f1 k1 o1 => ?_)
      have o45 := (k1 45 (by omega)).trans hO
      refine rn_aload_n dX5_append_27 rfl ?_
      refine rn_dup dX5_append_28 rfl ?_
      refine rn_get dX5_append_29 lfX5_15 o45 rfl ?_
      refine rn_iconst (v := nI 1) dX5_append_32 (by decide) ?_
      refine rn_iadd dX5_append_33 ?_
      rw [nI_add]
      refine rn_put dX5_append_34 lpX5_15 o45 rfl rfl (Nat.le_of_ble_eq_true rfl) ?_
      refine Wp.gen (e := RDE (T.length + 1) p c r s) (fun f2 k2 o2 => ?_)
      refine at37 f2 (fun j a b => (k2 j a).trans (k1 j b)) o2 ⟨by rw [List.length_append, List.length_singleton]; omega, upd C T.length (nI x), AR.keep (f := f1) ⟨_, o1, fun i hi => ?_⟩ (k2 46 (by omega)), fun i c' hi => ?_⟩
      · rw [nI_clamp (by omega)]
        by_cases e : i = T.length
        · rw [e, upd_eq, upd_eq]
        · rw [upd_ne e, upd_ne e]; exact hcbe i hi
      · by_cases e : i < T.length
        · rw [List.getElem?_append_left e] at hi
          rw [upd_ne (by omega)]
          exact hCe i c' hi
        · rw [List.getElem?_append_right (by omega)] at hi
          have h0 : i - T.length = 0 := by
            cases hd : i - T.length with
            | zero => rfl
            | succ d => rw [hd] at hi; cases hi
          rw [h0] at hi
          have hc2 : x = c' := Option.some.inj hi
          rw [show i = T.length by omega, upd_eq, ← hc2]
          exact ⟨hx, rfl⟩
theorem cc_appendNo (g : GG) (f : Mm) {P : PS} {H : List PS} {T : List Nat} {x : Int32} (hI : CI f P H T) (hx : ¬ (nI 0 ≤ x ∧ x ≤ nI 255)) : Ct g MX11_appendCharacter [.ref 0, .int x] f 0 0 (fun r f' => f = f' ∧ r = some (.int (-1))) := by
  refine Ct.of ok_MX11_appendCharacter (Nat.le_of_ble_eq_true rfl) ?_
  change Wp g MX11_appendCharacter 0 [some (.ref 0), some (.int x)] [] f 0 0 _
  refine rn_iload_n dX11_appendCharacter_0 rfl ?_
  refine rn_iconst (v := nI 0) dX11_appendCharacter_1 (by decide) ?_
  refine rn_sipush (v := nI 255) dX11_appendCharacter_2 (by decide) ?_
  refine rn_callS dX11_appendCharacter_5 lmX11_93 ⟨Nat.le_of_ble_eq_true rfl, Nat.le_of_ble_eq_true rfl⟩ (ct_isWithin g f x (nI 0) (nI 255)) rfl rfl (Nat.le_of_ble_eq_true rfl) ?_
  rintro _ _ ⟨rfl, rfl⟩
  rw [decide_eq_false hx]
  refine rn_if_ne (tgt := 13) dX11_appendCharacter_8 (by decide) (fun c8 => ?_) (fun c8 => ?_)
  · exact absurd (show bI false = 0 from rfl) c8
  · refine rn_iconst (v := (-1)) dX11_appendCharacter_11 (by decide) ?_
    refine rn_iret dX11_appendCharacter_12 rfl ?_
    exact ⟨rfl, rfl⟩
theorem cc_appendFull (g : GG) (f : Mm) {P : PS} {H : List PS} {T : List Nat} {x : Int32} (hI : CI f P H T) (hx : nI 0 ≤ x ∧ x ≤ nI 255) (hT0 : T.length = 160) : Ct g MX11_appendCharacter [.ref 0, .int x] f 0 0 (fun r f' => f = f' ∧ r = some (.int (-3))) := by
  refine Ct.of ok_MX11_appendCharacter (Nat.le_of_ble_eq_true rfl) ?_
  change Wp g MX11_appendCharacter 0 [some (.ref 0), some (.int x)] [] f 0 0 _
  obtain ⟨b1, b2, b3, hX⟩ := hI.X
  have hP := hI.P
  obtain ⟨⟨p, c, r, s, hO⟩, -⟩ := hI.R
  rw [hT0] at hO
  refine rn_iload_n dX11_appendCharacter_0 rfl ?_
  refine rn_iconst (v := nI 0) dX11_appendCharacter_1 (by decide) ?_
  refine rn_sipush (v := nI 255) dX11_appendCharacter_2 (by decide) ?_
  refine rn_callS dX11_appendCharacter_5 lmX11_93 ⟨Nat.le_of_ble_eq_true rfl, Nat.le_of_ble_eq_true rfl⟩ (ct_isWithin g f x (nI 0) (nI 255)) rfl rfl (Nat.le_of_ble_eq_true rfl) ?_
  rintro _ _ ⟨rfl, rfl⟩
  rw [decide_eq_true hx]
  refine rn_if_ne (tgt := 13) dX11_appendCharacter_8 (by decide) (fun c8 => ?_) (fun c8 => ?_)
  · refine rn_aload_n dX11_appendCharacter_13 rfl ?_
    refine rn_get dX11_appendCharacter_14 lfX11_26 hX rfl ?_
    refine rn_get dX11_appendCharacter_17 lfX11_223 hO rfl ?_
    refine rn_sipush (v := nI 160) dX11_appendCharacter_20 (by decide) ?_
    refine rn_icmp_lt (tgt := 29) dX11_appendCharacter_23 (by decide) (fun c23 => ?_) (fun c23 => ?_)
    · exact absurd c23 (by decide)
    · refine rn_bipush (v := (-3)) dX11_appendCharacter_26 (by decide) ?_
      refine rn_iret dX11_appendCharacter_28 rfl ?_
      exact ⟨rfl, rfl⟩
  · exact absurd c8 (by decide)
theorem cc_append (g : GG) (f : Mm) {P : PS} {H : List PS} {T : List Nat} {x : Nat} (hI : CI f P H T) (hx : x < 256) (hT0 : T.length < 160) : Ct g MX11_appendCharacter [.ref 0, .int (nI x)] f 0 0 (fun r f' => (∀ j, 74 < j → f' j = f j) ∧ CI f' P H (T ++ [x]) ∧ r = some (.int (nI (T.length + 1)))) := by
  refine Ct.of ok_MX11_appendCharacter (Nat.le_of_ble_eq_true rfl) ?_
  change Wp g MX11_appendCharacter 0 [some (.ref 0), some (.int (nI x))] [] f 0 0 _
  obtain ⟨b1, b2, b3, hX⟩ := hI.X
  have hP := hI.P
  obtain ⟨⟨p, c, r, s, hO⟩, hT, D, hD⟩ := hI.R
  refine rn_iload_n dX11_appendCharacter_0 rfl ?_
  refine rn_iconst (v := nI 0) dX11_appendCharacter_1 (by decide) ?_
  refine rn_sipush (v := nI 255) dX11_appendCharacter_2 (by decide) ?_
  refine rn_callS dX11_appendCharacter_5 lmX11_93 ⟨Nat.le_of_ble_eq_true rfl, Nat.le_of_ble_eq_true rfl⟩ (ct_isWithin g f (nI x) (nI 0) (nI 255)) rfl rfl (Nat.le_of_ble_eq_true rfl) ?_
  rintro _ _ ⟨rfl, rfl⟩
  rw [decide_eq_true ⟨nI_le (Nat.zero_le _) (by omega), nI_le (by omega) (by decide)⟩]
  refine rn_if_ne (tgt := 13) dX11_appendCharacter_8 (by decide) (fun c8 => ?_) (fun c8 => ?_)
  · refine rn_aload_n dX11_appendCharacter_13 rfl ?_
    refine rn_get dX11_appendCharacter_14 lfX11_26 hX rfl ?_
    refine rn_get dX11_appendCharacter_17 lfX11_223 hO rfl ?_
    refine rn_sipush (v := nI 160) dX11_appendCharacter_20 (by decide) ?_
    refine rn_icmp_lt (tgt := 29) dX11_appendCharacter_23 (by decide) (fun c23 => ?_) (fun c23 => ?_)
    · refine rn_aload_n dX11_appendCharacter_29 rfl ?_
      refine rn_get dX11_appendCharacter_30 lfX11_26 hX rfl ?_
      refine rn_iload_n dX11_appendCharacter_33 rfl ?_
      refine rn_callV dX11_appendCharacter_34 lmX11_226 ⟨Nat.le_of_ble_eq_true rfl, Nat.le_of_ble_eq_true rfl⟩ (ct_rappend g f hO hT hT0 hx) hO rfl rfl (Nat.le_of_ble_eq_true rfl) ?_
      rintro _ f1 ⟨rfl, k1, o1, hT1⟩
      refine rn_aload_n dX11_appendCharacter_37 rfl ?_
      refine rn_get dX11_appendCharacter_38 lfX11_26 ((k1 0 (by omega) (by omega)).trans hX) rfl ?_
      refine rn_get dX11_appendCharacter_41 lfX11_223 o1 rfl ?_
      refine rn_iret dX11_appendCharacter_44 rfl ?_
      exact ⟨fun j hj => k1 j (by omega) (by omega), hI.rd (fun j a b => k1 j (by omega) (by omega)) ⟨⟨p, c, r, s, by rw [List.length_append, List.length_singleton]; exact o1⟩, hT1, D, hD.keep (fun k a b => k1 k (by omega) (by omega))⟩, rfl⟩
    · exact absurd ((nI_ltI (by omega) (by decide)).mpr hT0) c23
  · exact absurd c8 (by decide)
theorem cc_clearText (g : GG) (f : Mm) {P : PS} {H : List PS} {T : List Nat} (hI : CI f P H T) : Ct g MX11_clearText [.ref 0] f 0 0 (fun r f' => (∀ j, 74 < j → f' j = f j) ∧ CI f' P H [] ∧ r = some (.int (nI T.length))) := by
  refine Ct.of ok_MX11_clearText (Nat.le_of_ble_eq_true rfl) ?_
  change Wp g MX11_clearText 0 [some (.ref 0), none] [] f 0 0 _
  obtain ⟨b1, b2, b3, hX⟩ := hI.X
  have hP := hI.P
  obtain ⟨⟨p, c, r, s, hO⟩, ⟨-, C, hC, -⟩, D, hD⟩ := hI.R
  refine rn_aload_n dX11_clearText_0 rfl ?_
  refine rn_get dX11_clearText_1 lfX11_26 hX rfl ?_
  refine rn_get dX11_clearText_4 lfX11_223 hO rfl ?_
  refine rn_istore_n dX11_clearText_7 (Nat.le_of_ble_eq_true rfl) rfl ?_
  refine rn_aload_n dX11_clearText_8 rfl ?_
  refine rn_get dX11_clearText_9 lfX11_26 hX rfl ?_
  refine rn_iconst (v := nI 0) dX11_clearText_12 (by decide) ?_
  refine rn_put dX11_clearText_13 lpX11_223 hO rfl rfl (Nat.le_of_ble_eq_true rfl) ?_
  refine Wp.gen (e := RDE 0 p c r s) (fun f1 k1 o1 => ?_)
  refine rn_iload_n dX11_clearText_16 rfl ?_
  refine rn_iret dX11_clearText_17 rfl ?_
  exact ⟨fun j hj => k1 j (by omega), hI.rd (fun j a b => k1 j (by omega)) ⟨⟨p, c, r, s, o1⟩, ⟨Nat.zero_le _, C, hC.keep (k1 46 (by omega)), fun i c' h => by cases h⟩, D, hD.keep (fun k a b => k1 k (by omega))⟩, rfl⟩
theorem ct_handOver (g : GG) (f : Mm) {P D : PS} {n p c r s : Nat} (hO : f 45 = some (RDE n p c r s)) (hP : PB f 1 P) (hD : PB f 47 D) : Ct g MX5_handOver [.ref 45, .ref 1] f 0 0 (fun r' f' => r' = none ∧ (∀ k, (k < 1 ∨ (7 ≤ k ∧ k < 47) ∨ 53 ≤ k) → f' k = f k) ∧ PB f' 1 (pRule (pMode D (pMd P)) (pRu P)) ∧ PB f' 47 (pRule (pMode D (pMd P)) (pRu P))) := by
  refine Ct.of ok_MX5_handOver (Nat.le_of_ble_eq_true rfl) ?_
  change Wp g MX5_handOver 0 [some (.ref 45), some (.ref 1)] [] f 0 0 _
  refine rn_aload_n dX5_handOver_0 rfl ?_
  refine rn_get dX5_handOver_1 lfX5_22 hO rfl ?_
  refine rn_aload_n dX5_handOver_4 rfl ?_
  refine rn_get dX5_handOver_5 lfX5_38 hP.1 rfl ?_
  refine rn_put dX5_handOver_8 lpX5_38 hD.1 rfl rfl (Nat.le_of_ble_eq_true rfl) ?_
  refine Wp.gen (e := PO 47 (pMode D (pMd P))) (fun f1 k1 o1 => ?_)
  refine rn_aload_n dX5_handOver_11 rfl ?_
  refine rn_get dX5_handOver_12 lfX5_22 ((k1 45 (by omega)).trans hO) rfl ?_
  refine rn_aload_n dX5_handOver_15 rfl ?_
  refine rn_get dX5_handOver_16 lfX5_41 ((k1 1 (by omega)).trans hP.1) rfl ?_
  refine rn_put dX5_handOver_19 lpX5_41 o1 rfl rfl (Nat.le_of_ble_eq_true rfl) ?_
  refine Wp.gen (e := PO 47 (pRule (pMode D (pMd P)) (pRu P))) (fun f2 k2 o2 => ?_)
  have kk : ∀ j, j ≠ 47 → f2 j = f j := fun j h => (k2 j h).trans (k1 j h)
  have hP2 := hP.keep (fun k a b => kk k (by omega))
  have hD2 : PB f2 47 (pRule (pMode D (pMd P)) (pRu P)) := ⟨o2, hD.2.1.keep (kk 48 (by omega)), hD.2.2.1.keep (kk 49 (by omega)), hD.2.2.2.1.keep (kk 50 (by omega)), hD.2.2.2.2.1.keep (kk 51 (by omega)), hD.2.2.2.2.2.keep (kk 52 (by omega))⟩
  refine rn_aload_n dX5_handOver_22 rfl ?_
  refine rn_aload_n dX5_handOver_23 rfl ?_
  refine rn_get dX5_handOver_24 lfX5_22 ((kk 45 (by omega)).trans hO) rfl ?_
  refine rn_callV dX5_handOver_27 lmX5_44 ⟨Nat.le_of_ble_eq_true rfl, Nat.le_of_ble_eq_true rfl⟩ (ct_copyFrom g f2 hP2 hD2 (Or.inr (by omega))) hP2.1 rfl rfl (Nat.le_of_ble_eq_true rfl) ?_
  rintro _ f3 ⟨rfl, hP3, k3⟩
  refine rn_vret dX5_handOver_30 rfl ?_
  exact ⟨rfl, fun k a => (k3 k (by omega)).trans (kk k (by omega)), hP3, hD2.keep (fun k a b => k3 k (by omega))⟩
def LDc (P : PS) (H : List PS) (T : List Nat) (r : Option Value) (f' : Mm) : Prop := match outL T with
  | .inl e => CI f' P H T ∧ r = some (.int ((-10) - nI e))
  | .inr L => r = some (.int (nI L.length)) ∧ ∃ P', DRq T L P' ∧ pMd P' = pMd P ∧ pRu P' = pRu P ∧ CI f' P' (psh H P) []
theorem cc_load (g : GG) (f : Mm) {P : PS} {H : List PS} {T : List Nat} (hI : CI f P H T) : Ct g MX11_load [.ref 0] f 0 0 (fun r f' => (∀ j, 74 < j → f' j = f j) ∧ LDc P H T r f') := by
  refine Ct.of ok_MX11_load (Nat.le_of_ble_eq_true rfl) ?_
  change Wp g MX11_load 0 [some (.ref 0), none] [] f 0 0 _
  obtain ⟨b1, b2, b3, hX⟩ := hI.X
  have hP := hI.P
  obtain ⟨⟨p, c, r, s, hO⟩, hT, D, hD⟩ := hI.R
  unfold LDc
  cases hout : outL T with
  | inl e =>
    refine rn_aload_n dX11_load_0 rfl ?_
    refine rn_get dX11_load_1 lfX11_26 hX rfl ?_
    refine rn_callV dX11_load_4 lmX11_228 ⟨Nat.le_of_ble_eq_true rfl, Nat.le_of_ble_eq_true rfl⟩ (ct_read g f hO hT hD) hO rfl rfl (Nat.le_of_ble_eq_true rfl) ?_
    rintro r' f1 ⟨k1, ⟨p1, c1, r1, s1, o1⟩, D', hD', hr⟩
    unfold rdP at hr
    rw [hout] at hr
    obtain ⟨rfl, he⟩ := hr
    refine rn_istore_n dX11_load_7 (Nat.le_of_ble_eq_true rfl) rfl ?_
    refine rn_iload_n dX11_load_8 rfl ?_
    refine rn_iconst (v := (-1)) dX11_load_9 (by decide) ?_
    refine rn_icmp_eq (tgt := 18) dX11_load_10 (by decide) (fun c10 => ?_) (fun c10 => ?_)
    · exact absurd c10 (nI_m1 (by omega))
    · refine rn_bipush (v := (-10)) dX11_load_13 (by decide) ?_
      refine rn_iload_n dX11_load_15 rfl ?_
      refine rn_isub dX11_load_16 ?_
      refine rn_iret dX11_load_17 rfl ?_
      exact ⟨fun j hj => k1 j (by omega), hI.rd (fun j a b => k1 j (by omega)) ⟨⟨p1, c1, r1, s1, o1⟩, hT.keep (k1 46 (by omega)), D', hD'⟩, rfl⟩
  | inr L =>
    refine rn_aload_n dX11_load_0 rfl ?_
    refine rn_get dX11_load_1 lfX11_26 hX rfl ?_
    refine rn_callV dX11_load_4 lmX11_228 ⟨Nat.le_of_ble_eq_true rfl, Nat.le_of_ble_eq_true rfl⟩ (ct_read g f hO hT hD) hO rfl rfl (Nat.le_of_ble_eq_true rfl) ?_
    rintro r' f1 ⟨k1, ⟨p1, c1, r1, s1, o1⟩, D', hD', hr⟩
    unfold rdP at hr
    rw [hout] at hr
    obtain ⟨rfl, hDR⟩ := hr
    have hI1 : CI f1 P H T := hI.rd (fun j a b => k1 j (by omega)) ⟨⟨p1, c1, r1, s1, o1⟩, hT.keep (k1 46 (by omega)), D', hD'⟩
    refine rn_istore_n dX11_load_7 (Nat.le_of_ble_eq_true rfl) rfl ?_
    refine rn_iload_n dX11_load_8 rfl ?_
    refine rn_iconst (v := (-1)) dX11_load_9 (by decide) ?_
    refine rn_icmp_eq (tgt := 18) dX11_load_10 (by decide) (fun c10 => ?_) (fun c10 => ?_)
    · refine rn_aload_n dX11_load_18 rfl ?_
      refine rn_callV dX11_load_19 lmX11_97 ⟨Nat.le_of_ble_eq_true rfl, Nat.le_of_ble_eq_true rfl⟩ (cc_prep g f1 hI1) ((k1 0 (by omega)).trans hX) rfl rfl (Nat.le_of_ble_eq_true rfl) ?_
      rintro _ f2 ⟨rfl, o2, k2, hA2, hP2⟩
      have o45 := (k2 45 (by omega) (by omega)).trans o1
      refine rn_aload_n dX11_load_22 rfl ?_
      refine rn_get dX11_load_23 lfX11_26 o2 rfl ?_
      refine rn_aload_n dX11_load_26 rfl ?_
      refine rn_get dX11_load_27 lfX11_12 o2 rfl ?_
      refine rn_callV dX11_load_30 lmX11_231 ⟨Nat.le_of_ble_eq_true rfl, Nat.le_of_ble_eq_true rfl⟩ (ct_handOver g f2 o45 hP2 (hD'.keep (fun k a b => k2 k (by omega) (by omega)))) o45 rfl rfl (Nat.le_of_ble_eq_true rfl) ?_
      rintro _ f3 ⟨rfl, k3, hP3, hD3⟩
      have o3 := (k3 0 (by omega)).trans o2
      have o453 := (k3 45 (by omega)).trans o45
      refine rn_aload_n dX11_load_33 rfl ?_
      refine rn_get dX11_load_34 lfX11_26 o3 rfl ?_
      refine rn_iconst (v := nI 0) dX11_load_37 (by decide) ?_
      refine rn_put dX11_load_38 lpX11_223 o453 rfl rfl (Nat.le_of_ble_eq_true rfl) ?_
      refine Wp.gen (e := RDE 0 p1 c1 r1 s1) (fun f4 k4 o4 => ?_)
      have hP4 := hP3.keep (fun k a b => k4 k (by omega))
      refine rn_aload_n dX11_load_41 rfl ?_
      refine rn_get dX11_load_42 lfX11_12 ((k4 0 (by omega)).trans o3) rfl ?_
      refine rn_get dX11_load_45 lfX11_130 hP4.1 rfl ?_
      rw [show pN (pRule (pMode D' (pMd P)) (pRu P)) = L.length from hDR.2.2.1]
      refine rn_iret dX11_load_48 rfl ?_
      obtain ⟨-, C, hC, -⟩ := hT
      obtain ⟨x1, x2, x3, hI1'⟩ := hI1
      obtain ⟨-, -, -, -, hG, -⟩ := hI1'
      exact ⟨fun j hj => (k4 j (by omega)).trans ((k3 j (by omega)).trans ((k2 j (by omega) (by omega)).trans (k1 j (by omega)))), rfl, pRule (pMode D' (pMd P)) (pRu P), hDR, rfl, rfl, false, false, false, (k4 0 (by omega)).trans o3, hP4, hA2.keep (fun k a b => (k4 k (by omega)).trans (k3 k (by omega))), ⟨⟨p1, c1, r1, s1, o4⟩, ⟨Nat.zero_le _, C, hC.keep ((k4 46 (by omega)).trans ((k3 46 (by omega)).trans ((k2 46 (by omega) (by omega)).trans (k1 46 (by omega))))), fun i c' h => by cases h⟩, _, hD3.keep (fun k a b => k4 k (by omega))⟩, hG.keep (fun k a b => (k4 k (by omega)).trans ((k3 k (by omega)).trans (k2 k (by omega) (by omega)))), fun h => (by cases h), fun h => (by cases h), fun h => (by cases h)⟩
    · exact absurd rfl c10
