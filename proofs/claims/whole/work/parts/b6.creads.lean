theorem cc_colour (g : GG) (f : Mm) {P : PS} {H : List PS} {T : List Nat} (x : Int32) (hI : CI f P H T) (hV : VD P) : Ct g MX11_colour [.ref 0, .int x] f 0 0 (fun r f' => f = f' ∧ r = some (.int (aCol P x))) := by
  refine Ct.of ok_MX11_colour (Nat.le_of_ble_eq_true rfl) ?_
  change Wp g MX11_colour 0 [some (.ref 0), some (.int x)] [] f 0 0 _
  obtain ⟨b1, b2, b3, hX⟩ := hI.X
  have hP := hI.P
  have ha := hV.area
  cases hin : inR x (pW P * pH P) with
  | false =>
    refine rn_aload_n dX11_colour_0 rfl ?_
    refine rn_get dX11_colour_1 lfX11_12 hX rfl ?_
    refine rn_iload_n dX11_colour_4 rfl ?_
    refine rn_callV dX11_colour_5 lmX11_108 ⟨Nat.le_of_ble_eq_true rfl, Nat.le_of_ble_eq_true rfl⟩ (ct_hasCell g f x hP) hP.1 rfl rfl (Nat.le_of_ble_eq_true rfl) ?_
    rintro _ _ ⟨rfl, rfl⟩
    rw [hin]
    refine rn_if_ne (tgt := 13) dX11_colour_8 (by decide) (fun c8 => ?_) (fun c8 => ?_)
    · exact absurd (show bI false = 0 from rfl) c8
    · refine rn_iconst (v := (-1)) dX11_colour_11 (by decide) ?_
      refine rn_iret dX11_colour_12 rfl ?_
      exact ⟨rfl, by rw [aCol, if_neg (by rw [hin]; decide)]⟩
  | true =>
    obtain ⟨c, hc, rfl⟩ := (inR_iff (by omega)).mp hin
    by_cases hh : pC P c = -1
    · refine rn_aload_n dX11_colour_0 rfl ?_
      refine rn_get dX11_colour_1 lfX11_12 hX rfl ?_
      refine rn_iload_n dX11_colour_4 rfl ?_
      refine rn_callV dX11_colour_5 lmX11_108 ⟨Nat.le_of_ble_eq_true rfl, Nat.le_of_ble_eq_true rfl⟩ (ct_hasCell g f (nI c) hP) hP.1 rfl rfl (Nat.le_of_ble_eq_true rfl) ?_
      rintro _ _ ⟨rfl, rfl⟩
      rw [hin]
      refine rn_if_ne (tgt := 13) dX11_colour_8 (by decide) (fun c8 => ?_) (fun c8 => ?_)
      · refine rn_aload_n dX11_colour_13 rfl ?_
        refine rn_get dX11_colour_14 lfX11_12 hX rfl ?_
        refine rn_iload_n dX11_colour_17 rfl ?_
        refine rn_callV dX11_colour_18 lmX11_112 ⟨Nat.le_of_ble_eq_true rfl, Nat.le_of_ble_eq_true rfl⟩ (ct_isHole g f (nI c) hP) hP.1 rfl rfl (Nat.le_of_ble_eq_true rfl) ?_
        rintro _ _ ⟨rfl, rfl⟩
        rw [atf_nI (by omega) (by decide), decide_eq_true hh]
        refine rn_if_eq (tgt := 29) dX11_colour_21 (by decide) (fun c21 => ?_) (fun c21 => ?_)
        · exact absurd c21 (by decide)
        · refine rn_bipush (v := (-9)) dX11_colour_24 (by decide) ?_
          refine rn_goto (tgt := 37) dX11_colour_26 (by decide) ?_
          refine rn_iret dX11_colour_37 rfl ?_
          exact ⟨rfl, by rw [aCol, if_pos hin, nI_clamp (by omega), if_pos hh]⟩
      · exact absurd c8 (by decide)
    · refine rn_aload_n dX11_colour_0 rfl ?_
      refine rn_get dX11_colour_1 lfX11_12 hX rfl ?_
      refine rn_iload_n dX11_colour_4 rfl ?_
      refine rn_callV dX11_colour_5 lmX11_108 ⟨Nat.le_of_ble_eq_true rfl, Nat.le_of_ble_eq_true rfl⟩ (ct_hasCell g f (nI c) hP) hP.1 rfl rfl (Nat.le_of_ble_eq_true rfl) ?_
      rintro _ _ ⟨rfl, rfl⟩
      rw [hin]
      refine rn_if_ne (tgt := 13) dX11_colour_8 (by decide) (fun c8 => ?_) (fun c8 => ?_)
      · refine rn_aload_n dX11_colour_13 rfl ?_
        refine rn_get dX11_colour_14 lfX11_12 hX rfl ?_
        refine rn_iload_n dX11_colour_17 rfl ?_
        refine rn_callV dX11_colour_18 lmX11_112 ⟨Nat.le_of_ble_eq_true rfl, Nat.le_of_ble_eq_true rfl⟩ (ct_isHole g f (nI c) hP) hP.1 rfl rfl (Nat.le_of_ble_eq_true rfl) ?_
        rintro _ _ ⟨rfl, rfl⟩
        rw [atf_nI (by omega) (by decide), decide_eq_false hh]
        refine rn_if_eq (tgt := 29) dX11_colour_21 (by decide) (fun c21 => ?_) (fun c21 => ?_)
        · refine rn_aload_n dX11_colour_29 rfl ?_
          refine rn_get dX11_colour_30 lfX11_12 hX rfl ?_
          refine rn_iload_n dX11_colour_33 rfl ?_
          refine rn_callV dX11_colour_34 lmX11_121 ⟨Nat.le_of_ble_eq_true rfl, Nat.le_of_ble_eq_true rfl⟩ (ct_cellAt g f (nI c) hP) hP.1 rfl rfl (Nat.le_of_ble_eq_true rfl) ?_
          rintro _ _ ⟨rfl, rfl⟩
          rw [atf_nI (by omega) (by decide)]
          refine rn_iret dX11_colour_37 rfl ?_
          exact ⟨rfl, by rw [aCol, if_pos hin, nI_clamp (by omega), if_neg hh]⟩
        · exact absurd (show bI false = 0 from rfl) c21
      · exact absurd c8 (by decide)
theorem CIf.wt {f f' : Mm} {P : PS} {H : List PS} {T : List Nat} {b1 b2 b3 : Bool} (h : CIf f P H T b1 b2 b3) (e : ∀ j, j < 72 → f' j = f j) (h1 : ∃ m, f' 72 = some (WE m)) (h2 : ∃ C, AR f' 73 36 C) (h3 : ∃ Z, AR f' 74 8 Z) : CIf f' P H T b1 b2 b3 := by
  obtain ⟨g1, g2, g3, g4, g5, g6, g7, g8⟩ := h
  refine ⟨(e 0 (by omega)).trans g1, g2.keep (fun k a b => e k (by omega)), g3.keep (fun k a b => e k (by omega)), g4.keep (fun k a b => e k (by omega)), ?_, fun x => (g6 x).keep (fun k a b => e k (by omega)), fun x => ⟨(g7 x).1, (g7 x).2.keep (fun k a b => e k (by omega))⟩, fun x => ⟨(g8 x).1, (g8 x).2.keep (e 71 (by omega))⟩⟩
  obtain ⟨⟨a1, ⟨A, a2⟩, Z, a3⟩, ⟨⟨l, op, b1⟩, ⟨O, b2⟩, S, b3⟩, ⟨⟨n0, c1⟩, I, c2⟩, ⟨d1, ⟨x, y, z, t, d2⟩, Z2, d3⟩, ⟨e1, st, e2⟩, -⟩ := g5
  exact ⟨⟨(e 53 (by omega)).trans a1, ⟨A, a2.keep (e 54 (by omega))⟩, Z, a3.keep (e 55 (by omega))⟩, ⟨⟨l, op, b1.keep (e 56 (by omega)) (e 57 (by omega)) (e 58 (by omega))⟩, ⟨O, b2.keep (e 59 (by omega))⟩, S, b3.keep (e 60 (by omega))⟩, ⟨⟨n0, (e 61 (by omega)).trans c1⟩, I, c2.keep (e 62 (by omega))⟩, ⟨d1.keep (fun k a b => e k (by omega)), ⟨x, y, z, t, (e 68 (by omega)).trans d2⟩, Z2, d3.keep (e 69 (by omega))⟩, ⟨(e 70 (by omega)).trans e1, st, e2.keep (e 71 (by omega))⟩, h1, h2, h3⟩
theorem cc_exclude (g : GG) (f : Mm) {P : PS} {H : List PS} {T : List Nat} {b2 b3 : Bool} {a b m : Nat} (hI : CIf f P H T true b2 b3) (hV : VPc P) (h2 : 2 ≤ m) (h5 : m ≤ 5) (ha : a < m) (hb : b < m) : Ct g MX10_excludeCover [.ref 72, .ref 1, .ref 56, .int (nI a), .int (nI b), .int (nI m)] f 0 0 (fun r f' => r = some (.int (bI (pfP P a b m))) ∧ (∀ j, 74 < j → f' j = f j) ∧ CIf f' P H T true b2 b3) := by
  obtain ⟨-, hP, -, -, ⟨-, -, -, -, -, ⟨m0, w1⟩, ⟨C, w2⟩, Z, w3⟩, d1, -, -⟩ := id hI
  have hLS := pl1_LSd hV.1 hV.2.1
  refine Ct.mono (fun r f' h => ?_) (ct_excludeCover g f w1 w2 w3 hP hV.1 hV.2.1 (d1 rfl).2.1 hLS.1 hLS.2.1 (by omega) h5 (by omega) (by omega) hV.2.2.1)
  obtain ⟨h1, k1, q1, q2, q3⟩ := h
  exact ⟨h1, fun j hj => k1 j (by omega), hI.wt (fun j hj => k1 j (by omega)) ⟨_, q1⟩ q2 q3⟩
theorem cc_provesNo (g : GG) (f : Mm) {P : PS} {H : List PS} {T : List Nat} {x y z : Int32} (hI : CI f P H T) (hx : ¬ (nI 2 ≤ z ∧ z ≤ nI 5) ∨ ¬ (nI 0 ≤ x ∧ x ≤ z - nI 1) ∨ ¬ (nI 0 ≤ y ∧ y ≤ z - nI 1)) : Ct g MX11_proves [.ref 0, .int x, .int y, .int z] f 0 0 (fun r f' => f = f' ∧ r = some (.int (-1))) := by
  refine Ct.of ok_MX11_proves (Nat.le_of_ble_eq_true rfl) ?_
  change Wp g MX11_proves 0 [some (.ref 0), some (.int x), some (.int y), some (.int z)] [] f 0 0 _
  by_cases h1 : nI 2 ≤ z ∧ z ≤ nI 5
  · by_cases h2 : nI 0 ≤ x ∧ x ≤ z - nI 1
    · have h3 := (hx.resolve_left (fun h => h h1)).resolve_left (fun h => h h2)
      refine rn_iload_n dX11_proves_0 rfl ?_
      refine rn_iconst (v := nI 2) dX11_proves_1 (by decide) ?_
      refine rn_iconst (v := nI 5) dX11_proves_2 (by decide) ?_
      refine rn_callS dX11_proves_3 lmX11_93 ⟨Nat.le_of_ble_eq_true rfl, Nat.le_of_ble_eq_true rfl⟩ (ct_isWithin g f z (nI 2) (nI 5)) rfl rfl (Nat.le_of_ble_eq_true rfl) ?_
      rintro _ _ ⟨rfl, rfl⟩
      rw [decide_eq_true h1]
      refine rn_if_eq (tgt := 31) dX11_proves_6 (by decide) (fun c6 => ?_) (fun c6 => ?_)
      · refine rn_iconst (v := (-1)) dX11_proves_31 (by decide) ?_
        refine rn_iret dX11_proves_32 rfl ?_
        exact absurd c6 (by decide)
      · refine rn_iload_n dX11_proves_9 rfl ?_
        refine rn_iconst (v := nI 0) dX11_proves_10 (by decide) ?_
        refine rn_iload_n dX11_proves_11 rfl ?_
        refine rn_iconst (v := nI 1) dX11_proves_12 (by decide) ?_
        refine rn_isub dX11_proves_13 ?_
        refine rn_callS dX11_proves_14 lmX11_93 ⟨Nat.le_of_ble_eq_true rfl, Nat.le_of_ble_eq_true rfl⟩ (ct_isWithin g f x (nI 0) (z - nI 1)) rfl rfl (Nat.le_of_ble_eq_true rfl) ?_
        rintro _ _ ⟨rfl, rfl⟩
        rw [decide_eq_true h2]
        refine rn_if_eq (tgt := 31) dX11_proves_17 (by decide) (fun c17 => ?_) (fun c17 => ?_)
        · refine rn_iconst (v := (-1)) dX11_proves_31 (by decide) ?_
          refine rn_iret dX11_proves_32 rfl ?_
          exact absurd c17 (by decide)
        · refine rn_iload_n dX11_proves_20 rfl ?_
          refine rn_iconst (v := nI 0) dX11_proves_21 (by decide) ?_
          refine rn_iload_n dX11_proves_22 rfl ?_
          refine rn_iconst (v := nI 1) dX11_proves_23 (by decide) ?_
          refine rn_isub dX11_proves_24 ?_
          refine rn_callS dX11_proves_25 lmX11_93 ⟨Nat.le_of_ble_eq_true rfl, Nat.le_of_ble_eq_true rfl⟩ (ct_isWithin g f y (nI 0) (z - nI 1)) rfl rfl (Nat.le_of_ble_eq_true rfl) ?_
          rintro _ _ ⟨rfl, rfl⟩
          rw [decide_eq_false h3]
          refine rn_if_ne (tgt := 33) dX11_proves_28 (by decide) (fun c28 => ?_) (fun c28 => ?_)
          · exact absurd (show bI false = 0 from rfl) c28
          · refine rn_iconst (v := (-1)) dX11_proves_31 (by decide) ?_
            refine rn_iret dX11_proves_32 rfl ?_
            exact ⟨rfl, rfl⟩
    · refine rn_iload_n dX11_proves_0 rfl ?_
      refine rn_iconst (v := nI 2) dX11_proves_1 (by decide) ?_
      refine rn_iconst (v := nI 5) dX11_proves_2 (by decide) ?_
      refine rn_callS dX11_proves_3 lmX11_93 ⟨Nat.le_of_ble_eq_true rfl, Nat.le_of_ble_eq_true rfl⟩ (ct_isWithin g f z (nI 2) (nI 5)) rfl rfl (Nat.le_of_ble_eq_true rfl) ?_
      rintro _ _ ⟨rfl, rfl⟩
      rw [decide_eq_true h1]
      refine rn_if_eq (tgt := 31) dX11_proves_6 (by decide) (fun c6 => ?_) (fun c6 => ?_)
      · refine rn_iconst (v := (-1)) dX11_proves_31 (by decide) ?_
        refine rn_iret dX11_proves_32 rfl ?_
        exact absurd c6 (by decide)
      · refine rn_iload_n dX11_proves_9 rfl ?_
        refine rn_iconst (v := nI 0) dX11_proves_10 (by decide) ?_
        refine rn_iload_n dX11_proves_11 rfl ?_
        refine rn_iconst (v := nI 1) dX11_proves_12 (by decide) ?_
        refine rn_isub dX11_proves_13 ?_
        refine rn_callS dX11_proves_14 lmX11_93 ⟨Nat.le_of_ble_eq_true rfl, Nat.le_of_ble_eq_true rfl⟩ (ct_isWithin g f x (nI 0) (z - nI 1)) rfl rfl (Nat.le_of_ble_eq_true rfl) ?_
        rintro _ _ ⟨rfl, rfl⟩
        rw [decide_eq_false h2]
        refine rn_if_eq (tgt := 31) dX11_proves_17 (by decide) (fun c17 => ?_) (fun c17 => ?_)
        · refine rn_iconst (v := (-1)) dX11_proves_31 (by decide) ?_
          refine rn_iret dX11_proves_32 rfl ?_
          exact ⟨rfl, rfl⟩
        · exact absurd (show bI false = 0 from rfl) c17
  · refine rn_iload_n dX11_proves_0 rfl ?_
    refine rn_iconst (v := nI 2) dX11_proves_1 (by decide) ?_
    refine rn_iconst (v := nI 5) dX11_proves_2 (by decide) ?_
    refine rn_callS dX11_proves_3 lmX11_93 ⟨Nat.le_of_ble_eq_true rfl, Nat.le_of_ble_eq_true rfl⟩ (ct_isWithin g f z (nI 2) (nI 5)) rfl rfl (Nat.le_of_ble_eq_true rfl) ?_
    rintro _ _ ⟨rfl, rfl⟩
    rw [decide_eq_false h1]
    refine rn_if_eq (tgt := 31) dX11_proves_6 (by decide) (fun c6 => ?_) (fun c6 => ?_)
    · refine rn_iconst (v := (-1)) dX11_proves_31 (by decide) ?_
      refine rn_iret dX11_proves_32 rfl ?_
      exact ⟨rfl, rfl⟩
    · exact absurd (show bI false = 0 from rfl) c6
theorem cc_proves (g : GG) (f : Mm) {P : PS} {H : List PS} {T : List Nat} {a b m : Nat} (hI : CI f P H T) (hV : VPc P) (h2 : 2 ≤ m) (h5 : m ≤ 5) (ha : a < m) (hb : b < m) : Ct g MX11_proves [.ref 0, .int (nI a), .int (nI b), .int (nI m)] f 0 0 (fun r f' => (∀ j, 74 < j → f' j = f j) ∧ CI f' P H T ∧ r = some (.int (bI (pfP P a b m)))) := by
  refine Ct.of ok_MX11_proves (Nat.le_of_ble_eq_true rfl) ?_
  change Wp g MX11_proves 0 [some (.ref 0), some (.int (nI a)), some (.int (nI b)), some (.int (nI m))] [] f 0 0 _
  obtain ⟨b1, b2, b3, hI⟩ := hI
  have em : nI m - nI 1 = nI (m - 1) := by
    rw [show m = (m - 1) + 1 by omega, ← nI_add, Nat.add_sub_cancel]
    exact Int32.add_sub_cancel _ _
  refine rn_iload_n dX11_proves_0 rfl ?_
  refine rn_iconst (v := nI 2) dX11_proves_1 (by decide) ?_
  refine rn_iconst (v := nI 5) dX11_proves_2 (by decide) ?_
  refine rn_callS dX11_proves_3 lmX11_93 ⟨Nat.le_of_ble_eq_true rfl, Nat.le_of_ble_eq_true rfl⟩ (ct_isWithin g f (nI m) (nI 2) (nI 5)) rfl rfl (Nat.le_of_ble_eq_true rfl) ?_
  rintro _ _ ⟨rfl, rfl⟩
  rw [decide_eq_true ⟨nI_le h2 (by omega), nI_le h5 (by decide)⟩]
  refine rn_if_eq (tgt := 31) dX11_proves_6 (by decide) (fun c6 => ?_) (fun c6 => ?_)
  · exact absurd c6 (by decide)
  · refine rn_iload_n dX11_proves_9 rfl ?_
    refine rn_iconst (v := nI 0) dX11_proves_10 (by decide) ?_
    refine rn_iload_n dX11_proves_11 rfl ?_
    refine rn_iconst (v := nI 1) dX11_proves_12 (by decide) ?_
    refine rn_isub dX11_proves_13 ?_
    rw [em]
    refine rn_callS dX11_proves_14 lmX11_93 ⟨Nat.le_of_ble_eq_true rfl, Nat.le_of_ble_eq_true rfl⟩ (ct_isWithin g f (nI a) (nI 0) (nI (m - 1))) rfl rfl (Nat.le_of_ble_eq_true rfl) ?_
    rintro _ _ ⟨rfl, rfl⟩
    rw [decide_eq_true ⟨nI_le (Nat.zero_le _) (by omega), nI_le (by omega) (by omega)⟩]
    refine rn_if_eq (tgt := 31) dX11_proves_17 (by decide) (fun c17 => ?_) (fun c17 => ?_)
    · exact absurd c17 (by decide)
    · refine rn_iload_n dX11_proves_20 rfl ?_
      refine rn_iconst (v := nI 0) dX11_proves_21 (by decide) ?_
      refine rn_iload_n dX11_proves_22 rfl ?_
      refine rn_iconst (v := nI 1) dX11_proves_23 (by decide) ?_
      refine rn_isub dX11_proves_24 ?_
      rw [em]
      refine rn_callS dX11_proves_25 lmX11_93 ⟨Nat.le_of_ble_eq_true rfl, Nat.le_of_ble_eq_true rfl⟩ (ct_isWithin g f (nI b) (nI 0) (nI (m - 1))) rfl rfl (Nat.le_of_ble_eq_true rfl) ?_
      rintro _ _ ⟨rfl, rfl⟩
      rw [decide_eq_true ⟨nI_le (Nat.zero_le _) (by omega), nI_le (by omega) (by omega)⟩]
      refine rn_if_ne (tgt := 33) dX11_proves_28 (by decide) (fun c28 => ?_) (fun c28 => ?_)
      · refine rn_aload_n dX11_proves_33 rfl ?_
        refine rn_callV dX11_proves_34 lmX11_174 ⟨Nat.le_of_ble_eq_true rfl, Nat.le_of_ble_eq_true rfl⟩ (cc_placeAll g f hI hV) hI.1 rfl rfl (Nat.le_of_ble_eq_true rfl) ?_
        rintro _ f1 ⟨rfl, k1, hI1⟩
        obtain ⟨m0, w1⟩ := hI1.2.2.2.2.1.2.2.2.2.2.1
        refine rn_aload_n dX11_proves_37 rfl ?_
        refine rn_get dX11_proves_38 lfX11_79 hI1.1 rfl ?_
        refine rn_aload_n dX11_proves_41 rfl ?_
        refine rn_get dX11_proves_42 lfX11_12 hI1.1 rfl ?_
        refine rn_aload_n dX11_proves_45 rfl ?_
        refine rn_get dX11_proves_46 lfX11_40 hI1.1 rfl ?_
        refine rn_iload_n dX11_proves_49 rfl ?_
        refine rn_iload_n dX11_proves_50 rfl ?_
        refine rn_iload_n dX11_proves_51 rfl ?_
        refine rn_callV dX11_proves_52 lmX11_277 ⟨Nat.le_of_ble_eq_true rfl, Nat.le_of_ble_eq_true rfl⟩ (cc_exclude g f1 hI1 hV h2 h5 ha hb) w1 rfl rfl (Nat.le_of_ble_eq_true rfl) ?_
        rintro _ f2 ⟨rfl, k2, hI2⟩
        refine rn_if_eq (tgt := 62) dX11_proves_55 (by decide) (fun c55 => ?_) (fun c55 => ?_)
        · refine rn_iconst (v := nI 0) dX11_proves_62 (by decide) ?_
          refine rn_iret dX11_proves_63 rfl ?_
          exact ⟨fun j hj => (k2 j hj).trans (k1 j hj), ⟨_, _, _, hI2⟩, by rw [bI_0.mp c55]; rfl⟩
        · refine rn_iconst (v := nI 1) dX11_proves_58 (by decide) ?_
          refine rn_goto (tgt := 63) dX11_proves_59 (by decide) ?_
          refine rn_iret dX11_proves_63 rfl ?_
          exact ⟨fun j hj => (k2 j hj).trans (k1 j hj), ⟨_, _, _, hI2⟩, by rw [bI_n0.mp c55]; rfl⟩
      · exact absurd c28 (by decide)
