theorem cc_form (g : GG) (f : Mm) {P : PS} {H : List PS} {T : List Nat} (x y : Int32) (hI : CI f P H T) (hV : VPc P) : Ct g MX11_form [.ref 0, .int x, .int y] f 0 0 (fun r f' => (∀ j, 74 < j → f' j = f j) ∧ CI f' P H T ∧ r = some (.int (aFo P x y))) := by
  refine Ct.of ok_MX11_form (Nat.le_of_ble_eq_true rfl) ?_
  change Wp g MX11_form 0 [some (.ref 0), some (.int x), some (.int y)] [] f 0 0 _
  obtain ⟨b1, b2, b3, hI⟩ := hI
  have hX := hI.1
  have hP := hI.2.1
  have v8 := hV.1.2.2.2.2
  cases hin : inR x (pN P) with
  | false =>
    refine rn_aload_n dX11_form_0 rfl ?_
    refine rn_get dX11_form_1 lfX11_12 hX rfl ?_
    refine rn_iload_n dX11_form_4 rfl ?_
    refine rn_callV dX11_form_5 lmX11_141 ⟨Nat.le_of_ble_eq_true rfl, Nat.le_of_ble_eq_true rfl⟩ (ct_hasPiece g f x hP) hP.1 rfl rfl (Nat.le_of_ble_eq_true rfl) ?_
    rintro _ _ ⟨rfl, rfl⟩
    rw [hin]
    refine rn_if_eq (tgt := 15) dX11_form_8 (by decide) (fun c8 => ?_) (fun c8 => ?_)
    · refine rn_iconst (v := (-1)) dX11_form_15 (by decide) ?_
      refine rn_iret dX11_form_16 rfl ?_
      exact ⟨fun _ _ => rfl, ⟨_, _, _, hI⟩, by rw [aFo, if_neg (by rw [hin]; decide)]⟩
    · exact absurd (show bI false = 0 from rfl) c8
  | true =>
    by_cases hy : y < 0
    · refine rn_aload_n dX11_form_0 rfl ?_
      refine rn_get dX11_form_1 lfX11_12 hX rfl ?_
      refine rn_iload_n dX11_form_4 rfl ?_
      refine rn_callV dX11_form_5 lmX11_141 ⟨Nat.le_of_ble_eq_true rfl, Nat.le_of_ble_eq_true rfl⟩ (ct_hasPiece g f x hP) hP.1 rfl rfl (Nat.le_of_ble_eq_true rfl) ?_
      rintro _ _ ⟨rfl, rfl⟩
      rw [hin]
      refine rn_if_eq (tgt := 15) dX11_form_8 (by decide) (fun c8 => ?_) (fun c8 => ?_)
      · refine rn_iconst (v := (-1)) dX11_form_15 (by decide) ?_
        refine rn_iret dX11_form_16 rfl ?_
        exact absurd c8 (by decide)
      · refine rn_iload_n dX11_form_11 rfl ?_
        refine rn_if_ge (tgt := 17) dX11_form_12 (by decide) (fun c12 => ?_) (fun c12 => ?_)
        · exact absurd hy (Int32.not_lt.mpr c12)
        · refine rn_iconst (v := (-1)) dX11_form_15 (by decide) ?_
          refine rn_iret dX11_form_16 rfl ?_
          exact ⟨fun _ _ => rfl, ⟨_, _, _, hI⟩, by rw [aFo, if_pos hin, if_pos hy]⟩
    · obtain ⟨p, hp, rfl⟩ := (inR_iff (by omega)).mp hin
      obtain ⟨i, hi, rfl⟩ := nn_nI hy
      have hf8 := fmN_le _ (hV.2.1 p hp).2.1 _ (hV.2.1 p hp).2.2.2.1
      refine rn_aload_n dX11_form_0 rfl ?_
      refine rn_get dX11_form_1 lfX11_12 hX rfl ?_
      refine rn_iload_n dX11_form_4 rfl ?_
      refine rn_callV dX11_form_5 lmX11_141 ⟨Nat.le_of_ble_eq_true rfl, Nat.le_of_ble_eq_true rfl⟩ (ct_hasPiece g f (nI p) hP) hP.1 rfl rfl (Nat.le_of_ble_eq_true rfl) ?_
      rintro _ _ ⟨rfl, rfl⟩
      rw [hin]
      refine rn_if_eq (tgt := 15) dX11_form_8 (by decide) (fun c8 => ?_) (fun c8 => ?_)
      · exact absurd c8 (by decide)
      · refine rn_iload_n dX11_form_11 rfl ?_
        refine rn_if_ge (tgt := 17) dX11_form_12 (by decide) (fun c12 => ?_) (fun c12 => ?_)
        · refine rn_aload_n dX11_form_17 rfl ?_
          refine rn_callV dX11_form_18 lmX11_174 ⟨Nat.le_of_ble_eq_true rfl, Nat.le_of_ble_eq_true rfl⟩ (cc_placeAll g f hI hV) hX rfl rfl (Nat.le_of_ble_eq_true rfl) ?_
          rintro _ f1 ⟨rfl, k1, hI1⟩
          obtain ⟨⟨q1, A, Z, q2, q3, q4, q5⟩, -⟩ := hI1.2.2.2.2.2.1 rfl
          refine rn_iload_n dX11_form_21 rfl ?_
          refine rn_aload_n dX11_form_22 rfl ?_
          refine rn_get dX11_form_23 lfX11_33 hI1.1 rfl ?_
          refine rn_iload_n dX11_form_26 rfl ?_
          refine rn_callV dX11_form_27 lmX11_196 ⟨Nat.le_of_ble_eq_true rfl, Nat.le_of_ble_eq_true rfl⟩ (ct_fsizeOf g f1 q1 q3 (show p < 8 by omega)) q1 rfl rfl (Nat.le_of_ble_eq_true rfl) ?_
          rintro _ _ ⟨rfl, rfl⟩
          rw [q4 p (by omega), if_pos hp]
          refine rn_icmp_ge (tgt := 45) dX11_form_30 (by decide) (fun c30 => ?_) (fun c30 => ?_)
          · refine rn_bipush (v := (-9)) dX11_form_45 (by decide) ?_
            refine rn_iret dX11_form_47 rfl ?_
            refine ⟨k1, ⟨_, _, _, hI1⟩, ?_⟩
            rw [aFo, if_pos hin, if_neg hy, nI_clamp hi, nI_clamp (by omega), if_neg (Nat.not_lt.mpr (ge_ex c30 hi (by omega)))]
          · refine rn_aload_n dX11_form_33 rfl ?_
            refine rn_get dX11_form_34 lfX11_33 hI1.1 rfl ?_
            refine rn_iload_n dX11_form_37 rfl ?_
            refine rn_iload_n dX11_form_38 rfl ?_
            refine rn_callV dX11_form_39 lmX11_200 ⟨Nat.le_of_ble_eq_true rfl, Nat.le_of_ble_eq_true rfl⟩ (ct_fshapeOf g f1 q1 q2 (show p < 8 by omega) (Nat.lt_of_lt_of_le (ge_in c30 hi) hf8)) q1 rfl rfl (Nat.le_of_ble_eq_true rfl) ?_
            rintro _ _ ⟨rfl, rfl⟩
            rw [q5 p hp i (ge_in c30 hi)]
            refine rn_goto (tgt := 47) dX11_form_42 (by decide) ?_
            refine rn_iret dX11_form_47 rfl ?_
            refine ⟨k1, ⟨_, _, _, hI1⟩, ?_⟩
            rw [aFo, if_pos hin, if_neg hy, nI_clamp hi, nI_clamp (by omega), if_pos (ge_in c30 hi)]
        · exact absurd (Int32.not_lt.mp hy) c12
theorem cc_piece (g : GG) (f : Mm) {P : PS} {H : List PS} {T : List Nat} (x y : Int32) (hI : CI f P H T) (hV : VPc P) : Ct g MX11_piece [.ref 0, .int x, .int y] f 0 0 (fun r f' => (∀ j, 74 < j → f' j = f j) ∧ CI f' P H T ∧ r = some (.int (aPie P x y))) := by
  refine Ct.of ok_MX11_piece (Nat.le_of_ble_eq_true rfl) ?_
  change Wp g MX11_piece 0 [some (.ref 0), some (.int x), some (.int y)] [] f 0 0 _
  obtain ⟨b1, b2, b3, hI⟩ := hI
  have hX := hI.1
  have hP := hI.2.1
  have v8 := hV.1.2.2.2.2
  have hLS := pl1_LSd hV.1 hV.2.1
  cases hin : inR x (pN P) with
  | false =>
    refine rn_aload_n dX11_piece_0 rfl ?_
    refine rn_get dX11_piece_1 lfX11_12 hX rfl ?_
    refine rn_iload_n dX11_piece_4 rfl ?_
    refine rn_callV dX11_piece_5 lmX11_141 ⟨Nat.le_of_ble_eq_true rfl, Nat.le_of_ble_eq_true rfl⟩ (ct_hasPiece g f x hP) hP.1 rfl rfl (Nat.le_of_ble_eq_true rfl) ?_
    rintro _ _ ⟨rfl, rfl⟩
    rw [hin]
    refine rn_if_ne (tgt := 13) dX11_piece_8 (by decide) (fun c8 => ?_) (fun c8 => ?_)
    · exact absurd (show bI false = 0 from rfl) c8
    · refine rn_iconst (v := (-1)) dX11_piece_11 (by decide) ?_
      refine rn_iret dX11_piece_12 rfl ?_
      exact ⟨fun _ _ => rfl, ⟨_, _, _, hI⟩, by rw [aPie, if_neg (by rw [hin]; decide)]⟩
  | true =>
    obtain ⟨p, hp, rfl⟩ := (inR_iff (by omega)).mp hin
    have hsh := (shL_lt _ (hV.2.1 p hp).2.1).1
    have at13 : Wp g MX11_piece 13 [some (.ref 0), some (.int (nI p)), some (.int y)] [] f 0 0 (fun r f' => (∀ j, 74 < j → f' j = f j) ∧ CI f' P H T ∧ r = some (.int (aPie P (nI p) y))) := by
      cases hin2 : inR y 7 with
      | false =>
        have hno := inR_no (by decide) hin2
        refine rn_iload_n dX11_piece_13 rfl ?_
        refine rn_tableOut (tgt := 130) dX11_piece_14 (by omega) (by decide) ?_
        refine rn_iconst (v := (-1)) dX11_piece_130 (by decide) ?_
        refine rn_iret dX11_piece_131 rfl ?_
        exact ⟨fun _ _ => rfl, ⟨_, _, _, hI⟩, by rw [aPie, if_pos hin, hin2]; rfl⟩
      | true =>
        obtain ⟨k, hk, rfl⟩ := (inR_iff (by decide)).mp hin2
        have hval : aPie P (nI p) (nI k) = aPi P p k := by rw [aPie, if_pos hin, hin2, if_pos rfl, nI_clamp (by omega), nI_clamp (by omega)]
        rw [hval]
        rcases (show k = 0 ∨ k = 1 ∨ k = 2 ∨ k = 3 ∨ k = 4 ∨ k = 5 ∨ k = 6 by omega) with rfl | rfl | rfl | rfl | rfl | rfl | rfl
        · refine rn_iload_n dX11_piece_13 rfl ?_
          refine rn_tableIn (tgt := 56) dX11_piece_14 (by decide) (by decide) rfl (by decide) ?_
          refine rn_aload_n dX11_piece_56 rfl ?_
          refine rn_get dX11_piece_57 lfX11_12 hX rfl ?_
          refine rn_iload_n dX11_piece_60 rfl ?_
          refine rn_callV dX11_piece_61 lmX11_182 ⟨Nat.le_of_ble_eq_true rfl, Nat.le_of_ble_eq_true rfl⟩ (ct_shapeOf g f (nI p) hP) hP.1 rfl rfl (Nat.le_of_ble_eq_true rfl) ?_
          rintro _ _ ⟨rfl, rfl⟩
          rw [atf_nI (by omega) (by decide)]
          refine rn_iret dX11_piece_64 rfl ?_
          exact ⟨fun _ _ => rfl, ⟨_, _, _, hI⟩, rfl⟩
        · refine rn_iload_n dX11_piece_13 rfl ?_
          refine rn_tableIn (tgt := 65) dX11_piece_14 (by decide) (by decide) rfl (by decide) ?_
          refine rn_aload_n dX11_piece_65 rfl ?_
          refine rn_get dX11_piece_66 lfX11_12 hX rfl ?_
          refine rn_iload_n dX11_piece_69 rfl ?_
          refine rn_callV dX11_piece_70 lmX11_185 ⟨Nat.le_of_ble_eq_true rfl, Nat.le_of_ble_eq_true rfl⟩ (ct_freedomOf g f (nI p) hP) hP.1 rfl rfl (Nat.le_of_ble_eq_true rfl) ?_
          rintro _ _ ⟨rfl, rfl⟩
          rw [atf_nI (by omega) (by decide)]
          refine rn_iret dX11_piece_73 rfl ?_
          exact ⟨fun _ _ => rfl, ⟨_, _, _, hI⟩, rfl⟩
        · refine rn_iload_n dX11_piece_13 rfl ?_
          refine rn_tableIn (tgt := 74) dX11_piece_14 (by decide) (by decide) rfl (by decide) ?_
          refine rn_aload_n dX11_piece_74 rfl ?_
          refine rn_get dX11_piece_75 lfX11_12 hX rfl ?_
          refine rn_iload_n dX11_piece_78 rfl ?_
          refine rn_callV dX11_piece_79 lmX11_188 ⟨Nat.le_of_ble_eq_true rfl, Nat.le_of_ble_eq_true rfl⟩ (ct_colourOf g f (nI p) hP) hP.1 rfl rfl (Nat.le_of_ble_eq_true rfl) ?_
          rintro _ _ ⟨rfl, rfl⟩
          rw [atf_nI (by omega) (by decide)]
          refine rn_iret dX11_piece_82 rfl ?_
          exact ⟨fun _ _ => rfl, ⟨_, _, _, hI⟩, rfl⟩
        · refine rn_iload_n dX11_piece_13 rfl ?_
          refine rn_tableIn (tgt := 83) dX11_piece_14 (by decide) (by decide) rfl (by decide) ?_
          refine rn_aload_n dX11_piece_83 rfl ?_
          refine rn_get dX11_piece_84 lfX11_12 hX rfl ?_
          refine rn_iload_n dX11_piece_87 rfl ?_
          refine rn_callV dX11_piece_88 lmX11_148 ⟨Nat.le_of_ble_eq_true rfl, Nat.le_of_ble_eq_true rfl⟩ (ct_copiesOf g f (nI p) hP) hP.1 rfl rfl (Nat.le_of_ble_eq_true rfl) ?_
          rintro _ _ ⟨rfl, rfl⟩
          rw [atf_nI (by omega) (by decide)]
          refine rn_iret dX11_piece_91 rfl ?_
          exact ⟨fun _ _ => rfl, ⟨_, _, _, hI⟩, rfl⟩
        · refine rn_iload_n dX11_piece_13 rfl ?_
          refine rn_tableIn (tgt := 92) dX11_piece_14 (by decide) (by decide) rfl (by decide) ?_
          refine rn_aload_n dX11_piece_92 rfl ?_
          refine rn_get dX11_piece_93 lfX11_12 hX rfl ?_
          refine rn_iload_n dX11_piece_96 rfl ?_
          refine rn_callV dX11_piece_97 lmX11_182 ⟨Nat.le_of_ble_eq_true rfl, Nat.le_of_ble_eq_true rfl⟩ (ct_shapeOf g f (nI p) hP) hP.1 rfl rfl (Nat.le_of_ble_eq_true rfl) ?_
          rintro _ _ ⟨rfl, rfl⟩
          rw [atf_nI (by omega) (by decide), (hV.2.1 p hp).1]
          refine rn_callS dX11_piece_100 lmX11_191 ⟨Nat.le_of_ble_eq_true rfl, Nat.le_of_ble_eq_true rfl⟩ (ct_bitCount32 g f (Nat.lt_trans hsh (by decide))) rfl rfl (Nat.le_of_ble_eq_true rfl) ?_
          rintro _ _ ⟨rfl, rfl⟩
          refine rn_iret dX11_piece_103 rfl ?_
          exact ⟨fun _ _ => rfl, ⟨_, _, _, hI⟩, rfl⟩
        · refine rn_iload_n dX11_piece_13 rfl ?_
          refine rn_tableIn (tgt := 104) dX11_piece_14 (by decide) (by decide) rfl (by decide) ?_
          refine rn_aload_n dX11_piece_104 rfl ?_
          refine rn_callV dX11_piece_105 lmX11_174 ⟨Nat.le_of_ble_eq_true rfl, Nat.le_of_ble_eq_true rfl⟩ (cc_placeAll g f hI hV) hX rfl rfl (Nat.le_of_ble_eq_true rfl) ?_
          rintro _ f1 ⟨rfl, k1, hI1⟩
          obtain ⟨⟨q1, A, Z, q2, q3, q4, q5⟩, hL1, -⟩ := hI1.2.2.2.2.2.1 rfl
          refine rn_aload_n dX11_piece_108 rfl ?_
          refine rn_get dX11_piece_109 lfX11_33 hI1.1 rfl ?_
          refine rn_iload_n dX11_piece_112 rfl ?_
          refine rn_callV dX11_piece_113 lmX11_196 ⟨Nat.le_of_ble_eq_true rfl, Nat.le_of_ble_eq_true rfl⟩ (ct_fsizeOf g f1 q1 q3 (show p < 8 by omega)) q1 rfl rfl (Nat.le_of_ble_eq_true rfl) ?_
          rintro _ _ ⟨rfl, rfl⟩
          rw [q4 p (by omega), if_pos hp]
          refine rn_iret dX11_piece_116 rfl ?_
          exact ⟨k1, ⟨_, _, _, hI1⟩, rfl⟩
        · refine rn_iload_n dX11_piece_13 rfl ?_
          refine rn_tableIn (tgt := 117) dX11_piece_14 (by decide) (by decide) rfl (by decide) ?_
          refine rn_aload_n dX11_piece_117 rfl ?_
          refine rn_callV dX11_piece_118 lmX11_174 ⟨Nat.le_of_ble_eq_true rfl, Nat.le_of_ble_eq_true rfl⟩ (cc_placeAll g f hI hV) hX rfl rfl (Nat.le_of_ble_eq_true rfl) ?_
          rintro _ f1 ⟨rfl, k1, hI1⟩
          obtain ⟨⟨q1, A, Z, q2, q3, q4, q5⟩, hL1, -⟩ := hI1.2.2.2.2.2.1 rfl
          refine rn_aload_n dX11_piece_121 rfl ?_
          refine rn_get dX11_piece_122 lfX11_40 hI1.1 rfl ?_
          refine rn_iload_n dX11_piece_125 rfl ?_
          refine rn_callV dX11_piece_126 lmX11_199 ⟨Nat.le_of_ble_eq_true rfl, Nat.le_of_ble_eq_true rfl⟩ (ct_psizeOf g f1 hL1 hLS.1 hLS.2.1 (show p < 8 by omega)) hL1.1 rfl rfl (Nat.le_of_ble_eq_true rfl) ?_
          rintro _ _ ⟨rfl, rfl⟩
          refine rn_iret dX11_piece_129 rfl ?_
          exact ⟨k1, ⟨_, _, _, hI1⟩, rfl⟩
    refine rn_aload_n dX11_piece_0 rfl ?_
    refine rn_get dX11_piece_1 lfX11_12 hX rfl ?_
    refine rn_iload_n dX11_piece_4 rfl ?_
    refine rn_callV dX11_piece_5 lmX11_141 ⟨Nat.le_of_ble_eq_true rfl, Nat.le_of_ble_eq_true rfl⟩ (ct_hasPiece g f (nI p) hP) hP.1 rfl rfl (Nat.le_of_ble_eq_true rfl) ?_
    rintro _ _ ⟨rfl, rfl⟩
    rw [hin]
    refine rn_if_ne (tgt := 13) dX11_piece_8 (by decide) (fun c8 => ?_) (fun c8 => ?_)
    · exact at13
    · exact absurd c8 (by decide)
