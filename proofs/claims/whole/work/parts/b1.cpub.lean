theorem fi_0 {p : Prop} [Decidable p] (h : bI (!decide p) = 0) : p := Classical.byContradiction fun hp => (by rw [decide_eq_false hp] at h; exact absurd h (by decide))
theorem fi_1 {p : Prop} [Decidable p] (h : ¬ bI (!decide p) = 0) : ¬ p := fun hp => h (by rw [decide_eq_true hp]; rfl)
theorem CIf.X {f : Mm} {P : PS} {H : List PS} {T : List Nat} {b1 b2 b3 : Bool} (h : CIf f P H T b1 b2 b3) : f 0 = some (XE (bI b1) (bI b2) (bI b3)) := h.1
theorem cc_covers (g : GG) (f : Mm) {P : PS} {H : List PS} {T : List Nat} (hI : CI f P H T) (hV : VPc P) : Ct g MX11_covers [.ref 0] f 0 0 (fun r f' => (∀ j, 74 < j → f' j = f j) ∧ CI f' P H T ∧ ∃ n, FnS (qP P) n ∧ r = some (.int (if (sqS (qP P) n).1 = 2 then -4 else nI n))) := by
  refine Ct.of ok_MX11_covers (Nat.le_of_ble_eq_true rfl) ?_
  change Wp g MX11_covers 0 [some (.ref 0)] [] f 0 0 _
  obtain ⟨b1, b2, b3, hI⟩ := hI
  refine rn_aload_n dX11_covers_0 rfl ?_
  refine rn_callV dX11_covers_1 lmX11_235 ⟨Nat.le_of_ble_eq_true rfl, Nat.le_of_ble_eq_true rfl⟩ (cc_searchAll g f hI hV) hI.1 rfl rfl (Nat.le_of_ble_eq_true rfl) ?_
  rintro _ f1 ⟨rfl, k1, hI1⟩
  obtain ⟨hX1, hP1, -, -, -, d1, d2, -⟩ := id hI1
  obtain ⟨-, n, Z, hFn, hCV, hWK, hZ, hRW⟩ := d2 rfl
  refine rn_aload_n dX11_covers_4 rfl ?_
  refine rn_get dX11_covers_5 lfX11_65 hX1 rfl ?_
  refine rn_get dX11_covers_8 lfX11_238 hCV rfl ?_
  refine rn_if_eq (tgt := 24) dX11_covers_11 (by decide) (fun c11 => ?_) (fun c11 => ?_)
  · refine rn_bipush (v := (-4)) dX11_covers_24 (by decide) ?_
    refine rn_iret dX11_covers_26 rfl ?_
    exact ⟨k1, ⟨_, _, _, hI1⟩, n, hFn, by rw [if_pos (fi_0 c11)]⟩
  · refine rn_aload_n dX11_covers_14 rfl ?_
    refine rn_get dX11_covers_15 lfX11_65 hX1 rfl ?_
    refine rn_get dX11_covers_18 lfX11_241 hCV rfl ?_
    refine rn_goto (tgt := 26) dX11_covers_21 (by decide) ?_
    refine rn_iret dX11_covers_26 rfl ?_
    exact ⟨k1, ⟨_, _, _, hI1⟩, n, hFn, by rw [if_neg (fi_1 c11)]⟩
theorem cc_tries (g : GG) (f : Mm) {P : PS} {H : List PS} {T : List Nat} (hI : CI f P H T) (hV : VPc P) : Ct g MX11_tries [.ref 0] f 0 0 (fun r f' => (∀ j, 74 < j → f' j = f j) ∧ CI f' P H T ∧ ∃ n, FnS (qP P) n ∧ r = some (.int (if (sqS (qP P) n).1 = 2 then -4 else nI (sqS (qP P) n).2.2.2))) := by
  refine Ct.of ok_MX11_tries (Nat.le_of_ble_eq_true rfl) ?_
  change Wp g MX11_tries 0 [some (.ref 0)] [] f 0 0 _
  obtain ⟨b1, b2, b3, hI⟩ := hI
  refine rn_aload_n dX11_tries_0 rfl ?_
  refine rn_callV dX11_tries_1 lmX11_235 ⟨Nat.le_of_ble_eq_true rfl, Nat.le_of_ble_eq_true rfl⟩ (cc_searchAll g f hI hV) hI.1 rfl rfl (Nat.le_of_ble_eq_true rfl) ?_
  rintro _ f1 ⟨rfl, k1, hI1⟩
  obtain ⟨hX1, hP1, -, -, -, d1, d2, -⟩ := id hI1
  obtain ⟨-, n, Z, hFn, hCV, hWK, hZ, hRW⟩ := d2 rfl
  refine rn_aload_n dX11_tries_4 rfl ?_
  refine rn_get dX11_tries_5 lfX11_65 hX1 rfl ?_
  refine rn_get dX11_tries_8 lfX11_238 hCV rfl ?_
  refine rn_if_eq (tgt := 24) dX11_tries_11 (by decide) (fun c11 => ?_) (fun c11 => ?_)
  · refine rn_bipush (v := (-4)) dX11_tries_24 (by decide) ?_
    refine rn_iret dX11_tries_26 rfl ?_
    exact ⟨k1, ⟨_, _, _, hI1⟩, n, hFn, by rw [if_pos (fi_0 c11)]⟩
  · refine rn_aload_n dX11_tries_14 rfl ?_
    refine rn_get dX11_tries_15 lfX11_65 hX1 rfl ?_
    refine rn_get dX11_tries_18 lfX11_242 hCV rfl ?_
    refine rn_goto (tgt := 26) dX11_tries_21 (by decide) ?_
    refine rn_iret dX11_tries_26 rfl ?_
    exact ⟨k1, ⟨_, _, _, hI1⟩, n, hFn, by rw [if_neg (fi_1 c11)]⟩
theorem cc_fewest (g : GG) (f : Mm) {P : PS} {H : List PS} {T : List Nat} (hI : CI f P H T) (hV : VPc P) : Ct g MX11_fewest [.ref 0] f 0 0 (fun r f' => (∀ j, 74 < j → f' j = f j) ∧ CI f' P H T ∧ ∃ n, FnS (qP P) n ∧ r = some (.int (if (sqS (qP P) n).1 = 2 then -4 else if n = 0 then -9 else nI (mnS (qP P) n)))) := by
  refine Ct.of ok_MX11_fewest (Nat.le_of_ble_eq_true rfl) ?_
  change Wp g MX11_fewest 0 [some (.ref 0)] [] f 0 0 _
  obtain ⟨b1, b2, b3, hI⟩ := hI
  refine rn_aload_n dX11_fewest_0 rfl ?_
  refine rn_callV dX11_fewest_1 lmX11_235 ⟨Nat.le_of_ble_eq_true rfl, Nat.le_of_ble_eq_true rfl⟩ (cc_searchAll g f hI hV) hI.1 rfl rfl (Nat.le_of_ble_eq_true rfl) ?_
  rintro _ f1 ⟨rfl, k1, hI1⟩
  obtain ⟨hX1, hP1, -, -, -, d1, d2, -⟩ := id hI1
  obtain ⟨-, n, Z, hFn, hCV, hWK, hZ, hRW⟩ := d2 rfl
  have hn := fin_le hFn.1
  refine rn_aload_n dX11_fewest_4 rfl ?_
  refine rn_get dX11_fewest_5 lfX11_65 hX1 rfl ?_
  refine rn_get dX11_fewest_8 lfX11_238 hCV rfl ?_
  refine rn_if_ne (tgt := 17) dX11_fewest_11 (by decide) (fun c11 => ?_) (fun c11 => ?_)
  · refine rn_aload_n dX11_fewest_17 rfl ?_
    refine rn_get dX11_fewest_18 lfX11_65 hX1 rfl ?_
    refine rn_get dX11_fewest_21 lfX11_241 hCV rfl ?_
    refine rn_if_ne (tgt := 32) dX11_fewest_24 (by decide) (fun c24 => ?_) (fun c24 => ?_)
    · refine rn_aload_n dX11_fewest_32 rfl ?_
      refine rn_get dX11_fewest_33 lfX11_65 hX1 rfl ?_
      refine rn_get dX11_fewest_36 lfX11_264 hCV rfl ?_
      refine rn_iret dX11_fewest_39 rfl ?_
      exact ⟨k1, ⟨_, _, _, hI1⟩, n, hFn, by rw [if_neg (fi_1 c11), if_neg (fun h => c24 (by rw [h]; rfl))]⟩
    · refine rn_bipush (v := (-9)) dX11_fewest_27 (by decide) ?_
      refine rn_goto (tgt := 39) dX11_fewest_29 (by decide) ?_
      refine rn_iret dX11_fewest_39 rfl ?_
      refine ⟨k1, ⟨_, _, _, hI1⟩, n, hFn, ?_⟩
      rw [if_neg (fi_1 c11), if_pos (Classical.byContradiction fun h => nI_ne0 (by omega) (by omega) c24)]
  · refine rn_bipush (v := (-4)) dX11_fewest_14 (by decide) ?_
    refine rn_iret dX11_fewest_16 rfl ?_
    exact ⟨k1, ⟨_, _, _, hI1⟩, n, hFn, by rw [if_pos (fi_0 c11)]⟩
theorem cc_classes (g : GG) (f : Mm) {P : PS} {H : List PS} {T : List Nat} (hI : CI f P H T) (hV : VPc P) : Ct g MX11_classes [.ref 0] f 0 0 (fun r f' => (∀ j, 74 < j → f' j = f j) ∧ CI f' P H T ∧ ∃ n, FnS (qP P) n ∧ r = some (.int (if (sqS (qP P) n).1 = 2 then -4 else if 100 < n then -3 else nI (clsN (qP P) n)))) := by
  refine Ct.of ok_MX11_classes (Nat.le_of_ble_eq_true rfl) ?_
  change Wp g MX11_classes 0 [some (.ref 0)] [] f 0 0 _
  obtain ⟨b1, b2, b3, hI⟩ := hI
  refine rn_aload_n dX11_classes_0 rfl ?_
  refine rn_callV dX11_classes_1 lmX11_235 ⟨Nat.le_of_ble_eq_true rfl, Nat.le_of_ble_eq_true rfl⟩ (cc_searchAll g f hI hV) hI.1 rfl rfl (Nat.le_of_ble_eq_true rfl) ?_
  rintro _ f1 ⟨rfl, k1, hI1⟩
  obtain ⟨hX1, hP1, -, -, -, d1, d2, -⟩ := id hI1
  obtain ⟨-, n, Z, hFn, hCV, hWK, hZ, hRW⟩ := d2 rfl
  have hn := fin_le hFn.1
  refine rn_aload_n dX11_classes_4 rfl ?_
  refine rn_get dX11_classes_5 lfX11_65 hX1 rfl ?_
  refine rn_get dX11_classes_8 lfX11_238 hCV rfl ?_
  refine rn_if_ne (tgt := 17) dX11_classes_11 (by decide) (fun c11 => ?_) (fun c11 => ?_)
  · refine rn_aload_n dX11_classes_17 rfl ?_
    refine rn_get dX11_classes_18 lfX11_65 hX1 rfl ?_
    refine rn_get dX11_classes_21 lfX11_241 hCV rfl ?_
    refine rn_bipush (v := nI 100) dX11_classes_24 (by decide) ?_
    refine rn_icmp_le (tgt := 34) dX11_classes_26 (by decide) (fun c26 => ?_) (fun c26 => ?_)
    · refine rn_aload_n dX11_classes_34 rfl ?_
      refine rn_get dX11_classes_35 lfX11_65 hX1 rfl ?_
      refine rn_callV dX11_classes_38 lmX11_257 ⟨Nat.le_of_ble_eq_true rfl, Nat.le_of_ble_eq_true rfl⟩ (ct_classCount g f1 (q := qP P) hCV hZ ⟨hP1, (d1 rfl).2.1, (d1 rfl).2.2.1⟩ (VP.Q hV) (VP.SZ hV) (d1 rfl).2.2.2 hFn.1 hRW (ge_ex c26 (by decide) (by omega))) hCV rfl rfl (Nat.le_of_ble_eq_true rfl) ?_
      rintro _ _ ⟨rfl, rfl⟩
      refine rn_iret dX11_classes_41 rfl ?_
      exact ⟨k1, ⟨_, _, _, hI1⟩, n, hFn, by rw [if_neg (fi_1 c11), if_neg (Nat.not_lt.mpr (ge_ex c26 (by decide) (by omega)))]⟩
    · refine rn_bipush (v := (-3)) dX11_classes_29 (by decide) ?_
      refine rn_goto (tgt := 41) dX11_classes_31 (by decide) ?_
      refine rn_iret dX11_classes_41 rfl ?_
      exact ⟨k1, ⟨_, _, _, hI1⟩, n, hFn, by rw [if_neg (fi_1 c11), if_pos (ge_in c26 (by decide))]⟩
  · refine rn_bipush (v := (-4)) dX11_classes_14 (by decide) ?_
    refine rn_iret dX11_classes_16 rfl ?_
    exact ⟨k1, ⟨_, _, _, hI1⟩, n, hFn, by rw [if_pos (fi_0 c11)]⟩
theorem cc_useful (g : GG) (f : Mm) (x : Int32) {P : PS} {H : List PS} {T : List Nat} (hI : CI f P H T) (hV : VPc P) : Ct g MX11_useful [.ref 0, .int x] f 0 0 (fun r f' => (∀ j, 74 < j → f' j = f j) ∧ CI f' P H T ∧ r = some (.int (aX_useful P x))) := by
  refine Ct.of ok_MX11_useful (Nat.le_of_ble_eq_true rfl) ?_
  change Wp g MX11_useful 0 [some (.ref 0), some (.int x)] [] f 0 0 _
  obtain ⟨b1, b2, b3, hI⟩ := hI
  have v8 := hV.1.2.2.2.2
  have hLS := pl1_LSd hV.1 hV.2.1
  cases hin : inR x (pN P) with
  | false =>
    refine rn_aload_n dX11_useful_0 rfl ?_
    refine rn_get dX11_useful_1 lfX11_12 hI.1 rfl ?_
    refine rn_iload_n dX11_useful_4 rfl ?_
    refine rn_callV dX11_useful_5 lmX11_141 ⟨Nat.le_of_ble_eq_true rfl, Nat.le_of_ble_eq_true rfl⟩ (ct_hasPiece g f x hI.2.1) hI.2.1.1 rfl rfl (Nat.le_of_ble_eq_true rfl) ?_
    rintro _ _ ⟨rfl, rfl⟩
    rw [hin]
    refine rn_if_ne (tgt := 13) dX11_useful_8 (by decide) (fun c8 => ?_) (fun c8 => ?_)
    · exact absurd (show bI false = 0 from rfl) c8
    · refine rn_iconst (v := (-1)) dX11_useful_11 (by decide) ?_
      refine rn_iret dX11_useful_12 rfl ?_
      exact ⟨fun _ _ => rfl, ⟨_, _, _, hI⟩, by rw [aX_useful, if_neg (by rw [hin]; decide)]⟩
  | true =>
    obtain ⟨p, hp, rfl⟩ := (inR_iff (by omega)).mp hin
    refine rn_aload_n dX11_useful_0 rfl ?_
    refine rn_get dX11_useful_1 lfX11_12 hI.1 rfl ?_
    refine rn_iload_n dX11_useful_4 rfl ?_
    refine rn_callV dX11_useful_5 lmX11_141 ⟨Nat.le_of_ble_eq_true rfl, Nat.le_of_ble_eq_true rfl⟩ (ct_hasPiece g f (nI p) hI.2.1) hI.2.1.1 rfl rfl (Nat.le_of_ble_eq_true rfl) ?_
    rintro _ _ ⟨rfl, rfl⟩
    rw [hin]
    refine rn_if_ne (tgt := 13) dX11_useful_8 (by decide) (fun c8 => ?_) (fun c8 => ?_)
    · refine rn_aload_n dX11_useful_13 rfl ?_
      refine rn_callV dX11_useful_14 lmX11_267 ⟨Nat.le_of_ble_eq_true rfl, Nat.le_of_ble_eq_true rfl⟩ (cc_siftAll g f hI hV) hI.1 rfl rfl (Nat.le_of_ble_eq_true rfl) ?_
      rintro _ f1 ⟨rfl, k1, hI1⟩
      obtain ⟨hX1, hP1, -, -, ⟨-, -, -, -, ⟨w1, -⟩, -⟩, d1, -, d3⟩ := id hI1
      obtain ⟨-, st, hZ, hK⟩ := d3 rfl
      refine rn_aload_n dX11_useful_17 rfl ?_
      refine rn_get dX11_useful_18 lfX11_72 hX1 rfl ?_
      refine rn_aload_n dX11_useful_21 rfl ?_
      refine rn_get dX11_useful_22 lfX11_40 hX1 rfl ?_
      refine rn_iload_n dX11_useful_25 rfl ?_
      refine rn_callV dX11_useful_26 lmX11_270 ⟨Nat.le_of_ble_eq_true rfl, Nat.le_of_ble_eq_true rfl⟩ (ct_leftOfPiece g f1 w1 hZ (d1 rfl).2.1 hLS hK (show p < 8 by omega)) w1 rfl rfl (Nat.le_of_ble_eq_true rfl) ?_
      rintro _ _ ⟨rfl, rfl⟩
      refine rn_iret dX11_useful_29 rfl ?_
      exact ⟨k1, ⟨_, _, _, hI1⟩, by rw [aX_useful, if_pos hin, nI_clamp (by omega)]⟩
    · exact absurd c8 (by decide)
theorem cc_usefulAt (g : GG) (f : Mm) (x : Int32) {P : PS} {H : List PS} {T : List Nat} (hI : CI f P H T) (hV : VPc P) : Ct g MX11_usefulAt [.ref 0, .int x] f 0 0 (fun r f' => (∀ j, 74 < j → f' j = f j) ∧ CI f' P H T ∧ r = some (.int (aX_usefulAt P x))) := by
  refine Ct.of ok_MX11_usefulAt (Nat.le_of_ble_eq_true rfl) ?_
  change Wp g MX11_usefulAt 0 [some (.ref 0), some (.int x)] [] f 0 0 _
  obtain ⟨b1, b2, b3, hI⟩ := hI
  have ha := hV.1.area
  have hLS := pl1_LSd hV.1 hV.2.1
  cases hin : inR x (pW P * pH P) with
  | false =>
    refine rn_aload_n dX11_usefulAt_0 rfl ?_
    refine rn_get dX11_usefulAt_1 lfX11_12 hI.1 rfl ?_
    refine rn_iload_n dX11_usefulAt_4 rfl ?_
    refine rn_callV dX11_usefulAt_5 lmX11_108 ⟨Nat.le_of_ble_eq_true rfl, Nat.le_of_ble_eq_true rfl⟩ (ct_hasCell g f x hI.2.1) hI.2.1.1 rfl rfl (Nat.le_of_ble_eq_true rfl) ?_
    rintro _ _ ⟨rfl, rfl⟩
    rw [hin]
    refine rn_if_ne (tgt := 13) dX11_usefulAt_8 (by decide) (fun c8 => ?_) (fun c8 => ?_)
    · exact absurd (show bI false = 0 from rfl) c8
    · refine rn_iconst (v := (-1)) dX11_usefulAt_11 (by decide) ?_
      refine rn_iret dX11_usefulAt_12 rfl ?_
      exact ⟨fun _ _ => rfl, ⟨_, _, _, hI⟩, by rw [aX_usefulAt, if_neg (by rw [hin]; decide)]⟩
  | true =>
    obtain ⟨c, hc, rfl⟩ := (inR_iff (by omega)).mp hin
    by_cases hh : pC P c = -1
    · refine rn_aload_n dX11_usefulAt_0 rfl ?_
      refine rn_get dX11_usefulAt_1 lfX11_12 hI.1 rfl ?_
      refine rn_iload_n dX11_usefulAt_4 rfl ?_
      refine rn_callV dX11_usefulAt_5 lmX11_108 ⟨Nat.le_of_ble_eq_true rfl, Nat.le_of_ble_eq_true rfl⟩ (ct_hasCell g f (nI c) hI.2.1) hI.2.1.1 rfl rfl (Nat.le_of_ble_eq_true rfl) ?_
      rintro _ _ ⟨rfl, rfl⟩
      rw [hin]
      refine rn_if_ne (tgt := 13) dX11_usefulAt_8 (by decide) (fun c8 => ?_) (fun c8 => ?_)
      · refine rn_aload_n dX11_usefulAt_13 rfl ?_
        refine rn_get dX11_usefulAt_14 lfX11_12 hI.1 rfl ?_
        refine rn_iload_n dX11_usefulAt_17 rfl ?_
        refine rn_callV dX11_usefulAt_18 lmX11_112 ⟨Nat.le_of_ble_eq_true rfl, Nat.le_of_ble_eq_true rfl⟩ (ct_isHole g f (nI c) hI.2.1) hI.2.1.1 rfl rfl (Nat.le_of_ble_eq_true rfl) ?_
        rintro _ _ ⟨rfl, rfl⟩
        rw [atf_nI (by omega) (by decide), decide_eq_true hh]
        refine rn_if_eq (tgt := 27) dX11_usefulAt_21 (by decide) (fun c21 => ?_) (fun c21 => ?_)
        · exact absurd c21 (by decide)
        · refine rn_bipush (v := (-9)) dX11_usefulAt_24 (by decide) ?_
          refine rn_iret dX11_usefulAt_26 rfl ?_
          exact ⟨fun _ _ => rfl, ⟨_, _, _, hI⟩, by rw [aX_usefulAt, if_pos hin, nI_clamp (by omega), if_pos hh]⟩
      · exact absurd c8 (by decide)
    · refine rn_aload_n dX11_usefulAt_0 rfl ?_
      refine rn_get dX11_usefulAt_1 lfX11_12 hI.1 rfl ?_
      refine rn_iload_n dX11_usefulAt_4 rfl ?_
      refine rn_callV dX11_usefulAt_5 lmX11_108 ⟨Nat.le_of_ble_eq_true rfl, Nat.le_of_ble_eq_true rfl⟩ (ct_hasCell g f (nI c) hI.2.1) hI.2.1.1 rfl rfl (Nat.le_of_ble_eq_true rfl) ?_
      rintro _ _ ⟨rfl, rfl⟩
      rw [hin]
      refine rn_if_ne (tgt := 13) dX11_usefulAt_8 (by decide) (fun c8 => ?_) (fun c8 => ?_)
      · refine rn_aload_n dX11_usefulAt_13 rfl ?_
        refine rn_get dX11_usefulAt_14 lfX11_12 hI.1 rfl ?_
        refine rn_iload_n dX11_usefulAt_17 rfl ?_
        refine rn_callV dX11_usefulAt_18 lmX11_112 ⟨Nat.le_of_ble_eq_true rfl, Nat.le_of_ble_eq_true rfl⟩ (ct_isHole g f (nI c) hI.2.1) hI.2.1.1 rfl rfl (Nat.le_of_ble_eq_true rfl) ?_
        rintro _ _ ⟨rfl, rfl⟩
        rw [atf_nI (by omega) (by decide), decide_eq_false hh]
        refine rn_if_eq (tgt := 27) dX11_usefulAt_21 (by decide) (fun c21 => ?_) (fun c21 => ?_)
        · refine rn_aload_n dX11_usefulAt_27 rfl ?_
          refine rn_callV dX11_usefulAt_28 lmX11_267 ⟨Nat.le_of_ble_eq_true rfl, Nat.le_of_ble_eq_true rfl⟩ (cc_siftAll g f hI hV) hI.1 rfl rfl (Nat.le_of_ble_eq_true rfl) ?_
          rintro _ f1 ⟨rfl, k1, hI1⟩
          obtain ⟨hX1, hP1, -, -, ⟨-, -, -, -, ⟨w1, -⟩, -⟩, d1, -, d3⟩ := id hI1
          obtain ⟨-, st, hZ, hK⟩ := d3 rfl
          refine rn_aload_n dX11_usefulAt_31 rfl ?_
          refine rn_get dX11_usefulAt_32 lfX11_72 hX1 rfl ?_
          refine rn_aload_n dX11_usefulAt_35 rfl ?_
          refine rn_get dX11_usefulAt_36 lfX11_40 hX1 rfl ?_
          refine rn_iload_n dX11_usefulAt_39 rfl ?_
          refine rn_callV dX11_usefulAt_40 lmX11_274 ⟨Nat.le_of_ble_eq_true rfl, Nat.le_of_ble_eq_true rfl⟩ (ct_leftAtCell g f1 w1 hZ (d1 rfl).2.1 hLS hK (show c < 36 by omega)) w1 rfl rfl (Nat.le_of_ble_eq_true rfl) ?_
          rintro _ _ ⟨rfl, rfl⟩
          refine rn_iret dX11_usefulAt_43 rfl ?_
          exact ⟨k1, ⟨_, _, _, hI1⟩, by rw [aX_usefulAt, if_pos hin, nI_clamp (by omega), if_neg hh]⟩
        · exact absurd (show bI false = 0 from rfl) c21
      · exact absurd c8 (by decide)
