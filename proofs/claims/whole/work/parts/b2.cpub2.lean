theorem RWz.keep {q : SQ} {n s : Nat} {Z Z' : Nat → Int32} (h : RWz q n Z) (e : ∀ j, (j < (100 + s) * 36 ∨ (100 + s) * 36 + 36 ≤ j) → Z' j = Z j) : RWz q n Z' := fun i a b c d => by
  rw [e _ (Or.inl (by omega))]
  exact h i a b c d
theorem cc_coverAt (g : GG) (f : Mm) (x y : Int32) {P : PS} {H : List PS} {T : List Nat} (hI : CI f P H T) (hV : VPc P) : Ct g MX11_coverAt [.ref 0, .int x, .int y] f 0 0 (fun r f' => (∀ j, 74 < j → f' j = f j) ∧ CI f' P H T ∧ ∃ n, FnS (qP P) n ∧ r = some (.int (aAt (qP P) n x y))) := by
  refine Ct.of ok_MX11_coverAt (Nat.le_of_ble_eq_true rfl) ?_
  change Wp g MX11_coverAt 0 [some (.ref 0), some (.int x), some (.int y)] [] f 0 0 _
  obtain ⟨b1, b2, b3, hI⟩ := hI
  have ha := hV.1.area
  have v8 := hV.1.2.2.2.2
  have hQ := VP.Q hV
  have hqP : (qP P).1 = P := rfl
  obtain ⟨n0, hF0⟩ := ex_fin (qP P)
  by_cases hx : x < 0
  · refine rn_iload_n dX11_coverAt_0 rfl ?_
    refine rn_if_lt (tgt := 15) dX11_coverAt_1 (by decide) (fun c1 => ?_) (fun c1 => ?_)
    · refine rn_iconst (v := (-1)) dX11_coverAt_15 (by decide) ?_
      refine rn_iret dX11_coverAt_16 rfl ?_
      exact ⟨fun _ _ => rfl, ⟨_, _, _, hI⟩, n0, hF0, by rw [aAt, if_pos hx]⟩
    · exact absurd hx c1
  obtain ⟨c, hc, rfl⟩ := nn_nI hx
  cases hin : inR y (pW P * pH P) with
  | false =>
    refine rn_iload_n dX11_coverAt_0 rfl ?_
    refine rn_if_lt (tgt := 15) dX11_coverAt_1 (by decide) (fun c1 => ?_) (fun c1 => ?_)
    · refine rn_iconst (v := (-1)) dX11_coverAt_15 (by decide) ?_
      refine rn_iret dX11_coverAt_16 rfl ?_
      exact absurd c1 hx
    · refine rn_aload_n dX11_coverAt_4 rfl ?_
      refine rn_get dX11_coverAt_5 lfX11_12 hI.1 rfl ?_
      refine rn_iload_n dX11_coverAt_8 rfl ?_
      refine rn_callV dX11_coverAt_9 lmX11_108 ⟨Nat.le_of_ble_eq_true rfl, Nat.le_of_ble_eq_true rfl⟩ (ct_hasCell g f y hI.2.1) hI.2.1.1 rfl rfl (Nat.le_of_ble_eq_true rfl) ?_
      rintro _ _ ⟨rfl, rfl⟩
      rw [hin]
      refine rn_if_ne (tgt := 17) dX11_coverAt_12 (by decide) (fun c12 => ?_) (fun c12 => ?_)
      · exact absurd (show bI false = 0 from rfl) c12
      · refine rn_iconst (v := (-1)) dX11_coverAt_15 (by decide) ?_
        refine rn_iret dX11_coverAt_16 rfl ?_
        exact ⟨fun _ _ => rfl, ⟨_, _, _, hI⟩, n0, hF0, by rw [aAt, if_neg hx, if_pos (by rw [hqP]; exact hin)]⟩
  | true =>
    obtain ⟨i, hi, rfl⟩ := (inR_iff (by omega)).mp hin
    have hnin : ¬ inR (nI i) (pW P * pH P) = false := by rw [hin]; decide
    have hpl : ∀ (f1 : Mm) (n : Nat) (Z : Nat → Int32), (∀ j, 74 < j → f1 j = f j) → CIf f1 P H T true true b3 → FnS (qP P) n → CVo f1 (qP P) n → WKv f1 (qP P) n → AR f1 69 3672 Z → RWz (qP P) n Z → c < n → Wp g MX11_coverAt 37 [some (.ref 0), some (.int (nI c)), some (.int (nI i))] [] f1 0 0 (fun r f' => (∀ j, 74 < j → f' j = f j) ∧ CI f' P H T ∧ ∃ n, FnS (qP P) n ∧ r = some (.int (aAt (qP P) n (nI c) (nI i)))) := fun f1 n Z k1 hI1 hFn hCV hWK hZ hRW hcn => by
      obtain ⟨hX1, hP1, -, -, -, d1, -, -⟩ := id hI1
      have hCX : CXw f1 (qP P) := ⟨hP1, (d1 rfl).2.1, (d1 rfl).2.2.1⟩
      by_cases hh : pC P i = -1
      · refine rn_aload_n dX11_coverAt_37 rfl ?_
        refine rn_get dX11_coverAt_38 lfX11_12 hX1 rfl ?_
        refine rn_iload_n dX11_coverAt_41 rfl ?_
        refine rn_callV dX11_coverAt_42 lmX11_112 ⟨Nat.le_of_ble_eq_true rfl, Nat.le_of_ble_eq_true rfl⟩ (ct_isHole g f1 (nI i) hP1) hP1.1 rfl rfl (Nat.le_of_ble_eq_true rfl) ?_
        rintro _ _ ⟨rfl, rfl⟩
        rw [atf_nI (by omega) (by decide), decide_eq_true hh]
        refine rn_if_eq (tgt := 51) dX11_coverAt_45 (by decide) (fun c45 => ?_) (fun c45 => ?_)
        · exact absurd c45 (by decide)
        · refine rn_bipush (v := (-9)) dX11_coverAt_48 (by decide) ?_
          refine rn_iret dX11_coverAt_50 rfl ?_
          exact ⟨k1, ⟨_, _, _, hI1⟩, n, hFn, by rw [aAt, hqP, if_neg hx, if_neg hnin, nI_clamp hc, if_pos hcn, nI_clamp (by omega), if_pos hh]⟩
      · refine rn_aload_n dX11_coverAt_37 rfl ?_
        refine rn_get dX11_coverAt_38 lfX11_12 hX1 rfl ?_
        refine rn_iload_n dX11_coverAt_41 rfl ?_
        refine rn_callV dX11_coverAt_42 lmX11_112 ⟨Nat.le_of_ble_eq_true rfl, Nat.le_of_ble_eq_true rfl⟩ (ct_isHole g f1 (nI i) hP1) hP1.1 rfl rfl (Nat.le_of_ble_eq_true rfl) ?_
        rintro _ _ ⟨rfl, rfl⟩
        rw [atf_nI (by omega) (by decide), decide_eq_false hh]
        refine rn_if_eq (tgt := 51) dX11_coverAt_45 (by decide) (fun c45 => ?_) (fun c45 => ?_)
        · refine rn_aload_n dX11_coverAt_51 rfl ?_
          refine rn_get dX11_coverAt_52 lfX11_65 hX1 rfl ?_
          refine rn_aload_n dX11_coverAt_55 rfl ?_
          refine rn_get dX11_coverAt_56 lfX11_65 hX1 rfl ?_
          refine rn_iload_n dX11_coverAt_59 rfl ?_
          refine rn_iconst (v := nI 0) dX11_coverAt_60 (by decide) ?_
          refine rn_callV dX11_coverAt_61 lmX11_248 ⟨Nat.le_of_ble_eq_true rfl, Nat.le_of_ble_eq_true rfl⟩ (ct_crowOf g f1 (s := 0) hCV hZ hRW hWK hFn hCX hQ hcn (by decide)) hCV rfl rfl (Nat.le_of_ble_eq_true rfl) ?_
          rintro _ f2 ⟨k2, hCV2, hWK2, r0, Z2, rfl, hr0, -, hZ2, hk2, hrow⟩
          refine rn_iload_n dX11_coverAt_64 rfl ?_
          refine rn_callV dX11_coverAt_65 lmX11_251 ⟨Nat.le_of_ble_eq_true rfl, Nat.le_of_ble_eq_true rfl⟩ (ct_placementAt g f2 hCV2 hZ2 hr0 (show i < 36 by omega)) hCV2 rfl rfl (Nat.le_of_ble_eq_true rfl) ?_
          rintro _ _ ⟨rfl, rfl⟩
          rw [hrow i (by omega)]
          refine rn_iret dX11_coverAt_68 rfl ?_
          exact ⟨fun j hj => (k2 j (by omega)).trans (k1 j hj), ⟨_, _, _, hI1.srch ((k2 0 (by omega)).trans hX1) (fun j a b _ => k2 j b) ⟨n, Z2, hFn, hCV2, hWK2, hZ2, hRW.keep hk2⟩⟩, n, hFn, by rw [aAt, hqP, if_neg hx, if_neg hnin, nI_clamp hc, if_pos hcn, nI_clamp (by omega), if_neg hh]⟩
        · exact absurd (show bI false = 0 from rfl) c45
    refine rn_iload_n dX11_coverAt_0 rfl ?_
    refine rn_if_lt (tgt := 15) dX11_coverAt_1 (by decide) (fun c1 => ?_) (fun c1 => ?_)
    · exact absurd c1 hx
    · refine rn_aload_n dX11_coverAt_4 rfl ?_
      refine rn_get dX11_coverAt_5 lfX11_12 hI.1 rfl ?_
      refine rn_iload_n dX11_coverAt_8 rfl ?_
      refine rn_callV dX11_coverAt_9 lmX11_108 ⟨Nat.le_of_ble_eq_true rfl, Nat.le_of_ble_eq_true rfl⟩ (ct_hasCell g f (nI i) hI.2.1) hI.2.1.1 rfl rfl (Nat.le_of_ble_eq_true rfl) ?_
      rintro _ _ ⟨rfl, rfl⟩
      rw [hin]
      refine rn_if_ne (tgt := 17) dX11_coverAt_12 (by decide) (fun c12 => ?_) (fun c12 => ?_)
      · refine rn_aload_n dX11_coverAt_17 rfl ?_
        refine rn_callV dX11_coverAt_18 lmX11_235 ⟨Nat.le_of_ble_eq_true rfl, Nat.le_of_ble_eq_true rfl⟩ (cc_searchAll g f hI hV) hI.1 rfl rfl (Nat.le_of_ble_eq_true rfl) ?_
        rintro _ f1 ⟨rfl, k1, hI1⟩
        obtain ⟨hX1, hP1, -, -, -, d1, d2, -⟩ := id hI1
        obtain ⟨-, n, Z, hFn, hCV, hWK, hZ, hRW⟩ := d2 rfl
        have hn := fin_le hFn.1
        have hCX : CXw f1 (qP P) := ⟨hP1, (d1 rfl).2.1, (d1 rfl).2.2.1⟩
        refine rn_iload_n dX11_coverAt_21 rfl ?_
        refine rn_aload_n dX11_coverAt_22 rfl ?_
        refine rn_get dX11_coverAt_23 lfX11_65 hX1 rfl ?_
        refine rn_get dX11_coverAt_26 lfX11_241 hCV rfl ?_
        refine rn_icmp_lt (tgt := 37) dX11_coverAt_29 (by decide) (fun c29 => ?_) (fun c29 => ?_)
        · exact hpl f1 n Z k1 hI1 hFn hCV hWK hZ hRW ((nI_ltI hc (by omega)).mp c29)
        · refine rn_aload_n dX11_coverAt_32 rfl ?_
          refine rn_callV dX11_coverAt_33 lmX11_245 ⟨Nat.le_of_ble_eq_true rfl, Nat.le_of_ble_eq_true rfl⟩ (cc_why g f1 hX1 hCV) hX1 rfl rfl (Nat.le_of_ble_eq_true rfl) ?_
          rintro _ _ ⟨rfl, rfl⟩
          refine rn_iret dX11_coverAt_36 rfl ?_
          exact ⟨k1, ⟨_, _, _, hI1⟩, n, hFn, by rw [aAt, hqP, if_neg hx, if_neg hnin, nI_clamp hc, if_neg (fun h => c29 ((nI_ltI hc (by omega)).mpr h))]⟩
      · exact absurd c12 (by decide)
theorem cc_used (g : GG) (f : Mm) (x y : Int32) {P : PS} {H : List PS} {T : List Nat} (hI : CI f P H T) (hV : VPc P) : Ct g MX11_used [.ref 0, .int x, .int y] f 0 0 (fun r f' => (∀ j, 74 < j → f' j = f j) ∧ CI f' P H T ∧ ∃ n, FnS (qP P) n ∧ r = some (.int (aUs (qP P) n x y))) := by
  refine Ct.of ok_MX11_used (Nat.le_of_ble_eq_true rfl) ?_
  change Wp g MX11_used 0 [some (.ref 0), some (.int x), some (.int y)] [] f 0 0 _
  obtain ⟨b1, b2, b3, hI⟩ := hI
  have ha := hV.1.area
  have v8 := hV.1.2.2.2.2
  have hQ := VP.Q hV
  have hqP : (qP P).1 = P := rfl
  obtain ⟨n0, hF0⟩ := ex_fin (qP P)
  by_cases hx : x < 0
  · refine rn_iload_n dX11_used_0 rfl ?_
    refine rn_if_lt (tgt := 15) dX11_used_1 (by decide) (fun c1 => ?_) (fun c1 => ?_)
    · refine rn_iconst (v := (-1)) dX11_used_15 (by decide) ?_
      refine rn_iret dX11_used_16 rfl ?_
      exact ⟨fun _ _ => rfl, ⟨_, _, _, hI⟩, n0, hF0, by rw [aUs, if_pos hx]⟩
    · exact absurd hx c1
  obtain ⟨c, hc, rfl⟩ := nn_nI hx
  cases hin : inR y (pN P) with
  | false =>
    refine rn_iload_n dX11_used_0 rfl ?_
    refine rn_if_lt (tgt := 15) dX11_used_1 (by decide) (fun c1 => ?_) (fun c1 => ?_)
    · refine rn_iconst (v := (-1)) dX11_used_15 (by decide) ?_
      refine rn_iret dX11_used_16 rfl ?_
      exact absurd c1 hx
    · refine rn_aload_n dX11_used_4 rfl ?_
      refine rn_get dX11_used_5 lfX11_12 hI.1 rfl ?_
      refine rn_iload_n dX11_used_8 rfl ?_
      refine rn_callV dX11_used_9 lmX11_141 ⟨Nat.le_of_ble_eq_true rfl, Nat.le_of_ble_eq_true rfl⟩ (ct_hasPiece g f y hI.2.1) hI.2.1.1 rfl rfl (Nat.le_of_ble_eq_true rfl) ?_
      rintro _ _ ⟨rfl, rfl⟩
      rw [hin]
      refine rn_if_ne (tgt := 17) dX11_used_12 (by decide) (fun c12 => ?_) (fun c12 => ?_)
      · exact absurd (show bI false = 0 from rfl) c12
      · refine rn_iconst (v := (-1)) dX11_used_15 (by decide) ?_
        refine rn_iret dX11_used_16 rfl ?_
        exact ⟨fun _ _ => rfl, ⟨_, _, _, hI⟩, n0, hF0, by rw [aUs, if_neg hx, if_pos (by rw [hqP]; exact hin)]⟩
  | true =>
    obtain ⟨i, hi, rfl⟩ := (inR_iff (by omega)).mp hin
    have hnin : ¬ inR (nI i) (pN P) = false := by rw [hin]; decide
    have hpl : ∀ (f1 : Mm) (n : Nat) (Z : Nat → Int32), (∀ j, 74 < j → f1 j = f j) → CIf f1 P H T true true b3 → FnS (qP P) n → CVo f1 (qP P) n → WKv f1 (qP P) n → AR f1 69 3672 Z → RWz (qP P) n Z → c < n → Wp g MX11_used 37 [some (.ref 0), some (.int (nI c)), some (.int (nI i))] [] f1 0 0 (fun r f' => (∀ j, 74 < j → f' j = f j) ∧ CI f' P H T ∧ ∃ n, FnS (qP P) n ∧ r = some (.int (aUs (qP P) n (nI c) (nI i)))) := fun f1 n Z k1 hI1 hFn hCV hWK hZ hRW hcn => by
      obtain ⟨hX1, hP1, -, -, -, d1, -, -⟩ := id hI1
      have hCX : CXw f1 (qP P) := ⟨hP1, (d1 rfl).2.1, (d1 rfl).2.2.1⟩
      refine rn_aload_n dX11_used_37 rfl ?_
      refine rn_get dX11_used_38 lfX11_65 hX1 rfl ?_
      refine rn_iload_n dX11_used_41 rfl ?_
      refine rn_aload_n dX11_used_42 rfl ?_
      refine rn_get dX11_used_43 lfX11_65 hX1 rfl ?_
      refine rn_iload_n dX11_used_46 rfl ?_
      refine rn_iconst (v := nI 0) dX11_used_47 (by decide) ?_
      refine rn_callV dX11_used_48 lmX11_248 ⟨Nat.le_of_ble_eq_true rfl, Nat.le_of_ble_eq_true rfl⟩ (ct_crowOf g f1 (s := 0) hCV hZ hRW hWK hFn hCX hQ hcn (by decide)) hCV rfl rfl (Nat.le_of_ble_eq_true rfl) ?_
      rintro _ f2 ⟨k2, hCV2, hWK2, r0, Z2, rfl, hr0, -, hZ2, hk2, hrow⟩
      refine rn_callV dX11_used_51 lmX11_254 ⟨Nat.le_of_ble_eq_true rfl, Nat.le_of_ble_eq_true rfl⟩ (ct_usesOf g f2 (q := qP P) hCV2 hZ2 (hCX.keep (fun k a => k2 k (by omega))) hQ (sqS_end (qP P) c).1.2 hr0 (show i < 8 by omega) hrow) hCV2 rfl rfl (Nat.le_of_ble_eq_true rfl) ?_
      rintro _ _ ⟨rfl, rfl⟩
      refine rn_iret dX11_used_54 rfl ?_
      exact ⟨fun j hj => (k2 j (by omega)).trans (k1 j hj), ⟨_, _, _, hI1.srch ((k2 0 (by omega)).trans hX1) (fun j a b _ => k2 j b) ⟨n, Z2, hFn, hCV2, hWK2, hZ2, hRW.keep hk2⟩⟩, n, hFn, by rw [aUs, hqP, if_neg hx, if_neg hnin, nI_clamp hc, if_pos hcn, nI_clamp (by omega)]⟩
    refine rn_iload_n dX11_used_0 rfl ?_
    refine rn_if_lt (tgt := 15) dX11_used_1 (by decide) (fun c1 => ?_) (fun c1 => ?_)
    · exact absurd c1 hx
    · refine rn_aload_n dX11_used_4 rfl ?_
      refine rn_get dX11_used_5 lfX11_12 hI.1 rfl ?_
      refine rn_iload_n dX11_used_8 rfl ?_
      refine rn_callV dX11_used_9 lmX11_141 ⟨Nat.le_of_ble_eq_true rfl, Nat.le_of_ble_eq_true rfl⟩ (ct_hasPiece g f (nI i) hI.2.1) hI.2.1.1 rfl rfl (Nat.le_of_ble_eq_true rfl) ?_
      rintro _ _ ⟨rfl, rfl⟩
      rw [hin]
      refine rn_if_ne (tgt := 17) dX11_used_12 (by decide) (fun c12 => ?_) (fun c12 => ?_)
      · refine rn_aload_n dX11_used_17 rfl ?_
        refine rn_callV dX11_used_18 lmX11_235 ⟨Nat.le_of_ble_eq_true rfl, Nat.le_of_ble_eq_true rfl⟩ (cc_searchAll g f hI hV) hI.1 rfl rfl (Nat.le_of_ble_eq_true rfl) ?_
        rintro _ f1 ⟨rfl, k1, hI1⟩
        obtain ⟨hX1, hP1, -, -, -, d1, d2, -⟩ := id hI1
        obtain ⟨-, n, Z, hFn, hCV, hWK, hZ, hRW⟩ := d2 rfl
        have hn := fin_le hFn.1
        have hCX : CXw f1 (qP P) := ⟨hP1, (d1 rfl).2.1, (d1 rfl).2.2.1⟩
        refine rn_iload_n dX11_used_21 rfl ?_
        refine rn_aload_n dX11_used_22 rfl ?_
        refine rn_get dX11_used_23 lfX11_65 hX1 rfl ?_
        refine rn_get dX11_used_26 lfX11_241 hCV rfl ?_
        refine rn_icmp_lt (tgt := 37) dX11_used_29 (by decide) (fun c29 => ?_) (fun c29 => ?_)
        · exact hpl f1 n Z k1 hI1 hFn hCV hWK hZ hRW ((nI_ltI hc (by omega)).mp c29)
        · refine rn_aload_n dX11_used_32 rfl ?_
          refine rn_callV dX11_used_33 lmX11_245 ⟨Nat.le_of_ble_eq_true rfl, Nat.le_of_ble_eq_true rfl⟩ (cc_why g f1 hX1 hCV) hX1 rfl rfl (Nat.le_of_ble_eq_true rfl) ?_
          rintro _ _ ⟨rfl, rfl⟩
          refine rn_iret dX11_used_36 rfl ?_
          exact ⟨k1, ⟨_, _, _, hI1⟩, n, hFn, by rw [aUs, hqP, if_neg hx, if_neg hnin, nI_clamp hc, if_neg (fun h => c29 ((nI_ltI hc (by omega)).mpr h))]⟩
      · exact absurd c12 (by decide)
theorem cc_alike (g : GG) (f : Mm) (x y : Int32) {P : PS} {H : List PS} {T : List Nat} (hI : CI f P H T) (hV : VPc P) : Ct g MX11_alike [.ref 0, .int x, .int y] f 0 0 (fun r f' => (∀ j, 74 < j → f' j = f j) ∧ CI f' P H T ∧ ∃ n, FnS (qP P) n ∧ r = some (.int (aAl (qP P) n x y))) := by
  refine Ct.of ok_MX11_alike (Nat.le_of_ble_eq_true rfl) ?_
  change Wp g MX11_alike 0 [some (.ref 0), some (.int x), some (.int y)] [] f 0 0 _
  obtain ⟨b1, b2, b3, hI⟩ := hI
  have hQ := VP.Q hV
  obtain ⟨n0, hF0⟩ := ex_fin (qP P)
  by_cases hx : x < 0
  · refine rn_iload_n dX11_alike_0 rfl ?_
    refine rn_if_lt (tgt := 8) dX11_alike_1 (by decide) (fun c1 => ?_) (fun c1 => ?_)
    · refine rn_iconst (v := (-1)) dX11_alike_8 (by decide) ?_
      refine rn_iret dX11_alike_9 rfl ?_
      exact ⟨fun _ _ => rfl, ⟨_, _, _, hI⟩, n0, hF0, by rw [aAl, if_pos hx]⟩
    · exact absurd hx c1
  by_cases hy : y < 0
  · refine rn_iload_n dX11_alike_0 rfl ?_
    refine rn_if_lt (tgt := 8) dX11_alike_1 (by decide) (fun c1 => ?_) (fun c1 => ?_)
    · refine rn_iconst (v := (-1)) dX11_alike_8 (by decide) ?_
      refine rn_iret dX11_alike_9 rfl ?_
      exact absurd c1 hx
    · refine rn_iload_n dX11_alike_4 rfl ?_
      refine rn_if_ge (tgt := 10) dX11_alike_5 (by decide) (fun c5 => ?_) (fun c5 => ?_)
      · exact absurd hy (Int32.not_lt.mpr c5)
      · refine rn_iconst (v := (-1)) dX11_alike_8 (by decide) ?_
        refine rn_iret dX11_alike_9 rfl ?_
        exact ⟨fun _ _ => rfl, ⟨_, _, _, hI⟩, n0, hF0, by rw [aAl, if_neg hx, if_pos hy]⟩
  obtain ⟨c, hc, rfl⟩ := nn_nI hx
  obtain ⟨d, hd, rfl⟩ := nn_nI hy
  have hpl : ∀ (f1 : Mm) (n : Nat) (Z : Nat → Int32), (∀ j, 74 < j → f1 j = f j) → CIf f1 P H T true true b3 → FnS (qP P) n → CVo f1 (qP P) n → WKv f1 (qP P) n → AR f1 69 3672 Z → RWz (qP P) n Z → c < n → d < n → Wp g MX11_alike 41 [some (.ref 0), some (.int (nI c)), some (.int (nI d))] [] f1 0 0 (fun r f' => (∀ j, 74 < j → f' j = f j) ∧ CI f' P H T ∧ ∃ n, FnS (qP P) n ∧ r = some (.int (aAl (qP P) n (nI c) (nI d)))) := fun f1 n Z k1 hI1 hFn hCV hWK hZ hRW hcn hdn => by
    obtain ⟨hX1, hP1, -, -, -, d1, -, -⟩ := id hI1
    have hCX : CXw f1 (qP P) := ⟨hP1, (d1 rfl).2.1, (d1 rfl).2.2.1⟩
    refine rn_aload_n dX11_alike_41 rfl ?_
    refine rn_get dX11_alike_42 lfX11_65 hX1 rfl ?_
    refine rn_aload_n dX11_alike_45 rfl ?_
    refine rn_get dX11_alike_46 lfX11_65 hX1 rfl ?_
    refine rn_iload_n dX11_alike_49 rfl ?_
    refine rn_iconst (v := nI 0) dX11_alike_50 (by decide) ?_
    refine rn_callV dX11_alike_51 lmX11_248 ⟨Nat.le_of_ble_eq_true rfl, Nat.le_of_ble_eq_true rfl⟩ (ct_crowOf g f1 (s := 0) hCV hZ hRW hWK hFn hCX hQ hcn (by decide)) hCV rfl rfl (Nat.le_of_ble_eq_true rfl) ?_
    rintro _ f2 ⟨k2, hCV2, hWK2, r0, Z2, rfl, hr0, hr0', hZ2, hk2, hrow⟩
    have hCX2 := hCX.keep (fun k a => k2 k (by omega))
    refine rn_aload_n dX11_alike_54 rfl ?_
    refine rn_get dX11_alike_55 lfX11_65 ((k2 0 (by omega)).trans hX1) rfl ?_
    refine rn_iload_n dX11_alike_58 rfl ?_
    refine rn_iconst (v := nI 1) dX11_alike_59 (by decide) ?_
    refine rn_callV dX11_alike_60 lmX11_248 ⟨Nat.le_of_ble_eq_true rfl, Nat.le_of_ble_eq_true rfl⟩ (ct_crowOf g f2 (s := 1) hCV2 hZ2 (hRW.keep hk2) hWK2 hFn hCX2 hQ hdn (by decide)) hCV2 rfl rfl (Nat.le_of_ble_eq_true rfl) ?_
    rintro _ f3 ⟨k3, hCV3, hWK3, r1, Z3, rfl, hr1, -, hZ3, hk3, hrow3⟩
    have hCX3 := hCX2.keep (fun k a => k3 k (by omega))
    have hrow2 : ∀ c', c' < 36 → Z3 (r0 * 36 + c') = plA (qP P).2.1 (sqS (qP P) c).2.1 c' := fun c' h => by
      rw [hk3 _ (Or.inl (by omega))]
      exact hrow c' h
    refine rn_callV dX11_alike_63 lmX11_260 ⟨Nat.le_of_ble_eq_true rfl, Nat.le_of_ble_eq_true rfl⟩ (ct_areAlike g f3 (q := qP P) hCV3 hZ3 hCX3 hQ (VP.SZ hV) ((d1 rfl).2.2.2.keep ((k3 61 (by omega)).trans (k2 61 (by omega))) ((k3 62 (by omega)).trans (k2 62 (by omega)))) (sq_cv (hFn.1 c hcn)) (sq_cv (hFn.1 d hdn)) hr0 hr1 hrow2 hrow3) hCV3 rfl rfl (Nat.le_of_ble_eq_true rfl) ?_
    rintro _ _ ⟨rfl, b, rfl, hb⟩
    have hfin : CI f3 P H T := ⟨_, _, _, hI1.srch ((k3 0 (by omega)).trans ((k2 0 (by omega)).trans hX1)) (fun j a b _ => (k3 j b).trans (k2 j b)) ⟨n, Z3, hFn, hCV3, hWK3, hZ3, (hRW.keep hk2).keep hk3⟩⟩
    have hk : ∀ j, 74 < j → f3 j = f j := fun j hj => (k3 j (by omega)).trans ((k2 j (by omega)).trans (k1 j hj))
    refine rn_if_eq (tgt := 73) dX11_alike_66 (by decide) (fun c66 => ?_) (fun c66 => ?_)
    · refine rn_iconst (v := nI 0) dX11_alike_73 (by decide) ?_
      refine rn_iret dX11_alike_74 rfl ?_
      refine ⟨hk, hfin, n, hFn, ?_⟩
      rw [aAl, if_neg hx, if_neg hy, nI_clamp hc, nI_clamp hd, if_pos ⟨hcn, hdn⟩, if_neg (fun h => by rw [hb.mpr h] at c66; exact absurd c66 (by decide))]
      rfl
    · refine rn_iconst (v := nI 1) dX11_alike_69 (by decide) ?_
      refine rn_goto (tgt := 74) dX11_alike_70 (by decide) ?_
      refine rn_iret dX11_alike_74 rfl ?_
      refine ⟨hk, hfin, n, hFn, ?_⟩
      rw [aAl, if_neg hx, if_neg hy, nI_clamp hc, nI_clamp hd, if_pos ⟨hcn, hdn⟩, if_pos (hb.mp (bI_n0.mp c66))]
      rfl
  refine rn_iload_n dX11_alike_0 rfl ?_
  refine rn_if_lt (tgt := 8) dX11_alike_1 (by decide) (fun c1 => ?_) (fun c1 => ?_)
  · exact absurd c1 hx
  · refine rn_iload_n dX11_alike_4 rfl ?_
    refine rn_if_ge (tgt := 10) dX11_alike_5 (by decide) (fun c5 => ?_) (fun c5 => ?_)
    · refine rn_aload_n dX11_alike_10 rfl ?_
      refine rn_callV dX11_alike_11 lmX11_235 ⟨Nat.le_of_ble_eq_true rfl, Nat.le_of_ble_eq_true rfl⟩ (cc_searchAll g f hI hV) hI.1 rfl rfl (Nat.le_of_ble_eq_true rfl) ?_
      rintro _ f1 ⟨rfl, k1, hI1⟩
      obtain ⟨hX1, hP1, -, -, -, d1, d2, -⟩ := id hI1
      obtain ⟨-, n, Z, hFn, hCV, hWK, hZ, hRW⟩ := d2 rfl
      have hn := fin_le hFn.1
      have hCX : CXw f1 (qP P) := ⟨hP1, (d1 rfl).2.1, (d1 rfl).2.2.1⟩
      refine rn_iload_n dX11_alike_14 rfl ?_
      refine rn_aload_n dX11_alike_15 rfl ?_
      refine rn_get dX11_alike_16 lfX11_65 hX1 rfl ?_
      refine rn_get dX11_alike_19 lfX11_241 hCV rfl ?_
      refine rn_icmp_ge (tgt := 36) dX11_alike_22 (by decide) (fun c22 => ?_) (fun c22 => ?_)
      · refine rn_aload_n dX11_alike_36 rfl ?_
        refine rn_callV dX11_alike_37 lmX11_245 ⟨Nat.le_of_ble_eq_true rfl, Nat.le_of_ble_eq_true rfl⟩ (cc_why g f1 hX1 hCV) hX1 rfl rfl (Nat.le_of_ble_eq_true rfl) ?_
        rintro _ _ ⟨rfl, rfl⟩
        refine rn_iret dX11_alike_40 rfl ?_
        refine ⟨k1, ⟨_, _, _, hI1⟩, n, hFn, ?_⟩
        rw [aAl, if_neg hx, if_neg hy, nI_clamp hc, nI_clamp hd, if_neg (fun h => Nat.lt_irrefl _ (Nat.lt_of_lt_of_le h.1 (ge_ex c22 hc (by omega))))]
      · refine rn_iload_n dX11_alike_25 rfl ?_
        refine rn_aload_n dX11_alike_26 rfl ?_
        refine rn_get dX11_alike_27 lfX11_65 hX1 rfl ?_
        refine rn_get dX11_alike_30 lfX11_241 hCV rfl ?_
        refine rn_icmp_lt (tgt := 41) dX11_alike_33 (by decide) (fun c33 => ?_) (fun c33 => ?_)
        · exact hpl f1 n Z k1 hI1 hFn hCV hWK hZ hRW (ge_in c22 hc) ((nI_ltI hd (by omega)).mp c33)
        · refine rn_aload_n dX11_alike_36 rfl ?_
          refine rn_callV dX11_alike_37 lmX11_245 ⟨Nat.le_of_ble_eq_true rfl, Nat.le_of_ble_eq_true rfl⟩ (cc_why g f1 hX1 hCV) hX1 rfl rfl (Nat.le_of_ble_eq_true rfl) ?_
          rintro _ _ ⟨rfl, rfl⟩
          refine rn_iret dX11_alike_40 rfl ?_
          refine ⟨k1, ⟨_, _, _, hI1⟩, n, hFn, ?_⟩
          rw [aAl, if_neg hx, if_neg hy, nI_clamp hc, nI_clamp hd, if_neg (fun h => c33 ((nI_ltI hd (by omega)).mpr h.2))]
    · exact absurd (Int32.not_lt.mp hy) c5
