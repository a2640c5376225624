theorem cc_prep (g : GG) (f : Mm) {P : PS} {H : List PS} {T : List Nat} (hI : CI f P H T) : Ct g MX11_prepareChange [.ref 0] f 0 0 (fun r f' => r = none ∧ f' 0 = some (XE 0 0 0) ∧ (∀ k, k ≠ 0 → (k < 7 ∨ 45 ≤ k) → f' k = f k) ∧ CA f' (psh H P) ∧ PB f' 1 P) := by
  obtain ⟨b1, b2, b3, hX, hP, ⟨o, R, hH, hR⟩, -⟩ := hI
  refine Ct.mono (fun r f' h => ?_) (ct_prepareChange g f hX hH hP)
  obtain ⟨h1, h2, h3, h4⟩ := h
  exact ⟨h1, h2, h3, CA_push hR h4 hH.2.2.2.2, hP.keep (fun k a b => h3 k (by omega) (by omega))⟩
theorem CI.X {f : Mm} {P : PS} {H : List PS} {T : List Nat} (h : CI f P H T) : ∃ b1 b2 b3, f 0 = some (XE b1 b2 b3) := by
  obtain ⟨b1, b2, b3, h, -⟩ := h
  exact ⟨_, _, _, h⟩
theorem CI.P {f : Mm} {P : PS} {H : List PS} {T : List Nat} (h : CI f P H T) : PB f 1 P := by
  obtain ⟨b1, b2, b3, -, h, -⟩ := h
  exact h
theorem CI.fin {f f1 f' : Mm} {P P' : PS} {H H' : List PS} {T : List Nat} (h : CI f P H T) (hX : f1 0 = some (XE 0 0 0)) (k1 : ∀ k, k ≠ 0 → (k < 7 ∨ 45 ≤ k) → f1 k = f k) (hA : CA f1 H') (k2 : ∀ k, (k < 1 ∨ 7 ≤ k) → f' k = f1 k) (hP : PB f' 1 P') : (∀ j, 74 < j → f' j = f j) ∧ CI f' P' H' T := by
  obtain ⟨b1, b2, b3, h⟩ := h
  exact ⟨fun j hj => (k2 j (by omega)).trans (k1 j (by omega) (by omega)), h.chg ((k2 0 (by omega)).trans hX) hP (hA.keep (fun k a b => k2 k (by omega))) (fun k a b => (k2 k (by omega)).trans (k1 k (by omega) (by omega)))⟩
theorem cc_setModeNo (g : GG) (f : Mm) {P : PS} {H : List PS} {T : List Nat} {x : Int32} (hI : CI f P H T) (hx : ¬ (nI 0 ≤ x ∧ x ≤ nI 1)) : Ct g MX11_setMode [.ref 0, .int x] f 0 0 (fun r f' => f = f' ∧ r = some (.int (-1))) := by
  refine Ct.of ok_MX11_setMode (Nat.le_of_ble_eq_true rfl) ?_
  change Wp g MX11_setMode 0 [some (.ref 0), some (.int x), none] [] f 0 0 _
  refine rn_iload_n dX11_setMode_0 rfl ?_
  refine rn_iconst (v := nI 0) dX11_setMode_1 (by decide) ?_
  refine rn_iconst (v := nI 1) dX11_setMode_2 (by decide) ?_
  refine rn_callS dX11_setMode_3 lmX11_93 ⟨Nat.le_of_ble_eq_true rfl, Nat.le_of_ble_eq_true rfl⟩ (ct_isWithin g f x (nI 0) (nI 1)) rfl rfl (Nat.le_of_ble_eq_true rfl) ?_
  rintro _ _ ⟨rfl, rfl⟩
  rw [decide_eq_false hx]
  refine rn_if_ne (tgt := 11) dX11_setMode_6 (by decide) (fun c6 => ?_) (fun c6 => ?_)
  · exact absurd (show bI false = 0 from rfl) c6
  · refine rn_iconst (v := (-1)) dX11_setMode_9 (by decide) ?_
    refine rn_iret dX11_setMode_10 rfl ?_
    exact ⟨rfl, rfl⟩
theorem cc_setMode (g : GG) (f : Mm) {P : PS} {H : List PS} {T : List Nat} {m : Nat} (hI : CI f P H T) (hm : m ≤ 1) : Ct g MX11_setMode [.ref 0, .int (nI m)] f 0 0 (fun r f' => (∀ j, 74 < j → f' j = f j) ∧ CI f' (pMode P m) (psh H P) T ∧ r = some (.int (nI (pMd P)))) := by
  refine Ct.of ok_MX11_setMode (Nat.le_of_ble_eq_true rfl) ?_
  change Wp g MX11_setMode 0 [some (.ref 0), some (.int (nI m)), none] [] f 0 0 _
  obtain ⟨b1, b2, b3, hX⟩ := hI.X
  have hP := hI.P
  refine rn_iload_n dX11_setMode_0 rfl ?_
  refine rn_iconst (v := nI 0) dX11_setMode_1 (by decide) ?_
  refine rn_iconst (v := nI 1) dX11_setMode_2 (by decide) ?_
  refine rn_callS dX11_setMode_3 lmX11_93 ⟨Nat.le_of_ble_eq_true rfl, Nat.le_of_ble_eq_true rfl⟩ (ct_isWithin g f (nI m) (nI 0) (nI 1)) rfl rfl (Nat.le_of_ble_eq_true rfl) ?_
  rintro _ _ ⟨rfl, rfl⟩
  rw [decide_eq_true ⟨nI_le (Nat.zero_le _) (by omega), nI_le hm (by decide)⟩]
  refine rn_if_ne (tgt := 11) dX11_setMode_6 (by decide) (fun c6 => ?_) (fun c6 => ?_)
  · refine rn_aload_n dX11_setMode_11 rfl ?_
    refine rn_get dX11_setMode_12 lfX11_12 hX rfl ?_
    refine rn_get dX11_setMode_15 lfX11_159 hP.1 rfl ?_
    refine rn_istore_n dX11_setMode_18 (Nat.le_of_ble_eq_true rfl) rfl ?_
    refine rn_aload_n dX11_setMode_19 rfl ?_
    refine rn_callV dX11_setMode_20 lmX11_97 ⟨Nat.le_of_ble_eq_true rfl, Nat.le_of_ble_eq_true rfl⟩ (cc_prep g f hI) hX rfl rfl (Nat.le_of_ble_eq_true rfl) ?_
    rintro _ f1 ⟨rfl, o1, k1, hA1, hP1⟩
    refine rn_aload_n dX11_setMode_23 rfl ?_
    refine rn_get dX11_setMode_24 lfX11_12 o1 rfl ?_
    refine rn_iload_n dX11_setMode_27 rfl ?_
    refine rn_put dX11_setMode_28 lpX11_159 hP1.1 rfl rfl (Nat.le_of_ble_eq_true rfl) ?_
    refine Wp.gen (e := PO 1 (pMode P m)) (fun f2 k2 o2 => ?_)
    refine rn_iload_n dX11_setMode_31 rfl ?_
    refine rn_iret dX11_setMode_32 rfl ?_
    have h := hI.fin o1 k1 hA1 (fun k a => k2 k (by omega)) (P' := pMode P m) ⟨o2, hP1.2.1.keep (k2 2 (by omega)), hP1.2.2.1.keep (k2 3 (by omega)), hP1.2.2.2.1.keep (k2 4 (by omega)), hP1.2.2.2.2.1.keep (k2 5 (by omega)), hP1.2.2.2.2.2.keep (k2 6 (by omega))⟩
    exact ⟨h.1, h.2, rfl⟩
  · exact absurd c6 (by decide)
theorem cc_setRuleNo (g : GG) (f : Mm) {P : PS} {H : List PS} {T : List Nat} {x : Int32} (hI : CI f P H T) (hx : ¬ (nI 0 ≤ x ∧ x ≤ nI 1)) : Ct g MX11_setRule [.ref 0, .int x] f 0 0 (fun r f' => f = f' ∧ r = some (.int (-1))) := by
  refine Ct.of ok_MX11_setRule (Nat.le_of_ble_eq_true rfl) ?_
  change Wp g MX11_setRule 0 [some (.ref 0), some (.int x), none] [] f 0 0 _
  refine rn_iload_n dX11_setRule_0 rfl ?_
  refine rn_iconst (v := nI 0) dX11_setRule_1 (by decide) ?_
  refine rn_iconst (v := nI 1) dX11_setRule_2 (by decide) ?_
  refine rn_callS dX11_setRule_3 lmX11_93 ⟨Nat.le_of_ble_eq_true rfl, Nat.le_of_ble_eq_true rfl⟩ (ct_isWithin g f x (nI 0) (nI 1)) rfl rfl (Nat.le_of_ble_eq_true rfl) ?_
  rintro _ _ ⟨rfl, rfl⟩
  rw [decide_eq_false hx]
  refine rn_if_ne (tgt := 11) dX11_setRule_6 (by decide) (fun c6 => ?_) (fun c6 => ?_)
  · exact absurd (show bI false = 0 from rfl) c6
  · refine rn_iconst (v := (-1)) dX11_setRule_9 (by decide) ?_
    refine rn_iret dX11_setRule_10 rfl ?_
    exact ⟨rfl, rfl⟩
theorem cc_setRule (g : GG) (f : Mm) {P : PS} {H : List PS} {T : List Nat} {m : Nat} (hI : CI f P H T) (hm : m ≤ 1) : Ct g MX11_setRule [.ref 0, .int (nI m)] f 0 0 (fun r f' => (∀ j, 74 < j → f' j = f j) ∧ CI f' (pRule P m) (psh H P) T ∧ r = some (.int (nI (pRu P)))) := by
  refine Ct.of ok_MX11_setRule (Nat.le_of_ble_eq_true rfl) ?_
  change Wp g MX11_setRule 0 [some (.ref 0), some (.int (nI m)), none] [] f 0 0 _
  obtain ⟨b1, b2, b3, hX⟩ := hI.X
  have hP := hI.P
  refine rn_iload_n dX11_setRule_0 rfl ?_
  refine rn_iconst (v := nI 0) dX11_setRule_1 (by decide) ?_
  refine rn_iconst (v := nI 1) dX11_setRule_2 (by decide) ?_
  refine rn_callS dX11_setRule_3 lmX11_93 ⟨Nat.le_of_ble_eq_true rfl, Nat.le_of_ble_eq_true rfl⟩ (ct_isWithin g f (nI m) (nI 0) (nI 1)) rfl rfl (Nat.le_of_ble_eq_true rfl) ?_
  rintro _ _ ⟨rfl, rfl⟩
  rw [decide_eq_true ⟨nI_le (Nat.zero_le _) (by omega), nI_le hm (by decide)⟩]
  refine rn_if_ne (tgt := 11) dX11_setRule_6 (by decide) (fun c6 => ?_) (fun c6 => ?_)
  · refine rn_aload_n dX11_setRule_11 rfl ?_
    refine rn_get dX11_setRule_12 lfX11_12 hX rfl ?_
    refine rn_get dX11_setRule_15 lfX11_162 hP.1 rfl ?_
    refine rn_istore_n dX11_setRule_18 (Nat.le_of_ble_eq_true rfl) rfl ?_
    refine rn_aload_n dX11_setRule_19 rfl ?_
    refine rn_callV dX11_setRule_20 lmX11_97 ⟨Nat.le_of_ble_eq_true rfl, Nat.le_of_ble_eq_true rfl⟩ (cc_prep g f hI) hX rfl rfl (Nat.le_of_ble_eq_true rfl) ?_
    rintro _ f1 ⟨rfl, o1, k1, hA1, hP1⟩
    refine rn_aload_n dX11_setRule_23 rfl ?_
    refine rn_get dX11_setRule_24 lfX11_12 o1 rfl ?_
    refine rn_iload_n dX11_setRule_27 rfl ?_
    refine rn_put dX11_setRule_28 lpX11_162 hP1.1 rfl rfl (Nat.le_of_ble_eq_true rfl) ?_
    refine Wp.gen (e := PO 1 (pRule P m)) (fun f2 k2 o2 => ?_)
    refine rn_iload_n dX11_setRule_31 rfl ?_
    refine rn_iret dX11_setRule_32 rfl ?_
    have h := hI.fin o1 k1 hA1 (fun k a => k2 k (by omega)) (P' := pRule P m) ⟨o2, hP1.2.1.keep (k2 2 (by omega)), hP1.2.2.1.keep (k2 3 (by omega)), hP1.2.2.2.1.keep (k2 4 (by omega)), hP1.2.2.2.2.1.keep (k2 5 (by omega)), hP1.2.2.2.2.2.keep (k2 6 (by omega))⟩
    exact ⟨h.1, h.2, rfl⟩
  · exact absurd c6 (by decide)
theorem cc_setBoardNo (g : GG) (f : Mm) {P : PS} {H : List PS} {T : List Nat} {x y : Int32} (hI : CI f P H T) (hx : ¬ (nI 1 ≤ x ∧ x ≤ nI 6) ∨ ¬ (nI 1 ≤ y ∧ y ≤ nI 6)) : Ct g MX11_setBoard [.ref 0, .int x, .int y] f 0 0 (fun r f' => f = f' ∧ r = some (.int (-1))) := by
  refine Ct.of ok_MX11_setBoard (Nat.le_of_ble_eq_true rfl) ?_
  change Wp g MX11_setBoard 0 [some (.ref 0), some (.int x), some (.int y)] [] f 0 0 _
  by_cases h1 : nI 1 ≤ x ∧ x ≤ nI 6
  · refine rn_iload_n dX11_setBoard_0 rfl ?_
    refine rn_iconst (v := nI 1) dX11_setBoard_1 (by decide) ?_
    refine rn_bipush (v := nI 6) dX11_setBoard_2 (by decide) ?_
    refine rn_callS dX11_setBoard_4 lmX11_93 ⟨Nat.le_of_ble_eq_true rfl, Nat.le_of_ble_eq_true rfl⟩ (ct_isWithin g f x (nI 1) (nI 6)) rfl rfl (Nat.le_of_ble_eq_true rfl) ?_
    rintro _ _ ⟨rfl, rfl⟩
    rw [decide_eq_true h1]
    refine rn_if_eq (tgt := 20) dX11_setBoard_7 (by decide) (fun c7 => ?_) (fun c7 => ?_)
    · refine rn_iconst (v := (-1)) dX11_setBoard_20 (by decide) ?_
      refine rn_iret dX11_setBoard_21 rfl ?_
      exact absurd c7 (by decide)
    · refine rn_iload_n dX11_setBoard_10 rfl ?_
      refine rn_iconst (v := nI 1) dX11_setBoard_11 (by decide) ?_
      refine rn_bipush (v := nI 6) dX11_setBoard_12 (by decide) ?_
      refine rn_callS dX11_setBoard_14 lmX11_93 ⟨Nat.le_of_ble_eq_true rfl, Nat.le_of_ble_eq_true rfl⟩ (ct_isWithin g f y (nI 1) (nI 6)) rfl rfl (Nat.le_of_ble_eq_true rfl) ?_
      rintro _ _ ⟨rfl, rfl⟩
      rw [decide_eq_false (hx.resolve_left (fun h => h h1))]
      refine rn_if_ne (tgt := 22) dX11_setBoard_17 (by decide) (fun c17 => ?_) (fun c17 => ?_)
      · exact absurd (show bI false = 0 from rfl) c17
      · refine rn_iconst (v := (-1)) dX11_setBoard_20 (by decide) ?_
        refine rn_iret dX11_setBoard_21 rfl ?_
        exact ⟨rfl, rfl⟩
  · refine rn_iload_n dX11_setBoard_0 rfl ?_
    refine rn_iconst (v := nI 1) dX11_setBoard_1 (by decide) ?_
    refine rn_bipush (v := nI 6) dX11_setBoard_2 (by decide) ?_
    refine rn_callS dX11_setBoard_4 lmX11_93 ⟨Nat.le_of_ble_eq_true rfl, Nat.le_of_ble_eq_true rfl⟩ (ct_isWithin g f x (nI 1) (nI 6)) rfl rfl (Nat.le_of_ble_eq_true rfl) ?_
    rintro _ _ ⟨rfl, rfl⟩
    rw [decide_eq_false h1]
    refine rn_if_eq (tgt := 20) dX11_setBoard_7 (by decide) (fun c7 => ?_) (fun c7 => ?_)
    · refine rn_iconst (v := (-1)) dX11_setBoard_20 (by decide) ?_
      refine rn_iret dX11_setBoard_21 rfl ?_
      exact ⟨rfl, rfl⟩
    · exact absurd (show bI false = 0 from rfl) c7
theorem cc_setBoard (g : GG) (f : Mm) {P : PS} {H : List PS} {T : List Nat} {w h : Nat} (hI : CI f P H T) (w1 : 1 ≤ w) (w6 : w ≤ 6) (h1 : 1 ≤ h) (h6 : h ≤ 6) : Ct g MX11_setBoard [.ref 0, .int (nI w), .int (nI h)] f 0 0 (fun r f' => (∀ j, 74 < j → f' j = f j) ∧ CI f' (pBoard P w h) (psh H P) T ∧ r = some (.int (nI (w * h)))) := by
  refine Ct.of ok_MX11_setBoard (Nat.le_of_ble_eq_true rfl) ?_
  change Wp g MX11_setBoard 0 [some (.ref 0), some (.int (nI w)), some (.int (nI h))] [] f 0 0 _
  obtain ⟨b1, b2, b3, hX⟩ := hI.X
  have hP := hI.P
  refine rn_iload_n dX11_setBoard_0 rfl ?_
  refine rn_iconst (v := nI 1) dX11_setBoard_1 (by decide) ?_
  refine rn_bipush (v := nI 6) dX11_setBoard_2 (by decide) ?_
  refine rn_callS dX11_setBoard_4 lmX11_93 ⟨Nat.le_of_ble_eq_true rfl, Nat.le_of_ble_eq_true rfl⟩ (ct_isWithin g f (nI w) (nI 1) (nI 6)) rfl rfl (Nat.le_of_ble_eq_true rfl) ?_
  rintro _ _ ⟨rfl, rfl⟩
  rw [decide_eq_true ⟨nI_le w1 (by omega), nI_le w6 (by decide)⟩]
  refine rn_if_eq (tgt := 20) dX11_setBoard_7 (by decide) (fun c7 => ?_) (fun c7 => ?_)
  · exact absurd c7 (by decide)
  · refine rn_iload_n dX11_setBoard_10 rfl ?_
    refine rn_iconst (v := nI 1) dX11_setBoard_11 (by decide) ?_
    refine rn_bipush (v := nI 6) dX11_setBoard_12 (by decide) ?_
    refine rn_callS dX11_setBoard_14 lmX11_93 ⟨Nat.le_of_ble_eq_true rfl, Nat.le_of_ble_eq_true rfl⟩ (ct_isWithin g f (nI h) (nI 1) (nI 6)) rfl rfl (Nat.le_of_ble_eq_true rfl) ?_
    rintro _ _ ⟨rfl, rfl⟩
    rw [decide_eq_true ⟨nI_le h1 (by omega), nI_le h6 (by decide)⟩]
    refine rn_if_ne (tgt := 22) dX11_setBoard_17 (by decide) (fun c17 => ?_) (fun c17 => ?_)
    · refine rn_aload_n dX11_setBoard_22 rfl ?_
      refine rn_callV dX11_setBoard_23 lmX11_97 ⟨Nat.le_of_ble_eq_true rfl, Nat.le_of_ble_eq_true rfl⟩ (cc_prep g f hI) hX rfl rfl (Nat.le_of_ble_eq_true rfl) ?_
      rintro _ f1 ⟨rfl, o1, k1, hA1, hP1⟩
      refine rn_aload_n dX11_setBoard_26 rfl ?_
      refine rn_get dX11_setBoard_27 lfX11_12 o1 rfl ?_
      refine rn_iload_n dX11_setBoard_30 rfl ?_
      refine rn_iload_n dX11_setBoard_31 rfl ?_
      refine rn_callV dX11_setBoard_32 lmX11_100 ⟨Nat.le_of_ble_eq_true rfl, Nat.le_of_ble_eq_true rfl⟩ (ct_makeBoard g f1 w h hP1) hP1.1 rfl rfl (Nat.le_of_ble_eq_true rfl) ?_
      rintro _ f2 ⟨rfl, hP2, k2⟩
      have hF := hI.fin o1 k1 hA1 k2 hP2
      refine rn_aload_n dX11_setBoard_35 rfl ?_
      refine rn_get dX11_setBoard_36 lfX11_12 ((k2 0 (by omega)).trans o1) rfl ?_
      refine rn_callV dX11_setBoard_39 lmX11_104 ⟨Nat.le_of_ble_eq_true rfl, Nat.le_of_ble_eq_true rfl⟩ (ct_cellCount g f2 hP2) hP2.1 rfl rfl (Nat.le_of_ble_eq_true rfl) ?_
      rintro _ _ ⟨rfl, rfl⟩
      refine rn_iret dX11_setBoard_42 rfl ?_
      exact ⟨hF.1, hF.2, rfl⟩
    · exact absurd c17 (by decide)
theorem cc_setHoleNo (g : GG) (f : Mm) {P : PS} {H : List PS} {T : List Nat} {x y : Int32} (hI : CI f P H T) (hx : inR x (pW P * pH P) = false ∨ ¬ (nI 0 ≤ y ∧ y ≤ nI 1)) : Ct g MX11_setHole [.ref 0, .int x, .int y] f 0 0 (fun r f' => f = f' ∧ r = some (.int (-1))) := by
  refine Ct.of ok_MX11_setHole (Nat.le_of_ble_eq_true rfl) ?_
  change Wp g MX11_setHole 0 [some (.ref 0), some (.int x), some (.int y)] [] f 0 0 _
  obtain ⟨b1, b2, b3, hX⟩ := hI.X
  have hP := hI.P
  cases h1 : inR x (pW P * pH P) with
  | true =>
    have h2 : ¬ (nI 0 ≤ y ∧ y ≤ nI 1) := hx.resolve_left (fun h => by rw [h1] at h; cases h)
    refine rn_aload_n dX11_setHole_0 rfl ?_
    refine rn_get dX11_setHole_1 lfX11_12 hX rfl ?_
    refine rn_iload_n dX11_setHole_4 rfl ?_
    refine rn_callV dX11_setHole_5 lmX11_108 ⟨Nat.le_of_ble_eq_true rfl, Nat.le_of_ble_eq_true rfl⟩ (ct_hasCell g f x hP) hP.1 rfl rfl (Nat.le_of_ble_eq_true rfl) ?_
    rintro _ _ ⟨rfl, rfl⟩
    rw [h1]
    refine rn_if_eq (tgt := 20) dX11_setHole_8 (by decide) (fun c8 => ?_) (fun c8 => ?_)
    · refine rn_iconst (v := (-1)) dX11_setHole_20 (by decide) ?_
      refine rn_iret dX11_setHole_21 rfl ?_
      exact absurd c8 (by decide)
    · refine rn_iload_n dX11_setHole_11 rfl ?_
      refine rn_iconst (v := nI 0) dX11_setHole_12 (by decide) ?_
      refine rn_iconst (v := nI 1) dX11_setHole_13 (by decide) ?_
      refine rn_callS dX11_setHole_14 lmX11_93 ⟨Nat.le_of_ble_eq_true rfl, Nat.le_of_ble_eq_true rfl⟩ (ct_isWithin g f y (nI 0) (nI 1)) rfl rfl (Nat.le_of_ble_eq_true rfl) ?_
      rintro _ _ ⟨rfl, rfl⟩
      rw [decide_eq_false h2]
      refine rn_if_ne (tgt := 22) dX11_setHole_17 (by decide) (fun c17 => ?_) (fun c17 => ?_)
      · exact absurd (show bI false = 0 from rfl) c17
      · refine rn_iconst (v := (-1)) dX11_setHole_20 (by decide) ?_
        refine rn_iret dX11_setHole_21 rfl ?_
        exact ⟨rfl, rfl⟩
  | false =>
    refine rn_aload_n dX11_setHole_0 rfl ?_
    refine rn_get dX11_setHole_1 lfX11_12 hX rfl ?_
    refine rn_iload_n dX11_setHole_4 rfl ?_
    refine rn_callV dX11_setHole_5 lmX11_108 ⟨Nat.le_of_ble_eq_true rfl, Nat.le_of_ble_eq_true rfl⟩ (ct_hasCell g f x hP) hP.1 rfl rfl (Nat.le_of_ble_eq_true rfl) ?_
    rintro _ _ ⟨rfl, rfl⟩
    rw [h1]
    refine rn_if_eq (tgt := 20) dX11_setHole_8 (by decide) (fun c8 => ?_) (fun c8 => ?_)
    · refine rn_iconst (v := (-1)) dX11_setHole_20 (by decide) ?_
      refine rn_iret dX11_setHole_21 rfl ?_
      exact ⟨rfl, rfl⟩
    · exact absurd (show bI false = 0 from rfl) c8
theorem cc_setColourNo (g : GG) (f : Mm) {P : PS} {H : List PS} {T : List Nat} {x y : Int32} (hI : CI f P H T) (hx : inR x (pW P * pH P) = false ∨ ¬ (nI 0 ≤ y ∧ y ≤ nI 3)) : Ct g MX11_setColour [.ref 0, .int x, .int y] f 0 0 (fun r f' => f = f' ∧ r = some (.int (-1))) := by
  refine Ct.of ok_MX11_setColour (Nat.le_of_ble_eq_true rfl) ?_
  change Wp g MX11_setColour 0 [some (.ref 0), some (.int x), some (.int y), none] [] f 0 0 _
  obtain ⟨b1, b2, b3, hX⟩ := hI.X
  have hP := hI.P
  cases h1 : inR x (pW P * pH P) with
  | true =>
    have h2 : ¬ (nI 0 ≤ y ∧ y ≤ nI 3) := hx.resolve_left (fun h => by rw [h1] at h; cases h)
    refine rn_aload_n dX11_setColour_0 rfl ?_
    refine rn_get dX11_setColour_1 lfX11_12 hX rfl ?_
    refine rn_iload_n dX11_setColour_4 rfl ?_
    refine rn_callV dX11_setColour_5 lmX11_108 ⟨Nat.le_of_ble_eq_true rfl, Nat.le_of_ble_eq_true rfl⟩ (ct_hasCell g f x hP) hP.1 rfl rfl (Nat.le_of_ble_eq_true rfl) ?_
    rintro _ _ ⟨rfl, rfl⟩
    rw [h1]
    refine rn_if_eq (tgt := 20) dX11_setColour_8 (by decide) (fun c8 => ?_) (fun c8 => ?_)
    · refine rn_iconst (v := (-1)) dX11_setColour_20 (by decide) ?_
      refine rn_iret dX11_setColour_21 rfl ?_
      exact absurd c8 (by decide)
    · refine rn_iload_n dX11_setColour_11 rfl ?_
      refine rn_iconst (v := nI 0) dX11_setColour_12 (by decide) ?_
      refine rn_iconst (v := nI 3) dX11_setColour_13 (by decide) ?_
      refine rn_callS dX11_setColour_14 lmX11_93 ⟨Nat.le_of_ble_eq_true rfl, Nat.le_of_ble_eq_true rfl⟩ (ct_isWithin g f y (nI 0) (nI 3)) rfl rfl (Nat.le_of_ble_eq_true rfl) ?_
      rintro _ _ ⟨rfl, rfl⟩
      rw [decide_eq_false h2]
      refine rn_if_ne (tgt := 22) dX11_setColour_17 (by decide) (fun c17 => ?_) (fun c17 => ?_)
      · exact absurd (show bI false = 0 from rfl) c17
      · refine rn_iconst (v := (-1)) dX11_setColour_20 (by decide) ?_
        refine rn_iret dX11_setColour_21 rfl ?_
        exact ⟨rfl, rfl⟩
  | false =>
    refine rn_aload_n dX11_setColour_0 rfl ?_
    refine rn_get dX11_setColour_1 lfX11_12 hX rfl ?_
    refine rn_iload_n dX11_setColour_4 rfl ?_
    refine rn_callV dX11_setColour_5 lmX11_108 ⟨Nat.le_of_ble_eq_true rfl, Nat.le_of_ble_eq_true rfl⟩ (ct_hasCell g f x hP) hP.1 rfl rfl (Nat.le_of_ble_eq_true rfl) ?_
    rintro _ _ ⟨rfl, rfl⟩
    rw [h1]
    refine rn_if_eq (tgt := 20) dX11_setColour_8 (by decide) (fun c8 => ?_) (fun c8 => ?_)
    · refine rn_iconst (v := (-1)) dX11_setColour_20 (by decide) ?_
      refine rn_iret dX11_setColour_21 rfl ?_
      exact ⟨rfl, rfl⟩
    · exact absurd (show bI false = 0 from rfl) c8
theorem cc_setCopiesNo (g : GG) (f : Mm) {P : PS} {H : List PS} {T : List Nat} {x y : Int32} (hI : CI f P H T) (hx : inR x (pN P) = false ∨ ¬ (nI 1 ≤ y ∧ y ≤ nI 9)) : Ct g MX11_setCopies [.ref 0, .int x, .int y] f 0 0 (fun r f' => f = f' ∧ r = some (.int (-1))) := by
  refine Ct.of ok_MX11_setCopies (Nat.le_of_ble_eq_true rfl) ?_
  change Wp g MX11_setCopies 0 [some (.ref 0), some (.int x), some (.int y), none] [] f 0 0 _
  obtain ⟨b1, b2, b3, hX⟩ := hI.X
  have hP := hI.P
  cases h1 : inR x (pN P) with
  | true =>
    have h2 : ¬ (nI 1 ≤ y ∧ y ≤ nI 9) := hx.resolve_left (fun h => by rw [h1] at h; cases h)
    refine rn_aload_n dX11_setCopies_0 rfl ?_
    refine rn_get dX11_setCopies_1 lfX11_12 hX rfl ?_
    refine rn_iload_n dX11_setCopies_4 rfl ?_
    refine rn_callV dX11_setCopies_5 lmX11_141 ⟨Nat.le_of_ble_eq_true rfl, Nat.le_of_ble_eq_true rfl⟩ (ct_hasPiece g f x hP) hP.1 rfl rfl (Nat.le_of_ble_eq_true rfl) ?_
    rintro _ _ ⟨rfl, rfl⟩
    rw [h1]
    refine rn_if_eq (tgt := 21) dX11_setCopies_8 (by decide) (fun c8 => ?_) (fun c8 => ?_)
    · refine rn_iconst (v := (-1)) dX11_setCopies_21 (by decide) ?_
      refine rn_iret dX11_setCopies_22 rfl ?_
      exact absurd c8 (by decide)
    · refine rn_iload_n dX11_setCopies_11 rfl ?_
      refine rn_iconst (v := nI 1) dX11_setCopies_12 (by decide) ?_
      refine rn_bipush (v := nI 9) dX11_setCopies_13 (by decide) ?_
      refine rn_callS dX11_setCopies_15 lmX11_93 ⟨Nat.le_of_ble_eq_true rfl, Nat.le_of_ble_eq_true rfl⟩ (ct_isWithin g f y (nI 1) (nI 9)) rfl rfl (Nat.le_of_ble_eq_true rfl) ?_
      rintro _ _ ⟨rfl, rfl⟩
      rw [decide_eq_false h2]
      refine rn_if_ne (tgt := 23) dX11_setCopies_18 (by decide) (fun c18 => ?_) (fun c18 => ?_)
      · exact absurd (show bI false = 0 from rfl) c18
      · refine rn_iconst (v := (-1)) dX11_setCopies_21 (by decide) ?_
        refine rn_iret dX11_setCopies_22 rfl ?_
        exact ⟨rfl, rfl⟩
  | false =>
    refine rn_aload_n dX11_setCopies_0 rfl ?_
    refine rn_get dX11_setCopies_1 lfX11_12 hX rfl ?_
    refine rn_iload_n dX11_setCopies_4 rfl ?_
    refine rn_callV dX11_setCopies_5 lmX11_141 ⟨Nat.le_of_ble_eq_true rfl, Nat.le_of_ble_eq_true rfl⟩ (ct_hasPiece g f x hP) hP.1 rfl rfl (Nat.le_of_ble_eq_true rfl) ?_
    rintro _ _ ⟨rfl, rfl⟩
    rw [h1]
    refine rn_if_eq (tgt := 21) dX11_setCopies_8 (by decide) (fun c8 => ?_) (fun c8 => ?_)
    · refine rn_iconst (v := (-1)) dX11_setCopies_21 (by decide) ?_
      refine rn_iret dX11_setCopies_22 rfl ?_
      exact ⟨rfl, rfl⟩
    · exact absurd (show bI false = 0 from rfl) c8
theorem cc_setCopies (g : GG) (f : Mm) {P : PS} {H : List PS} {T : List Nat} {p k : Nat} (hI : CI f P H T) (hV : VD P) (hp : p < pN P) (h1 : 1 ≤ k) (h9 : k ≤ 9) : Ct g MX11_setCopies [.ref 0, .int (nI p), .int (nI k)] f 0 0 (fun r f' => (∀ j, 74 < j → f' j = f j) ∧ CI f' (pCop P p (nI k)) (psh H P) T ∧ r = some (.int (pX P p))) := by
  refine Ct.of ok_MX11_setCopies (Nat.le_of_ble_eq_true rfl) ?_
  change Wp g MX11_setCopies 0 [some (.ref 0), some (.int (nI p)), some (.int (nI k)), none] [] f 0 0 _
  obtain ⟨b1, b2, b3, hX⟩ := hI.X
  have hP := hI.P
  have v8 := hV.2.2.2.2
  refine rn_aload_n dX11_setCopies_0 rfl ?_
  refine rn_get dX11_setCopies_1 lfX11_12 hX rfl ?_
  refine rn_iload_n dX11_setCopies_4 rfl ?_
  refine rn_callV dX11_setCopies_5 lmX11_141 ⟨Nat.le_of_ble_eq_true rfl, Nat.le_of_ble_eq_true rfl⟩ (ct_hasPiece g f (nI p) hP) hP.1 rfl rfl (Nat.le_of_ble_eq_true rfl) ?_
  rintro _ _ ⟨rfl, rfl⟩
  rw [inR_nI hp (by omega)]
  refine rn_if_eq (tgt := 21) dX11_setCopies_8 (by decide) (fun c8 => ?_) (fun c8 => ?_)
  · exact absurd c8 (by decide)
  · refine rn_iload_n dX11_setCopies_11 rfl ?_
    refine rn_iconst (v := nI 1) dX11_setCopies_12 (by decide) ?_
    refine rn_bipush (v := nI 9) dX11_setCopies_13 (by decide) ?_
    refine rn_callS dX11_setCopies_15 lmX11_93 ⟨Nat.le_of_ble_eq_true rfl, Nat.le_of_ble_eq_true rfl⟩ (ct_isWithin g f (nI k) (nI 1) (nI 9)) rfl rfl (Nat.le_of_ble_eq_true rfl) ?_
    rintro _ _ ⟨rfl, rfl⟩
    rw [decide_eq_true ⟨nI_le h1 (by omega), nI_le h9 (by decide)⟩]
    refine rn_if_ne (tgt := 23) dX11_setCopies_18 (by decide) (fun c18 => ?_) (fun c18 => ?_)
    · refine rn_aload_n dX11_setCopies_23 rfl ?_
      refine rn_get dX11_setCopies_24 lfX11_12 hX rfl ?_
      refine rn_iload_n dX11_setCopies_27 rfl ?_
      refine rn_callV dX11_setCopies_28 lmX11_148 ⟨Nat.le_of_ble_eq_true rfl, Nat.le_of_ble_eq_true rfl⟩ (ct_copiesOf g f (nI p) hP) hP.1 rfl rfl (Nat.le_of_ble_eq_true rfl) ?_
      rintro _ _ ⟨rfl, rfl⟩
      rw [atf_nI (by omega) (by decide)]
      refine rn_istore_n dX11_setCopies_31 (Nat.le_of_ble_eq_true rfl) rfl ?_
      refine rn_aload_n dX11_setCopies_32 rfl ?_
      refine rn_callV dX11_setCopies_33 lmX11_97 ⟨Nat.le_of_ble_eq_true rfl, Nat.le_of_ble_eq_true rfl⟩ (cc_prep g f hI) hX rfl rfl (Nat.le_of_ble_eq_true rfl) ?_
      rintro _ f1 ⟨rfl, o1, k1, hA1, hP1⟩
      refine rn_aload_n dX11_setCopies_36 rfl ?_
      refine rn_get dX11_setCopies_37 lfX11_12 o1 rfl ?_
      refine rn_get dX11_setCopies_40 lfX11_151 hP1.1 rfl ?_
      refine rn_iload_n dX11_setCopies_43 rfl ?_
      refine rn_iload_n dX11_setCopies_44 rfl ?_
      refine rn_callS dX11_setCopies_45 lmX11_155 ⟨Nat.le_of_ble_eq_true rfl, Nat.le_of_ble_eq_true rfl⟩ (ct_put g f1 (nI p) (nI k) (by decide) hP1.2.2.2.2.2) rfl rfl (Nat.le_of_ble_eq_true rfl) ?_
      rintro _ f2 ⟨rfl, hA2, k2⟩
      rw [ptf_nI (by omega) (by decide)] at hA2
      have hF := hI.fin o1 k1 hA1 (fun j a => k2 j (by omega)) (P' := pCop P p (nI k)) ⟨(k2 1 (by omega)).trans hP1.1, hP1.2.1.keep (k2 2 (by omega)), hP1.2.2.1.keep (k2 3 (by omega)), hP1.2.2.2.1.keep (k2 4 (by omega)), hP1.2.2.2.2.1.keep (k2 5 (by omega)), hA2⟩
      refine rn_iload_n dX11_setCopies_48 rfl ?_
      refine rn_iret dX11_setCopies_49 rfl ?_
      exact ⟨hF.1, hF.2, rfl⟩
    · exact absurd c18 (by decide)
theorem cc_setColour (g : GG) (f : Mm) {P : PS} {H : List PS} {T : List Nat} {c o : Nat} (hI : CI f P H T) (hV : VD P) (hc : c < pW P * pH P) (ho : o ≤ 3) (hd : ¬ pC P c = -1) : Ct g MX11_setColour [.ref 0, .int (nI c), .int (nI o)] f 0 0 (fun r f' => (∀ j, 74 < j → f' j = f j) ∧ CI f' (pCell P c (nI o)) (psh H P) T ∧ r = some (.int (pC P c))) := by
  refine Ct.of ok_MX11_setColour (Nat.le_of_ble_eq_true rfl) ?_
  change Wp g MX11_setColour 0 [some (.ref 0), some (.int (nI c)), some (.int (nI o)), none] [] f 0 0 _
  obtain ⟨b1, b2, b3, hX⟩ := hI.X
  have hP := hI.P
  have ha := hV.area
  refine rn_aload_n dX11_setColour_0 rfl ?_
  refine rn_get dX11_setColour_1 lfX11_12 hX rfl ?_
  refine rn_iload_n dX11_setColour_4 rfl ?_
  refine rn_callV dX11_setColour_5 lmX11_108 ⟨Nat.le_of_ble_eq_true rfl, Nat.le_of_ble_eq_true rfl⟩ (ct_hasCell g f (nI c) hP) hP.1 rfl rfl (Nat.le_of_ble_eq_true rfl) ?_
  rintro _ _ ⟨rfl, rfl⟩
  rw [inR_nI hc (by omega)]
  refine rn_if_eq (tgt := 20) dX11_setColour_8 (by decide) (fun c8 => ?_) (fun c8 => ?_)
  · exact absurd c8 (by decide)
  · refine rn_iload_n dX11_setColour_11 rfl ?_
    refine rn_iconst (v := nI 0) dX11_setColour_12 (by decide) ?_
    refine rn_iconst (v := nI 3) dX11_setColour_13 (by decide) ?_
    refine rn_callS dX11_setColour_14 lmX11_93 ⟨Nat.le_of_ble_eq_true rfl, Nat.le_of_ble_eq_true rfl⟩ (ct_isWithin g f (nI o) (nI 0) (nI 3)) rfl rfl (Nat.le_of_ble_eq_true rfl) ?_
    rintro _ _ ⟨rfl, rfl⟩
    rw [decide_eq_true ⟨nI_le (Nat.zero_le _) (by omega), nI_le ho (by decide)⟩]
    refine rn_if_ne (tgt := 22) dX11_setColour_17 (by decide) (fun c17 => ?_) (fun c17 => ?_)
    · refine rn_aload_n dX11_setColour_22 rfl ?_
      refine rn_get dX11_setColour_23 lfX11_12 hX rfl ?_
      refine rn_iload_n dX11_setColour_26 rfl ?_
      refine rn_callV dX11_setColour_27 lmX11_112 ⟨Nat.le_of_ble_eq_true rfl, Nat.le_of_ble_eq_true rfl⟩ (ct_isHole g f (nI c) hP) hP.1 rfl rfl (Nat.le_of_ble_eq_true rfl) ?_
      rintro _ _ ⟨rfl, rfl⟩
      rw [atf_nI (by omega) (by decide), decide_eq_false hd]
      refine rn_if_eq (tgt := 36) dX11_setColour_30 (by decide) (fun c30 => ?_) (fun c30 => ?_)
      · refine rn_aload_n dX11_setColour_36 rfl ?_
        refine rn_get dX11_setColour_37 lfX11_12 hX rfl ?_
        refine rn_iload_n dX11_setColour_40 rfl ?_
        refine rn_callV dX11_setColour_41 lmX11_121 ⟨Nat.le_of_ble_eq_true rfl, Nat.le_of_ble_eq_true rfl⟩ (ct_cellAt g f (nI c) hP) hP.1 rfl rfl (Nat.le_of_ble_eq_true rfl) ?_
        rintro _ _ ⟨rfl, rfl⟩
        rw [atf_nI (by omega) (by decide)]
        refine rn_istore_n dX11_setColour_44 (Nat.le_of_ble_eq_true rfl) rfl ?_
        refine rn_aload_n dX11_setColour_45 rfl ?_
        refine rn_callV dX11_setColour_46 lmX11_97 ⟨Nat.le_of_ble_eq_true rfl, Nat.le_of_ble_eq_true rfl⟩ (cc_prep g f hI) hX rfl rfl (Nat.le_of_ble_eq_true rfl) ?_
        rintro _ f1 ⟨rfl, o1, k1, hA1, hP1⟩
        refine rn_aload_n dX11_setColour_49 rfl ?_
        refine rn_get dX11_setColour_50 lfX11_12 o1 rfl ?_
        refine rn_iload_n dX11_setColour_53 rfl ?_
        refine rn_iload_n dX11_setColour_54 rfl ?_
        refine rn_callV dX11_setColour_55 lmX11_115 ⟨Nat.le_of_ble_eq_true rfl, Nat.le_of_ble_eq_true rfl⟩ (ct_putCell g f1 (nI o) hP1 (show c < 36 by omega)) hP1.1 rfl rfl (Nat.le_of_ble_eq_true rfl) ?_
        rintro _ f2 ⟨rfl, hP2, k2⟩
        have hF := hI.fin o1 k1 hA1 k2 hP2
        refine rn_iload_n dX11_setColour_58 rfl ?_
        refine rn_iret dX11_setColour_59 rfl ?_
        exact ⟨hF.1, hF.2, rfl⟩
      · exact absurd (show bI false = 0 from rfl) c30
    · exact absurd c17 (by decide)
theorem cc_setColourIll (g : GG) (f : Mm) {P : PS} {H : List PS} {T : List Nat} {c o : Nat} (hI : CI f P H T) (hV : VD P) (hc : c < pW P * pH P) (ho : o ≤ 3) (hd : pC P c = -1) : Ct g MX11_setColour [.ref 0, .int (nI c), .int (nI o)] f 0 0 (fun r f' => f = f' ∧ r = some (.int (-2))) := by
  refine Ct.of ok_MX11_setColour (Nat.le_of_ble_eq_true rfl) ?_
  change Wp g MX11_setColour 0 [some (.ref 0), some (.int (nI c)), some (.int (nI o)), none] [] f 0 0 _
  obtain ⟨b1, b2, b3, hX⟩ := hI.X
  have hP := hI.P
  have ha := hV.area
  refine rn_aload_n dX11_setColour_0 rfl ?_
  refine rn_get dX11_setColour_1 lfX11_12 hX rfl ?_
  refine rn_iload_n dX11_setColour_4 rfl ?_
  refine rn_callV dX11_setColour_5 lmX11_108 ⟨Nat.le_of_ble_eq_true rfl, Nat.le_of_ble_eq_true rfl⟩ (ct_hasCell g f (nI c) hP) hP.1 rfl rfl (Nat.le_of_ble_eq_true rfl) ?_
  rintro _ _ ⟨rfl, rfl⟩
  rw [inR_nI hc (by omega)]
  refine rn_if_eq (tgt := 20) dX11_setColour_8 (by decide) (fun c8 => ?_) (fun c8 => ?_)
  · exact absurd c8 (by decide)
  · refine rn_iload_n dX11_setColour_11 rfl ?_
    refine rn_iconst (v := nI 0) dX11_setColour_12 (by decide) ?_
    refine rn_iconst (v := nI 3) dX11_setColour_13 (by decide) ?_
    refine rn_callS dX11_setColour_14 lmX11_93 ⟨Nat.le_of_ble_eq_true rfl, Nat.le_of_ble_eq_true rfl⟩ (ct_isWithin g f (nI o) (nI 0) (nI 3)) rfl rfl (Nat.le_of_ble_eq_true rfl) ?_
    rintro _ _ ⟨rfl, rfl⟩
    rw [decide_eq_true ⟨nI_le (Nat.zero_le _) (by omega), nI_le ho (by decide)⟩]
    refine rn_if_ne (tgt := 22) dX11_setColour_17 (by decide) (fun c17 => ?_) (fun c17 => ?_)
    · refine rn_aload_n dX11_setColour_22 rfl ?_
      refine rn_get dX11_setColour_23 lfX11_12 hX rfl ?_
      refine rn_iload_n dX11_setColour_26 rfl ?_
      refine rn_callV dX11_setColour_27 lmX11_112 ⟨Nat.le_of_ble_eq_true rfl, Nat.le_of_ble_eq_true rfl⟩ (ct_isHole g f (nI c) hP) hP.1 rfl rfl (Nat.le_of_ble_eq_true rfl) ?_
      rintro _ _ ⟨rfl, rfl⟩
      rw [atf_nI (by omega) (by decide), decide_eq_true hd]
      refine rn_if_eq (tgt := 36) dX11_setColour_30 (by decide) (fun c30 => ?_) (fun c30 => ?_)
      · exact absurd c30 (by decide)
      · refine rn_bipush (v := (-2)) dX11_setColour_33 (by decide) ?_
        refine rn_iret dX11_setColour_35 rfl ?_
        exact ⟨rfl, rfl⟩
    · exact absurd c17 (by decide)
