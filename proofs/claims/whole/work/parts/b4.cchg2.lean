theorem cc_setHoleIll (g : GG) (f : Mm) {P : PS} {H : List PS} {T : List Nat} {c o : Nat} (hI : CI f P H T) (hV : VD P) (hc : c < pW P * pH P) (ho : o ≤ 1) (hd : (pC P c = -1) ↔ o = 1) : Ct g MX11_setHole [.ref 0, .int (nI c), .int (nI o)] f 0 0 (fun r f' => f = f' ∧ r = some (.int (-2))) := by
  refine Ct.of ok_MX11_setHole (Nat.le_of_ble_eq_true rfl) ?_
  change Wp g MX11_setHole 0 [some (.ref 0), some (.int (nI c)), some (.int (nI o))] [] f 0 0 _
  obtain ⟨b1, b2, b3, hX⟩ := hI.X
  have hP := hI.P
  have ha := hV.area
  by_cases h1 : o = 1
  · subst h1
    have hh := hd.mpr rfl
    refine rn_aload_n dX11_setHole_0 rfl ?_
    refine rn_get dX11_setHole_1 lfX11_12 hX rfl ?_
    refine rn_iload_n dX11_setHole_4 rfl ?_
    refine rn_callV dX11_setHole_5 lmX11_108 ⟨Nat.le_of_ble_eq_true rfl, Nat.le_of_ble_eq_true rfl⟩ (ct_hasCell g f (nI c) hP) hP.1 rfl rfl (Nat.le_of_ble_eq_true rfl) ?_
    rintro _ _ ⟨rfl, rfl⟩
    rw [inR_nI hc (by omega)]
    refine rn_if_eq (tgt := 20) dX11_setHole_8 (by decide) (fun c8 => ?_) (fun c8 => ?_)
    · exact absurd c8 (by decide)
    · refine rn_iload_n dX11_setHole_11 rfl ?_
      refine rn_iconst (v := nI 0) dX11_setHole_12 (by decide) ?_
      refine rn_iconst (v := nI 1) dX11_setHole_13 (by decide) ?_
      refine rn_callS dX11_setHole_14 lmX11_93 ⟨Nat.le_of_ble_eq_true rfl, Nat.le_of_ble_eq_true rfl⟩ (ct_isWithin g f (nI 1) (nI 0) (nI 1)) rfl rfl (Nat.le_of_ble_eq_true rfl) ?_
      rintro _ _ ⟨rfl, rfl⟩
      rw [decide_eq_true ⟨nI_le (Nat.zero_le _) (by omega), nI_le ho (by decide)⟩]
      refine rn_if_ne (tgt := 22) dX11_setHole_17 (by decide) (fun c17 => ?_) (fun c17 => ?_)
      · refine rn_aload_n dX11_setHole_22 rfl ?_
        refine rn_get dX11_setHole_23 lfX11_12 hX rfl ?_
        refine rn_iload_n dX11_setHole_26 rfl ?_
        refine rn_callV dX11_setHole_27 lmX11_112 ⟨Nat.le_of_ble_eq_true rfl, Nat.le_of_ble_eq_true rfl⟩ (ct_isHole g f (nI c) hP) hP.1 rfl rfl (Nat.le_of_ble_eq_true rfl) ?_
        rintro _ _ ⟨rfl, rfl⟩
        rw [atf_nI (by omega) (by decide)]
        rw [decide_eq_true hh]
        refine rn_iload_n dX11_setHole_30 rfl ?_
        refine rn_iconst (v := nI 1) dX11_setHole_31 (by decide) ?_
        refine rn_icmp_ne (tgt := 39) dX11_setHole_32 (by decide) (fun c32 => ?_) (fun c32 => ?_)
        · exact absurd rfl c32
        · refine rn_iconst (v := nI 1) dX11_setHole_35 (by decide) ?_
          refine rn_goto (tgt := 40) dX11_setHole_36 (by decide) ?_
          refine rn_icmp_ne (tgt := 46) dX11_setHole_40 (by decide) (fun c40 => ?_) (fun c40 => ?_)
          · exact absurd rfl c40
          · refine rn_bipush (v := (-2)) dX11_setHole_43 (by decide) ?_
            refine rn_iret dX11_setHole_45 rfl ?_
            exact ⟨rfl, rfl⟩
      · exact absurd c17 (by decide)
  · have h0 : o = 0 := by omega
    subst h0
    have hh : ¬ pC P c = -1 := fun h => absurd (hd.mp h) (by decide)
    refine rn_aload_n dX11_setHole_0 rfl ?_
    refine rn_get dX11_setHole_1 lfX11_12 hX rfl ?_
    refine rn_iload_n dX11_setHole_4 rfl ?_
    refine rn_callV dX11_setHole_5 lmX11_108 ⟨Nat.le_of_ble_eq_true rfl, Nat.le_of_ble_eq_true rfl⟩ (ct_hasCell g f (nI c) hP) hP.1 rfl rfl (Nat.le_of_ble_eq_true rfl) ?_
    rintro _ _ ⟨rfl, rfl⟩
    rw [inR_nI hc (by omega)]
    refine rn_if_eq (tgt := 20) dX11_setHole_8 (by decide) (fun c8 => ?_) (fun c8 => ?_)
    · exact absurd c8 (by decide)
    · refine rn_iload_n dX11_setHole_11 rfl ?_
      refine rn_iconst (v := nI 0) dX11_setHole_12 (by decide) ?_
      refine rn_iconst (v := nI 1) dX11_setHole_13 (by decide) ?_
      refine rn_callS dX11_setHole_14 lmX11_93 ⟨Nat.le_of_ble_eq_true rfl, Nat.le_of_ble_eq_true rfl⟩ (ct_isWithin g f (nI 0) (nI 0) (nI 1)) rfl rfl (Nat.le_of_ble_eq_true rfl) ?_
      rintro _ _ ⟨rfl, rfl⟩
      rw [decide_eq_true ⟨nI_le (Nat.zero_le _) (by omega), nI_le ho (by decide)⟩]
      refine rn_if_ne (tgt := 22) dX11_setHole_17 (by decide) (fun c17 => ?_) (fun c17 => ?_)
      · refine rn_aload_n dX11_setHole_22 rfl ?_
        refine rn_get dX11_setHole_23 lfX11_12 hX rfl ?_
        refine rn_iload_n dX11_setHole_26 rfl ?_
        refine rn_callV dX11_setHole_27 lmX11_112 ⟨Nat.le_of_ble_eq_true rfl, Nat.le_of_ble_eq_true rfl⟩ (ct_isHole g f (nI c) hP) hP.1 rfl rfl (Nat.le_of_ble_eq_true rfl) ?_
        rintro _ _ ⟨rfl, rfl⟩
        rw [atf_nI (by omega) (by decide)]
        rw [decide_eq_false hh]
        refine rn_iload_n dX11_setHole_30 rfl ?_
        refine rn_iconst (v := nI 1) dX11_setHole_31 (by decide) ?_
        refine rn_icmp_ne (tgt := 39) dX11_setHole_32 (by decide) (fun c32 => ?_) (fun c32 => ?_)
        · refine rn_iconst (v := nI 0) dX11_setHole_39 (by decide) ?_
          refine rn_icmp_ne (tgt := 46) dX11_setHole_40 (by decide) (fun c40 => ?_) (fun c40 => ?_)
          · exact absurd rfl c40
          · refine rn_bipush (v := (-2)) dX11_setHole_43 (by decide) ?_
            refine rn_iret dX11_setHole_45 rfl ?_
            exact ⟨rfl, rfl⟩
        · exact absurd c32 (by decide)
      · exact absurd c17 (by decide)
theorem cc_setHole (g : GG) (f : Mm) {P : PS} {H : List PS} {T : List Nat} {c o : Nat} (hI : CI f P H T) (hV : VD P) (hc : c < pW P * pH P) (ho : o ≤ 1) (hd : (pC P c = -1) ↔ ¬ o = 1) : Ct g MX11_setHole [.ref 0, .int (nI c), .int (nI o)] f 0 0 (fun r f' => (∀ j, 74 < j → f' j = f j) ∧ CI f' (pCell P c (if o = 1 then -1 else 0)) (psh H P) T ∧ r = some (.int (nI (opn (upd (pC P) c (if o = 1 then -1 else 0)) (pW P * pH P))))) := by
  refine Ct.of ok_MX11_setHole (Nat.le_of_ble_eq_true rfl) ?_
  change Wp g MX11_setHole 0 [some (.ref 0), some (.int (nI c)), some (.int (nI o))] [] f 0 0 _
  obtain ⟨b1, b2, b3, hX⟩ := hI.X
  have hP := hI.P
  have ha := hV.area
  by_cases h1 : o = 1
  · subst h1
    have hh : ¬ pC P c = -1 := fun h => hd.mp h rfl
    rw [if_pos rfl]
    refine rn_aload_n dX11_setHole_0 rfl ?_
    refine rn_get dX11_setHole_1 lfX11_12 hX rfl ?_
    refine rn_iload_n dX11_setHole_4 rfl ?_
    refine rn_callV dX11_setHole_5 lmX11_108 ⟨Nat.le_of_ble_eq_true rfl, Nat.le_of_ble_eq_true rfl⟩ (ct_hasCell g f (nI c) hP) hP.1 rfl rfl (Nat.le_of_ble_eq_true rfl) ?_
    rintro _ _ ⟨rfl, rfl⟩
    rw [inR_nI hc (by omega)]
    refine rn_if_eq (tgt := 20) dX11_setHole_8 (by decide) (fun c8 => ?_) (fun c8 => ?_)
    · exact absurd c8 (by decide)
    · refine rn_iload_n dX11_setHole_11 rfl ?_
      refine rn_iconst (v := nI 0) dX11_setHole_12 (by decide) ?_
      refine rn_iconst (v := nI 1) dX11_setHole_13 (by decide) ?_
      refine rn_callS dX11_setHole_14 lmX11_93 ⟨Nat.le_of_ble_eq_true rfl, Nat.le_of_ble_eq_true rfl⟩ (ct_isWithin g f (nI 1) (nI 0) (nI 1)) rfl rfl (Nat.le_of_ble_eq_true rfl) ?_
      rintro _ _ ⟨rfl, rfl⟩
      rw [decide_eq_true ⟨nI_le (Nat.zero_le _) (by omega), nI_le ho (by decide)⟩]
      refine rn_if_ne (tgt := 22) dX11_setHole_17 (by decide) (fun c17 => ?_) (fun c17 => ?_)
      · refine rn_aload_n dX11_setHole_22 rfl ?_
        refine rn_get dX11_setHole_23 lfX11_12 hX rfl ?_
        refine rn_iload_n dX11_setHole_26 rfl ?_
        refine rn_callV dX11_setHole_27 lmX11_112 ⟨Nat.le_of_ble_eq_true rfl, Nat.le_of_ble_eq_true rfl⟩ (ct_isHole g f (nI c) hP) hP.1 rfl rfl (Nat.le_of_ble_eq_true rfl) ?_
        rintro _ _ ⟨rfl, rfl⟩
        rw [atf_nI (by omega) (by decide)]
        rw [decide_eq_false hh]
        refine rn_iload_n dX11_setHole_30 rfl ?_
        refine rn_iconst (v := nI 1) dX11_setHole_31 (by decide) ?_
        refine rn_icmp_ne (tgt := 39) dX11_setHole_32 (by decide) (fun c32 => ?_) (fun c32 => ?_)
        · exact absurd rfl c32
        · refine rn_iconst (v := nI 1) dX11_setHole_35 (by decide) ?_
          refine rn_goto (tgt := 40) dX11_setHole_36 (by decide) ?_
          refine rn_icmp_ne (tgt := 46) dX11_setHole_40 (by decide) (fun c40 => ?_) (fun c40 => ?_)
          · refine rn_aload_n dX11_setHole_46 rfl ?_
            refine rn_callV dX11_setHole_47 lmX11_97 ⟨Nat.le_of_ble_eq_true rfl, Nat.le_of_ble_eq_true rfl⟩ (cc_prep g f hI) hX rfl rfl (Nat.le_of_ble_eq_true rfl) ?_
            rintro _ f1 ⟨rfl, o1, k1, hA1, hP1⟩
            refine rn_aload_n dX11_setHole_50 rfl ?_
            refine rn_get dX11_setHole_51 lfX11_12 o1 rfl ?_
            refine rn_iload_n dX11_setHole_54 rfl ?_
            refine rn_iload_n dX11_setHole_55 rfl ?_
            refine rn_iconst (v := nI 1) dX11_setHole_56 (by decide) ?_
            refine rn_icmp_ne (tgt := 64) dX11_setHole_57 (by decide) (fun c57 => ?_) (fun c57 => ?_)
            · exact absurd rfl c57
            · refine rn_iconst (v := (-1)) dX11_setHole_60 (by decide) ?_
              refine rn_goto (tgt := 65) dX11_setHole_61 (by decide) ?_
              refine rn_callV dX11_setHole_65 lmX11_115 ⟨Nat.le_of_ble_eq_true rfl, Nat.le_of_ble_eq_true rfl⟩ (ct_putCell g f1 (-1) hP1 (show c < 36 by omega)) hP1.1 rfl rfl (Nat.le_of_ble_eq_true rfl) ?_
              rintro _ f2 ⟨rfl, hP2, k2⟩
              have hF := hI.fin o1 k1 hA1 k2 hP2
              refine rn_aload_n dX11_setHole_68 rfl ?_
              refine rn_get dX11_setHole_69 lfX11_12 ((k2 0 (by omega)).trans o1) rfl ?_
              refine rn_callV dX11_setHole_72 lmX11_118 ⟨Nat.le_of_ble_eq_true rfl, Nat.le_of_ble_eq_true rfl⟩ (ct_openCount g f2 hP2 hV) hP2.1 rfl rfl (Nat.le_of_ble_eq_true rfl) ?_
              rintro _ _ ⟨rfl, rfl⟩
              refine rn_iret dX11_setHole_75 rfl ?_
              exact ⟨hF.1, hF.2, rfl⟩
          · exact absurd c40 (by decide)
      · exact absurd c17 (by decide)
  · have h0 : o = 0 := by omega
    subst h0
    have hh : pC P c = -1 := hd.mpr h1
    rw [if_neg h1]
    refine rn_aload_n dX11_setHole_0 rfl ?_
    refine rn_get dX11_setHole_1 lfX11_12 hX rfl ?_
    refine rn_iload_n dX11_setHole_4 rfl ?_
    refine rn_callV dX11_setHole_5 lmX11_108 ⟨Nat.le_of_ble_eq_true rfl, Nat.le_of_ble_eq_true rfl⟩ (ct_hasCell g f (nI c) hP) hP.1 rfl rfl (Nat.le_of_ble_eq_true rfl) ?_
    rintro _ _ ⟨rfl, rfl⟩
    rw [inR_nI hc (by omega)]
    refine rn_if_eq (tgt := 20) dX11_setHole_8 (by decide) (fun c8 => ?_) (fun c8 => ?_)
    · exact absurd c8 (by decide)
    · refine rn_iload_n dX11_setHole_11 rfl ?_
      refine rn_iconst (v := nI 0) dX11_setHole_12 (by decide) ?_
      refine rn_iconst (v := nI 1) dX11_setHole_13 (by decide) ?_
      refine rn_callS dX11_setHole_14 lmX11_93 ⟨Nat.le_of_ble_eq_true rfl, Nat.le_of_ble_eq_true rfl⟩ (ct_isWithin g f (nI 0) (nI 0) (nI 1)) rfl rfl (Nat.le_of_ble_eq_true rfl) ?_
      rintro _ _ ⟨rfl, rfl⟩
      rw [decide_eq_true ⟨nI_le (Nat.zero_le _) (by omega), nI_le ho (by decide)⟩]
      refine rn_if_ne (tgt := 22) dX11_setHole_17 (by decide) (fun c17 => ?_) (fun c17 => ?_)
      · refine rn_aload_n dX11_setHole_22 rfl ?_
        refine rn_get dX11_setHole_23 lfX11_12 hX rfl ?_
        refine rn_iload_n dX11_setHole_26 rfl ?_
        refine rn_callV dX11_setHole_27 lmX11_112 ⟨Nat.le_of_ble_eq_true rfl, Nat.le_of_ble_eq_true rfl⟩ (ct_isHole g f (nI c) hP) hP.1 rfl rfl (Nat.le_of_ble_eq_true rfl) ?_
        rintro _ _ ⟨rfl, rfl⟩
        rw [atf_nI (by omega) (by decide)]
        rw [decide_eq_true hh]
        refine rn_iload_n dX11_setHole_30 rfl ?_
        refine rn_iconst (v := nI 1) dX11_setHole_31 (by decide) ?_
        refine rn_icmp_ne (tgt := 39) dX11_setHole_32 (by decide) (fun c32 => ?_) (fun c32 => ?_)
        · refine rn_iconst (v := nI 0) dX11_setHole_39 (by decide) ?_
          refine rn_icmp_ne (tgt := 46) dX11_setHole_40 (by decide) (fun c40 => ?_) (fun c40 => ?_)
          · refine rn_aload_n dX11_setHole_46 rfl ?_
            refine rn_callV dX11_setHole_47 lmX11_97 ⟨Nat.le_of_ble_eq_true rfl, Nat.le_of_ble_eq_true rfl⟩ (cc_prep g f hI) hX rfl rfl (Nat.le_of_ble_eq_true rfl) ?_
            rintro _ f1 ⟨rfl, o1, k1, hA1, hP1⟩
            refine rn_aload_n dX11_setHole_50 rfl ?_
            refine rn_get dX11_setHole_51 lfX11_12 o1 rfl ?_
            refine rn_iload_n dX11_setHole_54 rfl ?_
            refine rn_iload_n dX11_setHole_55 rfl ?_
            refine rn_iconst (v := nI 1) dX11_setHole_56 (by decide) ?_
            refine rn_icmp_ne (tgt := 64) dX11_setHole_57 (by decide) (fun c57 => ?_) (fun c57 => ?_)
            · refine rn_iconst (v := nI 0) dX11_setHole_64 (by decide) ?_
              refine rn_callV dX11_setHole_65 lmX11_115 ⟨Nat.le_of_ble_eq_true rfl, Nat.le_of_ble_eq_true rfl⟩ (ct_putCell g f1 0 hP1 (show c < 36 by omega)) hP1.1 rfl rfl (Nat.le_of_ble_eq_true rfl) ?_
              rintro _ f2 ⟨rfl, hP2, k2⟩
              have hF := hI.fin o1 k1 hA1 k2 hP2
              refine rn_aload_n dX11_setHole_68 rfl ?_
              refine rn_get dX11_setHole_69 lfX11_12 ((k2 0 (by omega)).trans o1) rfl ?_
              refine rn_callV dX11_setHole_72 lmX11_118 ⟨Nat.le_of_ble_eq_true rfl, Nat.le_of_ble_eq_true rfl⟩ (ct_openCount g f2 hP2 hV) hP2.1 rfl rfl (Nat.le_of_ble_eq_true rfl) ?_
              rintro _ _ ⟨rfl, rfl⟩
              refine rn_iret dX11_setHole_75 rfl ?_
              exact ⟨hF.1, hF.2, rfl⟩
            · exact absurd c57 (by decide)
          · exact absurd c40 (by decide)
        · exact absurd c32 (by decide)
      · exact absurd c17 (by decide)
theorem cc_removePieceNo (g : GG) (f : Mm) {P : PS} {H : List PS} {T : List Nat} {x : Int32} (hI : CI f P H T) (hx : inR x (pN P) = false) : Ct g MX11_removePiece [.ref 0, .int x] f 0 0 (fun r f' => f = f' ∧ r = some (.int (-1))) := by
  refine Ct.of ok_MX11_removePiece (Nat.le_of_ble_eq_true rfl) ?_
  change Wp g MX11_removePiece 0 [some (.ref 0), some (.int x)] [] f 0 0 _
  obtain ⟨b1, b2, b3, hX⟩ := hI.X
  have hP := hI.P
  refine rn_aload_n dX11_removePiece_0 rfl ?_
  refine rn_get dX11_removePiece_1 lfX11_12 hX rfl ?_
  refine rn_iload_n dX11_removePiece_4 rfl ?_
  refine rn_callV dX11_removePiece_5 lmX11_141 ⟨Nat.le_of_ble_eq_true rfl, Nat.le_of_ble_eq_true rfl⟩ (ct_hasPiece g f x hP) hP.1 rfl rfl (Nat.le_of_ble_eq_true rfl) ?_
  rintro _ _ ⟨rfl, rfl⟩
  rw [hx]
  refine rn_if_ne (tgt := 13) dX11_removePiece_8 (by decide) (fun c8 => ?_) (fun c8 => ?_)
  · exact absurd (show bI false = 0 from rfl) c8
  · refine rn_iconst (v := (-1)) dX11_removePiece_11 (by decide) ?_
    refine rn_iret dX11_removePiece_12 rfl ?_
    exact ⟨rfl, rfl⟩
theorem cc_removePiece (g : GG) (f : Mm) {P : PS} {H : List PS} {T : List Nat} {p : Nat} (hI : CI f P H T) (hV : VD P) (hp : p < pN P) : Ct g MX11_removePiece [.ref 0, .int (nI p)] f 0 0 (fun r f' => ∃ S, isDrop P p S ∧ (∀ j, 74 < j → f' j = f j) ∧ CI f' S (psh H P) T ∧ r = some (.int (nI (pN P - 1)))) := by
  refine Ct.of ok_MX11_removePiece (Nat.le_of_ble_eq_true rfl) ?_
  change Wp g MX11_removePiece 0 [some (.ref 0), some (.int (nI p))] [] f 0 0 _
  obtain ⟨b1, b2, b3, hX⟩ := hI.X
  have hP := hI.P
  have v8 := hV.2.2.2.2
  refine rn_aload_n dX11_removePiece_0 rfl ?_
  refine rn_get dX11_removePiece_1 lfX11_12 hX rfl ?_
  refine rn_iload_n dX11_removePiece_4 rfl ?_
  refine rn_callV dX11_removePiece_5 lmX11_141 ⟨Nat.le_of_ble_eq_true rfl, Nat.le_of_ble_eq_true rfl⟩ (ct_hasPiece g f (nI p) hP) hP.1 rfl rfl (Nat.le_of_ble_eq_true rfl) ?_
  rintro _ _ ⟨rfl, rfl⟩
  rw [inR_nI hp (by omega)]
  refine rn_if_ne (tgt := 13) dX11_removePiece_8 (by decide) (fun c8 => ?_) (fun c8 => ?_)
  · refine rn_aload_n dX11_removePiece_13 rfl ?_
    refine rn_callV dX11_removePiece_14 lmX11_97 ⟨Nat.le_of_ble_eq_true rfl, Nat.le_of_ble_eq_true rfl⟩ (cc_prep g f hI) hX rfl rfl (Nat.le_of_ble_eq_true rfl) ?_
    rintro _ f1 ⟨rfl, o1, k1, hA1, hP1⟩
    refine rn_aload_n dX11_removePiece_17 rfl ?_
    refine rn_get dX11_removePiece_18 lfX11_12 o1 rfl ?_
    refine rn_iload_n dX11_removePiece_21 rfl ?_
    refine rn_callV dX11_removePiece_22 lmX11_144 ⟨Nat.le_of_ble_eq_true rfl, Nat.le_of_ble_eq_true rfl⟩ (ct_dropPiece g f1 hP1 hV hp) hP1.1 rfl rfl (Nat.le_of_ble_eq_true rfl) ?_
    rintro _ f2 ⟨rfl, k2, S, hP2, hD⟩
    have hF := hI.fin o1 k1 hA1 k2 hP2
    refine rn_aload_n dX11_removePiece_25 rfl ?_
    refine rn_get dX11_removePiece_26 lfX11_12 ((k2 0 (by omega)).trans o1) rfl ?_
    refine rn_get dX11_removePiece_29 lfX11_130 hP2.1 rfl ?_
    rw [hD.2.2.2.2.1]
    refine rn_iret dX11_removePiece_32 rfl ?_
    exact ⟨S, hD, hF.1, hF.2, rfl⟩
  · exact absurd c8 (by decide)
theorem cc_undoNo (g : GG) (f : Mm) {P : PS} {T : List Nat} (hI : CI f P [] T) : Ct g MX11_undo [.ref 0] f 0 0 (fun r f' => f = f' ∧ r = some (.int (-2))) := by
  refine Ct.of ok_MX11_undo (Nat.le_of_ble_eq_true rfl) ?_
  change Wp g MX11_undo 0 [some (.ref 0)] [] f 0 0 _
  obtain ⟨b1, b2, b3, hX, hP, ⟨o, R, hH, hR⟩, -⟩ := hI
  refine rn_aload_n dX11_undo_0 rfl ?_
  refine rn_get dX11_undo_1 lfX11_19 hX rfl ?_
  refine rn_get dX11_undo_4 lfX11_181 hH.1 rfl ?_
  refine rn_if_ne (tgt := 13) dX11_undo_7 (by decide) (fun c7 => ?_) (fun c7 => ?_)
  · exact absurd (show nI ([] : List PS).length = 0 from rfl) c7
  · refine rn_bipush (v := (-2)) dX11_undo_10 (by decide) ?_
    refine rn_iret dX11_undo_12 rfl ?_
    exact ⟨rfl, rfl⟩
theorem cc_undo (g : GG) (f : Mm) {P S : PS} {H : List PS} {T : List Nat} (hI : CI f P (H ++ [S]) T) : Ct g MX11_undo [.ref 0] f 0 0 (fun r f' => (∀ j, 74 < j → f' j = f j) ∧ CI f' S H T ∧ r = some (.int (nI H.length))) := by
  refine Ct.of ok_MX11_undo (Nat.le_of_ble_eq_true rfl) ?_
  change Wp g MX11_undo 0 [some (.ref 0)] [] f 0 0 _
  obtain ⟨b1, b2, b3, hI⟩ := hI
  obtain ⟨hX, hP, ⟨o, R, hH, hR⟩, -⟩ := id hI
  have hlen : (H ++ [S]).length = H.length + 1 := by rw [List.length_append, List.length_singleton]
  rw [hlen] at hH
  have h6 := hH.2.2.2.2
  refine rn_aload_n dX11_undo_0 rfl ?_
  refine rn_get dX11_undo_1 lfX11_19 hX rfl ?_
  refine rn_get dX11_undo_4 lfX11_181 hH.1 rfl ?_
  refine rn_if_ne (tgt := 13) dX11_undo_7 (by decide) (fun c7 => ?_) (fun c7 => ?_)
  · refine rn_aload_n dX11_undo_13 rfl ?_
    refine rn_callV dX11_undo_14 lmX11_281 ⟨Nat.le_of_ble_eq_true rfl, Nat.le_of_ble_eq_true rfl⟩ (ct_forgetDerived g f hX) hX rfl rfl (Nat.le_of_ble_eq_true rfl) ?_
    rintro _ f1 ⟨rfl, o1, k1⟩
    refine rn_aload_n dX11_undo_17 rfl ?_
    refine rn_get dX11_undo_18 lfX11_19 o1 rfl ?_
    refine rn_aload_n dX11_undo_21 rfl ?_
    refine rn_get dX11_undo_22 lfX11_12 o1 rfl ?_
    refine rn_callV dX11_undo_25 lmX11_284 ⟨Nat.le_of_ble_eq_true rfl, Nat.le_of_ble_eq_true rfl⟩ (ct_restore g f1 (hH.keep (fun k a b => k1 k (by omega))) (hP.keep (fun k a b => k1 k (by omega))) (Nat.succ_pos _)) ((k1 7 (by omega)).trans hH.1) rfl rfl (Nat.le_of_ble_eq_true rfl) ?_
    rintro _ f2 ⟨rfl, k2, hP2, hH2⟩
    have o2 := (k2 0 (by omega)).trans o1
    rw [Nat.add_sub_cancel] at hP2 hH2
    rw [hR H.length S (by rw [List.getElem?_append_right (Nat.le_refl _), Nat.sub_self]; rfl)] at hP2
    refine rn_aload_n dX11_undo_28 rfl ?_
    refine rn_get dX11_undo_29 lfX11_19 o2 rfl ?_
    refine rn_get dX11_undo_32 lfX11_181 hH2.1 rfl ?_
    refine rn_iret dX11_undo_35 rfl ?_
    refine ⟨fun j hj => (k2 j (by omega)).trans (k1 j (by omega)), hI.chg o2 hP2 ⟨o, R, hH2, fun i S' hi => hR i S' ?_⟩ (fun k a b => (k2 k (by omega)).trans (k1 k (by omega))), rfl⟩
    have hl : i < H.length := by
      rcases Nat.lt_or_ge i H.length with h | h
      · exact h
      · rw [List.getElem?_eq_none h] at hi; cases hi
    rw [List.getElem?_append_left hl]
    exact hi
  · exact absurd c7 (nI_ne0 (by omega) (by omega))
