theorem ct_putCell (g : GG) (f : Mm) {h i : Nat} {P : PS} (x : Int32) (hP : PB f h P) (hi : i < 36) : Ct g MX4_putCell [.ref h, .int (nI i), .int x] f 0 0 (fun r f' => r = none ∧ PB f' h (pW P, pH P, pMd P, pRu P, pN P, upd (pC P) i x, P.2.2.2.2.2.2) ∧ FR f f' h 6) := by
  refine Ct.of ok_MX4_putCell (Nat.le_of_ble_eq_true rfl) ?_
  change Wp g MX4_putCell 0 [some (.ref h), some (.int (nI i)), some (.int x)] [] f 0 0 _
  refine rn_aload_n dX4_putCell_0 rfl ?_
  refine rn_get dX4_putCell_1 lfX4_27 hP.1 rfl ?_
  refine rn_iload_n dX4_putCell_4 rfl ?_
  refine rn_iload_n dX4_putCell_5 rfl ?_
  refine rn_callS dX4_putCell_6 lmX4_51 ⟨Nat.le_of_ble_eq_true rfl, Nat.le_of_ble_eq_true rfl⟩ (ct_put g f (nI i) x (by decide) hP.2.1) rfl rfl (Nat.le_of_ble_eq_true rfl) ?_
  rintro _ f1 ⟨rfl, a1, k1⟩
  rw [ptf_nI hi (by decide)] at a1
  refine rn_vret dX4_putCell_9 rfl ?_
  exact ⟨rfl, ⟨(k1 _ (by omega)).trans hP.1, a1, hP.2.2.1.keep (k1 _ (by omega)), hP.2.2.2.1.keep (k1 _ (by omega)), hP.2.2.2.2.1.keep (k1 _ (by omega)), hP.2.2.2.2.2.keep (k1 _ (by omega))⟩, FR.rf.one (by omega) (by omega) k1⟩
theorem ct_append (g : GG) (f : Mm) {h : Nat} {P : PS} (s0 s1 s2 s3 : Int32) (hP : PB f h P) (hn : pN P < 8) : Ct g MX4_append [.ref h, .int s0, .int s1, .int s2, .int s3] f 0 0 (fun r f' => r = none ∧ PB f' h (pW P, pH P, pMd P, pRu P, pN P + 1, pC P, upd (pS P) (pN P) s0, upd (pF P) (pN P) s1, upd (pK P) (pN P) s2, upd (pX P) (pN P) s3) ∧ FR f f' h 6) := by
  refine Ct.of ok_MX4_append (Nat.le_of_ble_eq_true rfl) ?_
  change Wp g MX4_append 0 [some (.ref h), some (.int s0), some (.int s1), some (.int s2), some (.int s3)] [] f 0 0 _
  refine rn_aload_n dX4_append_0 rfl ?_
  refine rn_get dX4_append_1 lfX4_24 hP.1 rfl ?_
  refine rn_bipush (v := nI 8) dX4_append_4 (by decide) ?_
  refine rn_icmp_ge (tgt := 68) dX4_append_6 (by decide) (fun c6 => ?_) (fun c6 => ?_)
  · refine rn_vret dX4_append_68 rfl ?_
    have hnn := ge_ex c6 (by omega) (by omega)
    exact absurd hnn (by omega)
  · have hnn := ge_in c6 (by omega)
    refine rn_aload_n dX4_append_9 rfl ?_
    refine rn_get dX4_append_10 lfX4_31 hP.1 rfl ?_
    refine rn_aload_n dX4_append_13 rfl ?_
    refine rn_get dX4_append_14 lfX4_24 hP.1 rfl ?_
    refine rn_iload_n dX4_append_17 rfl ?_
    refine rn_callS dX4_append_18 lmX4_51 ⟨Nat.le_of_ble_eq_true rfl, Nat.le_of_ble_eq_true rfl⟩ (ct_put g f (nI (pN P)) s0 (by decide) hP.2.2.1) rfl rfl (Nat.le_of_ble_eq_true rfl) ?_
    rintro _ f1 ⟨rfl, a1, k1⟩
    rw [ptf_nI hn (by decide)] at a1
    have o1 := (k1 _ (by omega)).trans hP.1
    refine rn_aload_n dX4_append_21 rfl ?_
    refine rn_get dX4_append_22 lfX4_34 o1 rfl ?_
    refine rn_aload_n dX4_append_25 rfl ?_
    refine rn_get dX4_append_26 lfX4_24 o1 rfl ?_
    refine rn_iload_n dX4_append_29 rfl ?_
    refine rn_callS dX4_append_30 lmX4_51 ⟨Nat.le_of_ble_eq_true rfl, Nat.le_of_ble_eq_true rfl⟩ (ct_put g f1 (nI (pN P)) s1 (by decide) (hP.2.2.2.1.keep (k1 _ (by omega)))) rfl rfl (Nat.le_of_ble_eq_true rfl) ?_
    rintro _ f2 ⟨rfl, a2, k2⟩
    rw [ptf_nI hn (by decide)] at a2
    have o2 := (k2 _ (by omega)).trans o1
    refine rn_aload_n dX4_append_33 rfl ?_
    refine rn_get dX4_append_34 lfX4_37 o2 rfl ?_
    refine rn_aload_n dX4_append_37 rfl ?_
    refine rn_get dX4_append_38 lfX4_24 o2 rfl ?_
    refine rn_iload_n dX4_append_41 rfl ?_
    refine rn_callS dX4_append_42 lmX4_51 ⟨Nat.le_of_ble_eq_true rfl, Nat.le_of_ble_eq_true rfl⟩ (ct_put g f2 (nI (pN P)) s2 (by decide) (hP.2.2.2.2.1.keep ((k2 _ (by omega)).trans (k1 _ (by omega))))) rfl rfl (Nat.le_of_ble_eq_true rfl) ?_
    rintro _ f3 ⟨rfl, a3, k3⟩
    rw [ptf_nI hn (by decide)] at a3
    have o3 := (k3 _ (by omega)).trans o2
    refine rn_aload_n dX4_append_45 rfl ?_
    refine rn_get dX4_append_46 lfX4_40 o3 rfl ?_
    refine rn_aload_n dX4_append_49 rfl ?_
    refine rn_get dX4_append_50 lfX4_24 o3 rfl ?_
    refine rn_iload dX4_append_53 rfl ?_
    refine rn_callS dX4_append_55 lmX4_51 ⟨Nat.le_of_ble_eq_true rfl, Nat.le_of_ble_eq_true rfl⟩ (ct_put g f3 (nI (pN P)) s3 (by decide) (hP.2.2.2.2.2.keep ((k3 _ (by omega)).trans ((k2 _ (by omega)).trans (k1 _ (by omega)))))) rfl rfl (Nat.le_of_ble_eq_true rfl) ?_
    rintro _ f4 ⟨rfl, a4, k4⟩
    rw [ptf_nI hn (by decide)] at a4
    have o4 := (k4 _ (by omega)).trans o3
    refine rn_aload_n dX4_append_58 rfl ?_
    refine rn_dup dX4_append_59 rfl ?_
    refine rn_get dX4_append_60 lfX4_24 o4 rfl ?_
    refine rn_iconst (v := nI 1) dX4_append_63 (by decide) ?_
    refine rn_iadd dX4_append_64 ?_
    refine rn_put dX4_append_65 lpX4_24 o4 rfl rfl (Nat.le_of_ble_eq_true rfl) ?_
    refine rn_vret dX4_append_68 rfl ?_
    rw [show nI (pN P) + nI 1 = nI (pN P + 1) from nI_add _ _]
    refine ⟨rfl, ⟨up_same _ _ _, hP.2.1.keep ((up_ne (by omega)).trans ((k4 _ (by omega)).trans ((k3 _ (by omega)).trans ((k2 _ (by omega)).trans (k1 _ (by omega)))))), a1.keep ((up_ne (by omega)).trans ((k4 _ (by omega)).trans ((k3 _ (by omega)).trans (k2 _ (by omega))))), a2.keep ((up_ne (by omega)).trans ((k4 _ (by omega)).trans (k3 _ (by omega)))), a3.keep ((up_ne (by omega)).trans (k4 _ (by omega))), a4.keep (up_ne (by omega))⟩, ?_⟩
    exact ((((FR.rf.one (by omega) (by omega) k1).one (by omega) (by omega) k2).one (by omega) (by omega) k3).one (by omega) (by omega) k4).up (by omega) (by omega)
/-- a row without its place p -/
def drp (a : Nat → Int32) (p : Nat) : Nat → Int32 := fun j => if j < p then a j else a (j + 1)
theorem ct_dropPiece (g : GG) (f : Mm) {h p : Nat} {P : PS} (hP : PB f h P) (hV : VD P) (hp : p < pN P) : Ct g MX4_dropPiece [.ref h, .int (nI p)] f 0 0 (fun r f' => r = none ∧ FR f f' h 6 ∧ ∃ S : PS, PB f' h S ∧ pW S = pW P ∧ pH S = pH P ∧ pMd S = pMd P ∧ pRu S = pRu P ∧ pN S = pN P - 1 ∧ pC S = pC P ∧ ∀ j, j < pN P - 1 → pS S j = drp (pS P) p j ∧ pF S j = drp (pF P) p j ∧ pK S j = drp (pK P) p j ∧ pX S j = drp (pX P) p j) := by
  refine Ct.of ok_MX4_dropPiece (Nat.le_of_ble_eq_true rfl) ?_
  change Wp g MX4_dropPiece 0 [some (.ref h), some (.int (nI p)), none] [] f 0 0 _
  have v8 := hV.2.2.2.2
  have loop : ∀ (n i : Nat) (f1 : Mm) (S : PS), pN P - i = n → p < i → i ≤ pN P → PB f1 h S → pW S = pW P → pH S = pH P → pMd S = pMd P → pRu S = pRu P → pN S = pN P → pC S = pC P → (∀ j, j + 1 < i → pS S j = drp (pS P) p j ∧ pF S j = drp (pF P) p j ∧ pK S j = drp (pK P) p j ∧ pX S j = drp (pX P) p j) → (∀ j, i ≤ j → pS S j = pS P j ∧ pF S j = pF P j ∧ pK S j = pK P j ∧ pX S j = pX P j) → FR f f1 h 6 → Wp g MX4_dropPiece 4 [some (.ref h), some (.int (nI p)), some (.int (nI i))] [] f1 0 0 (fun r f' => r = none ∧ FR f f' h 6 ∧ ∃ S : PS, PB f' h S ∧ pW S = pW P ∧ pH S = pH P ∧ pMd S = pMd P ∧ pRu S = pRu P ∧ pN S = pN P - 1 ∧ pC S = pC P ∧ ∀ j, j < pN P - 1 → pS S j = drp (pS P) p j ∧ pF S j = drp (pF P) p j ∧ pK S j = drp (pK P) p j ∧ pX S j = drp (pX P) p j) := by
    intro n
    induction n using Nat.strongRecOn with
    | ind n ih =>
      intro i f1 S hn hpi hi hS e1 e2 e3 e4 e5 e6 hlo hhi hF
      refine rn_iload_n dX4_dropPiece_4 rfl ?_
      refine rn_aload_n dX4_dropPiece_5 rfl ?_
      refine rn_get dX4_dropPiece_6 lfX4_24 hS.1 rfl ?_
      rw [e5]
      refine rn_icmp_ge (tgt := 27) dX4_dropPiece_9 (by decide) (fun c9 => ?_) (fun c9 => ?_)
      · refine rn_aload_n dX4_dropPiece_27 rfl ?_
        refine rn_dup dX4_dropPiece_28 rfl ?_
        refine rn_get dX4_dropPiece_29 lfX4_24 hS.1 rfl ?_
        refine rn_iconst (v := nI 1) dX4_dropPiece_32 (by decide) ?_
        refine rn_isub dX4_dropPiece_33 ?_
        rw [e5, show nI (pN P) - nI 1 = nI (pN P - 1) from pk_sub (by omega)]
        refine rn_put dX4_dropPiece_34 lpX4_24 hS.1 rfl rfl (Nat.le_of_ble_eq_true rfl) ?_
        refine rn_vret dX4_dropPiece_37 rfl ?_
        have hi2 := ge_ex c9 (by omega) (by omega)
        refine ⟨rfl, hF.up (by omega) (by omega), _, hS.o (pW S) (pH S) (pMd S) (pRu S) (pN P - 1), e1, e2, e3, e4, rfl, e6, fun j hj => hlo j (by omega)⟩
      · have hi2 := ge_in c9 (by omega)
        refine rn_aload_n dX4_dropPiece_12 rfl ?_
        refine rn_iload_n dX4_dropPiece_13 rfl ?_
        refine rn_iconst (v := nI 1) dX4_dropPiece_14 (by decide) ?_
        refine rn_isub dX4_dropPiece_15 ?_
        rw [show nI i - nI 1 = nI (i - 1) from pk_sub (by omega)]
        refine rn_aload_n dX4_dropPiece_16 rfl ?_
        refine rn_iload_n dX4_dropPiece_17 rfl ?_
        refine rn_callV dX4_dropPiece_18 lmX4_43 ⟨Nat.le_of_ble_eq_true rfl, Nat.le_of_ble_eq_true rfl⟩ (ct_copyPiece g f1 hS hS (by omega) (by omega) (Or.inl rfl)) hS.1 rfl rfl (Nat.le_of_ble_eq_true rfl) ?_
        rintro _ f2 ⟨rfl, a1, k1⟩
        refine rn_iinc (v := nI (i + 1)) dX4_dropPiece_21 rfl (nI_1 i) (Nat.le_of_ble_eq_true rfl) rfl ?_
        refine rn_goto (tgt := 4) dX4_dropPiece_24 (by decide) ?_
        refine ih (pN P - (i + 1)) (by omega) (i + 1) _ _ rfl (by omega) (by omega) a1 e1 e2 e3 e4 e5 e6 (fun j hj => ?_) (fun j hj => ?_) (hF.tr k1 (by omega) (by omega))
        · by_cases e : j = i - 1
          · subst e
            have h1 := hhi i (by omega)
            have e9 : i - 1 + 1 = i := by omega
            have h2 : ¬ i - 1 < p := by omega
            simp only [pS, pF, pK, pX, upd, drp, h2, if_true, if_false, e9]
            exact h1
          · simp only [pS, pF, pK, pX, upd, e, if_false]
            exact hlo j (by omega)
        · have e : ¬ j = i - 1 := by omega
          simp only [pS, pF, pK, pX, upd, e, if_false]
          exact hhi j (by omega)
  refine rn_iload_n dX4_dropPiece_0 rfl ?_
  refine rn_iconst (v := nI 1) dX4_dropPiece_1 (by decide) ?_
  refine rn_iadd dX4_dropPiece_2 ?_
  rw [show nI p + nI 1 = nI (p + 1) from nI_add _ _]
  refine rn_istore_n dX4_dropPiece_3 (Nat.le_of_ble_eq_true rfl) rfl ?_
  exact loop _ (p + 1) f P rfl (by omega) (by omega) hP rfl rfl rfl rfl rfl rfl (fun j hj => by simp [drp, show j < p by omega]) (fun j hj => ⟨rfl, rfl, rfl, rfl⟩) FR.rf
def sumf (a : Nat → Nat) : Nat → Nat
  | 0 => 0
  | i + 1 => sumf a i + a i
theorem ct_copyCount (g : GG) (f : Mm) {h : Nat} {P : PS} (cp : Nat → Nat) (hP : PB f h P) (hV : VD P) (hc : ∀ i, i < pN P → pX P i = nI (cp i)) : Ct g MX4_copyCount [.ref h] f 0 0 (fun r f' => f = f' ∧ r = some (.int (nI (sumf cp (pN P))))) := by
  refine Ct.of ok_MX4_copyCount (Nat.le_of_ble_eq_true rfl) ?_
  change Wp g MX4_copyCount 0 [some (.ref h), none, none] [] f 0 0 _
  have v8 := hV.2.2.2.2
  have loop : ∀ (n i : Nat), pN P - i = n → i ≤ pN P → Wp g MX4_copyCount 4 [some (.ref h), some (.int (nI (sumf cp i))), some (.int (nI i))] [] f 0 0 (fun r f' => f = f' ∧ r = some (.int (nI (sumf cp (pN P))))) := by
    intro n
    induction n using Nat.strongRecOn with
    | ind n ih =>
      intro i hn hi
      refine rn_iload_n dX4_copyCount_4 rfl ?_
      refine rn_aload_n dX4_copyCount_5 rfl ?_
      refine rn_get dX4_copyCount_6 lfX4_24 hP.1 rfl ?_
      refine rn_icmp_ge (tgt := 26) dX4_copyCount_9 (by decide) (fun c9 => ?_) (fun c9 => ?_)
      · refine rn_iload_n dX4_copyCount_26 rfl ?_
        refine rn_iret dX4_copyCount_27 rfl ?_
        have hi2 := ge_ex c9 (by omega) (by omega)
        exact ⟨rfl, by rw [show i = pN P by omega]⟩
      · have hi2 := ge_in c9 (by omega)
        refine rn_iload_n dX4_copyCount_12 rfl ?_
        refine rn_aload_n dX4_copyCount_13 rfl ?_
        refine rn_iload_n dX4_copyCount_14 rfl ?_
        refine rn_callV dX4_copyCount_15 lmX4_61 ⟨Nat.le_of_ble_eq_true rfl, Nat.le_of_ble_eq_true rfl⟩ (ct_copiesOf g f (nI i) hP) hP.1 rfl rfl (Nat.le_of_ble_eq_true rfl) ?_
        rintro _ _ ⟨rfl, rfl⟩
        rw [atf_nI (by omega) (by decide), hc i hi2]
        refine rn_iadd dX4_copyCount_18 ?_
        rw [nI_add]
        refine rn_istore_n dX4_copyCount_19 (Nat.le_of_ble_eq_true rfl) rfl ?_
        refine rn_iinc (v := nI (i + 1)) dX4_copyCount_20 rfl (nI_1 i) (Nat.le_of_ble_eq_true rfl) rfl ?_
        refine rn_goto (tgt := 4) dX4_copyCount_23 (by decide) ?_
        exact ih _ (by omega) (i + 1) rfl (by omega)
  refine rn_iconst (v := nI 0) dX4_copyCount_0 (by decide) ?_
  refine rn_istore_n dX4_copyCount_1 (Nat.le_of_ble_eq_true rfl) rfl ?_
  refine rn_iconst (v := nI 0) dX4_copyCount_2 (by decide) ?_
  refine rn_istore_n dX4_copyCount_3 (Nat.le_of_ble_eq_true rfl) rfl ?_
  exact loop _ 0 rfl (by omega)
theorem ct_squareCount (g : GG) (f : Mm) {h : Nat} {P : PS} (cp sh : Nat → Nat) (hP : PB f h P) (hV : VD P) (hc : ∀ i, i < pN P → pX P i = nI (cp i)) (hs : ∀ i, i < pN P → pS P i = nI (sh i) ∧ sh i < 65536) : Ct g MX4_squareCount [.ref h] f 0 0 (fun r f' => f = f' ∧ r = some (.int (nI (sumf (fun i => cp i * popk 32 (sh i)) (pN P))))) := by
  refine Ct.of ok_MX4_squareCount (Nat.le_of_ble_eq_true rfl) ?_
  change Wp g MX4_squareCount 0 [some (.ref h), none, none] [] f 0 0 _
  have v8 := hV.2.2.2.2
  have loop : ∀ (n i : Nat), pN P - i = n → i ≤ pN P → Wp g MX4_squareCount 4 [some (.ref h), some (.int (nI (sumf (fun i => cp i * popk 32 (sh i)) i))), some (.int (nI i))] [] f 0 0 (fun r f' => f = f' ∧ r = some (.int (nI (sumf (fun i => cp i * popk 32 (sh i)) (pN P))))) := by
    intro n
    induction n using Nat.strongRecOn with
    | ind n ih =>
      intro i hn hi
      refine rn_iload_n dX4_squareCount_4 rfl ?_
      refine rn_aload_n dX4_squareCount_5 rfl ?_
      refine rn_get dX4_squareCount_6 lfX4_24 hP.1 rfl ?_
      refine rn_icmp_ge (tgt := 35) dX4_squareCount_9 (by decide) (fun c9 => ?_) (fun c9 => ?_)
      · refine rn_iload_n dX4_squareCount_35 rfl ?_
        refine rn_iret dX4_squareCount_36 rfl ?_
        have hi2 := ge_ex c9 (by omega) (by omega)
        exact ⟨rfl, by rw [show i = pN P by omega]⟩
      · have hi2 := ge_in c9 (by omega)
        refine rn_iload_n dX4_squareCount_12 rfl ?_
        refine rn_aload_n dX4_squareCount_13 rfl ?_
        refine rn_iload_n dX4_squareCount_14 rfl ?_
        refine rn_callV dX4_squareCount_15 lmX4_61 ⟨Nat.le_of_ble_eq_true rfl, Nat.le_of_ble_eq_true rfl⟩ (ct_copiesOf g f (nI i) hP) hP.1 rfl rfl (Nat.le_of_ble_eq_true rfl) ?_
        rintro _ _ ⟨rfl, rfl⟩
        rw [atf_nI (by omega) (by decide), hc i hi2]
        refine rn_aload_n dX4_squareCount_18 rfl ?_
        refine rn_iload_n dX4_squareCount_19 rfl ?_
        refine rn_callV dX4_squareCount_20 lmX4_47 ⟨Nat.le_of_ble_eq_true rfl, Nat.le_of_ble_eq_true rfl⟩ (ct_shapeOf g f (nI i) hP) hP.1 rfl rfl (Nat.le_of_ble_eq_true rfl) ?_
        rintro _ _ ⟨rfl, rfl⟩
        rw [atf_nI (by omega) (by decide), (hs i hi2).1]
        refine rn_callS dX4_squareCount_23 lmX4_89 ⟨Nat.le_of_ble_eq_true rfl, Nat.le_of_ble_eq_true rfl⟩ (ct_bitCount32 g f (Nat.lt_trans (hs i hi2).2 (by decide))) rfl rfl (Nat.le_of_ble_eq_true rfl) ?_
        rintro _ _ ⟨rfl, rfl⟩
        refine rn_imul dX4_squareCount_26 ?_
        refine rn_iadd dX4_squareCount_27 ?_
        rw [pk_mul, nI_add]
        refine rn_istore_n dX4_squareCount_28 (Nat.le_of_ble_eq_true rfl) rfl ?_
        refine rn_iinc (v := nI (i + 1)) dX4_squareCount_29 rfl (nI_1 i) (Nat.le_of_ble_eq_true rfl) rfl ?_
        refine rn_goto (tgt := 4) dX4_squareCount_32 (by decide) ?_
        exact ih _ (by omega) (i + 1) rfl (by omega)
  refine rn_iconst (v := nI 0) dX4_squareCount_0 (by decide) ?_
  refine rn_istore_n dX4_squareCount_1 (Nat.le_of_ble_eq_true rfl) rfl ?_
  refine rn_iconst (v := nI 0) dX4_squareCount_2 (by decide) ?_
  refine rn_istore_n dX4_squareCount_3 (Nat.le_of_ble_eq_true rfl) rfl ?_
  exact loop _ 0 rfl (by omega)
-- the History: the object at 7, its ring at 8, the six states at 9, 15 ..
def HB (f : Mm) (o s : Nat) (R : Nat → PS) : Prop := f 7 = some (.inr (2, [.ref 8, .int (nI o), .int (nI s)])) ∧ (∃ a : Nat → Option Nat, f 8 = some (.inl (4, 6, .inr (.inr (.inr (.inr a))))) ∧ ∀ j, j < 6 → a j = some (9 + 6 * j)) ∧ (∀ j, j < 6 → PB f (9 + 6 * j) (R j)) ∧ o < 6 ∧ s ≤ 6
theorem HB.keep {f f' : Mm} {o s : Nat} {R : Nat → PS} (h : HB f o s R) (e : ∀ k, 7 ≤ k → k < 45 → f' k = f k) : HB f' o s R := by
  obtain ⟨h1, ⟨a, h2, h3⟩, h4, h5, h6⟩ := h
  exact ⟨(e 7 (by omega) (by omega)).trans h1, ⟨a, (e 8 (by omega) (by omega)).trans h2, h3⟩, fun j hj => (h4 j hj).keep (fun k x y => e k (by omega) (by omega)), h5, h6⟩
theorem ct_slotAfterOldest (g : GG) (f : Mm) {o s k : Nat} {R : Nat → PS} (hH : HB f o s R) (hk : k ≤ 6) : Ct g MX2_slotAfterOldest [.ref 7, .int (nI k)] f 0 0 (fun r f' => f = f' ∧ r = some (.ref (9 + 6 * ((o + k) % 6)))) := by
  refine Ct.of ok_MX2_slotAfterOldest (Nat.le_of_ble_eq_true rfl) ?_
  change Wp g MX2_slotAfterOldest 0 [some (.ref 7), some (.int (nI k)), none] [] f 0 0 _
  obtain ⟨h1, ⟨a, h2, h3⟩, h4, h5, h6⟩ := id hH
  have hm : (o + k) % 6 < 6 := Nat.mod_lt _ (by decide)
  refine rn_aload_n dX2_slotAfterOldest_0 rfl ?_
  refine rn_get dX2_slotAfterOldest_1 lfX2_17 h1 rfl ?_
  refine rn_iload_n dX2_slotAfterOldest_4 rfl ?_
  refine rn_iadd dX2_slotAfterOldest_5 ?_
  refine rn_bipush (v := nI 6) dX2_slotAfterOldest_6 (by decide) ?_
  refine rn_irem dX2_slotAfterOldest_8 (by decide) ?_
  rw [nI_add, pk_rem (by omega) (by decide) (by decide)]
  refine rn_istore_n dX2_slotAfterOldest_9 (Nat.le_of_ble_eq_true rfl) rfl ?_
  refine rn_iload_n dX2_slotAfterOldest_10 rfl ?_
  refine rn_if_lt (tgt := 32) dX2_slotAfterOldest_11 (by decide) (fun c11 => ?_) (fun c11 => ?_)
  · exact absurd c11 (nI_pos (by omega))
  · refine rn_iload_n dX2_slotAfterOldest_14 rfl ?_
    refine rn_aload_n dX2_slotAfterOldest_15 rfl ?_
    refine rn_get dX2_slotAfterOldest_16 lfX2_11 h1 rfl ?_
    refine rn_alen dX2_slotAfterOldest_19 h2 (by decide) ?_
    refine rn_icmp_ge (tgt := 32) dX2_slotAfterOldest_20 (by decide) (fun c20 => ?_) (fun c20 => ?_)
    · exact absurd (ge_ex c20 (by omega) (by decide)) (by omega)
    · refine rn_aload_n dX2_slotAfterOldest_23 rfl ?_
      refine rn_get dX2_slotAfterOldest_24 lfX2_11 h1 rfl ?_
      refine rn_iload_n dX2_slotAfterOldest_27 rfl ?_
      refine rn_aald dX2_slotAfterOldest_28 h2 (vp_in_nI hm (by decide)) (by rw [nI_clamp (by omega)]; exact h3 _ hm) ?_
      refine rn_goto (tgt := 33) dX2_slotAfterOldest_29 (by decide) ?_
      refine rn_aretR dX2_slotAfterOldest_33 rfl ?_
      exact ⟨rfl, rfl⟩
