theorem ge_ex {a b : Nat} (h : nI b ≤ nI a) (ha : a < 2 ^ 31) (hb : b < 2 ^ 31) : b ≤ a := (nI_leI hb ha).mp h
theorem ge_in {a b : Nat} (h : ¬ nI b ≤ nI a) (ha : a < 2 ^ 31) : a < b := Nat.lt_of_not_le fun q => h (nI_le q ha)
theorem PB.o {f : Mm} {h : Nat} {P : PS} (hP : PB f h P) (w t m r c : Nat) : PB (va_up f h (some (PO h (w, t, m, r, c, P.2.2.2.2.2)))) h (w, t, m, r, c, P.2.2.2.2.2) :=
  ⟨up_same _ _ _, hP.2.1.keep (up_ne (by omega)), hP.2.2.1.keep (up_ne (by omega)), hP.2.2.2.1.keep (up_ne (by omega)), hP.2.2.2.2.1.keep (up_ne (by omega)), hP.2.2.2.2.2.keep (up_ne (by omega))⟩
/-- nothing but the object's own cells changed -/
def FR (f f' : Mm) (h n : Nat) : Prop := ∀ k, (k < h ∨ h + n ≤ k) → f' k = f k
theorem FR.rf {f : Mm} {h n : Nat} : FR f f h n := fun _ _ => rfl
theorem FR.up {f f' : Mm} {h n q : Nat} {e : Option Ent} (H : FR f f' h n) (h1 : h ≤ q) (h2 : q < h + n) : FR f (va_up f' q e) h n := fun k hk => (up_ne (by omega)).trans (H k hk)
theorem FR.one {f f' f2 : Mm} {h n q : Nat} (H : FR f f' h n) (h1 : h ≤ q) (h2 : q < h + n) (hf : ∀ k, k ≠ q → f2 k = f' k) : FR f f2 h n := fun k hk => (hf k (by omega)).trans (H k hk)
theorem FR.tr {f f' f2 : Mm} {h n h2 n2 : Nat} (H : FR f f' h n) (H2 : FR f' f2 h2 n2) (a : h ≤ h2) (b : h2 + n2 ≤ h + n) : FR f f2 h n := fun k hk => (H2 k (by omega)).trans (H k hk)
theorem ct_makeBoard (g : GG) (f : Mm) {h : Nat} {P : PS} (w t : Nat) (hP : PB f h P) : Ct g MX4_makeBoard [.ref h, .int (nI w), .int (nI t)] f 0 0 (fun r f' => r = none ∧ PB f' h (w, t, pMd P, pRu P, pN P, fun _ => 0, P.2.2.2.2.2.2) ∧ FR f f' h 6) := by
  refine Ct.of ok_MX4_makeBoard (Nat.le_of_ble_eq_true rfl) ?_
  change Wp g MX4_makeBoard 0 [some (.ref h), some (.int (nI w)), some (.int (nI t)), none] [] f 0 0 _
  have loop : ∀ (n i : Nat) (f1 : Mm) (a : Nat → Int32), 36 - i = n → i ≤ 36 → PB f1 h (w, t, pMd P, pRu P, pN P, a, P.2.2.2.2.2.2) → (∀ j, j < i → a j = 0) → FR f f1 h 6 → Wp g MX4_makeBoard 12 [some (.ref h), some (.int (nI w)), some (.int (nI t)), some (.int (nI i))] [] f1 0 0 (fun r f' => r = none ∧ PB f' h (w, t, pMd P, pRu P, pN P, fun _ => 0, P.2.2.2.2.2.2) ∧ FR f f' h 6) := by
    intro n
    induction n using Nat.strongRecOn with
    | ind n ih =>
      intro i f1 a hn hi hP1 ha hF
      obtain ⟨b, hb, hba⟩ := hP1.2.1
      refine rn_iload_n dX4_makeBoard_12 rfl ?_
      refine rn_bipush (v := nI 36) dX4_makeBoard_13 (by decide) ?_
      refine rn_icmp_ge (tgt := 31) dX4_makeBoard_15 (by decide) (fun c15 => ?_) (fun c15 => ?_)
      · refine rn_vret dX4_makeBoard_31 rfl ?_
        have hi36 := ge_ex c15 (by omega) (by decide)
        exact ⟨rfl, ⟨hP1.1, hP1.2.1.to (fun j hj => ha j (by omega)), hP1.2.2⟩, hF⟩
      · refine rn_aload_n dX4_makeBoard_18 rfl ?_
        refine rn_get dX4_makeBoard_19 lfX4_27 hP1.1 rfl ?_
        refine rn_iload_n dX4_makeBoard_22 rfl ?_
        refine rn_iconst (v := nI 0) dX4_makeBoard_23 (by decide) ?_
        refine rn_iast dX4_makeBoard_24 hb (vp_in_nI (n := i) (N := 36) (ge_in c15 (by omega)) (by decide)) ?_
        refine rn_iinc (v := nI (i + 1)) dX4_makeBoard_25 rfl (nI_1 i) (Nat.le_of_ble_eq_true rfl) rfl ?_
        refine rn_goto (tgt := 12) dX4_makeBoard_28 (by decide) ?_
        have hi36 := ge_in c15 (by omega)
        refine ih (36 - (i + 1)) (by omega) (i + 1) _ (upd a i 0) rfl (by omega) ?_ (fun j hj => ?_) (hF.up (by omega) (by omega))
        · refine ⟨(up_ne (by omega)).trans hP1.1, ⟨_, up_same _ _ _, fun j hj => ?_⟩, hP1.2.2.1.keep (up_ne (by omega)), hP1.2.2.2.1.keep (up_ne (by omega)), hP1.2.2.2.2.1.keep (up_ne (by omega)), hP1.2.2.2.2.2.keep (up_ne (by omega))⟩
          rw [nI_clamp (by omega)]
          by_cases e : j = i
          · subst e; simp [upd, pC]; rfl
          · simp [upd, pC, e]; exact hba j hj
        · by_cases e : j = i
          · subst e; simp [upd]
          · simp [upd, e]; exact ha j (by omega)
  refine rn_aload_n dX4_makeBoard_0 rfl ?_
  refine rn_iload_n dX4_makeBoard_1 rfl ?_
  refine rn_put dX4_makeBoard_2 lpX4_9 hP.1 rfl rfl (Nat.le_of_ble_eq_true rfl) ?_
  refine rn_aload_n dX4_makeBoard_5 rfl ?_
  refine rn_iload_n dX4_makeBoard_6 rfl ?_
  refine rn_put dX4_makeBoard_7 lpX4_15 (up_same _ _ _) rfl rfl (Nat.le_of_ble_eq_true rfl) ?_
  refine rn_iconst (v := nI 0) dX4_makeBoard_10 (by decide) ?_
  refine rn_istore_n dX4_makeBoard_11 (Nat.le_of_ble_eq_true rfl) rfl ?_
  exact loop 36 0 _ (pC P) rfl (by omega) ((hP.o w (pH P) (pMd P) (pRu P) (pN P)).o w t (pMd P) (pRu P) (pN P)) (fun j hj => absurd hj (by omega)) ((FR.rf.up (by omega) (by omega)).up (by omega) (by omega))
theorem ct_copyPiece (g : GG) (f : Mm) {h q i j : Nat} {P S : PS} (hP : PB f h P) (hS : PB f q S) (hi : i < 8) (hj : j < 8) (hd : q = h ∨ q + 6 ≤ h ∨ h + 6 ≤ q) : Ct g MX4_copyPiece [.ref h, .int (nI i), .ref q, .int (nI j)] f 0 0 (fun r f' => r = none ∧ PB f' h (pW P, pH P, pMd P, pRu P, pN P, pC P, upd (pS P) i (pS S j), upd (pF P) i (pF S j), upd (pK P) i (pK S j), upd (pX P) i (pX S j)) ∧ FR f f' h 6) := by
  refine Ct.of ok_MX4_copyPiece (Nat.le_of_ble_eq_true rfl) ?_
  change Wp g MX4_copyPiece 0 [some (.ref h), some (.int (nI i)), some (.ref q), some (.int (nI j))] [] f 0 0 _
  refine rn_aload_n dX4_copyPiece_0 rfl ?_
  refine rn_get dX4_copyPiece_1 lfX4_31 hP.1 rfl ?_
  refine rn_iload_n dX4_copyPiece_4 rfl ?_
  refine rn_aload_n dX4_copyPiece_5 rfl ?_
  refine rn_iload_n dX4_copyPiece_6 rfl ?_
  refine rn_callV dX4_copyPiece_7 lmX4_47 ⟨Nat.le_of_ble_eq_true rfl, Nat.le_of_ble_eq_true rfl⟩ (ct_shapeOf g f (nI j) hS) hS.1 rfl rfl (Nat.le_of_ble_eq_true rfl) ?_
  rintro _ _ ⟨rfl, rfl⟩
  refine rn_callS dX4_copyPiece_10 lmX4_51 ⟨Nat.le_of_ble_eq_true rfl, Nat.le_of_ble_eq_true rfl⟩ (ct_put g f (nI i) _ (by decide) hP.2.2.1) rfl rfl (Nat.le_of_ble_eq_true rfl) ?_
  rintro _ f1 ⟨rfl, a1, k1⟩
  rw [ptf_nI hi (by decide), atf_nI hj (by decide)] at a1
  refine rn_aload_n dX4_copyPiece_13 rfl ?_
  refine rn_get dX4_copyPiece_14 lfX4_34 ((k1 _ (by omega)).trans hP.1) rfl ?_
  refine rn_iload_n dX4_copyPiece_17 rfl ?_
  refine rn_aload_n dX4_copyPiece_18 rfl ?_
  refine rn_iload_n dX4_copyPiece_19 rfl ?_
  refine rn_callV dX4_copyPiece_20 lmX4_55 ⟨Nat.le_of_ble_eq_true rfl, Nat.le_of_ble_eq_true rfl⟩ (cr_freedomOf g f1 (nI j) ((k1 _ (by omega)).trans hS.1) (hS.2.2.2.1.keep (k1 _ (by omega)))) ((k1 _ (by omega)).trans hS.1) rfl rfl (Nat.le_of_ble_eq_true rfl) ?_
  rintro _ _ ⟨rfl, rfl⟩
  refine rn_callS dX4_copyPiece_23 lmX4_51 ⟨Nat.le_of_ble_eq_true rfl, Nat.le_of_ble_eq_true rfl⟩ (ct_put g f1 (nI i) _ (by decide) (hP.2.2.2.1.keep (k1 _ (by omega)))) rfl rfl (Nat.le_of_ble_eq_true rfl) ?_
  rintro _ f2 ⟨rfl, a2, k2⟩
  rw [ptf_nI hi (by decide), atf_nI hj (by decide)] at a2
  have k12 : ∀ k, k ≠ h + 2 → k ≠ h + 3 → f2 k = f k := fun k x y => (k2 k y).trans (k1 k x)
  refine rn_aload_n dX4_copyPiece_26 rfl ?_
  refine rn_get dX4_copyPiece_27 lfX4_37 ((k12 _ (by omega) (by omega)).trans hP.1) rfl ?_
  refine rn_iload_n dX4_copyPiece_30 rfl ?_
  refine rn_aload_n dX4_copyPiece_31 rfl ?_
  refine rn_iload_n dX4_copyPiece_32 rfl ?_
  refine rn_callV dX4_copyPiece_33 lmX4_58 ⟨Nat.le_of_ble_eq_true rfl, Nat.le_of_ble_eq_true rfl⟩ (cr_colourOf g f2 (nI j) ((k12 _ (by omega) (by omega)).trans hS.1) (hS.2.2.2.2.1.keep (k12 _ (by omega) (by omega)))) ((k12 _ (by omega) (by omega)).trans hS.1) rfl rfl (Nat.le_of_ble_eq_true rfl) ?_
  rintro _ _ ⟨rfl, rfl⟩
  refine rn_callS dX4_copyPiece_36 lmX4_51 ⟨Nat.le_of_ble_eq_true rfl, Nat.le_of_ble_eq_true rfl⟩ (ct_put g f2 (nI i) _ (by decide) (hP.2.2.2.2.1.keep (k12 _ (by omega) (by omega)))) rfl rfl (Nat.le_of_ble_eq_true rfl) ?_
  rintro _ f3 ⟨rfl, a3, k3⟩
  rw [ptf_nI hi (by decide), atf_nI hj (by decide)] at a3
  have k13 : ∀ k, k ≠ h + 2 → k ≠ h + 3 → k ≠ h + 4 → f3 k = f k := fun k x y z => (k3 k z).trans (k12 k x y)
  refine rn_aload_n dX4_copyPiece_39 rfl ?_
  refine rn_get dX4_copyPiece_40 lfX4_40 ((k13 _ (by omega) (by omega) (by omega)).trans hP.1) rfl ?_
  refine rn_iload_n dX4_copyPiece_43 rfl ?_
  refine rn_aload_n dX4_copyPiece_44 rfl ?_
  refine rn_iload_n dX4_copyPiece_45 rfl ?_
  refine rn_callV dX4_copyPiece_46 lmX4_61 ⟨Nat.le_of_ble_eq_true rfl, Nat.le_of_ble_eq_true rfl⟩ (cr_copiesOf g f3 (nI j) ((k13 _ (by omega) (by omega) (by omega)).trans hS.1) (hS.2.2.2.2.2.keep (k13 _ (by omega) (by omega) (by omega)))) ((k13 _ (by omega) (by omega) (by omega)).trans hS.1) rfl rfl (Nat.le_of_ble_eq_true rfl) ?_
  rintro _ _ ⟨rfl, rfl⟩
  refine rn_callS dX4_copyPiece_49 lmX4_51 ⟨Nat.le_of_ble_eq_true rfl, Nat.le_of_ble_eq_true rfl⟩ (ct_put g f3 (nI i) _ (by decide) (hP.2.2.2.2.2.keep (k13 _ (by omega) (by omega) (by omega)))) rfl rfl (Nat.le_of_ble_eq_true rfl) ?_
  rintro _ f4 ⟨rfl, a4, k4⟩
  rw [ptf_nI hi (by decide), atf_nI hj (by decide)] at a4
  refine rn_vret dX4_copyPiece_52 rfl ?_
  exact ⟨rfl, ⟨(k4 _ (by omega)).trans ((k13 _ (by omega) (by omega) (by omega)).trans hP.1), hP.2.1.keep ((k4 _ (by omega)).trans (k13 _ (by omega) (by omega) (by omega))), a1.keep ((k4 _ (by omega)).trans ((k3 _ (by omega)).trans (k2 _ (by omega)))), a2.keep ((k4 _ (by omega)).trans (k3 _ (by omega))), a3.keep (k4 _ (by omega)), a4⟩, fun k hk => (k4 k (by omega)).trans (k13 k (by omega) (by omega) (by omega))⟩
theorem ct_copyFrom (g : GG) (f : Mm) {h q : Nat} {P S : PS} (hP : PB f h P) (hS : PB f q S) (hd : q + 6 ≤ h ∨ h + 6 ≤ q) : Ct g MX4_copyFrom [.ref h, .ref q] f 0 0 (fun r f' => r = none ∧ PB f' h S ∧ FR f f' h 6) := by
  refine Ct.of ok_MX4_copyFrom (Nat.le_of_ble_eq_true rfl) ?_
  change Wp g MX4_copyFrom 0 [some (.ref h), some (.ref q), none] [] f 0 0 _
  have loop2 : ∀ (n i : Nat) (f1 : Mm) (b1 b2 b3 b4 : Nat → Int32), 8 - i = n → i ≤ 8 → PB f1 h (pW S, pH S, pMd S, pRu S, pN S, pC S, b1, b2, b3, b4) → PB f1 q S → (∀ j, j < i → b1 j = pS S j ∧ b2 j = pF S j ∧ b3 j = pK S j ∧ b4 j = pX S j) → FR f f1 h 6 → Wp g MX4_copyFrom 68 [some (.ref h), some (.ref q), some (.int (nI i))] [] f1 0 0 (fun r f' => r = none ∧ PB f' h S ∧ FR f f' h 6) := by
    intro n
    induction n using Nat.strongRecOn with
    | ind n ih =>
      intro i f1 b1 b2 b3 b4 hn hi hP1 hS1 hb hF
      refine rn_iload_n dX4_copyFrom_68 rfl ?_
      refine rn_bipush (v := nI 8) dX4_copyFrom_69 (by decide) ?_
      refine rn_icmp_ge (tgt := 87) dX4_copyFrom_71 (by decide) (fun c71 => ?_) (fun c71 => ?_)
      · refine rn_vret dX4_copyFrom_87 rfl ?_
        have hi8 := ge_ex c71 (by omega) (by decide)
        exact ⟨rfl, ⟨hP1.1, hP1.2.1, hP1.2.2.1.to (fun j hj => (hb j (by omega)).1), hP1.2.2.2.1.to (fun j hj => (hb j (by omega)).2.1), hP1.2.2.2.2.1.to (fun j hj => (hb j (by omega)).2.2.1), hP1.2.2.2.2.2.to (fun j hj => (hb j (by omega)).2.2.2)⟩, hF⟩
      · have hi8 := ge_in c71 (by omega)
        refine rn_aload_n dX4_copyFrom_74 rfl ?_
        refine rn_iload_n dX4_copyFrom_75 rfl ?_
        refine rn_aload_n dX4_copyFrom_76 rfl ?_
        refine rn_iload_n dX4_copyFrom_77 rfl ?_
        refine rn_callV dX4_copyFrom_78 lmX4_43 ⟨Nat.le_of_ble_eq_true rfl, Nat.le_of_ble_eq_true rfl⟩ (ct_copyPiece g f1 hP1 hS1 hi8 hi8 (by omega)) hP1.1 rfl rfl (Nat.le_of_ble_eq_true rfl) ?_
        rintro _ f2 ⟨rfl, a1, k1⟩
        refine rn_iinc (v := nI (i + 1)) dX4_copyFrom_81 rfl (nI_1 i) (Nat.le_of_ble_eq_true rfl) rfl ?_
        refine rn_goto (tgt := 68) dX4_copyFrom_84 (by decide) ?_
        refine ih (8 - (i + 1)) (by omega) (i + 1) _ _ _ _ _ rfl (by omega) a1 (hS1.keep (fun k x y => k1 k (by omega))) (fun j hj => ?_) (hF.tr k1 (by omega) (by omega))
        by_cases e : j = i
        · subst e; simp [upd]
        · simp only [upd, e, if_false]; exact hb j (by omega)
  have loop1 : ∀ (n i : Nat) (f1 : Mm) (a : Nat → Int32), 36 - i = n → i ≤ 36 → PB f1 h (pW S, pH S, pMd S, pRu S, pN S, a, P.2.2.2.2.2.2) → PB f1 q S → (∀ j, j < i → a j = pC S j) → FR f f1 h 6 → Wp g MX4_copyFrom 42 [some (.ref h), some (.ref q), some (.int (nI i))] [] f1 0 0 (fun r f' => r = none ∧ PB f' h S ∧ FR f f' h 6) := by
    intro n
    induction n using Nat.strongRecOn with
    | ind n ih =>
      intro i f1 a hn hi hP1 hS1 ha hF
      obtain ⟨b, hb, hba⟩ := hP1.2.1
      obtain ⟨d, hd1, hda⟩ := hS1.2.1
      refine rn_iload_n dX4_copyFrom_42 rfl ?_
      refine rn_bipush (v := nI 36) dX4_copyFrom_43 (by decide) ?_
      refine rn_icmp_ge (tgt := 66) dX4_copyFrom_45 (by decide) (fun c45 => ?_) (fun c45 => ?_)
      · refine rn_iconst (v := nI 0) dX4_copyFrom_66 (by decide) ?_
        refine rn_istore_n dX4_copyFrom_67 (Nat.le_of_ble_eq_true rfl) rfl ?_
        have hi36 := ge_ex c45 (by omega) (by decide)
        exact loop2 8 0 f1 (pS P) (pF P) (pK P) (pX P) rfl (by omega) ⟨hP1.1, hP1.2.1.to (fun j hj => ha j (by omega)), hP1.2.2⟩ hS1 (fun j hj => absurd hj (by omega)) hF
      · refine rn_aload_n dX4_copyFrom_48 rfl ?_
        refine rn_get dX4_copyFrom_49 lfX4_27 hP1.1 rfl ?_
        refine rn_iload_n dX4_copyFrom_52 rfl ?_
        refine rn_aload_n dX4_copyFrom_53 rfl ?_
        refine rn_get dX4_copyFrom_54 lfX4_27 hS1.1 rfl ?_
        refine rn_iload_n dX4_copyFrom_57 rfl ?_
        refine rn_iald dX4_copyFrom_58 hd1 (vp_in_nI (n := i) (N := 36) (ge_in c45 (by omega)) (by decide)) ?_
        refine rn_iast dX4_copyFrom_59 hb (vp_in_nI (n := i) (N := 36) (ge_in c45 (by omega)) (by decide)) ?_
        refine rn_iinc (v := nI (i + 1)) dX4_copyFrom_60 rfl (nI_1 i) (Nat.le_of_ble_eq_true rfl) rfl ?_
        refine rn_goto (tgt := 42) dX4_copyFrom_63 (by decide) ?_
        have hi36 := ge_in c45 (by omega)
        refine ih (36 - (i + 1)) (by omega) (i + 1) _ (upd a i (pC S i)) rfl (by omega) ?_ (hS1.keep (fun k x y => up_ne (by omega))) (fun j hj => ?_) (hF.up (by omega) (by omega))
        · refine ⟨(up_ne (by omega)).trans hP1.1, ⟨_, up_same _ _ _, fun j hj => ?_⟩, hP1.2.2.1.keep (up_ne (by omega)), hP1.2.2.2.1.keep (up_ne (by omega)), hP1.2.2.2.2.1.keep (up_ne (by omega)), hP1.2.2.2.2.2.keep (up_ne (by omega))⟩
          rw [nI_clamp (by omega), hda i hi36]
          by_cases e : j = i
          · subst e; simp [upd, pC]
          · simp [upd, pC, e]; exact hba j hj
        · by_cases e : j = i
          · subst e; simp [upd]
          · simp [upd, e]; exact ha j (by omega)
  refine rn_aload_n dX4_copyFrom_0 rfl ?_
  refine rn_aload_n dX4_copyFrom_1 rfl ?_
  refine rn_get dX4_copyFrom_2 lfX4_9 hS.1 rfl ?_
  refine rn_put dX4_copyFrom_5 lpX4_9 hP.1 rfl rfl (Nat.le_of_ble_eq_true rfl) ?_
  refine rn_aload_n dX4_copyFrom_8 rfl ?_
  refine rn_aload_n dX4_copyFrom_9 rfl ?_
  refine rn_get dX4_copyFrom_10 lfX4_15 ((up_ne (by omega)).trans hS.1) rfl ?_
  refine rn_put dX4_copyFrom_13 lpX4_15 (up_same _ _ _) rfl rfl (Nat.le_of_ble_eq_true rfl) ?_
  refine rn_aload_n dX4_copyFrom_16 rfl ?_
  refine rn_aload_n dX4_copyFrom_17 rfl ?_
  refine rn_get dX4_copyFrom_18 lfX4_18 ((up_ne (by omega)).trans ((up_ne (by omega)).trans hS.1)) rfl ?_
  refine rn_put dX4_copyFrom_21 lpX4_18 (up_same _ _ _) rfl rfl (Nat.le_of_ble_eq_true rfl) ?_
  refine rn_aload_n dX4_copyFrom_24 rfl ?_
  refine rn_aload_n dX4_copyFrom_25 rfl ?_
  refine rn_get dX4_copyFrom_26 lfX4_21 ((up_ne (by omega)).trans ((up_ne (by omega)).trans ((up_ne (by omega)).trans hS.1))) rfl ?_
  refine rn_put dX4_copyFrom_29 lpX4_21 (up_same _ _ _) rfl rfl (Nat.le_of_ble_eq_true rfl) ?_
  refine rn_aload_n dX4_copyFrom_32 rfl ?_
  refine rn_aload_n dX4_copyFrom_33 rfl ?_
  refine rn_get dX4_copyFrom_34 lfX4_24 ((up_ne (by omega)).trans ((up_ne (by omega)).trans ((up_ne (by omega)).trans ((up_ne (by omega)).trans hS.1)))) rfl ?_
  refine rn_put dX4_copyFrom_37 lpX4_24 (up_same _ _ _) rfl rfl (Nat.le_of_ble_eq_true rfl) ?_
  refine rn_iconst (v := nI 0) dX4_copyFrom_40 (by decide) ?_
  refine rn_istore_n dX4_copyFrom_41 (Nat.le_of_ble_eq_true rfl) rfl ?_
  exact loop1 36 0 _ (pC P) rfl (by omega) (((((hP.o (pW S) (pH P) (pMd P) (pRu P) (pN P)).o (pW S) (pH S) (pMd P) (pRu P) (pN P)).o (pW S) (pH S) (pMd S) (pRu P) (pN P)).o (pW S) (pH S) (pMd S) (pRu S) (pN P)).o (pW S) (pH S) (pMd S) (pRu S) (pN S)) (hS.keep (fun k x y => (up_ne (by omega)).trans ((up_ne (by omega)).trans ((up_ne (by omega)).trans ((up_ne (by omega)).trans (up_ne (by omega))))))) (fun j hj => absurd hj (by omega)) (((((FR.rf.up (by omega) (by omega)).up (by omega) (by omega)).up (by omega) (by omega)).up (by omega) (by omega)).up (by omega) (by omega))
