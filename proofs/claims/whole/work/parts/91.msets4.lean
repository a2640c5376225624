theorem cm_addPieceNo (g : GG) (f : Mm) {P : PS} {H : List PS} {T : List Nat} {x y z : Int32} (hI : MI f P H T) (hx : okSh x = false ∨ ¬ (nI 0 ≤ y ∧ y ≤ nI 2) ∨ ¬ (nI 0 ≤ z ∧ z ≤ nI 3)) : Ct g MX12_addPiece [.ref 75, .int x, .int y, .int z] f 0 0 (fun r f' => f = f' ∧ r = some (.int (-1))) := by
  refine Ct.of ok_MX12_addPiece (Nat.le_of_ble_eq_true rfl) ?_
  change Wp g MX12_addPiece 0 [some (.ref 75), some (.int x), some (.int y), some (.int z)] [] f 0 0 _
  rcases hx with hx | hx | hx
  · refine rn_iload_n dX12_addPiece_0 rfl ?_
    refine rn_callS dX12_addPiece_1 lmX12_132 ⟨Nat.le_of_ble_eq_true rfl, Nat.le_of_ble_eq_true rfl⟩ (cmb_isShape g f x) rfl rfl (Nat.le_of_ble_eq_true rfl) ?_
    rintro _ _ ⟨rfl, rfl⟩
    rw [hx]
    refine rn_if_eq (tgt := 25) dX12_addPiece_4 (by decide) (fun c4 => ?_) (fun c4 => ?_)
    · refine rn_iconst (v := (-1)) dX12_addPiece_25 (by decide) ?_
      refine rn_iret dX12_addPiece_26 rfl ?_
      exact ⟨rfl, rfl⟩
    · exact absurd (show bI false = 0 from rfl) c4
  · refine rn_iload_n dX12_addPiece_0 rfl ?_
    refine rn_callS dX12_addPiece_1 lmX12_132 ⟨Nat.le_of_ble_eq_true rfl, Nat.le_of_ble_eq_true rfl⟩ (cmb_isShape g f x) rfl rfl (Nat.le_of_ble_eq_true rfl) ?_
    rintro _ _ ⟨rfl, rfl⟩
    refine rn_if_eq (tgt := 25) dX12_addPiece_4 (by decide) (fun c4 => ?_) (fun c4 => ?_)
    · refine rn_iconst (v := (-1)) dX12_addPiece_25 (by decide) ?_
      refine rn_iret dX12_addPiece_26 rfl ?_
      exact ⟨rfl, rfl⟩
    · refine rn_iload_n dX12_addPiece_7 rfl ?_
      refine rn_iconst (v := nI 0) dX12_addPiece_8 (by decide) ?_
      refine rn_iconst (v := nI 2) dX12_addPiece_9 (by decide) ?_
      refine rn_callS dX12_addPiece_10 lmX12_72 ⟨Nat.le_of_ble_eq_true rfl, Nat.le_of_ble_eq_true rfl⟩ (cm_in g f y (nI 0) (nI 2)) rfl rfl (Nat.le_of_ble_eq_true rfl) ?_
      rintro _ _ ⟨rfl, rfl⟩
      rw [decide_eq_false hx]
      refine rn_if_eq (tgt := 25) dX12_addPiece_13 (by decide) (fun c13 => ?_) (fun c13 => ?_)
      · refine rn_iconst (v := (-1)) dX12_addPiece_25 (by decide) ?_
        refine rn_iret dX12_addPiece_26 rfl ?_
        exact ⟨rfl, rfl⟩
      · exact absurd (show bI false = 0 from rfl) c13
  · refine rn_iload_n dX12_addPiece_0 rfl ?_
    refine rn_callS dX12_addPiece_1 lmX12_132 ⟨Nat.le_of_ble_eq_true rfl, Nat.le_of_ble_eq_true rfl⟩ (cmb_isShape g f x) rfl rfl (Nat.le_of_ble_eq_true rfl) ?_
    rintro _ _ ⟨rfl, rfl⟩
    refine rn_if_eq (tgt := 25) dX12_addPiece_4 (by decide) (fun c4 => ?_) (fun c4 => ?_)
    · refine rn_iconst (v := (-1)) dX12_addPiece_25 (by decide) ?_
      refine rn_iret dX12_addPiece_26 rfl ?_
      exact ⟨rfl, rfl⟩
    · refine rn_iload_n dX12_addPiece_7 rfl ?_
      refine rn_iconst (v := nI 0) dX12_addPiece_8 (by decide) ?_
      refine rn_iconst (v := nI 2) dX12_addPiece_9 (by decide) ?_
      refine rn_callS dX12_addPiece_10 lmX12_72 ⟨Nat.le_of_ble_eq_true rfl, Nat.le_of_ble_eq_true rfl⟩ (cm_in g f y (nI 0) (nI 2)) rfl rfl (Nat.le_of_ble_eq_true rfl) ?_
      rintro _ _ ⟨rfl, rfl⟩
      refine rn_if_eq (tgt := 25) dX12_addPiece_13 (by decide) (fun c13 => ?_) (fun c13 => ?_)
      · refine rn_iconst (v := (-1)) dX12_addPiece_25 (by decide) ?_
        refine rn_iret dX12_addPiece_26 rfl ?_
        exact ⟨rfl, rfl⟩
      · refine rn_iload_n dX12_addPiece_16 rfl ?_
        refine rn_iconst (v := nI 0) dX12_addPiece_17 (by decide) ?_
        refine rn_iconst (v := nI 3) dX12_addPiece_18 (by decide) ?_
        refine rn_callS dX12_addPiece_19 lmX12_72 ⟨Nat.le_of_ble_eq_true rfl, Nat.le_of_ble_eq_true rfl⟩ (cm_in g f z (nI 0) (nI 3)) rfl rfl (Nat.le_of_ble_eq_true rfl) ?_
        rintro _ _ ⟨rfl, rfl⟩
        rw [decide_eq_false hx]
        refine rn_if_ne (tgt := 27) dX12_addPiece_22 (by decide) (fun c22 => ?_) (fun c22 => ?_)
        · exact absurd (show bI false = 0 from rfl) c22
        · refine rn_iconst (v := (-1)) dX12_addPiece_25 (by decide) ?_
          refine rn_iret dX12_addPiece_26 rfl ?_
          exact ⟨rfl, rfl⟩
theorem cm_addPieceFull (g : GG) (f : Mm) {P : PS} {H : List PS} {T : List Nat} {x y z : Int32} (hI : MI f P H T) (hx : okSh x = true) (hy : nI 0 ≤ y ∧ y ≤ nI 2) (hz : nI 0 ≤ z ∧ z ≤ nI 3) (hn : pN P = 8) : Ct g MX12_addPiece [.ref 75, .int x, .int y, .int z] f 0 0 (fun r f' => f = f' ∧ r = some (.int (-3))) := by
  refine Ct.of ok_MX12_addPiece (Nat.le_of_ble_eq_true rfl) ?_
  change Wp g MX12_addPiece 0 [some (.ref 75), some (.int x), some (.int y), some (.int z)] [] f 0 0 _
  obtain ⟨wi, cv, s, hM, hs, hP⟩ := hI.ent
  obtain ⟨sb, hsb, hsbe⟩ := id hs
  have e4 : sb 4 = nI 8 := ((hsbe 4 (by omega)).trans hP.2.2.2.2.1).trans (by rw [hn])
  refine rn_iload_n dX12_addPiece_0 rfl ?_
  refine rn_callS dX12_addPiece_1 lmX12_132 ⟨Nat.le_of_ble_eq_true rfl, Nat.le_of_ble_eq_true rfl⟩ (cmb_isShape g f x) rfl rfl (Nat.le_of_ble_eq_true rfl) ?_
  rintro _ _ ⟨rfl, rfl⟩
  rw [hx]
  refine rn_if_eq (tgt := 25) dX12_addPiece_4 (by decide) (fun c4 => ?_) (fun c4 => ?_)
  · exact absurd c4 (by decide)
  · refine rn_iload_n dX12_addPiece_7 rfl ?_
    refine rn_iconst (v := nI 0) dX12_addPiece_8 (by decide) ?_
    refine rn_iconst (v := nI 2) dX12_addPiece_9 (by decide) ?_
    refine rn_callS dX12_addPiece_10 lmX12_72 ⟨Nat.le_of_ble_eq_true rfl, Nat.le_of_ble_eq_true rfl⟩ (cm_in g f y (nI 0) (nI 2)) rfl rfl (Nat.le_of_ble_eq_true rfl) ?_
    rintro _ _ ⟨rfl, rfl⟩
    rw [decide_eq_true hy]
    refine rn_if_eq (tgt := 25) dX12_addPiece_13 (by decide) (fun c13 => ?_) (fun c13 => ?_)
    · exact absurd c13 (by decide)
    · refine rn_iload_n dX12_addPiece_16 rfl ?_
      refine rn_iconst (v := nI 0) dX12_addPiece_17 (by decide) ?_
      refine rn_iconst (v := nI 3) dX12_addPiece_18 (by decide) ?_
      refine rn_callS dX12_addPiece_19 lmX12_72 ⟨Nat.le_of_ble_eq_true rfl, Nat.le_of_ble_eq_true rfl⟩ (cm_in g f z (nI 0) (nI 3)) rfl rfl (Nat.le_of_ble_eq_true rfl) ?_
      rintro _ _ ⟨rfl, rfl⟩
      rw [decide_eq_true hz]
      refine rn_if_ne (tgt := 27) dX12_addPiece_22 (by decide) (fun c22 => ?_) (fun c22 => ?_)
      · refine rn_aload_n dX12_addPiece_27 rfl ?_
        refine rn_get dX12_addPiece_28 lfX12_7 hM rfl ?_
        refine rn_iconst (v := nI 4) dX12_addPiece_31 (by decide) ?_
        refine rn_iald dX12_addPiece_32 hsb (vp_in_nI (show 4 < 73 by omega) (by decide)) ?_
        rw [nI_clamp (by decide), e4]
        refine rn_bipush (v := nI 8) dX12_addPiece_33 (by decide) ?_
        refine rn_icmp_ne (tgt := 41) dX12_addPiece_35 (by decide) (fun c35 => ?_) (fun c35 => ?_)
        · exact absurd rfl c35
        · refine rn_bipush (v := (-3)) dX12_addPiece_38 (by decide) ?_
          refine rn_iret dX12_addPiece_40 rfl ?_
          exact ⟨rfl, rfl⟩
      · exact absurd c22 (by decide)
theorem cm_addPiece (g : GG) (f : Mm) {P : PS} {H : List PS} {T : List Nat} {s0 : Nat} {y z : Int32} (hI : MI f P H T) (hV : VD P) (hs0 : s0 < 65536) (hx : okC s0 = true) (hy : nI 0 ≤ y ∧ y ≤ nI 2) (hz : nI 0 ≤ z ∧ z ≤ nI 3) (hn : pN P < 8) : Ct g MX12_addPiece [.ref 75, .int (nI s0), .int y, .int z] f 0 0 (fun r f' => (∀ j, j < 75 → f' j = f j) ∧ MI f' (pAdd P (nI (nrC s0)) y z (nI 1)) (psh H P) T ∧ r = some (.int (nI (pN P)))) := by
  refine Ct.of ok_MX12_addPiece (Nat.le_of_ble_eq_true rfl) ?_
  change Wp g MX12_addPiece 0 [some (.ref 75), some (.int (nI s0)), some (.int y), some (.int z)] [] f 0 0 _
  obtain ⟨wi, cv, s, pr, ⟨hM, hs, hP, hm⟩, hp, h2, hl, hPS, hT, h4⟩ := hI
  obtain ⟨sb, hsb, hsbe⟩ := id hs
  have e4 : sb 4 = nI (pN P) := (hsbe 4 (by omega)).trans hP.2.2.2.2.1
  have hx2 : okSh (nI s0) = true := by rw [okSh_nI hs0]; exact hx
  rw [(ok_norm hs0 hx).1]
  refine rn_iload_n dX12_addPiece_0 rfl ?_
  refine rn_callS dX12_addPiece_1 lmX12_132 ⟨Nat.le_of_ble_eq_true rfl, Nat.le_of_ble_eq_true rfl⟩ (cmb_isShape g f (nI s0)) rfl rfl (Nat.le_of_ble_eq_true rfl) ?_
  rintro _ _ ⟨rfl, rfl⟩
  rw [hx2]
  refine rn_if_eq (tgt := 25) dX12_addPiece_4 (by decide) (fun c4 => ?_) (fun c4 => ?_)
  · exact absurd c4 (by decide)
  · refine rn_iload_n dX12_addPiece_7 rfl ?_
    refine rn_iconst (v := nI 0) dX12_addPiece_8 (by decide) ?_
    refine rn_iconst (v := nI 2) dX12_addPiece_9 (by decide) ?_
    refine rn_callS dX12_addPiece_10 lmX12_72 ⟨Nat.le_of_ble_eq_true rfl, Nat.le_of_ble_eq_true rfl⟩ (cm_in g f y (nI 0) (nI 2)) rfl rfl (Nat.le_of_ble_eq_true rfl) ?_
    rintro _ _ ⟨rfl, rfl⟩
    rw [decide_eq_true hy]
    refine rn_if_eq (tgt := 25) dX12_addPiece_13 (by decide) (fun c13 => ?_) (fun c13 => ?_)
    · exact absurd c13 (by decide)
    · refine rn_iload_n dX12_addPiece_16 rfl ?_
      refine rn_iconst (v := nI 0) dX12_addPiece_17 (by decide) ?_
      refine rn_iconst (v := nI 3) dX12_addPiece_18 (by decide) ?_
      refine rn_callS dX12_addPiece_19 lmX12_72 ⟨Nat.le_of_ble_eq_true rfl, Nat.le_of_ble_eq_true rfl⟩ (cm_in g f z (nI 0) (nI 3)) rfl rfl (Nat.le_of_ble_eq_true rfl) ?_
      rintro _ _ ⟨rfl, rfl⟩
      rw [decide_eq_true hz]
      refine rn_if_ne (tgt := 27) dX12_addPiece_22 (by decide) (fun c22 => ?_) (fun c22 => ?_)
      · refine rn_aload_n dX12_addPiece_27 rfl ?_
        refine rn_get dX12_addPiece_28 lfX12_7 hM rfl ?_
        refine rn_iconst (v := nI 4) dX12_addPiece_31 (by decide) ?_
        refine rn_iald dX12_addPiece_32 hsb (vp_in_nI (show 4 < 73 by omega) (by decide)) ?_
        rw [nI_clamp (by decide), e4]
        refine rn_bipush (v := nI 8) dX12_addPiece_33 (by decide) ?_
        refine rn_icmp_ne (tgt := 41) dX12_addPiece_35 (by decide) (fun c35 => ?_) (fun c35 => ?_)
        · refine rn_aload_n dX12_addPiece_41 rfl ?_
          refine rn_callV dX12_addPiece_42 lmX12_123 ⟨Nat.le_of_ble_eq_true rfl, Nat.le_of_ble_eq_true rfl⟩ (cm_note g f hM hs hp h2 hl hPS hP hV) hM rfl rfl (Nat.le_of_ble_eq_true rfl) ?_
          rintro _ f1 ⟨rfl, k1, o1, pr', hp', hPS'⟩
          refine rn_aload_n dX12_addPiece_45 rfl ?_
          refine rn_iload_n dX12_addPiece_46 rfl ?_
          refine rn_iload_n dX12_addPiece_47 rfl ?_
          refine rn_iload_n dX12_addPiece_48 rfl ?_
          refine rn_iconst (v := nI 1) dX12_addPiece_49 (by decide) ?_
          refine rn_callV dX12_addPiece_50 lmX12_135 ⟨Nat.le_of_ble_eq_true rfl, Nat.le_of_ble_eq_true rfl⟩ (cm_adds g f1 y z (nI 1) o1 (hs.keep (k1 76 (by decide) (by decide))) hP hV hn hs0 (ok_pos hs0 hx)) o1 rfl rfl (Nat.le_of_ble_eq_true rfl) ?_
          rintro _ f2 ⟨rfl, k2, s', hs', hSP'⟩
          obtain ⟨sc, hsc, hsce⟩ := id hs'
          have e5 : sc 4 = nI (pN P + 1) := (hsce 4 (by omega)).trans hSP'.2.2.2.2.1
          refine rn_aload_n dX12_addPiece_53 rfl ?_
          refine rn_get dX12_addPiece_54 lfX12_7 ((k2 75 (by decide)).trans o1) rfl ?_
          refine rn_iconst (v := nI 4) dX12_addPiece_57 (by decide) ?_
          refine rn_iald dX12_addPiece_58 hsc (vp_in_nI (show 4 < 73 by omega) (by decide)) ?_
          rw [nI_clamp (by decide), e5]
          refine rn_iconst (v := nI 1) dX12_addPiece_59 (by decide) ?_
          refine rn_isub dX12_addPiece_60 ?_
          rw [show nI (pN P + 1) - nI 1 = nI (pN P) from pk_sub (by omega)]
          refine rn_iret dX12_addPiece_61 rfl ?_
          exact ⟨fun j hj => (k2 j (by omega)).trans (k1 j (by omega) (by omega)), MI_set hm (fun j hj => (k2 j (by omega)).trans (k1 j (by omega) (by omega))) ((k2 75 (by decide)).trans o1) hs' hSP' (hp'.keep (k2 77 (by decide))) hPS' hl hT h4, rfl⟩
        · exact absurd ((nI_eq (b := 8) (by omega) (by decide)).mp c35) (by omega)
      · exact absurd c22 (by decide)
theorem cm_removePieceNo (g : GG) (f : Mm) {P : PS} {H : List PS} {T : List Nat} {x : Int32} (hI : MI f P H T) (hV : VD P) (hx : inR x (pN P) = false) : Ct g MX12_removePiece [.ref 75, .int x] f 0 0 (fun r f' => f = f' ∧ r = some (.int (-1))) := by
  refine Ct.of ok_MX12_removePiece (Nat.le_of_ble_eq_true rfl) ?_
  change Wp g MX12_removePiece 0 [some (.ref 75), some (.int x), none] [] f 0 0 _
  obtain ⟨wi, cv, s, hM, hs, hP⟩ := hI.ent
  refine rn_aload_n dX12_removePiece_0 rfl ?_
  refine rn_iload_n dX12_removePiece_1 rfl ?_
  refine rn_callV dX12_removePiece_2 lmX12_139 ⟨Nat.le_of_ble_eq_true rfl, Nat.le_of_ble_eq_true rfl⟩ (cm_isPiece g f x hM hs hP hV) hM rfl rfl (Nat.le_of_ble_eq_true rfl) ?_
  rintro _ _ ⟨rfl, rfl⟩
  rw [hx]
  refine rn_if_ne (tgt := 10) dX12_removePiece_5 (by decide) (fun c5 => ?_) (fun c5 => ?_)
  · exact absurd (show bI false = 0 from rfl) c5
  · refine rn_iconst (v := (-1)) dX12_removePiece_8 (by decide) ?_
    refine rn_iret dX12_removePiece_9 rfl ?_
    exact ⟨rfl, rfl⟩
theorem cm_removePiece (g : GG) (f : Mm) {P S : PS} {H : List PS} {T : List Nat} {p : Nat} (hI : MI f P H T) (hV : VD P) (hp0 : p < pN P) (hD : isDrop P p S) : Ct g MX12_removePiece [.ref 75, .int (nI p)] f 0 0 (fun r f' => (∀ j, j < 75 → f' j = f j) ∧ MI f' S (psh H P) T ∧ r = some (.int (nI (pN P - 1)))) := by
  refine Ct.of ok_MX12_removePiece (Nat.le_of_ble_eq_true rfl) ?_
  change Wp g MX12_removePiece 0 [some (.ref 75), some (.int (nI p)), none] [] f 0 0 _
  obtain ⟨wi, cv, s, pr, ⟨hM, hs, hP, hm⟩, hp, h2, hl, hPS, hT, h4⟩ := hI
  have v8 := hV.2.2.2.2
  have ha := hV.area
  have hin : inR (nI p) (pN P) = true := inR_nI hp0 (by omega)
  have loop : ∀ (d k : Nat) (f1 : Mm) (s1 pr' : Nat → Int32), 41 + 4 * (pN P - 1) - k = d → 41 + 4 * p ≤ k → k ≤ 41 + 4 * (pN P - 1) → (∀ j, (j < 75 ∨ 77 < j) → f1 j = f j) → f1 75 = some (MO (upd wi 2 (nI (psh H P).length)) cv) → AR f1 77 438 pr' → PSr pr' (psh H P) → AR f1 76 73 s1 → s1 4 = nI (pN P - 1) → (∀ i, i ≠ 4 → (i < 41 + 4 * p ∨ k ≤ i) → s1 i = s i) → (∀ i, 41 + 4 * p ≤ i → i < k → s1 i = s (i + 4)) → Wp g MX12_removePiece 31 [some (.ref 75), some (.int (nI p)), some (.int (nI k))] [] f1 0 0 (fun r f' => (∀ j, j < 75 → f' j = f j) ∧ MI f' S (psh H P) T ∧ r = some (.int (nI (pN P - 1)))) := by
    intro d
    induction d using Nat.strongRecOn with
    | ind d ih =>
      intro k f1 s1 pr' hd hk1 hk2 k1 o1 hp' hPS' hs1 e4 e1 e2
      obtain ⟨sb, hsb, hsbe⟩ := id hs1
      have b4 : sb 4 = nI (pN P - 1) := (hsbe 4 (by omega)).trans e4
      by_cases hlt : k < 41 + 4 * (pN P - 1)
      · refine rn_iload_n dX12_removePiece_31 rfl ?_
        refine rn_bipush (v := nI 41) dX12_removePiece_32 (by decide) ?_
        refine rn_iconst (v := nI 4) dX12_removePiece_34 (by decide) ?_
        refine rn_aload_n dX12_removePiece_35 rfl ?_
        refine rn_get dX12_removePiece_36 lfX12_7 o1 rfl ?_
        refine rn_iconst (v := nI 4) dX12_removePiece_39 (by decide) ?_
        refine rn_iald dX12_removePiece_40 hsb (vp_in_nI (show 4 < 73 by omega) (by decide)) ?_
        rw [nI_clamp (by decide), b4]
        refine rn_imul dX12_removePiece_41 ?_
        rw [pk_mul]
        refine rn_iadd dX12_removePiece_42 ?_
        rw [nI_add]
        refine rn_icmp_ge (tgt := 66) dX12_removePiece_43 (by decide) (fun c43 => ?_) (fun c43 => ?_)
        · exact absurd (ge_ex c43 (by omega) (by omega)) (by omega)
        · refine rn_aload_n dX12_removePiece_46 rfl ?_
          refine rn_get dX12_removePiece_47 lfX12_7 o1 rfl ?_
          refine rn_iload_n dX12_removePiece_50 rfl ?_
          refine rn_aload_n dX12_removePiece_51 rfl ?_
          refine rn_get dX12_removePiece_52 lfX12_7 o1 rfl ?_
          refine rn_iload_n dX12_removePiece_55 rfl ?_
          refine rn_iconst (v := nI 4) dX12_removePiece_56 (by decide) ?_
          refine rn_iadd dX12_removePiece_57 ?_
          rw [nI_add]
          refine rn_iald dX12_removePiece_58 hsb (vp_in_nI (show k + 4 < 73 by omega) (by decide)) ?_
          rw [nI_clamp (by omega), hsbe _ (by omega), e1 _ (by omega) (by omega)]
          refine rn_iast dX12_removePiece_59 hsb (vp_in_nI (show k < 73 by omega) (by decide)) ?_
          refine Wp.gen (e := .inl (0, 73, .inl (upd sb (nI k).toNatClampNeg (s (k + 4))))) (fun f2 k2 o2 => ?_)
          refine rn_iinc (v := nI (k + 1)) dX12_removePiece_60 rfl (nI_1 k) (Nat.le_of_ble_eq_true rfl) rfl ?_
          refine rn_goto (tgt := 31) dX12_removePiece_63 (by decide) ?_
          refine ih _ (by omega) (k + 1) f2 (upd s1 k (s (k + 4))) pr' rfl (by omega) (by omega) (fun j hj => (k2 j (by omega)).trans (k1 j hj)) ((k2 75 (by decide)).trans o1) (hp'.keep (k2 77 (by decide))) hPS' ⟨_, o2, fun i hi => ?_⟩ ((upd_ne (by omega)).trans e4) (fun i h4 hi => (upd_ne (by omega)).trans (e1 i h4 (by omega))) (fun i h3 hi => ?_)
          · rw [nI_clamp (by omega)]
            by_cases e : i = k
            · rw [e, upd_eq, upd_eq]
            · rw [upd_ne e, upd_ne e]; exact hsbe i hi
          · by_cases e : i = k
            · rw [e, upd_eq]
            · rw [upd_ne e]; exact e2 i h3 (by omega)
      · have hke : k = 41 + 4 * (pN P - 1) := by omega
        subst hke
        refine rn_iload_n dX12_removePiece_31 rfl ?_
        refine rn_bipush (v := nI 41) dX12_removePiece_32 (by decide) ?_
        refine rn_iconst (v := nI 4) dX12_removePiece_34 (by decide) ?_
        refine rn_aload_n dX12_removePiece_35 rfl ?_
        refine rn_get dX12_removePiece_36 lfX12_7 o1 rfl ?_
        refine rn_iconst (v := nI 4) dX12_removePiece_39 (by decide) ?_
        refine rn_iald dX12_removePiece_40 hsb (vp_in_nI (show 4 < 73 by omega) (by decide)) ?_
        rw [nI_clamp (by decide), b4]
        refine rn_imul dX12_removePiece_41 ?_
        rw [pk_mul]
        refine rn_iadd dX12_removePiece_42 ?_
        rw [nI_add]
        refine rn_icmp_ge (tgt := 66) dX12_removePiece_43 (by decide) (fun c43 => ?_) (fun c43 => ?_)
        · refine rn_aload_n dX12_removePiece_66 rfl ?_
          refine rn_get dX12_removePiece_67 lfX12_7 o1 rfl ?_
          refine rn_iconst (v := nI 4) dX12_removePiece_70 (by decide) ?_
          refine rn_iald dX12_removePiece_71 hsb (vp_in_nI (show 4 < 73 by omega) (by decide)) ?_
          rw [nI_clamp (by decide), b4]
          refine rn_iret dX12_removePiece_72 rfl ?_
          obtain ⟨p1, p2, p3, p4, p5, p6, p7⟩ := id hP
          obtain ⟨d1, d2, d3, d4, d5, d6, d7⟩ := id hD
          refine ⟨fun j hj => k1 j (by omega), MI_set hm (fun j hj => k1 j (by omega)) o1 hs1 ⟨?_, ?_, ?_, ?_, ?_, fun i hi => ?_, fun i hi => ?_⟩ hp' hPS' hl hT h4, rfl⟩
          · rw [e1 0 (by omega) (by omega), p1, d1]
          · rw [e1 1 (by omega) (by omega), p2, d2]
          · rw [e1 2 (by omega) (by omega), p3, d3]
          · rw [e1 3 (by omega) (by omega), p4, d4]
          · rw [e4, d5]
          · rw [d1, d2] at hi
            rw [e1 _ (by omega) (by omega), p6 i hi, d6]
          · rw [d5] at hi
            obtain ⟨g1, g2, g3, g4⟩ := d7 i hi
            rw [g1, g2, g3, g4]
            unfold drp
            by_cases hip : i < p
            · obtain ⟨q1, q2, q3, q4⟩ := p7 i (by omega)
              simp only [hip, if_true]
              exact ⟨(e1 _ (by omega) (by omega)).trans q1, (e1 _ (by omega) (by omega)).trans q2, (e1 _ (by omega) (by omega)).trans q3, (e1 _ (by omega) (by omega)).trans q4⟩
            · obtain ⟨q1, q2, q3, q4⟩ := p7 (i + 1) (by omega)
              simp only [hip, if_false]
              exact ⟨(e2 _ (by omega) (by omega)).trans (by rw [show 41 + 4 * i + 4 = 41 + 4 * (i + 1) by omega]; exact q1), (e2 _ (by omega) (by omega)).trans (by rw [show 41 + 4 * i + 1 + 4 = 41 + 4 * (i + 1) + 1 by omega]; exact q2), (e2 _ (by omega) (by omega)).trans (by rw [show 41 + 4 * i + 2 + 4 = 41 + 4 * (i + 1) + 2 by omega]; exact q3), (e2 _ (by omega) (by omega)).trans (by rw [show 41 + 4 * i + 3 + 4 = 41 + 4 * (i + 1) + 3 by omega]; exact q4)⟩
        · exact absurd (ge_in c43 (by omega)) (by omega)
  refine rn_aload_n dX12_removePiece_0 rfl ?_
  refine rn_iload_n dX12_removePiece_1 rfl ?_
  refine rn_callV dX12_removePiece_2 lmX12_139 ⟨Nat.le_of_ble_eq_true rfl, Nat.le_of_ble_eq_true rfl⟩ (cm_isPiece g f (nI p) hM hs hP hV) hM rfl rfl (Nat.le_of_ble_eq_true rfl) ?_
  rintro _ _ ⟨rfl, rfl⟩
  rw [hin]
  refine rn_if_ne (tgt := 10) dX12_removePiece_5 (by decide) (fun c5 => ?_) (fun c5 => ?_)
  · refine rn_aload_n dX12_removePiece_10 rfl ?_
    refine rn_callV dX12_removePiece_11 lmX12_123 ⟨Nat.le_of_ble_eq_true rfl, Nat.le_of_ble_eq_true rfl⟩ (cm_note g f hM hs hp h2 hl hPS hP hV) hM rfl rfl (Nat.le_of_ble_eq_true rfl) ?_
    rintro _ f1 ⟨rfl, k1, o1, pr', hp', hPS'⟩
    obtain ⟨sb, hsb, hsbe⟩ := id (hs.keep (k1 76 (by decide) (by decide)))
    have b4 : sb 4 = nI (pN P) := (hsbe 4 (by omega)).trans hP.2.2.2.2.1
    refine rn_aload_n dX12_removePiece_14 rfl ?_
    refine rn_get dX12_removePiece_15 lfX12_7 o1 rfl ?_
    refine rn_iconst (v := nI 4) dX12_removePiece_18 (by decide) ?_
    refine rn_dup2 dX12_removePiece_19 rfl rfl ?_
    refine rn_iald dX12_removePiece_20 hsb (vp_in_nI (show 4 < 73 by omega) (by decide)) ?_
    rw [nI_clamp (by decide), b4]
    refine rn_iconst (v := nI 1) dX12_removePiece_21 (by decide) ?_
    refine rn_isub dX12_removePiece_22 ?_
    rw [show nI (pN P) - nI 1 = nI (pN P - 1) from pk_sub (by omega)]
    refine rn_iast dX12_removePiece_23 hsb (vp_in_nI (show 4 < 73 by omega) (by decide)) ?_
    refine Wp.gen (e := .inl (0, 73, .inl (upd sb (nI 4).toNatClampNeg (nI (pN P - 1))))) (fun f2 k2 o2 => ?_)
    refine rn_bipush (v := nI 41) dX12_removePiece_24 (by decide) ?_
    refine rn_iconst (v := nI 4) dX12_removePiece_26 (by decide) ?_
    refine rn_iload_n dX12_removePiece_27 rfl ?_
    refine rn_imul dX12_removePiece_28 ?_
    rw [pk_mul]
    refine rn_iadd dX12_removePiece_29 ?_
    rw [nI_add]
    refine rn_istore_n dX12_removePiece_30 (Nat.le_of_ble_eq_true rfl) rfl ?_
    refine loop _ (41 + 4 * p) f2 (upd s 4 (nI (pN P - 1))) pr' rfl (Nat.le_refl _) (by omega) (fun j hj => (k2 j (by omega)).trans (k1 j (by omega) (by omega))) ((k2 75 (by decide)).trans o1) (hp'.keep (k2 77 (by decide))) hPS' ⟨_, o2, fun i hi => ?_⟩ (upd_eq _ _ _) (fun i h4 hi => upd_ne h4) (fun i h3 hi => by omega)
    rw [nI_clamp (by decide)]
    by_cases e : i = 4
    · rw [e, upd_eq, upd_eq]
    · rw [upd_ne e, upd_ne e]; exact hsbe i hi
  · exact absurd c5 (by decide)
theorem cm_undoNo (g : GG) (f : Mm) {P : PS} {T : List Nat} (hI : MI f P [] T) : Ct g MX12_undo [.ref 75] f 0 0 (fun r f' => f = f' ∧ r = some (.int (-2))) := by
  refine Ct.of ok_MX12_undo (Nat.le_of_ble_eq_true rfl) ?_
  change Wp g MX12_undo 0 [some (.ref 75), none] [] f 0 0 _
  obtain ⟨wi, cv, s, pr, ⟨hM, hs, hP, hm⟩, hp, h2, hl, hPS, hT, h4⟩ := hI
  replace h2 : wi 2 = nI 0 := h2
  refine rn_aload_n dX12_undo_0 rfl ?_
  refine rn_get dX12_undo_1 lfX12_64 hM rfl ?_
  rw [h2]
  refine rn_if_ne (tgt := 10) dX12_undo_4 (by decide) (fun c4 => ?_) (fun c4 => ?_)
  · exact absurd (show nI 0 = 0 from rfl) c4
  · refine rn_bipush (v := (-2)) dX12_undo_7 (by decide) ?_
    refine rn_iret dX12_undo_9 rfl ?_
    exact ⟨rfl, rfl⟩
theorem cm_undo (g : GG) (f : Mm) {P S : PS} {H : List PS} {T : List Nat} (hI : MI f P (H ++ [S]) T) : Ct g MX12_undo [.ref 75] f 0 0 (fun r f' => (∀ j, j < 75 → f' j = f j) ∧ MI f' S H T ∧ r = some (.int (nI H.length))) := by
  refine Ct.of ok_MX12_undo (Nat.le_of_ble_eq_true rfl) ?_
  change Wp g MX12_undo 0 [some (.ref 75), none] [] f 0 0 _
  obtain ⟨wi, cv, s, pr, ⟨hM, hs, hP, hm⟩, hp, h2, hl, hPS, hT, h4⟩ := hI
  have hlen : (H ++ [S]).length = H.length + 1 := by rw [List.length_append, List.length_singleton]
  rw [hlen] at h2 hl
  obtain ⟨hVS, hSS⟩ := hPS H.length S (by rw [List.getElem?_append_right (Nat.le_refl _), Nat.sub_self]; rfl)
  obtain ⟨pb, hpb, hpbe⟩ := id hp
  have loop : ∀ (d k : Nat) (f1 : Mm) (s1 : Nat → Int32), 73 - k = d → k ≤ 73 → (∀ j, j ≠ 75 → j ≠ 76 → f1 j = f j) → f1 75 = some (MO (upd wi 2 (nI H.length)) cv) → AR f1 76 73 s1 → (∀ i, i < k → s1 i = pr (73 * H.length + i)) → Wp g MX12_undo 22 [some (.ref 75), some (.int (nI k))] [] f1 0 0 (fun r f' => (∀ j, j < 75 → f' j = f j) ∧ MI f' S H T ∧ r = some (.int (nI H.length))) := by
    intro d
    induction d using Nat.strongRecOn with
    | ind d ih =>
      intro k f1 s1 hd hk k1 o1 hs1 e1
      obtain ⟨sb, hsb, hsbe⟩ := id hs1
      by_cases hlt : k < 73
      · refine rn_iload_n dX12_undo_22 rfl ?_
        refine rn_bipush (v := nI 73) dX12_undo_23 (by decide) ?_
        refine rn_icmp_ge (tgt := 54) dX12_undo_25 (by decide) (fun c25 => ?_) (fun c25 => ?_)
        · exact absurd (ge_ex c25 (by omega) (by decide)) (by omega)
        · refine rn_aload_n dX12_undo_28 rfl ?_
          refine rn_get dX12_undo_29 lfX12_7 o1 rfl ?_
          refine rn_iload_n dX12_undo_32 rfl ?_
          refine rn_aload_n dX12_undo_33 rfl ?_
          refine rn_get dX12_undo_34 lfX12_13 o1 rfl ?_
          refine rn_bipush (v := nI 73) dX12_undo_37 (by decide) ?_
          refine rn_aload_n dX12_undo_39 rfl ?_
          refine rn_get dX12_undo_40 lfX12_64 o1 rfl ?_
          rw [upd_eq]
          refine rn_imul dX12_undo_43 ?_
          rw [pk_mul]
          refine rn_iload_n dX12_undo_44 rfl ?_
          refine rn_iadd dX12_undo_45 ?_
          rw [nI_add]
          refine rn_iald dX12_undo_46 ((k1 77 (by decide) (by decide)).trans hpb) (vp_in_nI (show 73 * H.length + k < 438 by omega) (by decide)) ?_
          rw [nI_clamp (by omega), hpbe _ (by omega)]
          refine rn_iast dX12_undo_47 hsb (vp_in_nI hlt (by decide)) ?_
          refine Wp.gen (e := .inl (0, 73, .inl (upd sb (nI k).toNatClampNeg (pr (73 * H.length + k))))) (fun f2 k2 o2 => ?_)
          refine rn_iinc (v := nI (k + 1)) dX12_undo_48 rfl (nI_1 k) (Nat.le_of_ble_eq_true rfl) rfl ?_
          refine rn_goto (tgt := 22) dX12_undo_51 (by decide) ?_
          refine ih _ (by omega) (k + 1) f2 (upd s1 k (pr (73 * H.length + k))) rfl (by omega) (fun j a b => (k2 j b).trans (k1 j a b)) ((k2 75 (by decide)).trans o1) ⟨_, o2, fun i hi => ?_⟩ (fun i hi => ?_)
          · rw [nI_clamp (by omega)]
            by_cases e : i = k
            · rw [e, upd_eq, upd_eq]
            · rw [upd_ne e, upd_ne e]; exact hsbe i hi
          · by_cases e : i = k
            · rw [e, upd_eq]
            · rw [upd_ne e]; exact e1 i (by omega)
      · have hke : k = 73 := by omega
        subst hke
        refine rn_iload_n dX12_undo_22 rfl ?_
        refine rn_bipush (v := nI 73) dX12_undo_23 (by decide) ?_
        refine rn_icmp_ge (tgt := 54) dX12_undo_25 (by decide) (fun c25 => ?_) (fun c25 => ?_)
        · refine rn_aload_n dX12_undo_54 rfl ?_
          refine rn_get dX12_undo_55 lfX12_64 o1 rfl ?_
          rw [upd_eq]
          refine rn_iret dX12_undo_58 rfl ?_
          refine ⟨fun j hj => k1 j (by omega) (by omega), ⟨_, cv, s1, pr, ⟨o1, hs1, hSS.cong hVS (fun k hk => e1 k hk), hm.keep (fun j a b => k1 j (by omega) (by omega))⟩, hp.keep (k1 77 (by decide) (by decide)), upd_eq _ _ _, by omega, fun i S' hS' => hPS i S' ?_, hT.keep (k1 78 (by decide) (by decide)), (upd_ne (by decide)).trans h4⟩, rfl⟩
          rw [List.getElem?_append_left (List.getElem?_eq_some_iff.mp hS').1]
          exact hS'
        · exact absurd (ge_in c25 (by decide)) (by decide)
  refine rn_aload_n dX12_undo_0 rfl ?_
  refine rn_get dX12_undo_1 lfX12_64 hM rfl ?_
  rw [h2]
  refine rn_if_ne (tgt := 10) dX12_undo_4 (by decide) (fun c4 => ?_) (fun c4 => ?_)
  · refine rn_aload_n dX12_undo_10 rfl ?_
    refine rn_dup dX12_undo_11 rfl ?_
    refine rn_get dX12_undo_12 lfX12_64 hM rfl ?_
    refine rn_iconst (v := nI 1) dX12_undo_15 (by decide) ?_
    refine rn_isub dX12_undo_16 ?_
    rw [h2, show nI (H.length + 1) - nI 1 = nI H.length from pk_sub (by omega)]
    refine rn_put dX12_undo_17 lpX12_64 hM rfl rfl (Nat.le_of_ble_eq_true rfl) ?_
    rw [ms2]
    refine Wp.gen (e := MO (upd wi 2 (nI H.length)) cv) (fun f1 k1 o1 => ?_)
    refine rn_iconst (v := nI 0) dX12_undo_20 (by decide) ?_
    refine rn_istore_n dX12_undo_21 (Nat.le_of_ble_eq_true rfl) rfl ?_
    exact loop 73 0 f1 s rfl (by omega) (fun j a b => k1 j a) o1 (hs.keep (k1 76 (by decide))) (fun i hi => by omega)
  · exact absurd c4 (nI_ne0 (by omega) (by omega))
