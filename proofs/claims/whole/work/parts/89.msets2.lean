theorem cm_setCopiesNo (g : GG) (f : Mm) {P : PS} {H : List PS} {T : List Nat} {x y : Int32} (hI : MI f P H T) (hV : VD P) (hx : inR x (pN P) = false ∨ ¬ (nI 1 ≤ y ∧ y ≤ nI 9)) : Ct g MX12_setCopies [.ref 75, .int x, .int y] f 0 0 (fun r f' => f = f' ∧ r = some (.int (-1))) := by
  refine Ct.of ok_MX12_setCopies (Nat.le_of_ble_eq_true rfl) ?_
  change Wp g MX12_setCopies 0 [some (.ref 75), some (.int x), some (.int y)] [] f 0 0 _
  obtain ⟨wi, cv, s, hM, hs, hP⟩ := hI.ent
  have fin : ∀ a : Int32, Wp g MX12_setCopies 21 [some (.ref 75), some (.int x), some (.int y)] [.int a, .ref 75] f 0 0 (fun r f' => f = f' ∧ r = some (.int (-1))) := fun a => by
    have h44 : Wp g MX12_setCopies 44 [some (.ref 75), some (.int x), some (.int y)] [.int y, .int a, .ref 75] f 0 0 (fun r f' => f = f' ∧ r = some (.int (-1))) := by
      refine rn_iconst (v := nI 0) dX12_setCopies_44 (by decide) ?_
      refine rn_callV dX12_setCopies_45 lmX12_142 ⟨Nat.le_of_ble_eq_true rfl, Nat.le_of_ble_eq_true rfl⟩ (cm_setsNo g f a y hM) hM rfl rfl (Nat.le_of_ble_eq_true rfl) ?_
      rintro _ _ ⟨rfl, rfl⟩
      refine rn_iret dX12_setCopies_48 rfl ?_
      exact ⟨rfl, rfl⟩
    rcases hx with hx | hx
    · refine rn_iload_n dX12_setCopies_21 rfl ?_
      refine rn_aload_n dX12_setCopies_22 rfl ?_
      refine rn_iload_n dX12_setCopies_23 rfl ?_
      refine rn_callV dX12_setCopies_24 lmX12_139 ⟨Nat.le_of_ble_eq_true rfl, Nat.le_of_ble_eq_true rfl⟩ (cm_isPiece g f x hM hs hP hV) hM rfl rfl (Nat.le_of_ble_eq_true rfl) ?_
      rintro _ _ ⟨rfl, rfl⟩
      rw [hx]
      refine rn_if_eq (tgt := 44) dX12_setCopies_27 (by decide) (fun c27 => ?_) (fun c27 => ?_)
      · exact h44
      · exact absurd (show bI false = 0 from rfl) c27
    · refine rn_iload_n dX12_setCopies_21 rfl ?_
      refine rn_aload_n dX12_setCopies_22 rfl ?_
      refine rn_iload_n dX12_setCopies_23 rfl ?_
      refine rn_callV dX12_setCopies_24 lmX12_139 ⟨Nat.le_of_ble_eq_true rfl, Nat.le_of_ble_eq_true rfl⟩ (cm_isPiece g f x hM hs hP hV) hM rfl rfl (Nat.le_of_ble_eq_true rfl) ?_
      rintro _ _ ⟨rfl, rfl⟩
      refine rn_if_eq (tgt := 44) dX12_setCopies_27 (by decide) (fun c27 => ?_) (fun c27 => ?_)
      · exact h44
      · refine rn_iload_n dX12_setCopies_30 rfl ?_
        refine rn_iconst (v := nI 1) dX12_setCopies_31 (by decide) ?_
        refine rn_bipush (v := nI 9) dX12_setCopies_32 (by decide) ?_
        refine rn_callS dX12_setCopies_34 lmX12_72 ⟨Nat.le_of_ble_eq_true rfl, Nat.le_of_ble_eq_true rfl⟩ (cm_in g f y (nI 1) (nI 9)) rfl rfl (Nat.le_of_ble_eq_true rfl) ?_
        rintro _ _ ⟨rfl, rfl⟩
        rw [decide_eq_false hx]
        refine rn_if_eq (tgt := 44) dX12_setCopies_37 (by decide) (fun c37 => ?_) (fun c37 => ?_)
        · exact h44
        · exact absurd (show bI false = 0 from rfl) c37
  refine rn_aload_n dX12_setCopies_0 rfl ?_
  refine rn_aload_n dX12_setCopies_1 rfl ?_
  refine rn_iload_n dX12_setCopies_2 rfl ?_
  refine rn_callV dX12_setCopies_3 lmX12_139 ⟨Nat.le_of_ble_eq_true rfl, Nat.le_of_ble_eq_true rfl⟩ (cm_isPiece g f x hM hs hP hV) hM rfl rfl (Nat.le_of_ble_eq_true rfl) ?_
  rintro _ _ ⟨rfl, rfl⟩
  refine rn_if_eq (tgt := 20) dX12_setCopies_6 (by decide) (fun c6 => ?_) (fun c6 => ?_)
  · refine rn_iconst (v := nI 0) dX12_setCopies_20 (by decide) ?_
    exact fin _
  · refine rn_bipush (v := nI 41) dX12_setCopies_9 (by decide) ?_
    refine rn_iconst (v := nI 4) dX12_setCopies_11 (by decide) ?_
    refine rn_iload_n dX12_setCopies_12 rfl ?_
    refine rn_imul dX12_setCopies_13 ?_
    refine rn_iadd dX12_setCopies_14 ?_
    refine rn_iconst (v := nI 3) dX12_setCopies_15 (by decide) ?_
    refine rn_iadd dX12_setCopies_16 ?_
    refine rn_goto (tgt := 21) dX12_setCopies_17 (by decide) ?_
    exact fin _
theorem cm_setBoardNo (g : GG) (f : Mm) {P : PS} {H : List PS} {T : List Nat} {x y : Int32} (hI : MI f P H T) (hx : ¬ (nI 1 ≤ x ∧ x ≤ nI 6) ∨ ¬ (nI 1 ≤ y ∧ y ≤ nI 6)) : Ct g MX12_setBoard [.ref 75, .int x, .int y] f 0 0 (fun r f' => f = f' ∧ r = some (.int (-1))) := by
  refine Ct.of ok_MX12_setBoard (Nat.le_of_ble_eq_true rfl) ?_
  change Wp g MX12_setBoard 0 [some (.ref 75), some (.int x), some (.int y), none] [] f 0 0 _
  by_cases h : nI 1 ≤ x ∧ x ≤ nI 6
  · refine rn_iload_n dX12_setBoard_0 rfl ?_
    refine rn_iconst (v := nI 1) dX12_setBoard_1 (by decide) ?_
    refine rn_bipush (v := nI 6) dX12_setBoard_2 (by decide) ?_
    refine rn_callS dX12_setBoard_4 lmX12_72 ⟨Nat.le_of_ble_eq_true rfl, Nat.le_of_ble_eq_true rfl⟩ (cm_in g f x (nI 1) (nI 6)) rfl rfl (Nat.le_of_ble_eq_true rfl) ?_
    rintro _ _ ⟨rfl, rfl⟩
    refine rn_if_eq (tgt := 20) dX12_setBoard_7 (by decide) (fun c7 => ?_) (fun c7 => ?_)
    · refine rn_iconst (v := (-1)) dX12_setBoard_20 (by decide) ?_
      refine rn_iret dX12_setBoard_21 rfl ?_
      exact ⟨rfl, rfl⟩
    · refine rn_iload_n dX12_setBoard_10 rfl ?_
      refine rn_iconst (v := nI 1) dX12_setBoard_11 (by decide) ?_
      refine rn_bipush (v := nI 6) dX12_setBoard_12 (by decide) ?_
      refine rn_callS dX12_setBoard_14 lmX12_72 ⟨Nat.le_of_ble_eq_true rfl, Nat.le_of_ble_eq_true rfl⟩ (cm_in g f y (nI 1) (nI 6)) rfl rfl (Nat.le_of_ble_eq_true rfl) ?_
      rintro _ _ ⟨rfl, rfl⟩
      rw [decide_eq_false (hx.resolve_left (fun q => q h))]
      refine rn_if_ne (tgt := 22) dX12_setBoard_17 (by decide) (fun c17 => ?_) (fun c17 => ?_)
      · exact absurd (show bI false = 0 from rfl) c17
      · refine rn_iconst (v := (-1)) dX12_setBoard_20 (by decide) ?_
        refine rn_iret dX12_setBoard_21 rfl ?_
        exact ⟨rfl, rfl⟩
  · refine rn_iload_n dX12_setBoard_0 rfl ?_
    refine rn_iconst (v := nI 1) dX12_setBoard_1 (by decide) ?_
    refine rn_bipush (v := nI 6) dX12_setBoard_2 (by decide) ?_
    refine rn_callS dX12_setBoard_4 lmX12_72 ⟨Nat.le_of_ble_eq_true rfl, Nat.le_of_ble_eq_true rfl⟩ (cm_in g f x (nI 1) (nI 6)) rfl rfl (Nat.le_of_ble_eq_true rfl) ?_
    rintro _ _ ⟨rfl, rfl⟩
    rw [decide_eq_false h]
    refine rn_if_eq (tgt := 20) dX12_setBoard_7 (by decide) (fun c7 => ?_) (fun c7 => ?_)
    · refine rn_iconst (v := (-1)) dX12_setBoard_20 (by decide) ?_
      refine rn_iret dX12_setBoard_21 rfl ?_
      exact ⟨rfl, rfl⟩
    · exact absurd (show bI false = 0 from rfl) c7
theorem cm_setBoard (g : GG) (f : Mm) {P : PS} {H : List PS} {T : List Nat} {w h : Nat} (hI : MI f P H T) (hV : VD P) (w1 : 1 ≤ w) (w6 : w ≤ 6) (h1 : 1 ≤ h) (h6 : h ≤ 6) : Ct g MX12_setBoard [.ref 75, .int (nI w), .int (nI h)] f 0 0 (fun r f' => (∀ j, j < 75 → f' j = f j) ∧ MI f' (pBoard P w h) (psh H P) T ∧ r = some (.int (nI (w * h)))) := by
  refine Ct.of ok_MX12_setBoard (Nat.le_of_ble_eq_true rfl) ?_
  change Wp g MX12_setBoard 0 [some (.ref 75), some (.int (nI w)), some (.int (nI h)), none] [] f 0 0 _
  obtain ⟨wi, cv, s, pr, ⟨hM, hs, hP, hm⟩, hp, h2, hl, hPS, hT, h4⟩ := hI
  have d1 : decide (nI 1 ≤ nI w ∧ nI w ≤ nI 6) = true := decide_eq_true ⟨nI_le w1 (by omega), nI_le w6 (by decide)⟩
  have d2 : decide (nI 1 ≤ nI h ∧ nI h ≤ nI 6) = true := decide_eq_true ⟨nI_le h1 (by omega), nI_le h6 (by decide)⟩
  have hwh : w * h ≤ 36 := Nat.mul_le_mul w6 h6
  have loop : ∀ (d c : Nat) (f1 : Mm) (s1 pr' : Nat → Int32), 36 - c = d → c ≤ 36 → (∀ j, (j < 75 ∨ 77 < j) → f1 j = f j) → f1 75 = some (MO (upd wi 2 (nI (psh H P).length)) cv) → AR f1 77 438 pr' → PSr pr' (psh H P) → AR f1 76 73 s1 → s1 0 = nI w → s1 1 = nI h → (∀ k, (1 < k ∧ k < 5) ∨ 41 ≤ k → s1 k = s k) → (∀ i, i < c → s1 (5 + i) = 0) → Wp g MX12_setBoard 42 [some (.ref 75), some (.int (nI w)), some (.int (nI h)), some (.int (nI c))] [] f1 0 0 (fun r f' => (∀ j, j < 75 → f' j = f j) ∧ MI f' (pBoard P w h) (psh H P) T ∧ r = some (.int (nI (w * h)))) := by
    intro d
    induction d using Nat.strongRecOn with
    | ind d ih =>
      intro c f1 s1 pr' hd hc k1 o1 hp' hPS' hs1 e0 e1 e2 e3
      obtain ⟨sb, hsb, hsbe⟩ := id hs1
      by_cases hlt : c < 36
      · refine rn_iload_n dX12_setBoard_42 rfl ?_
        refine rn_bipush (v := nI 36) dX12_setBoard_43 (by decide) ?_
        refine rn_icmp_ge (tgt := 63) dX12_setBoard_45 (by decide) (fun c45 => ?_) (fun c45 => ?_)
        · exact absurd (ge_ex c45 (by omega) (by decide)) (by omega)
        · refine rn_aload_n dX12_setBoard_48 rfl ?_
          refine rn_get dX12_setBoard_49 lfX12_7 o1 rfl ?_
          refine rn_iconst (v := nI 5) dX12_setBoard_52 (by decide) ?_
          refine rn_iload_n dX12_setBoard_53 rfl ?_
          refine rn_iadd dX12_setBoard_54 ?_
          rw [nI_add]
          refine rn_iconst (v := nI 0) dX12_setBoard_55 (by decide) ?_
          refine rn_iast dX12_setBoard_56 hsb (vp_in_nI (show 5 + c < 73 by omega) (by decide)) ?_
          refine Wp.gen (e := .inl (0, 73, .inl (upd sb (nI (5 + c)).toNatClampNeg (nI 0)))) (fun f2 k2 o2 => ?_)
          refine rn_iinc (v := nI (c + 1)) dX12_setBoard_57 rfl (nI_1 c) (Nat.le_of_ble_eq_true rfl) rfl ?_
          refine rn_goto (tgt := 42) dX12_setBoard_60 (by decide) ?_
          refine ih _ (by omega) (c + 1) f2 (upd s1 (5 + c) (nI 0)) pr' rfl (by omega) (fun j hj => (k2 j (by omega)).trans (k1 j hj)) ((k2 75 (by decide)).trans o1) (hp'.keep (k2 77 (by decide))) hPS' ⟨_, o2, fun i hi => ?_⟩ ((upd_ne (by omega)).trans e0) ((upd_ne (by omega)).trans e1) (fun k hk => (upd_ne (by omega)).trans (e2 k hk)) (fun i hi => ?_)
          · rw [nI_clamp (by omega)]
            by_cases e : i = 5 + c
            · rw [e, upd_eq, upd_eq]
            · rw [upd_ne e, upd_ne e]; exact hsbe i hi
          · by_cases e : i = c
            · rw [e, upd_eq]; rfl
            · rw [upd_ne (by omega)]; exact e3 i (by omega)
      · have hce : c = 36 := by omega
        subst hce
        refine rn_iload_n dX12_setBoard_42 rfl ?_
        refine rn_bipush (v := nI 36) dX12_setBoard_43 (by decide) ?_
        refine rn_icmp_ge (tgt := 63) dX12_setBoard_45 (by decide) (fun c45 => ?_) (fun c45 => ?_)
        · refine rn_iload_n dX12_setBoard_63 rfl ?_
          refine rn_iload_n dX12_setBoard_64 rfl ?_
          refine rn_imul dX12_setBoard_65 ?_
          rw [pk_mul]
          refine rn_iret dX12_setBoard_66 rfl ?_
          obtain ⟨p1, p2, p3, p4, p5, p6, p7⟩ := id hP
          refine ⟨fun j hj => k1 j (by omega), MI_set hm (fun j hj => k1 j (by omega)) o1 hs1 ⟨e0, e1, (e2 2 (by omega)).trans p3, (e2 3 (by omega)).trans p4, (e2 4 (by omega)).trans p5, fun i hi => ?_, fun i hi => ?_⟩ hp' hPS' hl hT h4, rfl⟩
          · have hi2 : i < w * h := hi
            exact e3 i (by omega)
          · obtain ⟨a, b, c2, d2⟩ := p7 i hi
            exact ⟨(e2 _ (by omega)).trans a, (e2 _ (by omega)).trans b, (e2 _ (by omega)).trans c2, (e2 _ (by omega)).trans d2⟩
        · exact absurd (ge_in c45 (by decide)) (by decide)
  refine rn_iload_n dX12_setBoard_0 rfl ?_
  refine rn_iconst (v := nI 1) dX12_setBoard_1 (by decide) ?_
  refine rn_bipush (v := nI 6) dX12_setBoard_2 (by decide) ?_
  refine rn_callS dX12_setBoard_4 lmX12_72 ⟨Nat.le_of_ble_eq_true rfl, Nat.le_of_ble_eq_true rfl⟩ (cm_in g f (nI w) (nI 1) (nI 6)) rfl rfl (Nat.le_of_ble_eq_true rfl) ?_
  rintro _ _ ⟨rfl, rfl⟩
  rw [d1]
  refine rn_if_eq (tgt := 20) dX12_setBoard_7 (by decide) (fun c7 => ?_) (fun c7 => ?_)
  · exact absurd c7 (by decide)
  · refine rn_iload_n dX12_setBoard_10 rfl ?_
    refine rn_iconst (v := nI 1) dX12_setBoard_11 (by decide) ?_
    refine rn_bipush (v := nI 6) dX12_setBoard_12 (by decide) ?_
    refine rn_callS dX12_setBoard_14 lmX12_72 ⟨Nat.le_of_ble_eq_true rfl, Nat.le_of_ble_eq_true rfl⟩ (cm_in g f (nI h) (nI 1) (nI 6)) rfl rfl (Nat.le_of_ble_eq_true rfl) ?_
    rintro _ _ ⟨rfl, rfl⟩
    rw [d2]
    refine rn_if_ne (tgt := 22) dX12_setBoard_17 (by decide) (fun c17 => ?_) (fun c17 => ?_)
    · refine rn_aload_n dX12_setBoard_22 rfl ?_
      refine rn_callV dX12_setBoard_23 lmX12_123 ⟨Nat.le_of_ble_eq_true rfl, Nat.le_of_ble_eq_true rfl⟩ (cm_note g f hM hs hp h2 hl hPS hP hV) hM rfl rfl (Nat.le_of_ble_eq_true rfl) ?_
      rintro _ f1 ⟨rfl, k1, o1, pr', hp', hPS'⟩
      have hs1 := hs.keep (k1 76 (by decide) (by decide))
      obtain ⟨sb, hsb, hsbe⟩ := id hs1
      refine rn_aload_n dX12_setBoard_26 rfl ?_
      refine rn_get dX12_setBoard_27 lfX12_7 o1 rfl ?_
      refine rn_iconst (v := nI 0) dX12_setBoard_30 (by decide) ?_
      refine rn_iload_n dX12_setBoard_31 rfl ?_
      refine rn_iast dX12_setBoard_32 hsb (vp_in_nI (show 0 < 73 by omega) (by decide)) ?_
      refine Wp.gen (e := .inl (0, 73, .inl (upd sb (nI 0).toNatClampNeg (nI w)))) (fun f2 k2 o2 => ?_)
      refine rn_aload_n dX12_setBoard_33 rfl ?_
      refine rn_get dX12_setBoard_34 lfX12_7 ((k2 75 (by decide)).trans o1) rfl ?_
      refine rn_iconst (v := nI 1) dX12_setBoard_37 (by decide) ?_
      refine rn_iload_n dX12_setBoard_38 rfl ?_
      refine rn_iast dX12_setBoard_39 o2 (vp_in_nI (show 1 < 73 by omega) (by decide)) ?_
      refine Wp.gen (e := .inl (0, 73, .inl (upd (upd sb (nI 0).toNatClampNeg (nI w)) (nI 1).toNatClampNeg (nI h)))) (fun f3 k3 o3 => ?_)
      refine rn_iconst (v := nI 0) dX12_setBoard_40 (by decide) ?_
      refine rn_istore_n dX12_setBoard_41 (Nat.le_of_ble_eq_true rfl) rfl ?_
      refine loop 36 0 f3 (upd (upd s 0 (nI w)) 1 (nI h)) pr' rfl (by omega) (fun j hj => (k3 j (by omega)).trans ((k2 j (by omega)).trans (k1 j (by omega) (by omega)))) ((k3 75 (by decide)).trans ((k2 75 (by decide)).trans o1)) (hp'.keep ((k3 77 (by decide)).trans (k2 77 (by decide)))) hPS' ⟨_, o3, fun i hi => ?_⟩ ((upd_ne (by decide)).trans (upd_eq _ _ _)) (upd_eq _ _ _) (fun k hk => (upd_ne (by omega)).trans (upd_ne (by omega))) (fun i hi => by omega)
      rw [nI_clamp (by omega), nI_clamp (by omega)]
      by_cases e1 : i = 1
      · rw [e1, upd_eq, upd_eq]
      · rw [upd_ne e1, upd_ne e1]
        by_cases e0 : i = 0
        · rw [e0, upd_eq, upd_eq]
        · rw [upd_ne e0, upd_ne e0]; exact hsbe i hi
    · exact absurd c17 (by decide)
theorem cm_setCellNo (g : GG) (f : Mm) {P : PS} {H : List PS} {T : List Nat} {x y : Int32} (hI : MI f P H T) (hV : VD P) (hx : inR x (pW P * pH P) = false ∨ ¬ (nI 0 ≤ y ∧ y ≤ nI 1)) : Ct g MX12_setHole [.ref 75, .int x, .int y] f 0 0 (fun r f' => f = f' ∧ r = some (.int (-1))) := by
  refine Ct.of ok_MX12_setHole (Nat.le_of_ble_eq_true rfl) ?_
  change Wp g MX12_setHole 0 [some (.ref 75), some (.int x), some (.int y)] [] f 0 0 _
  obtain ⟨wi, cv, s, hM, hs, hP⟩ := hI.ent
  rcases hx with hx | hx
  · refine rn_aload_n dX12_setHole_0 rfl ?_
    refine rn_iload_n dX12_setHole_1 rfl ?_
    refine rn_callV dX12_setHole_2 lmX12_126 ⟨Nat.le_of_ble_eq_true rfl, Nat.le_of_ble_eq_true rfl⟩ (cm_isCell g f x hM hs hP hV) hM rfl rfl (Nat.le_of_ble_eq_true rfl) ?_
    rintro _ _ ⟨rfl, rfl⟩
    rw [hx]
    refine rn_if_eq (tgt := 17) dX12_setHole_5 (by decide) (fun c5 => ?_) (fun c5 => ?_)
    · refine rn_iconst (v := (-1)) dX12_setHole_17 (by decide) ?_
      refine rn_iret dX12_setHole_18 rfl ?_
      exact ⟨rfl, rfl⟩
    · exact absurd (show bI false = 0 from rfl) c5
  · refine rn_aload_n dX12_setHole_0 rfl ?_
    refine rn_iload_n dX12_setHole_1 rfl ?_
    refine rn_callV dX12_setHole_2 lmX12_126 ⟨Nat.le_of_ble_eq_true rfl, Nat.le_of_ble_eq_true rfl⟩ (cm_isCell g f x hM hs hP hV) hM rfl rfl (Nat.le_of_ble_eq_true rfl) ?_
    rintro _ _ ⟨rfl, rfl⟩
    refine rn_if_eq (tgt := 17) dX12_setHole_5 (by decide) (fun c5 => ?_) (fun c5 => ?_)
    · refine rn_iconst (v := (-1)) dX12_setHole_17 (by decide) ?_
      refine rn_iret dX12_setHole_18 rfl ?_
      exact ⟨rfl, rfl⟩
    · refine rn_iload_n dX12_setHole_8 rfl ?_
      refine rn_iconst (v := nI 0) dX12_setHole_9 (by decide) ?_
      refine rn_iconst (v := nI 1) dX12_setHole_10 (by decide) ?_
      refine rn_callS dX12_setHole_11 lmX12_72 ⟨Nat.le_of_ble_eq_true rfl, Nat.le_of_ble_eq_true rfl⟩ (cm_in g f y (nI 0) (nI 1)) rfl rfl (Nat.le_of_ble_eq_true rfl) ?_
      rintro _ _ ⟨rfl, rfl⟩
      rw [decide_eq_false hx]
      refine rn_if_ne (tgt := 19) dX12_setHole_14 (by decide) (fun c14 => ?_) (fun c14 => ?_)
      · exact absurd (show bI false = 0 from rfl) c14
      · refine rn_iconst (v := (-1)) dX12_setHole_17 (by decide) ?_
        refine rn_iret dX12_setHole_18 rfl ?_
        exact ⟨rfl, rfl⟩
theorem cm_setHole (g : GG) (f : Mm) {P : PS} {H : List PS} {T : List Nat} {c o : Nat} (hI : MI f P H T) (hV : VD P) (hc : c < pW P * pH P) (ho : o ≤ 1) (hd : (pC P c = -1) ↔ ¬ o = 1) : Ct g MX12_setHole [.ref 75, .int (nI c), .int (nI o)] f 0 0 (fun r f' => (∀ j, j < 75 → f' j = f j) ∧ MI f' (pCell P c (if o = 1 then -1 else 0)) (psh H P) T ∧ r = some (.int (nI (opn (upd (pC P) c (if o = 1 then -1 else 0)) (pW P * pH P))))) := by
  refine Ct.of ok_MX12_setHole (Nat.le_of_ble_eq_true rfl) ?_
  change Wp g MX12_setHole 0 [some (.ref 75), some (.int (nI c)), some (.int (nI o))] [] f 0 0 _
  obtain ⟨wi, cv, s, pr, ⟨hM, hs, hP, hm⟩, hp, h2, hl, hPS, hT, h4⟩ := hI
  have ha := hV.area
  have hin : inR (nI c) (pW P * pH P) = true := inR_nI hc (by omega)
  have d1 : decide (nI 0 ≤ nI o ∧ nI o ≤ nI 1) = true := decide_eq_true ⟨nI_le (by omega) (by omega), nI_le ho (by decide)⟩
  have fin : ∀ (f1 : Mm) (pr' sb : Nat → Int32) (v : Int32), v = (if o = 1 then -1 else 0) → (∀ j, j ≠ 75 → j ≠ 77 → f1 j = f j) → f1 75 = some (MO (upd wi 2 (nI (psh H P).length)) cv) → AR f1 77 438 pr' → PSr pr' (psh H P) → f1 76 = some (.inl (0, 73, .inl sb)) → (∀ i, i < 73 → sb i = s i) → Wp g MX12_setHole 60 [some (.ref 75), some (.int (nI c)), some (.int (nI o))] [.int v, .int (nI (5 + c)), .ref 76] f1 0 0 (fun r f' => (∀ j, j < 75 → f' j = f j) ∧ MI f' (pCell P c (if o = 1 then -1 else 0)) (psh H P) T ∧ r = some (.int (nI (opn (upd (pC P) c (if o = 1 then -1 else 0)) (pW P * pH P))))) := fun f1 pr' sb v hv k1 o1 hp' hPS' hsb hsbe => by
    subst hv
    have hSP := hP.cell hV hc (if o = 1 then -1 else 0)
    refine rn_iast dX12_setHole_60 hsb (vp_in_nI (show 5 + c < 73 by omega) (by decide)) ?_
    refine Wp.gen (e := .inl (0, 73, .inl (upd sb (nI (5 + c)).toNatClampNeg (if o = 1 then -1 else 0)))) (fun f2 k2 o2 => ?_)
    have hs2 : AR f2 76 73 (upd s (5 + c) (if o = 1 then -1 else 0)) := ⟨_, o2, fun i hi => by
      rw [nI_clamp (by omega)]
      by_cases e : i = 5 + c
      · rw [e, upd_eq, upd_eq]
      · rw [upd_ne e, upd_ne e]; exact hsbe i hi⟩
    refine rn_aload_n dX12_setHole_61 rfl ?_
    refine rn_callV dX12_setHole_62 lmX12_129 ⟨Nat.le_of_ble_eq_true rfl, Nat.le_of_ble_eq_true rfl⟩ (cm_opens g f2 ((k2 75 (by decide)).trans o1) hs2 hSP hV) ((k2 75 (by decide)).trans o1) rfl rfl (Nat.le_of_ble_eq_true rfl) ?_
    rintro _ _ ⟨rfl, rfl⟩
    refine rn_iret dX12_setHole_65 rfl ?_
    exact ⟨fun j hj => (k2 j (by omega)).trans (k1 j (by omega) (by omega)), MI_set hm (fun j hj => (k2 j (by omega)).trans (k1 j (by omega) (by omega))) ((k2 75 (by decide)).trans o1) hs2 hSP (hp'.keep (k2 77 (by decide))) hPS' hl hT h4, rfl⟩
  have at39 : Wp g MX12_setHole 39 [some (.ref 75), some (.int (nI c)), some (.int (nI o))] [] f 0 0 (fun r f' => (∀ j, j < 75 → f' j = f j) ∧ MI f' (pCell P c (if o = 1 then -1 else 0)) (psh H P) T ∧ r = some (.int (nI (opn (upd (pC P) c (if o = 1 then -1 else 0)) (pW P * pH P))))) := by
    refine rn_aload_n dX12_setHole_39 rfl ?_
    refine rn_callV dX12_setHole_40 lmX12_123 ⟨Nat.le_of_ble_eq_true rfl, Nat.le_of_ble_eq_true rfl⟩ (cm_note g f hM hs hp h2 hl hPS hP hV) hM rfl rfl (Nat.le_of_ble_eq_true rfl) ?_
    rintro _ f1 ⟨rfl, k1, o1, pr', hp', hPS'⟩
    obtain ⟨sb, hsb, hsbe⟩ := id (hs.keep (k1 76 (by decide) (by decide)))
    refine rn_aload_n dX12_setHole_43 rfl ?_
    refine rn_get dX12_setHole_44 lfX12_7 o1 rfl ?_
    refine rn_iconst (v := nI 5) dX12_setHole_47 (by decide) ?_
    refine rn_iload_n dX12_setHole_48 rfl ?_
    refine rn_iadd dX12_setHole_49 ?_
    rw [nI_add]
    refine rn_iload_n dX12_setHole_50 rfl ?_
    refine rn_iconst (v := nI 1) dX12_setHole_51 (by decide) ?_
    refine rn_icmp_ne (tgt := 59) dX12_setHole_52 (by decide) (fun c52 => ?_) (fun c52 => ?_)
    · refine rn_iconst (v := nI 0) dX12_setHole_59 (by decide) ?_
      exact fin f1 pr' sb _ (by rw [if_neg (fun h => c52 (by rw [h]))]; rfl) k1 o1 hp' hPS' hsb hsbe
    · refine rn_iconst (v := (-1)) dX12_setHole_55 (by decide) ?_
      refine rn_goto (tgt := 60) dX12_setHole_56 (by decide) ?_
      exact fin f1 pr' sb _ (by rw [if_pos ((nI_eq (b := 1) (by omega) (by decide)).mp c52)]) k1 o1 hp' hPS' hsb hsbe
  refine rn_aload_n dX12_setHole_0 rfl ?_
  refine rn_iload_n dX12_setHole_1 rfl ?_
  refine rn_callV dX12_setHole_2 lmX12_126 ⟨Nat.le_of_ble_eq_true rfl, Nat.le_of_ble_eq_true rfl⟩ (cm_isCell g f (nI c) hM hs hP hV) hM rfl rfl (Nat.le_of_ble_eq_true rfl) ?_
  rintro _ _ ⟨rfl, rfl⟩
  rw [hin]
  refine rn_if_eq (tgt := 17) dX12_setHole_5 (by decide) (fun c5 => ?_) (fun c5 => ?_)
  · exact absurd c5 (by decide)
  · refine rn_iload_n dX12_setHole_8 rfl ?_
    refine rn_iconst (v := nI 0) dX12_setHole_9 (by decide) ?_
    refine rn_iconst (v := nI 1) dX12_setHole_10 (by decide) ?_
    refine rn_callS dX12_setHole_11 lmX12_72 ⟨Nat.le_of_ble_eq_true rfl, Nat.le_of_ble_eq_true rfl⟩ (cm_in g f (nI o) (nI 0) (nI 1)) rfl rfl (Nat.le_of_ble_eq_true rfl) ?_
    rintro _ _ ⟨rfl, rfl⟩
    rw [d1]
    refine rn_if_ne (tgt := 19) dX12_setHole_14 (by decide) (fun c14 => ?_) (fun c14 => ?_)
    · refine rn_aload_n dX12_setHole_19 rfl ?_
      refine rn_iload_n dX12_setHole_20 rfl ?_
      refine rn_callV dX12_setHole_21 lmX12_76 ⟨Nat.le_of_ble_eq_true rfl, Nat.le_of_ble_eq_true rfl⟩ (cm_isOpen g f hM hs (show c < 36 by omega)) hM rfl rfl (Nat.le_of_ble_eq_true rfl) ?_
      rintro _ _ ⟨rfl, rfl⟩
      rw [hP.2.2.2.2.2.1 c hc]
      refine rn_iload_n dX12_setHole_24 rfl ?_
      refine rn_if_ne (tgt := 32) dX12_setHole_25 (by decide) (fun c25 => ?_) (fun c25 => ?_)
      · refine rn_iconst (v := nI 0) dX12_setHole_32 (by decide) ?_
        refine rn_icmp_ne (tgt := 39) dX12_setHole_33 (by decide) (fun c33 => ?_) (fun c33 => ?_)
        · exact at39
        · have ho1 : o = 1 := by
            have : ¬ o = 0 := fun h => c25 (by rw [h]; rfl)
            omega
          exact absurd (bI_0.mp c33) (by rw [decide_eq_true (show ¬ pC P c = -1 from fun h => hd.mp h ho1)]; decide)
      · refine rn_iconst (v := nI 1) dX12_setHole_28 (by decide) ?_
        refine rn_goto (tgt := 33) dX12_setHole_29 (by decide) ?_
        refine rn_icmp_ne (tgt := 39) dX12_setHole_33 (by decide) (fun c33 => ?_) (fun c33 => ?_)
        · exact at39
        · have ho0 : o = 0 := (az (by omega)).mp c25
          have h3 : pC P c = -1 := hd.mpr (by omega)
          exact absurd (show bI (decide (¬ pC P c = -1)) = 1 from c33) (by rw [decide_eq_false (fun h => h h3)]; decide)
    · exact absurd c14 (by decide)
theorem cm_setHoleIll (g : GG) (f : Mm) {P : PS} {H : List PS} {T : List Nat} {c o : Nat} (hI : MI f P H T) (hV : VD P) (hc : c < pW P * pH P) (ho : o ≤ 1) (hd : (pC P c = -1) ↔ o = 1) : Ct g MX12_setHole [.ref 75, .int (nI c), .int (nI o)] f 0 0 (fun r f' => f = f' ∧ r = some (.int (-2))) := by
  refine Ct.of ok_MX12_setHole (Nat.le_of_ble_eq_true rfl) ?_
  change Wp g MX12_setHole 0 [some (.ref 75), some (.int (nI c)), some (.int (nI o))] [] f 0 0 _
  obtain ⟨wi, cv, s, hM, hs, hP⟩ := hI.ent
  have ha := hV.area
  have hin : inR (nI c) (pW P * pH P) = true := inR_nI hc (by omega)
  have d1 : decide (nI 0 ≤ nI o ∧ nI o ≤ nI 1) = true := decide_eq_true ⟨nI_le (by omega) (by omega), nI_le ho (by decide)⟩
  refine rn_aload_n dX12_setHole_0 rfl ?_
  refine rn_iload_n dX12_setHole_1 rfl ?_
  refine rn_callV dX12_setHole_2 lmX12_126 ⟨Nat.le_of_ble_eq_true rfl, Nat.le_of_ble_eq_true rfl⟩ (cm_isCell g f (nI c) hM hs hP hV) hM rfl rfl (Nat.le_of_ble_eq_true rfl) ?_
  rintro _ _ ⟨rfl, rfl⟩
  rw [hin]
  refine rn_if_eq (tgt := 17) dX12_setHole_5 (by decide) (fun c5 => ?_) (fun c5 => ?_)
  · exact absurd c5 (by decide)
  · refine rn_iload_n dX12_setHole_8 rfl ?_
    refine rn_iconst (v := nI 0) dX12_setHole_9 (by decide) ?_
    refine rn_iconst (v := nI 1) dX12_setHole_10 (by decide) ?_
    refine rn_callS dX12_setHole_11 lmX12_72 ⟨Nat.le_of_ble_eq_true rfl, Nat.le_of_ble_eq_true rfl⟩ (cm_in g f (nI o) (nI 0) (nI 1)) rfl rfl (Nat.le_of_ble_eq_true rfl) ?_
    rintro _ _ ⟨rfl, rfl⟩
    rw [d1]
    refine rn_if_ne (tgt := 19) dX12_setHole_14 (by decide) (fun c14 => ?_) (fun c14 => ?_)
    · refine rn_aload_n dX12_setHole_19 rfl ?_
      refine rn_iload_n dX12_setHole_20 rfl ?_
      refine rn_callV dX12_setHole_21 lmX12_76 ⟨Nat.le_of_ble_eq_true rfl, Nat.le_of_ble_eq_true rfl⟩ (cm_isOpen g f hM hs (show c < 36 by omega)) hM rfl rfl (Nat.le_of_ble_eq_true rfl) ?_
      rintro _ _ ⟨rfl, rfl⟩
      rw [hP.2.2.2.2.2.1 c hc]
      refine rn_iload_n dX12_setHole_24 rfl ?_
      refine rn_if_ne (tgt := 32) dX12_setHole_25 (by decide) (fun c25 => ?_) (fun c25 => ?_)
      · refine rn_iconst (v := nI 0) dX12_setHole_32 (by decide) ?_
        refine rn_icmp_ne (tgt := 39) dX12_setHole_33 (by decide) (fun c33 => ?_) (fun c33 => ?_)
        · have ho1 : o = 1 := by
            have : ¬ o = 0 := fun h => c25 (by rw [h]; rfl)
            omega
          exact absurd (show bI (decide (¬ pC P c = -1)) = nI 0 by rw [decide_eq_false (fun h => h (hd.mpr ho1))]; rfl) c33
        · refine rn_bipush (v := (-2)) dX12_setHole_36 (by decide) ?_
          refine rn_iret dX12_setHole_38 rfl ?_
          exact ⟨rfl, rfl⟩
      · refine rn_iconst (v := nI 1) dX12_setHole_28 (by decide) ?_
        refine rn_goto (tgt := 33) dX12_setHole_29 (by decide) ?_
        refine rn_icmp_ne (tgt := 39) dX12_setHole_33 (by decide) (fun c33 => ?_) (fun c33 => ?_)
        · have ho0 : o = 0 := (az (by omega)).mp c25
          exact absurd (show bI (decide (¬ pC P c = -1)) = nI 1 by rw [decide_eq_true (show ¬ pC P c = -1 from fun h => by have := hd.mp h; omega)]; rfl) c33
        · refine rn_bipush (v := (-2)) dX12_setHole_36 (by decide) ?_
          refine rn_iret dX12_setHole_38 rfl ?_
          exact ⟨rfl, rfl⟩
    · exact absurd c14 (by decide)
