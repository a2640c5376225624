-- the Model's search
def CXm (f : Mm) (q : SQ) (wi : Nat → Int32) : Prop := (∃ s, AR f 76 73 s ∧ SP s q.1) ∧ PLm f q.2.1 ∧ wi 12 = nI q.2.1.length
theorem CXm.keep {f f' : Mm} {q : SQ} {wi wi' : Nat → Int32} (h : CXm f q wi) (e : ∀ k, 76 ≤ k → k ≤ 84 → f' k = f k) (e2 : wi' 12 = wi 12) : CXm f' q wi' := by
  obtain ⟨⟨s, h1, h2⟩, h3, h4⟩ := h
  exact ⟨⟨s, h1.keep (e 76 (by omega) (by omega)), h2⟩, h3.keep (fun k a b => e k (by omega) b), e2.trans h4⟩
def MKr (f : Mm) (q : SQ) (x : SX) : Prop := (∃ U, AR f 87 37 U ∧ ∀ j k, x.1.reverse[j]? = some k → U j = nI k) ∧ (∃ V, AR f 88 37 V ∧ V x.1.length = nI x.2.1) ∧ AL f 89 4 (fun c => tnS q.2.1 q.2.2.1 c x.1) ∧ ∃ Y, AR f 90 8 Y ∧ ∀ p, p < pN q.1 → Y p = nI (q.2.2.2 p - usS q.2.1 p x.1)
def MK (f : Mm) (q : SQ) (x : SX) (wi : Nat → Int32) : Prop := f 75 = some (MO wi (lN (cvS q.2.1 x.1))) ∧ wi 26 = nI x.1.length ∧ wi 30 = nI x.2.2 ∧ MKr f q x
theorem MKr.keep {f f' : Mm} {q : SQ} {x : SX} (h : MKr f q x) (e : ∀ k, 87 ≤ k → k ≤ 90 → f' k = f k) : MKr f' q x := by
  obtain ⟨⟨U, h1, h2⟩, ⟨V, h3, h4⟩, h5, Y, h6, h7⟩ := h
  exact ⟨⟨U, h1.keep (e 87 (by omega) (by omega)), h2⟩, ⟨V, h3.keep (e 88 (by omega) (by omega)), h4⟩, h5.keep (e 89 (by omega) (by omega)), Y, h6.keep (e 90 (by omega) (by omega)), h7⟩
theorem cm_fits (g : GG) (f : Mm) {q : SQ} {x : SX} {wi : Nat → Int32} {k : Nat} (hK : MK f q x wi) (hC : CXm f q wi) (hQ : QV q) (hi : IVs q x.1) (hk : k < q.2.1.length) : Ct g MX12_fits [.ref 75, .int (nI k)] f 0 0 (fun r f' => f = f' ∧ r = some (.int (bI (ftS q x.1 k)))) := by
  refine Ct.of ok_MX12_fits (Nat.le_of_ble_eq_true rfl) ?_
  change Wp g MX12_fits 0 [some (.ref 75), some (.int (nI k)), none, none] [] f 0 0 _
  obtain ⟨hM, -, -, -, -, hT, Y, hY, hYe⟩ := id hK
  obtain ⟨⟨s, hs, hP⟩, hL, hw⟩ := id hC
  obtain ⟨⟨b1, g1, q1⟩, -, -, ⟨b4, g4, q4⟩, -⟩ := id hL
  obtain ⟨y, hy, hye⟩ := id hY
  obtain ⟨tb, htb, htbe⟩ := id hT
  replace htbe : ∀ i, i < 4 → tb i = lN (tnS q.2.1 q.2.2.1 i x.1) := htbe
  obtain ⟨sb, hsb, hsbe⟩ := id hs
  have hl := hQ.2.1.2.1
  have hp := hQ.pc hk
  have v8 := hQ.1.2.2.2.2
  have hco := hQ.co hp
  have hcp := hQ.cp hp
  have hmk := hQ.mk hk
  have hcv := cv_lt hQ hi
  have hus := us_le (qp q k) hi
  have e1 : b1 k = nI (qp q k) := q1 k _ (gp_some hk)
  have e4 : b4 k = lN (msk q.2.1 k) := q4 k _ (gp_some hk)
  have hru := hQ.2.2.2.2
  have htl := tn_lt hQ (q.2.2.1 (qp q k)) hi
  have hbs : bsP q.1 (msk q.2.1 k) < 2 ^ 36 := Nat.lt_of_lt_of_le (bsk_lt _ (Nat.le_refl _)) (pw_36 hQ.1.area)
  have esc : s (41 + 4 * qp q k + 2) = nI (q.2.2.1 (qp q k)) := ((hP.2.2.2.2.2.2 _ hp).2.2.1).trans hco.1
  have es3 : sb 3 = nI (pRu q.1) := (hsbe 3 (by omega)).trans hP.2.2.2.1
  have no : ftS q x.1 k = false → Wp g MX12_fits 48 [some (.ref 75), some (.int (nI k)), some (.int (nI (q.2.2.1 (qp q k)))), some (.int (nI 0))] [] f 0 0 (fun r f' => f = f' ∧ r = some (.int (bI (ftS q x.1 k)))) := fun hz => by
    refine rn_iload_n dX12_fits_48 rfl ?_
    refine rn_if_eq (tgt := 91) dX12_fits_49 (by decide) (fun c49 => ?_) (fun c49 => ?_)
    · refine rn_iconst (v := nI 0) dX12_fits_91 (by decide) ?_
      refine rn_zret dX12_fits_92 rfl rfl ?_
      exact ⟨rfl, by rw [hz]; rfl⟩
    · exact absurd (show nI 0 = 0 from rfl) c49
  have yes : ftS q x.1 k = okR q x.1 k → Wp g MX12_fits 48 [some (.ref 75), some (.int (nI k)), some (.int (nI (q.2.2.1 (qp q k)))), some (.int (nI 1))] [] f 0 0 (fun r f' => f = f' ∧ r = some (.int (bI (ftS q x.1 k)))) := fun hz => by
    rw [hz]
    refine rn_iload_n dX12_fits_48 rfl ?_
    refine rn_if_eq (tgt := 91) dX12_fits_49 (by decide) (fun c49 => ?_) (fun c49 => ?_)
    · refine rn_iconst (v := nI 0) dX12_fits_91 (by decide) ?_
      refine rn_zret dX12_fits_92 rfl rfl ?_
      exact absurd c49 (by decide)
    · refine rn_aload_n dX12_fits_52 rfl ?_
      refine rn_get dX12_fits_53 lfX12_7 hM rfl ?_
      refine rn_iconst (v := nI 3) dX12_fits_56 (by decide) ?_
      refine rn_iald dX12_fits_57 hsb (vp_in_nI (show 3 < 73 by omega) (by decide)) ?_
      rw [nI_clamp (by decide), es3]
      refine rn_if_eq (tgt := 87) dX12_fits_58 (by decide) (fun c58 => ?_) (fun c58 => ?_)
      · refine rn_iconst (v := nI 1) dX12_fits_87 (by decide) ?_
        refine rn_goto (tgt := 92) dX12_fits_88 (by decide) ?_
        refine rn_zret dX12_fits_92 rfl rfl ?_
        exact ⟨rfl, by rw [okR, decide_eq_true ((az (by omega)).mp c58)]; rfl⟩
      · refine rn_iload_n dX12_fits_61 rfl ?_
        refine rn_if_eq (tgt := 87) dX12_fits_62 (by decide) (fun c62 => ?_) (fun c62 => ?_)
        · refine rn_iconst (v := nI 1) dX12_fits_87 (by decide) ?_
          refine rn_goto (tgt := 92) dX12_fits_88 (by decide) ?_
          refine rn_zret dX12_fits_92 rfl rfl ?_
          exact ⟨rfl, by rw [okR, decide_eq_true ((az (by omega)).mp c62), Bool.true_or, Bool.or_true]; rfl⟩
        · refine rn_aload_n dX12_fits_65 rfl ?_
          refine rn_aload_n dX12_fits_66 rfl ?_
          refine rn_get dX12_fits_67 lfX12_32 hM rfl ?_
          refine rn_iload_n dX12_fits_70 rfl ?_
          refine rn_lald dX12_fits_71 g4 (vp_in_nI (show k < 2304 by omega) (by decide)) ?_
          rw [nI_clamp (by omega), e4]
          refine rn_callV dX12_fits_72 lmX12_214 ⟨Nat.le_of_ble_eq_true rfl, Nat.le_of_ble_eq_true rfl⟩ (cm_beside g f (m := msk q.2.1 k) hM hs hP hQ.1 hmk.2) hM rfl rfl (Nat.le_of_ble_eq_true rfl) ?_
          rintro _ _ ⟨rfl, rfl⟩
          refine rn_aload_n dX12_fits_75 rfl ?_
          refine rn_get dX12_fits_76 lfX12_51 hM rfl ?_
          refine rn_iload_n dX12_fits_79 rfl ?_
          refine rn_lald dX12_fits_80 htb (vp_in_nI hco.2 (by decide)) ?_
          rw [nI_clamp (by omega), htbe _ hco.2]
          refine rn_land dX12_fits_81 ?_
          rw [wb_and (by omega) (by omega)]
          refine rn_lconst (v := 0) dX12_fits_82 (by decide) ?_
          refine rn_lcmp dX12_fits_83 ?_
          refine rn_if_ne (tgt := 91) dX12_fits_84 (by decide) (fun c84 => ?_) (fun c84 => ?_)
          · refine rn_iconst (v := nI 0) dX12_fits_91 (by decide) ?_
            refine rn_zret dX12_fits_92 rfl rfl ?_
            have h3 : ¬ bsP q.1 (msk q.2.1 k) &&& tnS q.2.1 q.2.2.1 (q.2.2.1 (qp q k)) x.1 = 0 := fun h => c84 ((lg_cmp_eq _ _).mpr (by rw [h]; rfl))
            exact ⟨rfl, by rw [okR, decide_eq_false (fun h => c58 (by rw [h]; rfl)), decide_eq_false (fun h => c62 (by rw [h]; rfl)), decide_eq_false h3]; rfl⟩
          · refine rn_iconst (v := nI 1) dX12_fits_87 (by decide) ?_
            refine rn_goto (tgt := 92) dX12_fits_88 (by decide) ?_
            refine rn_zret dX12_fits_92 rfl rfl ?_
            have h3 : bsP q.1 (msk q.2.1 k) &&& tnS q.2.1 q.2.2.1 (q.2.2.1 (qp q k)) x.1 = 0 := (lb_eq (b := 0) (Nat.lt_of_le_of_lt Nat.and_le_right (by omega)) (by decide)).mp ((lg_cmp_eq _ _).mp c84)
            exact ⟨rfl, by rw [okR, decide_eq_true h3, Bool.or_true, Bool.or_true]; rfl⟩
  refine rn_aload_n dX12_fits_0 rfl ?_
  refine rn_aload_n dX12_fits_1 rfl ?_
  refine rn_get dX12_fits_2 lfX12_23 hM rfl ?_
  refine rn_iload_n dX12_fits_5 rfl ?_
  refine rn_iald dX12_fits_6 g1 (vp_in_nI (show k < 2304 by omega) (by decide)) ?_
  rw [nI_clamp (by omega), e1]
  refine rn_iconst (v := nI 2) dX12_fits_7 (by decide) ?_
  refine rn_callV dX12_fits_8 lmX12_95 ⟨Nat.le_of_ble_eq_true rfl, Nat.le_of_ble_eq_true rfl⟩ (cm_its g f hM hs (show qp q k < 8 by omega) (show 2 < 4 by decide)) hM rfl rfl (Nat.le_of_ble_eq_true rfl) ?_
  rintro _ _ ⟨rfl, rfl⟩
  rw [esc]
  refine rn_istore_n dX12_fits_11 (Nat.le_of_ble_eq_true rfl) rfl ?_
  refine rn_aload_n dX12_fits_12 rfl ?_
  refine rn_get dX12_fits_13 lfX12_32 hM rfl ?_
  refine rn_iload_n dX12_fits_16 rfl ?_
  refine rn_lald dX12_fits_17 g4 (vp_in_nI (show k < 2304 by omega) (by decide)) ?_
  rw [nI_clamp (by omega), e4]
  refine rn_aload_n dX12_fits_18 rfl ?_
  refine rn_get dX12_fits_19 lfX12_210 hM rfl ?_
  refine rn_land dX12_fits_22 ?_
  rw [wb_and (by omega) (by omega)]
  refine rn_lconst (v := 0) dX12_fits_23 (by decide) ?_
  refine rn_lcmp dX12_fits_24 ?_
  refine rn_if_ne (tgt := 46) dX12_fits_25 (by decide) (fun c25 => ?_) (fun c25 => ?_)
  · refine rn_iconst (v := nI 0) dX12_fits_46 (by decide) ?_
    refine rn_istore_n dX12_fits_47 (Nat.le_of_ble_eq_true rfl) rfl ?_
    exact no (by rw [ftS, decide_eq_false (fun h => c25 ((lg_cmp_eq _ _).mpr (by rw [h]; rfl)))]; rfl)
  · refine rn_aload_n dX12_fits_28 rfl ?_
    refine rn_get dX12_fits_29 lfX12_54 hM rfl ?_
    refine rn_aload_n dX12_fits_32 rfl ?_
    refine rn_get dX12_fits_33 lfX12_23 hM rfl ?_
    refine rn_iload_n dX12_fits_36 rfl ?_
    refine rn_iald dX12_fits_37 g1 (vp_in_nI (show k < 2304 by omega) (by decide)) ?_
    rw [nI_clamp (by omega), e1]
    refine rn_iald dX12_fits_38 hy (vp_in_nI (show qp q k < 8 by omega) (by decide)) ?_
    rw [nI_clamp (by omega), hye _ (by omega), hYe _ hp]
    refine rn_if_le (tgt := 46) dX12_fits_39 (by decide) (fun c39 => ?_) (fun c39 => ?_)
    · refine rn_iconst (v := nI 0) dX12_fits_46 (by decide) ?_
      refine rn_istore_n dX12_fits_47 (Nat.le_of_ble_eq_true rfl) rfl ?_
      exact no (by rw [ftS, decide_eq_false (show ¬ usS q.2.1 (qp q k) x.1 < q.2.2.2 (qp q k) from fun h => absurd c39 (nI_nle (by omega) (by omega))), Bool.false_and, Bool.and_false])
    · refine rn_iconst (v := nI 1) dX12_fits_42 (by decide) ?_
      refine rn_goto (tgt := 47) dX12_fits_43 (by decide) ?_
      refine rn_istore_n dX12_fits_47 (Nat.le_of_ble_eq_true rfl) rfl ?_
      have h0 : msk q.2.1 k &&& cvS q.2.1 x.1 = 0 := (lb_eq (b := 0) (Nat.lt_of_le_of_lt Nat.and_le_left (by omega)) (by decide)).mp ((lg_cmp_eq _ _).mp c25)
      have h1 : usS q.2.1 (qp q k) x.1 < q.2.2.2 (qp q k) := Nat.lt_of_not_le fun h => c39 (by rw [show q.2.2.2 (qp q k) - usS q.2.1 (qp q k) x.1 = 0 by omega]; decide)
      exact yes (by rw [ftS, decide_eq_true h0, decide_eq_true h1, Bool.true_and, Bool.true_and])
theorem cm_turns (g : GG) (f : Mm) {q : SQ} {wi Y : Nat → Int32} {T : Nat → Nat} {k c0 : Nat} (on : Bool) (hM : f 75 = some (MO wi (lN c0))) (hC : CXm f q wi) (hQ : QV q) (hk : k < q.2.1.length) (hT : AL f 89 4 T) (hY : AR f 90 8 Y) (hT2 : ∀ c, c < 4 → T c < 2 ^ 36) (hc0 : c0 < 2 ^ 36) : Ct g MX12_turns [.ref 75, .int (nI k), .int (bI on)] f 0 0 (fun r f' => r = none ∧ (∀ j, j ≠ 75 → j ≠ 89 → j ≠ 90 → f' j = f j) ∧ f' 75 = some (MO wi (lN (c0 ^^^ msk q.2.1 k))) ∧ AL f' 89 4 (updN T (q.2.2.1 (qp q k)) (T (q.2.2.1 (qp q k)) ^^^ msk q.2.1 k)) ∧ AR f' 90 8 (upd Y (qp q k) (Y (qp q k) + (if on then -1 else 1)))) := by
  refine Ct.of ok_MX12_turns (Nat.le_of_ble_eq_true rfl) ?_
  change Wp g MX12_turns 0 [some (.ref 75), some (.int (nI k)), some (.int (bI on))] [] f 0 0 _
  obtain ⟨⟨s, hs, hP⟩, hL, hw⟩ := id hC
  obtain ⟨⟨b1, g1, q1⟩, -, -, ⟨b4, g4, q4⟩, -⟩ := id hL
  obtain ⟨y, hy, hye⟩ := id hY
  obtain ⟨tb, htb, htbe⟩ := id hT
  have hl := hQ.2.1.2.1
  have hp := hQ.pc hk
  have v8 := hQ.1.2.2.2.2
  have hco := hQ.co hp
  have hmk := hQ.mk hk
  have htl := hT2 _ hco.2
  have e1 : b1 k = nI (qp q k) := q1 k _ (gp_some hk)
  have e4 : b4 k = lN (msk q.2.1 k) := q4 k _ (gp_some hk)
  have esc : s (41 + 4 * qp q k + 2) = nI (q.2.2.1 (qp q k)) := ((hP.2.2.2.2.2.2 _ hp).2.2.1).trans hco.1
  have fin : ∀ (f2 : Mm) (v : Int32), v = y (qp q k) + (if on then -1 else 1) → (∀ j, j ≠ 75 → j ≠ 89 → f2 j = f j) → f2 75 = some (MO wi (lN (c0 ^^^ msk q.2.1 k))) → AL f2 89 4 (updN T (q.2.2.1 (qp q k)) (T (q.2.2.1 (qp q k)) ^^^ msk q.2.1 k)) → Wp g MX12_turns 62 [some (.ref 75), some (.int (nI k)), some (.int (bI on))] [.int v, .int (nI (qp q k)), .ref 90] f2 0 0 (fun r f' => r = none ∧ (∀ j, j ≠ 75 → j ≠ 89 → j ≠ 90 → f' j = f j) ∧ f' 75 = some (MO wi (lN (c0 ^^^ msk q.2.1 k))) ∧ AL f' 89 4 (updN T (q.2.2.1 (qp q k)) (T (q.2.2.1 (qp q k)) ^^^ msk q.2.1 k)) ∧ AR f' 90 8 (upd Y (qp q k) (Y (qp q k) + (if on then -1 else 1)))) := fun f2 v hv k2 o2 t2 => by
    subst hv
    refine rn_iast dX12_turns_62 ((k2 90 (by decide) (by decide)).trans hy) (vp_in_nI (show qp q k < 8 by omega) (by decide)) ?_
    refine rn_vret dX12_turns_63 rfl ?_
    refine ⟨rfl, fun j a b c => (up_ne c).trans (k2 j a b), (up_ne (by decide)).trans o2, t2.keep (up_ne (by decide)), ⟨_, up_same _ _ _, fun i hi => ?_⟩⟩
    rw [nI_clamp (by omega)]
    by_cases e : i = qp q k
    · rw [e, upd_eq, upd_eq, hye _ (by omega)]
    · rw [upd_ne e, upd_ne e]; exact hye i hi
  refine rn_aload_n dX12_turns_0 rfl ?_
  refine rn_dup dX12_turns_1 rfl ?_
  refine rn_get dX12_turns_2 lfX12_210 hM rfl ?_
  refine rn_aload_n dX12_turns_5 rfl ?_
  refine rn_get dX12_turns_6 lfX12_32 hM rfl ?_
  refine rn_iload_n dX12_turns_9 rfl ?_
  refine rn_lald dX12_turns_10 g4 (vp_in_nI (show k < 2304 by omega) (by decide)) ?_
  rw [nI_clamp (by omega), e4]
  refine rn_lxor dX12_turns_11 ?_
  rw [lb_xor (by omega) (by omega)]
  refine rn_put dX12_turns_12 lpX12_210 hM rfl rfl (Nat.le_of_ble_eq_true rfl) ?_
  rw [ms27]
  refine Wp.gen (e := MO wi (lN (c0 ^^^ msk q.2.1 k))) (fun f1 k1 o1 => ?_)
  refine rn_aload_n dX12_turns_15 rfl ?_
  refine rn_get dX12_turns_16 lfX12_51 o1 rfl ?_
  refine rn_aload_n dX12_turns_19 rfl ?_
  refine rn_aload_n dX12_turns_20 rfl ?_
  refine rn_get dX12_turns_21 lfX12_23 o1 rfl ?_
  refine rn_iload_n dX12_turns_24 rfl ?_
  refine rn_iald dX12_turns_25 ((k1 80 (by decide)).trans g1) (vp_in_nI (show k < 2304 by omega) (by decide)) ?_
  rw [nI_clamp (by omega), e1]
  refine rn_iconst (v := nI 2) dX12_turns_26 (by decide) ?_
  refine rn_callV dX12_turns_27 lmX12_95 ⟨Nat.le_of_ble_eq_true rfl, Nat.le_of_ble_eq_true rfl⟩ (cm_its g f1 o1 (hs.keep (k1 76 (by decide))) (show qp q k < 8 by omega) (show 2 < 4 by decide)) o1 rfl rfl (Nat.le_of_ble_eq_true rfl) ?_
  rintro _ _ ⟨rfl, rfl⟩
  rw [esc]
  refine rn_dup2 dX12_turns_30 rfl rfl ?_
  refine rn_lald dX12_turns_31 ((k1 89 (by decide)).trans htb) (vp_in_nI hco.2 (by decide)) ?_
  rw [nI_clamp (by omega), htbe _ hco.2]
  refine rn_aload_n dX12_turns_32 rfl ?_
  refine rn_get dX12_turns_33 lfX12_32 o1 rfl ?_
  refine rn_iload_n dX12_turns_36 rfl ?_
  refine rn_lald dX12_turns_37 ((k1 83 (by decide)).trans g4) (vp_in_nI (show k < 2304 by omega) (by decide)) ?_
  rw [nI_clamp (by omega), e4]
  refine rn_lxor dX12_turns_38 ?_
  rw [lb_xor (by omega) (by omega)]
  refine rn_last dX12_turns_39 ((k1 89 (by decide)).trans htb) (vp_in_nI hco.2 (by decide)) ?_
  refine Wp.gen (e := .inl (1, 4, .inr (.inl (vp_updL tb (nI (q.2.2.1 (qp q k))).toNatClampNeg (lN (T (q.2.2.1 (qp q k)) ^^^ msk q.2.1 k)))))) (fun f2 k2 o2 => ?_)
  have k3 : ∀ j, j ≠ 75 → j ≠ 89 → f2 j = f j := fun j a b => (k2 j b).trans (k1 j a)
  have o3 := (k2 75 (by decide)).trans o1
  have t3 : AL f2 89 4 (updN T (q.2.2.1 (qp q k)) (T (q.2.2.1 (qp q k)) ^^^ msk q.2.1 k)) := ⟨_, o2, fun i hi => by
    rw [nI_clamp (by omega)]
    by_cases e : i = q.2.2.1 (qp q k)
    · rw [e]; simp [updN, vp_updL]
    · simp [updN, vp_updL, e]; exact htbe i hi⟩
  refine rn_aload_n dX12_turns_40 rfl ?_
  refine rn_get dX12_turns_41 lfX12_54 o3 rfl ?_
  refine rn_aload_n dX12_turns_44 rfl ?_
  refine rn_get dX12_turns_45 lfX12_23 o3 rfl ?_
  refine rn_iload_n dX12_turns_48 rfl ?_
  refine rn_iald dX12_turns_49 ((k3 80 (by decide) (by decide)).trans g1) (vp_in_nI (show k < 2304 by omega) (by decide)) ?_
  rw [nI_clamp (by omega), e1]
  refine rn_dup2 dX12_turns_50 rfl rfl ?_
  refine rn_iald dX12_turns_51 ((k3 90 (by decide) (by decide)).trans hy) (vp_in_nI (show qp q k < 8 by omega) (by decide)) ?_
  rw [nI_clamp (by omega)]
  refine rn_iload_n dX12_turns_52 rfl ?_
  refine rn_if_eq (tgt := 60) dX12_turns_53 (by decide) (fun c53 => ?_) (fun c53 => ?_)
  · refine rn_iconst (v := nI 1) dX12_turns_60 (by decide) ?_
    refine rn_iadd dX12_turns_61 ?_
    exact fin f2 _ (by rw [bI_0.mp c53]; rfl) k3 o3 t3
  · refine rn_iconst (v := (-1)) dX12_turns_56 (by decide) ?_
    refine rn_goto (tgt := 61) dX12_turns_57 (by decide) ?_
    refine rn_iadd dX12_turns_61 ?_
    exact fin f2 _ (by rw [bI_n0.mp c53]; rfl) k3 o3 t3
