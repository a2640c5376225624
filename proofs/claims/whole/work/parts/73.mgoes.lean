theorem cm_goesBack (g : GG) (f : Mm) {q : SQ} {x : SX} {wi : Nat → Int32} (hK : MK f q x wi) (hC : CXm f q wi) (hQ : QV q) (hi : IVs q x.1) : Ct g MX12_goesBack [.ref 75] f 0 0 (fun r f' => r = none ∧ (∀ j, j ≠ 75 → j ≠ 88 → j ≠ 89 → j ≠ 90 → f' j = f j) ∧ ((x.1 = [] ∧ MK f' q x (upd wi 33 (nI 1))) ∨ ∃ k t, x.1 = k :: t ∧ MK f' q (t, k + 1, x.2.2) (upd wi 26 (nI t.length)))) := by
  refine Ct.of ok_MX12_goesBack (Nat.le_of_ble_eq_true rfl) ?_
  change Wp g MX12_goesBack 0 [some (.ref 75)] [] f 0 0 _
  obtain ⟨hM, h26, h30, ⟨U, hU, hUe⟩, ⟨V, hV, hVe⟩, hT, Y, hY, hYe⟩ := id hK
  obtain ⟨st, fr, tr⟩ := x
  cases st with
  | nil =>
    replace h26 : wi 26 = nI 0 := h26
    refine rn_aload_n dX12_goesBack_0 rfl ?_
    refine rn_get dX12_goesBack_1 lfX12_218 hM rfl ?_
    rw [h26]
    refine rn_if_ne (tgt := 15) dX12_goesBack_4 (by decide) (fun c4 => ?_) (fun c4 => ?_)
    · exact absurd (show nI 0 = 0 from rfl) c4
    · refine rn_aload_n dX12_goesBack_7 rfl ?_
      refine rn_iconst (v := nI 1) dX12_goesBack_8 (by decide) ?_
      refine rn_put dX12_goesBack_9 lpX12_230 hM rfl rfl (Nat.le_of_ble_eq_true rfl) ?_
      rw [ms33]
      refine rn_goto (tgt := 59) dX12_goesBack_12 (by decide) ?_
      refine rn_vret dX12_goesBack_59 rfl ?_
      refine ⟨rfl, fun j a b c d => up_ne a, Or.inl ⟨rfl, up_same _ _ _, (upd_ne (by decide)).trans h26, (upd_ne (by decide)).trans h30, ⟨U, hU.keep (up_ne (by decide)), hUe⟩, ⟨V, hV.keep (up_ne (by decide)), hVe⟩, hT.keep (up_ne (by decide)), Y, hY.keep (up_ne (by decide)), hYe⟩⟩
  | cons k t =>
    replace h26 : wi 26 = nI (t.length + 1) := h26
    have hk := hi.2.1
    have hlv := lvl_lt hQ hi.1 hi.2.2.2.1
    have hl := hQ.2.1.2.1
    have hp := hQ.pc hk
    have hco := hQ.co hp
    have hus := hi.2.2.2.2.2
    obtain ⟨u, hu, hue⟩ := id hU
    obtain ⟨v, hv, hve⟩ := id hV
    have huk : u t.length = nI k := (hue _ (by omega)).trans (hUe _ _ (rev_top k t))
    refine rn_aload_n dX12_goesBack_0 rfl ?_
    refine rn_get dX12_goesBack_1 lfX12_218 hM rfl ?_
    rw [h26]
    refine rn_if_ne (tgt := 15) dX12_goesBack_4 (by decide) (fun c4 => ?_) (fun c4 => ?_)
    · refine rn_aload_n dX12_goesBack_15 rfl ?_
      refine rn_dup dX12_goesBack_16 rfl ?_
      refine rn_get dX12_goesBack_17 lfX12_218 hM rfl ?_
      refine rn_iconst (v := nI 1) dX12_goesBack_20 (by decide) ?_
      refine rn_isub dX12_goesBack_21 ?_
      rw [h26, show nI (t.length + 1) - nI 1 = nI t.length from pk_sub (by omega)]
      refine rn_put dX12_goesBack_22 lpX12_218 hM rfl rfl (Nat.le_of_ble_eq_true rfl) ?_
      rw [ms26]
      refine Wp.gen (e := MO (upd wi 26 (nI t.length)) (lN (cvS q.2.1 (k :: t)))) (fun f1 k1 o1 => ?_)
      refine rn_aload_n dX12_goesBack_25 rfl ?_
      refine rn_aload_n dX12_goesBack_26 rfl ?_
      refine rn_get dX12_goesBack_27 lfX12_45 o1 rfl ?_
      refine rn_aload_n dX12_goesBack_30 rfl ?_
      refine rn_get dX12_goesBack_31 lfX12_218 o1 rfl ?_
      rw [upd_eq]
      refine rn_iald dX12_goesBack_34 ((k1 87 (by decide)).trans hu) (vp_in_nI (show t.length < 37 by omega) (by decide)) ?_
      rw [nI_clamp (by omega), huk]
      refine rn_iconst (v := nI 0) dX12_goesBack_35 (by decide) ?_
      refine rn_callV dX12_goesBack_36 lmX12_236 ⟨Nat.le_of_ble_eq_true rfl, Nat.le_of_ble_eq_true rfl⟩ (cm_turns g f1 (q := q) (k := k) (c0 := cvS q.2.1 (k :: t)) false o1 (hC.keep (fun j a b => k1 j (by omega)) (upd_ne (by decide))) hQ hk (hT.keep (k1 89 (by decide))) (hY.keep (k1 90 (by decide))) (fun c _ => tn_lt hQ c hi) (cv_lt hQ hi)) o1 rfl rfl (Nat.le_of_ble_eq_true rfl) ?_
      rintro _ f2 ⟨rfl, k2, o2, aT, aY⟩
      refine rn_aload_n dX12_goesBack_39 rfl ?_
      refine rn_get dX12_goesBack_40 lfX12_48 o2 rfl ?_
      refine rn_aload_n dX12_goesBack_43 rfl ?_
      refine rn_get dX12_goesBack_44 lfX12_218 o2 rfl ?_
      refine rn_aload_n dX12_goesBack_47 rfl ?_
      refine rn_get dX12_goesBack_48 lfX12_45 o2 rfl ?_
      refine rn_aload_n dX12_goesBack_51 rfl ?_
      refine rn_get dX12_goesBack_52 lfX12_218 o2 rfl ?_
      rw [upd_eq]
      refine rn_iald dX12_goesBack_55 ((k2 87 (by decide) (by decide) (by decide)).trans ((k1 87 (by decide)).trans hu)) (vp_in_nI (show t.length < 37 by omega) (by decide)) ?_
      rw [nI_clamp (by omega), huk]
      refine rn_iconst (v := nI 1) dX12_goesBack_56 (by decide) ?_
      refine rn_iadd dX12_goesBack_57 ?_
      rw [nI_add]
      refine rn_iast dX12_goesBack_58 ((k2 88 (by decide) (by decide) (by decide)).trans ((k1 88 (by decide)).trans hv)) (vp_in_nI (show t.length < 37 by omega) (by decide)) ?_
      refine rn_vret dX12_goesBack_59 rfl ?_
      refine ⟨rfl, fun j a b c d => (up_ne b).trans ((k2 j a c d).trans (k1 j a)), Or.inr ⟨k, t, rfl, (up_ne (by decide)).trans (by rw [o2, cvS, xor_back]), upd_eq _ _ _, (upd_ne (by decide)).trans h30, ⟨U, hU.keep ((up_ne (by decide)).trans ((k2 87 (by decide) (by decide) (by decide)).trans (k1 87 (by decide)))), fun j k' h => hUe j k' (rev_old h)⟩, ⟨upd v t.length (nI (k + 1)), ⟨_, up_same _ _ _, fun i hi2 => by rw [nI_clamp (by omega)]⟩, upd_eq _ _ _⟩, (aT.keep (up_ne (by decide))).to (fun c hc => ?_), _, aY.keep (up_ne (by decide)), fun p' hp' => ?_⟩⟩
      · unfold updN
        by_cases e : q.2.2.1 (gp q.2.1 k).1 = c
        · rw [if_pos (show c = q.2.2.1 (qp q k) from e.symm), show q.2.2.1 (qp q k) = c from e]
          show tnS q.2.1 q.2.2.1 c (k :: t) ^^^ msk q.2.1 k = tnS q.2.1 q.2.2.1 c t
          rw [tn_c, if_pos e, xor_back]
        · rw [if_neg (fun h => e h.symm)]
          show tnS q.2.1 q.2.2.1 c (k :: t) = tnS q.2.1 q.2.2.1 c t
          rw [tn_c, if_neg e]
      · show upd Y (qp q k) (Y (qp q k) + (if false then -1 else 1)) p' = nI (q.2.2.2 p' - usS q.2.1 p' t)
        have hY1 : Y p' = nI (q.2.2.2 p' - usS q.2.1 p' (k :: t)) := hYe p' hp'
        by_cases e : (gp q.2.1 k).1 = p'
        · rw [show qp q k = p' from e] at hus
          rw [show qp q k = p' from e, upd_eq, hY1, us_c, if_pos e]
          show nI (q.2.2.2 p' - (usS q.2.1 p' t + 1)) + 1 = nI (q.2.2.2 p' - usS q.2.1 p' t)
          rw [nI_1, show q.2.2.2 p' - (usS q.2.1 p' t + 1) + 1 = q.2.2.2 p' - usS q.2.1 p' t by omega]
        · rw [upd_ne (fun h => e h.symm), hY1, us_c, if_neg e]; rfl
    · exact absurd c4 (nI_ne0 (by omega) (by omega))
theorem cm_isCover (g : GG) (f : Mm) {q : SQ} {x : SX} {wi : Nat → Int32} (hK : MK f q x wi) (hC : CXm f q wi) (hQ : QV q) (hi : IVs q x.1) : Ct g MX12_isCover [.ref 75] f 0 0 (fun r f' => f = f' ∧ r = some (.int (bI (isCv q x.1)))) := by
  refine Ct.of ok_MX12_isCover (Nat.le_of_ble_eq_true rfl) ?_
  change Wp g MX12_isCover 0 [some (.ref 75), none, none] [] f 0 0 _
  obtain ⟨hM, -, -, -, -, hT, Y, hY, hYe⟩ := id hK
  obtain ⟨⟨s, hs, hP⟩, hL, hw⟩ := id hC
  obtain ⟨y, hy, hye⟩ := id hY
  obtain ⟨sb, hsb, hsbe⟩ := id hs
  have v8 := hQ.1.2.2.2.2
  have es2 : sb 2 = nI (pMd q.1) := (hsbe 2 (by omega)).trans hP.2.2.1
  have es4 : sb 4 = nI (pN q.1) := (hsbe 4 (by omega)).trans hP.2.2.2.2.1
  have hmd := hQ.2.2.2.1
  have loop : ∀ (d p : Nat), pN q.1 - p = d → p ≤ pN q.1 → Wp g MX12_isCover 4 [some (.ref 75), some (.int (bI (decide (pMd q.1 = 0) || alU q x.1 p))), some (.int (nI p))] [] f 0 0 (fun r f' => f = f' ∧ r = some (.int (bI (isCv q x.1)))) := by
    intro d
    induction d using Nat.strongRecOn with
    | ind d ih =>
      intro p hd hp
      by_cases hlt : p < pN q.1
      · have hus := us_le p hi
        have hcp := hQ.cp hlt
        have e := ih _ (by omega) (p + 1) rfl (by omega)
        have val : ∀ b : Bool, (decide (pMd q.1 = 0) || alU q x.1 (p + 1)) = b → Wp g MX12_isCover 4 [some (.ref 75), some (.int (bI b)), some (.int (nI (p + 1)))] [] f 0 0 (fun r f' => f = f' ∧ r = some (.int (bI (isCv q x.1)))) := fun b hb => by rw [hb] at e; exact e
        refine rn_iload_n dX12_isCover_4 rfl ?_
        refine rn_aload_n dX12_isCover_5 rfl ?_
        refine rn_get dX12_isCover_6 lfX12_7 hM rfl ?_
        refine rn_iconst (v := nI 4) dX12_isCover_9 (by decide) ?_
        refine rn_iald dX12_isCover_10 hsb (vp_in_nI (show 4 < 73 by omega) (by decide)) ?_
        rw [nI_clamp (by decide), es4]
        refine rn_icmp_ge (tgt := 48) dX12_isCover_11 (by decide) (fun c11 => ?_) (fun c11 => ?_)
        · exact absurd (ge_ex c11 (by omega) (by omega)) (by omega)
        · refine rn_iload_n dX12_isCover_14 rfl ?_
          refine rn_if_eq (tgt := 40) dX12_isCover_15 (by decide) (fun c15 => ?_) (fun c15 => ?_)
          · refine rn_iconst (v := nI 0) dX12_isCover_40 (by decide) ?_
            refine rn_istore_n dX12_isCover_41 (Nat.le_of_ble_eq_true rfl) rfl ?_
            refine rn_iinc (v := nI (p + 1)) dX12_isCover_42 rfl (nI_1 p) (Nat.le_of_ble_eq_true rfl) rfl ?_
            refine rn_goto (tgt := 4) dX12_isCover_45 (by decide) ?_
            have h1 := bI_0.mp c15
            rw [Bool.or_eq_false_iff] at h1
            exact val false (by rw [h1.1, alU, h1.2]; rfl)
          · refine rn_aload_n dX12_isCover_18 rfl ?_
            refine rn_get dX12_isCover_19 lfX12_7 hM rfl ?_
            refine rn_iconst (v := nI 2) dX12_isCover_22 (by decide) ?_
            refine rn_iald dX12_isCover_23 hsb (vp_in_nI (show 2 < 73 by omega) (by decide)) ?_
            rw [nI_clamp (by decide), es2]
            refine rn_if_eq (tgt := 36) dX12_isCover_24 (by decide) (fun c24 => ?_) (fun c24 => ?_)
            · refine rn_iconst (v := nI 1) dX12_isCover_36 (by decide) ?_
              refine rn_goto (tgt := 41) dX12_isCover_37 (by decide) ?_
              refine rn_istore_n dX12_isCover_41 (Nat.le_of_ble_eq_true rfl) rfl ?_
              refine rn_iinc (v := nI (p + 1)) dX12_isCover_42 rfl (nI_1 p) (Nat.le_of_ble_eq_true rfl) rfl ?_
              refine rn_goto (tgt := 4) dX12_isCover_45 (by decide) ?_
              exact val true (by rw [decide_eq_true ((az (by omega)).mp c24)]; rfl)
            · refine rn_aload_n dX12_isCover_27 rfl ?_
              refine rn_get dX12_isCover_28 lfX12_54 hM rfl ?_
              refine rn_iload_n dX12_isCover_31 rfl ?_
              refine rn_iald dX12_isCover_32 hy (vp_in_nI (show p < 8 by omega) (by decide)) ?_
              rw [nI_clamp (by omega), hye p (by omega), hYe p hlt]
              refine rn_if_ne (tgt := 40) dX12_isCover_33 (by decide) (fun c33 => ?_) (fun c33 => ?_)
              · refine rn_iconst (v := nI 0) dX12_isCover_40 (by decide) ?_
                refine rn_istore_n dX12_isCover_41 (Nat.le_of_ble_eq_true rfl) rfl ?_
                refine rn_iinc (v := nI (p + 1)) dX12_isCover_42 rfl (nI_1 p) (Nat.le_of_ble_eq_true rfl) rfl ?_
                refine rn_goto (tgt := 4) dX12_isCover_45 (by decide) ?_
                exact val false (by rw [decide_eq_false (fun h => c24 (by rw [h]; rfl)), alU, decide_eq_false (show ¬ usS q.2.1 p x.1 = q.2.2.2 p from fun h => c33 (by rw [h, Nat.sub_self]; rfl)), Bool.and_false]; rfl)
              · refine rn_iconst (v := nI 1) dX12_isCover_36 (by decide) ?_
                refine rn_goto (tgt := 41) dX12_isCover_37 (by decide) ?_
                refine rn_istore_n dX12_isCover_41 (Nat.le_of_ble_eq_true rfl) rfl ?_
                refine rn_iinc (v := nI (p + 1)) dX12_isCover_42 rfl (nI_1 p) (Nat.le_of_ble_eq_true rfl) rfl ?_
                refine rn_goto (tgt := 4) dX12_isCover_45 (by decide) ?_
                have h1 := bI_n0.mp c15
                have h2 : ¬ pMd q.1 = 0 := fun h => c24 (by rw [h]; rfl)
                rw [decide_eq_false h2, Bool.false_or] at h1
                have h3 : q.2.2.2 p - usS q.2.1 p x.1 = 0 := (az (by omega)).mp c33
                exact val true (by rw [decide_eq_false h2, alU, h1, decide_eq_true (show usS q.2.1 p x.1 = q.2.2.2 p by omega)]; rfl)
      · have hpe : p = pN q.1 := by omega
        subst hpe
        refine rn_iload_n dX12_isCover_4 rfl ?_
        refine rn_aload_n dX12_isCover_5 rfl ?_
        refine rn_get dX12_isCover_6 lfX12_7 hM rfl ?_
        refine rn_iconst (v := nI 4) dX12_isCover_9 (by decide) ?_
        refine rn_iald dX12_isCover_10 hsb (vp_in_nI (show 4 < 73 by omega) (by decide)) ?_
        rw [nI_clamp (by decide), es4]
        refine rn_icmp_ge (tgt := 48) dX12_isCover_11 (by decide) (fun c11 => ?_) (fun c11 => ?_)
        · refine rn_iload_n dX12_isCover_48 rfl ?_
          refine rn_zret dX12_isCover_49 rfl (by cases (decide (pMd q.1 = 0) || alU q x.1 (pN q.1)) <;> rfl) ?_
          exact ⟨rfl, rfl⟩
        · exact absurd (ge_in c11 (by omega)) (by omega)
  have e0 := loop _ 0 rfl (by omega)
  rw [show (decide (pMd q.1 = 0) || alU q x.1 0) = true by rw [alU, Bool.or_true]] at e0
  refine rn_iconst (v := nI 1) dX12_isCover_0 (by decide) ?_
  refine rn_istore_n dX12_isCover_1 (Nat.le_of_ble_eq_true rfl) rfl ?_
  refine rn_iconst (v := nI 0) dX12_isCover_2 (by decide) ?_
  refine rn_istore_n dX12_isCover_3 (Nat.le_of_ble_eq_true rfl) rfl ?_
  exact e0
