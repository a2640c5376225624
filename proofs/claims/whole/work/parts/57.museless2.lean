theorem cm_isUseless (g : GG) (f : Mm) {wi s : Nat → Int32} {cv : Int64} {P : PS} {l : List PE} {st : Nat → Bool} {k : Nat} (hM : f 75 = some (MO wi cv)) (hs : AR f 76 73 s) (hP : SP s P) (hV : VD P) (hL : PLm f l) (hw : wi 12 = nI l.length) (hl : l.length ≤ 1280) (hE : EVs l) (hZ : AZ f 92 2304 st) (hk : k < l.length) : Ct g MX12_isUseless [.ref 75, .int (nI k)] f 0 0 (fun r f' => f = f' ∧ r = some (.int (bI (anU P l st k (pW P * pH P))))) := by
  refine Ct.of ok_MX12_isUseless (Nat.le_of_ble_eq_true rfl) ?_
  change Wp g MX12_isUseless 0 [some (.ref 75), some (.int (nI k)), none, none, none, none] [] f 0 0 _
  have ha := hV.area
  obtain ⟨-, -, -, ⟨b4, g4, q4⟩, -⟩ := id hL
  obtain ⟨bz, hbz, hbze⟩ := id hZ
  have hAL : AL f 83 2304 (fun j => if j < l.length then msk l j else (b4 j).toBitVec.toNat) := by
    refine ⟨b4, g4, fun j hj => ?_⟩
    show b4 j = lN (if j < l.length then msk l j else (b4 j).toBitVec.toNat)
    by_cases h : j < l.length
    · rw [if_pos h, q4 j _ (gp_some h)]; rfl
    · rw [if_neg h]
      obtain ⟨n, hn, e⟩ := wb_of (b4 j)
      rw [e, wb_tn hn]
  have hhas : ∀ j c, j < l.length → c < 64 → Ct g MX12_has [.ref 75, .int (nI j), .int (nI c)] f 0 0 (fun r f' => f = f' ∧ r = some (.int (bI ((msk l j).testBit c)))) := fun j c hj hc => by
    have hm := (hE j hj).2.2.2.2
    have h := cm_has g f (k := j) (c := c) hM hAL (by omega) hc (by
      show (if j < l.length then msk l j else (b4 j).toBitVec.toNat) < 2 ^ 62
      rw [if_pos hj]
      have : msk l j < 2 ^ 36 := hm
      omega)
    rw [if_pos hj] at h
    exact h
  have loop : ∀ (d c : Nat) (w4 w5 : Option Value), pW P * pH P - c = d → c ≤ pW P * pH P → Wp g MX12_isUseless 4 [some (.ref 75), some (.int (nI k)), some (.int (bI (anU P l st k c))), some (.int (nI c)), w4, w5] [] f 0 0 (fun r f' => f = f' ∧ r = some (.int (bI (anU P l st k (pW P * pH P))))) := by
    intro d
    induction d using Nat.strongRecOn with
    | ind d ih =>
      intro c w4 w5 hd hc
      refine Wp.sub (lv' := [some (.ref 75), some (.int (nI k)), some (.int (bI (anU P l st k c))), some (.int (nI c)), none, none]) (fun i v hv => ?_) ?_
      · match i, hv with
        | 0, hv => exact hv
        | 1, hv => exact hv
        | 2, hv => exact hv
        | 3, hv => exact hv
        | 4, hv => cases hv
        | 5, hv => cases hv
      have back : ∀ (cn : Bool) (w5 : Option Value), c < pW P * pH P → anU P l st k c = false → cn = !unc P l st k c → Wp g MX12_isUseless 109 [some (.ref 75), some (.int (nI k)), some (.int (bI (anU P l st k c))), some (.int (nI c)), some (.int (bI cn)), w5] [] f 0 0 (fun r f' => f = f' ∧ r = some (.int (bI (anU P l st k (pW P * pH P))))) := by
        intro cn w5 hc2 hf hcn
        refine rn_iload dX12_isUseless_109 rfl ?_
        refine rn_if_ne (tgt := 118) dX12_isUseless_111 (by decide) (fun c111 => ?_) (fun c111 => ?_)
        · refine rn_iconst (v := nI 0) dX12_isUseless_118 (by decide) ?_
          refine rn_istore_n dX12_isUseless_119 (Nat.le_of_ble_eq_true rfl) rfl ?_
          refine rn_iinc (v := nI (c + 1)) dX12_isUseless_120 rfl (nI_1 c) (Nat.le_of_ble_eq_true rfl) rfl ?_
          refine rn_goto (tgt := 4) dX12_isUseless_123 (by decide) ?_
          have hu : unc P l st k c = false := by
            have := bI_n0.mp c111
            rw [hcn] at this
            simpa using this
          have e := ih _ (by omega) (c + 1) (some (.int (bI cn))) w5 rfl (by omega)
          rw [show anU P l st k (c + 1) = false by rw [anU, hf, hu]; rfl] at e
          exact e
        · refine rn_iconst (v := nI 1) dX12_isUseless_114 (by decide) ?_
          refine rn_goto (tgt := 119) dX12_isUseless_115 (by decide) ?_
          refine rn_istore_n dX12_isUseless_119 (Nat.le_of_ble_eq_true rfl) rfl ?_
          refine rn_iinc (v := nI (c + 1)) dX12_isUseless_120 rfl (nI_1 c) (Nat.le_of_ble_eq_true rfl) rfl ?_
          refine rn_goto (tgt := 4) dX12_isUseless_123 (by decide) ?_
          have hu : unc P l st k c = true := by
            have := bI_0.mp c111
            rw [hcn] at this
            simpa using this
          have e := ih _ (by omega) (c + 1) (some (.int (bI cn))) w5 rfl (by omega)
          rw [show anU P l st k (c + 1) = true by rw [anU, hu, Bool.or_true]] at e
          exact e
      have inner : ∀ (h e : Nat) (bs cn : Bool), c < pW P * pH P → anU P l st k c = false → bs = (!decide (¬ pC P c = -1) || (msk l k).testBit c) → cn = (bs || exE l st k c e) → l.length - e = h → e ≤ l.length → Wp g MX12_isUseless 43 [some (.ref 75), some (.int (nI k)), some (.int (bI (anU P l st k c))), some (.int (nI c)), some (.int (bI cn)), some (.int (nI e))] [] f 0 0 (fun r f' => f = f' ∧ r = some (.int (bI (anU P l st k (pW P * pH P))))) := by
        intro h
        induction h using Nat.strongRecOn with
        | ind h ihh =>
          intro e bs cn hc2 hf hbs hcn hh he
          have hun : (!unc P l st k c) = (bs || exE l st k c l.length) := by
            rw [hbs, unc]
            cases decide (¬ pC P c = -1) <;> cases (msk l k).testBit c <;> cases exE l st k c l.length <;> rfl
          have nxt : ∀ (x : Bool), e < l.length → cn = false → x = (!st e && ((msk l e).testBit c && decide (msk l e &&& msk l k = 0))) → Wp g MX12_isUseless 101 [some (.ref 75), some (.int (nI k)), some (.int (bI (anU P l st k c))), some (.int (nI c)), some (.int (bI cn)), some (.int (nI e))] [.int (bI x)] f 0 0 (fun r f' => f = f' ∧ r = some (.int (bI (anU P l st k (pW P * pH P))))) := by
            intro x he2 hcf hx
            refine rn_istore dX12_isUseless_101 (Nat.le_of_ble_eq_true rfl) rfl ?_
            refine rn_iinc (v := nI (e + 1)) dX12_isUseless_103 rfl (nI_1 e) (Nat.le_of_ble_eq_true rfl) rfl ?_
            refine rn_goto (tgt := 43) dX12_isUseless_106 (by decide) ?_
            refine ihh _ (by omega) (e + 1) bs x hc2 hf hbs ?_ rfl (by omega)
            rw [hcn, Bool.or_eq_false_iff] at hcf
            rw [exE, hcf.1, hcf.2, ← hx]; rfl
          refine rn_iload dX12_isUseless_43 rfl ?_
          refine rn_aload_n dX12_isUseless_45 rfl ?_
          refine rn_get dX12_isUseless_46 lfX12_106 hM rfl ?_
          rw [hw]
          refine rn_icmp_ge (tgt := 109) dX12_isUseless_49 (by decide) (fun c49 => ?_) (fun c49 => ?_)
          · have he2 := ge_ex c49 (by omega) (by omega)
            exact back cn _ hc2 hf (by rw [hun, hcn, show e = l.length by omega])
          · refine rn_iload dX12_isUseless_52 rfl ?_
            refine rn_if_ne (tgt := 109) dX12_isUseless_54 (by decide) (fun c54 => ?_) (fun c54 => ?_)
            · have hct := bI_n0.mp c54
              have hfull : (bs || exE l st k c l.length) = true := by
                rw [hcn, Bool.or_eq_true] at hct
                rcases hct with z | z
                · rw [z, Bool.true_or]
                · have := exE_mono z (l.length - e)
                  rw [show e + (l.length - e) = l.length by omega] at this
                  rw [this, Bool.or_true]
              exact back cn _ hc2 hf (by rw [hun, hfull, hct])
            · have he2 := ge_in c49 (by omega)
              have hcf := bI_0.mp c54
              have hme : msk l e < 2 ^ 36 := (hE e he2).2.2.2.2
              have hmk : msk l k < 2 ^ 36 := (hE k hk).2.2.2.2
              refine rn_aload_n dX12_isUseless_57 rfl ?_
              refine rn_get dX12_isUseless_58 lfX12_60 hM rfl ?_
              refine rn_iload dX12_isUseless_61 rfl ?_
              refine rn_zald dX12_isUseless_63 hbz (vp_in_nI (show e < 2304 by omega) (by decide)) ?_
              rw [nI_clamp (by omega), hbze e (by omega)]
              refine rn_if_ne (tgt := 100) dX12_isUseless_64 (by decide) (fun c64 => ?_) (fun c64 => ?_)
              · refine rn_iconst (v := nI 0) dX12_isUseless_100 (by decide) ?_
                exact nxt false he2 hcf (by rw [bI_n0.mp c64]; rfl)
              · refine rn_aload_n dX12_isUseless_67 rfl ?_
                refine rn_iload dX12_isUseless_68 rfl ?_
                refine rn_iload_n dX12_isUseless_70 rfl ?_
                refine rn_callV dX12_isUseless_71 lmX12_152 ⟨Nat.le_of_ble_eq_true rfl, Nat.le_of_ble_eq_true rfl⟩ (hhas e c he2 (by omega)) hM rfl rfl (Nat.le_of_ble_eq_true rfl) ?_
                rintro _ _ ⟨rfl, rfl⟩
                refine rn_if_eq (tgt := 100) dX12_isUseless_74 (by decide) (fun c74 => ?_) (fun c74 => ?_)
                · refine rn_iconst (v := nI 0) dX12_isUseless_100 (by decide) ?_
                  exact nxt false he2 hcf (by rw [bI_0.mp c74]; simp)
                · refine rn_aload_n dX12_isUseless_77 rfl ?_
                  refine rn_get dX12_isUseless_78 lfX12_32 hM rfl ?_
                  refine rn_iload dX12_isUseless_81 rfl ?_
                  refine rn_lald dX12_isUseless_83 g4 (vp_in_nI (show e < 2304 by omega) (by decide)) ?_
                  refine rn_aload_n dX12_isUseless_84 rfl ?_
                  refine rn_get dX12_isUseless_85 lfX12_32 hM rfl ?_
                  refine rn_iload_n dX12_isUseless_88 rfl ?_
                  refine rn_lald dX12_isUseless_89 g4 (vp_in_nI (show k < 2304 by omega) (by decide)) ?_
                  rw [nI_clamp (by omega), nI_clamp (by omega), q4 e _ (gp_some he2), q4 k _ (gp_some hk), show (gp l e).2.2.2 = msk l e from rfl, show (gp l k).2.2.2 = msk l k from rfl]
                  refine rn_land dX12_isUseless_90 ?_
                  rw [wb_and (by omega) (by omega)]
                  refine rn_lconst (v := 0) dX12_isUseless_91 (by decide) ?_
                  refine rn_lcmp dX12_isUseless_92 ?_
                  refine rn_if_ne (tgt := 100) dX12_isUseless_93 (by decide) (fun c93 => ?_) (fun c93 => ?_)
                  · refine rn_iconst (v := nI 0) dX12_isUseless_100 (by decide) ?_
                    have hne : ¬ msk l e &&& msk l k = 0 := fun q => c93 ((lg_cmp_eq _ _).mpr (by rw [q]; rfl))
                    exact nxt false he2 hcf (by rw [decide_eq_false hne]; simp)
                  · refine rn_iconst (v := nI 1) dX12_isUseless_96 (by decide) ?_
                    refine rn_goto (tgt := 101) dX12_isUseless_97 (by decide) ?_
                    have hand : msk l e &&& msk l k ≤ msk l e := Nat.and_le_left
                    have he0 : msk l e &&& msk l k = 0 := (lb_eq (b := 0) (by omega) (by decide)).mp ((lg_cmp_eq _ _).mp c93)
                    exact nxt true he2 hcf (by rw [decide_eq_true he0, bI_0.mp c64, bI_n0.mp c74]; rfl)
      refine rn_iload_n dX12_isUseless_4 rfl ?_
      refine rn_aload_n dX12_isUseless_5 rfl ?_
      refine rn_callV dX12_isUseless_6 lmX12_68 ⟨Nat.le_of_ble_eq_true rfl, Nat.le_of_ble_eq_true rfl⟩ (cm_cells g f hM hs hP) hM rfl rfl (Nat.le_of_ble_eq_true rfl) ?_
      rintro _ _ ⟨rfl, rfl⟩
      refine rn_icmp_ge (tgt := 126) dX12_isUseless_9 (by decide) (fun c9 => ?_) (fun c9 => ?_)
      · refine rn_iload_n dX12_isUseless_126 rfl ?_
        refine rn_zret dX12_isUseless_127 rfl (by cases anU P l st k c <;> rfl) ?_
        have hc2 := ge_ex c9 (by omega) (by omega)
        exact ⟨rfl, by rw [show c = pW P * pH P by omega]⟩
      · have hc2 := ge_in c9 (by omega)
        refine rn_iload_n dX12_isUseless_12 rfl ?_
        refine rn_if_ne (tgt := 126) dX12_isUseless_13 (by decide) (fun c13 => ?_) (fun c13 => ?_)
        · refine rn_iload_n dX12_isUseless_126 rfl ?_
          refine rn_zret dX12_isUseless_127 rfl (by cases anU P l st k c <;> rfl) ?_
          have ht := bI_n0.mp c13
          have hm := anU_mono ht (pW P * pH P - c)
          rw [show c + (pW P * pH P - c) = pW P * pH P by omega] at hm
          exact ⟨rfl, by rw [ht, hm]⟩
        · have hf := bI_0.mp c13
          refine rn_aload_n dX12_isUseless_16 rfl ?_
          refine rn_iload_n dX12_isUseless_17 rfl ?_
          refine rn_callV dX12_isUseless_18 lmX12_76 ⟨Nat.le_of_ble_eq_true rfl, Nat.le_of_ble_eq_true rfl⟩ (cm_isOpen g f hM hs (by omega)) hM rfl rfl (Nat.le_of_ble_eq_true rfl) ?_
          rintro _ _ ⟨rfl, rfl⟩
          rw [hP.2.2.2.2.2.1 c hc2]
          refine rn_if_eq (tgt := 33) dX12_isUseless_21 (by decide) (fun c21 => ?_) (fun c21 => ?_)
          · refine rn_iconst (v := nI 1) dX12_isUseless_33 (by decide) ?_
            refine rn_goto (tgt := 38) dX12_isUseless_34 (by decide) ?_
            refine rn_istore dX12_isUseless_38 (Nat.le_of_ble_eq_true rfl) rfl ?_
            refine rn_iconst (v := nI 0) dX12_isUseless_40 (by decide) ?_
            refine rn_istore dX12_isUseless_41 (Nat.le_of_ble_eq_true rfl) rfl ?_
            exact inner _ 0 true true hc2 hf (by rw [bI_0.mp c21]; rfl) rfl rfl (by omega)
          · refine rn_aload_n dX12_isUseless_24 rfl ?_
            refine rn_iload_n dX12_isUseless_25 rfl ?_
            refine rn_iload_n dX12_isUseless_26 rfl ?_
            refine rn_callV dX12_isUseless_27 lmX12_152 ⟨Nat.le_of_ble_eq_true rfl, Nat.le_of_ble_eq_true rfl⟩ (hhas k c hk (by omega)) hM rfl rfl (Nat.le_of_ble_eq_true rfl) ?_
            rintro _ _ ⟨rfl, rfl⟩
            refine rn_if_eq (tgt := 37) dX12_isUseless_30 (by decide) (fun c30 => ?_) (fun c30 => ?_)
            · refine rn_iconst (v := nI 0) dX12_isUseless_37 (by decide) ?_
              refine rn_istore dX12_isUseless_38 (Nat.le_of_ble_eq_true rfl) rfl ?_
              refine rn_iconst (v := nI 0) dX12_isUseless_40 (by decide) ?_
              refine rn_istore dX12_isUseless_41 (Nat.le_of_ble_eq_true rfl) rfl ?_
              exact inner _ 0 false false hc2 hf (by rw [bI_n0.mp c21, bI_0.mp c30]; rfl) rfl rfl (by omega)
            · refine rn_iconst (v := nI 1) dX12_isUseless_33 (by decide) ?_
              refine rn_goto (tgt := 38) dX12_isUseless_34 (by decide) ?_
              refine rn_istore dX12_isUseless_38 (Nat.le_of_ble_eq_true rfl) rfl ?_
              refine rn_iconst (v := nI 0) dX12_isUseless_40 (by decide) ?_
              refine rn_istore dX12_isUseless_41 (Nat.le_of_ble_eq_true rfl) rfl ?_
              exact inner _ 0 true true hc2 hf (by rw [bI_n0.mp c30, Bool.or_true]) rfl rfl (by omega)
  refine rn_iconst (v := nI 0) dX12_isUseless_0 (by decide) ?_
  refine rn_istore_n dX12_isUseless_1 (Nat.le_of_ble_eq_true rfl) rfl ?_
  refine rn_iconst (v := nI 0) dX12_isUseless_2 (by decide) ?_
  refine rn_istore_n dX12_isUseless_3 (Nat.le_of_ble_eq_true rfl) rfl ?_
  exact loop _ 0 none none rfl (by omega)
