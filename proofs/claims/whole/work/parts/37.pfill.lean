theorem ct_pfill (g : GG) (f : Mm) {P : PS} {sh fr co cp : Nat → Nat} {l0 : List PE} {op0 : Nat} {O S : Nat → Int32} (hP : PB f 1 P) (hV : VD P) (hN : VN P sh fr co cp) (hL : PLc f l0 op0) (hO : AR f 59 1280 O) (hS : AR f 60 37 S) (hF : FF f (pN P) sh fr) : Ct g MX3_fill [.ref 56, .ref 1, .ref 53] f 0 0 (fun r f' => r = none ∧ FR f f' 56 5 ∧ PLc f' (pl1 P sh fr co (pN P)) (opk (pC P) (pW P * pH P)) ∧ ORD f' (pl1 P sh fr co (pN P))) := by
  refine Ct.of ok_MX3_fill (Nat.le_of_ble_eq_true rfl) ?_
  change Wp g MX3_fill 0 [some (.ref 56), some (.ref 1), some (.ref 53), none, none] [] f 0 0 _
  have ha := hV.area
  obtain ⟨v1, v2, v3, v4, v8⟩ := id hV
  have hev := pl1_ev hV hN
  have hlen : (pl1 P sh fr co (pN P)).length ≤ 1280 := by
    have := pl1_le hV hN (pN P) (Nat.le_refl _)
    omega
  have loop1 : ∀ (d p : Nat) (f1 : Mm) (w4 : Option Value), pN P - p = d → p ≤ pN P → FR f f1 56 3 → PLc f1 (pl1 P sh fr co p) (opk (pC P) (pW P * pH P)) → Wp g MX3_fill 15 [some (.ref 56), some (.ref 1), some (.ref 53), some (.int (nI p)), w4] [] f1 0 0 (fun r f' => r = none ∧ FR f f' 56 5 ∧ PLc f' (pl1 P sh fr co (pN P)) (opk (pC P) (pW P * pH P)) ∧ ORD f' (pl1 P sh fr co (pN P))) := by
    intro d
    induction d using Nat.strongRecOn with
    | ind d ih =>
      intro p f1 w4 hd hp hfr hL1
      have hP1 : PB f1 1 P := hP.keep (fun k x y => hfr k (by omega))
      have loop2 : ∀ (e i : Nat) (f2 : Mm), p < pN P → fmN (sh p) (fr p) - i = e → i ≤ fmN (sh p) (fr p) → FR f f2 56 3 → PLc f2 (pl1 P sh fr co p ++ pl2 P (sh p) (fr p) (co p) p i) (opk (pC P) (pW P * pH P)) → Wp g MX3_fill 26 [some (.ref 56), some (.ref 1), some (.ref 53), some (.int (nI p)), some (.int (nI i))] [] f2 0 0 (fun r f' => r = none ∧ FR f f' 56 5 ∧ PLc f' (pl1 P sh fr co (pN P)) (opk (pC P) (pW P * pH P)) ∧ ORD f' (pl1 P sh fr co (pN P))) := by
        intro e
        induction e using Nat.strongRecOn with
        | ind e ihe =>
          intro i f2 hpN he hi hfr2 hL2
          obtain ⟨n1, n2, n3, n4, n5, n6, n7, n8, n9⟩ := hN p hpN
          have hfm := fmN_le _ n2 _ n4
          have hP2 : PB f2 1 P := hP.keep (fun k x y => hfr2 k (by omega))
          obtain ⟨fo, A, Z, hA, hZ, hZe, hAe⟩ := id hF
          have fo2 := (hfr2 53 (by omega)).trans fo
          have hA2 := hA.keep (hfr2 54 (by omega))
          have hZ2 := hZ.keep (hfr2 55 (by omega))
          refine rn_iload dX3_fill_26 rfl ?_
          refine rn_aload_n dX3_fill_28 rfl ?_
          refine rn_iload_n dX3_fill_29 rfl ?_
          refine rn_callV dX3_fill_30 lmX3_42 ⟨Nat.le_of_ble_eq_true rfl, Nat.le_of_ble_eq_true rfl⟩ (ct_fsizeOf g f2 fo2 hZ2 (by omega)) fo2 rfl rfl (Nat.le_of_ble_eq_true rfl) ?_
          rintro _ _ ⟨rfl, rfl⟩
          rw [hZe p (by omega), if_pos hpN]
          refine rn_icmp_ge (tgt := 57) dX3_fill_33 (by decide) (fun c33 => ?_) (fun c33 => ?_)
          · refine rn_iinc (v := nI (p + 1)) dX3_fill_57 rfl (nI_1 p) (Nat.le_of_ble_eq_true rfl) rfl ?_
            refine rn_goto (tgt := 15) dX3_fill_60 (by decide) ?_
            have hi2 := ge_ex c33 (by omega) (by omega)
            have hie : i = fmN (sh p) (fr p) := by omega
            subst hie
            exact ih _ (by omega) (p + 1) f2 _ rfl (by omega) hfr2 hL2
          · have hi2 := ge_in c33 (by omega)
            refine rn_aload_n dX3_fill_36 rfl ?_
            refine rn_aload_n dX3_fill_37 rfl ?_
            refine rn_iload_n dX3_fill_38 rfl ?_
            refine rn_iload dX3_fill_39 rfl ?_
            refine rn_aload_n dX3_fill_41 rfl ?_
            refine rn_iload_n dX3_fill_42 rfl ?_
            refine rn_iload dX3_fill_43 rfl ?_
            refine rn_callV dX3_fill_45 lmX3_48 ⟨Nat.le_of_ble_eq_true rfl, Nat.le_of_ble_eq_true rfl⟩ (ct_fshapeOf g f2 fo2 hA2 (p := p) (i := i) (by omega) (by omega)) fo2 rfl rfl (Nat.le_of_ble_eq_true rfl) ?_
            rintro _ _ ⟨rfl, rfl⟩
            rw [hAe p hpN i hi2]
            refine rn_callV dX3_fill_48 lmX3_52 ⟨Nat.le_of_ble_eq_true rfl, Nat.le_of_ble_eq_true rfl⟩ (ct_fillForm g f2 hP2 hV hL2 (by omega) (by omega) (shL_lt _ (fmA_in n2 n4 hi2)).1 n6 n5 (fun c hc => pl_room hV hN hpN hi2 hc)) hL2.1 rfl rfl (Nat.le_of_ble_eq_true rfl) ?_
            rintro _ f3 ⟨rfl, k3, hL3⟩
            refine rn_iinc (v := nI (i + 1)) dX3_fill_51 rfl (nI_1 i) (Nat.le_of_ble_eq_true rfl) rfl ?_
            refine rn_goto (tgt := 26) dX3_fill_54 (by decide) ?_
            refine ihe _ (by omega) (i + 1) f3 hpN rfl (by omega) (hfr2.tr k3 (by omega) (by omega)) ?_
            rw [pl2, ← List.append_assoc]; exact hL3
      obtain ⟨g1, -⟩ := id hL1
      refine rn_iload_n dX3_fill_15 rfl ?_
      refine rn_aload_n dX3_fill_16 rfl ?_
      refine rn_get dX3_fill_17 lfX3_39 hP1.1 rfl ?_
      refine rn_icmp_ge (tgt := 63) dX3_fill_20 (by decide) (fun c20 => ?_) (fun c20 => ?_)
      · have hp2 := ge_ex c20 (by omega) (by omega)
        have hpe : p = pN P := by omega
        subst hpe
        refine rn_aload_n dX3_fill_63 rfl ?_
        refine rn_callV dX3_fill_64 lmX3_56 ⟨Nat.le_of_ble_eq_true rfl, Nat.le_of_ble_eq_true rfl⟩ (ct_fillOrder g f1 hL1 hev hlen (hO.keep (hfr 59 (by omega))) (hS.keep (hfr 60 (by omega)))) g1 rfl rfl (Nat.le_of_ble_eq_true rfl) ?_
        rintro _ f2 ⟨rfl, k2, ho⟩
        refine rn_vret dX3_fill_67 rfl ?_
        exact ⟨rfl, fun k hk => (k2 k (by omega)).trans (hfr k (by omega)), hL1.keep (k2 56 (by omega)) (k2 57 (by omega)) (k2 58 (by omega)), ho⟩
      · have hp2 := ge_in c20 (by omega)
        refine rn_iconst (v := nI 0) dX3_fill_23 (by decide) ?_
        refine rn_istore dX3_fill_24 (Nat.le_of_ble_eq_true rfl) rfl ?_
        refine loop2 _ 0 f1 hp2 rfl (by omega) hfr ?_
        rw [pl2, List.append_nil]; exact hL1
  obtain ⟨g1, ⟨b, g2, g3⟩, dd, g4, g5⟩ := id hL
  refine rn_aload_n dX3_fill_0 rfl ?_
  refine rn_iconst (v := nI 0) dX3_fill_1 (by decide) ?_
  refine rn_put dX3_fill_2 lpX3_25 g1 rfl rfl (Nat.le_of_ble_eq_true rfl) ?_
  refine rn_aload_n dX3_fill_5 rfl ?_
  refine rn_aload_n dX3_fill_6 rfl ?_
  refine rn_callV dX3_fill_7 lmX3_33 ⟨Nat.le_of_ble_eq_true rfl, Nat.le_of_ble_eq_true rfl⟩ (ct_openMask g _ (hP.keep (fun k x y => up_ne (by omega))) hV) ((up_ne (by decide)).trans hP.1) rfl rfl (Nat.le_of_ble_eq_true rfl) ?_
  rintro _ _ ⟨rfl, rfl⟩
  refine rn_put dX3_fill_10 lpX3_29 (up_same _ _ _) rfl rfl (Nat.le_of_ble_eq_true rfl) ?_
  refine rn_iconst (v := nI 0) dX3_fill_13 (by decide) ?_
  refine rn_istore_n dX3_fill_14 (Nat.le_of_ble_eq_true rfl) rfl ?_
  exact loop1 _ 0 _ none rfl (by omega) ((FR.rf.up (by omega) (by omega)).up (by omega) (by omega)) ⟨up_same _ _ _, ⟨b, (up_ne (by decide)).trans ((up_ne (by decide)).trans g2), fun k e h => by simp [pl1] at h⟩, dd, (up_ne (by decide)).trans ((up_ne (by decide)).trans g4), fun k e h => by simp [pl1] at h⟩
