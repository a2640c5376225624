def aPi (P : PS) (p k : Nat) : Int32 := match k with
  | 0 => pS P p
  | 1 => pF P p
  | 2 => pK P p
  | 3 => pX P p
  | 4 => nI (popk 32 (shP P p))
  | 5 => nI (fmN (shP P p) (frP P p))
  | _ => nI (nOf (lP P) p (lP P).length)
def aPie (P : PS) (x y : Int32) : Int32 := if inR x (pN P) = true then (if inR y 7 = true then aPi P x.toNatClampNeg y.toNatClampNeg else -1) else -1
theorem in_7 (y : Int32) : decide (nI 0 ≤ y ∧ y ≤ nI 6) = inR y 7 := in_R (n := 7) (by decide)
theorem MR_ff {f f1 : Mm} {wi s F : Nat → Int32} {cv : Int64} {P : PS} {v : Int32} (hB : MB f wi cv s P) (k1 : ∀ k, k ≠ 75 → k ≠ 79 → f1 k = f k) (hF : AR f1 79 9 F) (o : f1 75 = some (MO (upd wi 6 v) cv)) : MR f wi f1 ∧ MB f1 (upd wi 6 v) cv s P := by
  obtain ⟨-, hs, hP, -, ⟨l, h2⟩, h3, ⟨L, h4⟩, ⟨st, h5⟩, ⟨B, h6⟩, G, h7⟩ := hB
  have hm : MSc f1 := ⟨⟨F, hF⟩, ⟨l, h2.keep (fun k a b => k1 k (by omega) (by omega))⟩, h3.keep (fun k a b => k1 k (by omega) (by omega)), ⟨L, h4.keep (k1 91 (by omega) (by omega))⟩, ⟨st, h5.keep (k1 92 (by omega) (by omega))⟩, ⟨B, h6.keep (k1 85 (by omega) (by omega))⟩, G, h7.keep (k1 86 (by omega) (by omega))⟩
  exact ⟨⟨fun j hj => k1 j (by omega) (by omega), hm, _, cv, o, upd_ne (by decide), upd_ne (by decide)⟩, o, hs.keep (k1 76 (by decide) (by decide)), hP, hm⟩
theorem MR.tr {f f1 f2 : Mm} {wi w1 : Nat → Int32} (h : MR f wi f1) (e2 : w1 2 = wi 2) (e4 : w1 4 = wi 4) (h2 : MR f1 w1 f2) : MR f wi f2 := by
  obtain ⟨k1, -, -⟩ := h
  obtain ⟨k2, hm, w, cv, o, a, b⟩ := h2
  exact ⟨fun j hj => (k2 j hj).trans (k1 j hj), hm, w, cv, o, a.trans e2, b.trans e4⟩
theorem cm_piece (g : GG) (f : Mm) {wi s : Nat → Int32} {cv : Int64} {P : PS} (x y : Int32) (hB : MB f wi cv s P) (hV : VPc P) : Ct g MX12_piece [.ref 75, .int x, .int y] f 0 0 (fun r f' => MR f wi f' ∧ r = some (.int (aPie P x y))) := by
  refine Ct.of ok_MX12_piece (Nat.le_of_ble_eq_true rfl) ?_
  change Wp g MX12_piece 0 [some (.ref 75), some (.int x), some (.int y), none] [] f 0 0 _
  obtain ⟨hM, hs, hP, hm⟩ := id hB
  obtain ⟨⟨F, hF⟩, -⟩ := id hm
  have v8 := hV.1.2.2.2.2
  cases hx : inR x (pN P) with
  | false =>
    refine rn_aload_n dX12_piece_0 rfl ?_
    refine rn_iload_n dX12_piece_1 rfl ?_
    refine rn_callV dX12_piece_2 lmX12_139 ⟨Nat.le_of_ble_eq_true rfl, Nat.le_of_ble_eq_true rfl⟩ (cm_isPiece g f x hM hs hP hV.1) hM rfl rfl (Nat.le_of_ble_eq_true rfl) ?_
    rintro _ _ ⟨rfl, rfl⟩
    rw [hx]
    refine rn_if_eq (tgt := 18) dX12_piece_5 (by decide) (fun c5 => ?_) (fun c5 => ?_)
    · refine rn_iconst (v := (-1)) dX12_piece_18 (by decide) ?_
      refine rn_iret dX12_piece_19 rfl ?_
      exact ⟨MR.rf hB, by rw [aPie, hx]; rfl⟩
    · exact absurd (show bI false = 0 from rfl) c5
  | true =>
    cases hy : inR y 7 with
    | false =>
      refine rn_aload_n dX12_piece_0 rfl ?_
      refine rn_iload_n dX12_piece_1 rfl ?_
      refine rn_callV dX12_piece_2 lmX12_139 ⟨Nat.le_of_ble_eq_true rfl, Nat.le_of_ble_eq_true rfl⟩ (cm_isPiece g f x hM hs hP hV.1) hM rfl rfl (Nat.le_of_ble_eq_true rfl) ?_
      rintro _ _ ⟨rfl, rfl⟩
      rw [hx]
      refine rn_if_eq (tgt := 18) dX12_piece_5 (by decide) (fun c5 => ?_) (fun c5 => ?_)
      · refine rn_iconst (v := (-1)) dX12_piece_18 (by decide) ?_
        refine rn_iret dX12_piece_19 rfl ?_
        exact absurd c5 (by decide)
      · refine rn_iload_n dX12_piece_8 rfl ?_
        refine rn_iconst (v := nI 0) dX12_piece_9 (by decide) ?_
        refine rn_bipush (v := nI 6) dX12_piece_10 (by decide) ?_
        refine rn_callS dX12_piece_12 lmX12_72 ⟨Nat.le_of_ble_eq_true rfl, Nat.le_of_ble_eq_true rfl⟩ (cm_in g f y (nI 0) (nI 6)) rfl rfl (Nat.le_of_ble_eq_true rfl) ?_
        rintro _ _ ⟨rfl, rfl⟩
        rw [in_7, hy]
        refine rn_if_ne (tgt := 20) dX12_piece_15 (by decide) (fun c15 => ?_) (fun c15 => ?_)
        · exact absurd (show bI false = 0 from rfl) c15
        · refine rn_iconst (v := (-1)) dX12_piece_18 (by decide) ?_
          refine rn_iret dX12_piece_19 rfl ?_
          exact ⟨MR.rf hB, by rw [aPie, hx, hy]; rfl⟩
    | true =>
      obtain ⟨p, hp, rfl⟩ := (inR_iff (by omega)).mp hx
      obtain ⟨k, hk, rfl⟩ := (inR_iff (by decide)).mp hy
      have hval : aPie P (nI p) (nI k) = aPi P p k := by rw [aPie, hx, hy, if_pos rfl, if_pos rfl, nI_clamp (by omega), nI_clamp (by omega)]
      rw [hval]
      obtain ⟨a1, a2, a3, a4⟩ := hP.2.2.2.2.2.2 p hp
      obtain ⟨n1, n2, n3, n4, n5, n6, n7, n8⟩ := hV.2.1 p hp
      have hsl := shL_lt _ n2
      have hfm := fmN_le _ n2 _ n4
      have e0 : s (41 + 4 * p + 0) = nI (shP P p) := a1.trans n1
      have at20 : Wp g MX12_piece 20 [some (.ref 75), some (.int (nI p)), some (.int (nI k)), none] [] f 0 0 (fun r f' => MR f wi f' ∧ r = some (.int (aPi P p k))) := by
        refine rn_aload_n dX12_piece_20 rfl ?_
        refine rn_iload_n dX12_piece_21 rfl ?_
        refine rn_callV dX12_piece_22 lmX12_109 ⟨Nat.le_of_ble_eq_true rfl, Nat.le_of_ble_eq_true rfl⟩ (cm_findsForms g f hM hs hF hP hV.1 hV.2.1 hp) hM rfl rfl (Nat.le_of_ble_eq_true rfl) ?_
        rintro _ f1 ⟨rfl, k1, o1, F1, hF1, hF1e⟩
        obtain ⟨hMR, hB1⟩ := MR_ff hB k1 hF1 o1
        have hs1 := hB1.2.1
        refine rn_iload_n dX12_piece_25 rfl ?_
        refine rn_iconst (v := nI 4) dX12_piece_26 (by decide) ?_
        refine rn_icmp_ne (tgt := 42) dX12_piece_27 (by decide) (fun c27 => ?_) (fun c27 => ?_)
        · refine rn_aload_n dX12_piece_42 rfl ?_
          refine rn_get dX12_piece_43 lfX12_92 o1 rfl ?_
          refine rn_istore_n dX12_piece_46 (Nat.le_of_ble_eq_true rfl) rfl ?_
          refine rn_iload_n dX12_piece_47 rfl ?_
          refine rn_iconst (v := nI 4) dX12_piece_48 (by decide) ?_
          refine rn_icmp_ge (tgt := 61) dX12_piece_49 (by decide) (fun c49 => ?_) (fun c49 => ?_)
          · refine rn_iload_n dX12_piece_61 rfl ?_
            refine rn_bipush (v := nI 6) dX12_piece_62 (by decide) ?_
            refine rn_icmp_ge (tgt := 71) dX12_piece_64 (by decide) (fun c64 => ?_) (fun c64 => ?_)
            · refine rn_aload_n dX12_piece_71 rfl ?_
              refine rn_iload_n dX12_piece_72 rfl ?_
              refine rn_callV dX12_piece_73 lmX12_149 ⟨Nat.le_of_ble_eq_true rfl, Nat.le_of_ble_eq_true rfl⟩ (cm_placementsOf g f1 hB1 hV hp) o1 rfl rfl (Nat.le_of_ble_eq_true rfl) ?_
              rintro _ f2 ⟨h2, rfl⟩
              refine rn_iret dX12_piece_76 rfl ?_
              have h6 : k = 6 := by
                have := ge_ex (b := 6) c64 (by omega) (by decide)
                omega
              exact ⟨hMR.tr (upd_ne (by decide)) (upd_ne (by decide)) h2, by rw [h6]; rfl⟩
            · refine rn_iload_n dX12_piece_67 rfl ?_
              refine rn_goto (tgt := 76) dX12_piece_68 (by decide) ?_
              refine rn_iret dX12_piece_76 rfl ?_
              have h5 : k = 5 := by
                have := ge_in (b := 6) c64 (by omega)
                have := ge_ex (b := 4) c49 (by omega) (by decide)
                have : ¬ k = 4 := fun h => c27 (by rw [h])
                omega
              exact ⟨hMR, by rw [h5, upd_eq]; rfl⟩
          · have h4 : k < 4 := ge_in c49 (by omega)
            refine rn_aload_n dX12_piece_52 rfl ?_
            refine rn_iload_n dX12_piece_53 rfl ?_
            refine rn_iload_n dX12_piece_54 rfl ?_
            refine rn_callV dX12_piece_55 lmX12_95 ⟨Nat.le_of_ble_eq_true rfl, Nat.le_of_ble_eq_true rfl⟩ (cm_its g f1 o1 hs1 (show p < 8 by omega) h4) o1 rfl rfl (Nat.le_of_ble_eq_true rfl) ?_
            rintro _ _ ⟨rfl, rfl⟩
            refine rn_goto (tgt := 76) dX12_piece_58 (by decide) ?_
            refine rn_iret dX12_piece_76 rfl ?_
            refine ⟨hMR, ?_⟩
            rcases (show k = 0 ∨ k = 1 ∨ k = 2 ∨ k = 3 by omega) with rfl | rfl | rfl | rfl
            · rw [show s (41 + 4 * p + 0) = pS P p from a1]; rfl
            · rw [a2]; rfl
            · rw [a3]; rfl
            · rw [a4]; rfl
        · refine rn_aload_n dX12_piece_30 rfl ?_
          refine rn_iload_n dX12_piece_31 rfl ?_
          refine rn_iconst (v := nI 0) dX12_piece_32 (by decide) ?_
          refine rn_callV dX12_piece_33 lmX12_95 ⟨Nat.le_of_ble_eq_true rfl, Nat.le_of_ble_eq_true rfl⟩ (cm_its g f1 o1 hs1 (show p < 8 by omega) (show 0 < 4 by decide)) o1 rfl rfl (Nat.le_of_ble_eq_true rfl) ?_
          rintro _ _ ⟨rfl, rfl⟩
          rw [e0]
          refine rn_callS dX12_piece_36 lmX12_82 ⟨Nat.le_of_ble_eq_true rfl, Nat.le_of_ble_eq_true rfl⟩ (cm_squares g f1 hsl.1) rfl rfl (Nat.le_of_ble_eq_true rfl) ?_
          rintro _ _ ⟨rfl, rfl⟩
          refine rn_goto (tgt := 46) dX12_piece_39 (by decide) ?_
          refine rn_istore_n dX12_piece_46 (Nat.le_of_ble_eq_true rfl) rfl ?_
          refine rn_iload_n dX12_piece_47 rfl ?_
          refine rn_iconst (v := nI 4) dX12_piece_48 (by decide) ?_
          refine rn_icmp_ge (tgt := 61) dX12_piece_49 (by decide) (fun c49 => ?_) (fun c49 => ?_)
          · refine rn_iload_n dX12_piece_61 rfl ?_
            refine rn_bipush (v := nI 6) dX12_piece_62 (by decide) ?_
            refine rn_icmp_ge (tgt := 71) dX12_piece_64 (by decide) (fun c64 => ?_) (fun c64 => ?_)
            · refine rn_aload_n dX12_piece_71 rfl ?_
              refine rn_iload_n dX12_piece_72 rfl ?_
              refine rn_callV dX12_piece_73 lmX12_149 ⟨Nat.le_of_ble_eq_true rfl, Nat.le_of_ble_eq_true rfl⟩ (cm_placementsOf g f1 hB1 hV hp) o1 rfl rfl (Nat.le_of_ble_eq_true rfl) ?_
              rintro _ f2 ⟨h2, rfl⟩
              refine rn_iret dX12_piece_76 rfl ?_
              have h4 := (nI_eq (b := 4) (by omega) (by decide)).mp c27
              exact absurd (ge_ex (b := 6) c64 (by omega) (by decide)) (by omega)
            · refine rn_iload_n dX12_piece_67 rfl ?_
              refine rn_goto (tgt := 76) dX12_piece_68 (by decide) ?_
              refine rn_iret dX12_piece_76 rfl ?_
              have h4 := (nI_eq (b := 4) (by omega) (by decide)).mp c27
              exact ⟨hMR, by rw [h4, aPi, popk_16 hsl.1]⟩
          · have h4 : k < 4 := ge_in c49 (by omega)
            refine rn_aload_n dX12_piece_52 rfl ?_
            refine rn_iload_n dX12_piece_53 rfl ?_
            refine rn_iload_n dX12_piece_54 rfl ?_
            refine rn_callV dX12_piece_55 lmX12_95 ⟨Nat.le_of_ble_eq_true rfl, Nat.le_of_ble_eq_true rfl⟩ (cm_its g f1 o1 hs1 (show p < 8 by omega) h4) o1 rfl rfl (Nat.le_of_ble_eq_true rfl) ?_
            rintro _ _ ⟨rfl, rfl⟩
            refine rn_goto (tgt := 76) dX12_piece_58 (by decide) ?_
            refine rn_iret dX12_piece_76 rfl ?_
            have h5 := (nI_eq (b := 4) (by omega) (by decide)).mp c27
            omega
      refine rn_aload_n dX12_piece_0 rfl ?_
      refine rn_iload_n dX12_piece_1 rfl ?_
      refine rn_callV dX12_piece_2 lmX12_139 ⟨Nat.le_of_ble_eq_true rfl, Nat.le_of_ble_eq_true rfl⟩ (cm_isPiece g f (nI p) hM hs hP hV.1) hM rfl rfl (Nat.le_of_ble_eq_true rfl) ?_
      rintro _ _ ⟨rfl, rfl⟩
      rw [hx]
      refine rn_if_eq (tgt := 18) dX12_piece_5 (by decide) (fun c5 => ?_) (fun c5 => ?_)
      · exact absurd c5 (by decide)
      · refine rn_iload_n dX12_piece_8 rfl ?_
        refine rn_iconst (v := nI 0) dX12_piece_9 (by decide) ?_
        refine rn_bipush (v := nI 6) dX12_piece_10 (by decide) ?_
        refine rn_callS dX12_piece_12 lmX12_72 ⟨Nat.le_of_ble_eq_true rfl, Nat.le_of_ble_eq_true rfl⟩ (cm_in g f (nI k) (nI 0) (nI 6)) rfl rfl (Nat.le_of_ble_eq_true rfl) ?_
        rintro _ _ ⟨rfl, rfl⟩
        rw [in_7, hy]
        refine rn_if_ne (tgt := 20) dX12_piece_15 (by decide) (fun c15 => ?_) (fun c15 => ?_)
        · exact at20
        · exact absurd c15 (by decide)
def aFo (P : PS) (x y : Int32) : Int32 := if inR x (pN P) = true then (if y < 0 then -1 else if y.toNatClampNeg < fmN (shP P x.toNatClampNeg) (frP P x.toNatClampNeg) then nI (fmA (shP P x.toNatClampNeg) (frP P x.toNatClampNeg) y.toNatClampNeg) else -9) else -1
theorem cm_form (g : GG) (f : Mm) {wi s : Nat → Int32} {cv : Int64} {P : PS} (x y : Int32) (hB : MB f wi cv s P) (hV : VPc P) : Ct g MX12_form [.ref 75, .int x, .int y] f 0 0 (fun r f' => MR f wi f' ∧ r = some (.int (aFo P x y))) := by
  refine Ct.of ok_MX12_form (Nat.le_of_ble_eq_true rfl) ?_
  change Wp g MX12_form 0 [some (.ref 75), some (.int x), some (.int y)] [] f 0 0 _
  obtain ⟨hM, hs, hP, hm⟩ := id hB
  obtain ⟨⟨F, hF⟩, -⟩ := id hm
  have v8 := hV.1.2.2.2.2
  cases hx : inR x (pN P) with
  | false =>
    refine rn_aload_n dX12_form_0 rfl ?_
    refine rn_iload_n dX12_form_1 rfl ?_
    refine rn_callV dX12_form_2 lmX12_139 ⟨Nat.le_of_ble_eq_true rfl, Nat.le_of_ble_eq_true rfl⟩ (cm_isPiece g f x hM hs hP hV.1) hM rfl rfl (Nat.le_of_ble_eq_true rfl) ?_
    rintro _ _ ⟨rfl, rfl⟩
    rw [hx]
    refine rn_if_eq (tgt := 12) dX12_form_5 (by decide) (fun c5 => ?_) (fun c5 => ?_)
    · refine rn_iconst (v := (-1)) dX12_form_12 (by decide) ?_
      refine rn_iret dX12_form_13 rfl ?_
      exact ⟨MR.rf hB, by rw [aFo, hx]; rfl⟩
    · exact absurd (show bI false = 0 from rfl) c5
  | true =>
    by_cases hy : y < 0
    · refine rn_aload_n dX12_form_0 rfl ?_
      refine rn_iload_n dX12_form_1 rfl ?_
      refine rn_callV dX12_form_2 lmX12_139 ⟨Nat.le_of_ble_eq_true rfl, Nat.le_of_ble_eq_true rfl⟩ (cm_isPiece g f x hM hs hP hV.1) hM rfl rfl (Nat.le_of_ble_eq_true rfl) ?_
      rintro _ _ ⟨rfl, rfl⟩
      rw [hx]
      refine rn_if_eq (tgt := 12) dX12_form_5 (by decide) (fun c5 => ?_) (fun c5 => ?_)
      · refine rn_iconst (v := (-1)) dX12_form_12 (by decide) ?_
        refine rn_iret dX12_form_13 rfl ?_
        exact absurd c5 (by decide)
      · refine rn_iload_n dX12_form_8 rfl ?_
        refine rn_if_ge (tgt := 14) dX12_form_9 (by decide) (fun c9 => ?_) (fun c9 => ?_)
        · exact absurd c9 (Int32.not_le.mpr hy)
        · refine rn_iconst (v := (-1)) dX12_form_12 (by decide) ?_
          refine rn_iret dX12_form_13 rfl ?_
          exact ⟨MR.rf hB, by rw [aFo, hx, if_pos rfl, if_pos hy]⟩
    · obtain ⟨p, hp, rfl⟩ := (inR_iff (by omega)).mp hx
      obtain ⟨i, hi, rfl⟩ := nn_nI hy
      obtain ⟨n1, n2, n3, n4, n5, n6, n7, n8⟩ := hV.2.1 p hp
      have hfm := fmN_le _ n2 _ n4
      have hval : aFo P (nI p) (nI i) = if i < fmN (shP P p) (frP P p) then nI (fmA (shP P p) (frP P p) i) else -9 := by rw [aFo, hx, if_pos rfl, if_neg hy, nI_clamp hi, nI_clamp (by omega)]
      rw [hval]
      have at14 : Wp g MX12_form 14 [some (.ref 75), some (.int (nI p)), some (.int (nI i))] [] f 0 0 (fun r f' => MR f wi f' ∧ r = some (.int (if i < fmN (shP P p) (frP P p) then nI (fmA (shP P p) (frP P p) i) else -9))) := by
        refine rn_aload_n dX12_form_14 rfl ?_
        refine rn_iload_n dX12_form_15 rfl ?_
        refine rn_callV dX12_form_16 lmX12_109 ⟨Nat.le_of_ble_eq_true rfl, Nat.le_of_ble_eq_true rfl⟩ (cm_findsForms g f hM hs hF hP hV.1 hV.2.1 hp) hM rfl rfl (Nat.le_of_ble_eq_true rfl) ?_
        rintro _ f1 ⟨rfl, k1, o1, F1, hF1, hF1e⟩
        obtain ⟨hMR, hB1⟩ := MR_ff hB k1 hF1 o1
        obtain ⟨fb, hfb, hfbe⟩ := id hF1
        by_cases hlt : i < fmN (shP P p) (frP P p)
        · rw [if_pos hlt]
          refine rn_iload_n dX12_form_19 rfl ?_
          refine rn_aload_n dX12_form_20 rfl ?_
          refine rn_get dX12_form_21 lfX12_92 o1 rfl ?_
          rw [upd_eq]
          refine rn_icmp_ge (tgt := 36) dX12_form_24 (by decide) (fun c24 => ?_) (fun c24 => ?_)
          · exact absurd ((nI_leI (by omega) hi).mp c24) (by omega)
          · refine rn_aload_n dX12_form_27 rfl ?_
            refine rn_get dX12_form_28 lfX12_20 o1 rfl ?_
            refine rn_iload_n dX12_form_31 rfl ?_
            refine rn_iald dX12_form_32 hfb (vp_in_nI (show i < 9 by omega) (by decide)) ?_
            refine rn_goto (tgt := 38) dX12_form_33 (by decide) ?_
            refine rn_iret dX12_form_38 rfl ?_
            exact ⟨hMR, by rw [nI_clamp hi, hfbe i (by omega), hF1e i hlt]⟩
        · rw [if_neg hlt]
          refine rn_iload_n dX12_form_19 rfl ?_
          refine rn_aload_n dX12_form_20 rfl ?_
          refine rn_get dX12_form_21 lfX12_92 o1 rfl ?_
          rw [upd_eq]
          refine rn_icmp_ge (tgt := 36) dX12_form_24 (by decide) (fun c24 => ?_) (fun c24 => ?_)
          · refine rn_bipush (v := (-9)) dX12_form_36 (by decide) ?_
            refine rn_iret dX12_form_38 rfl ?_
            exact ⟨hMR, rfl⟩
          · exact absurd ((nI_leI (by omega) hi).mpr (by omega)) c24
      refine rn_aload_n dX12_form_0 rfl ?_
      refine rn_iload_n dX12_form_1 rfl ?_
      refine rn_callV dX12_form_2 lmX12_139 ⟨Nat.le_of_ble_eq_true rfl, Nat.le_of_ble_eq_true rfl⟩ (cm_isPiece g f (nI p) hM hs hP hV.1) hM rfl rfl (Nat.le_of_ble_eq_true rfl) ?_
      rintro _ _ ⟨rfl, rfl⟩
      rw [hx]
      refine rn_if_eq (tgt := 12) dX12_form_5 (by decide) (fun c5 => ?_) (fun c5 => ?_)
      · exact absurd c5 (by decide)
      · refine rn_iload_n dX12_form_8 rfl ?_
        refine rn_if_ge (tgt := 14) dX12_form_9 (by decide) (fun c9 => ?_) (fun c9 => ?_)
        · exact at14
        · exact absurd (Int32.not_lt.mp hy) c9
