theorem MR_fp {f f1 : Mm} {wi s : Nat → Int32} {cv : Int64} {P : PS} {l : List PE} {a b : Int32} (hB : MB f wi cv s P) (k1 : ∀ k, k ≠ 75 → (k < 79 ∨ 84 < k) → f1 k = f k) (hL : PLm f1 l) (hF : ∃ F, AR f1 79 9 F) (o : f1 75 = some (MO (mW wi a b) cv)) : MR f wi f1 := by
  obtain ⟨-, -, -, -, -, h3, ⟨L, h4⟩, ⟨st, h5⟩, ⟨B, h6⟩, G, h7⟩ := hB
  exact ⟨fun j hj => k1 j (by omega) (by omega), ⟨hF, ⟨l, hL⟩, h3.keep (fun k a b => k1 k (by omega) (by omega)), ⟨L, h4.keep (k1 91 (by omega) (by omega))⟩, ⟨st, h5.keep (k1 92 (by omega) (by omega))⟩, ⟨B, h6.keep (k1 85 (by omega) (by omega))⟩, G, h7.keep (k1 86 (by omega) (by omega))⟩, _, cv, o, mW_ne (by decide) (by decide), mW_ne (by decide) (by decide)⟩
abbrev lP (P : PS) : List PE := pl1 P (shP P) (frP P) (coP P) (pN P)
theorem cm_placementsOf (g : GG) (f : Mm) {wi s : Nat → Int32} {cv : Int64} {P : PS} {p : Nat} (hB : MB f wi cv s P) (hV : VPc P) (hp : p < pN P) : Ct g MX12_placementsOf [.ref 75, .int (nI p)] f 0 0 (fun r f' => MR f wi f' ∧ r = some (.int (nI (nOf (lP P) p (lP P).length)))) := by
  refine Ct.of ok_MX12_placementsOf (Nat.le_of_ble_eq_true rfl) ?_
  change Wp g MX12_placementsOf 0 [some (.ref 75), some (.int (nI p)), none, none] [] f 0 0 _
  obtain ⟨hM, hs, hP, hm⟩ := id hB
  obtain ⟨⟨F, hF⟩, ⟨l0, hL⟩, -⟩ := id hm
  have v8 := hV.1.2.2.2.2
  have hLS := pl1_LSd hV.1 hV.2.1
  refine rn_aload_n dX12_placementsOf_0 rfl ?_
  refine rn_callV dX12_placementsOf_1 lmX12_120 ⟨Nat.le_of_ble_eq_true rfl, Nat.le_of_ble_eq_true rfl⟩ (cm_findsPlacements g f hM hs hF hL hP hV.1 hV.2.1) hM rfl rfl (Nat.le_of_ble_eq_true rfl) ?_
  rintro _ f1 ⟨rfl, k1, hL1, hF1, a1, o1⟩
  have hMR := MR_fp hB k1 hL1 hF1 o1
  unfold lP
  generalize pl1 P (shP P) (frP P) (coP P) (pN P) = l at hLS hL1 o1 ⊢
  obtain ⟨⟨b1, g1, q1⟩, -⟩ := id hL1
  obtain ⟨hE, hl, hpc, -⟩ := id hLS
  have loop : ∀ (d k : Nat), l.length - k = d → k ≤ l.length → Wp g MX12_placementsOf 8 [some (.ref 75), some (.int (nI p)), some (.int (nI (nOf l p k))), some (.int (nI k))] [] f1 0 0 (fun r f' => MR f wi f' ∧ r = some (.int (nI (nOf l p l.length)))) := by
    intro d
    induction d using Nat.strongRecOn with
    | ind d ih =>
      intro k hd hk
      by_cases hlt : k < l.length
      · have hpk := hpc k hlt
        have e := ih _ (by omega) (k + 1) rfl (by omega)
        refine rn_iload_n dX12_placementsOf_8 rfl ?_
        refine rn_aload_n dX12_placementsOf_9 rfl ?_
        refine rn_get dX12_placementsOf_10 lfX12_106 o1 rfl ?_
        rw [mW_12]
        refine rn_icmp_ge (tgt := 40) dX12_placementsOf_13 (by decide) (fun c13 => ?_) (fun c13 => ?_)
        · exact absurd (ge_ex c13 (by omega) (by omega)) (by omega)
        · refine rn_iload_n dX12_placementsOf_16 rfl ?_
          refine rn_aload_n dX12_placementsOf_17 rfl ?_
          refine rn_get dX12_placementsOf_18 lfX12_23 o1 rfl ?_
          refine rn_iload_n dX12_placementsOf_21 rfl ?_
          refine rn_iald dX12_placementsOf_22 g1 (vp_in_nI (show k < 2304 by omega) (by decide)) ?_
          rw [nI_clamp (by omega), q1 k _ (gp_some hlt)]
          refine rn_iload_n dX12_placementsOf_23 rfl ?_
          refine rn_icmp_ne (tgt := 31) dX12_placementsOf_24 (by decide) (fun c24 => ?_) (fun c24 => ?_)
          · refine rn_iconst (v := nI 0) dX12_placementsOf_31 (by decide) ?_
            refine rn_iadd dX12_placementsOf_32 ?_
            rw [nI_add]
            refine rn_istore_n dX12_placementsOf_33 (Nat.le_of_ble_eq_true rfl) rfl ?_
            refine rn_iinc (v := nI (k + 1)) dX12_placementsOf_34 rfl (nI_1 k) (Nat.le_of_ble_eq_true rfl) rfl ?_
            refine rn_goto (tgt := 8) dX12_placementsOf_37 (by decide) ?_
            rw [nOf, if_neg (fun h => c24 (by rw [h]))] at e
            exact e
          · refine rn_iconst (v := nI 1) dX12_placementsOf_27 (by decide) ?_
            refine rn_goto (tgt := 32) dX12_placementsOf_28 (by decide) ?_
            refine rn_iadd dX12_placementsOf_32 ?_
            rw [nI_add]
            refine rn_istore_n dX12_placementsOf_33 (Nat.le_of_ble_eq_true rfl) rfl ?_
            refine rn_iinc (v := nI (k + 1)) dX12_placementsOf_34 rfl (nI_1 k) (Nat.le_of_ble_eq_true rfl) rfl ?_
            refine rn_goto (tgt := 8) dX12_placementsOf_37 (by decide) ?_
            rw [nOf, if_pos ((nI_eq (by omega) (by omega)).mp c24)] at e
            exact e
      · have hke : k = l.length := by omega
        subst hke
        refine rn_iload_n dX12_placementsOf_8 rfl ?_
        refine rn_aload_n dX12_placementsOf_9 rfl ?_
        refine rn_get dX12_placementsOf_10 lfX12_106 o1 rfl ?_
        rw [mW_12]
        refine rn_icmp_ge (tgt := 40) dX12_placementsOf_13 (by decide) (fun c13 => ?_) (fun c13 => ?_)
        · refine rn_iload_n dX12_placementsOf_40 rfl ?_
          refine rn_iret dX12_placementsOf_41 rfl ?_
          exact ⟨hMR, rfl⟩
        · exact absurd (ge_in c13 (by omega)) (by omega)
  refine rn_iconst (v := nI 0) dX12_placementsOf_4 (by decide) ?_
  refine rn_istore_n dX12_placementsOf_5 (Nat.le_of_ble_eq_true rfl) rfl ?_
  refine rn_iconst (v := nI 0) dX12_placementsOf_6 (by decide) ?_
  refine rn_istore_n dX12_placementsOf_7 (Nat.le_of_ble_eq_true rfl) rfl ?_
  exact loop _ 0 rfl (by omega)
/-- the answers of count -/
def aCnt (P : PS) (h : Nat) (k : Nat) : Int32 := match k with
  | 0 => nI (pW P)
  | 1 => nI (pH P)
  | 2 => nI (opn (pC P) (pW P * pH P))
  | 3 => nI (pN P)
  | 4 => nI (pMd P)
  | 5 => nI (pRu P)
  | 6 => nI (sumf (fun i => cpP P i * popk 32 (shP P i)) (pN P))
  | 7 => nI (lP P).length
  | 8 => nI (syL P 8).length
  | _ => nI h
def aCn (P : PS) (h : Nat) (x : Int32) : Int32 := if inR x 10 = true then aCnt P h x.toNatClampNeg else -1
theorem syL_cnt (P : PS) : ∀ n, (syL P n).length = cntB (fun s => isSy P s) n
  | 0 => rfl
  | n + 1 => by
    rw [syL]
    cases h : isSy P n with
    | true => rw [cntB_1 (s := fun s => isSy P s) h, if_pos rfl, List.length_append, List.length_singleton, syL_cnt P n]
    | false => rw [cntB_0 (s := fun s => isSy P s) h, if_neg (by decide), syL_cnt P n]
theorem inR_no {x : Int32} {n : Nat} (hn : n < 2 ^ 30) (h : inR x n = false) : x.toInt < 0 ∨ (n : Int) - 1 < x.toInt := by
  have hz : (0 : Int32).toInt = 0 := by decide
  rw [inR, Bool.and_eq_false_iff] at h
  rcases h with h | h
  · rw [Bool.not_eq_false', decide_eq_true_eq] at h
    have := Int32.lt_iff_toInt_lt.mp h
    exact Or.inl (by omega)
  · rw [Bool.not_eq_false', decide_eq_true_eq] at h
    have := Int32.le_iff_toInt_le.mp h
    rw [nI_toInt (by omega)] at this
    exact Or.inr (by omega)
theorem cm_count (g : GG) (f : Mm) {P : PS} {H : List PS} {T : List Nat} (x : Int32) (hI : MI f P H T) (hV : VPc P) : Ct g MX12_count [.ref 75, .int x] f 0 0 (fun r f' => (∀ j, j < 75 → f' j = f j) ∧ MI f' P H T ∧ r = some (.int (aCn P H.length x))) := by
  refine Ct.of ok_MX12_count (Nat.le_of_ble_eq_true rfl) ?_
  change Wp g MX12_count 0 [some (.ref 75), some (.int x), none, none] [] f 0 0 _
  obtain ⟨wi, cv, s, pr, hB, hp, h2, hl, hPS, hT, h4⟩ := id hI
  obtain ⟨hM, hs, hP, hm⟩ := id hB
  obtain ⟨sb, hsb, hsbe⟩ := id hs
  have v8 := hV.1.2.2.2.2
  cases hin : inR x 10 with
  | false =>
    have hno := inR_no (by decide) hin
    refine rn_iconst (v := nI 0) dX12_count_0 (by decide) ?_
    refine rn_istore_n dX12_count_1 (Nat.le_of_ble_eq_true rfl) rfl ?_
    refine rn_iload_n dX12_count_2 rfl ?_
    refine rn_tableOut (tgt := 174) dX12_count_3 (by omega) (by decide) ?_
    refine rn_iconst (v := (-1)) dX12_count_174 (by decide) ?_
    refine rn_iret dX12_count_175 rfl ?_
    exact ⟨fun _ _ => rfl, hI, by rw [aCn, hin]; rfl⟩
  | true =>
    obtain ⟨k, hk, rfl⟩ := (inR_iff (by decide)).mp hin
    have hval : aCn P H.length (nI k) = aCnt P H.length k := by rw [aCn, hin, if_pos rfl, nI_clamp (by omega)]
    rw [hval]
    have rd : ∀ i, i < 73 → sb i = s i := hsbe
    rcases (show k = 0 ∨ k = 1 ∨ k = 2 ∨ k = 3 ∨ k = 4 ∨ k = 5 ∨ k = 6 ∨ k = 7 ∨ k = 8 ∨ k = 9 by omega) with rfl | rfl | rfl | rfl | rfl | rfl | rfl | rfl | rfl | rfl
    · refine rn_iconst (v := nI 0) dX12_count_0 (by decide) ?_
      refine rn_istore_n dX12_count_1 (Nat.le_of_ble_eq_true rfl) rfl ?_
      refine rn_iload_n dX12_count_2 rfl ?_
      refine rn_tableIn (tgt := 56) dX12_count_3 (by decide) (by decide) rfl (by decide) ?_
      refine rn_aload_n dX12_count_56 rfl ?_
      refine rn_get dX12_count_57 lfX12_7 hM rfl ?_
      refine rn_iload_n dX12_count_60 rfl ?_
      refine rn_iald dX12_count_61 hsb (vp_in_nI (show 0 < 73 by omega) (by decide)) ?_
      refine rn_iret dX12_count_62 rfl ?_
      exact ⟨fun _ _ => rfl, hI, by rw [nI_clamp (by decide), rd 0 (by omega), hP.1]; rfl⟩
    · refine rn_iconst (v := nI 0) dX12_count_0 (by decide) ?_
      refine rn_istore_n dX12_count_1 (Nat.le_of_ble_eq_true rfl) rfl ?_
      refine rn_iload_n dX12_count_2 rfl ?_
      refine rn_tableIn (tgt := 56) dX12_count_3 (by decide) (by decide) rfl (by decide) ?_
      refine rn_aload_n dX12_count_56 rfl ?_
      refine rn_get dX12_count_57 lfX12_7 hM rfl ?_
      refine rn_iload_n dX12_count_60 rfl ?_
      refine rn_iald dX12_count_61 hsb (vp_in_nI (show 1 < 73 by omega) (by decide)) ?_
      refine rn_iret dX12_count_62 rfl ?_
      exact ⟨fun _ _ => rfl, hI, by rw [nI_clamp (by decide), rd 1 (by omega), hP.2.1]; rfl⟩
    · refine rn_iconst (v := nI 0) dX12_count_0 (by decide) ?_
      refine rn_istore_n dX12_count_1 (Nat.le_of_ble_eq_true rfl) rfl ?_
      refine rn_iload_n dX12_count_2 rfl ?_
      refine rn_tableIn (tgt := 63) dX12_count_3 (by decide) (by decide) rfl (by decide) ?_
      refine rn_aload_n dX12_count_63 rfl ?_
      refine rn_callV dX12_count_64 lmX12_129 ⟨Nat.le_of_ble_eq_true rfl, Nat.le_of_ble_eq_true rfl⟩ (cm_opens g f hM hs hP hV.1) hM rfl rfl (Nat.le_of_ble_eq_true rfl) ?_
      rintro _ _ ⟨rfl, rfl⟩
      refine rn_iret dX12_count_67 rfl ?_
      exact ⟨fun _ _ => rfl, hI, rfl⟩
    · refine rn_iconst (v := nI 0) dX12_count_0 (by decide) ?_
      refine rn_istore_n dX12_count_1 (Nat.le_of_ble_eq_true rfl) rfl ?_
      refine rn_iload_n dX12_count_2 rfl ?_
      refine rn_tableIn (tgt := 68) dX12_count_3 (by decide) (by decide) rfl (by decide) ?_
      refine rn_aload_n dX12_count_68 rfl ?_
      refine rn_get dX12_count_69 lfX12_7 hM rfl ?_
      refine rn_iconst (v := nI 4) dX12_count_72 (by decide) ?_
      refine rn_iald dX12_count_73 hsb (vp_in_nI (show 4 < 73 by omega) (by decide)) ?_
      refine rn_iret dX12_count_74 rfl ?_
      exact ⟨fun _ _ => rfl, hI, by rw [nI_clamp (by decide), rd 4 (by omega), hP.2.2.2.2.1]; rfl⟩
    · refine rn_iconst (v := nI 0) dX12_count_0 (by decide) ?_
      refine rn_istore_n dX12_count_1 (Nat.le_of_ble_eq_true rfl) rfl ?_
      refine rn_iload_n dX12_count_2 rfl ?_
      refine rn_tableIn (tgt := 75) dX12_count_3 (by decide) (by decide) rfl (by decide) ?_
      refine rn_aload_n dX12_count_75 rfl ?_
      refine rn_get dX12_count_76 lfX12_7 hM rfl ?_
      refine rn_iconst (v := nI 2) dX12_count_79 (by decide) ?_
      refine rn_iald dX12_count_80 hsb (vp_in_nI (show 2 < 73 by omega) (by decide)) ?_
      refine rn_iret dX12_count_81 rfl ?_
      exact ⟨fun _ _ => rfl, hI, by rw [nI_clamp (by decide), rd 2 (by omega), hP.2.2.1]; rfl⟩
    · refine rn_iconst (v := nI 0) dX12_count_0 (by decide) ?_
      refine rn_istore_n dX12_count_1 (Nat.le_of_ble_eq_true rfl) rfl ?_
      refine rn_iload_n dX12_count_2 rfl ?_
      refine rn_tableIn (tgt := 82) dX12_count_3 (by decide) (by decide) rfl (by decide) ?_
      refine rn_aload_n dX12_count_82 rfl ?_
      refine rn_get dX12_count_83 lfX12_7 hM rfl ?_
      refine rn_iconst (v := nI 3) dX12_count_86 (by decide) ?_
      refine rn_iald dX12_count_87 hsb (vp_in_nI (show 3 < 73 by omega) (by decide)) ?_
      refine rn_iret dX12_count_88 rfl ?_
      exact ⟨fun _ _ => rfl, hI, by rw [nI_clamp (by decide), rd 3 (by omega), hP.2.2.2.1]; rfl⟩
    · have es4 : sb 4 = nI (pN P) := (rd 4 (by omega)).trans hP.2.2.2.2.1
      have loop : ∀ (d i : Nat), pN P - i = d → i ≤ pN P → Wp g MX12_count 91 [some (.ref 75), some (.int (nI 6)), some (.int (nI (sumf (fun i => cpP P i * popk 32 (shP P i)) i))), some (.int (nI i))] [] f 0 0 (fun r f' => (∀ j, j < 75 → f' j = f j) ∧ MI f' P H T ∧ r = some (.int (aCnt P H.length 6))) := by
        intro d
        induction d using Nat.strongRecOn with
        | ind d ih =>
          intro i hd hi
          by_cases hlt : i < pN P
          · obtain ⟨a1, a2, a3, a4⟩ := hP.2.2.2.2.2.2 i hlt
            obtain ⟨n1, n2, n3, n4, n5, n6, n7, n8⟩ := hV.2.1 i hlt
            have hsl := shL_lt _ n2
            have e0 : s (41 + 4 * i + 0) = nI (shP P i) := a1.trans n1
            have e3 : s (41 + 4 * i + 3) = nI (cpP P i) := a4.trans n7
            have e := ih _ (by omega) (i + 1) rfl (by omega)
            refine rn_iload_n dX12_count_91 rfl ?_
            refine rn_aload_n dX12_count_92 rfl ?_
            refine rn_get dX12_count_93 lfX12_7 hM rfl ?_
            refine rn_iconst (v := nI 4) dX12_count_96 (by decide) ?_
            refine rn_iald dX12_count_97 hsb (vp_in_nI (show 4 < 73 by omega) (by decide)) ?_
            rw [nI_clamp (by decide), es4]
            refine rn_icmp_ge (tgt := 126) dX12_count_98 (by decide) (fun c98 => ?_) (fun c98 => ?_)
            · exact absurd (ge_ex c98 (by omega) (by omega)) (by omega)
            · refine rn_iload_n dX12_count_101 rfl ?_
              refine rn_aload_n dX12_count_102 rfl ?_
              refine rn_iload_n dX12_count_103 rfl ?_
              refine rn_iconst (v := nI 0) dX12_count_104 (by decide) ?_
              refine rn_callV dX12_count_105 lmX12_95 ⟨Nat.le_of_ble_eq_true rfl, Nat.le_of_ble_eq_true rfl⟩ (cm_its g f hM hs (show i < 8 by omega) (show 0 < 4 by decide)) hM rfl rfl (Nat.le_of_ble_eq_true rfl) ?_
              rintro _ _ ⟨rfl, rfl⟩
              rw [e0]
              refine rn_callS dX12_count_108 lmX12_82 ⟨Nat.le_of_ble_eq_true rfl, Nat.le_of_ble_eq_true rfl⟩ (cm_squares g f hsl.1) rfl rfl (Nat.le_of_ble_eq_true rfl) ?_
              rintro _ _ ⟨rfl, rfl⟩
              refine rn_aload_n dX12_count_111 rfl ?_
              refine rn_iload_n dX12_count_112 rfl ?_
              refine rn_iconst (v := nI 3) dX12_count_113 (by decide) ?_
              refine rn_callV dX12_count_114 lmX12_95 ⟨Nat.le_of_ble_eq_true rfl, Nat.le_of_ble_eq_true rfl⟩ (cm_its g f hM hs (show i < 8 by omega) (show 3 < 4 by decide)) hM rfl rfl (Nat.le_of_ble_eq_true rfl) ?_
              rintro _ _ ⟨rfl, rfl⟩
              rw [e3]
              refine rn_imul dX12_count_117 ?_
              rw [pk_mul]
              refine rn_iadd dX12_count_118 ?_
              rw [nI_add]
              refine rn_istore_n dX12_count_119 (Nat.le_of_ble_eq_true rfl) rfl ?_
              refine rn_iinc (v := nI (i + 1)) dX12_count_120 rfl (nI_1 i) (Nat.le_of_ble_eq_true rfl) rfl ?_
              refine rn_goto (tgt := 91) dX12_count_123 (by decide) ?_
              rw [sumf, popk_16 hsl.1, Nat.mul_comm (cpP P i)] at e
              exact e
          · have hie : i = pN P := by omega
            subst hie
            refine rn_iload_n dX12_count_91 rfl ?_
            refine rn_aload_n dX12_count_92 rfl ?_
            refine rn_get dX12_count_93 lfX12_7 hM rfl ?_
            refine rn_iconst (v := nI 4) dX12_count_96 (by decide) ?_
            refine rn_iald dX12_count_97 hsb (vp_in_nI (show 4 < 73 by omega) (by decide)) ?_
            rw [nI_clamp (by decide), es4]
            refine rn_icmp_ge (tgt := 126) dX12_count_98 (by decide) (fun c98 => ?_) (fun c98 => ?_)
            · refine rn_iload_n dX12_count_126 rfl ?_
              refine rn_iret dX12_count_127 rfl ?_
              exact ⟨fun _ _ => rfl, hI, rfl⟩
            · exact absurd (ge_in c98 (by omega)) (by omega)
      refine rn_iconst (v := nI 0) dX12_count_0 (by decide) ?_
      refine rn_istore_n dX12_count_1 (Nat.le_of_ble_eq_true rfl) rfl ?_
      refine rn_iload_n dX12_count_2 rfl ?_
      refine rn_tableIn (tgt := 89) dX12_count_3 (by decide) (by decide) rfl (by decide) ?_
      refine rn_iconst (v := nI 0) dX12_count_89 (by decide) ?_
      refine rn_istore_n dX12_count_90 (Nat.le_of_ble_eq_true rfl) rfl ?_
      exact loop _ 0 rfl (by omega)
    · obtain ⟨⟨F, hF⟩, ⟨l0, hL⟩, -⟩ := id hm
      refine rn_iconst (v := nI 0) dX12_count_0 (by decide) ?_
      refine rn_istore_n dX12_count_1 (Nat.le_of_ble_eq_true rfl) rfl ?_
      refine rn_iload_n dX12_count_2 rfl ?_
      refine rn_tableIn (tgt := 128) dX12_count_3 (by decide) (by decide) rfl (by decide) ?_
      refine rn_aload_n dX12_count_128 rfl ?_
      refine rn_callV dX12_count_129 lmX12_120 ⟨Nat.le_of_ble_eq_true rfl, Nat.le_of_ble_eq_true rfl⟩ (cm_findsPlacements g f hM hs hF hL hP hV.1 hV.2.1) hM rfl rfl (Nat.le_of_ble_eq_true rfl) ?_
      rintro _ f1 ⟨rfl, k1, hL1, hF1, a1, o1⟩
      refine rn_aload_n dX12_count_132 rfl ?_
      refine rn_get dX12_count_133 lfX12_106 o1 rfl ?_
      rw [mW_12]
      refine rn_iret dX12_count_136 rfl ?_
      have h := MI_ro hB hp h2 hl hPS hT h4 (MR_fp hB k1 hL1 hF1 o1)
      exact ⟨h.1, h.2, rfl⟩
    · have loop : ∀ (d i : Nat), 8 - i = d → i ≤ 8 → Wp g MX12_count 139 [some (.ref 75), some (.int (nI 8)), some (.int (nI (cntB (fun s => isSy P s) i))), some (.int (nI i))] [] f 0 0 (fun r f' => (∀ j, j < 75 → f' j = f j) ∧ MI f' P H T ∧ r = some (.int (aCnt P H.length 8))) := by
        intro d
        induction d using Nat.strongRecOn with
        | ind d ih =>
          intro i hd hi
          by_cases hlt : i < 8
          · have e := ih _ (by omega) (i + 1) rfl (by omega)
            refine rn_iload_n dX12_count_139 rfl ?_
            refine rn_bipush (v := nI 8) dX12_count_140 (by decide) ?_
            refine rn_icmp_ge (tgt := 167) dX12_count_142 (by decide) (fun c142 => ?_) (fun c142 => ?_)
            · exact absurd (ge_ex c142 (by omega) (by decide)) (by omega)
            · refine rn_iload_n dX12_count_145 rfl ?_
              refine rn_aload_n dX12_count_146 rfl ?_
              refine rn_iload_n dX12_count_147 rfl ?_
              refine rn_callV dX12_count_148 lmX12_146 ⟨Nat.le_of_ble_eq_true rfl, Nat.le_of_ble_eq_true rfl⟩ (cm_isSymmetry g f hM hs hP hV.1 hlt) hM rfl rfl (Nat.le_of_ble_eq_true rfl) ?_
              rintro _ _ ⟨rfl, rfl⟩
              refine rn_if_eq (tgt := 158) dX12_count_151 (by decide) (fun c151 => ?_) (fun c151 => ?_)
              · refine rn_iconst (v := nI 0) dX12_count_158 (by decide) ?_
                refine rn_iadd dX12_count_159 ?_
                rw [nI_add]
                refine rn_istore_n dX12_count_160 (Nat.le_of_ble_eq_true rfl) rfl ?_
                refine rn_iinc (v := nI (i + 1)) dX12_count_161 rfl (nI_1 i) (Nat.le_of_ble_eq_true rfl) rfl ?_
                refine rn_goto (tgt := 139) dX12_count_164 (by decide) ?_
                rw [cntB_0 (s := fun s => isSy P s) (bI_0.mp c151)] at e
                exact e
              · refine rn_iconst (v := nI 1) dX12_count_154 (by decide) ?_
                refine rn_goto (tgt := 159) dX12_count_155 (by decide) ?_
                refine rn_iadd dX12_count_159 ?_
                rw [nI_add]
                refine rn_istore_n dX12_count_160 (Nat.le_of_ble_eq_true rfl) rfl ?_
                refine rn_iinc (v := nI (i + 1)) dX12_count_161 rfl (nI_1 i) (Nat.le_of_ble_eq_true rfl) rfl ?_
                refine rn_goto (tgt := 139) dX12_count_164 (by decide) ?_
                rw [cntB_1 (s := fun s => isSy P s) (bI_n0.mp c151)] at e
                exact e
          · have hie : i = 8 := by omega
            subst hie
            refine rn_iload_n dX12_count_139 rfl ?_
            refine rn_bipush (v := nI 8) dX12_count_140 (by decide) ?_
            refine rn_icmp_ge (tgt := 167) dX12_count_142 (by decide) (fun c142 => ?_) (fun c142 => ?_)
            · refine rn_iload_n dX12_count_167 rfl ?_
              refine rn_iret dX12_count_168 rfl ?_
              exact ⟨fun _ _ => rfl, hI, by rw [aCnt, syL_cnt]⟩
            · exact absurd (ge_in c142 (by decide)) (by decide)
      refine rn_iconst (v := nI 0) dX12_count_0 (by decide) ?_
      refine rn_istore_n dX12_count_1 (Nat.le_of_ble_eq_true rfl) rfl ?_
      refine rn_iload_n dX12_count_2 rfl ?_
      refine rn_tableIn (tgt := 137) dX12_count_3 (by decide) (by decide) rfl (by decide) ?_
      refine rn_iconst (v := nI 0) dX12_count_137 (by decide) ?_
      refine rn_istore_n dX12_count_138 (Nat.le_of_ble_eq_true rfl) rfl ?_
      exact loop _ 0 rfl (by omega)
    · refine rn_iconst (v := nI 0) dX12_count_0 (by decide) ?_
      refine rn_istore_n dX12_count_1 (Nat.le_of_ble_eq_true rfl) rfl ?_
      refine rn_iload_n dX12_count_2 rfl ?_
      refine rn_tableIn (tgt := 169) dX12_count_3 (by decide) (by decide) rfl (by decide) ?_
      refine rn_aload_n dX12_count_169 rfl ?_
      refine rn_get dX12_count_170 lfX12_64 hM rfl ?_
      refine rn_iret dX12_count_173 rfl ?_
      exact ⟨fun _ _ => rfl, hI, by rw [h2]; rfl⟩
