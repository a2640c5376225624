-- the class's Walk
abbrev WKE (tk L R lv cc tr cn : Nat) (un ov uf : Bool) : Ent := .inr (8, [.ref 1, .ref 56, .ref 64, .ref 65, .ref 66, .ref 67, .long (lN tk), .long (lN L), .long (lN R), .int (nI lv), .int (nI cc), .int (nI tr), .int (nI cn), .int (bI un), .int (bI ov), .int (bI uf)])
def CXw (f : Mm) (q : SQ) : Prop := PB f 1 q.1 ∧ PLc f q.2.1 (opP q.1) ∧ ORD f q.2.1
theorem CXw.keep {f f' : Mm} {q : SQ} (h : CXw f q) (e : ∀ k, k < 63 → f' k = f k) : CXw f' q := by
  obtain ⟨h1, h2, O, S, h3, h4, h5⟩ := h
  exact ⟨h1.keep (fun k a b => e k (by omega)), h2.keep (e 56 (by omega)) (e 57 (by omega)) (e 58 (by omega)), O, S, h3.keep (e 59 (by omega)), h4.keep (e 60 (by omega)), h5⟩
theorem not_l {n : Nat} (h : n < 2 ^ 64) : lN n ^^^ (-1) = lN (n ^^^ (2 ^ 64 - 1)) := by
  rw [show (-1 : Int64) = lN (2 ^ 64 - 1) from rfl, lb_xor h (by decide)]
theorem ct_around (g : GG) (f : Mm) {P : PS} {tk L R lv cc tr cn m : Nat} {un ov uf : Bool} (hO : f 63 = some (WKE tk L R lv cc tr cn un ov uf)) (hP : PB f 1 P) (hV : VD P) (hL : L < 2 ^ 36) (hR : R < 2 ^ 36) (hm : m < 2 ^ 36) : Ct g MX9_around [.ref 63, .long (lN m)] f 0 0 (fun r f' => f = f' ∧ r = some (.long (lN (aro (pW P) L R m)))) := by
  refine Ct.of ok_MX9_around (Nat.le_of_ble_eq_true rfl) ?_
  change Wp g MX9_around 0 [some (.ref 63), some (.long (lN m)), none, none, none, none, none] [] f 0 0 _
  obtain ⟨v1, v2, -⟩ := id hV
  have a1 : m &&& (R ^^^ (2 ^ 64 - 1)) ≤ m := Nat.and_le_left
  have a2 : m &&& (L ^^^ (2 ^ 64 - 1)) ≤ m := Nat.and_le_left
  have x1 : R ^^^ (2 ^ 64 - 1) < 2 ^ 64 := Nat.xor_lt_two_pow (by omega) (by decide)
  have x2 : L ^^^ (2 ^ 64 - 1) < 2 ^ 64 := Nat.xor_lt_two_pow (by omega) (by decide)
  have d1 : (m &&& (L ^^^ (2 ^ 64 - 1))) / 2 ^ 1 ≤ m &&& (L ^^^ (2 ^ 64 - 1)) := Nat.div_le_self _ _
  have d2 : m / 2 ^ pW P ≤ m := Nat.div_le_self _ _
  have pw : 2 ^ pW P ≤ 2 ^ 6 := Nat.pow_le_pow_right (by decide) v2
  have mw : m * 2 ^ pW P < 2 ^ 64 := Nat.lt_of_le_of_lt (Nat.mul_le_mul_left m pw) (by omega)
  have o1 : (m &&& (R ^^^ (2 ^ 64 - 1))) * 2 ^ 1 ||| (m &&& (L ^^^ (2 ^ 64 - 1))) / 2 ^ 1 < 2 ^ 64 := Nat.or_lt_two_pow (by omega) (by omega)
  refine rn_lload_n dX9_around_0 rfl ?_
  refine rn_aload_n dX9_around_1 rfl ?_
  refine rn_get dX9_around_2 lfX9_32 hO rfl ?_
  refine rn_ldc2 dX9_around_5 lcX9_119 ?_
  refine rn_lxor dX9_around_8 ?_
  rw [not_l (show R < 2 ^ 64 by omega)]
  refine rn_land dX9_around_9 ?_
  rw [wb_and (by omega) x1]
  refine rn_iconst (v := nI 1) dX9_around_10 (by decide) ?_
  refine rn_lshl dX9_around_11 ?_
  rw [wb_shl _ (by decide)]
  refine rn_lstore_n dX9_around_12 (Nat.le_of_ble_eq_true rfl) rfl ?_
  refine rn_lload_n dX9_around_13 rfl ?_
  refine rn_aload_n dX9_around_14 rfl ?_
  refine rn_get dX9_around_15 lfX9_29 hO rfl ?_
  refine rn_ldc2 dX9_around_18 lcX9_119 ?_
  refine rn_lxor dX9_around_21 ?_
  rw [not_l (show L < 2 ^ 64 by omega)]
  refine rn_land dX9_around_22 ?_
  rw [wb_and (by omega) x2]
  refine rn_iconst (v := nI 1) dX9_around_23 (by decide) ?_
  refine rn_lushr dX9_around_24 ?_
  rw [wb_shr (by omega) (by decide)]
  refine rn_lstore dX9_around_25 (Nat.le_of_ble_eq_true rfl) rfl ?_
  refine rn_lload_n dX9_around_27 rfl ?_
  refine rn_lload dX9_around_28 rfl ?_
  refine rn_lor dX9_around_30 ?_
  rw [wb_or (by omega) (by omega)]
  refine rn_lload_n dX9_around_31 rfl ?_
  refine rn_aload_n dX9_around_32 rfl ?_
  refine rn_get dX9_around_33 lfX9_58 hO rfl ?_
  refine rn_get dX9_around_36 lfX9_79 hP.1 rfl ?_
  refine rn_lshl dX9_around_39 ?_
  rw [wb_shl _ (by omega)]
  refine rn_lor dX9_around_40 ?_
  rw [wb_or o1 mw]
  refine rn_lload_n dX9_around_41 rfl ?_
  refine rn_aload_n dX9_around_42 rfl ?_
  refine rn_get dX9_around_43 lfX9_58 hO rfl ?_
  refine rn_get dX9_around_46 lfX9_79 hP.1 rfl ?_
  refine rn_lushr dX9_around_49 ?_
  rw [wb_shr (by omega) (by omega)]
  refine rn_lor dX9_around_50 ?_
  rw [wb_or (Nat.or_lt_two_pow o1 mw) (by omega)]
  refine rn_lret dX9_around_51 rfl ?_
  exact ⟨rfl, rfl⟩
theorem aro_64 {P : PS} {L R m : Nat} (hV : VD P) (hL : L < 2 ^ 36) (hR : R < 2 ^ 36) (hm : m < 2 ^ 36) : aro (pW P) L R m < 2 ^ 64 := by
  have v2 := hV.2.1
  have a1 : m &&& (R ^^^ (2 ^ 64 - 1)) ≤ m := Nat.and_le_left
  have a2 : m &&& (L ^^^ (2 ^ 64 - 1)) ≤ m := Nat.and_le_left
  have d1 : (m &&& (L ^^^ (2 ^ 64 - 1))) / 2 ^ 1 ≤ m &&& (L ^^^ (2 ^ 64 - 1)) := Nat.div_le_self _ _
  have d2 : m / 2 ^ pW P ≤ m := Nat.div_le_self _ _
  have pw : 2 ^ pW P ≤ 2 ^ 6 := Nat.pow_le_pow_right (by decide) v2
  have mw : m * 2 ^ pW P < 2 ^ 64 := Nat.lt_of_le_of_lt (Nat.mul_le_mul_left m pw) (by omega)
  exact Nat.or_lt_two_pow (Nat.or_lt_two_pow (Nat.or_lt_two_pow (by omega) (by omega)) mw) (by omega)
theorem ct_isAllowed (g : GG) (f : Mm) {P : PS} {tk L R lv cc tr cn m p y co : Nat} {un ov uf : Bool} {Y : Nat → Int32} {T : Nat → Nat} (hO : f 63 = some (WKE tk L R lv cc tr cn un ov uf)) (hP : PB f 1 P) (hV : VD P) (hL : L < 2 ^ 36) (hR : R < 2 ^ 36) (hm : m < 2 ^ 36) (hp : p < 8) (hY : AR f 66 8 Y) (hy : Y p = nI y) (hy2 : y < 100) (hT : AL f 67 4 T) (hT2 : T co < 2 ^ 36) (hk : pK P p = nI co) (hco : co < 4) (hru : pRu P ≤ 1) : Ct g MX9_isAllowed [.ref 63, .int (nI p), .long (lN m)] f 0 0 (fun r f' => f = f' ∧ r = some (.int (bI (decide (0 < y) && (decide (pRu P = 0) || (decide (co = 0) || decide (aro (pW P) L R m &&& T co = 0))))))) := by
  refine Ct.of ok_MX9_isAllowed (Nat.le_of_ble_eq_true rfl) ?_
  change Wp g MX9_isAllowed 0 [some (.ref 63), some (.int (nI p)), some (.long (lN m)), none, none] [] f 0 0 _
  obtain ⟨b, hb, hbe⟩ := id hT
  have v2 := hV.2.1
  refine rn_aload_n dX9_isAllowed_0 rfl ?_
  refine rn_get dX9_isAllowed_1 lfX9_18 hO rfl ?_
  refine rn_iload_n dX9_isAllowed_4 rfl ?_
  refine rn_callS dX9_isAllowed_5 lmX9_115 ⟨Nat.le_of_ble_eq_true rfl, Nat.le_of_ble_eq_true rfl⟩ (ct_at g f (nI p) (by decide) hY) rfl rfl (Nat.le_of_ble_eq_true rfl) ?_
  rintro _ _ ⟨rfl, rfl⟩
  rw [atf_nI hp (by decide), hy]
  refine rn_if_ne (tgt := 13) dX9_isAllowed_8 (by decide) (fun c8 => ?_) (fun c8 => ?_)
  · have hy0 : 0 < y := Nat.pos_of_ne_zero fun q => c8 (by rw [q]; rfl)
    rw [decide_eq_true hy0, Bool.true_and]
    refine rn_aload_n dX9_isAllowed_13 rfl ?_
    refine rn_get dX9_isAllowed_14 lfX9_58 hO rfl ?_
    refine rn_iload_n dX9_isAllowed_17 rfl ?_
    refine rn_callV dX9_isAllowed_18 lmX9_142 ⟨Nat.le_of_ble_eq_true rfl, Nat.le_of_ble_eq_true rfl⟩ (ct_colourOf g f (nI p) hP) hP.1 rfl rfl (Nat.le_of_ble_eq_true rfl) ?_
    rintro _ _ ⟨rfl, rfl⟩
    rw [atf_nI hp (by decide), hk]
    refine rn_istore dX9_isAllowed_21 (Nat.le_of_ble_eq_true rfl) rfl ?_
    refine rn_aload_n dX9_isAllowed_23 rfl ?_
    refine rn_get dX9_isAllowed_24 lfX9_58 hO rfl ?_
    refine rn_get dX9_isAllowed_27 lfX9_145 hP.1 rfl ?_
    refine rn_if_eq (tgt := 62) dX9_isAllowed_30 (by decide) (fun c30 => ?_) (fun c30 => ?_)
    · refine rn_iconst (v := nI 1) dX9_isAllowed_62 (by decide) ?_
      refine rn_goto (tgt := 67) dX9_isAllowed_63 (by decide) ?_
      refine rn_zret dX9_isAllowed_67 rfl rfl ?_
      exact ⟨rfl, by rw [decide_eq_true ((az (by omega)).mp c30), Bool.true_or]; rfl⟩
    · refine rn_iload dX9_isAllowed_33 rfl ?_
      refine rn_if_le (tgt := 62) dX9_isAllowed_35 (by decide) (fun c35 => ?_) (fun c35 => ?_)
      · refine rn_iconst (v := nI 1) dX9_isAllowed_62 (by decide) ?_
        refine rn_goto (tgt := 67) dX9_isAllowed_63 (by decide) ?_
        refine rn_zret dX9_isAllowed_67 rfl rfl ?_
        have hc0 : co = 0 := Nat.eq_zero_of_not_pos fun q => absurd c35 (nI_nle q (by omega))
        exact ⟨rfl, by rw [decide_eq_true hc0, Bool.true_or, Bool.or_true]; rfl⟩
      · refine rn_iload dX9_isAllowed_38 rfl ?_
        refine rn_iconst (v := nI 4) dX9_isAllowed_40 (by decide) ?_
        refine rn_icmp_ge (tgt := 62) dX9_isAllowed_41 (by decide) (fun c41 => ?_) (fun c41 => ?_)
        · refine rn_iconst (v := nI 1) dX9_isAllowed_62 (by decide) ?_
          refine rn_goto (tgt := 67) dX9_isAllowed_63 (by decide) ?_
          refine rn_zret dX9_isAllowed_67 rfl rfl ?_
          exact absurd (ge_ex c41 (by omega) (by decide)) (by omega)
        · refine rn_aload_n dX9_isAllowed_44 rfl ?_
          refine rn_lload_n dX9_isAllowed_45 rfl ?_
          refine rn_callV dX9_isAllowed_46 lmX9_148 ⟨Nat.le_of_ble_eq_true rfl, Nat.le_of_ble_eq_true rfl⟩ (ct_around g f hO hP hV hL hR hm) hO rfl rfl (Nat.le_of_ble_eq_true rfl) ?_
          rintro _ _ ⟨rfl, rfl⟩
          refine rn_aload_n dX9_isAllowed_49 rfl ?_
          refine rn_get dX9_isAllowed_50 lfX9_21 hO rfl ?_
          refine rn_iload dX9_isAllowed_53 rfl ?_
          refine rn_lald dX9_isAllowed_55 hb (vp_in_nI hco (by decide)) ?_
          rw [nI_clamp (by omega), hbe co hco]
          refine rn_land dX9_isAllowed_56 ?_
          rw [wb_and (aro_64 hV hL hR hm) (by omega)]
          refine rn_lconst (v := 0) dX9_isAllowed_57 (by decide) ?_
          refine rn_lcmp dX9_isAllowed_58 ?_
          refine rn_if_ne (tgt := 66) dX9_isAllowed_59 (by decide) (fun c59 => ?_) (fun c59 => ?_)
          · refine rn_iconst (v := nI 0) dX9_isAllowed_66 (by decide) ?_
            refine rn_zret dX9_isAllowed_67 rfl rfl ?_
            have h1 : ¬ pRu P = 0 := fun q => c30 (by rw [q]; rfl)
            have h2 : ¬ co = 0 := fun q => c35 (by rw [q]; decide)
            have h3 : ¬ aro (pW P) L R m &&& T co = 0 := fun q => c59 ((lg_cmp_eq _ _).mpr (by rw [q]; rfl))
            exact ⟨rfl, by rw [decide_eq_false h1, decide_eq_false h2, decide_eq_false h3]; rfl⟩
          · refine rn_iconst (v := nI 1) dX9_isAllowed_62 (by decide) ?_
            refine rn_goto (tgt := 67) dX9_isAllowed_63 (by decide) ?_
            refine rn_zret dX9_isAllowed_67 rfl rfl ?_
            have h3 : aro (pW P) L R m &&& T co = 0 := (lb_eq (b := 0) (Nat.lt_of_le_of_lt Nat.and_le_right (by omega)) (by decide)).mp ((lg_cmp_eq _ _).mp c59)
            exact ⟨rfl, by rw [decide_eq_true h3, Bool.or_true, Bool.or_true]; rfl⟩
  · refine rn_iconst (v := nI 0) dX9_isAllowed_11 (by decide) ?_
    refine rn_zret dX9_isAllowed_12 rfl rfl ?_
    have hy0 : y = 0 := (az (by omega)).mp c8
    exact ⟨rfl, by rw [decide_eq_false (by omega)]; rfl⟩
def updN (T : Nat → Nat) (k v : Nat) : Nat → Nat := fun j => if j = k then v else T j
theorem ct_change (g : GG) (f : Mm) {q : SQ} {tk L R lv cc tr cn k : Nat} {un ov uf : Bool} {Y : Nat → Int32} {T : Nat → Nat} (s : Int32) (hO : f 63 = some (WKE tk L R lv cc tr cn un ov uf)) (hC : CXw f q) (hQ : QV q) (hk : k < q.2.1.length) (hY : AR f 66 8 Y) (hT : AL f 67 4 T) (hT2 : ∀ c, c < 4 → T c < 2 ^ 36) (htk : tk < 2 ^ 36) : Ct g MX9_change [.ref 63, .int (nI k), .int s] f 0 0 (fun r f' => r = none ∧ (∀ j, j ≠ 63 → j ≠ 66 → j ≠ 67 → f' j = f j) ∧ f' 63 = some (WKE (tk ^^^ msk q.2.1 k) L R lv cc tr cn un ov uf) ∧ AR f' 66 8 (upd Y (qp q k) (Y (qp q k) - s)) ∧ AL f' 67 4 (updN T (q.2.2.1 (qp q k)) (T (q.2.2.1 (qp q k)) ^^^ msk q.2.1 k))) := by
  refine Ct.of ok_MX9_change (Nat.le_of_ble_eq_true rfl) ?_
  change Wp g MX9_change 0 [some (.ref 63), some (.int (nI k)), some (.int s), none, none, none, none] [] f 0 0 _
  obtain ⟨hP, hL, -⟩ := id hC
  have hp := hQ.pc hk
  have v8 := hQ.1.2.2.2.2
  have hco := hQ.co hp
  have hmk := hQ.mk hk
  obtain ⟨b, hb, hbe⟩ := id hT
  refine rn_aload_n dX9_change_0 rfl ?_
  refine rn_get dX9_change_1 lfX9_62 hO rfl ?_
  refine rn_iload_n dX9_change_4 rfl ?_
  refine rn_callV dX9_change_5 lmX9_131 ⟨Nat.le_of_ble_eq_true rfl, Nat.le_of_ble_eq_true rfl⟩ (ct_maskOf g f hL hk hQ.2.1.2.1) hL.1 rfl rfl (Nat.le_of_ble_eq_true rfl) ?_
  rintro _ _ ⟨rfl, rfl⟩
  refine rn_lstore_n dX9_change_8 (Nat.le_of_ble_eq_true rfl) rfl ?_
  refine rn_aload_n dX9_change_9 rfl ?_
  refine rn_get dX9_change_10 lfX9_62 hO rfl ?_
  refine rn_iload_n dX9_change_13 rfl ?_
  refine rn_callV dX9_change_14 lmX9_135 ⟨Nat.le_of_ble_eq_true rfl, Nat.le_of_ble_eq_true rfl⟩ (ct_pieceOf g f hL hQ.2.1.1 hk hQ.2.1.2.1) hL.1 rfl rfl (Nat.le_of_ble_eq_true rfl) ?_
  rintro _ _ ⟨rfl, rfl⟩
  refine rn_istore dX9_change_17 (Nat.le_of_ble_eq_true rfl) rfl ?_
  refine rn_aload_n dX9_change_19 rfl ?_
  refine rn_get dX9_change_20 lfX9_58 hO rfl ?_
  refine rn_iload dX9_change_23 rfl ?_
  refine rn_callV dX9_change_25 lmX9_142 ⟨Nat.le_of_ble_eq_true rfl, Nat.le_of_ble_eq_true rfl⟩ (ct_colourOf g f (nI (qp q k)) hP) hP.1 rfl rfl (Nat.le_of_ble_eq_true rfl) ?_
  rintro _ _ ⟨rfl, rfl⟩
  rw [atf_nI (by omega) (by decide), hco.1]
  refine rn_istore dX9_change_28 (Nat.le_of_ble_eq_true rfl) rfl ?_
  refine rn_aload_n dX9_change_30 rfl ?_
  refine rn_dup dX9_change_31 rfl ?_
  refine rn_get dX9_change_32 lfX9_25 hO rfl ?_
  refine rn_lload_n dX9_change_35 rfl ?_
  refine rn_lxor dX9_change_36 ?_
  rw [lb_xor (by omega) (show (gp q.2.1 k).2.2.2 < 2 ^ 64 from Nat.lt_trans hmk.2 (by decide))]
  refine rn_put dX9_change_37 lpX9_25 hO rfl rfl (Nat.le_of_ble_eq_true rfl) ?_
  refine rn_aload_n dX9_change_40 rfl ?_
  refine rn_get dX9_change_41 lfX9_18 (up_same _ _ _) rfl ?_
  refine rn_iload dX9_change_44 rfl ?_
  refine rn_aload_n dX9_change_46 rfl ?_
  refine rn_get dX9_change_47 lfX9_18 (up_same _ _ _) rfl ?_
  refine rn_iload dX9_change_50 rfl ?_
  refine rn_callS dX9_change_52 lmX9_115 ⟨Nat.le_of_ble_eq_true rfl, Nat.le_of_ble_eq_true rfl⟩ (ct_at g _ (nI (qp q k)) (by decide) (hY.keep (up_ne (by decide)))) rfl rfl (Nat.le_of_ble_eq_true rfl) ?_
  rintro _ _ ⟨rfl, rfl⟩
  rw [atf_nI (by omega) (by decide)]
  refine rn_iload_n dX9_change_55 rfl ?_
  refine rn_isub dX9_change_56 ?_
  refine rn_callS dX9_change_57 lmX9_72 ⟨Nat.le_of_ble_eq_true rfl, Nat.le_of_ble_eq_true rfl⟩ (ct_put g _ (nI (qp q k)) _ (by decide) (hY.keep (up_ne (by decide)))) rfl rfl (Nat.le_of_ble_eq_true rfl) ?_
  rintro _ f2 ⟨rfl, a2, k2⟩
  rw [ptf_nI (by omega) (by decide)] at a2
  refine rn_iload dX9_change_60 rfl ?_
  refine rn_if_lt (tgt := 82) dX9_change_62 (by decide) (fun c62 => ?_) (fun c62 => ?_)
  · refine rn_vret dX9_change_82 rfl ?_
    exact absurd c62 (nI_pos (by omega))
  · refine rn_iload dX9_change_65 rfl ?_
    refine rn_iconst (v := nI 4) dX9_change_67 (by decide) ?_
    refine rn_icmp_ge (tgt := 82) dX9_change_68 (by decide) (fun c68 => ?_) (fun c68 => ?_)
    · refine rn_vret dX9_change_82 rfl ?_
      exact absurd (ge_ex c68 (by omega) (by decide)) (by omega)
    · refine rn_aload_n dX9_change_71 rfl ?_
      refine rn_get dX9_change_72 lfX9_21 ((k2 63 (by decide)).trans (up_same _ _ _)) rfl ?_
      refine rn_iload dX9_change_75 rfl ?_
      refine rn_dup2 dX9_change_77 rfl rfl ?_
      refine rn_lald dX9_change_78 ((k2 67 (by decide)).trans ((up_ne (by decide)).trans hb)) (vp_in_nI hco.2 (by decide)) ?_
      rw [nI_clamp (by omega), hbe _ hco.2]
      refine rn_lload_n dX9_change_79 rfl ?_
      refine rn_lxor dX9_change_80 ?_
      rw [lb_xor (by have := hT2 _ hco.2; omega) (show (gp q.2.1 k).2.2.2 < 2 ^ 64 from Nat.lt_trans hmk.2 (by decide))]
      refine rn_last dX9_change_81 ((k2 67 (by decide)).trans ((up_ne (by decide)).trans hb)) (vp_in_nI hco.2 (by decide)) ?_
      refine rn_vret dX9_change_82 rfl ?_
      refine ⟨rfl, fun j h1 h2 h3 => (up_ne h3).trans ((k2 j h2).trans (up_ne h1)), (up_ne (by decide)).trans ((k2 63 (by decide)).trans (up_same _ _ _)), a2.keep (up_ne (by decide)), ⟨_, up_same _ _ _, fun i hi => ?_⟩⟩
      rw [nI_clamp (by omega)]
      by_cases e : i = q.2.2.1 (qp q k)
      · rw [e]; simp [updN, vp_updL]; rfl
      · simp [updN, vp_updL, e]; exact hbe i hi
