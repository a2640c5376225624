-- the state of a walk
def WKc (f : Mm) (q : SQ) (st : List Nat) (tr cn : Nat) (un ov uf : Bool) : Prop := f 63 = some (WKE (cvS q.2.1 st) (lcC (pW q.1) (pH q.1)) (rcC (pW q.1) (pH q.1)) st.length (sumf q.2.2.2 (pN q.1)) tr cn un ov uf) ∧ (∃ C, AR f 64 36 C ∧ ∀ j k, st.reverse[j]? = some k → C j = nI k) ∧ (∃ Y, AR f 66 8 Y ∧ ∀ p, p < pN q.1 → Y p = nI (q.2.2.2 p - usS q.2.1 p st)) ∧ AL f 67 4 (fun c => tnS q.2.1 q.2.2.1 c st)
def WKn (f : Mm) (q : SQ) (st : List Nat) (T : Int32 → Prop) : Prop := ∃ X, AR f 65 36 X ∧ (∀ j k, st.reverse[j]? = some k → X j = nI (posf (loP q.2.1) q.2.1.length k + 1)) ∧ T (X st.length)
def plf (q : SQ) (st : List Nat) (fr : Nat) : Nat := cLf (loP q.2.1) q.2.1.length (low (wrm q st)) + clf (loP q.2.1) (low (wrm q st)) fr
def WK (f : Mm) (q : SQ) (x : SX) (cn : Nat) (un ov uf : Bool) : Prop := WKc f q x.1 x.2.2 cn un ov uf ∧ WKn f q x.1 (fun v => ¬ cvS q.2.1 x.1 = opP q.1 → v = nI (plf q x.1 x.2.1))
theorem WKc.keep {f f' : Mm} {q : SQ} {st : List Nat} {tr cn : Nat} {un ov uf : Bool} (h : WKc f q st tr cn un ov uf) (e : ∀ k, 63 ≤ k → k ≤ 67 → k ≠ 65 → f' k = f k) : WKc f' q st tr cn un ov uf := by
  obtain ⟨h1, ⟨C, h2, h3⟩, ⟨Y, h4, h5⟩, h6⟩ := h
  exact ⟨(e 63 (by omega) (by omega) (by omega)).trans h1, ⟨C, h2.keep (e 64 (by omega) (by omega) (by omega)), h3⟩, ⟨Y, h4.keep (e 66 (by omega) (by omega) (by omega)), h5⟩, h6.keep (e 67 (by omega) (by omega) (by omega))⟩
theorem lcC_lt {W H : Nat} (hW : 0 < W) (h : W * H ≤ 36) : lcC W H < 2 ^ 36 := by
  refine Nat.lt_pow_two_of_testBit _ fun j hj => ?_
  cases e : (lcC W H).testBit j with
  | false => rfl
  | true =>
    obtain ⟨y, h1, h2⟩ := (lcC_bit W j H).mp e
    have : y * W < H * W := Nat.mul_lt_mul_of_pos_right h1 hW
    rw [Nat.mul_comm H W] at this
    omega
theorem rcC_lt {W H : Nat} (hW : 0 < W) (h : W * H ≤ 36) : rcC W H < 2 ^ 36 := by
  refine Nat.lt_pow_two_of_testBit _ fun j hj => ?_
  cases e : (rcC W H).testBit j with
  | false => rfl
  | true =>
    obtain ⟨y, h1, h2⟩ := (rcC_bit W j H).mp e
    have : (y + 1) * W ≤ H * W := Nat.mul_le_mul_right W h1
    rw [Nat.mul_comm H W, Nat.add_mul, Nat.one_mul] at this
    omega
theorem tn_bd {q : SQ} (hQ : QV q) (c : Nat) : ∀ {st : List Nat}, IVs q st → tnS q.2.1 q.2.2.1 c st < 2 ^ (pW q.1 * pH q.1)
  | [], _ => by rw [tnS]; exact Nat.two_pow_pos _
  | k :: t, hi => by
    have hk := hi.2.1
    have hmb : msk q.2.1 k < 2 ^ (pW q.1 * pH q.1) := Nat.lt_pow_two_of_testBit _ fun i hi2 => by
      cases e : (msk q.2.1 k).testBit i with
      | false => rfl
      | true =>
        have e2 := or_sub (hQ.2.1.2.2.2 k hk) e
        rw [opP, opk_bit, decide_eq_false (by omega)] at e2
        cases e2
    rw [tnS]
    split
    · exact Nat.xor_lt_two_pow (tn_bd hQ c hi.1) hmb
    · exact tn_bd hQ c hi.1
theorem rev_push {k0 : Nat} {st : List Nat} {j k : Nat} (h : (k0 :: st).reverse[j]? = some k) : (j < st.length ∧ st.reverse[j]? = some k) ∨ (j = st.length ∧ k = k0) := by
  rw [List.reverse_cons] at h
  have := get_push h
  rw [List.length_reverse] at this
  exact this
theorem rev_old {k0 : Nat} {st : List Nat} {j k : Nat} (h : st.reverse[j]? = some k) : (k0 :: st).reverse[j]? = some k := by
  rw [List.reverse_cons, List.getElem?_append_left]
  · exact h
  · exact (List.getElem?_eq_some_iff.mp h).1
theorem rev_top (k0 : Nat) (st : List Nat) : (k0 :: st).reverse[st.length]? = some k0 := by
  rw [List.reverse_cons, List.getElem?_append_right (by rw [List.length_reverse]; exact Nat.le_refl _), List.length_reverse, Nat.sub_self]
  rfl
theorem rev_lt {st : List Nat} {j k : Nat} (h : st.reverse[j]? = some k) : j < st.length := by
  have := (List.getElem?_eq_some_iff.mp h).1
  rw [List.length_reverse] at this
  exact this
theorem IVs_get {q : SQ} : ∀ {st : List Nat}, IVs q st → ∀ k ∈ st, k < q.2.1.length
  | [], _, k, h => by cases h
  | k0 :: t, hi, k, h => by
    rcases List.mem_cons.mp h with e | e
    · rw [e]; exact hi.2.1
    · exact IVs_get hi.1 k e
theorem ct_openLevel (g : GG) (f : Mm) {q : SQ} {st : List Nat} {L R cc tr cn : Nat} {un ov uf : Bool} {X : Nat → Int32} (hO : f 63 = some (WKE (cvS q.2.1 st) L R st.length cc tr cn un ov uf)) (hC : CXw f q) (hQ : QV q) (hi : IVs q st) (hX : AR f 65 36 X) : Ct g MX9_openLevel [.ref 63] f 0 0 (fun r f' => r = none ∧ (∀ j, j ≠ 65 → f' j = f j) ∧ ∃ X', AR f' 65 36 X' ∧ (∀ j, j < st.length → X' j = X j) ∧ (¬ cvS q.2.1 st = opP q.1 → X' st.length = nI (plf q st 0))) := by
  refine Ct.of ok_MX9_openLevel (Nat.le_of_ble_eq_true rfl) ?_
  change Wp g MX9_openLevel 0 [some (.ref 63), none] [] f 0 0 _
  obtain ⟨hP, hL, O, S, hO2, hS, hS1, hS2⟩ := id hC
  have hw := wrm_lt hQ hi
  have hlen := (len_low hQ hi).2
  refine rn_aload_n dX9_openLevel_0 rfl ?_
  refine rn_get dX9_openLevel_1 lfX9_62 hO rfl ?_
  refine rn_get dX9_openLevel_4 lfX9_89 hL.1 rfl ?_
  refine rn_aload_n dX9_openLevel_7 rfl ?_
  refine rn_get dX9_openLevel_8 lfX9_25 hO rfl ?_
  refine rn_ldc2 dX9_openLevel_11 lcX9_119 ?_
  refine rn_lxor dX9_openLevel_14 ?_
  refine rn_land dX9_openLevel_15 ?_
  rw [rem_l hQ hi]
  refine rn_callS dX9_openLevel_16 lmX9_121 ⟨Nat.le_of_ble_eq_true rfl, Nat.le_of_ble_eq_true rfl⟩ (ct_smallestCell g f (n := wrm q st) (by omega)) rfl rfl (Nat.le_of_ble_eq_true rfl) ?_
  rintro _ _ ⟨rfl, rfl⟩
  refine rn_istore_n dX9_openLevel_19 (Nat.le_of_ble_eq_true rfl) rfl ?_
  refine rn_aload_n dX9_openLevel_20 rfl ?_
  refine rn_get dX9_openLevel_21 lfX9_15 hO rfl ?_
  refine rn_aload_n dX9_openLevel_24 rfl ?_
  refine rn_get dX9_openLevel_25 lfX9_35 hO rfl ?_
  refine rn_aload_n dX9_openLevel_28 rfl ?_
  refine rn_get dX9_openLevel_29 lfX9_62 hO rfl ?_
  refine rn_get dX9_openLevel_32 lfX9_125 hL.1 rfl ?_
  refine rn_iload_n dX9_openLevel_35 rfl ?_
  refine rn_callS dX9_openLevel_36 lmX9_115 ⟨Nat.le_of_ble_eq_true rfl, Nat.le_of_ble_eq_true rfl⟩ (ct_at g f (nI (low (wrm q st))) (by decide) hS) rfl rfl (Nat.le_of_ble_eq_true rfl) ?_
  rintro _ _ ⟨rfl, rfl⟩
  refine rn_callS dX9_openLevel_39 lmX9_72 ⟨Nat.le_of_ble_eq_true rfl, Nat.le_of_ble_eq_true rfl⟩ (ct_put g f (nI st.length) _ (by decide) hX) rfl rfl (Nat.le_of_ble_eq_true rfl) ?_
  rintro _ f2 ⟨rfl, a2, k2⟩
  refine rn_vret dX9_openLevel_42 rfl ?_
  refine ⟨rfl, k2, _, a2, fun j hj => ?_, fun hnf => ?_⟩
  · unfold ptf
    split
    · rw [nI_clamp (by omega), upd_ne (by omega)]
    · rfl
  · have h1 := lvl_lt hQ hi hnf
    have h2 := wlo_lt hQ hi hnf
    rw [ptf_nI h1 (by decide), upd_eq, atf_nI (by omega) (by decide), hS1 _ (by omega)]
    rfl
theorem clf_next {lo : Nat → Nat} {c : Nat} : ∀ (d k : Nat), clf lo c k < clf lo c (k + d) → ∃ j, k ≤ j ∧ j < k + d ∧ lo j = c ∧ (∀ i, k ≤ i → i < j → ¬ lo i = c) ∧ clf lo c j = clf lo c k
  | 0, k, h => absurd h (Nat.lt_irrefl _)
  | d + 1, k, h => by
    by_cases e : lo k = c
    · exact ⟨k, Nat.le_refl _, by omega, e, fun i a b => by omega, rfl⟩
    · have h1 : clf lo c (k + 1) = clf lo c k := by rw [clf, if_neg e]; rfl
      rw [show k + (d + 1) = k + 1 + d by omega, ← h1] at h
      obtain ⟨j, a1, a2, a3, a4, a5⟩ := clf_next d (k + 1) h
      refine ⟨j, by omega, by omega, a3, fun i b1 b2 => ?_, by rw [a5, h1]⟩
      by_cases ei : i = k
      · rw [ei]; exact e
      · exact a4 i (by omega) b2
theorem clf_rest {lo : Nat → Nat} {c k N : Nat} (h : clf lo c N ≤ clf lo c k) : ∀ i, k ≤ i → i < N → ¬ lo i = c := fun i h1 h2 e => by
  have := clf_lt (c := c) h2 e
  have := clf_mono lo c k (i - k)
  rw [show k + (i - k) = i by omega] at this
  omega
theorem ct_nextThatFits (g : GG) (f : Mm) {q : SQ} {st : List Nat} {fr tr cn : Nat} {un ov uf : Bool} (hW : WKc f q st tr cn un ov uf) (hN : WKn f q st (fun v => v = nI (plf q st fr))) (hC : CXw f q) (hQ : QV q) (hi : IVs q st) (hnf : ¬ cvS q.2.1 st = opP q.1) (hfr : fr ≤ q.2.1.length) : Ct g MX9_nextThatFits [.ref 63] f 0 0 (fun r f' => (∀ j, j ≠ 65 → f' j = f j) ∧ ((fnS q st fr = none ∧ f = f' ∧ r = some (.int (-1))) ∨ ∃ k, fnS q st fr = some k ∧ r = some (.int (nI k)) ∧ WKn f' q st (fun v => v = nI (posf (loP q.2.1) q.2.1.length k + 1)))) := by
  refine Ct.of ok_MX9_nextThatFits (Nat.le_of_ble_eq_true rfl) ?_
  change Wp g MX9_nextThatFits 0 [some (.ref 63), none, none, none, none, none, none] [] f 0 0 _
  obtain ⟨hP, hL, O, S, hO2, hS, hS1, hS2⟩ := id hC
  obtain ⟨hO, -, ⟨Y, hY, hYe⟩, hT⟩ := id hW
  obtain ⟨X, hX, hXe, hXt⟩ := hN
  have hw := wrm_lt hQ hi
  have hlv := lvl_lt hQ hi hnf
  have hc := wlo_lt hQ hi hnf
  have hcv := cv_lt hQ hi
  have ha := hQ.1.area
  obtain ⟨v1, v2, v3, v4, v8⟩ := id hQ.1
  have hE := hQ.2.1.1
  have hl := hQ.2.1.2.1
  have hlo : ∀ k, k < q.2.1.length → loP q.2.1 k < 36 := fun k hk => low_lt36 (hE k hk).2.2.2.1 (hE k hk).2.2.2.2
  have hend : cLf (loP q.2.1) q.2.1.length (low (wrm q st) + 1) = cLf (loP q.2.1) q.2.1.length (low (wrm q st)) + clf (loP q.2.1) (low (wrm q st)) q.2.1.length := rfl
  have hle := cLf_le (loP q.2.1) (low (wrm q st) + 1) q.2.1.length
  have hmono : ∀ k, k ≤ q.2.1.length → plf q st k ≤ cLf (loP q.2.1) q.2.1.length (low (wrm q st) + 1) := fun k hk => by
    have := clf_mono (loP q.2.1) (low (wrm q st)) k (q.2.1.length - k)
    rw [show k + (q.2.1.length - k) = q.2.1.length by omega] at this
    rw [hend]; unfold plf; omega
  have loop : ∀ (d k : Nat) (w4 w5 w6 : Option Value), q.2.1.length - k = d → fr ≤ k → k ≤ q.2.1.length → (∀ i, fr ≤ i → i < k → fkS q st i = false) → Wp g MX9_nextThatFits 46 [some (.ref 63), some (.int (nI (low (wrm q st)))), some (.int (nI (cLf (loP q.2.1) q.2.1.length (low (wrm q st) + 1)))), some (.int (nI (plf q st k))), w4, w5, w6] [] f 0 0 (fun r f' => (∀ j, j ≠ 65 → f' j = f j) ∧ ((fnS q st fr = none ∧ f = f' ∧ r = some (.int (-1))) ∨ ∃ k, fnS q st fr = some k ∧ r = some (.int (nI k)) ∧ WKn f' q st (fun v => v = nI (posf (loP q.2.1) q.2.1.length k + 1)))) := by
    intro d
    induction d using Nat.strongRecOn with
    | ind d ih =>
      intro k w4 w5 w6 hd hk1 hk2 hno
      have hm := hmono k hk2
      by_cases hlt : plf q st k < cLf (loP q.2.1) q.2.1.length (low (wrm q st) + 1)
      · obtain ⟨j, b1, b2, b3, b4, b5⟩ := clf_next (lo := loP q.2.1) (c := low (wrm q st)) (q.2.1.length - k) k (by rw [show k + (q.2.1.length - k) = q.2.1.length by omega]; rw [hend] at hlt; unfold plf at hlt; omega)
        have hj : j < q.2.1.length := by omega
        have hpos : posf (loP q.2.1) q.2.1.length j = plf q st k := by unfold posf plf; rw [b3, b5]
        have hpl : plf q st (j + 1) = plf q st k + 1 := by
          unfold plf
          rw [clf, if_pos b3, b5]
          omega
        have hno2 : ∀ i, fr ≤ i → i < j → fkS q st i = false := fun i c1 c2 => by
          rcases Nat.lt_or_ge i k with e | e
          · exact hno i c1 e
          · rw [fkS, decide_eq_false (b4 i e c2)]; rfl
        have hp := hQ.pc hj
        have hmk := hQ.mk hj
        have hco := hQ.co hp
        have hcp := hQ.cp hp
        have hus := us_le (qp q j) hi
        have skip : fkS q st j = false → Wp g MX9_nextThatFits 46 [some (.ref 63), some (.int (nI (low (wrm q st)))), some (.int (nI (cLf (loP q.2.1) q.2.1.length (low (wrm q st) + 1)))), some (.int (nI (plf q st k + 1))), some (.int (nI j)), some (.long (lN (msk q.2.1 j))), none] [] f 0 0 (fun r f' => (∀ j, j ≠ 65 → f' j = f j) ∧ ((fnS q st fr = none ∧ f = f' ∧ r = some (.int (-1))) ∨ ∃ k, fnS q st fr = some k ∧ r = some (.int (nI k)) ∧ WKn f' q st (fun v => v = nI (posf (loP q.2.1) q.2.1.length k + 1)))) := fun hz => by
          have e := ih (q.2.1.length - (j + 1)) (by omega) (j + 1) (some (.int (nI j))) (some (.long (lN (msk q.2.1 j)))) none rfl (by omega) (by omega) (fun i c1 c2 => by
            by_cases e : i = j
            · rw [e]; exact hz
            · exact hno2 i c1 (by omega))
          rw [hpl] at e
          exact e
        have hmb : msk q.2.1 j < 2 ^ (pW q.1 * pH q.1) := Nat.lt_pow_two_of_testBit _ fun i hi2 => by
          cases e : (msk q.2.1 j).testBit i with
          | false => rfl
          | true =>
            have e2 := or_sub (hQ.2.1.2.2.2 j hj) e
            rw [opP, opk_bit, decide_eq_false (by omega)] at e2
            cases e2
        have htb : tnS q.2.1 q.2.2.1 (q.2.2.1 (qp q j)) st < 2 ^ (pW q.1 * pH q.1) := tn_bd hQ _ hi
        refine rn_iload_n dX9_nextThatFits_46 rfl ?_
        refine rn_iload_n dX9_nextThatFits_47 rfl ?_
        refine rn_icmp_ge (tgt := 128) dX9_nextThatFits_48 (by decide) (fun c48 => ?_) (fun c48 => ?_)
        · refine rn_iconst (v := (-1)) dX9_nextThatFits_128 (by decide) ?_
          refine rn_iret dX9_nextThatFits_129 rfl ?_
          exact absurd (ge_ex c48 (by omega) (by omega)) (by omega)
        · refine rn_aload_n dX9_nextThatFits_51 rfl ?_
          refine rn_get dX9_nextThatFits_52 lfX9_62 hO rfl ?_
          refine rn_get dX9_nextThatFits_55 lfX9_128 hL.1 rfl ?_
          refine rn_iload_n dX9_nextThatFits_58 rfl ?_
          refine rn_callS dX9_nextThatFits_59 lmX9_115 ⟨Nat.le_of_ble_eq_true rfl, Nat.le_of_ble_eq_true rfl⟩ (ct_at g f (nI (plf q st k)) (by decide) hO2) rfl rfl (Nat.le_of_ble_eq_true rfl) ?_
          rintro _ _ ⟨rfl, rfl⟩
          rw [atf_nI (by omega) (by decide), ← hpos, hS2 j hj, hpos]
          refine rn_istore dX9_nextThatFits_62 (Nat.le_of_ble_eq_true rfl) rfl ?_
          refine rn_aload_n dX9_nextThatFits_64 rfl ?_
          refine rn_get dX9_nextThatFits_65 lfX9_62 hO rfl ?_
          refine rn_iload dX9_nextThatFits_68 rfl ?_
          refine rn_callV dX9_nextThatFits_70 lmX9_131 ⟨Nat.le_of_ble_eq_true rfl, Nat.le_of_ble_eq_true rfl⟩ (ct_maskOf g f hL hj hl) hL.1 rfl rfl (Nat.le_of_ble_eq_true rfl) ?_
          rintro _ _ ⟨rfl, rfl⟩
          change Wp g MX9_nextThatFits _ _ [.long (lN (msk q.2.1 j))] _ _ _ _
          refine rn_lstore dX9_nextThatFits_73 (Nat.le_of_ble_eq_true rfl) rfl ?_
          refine rn_lload dX9_nextThatFits_75 rfl ?_
          refine rn_aload_n dX9_nextThatFits_77 rfl ?_
          refine rn_get dX9_nextThatFits_78 lfX9_25 hO rfl ?_
          refine rn_land dX9_nextThatFits_81 ?_
          rw [wb_and (by omega) (by omega)]
          refine rn_lconst (v := 0) dX9_nextThatFits_82 (by decide) ?_
          refine rn_lcmp dX9_nextThatFits_83 ?_
          refine rn_if_ne (tgt := 122) dX9_nextThatFits_84 (by decide) (fun c84 => ?_) (fun c84 => ?_)
          · refine rn_iinc (v := nI (plf q st k + 1)) dX9_nextThatFits_122 rfl (nI_1 _) (Nat.le_of_ble_eq_true rfl) rfl ?_
            refine rn_goto (tgt := 46) dX9_nextThatFits_125 (by decide) ?_
            exact skip (by
              have h1 : ¬ msk q.2.1 j &&& cvS q.2.1 st = 0 := fun q2 => c84 ((lg_cmp_eq _ _).mpr (by rw [q2]; rfl))
              rw [fkS, ftS, decide_eq_false h1, Bool.false_and, Bool.and_false])
          · refine rn_aload_n dX9_nextThatFits_87 rfl ?_
            refine rn_aload_n dX9_nextThatFits_88 rfl ?_
            refine rn_get dX9_nextThatFits_89 lfX9_62 hO rfl ?_
            refine rn_iload dX9_nextThatFits_92 rfl ?_
            refine rn_callV dX9_nextThatFits_94 lmX9_135 ⟨Nat.le_of_ble_eq_true rfl, Nat.le_of_ble_eq_true rfl⟩ (ct_pieceOf g f hL hE hj hl) hL.1 rfl rfl (Nat.le_of_ble_eq_true rfl) ?_
            rintro _ _ ⟨rfl, rfl⟩
            refine rn_lload dX9_nextThatFits_97 rfl ?_
            refine rn_callV dX9_nextThatFits_99 lmX9_138 ⟨Nat.le_of_ble_eq_true rfl, Nat.le_of_ble_eq_true rfl⟩ (ct_isAllowed g f (p := qp q j) (m := msk q.2.1 j) hO hP hQ.1 (lcC_lt (by omega) ha) (rcC_lt (by omega) ha) hmk.2 (by omega) hY (hYe _ hp) (by omega) hT (tn_lt hQ _ hi) hco.1 hco.2 hQ.2.2.2.2) hO rfl rfl (Nat.le_of_ble_eq_true rfl) ?_
            rintro _ _ ⟨rfl, rfl⟩
            refine rn_if_eq (tgt := 122) dX9_nextThatFits_102 (by decide) (fun c102 => ?_) (fun c102 => ?_)
            · refine rn_iinc (v := nI (plf q st k + 1)) dX9_nextThatFits_122 rfl (nI_1 _) (Nat.le_of_ble_eq_true rfl) rfl ?_
              refine rn_goto (tgt := 46) dX9_nextThatFits_125 (by decide) ?_
              exact skip (by
                have h1 := bI_0.mp c102
                rw [Bool.and_eq_false_iff] at h1
                rw [fkS, ftS, Bool.and_eq_false_iff, Bool.and_eq_false_iff, Bool.and_eq_false_iff]
                rcases h1 with h1 | h1
                · exact Or.inr (Or.inr (Or.inl (decide_eq_false (by have := of_decide_eq_false h1; omega))))
                · refine Or.inr (Or.inr (Or.inr ?_))
                  rw [okR, ← h1]
                  congr 2
                  rw [decide_eq_decide]
                  exact (aro_eq hQ.1 hmb htb).symm)
            · refine rn_aload_n dX9_nextThatFits_105 rfl ?_
              refine rn_get dX9_nextThatFits_106 lfX9_15 hO rfl ?_
              refine rn_aload_n dX9_nextThatFits_109 rfl ?_
              refine rn_get dX9_nextThatFits_110 lfX9_35 hO rfl ?_
              refine rn_iload_n dX9_nextThatFits_113 rfl ?_
              refine rn_iconst (v := nI 1) dX9_nextThatFits_114 (by decide) ?_
              refine rn_iadd dX9_nextThatFits_115 ?_
              refine rn_callS dX9_nextThatFits_116 lmX9_72 ⟨Nat.le_of_ble_eq_true rfl, Nat.le_of_ble_eq_true rfl⟩ (ct_put g f (nI st.length) (nI (plf q st k) + nI 1) (by decide) hX) rfl rfl (Nat.le_of_ble_eq_true rfl) ?_
              rintro _ f2 ⟨rfl, a2, k2⟩
              rw [ptf_nI hlv (by decide), nI_add] at a2
              refine rn_iload dX9_nextThatFits_119 rfl ?_
              refine rn_iret dX9_nextThatFits_121 rfl ?_
              have h0 : msk q.2.1 j &&& cvS q.2.1 st = 0 := (lb_eq (b := 0) (Nat.lt_of_le_of_lt Nat.and_le_left (by omega)) (by decide)).mp ((lg_cmp_eq _ _).mp c84)
              have h1 := bI_n0.mp c102
              rw [Bool.and_eq_true, decide_eq_true_eq] at h1
              have hfk : fkS q st j = true := fkS_iff.mpr ⟨b3, h0, by omega, by
                rw [okR, ← h1.2]
                congr 2
                rw [decide_eq_decide]
                exact (aro_eq hQ.1 hmb htb).symm⟩
              refine ⟨k2, Or.inr ⟨j, fnS_some (by omega) hj hfk hno2, rfl, _, a2, fun i k' hk' => ?_, ?_⟩⟩
              · rw [upd_ne (by have := rev_lt hk'; omega)]; exact hXe i k' hk'
              · rw [upd_eq, hpos]
      · have hge : cLf (loP q.2.1) q.2.1.length (low (wrm q st) + 1) ≤ plf q st k := by omega
        refine rn_iload_n dX9_nextThatFits_46 rfl ?_
        refine rn_iload_n dX9_nextThatFits_47 rfl ?_
        refine rn_icmp_ge (tgt := 128) dX9_nextThatFits_48 (by decide) (fun c48 => ?_) (fun c48 => ?_)
        · refine rn_iconst (v := (-1)) dX9_nextThatFits_128 (by decide) ?_
          refine rn_iret dX9_nextThatFits_129 rfl ?_
          refine ⟨fun _ _ => rfl, Or.inl ⟨fnS_none fun i c1 c2 => ?_, rfl, rfl⟩⟩
          rcases Nat.lt_or_ge i k with e | e
          · exact hno i c1 e
          · rw [fkS, decide_eq_false (clf_rest (by rw [hend] at hge; unfold plf at hge; omega) i e c2)]; rfl
        · exact absurd (ge_in c48 (by omega)) (by omega)
  have hXl : atf 36 X (nI st.length) = nI (plf q st fr) := by rw [atf_nI hlv (by decide)]; exact hXt
  refine rn_aload_n dX9_nextThatFits_0 rfl ?_
  refine rn_get dX9_nextThatFits_1 lfX9_62 hO rfl ?_
  refine rn_get dX9_nextThatFits_4 lfX9_89 hL.1 rfl ?_
  refine rn_aload_n dX9_nextThatFits_7 rfl ?_
  refine rn_get dX9_nextThatFits_8 lfX9_25 hO rfl ?_
  refine rn_ldc2 dX9_nextThatFits_11 lcX9_119 ?_
  refine rn_lxor dX9_nextThatFits_14 ?_
  refine rn_land dX9_nextThatFits_15 ?_
  rw [rem_l hQ hi]
  refine rn_callS dX9_nextThatFits_16 lmX9_121 ⟨Nat.le_of_ble_eq_true rfl, Nat.le_of_ble_eq_true rfl⟩ (ct_smallestCell g f (n := wrm q st) (by omega)) rfl rfl (Nat.le_of_ble_eq_true rfl) ?_
  rintro _ _ ⟨rfl, rfl⟩
  refine rn_istore_n dX9_nextThatFits_19 (Nat.le_of_ble_eq_true rfl) rfl ?_
  refine rn_aload_n dX9_nextThatFits_20 rfl ?_
  refine rn_get dX9_nextThatFits_21 lfX9_62 hO rfl ?_
  refine rn_get dX9_nextThatFits_24 lfX9_125 hL.1 rfl ?_
  refine rn_iload_n dX9_nextThatFits_27 rfl ?_
  refine rn_iconst (v := nI 1) dX9_nextThatFits_28 (by decide) ?_
  refine rn_iadd dX9_nextThatFits_29 ?_
  rw [nI_add]
  refine rn_callS dX9_nextThatFits_30 lmX9_115 ⟨Nat.le_of_ble_eq_true rfl, Nat.le_of_ble_eq_true rfl⟩ (ct_at g f (nI (low (wrm q st) + 1)) (by decide) hS) rfl rfl (Nat.le_of_ble_eq_true rfl) ?_
  rintro _ _ ⟨rfl, rfl⟩
  rw [atf_nI (by omega) (by decide), hS1 _ (by omega)]
  refine rn_istore_n dX9_nextThatFits_33 (Nat.le_of_ble_eq_true rfl) rfl ?_
  refine rn_aload_n dX9_nextThatFits_34 rfl ?_
  refine rn_get dX9_nextThatFits_35 lfX9_15 hO rfl ?_
  refine rn_aload_n dX9_nextThatFits_38 rfl ?_
  refine rn_get dX9_nextThatFits_39 lfX9_35 hO rfl ?_
  refine rn_callS dX9_nextThatFits_42 lmX9_115 ⟨Nat.le_of_ble_eq_true rfl, Nat.le_of_ble_eq_true rfl⟩ (ct_at g f (nI st.length) (by decide) hX) rfl rfl (Nat.le_of_ble_eq_true rfl) ?_
  rintro _ _ ⟨rfl, rfl⟩
  rw [hXl]
  refine rn_istore_n dX9_nextThatFits_45 (Nat.le_of_ble_eq_true rfl) rfl ?_
  exact loop _ fr none none none rfl (Nat.le_refl _) hfr (fun i c1 c2 => by omega)
