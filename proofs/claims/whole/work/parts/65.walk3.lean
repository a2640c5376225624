theorem Wp.gen {g : GG} {M : MD} {pc : Nat} {lv : List (Option Value)} {st : List Value} {f0 : Mm} {k n q0 : Nat} {e : Ent} {Q : Option Value → Mm → Prop} (h : ∀ f1, (∀ j, j ≠ q0 → f1 j = f0 j) → f1 q0 = some e → Wp g M pc lv st f1 k n Q) : Wp g M pc lv st (va_up f0 q0 (some e)) k n Q := h _ (fun _ hj => up_ne hj) (up_same _ _ _)
theorem stS_cov {q : SQ} {x : SX} (h : cvS q.2.1 x.1 = opP q.1) (hc : isCv q x.1 = true) : stS q x = .inl 0 := by rw [stS, if_pos h, if_pos hc]
theorem stS_fb {q : SQ} {x : SX} (h : cvS q.2.1 x.1 = opP q.1) (hc : isCv q x.1 = false) : stS q x = bkS x := by rw [stS, if_pos h, if_neg (by rw [hc]; decide)]
theorem stS_nb {q : SQ} {x : SX} (h : ¬ cvS q.2.1 x.1 = opP q.1) (hn : fnS q x.1 x.2.1 = none) : stS q x = bkS x := by rw [stS, if_neg h, hn]
theorem stS_cut {q : SQ} {x : SX} {k : Nat} (h : ¬ cvS q.2.1 x.1 = opP q.1) (hn : fnS q x.1 x.2.1 = some k) (ht : x.2.2 = 20000) : stS q x = .inl 2 := by rw [stS, if_neg h, hn]; exact if_pos ht
theorem stS_on {q : SQ} {x : SX} {k : Nat} (h : ¬ cvS q.2.1 x.1 = opP q.1) (hn : fnS q x.1 x.2.1 = some k) (ht : ¬ x.2.2 = 20000) : stS q x = .inr (k :: x.1, 0, x.2.2 + 1) := by rw [stS, if_neg h, hn]; exact if_neg ht
theorem RnS_nil {q : SQ} {x : SX} (h : stS q x = bkS x) (he : x.1 = []) : RnS q x = (1, x) := RnS_l (by rw [h, bkS, he])
theorem RnS_cons {q : SQ} {x : SX} {k : Nat} {t : List Nat} (h : stS q x = bkS x) (ht : x.2.2 ≤ 20000) (he : x.1 = k :: t) : RnS q x = RnS q (t, k + 1, x.2.2) := RnS_r (by rw [h, bkS, he]) ht
theorem xor_back (a m : Nat) : (a ^^^ m) ^^^ m = a := by rw [Nat.xor_assoc, Nat.xor_self, Nat.xor_zero]
theorem us_c {l : List PE} {k p : Nat} {t : List Nat} : usS l p (k :: t) = usS l p t + (if (gp l k).1 = p then 1 else 0) := rfl
theorem tn_c {l : List PE} {co : Nat → Nat} {c k : Nat} {t : List Nat} : tnS l co c (k :: t) = if co (gp l k).1 = c then tnS l co c t ^^^ msk l k else tnS l co c t := rfl

theorem ct_stepOn (g : GG) (f : Mm) {q : SQ} {st : List Nat} {k tr cn : Nat} {un ov uf : Bool} (hW : WKc f q st tr cn un ov uf) (hN : WKn f q st (fun v => v = nI (posf (loP q.2.1) q.2.1.length k + 1))) (hC : CXw f q) (hQ : QV q) (hi : IVs q (k :: st)) : Ct g MX9_stepOn [.ref 63, .int (nI k)] f 0 0 (fun r f' => r = none ∧ (∀ j, (j < 63 ∨ 67 < j) → f' j = f j) ∧ WK f' q (k :: st, 0, tr + 1) cn true ov uf) := by
  refine Ct.of ok_MX9_stepOn (Nat.le_of_ble_eq_true rfl) ?_
  change Wp g MX9_stepOn 0 [some (.ref 63), some (.int (nI k))] [] f 0 0 _
  obtain ⟨hO, ⟨C, hCh, hCe⟩, ⟨Y, hY, hYe⟩, hT⟩ := id hW
  obtain ⟨X, hX, hXe, hXt⟩ := id hN
  have hk := hi.2.1
  have hlv := lvl_lt hQ hi.1 hi.2.2.2.1
  have hp := hQ.pc hk
  have hco := hQ.co hp
  have hus := hi.2.2.2.2.2
  refine rn_aload_n dX9_stepOn_0 rfl ?_
  refine rn_dup dX9_stepOn_1 rfl ?_
  refine rn_get dX9_stepOn_2 lfX9_42 hO rfl ?_
  refine rn_iconst (v := nI 1) dX9_stepOn_5 (by decide) ?_
  refine rn_iadd dX9_stepOn_6 ?_
  rw [nI_add]
  refine rn_put dX9_stepOn_7 lpX9_42 hO rfl rfl (Nat.le_of_ble_eq_true rfl) ?_
  refine Wp.gen (e := WKE (cvS q.2.1 st) (lcC (pW q.1) (pH q.1)) (rcC (pW q.1) (pH q.1)) st.length (sumf q.2.2.2 (pN q.1)) (tr + 1) cn un ov uf) (fun f1 k1 o1 => ?_)
  refine rn_aload_n dX9_stepOn_10 rfl ?_
  refine rn_iload_n dX9_stepOn_11 rfl ?_
  refine rn_iconst (v := nI 1) dX9_stepOn_12 (by decide) ?_
  refine rn_callV dX9_stepOn_13 lmX9_111 ⟨Nat.le_of_ble_eq_true rfl, Nat.le_of_ble_eq_true rfl⟩ (ct_change g f1 (nI 1) o1 (hC.keep (fun j h => k1 j (by omega))) hQ hk (hY.keep (k1 66 (by decide))) (hT.keep (k1 67 (by decide))) (fun c _ => tn_lt hQ c hi.1) (cv_lt hQ hi.1)) o1 rfl rfl (Nat.le_of_ble_eq_true rfl) ?_
  rintro _ f2 ⟨rfl, k2, o2, aY, aT⟩
  refine rn_aload_n dX9_stepOn_16 rfl ?_
  refine rn_get dX9_stepOn_17 lfX9_9 o2 rfl ?_
  refine rn_aload_n dX9_stepOn_20 rfl ?_
  refine rn_get dX9_stepOn_21 lfX9_35 o2 rfl ?_
  refine rn_iload_n dX9_stepOn_24 rfl ?_
  refine rn_callS dX9_stepOn_25 lmX9_72 ⟨Nat.le_of_ble_eq_true rfl, Nat.le_of_ble_eq_true rfl⟩ (ct_put g f2 (nI st.length) (nI k) (by decide) (hCh.keep ((k2 64 (by decide) (by decide) (by decide)).trans (k1 64 (by decide))))) rfl rfl (Nat.le_of_ble_eq_true rfl) ?_
  rintro _ f3 ⟨rfl, a3, k3⟩
  rw [ptf_nI hlv (by decide)] at a3
  have o3 := (k3 63 (by decide)).trans o2
  refine rn_aload_n dX9_stepOn_28 rfl ?_
  refine rn_dup dX9_stepOn_29 rfl ?_
  refine rn_get dX9_stepOn_30 lfX9_35 o3 rfl ?_
  refine rn_iconst (v := nI 1) dX9_stepOn_33 (by decide) ?_
  refine rn_iadd dX9_stepOn_34 ?_
  rw [nI_add]
  refine rn_put dX9_stepOn_35 lpX9_35 o3 rfl rfl (Nat.le_of_ble_eq_true rfl) ?_
  refine Wp.gen (e := WKE (cvS q.2.1 (k :: st)) (lcC (pW q.1) (pH q.1)) (rcC (pW q.1) (pH q.1)) (st.length + 1) (sumf q.2.2.2 (pN q.1)) (tr + 1) cn un ov uf) (fun f4 k4 o4 => ?_)
  refine rn_aload_n dX9_stepOn_38 rfl ?_
  refine rn_iconst (v := nI 1) dX9_stepOn_39 (by decide) ?_
  refine rn_put dX9_stepOn_40 lpX9_48 o4 rfl rfl (Nat.le_of_ble_eq_true rfl) ?_
  refine Wp.gen (e := WKE (cvS q.2.1 (k :: st)) (lcC (pW q.1) (pH q.1)) (rcC (pW q.1) (pH q.1)) (st.length + 1) (sumf q.2.2.2 (pN q.1)) (tr + 1) cn true ov uf) (fun f5 k5 o5 => ?_)
  have fr5 : ∀ j, (j < 63 ∨ 67 < j) → f5 j = f j := fun j h => (k5 j (by omega)).trans ((k4 j (by omega)).trans ((k3 j (by omega)).trans ((k2 j (by omega) (by omega) (by omega)).trans (k1 j (by omega)))))
  refine rn_aload_n dX9_stepOn_43 rfl ?_
  refine rn_callV dX9_stepOn_44 lmX9_85 ⟨Nat.le_of_ble_eq_true rfl, Nat.le_of_ble_eq_true rfl⟩ (ct_openLevel g f5 (st := k :: st) o5 (hC.keep (fun j h => fr5 j (by omega))) hQ hi (hX.keep ((k5 65 (by decide)).trans ((k4 65 (by decide)).trans ((k3 65 (by decide)).trans ((k2 65 (by decide) (by decide) (by decide)).trans (k1 65 (by decide)))))))) o5 rfl rfl (Nat.le_of_ble_eq_true rfl) ?_
  rintro _ f6 ⟨rfl, k6, X', hX', x1, x2⟩
  refine rn_vret dX9_stepOn_47 rfl ?_
  refine ⟨rfl, fun j h => (k6 j (by omega)).trans (fr5 j h), ⟨(k6 63 (by decide)).trans o5, ⟨_, a3.keep ((k6 64 (by decide)).trans ((k5 64 (by decide)).trans (k4 64 (by decide)))), fun j k' h => ?_⟩, ⟨_, aY.keep ((k6 66 (by decide)).trans ((k5 66 (by decide)).trans ((k4 66 (by decide)).trans (k3 66 (by decide))))), fun p' hp' => ?_⟩, (aT.keep ((k6 67 (by decide)).trans ((k5 67 (by decide)).trans ((k4 67 (by decide)).trans (k3 67 (by decide)))))).to (fun c hc => ?_)⟩, X', hX', fun j k' h => ?_, x2⟩
  · rcases rev_push h with ⟨a, b⟩ | ⟨a, b⟩
    · rw [upd_ne (by omega)]; exact hCe j k' b
    · rw [a, b, upd_eq]
  · rw [us_c]
    by_cases e : (gp q.2.1 k).1 = p'
    · rw [if_pos e, show qp q k = p' from e, upd_eq, hYe p' hp', pk_sub (by rw [show qp q k = p' from e] at hus; omega), Nat.sub_sub]
    · rw [if_neg e, upd_ne (fun h => e h.symm)]; exact hYe p' hp'
  · unfold updN
    rw [tn_c]
    by_cases e : q.2.2.1 (gp q.2.1 k).1 = c
    · rw [if_pos e, if_pos (show c = q.2.2.1 (qp q k) from e.symm), show q.2.2.1 (qp q k) = c from e]
    · rw [if_neg e, if_neg (fun h => e h.symm)]
  · have hjl : j < st.length + 1 := rev_lt h
    rw [x1 j hjl]
    rcases rev_push h with ⟨a, b⟩ | ⟨a, b⟩
    · exact hXe j k' b
    · rw [a, b]; exact hXt
theorem ct_stepBack (g : GG) (f : Mm) {q : SQ} {st : List Nat} {tr cn : Nat} {un ov uf : Bool} {TT : Int32 → Prop} (hW : WKc f q st tr cn un ov uf) (hN : WKn f q st TT) (hC : CXw f q) (hQ : QV q) (hi : IVs q st) : Ct g MX9_stepBack [.ref 63] f 0 0 (fun r f' => r = none ∧ (∀ j, (j < 63 ∨ 67 < j) → f' j = f j) ∧ ((st = [] ∧ WKc f' q st tr cn un true uf ∧ WKn f' q st TT) ∨ ∃ k t, st = k :: t ∧ WK f' q (t, k + 1, tr) cn un ov uf)) := by
  refine Ct.of ok_MX9_stepBack (Nat.le_of_ble_eq_true rfl) ?_
  change Wp g MX9_stepBack 0 [some (.ref 63)] [] f 0 0 _
  obtain ⟨hO, ⟨C, hCh, hCe⟩, ⟨Y, hY, hYe⟩, hT⟩ := id hW
  obtain ⟨X, hX, hXe, hXt⟩ := id hN
  cases st with
  | nil =>
    refine rn_aload_n dX9_stepBack_0 rfl ?_
    refine rn_get dX9_stepBack_1 lfX9_35 hO rfl ?_
    refine rn_if_ne (tgt := 15) dX9_stepBack_4 (by decide) (fun c4 => ?_) (fun c4 => ?_)
    · exact absurd (show nI 0 = 0 from rfl) c4
    · refine rn_aload_n dX9_stepBack_7 rfl ?_
      refine rn_iconst (v := nI 1) dX9_stepBack_8 (by decide) ?_
      refine rn_put dX9_stepBack_9 lpX9_52 hO rfl rfl (Nat.le_of_ble_eq_true rfl) ?_
      refine rn_goto (tgt := 41) dX9_stepBack_12 (by decide) ?_
      refine rn_vret dX9_stepBack_41 rfl ?_
      refine ⟨rfl, fun j h => up_ne (by omega), Or.inl ⟨rfl, ⟨up_same _ _ _, ⟨C, hCh.keep (up_ne (by decide)), hCe⟩, ⟨Y, hY.keep (up_ne (by decide)), hYe⟩, hT.keep (up_ne (by decide))⟩, X, hX.keep (up_ne (by decide)), hXe, hXt⟩⟩
  | cons k t =>
    have hk := hi.2.1
    have hlv := lvl_lt hQ hi.1 hi.2.2.2.1
    have hp := hQ.pc hk
    have hco := hQ.co hp
    have hus := hi.2.2.2.2.2
    have hCk : C t.length = nI k := hCe _ _ (rev_top k t)
    refine rn_aload_n dX9_stepBack_0 rfl ?_
    refine rn_get dX9_stepBack_1 lfX9_35 hO rfl ?_
    refine rn_if_ne (tgt := 15) dX9_stepBack_4 (by decide) (fun c4 => ?_) (fun c4 => ?_)
    · refine rn_aload_n dX9_stepBack_15 rfl ?_
      refine rn_dup dX9_stepBack_16 rfl ?_
      refine rn_get dX9_stepBack_17 lfX9_35 hO rfl ?_
      refine rn_iconst (v := nI 1) dX9_stepBack_20 (by decide) ?_
      refine rn_isub dX9_stepBack_21 ?_
      rw [show nI (k :: t).length - nI 1 = nI t.length from pk_sub (show 1 ≤ t.length + 1 by omega)]
      refine rn_put dX9_stepBack_22 lpX9_35 hO rfl rfl (Nat.le_of_ble_eq_true rfl) ?_
      refine Wp.gen (e := WKE (cvS q.2.1 (k :: t)) (lcC (pW q.1) (pH q.1)) (rcC (pW q.1) (pH q.1)) t.length (sumf q.2.2.2 (pN q.1)) tr cn un ov uf) (fun f1 k1 o1 => ?_)
      refine rn_aload_n dX9_stepBack_25 rfl ?_
      refine rn_aload_n dX9_stepBack_26 rfl ?_
      refine rn_get dX9_stepBack_27 lfX9_9 o1 rfl ?_
      refine rn_aload_n dX9_stepBack_30 rfl ?_
      refine rn_get dX9_stepBack_31 lfX9_35 o1 rfl ?_
      refine rn_callS dX9_stepBack_34 lmX9_115 ⟨Nat.le_of_ble_eq_true rfl, Nat.le_of_ble_eq_true rfl⟩ (ct_at g f1 (nI t.length) (by decide) (hCh.keep (k1 64 (by decide)))) rfl rfl (Nat.le_of_ble_eq_true rfl) ?_
      rintro _ _ ⟨rfl, rfl⟩
      rw [atf_nI hlv (by decide), hCk]
      refine rn_iconst (v := (-1)) dX9_stepBack_37 (by decide) ?_
      refine rn_callV dX9_stepBack_38 lmX9_111 ⟨Nat.le_of_ble_eq_true rfl, Nat.le_of_ble_eq_true rfl⟩ (ct_change g f1 (-1) o1 (hC.keep (fun j h => k1 j (by omega))) hQ hk (hY.keep (k1 66 (by decide))) (hT.keep (k1 67 (by decide))) (fun c _ => tn_lt hQ c hi) (cv_lt hQ hi)) o1 rfl rfl (Nat.le_of_ble_eq_true rfl) ?_
      rintro _ f2 ⟨rfl, k2, o2, aY, aT⟩
      refine rn_vret dX9_stepBack_41 rfl ?_
      refine ⟨rfl, fun j h => (k2 j (by omega) (by omega) (by omega)).trans (k1 j (by omega)), Or.inr ⟨k, t, rfl, ⟨?_, ⟨C, hCh.keep ((k2 64 (by decide) (by decide) (by decide)).trans (k1 64 (by decide))), fun j k' h => hCe j k' (rev_old h)⟩, ⟨_, aY, fun p' hp' => ?_⟩, aT.to (fun c hc => ?_)⟩, X, hX.keep ((k2 65 (by decide) (by decide) (by decide)).trans (k1 65 (by decide))), fun j k' h => hXe j k' (rev_old h), fun _ => ?_⟩⟩
      · rw [o2, cvS, xor_back]
      · by_cases e : (gp q.2.1 k).1 = p'
        · rw [show qp q k = p' from e, upd_eq, hYe p' hp', us_c, if_pos e, Int32.sub_neg, nI_1]
          rw [show qp q k = p' from e] at hus
          show nI (q.2.2.2 p' - (usS q.2.1 p' t + 1) + 1) = nI (q.2.2.2 p' - usS q.2.1 p' t)
          rw [show q.2.2.2 p' - (usS q.2.1 p' t + 1) + 1 = q.2.2.2 p' - usS q.2.1 p' t by omega]
        · rw [upd_ne (fun h => e h.symm), hYe p' hp', us_c, if_neg e]; rfl
      · unfold updN
        by_cases e : q.2.2.1 (gp q.2.1 k).1 = c
        · rw [if_pos (show c = q.2.2.1 (qp q k) from e.symm), show q.2.2.1 (qp q k) = c from e, tn_c, if_pos e, xor_back]
        · rw [if_neg (fun h => e h.symm)]
          show tnS q.2.1 q.2.2.1 c (k :: t) = tnS q.2.1 q.2.2.1 c t
          rw [tn_c, if_neg e]
      · have h1 := hXe _ _ (rev_top k t)
        have h2 : loP q.2.1 k = low (wrm q t) := hi.2.2.2.2.1
        show X t.length = nI (plf q t (k + 1))
        rw [h1]
        unfold plf posf
        rw [h2, clf, if_pos h2, Nat.add_assoc]
    · exact absurd (show nI (t.length + 1) = 0 from c4) (nI_ne0 (by omega) (by omega))
theorem sumf_le {a : Nat → Nat} {m : Nat} : ∀ n, (∀ i, i < n → a i ≤ m) → sumf a n ≤ m * n
  | 0, _ => Nat.zero_le _
  | n + 1, h => by
    have h1 := sumf_le n (fun i hi => h i (by omega))
    have h2 := h n (by omega)
    rw [sumf, Nat.mul_succ]
    omega
theorem sum_le {q : SQ} (hQ : QV q) : sumf q.2.2.2 (pN q.1) ≤ 9 * 8 := by
  have h1 := sumf_le (a := q.2.2.2) (m := 9) (pN q.1) (fun i hi => (hQ.cp hi).2.2)
  have h2 := hQ.1.2.2.2.2
  exact Nat.le_trans h1 (Nat.mul_le_mul_left 9 h2)
theorem ct_isCover (g : GG) (f : Mm) {q : SQ} {st : List Nat} {tr cn : Nat} {un ov uf : Bool} (hW : WKc f q st tr cn un ov uf) (hC : CXw f q) (hQ : QV q) (hi : IVs q st) : Ct g MX9_isCover [.ref 63] f 0 0 (fun r f' => f = f' ∧ r = some (.int (bI (isCv q st)))) := by
  refine Ct.of ok_MX9_isCover (Nat.le_of_ble_eq_true rfl) ?_
  change Wp g MX9_isCover 0 [some (.ref 63)] [] f 0 0 _
  have hO := hW.1
  have hlen := (len_low hQ hi).2
  have hmd := hQ.2.2.2.1
  have hs : sumf q.2.2.2 (pN q.1) ≤ 9 * 8 := sum_le hQ
  rw [isCv_len hQ hi]
  refine rn_aload_n dX9_isCover_0 rfl ?_
  refine rn_get dX9_isCover_1 lfX9_58 hO rfl ?_
  refine rn_get dX9_isCover_4 lfX9_108 hC.1.1 rfl ?_
  refine rn_if_eq (tgt := 21) dX9_isCover_7 (by decide) (fun c7 => ?_) (fun c7 => ?_)
  · refine rn_iconst (v := nI 1) dX9_isCover_21 (by decide) ?_
    refine rn_goto (tgt := 26) dX9_isCover_22 (by decide) ?_
    refine rn_zret dX9_isCover_26 rfl rfl ?_
    exact ⟨rfl, by rw [decide_eq_true ((az (by omega)).mp c7)]; rfl⟩
  · refine rn_aload_n dX9_isCover_10 rfl ?_
    refine rn_get dX9_isCover_11 lfX9_35 hO rfl ?_
    refine rn_aload_n dX9_isCover_14 rfl ?_
    refine rn_get dX9_isCover_15 lfX9_39 hO rfl ?_
    refine rn_icmp_ne (tgt := 25) dX9_isCover_18 (by decide) (fun c18 => ?_) (fun c18 => ?_)
    · refine rn_iconst (v := nI 0) dX9_isCover_25 (by decide) ?_
      refine rn_zret dX9_isCover_26 rfl rfl ?_
      exact ⟨rfl, by rw [decide_eq_false (fun h => c7 (by rw [h]; rfl)), decide_eq_false (fun h => c18 (by rw [h]))]; rfl⟩
    · refine rn_iconst (v := nI 1) dX9_isCover_21 (by decide) ?_
      refine rn_goto (tgt := 26) dX9_isCover_22 (by decide) ?_
      refine rn_zret dX9_isCover_26 rfl rfl ?_
      exact ⟨rfl, by rw [decide_eq_true ((nI_eq (by omega) (by omega)).mp c18), Bool.or_true]; rfl⟩
