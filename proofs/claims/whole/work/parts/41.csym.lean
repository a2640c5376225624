-- the class's symmetries: the object at 61, images at 62
abbrev SYE (n : Nat) : Ent := .inr (7, [.ref 62, .int (nI n)])
/-- the symmetries among the first n kinds -/
def syL (P : PS) : Nat → List Nat
  | 0 => []
  | n + 1 => if isSy P n then syL P n ++ [n] else syL P n
theorem syL_le (P : PS) : ∀ n, (syL P n).length ≤ n
  | 0 => Nat.le_refl _
  | n + 1 => by
    have := syL_le P n
    rw [syL]
    split
    · rw [List.length_append]; simp only [List.length_singleton]; omega
    · omega
theorem syL_lt (P : PS) : ∀ n, ∀ q ∈ syL P n, q < n ∧ isSy P q = true
  | 0, q, h => by simp [syL] at h
  | n + 1, q, h => by
    rw [syL] at h
    split at h
    · rename_i hs
      rcases List.mem_append.mp h with a | a
      · have := syL_lt P n q a; exact ⟨by omega, this.2⟩
      · rw [List.mem_singleton.mp a]; exact ⟨by omega, hs⟩
    · have := syL_lt P n q h; exact ⟨by omega, this.2⟩
def SYc (f : Mm) (P : PS) (L : List Nat) : Prop := f 61 = some (SYE L.length) ∧ ∃ I, AR f 62 288 I ∧ ∀ k q, L[k]? = some q → ∀ c, c < pW P * pH P → I (k * 36 + c) = nI (img P q c)
theorem SYc.keep {f f' : Mm} {P : PS} {L : List Nat} (h : SYc f P L) (e1 : f' 61 = f 61) (e2 : f' 62 = f 62) : SYc f' P L := by
  obtain ⟨h1, I, h2, h3⟩ := h
  exact ⟨e1.trans h1, I, h2.keep e2, h3⟩
theorem ct_fillNext (g : GG) (f : Mm) {P : PS} {L : List Nat} {q : Nat} (hP : PB f 1 P) (hV : VD P) (hL : SYc f P L) (hq : q < 8) (hok : symOk P q = true) (hl : L.length < 8) : Ct g MX8_fillNext [.ref 61, .ref 1, .int (nI q)] f 0 0 (fun r f' => r = some (.int (bI (isSy P q))) ∧ (∀ k, k ≠ 62 → f' k = f k) ∧ SYc f' P L ∧ (isSy P q = true → ∃ I, AR f' 62 288 I ∧ (∀ k x, L[k]? = some x → ∀ c, c < pW P * pH P → I (k * 36 + c) = nI (img P x c)) ∧ ∀ c, c < pW P * pH P → I (L.length * 36 + c) = nI (img P q c))) := by
  refine Ct.of ok_MX8_fillNext (Nat.le_of_ble_eq_true rfl) ?_
  change Wp g MX8_fillNext 0 [some (.ref 61), some (.ref 1), some (.int (nI q)), none, none] [] f 0 0 _
  have ha := hV.area
  have loop : ∀ (d c : Nat) (f1 : Mm) (I : Nat → Int32) (w4 : Option Value), pW P * pH P - c = d → c ≤ pW P * pH P → (∀ k, k ≠ 62 → f1 k = f k) → AR f1 62 288 I → (∀ k x, L[k]? = some x → ∀ c, c < pW P * pH P → I (k * 36 + c) = nI (img P x c)) → (∀ j, j < c → I (L.length * 36 + j) = nI (img P q j)) → sya P q c = true → Wp g MX8_fillNext 2 [some (.ref 61), some (.ref 1), some (.int (nI q)), some (.int (nI c)), w4] [] f1 0 0 (fun r f' => r = some (.int (bI (isSy P q))) ∧ (∀ k, k ≠ 62 → f' k = f k) ∧ SYc f' P L ∧ (isSy P q = true → ∃ I, AR f' 62 288 I ∧ (∀ k x, L[k]? = some x → ∀ c, c < pW P * pH P → I (k * 36 + c) = nI (img P x c)) ∧ ∀ c, c < pW P * pH P → I (L.length * 36 + c) = nI (img P q c))) := by
    intro d
    induction d using Nat.strongRecOn with
    | ind d ih =>
      intro c f1 I w4 hd hc hfr hI h1 h2 hsy
      have hP1 : PB f1 1 P := hP.keep (fun k x y => hfr k (by omega))
      have o1 := (hfr 61 (by decide)).trans hL.1
      refine rn_iload_n dX8_fillNext_2 rfl ?_
      refine rn_aload_n dX8_fillNext_3 rfl ?_
      refine rn_callV dX8_fillNext_4 lmX8_31 ⟨Nat.le_of_ble_eq_true rfl, Nat.le_of_ble_eq_true rfl⟩ (ct_cellCount g f1 hP1) hP1.1 rfl rfl (Nat.le_of_ble_eq_true rfl) ?_
      rintro _ _ ⟨rfl, rfl⟩
      refine rn_icmp_ge (tgt := 58) dX8_fillNext_7 (by decide) (fun c7 => ?_) (fun c7 => ?_)
      · refine rn_iconst (v := nI 1) dX8_fillNext_58 (by decide) ?_
        refine rn_zret dX8_fillNext_59 rfl rfl ?_
        have hc2 := ge_ex c7 (by omega) (by omega)
        have hce : c = pW P * pH P := by omega
        subst hce
        have ht : isSy P q = true := by rw [isSy, hok, hsy]; rfl
        exact ⟨by rw [ht]; rfl, hfr, ⟨o1, I, hI, h1⟩, fun _ => ⟨I, hI, h1, h2⟩⟩
      · have hc2 := ge_in c7 (by omega)
        have hil := img_lt hV hq hok hc2
        refine rn_aload_n dX8_fillNext_10 rfl ?_
        refine rn_iload_n dX8_fillNext_11 rfl ?_
        refine rn_iload_n dX8_fillNext_12 rfl ?_
        refine rn_callS dX8_fillNext_13 lmX8_35 ⟨Nat.le_of_ble_eq_true rfl, Nat.le_of_ble_eq_true rfl⟩ (ct_mapCell g f1 hP1 hV hq hc2) rfl rfl (Nat.le_of_ble_eq_true rfl) ?_
        rintro _ _ ⟨rfl, rfl⟩
        refine rn_istore dX8_fillNext_16 (Nat.le_of_ble_eq_true rfl) rfl ?_
        refine rn_aload_n dX8_fillNext_18 rfl ?_
        refine rn_iload dX8_fillNext_19 rfl ?_
        refine rn_callV dX8_fillNext_21 lmX8_39 ⟨Nat.le_of_ble_eq_true rfl, Nat.le_of_ble_eq_true rfl⟩ (ct_cellAt g f1 (nI (img P q c)) hP1) hP1.1 rfl rfl (Nat.le_of_ble_eq_true rfl) ?_
        rintro _ _ ⟨rfl, rfl⟩
        rw [atf_nI (by omega) (by decide)]
        refine rn_aload_n dX8_fillNext_24 rfl ?_
        refine rn_iload_n dX8_fillNext_25 rfl ?_
        refine rn_callV dX8_fillNext_26 lmX8_39 ⟨Nat.le_of_ble_eq_true rfl, Nat.le_of_ble_eq_true rfl⟩ (ct_cellAt g f1 (nI c) hP1) hP1.1 rfl rfl (Nat.le_of_ble_eq_true rfl) ?_
        rintro _ _ ⟨rfl, rfl⟩
        rw [atf_nI (by omega) (by decide)]
        refine rn_icmp_eq (tgt := 34) dX8_fillNext_29 (by decide) (fun c29 => ?_) (fun c29 => ?_)
        · refine rn_aload_n dX8_fillNext_34 rfl ?_
          refine rn_get dX8_fillNext_35 lfX8_9 o1 rfl ?_
          refine rn_aload_n dX8_fillNext_38 rfl ?_
          refine rn_get dX8_fillNext_39 lfX8_15 o1 rfl ?_
          refine rn_bipush (v := nI 36) dX8_fillNext_42 (by decide) ?_
          refine rn_imul dX8_fillNext_44 ?_
          refine rn_iload_n dX8_fillNext_45 rfl ?_
          refine rn_iadd dX8_fillNext_46 ?_
          rw [pk_mul, nI_add]
          refine rn_iload dX8_fillNext_47 rfl ?_
          refine rn_callS dX8_fillNext_49 lmX8_43 ⟨Nat.le_of_ble_eq_true rfl, Nat.le_of_ble_eq_true rfl⟩ (ct_put g f1 (nI (L.length * 36 + c)) (nI (img P q c)) (by decide) hI) rfl rfl (Nat.le_of_ble_eq_true rfl) ?_
          rintro _ f2 ⟨rfl, a2, k2⟩
          rw [ptf_nI (by omega) (by decide)] at a2
          refine rn_iinc (v := nI (c + 1)) dX8_fillNext_52 rfl (nI_1 c) (Nat.le_of_ble_eq_true rfl) rfl ?_
          refine rn_goto (tgt := 2) dX8_fillNext_55 (by decide) ?_
          refine ih _ (by omega) (c + 1) f2 _ _ rfl (by omega) (fun k x => (k2 k x).trans (hfr k x)) a2 (fun k x hx j hj => ?_) (fun j hj => ?_) (by rw [sya, hsy, decide_eq_true c29]; rfl)
          · have hkl : k < L.length := (List.getElem?_eq_some_iff.mp hx).1
            rw [upd_ne (by omega)]; exact h1 k x hx j hj
          · by_cases e : j = c
            · rw [e, upd_eq]
            · rw [upd_ne (by omega)]; exact h2 j (by omega)
        · refine rn_iconst (v := nI 0) dX8_fillNext_32 (by decide) ?_
          refine rn_zret dX8_fillNext_33 rfl rfl ?_
          have hf : isSy P q = false := by
            have h3 : sya P q (c + 1) = false := by rw [sya, decide_eq_false c29, Bool.and_false]
            have h4 := sya_f h3 (pW P * pH P - (c + 1))
            rw [show c + 1 + (pW P * pH P - (c + 1)) = pW P * pH P by omega] at h4
            rw [isSy, h4, Bool.and_false]
          exact ⟨by rw [hf]; rfl, hfr, ⟨o1, I, hI, h1⟩, fun z => by rw [hf] at z; cases z⟩
  obtain ⟨g1, I, g2, g3⟩ := id hL
  refine rn_iconst (v := nI 0) dX8_fillNext_0 (by decide) ?_
  refine rn_istore_n dX8_fillNext_1 (Nat.le_of_ble_eq_true rfl) rfl ?_
  exact loop _ 0 f I none rfl (by omega) (fun _ _ => rfl) g2 g3 (fun j hj => absurd hj (by omega)) rfl
theorem symOk_4 {P : PS} {q : Nat} (h : q < 4) : symOk P q = true := by rw [symOk, decide_eq_true h]; rfl
theorem ct_syfill (g : GG) (f : Mm) {P : PS} {n0 : Nat} {I : Nat → Int32} (hP : PB f 1 P) (hV : VD P) (hO : f 61 = some (SYE n0)) (hI : AR f 62 288 I) : Ct g MX8_fill [.ref 61, .ref 1] f 0 0 (fun r f' => r = none ∧ FR f f' 61 2 ∧ SYc f' P (syL P 8)) := by
  refine Ct.of ok_MX8_fill (Nat.le_of_ble_eq_true rfl) ?_
  change Wp g MX8_fill 0 [some (.ref 61), some (.ref 1), none, none] [] f 0 0 _
  obtain ⟨v1, v2, v3, v4, v5⟩ := id hV
  have loop : ∀ (K d q : Nat) (f1 : Mm), K ≤ 8 → (∀ j, j < K → symOk P j = true) → syL P K = syL P 8 → K - q = d → q ≤ K → FR f f1 61 2 → SYc f1 P (syL P q) → Wp g MX8_fill 25 [some (.ref 61), some (.ref 1), some (.int (nI K)), some (.int (nI q))] [] f1 0 0 (fun r f' => r = none ∧ FR f f' 61 2 ∧ SYc f' P (syL P 8)) := by
    intro K d
    induction d using Nat.strongRecOn with
    | ind d ih =>
      intro q f1 hK hall hK8 hd hq hfr hL
      have hP1 : PB f1 1 P := hP.keep (fun k x y => hfr k (by omega))
      have hle := syL_le P q
      refine rn_iload_n dX8_fill_25 rfl ?_
      refine rn_iload_n dX8_fill_26 rfl ?_
      refine rn_icmp_ge (tgt := 55) dX8_fill_27 (by decide) (fun c27 => ?_) (fun c27 => ?_)
      · refine rn_vret dX8_fill_55 rfl ?_
        have hq2 := ge_ex c27 (by omega) (by omega)
        have hqe : q = K := by omega
        subst hqe
        exact ⟨rfl, hfr, by rw [← hK8]; exact hL⟩
      · have hq2 := ge_in c27 (by omega)
        refine rn_aload_n dX8_fill_30 rfl ?_
        refine rn_aload_n dX8_fill_31 rfl ?_
        refine rn_iload_n dX8_fill_32 rfl ?_
        refine rn_callV dX8_fill_33 lmX8_27 ⟨Nat.le_of_ble_eq_true rfl, Nat.le_of_ble_eq_true rfl⟩ (ct_fillNext g f1 hP1 hV hL (show q < 8 by omega) (hall q hq2) (by omega)) hL.1 rfl rfl (Nat.le_of_ble_eq_true rfl) ?_
        rintro _ f2 ⟨rfl, k2, hL2, hI2⟩
        refine rn_if_eq (tgt := 49) dX8_fill_36 (by decide) (fun c36 => ?_) (fun c36 => ?_)
        · refine rn_iinc (v := nI (q + 1)) dX8_fill_49 rfl (nI_1 q) (Nat.le_of_ble_eq_true rfl) rfl ?_
          refine rn_goto (tgt := 25) dX8_fill_52 (by decide) ?_
          have hf := bI_0.mp c36
          refine ih _ (by omega) (q + 1) f2 hK hall hK8 rfl (by omega) (hfr.one (by omega) (by omega) k2) ?_
          rw [syL, hf]; exact hL2
        · refine rn_aload_n dX8_fill_39 rfl ?_
          refine rn_dup dX8_fill_40 rfl ?_
          refine rn_get dX8_fill_41 lfX8_15 hL2.1 rfl ?_
          refine rn_iconst (v := nI 1) dX8_fill_44 (by decide) ?_
          refine rn_iadd dX8_fill_45 ?_
          rw [nI_add]
          refine rn_put dX8_fill_46 lpX8_15 hL2.1 rfl rfl (Nat.le_of_ble_eq_true rfl) ?_
          refine rn_iinc (v := nI (q + 1)) dX8_fill_49 rfl (nI_1 q) (Nat.le_of_ble_eq_true rfl) rfl ?_
          refine rn_goto (tgt := 25) dX8_fill_52 (by decide) ?_
          have ht := bI_n0.mp c36
          obtain ⟨J, hJ, j1, j2⟩ := hI2 ht
          refine ih _ (by omega) (q + 1) _ hK hall hK8 rfl (by omega) ((hfr.one (by omega) (by omega) k2).up (by omega) (by omega)) ?_
          rw [syL, if_pos ht]
          refine ⟨by rw [List.length_append]; exact up_same _ _ _, J, hJ.keep (up_ne (by decide)), fun k x hx c hc => ?_⟩
          rcases get_push hx with ⟨q1, q2⟩ | ⟨q1, q2⟩
          · exact j1 k x q2 c hc
          · rw [q1, q2]; exact j2 c hc
  have h48 : ¬ pW P = pH P → syL P 4 = syL P 8 := fun hne => by
    have hf : ∀ q, 4 ≤ q → isSy P q = false := fun q hq => by
      rw [isSy, symOk, decide_eq_false (by omega), decide_eq_false hne]; rfl
    have e : ∀ j, syL P (4 + j) = syL P 4 := fun j => by
      induction j with
      | zero => rfl
      | succ j ihj => rw [show 4 + (j + 1) = 4 + j + 1 from rfl, syL, hf (4 + j) (by omega)]; exact ihj
    exact (e 4).symm
  refine rn_aload_n dX8_fill_0 rfl ?_
  refine rn_get dX8_fill_1 lfX8_19 hP.1 rfl ?_
  refine rn_aload_n dX8_fill_4 rfl ?_
  refine rn_get dX8_fill_5 lfX8_24 hP.1 rfl ?_
  refine rn_icmp_ne (tgt := 16) dX8_fill_8 (by decide) (fun c8 => ?_) (fun c8 => ?_)
  · refine rn_iconst (v := nI 4) dX8_fill_16 (by decide) ?_
    refine rn_istore_n dX8_fill_17 (Nat.le_of_ble_eq_true rfl) rfl ?_
    refine rn_aload_n dX8_fill_18 rfl ?_
    refine rn_iconst (v := nI 0) dX8_fill_19 (by decide) ?_
    refine rn_put dX8_fill_20 lpX8_15 hO rfl rfl (Nat.le_of_ble_eq_true rfl) ?_
    refine rn_iconst (v := nI 0) dX8_fill_23 (by decide) ?_
    refine rn_istore_n dX8_fill_24 (Nat.le_of_ble_eq_true rfl) rfl ?_
    have hne : ¬ pW P = pH P := fun z => c8 (by rw [z])
    exact loop 4 _ 0 _ (by omega) (fun j hj => symOk_4 hj) (h48 hne) rfl (by omega) (FR.rf.up (by omega) (by omega)) ⟨up_same _ _ _, I, hI.keep (up_ne (by decide)), fun k q h => by simp [syL] at h⟩
  · refine rn_bipush (v := nI 8) dX8_fill_11 (by decide) ?_
    refine rn_goto (tgt := 17) dX8_fill_13 (by decide) ?_
    refine rn_istore_n dX8_fill_17 (Nat.le_of_ble_eq_true rfl) rfl ?_
    refine rn_aload_n dX8_fill_18 rfl ?_
    refine rn_iconst (v := nI 0) dX8_fill_19 (by decide) ?_
    refine rn_put dX8_fill_20 lpX8_15 hO rfl rfl (Nat.le_of_ble_eq_true rfl) ?_
    refine rn_iconst (v := nI 0) dX8_fill_23 (by decide) ?_
    refine rn_istore_n dX8_fill_24 (Nat.le_of_ble_eq_true rfl) rfl ?_
    have he : pW P = pH P := (nI_eq (by omega) (by omega)).mp c8
    exact loop 8 _ 0 _ (by omega) (fun j hj => by rw [symOk, decide_eq_true he, Bool.or_true]) rfl rfl (by omega) (FR.rf.up (by omega) (by omega)) ⟨up_same _ _ _, I, hI.keep (up_ne (by decide)), fun k q h => by simp [syL] at h⟩
theorem ct_imageOf (g : GG) (f : Mm) {P : PS} {L : List Nat} {k q c : Nat} (hL : SYc f P L) (hk : L[k]? = some q) (hl : L.length ≤ 8) (hc : c < pW P * pH P) (hV : VD P) : Ct g MX8_imageOf [.ref 61, .int (nI k), .int (nI c)] f 0 0 (fun r f' => f = f' ∧ r = some (.int (nI (img P q c)))) := by
  refine Ct.of ok_MX8_imageOf (Nat.le_of_ble_eq_true rfl) ?_
  change Wp g MX8_imageOf 0 [some (.ref 61), some (.int (nI k)), some (.int (nI c))] [] f 0 0 _
  have ha := hV.area
  obtain ⟨g1, I, g2, g3⟩ := id hL
  have hkl : k < L.length := (List.getElem?_eq_some_iff.mp hk).1
  refine rn_aload_n dX8_imageOf_0 rfl ?_
  refine rn_get dX8_imageOf_1 lfX8_9 g1 rfl ?_
  refine rn_iload_n dX8_imageOf_4 rfl ?_
  refine rn_bipush (v := nI 36) dX8_imageOf_5 (by decide) ?_
  refine rn_imul dX8_imageOf_7 ?_
  refine rn_iload_n dX8_imageOf_8 rfl ?_
  refine rn_iadd dX8_imageOf_9 ?_
  rw [pk_mul, nI_add]
  refine rn_callS dX8_imageOf_10 lmX8_53 ⟨Nat.le_of_ble_eq_true rfl, Nat.le_of_ble_eq_true rfl⟩ (ct_at g f (nI (k * 36 + c)) (by decide) g2) rfl rfl (Nat.le_of_ble_eq_true rfl) ?_
  rintro _ _ ⟨rfl, rfl⟩
  rw [atf_nI (by omega) (by decide), g3 k q hk c hc]
  refine rn_iret dX8_imageOf_13 rfl ?_
  exact ⟨rfl, rfl⟩
