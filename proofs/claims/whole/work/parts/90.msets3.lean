theorem cm_setColourNo (g : GG) (f : Mm) {P : PS} {H : List PS} {T : List Nat} {x y : Int32} (hI : MI f P H T) (hV : VD P) (hx : inR x (pW P * pH P) = false ∨ ¬ (nI 0 ≤ y ∧ y ≤ nI 3)) : Ct g MX12_setColour [.ref 75, .int x, .int y] f 0 0 (fun r f' => f = f' ∧ r = some (.int (-1))) := by
  refine Ct.of ok_MX12_setColour (Nat.le_of_ble_eq_true rfl) ?_
  change Wp g MX12_setColour 0 [some (.ref 75), some (.int x), some (.int y), none] [] f 0 0 _
  obtain ⟨wi, cv, s, hM, hs, hP⟩ := hI.ent
  rcases hx with hx | hx
  · refine rn_aload_n dX12_setColour_0 rfl ?_
    refine rn_iload_n dX12_setColour_1 rfl ?_
    refine rn_callV dX12_setColour_2 lmX12_126 ⟨Nat.le_of_ble_eq_true rfl, Nat.le_of_ble_eq_true rfl⟩ (cm_isCell g f x hM hs hP hV) hM rfl rfl (Nat.le_of_ble_eq_true rfl) ?_
    rintro _ _ ⟨rfl, rfl⟩
    rw [hx]
    refine rn_if_eq (tgt := 17) dX12_setColour_5 (by decide) (fun c5 => ?_) (fun c5 => ?_)
    · refine rn_iconst (v := (-1)) dX12_setColour_17 (by decide) ?_
      refine rn_iret dX12_setColour_18 rfl ?_
      exact ⟨rfl, rfl⟩
    · exact absurd (show bI false = 0 from rfl) c5
  · refine rn_aload_n dX12_setColour_0 rfl ?_
    refine rn_iload_n dX12_setColour_1 rfl ?_
    refine rn_callV dX12_setColour_2 lmX12_126 ⟨Nat.le_of_ble_eq_true rfl, Nat.le_of_ble_eq_true rfl⟩ (cm_isCell g f x hM hs hP hV) hM rfl rfl (Nat.le_of_ble_eq_true rfl) ?_
    rintro _ _ ⟨rfl, rfl⟩
    refine rn_if_eq (tgt := 17) dX12_setColour_5 (by decide) (fun c5 => ?_) (fun c5 => ?_)
    · refine rn_iconst (v := (-1)) dX12_setColour_17 (by decide) ?_
      refine rn_iret dX12_setColour_18 rfl ?_
      exact ⟨rfl, rfl⟩
    · refine rn_iload_n dX12_setColour_8 rfl ?_
      refine rn_iconst (v := nI 0) dX12_setColour_9 (by decide) ?_
      refine rn_iconst (v := nI 3) dX12_setColour_10 (by decide) ?_
      refine rn_callS dX12_setColour_11 lmX12_72 ⟨Nat.le_of_ble_eq_true rfl, Nat.le_of_ble_eq_true rfl⟩ (cm_in g f y (nI 0) (nI 3)) rfl rfl (Nat.le_of_ble_eq_true rfl) ?_
      rintro _ _ ⟨rfl, rfl⟩
      rw [decide_eq_false hx]
      refine rn_if_ne (tgt := 19) dX12_setColour_14 (by decide) (fun c14 => ?_) (fun c14 => ?_)
      · exact absurd (show bI false = 0 from rfl) c14
      · refine rn_iconst (v := (-1)) dX12_setColour_17 (by decide) ?_
        refine rn_iret dX12_setColour_18 rfl ?_
        exact ⟨rfl, rfl⟩
theorem cm_setColour (g : GG) (f : Mm) {P : PS} {H : List PS} {T : List Nat} {c o : Nat} (hI : MI f P H T) (hV : VD P) (hc : c < pW P * pH P) (ho : o ≤ 3) (hd : ¬ pC P c = -1) : Ct g MX12_setColour [.ref 75, .int (nI c), .int (nI o)] f 0 0 (fun r f' => (∀ j, j < 75 → f' j = f j) ∧ MI f' (pCell P c (nI o)) (psh H P) T ∧ r = some (.int (pC P c))) := by
  refine Ct.of ok_MX12_setColour (Nat.le_of_ble_eq_true rfl) ?_
  change Wp g MX12_setColour 0 [some (.ref 75), some (.int (nI c)), some (.int (nI o)), none] [] f 0 0 _
  obtain ⟨wi, cv, s, pr, ⟨hM, hs, hP, hm⟩, hp, h2, hl, hPS, hT, h4⟩ := hI
  have ha := hV.area
  have hin : inR (nI c) (pW P * pH P) = true := inR_nI hc (by omega)
  have d1 : decide (nI 0 ≤ nI o ∧ nI o ≤ nI 3) = true := decide_eq_true ⟨nI_le (by omega) (by omega), nI_le ho (by decide)⟩
  refine rn_aload_n dX12_setColour_0 rfl ?_
  refine rn_iload_n dX12_setColour_1 rfl ?_
  refine rn_callV dX12_setColour_2 lmX12_126 ⟨Nat.le_of_ble_eq_true rfl, Nat.le_of_ble_eq_true rfl⟩ (cm_isCell g f (nI c) hM hs hP hV) hM rfl rfl (Nat.le_of_ble_eq_true rfl) ?_
  rintro _ _ ⟨rfl, rfl⟩
  rw [hin]
  refine rn_if_eq (tgt := 17) dX12_setColour_5 (by decide) (fun c5 => ?_) (fun c5 => ?_)
  · exact absurd c5 (by decide)
  · refine rn_iload_n dX12_setColour_8 rfl ?_
    refine rn_iconst (v := nI 0) dX12_setColour_9 (by decide) ?_
    refine rn_iconst (v := nI 3) dX12_setColour_10 (by decide) ?_
    refine rn_callS dX12_setColour_11 lmX12_72 ⟨Nat.le_of_ble_eq_true rfl, Nat.le_of_ble_eq_true rfl⟩ (cm_in g f (nI o) (nI 0) (nI 3)) rfl rfl (Nat.le_of_ble_eq_true rfl) ?_
    rintro _ _ ⟨rfl, rfl⟩
    rw [d1]
    refine rn_if_ne (tgt := 19) dX12_setColour_14 (by decide) (fun c14 => ?_) (fun c14 => ?_)
    · refine rn_aload_n dX12_setColour_19 rfl ?_
      refine rn_iload_n dX12_setColour_20 rfl ?_
      refine rn_callV dX12_setColour_21 lmX12_76 ⟨Nat.le_of_ble_eq_true rfl, Nat.le_of_ble_eq_true rfl⟩ (cm_isOpen g f hM hs (show c < 36 by omega)) hM rfl rfl (Nat.le_of_ble_eq_true rfl) ?_
      rintro _ _ ⟨rfl, rfl⟩
      rw [hP.2.2.2.2.2.1 c hc, decide_eq_true hd]
      refine rn_if_ne (tgt := 30) dX12_setColour_24 (by decide) (fun c24 => ?_) (fun c24 => ?_)
      · refine rn_aload_n dX12_setColour_30 rfl ?_
        refine rn_callV dX12_setColour_31 lmX12_123 ⟨Nat.le_of_ble_eq_true rfl, Nat.le_of_ble_eq_true rfl⟩ (cm_note g f hM hs hp h2 hl hPS hP hV) hM rfl rfl (Nat.le_of_ble_eq_true rfl) ?_
        rintro _ f1 ⟨rfl, k1, o1, pr', hp', hPS'⟩
        obtain ⟨sb, hsb, hsbe⟩ := id (hs.keep (k1 76 (by decide) (by decide)))
        refine rn_aload_n dX12_setColour_34 rfl ?_
        refine rn_get dX12_setColour_35 lfX12_7 o1 rfl ?_
        refine rn_iconst (v := nI 5) dX12_setColour_38 (by decide) ?_
        refine rn_iload_n dX12_setColour_39 rfl ?_
        refine rn_iadd dX12_setColour_40 ?_
        rw [nI_add]
        refine rn_iald dX12_setColour_41 hsb (vp_in_nI (show 5 + c < 73 by omega) (by decide)) ?_
        rw [nI_clamp (by omega), hsbe _ (by omega), hP.2.2.2.2.2.1 c hc]
        refine rn_istore_n dX12_setColour_42 (Nat.le_of_ble_eq_true rfl) rfl ?_
        refine rn_aload_n dX12_setColour_43 rfl ?_
        refine rn_get dX12_setColour_44 lfX12_7 o1 rfl ?_
        refine rn_iconst (v := nI 5) dX12_setColour_47 (by decide) ?_
        refine rn_iload_n dX12_setColour_48 rfl ?_
        refine rn_iadd dX12_setColour_49 ?_
        rw [nI_add]
        refine rn_iload_n dX12_setColour_50 rfl ?_
        refine rn_iast dX12_setColour_51 hsb (vp_in_nI (show 5 + c < 73 by omega) (by decide)) ?_
        refine Wp.gen (e := .inl (0, 73, .inl (upd sb (nI (5 + c)).toNatClampNeg (nI o)))) (fun f2 k2 o2 => ?_)
        refine rn_iload_n dX12_setColour_52 rfl ?_
        refine rn_iret dX12_setColour_53 rfl ?_
        exact ⟨fun j hj => (k2 j (by omega)).trans (k1 j (by omega) (by omega)), MI_set hm (fun j hj => (k2 j (by omega)).trans (k1 j (by omega) (by omega))) ((k2 75 (by decide)).trans o1) ⟨_, o2, fun i hi => by
          rw [nI_clamp (by omega)]
          by_cases e : i = 5 + c
          · rw [e, upd_eq]; exact (upd_eq s _ _).symm
          · rw [upd_ne e]; exact (hsbe i hi).trans (upd_ne e).symm⟩ (hP.cell hV hc (nI o)) (hp'.keep (k2 77 (by decide))) hPS' hl hT h4, rfl⟩
      · exact absurd c24 (by decide)
    · exact absurd c14 (by decide)
theorem cm_setColourIll (g : GG) (f : Mm) {P : PS} {H : List PS} {T : List Nat} {c o : Nat} (hI : MI f P H T) (hV : VD P) (hc : c < pW P * pH P) (ho : o ≤ 3) (hd : pC P c = -1) : Ct g MX12_setColour [.ref 75, .int (nI c), .int (nI o)] f 0 0 (fun r f' => f = f' ∧ r = some (.int (-2))) := by
  refine Ct.of ok_MX12_setColour (Nat.le_of_ble_eq_true rfl) ?_
  change Wp g MX12_setColour 0 [some (.ref 75), some (.int (nI c)), some (.int (nI o)), none] [] f 0 0 _
  obtain ⟨wi, cv, s, hM, hs, hP⟩ := hI.ent
  have ha := hV.area
  have hin : inR (nI c) (pW P * pH P) = true := inR_nI hc (by omega)
  have d1 : decide (nI 0 ≤ nI o ∧ nI o ≤ nI 3) = true := decide_eq_true ⟨nI_le (by omega) (by omega), nI_le ho (by decide)⟩
  refine rn_aload_n dX12_setColour_0 rfl ?_
  refine rn_iload_n dX12_setColour_1 rfl ?_
  refine rn_callV dX12_setColour_2 lmX12_126 ⟨Nat.le_of_ble_eq_true rfl, Nat.le_of_ble_eq_true rfl⟩ (cm_isCell g f (nI c) hM hs hP hV) hM rfl rfl (Nat.le_of_ble_eq_true rfl) ?_
  rintro _ _ ⟨rfl, rfl⟩
  rw [hin]
  refine rn_if_eq (tgt := 17) dX12_setColour_5 (by decide) (fun c5 => ?_) (fun c5 => ?_)
  · exact absurd c5 (by decide)
  · refine rn_iload_n dX12_setColour_8 rfl ?_
    refine rn_iconst (v := nI 0) dX12_setColour_9 (by decide) ?_
    refine rn_iconst (v := nI 3) dX12_setColour_10 (by decide) ?_
    refine rn_callS dX12_setColour_11 lmX12_72 ⟨Nat.le_of_ble_eq_true rfl, Nat.le_of_ble_eq_true rfl⟩ (cm_in g f (nI o) (nI 0) (nI 3)) rfl rfl (Nat.le_of_ble_eq_true rfl) ?_
    rintro _ _ ⟨rfl, rfl⟩
    rw [d1]
    refine rn_if_ne (tgt := 19) dX12_setColour_14 (by decide) (fun c14 => ?_) (fun c14 => ?_)
    · refine rn_aload_n dX12_setColour_19 rfl ?_
      refine rn_iload_n dX12_setColour_20 rfl ?_
      refine rn_callV dX12_setColour_21 lmX12_76 ⟨Nat.le_of_ble_eq_true rfl, Nat.le_of_ble_eq_true rfl⟩ (cm_isOpen g f hM hs (show c < 36 by omega)) hM rfl rfl (Nat.le_of_ble_eq_true rfl) ?_
      rintro _ _ ⟨rfl, rfl⟩
      rw [hP.2.2.2.2.2.1 c hc, decide_eq_false (fun h => h hd)]
      refine rn_if_ne (tgt := 30) dX12_setColour_24 (by decide) (fun c24 => ?_) (fun c24 => ?_)
      · exact absurd (show bI false = 0 from rfl) c24
      · refine rn_bipush (v := (-2)) dX12_setColour_27 (by decide) ?_
        refine rn_iret dX12_setColour_29 rfl ?_
        exact ⟨rfl, rfl⟩
    · exact absurd c14 (by decide)
-- pieces
def okSh (x : Int32) : Bool := decide (x = nI x.toNatClampNeg) && (decide (x.toNatClampNeg < 65536) && okC x.toNatClampNeg)
theorem okSh_nI {s : Nat} (hs : s < 65536) : okSh (nI s) = okC s := by rw [okSh, nI_clamp (by omega), decide_eq_true rfl, decide_eq_true hs, Bool.true_and, Bool.true_and]
theorem okSh_no {x : Int32} (h : ∀ s, s < 65536 → x ≠ nI s) : okSh x = false := by
  rw [okSh]
  by_cases e : x.toNatClampNeg < 65536
  · rw [decide_eq_false (h _ e), Bool.false_and]
  · rw [decide_eq_false e, Bool.false_and, Bool.and_false]
theorem okSh_ex {x : Int32} (h : okSh x = true) : ∃ s, s < 65536 ∧ x = nI s ∧ okC s = true := by
  rw [okSh, Bool.and_eq_true, Bool.and_eq_true, decide_eq_true_eq, decide_eq_true_eq] at h
  exact ⟨_, h.2.1, h.1, h.2.2⟩
theorem cb_isShape (g : GG) (f : Mm) (x : Int32) : Ct g MX6_isShape [.int x] f 0 0 (fun r f' => f = f' ∧ r = some (.int (bI (okSh x)))) := by
  refine Ct.mono (fun r f' h => ?_) (ct_isShape g f x)
  obtain ⟨h1, ⟨s, h2, h3, h4⟩ | ⟨h2, h3⟩⟩ := h
  · exact ⟨h1, by rw [h4, h3, okSh_nI h2]⟩
  · exact ⟨h1, by rw [h3, okSh_no h2]⟩
theorem cmb_isShape (g : GG) (f : Mm) (x : Int32) : Ct g MX12_isShape [.int x] f 0 0 (fun r f' => f = f' ∧ r = some (.int (bI (okSh x)))) := by
  refine Ct.mono (fun r f' h => ?_) (cm_isShape g f x)
  obtain ⟨h1, ⟨s, h2, h3, h4⟩ | ⟨h2, h3⟩⟩ := h
  · exact ⟨h1, by rw [h4, h3, okSh_nI h2, ok_eq h2]⟩
  · exact ⟨h1, by rw [h3, okSh_no h2]⟩
theorem ok_pos {s : Nat} (hs : s < 65536) (h : okC s = true) : 0 < s := by
  rw [ok_eq hs, okM, Bool.and_eq_true, decide_eq_true_eq] at h
  omega
theorem cm_adds (g : GG) (f : Mm) {wi s : Nat → Int32} {cv : Int64} {P : PS} {s0 : Nat} (v1 v2 v3 : Int32) (hM : f 75 = some (MO wi cv)) (hs : AR f 76 73 s) (hP : SP s P) (hV : VD P) (hn : pN P < 8) (h1 : s0 < 65536) (h2 : 0 < s0) : Ct g MX12_adds [.ref 75, .int (nI s0), .int v1, .int v2, .int v3] f 0 0 (fun r f' => r = none ∧ (∀ j, j ≠ 76 → f' j = f j) ∧ ∃ s', AR f' 76 73 s' ∧ SP s' (pAdd P (nI (nrM s0)) v1 v2 v3)) := by
  refine Ct.of ok_MX12_adds (Nat.le_of_ble_eq_true rfl) ?_
  change Wp g MX12_adds 0 [some (.ref 75), some (.int (nI s0)), some (.int v1), some (.int v2), some (.int v3), none] [] f 0 0 _
  have ha := hV.area
  obtain ⟨sb, hsb, hsbe⟩ := id hs
  have e4 : sb 4 = nI (pN P) := (hsbe 4 (by omega)).trans hP.2.2.2.2.1
  refine rn_bipush (v := nI 41) dX12_adds_0 (by decide) ?_
  refine rn_iconst (v := nI 4) dX12_adds_2 (by decide) ?_
  refine rn_aload_n dX12_adds_3 rfl ?_
  refine rn_get dX12_adds_4 lfX12_7 hM rfl ?_
  refine rn_iconst (v := nI 4) dX12_adds_7 (by decide) ?_
  refine rn_iald dX12_adds_8 hsb (vp_in_nI (show 4 < 73 by omega) (by decide)) ?_
  rw [nI_clamp (by decide), e4]
  refine rn_imul dX12_adds_9 ?_
  rw [pk_mul]
  refine rn_iadd dX12_adds_10 ?_
  rw [nI_add]
  refine rn_istore dX12_adds_11 (Nat.le_of_ble_eq_true rfl) rfl ?_
  refine rn_aload_n dX12_adds_13 rfl ?_
  refine rn_get dX12_adds_14 lfX12_7 hM rfl ?_
  refine rn_iload dX12_adds_17 rfl ?_
  refine rn_iconst (v := nI 0) dX12_adds_19 (by decide) ?_
  refine rn_iadd dX12_adds_20 ?_
  rw [nI_add]
  refine rn_iload_n dX12_adds_21 rfl ?_
  refine rn_callS dX12_adds_22 lmX12_89 ⟨Nat.le_of_ble_eq_true rfl, Nat.le_of_ble_eq_true rfl⟩ (cm_normal g f h1 h2) rfl rfl (Nat.le_of_ble_eq_true rfl) ?_
  rintro _ _ ⟨rfl, rfl⟩
  refine rn_iast dX12_adds_25 hsb (vp_in_nI (show 41 + 4 * pN P + 0 < 73 by omega) (by decide)) ?_
  refine Wp.gen (e := .inl (0, 73, .inl (upd sb (nI (41 + 4 * pN P + 0)).toNatClampNeg (nI (nrM s0))))) (fun f1 k1 o1 => ?_)
  refine rn_aload_n dX12_adds_26 rfl ?_
  refine rn_get dX12_adds_27 lfX12_7 ((k1 75 (by decide)).trans hM) rfl ?_
  refine rn_iload dX12_adds_30 rfl ?_
  refine rn_iconst (v := nI 1) dX12_adds_32 (by decide) ?_
  refine rn_iadd dX12_adds_33 ?_
  rw [nI_add]
  refine rn_iload_n dX12_adds_34 rfl ?_
  refine rn_iast dX12_adds_35 o1 (vp_in_nI (show 41 + 4 * pN P + 1 < 73 by omega) (by decide)) ?_
  refine Wp.gen (e := .inl (0, 73, .inl (upd (upd sb (nI (41 + 4 * pN P + 0)).toNatClampNeg (nI (nrM s0))) (nI (41 + 4 * pN P + 1)).toNatClampNeg v1))) (fun f2 k2 o2 => ?_)
  refine rn_aload_n dX12_adds_36 rfl ?_
  refine rn_get dX12_adds_37 lfX12_7 ((k2 75 (by decide)).trans ((k1 75 (by decide)).trans hM)) rfl ?_
  refine rn_iload dX12_adds_40 rfl ?_
  refine rn_iconst (v := nI 2) dX12_adds_42 (by decide) ?_
  refine rn_iadd dX12_adds_43 ?_
  rw [nI_add]
  refine rn_iload_n dX12_adds_44 rfl ?_
  refine rn_iast dX12_adds_45 o2 (vp_in_nI (show 41 + 4 * pN P + 2 < 73 by omega) (by decide)) ?_
  refine Wp.gen (e := .inl (0, 73, .inl (upd (upd (upd sb (nI (41 + 4 * pN P + 0)).toNatClampNeg (nI (nrM s0))) (nI (41 + 4 * pN P + 1)).toNatClampNeg v1) (nI (41 + 4 * pN P + 2)).toNatClampNeg v2))) (fun f3 k3 o3 => ?_)
  refine rn_aload_n dX12_adds_46 rfl ?_
  refine rn_get dX12_adds_47 lfX12_7 ((k3 75 (by decide)).trans ((k2 75 (by decide)).trans ((k1 75 (by decide)).trans hM))) rfl ?_
  refine rn_iload dX12_adds_50 rfl ?_
  refine rn_iconst (v := nI 3) dX12_adds_52 (by decide) ?_
  refine rn_iadd dX12_adds_53 ?_
  rw [nI_add]
  refine rn_iload dX12_adds_54 rfl ?_
  refine rn_iast dX12_adds_56 o3 (vp_in_nI (show 41 + 4 * pN P + 3 < 73 by omega) (by decide)) ?_
  refine Wp.gen (e := .inl (0, 73, .inl (upd (upd (upd (upd sb (nI (41 + 4 * pN P + 0)).toNatClampNeg (nI (nrM s0))) (nI (41 + 4 * pN P + 1)).toNatClampNeg v1) (nI (41 + 4 * pN P + 2)).toNatClampNeg v2) (nI (41 + 4 * pN P + 3)).toNatClampNeg v3))) (fun f4 k4 o4 => ?_)
  refine rn_aload_n dX12_adds_57 rfl ?_
  refine rn_get dX12_adds_58 lfX12_7 ((k4 75 (by decide)).trans ((k3 75 (by decide)).trans ((k2 75 (by decide)).trans ((k1 75 (by decide)).trans hM)))) rfl ?_
  refine rn_iconst (v := nI 4) dX12_adds_61 (by decide) ?_
  refine rn_dup2 dX12_adds_62 rfl rfl ?_
  refine rn_iald dX12_adds_63 o4 (vp_in_nI (show 4 < 73 by omega) (by decide)) ?_
  rw [nI_clamp (by omega), nI_clamp (by omega), nI_clamp (by omega), nI_clamp (by omega), nI_clamp (by omega), upd_ne (by omega), upd_ne (by omega), upd_ne (by omega), upd_ne (by omega), e4]
  refine rn_iconst (v := nI 1) dX12_adds_64 (by decide) ?_
  refine rn_iadd dX12_adds_65 ?_
  rw [nI_add]
  refine rn_iast dX12_adds_66 (by rw [o4, nI_clamp (by omega), nI_clamp (by omega), nI_clamp (by omega), nI_clamp (by omega)]) (vp_in_nI (show 4 < 73 by omega) (by decide)) ?_
  refine Wp.gen (fun f5 k5 o5 => ?_)
  refine rn_vret dX12_adds_67 rfl ?_
  obtain ⟨p1, p2, p3, p4, p5, p6, p7⟩ := id hP
  refine ⟨rfl, fun j hj => (k5 j hj).trans ((k4 j hj).trans ((k3 j hj).trans ((k2 j hj).trans (k1 j hj)))), _, ⟨_, o5, fun _ _ => rfl⟩, ?_⟩
  rw [nI_clamp (by decide)]
  refine ⟨?_, ?_, ?_, ?_, upd_eq _ _ _, fun i hi => ?_, fun i hi => ?_⟩
  · rw [upd_ne (by omega), upd_ne (by omega), upd_ne (by omega), upd_ne (by omega), upd_ne (by omega)]; exact (hsbe 0 (by omega)).trans p1
  · rw [upd_ne (by omega), upd_ne (by omega), upd_ne (by omega), upd_ne (by omega), upd_ne (by omega)]; exact (hsbe 1 (by omega)).trans p2
  · rw [upd_ne (by omega), upd_ne (by omega), upd_ne (by omega), upd_ne (by omega), upd_ne (by omega)]; exact (hsbe 2 (by omega)).trans p3
  · rw [upd_ne (by omega), upd_ne (by omega), upd_ne (by omega), upd_ne (by omega), upd_ne (by omega)]; exact (hsbe 3 (by omega)).trans p4
  · have hi2 : i < pW P * pH P := hi
    rw [upd_ne (by omega), upd_ne (by omega), upd_ne (by omega), upd_ne (by omega), upd_ne (by omega)]; exact (hsbe _ (by omega)).trans (p6 i hi)
  · have hi2 : i < pN P + 1 := hi
    by_cases e : i = pN P
    · rw [e]
      refine ⟨?_, ?_, ?_, ?_⟩
      · rw [upd_ne (by omega), upd_ne (by omega), upd_ne (by omega), upd_ne (by omega)]; exact (upd_eq _ _ _).trans (upd_eq _ _ _).symm
      · rw [upd_ne (by omega), upd_ne (by omega), upd_ne (by omega)]; exact (upd_eq _ _ _).trans (upd_eq _ _ _).symm
      · rw [upd_ne (by omega), upd_ne (by omega)]; exact (upd_eq _ _ _).trans (upd_eq _ _ _).symm
      · rw [upd_ne (by omega)]; exact (upd_eq _ _ _).trans (upd_eq _ _ _).symm
    · obtain ⟨a, b, c2, d⟩ := p7 i (by omega)
      refine ⟨?_, ?_, ?_, ?_⟩
      · rw [upd_ne (by omega), upd_ne (by omega), upd_ne (by omega), upd_ne (by omega), upd_ne (by omega)]; exact ((hsbe _ (by omega)).trans a).trans (upd_ne e).symm
      · rw [upd_ne (by omega), upd_ne (by omega), upd_ne (by omega), upd_ne (by omega), upd_ne (by omega)]; exact ((hsbe _ (by omega)).trans b).trans (upd_ne e).symm
      · rw [upd_ne (by omega), upd_ne (by omega), upd_ne (by omega), upd_ne (by omega), upd_ne (by omega)]; exact ((hsbe _ (by omega)).trans c2).trans (upd_ne e).symm
      · rw [upd_ne (by omega), upd_ne (by omega), upd_ne (by omega), upd_ne (by omega), upd_ne (by omega)]; exact ((hsbe _ (by omega)).trans d).trans (upd_ne e).symm
