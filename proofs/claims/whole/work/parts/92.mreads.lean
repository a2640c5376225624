-- a problem's numbers
def shP (P : PS) (p : Nat) : Nat := (pS P p).toNatClampNeg
def frP (P : PS) (p : Nat) : Nat := (pF P p).toNatClampNeg
def coP (P : PS) (p : Nat) : Nat := (pK P p).toNatClampNeg
def cpP (P : PS) (p : Nat) : Nat := (pX P p).toNatClampNeg
def VPc (P : PS) : Prop := VP P (shP P) (frP P) (coP P) (cpP P)
def qP (P : PS) : SQ := qOf P (shP P) (frP P) (coP P) (cpP P)
theorem qP_1 (P : PS) : (qP P).1 = P := rfl
theorem cm_appendNo (g : GG) (f : Mm) {P : PS} {H : List PS} {T : List Nat} {x : Int32} (hI : MI f P H T) (hx : ¬ (nI 0 ≤ x ∧ x ≤ nI 255)) : Ct g MX12_appendCharacter [.ref 75, .int x] f 0 0 (fun r f' => f = f' ∧ r = some (.int (-1))) := by
  refine Ct.of ok_MX12_appendCharacter (Nat.le_of_ble_eq_true rfl) ?_
  change Wp g MX12_appendCharacter 0 [some (.ref 75), some (.int x)] [] f 0 0 _
  refine rn_iload_n dX12_appendCharacter_0 rfl ?_
  refine rn_iconst (v := nI 0) dX12_appendCharacter_1 (by decide) ?_
  refine rn_sipush (v := nI 255) dX12_appendCharacter_2 (by decide) ?_
  refine rn_callS dX12_appendCharacter_5 lmX12_72 ⟨Nat.le_of_ble_eq_true rfl, Nat.le_of_ble_eq_true rfl⟩ (cm_in g f x (nI 0) (nI 255)) rfl rfl (Nat.le_of_ble_eq_true rfl) ?_
  rintro _ _ ⟨rfl, rfl⟩
  rw [decide_eq_false hx]
  refine rn_if_ne (tgt := 13) dX12_appendCharacter_8 (by decide) (fun c8 => ?_) (fun c8 => ?_)
  · exact absurd (show bI false = 0 from rfl) c8
  · refine rn_iconst (v := (-1)) dX12_appendCharacter_11 (by decide) ?_
    refine rn_iret dX12_appendCharacter_12 rfl ?_
    exact ⟨rfl, rfl⟩
theorem cm_appendFull (g : GG) (f : Mm) {P : PS} {H : List PS} {T : List Nat} {x : Int32} (hI : MI f P H T) (hx : nI 0 ≤ x ∧ x ≤ nI 255) (hT0 : T.length = 160) : Ct g MX12_appendCharacter [.ref 75, .int x] f 0 0 (fun r f' => f = f' ∧ r = some (.int (-3))) := by
  refine Ct.of ok_MX12_appendCharacter (Nat.le_of_ble_eq_true rfl) ?_
  change Wp g MX12_appendCharacter 0 [some (.ref 75), some (.int x)] [] f 0 0 _
  obtain ⟨wi, cv, s, pr, ⟨hM, hs, hP, hm⟩, hp, h2, hl, hPS, hT, h4⟩ := hI
  rw [hT0] at h4
  refine rn_iload_n dX12_appendCharacter_0 rfl ?_
  refine rn_iconst (v := nI 0) dX12_appendCharacter_1 (by decide) ?_
  refine rn_sipush (v := nI 255) dX12_appendCharacter_2 (by decide) ?_
  refine rn_callS dX12_appendCharacter_5 lmX12_72 ⟨Nat.le_of_ble_eq_true rfl, Nat.le_of_ble_eq_true rfl⟩ (cm_in g f x (nI 0) (nI 255)) rfl rfl (Nat.le_of_ble_eq_true rfl) ?_
  rintro _ _ ⟨rfl, rfl⟩
  rw [decide_eq_true hx]
  refine rn_if_ne (tgt := 13) dX12_appendCharacter_8 (by decide) (fun c8 => ?_) (fun c8 => ?_)
  · refine rn_aload_n dX12_appendCharacter_13 rfl ?_
    refine rn_get dX12_appendCharacter_14 lfX12_156 hM rfl ?_
    refine rn_sipush (v := nI 160) dX12_appendCharacter_17 (by decide) ?_
    rw [h4]
    refine rn_icmp_ne (tgt := 26) dX12_appendCharacter_20 (by decide) (fun c20 => ?_) (fun c20 => ?_)
    · exact absurd rfl c20
    · refine rn_bipush (v := (-3)) dX12_appendCharacter_23 (by decide) ?_
      refine rn_iret dX12_appendCharacter_25 rfl ?_
      exact ⟨rfl, rfl⟩
  · exact absurd c8 (by decide)
theorem nar_by : ∀ c, c < 256 → vp_nar .byte (nI c).toInt8.toInt32 = vp_nar .byte (nI c) := by decide +kernel
theorem cm_append (g : GG) (f : Mm) {P : PS} {H : List PS} {T : List Nat} {c : Nat} (hI : MI f P H T) (hc : c < 256) (hT0 : T.length < 160) : Ct g MX12_appendCharacter [.ref 75, .int (nI c)] f 0 0 (fun r f' => (∀ j, j < 75 → f' j = f j) ∧ MI f' P H (T ++ [c]) ∧ r = some (.int (nI (T.length + 1)))) := by
  refine Ct.of ok_MX12_appendCharacter (Nat.le_of_ble_eq_true rfl) ?_
  change Wp g MX12_appendCharacter 0 [some (.ref 75), some (.int (nI c))] [] f 0 0 _
  obtain ⟨wi, cv, s, pr, ⟨hM, hs, hP, hm⟩, hp, h2, hl, hPS, hT, h4⟩ := hI
  have d1 : decide (nI 0 ≤ nI c ∧ nI c ≤ nI 255) = true := decide_eq_true ⟨nI_le (by omega) (by omega), nI_le (by omega) (by decide)⟩
  obtain ⟨b, hb, hb1, hb2⟩ := id hT
  have h36 : Wp g MX12_appendCharacter 36 [some (.ref 75), some (.int (nI c))] [.int (nI c).toInt8.toInt32, .int (nI T.length), .ref 78] f 0 0 (fun r f' => (∀ j, j < 75 → f' j = f j) ∧ MI f' P H (T ++ [c]) ∧ r = some (.int (nI (T.length + 1)))) := by
    refine rn_bast dX12_appendCharacter_36 hb (vp_in_nI hT0 (by decide)) ?_
    refine Wp.gen (e := .inl (2, 160, .inl (upd b (nI T.length).toNatClampNeg (vp_nar .byte (nI c).toInt8.toInt32)))) (fun f1 k1 o1 => ?_)
    have o2 := (k1 75 (by decide)).trans hM
    refine rn_aload_n dX12_appendCharacter_37 rfl ?_
    refine rn_dup dX12_appendCharacter_38 rfl ?_
    refine rn_get dX12_appendCharacter_39 lfX12_156 o2 rfl ?_
    refine rn_iconst (v := nI 1) dX12_appendCharacter_42 (by decide) ?_
    refine rn_iadd dX12_appendCharacter_43 ?_
    rw [h4, nI_add]
    refine rn_put dX12_appendCharacter_44 lpX12_156 o2 rfl rfl (Nat.le_of_ble_eq_true rfl) ?_
    rw [ms4]
    refine Wp.gen (e := MO (upd wi 4 (nI (T.length + 1))) cv) (fun f2 k2 o2 => ?_)
    refine rn_aload_n dX12_appendCharacter_47 rfl ?_
    refine rn_get dX12_appendCharacter_48 lfX12_156 o2 rfl ?_
    rw [upd_eq]
    refine rn_iret dX12_appendCharacter_51 rfl ?_
    refine ⟨fun j hj => (k2 j (by omega)).trans (k1 j (by omega)), ⟨_, cv, s, pr, ⟨o2, hs.keep ((k2 76 (by decide)).trans (k1 76 (by decide))), hP, hm.keep (fun j a b => (k2 j (by omega)).trans (k1 j (by omega)))⟩, hp.keep ((k2 77 (by decide)).trans (k1 77 (by decide))), (upd_ne (by decide)).trans h2, hl, hPS, ⟨_, (k2 78 (by decide)).trans o1, by rw [List.length_append, List.length_singleton]; omega, fun i c' hi => ?_⟩, by rw [upd_eq, List.length_append, List.length_singleton]⟩, rfl⟩
    rw [nI_clamp (by omega)]
    rcases get_push hi with ⟨a, b2⟩ | ⟨a, b2⟩
    · rw [upd_ne (by omega)]; exact hb2 i c' b2
    · rw [a, b2, upd_eq]; exact ⟨hc, nar_by c hc⟩
  refine rn_iload_n dX12_appendCharacter_0 rfl ?_
  refine rn_iconst (v := nI 0) dX12_appendCharacter_1 (by decide) ?_
  refine rn_sipush (v := nI 255) dX12_appendCharacter_2 (by decide) ?_
  refine rn_callS dX12_appendCharacter_5 lmX12_72 ⟨Nat.le_of_ble_eq_true rfl, Nat.le_of_ble_eq_true rfl⟩ (cm_in g f (nI c) (nI 0) (nI 255)) rfl rfl (Nat.le_of_ble_eq_true rfl) ?_
  rintro _ _ ⟨rfl, rfl⟩
  rw [d1]
  refine rn_if_ne (tgt := 13) dX12_appendCharacter_8 (by decide) (fun c8 => ?_) (fun c8 => ?_)
  · refine rn_aload_n dX12_appendCharacter_13 rfl ?_
    refine rn_get dX12_appendCharacter_14 lfX12_156 hM rfl ?_
    refine rn_sipush (v := nI 160) dX12_appendCharacter_17 (by decide) ?_
    rw [h4]
    refine rn_icmp_ne (tgt := 26) dX12_appendCharacter_20 (by decide) (fun c20 => ?_) (fun c20 => ?_)
    · refine rn_aload_n dX12_appendCharacter_26 rfl ?_
      refine rn_get dX12_appendCharacter_27 lfX12_16 hM rfl ?_
      refine rn_aload_n dX12_appendCharacter_30 rfl ?_
      refine rn_get dX12_appendCharacter_31 lfX12_156 hM rfl ?_
      rw [h4]
      refine rn_iload_n dX12_appendCharacter_34 rfl ?_
      refine rn_i2b dX12_appendCharacter_35 ?_
      exact h36
    · exact absurd ((nI_eq (b := 160) (by omega) (by decide)).mp c20) (by omega)
  · exact absurd c8 (by decide)
theorem cm_clearText (g : GG) (f : Mm) {P : PS} {H : List PS} {T : List Nat} (hI : MI f P H T) : Ct g MX12_clearText [.ref 75] f 0 0 (fun r f' => (∀ j, j < 75 → f' j = f j) ∧ MI f' P H [] ∧ r = some (.int (nI T.length))) := by
  refine Ct.of ok_MX12_clearText (Nat.le_of_ble_eq_true rfl) ?_
  change Wp g MX12_clearText 0 [some (.ref 75), none] [] f 0 0 _
  obtain ⟨wi, cv, s, pr, ⟨hM, hs, hP, hm⟩, hp, h2, hl, hPS, hT, h4⟩ := hI
  obtain ⟨b, hb, hb1, hb2⟩ := id hT
  refine rn_aload_n dX12_clearText_0 rfl ?_
  refine rn_get dX12_clearText_1 lfX12_156 hM rfl ?_
  rw [h4]
  refine rn_istore_n dX12_clearText_4 (Nat.le_of_ble_eq_true rfl) rfl ?_
  refine rn_aload_n dX12_clearText_5 rfl ?_
  refine rn_iconst (v := nI 0) dX12_clearText_6 (by decide) ?_
  refine rn_put dX12_clearText_7 lpX12_156 hM rfl rfl (Nat.le_of_ble_eq_true rfl) ?_
  rw [ms4]
  refine Wp.gen (e := MO (upd wi 4 (nI 0)) cv) (fun f1 k1 o1 => ?_)
  refine rn_iload_n dX12_clearText_10 rfl ?_
  refine rn_iret dX12_clearText_11 rfl ?_
  exact ⟨fun j hj => k1 j (by omega), ⟨_, cv, s, pr, ⟨o1, hs.keep (k1 76 (by decide)), hP, hm.keep (fun j a b => k1 j (by omega))⟩, hp.keep (k1 77 (by decide)), (upd_ne (by decide)).trans h2, hl, hPS, ⟨b, (k1 78 (by decide)).trans hb, Nat.zero_le _, fun i c h => by cases h⟩, upd_eq _ _ _⟩, rfl⟩
def aCol (P : PS) (x : Int32) : Int32 := if inR x (pW P * pH P) = true then (if pC P x.toNatClampNeg = -1 then -9 else pC P x.toNatClampNeg) else -1
theorem cm_colour (g : GG) (f : Mm) {P : PS} {H : List PS} {T : List Nat} (x : Int32) (hI : MI f P H T) (hV : VD P) : Ct g MX12_colour [.ref 75, .int x] f 0 0 (fun r f' => f = f' ∧ r = some (.int (aCol P x))) := by
  refine Ct.of ok_MX12_colour (Nat.le_of_ble_eq_true rfl) ?_
  change Wp g MX12_colour 0 [some (.ref 75), some (.int x)] [] f 0 0 _
  obtain ⟨wi, cv, s, hM, hs, hP⟩ := hI.ent
  obtain ⟨sb, hsb, hsbe⟩ := id hs
  have ha := hV.area
  cases hin : inR x (pW P * pH P) with
  | false =>
    refine rn_aload_n dX12_colour_0 rfl ?_
    refine rn_iload_n dX12_colour_1 rfl ?_
    refine rn_callV dX12_colour_2 lmX12_126 ⟨Nat.le_of_ble_eq_true rfl, Nat.le_of_ble_eq_true rfl⟩ (cm_isCell g f x hM hs hP hV) hM rfl rfl (Nat.le_of_ble_eq_true rfl) ?_
    rintro _ _ ⟨rfl, rfl⟩
    rw [hin]
    refine rn_if_ne (tgt := 12) dX12_colour_5 (by decide) (fun c5 => ?_) (fun c5 => ?_)
    · exact absurd (show bI false = 0 from rfl) c5
    · refine rn_iconst (v := (-1)) dX12_colour_8 (by decide) ?_
      refine rn_goto (tgt := 33) dX12_colour_9 (by decide) ?_
      refine rn_iret dX12_colour_33 rfl ?_
      exact ⟨rfl, by rw [aCol, hin]; rfl⟩
  | true =>
    obtain ⟨c, hc, rfl⟩ := (inR_iff (by omega)).mp hin
    refine rn_aload_n dX12_colour_0 rfl ?_
    refine rn_iload_n dX12_colour_1 rfl ?_
    refine rn_callV dX12_colour_2 lmX12_126 ⟨Nat.le_of_ble_eq_true rfl, Nat.le_of_ble_eq_true rfl⟩ (cm_isCell g f (nI c) hM hs hP hV) hM rfl rfl (Nat.le_of_ble_eq_true rfl) ?_
    rintro _ _ ⟨rfl, rfl⟩
    rw [hin]
    refine rn_if_ne (tgt := 12) dX12_colour_5 (by decide) (fun c5 => ?_) (fun c5 => ?_)
    · refine rn_aload_n dX12_colour_12 rfl ?_
      refine rn_iload_n dX12_colour_13 rfl ?_
      refine rn_callV dX12_colour_14 lmX12_76 ⟨Nat.le_of_ble_eq_true rfl, Nat.le_of_ble_eq_true rfl⟩ (cm_isOpen g f hM hs (show c < 36 by omega)) hM rfl rfl (Nat.le_of_ble_eq_true rfl) ?_
      rintro _ _ ⟨rfl, rfl⟩
      rw [hP.2.2.2.2.2.1 c hc]
      refine rn_if_eq (tgt := 31) dX12_colour_17 (by decide) (fun c17 => ?_) (fun c17 => ?_)
      · refine rn_bipush (v := (-9)) dX12_colour_31 (by decide) ?_
        refine rn_iret dX12_colour_33 rfl ?_
        have h1 := of_decide_eq_false (bI_0.mp c17)
        exact ⟨rfl, by rw [aCol, hin, if_pos rfl, nI_clamp (by omega), if_pos (Classical.not_not.mp h1)]⟩
      · refine rn_aload_n dX12_colour_20 rfl ?_
        refine rn_get dX12_colour_21 lfX12_7 hM rfl ?_
        refine rn_iconst (v := nI 5) dX12_colour_24 (by decide) ?_
        refine rn_iload_n dX12_colour_25 rfl ?_
        refine rn_iadd dX12_colour_26 ?_
        rw [nI_add]
        refine rn_iald dX12_colour_27 hsb (vp_in_nI (show 5 + c < 73 by omega) (by decide)) ?_
        rw [nI_clamp (by omega), hsbe _ (by omega), hP.2.2.2.2.2.1 c hc]
        refine rn_goto (tgt := 33) dX12_colour_28 (by decide) ?_
        refine rn_iret dX12_colour_33 rfl ?_
        have h1 := of_decide_eq_true (bI_n0.mp c17)
        exact ⟨rfl, by rw [aCol, hin, if_pos rfl, nI_clamp (by omega), if_neg h1]⟩
    · exact absurd c5 (by decide)
