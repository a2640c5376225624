-- what the Model keeps besides its state
def MSc (f : Mm) : Prop := (∃ F, AR f 79 9 F) ∧ (∃ l, PLm f l) ∧ MKar f ∧ (∃ L, AR f 91 32400 L) ∧ (∃ st, AZ f 92 2304 st) ∧ (∃ B, AR f 85 73 B) ∧ ∃ G, AR f 86 36 G
def MB (f : Mm) (wi : Nat → Int32) (cv : Int64) (s : Nat → Int32) (P : PS) : Prop := f 75 = some (MO wi cv) ∧ AR f 76 73 s ∧ SP s P ∧ MSc f
/-- nothing but what the Model works with has changed -/
def MR (f : Mm) (wi : Nat → Int32) (f' : Mm) : Prop := (∀ j, (j < 75 ∨ (75 < j ∧ j < 79) ∨ 92 < j) → f' j = f j) ∧ MSc f' ∧ ∃ w cv, f' 75 = some (MO w cv) ∧ w 2 = wi 2 ∧ w 4 = wi 4
def qOf (P : PS) (sh fr co cp : Nat → Nat) : SQ := (P, pl1 P sh fr co (pN P), co, cp)
/-- a problem as the calls make it -/
def VP (P : PS) (sh fr co cp : Nat → Nat) : Prop := VD P ∧ VN P sh fr co cp ∧ pMd P ≤ 1 ∧ pRu P ≤ 1
theorem VP.Q {P : PS} {sh fr co cp : Nat → Nat} (h : VP P sh fr co cp) : QV (qOf P sh fr co cp) := ⟨h.1, pl1_LSd h.1 h.2.1, ⟨sh, fr, h.2.1⟩, h.2.2.1, h.2.2.2⟩
theorem mW_ne {wi : Nat → Int32} {a b : Int32} {i : Nat} (h1 : i ≠ 6) (h2 : i ≠ 12) : mW wi a b i = wi i := by rw [mW, upd_ne h2, upd_ne h1]

theorem cm_begins (g : GG) (f : Mm) {wi s : Nat → Int32} {cv : Int64} {P : PS} {sh fr co cp : Nat → Nat} (hB : MB f wi cv s P) (hV : VP P sh fr co cp) : Ct g MX12_begins [.ref 75] f 0 0 (fun r f' => r = none ∧ (∀ j, j ≠ 75 → (j < 79 ∨ (84 < j ∧ j < 88) ∨ 90 < j) → f' j = f j) ∧ (∃ F', AR f' 79 9 F') ∧ ∃ w, CXm f' (qOf P sh fr co cp) w ∧ MKs f' (qOf P sh fr co cp) 0 w ∧ w 2 = wi 2 ∧ w 4 = wi 4) := by
  refine Ct.of ok_MX12_begins (Nat.le_of_ble_eq_true rfl) ?_
  change Wp g MX12_begins 0 [some (.ref 75), none] [] f 0 0 _
  obtain ⟨hM, hs, hP, ⟨F, hF⟩, ⟨l0, hL⟩, ⟨⟨U, hU⟩, ⟨V, hVr⟩, ⟨T, hT⟩, Y, hY⟩, -⟩ := hB
  have v8 := hV.1.2.2.2.2
  refine rn_aload_n dX12_begins_0 rfl ?_
  refine rn_callV dX12_begins_1 lmX12_120 ⟨Nat.le_of_ble_eq_true rfl, Nat.le_of_ble_eq_true rfl⟩ (cm_findsPlacements g f hM hs hF hL hP hV.1 hV.2.1) hM rfl rfl (Nat.le_of_ble_eq_true rfl) ?_
  rintro _ f1 ⟨rfl, k1, hL1, hF1, a1, o1⟩
  obtain ⟨F1, hF1⟩ := hF1
  obtain ⟨sb, hsb, hsbe⟩ := id hs
  obtain ⟨vb, hvb, hvbe⟩ := id hVr
  obtain ⟨tb, htb, htbe⟩ := id hT
  obtain ⟨yb, hyb, hybe⟩ := id hY
  have es4 : sb 4 = nI (pN P) := (hsbe 4 (by omega)).trans hP.2.2.2.2.1
  have loopB : ∀ (d c : Nat) (f2 : Mm) (b : Nat → Int32), pN P - c = d → c ≤ pN P → (∀ j, j ≠ 75 → j ≠ 88 → j ≠ 89 → j ≠ 90 → f2 j = f1 j) → f2 75 = some (MO (upd (upd (upd (upd (mW wi a1 (nI (pl1 P sh fr co (pN P)).length)) 26 (nI 0)) 30 (nI 0)) 31 (nI 0)) 32 (nI 0)) (lN 0)) → (∃ V, AR f2 88 37 V ∧ V 0 = nI 0) → AL f2 89 4 (fun _ => 0) → f2 90 = some (.inl (0, 8, .inl b)) → (∀ i, i < c → b i = nI (cp i)) → Wp g MX12_begins 58 [some (.ref 75), some (.int (nI c))] [] f2 0 0 (fun r f' => r = none ∧ (∀ j, j ≠ 75 → (j < 79 ∨ (84 < j ∧ j < 88) ∨ 90 < j) → f' j = f j) ∧ (∃ F', AR f' 79 9 F') ∧ ∃ w, CXm f' (qOf P sh fr co cp) w ∧ MKs f' (qOf P sh fr co cp) 0 w ∧ w 2 = wi 2 ∧ w 4 = wi 4) := by
    intro d
    induction d using Nat.strongRecOn with
    | ind d ih =>
      intro c f2 b hd hc k2 o2 hV2 hT2 hb hbe
      have hs2 : AR f2 76 73 s := (hs.keep (k1 76 (by decide) (by omega))).keep (k2 76 (by decide) (by decide) (by decide) (by decide))
      have hsb2 : f2 76 = some (.inl (0, 73, .inl sb)) := (k2 76 (by decide) (by decide) (by decide) (by decide)).trans ((k1 76 (by decide) (by omega)).trans hsb)
      by_cases hlt : c < pN P
      · have ex : s (41 + 4 * c + 3) = nI (cp c) := ((hP.2.2.2.2.2.2 c hlt).2.2.2).trans (hV.2.1 c hlt).2.2.2.2.2.2.1
        refine rn_iload_n dX12_begins_58 rfl ?_
        refine rn_aload_n dX12_begins_59 rfl ?_
        refine rn_get dX12_begins_60 lfX12_7 o2 rfl ?_
        refine rn_iconst (v := nI 4) dX12_begins_63 (by decide) ?_
        refine rn_iald dX12_begins_64 hsb2 (vp_in_nI (show 4 < 73 by omega) (by decide)) ?_
        rw [nI_clamp (by decide), es4]
        refine rn_icmp_ge (tgt := 86) dX12_begins_65 (by decide) (fun c65 => ?_) (fun c65 => ?_)
        · exact absurd (ge_ex c65 (by omega) (by omega)) (by omega)
        · refine rn_aload_n dX12_begins_68 rfl ?_
          refine rn_get dX12_begins_69 lfX12_54 o2 rfl ?_
          refine rn_iload_n dX12_begins_72 rfl ?_
          refine rn_aload_n dX12_begins_73 rfl ?_
          refine rn_iload_n dX12_begins_74 rfl ?_
          refine rn_iconst (v := nI 3) dX12_begins_75 (by decide) ?_
          refine rn_callV dX12_begins_76 lmX12_95 ⟨Nat.le_of_ble_eq_true rfl, Nat.le_of_ble_eq_true rfl⟩ (cm_its g f2 o2 hs2 (show c < 8 by omega) (show 3 < 4 by decide)) o2 rfl rfl (Nat.le_of_ble_eq_true rfl) ?_
          rintro _ _ ⟨rfl, rfl⟩
          rw [ex]
          refine rn_iast dX12_begins_79 hb (vp_in_nI (show c < 8 by omega) (by decide)) ?_
          refine rn_iinc (v := nI (c + 1)) dX12_begins_80 rfl (nI_1 c) (Nat.le_of_ble_eq_true rfl) rfl ?_
          refine rn_goto (tgt := 58) dX12_begins_83 (by decide) ?_
          refine Wp.gen (e := .inl (0, 8, .inl (upd b (nI c).toNatClampNeg (nI (cp c))))) (fun f3 k3 o3 => ?_)
          obtain ⟨V2, hV2a, hV2b⟩ := hV2
          refine ih _ (by omega) (c + 1) f3 _ rfl (by omega) (fun j x y z u => (k3 j u).trans (k2 j x y z u)) ((k3 75 (by decide)).trans o2) ⟨V2, hV2a.keep (k3 88 (by decide)), hV2b⟩ (hT2.keep (k3 89 (by decide))) o3 (fun i hi => ?_)
          rw [nI_clamp (by omega)]
          by_cases e : i = c
          · rw [e, upd_eq]
          · rw [upd_ne e]; exact hbe i (by omega)
      · have hce : c = pN P := by omega
        subst hce
        refine rn_iload_n dX12_begins_58 rfl ?_
        refine rn_aload_n dX12_begins_59 rfl ?_
        refine rn_get dX12_begins_60 lfX12_7 o2 rfl ?_
        refine rn_iconst (v := nI 4) dX12_begins_63 (by decide) ?_
        refine rn_iald dX12_begins_64 hsb2 (vp_in_nI (show 4 < 73 by omega) (by decide)) ?_
        rw [nI_clamp (by decide), es4]
        refine rn_icmp_ge (tgt := 86) dX12_begins_65 (by decide) (fun c65 => ?_) (fun c65 => ?_)
        · refine rn_aload_n dX12_begins_86 rfl ?_
          refine rn_iconst (v := nI 0) dX12_begins_87 (by decide) ?_
          refine rn_put dX12_begins_88 lpX12_230 o2 rfl rfl (Nat.le_of_ble_eq_true rfl) ?_
          rw [ms33]
          refine Wp.gen (e := MO (upd (upd (upd (upd (upd (mW wi a1 (nI (pl1 P sh fr co (pN P)).length)) 26 (nI 0)) 30 (nI 0)) 31 (nI 0)) 32 (nI 0)) 33 (nI 0)) (lN 0)) (fun f3 k3 o3 => ?_)
          refine rn_aload_n dX12_begins_91 rfl ?_
          refine rn_iconst (v := nI 1) dX12_begins_92 (by decide) ?_
          refine rn_put dX12_begins_93 lpX12_233 o3 rfl rfl (Nat.le_of_ble_eq_true rfl) ?_
          rw [ms34]
          refine Wp.gen (e := MO (upd (upd (upd (upd (upd (upd (mW wi a1 (nI (pl1 P sh fr co (pN P)).length)) 26 (nI 0)) 30 (nI 0)) 31 (nI 0)) 32 (nI 0)) 33 (nI 0)) 34 (nI 1)) (lN 0)) (fun f4 k4 o4 => ?_)
          have k5 : ∀ j, j ≠ 75 → f4 j = f2 j := fun j h => (k4 j h).trans (k3 j h)
          refine rn_vret dX12_begins_96 rfl ?_
          obtain ⟨V2, hV2a, hV2b⟩ := hV2
          refine ⟨rfl, fun j a b => (k5 j a).trans ((k2 j a (by omega) (by omega) (by omega)).trans (k1 j a (by omega))), ⟨F1, hF1.keep ((k5 79 (by decide)).trans (k2 79 (by decide) (by decide) (by decide) (by decide)))⟩, _, ⟨⟨s, hs2.keep (k5 76 (by decide)), hP⟩, hL1.keep (fun k a b => (k5 k (by omega)).trans (k2 k (by omega) (by omega) (by omega) (by omega))), ?_⟩, ⟨?_, ?_, ?_, Or.inl ⟨rfl, ?_, o4, ?_, ?_, ⟨U, hU.keep ((k5 87 (by decide)).trans ((k2 87 (by decide) (by decide) (by decide) (by decide)).trans (k1 87 (by decide) (by omega)))), fun j k h => by cases h⟩, ⟨V2, hV2a.keep (k5 88 (by decide)), hV2b⟩, hT2.keep (k5 89 (by decide)), b, ⟨b, (k5 90 (by decide)).trans hb, fun _ _ => rfl⟩, hbe⟩⟩, ?_, ?_⟩
          · simp only [upd, mW]; rfl
          · simp only [upd, mW]; rfl
          · simp only [upd, mW]; rfl
          · simp only [upd, mW]; rfl
          · simp only [upd, mW]; rfl
          · simp only [upd, mW]; rfl
          · simp only [upd, mW]; rfl
          · simp only [upd, mW]; rfl
          · simp only [upd, mW]; rfl
        · exact absurd (ge_in c65 (by omega)) (by omega)
  have loopA : ∀ (d c : Nat) (f2 : Mm) (b : Nat → Int64), 4 - c = d → c ≤ 4 → (∀ j, j ≠ 75 → j ≠ 88 → j ≠ 89 → j ≠ 90 → f2 j = f1 j) → f2 75 = some (MO (upd (upd (upd (upd (mW wi a1 (nI (pl1 P sh fr co (pN P)).length)) 26 (nI 0)) 30 (nI 0)) 31 (nI 0)) 32 (nI 0)) (lN 0)) → (∃ V, AR f2 88 37 V ∧ V 0 = nI 0) → f2 90 = f1 90 → f2 89 = some (.inl (1, 4, .inr (.inl b))) → (∀ i, i < c → b i = lN 0) → Wp g MX12_begins 38 [some (.ref 75), some (.int (nI c))] [] f2 0 0 (fun r f' => r = none ∧ (∀ j, j ≠ 75 → (j < 79 ∨ (84 < j ∧ j < 88) ∨ 90 < j) → f' j = f j) ∧ (∃ F', AR f' 79 9 F') ∧ ∃ w, CXm f' (qOf P sh fr co cp) w ∧ MKs f' (qOf P sh fr co cp) 0 w ∧ w 2 = wi 2 ∧ w 4 = wi 4) := by
    intro d
    induction d using Nat.strongRecOn with
    | ind d ih =>
      intro c f2 b hd hc k2 o2 hV2 h90 hb hbe
      by_cases hlt : c < 4
      · refine rn_iload_n dX12_begins_38 rfl ?_
        refine rn_iconst (v := nI 4) dX12_begins_39 (by decide) ?_
        refine rn_icmp_ge (tgt := 56) dX12_begins_40 (by decide) (fun c40 => ?_) (fun c40 => ?_)
        · exact absurd (ge_ex c40 (by omega) (by decide)) (by omega)
        · refine rn_aload_n dX12_begins_43 rfl ?_
          refine rn_get dX12_begins_44 lfX12_51 o2 rfl ?_
          refine rn_iload_n dX12_begins_47 rfl ?_
          refine rn_lconst (v := 0) dX12_begins_48 (by decide) ?_
          refine rn_last dX12_begins_49 hb (vp_in_nI hlt (by decide)) ?_
          refine rn_iinc (v := nI (c + 1)) dX12_begins_50 rfl (nI_1 c) (Nat.le_of_ble_eq_true rfl) rfl ?_
          refine rn_goto (tgt := 38) dX12_begins_53 (by decide) ?_
          refine Wp.gen (e := .inl (1, 4, .inr (.inl (vp_updL b (nI c).toNatClampNeg 0)))) (fun f3 k3 o3 => ?_)
          obtain ⟨V2, hV2a, hV2b⟩ := hV2
          refine ih _ (by omega) (c + 1) f3 _ rfl (by omega) (fun j x y z u => (k3 j z).trans (k2 j x y z u)) ((k3 75 (by decide)).trans o2) ⟨V2, hV2a.keep (k3 88 (by decide)), hV2b⟩ ((k3 90 (by decide)).trans h90) o3 (fun i hi => ?_)
          rw [nI_clamp (by omega)]
          by_cases e : i = c
          · rw [e]; simp [vp_updL]; rfl
          · simp [vp_updL, e]; exact hbe i (by omega)
      · have hce : c = 4 := by omega
        subst hce
        refine rn_iload_n dX12_begins_38 rfl ?_
        refine rn_iconst (v := nI 4) dX12_begins_39 (by decide) ?_
        refine rn_icmp_ge (tgt := 56) dX12_begins_40 (by decide) (fun c40 => ?_) (fun c40 => ?_)
        · refine rn_iconst (v := nI 0) dX12_begins_56 (by decide) ?_
          refine rn_istore_n dX12_begins_57 (Nat.le_of_ble_eq_true rfl) rfl ?_
          exact loopB _ 0 f2 yb rfl (by omega) k2 o2 hV2 ⟨b, hb, hbe⟩ (h90.trans ((k1 90 (by decide) (by omega)).trans hyb)) (fun i hi => by omega)
        · exact absurd (ge_in c40 (by decide)) (by decide)
  refine rn_aload_n dX12_begins_4 rfl ?_
  refine rn_iconst (v := nI 0) dX12_begins_5 (by decide) ?_
  refine rn_put dX12_begins_6 lpX12_218 o1 rfl rfl (Nat.le_of_ble_eq_true rfl) ?_
  rw [ms26]
  refine Wp.gen (e := MO (upd (mW wi a1 (nI (pl1 P sh fr co (pN P)).length)) 26 (nI 0)) cv) (fun f2 k2 o2 => ?_)
  refine rn_aload_n dX12_begins_9 rfl ?_
  refine rn_lconst (v := 0) dX12_begins_10 (by decide) ?_
  refine rn_put dX12_begins_11 lpX12_210 o2 rfl rfl (Nat.le_of_ble_eq_true rfl) ?_
  rw [ms27]
  refine Wp.gen (e := MO (upd (mW wi a1 (nI (pl1 P sh fr co (pN P)).length)) 26 (nI 0)) (lN 0)) (fun f3 k3 o3 => ?_)
  refine rn_aload_n dX12_begins_14 rfl ?_
  refine rn_iconst (v := nI 0) dX12_begins_15 (by decide) ?_
  refine rn_put dX12_begins_16 lpX12_221 o3 rfl rfl (Nat.le_of_ble_eq_true rfl) ?_
  rw [ms30]
  refine Wp.gen (e := MO (upd (upd (mW wi a1 (nI (pl1 P sh fr co (pN P)).length)) 26 (nI 0)) 30 (nI 0)) (lN 0)) (fun f4 k4 o4 => ?_)
  refine rn_aload_n dX12_begins_19 rfl ?_
  refine rn_iconst (v := nI 0) dX12_begins_20 (by decide) ?_
  refine rn_put dX12_begins_21 lpX12_224 o4 rfl rfl (Nat.le_of_ble_eq_true rfl) ?_
  rw [ms31]
  refine Wp.gen (e := MO (upd (upd (upd (mW wi a1 (nI (pl1 P sh fr co (pN P)).length)) 26 (nI 0)) 30 (nI 0)) 31 (nI 0)) (lN 0)) (fun f5 k5 o5 => ?_)
  refine rn_aload_n dX12_begins_24 rfl ?_
  refine rn_iconst (v := nI 0) dX12_begins_25 (by decide) ?_
  refine rn_put dX12_begins_26 lpX12_227 o5 rfl rfl (Nat.le_of_ble_eq_true rfl) ?_
  rw [ms32]
  refine Wp.gen (e := MO (upd (upd (upd (upd (mW wi a1 (nI (pl1 P sh fr co (pN P)).length)) 26 (nI 0)) 30 (nI 0)) 31 (nI 0)) 32 (nI 0)) (lN 0)) (fun f6 k6 o6 => ?_)
  have k7 : ∀ j, j ≠ 75 → f6 j = f1 j := fun j h => (k6 j h).trans ((k5 j h).trans ((k4 j h).trans ((k3 j h).trans (k2 j h))))
  refine rn_aload_n dX12_begins_29 rfl ?_
  refine rn_get dX12_begins_30 lfX12_48 o6 rfl ?_
  refine rn_iconst (v := nI 0) dX12_begins_33 (by decide) ?_
  refine rn_iconst (v := nI 0) dX12_begins_34 (by decide) ?_
  refine rn_iast dX12_begins_35 ((k7 88 (by decide)).trans ((k1 88 (by decide) (by omega)).trans hvb)) (vp_in_nI (show 0 < 37 by omega) (by decide)) ?_
  refine Wp.gen (e := .inl (0, 37, .inl (upd vb (nI 0).toNatClampNeg (nI 0)))) (fun f8 k8 o8 => ?_)
  refine rn_iconst (v := nI 0) dX12_begins_36 (by decide) ?_
  refine rn_istore_n dX12_begins_37 (Nat.le_of_ble_eq_true rfl) rfl ?_
  exact loopA 4 0 f8 tb rfl (by omega) (fun j a b c d => (k8 j b).trans (k7 j a)) ((k8 75 (by decide)).trans o6) ⟨upd vb 0 (nI 0), ⟨_, o8, fun i hi => by rw [nI_clamp (by omega)]⟩, upd_eq _ _ _⟩ ((k8 90 (by decide)).trans (k7 90 (by decide))) ((k8 89 (by decide)).trans ((k7 89 (by decide)).trans ((k1 89 (by decide) (by omega)).trans htb))) (fun i hi => by omega)
