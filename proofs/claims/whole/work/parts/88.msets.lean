def TXm (f : Mm) (T : List Nat) : Prop := ∃ b : Nat → Int32, f 78 = some (.inl (2, 160, .inl b)) ∧ T.length ≤ 160 ∧ ∀ i c, T[i]? = some c → c < 256 ∧ b i = vp_nar .byte (nI c)
theorem TXm.keep {f f' : Mm} {T : List Nat} (h : TXm f T) (e : f' 78 = f 78) : TXm f' T := by
  obtain ⟨b, h1, h2⟩ := h
  exact ⟨b, e.trans h1, h2⟩
theorem MSc.keep {f f' : Mm} (h : MSc f) (e : ∀ j, 79 ≤ j → j ≤ 92 → f' j = f j) : MSc f' := by
  obtain ⟨⟨F, h1⟩, ⟨l, h2⟩, h3, ⟨L, h4⟩, ⟨st, h5⟩, ⟨B, h6⟩, G, h7⟩ := h
  exact ⟨⟨F, h1.keep (e 79 (by omega) (by omega))⟩, ⟨l, h2.keep (fun k a b => e k (by omega) (by omega))⟩, h3.keep (fun k a b => e k (by omega) (by omega)), ⟨L, h4.keep (e 91 (by omega) (by omega))⟩, ⟨st, h5.keep (e 92 (by omega) (by omega))⟩, ⟨B, h6.keep (e 85 (by omega) (by omega))⟩, G, h7.keep (e 86 (by omega) (by omega))⟩
def MI (f : Mm) (P : PS) (H : List PS) (T : List Nat) : Prop := ∃ wi cv s pr, MB f wi cv s P ∧ AR f 77 438 pr ∧ wi 2 = nI H.length ∧ H.length ≤ 6 ∧ PSr pr H ∧ TXm f T ∧ wi 4 = nI T.length
theorem MI.keep {f f' : Mm} {P : PS} {H : List PS} {T : List Nat} (h : MI f P H T) (e : ∀ j, 75 ≤ j → j ≤ 92 → f' j = f j) : MI f' P H T := by
  obtain ⟨wi, cv, s, pr, ⟨h1, h2, h3, h4⟩, h5, h6, h7, h8, h9, h10⟩ := h
  exact ⟨wi, cv, s, pr, ⟨(e 75 (by omega) (by omega)).trans h1, h2.keep (e 76 (by omega) (by omega)), h3, h4.keep (fun j a b => e j (by omega) b)⟩, h5.keep (e 77 (by omega) (by omega)), h6, h7, h8, h9.keep (e 78 (by omega) (by omega)), h10⟩
theorem MI_ro {f f' : Mm} {wi s pr : Nat → Int32} {cv : Int64} {P : PS} {H : List PS} {T : List Nat} (hB : MB f wi cv s P) (hp : AR f 77 438 pr) (h2 : wi 2 = nI H.length) (hl : H.length ≤ 6) (hPS : PSr pr H) (hT : TXm f T) (h4 : wi 4 = nI T.length) (h : MR f wi f') : (∀ j, j < 75 → f' j = f j) ∧ MI f' P H T := by
  obtain ⟨k1, hm, w, cv', o, e2, e4⟩ := h
  exact ⟨fun j hj => k1 j (by omega), w, cv', s, pr, ⟨o, hB.2.1.keep (k1 76 (by omega)), hB.2.2.1, hm⟩, hp.keep (k1 77 (by omega)), e2.trans h2, hl, hPS, hT.keep (k1 78 (by omega)), e4.trans h4⟩
theorem MI_set {f f' : Mm} {wi s' pr' : Nat → Int32} {cv : Int64} {P P' : PS} {H : List PS} {T : List Nat} (hm : MSc f) (e : ∀ j, 77 < j → f' j = f j) (o : f' 75 = some (MO (upd wi 2 (nI (psh H P).length)) cv)) (hs : AR f' 76 73 s') (hSP : SP s' P') (hp : AR f' 77 438 pr') (hPS : PSr pr' (psh H P)) (hl : H.length ≤ 6) (hT : TXm f T) (h4 : wi 4 = nI T.length) : MI f' P' (psh H P) T :=
  ⟨_, cv, s', pr', ⟨o, hs, hSP, hm.keep (fun j a b => e j (by omega))⟩, hp, upd_eq _ _ _, psh_le hl, hPS, hT.keep (e 78 (by omega)), (upd_ne (by decide)).trans h4⟩
-- changes of a problem
abbrev pCell (P : PS) (c : Nat) (v : Int32) : PS := (pW P, pH P, pMd P, pRu P, pN P, upd (pC P) c v, P.2.2.2.2.2.2)
abbrev pBoard (P : PS) (w h : Nat) : PS := (w, h, pMd P, pRu P, pN P, fun _ => 0, P.2.2.2.2.2.2)
abbrev pMode (P : PS) (m : Nat) : PS := (pW P, pH P, m, pRu P, pN P, P.2.2.2.2.2)
abbrev pRule (P : PS) (m : Nat) : PS := (pW P, pH P, pMd P, m, pN P, P.2.2.2.2.2)
abbrev pCop (P : PS) (p : Nat) (v : Int32) : PS := (pW P, pH P, pMd P, pRu P, pN P, pC P, pS P, pF P, pK P, upd (pX P) p v)
abbrev pAdd (P : PS) (s0 s1 s2 s3 : Int32) : PS := (pW P, pH P, pMd P, pRu P, pN P + 1, pC P, upd (pS P) (pN P) s0, upd (pF P) (pN P) s1, upd (pK P) (pN P) s2, upd (pX P) (pN P) s3)
def isDrop (P : PS) (p : Nat) (S : PS) : Prop := pW S = pW P ∧ pH S = pH P ∧ pMd S = pMd P ∧ pRu S = pRu P ∧ pN S = pN P - 1 ∧ pC S = pC P ∧ ∀ j, j < pN P - 1 → pS S j = drp (pS P) p j ∧ pF S j = drp (pF P) p j ∧ pK S j = drp (pK P) p j ∧ pX S j = drp (pX P) p j
theorem SP.cell {s : Nat → Int32} {P : PS} (h : SP s P) (hV : VD P) {c : Nat} (hc : c < pW P * pH P) (v : Int32) : SP (upd s (5 + c) v) (pCell P c v) := by
  obtain ⟨h1, h2, h3, h4, h5, h6, h7⟩ := h
  have ha := hV.area
  refine ⟨(upd_ne (by omega)).trans h1, (upd_ne (by omega)).trans h2, (upd_ne (by omega)).trans h3, (upd_ne (by omega)).trans h4, (upd_ne (by omega)).trans h5, fun i hi => ?_, fun i hi => ?_⟩
  · show upd s (5 + c) v (5 + i) = upd (pC P) c v i
    by_cases e : i = c
    · rw [e, upd_eq, upd_eq]
    · rw [upd_ne (by omega), upd_ne e]; exact h6 i hi
  · obtain ⟨a, b, c2, d⟩ := h7 i hi
    exact ⟨(upd_ne (by omega)).trans a, (upd_ne (by omega)).trans b, (upd_ne (by omega)).trans c2, (upd_ne (by omega)).trans d⟩
theorem SP.mode {s : Nat → Int32} {P : PS} (h : SP s P) (m : Nat) : SP (upd s 2 (nI m)) (pMode P m) := by
  obtain ⟨h1, h2, h3, h4, h5, h6, h7⟩ := h
  refine ⟨(upd_ne (by omega)).trans h1, (upd_ne (by omega)).trans h2, upd_eq _ _ _, (upd_ne (by omega)).trans h4, (upd_ne (by omega)).trans h5, fun i hi => (upd_ne (by omega)).trans (h6 i hi), fun i hi => ?_⟩
  obtain ⟨a, b, c2, d⟩ := h7 i hi
  exact ⟨(upd_ne (by omega)).trans a, (upd_ne (by omega)).trans b, (upd_ne (by omega)).trans c2, (upd_ne (by omega)).trans d⟩
theorem SP.rule {s : Nat → Int32} {P : PS} (h : SP s P) (m : Nat) : SP (upd s 3 (nI m)) (pRule P m) := by
  obtain ⟨h1, h2, h3, h4, h5, h6, h7⟩ := h
  refine ⟨(upd_ne (by omega)).trans h1, (upd_ne (by omega)).trans h2, (upd_ne (by omega)).trans h3, upd_eq _ _ _, (upd_ne (by omega)).trans h5, fun i hi => (upd_ne (by omega)).trans (h6 i hi), fun i hi => ?_⟩
  obtain ⟨a, b, c2, d⟩ := h7 i hi
  exact ⟨(upd_ne (by omega)).trans a, (upd_ne (by omega)).trans b, (upd_ne (by omega)).trans c2, (upd_ne (by omega)).trans d⟩
theorem SP.cop {s : Nat → Int32} {P : PS} (h : SP s P) (hV : VD P) (p : Nat) (v : Int32) : SP (upd s (41 + 4 * p + 3) v) (pCop P p v) := by
  obtain ⟨h1, h2, h3, h4, h5, h6, h7⟩ := h
  have ha := hV.area
  refine ⟨(upd_ne (by omega)).trans h1, (upd_ne (by omega)).trans h2, (upd_ne (by omega)).trans h3, (upd_ne (by omega)).trans h4, (upd_ne (by omega)).trans h5, fun i hi => (upd_ne (by have hi2 : i < pW P * pH P := hi; omega)).trans (h6 i hi), fun i hi => ?_⟩
  obtain ⟨a, b, c2, d⟩ := h7 i hi
  refine ⟨(upd_ne (by omega)).trans a, (upd_ne (by omega)).trans b, (upd_ne (by omega)).trans c2, ?_⟩
  show upd s (41 + 4 * p + 3) v (41 + 4 * i + 3) = upd (pX P) p v i
  by_cases e : i = p
  · rw [e, upd_eq, upd_eq]
  · rw [upd_ne (by omega), upd_ne e]; exact d
theorem rng {x : Int32} {a b : Nat} (hb : b < 2 ^ 30) (h : nI a ≤ x ∧ x ≤ nI b) (ha : a ≤ b) : ∃ k, a ≤ k ∧ k ≤ b ∧ x = nI k := by
  have h0 : ¬ x < 0 := fun q => by
    have h1 := Int32.le_iff_toInt_le.mp h.1
    have h2 := Int32.lt_iff_toInt_lt.mp q
    rw [nI_toInt (by omega)] at h1
    have hz : (0 : Int32).toInt = 0 := by decide
    omega
  obtain ⟨k, hk, rfl⟩ := nn_nI h0
  exact ⟨k, (nI_leI (by omega) hk).mp h.1, (nI_leI hk (by omega)).mp h.2, rfl⟩
theorem cm_sets (g : GG) (f : Mm) {P P' : PS} {H : List PS} {T : List Nat} {a : Nat} {was : Int32} (v : Int32) (hI : MI f P H T) (hV : VD P) (ha : a < 73) (hSP : ∀ s, SP s P → SP (upd s a v) P') (hwas : ∀ s, SP s P → s a = was) : Ct g MX12_sets [.ref 75, .int (nI a), .int v, .int (nI 1)] f 0 0 (fun r f' => (∀ j, j < 75 → f' j = f j) ∧ MI f' P' (psh H P) T ∧ r = some (.int was)) := by
  refine Ct.of ok_MX12_sets (Nat.le_of_ble_eq_true rfl) ?_
  change Wp g MX12_sets 0 [some (.ref 75), some (.int (nI a)), some (.int v), some (.int (nI 1)), none] [] f 0 0 _
  obtain ⟨wi, cv, s, pr, ⟨hM, hs, hP, hm⟩, hp, h2, hl, hPS, hT, h4⟩ := hI
  refine rn_iload_n dX12_sets_0 rfl ?_
  refine rn_if_ne (tgt := 6) dX12_sets_1 (by decide) (fun c1 => ?_) (fun c1 => ?_)
  · refine rn_aload_n dX12_sets_6 rfl ?_
    refine rn_callV dX12_sets_7 lmX12_123 ⟨Nat.le_of_ble_eq_true rfl, Nat.le_of_ble_eq_true rfl⟩ (cm_note g f hM hs hp h2 hl hPS hP hV) hM rfl rfl (Nat.le_of_ble_eq_true rfl) ?_
    rintro _ f1 ⟨rfl, k1, o1, pr', hp', hPS'⟩
    have hs1 := hs.keep (k1 76 (by decide) (by decide))
    obtain ⟨sb, hsb, hsbe⟩ := id hs1
    refine rn_aload_n dX12_sets_10 rfl ?_
    refine rn_get dX12_sets_11 lfX12_7 o1 rfl ?_
    refine rn_iload_n dX12_sets_14 rfl ?_
    refine rn_iald dX12_sets_15 hsb (vp_in_nI ha (by decide)) ?_
    rw [nI_clamp (by omega), hsbe a ha, hwas s hP]
    refine rn_istore dX12_sets_16 (Nat.le_of_ble_eq_true rfl) rfl ?_
    refine rn_aload_n dX12_sets_18 rfl ?_
    refine rn_get dX12_sets_19 lfX12_7 o1 rfl ?_
    refine rn_iload_n dX12_sets_22 rfl ?_
    refine rn_iload_n dX12_sets_23 rfl ?_
    refine rn_iast dX12_sets_24 hsb (vp_in_nI ha (by decide)) ?_
    refine Wp.gen (e := .inl (0, 73, .inl (upd sb (nI a).toNatClampNeg v))) (fun f2 k2 o2 => ?_)
    refine rn_iload dX12_sets_25 rfl ?_
    refine rn_iret dX12_sets_27 rfl ?_
    refine ⟨fun j hj => (k2 j (by omega)).trans (k1 j (by omega) (by omega)), MI_set (s' := upd s a v) hm (fun j hj => (k2 j (by omega)).trans (k1 j (by omega) (by omega))) ((k2 75 (by decide)).trans o1) ⟨_, o2, fun i hi => ?_⟩ (hSP s hP) (hp'.keep (k2 77 (by decide))) hPS' hl hT h4, rfl⟩
    rw [nI_clamp (by omega)]
    by_cases e : i = a
    · rw [e, upd_eq, upd_eq]
    · rw [upd_ne e, upd_ne e]; exact hsbe i hi
  · exact absurd c1 (by decide)
theorem cm_setsNo (g : GG) (f : Mm) {wi : Nat → Int32} {cv : Int64} (a v : Int32) (hM : f 75 = some (MO wi cv)) : Ct g MX12_sets [.ref 75, .int a, .int v, .int (nI 0)] f 0 0 (fun r f' => f = f' ∧ r = some (.int (-1))) := by
  refine Ct.of ok_MX12_sets (Nat.le_of_ble_eq_true rfl) ?_
  change Wp g MX12_sets 0 [some (.ref 75), some (.int a), some (.int v), some (.int (nI 0)), none] [] f 0 0 _
  refine rn_iload_n dX12_sets_0 rfl ?_
  refine rn_if_ne (tgt := 6) dX12_sets_1 (by decide) (fun c1 => ?_) (fun c1 => ?_)
  · exact absurd (show nI 0 = 0 from rfl) c1
  · refine rn_iconst (v := (-1)) dX12_sets_4 (by decide) ?_
    refine rn_iret dX12_sets_5 rfl ?_
    exact ⟨rfl, rfl⟩
theorem MI.ent {f : Mm} {P : PS} {H : List PS} {T : List Nat} (h : MI f P H T) : ∃ wi cv s, f 75 = some (MO wi cv) ∧ AR f 76 73 s ∧ SP s P := by
  obtain ⟨wi, cv, s, pr, ⟨h1, h2, h3, h4⟩, -⟩ := h
  exact ⟨wi, cv, s, h1, h2, h3⟩
theorem cm_setMode (g : GG) (f : Mm) {P : PS} {H : List PS} {T : List Nat} {m : Nat} (hI : MI f P H T) (hV : VD P) (hm : m ≤ 1) : Ct g MX12_setMode [.ref 75, .int (nI m)] f 0 0 (fun r f' => (∀ j, j < 75 → f' j = f j) ∧ MI f' (pMode P m) (psh H P) T ∧ r = some (.int (nI (pMd P)))) := by
  refine Ct.of ok_MX12_setMode (Nat.le_of_ble_eq_true rfl) ?_
  change Wp g MX12_setMode 0 [some (.ref 75), some (.int (nI m))] [] f 0 0 _
  obtain ⟨wi, cv, s, hM, -, -⟩ := hI.ent
  have hd : decide (nI 0 ≤ nI m ∧ nI m ≤ nI 1) = true := decide_eq_true ⟨nI_le (by omega) (by omega), nI_le hm (by decide)⟩
  refine rn_aload_n dX12_setMode_0 rfl ?_
  refine rn_iconst (v := nI 2) dX12_setMode_1 (by decide) ?_
  refine rn_iload_n dX12_setMode_2 rfl ?_
  refine rn_iload_n dX12_setMode_3 rfl ?_
  refine rn_iconst (v := nI 0) dX12_setMode_4 (by decide) ?_
  refine rn_iconst (v := nI 1) dX12_setMode_5 (by decide) ?_
  refine rn_callS dX12_setMode_6 lmX12_72 ⟨Nat.le_of_ble_eq_true rfl, Nat.le_of_ble_eq_true rfl⟩ (cm_in g f (nI m) (nI 0) (nI 1)) rfl rfl (Nat.le_of_ble_eq_true rfl) ?_
  rintro _ _ ⟨rfl, rfl⟩
  rw [hd]
  refine rn_callV dX12_setMode_9 lmX12_142 ⟨Nat.le_of_ble_eq_true rfl, Nat.le_of_ble_eq_true rfl⟩ (cm_sets g f (a := 2) (nI m) hI hV (by decide) (fun s h => h.mode m) (fun s h => h.2.2.1)) hM rfl rfl (Nat.le_of_ble_eq_true rfl) ?_
  rintro _ f1 ⟨k1, h1, rfl⟩
  refine rn_iret dX12_setMode_12 rfl ?_
  exact ⟨k1, h1, rfl⟩
theorem cm_setModeNo (g : GG) (f : Mm) {P : PS} {H : List PS} {T : List Nat} {x : Int32} (hI : MI f P H T) (hx : ¬ (nI 0 ≤ x ∧ x ≤ nI 1)) : Ct g MX12_setMode [.ref 75, .int x] f 0 0 (fun r f' => f = f' ∧ r = some (.int (-1))) := by
  refine Ct.of ok_MX12_setMode (Nat.le_of_ble_eq_true rfl) ?_
  change Wp g MX12_setMode 0 [some (.ref 75), some (.int x)] [] f 0 0 _
  obtain ⟨wi, cv, s, hM, -, -⟩ := hI.ent
  refine rn_aload_n dX12_setMode_0 rfl ?_
  refine rn_iconst (v := nI 2) dX12_setMode_1 (by decide) ?_
  refine rn_iload_n dX12_setMode_2 rfl ?_
  refine rn_iload_n dX12_setMode_3 rfl ?_
  refine rn_iconst (v := nI 0) dX12_setMode_4 (by decide) ?_
  refine rn_iconst (v := nI 1) dX12_setMode_5 (by decide) ?_
  refine rn_callS dX12_setMode_6 lmX12_72 ⟨Nat.le_of_ble_eq_true rfl, Nat.le_of_ble_eq_true rfl⟩ (cm_in g f x (nI 0) (nI 1)) rfl rfl (Nat.le_of_ble_eq_true rfl) ?_
  rintro _ _ ⟨rfl, rfl⟩
  rw [decide_eq_false hx]
  refine rn_callV dX12_setMode_9 lmX12_142 ⟨Nat.le_of_ble_eq_true rfl, Nat.le_of_ble_eq_true rfl⟩ (cm_setsNo g f (nI 2) x hM) hM rfl rfl (Nat.le_of_ble_eq_true rfl) ?_
  rintro _ _ ⟨rfl, rfl⟩
  refine rn_iret dX12_setMode_12 rfl ?_
  exact ⟨rfl, rfl⟩
theorem cm_setRule (g : GG) (f : Mm) {P : PS} {H : List PS} {T : List Nat} {m : Nat} (hI : MI f P H T) (hV : VD P) (hm : m ≤ 1) : Ct g MX12_setRule [.ref 75, .int (nI m)] f 0 0 (fun r f' => (∀ j, j < 75 → f' j = f j) ∧ MI f' (pRule P m) (psh H P) T ∧ r = some (.int (nI (pRu P)))) := by
  refine Ct.of ok_MX12_setRule (Nat.le_of_ble_eq_true rfl) ?_
  change Wp g MX12_setRule 0 [some (.ref 75), some (.int (nI m))] [] f 0 0 _
  obtain ⟨wi, cv, s, hM, -, -⟩ := hI.ent
  have hd : decide (nI 0 ≤ nI m ∧ nI m ≤ nI 1) = true := decide_eq_true ⟨nI_le (by omega) (by omega), nI_le hm (by decide)⟩
  refine rn_aload_n dX12_setRule_0 rfl ?_
  refine rn_iconst (v := nI 3) dX12_setRule_1 (by decide) ?_
  refine rn_iload_n dX12_setRule_2 rfl ?_
  refine rn_iload_n dX12_setRule_3 rfl ?_
  refine rn_iconst (v := nI 0) dX12_setRule_4 (by decide) ?_
  refine rn_iconst (v := nI 1) dX12_setRule_5 (by decide) ?_
  refine rn_callS dX12_setRule_6 lmX12_72 ⟨Nat.le_of_ble_eq_true rfl, Nat.le_of_ble_eq_true rfl⟩ (cm_in g f (nI m) (nI 0) (nI 1)) rfl rfl (Nat.le_of_ble_eq_true rfl) ?_
  rintro _ _ ⟨rfl, rfl⟩
  rw [hd]
  refine rn_callV dX12_setRule_9 lmX12_142 ⟨Nat.le_of_ble_eq_true rfl, Nat.le_of_ble_eq_true rfl⟩ (cm_sets g f (a := 3) (nI m) hI hV (by decide) (fun s h => h.rule m) (fun s h => h.2.2.2.1)) hM rfl rfl (Nat.le_of_ble_eq_true rfl) ?_
  rintro _ f1 ⟨k1, h1, rfl⟩
  refine rn_iret dX12_setRule_12 rfl ?_
  exact ⟨k1, h1, rfl⟩
theorem cm_setRuleNo (g : GG) (f : Mm) {P : PS} {H : List PS} {T : List Nat} {x : Int32} (hI : MI f P H T) (hx : ¬ (nI 0 ≤ x ∧ x ≤ nI 1)) : Ct g MX12_setRule [.ref 75, .int x] f 0 0 (fun r f' => f = f' ∧ r = some (.int (-1))) := by
  refine Ct.of ok_MX12_setRule (Nat.le_of_ble_eq_true rfl) ?_
  change Wp g MX12_setRule 0 [some (.ref 75), some (.int x)] [] f 0 0 _
  obtain ⟨wi, cv, s, hM, -, -⟩ := hI.ent
  refine rn_aload_n dX12_setRule_0 rfl ?_
  refine rn_iconst (v := nI 3) dX12_setRule_1 (by decide) ?_
  refine rn_iload_n dX12_setRule_2 rfl ?_
  refine rn_iload_n dX12_setRule_3 rfl ?_
  refine rn_iconst (v := nI 0) dX12_setRule_4 (by decide) ?_
  refine rn_iconst (v := nI 1) dX12_setRule_5 (by decide) ?_
  refine rn_callS dX12_setRule_6 lmX12_72 ⟨Nat.le_of_ble_eq_true rfl, Nat.le_of_ble_eq_true rfl⟩ (cm_in g f x (nI 0) (nI 1)) rfl rfl (Nat.le_of_ble_eq_true rfl) ?_
  rintro _ _ ⟨rfl, rfl⟩
  rw [decide_eq_false hx]
  refine rn_callV dX12_setRule_9 lmX12_142 ⟨Nat.le_of_ble_eq_true rfl, Nat.le_of_ble_eq_true rfl⟩ (cm_setsNo g f (nI 3) x hM) hM rfl rfl (Nat.le_of_ble_eq_true rfl) ?_
  rintro _ _ ⟨rfl, rfl⟩
  refine rn_iret dX12_setRule_12 rfl ?_
  exact ⟨rfl, rfl⟩
theorem cm_setCopies (g : GG) (f : Mm) {P : PS} {H : List PS} {T : List Nat} {p k : Nat} (hI : MI f P H T) (hV : VD P) (hp : p < pN P) (h1 : 1 ≤ k) (h9 : k ≤ 9) : Ct g MX12_setCopies [.ref 75, .int (nI p), .int (nI k)] f 0 0 (fun r f' => (∀ j, j < 75 → f' j = f j) ∧ MI f' (pCop P p (nI k)) (psh H P) T ∧ r = some (.int (pX P p))) := by
  refine Ct.of ok_MX12_setCopies (Nat.le_of_ble_eq_true rfl) ?_
  change Wp g MX12_setCopies 0 [some (.ref 75), some (.int (nI p)), some (.int (nI k))] [] f 0 0 _
  obtain ⟨wi, cv, s, hM, hs, hP⟩ := hI.ent
  have v8 := hV.2.2.2.2
  have hin : inR (nI p) (pN P) = true := inR_nI hp (by omega)
  have hd : decide (nI 1 ≤ nI k ∧ nI k ≤ nI 9) = true := decide_eq_true ⟨nI_le h1 (by omega), nI_le h9 (by decide)⟩
  refine rn_aload_n dX12_setCopies_0 rfl ?_
  refine rn_aload_n dX12_setCopies_1 rfl ?_
  refine rn_iload_n dX12_setCopies_2 rfl ?_
  refine rn_callV dX12_setCopies_3 lmX12_139 ⟨Nat.le_of_ble_eq_true rfl, Nat.le_of_ble_eq_true rfl⟩ (cm_isPiece g f (nI p) hM hs hP hV) hM rfl rfl (Nat.le_of_ble_eq_true rfl) ?_
  rintro _ _ ⟨rfl, rfl⟩
  rw [hin]
  refine rn_if_eq (tgt := 20) dX12_setCopies_6 (by decide) (fun c6 => ?_) (fun c6 => ?_)
  · exact absurd c6 (by decide)
  · refine rn_bipush (v := nI 41) dX12_setCopies_9 (by decide) ?_
    refine rn_iconst (v := nI 4) dX12_setCopies_11 (by decide) ?_
    refine rn_iload_n dX12_setCopies_12 rfl ?_
    refine rn_imul dX12_setCopies_13 ?_
    rw [pk_mul]
    refine rn_iadd dX12_setCopies_14 ?_
    rw [nI_add]
    refine rn_iconst (v := nI 3) dX12_setCopies_15 (by decide) ?_
    refine rn_iadd dX12_setCopies_16 ?_
    rw [nI_add]
    refine rn_goto (tgt := 21) dX12_setCopies_17 (by decide) ?_
    refine rn_iload_n dX12_setCopies_21 rfl ?_
    refine rn_aload_n dX12_setCopies_22 rfl ?_
    refine rn_iload_n dX12_setCopies_23 rfl ?_
    refine rn_callV dX12_setCopies_24 lmX12_139 ⟨Nat.le_of_ble_eq_true rfl, Nat.le_of_ble_eq_true rfl⟩ (cm_isPiece g f (nI p) hM hs hP hV) hM rfl rfl (Nat.le_of_ble_eq_true rfl) ?_
    rintro _ _ ⟨rfl, rfl⟩
    rw [hin]
    refine rn_if_eq (tgt := 44) dX12_setCopies_27 (by decide) (fun c27 => ?_) (fun c27 => ?_)
    · exact absurd c27 (by decide)
    · refine rn_iload_n dX12_setCopies_30 rfl ?_
      refine rn_iconst (v := nI 1) dX12_setCopies_31 (by decide) ?_
      refine rn_bipush (v := nI 9) dX12_setCopies_32 (by decide) ?_
      refine rn_callS dX12_setCopies_34 lmX12_72 ⟨Nat.le_of_ble_eq_true rfl, Nat.le_of_ble_eq_true rfl⟩ (cm_in g f (nI k) (nI 1) (nI 9)) rfl rfl (Nat.le_of_ble_eq_true rfl) ?_
      rintro _ _ ⟨rfl, rfl⟩
      rw [hd]
      refine rn_if_eq (tgt := 44) dX12_setCopies_37 (by decide) (fun c37 => ?_) (fun c37 => ?_)
      · exact absurd c37 (by decide)
      · refine rn_iconst (v := nI 1) dX12_setCopies_40 (by decide) ?_
        refine rn_goto (tgt := 45) dX12_setCopies_41 (by decide) ?_
        refine rn_callV dX12_setCopies_45 lmX12_142 ⟨Nat.le_of_ble_eq_true rfl, Nat.le_of_ble_eq_true rfl⟩ (cm_sets g f (a := 41 + 4 * p + 3) (nI k) hI hV (by omega) (fun s h => h.cop hV p (nI k)) (fun s h => (h.2.2.2.2.2.2 p hp).2.2.2)) hM rfl rfl (Nat.le_of_ble_eq_true rfl) ?_
        rintro _ f1 ⟨k1, h1, rfl⟩
        refine rn_iret dX12_setCopies_48 rfl ?_
        exact ⟨k1, h1, rfl⟩
