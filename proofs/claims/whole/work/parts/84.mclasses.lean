theorem cm_labelsAll (g : GG) (f : Mm) {q : SQ} {x : SX} {w L : Nat → Int32} {no : Nat} (hK : MK f q x w) (hC : CXm f q w) (hQ : QV q) (hi : IVs q x.1) (hL : AR f 91 32400 L) (hno : no < 100) : Ct g MX12_labelsAll [.ref 75, .int (nI no)] f 0 0 (fun r f' => r = none ∧ (∀ j, j ≠ 91 → f' j = f j) ∧ ∃ L', AR f' 91 32400 L' ∧ (∀ s, okS q s → LBp q s x.1 (324 * no + 36 * s) L') ∧ ∀ j, (j < 324 * no ∨ 324 * no + 324 ≤ j) → L' j = L j) := by
  refine Ct.of ok_MX12_labelsAll (Nat.le_of_ble_eq_true rfl) ?_
  change Wp g MX12_labelsAll 0 [some (.ref 75), some (.int (nI no)), none] [] f 0 0 _
  have ha := hQ.1.area
  have har : ar q = pW q.1 * pH q.1 := rfl
  have loop : ∀ (d s : Nat) (f1 : Mm) (L1 : Nat → Int32), 9 - s = d → s ≤ 9 → (∀ j, j ≠ 91 → f1 j = f j) → AR f1 91 32400 L1 → (∀ s', s' < s → okS q s' → LBp q s' x.1 (324 * no + 36 * s') L1) → (∀ j, (j < 324 * no ∨ 324 * no + 324 ≤ j) → L1 j = L j) → Wp g MX12_labelsAll 2 [some (.ref 75), some (.int (nI no)), some (.int (nI s))] [] f1 0 0 (fun r f' => r = none ∧ (∀ j, j ≠ 91 → f' j = f j) ∧ ∃ L', AR f' 91 32400 L' ∧ (∀ s, okS q s → LBp q s x.1 (324 * no + 36 * s) L') ∧ ∀ j, (j < 324 * no ∨ 324 * no + 324 ≤ j) → L' j = L j) := by
    intro d
    induction d using Nat.strongRecOn with
    | ind d ih =>
      intro s f1 L1 hd hs k1 hL1 hB hO
      obtain ⟨hM, h26, h30, hr⟩ := id hK
      have o1 := (k1 75 (by decide)).trans hM
      have hK1 : MK f1 q x w := ⟨o1, h26, h30, hr.keep (fun k a b => k1 k (by omega))⟩
      have hC1 : CXm f1 q w := hC.keep (fun k a b => k1 k (by omega)) rfl
      obtain ⟨⟨sr, hsr, hP⟩, -, -⟩ := id hC1
      by_cases hlt : s < 9
      · have nx : ∀ (f2 : Mm) (L2 : Nat → Int32), (∀ j, j ≠ 91 → f2 j = f1 j) → AR f2 91 32400 L2 → (okS q s → LBp q s x.1 (324 * no + 36 * s) L2) → (∀ j, (j < 324 * no + 36 * s ∨ 324 * no + 36 * s + 36 ≤ j) → L2 j = L1 j) → Wp g MX12_labelsAll 28 [some (.ref 75), some (.int (nI no)), some (.int (nI s))] [] f2 0 0 (fun r f' => r = none ∧ (∀ j, j ≠ 91 → f' j = f j) ∧ ∃ L', AR f' 91 32400 L' ∧ (∀ s, okS q s → LBp q s x.1 (324 * no + 36 * s) L') ∧ ∀ j, (j < 324 * no ∨ 324 * no + 324 ≤ j) → L' j = L j) := fun f2 L2 k2 hL2 hB2 hO2 => by
          refine rn_iinc (v := nI (s + 1)) dX12_labelsAll_28 rfl (nI_1 s) (Nat.le_of_ble_eq_true rfl) rfl ?_
          refine rn_goto (tgt := 2) dX12_labelsAll_31 (by decide) ?_
          refine ih _ (by omega) (s + 1) f2 L2 rfl (by omega) (fun j h => (k2 j h).trans (k1 j h)) hL2 (fun s' hs' hok => ?_) (fun j hj => by rw [hO2 j (by omega)]; exact hO j hj)
          by_cases e : s' = s
          · rw [e] at hok ⊢; exact hB2 hok
          · intro c k hk
            obtain ⟨m1, m2⟩ := plO_mem hk
            have hic := imS_lt hQ hok (mk_ar hQ (IVs_get hi k m1) m2).1
            rw [hO2 _ (by omega)]
            exact hB s' (by omega) hok c k hk
        have lab : okS q s → Wp g MX12_labelsAll 22 [some (.ref 75), some (.int (nI no)), some (.int (nI s))] [] f1 0 0 (fun r f' => r = none ∧ (∀ j, j ≠ 91 → f' j = f j) ∧ ∃ L', AR f' 91 32400 L' ∧ (∀ s, okS q s → LBp q s x.1 (324 * no + 36 * s) L') ∧ ∀ j, (j < 324 * no ∨ 324 * no + 324 ≤ j) → L' j = L j) := fun hok => by
          refine rn_aload_n dX12_labelsAll_22 rfl ?_
          refine rn_iload_n dX12_labelsAll_23 rfl ?_
          refine rn_iload_n dX12_labelsAll_24 rfl ?_
          refine rn_callV dX12_labelsAll_25 lmX12_274 ⟨Nat.le_of_ble_eq_true rfl, Nat.le_of_ble_eq_true rfl⟩ (cm_labels g f1 hK1 hC1 hQ hi hL1 hno hok) o1 rfl rfl (Nat.le_of_ble_eq_true rfl) ?_
          rintro _ f2 ⟨rfl, k2, L2, hL2, hB2, hO2⟩
          exact nx f2 L2 k2 hL2 (fun _ => hB2) hO2
        refine rn_iload_n dX12_labelsAll_2 rfl ?_
        refine rn_bipush (v := nI 9) dX12_labelsAll_3 (by decide) ?_
        refine rn_icmp_ge (tgt := 34) dX12_labelsAll_5 (by decide) (fun c5 => ?_) (fun c5 => ?_)
        · exact absurd (ge_ex c5 (by omega) (by decide)) (by omega)
        · refine rn_iload_n dX12_labelsAll_8 rfl ?_
          refine rn_bipush (v := nI 8) dX12_labelsAll_9 (by decide) ?_
          refine rn_icmp_eq (tgt := 22) dX12_labelsAll_11 (by decide) (fun c11 => ?_) (fun c11 => ?_)
          · exact lab (Or.inl ((nI_eq (b := 8) (by omega) (by decide)).mp c11))
          · have h8 : s < 8 := by
              have : ¬ s = 8 := fun e => c11 (by rw [e])
              omega
            refine rn_aload_n dX12_labelsAll_14 rfl ?_
            refine rn_iload_n dX12_labelsAll_15 rfl ?_
            refine rn_callV dX12_labelsAll_16 lmX12_146 ⟨Nat.le_of_ble_eq_true rfl, Nat.le_of_ble_eq_true rfl⟩ (cm_isSymmetry g f1 o1 hsr hP hQ.1 h8) o1 rfl rfl (Nat.le_of_ble_eq_true rfl) ?_
            rintro _ _ ⟨rfl, rfl⟩
            refine rn_if_eq (tgt := 28) dX12_labelsAll_19 (by decide) (fun c19 => ?_) (fun c19 => ?_)
            · exact nx f1 L1 (fun _ _ => rfl) hL1 (fun hok => by
                rcases hok with e | ⟨e1, e2⟩
                · omega
                · rw [bI_0.mp c19] at e2; cases e2) (fun _ _ => rfl)
            · exact lab (Or.inr ⟨h8, bI_n0.mp c19⟩)
      · have hse : s = 9 := by omega
        subst hse
        refine rn_iload_n dX12_labelsAll_2 rfl ?_
        refine rn_bipush (v := nI 9) dX12_labelsAll_3 (by decide) ?_
        refine rn_icmp_ge (tgt := 34) dX12_labelsAll_5 (by decide) (fun c5 => ?_) (fun c5 => ?_)
        · refine rn_vret dX12_labelsAll_34 rfl ?_
          exact ⟨rfl, k1, L1, hL1, fun s hok => hB s (by rcases hok with e | ⟨e, -⟩ <;> omega) hok, hO⟩
        · exact absurd (ge_in c5 (by decide)) (by decide)
  refine rn_iconst (v := nI 0) dX12_labelsAll_0 (by decide) ?_
  refine rn_istore_n dX12_labelsAll_1 (Nat.le_of_ble_eq_true rfl) rfl ?_
  exact loop 9 0 f L rfl (by omega) (fun _ _ => rfl) hL (fun s' hs' => by omega) (fun _ _ => rfl)
theorem lab_lt {q : SQ} (hQ : QV q) (u : Nat → Nat) {k : Nat} (hk : k < q.2.1.length) : labS q u k < 1000 := by
  have h1 := mnI_36 u (msk q.2.1 k) (ar q)
  have h2 := hQ.pc hk
  have h3 := hQ.1.2.2.2.2
  unfold labS
  omega
theorem lab_M {q : SQ} {s b1 b2 : Nat} {A B : List Nat} {L : Nat → Int32} (hQ : QV q) (hs : s < 8) (hy : isSy q.1 s = true) (hA : CVq q A) (hB : CVq q B) (h1 : LBp q s A b1 L) (h2 : LBp q 8 B b2 L) : (∀ c, c < ar q → ¬ pC q.1 c = -1 → L (b1 + c) = L (b2 + c)) ↔ mapM q s A B := by
  obtain ⟨hok, hop⟩ := isSy_ok hy
  have i8 : ∀ c, imS q 8 c = c := fun c => by rw [imS, if_pos rfl]
  have is : ∀ c, imS q s c = img q.1 s c := fun c => by rw [imS, if_neg (by omega)]
  have f8 : imS q 8 = fun c => c := funext i8
  have fs : imS q s = img q.1 s := funext is
  constructor
  · intro h c k hk
    obtain ⟨a1, a2, a3⟩ := hA.get hk
    obtain ⟨c1, c2⟩ := mk_ar hQ a2 a3
    have hc := img_lt hQ.1 hs hok c1
    have hne : ¬ pC q.1 (img q.1 s c) = -1 := by rw [hop c c1]; exact c2
    obtain ⟨k', hk'⟩ := hB.opc hc hne
    obtain ⟨b1', b2', b3'⟩ := hB.get hk'
    refine ⟨k', hk', ?_⟩
    have e := h _ hc hne
    have e1 := h1 c k hk
    have e2 := h2 _ k' hk'
    rw [is, fs] at e1
    rw [i8, f8] at e2
    rw [e1, e2] at e
    have l1 := lab_lt hQ (img q.1 s) a2
    have l2 := lab_lt hQ (fun c => c) b2'
    exact (nI_eq (by omega) (by omega)).mp e
  · intro h c hc hne
    obtain ⟨c0, d1, d2⟩ := img_onto hQ.1 hs hok hc
    obtain ⟨k, hk⟩ := hA.opc d1 (by rw [← hop c0 d1, d2]; exact hne)
    obtain ⟨k', hk', e⟩ := h c0 k hk
    have e1 := h1 c0 k hk
    have e2 := h2 _ k' hk'
    rw [is, fs, d2] at e1
    rw [i8, f8, d2] at e2
    rw [e1, e2, e]
theorem cm_areAlike (g : GG) (f : Mm) {q : SQ} {w L : Nat → Int32} {cv : Int64} {n1 n2 : Nat} {A B : List Nat} (hM : f 75 = some (MO w cv)) (hC : CXm f q w) (hQ : QV q) (hL : AR f 91 32400 L) (h1 : n1 < 100) (h2 : n2 < 100) (hA : CVq q A) (hB : CVq q B) (hLA : ∀ s, okS q s → LBp q s A (324 * n1 + 36 * s) L) (hLB : ∀ s, okS q s → LBp q s B (324 * n2 + 36 * s) L) : Ct g MX12_areAlike [.ref 75, .int (nI n1), .int (nI n2)] f 0 0 (fun r f' => f = f' ∧ ∃ b, r = some (.int (bI b)) ∧ (b = true ↔ alk q A B)) := by
  refine Ct.of ok_MX12_areAlike (Nat.le_of_ble_eq_true rfl) ?_
  change Wp g MX12_areAlike 0 [some (.ref 75), some (.int (nI n1)), some (.int (nI n2)), none, none, none, none] [] f 0 0 _
  obtain ⟨⟨sr, hsr, hP⟩, -, -⟩ := id hC
  obtain ⟨lb, hlb, hlbe⟩ := id hL
  have ha := hQ.1.area
  have har : ar q = pW q.1 * pH q.1 := rfl
  have key : ∀ s, s < 8 → isSy q.1 s = true → ((∀ c, c < ar q → ¬ pC q.1 c = -1 → L (324 * n1 + 36 * s + c) = L (324 * n2 + 288 + c)) ↔ mapE q s A B) := fun s hs hy => by
    have e := lab_M hQ hs hy hA hB (hLA s (Or.inr ⟨hs, hy⟩)) (hLB 8 (Or.inl rfl))
    exact e.trans ⟨fun h => mapM_E hQ hs hy hA hB h, fun h => mapE_M hQ hs hy hA hB h⟩
  have inner : ∀ (d c s : Nat), ar q - c = d → c ≤ ar q → s < 8 → isSy q.1 s = true → (∀ c', c' < c → ¬ pC q.1 c' = -1 → L (324 * n1 + 36 * s + c') = L (324 * n2 + 288 + c')) → (∀ (b : Bool) (w6 : Option Value), (b = true ↔ mapE q s A B) → Wp g MX12_areAlike 102 [some (.ref 75), some (.int (nI n1)), some (.int (nI n2)), some (.int (nI 0)), some (.int (nI s)), some (.int (bI b)), w6] [] f 0 0 (fun r f' => f = f' ∧ ∃ b, r = some (.int (bI b)) ∧ (b = true ↔ alk q A B))) → Wp g MX12_areAlike 27 [some (.ref 75), some (.int (nI n1)), some (.int (nI n2)), some (.int (nI 0)), some (.int (nI s)), some (.int (bI true)), some (.int (nI c))] [] f 0 0 (fun r f' => f = f' ∧ ∃ b, r = some (.int (bI b)) ∧ (b = true ↔ alk q A B)) := by
    intro d
    induction d using Nat.strongRecOn with
    | ind d ih =>
      intro c s hd hc hs hy hI kk
      by_cases hlt : c < ar q
      · have ok : (¬ pC q.1 c = -1 → L (324 * n1 + 36 * s + c) = L (324 * n2 + 288 + c)) → Wp g MX12_areAlike 94 [some (.ref 75), some (.int (nI n1)), some (.int (nI n2)), some (.int (nI 0)), some (.int (nI s)), some (.int (bI true)), some (.int (nI c))] [.int (nI 1)] f 0 0 (fun r f' => f = f' ∧ ∃ b, r = some (.int (bI b)) ∧ (b = true ↔ alk q A B)) := fun h => by
          refine rn_istore dX12_areAlike_94 (Nat.le_of_ble_eq_true rfl) rfl ?_
          refine rn_iinc (v := nI (c + 1)) dX12_areAlike_96 rfl (nI_1 c) (Nat.le_of_ble_eq_true rfl) rfl ?_
          refine rn_goto (tgt := 27) dX12_areAlike_99 (by decide) ?_
          refine ih _ (by omega) (c + 1) s rfl (by omega) hs hy (fun c' hc' hne => ?_) kk
          by_cases e : c' = c
          · rw [e] at hne ⊢; exact h hne
          · exact hI c' (by omega) hne
        have no : ¬ pC q.1 c = -1 → ¬ L (324 * n1 + 36 * s + c) = L (324 * n2 + 288 + c) → Wp g MX12_areAlike 94 [some (.ref 75), some (.int (nI n1)), some (.int (nI n2)), some (.int (nI 0)), some (.int (nI s)), some (.int (bI true)), some (.int (nI c))] [.int (nI 0)] f 0 0 (fun r f' => f = f' ∧ ∃ b, r = some (.int (bI b)) ∧ (b = true ↔ alk q A B)) := fun hne h => by
          have hk := kk false (some (.int (nI (c + 1)))) ⟨fun h => (by cases h), fun hm => absurd ((key s hs hy).mpr hm c hlt hne) h⟩
          refine rn_istore dX12_areAlike_94 (Nat.le_of_ble_eq_true rfl) rfl ?_
          refine rn_iinc (v := nI (c + 1)) dX12_areAlike_96 rfl (nI_1 c) (Nat.le_of_ble_eq_true rfl) rfl ?_
          refine rn_goto (tgt := 27) dX12_areAlike_99 (by decide) ?_
          refine rn_iload dX12_areAlike_27 rfl ?_
          refine rn_aload_n dX12_areAlike_29 rfl ?_
          refine rn_callV dX12_areAlike_30 lmX12_68 ⟨Nat.le_of_ble_eq_true rfl, Nat.le_of_ble_eq_true rfl⟩ (cm_cells g f hM hsr hP) hM rfl rfl (Nat.le_of_ble_eq_true rfl) ?_
          rintro _ _ ⟨rfl, rfl⟩
          refine rn_icmp_ge (tgt := 102) dX12_areAlike_33 (by decide) (fun c33 => ?_) (fun c33 => ?_)
          · exact hk
          · refine rn_iload dX12_areAlike_36 rfl ?_
            refine rn_if_eq (tgt := 102) dX12_areAlike_38 (by decide) (fun c38 => ?_) (fun c38 => ?_)
            · exact hk
            · exact absurd (show nI 0 = 0 from rfl) c38
        refine rn_iload dX12_areAlike_27 rfl ?_
        refine rn_aload_n dX12_areAlike_29 rfl ?_
        refine rn_callV dX12_areAlike_30 lmX12_68 ⟨Nat.le_of_ble_eq_true rfl, Nat.le_of_ble_eq_true rfl⟩ (cm_cells g f hM hsr hP) hM rfl rfl (Nat.le_of_ble_eq_true rfl) ?_
        rintro _ _ ⟨rfl, rfl⟩
        refine rn_icmp_ge (tgt := 102) dX12_areAlike_33 (by decide) (fun c33 => ?_) (fun c33 => ?_)
        · exact absurd (ge_ex c33 (by omega) (by omega)) (by omega)
        · refine rn_iload dX12_areAlike_36 rfl ?_
          refine rn_if_eq (tgt := 102) dX12_areAlike_38 (by decide) (fun c38 => ?_) (fun c38 => ?_)
          · exact absurd c38 (by decide)
          · refine rn_aload_n dX12_areAlike_41 rfl ?_
            refine rn_iload dX12_areAlike_42 rfl ?_
            refine rn_callV dX12_areAlike_44 lmX12_76 ⟨Nat.le_of_ble_eq_true rfl, Nat.le_of_ble_eq_true rfl⟩ (cm_isOpen g f hM hsr (show c < 36 by omega)) hM rfl rfl (Nat.le_of_ble_eq_true rfl) ?_
            rintro _ _ ⟨rfl, rfl⟩
            rw [hP.2.2.2.2.2.1 c hlt]
            refine rn_if_eq (tgt := 89) dX12_areAlike_47 (by decide) (fun c47 => ?_) (fun c47 => ?_)
            · refine rn_iconst (v := nI 1) dX12_areAlike_89 (by decide) ?_
              refine rn_goto (tgt := 94) dX12_areAlike_90 (by decide) ?_
              exact ok (fun h => absurd h (of_decide_eq_false (bI_0.mp c47)))
            · refine rn_aload_n dX12_areAlike_50 rfl ?_
              refine rn_get dX12_areAlike_51 lfX12_57 hM rfl ?_
              refine rn_sipush (v := nI 324) dX12_areAlike_54 (by decide) ?_
              refine rn_iload_n dX12_areAlike_57 rfl ?_
              refine rn_imul dX12_areAlike_58 ?_
              rw [pk_mul]
              refine rn_bipush (v := nI 36) dX12_areAlike_59 (by decide) ?_
              refine rn_iload dX12_areAlike_61 rfl ?_
              refine rn_imul dX12_areAlike_63 ?_
              rw [pk_mul]
              refine rn_iadd dX12_areAlike_64 ?_
              rw [nI_add]
              refine rn_iload dX12_areAlike_65 rfl ?_
              refine rn_iadd dX12_areAlike_67 ?_
              rw [nI_add]
              refine rn_iald dX12_areAlike_68 hlb (vp_in_nI (show 324 * n1 + 36 * s + c < 32400 by omega) (by decide)) ?_
              rw [nI_clamp (by omega), hlbe _ (by omega)]
              refine rn_aload_n dX12_areAlike_69 rfl ?_
              refine rn_get dX12_areAlike_70 lfX12_57 hM rfl ?_
              refine rn_sipush (v := nI 324) dX12_areAlike_73 (by decide) ?_
              refine rn_iload_n dX12_areAlike_76 rfl ?_
              refine rn_imul dX12_areAlike_77 ?_
              rw [pk_mul]
              refine rn_sipush (v := nI 288) dX12_areAlike_78 (by decide) ?_
              refine rn_iadd dX12_areAlike_81 ?_
              rw [nI_add]
              refine rn_iload dX12_areAlike_82 rfl ?_
              refine rn_iadd dX12_areAlike_84 ?_
              rw [nI_add]
              refine rn_iald dX12_areAlike_85 hlb (vp_in_nI (show 324 * n2 + 288 + c < 32400 by omega) (by decide)) ?_
              rw [nI_clamp (by omega), hlbe _ (by omega)]
              refine rn_icmp_ne (tgt := 93) dX12_areAlike_86 (by decide) (fun c86 => ?_) (fun c86 => ?_)
              · refine rn_iconst (v := nI 0) dX12_areAlike_93 (by decide) ?_
                exact no (of_decide_eq_true (bI_n0.mp c47)) c86
              · refine rn_iconst (v := nI 1) dX12_areAlike_89 (by decide) ?_
                refine rn_goto (tgt := 94) dX12_areAlike_90 (by decide) ?_
                exact ok (fun _ => c86)
      · have hce : c = ar q := by omega
        subst hce
        have hk := kk true (some (.int (nI (ar q)))) ⟨fun _ => (key s hs hy).mp hI, fun _ => rfl⟩
        refine rn_iload dX12_areAlike_27 rfl ?_
        refine rn_aload_n dX12_areAlike_29 rfl ?_
        refine rn_callV dX12_areAlike_30 lmX12_68 ⟨Nat.le_of_ble_eq_true rfl, Nat.le_of_ble_eq_true rfl⟩ (cm_cells g f hM hsr hP) hM rfl rfl (Nat.le_of_ble_eq_true rfl) ?_
        rintro _ _ ⟨rfl, rfl⟩
        refine rn_icmp_ge (tgt := 102) dX12_areAlike_33 (by decide) (fun c33 => ?_) (fun c33 => ?_)
        · exact hk
        · exact absurd (ge_in c33 (by omega)) (by omega)
  have loop : ∀ (d s : Nat) (w5 w6 : Option Value), 8 - s = d → s ≤ 8 → (∀ s', s' < s → isSy q.1 s' = true → ¬ mapE q s' A B) → Wp g MX12_areAlike 5 [some (.ref 75), some (.int (nI n1)), some (.int (nI n2)), some (.int (nI 0)), some (.int (nI s)), w5, w6] [] f 0 0 (fun r f' => f = f' ∧ ∃ b, r = some (.int (bI b)) ∧ (b = true ↔ alk q A B)) := by
    intro d
    induction d using Nat.strongRecOn with
    | ind d ih =>
      intro s w5 w6 hd hs hI
      by_cases hlt : s < 8
      · have aft : ∀ (b : Bool) (w6 : Option Value), (b = true ↔ isSy q.1 s = true ∧ mapE q s A B) → Wp g MX12_areAlike 102 [some (.ref 75), some (.int (nI n1)), some (.int (nI n2)), some (.int (nI 0)), some (.int (nI s)), some (.int (bI b)), w6] [] f 0 0 (fun r f' => f = f' ∧ ∃ b, r = some (.int (bI b)) ∧ (b = true ↔ alk q A B)) := fun b w6 hb => by
          cases b with
          | true =>
            have hal : alk q A B := ⟨s, hlt, (hb.mp rfl).1, (hb.mp rfl).2⟩
            refine rn_iload dX12_areAlike_102 rfl ?_
            refine rn_istore_n dX12_areAlike_104 (Nat.le_of_ble_eq_true rfl) rfl ?_
            refine rn_iinc (v := nI (s + 1)) dX12_areAlike_105 rfl (nI_1 s) (Nat.le_of_ble_eq_true rfl) rfl ?_
            refine rn_goto (tgt := 5) dX12_areAlike_108 (by decide) ?_
            refine rn_iload dX12_areAlike_5 rfl ?_
            refine rn_bipush (v := nI 8) dX12_areAlike_7 (by decide) ?_
            refine rn_icmp_ge (tgt := 111) dX12_areAlike_9 (by decide) (fun c9 => ?_) (fun c9 => ?_)
            · refine rn_iload_n dX12_areAlike_111 rfl ?_
              refine rn_zret dX12_areAlike_112 rfl rfl ?_
              exact ⟨rfl, true, rfl, fun _ => hal, fun _ => rfl⟩
            · refine rn_iload_n dX12_areAlike_12 rfl ?_
              refine rn_if_ne (tgt := 111) dX12_areAlike_13 (by decide) (fun c13 => ?_) (fun c13 => ?_)
              · refine rn_iload_n dX12_areAlike_111 rfl ?_
                refine rn_zret dX12_areAlike_112 rfl rfl ?_
                exact ⟨rfl, true, rfl, fun _ => hal, fun _ => rfl⟩
              · exact absurd c13 (by decide)
          | false =>
            refine rn_iload dX12_areAlike_102 rfl ?_
            refine rn_istore_n dX12_areAlike_104 (Nat.le_of_ble_eq_true rfl) rfl ?_
            refine rn_iinc (v := nI (s + 1)) dX12_areAlike_105 rfl (nI_1 s) (Nat.le_of_ble_eq_true rfl) rfl ?_
            refine rn_goto (tgt := 5) dX12_areAlike_108 (by decide) ?_
            refine ih _ (by omega) (s + 1) _ _ rfl (by omega) (fun s' hs' hy hm => ?_)
            by_cases e : s' = s
            · rw [e] at hy hm; have := hb.mpr ⟨hy, hm⟩; cases this
            · exact hI s' (by omega) hy hm
        cases hy : isSy q.1 s with
        | true =>
          refine rn_iload dX12_areAlike_5 rfl ?_
          refine rn_bipush (v := nI 8) dX12_areAlike_7 (by decide) ?_
          refine rn_icmp_ge (tgt := 111) dX12_areAlike_9 (by decide) (fun c9 => ?_) (fun c9 => ?_)
          · exact absurd (ge_ex c9 (by omega) (by decide)) (by omega)
          · refine rn_iload_n dX12_areAlike_12 rfl ?_
            refine rn_if_ne (tgt := 111) dX12_areAlike_13 (by decide) (fun c13 => ?_) (fun c13 => ?_)
            · exact absurd (show nI 0 = 0 from rfl) c13
            · refine rn_aload_n dX12_areAlike_16 rfl ?_
              refine rn_iload dX12_areAlike_17 rfl ?_
              refine rn_callV dX12_areAlike_19 lmX12_146 ⟨Nat.le_of_ble_eq_true rfl, Nat.le_of_ble_eq_true rfl⟩ (cm_isSymmetry g f hM hsr hP hQ.1 hlt) hM rfl rfl (Nat.le_of_ble_eq_true rfl) ?_
              rintro _ _ ⟨rfl, rfl⟩
              rw [hy]
              refine rn_istore dX12_areAlike_22 (Nat.le_of_ble_eq_true rfl) rfl ?_
              refine rn_iconst (v := nI 0) dX12_areAlike_24 (by decide) ?_
              refine rn_istore dX12_areAlike_25 (Nat.le_of_ble_eq_true rfl) rfl ?_
              exact inner _ 0 s rfl (Nat.zero_le _) hlt hy (fun c' hc' => by omega) (fun b w6 hb => aft b w6 (hb.trans ⟨fun h => ⟨hy, h⟩, fun h => h.2⟩))
        | false =>
          have hk := aft false (some (.int (nI 0))) ⟨fun h => (by cases h), fun h => (by rw [hy] at h; exact absurd h.1 (by decide))⟩
          refine rn_iload dX12_areAlike_5 rfl ?_
          refine rn_bipush (v := nI 8) dX12_areAlike_7 (by decide) ?_
          refine rn_icmp_ge (tgt := 111) dX12_areAlike_9 (by decide) (fun c9 => ?_) (fun c9 => ?_)
          · exact absurd (ge_ex c9 (by omega) (by decide)) (by omega)
          · refine rn_iload_n dX12_areAlike_12 rfl ?_
            refine rn_if_ne (tgt := 111) dX12_areAlike_13 (by decide) (fun c13 => ?_) (fun c13 => ?_)
            · exact absurd (show nI 0 = 0 from rfl) c13
            · refine rn_aload_n dX12_areAlike_16 rfl ?_
              refine rn_iload dX12_areAlike_17 rfl ?_
              refine rn_callV dX12_areAlike_19 lmX12_146 ⟨Nat.le_of_ble_eq_true rfl, Nat.le_of_ble_eq_true rfl⟩ (cm_isSymmetry g f hM hsr hP hQ.1 hlt) hM rfl rfl (Nat.le_of_ble_eq_true rfl) ?_
              rintro _ _ ⟨rfl, rfl⟩
              rw [hy]
              refine rn_istore dX12_areAlike_22 (Nat.le_of_ble_eq_true rfl) rfl ?_
              refine rn_iconst (v := nI 0) dX12_areAlike_24 (by decide) ?_
              refine rn_istore dX12_areAlike_25 (Nat.le_of_ble_eq_true rfl) rfl ?_
              refine rn_iload dX12_areAlike_27 rfl ?_
              refine rn_aload_n dX12_areAlike_29 rfl ?_
              refine rn_callV dX12_areAlike_30 lmX12_68 ⟨Nat.le_of_ble_eq_true rfl, Nat.le_of_ble_eq_true rfl⟩ (cm_cells g f hM hsr hP) hM rfl rfl (Nat.le_of_ble_eq_true rfl) ?_
              rintro _ _ ⟨rfl, rfl⟩
              refine rn_icmp_ge (tgt := 102) dX12_areAlike_33 (by decide) (fun c33 => ?_) (fun c33 => ?_)
              · exact hk
              · refine rn_iload dX12_areAlike_36 rfl ?_
                refine rn_if_eq (tgt := 102) dX12_areAlike_38 (by decide) (fun c38 => ?_) (fun c38 => ?_)
                · exact hk
                · exact absurd (show bI false = 0 from rfl) c38
      · have hse : s = 8 := by omega
        subst hse
        refine rn_iload dX12_areAlike_5 rfl ?_
        refine rn_bipush (v := nI 8) dX12_areAlike_7 (by decide) ?_
        refine rn_icmp_ge (tgt := 111) dX12_areAlike_9 (by decide) (fun c9 => ?_) (fun c9 => ?_)
        · refine rn_iload_n dX12_areAlike_111 rfl ?_
          refine rn_zret dX12_areAlike_112 rfl rfl ?_
          exact ⟨rfl, false, rfl, fun h => (by cases h), fun ⟨s', h1, h2, h3⟩ => absurd h3 (hI s' h1 h2)⟩
        · exact absurd (ge_in c9 (by decide)) (by decide)
  refine rn_iconst (v := nI 0) dX12_areAlike_0 (by decide) ?_
  refine rn_istore_n dX12_areAlike_1 (Nat.le_of_ble_eq_true rfl) rfl ?_
  refine rn_iconst (v := nI 0) dX12_areAlike_2 (by decide) ?_
  refine rn_istore dX12_areAlike_3 (Nat.le_of_ble_eq_true rfl) rfl ?_
  exact loop 8 0 _ _ rfl (by omega) (fun s' hs' => by omega)
