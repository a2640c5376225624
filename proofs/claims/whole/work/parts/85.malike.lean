theorem MSc.lab {f f' : Mm} (h : MSc f) (e : ∀ j, j ≠ 91 → f' j = f j) (hL : ∃ L, AR f' 91 32400 L) : MSc f' := by
  obtain ⟨⟨F, h1⟩, ⟨l, h2⟩, h3, -, ⟨st, h5⟩, ⟨B, h6⟩, G, h7⟩ := h
  exact ⟨⟨F, h1.keep (e 79 (by omega))⟩, ⟨l, h2.keep (fun k a b => e k (by omega))⟩, h3.keep (fun k a b => e k (by omega)), hL, ⟨st, h5.keep (e 92 (by omega))⟩, ⟨B, h6.keep (e 85 (by omega))⟩, G, h7.keep (e 86 (by omega))⟩
def FRc (f f' : Mm) : Prop := ∀ j, j ≠ 75 → j ≠ 91 → (j < 79 ∨ (84 < j ∧ j < 87) ∨ 90 < j) → f' j = f j
theorem MSc.of2 {f f' : Mm} (h : MSc f) (e : FRc f f') (h1 : ∃ F, AR f' 79 9 F) (h2 : ∃ l, PLm f' l) (h3 : MKar f') (h4 : ∃ L, AR f' 91 32400 L) : MSc f' := by
  obtain ⟨-, -, -, -, ⟨st, h5⟩, ⟨B, h6⟩, G, h7⟩ := h
  exact ⟨h1, h2, h3, h4, ⟨st, h5.keep (e 92 (by omega) (by omega) (by omega))⟩, ⟨B, h6.keep (e 85 (by omega) (by omega) (by omega))⟩, G, h7.keep (e 86 (by omega) (by omega) (by omega))⟩
theorem cm_classes (g : GG) (f : Mm) {wi s : Nat → Int32} {cv : Int64} {P : PS} {sh fr co cp : Nat → Nat} (hB : MB f wi cv s P) (hV : VP P sh fr co cp) : Ct g MX12_classes [.ref 75] f 0 0 (fun r f' => MR f wi f' ∧ ∃ n, FnS (qOf P sh fr co cp) n ∧ r = some (.int (if (sqS (qOf P sh fr co cp) n).1 = 2 then -4 else if 100 < n then -3 else nI (clsN (qOf P sh fr co cp) n)))) := by
  refine Ct.of ok_MX12_classes (Nat.le_of_ble_eq_true rfl) ?_
  change Wp g MX12_classes 0 [some (.ref 75), none, none, none] [] f 0 0 _
  have hQ := hV.Q
  generalize hq : qOf P sh fr co cp = q at *
  refine rn_aload_n dX12_classes_0 rfl ?_
  refine rn_callV dX12_classes_1 lmX12_265 ⟨Nat.le_of_ble_eq_true rfl, Nat.le_of_ble_eq_true rfl⟩ (cm_searches g f hB hV) hB.1 rfl rfl (Nat.le_of_ble_eq_true rfl) ?_
  rintro _ f1 ⟨rfl, hS⟩
  rw [hq] at hS
  obtain ⟨k1, hm, n0, w, cv1, o1, e2, e4, hF, e30, e31, e32, e35⟩ := id hS
  have hn0 := fin_le hF.1
  have hB1 : MB f1 w cv1 s P := ⟨o1, hB.2.1.keep (k1 76 (by omega) (by omega)), hB.2.2.1, hm⟩
  have inner : ∀ (d k n : Nat) (f3 : Mm) (w3 L : Nat → Int32) (cv3 : Int64), n - k = d → k ≤ n → n < 100 → f3 75 = some (MO w3 cv3) → w3 31 = nI (n + 1) → CXm f3 q w3 → AR f3 91 32400 L → (∀ i, i ≤ n → (sqS q i).1 = 0) → (∀ i, i ≤ n → ∀ s, okS q s → LBp q s (sqS q i).2.1 (324 * i + 36 * s) L) → (∀ e, e < k → ¬ alk q (sqS q e).2.1 (sqS q n).2.1) → (∀ (b : Bool) (u3 : Option Value), (b = true ↔ ¬ erl q n) → Wp g MX12_classes 93 [some (.ref 75), some (.int (nI (clsN q n))), some (.int (bI b)), u3] [] f3 0 0 (fun r f' => MR f wi f' ∧ ∃ n, FnS q n ∧ r = some (.int (if (sqS q n).1 = 2 then -4 else if 100 < n then -3 else nI (clsN q n))))) → Wp g MX12_classes 53 [some (.ref 75), some (.int (nI (clsN q n))), some (.int (bI true)), some (.int (nI k))] [] f3 0 0 (fun r f' => MR f wi f' ∧ ∃ n, FnS q n ∧ r = some (.int (if (sqS q n).1 = 2 then -4 else if 100 < n then -3 else nI (clsN q n)))) := by
    intro d
    induction d using Nat.strongRecOn with
    | ind d ih =>
      intro k n f3 w3 L cv3 hd hk hn o3 g31 hC hL h0 hLB hno kk
      by_cases hlt : k < n
      · have h75 : ∀ (b : Bool), (b = true ↔ alk q (sqS q k).2.1 (sqS q n).2.1) → Wp g MX12_classes 78 [some (.ref 75), some (.int (nI (clsN q n))), some (.int (bI true)), some (.int (nI k))] [.int (bI b)] f3 0 0 (fun r f' => MR f wi f' ∧ ∃ n, FnS q n ∧ r = some (.int (if (sqS q n).1 = 2 then -4 else if 100 < n then -3 else nI (clsN q n)))) := fun b hb => by
          cases b with
          | true =>
            have hk2 := kk false (some (.int (nI (k + 1)))) ⟨fun h => (by cases h), fun h => absurd ⟨k, hlt, hb.mp rfl⟩ h⟩
            refine rn_if_ne (tgt := 85) dX12_classes_78 (by decide) (fun c78 => ?_) (fun c78 => ?_)
            · refine rn_iconst (v := nI 0) dX12_classes_85 (by decide) ?_
              refine rn_istore_n dX12_classes_86 (Nat.le_of_ble_eq_true rfl) rfl ?_
              refine rn_iinc (v := nI (k + 1)) dX12_classes_87 rfl (nI_1 k) (Nat.le_of_ble_eq_true rfl) rfl ?_
              refine rn_goto (tgt := 53) dX12_classes_90 (by decide) ?_
              refine rn_iload_n dX12_classes_53 rfl ?_
              refine rn_iconst (v := nI 1) dX12_classes_54 (by decide) ?_
              refine rn_iadd dX12_classes_55 ?_
              rw [nI_add]
              refine rn_aload_n dX12_classes_56 rfl ?_
              refine rn_get dX12_classes_57 lfX12_224 o3 rfl ?_
              rw [g31]
              refine rn_icmp_ge (tgt := 93) dX12_classes_60 (by decide) (fun c60 => ?_) (fun c60 => ?_)
              · exact hk2
              · refine rn_iload_n dX12_classes_63 rfl ?_
                refine rn_if_eq (tgt := 93) dX12_classes_64 (by decide) (fun c64 => ?_) (fun c64 => ?_)
                · exact hk2
                · exact absurd (show nI 0 = 0 from rfl) c64
            · exact absurd c78 (by decide)
          | false =>
            refine rn_if_ne (tgt := 85) dX12_classes_78 (by decide) (fun c78 => ?_) (fun c78 => ?_)
            · exact absurd (show bI false = 0 from rfl) c78
            · refine rn_iconst (v := nI 1) dX12_classes_81 (by decide) ?_
              refine rn_goto (tgt := 86) dX12_classes_82 (by decide) ?_
              refine rn_istore_n dX12_classes_86 (Nat.le_of_ble_eq_true rfl) rfl ?_
              refine rn_iinc (v := nI (k + 1)) dX12_classes_87 rfl (nI_1 k) (Nat.le_of_ble_eq_true rfl) rfl ?_
              refine rn_goto (tgt := 53) dX12_classes_90 (by decide) ?_
              refine ih _ (by omega) (k + 1) n f3 w3 L cv3 rfl (by omega) hn o3 g31 hC hL h0 hLB (fun e he => ?_) kk
              by_cases h : e = k
              · rw [h]; exact fun h2 => by have := hb.mpr h2; cases this
              · exact hno e (by omega)
        refine rn_iload_n dX12_classes_53 rfl ?_
        refine rn_iconst (v := nI 1) dX12_classes_54 (by decide) ?_
        refine rn_iadd dX12_classes_55 ?_
        rw [nI_add]
        refine rn_aload_n dX12_classes_56 rfl ?_
        refine rn_get dX12_classes_57 lfX12_224 o3 rfl ?_
        rw [g31]
        refine rn_icmp_ge (tgt := 93) dX12_classes_60 (by decide) (fun c60 => ?_) (fun c60 => ?_)
        · exact absurd (ge_ex c60 (by omega) (by omega)) (by omega)
        · refine rn_iload_n dX12_classes_63 rfl ?_
          refine rn_if_eq (tgt := 93) dX12_classes_64 (by decide) (fun c64 => ?_) (fun c64 => ?_)
          · exact absurd c64 (by decide)
          · refine rn_aload_n dX12_classes_67 rfl ?_
            refine rn_iload_n dX12_classes_68 rfl ?_
            refine rn_aload_n dX12_classes_69 rfl ?_
            refine rn_get dX12_classes_70 lfX12_224 o3 rfl ?_
            refine rn_iconst (v := nI 1) dX12_classes_73 (by decide) ?_
            refine rn_isub dX12_classes_74 ?_
            rw [g31, show nI (n + 1) - nI 1 = nI n from pk_sub (by omega)]
            refine rn_callV dX12_classes_75 lmX12_280 ⟨Nat.le_of_ble_eq_true rfl, Nat.le_of_ble_eq_true rfl⟩ (cm_areAlike g f3 o3 hC hQ hL (show k < 100 by omega) hn (sq_cv (h0 k (by omega))) (sq_cv (h0 n (by omega))) (hLB k (by omega)) (hLB n (by omega))) o3 rfl rfl (Nat.le_of_ble_eq_true rfl) ?_
            rintro _ _ ⟨rfl, b, rfl, hb⟩
            exact h75 b hb
      · have hke : k = n := by omega
        subst hke
        have hk2 := kk true (some (.int (nI k))) ⟨fun _ ⟨e, h1, h2⟩ => absurd h2 (hno e h1), fun _ => rfl⟩
        refine rn_iload_n dX12_classes_53 rfl ?_
        refine rn_iconst (v := nI 1) dX12_classes_54 (by decide) ?_
        refine rn_iadd dX12_classes_55 ?_
        rw [nI_add]
        refine rn_aload_n dX12_classes_56 rfl ?_
        refine rn_get dX12_classes_57 lfX12_224 o3 rfl ?_
        rw [g31]
        refine rn_icmp_ge (tgt := 93) dX12_classes_60 (by decide) (fun c60 => ?_) (fun c60 => ?_)
        · exact hk2
        · exact absurd (ge_in c60 (by omega)) (by omega)
  have loop : ∀ (e n : Nat) (f2 : Mm) (w2 L : Nat → Int32) (u2 u3 : Option Value), meS q n = e → n0 ≤ 100 → (∀ i, i < n → (sqS q i).1 = 0) → FRc f f2 → (∃ F, AR f2 79 9 F) → CXm f2 q w2 → MKs f2 q n w2 → w2 2 = wi 2 → w2 4 = wi 4 → AR f2 91 32400 L → (∀ i, i < n → ∀ s, okS q s → LBp q s (sqS q i).2.1 (324 * i + 36 * s) L) → (sqS q n0).1 ≠ 2 → Wp g MX12_classes 32 [some (.ref 75), some (.int (nI (clsN q n))), u2, u3] [] f2 0 0 (fun r f' => MR f wi f' ∧ ∃ n, FnS q n ∧ r = some (.int (if (sqS q n).1 = 2 then -4 else if 100 < n then -3 else nI (clsN q n)))) := by
    intro e
    induction e using Nat.strongRecOn with
    | ind e ih =>
      intro n f2 w2 L u2 u3 he h100 hn k2 hF2 hC hK g2 g4 hL hLB hc2
      obtain ⟨⟨cv2, o2⟩, -⟩ := hK.ent
      obtain ⟨F, hF2⟩ := hF2
      refine rn_aload_n dX12_classes_32 rfl ?_
      refine rn_callV dX12_classes_33 lmX12_259 ⟨Nat.le_of_ble_eq_true rfl, Nat.le_of_ble_eq_true rfl⟩ (cm_goesOn g f2 hC hQ hK) o2 rfl rfl (Nat.le_of_ble_eq_true rfl) ?_
      rintro _ f3 ⟨k3, ⟨h0, rfl, w3, hw, hS3⟩ | ⟨h0, rfl, w3, cv3, hw, o3, g31, g32, g30, har⟩⟩
      · have hnn : n < n0 := (fin_split hF).mp h0
        obtain ⟨g31, g32, g33, ⟨g0, -⟩ | ⟨m, gm, -, g34, hKm⟩⟩ := id hS3
        · omega
        have hmn : m = n := by omega
        subst hmn
        have hie := (sqS_end q m).1
        have o3 := hKm.1
        have hC3 : CXm f3 q w3 := hC.keep (fun k a b => k3 k (by omega) (by omega)) (hw 12 (by omega))
        have hL3 := hL.keep (k3 91 (by omega) (by omega))
        have h36 : Wp g MX12_classes 39 [some (.ref 75), some (.int (nI (clsN q m))), u2, u3] [] f3 0 0 (fun r f' => MR f wi f' ∧ ∃ n, FnS q n ∧ r = some (.int (if (sqS q n).1 = 2 then -4 else if 100 < n then -3 else nI (clsN q n)))) := by
          refine rn_aload_n dX12_classes_39 rfl ?_
          refine rn_aload_n dX12_classes_40 rfl ?_
          refine rn_get dX12_classes_41 lfX12_224 o3 rfl ?_
          refine rn_iconst (v := nI 1) dX12_classes_44 (by decide) ?_
          refine rn_isub dX12_classes_45 ?_
          rw [g31, show nI (m + 1) - nI 1 = nI m from pk_sub (by omega)]
          refine rn_callV dX12_classes_46 lmX12_277 ⟨Nat.le_of_ble_eq_true rfl, Nat.le_of_ble_eq_true rfl⟩ (cm_labelsAll g f3 hKm hC3 hQ hie.2 hL3 (show m < 100 by omega)) o3 rfl rfl (Nat.le_of_ble_eq_true rfl) ?_
          rintro _ f4 ⟨rfl, k4, L4, hL4, hB4, hO4⟩
          refine rn_iconst (v := nI 1) dX12_classes_49 (by decide) ?_
          refine rn_istore_n dX12_classes_50 (Nat.le_of_ble_eq_true rfl) rfl ?_
          refine rn_iconst (v := nI 0) dX12_classes_51 (by decide) ?_
          refine rn_istore_n dX12_classes_52 (Nat.le_of_ble_eq_true rfl) rfl ?_
          have hC4 : CXm f4 q w3 := hC3.keep (fun k a b => k4 k (by omega)) rfl
          have o4 := (k4 75 (by decide)).trans o3
          have h0' : ∀ i, i ≤ m → (sqS q i).1 = 0 := fun i hi => sqS_all h0 i hi
          have hLB4 : ∀ i, i ≤ m → ∀ s, okS q s → LBp q s (sqS q i).2.1 (324 * i + 36 * s) L4 := fun i hi s hs => by
            by_cases e : i = m
            · rw [e]; exact hB4 s hs
            · intro c k hk
              have hcv := (sq_cv (h0' i hi)).get hk
              have hic := imS_lt hQ hs (mk_ar hQ hcv.2.1 hcv.2.2).1
              have ha := hQ.1.area
              have har : ar q = pW q.1 * pH q.1 := rfl
              have hs9 : s < 9 := by rcases hs with e | ⟨h1, h2⟩ <;> omega
              rw [hO4 _ (by omega)]
              exact hLB i (by omega) s hs c k hk
          refine inner _ 0 m f4 w3 L4 _ rfl (Nat.zero_le _) (by omega) o4 g31 hC4 hL4 h0' hLB4 (fun e he => by omega) (fun b u3 hb => ?_)
          have go : ∀ v, v = nI (clsN q (m + 1)) → Wp g MX12_classes 104 [some (.ref 75), some (.int (nI (clsN q m))), some (.int (bI b)), u3] [.int v] f4 0 0 (fun r f' => MR f wi f' ∧ ∃ n, FnS q n ∧ r = some (.int (if (sqS q n).1 = 2 then -4 else if 100 < n then -3 else nI (clsN q n)))) := fun v hv => by
            subst hv
            refine rn_istore_n dX12_classes_104 (Nat.le_of_ble_eq_true rfl) rfl ?_
            refine rn_goto (tgt := 32) dX12_classes_105 (by decide) ?_
            exact ih (meS q (m + 1)) (by have := meS_lt h0; omega) (m + 1) f4 w3 L4 _ _ rfl h100 (fun i hi => h0' i (by omega)) (fun j a b c => (k4 j b).trans ((k3 j a (by omega)).trans (k2 j a b c))) ⟨F, (hF2.keep (k3 79 (by omega) (by omega))).keep (k4 79 (by omega))⟩ hC4 ⟨g31, g32, g33, Or.inr ⟨m, rfl, h0, g34, o4, hKm.2.1, hKm.2.2.1, hKm.2.2.2.keep (fun k a b => k4 k (by omega))⟩⟩ ((hw 2 (by omega)).trans g2) ((hw 4 (by omega)).trans g4) hL4 (fun i hi => hLB4 i (by omega)) hc2
          cases b with
          | true =>
            refine rn_iload_n dX12_classes_93 rfl ?_
            refine rn_iload_n dX12_classes_94 rfl ?_
            refine rn_if_eq (tgt := 102) dX12_classes_95 (by decide) (fun h => absurd h (by decide)) (fun _ => ?_)
            refine rn_iconst (v := nI 1) dX12_classes_98 (by decide) ?_
            refine rn_goto (tgt := 103) dX12_classes_99 (by decide) ?_
            refine rn_iadd dX12_classes_103 ?_
            exact go _ (by rw [nI_add, clsN_1 (hb.mp rfl)])
          | false =>
            refine rn_iload_n dX12_classes_93 rfl ?_
            refine rn_iload_n dX12_classes_94 rfl ?_
            refine rn_if_eq (tgt := 102) dX12_classes_95 (by decide) (fun _ => ?_) (fun h => absurd (show bI false = 0 from rfl) h)
            refine rn_iconst (v := nI 0) dX12_classes_102 (by decide) ?_
            refine rn_iadd dX12_classes_103 ?_
            exact go _ (by rw [nI_add, clsN_0 (Classical.byContradiction fun h => by have := hb.mpr h; cases this)]; rfl)
        refine rn_if_eq (tgt := 108) dX12_classes_36 (by decide) (fun c36 => ?_) (fun c36 => ?_)
        · exact absurd c36 (by decide)
        · exact h36
      · have hnn : FnS q n := ⟨hn, h0⟩
        have hne := hnn.uniq hF
        subst hne
        refine rn_if_eq (tgt := 108) dX12_classes_36 (by decide) (fun c36 => ?_) (fun c36 => ?_)
        · refine rn_iload_n dX12_classes_108 rfl ?_
          refine rn_iret dX12_classes_109 rfl ?_
          refine ⟨⟨fun j hj => (k3 j (by omega) (by omega)).trans (k2 j (by omega) (by omega) (by omega)), hB.2.2.2.of2 (fun j a b c => (k3 j a (by omega)).trans (k2 j a b c)) ⟨F, hF2.keep (k3 79 (by omega) (by omega))⟩ ⟨_, hC.2.1.keep (fun k a b => k3 k (by omega) (by omega))⟩ har ⟨L, hL.keep (k3 91 (by omega) (by omega))⟩, w3, cv3, o3, (hw 2 (by omega)).trans g2, (hw 4 (by omega)).trans g4⟩, n, hF, ?_⟩
          rw [if_neg hc2, if_neg (by omega)]
        · exact absurd (show (0 : Int32) = 0 from rfl) c36
  have h26 : n0 ≤ 100 → (sqS q n0).1 ≠ 2 → Wp g MX12_classes 26 [some (.ref 75), none, none, none] [] f1 0 0 (fun r f' => MR f wi f' ∧ ∃ n, FnS q n ∧ r = some (.int (if (sqS q n).1 = 2 then -4 else if 100 < n then -3 else nI (clsN q n)))) := fun h100 hc2 => by
    refine rn_aload_n dX12_classes_26 rfl ?_
    refine rn_callV dX12_classes_27 lmX12_256 ⟨Nat.le_of_ble_eq_true rfl, Nat.le_of_ble_eq_true rfl⟩ (cm_begins g f1 hB1 hV) o1 rfl rfl (Nat.le_of_ble_eq_true rfl) ?_
    rintro _ f2 ⟨rfl, k2, hF2, w2, hC, hK, g2, g4⟩
    rw [hq] at hC hK
    obtain ⟨L, hL⟩ := hm.2.2.2.1
    refine rn_iconst (v := nI 0) dX12_classes_30 (by decide) ?_
    refine rn_istore_n dX12_classes_31 (Nat.le_of_ble_eq_true rfl) rfl ?_
    exact loop _ 0 f2 w2 L _ _ rfl h100 (fun i hi => by omega) (fun j a b c => (k2 j a (by omega)).trans (k1 j a c)) hF2 hC hK (g2.trans e2) (g4.trans e4) (hL.keep (k2 91 (by omega) (by omega))) (fun i hi => by omega) hc2
  refine rn_aload_n dX12_classes_4 rfl ?_
  refine rn_get dX12_classes_5 lfX12_227 o1 rfl ?_
  rw [e32]
  refine rn_if_eq (tgt := 14) dX12_classes_8 (by decide) (fun c8 => ?_) (fun c8 => ?_)
  · refine rn_aload_n dX12_classes_14 rfl ?_
    refine rn_get dX12_classes_15 lfX12_224 o1 rfl ?_
    refine rn_bipush (v := nI 100) dX12_classes_18 (by decide) ?_
    rw [e31]
    refine rn_icmp_le (tgt := 26) dX12_classes_20 (by decide) (fun c20 => ?_) (fun c20 => ?_)
    · exact h26 ((nI_leI (b := 100) (by omega) (by decide)).mp c20) (of_decide_eq_false (bI_0.mp c8))
    · refine rn_bipush (v := (-3)) dX12_classes_23 (by decide) ?_
      refine rn_iret dX12_classes_25 rfl ?_
      have h100 : ¬ n0 ≤ 100 := fun h => c20 (nI_le h (by decide))
      exact ⟨hS.MR, n0, hF, by rw [if_neg (of_decide_eq_false (bI_0.mp c8)), if_pos (by omega)]⟩
  · refine rn_bipush (v := (-4)) dX12_classes_11 (by decide) ?_
    refine rn_iret dX12_classes_13 rfl ?_
    exact ⟨hS.MR, n0, hF, by rw [if_pos (of_decide_eq_true (bI_n0.mp c8))]⟩
