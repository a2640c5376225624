abbrev PLE (sz op : Nat) : Ent := .inr (3, [.ref 57, .ref 58, .ref 59, .ref 60, .int (nI sz), .long (lN op)])
def pcode (e : PE) : Nat := (e.2.2.1 * 256 + e.2.1) * 256 + e.1
/-- the class holds the placements l -/
def PLc (f : Mm) (l : List PE) (op : Nat) : Prop := f 56 = some (PLE l.length op) ∧ (∃ b : Nat → Int64, f 57 = some (.inl (1, 1280, .inr (.inl b))) ∧ ∀ k e, l[k]? = some e → b k = lN e.2.2.2) ∧ ∃ d : Nat → Int32, f 58 = some (.inl (0, 1280, .inl d)) ∧ ∀ k e, l[k]? = some e → d k = nI (pcode e)
theorem PLc.keep {f f' : Mm} {l : List PE} {op : Nat} (h : PLc f l op) (e6 : f' 56 = f 56) (e7 : f' 57 = f 57) (e8 : f' 58 = f 58) : PLc f' l op := by
  obtain ⟨h1, ⟨b, h2, h3⟩, d, h4, h5⟩ := h
  exact ⟨e6.trans h1, ⟨b, e7.trans h2, h3⟩, d, e8.trans h4, h5⟩
theorem get_push {α : Type} {l : List α} {e x : α} {k : Nat} (h : (l ++ [e])[k]? = some x) : (k < l.length ∧ l[k]? = some x) ∨ (k = l.length ∧ x = e) := by
  rcases Nat.lt_or_ge k l.length with q | q
  · rw [List.getElem?_append_left q] at h
    exact Or.inl ⟨q, h⟩
  · rw [List.getElem?_append_right q] at h
    have hz : k - l.length < 1 := (List.getElem?_eq_some_iff.mp h).1
    have hk : k = l.length := by omega
    subst hk
    rw [Nat.sub_self] at h
    cases h
    exact Or.inr ⟨rfl, rfl⟩
theorem or8 {a b : Nat} (hb : b < 256) : a * 2 ^ 8 ||| b = a * 256 + b := by
  have := Nat.two_pow_add_eq_or_of_lt (i := 8) hb a
  rw [Nat.mul_comm a (2 ^ 8), ← this, Nat.mul_comm (2 ^ 8) a]
theorem ct_fillForm (g : GG) (f : Mm) {P : PS} {p i t co op : Nat} {l : List PE} (hP : PB f 1 P) (hV : VD P) (hL : PLc f l op) (hp : p < 8) (hi : i < 8) (ht : t < 65536) (hco : co < 4) (hk : pK P p = nI co) (hroom : ∀ c, c ≤ pW P * pH P → (l ++ pl3 P p i t co c).length ≤ 1280) : Ct g MX3_fillForm [.ref 56, .ref 1, .int (nI p), .int (nI i), .int (nI t)] f 0 0 (fun r f' => r = none ∧ FR f f' 56 3 ∧ PLc f' (l ++ pl3 P p i t co (pW P * pH P)) op) := by
  refine Ct.of ok_MX3_fillForm (Nat.le_of_ble_eq_true rfl) ?_
  change Wp g MX3_fillForm 0 [some (.ref 56), some (.ref 1), some (.int (nI p)), some (.int (nI i)), some (.int (nI t)), none, none, none, none] [] f 0 0 _
  have ha := hV.area
  have loop : ∀ (d c : Nat) (f1 : Mm) (w7 : Option Value), (∀ v, w7 = some v → v.category = 2) → pW P * pH P - c = d → c ≤ pW P * pH P → PLc f1 (l ++ pl3 P p i t co c) op → FR f f1 56 3 → Wp g MX3_fillForm 10 [some (.ref 56), some (.ref 1), some (.int (nI p)), some (.int (nI i)), some (.int (nI t)), some (.int (nI co)), some (.int (nI c)), w7, none] [] f1 0 0 (fun r f' => r = none ∧ FR f f' 56 3 ∧ PLc f' (l ++ pl3 P p i t co (pW P * pH P)) op) := by
    intro d
    induction d using Nat.strongRecOn with
    | ind d ih =>
      intro c f1 w7 hw7 hd hc hL1 hF
      have hP1 : PB f1 1 P := hP.keep (fun k x y => hF k (by omega))
      have hr := hroom c hc
      have hlt := ly_lt P t co c
      have h36 := pw_36 ha
      obtain ⟨g1, ⟨b, g2, g3⟩, dd, g4, g5⟩ := id hL1
      refine rn_iload dX3_fillForm_10 rfl ?_
      refine rn_aload_n dX3_fillForm_12 rfl ?_
      refine rn_callV dX3_fillForm_13 lmX3_62 ⟨Nat.le_of_ble_eq_true rfl, Nat.le_of_ble_eq_true rfl⟩ (ct_cellCount g f1 hP1) hP1.1 rfl rfl (Nat.le_of_ble_eq_true rfl) ?_
      rintro _ _ ⟨rfl, rfl⟩
      refine rn_icmp_ge (tgt := 103) dX3_fillForm_16 (by decide) (fun c16 => ?_) (fun c16 => ?_)
      · refine rn_vret dX3_fillForm_103 rfl ?_
        have hc2 := ge_ex c16 (by omega) (by omega)
        have hce : c = pW P * pH P := by omega
        exact ⟨rfl, hF, by rw [← hce]; exact hL1⟩
      · have hc2 := ge_in c16 (by omega)
        refine rn_aload_n dX3_fillForm_19 rfl ?_
        refine rn_iload dX3_fillForm_20 rfl ?_
        refine rn_iload dX3_fillForm_22 rfl ?_
        refine rn_iload dX3_fillForm_24 rfl ?_
        refine rn_callS dX3_fillForm_26 lmX3_66 ⟨Nat.le_of_ble_eq_true rfl, Nat.le_of_ble_eq_true rfl⟩ (ct_lay g f1 hP1 hV ht hco hc2) rfl rfl (Nat.le_of_ble_eq_true rfl) ?_
        rintro _ _ ⟨rfl, rfl⟩
        refine rn_lstore dX3_fillForm_29 (Nat.le_of_ble_eq_true rfl) rfl ?_
        refine rn_lload dX3_fillForm_31 rfl ?_
        refine rn_lconst (v := 0) dX3_fillForm_33 (by decide) ?_
        refine rn_lcmp dX3_fillForm_34 ?_
        refine rn_if_eq (tgt := 97) dX3_fillForm_35 (by decide) (fun c35 => ?_) (fun c35 => ?_)
        · refine rn_iinc (v := nI (c + 1)) dX3_fillForm_97 rfl (nI_1 c) (Nat.le_of_ble_eq_true rfl) rfl ?_
          refine rn_goto (tgt := 10) dX3_fillForm_100 (by decide) ?_
          have hz : ly P t co c = 0 := (lb_eq (b := 0) (by omega) (by decide)).mp ((lg_cmp_eq _ _).mp c35)
          refine ih _ (by omega) (c + 1) f1 (some (.long (lN (ly P t co c)))) (fun v e => by cases e; rfl) rfl (by omega) ?_ hF
          rw [pl3, if_pos hz, List.append_nil]; exact hL1
        · have hnz : ¬ ly P t co c = 0 := fun q => c35 ((lg_cmp_eq _ _).mpr (by rw [q]; rfl))
          have hnext : pl3 P p i t co (c + 1) = pl3 P p i t co c ++ [(p, i, c, ly P t co c)] := by rw [pl3, if_neg hnz]
          have hr2 := hroom (c + 1) (by omega)
          rw [hnext, ← List.append_assoc, List.length_append, List.length_singleton] at hr2
          refine rn_aload_n dX3_fillForm_38 rfl ?_
          refine rn_get dX3_fillForm_39 lfX3_25 g1 rfl ?_
          refine rn_if_lt (tgt := 97) dX3_fillForm_42 (by decide) (fun c42 => ?_) (fun c42 => ?_)
          · refine rn_iinc (v := nI (c + 1)) dX3_fillForm_97 rfl (nI_1 c) (Nat.le_of_ble_eq_true rfl) rfl ?_
            refine rn_goto (tgt := 10) dX3_fillForm_100 (by decide) ?_
            exact absurd c42 (nI_pos (by omega))
          · refine rn_aload_n dX3_fillForm_45 rfl ?_
            refine rn_get dX3_fillForm_46 lfX3_25 g1 rfl ?_
            refine rn_sipush (v := nI 1280) dX3_fillForm_49 (by decide) ?_
            refine rn_icmp_ge (tgt := 97) dX3_fillForm_52 (by decide) (fun c52 => ?_) (fun c52 => ?_)
            · refine rn_iinc (v := nI (c + 1)) dX3_fillForm_97 rfl (nI_1 c) (Nat.le_of_ble_eq_true rfl) rfl ?_
              refine rn_goto (tgt := 10) dX3_fillForm_100 (by decide) ?_
              exact absurd (ge_ex c52 (by omega) (by decide)) (by omega)
            · refine rn_aload_n dX3_fillForm_55 rfl ?_
              refine rn_get dX3_fillForm_56 lfX3_9 g1 rfl ?_
              refine rn_aload_n dX3_fillForm_59 rfl ?_
              refine rn_get dX3_fillForm_60 lfX3_25 g1 rfl ?_
              refine rn_lload dX3_fillForm_63 rfl ?_
              refine rn_last dX3_fillForm_65 g2 (vp_in_nI (show (l ++ pl3 P p i t co c).length < 1280 by omega) (by decide)) ?_
              refine rn_aload_n dX3_fillForm_66 rfl ?_
              refine rn_get dX3_fillForm_67 lfX3_15 ((up_ne (by decide)).trans g1) rfl ?_
              refine rn_aload_n dX3_fillForm_70 rfl ?_
              refine rn_get dX3_fillForm_71 lfX3_25 ((up_ne (by decide)).trans g1) rfl ?_
              refine rn_iload dX3_fillForm_74 rfl ?_
              refine rn_bipush (v := nI 8) dX3_fillForm_76 (by decide) ?_
              refine rn_ishl dX3_fillForm_78 ?_
              rw [nb_shl (by decide) (by omega)]
              refine rn_iload_n dX3_fillForm_79 rfl ?_
              refine rn_ior dX3_fillForm_80 ?_
              rw [nb_or (by omega) (by omega), or8 (by omega)]
              refine rn_bipush (v := nI 8) dX3_fillForm_81 (by decide) ?_
              refine rn_ishl dX3_fillForm_83 ?_
              rw [nb_shl (by decide) (by omega)]
              refine rn_iload_n dX3_fillForm_84 rfl ?_
              refine rn_ior dX3_fillForm_85 ?_
              rw [nb_or (by omega) (by omega), or8 (by omega)]
              refine rn_iast dX3_fillForm_86 ((up_ne (by decide)).trans g4) (vp_in_nI (show (l ++ pl3 P p i t co c).length < 1280 by omega) (by decide)) ?_
              refine rn_aload_n dX3_fillForm_87 rfl ?_
              refine rn_dup dX3_fillForm_88 rfl ?_
              refine rn_get dX3_fillForm_89 lfX3_25 ((up_ne (by decide)).trans ((up_ne (by decide)).trans g1)) rfl ?_
              refine rn_iconst (v := nI 1) dX3_fillForm_92 (by decide) ?_
              refine rn_iadd dX3_fillForm_93 ?_
              rw [nI_add]
              refine rn_put dX3_fillForm_94 lpX3_25 ((up_ne (by decide)).trans ((up_ne (by decide)).trans g1)) rfl rfl (Nat.le_of_ble_eq_true rfl) ?_
              refine rn_iinc (v := nI (c + 1)) dX3_fillForm_97 rfl (nI_1 c) (Nat.le_of_ble_eq_true rfl) rfl ?_
              refine rn_goto (tgt := 10) dX3_fillForm_100 (by decide) ?_
              refine ih _ (by omega) (c + 1) _ (some (.long (lN (ly P t co c)))) (fun v e => by cases e; rfl) rfl (by omega) ?_ (((hF.up (by omega) (by omega)).up (by omega) (by omega)).up (by omega) (by omega))
              rw [hnext, ← List.append_assoc]
              refine ⟨?_, ⟨_, (up_ne (by decide)).trans ((up_ne (by decide)).trans (up_same _ _ _)), fun k e he => ?_⟩, _, (up_ne (by decide)).trans (up_same _ _ _), fun k e he => ?_⟩
              · rw [show (l ++ pl3 P p i t co c ++ [(p, i, c, ly P t co c)]).length = (l ++ pl3 P p i t co c).length + 1 from List.length_append (as := l ++ pl3 P p i t co c) (bs := [(p, i, c, ly P t co c)])]; exact up_same _ _ _
              · rw [nI_clamp (by omega)]
                rcases get_push he with ⟨q1, q2⟩ | ⟨q1, q2⟩
                · rw [vp_updL, if_neg (by omega)]; exact g3 k e q2
                · rw [vp_updL, if_pos q1, q2]
              · rw [nI_clamp (by omega)]
                rcases get_push he with ⟨q1, q2⟩ | ⟨q1, q2⟩
                · rw [upd, if_neg (by omega)]; exact g5 k e q2
                · rw [upd, if_pos q1, q2]; rfl
  refine rn_aload_n dX3_fillForm_0 rfl ?_
  refine rn_iload_n dX3_fillForm_1 rfl ?_
  refine rn_callV dX3_fillForm_2 lmX3_59 ⟨Nat.le_of_ble_eq_true rfl, Nat.le_of_ble_eq_true rfl⟩ (ct_colourOf g f (nI p) hP) hP.1 rfl rfl (Nat.le_of_ble_eq_true rfl) ?_
  rintro _ _ ⟨rfl, rfl⟩
  rw [atf_nI hp (by decide), hk]
  refine rn_istore dX3_fillForm_5 (Nat.le_of_ble_eq_true rfl) rfl ?_
  refine rn_iconst (v := nI 0) dX3_fillForm_7 (by decide) ?_
  refine rn_istore dX3_fillForm_8 (Nat.le_of_ble_eq_true rfl) rfl ?_
  refine loop _ 0 f none (fun v e => by cases e) rfl (by omega) ?_ FR.rf
  rw [pl3, List.append_nil]; exact hL
