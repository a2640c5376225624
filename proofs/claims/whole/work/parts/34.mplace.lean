-- the Model's placements: rows at 80 to 84, their number at 12
def PLm (f : Mm) (l : List PE) : Prop := (∃ b : Nat → Int32, f 80 = some (.inl (0, 2304, .inl b)) ∧ ∀ k e, l[k]? = some e → b k = nI e.1) ∧ (∃ b : Nat → Int32, f 81 = some (.inl (0, 2304, .inl b)) ∧ ∀ k e, l[k]? = some e → b k = nI e.2.1) ∧ (∃ b : Nat → Int32, f 82 = some (.inl (0, 2304, .inl b)) ∧ ∀ k e, l[k]? = some e → b k = nI e.2.2.1) ∧ (∃ b : Nat → Int64, f 83 = some (.inl (1, 2304, .inr (.inl b))) ∧ ∀ k e, l[k]? = some e → b k = lN e.2.2.2) ∧ ∃ b : Nat → Int32, f 84 = some (.inl (0, 2304, .inl b)) ∧ ∀ k e, l[k]? = some e → b k = nI (low e.2.2.2)
theorem PLm.keep {f f' : Mm} {l : List PE} (h : PLm f l) (e : ∀ k, 80 ≤ k → k ≤ 84 → f' k = f k) : PLm f' l := by
  obtain ⟨⟨b1, h1, q1⟩, ⟨b2, h2, q2⟩, ⟨b3, h3, q3⟩, ⟨b4, h4, q4⟩, b5, h5, q5⟩ := h
  exact ⟨⟨b1, (e 80 (by decide) (by decide)).trans h1, q1⟩, ⟨b2, (e 81 (by decide) (by decide)).trans h2, q2⟩, ⟨b3, (e 82 (by decide) (by decide)).trans h3, q3⟩, ⟨b4, (e 83 (by decide) (by decide)).trans h4, q4⟩, b5, (e 84 (by decide) (by decide)).trans h5, q5⟩
theorem PLm.nil {f : Mm} {l : List PE} (h : PLm f l) : PLm f [] := by
  obtain ⟨⟨b1, h1, q1⟩, ⟨b2, h2, q2⟩, ⟨b3, h3, q3⟩, ⟨b4, h4, q4⟩, b5, h5, q5⟩ := h
  exact ⟨⟨b1, h1, fun k e h => by simp at h⟩, ⟨b2, h2, fun k e h => by simp at h⟩, ⟨b3, h3, fun k e h => by simp at h⟩, ⟨b4, h4, fun k e h => by simp at h⟩, b5, h5, fun k e h => by simp at h⟩
theorem updL_eq (w : Nat → Int64) (k : Nat) (x : Int64) : vp_updL w k x k = x := by simp [vp_updL]
/-- one placement put behind -/
theorem row_push {b : Nat → Int32} {l : List PE} {e0 : PE} {x : Int32} {fn : PE → Int32} (h : ∀ k e, l[k]? = some e → b k = fn e) (hx : x = fn e0) : ∀ k e, (l ++ [e0])[k]? = some e → upd b l.length x k = fn e := fun k e he => by
  rcases get_push he with ⟨q1, q2⟩ | ⟨q1, q2⟩
  · rw [upd, if_neg (by omega)]; exact h k e q2
  · rw [upd, if_pos q1, q2, hx]
theorem row_pushL {b : Nat → Int64} {l : List PE} {e0 : PE} {x : Int64} {fn : PE → Int64} (h : ∀ k e, l[k]? = some e → b k = fn e) (hx : x = fn e0) : ∀ k e, (l ++ [e0])[k]? = some e → vp_updL b l.length x k = fn e := fun k e he => by
  rcases get_push he with ⟨q1, q2⟩ | ⟨q1, q2⟩
  · rw [vp_updL, if_neg (by omega)]; exact h k e q2
  · rw [vp_updL, if_pos q1, q2, hx]
theorem len_push (l : List PE) (e : PE) : (l ++ [e]).length = l.length + 1 := List.length_append (as := l) (bs := [e])
def mW (wi : Nat → Int32) (a b : Int32) : Nat → Int32 := upd (upd wi 6 a) 12 b
theorem mW_6 (wi : Nat → Int32) (a b : Int32) : mW wi a b 6 = a := by simp [mW, upd]
theorem mW_12 (wi : Nat → Int32) (a b : Int32) : mW wi a b 12 = b := by simp [mW, upd]
theorem mW_u6 (wi : Nat → Int32) (a b x : Int32) : upd (mW wi a b) 6 x = mW wi x b := by
  funext j
  by_cases h6 : j = 6
  · subst h6; simp [mW, upd]
  · by_cases h12 : j = 12
    · subst h12; simp [mW, upd]
    · simp [mW, upd, h6, h12]
theorem mW_u12 (wi : Nat → Int32) (a b x : Int32) : upd (mW wi a b) 12 x = mW wi a x := by
  funext j
  by_cases h12 : j = 12
  · subst h12; simp [mW, upd]
  · simp [mW, upd, h12]
theorem mW_of (wi : Nat → Int32) : wi = mW wi (wi 6) (wi 12) := by
  funext j
  by_cases h6 : j = 6
  · subst h6; simp [mW, upd]
  · by_cases h12 : j = 12
    · subst h12; simp [mW, upd]
    · simp [mW, upd, h6, h12]
theorem cm_findsPlacements (g : GG) (f : Mm) {wi s F : Nat → Int32} {cv : Int64} {P : PS} {sh fr co cp : Nat → Nat} {l0 : List PE} (hM : f 75 = some (MO wi cv)) (hs : AR f 76 73 s) (hF : AR f 79 9 F) (hL : PLm f l0) (hP : SP s P) (hV : VD P) (hN : VN P sh fr co cp) : Ct g MX12_findsPlacements [.ref 75] f 0 0 (fun r f' => r = none ∧ (∀ k, k ≠ 75 → (k < 79 ∨ 84 < k) → f' k = f k) ∧ PLm f' (pl1 P sh fr co (pN P)) ∧ (∃ F', AR f' 79 9 F') ∧ ∃ a, f' 75 = some (MO (mW wi a (nI (pl1 P sh fr co (pN P)).length)) cv)) := by
  refine Ct.of ok_MX12_findsPlacements (Nat.le_of_ble_eq_true rfl) ?_
  change Wp g MX12_findsPlacements 0 [some (.ref 75), none, none, none, none, none] [] f 0 0 _
  have ha := hV.area
  obtain ⟨v1, v2, v3, v4, v8⟩ := id hV
  have h36 := pw_36 ha
  -- a piece's form's cells
  have loop3 : ∀ (p i : Nat), p < pN P → i < fmN (sh p) (fr p) → ∀ (Q : Option Value → Mm → Prop), (∀ (f2 : Mm) (F2 : Nat → Int32) (w4 : Option Value), f2 75 = some (MO (mW wi (nI (fmN (sh p) (fr p))) (nI (pl1 P sh fr co p ++ pl2 P (sh p) (fr p) (co p) p (i + 1)).length)) cv) → AR f2 79 9 F2 → (∀ j, j < fmN (sh p) (fr p) → F2 j = nI (fmA (sh p) (fr p) j)) → PLm f2 (pl1 P sh fr co p ++ pl2 P (sh p) (fr p) (co p) p (i + 1)) → (∀ k, k ≠ 75 → (k < 79 ∨ 84 < k) → f2 k = f k) → Wp g MX12_findsPlacements 154 [some (.ref 75), some (.int (nI p)), some (.int (nI i)), some (.int (nI (pW P * pH P))), w4, none] [] f2 0 0 Q) → ∀ (d c : Nat) (f1 : Mm) (F1 : Nat → Int32) (w4 : Option Value), pW P * pH P - c = d → c ≤ pW P * pH P → f1 75 = some (MO (mW wi (nI (fmN (sh p) (fr p))) (nI (pl1 P sh fr co p ++ pl2 P (sh p) (fr p) (co p) p i ++ pl3 P p i (fmA (sh p) (fr p) i) (co p) c).length)) cv) → AR f1 79 9 F1 → (∀ j, j < fmN (sh p) (fr p) → F1 j = nI (fmA (sh p) (fr p) j)) → PLm f1 (pl1 P sh fr co p ++ pl2 P (sh p) (fr p) (co p) p i ++ pl3 P p i (fmA (sh p) (fr p) i) (co p) c) → (∀ k, k ≠ 75 → (k < 79 ∨ 84 < k) → f1 k = f k) → Wp g MX12_findsPlacements 34 [some (.ref 75), some (.int (nI p)), some (.int (nI i)), some (.int (nI c)), w4, none] [] f1 0 0 Q := by
    intro p i hp hi Q hQ
    obtain ⟨n1, n2, n3, n4, n5, n6, n7, n8, n9⟩ := hN p hp
    obtain ⟨e1, e2, e3, e4⟩ := hP.2.2.2.2.2.2 p hp
    have hfm := fmN_le _ n2 _ n4
    have htl := shL_lt _ (fmA_in n2 n4 hi)
    intro d
    induction d using Nat.strongRecOn with
    | ind d ih =>
      intro c f1 F1 w4 hd hc o1 hF1 hf1 hL1 hfr
      have hs1 : AR f1 76 73 s := hs.keep (hfr 76 (by decide) (by omega))
      obtain ⟨bs, hbs, hbse⟩ := id hs1
      obtain ⟨bf, hbf, hbfe⟩ := id hF1
      have hr := pl_room hV hN hp hi hc
      have hlt := ly_lt P (fmA (sh p) (fr p) i) (co p) c
      obtain ⟨⟨b1, g1, q1⟩, ⟨b2, g2, q2⟩, ⟨b3, g3, q3⟩, ⟨b4, g4, q4⟩, b5, g5, q5⟩ := id hL1
      have hw0 : bs (nI 0).toNatClampNeg = nI (pW P) := by rw [nI_clamp (by decide), hbse 0 (by omega), hP.1]
      generalize hl : pl1 P sh fr co p ++ pl2 P (sh p) (fr p) (co p) p i ++ pl3 P p i (fmA (sh p) (fr p) i) (co p) c = l at *
      refine Wp.sub (lv' := [some (.ref 75), some (.int (nI p)), some (.int (nI i)), some (.int (nI c)), none, none]) (fun i v hv => ?_) ?_
      · match i, hv with
        | 0, hv => exact hv
        | 1, hv => exact hv
        | 2, hv => exact hv
        | 3, hv => exact hv
        | 4, hv => cases hv
        | 5, hv => cases hv
      refine rn_iload_n dX12_findsPlacements_34 rfl ?_
      refine rn_aload_n dX12_findsPlacements_35 rfl ?_
      refine rn_callV dX12_findsPlacements_36 lmX12_68 ⟨Nat.le_of_ble_eq_true rfl, Nat.le_of_ble_eq_true rfl⟩ (cm_cells g f1 o1 hs1 hP) o1 rfl rfl (Nat.le_of_ble_eq_true rfl) ?_
      rintro _ _ ⟨rfl, rfl⟩
      refine rn_icmp_ge (tgt := 154) dX12_findsPlacements_39 (by decide) (fun c39 => ?_) (fun c39 => ?_)
      · have hc2 := ge_ex c39 (by omega) (by omega)
        have hce : c = pW P * pH P := by omega
        subst hce
        have hl2 : pl1 P sh fr co p ++ pl2 P (sh p) (fr p) (co p) p (i + 1) = l := by rw [pl2, ← List.append_assoc]; exact hl
        exact hQ f1 F1 none (by rw [hl2]; exact o1) hF1 hf1 (by rw [hl2]; exact hL1) hfr
      · have hc2 := ge_in c39 (by omega)
        refine rn_aload_n dX12_findsPlacements_42 rfl ?_
        refine rn_aload_n dX12_findsPlacements_43 rfl ?_
        refine rn_get dX12_findsPlacements_44 lfX12_20 o1 rfl ?_
        refine rn_iload_n dX12_findsPlacements_47 rfl ?_
        refine rn_iald dX12_findsPlacements_48 hbf (vp_in_nI (show i < 9 by omega) (by decide)) ?_
        rw [nI_clamp (by omega), hbfe i (by omega), hf1 i hi]
        refine rn_iload_n dX12_findsPlacements_49 rfl ?_
        refine rn_aload_n dX12_findsPlacements_50 rfl ?_
        refine rn_get dX12_findsPlacements_51 lfX12_7 o1 rfl ?_
        refine rn_iconst (v := nI 0) dX12_findsPlacements_54 (by decide) ?_
        refine rn_iald dX12_findsPlacements_55 hbs (vp_in_nI (show 0 < 73 by omega) (by decide)) ?_
        rw [hw0]
        refine rn_irem dX12_findsPlacements_56 (nI_ne0 (by omega) (by omega)) ?_
        rw [pk_rem (by omega) (by omega) (by omega)]
        refine rn_iload_n dX12_findsPlacements_57 rfl ?_
        refine rn_aload_n dX12_findsPlacements_58 rfl ?_
        refine rn_get dX12_findsPlacements_59 lfX12_7 o1 rfl ?_
        refine rn_iconst (v := nI 0) dX12_findsPlacements_62 (by decide) ?_
        refine rn_iald dX12_findsPlacements_63 hbs (vp_in_nI (show 0 < 73 by omega) (by decide)) ?_
        rw [hw0]
        refine rn_idiv dX12_findsPlacements_64 (nI_ne0 (by omega) (by omega)) ?_
        rw [pk_div (by omega) (by omega) (by omega)]
        refine rn_aload_n dX12_findsPlacements_65 rfl ?_
        refine rn_iload_n dX12_findsPlacements_66 rfl ?_
        refine rn_iconst (v := nI 2) dX12_findsPlacements_67 (by decide) ?_
        refine rn_callV dX12_findsPlacements_68 lmX12_95 ⟨Nat.le_of_ble_eq_true rfl, Nat.le_of_ble_eq_true rfl⟩ (cm_its g f1 o1 hs1 (by omega) (by decide)) o1 rfl rfl (Nat.le_of_ble_eq_true rfl) ?_
        rintro _ _ ⟨rfl, rfl⟩
        rw [e3, n5]
        refine rn_callV dX12_findsPlacements_71 lmX12_112 ⟨Nat.le_of_ble_eq_true rfl, Nat.le_of_ble_eq_true rfl⟩ (cm_cellsOf g f1 o1 hs1 hP hV htl.1 n6 hc2) o1 rfl rfl (Nat.le_of_ble_eq_true rfl) ?_
        rintro _ _ ⟨rfl, rfl⟩
        refine rn_lstore dX12_findsPlacements_74 (Nat.le_of_ble_eq_true rfl) rfl ?_
        refine rn_lload dX12_findsPlacements_76 rfl ?_
        refine rn_lconst (v := 0) dX12_findsPlacements_78 (by decide) ?_
        refine rn_lcmp dX12_findsPlacements_79 ?_
        refine rn_if_eq (tgt := 148) dX12_findsPlacements_80 (by decide) (fun c80 => ?_) (fun c80 => ?_)
        · skip
          refine rn_iinc (v := nI (c + 1)) dX12_findsPlacements_148 rfl (nI_1 c) (Nat.le_of_ble_eq_true rfl) rfl ?_
          refine rn_goto (tgt := 34) dX12_findsPlacements_151 (by decide) ?_
          have hz : ly P (fmA (sh p) (fr p) i) (co p) c = 0 := (lb_eq (b := 0) (by omega) (by decide)).mp ((lg_cmp_eq _ _).mp c80)
          have hnext : pl1 P sh fr co p ++ pl2 P (sh p) (fr p) (co p) p i ++ pl3 P p i (fmA (sh p) (fr p) i) (co p) (c + 1) = l := by rw [pl3, if_pos hz, List.append_nil, hl]
          exact ih _ (by omega) (c + 1) f1 F1 (some (.long (lN (ly P (fmA (sh p) (fr p) i) (co p) c)))) rfl (by omega) (by rw [hnext]; exact o1) hF1 hf1 (by rw [hnext]; exact hL1) hfr
        · have hnz : ¬ ly P (fmA (sh p) (fr p) i) (co p) c = 0 := fun q => c80 ((lg_cmp_eq _ _).mpr (by rw [q]; rfl))
          have hnext : pl1 P sh fr co p ++ pl2 P (sh p) (fr p) (co p) p i ++ pl3 P p i (fmA (sh p) (fr p) i) (co p) (c + 1) = l ++ [(p, i, c, ly P (fmA (sh p) (fr p) i) (co p) c)] := by rw [pl3, if_neg hnz, ← List.append_assoc, hl]
          have hr2 := pl_room hV hN hp hi (show c + 1 ≤ pW P * pH P by omega)
          rw [hnext, len_push] at hr2
          generalize hmm : ly P (fmA (sh p) (fr p) i) (co p) c = m at *
          refine rn_aload_n dX12_findsPlacements_83 rfl ?_
          refine rn_get dX12_findsPlacements_84 lfX12_23 o1 rfl ?_
          refine rn_aload_n dX12_findsPlacements_87 rfl ?_
          refine rn_get dX12_findsPlacements_88 lfX12_106 o1 rfl ?_
          rw [mW_12]
          refine rn_iload_n dX12_findsPlacements_91 rfl ?_
          refine rn_iast dX12_findsPlacements_92 g1 (vp_in_nI (show l.length < 2304 by omega) (by decide)) ?_
          refine rn_aload_n dX12_findsPlacements_93 rfl ?_
          refine rn_get dX12_findsPlacements_94 lfX12_26 ((up_ne (by decide)).trans o1) rfl ?_
          refine rn_aload_n dX12_findsPlacements_97 rfl ?_
          refine rn_get dX12_findsPlacements_98 lfX12_106 ((up_ne (by decide)).trans o1) rfl ?_
          rw [mW_12]
          refine rn_iload_n dX12_findsPlacements_101 rfl ?_
          refine rn_iast dX12_findsPlacements_102 ((up_ne (by decide)).trans g2) (vp_in_nI (show l.length < 2304 by omega) (by decide)) ?_
          refine rn_aload_n dX12_findsPlacements_103 rfl ?_
          refine rn_get dX12_findsPlacements_104 lfX12_29 ((up_ne (by decide)).trans ((up_ne (by decide)).trans o1)) rfl ?_
          refine rn_aload_n dX12_findsPlacements_107 rfl ?_
          refine rn_get dX12_findsPlacements_108 lfX12_106 ((up_ne (by decide)).trans ((up_ne (by decide)).trans o1)) rfl ?_
          rw [mW_12]
          refine rn_iload_n dX12_findsPlacements_111 rfl ?_
          refine rn_iast dX12_findsPlacements_112 ((up_ne (by decide)).trans ((up_ne (by decide)).trans g3)) (vp_in_nI (show l.length < 2304 by omega) (by decide)) ?_
          refine rn_aload_n dX12_findsPlacements_113 rfl ?_
          refine rn_get dX12_findsPlacements_114 lfX12_32 ((up_ne (by decide)).trans ((up_ne (by decide)).trans ((up_ne (by decide)).trans o1))) rfl ?_
          refine rn_aload_n dX12_findsPlacements_117 rfl ?_
          refine rn_get dX12_findsPlacements_118 lfX12_106 ((up_ne (by decide)).trans ((up_ne (by decide)).trans ((up_ne (by decide)).trans o1))) rfl ?_
          rw [mW_12]
          refine rn_lload dX12_findsPlacements_121 rfl ?_
          refine rn_last dX12_findsPlacements_123 ((up_ne (by decide)).trans ((up_ne (by decide)).trans ((up_ne (by decide)).trans g4))) (vp_in_nI (show l.length < 2304 by omega) (by decide)) ?_
          refine rn_aload_n dX12_findsPlacements_124 rfl ?_
          refine rn_get dX12_findsPlacements_125 lfX12_36 ((up_ne (by decide)).trans ((up_ne (by decide)).trans ((up_ne (by decide)).trans ((up_ne (by decide)).trans o1)))) rfl ?_
          refine rn_aload_n dX12_findsPlacements_128 rfl ?_
          refine rn_get dX12_findsPlacements_129 lfX12_106 ((up_ne (by decide)).trans ((up_ne (by decide)).trans ((up_ne (by decide)).trans ((up_ne (by decide)).trans o1)))) rfl ?_
          rw [mW_12]
          refine rn_lload dX12_findsPlacements_132 rfl ?_
          refine rn_callS dX12_findsPlacements_134 lmX12_116 ⟨Nat.le_of_ble_eq_true rfl, Nat.le_of_ble_eq_true rfl⟩ (cm_lowest g _ (n := m) (by omega) (by omega)) rfl rfl (Nat.le_of_ble_eq_true rfl) ?_
          rintro _ _ ⟨rfl, rfl⟩
          refine rn_iast dX12_findsPlacements_137 ((up_ne (by decide)).trans ((up_ne (by decide)).trans ((up_ne (by decide)).trans ((up_ne (by decide)).trans g5)))) (vp_in_nI (show l.length < 2304 by omega) (by decide)) ?_
          refine rn_aload_n dX12_findsPlacements_138 rfl ?_
          refine rn_dup dX12_findsPlacements_139 rfl ?_
          refine rn_get dX12_findsPlacements_140 lfX12_106 ((up_ne (by decide)).trans ((up_ne (by decide)).trans ((up_ne (by decide)).trans ((up_ne (by decide)).trans ((up_ne (by decide)).trans o1))))) rfl ?_
          refine rn_iconst (v := nI 1) dX12_findsPlacements_143 (by decide) ?_
          refine rn_iadd dX12_findsPlacements_144 ?_
          rw [mW_12, nI_add]
          refine rn_put dX12_findsPlacements_145 lpX12_106 ((up_ne (by decide)).trans ((up_ne (by decide)).trans ((up_ne (by decide)).trans ((up_ne (by decide)).trans ((up_ne (by decide)).trans o1))))) rfl rfl (Nat.le_of_ble_eq_true rfl) ?_
          rw [ms12]
          skip
          refine rn_iinc (v := nI (c + 1)) dX12_findsPlacements_148 rfl (nI_1 c) (Nat.le_of_ble_eq_true rfl) rfl ?_
          refine rn_goto (tgt := 34) dX12_findsPlacements_151 (by decide) ?_
          refine ih _ (by omega) (c + 1) _ F1 (some (.long (lN m))) rfl (by omega) ?_ (hF1.keep ((up_ne (by decide)).trans ((up_ne (by decide)).trans ((up_ne (by decide)).trans ((up_ne (by decide)).trans ((up_ne (by decide)).trans (up_ne (by decide)))))))) hf1 ?_ (fun k x y => (up_ne (by omega)).trans ((up_ne (by omega)).trans ((up_ne (by omega)).trans ((up_ne (by omega)).trans ((up_ne (by omega)).trans ((up_ne (by omega)).trans (hfr k x y)))))))
          · rw [hnext, len_push, mW_u12]; exact up_same _ _ _
          · rw [hnext, nI_clamp (by omega)]
            exact ⟨⟨_, (up_ne (by decide)).trans ((up_ne (by decide)).trans ((up_ne (by decide)).trans ((up_ne (by decide)).trans ((up_ne (by decide)).trans (up_same _ _ _))))), row_push (fn := fun e => nI e.1) q1 rfl⟩, ⟨_, (up_ne (by decide)).trans ((up_ne (by decide)).trans ((up_ne (by decide)).trans ((up_ne (by decide)).trans (up_same _ _ _)))), row_push (fn := fun e => nI e.2.1) q2 rfl⟩, ⟨_, (up_ne (by decide)).trans ((up_ne (by decide)).trans ((up_ne (by decide)).trans (up_same _ _ _))), row_push (fn := fun e => nI e.2.2.1) q3 rfl⟩, ⟨_, (up_ne (by decide)).trans ((up_ne (by decide)).trans (up_same _ _ _)), row_pushL (fn := fun e => lN e.2.2.2) q4 rfl⟩, _, (up_ne (by decide)).trans (up_same _ _ _), row_push (fn := fun e => nI (low e.2.2.2)) q5 rfl⟩
  have loop1 : ∀ (d p : Nat) (f1 : Mm) (F1 : Nat → Int32) (a : Int32) (w2 w3 w4 : Option Value), pN P - p = d → p ≤ pN P → f1 75 = some (MO (mW wi a (nI (pl1 P sh fr co p).length)) cv) → AR f1 79 9 F1 → PLm f1 (pl1 P sh fr co p) → (∀ k, k ≠ 75 → (k < 79 ∨ 84 < k) → f1 k = f k) → Wp g MX12_findsPlacements 7 [some (.ref 75), some (.int (nI p)), w2, w3, w4, none] [] f1 0 0 (fun r f' => r = none ∧ (∀ k, k ≠ 75 → (k < 79 ∨ 84 < k) → f' k = f k) ∧ PLm f' (pl1 P sh fr co (pN P)) ∧ (∃ F', AR f' 79 9 F') ∧ ∃ a, f' 75 = some (MO (mW wi a (nI (pl1 P sh fr co (pN P)).length)) cv)) := by
    intro d
    induction d using Nat.strongRecOn with
    | ind d ih =>
      intro p f1 F1 a w2 w3 w4 hd hp o1 hF1 hL1 hfr
      have hs1 : AR f1 76 73 s := hs.keep (hfr 76 (by decide) (by omega))
      obtain ⟨bs, hbs, hbse⟩ := id hs1
      refine Wp.sub (lv' := [some (.ref 75), some (.int (nI p)), none, none, none, none]) (fun i v hv => ?_) ?_
      · match i, hv with
        | 0, hv => exact hv
        | 1, hv => exact hv
        | 2, hv => cases hv
        | 3, hv => cases hv
        | 4, hv => cases hv
        | 5, hv => cases hv
      have loop2 : ∀ (e i : Nat) (f2 : Mm) (F2 : Nat → Int32) (w3 w4 : Option Value), p < pN P → fmN (sh p) (fr p) - i = e → i ≤ fmN (sh p) (fr p) → f2 75 = some (MO (mW wi (nI (fmN (sh p) (fr p))) (nI (pl1 P sh fr co p ++ pl2 P (sh p) (fr p) (co p) p i).length)) cv) → AR f2 79 9 F2 → (∀ j, j < fmN (sh p) (fr p) → F2 j = nI (fmA (sh p) (fr p) j)) → PLm f2 (pl1 P sh fr co p ++ pl2 P (sh p) (fr p) (co p) p i) → (∀ k, k ≠ 75 → (k < 79 ∨ 84 < k) → f2 k = f k) → Wp g MX12_findsPlacements 24 [some (.ref 75), some (.int (nI p)), some (.int (nI i)), w3, w4, none] [] f2 0 0 (fun r f' => r = none ∧ (∀ k, k ≠ 75 → (k < 79 ∨ 84 < k) → f' k = f k) ∧ PLm f' (pl1 P sh fr co (pN P)) ∧ (∃ F', AR f' 79 9 F') ∧ ∃ a, f' 75 = some (MO (mW wi a (nI (pl1 P sh fr co (pN P)).length)) cv)) := by
        intro e
        induction e using Nat.strongRecOn with
        | ind e ihe =>
          intro i f2 F2 w3 w4 hpN he hi o2 hF2 hf2 hL2 hfr2
          obtain ⟨n1, n2, n3, n4, n5, n6, n7, n8, n9⟩ := hN p hpN
          have hfm := fmN_le _ n2 _ n4
          refine Wp.sub (lv' := [some (.ref 75), some (.int (nI p)), some (.int (nI i)), none, none, none]) (fun i v hv => ?_) ?_
          · match i, hv with
            | 0, hv => exact hv
            | 1, hv => exact hv
            | 2, hv => exact hv
            | 3, hv => cases hv
            | 4, hv => cases hv
            | 5, hv => cases hv
          refine rn_iload_n dX12_findsPlacements_24 rfl ?_
          refine rn_aload_n dX12_findsPlacements_25 rfl ?_
          refine rn_get dX12_findsPlacements_26 lfX12_92 o2 rfl ?_
          rw [mW_6]
          refine rn_icmp_ge (tgt := 160) dX12_findsPlacements_29 (by decide) (fun c29 => ?_) (fun c29 => ?_)
          · refine rn_iinc (v := nI (p + 1)) dX12_findsPlacements_160 rfl (nI_1 p) (Nat.le_of_ble_eq_true rfl) rfl ?_
            refine rn_goto (tgt := 7) dX12_findsPlacements_163 (by decide) ?_
            have hi2 := ge_ex c29 (by omega) (by omega)
            have hie : i = fmN (sh p) (fr p) := by omega
            subst hie
            exact ih _ (by omega) (p + 1) f2 F2 _ _ _ _ rfl (by omega) o2 hF2 hL2 hfr2
          · refine rn_iconst (v := nI 0) dX12_findsPlacements_32 (by decide) ?_
            refine rn_istore_n dX12_findsPlacements_33 (Nat.le_of_ble_eq_true rfl) rfl ?_
            have hi2 := ge_in c29 (by omega)
            refine loop3 p i hpN hi2 _ (fun f3 F3 w4 o3 hF3 hf3 hL3 hfr3 => ?_) _ 0 f2 F2 none rfl (by omega) (by rw [pl3, List.append_nil]; exact o2) hF2 hf2 (by rw [pl3, List.append_nil]; exact hL2) hfr2
            refine rn_iinc (v := nI (i + 1)) dX12_findsPlacements_154 rfl (nI_1 i) (Nat.le_of_ble_eq_true rfl) rfl ?_
            refine rn_goto (tgt := 24) dX12_findsPlacements_157 (by decide) ?_
            exact ihe _ (by omega) (i + 1) f3 F3 _ _ hpN rfl (by omega) o3 hF3 hf3 hL3 hfr3
      refine rn_iload_n dX12_findsPlacements_7 rfl ?_
      refine rn_aload_n dX12_findsPlacements_8 rfl ?_
      refine rn_get dX12_findsPlacements_9 lfX12_7 o1 rfl ?_
      refine rn_iconst (v := nI 4) dX12_findsPlacements_12 (by decide) ?_
      refine rn_iald dX12_findsPlacements_13 hbs (vp_in_nI (show 4 < 73 by omega) (by decide)) ?_
      rw [nI_clamp (by decide), hbse 4 (by omega), hP.2.2.2.2.1]
      refine rn_icmp_ge (tgt := 166) dX12_findsPlacements_14 (by decide) (fun c14 => ?_) (fun c14 => ?_)
      · refine rn_vret dX12_findsPlacements_166 rfl ?_
        have hp2 := ge_ex c14 (by omega) (by omega)
        have hpe : p = pN P := by omega
        subst hpe
        exact ⟨rfl, hfr, hL1, ⟨F1, hF1⟩, a, o1⟩
      · have hp2 := ge_in c14 (by omega)
        refine rn_aload_n dX12_findsPlacements_17 rfl ?_
        refine rn_iload_n dX12_findsPlacements_18 rfl ?_
        refine rn_callV dX12_findsPlacements_19 lmX12_109 ⟨Nat.le_of_ble_eq_true rfl, Nat.le_of_ble_eq_true rfl⟩ (cm_findsForms g f1 o1 hs1 hF1 hP hV hN hp2) o1 rfl rfl (Nat.le_of_ble_eq_true rfl) ?_
        rintro _ f2 ⟨rfl, k2, o2, F2, hF2, hf2⟩
        rw [mW_u6] at o2
        refine rn_iconst (v := nI 0) dX12_findsPlacements_22 (by decide) ?_
        refine rn_istore_n dX12_findsPlacements_23 (Nat.le_of_ble_eq_true rfl) rfl ?_
        refine loop2 _ 0 f2 F2 none none hp2 rfl (by omega) (by rw [pl2, List.append_nil]; exact o2) hF2 hf2 ?_ (fun k x y => (k2 k x (by omega)).trans (hfr k x y))
        rw [pl2, List.append_nil]; exact hL1.keep (fun k x y => k2 k (by omega) (by omega))
  refine rn_aload_n dX12_findsPlacements_0 rfl ?_
  refine rn_iconst (v := nI 0) dX12_findsPlacements_1 (by decide) ?_
  refine rn_put dX12_findsPlacements_2 lpX12_106 hM rfl rfl (Nat.le_of_ble_eq_true rfl) ?_
  rw [ms12]
  refine rn_iconst (v := nI 0) dX12_findsPlacements_5 (by decide) ?_
  refine rn_istore_n dX12_findsPlacements_6 (Nat.le_of_ble_eq_true rfl) rfl ?_
  refine loop1 _ 0 _ F (wi 6) none none none rfl (by omega) ?_ (hF.keep (up_ne (by decide))) (hL.nil.keep (fun k x y => up_ne (by omega))) (fun k x y => up_ne x)
  rw [show upd wi 12 (nI 0) = mW wi (wi 6) (nI 0) by rw [← mW_u12 wi (wi 6) (wi 12), ← mW_of]]
  exact up_same _ _ _
