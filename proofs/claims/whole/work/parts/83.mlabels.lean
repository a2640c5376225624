-- the Model's labels
def imS (q : SQ) (s c : Nat) : Nat := if s = 8 then c else img q.1 s c
def LBp (q : SQ) (s : Nat) (st : List Nat) (b0 : Nat) (L : Nat → Int32) : Prop := ∀ c k, plO q.2.1 st c = some k → L (b0 + imS q s c) = nI (labS q (imS q s) k)
def okS (q : SQ) (s : Nat) : Prop := s = 8 ∨ (s < 8 ∧ isSy q.1 s = true)
theorem imS_lt {q : SQ} {s c : Nat} (hQ : QV q) (hs : okS q s) (hc : c < ar q) : imS q s c < ar q := by
  unfold imS
  rcases hs with e | ⟨h1, h2⟩
  · rw [if_pos e]; exact hc
  · rw [if_neg (by omega)]; exact img_lt hQ.1 h1 (isSy_ok h2).1 hc
theorem imS_inj {q : SQ} {s c d : Nat} (hQ : QV q) (hs : okS q s) (hc : c < ar q) (hd : d < ar q) (h : imS q s c = imS q s d) : c = d := by
  unfold imS at h
  rcases hs with e | ⟨h1, h2⟩
  · rw [if_pos e, if_pos e] at h; exact h
  · rw [if_neg (by omega), if_neg (by omega)] at h; exact img_inj hQ.1 h1 (isSy_ok h2).1 hc hd h

theorem cm_labels (g : GG) (f : Mm) {q : SQ} {x : SX} {w L : Nat → Int32} {no s : Nat} (hK : MK f q x w) (hC : CXm f q w) (hQ : QV q) (hi : IVs q x.1) (hL : AR f 91 32400 L) (hno : no < 100) (hs : okS q s) : Ct g MX12_labels [.ref 75, .int (nI no), .int (nI s)] f 0 0 (fun r f' => r = none ∧ (∀ j, j ≠ 91 → f' j = f j) ∧ ∃ L', AR f' 91 32400 L' ∧ LBp q s x.1 (324 * no + 36 * s) L' ∧ ∀ j, (j < 324 * no + 36 * s ∨ 324 * no + 36 * s + 36 ≤ j) → L' j = L j) := by
  refine Ct.of ok_MX12_labels (Nat.le_of_ble_eq_true rfl) ?_
  change Wp g MX12_labels 0 [some (.ref 75), some (.int (nI no)), some (.int (nI s)), none, none, none, none, none] [] f 0 0 _
  obtain ⟨hM, h26, h30, ⟨U, hU, hUe⟩, -⟩ := id hK
  obtain ⟨⟨sr, hsr, hP⟩, hLm, hw⟩ := id hC
  obtain ⟨u, hu, hue⟩ := id hU
  obtain ⟨⟨b1, g1, q1⟩, -⟩ := id hLm
  have ha := hQ.1.area
  have har : ar q = pW q.1 * pH q.1 := rfl
  have hl := hQ.2.1.2.1
  have v8 := hQ.1.2.2.2.2
  have hlen := (len_low hQ hi).2
  have hs9 : s < 9 := by
    rcases hs with e | ⟨h1, h2⟩ <;> omega
  have him : ∀ c, c < ar q → imS q s c < ar q := fun c hc => imS_lt hQ hs hc
  have loopB : ∀ (d c k j : Nat) (f1 : Mm) (L0 L1 : Nat → Int32) (w7 : Option Value), ar q - c = d → c ≤ ar q → k < q.2.1.length → U j = nI k → j < 36 → (∀ j, j ≠ 91 → f1 j = f j) → AR f1 91 32400 L1 → (∀ c', c' < ar q → L1 (324 * no + 36 * s + imS q s c') = if c' < c ∧ (msk q.2.1 k).testBit c' = true then nI (labS q (imS q s) k) else L0 (324 * no + 36 * s + imS q s c')) → (∀ j, (j < 324 * no + 36 * s ∨ 324 * no + 36 * s + 36 ≤ j) → L1 j = L j) → (∀ (f2 : Mm) (L2 : Nat → Int32) (w6 w7 : Option Value), (∀ j, j ≠ 91 → f2 j = f j) → AR f2 91 32400 L2 → (∀ c', c' < ar q → L2 (324 * no + 36 * s + imS q s c') = if (msk q.2.1 k).testBit c' = true then nI (labS q (imS q s) k) else L0 (324 * no + 36 * s + imS q s c')) → (∀ j, (j < 324 * no + 36 * s ∨ 324 * no + 36 * s + 36 ≤ j) → L2 j = L j) → Wp g MX12_labels 174 [some (.ref 75), some (.int (nI no)), some (.int (nI s)), some (.int (nI (324 * no + 36 * s))), some (.int (nI j)), some (.int (nI (mnI (imS q s) (msk q.2.1 k) (ar q)))), w6, w7] [] f2 0 0 (fun r f' => r = none ∧ (∀ j, j ≠ 91 → f' j = f j) ∧ ∃ L', AR f' 91 32400 L' ∧ LBp q s x.1 (324 * no + 36 * s) L' ∧ ∀ j, (j < 324 * no + 36 * s ∨ 324 * no + 36 * s + 36 ≤ j) → L' j = L j)) → Wp g MX12_labels 100 [some (.ref 75), some (.int (nI no)), some (.int (nI s)), some (.int (nI (324 * no + 36 * s))), some (.int (nI j)), some (.int (nI (mnI (imS q s) (msk q.2.1 k) (ar q)))), some (.int (nI c)), w7] [] f1 0 0 (fun r f' => r = none ∧ (∀ j, j ≠ 91 → f' j = f j) ∧ ∃ L', AR f' 91 32400 L' ∧ LBp q s x.1 (324 * no + 36 * s) L' ∧ ∀ j, (j < 324 * no + 36 * s ∨ 324 * no + 36 * s + 36 ≤ j) → L' j = L j) := by
    intro d
    induction d using Nat.strongRecOn with
    | ind d ih =>
      intro c k j f1 L0 L1 w7 hd hc hk hUj hj k1 hL1 hI hO kk
      have o1 := (k1 75 (by decide)).trans hM
      have hs1 := hsr.keep (k1 76 (by decide))
      have hp := hQ.pc hk
      have uj : u j = nI k := (hue j (by omega)).trans hUj
      obtain ⟨lb, hlb, hlbe⟩ := id hL1
      by_cases hlt : c < ar q
      · have hic := him c hlt
        have nx : (msk q.2.1 k).testBit c = false → ∀ w7, Wp g MX12_labels 168 [some (.ref 75), some (.int (nI no)), some (.int (nI s)), some (.int (nI (324 * no + 36 * s))), some (.int (nI j)), some (.int (nI (mnI (imS q s) (msk q.2.1 k) (ar q)))), some (.int (nI c)), w7] [] f1 0 0 (fun r f' => r = none ∧ (∀ j, j ≠ 91 → f' j = f j) ∧ ∃ L', AR f' 91 32400 L' ∧ LBp q s x.1 (324 * no + 36 * s) L' ∧ ∀ j, (j < 324 * no + 36 * s ∨ 324 * no + 36 * s + 36 ≤ j) → L' j = L j) := fun hb w7 => by
          refine rn_iinc (v := nI (c + 1)) dX12_labels_168 rfl (nI_1 c) (Nat.le_of_ble_eq_true rfl) rfl ?_
          refine rn_goto (tgt := 100) dX12_labels_171 (by decide) ?_
          refine ih _ (by omega) (c + 1) k j f1 L0 L1 _ rfl (by omega) hk hUj hj k1 hL1 (fun c' hc' => ?_) hO kk
          rw [hI c' hc']
          by_cases e : c' = c
          · rw [e, hb]; simp
          · by_cases e2 : c' < c
            · simp [e2, show c' < c + 1 by omega]
            · simp [e2, show ¬ c' < c + 1 by omega]
        have at148 : (msk q.2.1 k).testBit c = true → ∀ w7, Wp g MX12_labels 148 [some (.ref 75), some (.int (nI no)), some (.int (nI s)), some (.int (nI (324 * no + 36 * s))), some (.int (nI j)), some (.int (nI (mnI (imS q s) (msk q.2.1 k) (ar q)))), some (.int (nI c)), w7] [.int (nI (imS q s c)), .int (nI (324 * no + 36 * s)), .ref 91] f1 0 0 (fun r f' => r = none ∧ (∀ j, j ≠ 91 → f' j = f j) ∧ ∃ L', AR f' 91 32400 L' ∧ LBp q s x.1 (324 * no + 36 * s) L' ∧ ∀ j, (j < 324 * no + 36 * s ∨ 324 * no + 36 * s + 36 ≤ j) → L' j = L j) := fun hb w7 => by
          refine rn_iadd dX12_labels_148 ?_
          rw [nI_add]
          refine rn_bipush (v := nI 64) dX12_labels_149 (by decide) ?_
          refine rn_aload_n dX12_labels_151 rfl ?_
          refine rn_get dX12_labels_152 lfX12_23 o1 rfl ?_
          refine rn_aload_n dX12_labels_155 rfl ?_
          refine rn_get dX12_labels_156 lfX12_45 o1 rfl ?_
          refine rn_iload dX12_labels_159 rfl ?_
          refine rn_iald dX12_labels_161 ((k1 87 (by decide)).trans hu) (vp_in_nI (show j < 37 by omega) (by decide)) ?_
          rw [nI_clamp (by omega), uj]
          refine rn_iald dX12_labels_162 ((k1 80 (by decide)).trans g1) (vp_in_nI (show k < 2304 by omega) (by decide)) ?_
          rw [nI_clamp (by omega), q1 k _ (gp_some hk)]
          refine rn_imul dX12_labels_163 ?_
          rw [pk_mul]
          refine rn_iload dX12_labels_164 rfl ?_
          refine rn_iadd dX12_labels_166 ?_
          rw [nI_add]
          refine rn_iast dX12_labels_167 hlb (vp_in_nI (show 324 * no + 36 * s + imS q s c < 32400 by omega) (by decide)) ?_
          refine Wp.gen (e := .inl (0, 32400, .inl (upd lb (nI (324 * no + 36 * s + imS q s c)).toNatClampNeg (nI (64 * (gp q.2.1 k).1 + mnI (imS q s) (msk q.2.1 k) (ar q)))))) (fun f2 k2 o2 => ?_)
          refine rn_iinc (v := nI (c + 1)) dX12_labels_168 rfl (nI_1 c) (Nat.le_of_ble_eq_true rfl) rfl ?_
          refine rn_goto (tgt := 100) dX12_labels_171 (by decide) ?_
          refine ih _ (by omega) (c + 1) k j f2 L0 (upd L1 (324 * no + 36 * s + imS q s c) (nI (labS q (imS q s) k))) _ rfl (by omega) hk hUj hj (fun j h => (k2 j h).trans (k1 j h)) ⟨_, o2, fun i hi2 => ?_⟩ (fun c' hc' => ?_) (fun i hi2 => ?_) kk
          · rw [nI_clamp (by omega)]
            by_cases e : i = 324 * no + 36 * s + imS q s c
            · rw [e, upd_eq, upd_eq]; rfl
            · rw [upd_ne e, upd_ne e]; exact hlbe i hi2
          · by_cases e : c' = c
            · rw [e, upd_eq, if_pos ⟨Nat.lt_succ_self c, hb⟩]
            · rw [upd_ne (fun h => e (imS_inj hQ hs hc' hlt (by omega))), hI c' hc']
              by_cases e2 : c' < c
              · simp [e2, show c' < c + 1 by omega]
              · simp [e2, show ¬ c' < c + 1 by omega]
          · rw [upd_ne (by omega)]; exact hO i hi2
        refine rn_iload dX12_labels_100 rfl ?_
        refine rn_aload_n dX12_labels_102 rfl ?_
        refine rn_callV dX12_labels_103 lmX12_68 ⟨Nat.le_of_ble_eq_true rfl, Nat.le_of_ble_eq_true rfl⟩ (cm_cells g f1 o1 hs1 hP) o1 rfl rfl (Nat.le_of_ble_eq_true rfl) ?_
        rintro _ _ ⟨rfl, rfl⟩
        refine rn_icmp_ge (tgt := 174) dX12_labels_106 (by decide) (fun c106 => ?_) (fun c106 => ?_)
        · exact absurd (ge_ex c106 (by omega) (by omega)) (by omega)
        · refine rn_aload_n dX12_labels_109 rfl ?_
          refine rn_aload_n dX12_labels_110 rfl ?_
          refine rn_get dX12_labels_111 lfX12_45 o1 rfl ?_
          refine rn_iload dX12_labels_114 rfl ?_
          refine rn_iald dX12_labels_116 ((k1 87 (by decide)).trans hu) (vp_in_nI (show j < 37 by omega) (by decide)) ?_
          rw [nI_clamp (by omega), uj]
          refine rn_iload dX12_labels_117 rfl ?_
          refine rn_callV dX12_labels_119 lmX12_152 ⟨Nat.le_of_ble_eq_true rfl, Nat.le_of_ble_eq_true rfl⟩ (ch_has g f1 o1 (hLm.keep (fun k a b => k1 k (by omega))) hQ.2.1 hk (show c < 64 by omega)) o1 rfl rfl (Nat.le_of_ble_eq_true rfl) ?_
          rintro _ _ ⟨rfl, rfl⟩
          refine rn_if_eq (tgt := 168) dX12_labels_122 (by decide) (fun c122 => ?_) (fun c122 => ?_)
          · exact nx (bI_0.mp c122) _
          · refine rn_aload_n dX12_labels_125 rfl ?_
            refine rn_get dX12_labels_126 lfX12_57 o1 rfl ?_
            refine rn_iload_n dX12_labels_129 rfl ?_
            refine rn_iload_n dX12_labels_130 rfl ?_
            refine rn_bipush (v := nI 8) dX12_labels_131 (by decide) ?_
            refine rn_icmp_ne (tgt := 141) dX12_labels_133 (by decide) (fun c133 => ?_) (fun c133 => ?_)
            · have h8 : s < 8 := by
                rcases hs with e | ⟨h1, h2⟩
                · exact absurd (show nI s = nI 8 by rw [e]) c133
                · exact h1
              refine rn_aload_n dX12_labels_141 rfl ?_
              refine rn_iload_n dX12_labels_142 rfl ?_
              refine rn_iload dX12_labels_143 rfl ?_
              refine rn_callV dX12_labels_145 lmX12_271 ⟨Nat.le_of_ble_eq_true rfl, Nat.le_of_ble_eq_true rfl⟩ (cm_image g f1 o1 hs1 hP hQ.1 h8 hlt) o1 rfl rfl (Nat.le_of_ble_eq_true rfl) ?_
              rintro _ _ ⟨rfl, rfl⟩
              have e := at148 (bI_n0.mp c122) w7
              rw [imS, if_neg (by omega)] at e
              exact e
            · refine rn_iload dX12_labels_136 rfl ?_
              refine rn_goto (tgt := 148) dX12_labels_138 (by decide) ?_
              have e := at148 (bI_n0.mp c122) w7
              rw [imS, if_pos ((nI_eq (b := 8) (by omega) (by decide)).mp c133)] at e
              exact e
      · have hce : c = ar q := by omega
        subst hce
        refine rn_iload dX12_labels_100 rfl ?_
        refine rn_aload_n dX12_labels_102 rfl ?_
        refine rn_callV dX12_labels_103 lmX12_68 ⟨Nat.le_of_ble_eq_true rfl, Nat.le_of_ble_eq_true rfl⟩ (cm_cells g f1 o1 hs1 hP) o1 rfl rfl (Nat.le_of_ble_eq_true rfl) ?_
        rintro _ _ ⟨rfl, rfl⟩
        refine rn_icmp_ge (tgt := 174) dX12_labels_106 (by decide) (fun c106 => ?_) (fun c106 => ?_)
        · refine kk f1 L1 _ _ k1 hL1 (fun c' hc' => ?_) hO
          rw [hI c' hc']
          simp only [hc', true_and]
        · exact absurd (ge_in c106 (by omega)) (by omega)
  have loopA : ∀ (d c k j : Nat) (f1 : Mm) (w7 : Option Value), ar q - c = d → c ≤ ar q → k < q.2.1.length → U j = nI k → j < 36 → (∀ j, j ≠ 91 → f1 j = f j) → (∀ w7, Wp g MX12_labels 97 [some (.ref 75), some (.int (nI no)), some (.int (nI s)), some (.int (nI (324 * no + 36 * s))), some (.int (nI j)), some (.int (nI (mnI (imS q s) (msk q.2.1 k) (ar q)))), some (.int (nI (ar q))), w7] [] f1 0 0 (fun r f' => r = none ∧ (∀ j, j ≠ 91 → f' j = f j) ∧ ∃ L', AR f' 91 32400 L' ∧ LBp q s x.1 (324 * no + 36 * s) L' ∧ ∀ j, (j < 324 * no + 36 * s ∨ 324 * no + 36 * s + 36 ≤ j) → L' j = L j)) → Wp g MX12_labels 30 [some (.ref 75), some (.int (nI no)), some (.int (nI s)), some (.int (nI (324 * no + 36 * s))), some (.int (nI j)), some (.int (nI (mnI (imS q s) (msk q.2.1 k) c))), some (.int (nI c)), w7] [] f1 0 0 (fun r f' => r = none ∧ (∀ j, j ≠ 91 → f' j = f j) ∧ ∃ L', AR f' 91 32400 L' ∧ LBp q s x.1 (324 * no + 36 * s) L' ∧ ∀ j, (j < 324 * no + 36 * s ∨ 324 * no + 36 * s + 36 ≤ j) → L' j = L j) := by
    intro d
    induction d using Nat.strongRecOn with
    | ind d ih =>
      intro c k j f1 w7 hd hc hk hUj hj k1 kk
      have o1 := (k1 75 (by decide)).trans hM
      have hs1 := hsr.keep (k1 76 (by decide))
      have uj : u j = nI k := (hue j (by omega)).trans hUj
      have h36 := mnI_36 (imS q s) (msk q.2.1 k) c
      by_cases hlt : c < ar q
      · have hic := him c hlt
        have nx : ∀ (v : Nat) (w7 : Option Value), v = mnI (imS q s) (msk q.2.1 k) (c + 1) → Wp g MX12_labels 89 [some (.ref 75), some (.int (nI no)), some (.int (nI s)), some (.int (nI (324 * no + 36 * s))), some (.int (nI j)), some (.int (nI (mnI (imS q s) (msk q.2.1 k) c))), some (.int (nI c)), w7] [.int (nI v)] f1 0 0 (fun r f' => r = none ∧ (∀ j, j ≠ 91 → f' j = f j) ∧ ∃ L', AR f' 91 32400 L' ∧ LBp q s x.1 (324 * no + 36 * s) L' ∧ ∀ j, (j < 324 * no + 36 * s ∨ 324 * no + 36 * s + 36 ≤ j) → L' j = L j) := fun v w7 hv => by
          subst hv
          refine rn_istore dX12_labels_89 (Nat.le_of_ble_eq_true rfl) rfl ?_
          refine rn_iinc (v := nI (c + 1)) dX12_labels_91 rfl (nI_1 c) (Nat.le_of_ble_eq_true rfl) rfl ?_
          refine rn_goto (tgt := 30) dX12_labels_94 (by decide) ?_
          exact ih _ (by omega) (c + 1) k j f1 _ rfl (by omega) hk hUj hj k1 kk
        have at57 : ∀ w7, Wp g MX12_labels 57 [some (.ref 75), some (.int (nI no)), some (.int (nI s)), some (.int (nI (324 * no + 36 * s))), some (.int (nI j)), some (.int (nI (mnI (imS q s) (msk q.2.1 k) c))), some (.int (nI c)), w7] [.int (nI (imS q s c))] f1 0 0 (fun r f' => r = none ∧ (∀ j, j ≠ 91 → f' j = f j) ∧ ∃ L', AR f' 91 32400 L' ∧ LBp q s x.1 (324 * no + 36 * s) L' ∧ ∀ j, (j < 324 * no + 36 * s ∨ 324 * no + 36 * s + 36 ≤ j) → L' j = L j) := fun w7 => by
          refine rn_istore dX12_labels_57 (Nat.le_of_ble_eq_true rfl) rfl ?_
          refine rn_aload_n dX12_labels_59 rfl ?_
          refine rn_aload_n dX12_labels_60 rfl ?_
          refine rn_get dX12_labels_61 lfX12_45 o1 rfl ?_
          refine rn_iload dX12_labels_64 rfl ?_
          refine rn_iald dX12_labels_66 ((k1 87 (by decide)).trans hu) (vp_in_nI (show j < 37 by omega) (by decide)) ?_
          rw [nI_clamp (by omega), uj]
          refine rn_iload dX12_labels_67 rfl ?_
          refine rn_callV dX12_labels_69 lmX12_152 ⟨Nat.le_of_ble_eq_true rfl, Nat.le_of_ble_eq_true rfl⟩ (ch_has g f1 o1 (hLm.keep (fun k a b => k1 k (by omega))) hQ.2.1 hk (show c < 64 by omega)) o1 rfl rfl (Nat.le_of_ble_eq_true rfl) ?_
          rintro _ _ ⟨rfl, rfl⟩
          refine rn_if_eq (tgt := 87) dX12_labels_72 (by decide) (fun c72 => ?_) (fun c72 => ?_)
          · refine rn_iload dX12_labels_87 rfl ?_
            exact nx _ _ (by rw [mnI, if_neg (fun h => by rw [bI_0.mp c72] at h; exact absurd h.1 (by decide))])
          · refine rn_iload dX12_labels_75 rfl ?_
            refine rn_iload dX12_labels_77 rfl ?_
            refine rn_icmp_ge (tgt := 87) dX12_labels_79 (by decide) (fun c79 => ?_) (fun c79 => ?_)
            · refine rn_iload dX12_labels_87 rfl ?_
              have hge := ge_ex c79 (by omega) (by omega)
              exact nx _ _ (by rw [mnI, if_neg (fun h => absurd h.2 (by omega))])
            · refine rn_iload dX12_labels_82 rfl ?_
              refine rn_goto (tgt := 89) dX12_labels_84 (by decide) ?_
              have hlt2 := ge_in c79 (by omega)
              exact nx _ _ (by rw [mnI, if_pos ⟨bI_n0.mp c72, hlt2⟩])
        refine rn_iload dX12_labels_30 rfl ?_
        refine rn_aload_n dX12_labels_32 rfl ?_
        refine rn_callV dX12_labels_33 lmX12_68 ⟨Nat.le_of_ble_eq_true rfl, Nat.le_of_ble_eq_true rfl⟩ (cm_cells g f1 o1 hs1 hP) o1 rfl rfl (Nat.le_of_ble_eq_true rfl) ?_
        rintro _ _ ⟨rfl, rfl⟩
        refine rn_icmp_ge (tgt := 97) dX12_labels_36 (by decide) (fun c36 => ?_) (fun c36 => ?_)
        · exact absurd (ge_ex c36 (by omega) (by omega)) (by omega)
        · refine rn_iload_n dX12_labels_39 rfl ?_
          refine rn_bipush (v := nI 8) dX12_labels_40 (by decide) ?_
          refine rn_icmp_ne (tgt := 50) dX12_labels_42 (by decide) (fun c42 => ?_) (fun c42 => ?_)
          · have h8 : s < 8 := by
              rcases hs with e | ⟨h1, h2⟩
              · exact absurd (show nI s = nI 8 by rw [e]) c42
              · exact h1
            refine rn_aload_n dX12_labels_50 rfl ?_
            refine rn_iload_n dX12_labels_51 rfl ?_
            refine rn_iload dX12_labels_52 rfl ?_
            refine rn_callV dX12_labels_54 lmX12_271 ⟨Nat.le_of_ble_eq_true rfl, Nat.le_of_ble_eq_true rfl⟩ (cm_image g f1 o1 hs1 hP hQ.1 h8 hlt) o1 rfl rfl (Nat.le_of_ble_eq_true rfl) ?_
            rintro _ _ ⟨rfl, rfl⟩
            have e := at57 w7
            rw [imS, if_neg (by omega)] at e
            exact e
          · refine rn_iload dX12_labels_45 rfl ?_
            refine rn_goto (tgt := 57) dX12_labels_47 (by decide) ?_
            have e := at57 w7
            rw [imS, if_pos ((nI_eq (b := 8) (by omega) (by decide)).mp c42)] at e
            exact e
      · have hce : c = ar q := by omega
        subst hce
        refine rn_iload dX12_labels_30 rfl ?_
        refine rn_aload_n dX12_labels_32 rfl ?_
        refine rn_callV dX12_labels_33 lmX12_68 ⟨Nat.le_of_ble_eq_true rfl, Nat.le_of_ble_eq_true rfl⟩ (cm_cells g f1 o1 hs1 hP) o1 rfl rfl (Nat.le_of_ble_eq_true rfl) ?_
        rintro _ _ ⟨rfl, rfl⟩
        refine rn_icmp_ge (tgt := 97) dX12_labels_36 (by decide) (fun c36 => ?_) (fun c36 => ?_)
        · exact kk _
        · exact absurd (ge_in c36 (by omega)) (by omega)
  have loop : ∀ (d : Nat) (a b : List Nat) (f1 : Mm) (L1 : Nat → Int32) (w5 w6 w7 : Option Value), a.length = d → x.1 = a ++ b → (∀ j, j ≠ 91 → f1 j = f j) → AR f1 91 32400 L1 → LBp q s b (324 * no + 36 * s) L1 → (∀ j, (j < 324 * no + 36 * s ∨ 324 * no + 36 * s + 36 ≤ j) → L1 j = L j) → Wp g MX12_labels 14 [some (.ref 75), some (.int (nI no)), some (.int (nI s)), some (.int (nI (324 * no + 36 * s))), some (.int (nI b.length)), w5, w6, w7] [] f1 0 0 (fun r f' => r = none ∧ (∀ j, j ≠ 91 → f' j = f j) ∧ ∃ L', AR f' 91 32400 L' ∧ LBp q s x.1 (324 * no + 36 * s) L' ∧ ∀ j, (j < 324 * no + 36 * s ∨ 324 * no + 36 * s + 36 ≤ j) → L' j = L j) := by
    intro d
    induction d with
    | zero =>
      intro a b f1 L1 w5 w6 w7 hd he k1 hL1 hB hO
      have hae : a = [] := List.eq_nil_of_length_eq_zero hd
      rw [hae, List.nil_append] at he
      have o1 := (k1 75 (by decide)).trans hM
      have hbl : b.length = x.1.length := by rw [he]
      refine rn_iload dX12_labels_14 rfl ?_
      refine rn_aload_n dX12_labels_16 rfl ?_
      refine rn_get dX12_labels_17 lfX12_218 o1 rfl ?_
      rw [h26]
      refine rn_icmp_ge (tgt := 180) dX12_labels_20 (by decide) (fun c20 => ?_) (fun c20 => ?_)
      · refine rn_vret dX12_labels_180 rfl ?_
        exact ⟨rfl, k1, L1, hL1, by rw [he]; exact hB, hO⟩
      · exact absurd (ge_in c20 (by omega)) (by omega)
    | succ d ih =>
      intro a b f1 L1 w5 w6 w7 hd he k1 hL1 hB hO
      obtain ⟨a', k, e1, e2⟩ := last_of hd
      rw [e1, List.append_assoc, List.singleton_append] at he
      have o1 := (k1 75 (by decide)).trans hM
      have hb : b.length < x.1.length := by rw [he, List.length_append, List.length_cons]; omega
      have hk : k < q.2.1.length := IVs_get hi k (by rw [he]; simp)
      have hUk : U b.length = nI k := hUe _ _ (by rw [he]; exact rev_mid a' b k)
      refine rn_iload dX12_labels_14 rfl ?_
      refine rn_aload_n dX12_labels_16 rfl ?_
      refine rn_get dX12_labels_17 lfX12_218 o1 rfl ?_
      rw [h26]
      refine rn_icmp_ge (tgt := 180) dX12_labels_20 (by decide) (fun c20 => ?_) (fun c20 => ?_)
      · exact absurd (ge_ex c20 (by omega) (by omega)) (by omega)
      · refine rn_bipush (v := nI 36) dX12_labels_23 (by decide) ?_
        refine rn_istore dX12_labels_25 (Nat.le_of_ble_eq_true rfl) rfl ?_
        refine rn_iconst (v := nI 0) dX12_labels_27 (by decide) ?_
        refine rn_istore dX12_labels_28 (Nat.le_of_ble_eq_true rfl) rfl ?_
        refine loopA _ 0 k b.length f1 _ rfl (Nat.zero_le _) hk hUk (by omega) k1 (fun w7 => ?_)
        refine rn_iconst (v := nI 0) dX12_labels_97 (by decide) ?_
        refine rn_istore dX12_labels_98 (Nat.le_of_ble_eq_true rfl) rfl ?_
        refine loopB _ 0 k b.length f1 L1 L1 w7 rfl (Nat.zero_le _) hk hUk (by omega) k1 hL1 (fun c' hc' => by rw [if_neg (fun h => absurd h.1 (by omega))]) hO (fun f2 L2 u6 u7 k2 hL2 hI2 hO2 => ?_)
        refine rn_iinc (v := nI (b.length + 1)) dX12_labels_174 rfl (nI_1 _) (Nat.le_of_ble_eq_true rfl) rfl ?_
        refine rn_goto (tgt := 14) dX12_labels_177 (by decide) ?_
        refine ih a' (k :: b) f2 L2 _ _ _ e2 he k2 hL2 (fun c k' hk' => ?_) hO2
        rw [plO] at hk'
        by_cases hbit : (msk q.2.1 k).testBit c = true
        · rw [if_pos hbit] at hk'
          cases hk'
          rw [hI2 c (mk_ar hQ hk hbit).1, if_pos hbit]
        · rw [if_neg hbit] at hk'
          have hm := plO_mem hk'
          have hk2 : k' < q.2.1.length := IVs_get hi k' (by rw [he]; simp [hm.1])
          rw [hI2 c (mk_ar hQ hk2 hm.2).1, if_neg hbit]
          exact hB c k' hk'
  refine rn_sipush (v := nI 324) dX12_labels_0 (by decide) ?_
  refine rn_iload_n dX12_labels_3 rfl ?_
  refine rn_imul dX12_labels_4 ?_
  rw [pk_mul]
  refine rn_bipush (v := nI 36) dX12_labels_5 (by decide) ?_
  refine rn_iload_n dX12_labels_7 rfl ?_
  refine rn_imul dX12_labels_8 ?_
  rw [pk_mul]
  refine rn_iadd dX12_labels_9 ?_
  rw [nI_add]
  refine rn_istore_n dX12_labels_10 (Nat.le_of_ble_eq_true rfl) rfl ?_
  refine rn_iconst (v := nI 0) dX12_labels_11 (by decide) ?_
  refine rn_istore dX12_labels_12 (Nat.le_of_ble_eq_true rfl) rfl ?_
  exact loop _ x.1 [] f L _ _ _ rfl (List.append_nil _).symm (fun _ _ => rfl) hL (fun c k h => by cases h) (fun _ _ => rfl)
