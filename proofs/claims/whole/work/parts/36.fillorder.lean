-- counts by the smallest cell
def clf (lo : Nat → Nat) (c : Nat) : Nat → Nat
  | 0 => 0
  | k + 1 => clf lo c k + (if lo k = c then 1 else 0)
def cLf (lo : Nat → Nat) (N : Nat) : Nat → Nat
  | 0 => 0
  | c + 1 => cLf lo N c + clf lo c N
theorem cLf_s (lo : Nat → Nat) (N : Nat) : ∀ C, cLf lo (N + 1) C = cLf lo N C + (if lo N < C then 1 else 0)
  | 0 => by simp [cLf]
  | C + 1 => by
    have ih := cLf_s lo N C
    simp only [cLf, clf, ih]
    by_cases h1 : lo N < C
    · rw [if_pos h1, if_neg (by omega), if_pos (by omega)]; omega
    · rw [if_neg h1]
      by_cases h2 : lo N = C
      · rw [if_pos h2, if_pos (by omega)]; omega
      · rw [if_neg h2, if_neg (by omega)]; omega
theorem cLf_le (lo : Nat → Nat) (C : Nat) : ∀ N, cLf lo N C ≤ N
  | 0 => by
    have : ∀ C, cLf lo 0 C = 0 := fun C => by
      induction C with
      | zero => rfl
      | succ C ih => simp [cLf, clf, ih]
    rw [this]; exact Nat.le_refl 0
  | N + 1 => by
    have ih := cLf_le lo C N
    rw [cLf_s]
    split <;> omega
theorem clf_mono (lo : Nat → Nat) (c k : Nat) : ∀ d, clf lo c k ≤ clf lo c (k + d)
  | 0 => Nat.le_refl _
  | d + 1 => by
    have := clf_mono lo c k d
    rw [show k + (d + 1) = k + d + 1 from rfl, clf]
    omega
theorem clf_lt {lo : Nat → Nat} {c k j : Nat} (h : k < j) (hk : lo k = c) : clf lo c k < clf lo c j := by
  have := clf_mono lo c (k + 1) (j - (k + 1))
  rw [show k + 1 + (j - (k + 1)) = j by omega, clf, if_pos hk] at this
  omega
theorem cLf_mono (lo : Nat → Nat) (N c : Nat) : ∀ d, cLf lo N c ≤ cLf lo N (c + d)
  | 0 => Nat.le_refl _
  | d + 1 => by
    have := cLf_mono lo N c d
    rw [show c + (d + 1) = c + d + 1 from rfl, cLf]
    omega
/-- where a placement stands in the order -/
def posf (lo : Nat → Nat) (N k : Nat) : Nat := cLf lo N (lo k) + clf lo (lo k) k
theorem posf_lt {lo : Nat → Nat} {N k : Nat} (h : k < N) : posf lo N k < cLf lo N (lo k + 1) := by
  have := clf_lt (c := lo k) h rfl
  rw [cLf]; unfold posf; omega
theorem posf_ne {lo : Nat → Nat} {N k j : Nat} (hj : j < N) (h : k < j) : posf lo N j ≠ posf lo N k := by
  by_cases e : lo k = lo j
  · have := clf_lt (c := lo k) h rfl
    unfold posf
    rw [← e]; omega
  · have h1 := posf_lt (lo := lo) hj
    have h2 := posf_lt (lo := lo) (show k < N by omega)
    have b1 : cLf lo N (lo j) ≤ posf lo N j := Nat.le_add_right _ _
    have b2 : cLf lo N (lo k) ≤ posf lo N k := Nat.le_add_right _ _
    rcases Nat.lt_or_ge (lo k) (lo j) with q | q
    · have := cLf_mono lo N (lo k + 1) (lo j - (lo k + 1))
      rw [show lo k + 1 + (lo j - (lo k + 1)) = lo j by omega] at this
      omega
    · have := cLf_mono lo N (lo j + 1) (lo k - (lo j + 1))
      rw [show lo j + 1 + (lo k - (lo j + 1)) = lo k by omega] at this
      omega
def loP (l : List PE) (k : Nat) : Nat := low (gp l k).2.2.2
theorem low_lt36 {n : Nat} (h0 : 0 < n) (hn : n < 2 ^ 36) : low n < 36 := by
  obtain ⟨t1, t2⟩ := low_tb h0 (show n < 2 ^ 64 by omega)
  rcases Nat.lt_or_ge (low n) 36 with q | q
  · exact q
  · have : n.testBit (low n) = false := Nat.testBit_lt_two_pow (Nat.lt_of_lt_of_le hn (Nat.pow_le_pow_right (by decide) q))
    rw [t1] at this; cases this
/-- the order stands -/
def ORD (f : Mm) (l : List PE) : Prop := ∃ O S : Nat → Int32, AR f 59 1280 O ∧ AR f 60 37 S ∧ (∀ c, c < 37 → S c = nI (cLf (loP l) l.length c)) ∧ ∀ k, k < l.length → O (posf (loP l) l.length k) = nI k
theorem ct_fillOrder (g : GG) (f : Mm) {l : List PE} {op : Nat} {O S : Nat → Int32} (hL : PLc f l op) (hE : EVs l) (hl : l.length ≤ 1280) (hO : AR f 59 1280 O) (hS : AR f 60 37 S) : Ct g MX3_fillOrder [.ref 56] f 0 0 (fun r f' => r = none ∧ FR f f' 59 2 ∧ ORD f' l) := by
  refine Ct.of ok_MX3_fillOrder (Nat.le_of_ble_eq_true rfl) ?_
  change Wp g MX3_fillOrder 0 [some (.ref 56), none, none, none] [] f 0 0 _
  have hlo : ∀ k, k < l.length → loP l k < 36 := fun k hk => low_lt36 (hE k hk).2.2.2.1 (hE k hk).2.2.2.2
  have kp : ∀ {f1 : Mm}, FR f f1 59 2 → PLc f1 l op := fun h => hL.keep (h 56 (by omega)) (h 57 (by omega)) (h 58 (by omega))
  have loopD : ∀ (k : Nat) (f1 : Mm) (B T : Nat → Int32) (w1 w3 : Option Value), k ≤ l.length → FR f f1 59 2 → AR f1 59 1280 B → AR f1 60 37 T → (∀ c, c < 37 → T c = nI (cLf (loP l) l.length c + clf (loP l) c k)) → (∀ j, k ≤ j → j < l.length → B (posf (loP l) l.length j) = nI j) → Wp g MX3_fillOrder 109 [some (.ref 56), w1, some (.int (nI k - nI 1)), w3] [] f1 0 0 (fun r f' => r = none ∧ FR f f' 59 2 ∧ ORD f' l) := by
    intro k
    induction k with
    | zero =>
      intro f1 B T w1 w3 hk hF hB hT h1 h2
      refine rn_iload_n dX3_fillOrder_109 rfl ?_
      refine rn_if_lt (tgt := 162) dX3_fillOrder_110 (by decide) (fun c110 => ?_) (fun c110 => ?_)
      · refine rn_vret dX3_fillOrder_162 rfl ?_
        exact ⟨rfl, hF, B, T, hB, hT, fun c hc => by rw [h1 c hc, clf, Nat.add_zero], fun j hj => h2 j (by omega) hj⟩
      · exact absurd (show nI 0 - nI 1 < 0 by decide) c110
    | succ k ih =>
      intro f1 B T w1 w3 hk hF hB hT h1 h2
      have hL1 := kp hF
      have hlk := hlo k (by omega)
      have hlen := cLf_le (loP l) (loP l k + 1) l.length
      have hpos := posf_lt (lo := loP l) (show k < l.length by omega)
      rw [show nI (k + 1) - nI 1 = nI k from pk_sub (a := k + 1) (b := 1) (by omega)]
      refine Wp.sub (lv' := [some (.ref 56), none, some (.int (nI k)), none]) (fun i v hv => ?_) ?_
      · match i, hv with
        | 0, hv => exact hv
        | 1, hv => cases hv
        | 2, hv => exact hv
        | 3, hv => cases hv
      refine rn_iload_n dX3_fillOrder_109 rfl ?_
      refine rn_if_lt (tgt := 162) dX3_fillOrder_110 (by decide) (fun c110 => ?_) (fun c110 => ?_)
      · refine rn_vret dX3_fillOrder_162 rfl ?_
        exact absurd c110 (nI_pos (by omega))
      · refine rn_aload_n dX3_fillOrder_113 rfl ?_
        refine rn_iload_n dX3_fillOrder_114 rfl ?_
        refine rn_callV dX3_fillOrder_115 lmX3_91 ⟨Nat.le_of_ble_eq_true rfl, Nat.le_of_ble_eq_true rfl⟩ (ct_maskOf g f1 hL1 (by omega) hl) hL1.1 rfl rfl (Nat.le_of_ble_eq_true rfl) ?_
        rintro _ _ ⟨rfl, rfl⟩
        refine rn_callS dX3_fillOrder_118 lmX3_95 ⟨Nat.le_of_ble_eq_true rfl, Nat.le_of_ble_eq_true rfl⟩ (ct_smallestCell g f1 (n := (gp l k).2.2.2) (by have := (hE k (by omega)).2.2.2.2; omega)) rfl rfl (Nat.le_of_ble_eq_true rfl) ?_
        rintro _ _ ⟨rfl, rfl⟩
        rw [show nI (low (gp l k).2.2.2) = nI (loP l k) from rfl]
        refine rn_istore_n dX3_fillOrder_121 (Nat.le_of_ble_eq_true rfl) rfl ?_
        refine rn_aload_n dX3_fillOrder_122 rfl ?_
        refine rn_get dX3_fillOrder_123 lfX3_22 hL1.1 rfl ?_
        refine rn_iload_n dX3_fillOrder_126 rfl ?_
        refine rn_aload_n dX3_fillOrder_127 rfl ?_
        refine rn_get dX3_fillOrder_128 lfX3_22 hL1.1 rfl ?_
        refine rn_iload_n dX3_fillOrder_131 rfl ?_
        refine rn_callS dX3_fillOrder_132 lmX3_99 ⟨Nat.le_of_ble_eq_true rfl, Nat.le_of_ble_eq_true rfl⟩ (ct_at g f1 (nI (loP l k)) (by decide) hT) rfl rfl (Nat.le_of_ble_eq_true rfl) ?_
        rintro _ _ ⟨rfl, rfl⟩
        rw [atf_nI (by omega) (by decide), h1 _ (by omega), clf, if_pos rfl]
        refine rn_iconst (v := nI 1) dX3_fillOrder_135 (by decide) ?_
        refine rn_isub dX3_fillOrder_136 ?_
        rw [show nI (cLf (loP l) l.length (loP l k) + (clf (loP l) (loP l k) k + 1)) - nI 1 = nI (posf (loP l) l.length k) from pk_sub (a := posf (loP l) l.length k + 1) (b := 1) (by omega)]
        refine rn_callS dX3_fillOrder_137 lmX3_103 ⟨Nat.le_of_ble_eq_true rfl, Nat.le_of_ble_eq_true rfl⟩ (ct_put g f1 (nI (loP l k)) (nI (posf (loP l) l.length k)) (by decide) hT) rfl rfl (Nat.le_of_ble_eq_true rfl) ?_
        rintro _ f2 ⟨rfl, a2, k2⟩
        rw [ptf_nI (by omega) (by decide)] at a2
        refine rn_aload_n dX3_fillOrder_140 rfl ?_
        refine rn_get dX3_fillOrder_141 lfX3_19 ((k2 56 (by decide)).trans hL1.1) rfl ?_
        refine rn_aload_n dX3_fillOrder_144 rfl ?_
        refine rn_get dX3_fillOrder_145 lfX3_22 ((k2 56 (by decide)).trans hL1.1) rfl ?_
        refine rn_iload_n dX3_fillOrder_148 rfl ?_
        refine rn_callS dX3_fillOrder_149 lmX3_99 ⟨Nat.le_of_ble_eq_true rfl, Nat.le_of_ble_eq_true rfl⟩ (ct_at g f2 (nI (loP l k)) (by decide) a2) rfl rfl (Nat.le_of_ble_eq_true rfl) ?_
        rintro _ _ ⟨rfl, rfl⟩
        rw [atf_nI (by omega) (by decide), upd_eq]
        refine rn_iload_n dX3_fillOrder_152 rfl ?_
        refine rn_callS dX3_fillOrder_153 lmX3_103 ⟨Nat.le_of_ble_eq_true rfl, Nat.le_of_ble_eq_true rfl⟩ (ct_put g f2 (nI (posf (loP l) l.length k)) (nI k) (by decide) (hB.keep (k2 59 (by decide)))) rfl rfl (Nat.le_of_ble_eq_true rfl) ?_
        rintro _ f3 ⟨rfl, a3, k3⟩
        rw [ptf_nI (by omega) (by decide)] at a3
        refine rn_iinc (v := nI k - nI 1) dX3_fillOrder_156 rfl ((by rw [Int32.sub_eq_add_neg]; rfl)) (Nat.le_of_ble_eq_true rfl) rfl ?_
        refine rn_goto (tgt := 109) dX3_fillOrder_159 (by decide) ?_
        refine ih f3 _ _ _ _ (by omega) ((hF.one (by omega) (by omega) k2).one (by omega) (by omega) k3) a3 (a2.keep (k3 60 (by decide))) (fun c hc => ?_) (fun j hj hjl => ?_)
        · by_cases e : c = loP l k
          · rw [e, upd_eq]; rfl
          · rw [upd_ne e, h1 c hc, clf, if_neg (fun q => e q.symm), Nat.add_zero]
        · by_cases e : j = k
          · rw [e, upd_eq]
          · rw [upd_ne (posf_ne hjl (by omega))]; exact h2 j (by omega) hjl
  have loopC : ∀ (d c : Nat) (f1 : Mm) (B T : Nat → Int32), 37 - c = d → c ≤ 37 → FR f f1 59 2 → AR f1 59 1280 B → AR f1 60 37 T → (∀ j, j < c → T j = nI (cLf (loP l) l.length (j + 1))) → (∀ j, c ≤ j → j < 37 → T j = nI (clf (loP l) j l.length)) → Wp g MX3_fillOrder 71 [some (.ref 56), some (.int (nI (cLf (loP l) l.length c))), some (.int (nI c)), none] [] f1 0 0 (fun r f' => r = none ∧ FR f f' 59 2 ∧ ORD f' l) := by
    intro d
    induction d using Nat.strongRecOn with
    | ind d ih =>
      intro c f1 B T hd hc hF hB hT h1 h2
      have hL1 := kp hF
      obtain ⟨tt, ht0, hte⟩ := id hT
      refine rn_iload_n dX3_fillOrder_71 rfl ?_
      refine rn_aload_n dX3_fillOrder_72 rfl ?_
      refine rn_get dX3_fillOrder_73 lfX3_22 hL1.1 rfl ?_
      refine rn_alen dX3_fillOrder_76 ht0 (by decide) ?_
      refine rn_icmp_ge (tgt := 102) dX3_fillOrder_77 (by decide) (fun c77 => ?_) (fun c77 => ?_)
      · refine rn_aload_n dX3_fillOrder_102 rfl ?_
        refine rn_get dX3_fillOrder_103 lfX3_25 hL1.1 rfl ?_
        refine rn_iconst (v := nI 1) dX3_fillOrder_106 (by decide) ?_
        refine rn_isub dX3_fillOrder_107 ?_
        refine rn_istore_n dX3_fillOrder_108 (Nat.le_of_ble_eq_true rfl) rfl ?_
        have hc2 := ge_ex c77 (by omega) (by decide)
        have hce : c = 37 := by omega
        subst hce
        exact loopD l.length f1 B T _ _ (Nat.le_refl _) hF hB hT (fun j hj => h1 j (by omega)) (fun j a b => absurd a (by omega))
      · have hc2 := ge_in c77 (by omega)
        refine rn_iload_n dX3_fillOrder_80 rfl ?_
        refine rn_aload_n dX3_fillOrder_81 rfl ?_
        refine rn_get dX3_fillOrder_82 lfX3_22 hL1.1 rfl ?_
        refine rn_iload_n dX3_fillOrder_85 rfl ?_
        refine rn_iald dX3_fillOrder_86 ht0 (vp_in_nI (show c < 37 by omega) (by decide)) ?_
        rw [nI_clamp (by omega), hte c hc2, h2 c (Nat.le_refl _) hc2]
        refine rn_iadd dX3_fillOrder_87 ?_
        rw [nI_add, show cLf (loP l) l.length c + clf (loP l) c l.length = cLf (loP l) l.length (c + 1) from rfl]
        refine rn_istore_n dX3_fillOrder_88 (Nat.le_of_ble_eq_true rfl) rfl ?_
        refine rn_aload_n dX3_fillOrder_89 rfl ?_
        refine rn_get dX3_fillOrder_90 lfX3_22 hL1.1 rfl ?_
        refine rn_iload_n dX3_fillOrder_93 rfl ?_
        refine rn_iload_n dX3_fillOrder_94 rfl ?_
        refine rn_iast dX3_fillOrder_95 ht0 (vp_in_nI (show c < 37 by omega) (by decide)) ?_
        refine rn_iinc (v := nI (c + 1)) dX3_fillOrder_96 rfl (nI_1 c) (Nat.le_of_ble_eq_true rfl) rfl ?_
        refine rn_goto (tgt := 71) dX3_fillOrder_99 (by decide) ?_
        refine ih _ (by omega) (c + 1) _ B (upd T c (nI (cLf (loP l) l.length (c + 1)))) rfl (by omega) (hF.up (by omega) (by omega)) (hB.keep (up_ne (by decide))) ⟨_, up_same _ _ _, fun j hj => ?_⟩ (fun j hj => ?_) (fun j a b => ?_)
        · rw [nI_clamp (by omega)]
          by_cases e : j = c
          · rw [e, upd_eq, upd_eq]
          · rw [upd_ne e, upd_ne e, hte j hj]
        · by_cases e : j = c
          · rw [e, upd_eq]
          · rw [upd_ne e]; exact h1 j (by omega)
        · rw [upd_ne (by omega)]; exact h2 j (by omega) b
  have loopB : ∀ (d k : Nat) (f1 : Mm) (B T : Nat → Int32) (w2 : Option Value), l.length - k = d → k ≤ l.length → FR f f1 59 2 → AR f1 59 1280 B → AR f1 60 37 T → (∀ j, j < 37 → T j = nI (clf (loP l) j k)) → Wp g MX3_fillOrder 26 [some (.ref 56), some (.int (nI k)), w2, none] [] f1 0 0 (fun r f' => r = none ∧ FR f f' 59 2 ∧ ORD f' l) := by
    intro d
    induction d using Nat.strongRecOn with
    | ind d ih =>
      intro k f1 B T w2 hd hk hF hB hT h1
      have hL1 := kp hF
      refine Wp.sub (lv' := [some (.ref 56), some (.int (nI k)), none, none]) (fun i v hv => ?_) ?_
      · match i, hv with
        | 0, hv => exact hv
        | 1, hv => exact hv
        | 2, hv => cases hv
        | 3, hv => cases hv
      refine rn_iload_n dX3_fillOrder_26 rfl ?_
      refine rn_aload_n dX3_fillOrder_27 rfl ?_
      refine rn_get dX3_fillOrder_28 lfX3_25 hL1.1 rfl ?_
      refine rn_icmp_ge (tgt := 67) dX3_fillOrder_31 (by decide) (fun c31 => ?_) (fun c31 => ?_)
      · refine rn_iconst (v := nI 0) dX3_fillOrder_67 (by decide) ?_
        refine rn_istore_n dX3_fillOrder_68 (Nat.le_of_ble_eq_true rfl) rfl ?_
        refine rn_iconst (v := nI 0) dX3_fillOrder_69 (by decide) ?_
        refine rn_istore_n dX3_fillOrder_70 (Nat.le_of_ble_eq_true rfl) rfl ?_
        have hk2 := ge_ex c31 (by omega) (by omega)
        have hke : k = l.length := by omega
        subst hke
        exact loopC 37 0 f1 B T rfl (by omega) hF hB hT (fun j hj => absurd hj (by omega)) (fun j _ hj => h1 j hj)
      · have hk2 := ge_in c31 (by omega)
        have hlk := hlo k hk2
        refine rn_aload_n dX3_fillOrder_34 rfl ?_
        refine rn_iload_n dX3_fillOrder_35 rfl ?_
        refine rn_callV dX3_fillOrder_36 lmX3_91 ⟨Nat.le_of_ble_eq_true rfl, Nat.le_of_ble_eq_true rfl⟩ (ct_maskOf g f1 hL1 hk2 hl) hL1.1 rfl rfl (Nat.le_of_ble_eq_true rfl) ?_
        rintro _ _ ⟨rfl, rfl⟩
        refine rn_callS dX3_fillOrder_39 lmX3_95 ⟨Nat.le_of_ble_eq_true rfl, Nat.le_of_ble_eq_true rfl⟩ (ct_smallestCell g f1 (n := (gp l k).2.2.2) (by have := (hE k hk2).2.2.2.2; omega)) rfl rfl (Nat.le_of_ble_eq_true rfl) ?_
        rintro _ _ ⟨rfl, rfl⟩
        rw [show nI (low (gp l k).2.2.2) = nI (loP l k) from rfl]
        refine rn_istore_n dX3_fillOrder_42 (Nat.le_of_ble_eq_true rfl) rfl ?_
        refine rn_aload_n dX3_fillOrder_43 rfl ?_
        refine rn_get dX3_fillOrder_44 lfX3_22 hL1.1 rfl ?_
        refine rn_iload_n dX3_fillOrder_47 rfl ?_
        refine rn_aload_n dX3_fillOrder_48 rfl ?_
        refine rn_get dX3_fillOrder_49 lfX3_22 hL1.1 rfl ?_
        refine rn_iload_n dX3_fillOrder_52 rfl ?_
        refine rn_callS dX3_fillOrder_53 lmX3_99 ⟨Nat.le_of_ble_eq_true rfl, Nat.le_of_ble_eq_true rfl⟩ (ct_at g f1 (nI (loP l k)) (by decide) hT) rfl rfl (Nat.le_of_ble_eq_true rfl) ?_
        rintro _ _ ⟨rfl, rfl⟩
        rw [atf_nI (by omega) (by decide), h1 _ (by omega)]
        refine rn_iconst (v := nI 1) dX3_fillOrder_56 (by decide) ?_
        refine rn_iadd dX3_fillOrder_57 ?_
        rw [nI_add]
        refine rn_callS dX3_fillOrder_58 lmX3_103 ⟨Nat.le_of_ble_eq_true rfl, Nat.le_of_ble_eq_true rfl⟩ (ct_put g f1 (nI (loP l k)) (nI (clf (loP l) (loP l k) k + 1)) (by decide) hT) rfl rfl (Nat.le_of_ble_eq_true rfl) ?_
        rintro _ f2 ⟨rfl, a2, k2⟩
        rw [ptf_nI (by omega) (by decide)] at a2
        refine rn_iinc (v := nI (k + 1)) dX3_fillOrder_61 rfl (nI_1 k) (Nat.le_of_ble_eq_true rfl) rfl ?_
        refine rn_goto (tgt := 26) dX3_fillOrder_64 (by decide) ?_
        refine ih _ (by omega) (k + 1) f2 B _ _ rfl (by omega) (hF.one (by omega) (by omega) k2) (hB.keep (k2 59 (by decide))) a2 (fun j hj => ?_)
        by_cases e : j = loP l k
        · rw [e, upd_eq, clf, if_pos rfl]
        · rw [upd_ne e, h1 j hj, clf, if_neg (fun q => e q.symm), Nat.add_zero]
  have loopA : ∀ (d c : Nat) (f1 : Mm) (T : Nat → Int32), 37 - c = d → c ≤ 37 → FR f f1 59 2 → AR f1 59 1280 O → AR f1 60 37 T → (∀ j, j < c → T j = nI 0) → Wp g MX3_fillOrder 2 [some (.ref 56), some (.int (nI c)), none, none] [] f1 0 0 (fun r f' => r = none ∧ FR f f' 59 2 ∧ ORD f' l) := by
    intro d
    induction d using Nat.strongRecOn with
    | ind d ih =>
      intro c f1 T hd hc hF hB hT h1
      have hL1 := kp hF
      obtain ⟨tt, ht0, hte⟩ := id hT
      refine rn_iload_n dX3_fillOrder_2 rfl ?_
      refine rn_aload_n dX3_fillOrder_3 rfl ?_
      refine rn_get dX3_fillOrder_4 lfX3_22 hL1.1 rfl ?_
      refine rn_alen dX3_fillOrder_7 ht0 (by decide) ?_
      refine rn_icmp_ge (tgt := 24) dX3_fillOrder_8 (by decide) (fun c8 => ?_) (fun c8 => ?_)
      · refine rn_iconst (v := nI 0) dX3_fillOrder_24 (by decide) ?_
        refine rn_istore_n dX3_fillOrder_25 (Nat.le_of_ble_eq_true rfl) rfl ?_
        have hc2 := ge_ex c8 (by omega) (by decide)
        exact loopB _ 0 f1 O T none rfl (by omega) hF hB hT (fun j hj => by rw [h1 j (by omega)]; rfl)
      · have hc2 := ge_in c8 (by omega)
        refine rn_aload_n dX3_fillOrder_11 rfl ?_
        refine rn_get dX3_fillOrder_12 lfX3_22 hL1.1 rfl ?_
        refine rn_iload_n dX3_fillOrder_15 rfl ?_
        refine rn_iconst (v := nI 0) dX3_fillOrder_16 (by decide) ?_
        refine rn_iast dX3_fillOrder_17 ht0 (vp_in_nI (show c < 37 by omega) (by decide)) ?_
        refine rn_iinc (v := nI (c + 1)) dX3_fillOrder_18 rfl (nI_1 c) (Nat.le_of_ble_eq_true rfl) rfl ?_
        refine rn_goto (tgt := 2) dX3_fillOrder_21 (by decide) ?_
        refine ih _ (by omega) (c + 1) _ (upd T c (nI 0)) rfl (by omega) (hF.up (by omega) (by omega)) (hB.keep (up_ne (by decide))) ⟨_, up_same _ _ _, fun j hj => ?_⟩ (fun j hj => ?_)
        · rw [nI_clamp (by omega)]
          by_cases e : j = c
          · rw [e, upd_eq, upd_eq]
          · rw [upd_ne e, upd_ne e, hte j hj]
        · by_cases e : j = c
          · rw [e, upd_eq]
          · rw [upd_ne e]; exact h1 j (by omega)
  refine rn_iconst (v := nI 0) dX3_fillOrder_0 (by decide) ?_
  refine rn_istore_n dX3_fillOrder_1 (Nat.le_of_ble_eq_true rfl) rfl ?_
  exact loopA 37 0 f S rfl (by omega) FR.rf hO hS (fun j hj => absurd hj (by omega))
