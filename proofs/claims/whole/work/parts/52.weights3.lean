theorem wgt_lt {W a b m n : Nat} (hm : 1 ≤ m) : wgt W a b m n < m := Nat.mod_lt _ (by omega)
/-- the weights of a piece's placements among the first k, as bits -/
def wpk (l : List PE) (W a b m p : Nat) : Nat → Nat
  | 0 => 0
  | k + 1 => wpk l W a b m p k ||| (if (gp l k).1 = p then 2 ^ wgt W a b m (gp l k).2.2.2 else 0)
theorem wpk_lt {l : List PE} {W a b m p : Nat} (hm : 1 ≤ m) : ∀ k, wpk l W a b m p k < 2 ^ m
  | 0 => Nat.two_pow_pos _
  | k + 1 => by
    rw [wpk]
    refine Nat.or_lt_two_pow (wpk_lt hm k) ?_
    split
    · exact Nat.pow_lt_pow_right (by decide) (wgt_lt hm)
    · exact Nat.two_pow_pos _
theorem pw_5 {m : Nat} (h : m ≤ 5) : 2 ^ m ≤ 2 ^ 5 := Nat.pow_le_pow_right (by decide) h
theorem ct_weighPieces (g : GG) (f : Mm) {l : List PE} {op m W a b : Nat} {Z : Nat → Int32} (hO : f 72 = some (WE m)) (hC : AR f 73 36 (fun c => nI (wce W a b c % m))) (hZ : AR f 74 8 Z) (hL : PLc f l op) (hE : EVs l) (hl : l.length ≤ 1280) (hm : 1 ≤ m) (hm2 : m ≤ 5) : Ct g MX10_weighPieces [.ref 72, .ref 56] f 0 0 (fun r f' => r = none ∧ (∀ k, k ≠ 74 → f' k = f k) ∧ AR f' 74 8 (fun p => nI (wpk l W a b m p l.length))) := by
  refine Ct.of ok_MX10_weighPieces (Nat.le_of_ble_eq_true rfl) ?_
  change Wp g MX10_weighPieces 0 [some (.ref 72), some (.ref 56), none, none, none] [] f 0 0 _
  have h5 := pw_5 hm2
  have loop2 : ∀ (d k : Nat) (f1 : Mm) (B : Nat → Int32) (w3 w4 : Option Value), l.length - k = d → k ≤ l.length → (∀ q, q ≠ 74 → f1 q = f q) → AR f1 74 8 B → (∀ p, p < 8 → B p = nI (wpk l W a b m p k)) → Wp g MX10_weighPieces 26 [some (.ref 72), some (.ref 56), some (.int (nI k)), w3, w4] [] f1 0 0 (fun r f' => r = none ∧ (∀ k, k ≠ 74 → f' k = f k) ∧ AR f' 74 8 (fun p => nI (wpk l W a b m p l.length))) := by
    intro d
    induction d using Nat.strongRecOn with
    | ind d ih =>
      intro k f1 B w3 w4 hd hk hfr hB h1
      refine Wp.sub (lv' := [some (.ref 72), some (.ref 56), some (.int (nI k)), none, none]) (fun i v hv => ?_) ?_
      · match i, hv with
        | 0, hv => exact hv
        | 1, hv => exact hv
        | 2, hv => exact hv
        | 3, hv => cases hv
        | 4, hv => cases hv
      have o1 := (hfr 72 (by decide)).trans hO
      have hL1 := hL.keep (hfr 56 (by decide)) (hfr 57 (by decide)) (hfr 58 (by decide))
      refine rn_iload_n dX10_weighPieces_26 rfl ?_
      refine rn_aload_n dX10_weighPieces_27 rfl ?_
      refine rn_get dX10_weighPieces_28 lfX10_69 hL1.1 rfl ?_
      refine rn_icmp_ge (tgt := 78) dX10_weighPieces_31 (by decide) (fun c31 => ?_) (fun c31 => ?_)
      · refine rn_vret dX10_weighPieces_78 rfl ?_
        have hk2 := ge_ex c31 (by omega) (by omega)
        exact ⟨rfl, hfr, hB.to (fun p hp => by rw [h1 p hp, show k = l.length by omega])⟩
      · have hk2 := ge_in c31 (by omega)
        have hev := hE k hk2
        have hwl := wgt_lt (W := W) (a := a) (b := b) (n := (gp l k).2.2.2) hm
        have hpw : 2 ^ wgt W a b m (gp l k).2.2.2 < 2 ^ m := Nat.pow_lt_pow_right (by decide) hwl
        have hwp := wpk_lt (l := l) (W := W) (a := a) (b := b) (p := (gp l k).1) hm k
        refine rn_aload_n dX10_weighPieces_34 rfl ?_
        refine rn_iload_n dX10_weighPieces_35 rfl ?_
        refine rn_callV dX10_weighPieces_36 lmX10_72 ⟨Nat.le_of_ble_eq_true rfl, Nat.le_of_ble_eq_true rfl⟩ (ct_pieceOf g f1 hL1 hE hk2 hl) hL1.1 rfl rfl (Nat.le_of_ble_eq_true rfl) ?_
        rintro _ _ ⟨rfl, rfl⟩
        refine rn_istore_n dX10_weighPieces_39 (Nat.le_of_ble_eq_true rfl) rfl ?_
        refine rn_aload_n dX10_weighPieces_40 rfl ?_
        refine rn_aload_n dX10_weighPieces_41 rfl ?_
        refine rn_iload_n dX10_weighPieces_42 rfl ?_
        refine rn_callV dX10_weighPieces_43 lmX10_75 ⟨Nat.le_of_ble_eq_true rfl, Nat.le_of_ble_eq_true rfl⟩ (ct_maskOf g f1 hL1 hk2 hl) hL1.1 rfl rfl (Nat.le_of_ble_eq_true rfl) ?_
        rintro _ _ ⟨rfl, rfl⟩
        refine rn_callV dX10_weighPieces_46 lmX10_56 ⟨Nat.le_of_ble_eq_true rfl, Nat.le_of_ble_eq_true rfl⟩ (ct_weightOf g f1 (u := wce W a b) o1 (hC.keep (hfr 73 (by decide))) hm hm2 hev.2.2.2.2) o1 rfl rfl (Nat.le_of_ble_eq_true rfl) ?_
        rintro _ _ ⟨rfl, rfl⟩
        rw [show bsum (gp l k).2.2.2 (wce W a b) 36 % m = wgt W a b m (gp l k).2.2.2 from rfl]
        refine rn_istore dX10_weighPieces_49 (Nat.le_of_ble_eq_true rfl) rfl ?_
        refine rn_aload_n dX10_weighPieces_51 rfl ?_
        refine rn_get dX10_weighPieces_52 lfX10_15 o1 rfl ?_
        refine rn_iload_n dX10_weighPieces_55 rfl ?_
        refine rn_aload_n dX10_weighPieces_56 rfl ?_
        refine rn_get dX10_weighPieces_57 lfX10_15 o1 rfl ?_
        refine rn_iload_n dX10_weighPieces_60 rfl ?_
        refine rn_callS dX10_weighPieces_61 lmX10_35 ⟨Nat.le_of_ble_eq_true rfl, Nat.le_of_ble_eq_true rfl⟩ (ct_at g f1 (nI (gp l k).1) (by decide) hB) rfl rfl (Nat.le_of_ble_eq_true rfl) ?_
        rintro _ _ ⟨rfl, rfl⟩
        rw [atf_nI hev.1 (by decide), h1 _ hev.1]
        refine rn_iconst (v := nI 1) dX10_weighPieces_64 (by decide) ?_
        refine rn_iload dX10_weighPieces_65 rfl ?_
        refine rn_ishl dX10_weighPieces_67 ?_
        rw [nb_shl (by omega) (by rw [Nat.one_mul]; omega), Nat.one_mul]
        refine rn_ior dX10_weighPieces_68 ?_
        rw [nb_or (by omega) (by omega)]
        refine rn_callS dX10_weighPieces_69 lmX10_79 ⟨Nat.le_of_ble_eq_true rfl, Nat.le_of_ble_eq_true rfl⟩ (ct_put g f1 (nI (gp l k).1) _ (by decide) hB) rfl rfl (Nat.le_of_ble_eq_true rfl) ?_
        rintro _ f2 ⟨rfl, a2, k2⟩
        rw [ptf_nI hev.1 (by decide)] at a2
        refine rn_iinc (v := nI (k + 1)) dX10_weighPieces_72 rfl (nI_1 k) (Nat.le_of_ble_eq_true rfl) rfl ?_
        refine rn_goto (tgt := 26) dX10_weighPieces_75 (by decide) ?_
        refine ih _ (by omega) (k + 1) f2 _ _ _ rfl (by omega) (fun q x => (k2 q x).trans (hfr q x)) a2 (fun p hp => ?_)
        by_cases e : p = (gp l k).1
        · rw [e, upd_eq, wpk, if_pos rfl]
        · rw [upd_ne e, h1 p hp, wpk, if_neg (fun q => e q.symm), Nat.or_zero]
  have loop1 : ∀ (d p : Nat) (f1 : Mm) (B : Nat → Int32), 8 - p = d → p ≤ 8 → (∀ q, q ≠ 74 → f1 q = f q) → AR f1 74 8 B → (∀ j, j < p → B j = nI 0) → Wp g MX10_weighPieces 2 [some (.ref 72), some (.ref 56), some (.int (nI p)), none, none] [] f1 0 0 (fun r f' => r = none ∧ (∀ k, k ≠ 74 → f' k = f k) ∧ AR f' 74 8 (fun p => nI (wpk l W a b m p l.length))) := by
    intro d
    induction d using Nat.strongRecOn with
    | ind d ih =>
      intro p f1 B hd hp hfr hB h1
      obtain ⟨bb, hbb, hbe⟩ := id hB
      have o1 := (hfr 72 (by decide)).trans hO
      refine rn_iload_n dX10_weighPieces_2 rfl ?_
      refine rn_aload_n dX10_weighPieces_3 rfl ?_
      refine rn_get dX10_weighPieces_4 lfX10_15 o1 rfl ?_
      refine rn_alen dX10_weighPieces_7 hbb (by decide) ?_
      refine rn_icmp_ge (tgt := 24) dX10_weighPieces_8 (by decide) (fun c8 => ?_) (fun c8 => ?_)
      · refine rn_iconst (v := nI 0) dX10_weighPieces_24 (by decide) ?_
        refine rn_istore_n dX10_weighPieces_25 (Nat.le_of_ble_eq_true rfl) rfl ?_
        have hp2 := ge_ex c8 (by omega) (by decide)
        exact loop2 _ 0 f1 B none none rfl (by omega) hfr hB (fun j hj => h1 j (by omega))
      · have hp2 := ge_in c8 (by omega)
        refine rn_aload_n dX10_weighPieces_11 rfl ?_
        refine rn_get dX10_weighPieces_12 lfX10_15 o1 rfl ?_
        refine rn_iload_n dX10_weighPieces_15 rfl ?_
        refine rn_iconst (v := nI 0) dX10_weighPieces_16 (by decide) ?_
        refine rn_iast dX10_weighPieces_17 hbb (vp_in_nI (show p < 8 by omega) (by decide)) ?_
        refine rn_iinc (v := nI (p + 1)) dX10_weighPieces_18 rfl (nI_1 p) (Nat.le_of_ble_eq_true rfl) rfl ?_
        refine rn_goto (tgt := 2) dX10_weighPieces_21 (by decide) ?_
        refine ih _ (by omega) (p + 1) _ (upd B p (nI 0)) rfl (by omega) (fun q x => (up_ne x).trans (hfr q x)) ⟨_, up_same _ _ _, fun j hj => ?_⟩ (fun j hj => ?_)
        · rw [nI_clamp (by omega)]
          by_cases e : j = p
          · rw [e, upd_eq, upd_eq]
          · rw [upd_ne e, upd_ne e, hbe j hj]
        · by_cases e : j = p
          · rw [e, upd_eq]
          · rw [upd_ne e]; exact h1 j (by omega)
  refine rn_iconst (v := nI 0) dX10_weighPieces_0 (by decide) ?_
  refine rn_istore_n dX10_weighPieces_1 (Nat.le_of_ble_eq_true rfl) rfl ?_
  exact loop1 8 0 f Z rfl (by omega) (fun _ _ => rfl) hZ (fun j hj => absurd hj (by omega))
-- the sums
theorem adj_ltm {S T m i : Nat} (hm : 1 ≤ m) : ∀ j, adj S T m i j < 2 ^ m
  | 0 => Nat.two_pow_pos _
  | j + 1 => by
    rw [adj]
    refine Nat.or_lt_two_pow (adj_ltm hm j) ?_
    split
    · exact Nat.pow_lt_pow_right (by decide) (Nat.mod_lt _ (by omega))
    · exact Nat.two_pow_pos _
theorem adk_ltm {S T m : Nat} (hm : 1 ≤ m) : ∀ i, adk S T m i < 2 ^ m
  | 0 => Nat.two_pow_pos _
  | i + 1 => by
    rw [adk]
    exact Nat.or_lt_two_pow (adk_ltm hm i) (adj_ltm hm m)
def smc (st m : Nat) : Nat → Nat → Nat
  | 0, S => S
  | c + 1, S => smc st m c (adk S st m m)
theorem smc_lt {st m : Nat} (hm : 1 ≤ m) : ∀ c S, S < 2 ^ m → smc st m c S < 2 ^ m
  | 0, _, h => h
  | c + 1, S, _ => smc_lt hm c _ (adk_ltm hm m)
def stp (P : PS) (l : List PE) (a b m p : Nat) : Nat := wpk l (pW P) a b m p l.length ||| (if pMd P = 0 then 1 else 0)
def smp (P : PS) (l : List PE) (cp : Nat → Nat) (a b m : Nat) : Nat → Nat
  | 0 => 1
  | p + 1 => smc (stp P l a b m p) m (cp p) (smp P l cp a b m p)
theorem smp_lt {P : PS} {l : List PE} {cp : Nat → Nat} {a b m : Nat} (hm : 1 ≤ m) : ∀ p, smp P l cp a b m p < 2 ^ m
  | 0 => Nat.one_lt_two_pow (by omega)
  | p + 1 => smc_lt hm _ _ (smp_lt hm p)
theorem stp_lt {P : PS} {l : List PE} {a b m p : Nat} (hm : 1 ≤ m) : stp P l a b m p < 2 ^ m := by
  refine Nat.or_lt_two_pow (wpk_lt hm _) ?_
  split
  · exact Nat.one_lt_two_pow (by omega)
  · exact Nat.two_pow_pos _
/-- the weights prove that there is no cover -/
def prf (P : PS) (l : List PE) (cp : Nat → Nat) (a b m : Nat) : Bool := !(smp P l cp a b m (pN P)).testBit (wgt (pW P) a b m (opk (pC P) (pW P * pH P)))
theorem ct_excludeCover (g : GG) (f : Mm) {P : PS} {sh fr co cp : Nat → Nat} {l : List PE} {m m0 a b : Nat} {C Z : Nat → Int32} (hO : f 72 = some (WE m0)) (hC : AR f 73 36 C) (hZ : AR f 74 8 Z) (hP : PB f 1 P) (hV : VD P) (hN : VN P sh fr co cp) (hL : PLc f l (opk (pC P) (pW P * pH P))) (hE : EVs l) (hl : l.length ≤ 1280) (hm : 1 ≤ m) (hm2 : m ≤ 5) (ha : a < 5) (hb : b < 5) (hmd : pMd P ≤ 1) : Ct g MX10_excludeCover [.ref 72, .ref 1, .ref 56, .int (nI a), .int (nI b), .int (nI m)] f 0 0 (fun r f' => r = some (.int (bI (prf P l cp a b m))) ∧ (∀ k, k < 72 ∨ 74 < k → f' k = f k) ∧ f' 72 = some (WE m) ∧ (∃ C', AR f' 73 36 C') ∧ ∃ Z', AR f' 74 8 Z') := by
  refine Ct.of ok_MX10_excludeCover (Nat.le_of_ble_eq_true rfl) ?_
  change Wp g MX10_excludeCover 0 [some (.ref 72), some (.ref 1), some (.ref 56), some (.int (nI a)), some (.int (nI b)), some (.int (nI m)), none, none, none, none] [] f 0 0 _
  have h5 := pw_5 hm2
  have har := hV.area
  have h36 := pw_36 har
  have hopk := opk_lt (pC P) (pW P * pH P)
  obtain ⟨v1, v2, v3, v4, v8⟩ := id hV
  have fin : ∀ (f1 : Mm) (w7 w8 w9 : Option Value), f1 72 = some (WE m) → AR f1 73 36 (fun c => nI (wce (pW P) a b c % m)) → AR f1 74 8 (fun p => nI (wpk l (pW P) a b m p l.length)) → (∀ k, k < 72 ∨ 74 < k → f1 k = f k) → Wp g MX10_excludeCover 94 [some (.ref 72), some (.ref 1), some (.ref 56), some (.int (nI a)), some (.int (nI b)), some (.int (nI m)), some (.int (nI (smp P l cp a b m (pN P)))), w7, w8, w9] [] f1 0 0 (fun r f' => r = some (.int (bI (prf P l cp a b m))) ∧ (∀ k, k < 72 ∨ 74 < k → f' k = f k) ∧ f' 72 = some (WE m) ∧ (∃ C', AR f' 73 36 C') ∧ ∃ Z', AR f' 74 8 Z') := by
    intro f1 w7 w8 w9 o1 hC1 hZ1 hfr
    have hL1 := hL.keep (hfr 56 (by omega)) (hfr 57 (by omega)) (hfr 58 (by omega))
    have hsl := smp_lt (P := P) (l := l) (cp := cp) (a := a) (b := b) hm (pN P)
    have hwl := wgt_lt (W := pW P) (a := a) (b := b) (n := opk (pC P) (pW P * pH P)) hm
    refine rn_iload dX10_excludeCover_94 rfl ?_
    refine rn_aload_n dX10_excludeCover_96 rfl ?_
    refine rn_aload_n dX10_excludeCover_97 rfl ?_
    refine rn_get dX10_excludeCover_98 lfX10_50 hL1.1 rfl ?_
    refine rn_callV dX10_excludeCover_101 lmX10_56 ⟨Nat.le_of_ble_eq_true rfl, Nat.le_of_ble_eq_true rfl⟩ (ct_weightOf g f1 (u := wce (pW P) a b) o1 hC1 hm hm2 (show opk (pC P) (pW P * pH P) < 2 ^ 36 by omega)) o1 rfl rfl (Nat.le_of_ble_eq_true rfl) ?_
    rintro _ _ ⟨rfl, rfl⟩
    rw [show bsum (opk (pC P) (pW P * pH P)) (wce (pW P) a b) 36 % m = wgt (pW P) a b m (opk (pC P) (pW P * pH P)) from rfl]
    refine rn_iushr dX10_excludeCover_104 ?_
    refine rn_iconst (v := nI 1) dX10_excludeCover_105 (by decide) ?_
    refine rn_iand dX10_excludeCover_106 ?_
    rw [n_bit (by omega) (by omega)]
    refine rn_if_ne (tgt := 114) dX10_excludeCover_107 (by decide) (fun c107 => ?_) (fun c107 => ?_)
    · refine rn_iconst (v := nI 0) dX10_excludeCover_114 (by decide) ?_
      refine rn_zret dX10_excludeCover_115 rfl rfl ?_
      exact ⟨by rw [prf, n_bit1 c107]; rfl, hfr, o1, ⟨_, hC1⟩, _, hZ1⟩
    · refine rn_iconst (v := nI 1) dX10_excludeCover_110 (by decide) ?_
      refine rn_goto (tgt := 115) dX10_excludeCover_111 (by decide) ?_
      refine rn_zret dX10_excludeCover_115 rfl rfl ?_
      exact ⟨by rw [prf, n_bit0 c107]; rfl, hfr, o1, ⟨_, hC1⟩, _, hZ1⟩
  have loop1 : ∀ (d p : Nat) (f1 : Mm) (w8 w9 : Option Value), pN P - p = d → p ≤ pN P → f1 72 = some (WE m) → AR f1 73 36 (fun c => nI (wce (pW P) a b c % m)) → AR f1 74 8 (fun p => nI (wpk l (pW P) a b m p l.length)) → (∀ k, k < 72 ∨ 74 < k → f1 k = f k) → Wp g MX10_excludeCover 25 [some (.ref 72), some (.ref 1), some (.ref 56), some (.int (nI a)), some (.int (nI b)), some (.int (nI m)), some (.int (nI (smp P l cp a b m p))), some (.int (nI p)), w8, w9] [] f1 0 0 (fun r f' => r = some (.int (bI (prf P l cp a b m))) ∧ (∀ k, k < 72 ∨ 74 < k → f' k = f k) ∧ f' 72 = some (WE m) ∧ (∃ C', AR f' 73 36 C') ∧ ∃ Z', AR f' 74 8 Z') := by
    intro d
    induction d using Nat.strongRecOn with
    | ind d ih =>
      intro p f1 w8 w9 hd hp o1 hC1 hZ1 hfr
      have hP1 : PB f1 1 P := hP.keep (fun k x y => hfr k (by omega))
      have loop2 : ∀ (e c S : Nat), p < pN P → cp p - c = e → c ≤ cp p → S < 2 ^ m → smc (stp P l a b m p) m (cp p - c) S = smp P l cp a b m (p + 1) → Wp g MX10_excludeCover 61 [some (.ref 72), some (.ref 1), some (.ref 56), some (.int (nI a)), some (.int (nI b)), some (.int (nI m)), some (.int (nI S)), some (.int (nI p)), some (.int (nI (stp P l a b m p))), some (.int (nI c))] [] f1 0 0 (fun r f' => r = some (.int (bI (prf P l cp a b m))) ∧ (∀ k, k < 72 ∨ 74 < k → f' k = f k) ∧ f' 72 = some (WE m) ∧ (∃ C', AR f' 73 36 C') ∧ ∃ Z', AR f' 74 8 Z') := by
        intro e
        induction e using Nat.strongRecOn with
        | ind e ihe =>
          intro c S hpN he hc hS hsm
          obtain ⟨n1, n2, n3, n4, n5, n6, n7, n8, n9⟩ := hN p hpN
          have hst := stp_lt (P := P) (l := l) (a := a) (b := b) (p := p) hm
          refine rn_iload dX10_excludeCover_61 rfl ?_
          refine rn_aload_n dX10_excludeCover_63 rfl ?_
          refine rn_iload dX10_excludeCover_64 rfl ?_
          refine rn_callV dX10_excludeCover_66 lmX10_42 ⟨Nat.le_of_ble_eq_true rfl, Nat.le_of_ble_eq_true rfl⟩ (ct_copiesOf g f1 (nI p) hP1) hP1.1 rfl rfl (Nat.le_of_ble_eq_true rfl) ?_
          rintro _ _ ⟨rfl, rfl⟩
          rw [atf_nI (by omega) (by decide), n7]
          refine rn_icmp_ge (tgt := 88) dX10_excludeCover_69 (by decide) (fun c69 => ?_) (fun c69 => ?_)
          · refine rn_iinc (v := nI (p + 1)) dX10_excludeCover_88 rfl (nI_1 p) (Nat.le_of_ble_eq_true rfl) rfl ?_
            refine rn_goto (tgt := 25) dX10_excludeCover_91 (by decide) ?_
            have hc2 := ge_ex c69 (by omega) (by omega)
            rw [show cp p - c = 0 by omega, smc] at hsm
            subst hsm
            exact ih _ (by omega) (p + 1) f1 _ _ rfl (by omega) o1 hC1 hZ1 hfr
          · have hc2 := ge_in c69 (by omega)
            refine rn_aload_n dX10_excludeCover_72 rfl ?_
            refine rn_iload dX10_excludeCover_73 rfl ?_
            refine rn_iload dX10_excludeCover_75 rfl ?_
            refine rn_callV dX10_excludeCover_77 lmX10_46 ⟨Nat.le_of_ble_eq_true rfl, Nat.le_of_ble_eq_true rfl⟩ (ct_addAll g f1 o1 hm hm2 (show S < 2 ^ 5 by omega) (show stp P l a b m p < 2 ^ 5 by omega)) o1 rfl rfl (Nat.le_of_ble_eq_true rfl) ?_
            rintro _ _ ⟨rfl, rfl⟩
            refine rn_istore dX10_excludeCover_80 (Nat.le_of_ble_eq_true rfl) rfl ?_
            refine rn_iinc (v := nI (c + 1)) dX10_excludeCover_82 rfl (nI_1 c) (Nat.le_of_ble_eq_true rfl) rfl ?_
            refine rn_goto (tgt := 61) dX10_excludeCover_85 (by decide) ?_
            refine ihe _ (by omega) (c + 1) _ hpN rfl (by omega) (adk_ltm hm m) ?_
            rw [show cp p - c = (cp p - (c + 1)) + 1 by omega, smc] at hsm
            exact hsm
      have hwk := wpk_lt (l := l) (W := pW P) (a := a) (b := b) (p := p) hm l.length
      have hsl := smp_lt (P := P) (l := l) (cp := cp) (a := a) (b := b) hm p
      refine rn_iload dX10_excludeCover_25 rfl ?_
      refine rn_aload_n dX10_excludeCover_27 rfl ?_
      refine rn_get dX10_excludeCover_28 lfX10_30 hP1.1 rfl ?_
      refine rn_icmp_ge (tgt := 94) dX10_excludeCover_31 (by decide) (fun c31 => ?_) (fun c31 => ?_)
      · have hp2 := ge_ex c31 (by omega) (by omega)
        have hpe : p = pN P := by omega
        subst hpe
        exact fin f1 _ _ _ o1 hC1 hZ1 hfr
      · have hp2 := ge_in c31 (by omega)
        refine rn_aload_n dX10_excludeCover_34 rfl ?_
        refine rn_get dX10_excludeCover_35 lfX10_15 o1 rfl ?_
        refine rn_iload dX10_excludeCover_38 rfl ?_
        refine rn_callS dX10_excludeCover_40 lmX10_35 ⟨Nat.le_of_ble_eq_true rfl, Nat.le_of_ble_eq_true rfl⟩ (ct_at g f1 (nI p) (by decide) hZ1) rfl rfl (Nat.le_of_ble_eq_true rfl) ?_
        rintro _ _ ⟨rfl, rfl⟩
        rw [atf_nI (by omega) (by decide)]
        refine rn_aload_n dX10_excludeCover_43 rfl ?_
        refine rn_get dX10_excludeCover_44 lfX10_39 hP1.1 rfl ?_
        refine rn_if_ne (tgt := 54) dX10_excludeCover_47 (by decide) (fun c47 => ?_) (fun c47 => ?_)
        · refine rn_iconst (v := nI 0) dX10_excludeCover_54 (by decide) ?_
          refine rn_ior dX10_excludeCover_55 ?_
          rw [nb_or (by omega) (by decide)]
          refine rn_istore dX10_excludeCover_56 (Nat.le_of_ble_eq_true rfl) rfl ?_
          refine rn_iconst (v := nI 0) dX10_excludeCover_58 (by decide) ?_
          refine rn_istore dX10_excludeCover_59 (Nat.le_of_ble_eq_true rfl) rfl ?_
          have hne : ¬ pMd P = 0 := fun q => c47 (by rw [q]; rfl)
          have q := loop2 _ 0 (smp P l cp a b m p) hp2 rfl (by omega) hsl rfl
          rw [show stp P l a b m p = wpk l (pW P) a b m p l.length ||| 0 by rw [stp, if_neg hne]] at q
          exact q
        · refine rn_iconst (v := nI 1) dX10_excludeCover_50 (by decide) ?_
          refine rn_goto (tgt := 55) dX10_excludeCover_51 (by decide) ?_
          refine rn_ior dX10_excludeCover_55 ?_
          rw [nb_or (by omega) (by decide)]
          refine rn_istore dX10_excludeCover_56 (Nat.le_of_ble_eq_true rfl) rfl ?_
          refine rn_iconst (v := nI 0) dX10_excludeCover_58 (by decide) ?_
          refine rn_istore dX10_excludeCover_59 (Nat.le_of_ble_eq_true rfl) rfl ?_
          have he : pMd P = 0 := (az (by omega)).mp c47
          have q := loop2 _ 0 (smp P l cp a b m p) hp2 rfl (by omega) hsl rfl
          rw [show stp P l a b m p = wpk l (pW P) a b m p l.length ||| 1 by rw [stp, if_pos he]] at q
          exact q
  refine rn_aload_n dX10_excludeCover_0 rfl ?_
  refine rn_iload dX10_excludeCover_1 rfl ?_
  refine rn_put dX10_excludeCover_3 lpX10_18 hO rfl rfl (Nat.le_of_ble_eq_true rfl) ?_
  refine rn_aload_n dX10_excludeCover_6 rfl ?_
  refine rn_aload_n dX10_excludeCover_7 rfl ?_
  refine rn_iload_n dX10_excludeCover_8 rfl ?_
  refine rn_iload dX10_excludeCover_9 rfl ?_
  refine rn_callV dX10_excludeCover_11 lmX10_22 ⟨Nat.le_of_ble_eq_true rfl, Nat.le_of_ble_eq_true rfl⟩ (ct_weighCells g _ (m := m) (a := a) (b := b) (up_same _ _ _) (hC.keep (up_ne (by decide))) (hP.keep (fun k x y => up_ne (by omega))) hV hm hm2 ha hb) (up_same _ _ _) rfl rfl (Nat.le_of_ble_eq_true rfl) ?_
  rintro _ f1 ⟨rfl, k1, hC1⟩
  have o1 : f1 72 = some (WE m) := (k1 72 (by decide)).trans (up_same _ _ _)
  have hL1 := hL.keep (f' := f1) ((k1 56 (by decide)).trans (up_ne (by decide))) ((k1 57 (by decide)).trans (up_ne (by decide))) ((k1 58 (by decide)).trans (up_ne (by decide)))
  refine rn_aload_n dX10_excludeCover_14 rfl ?_
  refine rn_aload_n dX10_excludeCover_15 rfl ?_
  refine rn_callV dX10_excludeCover_16 lmX10_26 ⟨Nat.le_of_ble_eq_true rfl, Nat.le_of_ble_eq_true rfl⟩ (ct_weighPieces g f1 (W := pW P) (a := a) (b := b) o1 hC1 (hZ.keep ((k1 74 (by decide)).trans (up_ne (by decide)))) hL1 hE hl hm hm2) o1 rfl rfl (Nat.le_of_ble_eq_true rfl) ?_
  rintro _ f2 ⟨rfl, k2, hZ2⟩
  refine rn_iconst (v := nI 1) dX10_excludeCover_19 (by decide) ?_
  refine rn_istore dX10_excludeCover_20 (Nat.le_of_ble_eq_true rfl) rfl ?_
  refine rn_iconst (v := nI 0) dX10_excludeCover_22 (by decide) ?_
  refine rn_istore dX10_excludeCover_23 (Nat.le_of_ble_eq_true rfl) rfl ?_
  exact loop1 _ 0 f2 none none rfl (by omega) ((k2 72 (by decide)).trans o1) (hC1.keep (k2 73 (by decide))) hZ2 (fun k hk => (k2 k (by omega)).trans ((k1 k (by omega)).trans (up_ne (by omega))))
