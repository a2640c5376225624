-- a cover's placements by cells
def plO (l : List PE) : List Nat → Nat → Option Nat
  | [], _ => none
  | k :: t, c => if (msk l k).testBit c = true then some k else plO l t c
theorem plA_O (l : List PE) (c : Nat) : ∀ st, plA l st c = match plO l st c with
    | none => -1
    | some k => nI k
  | [] => rfl
  | k :: t => by
    rw [plA, plO]
    split
    · rfl
    · exact plA_O l c t
theorem plO_mem {l : List PE} {c k : Nat} : ∀ {st : List Nat}, plO l st c = some k → k ∈ st ∧ (msk l k).testBit c = true
  | [], h => by cases h
  | k0 :: t, h => by
    rw [plO] at h
    split at h
    · cases h
      exact ⟨List.mem_cons_self, by assumption⟩
    · exact ⟨List.mem_cons_of_mem _ (plO_mem h).1, (plO_mem h).2⟩
theorem cv_of {q : SQ} {c k : Nat} : ∀ {st : List Nat}, IVs q st → k ∈ st → (msk q.2.1 k).testBit c = true → (cvS q.2.1 st).testBit c = true
  | [], _, h, _ => by cases h
  | k0 :: t, hi, h, hb => by
    rw [cvS, Nat.testBit_xor]
    rcases List.mem_cons.mp h with e | e
    · rw [e] at hb
      rw [hb, and_bit hi.2.2.1 hb]; rfl
    · have h1 := cv_of hi.1 e hb
      rw [h1]
      cases h2 : (msk q.2.1 k0).testBit c with
      | false => rfl
      | true => rw [and_bit hi.2.2.1 h2] at h1; cases h1
theorem plO_of {q : SQ} {c k : Nat} : ∀ {st : List Nat}, IVs q st → k ∈ st → (msk q.2.1 k).testBit c = true → plO q.2.1 st c = some k
  | [], _, h, _ => by cases h
  | k0 :: t, hi, h, hb => by
    rw [plO]
    rcases List.mem_cons.mp h with e | e
    · rw [← e, if_pos hb]
    · have h1 := cv_of hi.1 e hb
      rw [if_neg, plO_of hi.1 e hb]
      intro h2
      rw [and_bit hi.2.2.1 h2] at h1
      cases h1
theorem plO_none {q : SQ} {c : Nat} : ∀ {st : List Nat}, IVs q st → (cvS q.2.1 st).testBit c = false → plO q.2.1 st c = none
  | [], _, _ => rfl
  | k0 :: t, hi, h => by
    rw [plO]
    cases h2 : (msk q.2.1 k0).testBit c with
    | true => rw [cv_of hi List.mem_cons_self h2] at h; cases h
    | false =>
      rw [cvS, Nat.testBit_xor, h2, Bool.xor_false] at h
      rw [if_neg (by decide)]
      exact plO_none hi.1 h
theorem plO_some {q : SQ} {c : Nat} : ∀ {st : List Nat}, IVs q st → (cvS q.2.1 st).testBit c = true → ∃ k, plO q.2.1 st c = some k
  | [], _, h => by rw [cvS, Nat.zero_testBit] at h; cases h
  | k0 :: t, hi, h => by
    rw [plO]
    cases h2 : (msk q.2.1 k0).testBit c with
    | true => exact ⟨k0, by simp⟩
    | false =>
      rw [cvS, Nat.testBit_xor, h2, Bool.xor_false] at h
      rw [if_neg (by decide)]
      exact plO_some hi.1 h
def ubg (l : List PE) (st : List Nat) (p c : Nat) : Bool := match plO l st c with
  | none => false
  | some k => decide (low (msk l k) = c) && decide ((gp l k).1 = p)
theorem ubg_c {q : SQ} (hQ : QV q) {k : Nat} {t : List Nat} (hi : IVs q (k :: t)) (p : Nat) : ∀ n, cntB (ubg q.2.1 (k :: t) p) n = cntB (ubg q.2.1 t p) n + (if (gp q.2.1 k).1 = p ∧ low (msk q.2.1 k) < n then 1 else 0)
  | 0 => by simp [cntB]
  | n + 1 => by
    have ih := ubg_c hQ hi p n
    have hm := hQ.mk hi.2.1
    have hlo := low_tb hm.1 (show msk q.2.1 k < 2 ^ 64 by omega)
    cases hb : (msk q.2.1 k).testBit n with
    | true =>
      have hz : (cvS q.2.1 t).testBit n = false := and_bit hi.2.2.1 hb
      have h1 : ubg q.2.1 t p n = false := by rw [ubg, plO_none hi.1 hz]
      have h2 : ubg q.2.1 (k :: t) p n = (decide (low (msk q.2.1 k) = n) && decide ((gp q.2.1 k).1 = p)) := by rw [ubg, plO, if_pos hb]
      rw [cntB_0 h1]
      by_cases e1 : low (msk q.2.1 k) = n
      · by_cases e2 : (gp q.2.1 k).1 = p
        · rw [cntB_1 (by rw [h2, decide_eq_true e1, decide_eq_true e2]; rfl), ih, if_neg (by omega), if_pos ⟨e2, by omega⟩]
        · rw [cntB_0 (by rw [h2, decide_eq_false e2, Bool.and_false]), ih, if_neg (fun h => e2 h.1), if_neg (fun h => e2 h.1)]
      · rw [cntB_0 (by rw [h2, decide_eq_false e1, Bool.false_and]), ih]
        by_cases e2 : (gp q.2.1 k).1 = p
        · by_cases e3 : low (msk q.2.1 k) < n
          · rw [if_pos ⟨e2, e3⟩, if_pos ⟨e2, by omega⟩]
          · rw [if_neg (fun h => e3 h.2), if_neg (fun h => absurd h.2 (by omega))]
        · rw [if_neg (fun h => e2 h.1), if_neg (fun h => e2 h.1)]
    | false =>
      have e1 : ¬ low (msk q.2.1 k) = n := fun e => by rw [← e, hlo.1] at hb; cases hb
      have h2 : ubg q.2.1 (k :: t) p n = ubg q.2.1 t p n := by rw [ubg, plO, if_neg (by rw [hb]; decide)]; rfl
      have h3 : (if (gp q.2.1 k).1 = p ∧ low (msk q.2.1 k) < n + 1 then 1 else 0) = (if (gp q.2.1 k).1 = p ∧ low (msk q.2.1 k) < n then 1 else 0) := by
        by_cases e2 : (gp q.2.1 k).1 = p
        · by_cases e3 : low (msk q.2.1 k) < n
          · rw [if_pos ⟨e2, by omega⟩, if_pos ⟨e2, e3⟩]
          · rw [if_neg (fun h => absurd h.2 (by omega)), if_neg (fun h => e3 h.2)]
        · rw [if_neg (fun h => e2 h.1), if_neg (fun h => e2 h.1)]
      rw [h3]
      cases h4 : ubg q.2.1 t p n with
      | true => rw [cntB_1 h4, cntB_1 (h2.trans h4), ih]; omega
      | false => rw [cntB_0 h4, cntB_0 (h2.trans h4), ih]
theorem ubg_us {q : SQ} (hQ : QV q) (p : Nat) : ∀ {st : List Nat}, IVs q st → cntB (ubg q.2.1 st p) 36 = usS q.2.1 p st
  | [], _ => by
    have : ∀ n, cntB (ubg q.2.1 [] p) n = 0 := fun n => by
      induction n with
      | zero => rfl
      | succ n ih => rw [cntB_0 rfl, ih]
    exact this 36
  | k :: t, hi => by
    have hm := hQ.mk hi.2.1
    have := low_lt36 hm.1 hm.2
    rw [ubg_c hQ hi, ubg_us hQ p hi.1, usS]
    by_cases e : (gp q.2.1 k).1 = p
    · rw [if_pos e, if_pos ⟨e, this⟩]
    · rw [if_neg e, if_neg (fun h => e h.1)]
theorem ct_placementAt (g : GG) (f : Mm) {a b c d : Int32} {Z : Nat → Int32} {r0 cc : Nat} (hO : f 68 = some (CVR a b c d)) (hZ : AR f 69 3672 Z) (h1 : r0 < 102) (h2 : cc < 36) : Ct g MX0_placementAt [.ref 68, .int (nI r0), .int (nI cc)] f 0 0 (fun r f' => f = f' ∧ r = some (.int (Z (r0 * 36 + cc)))) := by
  refine Ct.of ok_MX0_placementAt (Nat.le_of_ble_eq_true rfl) ?_
  change Wp g MX0_placementAt 0 [some (.ref 68), some (.int (nI r0)), some (.int (nI cc))] [] f 0 0 _
  refine rn_aload_n dX0_placementAt_0 rfl ?_
  refine rn_get dX0_placementAt_1 lfX0_9 hO rfl ?_
  refine rn_iload_n dX0_placementAt_4 rfl ?_
  refine rn_bipush (v := nI 36) dX0_placementAt_5 (by decide) ?_
  refine rn_imul dX0_placementAt_7 ?_
  rw [pk_mul]
  refine rn_iload_n dX0_placementAt_8 rfl ?_
  refine rn_iadd dX0_placementAt_9 ?_
  rw [nI_add]
  refine rn_callS dX0_placementAt_10 lmX0_73 ⟨Nat.le_of_ble_eq_true rfl, Nat.le_of_ble_eq_true rfl⟩ (ct_at g f (nI (r0 * 36 + cc)) (by decide) hZ) rfl rfl (Nat.le_of_ble_eq_true rfl) ?_
  rintro _ _ ⟨rfl, rfl⟩
  rw [atf_nI (by omega) (by decide)]
  refine rn_iret dX0_placementAt_13 rfl ?_
  exact ⟨rfl, rfl⟩
theorem ct_beginsAt (g : GG) (f : Mm) {a b c d : Int32} {l : List PE} {op k cc : Nat} (hO : f 68 = some (CVR a b c d)) (hL : PLc f l op) (hE : EVs l) (hl : l.length ≤ 1280) (hk : k < l.length) (hc : cc < 36) : Ct g MX0_beginsAt [.ref 68, .int (nI k), .int (nI cc)] f 0 0 (fun r f' => f = f' ∧ r = some (.int (bI (decide (low (msk l k) = cc))))) := by
  refine Ct.of ok_MX0_beginsAt (Nat.le_of_ble_eq_true rfl) ?_
  change Wp g MX0_beginsAt 0 [some (.ref 68), some (.int (nI k)), some (.int (nI cc))] [] f 0 0 _
  have hm : msk l k < 2 ^ 36 := (hE k hk).2.2.2.2
  have hlo : low (msk l k) < 36 := low_lt36 (hE k hk).2.2.2.1 hm
  refine rn_iload_n dX0_beginsAt_0 rfl ?_
  refine rn_iconst (v := (-1)) dX0_beginsAt_1 (by decide) ?_
  refine rn_icmp_eq (tgt := 24) dX0_beginsAt_2 (by decide) (fun c2 => ?_) (fun c2 => ?_)
  · refine rn_iconst (v := nI 0) dX0_beginsAt_24 (by decide) ?_
    refine rn_zret dX0_beginsAt_25 rfl rfl ?_
    exact absurd c2 (nI_m1 (by omega))
  · refine rn_aload_n dX0_beginsAt_5 rfl ?_
    refine rn_get dX0_beginsAt_6 lfX0_33 hO rfl ?_
    refine rn_iload_n dX0_beginsAt_9 rfl ?_
    refine rn_callV dX0_beginsAt_10 lmX0_77 ⟨Nat.le_of_ble_eq_true rfl, Nat.le_of_ble_eq_true rfl⟩ (ct_maskOf g f hL hk hl) hL.1 rfl rfl (Nat.le_of_ble_eq_true rfl) ?_
    rintro _ _ ⟨rfl, rfl⟩
    refine rn_callS dX0_beginsAt_13 lmX0_83 ⟨Nat.le_of_ble_eq_true rfl, Nat.le_of_ble_eq_true rfl⟩ (ct_smallestCell g f (n := msk l k) (by omega)) rfl rfl (Nat.le_of_ble_eq_true rfl) ?_
    rintro _ _ ⟨rfl, rfl⟩
    refine rn_iload_n dX0_beginsAt_16 rfl ?_
    refine rn_icmp_ne (tgt := 24) dX0_beginsAt_17 (by decide) (fun c17 => ?_) (fun c17 => ?_)
    · refine rn_iconst (v := nI 0) dX0_beginsAt_24 (by decide) ?_
      refine rn_zret dX0_beginsAt_25 rfl rfl ?_
      exact ⟨rfl, by rw [decide_eq_false (fun h => c17 (by rw [h]))]; rfl⟩
    · refine rn_iconst (v := nI 1) dX0_beginsAt_20 (by decide) ?_
      refine rn_goto (tgt := 25) dX0_beginsAt_21 (by decide) ?_
      refine rn_zret dX0_beginsAt_25 rfl rfl ?_
      exact ⟨rfl, by rw [decide_eq_true ((nI_eq (by omega) (by omega)).mp c17)]; rfl⟩
theorem ct_beginsNo (g : GG) (f : Mm) {a b c d : Int32} (cc : Int32) (hO : f 68 = some (CVR a b c d)) : Ct g MX0_beginsAt [.ref 68, .int (-1), .int cc] f 0 0 (fun r f' => f = f' ∧ r = some (.int 0)) := by
  refine Ct.of ok_MX0_beginsAt (Nat.le_of_ble_eq_true rfl) ?_
  change Wp g MX0_beginsAt 0 [some (.ref 68), some (.int (-1)), some (.int cc)] [] f 0 0 _
  refine rn_iload_n dX0_beginsAt_0 rfl ?_
  refine rn_iconst (v := (-1)) dX0_beginsAt_1 (by decide) ?_
  refine rn_icmp_eq (tgt := 24) dX0_beginsAt_2 (by decide) (fun c2 => ?_) (fun c2 => ?_)
  · refine rn_iconst (v := nI 0) dX0_beginsAt_24 (by decide) ?_
    refine rn_zret dX0_beginsAt_25 rfl rfl ?_
    exact ⟨rfl, rfl⟩
  · exact absurd rfl c2
theorem ct_usesOf (g : GG) (f : Mm) {q : SQ} {a b c d : Int32} {Z : Nat → Int32} {r0 p : Nat} {st : List Nat} (hO : f 68 = some (CVR a b c d)) (hZ : AR f 69 3672 Z) (hC : CXw f q) (hQ : QV q) (hi : IVs q st) (hr : r0 < 102) (hp : p < 8) (hR : ∀ c, c < 36 → Z (r0 * 36 + c) = plA q.2.1 st c) : Ct g MX0_usesOf [.ref 68, .int (nI p), .int (nI r0)] f 0 0 (fun r f' => f = f' ∧ r = some (.int (nI (usS q.2.1 p st)))) := by
  refine Ct.of ok_MX0_usesOf (Nat.le_of_ble_eq_true rfl) ?_
  change Wp g MX0_usesOf 0 [some (.ref 68), some (.int (nI p)), some (.int (nI r0)), none, none, none] [] f 0 0 _
  rw [← ubg_us hQ p hi]
  have hL := hC.2.1
  have hE := hQ.2.1.1
  have hl := hQ.2.1.2.1
  have loop : ∀ (e cc : Nat) (w5 : Option Value), 36 - cc = e → cc ≤ 36 → Wp g MX0_usesOf 5 [some (.ref 68), some (.int (nI p)), some (.int (nI r0)), some (.int (nI (cntB (ubg q.2.1 st p) cc))), some (.int (nI cc)), w5] [] f 0 0 (fun r f' => f = f' ∧ r = some (.int (nI (cntB (ubg q.2.1 st p) 36)))) := by
    intro e
    induction e using Nat.strongRecOn with
    | ind e ih =>
      intro cc w5 he hcc
      by_cases hlt : cc < 36
      · have skip : ∀ w5, ubg q.2.1 st p cc = false → Wp g MX0_usesOf 48 [some (.ref 68), some (.int (nI p)), some (.int (nI r0)), some (.int (nI (cntB (ubg q.2.1 st p) cc))), some (.int (nI cc)), w5] [] f 0 0 (fun r f' => f = f' ∧ r = some (.int (nI (cntB (ubg q.2.1 st p) 36)))) := fun w5 hz => by
          have e := ih _ (by omega) (cc + 1) w5 rfl (by omega)
          rw [cntB_0 hz] at e
          refine rn_iinc (v := nI (cc + 1)) dX0_usesOf_48 rfl (nI_1 cc) (Nat.le_of_ble_eq_true rfl) rfl ?_
          refine rn_goto (tgt := 5) dX0_usesOf_51 (by decide) ?_
          exact e
        cases hpl : plO q.2.1 st cc with
        | none =>
          have hz : Z (r0 * 36 + cc) = -1 := by rw [hR cc hlt, plA_O, hpl]
          refine rn_iload dX0_usesOf_5 rfl ?_
          refine rn_bipush (v := nI 36) dX0_usesOf_7 (by decide) ?_
          refine rn_icmp_ge (tgt := 54) dX0_usesOf_9 (by decide) (fun c9 => ?_) (fun c9 => ?_)
          · exact absurd (ge_ex c9 (by omega) (by decide)) (by omega)
          · refine rn_aload_n dX0_usesOf_12 rfl ?_
            refine rn_iload_n dX0_usesOf_13 rfl ?_
            refine rn_iload dX0_usesOf_14 rfl ?_
            refine rn_callV dX0_usesOf_16 lmX0_87 ⟨Nat.le_of_ble_eq_true rfl, Nat.le_of_ble_eq_true rfl⟩ (ct_placementAt g f hO hZ hr hlt) hO rfl rfl (Nat.le_of_ble_eq_true rfl) ?_
            rintro _ _ ⟨rfl, rfl⟩
            rw [hz]
            refine rn_istore dX0_usesOf_19 (Nat.le_of_ble_eq_true rfl) rfl ?_
            refine rn_aload_n dX0_usesOf_21 rfl ?_
            refine rn_iload dX0_usesOf_22 rfl ?_
            refine rn_iload dX0_usesOf_24 rfl ?_
            refine rn_callV dX0_usesOf_26 lmX0_90 ⟨Nat.le_of_ble_eq_true rfl, Nat.le_of_ble_eq_true rfl⟩ (ct_beginsNo g f (nI cc) hO) hO rfl rfl (Nat.le_of_ble_eq_true rfl) ?_
            rintro _ _ ⟨rfl, rfl⟩
            refine rn_if_eq (tgt := 48) dX0_usesOf_29 (by decide) (fun c29 => ?_) (fun c29 => ?_)
            · exact skip _ (by rw [ubg, hpl])
            · exact absurd rfl c29
        | some k =>
          have hk := IVs_get hi k (plO_mem hpl).1
          have hz : Z (r0 * 36 + cc) = nI k := by rw [hR cc hlt, plA_O, hpl]
          have hpk := hQ.pc hk
          have v8 := hQ.1.2.2.2.2
          refine rn_iload dX0_usesOf_5 rfl ?_
          refine rn_bipush (v := nI 36) dX0_usesOf_7 (by decide) ?_
          refine rn_icmp_ge (tgt := 54) dX0_usesOf_9 (by decide) (fun c9 => ?_) (fun c9 => ?_)
          · exact absurd (ge_ex c9 (by omega) (by decide)) (by omega)
          · refine rn_aload_n dX0_usesOf_12 rfl ?_
            refine rn_iload_n dX0_usesOf_13 rfl ?_
            refine rn_iload dX0_usesOf_14 rfl ?_
            refine rn_callV dX0_usesOf_16 lmX0_87 ⟨Nat.le_of_ble_eq_true rfl, Nat.le_of_ble_eq_true rfl⟩ (ct_placementAt g f hO hZ hr hlt) hO rfl rfl (Nat.le_of_ble_eq_true rfl) ?_
            rintro _ _ ⟨rfl, rfl⟩
            rw [hz]
            refine rn_istore dX0_usesOf_19 (Nat.le_of_ble_eq_true rfl) rfl ?_
            refine rn_aload_n dX0_usesOf_21 rfl ?_
            refine rn_iload dX0_usesOf_22 rfl ?_
            refine rn_iload dX0_usesOf_24 rfl ?_
            refine rn_callV dX0_usesOf_26 lmX0_90 ⟨Nat.le_of_ble_eq_true rfl, Nat.le_of_ble_eq_true rfl⟩ (ct_beginsAt g f hO hL hE hl hk hlt) hO rfl rfl (Nat.le_of_ble_eq_true rfl) ?_
            rintro _ _ ⟨rfl, rfl⟩
            refine rn_if_eq (tgt := 48) dX0_usesOf_29 (by decide) (fun c29 => ?_) (fun c29 => ?_)
            · first | exact skip _ (by rw [ubg, hpl]; simp only [Bool.and_eq_false_iff]; exact Or.inl (bI_0.mp c29)) | exact skip _ (by rw [ubg, hpl]; simp only [Bool.and_eq_false_iff]; exact Or.inr (decide_eq_false (fun h => c42 (by rw [h])))) | exact (by
                have e := ih _ (by omega) (cc + 1) (some (.int (nI k))) rfl (by omega)
                rw [cntB_1 (by rw [ubg, hpl]; simp only [Bool.and_eq_true]; exact ⟨bI_n0.mp c29, decide_eq_true ((nI_eq (a := qp q k) (b := p) (by omega) (by omega)).mp c42)⟩)] at e
                exact rn_iinc (v := nI (cc + 1)) dX0_usesOf_48 rfl (nI_1 cc) (Nat.le_of_ble_eq_true rfl) rfl (rn_goto (tgt := 5) dX0_usesOf_51 (by decide) e))
            · refine rn_aload_n dX0_usesOf_32 rfl ?_
              refine rn_get dX0_usesOf_33 lfX0_33 hO rfl ?_
              refine rn_iload dX0_usesOf_36 rfl ?_
              refine rn_callV dX0_usesOf_38 lmX0_94 ⟨Nat.le_of_ble_eq_true rfl, Nat.le_of_ble_eq_true rfl⟩ (ct_pieceOf g f hL hE hk hl) hL.1 rfl rfl (Nat.le_of_ble_eq_true rfl) ?_
              rintro _ _ ⟨rfl, rfl⟩
              refine rn_iload_n dX0_usesOf_41 rfl ?_
              refine rn_icmp_ne (tgt := 48) dX0_usesOf_42 (by decide) (fun c42 => ?_) (fun c42 => ?_)
              · first | exact skip _ (by rw [ubg, hpl]; simp only [Bool.and_eq_false_iff]; exact Or.inl (bI_0.mp c29)) | exact skip _ (by rw [ubg, hpl]; simp only [Bool.and_eq_false_iff]; exact Or.inr (decide_eq_false (fun h => c42 (by rw [h])))) | exact (by
                  have e := ih _ (by omega) (cc + 1) (some (.int (nI k))) rfl (by omega)
                  rw [cntB_1 (by rw [ubg, hpl]; simp only [Bool.and_eq_true]; exact ⟨bI_n0.mp c29, decide_eq_true ((nI_eq (a := qp q k) (b := p) (by omega) (by omega)).mp c42)⟩)] at e
                  exact rn_iinc (v := nI (cc + 1)) dX0_usesOf_48 rfl (nI_1 cc) (Nat.le_of_ble_eq_true rfl) rfl (rn_goto (tgt := 5) dX0_usesOf_51 (by decide) e))
              · refine rn_iinc (v := nI (cntB (ubg q.2.1 st p) cc + 1)) dX0_usesOf_45 rfl (nI_1 _) (Nat.le_of_ble_eq_true rfl) rfl ?_
                first | exact skip _ (by rw [ubg, hpl]; simp only [Bool.and_eq_false_iff]; exact Or.inl (bI_0.mp c29)) | exact skip _ (by rw [ubg, hpl]; simp only [Bool.and_eq_false_iff]; exact Or.inr (decide_eq_false (fun h => c42 (by rw [h])))) | exact (by
                  have e := ih _ (by omega) (cc + 1) (some (.int (nI k))) rfl (by omega)
                  rw [cntB_1 (by rw [ubg, hpl]; simp only [Bool.and_eq_true]; exact ⟨bI_n0.mp c29, decide_eq_true ((nI_eq (a := qp q k) (b := p) (by omega) (by omega)).mp c42)⟩)] at e
                  exact rn_iinc (v := nI (cc + 1)) dX0_usesOf_48 rfl (nI_1 cc) (Nat.le_of_ble_eq_true rfl) rfl (rn_goto (tgt := 5) dX0_usesOf_51 (by decide) e))
      · have hc36 : cc = 36 := by omega
        subst hc36
        refine rn_iload dX0_usesOf_5 rfl ?_
        refine rn_bipush (v := nI 36) dX0_usesOf_7 (by decide) ?_
        refine rn_icmp_ge (tgt := 54) dX0_usesOf_9 (by decide) (fun c9 => ?_) (fun c9 => ?_)
        · refine rn_iload_n dX0_usesOf_54 rfl ?_
          refine rn_iret dX0_usesOf_55 rfl ?_
          exact ⟨rfl, rfl⟩
        · exact absurd (ge_in c9 (by decide)) (by decide)
  refine rn_iconst (v := nI 0) dX0_usesOf_0 (by decide) ?_
  refine rn_istore_n dX0_usesOf_1 (Nat.le_of_ble_eq_true rfl) rfl ?_
  refine rn_iconst (v := nI 0) dX0_usesOf_2 (by decide) ?_
  refine rn_istore dX0_usesOf_3 (Nat.le_of_ble_eq_true rfl) rfl ?_
  exact loop 36 0 none rfl (by omega)
