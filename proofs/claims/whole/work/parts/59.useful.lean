def stC (l : List PE) (op : Nat) : Nat → Bool := psF l op (l.length + 1)
theorem cnt_psF {l : List PE} {op : Nat} : ∀ n, ank l op (psF l op n) l.length = true → n + 1 ≤ cntB (psF l op (n + 1)) l.length
  | 0, h => by
    have := cnt_spk l op l.length (psF l op 0) l.length (Nat.le_refl _)
    rw [h] at this
    simp at this
    exact Nat.le_trans (by omega) this
  | n + 1, h => by
    have h0 : ank l op (psF l op n) l.length = true := by
      cases hh : ank l op (psF l op n) l.length with
      | true => rfl
      | false =>
        rw [psF_stop hh 1, hh] at h
        cases h
    have ih := cnt_psF n h0
    have := cnt_spk l op l.length (psF l op (n + 1)) l.length (Nat.le_refl _)
    rw [h] at this
    simp at this
    exact Nat.le_trans (by omega) this
theorem stC_ok (l : List PE) (op : Nat) : STK l op (stC l op) := by
  refine ⟨l.length + 1, fun _ _ => rfl, ?_⟩
  cases h : ank l op (psF l op (l.length + 1)) l.length with
  | false => rfl
  | true =>
    have h1 := cnt_psF _ h
    have h2 := cntB_le (psF l op (l.length + 1 + 1)) l.length
    omega
/-- useful placements of a piece, and at a cell -/
def usP (P : PS) (l : List PE) (p : Nat) : Nat := cntB (fun k => !stC l (opP P) k && decide ((gp l k).1 = p)) l.length
def usC (P : PS) (l : List PE) (c : Nat) : Nat := cntB (fun k => !stC l (opP P) k && (msk l k).testBit c) l.length
theorem usP_of {P : PS} {l : List PE} {p : Nat} {s : Nat → Bool} (h : STK l (opP P) s) : cntB (fun k => !s k && decide ((gp l k).1 = p)) l.length = usP P l p :=
  cntB_congr _ (fun j hj => by simp only [h.eq (stC_ok l (opP P)) j hj])
theorem usC_of {P : PS} {l : List PE} {c : Nat} {s : Nat → Bool} (h : STK l (opP P) s) : cntB (fun k => !s k && (msk l k).testBit c) l.length = usC P l c :=
  cntB_congr _ (fun j hj => by simp only [h.eq (stC_ok l (opP P)) j hj])
theorem cntB_1 {s : Nat → Bool} {k : Nat} (h : s k = true) : cntB s (k + 1) = cntB s k + 1 := by rw [cntB, h]; rfl
theorem cntB_0 {s : Nat → Bool} {k : Nat} (h : s k = false) : cntB s (k + 1) = cntB s k := by rw [cntB, h]; rfl
theorem ct_leftOfPiece (g : GG) (f : Mm) {P : PS} {l : List PE} {st : Nat → Bool} {p : Nat} (hO : f 70 = some SVE) (hZ : AZ f 71 1280 st) (hL : PLc f l (opP P)) (hS : LSd P l) (hK : STK l (opP P) st) (hp : p < 8) : Ct g MX7_leftOfPiece [.ref 70, .ref 56, .int (nI p)] f 0 0 (fun r f' => f = f' ∧ r = some (.int (nI (usP P l p)))) := by
  refine Ct.of ok_MX7_leftOfPiece (Nat.le_of_ble_eq_true rfl) ?_
  change Wp g MX7_leftOfPiece 0 [some (.ref 70), some (.ref 56), some (.int (nI p)), none, none] [] f 0 0 _
  obtain ⟨hE, hl, hpc, -⟩ := id hS
  obtain ⟨b, hb, hbe⟩ := id hZ
  rw [← usP_of hK]
  have loop : ∀ (d k : Nat), l.length - k = d → k ≤ l.length → Wp g MX7_leftOfPiece 5 [some (.ref 70), some (.ref 56), some (.int (nI p)), some (.int (nI (cntB (fun k => !st k && decide ((gp l k).1 = p)) k))), some (.int (nI k))] [] f 0 0 (fun r f' => f = f' ∧ r = some (.int (nI (cntB (fun k => !st k && decide ((gp l k).1 = p)) l.length)))) := by
    intro d
    induction d using Nat.strongRecOn with
    | ind d ih =>
      intro k hd hk
      have skip : (!st k && decide ((gp l k).1 = p)) = false → k < l.length → Wp g MX7_leftOfPiece 5 [some (.ref 70), some (.ref 56), some (.int (nI p)), some (.int (nI (cntB (fun k => !st k && decide ((gp l k).1 = p)) k))), some (.int (nI (k + 1)))] [] f 0 0 (fun r f' => f = f' ∧ r = some (.int (nI (cntB (fun k => !st k && decide ((gp l k).1 = p)) l.length)))) := fun h hk2 => by
        have e := ih (l.length - (k + 1)) (by omega) (k + 1) rfl (by omega)
        rw [cntB_0 h] at e
        exact e
      refine rn_iload dX7_leftOfPiece_5 rfl ?_
      refine rn_aload_n dX7_leftOfPiece_7 rfl ?_
      refine rn_aload_n dX7_leftOfPiece_8 rfl ?_
      refine rn_callV dX7_leftOfPiece_9 lmX7_19 ⟨Nat.le_of_ble_eq_true rfl, Nat.le_of_ble_eq_true rfl⟩ (ct_limitOf g f hO hZ hL hl) hO rfl rfl (Nat.le_of_ble_eq_true rfl) ?_
      rintro _ _ ⟨rfl, rfl⟩
      refine rn_icmp_ge (tgt := 44) dX7_leftOfPiece_12 (by decide) (fun c12 => ?_) (fun c12 => ?_)
      · refine rn_iload_n dX7_leftOfPiece_44 rfl ?_
        refine rn_iret dX7_leftOfPiece_45 rfl ?_
        have hk2 := ge_ex c12 (by omega) (by omega)
        exact ⟨rfl, by rw [show k = l.length by omega]⟩
      · have hk2 := ge_in c12 (by omega)
        refine rn_aload_n dX7_leftOfPiece_15 rfl ?_
        refine rn_get dX7_leftOfPiece_16 lfX7_9 hO rfl ?_
        refine rn_iload dX7_leftOfPiece_19 rfl ?_
        refine rn_zald dX7_leftOfPiece_21 hb (vp_in_nI (show k < 1280 by omega) (by decide)) ?_
        rw [nI_clamp (by omega), hbe k (by omega)]
        refine rn_if_ne (tgt := 38) dX7_leftOfPiece_22 (by decide) (fun c22 => ?_) (fun c22 => ?_)
        · refine rn_iinc (v := nI (k + 1)) dX7_leftOfPiece_38 rfl (nI_1 k) (Nat.le_of_ble_eq_true rfl) rfl ?_
          refine rn_goto (tgt := 5) dX7_leftOfPiece_41 (by decide) ?_
          exact skip (by rw [bI_n0.mp c22]; rfl) hk2
        · refine rn_aload_n dX7_leftOfPiece_25 rfl ?_
          refine rn_iload dX7_leftOfPiece_26 rfl ?_
          refine rn_callV dX7_leftOfPiece_28 lmX7_47 ⟨Nat.le_of_ble_eq_true rfl, Nat.le_of_ble_eq_true rfl⟩ (ct_pieceOf g f hL hE hk2 hl) hL.1 rfl rfl (Nat.le_of_ble_eq_true rfl) ?_
          rintro _ _ ⟨rfl, rfl⟩
          refine rn_iload_n dX7_leftOfPiece_31 rfl ?_
          refine rn_icmp_ne (tgt := 38) dX7_leftOfPiece_32 (by decide) (fun c32 => ?_) (fun c32 => ?_)
          · refine rn_iinc (v := nI (k + 1)) dX7_leftOfPiece_38 rfl (nI_1 k) (Nat.le_of_ble_eq_true rfl) rfl ?_
            refine rn_goto (tgt := 5) dX7_leftOfPiece_41 (by decide) ?_
            exact skip (by rw [decide_eq_false (fun q => c32 (by rw [q])), Bool.and_false]) hk2
          · refine rn_iinc (v := nI (cntB (fun k => !st k && decide ((gp l k).1 = p)) k + 1)) dX7_leftOfPiece_35 rfl (nI_1 _) (Nat.le_of_ble_eq_true rfl) rfl ?_
            refine rn_iinc (v := nI (k + 1)) dX7_leftOfPiece_38 rfl (nI_1 k) (Nat.le_of_ble_eq_true rfl) rfl ?_
            refine rn_goto (tgt := 5) dX7_leftOfPiece_41 (by decide) ?_
            have hev := (hE k hk2).1
            have heq : (gp l k).1 = p := (nI_eq (by omega) (by omega)).mp c32
            have e := ih _ (by omega) (k + 1) rfl (by omega)
            rw [cntB_1 (show (!st k && decide ((gp l k).1 = p)) = true by rw [bI_0.mp c22, decide_eq_true heq]; rfl)] at e
            exact e
  refine rn_iconst (v := nI 0) dX7_leftOfPiece_0 (by decide) ?_
  refine rn_istore_n dX7_leftOfPiece_1 (Nat.le_of_ble_eq_true rfl) rfl ?_
  refine rn_iconst (v := nI 0) dX7_leftOfPiece_2 (by decide) ?_
  refine rn_istore dX7_leftOfPiece_3 (Nat.le_of_ble_eq_true rfl) rfl ?_
  exact loop _ 0 rfl (by omega)
theorem ct_leftAtCell (g : GG) (f : Mm) {P : PS} {l : List PE} {st : Nat → Bool} {c : Nat} (hO : f 70 = some SVE) (hZ : AZ f 71 1280 st) (hL : PLc f l (opP P)) (hS : LSd P l) (hK : STK l (opP P) st) (hc : c < 36) : Ct g MX7_leftAtCell [.ref 70, .ref 56, .int (nI c)] f 0 0 (fun r f' => f = f' ∧ r = some (.int (nI (usC P l c)))) := by
  refine Ct.of ok_MX7_leftAtCell (Nat.le_of_ble_eq_true rfl) ?_
  change Wp g MX7_leftAtCell 0 [some (.ref 70), some (.ref 56), some (.int (nI c)), none, none] [] f 0 0 _
  obtain ⟨hE, hl, hpc, -⟩ := id hS
  obtain ⟨b, hb, hbe⟩ := id hZ
  rw [← usC_of hK]
  have loop : ∀ (d k : Nat), l.length - k = d → k ≤ l.length → Wp g MX7_leftAtCell 5 [some (.ref 70), some (.ref 56), some (.int (nI c)), some (.int (nI (cntB (fun k => !st k && (msk l k).testBit c) k))), some (.int (nI k))] [] f 0 0 (fun r f' => f = f' ∧ r = some (.int (nI (cntB (fun k => !st k && (msk l k).testBit c) l.length)))) := by
    intro d
    induction d using Nat.strongRecOn with
    | ind d ih =>
      intro k hd hk
      have skip : (!st k && (msk l k).testBit c) = false → k < l.length → Wp g MX7_leftAtCell 5 [some (.ref 70), some (.ref 56), some (.int (nI c)), some (.int (nI (cntB (fun k => !st k && (msk l k).testBit c) k))), some (.int (nI (k + 1)))] [] f 0 0 (fun r f' => f = f' ∧ r = some (.int (nI (cntB (fun k => !st k && (msk l k).testBit c) l.length)))) := fun h hk2 => by
        have e := ih (l.length - (k + 1)) (by omega) (k + 1) rfl (by omega)
        rw [cntB_0 h] at e
        exact e
      refine rn_iload dX7_leftAtCell_5 rfl ?_
      refine rn_aload_n dX7_leftAtCell_7 rfl ?_
      refine rn_aload_n dX7_leftAtCell_8 rfl ?_
      refine rn_callV dX7_leftAtCell_9 lmX7_19 ⟨Nat.le_of_ble_eq_true rfl, Nat.le_of_ble_eq_true rfl⟩ (ct_limitOf g f hO hZ hL hl) hO rfl rfl (Nat.le_of_ble_eq_true rfl) ?_
      rintro _ _ ⟨rfl, rfl⟩
      refine rn_icmp_ge (tgt := 47) dX7_leftAtCell_12 (by decide) (fun c12 => ?_) (fun c12 => ?_)
      · refine rn_iload_n dX7_leftAtCell_47 rfl ?_
        refine rn_iret dX7_leftAtCell_48 rfl ?_
        have hk2 := ge_ex c12 (by omega) (by omega)
        exact ⟨rfl, by rw [show k = l.length by omega]⟩
      · have hk2 := ge_in c12 (by omega)
        refine rn_aload_n dX7_leftAtCell_15 rfl ?_
        refine rn_get dX7_leftAtCell_16 lfX7_9 hO rfl ?_
        refine rn_iload dX7_leftAtCell_19 rfl ?_
        refine rn_zald dX7_leftAtCell_21 hb (vp_in_nI (show k < 1280 by omega) (by decide)) ?_
        rw [nI_clamp (by omega), hbe k (by omega)]
        refine rn_if_ne (tgt := 41) dX7_leftAtCell_22 (by decide) (fun c22 => ?_) (fun c22 => ?_)
        · refine rn_iinc (v := nI (k + 1)) dX7_leftAtCell_41 rfl (nI_1 k) (Nat.le_of_ble_eq_true rfl) rfl ?_
          refine rn_goto (tgt := 5) dX7_leftAtCell_44 (by decide) ?_
          exact skip (by rw [bI_n0.mp c22]; rfl) hk2
        · refine rn_aload_n dX7_leftAtCell_25 rfl ?_
          refine rn_iload dX7_leftAtCell_26 rfl ?_
          refine rn_callV dX7_leftAtCell_28 lmX7_39 ⟨Nat.le_of_ble_eq_true rfl, Nat.le_of_ble_eq_true rfl⟩ (ct_maskOf g f hL hk2 hl) hL.1 rfl rfl (Nat.le_of_ble_eq_true rfl) ?_
          rintro _ _ ⟨rfl, rfl⟩
          refine rn_iload_n dX7_leftAtCell_31 rfl ?_
          refine rn_callS dX7_leftAtCell_32 lmX7_51 ⟨Nat.le_of_ble_eq_true rfl, Nat.le_of_ble_eq_true rfl⟩ (ct_holds g f (n := (gp l k).2.2.2) (k := c) (by have := (hE k hk2).2.2.2.2; omega) (by omega)) rfl rfl (Nat.le_of_ble_eq_true rfl) ?_
          rintro _ _ ⟨rfl, rfl⟩
          refine rn_if_eq (tgt := 41) dX7_leftAtCell_35 (by decide) (fun c35 => ?_) (fun c35 => ?_)
          · refine rn_iinc (v := nI (k + 1)) dX7_leftAtCell_41 rfl (nI_1 k) (Nat.le_of_ble_eq_true rfl) rfl ?_
            refine rn_goto (tgt := 5) dX7_leftAtCell_44 (by decide) ?_
            exact skip (by rw [show (msk l k).testBit c = false from bI_0.mp c35, Bool.and_false]) hk2
          · refine rn_iinc (v := nI (cntB (fun k => !st k && (msk l k).testBit c) k + 1)) dX7_leftAtCell_38 rfl (nI_1 _) (Nat.le_of_ble_eq_true rfl) rfl ?_
            refine rn_iinc (v := nI (k + 1)) dX7_leftAtCell_41 rfl (nI_1 k) (Nat.le_of_ble_eq_true rfl) rfl ?_
            refine rn_goto (tgt := 5) dX7_leftAtCell_44 (by decide) ?_
            have e := ih _ (by omega) (k + 1) rfl (by omega)
            rw [cntB_1 (show (!st k && (msk l k).testBit c) = true by rw [bI_0.mp c22, show (msk l k).testBit c = true from bI_n0.mp c35]; rfl)] at e
            exact e
  refine rn_iconst (v := nI 0) dX7_leftAtCell_0 (by decide) ?_
  refine rn_istore_n dX7_leftAtCell_1 (Nat.le_of_ble_eq_true rfl) rfl ?_
  refine rn_iconst (v := nI 0) dX7_leftAtCell_2 (by decide) ?_
  refine rn_istore dX7_leftAtCell_3 (Nat.le_of_ble_eq_true rfl) rfl ?_
  exact loop _ 0 rfl (by omega)
theorem PLm.AL {f : Mm} {l : List PE} (h : PLm f l) : ∃ B, AL f 83 2304 B ∧ ∀ k, k < l.length → B k = msk l k := by
  obtain ⟨-, -, -, ⟨b4, g4, q4⟩, -⟩ := h
  refine ⟨fun j => if j < l.length then msk l j else (b4 j).toBitVec.toNat, ⟨b4, g4, fun j hj => ?_⟩, fun k hk => if_pos hk⟩
  show b4 j = lN (if j < l.length then msk l j else (b4 j).toBitVec.toNat)
  by_cases h : j < l.length
  · rw [if_pos h, q4 j _ (gp_some h)]; rfl
  · rw [if_neg h]
    obtain ⟨n, hn, e⟩ := wb_of (b4 j)
    rw [e, wb_tn hn]
theorem ch_has (g : GG) (f : Mm) {wi : Nat → Int32} {cv : Int64} {l : List PE} {P : PS} {k c : Nat} (hM : f 75 = some (MO wi cv)) (hL : PLm f l) (hS : LSd P l) (hk : k < l.length) (hc : c < 64) : Ct g MX12_has [.ref 75, .int (nI k), .int (nI c)] f 0 0 (fun r f' => f = f' ∧ r = some (.int (bI ((msk l k).testBit c)))) := by
  obtain ⟨B, hB, hBe⟩ := hL.AL
  have hm : msk l k < 2 ^ 36 := (hS.1 k hk).2.2.2.2
  have hl := hS.2.1
  have h := cm_has g f (k := k) (c := c) hM hB (by omega) hc (by rw [hBe k hk]; omega)
  rw [hBe k hk] at h
  exact h
theorem cm_useful (g : GG) (f : Mm) {wi s F : Nat → Int32} {cv : Int64} {P : PS} {sh fr co cp : Nat → Nat} {l0 : List PE} {st0 : Nat → Bool} (x : Int32) (hM : f 75 = some (MO wi cv)) (hs : AR f 76 73 s) (hF : AR f 79 9 F) (hL : PLm f l0) (hZ : AZ f 92 2304 st0) (hP : SP s P) (hV : VD P) (hN : VN P sh fr co cp) : Ct g MX12_useful [.ref 75, .int x] f 0 0 (fun r f' => (∀ k, k ≠ 75 → k ≠ 92 → (k < 79 ∨ 84 < k) → f' k = f k) ∧ (∃ l', PLm f' l') ∧ (∃ F', AR f' 79 9 F') ∧ (∃ a b, f' 75 = some (MO (mW wi a b) cv)) ∧ (∃ st, AZ f' 92 2304 st) ∧ r = some (.int (if inR x (pN P) then nI (usP P (pl1 P sh fr co (pN P)) x.toNatClampNeg) else -1))) := by
  refine Ct.of ok_MX12_useful (Nat.le_of_ble_eq_true rfl) ?_
  change Wp g MX12_useful 0 [some (.ref 75), some (.int x), none, none] [] f 0 0 _
  have hLS := pl1_LSd hV hN
  have v8 := hV.2.2.2.2
  refine rn_aload_n dX12_useful_0 rfl ?_
  refine rn_iload_n dX12_useful_1 rfl ?_
  refine rn_callV dX12_useful_2 lmX12_139 ⟨Nat.le_of_ble_eq_true rfl, Nat.le_of_ble_eq_true rfl⟩ (cm_isPiece g f x hM hs hP hV) hM rfl rfl (Nat.le_of_ble_eq_true rfl) ?_
  rintro _ _ ⟨rfl, rfl⟩
  cases hin : inR x (pN P) with
  | false =>
    refine rn_if_ne (tgt := 10) dX12_useful_5 (by decide) (fun c5 => ?_) (fun c5 => ?_)
    · exact absurd (show bI false = 0 from rfl) c5
    · refine rn_iconst (v := (-1)) dX12_useful_8 (by decide) ?_
      refine rn_iret dX12_useful_9 rfl ?_
      exact ⟨fun _ _ _ _ => rfl, ⟨l0, hL⟩, ⟨F, hF⟩, ⟨wi 6, wi 12, by rw [← mW_of]; exact hM⟩, ⟨st0, hZ⟩, rfl⟩
  | true =>
    obtain ⟨p, hp, rfl⟩ := (inR_iff (by omega)).mp hin
    rw [nI_clamp (by omega)]
    refine rn_if_ne (tgt := 10) dX12_useful_5 (by decide) (fun c5 => ?_) (fun c5 => ?_)
    rotate_left
    · exact absurd c5 (by decide)
    refine rn_aload_n dX12_useful_10 rfl ?_
    refine rn_callV dX12_useful_11 lmX12_286 ⟨Nat.le_of_ble_eq_true rfl, Nat.le_of_ble_eq_true rfl⟩ (cm_strikes g f hM hs hF hL hZ hP hV hN) hM rfl rfl (Nat.le_of_ble_eq_true rfl) ?_
    rintro _ f1 ⟨rfl, k1, hL1, hF1, ⟨a1, o1⟩, st, hZ1, hK⟩
    generalize pl1 P sh fr co (pN P) = l at hLS hL1 o1 hK ⊢
    obtain ⟨hE, hl, hpc, -⟩ := id hLS
    obtain ⟨b, hb, hbe⟩ := id hZ1
    obtain ⟨⟨b1, g1, q1⟩, -⟩ := id hL1
    rw [if_pos rfl, ← usP_of hK]
    have loop : ∀ (d k : Nat), l.length - k = d → k ≤ l.length → Wp g MX12_useful 18 [some (.ref 75), some (.int (nI p)), some (.int (nI (cntB (fun k => !st k && decide ((gp l k).1 = p)) k))), some (.int (nI k))] [] f1 0 0 (fun r f' => (∀ k, k ≠ 75 → k ≠ 92 → (k < 79 ∨ 84 < k) → f' k = f k) ∧ (∃ l', PLm f' l') ∧ (∃ F', AR f' 79 9 F') ∧ (∃ a b, f' 75 = some (MO (mW wi a b) cv)) ∧ (∃ st, AZ f' 92 2304 st) ∧ r = some (.int (nI (cntB (fun k => !st k && decide ((gp l k).1 = p)) l.length)))) := by
      intro d
      induction d using Nat.strongRecOn with
      | ind d ih =>
        intro k hd hk
        refine rn_iload_n dX12_useful_18 rfl ?_
        refine rn_aload_n dX12_useful_19 rfl ?_
        refine rn_get dX12_useful_20 lfX12_106 o1 rfl ?_
        rw [mW_12]
        refine rn_icmp_ge (tgt := 59) dX12_useful_23 (by decide) (fun c23 => ?_) (fun c23 => ?_)
        · refine rn_iload_n dX12_useful_59 rfl ?_
          refine rn_iret dX12_useful_60 rfl ?_
          have hk2 := ge_ex c23 (by omega) (by omega)
          exact ⟨k1, ⟨l, hL1⟩, hF1, ⟨a1, _, o1⟩, ⟨st, hZ1⟩, by rw [show k = l.length by omega]⟩
        · have hk2 := ge_in c23 (by omega)
          refine rn_iload_n dX12_useful_26 rfl ?_
          refine rn_aload_n dX12_useful_27 rfl ?_
          refine rn_get dX12_useful_28 lfX12_60 o1 rfl ?_
          refine rn_iload_n dX12_useful_31 rfl ?_
          refine rn_zald dX12_useful_32 hb (vp_in_nI (show k < 2304 by omega) (by decide)) ?_
          rw [nI_clamp (by omega), hbe k (by omega)]
          refine rn_if_ne (tgt := 50) dX12_useful_33 (by decide) (fun c33 => ?_) (fun c33 => ?_)
          · refine rn_iconst (v := nI 0) dX12_useful_50 (by decide) ?_
            refine rn_iadd dX12_useful_51 ?_
            rw [nI_add]
            refine rn_istore_n dX12_useful_52 (Nat.le_of_ble_eq_true rfl) rfl ?_
            refine rn_iinc (v := nI (k + 1)) dX12_useful_53 rfl (nI_1 k) (Nat.le_of_ble_eq_true rfl) rfl ?_
            refine rn_goto (tgt := 18) dX12_useful_56 (by decide) ?_
            have e := ih (l.length - (k + 1)) (by omega) (k + 1) rfl (by omega)
            rw [cntB_0 (show (!st k && decide ((gp l k).1 = p)) = false by rw [bI_n0.mp c33]; rfl)] at e
            exact e
          · refine rn_aload_n dX12_useful_36 rfl ?_
            refine rn_get dX12_useful_37 lfX12_23 o1 rfl ?_
            refine rn_iload_n dX12_useful_40 rfl ?_
            refine rn_iald dX12_useful_41 g1 (vp_in_nI (show k < 2304 by omega) (by decide)) ?_
            rw [nI_clamp (by omega), q1 k _ (gp_some hk2)]
            refine rn_iload_n dX12_useful_42 rfl ?_
            refine rn_icmp_ne (tgt := 50) dX12_useful_43 (by decide) (fun c43 => ?_) (fun c43 => ?_)
            · refine rn_iconst (v := nI 0) dX12_useful_50 (by decide) ?_
              refine rn_iadd dX12_useful_51 ?_
              rw [nI_add]
              refine rn_istore_n dX12_useful_52 (Nat.le_of_ble_eq_true rfl) rfl ?_
              refine rn_iinc (v := nI (k + 1)) dX12_useful_53 rfl (nI_1 k) (Nat.le_of_ble_eq_true rfl) rfl ?_
              refine rn_goto (tgt := 18) dX12_useful_56 (by decide) ?_
              have e := ih (l.length - (k + 1)) (by omega) (k + 1) rfl (by omega)
              rw [cntB_0 (show (!st k && decide ((gp l k).1 = p)) = false by rw [decide_eq_false (fun q => c43 (by rw [q])), Bool.and_false])] at e
              exact e
            · refine rn_iconst (v := nI 1) dX12_useful_46 (by decide) ?_
              refine rn_goto (tgt := 51) dX12_useful_47 (by decide) ?_
              refine rn_iadd dX12_useful_51 ?_
              rw [nI_add]
              refine rn_istore_n dX12_useful_52 (Nat.le_of_ble_eq_true rfl) rfl ?_
              refine rn_iinc (v := nI (k + 1)) dX12_useful_53 rfl (nI_1 k) (Nat.le_of_ble_eq_true rfl) rfl ?_
              refine rn_goto (tgt := 18) dX12_useful_56 (by decide) ?_
              have hev := (hE k hk2).1
              have heq : (gp l k).1 = p := (nI_eq (by omega) (by omega)).mp c43
              have e := ih (l.length - (k + 1)) (by omega) (k + 1) rfl (by omega)
              rw [cntB_1 (show (!st k && decide ((gp l k).1 = p)) = true by rw [bI_0.mp c33, decide_eq_true heq]; rfl)] at e
              exact e
    refine rn_iconst (v := nI 0) dX12_useful_14 (by decide) ?_
    refine rn_istore_n dX12_useful_15 (Nat.le_of_ble_eq_true rfl) rfl ?_
    refine rn_iconst (v := nI 0) dX12_useful_16 (by decide) ?_
    refine rn_istore_n dX12_useful_17 (Nat.le_of_ble_eq_true rfl) rfl ?_
    exact loop _ 0 rfl (by omega)

theorem cm_usefulAt (g : GG) (f : Mm) {wi s F : Nat → Int32} {cv : Int64} {P : PS} {sh fr co cp : Nat → Nat} {l0 : List PE} {st0 : Nat → Bool} (x : Int32) (hM : f 75 = some (MO wi cv)) (hs : AR f 76 73 s) (hF : AR f 79 9 F) (hL : PLm f l0) (hZ : AZ f 92 2304 st0) (hP : SP s P) (hV : VD P) (hN : VN P sh fr co cp) : Ct g MX12_usefulAt [.ref 75, .int x] f 0 0 (fun r f' => (∀ k, k ≠ 75 → k ≠ 92 → (k < 79 ∨ 84 < k) → f' k = f k) ∧ (∃ l', PLm f' l') ∧ (∃ F', AR f' 79 9 F') ∧ (∃ a b, f' 75 = some (MO (mW wi a b) cv)) ∧ (∃ st, AZ f' 92 2304 st) ∧ r = some (.int (if inR x (pW P * pH P) then (if pC P x.toNatClampNeg = -1 then (-9) else nI (usC P (pl1 P sh fr co (pN P)) x.toNatClampNeg)) else -1))) := by
  refine Ct.of ok_MX12_usefulAt (Nat.le_of_ble_eq_true rfl) ?_
  change Wp g MX12_usefulAt 0 [some (.ref 75), some (.int x), none, none] [] f 0 0 _
  have hLS := pl1_LSd hV hN
  have ha := hV.area
  have v8 := hV.2.2.2.2
  refine rn_aload_n dX12_usefulAt_0 rfl ?_
  refine rn_iload_n dX12_usefulAt_1 rfl ?_
  refine rn_callV dX12_usefulAt_2 lmX12_126 ⟨Nat.le_of_ble_eq_true rfl, Nat.le_of_ble_eq_true rfl⟩ (cm_isCell g f x hM hs hP hV) hM rfl rfl (Nat.le_of_ble_eq_true rfl) ?_
  rintro _ _ ⟨rfl, rfl⟩
  cases hin : inR x (pW P * pH P) with
  | false =>
    refine rn_if_ne (tgt := 10) dX12_usefulAt_5 (by decide) (fun c5 => ?_) (fun c5 => ?_)
    · exact absurd (show bI false = 0 from rfl) c5
    · refine rn_iconst (v := (-1)) dX12_usefulAt_8 (by decide) ?_
      refine rn_iret dX12_usefulAt_9 rfl ?_
      exact ⟨fun _ _ _ _ => rfl, ⟨l0, hL⟩, ⟨F, hF⟩, ⟨wi 6, wi 12, by rw [← mW_of]; exact hM⟩, ⟨st0, hZ⟩, rfl⟩
  | true =>
    obtain ⟨p, hp, rfl⟩ := (inR_iff (by omega)).mp hin
    rw [nI_clamp (by omega)]
    refine rn_if_ne (tgt := 10) dX12_usefulAt_5 (by decide) (fun c5 => ?_) (fun c5 => ?_)
    rotate_left
    · exact absurd c5 (by decide)
    refine rn_aload_n dX12_usefulAt_10 rfl ?_
    refine rn_iload_n dX12_usefulAt_11 rfl ?_
    refine rn_callV dX12_usefulAt_12 lmX12_76 ⟨Nat.le_of_ble_eq_true rfl, Nat.le_of_ble_eq_true rfl⟩ (cm_isOpen g f hM hs (by omega)) hM rfl rfl (Nat.le_of_ble_eq_true rfl) ?_
    rintro _ _ ⟨rfl, rfl⟩
    rw [hP.2.2.2.2.2.1 p hp, if_pos rfl]
    by_cases hh : pC P p = -1
    · rw [decide_eq_false (fun q => q hh), if_pos hh]
      refine rn_if_ne (tgt := 21) dX12_usefulAt_15 (by decide) (fun c15 => ?_) (fun c15 => ?_)
      · exact absurd (show bI false = 0 from rfl) c15
      · refine rn_bipush (v := (-9)) dX12_usefulAt_18 (by decide) ?_
        refine rn_iret dX12_usefulAt_20 rfl ?_
        exact ⟨fun _ _ _ _ => rfl, ⟨l0, hL⟩, ⟨F, hF⟩, ⟨wi 6, wi 12, by rw [← mW_of]; exact hM⟩, ⟨st0, hZ⟩, rfl⟩
    rw [decide_eq_true hh, if_neg hh]
    refine rn_if_ne (tgt := 21) dX12_usefulAt_15 (by decide) (fun c15 => ?_) (fun c15 => ?_)
    rotate_left
    · exact absurd c15 (by decide)
    refine rn_aload_n dX12_usefulAt_21 rfl ?_
    refine rn_callV dX12_usefulAt_22 lmX12_286 ⟨Nat.le_of_ble_eq_true rfl, Nat.le_of_ble_eq_true rfl⟩ (cm_strikes g f hM hs hF hL hZ hP hV hN) hM rfl rfl (Nat.le_of_ble_eq_true rfl) ?_
    rintro _ f1 ⟨rfl, k1, hL1, hF1, ⟨a1, o1⟩, st, hZ1, hK⟩
    generalize pl1 P sh fr co (pN P) = l at hLS hL1 o1 hK ⊢
    obtain ⟨hE, hl, hpc, -⟩ := id hLS
    obtain ⟨b, hb, hbe⟩ := id hZ1
    rw [← usC_of hK]
    have loop : ∀ (d k : Nat), l.length - k = d → k ≤ l.length → Wp g MX12_usefulAt 29 [some (.ref 75), some (.int (nI p)), some (.int (nI (cntB (fun k => !st k && (msk l k).testBit p) k))), some (.int (nI k))] [] f1 0 0 (fun r f' => (∀ k, k ≠ 75 → k ≠ 92 → (k < 79 ∨ 84 < k) → f' k = f k) ∧ (∃ l', PLm f' l') ∧ (∃ F', AR f' 79 9 F') ∧ (∃ a b, f' 75 = some (MO (mW wi a b) cv)) ∧ (∃ st, AZ f' 92 2304 st) ∧ r = some (.int (nI (cntB (fun k => !st k && (msk l k).testBit p) l.length)))) := by
      intro d
      induction d using Nat.strongRecOn with
      | ind d ih =>
        intro k hd hk
        refine rn_iload_n dX12_usefulAt_29 rfl ?_
        refine rn_aload_n dX12_usefulAt_30 rfl ?_
        refine rn_get dX12_usefulAt_31 lfX12_106 o1 rfl ?_
        rw [mW_12]
        refine rn_icmp_ge (tgt := 69) dX12_usefulAt_34 (by decide) (fun c34 => ?_) (fun c34 => ?_)
        · refine rn_iload_n dX12_usefulAt_69 rfl ?_
          refine rn_iret dX12_usefulAt_70 rfl ?_
          have hk2 := ge_ex c34 (by omega) (by omega)
          exact ⟨k1, ⟨l, hL1⟩, hF1, ⟨a1, _, o1⟩, ⟨st, hZ1⟩, by rw [show k = l.length by omega]⟩
        · have hk2 := ge_in c34 (by omega)
          refine rn_iload_n dX12_usefulAt_37 rfl ?_
          refine rn_aload_n dX12_usefulAt_38 rfl ?_
          refine rn_get dX12_usefulAt_39 lfX12_60 o1 rfl ?_
          refine rn_iload_n dX12_usefulAt_42 rfl ?_
          refine rn_zald dX12_usefulAt_43 hb (vp_in_nI (show k < 2304 by omega) (by decide)) ?_
          rw [nI_clamp (by omega), hbe k (by omega)]
          refine rn_if_ne (tgt := 60) dX12_usefulAt_44 (by decide) (fun c44 => ?_) (fun c44 => ?_)
          · refine rn_iconst (v := nI 0) dX12_usefulAt_60 (by decide) ?_
            refine rn_iadd dX12_usefulAt_61 ?_
            rw [nI_add]
            refine rn_istore_n dX12_usefulAt_62 (Nat.le_of_ble_eq_true rfl) rfl ?_
            refine rn_iinc (v := nI (k + 1)) dX12_usefulAt_63 rfl (nI_1 k) (Nat.le_of_ble_eq_true rfl) rfl ?_
            refine rn_goto (tgt := 29) dX12_usefulAt_66 (by decide) ?_
            have e := ih (l.length - (k + 1)) (by omega) (k + 1) rfl (by omega)
            rw [cntB_0 (show (!st k && (msk l k).testBit p) = false by rw [bI_n0.mp c44]; rfl)] at e
            exact e
          · refine rn_aload_n dX12_usefulAt_47 rfl ?_
            refine rn_iload_n dX12_usefulAt_48 rfl ?_
            refine rn_iload_n dX12_usefulAt_49 rfl ?_
            refine rn_callV dX12_usefulAt_50 lmX12_152 ⟨Nat.le_of_ble_eq_true rfl, Nat.le_of_ble_eq_true rfl⟩ (ch_has g f1 o1 hL1 hLS hk2 (by omega)) o1 rfl rfl (Nat.le_of_ble_eq_true rfl) ?_
            rintro _ _ ⟨rfl, rfl⟩
            refine rn_if_eq (tgt := 60) dX12_usefulAt_53 (by decide) (fun c53 => ?_) (fun c53 => ?_)
            · refine rn_iconst (v := nI 0) dX12_usefulAt_60 (by decide) ?_
              refine rn_iadd dX12_usefulAt_61 ?_
              rw [nI_add]
              refine rn_istore_n dX12_usefulAt_62 (Nat.le_of_ble_eq_true rfl) rfl ?_
              refine rn_iinc (v := nI (k + 1)) dX12_usefulAt_63 rfl (nI_1 k) (Nat.le_of_ble_eq_true rfl) rfl ?_
              refine rn_goto (tgt := 29) dX12_usefulAt_66 (by decide) ?_
              have e := ih (l.length - (k + 1)) (by omega) (k + 1) rfl (by omega)
              rw [cntB_0 (show (!st k && (msk l k).testBit p) = false by rw [bI_0.mp c53, Bool.and_false])] at e
              exact e
            · refine rn_iconst (v := nI 1) dX12_usefulAt_56 (by decide) ?_
              refine rn_goto (tgt := 61) dX12_usefulAt_57 (by decide) ?_
              refine rn_iadd dX12_usefulAt_61 ?_
              rw [nI_add]
              refine rn_istore_n dX12_usefulAt_62 (Nat.le_of_ble_eq_true rfl) rfl ?_
              refine rn_iinc (v := nI (k + 1)) dX12_usefulAt_63 rfl (nI_1 k) (Nat.le_of_ble_eq_true rfl) rfl ?_
              refine rn_goto (tgt := 29) dX12_usefulAt_66 (by decide) ?_
              have e := ih (l.length - (k + 1)) (by omega) (k + 1) rfl (by omega)
              rw [cntB_1 (show (!st k && (msk l k).testBit p) = true by rw [bI_0.mp c44, bI_n0.mp c53]; rfl)] at e
              exact e
    refine rn_iconst (v := nI 0) dX12_usefulAt_25 (by decide) ?_
    refine rn_istore_n dX12_usefulAt_26 (Nat.le_of_ble_eq_true rfl) rfl ?_
    refine rn_iconst (v := nI 0) dX12_usefulAt_27 (by decide) ?_
    refine rn_istore_n dX12_usefulAt_28 (Nat.le_of_ble_eq_true rfl) rfl ?_
    exact loop _ 0 rfl (by omega)
