-- a boolean array
def AZ (f : Mm) (q N : Nat) (st : Nat → Bool) : Prop := ∃ b : Nat → Int32, f q = some (.inl (3, N, .inl b)) ∧ ∀ i, i < N → b i = bI (st i)
theorem AZ.keep {f f' : Mm} {q N : Nat} {st : Nat → Bool} (h : AZ f q N st) (e : f' q = f q) : AZ f' q N st := by
  obtain ⟨b, h1, h2⟩ := h
  exact ⟨b, e.trans h1, h2⟩
def updB (st : Nat → Bool) (k : Nat) (x : Bool) : Nat → Bool := fun j => if j = k then x else st j
theorem nar_b (x : Bool) : vp_nar .boolean (bI x) = bI x := by cases x <;> decide
-- placements struck out
def msk (l : List PE) (k : Nat) : Nat := (gp l k).2.2.2
def covk (l : List PE) (st : Nat → Bool) (m : Nat) : Nat → Nat
  | 0 => m
  | k + 1 => covk l st m k ||| (if !st k && decide (msk l k &&& m = 0) then msk l k else 0)
def usl (l : List PE) (st : Nat → Bool) (op k : Nat) : Bool := !decide (covk l st (msk l k) l.length = op)
theorem covk_full {l : List PE} {st : Nat → Bool} {m op : Nat} (hsub : ∀ k, k < l.length → op ||| msk l k = op) {j : Nat} (h : covk l st m j = op) : ∀ d, j + d ≤ l.length → covk l st m (j + d) = op
  | 0, _ => h
  | d + 1, hd => by
    rw [show j + (d + 1) = j + d + 1 from rfl, covk, covk_full hsub h d (by omega)]
    split
    · exact hsub (j + d) (by omega)
    · exact Nat.or_zero _
theorem covk_lt {l : List PE} {st : Nat → Bool} {m : Nat} (hE : EVs l) (hm : m < 2 ^ 36) : ∀ k, k ≤ l.length → covk l st m k < 2 ^ 36
  | 0, _ => hm
  | k + 1, h => by
    rw [covk]
    refine Nat.or_lt_two_pow (covk_lt hE hm k (by omega)) ?_
    split
    · exact (hE k (by omega)).2.2.2.2
    · exact Nat.two_pow_pos _
abbrev SVE : Ent := .inr (6, [.ref 71])
theorem ct_limitOf (g : GG) (f : Mm) {l : List PE} {op : Nat} {st : Nat → Bool} (hO : f 70 = some SVE) (hZ : AZ f 71 1280 st) (hL : PLc f l op) (hl : l.length ≤ 1280) : Ct g MX7_limitOf [.ref 70, .ref 56] f 0 0 (fun r f' => f = f' ∧ r = some (.int (nI l.length))) := by
  refine Ct.of ok_MX7_limitOf (Nat.le_of_ble_eq_true rfl) ?_
  change Wp g MX7_limitOf 0 [some (.ref 70), some (.ref 56)] [] f 0 0 _
  obtain ⟨b, hb, hbe⟩ := id hZ
  refine rn_aload_n dX7_limitOf_0 rfl ?_
  refine rn_get dX7_limitOf_1 lfX7_27 hL.1 rfl ?_
  refine rn_aload_n dX7_limitOf_4 rfl ?_
  refine rn_get dX7_limitOf_5 lfX7_9 hO rfl ?_
  refine rn_alen dX7_limitOf_8 hb (by decide) ?_
  refine rn_min dX7_limitOf_9 lmX7_33 ⟨Nat.le_of_ble_eq_true rfl, Nat.le_of_ble_eq_true rfl⟩ (Nat.le_of_ble_eq_true rfl) ?_
  refine rn_iret dX7_limitOf_12 rfl ?_
  exact ⟨rfl, by rw [if_neg (show ¬ nI 1280 < nI l.length from nI_nlt hl (by decide))]⟩
theorem ct_leavesAll (g : GG) (f : Mm) {l : List PE} {op k : Nat} {st : Nat → Bool} (hO : f 70 = some SVE) (hZ : AZ f 71 1280 st) (hL : PLc f l op) (hE : EVs l) (hl : l.length ≤ 1280) (hop : op < 2 ^ 36) (hsub : ∀ k, k < l.length → op ||| msk l k = op) (hk : k < l.length) : Ct g MX7_leavesAllCoverable [.ref 70, .ref 56, .int (nI k)] f 0 0 (fun r f' => f = f' ∧ r = some (.int (bI (!usl l st op k)))) := by
  refine Ct.of ok_MX7_leavesAllCoverable (Nat.le_of_ble_eq_true rfl) ?_
  change Wp g MX7_leavesAllCoverable 0 [some (.ref 70), some (.ref 56), some (.int (nI k)), none, none, none, none, none, none, none, none] [] f 0 0 _
  obtain ⟨b, hb, hbe⟩ := id hZ
  have hmk := (hE k hk).2.2.2.2
  have fin : ∀ (c : Nat) (w7 w8 w9 : Option Value), c < 2 ^ 36 → (c = op ↔ covk l st (msk l k) l.length = op) → Wp g MX7_leavesAllCoverable 76 [some (.ref 70), some (.ref 56), some (.int (nI k)), some (.long (lN (msk l k))), none, some (.long (lN c)), none, w7, w8, w9, none] [] f 0 0 (fun r f' => f = f' ∧ r = some (.int (bI (!usl l st op k)))) := by
    intro c w7 w8 w9 hc hiff
    refine rn_lload dX7_leavesAllCoverable_76 rfl ?_
    refine rn_aload_n dX7_leavesAllCoverable_78 rfl ?_
    refine rn_get dX7_leavesAllCoverable_79 lfX7_43 hL.1 rfl ?_
    refine rn_lcmp dX7_leavesAllCoverable_82 ?_
    refine rn_if_ne (tgt := 90) dX7_leavesAllCoverable_83 (by decide) (fun c83 => ?_) (fun c83 => ?_)
    · refine rn_iconst (v := nI 0) dX7_leavesAllCoverable_90 (by decide) ?_
      refine rn_zret dX7_leavesAllCoverable_91 rfl rfl ?_
      have hne : ¬ c = op := fun q => c83 ((lg_cmp_eq _ _).mpr (by rw [q]))
      exact ⟨rfl, by rw [usl, decide_eq_false (fun q => hne (hiff.mpr q))]; rfl⟩
    · refine rn_iconst (v := nI 1) dX7_leavesAllCoverable_86 (by decide) ?_
      refine rn_goto (tgt := 91) dX7_leavesAllCoverable_87 (by decide) ?_
      refine rn_zret dX7_leavesAllCoverable_91 rfl rfl ?_
      have he : c = op := (lb_eq (by omega) (by omega)).mp ((lg_cmp_eq _ _).mp c83)
      exact ⟨rfl, by rw [usl, decide_eq_true (hiff.mp he)]; rfl⟩
  have loop : ∀ (d j : Nat) (w9 : Option Value), l.length - j = d → j ≤ l.length → Wp g MX7_leavesAllCoverable 19 [some (.ref 70), some (.ref 56), some (.int (nI k)), some (.long (lN (msk l k))), none, some (.long (lN (covk l st (msk l k) j))), none, some (.int (nI l.length)), some (.int (nI j)), w9, none] [] f 0 0 (fun r f' => f = f' ∧ r = some (.int (bI (!usl l st op k)))) := by
    intro d
    induction d using Nat.strongRecOn with
    | ind d ih =>
      intro j w9 hd hj
      have hcl := covk_lt (st := st) (m := msk l k) hE hmk j hj
      refine rn_iload dX7_leavesAllCoverable_19 rfl ?_
      refine rn_iload dX7_leavesAllCoverable_21 rfl ?_
      refine rn_icmp_ge (tgt := 76) dX7_leavesAllCoverable_23 (by decide) (fun c23 => ?_) (fun c23 => ?_)
      · have hj2 := ge_ex c23 (by omega) (by omega)
        exact fin _ _ _ _ hcl (by rw [show j = l.length by omega])
      · have hj2 := ge_in c23 (by omega)
        have hjk := (hE j hj2).2.2.2.2
        refine rn_lload dX7_leavesAllCoverable_26 rfl ?_
        refine rn_aload_n dX7_leavesAllCoverable_28 rfl ?_
        refine rn_get dX7_leavesAllCoverable_29 lfX7_43 hL.1 rfl ?_
        refine rn_lcmp dX7_leavesAllCoverable_32 ?_
        refine rn_if_eq (tgt := 76) dX7_leavesAllCoverable_33 (by decide) (fun c33 => ?_) (fun c33 => ?_)
        · have he : covk l st (msk l k) j = op := (lb_eq (by omega) (by omega)).mp ((lg_cmp_eq _ _).mp c33)
          have hfu := covk_full hsub he (l.length - j) (by omega)
          rw [show j + (l.length - j) = l.length by omega] at hfu
          exact fin _ _ _ _ hcl ⟨fun _ => hfu, fun _ => he⟩
        · refine rn_aload_n dX7_leavesAllCoverable_36 rfl ?_
          refine rn_iload dX7_leavesAllCoverable_37 rfl ?_
          refine rn_callV dX7_leavesAllCoverable_39 lmX7_39 ⟨Nat.le_of_ble_eq_true rfl, Nat.le_of_ble_eq_true rfl⟩ (ct_maskOf g f hL hj2 hl) hL.1 rfl rfl (Nat.le_of_ble_eq_true rfl) ?_
          rintro _ _ ⟨rfl, rfl⟩
          rw [show (gp l j).2.2.2 = msk l j from rfl]
          refine rn_lstore dX7_leavesAllCoverable_42 (Nat.le_of_ble_eq_true rfl) rfl ?_
          refine rn_aload_n dX7_leavesAllCoverable_44 rfl ?_
          refine rn_get dX7_leavesAllCoverable_45 lfX7_9 hO rfl ?_
          refine rn_iload dX7_leavesAllCoverable_48 rfl ?_
          refine rn_zald dX7_leavesAllCoverable_50 hb (vp_in_nI (show j < 1280 by omega) (by decide)) ?_
          rw [nI_clamp (by omega), hbe j (by omega)]
          refine rn_if_ne (tgt := 70) dX7_leavesAllCoverable_51 (by decide) (fun c51 => ?_) (fun c51 => ?_)
          · refine rn_iinc (v := nI (j + 1)) dX7_leavesAllCoverable_70 rfl (nI_1 j) (Nat.le_of_ble_eq_true rfl) rfl ?_
            refine rn_goto (tgt := 19) dX7_leavesAllCoverable_73 (by decide) ?_
            have e := ih _ (by omega) (j + 1) (some (.long (lN (msk l j)))) rfl (by omega)
            rw [show covk l st (msk l k) (j + 1) = covk l st (msk l k) j by rw [covk, bI_n0.mp c51]; simp] at e
            exact e
          · refine rn_lload dX7_leavesAllCoverable_54 rfl ?_
            refine rn_lload_n dX7_leavesAllCoverable_56 rfl ?_
            refine rn_land dX7_leavesAllCoverable_57 ?_
            rw [wb_and (show msk l j < 2 ^ 64 by unfold msk; omega) (show msk l k < 2 ^ 64 by unfold msk; omega)]
            refine rn_lconst (v := 0) dX7_leavesAllCoverable_58 (by decide) ?_
            refine rn_lcmp dX7_leavesAllCoverable_59 ?_
            refine rn_if_ne (tgt := 70) dX7_leavesAllCoverable_60 (by decide) (fun c60 => ?_) (fun c60 => ?_)
            · refine rn_iinc (v := nI (j + 1)) dX7_leavesAllCoverable_70 rfl (nI_1 j) (Nat.le_of_ble_eq_true rfl) rfl ?_
              refine rn_goto (tgt := 19) dX7_leavesAllCoverable_73 (by decide) ?_
              have hand : msk l j &&& msk l k ≤ msk l j := Nat.and_le_left
              have hne : ¬ msk l j &&& msk l k = 0 := fun q => c60 ((lg_cmp_eq _ _).mpr (by rw [q]; rfl))
              have e := ih _ (by omega) (j + 1) (some (.long (lN (msk l j)))) rfl (by omega)
              rw [show covk l st (msk l k) (j + 1) = covk l st (msk l k) j by rw [covk, decide_eq_false hne]; simp] at e
              exact e
            · refine rn_lload dX7_leavesAllCoverable_63 rfl ?_
              refine rn_lload dX7_leavesAllCoverable_65 rfl ?_
              refine rn_lor dX7_leavesAllCoverable_67 ?_
              rw [wb_or (by omega) (show msk l j < 2 ^ 64 by unfold msk; omega)]
              refine rn_lstore dX7_leavesAllCoverable_68 (Nat.le_of_ble_eq_true rfl) rfl ?_
              refine rn_iinc (v := nI (j + 1)) dX7_leavesAllCoverable_70 rfl (nI_1 j) (Nat.le_of_ble_eq_true rfl) rfl ?_
              refine rn_goto (tgt := 19) dX7_leavesAllCoverable_73 (by decide) ?_
              have hand : msk l j &&& msk l k ≤ msk l j := Nat.and_le_left
              have he : msk l j &&& msk l k = 0 := (lb_eq (b := 0) (show msk l j &&& msk l k < 2 ^ 64 by have : msk l j < 2 ^ 36 := hjk; omega) (by decide)).mp ((lg_cmp_eq _ _).mp c60)
              have e := ih _ (by omega) (j + 1) (some (.long (lN (msk l j)))) rfl (by omega)
              rw [show covk l st (msk l k) (j + 1) = covk l st (msk l k) j ||| msk l j by rw [covk, decide_eq_true he, bI_0.mp c51]; rfl] at e
              exact e
  refine rn_aload_n dX7_leavesAllCoverable_0 rfl ?_
  refine rn_iload_n dX7_leavesAllCoverable_1 rfl ?_
  refine rn_callV dX7_leavesAllCoverable_2 lmX7_39 ⟨Nat.le_of_ble_eq_true rfl, Nat.le_of_ble_eq_true rfl⟩ (ct_maskOf g f hL hk hl) hL.1 rfl rfl (Nat.le_of_ble_eq_true rfl) ?_
  rintro _ _ ⟨rfl, rfl⟩
  rw [show (gp l k).2.2.2 = msk l k from rfl]
  refine rn_lstore_n dX7_leavesAllCoverable_5 (Nat.le_of_ble_eq_true rfl) rfl ?_
  refine rn_lload_n dX7_leavesAllCoverable_6 rfl ?_
  refine rn_lstore dX7_leavesAllCoverable_7 (Nat.le_of_ble_eq_true rfl) rfl ?_
  refine rn_aload_n dX7_leavesAllCoverable_9 rfl ?_
  refine rn_aload_n dX7_leavesAllCoverable_10 rfl ?_
  refine rn_callV dX7_leavesAllCoverable_11 lmX7_19 ⟨Nat.le_of_ble_eq_true rfl, Nat.le_of_ble_eq_true rfl⟩ (ct_limitOf g f hO hZ hL hl) hO rfl rfl (Nat.le_of_ble_eq_true rfl) ?_
  rintro _ _ ⟨rfl, rfl⟩
  refine rn_istore dX7_leavesAllCoverable_14 (Nat.le_of_ble_eq_true rfl) rfl ?_
  refine rn_iconst (v := nI 0) dX7_leavesAllCoverable_16 (by decide) ?_
  refine rn_istore dX7_leavesAllCoverable_17 (Nat.le_of_ble_eq_true rfl) rfl ?_
  exact loop _ 0 none rfl (by omega)
