/-- one pass over the first k placements -/
def spk (l : List PE) (op : Nat) (st : Nat → Bool) : Nat → (Nat → Bool)
  | 0 => st
  | k + 1 => if !spk l op st k k && usl l (spk l op st k) op k then updB (spk l op st k) k true else spk l op st k
def ank (l : List PE) (op : Nat) (st : Nat → Bool) : Nat → Bool
  | 0 => false
  | k + 1 => ank l op st k || (!spk l op st k k && usl l (spk l op st k) op k)
def cntB (st : Nat → Bool) : Nat → Nat
  | 0 => 0
  | k + 1 => cntB st k + (if st k then 1 else 0)
theorem cntB_le (st : Nat → Bool) : ∀ n, cntB st n ≤ n
  | 0 => Nat.le_refl _
  | n + 1 => by
    have := cntB_le st n
    rw [cntB]; split <;> omega
theorem cntB_upd {st : Nat → Bool} {k : Nat} (h : st k = false) : ∀ n, cntB (updB st k true) n = cntB st n + (if k < n then 1 else 0)
  | 0 => by simp [cntB]
  | n + 1 => by
    have ih := cntB_upd h n
    rw [cntB, cntB, ih]
    by_cases e : n = k
    · subst e
      simp [updB, h]
    · have e2 : updB st k true n = st n := by simp [updB, e]
      rw [e2]
      by_cases q : k < n
      · rw [show (if k < n then 1 else 0) = 1 from if_pos q, show (if k < n + 1 then 1 else 0) = 1 from if_pos (by omega)]; omega
      · rw [show (if k < n then 1 else 0) = 0 from if_neg q, show (if k < n + 1 then 1 else 0) = 0 from if_neg (by omega)]; omega
theorem cnt_spk (l : List PE) (op N : Nat) (st : Nat → Bool) : ∀ k, k ≤ N → cntB st N + (if ank l op st k then 1 else 0) ≤ cntB (spk l op st k) N
  | 0, _ => by simp [ank, spk]
  | k + 1, hk => by
    have ih := cnt_spk l op N st k (by omega)
    rw [ank, spk]
    cases hb : (!spk l op st k k && usl l (spk l op st k) op k) with
    | false => simpa using ih
    | true =>
      rw [Bool.and_eq_true] at hb
      have hf : spk l op st k k = false := by simpa using hb.1
      rw [if_pos rfl, cntB_upd hf N, if_pos (show k < N by omega), Bool.or_true, if_pos rfl]
      split at ih <;> omega
theorem spk_same {l : List PE} {op : Nat} {st : Nat → Bool} : ∀ k, ank l op st k = false → spk l op st k = st
  | 0, _ => rfl
  | k + 1, h => by
    rw [ank, Bool.or_eq_false_iff] at h
    rw [spk, h.2]
    exact spk_same k h.1
/-- passes -/
def psI (l : List PE) (op : Nat) (st : Nat → Bool) : Nat → (Nat → Bool)
  | 0 => st
  | t + 1 => spk l op (psI l op st t) l.length
theorem AZ.put {f : Mm} {q N k : Nat} {st : Nat → Bool} {b : Nat → Int32} {x : Bool} (hb : f q = some (.inl (3, N, .inl b))) (hbe : ∀ i, i < N → b i = bI (st i)) (hk : k < N) (hN : N < 2 ^ 31) : AZ (va_up f q (some (.inl (3, N, .inl (upd b (nI k).toNatClampNeg (vp_nar .boolean (bI x))))))) q N (updB st k x) := by
  refine ⟨_, up_same _ _ _, fun j hj => ?_⟩
  rw [nI_clamp (by omega), nar_b]
  by_cases e : j = k
  · subst e; simp [upd, updB]
  · simp [upd, updB, e, hbe j hj]
theorem ct_strikeSome (g : GG) (f : Mm) {l : List PE} {op : Nat} {st : Nat → Bool} (hO : f 70 = some SVE) (hZ : AZ f 71 1280 st) (hL : PLc f l op) (hE : EVs l) (hl : l.length ≤ 1280) (hop : op < 2 ^ 36) (hsub : ∀ k, k < l.length → op ||| msk l k = op) : Ct g MX7_strikeSome [.ref 70, .ref 56] f 0 0 (fun r f' => r = some (.int (bI (ank l op st l.length))) ∧ (∀ k, k ≠ 71 → f' k = f k) ∧ AZ f' 71 1280 (spk l op st l.length)) := by
  refine Ct.of ok_MX7_strikeSome (Nat.le_of_ble_eq_true rfl) ?_
  change Wp g MX7_strikeSome 0 [some (.ref 70), some (.ref 56), none, none] [] f 0 0 _
  have loop : ∀ (d k : Nat) (f1 : Mm), l.length - k = d → k ≤ l.length → (∀ q, q ≠ 71 → f1 q = f q) → AZ f1 71 1280 (spk l op st k) → Wp g MX7_strikeSome 4 [some (.ref 70), some (.ref 56), some (.int (bI (ank l op st k))), some (.int (nI k))] [] f1 0 0 (fun r f' => r = some (.int (bI (ank l op st l.length))) ∧ (∀ k, k ≠ 71 → f' k = f k) ∧ AZ f' 71 1280 (spk l op st l.length)) := by
    intro d
    induction d using Nat.strongRecOn with
    | ind d ih =>
      intro k f1 hd hk hfr hZ1
      have o1 := (hfr 70 (by decide)).trans hO
      have hL1 := hL.keep (hfr 56 (by decide)) (hfr 57 (by decide)) (hfr 58 (by decide))
      obtain ⟨b, hb, hbe⟩ := id hZ1
      have same : (!spk l op st k k && usl l (spk l op st k) op k) = false → k < l.length → Wp g MX7_strikeSome 4 [some (.ref 70), some (.ref 56), some (.int (bI (ank l op st k))), some (.int (nI (k + 1)))] [] f1 0 0 (fun r f' => r = some (.int (bI (ank l op st l.length))) ∧ (∀ k, k ≠ 71 → f' k = f k) ∧ AZ f' 71 1280 (spk l op st l.length)) := fun hf hk2 => by
        have e := ih (l.length - (k + 1)) (by omega) (k + 1) f1 rfl (by omega) hfr (by rw [spk, hf]; exact hZ1)
        rw [ank, hf, Bool.or_false] at e
        exact e
      refine rn_iload_n dX7_strikeSome_4 rfl ?_
      refine rn_aload_n dX7_strikeSome_5 rfl ?_
      refine rn_aload_n dX7_strikeSome_6 rfl ?_
      refine rn_callV dX7_strikeSome_7 lmX7_19 ⟨Nat.le_of_ble_eq_true rfl, Nat.le_of_ble_eq_true rfl⟩ (ct_limitOf g f1 o1 hZ1 hL1 hl) o1 rfl rfl (Nat.le_of_ble_eq_true rfl) ?_
      rintro _ _ ⟨rfl, rfl⟩
      refine rn_icmp_ge (tgt := 46) dX7_strikeSome_10 (by decide) (fun c10 => ?_) (fun c10 => ?_)
      · refine rn_iload_n dX7_strikeSome_46 rfl ?_
        refine rn_zret dX7_strikeSome_47 rfl (by cases ank l op st k <;> rfl) ?_
        have hk2 := ge_ex c10 (by omega) (by omega)
        have hke : k = l.length := by omega
        subst hke
        exact ⟨rfl, hfr, hZ1⟩
      · have hk2 := ge_in c10 (by omega)
        refine rn_aload_n dX7_strikeSome_13 rfl ?_
        refine rn_get dX7_strikeSome_14 lfX7_9 o1 rfl ?_
        refine rn_iload_n dX7_strikeSome_17 rfl ?_
        refine rn_zald dX7_strikeSome_18 hb (vp_in_nI (show k < 1280 by omega) (by decide)) ?_
        rw [nI_clamp (by omega), hbe k (by omega)]
        refine rn_if_ne (tgt := 40) dX7_strikeSome_19 (by decide) (fun c19 => ?_) (fun c19 => ?_)
        · refine rn_iinc (v := nI (k + 1)) dX7_strikeSome_40 rfl (nI_1 k) (Nat.le_of_ble_eq_true rfl) rfl ?_
          refine rn_goto (tgt := 4) dX7_strikeSome_43 (by decide) ?_
          exact same (by rw [bI_n0.mp c19]; rfl) hk2
        · refine rn_aload_n dX7_strikeSome_22 rfl ?_
          refine rn_aload_n dX7_strikeSome_23 rfl ?_
          refine rn_iload_n dX7_strikeSome_24 rfl ?_
          refine rn_callV dX7_strikeSome_25 lmX7_23 ⟨Nat.le_of_ble_eq_true rfl, Nat.le_of_ble_eq_true rfl⟩ (ct_leavesAll g f1 o1 hZ1 hL1 hE hl hop hsub hk2) o1 rfl rfl (Nat.le_of_ble_eq_true rfl) ?_
          rintro _ _ ⟨rfl, rfl⟩
          refine rn_if_ne (tgt := 40) dX7_strikeSome_28 (by decide) (fun c28 => ?_) (fun c28 => ?_)
          · refine rn_iinc (v := nI (k + 1)) dX7_strikeSome_40 rfl (nI_1 k) (Nat.le_of_ble_eq_true rfl) rfl ?_
            refine rn_goto (tgt := 4) dX7_strikeSome_43 (by decide) ?_
            have hu : usl l (spk l op st k) op k = false := by simpa using bI_n0.mp c28
            exact same (by rw [hu, Bool.and_false]) hk2
          · refine rn_aload_n dX7_strikeSome_31 rfl ?_
            refine rn_get dX7_strikeSome_32 lfX7_9 o1 rfl ?_
            refine rn_iload_n dX7_strikeSome_35 rfl ?_
            refine rn_iconst (v := nI 1) dX7_strikeSome_36 (by decide) ?_
            refine rn_zast dX7_strikeSome_37 hb (vp_in_nI (show k < 1280 by omega) (by decide)) ?_
            refine rn_iconst (v := nI 1) dX7_strikeSome_38 (by decide) ?_
            refine rn_istore_n dX7_strikeSome_39 (Nat.le_of_ble_eq_true rfl) rfl ?_
            refine rn_iinc (v := nI (k + 1)) dX7_strikeSome_40 rfl (nI_1 k) (Nat.le_of_ble_eq_true rfl) rfl ?_
            refine rn_goto (tgt := 4) dX7_strikeSome_43 (by decide) ?_
            have hu : usl l (spk l op st k) op k = true := by simpa using bI_0.mp c28
            have ht : (!spk l op st k k && usl l (spk l op st k) op k) = true := by rw [bI_0.mp c19, hu]; rfl
            have e := ih (l.length - (k + 1)) (by omega) (k + 1) _ rfl (by omega) (fun q x => (up_ne x).trans (hfr q x)) (by rw [spk, if_pos ht]; exact AZ.put (x := true) hb hbe (by omega) (by decide))
            rw [ank, ht, Bool.or_true] at e
            exact e
  refine rn_iconst (v := nI 0) dX7_strikeSome_0 (by decide) ?_
  refine rn_istore_n dX7_strikeSome_1 (Nat.le_of_ble_eq_true rfl) rfl ?_
  refine rn_iconst (v := nI 0) dX7_strikeSome_2 (by decide) ?_
  refine rn_istore_n dX7_strikeSome_3 (Nat.le_of_ble_eq_true rfl) rfl ?_
  exact loop _ 0 f rfl (by omega) (fun _ _ => rfl) hZ
theorem ct_sift (g : GG) (f : Mm) {l : List PE} {op : Nat} {st0 : Nat → Bool} (hO : f 70 = some SVE) (hZ : AZ f 71 1280 st0) (hL : PLc f l op) (hE : EVs l) (hl : l.length ≤ 1280) (hop : op < 2 ^ 36) (hsub : ∀ k, k < l.length → op ||| msk l k = op) : Ct g MX7_sift [.ref 70, .ref 56] f 0 0 (fun r f' => r = none ∧ (∀ k, k ≠ 71 → f' k = f k) ∧ ∃ t, AZ f' 71 1280 (psI l op (fun _ => false) t) ∧ ank l op (psI l op (fun _ => false) t) l.length = false) := by
  refine Ct.of ok_MX7_sift (Nat.le_of_ble_eq_true rfl) ?_
  change Wp g MX7_sift 0 [some (.ref 70), some (.ref 56), none, none] [] f 0 0 _
  have loop2 : ∀ (d t : Nat) (b : Bool) (f1 : Mm), 1281 - t = d → t ≤ 1281 → (∀ q, q ≠ 71 → f1 q = f q) → AZ f1 71 1280 (psI l op (fun _ => false) t) → t ≤ cntB (psI l op (fun _ => false) t) l.length + (if b then 0 else 1) → (b = false → ank l op (psI l op (fun _ => false) t) l.length = false) → Wp g MX7_sift 26 [some (.ref 70), some (.ref 56), some (.int (bI b)), some (.int (nI t))] [] f1 0 0 (fun r f' => r = none ∧ (∀ k, k ≠ 71 → f' k = f k) ∧ ∃ t, AZ f' 71 1280 (psI l op (fun _ => false) t) ∧ ank l op (psI l op (fun _ => false) t) l.length = false) := by
    intro d
    induction d using Nat.strongRecOn with
    | ind d ih =>
      intro t b f1 hd ht hfr hZ1 hcnt hbf
      have o1 := (hfr 70 (by decide)).trans hO
      have hL1 := hL.keep (hfr 56 (by decide)) (hfr 57 (by decide)) (hfr 58 (by decide))
      have hcl := cntB_le (psI l op (fun _ => false) t) l.length
      refine rn_iload_n dX7_sift_26 rfl ?_
      refine rn_sipush (v := nI 1280) dX7_sift_27 (by decide) ?_
      refine rn_icmp_gt (tgt := 49) dX7_sift_30 (by decide) (fun c30 => ?_) (fun c30 => ?_)
      · refine rn_vret dX7_sift_49 rfl ?_
        have ht2 : 1280 < t := Nat.lt_of_not_le fun q => absurd c30 (nI_nlt q (by decide))
        cases hb : b with
        | false => exact ⟨rfl, hfr, t, hZ1, hbf hb⟩
        | true =>
          rw [hb] at hcnt
          simp at hcnt
          omega
      · have ht2 : t ≤ 1280 := Nat.le_of_not_lt fun q => c30 (nI_lt q (by omega))
        refine rn_iload_n dX7_sift_33 rfl ?_
        refine rn_if_eq (tgt := 49) dX7_sift_34 (by decide) (fun c34 => ?_) (fun c34 => ?_)
        · refine rn_vret dX7_sift_49 rfl ?_
          exact ⟨rfl, hfr, t, hZ1, hbf (bI_0.mp c34)⟩
        · refine rn_aload_n dX7_sift_37 rfl ?_
          refine rn_aload_n dX7_sift_38 rfl ?_
          refine rn_callV dX7_sift_39 lmX7_15 ⟨Nat.le_of_ble_eq_true rfl, Nat.le_of_ble_eq_true rfl⟩ (ct_strikeSome g f1 o1 hZ1 hL1 hE hl hop hsub) o1 rfl rfl (Nat.le_of_ble_eq_true rfl) ?_
          rintro _ f2 ⟨rfl, k2, hZ2⟩
          refine rn_istore_n dX7_sift_42 (Nat.le_of_ble_eq_true rfl) rfl ?_
          refine rn_iinc (v := nI (t + 1)) dX7_sift_43 rfl (nI_1 t) (Nat.le_of_ble_eq_true rfl) rfl ?_
          refine rn_goto (tgt := 26) dX7_sift_46 (by decide) ?_
          have hcs := cnt_spk l op l.length (psI l op (fun _ => false) t) l.length (Nat.le_refl _)
          have hbt := bI_n0.mp c34
          rw [hbt] at hcnt
          refine ih _ (by omega) (t + 1) _ f2 rfl (by omega) (fun q x => (k2 q x).trans (hfr q x)) hZ2 ?_ (fun hf => ?_)
          · rw [psI]
            cases hh : ank l op (psI l op (fun _ => false) t) l.length with
            | false => rw [hh] at hcs; simp at hcs hcnt ⊢; omega
            | true => rw [hh] at hcs; simp at hcs hcnt ⊢; omega
          · rw [psI, spk_same _ hf]; exact hf
  have loop1 : ∀ (d k : Nat) (f1 : Mm) (s1 : Nat → Bool), 1280 - k = d → k ≤ 1280 → (∀ q, q ≠ 71 → f1 q = f q) → AZ f1 71 1280 s1 → (∀ j, j < k → s1 j = false) → Wp g MX7_sift 2 [some (.ref 70), some (.ref 56), some (.int (nI k)), none] [] f1 0 0 (fun r f' => r = none ∧ (∀ k, k ≠ 71 → f' k = f k) ∧ ∃ t, AZ f' 71 1280 (psI l op (fun _ => false) t) ∧ ank l op (psI l op (fun _ => false) t) l.length = false) := by
    intro d
    induction d using Nat.strongRecOn with
    | ind d ih =>
      intro k f1 s1 hd hk hfr hZ1 h1
      have o1 := (hfr 70 (by decide)).trans hO
      obtain ⟨b, hb, hbe⟩ := id hZ1
      refine rn_iload_n dX7_sift_2 rfl ?_
      refine rn_sipush (v := nI 1280) dX7_sift_3 (by decide) ?_
      refine rn_icmp_ge (tgt := 22) dX7_sift_6 (by decide) (fun c6 => ?_) (fun c6 => ?_)
      · refine rn_iconst (v := nI 1) dX7_sift_22 (by decide) ?_
        refine rn_istore_n dX7_sift_23 (Nat.le_of_ble_eq_true rfl) rfl ?_
        refine rn_iconst (v := nI 0) dX7_sift_24 (by decide) ?_
        refine rn_istore_n dX7_sift_25 (Nat.le_of_ble_eq_true rfl) rfl ?_
        have hk2 := ge_ex c6 (by omega) (by decide)
        exact loop2 _ 0 true f1 rfl (by omega) hfr ⟨b, hb, fun i hi => by rw [hbe i hi, h1 i (by omega)]; rfl⟩ (by omega) (fun z => by cases z)
      · have hk2 := ge_in c6 (by omega)
        refine rn_aload_n dX7_sift_9 rfl ?_
        refine rn_get dX7_sift_10 lfX7_9 o1 rfl ?_
        refine rn_iload_n dX7_sift_13 rfl ?_
        refine rn_iconst (v := nI 0) dX7_sift_14 (by decide) ?_
        refine rn_zast dX7_sift_15 hb (vp_in_nI (show k < 1280 by omega) (by decide)) ?_
        refine rn_iinc (v := nI (k + 1)) dX7_sift_16 rfl (nI_1 k) (Nat.le_of_ble_eq_true rfl) rfl ?_
        refine rn_goto (tgt := 2) dX7_sift_19 (by decide) ?_
        refine ih _ (by omega) (k + 1) _ (updB s1 k false) rfl (by omega) (fun q x => (up_ne x).trans (hfr q x)) (AZ.put (x := false) hb hbe (by omega) (by decide)) (fun j hj => ?_)
        by_cases e : j = k
        · simp [updB, e]
        · simp [updB, e]; exact h1 j (by omega)
  refine rn_iconst (v := nI 0) dX7_sift_0 (by decide) ?_
  refine rn_istore_n dX7_sift_1 (Nat.le_of_ble_eq_true rfl) rfl ?_
  exact loop1 _ 0 f st0 rfl (by omega) (fun _ _ => rfl) hZ (fun j hj => absurd hj (by omega))
