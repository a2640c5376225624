-- what is sound of the placements
abbrev opP (P : PS) : Nat := opk (pC P) (pW P * pH P)
theorem layk_open {P : PS} {t co x0 y0 : Nat} (hco : co < 4) : ∀ {i m}, layk P t co x0 y0 i = some m → ∀ c, m.testBit c = true → c < pW P * pH P ∧ ¬ pC P c = -1
  | 0, m, h, c, hb => by
    cases h
    simp at hb
  | i + 1, m, h, c, hb => by
    cases hp : layk P t co x0 y0 i with
    | none => simp only [layk, hp] at h; cases h
    | some m0 =>
      have ih := layk_open hco hp
      cases ht : t.testBit i with
      | false => rw [layk_skip hp ht] at h; cases h; exact ih c hb
      | true =>
        cases ho : lyOk P co (x0 + i % 4) (y0 + i / 4) with
        | false => rw [layk_off hp ht ho] at h; cases h
        | true =>
          rw [layk_on hp ht ho] at h
          cases h
          rw [Nat.testBit_or, Bool.or_eq_true] at hb
          rcases hb with hb | hb
          · exact ih c hb
          · rw [Nat.testBit_two_pow, decide_eq_true_eq] at hb
            simp only [lyOk, Bool.and_eq_true, Bool.or_eq_true, decide_eq_true_eq] at ho
            rw [← hb]
            refine ⟨cell_lt ho.1 ho.2.1, fun q => ?_⟩
            rw [q] at ho
            rcases ho.2.2 with z | z
            · exact absurd z (by decide)
            · match co, hco with
              | 0, _ => exact absurd z (by decide)
              | 1, _ => exact absurd z (by decide)
              | 2, _ => exact absurd z (by decide)
              | 3, _ => exact absurd z (by decide)
def LSd (P : PS) (l : List PE) : Prop := EVs l ∧ l.length ≤ 1280 ∧ (∀ k, k < l.length → (gp l k).1 < pN P) ∧ ∀ k, k < l.length → opP P ||| msk l k = opP P
theorem pl1_LSd {P : PS} {sh fr co cp : Nat → Nat} (hV : VD P) (hN : VN P sh fr co cp) : LSd P (pl1 P sh fr co (pN P)) := by
  have v8 := hV.2.2.2.2
  refine ⟨pl1_ev hV hN, by have := pl1_le hV hN (pN P) (Nat.le_refl _); omega, fun k hk => pl1_all hV hN (fun e => e.1 < pN P) (fun p i c h _ _ _ => h) _ (List.mem_of_getElem? (gp_some hk)), fun k hk => ?_⟩
  refine pl1_all hV hN (fun e => opP P ||| e.2.2.2 = opP P) (fun p i c hp hi hc hne => ?_) _ (List.mem_of_getElem? (gp_some hk))
  obtain ⟨n1, n2, n3, n4, n5, n6, -⟩ := hN p hp
  apply Nat.eq_of_testBit_eq
  intro j
  rw [Nat.testBit_or]
  cases hb : (ly P (fmA (sh p) (fr p) i) (co p) c).testBit j with
  | false => rw [Bool.or_false]
  | true =>
    cases hk : layk P (fmA (sh p) (fr p) i) (co p) (c % pW P) (c / pW P) 16 with
    | none => rw [ly, hk] at hb; simp at hb
    | some m =>
      rw [ly_some hk] at hb
      have := layk_open n6 hk j hb
      rw [opk_bit, decide_eq_true this.1, decide_eq_true this.2]; rfl
theorem opP_lt {P : PS} (hV : VD P) : opP P < 2 ^ 36 := Nat.lt_of_lt_of_le (opk_lt _ _) (pw_36 hV.area)
-- struck out: what stands at the end
theorem covk_congr {l : List PE} {s s' : Nat → Bool} {m : Nat} : ∀ n, (∀ j, j < n → s j = s' j) → covk l s m n = covk l s' m n
  | 0, _ => rfl
  | n + 1, h => by rw [covk, covk, covk_congr n (fun j hj => h j (by omega)), h n (by omega)]
theorem usl_congr {l : List PE} {s s' : Nat → Bool} {op k : Nat} (h : ∀ j, j < l.length → s j = s' j) : usl l s op k = usl l s' op k := by rw [usl, usl, covk_congr _ h]
def psF (l : List PE) (op t : Nat) : Nat → Bool := psI l op (fun _ => false) t
def STK (l : List PE) (op : Nat) (s : Nat → Bool) : Prop := ∃ t, (∀ j, j < l.length → s j = psF l op t j) ∧ ank l op (psF l op t) l.length = false
theorem psF_stop {l : List PE} {op t : Nat} (h : ank l op (psF l op t) l.length = false) : ∀ d, psF l op (t + d) = psF l op t
  | 0 => rfl
  | d + 1 => by
    have ih := psF_stop h d
    show spk l op (psF l op (t + d)) l.length = psF l op t
    rw [ih]; exact spk_same _ h
theorem STK.eq {l : List PE} {op : Nat} {s s' : Nat → Bool} (h : STK l op s) (h' : STK l op s') : ∀ j, j < l.length → s j = s' j := by
  obtain ⟨t, h1, h2⟩ := h
  obtain ⟨t', h3, h4⟩ := h'
  have e : psF l op t = psF l op t' := by
    rcases Nat.le_total t t' with q | q
    · have := psF_stop h2 (t' - t)
      rw [show t + (t' - t) = t' by omega] at this
      exact this.symm
    · have := psF_stop h4 (t - t')
      rw [show t' + (t - t') = t by omega] at this
      exact this
  intro j hj
  rw [h1 j hj, h3 j hj, e]
theorem cntB_congr {s s' : Nat → Bool} : ∀ n, (∀ j, j < n → s j = s' j) → cntB s n = cntB s' n
  | 0, _ => rfl
  | n + 1, h => by rw [cntB, cntB, cntB_congr n (fun j hj => h j (by omega)), h n (by omega)]
theorem cm_strikes (g : GG) (f : Mm) {wi s F : Nat → Int32} {cv : Int64} {P : PS} {sh fr co cp : Nat → Nat} {l0 : List PE} {st0 : Nat → Bool} (hM : f 75 = some (MO wi cv)) (hs : AR f 76 73 s) (hF : AR f 79 9 F) (hL : PLm f l0) (hZ : AZ f 92 2304 st0) (hP : SP s P) (hV : VD P) (hN : VN P sh fr co cp) : Ct g MX12_strikes [.ref 75] f 0 0 (fun r f' => r = none ∧ (∀ k, k ≠ 75 → k ≠ 92 → (k < 79 ∨ 84 < k) → f' k = f k) ∧ PLm f' (pl1 P sh fr co (pN P)) ∧ (∃ F', AR f' 79 9 F') ∧ (∃ a, f' 75 = some (MO (mW wi a (nI (pl1 P sh fr co (pN P)).length)) cv)) ∧ ∃ st, AZ f' 92 2304 st ∧ STK (pl1 P sh fr co (pN P)) (opP P) st) := by
  refine Ct.of ok_MX12_strikes (Nat.le_of_ble_eq_true rfl) ?_
  change Wp g MX12_strikes 0 [some (.ref 75), none, none] [] f 0 0 _
  have hLS := pl1_LSd hV hN
  generalize hl : pl1 P sh fr co (pN P) = l at hLS ⊢
  obtain ⟨hE, hlen, hpc, hsub⟩ := id hLS
  refine rn_aload_n dX12_strikes_0 rfl ?_
  refine rn_callV dX12_strikes_1 lmX12_120 ⟨Nat.le_of_ble_eq_true rfl, Nat.le_of_ble_eq_true rfl⟩ (cm_findsPlacements g f hM hs hF hL hP hV hN) hM rfl rfl (Nat.le_of_ble_eq_true rfl) ?_
  rintro _ f0 ⟨rfl, k0, hL0, ⟨F0, hF0⟩, a0, o0⟩
  rw [hl] at hL0 o0
  have hs0 := hs.keep (k0 76 (by decide) (by omega))
  have hZ0 := hZ.keep (k0 92 (by decide) (by omega))
  have loop2 : ∀ (d t : Nat) (b : Bool) (w2 : Option Value) (f1 : Mm) (s1 : Nat → Bool), (if b then l.length + 1 - cntB (psF l (opP P) t) l.length else 0) = d → (∀ q, q ≠ 92 → f1 q = f0 q) → AZ f1 92 2304 s1 → (∀ j, j < l.length → s1 j = psF l (opP P) t j) → (b = false → ank l (opP P) (psF l (opP P) t) l.length = false) → Wp g MX12_strikes 29 [some (.ref 75), some (.int (bI b)), w2] [] f1 0 0 (fun r f' => r = none ∧ (∀ k, k ≠ 75 → k ≠ 92 → (k < 79 ∨ 84 < k) → f' k = f k) ∧ PLm f' l ∧ (∃ F', AR f' 79 9 F') ∧ (∃ a, f' 75 = some (MO (mW wi a (nI l.length)) cv)) ∧ ∃ st, AZ f' 92 2304 st ∧ STK l (opP P) st) := by
    intro d
    induction d using Nat.strongRecOn with
    | ind d ih =>
      intro t b w2 f1 s1 hd hfr hZ1 he hbf
      have inner : ∀ (e k : Nat) (f2 : Mm) (s2 : Nat → Bool), b = true → l.length - k = e → k ≤ l.length → (∀ q, q ≠ 92 → f2 q = f0 q) → AZ f2 92 2304 s2 → (∀ j, j < l.length → s2 j = spk l (opP P) (psF l (opP P) t) k j) → Wp g MX12_strikes 37 [some (.ref 75), some (.int (bI (ank l (opP P) (psF l (opP P) t) k))), some (.int (nI k))] [] f2 0 0 (fun r f' => r = none ∧ (∀ k, k ≠ 75 → k ≠ 92 → (k < 79 ∨ 84 < k) → f' k = f k) ∧ PLm f' l ∧ (∃ F', AR f' 79 9 F') ∧ (∃ a, f' 75 = some (MO (mW wi a (nI l.length)) cv)) ∧ ∃ st, AZ f' 92 2304 st ∧ STK l (opP P) st) := by
        intro e
        induction e using Nat.strongRecOn with
        | ind e ihe =>
          intro k f2 s2 hb hd2 hk hfr2 hZ2 he2
          have o2 := (hfr2 75 (by decide)).trans o0
          have hs2 := hs0.keep (hfr2 76 (by decide))
          have hL2 : PLm f2 l := hL0.keep (fun q x y => hfr2 q (by omega))
          obtain ⟨bz, hbz, hbze⟩ := id hZ2
          have same : (!spk l (opP P) (psF l (opP P) t) k k && usl l (spk l (opP P) (psF l (opP P) t) k) (opP P) k) = false → k < l.length → Wp g MX12_strikes 37 [some (.ref 75), some (.int (bI (ank l (opP P) (psF l (opP P) t) k))), some (.int (nI (k + 1)))] [] f2 0 0 (fun r f' => r = none ∧ (∀ k, k ≠ 75 → k ≠ 92 → (k < 79 ∨ 84 < k) → f' k = f k) ∧ PLm f' l ∧ (∃ F', AR f' 79 9 F') ∧ (∃ a, f' 75 = some (MO (mW wi a (nI l.length)) cv)) ∧ ∃ st, AZ f' 92 2304 st ∧ STK l (opP P) st) := fun hf hk2 => by
            have e := ihe (l.length - (k + 1)) (by omega) (k + 1) f2 s2 hb rfl (by omega) hfr2 hZ2 (by rw [spk, hf]; exact he2)
            rw [ank, hf, Bool.or_false] at e
            exact e
          refine rn_iload_n dX12_strikes_37 rfl ?_
          refine rn_aload_n dX12_strikes_38 rfl ?_
          refine rn_get dX12_strikes_39 lfX12_106 o2 rfl ?_
          rw [mW_12]
          refine rn_icmp_ge (tgt := 77) dX12_strikes_42 (by decide) (fun c42 => ?_) (fun c42 => ?_)
          · refine rn_goto (tgt := 29) dX12_strikes_77 (by decide) ?_
            have hk2 := ge_ex c42 (by omega) (by omega)
            have hke : k = l.length := by omega
            subst hke
            rw [hb] at hd
            simp at hd
            have hcs := cnt_spk l (opP P) l.length (psF l (opP P) t) l.length (Nat.le_refl _)
            have hcl := cntB_le (psF l (opP P) (t + 1)) l.length
            have hcl0 := cntB_le (psF l (opP P) t) l.length
            have hps : psF l (opP P) (t + 1) = spk l (opP P) (psF l (opP P) t) l.length := rfl
            refine ih _ ?_ (t + 1) _ _ f2 s2 rfl hfr2 hZ2 he2 (fun hf => ?_)
            · rw [← hps] at hcs
              cases hh : ank l (opP P) (psF l (opP P) t) l.length with
              | false => simp; omega
              | true => rw [hh] at hcs; simp at hcs ⊢; omega
            · rw [hps, spk_same _ hf]; exact hf
          · have hk2 := ge_in c42 (by omega)
            refine rn_aload_n dX12_strikes_45 rfl ?_
            refine rn_get dX12_strikes_46 lfX12_60 o2 rfl ?_
            refine rn_iload_n dX12_strikes_49 rfl ?_
            refine rn_zald dX12_strikes_50 hbz (vp_in_nI (show k < 2304 by omega) (by decide)) ?_
            rw [nI_clamp (by omega), hbze k (by omega), he2 k hk2]
            refine rn_if_ne (tgt := 71) dX12_strikes_51 (by decide) (fun c51 => ?_) (fun c51 => ?_)
            · refine rn_iinc (v := nI (k + 1)) dX12_strikes_71 rfl (nI_1 k) (Nat.le_of_ble_eq_true rfl) rfl ?_
              refine rn_goto (tgt := 37) dX12_strikes_74 (by decide) ?_
              exact same (by rw [bI_n0.mp c51]; rfl) hk2
            · refine rn_aload_n dX12_strikes_54 rfl ?_
              refine rn_iload_n dX12_strikes_55 rfl ?_
              refine rn_callV dX12_strikes_56 lmX12_283 ⟨Nat.le_of_ble_eq_true rfl, Nat.le_of_ble_eq_true rfl⟩ (cm_isUseless g f2 o2 hs2 hP hV hL2 (mW_12 _ _ _) hlen hE hZ2 hk2) o2 rfl rfl (Nat.le_of_ble_eq_true rfl) ?_
              rintro _ _ ⟨rfl, rfl⟩
              rw [← usl_anU hsub hk2, usl_congr he2]
              refine rn_if_eq (tgt := 71) dX12_strikes_59 (by decide) (fun c59 => ?_) (fun c59 => ?_)
              · refine rn_iinc (v := nI (k + 1)) dX12_strikes_71 rfl (nI_1 k) (Nat.le_of_ble_eq_true rfl) rfl ?_
                refine rn_goto (tgt := 37) dX12_strikes_74 (by decide) ?_
                exact same (by rw [bI_0.mp c59, Bool.and_false]) hk2
              · refine rn_aload_n dX12_strikes_62 rfl ?_
                refine rn_get dX12_strikes_63 lfX12_60 o2 rfl ?_
                refine rn_iload_n dX12_strikes_66 rfl ?_
                refine rn_iconst (v := nI 1) dX12_strikes_67 (by decide) ?_
                refine rn_zast dX12_strikes_68 hbz (vp_in_nI (show k < 2304 by omega) (by decide)) ?_
                refine rn_iconst (v := nI 1) dX12_strikes_69 (by decide) ?_
                refine rn_istore_n dX12_strikes_70 (Nat.le_of_ble_eq_true rfl) rfl ?_
                refine rn_iinc (v := nI (k + 1)) dX12_strikes_71 rfl (nI_1 k) (Nat.le_of_ble_eq_true rfl) rfl ?_
                refine rn_goto (tgt := 37) dX12_strikes_74 (by decide) ?_
                have ht : (!spk l (opP P) (psF l (opP P) t) k k && usl l (spk l (opP P) (psF l (opP P) t) k) (opP P) k) = true := by rw [bI_0.mp c51, bI_n0.mp c59]; rfl
                have e := ihe (l.length - (k + 1)) (by omega) (k + 1) _ (updB s2 k true) hb rfl (by omega) (fun q x => (up_ne x).trans (hfr2 q x)) (AZ.put (x := true) hbz hbze (by omega) (by decide)) (fun j hj => by
                  rw [spk, if_pos ht]
                  simp only [updB]
                  split
                  · rfl
                  · exact he2 j hj)
                rw [ank, ht, Bool.or_true] at e
                exact e
      refine rn_iload_n dX12_strikes_29 rfl ?_
      refine rn_if_eq (tgt := 80) dX12_strikes_30 (by decide) (fun c30 => ?_) (fun c30 => ?_)
      · refine rn_vret dX12_strikes_80 rfl ?_
        exact ⟨rfl, fun k x y z => (hfr k y).trans (k0 k x z), hL0.keep (fun q x y => hfr q (by omega)), ⟨F0, hF0.keep (hfr 79 (by decide))⟩, ⟨a0, (hfr 75 (by decide)).trans o0⟩, s1, hZ1, t, he, hbf (bI_0.mp c30)⟩
      · refine rn_iconst (v := nI 0) dX12_strikes_33 (by decide) ?_
        refine rn_istore_n dX12_strikes_34 (Nat.le_of_ble_eq_true rfl) rfl ?_
        refine rn_iconst (v := nI 0) dX12_strikes_35 (by decide) ?_
        refine rn_istore_n dX12_strikes_36 (Nat.le_of_ble_eq_true rfl) rfl ?_
        exact inner _ 0 f1 s1 (bI_n0.mp c30) rfl (by omega) hfr hZ1 he
  have loop1 : ∀ (d k : Nat) (f1 : Mm) (s1 : Nat → Bool), l.length - k = d → k ≤ l.length → (∀ q, q ≠ 92 → f1 q = f0 q) → AZ f1 92 2304 s1 → (∀ j, j < k → s1 j = false) → Wp g MX12_strikes 6 [some (.ref 75), some (.int (nI k)), none] [] f1 0 0 (fun r f' => r = none ∧ (∀ k, k ≠ 75 → k ≠ 92 → (k < 79 ∨ 84 < k) → f' k = f k) ∧ PLm f' l ∧ (∃ F', AR f' 79 9 F') ∧ (∃ a, f' 75 = some (MO (mW wi a (nI l.length)) cv)) ∧ ∃ st, AZ f' 92 2304 st ∧ STK l (opP P) st) := by
    intro d
    induction d using Nat.strongRecOn with
    | ind d ih =>
      intro k f1 s1 hd hk hfr hZ1 h1
      have o1 := (hfr 75 (by decide)).trans o0
      obtain ⟨b, hb, hbe⟩ := id hZ1
      refine rn_iload_n dX12_strikes_6 rfl ?_
      refine rn_aload_n dX12_strikes_7 rfl ?_
      refine rn_get dX12_strikes_8 lfX12_106 o1 rfl ?_
      rw [mW_12]
      refine rn_icmp_ge (tgt := 27) dX12_strikes_11 (by decide) (fun c11 => ?_) (fun c11 => ?_)
      · refine rn_iconst (v := nI 1) dX12_strikes_27 (by decide) ?_
        refine rn_istore_n dX12_strikes_28 (Nat.le_of_ble_eq_true rfl) rfl ?_
        have hk2 := ge_ex c11 (by omega) (by omega)
        exact loop2 _ 0 true none f1 s1 rfl hfr hZ1 (fun j hj => by rw [h1 j (by omega)]; rfl) (fun z => by cases z)
      · have hk2 := ge_in c11 (by omega)
        refine rn_aload_n dX12_strikes_14 rfl ?_
        refine rn_get dX12_strikes_15 lfX12_60 o1 rfl ?_
        refine rn_iload_n dX12_strikes_18 rfl ?_
        refine rn_iconst (v := nI 0) dX12_strikes_19 (by decide) ?_
        refine rn_zast dX12_strikes_20 hb (vp_in_nI (show k < 2304 by omega) (by decide)) ?_
        refine rn_iinc (v := nI (k + 1)) dX12_strikes_21 rfl (nI_1 k) (Nat.le_of_ble_eq_true rfl) rfl ?_
        refine rn_goto (tgt := 6) dX12_strikes_24 (by decide) ?_
        refine ih _ (by omega) (k + 1) _ (updB s1 k false) rfl (by omega) (fun q x => (up_ne x).trans (hfr q x)) (AZ.put (x := false) hb hbe (by omega) (by decide)) (fun j hj => ?_)
        by_cases e : j = k
        · simp [updB, e]
        · simp [updB, e]; exact h1 j (by omega)
  refine rn_iconst (v := nI 0) dX12_strikes_4 (by decide) ?_
  refine rn_istore_n dX12_strikes_5 (Nat.le_of_ble_eq_true rfl) rfl ?_
  exact loop1 _ 0 f0 st0 rfl (by omega) (fun _ _ => rfl) hZ0 (fun j hj => absurd hj (by omega))
