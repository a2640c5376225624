theorem sq_cv {q : SQ} {n : Nat} (h : (sqS q n).1 = 0) : CVq q (sqS q n).2.1 := ⟨(sqS_end q n).1.2, ((sqS_end q n).2.2.1 h).1⟩
theorem syL_mem (P : PS) : ∀ n s, s < n → isSy P s = true → s ∈ syL P n
  | 0, s, h, _ => by omega
  | n + 1, s, h, hs => by
    rw [syL]
    by_cases e : s = n
    · rw [← e, if_pos hs]; simp
    · have ih := syL_mem P n s (by omega) hs
      split
      · exact List.mem_append_left _ ih
      · exact ih
theorem ct_isMapped (g : GG) (f : Mm) {q : SQ} {a b c d : Int32} {Z : Nat → Int32} {A B : List Nat} {si s r1 r2 : Nat} (hO : f 68 = some (CVR a b c d)) (hZ : AR f 69 3672 Z) (hC : CXw f q) (hQ : QV q) (hY : SYc f q.1 (syL q.1 8)) (hsi : (syL q.1 8)[si]? = some s) (hA : CVq q A) (hB : CVq q B) (h1 : r1 < 102) (h2 : r2 < 102) (hR1 : ∀ c, c < 36 → Z (r1 * 36 + c) = plA q.2.1 A c) (hR2 : ∀ c, c < 36 → Z (r2 * 36 + c) = plA q.2.1 B c) : Ct g MX0_isMapped [.ref 68, .int (nI si), .int (nI r1), .int (nI r2)] f 0 0 (fun r f' => f = f' ∧ ∃ b, r = some (.int (bI b)) ∧ (b = true ↔ mapC q s A B)) := by
  refine Ct.of ok_MX0_isMapped (Nat.le_of_ble_eq_true rfl) ?_
  change Wp g MX0_isMapped 0 [some (.ref 68), some (.int (nI si)), some (.int (nI r1)), some (.int (nI r2)), none, none, none, none] [] f 0 0 _
  have hL := hC.2.1
  have hE := hQ.2.1.1
  have hl := hQ.2.1.2.1
  have v8 := hQ.1.2.2.2.2
  have ha := hQ.1.area
  have hl8 := syL_le q.1 8
  obtain ⟨hs, hy⟩ := syL_lt q.1 8 s (List.mem_of_getElem? hsi)
  obtain ⟨hok, hop⟩ := isSy_ok hy
  have loop : ∀ (e cc : Nat) (w5 w6 w7 : Option Value), 36 - cc = e → cc ≤ 36 → (∀ c', c' < cc → ∀ k, plO q.2.1 A c' = some k → ∃ k', plO q.2.1 B (img q.1 s c') = some k' ∧ plO q.2.1 B (img q.1 s (low (msk q.2.1 k))) = some k' ∧ qp q k' = qp q k) → Wp g MX0_isMapped 3 [some (.ref 68), some (.int (nI si)), some (.int (nI r1)), some (.int (nI r2)), some (.int (nI cc)), w5, w6, w7] [] f 0 0 (fun r f' => f = f' ∧ ∃ b, r = some (.int (bI b)) ∧ (b = true ↔ mapC q s A B)) := by
    intro e
    induction e using Nat.strongRecOn with
    | ind e ih =>
      intro cc w5 w6 w7 he hcc hinv
      by_cases hlt : cc < 36
      · have nxt : ∀ (w5 w6 w7 : Option Value), (∀ k, plO q.2.1 A cc = some k → ∃ k', plO q.2.1 B (img q.1 s cc) = some k' ∧ plO q.2.1 B (img q.1 s (low (msk q.2.1 k))) = some k' ∧ qp q k' = qp q k) → Wp g MX0_isMapped 99 [some (.ref 68), some (.int (nI si)), some (.int (nI r1)), some (.int (nI r2)), some (.int (nI cc)), w5, w6, w7] [] f 0 0 (fun r f' => f = f' ∧ ∃ b, r = some (.int (bI b)) ∧ (b = true ↔ mapC q s A B)) := fun w5 w6 w7 h => by
          refine rn_iinc (v := nI (cc + 1)) dX0_isMapped_99 rfl (nI_1 cc) (Nat.le_of_ble_eq_true rfl) rfl ?_
          refine rn_goto (tgt := 3) dX0_isMapped_102 (by decide) ?_
          refine ih _ (by omega) (cc + 1) _ _ _ rfl (by omega) (fun c' hc' k hk => ?_)
          by_cases e : c' = cc
          · rw [e] at hk ⊢; exact h k hk
          · exact hinv c' (by omega) k hk
        cases hpl : plO q.2.1 A cc with
        | none =>
          have hz : Z (r1 * 36 + cc) = -1 := by rw [hR1 cc hlt, plA_O, hpl]
          refine rn_iload dX0_isMapped_3 rfl ?_
          refine rn_bipush (v := nI 36) dX0_isMapped_5 (by decide) ?_
          refine rn_icmp_ge (tgt := 105) dX0_isMapped_7 (by decide) (fun c7 => ?_) (fun c7 => ?_)
          · exact absurd (ge_ex c7 (by omega) (by decide)) (by omega)
          · refine rn_aload_n dX0_isMapped_10 rfl ?_
            refine rn_iload_n dX0_isMapped_11 rfl ?_
            refine rn_iload dX0_isMapped_12 rfl ?_
            refine rn_callV dX0_isMapped_14 lmX0_87 ⟨Nat.le_of_ble_eq_true rfl, Nat.le_of_ble_eq_true rfl⟩ (ct_placementAt g f hO hZ h1 hlt) hO rfl rfl (Nat.le_of_ble_eq_true rfl) ?_
            rintro _ _ ⟨rfl, rfl⟩
            rw [hz]
            refine rn_istore dX0_isMapped_17 (Nat.le_of_ble_eq_true rfl) rfl ?_
            refine rn_iload dX0_isMapped_19 rfl ?_
            refine rn_iconst (v := (-1)) dX0_isMapped_21 (by decide) ?_
            refine rn_icmp_eq (tgt := 99) dX0_isMapped_22 (by decide) (fun c22 => ?_) (fun c22 => ?_)
            · exact nxt _ _ _ (fun k hk => by rw [hpl] at hk; cases hk)
            · exact absurd rfl c22
        | some k =>
          obtain ⟨a1, a2, a3⟩ := hA.get hpl
          have hz : Z (r1 * 36 + cc) = nI k := by rw [hR1 cc hlt, plA_O, hpl]
          have hm := hQ.mk a2
          have hlo := (low_tb hm.1 (show msk q.2.1 k < 2 ^ 64 by omega)).1
          obtain ⟨hc1, hc2⟩ := mk_ar hQ a2 a3
          obtain ⟨hb1, hb2⟩ := mk_ar hQ a2 hlo
          have hi1 := img_lt hQ.1 hs hok hc1
          have hi2 := img_lt hQ.1 hs hok hb1
          obtain ⟨k1, hk1⟩ := hB.opc hi2 (by rw [hop _ hb1]; exact hb2)
          obtain ⟨k2, hk2⟩ := hB.opc hi1 (by rw [hop _ hc1]; exact hc2)
          obtain ⟨b1, b2, b3⟩ := hB.get hk1
          obtain ⟨d1, d2, d3⟩ := hB.get hk2
          have z1 : Z (r2 * 36 + img q.1 s (low (msk q.2.1 k))) = nI k1 := by rw [hR2 _ (Nat.lt_of_lt_of_le hi2 ha), plA_O, hk1]
          have z2 : Z (r2 * 36 + img q.1 s cc) = nI k2 := by rw [hR2 _ (Nat.lt_of_lt_of_le hi1 ha), plA_O, hk2]
          have p1 := hQ.pc a2
          have p2 := hQ.pc b2
          have hno : (¬ k1 = k2 ∨ ¬ qp q k1 = qp q k) → ¬ mapC q s A B := fun hor hm => by
            obtain ⟨k', g1, g2, g3⟩ := hm cc k hpl
            rw [hk2] at g1
            rw [hk1] at g2
            cases g1
            cases g2
            exact hor.elim (fun h => h rfl) (fun h => h g3)
          refine rn_iload dX0_isMapped_3 rfl ?_
          refine rn_bipush (v := nI 36) dX0_isMapped_5 (by decide) ?_
          refine rn_icmp_ge (tgt := 105) dX0_isMapped_7 (by decide) (fun c7 => ?_) (fun c7 => ?_)
          · exact absurd (ge_ex c7 (by omega) (by decide)) (by omega)
          · refine rn_aload_n dX0_isMapped_10 rfl ?_
            refine rn_iload_n dX0_isMapped_11 rfl ?_
            refine rn_iload dX0_isMapped_12 rfl ?_
            refine rn_callV dX0_isMapped_14 lmX0_87 ⟨Nat.le_of_ble_eq_true rfl, Nat.le_of_ble_eq_true rfl⟩ (ct_placementAt g f hO hZ h1 hlt) hO rfl rfl (Nat.le_of_ble_eq_true rfl) ?_
            rintro _ _ ⟨rfl, rfl⟩
            rw [hz]
            refine rn_istore dX0_isMapped_17 (Nat.le_of_ble_eq_true rfl) rfl ?_
            refine rn_iload dX0_isMapped_19 rfl ?_
            refine rn_iconst (v := (-1)) dX0_isMapped_21 (by decide) ?_
            refine rn_icmp_eq (tgt := 99) dX0_isMapped_22 (by decide) (fun c22 => ?_) (fun c22 => ?_)
            · exact absurd c22 (nI_m1 (by omega))
            · refine rn_aload_n dX0_isMapped_25 rfl ?_
              refine rn_get dX0_isMapped_26 lfX0_33 hO rfl ?_
              refine rn_iload dX0_isMapped_29 rfl ?_
              refine rn_callV dX0_isMapped_31 lmX0_77 ⟨Nat.le_of_ble_eq_true rfl, Nat.le_of_ble_eq_true rfl⟩ (ct_maskOf g f hL a2 hl) hL.1 rfl rfl (Nat.le_of_ble_eq_true rfl) ?_
              rintro _ _ ⟨rfl, rfl⟩
              refine rn_callS dX0_isMapped_34 lmX0_83 ⟨Nat.le_of_ble_eq_true rfl, Nat.le_of_ble_eq_true rfl⟩ (ct_smallestCell g f (n := msk q.2.1 k) (by omega)) rfl rfl (Nat.le_of_ble_eq_true rfl) ?_
              rintro _ _ ⟨rfl, rfl⟩
              refine rn_istore dX0_isMapped_37 (Nat.le_of_ble_eq_true rfl) rfl ?_
              refine rn_aload_n dX0_isMapped_39 rfl ?_
              refine rn_iload_n dX0_isMapped_40 rfl ?_
              refine rn_aload_n dX0_isMapped_41 rfl ?_
              refine rn_get dX0_isMapped_42 lfX0_37 hO rfl ?_
              refine rn_iload_n dX0_isMapped_45 rfl ?_
              refine rn_iload dX0_isMapped_46 rfl ?_
              refine rn_callV dX0_isMapped_48 lmX0_112 ⟨Nat.le_of_ble_eq_true rfl, Nat.le_of_ble_eq_true rfl⟩ (ct_imageOf g f hY hsi hl8 hb1 hQ.1) hY.1 rfl rfl (Nat.le_of_ble_eq_true rfl) ?_
              rintro _ _ ⟨rfl, rfl⟩
              refine rn_callV dX0_isMapped_51 lmX0_87 ⟨Nat.le_of_ble_eq_true rfl, Nat.le_of_ble_eq_true rfl⟩ (ct_placementAt g f hO hZ h2 (Nat.lt_of_lt_of_le hi2 ha)) hO rfl rfl (Nat.le_of_ble_eq_true rfl) ?_
              rintro _ _ ⟨rfl, rfl⟩
              rw [z1]
              refine rn_istore dX0_isMapped_54 (Nat.le_of_ble_eq_true rfl) rfl ?_
              refine rn_iload dX0_isMapped_56 rfl ?_
              refine rn_aload_n dX0_isMapped_58 rfl ?_
              refine rn_iload_n dX0_isMapped_59 rfl ?_
              refine rn_aload_n dX0_isMapped_60 rfl ?_
              refine rn_get dX0_isMapped_61 lfX0_37 hO rfl ?_
              refine rn_iload_n dX0_isMapped_64 rfl ?_
              refine rn_iload dX0_isMapped_65 rfl ?_
              refine rn_callV dX0_isMapped_67 lmX0_112 ⟨Nat.le_of_ble_eq_true rfl, Nat.le_of_ble_eq_true rfl⟩ (ct_imageOf g f hY hsi hl8 hc1 hQ.1) hY.1 rfl rfl (Nat.le_of_ble_eq_true rfl) ?_
              rintro _ _ ⟨rfl, rfl⟩
              refine rn_callV dX0_isMapped_70 lmX0_87 ⟨Nat.le_of_ble_eq_true rfl, Nat.le_of_ble_eq_true rfl⟩ (ct_placementAt g f hO hZ h2 (Nat.lt_of_lt_of_le hi1 ha)) hO rfl rfl (Nat.le_of_ble_eq_true rfl) ?_
              rintro _ _ ⟨rfl, rfl⟩
              rw [z2]
              refine rn_icmp_ne (tgt := 97) dX0_isMapped_73 (by decide) (fun c73 => ?_) (fun c73 => ?_)
              · refine rn_iconst (v := nI 0) dX0_isMapped_97 (by decide) ?_
                refine rn_zret dX0_isMapped_98 rfl rfl ?_
                exact ⟨rfl, false, rfl, fun h => (by cases h), fun h => absurd h (hno (Or.inl (fun e => c73 (by rw [e]))))⟩
              · refine rn_aload_n dX0_isMapped_76 rfl ?_
                refine rn_get dX0_isMapped_77 lfX0_33 hO rfl ?_
                refine rn_iload dX0_isMapped_80 rfl ?_
                refine rn_callV dX0_isMapped_82 lmX0_94 ⟨Nat.le_of_ble_eq_true rfl, Nat.le_of_ble_eq_true rfl⟩ (ct_pieceOf g f hL hE b2 hl) hL.1 rfl rfl (Nat.le_of_ble_eq_true rfl) ?_
                rintro _ _ ⟨rfl, rfl⟩
                refine rn_aload_n dX0_isMapped_85 rfl ?_
                refine rn_get dX0_isMapped_86 lfX0_33 hO rfl ?_
                refine rn_iload dX0_isMapped_89 rfl ?_
                refine rn_callV dX0_isMapped_91 lmX0_94 ⟨Nat.le_of_ble_eq_true rfl, Nat.le_of_ble_eq_true rfl⟩ (ct_pieceOf g f hL hE a2 hl) hL.1 rfl rfl (Nat.le_of_ble_eq_true rfl) ?_
                rintro _ _ ⟨rfl, rfl⟩
                refine rn_icmp_eq (tgt := 99) dX0_isMapped_94 (by decide) (fun c94 => ?_) (fun c94 => ?_)
                · have e12 : k1 = k2 := (nI_eq (by omega) (by omega)).mp c73
                  have ep : qp q k1 = qp q k := (nI_eq (show qp q k1 < 2 ^ 31 by omega) (show qp q k < 2 ^ 31 by omega)).mp c94
                  exact nxt _ _ _ (fun k0 hk0 => by
                    rw [hpl] at hk0
                    cases hk0
                    exact ⟨k1, by rw [hk2, e12], hk1, ep⟩)
                · refine rn_iconst (v := nI 0) dX0_isMapped_97 (by decide) ?_
                  refine rn_zret dX0_isMapped_98 rfl rfl ?_
                  exact ⟨rfl, false, rfl, fun h => (by cases h), fun h => absurd h (hno (Or.inr (fun e => c94 (congrArg nI e))))⟩
      · have hc36 : cc = 36 := by omega
        subst hc36
        refine rn_iload dX0_isMapped_3 rfl ?_
        refine rn_bipush (v := nI 36) dX0_isMapped_5 (by decide) ?_
        refine rn_icmp_ge (tgt := 105) dX0_isMapped_7 (by decide) (fun c7 => ?_) (fun c7 => ?_)
        · refine rn_iconst (v := nI 1) dX0_isMapped_105 (by decide) ?_
          refine rn_zret dX0_isMapped_106 rfl rfl ?_
          refine ⟨rfl, true, rfl, fun _ c' k hk => hinv c' ?_ k hk, fun _ => rfl⟩
          obtain ⟨a1, a2, a3⟩ := hA.get hk
          exact Nat.lt_of_lt_of_le (mk_ar hQ a2 a3).1 ha
        · exact absurd (ge_in c7 (by decide)) (by decide)
  refine rn_iconst (v := nI 0) dX0_isMapped_0 (by decide) ?_
  refine rn_istore dX0_isMapped_1 (Nat.le_of_ble_eq_true rfl) rfl ?_
  exact loop 36 0 none none none rfl (by omega) (fun c' hc' => by omega)
theorem ct_areAlike (g : GG) (f : Mm) {q : SQ} {a b c d : Int32} {Z : Nat → Int32} {A B : List Nat} {r1 r2 : Nat} (hO : f 68 = some (CVR a b c d)) (hZ : AR f 69 3672 Z) (hC : CXw f q) (hQ : QV q) (hSZ : SZq q) (hY : SYc f q.1 (syL q.1 8)) (hA : CVq q A) (hB : CVq q B) (h1 : r1 < 102) (h2 : r2 < 102) (hR1 : ∀ c, c < 36 → Z (r1 * 36 + c) = plA q.2.1 A c) (hR2 : ∀ c, c < 36 → Z (r2 * 36 + c) = plA q.2.1 B c) : Ct g MX0_areAlike [.ref 68, .int (nI r1), .int (nI r2)] f 0 0 (fun r f' => f = f' ∧ ∃ b, r = some (.int (bI b)) ∧ (b = true ↔ alk q A B)) := by
  refine Ct.of ok_MX0_areAlike (Nat.le_of_ble_eq_true rfl) ?_
  change Wp g MX0_areAlike 0 [some (.ref 68), some (.int (nI r1)), some (.int (nI r2)), none] [] f 0 0 _
  have hl8 := syL_le q.1 8
  have loop : ∀ (e i : Nat), (syL q.1 8).length - i = e → i ≤ (syL q.1 8).length → (∀ j s, j < i → (syL q.1 8)[j]? = some s → ¬ mapC q s A B) → Wp g MX0_areAlike 2 [some (.ref 68), some (.int (nI r1)), some (.int (nI r2)), some (.int (nI i))] [] f 0 0 (fun r f' => f = f' ∧ ∃ b, r = some (.int (bI b)) ∧ (b = true ↔ alk q A B)) := by
    intro e
    induction e using Nat.strongRecOn with
    | ind e ih =>
      intro i he hi hinv
      by_cases hlt : i < (syL q.1 8).length
      · have hsi : (syL q.1 8)[i]? = some (syL q.1 8)[i] := List.getElem?_eq_getElem hlt
        generalize (syL q.1 8)[i] = s at hsi
        obtain ⟨hs, hy⟩ := syL_lt q.1 8 s (List.mem_of_getElem? hsi)
        refine rn_iload_n dX0_areAlike_2 rfl ?_
        refine rn_aload_n dX0_areAlike_3 rfl ?_
        refine rn_get dX0_areAlike_4 lfX0_37 hO rfl ?_
        refine rn_get dX0_areAlike_7 lfX0_105 hY.1 rfl ?_
        refine rn_icmp_ge (tgt := 31) dX0_areAlike_10 (by decide) (fun c10 => ?_) (fun c10 => ?_)
        · exact absurd (ge_ex c10 (by omega) (by omega)) (by omega)
        · refine rn_aload_n dX0_areAlike_13 rfl ?_
          refine rn_iload_n dX0_areAlike_14 rfl ?_
          refine rn_iload_n dX0_areAlike_15 rfl ?_
          refine rn_iload_n dX0_areAlike_16 rfl ?_
          refine rn_callV dX0_areAlike_17 lmX0_108 ⟨Nat.le_of_ble_eq_true rfl, Nat.le_of_ble_eq_true rfl⟩ (ct_isMapped g f hO hZ hC hQ hY hsi hA hB h1 h2 hR1 hR2) hO rfl rfl (Nat.le_of_ble_eq_true rfl) ?_
          rintro _ _ ⟨rfl, b0, rfl, hb0⟩
          cases b0 with
          | true =>
            refine rn_if_eq (tgt := 25) dX0_areAlike_20 (by decide) (fun h => absurd h (by decide)) (fun _ => ?_)
            refine rn_iconst (v := nI 1) dX0_areAlike_23 (by decide) ?_
            refine rn_zret dX0_areAlike_24 rfl rfl ?_
            exact ⟨rfl, true, rfl, fun _ => ⟨s, hs, hy, mapC_E hQ hSZ hs hy hA hB (hb0.mp rfl)⟩, fun _ => rfl⟩
          | false =>
            refine rn_if_eq (tgt := 25) dX0_areAlike_20 (by decide) (fun _ => ?_) (fun h => absurd (show bI false = 0 from rfl) h)
            refine rn_iinc (v := nI (i + 1)) dX0_areAlike_25 rfl (nI_1 i) (Nat.le_of_ble_eq_true rfl) rfl ?_
            refine rn_goto (tgt := 2) dX0_areAlike_28 (by decide) ?_
            refine ih _ (by omega) (i + 1) rfl (by omega) (fun j s' hj hs' => ?_)
            by_cases e : j = i
            · rw [e, hsi] at hs'
              cases hs'
              exact fun h => by have := hb0.mpr h; cases this
            · exact hinv j s' (by omega) hs'
      · have hie : i = (syL q.1 8).length := by omega
        subst hie
        refine rn_iload_n dX0_areAlike_2 rfl ?_
        refine rn_aload_n dX0_areAlike_3 rfl ?_
        refine rn_get dX0_areAlike_4 lfX0_37 hO rfl ?_
        refine rn_get dX0_areAlike_7 lfX0_105 hY.1 rfl ?_
        refine rn_icmp_ge (tgt := 31) dX0_areAlike_10 (by decide) (fun c10 => ?_) (fun c10 => ?_)
        · refine rn_iconst (v := nI 0) dX0_areAlike_31 (by decide) ?_
          refine rn_zret dX0_areAlike_32 rfl rfl ?_
          refine ⟨rfl, false, rfl, fun h => (by cases h), fun h => ?_⟩
          obtain ⟨s, hs, hy, hm⟩ := h
          obtain ⟨j, hj⟩ := List.getElem?_of_mem (syL_mem q.1 8 s hs hy)
          exact absurd (mapE_C hQ hA hB hm) (hinv j s (List.getElem?_eq_some_iff.mp hj).1 hj)
        · exact absurd (ge_in c10 (by omega)) (by omega)
  refine rn_iconst (v := nI 0) dX0_areAlike_0 (by decide) ?_
  refine rn_istore_n dX0_areAlike_1 (Nat.le_of_ble_eq_true rfl) rfl ?_
  exact loop _ 0 rfl (by omega) (fun j s hj => by omega)
def erl (q : SQ) (n : Nat) : Prop := ∃ e, e < n ∧ alk q (sqS q e).2.1 (sqS q n).2.1
noncomputable def clsN (q : SQ) : Nat → Nat
  | 0 => 0
  | n + 1 => clsN q n + @ite Nat (erl q n) (Classical.propDecidable _) 0 1
theorem clsN_1 {q : SQ} {n : Nat} (h : ¬ erl q n) : clsN q (n + 1) = clsN q n + 1 := by rw [clsN, if_neg h]
theorem clsN_0 {q : SQ} {n : Nat} (h : erl q n) : clsN q (n + 1) = clsN q n := by rw [clsN, if_pos h]; rfl
theorem ct_isLikeEarlier (g : GG) (f : Mm) {q : SQ} {a b c d : Int32} {Z : Nat → Int32} {n i : Nat} (hO : f 68 = some (CVR a b c d)) (hZ : AR f 69 3672 Z) (hC : CXw f q) (hQ : QV q) (hSZ : SZq q) (hY : SYc f q.1 (syL q.1 8)) (hF : ∀ i, i < n → (sqS q i).1 = 0) (hR : RWz q n Z) (hi : i < n) (h100 : i < 100) : Ct g MX0_isLikeEarlier [.ref 68, .int (nI i)] f 0 0 (fun r f' => f = f' ∧ ∃ b, r = some (.int (bI b)) ∧ (b = true ↔ erl q i)) := by
  refine Ct.of ok_MX0_isLikeEarlier (Nat.le_of_ble_eq_true rfl) ?_
  change Wp g MX0_isLikeEarlier 0 [some (.ref 68), some (.int (nI i)), none] [] f 0 0 _
  have loop : ∀ (e j : Nat), i - j = e → j ≤ i → (∀ j', j' < j → ¬ alk q (sqS q j').2.1 (sqS q i).2.1) → Wp g MX0_isLikeEarlier 2 [some (.ref 68), some (.int (nI i)), some (.int (nI j))] [] f 0 0 (fun r f' => f = f' ∧ ∃ b, r = some (.int (bI b)) ∧ (b = true ↔ erl q i)) := by
    intro e
    induction e using Nat.strongRecOn with
    | ind e ih =>
      intro j he hj hinv
      by_cases hlt : j < i
      · refine rn_iload_n dX0_isLikeEarlier_2 rfl ?_
        refine rn_iload_n dX0_isLikeEarlier_3 rfl ?_
        refine rn_icmp_ge (tgt := 24) dX0_isLikeEarlier_4 (by decide) (fun c4 => ?_) (fun c4 => ?_)
        · exact absurd (ge_ex c4 (by omega) (by omega)) (by omega)
        · refine rn_aload_n dX0_isLikeEarlier_7 rfl ?_
          refine rn_iload_n dX0_isLikeEarlier_8 rfl ?_
          refine rn_iload_n dX0_isLikeEarlier_9 rfl ?_
          refine rn_callV dX0_isLikeEarlier_10 lmX0_102 ⟨Nat.le_of_ble_eq_true rfl, Nat.le_of_ble_eq_true rfl⟩ (ct_areAlike g f hO hZ hC hQ hSZ hY (sq_cv (hF j (by omega))) (sq_cv (hF i hi)) (show j < 102 by omega) (show i < 102 by omega) (hR j (by omega) (by omega)) (hR i hi h100)) hO rfl rfl (Nat.le_of_ble_eq_true rfl) ?_
          rintro _ _ ⟨rfl, b0, rfl, hb0⟩
          cases b0 with
          | true =>
            refine rn_if_eq (tgt := 18) dX0_isLikeEarlier_13 (by decide) (fun h => absurd h (by decide)) (fun _ => ?_)
            refine rn_iconst (v := nI 1) dX0_isLikeEarlier_16 (by decide) ?_
            refine rn_zret dX0_isLikeEarlier_17 rfl rfl ?_
            exact ⟨rfl, true, rfl, fun _ => ⟨j, hlt, hb0.mp rfl⟩, fun _ => rfl⟩
          | false =>
            refine rn_if_eq (tgt := 18) dX0_isLikeEarlier_13 (by decide) (fun _ => ?_) (fun h => absurd (show bI false = 0 from rfl) h)
            refine rn_iinc (v := nI (j + 1)) dX0_isLikeEarlier_18 rfl (nI_1 j) (Nat.le_of_ble_eq_true rfl) rfl ?_
            refine rn_goto (tgt := 2) dX0_isLikeEarlier_21 (by decide) ?_
            refine ih _ (by omega) (j + 1) rfl (by omega) (fun j' hj' => ?_)
            by_cases e : j' = j
            · rw [e]; exact fun h => by have := hb0.mpr h; cases this
            · exact hinv j' (by omega)
      · have hje : j = i := by omega
        subst hje
        refine rn_iload_n dX0_isLikeEarlier_2 rfl ?_
        refine rn_iload_n dX0_isLikeEarlier_3 rfl ?_
        refine rn_icmp_ge (tgt := 24) dX0_isLikeEarlier_4 (by decide) (fun c4 => ?_) (fun c4 => ?_)
        · refine rn_iconst (v := nI 0) dX0_isLikeEarlier_24 (by decide) ?_
          refine rn_zret dX0_isLikeEarlier_25 rfl rfl ?_
          exact ⟨rfl, false, rfl, fun h => (by cases h), fun ⟨e, h1, h2⟩ => absurd h2 (hinv e h1)⟩
        · exact absurd (ge_in c4 (by omega)) (by omega)
  refine rn_iconst (v := nI 0) dX0_isLikeEarlier_0 (by decide) ?_
  refine rn_istore_n dX0_isLikeEarlier_1 (Nat.le_of_ble_eq_true rfl) rfl ?_
  exact loop _ 0 rfl (by omega) (fun j' hj' => by omega)
theorem ct_classCount (g : GG) (f : Mm) {q : SQ} {b c d : Int32} {Z : Nat → Int32} {n : Nat} (hO : f 68 = some (CVR (nI n) b c d)) (hZ : AR f 69 3672 Z) (hC : CXw f q) (hQ : QV q) (hSZ : SZq q) (hY : SYc f q.1 (syL q.1 8)) (hF : ∀ i, i < n → (sqS q i).1 = 0) (hR : RWz q n Z) (hn : n ≤ 100) : Ct g MX0_classCount [.ref 68] f 0 0 (fun r f' => f = f' ∧ r = some (.int (nI (clsN q n)))) := by
  refine Ct.of ok_MX0_classCount (Nat.le_of_ble_eq_true rfl) ?_
  change Wp g MX0_classCount 0 [some (.ref 68), none, none] [] f 0 0 _
  have loop : ∀ (e i : Nat), n - i = e → i ≤ n → Wp g MX0_classCount 4 [some (.ref 68), some (.int (nI (clsN q i))), some (.int (nI i))] [] f 0 0 (fun r f' => f = f' ∧ r = some (.int (nI (clsN q n)))) := by
    intro e
    induction e using Nat.strongRecOn with
    | ind e ih =>
      intro i he hi
      by_cases hlt : i < n
      · refine rn_iload_n dX0_classCount_4 rfl ?_
        refine rn_aload_n dX0_classCount_5 rfl ?_
        refine rn_get dX0_classCount_6 lfX0_15 hO rfl ?_
        refine rn_icmp_ge (tgt := 35) dX0_classCount_9 (by decide) (fun c9 => ?_) (fun c9 => ?_)
        · exact absurd (ge_ex c9 (by omega) (by omega)) (by omega)
        · refine rn_iload_n dX0_classCount_12 rfl ?_
          refine rn_bipush (v := nI 100) dX0_classCount_13 (by decide) ?_
          refine rn_icmp_ge (tgt := 35) dX0_classCount_15 (by decide) (fun c15 => ?_) (fun c15 => ?_)
          · exact absurd (ge_ex c15 (by omega) (by decide)) (by omega)
          · refine rn_aload_n dX0_classCount_18 rfl ?_
            refine rn_iload_n dX0_classCount_19 rfl ?_
            refine rn_callV dX0_classCount_20 lmX0_98 ⟨Nat.le_of_ble_eq_true rfl, Nat.le_of_ble_eq_true rfl⟩ (ct_isLikeEarlier g f hO hZ hC hQ hSZ hY hF hR hlt (by omega)) hO rfl rfl (Nat.le_of_ble_eq_true rfl) ?_
            rintro _ _ ⟨rfl, b0, rfl, hb0⟩
            have e := ih _ (by omega) (i + 1) rfl (by omega)
            cases b0 with
            | true =>
              refine rn_if_ne (tgt := 29) dX0_classCount_23 (by decide) (fun _ => ?_) (fun h => absurd h (by decide))
              refine rn_iinc (v := nI (i + 1)) dX0_classCount_29 rfl (nI_1 i) (Nat.le_of_ble_eq_true rfl) rfl ?_
              refine rn_goto (tgt := 4) dX0_classCount_32 (by decide) ?_
              rw [clsN_0 (hb0.mp rfl)] at e
              exact e
            | false =>
              refine rn_if_ne (tgt := 29) dX0_classCount_23 (by decide) (fun h => absurd (show bI false = 0 from rfl) h) (fun _ => ?_)
              refine rn_iinc (v := nI (clsN q i + 1)) dX0_classCount_26 rfl (nI_1 _) (Nat.le_of_ble_eq_true rfl) rfl ?_
              refine rn_iinc (v := nI (i + 1)) dX0_classCount_29 rfl (nI_1 i) (Nat.le_of_ble_eq_true rfl) rfl ?_
              refine rn_goto (tgt := 4) dX0_classCount_32 (by decide) ?_
              rw [clsN_1 (fun h => by have := hb0.mpr h; cases this)] at e
              exact e
      · have hie : i = n := by omega
        subst hie
        refine rn_iload_n dX0_classCount_4 rfl ?_
        refine rn_aload_n dX0_classCount_5 rfl ?_
        refine rn_get dX0_classCount_6 lfX0_15 hO rfl ?_
        refine rn_icmp_ge (tgt := 35) dX0_classCount_9 (by decide) (fun c9 => ?_) (fun c9 => ?_)
        · refine rn_iload_n dX0_classCount_35 rfl ?_
          refine rn_iret dX0_classCount_36 rfl ?_
          exact ⟨rfl, rfl⟩
        · exact absurd (ge_in c9 (by omega)) (by omega)
  refine rn_iconst (v := nI 0) dX0_classCount_0 (by decide) ?_
  refine rn_istore_n dX0_classCount_1 (Nat.le_of_ble_eq_true rfl) rfl ?_
  refine rn_iconst (v := nI 0) dX0_classCount_2 (by decide) ?_
  refine rn_istore_n dX0_classCount_3 (Nat.le_of_ble_eq_true rfl) rfl ?_
  exact loop _ 0 rfl (by omega)
