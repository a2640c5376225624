/-- the greatest cell -/
def gtk (m : Nat) : Nat → Nat
  | 0 => 0
  | c + 1 => if m.testBit c = true then c else gtk m c
theorem gtk_of {m k : Nat} : ∀ {n}, k < n → m.testBit k = true → (∀ j, k < j → j < n → m.testBit j = false) → gtk m n = k
  | 0, h, _, _ => by omega
  | n + 1, h, hb, hn => by
    rw [gtk]
    by_cases e : k = n
    · rw [← e, if_pos hb]
    · rw [if_neg (by rw [hn n (by omega) (by omega)]; decide)]
      exact gtk_of (by omega) hb (fun j a b => hn j a (by omega))
def aPlk (l : List PE) (k i : Nat) : Int32 := match i with
  | 0 => nI (gp l k).1
  | 1 => nI (gp l k).2.1
  | 2 => nI (gp l k).2.2.1
  | 3 => nI (low (msk l k))
  | _ => nI (gtk (msk l k) 36)
def aPl (P : PS) (x y : Int32) : Int32 := if x < 0 then -1 else if inR y 5 = true then (if x.toNatClampNeg < (lP P).length then aPlk (lP P) x.toNatClampNeg y.toNatClampNeg else -9) else -1
theorem in_5 (y : Int32) : decide (nI 0 ≤ y ∧ y ≤ nI 4) = inR y 5 := in_R (n := 5) (by decide)
theorem cm_placement (g : GG) (f : Mm) {wi s : Nat → Int32} {cv : Int64} {P : PS} (x y : Int32) (hB : MB f wi cv s P) (hV : VPc P) : Ct g MX12_placement [.ref 75, .int x, .int y] f 0 0 (fun r f' => MR f wi f' ∧ r = some (.int (aPl P x y))) := by
  refine Ct.of ok_MX12_placement (Nat.le_of_ble_eq_true rfl) ?_
  change Wp g MX12_placement 0 [some (.ref 75), some (.int x), some (.int y), none, none] [] f 0 0 _
  obtain ⟨hM, hs, hP, hm⟩ := id hB
  obtain ⟨⟨F, hF⟩, ⟨l0, hL⟩, -⟩ := id hm
  have v8 := hV.1.2.2.2.2
  have ha := hV.1.area
  by_cases hx : x < 0
  · refine rn_iload_n dX12_placement_0 rfl ?_
    refine rn_if_lt (tgt := 13) dX12_placement_1 (by decide) (fun c1 => ?_) (fun c1 => ?_)
    · refine rn_iconst (v := (-1)) dX12_placement_13 (by decide) ?_
      refine rn_iret dX12_placement_14 rfl ?_
      exact ⟨MR.rf hB, by rw [aPl, if_pos hx]⟩
    · exact absurd hx c1
  cases hy : inR y 5 with
  | false =>
    refine rn_iload_n dX12_placement_0 rfl ?_
    refine rn_if_lt (tgt := 13) dX12_placement_1 (by decide) (fun c1 => ?_) (fun c1 => ?_)
    · refine rn_iconst (v := (-1)) dX12_placement_13 (by decide) ?_
      refine rn_iret dX12_placement_14 rfl ?_
      exact absurd c1 hx
    · refine rn_iload_n dX12_placement_4 rfl ?_
      refine rn_iconst (v := nI 0) dX12_placement_5 (by decide) ?_
      refine rn_iconst (v := nI 4) dX12_placement_6 (by decide) ?_
      refine rn_callS dX12_placement_7 lmX12_72 ⟨Nat.le_of_ble_eq_true rfl, Nat.le_of_ble_eq_true rfl⟩ (cm_in g f y (nI 0) (nI 4)) rfl rfl (Nat.le_of_ble_eq_true rfl) ?_
      rintro _ _ ⟨rfl, rfl⟩
      rw [in_5, hy]
      refine rn_if_ne (tgt := 15) dX12_placement_10 (by decide) (fun c10 => ?_) (fun c10 => ?_)
      · exact absurd (show bI false = 0 from rfl) c10
      · refine rn_iconst (v := (-1)) dX12_placement_13 (by decide) ?_
        refine rn_iret dX12_placement_14 rfl ?_
        exact ⟨MR.rf hB, by rw [aPl, if_neg hx, hy]; rfl⟩
  | true =>
    obtain ⟨k, hk, rfl⟩ := nn_nI hx
    obtain ⟨i, hi, rfl⟩ := (inR_iff (by decide)).mp hy
    have hval : aPl P (nI k) (nI i) = if k < (lP P).length then aPlk (lP P) k i else -9 := by rw [aPl, if_neg hx, hy, if_pos rfl, nI_clamp hk, nI_clamp (by omega)]
    rw [hval]
    have hLS := pl1_LSd hV.1 hV.2.1
    have hmk0 := pl1_msk hV.1 hV.2.1
    have at15 : Wp g MX12_placement 15 [some (.ref 75), some (.int (nI k)), some (.int (nI i)), none, none] [] f 0 0 (fun r f' => MR f wi f' ∧ r = some (.int (if k < (lP P).length then aPlk (lP P) k i else -9))) := by
      refine rn_aload_n dX12_placement_15 rfl ?_
      refine rn_callV dX12_placement_16 lmX12_120 ⟨Nat.le_of_ble_eq_true rfl, Nat.le_of_ble_eq_true rfl⟩ (cm_findsPlacements g f hM hs hF hL hP hV.1 hV.2.1) hM rfl rfl (Nat.le_of_ble_eq_true rfl) ?_
      rintro _ f1 ⟨rfl, k1, hL1, hF1, a1, o1⟩
      have hMR := MR_fp hB k1 hL1 hF1 o1
      have hs1 := hs.keep (k1 76 (by decide) (by omega))
      unfold lP
      generalize pl1 P (shP P) (frP P) (coP P) (pN P) = l at hLS hmk0 hL1 o1 ⊢
      obtain ⟨hE, hl, hpc, -⟩ := id hLS
      by_cases hlt : k < l.length
      · rw [if_pos hlt]
        obtain ⟨⟨b1, g1, q1⟩, ⟨b2, g2, q2⟩, ⟨b3, g3, q3⟩, -, b5, g5, q5⟩ := id hL1
        have hev := hE k hlt
        have hmp : 0 < msk l k := hev.2.2.2.1
        have hml : msk l k < 2 ^ 36 := hev.2.2.2.2
        have hmk : msk l k < 2 ^ (pW P * pH P) := hmk0 k hlt
        have hlo := low_tb hmp (show msk l k < 2 ^ 64 by omega)
        have e5 : b5 k = nI (low (msk l k)) := q5 k _ (gp_some hlt)
        have at72 : Wp g MX12_placement 72 [some (.ref 75), some (.int (nI k)), some (.int (nI i)), some (.int (nI (gtk (msk l k) 36))), some (.int (nI (pW P * pH P)))] [] f1 0 0 (fun r f' => MR f wi f' ∧ r = some (.int (aPlk l k i))) := by
          rcases (show i = 0 ∨ i = 1 ∨ i = 2 ∨ i = 3 ∨ i = 4 by omega) with rfl | rfl | rfl | rfl | rfl
          · refine rn_iload_n dX12_placement_72 rfl ?_
            refine rn_tableIn (tgt := 104) dX12_placement_73 (by decide) (by decide) rfl (by decide) ?_
            refine rn_aload_n dX12_placement_104 rfl ?_
            refine rn_get dX12_placement_105 lfX12_23 o1 rfl ?_
            refine rn_iload_n dX12_placement_108 rfl ?_
            refine rn_iald dX12_placement_109 g1 (vp_in_nI (show k < 2304 by omega) (by decide)) ?_
            refine rn_iret dX12_placement_110 rfl ?_
            exact ⟨hMR, by rw [nI_clamp hk, q1 k _ (gp_some hlt)]; rfl⟩
          · refine rn_iload_n dX12_placement_72 rfl ?_
            refine rn_tableIn (tgt := 111) dX12_placement_73 (by decide) (by decide) rfl (by decide) ?_
            refine rn_aload_n dX12_placement_111 rfl ?_
            refine rn_get dX12_placement_112 lfX12_26 o1 rfl ?_
            refine rn_iload_n dX12_placement_115 rfl ?_
            refine rn_iald dX12_placement_116 g2 (vp_in_nI (show k < 2304 by omega) (by decide)) ?_
            refine rn_iret dX12_placement_117 rfl ?_
            exact ⟨hMR, by rw [nI_clamp hk, q2 k _ (gp_some hlt)]; rfl⟩
          · refine rn_iload_n dX12_placement_72 rfl ?_
            refine rn_tableIn (tgt := 118) dX12_placement_73 (by decide) (by decide) rfl (by decide) ?_
            refine rn_aload_n dX12_placement_118 rfl ?_
            refine rn_get dX12_placement_119 lfX12_29 o1 rfl ?_
            refine rn_iload_n dX12_placement_122 rfl ?_
            refine rn_iald dX12_placement_123 g3 (vp_in_nI (show k < 2304 by omega) (by decide)) ?_
            refine rn_iret dX12_placement_124 rfl ?_
            exact ⟨hMR, by rw [nI_clamp hk, q3 k _ (gp_some hlt)]; rfl⟩
          · refine rn_iload_n dX12_placement_72 rfl ?_
            refine rn_tableIn (tgt := 125) dX12_placement_73 (by decide) (by decide) rfl (by decide) ?_
            refine rn_aload_n dX12_placement_125 rfl ?_
            refine rn_get dX12_placement_126 lfX12_36 o1 rfl ?_
            refine rn_iload_n dX12_placement_129 rfl ?_
            refine rn_iald dX12_placement_130 g5 (vp_in_nI (show k < 2304 by omega) (by decide)) ?_
            refine rn_iret dX12_placement_131 rfl ?_
            exact ⟨hMR, by rw [nI_clamp hk, e5]; rfl⟩
          · refine rn_iload_n dX12_placement_72 rfl ?_
            refine rn_tableOut (tgt := 132) dX12_placement_73 (by decide) (by decide) ?_
            refine rn_iload_n dX12_placement_132 rfl ?_
            refine rn_iret dX12_placement_133 rfl ?_
            exact ⟨hMR, rfl⟩
        have loop : ∀ (d c v : Nat), pW P * pH P - c = d → c ≤ pW P * pH P → (msk l k).testBit v = true → (v < c ∨ v = low (msk l k)) → (∀ j, v < j → j < c → (msk l k).testBit j = false) → Wp g MX12_placement 40 [some (.ref 75), some (.int (nI k)), some (.int (nI i)), some (.int (nI v)), some (.int (nI c))] [] f1 0 0 (fun r f' => MR f wi f' ∧ r = some (.int (aPlk l k i))) := by
          intro d
          induction d using Nat.strongRecOn with
          | ind d ih =>
            intro c v hd hc hv1 hv2 hv3
            by_cases hcl : c < pW P * pH P
            · refine rn_iload dX12_placement_40 rfl ?_
              refine rn_aload_n dX12_placement_42 rfl ?_
              refine rn_callV dX12_placement_43 lmX12_68 ⟨Nat.le_of_ble_eq_true rfl, Nat.le_of_ble_eq_true rfl⟩ (cm_cells g f1 o1 hs1 hP) o1 rfl rfl (Nat.le_of_ble_eq_true rfl) ?_
              rintro _ _ ⟨rfl, rfl⟩
              refine rn_icmp_ge (tgt := 72) dX12_placement_46 (by decide) (fun c46 => ?_) (fun c46 => ?_)
              · exact absurd (ge_ex c46 (by omega) (by omega)) (by omega)
              · refine rn_aload_n dX12_placement_49 rfl ?_
                refine rn_iload_n dX12_placement_50 rfl ?_
                refine rn_iload dX12_placement_51 rfl ?_
                refine rn_callV dX12_placement_53 lmX12_152 ⟨Nat.le_of_ble_eq_true rfl, Nat.le_of_ble_eq_true rfl⟩ (ch_has g f1 o1 hL1 hLS hlt (show c < 64 by omega)) o1 rfl rfl (Nat.le_of_ble_eq_true rfl) ?_
                rintro _ _ ⟨rfl, rfl⟩
                refine rn_if_eq (tgt := 64) dX12_placement_56 (by decide) (fun c56 => ?_) (fun c56 => ?_)
                · refine rn_iload_n dX12_placement_64 rfl ?_
                  refine rn_istore_n dX12_placement_65 (Nat.le_of_ble_eq_true rfl) rfl ?_
                  refine rn_iinc (v := nI (c + 1)) dX12_placement_66 rfl (nI_1 c) (Nat.le_of_ble_eq_true rfl) rfl ?_
                  refine rn_goto (tgt := 40) dX12_placement_69 (by decide) ?_
                  have hb := bI_0.mp c56
                  refine ih _ (by omega) (c + 1) v rfl (by omega) hv1 (by omega) (fun j h1 h2 => ?_)
                  by_cases e : j = c
                  · rw [e]; exact hb
                  · exact hv3 j h1 (by omega)
                · refine rn_iload dX12_placement_59 rfl ?_
                  refine rn_goto (tgt := 65) dX12_placement_61 (by decide) ?_
                  refine rn_istore_n dX12_placement_65 (Nat.le_of_ble_eq_true rfl) rfl ?_
                  refine rn_iinc (v := nI (c + 1)) dX12_placement_66 rfl (nI_1 c) (Nat.le_of_ble_eq_true rfl) rfl ?_
                  refine rn_goto (tgt := 40) dX12_placement_69 (by decide) ?_
                  exact ih _ (by omega) (c + 1) c rfl (by omega) (bI_n0.mp c56) (by omega) (fun j h1 h2 => by omega)
            · have hce : c = pW P * pH P := by omega
              subst hce
              have hvlt : v < pW P * pH P := bit_hi hmk hv1
              have hg : gtk (msk l k) 36 = v := gtk_of (by omega) hv1 (fun j h1 h2 => by
                rcases Nat.lt_or_ge j (pW P * pH P) with q | q
                · exact hv3 j h1 q
                · exact Nat.testBit_lt_two_pow (Nat.lt_of_lt_of_le hmk (Nat.pow_le_pow_right (by decide) q)))
              rw [hg] at at72
              refine rn_iload dX12_placement_40 rfl ?_
              refine rn_aload_n dX12_placement_42 rfl ?_
              refine rn_callV dX12_placement_43 lmX12_68 ⟨Nat.le_of_ble_eq_true rfl, Nat.le_of_ble_eq_true rfl⟩ (cm_cells g f1 o1 hs1 hP) o1 rfl rfl (Nat.le_of_ble_eq_true rfl) ?_
              rintro _ _ ⟨rfl, rfl⟩
              refine rn_icmp_ge (tgt := 72) dX12_placement_46 (by decide) (fun c46 => ?_) (fun c46 => ?_)
              · exact at72
              · exact absurd (ge_in c46 (by omega)) (by omega)
        refine rn_iload_n dX12_placement_19 rfl ?_
        refine rn_aload_n dX12_placement_20 rfl ?_
        refine rn_get dX12_placement_21 lfX12_106 o1 rfl ?_
        rw [mW_12]
        refine rn_icmp_lt (tgt := 30) dX12_placement_24 (by decide) (fun c24 => ?_) (fun c24 => ?_)
        · refine rn_aload_n dX12_placement_30 rfl ?_
          refine rn_get dX12_placement_31 lfX12_36 o1 rfl ?_
          refine rn_iload_n dX12_placement_34 rfl ?_
          refine rn_iald dX12_placement_35 g5 (vp_in_nI (show k < 2304 by omega) (by decide)) ?_
          rw [nI_clamp hk, e5]
          refine rn_istore_n dX12_placement_36 (Nat.le_of_ble_eq_true rfl) rfl ?_
          refine rn_iconst (v := nI 0) dX12_placement_37 (by decide) ?_
          refine rn_istore dX12_placement_38 (Nat.le_of_ble_eq_true rfl) rfl ?_
          refine loop _ 0 (low (msk l k)) rfl (Nat.zero_le _) hlo.1 (Or.inr rfl) (fun j h1 h2 => by omega)
        · exact absurd (nI_lt hlt (by omega)) c24
      · rw [if_neg hlt]
        refine rn_iload_n dX12_placement_19 rfl ?_
        refine rn_aload_n dX12_placement_20 rfl ?_
        refine rn_get dX12_placement_21 lfX12_106 o1 rfl ?_
        rw [mW_12]
        refine rn_icmp_lt (tgt := 30) dX12_placement_24 (by decide) (fun c24 => ?_) (fun c24 => ?_)
        · exact absurd ((nI_ltI hk (by omega)).mp c24) hlt
        · refine rn_bipush (v := (-9)) dX12_placement_27 (by decide) ?_
          refine rn_iret dX12_placement_29 rfl ?_
          exact ⟨hMR, rfl⟩
    refine rn_iload_n dX12_placement_0 rfl ?_
    refine rn_if_lt (tgt := 13) dX12_placement_1 (by decide) (fun c1 => ?_) (fun c1 => ?_)
    · exact absurd c1 hx
    · refine rn_iload_n dX12_placement_4 rfl ?_
      refine rn_iconst (v := nI 0) dX12_placement_5 (by decide) ?_
      refine rn_iconst (v := nI 4) dX12_placement_6 (by decide) ?_
      refine rn_callS dX12_placement_7 lmX12_72 ⟨Nat.le_of_ble_eq_true rfl, Nat.le_of_ble_eq_true rfl⟩ (cm_in g f (nI i) (nI 0) (nI 4)) rfl rfl (Nat.le_of_ble_eq_true rfl) ?_
      rintro _ _ ⟨rfl, rfl⟩
      rw [in_5, hy]
      refine rn_if_ne (tgt := 15) dX12_placement_10 (by decide) (fun c10 => ?_) (fun c10 => ?_)
      · exact at15
      · exact absurd c10 (by decide)
