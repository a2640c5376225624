def whyN (q : SQ) (n : Nat) : Int32 := if (sqS q n).1 = 2 then -4 else -9
theorem SEp.MR {f f' : Mm} {q : SQ} {wi : Nat → Int32} (h : SEp f q wi f') : MR f wi f' := by
  obtain ⟨h1, h2, n, w, cv, h3, h4, h5, -⟩ := h
  exact ⟨h1.fr, h2, w, cv, h3, h4, h5⟩
theorem cm_covers (g : GG) (f : Mm) {wi s : Nat → Int32} {cv : Int64} {P : PS} {sh fr co cp : Nat → Nat} (hB : MB f wi cv s P) (hV : VP P sh fr co cp) : Ct g MX12_covers [.ref 75] f 0 0 (fun r f' => MR f wi f' ∧ ∃ n, FnS (qOf P sh fr co cp) n ∧ r = some (.int (if (sqS (qOf P sh fr co cp) n).1 = 2 then -4 else nI n))) := by
  refine Ct.of ok_MX12_covers (Nat.le_of_ble_eq_true rfl) ?_
  change Wp g MX12_covers 0 [some (.ref 75)] [] f 0 0 _
  generalize hq : qOf P sh fr co cp = q
  refine rn_aload_n dX12_covers_0 rfl ?_
  refine rn_callV dX12_covers_1 lmX12_265 ⟨Nat.le_of_ble_eq_true rfl, Nat.le_of_ble_eq_true rfl⟩ (cm_searches g f hB hV) hB.1 rfl rfl (Nat.le_of_ble_eq_true rfl) ?_
  rintro _ f1 ⟨rfl, hS⟩
  rw [hq] at hS
  obtain ⟨k1, hm, n, w, cv1, o1, e2, e4, hF, e30, e31, e32, e35⟩ := id hS
  skip
  refine rn_aload_n dX12_covers_4 rfl ?_
  refine rn_get dX12_covers_5 lfX12_227 o1 rfl ?_
  rw [e32]
  refine rn_if_eq (tgt := 16) dX12_covers_8 (by decide) (fun c8 => ?_) (fun c8 => ?_)
  · refine rn_aload_n dX12_covers_16 rfl ?_
    refine rn_get dX12_covers_17 lfX12_224 o1 rfl ?_
    try rw [e31]
    refine rn_iret dX12_covers_20 rfl ?_
    exact ⟨hS.MR, n, hF, by rw [if_neg (of_decide_eq_false (bI_0.mp c8))]⟩
  · refine rn_bipush (v := (-4)) dX12_covers_11 (by decide) ?_
    refine rn_goto (tgt := 20) dX12_covers_13 (by decide) ?_
    try rw [e31]
    refine rn_iret dX12_covers_20 rfl ?_
    exact ⟨hS.MR, n, hF, by rw [if_pos (of_decide_eq_true (bI_n0.mp c8))]⟩
theorem cm_tries (g : GG) (f : Mm) {wi s : Nat → Int32} {cv : Int64} {P : PS} {sh fr co cp : Nat → Nat} (hB : MB f wi cv s P) (hV : VP P sh fr co cp) : Ct g MX12_tries [.ref 75] f 0 0 (fun r f' => MR f wi f' ∧ ∃ n, FnS (qOf P sh fr co cp) n ∧ r = some (.int (if (sqS (qOf P sh fr co cp) n).1 = 2 then -4 else nI (sqS (qOf P sh fr co cp) n).2.2.2))) := by
  refine Ct.of ok_MX12_tries (Nat.le_of_ble_eq_true rfl) ?_
  change Wp g MX12_tries 0 [some (.ref 75)] [] f 0 0 _
  generalize hq : qOf P sh fr co cp = q
  refine rn_aload_n dX12_tries_0 rfl ?_
  refine rn_callV dX12_tries_1 lmX12_265 ⟨Nat.le_of_ble_eq_true rfl, Nat.le_of_ble_eq_true rfl⟩ (cm_searches g f hB hV) hB.1 rfl rfl (Nat.le_of_ble_eq_true rfl) ?_
  rintro _ f1 ⟨rfl, hS⟩
  rw [hq] at hS
  obtain ⟨k1, hm, n, w, cv1, o1, e2, e4, hF, e30, e31, e32, e35⟩ := id hS
  skip
  refine rn_aload_n dX12_tries_4 rfl ?_
  refine rn_get dX12_tries_5 lfX12_227 o1 rfl ?_
  rw [e32]
  refine rn_if_eq (tgt := 16) dX12_tries_8 (by decide) (fun c8 => ?_) (fun c8 => ?_)
  · refine rn_aload_n dX12_tries_16 rfl ?_
    refine rn_get dX12_tries_17 lfX12_221 o1 rfl ?_
    try rw [e30]
    refine rn_iret dX12_tries_20 rfl ?_
    exact ⟨hS.MR, n, hF, by rw [if_neg (of_decide_eq_false (bI_0.mp c8))]⟩
  · refine rn_bipush (v := (-4)) dX12_tries_11 (by decide) ?_
    refine rn_goto (tgt := 20) dX12_tries_13 (by decide) ?_
    try rw [e30]
    refine rn_iret dX12_tries_20 rfl ?_
    exact ⟨hS.MR, n, hF, by rw [if_pos (of_decide_eq_true (bI_n0.mp c8))]⟩
theorem cm_fewest (g : GG) (f : Mm) {wi s : Nat → Int32} {cv : Int64} {P : PS} {sh fr co cp : Nat → Nat} (hB : MB f wi cv s P) (hV : VP P sh fr co cp) : Ct g MX12_fewest [.ref 75] f 0 0 (fun r f' => MR f wi f' ∧ ∃ n, FnS (qOf P sh fr co cp) n ∧ r = some (.int (if (sqS (qOf P sh fr co cp) n).1 = 2 then -4 else if n = 0 then -9 else nI (mnS (qOf P sh fr co cp) n)))) := by
  refine Ct.of ok_MX12_fewest (Nat.le_of_ble_eq_true rfl) ?_
  change Wp g MX12_fewest 0 [some (.ref 75)] [] f 0 0 _
  generalize hq : qOf P sh fr co cp = q
  refine rn_aload_n dX12_fewest_0 rfl ?_
  refine rn_callV dX12_fewest_1 lmX12_265 ⟨Nat.le_of_ble_eq_true rfl, Nat.le_of_ble_eq_true rfl⟩ (cm_searches g f hB hV) hB.1 rfl rfl (Nat.le_of_ble_eq_true rfl) ?_
  rintro _ f1 ⟨rfl, hS⟩
  rw [hq] at hS
  obtain ⟨k1, hm, n, w, cv1, o1, e2, e4, hF, e30, e31, e32, e35⟩ := id hS
  skip
  have hn2 := fin_le hF.1
  refine rn_aload_n dX12_fewest_4 rfl ?_
  refine rn_get dX12_fewest_5 lfX12_227 o1 rfl ?_
  rw [e32]
  refine rn_if_eq (tgt := 16) dX12_fewest_8 (by decide) (fun c8 => ?_) (fun c8 => ?_)
  · refine rn_aload_n dX12_fewest_16 rfl ?_
    refine rn_get dX12_fewest_17 lfX12_224 o1 rfl ?_
    rw [e31]
    refine rn_if_ne (tgt := 28) dX12_fewest_20 (by decide) (fun c20 => ?_) (fun c20 => ?_)
    · refine rn_aload_n dX12_fewest_28 rfl ?_
      refine rn_get dX12_fewest_29 lfX12_262 o1 rfl ?_
      refine rn_iret dX12_fewest_32 rfl ?_
      have hn0 : ¬ n = 0 := fun h => c20 (by rw [h]; rfl)
      exact ⟨hS.MR, n, hF, by rw [if_neg (of_decide_eq_false (bI_0.mp c8)), if_neg hn0, e35 hn0]⟩
    · refine rn_bipush (v := (-9)) dX12_fewest_23 (by decide) ?_
      refine rn_goto (tgt := 32) dX12_fewest_25 (by decide) ?_
      refine rn_iret dX12_fewest_32 rfl ?_
      have hn0 : n = 0 := (az (by omega)).mp c20
      exact ⟨hS.MR, n, hF, by rw [if_neg (of_decide_eq_false (bI_0.mp c8)), if_pos hn0]⟩
  · refine rn_bipush (v := (-4)) dX12_fewest_11 (by decide) ?_
    refine rn_goto (tgt := 32) dX12_fewest_13 (by decide) ?_
    refine rn_iret dX12_fewest_32 rfl ?_
    exact ⟨hS.MR, n, hF, by rw [if_pos (of_decide_eq_true (bI_n0.mp c8))]⟩
/-- what coverAt asks: q's covers are n -/
def aAt (q : SQ) (n : Nat) (x y : Int32) : Int32 := if x < 0 then -1 else if inR y (pW q.1 * pH q.1) = false then -1 else if x.toNatClampNeg < n then (if pC q.1 y.toNatClampNeg = -1 then -9 else plA q.2.1 (sqS q x.toNatClampNeg).2.1 y.toNatClampNeg) else whyN q n
def aUs (q : SQ) (n : Nat) (x y : Int32) : Int32 := if x < 0 then -1 else if inR y (pN q.1) = false then -1 else if x.toNatClampNeg < n then nI (usS q.2.1 y.toNatClampNeg (sqS q x.toNatClampNeg).2.1) else whyN q n
theorem nn_nI {x : Int32} (h : ¬ x < 0) : ∃ c, c < 2 ^ 31 ∧ x = nI c := by
  refine ⟨x.toNatClampNeg, ?_, ?_⟩
  · have := Int32.toInt_lt x
    have : x.toNatClampNeg = x.toInt.toNat := rfl
    omega
  · apply Int32.toInt_inj.mp
    have h1 : 0 ≤ x.toInt := by
      have hz : (0 : Int32).toInt = 0 := by decide
      have h5 : ¬ x.toInt < (0 : Int32).toInt := fun hh => h (Int32.lt_iff_toInt_lt.mpr hh)
      rw [hz] at h5
      omega
    have h2 : x.toNatClampNeg = x.toInt.toNat := rfl
    have h3 := Int32.toInt_lt x
    rw [nI_toInt (by omega), h2]
    omega
theorem fin_split {q : SQ} {n c : Nat} (hF : FnS q n) : (sqS q c).1 = 0 ↔ c < n := by
  constructor
  · intro h
    rcases Nat.lt_or_ge c n with a | a
    · exact a
    · exact absurd (sqS_all h n a) hF.2
  · exact hF.1 c
theorem ex_fin (q : SQ) : ∃ n, FnS q n := by
  refine Classical.byContradiction fun h => ?_
  have key : ∀ n, ∀ i, i < n → (sqS q i).1 = 0 := by
    intro n
    induction n with
    | zero => intro i hi; omega
    | succ n ih =>
      intro i hi
      by_cases e : i = n
      · rw [e]; exact Classical.byContradiction fun h2 => h ⟨n, ih, h2⟩
      · exact ih i (by omega)
  have := sqS_lt (key 20001 20000 (by decide))
  omega
theorem why_lt (q : SQ) (n : Nat) : whyN q n < 0 := by unfold whyN; split <;> decide
theorem open_cv {q : SQ} {c i : Nat} (h0 : (sqS q c).1 = 0) (hi : i < pW q.1 * pH q.1) : (cvS q.2.1 (sqS q c).2.1).testBit i = decide (¬ pC q.1 i = -1) := by
  rw [((sqS_end q c).2.2.1 h0).1, opP, opk_bit, decide_eq_true hi, Bool.true_and]
theorem SKp.MR {f f' : Mm} {q : SQ} {c : Nat} {wi : Nat → Int32} {r : Option Value} (h : SKp f q c wi r f') : MR f wi f' := by
  obtain ⟨h1, h2, ⟨-, -, w, -, hS, h4, h5⟩ | ⟨n, -, -, -, w, cv, h3, h4, h5⟩⟩ := h
  · obtain ⟨⟨cv, h3⟩, -⟩ := hS.ent
    exact ⟨h1.fr, h2, w, cv, h3, h4, h5⟩
  · exact ⟨h1.fr, h2, w, cv, h3, h4, h5⟩
theorem MR.rf {f : Mm} {wi s : Nat → Int32} {cv : Int64} {P : PS} (hB : MB f wi cv s P) : MR f wi f := ⟨fun _ _ => rfl, hB.2.2.2, wi, cv, hB.1, rfl, rfl⟩
theorem cm_coverAt (g : GG) (f : Mm) {wi s : Nat → Int32} {cv : Int64} {P : PS} {sh fr co cp : Nat → Nat} (x y : Int32) (hB : MB f wi cv s P) (hV : VP P sh fr co cp) : Ct g MX12_coverAt [.ref 75, .int x, .int y] f 0 0 (fun r f' => MR f wi f' ∧ ∃ n, FnS (qOf P sh fr co cp) n ∧ r = some (.int (aAt (qOf P sh fr co cp) n x y))) := by
  refine Ct.of ok_MX12_coverAt (Nat.le_of_ble_eq_true rfl) ?_
  change Wp g MX12_coverAt 0 [some (.ref 75), some (.int x), some (.int y), none, none] [] f 0 0 _
  have hQ := hV.Q
  have hqP : (qOf P sh fr co cp).1 = P := rfl
  generalize hq : qOf P sh fr co cp = q at *
  obtain ⟨n0, hF0⟩ := ex_fin q
  have ha := hV.1.area
  by_cases hx : x < 0
  · refine rn_iload_n dX12_coverAt_0 rfl ?_
    refine rn_if_lt (tgt := 12) dX12_coverAt_1 (by decide) (fun c1 => ?_) (fun c1 => ?_)
    · refine rn_iconst (v := (-1)) dX12_coverAt_12 (by decide) ?_
      refine rn_iret dX12_coverAt_13 rfl ?_
      exact ⟨MR.rf hB, n0, hF0, by rw [aAt, if_pos hx]⟩
    · exact absurd hx c1
  obtain ⟨c, hc, rfl⟩ := nn_nI hx
  refine rn_iload_n dX12_coverAt_0 rfl ?_
  refine rn_if_lt (tgt := 12) dX12_coverAt_1 (by decide) (fun h => absurd h hx) (fun _ => ?_)
  refine rn_aload_n dX12_coverAt_4 rfl ?_
  refine rn_iload_n dX12_coverAt_5 rfl ?_
  refine rn_callV dX12_coverAt_6 lmX12_126 ⟨Nat.le_of_ble_eq_true rfl, Nat.le_of_ble_eq_true rfl⟩ (cm_isCell g f y hB.1 hB.2.1 hB.2.2.1 hV.1) hB.1 rfl rfl (Nat.le_of_ble_eq_true rfl) ?_
  rintro _ _ ⟨rfl, rfl⟩
  cases hin : inR y (pW P * pH P) with
  | false =>
    refine rn_if_ne (tgt := 14) dX12_coverAt_9 (by decide) (fun c9 => ?_) (fun c9 => ?_)
    · exact absurd (show bI false = 0 from rfl) c9
    · refine rn_iconst (v := (-1)) dX12_coverAt_12 (by decide) ?_
      refine rn_iret dX12_coverAt_13 rfl ?_
      exact ⟨MR.rf hB, n0, hF0, by rw [aAt, if_neg hx, hqP, if_pos hin]⟩
  | true =>
    obtain ⟨i, hi, rfl⟩ := (inR_iff (by omega)).mp hin
    refine rn_if_ne (tgt := 14) dX12_coverAt_9 (by decide) (fun c9 => ?_) (fun c9 => ?_)
    rotate_left
    · exact absurd c9 (by decide)
    refine rn_aload_n dX12_coverAt_14 rfl ?_
    refine rn_iload_n dX12_coverAt_15 rfl ?_
    refine rn_callV dX12_coverAt_16 lmX12_268 ⟨Nat.le_of_ble_eq_true rfl, Nat.le_of_ble_eq_true rfl⟩ (cm_seeks g f hB hV hc) hB.1 rfl rfl (Nat.le_of_ble_eq_true rfl) ?_
    intro r f1 hS
    rw [hq] at hS
    have hMR := hS.MR
    obtain ⟨k1, hms, ⟨h0, rfl, w, hC, hK, e2, e4⟩ | ⟨n, hn, hF, rfl, w, cv1, o1, e2, e4⟩⟩ := id hS
    · have hcn := (fin_split hF0).mp h0
      obtain ⟨-, -, -, ⟨g0, -⟩ | ⟨m, gm, -, -, hM⟩⟩ := id hK
      · omega
      have hmc : m = c := by omega
      subst hmc
      have hie := (sqS_end q m).1
      have hlen := (len_low hQ hie.2).2
      obtain ⟨o1, g26, -, ⟨U, hU, hUe⟩, -⟩ := id hM
      obtain ⟨u, hu, hue⟩ := id hU
      have hL := hC.2.1
      have hl := hQ.2.1.2.1
      have hval : aAt q n0 (nI m) (nI i) = if pC P i = -1 then -9 else plA q.2.1 (sqS q m).2.1 i := by
        rw [aAt, if_neg hx, hqP, if_neg (by rw [hin]; decide), nI_clamp hc, if_pos hcn, nI_clamp (by omega)]
      have loop : ∀ (d j : Nat), (sqS q m).2.1.length - j = d → j ≤ (sqS q m).2.1.length → (∀ i' k, i' < j → (sqS q m).2.1.reverse[i']? = some k → (msk q.2.1 k).testBit i = false) → Wp g MX12_coverAt 29 [some (.ref 75), some (.int (nI m)), some (.int (nI i)), some (.int 0), some (.int (nI j))] [] f1 0 0 (fun r f' => MR f wi f' ∧ ∃ n, FnS q n ∧ r = some (.int (aAt q n (nI m) (nI i)))) := by
        intro d
        induction d using Nat.strongRecOn with
        | ind d ih =>
          intro j hd hj hno
          by_cases hlt : j < (sqS q m).2.1.length
          · obtain ⟨k, hk⟩ : ∃ k, (sqS q m).2.1.reverse[j]? = some k := ⟨_, List.getElem?_eq_getElem (by rw [List.length_reverse]; exact hlt)⟩
            have hkm : k ∈ (sqS q m).2.1 := List.mem_reverse.mp (List.mem_of_getElem? hk)
            have hkl := IVs_get hie.2 k hkm
            have huk : u j = nI k := (hue j (by omega)).trans (hUe j k hk)
            refine rn_iload dX12_coverAt_29 rfl ?_
            refine rn_aload_n dX12_coverAt_31 rfl ?_
            refine rn_get dX12_coverAt_32 lfX12_218 o1 rfl ?_
            rw [g26]
            refine rn_icmp_ge (tgt := 67) dX12_coverAt_35 (by decide) (fun c35 => ?_) (fun c35 => ?_)
            · exact absurd (ge_ex c35 (by omega) (by omega)) (by omega)
            · refine rn_aload_n dX12_coverAt_38 rfl ?_
              refine rn_aload_n dX12_coverAt_39 rfl ?_
              refine rn_get dX12_coverAt_40 lfX12_45 o1 rfl ?_
              refine rn_iload dX12_coverAt_43 rfl ?_
              refine rn_iald dX12_coverAt_45 hu (vp_in_nI (show j < 37 by omega) (by decide)) ?_
              rw [nI_clamp (by omega), huk]
              refine rn_iload_n dX12_coverAt_46 rfl ?_
              refine rn_callV dX12_coverAt_47 lmX12_152 ⟨Nat.le_of_ble_eq_true rfl, Nat.le_of_ble_eq_true rfl⟩ (ch_has g f1 o1 hL hQ.2.1 hkl (show i < 64 by omega)) o1 rfl rfl (Nat.le_of_ble_eq_true rfl) ?_
              rintro _ _ ⟨rfl, rfl⟩
              refine rn_if_eq (tgt := 61) dX12_coverAt_50 (by decide) (fun c50 => ?_) (fun c50 => ?_)
              · refine rn_iinc (v := nI (j + 1)) dX12_coverAt_61 rfl (nI_1 j) (Nat.le_of_ble_eq_true rfl) rfl ?_
                refine rn_goto (tgt := 29) dX12_coverAt_64 (by decide) ?_
                refine ih _ (by omega) (j + 1) rfl (by omega) (fun i' k' h1 h2 => ?_)
                by_cases e : i' = j
                · rw [e, hk] at h2; cases h2; exact bI_0.mp c50
                · exact hno i' k' (by omega) h2
              · refine rn_aload_n dX12_coverAt_53 rfl ?_
                refine rn_get dX12_coverAt_54 lfX12_45 o1 rfl ?_
                refine rn_iload dX12_coverAt_57 rfl ?_
                refine rn_iald dX12_coverAt_59 hu (vp_in_nI (show j < 37 by omega) (by decide)) ?_
                rw [nI_clamp (by omega), huk]
                refine rn_iret dX12_coverAt_60 rfl ?_
                have hb := bI_n0.mp c50
                have hcv := cv_of hie.2 hkm hb
                rw [open_cv h0 (by rw [hqP]; exact hi), hqP, decide_eq_true_eq] at hcv
                exact ⟨hMR, n0, hF0, by rw [hval, if_neg hcv, plA_O, plO_of hie.2 hkm hb]⟩
          · have hje : j = (sqS q m).2.1.length := by omega
            subst hje
            refine rn_iload dX12_coverAt_29 rfl ?_
            refine rn_aload_n dX12_coverAt_31 rfl ?_
            refine rn_get dX12_coverAt_32 lfX12_218 o1 rfl ?_
            rw [g26]
            refine rn_icmp_ge (tgt := 67) dX12_coverAt_35 (by decide) (fun c35 => ?_) (fun c35 => ?_)
            · refine rn_bipush (v := (-9)) dX12_coverAt_67 (by decide) ?_
              refine rn_iret dX12_coverAt_69 rfl ?_
              refine ⟨hMR, n0, hF0, ?_⟩
              rw [hval]
              have hz : (cvS q.2.1 (sqS q m).2.1).testBit i = false := by
                cases hb : (cvS q.2.1 (sqS q m).2.1).testBit i with
                | false => rfl
                | true =>
                  obtain ⟨k, hk⟩ := plO_some hie.2 hb
                  obtain ⟨h1, h2⟩ := plO_mem hk
                  obtain ⟨i', hi'⟩ := List.getElem?_of_mem (List.mem_reverse.mpr h1)
                  rw [hno i' k (rev_lt hi') hi'] at h2
                  cases h2
              rw [open_cv h0 (by rw [hqP]; exact hi), hqP, decide_eq_false_iff_not, Classical.not_not] at hz
              rw [if_pos hz]
            · exact absurd (ge_in c35 (by omega)) (by omega)
      refine rn_istore_n dX12_coverAt_19 (Nat.le_of_ble_eq_true rfl) rfl ?_
      refine rn_iload_n dX12_coverAt_20 rfl ?_
      refine rn_if_ge (tgt := 26) dX12_coverAt_21 (by decide) (fun c21 => ?_) (fun c21 => ?_)
      · refine rn_iconst (v := nI 0) dX12_coverAt_26 (by decide) ?_
        refine rn_istore dX12_coverAt_27 (Nat.le_of_ble_eq_true rfl) rfl ?_
        exact loop _ 0 rfl (by omega) (fun i' k h1 h2 => by omega)
      · exact absurd (show (0 : Int32) ≤ 0 from by decide) c21
    · have hnn := hF.uniq hF0
      subst hnn
      refine rn_istore_n dX12_coverAt_19 (Nat.le_of_ble_eq_true rfl) rfl ?_
      refine rn_iload_n dX12_coverAt_20 rfl ?_
      refine rn_if_ge (tgt := 26) dX12_coverAt_21 (by decide) (fun c21 => ?_) (fun c21 => ?_)
      · exact absurd c21 (Int32.not_le.mpr (why_lt q n))
      · refine rn_iload_n dX12_coverAt_24 rfl ?_
        refine rn_iret dX12_coverAt_25 rfl ?_
        refine ⟨hMR, n, hF, ?_⟩
        rw [show (if (sqS q n).1 = 2 then (-4 : Int32) else -9) = whyN q n from rfl, aAt, if_neg hx, hqP, if_neg (by rw [hin]; decide), nI_clamp hc, if_neg (by omega)]
theorem cm_used (g : GG) (f : Mm) {wi s : Nat → Int32} {cv : Int64} {P : PS} {sh fr co cp : Nat → Nat} (x y : Int32) (hB : MB f wi cv s P) (hV : VP P sh fr co cp) : Ct g MX12_used [.ref 75, .int x, .int y] f 0 0 (fun r f' => MR f wi f' ∧ ∃ n, FnS (qOf P sh fr co cp) n ∧ r = some (.int (aUs (qOf P sh fr co cp) n x y))) := by
  refine Ct.of ok_MX12_used (Nat.le_of_ble_eq_true rfl) ?_
  change Wp g MX12_used 0 [some (.ref 75), some (.int x), some (.int y), none] [] f 0 0 _
  have hQ := hV.Q
  have hqP : (qOf P sh fr co cp).1 = P := rfl
  generalize hq : qOf P sh fr co cp = q at *
  obtain ⟨n0, hF0⟩ := ex_fin q
  have v8 := hV.1.2.2.2.2
  by_cases hx : x < 0
  · refine rn_iload_n dX12_used_0 rfl ?_
    refine rn_if_lt (tgt := 12) dX12_used_1 (by decide) (fun c1 => ?_) (fun c1 => ?_)
    · refine rn_iconst (v := (-1)) dX12_used_12 (by decide) ?_
      refine rn_iret dX12_used_13 rfl ?_
      exact ⟨MR.rf hB, n0, hF0, by rw [aUs, if_pos hx]⟩
    · exact absurd hx c1
  obtain ⟨c, hc, rfl⟩ := nn_nI hx
  refine rn_iload_n dX12_used_0 rfl ?_
  refine rn_if_lt (tgt := 12) dX12_used_1 (by decide) (fun h => absurd h hx) (fun _ => ?_)
  refine rn_aload_n dX12_used_4 rfl ?_
  refine rn_iload_n dX12_used_5 rfl ?_
  refine rn_callV dX12_used_6 lmX12_139 ⟨Nat.le_of_ble_eq_true rfl, Nat.le_of_ble_eq_true rfl⟩ (cm_isPiece g f y hB.1 hB.2.1 hB.2.2.1 hV.1) hB.1 rfl rfl (Nat.le_of_ble_eq_true rfl) ?_
  rintro _ _ ⟨rfl, rfl⟩
  cases hin : inR y (pN P) with
  | false =>
    refine rn_if_ne (tgt := 14) dX12_used_9 (by decide) (fun c9 => ?_) (fun c9 => ?_)
    · exact absurd (show bI false = 0 from rfl) c9
    · refine rn_iconst (v := (-1)) dX12_used_12 (by decide) ?_
      refine rn_iret dX12_used_13 rfl ?_
      exact ⟨MR.rf hB, n0, hF0, by rw [aUs, if_neg hx, hqP, if_pos hin]⟩
  | true =>
    obtain ⟨i, hi, rfl⟩ := (inR_iff (by omega)).mp hin
    refine rn_if_ne (tgt := 14) dX12_used_9 (by decide) (fun c9 => ?_) (fun c9 => ?_)
    rotate_left
    · exact absurd c9 (by decide)
    refine rn_aload_n dX12_used_14 rfl ?_
    refine rn_iload_n dX12_used_15 rfl ?_
    refine rn_callV dX12_used_16 lmX12_268 ⟨Nat.le_of_ble_eq_true rfl, Nat.le_of_ble_eq_true rfl⟩ (cm_seeks g f hB hV hc) hB.1 rfl rfl (Nat.le_of_ble_eq_true rfl) ?_
    intro r f1 hS
    rw [hq] at hS
    have hMR := hS.MR
    obtain ⟨k1, hms, ⟨h0, rfl, w, hC, hK, e2, e4⟩ | ⟨n, hn, hF, rfl, w, cv1, o1, e2, e4⟩⟩ := id hS
    · have hcn := (fin_split hF0).mp h0
      obtain ⟨-, -, -, ⟨g0, -⟩ | ⟨m, gm, -, -, hM⟩⟩ := id hK
      · omega
      have hmc : m = c := by omega
      subst hmc
      have hie := (sqS_end q m).1
      obtain ⟨o1, g26, -, -, -, -, Y, hY, hYe⟩ := id hM
      obtain ⟨yb, hyb, hybe⟩ := id hY
      obtain ⟨⟨s1, hs1, hP1⟩, -, -⟩ := id hC
      have hi' : i < pN q.1 := by rw [hqP]; exact hi
      have hcp := hQ.cp hi'
      have hus := us_le i hie.2
      have ex : s1 (41 + 4 * i + 3) = nI (q.2.2.2 i) := ((hP1.2.2.2.2.2.2 i hi').2.2.2).trans hcp.1
      refine rn_istore_n dX12_used_19 (Nat.le_of_ble_eq_true rfl) rfl ?_
      refine rn_iload_n dX12_used_20 rfl ?_
      refine rn_if_ge (tgt := 28) dX12_used_21 (by decide) (fun c21 => ?_) (fun c21 => ?_)
      · refine rn_aload_n dX12_used_28 rfl ?_
        refine rn_iload_n dX12_used_29 rfl ?_
        refine rn_iconst (v := nI 3) dX12_used_30 (by decide) ?_
        refine rn_callV dX12_used_31 lmX12_95 ⟨Nat.le_of_ble_eq_true rfl, Nat.le_of_ble_eq_true rfl⟩ (cm_its g f1 o1 hs1 (show i < 8 by omega) (show 3 < 4 by decide)) o1 rfl rfl (Nat.le_of_ble_eq_true rfl) ?_
        rintro _ _ ⟨rfl, rfl⟩
        rw [ex]
        refine rn_aload_n dX12_used_34 rfl ?_
        refine rn_get dX12_used_35 lfX12_54 o1 rfl ?_
        refine rn_iload_n dX12_used_38 rfl ?_
        refine rn_iald dX12_used_39 hyb (vp_in_nI (show i < 8 by omega) (by decide)) ?_
        rw [nI_clamp (by omega), hybe i (by omega), hYe i hi']
        refine rn_isub dX12_used_40 ?_
        rw [pk_sub (by omega)]
        refine rn_iret dX12_used_41 rfl ?_
        exact ⟨hMR, n0, hF0, by rw [aUs, if_neg hx, hqP, if_neg (by rw [hin]; decide), nI_clamp hc, if_pos hcn, nI_clamp (by omega), show q.2.2.2 i - (q.2.2.2 i - usS q.2.1 i (sqS q m).2.1) = usS q.2.1 i (sqS q m).2.1 by omega]⟩
      · exact absurd (show (0 : Int32) ≤ 0 from by decide) c21
    · have hnn := hF.uniq hF0
      subst hnn
      refine rn_istore_n dX12_used_19 (Nat.le_of_ble_eq_true rfl) rfl ?_
      refine rn_iload_n dX12_used_20 rfl ?_
      refine rn_if_ge (tgt := 28) dX12_used_21 (by decide) (fun c21 => ?_) (fun c21 => ?_)
      · exact absurd c21 (Int32.not_le.mpr (why_lt q n))
      · refine rn_iload_n dX12_used_24 rfl ?_
        refine rn_goto (tgt := 41) dX12_used_25 (by decide) ?_
        refine rn_iret dX12_used_41 rfl ?_
        refine ⟨hMR, n, hF, ?_⟩
        rw [show (if (sqS q n).1 = 2 then (-4 : Int32) else -9) = whyN q n from rfl, aUs, if_neg hx, hqP, if_neg (by rw [hin]; decide), nI_clamp hc, if_neg (by omega)]
