def MRf (f f' : Mm) : Prop := ∀ j, j ≠ 75 → (j < 79 ∨ (84 < j ∧ j < 87) ∨ 90 < j) → f' j = f j
theorem MRf.go {f f1 f2 : Mm} (h : MRf f f1) (h2 : FRm f1 f2) : MRf f f2 := fun j a b => (h2 j a (by omega)).trans (h j a b)
theorem MKs.ent {f : Mm} {q : SQ} {n : Nat} {w : Nat → Int32} (h : MKs f q n w) : (∃ cv, f 75 = some (MO w cv)) ∧ MKar f := by
  obtain ⟨-, -, -, ⟨-, -, h⟩ | ⟨m, -, -, -, h⟩⟩ := h
  · exact ⟨⟨_, h.1⟩, h.2.2.2.ar⟩
  · exact ⟨⟨_, h.1⟩, h.2.2.2.ar⟩
theorem MSc.of {f f' : Mm} (h : MSc f) (e : MRf f f') (h1 : ∃ F, AR f' 79 9 F) (h2 : ∃ l, PLm f' l) (h3 : MKar f') : MSc f' := by
  obtain ⟨-, -, -, ⟨L, h4⟩, ⟨st, h5⟩, ⟨B, h6⟩, G, h7⟩ := h
  exact ⟨h1, h2, h3, ⟨L, h4.keep (e 91 (by omega) (by omega))⟩, ⟨st, h5.keep (e 92 (by omega) (by omega))⟩, ⟨B, h6.keep (e 85 (by omega) (by omega))⟩, G, h7.keep (e 86 (by omega) (by omega))⟩
theorem MRf.fr {f f' : Mm} (h : MRf f f') : ∀ j, (j < 75 ∨ (75 < j ∧ j < 79) ∨ 92 < j) → f' j = f j := fun j hj => h j (by omega) (by omega)
def SEp (f : Mm) (q : SQ) (wi : Nat → Int32) (f' : Mm) : Prop := MRf f f' ∧ MSc f' ∧ ∃ n w cv, f' 75 = some (MO w cv) ∧ w 2 = wi 2 ∧ w 4 = wi 4 ∧ FnS q n ∧ w 30 = nI (sqS q n).2.2.2 ∧ w 31 = nI n ∧ w 32 = bI (decide ((sqS q n).1 = 2)) ∧ (n ≠ 0 → w 35 = nI (mnS q n))
theorem cm_searches (g : GG) (f : Mm) {wi s : Nat → Int32} {cv : Int64} {P : PS} {sh fr co cp : Nat → Nat} (hB : MB f wi cv s P) (hV : VP P sh fr co cp) : Ct g MX12_searches [.ref 75] f 0 0 (fun r f' => r = none ∧ SEp f (qOf P sh fr co cp) wi f') := by
  refine Ct.of ok_MX12_searches (Nat.le_of_ble_eq_true rfl) ?_
  change Wp g MX12_searches 0 [some (.ref 75)] [] f 0 0 _
  have hQ := hV.Q
  generalize hq : qOf P sh fr co cp = q at *
  have loop : ∀ (e n : Nat) (f1 : Mm) (w : Nat → Int32), meS q n = e → (∀ i, i < n → (sqS q i).1 = 0) → MRf f f1 → (∃ F, AR f1 79 9 F) → CXm f1 q w → MKs f1 q n w → w 2 = wi 2 → w 4 = wi 4 → (n ≠ 0 → w 35 = nI (mnS q n)) → Wp g MX12_searches 4 [some (.ref 75)] [] f1 0 0 (fun r f' => r = none ∧ SEp f q wi f') := by
    intro e
    induction e using Nat.strongRecOn with
    | ind e ih =>
      intro n f1 w he hn hk hF hC hS h2 h4 h35
      have hn2 := fin_le hn
      obtain ⟨⟨cv1, o1⟩, -⟩ := hS.ent
      refine rn_aload_n dX12_searches_4 rfl ?_
      refine rn_callV dX12_searches_5 lmX12_259 ⟨Nat.le_of_ble_eq_true rfl, Nat.le_of_ble_eq_true rfl⟩ (cm_goesOn g f1 hC hQ hS) o1 rfl rfl (Nat.le_of_ble_eq_true rfl) ?_
      rintro _ f2 ⟨k2, ⟨h0, rfl, w2, hw, hS2⟩ | ⟨h0, rfl, w2, cv2, hw, o2, g31, g32, g30, har⟩⟩
      · obtain ⟨g31, g32, g33, ⟨g0, -⟩ | ⟨m, gm, -, g34, hK⟩⟩ := id hS2
        · omega
        have hmn : m = n := by omega
        subst hmn
        have hlv := (len_low hQ (sqS_end q m).1.2).2
        have hml := mnS_le hQ m
        have o2 := hK.1
        have g26 := hK.2.1
        have g35 : w2 35 = w 35 := hw 35 (Or.inr rfl)
        have hF2 : ∃ F, AR f2 79 9 F := by
          obtain ⟨F, hF⟩ := hF
          exact ⟨F, hF.keep (k2 79 (by omega) (by omega))⟩
        have nx : ∀ v, v = nI (mnS q (m + 1)) → Wp g MX12_searches 42 [some (.ref 75)] [.int v, .ref 75] f2 0 0 (fun r f' => r = none ∧ SEp f q wi f') := fun v hv => by
          subst hv
          refine rn_put dX12_searches_42 lpX12_262 o2 rfl rfl (Nat.le_of_ble_eq_true rfl) ?_
          rw [ms35]
          refine Wp.gen (e := MO (upd w2 35 (nI (mnS q (m + 1)))) (lN (cvS q.2.1 (sqS q m).2.1))) (fun f3 k3 o3 => ?_)
          refine rn_goto (tgt := 4) dX12_searches_45 (by decide) ?_
          obtain ⟨F, hF3⟩ := hF2
          refine ih (meS q (m + 1)) (by have := meS_lt h0; omega) (m + 1) f3 (upd w2 35 (nI (mnS q (m + 1)))) rfl (fun i hi => ?_) (fun j a b => (k3 j a).trans (hk.go k2 j a b)) ⟨F, hF3.keep (k3 79 (by decide))⟩ (hC.keep (fun k a b => (k3 k (by omega)).trans (k2 k (by omega) (by omega))) ((upd_ne (by decide)).trans (hw 12 (by omega)))) ⟨(upd_ne (by decide)).trans g31, (upd_ne (by decide)).trans g32, (upd_ne (by decide)).trans g33, Or.inr ⟨m, rfl, h0, (upd_ne (by decide)).trans g34, o3, (upd_ne (by decide)).trans g26, (upd_ne (by decide)).trans hK.2.2.1, hK.2.2.2.keep (fun k a b => k3 k (by omega))⟩⟩ ((upd_ne (by decide)).trans ((hw 2 (by omega)).trans h2)) ((upd_ne (by decide)).trans ((hw 4 (by omega)).trans h4)) (fun _ => upd_eq _ _ _)
          by_cases e : i = m
          · rw [e]; exact h0
          · exact hn i (by omega)
        refine rn_if_eq (tgt := 48) dX12_searches_8 (by decide) (fun c8 => ?_) (fun c8 => ?_)
        · exact absurd c8 (by decide)
        · refine rn_aload_n dX12_searches_11 rfl ?_
          refine rn_aload_n dX12_searches_12 rfl ?_
          refine rn_get dX12_searches_13 lfX12_224 o2 rfl ?_
          refine rn_iconst (v := nI 1) dX12_searches_16 (by decide) ?_
          rw [g31]
          refine rn_icmp_eq (tgt := 31) dX12_searches_17 (by decide) (fun c17 => ?_) (fun c17 => ?_)
          · refine rn_aload_n dX12_searches_31 rfl ?_
            refine rn_get dX12_searches_32 lfX12_218 o2 rfl ?_
            refine rn_goto (tgt := 42) dX12_searches_35 (by decide) ?_
            have hm0 : m + 1 = 1 := (nI_eq (b := 1) (by omega) (by decide)).mp c17
            rw [g26]
            exact nx _ (by rw [mnS, if_pos (Or.inl (by omega))])
          · refine rn_aload_n dX12_searches_20 rfl ?_
            refine rn_get dX12_searches_21 lfX12_218 o2 rfl ?_
            refine rn_aload_n dX12_searches_24 rfl ?_
            refine rn_get dX12_searches_25 lfX12_262 o2 rfl ?_
            rw [g26, g35]
            refine rn_icmp_ge (tgt := 38) dX12_searches_28 (by decide) (fun c28 => ?_) (fun c28 => ?_)
            · refine rn_aload_n dX12_searches_38 rfl ?_
              refine rn_get dX12_searches_39 lfX12_262 o2 rfl ?_
              have hm0 : m ≠ 0 := fun h => c17 (by rw [h])
              rw [h35 hm0] at c28
              have hge := ge_ex c28 (by omega) (by omega)
              rw [g35, h35 hm0]
              exact nx _ (by rw [mnS, if_neg (by omega)])
            · refine rn_aload_n dX12_searches_31 rfl ?_
              refine rn_get dX12_searches_32 lfX12_218 o2 rfl ?_
              refine rn_goto (tgt := 42) dX12_searches_35 (by decide) ?_
              have hm0 : m ≠ 0 := fun h => c17 (by rw [h])
              rw [h35 hm0] at c28
              have hlt := ge_in c28 (by omega)
              rw [g26]
              exact nx _ (by rw [mnS, if_pos (Or.inr hlt)])
      · obtain ⟨F, hF⟩ := hF
        refine rn_if_eq (tgt := 48) dX12_searches_8 (by decide) (fun c8 => ?_) (fun c8 => ?_)
        · refine rn_vret dX12_searches_48 rfl ?_
          exact ⟨rfl, hk.go k2, hB.2.2.2.of (hk.go k2) ⟨F, hF.keep (k2 79 (by omega) (by omega))⟩ ⟨_, hC.2.1.keep (fun k a b => k2 k (by omega) (by omega))⟩ har, n, w2, cv2, o2, (hw 2 (by omega)).trans h2, (hw 4 (by omega)).trans h4, ⟨hn, h0⟩, g30, g31, g32, fun hn0 => (hw 35 (Or.inr rfl)).trans (h35 hn0)⟩
        · exact absurd (show (0 : Int32) = 0 from rfl) c8
  refine rn_aload_n dX12_searches_0 rfl ?_
  refine rn_callV dX12_searches_1 lmX12_256 ⟨Nat.le_of_ble_eq_true rfl, Nat.le_of_ble_eq_true rfl⟩ (cm_begins g f hB hV) hB.1 rfl rfl (Nat.le_of_ble_eq_true rfl) ?_
  rintro _ f1 ⟨rfl, k1, hF1, w, hC, hS, h2, h4⟩
  rw [hq] at hC hS
  exact loop _ 0 f1 w rfl (fun i hi => by omega) (fun j a b => k1 j a (by omega)) hF1 hC hS h2 h4 (fun h => absurd rfl h)
def SKp (f : Mm) (q : SQ) (c : Nat) (wi : Nat → Int32) (r : Option Value) (f' : Mm) : Prop := MRf f f' ∧ MSc f' ∧ (((sqS q c).1 = 0 ∧ r = some (.int 0) ∧ ∃ w, CXm f' q w ∧ MKs f' q (c + 1) w ∧ w 2 = wi 2 ∧ w 4 = wi 4) ∨ ∃ n, n ≤ c ∧ FnS q n ∧ r = some (.int (if (sqS q n).1 = 2 then -4 else -9)) ∧ ∃ w cv, f' 75 = some (MO w cv) ∧ w 2 = wi 2 ∧ w 4 = wi 4)
theorem cm_seeks (g : GG) (f : Mm) {wi s : Nat → Int32} {cv : Int64} {P : PS} {sh fr co cp : Nat → Nat} {c : Nat} (hB : MB f wi cv s P) (hV : VP P sh fr co cp) (hc : c < 2 ^ 31) : Ct g MX12_seeks [.ref 75, .int (nI c)] f 0 0 (fun r f' => SKp f (qOf P sh fr co cp) c wi r f') := by
  refine Ct.of ok_MX12_seeks (Nat.le_of_ble_eq_true rfl) ?_
  change Wp g MX12_seeks 0 [some (.ref 75), some (.int (nI c)), none] [] f 0 0 _
  have hQ := hV.Q
  generalize hq : qOf P sh fr co cp = q at *
  have loop : ∀ (e n : Nat) (f1 : Mm) (w : Nat → Int32), meS q n = e → (∀ i, i < n → (sqS q i).1 = 0) → n ≤ c + 1 → MRf f f1 → (∃ F, AR f1 79 9 F) → CXm f1 q w → MKs f1 q n w → w 2 = wi 2 → w 4 = wi 4 → Wp g MX12_seeks 6 [some (.ref 75), some (.int (nI c)), some (.int (nI 1))] [] f1 0 0 (fun r f' => SKp f q c wi r f') := by
    intro e
    induction e using Nat.strongRecOn with
    | ind e ih =>
      intro n f1 w he hn hnc hk hF hC hS h2 h4
      have hn2 := fin_le hn
      obtain ⟨⟨cv1, o1⟩, har1⟩ := hS.ent
      have g31 := hS.1
      by_cases hlt : n ≤ c
      · have h19 : Wp g MX12_seeks 19 [some (.ref 75), some (.int (nI c)), some (.int (nI 1))] [.ref 75] f1 0 0 (fun r f' => SKp f q c wi r f') := by
          refine rn_callV dX12_seeks_19 lmX12_259 ⟨Nat.le_of_ble_eq_true rfl, Nat.le_of_ble_eq_true rfl⟩ (cm_goesOn g f1 hC hQ hS) o1 rfl rfl (Nat.le_of_ble_eq_true rfl) ?_
          rintro _ f2 ⟨k2, ⟨h0, rfl, w2, hw, hS2⟩ | ⟨h0, rfl, w2, cv2, hw, o2, g31, g32, g30, har⟩⟩
          · obtain ⟨F, hF⟩ := hF
            refine rn_istore_n dX12_seeks_22 (Nat.le_of_ble_eq_true rfl) rfl ?_
            refine rn_goto (tgt := 6) dX12_seeks_23 (by decide) ?_
            refine ih (meS q (n + 1)) (by have := meS_lt h0; omega) (n + 1) f2 w2 rfl (fun i hi => ?_) (by omega) (hk.go k2) ⟨F, hF.keep (k2 79 (by omega) (by omega))⟩ (hC.keep (fun k a b => k2 k (by omega) (by omega)) (hw 12 (by omega))) hS2 ((hw 2 (by omega)).trans h2) ((hw 4 (by omega)).trans h4)
            by_cases e : i = n
            · rw [e]; exact h0
            · exact hn i (by omega)
          · obtain ⟨F, hF⟩ := hF
            have hms := hB.2.2.2.of (hk.go k2) ⟨F, hF.keep (k2 79 (by omega) (by omega))⟩ ⟨_, hC.2.1.keep (fun k a b => k2 k (by omega) (by omega))⟩ har
            refine rn_istore_n dX12_seeks_22 (Nat.le_of_ble_eq_true rfl) rfl ?_
            refine rn_goto (tgt := 6) dX12_seeks_23 (by decide) ?_
            refine rn_iload_n dX12_seeks_6 rfl ?_
            refine rn_if_eq (tgt := 26) dX12_seeks_7 (by decide) (fun c7 => ?_) (fun c7 => ?_)
            · refine rn_iload_n dX12_seeks_26 rfl ?_
              refine rn_if_eq (tgt := 34) dX12_seeks_27 (by decide) (fun c27 => ?_) (fun c27 => ?_)
              · refine rn_aload_n dX12_seeks_34 rfl ?_
                refine rn_get dX12_seeks_35 lfX12_227 o2 rfl ?_
                rw [g32]
                refine rn_if_eq (tgt := 46) dX12_seeks_38 (by decide) (fun c38 => ?_) (fun c38 => ?_)
                · refine rn_bipush (v := (-9)) dX12_seeks_46 (by decide) ?_
                  refine rn_iret dX12_seeks_48 rfl ?_
                  exact ⟨hk.go k2, hms, Or.inr ⟨n, hlt, ⟨hn, h0⟩, by rw [if_neg (of_decide_eq_false (bI_0.mp c38))], w2, cv2, o2, (hw 2 (by omega)).trans h2, (hw 4 (by omega)).trans h4⟩⟩
                · refine rn_bipush (v := (-4)) dX12_seeks_41 (by decide) ?_
                  refine rn_goto (tgt := 48) dX12_seeks_43 (by decide) ?_
                  refine rn_iret dX12_seeks_48 rfl ?_
                  exact ⟨hk.go k2, hms, Or.inr ⟨n, hlt, ⟨hn, h0⟩, by rw [if_pos (of_decide_eq_true (bI_n0.mp c38))], w2, cv2, o2, (hw 2 (by omega)).trans h2, (hw 4 (by omega)).trans h4⟩⟩
              · exact absurd (show (0 : Int32) = 0 from rfl) c27
            · exact absurd (show (0 : Int32) = 0 from rfl) c7
        refine rn_iload_n dX12_seeks_6 rfl ?_
        refine rn_if_eq (tgt := 26) dX12_seeks_7 (by decide) (fun c7 => ?_) (fun c7 => ?_)
        · exact absurd c7 (by decide)
        · refine rn_aload_n dX12_seeks_10 rfl ?_
          refine rn_get dX12_seeks_11 lfX12_224 o1 rfl ?_
          refine rn_iload_n dX12_seeks_14 rfl ?_
          rw [g31]
          refine rn_icmp_gt (tgt := 26) dX12_seeks_15 (by decide) (fun c15 => ?_) (fun c15 => ?_)
          · exact absurd ((nI_ltI hc (by omega)).mp c15) (by omega)
          · refine rn_aload_n dX12_seeks_18 rfl ?_
            exact h19
      · have hne : n = c + 1 := by omega
        subst hne
        refine rn_iload_n dX12_seeks_6 rfl ?_
        refine rn_if_eq (tgt := 26) dX12_seeks_7 (by decide) (fun c7 => ?_) (fun c7 => ?_)
        · refine rn_iload_n dX12_seeks_26 rfl ?_
          refine rn_if_eq (tgt := 34) dX12_seeks_27 (by decide) (fun c27 => ?_) (fun c27 => ?_)
          · exact absurd c7 (by decide)
          · refine rn_iconst (v := nI 0) dX12_seeks_30 (by decide) ?_
            refine rn_goto (tgt := 48) dX12_seeks_31 (by decide) ?_
            refine rn_iret dX12_seeks_48 rfl ?_
            exact absurd c7 (by decide)
        · refine rn_aload_n dX12_seeks_10 rfl ?_
          refine rn_get dX12_seeks_11 lfX12_224 o1 rfl ?_
          refine rn_iload_n dX12_seeks_14 rfl ?_
          rw [g31]
          refine rn_icmp_gt (tgt := 26) dX12_seeks_15 (by decide) (fun c15 => ?_) (fun c15 => ?_)
          · refine rn_iload_n dX12_seeks_26 rfl ?_
            refine rn_if_eq (tgt := 34) dX12_seeks_27 (by decide) (fun c27 => ?_) (fun c27 => ?_)
            · exact absurd c27 (by decide)
            · refine rn_iconst (v := nI 0) dX12_seeks_30 (by decide) ?_
              refine rn_goto (tgt := 48) dX12_seeks_31 (by decide) ?_
              refine rn_iret dX12_seeks_48 rfl ?_
              exact ⟨hk, hB.2.2.2.of hk hF ⟨_, hC.2.1⟩ har1, Or.inl ⟨hn c (by omega), rfl, w, hC, hS, h2, h4⟩⟩
          · exact absurd (nI_lt (show c < c + 1 by omega) (by omega)) c15
  refine rn_aload_n dX12_seeks_0 rfl ?_
  refine rn_callV dX12_seeks_1 lmX12_256 ⟨Nat.le_of_ble_eq_true rfl, Nat.le_of_ble_eq_true rfl⟩ (cm_begins g f hB hV) hB.1 rfl rfl (Nat.le_of_ble_eq_true rfl) ?_
  rintro _ f1 ⟨rfl, k1, hF1, w, hC, hS, h2, h4⟩
  rw [hq] at hC hS
  refine rn_iconst (v := nI 1) dX12_seeks_4 (by decide) ?_
  refine rn_istore_n dX12_seeks_5 (Nat.le_of_ble_eq_true rfl) rfl ?_
  exact loop _ 0 f1 w rfl (fun i hi => by omega) (by omega) (fun j a b => k1 j a (by omega)) hF1 hC hS h2 h4
