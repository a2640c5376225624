noncomputable def aAl (q : SQ) (n : Nat) (x y : Int32) : Int32 := if x < 0 then -1 else if y < 0 then -1 else if x.toNatClampNeg < n ∧ y.toNatClampNeg < n then @ite Int32 (alk q (sqS q x.toNatClampNeg).2.1 (sqS q y.toNatClampNeg).2.1) (Classical.propDecidable _) 1 0 else whyN q n
theorem aAl_b {q : SQ} {n c d : Nat} {b : Bool} (hc : c < 2 ^ 31) (hd : d < 2 ^ 31) (h1 : c < n) (h2 : d < n) (hb : b = true ↔ alk q (sqS q c).2.1 (sqS q d).2.1) : bI b = aAl q n (nI c) (nI d) := by
  rw [aAl, if_neg (nI_pos hc), if_neg (nI_pos hd), nI_clamp hc, nI_clamp hd, if_pos ⟨h1, h2⟩]
  cases b with
  | true => rw [if_pos (hb.mp rfl)]; rfl
  | false => rw [if_neg (fun h => by have := hb.mpr h; cases this)]; rfl
theorem cm_alike (g : GG) (f : Mm) {wi s : Nat → Int32} {cv : Int64} {P : PS} {sh fr co cp : Nat → Nat} (x y : Int32) (hB : MB f wi cv s P) (hV : VP P sh fr co cp) : Ct g MX12_alike [.ref 75, .int x, .int y] f 0 0 (fun r f' => MR f wi f' ∧ ∃ n, FnS (qOf P sh fr co cp) n ∧ r = some (.int (aAl (qOf P sh fr co cp) n x y))) := by
  refine Ct.of ok_MX12_alike (Nat.le_of_ble_eq_true rfl) ?_
  change Wp g MX12_alike 0 [some (.ref 75), some (.int x), some (.int y), none] [] f 0 0 _
  have hQ := hV.Q
  generalize hq : qOf P sh fr co cp = q at *
  obtain ⟨n0, hF0⟩ := ex_fin q
  by_cases hx : x < 0
  · refine rn_iload_n dX12_alike_0 rfl ?_
    refine rn_if_lt (tgt := 8) dX12_alike_1 (by decide) (fun c1 => ?_) (fun c1 => ?_)
    · refine rn_iconst (v := (-1)) dX12_alike_8 (by decide) ?_
      refine rn_iret dX12_alike_9 rfl ?_
      exact ⟨MR.rf hB, n0, hF0, by rw [aAl, if_pos hx]⟩
    · exact absurd hx c1
  by_cases hy : y < 0
  · refine rn_iload_n dX12_alike_0 rfl ?_
    refine rn_if_lt (tgt := 8) dX12_alike_1 (by decide) (fun c1 => ?_) (fun c1 => ?_)
    · refine rn_iconst (v := (-1)) dX12_alike_8 (by decide) ?_
      refine rn_iret dX12_alike_9 rfl ?_
      exact absurd c1 hx
    · refine rn_iload_n dX12_alike_4 rfl ?_
      refine rn_if_ge (tgt := 10) dX12_alike_5 (by decide) (fun c5 => ?_) (fun c5 => ?_)
      · exact absurd c5 (Int32.not_le.mpr hy)
      · refine rn_iconst (v := (-1)) dX12_alike_8 (by decide) ?_
        refine rn_iret dX12_alike_9 rfl ?_
        exact ⟨MR.rf hB, n0, hF0, by rw [aAl, if_neg hx, if_pos hy]⟩
  obtain ⟨c, hc, rfl⟩ := nn_nI hx
  obtain ⟨d, hd, rfl⟩ := nn_nI hy
  have at21 : ∀ M m : Nat, M < 2 ^ 31 → m ≤ M → ((c ≤ d ∧ m = c ∧ M = d) ∨ (d < c ∧ m = d ∧ M = c)) → Wp g MX12_alike 21 [some (.ref 75), some (.int (nI c)), some (.int (nI d)), none] [.int (nI M), .ref 75] f 0 0 (fun r f' => MR f wi f' ∧ ∃ n, FnS q n ∧ r = some (.int (aAl q n (nI c) (nI d)))) := fun M m hM hmM hor => by
    refine rn_callV dX12_alike_21 lmX12_268 ⟨Nat.le_of_ble_eq_true rfl, Nat.le_of_ble_eq_true rfl⟩ (cm_seeks g f hB hV hM) hB.1 rfl rfl (Nat.le_of_ble_eq_true rfl) ?_
    intro r f1 hS
    rw [hq] at hS
    obtain ⟨k1, hms, ⟨h0, rfl, w, hC, hK, e2, e4⟩ | ⟨n, hn, hF, rfl, w, cv1, o1, e2, e4⟩⟩ := id hS
    · have hMn := (fin_split hF0).mp h0
      obtain ⟨-, -, -, ⟨g0, -⟩ | ⟨M', gm, -, -, hKM⟩⟩ := id hK
      · omega
      have hmc : M' = M := by omega
      subst hmc
      have o1 := hKM.1
      have hie := (sqS_end q M').1
      obtain ⟨L, hL⟩ := hms.2.2.2.1
      have at47 : ∀ (f2 : Mm) (L2 : Nat → Int32), (∀ j, j ≠ 91 → f2 j = f1 j) → AR f2 91 32400 L2 → (∀ s, okS q s → LBp q s (sqS q M').2.1 (324 * 1 + 36 * s) L2) → Wp g MX12_alike 47 [some (.ref 75), some (.int (nI c)), some (.int (nI d)), some (.int 0)] [.int (nI m), .ref 75] f2 0 0 (fun r f' => MR f wi f' ∧ ∃ n, FnS q n ∧ r = some (.int (aAl q n (nI c) (nI d)))) := fun f2 L2 k2 hL2 hB2 => by
        have o2 := (k2 75 (by decide)).trans o1
        have hMB : MB f2 w (lN (cvS q.2.1 (sqS q M').2.1)) s P := ⟨o2, (hB.2.1.keep (k1 76 (by omega) (by omega))).keep (k2 76 (by omega)), hB.2.2.1, hms.lab k2 ⟨L2, hL2⟩⟩
        refine rn_callV dX12_alike_47 lmX12_268 ⟨Nat.le_of_ble_eq_true rfl, Nat.le_of_ble_eq_true rfl⟩ (cm_seeks g f2 hMB hV (show m < 2 ^ 31 by omega)) o2 rfl rfl (Nat.le_of_ble_eq_true rfl) ?_
        intro r f3 hS3
        rw [hq] at hS3
        obtain ⟨k3, hms3, ⟨h03, rfl, w3, hC3, hK3, g2, g4⟩ | ⟨n, hn, hF, -⟩⟩ := id hS3
        · obtain ⟨-, -, -, ⟨g0, -⟩ | ⟨m', gm', -, -, hKm⟩⟩ := id hK3
          · omega
          have hmm : m' = m := by omega
          subst hmm
          have o3 := hKm.1
          have hie3 := (sqS_end q m').1
          have hL3 := hL2.keep (k3 91 (by omega) (by omega))
          have hfin : ∀ (f4 : Mm) (L4 : Nat → Int32), (∀ j, j ≠ 91 → f4 j = f3 j) → AR f4 91 32400 L4 → MR f wi f4 := fun f4 L4 k4 hL4 => ⟨fun j hj => (k4 j (by omega)).trans ((k3 j (by omega) (by omega)).trans ((k2 j (by omega)).trans (k1.fr j hj))), hms3.lab k4 ⟨L4, hL4⟩, w3, _, (k4 75 (by decide)).trans o3, g2.trans e2, g4.trans e4⟩
          have h66 : ∀ (f4 : Mm) (L4 : Nat → Int32) (b : Bool), (∀ j, j ≠ 91 → f4 j = f3 j) → AR f4 91 32400 L4 → (b = true ↔ alk q (sqS q m').2.1 (sqS q M').2.1) → Wp g MX12_alike 66 [some (.ref 75), some (.int (nI c)), some (.int (nI d)), some (.int 0)] [.int (bI b)] f4 0 0 (fun r f' => MR f wi f' ∧ ∃ n, FnS q n ∧ r = some (.int (aAl q n (nI c) (nI d)))) := fun f4 L4 b k4 hL4 hb => by
            have hval : bI b = aAl q n0 (nI c) (nI d) := by
              rcases hor with ⟨h1, h2, h3⟩ | ⟨h1, h2, h3⟩
              · refine aAl_b hc hd (by omega) (by omega) ?_
                rw [← h2, ← h3]; exact hb
              · refine aAl_b hc hd (by omega) (by omega) ?_
                rw [← h2, ← h3]
                exact hb.trans ⟨fun h => alk_symm hQ (sq_cv h03) (sq_cv h0) h, fun h => alk_symm hQ (sq_cv h0) (sq_cv h03) h⟩
            cases b with
            | true =>
              refine rn_if_eq (tgt := 73) dX12_alike_66 (by decide) (fun c66 => ?_) (fun c66 => ?_)
              · exact absurd c66 (by decide)
              · refine rn_iconst (v := nI 1) dX12_alike_69 (by decide) ?_
                refine rn_goto (tgt := 74) dX12_alike_70 (by decide) ?_
                refine rn_iret dX12_alike_74 rfl ?_
                exact ⟨hfin f4 L4 k4 hL4, n0, hF0, by rw [← hval]; rfl⟩
            | false =>
              refine rn_if_eq (tgt := 73) dX12_alike_66 (by decide) (fun c66 => ?_) (fun c66 => ?_)
              · refine rn_iconst (v := nI 0) dX12_alike_73 (by decide) ?_
                refine rn_iret dX12_alike_74 rfl ?_
                exact ⟨hfin f4 L4 k4 hL4, n0, hF0, by rw [← hval]; rfl⟩
              · exact absurd (show bI false = 0 from rfl) c66
          refine rn_istore_n dX12_alike_50 (Nat.le_of_ble_eq_true rfl) rfl ?_
          refine rn_aload_n dX12_alike_51 rfl ?_
          refine rn_iconst (v := nI 0) dX12_alike_52 (by decide) ?_
          refine rn_callV dX12_alike_53 lmX12_277 ⟨Nat.le_of_ble_eq_true rfl, Nat.le_of_ble_eq_true rfl⟩ (cm_labelsAll g f3 hKm hC3 hQ hie3.2 hL3 (show 0 < 100 by decide)) o3 rfl rfl (Nat.le_of_ble_eq_true rfl) ?_
          rintro _ f4 ⟨rfl, k4, L4, hL4, hB4, hO4⟩
          have hBM : ∀ s, okS q s → LBp q s (sqS q M').2.1 (324 * 1 + 36 * s) L4 := fun s hs c k hk => by
            rw [hO4 _ (by omega)]
            exact hB2 s hs c k hk
          refine rn_iload_n dX12_alike_56 rfl ?_
          refine rn_if_ne (tgt := 73) dX12_alike_57 (by decide) (fun c57 => ?_) (fun c57 => ?_)
          · exact absurd (show (0 : Int32) = 0 from rfl) c57
          · refine rn_aload_n dX12_alike_60 rfl ?_
            refine rn_iconst (v := nI 0) dX12_alike_61 (by decide) ?_
            refine rn_iconst (v := nI 1) dX12_alike_62 (by decide) ?_
            refine rn_callV dX12_alike_63 lmX12_280 ⟨Nat.le_of_ble_eq_true rfl, Nat.le_of_ble_eq_true rfl⟩ (cm_areAlike g f4 (n1 := 0) (n2 := 1) ((k4 75 (by decide)).trans o3) (hC3.keep (fun k a b => k4 k (by omega)) rfl) hQ hL4 (by decide) (by decide) (sq_cv h03) (sq_cv h0) hB4 hBM) ((k4 75 (by decide)).trans o3) rfl rfl (Nat.le_of_ble_eq_true rfl) ?_
            rintro _ _ ⟨rfl, b, rfl, hb⟩
            exact h66 f4 L4 b k4 hL4 hb
        · exact absurd (sqS_all h0 n (by omega)) hF.2
      refine rn_istore_n dX12_alike_24 (Nat.le_of_ble_eq_true rfl) rfl ?_
      refine rn_iload_n dX12_alike_25 rfl ?_
      refine rn_if_ge (tgt := 31) dX12_alike_26 (by decide) (fun c26 => ?_) (fun c26 => ?_)
      · refine rn_aload_n dX12_alike_31 rfl ?_
        refine rn_iconst (v := nI 1) dX12_alike_32 (by decide) ?_
        refine rn_callV dX12_alike_33 lmX12_277 ⟨Nat.le_of_ble_eq_true rfl, Nat.le_of_ble_eq_true rfl⟩ (cm_labelsAll g f1 hKM hC hQ hie.2 hL (show 1 < 100 by decide)) o1 rfl rfl (Nat.le_of_ble_eq_true rfl) ?_
        rintro _ f2 ⟨rfl, k2, L2, hL2, hB2, hO2⟩
        refine rn_aload_n dX12_alike_36 rfl ?_
        refine rn_iload_n dX12_alike_37 rfl ?_
        refine rn_iload_n dX12_alike_38 rfl ?_
        refine rn_icmp_le (tgt := 46) dX12_alike_39 (by decide) (fun c39 => ?_) (fun c39 => ?_)
        · refine rn_iload_n dX12_alike_46 rfl ?_
          have hle : c ≤ d := (nI_leI hc hd).mp c39
          have hmc : m = c := by omega
          rw [← hmc]
          rw [← hmc] at at47
          exact at47 f2 L2 k2 hL2 hB2
        · refine rn_iload_n dX12_alike_42 rfl ?_
          refine rn_goto (tgt := 47) dX12_alike_43 (by decide) ?_
          have hgt : ¬ c ≤ d := fun h => c39 (nI_le h hd)
          have hmc : m = d := by omega
          rw [← hmc]
          rw [← hmc] at at47
          exact at47 f2 L2 k2 hL2 hB2
      · exact absurd (show (0 : Int32) ≤ 0 from by decide) c26
    · have hnn := hF.uniq hF0
      subst hnn
      refine rn_istore_n dX12_alike_24 (Nat.le_of_ble_eq_true rfl) rfl ?_
      refine rn_iload_n dX12_alike_25 rfl ?_
      refine rn_if_ge (tgt := 31) dX12_alike_26 (by decide) (fun c26 => ?_) (fun c26 => ?_)
      · exact absurd c26 (Int32.not_le.mpr (why_lt q n))
      · refine rn_iload_n dX12_alike_29 rfl ?_
        refine rn_iret dX12_alike_30 rfl ?_
        refine ⟨hS.MR, n, hF, ?_⟩
        rw [show (if (sqS q n).1 = 2 then (-4 : Int32) else -9) = whyN q n from rfl, aAl, if_neg hx, if_neg hy, nI_clamp hc, nI_clamp hd, if_neg (by omega)]
  refine rn_iload_n dX12_alike_0 rfl ?_
  refine rn_if_lt (tgt := 8) dX12_alike_1 (by decide) (fun c1 => ?_) (fun c1 => ?_)
  · exact absurd c1 hx
  · refine rn_iload_n dX12_alike_4 rfl ?_
    refine rn_if_ge (tgt := 10) dX12_alike_5 (by decide) (fun c5 => ?_) (fun c5 => ?_)
    · refine rn_aload_n dX12_alike_10 rfl ?_
      refine rn_iload_n dX12_alike_11 rfl ?_
      refine rn_iload_n dX12_alike_12 rfl ?_
      refine rn_icmp_le (tgt := 20) dX12_alike_13 (by decide) (fun c13 => ?_) (fun c13 => ?_)
      · refine rn_iload_n dX12_alike_20 rfl ?_
        have hle : c ≤ d := (nI_leI hc hd).mp c13
        exact at21 d c hd hle (Or.inl ⟨hle, rfl, rfl⟩)
      · refine rn_iload_n dX12_alike_16 rfl ?_
        refine rn_goto (tgt := 21) dX12_alike_17 (by decide) ?_
        have hgt : ¬ c ≤ d := fun h => c13 (nI_le h hd)
        exact at21 c d hc (by omega) (Or.inr ⟨by omega, rfl, rfl⟩)
    · exact absurd (Int32.not_lt.mp hy) c5
