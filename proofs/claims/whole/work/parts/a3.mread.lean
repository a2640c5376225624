-- the Model reads
theorem nar_and : ∀ c, c < 256 → vp_nar .byte (nI c) &&& nI 255 = nI c := by decide +kernel
theorem cm_here (g : GG) (f : Mm) {wi : Nat → Int32} {cv : Int64} {T : List Nat} {p : Nat} (hM : f 75 = some (MO wi cv)) (hT : TXm f T) (h13 : wi 13 = nI p) (h4 : wi 4 = nI T.length) (hp : p < 1000) : Ct g MX12_here [.ref 75] f 0 0 (fun r f' => f = f' ∧ r = some (.int (chI T p))) := by
  refine Ct.of ok_MX12_here (Nat.le_of_ble_eq_true rfl) ?_
  change Wp g MX12_here 0 [some (.ref 75)] [] f 0 0 _
  obtain ⟨b, hb, hl, hbe⟩ := id hT
  have h19 : p < T.length → Wp g MX12_here 19 [some (.ref 75)] [.int (nI p), .ref 78] f 0 0 (fun r f' => f = f' ∧ r = some (.int (chI T p))) := fun hlt => by
    have hg : T[p]? = some T[p] := List.getElem?_eq_getElem hlt
    obtain ⟨h1, h2⟩ := hbe p _ hg
    refine rn_bald dX12_here_19 hb (vp_in_nI (show p < 160 by omega) (by decide)) ?_
    rw [nI_clamp (by omega), h2]
    refine rn_sipush (v := nI 255) dX12_here_20 (by decide) ?_
    refine rn_iand dX12_here_23 ?_
    rw [nar_and _ h1]
    refine rn_goto (tgt := 28) dX12_here_24 (by decide) ?_
    refine rn_iret dX12_here_28 rfl ?_
    exact ⟨rfl, by rw [chI, hg]⟩
  refine rn_aload_n dX12_here_0 rfl ?_
  refine rn_get dX12_here_1 lfX12_159 hM rfl ?_
  refine rn_aload_n dX12_here_4 rfl ?_
  refine rn_get dX12_here_5 lfX12_156 hM rfl ?_
  rw [h13, h4]
  refine rn_icmp_ge (tgt := 27) dX12_here_8 (by decide) (fun c8 => ?_) (fun c8 => ?_)
  · refine rn_iconst (v := (-1)) dX12_here_27 (by decide) ?_
    refine rn_iret dX12_here_28 rfl ?_
    exact ⟨rfl, by rw [chI, List.getElem?_eq_none (ge_ex c8 (by omega) (by omega))]⟩
  · refine rn_aload_n dX12_here_11 rfl ?_
    refine rn_get dX12_here_12 lfX12_16 hM rfl ?_
    refine rn_aload_n dX12_here_15 rfl ?_
    refine rn_get dX12_here_16 lfX12_159 hM rfl ?_
    rw [h13]
    exact h19 (ge_in c8 (by omega))
theorem cm_isPartB (g : GG) (f : Mm) (x : Int32) : Ct g MX12_isPart [.int x, .int (nI 1)] f 0 0 (fun r f' => f = f' ∧ r = some (.int (bI (rowOk true x)))) := by
  refine Ct.of ok_MX12_isPart (Nat.le_of_ble_eq_true rfl) ?_
  change Wp g MX12_isPart 0 [some (.int x), some (.int (nI 1))] [] f 0 0 _
  refine rn_iload_n dX12_isPart_0 rfl ?_
  refine rn_if_eq (tgt := 35) dX12_isPart_1 (by decide) (fun c1 => ?_) (fun c1 => ?_)
  · exact absurd c1 (by decide)
  · refine rn_iload_n dX12_isPart_4 rfl ?_
    refine rn_bipush (v := nI 46) dX12_isPart_5 (by decide) ?_
    refine rn_icmp_eq (tgt := 27) dX12_isPart_7 (by decide) (fun c7 => ?_) (fun c7 => ?_)
    · refine rn_iconst (v := nI 1) dX12_isPart_27 (by decide) ?_
      refine rn_goto (tgt := 52) dX12_isPart_28 (by decide) ?_
      refine rn_zret dX12_isPart_52 rfl rfl ?_
      exact ⟨rfl, by rw [rowOk, if_pos rfl, okB, decide_eq_true c7]; rfl⟩
    · refine rn_iload_n dX12_isPart_10 rfl ?_
      refine rn_bipush (v := nI 35) dX12_isPart_11 (by decide) ?_
      refine rn_icmp_eq (tgt := 27) dX12_isPart_13 (by decide) (fun c13 => ?_) (fun c13 => ?_)
      · refine rn_iconst (v := nI 1) dX12_isPart_27 (by decide) ?_
        refine rn_goto (tgt := 52) dX12_isPart_28 (by decide) ?_
        refine rn_zret dX12_isPart_52 rfl rfl ?_
        exact ⟨rfl, by rw [rowOk, if_pos rfl, okB, decide_eq_true c13, Bool.true_or, Bool.or_true]; rfl⟩
      · refine rn_iload_n dX12_isPart_16 rfl ?_
        refine rn_bipush (v := nI 49) dX12_isPart_17 (by decide) ?_
        refine rn_bipush (v := nI 51) dX12_isPart_19 (by decide) ?_
        refine rn_callS dX12_isPart_21 lmX12_72 ⟨Nat.le_of_ble_eq_true rfl, Nat.le_of_ble_eq_true rfl⟩ (cm_in g f x (nI 49) (nI 51)) rfl rfl (Nat.le_of_ble_eq_true rfl) ?_
        rintro _ _ ⟨rfl, rfl⟩
        refine rn_if_eq (tgt := 31) dX12_isPart_24 (by decide) (fun c24 => ?_) (fun c24 => ?_)
        · refine rn_iconst (v := nI 0) dX12_isPart_31 (by decide) ?_
          refine rn_goto (tgt := 52) dX12_isPart_32 (by decide) ?_
          refine rn_zret dX12_isPart_52 rfl rfl ?_
          exact ⟨rfl, by rw [rowOk, if_pos rfl, okB, decide_eq_false c7, decide_eq_false c13, bI_0.mp c24]; rfl⟩
        · refine rn_iconst (v := nI 1) dX12_isPart_27 (by decide) ?_
          refine rn_goto (tgt := 52) dX12_isPart_28 (by decide) ?_
          refine rn_zret dX12_isPart_52 rfl rfl ?_
          exact ⟨rfl, by rw [rowOk, if_pos rfl, okB, bI_n0.mp c24, Bool.or_true, Bool.or_true]; rfl⟩
theorem cm_isPartS (g : GG) (f : Mm) (x : Int32) : Ct g MX12_isPart [.int x, .int (nI 0)] f 0 0 (fun r f' => f = f' ∧ r = some (.int (bI (rowOk false x)))) := by
  refine Ct.of ok_MX12_isPart (Nat.le_of_ble_eq_true rfl) ?_
  change Wp g MX12_isPart 0 [some (.int x), some (.int (nI 0))] [] f 0 0 _
  refine rn_iload_n dX12_isPart_0 rfl ?_
  refine rn_if_eq (tgt := 35) dX12_isPart_1 (by decide) (fun c1 => ?_) (fun c1 => ?_)
  · refine rn_iload_n dX12_isPart_35 rfl ?_
    refine rn_bipush (v := nI 111) dX12_isPart_36 (by decide) ?_
    refine rn_icmp_eq (tgt := 47) dX12_isPart_38 (by decide) (fun c38 => ?_) (fun c38 => ?_)
    · refine rn_iconst (v := nI 1) dX12_isPart_47 (by decide) ?_
      refine rn_goto (tgt := 52) dX12_isPart_48 (by decide) ?_
      refine rn_zret dX12_isPart_52 rfl rfl ?_
      exact ⟨rfl, by rw [rowOk, if_neg (by decide), okO, decide_eq_true c38]; rfl⟩
    · refine rn_iload_n dX12_isPart_41 rfl ?_
      refine rn_bipush (v := nI 46) dX12_isPart_42 (by decide) ?_
      refine rn_icmp_ne (tgt := 51) dX12_isPart_44 (by decide) (fun c44 => ?_) (fun c44 => ?_)
      · refine rn_iconst (v := nI 0) dX12_isPart_51 (by decide) ?_
        refine rn_zret dX12_isPart_52 rfl rfl ?_
        exact ⟨rfl, by rw [rowOk, if_neg (by decide), okO, decide_eq_false c38, decide_eq_false c44]; rfl⟩
      · refine rn_iconst (v := nI 1) dX12_isPart_47 (by decide) ?_
        refine rn_goto (tgt := 52) dX12_isPart_48 (by decide) ?_
        refine rn_zret dX12_isPart_52 rfl rfl ?_
        exact ⟨rfl, by rw [rowOk, if_neg (by decide), okO, decide_eq_true c44, Bool.or_true]; rfl⟩
  · exact absurd (show nI 0 = 0 from rfl) c1
theorem cm_isInRowB (g : GG) (f : Mm) {wi G : Nat → Int32} {cv : Int64} {r c : Nat} (x : Int32) (hM : f 75 = some (MO wi cv)) (hG : AR f 86 36 G) (h17 : wi 17 = nI r) (h18 : wi 18 = nI c) (hrc : 6 * r + c < 36) : Ct g MX12_isInRow [.ref 75, .int x, .int (nI 1)] f 0 0 (fun r' f' => (∀ j, j ≠ 86 → f' j = f j) ∧ r' = some (.int (bI (rowOk true x))) ∧ (rowOk true x = true → AR f' 86 36 (upd G (6 * r + c) (cvl x))) ∧ (rowOk true x = false → f' = f)) := by
  refine Ct.of ok_MX12_isInRow (Nat.le_of_ble_eq_true rfl) ?_
  change Wp g MX12_isInRow 0 [some (.ref 75), some (.int x), some (.int (nI 1)), none, none] [] f 0 0 _
  obtain ⟨gb, hgb, hgbe⟩ := id hG
  have no : rowOk true x = false → Wp g MX12_isInRow 52 [some (.ref 75), some (.int x), some (.int (nI 1)), none, none] [.int (nI 0)] f 0 0 (fun r' f' => (∀ j, j ≠ 86 → f' j = f j) ∧ r' = some (.int (bI (rowOk true x))) ∧ (rowOk true x = true → AR f' 86 36 (upd G (6 * r + c) (cvl x))) ∧ (rowOk true x = false → f' = f)) := fun h => by
    refine rn_istore_n dX12_isInRow_52 (Nat.le_of_ble_eq_true rfl) rfl ?_
    refine rn_iload_n dX12_isInRow_53 rfl ?_
    refine rn_if_eq (tgt := 117) dX12_isInRow_54 (by decide) (fun c54 => ?_) (fun c54 => ?_)
    · refine rn_iload_n dX12_isInRow_117 rfl ?_
      refine rn_if_eq (tgt := 173) dX12_isInRow_118 (by decide) (fun c118 => ?_) (fun c118 => ?_)
      · refine rn_iload_n dX12_isInRow_173 rfl ?_
        refine rn_zret dX12_isInRow_174 rfl rfl ?_
        exact ⟨fun _ _ => rfl, by rw [h]; rfl, fun h2 => (by rw [h] at h2; cases h2), fun _ => rfl⟩
      · exact absurd (show nI 0 = 0 from rfl) c118
    · exact absurd (show nI 0 = 0 from rfl) c54
  have fin : ∀ (v : Int32), rowOk true x = true → v = cvl x → Wp g MX12_isInRow 116 [some (.ref 75), some (.int x), some (.int (nI 1)), some (.int (nI 1)), some (.int (nI (6 * r + c)))] [.int v, .int (nI (6 * r + c)), .ref 86] f 0 0 (fun r' f' => (∀ j, j ≠ 86 → f' j = f j) ∧ r' = some (.int (bI (rowOk true x))) ∧ (rowOk true x = true → AR f' 86 36 (upd G (6 * r + c) (cvl x))) ∧ (rowOk true x = false → f' = f)) := fun v h hv => by
    subst hv
    refine rn_iast dX12_isInRow_116 hgb (vp_in_nI hrc (by decide)) ?_
    refine Wp.gen (e := .inl (0, 36, .inl (upd gb (nI (6 * r + c)).toNatClampNeg (cvl x)))) (fun f1 k1 o1 => ?_)
    refine rn_iload_n dX12_isInRow_117 rfl ?_
    refine rn_if_eq (tgt := 173) dX12_isInRow_118 (by decide) (fun c118 => ?_) (fun c118 => ?_)
    · refine rn_iload_n dX12_isInRow_173 rfl ?_
      refine rn_zret dX12_isInRow_174 rfl rfl ?_
      exact absurd c118 (by decide)
    · refine rn_iload_n dX12_isInRow_121 rfl ?_
      refine rn_if_ne (tgt := 173) dX12_isInRow_122 (by decide) (fun c122 => ?_) (fun c122 => ?_)
      · refine rn_iload_n dX12_isInRow_173 rfl ?_
        refine rn_zret dX12_isInRow_174 rfl rfl ?_
        exact ⟨k1, by rw [h]; rfl, fun _ => ⟨_, o1, fun i hi => by
          rw [nI_clamp (by omega)]
          by_cases e : i = 6 * r + c
          · rw [e, upd_eq, upd_eq]
          · rw [upd_ne e, upd_ne e]; exact hgbe i hi⟩, fun h2 => (by rw [h] at h2; cases h2)⟩
      · exact absurd c122 (by decide)
  have yes : rowOk true x = true → Wp g MX12_isInRow 52 [some (.ref 75), some (.int x), some (.int (nI 1)), none, none] [.int (nI 1)] f 0 0 (fun r' f' => (∀ j, j ≠ 86 → f' j = f j) ∧ r' = some (.int (bI (rowOk true x))) ∧ (rowOk true x = true → AR f' 86 36 (upd G (6 * r + c) (cvl x))) ∧ (rowOk true x = false → f' = f)) := fun h => by
    refine rn_istore_n dX12_isInRow_52 (Nat.le_of_ble_eq_true rfl) rfl ?_
    refine rn_iload_n dX12_isInRow_53 rfl ?_
    refine rn_if_eq (tgt := 117) dX12_isInRow_54 (by decide) (fun c54 => ?_) (fun c54 => ?_)
    · exact absurd c54 (by decide)
    · refine rn_iload_n dX12_isInRow_57 rfl ?_
      refine rn_if_eq (tgt := 117) dX12_isInRow_58 (by decide) (fun c58 => ?_) (fun c58 => ?_)
      · exact absurd c58 (by decide)
      · refine rn_bipush (v := nI 6) dX12_isInRow_61 (by decide) ?_
        refine rn_aload_n dX12_isInRow_63 rfl ?_
        refine rn_get dX12_isInRow_64 lfX12_162 hM rfl ?_
        rw [h17]
        refine rn_imul dX12_isInRow_67 ?_
        rw [pk_mul]
        refine rn_aload_n dX12_isInRow_68 rfl ?_
        refine rn_get dX12_isInRow_69 lfX12_165 hM rfl ?_
        rw [h18]
        refine rn_iadd dX12_isInRow_72 ?_
        rw [nI_add]
        refine rn_istore dX12_isInRow_73 (Nat.le_of_ble_eq_true rfl) rfl ?_
        refine rn_aload_n dX12_isInRow_75 rfl ?_
        refine rn_get dX12_isInRow_76 lfX12_42 hM rfl ?_
        refine rn_iload dX12_isInRow_79 rfl ?_
        refine rn_bipush (v := nI 36) dX12_isInRow_81 (by decide) ?_
        refine rn_icmp_ge (tgt := 91) dX12_isInRow_83 (by decide) (fun c83 => ?_) (fun c83 => ?_)
        · exact absurd (ge_ex c83 (by omega) (by decide)) (by omega)
        · refine rn_iload dX12_isInRow_86 rfl ?_
          refine rn_goto (tgt := 92) dX12_isInRow_88 (by decide) ?_
          refine rn_iload_n dX12_isInRow_92 rfl ?_
          refine rn_bipush (v := nI 35) dX12_isInRow_93 (by decide) ?_
          refine rn_icmp_ne (tgt := 102) dX12_isInRow_95 (by decide) (fun c95 => ?_) (fun c95 => ?_)
          · refine rn_iload_n dX12_isInRow_102 rfl ?_
            refine rn_bipush (v := nI 46) dX12_isInRow_103 (by decide) ?_
            refine rn_icmp_ne (tgt := 112) dX12_isInRow_105 (by decide) (fun c105 => ?_) (fun c105 => ?_)
            · refine rn_iload_n dX12_isInRow_112 rfl ?_
              refine rn_bipush (v := nI 48) dX12_isInRow_113 (by decide) ?_
              refine rn_isub dX12_isInRow_115 ?_
              exact fin _ h (by
                have h46 : ¬ x = nI 46 := c105
                rw [cvl, if_neg h46, if_neg c95])
            · refine rn_iconst (v := nI 0) dX12_isInRow_108 (by decide) ?_
              refine rn_goto (tgt := 116) dX12_isInRow_109 (by decide) ?_
              exact fin _ h (by rw [cvl, if_pos c105]; rfl)
          · refine rn_iconst (v := (-1)) dX12_isInRow_98 (by decide) ?_
            refine rn_goto (tgt := 116) dX12_isInRow_99 (by decide) ?_
            exact fin _ h (by
              have h46 : ¬ x = nI 46 := fun e => by rw [e] at c95; exact absurd c95 (by decide)
              rw [cvl, if_neg h46, if_pos c95])
  refine rn_iload_n dX12_isInRow_0 rfl ?_
  refine rn_if_eq (tgt := 35) dX12_isInRow_1 (by decide) (fun c1 => ?_) (fun c1 => ?_)
  · exact absurd c1 (by decide)
  · refine rn_iload_n dX12_isInRow_4 rfl ?_
    refine rn_bipush (v := nI 46) dX12_isInRow_5 (by decide) ?_
    refine rn_icmp_eq (tgt := 27) dX12_isInRow_7 (by decide) (fun c7 => ?_) (fun c7 => ?_)
    · refine rn_iconst (v := nI 1) dX12_isInRow_27 (by decide) ?_
      refine rn_goto (tgt := 52) dX12_isInRow_28 (by decide) ?_
      exact yes (by rw [rowOk, if_pos rfl, okB, decide_eq_true c7]; rfl)
    · refine rn_iload_n dX12_isInRow_10 rfl ?_
      refine rn_bipush (v := nI 35) dX12_isInRow_11 (by decide) ?_
      refine rn_icmp_eq (tgt := 27) dX12_isInRow_13 (by decide) (fun c13 => ?_) (fun c13 => ?_)
      · refine rn_iconst (v := nI 1) dX12_isInRow_27 (by decide) ?_
        refine rn_goto (tgt := 52) dX12_isInRow_28 (by decide) ?_
        exact yes (by rw [rowOk, if_pos rfl, okB, decide_eq_true c13, Bool.true_or, Bool.or_true])
      · refine rn_iload_n dX12_isInRow_16 rfl ?_
        refine rn_bipush (v := nI 49) dX12_isInRow_17 (by decide) ?_
        refine rn_bipush (v := nI 51) dX12_isInRow_19 (by decide) ?_
        refine rn_callS dX12_isInRow_21 lmX12_72 ⟨Nat.le_of_ble_eq_true rfl, Nat.le_of_ble_eq_true rfl⟩ (cm_in g f x (nI 49) (nI 51)) rfl rfl (Nat.le_of_ble_eq_true rfl) ?_
        rintro _ _ ⟨rfl, rfl⟩
        refine rn_if_eq (tgt := 31) dX12_isInRow_24 (by decide) (fun c24 => ?_) (fun c24 => ?_)
        · refine rn_iconst (v := nI 0) dX12_isInRow_31 (by decide) ?_
          refine rn_goto (tgt := 52) dX12_isInRow_32 (by decide) ?_
          exact no (by rw [rowOk, if_pos rfl, okB, decide_eq_false c7, decide_eq_false c13, bI_0.mp c24]; rfl)
        · refine rn_iconst (v := nI 1) dX12_isInRow_27 (by decide) ?_
          refine rn_goto (tgt := 52) dX12_isInRow_28 (by decide) ?_
          exact yes (by rw [rowOk, if_pos rfl, okB, bI_n0.mp c24, Bool.or_true, Bool.or_true])
theorem cm_isInRowS (g : GG) (f : Mm) {wi : Nat → Int32} {cv : Int64} {r c s : Nat} (x : Int32) (hM : f 75 = some (MO wi cv)) (h17 : wi 17 = nI r) (h18 : wi 18 = nI c) (h19 : wi 19 = nI s) (hr : r < 4) (hc : c < 4) (hs : s < 65536) : Ct g MX12_isInRow [.ref 75, .int x, .int (nI 0)] f 0 0 (fun r' f' => (∀ j, j ≠ 75 → f' j = f j) ∧ r' = some (.int (bI (rowOk false x))) ∧ f' 75 = some (MO (upd wi 19 (nI (if x = nI 111 then s ||| 2 ^ (r * 4 + c) else s))) cv)) := by
  refine Ct.of ok_MX12_isInRow (Nat.le_of_ble_eq_true rfl) ?_
  change Wp g MX12_isInRow 0 [some (.ref 75), some (.int x), some (.int (nI 0)), none, none] [] f 0 0 _
  have h16 : r * 4 + c < 16 := by omega
  have hpw : 2 ^ (r * 4 + c) < 2 ^ 16 := Nat.pow_lt_pow_right (by decide) h16
  have hor : s ||| 2 ^ (r * 4 + c) < 2 ^ 16 := Nat.or_lt_two_pow (by omega) hpw
  have hself : upd wi 19 (nI s) = wi := by
    funext j
    by_cases e : j = 19
    · rw [e, upd_eq, h19]
    · rw [upd_ne e]
  have keep : ¬ x = nI 111 → f 75 = some (MO (upd wi 19 (nI (if x = nI 111 then s ||| 2 ^ (r * 4 + c) else s))) cv) := fun h => by rw [if_neg h, hself]; exact hM
  have no : rowOk false x = false → Wp g MX12_isInRow 52 [some (.ref 75), some (.int x), some (.int (nI 0)), none, none] [.int (nI 0)] f 0 0 (fun r' f' => (∀ j, j ≠ 75 → f' j = f j) ∧ r' = some (.int (bI (rowOk false x))) ∧ f' 75 = some (MO (upd wi 19 (nI (if x = nI 111 then s ||| 2 ^ (r * 4 + c) else s))) cv)) := fun h => by
    have hne : ¬ x = nI 111 := fun e => by rw [rowOk, if_neg (by decide), okO, decide_eq_true e] at h; cases h
    refine rn_istore_n dX12_isInRow_52 (Nat.le_of_ble_eq_true rfl) rfl ?_
    refine rn_iload_n dX12_isInRow_53 rfl ?_
    refine rn_if_eq (tgt := 117) dX12_isInRow_54 (by decide) (fun c54 => ?_) (fun c54 => ?_)
    · refine rn_iload_n dX12_isInRow_117 rfl ?_
      refine rn_if_eq (tgt := 173) dX12_isInRow_118 (by decide) (fun c118 => ?_) (fun c118 => ?_)
      · refine rn_iload_n dX12_isInRow_173 rfl ?_
        refine rn_zret dX12_isInRow_174 rfl rfl ?_
        exact ⟨fun _ _ => rfl, by rw [h]; rfl, keep hne⟩
      · exact absurd (show nI 0 = 0 from rfl) c118
    · exact absurd (show nI 0 = 0 from rfl) c54
  have yes : rowOk false x = true → Wp g MX12_isInRow 52 [some (.ref 75), some (.int x), some (.int (nI 0)), none, none] [.int (nI 1)] f 0 0 (fun r' f' => (∀ j, j ≠ 75 → f' j = f j) ∧ r' = some (.int (bI (rowOk false x))) ∧ f' 75 = some (MO (upd wi 19 (nI (if x = nI 111 then s ||| 2 ^ (r * 4 + c) else s))) cv)) := fun h => by
    have at173 : ∀ f1 : Mm, (∀ j, j ≠ 75 → f1 j = f j) → f1 75 = some (MO (upd wi 19 (nI (if x = nI 111 then s ||| 2 ^ (r * 4 + c) else s))) cv) → Wp g MX12_isInRow 173 [some (.ref 75), some (.int x), some (.int (nI 0)), some (.int (nI 1)), none] [] f1 0 0 (fun r' f' => (∀ j, j ≠ 75 → f' j = f j) ∧ r' = some (.int (bI (rowOk false x))) ∧ f' 75 = some (MO (upd wi 19 (nI (if x = nI 111 then s ||| 2 ^ (r * 4 + c) else s))) cv)) := fun f1 k1 o1 => by
      refine rn_iload_n dX12_isInRow_173 rfl ?_
      refine rn_zret dX12_isInRow_174 rfl rfl ?_
      exact ⟨k1, by rw [h]; rfl, o1⟩
    have at117 : Wp g MX12_isInRow 117 [some (.ref 75), some (.int x), some (.int (nI 0)), some (.int (nI 1)), none] [] f 0 0 (fun r' f' => (∀ j, j ≠ 75 → f' j = f j) ∧ r' = some (.int (bI (rowOk false x))) ∧ f' 75 = some (MO (upd wi 19 (nI (if x = nI 111 then s ||| 2 ^ (r * 4 + c) else s))) cv)) := by
      refine rn_iload_n dX12_isInRow_117 rfl ?_
      refine rn_if_eq (tgt := 173) dX12_isInRow_118 (by decide) (fun c118 => ?_) (fun c118 => ?_)
      · exact absurd c118 (by decide)
      · refine rn_iload_n dX12_isInRow_121 rfl ?_
        refine rn_if_ne (tgt := 173) dX12_isInRow_122 (by decide) (fun c122 => ?_) (fun c122 => ?_)
        · exact absurd (show nI 0 = 0 from rfl) c122
        · refine rn_iload_n dX12_isInRow_125 rfl ?_
          refine rn_bipush (v := nI 111) dX12_isInRow_126 (by decide) ?_
          refine rn_icmp_ne (tgt := 173) dX12_isInRow_128 (by decide) (fun c128 => ?_) (fun c128 => ?_)
          · exact at173 f (fun _ _ => rfl) (keep c128)
          · refine rn_aload_n dX12_isInRow_131 rfl ?_
            refine rn_dup dX12_isInRow_132 rfl ?_
            refine rn_get dX12_isInRow_133 lfX12_168 hM rfl ?_
            refine rn_aload_n dX12_isInRow_136 rfl ?_
            refine rn_get dX12_isInRow_137 lfX12_162 hM rfl ?_
            rw [h17]
            refine rn_iconst (v := nI 4) dX12_isInRow_140 (by decide) ?_
            refine rn_icmp_ge (tgt := 168) dX12_isInRow_141 (by decide) (fun c141 => ?_) (fun c141 => ?_)
            · exact absurd (ge_ex c141 (by omega) (by decide)) (by omega)
            · refine rn_aload_n dX12_isInRow_144 rfl ?_
              refine rn_get dX12_isInRow_145 lfX12_165 hM rfl ?_
              rw [h18]
              refine rn_iconst (v := nI 4) dX12_isInRow_148 (by decide) ?_
              refine rn_icmp_ge (tgt := 168) dX12_isInRow_149 (by decide) (fun c149 => ?_) (fun c149 => ?_)
              · exact absurd (ge_ex c149 (by omega) (by decide)) (by omega)
              · refine rn_iconst (v := nI 1) dX12_isInRow_152 (by decide) ?_
                refine rn_iconst (v := nI 4) dX12_isInRow_153 (by decide) ?_
                refine rn_aload_n dX12_isInRow_154 rfl ?_
                refine rn_get dX12_isInRow_155 lfX12_162 hM rfl ?_
                rw [h17]
                refine rn_imul dX12_isInRow_158 ?_
                rw [pk_mul]
                refine rn_aload_n dX12_isInRow_159 rfl ?_
                refine rn_get dX12_isInRow_160 lfX12_165 hM rfl ?_
                rw [h18]
                refine rn_iadd dX12_isInRow_163 ?_
                rw [nI_add, show 4 * r + c = r * 4 + c by omega]
                refine rn_ishl dX12_isInRow_164 ?_
                rw [nb_shl (by omega) (by omega), Nat.one_mul]
                refine rn_goto (tgt := 169) dX12_isInRow_165 (by decide) ?_
                refine rn_ior dX12_isInRow_169 ?_
                rw [h19, nb_or (by omega) (by omega)]
                refine rn_put dX12_isInRow_170 lpX12_168 hM rfl rfl (Nat.le_of_ble_eq_true rfl) ?_
                rw [ms19]
                refine Wp.gen (e := MO (upd wi 19 (nI (s ||| 2 ^ (r * 4 + c)))) cv) (fun f1 k1 o1 => ?_)
                exact at173 f1 k1 (by rw [if_pos c128]; exact o1)
    refine rn_istore_n dX12_isInRow_52 (Nat.le_of_ble_eq_true rfl) rfl ?_
    refine rn_iload_n dX12_isInRow_53 rfl ?_
    refine rn_if_eq (tgt := 117) dX12_isInRow_54 (by decide) (fun c54 => ?_) (fun c54 => ?_)
    · exact absurd c54 (by decide)
    · refine rn_iload_n dX12_isInRow_57 rfl ?_
      refine rn_if_eq (tgt := 117) dX12_isInRow_58 (by decide) (fun c58 => ?_) (fun c58 => ?_)
      · exact at117
      · exact absurd (show nI 0 = 0 from rfl) c58
  refine rn_iload_n dX12_isInRow_0 rfl ?_
  refine rn_if_eq (tgt := 35) dX12_isInRow_1 (by decide) (fun c1 => ?_) (fun c1 => ?_)
  · refine rn_iload_n dX12_isInRow_35 rfl ?_
    refine rn_bipush (v := nI 111) dX12_isInRow_36 (by decide) ?_
    refine rn_icmp_eq (tgt := 47) dX12_isInRow_38 (by decide) (fun c38 => ?_) (fun c38 => ?_)
    · refine rn_iconst (v := nI 1) dX12_isInRow_47 (by decide) ?_
      refine rn_goto (tgt := 52) dX12_isInRow_48 (by decide) ?_
      exact yes (by rw [rowOk, if_neg (by decide), okO, decide_eq_true c38]; rfl)
    · refine rn_iload_n dX12_isInRow_41 rfl ?_
      refine rn_bipush (v := nI 46) dX12_isInRow_42 (by decide) ?_
      refine rn_icmp_ne (tgt := 51) dX12_isInRow_44 (by decide) (fun c44 => ?_) (fun c44 => ?_)
      · refine rn_iconst (v := nI 0) dX12_isInRow_51 (by decide) ?_
        exact no (by rw [rowOk, if_neg (by decide), okO, decide_eq_false c38, decide_eq_false c44]; rfl)
      · refine rn_iconst (v := nI 1) dX12_isInRow_47 (by decide) ?_
        refine rn_goto (tgt := 52) dX12_isInRow_48 (by decide) ?_
        exact yes (by rw [rowOk, if_neg (by decide), okO, decide_eq_true c44, Bool.or_true])
  · exact absurd (show nI 0 = 0 from rfl) c1
