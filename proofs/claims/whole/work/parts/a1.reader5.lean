theorem otk_go {T : List Nat} {n : Nat} {x x' : Q4} {Z : Bool × Q4} (h : otk T (n + 1) x = Z) (hs : opS T x = (1, x')) : otk T n x' = Z := by
  rw [otk, hs, if_neg (show ¬ (1 : Nat) = 0 by decide), if_pos rfl] at h
  exact h
theorem otk_fail {T : List Nat} {n : Nat} {x x' : Q4} {Z : Bool × Q4} (h : otk T (n + 1) x = Z) (hs : opS T x = (2, x')) : Z = (false, x') := by
  rw [otk, hs, if_neg (show ¬ (2 : Nat) = 0 by decide), if_neg (show ¬ (2 : Nat) = 1 by decide)] at h
  exact h.symm
theorem ct_readOptions (g : GG) (f : Mm) {T : List Nat} {D : PS} {p c r s : Nat} (hO : f 45 = some (RDE T.length p c r s)) (hT : RDt f T) (hD : PB f 47 D) (hN : pN D < 8) (hp : p ≤ T.length) (hs : s < 65536) : Ct g MX5_readOptions [.ref 45] f 0 0 (fun r' f' => (∀ j, (j < 45 ∨ j = 46 ∨ 52 < j) → f' j = f j) ∧ r' = some (.int (bI (otk T 3 (p, 0, 0, 0)).1)) ∧ f' 45 = some (RDE T.length (otk T 3 (p, 0, 0, 0)).2.1 c r s) ∧ PB f' 47 (if (otk T 3 (p, 0, 0, 0)).1 = true then pAdd D (nI (nrC s)) (nI (otk T 3 (p, 0, 0, 0)).2.2.1) (nI (otk T 3 (p, 0, 0, 0)).2.2.2.1) (nI (if (otk T 3 (p, 0, 0, 0)).2.2.2.2 = 0 then 1 else (otk T 3 (p, 0, 0, 0)).2.2.2.2)) else D)) := by
  refine Ct.of ok_MX5_readOptions (Nat.le_of_ble_eq_true rfl) ?_
  change Wp g MX5_readOptions 0 [some (.ref 45), none, none, none, none, none] [] f 0 0 _
  have hl160 := hT.1
  have ho0 : opOk (p, 0, 0, 0) := ⟨Nat.le_of_ble_eq_true rfl, Nat.zero_le _, Nat.zero_le _⟩
  generalize hZ : otk T 3 (p, 0, 0, 0) = Z
  have loop : ∀ (d o fr ti co p1 : Nat) (f1 : Mm) (w5 : Option Value), 3 - o = d → o ≤ 3 → otk T d (p1, fr, ti, co) = Z → opOk (p1, fr, ti, co) → p1 ≤ T.length → (∀ j, j ≠ 45 → f1 j = f j) → f1 45 = some (RDE T.length p1 c r s) → Wp g MX5_readOptions 9 [some (.ref 45), some (.int (nI fr)), some (.int (nI ti)), some (.int (nI co)), some (.int (nI o)), w5] [] f1 0 0 (fun r' f' => (∀ j, (j < 45 ∨ j = 46 ∨ 52 < j) → f' j = f j) ∧ r' = some (.int (bI Z.1)) ∧ f' 45 = some (RDE T.length Z.2.1 c r s) ∧ PB f' 47 (if Z.1 = true then pAdd D (nI (nrC s)) (nI Z.2.2.1) (nI Z.2.2.2.1) (nI (if Z.2.2.2.2 = 0 then 1 else Z.2.2.2.2)) else D)) := by
    intro d
    induction d with
    | zero =>
      intro o fr ti co p1 f1 w5 hd ho hz hok hp1 k1 o1
      have ho3 : o = 3 := by omega
      subst ho3
      have hD1 : PB f1 47 D := hD.keep (fun k a b => k1 k (by omega))
      replace hz : (true, (p1, fr, ti, co)) = Z := hz
      obtain ⟨a1, a2, a3⟩ := hok
      dsimp only at a1 a2 a3
      have hmx : (if nI co < nI 1 then nI 1 else nI co) = nI (if co = 0 then 1 else co) := by
        by_cases e : co = 0
        · rw [if_pos e, e]; rfl
        · rw [if_neg e, if_neg (nI_nlt (by omega) (by omega))]
      refine rn_iload dX5_readOptions_9 rfl ?_
      refine rn_iconst (v := nI 3) dX5_readOptions_11 (by decide) ?_
      refine rn_icmp_ge (tgt := 138) dX5_readOptions_12 (by decide) (fun c12 => ?_) (fun c12 => ?_)
      · refine rn_aload_n dX5_readOptions_138 rfl ?_
        refine rn_get dX5_readOptions_139 lfX5_22 o1 rfl ?_
        refine rn_aload_n dX5_readOptions_142 rfl ?_
        refine rn_get dX5_readOptions_143 lfX5_35 o1 rfl ?_
        refine rn_callS dX5_readOptions_146 lmX5_104 ⟨Nat.le_of_ble_eq_true rfl, Nat.le_of_ble_eq_true rfl⟩ (ct_normalize g f1 hs) rfl rfl (Nat.le_of_ble_eq_true rfl) ?_
        rintro _ _ ⟨rfl, rfl⟩
        refine rn_iload_n dX5_readOptions_149 rfl ?_
        refine rn_iload_n dX5_readOptions_150 rfl ?_
        refine rn_iload_n dX5_readOptions_151 rfl ?_
        refine rn_iconst (v := nI 1) dX5_readOptions_152 (by decide) ?_
        refine rn_max dX5_readOptions_153 lmX5_107 ⟨Nat.le_of_ble_eq_true rfl, Nat.le_of_ble_eq_true rfl⟩ (Nat.le_of_ble_eq_true rfl) ?_
        rw [hmx]
        refine rn_callV dX5_readOptions_156 lmX5_113 ⟨Nat.le_of_ble_eq_true rfl, Nat.le_of_ble_eq_true rfl⟩ (ct_append g f1 (nI (nrC s)) (nI fr) (nI ti) (nI (if co = 0 then 1 else co)) hD1 hN) hD1.1 rfl rfl (Nat.le_of_ble_eq_true rfl) ?_
        rintro _ f2 ⟨rfl, h2, k2⟩
        refine rn_iconst (v := nI 1) dX5_readOptions_159 (by decide) ?_
        refine rn_zret dX5_readOptions_160 rfl rfl ?_
        refine ⟨fun j hj => (k2 j (by omega)).trans (k1 j (by omega)), by rw [← hz]; rfl, by rw [← hz]; exact (k2 45 (by omega)).trans o1, ?_⟩
        rw [← hz, if_pos rfl]
        exact h2
      · exact absurd (ge_in c12 (by decide)) (by decide)
    | succ d ih =>
      intro o fr ti co p1 f1 w5 hd ho hz hok hp1 k1 o1
      have hD1 : PB f1 47 D := hD.keep (fun k a b => k1 k (by omega))
      have hT1 := hT.keep (k1 46 (by decide))
      obtain ⟨a1, a2, a3⟩ := id hok
      dsimp only at a1 a2 a3
      have nxt : ∀ (f2 : Mm) (p2 fr2 ti2 co2 : Nat) (w5 : Option Value), otk T d (p2, fr2, ti2, co2) = Z → opOk (p2, fr2, ti2, co2) → p2 ≤ T.length → (∀ j, j ≠ 45 → f2 j = f j) → f2 45 = some (RDE T.length p2 c r s) → Wp g MX5_readOptions 132 [some (.ref 45), some (.int (nI fr2)), some (.int (nI ti2)), some (.int (nI co2)), some (.int (nI o)), w5] [] f2 0 0 (fun r' f' => (∀ j, (j < 45 ∨ j = 46 ∨ 52 < j) → f' j = f j) ∧ r' = some (.int (bI Z.1)) ∧ f' 45 = some (RDE T.length Z.2.1 c r s) ∧ PB f' 47 (if Z.1 = true then pAdd D (nI (nrC s)) (nI Z.2.2.1) (nI Z.2.2.2.1) (nI (if Z.2.2.2.2 = 0 then 1 else Z.2.2.2.2)) else D)) := fun f2 p2 fr2 ti2 co2 w5 hz2 hok2 hp2 k2 o2 => by
        refine rn_iinc (v := nI (o + 1)) dX5_readOptions_132 rfl (nI_1 o) (Nat.le_of_ble_eq_true rfl) rfl ?_
        refine rn_goto (tgt := 9) dX5_readOptions_135 (by decide) ?_
        exact ih (o + 1) fr2 ti2 co2 p2 f2 _ (by omega) (by omega) hz2 hok2 hp2 k2 o2
      have go : ∀ (f2 : Mm) (p2 fr2 ti2 co2 : Nat) (w5 : Option Value), opS T (p1, fr, ti, co) = (1, p2, fr2, ti2, co2) → (∀ j, j ≠ 45 → f2 j = f j) → f2 45 = some (RDE T.length p2 c r s) → Wp g MX5_readOptions 132 [some (.ref 45), some (.int (nI fr2)), some (.int (nI ti2)), some (.int (nI co2)), some (.int (nI o)), w5] [] f2 0 0 (fun r' f' => (∀ j, (j < 45 ∨ j = 46 ∨ 52 < j) → f' j = f j) ∧ r' = some (.int (bI Z.1)) ∧ f' 45 = some (RDE T.length Z.2.1 c r s) ∧ PB f' 47 (if Z.1 = true then pAdd D (nI (nrC s)) (nI Z.2.2.1) (nI Z.2.2.2.1) (nI (if Z.2.2.2.2 = 0 then 1 else Z.2.2.2.2)) else D)) := fun f2 p2 fr2 ti2 co2 w5 hs2 k2 o2 => by
        have h1 := opS_ok (T := T) hok
        have h2 := (opS_le (T := T) (x := (p1, fr, ti, co)) hp1).1
        rw [hs2] at h1 h2
        exact nxt f2 p2 fr2 ti2 co2 w5 (otk_go hz hs2) h1 h2 k2 o2
      have stp : ∀ (w5 : Option Value), opS T (p1, fr, ti, co) = (0, p1, fr, ti, co) → Wp g MX5_readOptions 132 [some (.ref 45), some (.int (nI fr)), some (.int (nI ti)), some (.int (nI co)), some (.int (nI o)), w5] [] f1 0 0 (fun r' f' => (∀ j, (j < 45 ∨ j = 46 ∨ 52 < j) → f' j = f j) ∧ r' = some (.int (bI Z.1)) ∧ f' 45 = some (RDE T.length Z.2.1 c r s) ∧ PB f' 47 (if Z.1 = true then pAdd D (nI (nrC s)) (nI Z.2.2.1) (nI Z.2.2.2.1) (nI (if Z.2.2.2.2 = 0 then 1 else Z.2.2.2.2)) else D)) := fun w5 hs2 => by
        refine nxt f1 p1 fr ti co w5 ?_ hok hp1 k1 o1
        rw [otk_stop (by rw [hs2]) d, ← hz, otk_stop (by rw [hs2]) (d + 1)]
      have bad : ∀ (f2 : Mm) (x' : Q4), opS T (p1, fr, ti, co) = (2, x') → (∀ j, j ≠ 45 → f2 j = f j) → f2 45 = some (RDE T.length x'.1 c r s) → (∀ j, (j < 45 ∨ j = 46 ∨ 52 < j) → f2 j = f j) ∧ some (Value.int (nI 0)) = some (.int (bI Z.1)) ∧ f2 45 = some (RDE T.length Z.2.1 c r s) ∧ PB f2 47 (if Z.1 = true then pAdd D (nI (nrC s)) (nI Z.2.2.1) (nI Z.2.2.2.1) (nI (if Z.2.2.2.2 = 0 then 1 else Z.2.2.2.2)) else D) := fun f2 x' hs2 k2 o2 => by
        have hZ2 := otk_fail hz hs2
        rw [hZ2]
        exact ⟨fun j hj => k2 j (by omega), rfl, o2, hD.keep (fun k a b => k2 k (by omega))⟩
      have sv : ∀ {q : Prop} [Decidable q] {a b : Nat × Q4}, q → (if q then a else b) = a := fun h => if_pos h
      have at98 : ∀ w5 : Option Value, ¬ ((chI T p1 = nI 116 ∨ chI T p1 = nI 109) ∧ fr = 0) → ¬ (chI T p1 = nI 99 ∧ ti = 0) → Wp g MX5_readOptions 98 [some (.ref 45), some (.int (nI fr)), some (.int (nI ti)), some (.int (nI co)), some (.int (nI o)), some (.int (chI T p1))] [] f1 0 0 (fun r' f' => (∀ j, (j < 45 ∨ j = 46 ∨ 52 < j) → f' j = f j) ∧ r' = some (.int (bI Z.1)) ∧ f' 45 = some (RDE T.length Z.2.1 c r s) ∧ PB f' 47 (if Z.1 = true then pAdd D (nI (nrC s)) (nI Z.2.2.1) (nI Z.2.2.2.1) (nI (if Z.2.2.2.2 = 0 then 1 else Z.2.2.2.2)) else D)) := fun w5 nA nB => by
        have e0 : opS T (p1, fr, ti, co) = if chI T p1 = nI 120 ∧ co = 0 then (if dgt T (p1 + 1) 9 = 0 then (2, p1 + 1, fr, ti, co) else (1, p1 + 2, fr, ti, dgt T (p1 + 1) 9)) else (0, p1, fr, ti, co) := by
          rw [opS, if_neg nA, if_neg nB]
        refine rn_iload dX5_readOptions_98 rfl ?_
        refine rn_bipush (v := nI 120) dX5_readOptions_100 (by decide) ?_
        refine rn_icmp_ne (tgt := 132) dX5_readOptions_102 (by decide) (fun c102 => ?_) (fun c102 => ?_)
        · exact stp _ (by rw [e0, if_neg (fun h => c102 h.1)])
        · refine rn_iload_n dX5_readOptions_105 rfl ?_
          refine rn_if_ne (tgt := 132) dX5_readOptions_106 (by decide) (fun c106 => ?_) (fun c106 => ?_)
          · exact stp _ (by rw [e0, if_neg (fun h => c106 (by rw [h.2]; rfl))])
          · refine rn_aload_n dX5_readOptions_109 rfl ?_
            refine rn_dup dX5_readOptions_110 rfl ?_
            refine rn_get dX5_readOptions_111 lfX5_26 o1 rfl ?_
            refine rn_iconst (v := nI 1) dX5_readOptions_114 (by decide) ?_
            refine rn_iadd dX5_readOptions_115 ?_
            rw [nI_add]
            refine rn_put dX5_readOptions_116 lpX5_26 o1 rfl rfl (Nat.le_of_ble_eq_true rfl) ?_
            refine Wp.gen (e := RDE T.length (p1 + 1) c r s) (fun f2 k2 o2 => ?_)
            refine rn_aload_n dX5_readOptions_119 rfl ?_
            refine rn_bipush (v := nI 9) dX5_readOptions_120 (by decide) ?_
            refine rn_callV dX5_readOptions_122 lmX5_100 ⟨Nat.le_of_ble_eq_true rfl, Nat.le_of_ble_eq_true rfl⟩ (ct_readDigit g f2 o2 (hT1.keep (k2 46 (by decide))) (show p1 + 1 < 1000 by omega) (show 9 < 100 by decide)) o2 rfl rfl (Nat.le_of_ble_eq_true rfl) ?_
            rintro _ f3 ⟨k3, rfl, o3⟩
            have h9 := dgt_le T (p1 + 1) 9 (by decide)
            refine rn_istore_n dX5_readOptions_125 (Nat.le_of_ble_eq_true rfl) rfl ?_
            refine rn_iload_n dX5_readOptions_126 rfl ?_
            refine rn_if_ne (tgt := 132) dX5_readOptions_127 (by decide) (fun c127 => ?_) (fun c127 => ?_)
            · have hc0 : co = 0 := (az (by omega)).mp c106
              have hd0 : ¬ dgt T (p1 + 1) 9 = 0 := fun h => c127 (by rw [h]; rfl)
              rw [if_neg hd0] at o3
              exact go f3 (p1 + 2) fr ti (dgt T (p1 + 1) 9) _ (by rw [e0, if_pos ⟨c102, hc0⟩, if_neg hd0]) (fun j hj => (k3 j hj).trans ((k2 j hj).trans (k1 j hj))) o3
            · refine rn_iconst (v := nI 0) dX5_readOptions_130 (by decide) ?_
              refine rn_zret dX5_readOptions_131 rfl rfl ?_
              have hc0 : co = 0 := (az (by omega)).mp c106
              have hd0 : dgt T (p1 + 1) 9 = 0 := (az (by omega)).mp c127
              rw [if_pos hd0] at o3
              exact bad f3 (p1 + 1, fr, ti, co) (by rw [e0, if_pos ⟨c102, hc0⟩, if_pos hd0]) (fun j hj => (k3 j hj).trans ((k2 j hj).trans (k1 j hj))) o3
      have at65 : ¬ ((chI T p1 = nI 116 ∨ chI T p1 = nI 109) ∧ fr = 0) → Wp g MX5_readOptions 65 [some (.ref 45), some (.int (nI fr)), some (.int (nI ti)), some (.int (nI co)), some (.int (nI o)), some (.int (chI T p1))] [] f1 0 0 (fun r' f' => (∀ j, (j < 45 ∨ j = 46 ∨ 52 < j) → f' j = f j) ∧ r' = some (.int (bI Z.1)) ∧ f' 45 = some (RDE T.length Z.2.1 c r s) ∧ PB f' 47 (if Z.1 = true then pAdd D (nI (nrC s)) (nI Z.2.2.1) (nI Z.2.2.2.1) (nI (if Z.2.2.2.2 = 0 then 1 else Z.2.2.2.2)) else D)) := fun nA => by
        refine rn_iload dX5_readOptions_65 rfl ?_
        refine rn_bipush (v := nI 99) dX5_readOptions_67 (by decide) ?_
        refine rn_icmp_ne (tgt := 98) dX5_readOptions_69 (by decide) (fun c69 => ?_) (fun c69 => ?_)
        · exact at98 none nA (fun h => c69 h.1)
        · refine rn_iload_n dX5_readOptions_72 rfl ?_
          refine rn_if_ne (tgt := 98) dX5_readOptions_73 (by decide) (fun c73 => ?_) (fun c73 => ?_)
          · exact at98 none nA (fun h => c73 (by rw [h.2]; rfl))
          · refine rn_aload_n dX5_readOptions_76 rfl ?_
            refine rn_dup dX5_readOptions_77 rfl ?_
            refine rn_get dX5_readOptions_78 lfX5_26 o1 rfl ?_
            refine rn_iconst (v := nI 1) dX5_readOptions_81 (by decide) ?_
            refine rn_iadd dX5_readOptions_82 ?_
            rw [nI_add]
            refine rn_put dX5_readOptions_83 lpX5_26 o1 rfl rfl (Nat.le_of_ble_eq_true rfl) ?_
            refine Wp.gen (e := RDE T.length (p1 + 1) c r s) (fun f2 k2 o2 => ?_)
            refine rn_aload_n dX5_readOptions_86 rfl ?_
            refine rn_iconst (v := nI 3) dX5_readOptions_87 (by decide) ?_
            refine rn_callV dX5_readOptions_88 lmX5_100 ⟨Nat.le_of_ble_eq_true rfl, Nat.le_of_ble_eq_true rfl⟩ (ct_readDigit g f2 o2 (hT1.keep (k2 46 (by decide))) (show p1 + 1 < 1000 by omega) (show 3 < 100 by decide)) o2 rfl rfl (Nat.le_of_ble_eq_true rfl) ?_
            rintro _ f3 ⟨k3, rfl, o3⟩
            have h3 := dgt_le T (p1 + 1) 3 (by decide)
            refine rn_istore_n dX5_readOptions_91 (Nat.le_of_ble_eq_true rfl) rfl ?_
            refine rn_iload_n dX5_readOptions_92 rfl ?_
            refine rn_if_ne (tgt := 132) dX5_readOptions_93 (by decide) (fun c93 => ?_) (fun c93 => ?_)
            · have ht0 : ti = 0 := (az (by omega)).mp c73
              have hd0 : ¬ dgt T (p1 + 1) 3 = 0 := fun h => c93 (by rw [h]; rfl)
              rw [if_neg hd0] at o3
              exact go f3 (p1 + 2) fr (dgt T (p1 + 1) 3) co _ (by rw [opS, if_neg nA, if_pos ⟨c69, ht0⟩, if_neg hd0]) (fun j hj => (k3 j hj).trans ((k2 j hj).trans (k1 j hj))) o3
            · refine rn_iconst (v := nI 0) dX5_readOptions_96 (by decide) ?_
              refine rn_zret dX5_readOptions_97 rfl rfl ?_
              have ht0 : ti = 0 := (az (by omega)).mp c73
              have hd0 : dgt T (p1 + 1) 3 = 0 := (az (by omega)).mp c93
              rw [if_pos hd0] at o3
              exact bad f3 (p1 + 1, fr, ti, co) (by rw [opS, if_neg nA, if_pos ⟨c69, ht0⟩, if_pos hd0]) (fun j hj => (k3 j hj).trans ((k2 j hj).trans (k1 j hj))) o3
      refine rn_iload dX5_readOptions_9 rfl ?_
      refine rn_iconst (v := nI 3) dX5_readOptions_11 (by decide) ?_
      refine rn_icmp_ge (tgt := 138) dX5_readOptions_12 (by decide) (fun c12 => ?_) (fun c12 => ?_)
      · exact absurd (ge_ex c12 (by omega) (by decide)) (by omega)
      · refine rn_aload_n dX5_readOptions_15 rfl ?_
        refine rn_callV dX5_readOptions_16 lmX5_55 ⟨Nat.le_of_ble_eq_true rfl, Nat.le_of_ble_eq_true rfl⟩ (ct_look g f1 o1 hT1 (show p1 < 1000 by omega)) o1 rfl rfl (Nat.le_of_ble_eq_true rfl) ?_
        rintro _ _ ⟨rfl, rfl⟩
        refine rn_istore dX5_readOptions_19 (Nat.le_of_ble_eq_true rfl) rfl ?_
        refine rn_iload dX5_readOptions_21 rfl ?_
        refine rn_bipush (v := nI 116) dX5_readOptions_23 (by decide) ?_
        refine rn_icmp_eq (tgt := 35) dX5_readOptions_25 (by decide) (fun c25 => ?_) (fun c25 => ?_)
        · refine rn_iload_n dX5_readOptions_35 rfl ?_
          refine rn_if_ne (tgt := 65) dX5_readOptions_36 (by decide) (fun c36 => ?_) (fun c36 => ?_)
          · exact at65 (fun h => c36 (by rw [h.2]; rfl))
          · refine rn_iload dX5_readOptions_39 rfl ?_
            refine rn_bipush (v := nI 116) dX5_readOptions_41 (by decide) ?_
            refine rn_icmp_ne (tgt := 50) dX5_readOptions_43 (by decide) (fun c43 => ?_) (fun c43 => ?_)
            · refine rn_iconst (v := nI 2) dX5_readOptions_50 (by decide) ?_
              refine rn_istore_n dX5_readOptions_51 (Nat.le_of_ble_eq_true rfl) rfl ?_
              refine rn_aload_n dX5_readOptions_52 rfl ?_
              refine rn_dup dX5_readOptions_53 rfl ?_
              refine rn_get dX5_readOptions_54 lfX5_26 o1 rfl ?_
              refine rn_iconst (v := nI 1) dX5_readOptions_57 (by decide) ?_
              refine rn_iadd dX5_readOptions_58 ?_
              rw [nI_add]
              refine rn_put dX5_readOptions_59 lpX5_26 o1 rfl rfl (Nat.le_of_ble_eq_true rfl) ?_
              refine Wp.gen (e := RDE T.length (p1 + 1) c r s) (fun f2 k2 o2 => ?_)
              refine rn_goto (tgt := 132) dX5_readOptions_62 (by decide) ?_
              exact absurd c25 c43
            · refine rn_iconst (v := nI 1) dX5_readOptions_46 (by decide) ?_
              refine rn_goto (tgt := 51) dX5_readOptions_47 (by decide) ?_
              refine rn_istore_n dX5_readOptions_51 (Nat.le_of_ble_eq_true rfl) rfl ?_
              refine rn_aload_n dX5_readOptions_52 rfl ?_
              refine rn_dup dX5_readOptions_53 rfl ?_
              refine rn_get dX5_readOptions_54 lfX5_26 o1 rfl ?_
              refine rn_iconst (v := nI 1) dX5_readOptions_57 (by decide) ?_
              refine rn_iadd dX5_readOptions_58 ?_
              rw [nI_add]
              refine rn_put dX5_readOptions_59 lpX5_26 o1 rfl rfl (Nat.le_of_ble_eq_true rfl) ?_
              refine Wp.gen (e := RDE T.length (p1 + 1) c r s) (fun f2 k2 o2 => ?_)
              refine rn_goto (tgt := 132) dX5_readOptions_62 (by decide) ?_
              have hf0 : fr = 0 := (az (by omega)).mp c36
              exact go f2 (p1 + 1) 1 ti co _ (by rw [opS, if_pos ⟨Or.inl c25, hf0⟩, if_pos c25]) (fun j hj => (k2 j hj).trans (k1 j hj)) o2
        · refine rn_iload dX5_readOptions_28 rfl ?_
          refine rn_bipush (v := nI 109) dX5_readOptions_30 (by decide) ?_
          refine rn_icmp_ne (tgt := 65) dX5_readOptions_32 (by decide) (fun c32 => ?_) (fun c32 => ?_)
          · exact at65 (fun h => h.1.elim c25 c32)
          · refine rn_iload_n dX5_readOptions_35 rfl ?_
            refine rn_if_ne (tgt := 65) dX5_readOptions_36 (by decide) (fun c36 => ?_) (fun c36 => ?_)
            · exact at65 (fun h => c36 (by rw [h.2]; rfl))
            · refine rn_iload dX5_readOptions_39 rfl ?_
              refine rn_bipush (v := nI 116) dX5_readOptions_41 (by decide) ?_
              refine rn_icmp_ne (tgt := 50) dX5_readOptions_43 (by decide) (fun c43 => ?_) (fun c43 => ?_)
              · refine rn_iconst (v := nI 2) dX5_readOptions_50 (by decide) ?_
                refine rn_istore_n dX5_readOptions_51 (Nat.le_of_ble_eq_true rfl) rfl ?_
                refine rn_aload_n dX5_readOptions_52 rfl ?_
                refine rn_dup dX5_readOptions_53 rfl ?_
                refine rn_get dX5_readOptions_54 lfX5_26 o1 rfl ?_
                refine rn_iconst (v := nI 1) dX5_readOptions_57 (by decide) ?_
                refine rn_iadd dX5_readOptions_58 ?_
                rw [nI_add]
                refine rn_put dX5_readOptions_59 lpX5_26 o1 rfl rfl (Nat.le_of_ble_eq_true rfl) ?_
                refine Wp.gen (e := RDE T.length (p1 + 1) c r s) (fun f2 k2 o2 => ?_)
                refine rn_goto (tgt := 132) dX5_readOptions_62 (by decide) ?_
                have hf0 : fr = 0 := (az (by omega)).mp c36
                exact go f2 (p1 + 1) 2 ti co _ (by rw [opS, if_pos ⟨Or.inr c32, hf0⟩, if_neg c25]) (fun j hj => (k2 j hj).trans (k1 j hj)) o2
              · refine rn_iconst (v := nI 1) dX5_readOptions_46 (by decide) ?_
                refine rn_goto (tgt := 51) dX5_readOptions_47 (by decide) ?_
                refine rn_istore_n dX5_readOptions_51 (Nat.le_of_ble_eq_true rfl) rfl ?_
                refine rn_aload_n dX5_readOptions_52 rfl ?_
                refine rn_dup dX5_readOptions_53 rfl ?_
                refine rn_get dX5_readOptions_54 lfX5_26 o1 rfl ?_
                refine rn_iconst (v := nI 1) dX5_readOptions_57 (by decide) ?_
                refine rn_iadd dX5_readOptions_58 ?_
                rw [nI_add]
                refine rn_put dX5_readOptions_59 lpX5_26 o1 rfl rfl (Nat.le_of_ble_eq_true rfl) ?_
                refine Wp.gen (e := RDE T.length (p1 + 1) c r s) (fun f2 k2 o2 => ?_)
                refine rn_goto (tgt := 132) dX5_readOptions_62 (by decide) ?_
                exact absurd c43 c25
  refine rn_iconst (v := nI 0) dX5_readOptions_0 (by decide) ?_
  refine rn_istore_n dX5_readOptions_1 (Nat.le_of_ble_eq_true rfl) rfl ?_
  refine rn_iconst (v := nI 0) dX5_readOptions_2 (by decide) ?_
  refine rn_istore_n dX5_readOptions_3 (Nat.le_of_ble_eq_true rfl) rfl ?_
  refine rn_iconst (v := nI 0) dX5_readOptions_4 (by decide) ?_
  refine rn_istore_n dX5_readOptions_5 (Nat.le_of_ble_eq_true rfl) rfl ?_
  refine rn_iconst (v := nI 0) dX5_readOptions_6 (by decide) ?_
  refine rn_istore dX5_readOptions_7 (Nat.le_of_ble_eq_true rfl) rfl ?_
  exact loop 3 0 0 0 0 p f _ rfl (by decide) hZ ho0 hp (fun _ _ => rfl) hO
