theorem cc_count (g : GG) (f : Mm) {P : PS} {H : List PS} {T : List Nat} (x : Int32) (hI : CI f P H T) (hV : VPc P) : Ct g MX11_count [.ref 0, .int x] f 0 0 (fun r f' => (∀ j, 74 < j → f' j = f j) ∧ CI f' P H T ∧ r = some (.int (aCn P H.length x))) := by
  refine Ct.of ok_MX11_count (Nat.le_of_ble_eq_true rfl) ?_
  change Wp g MX11_count 0 [some (.ref 0), some (.int x)] [] f 0 0 _
  obtain ⟨b1, b2, b3, hI⟩ := hI
  have hX := hI.1
  have hP := hI.2.1
  cases hin : inR x 10 with
  | false =>
    have hno := inR_no (by decide) hin
    refine rn_iload_n dX11_count_0 rfl ?_
    refine rn_tableOut (tgt := 144) dX11_count_1 (by omega) (by decide) ?_
    refine rn_iconst (v := (-1)) dX11_count_144 (by decide) ?_
    refine rn_iret dX11_count_145 rfl ?_
    exact ⟨fun _ _ => rfl, ⟨_, _, _, hI⟩, by rw [aCn, hin]; rfl⟩
  | true =>
    obtain ⟨k, hk, rfl⟩ := (inR_iff (by decide)).mp hin
    have hval : aCn P H.length (nI k) = aCnt P H.length k := by rw [aCn, hin, if_pos rfl, nI_clamp (by omega)]
    rw [hval]
    rcases (show k = 0 ∨ k = 1 ∨ k = 2 ∨ k = 3 ∨ k = 4 ∨ k = 5 ∨ k = 6 ∨ k = 7 ∨ k = 8 ∨ k = 9 by omega) with rfl | rfl | rfl | rfl | rfl | rfl | rfl | rfl | rfl | rfl
    · refine rn_iload_n dX11_count_0 rfl ?_
      refine rn_tableIn (tgt := 56) dX11_count_1 (by decide) (by decide) rfl (by decide) ?_
      refine rn_aload_n dX11_count_56 rfl ?_
      refine rn_get dX11_count_57 lfX11_12 hX rfl ?_
      refine rn_get dX11_count_60 lfX11_165 hP.1 rfl ?_
      refine rn_iret dX11_count_63 rfl ?_
      exact ⟨fun _ _ => rfl, ⟨_, _, _, hI⟩, rfl⟩
    · refine rn_iload_n dX11_count_0 rfl ?_
      refine rn_tableIn (tgt := 64) dX11_count_1 (by decide) (by decide) rfl (by decide) ?_
      refine rn_aload_n dX11_count_64 rfl ?_
      refine rn_get dX11_count_65 lfX11_12 hX rfl ?_
      refine rn_get dX11_count_68 lfX11_168 hP.1 rfl ?_
      refine rn_iret dX11_count_71 rfl ?_
      exact ⟨fun _ _ => rfl, ⟨_, _, _, hI⟩, rfl⟩
    · refine rn_iload_n dX11_count_0 rfl ?_
      refine rn_tableIn (tgt := 72) dX11_count_1 (by decide) (by decide) rfl (by decide) ?_
      refine rn_aload_n dX11_count_72 rfl ?_
      refine rn_get dX11_count_73 lfX11_12 hX rfl ?_
      refine rn_callV dX11_count_76 lmX11_118 ⟨Nat.le_of_ble_eq_true rfl, Nat.le_of_ble_eq_true rfl⟩ (ct_openCount g f hP hV.1) hP.1 rfl rfl (Nat.le_of_ble_eq_true rfl) ?_
      rintro _ _ ⟨rfl, rfl⟩
      refine rn_iret dX11_count_79 rfl ?_
      exact ⟨fun _ _ => rfl, ⟨_, _, _, hI⟩, rfl⟩
    · refine rn_iload_n dX11_count_0 rfl ?_
      refine rn_tableIn (tgt := 80) dX11_count_1 (by decide) (by decide) rfl (by decide) ?_
      refine rn_aload_n dX11_count_80 rfl ?_
      refine rn_get dX11_count_81 lfX11_12 hX rfl ?_
      refine rn_get dX11_count_84 lfX11_130 hP.1 rfl ?_
      refine rn_iret dX11_count_87 rfl ?_
      exact ⟨fun _ _ => rfl, ⟨_, _, _, hI⟩, rfl⟩
    · refine rn_iload_n dX11_count_0 rfl ?_
      refine rn_tableIn (tgt := 88) dX11_count_1 (by decide) (by decide) rfl (by decide) ?_
      refine rn_aload_n dX11_count_88 rfl ?_
      refine rn_get dX11_count_89 lfX11_12 hX rfl ?_
      refine rn_get dX11_count_92 lfX11_159 hP.1 rfl ?_
      refine rn_iret dX11_count_95 rfl ?_
      exact ⟨fun _ _ => rfl, ⟨_, _, _, hI⟩, rfl⟩
    · refine rn_iload_n dX11_count_0 rfl ?_
      refine rn_tableIn (tgt := 96) dX11_count_1 (by decide) (by decide) rfl (by decide) ?_
      refine rn_aload_n dX11_count_96 rfl ?_
      refine rn_get dX11_count_97 lfX11_12 hX rfl ?_
      refine rn_get dX11_count_100 lfX11_162 hP.1 rfl ?_
      refine rn_iret dX11_count_103 rfl ?_
      exact ⟨fun _ _ => rfl, ⟨_, _, _, hI⟩, rfl⟩
    · refine rn_iload_n dX11_count_0 rfl ?_
      refine rn_tableIn (tgt := 104) dX11_count_1 (by decide) (by decide) rfl (by decide) ?_
      refine rn_aload_n dX11_count_104 rfl ?_
      refine rn_get dX11_count_105 lfX11_12 hX rfl ?_
      refine rn_callV dX11_count_108 lmX11_171 ⟨Nat.le_of_ble_eq_true rfl, Nat.le_of_ble_eq_true rfl⟩ (ct_squareCount g f (cpP P) (shP P) hP hV.1 (fun i hi => (hV.2.1 i hi).2.2.2.2.2.2.1) (fun i hi => ⟨(hV.2.1 i hi).1, (shL_lt _ (hV.2.1 i hi).2.1).1⟩)) hP.1 rfl rfl (Nat.le_of_ble_eq_true rfl) ?_
      rintro _ _ ⟨rfl, rfl⟩
      refine rn_iret dX11_count_111 rfl ?_
      exact ⟨fun _ _ => rfl, ⟨_, _, _, hI⟩, rfl⟩
    · refine rn_iload_n dX11_count_0 rfl ?_
      refine rn_tableIn (tgt := 112) dX11_count_1 (by decide) (by decide) rfl (by decide) ?_
      refine rn_aload_n dX11_count_112 rfl ?_
      refine rn_callV dX11_count_113 lmX11_174 ⟨Nat.le_of_ble_eq_true rfl, Nat.le_of_ble_eq_true rfl⟩ (cc_placeAll g f hI hV) hX rfl rfl (Nat.le_of_ble_eq_true rfl) ?_
      rintro _ f1 ⟨rfl, k1, hI1⟩
      obtain ⟨-, hL1, -, hS1⟩ := hI1.2.2.2.2.2.1 rfl
      refine rn_aload_n dX11_count_116 rfl ?_
      refine rn_get dX11_count_117 lfX11_40 hI1.1 rfl ?_
      refine rn_get dX11_count_120 lfX11_177 hL1.1 rfl ?_
      refine rn_iret dX11_count_123 rfl ?_
      exact ⟨k1, ⟨_, _, _, hI1⟩, rfl⟩
    · refine rn_iload_n dX11_count_0 rfl ?_
      refine rn_tableIn (tgt := 124) dX11_count_1 (by decide) (by decide) rfl (by decide) ?_
      refine rn_aload_n dX11_count_124 rfl ?_
      refine rn_callV dX11_count_125 lmX11_174 ⟨Nat.le_of_ble_eq_true rfl, Nat.le_of_ble_eq_true rfl⟩ (cc_placeAll g f hI hV) hX rfl rfl (Nat.le_of_ble_eq_true rfl) ?_
      rintro _ f1 ⟨rfl, k1, hI1⟩
      obtain ⟨-, hL1, -, hS1⟩ := hI1.2.2.2.2.2.1 rfl
      refine rn_aload_n dX11_count_128 rfl ?_
      refine rn_get dX11_count_129 lfX11_47 hI1.1 rfl ?_
      refine rn_get dX11_count_132 lfX11_180 hS1.1 rfl ?_
      refine rn_iret dX11_count_135 rfl ?_
      exact ⟨k1, ⟨_, _, _, hI1⟩, rfl⟩
    · obtain ⟨o, R, hH, -⟩ := hI.2.2.1
      refine rn_iload_n dX11_count_0 rfl ?_
      refine rn_tableIn (tgt := 136) dX11_count_1 (by decide) (by decide) rfl (by decide) ?_
      refine rn_aload_n dX11_count_136 rfl ?_
      refine rn_get dX11_count_137 lfX11_19 hX rfl ?_
      refine rn_get dX11_count_140 lfX11_181 hH.1 rfl ?_
      refine rn_iret dX11_count_143 rfl ?_
      exact ⟨fun _ _ => rfl, ⟨_, _, _, hI⟩, rfl⟩
theorem cc_proof (g : GG) (f : Mm) {P : PS} {H : List PS} {T : List Nat} (hI : CI f P H T) (hV : VPc P) : Ct g MX11_proof [.ref 0] f 0 0 (fun r f' => (∀ j, 74 < j → f' j = f j) ∧ CI f' P H T ∧ ∃ v, r = some (.int v) ∧ PFr P v) := by
  refine Ct.of ok_MX11_proof (Nat.le_of_ble_eq_true rfl) ?_
  change Wp g MX11_proof 0 [some (.ref 0), none, none, none] [] f 0 0 _
  obtain ⟨b1, b2, b3, hI⟩ := hI
  refine rn_aload_n dX11_proof_0 rfl ?_
  refine rn_callV dX11_proof_1 lmX11_174 ⟨Nat.le_of_ble_eq_true rfl, Nat.le_of_ble_eq_true rfl⟩ (cc_placeAll g f hI hV) hI.1 rfl rfl (Nat.le_of_ble_eq_true rfl) ?_
  rintro _ f0 ⟨rfl, k0, hI0⟩
  have lb : ∀ (d b m a : Nat) (f1 : Mm), m - b = d → b ≤ m → 2 ≤ m → m ≤ 5 → a < m → NBp P m a b → (∀ j, 74 < j → f1 j = f j) → CIf f1 P H T true b2 b3 → (∀ f1 w3, (∀ j, 74 < j → f1 j = f j) → CIf f1 P H T true b2 b3 → NBp P m (a + 1) 0 → Wp g MX11_proof 64 [some (.ref 0), some (.int (nI m)), some (.int (nI a)), w3] [] f1 0 0 (fun r f' => (∀ j, 74 < j → f' j = f j) ∧ CI f' P H T ∧ ∃ v, r = some (.int v) ∧ PFr P v)) → Wp g MX11_proof 20 [some (.ref 0), some (.int (nI m)), some (.int (nI a)), some (.int (nI b))] [] f1 0 0 (fun r f' => (∀ j, 74 < j → f' j = f j) ∧ CI f' P H T ∧ ∃ v, r = some (.int v) ∧ PFr P v) := by
    intro d
    induction d using Nat.strongRecOn with
    | ind d ih =>
      intro b m a f1 hd hb h2 h5 ha hN k1 hI1 kk
      obtain ⟨m0, w1⟩ := hI1.2.2.2.2.1.2.2.2.2.2.1
      by_cases hlt : b < m
      · refine rn_iload_n dX11_proof_20 rfl ?_
        refine rn_iload_n dX11_proof_21 rfl ?_
        refine rn_icmp_ge (tgt := 64) dX11_proof_22 (by decide) (fun c22 => ?_) (fun c22 => ?_)
        · exact absurd (ge_ex c22 (by omega) (by omega)) (by omega)
        · refine rn_aload_n dX11_proof_25 rfl ?_
          refine rn_get dX11_proof_26 lfX11_79 hI1.1 rfl ?_
          refine rn_aload_n dX11_proof_29 rfl ?_
          refine rn_get dX11_proof_30 lfX11_12 hI1.1 rfl ?_
          refine rn_aload_n dX11_proof_33 rfl ?_
          refine rn_get dX11_proof_34 lfX11_40 hI1.1 rfl ?_
          refine rn_iload_n dX11_proof_37 rfl ?_
          refine rn_iload_n dX11_proof_38 rfl ?_
          refine rn_iload_n dX11_proof_39 rfl ?_
          refine rn_callV dX11_proof_40 lmX11_277 ⟨Nat.le_of_ble_eq_true rfl, Nat.le_of_ble_eq_true rfl⟩ (cc_exclude g f1 hI1 hV h2 h5 ha hlt) w1 rfl rfl (Nat.le_of_ble_eq_true rfl) ?_
          rintro _ f2 ⟨rfl, k2, hI2⟩
          have k12 : ∀ j, 74 < j → f2 j = f j := fun j hj => (k2 j hj).trans (k1 j hj)
          refine rn_if_eq (tgt := 58) dX11_proof_43 (by decide) (fun c43 => ?_) (fun c43 => ?_)
          · refine rn_iinc (v := nI (b + 1)) dX11_proof_58 rfl (nI_1 b) (Nat.le_of_ble_eq_true rfl) rfl ?_
            refine rn_goto (tgt := 20) dX11_proof_61 (by decide) ?_
            exact ih _ (by omega) (b + 1) m a f2 rfl (by omega) h2 h5 ha (hN.b (bI_0.mp c43)) k12 hI2 kk
          · refine rn_bipush (v := nI 100) dX11_proof_46 (by decide) ?_
            refine rn_iload_n dX11_proof_48 rfl ?_
            refine rn_imul dX11_proof_49 ?_
            rw [pk_mul]
            refine rn_bipush (v := nI 10) dX11_proof_50 (by decide) ?_
            refine rn_iload_n dX11_proof_52 rfl ?_
            refine rn_imul dX11_proof_53 ?_
            rw [pk_mul]
            refine rn_iadd dX11_proof_54 ?_
            rw [nI_add]
            refine rn_iload_n dX11_proof_55 rfl ?_
            refine rn_iadd dX11_proof_56 ?_
            rw [nI_add]
            refine rn_iret dX11_proof_57 rfl ?_
            exact ⟨k12, ⟨_, _, _, hI2⟩, _, rfl, Or.inl ⟨m, a, b, h2, h5, ha, hlt, bI_n0.mp c43, hN, rfl⟩⟩
      · have hbe : b = m := by omega
        subst hbe
        refine rn_iload_n dX11_proof_20 rfl ?_
        refine rn_iload_n dX11_proof_21 rfl ?_
        refine rn_icmp_ge (tgt := 64) dX11_proof_22 (by decide) (fun c22 => ?_) (fun c22 => ?_)
        · exact kk _ _ k1 hI1 hN.a
        · exact absurd (ge_in c22 (by omega)) (by omega)
  have la : ∀ (d a m : Nat) (f1 : Mm) (w3 : Option Value), m - a = d → a ≤ m → 2 ≤ m → m ≤ 5 → NBp P m a 0 → (∀ j, 74 < j → f1 j = f j) → CIf f1 P H T true b2 b3 → (∀ f1 w3, (∀ j, 74 < j → f1 j = f j) → CIf f1 P H T true b2 b3 → NBp P (m + 1) 0 0 → Wp g MX11_proof 70 [some (.ref 0), some (.int (nI m)), some (.int (nI m)), w3] [] f1 0 0 (fun r f' => (∀ j, 74 < j → f' j = f j) ∧ CI f' P H T ∧ ∃ v, r = some (.int v) ∧ PFr P v)) → Wp g MX11_proof 13 [some (.ref 0), some (.int (nI m)), some (.int (nI a)), w3] [] f1 0 0 (fun r f' => (∀ j, 74 < j → f' j = f j) ∧ CI f' P H T ∧ ∃ v, r = some (.int v) ∧ PFr P v) := by
    intro d
    induction d using Nat.strongRecOn with
    | ind d ih =>
      intro a m f1 w3 hd ha h2 h5 hN k1 hI1 kk
      by_cases hlt : a < m
      · refine rn_iload_n dX11_proof_13 rfl ?_
        refine rn_iload_n dX11_proof_14 rfl ?_
        refine rn_icmp_ge (tgt := 70) dX11_proof_15 (by decide) (fun c15 => ?_) (fun c15 => ?_)
        · exact absurd (ge_ex c15 (by omega) (by omega)) (by omega)
        · refine rn_iconst (v := nI 0) dX11_proof_18 (by decide) ?_
          refine rn_istore_n dX11_proof_19 (Nat.le_of_ble_eq_true rfl) rfl ?_
          refine lb _ 0 m a f1 rfl (by omega) h2 h5 hlt hN k1 hI1 (fun f2 w3 k2 hI2 hN2 => ?_)
          refine rn_iinc (v := nI (a + 1)) dX11_proof_64 rfl (nI_1 a) (Nat.le_of_ble_eq_true rfl) rfl ?_
          refine rn_goto (tgt := 13) dX11_proof_67 (by decide) ?_
          exact ih _ (by omega) (a + 1) m f2 w3 rfl (by omega) h2 h5 hN2 k2 hI2 kk
      · have hae : a = m := by omega
        subst hae
        refine rn_iload_n dX11_proof_13 rfl ?_
        refine rn_iload_n dX11_proof_14 rfl ?_
        refine rn_icmp_ge (tgt := 70) dX11_proof_15 (by decide) (fun c15 => ?_) (fun c15 => ?_)
        · exact kk _ _ k1 hI1 hN.m
        · exact absurd (ge_in c15 (by omega)) (by omega)
  have lm : ∀ (d m : Nat) (f1 : Mm) (w2 w3 : Option Value), 6 - m = d → m ≤ 6 → 2 ≤ m → NBp P m 0 0 → (∀ j, 74 < j → f1 j = f j) → CIf f1 P H T true b2 b3 → Wp g MX11_proof 6 [some (.ref 0), some (.int (nI m)), w2, w3] [] f1 0 0 (fun r f' => (∀ j, 74 < j → f' j = f j) ∧ CI f' P H T ∧ ∃ v, r = some (.int v) ∧ PFr P v) := by
    intro d
    induction d using Nat.strongRecOn with
    | ind d ih =>
      intro m f1 w2 w3 hd hm6 h2 hN k1 hI1
      by_cases hlt : m < 6
      · refine rn_iload_n dX11_proof_6 rfl ?_
        refine rn_iconst (v := nI 5) dX11_proof_7 (by decide) ?_
        refine rn_icmp_gt (tgt := 76) dX11_proof_8 (by decide) (fun c8 => ?_) (fun c8 => ?_)
        · exact absurd ((nI_ltI (by decide) (by omega)).mp c8) (by omega)
        · refine rn_iconst (v := nI 0) dX11_proof_11 (by decide) ?_
          refine rn_istore_n dX11_proof_12 (Nat.le_of_ble_eq_true rfl) rfl ?_
          refine la _ 0 m f1 _ rfl (by omega) h2 (by omega) hN k1 hI1 (fun f2 w3 k2 hI2 hN2 => ?_)
          refine rn_iinc (v := nI (m + 1)) dX11_proof_70 rfl (nI_1 m) (Nat.le_of_ble_eq_true rfl) rfl ?_
          refine rn_goto (tgt := 6) dX11_proof_73 (by decide) ?_
          exact ih _ (by omega) (m + 1) f2 _ _ rfl (by omega) (by omega) hN2 k2 hI2
      · have hme : m = 6 := by omega
        subst hme
        refine rn_iload_n dX11_proof_6 rfl ?_
        refine rn_iconst (v := nI 5) dX11_proof_7 (by decide) ?_
        refine rn_icmp_gt (tgt := 76) dX11_proof_8 (by decide) (fun c8 => ?_) (fun c8 => ?_)
        · refine rn_bipush (v := (-9)) dX11_proof_76 (by decide) ?_
          refine rn_iret dX11_proof_78 rfl ?_
          exact ⟨k1, ⟨_, _, _, hI1⟩, _, rfl, Or.inr ⟨hN, rfl⟩⟩
        · exact absurd (show nI 5 < nI 6 by decide) c8
  refine rn_iconst (v := nI 2) dX11_proof_4 (by decide) ?_
  refine rn_istore_n dX11_proof_5 (Nat.le_of_ble_eq_true rfl) rfl ?_
  exact lm 4 2 f0 _ _ rfl (by decide) (by decide) (fun m' a' b' h1 h2 h3 h4 => by omega) k0 hI0
