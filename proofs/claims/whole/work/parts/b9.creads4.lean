theorem gtk_gr {m k : Nat} (hk : k ≤ 35) (h1 : k = 0 ∨ m.testBit k = true) (h2 : ∀ j, k < j → j ≤ 35 → m.testBit j = false) : gtk m 36 = k := by
  rcases h1 with rfl | h1
  · cases h0 : m.testBit 0 with
    | true => exact gtk_of (by omega) h0 (fun j a b => h2 j a (by omega))
    | false =>
      have : ∀ n, n ≤ 36 → gtk m n = 0 := by
        intro n
        induction n with
        | zero => intro _; rfl
        | succ c ih =>
          intro hc
          have hb : ¬ m.testBit c = true := by
            rcases Nat.eq_zero_or_pos c with e | e
            · rw [e, h0]; decide
            · rw [h2 c e (by omega)]; decide
          rw [gtk, if_neg hb]
          exact ih (by omega)
      exact this 36 (by omega)
  · exact gtk_of (by omega) h1 (fun j a b => h2 j a (by omega))
theorem cc_placement (g : GG) (f : Mm) {P : PS} {H : List PS} {T : List Nat} (x y : Int32) (hI : CI f P H T) (hV : VPc P) : Ct g MX11_placement [.ref 0, .int x, .int y] f 0 0 (fun r f' => (∀ j, 74 < j → f' j = f j) ∧ CI f' P H T ∧ r = some (.int (aPl P x y))) := by
  refine Ct.of ok_MX11_placement (Nat.le_of_ble_eq_true rfl) ?_
  change Wp g MX11_placement 0 [some (.ref 0), some (.int x), some (.int y)] [] f 0 0 _
  obtain ⟨b1, b2, b3, hI⟩ := hI
  have hLS := pl1_LSd hV.1 hV.2.1
  have hmk0 := pl1_msk hV.1 hV.2.1
  have hl1280 : (lP P).length ≤ 1280 := hLS.2.1
  by_cases hx : x < 0
  · refine rn_iload_n dX11_placement_0 rfl ?_
    refine rn_if_lt (tgt := 13) dX11_placement_1 (by decide) (fun c1 => ?_) (fun c1 => ?_)
    · refine rn_iconst (v := (-1)) dX11_placement_13 (by decide) ?_
      refine rn_iret dX11_placement_14 rfl ?_
      exact ⟨fun _ _ => rfl, ⟨_, _, _, hI⟩, by rw [aPl, if_pos hx]⟩
    · exact absurd hx c1
  obtain ⟨k, hk, rfl⟩ := nn_nI hx
  cases hin : inR y 5 with
  | false =>
    refine rn_iload_n dX11_placement_0 rfl ?_
    refine rn_if_lt (tgt := 13) dX11_placement_1 (by decide) (fun c1 => ?_) (fun c1 => ?_)
    · refine rn_iconst (v := (-1)) dX11_placement_13 (by decide) ?_
      refine rn_iret dX11_placement_14 rfl ?_
      exact absurd c1 hx
    · refine rn_iload_n dX11_placement_4 rfl ?_
      refine rn_iconst (v := nI 0) dX11_placement_5 (by decide) ?_
      refine rn_iconst (v := nI 4) dX11_placement_6 (by decide) ?_
      refine rn_callS dX11_placement_7 lmX11_93 ⟨Nat.le_of_ble_eq_true rfl, Nat.le_of_ble_eq_true rfl⟩ (ct_isWithin g f y (nI 0) (nI 4)) rfl rfl (Nat.le_of_ble_eq_true rfl) ?_
      rintro _ _ ⟨rfl, rfl⟩
      rw [in_5, hin]
      refine rn_if_ne (tgt := 15) dX11_placement_10 (by decide) (fun c10 => ?_) (fun c10 => ?_)
      · exact absurd (show bI false = 0 from rfl) c10
      · refine rn_iconst (v := (-1)) dX11_placement_13 (by decide) ?_
        refine rn_iret dX11_placement_14 rfl ?_
        exact ⟨fun _ _ => rfl, ⟨_, _, _, hI⟩, by rw [aPl, if_neg hx, if_neg (by rw [hin]; decide)]⟩
  | true =>
    obtain ⟨i, hi, rfl⟩ := (inR_iff (by decide)).mp hin
    have at33 : ∀ f1, (∀ j, 74 < j → f1 j = f j) → CIf f1 P H T true b2 b3 → k < (lP P).length → Wp g MX11_placement 33 [some (.ref 0), some (.int (nI k)), some (.int (nI i))] [] f1 0 0 (fun r f' => (∀ j, 74 < j → f' j = f j) ∧ CI f' P H T ∧ r = some (.int (aPl P (nI k) (nI i)))) := fun f1 k1 hI1 hlt => by
      have hX := hI1.1
      obtain ⟨-, hL1, -⟩ := hI1.2.2.2.2.2.1 rfl
      have h36 := hmk0 k hlt
      have h64 : (gp (lP P) k).2.2.2 < 2 ^ 64 := Nat.lt_of_lt_of_le h36 (Nat.pow_le_pow_right (by decide) (Nat.le_trans hV.1.area (by decide)))
      have hval : aPl P (nI k) (nI i) = aPlk (lP P) k i := by rw [aPl, if_neg hx, if_pos hin, nI_clamp hk, if_pos hlt, nI_clamp (by omega)]
      rw [hval]
      rcases (show i = 0 ∨ i = 1 ∨ i = 2 ∨ i = 3 ∨ i = 4 by omega) with rfl | rfl | rfl | rfl | rfl
      · refine rn_iload_n dX11_placement_33 rfl ?_
        refine rn_tableIn (tgt := 64) dX11_placement_34 (by decide) (by decide) rfl (by decide) ?_
        refine rn_aload_n dX11_placement_64 rfl ?_
        refine rn_get dX11_placement_65 lfX11_40 hX rfl ?_
        refine rn_iload_n dX11_placement_68 rfl ?_
        refine rn_callV dX11_placement_69 lmX11_203 ⟨Nat.le_of_ble_eq_true rfl, Nat.le_of_ble_eq_true rfl⟩ (ct_pieceOf g f1 hL1 hLS.1 hlt hl1280) hL1.1 rfl rfl (Nat.le_of_ble_eq_true rfl) ?_
        rintro _ _ ⟨rfl, rfl⟩
        refine rn_iret dX11_placement_72 rfl ?_
        exact ⟨k1, ⟨_, _, _, hI1⟩, rfl⟩
      · refine rn_iload_n dX11_placement_33 rfl ?_
        refine rn_tableIn (tgt := 73) dX11_placement_34 (by decide) (by decide) rfl (by decide) ?_
        refine rn_aload_n dX11_placement_73 rfl ?_
        refine rn_get dX11_placement_74 lfX11_40 hX rfl ?_
        refine rn_iload_n dX11_placement_77 rfl ?_
        refine rn_callV dX11_placement_78 lmX11_206 ⟨Nat.le_of_ble_eq_true rfl, Nat.le_of_ble_eq_true rfl⟩ (ct_formOf g f1 hL1 hLS.1 hlt hl1280) hL1.1 rfl rfl (Nat.le_of_ble_eq_true rfl) ?_
        rintro _ _ ⟨rfl, rfl⟩
        refine rn_iret dX11_placement_81 rfl ?_
        exact ⟨k1, ⟨_, _, _, hI1⟩, rfl⟩
      · refine rn_iload_n dX11_placement_33 rfl ?_
        refine rn_tableIn (tgt := 82) dX11_placement_34 (by decide) (by decide) rfl (by decide) ?_
        refine rn_aload_n dX11_placement_82 rfl ?_
        refine rn_get dX11_placement_83 lfX11_40 hX rfl ?_
        refine rn_iload_n dX11_placement_86 rfl ?_
        refine rn_callV dX11_placement_87 lmX11_209 ⟨Nat.le_of_ble_eq_true rfl, Nat.le_of_ble_eq_true rfl⟩ (ct_cornerOf g f1 hL1 hLS.1 hlt hl1280) hL1.1 rfl rfl (Nat.le_of_ble_eq_true rfl) ?_
        rintro _ _ ⟨rfl, rfl⟩
        refine rn_iret dX11_placement_90 rfl ?_
        exact ⟨k1, ⟨_, _, _, hI1⟩, rfl⟩
      · refine rn_iload_n dX11_placement_33 rfl ?_
        refine rn_tableIn (tgt := 91) dX11_placement_34 (by decide) (by decide) rfl (by decide) ?_
        refine rn_aload_n dX11_placement_91 rfl ?_
        refine rn_get dX11_placement_92 lfX11_40 hX rfl ?_
        refine rn_iload_n dX11_placement_95 rfl ?_
        refine rn_callV dX11_placement_96 lmX11_212 ⟨Nat.le_of_ble_eq_true rfl, Nat.le_of_ble_eq_true rfl⟩ (ct_maskOf g f1 hL1 hlt hl1280) hL1.1 rfl rfl (Nat.le_of_ble_eq_true rfl) ?_
        rintro _ _ ⟨rfl, rfl⟩
        refine rn_callS dX11_placement_99 lmX11_216 ⟨Nat.le_of_ble_eq_true rfl, Nat.le_of_ble_eq_true rfl⟩ (ct_smallestCell g f1 h64) rfl rfl (Nat.le_of_ble_eq_true rfl) ?_
        rintro _ _ ⟨rfl, rfl⟩
        refine rn_iret dX11_placement_102 rfl ?_
        exact ⟨k1, ⟨_, _, _, hI1⟩, rfl⟩
      · refine rn_iload_n dX11_placement_33 rfl ?_
        refine rn_tableOut (tgt := 103) dX11_placement_34 (by decide) (by decide) ?_
        refine rn_aload_n dX11_placement_103 rfl ?_
        refine rn_get dX11_placement_104 lfX11_40 hX rfl ?_
        refine rn_iload_n dX11_placement_107 rfl ?_
        refine rn_callV dX11_placement_108 lmX11_212 ⟨Nat.le_of_ble_eq_true rfl, Nat.le_of_ble_eq_true rfl⟩ (ct_maskOf g f1 hL1 hlt hl1280) hL1.1 rfl rfl (Nat.le_of_ble_eq_true rfl) ?_
        rintro _ _ ⟨rfl, rfl⟩
        refine rn_callS dX11_placement_111 lmX11_220 ⟨Nat.le_of_ble_eq_true rfl, Nat.le_of_ble_eq_true rfl⟩ (ct_greatestCell g f1 h64) rfl rfl (Nat.le_of_ble_eq_true rfl) ?_
        rintro _ _ ⟨rfl, kk, g1, rfl, g2, g3⟩
        refine rn_iret dX11_placement_114 rfl ?_
        exact ⟨k1, ⟨_, _, _, hI1⟩, by rw [← gtk_gr g1 g2 g3]; rfl⟩
    refine rn_iload_n dX11_placement_0 rfl ?_
    refine rn_if_lt (tgt := 13) dX11_placement_1 (by decide) (fun c1 => ?_) (fun c1 => ?_)
    · exact absurd c1 hx
    · refine rn_iload_n dX11_placement_4 rfl ?_
      refine rn_iconst (v := nI 0) dX11_placement_5 (by decide) ?_
      refine rn_iconst (v := nI 4) dX11_placement_6 (by decide) ?_
      refine rn_callS dX11_placement_7 lmX11_93 ⟨Nat.le_of_ble_eq_true rfl, Nat.le_of_ble_eq_true rfl⟩ (ct_isWithin g f (nI i) (nI 0) (nI 4)) rfl rfl (Nat.le_of_ble_eq_true rfl) ?_
      rintro _ _ ⟨rfl, rfl⟩
      rw [in_5, hin]
      refine rn_if_ne (tgt := 15) dX11_placement_10 (by decide) (fun c10 => ?_) (fun c10 => ?_)
      · refine rn_aload_n dX11_placement_15 rfl ?_
        refine rn_callV dX11_placement_16 lmX11_174 ⟨Nat.le_of_ble_eq_true rfl, Nat.le_of_ble_eq_true rfl⟩ (cc_placeAll g f hI hV) hI.1 rfl rfl (Nat.le_of_ble_eq_true rfl) ?_
        rintro _ f1 ⟨rfl, k1, hI1⟩
        obtain ⟨-, hL1, -⟩ := hI1.2.2.2.2.2.1 rfl
        refine rn_iload_n dX11_placement_19 rfl ?_
        refine rn_aload_n dX11_placement_20 rfl ?_
        refine rn_get dX11_placement_21 lfX11_40 hI1.1 rfl ?_
        refine rn_get dX11_placement_24 lfX11_177 hL1.1 rfl ?_
        refine rn_icmp_lt (tgt := 33) dX11_placement_27 (by decide) (fun c27 => ?_) (fun c27 => ?_)
        · exact at33 f1 k1 hI1 ((nI_ltI hk (by omega)).mp c27)
        · refine rn_bipush (v := (-9)) dX11_placement_30 (by decide) ?_
          refine rn_iret dX11_placement_32 rfl ?_
          exact ⟨k1, ⟨_, _, _, hI1⟩, by rw [aPl, if_neg hx, if_pos hin, nI_clamp hk, if_neg (fun h => c27 ((nI_ltI hk (by omega)).mpr h))]⟩
      · exact absurd c10 (by decide)
