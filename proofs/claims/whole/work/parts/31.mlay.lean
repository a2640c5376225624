theorem cm_cellsOf (g : GG) (f : Mm) {wi s : Nat → Int32} {cv : Int64} {P : PS} {t co c : Nat} (hM : f 75 = some (MO wi cv)) (hs : AR f 76 73 s) (hP : SP s P) (hV : VD P) (ht : t < 65536) (hco : co < 4) (hc : c < pW P * pH P) : Ct g MX12_cellsOf [.ref 75, .int (nI t), .int (nI (c % pW P)), .int (nI (c / pW P)), .int (nI co)] f 0 0 (fun r f' => f = f' ∧ r = some (.long (lN (ly P t co c)))) := by
  refine Ct.of ok_MX12_cellsOf (Nat.le_of_ble_eq_true rfl) ?_
  change Wp g MX12_cellsOf 0 [some (.ref 75), some (.int (nI t)), some (.int (nI (c % pW P))), some (.int (nI (c / pW P))), some (.int (nI co)), none, none, none, none, none, none] [] f 0 0 _
  have ha := hV.area
  obtain ⟨v1, v2, v3, v4, v5⟩ := id hV
  obtain ⟨b, hb0, hba⟩ := id hs
  have hx0 : c % pW P < pW P := Nat.mod_lt _ (by omega)
  have hy0 : c / pW P < pH P := by
    rw [Nat.div_lt_iff_lt_mul (by omega), Nat.mul_comm]; exact hc
  have hw0 : b (nI 0).toNatClampNeg = nI (pW P) := by rw [nI_clamp (by decide), hba 0 (by omega), hP.1]
  have hw1 : b (nI 1).toNatClampNeg = nI (pH P) := by rw [nI_clamp (by decide), hba 1 (by omega), hP.2.1]
  have loop : ∀ (d i m : Nat) (w8 w9 w10 : Option Value), 16 - i = d → i ≤ 16 → layk P t co (c % pW P) (c / pW P) i = some m → Wp g MX12_cellsOf 6 [some (.ref 75), some (.int (nI t)), some (.int (nI (c % pW P))), some (.int (nI (c / pW P))), some (.int (nI co)), some (.long (lN m)), none, some (.int (nI i)), w8, w9, w10] [] f 0 0 (fun r f' => f = f' ∧ r = some (.long (lN (ly P t co c)))) := by
    intro d
    induction d using Nat.strongRecOn with
    | ind d ih =>
      intro i m w8 w9 w10 hd hi hm
      refine Wp.sub (lv' := [some (.ref 75), some (.int (nI t)), some (.int (nI (c % pW P))), some (.int (nI (c / pW P))), some (.int (nI co)), some (.long (lN m)), none, some (.int (nI i)), none, none, none]) (fun i v hv => ?_) ?_
      · match i, hv with
        | 0, hv => exact hv
        | 1, hv => exact hv
        | 2, hv => exact hv
        | 3, hv => exact hv
        | 4, hv => exact hv
        | 5, hv => exact hv
        | 6, hv => cases hv
        | 7, hv => exact hv
        | 8, hv => cases hv
        | 9, hv => cases hv
        | 10, hv => cases hv
      have hml := layk_lt hm
      have h36 := pw_36 ha
      have hle : t / 2 ^ i ≤ t := Nat.div_le_self _ _
      refine rn_iload dX12_cellsOf_6 rfl ?_
      refine rn_bipush (v := nI 16) dX12_cellsOf_8 (by decide) ?_
      refine rn_icmp_ge (tgt := 127) dX12_cellsOf_10 (by decide) (fun c10 => ?_) (fun c10 => ?_)
      · refine rn_lload dX12_cellsOf_127 rfl ?_
        refine rn_lret dX12_cellsOf_129 rfl ?_
        have hi2 := ge_ex c10 (by omega) (by decide)
        rw [show i = 16 by omega] at hm
        exact ⟨rfl, by rw [ly_some hm]⟩
      · have hi2 := ge_in c10 (by omega)
        refine rn_iload_n dX12_cellsOf_13 rfl ?_
        refine rn_iload dX12_cellsOf_14 rfl ?_
        refine rn_ishr dX12_cellsOf_16 ?_
        rw [nb_shr (by omega) (by omega)]
        refine rn_iconst (v := nI 1) dX12_cellsOf_17 (by decide) ?_
        refine rn_iand dX12_cellsOf_18 ?_
        rw [show (nI 1 : Int32) = nI (2 ^ 1 - 1) from rfl, nb_and (by omega) (by decide), Nat.and_two_pow_sub_one_eq_mod, show (2 ^ 1 : Nat) = 2 from rfl]
        refine rn_iconst (v := nI 1) dX12_cellsOf_19 (by decide) ?_
        refine rn_icmp_ne (tgt := 121) dX12_cellsOf_20 (by decide) (fun c20 => ?_) (fun c20 => ?_)
        · refine rn_iinc (v := nI (i + 1)) dX12_cellsOf_121 rfl (nI_1 i) (Nat.le_of_ble_eq_true rfl) rfl ?_
          refine rn_goto (tgt := 6) dX12_cellsOf_124 (by decide) ?_
          have hb : t.testBit i = false := by
            rw [tb_eq, decide_eq_false]
            exact fun q => c20 (by rw [q])
          exact ih _ (by omega) (i + 1) m none none none rfl (by omega) (layk_skip hm hb)
        · have hb : t.testBit i = true := by rw [tb_eq, (nI_eq (a := t / 2 ^ i % 2) (b := 1) (by omega) (by decide)).mp c20]; rfl
          refine rn_iload_n dX12_cellsOf_23 rfl ?_
          refine rn_iload dX12_cellsOf_24 rfl ?_
          refine rn_iconst (v := nI 4) dX12_cellsOf_26 (by decide) ?_
          refine rn_irem dX12_cellsOf_27 (by decide) ?_
          rw [pk_rem (by omega) (by decide) (by decide)]
          refine rn_iadd dX12_cellsOf_28 ?_
          rw [nI_add]
          refine rn_istore dX12_cellsOf_29 (Nat.le_of_ble_eq_true rfl) rfl ?_
          refine rn_iload_n dX12_cellsOf_31 rfl ?_
          refine rn_iload dX12_cellsOf_32 rfl ?_
          refine rn_iconst (v := nI 4) dX12_cellsOf_34 (by decide) ?_
          refine rn_idiv dX12_cellsOf_35 (by decide) ?_
          rw [pk_div (by omega) (by decide) (by decide)]
          refine rn_iadd dX12_cellsOf_36 ?_
          rw [nI_add]
          refine rn_istore dX12_cellsOf_37 (Nat.le_of_ble_eq_true rfl) rfl ?_
          refine rn_iload dX12_cellsOf_39 rfl ?_
          refine rn_aload_n dX12_cellsOf_41 rfl ?_
          refine rn_get dX12_cellsOf_42 lfX12_7 hM rfl ?_
          refine rn_iconst (v := nI 0) dX12_cellsOf_45 (by decide) ?_
          refine rn_iald dX12_cellsOf_46 hb0 (vp_in_nI (show 0 < 73 by omega) (by decide)) ?_
          rw [hw0]
          refine rn_imul dX12_cellsOf_47 ?_
          refine rn_iload dX12_cellsOf_48 rfl ?_
          refine rn_iadd dX12_cellsOf_50 ?_
          rw [pk_mul, nI_add]
          refine rn_istore dX12_cellsOf_51 (Nat.le_of_ble_eq_true rfl) rfl ?_
          refine rn_iload dX12_cellsOf_53 rfl ?_
          refine rn_aload_n dX12_cellsOf_55 rfl ?_
          refine rn_get dX12_cellsOf_56 lfX12_7 hM rfl ?_
          refine rn_iconst (v := nI 0) dX12_cellsOf_59 (by decide) ?_
          refine rn_iald dX12_cellsOf_60 hb0 (vp_in_nI (show 0 < 73 by omega) (by decide)) ?_
          rw [hw0]
          refine rn_icmp_ge (tgt := 110) dX12_cellsOf_61 (by decide) (fun c61 => ?_) (fun c61 => ?_)
          · refine rn_lconst (v := 0) dX12_cellsOf_110 (by decide) ?_
            refine rn_lret dX12_cellsOf_111 rfl ?_
            have hnone := layk_off hm hb (by simp only [lyOk, decide_eq_false (show ¬ c % pW P + i % 4 < pW P by have := ge_ex c61 (by omega) (by omega); omega), Bool.false_and])
            exact ⟨rfl, by rw [ly_none (by omega) hnone]; rfl⟩
          · refine rn_iload dX12_cellsOf_64 rfl ?_
            refine rn_aload_n dX12_cellsOf_66 rfl ?_
            refine rn_get dX12_cellsOf_67 lfX12_7 hM rfl ?_
            refine rn_iconst (v := nI 1) dX12_cellsOf_70 (by decide) ?_
            refine rn_iald dX12_cellsOf_71 hb0 (vp_in_nI (show 1 < 73 by omega) (by decide)) ?_
            rw [hw1]
            refine rn_icmp_ge (tgt := 110) dX12_cellsOf_72 (by decide) (fun c72 => ?_) (fun c72 => ?_)
            · refine rn_lconst (v := 0) dX12_cellsOf_110 (by decide) ?_
              refine rn_lret dX12_cellsOf_111 rfl ?_
              have hnone := layk_off hm hb (by simp only [lyOk, decide_eq_false (show ¬ c / pW P + i / 4 < pH P by have := ge_ex c72 (by omega) (by omega); omega), Bool.false_and, Bool.and_false])
              exact ⟨rfl, by rw [ly_none (by omega) hnone]; rfl⟩
            · have hxx := ge_in c61 (by omega)
              have hyy := ge_in c72 (by omega)
              have hcl := cell_lt hxx hyy
              have hsc := hP.2.2.2.2.2.1 _ hcl
              refine rn_aload_n dX12_cellsOf_75 rfl ?_
              refine rn_iload dX12_cellsOf_76 rfl ?_
              refine rn_callV dX12_cellsOf_78 lmX12_76 ⟨Nat.le_of_ble_eq_true rfl, Nat.le_of_ble_eq_true rfl⟩ (cm_isOpen g f (i := (c / pW P + i / 4) * pW P + (c % pW P + i % 4)) hM hs (by omega)) hM rfl rfl (Nat.le_of_ble_eq_true rfl) ?_
              rintro _ _ ⟨rfl, rfl⟩
              rw [hsc]
              refine rn_if_eq (tgt := 110) dX12_cellsOf_81 (by decide) (fun c81 => ?_) (fun c81 => ?_)
              · refine rn_lconst (v := 0) dX12_cellsOf_110 (by decide) ?_
                refine rn_lret dX12_cellsOf_111 rfl ?_
                have hop := Classical.not_not.mp (of_decide_eq_false (bI_0.mp c81))
                have hne : ¬ (-1 : Int32) = nI co := fun q => by
                  have q2 : (nI co).toInt = (co : Int) := nI_toInt (by omega)
                  rw [← q] at q2
                  have q3 : (-1 : Int32).toInt = -1 := by decide
                  omega
                have hnone := layk_off hm hb (by simp only [lyOk, hop, decide_eq_false (show ¬ (-1 : Int32) = 0 by decide), decide_eq_false hne, Bool.or_false, Bool.and_false])
                exact ⟨rfl, by rw [ly_none (by omega) hnone]; rfl⟩
              · refine rn_aload_n dX12_cellsOf_84 rfl ?_
                refine rn_get dX12_cellsOf_85 lfX12_7 hM rfl ?_
                refine rn_iconst (v := nI 5) dX12_cellsOf_88 (by decide) ?_
                refine rn_iload dX12_cellsOf_89 rfl ?_
                refine rn_iadd dX12_cellsOf_91 ?_
                rw [nI_add]
                refine rn_iald dX12_cellsOf_92 hb0 (vp_in_nI (show 5 + ((c / pW P + i / 4) * pW P + (c % pW P + i % 4)) < 73 by omega) (by decide)) ?_
                rw [nI_clamp (by omega), hba _ (by omega), hsc]
                refine rn_if_eq (tgt := 112) dX12_cellsOf_93 (by decide) (fun c93 => ?_) (fun c93 => ?_)
                · refine rn_lload dX12_cellsOf_112 rfl ?_
                  refine rn_lconst (v := 1) dX12_cellsOf_114 (by decide) ?_
                  refine rn_iload dX12_cellsOf_115 rfl ?_
                  refine rn_lshl dX12_cellsOf_117 ?_
                  refine rn_lor dX12_cellsOf_118 ?_
                  rw [show (1 : Int64) = lN 1 from rfl, wb_shl 1 (by omega), Nat.one_mul, wb_or (by omega) (Nat.pow_lt_pow_right (by decide) (by omega))]
                  refine rn_lstore dX12_cellsOf_119 (Nat.le_of_ble_eq_true rfl) rfl ?_
                  refine rn_iinc (v := nI (i + 1)) dX12_cellsOf_121 rfl (nI_1 i) (Nat.le_of_ble_eq_true rfl) rfl ?_
                  refine rn_goto (tgt := 6) dX12_cellsOf_124 (by decide) ?_
                  have hon := layk_on hm hb (by rw [lyOk, decide_eq_true hxx, decide_eq_true hyy, decide_eq_true c93]; rfl)
                  exact ih _ (by omega) (i + 1) _ _ _ _ rfl (by omega) hon
                · refine rn_aload_n dX12_cellsOf_96 rfl ?_
                  refine rn_get dX12_cellsOf_97 lfX12_7 hM rfl ?_
                  refine rn_iconst (v := nI 5) dX12_cellsOf_100 (by decide) ?_
                  refine rn_iload dX12_cellsOf_101 rfl ?_
                  refine rn_iadd dX12_cellsOf_103 ?_
                  rw [nI_add]
                  refine rn_iald dX12_cellsOf_104 hb0 (vp_in_nI (show 5 + ((c / pW P + i / 4) * pW P + (c % pW P + i % 4)) < 73 by omega) (by decide)) ?_
                  rw [nI_clamp (by omega), hba _ (by omega), hsc]
                  refine rn_iload dX12_cellsOf_105 rfl ?_
                  refine rn_icmp_eq (tgt := 112) dX12_cellsOf_107 (by decide) (fun c107 => ?_) (fun c107 => ?_)
                  · refine rn_lload dX12_cellsOf_112 rfl ?_
                    refine rn_lconst (v := 1) dX12_cellsOf_114 (by decide) ?_
                    refine rn_iload dX12_cellsOf_115 rfl ?_
                    refine rn_lshl dX12_cellsOf_117 ?_
                    refine rn_lor dX12_cellsOf_118 ?_
                    rw [show (1 : Int64) = lN 1 from rfl, wb_shl 1 (by omega), Nat.one_mul, wb_or (by omega) (Nat.pow_lt_pow_right (by decide) (by omega))]
                    refine rn_lstore dX12_cellsOf_119 (Nat.le_of_ble_eq_true rfl) rfl ?_
                    refine rn_iinc (v := nI (i + 1)) dX12_cellsOf_121 rfl (nI_1 i) (Nat.le_of_ble_eq_true rfl) rfl ?_
                    refine rn_goto (tgt := 6) dX12_cellsOf_124 (by decide) ?_
                    have hon := layk_on hm hb (by rw [lyOk, decide_eq_true hxx, decide_eq_true hyy, decide_eq_true c107, Bool.or_true]; rfl)
                    exact ih _ (by omega) (i + 1) _ _ _ _ rfl (by omega) hon
                  · refine rn_lconst (v := 0) dX12_cellsOf_110 (by decide) ?_
                    refine rn_lret dX12_cellsOf_111 rfl ?_
                    have hnone := layk_off hm hb (by simp only [lyOk, decide_eq_false c93, decide_eq_false c107, Bool.or_false, Bool.and_false])
                    exact ⟨rfl, by rw [ly_none (by omega) hnone]; rfl⟩
  refine rn_lconst (v := 0) dX12_cellsOf_0 (by decide) ?_
  refine rn_lstore dX12_cellsOf_1 (Nat.le_of_ble_eq_true rfl) rfl ?_
  refine rn_iconst (v := nI 0) dX12_cellsOf_3 (by decide) ?_
  refine rn_istore dX12_cellsOf_4 (Nat.le_of_ble_eq_true rfl) rfl ?_
  exact loop 16 0 0 none none none rfl (by omega) rfl
/-- a long array of N, up to N, of numbers -/
def AL (f : Mm) (q N : Nat) (a : Nat → Nat) : Prop := ∃ b : Nat → Int64, f q = some (.inl (1, N, .inr (.inl b))) ∧ ∀ i, i < N → b i = lN (a i)
theorem AL.keep {f f' : Mm} {q N : Nat} {a : Nat → Nat} (h : AL f q N a) (e : f' q = f q) : AL f' q N a := by
  obtain ⟨b, h1, h2⟩ := h
  exact ⟨b, e.trans h1, h2⟩
theorem AL.to {f : Mm} {q N : Nat} {a a' : Nat → Nat} (h : AL f q N a) (e : ∀ i, i < N → a i = a' i) : AL f q N a' := by
  obtain ⟨b, h1, h2⟩ := h
  exact ⟨b, h1, fun i hi => by rw [h2 i hi, e i hi]⟩
theorem cm_has (g : GG) (f : Mm) {wi : Nat → Int32} {cv : Int64} {B : Nat → Nat} {k c : Nat} (hM : f 75 = some (MO wi cv)) (hB : AL f 83 2304 B) (hk : k < 2304) (hc : c < 64) (hb : B k < 2 ^ 62) : Ct g MX12_has [.ref 75, .int (nI k), .int (nI c)] f 0 0 (fun r f' => f = f' ∧ r = some (.int (bI ((B k).testBit c)))) := by
  refine Ct.of ok_MX12_has (Nat.le_of_ble_eq_true rfl) ?_
  change Wp g MX12_has 0 [some (.ref 75), some (.int (nI k)), some (.int (nI c))] [] f 0 0 _
  obtain ⟨b, hb0, hba⟩ := id hB
  have hle : B k / 2 ^ c ≤ B k := Nat.div_le_self _ _
  refine rn_aload_n dX12_has_0 rfl ?_
  refine rn_get dX12_has_1 lfX12_32 hM rfl ?_
  refine rn_iload_n dX12_has_4 rfl ?_
  refine rn_lald dX12_has_5 hb0 (vp_in_nI hk (by decide)) ?_
  rw [nI_clamp (by omega), hba k hk]
  refine rn_iload_n dX12_has_6 rfl ?_
  refine rn_lshr dX12_has_7 ?_
  refine rn_lconst (v := 1) dX12_has_8 (by decide) ?_
  refine rn_land dX12_has_9 ?_
  rw [lb_bit hb hc]
  refine rn_lconst (v := 1) dX12_has_10 (by decide) ?_
  refine rn_lcmp dX12_has_11 ?_
  refine rn_if_ne (tgt := 19) dX12_has_12 (by decide) (fun c12 => ?_) (fun c12 => ?_)
  · refine rn_iconst (v := nI 0) dX12_has_19 (by decide) ?_
    refine rn_zret dX12_has_20 rfl rfl ?_
    have hne : ¬ B k / 2 ^ c % 2 = 1 := fun q => c12 ((lg_cmp_eq _ _).mpr (by rw [q]; rfl))
    exact ⟨rfl, by rw [tb_eq, decide_eq_false hne]; rfl⟩
  · refine rn_iconst (v := nI 1) dX12_has_15 (by decide) ?_
    refine rn_goto (tgt := 20) dX12_has_16 (by decide) ?_
    refine rn_zret dX12_has_20 rfl rfl ?_
    have e := (lg_cmp_eq _ _).mp c12
    have e2 : B k / 2 ^ c % 2 = 1 := (lb_eq (b := 1) (by omega) (by decide)).mp e
    exact ⟨rfl, by rw [tb_eq, decide_eq_true e2]; rfl⟩
