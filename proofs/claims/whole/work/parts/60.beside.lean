-- cells that touch
def bsO (P : PS) (c : Nat) : Nat := ((if 0 < c % pW P then 2 ^ (c - 1) else 0) ||| (if c % pW P + 1 < pW P then 2 ^ (c + 1) else 0)) ||| ((if pW P ≤ c then 2 ^ (c - pW P) else 0) ||| (if c + pW P < pW P * pH P then 2 ^ (c + pW P) else 0))
def bsk (P : PS) (m : Nat) : Nat → Nat
  | 0 => 0
  | c + 1 => if m.testBit c then bsk P m c ||| bsO P c else bsk P m c
def bsR (P : PS) (a c : Nat) : Prop := (0 < a % pW P ∧ c = a - 1) ∨ (a % pW P + 1 < pW P ∧ c = a + 1) ∨ (pW P ≤ a ∧ c = a - pW P) ∨ (a + pW P < pW P * pH P ∧ c = a + pW P)
theorem if_bit (q : Prop) [Decidable q] (n c : Nat) : (if q then 2 ^ n else 0).testBit c = true ↔ q ∧ c = n := by
  by_cases h : q
  · rw [if_pos h, Nat.testBit_two_pow, decide_eq_true_eq]
    exact ⟨fun e => ⟨h, e.symm⟩, fun e => e.2.symm⟩
  · rw [if_neg h]
    simp [h]
theorem bsO_bit (P : PS) (a c : Nat) : (bsO P a).testBit c = true ↔ bsR P a c := by
  unfold bsO bsR
  rw [Nat.testBit_or, Nat.testBit_or, Nat.testBit_or, Bool.or_eq_true, Bool.or_eq_true, Bool.or_eq_true, if_bit, if_bit, if_bit, if_bit, or_assoc]
theorem bsk_bit (P : PS) (m c : Nat) : ∀ n, (bsk P m n).testBit c = true ↔ ∃ a, a < n ∧ m.testBit a = true ∧ bsR P a c
  | 0 => by simp [bsk]
  | n + 1 => by
    have ih := bsk_bit P m c n
    cases hm : m.testBit n with
    | false =>
      rw [bsk, hm]
      simp only [Bool.false_eq_true, if_false]
      rw [ih]
      constructor
      · rintro ⟨a, h1, h2⟩; exact ⟨a, by omega, h2⟩
      · rintro ⟨a, h1, h2, h3⟩
        by_cases e : a = n
        · rw [e, hm] at h2; cases h2
        · exact ⟨a, by omega, h2, h3⟩
    | true =>
      rw [bsk, hm, if_pos rfl, Nat.testBit_or, Bool.or_eq_true, ih, bsO_bit]
      constructor
      · rintro (⟨a, h1, h2⟩ | h)
        · exact ⟨a, by omega, h2⟩
        · exact ⟨n, by omega, hm, h⟩
      · rintro ⟨a, h1, h2, h3⟩
        by_cases e : a = n
        · rw [e] at h3; exact Or.inr h3
        · exact Or.inl ⟨a, by omega, h2, h3⟩
theorem row_lt {w h c : Nat} (hc : c < w * h) (hx : c % w + 1 < w) : c + 1 < w * h := by
  have h1 := Nat.div_add_mod c w
  have h2 : c / w < h := Nat.div_lt_of_lt_mul hc
  have h3 : w * (c / w + 1) ≤ w * h := Nat.mul_le_mul_left w h2
  rw [Nat.mul_add, Nat.mul_one] at h3
  omega
theorem bsO_lt {P : PS} {a : Nat} (ha : a < pW P * pH P) : bsO P a < 2 ^ (pW P * pH P) := by
  have hp := Nat.two_pow_pos (pW P * pH P)
  have hz : ∀ (q : Prop) [Decidable q] (n : Nat), (q → n < pW P * pH P) → (if q then 2 ^ n else 0) < 2 ^ (pW P * pH P) := fun q _ n h => by
    by_cases hq : q
    · rw [if_pos hq]; exact Nat.pow_lt_pow_right (by decide) (h hq)
    · rw [if_neg hq]; exact hp
  exact Nat.or_lt_two_pow (Nat.or_lt_two_pow (hz _ _ (fun _ => by omega)) (hz _ _ (fun h => row_lt ha h))) (Nat.or_lt_two_pow (hz _ _ (fun _ => by omega)) (hz _ _ (fun h => h)))
theorem bsk_lt {P : PS} {m : Nat} : ∀ n, n ≤ pW P * pH P → bsk P m n < 2 ^ (pW P * pH P)
  | 0, _ => Nat.two_pow_pos _
  | n + 1, h => by
    rw [bsk]
    split
    · exact Nat.or_lt_two_pow (bsk_lt n (by omega)) (bsO_lt (by omega))
    · exact bsk_lt n (by omega)
abbrev bsP (P : PS) (m : Nat) : Nat := bsk P m (pW P * pH P)
theorem cm_beside (g : GG) (f : Mm) {wi s : Nat → Int32} {cv : Int64} {P : PS} {m : Nat} (hM : f 75 = some (MO wi cv)) (hs : AR f 76 73 s) (hP : SP s P) (hV : VD P) (hm : m < 2 ^ 36) : Ct g MX12_beside [.ref 75, .long (lN m)] f 0 0 (fun r f' => f = f' ∧ r = some (.long (lN (bsP P m)))) := by
  refine Ct.of ok_MX12_beside (Nat.le_of_ble_eq_true rfl) ?_
  change Wp g MX12_beside 0 [some (.ref 75), some (.long (lN m)), none, none, none, none, none] [] f 0 0 _
  have ha := hV.area
  have h36 := pw_36 ha
  obtain ⟨v1, v2, v3, v4, -⟩ := id hV
  obtain ⟨b, hb, hba⟩ := id hs
  have hw : b 0 = nI (pW P) := (hba 0 (by omega)).trans hP.1
  have sh1 : ∀ k, k < 36 → (1 : Int64) <<< ((nI k).toInt64 &&& 63) = lN (2 ^ k) := fun k hk => by
    rw [show (1 : Int64) = lN 1 from rfl, wb_shl 1 (by omega), Nat.one_mul]
  have p36 : ∀ k, k < 36 → 2 ^ k < 2 ^ 36 := fun k hk => Nat.pow_lt_pow_right (by decide) hk
  have orl : ∀ {a c : Nat}, a < 2 ^ 36 → c < 2 ^ 36 → lN a ||| lN c = lN (a ||| c) ∧ a ||| c < 2 ^ 36 := fun h1 h2 => ⟨wb_or (by omega) (by omega), Nat.or_lt_two_pow h1 h2⟩
  have loop : ∀ (d c : Nat) (w6 : Option Value), pW P * pH P - c = d → c ≤ pW P * pH P → Wp g MX12_beside 5 [some (.ref 75), some (.long (lN m)), none, some (.long (lN (bsk P m c))), none, some (.int (nI c)), w6] [] f 0 0 (fun r f' => f = f' ∧ r = some (.long (lN (bsP P m)))) := by
    intro d
    induction d using Nat.strongRecOn with
    | ind d ih =>
      intro c w6 hd hc
      have hbl : bsk P m c < 2 ^ 36 := Nat.lt_of_lt_of_le (bsk_lt c hc) h36
      -- the last of the four
      have s4 : ∀ (y : Nat) (w6 : Option Value), c < pW P * pH P → m.testBit c = true → y < 2 ^ 36 → y ||| (if c + pW P < pW P * pH P then 2 ^ (c + pW P) else 0) = bsk P m c ||| bsO P c → Wp g MX12_beside 109 [some (.ref 75), some (.long (lN m)), none, some (.long (lN y)), none, some (.int (nI c)), w6] [] f 0 0 (fun r f' => f = f' ∧ r = some (.long (lN (bsP P m)))) := by
        intro y w6 hc2 hmc hy he
        have e := ih _ (by omega) (c + 1) w6 rfl (by omega)
        rw [show bsk P m (c + 1) = bsk P m c ||| bsO P c by rw [bsk, hmc, if_pos rfl], ← he] at e
        refine rn_lload_n dX12_beside_109 rfl ?_
        refine rn_iload dX12_beside_110 rfl ?_
        refine rn_aload_n dX12_beside_112 rfl ?_
        refine rn_get dX12_beside_113 lfX12_7 hM rfl ?_
        refine rn_iconst (v := nI 0) dX12_beside_116 (by decide) ?_
        refine rn_iald dX12_beside_117 hb (vp_in_nI (show 0 < 73 by omega) (by decide)) ?_
        rw [nI_clamp (by decide), hw]
        refine rn_iadd dX12_beside_118 ?_
        rw [nI_add]
        refine rn_aload_n dX12_beside_119 rfl ?_
        refine rn_callV dX12_beside_120 lmX12_68 ⟨Nat.le_of_ble_eq_true rfl, Nat.le_of_ble_eq_true rfl⟩ (cm_cells g f hM hs hP) hM rfl rfl (Nat.le_of_ble_eq_true rfl) ?_
        rintro _ _ ⟨rfl, rfl⟩
        refine rn_icmp_ge (tgt := 140) dX12_beside_123 (by decide) (fun c123 => ?_) (fun c123 => ?_)
        · refine rn_lconst (v := 0) dX12_beside_140 (by decide) ?_
          refine rn_lor dX12_beside_141 ?_
          refine rn_lstore_n dX12_beside_142 (Nat.le_of_ble_eq_true rfl) rfl ?_
          refine rn_iinc (v := nI (c + 1)) dX12_beside_143 rfl (nI_1 c) (Nat.le_of_ble_eq_true rfl) rfl ?_
          refine rn_goto (tgt := 5) dX12_beside_146 (by decide) ?_
          rw [if_neg (by have := ge_ex c123 (by omega) (by omega); omega)] at e
          rw [show (0 : Int64) = lN 0 from rfl, (orl hy (by decide)).1]
          exact e
        · refine rn_lconst (v := 1) dX12_beside_126 (by decide) ?_
          refine rn_iload dX12_beside_127 rfl ?_
          refine rn_aload_n dX12_beside_129 rfl ?_
          refine rn_get dX12_beside_130 lfX12_7 hM rfl ?_
          refine rn_iconst (v := nI 0) dX12_beside_133 (by decide) ?_
          refine rn_iald dX12_beside_134 hb (vp_in_nI (show 0 < 73 by omega) (by decide)) ?_
          rw [nI_clamp (by decide), hw]
          refine rn_iadd dX12_beside_135 ?_
          rw [nI_add]
          refine rn_lshl dX12_beside_136 ?_
          refine rn_goto (tgt := 141) dX12_beside_137 (by decide) ?_
          refine rn_lor dX12_beside_141 ?_
          refine rn_lstore_n dX12_beside_142 (Nat.le_of_ble_eq_true rfl) rfl ?_
          refine rn_iinc (v := nI (c + 1)) dX12_beside_143 rfl (nI_1 c) (Nat.le_of_ble_eq_true rfl) rfl ?_
          refine rn_goto (tgt := 5) dX12_beside_146 (by decide) ?_
          have h3 := ge_in c123 (by omega)
          rw [if_pos h3] at e
          rw [sh1 _ (by omega), (orl hy (p36 _ (by omega))).1]
          exact e
      have s3 : ∀ (y : Nat) (w6 : Option Value), c < pW P * pH P → m.testBit c = true → y < 2 ^ 36 → (y ||| (if pW P ≤ c then 2 ^ (c - pW P) else 0)) ||| (if c + pW P < pW P * pH P then 2 ^ (c + pW P) else 0) = bsk P m c ||| bsO P c → Wp g MX12_beside 80 [some (.ref 75), some (.long (lN m)), none, some (.long (lN y)), none, some (.int (nI c)), w6] [] f 0 0 (fun r f' => f = f' ∧ r = some (.long (lN (bsP P m)))) := by
        intro y w6 hc2 hmc hy he
        refine rn_lload_n dX12_beside_80 rfl ?_
        refine rn_iload dX12_beside_81 rfl ?_
        refine rn_aload_n dX12_beside_83 rfl ?_
        refine rn_get dX12_beside_84 lfX12_7 hM rfl ?_
        refine rn_iconst (v := nI 0) dX12_beside_87 (by decide) ?_
        refine rn_iald dX12_beside_88 hb (vp_in_nI (show 0 < 73 by omega) (by decide)) ?_
        rw [nI_clamp (by decide), hw]
        refine rn_icmp_lt (tgt := 106) dX12_beside_89 (by decide) (fun c89 => ?_) (fun c89 => ?_)
        · refine rn_lconst (v := 0) dX12_beside_106 (by decide) ?_
          refine rn_lor dX12_beside_107 ?_
          refine rn_lstore_n dX12_beside_108 (Nat.le_of_ble_eq_true rfl) rfl ?_
          have h3 : c < pW P := Nat.lt_of_not_le fun q => absurd c89 (nI_nlt q (by omega))
          rw [if_neg (by omega)] at he
          rw [show (0 : Int64) = lN 0 from rfl, (orl hy (by decide)).1]
          exact s4 _ _ hc2 hmc (orl hy (by decide)).2 he
        · refine rn_lconst (v := 1) dX12_beside_92 (by decide) ?_
          refine rn_iload dX12_beside_93 rfl ?_
          refine rn_aload_n dX12_beside_95 rfl ?_
          refine rn_get dX12_beside_96 lfX12_7 hM rfl ?_
          refine rn_iconst (v := nI 0) dX12_beside_99 (by decide) ?_
          refine rn_iald dX12_beside_100 hb (vp_in_nI (show 0 < 73 by omega) (by decide)) ?_
          rw [nI_clamp (by decide), hw]
          refine rn_isub dX12_beside_101 ?_
          refine rn_lshl dX12_beside_102 ?_
          refine rn_goto (tgt := 107) dX12_beside_103 (by decide) ?_
          refine rn_lor dX12_beside_107 ?_
          refine rn_lstore_n dX12_beside_108 (Nat.le_of_ble_eq_true rfl) rfl ?_
          have h3 : pW P ≤ c := Nat.le_of_not_lt fun q => c89 (nI_lt q (by omega))
          rw [if_pos h3] at he
          rw [show nI c - nI (pW P) = nI (c - pW P) from pk_sub h3, sh1 _ (by omega), (orl hy (p36 _ (by omega))).1]
          exact s4 _ _ hc2 hmc (orl hy (p36 _ (by omega))).2 he
      have s2 : ∀ (y : Nat), c < pW P * pH P → m.testBit c = true → y < 2 ^ 36 → ((y ||| (if c % pW P + 1 < pW P then 2 ^ (c + 1) else 0)) ||| (if pW P ≤ c then 2 ^ (c - pW P) else 0)) ||| (if c + pW P < pW P * pH P then 2 ^ (c + pW P) else 0) = bsk P m c ||| bsO P c → Wp g MX12_beside 54 [some (.ref 75), some (.long (lN m)), none, some (.long (lN y)), none, some (.int (nI c)), some (.int (nI (c % pW P)))] [] f 0 0 (fun r f' => f = f' ∧ r = some (.long (lN (bsP P m)))) := by
        intro y hc2 hmc hy he
        have hx : c % pW P < pW P := Nat.mod_lt _ (by omega)
        refine rn_lload_n dX12_beside_54 rfl ?_
        refine rn_iload dX12_beside_55 rfl ?_
        refine rn_iconst (v := nI 1) dX12_beside_57 (by decide) ?_
        refine rn_iadd dX12_beside_58 ?_
        rw [nI_add]
        refine rn_aload_n dX12_beside_59 rfl ?_
        refine rn_get dX12_beside_60 lfX12_7 hM rfl ?_
        refine rn_iconst (v := nI 0) dX12_beside_63 (by decide) ?_
        refine rn_iald dX12_beside_64 hb (vp_in_nI (show 0 < 73 by omega) (by decide)) ?_
        rw [nI_clamp (by decide), hw]
        refine rn_icmp_ge (tgt := 77) dX12_beside_65 (by decide) (fun c65 => ?_) (fun c65 => ?_)
        · refine rn_lconst (v := 0) dX12_beside_77 (by decide) ?_
          refine rn_lor dX12_beside_78 ?_
          refine rn_lstore_n dX12_beside_79 (Nat.le_of_ble_eq_true rfl) rfl ?_
          have h3 := ge_ex c65 (by omega) (by omega)
          rw [if_neg (show ¬ c % pW P + 1 < pW P by omega)] at he
          rw [show (0 : Int64) = lN 0 from rfl, (orl hy (by decide)).1]
          exact s3 _ _ hc2 hmc (orl hy (by decide)).2 he
        · refine rn_lconst (v := 1) dX12_beside_68 (by decide) ?_
          refine rn_iload dX12_beside_69 rfl ?_
          refine rn_iconst (v := nI 1) dX12_beside_71 (by decide) ?_
          refine rn_iadd dX12_beside_72 ?_
          refine rn_lshl dX12_beside_73 ?_
          refine rn_goto (tgt := 78) dX12_beside_74 (by decide) ?_
          refine rn_lor dX12_beside_78 ?_
          refine rn_lstore_n dX12_beside_79 (Nat.le_of_ble_eq_true rfl) rfl ?_
          have h3 := ge_in c65 (by omega)
          have h4 := row_lt hc2 h3
          rw [if_pos h3] at he
          rw [nI_add, sh1 _ (by omega), (orl hy (p36 _ (by omega))).1]
          exact s3 _ _ hc2 hmc (orl hy (p36 _ (by omega))).2 he
      refine rn_iload dX12_beside_5 rfl ?_
      refine rn_aload_n dX12_beside_7 rfl ?_
      refine rn_callV dX12_beside_8 lmX12_68 ⟨Nat.le_of_ble_eq_true rfl, Nat.le_of_ble_eq_true rfl⟩ (cm_cells g f hM hs hP) hM rfl rfl (Nat.le_of_ble_eq_true rfl) ?_
      rintro _ _ ⟨rfl, rfl⟩
      refine rn_icmp_ge (tgt := 149) dX12_beside_11 (by decide) (fun c11 => ?_) (fun c11 => ?_)
      · refine rn_lload_n dX12_beside_149 rfl ?_
        refine rn_lret dX12_beside_150 rfl ?_
        have hc2 := ge_ex c11 (by omega) (by omega)
        exact ⟨rfl, by rw [show c = pW P * pH P by omega]⟩
      · have hc2 := ge_in c11 (by omega)
        refine rn_lload_n dX12_beside_14 rfl ?_
        refine rn_iload dX12_beside_15 rfl ?_
        refine rn_lshr dX12_beside_17 ?_
        refine rn_lconst (v := 1) dX12_beside_18 (by decide) ?_
        refine rn_land dX12_beside_19 ?_
        rw [lb_bit (by omega) (by omega)]
        refine rn_lconst (v := 1) dX12_beside_20 (by decide) ?_
        refine rn_lcmp dX12_beside_21 ?_
        refine rn_if_ne (tgt := 143) dX12_beside_22 (by decide) (fun c22 => ?_) (fun c22 => ?_)
        · refine rn_iinc (v := nI (c + 1)) dX12_beside_143 rfl (nI_1 c) (Nat.le_of_ble_eq_true rfl) rfl ?_
          refine rn_goto (tgt := 5) dX12_beside_146 (by decide) ?_
          have hmc : m.testBit c = false := by
            have e1 : ¬ m / 2 ^ c % 2 = 1 := fun q => c22 ((lg_cmp_eq _ _).mpr (by rw [q]; rfl))
            rw [tb_eq, decide_eq_false e1]
          have e := ih _ (by omega) (c + 1) w6 rfl (by omega)
          rw [show bsk P m (c + 1) = bsk P m c by rw [bsk, hmc]; rfl] at e
          exact e
        · refine rn_iload dX12_beside_25 rfl ?_
          refine rn_aload_n dX12_beside_27 rfl ?_
          refine rn_get dX12_beside_28 lfX12_7 hM rfl ?_
          refine rn_iconst (v := nI 0) dX12_beside_31 (by decide) ?_
          refine rn_iald dX12_beside_32 hb (vp_in_nI (show 0 < 73 by omega) (by decide)) ?_
          rw [nI_clamp (by decide), hw]
          refine rn_irem dX12_beside_33 (nI_ne0 (by omega) (by omega)) ?_
          rw [pk_rem (by omega) (by omega) (by omega)]
          have hmc : m.testBit c = true := by
            have e1 : m / 2 ^ c % 2 = 1 := (lb_eq (b := 1) (by omega) (by decide)).mp ((lg_cmp_eq _ _).mp c22)
            rw [tb_eq, decide_eq_true e1]
          have he0 : ((((bsk P m c ||| (if 0 < c % pW P then 2 ^ (c - 1) else 0)) ||| (if c % pW P + 1 < pW P then 2 ^ (c + 1) else 0)) ||| (if pW P ≤ c then 2 ^ (c - pW P) else 0)) ||| (if c + pW P < pW P * pH P then 2 ^ (c + pW P) else 0)) = bsk P m c ||| bsO P c := by unfold bsO; simp only [Nat.or_assoc]
          refine rn_istore dX12_beside_34 (Nat.le_of_ble_eq_true rfl) rfl ?_
          refine rn_lload_n dX12_beside_36 rfl ?_
          refine rn_iload dX12_beside_37 rfl ?_
          refine rn_if_le (tgt := 51) dX12_beside_39 (by decide) (fun c39 => ?_) (fun c39 => ?_)
          · refine rn_lconst (v := 0) dX12_beside_51 (by decide) ?_
            refine rn_lor dX12_beside_52 ?_
            refine rn_lstore_n dX12_beside_53 (Nat.le_of_ble_eq_true rfl) rfl ?_
            have h3 : ¬ 0 < c % pW P := fun q => absurd c39 (nI_nle q (by have := Nat.mod_lt c (show 0 < pW P by omega); omega))
            rw [if_neg h3] at he0
            rw [show (0 : Int64) = lN 0 from rfl, (orl hbl (by decide)).1]
            exact s2 _ hc2 hmc (orl hbl (by decide)).2 he0
          · refine rn_lconst (v := 1) dX12_beside_42 (by decide) ?_
            refine rn_iload dX12_beside_43 rfl ?_
            refine rn_iconst (v := nI 1) dX12_beside_45 (by decide) ?_
            refine rn_isub dX12_beside_46 ?_
            refine rn_lshl dX12_beside_47 ?_
            refine rn_goto (tgt := 52) dX12_beside_48 (by decide) ?_
            refine rn_lor dX12_beside_52 ?_
            refine rn_lstore_n dX12_beside_53 (Nat.le_of_ble_eq_true rfl) rfl ?_
            have h3 : 0 < c % pW P := Nat.pos_of_ne_zero fun q => c39 (by rw [q]; decide)
            have h5 : c % pW P ≤ c := Nat.mod_le _ _
            rw [if_pos h3] at he0
            rw [show nI c - nI 1 = nI (c - 1) from pk_sub (by omega), sh1 _ (by omega), (orl hbl (p36 _ (by omega))).1]
            exact s2 _ hc2 hmc (orl hbl (p36 _ (by omega))).2 he0
  refine rn_lconst (v := 0) dX12_beside_0 (by decide) ?_
  refine rn_lstore_n dX12_beside_1 (Nat.le_of_ble_eq_true rfl) rfl ?_
  refine rn_iconst (v := nI 0) dX12_beside_2 (by decide) ?_
  refine rn_istore dX12_beside_3 (Nat.le_of_ble_eq_true rfl) rfl ?_
  exact loop _ 0 none rfl (by omega)
