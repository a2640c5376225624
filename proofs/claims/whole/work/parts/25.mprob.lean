theorem pf_lI {a : Nat} (h : a < 2 ^ 63) : (lN a).toInt = (a : Int) := lg_ofNat_toInt h
theorem pf_shr {a d : Nat} {D : Int64} (hD : (D.toBitVec.smod 64).toNat = d) (h : a < 2 ^ 62) : lN a >>> D = lN (a / 2 ^ d) := by
  have hd : a / 2 ^ d ≤ a := Nat.div_le_self _ _
  apply Int64.toInt_inj.mp
  have e : (lN a >>> D).toInt = (lN a).toInt >>> d := by
    rw [← hD]
    exact BitVec.toInt_sshiftRight ..
  rw [e, Int.shiftRight_eq_div_pow, pf_lI (by omega), pf_lI (by omega)]
  rfl
theorem lb_shr {n k : Nat} (hn : n < 2 ^ 62) (hk : k < 64) : lN n >>> ((nI k).toInt64 &&& 63) = lN (n / 2 ^ k) := pf_shr (lb_cs k hk) hn
theorem lb_bit {n k : Nat} (hn : n < 2 ^ 62) (hk : k < 64) : (lN n >>> ((nI k).toInt64 &&& 63)) &&& 1 = lN (n / 2 ^ k % 2) := by
  have hle : n / 2 ^ k ≤ n := Nat.div_le_self _ _
  rw [lb_shr hn hk, wb_a1 (by omega)]
theorem tb_eq (n k : Nat) : n.testBit k = decide (n / 2 ^ k % 2 = 1) := Nat.testBit_eq_decide_div_mod_eq
theorem low_tb {n : Nat} (h0 : 0 < n) (hn : n < 2 ^ 64) : n.testBit (low n) = true ∧ ∀ j, j < low n → n.testBit j = false := by
  obtain ⟨h1, o, h2⟩ := lowk_spec 64 n h0 hn
  have hlt : 2 ^ low n < 2 ^ (low n + 1) := Nat.pow_lt_pow_right (by decide) (by omega)
  have h2' : n = 2 ^ (low n + 1) * o + 2 ^ low n := h2
  have key : ∀ i, i < low n + 1 → n.testBit i = decide (low n = i) := fun i hi => by
    rw [show n.testBit i = (2 ^ (low n + 1) * o + 2 ^ low n).testBit i by rw [← h2'], Nat.testBit_two_pow_mul_add _ hlt, if_pos hi, Nat.testBit_two_pow]
  exact ⟨by rw [key _ (by omega)]; simp, fun j hj => by rw [key j (by omega), decide_eq_false (by omega)]⟩
theorem cm_lowest (g : GG) (f : Mm) {n : Nat} (h0 : 0 < n) (hn : n < 2 ^ 62) : Ct g MX12_lowest [.long (lN n)] f 0 0 (fun r f' => f = f' ∧ r = some (.int (nI (low n)))) := by
  refine Ct.of ok_MX12_lowest (Nat.le_of_ble_eq_true rfl) ?_
  change Wp g MX12_lowest 0 [some (.long (lN n)), none, none] [] f 0 0 _
  have hl := low_lt h0 (show n < 2 ^ 64 by omega)
  obtain ⟨t1, t2⟩ := low_tb h0 (show n < 2 ^ 64 by omega)
  have loop : ∀ (d c : Nat), low n - c = d → c ≤ low n → Wp g MX12_lowest 2 [some (.long (lN n)), none, some (.int (nI c))] [] f 0 0 (fun r f' => f = f' ∧ r = some (.int (nI (low n)))) := by
    intro d
    induction d using Nat.strongRecOn with
    | ind d ih =>
      intro c hd hc
      refine rn_lload_n dX12_lowest_2 rfl ?_
      refine rn_iload_n dX12_lowest_3 rfl ?_
      refine rn_lshr dX12_lowest_4 ?_
      refine rn_lconst (v := 1) dX12_lowest_5 (by decide) ?_
      refine rn_land dX12_lowest_6 ?_
      rw [lb_bit hn (by omega)]
      refine rn_lconst (v := 0) dX12_lowest_7 (by decide) ?_
      refine rn_lcmp dX12_lowest_8 ?_
      refine rn_if_ne (tgt := 18) dX12_lowest_9 (by decide) (fun c9 => ?_) (fun c9 => ?_)
      · refine rn_iload_n dX12_lowest_18 rfl ?_
        refine rn_iret dX12_lowest_19 rfl ?_
        have hb : n.testBit c = true := by
          rw [tb_eq, decide_eq_true_eq]
          have : ¬ n / 2 ^ c % 2 = 0 := fun q => c9 ((lg_cmp_eq _ _).mpr (by rw [q]; rfl))
          omega
        rcases Nat.lt_or_ge c (low n) with q | q
        · rw [t2 c q] at hb; cases hb
        · exact ⟨rfl, by rw [show c = low n by omega]⟩
      · refine rn_iinc (v := nI (c + 1)) dX12_lowest_12 rfl (nI_1 c) (Nat.le_of_ble_eq_true rfl) rfl ?_
        refine rn_goto (tgt := 2) dX12_lowest_15 (by decide) ?_
        have hb : n.testBit c = false := by
          have e := (lg_cmp_eq _ _).mp c9
          have e2 : n / 2 ^ c % 2 = 0 := (lb_eq (b := 0) (by omega) (by decide)).mp e
          rw [tb_eq, decide_eq_false (by omega)]
        have hlt : c < low n := by
          rcases Nat.lt_or_ge c (low n) with q | q
          · exact q
          · rw [show c = low n by omega, t1] at hb; cases hb
        exact ih _ (by omega) (c + 1) rfl (by omega)
  refine rn_iconst (v := nI 0) dX12_lowest_0 (by decide) ?_
  refine rn_istore_n dX12_lowest_1 (Nat.le_of_ble_eq_true rfl) rfl ?_
  exact loop _ 0 rfl (by omega)
-- the Model reads its row s
theorem cm_its (g : GG) (f : Mm) {wi s : Nat → Int32} {cv : Int64} {p w : Nat} (hM : f 75 = some (MO wi cv)) (hs : AR f 76 73 s) (hp : p < 8) (hw : w < 4) : Ct g MX12_its [.ref 75, .int (nI p), .int (nI w)] f 0 0 (fun r f' => f = f' ∧ r = some (.int (s (41 + 4 * p + w)))) := by
  refine Ct.of ok_MX12_its (Nat.le_of_ble_eq_true rfl) ?_
  change Wp g MX12_its 0 [some (.ref 75), some (.int (nI p)), some (.int (nI w))] [] f 0 0 _
  obtain ⟨b, hb, hba⟩ := hs
  refine rn_aload_n dX12_its_0 rfl ?_
  refine rn_get dX12_its_1 lfX12_7 hM rfl ?_
  refine rn_bipush (v := nI 41) dX12_its_4 (by decide) ?_
  refine rn_iconst (v := nI 4) dX12_its_6 (by decide) ?_
  refine rn_iload_n dX12_its_7 rfl ?_
  refine rn_imul dX12_its_8 ?_
  refine rn_iadd dX12_its_9 ?_
  refine rn_iload_n dX12_its_10 rfl ?_
  refine rn_iadd dX12_its_11 ?_
  rw [pk_mul, nI_add, nI_add]
  refine rn_iald dX12_its_12 hb (vp_in_nI (show 41 + 4 * p + w < 73 by omega) (by decide)) ?_
  refine rn_iret dX12_its_13 rfl ?_
  exact ⟨rfl, by rw [nI_clamp (by omega), hba _ (by omega)]⟩
theorem cm_cells (g : GG) (f : Mm) {wi s : Nat → Int32} {cv : Int64} {P : PS} (hM : f 75 = some (MO wi cv)) (hs : AR f 76 73 s) (hP : SP s P) : Ct g MX12_cells [.ref 75] f 0 0 (fun r f' => f = f' ∧ r = some (.int (nI (pW P * pH P)))) := by
  refine Ct.of ok_MX12_cells (Nat.le_of_ble_eq_true rfl) ?_
  change Wp g MX12_cells 0 [some (.ref 75)] [] f 0 0 _
  obtain ⟨b, hb, hba⟩ := hs
  refine rn_aload_n dX12_cells_0 rfl ?_
  refine rn_get dX12_cells_1 lfX12_7 hM rfl ?_
  refine rn_iconst (v := nI 0) dX12_cells_4 (by decide) ?_
  refine rn_iald dX12_cells_5 hb (vp_in_nI (show 0 < 73 by omega) (by decide)) ?_
  refine rn_aload_n dX12_cells_6 rfl ?_
  refine rn_get dX12_cells_7 lfX12_7 hM rfl ?_
  refine rn_iconst (v := nI 1) dX12_cells_10 (by decide) ?_
  refine rn_iald dX12_cells_11 hb (vp_in_nI (show 1 < 73 by omega) (by decide)) ?_
  refine rn_imul dX12_cells_12 ?_
  refine rn_iret dX12_cells_13 rfl ?_
  exact ⟨rfl, by rw [nI_clamp (by decide), nI_clamp (by decide), hba 0 (by omega), hba 1 (by omega), hP.1, hP.2.1, pk_mul]⟩
theorem cm_isCell (g : GG) (f : Mm) {wi s : Nat → Int32} {cv : Int64} {P : PS} (c : Int32) (hM : f 75 = some (MO wi cv)) (hs : AR f 76 73 s) (hP : SP s P) (hV : VD P) : Ct g MX12_isCell [.ref 75, .int c] f 0 0 (fun r f' => f = f' ∧ r = some (.int (bI (inR c (pW P * pH P))))) := by
  refine Ct.of ok_MX12_isCell (Nat.le_of_ble_eq_true rfl) ?_
  change Wp g MX12_isCell 0 [some (.ref 75), some (.int c)] [] f 0 0 _
  have ha := hV.area
  refine rn_iload_n dX12_isCell_0 rfl ?_
  refine rn_iconst (v := nI 0) dX12_isCell_1 (by decide) ?_
  refine rn_aload_n dX12_isCell_2 rfl ?_
  refine rn_callV dX12_isCell_3 lmX12_68 ⟨Nat.le_of_ble_eq_true rfl, Nat.le_of_ble_eq_true rfl⟩ (cm_cells g f hM hs hP) hM rfl rfl (Nat.le_of_ble_eq_true rfl) ?_
  rintro _ _ ⟨rfl, rfl⟩
  refine rn_iconst (v := nI 1) dX12_isCell_6 (by decide) ?_
  refine rn_isub dX12_isCell_7 ?_
  refine rn_callS dX12_isCell_8 lmX12_72 ⟨Nat.le_of_ble_eq_true rfl, Nat.le_of_ble_eq_true rfl⟩ (cm_in g f c (nI 0) (nI (pW P * pH P) - nI 1)) rfl rfl (Nat.le_of_ble_eq_true rfl) ?_
  rintro _ _ ⟨rfl, rfl⟩
  rw [in_R (by omega)]
  refine rn_zret dX12_isCell_11 rfl (by cases inR c (pW P * pH P) <;> rfl) ?_
  exact ⟨rfl, rfl⟩
theorem cm_isOpen (g : GG) (f : Mm) {wi s : Nat → Int32} {cv : Int64} {i : Nat} (hM : f 75 = some (MO wi cv)) (hs : AR f 76 73 s) (hi : i < 36) : Ct g MX12_isOpen [.ref 75, .int (nI i)] f 0 0 (fun r f' => f = f' ∧ r = some (.int (bI (decide (¬ s (5 + i) = -1))))) := by
  refine Ct.of ok_MX12_isOpen (Nat.le_of_ble_eq_true rfl) ?_
  change Wp g MX12_isOpen 0 [some (.ref 75), some (.int (nI i))] [] f 0 0 _
  obtain ⟨b, hb, hba⟩ := hs
  refine rn_aload_n dX12_isOpen_0 rfl ?_
  refine rn_get dX12_isOpen_1 lfX12_7 hM rfl ?_
  refine rn_iconst (v := nI 5) dX12_isOpen_4 (by decide) ?_
  refine rn_iload_n dX12_isOpen_5 rfl ?_
  refine rn_iadd dX12_isOpen_6 ?_
  rw [nI_add]
  refine rn_iald dX12_isOpen_7 hb (vp_in_nI (show 5 + i < 73 by omega) (by decide)) ?_
  rw [nI_clamp (by omega), hba _ (by omega)]
  refine rn_iconst (v := (-1)) dX12_isOpen_8 (by decide) ?_
  refine rn_icmp_eq (tgt := 16) dX12_isOpen_9 (by decide) (fun c9 => ?_) (fun c9 => ?_)
  · refine rn_iconst (v := nI 0) dX12_isOpen_16 (by decide) ?_
    refine rn_zret dX12_isOpen_17 rfl rfl ?_
    exact ⟨rfl, by rw [decide_eq_false (fun q => q c9)]; rfl⟩
  · refine rn_iconst (v := nI 1) dX12_isOpen_12 (by decide) ?_
    refine rn_goto (tgt := 17) dX12_isOpen_13 (by decide) ?_
    refine rn_zret dX12_isOpen_17 rfl rfl ?_
    exact ⟨rfl, by rw [decide_eq_true c9]; rfl⟩
theorem cm_isPiece (g : GG) (f : Mm) {wi s : Nat → Int32} {cv : Int64} {P : PS} (c : Int32) (hM : f 75 = some (MO wi cv)) (hs : AR f 76 73 s) (hP : SP s P) (hV : VD P) : Ct g MX12_isPiece [.ref 75, .int c] f 0 0 (fun r f' => f = f' ∧ r = some (.int (bI (inR c (pN P))))) := by
  refine Ct.of ok_MX12_isPiece (Nat.le_of_ble_eq_true rfl) ?_
  change Wp g MX12_isPiece 0 [some (.ref 75), some (.int c)] [] f 0 0 _
  have v8 := hV.2.2.2.2
  obtain ⟨b, hb, hba⟩ := hs
  refine rn_iload_n dX12_isPiece_0 rfl ?_
  refine rn_iconst (v := nI 0) dX12_isPiece_1 (by decide) ?_
  refine rn_aload_n dX12_isPiece_2 rfl ?_
  refine rn_get dX12_isPiece_3 lfX12_7 hM rfl ?_
  refine rn_iconst (v := nI 4) dX12_isPiece_6 (by decide) ?_
  refine rn_iald dX12_isPiece_7 hb (vp_in_nI (show 4 < 73 by omega) (by decide)) ?_
  rw [nI_clamp (by decide), hba 4 (by omega), hP.2.2.2.2.1]
  refine rn_iconst (v := nI 1) dX12_isPiece_8 (by decide) ?_
  refine rn_isub dX12_isPiece_9 ?_
  refine rn_callS dX12_isPiece_10 lmX12_72 ⟨Nat.le_of_ble_eq_true rfl, Nat.le_of_ble_eq_true rfl⟩ (cm_in g f c (nI 0) (nI (pN P) - nI 1)) rfl rfl (Nat.le_of_ble_eq_true rfl) ?_
  rintro _ _ ⟨rfl, rfl⟩
  rw [in_R (by omega)]
  refine rn_zret dX12_isPiece_13 rfl (by cases inR c (pN P) <;> rfl) ?_
  exact ⟨rfl, rfl⟩
theorem cm_opens (g : GG) (f : Mm) {wi s : Nat → Int32} {cv : Int64} {P : PS} (hM : f 75 = some (MO wi cv)) (hs : AR f 76 73 s) (hP : SP s P) (hV : VD P) : Ct g MX12_opens [.ref 75] f 0 0 (fun r f' => f = f' ∧ r = some (.int (nI (opn (pC P) (pW P * pH P))))) := by
  refine Ct.of ok_MX12_opens (Nat.le_of_ble_eq_true rfl) ?_
  change Wp g MX12_opens 0 [some (.ref 75), none, none] [] f 0 0 _
  have ha := hV.area
  have loop : ∀ (d i : Nat), pW P * pH P - i = d → i ≤ pW P * pH P → Wp g MX12_opens 4 [some (.ref 75), some (.int (nI (opn (pC P) i))), some (.int (nI i))] [] f 0 0 (fun r f' => f = f' ∧ r = some (.int (nI (opn (pC P) (pW P * pH P))))) := by
    intro d
    induction d using Nat.strongRecOn with
    | ind d ih =>
      intro i hd hi
      refine rn_iload_n dX12_opens_4 rfl ?_
      refine rn_aload_n dX12_opens_5 rfl ?_
      refine rn_callV dX12_opens_6 lmX12_68 ⟨Nat.le_of_ble_eq_true rfl, Nat.le_of_ble_eq_true rfl⟩ (cm_cells g f hM hs hP) hM rfl rfl (Nat.le_of_ble_eq_true rfl) ?_
      rintro _ _ ⟨rfl, rfl⟩
      refine rn_icmp_ge (tgt := 34) dX12_opens_9 (by decide) (fun c9 => ?_) (fun c9 => ?_)
      · refine rn_iload_n dX12_opens_34 rfl ?_
        refine rn_iret dX12_opens_35 rfl ?_
        have hi2 := ge_ex c9 (by omega) (by omega)
        exact ⟨rfl, by rw [show i = pW P * pH P by omega]⟩
      · have hi2 := ge_in c9 (by omega)
        refine rn_iload_n dX12_opens_12 rfl ?_
        refine rn_aload_n dX12_opens_13 rfl ?_
        refine rn_iload_n dX12_opens_14 rfl ?_
        refine rn_callV dX12_opens_15 lmX12_76 ⟨Nat.le_of_ble_eq_true rfl, Nat.le_of_ble_eq_true rfl⟩ (cm_isOpen g f hM hs (by omega)) hM rfl rfl (Nat.le_of_ble_eq_true rfl) ?_
        rintro _ _ ⟨rfl, rfl⟩
        rw [hP.2.2.2.2.2.1 i hi2]
        refine rn_if_eq (tgt := 25) dX12_opens_18 (by decide) (fun c18 => ?_) (fun c18 => ?_)
        · refine rn_iconst (v := nI 0) dX12_opens_25 (by decide) ?_
          refine rn_iadd dX12_opens_26 ?_
          refine rn_istore_n dX12_opens_27 (Nat.le_of_ble_eq_true rfl) rfl ?_
          refine rn_iinc (v := nI (i + 1)) dX12_opens_28 rfl (nI_1 i) (Nat.le_of_ble_eq_true rfl) rfl ?_
          refine rn_goto (tgt := 4) dX12_opens_31 (by decide) ?_
          have hz := of_decide_eq_false (bI_0.mp c18)
          have e := ih _ (by omega) (i + 1) rfl (by omega)
          rw [show opn (pC P) (i + 1) = opn (pC P) i + 0 by simp only [opn, Classical.not_not.mp hz, if_true, Nat.add_zero], ← nI_add] at e
          exact e
        · refine rn_iconst (v := nI 1) dX12_opens_21 (by decide) ?_
          refine rn_goto (tgt := 26) dX12_opens_22 (by decide) ?_
          refine rn_iadd dX12_opens_26 ?_
          refine rn_istore_n dX12_opens_27 (Nat.le_of_ble_eq_true rfl) rfl ?_
          refine rn_iinc (v := nI (i + 1)) dX12_opens_28 rfl (nI_1 i) (Nat.le_of_ble_eq_true rfl) rfl ?_
          refine rn_goto (tgt := 4) dX12_opens_31 (by decide) ?_
          have hz := of_decide_eq_true (bI_n0.mp c18)
          have e := ih _ (by omega) (i + 1) rfl (by omega)
          rw [show opn (pC P) (i + 1) = opn (pC P) i + 1 by simp only [opn, hz, if_false], ← nI_add] at e
          exact e
  refine rn_iconst (v := nI 0) dX12_opens_0 (by decide) ?_
  refine rn_istore_n dX12_opens_1 (Nat.le_of_ble_eq_true rfl) rfl ?_
  refine rn_iconst (v := nI 0) dX12_opens_2 (by decide) ?_
  refine rn_istore_n dX12_opens_3 (Nat.le_of_ble_eq_true rfl) rfl ?_
  exact loop _ 0 rfl (by omega)
-- the Model's forms: the row at 79, their number at 6
theorem cm_addsForm (g : GG) (f : Mm) {wi F : Nat → Int32} {cv : Int64} {a : Nat → Nat} {s n : Nat} {T : Nat → Prop} (hM : f 75 = some (MO wi cv)) (hF : AR f 79 9 F) (hs : s < 65536) (hn : n < 8) (hw : wi 6 = nI n) (ha : ∀ i, i < n → F i = nI (a i)) (hS : SS a n T) : Ct g MX12_addsForm [.ref 75, .int (nI s)] f 0 0 (fun r f' => r = none ∧ (∀ k, k ≠ 75 → k ≠ 79 → f' k = f k) ∧ ∃ (F' : Nat → Int32) (a' : Nat → Nat) (n' : Nat), f' 75 = some (MO (upd wi 6 (nI n')) cv) ∧ AR f' 79 9 F' ∧ n' ≤ n + 1 ∧ (∀ i, i < n' → F' i = nI (a' i)) ∧ SS a' n' (fun x => T x ∨ x = s)) := by
  refine Ct.of ok_MX12_addsForm (Nat.le_of_ble_eq_true rfl) ?_
  change Wp g MX12_addsForm 0 [some (.ref 75), some (.int (nI s)), none, none] [] f 0 0 _
  have loop2 : ∀ (d k e : Nat) (f1 : Mm) (B : Nat → Int32), e - k = d → k ≤ e → e ≤ n → k ≤ n → f1 75 = some (MO wi cv) → AR f1 79 9 B → (∀ q, q ≠ 75 → q ≠ 79 → f1 q = f q) → (∀ i, i < e → B i = nI (a i)) → (∀ i, e < i → i ≤ n → B i = nI (a (i - 1))) → (∀ i, i < k → a i < s) → (∀ i, k ≤ i → i < n → s < a i) → Wp g MX12_addsForm 49 [some (.ref 75), some (.int (nI s)), some (.int (nI k)), some (.int (nI e))] [] f1 0 0 (fun r f' => r = none ∧ (∀ k, k ≠ 75 → k ≠ 79 → f' k = f k) ∧ ∃ (F' : Nat → Int32) (a' : Nat → Nat) (n' : Nat), f' 75 = some (MO (upd wi 6 (nI n')) cv) ∧ AR f' 79 9 F' ∧ n' ≤ n + 1 ∧ (∀ i, i < n' → F' i = nI (a' i)) ∧ SS a' n' (fun x => T x ∨ x = s)) := by
    intro d
    induction d using Nat.strongRecOn with
    | ind d ih =>
      intro k e f1 B hd hke hen hkn o1 hB hfr b1 b2 b3 b4
      obtain ⟨bb, hbb, hbe⟩ := id hB
      refine rn_iload_n dX12_addsForm_49 rfl ?_
      refine rn_iload_n dX12_addsForm_50 rfl ?_
      refine rn_icmp_le (tgt := 74) dX12_addsForm_51 (by decide) (fun c51 => ?_) (fun c51 => ?_)
      · refine rn_aload_n dX12_addsForm_74 rfl ?_
        refine rn_get dX12_addsForm_75 lfX12_20 o1 rfl ?_
        refine rn_iload_n dX12_addsForm_78 rfl ?_
        refine rn_iload_n dX12_addsForm_79 rfl ?_
        refine rn_iast dX12_addsForm_80 hbb (vp_in_nI (show k < 9 by omega) (by decide)) ?_
        refine rn_aload_n dX12_addsForm_81 rfl ?_
        refine rn_dup dX12_addsForm_82 rfl ?_
        refine rn_get dX12_addsForm_83 lfX12_92 ((up_ne (by decide)).trans o1) rfl ?_
        refine rn_iconst (v := nI 1) dX12_addsForm_86 (by decide) ?_
        refine rn_iadd dX12_addsForm_87 ?_
        rw [hw, nI_add]
        refine rn_put dX12_addsForm_88 lpX12_92 ((up_ne (by decide)).trans o1) rfl rfl (Nat.le_of_ble_eq_true rfl) ?_
        rw [ms6]
        refine rn_vret dX12_addsForm_91 rfl ?_
        have hek : e = k := by
          have := ge_ex c51 (by omega) (by omega)
          omega
        subst hek
        refine ⟨rfl, fun q x y => (up_ne x).trans ((up_ne y).trans (hfr q x y)), upd B e (nI s), inA a e s, n + 1, up_same _ _ _, ⟨_, (up_ne (by decide)).trans (up_same _ _ _), fun j hj => ?_⟩, Nat.le_refl _, fun i hi => ?_, hS.ins hkn b3 b4 hs⟩
        · rw [nI_clamp (by omega)]
          by_cases q : j = e
          · simp [upd, q]
          · simp [upd, q, hbe j hj]
        · unfold inA upd
          by_cases e1 : i < e
          · rw [if_neg (by omega), if_pos e1]; exact b1 i e1
          · rw [if_neg e1]
            by_cases e2 : i = e
            · rw [if_pos e2, if_pos e2]
            · rw [if_neg e2, if_neg e2]; exact b2 i (by omega) (by omega)
      · have hlt : k < e := Nat.lt_of_not_le fun q => c51 (nI_le q (by omega))
        refine rn_aload_n dX12_addsForm_54 rfl ?_
        refine rn_get dX12_addsForm_55 lfX12_20 o1 rfl ?_
        refine rn_iload_n dX12_addsForm_58 rfl ?_
        refine rn_aload_n dX12_addsForm_59 rfl ?_
        refine rn_get dX12_addsForm_60 lfX12_20 o1 rfl ?_
        refine rn_iload_n dX12_addsForm_63 rfl ?_
        refine rn_iconst (v := nI 1) dX12_addsForm_64 (by decide) ?_
        refine rn_isub dX12_addsForm_65 ?_
        rw [show nI e - nI 1 = nI (e - 1) from pk_sub (by omega)]
        refine rn_iald dX12_addsForm_66 hbb (vp_in_nI (show e - 1 < 9 by omega) (by decide)) ?_
        refine rn_iast dX12_addsForm_67 hbb (vp_in_nI (show e < 9 by omega) (by decide)) ?_
        refine rn_iinc (v := nI (e - 1)) dX12_addsForm_68 rfl ((by rw [show nI e + Int32.ofInt (-1) = nI (e - 1 + 1) + (-1) by rw [show e - 1 + 1 = e by omega]; rfl]; exact pk_m1 (e - 1))) (Nat.le_of_ble_eq_true rfl) rfl ?_
        refine rn_goto (tgt := 49) dX12_addsForm_71 (by decide) ?_
        refine ih _ (by omega) k (e - 1) _ (upd B e (nI (a (e - 1)))) rfl (by omega) (by omega) hkn ((up_ne (by decide)).trans o1) ⟨_, up_same _ _ _, fun j hj => ?_⟩ (fun q x y => (up_ne y).trans (hfr q x y)) (fun i hi => ?_) (fun i h1 h2 => ?_) b3 b4
        · rw [nI_clamp (by omega), nI_clamp (by omega), hbe _ (by omega), b1 _ (by omega)]
          by_cases q : j = e
          · simp [upd, q]
          · simp [upd, q, hbe j hj]
        · unfold upd; rw [if_neg (by omega)]; exact b1 i (by omega)
        · unfold upd
          by_cases q : i = e
          · rw [if_pos q, q]
          · rw [if_neg q]; exact b2 i (by omega) h2
  have loop1 : ∀ (d k : Nat), n - k = d → k ≤ n → (∀ i, i < k → a i < s) → Wp g MX12_addsForm 2 [some (.ref 75), some (.int (nI s)), some (.int (nI k)), none] [] f 0 0 (fun r f' => r = none ∧ (∀ k, k ≠ 75 → k ≠ 79 → f' k = f k) ∧ ∃ (F' : Nat → Int32) (a' : Nat → Nat) (n' : Nat), f' 75 = some (MO (upd wi 6 (nI n')) cv) ∧ AR f' 79 9 F' ∧ n' ≤ n + 1 ∧ (∀ i, i < n' → F' i = nI (a' i)) ∧ SS a' n' (fun x => T x ∨ x = s)) := by
    obtain ⟨b, hb, hba⟩ := id hF
    have wu : upd wi 6 (nI n) = wi := by
      funext j
      by_cases q : j = 6
      · simp [upd, q, hw]
      · simp [upd, q]
    intro d
    induction d using Nat.strongRecOn with
    | ind d ih =>
      intro k hd hk hlt
      have fin : (∀ i, k ≤ i → i < n → s < a i) → Wp g MX12_addsForm 44 [some (.ref 75), some (.int (nI s)), some (.int (nI k)), none] [] f 0 0 (fun r f' => r = none ∧ (∀ k, k ≠ 75 → k ≠ 79 → f' k = f k) ∧ ∃ (F' : Nat → Int32) (a' : Nat → Nat) (n' : Nat), f' 75 = some (MO (upd wi 6 (nI n')) cv) ∧ AR f' 79 9 F' ∧ n' ≤ n + 1 ∧ (∀ i, i < n' → F' i = nI (a' i)) ∧ SS a' n' (fun x => T x ∨ x = s)) := by
        intro h4
        refine rn_aload_n dX12_addsForm_44 rfl ?_
        refine rn_get dX12_addsForm_45 lfX12_92 hM rfl ?_
        rw [hw]
        refine rn_istore_n dX12_addsForm_48 (Nat.le_of_ble_eq_true rfl) rfl ?_
        exact loop2 _ k n f F rfl hk (Nat.le_refl n) hk hM hF (fun _ _ _ => rfl) ha (fun i h1 h2 => absurd h1 (by omega)) hlt h4
      refine rn_iload_n dX12_addsForm_2 rfl ?_
      refine rn_aload_n dX12_addsForm_3 rfl ?_
      refine rn_get dX12_addsForm_4 lfX12_92 hM rfl ?_
      rw [hw]
      refine rn_icmp_ge (tgt := 26) dX12_addsForm_7 (by decide) (fun c7 => ?_) (fun c7 => ?_)
      · refine rn_iload_n dX12_addsForm_26 rfl ?_
        refine rn_aload_n dX12_addsForm_27 rfl ?_
        refine rn_get dX12_addsForm_28 lfX12_92 hM rfl ?_
        rw [hw]
        refine rn_icmp_eq (tgt := 44) dX12_addsForm_31 (by decide) (fun c31 => ?_) (fun c31 => ?_)
        · have hk4 : n ≤ k := ge_ex c7 (by omega) (by omega)
          exact fin (fun i h1 h2 => absurd h1 (by omega))
        · refine rn_aload_n dX12_addsForm_34 rfl ?_
          refine rn_get dX12_addsForm_35 lfX12_20 hM rfl ?_
          refine rn_iload_n dX12_addsForm_38 rfl ?_
          have hk3 : k < n := by
            rcases Nat.lt_or_ge k n with q | q
            · exact q
            · exact absurd (show nI k = nI n by rw [show k = n by omega]) c31
          refine rn_iald dX12_addsForm_39 hb (vp_in_nI (show k < 9 by omega) (by decide)) ?_
          rw [nI_clamp (by omega), hba k (by omega), ha k hk3]
          have hak2 := hS.2.2 k hk3
          refine rn_iload_n dX12_addsForm_40 rfl ?_
          refine rn_icmp_eq (tgt := 91) dX12_addsForm_41 (by decide) (fun c41 => ?_) (fun c41 => ?_)
          · refine rn_vret dX12_addsForm_91 rfl ?_
            have hk4 : n ≤ k := ge_ex c7 (by omega) (by omega)
            exact absurd hk3 (by omega)
          · have hk4 : n ≤ k := ge_ex c7 (by omega) (by omega)
            exact absurd hk3 (by omega)
      · refine rn_aload_n dX12_addsForm_10 rfl ?_
        refine rn_get dX12_addsForm_11 lfX12_20 hM rfl ?_
        refine rn_iload_n dX12_addsForm_14 rfl ?_
        have hk2 := ge_in c7 (by omega)
        refine rn_iald dX12_addsForm_15 hb (vp_in_nI (show k < 9 by omega) (by decide)) ?_
        rw [nI_clamp (by omega), hba k (by omega), ha k hk2]
        have hak := hS.2.2 k hk2
        refine rn_iload_n dX12_addsForm_16 rfl ?_
        refine rn_icmp_ge (tgt := 26) dX12_addsForm_17 (by decide) (fun c17 => ?_) (fun c17 => ?_)
        · refine rn_iload_n dX12_addsForm_26 rfl ?_
          refine rn_aload_n dX12_addsForm_27 rfl ?_
          refine rn_get dX12_addsForm_28 lfX12_92 hM rfl ?_
          rw [hw]
          refine rn_icmp_eq (tgt := 44) dX12_addsForm_31 (by decide) (fun c31 => ?_) (fun c31 => ?_)
          · exact absurd ((nI_eq (by omega) (by omega)).mp c31) (by omega)
          · refine rn_aload_n dX12_addsForm_34 rfl ?_
            refine rn_get dX12_addsForm_35 lfX12_20 hM rfl ?_
            refine rn_iload_n dX12_addsForm_38 rfl ?_
            have hk3 : k < n := by
              rcases Nat.lt_or_ge k n with q | q
              · exact q
              · exact absurd (show nI k = nI n by rw [show k = n by omega]) c31
            refine rn_iald dX12_addsForm_39 hb (vp_in_nI (show k < 9 by omega) (by decide)) ?_
            rw [nI_clamp (by omega), hba k (by omega), ha k hk3]
            have hak2 := hS.2.2 k hk3
            refine rn_iload_n dX12_addsForm_40 rfl ?_
            refine rn_icmp_eq (tgt := 91) dX12_addsForm_41 (by decide) (fun c41 => ?_) (fun c41 => ?_)
            · refine rn_vret dX12_addsForm_91 rfl ?_
              have e := (nI_eq (by omega) (by omega)).mp c41
              exact ⟨rfl, fun _ _ _ => rfl, F, a, n, by rw [wu]; exact hM, hF, by omega, ha, hS.same ((hS.2.1 s).mp ⟨k, hk3, e⟩)⟩
            · have hge := ge_ex c17 (by omega) (by omega)
              have hne : a k ≠ s := fun q => c41 (by rw [q])
              exact fin (fun i h1 h2 => by
                rcases Nat.lt_or_ge k i with q | q
                · have := hS.1 k i q h2
                  omega
                · rw [show i = k by omega]; omega)
        · refine rn_iinc (v := nI (k + 1)) dX12_addsForm_20 rfl (nI_1 k) (Nat.le_of_ble_eq_true rfl) rfl ?_
          refine rn_goto (tgt := 2) dX12_addsForm_23 (by decide) ?_
          have hlt2 : a k < s := Nat.lt_of_not_le fun q => c17 (nI_le q (by omega))
          exact ih _ (by omega) (k + 1) rfl (by omega) (fun i hi => by
            by_cases q : i = k
            · rw [q]; exact hlt2
            · exact hlt i (by omega))
  refine rn_iconst (v := nI 0) dX12_addsForm_0 (by decide) ?_
  refine rn_istore_n dX12_addsForm_1 (Nat.le_of_ble_eq_true rfl) rfl ?_
  exact loop1 n 0 rfl (by omega) (fun i hi => absurd hi (by omega))
