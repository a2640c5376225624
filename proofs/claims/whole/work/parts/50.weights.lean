-- weights
def bsum (n : Nat) (u : Nat → Nat) : Nat → Nat
  | 0 => 0
  | c + 1 => bsum n u c + (if n.testBit c then u c else 0)
theorem bsum_none {n : Nat} {u : Nat → Nat} {c : Nat} : ∀ d, (∀ j, c ≤ j → j < c + d → n.testBit j = false) → bsum n u (c + d) = bsum n u c
  | 0, _ => rfl
  | d + 1, h => by
    rw [show c + (d + 1) = c + d + 1 from rfl, bsum, h (c + d) (by omega) (by omega)]
    exact bsum_none d (fun j h1 h2 => h j h1 (by omega))
theorem bsum_mod (n m : Nat) (u : Nat → Nat) : ∀ d, bsum n (fun c => u c % m) d % m = bsum n u d % m
  | 0 => rfl
  | d + 1 => by
    have ih := bsum_mod n m u d
    simp only [bsum]
    split
    · rw [Nat.add_mod, ih, Nat.mod_mod, ← Nat.add_mod]
    · rw [Nat.add_zero, Nat.add_zero]; exact ih
theorem bsum_le {n m : Nat} {u : Nat → Nat} (h : ∀ c, u c ≤ m) : ∀ d, bsum n u d ≤ m * d
  | 0 => Nat.le_refl _
  | d + 1 => by
    have ih := bsum_le (n := n) h d
    have hu := h d
    rw [bsum, Nat.mul_succ]
    split <;> omega
def wce (W a b c : Nat) : Nat := a * (c % W) + b * (c / W)
/-- the weight of a set of cells -/
def wgt (W a b m n : Nat) : Nat := bsum n (wce W a b) 36 % m
abbrev WE (m : Nat) : Ent := .inr (9, [.ref 73, .ref 74, .int (nI m)])
theorem ct_rest (g : GG) (f : Mm) {m n : Nat} (hO : f 72 = some (WE m)) (hm : 1 ≤ m) (hm2 : m ≤ 5) (hn : n < 2 ^ 31) : Ct g MX10_rest [.ref 72, .int (nI n)] f 0 0 (fun r f' => f = f' ∧ r = some (.int (nI (n % m)))) := by
  refine Ct.of ok_MX10_rest (Nat.le_of_ble_eq_true rfl) ?_
  change Wp g MX10_rest 0 [some (.ref 72), some (.int (nI n))] [] f 0 0 _
  refine rn_aload_n dX10_rest_0 rfl ?_
  refine rn_get dX10_rest_1 lfX10_18 hO rfl ?_
  refine rn_if_le (tgt := 16) dX10_rest_4 (by decide) (fun c4 => ?_) (fun c4 => ?_)
  · refine rn_iconst (v := nI 0) dX10_rest_16 (by decide) ?_
    refine rn_iret dX10_rest_17 rfl ?_
    exact absurd c4 (nI_nle (by omega) (by omega))
  · refine rn_iload_n dX10_rest_7 rfl ?_
    refine rn_aload_n dX10_rest_8 rfl ?_
    refine rn_get dX10_rest_9 lfX10_18 hO rfl ?_
    refine rn_irem dX10_rest_12 (nI_ne0 (by omega) (by omega)) ?_
    refine rn_goto (tgt := 17) dX10_rest_13 (by decide) ?_
    refine rn_iret dX10_rest_17 rfl ?_
    exact ⟨rfl, by rw [pk_rem hn (by omega) (by omega)]⟩
theorem ct_weighCells (g : GG) (f : Mm) {P : PS} {m a b : Nat} {C : Nat → Int32} (hO : f 72 = some (WE m)) (hC : AR f 73 36 C) (hP : PB f 1 P) (hV : VD P) (hm : 1 ≤ m) (hm2 : m ≤ 5) (ha : a < 5) (hb : b < 5) : Ct g MX10_weighCells [.ref 72, .ref 1, .int (nI a), .int (nI b)] f 0 0 (fun r f' => r = none ∧ (∀ k, k ≠ 73 → f' k = f k) ∧ AR f' 73 36 (fun c => nI (wce (pW P) a b c % m))) := by
  refine Ct.of ok_MX10_weighCells (Nat.le_of_ble_eq_true rfl) ?_
  change Wp g MX10_weighCells 0 [some (.ref 72), some (.ref 1), some (.int (nI a)), some (.int (nI b)), none] [] f 0 0 _
  have bd : ∀ c, c < 36 → wce (pW P) a b c < 2 ^ 10 := fun c hc => by
    have h1 : c % pW P ≤ c := Nat.mod_le _ _
    have h2 : c / pW P ≤ c := Nat.div_le_self _ _
    have h3 : a * (c % pW P) ≤ 4 * 35 := Nat.mul_le_mul (by omega) (by omega)
    have h4 : b * (c / pW P) ≤ 4 * 35 := Nat.mul_le_mul (by omega) (by omega)
    unfold wce; omega
  have loop : ∀ (d c : Nat) (f1 : Mm) (B : Nat → Int32), 36 - c = d → c ≤ 36 → (∀ k, k ≠ 73 → f1 k = f k) → AR f1 73 36 B → (∀ j, j < c → B j = nI (wce (pW P) a b j % m)) → Wp g MX10_weighCells 3 [some (.ref 72), some (.ref 1), some (.int (nI a)), some (.int (nI b)), some (.int (nI c))] [] f1 0 0 (fun r f' => r = none ∧ (∀ k, k ≠ 73 → f' k = f k) ∧ AR f' 73 36 (fun c => nI (wce (pW P) a b c % m))) := by
    intro d
    induction d using Nat.strongRecOn with
    | ind d ih =>
      intro c f1 B hd hc hfr hB h1
      obtain ⟨bb, hbb, hbe⟩ := id hB
      have o1 := (hfr 72 (by decide)).trans hO
      have hP1 : PB f1 1 P := hP.keep (fun k x y => hfr k (by omega))
      refine rn_iload dX10_weighCells_3 rfl ?_
      refine rn_aload_n dX10_weighCells_5 rfl ?_
      refine rn_get dX10_weighCells_6 lfX10_9 o1 rfl ?_
      refine rn_alen dX10_weighCells_9 hbb (by decide) ?_
      refine rn_icmp_ge (tgt := 47) dX10_weighCells_10 (by decide) (fun c10 => ?_) (fun c10 => ?_)
      · refine rn_vret dX10_weighCells_47 rfl ?_
        have hc2 := ge_ex c10 (by omega) (by decide)
        exact ⟨rfl, hfr, hB.to (fun j hj => h1 j (by omega))⟩
      · have hc2 := ge_in c10 (by omega)
        have hbc := bd c hc2
        refine rn_aload_n dX10_weighCells_13 rfl ?_
        refine rn_get dX10_weighCells_14 lfX10_9 o1 rfl ?_
        refine rn_iload dX10_weighCells_17 rfl ?_
        refine rn_aload_n dX10_weighCells_19 rfl ?_
        refine rn_iload_n dX10_weighCells_20 rfl ?_
        refine rn_aload_n dX10_weighCells_21 rfl ?_
        refine rn_iload dX10_weighCells_22 rfl ?_
        refine rn_callV dX10_weighCells_24 lmX10_60 ⟨Nat.le_of_ble_eq_true rfl, Nat.le_of_ble_eq_true rfl⟩ (ct_columnOf g f1 hP1 hV (by omega)) hP1.1 rfl rfl (Nat.le_of_ble_eq_true rfl) ?_
        rintro _ _ ⟨rfl, rfl⟩
        refine rn_imul dX10_weighCells_27 ?_
        refine rn_iload_n dX10_weighCells_28 rfl ?_
        refine rn_aload_n dX10_weighCells_29 rfl ?_
        refine rn_iload dX10_weighCells_30 rfl ?_
        refine rn_callV dX10_weighCells_32 lmX10_63 ⟨Nat.le_of_ble_eq_true rfl, Nat.le_of_ble_eq_true rfl⟩ (ct_rowOf g f1 hP1 hV (by omega)) hP1.1 rfl rfl (Nat.le_of_ble_eq_true rfl) ?_
        rintro _ _ ⟨rfl, rfl⟩
        refine rn_imul dX10_weighCells_35 ?_
        refine rn_iadd dX10_weighCells_36 ?_
        rw [pk_mul, pk_mul, nI_add, show a * (c % pW P) + b * (c / pW P) = wce (pW P) a b c from rfl]
        refine rn_callV dX10_weighCells_37 lmX10_66 ⟨Nat.le_of_ble_eq_true rfl, Nat.le_of_ble_eq_true rfl⟩ (ct_rest g f1 o1 hm hm2 (n := wce (pW P) a b c) (by omega)) o1 rfl rfl (Nat.le_of_ble_eq_true rfl) ?_
        rintro _ _ ⟨rfl, rfl⟩
        refine rn_iast dX10_weighCells_40 hbb (vp_in_nI (show c < 36 by omega) (by decide)) ?_
        refine rn_iinc (v := nI (c + 1)) dX10_weighCells_41 rfl (nI_1 c) (Nat.le_of_ble_eq_true rfl) rfl ?_
        refine rn_goto (tgt := 3) dX10_weighCells_44 (by decide) ?_
        refine ih _ (by omega) (c + 1) _ (upd B c (nI (wce (pW P) a b c % m))) rfl (by omega) (fun k x => (up_ne x).trans (hfr k x)) ⟨_, up_same _ _ _, fun j hj => ?_⟩ (fun j hj => ?_)
        · rw [nI_clamp (by omega)]
          by_cases e : j = c
          · rw [e, upd_eq, upd_eq]
          · rw [upd_ne e, upd_ne e, hbe j hj]
        · by_cases e : j = c
          · rw [e, upd_eq]
          · rw [upd_ne e]; exact h1 j (by omega)
  refine rn_iconst (v := nI 0) dX10_weighCells_0 (by decide) ?_
  refine rn_istore dX10_weighCells_1 (Nat.le_of_ble_eq_true rfl) rfl ?_
  exact loop 36 0 f C rfl (by omega) (fun _ _ => rfl) hC (fun j hj => absurd hj (by omega))
theorem ct_weightOf (g : GG) (f : Mm) {m n : Nat} {u : Nat → Nat} (hO : f 72 = some (WE m)) (hC : AR f 73 36 (fun c => nI (u c % m))) (hm : 1 ≤ m) (hm2 : m ≤ 5) (hn : n < 2 ^ 36) : Ct g MX10_weightOf [.ref 72, .long (lN n)] f 0 0 (fun r f' => f = f' ∧ r = some (.int (nI (bsum n u 36 % m)))) := by
  refine Ct.of ok_MX10_weightOf (Nat.le_of_ble_eq_true rfl) ?_
  change Wp g MX10_weightOf 0 [some (.ref 72), some (.long (lN n)), none, none, none] [] f 0 0 _
  have hbd : ∀ d, bsum n (fun c => u c % m) d ≤ m * d := bsum_le (fun c => Nat.le_of_lt (Nat.mod_lt _ (by omega)))
  have fin : ∀ (S : Nat) (w4 : Option Value), S = bsum n (fun c => u c % m) 36 → Wp g MX10_weightOf 51 [some (.ref 72), some (.long (lN n)), none, some (.int (nI S)), w4] [] f 0 0 (fun r f' => f = f' ∧ r = some (.int (nI (bsum n u 36 % m)))) := by
    intro S w4 hS
    have h36 := hbd 36
    refine rn_aload_n dX10_weightOf_51 rfl ?_
    refine rn_iload_n dX10_weightOf_52 rfl ?_
    refine rn_callV dX10_weightOf_53 lmX10_66 ⟨Nat.le_of_ble_eq_true rfl, Nat.le_of_ble_eq_true rfl⟩ (ct_rest g f hO hm hm2 (n := S) (by rw [hS]; omega)) hO rfl rfl (Nat.le_of_ble_eq_true rfl) ?_
    rintro _ _ ⟨rfl, rfl⟩
    refine rn_iret dX10_weightOf_56 rfl ?_
    exact ⟨rfl, by rw [hS, bsum_mod]⟩
  have loop : ∀ (d c : Nat), 36 - c = d → c ≤ 36 → Wp g MX10_weightOf 8 [some (.ref 72), some (.long (lN n)), none, some (.int (nI (bsum n (fun c => u c % m) c))), some (.int (nI c))] [] f 0 0 (fun r f' => f = f' ∧ r = some (.int (nI (bsum n u 36 % m)))) := by
    intro d
    induction d using Nat.strongRecOn with
    | ind d ih =>
      intro c hd hc
      have hle : n / 2 ^ c ≤ n := Nat.div_le_self _ _
      have hbc := hbd c
      refine rn_iload dX10_weightOf_8 rfl ?_
      refine rn_bipush (v := nI 36) dX10_weightOf_10 (by decide) ?_
      refine rn_icmp_ge (tgt := 51) dX10_weightOf_12 (by decide) (fun c12 => ?_) (fun c12 => ?_)
      · have hc2 := ge_ex c12 (by omega) (by decide)
        exact fin _ _ (by rw [show c = 36 by omega])
      · have hc2 := ge_in c12 (by omega)
        refine rn_lload_n dX10_weightOf_15 rfl ?_
        refine rn_iload dX10_weightOf_16 rfl ?_
        refine rn_lushr dX10_weightOf_18 ?_
        rw [wb_shr (by omega) (by omega)]
        refine rn_lconst (v := 0) dX10_weightOf_19 (by decide) ?_
        refine rn_lcmp dX10_weightOf_20 ?_
        refine rn_if_eq (tgt := 51) dX10_weightOf_21 (by decide) (fun c21 => ?_) (fun c21 => ?_)
        · have hz : n / 2 ^ c = 0 := (lb_eq (b := 0) (by omega) (by decide)).mp ((lg_cmp_eq _ _).mp c21)
          have hno := bsum_none (n := n) (u := fun c => u c % m) (c := c) (36 - c) (fun j h1 _ => div_0 hz j h1)
          rw [show c + (36 - c) = 36 by omega] at hno
          exact fin _ _ hno.symm
        · refine rn_lload_n dX10_weightOf_24 rfl ?_
          refine rn_iload dX10_weightOf_25 rfl ?_
          refine rn_callS dX10_weightOf_27 lmX10_86 ⟨Nat.le_of_ble_eq_true rfl, Nat.le_of_ble_eq_true rfl⟩ (ct_holds g f (show n < 2 ^ 64 by omega) (show c < 64 by omega)) rfl rfl (Nat.le_of_ble_eq_true rfl) ?_
          rintro _ _ ⟨rfl, rfl⟩
          refine rn_if_eq (tgt := 45) dX10_weightOf_30 (by decide) (fun c30 => ?_) (fun c30 => ?_)
          · refine rn_iinc (v := nI (c + 1)) dX10_weightOf_45 rfl (nI_1 c) (Nat.le_of_ble_eq_true rfl) rfl ?_
            refine rn_goto (tgt := 8) dX10_weightOf_48 (by decide) ?_
            have e := ih _ (by omega) (c + 1) rfl (by omega)
            rw [show bsum n (fun c => u c % m) (c + 1) = bsum n (fun c => u c % m) c by rw [bsum, bI_0.mp c30]; rfl] at e
            exact e
          · refine rn_iload_n dX10_weightOf_33 rfl ?_
            refine rn_aload_n dX10_weightOf_34 rfl ?_
            refine rn_get dX10_weightOf_35 lfX10_9 hO rfl ?_
            refine rn_iload dX10_weightOf_38 rfl ?_
            refine rn_callS dX10_weightOf_40 lmX10_35 ⟨Nat.le_of_ble_eq_true rfl, Nat.le_of_ble_eq_true rfl⟩ (ct_at g f (nI c) (by decide) hC) rfl rfl (Nat.le_of_ble_eq_true rfl) ?_
            rintro _ _ ⟨rfl, rfl⟩
            rw [atf_nI (by omega) (by decide)]
            refine rn_iadd dX10_weightOf_43 ?_
            rw [nI_add]
            refine rn_istore_n dX10_weightOf_44 (Nat.le_of_ble_eq_true rfl) rfl ?_
            refine rn_iinc (v := nI (c + 1)) dX10_weightOf_45 rfl (nI_1 c) (Nat.le_of_ble_eq_true rfl) rfl ?_
            refine rn_goto (tgt := 8) dX10_weightOf_48 (by decide) ?_
            have e := ih _ (by omega) (c + 1) rfl (by omega)
            rw [show bsum n (fun c => u c % m) (c + 1) = bsum n (fun c => u c % m) c + u c % m by rw [bsum, bI_n0.mp c30, if_pos rfl]] at e
            exact e
  refine rn_iconst (v := nI 0) dX10_weightOf_0 (by decide) ?_
  refine rn_istore_n dX10_weightOf_1 (Nat.le_of_ble_eq_true rfl) rfl ?_
  refine rn_lload_n dX10_weightOf_2 rfl ?_
  refine rn_callS dX10_weightOf_3 lmX10_83 ⟨Nat.le_of_ble_eq_true rfl, Nat.le_of_ble_eq_true rfl⟩ (ct_smallestCell g f (n := n) (by omega)) rfl rfl (Nat.le_of_ble_eq_true rfl) ?_
  rintro _ _ ⟨rfl, rfl⟩
  refine rn_istore dX10_weightOf_6 (Nat.le_of_ble_eq_true rfl) rfl ?_
  rcases Nat.eq_zero_or_pos n with h | h
  · subst h
    rw [low_0]
    have hz : bsum 0 (fun c => u c % m) 36 = 0 := by
      have := bsum_none (n := 0) (u := fun c => u c % m) (c := 0) 36 (fun j _ _ => by simp)
      rw [Nat.zero_add] at this
      rw [this]; rfl
    refine rn_iload dX10_weightOf_8 rfl ?_
    refine rn_bipush (v := nI 36) dX10_weightOf_10 (by decide) ?_
    refine rn_icmp_ge (tgt := 51) dX10_weightOf_12 (by decide) (fun _ => fin 0 _ hz.symm) (fun q => absurd (show nI 36 ≤ nI 64 by decide) q)
  · have hl := low_lt36 h hn
    have hno := bsum_none (n := n) (u := fun c => u c % m) (c := 0) (low n) (fun j _ h2 => (low_tb h (show n < 2 ^ 64 by omega)).2 j (by omega))
    rw [Nat.zero_add] at hno
    have e := loop _ (low n) rfl (by omega)
    rw [hno] at e
    exact e
-- the Model's
theorem cm_all (g : GG) (f : Mm) {wi s : Nat → Int32} {cv : Int64} {P : PS} (hM : f 75 = some (MO wi cv)) (hs : AR f 76 73 s) (hP : SP s P) (hV : VD P) : Ct g MX12_all [.ref 75] f 0 0 (fun r f' => f = f' ∧ r = some (.long (lN (opk (pC P) (pW P * pH P))))) := by
  refine Ct.of ok_MX12_all (Nat.le_of_ble_eq_true rfl) ?_
  change Wp g MX12_all 0 [some (.ref 75), none, none, none] [] f 0 0 _
  have ha := hV.area
  have loop : ∀ (n i : Nat), pW P * pH P - i = n → i ≤ pW P * pH P → Wp g MX12_all 4 [some (.ref 75), some (.long (lN (opk (pC P) i))), none, some (.int (nI i))] [] f 0 0 (fun r f' => f = f' ∧ r = some (.long (lN (opk (pC P) (pW P * pH P))))) := by
    intro n
    induction n using Nat.strongRecOn with
    | ind n ih =>
      intro i hn hi
      refine rn_iload_n dX12_all_4 rfl ?_
      refine rn_aload_n dX12_all_5 rfl ?_
      refine rn_callV dX12_all_6 lmX12_68 ⟨Nat.le_of_ble_eq_true rfl, Nat.le_of_ble_eq_true rfl⟩ (cm_cells g f hM hs hP) hM rfl rfl (Nat.le_of_ble_eq_true rfl) ?_
      rintro _ _ ⟨rfl, rfl⟩
      refine rn_icmp_ge (tgt := 36) dX12_all_9 (by decide) (fun c9 => ?_) (fun c9 => ?_)
      · refine rn_lload_n dX12_all_36 rfl ?_
        refine rn_lret dX12_all_37 rfl ?_
        have hi2 := ge_ex c9 (by omega) (by omega)
        exact ⟨rfl, by rw [show i = pW P * pH P by omega]⟩
      · have hi2 := ge_in c9 (by omega)
        have hb := opk_lt (pC P) i
        have hlt : 2 ^ i < 2 ^ 64 := Nat.pow_lt_pow_right (by decide) (by omega)
        refine rn_lload_n dX12_all_12 rfl ?_
        refine rn_aload_n dX12_all_13 rfl ?_
        refine rn_iload_n dX12_all_14 rfl ?_
        refine rn_callV dX12_all_15 lmX12_76 ⟨Nat.le_of_ble_eq_true rfl, Nat.le_of_ble_eq_true rfl⟩ (cm_isOpen g f hM hs (by omega)) hM rfl rfl (Nat.le_of_ble_eq_true rfl) ?_
        rintro _ _ ⟨rfl, rfl⟩
        rw [hP.2.2.2.2.2.1 i hi2]
        refine rn_if_eq (tgt := 27) dX12_all_18 (by decide) (fun c18 => ?_) (fun c18 => ?_)
        · refine rn_lconst (v := 0) dX12_all_27 (by decide) ?_
          refine rn_lor dX12_all_28 ?_
          refine rn_lstore_n dX12_all_29 (Nat.le_of_ble_eq_true rfl) rfl ?_
          refine rn_iinc (v := nI (i + 1)) dX12_all_30 rfl (nI_1 i) (Nat.le_of_ble_eq_true rfl) rfl ?_
          refine rn_goto (tgt := 4) dX12_all_33 (by decide) ?_
          have hz := Classical.not_not.mp (of_decide_eq_false (bI_0.mp c18))
          have e := ih _ (by omega) (i + 1) rfl (by omega)
          rw [show opk (pC P) (i + 1) = opk (pC P) i ||| 0 by simp only [opk, hz, if_true, Nat.or_zero], ← wb_or (by omega) (by decide)] at e
          exact e
        · refine rn_lconst (v := 1) dX12_all_21 (by decide) ?_
          refine rn_iload_n dX12_all_22 rfl ?_
          refine rn_lshl dX12_all_23 ?_
          refine rn_goto (tgt := 28) dX12_all_24 (by decide) ?_
          refine rn_lor dX12_all_28 ?_
          refine rn_lstore_n dX12_all_29 (Nat.le_of_ble_eq_true rfl) rfl ?_
          refine rn_iinc (v := nI (i + 1)) dX12_all_30 rfl (nI_1 i) (Nat.le_of_ble_eq_true rfl) rfl ?_
          refine rn_goto (tgt := 4) dX12_all_33 (by decide) ?_
          have hz := of_decide_eq_true (bI_n0.mp c18)
          have e := ih _ (by omega) (i + 1) rfl (by omega)
          rw [show opk (pC P) (i + 1) = opk (pC P) i + 2 ^ i by simp only [opk, hz, if_false], ← or_add hb, ← wb_or (by omega) hlt] at e
          rw [show (1 : Int64) = lN 1 from rfl, wb_shl 1 (by omega), Nat.one_mul]
          exact e
  refine rn_lconst (v := 0) dX12_all_0 (by decide) ?_
  refine rn_lstore_n dX12_all_1 (Nat.le_of_ble_eq_true rfl) rfl ?_
  refine rn_iconst (v := nI 0) dX12_all_2 (by decide) ?_
  refine rn_istore_n dX12_all_3 (Nat.le_of_ble_eq_true rfl) rfl ?_
  exact loop _ 0 rfl (by omega)
theorem cm_weight (g : GG) (f : Mm) {wi s : Nat → Int32} {cv : Int64} {P : PS} {n a b m : Nat} (hM : f 75 = some (MO wi cv)) (hs : AR f 76 73 s) (hP : SP s P) (hV : VD P) (hn : n < 2 ^ (pW P * pH P)) (ha5 : a < 5) (hb5 : b < 5) (hm : 1 ≤ m) (hm2 : m ≤ 5) : Ct g MX12_weight [.ref 75, .long (lN n), .int (nI a), .int (nI b), .int (nI m)] f 0 0 (fun r f' => f = f' ∧ r = some (.int (nI (wgt (pW P) a b m n)))) := by
  refine Ct.of ok_MX12_weight (Nat.le_of_ble_eq_true rfl) ?_
  change Wp g MX12_weight 0 [some (.ref 75), some (.long (lN n)), none, some (.int (nI a)), some (.int (nI b)), some (.int (nI m)), none, none] [] f 0 0 _
  have ha := hV.area
  have h36 := pw_36 ha
  obtain ⟨v1, v2, v3, v4, v5⟩ := id hV
  obtain ⟨bs, hbs, hbse⟩ := id hs
  have hw0 : bs (nI 0).toNatClampNeg = nI (pW P) := by rw [nI_clamp (by decide), hbse 0 (by omega), hP.1]
  have hbd : ∀ d, d ≤ 36 → bsum n (wce (pW P) a b) d ≤ 1024 * d := by
    intro d
    induction d with
    | zero => intro _; exact Nat.le_refl _
    | succ d ih =>
      intro hd
      have h0 := ih (by omega)
      have h1 : d % pW P ≤ d := Nat.mod_le _ _
      have h2 : d / pW P ≤ d := Nat.div_le_self _ _
      have h3 : a * (d % pW P) ≤ 4 * 35 := Nat.mul_le_mul (by omega) (by omega)
      have h4 : b * (d / pW P) ≤ 4 * 35 := Nat.mul_le_mul (by omega) (by omega)
      have h5 : wce (pW P) a b d ≤ 280 := by unfold wce; omega
      rw [bsum]
      split <;> omega
  have loop : ∀ (d c : Nat), pW P * pH P - c = d → c ≤ pW P * pH P → Wp g MX12_weight 6 [some (.ref 75), some (.long (lN n)), none, some (.int (nI a)), some (.int (nI b)), some (.int (nI m)), some (.int (nI (bsum n (wce (pW P) a b) c))), some (.int (nI c))] [] f 0 0 (fun r f' => f = f' ∧ r = some (.int (nI (wgt (pW P) a b m n)))) := by
    intro d
    induction d using Nat.strongRecOn with
    | ind d ih =>
      intro c hd hc
      have hbc := hbd c (by omega)
      refine rn_iload dX12_weight_6 rfl ?_
      refine rn_aload_n dX12_weight_8 rfl ?_
      refine rn_callV dX12_weight_9 lmX12_68 ⟨Nat.le_of_ble_eq_true rfl, Nat.le_of_ble_eq_true rfl⟩ (cm_cells g f hM hs hP) hM rfl rfl (Nat.le_of_ble_eq_true rfl) ?_
      rintro _ _ ⟨rfl, rfl⟩
      refine rn_icmp_ge (tgt := 65) dX12_weight_12 (by decide) (fun c12 => ?_) (fun c12 => ?_)
      · refine rn_iload dX12_weight_65 rfl ?_
        refine rn_iload dX12_weight_67 rfl ?_
        refine rn_irem dX12_weight_69 (nI_ne0 (by omega) (by omega)) ?_
        refine rn_iret dX12_weight_70 rfl ?_
        have hc2 := ge_ex c12 (by omega) (by omega)
        have hce : c = pW P * pH P := by omega
        subst hce
        refine ⟨rfl, ?_⟩
        rw [pk_rem (by omega) (by omega) (by omega)]
        have hno := bsum_none (n := n) (u := wce (pW P) a b) (c := pW P * pH P) (36 - pW P * pH P) (fun j h1 _ => Nat.testBit_lt_two_pow (Nat.lt_of_lt_of_le hn (Nat.pow_le_pow_right (by decide) h1)))
        rw [show pW P * pH P + (36 - pW P * pH P) = 36 by omega] at hno
        rw [wgt, hno]
      · have hc2 := ge_in c12 (by omega)
        refine rn_iload dX12_weight_15 rfl ?_
        refine rn_lload_n dX12_weight_17 rfl ?_
        refine rn_iload dX12_weight_18 rfl ?_
        refine rn_lshr dX12_weight_20 ?_
        refine rn_lconst (v := 1) dX12_weight_21 (by decide) ?_
        refine rn_land dX12_weight_22 ?_
        rw [lb_bit (by omega) (by omega)]
        refine rn_lconst (v := 1) dX12_weight_23 (by decide) ?_
        refine rn_lcmp dX12_weight_24 ?_
        refine rn_if_ne (tgt := 55) dX12_weight_25 (by decide) (fun c25 => ?_) (fun c25 => ?_)
        · refine rn_iconst (v := nI 0) dX12_weight_55 (by decide) ?_
          refine rn_iadd dX12_weight_56 ?_
          rw [nI_add]
          refine rn_istore dX12_weight_57 (Nat.le_of_ble_eq_true rfl) rfl ?_
          refine rn_iinc (v := nI (c + 1)) dX12_weight_59 rfl (nI_1 c) (Nat.le_of_ble_eq_true rfl) rfl ?_
          refine rn_goto (tgt := 6) dX12_weight_62 (by decide) ?_
          have hb0 : n.testBit c = false := by
            rw [tb_eq, decide_eq_false]
            exact fun q => c25 ((lg_cmp_eq _ _).mpr (by rw [q]; rfl))
          have e := ih _ (by omega) (c + 1) rfl (by omega)
          rw [show bsum n (wce (pW P) a b) (c + 1) = bsum n (wce (pW P) a b) c + 0 by rw [bsum, hb0]; rfl] at e
          exact e
        · refine rn_iload_n dX12_weight_28 rfl ?_
          refine rn_iload dX12_weight_29 rfl ?_
          refine rn_aload_n dX12_weight_31 rfl ?_
          refine rn_get dX12_weight_32 lfX12_7 hM rfl ?_
          refine rn_iconst (v := nI 0) dX12_weight_35 (by decide) ?_
          refine rn_iald dX12_weight_36 hbs (vp_in_nI (show 0 < 73 by omega) (by decide)) ?_
          rw [hw0]
          refine rn_irem dX12_weight_37 (nI_ne0 (by omega) (by omega)) ?_
          rw [pk_rem (by omega) (by omega) (by omega)]
          refine rn_imul dX12_weight_38 ?_
          refine rn_iload dX12_weight_39 rfl ?_
          refine rn_iload dX12_weight_41 rfl ?_
          refine rn_aload_n dX12_weight_43 rfl ?_
          refine rn_get dX12_weight_44 lfX12_7 hM rfl ?_
          refine rn_iconst (v := nI 0) dX12_weight_47 (by decide) ?_
          refine rn_iald dX12_weight_48 hbs (vp_in_nI (show 0 < 73 by omega) (by decide)) ?_
          rw [hw0]
          refine rn_idiv dX12_weight_49 (nI_ne0 (by omega) (by omega)) ?_
          rw [pk_div (by omega) (by omega) (by omega)]
          refine rn_imul dX12_weight_50 ?_
          refine rn_iadd dX12_weight_51 ?_
          rw [pk_mul, pk_mul, nI_add]
          refine rn_goto (tgt := 56) dX12_weight_52 (by decide) ?_
          refine rn_iadd dX12_weight_56 ?_
          rw [nI_add]
          refine rn_istore dX12_weight_57 (Nat.le_of_ble_eq_true rfl) rfl ?_
          refine rn_iinc (v := nI (c + 1)) dX12_weight_59 rfl (nI_1 c) (Nat.le_of_ble_eq_true rfl) rfl ?_
          refine rn_goto (tgt := 6) dX12_weight_62 (by decide) ?_
          have hb1 : n.testBit c = true := by
            have q := (lg_cmp_eq _ _).mp c25
            have q2 : n / 2 ^ c % 2 = 1 := (lb_eq (b := 1) (by omega) (by decide)).mp q
            rw [tb_eq, decide_eq_true q2]
          have e := ih _ (by omega) (c + 1) rfl (by omega)
          rw [show bsum n (wce (pW P) a b) (c + 1) = bsum n (wce (pW P) a b) c + wce (pW P) a b c by rw [bsum, hb1, if_pos rfl]] at e
          exact e
  refine rn_iconst (v := nI 0) dX12_weight_0 (by decide) ?_
  refine rn_istore dX12_weight_1 (Nat.le_of_ble_eq_true rfl) rfl ?_
  refine rn_iconst (v := nI 0) dX12_weight_3 (by decide) ?_
  refine rn_istore dX12_weight_4 (Nat.le_of_ble_eq_true rfl) rfl ?_
  exact loop _ 0 rfl (by omega)
