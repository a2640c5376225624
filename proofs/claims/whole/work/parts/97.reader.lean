-- the text, and how it is read
def chI (T : List Nat) (i : Nat) : Int32 := match T[i]? with
  | none => -1
  | some c => nI c
def okB (x : Int32) : Bool := decide (x = nI 46) || (decide (x = nI 35) || decide (nI 49 ≤ x ∧ x ≤ nI 51))
def okO (x : Int32) : Bool := decide (x = nI 111) || decide (x = nI 46)
def rowOk (b : Bool) (x : Int32) : Bool := if b = true then okB x else okO x
def cvl (x : Int32) : Int32 := if x = nI 46 then 0 else if x = nI 35 then -1 else x - nI 48
def rl (T : List Nat) (b : Bool) : Nat → Nat → Nat
  | 0, _ => 0
  | m + 1, p => if rowOk b (chI T p) = true then rl T b m (p + 1) + 1 else 0
theorem rl_eq {T : List Nat} {b : Bool} : ∀ {m n p : Nat}, n ≤ m → (∀ i, i < n → rowOk b (chI T (p + i)) = true) → (n = m ∨ rowOk b (chI T (p + n)) = false) → rl T b m p = n
  | 0, n, p, h1, _, _ => by rw [rl]; omega
  | m + 1, n, p, h1, h2, h3 => by
    rw [rl]
    cases n with
    | zero =>
      rw [if_neg]
      rcases h3 with h | h
      · omega
      · rw [Nat.add_zero] at h; rw [h]; decide
    | succ n =>
      rw [if_pos (by have := h2 0 (by omega); rw [Nat.add_zero] at this; exact this)]
      rw [rl_eq (n := n) (by omega) (fun i hi => by have := h2 (i + 1) (by omega); rw [show p + (i + 1) = p + 1 + i by omega] at this; exact this) (by rw [show p + 1 + n = p + (n + 1) by omega]; exact h3.imp (fun h => by omega) id)]
theorem rl_le (T : List Nat) (b : Bool) : ∀ m p, rl T b m p ≤ m
  | 0, _ => Nat.le_refl _
  | m + 1, p => by
    have := rl_le T b m (p + 1)
    rw [rl]
    split <;> omega
theorem chI_ok {T : List Nat} {b : Bool} {p : Nat} (h : rowOk b (chI T p) = true) : p < T.length := by
  rcases Nat.lt_or_ge p T.length with q | q
  · exact q
  · rw [chI, List.getElem?_eq_none q] at h
    cases b <;> exact absurd h (by decide)
theorem chI_ne {T : List Nat} {p : Nat} {v : Int32} (h : chI T p = v) (hv : ¬ v = -1) : p < T.length := by
  rcases Nat.lt_or_ge p T.length with q | q
  · exact q
  · rw [chI, List.getElem?_eq_none q] at h
    exact absurd h.symm hv
/-- rows: r of width w are read, up to p; d more may come -/
def rwk (T : List Nat) (b : Bool) (w : Nat) : Nat → Nat → Nat → Bool × Nat × Nat
  | 0, r, p => (true, r, p)
  | d + 1, r, p => if chI T p = nI 47 then (if rl T b w (p + 1) = w then rwk T b w d (r + 1) (p + 1 + w) else (false, r + 1, p + 1 + rl T b w (p + 1))) else (true, r, p)
def rwS (T : List Nat) (b : Bool) (most p : Nat) : Bool × Nat × Nat := if rl T b most p = 0 then (false, 1, p) else rwk T b (rl T b most p) (most - 1) 1 (p + rl T b most p)
-- the class's Reader
abbrev RDE (n p c r s : Nat) : Ent := .inr (5, [.ref 46, .int (nI n), .ref 47, .int (nI p), .int (nI c), .int (nI r), .int (nI s)])
def RDt (f : Mm) (T : List Nat) : Prop := T.length ≤ 160 ∧ ∃ C, AR f 46 160 C ∧ ∀ i c, T[i]? = some c → c < 256 ∧ C i = nI c
theorem RDt.keep {f f' : Mm} {T : List Nat} (h : RDt f T) (e : f' 46 = f 46) : RDt f' T := by
  obtain ⟨h1, C, h2, h3⟩ := h
  exact ⟨h1, C, h2.keep e, h3⟩
theorem ct_look (g : GG) (f : Mm) {T : List Nat} {p c r s : Nat} (hO : f 45 = some (RDE T.length p c r s)) (hT : RDt f T) (hp : p < 1000) : Ct g MX5_look [.ref 45] f 0 0 (fun r f' => f = f' ∧ r = some (.int (chI T p))) := by
  refine Ct.of ok_MX5_look (Nat.le_of_ble_eq_true rfl) ?_
  change Wp g MX5_look 0 [some (.ref 45), none] [] f 0 0 _
  obtain ⟨hl, C, hC, hCe⟩ := id hT
  obtain ⟨b, hb, hbe⟩ := id hC
  have no : T.length ≤ p → Wp g MX5_look 32 [some (.ref 45), none] [] f 0 0 (fun r f' => f = f' ∧ r = some (.int (chI T p))) := fun h => by
    refine rn_iconst (v := nI 0) dX5_look_32 (by decide) ?_
    refine rn_istore_n dX5_look_33 (Nat.le_of_ble_eq_true rfl) rfl ?_
    refine rn_iload_n dX5_look_34 rfl ?_
    refine rn_if_eq (tgt := 50) dX5_look_35 (by decide) (fun c35 => ?_) (fun c35 => ?_)
    · refine rn_iconst (v := (-1)) dX5_look_50 (by decide) ?_
      refine rn_iret dX5_look_51 rfl ?_
      exact ⟨rfl, by rw [chI, List.getElem?_eq_none h]⟩
    · exact absurd (show nI 0 = 0 from rfl) c35
  refine rn_aload_n dX5_look_0 rfl ?_
  refine rn_get dX5_look_1 lfX5_26 hO rfl ?_
  refine rn_if_lt (tgt := 32) dX5_look_4 (by decide) (fun c4 => ?_) (fun c4 => ?_)
  · exact absurd c4 (nI_pos (by omega))
  · refine rn_aload_n dX5_look_7 rfl ?_
    refine rn_get dX5_look_8 lfX5_26 hO rfl ?_
    refine rn_aload_n dX5_look_11 rfl ?_
    refine rn_get dX5_look_12 lfX5_15 hO rfl ?_
    refine rn_icmp_ge (tgt := 32) dX5_look_15 (by decide) (fun c15 => ?_) (fun c15 => ?_)
    · exact no (ge_ex c15 (by omega) (by omega))
    · refine rn_aload_n dX5_look_18 rfl ?_
      refine rn_get dX5_look_19 lfX5_26 hO rfl ?_
      refine rn_sipush (v := nI 160) dX5_look_22 (by decide) ?_
      refine rn_icmp_ge (tgt := 32) dX5_look_25 (by decide) (fun c25 => ?_) (fun c25 => ?_)
      · exact no (by have := ge_ex (b := 160) c25 (by omega) (by decide); omega)
      · refine rn_iconst (v := nI 1) dX5_look_28 (by decide) ?_
        refine rn_goto (tgt := 33) dX5_look_29 (by decide) ?_
        refine rn_istore_n dX5_look_33 (Nat.le_of_ble_eq_true rfl) rfl ?_
        refine rn_iload_n dX5_look_34 rfl ?_
        refine rn_if_eq (tgt := 50) dX5_look_35 (by decide) (fun c35 => ?_) (fun c35 => ?_)
        · exact absurd c35 (by decide)
        · have hlt : p < T.length := ge_in c15 (by omega)
          refine rn_aload_n dX5_look_38 rfl ?_
          refine rn_get dX5_look_39 lfX5_9 hO rfl ?_
          refine rn_aload_n dX5_look_42 rfl ?_
          refine rn_get dX5_look_43 lfX5_26 hO rfl ?_
          refine rn_iald dX5_look_46 hb (vp_in_nI (show p < 160 by omega) (by decide)) ?_
          refine rn_goto (tgt := 51) dX5_look_47 (by decide) ?_
          refine rn_iret dX5_look_51 rfl ?_
          have hg : T[p]? = some T[p] := List.getElem?_eq_getElem hlt
          exact ⟨rfl, by rw [nI_clamp (by omega), hbe p (by omega), (hCe p _ hg).2, chI, hg]⟩
theorem okB_cases {x : Int32} : okB x = true ↔ x = nI 46 ∨ x = nI 35 ∨ (nI 49 ≤ x ∧ x ≤ nI 51) := by
  simp only [okB, Bool.or_eq_true, decide_eq_true_eq]
theorem ct_readCell (g : GG) (f : Mm) {T : List Nat} {D : PS} {p c r s ro col : Nat} (hO : f 45 = some (RDE T.length p c r s)) (hT : RDt f T) (hD : PB f 47 D) (hp : p < 1000) (hc : c ≤ 6) (hi : ro * c + col < 36) : Ct g MX5_readCell [.ref 45, .int (nI ro), .int (nI col)] f 0 0 (fun r f' => (∀ j, (j < 47 ∨ 52 < j) → f' j = f j) ∧ ((okB (chI T p) = true ∧ r = some (.int 1) ∧ PB f' 47 (pCell D (ro * c + col) (cvl (chI T p)))) ∨ (okB (chI T p) = false ∧ r = some (.int 0) ∧ f = f'))) := by
  refine Ct.of ok_MX5_readCell (Nat.le_of_ble_eq_true rfl) ?_
  change Wp g MX5_readCell 0 [some (.ref 45), some (.int (nI ro)), some (.int (nI col)), none, none] [] f 0 0 _
  refine rn_aload_n dX5_readCell_0 rfl ?_
  refine rn_callV dX5_readCell_1 lmX5_55 ⟨Nat.le_of_ble_eq_true rfl, Nat.le_of_ble_eq_true rfl⟩ (ct_look g f hO hT hp) hO rfl rfl (Nat.le_of_ble_eq_true rfl) ?_
  rintro _ _ ⟨rfl, rfl⟩
  refine rn_istore_n dX5_readCell_4 (Nat.le_of_ble_eq_true rfl) rfl ?_
  refine rn_iload_n dX5_readCell_5 rfl ?_
  refine rn_aload_n dX5_readCell_6 rfl ?_
  refine rn_get dX5_readCell_7 lfX5_29 hO rfl ?_
  refine rn_imul dX5_readCell_10 ?_
  rw [pk_mul]
  refine rn_iload_n dX5_readCell_11 rfl ?_
  refine rn_iadd dX5_readCell_12 ?_
  rw [nI_add]
  refine rn_istore dX5_readCell_13 (Nat.le_of_ble_eq_true rfl) rfl ?_
  refine rn_iload_n dX5_readCell_15 rfl ?_
  refine rn_bipush (v := nI 46) dX5_readCell_16 (by decide) ?_
  refine rn_icmp_ne (tgt := 34) dX5_readCell_18 (by decide) (fun c18 => ?_) (fun c18 => ?_)
  · refine rn_iload_n dX5_readCell_34 rfl ?_
    refine rn_bipush (v := nI 35) dX5_readCell_35 (by decide) ?_
    refine rn_icmp_ne (tgt := 53) dX5_readCell_37 (by decide) (fun c37 => ?_) (fun c37 => ?_)
    · refine rn_iload_n dX5_readCell_53 rfl ?_
      refine rn_bipush (v := nI 49) dX5_readCell_54 (by decide) ?_
      refine rn_bipush (v := nI 51) dX5_readCell_56 (by decide) ?_
      refine rn_callS dX5_readCell_58 lmX5_87 ⟨Nat.le_of_ble_eq_true rfl, Nat.le_of_ble_eq_true rfl⟩ (ct_isWithin g f (chI T p) (nI 49) (nI 51)) rfl rfl (Nat.le_of_ble_eq_true rfl) ?_
      rintro _ _ ⟨rfl, rfl⟩
      refine rn_if_eq (tgt := 80) dX5_readCell_61 (by decide) (fun c61 => ?_) (fun c61 => ?_)
      · refine rn_iconst (v := nI 0) dX5_readCell_80 (by decide) ?_
        refine rn_zret dX5_readCell_81 rfl rfl ?_
        have h3 := of_decide_eq_false (bI_0.mp c61)
        exact ⟨fun _ _ => rfl, Or.inr ⟨by rw [okB, decide_eq_false c18, decide_eq_false c37, decide_eq_false h3]; rfl, rfl, rfl⟩⟩
      · refine rn_aload_n dX5_readCell_64 rfl ?_
        refine rn_get dX5_readCell_65 lfX5_22 hO rfl ?_
        refine rn_iload dX5_readCell_68 rfl ?_
        refine rn_iload_n dX5_readCell_70 rfl ?_
        refine rn_bipush (v := nI 48) dX5_readCell_71 (by decide) ?_
        refine rn_isub dX5_readCell_73 ?_
        refine rn_callV dX5_readCell_74 lmX5_83 ⟨Nat.le_of_ble_eq_true rfl, Nat.le_of_ble_eq_true rfl⟩ (ct_putCell g f (chI T p - nI 48) hD hi) hD.1 rfl rfl (Nat.le_of_ble_eq_true rfl) ?_
        rintro _ f1 ⟨rfl, h1, k1⟩
        refine rn_goto (tgt := 82) dX5_readCell_77 (by decide) ?_
        refine rn_iconst (v := nI 1) dX5_readCell_82 (by decide) ?_
        refine rn_zret dX5_readCell_83 rfl rfl ?_
        have h3 := of_decide_eq_true (bI_n0.mp c61)
        exact ⟨fun j hj => k1 j (by omega), Or.inl ⟨okB_cases.mpr (Or.inr (Or.inr h3)), rfl, by rw [cvl, if_neg c18, if_neg c37]; exact h1⟩⟩
    · refine rn_aload_n dX5_readCell_40 rfl ?_
      refine rn_get dX5_readCell_41 lfX5_22 hO rfl ?_
      refine rn_iload dX5_readCell_44 rfl ?_
      refine rn_iconst (v := (-1)) dX5_readCell_46 (by decide) ?_
      refine rn_callV dX5_readCell_47 lmX5_83 ⟨Nat.le_of_ble_eq_true rfl, Nat.le_of_ble_eq_true rfl⟩ (ct_putCell g f (-1) hD hi) hD.1 rfl rfl (Nat.le_of_ble_eq_true rfl) ?_
      rintro _ f1 ⟨rfl, h1, k1⟩
      refine rn_goto (tgt := 82) dX5_readCell_50 (by decide) ?_
      refine rn_iconst (v := nI 1) dX5_readCell_82 (by decide) ?_
      refine rn_zret dX5_readCell_83 rfl rfl ?_
      exact ⟨fun j hj => k1 j (by omega), Or.inl ⟨okB_cases.mpr (Or.inr (Or.inl c37)), rfl, by rw [cvl, if_neg c18, if_pos c37]; exact h1⟩⟩
  · refine rn_aload_n dX5_readCell_21 rfl ?_
    refine rn_get dX5_readCell_22 lfX5_22 hO rfl ?_
    refine rn_iload dX5_readCell_25 rfl ?_
    refine rn_iconst (v := nI 0) dX5_readCell_27 (by decide) ?_
    refine rn_callV dX5_readCell_28 lmX5_83 ⟨Nat.le_of_ble_eq_true rfl, Nat.le_of_ble_eq_true rfl⟩ (ct_putCell g f (nI 0) hD hi) hD.1 rfl rfl (Nat.le_of_ble_eq_true rfl) ?_
    rintro _ f1 ⟨rfl, h1, k1⟩
    refine rn_goto (tgt := 82) dX5_readCell_31 (by decide) ?_
    refine rn_iconst (v := nI 1) dX5_readCell_82 (by decide) ?_
    refine rn_zret dX5_readCell_83 rfl rfl ?_
    exact ⟨fun j hj => k1 j (by omega), Or.inl ⟨okB_cases.mpr (Or.inl c18), rfl, by rw [cvl, if_pos c18]; exact h1⟩⟩
theorem ct_readSquare (g : GG) (f : Mm) {T : List Nat} {p c r s ro col : Nat} (hO : f 45 = some (RDE T.length p c r s)) (hT : RDt f T) (hp : p < 1000) (hs : s < 65536) (hr : ro < 4) (hc : col < 4) : Ct g MX5_readSquare [.ref 45, .int (nI ro), .int (nI col)] f 0 0 (fun r' f' => (∀ j, j ≠ 45 → f' j = f j) ∧ r' = some (.int (bI (okO (chI T p)))) ∧ ∃ s', s' < 65536 ∧ f' 45 = some (RDE T.length p c r s') ∧ s' = if chI T p = nI 111 then s ||| 2 ^ (ro * 4 + col) else s) := by
  refine Ct.of ok_MX5_readSquare (Nat.le_of_ble_eq_true rfl) ?_
  change Wp g MX5_readSquare 0 [some (.ref 45), some (.int (nI ro)), some (.int (nI col)), none] [] f 0 0 _
  have h16 : ro * 4 + col < 16 := by omega
  have hpw : 2 ^ (ro * 4 + col) < 2 ^ 16 := Nat.pow_lt_pow_right (by decide) h16
  have hor : s ||| 2 ^ (ro * 4 + col) < 2 ^ 16 := Nat.or_lt_two_pow (by omega) hpw
  have fin : ∀ (f1 : Mm), (∀ j, j ≠ 45 → f1 j = f j) → f1 45 = some (RDE T.length p c r (if chI T p = nI 111 then s ||| 2 ^ (ro * 4 + col) else s)) → Wp g MX5_readSquare 27 [some (.ref 45), some (.int (nI ro)), some (.int (nI col)), some (.int (chI T p))] [] f1 0 0 (fun r' f' => (∀ j, j ≠ 45 → f' j = f j) ∧ r' = some (.int (bI (okO (chI T p)))) ∧ ∃ s', s' < 65536 ∧ f' 45 = some (RDE T.length p c r s') ∧ s' = if chI T p = nI 111 then s ||| 2 ^ (ro * 4 + col) else s) := fun f1 k1 o1 => by
    have hb : (if chI T p = nI 111 then s ||| 2 ^ (ro * 4 + col) else s) < 65536 := by split <;> omega
    refine rn_iload_n dX5_readSquare_27 rfl ?_
    refine rn_bipush (v := nI 111) dX5_readSquare_28 (by decide) ?_
    refine rn_icmp_eq (tgt := 39) dX5_readSquare_30 (by decide) (fun c30 => ?_) (fun c30 => ?_)
    · refine rn_iconst (v := nI 1) dX5_readSquare_39 (by decide) ?_
      refine rn_goto (tgt := 44) dX5_readSquare_40 (by decide) ?_
      refine rn_zret dX5_readSquare_44 rfl rfl ?_
      exact ⟨k1, by rw [okO, decide_eq_true c30]; rfl, _, hb, o1, rfl⟩
    · refine rn_iload_n dX5_readSquare_33 rfl ?_
      refine rn_bipush (v := nI 46) dX5_readSquare_34 (by decide) ?_
      refine rn_icmp_ne (tgt := 43) dX5_readSquare_36 (by decide) (fun c36 => ?_) (fun c36 => ?_)
      · refine rn_iconst (v := nI 0) dX5_readSquare_43 (by decide) ?_
        refine rn_zret dX5_readSquare_44 rfl rfl ?_
        exact ⟨k1, by rw [okO, decide_eq_false c30, decide_eq_false c36]; rfl, _, hb, o1, rfl⟩
      · refine rn_iconst (v := nI 1) dX5_readSquare_39 (by decide) ?_
        refine rn_goto (tgt := 44) dX5_readSquare_40 (by decide) ?_
        refine rn_zret dX5_readSquare_44 rfl rfl ?_
        exact ⟨k1, by rw [okO, decide_eq_true c36, Bool.or_true]; rfl, _, hb, o1, rfl⟩
  refine rn_aload_n dX5_readSquare_0 rfl ?_
  refine rn_callV dX5_readSquare_1 lmX5_55 ⟨Nat.le_of_ble_eq_true rfl, Nat.le_of_ble_eq_true rfl⟩ (ct_look g f hO hT hp) hO rfl rfl (Nat.le_of_ble_eq_true rfl) ?_
  rintro _ _ ⟨rfl, rfl⟩
  refine rn_istore_n dX5_readSquare_4 (Nat.le_of_ble_eq_true rfl) rfl ?_
  refine rn_iload_n dX5_readSquare_5 rfl ?_
  refine rn_bipush (v := nI 111) dX5_readSquare_6 (by decide) ?_
  refine rn_icmp_ne (tgt := 27) dX5_readSquare_8 (by decide) (fun c8 => ?_) (fun c8 => ?_)
  · exact fin f (fun _ _ => rfl) (by rw [if_neg c8]; exact hO)
  · refine rn_aload_n dX5_readSquare_11 rfl ?_
    refine rn_dup dX5_readSquare_12 rfl ?_
    refine rn_get dX5_readSquare_13 lfX5_35 hO rfl ?_
    refine rn_iconst (v := nI 1) dX5_readSquare_16 (by decide) ?_
    refine rn_iload_n dX5_readSquare_17 rfl ?_
    refine rn_iconst (v := nI 4) dX5_readSquare_18 (by decide) ?_
    refine rn_imul dX5_readSquare_19 ?_
    rw [pk_mul]
    refine rn_iload_n dX5_readSquare_20 rfl ?_
    refine rn_iadd dX5_readSquare_21 ?_
    rw [nI_add]
    refine rn_ishl dX5_readSquare_22 ?_
    rw [nb_shl (by omega) (by omega), Nat.one_mul]
    refine rn_ior dX5_readSquare_23 ?_
    rw [nb_or (by omega) (by omega)]
    refine rn_put dX5_readSquare_24 lpX5_35 hO rfl rfl (Nat.le_of_ble_eq_true rfl) ?_
    refine Wp.gen (e := RDE T.length p c r (s ||| 2 ^ (ro * 4 + col))) (fun f1 k1 o1 => ?_)
    exact fin f1 k1 (by rw [if_pos c8]; exact o1)
