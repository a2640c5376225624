-- the class's placements, read
def gp (l : List PE) (k : Nat) : PE := (l[k]?).getD (0, 0, 0, 0)
theorem gp_some {l : List PE} {k : Nat} (h : k < l.length) : l[k]? = some (gp l k) := by
  rw [gp, List.getElem?_eq_getElem h]; rfl
/-- a sound placement -/
def EV (e : PE) : Prop := e.1 < 8 ∧ e.2.1 < 8 ∧ e.2.2.1 < 36 ∧ 0 < e.2.2.2 ∧ e.2.2.2 < 2 ^ 36
def EVs (l : List PE) : Prop := ∀ k, k < l.length → EV (gp l k)
theorem EVs.of {l : List PE} (h : ∀ e ∈ l, EV e) : EVs l := fun k hk => h _ (List.mem_of_getElem? (gp_some hk))
theorem pl1_ev {P : PS} {sh fr co cp : Nat → Nat} (hV : VD P) (hN : VN P sh fr co cp) : EVs (pl1 P sh fr co (pN P)) := by
  have ha := hV.area
  have h36 := pw_36 ha
  have v8 := hV.2.2.2.2
  have h3 : ∀ p i t c0 c, p < 8 → i < 8 → c ≤ pW P * pH P → ∀ e ∈ pl3 P p i t c0 c, EV e := by
    intro p i t c0 c hp hi
    induction c with
    | zero => intro _ e he; simp [pl3] at he
    | succ c ih =>
      intro hc e he
      rw [pl3, List.mem_append] at he
      rcases he with he | he
      · exact ih (by omega) e he
      · by_cases hz : ly P t c0 c = 0
        · rw [if_pos hz] at he; simp at he
        · rw [if_neg hz] at he
          rw [List.mem_singleton.mp he]
          have := ly_lt P t c0 c
          exact ⟨hp, hi, by show c < 36; omega, by show 0 < ly P t c0 c; omega, by show ly P t c0 c < _; omega⟩
  have h2 : ∀ p, p < pN P → ∀ i, i ≤ fmN (sh p) (fr p) → ∀ e ∈ pl2 P (sh p) (fr p) (co p) p i, EV e := by
    intro p hp i
    obtain ⟨n1, n2, n3, n4, -⟩ := hN p hp
    have hfm := fmN_le _ n2 _ n4
    induction i with
    | zero => intro _ e he; simp [pl2] at he
    | succ i ih =>
      intro hi e he
      rw [pl2, List.mem_append] at he
      rcases he with he | he
      · exact ih (by omega) e he
      · exact h3 p i _ _ _ (by omega) (by omega) (Nat.le_refl _) e he
  have h1 : ∀ p, p ≤ pN P → ∀ e ∈ pl1 P sh fr co p, EV e := by
    intro p
    induction p with
    | zero => intro _ e he; simp [pl1] at he
    | succ p ih =>
      intro hp e he
      rw [pl1, List.mem_append] at he
      rcases he with he | he
      · exact ih (by omega) e he
      · exact h2 p (by omega) _ (Nat.le_refl _) e he
  exact EVs.of (h1 (pN P) (Nat.le_refl _))
theorem ct_maskOf (g : GG) (f : Mm) {l : List PE} {op k : Nat} (hL : PLc f l op) (hk : k < l.length) (hl : l.length ≤ 1280) : Ct g MX3_maskOf [.ref 56, .int (nI k)] f 0 0 (fun r f' => f = f' ∧ r = some (.long (lN (gp l k).2.2.2))) := by
  refine Ct.of ok_MX3_maskOf (Nat.le_of_ble_eq_true rfl) ?_
  change Wp g MX3_maskOf 0 [some (.ref 56), some (.int (nI k))] [] f 0 0 _
  obtain ⟨g1, ⟨b, g2, g3⟩, -⟩ := id hL
  refine rn_iload_n dX3_maskOf_0 rfl ?_
  refine rn_if_lt (tgt := 28) dX3_maskOf_1 (by decide) (fun c1 => ?_) (fun c1 => ?_)
  · exact absurd c1 (nI_pos (by omega))
  · refine rn_iload_n dX3_maskOf_4 rfl ?_
    refine rn_aload_n dX3_maskOf_5 rfl ?_
    refine rn_get dX3_maskOf_6 lfX3_25 g1 rfl ?_
    refine rn_icmp_ge (tgt := 28) dX3_maskOf_9 (by decide) (fun c9 => ?_) (fun c9 => ?_)
    · exact absurd (ge_ex c9 (by omega) (by omega)) (by omega)
    · refine rn_iload_n dX3_maskOf_12 rfl ?_
      refine rn_sipush (v := nI 1280) dX3_maskOf_13 (by decide) ?_
      refine rn_icmp_ge (tgt := 28) dX3_maskOf_16 (by decide) (fun c16 => ?_) (fun c16 => ?_)
      · exact absurd (ge_ex c16 (by omega) (by decide)) (by omega)
      · refine rn_aload_n dX3_maskOf_19 rfl ?_
        refine rn_get dX3_maskOf_20 lfX3_9 g1 rfl ?_
        refine rn_iload_n dX3_maskOf_23 rfl ?_
        refine rn_lald dX3_maskOf_24 g2 (vp_in_nI (show k < 1280 by omega) (by decide)) ?_
        refine rn_goto (tgt := 29) dX3_maskOf_25 (by decide) ?_
        refine rn_lret dX3_maskOf_29 rfl ?_
        exact ⟨rfl, by rw [nI_clamp (by omega), g3 k _ (gp_some hk)]⟩
theorem pcode_p {e : PE} (h : EV e) : pcode e % 256 = e.1 := by
  obtain ⟨h1, -⟩ := h
  unfold pcode; omega
theorem pcode_f {e : PE} (h : EV e) : pcode e / 256 % 256 = e.2.1 := by
  obtain ⟨h1, h2, -⟩ := h
  unfold pcode; omega
theorem pcode_c {e : PE} (h : EV e) : pcode e / 65536 = e.2.2.1 := by
  obtain ⟨h1, h2, -⟩ := h
  unfold pcode; omega
theorem pcode_lt {e : PE} (h : EV e) : pcode e < 2 ^ 24 := by
  obtain ⟨h1, h2, h3, -⟩ := h
  unfold pcode; omega
theorem ct_pieceOf (g : GG) (f : Mm) {l : List PE} {op k : Nat} (hL : PLc f l op) (hE : EVs l) (hk : k < l.length) (hl : l.length ≤ 1280) : Ct g MX3_pieceOf [.ref 56, .int (nI k)] f 0 0 (fun r f' => f = f' ∧ r = some (.int (nI (gp l k).1))) := by
  refine Ct.of ok_MX3_pieceOf (Nat.le_of_ble_eq_true rfl) ?_
  change Wp g MX3_pieceOf 0 [some (.ref 56), some (.int (nI k))] [] f 0 0 _
  obtain ⟨g1, -, d, g4, g5⟩ := id hL
  have hc := pcode_lt (hE k hk)
  refine rn_aload_n dX3_pieceOf_0 rfl ?_
  refine rn_get dX3_pieceOf_1 lfX3_15 g1 rfl ?_
  refine rn_iload_n dX3_pieceOf_4 rfl ?_
  refine rn_callS dX3_pieceOf_5 lmX3_99 ⟨Nat.le_of_ble_eq_true rfl, Nat.le_of_ble_eq_true rfl⟩ (ct_at g f (nI k) (by decide) ⟨d, g4, fun _ _ => rfl⟩) rfl rfl (Nat.le_of_ble_eq_true rfl) ?_
  rintro _ _ ⟨rfl, rfl⟩
  rw [atf_nI (by omega) (by decide), g5 k _ (gp_some hk)]
  refine rn_sipush (v := nI 255) dX3_pieceOf_8 (by decide) ?_
  refine rn_iand dX3_pieceOf_11 ?_
  refine rn_iret dX3_pieceOf_12 rfl ?_
  refine ⟨rfl, ?_⟩
  rw [show (nI 255 : Int32) = nI (2 ^ 8 - 1) from rfl, nb_and (by omega) (by decide), Nat.and_two_pow_sub_one_eq_mod, show (2 ^ 8 : Nat) = 256 from rfl, pcode_p (hE k hk)]
theorem ct_formOf (g : GG) (f : Mm) {l : List PE} {op k : Nat} (hL : PLc f l op) (hE : EVs l) (hk : k < l.length) (hl : l.length ≤ 1280) : Ct g MX3_formOf [.ref 56, .int (nI k)] f 0 0 (fun r f' => f = f' ∧ r = some (.int (nI (gp l k).2.1))) := by
  refine Ct.of ok_MX3_formOf (Nat.le_of_ble_eq_true rfl) ?_
  change Wp g MX3_formOf 0 [some (.ref 56), some (.int (nI k))] [] f 0 0 _
  obtain ⟨g1, -, d, g4, g5⟩ := id hL
  have hc := pcode_lt (hE k hk)
  refine rn_aload_n dX3_formOf_0 rfl ?_
  refine rn_get dX3_formOf_1 lfX3_15 g1 rfl ?_
  refine rn_iload_n dX3_formOf_4 rfl ?_
  refine rn_callS dX3_formOf_5 lmX3_99 ⟨Nat.le_of_ble_eq_true rfl, Nat.le_of_ble_eq_true rfl⟩ (ct_at g f (nI k) (by decide) ⟨d, g4, fun _ _ => rfl⟩) rfl rfl (Nat.le_of_ble_eq_true rfl) ?_
  rintro _ _ ⟨rfl, rfl⟩
  rw [atf_nI (by omega) (by decide), g5 k _ (gp_some hk)]
  refine rn_bipush (v := nI 8) dX3_formOf_8 (by decide) ?_
  refine rn_iushr dX3_formOf_10 ?_
  rw [nb_ushr (by decide) (by omega), show (2 ^ 8 : Nat) = 256 from rfl]
  refine rn_sipush (v := nI 255) dX3_formOf_11 (by decide) ?_
  refine rn_iand dX3_formOf_14 ?_
  refine rn_iret dX3_formOf_15 rfl ?_
  refine ⟨rfl, ?_⟩
  rw [show (nI 255 : Int32) = nI (2 ^ 8 - 1) from rfl, nb_and (by omega) (by decide), Nat.and_two_pow_sub_one_eq_mod, show (2 ^ 8 : Nat) = 256 from rfl, pcode_f (hE k hk)]
theorem ct_cornerOf (g : GG) (f : Mm) {l : List PE} {op k : Nat} (hL : PLc f l op) (hE : EVs l) (hk : k < l.length) (hl : l.length ≤ 1280) : Ct g MX3_cornerOf [.ref 56, .int (nI k)] f 0 0 (fun r f' => f = f' ∧ r = some (.int (nI (gp l k).2.2.1))) := by
  refine Ct.of ok_MX3_cornerOf (Nat.le_of_ble_eq_true rfl) ?_
  change Wp g MX3_cornerOf 0 [some (.ref 56), some (.int (nI k))] [] f 0 0 _
  obtain ⟨g1, -, d, g4, g5⟩ := id hL
  have hc := pcode_lt (hE k hk)
  refine rn_aload_n dX3_cornerOf_0 rfl ?_
  refine rn_get dX3_cornerOf_1 lfX3_15 g1 rfl ?_
  refine rn_iload_n dX3_cornerOf_4 rfl ?_
  refine rn_callS dX3_cornerOf_5 lmX3_99 ⟨Nat.le_of_ble_eq_true rfl, Nat.le_of_ble_eq_true rfl⟩ (ct_at g f (nI k) (by decide) ⟨d, g4, fun _ _ => rfl⟩) rfl rfl (Nat.le_of_ble_eq_true rfl) ?_
  rintro _ _ ⟨rfl, rfl⟩
  rw [atf_nI (by omega) (by decide), g5 k _ (gp_some hk)]
  refine rn_bipush (v := nI 16) dX3_cornerOf_8 (by decide) ?_
  refine rn_iushr dX3_cornerOf_10 ?_
  refine rn_iret dX3_cornerOf_11 rfl ?_
  refine ⟨rfl, ?_⟩
  rw [nb_ushr (by decide) (by omega), show (2 ^ 16 : Nat) = 65536 from rfl, pcode_c (hE k hk)]
-- how many of a piece
def nOf (l : List PE) (p : Nat) : Nat → Nat
  | 0 => 0
  | k + 1 => nOf l p k + (if (gp l k).1 = p then 1 else 0)
theorem ct_psizeOf (g : GG) (f : Mm) {l : List PE} {op p : Nat} (hL : PLc f l op) (hE : EVs l) (hl : l.length ≤ 1280) (hp : p < 8) : Ct g MX3_sizeOf [.ref 56, .int (nI p)] f 0 0 (fun r f' => f = f' ∧ r = some (.int (nI (nOf l p l.length)))) := by
  refine Ct.of ok_MX3_sizeOf (Nat.le_of_ble_eq_true rfl) ?_
  change Wp g MX3_sizeOf 0 [some (.ref 56), some (.int (nI p)), none, none] [] f 0 0 _
  have loop : ∀ (d k : Nat), l.length - k = d → k ≤ l.length → Wp g MX3_sizeOf 4 [some (.ref 56), some (.int (nI p)), some (.int (nI (nOf l p k))), some (.int (nI k))] [] f 0 0 (fun r f' => f = f' ∧ r = some (.int (nI (nOf l p l.length)))) := by
    intro d
    induction d using Nat.strongRecOn with
    | ind d ih =>
      intro k hd hk
      refine rn_iload_n dX3_sizeOf_4 rfl ?_
      refine rn_aload_n dX3_sizeOf_5 rfl ?_
      refine rn_get dX3_sizeOf_6 lfX3_25 hL.1 rfl ?_
      refine rn_icmp_ge (tgt := 30) dX3_sizeOf_9 (by decide) (fun c9 => ?_) (fun c9 => ?_)
      · refine rn_iload_n dX3_sizeOf_30 rfl ?_
        refine rn_iret dX3_sizeOf_31 rfl ?_
        have hk2 := ge_ex c9 (by omega) (by omega)
        exact ⟨rfl, by rw [show k = l.length by omega]⟩
      · have hk2 := ge_in c9 (by omega)
        have hev := (hE k hk2).1
        refine rn_aload_n dX3_sizeOf_12 rfl ?_
        refine rn_iload_n dX3_sizeOf_13 rfl ?_
        refine rn_callV dX3_sizeOf_14 lmX3_107 ⟨Nat.le_of_ble_eq_true rfl, Nat.le_of_ble_eq_true rfl⟩ (ct_pieceOf g f hL hE hk2 hl) hL.1 rfl rfl (Nat.le_of_ble_eq_true rfl) ?_
        rintro _ _ ⟨rfl, rfl⟩
        refine rn_iload_n dX3_sizeOf_17 rfl ?_
        refine rn_icmp_ne (tgt := 24) dX3_sizeOf_18 (by decide) (fun c18 => ?_) (fun c18 => ?_)
        · refine rn_iinc (v := nI (k + 1)) dX3_sizeOf_24 rfl (nI_1 k) (Nat.le_of_ble_eq_true rfl) rfl ?_
          refine rn_goto (tgt := 4) dX3_sizeOf_27 (by decide) ?_
          have hne : ¬ (gp l k).1 = p := fun q => c18 (by rw [q])
          have e := ih _ (by omega) (k + 1) rfl (by omega)
          rw [show nOf l p (k + 1) = nOf l p k by rw [nOf, if_neg hne, Nat.add_zero]] at e
          exact e
        · refine rn_iinc (v := nI (nOf l p k + 1)) dX3_sizeOf_21 rfl (nI_1 _) (Nat.le_of_ble_eq_true rfl) rfl ?_
          refine rn_iinc (v := nI (k + 1)) dX3_sizeOf_24 rfl (nI_1 k) (Nat.le_of_ble_eq_true rfl) rfl ?_
          refine rn_goto (tgt := 4) dX3_sizeOf_27 (by decide) ?_
          have heq : (gp l k).1 = p := (nI_eq (by omega) (by omega)).mp c18
          have e := ih _ (by omega) (k + 1) rfl (by omega)
          rw [show nOf l p (k + 1) = nOf l p k + 1 by rw [nOf, if_pos heq]] at e
          exact e
  refine rn_iconst (v := nI 0) dX3_sizeOf_0 (by decide) ?_
  refine rn_istore_n dX3_sizeOf_1 (Nat.le_of_ble_eq_true rfl) rfl ?_
  refine rn_iconst (v := nI 0) dX3_sizeOf_2 (by decide) ?_
  refine rn_istore_n dX3_sizeOf_3 (Nat.le_of_ble_eq_true rfl) rfl ?_
  exact loop _ 0 rfl (by omega)
