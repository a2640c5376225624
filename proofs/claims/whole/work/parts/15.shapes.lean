-- shapes as numbers
def itr (F : Nat → Nat) : Nat → Nat → Nat
  | 0, x => x
  | n + 1, x => itr F n (F x)
theorem itr_fix {F : Nat → Nat} {x : Nat} (h : F x = x) : ∀ n, itr F n x = x
  | 0 => rfl
  | n + 1 => by simp only [itr, h, itr_fix h n]
def hgC (s r : Nat) : Nat := r ||| (((((r &&& 4294932343) * 2) ||| ((r &&& 4294962926) / 2)) ||| (r * 16) ||| (r / 16)) &&& s)
theorem hgC_lt {s r : Nat} (hs : s < 65536) (hr : r < 65536) : hgC s r < 65536 := by
  have h1 : (((((r &&& 4294932343) * 2) ||| ((r &&& 4294962926) / 2)) ||| (r * 16) ||| (r / 16)) &&& s) < 2 ^ 16 := Nat.lt_of_le_of_lt Nat.and_le_right hs
  exact Nat.or_lt_two_pow (n := 16) hr h1
def okC (s : Nat) : Bool := decide (1 ≤ popk 32 s) && (decide (popk 32 s ≤ 5) && decide (itr (hgC s) 4 (s &&& (4294967296 - s)) = s))
theorem nb_neg {n : Nat} (hn : n ≤ 2 ^ 32) : -(nI n) = nI (2 ^ 32 - n) := by
  apply nb_inj
  rw [Int32.toBitVec_neg, nb_tb, nb_tb]
  apply BitVec.eq_of_toNat_eq
  rw [BitVec.toNat_neg, BitVec.toNat_ofNat, BitVec.toNat_ofNat]
  rcases Nat.lt_or_ge n (2 ^ 32) with h | h
  · rw [Nat.mod_eq_of_lt h]
  · have : n = 2 ^ 32 := by omega
    subst this
    decide
theorem hg_r {r : Nat} (hr : r < 65536) : (nI r &&& -34953) <<< (nI 1 &&& 31) = nI ((r &&& 4294932343) * 2) := by
  have h : r &&& 4294932343 ≤ r := Nat.and_le_left
  rw [show (-34953 : Int32) = nI 4294932343 by decide, nb_and (by omega) (by decide), nb_shl (by decide) (by omega)]
theorem hg_l {r : Nat} (hr : r < 65536) : ((nI r &&& -4370).toUInt32 >>> ((nI 1).toUInt32 &&& Int32.toUInt32 31)).toInt32 = nI ((r &&& 4294962926) / 2) := by
  have h : r &&& 4294962926 ≤ r := Nat.and_le_left
  rw [show (-4370 : Int32) = nI 4294962926 by decide, nb_and (by omega) (by decide), nb_ushr (by decide) (by omega)]
theorem hg_a {s r : Nat} (hs : s < 65536) (hr : r < 65536) : nI r ||| ((nI ((r &&& 4294932343) * 2) ||| nI ((r &&& 4294962926) / 2) ||| nI (r * 16) ||| nI (r / 16)) &&& nI s) = nI (hgC s r) := by
  have h1 : r &&& 4294932343 ≤ r := Nat.and_le_left
  have h2 : r &&& 4294962926 ≤ r := Nat.and_le_left
  have b1 : (r &&& 4294932343) * 2 < 2 ^ 20 := by omega
  have b2 : (r &&& 4294962926) / 2 < 2 ^ 20 := by omega
  have b3 : r * 16 < 2 ^ 20 := by omega
  have b4 : r / 16 < 2 ^ 20 := by omega
  have b5 := Nat.or_lt_two_pow b1 b2
  have b6 := Nat.or_lt_two_pow b5 b3
  have b7 := Nat.or_lt_two_pow b6 b4
  rw [nb_or (by omega) (by omega), nb_or (by omega) (by omega), nb_or (by omega) (by omega), nb_and (by omega) (by omega), nb_or (by omega) (Nat.lt_of_le_of_lt Nat.and_le_right (by omega))]
  rfl
theorem hg_0 {s : Nat} (hs : s < 65536) : nI s &&& -(nI s) = nI (s &&& (4294967296 - s)) := by
  rcases Nat.eq_zero_or_pos s with h | h
  · subst h; decide +kernel
  · rw [nb_neg (by omega), nb_and (by omega) (by omega)]
theorem ct_hangsTogether (g : GG) (f : Mm) {s : Nat} (hs : s < 65536) : Ct g MX6_hangsTogether [.int (nI s)] f 0 0 (fun r f' => f = f' ∧ r = some (.int (bI (decide (itr (hgC s) 4 (s &&& (4294967296 - s)) = s))))) := by
  refine Ct.of ok_MX6_hangsTogether (Nat.le_of_ble_eq_true rfl) ?_
  change Wp g MX6_hangsTogether 0 [some (.int (nI s)), none, none, none, none, none, none] [] f 0 0 _
  have loop : ∀ (n r : Nat) (w3 w4 w5 w6 : Option Value), (∀ v, w3 = some v → v.category = 1) → (∀ v, w4 = some v → v.category = 1) → (∀ v, w5 = some v → v.category = 1) → n ≤ 4 → r < 65536 → Wp g MX6_hangsTogether 7 [some (.int (nI s)), some (.int (nI r)), some (.int (nI (5 - n))), w3, w4, w5, w6] [] f 0 0 (fun x f' => f = f' ∧ x = some (.int (bI (decide (itr (hgC s) n r = s))))) := by
    intro n
    induction n with
    | zero =>
      intro r w3 w4 w5 w6 q3 q4 q5 hn hr
      refine rn_iload_n dX6_hangsTogether_7 rfl ?_
      refine rn_iconst (v := nI 5) dX6_hangsTogether_8 (by decide) ?_
      refine rn_icmp_ge (tgt := 59) dX6_hangsTogether_9 (by decide) (fun c9 => ?_) (fun c9 => ?_)
      · refine rn_iload_n dX6_hangsTogether_59 rfl ?_
        refine rn_iload_n dX6_hangsTogether_60 rfl ?_
        refine rn_icmp_ne (tgt := 68) dX6_hangsTogether_61 (by decide) (fun c61 => ?_) (fun c61 => ?_)
        · refine rn_iconst (v := nI 0) dX6_hangsTogether_68 (by decide) ?_
          refine rn_zret dX6_hangsTogether_69 rfl rfl ?_
          exact ⟨rfl, by rw [show decide (itr (hgC s) 0 r = s) = false from decide_eq_false (fun e => c61 (by rw [show r = s from e]))]; rfl⟩
        · refine rn_iconst (v := nI 1) dX6_hangsTogether_64 (by decide) ?_
          refine rn_goto (tgt := 69) dX6_hangsTogether_65 (by decide) ?_
          refine rn_zret dX6_hangsTogether_69 rfl rfl ?_
          exact ⟨rfl, by rw [show decide (itr (hgC s) 0 r = s) = true from decide_eq_true (show r = s from (nI_eq (by omega) (by omega)).mp c61)]; rfl⟩
      · exact absurd (show nI 5 ≤ nI 5 from nI_le (Nat.le_refl 5) (by decide)) c9
    | succ n ih =>
      intro r w3 w4 w5 w6 q3 q4 q5 hn hr
      refine Wp.sub (lv' := [some (.int (nI s)), some (.int (nI r)), some (.int (nI (5 - (n + 1)))), none, none, none, none]) (fun i v hv => ?_) ?_
      · match i, hv with
        | 0, hv => exact hv
        | 1, hv => exact hv
        | 2, hv => exact hv
        | 3, hv => cases hv
        | 4, hv => cases hv
        | 5, hv => cases hv
        | 6, hv => cases hv
      refine rn_iload_n dX6_hangsTogether_7 rfl ?_
      refine rn_iconst (v := nI 5) dX6_hangsTogether_8 (by decide) ?_
      refine rn_icmp_ge (tgt := 59) dX6_hangsTogether_9 (by decide) (fun c9 => ?_) (fun c9 => ?_)
      · exact absurd (ge_ex c9 (by omega) (by decide)) (by omega)
      · refine rn_iload_n dX6_hangsTogether_12 rfl ?_
        refine rn_ldc dX6_hangsTogether_13 lcX6_22 ?_
        refine rn_iand dX6_hangsTogether_15 ?_
        refine rn_iconst (v := nI 1) dX6_hangsTogether_16 (by decide) ?_
        refine rn_ishl dX6_hangsTogether_17 ?_
        rw [hg_r hr]
        refine rn_istore_n dX6_hangsTogether_18 (Nat.le_of_ble_eq_true rfl) rfl ?_
        refine rn_iload_n dX6_hangsTogether_19 rfl ?_
        refine rn_sipush (v := (-4370)) dX6_hangsTogether_20 (by decide) ?_
        refine rn_iand dX6_hangsTogether_23 ?_
        refine rn_iconst (v := nI 1) dX6_hangsTogether_24 (by decide) ?_
        refine rn_iushr dX6_hangsTogether_25 ?_
        rw [hg_l hr]
        refine rn_istore dX6_hangsTogether_26 (Nat.le_of_ble_eq_true rfl) rfl ?_
        refine rn_iload_n dX6_hangsTogether_28 rfl ?_
        refine rn_iconst (v := nI 4) dX6_hangsTogether_29 (by decide) ?_
        refine rn_ishl dX6_hangsTogether_30 ?_
        rw [nb_shl (by decide) (by omega)]
        refine rn_istore dX6_hangsTogether_31 (Nat.le_of_ble_eq_true rfl) rfl ?_
        refine rn_iload_n dX6_hangsTogether_33 rfl ?_
        refine rn_iconst (v := nI 4) dX6_hangsTogether_34 (by decide) ?_
        refine rn_iushr dX6_hangsTogether_35 ?_
        rw [nb_ushr (by decide) (by omega)]
        refine rn_istore dX6_hangsTogether_36 (Nat.le_of_ble_eq_true rfl) rfl ?_
        refine rn_iload_n dX6_hangsTogether_38 rfl ?_
        refine rn_iload_n dX6_hangsTogether_39 rfl ?_
        refine rn_iload dX6_hangsTogether_40 rfl ?_
        refine rn_ior dX6_hangsTogether_42 ?_
        refine rn_iload dX6_hangsTogether_43 rfl ?_
        refine rn_ior dX6_hangsTogether_45 ?_
        refine rn_iload dX6_hangsTogether_46 rfl ?_
        refine rn_ior dX6_hangsTogether_48 ?_
        refine rn_iload_n dX6_hangsTogether_49 rfl ?_
        refine rn_iand dX6_hangsTogether_50 ?_
        refine rn_ior dX6_hangsTogether_51 ?_
        rw [show (2 ^ 4 : Nat) = 16 from rfl, hg_a hs hr]
        refine rn_istore_n dX6_hangsTogether_52 (Nat.le_of_ble_eq_true rfl) rfl ?_
        refine rn_iinc (v := nI (5 - n)) dX6_hangsTogether_53 rfl ((nI_1 _).trans (by rw [show 5 - (n + 1) + 1 = 5 - n by omega])) (Nat.le_of_ble_eq_true rfl) rfl ?_
        refine rn_goto (tgt := 7) dX6_hangsTogether_56 (by decide) ?_
        exact ih (hgC s r) _ _ _ _ (fun v e => by cases e; rfl) (fun v e => by cases e; rfl) (fun v e => by cases e; rfl) (by omega) (hgC_lt hs hr)
  refine rn_iload_n dX6_hangsTogether_0 rfl ?_
  refine rn_iload_n dX6_hangsTogether_1 rfl ?_
  refine rn_ineg dX6_hangsTogether_2 ?_
  refine rn_iand dX6_hangsTogether_3 ?_
  rw [hg_0 hs]
  refine rn_istore_n dX6_hangsTogether_4 (Nat.le_of_ble_eq_true rfl) rfl ?_
  refine rn_iconst (v := nI 1) dX6_hangsTogether_5 (by decide) ?_
  refine rn_istore_n dX6_hangsTogether_6 (Nat.le_of_ble_eq_true rfl) rfl ?_
  exact loop 4 _ none none none none (fun v e => by cases e) (fun v e => by cases e) (fun v e => by cases e) (by omega) (Nat.lt_of_le_of_lt Nat.and_le_left hs)
theorem hi_0 {n : Nat} (hn : n < 2 ^ 32) : nI n &&& -65536 = 0 ↔ n < 65536 := by
  have e : n &&& 4294901760 = 65536 * (n / 65536) := by
    rw [and_dig 16 n 4294901760]
    have e1 : (4294901760 : Nat) / 2 ^ 16 = 2 ^ 16 - 1 := by decide
    have e2 : (4294901760 : Nat) % 2 ^ 16 = 0 := by decide
    rw [e1, e2, Nat.and_two_pow_sub_one_eq_mod, Nat.and_zero]
    show 65536 * (n / 65536 % 65536) + 0 = _
    rw [Nat.mod_eq_of_lt (by omega)]
    omega
  rw [show (-65536 : Int32) = nI 4294901760 by decide, nb_and hn (by decide), e]
  constructor
  · intro h
    have h2 : (nI (65536 * (n / 65536))).toBitVec.toNat = 0 := by rw [h]; rfl
    rw [pk_tn (by omega)] at h2
    omega
  · intro h
    rw [Nat.div_eq_of_lt h]
    rfl
theorem ct_isShape (g : GG) (f : Mm) (x : Int32) : Ct g MX6_isShape [.int x] f 0 0 (fun r f' => f = f' ∧ ((∃ s, s < 65536 ∧ x = nI s ∧ r = some (.int (bI (okC s)))) ∨ ((∀ s, s < 65536 → x ≠ nI s) ∧ r = some (.int (bI false))))) := by
  refine Ct.of ok_MX6_isShape (Nat.le_of_ble_eq_true rfl) ?_
  change Wp g MX6_isShape 0 [some (.int x), none] [] f 0 0 _
  obtain ⟨n, hn, rfl⟩ := wb_of32 x
  refine rn_iload_n dX6_isShape_0 rfl ?_
  refine rn_ldc dX6_isShape_1 lcX6_9 ?_
  refine rn_iand dX6_isShape_3 ?_
  refine rn_if_eq (tgt := 9) dX6_isShape_4 (by decide) (fun c4 => ?_) (fun c4 => ?_)
  · have hs := (hi_0 hn).mp c4
    refine rn_iload_n dX6_isShape_9 rfl ?_
    refine rn_callS dX6_isShape_10 lmX6_10 ⟨Nat.le_of_ble_eq_true rfl, Nat.le_of_ble_eq_true rfl⟩ (ct_bitCount32 g f hn) rfl rfl (Nat.le_of_ble_eq_true rfl) ?_
    rintro _ _ ⟨rfl, rfl⟩
    refine rn_istore_n dX6_isShape_13 (Nat.le_of_ble_eq_true rfl) rfl ?_
    refine rn_iload_n dX6_isShape_14 rfl ?_
    refine rn_iconst (v := nI 1) dX6_isShape_15 (by decide) ?_
    have hl := popk_le 32 n
    refine rn_icmp_lt (tgt := 35) dX6_isShape_16 (by decide) (fun c16 => ?_) (fun c16 => ?_)
    · refine rn_iconst (v := nI 0) dX6_isShape_35 (by decide) ?_
      refine rn_zret dX6_isShape_36 rfl rfl ?_
      exact ⟨rfl, Or.inl ⟨n, hs, rfl, by rw [show okC n = false by simp only [okC, decide_eq_false (show ¬ 1 ≤ popk 32 n from fun q => absurd c16 (nI_nlt q (by omega))), Bool.false_and]]; rfl⟩⟩
    · refine rn_iload_n dX6_isShape_19 rfl ?_
      refine rn_iconst (v := nI 5) dX6_isShape_20 (by decide) ?_
      refine rn_icmp_gt (tgt := 35) dX6_isShape_21 (by decide) (fun c21 => ?_) (fun c21 => ?_)
      · refine rn_iconst (v := nI 0) dX6_isShape_35 (by decide) ?_
        refine rn_zret dX6_isShape_36 rfl rfl ?_
        exact ⟨rfl, Or.inl ⟨n, hs, rfl, by rw [show okC n = false by simp only [okC, decide_eq_false (show ¬ popk 32 n ≤ 5 from fun q => absurd c21 (nI_nlt q (by omega))), Bool.false_and, Bool.and_false]]; rfl⟩⟩
      · refine rn_iload_n dX6_isShape_24 rfl ?_
        refine rn_callS dX6_isShape_25 lmX6_16 ⟨Nat.le_of_ble_eq_true rfl, Nat.le_of_ble_eq_true rfl⟩ (ct_hangsTogether g f hs) rfl rfl (Nat.le_of_ble_eq_true rfl) ?_
        rintro _ _ ⟨rfl, rfl⟩
        refine rn_if_eq (tgt := 35) dX6_isShape_28 (by decide) (fun c28 => ?_) (fun c28 => ?_)
        · refine rn_iconst (v := nI 0) dX6_isShape_35 (by decide) ?_
          refine rn_zret dX6_isShape_36 rfl rfl ?_
          exact ⟨rfl, Or.inl ⟨n, hs, rfl, by rw [show okC n = false by simp only [okC, bI_0.mp c28, Bool.and_false]]; rfl⟩⟩
        · refine rn_iconst (v := nI 1) dX6_isShape_31 (by decide) ?_
          refine rn_goto (tgt := 36) dX6_isShape_32 (by decide) ?_
          refine rn_zret dX6_isShape_36 rfl rfl ?_
          exact ⟨rfl, Or.inl ⟨n, hs, rfl, by rw [show okC n = true by simp only [okC, bI_n0.mp c28, decide_eq_true (show 1 ≤ popk 32 n from Nat.le_of_not_lt fun q => c16 (nI_lt q (by decide))), decide_eq_true (show popk 32 n ≤ 5 from Nat.le_of_not_lt fun q => c21 (nI_lt q (by omega))), Bool.and_true]]; rfl⟩⟩
  · refine rn_iconst (v := nI 0) dX6_isShape_7 (by decide) ?_
    refine rn_zret dX6_isShape_8 rfl rfl ?_
    exact ⟨rfl, Or.inr ⟨fun s hs e => c4 (by rw [e]; exact (hi_0 (by omega)).mpr hs), rfl⟩⟩
-- to normalize
def lfC (s : Nat) : Nat := if s &&& 4369 = 0 then s / 2 else s
def ufC (s : Nat) : Nat := if s &&& 15 = 0 then s / 16 else s
def nrC (s : Nat) : Nat := itr ufC 3 (itr lfC 3 s)
theorem lfC_lt {s : Nat} (h : s < 65536) : lfC s < 65536 := by unfold lfC; split <;> omega
theorem ufC_lt {s : Nat} (h : s < 65536) : ufC s < 65536 := by unfold ufC; split <;> omega
theorem itr_lt {F : Nat → Nat} (hF : ∀ x, x < 65536 → F x < 65536) : ∀ n x, x < 65536 → itr F n x < 65536
  | 0, _, h => h
  | n + 1, x, h => itr_lt hF n (F x) (hF x h)
theorem nrC_lt {s : Nat} (h : s < 65536) : nrC s < 65536 := itr_lt (fun _ => ufC_lt) 3 _ (itr_lt (fun _ => lfC_lt) 3 _ h)
theorem and_0 {s c : Nat} (hs : s < 65536) (hc : c < 65536) : nI s &&& nI c = 0 ↔ s &&& c = 0 := by
  have h : s &&& c ≤ s := Nat.and_le_left
  rw [nb_and (by omega) (by omega)]
  exact nI_eq (b := 0) (by omega) (by decide)
theorem ct_normalize (g : GG) (f : Mm) {s : Nat} (hs : s < 65536) : Ct g MX6_normalize [.int (nI s)] f 0 0 (fun r f' => f = f' ∧ r = some (.int (nI (nrC s)))) := by
  refine Ct.of ok_MX6_normalize (Nat.le_of_ble_eq_true rfl) ?_
  change Wp g MX6_normalize 0 [some (.int (nI s)), none, none] [] f 0 0 _
  have loop2 : ∀ (n c : Nat), n ≤ 3 → c < 65536 → Wp g MX6_normalize 29 [some (.int (nI s)), some (.int (nI c)), some (.int (nI (4 - n)))] [] f 0 0 (fun r f' => f = f' ∧ r = some (.int (nI (itr ufC n c)))) := by
    intro n
    induction n with
    | zero =>
      intro c hn hc
      refine rn_iload_n dX6_normalize_29 rfl ?_
      refine rn_iconst (v := nI 4) dX6_normalize_30 (by decide) ?_
      refine rn_icmp_ge (tgt := 51) dX6_normalize_31 (by decide) (fun c31 => ?_) (fun c31 => ?_)
      · refine rn_iload_n dX6_normalize_51 rfl ?_
        refine rn_iret dX6_normalize_52 rfl ?_
        exact ⟨rfl, rfl⟩
      · exact absurd (show nI 4 ≤ nI 4 from nI_le (Nat.le_refl 4) (by decide)) c31
    | succ n ih =>
      intro c hn hc
      refine rn_iload_n dX6_normalize_29 rfl ?_
      refine rn_iconst (v := nI 4) dX6_normalize_30 (by decide) ?_
      refine rn_icmp_ge (tgt := 51) dX6_normalize_31 (by decide) (fun c31 => ?_) (fun c31 => ?_)
      · refine rn_iload_n dX6_normalize_51 rfl ?_
        refine rn_iret dX6_normalize_52 rfl ?_
        exact absurd (ge_ex c31 (by omega) (by decide)) (by omega)
      · refine rn_iload_n dX6_normalize_34 rfl ?_
        refine rn_bipush (v := nI 15) dX6_normalize_35 (by decide) ?_
        refine rn_iand dX6_normalize_37 ?_
        refine rn_if_ne (tgt := 51) dX6_normalize_38 (by decide) (fun c38 => ?_) (fun c38 => ?_)
        · refine rn_iload_n dX6_normalize_51 rfl ?_
          refine rn_iret dX6_normalize_52 rfl ?_
          exact ⟨rfl, by rw [itr_fix (show ufC c = c by rw [ufC, if_neg (fun q => c38 ((and_0 hc (by decide)).mpr q))])]⟩
        · refine rn_iload_n dX6_normalize_41 rfl ?_
          refine rn_iconst (v := nI 4) dX6_normalize_42 (by decide) ?_
          refine rn_iushr dX6_normalize_43 ?_
          rw [nb_ushr (by decide) (by omega)]
          refine rn_istore_n dX6_normalize_44 (Nat.le_of_ble_eq_true rfl) rfl ?_
          refine rn_iinc (v := nI (4 - n)) dX6_normalize_45 rfl ((nI_1 _).trans (by rw [show 4 - (n + 1) + 1 = 4 - n by omega])) (Nat.le_of_ble_eq_true rfl) rfl ?_
          refine rn_goto (tgt := 29) dX6_normalize_48 (by decide) ?_
          have e := ih (ufC c) (by omega) (ufC_lt hc)
          rw [show ufC c = c / 2 ^ 4 by rw [ufC, if_pos ((and_0 hc (by decide)).mp c38)]] at e
          rw [show itr ufC (n + 1) c = itr ufC n (c / 2 ^ 4) by rw [itr, ufC, if_pos ((and_0 hc (by decide)).mp c38)]]
          exact e
  have loop1 : ∀ (n c : Nat), n ≤ 3 → c < 65536 → Wp g MX6_normalize 4 [some (.int (nI s)), some (.int (nI c)), some (.int (nI (4 - n)))] [] f 0 0 (fun r f' => f = f' ∧ r = some (.int (nI (itr ufC 3 (itr lfC n c))))) := by
    intro n
    induction n with
    | zero =>
      intro c hn hc
      refine rn_iload_n dX6_normalize_4 rfl ?_
      refine rn_iconst (v := nI 4) dX6_normalize_5 (by decide) ?_
      refine rn_icmp_ge (tgt := 27) dX6_normalize_6 (by decide) (fun c6 => ?_) (fun c6 => ?_)
      · refine rn_iconst (v := nI 1) dX6_normalize_27 (by decide) ?_
        refine rn_istore_n dX6_normalize_28 (Nat.le_of_ble_eq_true rfl) rfl ?_
        exact loop2 3 c (by omega) hc
      · exact absurd (show nI 4 ≤ nI 4 from nI_le (Nat.le_refl 4) (by decide)) c6
    | succ n ih =>
      intro c hn hc
      refine rn_iload_n dX6_normalize_4 rfl ?_
      refine rn_iconst (v := nI 4) dX6_normalize_5 (by decide) ?_
      refine rn_icmp_ge (tgt := 27) dX6_normalize_6 (by decide) (fun c6 => ?_) (fun c6 => ?_)
      · refine rn_iconst (v := nI 1) dX6_normalize_27 (by decide) ?_
        refine rn_istore_n dX6_normalize_28 (Nat.le_of_ble_eq_true rfl) rfl ?_
        exact absurd (ge_ex c6 (by omega) (by decide)) (by omega)
      · refine rn_iload_n dX6_normalize_9 rfl ?_
        refine rn_sipush (v := nI 4369) dX6_normalize_10 (by decide) ?_
        refine rn_iand dX6_normalize_13 ?_
        refine rn_if_ne (tgt := 27) dX6_normalize_14 (by decide) (fun c14 => ?_) (fun c14 => ?_)
        · refine rn_iconst (v := nI 1) dX6_normalize_27 (by decide) ?_
          refine rn_istore_n dX6_normalize_28 (Nat.le_of_ble_eq_true rfl) rfl ?_
          rw [itr_fix (show lfC c = c by rw [lfC, if_neg (fun q => c14 ((and_0 hc (by decide)).mpr q))])]
          exact loop2 3 c (by omega) hc
        · refine rn_iload_n dX6_normalize_17 rfl ?_
          refine rn_iconst (v := nI 1) dX6_normalize_18 (by decide) ?_
          refine rn_iushr dX6_normalize_19 ?_
          rw [nb_ushr (by decide) (by omega)]
          refine rn_istore_n dX6_normalize_20 (Nat.le_of_ble_eq_true rfl) rfl ?_
          refine rn_iinc (v := nI (4 - n)) dX6_normalize_21 rfl ((nI_1 _).trans (by rw [show 4 - (n + 1) + 1 = 4 - n by omega])) (Nat.le_of_ble_eq_true rfl) rfl ?_
          refine rn_goto (tgt := 4) dX6_normalize_24 (by decide) ?_
          have e := ih (lfC c) (by omega) (lfC_lt hc)
          rw [show lfC c = c / 2 ^ 1 by rw [lfC, if_pos ((and_0 hc (by decide)).mp c14)]] at e
          rw [show itr lfC (n + 1) c = itr lfC n (c / 2 ^ 1) by rw [itr, lfC, if_pos ((and_0 hc (by decide)).mp c14)]]
          exact e
  refine rn_iload_n dX6_normalize_0 rfl ?_
  refine rn_istore_n dX6_normalize_1 (Nat.le_of_ble_eq_true rfl) rfl ?_
  refine rn_iconst (v := nI 1) dX6_normalize_2 (by decide) ?_
  refine rn_istore_n dX6_normalize_3 (Nat.le_of_ble_eq_true rfl) rfl ?_
  exact loop1 3 s (by omega) hs
-- turns and mirror images
def trk (s : Nat) : Nat → Nat
  | 0 => 0
  | i + 1 => if s.testBit i then trk s i ||| 2 ^ (i % 4 * 4 + (3 - i / 4)) else trk s i
def mrk (s : Nat) : Nat → Nat
  | 0 => 0
  | i + 1 => if s.testBit i then mrk s i ||| 2 ^ (i / 4 * 4 + (3 - i % 4)) else mrk s i
theorem trk_lt (s : Nat) : ∀ i, i ≤ 16 → trk s i < 65536
  | 0, _ => by simp [trk]
  | i + 1, h => by
    have ih := trk_lt s i (by omega)
    simp only [trk]
    split
    · exact Nat.or_lt_two_pow (n := 16) ih (Nat.pow_lt_pow_right (by decide) (by omega))
    · exact ih
theorem mrk_lt (s : Nat) : ∀ i, i ≤ 16 → mrk s i < 65536
  | 0, _ => by simp [mrk]
  | i + 1, h => by
    have ih := mrk_lt s i (by omega)
    simp only [mrk]
    split
    · exact Nat.or_lt_two_pow (n := 16) ih (Nat.pow_lt_pow_right (by decide) (by omega))
    · exact ih
theorem ct_hasSquare (g : GG) (f : Mm) {n k : Nat} (hn : n < 65536) (hk : k < 32) : Ct g MX6_hasSquare [.int (nI n), .int (nI k)] f 0 0 (fun r f' => f = f' ∧ r = some (.int (bI (n.testBit k)))) := by
  refine Ct.of ok_MX6_hasSquare (Nat.le_of_ble_eq_true rfl) ?_
  change Wp g MX6_hasSquare 0 [some (.int (nI n)), some (.int (nI k))] [] f 0 0 _
  have kb : n.testBit k = decide (n / 2 ^ k % 2 = 1) := Nat.testBit_eq_decide_div_mod_eq
  have hle : n / 2 ^ k ≤ n := Nat.div_le_self _ _
  refine rn_iload_n dX6_hasSquare_0 rfl ?_
  refine rn_iload_n dX6_hasSquare_1 rfl ?_
  refine rn_iushr dX6_hasSquare_2 ?_
  rw [nb_ushr hk (by omega)]
  refine rn_iconst (v := nI 1) dX6_hasSquare_3 (by decide) ?_
  refine rn_iand dX6_hasSquare_4 ?_
  rw [show (nI 1 : Int32) = nI (2 ^ 1 - 1) from rfl, nb_and (by omega) (by decide), Nat.and_two_pow_sub_one_eq_mod]
  refine rn_if_eq (tgt := 12) dX6_hasSquare_5 (by decide) (fun c5 => ?_) (fun c5 => ?_)
  · refine rn_iconst (v := nI 0) dX6_hasSquare_12 (by decide) ?_
    refine rn_zret dX6_hasSquare_13 rfl rfl ?_
    have h1 : n / 2 ^ k % 2 = 0 := (nI_eq (b := 0) (by omega) (by decide)).mp c5
    exact ⟨rfl, by rw [kb, decide_eq_false (by omega)]; rfl⟩
  · refine rn_iconst (v := nI 1) dX6_hasSquare_8 (by decide) ?_
    refine rn_goto (tgt := 13) dX6_hasSquare_9 (by decide) ?_
    refine rn_zret dX6_hasSquare_13 rfl rfl ?_
    have h1 : ¬ n / 2 ^ k % 2 = 0 := fun q => c5 (by rw [show n / 2 ^ k % 2 ^ 1 = 0 from q]; rfl)
    exact ⟨rfl, by rw [kb, decide_eq_true (by omega)]; rfl⟩
theorem ct_turn (g : GG) (f : Mm) {s : Nat} (hs : s < 65536) : Ct g MX6_turn [.int (nI s)] f 0 0 (fun r f' => f = f' ∧ r = some (.int (nI (nrC (trk s 16))))) := by
  refine Ct.of ok_MX6_turn (Nat.le_of_ble_eq_true rfl) ?_
  change Wp g MX6_turn 0 [some (.int (nI s)), none, none, none, none] [] f 0 0 _
  have loop : ∀ (n i : Nat) (w3 w4 : Option Value), 16 - i = n → i ≤ 16 → Wp g MX6_turn 4 [some (.int (nI s)), some (.int (nI (trk s i))), some (.int (nI i)), w3, w4] [] f 0 0 (fun r f' => f = f' ∧ r = some (.int (nI (nrC (trk s 16))))) := by
    intro n
    induction n using Nat.strongRecOn with
    | ind n ih =>
      intro i w3 w4 hn hi
      have hb := trk_lt s i hi
      refine Wp.sub (lv' := [some (.int (nI s)), some (.int (nI (trk s i))), some (.int (nI i)), none, none]) (fun i v hv => ?_) ?_
      · match i, hv with
        | 0, hv => exact hv
        | 1, hv => exact hv
        | 2, hv => exact hv
        | 3, hv => cases hv
        | 4, hv => cases hv
      refine rn_iload_n dX6_turn_4 rfl ?_
      refine rn_bipush (v := nI 16) dX6_turn_5 (by decide) ?_
      refine rn_icmp_ge (tgt := 46) dX6_turn_7 (by decide) (fun c7 => ?_) (fun c7 => ?_)
      · refine rn_iload_n dX6_turn_46 rfl ?_
        refine rn_callS dX6_turn_47 lmX6_27 ⟨Nat.le_of_ble_eq_true rfl, Nat.le_of_ble_eq_true rfl⟩ (ct_normalize g f hb) rfl rfl (Nat.le_of_ble_eq_true rfl) ?_
        rintro _ _ ⟨rfl, rfl⟩
        refine rn_iret dX6_turn_50 rfl ?_
        have hi2 := ge_ex c7 (by omega) (by decide)
        exact ⟨rfl, by rw [show i = 16 by omega]⟩
      · have hi2 := ge_in c7 (by omega)
        refine rn_iload_n dX6_turn_10 rfl ?_
        refine rn_iload_n dX6_turn_11 rfl ?_
        refine rn_callS dX6_turn_12 lmX6_23 ⟨Nat.le_of_ble_eq_true rfl, Nat.le_of_ble_eq_true rfl⟩ (ct_hasSquare g f hs (by omega)) rfl rfl (Nat.le_of_ble_eq_true rfl) ?_
        rintro _ _ ⟨rfl, rfl⟩
        refine rn_if_eq (tgt := 40) dX6_turn_15 (by decide) (fun c15 => ?_) (fun c15 => ?_)
        · refine rn_iinc (v := nI (i + 1)) dX6_turn_40 rfl (nI_1 i) (Nat.le_of_ble_eq_true rfl) rfl ?_
          refine rn_goto (tgt := 4) dX6_turn_43 (by decide) ?_
          have e := ih (16 - (i + 1)) (by omega) (i + 1) none none rfl (by omega)
          rw [show trk s (i + 1) = trk s i by simp only [trk, bI_0.mp c15]; rfl] at e
          exact e
        · refine rn_iload_n dX6_turn_18 rfl ?_
          refine rn_iconst (v := nI 4) dX6_turn_19 (by decide) ?_
          refine rn_irem dX6_turn_20 (by decide) ?_
          rw [pk_rem (by omega) (by decide) (by decide)]
          refine rn_istore_n dX6_turn_21 (Nat.le_of_ble_eq_true rfl) rfl ?_
          refine rn_iconst (v := nI 3) dX6_turn_22 (by decide) ?_
          refine rn_iload_n dX6_turn_23 rfl ?_
          refine rn_iconst (v := nI 4) dX6_turn_24 (by decide) ?_
          refine rn_idiv dX6_turn_25 (by decide) ?_
          refine rn_isub dX6_turn_26 ?_
          rw [pk_div (by omega) (by decide) (by decide), pk_sub (by omega)]
          refine rn_istore dX6_turn_27 (Nat.le_of_ble_eq_true rfl) rfl ?_
          refine rn_iload_n dX6_turn_29 rfl ?_
          refine rn_iconst (v := nI 1) dX6_turn_30 (by decide) ?_
          refine rn_iload_n dX6_turn_31 rfl ?_
          refine rn_iconst (v := nI 4) dX6_turn_32 (by decide) ?_
          refine rn_imul dX6_turn_33 ?_
          refine rn_iload dX6_turn_34 rfl ?_
          refine rn_iadd dX6_turn_36 ?_
          rw [pk_mul, nI_add]
          refine rn_ishl dX6_turn_37 ?_
          rw [nb_shl (by omega) (by rw [Nat.one_mul]; exact Nat.pow_lt_pow_right (by decide) (by omega)), Nat.one_mul]
          refine rn_ior dX6_turn_38 ?_
          rw [nb_or (by omega) (Nat.pow_lt_pow_right (by decide) (by omega))]
          refine rn_istore_n dX6_turn_39 (Nat.le_of_ble_eq_true rfl) rfl ?_
          refine rn_iinc (v := nI (i + 1)) dX6_turn_40 rfl (nI_1 i) (Nat.le_of_ble_eq_true rfl) rfl ?_
          refine rn_goto (tgt := 4) dX6_turn_43 (by decide) ?_
          have e := ih (16 - (i + 1)) (by omega) (i + 1) (some (.int (nI (i % 4)))) (some (.int (nI (3 - i / 4)))) rfl (by omega)
          rw [show trk s (i + 1) = trk s i ||| 2 ^ (i % 4 * 4 + (3 - i / 4)) by simp only [trk, bI_n0.mp c15, if_true]] at e
          exact e
  refine rn_iconst (v := nI 0) dX6_turn_0 (by decide) ?_
  refine rn_istore_n dX6_turn_1 (Nat.le_of_ble_eq_true rfl) rfl ?_
  refine rn_iconst (v := nI 0) dX6_turn_2 (by decide) ?_
  refine rn_istore_n dX6_turn_3 (Nat.le_of_ble_eq_true rfl) rfl ?_
  exact loop 16 0 none none rfl (by omega)
theorem ct_mirror (g : GG) (f : Mm) {s : Nat} (hs : s < 65536) : Ct g MX6_mirror [.int (nI s)] f 0 0 (fun r f' => f = f' ∧ r = some (.int (nI (nrC (mrk s 16))))) := by
  refine Ct.of ok_MX6_mirror (Nat.le_of_ble_eq_true rfl) ?_
  change Wp g MX6_mirror 0 [some (.int (nI s)), none, none, none, none] [] f 0 0 _
  have loop : ∀ (n i : Nat) (w3 w4 : Option Value), 16 - i = n → i ≤ 16 → Wp g MX6_mirror 4 [some (.int (nI s)), some (.int (nI (mrk s i))), some (.int (nI i)), w3, w4] [] f 0 0 (fun r f' => f = f' ∧ r = some (.int (nI (nrC (mrk s 16))))) := by
    intro n
    induction n using Nat.strongRecOn with
    | ind n ih =>
      intro i w3 w4 hn hi
      have hb := mrk_lt s i hi
      refine Wp.sub (lv' := [some (.int (nI s)), some (.int (nI (mrk s i))), some (.int (nI i)), none, none]) (fun i v hv => ?_) ?_
      · match i, hv with
        | 0, hv => exact hv
        | 1, hv => exact hv
        | 2, hv => exact hv
        | 3, hv => cases hv
        | 4, hv => cases hv
      refine rn_iload_n dX6_mirror_4 rfl ?_
      refine rn_bipush (v := nI 16) dX6_mirror_5 (by decide) ?_
      refine rn_icmp_ge (tgt := 46) dX6_mirror_7 (by decide) (fun c7 => ?_) (fun c7 => ?_)
      · refine rn_iload_n dX6_mirror_46 rfl ?_
        refine rn_callS dX6_mirror_47 lmX6_27 ⟨Nat.le_of_ble_eq_true rfl, Nat.le_of_ble_eq_true rfl⟩ (ct_normalize g f hb) rfl rfl (Nat.le_of_ble_eq_true rfl) ?_
        rintro _ _ ⟨rfl, rfl⟩
        refine rn_iret dX6_mirror_50 rfl ?_
        have hi2 := ge_ex c7 (by omega) (by decide)
        exact ⟨rfl, by rw [show i = 16 by omega]⟩
      · have hi2 := ge_in c7 (by omega)
        refine rn_iload_n dX6_mirror_10 rfl ?_
        refine rn_iload_n dX6_mirror_11 rfl ?_
        refine rn_callS dX6_mirror_12 lmX6_23 ⟨Nat.le_of_ble_eq_true rfl, Nat.le_of_ble_eq_true rfl⟩ (ct_hasSquare g f hs (by omega)) rfl rfl (Nat.le_of_ble_eq_true rfl) ?_
        rintro _ _ ⟨rfl, rfl⟩
        refine rn_if_eq (tgt := 40) dX6_mirror_15 (by decide) (fun c15 => ?_) (fun c15 => ?_)
        · refine rn_iinc (v := nI (i + 1)) dX6_mirror_40 rfl (nI_1 i) (Nat.le_of_ble_eq_true rfl) rfl ?_
          refine rn_goto (tgt := 4) dX6_mirror_43 (by decide) ?_
          have e := ih (16 - (i + 1)) (by omega) (i + 1) none none rfl (by omega)
          rw [show mrk s (i + 1) = mrk s i by simp only [mrk, bI_0.mp c15]; rfl] at e
          exact e
        · refine rn_iload_n dX6_mirror_18 rfl ?_
          refine rn_iconst (v := nI 4) dX6_mirror_19 (by decide) ?_
          refine rn_idiv dX6_mirror_20 (by decide) ?_
          rw [pk_div (by omega) (by decide) (by decide)]
          refine rn_istore_n dX6_mirror_21 (Nat.le_of_ble_eq_true rfl) rfl ?_
          refine rn_iconst (v := nI 3) dX6_mirror_22 (by decide) ?_
          refine rn_iload_n dX6_mirror_23 rfl ?_
          refine rn_iconst (v := nI 4) dX6_mirror_24 (by decide) ?_
          refine rn_irem dX6_mirror_25 (by decide) ?_
          refine rn_isub dX6_mirror_26 ?_
          rw [pk_rem (by omega) (by decide) (by decide), pk_sub (by omega)]
          refine rn_istore dX6_mirror_27 (Nat.le_of_ble_eq_true rfl) rfl ?_
          refine rn_iload_n dX6_mirror_29 rfl ?_
          refine rn_iconst (v := nI 1) dX6_mirror_30 (by decide) ?_
          refine rn_iload_n dX6_mirror_31 rfl ?_
          refine rn_iconst (v := nI 4) dX6_mirror_32 (by decide) ?_
          refine rn_imul dX6_mirror_33 ?_
          refine rn_iload dX6_mirror_34 rfl ?_
          refine rn_iadd dX6_mirror_36 ?_
          rw [pk_mul, nI_add]
          refine rn_ishl dX6_mirror_37 ?_
          rw [nb_shl (by omega) (by rw [Nat.one_mul]; exact Nat.pow_lt_pow_right (by decide) (by omega)), Nat.one_mul]
          refine rn_ior dX6_mirror_38 ?_
          rw [nb_or (by omega) (Nat.pow_lt_pow_right (by decide) (by omega))]
          refine rn_istore_n dX6_mirror_39 (Nat.le_of_ble_eq_true rfl) rfl ?_
          refine rn_iinc (v := nI (i + 1)) dX6_mirror_40 rfl (nI_1 i) (Nat.le_of_ble_eq_true rfl) rfl ?_
          refine rn_goto (tgt := 4) dX6_mirror_43 (by decide) ?_
          have e := ih (16 - (i + 1)) (by omega) (i + 1) (some (.int (nI (i / 4)))) (some (.int (nI (3 - i % 4)))) rfl (by omega)
          rw [show mrk s (i + 1) = mrk s i ||| 2 ^ (i / 4 * 4 + (3 - i % 4)) by simp only [mrk, bI_n0.mp c15, if_true]] at e
          exact e
  refine rn_iconst (v := nI 0) dX6_mirror_0 (by decide) ?_
  refine rn_istore_n dX6_mirror_1 (Nat.le_of_ble_eq_true rfl) rfl ?_
  refine rn_iconst (v := nI 0) dX6_mirror_2 (by decide) ?_
  refine rn_istore_n dX6_mirror_3 (Nat.le_of_ble_eq_true rfl) rfl ?_
  exact loop 16 0 none none rfl (by omega)
