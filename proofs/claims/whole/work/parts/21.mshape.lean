def grM (n : Nat) : Nat := (n ||| ((n &&& 30583) * 2) ||| ((n &&& 61166) / 2) ||| (n * 16) ||| (n / 16)) &&& 65535
theorem grM_lt (n : Nat) : grM n < 65536 := Nat.lt_of_le_of_lt Nat.and_le_right (by decide)
theorem cm_grown (g : GG) (f : Mm) {n : Nat} (hn : n < 65536) : Ct g MX12_grown [.int (nI n)] f 0 0 (fun r f' => f = f' ∧ r = some (.int (nI (grM n)))) := by
  refine Ct.of ok_MX12_grown (Nat.le_of_ble_eq_true rfl) ?_
  change Wp g MX12_grown 0 [some (.int (nI n)), none, none] [] f 0 0 _
  have h1 : n &&& 30583 ≤ n := Nat.and_le_left
  have h2 : n &&& 61166 ≤ n := Nat.and_le_left
  have b0 : n < 2 ^ 20 := by omega
  have b1 : (n &&& 30583) * 2 < 2 ^ 20 := by omega
  have b2 : (n &&& 61166) / 2 < 2 ^ 20 := by omega
  have b3 : n * 16 < 2 ^ 20 := by omega
  have b4 : n / 16 < 2 ^ 20 := by omega
  have b5 := Nat.or_lt_two_pow b0 b1
  have b6 := Nat.or_lt_two_pow b5 b2
  have b7 := Nat.or_lt_two_pow b6 b3
  have b8 := Nat.or_lt_two_pow b7 b4
  refine rn_iload_n dX12_grown_0 rfl ?_
  refine rn_sipush (v := nI 30583) dX12_grown_1 (by decide) ?_
  refine rn_iand dX12_grown_4 ?_
  refine rn_iconst (v := nI 1) dX12_grown_5 (by decide) ?_
  refine rn_ishl dX12_grown_6 ?_
  rw [nb_and (by omega) (by decide), nb_shl (by decide) (by omega), show (2 ^ 1 : Nat) = 2 from rfl]
  refine rn_istore_n dX12_grown_7 (Nat.le_of_ble_eq_true rfl) rfl ?_
  refine rn_iload_n dX12_grown_8 rfl ?_
  refine rn_ldc dX12_grown_9 lcX12_80 ?_
  refine rn_iand dX12_grown_11 ?_
  refine rn_iconst (v := nI 1) dX12_grown_12 (by decide) ?_
  refine rn_ishr dX12_grown_13 ?_
  rw [show (61166 : Int32) = nI 61166 from rfl, nb_and (by omega) (by decide), nb_shr (by decide) (by omega), show (2 ^ 1 : Nat) = 2 from rfl]
  refine rn_istore_n dX12_grown_14 (Nat.le_of_ble_eq_true rfl) rfl ?_
  refine rn_iload_n dX12_grown_15 rfl ?_
  refine rn_iload_n dX12_grown_16 rfl ?_
  refine rn_ior dX12_grown_17 ?_
  rw [nb_or (by omega) (by omega)]
  refine rn_iload_n dX12_grown_18 rfl ?_
  refine rn_ior dX12_grown_19 ?_
  rw [nb_or (by omega) (by omega)]
  refine rn_iload_n dX12_grown_20 rfl ?_
  refine rn_iconst (v := nI 4) dX12_grown_21 (by decide) ?_
  refine rn_ishl dX12_grown_22 ?_
  rw [nb_shl (by decide) (by omega), show (2 ^ 4 : Nat) = 16 from rfl]
  refine rn_ior dX12_grown_23 ?_
  rw [nb_or (by omega) (by omega)]
  refine rn_iload_n dX12_grown_24 rfl ?_
  refine rn_iconst (v := nI 4) dX12_grown_25 (by decide) ?_
  refine rn_ishr dX12_grown_26 ?_
  rw [nb_shr (by decide) (by omega), show (2 ^ 4 : Nat) = 16 from rfl]
  refine rn_ior dX12_grown_27 ?_
  rw [nb_or (by omega) (by omega)]
  refine rn_ldc dX12_grown_28 lcX12_81 ?_
  refine rn_iand dX12_grown_30 ?_
  refine rn_iret dX12_grown_31 rfl ?_
  refine ⟨rfl, ?_⟩
  rw [show (65535 : Int32) = nI 65535 from rfl, nb_and (by omega) (by decide)]
  rfl
def okM (s : Nat) : Bool := decide (1 ≤ s) && (decide (popk 16 s ≤ 5) && decide (itr (fun r => grM r &&& s) 5 (s &&& (4294967296 - s)) = s))
theorem cm_isShape (g : GG) (f : Mm) (x : Int32) : Ct g MX12_isShape [.int x] f 0 0 (fun r f' => f = f' ∧ ((∃ s, s < 65536 ∧ x = nI s ∧ r = some (.int (bI (okM s)))) ∨ ((∀ s, s < 65536 → x ≠ nI s) ∧ r = some (.int (bI false))))) := by
  refine Ct.of ok_MX12_isShape (Nat.le_of_ble_eq_true rfl) ?_
  change Wp g MX12_isShape 0 [some (.int x), none, none] [] f 0 0 _
  have loop : ∀ (n s c : Nat), n ≤ 5 → s < 65536 → c < 65536 → Wp g MX12_isShape 27 [some (.int (nI s)), some (.int (nI c)), some (.int (nI (5 - n)))] [] f 0 0 (fun r f' => f = f' ∧ r = some (.int (bI (decide (itr (fun r => grM r &&& s) n c = s))))) := by
    intro n
    induction n with
    | zero =>
      intro s c hn hs hc
      refine rn_iload_n dX12_isShape_27 rfl ?_
      refine rn_iconst (v := nI 5) dX12_isShape_28 (by decide) ?_
      refine rn_icmp_ge (tgt := 45) dX12_isShape_29 (by decide) (fun c29 => ?_) (fun c29 => ?_)
      · refine rn_iload_n dX12_isShape_45 rfl ?_
        refine rn_iload_n dX12_isShape_46 rfl ?_
        refine rn_icmp_ne (tgt := 54) dX12_isShape_47 (by decide) (fun c47 => ?_) (fun c47 => ?_)
        · refine rn_iconst (v := nI 0) dX12_isShape_54 (by decide) ?_
          refine rn_zret dX12_isShape_55 rfl rfl ?_
          exact ⟨rfl, by rw [decide_eq_false (show ¬ itr (fun r => grM r &&& s) 0 c = s from fun e => c47 (by rw [show c = s from e]))]; rfl⟩
        · refine rn_iconst (v := nI 1) dX12_isShape_50 (by decide) ?_
          refine rn_goto (tgt := 55) dX12_isShape_51 (by decide) ?_
          refine rn_zret dX12_isShape_55 rfl rfl ?_
          exact ⟨rfl, by rw [decide_eq_true (show itr (fun r => grM r &&& s) 0 c = s from (nI_eq (a := c) (by omega) (by omega)).mp c47)]; rfl⟩
      · exact absurd (show nI 5 ≤ nI 5 from nI_le (Nat.le_refl 5) (by decide)) c29
    | succ n ih =>
      intro s c hn hs hc
      have hg := grM_lt c
      refine rn_iload_n dX12_isShape_27 rfl ?_
      refine rn_iconst (v := nI 5) dX12_isShape_28 (by decide) ?_
      refine rn_icmp_ge (tgt := 45) dX12_isShape_29 (by decide) (fun c29 => ?_) (fun c29 => ?_)
      · exact absurd (ge_ex c29 (by omega) (by decide)) (by omega)
      · refine rn_iload_n dX12_isShape_32 rfl ?_
        refine rn_callS dX12_isShape_33 lmX12_86 ⟨Nat.le_of_ble_eq_true rfl, Nat.le_of_ble_eq_true rfl⟩ (cm_grown g f hc) rfl rfl (Nat.le_of_ble_eq_true rfl) ?_
        rintro _ _ ⟨rfl, rfl⟩
        refine rn_iload_n dX12_isShape_36 rfl ?_
        refine rn_iand dX12_isShape_37 ?_
        rw [nb_and (by omega) (by omega)]
        refine rn_istore_n dX12_isShape_38 (Nat.le_of_ble_eq_true rfl) rfl ?_
        refine rn_iinc (v := nI (5 - n)) dX12_isShape_39 rfl ((nI_1 _).trans (by rw [show 5 - (n + 1) + 1 = 5 - n by omega])) (Nat.le_of_ble_eq_true rfl) rfl ?_
        refine rn_goto (tgt := 27) dX12_isShape_42 (by decide) ?_
        exact ih s (grM c &&& s) (by omega) hs (Nat.lt_of_le_of_lt Nat.and_le_right hs)
  obtain ⟨n, hn, rfl⟩ := wb_of32 x
  have hcmp : decide (nI 1 ≤ nI n ∧ nI n ≤ 65535) = true ↔ 1 ≤ n ∧ n < 65536 := by
    rw [decide_eq_true_eq, show (65535 : Int32) = nI 65535 from rfl]
    constructor
    · rintro ⟨q1, q2⟩
      rcases Nat.lt_or_ge n (2 ^ 31) with h | h
      · exact ⟨ge_ex q1 h (by decide), by have := ge_ex q2 (by decide) h; omega⟩
      · exfalso
        rw [Int32.le_iff_toInt_le] at q1
        have e : (nI n).toInt = (n : Int) - 2 ^ 32 := by
          show (nI n).toBitVec.toInt = _
          rw [BitVec.toInt_eq_toNat_cond, pk_tn hn, if_neg (by omega)]
          rfl
        rw [e, show (nI 1).toInt = 1 by decide] at q1
        omega
    · rintro ⟨q1, q2⟩
      exact ⟨nI_le q1 (by omega), nI_le (by omega) (by decide)⟩
  refine rn_iload_n dX12_isShape_0 rfl ?_
  refine rn_iconst (v := nI 1) dX12_isShape_1 (by decide) ?_
  refine rn_ldc dX12_isShape_2 lcX12_81 ?_
  refine rn_callS dX12_isShape_4 lmX12_72 ⟨Nat.le_of_ble_eq_true rfl, Nat.le_of_ble_eq_true rfl⟩ (cm_in g f (nI n) (nI 1) 65535) rfl rfl (Nat.le_of_ble_eq_true rfl) ?_
  rintro _ _ ⟨rfl, rfl⟩
  refine rn_if_eq (tgt := 18) dX12_isShape_7 (by decide) (fun c7 => ?_) (fun c7 => ?_)
  · refine rn_iconst (v := nI 0) dX12_isShape_18 (by decide) ?_
    refine rn_zret dX12_isShape_19 rfl rfl ?_
    have hs : ¬ (1 ≤ n ∧ n < 65536) := fun q => by
      have := hcmp.mpr q
      rw [bI_0.mp c7] at this
      cases this
    by_cases q : n < 65536
    · have n0 : n = 0 := by omega
      subst n0
      exact ⟨rfl, Or.inl ⟨0, by decide, rfl, by rw [show okM 0 = false from rfl]; rfl⟩⟩
    · refine ⟨rfl, Or.inr ⟨fun s hs2 e => ?_, rfl⟩⟩
      have e2 : (nI n).toBitVec.toNat = (nI s).toBitVec.toNat := by rw [e]
      rw [pk_tn hn, pk_tn (by omega)] at e2
      omega
  · have hs := hcmp.mp (bI_n0.mp c7)
    refine rn_iload_n dX12_isShape_10 rfl ?_
    refine rn_callS dX12_isShape_11 lmX12_82 ⟨Nat.le_of_ble_eq_true rfl, Nat.le_of_ble_eq_true rfl⟩ (cm_squares g f hs.2) rfl rfl (Nat.le_of_ble_eq_true rfl) ?_
    rintro _ _ ⟨rfl, rfl⟩
    refine rn_iconst (v := nI 5) dX12_isShape_14 (by decide) ?_
    have hl := popk_le 16 n
    refine rn_icmp_le (tgt := 20) dX12_isShape_15 (by decide) (fun c15 => ?_) (fun c15 => ?_)
    · have hk := ge_ex c15 (by decide) (by omega)
      refine Wp.mono (Q' := fun r f' => f = f' ∧ r = some (.int (bI (decide (itr (fun r => grM r &&& n) 5 (n &&& (4294967296 - n)) = n))))) (fun r f' hq => ⟨hq.1, Or.inl ⟨n, hs.2, rfl, by rw [hq.2, okM, decide_eq_true hs.1, decide_eq_true hk, Bool.true_and, Bool.true_and]⟩⟩) ?_
      refine rn_iload_n dX12_isShape_20 rfl ?_
      refine rn_iload_n dX12_isShape_21 rfl ?_
      refine rn_ineg dX12_isShape_22 ?_
      refine rn_iand dX12_isShape_23 ?_
      rw [hg_0 hs.2]
      refine rn_istore_n dX12_isShape_24 (Nat.le_of_ble_eq_true rfl) rfl ?_
      refine rn_iconst (v := nI 0) dX12_isShape_25 (by decide) ?_
      refine rn_istore_n dX12_isShape_26 (Nat.le_of_ble_eq_true rfl) rfl ?_
      exact loop 5 n _ (by omega) hs.2 (Nat.lt_of_le_of_lt Nat.and_le_left hs.2)
    · refine rn_iconst (v := nI 0) dX12_isShape_18 (by decide) ?_
      refine rn_zret dX12_isShape_19 rfl rfl ?_
      have hk : ¬ popk 16 n ≤ 5 := fun q => c15 (nI_le q (by decide))
      exact ⟨rfl, Or.inl ⟨n, hs.2, rfl, by rw [show okM n = false by rw [okM, decide_eq_false hk, Bool.false_and, Bool.and_false]]; rfl⟩⟩
def tw (s w i : Nat) : Nat := if w = 0 then trk s i else mrk s i
theorem tw_lt (s w i : Nat) (h : i ≤ 16) : tw s w i < 65536 := by
  unfold tw
  split
  · exact trk_lt s i h
  · exact mrk_lt s i h
theorem tw_s (s w r c : Nat) (hr : r < 4) (hc : c < 4) : tw s w (4 * r + c + 1) = tw s w (4 * r + c) ||| (s / 2 ^ (4 * r + c) % 2) * 2 ^ (if w = 0 then 4 * c + 3 - r else 4 * r + 3 - c) := by
  have e1 : (4 * r + c) % 4 = c := by omega
  have e2 : (4 * r + c) / 4 = r := by omega
  have kb : s.testBit (4 * r + c) = decide (s / 2 ^ (4 * r + c) % 2 = 1) := Nat.testBit_eq_decide_div_mod_eq
  unfold tw
  by_cases hw : w = 0
  · simp only [hw, if_true, trk, e1, e2, kb]
    rw [show c * 4 + (3 - r) = 4 * c + 3 - r by omega]
    by_cases hb : s / 2 ^ (4 * r + c) % 2 = 1
    · simp [hb]
    · have h0 : s / 2 ^ (4 * r + c) % 2 = 0 := by omega
      simp [h0]
  · simp only [hw, if_false, mrk, e1, e2, kb]
    rw [show r * 4 + (3 - c) = 4 * r + 3 - c by omega]
    by_cases hb : s / 2 ^ (4 * r + c) % 2 = 1
    · simp [hb]
    · have h0 : s / 2 ^ (4 * r + c) % 2 = 0 := by omega
      simp [h0]
theorem cm_changed (g : GG) (f : Mm) {s w : Nat} (hs : s < 65536) (hw : w ≤ 1) (h0 : 0 < tw s w 16) : Ct g MX12_changed [.int (nI s), .int (nI w)] f 0 0 (fun r f' => f = f' ∧ r = some (.int (nI (nrM (tw s w 16))))) := by
  refine Ct.of ok_MX12_changed (Nat.le_of_ble_eq_true rfl) ?_
  change Wp g MX12_changed 0 [some (.int (nI s)), some (.int (nI w)), none, none, none, none] [] f 0 0 _
  have outer : ∀ (d row : Nat) (w4 w5 : Option Value), 4 - row = d → row ≤ 4 → Wp g MX12_changed 4 [some (.int (nI s)), some (.int (nI w)), some (.int (nI (tw s w (4 * row)))), some (.int (nI row)), w4, w5] [] f 0 0 (fun r f' => f = f' ∧ r = some (.int (nI (nrM (tw s w 16))))) := by
    intro d
    induction d using Nat.strongRecOn with
    | ind d ih =>
      intro row w4 w5 hd hrow
      have inner : ∀ (e col : Nat) (w5 : Option Value), 4 - col = e → col ≤ 4 → row < 4 → Wp g MX12_changed 12 [some (.int (nI s)), some (.int (nI w)), some (.int (nI (tw s w (4 * row + col)))), some (.int (nI row)), some (.int (nI col)), w5] [] f 0 0 (fun r f' => f = f' ∧ r = some (.int (nI (nrM (tw s w 16))))) := by
        intro e
        induction e using Nat.strongRecOn with
        | ind e ihe =>
          intro col w5 he hcol hr4
          have hle : s / 2 ^ (4 * row + col) ≤ s := Nat.div_le_self _ _
          have hb := tw_lt s w (4 * row + col) (by omega)
          have step : ∀ (to : Nat), col < 4 → to = (if w = 0 then 4 * col + 3 - row else 4 * row + 3 - col) → Wp g MX12_changed 41 [some (.int (nI s)), some (.int (nI w)), some (.int (nI (tw s w (4 * row + col)))), some (.int (nI row)), some (.int (nI col)), w5] [.int (nI to)] f 0 0 (fun r f' => f = f' ∧ r = some (.int (nI (nrM (tw s w 16))))) := by
            intro to hc4 hto
            have ht : to ≤ 15 := by rw [hto]; split <;> omega
            have hbit : s / 2 ^ (4 * row + col) % 2 * 2 ^ to < 2 ^ 16 := by
              have h1 : 2 ^ to ≤ 2 ^ 15 := Nat.pow_le_pow_right (by decide) ht
              have h2 : s / 2 ^ (4 * row + col) % 2 ≤ 1 := by omega
              have h3 := Nat.mul_le_mul h2 h1
              omega
            refine rn_istore dX12_changed_41 (Nat.le_of_ble_eq_true rfl) rfl ?_
            refine rn_iload_n dX12_changed_43 rfl ?_
            refine rn_iload_n dX12_changed_44 rfl ?_
            refine rn_iconst (v := nI 4) dX12_changed_45 (by decide) ?_
            refine rn_iload_n dX12_changed_46 rfl ?_
            refine rn_imul dX12_changed_47 ?_
            refine rn_iload dX12_changed_48 rfl ?_
            refine rn_iadd dX12_changed_50 ?_
            rw [pk_mul, nI_add]
            refine rn_ishr dX12_changed_51 ?_
            rw [nb_shr (by omega) (by omega)]
            refine rn_iconst (v := nI 1) dX12_changed_52 (by decide) ?_
            refine rn_iand dX12_changed_53 ?_
            rw [show (nI 1 : Int32) = nI (2 ^ 1 - 1) from rfl, nb_and (by omega) (by decide), Nat.and_two_pow_sub_one_eq_mod, show (2 ^ 1 : Nat) = 2 from rfl]
            refine rn_iload dX12_changed_54 rfl ?_
            refine rn_ishl dX12_changed_56 ?_
            rw [nb_shl (by omega) (by omega)]
            refine rn_ior dX12_changed_57 ?_
            rw [nb_or (by omega) (by omega)]
            refine rn_istore_n dX12_changed_58 (Nat.le_of_ble_eq_true rfl) rfl ?_
            refine rn_iinc (v := nI (col + 1)) dX12_changed_59 rfl (nI_1 col) (Nat.le_of_ble_eq_true rfl) rfl ?_
            refine rn_goto (tgt := 12) dX12_changed_62 (by decide) ?_
            have q := ihe (4 - (col + 1)) (by omega) (col + 1) (some (.int (nI to))) rfl (by omega) hr4
            rw [show 4 * row + (col + 1) = 4 * row + col + 1 by omega, tw_s s w row col hr4 hc4, ← hto] at q
            exact q
          refine rn_iload dX12_changed_12 rfl ?_
          refine rn_iconst (v := nI 4) dX12_changed_14 (by decide) ?_
          refine rn_icmp_ge (tgt := 65) dX12_changed_15 (by decide) (fun c15 => ?_) (fun c15 => ?_)
          · refine rn_iinc (v := nI (row + 1)) dX12_changed_65 rfl (nI_1 row) (Nat.le_of_ble_eq_true rfl) rfl ?_
            refine rn_goto (tgt := 4) dX12_changed_68 (by decide) ?_
            have hc4 := ge_ex c15 (by omega) (by decide)
            have q := ih (4 - (row + 1)) (by omega) (row + 1) (some (.int (nI col))) w5 rfl (by omega)
            rw [show 4 * (row + 1) = 4 * row + col by omega] at q
            exact q
          · have hc4 := ge_in c15 (by omega)
            refine rn_iload_n dX12_changed_18 rfl ?_
            refine rn_if_ne (tgt := 33) dX12_changed_19 (by decide) (fun c19 => ?_) (fun c19 => ?_)
            · refine rn_iconst (v := nI 4) dX12_changed_33 (by decide) ?_
              refine rn_iload_n dX12_changed_34 rfl ?_
              refine rn_imul dX12_changed_35 ?_
              refine rn_iconst (v := nI 3) dX12_changed_36 (by decide) ?_
              refine rn_iadd dX12_changed_37 ?_
              refine rn_iload dX12_changed_38 rfl ?_
              refine rn_isub dX12_changed_40 ?_
              have hw0 : ¬ w = 0 := fun q => c19 (by rw [q]; rfl)
              rw [pk_mul, nI_add, pk_sub (by omega)]
              exact step _ hc4 (by rw [if_neg hw0])
            · refine rn_iconst (v := nI 4) dX12_changed_22 (by decide) ?_
              refine rn_iload dX12_changed_23 rfl ?_
              refine rn_imul dX12_changed_25 ?_
              refine rn_iconst (v := nI 3) dX12_changed_26 (by decide) ?_
              refine rn_iadd dX12_changed_27 ?_
              refine rn_iload_n dX12_changed_28 rfl ?_
              refine rn_isub dX12_changed_29 ?_
              rw [pk_mul, nI_add, pk_sub (by omega)]
              refine rn_goto (tgt := 41) dX12_changed_30 (by decide) ?_
              have hw0 : w = 0 := (nI_eq (b := 0) (by omega) (by decide)).mp c19
              exact step _ hc4 (by rw [if_pos hw0])
      refine rn_iload_n dX12_changed_4 rfl ?_
      refine rn_iconst (v := nI 4) dX12_changed_5 (by decide) ?_
      refine rn_icmp_ge (tgt := 71) dX12_changed_6 (by decide) (fun c6 => ?_) (fun c6 => ?_)
      · refine rn_iload_n dX12_changed_71 rfl ?_
        have hr4 : row = 4 := by
          have := ge_ex c6 (by omega) (by decide)
          omega
        subst hr4
        refine rn_callS dX12_changed_72 lmX12_89 ⟨Nat.le_of_ble_eq_true rfl, Nat.le_of_ble_eq_true rfl⟩ (cm_normal g f (tw_lt s w 16 (by omega)) h0) rfl rfl (Nat.le_of_ble_eq_true rfl) ?_
        rintro _ _ ⟨rfl, rfl⟩
        refine rn_iret dX12_changed_75 rfl ?_
        exact ⟨rfl, rfl⟩
      · have hr4 := ge_in c6 (by omega)
        refine rn_iconst (v := nI 0) dX12_changed_9 (by decide) ?_
        refine rn_istore dX12_changed_10 (Nat.le_of_ble_eq_true rfl) rfl ?_
        exact inner 4 0 w5 rfl (by omega) hr4
  refine rn_iconst (v := nI 0) dX12_changed_0 (by decide) ?_
  refine rn_istore_n dX12_changed_1 (Nat.le_of_ble_eq_true rfl) rfl ?_
  refine rn_iconst (v := nI 0) dX12_changed_2 (by decide) ?_
  refine rn_istore_n dX12_changed_3 (Nat.le_of_ble_eq_true rfl) rfl ?_
  have q := outer 4 0 none none rfl (by omega)
  rw [show tw s w (4 * 0) = 0 by unfold tw; split <;> rfl] at q
  exact q
