-- symmetries of the board
def ix (P : PS) (q c : Nat) : Nat := if q &&& 1 = 0 then c % pW P else pW P - 1 - c % pW P
def iy (P : PS) (q c : Nat) : Nat := if q &&& 2 = 0 then c / pW P else pH P - 1 - c / pW P
def img (P : PS) (q c : Nat) : Nat := if q &&& 4 = 0 then iy P q c * pW P + ix P q c else ix P q c * pW P + iy P q c
def symOk (P : PS) (q : Nat) : Bool := decide (q < 4) || decide (pW P = pH P)
theorem and4 : ∀ q, q < 8 → q &&& 4 = 0 → q < 4 := by
  have h : ∀ q : Fin 8, q.val &&& 4 = 0 → q.val < 4 := by decide
  exact fun q hq => h ⟨q, hq⟩
theorem and4n : ∀ q, q < 8 → ¬ q &&& 4 = 0 → 4 ≤ q := by
  have h : ∀ q : Fin 8, ¬ q.val &&& 4 = 0 → 4 ≤ q.val := by decide
  exact fun q hq => h ⟨q, hq⟩
theorem img_lt {P : PS} {q c : Nat} (hV : VD P) (hq : q < 8) (hs : symOk P q = true) (hc : c < pW P * pH P) : img P q c < pW P * pH P := by
  obtain ⟨v1, v2, v3, v4, v5⟩ := hV
  have hx0 : c % pW P < pW P := Nat.mod_lt _ (by omega)
  have hy0 : c / pW P < pH P := by
    rw [Nat.div_lt_iff_lt_mul (by omega), Nat.mul_comm]; exact hc
  have hx : ix P q c < pW P := by unfold ix; split <;> omega
  have hy : iy P q c < pH P := by
    unfold iy
    generalize c / pW P = y0 at hy0 ⊢
    split <;> omega
  unfold img
  split
  · exact cell_lt hx hy
  · rename_i h4
    have hg := and4n q hq h4
    have he : pW P = pH P := by
      simp only [symOk, Bool.or_eq_true, decide_eq_true_eq] at hs
      omega
    have := cell_lt (w := pW P) (h := pH P) (x := iy P q c) (y := ix P q c) (by omega) (by omega)
    exact this
theorem az {a : Nat} (h : a < 2 ^ 31) : nI a = 0 ↔ a = 0 := nI_eq (b := 0) h (by decide)
theorem ct_mapCell (g : GG) (f : Mm) {P : PS} {q c : Nat} (hP : PB f 1 P) (hV : VD P) (hq : q < 8) (hc : c < pW P * pH P) : Ct g MX8_mapCell [.ref 1, .int (nI q), .int (nI c)] f 0 0 (fun r f' => f = f' ∧ r = some (.int (nI (img P q c)))) := by
  refine Ct.of ok_MX8_mapCell (Nat.le_of_ble_eq_true rfl) ?_
  change Wp g MX8_mapCell 0 [some (.ref 1), some (.int (nI q)), some (.int (nI c)), none, none] [] f 0 0 _
  have ha := hV.area
  obtain ⟨v1, v2, v3, v4, v5⟩ := id hV
  have hx0 : c % pW P < pW P := Nat.mod_lt _ (by omega)
  have hy0 : c / pW P < pH P := by
    rw [Nat.div_lt_iff_lt_mul (by omega), Nat.mul_comm]; exact hc
  have a1 : q &&& 1 ≤ q := Nat.and_le_left
  have a2 : q &&& 2 ≤ q := Nat.and_le_left
  have a4 : q &&& 4 ≤ q := Nat.and_le_left
  refine rn_aload_n dX8_mapCell_0 rfl ?_
  refine rn_iload_n dX8_mapCell_1 rfl ?_
  refine rn_callV dX8_mapCell_2 lmX8_47 ⟨Nat.le_of_ble_eq_true rfl, Nat.le_of_ble_eq_true rfl⟩ (ct_columnOf g f hP hV (by omega)) hP.1 rfl rfl (Nat.le_of_ble_eq_true rfl) ?_
  rintro _ _ ⟨rfl, rfl⟩
  refine rn_istore_n dX8_mapCell_5 (Nat.le_of_ble_eq_true rfl) rfl ?_
  refine rn_aload_n dX8_mapCell_6 rfl ?_
  refine rn_iload_n dX8_mapCell_7 rfl ?_
  refine rn_callV dX8_mapCell_8 lmX8_50 ⟨Nat.le_of_ble_eq_true rfl, Nat.le_of_ble_eq_true rfl⟩ (ct_rowOf g f hP hV (by omega)) hP.1 rfl rfl (Nat.le_of_ble_eq_true rfl) ?_
  rintro _ _ ⟨rfl, rfl⟩
  refine rn_istore dX8_mapCell_11 (Nat.le_of_ble_eq_true rfl) rfl ?_
  refine rn_iload_n dX8_mapCell_13 rfl ?_
  refine rn_iconst (v := nI 1) dX8_mapCell_14 (by decide) ?_
  refine rn_iand dX8_mapCell_15 ?_
  rw [nb_and (by omega) (by decide)]
  refine rn_if_eq (tgt := 28) dX8_mapCell_16 (by decide) (fun c16 => ?_) (fun c16 => ?_)
  · refine rn_iload_n dX8_mapCell_28 rfl ?_
    refine rn_iconst (v := nI 2) dX8_mapCell_29 (by decide) ?_
    refine rn_iand dX8_mapCell_30 ?_
    rw [nb_and (by omega) (by decide)]
    refine rn_if_eq (tgt := 45) dX8_mapCell_31 (by decide) (fun c31 => ?_) (fun c31 => ?_)
    · refine rn_iload_n dX8_mapCell_45 rfl ?_
      refine rn_iconst (v := nI 4) dX8_mapCell_46 (by decide) ?_
      refine rn_iand dX8_mapCell_47 ?_
      rw [nb_and (by omega) (by decide)]
      refine rn_if_eq (tgt := 63) dX8_mapCell_48 (by decide) (fun c48 => ?_) (fun c48 => ?_)
      · refine rn_iload dX8_mapCell_63 rfl ?_
        refine rn_aload_n dX8_mapCell_65 rfl ?_
        refine rn_get dX8_mapCell_66 lfX8_19 hP.1 rfl ?_
        refine rn_imul dX8_mapCell_69 ?_
        refine rn_iload_n dX8_mapCell_70 rfl ?_
        refine rn_iadd dX8_mapCell_71 ?_
        skip
        refine rn_iret dX8_mapCell_72 rfl ?_
        rw [az (by omega)] at c16 c31 c48
        refine ⟨rfl, ?_⟩
        simp only [img, ix, iy, c16, c31, c48, if_true, if_false, pk_mul, nI_add]
      · refine rn_iload_n dX8_mapCell_51 rfl ?_
        refine rn_aload_n dX8_mapCell_52 rfl ?_
        refine rn_get dX8_mapCell_53 lfX8_19 hP.1 rfl ?_
        refine rn_imul dX8_mapCell_56 ?_
        refine rn_iload dX8_mapCell_57 rfl ?_
        refine rn_iadd dX8_mapCell_59 ?_
        rw [pk_mul, nI_add]
        refine rn_goto (tgt := 72) dX8_mapCell_60 (by decide) ?_
        skip
        refine rn_iret dX8_mapCell_72 rfl ?_
        rw [az (by omega)] at c16 c31 c48
        refine ⟨rfl, ?_⟩
        simp only [img, ix, iy, c16, c31, c48, if_true, if_false, pk_mul, nI_add]
    · refine rn_aload_n dX8_mapCell_34 rfl ?_
      refine rn_get dX8_mapCell_35 lfX8_24 hP.1 rfl ?_
      refine rn_iconst (v := nI 1) dX8_mapCell_38 (by decide) ?_
      refine rn_isub dX8_mapCell_39 ?_
      refine rn_iload dX8_mapCell_40 rfl ?_
      refine rn_isub dX8_mapCell_42 ?_
      rw [pk_sub (by omega), pk_sub (by omega)]
      refine rn_istore dX8_mapCell_43 (Nat.le_of_ble_eq_true rfl) rfl ?_
      refine rn_iload_n dX8_mapCell_45 rfl ?_
      refine rn_iconst (v := nI 4) dX8_mapCell_46 (by decide) ?_
      refine rn_iand dX8_mapCell_47 ?_
      rw [nb_and (by omega) (by decide)]
      refine rn_if_eq (tgt := 63) dX8_mapCell_48 (by decide) (fun c48 => ?_) (fun c48 => ?_)
      · refine rn_iload dX8_mapCell_63 rfl ?_
        refine rn_aload_n dX8_mapCell_65 rfl ?_
        refine rn_get dX8_mapCell_66 lfX8_19 hP.1 rfl ?_
        refine rn_imul dX8_mapCell_69 ?_
        refine rn_iload_n dX8_mapCell_70 rfl ?_
        refine rn_iadd dX8_mapCell_71 ?_
        skip
        refine rn_iret dX8_mapCell_72 rfl ?_
        rw [az (by omega)] at c16 c31 c48
        refine ⟨rfl, ?_⟩
        simp only [img, ix, iy, c16, c31, c48, if_true, if_false, pk_mul, nI_add]
      · refine rn_iload_n dX8_mapCell_51 rfl ?_
        refine rn_aload_n dX8_mapCell_52 rfl ?_
        refine rn_get dX8_mapCell_53 lfX8_19 hP.1 rfl ?_
        refine rn_imul dX8_mapCell_56 ?_
        refine rn_iload dX8_mapCell_57 rfl ?_
        refine rn_iadd dX8_mapCell_59 ?_
        rw [pk_mul, nI_add]
        refine rn_goto (tgt := 72) dX8_mapCell_60 (by decide) ?_
        skip
        refine rn_iret dX8_mapCell_72 rfl ?_
        rw [az (by omega)] at c16 c31 c48
        refine ⟨rfl, ?_⟩
        simp only [img, ix, iy, c16, c31, c48, if_true, if_false, pk_mul, nI_add]
  · refine rn_aload_n dX8_mapCell_19 rfl ?_
    refine rn_get dX8_mapCell_20 lfX8_19 hP.1 rfl ?_
    refine rn_iconst (v := nI 1) dX8_mapCell_23 (by decide) ?_
    refine rn_isub dX8_mapCell_24 ?_
    refine rn_iload_n dX8_mapCell_25 rfl ?_
    refine rn_isub dX8_mapCell_26 ?_
    rw [pk_sub (by omega), pk_sub (by omega)]
    refine rn_istore_n dX8_mapCell_27 (Nat.le_of_ble_eq_true rfl) rfl ?_
    refine rn_iload_n dX8_mapCell_28 rfl ?_
    refine rn_iconst (v := nI 2) dX8_mapCell_29 (by decide) ?_
    refine rn_iand dX8_mapCell_30 ?_
    rw [nb_and (by omega) (by decide)]
    refine rn_if_eq (tgt := 45) dX8_mapCell_31 (by decide) (fun c31 => ?_) (fun c31 => ?_)
    · refine rn_iload_n dX8_mapCell_45 rfl ?_
      refine rn_iconst (v := nI 4) dX8_mapCell_46 (by decide) ?_
      refine rn_iand dX8_mapCell_47 ?_
      rw [nb_and (by omega) (by decide)]
      refine rn_if_eq (tgt := 63) dX8_mapCell_48 (by decide) (fun c48 => ?_) (fun c48 => ?_)
      · refine rn_iload dX8_mapCell_63 rfl ?_
        refine rn_aload_n dX8_mapCell_65 rfl ?_
        refine rn_get dX8_mapCell_66 lfX8_19 hP.1 rfl ?_
        refine rn_imul dX8_mapCell_69 ?_
        refine rn_iload_n dX8_mapCell_70 rfl ?_
        refine rn_iadd dX8_mapCell_71 ?_
        skip
        refine rn_iret dX8_mapCell_72 rfl ?_
        rw [az (by omega)] at c16 c31 c48
        refine ⟨rfl, ?_⟩
        simp only [img, ix, iy, c16, c31, c48, if_true, if_false, pk_mul, nI_add]
      · refine rn_iload_n dX8_mapCell_51 rfl ?_
        refine rn_aload_n dX8_mapCell_52 rfl ?_
        refine rn_get dX8_mapCell_53 lfX8_19 hP.1 rfl ?_
        refine rn_imul dX8_mapCell_56 ?_
        refine rn_iload dX8_mapCell_57 rfl ?_
        refine rn_iadd dX8_mapCell_59 ?_
        rw [pk_mul, nI_add]
        refine rn_goto (tgt := 72) dX8_mapCell_60 (by decide) ?_
        skip
        refine rn_iret dX8_mapCell_72 rfl ?_
        rw [az (by omega)] at c16 c31 c48
        refine ⟨rfl, ?_⟩
        simp only [img, ix, iy, c16, c31, c48, if_true, if_false, pk_mul, nI_add]
    · refine rn_aload_n dX8_mapCell_34 rfl ?_
      refine rn_get dX8_mapCell_35 lfX8_24 hP.1 rfl ?_
      refine rn_iconst (v := nI 1) dX8_mapCell_38 (by decide) ?_
      refine rn_isub dX8_mapCell_39 ?_
      refine rn_iload dX8_mapCell_40 rfl ?_
      refine rn_isub dX8_mapCell_42 ?_
      rw [pk_sub (by omega), pk_sub (by omega)]
      refine rn_istore dX8_mapCell_43 (Nat.le_of_ble_eq_true rfl) rfl ?_
      refine rn_iload_n dX8_mapCell_45 rfl ?_
      refine rn_iconst (v := nI 4) dX8_mapCell_46 (by decide) ?_
      refine rn_iand dX8_mapCell_47 ?_
      rw [nb_and (by omega) (by decide)]
      refine rn_if_eq (tgt := 63) dX8_mapCell_48 (by decide) (fun c48 => ?_) (fun c48 => ?_)
      · refine rn_iload dX8_mapCell_63 rfl ?_
        refine rn_aload_n dX8_mapCell_65 rfl ?_
        refine rn_get dX8_mapCell_66 lfX8_19 hP.1 rfl ?_
        refine rn_imul dX8_mapCell_69 ?_
        refine rn_iload_n dX8_mapCell_70 rfl ?_
        refine rn_iadd dX8_mapCell_71 ?_
        skip
        refine rn_iret dX8_mapCell_72 rfl ?_
        rw [az (by omega)] at c16 c31 c48
        refine ⟨rfl, ?_⟩
        simp only [img, ix, iy, c16, c31, c48, if_true, if_false, pk_mul, nI_add]
      · refine rn_iload_n dX8_mapCell_51 rfl ?_
        refine rn_aload_n dX8_mapCell_52 rfl ?_
        refine rn_get dX8_mapCell_53 lfX8_19 hP.1 rfl ?_
        refine rn_imul dX8_mapCell_56 ?_
        refine rn_iload dX8_mapCell_57 rfl ?_
        refine rn_iadd dX8_mapCell_59 ?_
        rw [pk_mul, nI_add]
        refine rn_goto (tgt := 72) dX8_mapCell_60 (by decide) ?_
        skip
        refine rn_iret dX8_mapCell_72 rfl ?_
        rw [az (by omega)] at c16 c31 c48
        refine ⟨rfl, ?_⟩
        simp only [img, ix, iy, c16, c31, c48, if_true, if_false, pk_mul, nI_add]
theorem cm_image (g : GG) (f : Mm) {wi s : Nat → Int32} {cv : Int64} {P : PS} {q c : Nat} (hM : f 75 = some (MO wi cv)) (hs : AR f 76 73 s) (hP : SP s P) (hV : VD P) (hq : q < 8) (hc : c < pW P * pH P) : Ct g MX12_image [.ref 75, .int (nI q), .int (nI c)] f 0 0 (fun r f' => f = f' ∧ r = some (.int (nI (img P q c)))) := by
  refine Ct.of ok_MX12_image (Nat.le_of_ble_eq_true rfl) ?_
  change Wp g MX12_image 0 [some (.ref 75), some (.int (nI q)), some (.int (nI c)), none, none] [] f 0 0 _
  have ha := hV.area
  obtain ⟨v1, v2, v3, v4, v5⟩ := id hV
  obtain ⟨bs, hbs, hbse⟩ := id hs
  have hx0 : c % pW P < pW P := Nat.mod_lt _ (by omega)
  have hy0 : c / pW P < pH P := by
    rw [Nat.div_lt_iff_lt_mul (by omega), Nat.mul_comm]; exact hc
  have a1 : q &&& 1 ≤ q := Nat.and_le_left
  have a2 : q &&& 2 ≤ q := Nat.and_le_left
  have a4 : q &&& 4 ≤ q := Nat.and_le_left
  have hw0 : bs (nI 0).toNatClampNeg = nI (pW P) := by rw [nI_clamp (by decide), hbse 0 (by omega), hP.1]
  have hw1 : bs (nI 1).toNatClampNeg = nI (pH P) := by rw [nI_clamp (by decide), hbse 1 (by omega), hP.2.1]
  have b1 : nI (q &&& 1) = nI 1 ↔ ¬ q &&& 1 = 0 := by
    rw [nI_eq (by omega) (by decide)]
    have h : ∀ q : Fin 8, q.val &&& 1 = 1 ↔ ¬ q.val &&& 1 = 0 := by decide
    exact h ⟨q, hq⟩
  have b2 : nI (q &&& 2) = nI 2 ↔ ¬ q &&& 2 = 0 := by
    rw [nI_eq (by omega) (by decide)]
    have h : ∀ q : Fin 8, q.val &&& 2 = 2 ↔ ¬ q.val &&& 2 = 0 := by decide
    exact h ⟨q, hq⟩
  have b4 : nI (q &&& 4) = nI 4 ↔ ¬ q &&& 4 = 0 := by
    rw [nI_eq (by omega) (by decide)]
    have h : ∀ q : Fin 8, q.val &&& 4 = 4 ↔ ¬ q.val &&& 4 = 0 := by decide
    exact h ⟨q, hq⟩
  refine rn_iload_n dX12_image_0 rfl ?_
  refine rn_aload_n dX12_image_1 rfl ?_
  refine rn_get dX12_image_2 lfX12_7 hM rfl ?_
  refine rn_iconst (v := nI 0) dX12_image_5 (by decide) ?_
  refine rn_iald dX12_image_6 hbs (vp_in_nI (show 0 < 73 by omega) (by decide)) ?_
  rw [hw0]
  refine rn_irem dX12_image_7 (nI_ne0 (by omega) (by omega)) ?_
  rw [pk_rem (by omega) (by omega) (by omega)]
  refine rn_istore_n dX12_image_8 (Nat.le_of_ble_eq_true rfl) rfl ?_
  refine rn_iload_n dX12_image_9 rfl ?_
  refine rn_aload_n dX12_image_10 rfl ?_
  refine rn_get dX12_image_11 lfX12_7 hM rfl ?_
  refine rn_iconst (v := nI 0) dX12_image_14 (by decide) ?_
  refine rn_iald dX12_image_15 hbs (vp_in_nI (show 0 < 73 by omega) (by decide)) ?_
  rw [hw0]
  refine rn_idiv dX12_image_16 (nI_ne0 (by omega) (by omega)) ?_
  rw [pk_div (by omega) (by omega) (by omega)]
  refine rn_istore dX12_image_17 (Nat.le_of_ble_eq_true rfl) rfl ?_
  refine rn_iload_n dX12_image_19 rfl ?_
  refine rn_iconst (v := nI 1) dX12_image_20 (by decide) ?_
  refine rn_iand dX12_image_21 ?_
  refine rn_iconst (v := nI 1) dX12_image_22 (by decide) ?_
  rw [nb_and (by omega) (by decide)]
  refine rn_icmp_ne (tgt := 39) dX12_image_23 (by decide) (fun c23 => ?_) (fun c23 => ?_)
  · refine rn_iload_n dX12_image_39 rfl ?_
    refine rn_istore_n dX12_image_40 (Nat.le_of_ble_eq_true rfl) rfl ?_
    refine rn_iload_n dX12_image_41 rfl ?_
    refine rn_iconst (v := nI 2) dX12_image_42 (by decide) ?_
    refine rn_iand dX12_image_43 ?_
    refine rn_iconst (v := nI 2) dX12_image_44 (by decide) ?_
    rw [nb_and (by omega) (by decide)]
    refine rn_icmp_ne (tgt := 62) dX12_image_45 (by decide) (fun c45 => ?_) (fun c45 => ?_)
    · refine rn_iload dX12_image_62 rfl ?_
      refine rn_istore dX12_image_64 (Nat.le_of_ble_eq_true rfl) rfl ?_
      refine rn_iload_n dX12_image_66 rfl ?_
      refine rn_iconst (v := nI 4) dX12_image_67 (by decide) ?_
      refine rn_iand dX12_image_68 ?_
      refine rn_iconst (v := nI 4) dX12_image_69 (by decide) ?_
      rw [nb_and (by omega) (by decide)]
      refine rn_icmp_ne (tgt := 87) dX12_image_70 (by decide) (fun c70 => ?_) (fun c70 => ?_)
      · refine rn_iload dX12_image_87 rfl ?_
        refine rn_aload_n dX12_image_89 rfl ?_
        refine rn_get dX12_image_90 lfX12_7 hM rfl ?_
        refine rn_iconst (v := nI 0) dX12_image_93 (by decide) ?_
        refine rn_iald dX12_image_94 hbs (vp_in_nI (show 0 < 73 by omega) (by decide)) ?_
        rw [hw0]
        refine rn_imul dX12_image_95 ?_
        refine rn_iload_n dX12_image_96 rfl ?_
        refine rn_iadd dX12_image_97 ?_
        refine rn_iret dX12_image_98 rfl ?_
        rw [b1] at c23
        rw [b2] at c45
        rw [b4] at c70
        refine ⟨rfl, ?_⟩
        try rw [Classical.not_not] at c23
        try rw [Classical.not_not] at c45
        try rw [Classical.not_not] at c70
        simp only [img, ix, iy, c23, c45, c70, if_true, if_false, pk_mul, nI_add]
      · refine rn_iload_n dX12_image_73 rfl ?_
        refine rn_aload_n dX12_image_74 rfl ?_
        refine rn_get dX12_image_75 lfX12_7 hM rfl ?_
        refine rn_iconst (v := nI 0) dX12_image_78 (by decide) ?_
        refine rn_iald dX12_image_79 hbs (vp_in_nI (show 0 < 73 by omega) (by decide)) ?_
        rw [hw0]
        refine rn_imul dX12_image_80 ?_
        refine rn_iload dX12_image_81 rfl ?_
        refine rn_iadd dX12_image_83 ?_
        refine rn_goto (tgt := 98) dX12_image_84 (by decide) ?_
        refine rn_iret dX12_image_98 rfl ?_
        rw [b1] at c23
        rw [b2] at c45
        rw [b4] at c70
        refine ⟨rfl, ?_⟩
        try rw [Classical.not_not] at c23
        try rw [Classical.not_not] at c45
        try rw [Classical.not_not] at c70
        simp only [img, ix, iy, c23, c45, c70, if_true, if_false, pk_mul, nI_add]
    · refine rn_aload_n dX12_image_48 rfl ?_
      refine rn_get dX12_image_49 lfX12_7 hM rfl ?_
      refine rn_iconst (v := nI 1) dX12_image_52 (by decide) ?_
      refine rn_iald dX12_image_53 hbs (vp_in_nI (show 1 < 73 by omega) (by decide)) ?_
      rw [hw1]
      refine rn_iconst (v := nI 1) dX12_image_54 (by decide) ?_
      refine rn_isub dX12_image_55 ?_
      refine rn_iload dX12_image_56 rfl ?_
      refine rn_isub dX12_image_58 ?_
      rw [pk_sub (by omega), pk_sub (by omega)]
      refine rn_goto (tgt := 64) dX12_image_59 (by decide) ?_
      refine rn_istore dX12_image_64 (Nat.le_of_ble_eq_true rfl) rfl ?_
      refine rn_iload_n dX12_image_66 rfl ?_
      refine rn_iconst (v := nI 4) dX12_image_67 (by decide) ?_
      refine rn_iand dX12_image_68 ?_
      refine rn_iconst (v := nI 4) dX12_image_69 (by decide) ?_
      rw [nb_and (by omega) (by decide)]
      refine rn_icmp_ne (tgt := 87) dX12_image_70 (by decide) (fun c70 => ?_) (fun c70 => ?_)
      · refine rn_iload dX12_image_87 rfl ?_
        refine rn_aload_n dX12_image_89 rfl ?_
        refine rn_get dX12_image_90 lfX12_7 hM rfl ?_
        refine rn_iconst (v := nI 0) dX12_image_93 (by decide) ?_
        refine rn_iald dX12_image_94 hbs (vp_in_nI (show 0 < 73 by omega) (by decide)) ?_
        rw [hw0]
        refine rn_imul dX12_image_95 ?_
        refine rn_iload_n dX12_image_96 rfl ?_
        refine rn_iadd dX12_image_97 ?_
        refine rn_iret dX12_image_98 rfl ?_
        rw [b1] at c23
        rw [b2] at c45
        rw [b4] at c70
        refine ⟨rfl, ?_⟩
        try rw [Classical.not_not] at c23
        try rw [Classical.not_not] at c45
        try rw [Classical.not_not] at c70
        simp only [img, ix, iy, c23, c45, c70, if_true, if_false, pk_mul, nI_add]
      · refine rn_iload_n dX12_image_73 rfl ?_
        refine rn_aload_n dX12_image_74 rfl ?_
        refine rn_get dX12_image_75 lfX12_7 hM rfl ?_
        refine rn_iconst (v := nI 0) dX12_image_78 (by decide) ?_
        refine rn_iald dX12_image_79 hbs (vp_in_nI (show 0 < 73 by omega) (by decide)) ?_
        rw [hw0]
        refine rn_imul dX12_image_80 ?_
        refine rn_iload dX12_image_81 rfl ?_
        refine rn_iadd dX12_image_83 ?_
        refine rn_goto (tgt := 98) dX12_image_84 (by decide) ?_
        refine rn_iret dX12_image_98 rfl ?_
        rw [b1] at c23
        rw [b2] at c45
        rw [b4] at c70
        refine ⟨rfl, ?_⟩
        try rw [Classical.not_not] at c23
        try rw [Classical.not_not] at c45
        try rw [Classical.not_not] at c70
        simp only [img, ix, iy, c23, c45, c70, if_true, if_false, pk_mul, nI_add]
  · refine rn_aload_n dX12_image_26 rfl ?_
    refine rn_get dX12_image_27 lfX12_7 hM rfl ?_
    refine rn_iconst (v := nI 0) dX12_image_30 (by decide) ?_
    refine rn_iald dX12_image_31 hbs (vp_in_nI (show 0 < 73 by omega) (by decide)) ?_
    rw [hw0]
    refine rn_iconst (v := nI 1) dX12_image_32 (by decide) ?_
    refine rn_isub dX12_image_33 ?_
    refine rn_iload_n dX12_image_34 rfl ?_
    refine rn_isub dX12_image_35 ?_
    rw [pk_sub (by omega), pk_sub (by omega)]
    refine rn_goto (tgt := 40) dX12_image_36 (by decide) ?_
    refine rn_istore_n dX12_image_40 (Nat.le_of_ble_eq_true rfl) rfl ?_
    refine rn_iload_n dX12_image_41 rfl ?_
    refine rn_iconst (v := nI 2) dX12_image_42 (by decide) ?_
    refine rn_iand dX12_image_43 ?_
    refine rn_iconst (v := nI 2) dX12_image_44 (by decide) ?_
    rw [nb_and (by omega) (by decide)]
    refine rn_icmp_ne (tgt := 62) dX12_image_45 (by decide) (fun c45 => ?_) (fun c45 => ?_)
    · refine rn_iload dX12_image_62 rfl ?_
      refine rn_istore dX12_image_64 (Nat.le_of_ble_eq_true rfl) rfl ?_
      refine rn_iload_n dX12_image_66 rfl ?_
      refine rn_iconst (v := nI 4) dX12_image_67 (by decide) ?_
      refine rn_iand dX12_image_68 ?_
      refine rn_iconst (v := nI 4) dX12_image_69 (by decide) ?_
      rw [nb_and (by omega) (by decide)]
      refine rn_icmp_ne (tgt := 87) dX12_image_70 (by decide) (fun c70 => ?_) (fun c70 => ?_)
      · refine rn_iload dX12_image_87 rfl ?_
        refine rn_aload_n dX12_image_89 rfl ?_
        refine rn_get dX12_image_90 lfX12_7 hM rfl ?_
        refine rn_iconst (v := nI 0) dX12_image_93 (by decide) ?_
        refine rn_iald dX12_image_94 hbs (vp_in_nI (show 0 < 73 by omega) (by decide)) ?_
        rw [hw0]
        refine rn_imul dX12_image_95 ?_
        refine rn_iload_n dX12_image_96 rfl ?_
        refine rn_iadd dX12_image_97 ?_
        refine rn_iret dX12_image_98 rfl ?_
        rw [b1] at c23
        rw [b2] at c45
        rw [b4] at c70
        refine ⟨rfl, ?_⟩
        try rw [Classical.not_not] at c23
        try rw [Classical.not_not] at c45
        try rw [Classical.not_not] at c70
        simp only [img, ix, iy, c23, c45, c70, if_true, if_false, pk_mul, nI_add]
      · refine rn_iload_n dX12_image_73 rfl ?_
        refine rn_aload_n dX12_image_74 rfl ?_
        refine rn_get dX12_image_75 lfX12_7 hM rfl ?_
        refine rn_iconst (v := nI 0) dX12_image_78 (by decide) ?_
        refine rn_iald dX12_image_79 hbs (vp_in_nI (show 0 < 73 by omega) (by decide)) ?_
        rw [hw0]
        refine rn_imul dX12_image_80 ?_
        refine rn_iload dX12_image_81 rfl ?_
        refine rn_iadd dX12_image_83 ?_
        refine rn_goto (tgt := 98) dX12_image_84 (by decide) ?_
        refine rn_iret dX12_image_98 rfl ?_
        rw [b1] at c23
        rw [b2] at c45
        rw [b4] at c70
        refine ⟨rfl, ?_⟩
        try rw [Classical.not_not] at c23
        try rw [Classical.not_not] at c45
        try rw [Classical.not_not] at c70
        simp only [img, ix, iy, c23, c45, c70, if_true, if_false, pk_mul, nI_add]
    · refine rn_aload_n dX12_image_48 rfl ?_
      refine rn_get dX12_image_49 lfX12_7 hM rfl ?_
      refine rn_iconst (v := nI 1) dX12_image_52 (by decide) ?_
      refine rn_iald dX12_image_53 hbs (vp_in_nI (show 1 < 73 by omega) (by decide)) ?_
      rw [hw1]
      refine rn_iconst (v := nI 1) dX12_image_54 (by decide) ?_
      refine rn_isub dX12_image_55 ?_
      refine rn_iload dX12_image_56 rfl ?_
      refine rn_isub dX12_image_58 ?_
      rw [pk_sub (by omega), pk_sub (by omega)]
      refine rn_goto (tgt := 64) dX12_image_59 (by decide) ?_
      refine rn_istore dX12_image_64 (Nat.le_of_ble_eq_true rfl) rfl ?_
      refine rn_iload_n dX12_image_66 rfl ?_
      refine rn_iconst (v := nI 4) dX12_image_67 (by decide) ?_
      refine rn_iand dX12_image_68 ?_
      refine rn_iconst (v := nI 4) dX12_image_69 (by decide) ?_
      rw [nb_and (by omega) (by decide)]
      refine rn_icmp_ne (tgt := 87) dX12_image_70 (by decide) (fun c70 => ?_) (fun c70 => ?_)
      · refine rn_iload dX12_image_87 rfl ?_
        refine rn_aload_n dX12_image_89 rfl ?_
        refine rn_get dX12_image_90 lfX12_7 hM rfl ?_
        refine rn_iconst (v := nI 0) dX12_image_93 (by decide) ?_
        refine rn_iald dX12_image_94 hbs (vp_in_nI (show 0 < 73 by omega) (by decide)) ?_
        rw [hw0]
        refine rn_imul dX12_image_95 ?_
        refine rn_iload_n dX12_image_96 rfl ?_
        refine rn_iadd dX12_image_97 ?_
        refine rn_iret dX12_image_98 rfl ?_
        rw [b1] at c23
        rw [b2] at c45
        rw [b4] at c70
        refine ⟨rfl, ?_⟩
        try rw [Classical.not_not] at c23
        try rw [Classical.not_not] at c45
        try rw [Classical.not_not] at c70
        simp only [img, ix, iy, c23, c45, c70, if_true, if_false, pk_mul, nI_add]
      · refine rn_iload_n dX12_image_73 rfl ?_
        refine rn_aload_n dX12_image_74 rfl ?_
        refine rn_get dX12_image_75 lfX12_7 hM rfl ?_
        refine rn_iconst (v := nI 0) dX12_image_78 (by decide) ?_
        refine rn_iald dX12_image_79 hbs (vp_in_nI (show 0 < 73 by omega) (by decide)) ?_
        rw [hw0]
        refine rn_imul dX12_image_80 ?_
        refine rn_iload dX12_image_81 rfl ?_
        refine rn_iadd dX12_image_83 ?_
        refine rn_goto (tgt := 98) dX12_image_84 (by decide) ?_
        refine rn_iret dX12_image_98 rfl ?_
        rw [b1] at c23
        rw [b2] at c45
        rw [b4] at c70
        refine ⟨rfl, ?_⟩
        try rw [Classical.not_not] at c23
        try rw [Classical.not_not] at c45
        try rw [Classical.not_not] at c70
        simp only [img, ix, iy, c23, c45, c70, if_true, if_false, pk_mul, nI_add]
/-- a symmetry of the board -/
def sya (P : PS) (q : Nat) : Nat → Bool
  | 0 => true
  | c + 1 => sya P q c && decide (pC P (img P q c) = pC P c)
def isSy (P : PS) (q : Nat) : Bool := symOk P q && sya P q (pW P * pH P)
theorem sya_all {P : PS} {q : Nat} : ∀ {n}, sya P q n = true → ∀ c, c < n → pC P (img P q c) = pC P c
  | 0, _, c, hc => absurd hc (by omega)
  | n + 1, h, c, hc => by
    rw [sya, Bool.and_eq_true] at h
    by_cases e : c = n
    · rw [e]; exact of_decide_eq_true h.2
    · exact sya_all h.1 c (by omega)
theorem sya_f {P : PS} {q n : Nat} (h : sya P q n = false) : ∀ d, sya P q (n + d) = false
  | 0 => h
  | d + 1 => by
    rw [show n + (d + 1) = n + d + 1 from rfl, sya, sya_f h d, Bool.false_and]
theorem cm_isSymmetry (g : GG) (f : Mm) {wi s : Nat → Int32} {cv : Int64} {P : PS} {q : Nat} (hM : f 75 = some (MO wi cv)) (hs : AR f 76 73 s) (hP : SP s P) (hV : VD P) (hq : q < 8) : Ct g MX12_isSymmetry [.ref 75, .int (nI q)] f 0 0 (fun r f' => f = f' ∧ r = some (.int (bI (isSy P q)))) := by
  refine Ct.of ok_MX12_isSymmetry (Nat.le_of_ble_eq_true rfl) ?_
  change Wp g MX12_isSymmetry 0 [some (.ref 75), some (.int (nI q)), none, none] [] f 0 0 _
  have ha := hV.area
  obtain ⟨v1, v2, v3, v4, v5⟩ := id hV
  obtain ⟨bs, hbs, hbse⟩ := id hs
  have hw0 : bs (nI 0).toNatClampNeg = nI (pW P) := by rw [nI_clamp (by decide), hbse 0 (by omega), hP.1]
  have hw1 : bs (nI 1).toNatClampNeg = nI (pH P) := by rw [nI_clamp (by decide), hbse 1 (by omega), hP.2.1]
  have loop : ∀ (d c : Nat) (b : Bool), pW P * pH P - c = d → c ≤ pW P * pH P → b = (symOk P q && sya P q c) → Wp g MX12_isSymmetry 28 [some (.ref 75), some (.int (nI q)), some (.int (bI b)), some (.int (nI c))] [] f 0 0 (fun r f' => f = f' ∧ r = some (.int (bI (isSy P q)))) := by
    intro d
    induction d using Nat.strongRecOn with
    | ind d ih =>
      intro c b hd hc hb
      refine rn_iload_n dX12_isSymmetry_28 rfl ?_
      refine rn_aload_n dX12_isSymmetry_29 rfl ?_
      refine rn_callV dX12_isSymmetry_30 lmX12_68 ⟨Nat.le_of_ble_eq_true rfl, Nat.le_of_ble_eq_true rfl⟩ (cm_cells g f hM hs hP) hM rfl rfl (Nat.le_of_ble_eq_true rfl) ?_
      rintro _ _ ⟨rfl, rfl⟩
      refine rn_icmp_ge (tgt := 76) dX12_isSymmetry_33 (by decide) (fun c33 => ?_) (fun c33 => ?_)
      · refine rn_iload_n dX12_isSymmetry_76 rfl ?_
        refine rn_zret dX12_isSymmetry_77 rfl (by cases b <;> rfl) ?_
        have hc2 := ge_ex c33 (by omega) (by omega)
        have hce : c = pW P * pH P := by omega
        subst hce
        exact ⟨rfl, by rw [hb]; rfl⟩
      · have hc2 := ge_in c33 (by omega)
        refine rn_iload_n dX12_isSymmetry_36 rfl ?_
        refine rn_if_eq (tgt := 76) dX12_isSymmetry_37 (by decide) (fun c37 => ?_) (fun c37 => ?_)
        · refine rn_iload_n dX12_isSymmetry_76 rfl ?_
          refine rn_zret dX12_isSymmetry_77 rfl (by cases b <;> rfl) ?_
          have hbf := bI_0.mp c37
          refine ⟨rfl, ?_⟩
          rw [hbf]
          rw [hb, Bool.and_eq_false_iff] at hbf
          rcases hbf with h | h
          · rw [isSy, h, Bool.false_and]
          · have h2 := sya_f h (pW P * pH P - c)
            rw [show c + (pW P * pH P - c) = pW P * pH P by omega] at h2
            rw [isSy, h2, Bool.and_false]
        · have hbt := bI_n0.mp c37
          have hbb := hbt
          rw [hb, Bool.and_eq_true] at hbb
          have hil := img_lt hV hq hbb.1 hc2
          refine rn_aload_n dX12_isSymmetry_40 rfl ?_
          refine rn_get dX12_isSymmetry_41 lfX12_7 hM rfl ?_
          refine rn_iconst (v := nI 5) dX12_isSymmetry_44 (by decide) ?_
          refine rn_iload_n dX12_isSymmetry_45 rfl ?_
          refine rn_iadd dX12_isSymmetry_46 ?_
          rw [nI_add]
          refine rn_iald dX12_isSymmetry_47 hbs (vp_in_nI (show 5 + c < 73 by omega) (by decide)) ?_
          refine rn_aload_n dX12_isSymmetry_48 rfl ?_
          refine rn_get dX12_isSymmetry_49 lfX12_7 hM rfl ?_
          refine rn_iconst (v := nI 5) dX12_isSymmetry_52 (by decide) ?_
          refine rn_aload_n dX12_isSymmetry_53 rfl ?_
          refine rn_iload_n dX12_isSymmetry_54 rfl ?_
          refine rn_iload_n dX12_isSymmetry_55 rfl ?_
          refine rn_callV dX12_isSymmetry_56 lmX12_271 ⟨Nat.le_of_ble_eq_true rfl, Nat.le_of_ble_eq_true rfl⟩ (cm_image g f hM hs hP hV hq hc2) hM rfl rfl (Nat.le_of_ble_eq_true rfl) ?_
          rintro _ _ ⟨rfl, rfl⟩
          refine rn_iadd dX12_isSymmetry_59 ?_
          rw [nI_add]
          refine rn_iald dX12_isSymmetry_60 hbs (vp_in_nI (show 5 + img P q c < 73 by omega) (by decide)) ?_
          rw [nI_clamp (by omega), nI_clamp (by omega), hbse _ (by omega), hbse _ (by omega), hP.2.2.2.2.2.1 c hc2, hP.2.2.2.2.2.1 _ hil]
          refine rn_icmp_ne (tgt := 68) dX12_isSymmetry_61 (by decide) (fun c61 => ?_) (fun c61 => ?_)
          · refine rn_iconst (v := nI 0) dX12_isSymmetry_68 (by decide) ?_
            refine rn_istore_n dX12_isSymmetry_69 (Nat.le_of_ble_eq_true rfl) rfl ?_
            refine rn_iinc (v := nI (c + 1)) dX12_isSymmetry_70 rfl (nI_1 c) (Nat.le_of_ble_eq_true rfl) rfl ?_
            refine rn_goto (tgt := 28) dX12_isSymmetry_73 (by decide) ?_
            exact ih _ (by omega) (c + 1) false rfl (by omega) (by rw [sya, decide_eq_false (fun z => c61 z.symm), Bool.and_false, Bool.and_false])
          · refine rn_iconst (v := nI 1) dX12_isSymmetry_64 (by decide) ?_
            refine rn_goto (tgt := 69) dX12_isSymmetry_65 (by decide) ?_
            refine rn_istore_n dX12_isSymmetry_69 (Nat.le_of_ble_eq_true rfl) rfl ?_
            refine rn_iinc (v := nI (c + 1)) dX12_isSymmetry_70 rfl (nI_1 c) (Nat.le_of_ble_eq_true rfl) rfl ?_
            refine rn_goto (tgt := 28) dX12_isSymmetry_73 (by decide) ?_
            exact ih _ (by omega) (c + 1) true rfl (by omega) (by rw [sya, decide_eq_true c61.symm, hbb.1, hbb.2]; rfl)
  refine rn_iload_n dX12_isSymmetry_0 rfl ?_
  refine rn_iconst (v := nI 4) dX12_isSymmetry_1 (by decide) ?_
  refine rn_icmp_lt (tgt := 20) dX12_isSymmetry_2 (by decide) (fun c2 => ?_) (fun c2 => ?_)
  · refine rn_iconst (v := nI 1) dX12_isSymmetry_20 (by decide) ?_
    refine rn_goto (tgt := 25) dX12_isSymmetry_21 (by decide) ?_
    refine rn_istore_n dX12_isSymmetry_25 (Nat.le_of_ble_eq_true rfl) rfl ?_
    refine rn_iconst (v := nI 0) dX12_isSymmetry_26 (by decide) ?_
    refine rn_istore_n dX12_isSymmetry_27 (Nat.le_of_ble_eq_true rfl) rfl ?_
    have h4 : q < 4 := Nat.lt_of_not_le fun z => absurd c2 (nI_nlt z (by omega))
    exact loop _ 0 true rfl (by omega) (by rw [symOk, decide_eq_true h4]; rfl)
  · refine rn_aload_n dX12_isSymmetry_5 rfl ?_
    refine rn_get dX12_isSymmetry_6 lfX12_7 hM rfl ?_
    refine rn_iconst (v := nI 0) dX12_isSymmetry_9 (by decide) ?_
    refine rn_iald dX12_isSymmetry_10 hbs (vp_in_nI (show 0 < 73 by omega) (by decide)) ?_
    refine rn_aload_n dX12_isSymmetry_11 rfl ?_
    refine rn_get dX12_isSymmetry_12 lfX12_7 hM rfl ?_
    refine rn_iconst (v := nI 1) dX12_isSymmetry_15 (by decide) ?_
    refine rn_iald dX12_isSymmetry_16 hbs (vp_in_nI (show 1 < 73 by omega) (by decide)) ?_
    rw [hw0, hw1]
    refine rn_icmp_ne (tgt := 24) dX12_isSymmetry_17 (by decide) (fun c17 => ?_) (fun c17 => ?_)
    · refine rn_iconst (v := nI 0) dX12_isSymmetry_24 (by decide) ?_
      refine rn_istore_n dX12_isSymmetry_25 (Nat.le_of_ble_eq_true rfl) rfl ?_
      refine rn_iconst (v := nI 0) dX12_isSymmetry_26 (by decide) ?_
      refine rn_istore_n dX12_isSymmetry_27 (Nat.le_of_ble_eq_true rfl) rfl ?_
      have h4 : ¬ q < 4 := fun z => c2 (nI_lt z (by decide))
      have hne : ¬ pW P = pH P := fun z => c17 (by rw [z])
      exact loop _ 0 false rfl (by omega) (by rw [symOk, decide_eq_false h4, decide_eq_false hne]; rfl)
    · refine rn_iconst (v := nI 1) dX12_isSymmetry_20 (by decide) ?_
      refine rn_goto (tgt := 25) dX12_isSymmetry_21 (by decide) ?_
      refine rn_istore_n dX12_isSymmetry_25 (Nat.le_of_ble_eq_true rfl) rfl ?_
      refine rn_iconst (v := nI 0) dX12_isSymmetry_26 (by decide) ?_
      refine rn_istore_n dX12_isSymmetry_27 (Nat.le_of_ble_eq_true rfl) rfl ?_
      have he : pW P = pH P := (nI_eq (by omega) (by omega)).mp c17
      exact loop _ 0 true rfl (by omega) (by rw [symOk, decide_eq_true he, Bool.or_true]; rfl)
