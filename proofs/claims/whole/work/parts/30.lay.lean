-- a form laid on the board
def lyOk (P : PS) (co x y : Nat) : Bool := decide (x < pW P) && (decide (y < pH P) && (decide (pC P (y * pW P + x) = 0) || decide (pC P (y * pW P + x) = nI co)))
def layk (P : PS) (t co x0 y0 : Nat) : Nat → Option Nat
  | 0 => some 0
  | i + 1 => match layk P t co x0 y0 i with
    | none => none
    | some m => if t.testBit i then (if lyOk P co (x0 + i % 4) (y0 + i / 4) then some (m ||| 2 ^ ((y0 + i / 4) * pW P + (x0 + i % 4))) else none) else some m
theorem layk_skip {P : PS} {t co x0 y0 i m : Nat} (h : layk P t co x0 y0 i = some m) (hb : t.testBit i = false) : layk P t co x0 y0 (i + 1) = some m := by
  simp only [layk, h, hb]; rfl
theorem layk_on {P : PS} {t co x0 y0 i m : Nat} (h : layk P t co x0 y0 i = some m) (hb : t.testBit i = true) (ho : lyOk P co (x0 + i % 4) (y0 + i / 4) = true) : layk P t co x0 y0 (i + 1) = some (m ||| 2 ^ ((y0 + i / 4) * pW P + (x0 + i % 4))) := by
  simp only [layk, h, hb, ho, if_true]
theorem layk_off {P : PS} {t co x0 y0 i m : Nat} (h : layk P t co x0 y0 i = some m) (hb : t.testBit i = true) (ho : lyOk P co (x0 + i % 4) (y0 + i / 4) = false) : layk P t co x0 y0 (i + 1) = none := by
  simp only [layk, h, hb, ho, if_true]; rfl
theorem layk_none {P : PS} {t co x0 y0 i : Nat} (h : layk P t co x0 y0 i = none) : ∀ j, layk P t co x0 y0 (i + j) = none
  | 0 => h
  | j + 1 => by
    have ih := layk_none h j
    rw [show i + (j + 1) = i + j + 1 from rfl]
    simp only [layk, ih]
theorem layk_rest {P : PS} {t co x0 y0 i m : Nat} (h : layk P t co x0 y0 i = some m) (hb : ∀ j, i ≤ j → t.testBit j = false) : ∀ j, layk P t co x0 y0 (i + j) = some m
  | 0 => h
  | j + 1 => layk_skip (layk_rest h hb j) (hb (i + j) (by omega))
/-- the cells of a form with its corner at the cell c; 0 if it cannot lie there -/
def ly (P : PS) (t co c : Nat) : Nat := (layk P t co (c % pW P) (c / pW P) 16).getD 0
theorem ly_none {P : PS} {t co c i : Nat} (hi : i ≤ 16) (h : layk P t co (c % pW P) (c / pW P) i = none) : ly P t co c = 0 := by
  have := layk_none h (16 - i)
  rw [show i + (16 - i) = 16 by omega] at this
  rw [ly, this]; rfl
theorem ly_some {P : PS} {t co c m : Nat} (h : layk P t co (c % pW P) (c / pW P) 16 = some m) : ly P t co c = m := by rw [ly, h]; rfl
theorem cell_lt {w h x y : Nat} (hx : x < w) (hy : y < h) : y * w + x < w * h := by
  have : (y + 1) * w ≤ h * w := Nat.mul_le_mul_right w hy
  rw [Nat.add_mul, Nat.one_mul, Nat.mul_comm h w] at this
  omega
theorem layk_lt {P : PS} {t co x0 y0 : Nat} : ∀ {i m}, layk P t co x0 y0 i = some m → m < 2 ^ (pW P * pH P)
  | 0, m, h => by
    cases h
    exact Nat.two_pow_pos _
  | i + 1, m, h => by
    cases hp : layk P t co x0 y0 i with
    | none => simp only [layk, hp] at h; cases h
    | some m0 =>
      have ih := layk_lt hp
      cases hb : t.testBit i with
      | false => rw [layk_skip hp hb] at h; cases h; exact ih
      | true =>
        cases ho : lyOk P co (x0 + i % 4) (y0 + i / 4) with
        | false => rw [layk_off hp hb ho] at h; cases h
        | true =>
          rw [layk_on hp hb ho] at h
          cases h
          simp only [lyOk, Bool.and_eq_true, decide_eq_true_eq] at ho
          exact Nat.or_lt_two_pow ih (Nat.pow_lt_pow_right (by decide) (cell_lt ho.1 ho.2.1))
theorem ly_lt (P : PS) (t co c : Nat) : ly P t co c < 2 ^ (pW P * pH P) := by
  unfold ly
  cases h : layk P t co (c % pW P) (c / pW P) 16 with
  | none => exact Nat.two_pow_pos _
  | some m => exact layk_lt h
theorem pw_36 {n : Nat} (h : n ≤ 36) : 2 ^ n ≤ 2 ^ 36 := Nat.pow_le_pow_right (by decide) h
theorem div_0 {t i : Nat} (h : t / 2 ^ i = 0) : ∀ j, i ≤ j → t.testBit j = false := fun j hj => by
  have hlt : t < 2 ^ i := (Nat.div_eq_zero_iff_lt (Nat.two_pow_pos i)).mp h
  exact Nat.testBit_lt_two_pow (Nat.lt_of_lt_of_le hlt (Nat.pow_le_pow_right (by decide) hj))
theorem ct_lay (g : GG) (f : Mm) {P : PS} {t co c : Nat} (hP : PB f 1 P) (hV : VD P) (ht : t < 65536) (hco : co < 4) (hc : c < pW P * pH P) : Ct g MX3_lay [.ref 1, .int (nI t), .int (nI co), .int (nI c)] f 0 0 (fun r f' => f = f' ∧ r = some (.long (lN (ly P t co c)))) := by
  refine Ct.of ok_MX3_lay (Nat.le_of_ble_eq_true rfl) ?_
  change Wp g MX3_lay 0 [some (.ref 1), some (.int (nI t)), some (.int (nI co)), some (.int (nI c)), none, none, none, none, none, none, none, none] [] f 0 0 _
  have ha := hV.area
  obtain ⟨v1, v2, v3, v4, v5⟩ := id hV
  have hx0 : c % pW P < pW P := Nat.mod_lt _ (by omega)
  have hy0 : c / pW P < pH P := by
    rw [Nat.div_lt_iff_lt_mul (by omega), Nat.mul_comm]; exact hc
  have loop : ∀ (d i m : Nat) (w9 w10 w11 : Option Value), 16 - i = d → i ≤ 16 → layk P t co (c % pW P) (c / pW P) i = some m → Wp g MX3_lay 20 [some (.ref 1), some (.int (nI t)), some (.int (nI co)), some (.int (nI c)), some (.int (nI (c % pW P))), some (.int (nI (c / pW P))), some (.long (lN m)), none, some (.int (nI i)), w9, w10, w11] [] f 0 0 (fun r f' => f = f' ∧ r = some (.long (lN (ly P t co c)))) := by
    intro d
    induction d using Nat.strongRecOn with
    | ind d ih =>
      intro i m w9 w10 w11 hd hi hm
      refine Wp.sub (lv' := [some (.ref 1), some (.int (nI t)), some (.int (nI co)), some (.int (nI c)), some (.int (nI (c % pW P))), some (.int (nI (c / pW P))), some (.long (lN m)), none, some (.int (nI i)), none, none, none]) (fun i v hv => ?_) ?_
      · match i, hv with
        | 0, hv => exact hv
        | 1, hv => exact hv
        | 2, hv => exact hv
        | 3, hv => exact hv
        | 4, hv => exact hv
        | 5, hv => exact hv
        | 6, hv => exact hv
        | 7, hv => cases hv
        | 8, hv => exact hv
        | 9, hv => cases hv
        | 10, hv => cases hv
        | 11, hv => cases hv
      have hml := layk_lt hm
      have h36 := pw_36 ha
      have hle : t / 2 ^ i ≤ t := Nat.div_le_self _ _
      have e0 : ¬ t.testBit i = true → layk P t co (c % pW P) (c / pW P) (i + 1) = some m := fun q => layk_skip hm (by simpa using q)
      refine rn_iload dX3_lay_20 rfl ?_
      refine rn_bipush (v := nI 16) dX3_lay_22 (by decide) ?_
      refine rn_icmp_ge (tgt := 118) dX3_lay_24 (by decide) (fun c24 => ?_) (fun c24 => ?_)
      · have hi2 := ge_ex c24 (by omega) (by decide)
        rw [show i = 16 by omega] at hm
        refine rn_lload dX3_lay_118 rfl ?_
        refine rn_lret dX3_lay_120 rfl ?_
        exact ⟨rfl, by rw [ly_some hm]⟩
      · have hi2 := ge_in c24 (by omega)
        refine rn_iload_n dX3_lay_27 rfl ?_
        refine rn_iload dX3_lay_28 rfl ?_
        refine rn_iushr dX3_lay_30 ?_
        rw [nb_ushr (by omega) (by omega)]
        refine rn_if_eq (tgt := 118) dX3_lay_31 (by decide) (fun c31 => ?_) (fun c31 => ?_)
        · have hz : t / 2 ^ i = 0 := (nI_eq (b := 0) (by omega) (by decide)).mp c31
          have hm2 := layk_rest hm (div_0 hz) (16 - i)
          rw [show i + (16 - i) = 16 by omega] at hm2
          refine rn_lload dX3_lay_118 rfl ?_
          refine rn_lret dX3_lay_120 rfl ?_
          exact ⟨rfl, by rw [ly_some hm2]⟩
        · refine rn_iload_n dX3_lay_34 rfl ?_
          refine rn_iload dX3_lay_35 rfl ?_
          refine rn_callS dX3_lay_37 lmX3_76 ⟨Nat.le_of_ble_eq_true rfl, Nat.le_of_ble_eq_true rfl⟩ (ct_hasSquare g f ht (by omega)) rfl rfl (Nat.le_of_ble_eq_true rfl) ?_
          rintro _ _ ⟨rfl, rfl⟩
          refine rn_if_eq (tgt := 112) dX3_lay_40 (by decide) (fun c40 => ?_) (fun c40 => ?_)
          · refine rn_iinc (v := nI (i + 1)) dX3_lay_112 rfl (nI_1 i) (Nat.le_of_ble_eq_true rfl) rfl ?_
            refine rn_goto (tgt := 20) dX3_lay_115 (by decide) ?_
            exact ih _ (by omega) (i + 1) m none none none rfl (by omega) (layk_skip hm (bI_0.mp c40))
          · have hb := bI_n0.mp c40
            refine rn_iload dX3_lay_43 rfl ?_
            refine rn_iload dX3_lay_45 rfl ?_
            refine rn_iconst (v := nI 4) dX3_lay_47 (by decide) ?_
            refine rn_irem dX3_lay_48 (by decide) ?_
            rw [pk_rem (by omega) (by decide) (by decide)]
            refine rn_iadd dX3_lay_49 ?_
            rw [nI_add]
            refine rn_istore dX3_lay_50 (Nat.le_of_ble_eq_true rfl) rfl ?_
            refine rn_iload dX3_lay_52 rfl ?_
            refine rn_iload dX3_lay_54 rfl ?_
            refine rn_iconst (v := nI 4) dX3_lay_56 (by decide) ?_
            refine rn_idiv dX3_lay_57 (by decide) ?_
            rw [pk_div (by omega) (by decide) (by decide)]
            refine rn_iadd dX3_lay_58 ?_
            rw [nI_add]
            refine rn_istore dX3_lay_59 (Nat.le_of_ble_eq_true rfl) rfl ?_
            refine rn_iload dX3_lay_61 rfl ?_
            refine rn_aload_n dX3_lay_63 rfl ?_
            refine rn_get dX3_lay_64 lfX3_82 hP.1 rfl ?_
            refine rn_imul dX3_lay_67 ?_
            refine rn_iload dX3_lay_68 rfl ?_
            refine rn_iadd dX3_lay_70 ?_
            rw [pk_mul, nI_add]
            refine rn_istore dX3_lay_71 (Nat.le_of_ble_eq_true rfl) rfl ?_
            refine rn_iload dX3_lay_73 rfl ?_
            refine rn_aload_n dX3_lay_75 rfl ?_
            refine rn_get dX3_lay_76 lfX3_82 hP.1 rfl ?_
            refine rn_icmp_ge (tgt := 101) dX3_lay_79 (by decide) (fun c79 => ?_) (fun c79 => ?_)
            · refine rn_lconst (v := 0) dX3_lay_101 (by decide) ?_
              refine rn_lret dX3_lay_102 rfl ?_
              have hnone := layk_off hm hb (by simp only [lyOk, decide_eq_false (show ¬ c % pW P + i % 4 < pW P by have := ge_ex c79 (by omega) (by omega); omega), Bool.false_and])
              exact ⟨rfl, by rw [ly_none (by omega) hnone]; rfl⟩
            · refine rn_iload dX3_lay_82 rfl ?_
              refine rn_aload_n dX3_lay_84 rfl ?_
              refine rn_get dX3_lay_85 lfX3_85 hP.1 rfl ?_
              refine rn_icmp_ge (tgt := 101) dX3_lay_88 (by decide) (fun c88 => ?_) (fun c88 => ?_)
              · refine rn_lconst (v := 0) dX3_lay_101 (by decide) ?_
                refine rn_lret dX3_lay_102 rfl ?_
                have hnone := layk_off hm hb (by simp only [lyOk, decide_eq_false (show ¬ c / pW P + i / 4 < pH P by have := ge_ex c88 (by omega) (by omega); omega), Bool.false_and, Bool.and_false])
                exact ⟨rfl, by rw [ly_none (by omega) hnone]; rfl⟩
              · have hxx := ge_in c79 (by omega)
                have hyy := ge_in c88 (by omega)
                have hcl := cell_lt hxx hyy
                refine rn_aload_n dX3_lay_91 rfl ?_
                refine rn_iload dX3_lay_92 rfl ?_
                refine rn_iload_n dX3_lay_94 rfl ?_
                refine rn_callV dX3_lay_95 lmX3_88 ⟨Nat.le_of_ble_eq_true rfl, Nat.le_of_ble_eq_true rfl⟩ (ct_takesColour g f (nI ((c / pW P + i / 4) * pW P + (c % pW P + i % 4))) (nI co) hP) hP.1 rfl rfl (Nat.le_of_ble_eq_true rfl) ?_
                rintro _ _ ⟨rfl, rfl⟩
                rw [atf_nI (by omega) (by decide)]
                refine rn_if_ne (tgt := 103) dX3_lay_98 (by decide) (fun c98 => ?_) (fun c98 => ?_)
                · refine rn_lload dX3_lay_103 rfl ?_
                  refine rn_lconst (v := 1) dX3_lay_105 (by decide) ?_
                  refine rn_iload dX3_lay_106 rfl ?_
                  refine rn_lshl dX3_lay_108 ?_
                  refine rn_lor dX3_lay_109 ?_
                  rw [show (1 : Int64) = lN 1 from rfl, wb_shl 1 (by omega), Nat.one_mul, wb_or (by omega) (Nat.pow_lt_pow_right (by decide) (by omega))]
                  refine rn_lstore dX3_lay_110 (Nat.le_of_ble_eq_true rfl) rfl ?_
                  refine rn_iinc (v := nI (i + 1)) dX3_lay_112 rfl (nI_1 i) (Nat.le_of_ble_eq_true rfl) rfl ?_
                  refine rn_goto (tgt := 20) dX3_lay_115 (by decide) ?_
                  have hcol := of_decide_eq_true (bI_n0.mp c98)
                  have hon := layk_on hm hb (by rw [lyOk, decide_eq_true hxx, decide_eq_true hyy, Bool.true_and, Bool.true_and]; rcases hcol with q | q <;> simp [q])
                  exact ih _ (by omega) (i + 1) _ _ _ _ rfl (by omega) hon
                · refine rn_lconst (v := 0) dX3_lay_101 (by decide) ?_
                  refine rn_lret dX3_lay_102 rfl ?_
                  have hcol := of_decide_eq_false (bI_0.mp c98)
                  have hnone := layk_off hm hb (by simp only [lyOk, decide_eq_false (fun q => hcol (Or.inl q)), decide_eq_false (fun q => hcol (Or.inr q)), Bool.or_false, Bool.and_false])
                  exact ⟨rfl, by rw [ly_none (by omega) hnone]; rfl⟩
  refine rn_aload_n dX3_lay_0 rfl ?_
  refine rn_iload_n dX3_lay_1 rfl ?_
  refine rn_callV dX3_lay_2 lmX3_70 ⟨Nat.le_of_ble_eq_true rfl, Nat.le_of_ble_eq_true rfl⟩ (ct_columnOf g f hP hV (by omega)) hP.1 rfl rfl (Nat.le_of_ble_eq_true rfl) ?_
  rintro _ _ ⟨rfl, rfl⟩
  refine rn_istore dX3_lay_5 (Nat.le_of_ble_eq_true rfl) rfl ?_
  refine rn_aload_n dX3_lay_7 rfl ?_
  refine rn_iload_n dX3_lay_8 rfl ?_
  refine rn_callV dX3_lay_9 lmX3_73 ⟨Nat.le_of_ble_eq_true rfl, Nat.le_of_ble_eq_true rfl⟩ (ct_rowOf g f hP hV (by omega)) hP.1 rfl rfl (Nat.le_of_ble_eq_true rfl) ?_
  rintro _ _ ⟨rfl, rfl⟩
  refine rn_istore dX3_lay_12 (Nat.le_of_ble_eq_true rfl) rfl ?_
  refine rn_lconst (v := 0) dX3_lay_14 (by decide) ?_
  refine rn_lstore dX3_lay_15 (Nat.le_of_ble_eq_true rfl) rfl ?_
  refine rn_iconst (v := nI 0) dX3_lay_17 (by decide) ?_
  refine rn_istore dX3_lay_18 (Nat.le_of_ble_eq_true rfl) rfl ?_
  exact loop 16 0 0 none none none rfl (by omega) rfl
