-- a cover, cell by cell
def plA (l : List PE) : List Nat → Nat → Int32
  | [], _ => -1
  | k :: t, c => if (msk l k).testBit c = true then nI k else plA l t c
def RW (Z Z1 : Nat → Int32) (s0 : Nat) (u : Nat → Int32) : Prop := (∀ c, c < 36 → Z1 (s0 + c) = u c) ∧ ∀ j, (j < s0 ∨ s0 + 36 ≤ j) → Z1 j = Z j
theorem last_of {α : Type} : ∀ {d : Nat} {a : List α}, a.length = d + 1 → ∃ a' k, a = a' ++ [k] ∧ a'.length = d
  | 0, [x], _ => ⟨[], x, rfl, rfl⟩
  | d + 1, x :: y :: a, h => by
    obtain ⟨a', k, e1, e2⟩ := last_of (d := d) (a := y :: a) (by simpa using h)
    exact ⟨x :: a', k, by rw [e1]; rfl, by simp [e2]⟩
theorem rev_mid (a b : List Nat) (k : Nat) : (a ++ k :: b).reverse[b.length]? = some k := by
  rw [List.reverse_append, List.reverse_cons, List.append_assoc, List.getElem?_append_right (by rw [List.length_reverse]; exact Nat.le_refl _), List.length_reverse, Nat.sub_self]
  rfl
theorem ct_writeTo (g : GG) (f : Mm) {q : SQ} {st : List Nat} {tr cn s0 : Nat} {un ov uf : Bool} {Z : Nat → Int32} (hW : WKc f q st tr cn un ov uf) (hC : CXw f q) (hQ : QV q) (hi : IVs q st) (hZ : AR f 69 3672 Z) (hs0 : s0 + 36 ≤ 3672) : Ct g MX9_writeTo [.ref 63, .ref 69, .int (nI s0)] f 0 0 (fun r f' => r = none ∧ (∀ j, j ≠ 69 → f' j = f j) ∧ ∃ Z', AR f' 69 3672 Z' ∧ RW Z Z' s0 (plA q.2.1 st)) := by
  refine Ct.of ok_MX9_writeTo (Nat.le_of_ble_eq_true rfl) ?_
  change Wp g MX9_writeTo 0 [some (.ref 63), some (.ref 69), some (.int (nI s0)), none, none, none, none, none] [] f 0 0 _
  obtain ⟨hO, ⟨C, hCh, hCe⟩, -, -⟩ := id hW
  have hL := hC.2.1
  have hlen := (len_low hQ hi).2
  have hl := hQ.2.1.2.1
  have hmem := IVs_get hi
  have loopC : ∀ (d c : Nat) (f1 : Mm) (Z1 : Nat → Int32) (k s : Nat) (b : List Nat), 36 - c = d → c ≤ 36 → low (msk q.2.1 k) ≤ c → k < q.2.1.length → (∀ j, j ≠ 69 → f1 j = f j) → AR f1 69 3672 Z1 → RW Z Z1 s0 (fun c' => if c' < c ∧ (msk q.2.1 k).testBit c' = true then nI k else plA q.2.1 b c') → (∀ (f2 : Mm) (Z2 : Nat → Int32), (∀ j, j ≠ 69 → f2 j = f j) → AR f2 69 3672 Z2 → RW Z Z2 s0 (plA q.2.1 (k :: b)) → Wp g MX9_writeTo 93 [some (.ref 63), some (.ref 69), some (.int (nI s0)), some (.int (nI s)), some (.int (nI k)), some (.long (lN (msk q.2.1 k))), none, some (.int (nI 36))] [] f2 0 0 (fun r f' => r = none ∧ (∀ j, j ≠ 69 → f' j = f j) ∧ ∃ Z', AR f' 69 3672 Z' ∧ RW Z Z' s0 (plA q.2.1 st))) → Wp g MX9_writeTo 60 [some (.ref 63), some (.ref 69), some (.int (nI s0)), some (.int (nI s)), some (.int (nI k)), some (.long (lN (msk q.2.1 k))), none, some (.int (nI c))] [] f1 0 0 (fun r f' => r = none ∧ (∀ j, j ≠ 69 → f' j = f j) ∧ ∃ Z', AR f' 69 3672 Z' ∧ RW Z Z' s0 (plA q.2.1 st)) := by
    intro d
    induction d using Nat.strongRecOn with
    | ind d ih =>
      intro c f1 Z1 k s b hd hc hlo hk hk1 hZ1 hR kk
      have hmk := hQ.mk hk
      by_cases hlt : c < 36
      · refine rn_iload dX9_writeTo_60 rfl ?_
        refine rn_bipush (v := nI 36) dX9_writeTo_62 (by decide) ?_
        refine rn_icmp_ge (tgt := 93) dX9_writeTo_64 (by decide) (fun c64 => ?_) (fun c64 => ?_)
        · exact absurd (ge_ex c64 (by omega) (by decide)) (by omega)
        · refine rn_lload dX9_writeTo_67 rfl ?_
          refine rn_iload dX9_writeTo_69 rfl ?_
          refine rn_callS dX9_writeTo_71 lmX9_152 ⟨Nat.le_of_ble_eq_true rfl, Nat.le_of_ble_eq_true rfl⟩ (ct_holds g f1 (n := msk q.2.1 k) (k := c) (by omega) (by omega)) rfl rfl (Nat.le_of_ble_eq_true rfl) ?_
          rintro _ _ ⟨rfl, rfl⟩
          refine rn_if_eq (tgt := 87) dX9_writeTo_74 (by decide) (fun c74 => ?_) (fun c74 => ?_)
          · refine rn_iinc (v := nI (c + 1)) dX9_writeTo_87 rfl (nI_1 c) (Nat.le_of_ble_eq_true rfl) rfl ?_
            refine rn_goto (tgt := 60) dX9_writeTo_90 (by decide) ?_
            have hb := bI_0.mp c74
            refine ih _ (by omega) (c + 1) f1 Z1 k s b rfl (by omega) (by omega) hk hk1 hZ1 ⟨fun c' hc' => ?_, hR.2⟩ kk
            rw [hR.1 c' hc']
            by_cases e : c' = c
            · rw [e]; simp [hb]
            · by_cases e2 : c' < c
              · simp [e2, show c' < c + 1 by omega]
              · simp [e2, show ¬ c' < c + 1 by omega]
          · refine rn_aload_n dX9_writeTo_77 rfl ?_
            refine rn_iload_n dX9_writeTo_78 rfl ?_
            refine rn_iload dX9_writeTo_79 rfl ?_
            refine rn_iadd dX9_writeTo_81 ?_
            rw [nI_add]
            refine rn_iload dX9_writeTo_82 rfl ?_
            refine rn_callS dX9_writeTo_84 lmX9_72 ⟨Nat.le_of_ble_eq_true rfl, Nat.le_of_ble_eq_true rfl⟩ (ct_put g f1 (nI (s0 + c)) (nI k) (by decide) hZ1) rfl rfl (Nat.le_of_ble_eq_true rfl) ?_
            rintro _ f2 ⟨rfl, a2, k2⟩
            rw [ptf_nI (by omega) (by decide)] at a2
            refine rn_iinc (v := nI (c + 1)) dX9_writeTo_87 rfl (nI_1 c) (Nat.le_of_ble_eq_true rfl) rfl ?_
            refine rn_goto (tgt := 60) dX9_writeTo_90 (by decide) ?_
            have hb := bI_n0.mp c74
            refine ih _ (by omega) (c + 1) f2 _ k s b rfl (by omega) (by omega) hk (fun j h => (k2 j h).trans (hk1 j h)) a2 ⟨fun c' hc' => ?_, fun j hj => ?_⟩ kk
            · by_cases e : c' = c
              · rw [e, upd_eq]; exact (if_pos ⟨Nat.lt_succ_self c, hb⟩).symm
              · rw [upd_ne (by omega), hR.1 c' hc']
                by_cases e2 : c' < c
                · simp [e2, show c' < c + 1 by omega]
                · simp [e2, show ¬ c' < c + 1 by omega]
            · rw [upd_ne (by omega)]; exact hR.2 j hj
      · have hc36 : c = 36 := by omega
        subst hc36
        refine rn_iload dX9_writeTo_60 rfl ?_
        refine rn_bipush (v := nI 36) dX9_writeTo_62 (by decide) ?_
        refine rn_icmp_ge (tgt := 93) dX9_writeTo_64 (by decide) (fun c64 => ?_) (fun c64 => ?_)
        · refine kk f1 Z1 hk1 hZ1 ⟨fun c' hc' => ?_, hR.2⟩
          rw [hR.1 c' hc', plA]
          simp only [hc', true_and]
        · exact absurd (ge_in c64 (by decide)) (by decide)
  have loopB : ∀ (d : Nat) (a b : List Nat) (f1 : Mm) (Z1 : Nat → Int32) (w4 w5 w6 w7 : Option Value), a.length = d → st = a ++ b → (∀ j, j ≠ 69 → f1 j = f j) → AR f1 69 3672 Z1 → RW Z Z1 s0 (plA q.2.1 b) → Wp g MX9_writeTo 24 [some (.ref 63), some (.ref 69), some (.int (nI s0)), some (.int (nI b.length)), w4, w5, w6, w7] [] f1 0 0 (fun r f' => r = none ∧ (∀ j, j ≠ 69 → f' j = f j) ∧ ∃ Z', AR f' 69 3672 Z' ∧ RW Z Z' s0 (plA q.2.1 st)) := by
    intro d
    induction d with
    | zero =>
      intro a b f1 Z1 w4 w5 w6 w7 hd he hk1 hZ1 hR
      have ha : a = [] := List.eq_nil_of_length_eq_zero hd
      rw [ha, List.nil_append] at he
      subst he
      refine rn_iload_n dX9_writeTo_24 rfl ?_
      refine rn_aload_n dX9_writeTo_25 rfl ?_
      refine rn_get dX9_writeTo_26 lfX9_35 ((hk1 63 (by decide)).trans hO) rfl ?_
      refine rn_icmp_ge (tgt := 99) dX9_writeTo_29 (by decide) (fun c29 => ?_) (fun c29 => ?_)
      · refine rn_vret dX9_writeTo_99 rfl ?_
        exact ⟨rfl, hk1, Z1, hZ1, hR⟩
      · exact absurd (ge_in c29 (by omega)) (by omega)
    | succ d ih =>
      intro a b f1 Z1 w4 w5 w6 w7 hd he hk1 hZ1 hR
      obtain ⟨a', k, e1, e2⟩ := last_of hd
      rw [e1, List.append_assoc, List.singleton_append] at he
      have hb : b.length < st.length := by rw [he, List.length_append, List.length_cons]; omega
      have hk : k < q.2.1.length := hmem k (by rw [he]; simp)
      have hmk := hQ.mk hk
      have hCk : C b.length = nI k := hCe _ _ (by rw [he]; exact rev_mid a' b k)
      have hL1 : PLc f1 q.2.1 (opP q.1) := hL.keep (hk1 56 (by decide)) (hk1 57 (by decide)) (hk1 58 (by decide))
      have hlow := low_lt36 hmk.1 hmk.2
      refine rn_iload_n dX9_writeTo_24 rfl ?_
      refine rn_aload_n dX9_writeTo_25 rfl ?_
      refine rn_get dX9_writeTo_26 lfX9_35 ((hk1 63 (by decide)).trans hO) rfl ?_
      refine rn_icmp_ge (tgt := 99) dX9_writeTo_29 (by decide) (fun c29 => ?_) (fun c29 => ?_)
      · exact absurd (ge_ex c29 (by omega) (by omega)) (by omega)
      · refine rn_aload_n dX9_writeTo_32 rfl ?_
        refine rn_get dX9_writeTo_33 lfX9_9 ((hk1 63 (by decide)).trans hO) rfl ?_
        refine rn_iload_n dX9_writeTo_36 rfl ?_
        refine rn_callS dX9_writeTo_37 lmX9_115 ⟨Nat.le_of_ble_eq_true rfl, Nat.le_of_ble_eq_true rfl⟩ (ct_at g f1 (nI b.length) (by decide) (hCh.keep (hk1 64 (by decide)))) rfl rfl (Nat.le_of_ble_eq_true rfl) ?_
        rintro _ _ ⟨rfl, rfl⟩
        rw [atf_nI (by omega) (by decide), hCk]
        refine rn_istore dX9_writeTo_40 (Nat.le_of_ble_eq_true rfl) rfl ?_
        refine rn_aload_n dX9_writeTo_42 rfl ?_
        refine rn_get dX9_writeTo_43 lfX9_62 ((hk1 63 (by decide)).trans hO) rfl ?_
        refine rn_iload dX9_writeTo_46 rfl ?_
        refine rn_callV dX9_writeTo_48 lmX9_131 ⟨Nat.le_of_ble_eq_true rfl, Nat.le_of_ble_eq_true rfl⟩ (ct_maskOf g f1 hL1 hk hl) hL1.1 rfl rfl (Nat.le_of_ble_eq_true rfl) ?_
        rintro _ _ ⟨rfl, rfl⟩
        change Wp g MX9_writeTo _ _ [.long (lN (msk q.2.1 k))] _ _ _ _
        refine rn_lstore dX9_writeTo_51 (Nat.le_of_ble_eq_true rfl) rfl ?_
        refine rn_lload dX9_writeTo_53 rfl ?_
        refine rn_callS dX9_writeTo_55 lmX9_121 ⟨Nat.le_of_ble_eq_true rfl, Nat.le_of_ble_eq_true rfl⟩ (ct_smallestCell g f1 (n := msk q.2.1 k) (by omega)) rfl rfl (Nat.le_of_ble_eq_true rfl) ?_
        rintro _ _ ⟨rfl, rfl⟩
        refine rn_istore dX9_writeTo_58 (Nat.le_of_ble_eq_true rfl) rfl ?_
        refine loopC _ (low (msk q.2.1 k)) f1 Z1 k b.length b rfl (by omega) (Nat.le_refl _) hk hk1 hZ1 ⟨fun c' hc' => ?_, hR.2⟩ (fun f2 Z2 hk2 hZ2 hR2 => ?_)
        · rw [hR.1 c' hc']
          refine (if_neg ?_).symm
          rintro ⟨h1, h2⟩
          rw [(low_tb hmk.1 (show msk q.2.1 k < 2 ^ 64 by omega)).2 c' h1] at h2
          cases h2
        · refine rn_iinc (v := nI (b.length + 1)) dX9_writeTo_93 rfl (nI_1 _) (Nat.le_of_ble_eq_true rfl) rfl ?_
          refine rn_goto (tgt := 24) dX9_writeTo_96 (by decide) ?_
          exact ih a' (k :: b) f2 Z2 _ _ _ _ e2 he hk2 hZ2 hR2
  have loopA : ∀ (d c : Nat) (f1 : Mm) (Z1 : Nat → Int32), 36 - c = d → c ≤ 36 → (∀ j, j ≠ 69 → f1 j = f j) → AR f1 69 3672 Z1 → (∀ c', c' < c → Z1 (s0 + c') = -1) → (∀ j, (j < s0 ∨ s0 + 36 ≤ j) → Z1 j = Z j) → Wp g MX9_writeTo 2 [some (.ref 63), some (.ref 69), some (.int (nI s0)), some (.int (nI c)), none, none, none, none] [] f1 0 0 (fun r f' => r = none ∧ (∀ j, j ≠ 69 → f' j = f j) ∧ ∃ Z', AR f' 69 3672 Z' ∧ RW Z Z' s0 (plA q.2.1 st)) := by
    intro d
    induction d using Nat.strongRecOn with
    | ind d ih =>
      intro c f1 Z1 hd hc hk1 hZ1 h1 h2
      by_cases hlt : c < 36
      · refine rn_iload_n dX9_writeTo_2 rfl ?_
        refine rn_bipush (v := nI 36) dX9_writeTo_3 (by decide) ?_
        refine rn_icmp_ge (tgt := 22) dX9_writeTo_5 (by decide) (fun c5 => ?_) (fun c5 => ?_)
        · exact absurd (ge_ex c5 (by omega) (by decide)) (by omega)
        · refine rn_aload_n dX9_writeTo_8 rfl ?_
          refine rn_iload_n dX9_writeTo_9 rfl ?_
          refine rn_iload_n dX9_writeTo_10 rfl ?_
          refine rn_iadd dX9_writeTo_11 ?_
          rw [nI_add]
          refine rn_iconst (v := (-1)) dX9_writeTo_12 (by decide) ?_
          refine rn_callS dX9_writeTo_13 lmX9_72 ⟨Nat.le_of_ble_eq_true rfl, Nat.le_of_ble_eq_true rfl⟩ (ct_put g f1 (nI (s0 + c)) (-1) (by decide) hZ1) rfl rfl (Nat.le_of_ble_eq_true rfl) ?_
          rintro _ f2 ⟨rfl, a2, k2⟩
          rw [ptf_nI (by omega) (by decide)] at a2
          refine rn_iinc (v := nI (c + 1)) dX9_writeTo_16 rfl (nI_1 c) (Nat.le_of_ble_eq_true rfl) rfl ?_
          refine rn_goto (tgt := 2) dX9_writeTo_19 (by decide) ?_
          refine ih _ (by omega) (c + 1) f2 _ rfl (by omega) (fun j h => (k2 j h).trans (hk1 j h)) a2 (fun c' hc' => ?_) (fun j hj => ?_)
          · by_cases e : c' = c
            · rw [e, upd_eq]
            · rw [upd_ne (by omega)]; exact h1 c' (by omega)
          · rw [upd_ne (by omega)]; exact h2 j hj
      · have hc36 : c = 36 := by omega
        subst hc36
        refine rn_iload_n dX9_writeTo_2 rfl ?_
        refine rn_bipush (v := nI 36) dX9_writeTo_3 (by decide) ?_
        refine rn_icmp_ge (tgt := 22) dX9_writeTo_5 (by decide) (fun c5 => ?_) (fun c5 => ?_)
        · refine rn_iconst (v := nI 0) dX9_writeTo_22 (by decide) ?_
          refine rn_istore_n dX9_writeTo_23 (Nat.le_of_ble_eq_true rfl) rfl ?_
          exact loopB st.length st [] f1 Z1 _ _ _ _ rfl (List.append_nil st).symm hk1 hZ1 ⟨fun c' hc' => h1 c' hc', h2⟩
        · exact absurd (ge_in c5 (by decide)) (by decide)
  refine rn_iconst (v := nI 0) dX9_writeTo_0 (by decide) ?_
  refine rn_istore_n dX9_writeTo_1 (Nat.le_of_ble_eq_true rfl) rfl ?_
  exact loopA 36 0 f Z rfl (by omega) (fun _ _ => rfl) hZ (fun c' hc' => by omega) (fun _ _ => rfl)
