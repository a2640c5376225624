theorem ct_crowOf (g : GG) (f : Mm) {q : SQ} {n i s : Nat} {Z : Nat → Int32} (hO : CVo f q n) (hZ : AR f 69 3672 Z) (hR : RWz q n Z) (hW : WKv f q n) (hF : FnS q n) (hC : CXw f q) (hQ : QV q) (hi : i < n) (hs : s < 2) : Ct g MX0_rowOf [.ref 68, .int (nI i), .int (nI s)] f 0 0 (fun r f' => (∀ j, (j < 63 ∨ 69 < j) → f' j = f j) ∧ CVo f' q n ∧ WKv f' q n ∧ ∃ r0 Z', r = some (.int (nI r0)) ∧ r0 < 102 ∧ (r0 < 100 ∨ r0 = 100 + s) ∧ AR f' 69 3672 Z' ∧ (∀ j, (j < (100 + s) * 36 ∨ (100 + s) * 36 + 36 ≤ j) → Z' j = Z j) ∧ ∀ c, c < 36 → Z' (r0 * 36 + c) = plA q.2.1 (sqS q i).2.1 c) := by
  refine Ct.of ok_MX0_rowOf (Nat.le_of_ble_eq_true rfl) ?_
  change Wp g MX0_rowOf 0 [some (.ref 68), some (.int (nI i)), some (.int (nI s)), none] [] f 0 0 _
  have hi0 := hF.1 i hi
  have hi2 := sqS_lt hi0
  by_cases h100 : i < 100
  · refine rn_iload_n dX0_rowOf_0 rfl ?_
    refine rn_bipush (v := nI 100) dX0_rowOf_1 (by decide) ?_
    refine rn_icmp_ge (tgt := 8) dX0_rowOf_3 (by decide) (fun c3 => ?_) (fun c3 => ?_)
    · exact absurd (ge_ex c3 (by omega) (by decide)) (by omega)
    · refine rn_iload_n dX0_rowOf_6 rfl ?_
      refine rn_iret dX0_rowOf_7 rfl ?_
      exact ⟨fun _ _ => rfl, hO, hW, i, Z, rfl, by omega, Or.inl h100, hZ, fun _ _ => rfl, fun c hc => hR i hi h100 c hc⟩
  have loop : ∀ (d m t : Nat) (f1 : Mm), i + 1 - m = d → m ≤ i + 1 → t + d ≤ 20000 → (∀ j, (j < 63 ∨ 67 < j) → f1 j = f j) → WKs f1 q m → Wp g MX0_rowOf 40 [some (.ref 68), some (.int (nI i)), some (.int (nI s)), some (.int (nI t))] [] f1 0 0 (fun r f' => (∀ j, (j < 63 ∨ 69 < j) → f' j = f j) ∧ CVo f' q n ∧ WKv f' q n ∧ ∃ r0 Z', r = some (.int (nI r0)) ∧ r0 < 102 ∧ (r0 < 100 ∨ r0 = 100 + s) ∧ AR f' 69 3672 Z' ∧ (∀ j, (j < (100 + s) * 36 ∨ (100 + s) * 36 + 36 ≤ j) → Z' j = Z j) ∧ ∀ c, c < 36 → Z' (r0 * 36 + c) = plA q.2.1 (sqS q i).2.1 c) := by
    intro d
    induction d using Nat.strongRecOn with
    | ind d ih =>
      intro m t f1 hd hm ht hk1 hS
      obtain ⟨⟨_, _, _, _, _, _, _, w1⟩, har⟩ := hS.ent
      have o1 := (hk1 68 (by omega)).trans hO
      have hC1 : CXw f1 q := hC.keep (fun j h => hk1 j (by omega))
      refine rn_iload_n dX0_rowOf_40 rfl ?_
      refine rn_sipush (v := nI 20000) dX0_rowOf_41 (by decide) ?_
      refine rn_icmp_gt (tgt := 72) dX0_rowOf_44 (by decide) (fun c44 => absurd ((nI_ltI (a := 20000) (by decide) (by omega)).mp c44) (by omega)) (fun _ => ?_)
      by_cases hlt : m ≤ i
      · refine rn_aload_n dX0_rowOf_47 rfl ?_
        refine rn_get dX0_rowOf_48 lfX0_29 o1 rfl ?_
        refine rn_get dX0_rowOf_51 lfX0_70 w1 rfl ?_
        refine rn_iload_n dX0_rowOf_54 rfl ?_
        refine rn_icmp_gt (tgt := 72) dX0_rowOf_55 (by decide) (fun c55 => absurd ((nI_ltI (by omega) (by omega)).mp c55) (by omega)) (fun _ => ?_)
        refine rn_aload_n dX0_rowOf_58 rfl ?_
        refine rn_get dX0_rowOf_59 lfX0_29 o1 rfl ?_
        refine rn_callV dX0_rowOf_62 lmX0_46 ⟨Nat.le_of_ble_eq_true rfl, Nat.le_of_ble_eq_true rfl⟩ (ct_advance g f1 hC1 hQ hS) w1 rfl rfl (Nat.le_of_ble_eq_true rfl) ?_
        rintro _ f2 ⟨k2, ⟨h0, rfl, hW2⟩ | ⟨h0, rfl, hW2⟩⟩
        · refine rn_pop dX0_rowOf_65 rfl ?_
          refine rn_iinc (v := nI (t + 1)) dX0_rowOf_66 rfl (nI_1 t) (Nat.le_of_ble_eq_true rfl) rfl ?_
          refine rn_goto (tgt := 40) dX0_rowOf_69 (by decide) ?_
          exact ih _ (by omega) (m + 1) (t + 1) f2 rfl (by omega) (by omega) (fun j h => (k2 j h).trans (hk1 j h)) (Or.inr ⟨m, rfl, h0, hW2⟩)
        · exact absurd (hF.1 m (by omega)) h0
      · have hmi : m = i + 1 := by omega
        subst hmi
        refine rn_aload_n dX0_rowOf_47 rfl ?_
        refine rn_get dX0_rowOf_48 lfX0_29 o1 rfl ?_
        refine rn_get dX0_rowOf_51 lfX0_70 w1 rfl ?_
        refine rn_iload_n dX0_rowOf_54 rfl ?_
        refine rn_icmp_gt (tgt := 72) dX0_rowOf_55 (by decide) (fun _ => ?_) (fun c55 => absurd (nI_lt (show i < i + 1 by omega) (by omega)) c55)
        rcases id hS with ⟨e, -⟩ | ⟨m', e, h0, hW2⟩
        · omega
        have hm' : m' = i := by omega
        subst hm'
        have hie := (sqS_end q m').1
        refine rn_aload_n dX0_rowOf_72 rfl ?_
        refine rn_get dX0_rowOf_73 lfX0_29 o1 rfl ?_
        refine rn_aload_n dX0_rowOf_76 rfl ?_
        refine rn_get dX0_rowOf_77 lfX0_9 o1 rfl ?_
        refine rn_bipush (v := nI 100) dX0_rowOf_80 (by decide) ?_
        refine rn_iload_n dX0_rowOf_82 rfl ?_
        refine rn_iadd dX0_rowOf_83 ?_
        rw [nI_add]
        refine rn_bipush (v := nI 36) dX0_rowOf_84 (by decide) ?_
        refine rn_imul dX0_rowOf_86 ?_
        rw [pk_mul]
        refine rn_callV dX0_rowOf_87 lmX0_50 ⟨Nat.le_of_ble_eq_true rfl, Nat.le_of_ble_eq_true rfl⟩ (ct_writeTo g f1 (s0 := (100 + s) * 36) hW2.1 hC1 hQ hie.2 (hZ.keep (hk1 69 (by omega))) (by omega)) hW2.1.1 rfl rfl (Nat.le_of_ble_eq_true rfl) ?_
        rintro _ f2 ⟨rfl, k2, Z2, z2, r2⟩
        refine rn_bipush (v := nI 100) dX0_rowOf_90 (by decide) ?_
        refine rn_iload_n dX0_rowOf_92 rfl ?_
        refine rn_iadd dX0_rowOf_93 ?_
        rw [nI_add]
        refine rn_iret dX0_rowOf_94 rfl ?_
        exact ⟨fun j h => (k2 j (by omega)).trans (hk1 j (by omega)), (k2 68 (by decide)).trans o1, Or.inr ⟨m' + 1, hi, hS.keep (fun k a b => k2 k (by omega))⟩, 100 + s, Z2, rfl, by omega, Or.inr rfl, z2, r2.2, r2.1⟩
  have at38 : ∀ (f1 : Mm) (m : Nat), (∀ j, (j < 63 ∨ 67 < j) → f1 j = f j) → WKs f1 q m → m ≤ i + 1 → Wp g MX0_rowOf 38 [some (.ref 68), some (.int (nI i)), some (.int (nI s)), none] [] f1 0 0 (fun r f' => (∀ j, (j < 63 ∨ 69 < j) → f' j = f j) ∧ CVo f' q n ∧ WKv f' q n ∧ ∃ r0 Z', r = some (.int (nI r0)) ∧ r0 < 102 ∧ (r0 < 100 ∨ r0 = 100 + s) ∧ AR f' 69 3672 Z' ∧ (∀ j, (j < (100 + s) * 36 ∨ (100 + s) * 36 + 36 ≤ j) → Z' j = Z j) ∧ ∀ c, c < 36 → Z' (r0 * 36 + c) = plA q.2.1 (sqS q i).2.1 c) := fun f1 m hk1 hS hm => by
    refine rn_iconst (v := nI 0) dX0_rowOf_38 (by decide) ?_
    refine rn_istore_n dX0_rowOf_39 (Nat.le_of_ble_eq_true rfl) rfl ?_
    exact loop _ m 0 f1 rfl hm (by omega) hk1 hS
  have at31 : Wp g MX0_rowOf 31 [some (.ref 68), some (.int (nI i)), some (.int (nI s)), none] [] f 0 0 (fun r f' => (∀ j, (j < 63 ∨ 69 < j) → f' j = f j) ∧ CVo f' q n ∧ WKv f' q n ∧ ∃ r0 Z', r = some (.int (nI r0)) ∧ r0 < 102 ∧ (r0 < 100 ∨ r0 = 100 + s) ∧ AR f' 69 3672 Z' ∧ (∀ j, (j < (100 + s) * 36 ∨ (100 + s) * 36 + 36 ≤ j) → Z' j = Z j) ∧ ∀ c, c < 36 → Z' (r0 * 36 + c) = plA q.2.1 (sqS q i).2.1 c) := by
    obtain ⟨⟨_, _, _, _, _, _, _, _, _, _, hwo⟩, har⟩ := id hW.a
    refine rn_aload_n dX0_rowOf_31 rfl ?_
    refine rn_get dX0_rowOf_32 lfX0_29 hO rfl ?_
    refine rn_callV dX0_rowOf_35 lmX0_41 ⟨Nat.le_of_ble_eq_true rfl, Nat.le_of_ble_eq_true rfl⟩ (ct_begin g f (q := q) hW.a hC hQ) hwo rfl rfl (Nat.le_of_ble_eq_true rfl) ?_
    rintro _ f1 ⟨rfl, k1, hW1⟩
    exact at38 f1 0 k1 (Or.inl ⟨rfl, hW1⟩) (by omega)
  rcases id hW with ⟨tr, cn, uf, ho⟩ | ⟨m, hm, hS⟩
  · obtain ⟨⟨_, _, _, _, _, _, w1⟩, har⟩ := id ho
    refine rn_iload_n dX0_rowOf_0 rfl ?_
    refine rn_bipush (v := nI 100) dX0_rowOf_1 (by decide) ?_
    refine rn_icmp_ge (tgt := 8) dX0_rowOf_3 (by decide) (fun c3 => ?_) (fun c3 => ?_)
    · refine rn_aload_n dX0_rowOf_8 rfl ?_
      refine rn_get dX0_rowOf_9 lfX0_29 hO rfl ?_
      refine rn_get dX0_rowOf_12 lfX0_67 w1 rfl ?_
      refine rn_if_ne (tgt := 31) dX0_rowOf_15 (by decide) (fun c15 => ?_) (fun c15 => ?_)
      · exact at31
      · exact absurd c15 (by decide)
    · exact absurd (ge_in c3 (by omega)) h100
  · obtain ⟨⟨_, _, _, _, _, _, _, w1⟩, har⟩ := hS.ent
    have hm2 := fin_le hF.1
    refine rn_iload_n dX0_rowOf_0 rfl ?_
    refine rn_bipush (v := nI 100) dX0_rowOf_1 (by decide) ?_
    refine rn_icmp_ge (tgt := 8) dX0_rowOf_3 (by decide) (fun c3 => ?_) (fun c3 => ?_)
    · refine rn_aload_n dX0_rowOf_8 rfl ?_
      refine rn_get dX0_rowOf_9 lfX0_29 hO rfl ?_
      refine rn_get dX0_rowOf_12 lfX0_67 w1 rfl ?_
      refine rn_if_ne (tgt := 31) dX0_rowOf_15 (by decide) (fun c15 => ?_) (fun c15 => ?_)
      · exact absurd (show bI false = 0 from rfl) c15
      · refine rn_aload_n dX0_rowOf_18 rfl ?_
        refine rn_get dX0_rowOf_19 lfX0_29 hO rfl ?_
        refine rn_get dX0_rowOf_22 lfX0_70 w1 rfl ?_
        refine rn_iload_n dX0_rowOf_25 rfl ?_
        refine rn_iconst (v := nI 1) dX0_rowOf_26 (by decide) ?_
        refine rn_iadd dX0_rowOf_27 ?_
        rw [nI_add]
        refine rn_icmp_le (tgt := 38) dX0_rowOf_28 (by decide) (fun c28 => ?_) (fun c28 => ?_)
        · exact at38 f m (fun _ _ => rfl) hS ((nI_leI (by omega) (by omega)).mp c28)
        · exact at31
    · exact absurd (ge_in c3 (by omega)) h100
