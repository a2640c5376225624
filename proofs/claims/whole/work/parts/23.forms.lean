-- rows of forms: strictly ascending, with a given set
def SS (a : Nat → Nat) (n : Nat) (T : Nat → Prop) : Prop := (∀ i j, i < j → j < n → a i < a j) ∧ (∀ x, (∃ i, i < n ∧ a i = x) ↔ T x) ∧ ∀ i, i < n → a i < 65536
theorem SS.same {a : Nat → Nat} {n s : Nat} {T : Nat → Prop} (h : SS a n T) (hs : T s) : SS a n (fun x => T x ∨ x = s) :=
  ⟨h.1, fun x => ⟨fun q => Or.inl ((h.2.1 x).mp q), fun q => q.elim (h.2.1 x).mpr (fun e => by rw [e]; exact (h.2.1 s).mpr hs)⟩, h.2.2⟩
/-- s put in at k -/
def inA (a : Nat → Nat) (k s : Nat) : Nat → Nat := fun i => if i < k then a i else if i = k then s else a (i - 1)
theorem SS.ins {a : Nat → Nat} {n k s : Nat} {T : Nat → Prop} (h : SS a n T) (hk : k ≤ n) (h1 : ∀ i, i < k → a i < s) (h2 : ∀ i, k ≤ i → i < n → s < a i) (hs : s < 65536) : SS (inA a k s) (n + 1) (fun x => T x ∨ x = s) := by
  refine ⟨fun i j hij hj => ?_, fun x => ⟨?_, ?_⟩, fun i hi => ?_⟩
  · unfold inA
    by_cases a1 : j < k
    · rw [if_pos (by omega), if_pos a1]; exact h.1 i j hij (by omega)
    · rw [if_neg a1]
      by_cases a2 : j = k
      · rw [if_pos a2, if_pos (by omega)]; exact h1 i (by omega)
      · rw [if_neg a2]
        by_cases b1 : i < k
        · rw [if_pos b1]; exact h.1 i (j - 1) (by omega) (by omega)
        · rw [if_neg b1]
          by_cases b2 : i = k
          · rw [if_pos b2]; exact h2 (j - 1) (by omega) (by omega)
          · rw [if_neg b2]; exact h.1 (i - 1) (j - 1) (by omega) (by omega)
  · rintro ⟨i, hi, e⟩
    unfold inA at e
    by_cases a1 : i < k
    · rw [if_pos a1] at e; exact Or.inl ((h.2.1 x).mp ⟨i, by omega, e⟩)
    · rw [if_neg a1] at e
      by_cases a2 : i = k
      · rw [if_pos a2] at e; exact Or.inr e.symm
      · rw [if_neg a2] at e; exact Or.inl ((h.2.1 x).mp ⟨i - 1, by omega, e⟩)
  · rintro (q | q)
    · obtain ⟨i, hi, e⟩ := (h.2.1 x).mpr q
      by_cases a1 : i < k
      · exact ⟨i, by omega, by unfold inA; rw [if_pos a1]; exact e⟩
      · exact ⟨i + 1, by omega, by unfold inA; rw [if_neg (by omega), if_neg (by omega)]; exact e⟩
    · exact ⟨k, by omega, by unfold inA; rw [if_neg (by omega), if_pos rfl]; exact q.symm⟩
  · unfold inA
    by_cases a1 : i < k
    · rw [if_pos a1]; exact h.2.2 i (by omega)
    · rw [if_neg a1]
      by_cases a2 : i = k
      · rw [if_pos a2]; exact hs
      · rw [if_neg a2]; exact h.2.2 (i - 1) (by omega)
-- the Forms: the object at 53, shapes at 54, sizes at 55
abbrev FE : Ent := .inr (1, [.ref 54, .ref 55])
theorem ct_fsizeOf (g : GG) (f : Mm) {Z : Nat → Int32} {p : Nat} (hO : f 53 = some FE) (hZ : AR f 55 8 Z) (hp : p < 8) : Ct g MX1_sizeOf [.ref 53, .int (nI p)] f 0 0 (fun r f' => f = f' ∧ r = some (.int (Z p))) := by
  refine Ct.of ok_MX1_sizeOf (Nat.le_of_ble_eq_true rfl) ?_
  change Wp g MX1_sizeOf 0 [some (.ref 53), some (.int (nI p))] [] f 0 0 _
  refine rn_aload_n dX1_sizeOf_0 rfl ?_
  refine rn_get dX1_sizeOf_1 lfX1_15 hO rfl ?_
  refine rn_iload_n dX1_sizeOf_4 rfl ?_
  refine rn_callS dX1_sizeOf_5 lmX1_57 ⟨Nat.le_of_ble_eq_true rfl, Nat.le_of_ble_eq_true rfl⟩ (ct_at g f (nI p) (by decide) hZ) rfl rfl (Nat.le_of_ble_eq_true rfl) ?_
  rintro _ _ ⟨rfl, rfl⟩
  refine rn_iret dX1_sizeOf_8 rfl ?_
  exact ⟨rfl, by rw [atf_nI hp (by decide)]⟩
theorem ct_fshapeOf (g : GG) (f : Mm) {A : Nat → Int32} {p i : Nat} (hO : f 53 = some FE) (hA : AR f 54 64 A) (hp : p < 8) (hi : i < 8) : Ct g MX1_shapeOf [.ref 53, .int (nI p), .int (nI i)] f 0 0 (fun r f' => f = f' ∧ r = some (.int (A (p * 8 + i)))) := by
  refine Ct.of ok_MX1_shapeOf (Nat.le_of_ble_eq_true rfl) ?_
  change Wp g MX1_shapeOf 0 [some (.ref 53), some (.int (nI p)), some (.int (nI i))] [] f 0 0 _
  refine rn_aload_n dX1_shapeOf_0 rfl ?_
  refine rn_get dX1_shapeOf_1 lfX1_9 hO rfl ?_
  refine rn_iload_n dX1_shapeOf_4 rfl ?_
  refine rn_bipush (v := nI 8) dX1_shapeOf_5 (by decide) ?_
  refine rn_imul dX1_shapeOf_7 ?_
  refine rn_iload_n dX1_shapeOf_8 rfl ?_
  refine rn_iadd dX1_shapeOf_9 ?_
  rw [pk_mul, nI_add]
  refine rn_callS dX1_shapeOf_10 lmX1_57 ⟨Nat.le_of_ble_eq_true rfl, Nat.le_of_ble_eq_true rfl⟩ (ct_at g f (nI (p * 8 + i)) (by decide) hA) rfl rfl (Nat.le_of_ble_eq_true rfl) ?_
  rintro _ _ ⟨rfl, rfl⟩
  refine rn_iret dX1_shapeOf_13 rfl ?_
  exact ⟨rfl, by rw [atf_nI (by omega) (by decide)]⟩
theorem ct_insert (g : GG) (f : Mm) {A Z : Nat → Int32} {a : Nat → Nat} {p s n : Nat} {T : Nat → Prop} (hO : f 53 = some FE) (hA : AR f 54 64 A) (hZ : AR f 55 8 Z) (hp : p < 8) (hs : s < 65536) (hn : n < 8) (hz : Z p = nI n) (ha : ∀ i, i < n → A (p * 8 + i) = nI (a i)) (hS : SS a n T) : Ct g MX1_insert [.ref 53, .int (nI p), .int (nI s)] f 0 0 (fun r f' => r = none ∧ (∀ k, k ≠ 54 → k ≠ 55 → f' k = f k) ∧ ∃ (A' : Nat → Int32) (a' : Nat → Nat) (n' : Nat), AR f' 54 64 A' ∧ AR f' 55 8 (upd Z p (nI n')) ∧ n' ≤ n + 1 ∧ (∀ i, i < n' → A' (p * 8 + i) = nI (a' i)) ∧ (∀ j, (j < p * 8 ∨ p * 8 + 8 ≤ j) → A' j = A j) ∧ SS a' n' (fun x => T x ∨ x = s)) := by
  refine Ct.of ok_MX1_insert (Nat.le_of_ble_eq_true rfl) ?_
  change Wp g MX1_insert 0 [some (.ref 53), some (.int (nI p)), some (.int (nI s)), none, none] [] f 0 0 _
  have loop2 : ∀ (k : Nat) (f1 : Mm) (B : Nat → Int32), k ≤ n → f1 53 = some FE → AR f1 54 64 B → AR f1 55 8 Z → (∀ q, q ≠ 54 → q ≠ 55 → f1 q = f q) → (∀ i, i < k → B (p * 8 + i) = nI (a i)) → (∀ i, k < i → i ≤ n → B (p * 8 + i) = nI (a (i - 1))) → (∀ j, (j < p * 8 ∨ p * 8 + 8 ≤ j) → B j = A j) → (∀ i, k ≤ i → i < n → s < a i) → (∀ i, i < n → a i ≠ s) → Wp g MX1_insert 43 [some (.ref 53), some (.int (nI p)), some (.int (nI s)), some (.int (nI n)), some (.int (nI k))] [] f1 0 0 (fun r f' => r = none ∧ (∀ k, k ≠ 54 → k ≠ 55 → f' k = f k) ∧ ∃ (A' : Nat → Int32) (a' : Nat → Nat) (n' : Nat), AR f' 54 64 A' ∧ AR f' 55 8 (upd Z p (nI n')) ∧ n' ≤ n + 1 ∧ (∀ i, i < n' → A' (p * 8 + i) = nI (a' i)) ∧ (∀ j, (j < p * 8 ∨ p * 8 + 8 ≤ j) → A' j = A j) ∧ SS a' n' (fun x => T x ∨ x = s)) := by
    intro k
    have fin : ∀ (k : Nat) (f1 : Mm) (B : Nat → Int32), k ≤ n → f1 53 = some FE → AR f1 54 64 B → AR f1 55 8 Z → (∀ q, q ≠ 54 → q ≠ 55 → f1 q = f q) → (∀ i, i < k → B (p * 8 + i) = nI (a i)) → (∀ i, k < i → i ≤ n → B (p * 8 + i) = nI (a (i - 1))) → (∀ j, (j < p * 8 ∨ p * 8 + 8 ≤ j) → B j = A j) → (∀ i, k ≤ i → i < n → s < a i) → (∀ i, i < k → a i < s) → Wp g MX1_insert 90 [some (.ref 53), some (.int (nI p)), some (.int (nI s)), some (.int (nI n)), some (.int (nI k))] [] f1 0 0 (fun r f' => r = none ∧ (∀ k, k ≠ 54 → k ≠ 55 → f' k = f k) ∧ ∃ (A' : Nat → Int32) (a' : Nat → Nat) (n' : Nat), AR f' 54 64 A' ∧ AR f' 55 8 (upd Z p (nI n')) ∧ n' ≤ n + 1 ∧ (∀ i, i < n' → A' (p * 8 + i) = nI (a' i)) ∧ (∀ j, (j < p * 8 ∨ p * 8 + 8 ≤ j) → A' j = A j) ∧ SS a' n' (fun x => T x ∨ x = s)) := by
      intro k f1 B hk o1 hB hZ1 hfr b1 b2 b3 b4 b5
      refine rn_aload_n dX1_insert_90 rfl ?_
      refine rn_get dX1_insert_91 lfX1_9 o1 rfl ?_
      refine rn_iload_n dX1_insert_94 rfl ?_
      refine rn_bipush (v := nI 8) dX1_insert_95 (by decide) ?_
      refine rn_imul dX1_insert_97 ?_
      refine rn_iload dX1_insert_98 rfl ?_
      refine rn_iadd dX1_insert_100 ?_
      rw [pk_mul, nI_add]
      refine rn_iload_n dX1_insert_101 rfl ?_
      refine rn_callS dX1_insert_102 lmX1_18 ⟨Nat.le_of_ble_eq_true rfl, Nat.le_of_ble_eq_true rfl⟩ (ct_put g f1 (nI (p * 8 + k)) (nI s) (by decide) hB) rfl rfl (Nat.le_of_ble_eq_true rfl) ?_
      rintro _ f2 ⟨rfl, a2, k2⟩
      rw [ptf_nI (by omega) (by decide)] at a2
      refine rn_aload_n dX1_insert_105 rfl ?_
      refine rn_get dX1_insert_106 lfX1_15 ((k2 53 (by decide)).trans o1) rfl ?_
      refine rn_iload_n dX1_insert_109 rfl ?_
      refine rn_iload_n dX1_insert_110 rfl ?_
      refine rn_iconst (v := nI 1) dX1_insert_111 (by decide) ?_
      refine rn_iadd dX1_insert_112 ?_
      rw [nI_add]
      refine rn_callS dX1_insert_113 lmX1_18 ⟨Nat.le_of_ble_eq_true rfl, Nat.le_of_ble_eq_true rfl⟩ (ct_put g f2 (nI p) (nI (n + 1)) (by decide) (hZ1.keep (k2 55 (by decide)))) rfl rfl (Nat.le_of_ble_eq_true rfl) ?_
      rintro _ f3 ⟨rfl, a3, k3⟩
      rw [ptf_nI hp (by decide)] at a3
      refine rn_vret dX1_insert_116 rfl ?_
      refine ⟨rfl, fun q x y => (k3 q y).trans ((k2 q x).trans (hfr q x y)), _, inA a k s, n + 1, a2.keep (k3 54 (by decide)), a3, Nat.le_refl _, fun i hi => ?_, fun j hj => ?_, hS.ins hk b5 b4 hs⟩
      · unfold inA upd
        by_cases e1 : i < k
        · rw [if_neg (by omega), if_pos e1]; exact b1 i e1
        · rw [if_neg e1]
          by_cases e2 : i = k
          · rw [if_pos (by omega), if_pos e2]
          · rw [if_neg (by omega), if_neg e2]; exact b2 i (by omega) (by omega)
      · unfold upd
        rw [if_neg (by omega)]; exact b3 j hj
    induction k with
    | zero =>
      intro f1 B hk o1 hB hZ1 hfr b1 b2 b3 b4 b5
      refine rn_iload dX1_insert_43 rfl ?_
      refine rn_if_le (tgt := 90) dX1_insert_45 (by decide) (fun c45 => ?_) (fun c45 => ?_)
      · exact fin 0 f1 B hk o1 hB hZ1 hfr b1 b2 b3 b4 (fun i hi => absurd hi (by omega))
      · exact absurd (show nI 0 ≤ 0 by decide) c45
    | succ k ih =>
      intro f1 B hk o1 hB hZ1 hfr b1 b2 b3 b4 b5
      have hak := hS.2.2 k (by omega)
      have hss : nI (k + 1) - nI 1 = nI k := pk_sub (a := k + 1) (b := 1) (by omega)
      refine rn_iload dX1_insert_43 rfl ?_
      refine rn_if_le (tgt := 90) dX1_insert_45 (by decide) (fun c45 => ?_) (fun c45 => ?_)
      · exact absurd c45 (nI_nle (by omega) (by omega))
      · refine rn_aload_n dX1_insert_48 rfl ?_
        refine rn_iload_n dX1_insert_49 rfl ?_
        refine rn_iload dX1_insert_50 rfl ?_
        refine rn_iconst (v := nI 1) dX1_insert_52 (by decide) ?_
        refine rn_isub dX1_insert_53 ?_
        rw [hss]
        refine rn_callV dX1_insert_54 lmX1_54 ⟨Nat.le_of_ble_eq_true rfl, Nat.le_of_ble_eq_true rfl⟩ (ct_fshapeOf g f1 o1 hB hp (by omega)) o1 rfl rfl (Nat.le_of_ble_eq_true rfl) ?_
        rintro _ _ ⟨rfl, rfl⟩
        rw [b1 k (by omega)]
        refine rn_iload_n dX1_insert_57 rfl ?_
        refine rn_icmp_le (tgt := 90) dX1_insert_58 (by decide) (fun c58 => ?_) (fun c58 => ?_)
        · have hle := ge_ex c58 (by omega) (by omega)
          refine fin (k + 1) f1 B hk o1 hB hZ1 hfr b1 b2 b3 b4 (fun i hi => ?_)
          have hne := b5 k (by omega)
          by_cases e : i = k
          · subst e; omega
          · have := hS.1 i k (by omega) (by omega)
            omega
        · refine rn_aload_n dX1_insert_61 rfl ?_
          refine rn_get dX1_insert_62 lfX1_9 o1 rfl ?_
          refine rn_iload_n dX1_insert_65 rfl ?_
          refine rn_bipush (v := nI 8) dX1_insert_66 (by decide) ?_
          refine rn_imul dX1_insert_68 ?_
          refine rn_iload dX1_insert_69 rfl ?_
          refine rn_iadd dX1_insert_71 ?_
          rw [pk_mul, nI_add]
          refine rn_aload_n dX1_insert_72 rfl ?_
          refine rn_iload_n dX1_insert_73 rfl ?_
          refine rn_iload dX1_insert_74 rfl ?_
          refine rn_iconst (v := nI 1) dX1_insert_76 (by decide) ?_
          refine rn_isub dX1_insert_77 ?_
          rw [hss]
          refine rn_callV dX1_insert_78 lmX1_54 ⟨Nat.le_of_ble_eq_true rfl, Nat.le_of_ble_eq_true rfl⟩ (ct_fshapeOf g f1 o1 hB hp (by omega)) o1 rfl rfl (Nat.le_of_ble_eq_true rfl) ?_
          rintro _ _ ⟨rfl, rfl⟩
          rw [b1 k (by omega)]
          refine rn_callS dX1_insert_81 lmX1_18 ⟨Nat.le_of_ble_eq_true rfl, Nat.le_of_ble_eq_true rfl⟩ (ct_put g f1 (nI (p * 8 + (k + 1))) (nI (a k)) (by decide) hB) rfl rfl (Nat.le_of_ble_eq_true rfl) ?_
          rintro _ f2 ⟨rfl, a2, k2⟩
          rw [ptf_nI (by omega) (by decide)] at a2
          refine rn_iinc (v := nI k) dX1_insert_84 rfl (pk_m1 k) (Nat.le_of_ble_eq_true rfl) rfl ?_
          refine rn_goto (tgt := 43) dX1_insert_87 (by decide) ?_
          have hgt : s < a k := Nat.lt_of_not_le fun q => c58 (nI_le q (by omega))
          refine ih f2 _ (by omega) ((k2 53 (by decide)).trans o1) a2 (hZ1.keep (k2 55 (by decide))) (fun q x y => (k2 q x).trans (hfr q x y)) (fun i hi => ?_) (fun i h1 h2 => ?_) (fun j hj => ?_) (fun i h1 h2 => ?_) b5
          · unfold upd; rw [if_neg (by omega)]; exact b1 i (by omega)
          · unfold upd
            by_cases e : i = k + 1
            · rw [if_pos (by omega), e]; rfl
            · rw [if_neg (by omega)]; exact b2 i (by omega) h2
          · unfold upd; rw [if_neg (by omega)]; exact b3 j hj
          · by_cases e : i = k
            · rw [e]; exact hgt
            · exact b4 i (by omega) h2
  have loop1 : ∀ (d i : Nat), n - i = d → i ≤ n → (∀ j, j < i → a j ≠ s) → Wp g MX1_insert 9 [some (.ref 53), some (.int (nI p)), some (.int (nI s)), some (.int (nI n)), some (.int (nI i))] [] f 0 0 (fun r f' => r = none ∧ (∀ k, k ≠ 54 → k ≠ 55 → f' k = f k) ∧ ∃ (A' : Nat → Int32) (a' : Nat → Nat) (n' : Nat), AR f' 54 64 A' ∧ AR f' 55 8 (upd Z p (nI n')) ∧ n' ≤ n + 1 ∧ (∀ i, i < n' → A' (p * 8 + i) = nI (a' i)) ∧ (∀ j, (j < p * 8 ∨ p * 8 + 8 ≤ j) → A' j = A j) ∧ SS a' n' (fun x => T x ∨ x = s)) := by
    intro d
    induction d using Nat.strongRecOn with
    | ind d ih =>
      intro i hd hi hne
      refine rn_iload dX1_insert_9 rfl ?_
      refine rn_iload_n dX1_insert_11 rfl ?_
      refine rn_icmp_ge (tgt := 33) dX1_insert_12 (by decide) (fun c12 => ?_) (fun c12 => ?_)
      · refine rn_iload_n dX1_insert_33 rfl ?_
        refine rn_bipush (v := nI 8) dX1_insert_34 (by decide) ?_
        refine rn_icmp_lt (tgt := 40) dX1_insert_36 (by decide) (fun c36 => ?_) (fun c36 => ?_)
        · refine rn_iload_n dX1_insert_40 rfl ?_
          refine rn_istore dX1_insert_41 (Nat.le_of_ble_eq_true rfl) rfl ?_
          have hi2 := ge_ex c12 (by omega) (by omega)
          exact loop2 n f A (Nat.le_refl n) hO hA hZ (fun _ _ _ => rfl) ha (fun i h1 h2 => absurd h1 (by omega)) (fun _ _ => rfl) (fun i h1 h2 => absurd h2 (by omega)) (fun j hj => hne j (by omega))
        · exact absurd (show nI n < nI 8 from nI_lt hn (by decide)) c36
      · have hi2 := ge_in c12 (by omega)
        refine rn_aload_n dX1_insert_15 rfl ?_
        refine rn_iload_n dX1_insert_16 rfl ?_
        refine rn_iload dX1_insert_17 rfl ?_
        refine rn_callV dX1_insert_19 lmX1_54 ⟨Nat.le_of_ble_eq_true rfl, Nat.le_of_ble_eq_true rfl⟩ (ct_fshapeOf g f hO hA hp (by omega)) hO rfl rfl (Nat.le_of_ble_eq_true rfl) ?_
        rintro _ _ ⟨rfl, rfl⟩
        rw [ha i hi2]
        refine rn_iload_n dX1_insert_22 rfl ?_
        refine rn_icmp_ne (tgt := 27) dX1_insert_23 (by decide) (fun c23 => ?_) (fun c23 => ?_)
        · refine rn_iinc (v := nI (i + 1)) dX1_insert_27 rfl (nI_1 i) (Nat.le_of_ble_eq_true rfl) rfl ?_
          refine rn_goto (tgt := 9) dX1_insert_30 (by decide) ?_
          have hai := hS.2.2 i hi2
          refine ih (n - (i + 1)) (by omega) (i + 1) rfl (by omega) (fun j hj => ?_)
          by_cases e : j = i
          · rw [e]; exact fun q => c23 (by rw [q])
          · exact hne j (by omega)
        · refine rn_vret dX1_insert_26 rfl ?_
          have hai := hS.2.2 i hi2
          have e := (nI_eq (by omega) (by omega)).mp c23
          exact ⟨rfl, fun _ _ _ => rfl, A, a, n, hA, hZ.to (fun j hj => by unfold upd; by_cases q : j = p <;> simp [q, hz]), by omega, ha, fun _ _ => rfl, hS.same ((hS.2.1 s).mp ⟨i, hi2, e⟩)⟩
  refine rn_aload_n dX1_insert_0 rfl ?_
  refine rn_iload_n dX1_insert_1 rfl ?_
  refine rn_callV dX1_insert_2 lmX1_51 ⟨Nat.le_of_ble_eq_true rfl, Nat.le_of_ble_eq_true rfl⟩ (ct_fsizeOf g f hO hZ hp) hO rfl rfl (Nat.le_of_ble_eq_true rfl) ?_
  rintro _ _ ⟨rfl, rfl⟩
  rw [hz]
  refine rn_istore_n dX1_insert_5 (Nat.le_of_ble_eq_true rfl) rfl ?_
  refine rn_iconst (v := nI 0) dX1_insert_6 (by decide) ?_
  refine rn_istore dX1_insert_7 (Nat.le_of_ble_eq_true rfl) rfl ?_
  exact loop1 n 0 rfl (by omega) (fun j hj => absurd hj (by omega))
