-- what the class keeps of a search
abbrev CVE (sz tc le : Nat) (fi : Bool) : Ent := .inr (0, [.ref 63, .ref 56, .ref 61, .ref 69, .int (nI sz), .int (nI tc), .int (nI le), .int (bI fi)])
abbrev CVR (a b c d : Int32) : Ent := .inr (0, [.ref 63, .ref 56, .ref 61, .ref 69, .int a, .int b, .int c, .int d])
def FnS (q : SQ) (n : Nat) : Prop := (∀ i, i < n → (sqS q i).1 = 0) ∧ ¬ (sqS q n).1 = 0
theorem FnS.uniq {q : SQ} {n m : Nat} (h : FnS q n) (h' : FnS q m) : n = m := by
  rcases Nat.lt_trichotomy n m with a | a | a
  · exact absurd (h'.1 n a) h.2
  · exact a
  · exact absurd (h.1 m a) h'.2
def mnS (q : SQ) : Nat → Nat
  | 0 => 0
  | n + 1 => if n = 0 ∨ (sqS q n).2.1.length < mnS q n then (sqS q n).2.1.length else mnS q n
theorem mnS_le {q : SQ} (hQ : QV q) : ∀ n, mnS q n ≤ 36
  | 0 => Nat.zero_le _
  | n + 1 => by
    rw [mnS]
    split
    · exact (len_low hQ (sqS_end q n).1.2).2
    · exact mnS_le hQ n
def CVo (f : Mm) (q : SQ) (n : Nat) : Prop := f 68 = some (CVE n (sqS q n).2.2.2 (mnS q n) (!decide ((sqS q n).1 = 2)))
def RWz (q : SQ) (n : Nat) (Z : Nat → Int32) : Prop := ∀ i, i < n → i < 100 → ∀ c, c < 36 → Z (i * 36 + c) = plA q.2.1 (sqS q i).2.1 c
def WKv (f : Mm) (q : SQ) (n : Nat) : Prop := (∃ tr cn uf, WKo f tr cn uf) ∨ ∃ m, m ≤ n ∧ WKs f q m
theorem WKs.ent {f : Mm} {q : SQ} {m : Nat} (h : WKs f q m) : (∃ tk L R lv cc tr un, f 63 = some (WKE tk L R lv cc tr m un false false)) ∧ WKar f := by
  rcases h with ⟨rfl, h⟩ | ⟨m', rfl, h0, h⟩
  · exact ⟨⟨_, _, _, _, _, _, _, h.1.1⟩, h.1.ar h.2⟩
  · exact ⟨⟨_, _, _, _, _, _, _, h.1.1⟩, h.1.ar h.2⟩
theorem WKs.a {f : Mm} {q : SQ} {m : Nat} (h : WKs f q m) : WKa f := by
  obtain ⟨⟨_, _, _, _, _, _, _, e⟩, h2⟩ := h.ent
  exact ⟨⟨_, _, _, _, _, _, _, _, _, _, e⟩, h2⟩
theorem WKo.a {f : Mm} {tr cn : Nat} {uf : Bool} (h : WKo f tr cn uf) : WKa f := by
  obtain ⟨⟨_, _, _, _, _, _, e⟩, h2⟩ := h
  exact ⟨⟨_, _, _, _, _, _, _, _, _, _, e⟩, h2⟩
theorem WKv.a {f : Mm} {q : SQ} {n : Nat} (h : WKv f q n) : WKa f := by
  rcases h with ⟨_, _, _, h⟩ | ⟨m, _, h⟩
  · exact h.a
  · exact h.a
theorem WK.keep {f f' : Mm} {q : SQ} {x : SX} {cn : Nat} {un ov uf : Bool} (h : WK f q x cn un ov uf) (e : ∀ k, 63 ≤ k → k ≤ 67 → f' k = f k) : WK f' q x cn un ov uf := by
  obtain ⟨h1, X, h2, h3⟩ := h
  exact ⟨h1.keep (fun k a b _ => e k a b), X, h2.keep (e 65 (by omega) (by omega)), h3⟩
theorem WKs.keep {f f' : Mm} {q : SQ} {m : Nat} (h : WKs f q m) (e : ∀ k, 63 ≤ k → k ≤ 67 → f' k = f k) : WKs f' q m := by
  rcases h with ⟨e1, h⟩ | ⟨m', e1, h0, h⟩
  · exact Or.inl ⟨e1, h.keep e⟩
  · exact Or.inr ⟨m', e1, h0, h.keep e⟩
theorem WKo.keep {f f' : Mm} {tr cn : Nat} {uf : Bool} (h : WKo f tr cn uf) (e : ∀ k, 63 ≤ k → k ≤ 67 → f' k = f k) : WKo f' tr cn uf := by
  obtain ⟨⟨a, b, c, d, x, y, h1⟩, h2⟩ := h
  exact ⟨⟨a, b, c, d, x, y, (e 63 (by omega) (by omega)).trans h1⟩, h2.keep (fun k a b => e k (by omega) b)⟩
theorem WKv.keep {f f' : Mm} {q : SQ} {n : Nat} (h : WKv f q n) (e : ∀ k, 63 ≤ k → k ≤ 67 → f' k = f k) : WKv f' q n := by
  rcases h with ⟨_, _, _, h⟩ | ⟨m, h1, h⟩
  · exact Or.inl ⟨_, _, _, h.keep e⟩
  · exact Or.inr ⟨m, h1, h.keep e⟩
theorem fin_le {q : SQ} {n : Nat} (h : ∀ i, i < n → (sqS q i).1 = 0) : n ≤ 20000 := by
  cases n with
  | zero => exact Nat.zero_le _
  | succ n => exact sqS_lt (h n (by omega))
theorem ct_collect (g : GG) (f : Mm) {q : SQ} {a b c d : Int32} {Z : Nat → Int32} (hO : f 68 = some (CVR a b c d)) (hZ : AR f 69 3672 Z) (hW : WKa f) (hC : CXw f q) (hQ : QV q) : Ct g MX0_collect [.ref 68] f 0 0 (fun r f' => r = none ∧ (∀ j, (j < 63 ∨ 69 < j) → f' j = f j) ∧ ∃ n, FnS q n ∧ CVo f' q n ∧ WKv f' q n ∧ ∃ Z', AR f' 69 3672 Z' ∧ RWz q n Z') := by
  refine Ct.of ok_MX0_collect (Nat.le_of_ble_eq_true rfl) ?_
  change Wp g MX0_collect 0 [some (.ref 68), none] [] f 0 0 _
  have loop : ∀ (e n : Nat) (f1 : Mm) (Z1 : Nat → Int32), meS q n = e → (∀ i, i < n → (sqS q i).1 = 0) → (∀ j, (j < 63 ∨ 69 < j) → f1 j = f j) → f1 68 = some (CVR (nI n) b (nI (mnS q n)) d) → WKs f1 q n → AR f1 69 3672 Z1 → RWz q n Z1 → Wp g MX0_collect 19 [some (.ref 68), some (.int (nI n))] [] f1 0 0 (fun r f' => r = none ∧ (∀ j, (j < 63 ∨ 69 < j) → f' j = f j) ∧ ∃ n, FnS q n ∧ CVo f' q n ∧ WKv f' q n ∧ ∃ Z', AR f' 69 3672 Z' ∧ RWz q n Z') := by
    intro e
    induction e using Nat.strongRecOn with
    | ind e ih =>
      intro n f1 Z1 he hn hk1 o1 hS hZ1 hR
      have hn2 := fin_le hn
      obtain ⟨⟨_, _, _, _, _, _, _, w1⟩, har⟩ := hS.ent
      have hC1 : CXw f1 q := hC.keep (fun j h => hk1 j (by omega))
      refine rn_iload_n dX0_collect_19 rfl ?_
      refine rn_sipush (v := nI 20000) dX0_collect_20 (by decide) ?_
      refine rn_icmp_gt (tgt := 114) dX0_collect_23 (by decide) (fun c23 => absurd ((nI_ltI (a := 20000) (by decide) (by omega)).mp c23) (by omega)) (fun _ => ?_)
      refine rn_aload_n dX0_collect_26 rfl ?_
      refine rn_get dX0_collect_27 lfX0_29 o1 rfl ?_
      refine rn_callV dX0_collect_30 lmX0_46 ⟨Nat.le_of_ble_eq_true rfl, Nat.le_of_ble_eq_true rfl⟩ (ct_advance g f1 hC1 hQ hS) w1 rfl rfl (Nat.le_of_ble_eq_true rfl) ?_
      rintro _ f2 ⟨k2, ⟨h0, rfl, hW2⟩ | ⟨h0, rfl, hW2⟩⟩
      · have o2 : f2 68 = some (CVR (nI n) b (nI (mnS q n)) d) := (k2 68 (by omega)).trans o1
        have hk2 : ∀ j, (j < 63 ∨ 69 < j) → f2 j = f j := fun j h => (k2 j (by omega)).trans (hk1 j h)
        have hZ2 : AR f2 69 3672 Z1 := hZ1.keep (k2 69 (by omega))
        have hie := sqS_end q n
        have hlv := (len_low hQ hie.1.2).2
        have hml := mnS_le hQ n
        have join : ∀ (f3 : Mm) (Z3 : Nat → Int32), (∀ j, (j < 63 ∨ 69 < j) → f3 j = f j) → f3 68 = some (CVR (nI n) b (nI (mnS q n)) d) → WK f3 q (sqS q n).2 (n + 1) false false false → AR f3 69 3672 Z3 → RWz q (n + 1) Z3 → Wp g MX0_collect 63 [some (.ref 68), some (.int (nI n))] [] f3 0 0 (fun r f' => r = none ∧ (∀ j, (j < 63 ∨ 69 < j) → f' j = f j) ∧ ∃ n, FnS q n ∧ CVo f' q n ∧ WKv f' q n ∧ ∃ Z', AR f' 69 3672 Z' ∧ RWz q n Z') := fun f3 Z3 k3 o3 w3 z3 r3 => by
          have at95 : ∀ v, v = nI (mnS q (n + 1)) → Wp g MX0_collect 95 [some (.ref 68), some (.int (nI n))] [.int v, .ref 68] f3 0 0 (fun r f' => r = none ∧ (∀ j, (j < 63 ∨ 69 < j) → f' j = f j) ∧ ∃ n, FnS q n ∧ CVo f' q n ∧ WKv f' q n ∧ ∃ Z', AR f' 69 3672 Z' ∧ RWz q n Z') := fun v hv => by
            subst hv
            refine rn_put dX0_collect_95 lpX0_22 o3 rfl rfl (Nat.le_of_ble_eq_true rfl) ?_
            refine Wp.gen (e := CVR (nI n) b (nI (mnS q (n + 1))) d) (fun f4 k4 o4 => ?_)
            refine rn_aload_n dX0_collect_98 rfl ?_
            refine rn_dup dX0_collect_99 rfl ?_
            refine rn_get dX0_collect_100 lfX0_15 o4 rfl ?_
            refine rn_iconst (v := nI 1) dX0_collect_103 (by decide) ?_
            refine rn_iadd dX0_collect_104 ?_
            rw [nI_add]
            refine rn_put dX0_collect_105 lpX0_15 o4 rfl rfl (Nat.le_of_ble_eq_true rfl) ?_
            refine Wp.gen (e := CVR (nI (n + 1)) b (nI (mnS q (n + 1))) d) (fun f5 k5 o5 => ?_)
            have k6 : ∀ j, j ≠ 68 → f5 j = f3 j := fun j h => (k5 j h).trans (k4 j h)
            refine rn_iinc (v := nI (n + 1)) dX0_collect_108 rfl (nI_1 n) (Nat.le_of_ble_eq_true rfl) rfl ?_
            refine rn_goto (tgt := 19) dX0_collect_111 (by decide) ?_
            refine ih (meS q (n + 1)) (by have := meS_lt h0; omega) (n + 1) f5 Z3 rfl (fun i hi => ?_) (fun j h => (k6 j (by omega)).trans (k3 j h)) o5 (Or.inr ⟨n, rfl, h0, w3.keep (fun k x y => k6 k (by omega))⟩) (z3.keep (k6 69 (by omega))) r3
            by_cases e : i = n
            · rw [e]; exact h0
            · exact hn i (by omega)
          refine rn_aload_n dX0_collect_63 rfl ?_
          refine rn_aload_n dX0_collect_64 rfl ?_
          refine rn_get dX0_collect_65 lfX0_15 o3 rfl ?_
          refine rn_if_ne (tgt := 81) dX0_collect_68 (by decide) (fun c68 => ?_) (fun c68 => ?_)
          · refine rn_aload_n dX0_collect_81 rfl ?_
            refine rn_get dX0_collect_82 lfX0_22 o3 rfl ?_
            refine rn_aload_n dX0_collect_85 rfl ?_
            refine rn_get dX0_collect_86 lfX0_29 o3 rfl ?_
            refine rn_get dX0_collect_89 lfX0_54 w3.1.1 rfl ?_
            refine rn_min dX0_collect_92 lmX0_57 ⟨Nat.le_of_ble_eq_true rfl, Nat.le_of_ble_eq_true rfl⟩ (Nat.le_of_ble_eq_true rfl) ?_
            have hn0 : ¬ n = 0 := fun h => c68 (by rw [h]; rfl)
            refine at95 _ ?_
            rw [mnS]
            by_cases hlt : (sqS q n).2.1.length < mnS q n
            · rw [if_pos (nI_lt hlt (by omega)), if_pos (Or.inr hlt)]
            · rw [if_neg (nI_nlt (by omega) (by omega)), if_neg (show ¬ (n = 0 ∨ (sqS q n).2.1.length < mnS q n) by omega)]
          · refine rn_aload_n dX0_collect_71 rfl ?_
            refine rn_get dX0_collect_72 lfX0_29 o3 rfl ?_
            refine rn_get dX0_collect_75 lfX0_54 w3.1.1 rfl ?_
            refine rn_goto (tgt := 95) dX0_collect_78 (by decide) ?_
            have hn0 : n = 0 := (az (by omega)).mp c68
            exact at95 _ (by rw [mnS, if_pos (Or.inl hn0)])
        have hwr : Wp g MX0_collect 36 [some (.ref 68), some (.int (nI n))] [] f2 0 0 (fun r f' => r = none ∧ (∀ j, (j < 63 ∨ 69 < j) → f' j = f j) ∧ ∃ n, FnS q n ∧ CVo f' q n ∧ WKv f' q n ∧ ∃ Z', AR f' 69 3672 Z' ∧ RWz q n Z') := by
          refine rn_aload_n dX0_collect_36 rfl ?_
          refine rn_get dX0_collect_37 lfX0_15 o2 rfl ?_
          refine rn_bipush (v := nI 100) dX0_collect_40 (by decide) ?_
          refine rn_icmp_ge (tgt := 63) dX0_collect_42 (by decide) (fun c42 => ?_) (fun c42 => ?_)
          · have hge := ge_ex c42 (by omega) (by decide)
            exact join f2 Z1 hk2 o2 hW2 hZ2 (fun i hi h100 c hc => hR i (by omega) h100 c hc)
          · refine rn_aload_n dX0_collect_45 rfl ?_
            refine rn_get dX0_collect_46 lfX0_29 o2 rfl ?_
            refine rn_aload_n dX0_collect_49 rfl ?_
            refine rn_get dX0_collect_50 lfX0_9 o2 rfl ?_
            refine rn_aload_n dX0_collect_53 rfl ?_
            refine rn_get dX0_collect_54 lfX0_15 o2 rfl ?_
            refine rn_bipush (v := nI 36) dX0_collect_57 (by decide) ?_
            refine rn_imul dX0_collect_59 ?_
            rw [pk_mul]
            refine rn_callV dX0_collect_60 lmX0_50 ⟨Nat.le_of_ble_eq_true rfl, Nat.le_of_ble_eq_true rfl⟩ (ct_writeTo g f2 (s0 := n * 36) hW2.1 (hC.keep (fun j h => hk2 j (by omega))) hQ hie.1.2 hZ2 (by have := ge_in c42 (by omega); omega)) hW2.1.1 rfl rfl (Nat.le_of_ble_eq_true rfl) ?_
            rintro _ f3 ⟨rfl, k3, Z3, z3, r3⟩
            refine join f3 Z3 (fun j h => (k3 j (by omega)).trans (hk2 j h)) ((k3 68 (by decide)).trans o2) (hW2.keep (fun k x y => k3 k (by omega))) z3 (fun i hi h100 c hc => ?_)
            by_cases e : i = n
            · rw [e]; exact r3.1 c hc
            · rw [r3.2 (i * 36 + c) (by omega)]; exact hR i (by omega) h100 c hc
        refine rn_if_eq (tgt := 114) dX0_collect_33 (by decide) (fun c33 => ?_) (fun c33 => ?_)
        · exact absurd c33 (by decide)
        · exact hwr
      · have o2 : f2 68 = some (CVR (nI n) b (nI (mnS q n)) d) := (k2 68 (by omega)).trans o1
        have hk2 : ∀ j, (j < 63 ∨ 69 < j) → f2 j = f j := fun j h => (k2 j (by omega)).trans (hk1 j h)
        obtain ⟨⟨_, _, _, _, _, _, w2⟩, -⟩ := id hW2
        have hfin : ∀ (f5 : Mm) (v : Int32), v = bI (!decide ((sqS q n).1 = 2)) → (∀ j, j ≠ 68 → f5 j = f2 j) → f5 68 = some (CVR (nI n) (nI (sqS q n).2.2.2) (nI (mnS q n)) v) → (none : Option Value) = none ∧ (∀ j, (j < 63 ∨ 69 < j) → f5 j = f j) ∧ ∃ n, FnS q n ∧ CVo f5 q n ∧ WKv f5 q n ∧ ∃ Z', AR f5 69 3672 Z' ∧ RWz q n Z' := fun f5 v hv k5 o5 => by
          subst hv
          exact ⟨rfl, fun j h => (k5 j (by omega)).trans (hk2 j h), n, ⟨hn, h0⟩, o5, Or.inl ⟨_, _, _, hW2.keep (fun k x y => k5 k (by omega))⟩, Z1, hZ1.keep ((k5 69 (by omega)).trans (k2 69 (by omega))), hR⟩
        refine rn_if_eq (tgt := 114) dX0_collect_33 (by decide) (fun c33 => ?_) (fun c33 => ?_)
        · refine rn_aload_n dX0_collect_114 rfl ?_
          refine rn_aload_n dX0_collect_115 rfl ?_
          refine rn_get dX0_collect_116 lfX0_29 o2 rfl ?_
          refine rn_get dX0_collect_119 lfX0_63 w2 rfl ?_
          refine rn_put dX0_collect_122 lpX0_19 o2 rfl rfl (Nat.le_of_ble_eq_true rfl) ?_
          refine Wp.gen (e := CVR (nI n) (nI (sqS q n).2.2.2) (nI (mnS q n)) d) (fun f3 k3 o3 => ?_)
          refine rn_aload_n dX0_collect_125 rfl ?_
          refine rn_aload_n dX0_collect_126 rfl ?_
          refine rn_get dX0_collect_127 lfX0_29 o3 rfl ?_
          refine rn_get dX0_collect_130 lfX0_64 ((k3 63 (by decide)).trans w2) rfl ?_
          refine rn_if_ne (tgt := 140) dX0_collect_133 (by decide) (fun c133 => ?_) (fun c133 => ?_)
          · refine rn_iconst (v := nI 0) dX0_collect_140 (by decide) ?_
            refine rn_put dX0_collect_141 lpX0_25 o3 rfl rfl (Nat.le_of_ble_eq_true rfl) ?_
            refine rn_vret dX0_collect_144 rfl ?_
            exact hfin _ _ (by rw [bI_n0.mp c133]; rfl) (fun j h => (up_ne h).trans (k3 j h)) (up_same _ _ _)
          · refine rn_iconst (v := nI 1) dX0_collect_136 (by decide) ?_
            refine rn_goto (tgt := 141) dX0_collect_137 (by decide) ?_
            refine rn_put dX0_collect_141 lpX0_25 o3 rfl rfl (Nat.le_of_ble_eq_true rfl) ?_
            refine rn_vret dX0_collect_144 rfl ?_
            exact hfin _ _ (by rw [bI_0.mp c133]; rfl) (fun j h => (up_ne h).trans (k3 j h)) (up_same _ _ _)
        · exact absurd (show (0 : Int32) = 0 from rfl) c33
  refine rn_aload_n dX0_collect_0 rfl ?_
  refine rn_iconst (v := nI 0) dX0_collect_1 (by decide) ?_
  refine rn_put dX0_collect_2 lpX0_15 hO rfl rfl (Nat.le_of_ble_eq_true rfl) ?_
  refine Wp.gen (e := CVR (nI 0) b c d) (fun f1 k1 o1 => ?_)
  refine rn_aload_n dX0_collect_5 rfl ?_
  refine rn_iconst (v := nI 0) dX0_collect_6 (by decide) ?_
  refine rn_put dX0_collect_7 lpX0_22 o1 rfl rfl (Nat.le_of_ble_eq_true rfl) ?_
  refine Wp.gen (e := CVR (nI 0) b (nI 0) d) (fun f2 k2 o2 => ?_)
  have k3 : ∀ j, j ≠ 68 → f2 j = f j := fun j h => (k2 j h).trans (k1 j h)
  obtain ⟨⟨a6, a7, a8, a9, a10, a11, a12, a13, a14, a15, hwo⟩, har⟩ := id hW
  refine rn_aload_n dX0_collect_10 rfl ?_
  refine rn_get dX0_collect_11 lfX0_29 o2 rfl ?_
  refine rn_callV dX0_collect_14 lmX0_41 ⟨Nat.le_of_ble_eq_true rfl, Nat.le_of_ble_eq_true rfl⟩ (ct_begin g f2 (q := q) ⟨⟨a6, a7, a8, a9, a10, a11, a12, a13, a14, a15, (k3 63 (by decide)).trans hwo⟩, har.keep (fun k x y => k3 k (by omega))⟩ (hC.keep (fun j h => k3 j (by omega))) hQ) ((k3 63 (by decide)).trans hwo) rfl rfl (Nat.le_of_ble_eq_true rfl) ?_
  rintro _ f4 ⟨rfl, k4, hW4⟩
  refine rn_iconst (v := nI 0) dX0_collect_17 (by decide) ?_
  refine rn_istore_n dX0_collect_18 (Nat.le_of_ble_eq_true rfl) rfl ?_
  exact loop _ 0 f4 Z rfl (fun i hi => by omega) (fun j h => (k4 j (by omega)).trans (k3 j (by omega))) ((k4 68 (by omega)).trans o2) (Or.inl ⟨rfl, hW4⟩) (hZ.keep ((k4 69 (by omega)).trans (k3 69 (by omega)))) (fun i hi => by omega)
