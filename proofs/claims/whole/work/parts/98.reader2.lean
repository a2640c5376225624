-- rows: the places that are read, r whole rows of w and c of the next
def pdn (r w c i j : Nat) : Prop := (i < r ∧ j < w) ∨ (i = r ∧ j < c)
/-- a shape's bits -/
def shB (T : List Nat) (p0 w : Nat) (Dn : Nat → Nat → Prop) (s : Nat) : Prop := ∀ k, s.testBit k = true ↔ k < 16 ∧ Dn (k / 4) (k % 4) ∧ chI T (p0 + (k / 4) * (w + 1) + k % 4) = nI 111
theorem shB_uniq {T : List Nat} {p0 w s s' : Nat} {Dn : Nat → Nat → Prop} (h : shB T p0 w Dn s) (h' : shB T p0 w Dn s') : s = s' := Nat.eq_of_testBit_eq fun k => by
  rw [Bool.eq_iff_iff, h k, h' k]
theorem shB_ext {T : List Nat} {p0 w s : Nat} {Dn Dn' : Nat → Nat → Prop} (h : shB T p0 w Dn s) (e : ∀ i j, i < 4 → j < 4 → (Dn i j ↔ Dn' i j)) : shB T p0 w Dn' s := fun k => by
  rw [h k]
  constructor
  · rintro ⟨a, b, c⟩; exact ⟨a, (e _ _ (by omega) (by omega)).mp b, c⟩
  · rintro ⟨a, b, c⟩; exact ⟨a, (e _ _ (by omega) (by omega)).mpr b, c⟩
/-- what one row does: width W is the width of the whole, c places stand -/
theorem shB_add {T : List Nat} {p0 w s r c p : Nat} {Dn : Nat → Nat → Prop} (h : shB T p0 w Dn s) (hr : r < 4) (hc : c < 4) (hp : p = p0 + r * (w + 1) + c) (hn : ¬ Dn r c) : shB T p0 w (fun i j => Dn i j ∨ (i = r ∧ j = c)) (if chI T p = nI 111 then s ||| 2 ^ (r * 4 + c) else s) := fun k => by
  have hk : k / 4 = r ∧ k % 4 = c ↔ k = r * 4 + c := by omega
  by_cases h1 : chI T p = nI 111
  · rw [if_pos h1, Nat.testBit_or, Bool.or_eq_true, Nat.testBit_two_pow, decide_eq_true_eq, h k]
    constructor
    · rintro (⟨a, b, d⟩ | e)
      · exact ⟨a, Or.inl b, d⟩
      · have := hk.mpr e.symm
        rw [this.1, this.2, ← hp]
        exact ⟨by omega, Or.inr ⟨rfl, rfl⟩, h1⟩
    · rintro ⟨a, b | b, d⟩
      · exact Or.inl ⟨a, b, d⟩
      · exact Or.inr (hk.mp b).symm
  · rw [if_neg h1, h k]
    constructor
    · rintro ⟨a, b, d⟩; exact ⟨a, Or.inl b, d⟩
    · rintro ⟨a, b | b, d⟩
      · exact ⟨a, b, d⟩
      · rw [b.1, b.2, ← hp] at d
        exact absurd d h1
theorem ct_readRowB (g : GG) (f : Mm) {T : List Nat} {D : PS} {p c r s ro : Nat} (hO : f 45 = some (RDE T.length p c r s)) (hT : RDt f T) (hD : PB f 47 D) (hc : c ≤ 6) (hp : p ≤ 200) (hro : ro * c + c ≤ 36) : Ct g MX5_readRow [.ref 45, .int (nI ro), .int (nI 1)] f 0 0 (fun r' f' => (∀ j, (j < 45 ∨ j = 46 ∨ 52 < j) → f' j = f j) ∧ r' = some (.int (nI (rl T true c p))) ∧ f' 45 = some (RDE T.length (p + rl T true c p) c r s) ∧ ∃ D', PB f' 47 D' ∧ pN D' = pN D ∧ (∀ j, j < rl T true c p → pC D' (ro * c + j) = cvl (chI T (p + j))) ∧ ∀ k, k < ro * c → pC D' k = pC D k) := by
  refine Ct.of ok_MX5_readRow (Nat.le_of_ble_eq_true rfl) ?_
  change Wp g MX5_readRow 0 [some (.ref 45), some (.int (nI ro)), some (.int (nI 1)), none] [] f 0 0 _
  have loop : ∀ (d n : Nat) (f1 : Mm) (D1 : PS), c - n = d → n ≤ c → (∀ j, (j < 45 ∨ j = 46 ∨ 52 < j) → f1 j = f j) → f1 45 = some (RDE T.length (p + n) c r s) → PB f1 47 D1 → pN D1 = pN D → (∀ i, i < n → rowOk true (chI T (p + i)) = true) → (∀ j, j < n → pC D1 (ro * c + j) = cvl (chI T (p + j))) → (∀ k, k < ro * c → pC D1 k = pC D k) → Wp g MX5_readRow 2 [some (.ref 45), some (.int (nI ro)), some (.int (nI 1)), some (.int (nI n))] [] f1 0 0 (fun r' f' => (∀ j, (j < 45 ∨ j = 46 ∨ 52 < j) → f' j = f j) ∧ r' = some (.int (nI (rl T true c p))) ∧ f' 45 = some (RDE T.length (p + rl T true c p) c r s) ∧ ∃ D', PB f' 47 D' ∧ pN D' = pN D ∧ (∀ j, j < rl T true c p → pC D' (ro * c + j) = cvl (chI T (p + j))) ∧ ∀ k, k < ro * c → pC D' k = pC D k) := by
    intro d
    induction d using Nat.strongRecOn with
    | ind d ih =>
      intro n f1 D1 hd hn k1 o1 hD1 hN hall hcel hold
      have stop : (n = c ∨ rowOk true (chI T (p + n)) = false) → Wp g MX5_readRow 51 [some (.ref 45), some (.int (nI ro)), some (.int (nI 1)), some (.int (nI n))] [] f1 0 0 (fun r' f' => (∀ j, (j < 45 ∨ j = 46 ∨ 52 < j) → f' j = f j) ∧ r' = some (.int (nI (rl T true c p))) ∧ f' 45 = some (RDE T.length (p + rl T true c p) c r s) ∧ ∃ D', PB f' 47 D' ∧ pN D' = pN D ∧ (∀ j, j < rl T true c p → pC D' (ro * c + j) = cvl (chI T (p + j))) ∧ ∀ k, k < ro * c → pC D' k = pC D k) := fun h => by
        rw [rl_eq hn hall h]
        refine rn_iload_n dX5_readRow_51 rfl ?_
        refine rn_iret dX5_readRow_52 rfl ?_
        exact ⟨k1, rfl, o1, D1, hD1, hN, hcel, hold⟩
      by_cases hlt : n < c
      · have h17 : ∀ (f2 : Mm) (D2 : PS), (∀ j, (j < 45 ∨ j = 46 ∨ 52 < j) → f2 j = f j) → f2 45 = some (RDE T.length (p + n) c r s) → PB f2 47 D2 → pN D2 = pN D → rowOk true (chI T (p + n)) = true → (∀ j, j < n + 1 → pC D2 (ro * c + j) = cvl (chI T (p + j))) → (∀ k, k < ro * c → pC D2 k = pC D k) → Wp g MX5_readRow 35 [some (.ref 45), some (.int (nI ro)), some (.int (nI 1)), some (.int (nI n))] [] f2 0 0 (fun r' f' => (∀ j, (j < 45 ∨ j = 46 ∨ 52 < j) → f' j = f j) ∧ r' = some (.int (nI (rl T true c p))) ∧ f' 45 = some (RDE T.length (p + rl T true c p) c r s) ∧ ∃ D', PB f' 47 D' ∧ pN D' = pN D ∧ (∀ j, j < rl T true c p → pC D' (ro * c + j) = cvl (chI T (p + j))) ∧ ∀ k, k < ro * c → pC D' k = pC D k) := fun f2 D2 k2 o2 hD2 hN2 hok hc2 hold2 => by
          refine rn_aload_n dX5_readRow_35 rfl ?_
          refine rn_dup dX5_readRow_36 rfl ?_
          refine rn_get dX5_readRow_37 lfX5_26 o2 rfl ?_
          refine rn_iconst (v := nI 1) dX5_readRow_40 (by decide) ?_
          refine rn_iadd dX5_readRow_41 ?_
          rw [nI_add]
          refine rn_put dX5_readRow_42 lpX5_26 o2 rfl rfl (Nat.le_of_ble_eq_true rfl) ?_
          refine Wp.gen (e := RDE T.length (p + n + 1) c r s) (fun f3 k3 o3 => ?_)
          refine rn_iinc (v := nI (n + 1)) dX5_readRow_45 rfl (nI_1 n) (Nat.le_of_ble_eq_true rfl) rfl ?_
          refine rn_goto (tgt := 2) dX5_readRow_48 (by decide) ?_
          refine ih _ (by omega) (n + 1) f3 D2 rfl (by omega) (fun j hj => (k3 j (by omega)).trans (k2 j hj)) o3 (hD2.keep (fun k a b => k3 k (by omega))) hN2 (fun i hi => ?_) hc2 hold2
          by_cases e : i = n
          · rw [e]; exact hok
          · exact hall i (by omega)
        refine rn_iload_n dX5_readRow_2 rfl ?_
        refine rn_aload_n dX5_readRow_3 rfl ?_
        refine rn_get dX5_readRow_4 lfX5_29 o1 rfl ?_
        refine rn_icmp_ge (tgt := 51) dX5_readRow_7 (by decide) (fun c7 => absurd (ge_ex c7 (by omega) (by omega)) (by omega)) (fun _ => ?_)
        refine rn_iload_n dX5_readRow_10 rfl ?_
        refine rn_if_eq (tgt := 26) dX5_readRow_11 (by decide) (fun h => absurd h (by decide)) (fun _ => ?_)
        refine rn_aload_n dX5_readRow_14 rfl ?_
        refine rn_iload_n dX5_readRow_15 rfl ?_
        refine rn_iload_n dX5_readRow_16 rfl ?_
        refine rn_callV dX5_readRow_17 lmX5_76 ⟨Nat.le_of_ble_eq_true rfl, Nat.le_of_ble_eq_true rfl⟩ (ct_readCell g f1 o1 (hT.keep (k1 46 (by omega))) hD1 (show p + n < 1000 by omega) hc (show ro * c + n < 36 by omega)) o1 rfl rfl (Nat.le_of_ble_eq_true rfl) ?_
        rintro _ f2 ⟨k2, ⟨hok, rfl, hD2⟩ | ⟨hno, rfl, rfl⟩⟩
        · refine rn_if_eq (tgt := 51) dX5_readRow_20 (by decide) (fun c20 => ?_) (fun c20 => ?_)
          · exact absurd c20 (by decide)
          · refine rn_goto (tgt := 35) dX5_readRow_23 (by decide) ?_
            refine h17 f2 _ (fun j hj => (k2 j (by omega)).trans (k1 j hj)) ((k2 45 (by omega)).trans o1) hD2 hN hok (fun j hj => ?_) (fun k hk => ?_)
            · show upd (pC D1) (ro * c + n) (cvl (chI T (p + n))) (ro * c + j) = cvl (chI T (p + j))
              by_cases e : j = n
              · rw [e, upd_eq]
              · rw [upd_ne (by omega)]; exact hcel j (by omega)
            · show upd (pC D1) (ro * c + n) (cvl (chI T (p + n))) k = pC D k
              rw [upd_ne (by omega)]; exact hold k hk
        · refine rn_if_eq (tgt := 51) dX5_readRow_20 (by decide) (fun c20 => ?_) (fun c20 => ?_)
          · exact stop (Or.inr hno)
          · exact absurd (show (0 : Int32) = 0 from rfl) c20
      · refine rn_iload_n dX5_readRow_2 rfl ?_
        refine rn_aload_n dX5_readRow_3 rfl ?_
        refine rn_get dX5_readRow_4 lfX5_29 o1 rfl ?_
        refine rn_icmp_ge (tgt := 51) dX5_readRow_7 (by decide) (fun _ => stop (Or.inl (by omega))) (fun c7 => absurd (ge_in c7 (by omega)) hlt)
  refine rn_iconst (v := nI 0) dX5_readRow_0 (by decide) ?_
  refine rn_istore_n dX5_readRow_1 (Nat.le_of_ble_eq_true rfl) rfl ?_
  exact loop _ 0 f D rfl (Nat.zero_le _) (fun _ _ => rfl) hO hD rfl (fun i hi => by omega) (fun j hj => by omega) (fun _ _ => rfl)
theorem ct_readRowS (g : GG) (f : Mm) {T : List Nat} {p c r s ro p0 w : Nat} (hO : f 45 = some (RDE T.length p c r s)) (hT : RDt f T) (hc : c ≤ 4) (hp : p ≤ 200) (hr : ro < 4) (hs : s < 65536) (hw : ro = 0 ∨ w = c) (hpe : p = p0 + ro * (w + 1)) (hS : shB T p0 w (fun i j => i < ro ∧ j < w) s) : Ct g MX5_readRow [.ref 45, .int (nI ro), .int (nI 0)] f 0 0 (fun r' f' => (∀ j, j ≠ 45 → f' j = f j) ∧ r' = some (.int (nI (rl T false c p))) ∧ ∃ s', s' < 65536 ∧ f' 45 = some (RDE T.length (p + rl T false c p) c r s') ∧ shB T p0 w (pdn ro w (rl T false c p)) s') := by
  refine Ct.of ok_MX5_readRow (Nat.le_of_ble_eq_true rfl) ?_
  change Wp g MX5_readRow 0 [some (.ref 45), some (.int (nI ro)), some (.int (nI 0)), none] [] f 0 0 _
  have loop : ∀ (d n s1 : Nat) (f1 : Mm), c - n = d → n ≤ c → s1 < 65536 → (∀ j, j ≠ 45 → f1 j = f j) → f1 45 = some (RDE T.length (p + n) c r s1) → (∀ i, i < n → rowOk false (chI T (p + i)) = true) → shB T p0 w (pdn ro w n) s1 → Wp g MX5_readRow 2 [some (.ref 45), some (.int (nI ro)), some (.int (nI 0)), some (.int (nI n))] [] f1 0 0 (fun r' f' => (∀ j, j ≠ 45 → f' j = f j) ∧ r' = some (.int (nI (rl T false c p))) ∧ ∃ s', s' < 65536 ∧ f' 45 = some (RDE T.length (p + rl T false c p) c r s') ∧ shB T p0 w (pdn ro w (rl T false c p)) s') := by
    intro d
    induction d using Nat.strongRecOn with
    | ind d ih =>
      intro n s1 f1 hd hn hs1 k1 o1 hall hS1
      by_cases hlt : n < c
      · have add := shB_add (p := p + n) hS1 hr (show n < 4 by omega) (by omega) (by unfold pdn; omega)
        refine rn_iload_n dX5_readRow_2 rfl ?_
        refine rn_aload_n dX5_readRow_3 rfl ?_
        refine rn_get dX5_readRow_4 lfX5_29 o1 rfl ?_
        refine rn_icmp_ge (tgt := 51) dX5_readRow_7 (by decide) (fun c7 => absurd (ge_ex c7 (by omega) (by omega)) (by omega)) (fun _ => ?_)
        refine rn_iload_n dX5_readRow_10 rfl ?_
        refine rn_if_eq (tgt := 26) dX5_readRow_11 (by decide) (fun _ => ?_) (fun h => absurd (show nI 0 = 0 from rfl) h)
        refine rn_aload_n dX5_readRow_26 rfl ?_
        refine rn_iload_n dX5_readRow_27 rfl ?_
        refine rn_iload_n dX5_readRow_28 rfl ?_
        refine rn_callV dX5_readRow_29 lmX5_80 ⟨Nat.le_of_ble_eq_true rfl, Nat.le_of_ble_eq_true rfl⟩ (ct_readSquare g f1 o1 (hT.keep (k1 46 (by omega))) (show p + n < 1000 by omega) hs1 hr (show n < 4 by omega)) o1 rfl rfl (Nat.le_of_ble_eq_true rfl) ?_
        rintro _ f2 ⟨k2, rfl, s2, hs2, o2, hse⟩
        rw [← hse] at add
        cases hok : okO (chI T (p + n)) with
        | true =>
          refine rn_if_eq (tgt := 51) dX5_readRow_32 (by decide) (fun c32 => ?_) (fun c32 => ?_)
          · exact absurd c32 (by decide)
          · refine rn_aload_n dX5_readRow_35 rfl ?_
            refine rn_dup dX5_readRow_36 rfl ?_
            refine rn_get dX5_readRow_37 lfX5_26 o2 rfl ?_
            refine rn_iconst (v := nI 1) dX5_readRow_40 (by decide) ?_
            refine rn_iadd dX5_readRow_41 ?_
            rw [nI_add]
            refine rn_put dX5_readRow_42 lpX5_26 o2 rfl rfl (Nat.le_of_ble_eq_true rfl) ?_
            refine Wp.gen (e := RDE T.length (p + n + 1) c r s2) (fun f3 k3 o3 => ?_)
            refine rn_iinc (v := nI (n + 1)) dX5_readRow_45 rfl (nI_1 n) (Nat.le_of_ble_eq_true rfl) rfl ?_
            refine rn_goto (tgt := 2) dX5_readRow_48 (by decide) ?_
            refine ih _ (by omega) (n + 1) s2 f3 rfl (by omega) hs2 (fun j hj => (k3 j hj).trans ((k2 j hj).trans (k1 j hj))) o3 (fun i hi => ?_) (shB_ext add (fun i j _ _ => by unfold pdn; omega))
            by_cases e : i = n
            · rw [e]; exact hok
            · exact hall i (by omega)
        | false =>
          have hne : ¬ chI T (p + n) = nI 111 := fun h => by rw [okO, decide_eq_true h] at hok; cases hok
          rw [if_neg hne] at hse
          rw [hse] at o2
          rw [rl_eq hn hall (Or.inr (show rowOk false (chI T (p + n)) = false from hok))]
          refine rn_if_eq (tgt := 51) dX5_readRow_32 (by decide) (fun c32 => ?_) (fun c32 => ?_)
          · refine rn_iload_n dX5_readRow_51 rfl ?_
            refine rn_iret dX5_readRow_52 rfl ?_
            exact ⟨fun j hj => (k2 j hj).trans (k1 j hj), rfl, s1, hs1, o2, hS1⟩
          · exact absurd (show bI false = 0 from rfl) c32
      · rw [rl_eq hn hall (Or.inl (by omega))]
        refine rn_iload_n dX5_readRow_2 rfl ?_
        refine rn_aload_n dX5_readRow_3 rfl ?_
        refine rn_get dX5_readRow_4 lfX5_29 o1 rfl ?_
        refine rn_icmp_ge (tgt := 51) dX5_readRow_7 (by decide) (fun c7 => ?_) (fun c7 => ?_)
        · refine rn_iload_n dX5_readRow_51 rfl ?_
          refine rn_iret dX5_readRow_52 rfl ?_
          exact ⟨k1, rfl, s1, hs1, o1, hS1⟩
        · exact absurd (ge_in c7 (by omega)) hlt
  refine rn_iconst (v := nI 0) dX5_readRow_0 (by decide) ?_
  refine rn_istore_n dX5_readRow_1 (Nat.le_of_ble_eq_true rfl) rfl ?_
  exact loop _ 0 s f rfl (Nat.zero_le _) hs (fun _ _ => rfl) hO (fun i hi => by omega) (shB_ext hS (fun i j _ _ => by unfold pdn; omega))
