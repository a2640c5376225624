theorem ge_ex {a b : Nat} (h : nI b ≤ nI a) (ha : a < 2 ^ 31) (hb : b < 2 ^ 31) : b ≤ a := (nI_leI hb ha).mp h
theorem ge_in {a b : Nat} (h : ¬ nI b ≤ nI a) (ha : a < 2 ^ 31) : a < b := Nat.lt_of_not_le fun q => h (nI_le q ha)
theorem PB.o {f : Mm} {h : Nat} {P : PS} (hP : PB f h P) (w t m r c : Nat) : PB (va_up f h (some (PO h (w, t, m, r, c, P.2.2.2.2.2)))) h (w, t, m, r, c, P.2.2.2.2.2) :=
  ⟨up_same _ _ _, hP.2.1.keep (up_ne (by omega)), hP.2.2.1.keep (up_ne (by omega)), hP.2.2.2.1.keep (up_ne (by omega)), hP.2.2.2.2.1.keep (up_ne (by omega)), hP.2.2.2.2.2.keep (up_ne (by omega))⟩
/-- nothing but the object's own cells changed -/
def FR (f f' : Mm) (h n : Nat) : Prop := ∀ k, (k < h ∨ h + n ≤ k) → f' k = f k
theorem FR.rf {f : Mm} {h n : Nat} : FR f f h n := fun _ _ => rfl
theorem FR.up {f f' : Mm} {h n q : Nat} {e : Option Ent} (H : FR f f' h n) (h1 : h ≤ q) (h2 : q < h + n) : FR f (va_up f' q e) h n := fun k hk => (up_ne (by omega)).trans (H k hk)
theorem FR.one {f f' f2 : Mm} {h n q : Nat} (H : FR f f' h n) (h1 : h ≤ q) (h2 : q < h + n) (hf : ∀ k, k ≠ q → f2 k = f' k) : FR f f2 h n := fun k hk => (hf k (by omega)).trans (H k hk)
theorem FR.tr {f f' f2 : Mm} {h n h2 n2 : Nat} (H : FR f f' h n) (H2 : FR f' f2 h2 n2) (a : h ≤ h2) (b : h2 + n2 ≤ h + n) : FR f f2 h n := fun k hk => (H2 k (by omega)).trans (H k hk)
theorem ct_makeBoard (g : GG) (f : Mm) {h : Nat} {P : PS} (w t : Nat) (hP : PB f h P) : Ct g MX4_makeBoard [.ref h, .int (nI w), .int (nI t)] f 0 0 (fun r f' => r = none ∧ PB f' h (w, t, pMd P, pRu P, pN P, fun _ => 0, P.2.2.2.2.2.2) ∧ FR f f' h 6) := by
  refine Ct.of ok_MX4_makeBoard (Nat.le_of_ble_eq_true rfl) ?_
  change Wp g MX4_makeBoard 0 [some (.ref h), some (.int (nI w)), some (.int (nI t)), none] [] f 0 0 _
  have loop : ∀ (n i : Nat) (f1 : Mm) (a : Nat → Int32), 36 - i = n → i ≤ 36 → PB f1 h (w, t, pMd P, pRu P, pN P, a, P.2.2.2.2.2.2) → (∀ j, j < i → a j = 0) → FR f f1 h 6 → Wp g MX4_makeBoard 12 [some (.ref h), some (.int (nI w)), some (.int (nI t)), some (.int (nI i))] [] f1 0 0 (fun r f' => r = none ∧ PB f' h (w, t, pMd P, pRu P, pN P, fun _ => 0, P.2.2.2.2.2.2) ∧ FR f f' h 6) := by
    intro n
    induction n using Nat.strongRecOn with
    | ind n ih =>
      intro i f1 a hn hi hP1 ha hF
      obtain ⟨b, hb, hba⟩ := hP1.2.1
      refine rn_iload_n dX4_makeBoard_12 rfl ?_
      refine rn_bipush (v := nI 36) dX4_makeBoard_13 (by decide) ?_
      refine rn_icmp_ge (tgt := 31) dX4_makeBoard_15 (by decide) (fun c15 => ?_) (fun c15 => ?_)
      · refine rn_vret dX4_makeBoard_31 rfl ?_
        have hi36 := ge_ex c15 (by omega) (by decide)
        exact ⟨rfl, ⟨hP1.1, hP1.2.1.to (fun j hj => ha j (by omega)), hP1.2.2⟩, hF⟩
      · refine rn_aload_n dX4_makeBoard_18 rfl ?_
        refine rn_get dX4_makeBoard_19 lfX4_27 hP1.1 rfl ?_
        refine rn_iload_n dX4_makeBoard_22 rfl ?_
        refine rn_iconst (v := nI 0) dX4_makeBoard_23 (by decide) ?_
        refine rn_iast dX4_makeBoard_24 hb (vp_in_nI (n := i) (N := 36) (ge_in c15 (by omega)) (by decide)) ?_
        refine rn_iinc (v := nI (i + 1)) dX4_makeBoard_25 rfl (nI_1 i) (Nat.le_of_ble_eq_true rfl) rfl ?_
        refine rn_goto (tgt := 12) dX4_makeBoard_28 (by decide) ?_
        have hi36 := ge_in c15 (by omega)
        refine ih (36 - (i + 1)) (by omega) (i + 1) _ (upd a i 0) rfl (by omega) ?_ (fun j hj => ?_) (hF.up (by omega) (by omega))
        · refine ⟨(up_ne (by omega)).trans hP1.1, ⟨_, up_same _ _ _, fun j hj => ?_⟩, hP1.2.2.1.keep (up_ne (by omega)), hP1.2.2.2.1.keep (up_ne (by omega)), hP1.2.2.2.2.1.keep (up_ne (by omega)), hP1.2.2.2.2.2.keep (up_ne (by omega))⟩
          rw [nI_clamp (by omega)]
          by_cases e : j = i
          · subst e; simp [upd, pC]; rfl
          · simp [upd, pC, e]; exact hba j hj
        · by_cases e : j = i
          · subst e; simp [upd]
          · simp [upd, e]; exact ha j (by omega)
  refine rn_aload_n dX4_makeBoard_0 rfl ?_
  refine rn_iload_n dX4_makeBoard_1 rfl ?_
  refine rn_put dX4_makeBoard_2 lpX4_9 hP.1 rfl rfl (Nat.le_of_ble_eq_true rfl) ?_
  refine rn_aload_n dX4_makeBoard_5 rfl ?_
  refine rn_iload_n dX4_makeBoard_6 rfl ?_
  refine rn_put dX4_makeBoard_7 lpX4_15 (up_same _ _ _) rfl rfl (Nat.le_of_ble_eq_true rfl) ?_
  refine rn_iconst (v := nI 0) dX4_makeBoard_10 (by decide) ?_
  refine rn_istore_n dX4_makeBoard_11 (Nat.le_of_ble_eq_true rfl) rfl ?_
  exact loop 36 0 _ (pC P) rfl (by omega) ((hP.o w (pH P) (pMd P) (pRu P) (pN P)).o w t (pMd P) (pRu P) (pN P)) (fun j hj => absurd hj (by omega)) ((FR.rf.up (by omega) (by omega)).up (by omega) (by omega))
