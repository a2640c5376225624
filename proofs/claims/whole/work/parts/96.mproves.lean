abbrev pfP (P : PS) (a b m : Nat) : Bool := prf P (lP P) (cpP P) a b m
def NBp (P : PS) (m a b : Nat) : Prop := ∀ m' a' b', 2 ≤ m' → a' < m' → b' < m' → (m' < m ∨ (m' = m ∧ (a' < a ∨ (a' = a ∧ b' < b)))) → pfP P a' b' m' = false
def PFr (P : PS) (r : Int32) : Prop := (∃ m a b, 2 ≤ m ∧ m ≤ 5 ∧ a < m ∧ b < m ∧ pfP P a b m = true ∧ NBp P m a b ∧ r = nI (100 * m + 10 * a + b)) ∨ (NBp P 6 0 0 ∧ r = -9)
theorem NBp.b {P : PS} {m a b : Nat} (h : NBp P m a b) (hb : pfP P a b m = false) : NBp P m a (b + 1) := fun m' a' b' h1 h2 h3 h4 => by
  by_cases e : m' = m ∧ a' = a ∧ b' = b
  · rw [e.1, e.2.1, e.2.2]; exact hb
  · exact h m' a' b' h1 h2 h3 (by omega)
theorem NBp.a {P : PS} {m a : Nat} (h : NBp P m a m) : NBp P m (a + 1) 0 := fun m' a' b' h1 h2 h3 h4 => h m' a' b' h1 h2 h3 (by omega)
theorem NBp.m {P : PS} {m : Nat} (h : NBp P m m 0) : NBp P (m + 1) 0 0 := fun m' a' b' h1 h2 h3 h4 => h m' a' b' h1 h2 h3 (by omega)
theorem PFr.uniq {P : PS} {r r' : Int32} (h : PFr P r) (h' : PFr P r') : r = r' := by
  rcases h with ⟨m, a, b, h1, h2, h3, h4, h5, h6, h7⟩ | ⟨h6, h7⟩
  · rcases h' with ⟨m', a', b', g1, g2, g3, g4, g5, g6, g7⟩ | ⟨g6, g7⟩
    · have e1 : ¬ (m' < m ∨ (m' = m ∧ (a' < a ∨ (a' = a ∧ b' < b)))) := fun q => by
        have := h6 m' a' b' g1 g3 g4 q
        rw [g5] at this; cases this
      have e2 : ¬ (m < m' ∨ (m = m' ∧ (a < a' ∨ (a = a' ∧ b < b')))) := fun q => by
        have := g6 m a b h1 h3 h4 q
        rw [h5] at this; cases this
      have e3 : m = m' ∧ a = a' ∧ b = b' := by omega
      rw [h7, g7, e3.1, e3.2.1, e3.2.2]
    · have := g6 m a b h1 h3 h4 (by omega)
      rw [h5] at this; cases this
  · rcases h' with ⟨m', a', b', g1, g2, g3, g4, g5, g6, g7⟩ | ⟨g6, g7⟩
    · have := h6 m' a' b' g1 g3 g4 (by omega)
      rw [g5] at this; cases this
    · rw [h7, g7]
theorem cm_provesNo (g : GG) (f : Mm) {P : PS} {H : List PS} {T : List Nat} {x y z : Int32} (hI : MI f P H T) (hx : ¬ (nI 2 ≤ z ∧ z ≤ nI 5) ∨ ¬ (nI 0 ≤ x ∧ x ≤ z - nI 1) ∨ ¬ (nI 0 ≤ y ∧ y ≤ z - nI 1)) : Ct g MX12_proves [.ref 75, .int x, .int y, .int z] f 0 0 (fun r f' => f = f' ∧ r = some (.int (-1))) := by
  refine Ct.of ok_MX12_proves (Nat.le_of_ble_eq_true rfl) ?_
  change Wp g MX12_proves 0 [some (.ref 75), some (.int x), some (.int y), some (.int z)] [] f 0 0 _
  rcases hx with hx | hx | hx
  · refine rn_iload_n dX12_proves_0 rfl ?_
    refine rn_iconst (v := nI 2) dX12_proves_1 (by decide) ?_
    refine rn_iconst (v := nI 5) dX12_proves_2 (by decide) ?_
    refine rn_callS dX12_proves_3 lmX12_72 ⟨Nat.le_of_ble_eq_true rfl, Nat.le_of_ble_eq_true rfl⟩ (cm_in g f z (nI 2) (nI 5)) rfl rfl (Nat.le_of_ble_eq_true rfl) ?_
    rintro _ _ ⟨rfl, rfl⟩
    rw [decide_eq_false hx]
    refine rn_if_eq (tgt := 31) dX12_proves_6 (by decide) (fun c6 => ?_) (fun c6 => ?_)
    · refine rn_iconst (v := (-1)) dX12_proves_31 (by decide) ?_
      refine rn_iret dX12_proves_32 rfl ?_
      exact ⟨rfl, rfl⟩
    · exact absurd (show bI false = 0 from rfl) c6
  · refine rn_iload_n dX12_proves_0 rfl ?_
    refine rn_iconst (v := nI 2) dX12_proves_1 (by decide) ?_
    refine rn_iconst (v := nI 5) dX12_proves_2 (by decide) ?_
    refine rn_callS dX12_proves_3 lmX12_72 ⟨Nat.le_of_ble_eq_true rfl, Nat.le_of_ble_eq_true rfl⟩ (cm_in g f z (nI 2) (nI 5)) rfl rfl (Nat.le_of_ble_eq_true rfl) ?_
    rintro _ _ ⟨rfl, rfl⟩
    refine rn_if_eq (tgt := 31) dX12_proves_6 (by decide) (fun c6 => ?_) (fun c6 => ?_)
    · refine rn_iconst (v := (-1)) dX12_proves_31 (by decide) ?_
      refine rn_iret dX12_proves_32 rfl ?_
      exact ⟨rfl, rfl⟩
    · refine rn_iload_n dX12_proves_9 rfl ?_
      refine rn_iconst (v := nI 0) dX12_proves_10 (by decide) ?_
      refine rn_iload_n dX12_proves_11 rfl ?_
      refine rn_iconst (v := nI 1) dX12_proves_12 (by decide) ?_
      refine rn_isub dX12_proves_13 ?_
      refine rn_callS dX12_proves_14 lmX12_72 ⟨Nat.le_of_ble_eq_true rfl, Nat.le_of_ble_eq_true rfl⟩ (cm_in g f x (nI 0) (z - nI 1)) rfl rfl (Nat.le_of_ble_eq_true rfl) ?_
      rintro _ _ ⟨rfl, rfl⟩
      rw [decide_eq_false hx]
      refine rn_if_eq (tgt := 31) dX12_proves_17 (by decide) (fun c17 => ?_) (fun c17 => ?_)
      · refine rn_iconst (v := (-1)) dX12_proves_31 (by decide) ?_
        refine rn_iret dX12_proves_32 rfl ?_
        exact ⟨rfl, rfl⟩
      · exact absurd (show bI false = 0 from rfl) c17
  · refine rn_iload_n dX12_proves_0 rfl ?_
    refine rn_iconst (v := nI 2) dX12_proves_1 (by decide) ?_
    refine rn_iconst (v := nI 5) dX12_proves_2 (by decide) ?_
    refine rn_callS dX12_proves_3 lmX12_72 ⟨Nat.le_of_ble_eq_true rfl, Nat.le_of_ble_eq_true rfl⟩ (cm_in g f z (nI 2) (nI 5)) rfl rfl (Nat.le_of_ble_eq_true rfl) ?_
    rintro _ _ ⟨rfl, rfl⟩
    refine rn_if_eq (tgt := 31) dX12_proves_6 (by decide) (fun c6 => ?_) (fun c6 => ?_)
    · refine rn_iconst (v := (-1)) dX12_proves_31 (by decide) ?_
      refine rn_iret dX12_proves_32 rfl ?_
      exact ⟨rfl, rfl⟩
    · refine rn_iload_n dX12_proves_9 rfl ?_
      refine rn_iconst (v := nI 0) dX12_proves_10 (by decide) ?_
      refine rn_iload_n dX12_proves_11 rfl ?_
      refine rn_iconst (v := nI 1) dX12_proves_12 (by decide) ?_
      refine rn_isub dX12_proves_13 ?_
      refine rn_callS dX12_proves_14 lmX12_72 ⟨Nat.le_of_ble_eq_true rfl, Nat.le_of_ble_eq_true rfl⟩ (cm_in g f x (nI 0) (z - nI 1)) rfl rfl (Nat.le_of_ble_eq_true rfl) ?_
      rintro _ _ ⟨rfl, rfl⟩
      refine rn_if_eq (tgt := 31) dX12_proves_17 (by decide) (fun c17 => ?_) (fun c17 => ?_)
      · refine rn_iconst (v := (-1)) dX12_proves_31 (by decide) ?_
        refine rn_iret dX12_proves_32 rfl ?_
        exact ⟨rfl, rfl⟩
      · refine rn_iload_n dX12_proves_20 rfl ?_
        refine rn_iconst (v := nI 0) dX12_proves_21 (by decide) ?_
        refine rn_iload_n dX12_proves_22 rfl ?_
        refine rn_iconst (v := nI 1) dX12_proves_23 (by decide) ?_
        refine rn_isub dX12_proves_24 ?_
        refine rn_callS dX12_proves_25 lmX12_72 ⟨Nat.le_of_ble_eq_true rfl, Nat.le_of_ble_eq_true rfl⟩ (cm_in g f y (nI 0) (z - nI 1)) rfl rfl (Nat.le_of_ble_eq_true rfl) ?_
        rintro _ _ ⟨rfl, rfl⟩
        rw [decide_eq_false hx]
        refine rn_if_ne (tgt := 33) dX12_proves_28 (by decide) (fun c28 => ?_) (fun c28 => ?_)
        · exact absurd (show bI false = 0 from rfl) c28
        · refine rn_iconst (v := (-1)) dX12_proves_31 (by decide) ?_
          refine rn_iret dX12_proves_32 rfl ?_
          exact ⟨rfl, rfl⟩
theorem cm_proves (g : GG) (f : Mm) {wi s : Nat → Int32} {cv : Int64} {P : PS} {a b m : Nat} (hB : MB f wi cv s P) (hV : VPc P) (h2 : 2 ≤ m) (h5 : m ≤ 5) (ha : a < m) (hb : b < m) : Ct g MX12_proves [.ref 75, .int (nI a), .int (nI b), .int (nI m)] f 0 0 (fun r f' => MR f wi f' ∧ r = some (.int (bI (pfP P a b m)))) := by
  refine Ct.of ok_MX12_proves (Nat.le_of_ble_eq_true rfl) ?_
  change Wp g MX12_proves 0 [some (.ref 75), some (.int (nI a)), some (.int (nI b)), some (.int (nI m))] [] f 0 0 _
  obtain ⟨hM, hs, hP, hm⟩ := id hB
  obtain ⟨⟨F, hF⟩, ⟨l0, hL⟩, -⟩ := id hm
  have hLS := pl1_LSd hV.1 hV.2.1
  have hmk0 := pl1_msk hV.1 hV.2.1
  have d1 : decide (nI 2 ≤ nI m ∧ nI m ≤ nI 5) = true := decide_eq_true ⟨nI_le h2 (by omega), nI_le h5 (by decide)⟩
  have hsub : nI m - nI 1 = nI (m - 1) := pk_sub (by omega)
  have d2 : ∀ a, a < m → decide (nI 0 ≤ nI a ∧ nI a ≤ nI (m - 1)) = true := fun a ha => decide_eq_true ⟨nI_le (by omega) (by omega), nI_le (by omega) (by omega)⟩
  refine rn_iload_n dX12_proves_0 rfl ?_
  refine rn_iconst (v := nI 2) dX12_proves_1 (by decide) ?_
  refine rn_iconst (v := nI 5) dX12_proves_2 (by decide) ?_
  refine rn_callS dX12_proves_3 lmX12_72 ⟨Nat.le_of_ble_eq_true rfl, Nat.le_of_ble_eq_true rfl⟩ (cm_in g f (nI m) (nI 2) (nI 5)) rfl rfl (Nat.le_of_ble_eq_true rfl) ?_
  rintro _ _ ⟨rfl, rfl⟩
  rw [d1]
  refine rn_if_eq (tgt := 31) dX12_proves_6 (by decide) (fun c6 => ?_) (fun c6 => ?_)
  · exact absurd c6 (by decide)
  · refine rn_iload_n dX12_proves_9 rfl ?_
    refine rn_iconst (v := nI 0) dX12_proves_10 (by decide) ?_
    refine rn_iload_n dX12_proves_11 rfl ?_
    refine rn_iconst (v := nI 1) dX12_proves_12 (by decide) ?_
    refine rn_isub dX12_proves_13 ?_
    rw [hsub]
    refine rn_callS dX12_proves_14 lmX12_72 ⟨Nat.le_of_ble_eq_true rfl, Nat.le_of_ble_eq_true rfl⟩ (cm_in g f (nI a) (nI 0) (nI (m - 1))) rfl rfl (Nat.le_of_ble_eq_true rfl) ?_
    rintro _ _ ⟨rfl, rfl⟩
    rw [d2 a ha]
    refine rn_if_eq (tgt := 31) dX12_proves_17 (by decide) (fun c17 => ?_) (fun c17 => ?_)
    · exact absurd c17 (by decide)
    · refine rn_iload_n dX12_proves_20 rfl ?_
      refine rn_iconst (v := nI 0) dX12_proves_21 (by decide) ?_
      refine rn_iload_n dX12_proves_22 rfl ?_
      refine rn_iconst (v := nI 1) dX12_proves_23 (by decide) ?_
      refine rn_isub dX12_proves_24 ?_
      rw [hsub]
      refine rn_callS dX12_proves_25 lmX12_72 ⟨Nat.le_of_ble_eq_true rfl, Nat.le_of_ble_eq_true rfl⟩ (cm_in g f (nI b) (nI 0) (nI (m - 1))) rfl rfl (Nat.le_of_ble_eq_true rfl) ?_
      rintro _ _ ⟨rfl, rfl⟩
      rw [d2 b hb]
      refine rn_if_ne (tgt := 33) dX12_proves_28 (by decide) (fun c28 => ?_) (fun c28 => ?_)
      · refine rn_aload_n dX12_proves_33 rfl ?_
        refine rn_callV dX12_proves_34 lmX12_120 ⟨Nat.le_of_ble_eq_true rfl, Nat.le_of_ble_eq_true rfl⟩ (cm_findsPlacements g f hM hs hF hL hP hV.1 hV.2.1) hM rfl rfl (Nat.le_of_ble_eq_true rfl) ?_
        rintro _ f1 ⟨rfl, k1, hL1, hF1, a1, o1⟩
        have hMR := MR_fp hB k1 hL1 hF1 o1
        refine rn_aload_n dX12_proves_37 rfl ?_
        refine rn_iload_n dX12_proves_38 rfl ?_
        refine rn_iload_n dX12_proves_39 rfl ?_
        refine rn_iload_n dX12_proves_40 rfl ?_
        refine rn_callV dX12_proves_41 lmX12_297 ⟨Nat.le_of_ble_eq_true rfl, Nat.le_of_ble_eq_true rfl⟩ (cm_isProof g f1 o1 (hs.keep (k1 76 (by decide) (by omega))) hP hV.1 hV.2.1 hL1 (mW_12 _ _ _) hLS.2.1 hLS.1 hmk0 (by omega) (by omega) (by omega) h5 hV.2.2.1) o1 rfl rfl (Nat.le_of_ble_eq_true rfl) ?_
        rintro _ _ ⟨rfl, rfl⟩
        refine rn_if_eq (tgt := 51) dX12_proves_44 (by decide) (fun c44 => ?_) (fun c44 => ?_)
        · refine rn_iconst (v := nI 0) dX12_proves_51 (by decide) ?_
          refine rn_iret dX12_proves_52 rfl ?_
          exact ⟨hMR, by rw [show pfP P a b m = false from bI_0.mp c44]; rfl⟩
        · refine rn_iconst (v := nI 1) dX12_proves_47 (by decide) ?_
          refine rn_goto (tgt := 52) dX12_proves_48 (by decide) ?_
          refine rn_iret dX12_proves_52 rfl ?_
          exact ⟨hMR, by rw [show pfP P a b m = true from bI_n0.mp c44]; rfl⟩
      · exact absurd c28 (by decide)
theorem cm_proof (g : GG) (f : Mm) {wi s : Nat → Int32} {cv : Int64} {P : PS} (hB : MB f wi cv s P) (hV : VPc P) : Ct g MX12_proof [.ref 75] f 0 0 (fun r f' => MR f wi f' ∧ ∃ v, r = some (.int v) ∧ PFr P v) := by
  refine Ct.of ok_MX12_proof (Nat.le_of_ble_eq_true rfl) ?_
  change Wp g MX12_proof 0 [some (.ref 75), none, none, none] [] f 0 0 _
  obtain ⟨hM, hs, hP, hm⟩ := id hB
  obtain ⟨⟨F, hF⟩, ⟨l0, hL⟩, -⟩ := id hm
  have hLS := pl1_LSd hV.1 hV.2.1
  have hmk0 := pl1_msk hV.1 hV.2.1
  refine rn_aload_n dX12_proof_0 rfl ?_
  refine rn_callV dX12_proof_1 lmX12_120 ⟨Nat.le_of_ble_eq_true rfl, Nat.le_of_ble_eq_true rfl⟩ (cm_findsPlacements g f hM hs hF hL hP hV.1 hV.2.1) hM rfl rfl (Nat.le_of_ble_eq_true rfl) ?_
  rintro _ f1 ⟨rfl, k1, hL1, hF1, a1, o1⟩
  have hMR := MR_fp hB k1 hL1 hF1 o1
  have hs1 := hs.keep (k1 76 (by decide) (by omega))
  have lb : ∀ (d b m a : Nat), m - b = d → b ≤ m → 2 ≤ m → m ≤ 5 → a < m → NBp P m a b → (∀ w3, NBp P m (a + 1) 0 → Wp g MX12_proof 54 [some (.ref 75), some (.int (nI m)), some (.int (nI a)), w3] [] f1 0 0 (fun r f' => MR f wi f' ∧ ∃ v, r = some (.int v) ∧ PFr P v)) → Wp g MX12_proof 21 [some (.ref 75), some (.int (nI m)), some (.int (nI a)), some (.int (nI b))] [] f1 0 0 (fun r f' => MR f wi f' ∧ ∃ v, r = some (.int v) ∧ PFr P v) := by
    intro d
    induction d using Nat.strongRecOn with
    | ind d ih =>
      intro b m a hd hb h2 h5 ha hN kk
      by_cases hlt : b < m
      · refine rn_iload_n dX12_proof_21 rfl ?_
        refine rn_iload_n dX12_proof_22 rfl ?_
        refine rn_icmp_ge (tgt := 54) dX12_proof_23 (by decide) (fun c23 => ?_) (fun c23 => ?_)
        · exact absurd (ge_ex c23 (by omega) (by omega)) (by omega)
        · refine rn_aload_n dX12_proof_26 rfl ?_
          refine rn_iload_n dX12_proof_27 rfl ?_
          refine rn_iload_n dX12_proof_28 rfl ?_
          refine rn_iload_n dX12_proof_29 rfl ?_
          refine rn_callV dX12_proof_30 lmX12_297 ⟨Nat.le_of_ble_eq_true rfl, Nat.le_of_ble_eq_true rfl⟩ (cm_isProof g f1 o1 hs1 hP hV.1 hV.2.1 hL1 (mW_12 _ _ _) hLS.2.1 hLS.1 hmk0 (show a < 5 by omega) (show b < 5 by omega) (show 1 ≤ m by omega) h5 hV.2.2.1) o1 rfl rfl (Nat.le_of_ble_eq_true rfl) ?_
          rintro _ _ ⟨rfl, rfl⟩
          refine rn_if_eq (tgt := 48) dX12_proof_33 (by decide) (fun c33 => ?_) (fun c33 => ?_)
          · refine rn_iinc (v := nI (b + 1)) dX12_proof_48 rfl (nI_1 b) (Nat.le_of_ble_eq_true rfl) rfl ?_
            refine rn_goto (tgt := 21) dX12_proof_51 (by decide) ?_
            exact ih _ (by omega) (b + 1) m a rfl (by omega) h2 h5 ha (hN.b (bI_0.mp c33)) kk
          · refine rn_bipush (v := nI 100) dX12_proof_36 (by decide) ?_
            refine rn_iload_n dX12_proof_38 rfl ?_
            refine rn_imul dX12_proof_39 ?_
            rw [pk_mul]
            refine rn_bipush (v := nI 10) dX12_proof_40 (by decide) ?_
            refine rn_iload_n dX12_proof_42 rfl ?_
            refine rn_imul dX12_proof_43 ?_
            rw [pk_mul]
            refine rn_iadd dX12_proof_44 ?_
            rw [nI_add]
            refine rn_iload_n dX12_proof_45 rfl ?_
            refine rn_iadd dX12_proof_46 ?_
            rw [nI_add]
            refine rn_iret dX12_proof_47 rfl ?_
            exact ⟨hMR, _, rfl, Or.inl ⟨m, a, b, h2, h5, ha, hlt, bI_n0.mp c33, hN, rfl⟩⟩
      · have hbe : b = m := by omega
        subst hbe
        refine rn_iload_n dX12_proof_21 rfl ?_
        refine rn_iload_n dX12_proof_22 rfl ?_
        refine rn_icmp_ge (tgt := 54) dX12_proof_23 (by decide) (fun c23 => ?_) (fun c23 => ?_)
        · exact kk _ hN.a
        · exact absurd (ge_in c23 (by omega)) (by omega)
  have la : ∀ (d a m : Nat) (w3 : Option Value), m - a = d → a ≤ m → 2 ≤ m → m ≤ 5 → NBp P m a 0 → (∀ w3, NBp P (m + 1) 0 0 → Wp g MX12_proof 60 [some (.ref 75), some (.int (nI m)), some (.int (nI m)), w3] [] f1 0 0 (fun r f' => MR f wi f' ∧ ∃ v, r = some (.int v) ∧ PFr P v)) → Wp g MX12_proof 14 [some (.ref 75), some (.int (nI m)), some (.int (nI a)), w3] [] f1 0 0 (fun r f' => MR f wi f' ∧ ∃ v, r = some (.int v) ∧ PFr P v) := by
    intro d
    induction d using Nat.strongRecOn with
    | ind d ih =>
      intro a m w3 hd ha h2 h5 hN kk
      by_cases hlt : a < m
      · refine rn_iload_n dX12_proof_14 rfl ?_
        refine rn_iload_n dX12_proof_15 rfl ?_
        refine rn_icmp_ge (tgt := 60) dX12_proof_16 (by decide) (fun c16 => ?_) (fun c16 => ?_)
        · exact absurd (ge_ex c16 (by omega) (by omega)) (by omega)
        · refine rn_iconst (v := nI 0) dX12_proof_19 (by decide) ?_
          refine rn_istore_n dX12_proof_20 (Nat.le_of_ble_eq_true rfl) rfl ?_
          refine lb _ 0 m a rfl (by omega) h2 h5 hlt hN (fun w3 hN2 => ?_)
          refine rn_iinc (v := nI (a + 1)) dX12_proof_54 rfl (nI_1 a) (Nat.le_of_ble_eq_true rfl) rfl ?_
          refine rn_goto (tgt := 14) dX12_proof_57 (by decide) ?_
          exact ih _ (by omega) (a + 1) m w3 rfl (by omega) h2 h5 hN2 kk
      · have hae : a = m := by omega
        subst hae
        refine rn_iload_n dX12_proof_14 rfl ?_
        refine rn_iload_n dX12_proof_15 rfl ?_
        refine rn_icmp_ge (tgt := 60) dX12_proof_16 (by decide) (fun c16 => ?_) (fun c16 => ?_)
        · exact kk _ hN.m
        · exact absurd (ge_in c16 (by omega)) (by omega)
  have lm : ∀ (d m : Nat) (w2 w3 : Option Value), 6 - m = d → m ≤ 6 → 2 ≤ m → NBp P m 0 0 → Wp g MX12_proof 6 [some (.ref 75), some (.int (nI m)), w2, w3] [] f1 0 0 (fun r f' => MR f wi f' ∧ ∃ v, r = some (.int v) ∧ PFr P v) := by
    intro d
    induction d using Nat.strongRecOn with
    | ind d ih =>
      intro m w2 w3 hd hm6 h2 hN
      by_cases hlt : m < 6
      · refine rn_iload_n dX12_proof_6 rfl ?_
        refine rn_bipush (v := nI 6) dX12_proof_7 (by decide) ?_
        refine rn_icmp_ge (tgt := 66) dX12_proof_9 (by decide) (fun c9 => ?_) (fun c9 => ?_)
        · exact absurd (ge_ex c9 (by omega) (by decide)) (by omega)
        · refine rn_iconst (v := nI 0) dX12_proof_12 (by decide) ?_
          refine rn_istore_n dX12_proof_13 (Nat.le_of_ble_eq_true rfl) rfl ?_
          refine la _ 0 m _ rfl (by omega) h2 (by omega) hN (fun w3 hN2 => ?_)
          refine rn_iinc (v := nI (m + 1)) dX12_proof_60 rfl (nI_1 m) (Nat.le_of_ble_eq_true rfl) rfl ?_
          refine rn_goto (tgt := 6) dX12_proof_63 (by decide) ?_
          exact ih _ (by omega) (m + 1) _ _ rfl (by omega) (by omega) hN2
      · have hme : m = 6 := by omega
        subst hme
        refine rn_iload_n dX12_proof_6 rfl ?_
        refine rn_bipush (v := nI 6) dX12_proof_7 (by decide) ?_
        refine rn_icmp_ge (tgt := 66) dX12_proof_9 (by decide) (fun c9 => ?_) (fun c9 => ?_)
        · refine rn_bipush (v := (-9)) dX12_proof_66 (by decide) ?_
          refine rn_iret dX12_proof_68 rfl ?_
          exact ⟨hMR, _, rfl, Or.inr ⟨hN, rfl⟩⟩
        · exact absurd (ge_in c9 (by decide)) (by decide)
  refine rn_iconst (v := nI 2) dX12_proof_4 (by decide) ?_
  refine rn_istore_n dX12_proof_5 (Nat.le_of_ble_eq_true rfl) rfl ?_
  exact lm 4 2 _ _ rfl (by decide) (by decide) (fun m' a' b' h1 h2 h3 h4 => by omega)
