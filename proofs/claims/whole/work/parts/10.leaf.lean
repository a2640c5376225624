-- leaf methods
theorem up_self {f : Mm} {q : Nat} {e : Option Ent} (h : f q = e) : va_up f q e = f := by
  funext j
  by_cases hj : j = q
  · subst hj
    simp [va_up, h]
  · simp [va_up, hj]
theorem up_same (f : Mm) (q : Nat) (e : Option Ent) : va_up f q e q = e := by simp [va_up]
theorem up_ne {f : Mm} {q j : Nat} {e : Option Ent} (h : j ≠ q) : va_up f q e j = f j := by simp [va_up, h]
def inR (c : Int32) (n : Nat) : Bool := !decide (c < 0) && !decide (nI n ≤ c)
theorem inR_iff {c : Int32} {n : Nat} (hn : n < 2 ^ 31) : inR c n = true ↔ ∃ j, j < n ∧ c = nI j := by
  constructor
  · intro h
    simp only [inR, Bool.and_eq_true, Bool.not_eq_true', decide_eq_false_iff_not] at h
    rcases pk_ix c hn with a | a | a
    · exact absurd a h.1
    · exact absurd a h.2
    · exact a
  · rintro ⟨j, hj, rfl⟩
    simp only [inR, Bool.and_eq_true, Bool.not_eq_true', decide_eq_false_iff_not]
    exact ⟨nI_pos (by omega), nI_ge hj hn⟩
theorem inR_nI {j n : Nat} (h : j < n) (hn : n < 2 ^ 31) : inR (nI j) n = true := (inR_iff hn).mpr ⟨j, h, rfl⟩
theorem inR_in {c : Int32} {n : Nat} (hn : n < 2 ^ 31) (h : inR c n = true) : vp_in c n := by
  obtain ⟨j, hj, rfl⟩ := (inR_iff hn).mp h
  exact vp_in_nI hj hn
def atf (n : Nat) (a : Nat → Int32) (i : Int32) : Int32 := if inR i n then a i.toNatClampNeg else 0
def ptf (n : Nat) (a : Nat → Int32) (i x : Int32) : Nat → Int32 := if inR i n then upd a i.toNatClampNeg x else a
def bI (b : Bool) : Int32 := if b then 1 else 0
theorem bI_0 {b : Bool} : bI b = 0 ↔ b = false := by cases b <;> decide
theorem bI_n0 {b : Bool} : ¬ bI b = 0 ↔ b = true := by cases b <;> decide
theorem atf_nI {n : Nat} {a : Nat → Int32} {j : Nat} (hj : j < n) (hn : n < 2 ^ 31) : atf n a (nI j) = a j := by
  unfold atf
  rw [if_pos (inR_nI hj hn), nI_clamp (by omega)]
theorem ptf_nI {n : Nat} {a : Nat → Int32} {j : Nat} {x : Int32} (hj : j < n) (hn : n < 2 ^ 31) : ptf n a (nI j) x = upd a j x := by
  unfold ptf
  rw [if_pos (inR_nI hj hn), nI_clamp (by omega)]
/-- an int array of N, up to N -/
def AR (f : Mm) (q N : Nat) (a : Nat → Int32) : Prop := ∃ b, f q = some (.inl (0, N, .inl b)) ∧ ∀ i, i < N → b i = a i
theorem AR.keep {f f' : Mm} {q N : Nat} {a : Nat → Int32} (h : AR f q N a) (e : f' q = f q) : AR f' q N a := by
  obtain ⟨b, h1, h2⟩ := h
  exact ⟨b, e.trans h1, h2⟩
theorem AR.to {f : Mm} {q N : Nat} {a a' : Nat → Int32} (h : AR f q N a) (e : ∀ i, i < N → a i = a' i) : AR f q N a' := by
  obtain ⟨b, h1, h2⟩ := h
  exact ⟨b, h1, fun i hi => (h2 i hi).trans (e i hi)⟩
theorem ct_isWithin (g : GG) (f : Mm) (v lo hi : Int32) : Ct g MX11_isWithin [.int v, .int lo, .int hi] f 0 0 (fun r f' => f = f' ∧ r = some (.int (bI (decide (lo ≤ v ∧ v ≤ hi))))) := by
  refine Ct.of ok_MX11_isWithin (Nat.le_of_ble_eq_true rfl) ?_
  change Wp g MX11_isWithin 0 [some (.int v), some (.int lo), some (.int hi)] [] f 0 0 _
  refine rn_iload_n dX11_isWithin_0 rfl ?_
  refine rn_iload_n dX11_isWithin_1 rfl ?_
  refine rn_icmp_lt (tgt := 14) dX11_isWithin_2 (by decide) (fun c2 => ?_) (fun c2 => ?_)
  · refine rn_iconst (v := nI 0) dX11_isWithin_14 (by decide) ?_
    refine rn_zret dX11_isWithin_15 rfl rfl ?_
    exact ⟨rfl, by rw [show decide (lo ≤ v ∧ v ≤ hi) = false from decide_eq_false (fun h => absurd h.1 (Int32.not_le.mpr c2))]; rfl⟩
  · refine rn_iload_n dX11_isWithin_5 rfl ?_
    refine rn_iload_n dX11_isWithin_6 rfl ?_
    refine rn_icmp_gt (tgt := 14) dX11_isWithin_7 (by decide) (fun c7 => ?_) (fun c7 => ?_)
    · refine rn_iconst (v := nI 0) dX11_isWithin_14 (by decide) ?_
      refine rn_zret dX11_isWithin_15 rfl rfl ?_
      exact ⟨rfl, by rw [show decide (lo ≤ v ∧ v ≤ hi) = false from decide_eq_false (fun h => absurd h.2 (Int32.not_le.mpr c7))]; rfl⟩
    · refine rn_iconst (v := nI 1) dX11_isWithin_10 (by decide) ?_
      refine rn_goto (tgt := 15) dX11_isWithin_11 (by decide) ?_
      refine rn_zret dX11_isWithin_15 rfl rfl ?_
      exact ⟨rfl, by rw [show decide (lo ≤ v ∧ v ≤ hi) = true from decide_eq_true ⟨Int32.not_lt.mp c2, Int32.not_lt.mp c7⟩]; rfl⟩
theorem ct_at (g : GG) (f : Mm) {q N : Nat} {a : Nat → Int32} (i : Int32) (hN : N < 2 ^ 31) (ho : AR f q N a) : Ct g MX11_at [.ref q, .int i] f 0 0 (fun r f' => f = f' ∧ r = some (.int (atf N a i))) := by
  refine Ct.of ok_MX11_at (Nat.le_of_ble_eq_true rfl) ?_
  change Wp g MX11_at 0 [some (.ref q), some (.int i)] [] f 0 0 _
  obtain ⟨b, hb, hba⟩ := ho
  refine rn_iload_n dX11_at_0 rfl ?_
  refine rn_if_lt (tgt := 16) dX11_at_1 (by decide) (fun c1 => ?_) (fun c1 => ?_)
  · refine rn_iconst (v := nI 0) dX11_at_16 (by decide) ?_
    refine rn_iret dX11_at_17 rfl ?_
    exact ⟨rfl, by rw [atf, if_neg (by simp [inR, c1])]; rfl⟩
  · refine rn_iload_n dX11_at_4 rfl ?_
    refine rn_aload_n dX11_at_5 rfl ?_
    refine rn_alen dX11_at_6 hb (by decide) ?_
    refine rn_icmp_ge (tgt := 16) dX11_at_7 (by decide) (fun c7 => ?_) (fun c7 => ?_)
    · refine rn_iconst (v := nI 0) dX11_at_16 (by decide) ?_
      refine rn_iret dX11_at_17 rfl ?_
      exact ⟨rfl, by rw [atf, if_neg (by simp [inR, c7])]; rfl⟩
    · refine rn_aload_n dX11_at_10 rfl ?_
      refine rn_iload_n dX11_at_11 rfl ?_
      have hin : inR i N = true := by simp only [inR, Bool.and_eq_true, Bool.not_eq_true', decide_eq_false_iff_not]; exact ⟨c1, c7⟩
      refine rn_iald dX11_at_12 hb (inR_in hN hin) ?_
      refine rn_goto (tgt := 17) dX11_at_13 (by decide) ?_
      refine rn_iret dX11_at_17 rfl ?_
      refine ⟨rfl, ?_⟩
      obtain ⟨j, hj, rfl⟩ := (inR_iff hN).mp hin
      rw [atf_nI hj hN, nI_clamp (by omega), hba j hj]
theorem ct_put (g : GG) (f : Mm) {q N : Nat} {a : Nat → Int32} (i x : Int32) (hN : N < 2 ^ 31) (ho : AR f q N a) : Ct g MX11_put [.ref q, .int i, .int x] f 0 0 (fun r f' => r = none ∧ AR f' q N (ptf N a i x) ∧ ∀ k, k ≠ q → f' k = f k) := by
  refine Ct.of ok_MX11_put (Nat.le_of_ble_eq_true rfl) ?_
  change Wp g MX11_put 0 [some (.ref q), some (.int i), some (.int x)] [] f 0 0 _
  obtain ⟨b, hb, hba⟩ := id ho
  refine rn_iload_n dX11_put_0 rfl ?_
  refine rn_if_lt (tgt := 14) dX11_put_1 (by decide) (fun c1 => ?_) (fun c1 => ?_)
  · refine rn_vret dX11_put_14 rfl ?_
    exact ⟨rfl, by rw [ptf, if_neg (by simp [inR, c1])]; exact ho, fun _ _ => rfl⟩
  · refine rn_iload_n dX11_put_4 rfl ?_
    refine rn_aload_n dX11_put_5 rfl ?_
    refine rn_alen dX11_put_6 hb (by decide) ?_
    refine rn_icmp_ge (tgt := 14) dX11_put_7 (by decide) (fun c7 => ?_) (fun c7 => ?_)
    · refine rn_vret dX11_put_14 rfl ?_
      exact ⟨rfl, by rw [ptf, if_neg (by simp [inR, c7])]; exact ho, fun _ _ => rfl⟩
    · have hin : inR i N = true := by simp only [inR, Bool.and_eq_true, Bool.not_eq_true', decide_eq_false_iff_not]; exact ⟨c1, c7⟩
      refine rn_aload_n dX11_put_10 rfl ?_
      refine rn_iload_n dX11_put_11 rfl ?_
      refine rn_iload_n dX11_put_12 rfl ?_
      refine rn_iast dX11_put_13 hb (inR_in hN hin) ?_
      refine rn_vret dX11_put_14 rfl ?_
      refine ⟨rfl, ⟨_, up_same _ _ _, fun j hj => ?_⟩, fun k hk => up_ne hk⟩
      obtain ⟨j0, hj0, rfl⟩ := (inR_iff hN).mp hin
      rw [ptf_nI hj0 hN, nI_clamp (by omega)]
      by_cases e : j = j0
      · subst e; simp [upd]
      · simp [upd, e, hba j hj]
-- the Problem
abbrev PS : Type := Nat × Nat × Nat × Nat × Nat × (Nat → Int32) × (Nat → Int32) × (Nat → Int32) × (Nat → Int32) × (Nat → Int32)
abbrev pW (P : PS) : Nat := P.1
abbrev pH (P : PS) : Nat := P.2.1
abbrev pMd (P : PS) : Nat := P.2.2.1
abbrev pRu (P : PS) : Nat := P.2.2.2.1
abbrev pN (P : PS) : Nat := P.2.2.2.2.1
abbrev pC (P : PS) : Nat → Int32 := P.2.2.2.2.2.1
abbrev pS (P : PS) : Nat → Int32 := P.2.2.2.2.2.2.1
abbrev pF (P : PS) : Nat → Int32 := P.2.2.2.2.2.2.2.1
abbrev pK (P : PS) : Nat → Int32 := P.2.2.2.2.2.2.2.2.1
abbrev pX (P : PS) : Nat → Int32 := P.2.2.2.2.2.2.2.2.2
abbrev PO (h : Nat) (P : PS) : Ent := .inr (4, [.int (nI (pW P)), .int (nI (pH P)), .int (nI (pMd P)), .int (nI (pRu P)), .int (nI (pN P)), .ref (h + 1), .ref (h + 2), .ref (h + 3), .ref (h + 4), .ref (h + 5)])
def PB (f : Mm) (h : Nat) (P : PS) : Prop := f h = some (PO h P) ∧ AR f (h + 1) 36 (pC P) ∧ AR f (h + 2) 8 (pS P) ∧ AR f (h + 3) 8 (pF P) ∧ AR f (h + 4) 8 (pK P) ∧ AR f (h + 5) 8 (pX P)
theorem PB.keep {f f' : Mm} {h : Nat} {P : PS} (hP : PB f h P) (e : ∀ k, h ≤ k → k < h + 6 → f' k = f k) : PB f' h P :=
  ⟨(e h (by omega) (by omega)).trans hP.1, hP.2.1.keep (e _ (by omega) (by omega)), hP.2.2.1.keep (e _ (by omega) (by omega)), hP.2.2.2.1.keep (e _ (by omega) (by omega)), hP.2.2.2.2.1.keep (e _ (by omega) (by omega)), hP.2.2.2.2.2.keep (e _ (by omega) (by omega))⟩
/-- the sides are from 1 to 6, there are at most 8 pieces -/
def VD (P : PS) : Prop := 1 ≤ pW P ∧ pW P ≤ 6 ∧ 1 ≤ pH P ∧ pH P ≤ 6 ∧ pN P ≤ 8
theorem VD.area {P : PS} (h : VD P) : pW P * pH P ≤ 36 := Nat.mul_le_mul h.2.1 h.2.2.2.1
theorem ct_cellCount (g : GG) (f : Mm) {h : Nat} {P : PS} (hP : PB f h P) : Ct g MX4_cellCount [.ref h] f 0 0 (fun r f' => f = f' ∧ r = some (.int (nI (pW P * pH P)))) := by
  refine Ct.of ok_MX4_cellCount (Nat.le_of_ble_eq_true rfl) ?_
  change Wp g MX4_cellCount 0 [some (.ref h)] [] f 0 0 _
  refine rn_aload_n dX4_cellCount_0 rfl ?_
  refine rn_get dX4_cellCount_1 lfX4_9 hP.1 rfl ?_
  refine rn_aload_n dX4_cellCount_4 rfl ?_
  refine rn_get dX4_cellCount_5 lfX4_15 hP.1 rfl ?_
  refine rn_imul dX4_cellCount_8 ?_
  refine rn_iret dX4_cellCount_9 rfl ?_
  exact ⟨rfl, by rw [pk_mul]⟩
theorem ct_hasCell (g : GG) (f : Mm) {h : Nat} {P : PS} (c : Int32) (hP : PB f h P) : Ct g MX4_hasCell [.ref h, .int c] f 0 0 (fun r f' => f = f' ∧ r = some (.int (bI (inR c (pW P * pH P))))) := by
  refine Ct.of ok_MX4_hasCell (Nat.le_of_ble_eq_true rfl) ?_
  change Wp g MX4_hasCell 0 [some (.ref h), some (.int c)] [] f 0 0 _
  refine rn_iload_n dX4_hasCell_0 rfl ?_
  refine rn_if_lt (tgt := 16) dX4_hasCell_1 (by decide) (fun c1 => ?_) (fun c1 => ?_)
  · refine rn_iconst (v := nI 0) dX4_hasCell_16 (by decide) ?_
    refine rn_zret dX4_hasCell_17 rfl rfl ?_
    exact ⟨rfl, by rw [show inR c (pW P * pH P) = false by simp [inR, c1]]; rfl⟩
  · refine rn_iload_n dX4_hasCell_4 rfl ?_
    refine rn_aload_n dX4_hasCell_5 rfl ?_
    refine rn_callV dX4_hasCell_6 lmX4_64 ⟨Nat.le_of_ble_eq_true rfl, Nat.le_of_ble_eq_true rfl⟩ (ct_cellCount g f hP) hP.1 rfl rfl (Nat.le_of_ble_eq_true rfl) ?_
    rintro _ _ ⟨rfl, rfl⟩
    refine rn_icmp_ge (tgt := 16) dX4_hasCell_9 (by decide) (fun c9 => ?_) (fun c9 => ?_)
    · refine rn_iconst (v := nI 0) dX4_hasCell_16 (by decide) ?_
      refine rn_zret dX4_hasCell_17 rfl rfl ?_
      exact ⟨rfl, by rw [show inR c (pW P * pH P) = false by simp [inR, c9]]; rfl⟩
    · refine rn_iconst (v := nI 1) dX4_hasCell_12 (by decide) ?_
      refine rn_goto (tgt := 17) dX4_hasCell_13 (by decide) ?_
      refine rn_zret dX4_hasCell_17 rfl rfl ?_
      exact ⟨rfl, by rw [show inR c (pW P * pH P) = true by simp [inR, c1, c9]]; rfl⟩
theorem ct_cellAt (g : GG) (f : Mm) {h : Nat} {P : PS} (c : Int32) (hP : PB f h P) : Ct g MX4_cellAt [.ref h, .int c] f 0 0 (fun r f' => f = f' ∧ r = some (.int (atf 36 (pC P) c))) := by
  refine Ct.of ok_MX4_cellAt (Nat.le_of_ble_eq_true rfl) ?_
  change Wp g MX4_cellAt 0 [some (.ref h), some (.int c)] [] f 0 0 _
  refine rn_aload_n dX4_cellAt_0 rfl ?_
  refine rn_get dX4_cellAt_1 lfX4_27 hP.1 rfl ?_
  refine rn_iload_n dX4_cellAt_4 rfl ?_
  refine rn_callS dX4_cellAt_5 lmX4_68 ⟨Nat.le_of_ble_eq_true rfl, Nat.le_of_ble_eq_true rfl⟩ (ct_at g f c (by decide) hP.2.1) rfl rfl (Nat.le_of_ble_eq_true rfl) ?_
  rintro _ _ ⟨rfl, rfl⟩
  refine rn_iret dX4_cellAt_8 rfl ?_
  exact ⟨rfl, rfl⟩
theorem cr_shapeOf (g : GG) (f : Mm) {h : Nat} {P : PS} {a : Nat → Int32} (c : Int32) (hO : f h = some (PO h P)) (hA : AR f (h + 2) 8 a) : Ct g MX4_shapeOf [.ref h, .int c] f 0 0 (fun r f' => f = f' ∧ r = some (.int (atf 8 a c))) := by
  refine Ct.of ok_MX4_shapeOf (Nat.le_of_ble_eq_true rfl) ?_
  change Wp g MX4_shapeOf 0 [some (.ref h), some (.int c)] [] f 0 0 _
  refine rn_aload_n dX4_shapeOf_0 rfl ?_
  refine rn_get dX4_shapeOf_1 lfX4_31 hO rfl ?_
  refine rn_iload_n dX4_shapeOf_4 rfl ?_
  refine rn_callS dX4_shapeOf_5 lmX4_68 ⟨Nat.le_of_ble_eq_true rfl, Nat.le_of_ble_eq_true rfl⟩ (ct_at g f c (by decide) hA) rfl rfl (Nat.le_of_ble_eq_true rfl) ?_
  rintro _ _ ⟨rfl, rfl⟩
  refine rn_iret dX4_shapeOf_8 rfl ?_
  exact ⟨rfl, rfl⟩
theorem ct_shapeOf (g : GG) (f : Mm) {h : Nat} {P : PS} (c : Int32) (hP : PB f h P) : Ct g MX4_shapeOf [.ref h, .int c] f 0 0 (fun r f' => f = f' ∧ r = some (.int (atf 8 (pS P) c))) := cr_shapeOf g f c hP.1 hP.2.2.1
theorem cr_freedomOf (g : GG) (f : Mm) {h : Nat} {P : PS} {a : Nat → Int32} (c : Int32) (hO : f h = some (PO h P)) (hA : AR f (h + 3) 8 a) : Ct g MX4_freedomOf [.ref h, .int c] f 0 0 (fun r f' => f = f' ∧ r = some (.int (atf 8 a c))) := by
  refine Ct.of ok_MX4_freedomOf (Nat.le_of_ble_eq_true rfl) ?_
  change Wp g MX4_freedomOf 0 [some (.ref h), some (.int c)] [] f 0 0 _
  refine rn_aload_n dX4_freedomOf_0 rfl ?_
  refine rn_get dX4_freedomOf_1 lfX4_34 hO rfl ?_
  refine rn_iload_n dX4_freedomOf_4 rfl ?_
  refine rn_callS dX4_freedomOf_5 lmX4_68 ⟨Nat.le_of_ble_eq_true rfl, Nat.le_of_ble_eq_true rfl⟩ (ct_at g f c (by decide) hA) rfl rfl (Nat.le_of_ble_eq_true rfl) ?_
  rintro _ _ ⟨rfl, rfl⟩
  refine rn_iret dX4_freedomOf_8 rfl ?_
  exact ⟨rfl, rfl⟩
theorem ct_freedomOf (g : GG) (f : Mm) {h : Nat} {P : PS} (c : Int32) (hP : PB f h P) : Ct g MX4_freedomOf [.ref h, .int c] f 0 0 (fun r f' => f = f' ∧ r = some (.int (atf 8 (pF P) c))) := cr_freedomOf g f c hP.1 hP.2.2.2.1
theorem cr_colourOf (g : GG) (f : Mm) {h : Nat} {P : PS} {a : Nat → Int32} (c : Int32) (hO : f h = some (PO h P)) (hA : AR f (h + 4) 8 a) : Ct g MX4_colourOf [.ref h, .int c] f 0 0 (fun r f' => f = f' ∧ r = some (.int (atf 8 a c))) := by
  refine Ct.of ok_MX4_colourOf (Nat.le_of_ble_eq_true rfl) ?_
  change Wp g MX4_colourOf 0 [some (.ref h), some (.int c)] [] f 0 0 _
  refine rn_aload_n dX4_colourOf_0 rfl ?_
  refine rn_get dX4_colourOf_1 lfX4_37 hO rfl ?_
  refine rn_iload_n dX4_colourOf_4 rfl ?_
  refine rn_callS dX4_colourOf_5 lmX4_68 ⟨Nat.le_of_ble_eq_true rfl, Nat.le_of_ble_eq_true rfl⟩ (ct_at g f c (by decide) hA) rfl rfl (Nat.le_of_ble_eq_true rfl) ?_
  rintro _ _ ⟨rfl, rfl⟩
  refine rn_iret dX4_colourOf_8 rfl ?_
  exact ⟨rfl, rfl⟩
theorem ct_colourOf (g : GG) (f : Mm) {h : Nat} {P : PS} (c : Int32) (hP : PB f h P) : Ct g MX4_colourOf [.ref h, .int c] f 0 0 (fun r f' => f = f' ∧ r = some (.int (atf 8 (pK P) c))) := cr_colourOf g f c hP.1 hP.2.2.2.2.1
theorem cr_copiesOf (g : GG) (f : Mm) {h : Nat} {P : PS} {a : Nat → Int32} (c : Int32) (hO : f h = some (PO h P)) (hA : AR f (h + 5) 8 a) : Ct g MX4_copiesOf [.ref h, .int c] f 0 0 (fun r f' => f = f' ∧ r = some (.int (atf 8 a c))) := by
  refine Ct.of ok_MX4_copiesOf (Nat.le_of_ble_eq_true rfl) ?_
  change Wp g MX4_copiesOf 0 [some (.ref h), some (.int c)] [] f 0 0 _
  refine rn_aload_n dX4_copiesOf_0 rfl ?_
  refine rn_get dX4_copiesOf_1 lfX4_40 hO rfl ?_
  refine rn_iload_n dX4_copiesOf_4 rfl ?_
  refine rn_callS dX4_copiesOf_5 lmX4_68 ⟨Nat.le_of_ble_eq_true rfl, Nat.le_of_ble_eq_true rfl⟩ (ct_at g f c (by decide) hA) rfl rfl (Nat.le_of_ble_eq_true rfl) ?_
  rintro _ _ ⟨rfl, rfl⟩
  refine rn_iret dX4_copiesOf_8 rfl ?_
  exact ⟨rfl, rfl⟩
theorem ct_copiesOf (g : GG) (f : Mm) {h : Nat} {P : PS} (c : Int32) (hP : PB f h P) : Ct g MX4_copiesOf [.ref h, .int c] f 0 0 (fun r f' => f = f' ∧ r = some (.int (atf 8 (pX P) c))) := cr_copiesOf g f c hP.1 hP.2.2.2.2.2
theorem ct_isHole (g : GG) (f : Mm) {h : Nat} {P : PS} (c : Int32) (hP : PB f h P) : Ct g MX4_isHole [.ref h, .int c] f 0 0 (fun r f' => f = f' ∧ r = some (.int (bI (decide (atf 36 (pC P) c = -1))))) := by
  refine Ct.of ok_MX4_isHole (Nat.le_of_ble_eq_true rfl) ?_
  change Wp g MX4_isHole 0 [some (.ref h), some (.int c)] [] f 0 0 _
  refine rn_aload_n dX4_isHole_0 rfl ?_
  refine rn_iload_n dX4_isHole_1 rfl ?_
  refine rn_callV dX4_isHole_2 lmX4_72 ⟨Nat.le_of_ble_eq_true rfl, Nat.le_of_ble_eq_true rfl⟩ (ct_cellAt g f c hP) hP.1 rfl rfl (Nat.le_of_ble_eq_true rfl) ?_
  rintro _ _ ⟨rfl, rfl⟩
  refine rn_iconst (v := (-1)) dX4_isHole_5 (by decide) ?_
  refine rn_icmp_ne (tgt := 13) dX4_isHole_6 (by decide) (fun c6 => ?_) (fun c6 => ?_)
  · refine rn_iconst (v := nI 0) dX4_isHole_13 (by decide) ?_
    refine rn_zret dX4_isHole_14 rfl rfl ?_
    exact ⟨rfl, by rw [decide_eq_false c6]; rfl⟩
  · refine rn_iconst (v := nI 1) dX4_isHole_9 (by decide) ?_
    refine rn_goto (tgt := 14) dX4_isHole_10 (by decide) ?_
    refine rn_zret dX4_isHole_14 rfl rfl ?_
    exact ⟨rfl, by rw [decide_eq_true c6]; rfl⟩
theorem ct_takesColour (g : GG) (f : Mm) {h : Nat} {P : PS} (c k : Int32) (hP : PB f h P) : Ct g MX4_takesColour [.ref h, .int c, .int k] f 0 0 (fun r f' => f = f' ∧ r = some (.int (bI (decide (atf 36 (pC P) c = 0 ∨ atf 36 (pC P) c = k))))) := by
  refine Ct.of ok_MX4_takesColour (Nat.le_of_ble_eq_true rfl) ?_
  change Wp g MX4_takesColour 0 [some (.ref h), some (.int c), some (.int k), none] [] f 0 0 _
  refine rn_aload_n dX4_takesColour_0 rfl ?_
  refine rn_get dX4_takesColour_1 lfX4_27 hP.1 rfl ?_
  refine rn_iload_n dX4_takesColour_4 rfl ?_
  refine rn_callS dX4_takesColour_5 lmX4_68 ⟨Nat.le_of_ble_eq_true rfl, Nat.le_of_ble_eq_true rfl⟩ (ct_at g f c (by decide) hP.2.1) rfl rfl (Nat.le_of_ble_eq_true rfl) ?_
  rintro _ _ ⟨rfl, rfl⟩
  refine rn_istore_n dX4_takesColour_8 (Nat.le_of_ble_eq_true rfl) rfl ?_
  refine rn_iload_n dX4_takesColour_9 rfl ?_
  refine rn_if_eq (tgt := 18) dX4_takesColour_10 (by decide) (fun c10 => ?_) (fun c10 => ?_)
  · refine rn_iconst (v := nI 1) dX4_takesColour_18 (by decide) ?_
    refine rn_goto (tgt := 23) dX4_takesColour_19 (by decide) ?_
    refine rn_zret dX4_takesColour_23 rfl rfl ?_
    exact ⟨rfl, by rw [decide_eq_true (Or.inl c10)]; rfl⟩
  · refine rn_iload_n dX4_takesColour_13 rfl ?_
    refine rn_iload_n dX4_takesColour_14 rfl ?_
    refine rn_icmp_ne (tgt := 22) dX4_takesColour_15 (by decide) (fun c15 => ?_) (fun c15 => ?_)
    · refine rn_iconst (v := nI 0) dX4_takesColour_22 (by decide) ?_
      refine rn_zret dX4_takesColour_23 rfl rfl ?_
      exact ⟨rfl, by rw [decide_eq_false (fun h => h.elim c10 c15)]; rfl⟩
    · refine rn_iconst (v := nI 1) dX4_takesColour_18 (by decide) ?_
      refine rn_goto (tgt := 23) dX4_takesColour_19 (by decide) ?_
      refine rn_zret dX4_takesColour_23 rfl rfl ?_
      exact ⟨rfl, by rw [decide_eq_true (Or.inr c15)]; rfl⟩
theorem ct_hasPiece (g : GG) (f : Mm) {h : Nat} {P : PS} (c : Int32) (hP : PB f h P) : Ct g MX4_hasPiece [.ref h, .int c] f 0 0 (fun r f' => f = f' ∧ r = some (.int (bI (inR c (pN P))))) := by
  refine Ct.of ok_MX4_hasPiece (Nat.le_of_ble_eq_true rfl) ?_
  change Wp g MX4_hasPiece 0 [some (.ref h), some (.int c)] [] f 0 0 _
  refine rn_iload_n dX4_hasPiece_0 rfl ?_
  refine rn_if_lt (tgt := 16) dX4_hasPiece_1 (by decide) (fun c1 => ?_) (fun c1 => ?_)
  · refine rn_iconst (v := nI 0) dX4_hasPiece_16 (by decide) ?_
    refine rn_zret dX4_hasPiece_17 rfl rfl ?_
    exact ⟨rfl, by rw [show inR c (pN P) = false by simp [inR, c1]]; rfl⟩
  · refine rn_iload_n dX4_hasPiece_4 rfl ?_
    refine rn_aload_n dX4_hasPiece_5 rfl ?_
    refine rn_get dX4_hasPiece_6 lfX4_24 hP.1 rfl ?_
    refine rn_icmp_ge (tgt := 16) dX4_hasPiece_9 (by decide) (fun c9 => ?_) (fun c9 => ?_)
    · refine rn_iconst (v := nI 0) dX4_hasPiece_16 (by decide) ?_
      refine rn_zret dX4_hasPiece_17 rfl rfl ?_
      exact ⟨rfl, by rw [show inR c (pN P) = false by simp [inR, c9]]; rfl⟩
    · refine rn_iconst (v := nI 1) dX4_hasPiece_12 (by decide) ?_
      refine rn_goto (tgt := 17) dX4_hasPiece_13 (by decide) ?_
      refine rn_zret dX4_hasPiece_17 rfl rfl ?_
      exact ⟨rfl, by rw [show inR c (pN P) = true by simp [inR, c1, c9]]; rfl⟩
theorem ct_columnOf (g : GG) (f : Mm) {h j : Nat} {P : PS} (hP : PB f h P) (hV : VD P) (hj : j < 2 ^ 31) : Ct g MX4_columnOf [.ref h, .int (nI j)] f 0 0 (fun r f' => f = f' ∧ r = some (.int (nI (j % pW P)))) := by
  refine Ct.of ok_MX4_columnOf (Nat.le_of_ble_eq_true rfl) ?_
  change Wp g MX4_columnOf 0 [some (.ref h), some (.int (nI j))] [] f 0 0 _
  obtain ⟨v1, v2, -⟩ := hV
  refine rn_aload_n dX4_columnOf_0 rfl ?_
  refine rn_get dX4_columnOf_1 lfX4_9 hP.1 rfl ?_
  refine rn_if_le (tgt := 16) dX4_columnOf_4 (by decide) (fun c4 => ?_) (fun c4 => ?_)
  · refine rn_iconst (v := nI 0) dX4_columnOf_16 (by decide) ?_
    refine rn_iret dX4_columnOf_17 rfl ?_
    exact absurd c4 (nI_nle (by omega) (by omega))
  · refine rn_iload_n dX4_columnOf_7 rfl ?_
    refine rn_aload_n dX4_columnOf_8 rfl ?_
    refine rn_get dX4_columnOf_9 lfX4_9 hP.1 rfl ?_
    refine rn_irem dX4_columnOf_12 (nI_ne0 (by omega) (by omega)) ?_
    refine rn_goto (tgt := 17) dX4_columnOf_13 (by decide) ?_
    refine rn_iret dX4_columnOf_17 rfl ?_
    exact ⟨rfl, by rw [pk_rem hj (by omega) (by omega)]⟩
theorem ct_rowOf (g : GG) (f : Mm) {h j : Nat} {P : PS} (hP : PB f h P) (hV : VD P) (hj : j < 2 ^ 31) : Ct g MX4_rowOf [.ref h, .int (nI j)] f 0 0 (fun r f' => f = f' ∧ r = some (.int (nI (j / pW P)))) := by
  refine Ct.of ok_MX4_rowOf (Nat.le_of_ble_eq_true rfl) ?_
  change Wp g MX4_rowOf 0 [some (.ref h), some (.int (nI j))] [] f 0 0 _
  obtain ⟨v1, v2, -⟩ := hV
  refine rn_aload_n dX4_rowOf_0 rfl ?_
  refine rn_get dX4_rowOf_1 lfX4_9 hP.1 rfl ?_
  refine rn_if_le (tgt := 16) dX4_rowOf_4 (by decide) (fun c4 => ?_) (fun c4 => ?_)
  · refine rn_iconst (v := nI 0) dX4_rowOf_16 (by decide) ?_
    refine rn_iret dX4_rowOf_17 rfl ?_
    exact absurd c4 (nI_nle (by omega) (by omega))
  · refine rn_iload_n dX4_rowOf_7 rfl ?_
    refine rn_aload_n dX4_rowOf_8 rfl ?_
    refine rn_get dX4_rowOf_9 lfX4_9 hP.1 rfl ?_
    refine rn_idiv dX4_rowOf_12 (nI_ne0 (by omega) (by omega)) ?_
    refine rn_goto (tgt := 17) dX4_rowOf_13 (by decide) ?_
    refine rn_iret dX4_rowOf_17 rfl ?_
    exact ⟨rfl, by rw [pk_div hj (by omega) (by omega)]⟩
