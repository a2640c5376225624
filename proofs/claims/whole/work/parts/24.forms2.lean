theorem SS.uniq {a b : Nat → Nat} {n m : Nat} {T U : Nat → Prop} (ha : SS a n T) (hb : SS b m U) (hTU : ∀ x, T x ↔ U x) : n = m ∧ ∀ i, i < n → a i = b i := by
  have key : ∀ i, i < n → i < m → a i = b i := by
    intro i
    induction i using Nat.strongRecOn with
    | ind i ih =>
      intro h1 h2
      have x1 : ∃ j, j < m ∧ b j = a i := (hb.2.1 _).mpr ((hTU _).mp ((ha.2.1 _).mp ⟨i, h1, rfl⟩))
      have x2 : ∃ j, j < n ∧ a j = b i := (ha.2.1 _).mpr ((hTU _).mpr ((hb.2.1 _).mp ⟨i, h2, rfl⟩))
      obtain ⟨j, hj, e1⟩ := x1
      obtain ⟨l, hl, e2⟩ := x2
      have q1 : i ≤ j := Nat.le_of_not_lt fun q => by
        have y1 := ih j q (by omega) hj
        have y2 := ha.1 j i q h1
        omega
      have q2 : i ≤ l := Nat.le_of_not_lt fun q => by
        have y1 := ih l q hl (by omega)
        have y2 := hb.1 l i q h2
        omega
      have r1 : b i ≤ b j := by
        rcases Nat.lt_or_ge i j with q | q
        · exact Nat.le_of_lt (hb.1 i j q hj)
        · rw [show i = j by omega]; exact Nat.le_refl _
      have r2 : a i ≤ a l := by
        rcases Nat.lt_or_ge i l with q | q
        · exact Nat.le_of_lt (ha.1 i l q hl)
        · rw [show i = l by omega]; exact Nat.le_refl _
      omega
  have hnm : n = m := by
    rcases Nat.lt_trichotomy n m with q | q | q
    · exfalso
      obtain ⟨i, hi, e⟩ := (ha.2.1 (b n)).mpr ((hTU _).mpr ((hb.2.1 _).mp ⟨n, q, rfl⟩))
      have y1 := key i hi (by omega)
      have y2 := hb.1 i n hi q
      omega
    · exact q
    · exfalso
      obtain ⟨i, hi, e⟩ := (hb.2.1 (a m)).mpr ((hTU _).mp ((ha.2.1 _).mp ⟨m, q, rfl⟩))
      have y1 := key i (by omega) hi
      have y2 := ha.1 i m hi q
      omega
  exact ⟨hnm, fun i hi => key i hi (by omega)⟩
theorem SS.iff {a : Nat → Nat} {n : Nat} {T U : Nat → Prop} (h : SS a n T) (e : ∀ x, T x ↔ U x) : SS a n U := ⟨h.1, fun x => (h.2.1 x).trans (e x), h.2.2⟩
/-- a shape and its turns -/
def tnl (s : Nat) : Nat → List Nat
  | 0 => []
  | q + 1 => s :: tnl (tnC s) q
theorem ct_insertTurns (g : GG) (f : Mm) {A Z : Nat → Int32} {a : Nat → Nat} {p s n q : Nat} {T : Nat → Prop} (hO : f 53 = some FE) (hA : AR f 54 64 A) (hZ : AR f 55 8 Z) (hp : p < 8) (hs : s ∈ shL) (hn : n + q ≤ 8) (hz : Z p = nI n) (ha : ∀ i, i < n → A (p * 8 + i) = nI (a i)) (hS : SS a n T) : Ct g MX1_insertTurns [.ref 53, .int (nI p), .int (nI s), .int (nI q)] f 0 0 (fun r f' => r = none ∧ (∀ k, k ≠ 54 → k ≠ 55 → f' k = f k) ∧ ∃ (A' : Nat → Int32) (a' : Nat → Nat) (n' : Nat), AR f' 54 64 A' ∧ AR f' 55 8 (upd Z p (nI n')) ∧ n' ≤ n + q ∧ (∀ i, i < n' → A' (p * 8 + i) = nI (a' i)) ∧ (∀ j, (j < p * 8 ∨ p * 8 + 8 ≤ j) → A' j = A j) ∧ SS a' n' (fun x => T x ∨ x ∈ tnl s q)) := by
  refine Ct.of ok_MX1_insertTurns (Nat.le_of_ble_eq_true rfl) ?_
  change Wp g MX1_insertTurns 0 [some (.ref 53), some (.int (nI p)), some (.int (nI s)), some (.int (nI q)), none, none] [] f 0 0 _
  have loop : ∀ (d i : Nat) (f1 : Mm) (t : Nat) (B Y : Nat → Int32) (b : Nat → Nat) (m : Nat) (U : Nat → Prop), q - i = d → i ≤ q → f1 53 = some FE → AR f1 54 64 B → AR f1 55 8 Y → t ∈ shL → m + (q - i) ≤ n + q → Y p = nI m → (∀ j, j ≠ p → Y j = Z j) → (∀ j, j < m → B (p * 8 + j) = nI (b j)) → (∀ j, (j < p * 8 ∨ p * 8 + 8 ≤ j) → B j = A j) → SS b m U → (∀ x, (U x ∨ x ∈ tnl t (q - i)) ↔ (T x ∨ x ∈ tnl s q)) → (∀ k, k ≠ 54 → k ≠ 55 → f1 k = f k) → Wp g MX1_insertTurns 6 [some (.ref 53), some (.int (nI p)), some (.int (nI s)), some (.int (nI q)), some (.int (nI t)), some (.int (nI i))] [] f1 0 0 (fun r f' => r = none ∧ (∀ k, k ≠ 54 → k ≠ 55 → f' k = f k) ∧ ∃ (A' : Nat → Int32) (a' : Nat → Nat) (n' : Nat), AR f' 54 64 A' ∧ AR f' 55 8 (upd Z p (nI n')) ∧ n' ≤ n + q ∧ (∀ i, i < n' → A' (p * 8 + i) = nI (a' i)) ∧ (∀ j, (j < p * 8 ∨ p * 8 + 8 ≤ j) → A' j = A j) ∧ SS a' n' (fun x => T x ∨ x ∈ tnl s q)) := by
    intro d
    induction d using Nat.strongRecOn with
    | ind d ih =>
      intro i f1 t B Y b m U hd hi o1 hB hY ht hm hy hyo hb hbo hU hTU hfr
      have htl := shL_lt t ht
      have htt := shL_turn t ht
      refine rn_iload dX1_insertTurns_6 rfl ?_
      refine rn_iload_n dX1_insertTurns_8 rfl ?_
      refine rn_icmp_ge (tgt := 32) dX1_insertTurns_9 (by decide) (fun c9 => ?_) (fun c9 => ?_)
      · refine rn_vret dX1_insertTurns_32 rfl ?_
        have hi2 := ge_ex c9 (by omega) (by omega)
        refine ⟨rfl, hfr, B, b, m, hB, hY.to (fun j hj => ?_), by omega, hb, hbo, hU.iff (fun x => ?_)⟩
        · unfold upd
          by_cases e : j = p
          · rw [if_pos e, e, hy]
          · rw [if_neg e, hyo j e]
        · have z := hTU x
          rw [show q - i = 0 by omega] at z
          simpa [tnl] using z
      · have hi2 := ge_in c9 (by omega)
        refine rn_aload_n dX1_insertTurns_12 rfl ?_
        refine rn_iload_n dX1_insertTurns_13 rfl ?_
        refine rn_iload dX1_insertTurns_14 rfl ?_
        refine rn_callV dX1_insertTurns_16 lmX1_44 ⟨Nat.le_of_ble_eq_true rfl, Nat.le_of_ble_eq_true rfl⟩ (ct_insert g f1 o1 hB hY hp htl.1 (show m < 8 by omega) hy hb hU) o1 rfl rfl (Nat.le_of_ble_eq_true rfl) ?_
        rintro _ f2 ⟨rfl, k2, B2, b2, m2, hB2, hY2, hm2, hb2, hbo2, hU2⟩
        refine rn_iload dX1_insertTurns_19 rfl ?_
        refine rn_callS dX1_insertTurns_21 lmX1_48 ⟨Nat.le_of_ble_eq_true rfl, Nat.le_of_ble_eq_true rfl⟩ (ct_turn g f2 htl.1) rfl rfl (Nat.le_of_ble_eq_true rfl) ?_
        rintro _ _ ⟨rfl, rfl⟩
        refine rn_istore dX1_insertTurns_24 (Nat.le_of_ble_eq_true rfl) rfl ?_
        refine rn_iinc (v := nI (i + 1)) dX1_insertTurns_26 rfl (nI_1 i) (Nat.le_of_ble_eq_true rfl) rfl ?_
        refine rn_goto (tgt := 6) dX1_insertTurns_29 (by decide) ?_
        refine ih (q - (i + 1)) (by omega) (i + 1) f2 (tnC t) B2 _ b2 m2 _ rfl (by omega) ((k2 53 (by decide) (by decide)).trans o1) hB2 hY2 htt.1 (by omega) ?_ (fun j hj => ?_) hb2 (fun j hj => (hbo2 j hj).trans (hbo j hj)) hU2 (fun x => ?_) (fun k x y => (k2 k x y).trans (hfr k x y))
        · simp [upd]
        · simp [upd, hj]; exact hyo j hj
        · rw [← hTU x, show q - i = (q - (i + 1)) + 1 by omega, tnl, List.mem_cons]
          exact ⟨fun z => z.elim (fun z => z.elim Or.inl (fun z => Or.inr (Or.inl z))) (fun z => Or.inr (Or.inr z)), fun z => z.elim (fun z => Or.inl (Or.inl z)) (fun z => z.elim (fun z => Or.inl (Or.inr z)) Or.inr)⟩
  refine rn_iload_n dX1_insertTurns_0 rfl ?_
  refine rn_istore dX1_insertTurns_1 (Nat.le_of_ble_eq_true rfl) rfl ?_
  refine rn_iconst (v := nI 0) dX1_insertTurns_3 (by decide) ?_
  refine rn_istore dX1_insertTurns_4 (Nat.le_of_ble_eq_true rfl) rfl ?_
  exact loop q 0 f s A Z a n T rfl (by omega) hO hA hZ hs (by omega) hz (fun _ _ => rfl) ha (fun _ _ => rfl) hS (fun x => by rw [Nat.sub_zero]) (fun _ _ _ => rfl)
-- valid pieces, by their numbers
def VN (P : PS) (sh fr co cp : Nat → Nat) : Prop := ∀ p, p < pN P → pS P p = nI (sh p) ∧ sh p ∈ shL ∧ pF P p = nI (fr p) ∧ fr p < 3 ∧ pK P p = nI (co p) ∧ co p < 4 ∧ pX P p = nI (cp p) ∧ 1 ≤ cp p ∧ cp p ≤ 9
def fmA (s fr i : Nat) : Nat := (FM s fr).getD i 0
def fmN (s fr : Nat) : Nat := (FM s fr).length
/-- the set of the class's forms -/
def fsC (s fr : Nat) : List Nat := tnl s (if 1 ≤ fr then 4 else 1) ++ tnl (miC s) (if fr = 2 then 4 else 0)
theorem FM_ss : ∀ s ∈ shL, ∀ fr, fr < 3 → SS (fmA s fr) (fmN s fr) (fun x => x ∈ fsC s fr) := by
  have h1 : ∀ s ∈ shL, ∀ fr : Fin 3, (∀ i : Fin (fmN s fr.val), ∀ j : Fin (fmN s fr.val), i.val < j.val → fmA s fr.val i.val < fmA s fr.val j.val) ∧ (∀ x ∈ fsC s fr.val, x ∈ FM s fr.val) ∧ (∀ x ∈ FM s fr.val, x ∈ fsC s fr.val) ∧ ∀ x ∈ FM s fr.val, x < 65536 := by decide +kernel
  intro s hs fr hf
  obtain ⟨q1, q2, q3, q4⟩ := h1 s hs ⟨fr, hf⟩
  have mem : ∀ i, i < fmN s fr → fmA s fr i ∈ FM s fr := fun i hi => by
    unfold fmA
    rw [List.getD_eq_getElem?_getD, List.getElem?_eq_getElem hi]
    exact List.getElem_mem hi
  refine ⟨fun i j hij hj => q1 ⟨i, Nat.lt_trans hij hj⟩ ⟨j, hj⟩ hij, fun x => ⟨?_, fun hx => ?_⟩, fun i hi => q4 _ (mem i hi)⟩
  · rintro ⟨i, hi, rfl⟩
    exact q3 _ (mem i hi)
  · obtain ⟨i, hi, e⟩ := List.getElem_of_mem (q2 x hx)
    refine ⟨i, hi, ?_⟩
    unfold fmA
    rw [List.getD_eq_getElem?_getD, List.getElem?_eq_getElem hi]
    exact e
theorem fmN_le : ∀ s ∈ shL, ∀ fr, fr < 3 → fmN s fr ≤ 8 := fun s hs fr hf => (FM_in s hs fr hf).1
/-- the forms are there -/
def FF (f : Mm) (N : Nat) (sh fr : Nat → Nat) : Prop := f 53 = some FE ∧ ∃ A Z, AR f 54 64 A ∧ AR f 55 8 Z ∧ (∀ p, p < 8 → Z p = nI (if p < N then fmN (sh p) (fr p) else 0)) ∧ ∀ p, p < N → ∀ i, i < fmN (sh p) (fr p) → A (p * 8 + i) = nI (fmA (sh p) (fr p) i)
theorem ct_fill1 (g : GG) (f : Mm) {A Z : Nat → Int32} {P : PS} {sh fr co cp : Nat → Nat} (hO : f 53 = some FE) (hA : AR f 54 64 A) (hZ : AR f 55 8 Z) (hP : PB f 1 P) (hV : VD P) (hN : VN P sh fr co cp) : Ct g MX1_fill [.ref 53, .ref 1] f 0 0 (fun r f' => r = none ∧ (∀ k, k ≠ 54 → k ≠ 55 → f' k = f k) ∧ FF f' (pN P) sh fr) := by
  refine Ct.of ok_MX1_fill (Nat.le_of_ble_eq_true rfl) ?_
  change Wp g MX1_fill 0 [some (.ref 53), some (.ref 1), none, none, none] [] f 0 0 _
  have v8 := hV.2.2.2.2
  have loop : ∀ (d i : Nat) (f1 : Mm) (B Y : Nat → Int32) (w3 w4 : Option Value), 8 - i = d → i ≤ 8 → f1 53 = some FE → AR f1 54 64 B → AR f1 55 8 Y → PB f1 1 P → (∀ p, p < i → Y p = nI (if p < pN P then fmN (sh p) (fr p) else 0)) → (∀ p, p < i → p < pN P → ∀ j, j < fmN (sh p) (fr p) → B (p * 8 + j) = nI (fmA (sh p) (fr p) j)) → (∀ k, k ≠ 54 → k ≠ 55 → f1 k = f k) → Wp g MX1_fill 2 [some (.ref 53), some (.ref 1), some (.int (nI i)), w3, w4] [] f1 0 0 (fun r f' => r = none ∧ (∀ k, k ≠ 54 → k ≠ 55 → f' k = f k) ∧ FF f' (pN P) sh fr) := by
    intro d
    induction d using Nat.strongRecOn with
    | ind d ih =>
      intro i f1 B Y w3 w4 hd hi o1 hB hY hP1 hy hb hfr
      refine Wp.sub (lv' := [some (.ref 53), some (.ref 1), some (.int (nI i)), none, none]) (fun i v hv => ?_) ?_
      · match i, hv with
        | 0, hv => exact hv
        | 1, hv => exact hv
        | 2, hv => exact hv
        | 3, hv => cases hv
        | 4, hv => cases hv
      have tail2 : ∀ (q2 : Nat) (f3 : Mm) (B3 Y3 : Nat → Int32) (a3 : Nat → Nat) (m3 : Nat), i < pN P → i < 8 → q2 = (if fr i = 2 then 4 else 0) → f3 53 = some FE → AR f3 54 64 B3 → AR f3 55 8 Y3 → (∀ k, k ≠ 54 → k ≠ 55 → f3 k = f k) → PB f3 1 P → m3 ≤ 4 → Y3 i = nI m3 → (∀ j, j ≠ i → Y3 j = Y j) → (∀ j, j < m3 → B3 (i * 8 + j) = nI (a3 j)) → (∀ j, (j < i * 8 ∨ i * 8 + 8 ≤ j) → B3 j = B j) → SS a3 m3 (fun x => x ∈ tnl (sh i) (if 1 ≤ fr i then 4 else 1)) → Wp g MX1_fill 72 [some (.ref 53), some (.ref 1), some (.int (nI i)), some (.int (nI (sh i))), some (.int (nI (fr i)))] [.int (nI q2), .int (nI (miC (sh i))), .int (nI i), .ref 53] f3 0 0 (fun r f' => r = none ∧ (∀ k, k ≠ 54 → k ≠ 55 → f' k = f k) ∧ FF f' (pN P) sh fr) := by
        intro q2 f3 B3 Y3 a3 m3 hiN hi8 hq o3 hB3 hY3 hfr3 hP3 hm3 hy3 hyo3 hb3 hbo3 hS3
        obtain ⟨n1, n2, n3, n4, n5, n6, n7, n8, n9⟩ := hN i hiN
        have hq4 : q2 ≤ 4 := by rw [hq]; split <;> omega
        refine rn_callV dX1_fill_72 lmX1_35 ⟨Nat.le_of_ble_eq_true rfl, Nat.le_of_ble_eq_true rfl⟩ (ct_insertTurns g f3 o3 hB3 hY3 hi8 (shL_turn _ n2).2.1 (show m3 + q2 ≤ 8 by omega) hy3 hb3 hS3) o3 rfl rfl (Nat.le_of_ble_eq_true rfl) ?_
        rintro _ f4 ⟨rfl, k4, B4, a4, m4, hB4, hY4, hm4, hb4, hbo4, hS4⟩
        refine rn_iinc (v := nI (i + 1)) dX1_fill_75 rfl (nI_1 i) (Nat.le_of_ble_eq_true rfl) rfl ?_
        refine rn_goto (tgt := 2) dX1_fill_78 (by decide) ?_
        obtain ⟨u1, u2⟩ := hS4.uniq (FM_ss _ n2 _ n4) (fun x => by rw [fsC, List.mem_append, hq])
        refine ih (8 - (i + 1)) (by omega) (i + 1) f4 B4 _ (some (.int (nI (sh i)))) (some (.int (nI (fr i)))) rfl (by omega) ((k4 53 (by decide) (by decide)).trans o3) hB4 hY4 (hP3.keep (fun k x y => k4 k (by omega) (by omega))) (fun p hp => ?_) (fun p hp hpn j hj => ?_) (fun k x y => (k4 k x y).trans (hfr3 k x y))
        · by_cases e : p = i
          · subst e; simp [upd, hiN, u1]
          · simp only [upd, e, if_false]; rw [hyo3 p e]; exact hy p (by omega)
        · by_cases e : p = i
          · subst e; rw [hb4 j (by rw [u1]; exact hj), u2 j (by rw [u1]; exact hj)]
          · have hj8 := fmN_le _ (hN p hpn).2.1 _ (hN p hpn).2.2.2.1
            rw [hbo4 _ (by omega), hbo3 _ (by omega)]; exact hb p (by omega) hpn j hj
      have tail : ∀ (q1 : Nat) (f2 : Mm), i < pN P → i < 8 → q1 = (if 1 ≤ fr i then 4 else 1) → f2 53 = some FE → AR f2 54 64 B → AR f2 55 8 (upd Y i (nI 0)) → (∀ k, k ≠ 54 → k ≠ 55 → f2 k = f k) → PB f2 1 P → Wp g MX1_fill 52 [some (.ref 53), some (.ref 1), some (.int (nI i)), some (.int (nI (sh i))), some (.int (nI (fr i)))] [.int (nI q1), .int (nI (sh i)), .int (nI i), .ref 53] f2 0 0 (fun r f' => r = none ∧ (∀ k, k ≠ 54 → k ≠ 55 → f' k = f k) ∧ FF f' (pN P) sh fr) := by
        intro q1 f2 hiN hi8 hq o2 hB2 a2 hfr2 hP2
        obtain ⟨n1, n2, n3, n4, n5, n6, n7, n8, n9⟩ := hN i hiN
        have hq4 : q1 ≤ 4 := by rw [hq]; split <;> omega
        refine rn_callV dX1_fill_52 lmX1_35 ⟨Nat.le_of_ble_eq_true rfl, Nat.le_of_ble_eq_true rfl⟩ (ct_insertTurns g f2 (a := fun _ => 0) (n := 0) (T := fun _ => False) o2 hB2 a2 hi8 n2 (by omega) (by simp [upd]) (fun j hj => absurd hj (by omega)) ⟨fun i j _ h => absurd h (by omega), fun x => ⟨fun ⟨j, h, _⟩ => absurd h (by omega), fun h => h.elim⟩, fun j h => absurd h (by omega)⟩) o2 rfl rfl (Nat.le_of_ble_eq_true rfl) ?_
        rintro _ f3 ⟨rfl, k3, B3, a3, m3, hB3, hY3, hm3, hb3, hbo3, hS3⟩
        have o3 := (k3 53 (by decide) (by decide)).trans o2
        refine rn_aload_n dX1_fill_55 rfl ?_
        refine rn_iload_n dX1_fill_56 rfl ?_
        refine rn_iload_n dX1_fill_57 rfl ?_
        refine rn_callS dX1_fill_58 lmX1_39 ⟨Nat.le_of_ble_eq_true rfl, Nat.le_of_ble_eq_true rfl⟩ (ct_mirror g f3 (shL_lt _ n2).1) rfl rfl (Nat.le_of_ble_eq_true rfl) ?_
        rintro _ _ ⟨rfl, rfl⟩
        refine rn_iload dX1_fill_61 rfl ?_
        refine rn_iconst (v := nI 2) dX1_fill_63 (by decide) ?_
        refine rn_icmp_ne (tgt := 71) dX1_fill_64 (by decide) (fun c64 => ?_) (fun c64 => ?_)
        · refine rn_iconst (v := nI 0) dX1_fill_71 (by decide) ?_
          have hne : ¬ fr i = 2 := fun e => c64 (by rw [e])
          exact tail2 0 f3 B3 _ a3 m3 hiN hi8 (by rw [if_neg hne]) o3 hB3 hY3 (fun k x y => (k3 k x y).trans (hfr2 k x y)) (hP2.keep (fun k x y => k3 k (by omega) (by omega))) (by omega) (by simp [upd]) (fun j hj => by simp [upd, hj]) hb3 hbo3 (hS3.iff (fun x => by rw [hq]; simp))
        · refine rn_iconst (v := nI 4) dX1_fill_67 (by decide) ?_
          refine rn_goto (tgt := 72) dX1_fill_68 (by decide) ?_
          have he : fr i = 2 := (nI_eq (by omega) (by decide)).mp c64
          exact tail2 4 f3 B3 _ a3 m3 hiN hi8 (by rw [if_pos he]) o3 hB3 hY3 (fun k x y => (k3 k x y).trans (hfr2 k x y)) (hP2.keep (fun k x y => k3 k (by omega) (by omega))) (by omega) (by simp [upd]) (fun j hj => by simp [upd, hj]) hb3 hbo3 (hS3.iff (fun x => by rw [hq]; simp))
      refine rn_iload_n dX1_fill_2 rfl ?_
      refine rn_bipush (v := nI 8) dX1_fill_3 (by decide) ?_
      refine rn_icmp_ge (tgt := 81) dX1_fill_5 (by decide) (fun c5 => ?_) (fun c5 => ?_)
      · refine rn_vret dX1_fill_81 rfl ?_
        have hi8 := ge_ex c5 (by omega) (by decide)
        exact ⟨rfl, hfr, o1, B, Y, hB, hY, fun p hp => hy p (by omega), fun p hp => hb p (by omega) hp⟩
      · have hi8 := ge_in c5 (by omega)
        refine rn_aload_n dX1_fill_8 rfl ?_
        refine rn_get dX1_fill_9 lfX1_15 o1 rfl ?_
        refine rn_iload_n dX1_fill_12 rfl ?_
        refine rn_iconst (v := nI 0) dX1_fill_13 (by decide) ?_
        refine rn_callS dX1_fill_14 lmX1_18 ⟨Nat.le_of_ble_eq_true rfl, Nat.le_of_ble_eq_true rfl⟩ (ct_put g f1 (nI i) (nI 0) (by decide) hY) rfl rfl (Nat.le_of_ble_eq_true rfl) ?_
        rintro _ f2 ⟨rfl, a2, k2⟩
        rw [ptf_nI hi8 (by decide)] at a2
        have o2 := (k2 53 (by decide)).trans o1
        have hP2 : PB f2 1 P := hP1.keep (fun k x y => k2 k (by omega))
        have hB2 := hB.keep (k2 54 (by decide))
        have hfr2 : ∀ k, k ≠ 54 → k ≠ 55 → f2 k = f k := fun k x y => (k2 k y).trans (hfr k x y)
        refine rn_aload_n dX1_fill_17 rfl ?_
        refine rn_iload_n dX1_fill_18 rfl ?_
        refine rn_callV dX1_fill_19 lmX1_22 ⟨Nat.le_of_ble_eq_true rfl, Nat.le_of_ble_eq_true rfl⟩ (ct_hasPiece g f2 (nI i) hP2) hP2.1 rfl rfl (Nat.le_of_ble_eq_true rfl) ?_
        rintro _ _ ⟨rfl, rfl⟩
        refine rn_if_eq (tgt := 75) dX1_fill_22 (by decide) (fun c22 => ?_) (fun c22 => ?_)
        · refine rn_iinc (v := nI (i + 1)) dX1_fill_75 rfl (nI_1 i) (Nat.le_of_ble_eq_true rfl) rfl ?_
          refine rn_goto (tgt := 2) dX1_fill_78 (by decide) ?_
          have hiN : ¬ i < pN P := fun q => by
            have := inR_nI q (by omega)
            rw [bI_0.mp c22] at this
            cases this
          refine ih (8 - (i + 1)) (by omega) (i + 1) f2 B _ none none rfl (by omega) o2 hB2 a2 hP2 (fun p hp => ?_) (fun p hp hpn j hj => hb p (by omega) hpn j hj) hfr2
          by_cases e : p = i
          · subst e; simp [upd, hiN]
          · simp only [upd, e, if_false]; exact hy p (by omega)
        · obtain ⟨j, hj, ej⟩ := (inR_iff (by omega)).mp (bI_n0.mp c22)
          have hiN : i < pN P := by rw [(nI_eq (by omega) (by omega)).mp ej]; exact hj
          obtain ⟨n1, n2, n3, n4, n5, n6, n7, n8, n9⟩ := hN i hiN
          refine rn_aload_n dX1_fill_25 rfl ?_
          refine rn_iload_n dX1_fill_26 rfl ?_
          refine rn_callV dX1_fill_27 lmX1_28 ⟨Nat.le_of_ble_eq_true rfl, Nat.le_of_ble_eq_true rfl⟩ (ct_shapeOf g f2 (nI i) hP2) hP2.1 rfl rfl (Nat.le_of_ble_eq_true rfl) ?_
          rintro _ _ ⟨rfl, rfl⟩
          rw [atf_nI (by omega) (by decide), n1]
          refine rn_istore_n dX1_fill_30 (Nat.le_of_ble_eq_true rfl) rfl ?_
          refine rn_aload_n dX1_fill_31 rfl ?_
          refine rn_iload_n dX1_fill_32 rfl ?_
          refine rn_callV dX1_fill_33 lmX1_32 ⟨Nat.le_of_ble_eq_true rfl, Nat.le_of_ble_eq_true rfl⟩ (ct_freedomOf g f2 (nI i) hP2) hP2.1 rfl rfl (Nat.le_of_ble_eq_true rfl) ?_
          rintro _ _ ⟨rfl, rfl⟩
          rw [atf_nI (by omega) (by decide), n3]
          refine rn_istore dX1_fill_36 (Nat.le_of_ble_eq_true rfl) rfl ?_
          refine rn_aload_n dX1_fill_38 rfl ?_
          refine rn_iload_n dX1_fill_39 rfl ?_
          refine rn_iload_n dX1_fill_40 rfl ?_
          refine rn_iload dX1_fill_41 rfl ?_
          refine rn_iconst (v := nI 1) dX1_fill_43 (by decide) ?_
          refine rn_icmp_lt (tgt := 51) dX1_fill_44 (by decide) (fun c44 => ?_) (fun c44 => ?_)
          · refine rn_iconst (v := nI 1) dX1_fill_51 (by decide) ?_
            have hlt : ¬ 1 ≤ fr i := fun q => absurd c44 (nI_nlt q (by omega))
            exact tail 1 f2 hiN hi8 (by rw [if_neg hlt]) o2 hB2 a2 hfr2 hP2
          · refine rn_iconst (v := nI 4) dX1_fill_47 (by decide) ?_
            refine rn_goto (tgt := 52) dX1_fill_48 (by decide) ?_
            have hge : 1 ≤ fr i := Nat.le_of_not_lt fun q => c44 (nI_lt q (by decide))
            exact tail 4 f2 hiN hi8 (by rw [if_pos hge]) o2 hB2 a2 hfr2 hP2
  refine rn_iconst (v := nI 0) dX1_fill_0 (by decide) ?_
  refine rn_istore_n dX1_fill_1 (Nat.le_of_ble_eq_true rfl) rfl ?_
  exact loop 8 0 f A Z none none rfl (by omega) hO hA hZ hP (fun p hp => absurd hp (by omega)) (fun p hp => absurd hp (by omega)) (fun _ _ _ => rfl)
