-- what a problem keeps
theorem nI_rt {k : Nat} (h : k < 2 ^ 31) : nI k = nI (nI k).toNatClampNeg := by rw [nI_clamp h]
theorem VPc.mode {P : PS} {m : Nat} (h : VPc P) (hm : m ≤ 1) : VPc (pMode P m) := ⟨h.1, h.2.1, hm, h.2.2.2⟩
theorem VPc.rule {P : PS} {m : Nat} (h : VPc P) (hm : m ≤ 1) : VPc (pRule P m) := ⟨h.1, h.2.1, h.2.2.1, hm⟩
theorem VPc.board {P : PS} {w t : Nat} (h : VPc P) (w1 : 1 ≤ w) (w6 : w ≤ 6) (t1 : 1 ≤ t) (t6 : t ≤ 6) : VPc (pBoard P w t) := ⟨⟨w1, w6, t1, t6, h.1.2.2.2.2⟩, h.2.1, h.2.2.1, h.2.2.2⟩
theorem VPc.cell {P : PS} {c : Nat} {v : Int32} (h : VPc P) : VPc (pCell P c v) := ⟨h.1, h.2.1, h.2.2.1, h.2.2.2⟩
theorem VPc.cop {P : PS} {p k : Nat} (h : VPc P) (h1 : 1 ≤ k) (h9 : k ≤ 9) : VPc (pCop P p (nI k)) := by
  refine ⟨h.1, fun q hq => ?_, h.2.2.1, h.2.2.2⟩
  obtain ⟨a1, a2, a3, a4, a5, a6, a7, a8, a9⟩ := h.2.1 q hq
  refine ⟨a1, a2, a3, a4, a5, a6, ?_⟩
  show upd (pX P) p (nI k) q = nI (upd (pX P) p (nI k) q).toNatClampNeg ∧ 1 ≤ (upd (pX P) p (nI k) q).toNatClampNeg ∧ (upd (pX P) p (nI k) q).toNatClampNeg ≤ 9
  by_cases e : q = p
  · rw [e, upd_eq, nI_clamp (by omega)]; exact ⟨rfl, h1, h9⟩
  · rw [upd_ne e]; exact ⟨a7, a8, a9⟩
theorem VPc.add {P : PS} {s0 a b : Nat} (h : VPc P) (hn : pN P < 8) (hs : s0 ∈ shL) (ha : a ≤ 2) (hb : b ≤ 3) : VPc (pAdd P (nI s0) (nI a) (nI b) (nI 1)) := by
  have hlt := (shL_lt _ hs).1
  refine ⟨⟨h.1.1, h.1.2.1, h.1.2.2.1, h.1.2.2.2.1, hn⟩, fun q hq => ?_, h.2.2.1, h.2.2.2⟩
  have hq2 : q < pN P + 1 := hq
  show upd (pS P) (pN P) (nI s0) q = nI (upd (pS P) (pN P) (nI s0) q).toNatClampNeg ∧ (upd (pS P) (pN P) (nI s0) q).toNatClampNeg ∈ shL ∧ upd (pF P) (pN P) (nI a) q = nI (upd (pF P) (pN P) (nI a) q).toNatClampNeg ∧ (upd (pF P) (pN P) (nI a) q).toNatClampNeg < 3 ∧ upd (pK P) (pN P) (nI b) q = nI (upd (pK P) (pN P) (nI b) q).toNatClampNeg ∧ (upd (pK P) (pN P) (nI b) q).toNatClampNeg < 4 ∧ upd (pX P) (pN P) (nI 1) q = nI (upd (pX P) (pN P) (nI 1) q).toNatClampNeg ∧ 1 ≤ (upd (pX P) (pN P) (nI 1) q).toNatClampNeg ∧ (upd (pX P) (pN P) (nI 1) q).toNatClampNeg ≤ 9
  by_cases e : q = pN P
  · rw [e, upd_eq, upd_eq, upd_eq, upd_eq, nI_clamp (by omega), nI_clamp (by omega), nI_clamp (by omega), nI_clamp (by omega)]
    exact ⟨rfl, hs, rfl, by omega, rfl, by omega, rfl, by omega, by omega⟩
  · rw [upd_ne e, upd_ne e, upd_ne e, upd_ne e]
    exact h.2.1 q (by omega)
theorem VPc.drop {P S : PS} {p : Nat} (h : VPc P) (hp : p < pN P) (hD : isDrop P p S) : VPc S := by
  obtain ⟨e1, e2, e3, e4, e5, e6, e7⟩ := hD
  have v8 := h.1.2.2.2.2
  refine ⟨⟨by rw [e1]; exact h.1.1, by rw [e1]; exact h.1.2.1, by rw [e2]; exact h.1.2.2.1, by rw [e2]; exact h.1.2.2.2.1, by omega⟩, fun q hq => ?_, by rw [e3]; exact h.2.2.1, by rw [e4]; exact h.2.2.2⟩
  obtain ⟨a, b, c, d⟩ := e7 q (by omega)
  unfold shP frP coP cpP
  rw [a, b, c, d]
  unfold drp
  by_cases e : q < p
  · rw [if_pos e, if_pos e, if_pos e, if_pos e]; exact h.2.1 q (by omega)
  · rw [if_neg e, if_neg e, if_neg e, if_neg e]; exact h.2.1 (q + 1) (by omega)
