-- what a problem keeps
theorem nI_rt {k : Nat} (h : k < 2 ^ 31) : nI k = nI (nI k).toNatClampNeg := by rw [nI_clamp h]
theorem VPc.mode {P : PS} {m : Nat} (h : VPc P) (hm : m ≤ 1) : VPc (pMode P m) := ⟨h.1, h.2.1, hm, h.2.2.2⟩
theorem VPc.rule {P : PS} {m : Nat} (h : VPc P) (hm : m ≤ 1) : VPc (pRule P m) := ⟨h.1, h.2.1, h.2.2.1, hm⟩
theorem VPc.board {P : PS} {w t : Nat} (h : VPc P) (w1 : 1 ≤ w) (w6 : w ≤ 6) (t1 : 1 ≤ t) (t6 : t ≤ 6) : VPc (pBoard P w t) := ⟨⟨w1, w6, t1, t6, h.1.2.2.2.2⟩, h.2.1, h.2.2.1, h.2.2.2⟩
theorem VPc.cell {P : PS} {c : Nat} {v : Int32} (h : VPc P) : VPc (pCell P c v) := ⟨h.1, h.2.1, h.2.2.1, h.2.2.2⟩
theorem VPc.cop {P : PS} {p k : Nat} (h : VPc P) (h1 : 1 ≤ k) (h9 : k ≤ 9) : VPc (pCop P p (nI k)) := by
  refine ⟨h.1, fun q hq => ?_, h.2.2.1, h.2.2.2⟩
  obtain ⟨a1, a2, a3, a4, a5, a6, a7, a8, a9⟩ := h.2.1 q hq
  refine ⟨a1, a2, a3, a4, a5, a6, ?_⟩
  show upd (pX P) p (nI k) q = nI (upd (pX P) p (nI k) q).toNatClampNeg ∧ 1 ≤ (upd (pX P) p (nI k) q).toNatClampNeg ∧ (upd (pX P) p (nI k) q).toNatClampNeg ≤ 9
  by_cases e : q = p
  · rw [e, upd_eq, nI_clamp (by omega)]; exact ⟨rfl, h1, h9⟩
  · rw [upd_ne e]; exact ⟨a7, a8, a9⟩
