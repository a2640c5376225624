-- what a text that is read keeps
def q4k (e : Q4) : Prop := e.1 ∈ shL ∧ e.2.1 < 3 ∧ e.2.2.1 ≤ 3 ∧ 1 ≤ e.2.2.2 ∧ e.2.2.2 ≤ 9
theorem pcF_ok {T : List Nat} {p : Nat} (h : (pcF T p).1 = true) : q4k (pcF T p).2.2 := by
  unfold pcF at h ⊢
  by_cases h1 : (zS T p).1 = false
  · rw [if_pos h1] at h; cases h
  · rw [if_neg h1] at h ⊢
    by_cases h2 : okC (shS T p) = false
    · rw [if_pos h2] at h; cases h
    · rw [if_neg h2] at h ⊢
      have hz : (zS T p).1 = true := by cases hh : (zS T p).1 <;> simp_all
      have hk : okC (shS T p) = true := by cases hh : okC (shS T p) <;> simp_all
      have hs := shS_lt T p (rl T false 4 p) (zS T p).2.1 16
      obtain ⟨-, o1, o2, o3⟩ := otk_le (T := T) 3 (x := ((zS T p).2.2, 0, 0, 0)) (rwS_le hz).1 ⟨Nat.le_of_ble_eq_true rfl, Nat.zero_le _, Nat.zero_le _⟩
      refine ⟨(ok_norm (s := shS T p) (by omega) hk).2, o1, o2, ?_, ?_⟩
      · show 1 ≤ (if (otk T 3 ((zS T p).2.2, 0, 0, 0)).2.2.2.2 = 0 then 1 else (otk T 3 ((zS T p).2.2, 0, 0, 0)).2.2.2.2)
        split
        · omega
        · omega
      · show (if (otk T 3 ((zS T p).2.2, 0, 0, 0)).2.2.2.2 = 0 then 1 else (otk T 3 ((zS T p).2.2, 0, 0, 0)).2.2.2.2) ≤ 9
        split
        · omega
        · exact o3
theorem outc_ok {T : List Nat} : ∀ (n : Nat) {p : Nat} {L L' : List Q4}, outc T n p L = .inr L' → (∀ e ∈ L, q4k e) → (∀ e ∈ L', q4k e) ∧ L'.length ≤ L.length + n
  | 0, p, L, L', h, hL => by
    rw [outc] at h
    split at h
    · cases h; exact ⟨hL, by omega⟩
    · cases h
  | n + 1, p, L, L', h, hL => by
    rw [outc] at h
    split at h
    · split at h
      · rename_i h1
        have := outc_ok n h (fun e he => by
          rcases List.mem_append.mp he with q | q
          · exact hL e q
          · rw [List.mem_singleton.mp q]; exact pcF_ok h1)
        refine ⟨this.1, ?_⟩
        have h2 := this.2
        rw [List.length_append, List.length_singleton] at h2
        omega
      · cases h
    · split at h
      · cases h; exact ⟨hL, by omega⟩
      · cases h
theorem VPc.load {T : List Nat} {L : List Q4} {D : PS} (ho : outL T = .inr L) (hD : DRq T L D) (hm : pMd D ≤ 1) (hr : pRu D ≤ 1) : VPc D := by
  unfold outL at ho
  split at ho
  · rename_i h1
    obtain ⟨k1, k2⟩ := outc_ok 8 ho (fun e he => by cases he)
    obtain ⟨d1, d2, d3, d4, d5⟩ := hD
    have w1 := (rwS_le h1).2
    have w6 := rl_le T true 6 0
    have r1 := rwS_r (T := T) (b := true) (most := 6) (p := 0) (by omega)
    have k3 : L.length ≤ 8 := by simpa using k2
    refine ⟨⟨by omega, by omega, by omega, by omega, by omega⟩, fun q hq => ?_, hm, hr⟩
    have hq2 : q < L.length := by omega
    have hg : L[q]? = some L[q] := List.getElem?_eq_getElem hq2
    obtain ⟨a, b, c, d⟩ := d5 q _ hg
    obtain ⟨e1, e2, e3, e4, e5⟩ := k1 _ (List.getElem_mem hq2)
    have hlt := (shL_lt _ e1).1
    unfold shP frP coP cpP
    rw [a, b, c, d, nI_clamp (by omega), nI_clamp (by omega), nI_clamp (by omega), nI_clamp (by omega)]
    exact ⟨rfl, e1, rfl, e2, rfl, by omega, rfl, e4, e5⟩
  · cases ho
