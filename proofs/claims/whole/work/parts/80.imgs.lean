-- symmetries and their inverses
def invS (q : Nat) : Nat := if q = 5 then 6 else if q = 6 then 5 else q
theorem dm {W x : Nat} (y : Nat) (hx : x < W) : (y * W + x) % W = x ∧ (y * W + x) / W = y := by
  constructor
  · rw [Nat.add_comm, Nat.add_mul_mod_self_right, Nat.mod_eq_of_lt hx]
  · rw [Nat.add_comm, Nat.add_mul_div_right _ _ (by omega), Nat.div_eq_of_lt hx, Nat.zero_add]
theorem img_inv {P : PS} {q c : Nat} (hV : VD P) (hq : q < 8) (hs : symOk P q = true) (hc : c < pW P * pH P) : img P (invS q) (img P q c) = c := by
  obtain ⟨v1, v2, v3, v4, -⟩ := hV
  have hx : c % pW P < pW P := Nat.mod_lt _ (by omega)
  have hy : c / pW P < pH P := Nat.div_lt_of_lt_mul hc
  have hfl : pH P - 1 - (pH P - 1 - c / pW P) = c / pW P := Nat.sub_sub_self (Nat.le_pred_of_lt hy)
  have hcc : c / pW P * pW P + c % pW P = c := by rw [Nat.mul_comm]; exact Nat.div_add_mod c (pW P)
  have i0 : ∀ c, img P 0 c = c / pW P * pW P + c % pW P := fun c => rfl
  have i1 : ∀ c, img P 1 c = c / pW P * pW P + (pW P - 1 - c % pW P) := fun c => rfl
  have i2 : ∀ c, img P 2 c = (pH P - 1 - c / pW P) * pW P + c % pW P := fun c => rfl
  have i3 : ∀ c, img P 3 c = (pH P - 1 - c / pW P) * pW P + (pW P - 1 - c % pW P) := fun c => rfl
  have i4 : ∀ c, img P 4 c = c % pW P * pW P + c / pW P := fun c => rfl
  have i5 : ∀ c, img P 5 c = (pW P - 1 - c % pW P) * pW P + c / pW P := fun c => rfl
  have i6 : ∀ c, img P 6 c = c % pW P * pW P + (pH P - 1 - c / pW P) := fun c => rfl
  have i7 : ∀ c, img P 7 c = (pW P - 1 - c % pW P) * pW P + (pH P - 1 - c / pW P) := fun c => rfl
  have hlt : q < 4 ∨ pW P = pH P := by simpa [symOk] using hs
  rcases (show q = 0 ∨ q = 1 ∨ q = 2 ∨ q = 3 ∨ q = 4 ∨ q = 5 ∨ q = 6 ∨ q = 7 by omega) with rfl | rfl | rfl | rfl | rfl | rfl | rfl | rfl
  · show img P 0 (img P 0 c) = c
    rw [i0, i0, (dm _ hx).1, (dm _ hx).2, hcc]
  · show img P 1 (img P 1 c) = c
    have hx2 : pW P - 1 - c % pW P < pW P := by omega
    rw [i1, i1, (dm _ hx2).1, (dm _ hx2).2, show pW P - 1 - (pW P - 1 - c % pW P) = c % pW P by omega, hcc]
  · show img P 2 (img P 2 c) = c
    rw [i2, i2, (dm _ hx).1, (dm _ hx).2, hfl, hcc]
  · show img P 3 (img P 3 c) = c
    have hx2 : pW P - 1 - c % pW P < pW P := by omega
    rw [i3, i3, (dm _ hx2).1, (dm _ hx2).2, show pW P - 1 - (pW P - 1 - c % pW P) = c % pW P by omega, hfl, hcc]
  · show img P 4 (img P 4 c) = c
    have hy2 : c / pW P < pW P := by omega
    rw [i4, i4, (dm _ hy2).1, (dm _ hy2).2, hcc]
  · show img P 6 (img P 5 c) = c
    have hy2 : c / pW P < pW P := by omega
    rw [i6, i5, (dm _ hy2).1, (dm _ hy2).2, show pH P - 1 - (pW P - 1 - c % pW P) = c % pW P by omega, hcc]
  · show img P 5 (img P 6 c) = c
    have hWH : pW P = pH P := hlt.resolve_left (by decide)
    have hy2 : pH P - 1 - c / pW P < pW P := Nat.lt_of_le_of_lt (Nat.sub_le _ _) (by omega)
    rw [i5, i6, (dm _ hy2).1, (dm _ hy2).2, show pW P - 1 - (pH P - 1 - c / pW P) = c / pW P by rw [hWH]; rw [hWH] at hfl; exact hfl, hcc]
  · show img P 7 (img P 7 c) = c
    have hWH : pW P = pH P := hlt.resolve_left (by decide)
    have hy2 : pH P - 1 - c / pW P < pW P := Nat.lt_of_le_of_lt (Nat.sub_le _ _) (by omega)
    rw [i7, i7, (dm _ hy2).1, (dm _ hy2).2, show pW P - 1 - (pH P - 1 - c / pW P) = c / pW P by rw [hWH]; rw [hWH] at hfl; exact hfl, show pH P - 1 - (pW P - 1 - c % pW P) = c % pW P by omega, hcc]
theorem invS_lt {q : Nat} (h : q < 8) : invS q < 8 := by unfold invS; split <;> (try split) <;> omega
theorem invS_inv {q : Nat} : invS (invS q) = q := by
  unfold invS
  by_cases h5 : q = 5
  · rw [if_pos h5, if_neg (by decide), if_pos rfl, h5]
  · rw [if_neg h5]
    by_cases h6 : q = 6
    · rw [if_pos h6, if_pos rfl, h6]
    · rw [if_neg h6, if_neg h5, if_neg h6]
theorem isSy_ok {P : PS} {q : Nat} (h : isSy P q = true) : symOk P q = true ∧ ∀ c, c < pW P * pH P → pC P (img P q c) = pC P c := by
  rw [isSy, Bool.and_eq_true] at h
  exact ⟨h.1, sya_all h.2⟩
theorem symOk_inv {P : PS} {q : Nat} (h : symOk P q = true) : symOk P (invS q) = true := by
  have hlt : q < 4 ∨ pW P = pH P := by simpa [symOk] using h
  rw [symOk, Bool.or_eq_true, decide_eq_true_eq, decide_eq_true_eq]
  rcases hlt with a | a
  · exact Or.inl (by unfold invS; rw [if_neg (by omega), if_neg (by omega)]; exact a)
  · exact Or.inr a
theorem sya_of {P : PS} {q : Nat} : ∀ n, (∀ c, c < n → pC P (img P q c) = pC P c) → sya P q n = true
  | 0, _ => rfl
  | n + 1, h => by
    have ih := sya_of n (fun c hc => h c (by omega))
    rw [sya, ih, h n (by omega)]
    simp
theorem isSy_inv {P : PS} {q : Nat} (hV : VD P) (hq : q < 8) (h : isSy P q = true) : isSy P (invS q) = true := by
  obtain ⟨h1, h2⟩ := isSy_ok h
  have h3 := symOk_inv h1
  rw [isSy, h3, Bool.true_and]
  refine sya_of _ fun c hc => ?_
  have hd := img_lt hV (invS_lt hq) h3 hc
  have e := h2 _ hd
  have e2 := img_inv hV (invS_lt hq) h3 hc
  rw [invS_inv] at e2
  rw [e2] at e
  exact e.symm
theorem img_inj {P : PS} {q c d : Nat} (hV : VD P) (hq : q < 8) (hs : symOk P q = true) (hc : c < pW P * pH P) (hd : d < pW P * pH P) (h : img P q c = img P q d) : c = d := by
  rw [← img_inv hV hq hs hc, h, img_inv hV hq hs hd]
theorem img_onto {P : PS} {q d : Nat} (hV : VD P) (hq : q < 8) (hs : symOk P q = true) (hd : d < pW P * pH P) : ∃ c, c < pW P * pH P ∧ img P q c = d := by
  have h3 := symOk_inv hs
  have e2 := img_inv hV (invS_lt hq) h3 hd
  rw [invS_inv] at e2
  exact ⟨img P (invS q) d, img_lt hV (invS_lt hq) h3 hd, e2⟩
-- counts of bits
theorem pop_bit : ∀ (n x j : Nat), j < n → x.testBit j = false → popk n (x ||| 2 ^ j) = popk n x + 1
  | 0, _, j, h, _ => by omega
  | n + 1, x, 0, _, hb => by
    have h0 : x % 2 = 0 := by
      rw [Nat.testBit_zero, decide_eq_false_iff_not] at hb
      omega
    rw [popk, popk, show (x ||| 2 ^ 0) / 2 = x / 2 by rw [Nat.or_div_two]; simp, show (x ||| 2 ^ 0) % 2 = 1 by have := Nat.or_mod_two_pow (a := x) (b := 2 ^ 0) (n := 1); simp at this; rw [Nat.pow_zero, this, h0]; rfl, h0]
    omega
  | n + 1, x, j + 1, h, hb => by
    have hb2 : (x / 2).testBit j = false := by rw [Nat.testBit_div_two]; exact hb
    have ih := pop_bit n (x / 2) j (by omega) hb2
    rw [popk, popk, show (x ||| 2 ^ (j + 1)) / 2 = x / 2 ||| 2 ^ j by rw [Nat.or_div_two, Nat.pow_succ, Nat.mul_div_cancel _ (by decide)], ih, show (x ||| 2 ^ (j + 1)) % 2 = x % 2 by have := Nat.or_mod_two_pow (a := x) (b := 2 ^ (j + 1)) (n := 1); rw [Nat.pow_one] at this; rw [this, Nat.pow_succ, Nat.mul_mod_left, Nat.or_zero]]
    omega
theorem pop_sub : ∀ (n a b : Nat), (∀ j, a.testBit j = true → b.testBit j = true) → popk n a ≤ popk n b ∧ (a < 2 ^ n → b < 2 ^ n → popk n b ≤ popk n a → a = b)
  | 0, a, b, _ => ⟨Nat.le_refl _, fun h1 h2 _ => by omega⟩
  | n + 1, a, b, h => by
    have ih := pop_sub n (a / 2) (b / 2) (fun j hj => by rw [Nat.testBit_div_two] at hj ⊢; exact h _ hj)
    have h0 : a % 2 ≤ b % 2 := by
      have := h 0
      rw [Nat.testBit_zero, Nat.testBit_zero, decide_eq_true_eq, decide_eq_true_eq] at this
      omega
    rw [popk, popk]
    refine ⟨by omega, fun h1 h2 h3 => ?_⟩
    have := ih.2 (by omega) (by omega) (by omega)
    omega
