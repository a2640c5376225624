-- what holds of the states of a search
def QV (q : SQ) : Prop := VD q.1 ∧ LSd q.1 q.2.1 ∧ (∃ sh fr, VN q.1 sh fr q.2.2.1 q.2.2.2) ∧ pMd q.1 ≤ 1 ∧ pRu q.1 ≤ 1
theorem or_sub {a b j : Nat} (h : a ||| b = a) (hj : b.testBit j = true) : a.testBit j = true := by rw [← h, Nat.testBit_or, hj, Bool.or_true]
theorem QV.op {q : SQ} (h : QV q) : opP q.1 < 2 ^ 36 := opP_lt h.1
theorem QV.mk {q : SQ} (h : QV q) {k : Nat} (hk : k < q.2.1.length) : 0 < msk q.2.1 k ∧ msk q.2.1 k < 2 ^ 36 := ⟨(h.2.1.1 k hk).2.2.2.1, (h.2.1.1 k hk).2.2.2.2⟩
theorem QV.pc {q : SQ} (h : QV q) {k : Nat} (hk : k < q.2.1.length) : qp q k < pN q.1 := h.2.1.2.2.1 k hk
theorem QV.co {q : SQ} (h : QV q) {p : Nat} (hp : p < pN q.1) : pK q.1 p = nI (q.2.2.1 p) ∧ q.2.2.1 p < 4 := by
  obtain ⟨sh, fr, hN⟩ := h.2.2.1
  have := hN p hp
  exact ⟨this.2.2.2.2.1, this.2.2.2.2.2.1⟩
theorem QV.cp {q : SQ} (h : QV q) {p : Nat} (hp : p < pN q.1) : pX q.1 p = nI (q.2.2.2 p) ∧ 1 ≤ q.2.2.2 p ∧ q.2.2.2 p ≤ 9 := by
  obtain ⟨sh, fr, hN⟩ := h.2.2.1
  have := hN p hp
  exact ⟨this.2.2.2.2.2.2.1, this.2.2.2.2.2.2.2⟩
theorem cv_sub {q : SQ} (hQ : QV q) : ∀ {st : List Nat}, IVs q st → ∀ j, (cvS q.2.1 st).testBit j = true → (opP q.1).testBit j = true
  | [], _, j, h => by rw [cvS, Nat.zero_testBit] at h; cases h
  | k :: t, hi, j, h => by
    rw [cvS, Nat.testBit_xor] at h
    cases hc : (cvS q.2.1 t).testBit j with
    | true => exact cv_sub hQ hi.1 j hc
    | false =>
      rw [hc, Bool.false_xor] at h
      exact or_sub (hQ.2.1.2.2.2 k hi.2.1) h
theorem cv_lt {q : SQ} (hQ : QV q) : ∀ {st : List Nat}, IVs q st → cvS q.2.1 st < 2 ^ 36
  | [], _ => by rw [cvS]; decide
  | k :: t, hi => by rw [cvS]; exact Nat.xor_lt_two_pow (cv_lt hQ hi.1) (hQ.mk hi.2.1).2
theorem tn_lt {q : SQ} (hQ : QV q) (c : Nat) : ∀ {st : List Nat}, IVs q st → tnS q.2.1 q.2.2.1 c st < 2 ^ 36
  | [], _ => by rw [tnS]; decide
  | k :: t, hi => by
    rw [tnS]
    split
    · exact Nat.xor_lt_two_pow (tn_lt hQ c hi.1) (hQ.mk hi.2.1).2
    · exact tn_lt hQ c hi.1
theorem wrm_bit {q : SQ} (hQ : QV q) {st : List Nat} (hi : IVs q st) (j : Nat) : (wrm q st).testBit j = ((opP q.1).testBit j && !(cvS q.2.1 st).testBit j) := by
  have := cv_sub hQ hi j
  rw [wrm, Nat.testBit_xor]
  cases h1 : (opP q.1).testBit j <;> cases h2 : (cvS q.2.1 st).testBit j <;> simp_all
theorem wrm_pos {q : SQ} {st : List Nat} (h : ¬ cvS q.2.1 st = opP q.1) : 0 < wrm q st := by
  rcases Nat.eq_zero_or_pos (wrm q st) with e | e
  · refine absurd (Nat.eq_of_testBit_eq fun j => ?_) h
    have h2 : (wrm q st).testBit j = false := by rw [e, Nat.zero_testBit]
    rw [wrm, Nat.testBit_xor] at h2
    cases h3 : (opP q.1).testBit j <;> cases h4 : (cvS q.2.1 st).testBit j <;> simp_all
  · exact e
theorem wrm_lt {q : SQ} (hQ : QV q) {st : List Nat} (hi : IVs q st) : wrm q st < 2 ^ 36 := Nat.xor_lt_two_pow hQ.op (cv_lt hQ hi)
theorem wrm_0 {q : SQ} {st : List Nat} (h : cvS q.2.1 st = opP q.1) : wrm q st = 0 := by rw [wrm, h, Nat.xor_self]
theorem wlo_lt {q : SQ} (hQ : QV q) {st : List Nat} (hi : IVs q st) (h : ¬ cvS q.2.1 st = opP q.1) : low (wrm q st) < 36 := low_lt36 (wrm_pos h) (wrm_lt hQ hi)
theorem and_bit {a b j : Nat} (h : a &&& b = 0) (ha : a.testBit j = true) : b.testBit j = false := by
  have : (a &&& b).testBit j = false := by rw [h, Nat.zero_testBit]
  rw [Nat.testBit_and, ha, Bool.true_and] at this
  exact this
theorem len_low {q : SQ} (hQ : QV q) : ∀ {st : List Nat}, IVs q st → st.length ≤ low (wrm q st) ∧ st.length ≤ 36
  | [], _ => ⟨Nat.zero_le _, Nat.zero_le _⟩
  | k :: t, hi => by
    have ih := len_low hQ hi.1
    have hc := wlo_lt hQ hi.1 hi.2.2.2.1
    have hw := low_tb (wrm_pos hi.2.2.2.1) (show wrm q t < 2 ^ 64 by have := wrm_lt hQ hi.1; omega)
    have hm := low_tb (hQ.mk hi.2.1).1 (show msk q.2.1 k < 2 ^ 64 by have := (hQ.mk hi.2.1).2; omega)
    have hlo : low (msk q.2.1 k) = low (wrm q t) := hi.2.2.2.2.1
    rw [hlo] at hm
    have hlen : (k :: t).length = t.length + 1 := rfl
    refine ⟨?_, by omega⟩
    by_cases hf : cvS q.2.1 (k :: t) = opP q.1
    · rw [wrm_0 hf, low_0]; omega
    · have h1 := low_tb (wrm_pos hf) (show wrm q (k :: t) < 2 ^ 64 by have := wrm_lt hQ hi; omega)
      rcases Nat.lt_or_ge (low (wrm q t)) (low (wrm q (k :: t))) with a | a
      · omega
      · exfalso
        have e := h1.1
        generalize low (wrm q (k :: t)) = j at e a
        rw [wrm_bit hQ hi, cvS, Nat.testBit_xor] at e
        rcases Nat.lt_or_ge j (low (wrm q t)) with b | b
        · have e2 := hw.2 j b
          rw [wrm_bit hQ hi.1] at e2
          have e3 := hm.2 j b
          rw [e3, Bool.xor_false] at e
          rw [e] at e2
          cases e2
        · have ej : j = low (wrm q t) := by omega
          have e2 := hw.1
          rw [← ej, wrm_bit hQ hi.1] at e2
          have e3 := hm.1
          rw [← ej] at e3
          rw [e3] at e
          cases h3 : (cvS q.2.1 t).testBit j <;> rw [h3] at e e2 <;> simp at e e2
theorem lvl_lt {q : SQ} (hQ : QV q) {st : List Nat} (hi : IVs q st) (h : ¬ cvS q.2.1 st = opP q.1) : st.length < 36 := by
  have := (len_low hQ hi).1
  have := wlo_lt hQ hi h
  omega
theorem us_le {q : SQ} (p : Nat) : ∀ {st : List Nat}, IVs q st → usS q.2.1 p st ≤ q.2.2.2 p
  | [], _ => Nat.zero_le _
  | k :: t, hi => by
    have ih := us_le p hi.1
    rw [usS]
    by_cases e : (gp q.2.1 k).1 = p
    · rw [if_pos e]
      have := hi.2.2.2.2.2
      rw [show qp q k = p from e] at this
      omega
    · rw [if_neg e]; exact ih
def uSm (l : List PE) (st : List Nat) : Nat → Nat
  | 0 => 0
  | n + 1 => uSm l st n + usS l n st
theorem uSm_c (l : List PE) (k : Nat) (t : List Nat) : ∀ n, uSm l (k :: t) n = uSm l t n + (if (gp l k).1 < n then 1 else 0)
  | 0 => rfl
  | n + 1 => by
    rw [uSm, uSm, uSm_c l k t n, usS]
    by_cases h1 : (gp l k).1 < n
    · rw [if_pos h1, if_neg (show ¬ (gp l k).1 = n by omega), if_pos (show (gp l k).1 < n + 1 by omega)]; omega
    · by_cases h2 : (gp l k).1 = n
      · rw [if_neg h1, if_pos h2, if_pos (show (gp l k).1 < n + 1 by omega)]; omega
      · rw [if_neg h1, if_neg h2, if_neg (show ¬ (gp l k).1 < n + 1 by omega)]; omega
theorem uSm_0 (l : List PE) : ∀ n, uSm l [] n = 0
  | 0 => rfl
  | n + 1 => by rw [uSm, uSm_0 l n]; rfl
theorem uSm_len {q : SQ} (hQ : QV q) : ∀ {st : List Nat}, IVs q st → uSm q.2.1 st (pN q.1) = st.length
  | [], _ => uSm_0 _ _
  | k :: t, hi => by
    rw [uSm_c, uSm_len hQ hi.1, if_pos (hQ.pc hi.2.1)]
    rfl
theorem alU_iff {q : SQ} {st : List Nat} (hi : IVs q st) : ∀ n, uSm q.2.1 st n ≤ sumf q.2.2.2 n ∧ (alU q st n = true ↔ uSm q.2.1 st n = sumf q.2.2.2 n)
  | 0 => ⟨Nat.le_refl _, fun _ => rfl, fun _ => rfl⟩
  | n + 1 => by
    have ih := alU_iff hi n
    have h := us_le n hi
    rw [uSm, sumf, alU, Bool.and_eq_true, decide_eq_true_eq, ih.2]
    have := ih.1
    exact ⟨by omega, by omega, by omega⟩
theorem alU_all {q : SQ} {st : List Nat} : ∀ n, alU q st n = true ↔ ∀ p, p < n → usS q.2.1 p st = q.2.2.2 p
  | 0 => ⟨fun _ p h => by omega, fun _ => rfl⟩
  | n + 1 => by
    rw [alU, Bool.and_eq_true, decide_eq_true_eq, alU_all n]
    constructor
    · rintro ⟨h1, h2⟩ p hp
      by_cases e : p = n
      · rw [e]; exact h2
      · exact h1 p (by omega)
    · exact fun h => ⟨fun p hp => h p (by omega), h n (by omega)⟩
theorem isCv_len {q : SQ} (hQ : QV q) {st : List Nat} (hi : IVs q st) : isCv q st = (decide (pMd q.1 = 0) || decide (st.length = sumf q.2.2.2 (pN q.1))) := by
  have h := (alU_iff hi (pN q.1)).2
  rw [uSm_len hQ hi] at h
  rw [isCv]
  congr 1
  rw [Bool.eq_iff_iff, h, decide_eq_true_eq]
/-- open cells that aren't covered, as the machine counts them -/
theorem rem_l {q : SQ} (hQ : QV q) {st : List Nat} (hi : IVs q st) : lN (opP q.1) &&& (lN (cvS q.2.1 st) ^^^ (-1)) = lN (wrm q st) := by
  have h1 := hQ.op
  have h2 := cv_lt hQ hi
  rw [show (-1 : Int64) = lN (2 ^ 64 - 1) from rfl, lb_xor (by omega) (by decide), wb_and (by omega) (Nat.xor_lt_two_pow (by omega) (by decide))]
  congr 1
  apply Nat.eq_of_testBit_eq
  intro j
  rw [wrm_bit hQ hi, Nat.testBit_and, Nat.testBit_xor, Nat.testBit_two_pow_sub_one]
  by_cases hj : j < 64
  · rw [decide_eq_true hj]; simp
  · rw [Nat.testBit_lt_two_pow (Nat.lt_of_lt_of_le h1 (Nat.pow_le_pow_right (by decide) (by omega)))]; simp
-- what touches a placement
def lcC (W : Nat) : Nat → Nat
  | 0 => 0
  | y + 1 => lcC W y ||| 2 ^ (y * W)
def rcC (W : Nat) : Nat → Nat
  | 0 => 0
  | y + 1 => rcC W y ||| 2 ^ (y * W + W - 1)
theorem lcC_bit (W c : Nat) : ∀ n, (lcC W n).testBit c = true ↔ ∃ y, y < n ∧ c = y * W
  | 0 => by simp [lcC]
  | n + 1 => by
    rw [lcC, Nat.testBit_or, Bool.or_eq_true, lcC_bit W c n, Nat.testBit_two_pow, decide_eq_true_eq]
    constructor
    · rintro (⟨y, h1, h2⟩ | h)
      · exact ⟨y, by omega, h2⟩
      · exact ⟨n, by omega, h.symm⟩
    · rintro ⟨y, h1, h2⟩
      by_cases e : y = n
      · rw [e] at h2; exact Or.inr h2.symm
      · exact Or.inl ⟨y, by omega, h2⟩
theorem rcC_bit (W c : Nat) : ∀ n, (rcC W n).testBit c = true ↔ ∃ y, y < n ∧ c = y * W + W - 1
  | 0 => by simp [rcC]
  | n + 1 => by
    rw [rcC, Nat.testBit_or, Bool.or_eq_true, rcC_bit W c n, Nat.testBit_two_pow, decide_eq_true_eq]
    constructor
    · rintro (⟨y, h1, h2⟩ | h)
      · exact ⟨y, by omega, h2⟩
      · exact ⟨n, by omega, h.symm⟩
    · rintro ⟨y, h1, h2⟩
      by_cases e : y = n
      · rw [e] at h2; exact Or.inr h2.symm
      · exact Or.inl ⟨y, by omega, h2⟩
theorem lcC_mod {W H c : Nat} (hW : 0 < W) (hc : c < W * H) : (lcC W H).testBit c = decide (c % W = 0) := by
  rw [Bool.eq_iff_iff, lcC_bit, decide_eq_true_eq]
  have h1 := Nat.div_add_mod c W
  have h2 : c / W < H := Nat.div_lt_of_lt_mul hc
  constructor
  · rintro ⟨y, hy, rfl⟩
    exact Nat.mul_mod_left y W
  · intro h
    exact ⟨c / W, h2, by rw [Nat.mul_comm (c / W) W]; omega⟩
theorem rcC_mod {W H c : Nat} (hW : 0 < W) (hc : c < W * H) : (rcC W H).testBit c = decide (c % W + 1 = W) := by
  rw [Bool.eq_iff_iff, rcC_bit, decide_eq_true_eq]
  have h1 := Nat.div_add_mod c W
  have h2 : c / W < H := Nat.div_lt_of_lt_mul hc
  constructor
  · rintro ⟨y, hy, rfl⟩
    rw [show y * W + W - 1 = (W - 1) + y * W by omega, Nat.add_mul_mod_self_right, Nat.mod_eq_of_lt (by omega)]
    omega
  · intro h
    exact ⟨c / W, h2, by rw [Nat.mul_comm (c / W) W]; omega⟩
def aro (W L R m : Nat) : Nat := ((((m &&& (R ^^^ (2 ^ 64 - 1))) * 2 ^ 1) ||| ((m &&& (L ^^^ (2 ^ 64 - 1))) / 2 ^ 1)) ||| (m * 2 ^ W)) ||| (m / 2 ^ W)
theorem bit_hi {m n j : Nat} (hm : m < 2 ^ n) (h : m.testBit j = true) : j < n := by
  rcases Nat.lt_or_ge j n with a | a
  · exact a
  · rw [Nat.testBit_lt_two_pow (Nat.lt_of_lt_of_le hm (Nat.pow_le_pow_right (by decide) a))] at h
    cases h
theorem aro_bit {P : PS} (hV : VD P) {m c : Nat} (hm : m < 2 ^ (pW P * pH P)) (hc : c < pW P * pH P) : (aro (pW P) (lcC (pW P) (pH P)) (rcC (pW P) (pH P)) m).testBit c = true ↔ ∃ a, m.testBit a = true ∧ bsR P a c := by
  obtain ⟨v1, v2, v3, v4, -⟩ := hV
  have ha : pW P * pH P ≤ 36 := Nat.mul_le_mul v2 v4
  unfold aro
  rw [Nat.testBit_or, Nat.testBit_or, Nat.testBit_or, Bool.or_eq_true, Bool.or_eq_true, Bool.or_eq_true, Nat.testBit_mul_two_pow, Nat.testBit_div_two_pow, Nat.testBit_mul_two_pow, Nat.testBit_div_two_pow, Nat.testBit_and, Nat.testBit_and, Nat.testBit_xor, Nat.testBit_xor, Nat.testBit_two_pow_sub_one, Nat.testBit_two_pow_sub_one]
  simp only [Bool.and_eq_true, decide_eq_true_eq]
  constructor
  · rintro (((⟨h1, h2, h3⟩ | ⟨h2, h3⟩) | ⟨h1, h2⟩) | h2)
    · have hb := bit_hi hm h2
      rw [rcC_mod (by omega) hb, decide_eq_true (show c - 1 < 64 by omega)] at h3
      have h4 : ¬ (c - 1) % pW P + 1 = pW P := by simpa using h3
      have := Nat.mod_lt (c - 1) (show 0 < pW P by omega)
      exact ⟨c - 1, h2, Or.inr (Or.inl ⟨by omega, by omega⟩)⟩
    · have hb := bit_hi hm h2
      rw [lcC_mod (by omega) hb, decide_eq_true (show c + 1 < 64 by omega)] at h3
      have h4 : ¬ (c + 1) % pW P = 0 := by simpa using h3
      exact ⟨c + 1, h2, Or.inl ⟨by omega, by omega⟩⟩
    · exact ⟨c - pW P, h2, Or.inr (Or.inr (Or.inr ⟨by omega, by omega⟩))⟩
    · exact ⟨c + pW P, h2, Or.inr (Or.inr (Or.inl ⟨by omega, by omega⟩))⟩
  · rintro ⟨a, h1, h2⟩
    have hb := bit_hi hm h1
    rcases h2 with ⟨e1, e2⟩ | ⟨e1, e2⟩ | ⟨e1, e2⟩ | ⟨e1, e2⟩
    · have h5 : a % pW P ≤ a := Nat.mod_le _ _
      refine Or.inl (Or.inl (Or.inr ?_))
      rw [show c + 1 = a by omega, lcC_mod (by omega) hb, decide_eq_true (show a < 64 by omega), decide_eq_false (by omega)]
      exact ⟨h1, rfl⟩
    · refine Or.inl (Or.inl (Or.inl ⟨by omega, ?_⟩))
      rw [show c - 1 = a by omega, rcC_mod (by omega) hb, decide_eq_true (show a < 64 by omega), decide_eq_false (by omega)]
      exact ⟨h1, rfl⟩
    · exact Or.inr (by rw [show c + pW P = a by omega]; exact h1)
    · exact Or.inl (Or.inr ⟨by omega, by rw [show c - pW P = a by omega]; exact h1⟩)
theorem aro_eq {P : PS} (hV : VD P) {m T : Nat} (hm : m < 2 ^ (pW P * pH P)) (hT : T < 2 ^ (pW P * pH P)) : (aro (pW P) (lcC (pW P) (pH P)) (rcC (pW P) (pH P)) m &&& T = 0) ↔ (bsP P m &&& T = 0) := by
  have key : ∀ j, (aro (pW P) (lcC (pW P) (pH P)) (rcC (pW P) (pH P)) m &&& T).testBit j = (bsP P m &&& T).testBit j := fun j => by
    rw [Nat.testBit_and, Nat.testBit_and]
    cases hj : T.testBit j with
    | false => simp
    | true =>
      have hb := bit_hi hT hj
      rw [Bool.and_true, Bool.and_true, Bool.eq_iff_iff, aro_bit hV hm hb, bsk_bit]
      constructor
      · rintro ⟨a, h1, h2⟩; exact ⟨a, bit_hi hm h1, h1, h2⟩
      · rintro ⟨a, h1, h2⟩; exact ⟨a, h2⟩
  rw [Nat.eq_of_testBit_eq key]
