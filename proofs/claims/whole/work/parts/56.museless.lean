def exE (l : List PE) (st : Nat → Bool) (k c : Nat) : Nat → Bool
  | 0 => false
  | e + 1 => exE l st k c e || (!st e && ((msk l e).testBit c && decide (msk l e &&& msk l k = 0)))
theorem exE_mono {l : List PE} {st : Nat → Bool} {k c e : Nat} (h : exE l st k c e = true) : ∀ d, exE l st k c (e + d) = true
  | 0 => h
  | d + 1 => by rw [show e + (d + 1) = e + d + 1 from rfl, exE, exE_mono h d, Bool.true_or]
theorem covk_bit (l : List PE) (st : Nat → Bool) (k c : Nat) : ∀ n, (covk l st (msk l k) n).testBit c = ((msk l k).testBit c || exE l st k c n)
  | 0 => by simp [covk, exE]
  | n + 1 => by
    rw [covk, Nat.testBit_or, covk_bit l st k c n, exE]
    by_cases h1 : st n = true
    · simp [h1]
    · by_cases h2 : msk l n &&& msk l k = 0
      · simp [h1, h2, Bool.or_assoc]
      · simp [h1, h2]
/-- an open cell that none besides can cover -/
def unc (P : PS) (l : List PE) (st : Nat → Bool) (k c : Nat) : Bool := decide (¬ pC P c = -1) && (!(msk l k).testBit c && !exE l st k c l.length)
def anU (P : PS) (l : List PE) (st : Nat → Bool) (k : Nat) : Nat → Bool
  | 0 => false
  | c + 1 => anU P l st k c || unc P l st k c
theorem anU_mono {P : PS} {l : List PE} {st : Nat → Bool} {k c : Nat} (h : anU P l st k c = true) : ∀ d, anU P l st k (c + d) = true
  | 0 => h
  | d + 1 => by rw [show c + (d + 1) = c + d + 1 from rfl, anU, anU_mono h d, Bool.true_or]
theorem opk_bit (cs : Nat → Int32) (c : Nat) : ∀ n, (opk cs n).testBit c = (decide (c < n) && decide (¬ cs c = -1))
  | 0 => by simp [opk]
  | n + 1 => by
    have ih := opk_bit cs c n
    have hlt := opk_lt cs n
    by_cases h : cs n = -1
    · rw [opk, if_pos h, ih]
      by_cases e : c = n
      · subst e; simp [h]
      · rw [show decide (c < n + 1) = decide (c < n) from decide_eq_decide.mpr (by omega)]
    · rw [opk, if_neg h, ← or_add hlt, Nat.testBit_or, ih, Nat.testBit_two_pow]
      by_cases e : c = n
      · subst e; simp [h]
      · rw [decide_eq_false (show ¬ n = c by omega), Bool.or_false, show decide (c < n + 1) = decide (c < n) from decide_eq_decide.mpr (by omega)]
theorem anU_iff {P : PS} {l : List PE} {st : Nat → Bool} {k : Nat} : ∀ n, anU P l st k n = true ↔ ∃ c, c < n ∧ unc P l st k c = true
  | 0 => by simp [anU]
  | n + 1 => by
    rw [anU, Bool.or_eq_true, anU_iff n]
    constructor
    · rintro (⟨c, h1, h2⟩ | h)
      · exact ⟨c, by omega, h2⟩
      · exact ⟨n, by omega, h⟩
    · rintro ⟨c, h1, h2⟩
      by_cases e : c = n
      · rw [e] at h2; exact Or.inr h2
      · exact Or.inl ⟨c, by omega, h2⟩
theorem usl_anU {P : PS} {l : List PE} {st : Nat → Bool} {k : Nat} (hsub : ∀ k, k < l.length → opk (pC P) (pW P * pH P) ||| msk l k = opk (pC P) (pW P * pH P)) (hk : k < l.length) : usl l st (opk (pC P) (pW P * pH P)) k = anU P l st k (pW P * pH P) := by
  have sb : ∀ e, e < l.length → ∀ c, (msk l e).testBit c = true → (opk (pC P) (pW P * pH P)).testBit c = true := fun e he c hb => by
    rw [← hsub e he, Nat.testBit_or, hb, Bool.or_true]
  have ex : ∀ c n, n ≤ l.length → exE l st k c n = true → (opk (pC P) (pW P * pH P)).testBit c = true := by
    intro c n
    induction n with
    | zero => intro _ h; cases h
    | succ n ih =>
      intro hn h
      rw [exE, Bool.or_eq_true, Bool.and_eq_true, Bool.and_eq_true] at h
      rcases h with h | h
      · exact ih (by omega) h
      · exact sb n (by omega) c h.2.1
  rw [Bool.eq_iff_iff, anU_iff]
  constructor
  · intro h
    have hne : ¬ covk l st (msk l k) l.length = opk (pC P) (pW P * pH P) := by simpa [usl] using h
    refine Classical.byContradiction fun q => hne (Nat.eq_of_testBit_eq fun c => ?_)
    rw [covk_bit]
    cases ho : (opk (pC P) (pW P * pH P)).testBit c with
    | false =>
      cases hm : (msk l k).testBit c with
      | true => rw [sb k hk c hm] at ho; cases ho
      | false =>
        cases he : exE l st k c l.length with
        | true => rw [ex c _ (Nat.le_refl _) he] at ho; cases ho
        | false => rfl
    | true =>
      rw [opk_bit, Bool.and_eq_true, decide_eq_true_eq] at ho
      cases hm : (msk l k).testBit c with
      | true => rfl
      | false =>
        cases he : exE l st k c l.length with
        | true => rfl
        | false => exact absurd ⟨c, ho.1, by rw [unc, ho.2, hm, he]; rfl⟩ q
  · rintro ⟨c, hc, hu⟩
    rw [unc, Bool.and_eq_true, Bool.and_eq_true] at hu
    have hne : ¬ covk l st (msk l k) l.length = opk (pC P) (pW P * pH P) := fun q => by
      have h1 := covk_bit l st k c l.length
      rw [q, opk_bit, hu.1, decide_eq_true hc] at h1
      have h2 : (msk l k).testBit c = false := by simpa using hu.2.1
      have h3 : exE l st k c l.length = false := by simpa using hu.2.2
      rw [h2, h3] at h1
      cases h1
    simp [usl, hne]
