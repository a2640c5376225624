-- the shapes: class and Model agree on them
def shL : List Nat := [1, 3, 7, 15, 17, 19, 23, 31, 35, 39, 47, 49, 50, 51, 54, 55, 62, 71, 79, 87, 99, 103, 113, 114, 115, 116, 117, 118, 124, 143, 199, 227, 241, 242, 244, 248, 273, 275, 279, 305, 306, 307, 310, 369, 370, 372, 547, 551, 561, 562, 563, 566, 611, 625, 626, 628, 785, 787, 802, 803, 806, 817, 818, 866, 868, 1095, 1123, 1137, 1138, 1140, 1571, 1585, 1586, 1809, 1826, 1860, 4369, 4371, 4401, 4402, 4881, 4898, 8739, 8753, 8754, 8977, 8994, 12561, 12834]
theorem popk_top : ∀ (k x : Nat), x < 2 ^ k → popk (k + 1) x = popk k x
  | 0, x, h => by
    have : x = 0 := by simpa using h
    subst this
    rfl
  | k + 1, x, h => by
    have hp : 2 ^ (k + 1) = 2 * 2 ^ k := by rw [Nat.pow_succ]; omega
    rw [popk, popk_top k (x / 2) (by omega)]
    rfl
theorem popk_16 {x : Nat} (h : x < 65536) : popk 32 x = popk 16 x := by
  have up : ∀ j, popk (16 + j) x = popk 16 x := fun j => by
    induction j with
    | zero => rfl
    | succ j ih =>
      rw [show 16 + (j + 1) = 16 + j + 1 from rfl, popk_top _ _ (Nat.lt_of_lt_of_le h (by have := Nat.pow_le_pow_right (n := 2) (by decide) (show 16 ≤ 16 + j by omega); omega)), ih]
  exact up 16
/-- all numbers of k bits with at most c ones, above s -/
def enu (T : Nat → Bool) : Nat → Nat → Nat → Bool
  | 0, s, _ => T s
  | k + 1, s, c => enu T k s c && (match c with
    | 0 => true
    | c' + 1 => enu T k (s + 2 ^ k) c')
theorem enu_all (T : Nat → Bool) : ∀ (k s c : Nat), enu T k s c = true → ∀ x, x < 2 ^ k → popk k x ≤ c → T (s + x) = true
  | 0, s, c, h, x, hx, _ => by
    have : x = 0 := by simpa using hx
    subst this
    exact h
  | k + 1, s, c, h, x, hx, hc => by
    have h : enu T k s c = true ∧ ∀ c', c = c' + 1 → enu T k (s + 2 ^ k) c' = true := by
      cases c with
      | zero =>
        change (enu T k s 0 && true) = true at h
        rw [Bool.and_true] at h
        exact ⟨h, fun c' e => by omega⟩
      | succ c =>
        change (enu T k s (c + 1) && enu T k (s + 2 ^ k) c) = true at h
        rw [Bool.and_eq_true] at h
        exact ⟨h.1, fun c' e => by cases e; exact h.2⟩
    have hp : 2 ^ (k + 1) = 2 * 2 ^ k := by rw [Nat.pow_succ]; omega
    rcases Nat.lt_or_ge x (2 ^ k) with q | q
    · exact enu_all T k s c h.1 x q (by rw [popk_top k x q] at hc; exact hc)
    · obtain ⟨y, rfl⟩ : ∃ y, x = y + 2 ^ k := ⟨x - 2 ^ k, by omega⟩
      have hy : y < 2 ^ k := by omega
      rw [pop_add (k + 1) y k hy (by omega), popk_top k y hy] at hc
      cases c with
      | zero => omega
      | succ c =>
        have h2 : enu T k (s + 2 ^ k) c = true := h.2 c rfl
        have := enu_all T k (s + 2 ^ k) c h2 y hy (by omega)
        rw [show s + (y + 2 ^ k) = s + 2 ^ k + y by omega]
        exact this
def shT (s : Nat) : Bool := (okC s == okM s) && (!okC s || ((nrC s == nrM s) && shL.contains (nrC s)))
set_option maxRecDepth 100000 in
theorem shT_all : enu shT 16 0 5 = true := by decide +kernel
theorem ok_eq {s : Nat} (hs : s < 65536) : okC s = okM s := by
  by_cases h : popk 16 s ≤ 5
  · have := enu_all shT 16 0 5 shT_all s hs h
    rw [Nat.zero_add, shT, Bool.and_eq_true] at this
    exact eq_of_beq this.1
  · rw [okC, okM, popk_16 hs, decide_eq_false h, Bool.false_and, Bool.and_false, Bool.false_and, Bool.and_false]
theorem ok_norm {s : Nat} (hs : s < 65536) (h : okC s = true) : nrC s = nrM s ∧ nrC s ∈ shL := by
  have hk : popk 16 s ≤ 5 := by
    rw [okC, popk_16 hs, Bool.and_eq_true, Bool.and_eq_true] at h
    exact of_decide_eq_true h.2.1
  have := enu_all shT 16 0 5 shT_all s hs hk
  rw [Nat.zero_add, shT, Bool.and_eq_true, h] at this
  have h2 := this.2
  simp only [Bool.not_true, Bool.false_or, Bool.and_eq_true, List.contains_iff_mem] at h2
  exact ⟨eq_of_beq h2.1, by simpa using h2.2⟩
theorem shL_lt : ∀ s ∈ shL, s < 65536 ∧ 0 < s := by decide +kernel
-- turns, mirror images, forms
def tnC (s : Nat) : Nat := nrC (trk s 16)
def miC (s : Nat) : Nat := nrC (mrk s 16)
theorem shL_turn : ∀ s ∈ shL, tnC s ∈ shL ∧ miC s ∈ shL ∧ nrM (trk s 16) = tnC s ∧ nrM (mrk s 16) = miC s ∧ 0 < trk s 16 ∧ 0 < mrk s 16 := by decide +kernel
def insS (l : List Nat) (s : Nat) : List Nat := match l with
  | [] => [s]
  | a :: t => if s < a then s :: a :: t else if s = a then a :: t else a :: insS t s
def sqC (s fr : Nat) : List Nat := if fr = 0 then [s] else if fr = 1 then [s, tnC s, tnC (tnC s), tnC (tnC (tnC s))] else [s, tnC s, tnC (tnC s), tnC (tnC (tnC s)), miC s, tnC (miC s), tnC (tnC (miC s)), tnC (tnC (tnC (miC s)))]
def sqM (s fr : Nat) : List Nat := if fr = 0 then [s] else if fr = 1 then [s, tnC s, tnC (tnC s), tnC (tnC (tnC s))] else
  [s, tnC s, tnC (tnC s), tnC (tnC (tnC s)), miC (tnC (tnC (tnC s))), tnC (miC (tnC (tnC (tnC s)))), tnC (tnC (miC (tnC (tnC (tnC s))))), tnC (tnC (tnC (miC (tnC (tnC (tnC s))))))]
def FM (s fr : Nat) : List Nat := (sqC s fr).foldl insS []
theorem FM_eq : ∀ s ∈ shL, ∀ fr, fr < 3 → (sqM s fr).foldl insS [] = FM s fr := by
  have h : ∀ s ∈ shL, ∀ fr : Fin 3, (sqM s fr.val).foldl insS [] = FM s fr.val := by decide +kernel
  exact fun s hs fr hf => h s hs ⟨fr, hf⟩
theorem FM_in : ∀ s ∈ shL, ∀ fr, fr < 3 → (FM s fr).length ≤ 8 ∧ 1 ≤ (FM s fr).length ∧ ∀ x ∈ FM s fr, x ∈ shL := by
  have h : ∀ s ∈ shL, ∀ fr : Fin 3, (FM s fr.val).length ≤ 8 ∧ 1 ≤ (FM s fr.val).length ∧ ∀ x ∈ FM s fr.val, x ∈ shL := by decide +kernel
  exact fun s hs fr hf => h s hs ⟨fr, hf⟩
