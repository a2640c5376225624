-- the placements, as a list: piece, form, corner, cells
abbrev PE : Type := Nat × Nat × Nat × Nat
def pl3 (P : PS) (p i t co : Nat) : Nat → List PE
  | 0 => []
  | c + 1 => pl3 P p i t co c ++ (if ly P t co c = 0 then [] else [(p, i, c, ly P t co c)])
def pl2 (P : PS) (s fr co p : Nat) : Nat → List PE
  | 0 => []
  | i + 1 => pl2 P s fr co p i ++ pl3 P p i (fmA s fr i) co (pW P * pH P)
def pl1 (P : PS) (sh fr co : Nat → Nat) : Nat → List PE
  | 0 => []
  | p + 1 => pl1 P sh fr co p ++ pl2 P (sh p) (fr p) (co p) p (fmN (sh p) (fr p))
theorem layk_all {P : PS} {t co x0 y0 : Nat} : ∀ {i m}, layk P t co x0 y0 i = some m → ∀ k, k < i → t.testBit k = true → lyOk P co (x0 + k % 4) (y0 + k / 4) = true
  | 0, _, _, k, hk, _ => absurd hk (by omega)
  | i + 1, m, h, k, hk, hb => by
    cases hp : layk P t co x0 y0 i with
    | none => simp only [layk, hp] at h; cases h
    | some m0 =>
      by_cases e : k = i
      · subst e
        cases ho : lyOk P co (x0 + k % 4) (y0 + k / 4) with
        | true => rfl
        | false => rw [layk_off hp hb ho] at h; cases h
      · exact layk_all hp k (by omega) hb
def bwk (t : Nat) : Nat → Nat
  | 0 => 0
  | k + 1 => if t.testBit k && decide (bwk t k < k % 4 + 1) then k % 4 + 1 else bwk t k
def bhk (t : Nat) : Nat → Nat
  | 0 => 0
  | k + 1 => if t.testBit k && decide (bhk t k < k / 4 + 1) then k / 4 + 1 else bhk t k
theorem shL_box : ∀ t ∈ shL, (∃ k : Fin 16, t.testBit k.val = true ∧ k.val % 4 + 1 = bwk t 16) ∧ ∃ k : Fin 16, t.testBit k.val = true ∧ k.val / 4 + 1 = bhk t 16 := by decide +kernel
def cnt (w A B : Nat) : Nat → Nat
  | 0 => 0
  | c + 1 => cnt w A B c + (if c % w < A ∧ c / w < B then 1 else 0)
theorem cnt_mono (w A B c : Nat) : ∀ d, cnt w A B c ≤ cnt w A B (c + d)
  | 0 => Nat.le_refl _
  | d + 1 => by
    have := cnt_mono w A B c d
    rw [show c + (d + 1) = c + d + 1 from rfl, cnt]
    omega
theorem cnt_le : ∀ w, w < 7 → ∀ h, h < 7 → ∀ A, A < 7 → ∀ B, B < 7 → cnt w A B (w * h) ≤ A * B := by
  have q : ∀ w h A B : Fin 7, cnt w.val A.val B.val (w.val * h.val) ≤ A.val * B.val := by decide +kernel
  exact fun w hw h hh A hA B hB => q ⟨w, hw⟩ ⟨h, hh⟩ ⟨A, hA⟩ ⟨B, hB⟩
def nPos (t : Nat) : Nat := (7 - bwk t 16) * (7 - bhk t 16)
theorem pl3_cnt {P : PS} {p i t co : Nat} (ht : t ∈ shL) : ∀ c, (pl3 P p i t co c).length ≤ cnt (pW P) (pW P + 1 - bwk t 16) (pH P + 1 - bhk t 16) c
  | 0 => Nat.le_refl _
  | c + 1 => by
    have ih := pl3_cnt (P := P) (p := p) (i := i) (co := co) ht c
    rw [pl3, cnt, List.length_append]
    by_cases hz : ly P t co c = 0
    · rw [if_pos hz]
      simp only [List.length_nil]
      omega
    · rw [if_neg hz]
      have hm : ∃ m, layk P t co (c % pW P) (c / pW P) 16 = some m := by
        cases h : layk P t co (c % pW P) (c / pW P) 16 with
        | none => exact absurd (ly_none (by omega) h) hz
        | some m => exact ⟨m, rfl⟩
      obtain ⟨m, hm⟩ := hm
      obtain ⟨⟨k1, b1, e1⟩, ⟨k2, b2, e2⟩⟩ := shL_box t ht
      have o1 := layk_all hm k1.val k1.isLt b1
      have o2 := layk_all hm k2.val k2.isLt b2
      simp only [lyOk, Bool.and_eq_true, decide_eq_true_eq] at o1 o2
      have q1 := o1.1
      have q2 := o2.2.1
      rw [if_pos ⟨by omega, by omega⟩]
      simp only [List.length_cons, List.length_nil]
      omega
theorem pl3_le {P : PS} {p i t co c : Nat} (hV : VD P) (ht : t ∈ shL) (hc : c ≤ pW P * pH P) : (pl3 P p i t co c).length ≤ nPos t := by
  obtain ⟨v1, v2, v3, v4, v5⟩ := hV
  obtain ⟨⟨k1, b1, e1⟩, ⟨k2, b2, e2⟩⟩ := shL_box t ht
  have h1 := pl3_cnt (P := P) (p := p) (i := i) (co := co) ht c
  have h2 := cnt_mono (pW P) (pW P + 1 - bwk t 16) (pH P + 1 - bhk t 16) c (pW P * pH P - c)
  rw [show c + (pW P * pH P - c) = pW P * pH P by omega] at h2
  have h3 := cnt_le (pW P) (by omega) (pH P) (by omega) (pW P + 1 - bwk t 16) (by omega) (pH P + 1 - bhk t 16) (by omega)
  have h4 : (pW P + 1 - bwk t 16) * (pH P + 1 - bhk t 16) ≤ nPos t := Nat.mul_le_mul (by omega) (by omega)
  omega
def sPos (s fr : Nat) : Nat → Nat
  | 0 => 0
  | i + 1 => sPos s fr i + nPos (fmA s fr i)
theorem sPos_le : ∀ s ∈ shL, ∀ fr, fr < 3 → sPos s fr (fmN s fr) ≤ 160 := by
  have h : ∀ s ∈ shL, ∀ fr : Fin 3, sPos s fr.val (fmN s fr.val) ≤ 160 := by decide +kernel
  exact fun s hs fr hf => h s hs ⟨fr, hf⟩
theorem sPos_mono (s fr i : Nat) : ∀ d, sPos s fr i ≤ sPos s fr (i + d)
  | 0 => Nat.le_refl _
  | d + 1 => by
    have := sPos_mono s fr i d
    rw [show i + (d + 1) = i + d + 1 from rfl, sPos]
    omega
theorem fmA_in {s fr i : Nat} (hs : s ∈ shL) (hf : fr < 3) (hi : i < fmN s fr) : fmA s fr i ∈ shL := by
  refine (FM_in s hs fr hf).2.2 _ ?_
  unfold fmA
  rw [List.getD_eq_getElem?_getD, List.getElem?_eq_getElem hi]
  exact List.getElem_mem hi
theorem pl2_le {P : PS} {s fr co p : Nat} (hV : VD P) (hs : s ∈ shL) (hf : fr < 3) : ∀ i, i ≤ fmN s fr → (pl2 P s fr co p i).length ≤ sPos s fr i
  | 0, _ => Nat.le_refl _
  | i + 1, h => by
    have ih := pl2_le (co := co) (p := p) hV hs hf i (by omega)
    have h3 := pl3_le (p := p) (i := i) (co := co) hV (fmA_in hs hf (show i < fmN s fr by omega)) (Nat.le_refl _)
    rw [pl2, List.length_append, sPos]
    omega
theorem pl1_le {P : PS} {sh fr co cp : Nat → Nat} (hV : VD P) (hN : VN P sh fr co cp) : ∀ p, p ≤ pN P → (pl1 P sh fr co p).length ≤ 160 * p
  | 0, _ => Nat.le_refl _
  | p + 1, h => by
    have ih := pl1_le hV hN p (by omega)
    obtain ⟨n1, n2, n3, n4, -⟩ := hN p (by omega)
    have h2 := pl2_le (co := co p) (p := p) hV n2 n4 (fmN (sh p) (fr p)) (Nat.le_refl _)
    have h3 := sPos_le _ n2 _ n4
    rw [pl1, List.length_append]
    omega
/-- the room for one more -/
theorem pl_room {P : PS} {sh fr co cp : Nat → Nat} {p i c : Nat} (hV : VD P) (hN : VN P sh fr co cp) (hp : p < pN P) (hi : i < fmN (sh p) (fr p)) (hc : c ≤ pW P * pH P) : (pl1 P sh fr co p ++ pl2 P (sh p) (fr p) (co p) p i ++ pl3 P p i (fmA (sh p) (fr p) i) (co p) c).length ≤ 1280 := by
  obtain ⟨n1, n2, n3, n4, -⟩ := hN p hp
  have v8 := hV.2.2.2.2
  have h1 := pl1_le hV hN p (by omega)
  have h2 := pl2_le (co := co p) (p := p) hV n2 n4 i (by omega)
  have h3 := pl3_le (p := p) (i := i) (co := co p) hV (fmA_in n2 n4 hi) hc
  have h4 := sPos_le _ n2 _ n4
  have h5 := sPos_mono (sh p) (fr p) (i + 1) (fmN (sh p) (fr p) - (i + 1))
  rw [show i + 1 + (fmN (sh p) (fr p) - (i + 1)) = fmN (sh p) (fr p) by omega, sPos] at h5
  rw [List.length_append, List.length_append]
  omega
