-- the search, as both walk it: q = (problem, placements, colours, copies); a state is (the placements put, last first; from; tries)
abbrev SQ : Type := PS × List PE × (Nat → Nat) × (Nat → Nat)
abbrev SX : Type := List Nat × Nat × Nat
def cvS (l : List PE) : List Nat → Nat
  | [] => 0
  | k :: t => cvS l t ^^^ msk l k
def tnS (l : List PE) (co : Nat → Nat) (c : Nat) : List Nat → Nat
  | [] => 0
  | k :: t => if co (gp l k).1 = c then tnS l co c t ^^^ msk l k else tnS l co c t
def usS (l : List PE) (p : Nat) : List Nat → Nat
  | [] => 0
  | k :: t => usS l p t + (if (gp l k).1 = p then 1 else 0)
def wrm (q : SQ) (st : List Nat) : Nat := opP q.1 ^^^ cvS q.2.1 st
abbrev qp (q : SQ) (k : Nat) : Nat := (gp q.2.1 k).1
def okR (q : SQ) (st : List Nat) (k : Nat) : Bool := decide (pRu q.1 = 0) || (decide (q.2.2.1 (qp q k) = 0) || decide (bsP q.1 (msk q.2.1 k) &&& tnS q.2.1 q.2.2.1 (q.2.2.1 (qp q k)) st = 0))
def ftS (q : SQ) (st : List Nat) (k : Nat) : Bool := decide (msk q.2.1 k &&& cvS q.2.1 st = 0) && (decide (usS q.2.1 (qp q k) st < q.2.2.2 (qp q k)) && okR q st k)
def fkS (q : SQ) (st : List Nat) (k : Nat) : Bool := decide (loP q.2.1 k = low (wrm q st)) && ftS q st k
def fdk (p : Nat → Bool) : Nat → Nat → Option Nat
  | 0, _ => none
  | d + 1, k => if p k = true then some k else fdk p d (k + 1)
theorem fdk_some {p : Nat → Bool} : ∀ (d : Nat) {k j : Nat}, k ≤ j → j < k + d → p j = true → (∀ i, k ≤ i → i < j → p i = false) → fdk p d k = some j
  | 0, k, j, h1, h2, _, _ => by omega
  | d + 1, k, j, h1, h2, h3, h4 => by
    rw [fdk]
    by_cases e : j = k
    · rw [e] at h3; rw [if_pos h3, e]
    · rw [if_neg (by rw [h4 k (Nat.le_refl k) (by omega)]; decide)]
      exact fdk_some d (by omega) (by omega) h3 (fun i a b => h4 i (by omega) b)
theorem fdk_none {p : Nat → Bool} : ∀ (d : Nat) {k : Nat}, (∀ i, k ≤ i → i < k + d → p i = false) → fdk p d k = none
  | 0, _, _ => rfl
  | d + 1, k, h => by
    rw [fdk, if_neg (by rw [h k (Nat.le_refl k) (by omega)]; decide)]
    exact fdk_none d (fun i a b => h i (by omega) (by omega))
theorem fdk_spec {p : Nat → Bool} : ∀ (d : Nat) {k j : Nat}, fdk p d k = some j → k ≤ j ∧ j < k + d ∧ p j = true
  | 0, k, j, h => by cases h
  | d + 1, k, j, h => by
    rw [fdk] at h
    by_cases e : p k = true
    · rw [if_pos e] at h
      cases h
      exact ⟨Nat.le_refl _, by omega, e⟩
    · rw [if_neg e] at h
      have := fdk_spec d h
      exact ⟨by omega, by omega, this.2.2⟩
def fnS (q : SQ) (st : List Nat) (fr : Nat) : Option Nat := fdk (fkS q st) (q.2.1.length - fr) fr
theorem fnS_some {q : SQ} {st : List Nat} {fr k : Nat} (h1 : fr ≤ k) (h2 : k < q.2.1.length) (h3 : fkS q st k = true) (h4 : ∀ i, fr ≤ i → i < k → fkS q st i = false) : fnS q st fr = some k := fdk_some _ h1 (by omega) h3 h4
theorem fnS_none {q : SQ} {st : List Nat} {fr : Nat} (h : ∀ i, fr ≤ i → i < q.2.1.length → fkS q st i = false) : fnS q st fr = none := fdk_none _ (fun i a b => h i a (by omega))
theorem fnS_spec {q : SQ} {st : List Nat} {fr k : Nat} (h : fnS q st fr = some k) : fr ≤ k ∧ k < q.2.1.length ∧ fkS q st k = true := by
  have := fdk_spec _ h
  exact ⟨this.1, by omega, this.2.2⟩
def alU (q : SQ) (st : List Nat) : Nat → Bool
  | 0 => true
  | n + 1 => alU q st n && decide (usS q.2.1 n st = q.2.2.2 n)
def isCv (q : SQ) (st : List Nat) : Bool := decide (pMd q.1 = 0) || alU q st (pN q.1)
def bkS (x : SX) : Nat ⊕ SX := match x.1 with
  | [] => .inl 1
  | k :: t => .inr (t, k + 1, x.2.2)
def stS (q : SQ) (x : SX) : Nat ⊕ SX := if cvS q.2.1 x.1 = opP q.1 then (if isCv q x.1 = true then .inl 0 else bkS x) else match fnS q x.1 x.2.1 with
  | none => bkS x
  | some k => if x.2.2 = 20000 then .inl 2 else .inr (k :: x.1, 0, x.2.2 + 1)
def rnS (q : SQ) : Nat → SX → Nat × SX
  | 0, x => (1, x)
  | n + 1, x => match stS q x with
    | .inl c => (c, x)
    | .inr y => rnS q n y
def pot (x : SX) : Nat := 2 * (20000 - x.2.2) + x.1.length
def RnS (q : SQ) (x : SX) : Nat × SX := rnS q (pot x + 1) x
theorem bkS_pot {x y : SX} (h : bkS x = .inr y) : pot y + 1 = pot x ∧ y.2.2 = x.2.2 ∧ ∃ k t, x.1 = k :: t ∧ y = (t, k + 1, x.2.2) := by
  obtain ⟨st, fr, tr⟩ := x
  cases st with
  | nil => cases h
  | cons k t =>
    simp only [bkS] at h
    cases h
    exact ⟨by simp [pot]; omega, rfl, k, t, rfl, rfl⟩
theorem stS_pot {q : SQ} {x y : SX} (h : stS q x = .inr y) (ht : x.2.2 ≤ 20000) : pot y + 1 = pot x ∧ y.2.2 ≤ 20000 := by
  unfold stS at h
  split at h
  · split at h
    · cases h
    · have := bkS_pot h
      exact ⟨this.1, by omega⟩
  · split at h
    · have := bkS_pot h
      exact ⟨this.1, by omega⟩
    · split at h
      · cases h
      · cases h
        exact ⟨by simp [pot]; omega, by show x.2.2 + 1 ≤ 20000; omega⟩
theorem RnS_l {q : SQ} {x : SX} {c : Nat} (h : stS q x = .inl c) : RnS q x = (c, x) := by
  rw [RnS, rnS, h]
theorem RnS_r {q : SQ} {x y : SX} (h : stS q x = .inr y) (ht : x.2.2 ≤ 20000) : RnS q x = RnS q y := by
  have := (stS_pot h ht).1
  rw [RnS, rnS, h, RnS, this]
/-- the states that come -/
def IVs (q : SQ) : List Nat → Prop
  | [] => True
  | k :: t => IVs q t ∧ k < q.2.1.length ∧ msk q.2.1 k &&& cvS q.2.1 t = 0 ∧ ¬ cvS q.2.1 t = opP q.1 ∧ loP q.2.1 k = low (wrm q t) ∧ usS q.2.1 (qp q k) t < q.2.2.2 (qp q k)
def IV (q : SQ) (x : SX) : Prop := x.2.2 ≤ 20000 ∧ IVs q x.1
theorem fkS_iff {q : SQ} {st : List Nat} {k : Nat} : fkS q st k = true ↔ loP q.2.1 k = low (wrm q st) ∧ msk q.2.1 k &&& cvS q.2.1 st = 0 ∧ usS q.2.1 (qp q k) st < q.2.2.2 (qp q k) ∧ okR q st k = true := by
  simp only [fkS, ftS, Bool.and_eq_true, decide_eq_true_eq]
theorem stS_IV {q : SQ} {x y : SX} (h : stS q x = .inr y) (hi : IV q x) : IV q y := by
  have hp := (stS_pot h hi.1).2
  refine ⟨hp, ?_⟩
  have hb : ∀ {y : SX}, bkS x = .inr y → IVs q y.1 := fun e => by
    obtain ⟨-, -, k, t, e1, e2⟩ := bkS_pot e
    have := hi.2
    rw [e1] at this
    rw [e2]
    exact this.1
  unfold stS at h
  split at h
  · split at h
    · cases h
    · exact hb h
  · rename_i hnf
    split at h
    · exact hb h
    · rename_i k hk
      split at h
      · cases h
      · cases h
        obtain ⟨h1, h2, h3⟩ := fnS_spec hk
        obtain ⟨g1, g2, g3, -⟩ := fkS_iff.mp h3
        exact ⟨hi.2, h2, g2, hnf, g1, g3⟩
/-- what a run comes to -/
theorem RnS_end (q : SQ) : ∀ (n : Nat) (x : SX), pot x = n → IV q x → IV q (RnS q x).2 ∧ pot (RnS q x).2 ≤ pot x ∧ (RnS q x).1 ≤ 2 ∧ ((RnS q x).1 = 0 → cvS q.2.1 (RnS q x).2.1 = opP q.1 ∧ isCv q (RnS q x).2.1 = true) ∧ ((RnS q x).1 = 1 → (RnS q x).2.1 = []) := by
  intro n
  induction n using Nat.strongRecOn with
  | ind n ih =>
    intro x hn hi
    cases hs : stS q x with
    | inr y =>
      have h1 := stS_pot hs hi.1
      have := ih (pot y) (by omega) y rfl (stS_IV hs hi)
      rw [RnS_r hs hi.1]
      exact ⟨this.1, by omega, this.2.2⟩
    | inl c =>
      rw [RnS_l hs]
      have hb : ∀ {c : Nat}, bkS x = .inl c → c = 1 ∧ x.1 = [] := fun e => by
        obtain ⟨st, fr, tr⟩ := x
        cases st with
        | nil => cases e; exact ⟨rfl, rfl⟩
        | cons k t => cases e
      refine ⟨hi, Nat.le_refl _, ?_⟩
      unfold stS at hs
      split at hs
      · rename_i hf
        split at hs
        · rename_i hc
          cases hs
          exact ⟨Nat.zero_le _, fun _ => ⟨hf, hc⟩, fun h => by cases h⟩
        · obtain ⟨rfl, e⟩ := hb hs
          exact ⟨Nat.le_of_ble_eq_true rfl, fun h => (by cases h), fun _ => e⟩
      · split at hs
        · obtain ⟨rfl, e⟩ := hb hs
          exact ⟨Nat.le_of_ble_eq_true rfl, fun h => (by cases h), fun _ => e⟩
        · split at hs
          · cases hs
            exact ⟨Nat.le_of_ble_eq_true rfl, fun h => (by cases h), fun h => (by cases h)⟩
          · cases hs
/-- a cover is come to by a try -/
theorem RnS_try (q : SQ) (t0 : Nat) : ∀ (n : Nat) (x : SX), pot x = n → IV q x → t0 ≤ x.2.2 → (¬ cvS q.2.1 x.1 = opP q.1 ∨ t0 < x.2.2) → (RnS q x).1 = 0 → t0 < (RnS q x).2.2.2 := by
  intro n
  induction n using Nat.strongRecOn with
  | ind n ih =>
    intro x hn hi ht hor h0
    have hb : ∀ {y : SX}, bkS x = .inr y → t0 ≤ y.2.2 ∧ (¬ cvS q.2.1 y.1 = opP q.1 ∨ t0 < y.2.2) := fun e => by
      obtain ⟨-, e0, k, t, e1, e2⟩ := bkS_pot e
      have := hi.2
      rw [e1] at this
      rw [e2]
      exact ⟨ht, Or.inl this.2.2.2.1⟩
    cases hs : stS q x with
    | inr y =>
      have h1 := stS_pot hs hi.1
      rw [RnS_r hs hi.1] at h0 ⊢
      have key : t0 ≤ y.2.2 ∧ (¬ cvS q.2.1 y.1 = opP q.1 ∨ t0 < y.2.2) := by
        have hs2 := hs
        unfold stS at hs2
        split at hs2
        · split at hs2
          · cases hs2
          · exact hb hs2
        · split at hs2
          · exact hb hs2
          · split at hs2
            · cases hs2
            · cases hs2
              exact ⟨by show t0 ≤ x.2.2 + 1; omega, Or.inr (by show t0 < x.2.2 + 1; omega)⟩
      exact ih (pot y) (by omega) y rfl (stS_IV hs hi) key.1 key.2 h0
    | inl c =>
      rw [RnS_l hs] at h0 ⊢
      have hc : c = 0 := h0
      subst hc
      rcases hor with hor | hor
      · exfalso
        unfold stS at hs
        rw [if_neg hor] at hs
        split at hs
        · obtain ⟨st, fr, tr⟩ := x
          cases st <;> cases hs
        · split at hs <;> cases hs
      · exact hor
-- the covers in their order
def nxS (q : SQ) (x : SX) : Nat × SX := match x.1 with
  | [] => (1, x)
  | k :: t => RnS q (t, k + 1, x.2.2)
def sqS (q : SQ) : Nat → Nat × SX
  | 0 => RnS q ([], 0, 0)
  | n + 1 => if (sqS q n).1 = 0 then nxS q (sqS q n).2 else sqS q n
theorem IV_0 (q : SQ) : IV q ([], 0, 0) := ⟨Nat.zero_le _, trivial⟩
theorem nxS_end {q : SQ} {x : SX} (hi : IV q x) : IV q (nxS q x).2 ∧ (nxS q x).1 ≤ 2 ∧ ((nxS q x).1 = 0 → cvS q.2.1 (nxS q x).2.1 = opP q.1 ∧ isCv q (nxS q x).2.1 = true) ∧ ((nxS q x).1 = 1 → (nxS q x).2.1 = []) ∧ ((nxS q x).1 = 0 → pot (nxS q x).2 < pot x ∧ x.2.2 < (nxS q x).2.2.2) := by
  obtain ⟨st, fr, tr⟩ := x
  cases st with
  | nil => exact ⟨hi, Nat.le_of_ble_eq_true rfl, fun h => (by cases h), fun _ => rfl, fun h => (by cases h)⟩
  | cons k t =>
    have hi2 : IV q (t, k + 1, tr) := ⟨hi.1, hi.2.1⟩
    have h := RnS_end q _ _ rfl hi2
    have hp : pot (t, k + 1, tr) + 1 = pot (k :: t, fr, tr) := by simp [pot]; omega
    refine ⟨h.1, h.2.2.1, h.2.2.2.1, h.2.2.2.2, fun h0 => ⟨?_, ?_⟩⟩
    · have := h.2.1
      show pot (RnS q (t, k + 1, tr)).2 < _
      omega
    · exact RnS_try q tr _ _ rfl hi2 (Nat.le_refl _) (Or.inl hi.2.2.2.2.1) h0
theorem sqS_end (q : SQ) : ∀ n, IV q (sqS q n).2 ∧ (sqS q n).1 ≤ 2 ∧ ((sqS q n).1 = 0 → cvS q.2.1 (sqS q n).2.1 = opP q.1 ∧ isCv q (sqS q n).2.1 = true) ∧ ((sqS q n).1 = 1 → (sqS q n).2.1 = [])
  | 0 => by
    have h := RnS_end q _ _ rfl (IV_0 q)
    exact ⟨h.1, h.2.2.1, h.2.2.2.1, h.2.2.2.2⟩
  | n + 1 => by
    have ih := sqS_end q n
    rw [sqS]
    split
    · have h := nxS_end ih.1
      exact ⟨h.1, h.2.1, h.2.2.1, h.2.2.2.1⟩
    · exact ih
theorem sqS_s {q : SQ} {n : Nat} (h : (sqS q n).1 = 0) : sqS q (n + 1) = nxS q (sqS q n).2 := by rw [sqS, if_pos h]
theorem sqS_back {q : SQ} {n : Nat} (h : (sqS q (n + 1)).1 = 0) : (sqS q n).1 = 0 := by
  rw [sqS] at h
  split at h
  · assumption
  · exact h
theorem sqS_all {q : SQ} : ∀ {n : Nat}, (sqS q n).1 = 0 → ∀ i, i ≤ n → (sqS q i).1 = 0
  | 0, h, i, hi => by rw [show i = 0 by omega]; exact h
  | n + 1, h, i, hi => by
    by_cases e : i = n + 1
    · rw [e]; exact h
    · exact sqS_all (sqS_back h) i (by omega)
theorem sqS_tr {q : SQ} : ∀ n, (sqS q n).1 = 0 → n ≤ (sqS q n).2.2.2
  | 0, _ => Nat.zero_le _
  | n + 1, h => by
    have h0 := sqS_back h
    have ih := sqS_tr n h0
    rw [sqS_s h0] at h ⊢
    have := ((nxS_end (sqS_end q n).1).2.2.2.2 h).2
    omega
/-- there are at most 20000 covers -/
theorem sqS_lt {q : SQ} {n : Nat} (h : (sqS q n).1 = 0) : n < 20000 := by
  rcases Nat.lt_or_ge n 20000 with a | a
  · exact a
  · exfalso
    cases n with
    | zero => omega
    | succ n =>
      have h0 := sqS_back h
      have e := (sqS_end q (n + 1)).1.1
      by_cases hz : opP q.1 = 0
      · -- an empty board has one cover
        have h00 : (sqS q 0).1 = 0 := sqS_all h 0 (by omega)
        have h01 : (sqS q 1).1 = 0 := sqS_all h 1 (by omega)
        rw [sqS_s h00] at h01
        have hs : stS q ([], 0, 0) = .inl 0 ∨ stS q ([], 0, 0) = .inl 1 := by
          unfold stS
          rw [if_pos (by rw [hz]; rfl)]
          split
          · exact Or.inl rfl
          · exact Or.inr rfl
        rcases hs with hs | hs
        · rw [sqS, RnS_l hs] at h01
          cases h01
        · rw [sqS, RnS_l hs] at h00
          cases h00
      · have key : ∀ m, (sqS q m).1 = 0 → m + 1 ≤ (sqS q m).2.2.2 := by
          intro m
          induction m with
          | zero =>
            intro hm
            exact RnS_try q 0 _ _ rfl (IV_0 q) (Nat.le_refl _) (Or.inl (fun e => hz (by rw [← e]; rfl))) hm
          | succ m ih =>
            intro hm
            have h0 := sqS_back hm
            have ih := ih h0
            rw [sqS_s h0] at hm ⊢
            have := ((nxS_end (sqS_end q m).1).2.2.2.2 hm).2
            omega
        have := key (n + 1) h
        omega
def meS (q : SQ) (n : Nat) : Nat := if n = 0 then 40001 else pot (sqS q (n - 1)).2
theorem meS_lt {q : SQ} {n : Nat} (h : (sqS q n).1 = 0) : meS q (n + 1) < meS q n := by
  unfold meS
  rw [if_neg (by omega), Nat.add_sub_cancel]
  cases n with
  | zero =>
    rw [if_pos rfl]
    have h2 := (RnS_end q _ _ rfl (IV_0 q)).2.1
    have h3 : pot ([], 0, 0) = 40000 := rfl
    show pot (RnS q ([], 0, 0)).2 < 40001
    omega
  | succ n =>
    rw [if_neg (by omega), Nat.add_sub_cancel]
    have h0 := sqS_back h
    rw [sqS_s h0] at h ⊢
    exact ((nxS_end (sqS_end q n).1).2.2.2.2 h).1
