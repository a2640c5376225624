def dgt (T : List Nat) (p most : Nat) : Nat := if nI 49 ≤ chI T p ∧ chI T p ≤ nI (48 + most) then (chI T p).toNatClampNeg - 48 else 0
abbrev Q4 : Type := Nat × Nat × Nat × Nat
def opS (T : List Nat) (x : Q4) : Nat × Q4 := if (chI T x.1 = nI 116 ∨ chI T x.1 = nI 109) ∧ x.2.1 = 0 then (1, x.1 + 1, if chI T x.1 = nI 116 then 1 else 2, x.2.2) else if chI T x.1 = nI 99 ∧ x.2.2.1 = 0 then (if dgt T (x.1 + 1) 3 = 0 then (2, x.1 + 1, x.2) else (1, x.1 + 2, x.2.1, dgt T (x.1 + 1) 3, x.2.2.2)) else if chI T x.1 = nI 120 ∧ x.2.2.2 = 0 then (if dgt T (x.1 + 1) 9 = 0 then (2, x.1 + 1, x.2) else (1, x.1 + 2, x.2.1, x.2.2.1, dgt T (x.1 + 1) 9)) else (0, x)
def otk (T : List Nat) : Nat → Q4 → Bool × Q4
  | 0, x => (true, x)
  | n + 1, x => if (opS T x).1 = 0 then (true, x) else if (opS T x).1 = 1 then otk T n (opS T x).2 else (false, (opS T x).2)
theorem otk_stop {T : List Nat} {x : Q4} (h : (opS T x).1 = 0) : ∀ n, otk T n x = (true, x)
  | 0 => rfl
  | n + 1 => by rw [otk, if_pos h]
theorem dgt_le (T : List Nat) (p most : Nat) (hm : most < 100) : dgt T p most ≤ most := by
  unfold dgt
  split
  · rename_i h
    obtain ⟨k, h1, h2, h3⟩ := rng (a := 49) (by omega) h (by
      rcases Nat.lt_or_ge (48 + most) 49 with q | q
      · exfalso
        have a1 := Int32.le_iff_toInt_le.mp h.1
        have a2 := Int32.le_iff_toInt_le.mp h.2
        rw [nI_toInt (by omega)] at a1 a2
        omega
      · exact q)
    rw [h3, nI_clamp (by omega)]
    omega
  · exact Nat.zero_le _
theorem dgt_pos {T : List Nat} {p most : Nat} (h : ¬ dgt T p most = 0) : p < T.length := by
  unfold dgt at h
  split at h
  · rename_i h2
    rcases Nat.lt_or_ge p T.length with q | q
    · exact q
    · exfalso
      rw [chI, List.getElem?_eq_none q] at h2
      exact absurd h2.1 (by decide)
  · exact absurd rfl h
def opOk (x : Q4) : Prop := x.2.1 < 3 ∧ x.2.2.1 ≤ 3 ∧ x.2.2.2 ≤ 9
theorem opS_ok {T : List Nat} {x : Q4} (h : opOk x) : opOk (opS T x).2 := by
  have h3 := dgt_le T (x.1 + 1) 3 (by decide)
  have h9 := dgt_le T (x.1 + 1) 9 (by decide)
  obtain ⟨a, b, c⟩ := h
  unfold opS
  split
  · refine ⟨?_, b, c⟩
    show (if chI T x.1 = nI 116 then 1 else 2) < 3
    split <;> decide
  · split
    · split
      · exact ⟨a, b, c⟩
      · exact ⟨a, h3, c⟩
    · split
      · split
        · exact ⟨a, b, c⟩
        · exact ⟨a, b, h9⟩
      · exact ⟨a, b, c⟩
theorem opS_le {T : List Nat} {x : Q4} (h : x.1 ≤ T.length) : (opS T x).2.1 ≤ T.length ∧ x.1 ≤ (opS T x).2.1 := by
  unfold opS
  split
  · rename_i h1
    have : x.1 < T.length := by
      rcases h1.1 with e | e
      · exact chI_ne e (by decide)
      · exact chI_ne e (by decide)
    exact ⟨this, Nat.le_succ _⟩
  · split
    · rename_i h1
      have := chI_ne h1.1 (by decide)
      split
      · exact ⟨this, Nat.le_succ _⟩
      · rename_i h2
        have := dgt_pos h2
        exact ⟨this, by show x.1 ≤ x.1 + 2; omega⟩
    · split
      · rename_i h1
        have := chI_ne h1.1 (by decide)
        split
        · exact ⟨this, Nat.le_succ _⟩
        · rename_i h2
          have := dgt_pos h2
          exact ⟨this, by show x.1 ≤ x.1 + 2; omega⟩
      · exact ⟨h, Nat.le_refl _⟩
theorem otk_le {T : List Nat} : ∀ n {x : Q4}, x.1 ≤ T.length → opOk x → (otk T n x).2.1 ≤ T.length ∧ opOk (otk T n x).2
  | 0, x, h, ho => ⟨h, ho⟩
  | n + 1, x, h, ho => by
    rw [otk]
    split
    · exact ⟨h, ho⟩
    · split
      · exact otk_le n (opS_le h).1 (opS_ok ho)
      · exact ⟨(opS_le h).1, opS_ok ho⟩
/-- the shape of R rows of w at p0 -/
def shk (T : List Nat) (p0 w R : Nat) : Nat → Nat
  | 0 => 0
  | k + 1 => if k / 4 < R ∧ k % 4 < w ∧ chI T (p0 + (k / 4) * (w + 1) + k % 4) = nI 111 then shk T p0 w R k ||| 2 ^ k else shk T p0 w R k
theorem shk_bit (T : List Nat) (p0 w R k : Nat) : ∀ n, (shk T p0 w R n).testBit k = true ↔ k < n ∧ (k / 4 < R ∧ k % 4 < w) ∧ chI T (p0 + (k / 4) * (w + 1) + k % 4) = nI 111
  | 0 => by simp [shk]
  | n + 1 => by
    have ih := shk_bit T p0 w R k n
    rw [shk]
    split
    · rename_i h
      rw [Nat.testBit_or, Bool.or_eq_true, ih, Nat.testBit_two_pow, decide_eq_true_eq]
      constructor
      · rintro (⟨a, b⟩ | e)
        · exact ⟨by omega, b⟩
        · rw [← e]; exact ⟨by omega, ⟨h.1, h.2.1⟩, h.2.2⟩
      · rintro ⟨a, b⟩
        by_cases e : k = n
        · exact Or.inr e.symm
        · exact Or.inl ⟨by omega, b⟩
    · rename_i h
      rw [ih]
      constructor
      · rintro ⟨a, b⟩; exact ⟨by omega, b⟩
      · rintro ⟨a, b⟩
        by_cases e : k = n
        · rw [e] at b; exact absurd ⟨b.1.1, b.1.2, b.2⟩ h
        · exact ⟨by omega, b⟩
theorem shk_B (T : List Nat) (p0 w R : Nat) : shB T p0 w (fun i j => i < R ∧ j < w) (shk T p0 w R 16) := fun k => shk_bit T p0 w R k 16
abbrev zS (T : List Nat) (p : Nat) : Bool × Nat × Nat := rwS T false 4 p
abbrev shS (T : List Nat) (p : Nat) : Nat := shk T p (rl T false 4 p) (zS T p).2.1 16
/-- a piece, behind its bar -/
def pcF (T : List Nat) (p : Nat) : Bool × Nat × Q4 := if (zS T p).1 = false then (false, (zS T p).2.2, (0, 0, 0, 0)) else if okC (shS T p) = false then (false, (zS T p).2.2, (0, 0, 0, 0)) else ((otk T 3 ((zS T p).2.2, 0, 0, 0)).1, (otk T 3 ((zS T p).2.2, 0, 0, 0)).2.1, (nrC (shS T p), (otk T 3 ((zS T p).2.2, 0, 0, 0)).2.2.1, (otk T 3 ((zS T p).2.2, 0, 0, 0)).2.2.2.1, if (otk T 3 ((zS T p).2.2, 0, 0, 0)).2.2.2.2 = 0 then 1 else (otk T 3 ((zS T p).2.2, 0, 0, 0)).2.2.2.2))
def outc (T : List Nat) : Nat → Nat → List Q4 → Nat ⊕ List Q4
  | 0, p, L => if chI T p = -1 then .inr L else .inl p
  | n + 1, p, L => if chI T p = nI 124 then (if (pcF T (p + 1)).1 = true then outc T n (pcF T (p + 1)).2.1 (L ++ [(pcF T (p + 1)).2.2]) else .inl (pcF T (p + 1)).2.1) else if chI T p = -1 then .inr L else .inl p
def outL (T : List Nat) : Nat ⊕ List Q4 := if (rwS T true 6 0).1 = true then outc T 8 (rwS T true 6 0).2.2 [] else .inl (rwS T true 6 0).2.2
def DRq (T : List Nat) (L : List Q4) (D : PS) : Prop := pW D = rl T true 6 0 ∧ pH D = (rwS T true 6 0).2.1 ∧ pN D = L.length ∧ (∀ i j, i < (rwS T true 6 0).2.1 → j < rl T true 6 0 → pC D (i * rl T true 6 0 + j) = cvl (chI T (i * (rl T true 6 0 + 1) + j))) ∧ ∀ i e, L[i]? = some e → pS D i = nI e.1 ∧ pF D i = nI e.2.1 ∧ pK D i = nI e.2.2.1 ∧ pX D i = nI e.2.2.2
theorem ct_readDigit (g : GG) (f : Mm) {T : List Nat} {p c r s m : Nat} (hO : f 45 = some (RDE T.length p c r s)) (hT : RDt f T) (hp : p < 1000) (hm : m < 100) : Ct g MX5_readDigit [.ref 45, .int (nI m)] f 0 0 (fun r' f' => (∀ j, j ≠ 45 → f' j = f j) ∧ r' = some (.int (nI (dgt T p m))) ∧ f' 45 = some (RDE T.length (if dgt T p m = 0 then p else p + 1) c r s)) := by
  refine Ct.of ok_MX5_readDigit (Nat.le_of_ble_eq_true rfl) ?_
  change Wp g MX5_readDigit 0 [some (.ref 45), some (.int (nI m)), none] [] f 0 0 _
  have hx : ∃ z : Int, (chI T p - nI 48).toInt = z ∧ (chI T p).toInt = z + 48 ∧ -1000 < z ∧ z < 1000 := by
    unfold chI
    cases hg : T[p]? with
    | none => exact ⟨-49, by decide, by decide, by decide, by decide⟩
    | some c0 =>
      obtain ⟨-, C, -, hC⟩ := id hT
      have := (hC p c0 hg).1
      refine ⟨(c0 : Int) - 48, pk_sub_toInt (by omega) (by decide), ?_, by omega, by omega⟩
      rw [nI_toInt (by omega)]
      omega
  obtain ⟨z, hz1, hz2, hz3, hz4⟩ := hx
  have h1 : (nI 1).toInt = 1 := by decide
  have hmI : (nI m).toInt = (m : Int) := nI_toInt (by omega)
  have h49 : (nI 49).toInt = 49 := by decide
  have h48 : (nI (48 + m)).toInt = ((48 + m : Nat) : Int) := nI_toInt (by omega)
  have no : (z < 1 ∨ (m : Int) < z) → dgt T p m = 0 := fun h => by
    unfold dgt
    rw [if_neg]
    intro q
    have q1 := Int32.le_iff_toInt_le.mp q.1
    have q2 := Int32.le_iff_toInt_le.mp q.2
    rw [h49, hz2] at q1
    rw [h48, hz2] at q2
    omega
  refine rn_aload_n dX5_readDigit_0 rfl ?_
  refine rn_callV dX5_readDigit_1 lmX5_55 ⟨Nat.le_of_ble_eq_true rfl, Nat.le_of_ble_eq_true rfl⟩ (ct_look g f hO hT hp) hO rfl rfl (Nat.le_of_ble_eq_true rfl) ?_
  rintro _ _ ⟨rfl, rfl⟩
  refine rn_bipush (v := nI 48) dX5_readDigit_4 (by decide) ?_
  refine rn_isub dX5_readDigit_6 ?_
  refine rn_istore_n dX5_readDigit_7 (Nat.le_of_ble_eq_true rfl) rfl ?_
  refine rn_iload_n dX5_readDigit_8 rfl ?_
  refine rn_iconst (v := nI 1) dX5_readDigit_9 (by decide) ?_
  refine rn_icmp_lt (tgt := 18) dX5_readDigit_10 (by decide) (fun c10 => ?_) (fun c10 => ?_)
  · refine rn_iconst (v := nI 0) dX5_readDigit_18 (by decide) ?_
    refine rn_iret dX5_readDigit_19 rfl ?_
    have q := Int32.lt_iff_toInt_lt.mp c10
    rw [h1, hz1] at q
    have h0 := no (Or.inl (by omega))
    exact ⟨fun _ _ => rfl, by rw [h0], by rw [if_pos h0]; exact hO⟩
  · refine rn_iload_n dX5_readDigit_13 rfl ?_
    refine rn_iload_n dX5_readDigit_14 rfl ?_
    refine rn_icmp_le (tgt := 20) dX5_readDigit_15 (by decide) (fun c15 => ?_) (fun c15 => ?_)
    · refine rn_aload_n dX5_readDigit_20 rfl ?_
      refine rn_dup dX5_readDigit_21 rfl ?_
      refine rn_get dX5_readDigit_22 lfX5_26 hO rfl ?_
      refine rn_iconst (v := nI 1) dX5_readDigit_25 (by decide) ?_
      refine rn_iadd dX5_readDigit_26 ?_
      rw [nI_add]
      refine rn_put dX5_readDigit_27 lpX5_26 hO rfl rfl (Nat.le_of_ble_eq_true rfl) ?_
      refine Wp.gen (e := RDE T.length (p + 1) c r s) (fun f1 k1 o1 => ?_)
      refine rn_iload_n dX5_readDigit_30 rfl ?_
      refine rn_iret dX5_readDigit_31 rfl ?_
      have q := Int32.le_iff_toInt_le.mp c15
      have q0 : ¬ (chI T p - nI 48).toInt < (nI 1).toInt := fun h => c10 (Int32.lt_iff_toInt_lt.mpr h)
      rw [h1, hz1] at q0
      rw [hmI, hz1] at q
      have hval : dgt T p m = z.toNat := by
        unfold dgt
        rw [if_pos ⟨Int32.le_iff_toInt_le.mpr (by rw [h49, hz2]; omega), Int32.le_iff_toInt_le.mpr (by rw [h48, hz2]; omega)⟩]
        show (chI T p).toInt.toNat - 48 = z.toNat
        rw [hz2]; omega
      refine ⟨k1, ?_, by rw [if_neg (by omega)]; exact o1⟩
      rw [hval]
      congr 2
      apply Int32.toInt_inj.mp
      rw [hz1, nI_toInt (by omega)]
      omega
    · refine rn_iconst (v := nI 0) dX5_readDigit_18 (by decide) ?_
      refine rn_iret dX5_readDigit_19 rfl ?_
      have q0 : ¬ (chI T p - nI 48).toInt ≤ (nI m).toInt := fun h => c15 (Int32.le_iff_toInt_le.mpr h)
      rw [hmI, hz1] at q0
      have h0 := no (Or.inr (by omega))
      exact ⟨fun _ _ => rfl, by rw [h0], by rw [if_pos h0]; exact hO⟩
