-- the Model: the object at 75; its numbers are a row wi, its one long is cv
abbrev mfs (wi : Nat → Int32) (cv : Int64) : List Value := [.ref 76, .ref 77, .int (wi 2), .ref 78, .int (wi 4), .ref 79, .int (wi 6), .ref 80, .ref 81, .ref 82, .ref 83, .ref 84, .int (wi 12), .int (wi 13), .int (wi 14), .ref 85, .int (wi 16), .int (wi 17), .int (wi 18), .int (wi 19), .ref 86, .int (wi 21), .int (wi 22), .int (wi 23), .ref 87, .ref 88, .int (wi 26), .long cv, .ref 89, .ref 90, .int (wi 30), .int (wi 31), .int (wi 32), .int (wi 33), .int (wi 34), .int (wi 35), .ref 91, .ref 92]
abbrev MO (wi : Nat → Int32) (cv : Int64) : Ent := .inr (11, mfs wi cv)
theorem ms2 (wi : Nat → Int32) (cv : Int64) (x : Int32) : (mfs wi cv).set 2 (.int x) = mfs (upd wi 2 x) cv := rfl
theorem ms4 (wi : Nat → Int32) (cv : Int64) (x : Int32) : (mfs wi cv).set 4 (.int x) = mfs (upd wi 4 x) cv := rfl
theorem ms6 (wi : Nat → Int32) (cv : Int64) (x : Int32) : (mfs wi cv).set 6 (.int x) = mfs (upd wi 6 x) cv := rfl
theorem ms12 (wi : Nat → Int32) (cv : Int64) (x : Int32) : (mfs wi cv).set 12 (.int x) = mfs (upd wi 12 x) cv := rfl
theorem ms13 (wi : Nat → Int32) (cv : Int64) (x : Int32) : (mfs wi cv).set 13 (.int x) = mfs (upd wi 13 x) cv := rfl
theorem ms14 (wi : Nat → Int32) (cv : Int64) (x : Int32) : (mfs wi cv).set 14 (.int x) = mfs (upd wi 14 x) cv := rfl
theorem ms16 (wi : Nat → Int32) (cv : Int64) (x : Int32) : (mfs wi cv).set 16 (.int x) = mfs (upd wi 16 x) cv := rfl
theorem ms17 (wi : Nat → Int32) (cv : Int64) (x : Int32) : (mfs wi cv).set 17 (.int x) = mfs (upd wi 17 x) cv := rfl
theorem ms18 (wi : Nat → Int32) (cv : Int64) (x : Int32) : (mfs wi cv).set 18 (.int x) = mfs (upd wi 18 x) cv := rfl
theorem ms19 (wi : Nat → Int32) (cv : Int64) (x : Int32) : (mfs wi cv).set 19 (.int x) = mfs (upd wi 19 x) cv := rfl
theorem ms21 (wi : Nat → Int32) (cv : Int64) (x : Int32) : (mfs wi cv).set 21 (.int x) = mfs (upd wi 21 x) cv := rfl
theorem ms22 (wi : Nat → Int32) (cv : Int64) (x : Int32) : (mfs wi cv).set 22 (.int x) = mfs (upd wi 22 x) cv := rfl
theorem ms23 (wi : Nat → Int32) (cv : Int64) (x : Int32) : (mfs wi cv).set 23 (.int x) = mfs (upd wi 23 x) cv := rfl
theorem ms26 (wi : Nat → Int32) (cv : Int64) (x : Int32) : (mfs wi cv).set 26 (.int x) = mfs (upd wi 26 x) cv := rfl
theorem ms27 (wi : Nat → Int32) (cv x : Int64) : (mfs wi cv).set 27 (.long x) = mfs wi x := rfl
theorem ms30 (wi : Nat → Int32) (cv : Int64) (x : Int32) : (mfs wi cv).set 30 (.int x) = mfs (upd wi 30 x) cv := rfl
theorem ms31 (wi : Nat → Int32) (cv : Int64) (x : Int32) : (mfs wi cv).set 31 (.int x) = mfs (upd wi 31 x) cv := rfl
theorem ms32 (wi : Nat → Int32) (cv : Int64) (x : Int32) : (mfs wi cv).set 32 (.int x) = mfs (upd wi 32 x) cv := rfl
theorem ms33 (wi : Nat → Int32) (cv : Int64) (x : Int32) : (mfs wi cv).set 33 (.int x) = mfs (upd wi 33 x) cv := rfl
theorem ms34 (wi : Nat → Int32) (cv : Int64) (x : Int32) : (mfs wi cv).set 34 (.int x) = mfs (upd wi 34 x) cv := rfl
theorem ms35 (wi : Nat → Int32) (cv : Int64) (x : Int32) : (mfs wi cv).set 35 (.int x) = mfs (upd wi 35 x) cv := rfl
/-- the Model's row s holds the problem P -/
def SP (s : Nat → Int32) (P : PS) : Prop := s 0 = nI (pW P) ∧ s 1 = nI (pH P) ∧ s 2 = nI (pMd P) ∧ s 3 = nI (pRu P) ∧ s 4 = nI (pN P) ∧ (∀ i, i < pW P * pH P → s (5 + i) = pC P i) ∧ ∀ i, i < pN P → s (41 + 4 * i) = pS P i ∧ s (41 + 4 * i + 1) = pF P i ∧ s (41 + 4 * i + 2) = pK P i ∧ s (41 + 4 * i + 3) = pX P i
theorem cm_in (g : GG) (f : Mm) (v lo hi : Int32) : Ct g MX12_in [.int v, .int lo, .int hi] f 0 0 (fun r f' => f = f' ∧ r = some (.int (bI (decide (lo ≤ v ∧ v ≤ hi))))) := by
  refine Ct.of ok_MX12_in (Nat.le_of_ble_eq_true rfl) ?_
  change Wp g MX12_in 0 [some (.int v), some (.int lo), some (.int hi)] [] f 0 0 _
  refine rn_iload_n dX12_in_0 rfl ?_
  refine rn_iload_n dX12_in_1 rfl ?_
  refine rn_icmp_lt (tgt := 14) dX12_in_2 (by decide) (fun c2 => ?_) (fun c2 => ?_)
  · refine rn_iconst (v := nI 0) dX12_in_14 (by decide) ?_
    refine rn_zret dX12_in_15 rfl rfl ?_
    exact ⟨rfl, by rw [show decide (lo ≤ v ∧ v ≤ hi) = false from decide_eq_false (fun h => absurd h.1 (Int32.not_le.mpr c2))]; rfl⟩
  · refine rn_iload_n dX12_in_5 rfl ?_
    refine rn_iload_n dX12_in_6 rfl ?_
    refine rn_icmp_gt (tgt := 14) dX12_in_7 (by decide) (fun c7 => ?_) (fun c7 => ?_)
    · refine rn_iconst (v := nI 0) dX12_in_14 (by decide) ?_
      refine rn_zret dX12_in_15 rfl rfl ?_
      exact ⟨rfl, by rw [show decide (lo ≤ v ∧ v ≤ hi) = false from decide_eq_false (fun h => absurd h.2 (Int32.not_le.mpr c7))]; rfl⟩
    · refine rn_iconst (v := nI 1) dX12_in_10 (by decide) ?_
      refine rn_goto (tgt := 15) dX12_in_11 (by decide) ?_
      refine rn_zret dX12_in_15 rfl rfl ?_
      exact ⟨rfl, by rw [show decide (lo ≤ v ∧ v ≤ hi) = true from decide_eq_true ⟨Int32.not_lt.mp c2, Int32.not_lt.mp c7⟩]; rfl⟩
theorem in_R {c : Int32} {n : Nat} (hn : n < 2 ^ 30) : decide (nI 0 ≤ c ∧ c ≤ nI n - nI 1) = inR c n := by
  have h1 : (nI n - nI 1).toInt = (n : Int) - 1 := pk_sub_toInt hn (by decide)
  have h2 : (nI n).toInt = (n : Int) := nI_toInt (by omega)
  have h0 : (nI 0).toInt = 0 := by decide
  have hz : (0 : Int32).toInt = 0 := by decide
  unfold inR
  rw [Bool.eq_iff_iff]
  simp only [decide_eq_true_eq, Bool.and_eq_true, Bool.not_eq_true', decide_eq_false_iff_not, Int32.le_iff_toInt_le, Int32.lt_iff_toInt_lt, h1, h2, h0, hz]
  omega
theorem sumf_s (a : Nat → Nat) : ∀ k, sumf a (k + 1) = a 0 + sumf (fun i => a (i + 1)) k
  | 0 => by simp [sumf]
  | k + 1 => by
    have := sumf_s a k
    simp only [sumf] at this ⊢
    omega
theorem pop_sumf : ∀ (k n : Nat), popk k n = sumf (fun j => n / 2 ^ j % 2) k
  | 0, _ => rfl
  | k + 1, n => by
    rw [sumf_s, popk, pop_sumf k (n / 2)]
    have e : (fun j => n / 2 / 2 ^ j % 2) = (fun j => n / 2 ^ (j + 1) % 2) := by
      funext j
      rw [Nat.div_div_eq_div_mul, Nat.pow_succ, Nat.mul_comm]
    rw [e]
    simp
theorem cm_squares (g : GG) (f : Mm) {n : Nat} (hn : n < 65536) : Ct g MX12_squares [.int (nI n)] f 0 0 (fun r f' => f = f' ∧ r = some (.int (nI (popk 16 n)))) := by
  refine Ct.of ok_MX12_squares (Nat.le_of_ble_eq_true rfl) ?_
  change Wp g MX12_squares 0 [some (.int (nI n)), none, none] [] f 0 0 _
  have loop : ∀ (d i : Nat), 16 - i = d → i ≤ 16 → Wp g MX12_squares 4 [some (.int (nI n)), some (.int (nI (sumf (fun j => n / 2 ^ j % 2) i))), some (.int (nI i))] [] f 0 0 (fun r f' => f = f' ∧ r = some (.int (nI (popk 16 n)))) := by
    intro d
    induction d using Nat.strongRecOn with
    | ind d ih =>
      intro i hd hi
      have hle : n / 2 ^ i ≤ n := Nat.div_le_self _ _
      refine rn_iload_n dX12_squares_4 rfl ?_
      refine rn_bipush (v := nI 16) dX12_squares_5 (by decide) ?_
      refine rn_icmp_ge (tgt := 24) dX12_squares_7 (by decide) (fun c7 => ?_) (fun c7 => ?_)
      · refine rn_iload_n dX12_squares_24 rfl ?_
        refine rn_iret dX12_squares_25 rfl ?_
        have hi2 := ge_ex c7 (by omega) (by decide)
        exact ⟨rfl, by rw [show i = 16 by omega, pop_sumf]⟩
      · have hi2 := ge_in c7 (by omega)
        refine rn_iload_n dX12_squares_10 rfl ?_
        refine rn_iload_n dX12_squares_11 rfl ?_
        refine rn_iload_n dX12_squares_12 rfl ?_
        refine rn_ishr dX12_squares_13 ?_
        rw [nb_shr (by omega) (by omega)]
        refine rn_iconst (v := nI 1) dX12_squares_14 (by decide) ?_
        refine rn_iand dX12_squares_15 ?_
        rw [show (nI 1 : Int32) = nI (2 ^ 1 - 1) from rfl, nb_and (by omega) (by decide), Nat.and_two_pow_sub_one_eq_mod]
        refine rn_iadd dX12_squares_16 ?_
        rw [nI_add]
        refine rn_istore_n dX12_squares_17 (Nat.le_of_ble_eq_true rfl) rfl ?_
        refine rn_iinc (v := nI (i + 1)) dX12_squares_18 rfl (nI_1 i) (Nat.le_of_ble_eq_true rfl) rfl ?_
        refine rn_goto (tgt := 4) dX12_squares_21 (by decide) ?_
        exact ih _ (by omega) (i + 1) rfl (by omega)
  refine rn_iconst (v := nI 0) dX12_squares_0 (by decide) ?_
  refine rn_istore_n dX12_squares_1 (Nat.le_of_ble_eq_true rfl) rfl ?_
  refine rn_iconst (v := nI 0) dX12_squares_2 (by decide) ?_
  refine rn_istore_n dX12_squares_3 (Nat.le_of_ble_eq_true rfl) rfl ?_
  exact loop 16 0 rfl (by omega)
-- to normalize, the Model's way
def nrM (s : Nat) : Nat := itr lfC 3 (itr ufC 3 s)
theorem ufC_pos {s : Nat} (h : 0 < s) : 0 < ufC s := by
  unfold ufC
  split
  · rename_i e
    have e2 : s % 16 = 0 := by rw [← Nat.and_two_pow_sub_one_eq_mod s 4]; exact e
    omega
  · exact h
theorem itr_pos {F : Nat → Nat} (hF : ∀ x, 0 < x → 0 < F x) : ∀ n x, 0 < x → 0 < itr F n x
  | 0, _, h => h
  | n + 1, x, h => itr_pos hF n (F x) (hF x h)
/-- a column -/
theorem col_0 {v k : Nat} (hk : k < 4) (h : (v / 2 ^ k) &&& 4369 = 0) : ∀ i, i < 4 → v.testBit (4 * i + k) = false := by
  intro i hi
  have h1 : ((v / 2 ^ k) &&& 4369).testBit (4 * i) = false := by rw [h]; simp
  rw [Nat.testBit_and, Nat.testBit_div_two_pow] at h1
  have h2 : (4369 : Nat).testBit (4 * i) = true := by
    rcases (show i = 0 ∨ i = 1 ∨ i = 2 ∨ i = 3 by omega) with rfl | rfl | rfl | rfl <;> decide
  rw [h2, Bool.and_true] at h1
  exact h1
theorem cols_0 {v : Nat} (hv : v < 65536) (h0 : v &&& 4369 = 0) (h1 : v / 2 &&& 4369 = 0) (h2 : v / 4 &&& 4369 = 0) (h3 : v / 8 &&& 4369 = 0) : v = 0 := by
  apply Nat.eq_of_testBit_eq
  intro i
  rw [Nat.zero_testBit]
  rcases Nat.lt_or_ge i 16 with hi | hi
  · have e : i = 4 * (i / 4) + i % 4 := by omega
    have c0 := col_0 (v := v) (k := 0) (by decide) (by simpa using h0) (i / 4) (by omega)
    have c1 := col_0 (v := v) (k := 1) (by decide) h1 (i / 4) (by omega)
    have c2 := col_0 (v := v) (k := 2) (by decide) h2 (i / 4) (by omega)
    have c3 := col_0 (v := v) (k := 3) (by decide) h3 (i / 4) (by omega)
    rcases (show i % 4 = 0 ∨ i % 4 = 1 ∨ i % 4 = 2 ∨ i % 4 = 3 by omega) with m | m | m | m
    · rw [e, m]; exact c0
    · rw [e, m]; exact c1
    · rw [e, m]; exact c2
    · rw [e, m]; exact c3
  · exact Nat.testBit_lt_two_pow (Nat.lt_of_lt_of_le hv (Nat.pow_le_pow_right (n := 2) (by decide) hi))
theorem cm_normal (g : GG) (f : Mm) {s : Nat} (hs : s < 65536) (h0 : 0 < s) : Ct g MX12_normal [.int (nI s)] f 0 0 (fun r f' => f = f' ∧ r = some (.int (nI (nrM s)))) := by
  refine Ct.of ok_MX12_normal (Nat.le_of_ble_eq_true rfl) ?_
  change Wp g MX12_normal 0 [some (.int (nI s)), none] [] f 0 0 _
  have loop2 : ∀ (n c : Nat), n ≤ 3 → c < 65536 → 0 < c → (∃ m, m ≤ n ∧ ¬ c / 2 ^ m &&& 4369 = 0) → Wp g MX12_normal 16 [some (.int (nI s)), some (.int (nI c))] [] f 0 0 (fun r f' => f = f' ∧ r = some (.int (nI (itr lfC n c)))) := by
    intro n
    induction n with
    | zero =>
      intro c hn hc hp hm
      obtain ⟨m, hm1, hm2⟩ := hm
      have hm0 : m = 0 := by omega
      subst hm0
      refine rn_iload_n dX12_normal_16 rfl ?_
      refine rn_sipush (v := nI 4369) dX12_normal_17 (by decide) ?_
      refine rn_iand dX12_normal_20 ?_
      refine rn_if_ne (tgt := 31) dX12_normal_21 (by decide) (fun c21 => ?_) (fun c21 => ?_)
      · refine rn_iload_n dX12_normal_31 rfl ?_
        refine rn_iret dX12_normal_32 rfl ?_
        exact ⟨rfl, rfl⟩
      · exact absurd ((and_0 hc (by decide)).mp c21) (by simpa using hm2)
    | succ n ih =>
      intro c hn hc hp hm
      refine rn_iload_n dX12_normal_16 rfl ?_
      refine rn_sipush (v := nI 4369) dX12_normal_17 (by decide) ?_
      refine rn_iand dX12_normal_20 ?_
      refine rn_if_ne (tgt := 31) dX12_normal_21 (by decide) (fun c21 => ?_) (fun c21 => ?_)
      · refine rn_iload_n dX12_normal_31 rfl ?_
        refine rn_iret dX12_normal_32 rfl ?_
        exact ⟨rfl, by rw [itr_fix (show lfC c = c by rw [lfC, if_neg (fun q => c21 ((and_0 hc (by decide)).mpr q))])]⟩
      · refine rn_iload_n dX12_normal_24 rfl ?_
        refine rn_iconst (v := nI 1) dX12_normal_25 (by decide) ?_
        refine rn_ishr dX12_normal_26 ?_
        rw [nb_shr (by decide) (by omega)]
        refine rn_istore_n dX12_normal_27 (Nat.le_of_ble_eq_true rfl) rfl ?_
        refine rn_goto (tgt := 16) dX12_normal_28 (by decide) ?_
        have hz := (and_0 hc (by decide)).mp c21
        obtain ⟨m, hm1, hm2⟩ := hm
        have e := ih (c / 2 ^ 1) (by omega) (by omega) (by
          rcases Nat.eq_zero_or_pos (c / 2 ^ 1) with q | q
          · exfalso
            have q1 : c = 1 := by omega
            rw [q1] at hz
            exact absurd hz (by decide)
          · exact q) (by
          cases m with
          | zero => exact absurd hz (by simpa using hm2)
          | succ m => exact ⟨m, by omega, by rw [Nat.div_div_eq_div_mul, ← Nat.pow_add, Nat.add_comm 1 m]; exact hm2⟩)
        rw [show itr lfC (n + 1) c = itr lfC n (c / 2 ^ 1) by rw [itr, lfC, if_pos hz]]
        exact e
  have loop1 : ∀ (n c : Nat), n ≤ 3 → c < 16 ^ (n + 1) → c < 65536 → 0 < c → Wp g MX12_normal 2 [some (.int (nI s)), some (.int (nI c))] [] f 0 0 (fun r f' => f = f' ∧ r = some (.int (nI (itr lfC 3 (itr ufC n c))))) := by
    intro n
    induction n with
    | zero =>
      intro c hn hb hc hp
      refine rn_iload_n dX12_normal_2 rfl ?_
      refine rn_bipush (v := nI 15) dX12_normal_3 (by decide) ?_
      refine rn_iand dX12_normal_5 ?_
      refine rn_if_ne (tgt := 16) dX12_normal_6 (by decide) (fun c6 => ?_) (fun c6 => ?_)
      · refine loop2 3 c (by omega) hc hp ?_
        refine Classical.byContradiction fun q => ?_
        have q2 : ∀ m, m ≤ 3 → c / 2 ^ m &&& 4369 = 0 := fun m hm => Classical.byContradiction fun z => q ⟨m, hm, z⟩
        exact absurd (cols_0 hc (by simpa using q2 0 (by omega)) (q2 1 (by omega)) (q2 2 (by omega)) (q2 3 (by omega))) (by omega)
      · have hz := (and_0 hc (by decide)).mp c6
        have e2 : c % 16 = 0 := by rw [← Nat.and_two_pow_sub_one_eq_mod c 4]; exact hz
        exact absurd hb (by omega)
    | succ n ih =>
      intro c hn hb hc hp
      have hpw : 16 ^ (n + 1 + 1) = 16 * 16 ^ (n + 1) := by rw [Nat.pow_succ 16 (n + 1)]; omega
      refine rn_iload_n dX12_normal_2 rfl ?_
      refine rn_bipush (v := nI 15) dX12_normal_3 (by decide) ?_
      refine rn_iand dX12_normal_5 ?_
      refine rn_if_ne (tgt := 16) dX12_normal_6 (by decide) (fun c6 => ?_) (fun c6 => ?_)
      · rw [itr_fix (show ufC c = c by rw [ufC, if_neg (fun q => c6 ((and_0 hc (by decide)).mpr q))])]
        refine loop2 3 c (by omega) hc hp ?_
        refine Classical.byContradiction fun q => ?_
        have q2 : ∀ m, m ≤ 3 → c / 2 ^ m &&& 4369 = 0 := fun m hm => Classical.byContradiction fun z => q ⟨m, hm, z⟩
        exact absurd (cols_0 hc (by simpa using q2 0 (by omega)) (q2 1 (by omega)) (q2 2 (by omega)) (q2 3 (by omega))) (by omega)
      · refine rn_iload_n dX12_normal_9 rfl ?_
        refine rn_iconst (v := nI 4) dX12_normal_10 (by decide) ?_
        refine rn_ishr dX12_normal_11 ?_
        rw [nb_shr (by decide) (by omega)]
        refine rn_istore_n dX12_normal_12 (Nat.le_of_ble_eq_true rfl) rfl ?_
        refine rn_goto (tgt := 2) dX12_normal_13 (by decide) ?_
        have hz := (and_0 hc (by decide)).mp c6
        have e2 : c % 16 = 0 := by rw [← Nat.and_two_pow_sub_one_eq_mod c 4]; exact hz
        have e := ih (c / 2 ^ 4) (by omega) (by show c / 16 < _; omega) (by omega) (by show 0 < c / 16; omega)
        rw [show itr ufC (n + 1) c = itr ufC n (c / 2 ^ 4) by rw [itr, ufC, if_pos hz]]
        exact e
  refine rn_iload_n dX12_normal_0 rfl ?_
  refine rn_istore_n dX12_normal_1 (Nat.le_of_ble_eq_true rfl) rfl ?_
  exact loop1 3 s (by omega) (by omega) hs h0
