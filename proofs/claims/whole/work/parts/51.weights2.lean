-- sets of sums modulo m, as bits
def adj (S T m : Nat) (i : Nat) : Nat → Nat
  | 0 => 0
  | j + 1 => adj S T m i j ||| (if S.testBit i && T.testBit j then 2 ^ ((i + j) % m) else 0)
def adk (S T m : Nat) : Nat → Nat
  | 0 => 0
  | i + 1 => adk S T m i ||| adj S T m i m
theorem adj_lt {S T m i : Nat} (hm : 1 ≤ m) (hm2 : m ≤ 5) : ∀ j, adj S T m i j < 2 ^ 5
  | 0 => by simp [adj]
  | j + 1 => by
    have ih := adj_lt (S := S) (T := T) (i := i) hm hm2 j
    rw [adj]
    refine Nat.or_lt_two_pow ih ?_
    split
    · have : (i + j) % m < m := Nat.mod_lt _ (by omega)
      exact Nat.pow_lt_pow_right (by decide) (by omega)
    · decide
theorem adk_lt {S T m : Nat} (hm : 1 ≤ m) (hm2 : m ≤ 5) : ∀ i, adk S T m i < 2 ^ 5
  | 0 => by simp [adk]
  | i + 1 => by
    rw [adk]
    exact Nat.or_lt_two_pow (adk_lt hm hm2 i) (adj_lt hm hm2 m)
theorem n_bit {n k : Nat} (hn : n < 2 ^ 31) (hk : k < 32) : ((nI n).toUInt32 >>> ((nI k).toUInt32 &&& Int32.toUInt32 31)).toInt32 &&& nI 1 = nI (n / 2 ^ k % 2) := by
  have hle : n / 2 ^ k ≤ n := Nat.div_le_self _ _
  rw [nb_ushr hk (by omega), show (nI 1 : Int32) = nI (2 ^ 1 - 1) from rfl, nb_and (by omega) (by decide), Nat.and_two_pow_sub_one_eq_mod]
theorem n_bit0 {n k : Nat} (h : nI (n / 2 ^ k % 2) = 0) : n.testBit k = false := by
  rw [tb_eq, decide_eq_false]
  have := (az (by omega)).mp h
  omega
theorem n_bit1 {n k : Nat} (h : ¬ nI (n / 2 ^ k % 2) = 0) : n.testBit k = true := by
  rw [tb_eq, decide_eq_true]
  have : ¬ n / 2 ^ k % 2 = 0 := fun q => h (by rw [q]; rfl)
  omega
theorem ct_addAll (g : GG) (f : Mm) {m S T : Nat} (hO : f 72 = some (WE m)) (hm : 1 ≤ m) (hm2 : m ≤ 5) (hS : S < 2 ^ 5) (hT : T < 2 ^ 5) : Ct g MX10_addAll [.ref 72, .int (nI S), .int (nI T)] f 0 0 (fun r f' => f = f' ∧ r = some (.int (nI (adk S T m m)))) := by
  refine Ct.of ok_MX10_addAll (Nat.le_of_ble_eq_true rfl) ?_
  change Wp g MX10_addAll 0 [some (.ref 72), some (.int (nI S)), some (.int (nI T)), none, none, none] [] f 0 0 _
  have outer : ∀ (d i : Nat) (w5 : Option Value), m - i = d → i ≤ m → Wp g MX10_addAll 5 [some (.ref 72), some (.int (nI S)), some (.int (nI T)), some (.int (nI (adk S T m i))), some (.int (nI i)), w5] [] f 0 0 (fun r f' => f = f' ∧ r = some (.int (nI (adk S T m m)))) := by
    intro d
    induction d using Nat.strongRecOn with
    | ind d ih =>
      intro i w5 hd hi
      have hai := adk_lt (S := S) (T := T) hm hm2 i
      have inner : ∀ (e j : Nat), i < m → m - j = e → j ≤ m → Wp g MX10_addAll 17 [some (.ref 72), some (.int (nI S)), some (.int (nI T)), some (.int (nI (adk S T m i ||| adj S T m i j))), some (.int (nI i)), some (.int (nI j))] [] f 0 0 (fun r f' => f = f' ∧ r = some (.int (nI (adk S T m m)))) := by
        intro e
        induction e using Nat.strongRecOn with
        | ind e ihe =>
          intro j him he hj
          have haj := adj_lt (S := S) (T := T) (i := i) hm hm2 j
          have hor := Nat.or_lt_two_pow hai haj
          have hmod : (i + j) % m < m := Nat.mod_lt _ (by omega)
          have hpw : 2 ^ ((i + j) % m) < 2 ^ 5 := Nat.pow_lt_pow_right (by decide) (by omega)
          have skip : (S.testBit i && T.testBit j) = false → Wp g MX10_addAll 17 [some (.ref 72), some (.int (nI S)), some (.int (nI T)), some (.int (nI (adk S T m i ||| adj S T m i j))), some (.int (nI i)), some (.int (nI (j + 1)))] [] f 0 0 (fun r f' => f = f' ∧ r = some (.int (nI (adk S T m m)))) ∨ ¬ j < m := fun hb => by
            by_cases hjm : j < m
            · have q := ihe (m - (j + 1)) (by omega) (j + 1) him rfl (by omega)
              rw [show adj S T m i (j + 1) = adj S T m i j by rw [adj, hb]; simp] at q
              exact Or.inl q
            · exact Or.inr hjm
          refine rn_iload dX10_addAll_17 rfl ?_
          refine rn_aload_n dX10_addAll_19 rfl ?_
          refine rn_get dX10_addAll_20 lfX10_18 hO rfl ?_
          refine rn_icmp_ge (tgt := 64) dX10_addAll_23 (by decide) (fun c23 => ?_) (fun c23 => ?_)
          · refine rn_iinc (v := nI (i + 1)) dX10_addAll_64 rfl (nI_1 i) (Nat.le_of_ble_eq_true rfl) rfl ?_
            refine rn_goto (tgt := 5) dX10_addAll_67 (by decide) ?_
            have hj2 := ge_ex c23 (by omega) (by omega)
            have hje : j = m := by omega
            subst hje
            exact ih _ (by omega) (i + 1) _ rfl (by omega)
          · have hj2 := ge_in c23 (by omega)
            refine rn_iload_n dX10_addAll_26 rfl ?_
            refine rn_iload dX10_addAll_27 rfl ?_
            refine rn_iushr dX10_addAll_29 ?_
            refine rn_iconst (v := nI 1) dX10_addAll_30 (by decide) ?_
            refine rn_iand dX10_addAll_31 ?_
            rw [n_bit (by omega) (by omega)]
            refine rn_if_eq (tgt := 58) dX10_addAll_32 (by decide) (fun c32 => ?_) (fun c32 => ?_)
            · refine rn_iinc (v := nI (j + 1)) dX10_addAll_58 rfl (nI_1 j) (Nat.le_of_ble_eq_true rfl) rfl ?_
              refine rn_goto (tgt := 17) dX10_addAll_61 (by decide) ?_
              exact (skip (by rw [n_bit0 c32, Bool.false_and])).elim id (fun q => absurd hj2 q)
            · refine rn_iload_n dX10_addAll_35 rfl ?_
              refine rn_iload dX10_addAll_36 rfl ?_
              refine rn_iushr dX10_addAll_38 ?_
              refine rn_iconst (v := nI 1) dX10_addAll_39 (by decide) ?_
              refine rn_iand dX10_addAll_40 ?_
              rw [n_bit (by omega) (by omega)]
              refine rn_if_eq (tgt := 58) dX10_addAll_41 (by decide) (fun c41 => ?_) (fun c41 => ?_)
              · refine rn_iinc (v := nI (j + 1)) dX10_addAll_58 rfl (nI_1 j) (Nat.le_of_ble_eq_true rfl) rfl ?_
                refine rn_goto (tgt := 17) dX10_addAll_61 (by decide) ?_
                exact (skip (by rw [n_bit0 c41, Bool.and_false])).elim id (fun q => absurd hj2 q)
              · refine rn_iload_n dX10_addAll_44 rfl ?_
                refine rn_iconst (v := nI 1) dX10_addAll_45 (by decide) ?_
                refine rn_aload_n dX10_addAll_46 rfl ?_
                refine rn_iload dX10_addAll_47 rfl ?_
                refine rn_iload dX10_addAll_49 rfl ?_
                refine rn_iadd dX10_addAll_51 ?_
                rw [nI_add]
                refine rn_callV dX10_addAll_52 lmX10_66 ⟨Nat.le_of_ble_eq_true rfl, Nat.le_of_ble_eq_true rfl⟩ (ct_rest g f hO hm hm2 (n := i + j) (by omega)) hO rfl rfl (Nat.le_of_ble_eq_true rfl) ?_
                rintro _ _ ⟨rfl, rfl⟩
                refine rn_ishl dX10_addAll_55 ?_
                rw [nb_shl (by omega) (by rw [Nat.one_mul]; omega), Nat.one_mul]
                refine rn_ior dX10_addAll_56 ?_
                rw [nb_or (by omega) (by omega)]
                refine rn_istore_n dX10_addAll_57 (Nat.le_of_ble_eq_true rfl) rfl ?_
                refine rn_iinc (v := nI (j + 1)) dX10_addAll_58 rfl (nI_1 j) (Nat.le_of_ble_eq_true rfl) rfl ?_
                refine rn_goto (tgt := 17) dX10_addAll_61 (by decide) ?_
                have q := ihe (m - (j + 1)) (by omega) (j + 1) him rfl (by omega)
                rw [show adk S T m i ||| adj S T m i (j + 1) = (adk S T m i ||| adj S T m i j) ||| 2 ^ ((i + j) % m) by rw [adj, n_bit1 c32, n_bit1 c41, Bool.and_self, if_pos rfl, Nat.or_assoc]] at q
                exact q
      refine rn_iload dX10_addAll_5 rfl ?_
      refine rn_aload_n dX10_addAll_7 rfl ?_
      refine rn_get dX10_addAll_8 lfX10_18 hO rfl ?_
      refine rn_icmp_ge (tgt := 70) dX10_addAll_11 (by decide) (fun c11 => ?_) (fun c11 => ?_)
      · refine rn_iload_n dX10_addAll_70 rfl ?_
        refine rn_iret dX10_addAll_71 rfl ?_
        have hi2 := ge_ex c11 (by omega) (by omega)
        exact ⟨rfl, by rw [show i = m by omega]⟩
      · have hi2 := ge_in c11 (by omega)
        refine rn_iconst (v := nI 0) dX10_addAll_14 (by decide) ?_
        refine rn_istore dX10_addAll_15 (Nat.le_of_ble_eq_true rfl) rfl ?_
        have q := inner m 0 hi2 rfl (by omega)
        rw [adj, Nat.or_zero] at q
        exact q
  refine rn_iconst (v := nI 0) dX10_addAll_0 (by decide) ?_
  refine rn_istore_n dX10_addAll_1 (Nat.le_of_ble_eq_true rfl) rfl ?_
  refine rn_iconst (v := nI 0) dX10_addAll_2 (by decide) ?_
  refine rn_istore dX10_addAll_3 (Nat.le_of_ble_eq_true rfl) rfl ?_
  exact outer m 0 none rfl (by omega)
