-- the walk's beginning
abbrev WKR (a6 a7 a8 : Int64) (a9 a10 a11 a12 a13 a14 a15 : Int32) : Ent := .inr (8, [.ref 1, .ref 56, .ref 64, .ref 65, .ref 66, .ref 67, .long a6, .long a7, .long a8, .int a9, .int a10, .int a11, .int a12, .int a13, .int a14, .int a15])
def WKar (f : Mm) : Prop := (∃ C, AR f 64 36 C) ∧ (∃ X, AR f 65 36 X) ∧ (∃ Y, AR f 66 8 Y) ∧ ∃ T, AL f 67 4 T
theorem WKar.keep {f f' : Mm} (h : WKar f) (e : ∀ k, 64 ≤ k → k ≤ 67 → f' k = f k) : WKar f' := by
  obtain ⟨⟨C, h1⟩, ⟨X, h2⟩, ⟨Y, h3⟩, T, h4⟩ := h
  exact ⟨⟨C, h1.keep (e 64 (by omega) (by omega))⟩, ⟨X, h2.keep (e 65 (by omega) (by omega))⟩, ⟨Y, h3.keep (e 66 (by omega) (by omega))⟩, T, h4.keep (e 67 (by omega) (by omega))⟩
def WKa (f : Mm) : Prop := (∃ a6 a7 a8 a9 a10 a11 a12 a13 a14 a15, f 63 = some (WKR a6 a7 a8 a9 a10 a11 a12 a13 a14 a15)) ∧ WKar f
theorem WKc.ar {f : Mm} {q : SQ} {st : List Nat} {tr cn : Nat} {un ov uf : Bool} {T : Int32 → Prop} (h : WKc f q st tr cn un ov uf) (hn : WKn f q st T) : WKar f := by
  obtain ⟨-, ⟨C, h1, -⟩, ⟨Y, h2, -⟩, h3⟩ := h
  obtain ⟨X, h4, -⟩ := hn
  exact ⟨⟨C, h1⟩, ⟨X, h4⟩, ⟨Y, h2⟩, _, h3⟩
/-- the walk is over -/
def WKo (f : Mm) (tr cn : Nat) (uf : Bool) : Prop := (∃ tk L R lv cc un, f 63 = some (WKE tk L R lv cc tr cn un true uf)) ∧ WKar f
theorem sh1 {k : Nat} (h : k < 64) : (1 : Int64) <<< ((nI k).toInt64 &&& 63) = lN (2 ^ k) := by
  rw [show (1 : Int64) = lN 1 from rfl, wb_shl 1 h, Nat.one_mul]

theorem ct_begin (g : GG) (f : Mm) {q : SQ} (hW : WKa f) (hC : CXw f q) (hQ : QV q) : Ct g MX9_begin [.ref 63] f 0 0 (fun r f' => r = none ∧ (∀ j, (j < 63 ∨ 67 < j) → f' j = f j) ∧ WK f' q ([], 0, 0) 0 true false false) := by
  refine Ct.of ok_MX9_begin (Nat.le_of_ble_eq_true rfl) ?_
  change Wp g MX9_begin 0 [some (.ref 63), none] [] f 0 0 _
  obtain ⟨⟨a6, a7, a8, a9, a10, a11, a12, a13, a14, a15, hO⟩, ⟨C, hCh⟩, ⟨X, hX⟩, ⟨Y, hY⟩, T, hT⟩ := hW
  obtain ⟨hP, hL, hS⟩ := id hC
  obtain ⟨v1, v2, v3, v4, v8⟩ := id hQ.1
  have ha := hQ.1.area
  have hcp : ∀ i, i < pN q.1 → pX q.1 i = nI (q.2.2.2 i) := fun i hi => (hQ.cp hi).1
  have tail : ∀ (f1 : Mm) (w1 : Option Value), (∀ j, (j < 63 ∨ 67 < j) → f1 j = f j) → f1 63 = some (WKR a6 (lN (lcC (pW q.1) (pH q.1))) (lN (rcC (pW q.1) (pH q.1))) a9 a10 a11 a12 a13 a14 a15) → (∃ C, AR f1 64 36 C) → (∃ X, AR f1 65 36 X) → (∃ Y, AR f1 66 8 Y ∧ ∀ p, p < pN q.1 → Y p = nI (q.2.2.2 p)) → AL f1 67 4 (fun _ => 0) → Wp g MX9_begin 129 [some (.ref 63), w1] [] f1 0 0 (fun r f' => r = none ∧ (∀ j, (j < 63 ∨ 67 < j) → f' j = f j) ∧ WK f' q ([], 0, 0) 0 true false false) := by
    intro f1 w1 k1 o1 ⟨C1, c1⟩ ⟨X1, x1⟩ ⟨Y1, y1, y2⟩ t1
    have hP1 : PB f1 1 q.1 := hP.keep (fun k h1 h2 => k1 k (by omega))
    have s1 : ∀ j, 63 < j → f1 j = f1 j := fun _ _ => rfl
    refine rn_aload_n dX9_begin_129 rfl ?_
    refine rn_lconst (v := 0) dX9_begin_130 (by decide) ?_
    refine rn_put dX9_begin_131 lpX9_25 o1 rfl rfl (Nat.le_of_ble_eq_true rfl) ?_
    refine Wp.gen (e := WKR 0 (lN (lcC (pW q.1) (pH q.1))) (lN (rcC (pW q.1) (pH q.1))) a9 a10 a11 a12 a13 a14 a15) (fun b134 t134 u134 => ?_)
    have s134 : ∀ j, j ≠ 63 → b134 j = f1 j := t134
    refine rn_aload_n dX9_begin_134 rfl ?_
    refine rn_iconst (v := nI 0) dX9_begin_135 (by decide) ?_
    refine rn_put dX9_begin_136 lpX9_35 u134 rfl rfl (Nat.le_of_ble_eq_true rfl) ?_
    refine Wp.gen (e := WKR 0 (lN (lcC (pW q.1) (pH q.1))) (lN (rcC (pW q.1) (pH q.1))) (nI 0) a10 a11 a12 a13 a14 a15) (fun b139 t139 u139 => ?_)
    have s139 : ∀ j, j ≠ 63 → b139 j = f1 j := fun j h => (t139 j h).trans (s134 j h)
    refine rn_aload_n dX9_begin_139 rfl ?_
    refine rn_aload_n dX9_begin_140 rfl ?_
    refine rn_get dX9_begin_141 lfX9_58 u139 rfl ?_
    refine rn_callV dX9_begin_144 lmX9_82 ⟨Nat.le_of_ble_eq_true rfl, Nat.le_of_ble_eq_true rfl⟩ (ct_copyCount g b139 q.2.2.2 (hP1.keep (fun k h1 h2 => s139 k (by omega))) hQ.1 hcp) ((s139 1 (by omega)).trans hP1.1) rfl rfl (Nat.le_of_ble_eq_true rfl) ?_
    rintro _ _ ⟨rfl, rfl⟩
    refine rn_put dX9_begin_147 lpX9_39 u139 rfl rfl (Nat.le_of_ble_eq_true rfl) ?_
    refine Wp.gen (e := WKR 0 (lN (lcC (pW q.1) (pH q.1))) (lN (rcC (pW q.1) (pH q.1))) (nI 0) (nI (sumf q.2.2.2 (pN q.1))) a11 a12 a13 a14 a15) (fun b150 t150 u150 => ?_)
    have s150 : ∀ j, j ≠ 63 → b150 j = f1 j := fun j h => (t150 j h).trans (s139 j h)
    refine rn_aload_n dX9_begin_150 rfl ?_
    refine rn_iconst (v := nI 0) dX9_begin_151 (by decide) ?_
    refine rn_put dX9_begin_152 lpX9_42 u150 rfl rfl (Nat.le_of_ble_eq_true rfl) ?_
    refine Wp.gen (e := WKR 0 (lN (lcC (pW q.1) (pH q.1))) (lN (rcC (pW q.1) (pH q.1))) (nI 0) (nI (sumf q.2.2.2 (pN q.1))) (nI 0) a12 a13 a14 a15) (fun b155 t155 u155 => ?_)
    have s155 : ∀ j, j ≠ 63 → b155 j = f1 j := fun j h => (t155 j h).trans (s150 j h)
    refine rn_aload_n dX9_begin_155 rfl ?_
    refine rn_iconst (v := nI 0) dX9_begin_156 (by decide) ?_
    refine rn_put dX9_begin_157 lpX9_45 u155 rfl rfl (Nat.le_of_ble_eq_true rfl) ?_
    refine Wp.gen (e := WKR 0 (lN (lcC (pW q.1) (pH q.1))) (lN (rcC (pW q.1) (pH q.1))) (nI 0) (nI (sumf q.2.2.2 (pN q.1))) (nI 0) (nI 0) a13 a14 a15) (fun b160 t160 u160 => ?_)
    have s160 : ∀ j, j ≠ 63 → b160 j = f1 j := fun j h => (t160 j h).trans (s155 j h)
    refine rn_aload_n dX9_begin_160 rfl ?_
    refine rn_iconst (v := nI 1) dX9_begin_161 (by decide) ?_
    refine rn_put dX9_begin_162 lpX9_48 u160 rfl rfl (Nat.le_of_ble_eq_true rfl) ?_
    refine Wp.gen (e := WKR 0 (lN (lcC (pW q.1) (pH q.1))) (lN (rcC (pW q.1) (pH q.1))) (nI 0) (nI (sumf q.2.2.2 (pN q.1))) (nI 0) (nI 0) (nI 1) a14 a15) (fun b165 t165 u165 => ?_)
    have s165 : ∀ j, j ≠ 63 → b165 j = f1 j := fun j h => (t165 j h).trans (s160 j h)
    refine rn_aload_n dX9_begin_165 rfl ?_
    refine rn_iconst (v := nI 0) dX9_begin_166 (by decide) ?_
    refine rn_put dX9_begin_167 lpX9_52 u165 rfl rfl (Nat.le_of_ble_eq_true rfl) ?_
    refine Wp.gen (e := WKR 0 (lN (lcC (pW q.1) (pH q.1))) (lN (rcC (pW q.1) (pH q.1))) (nI 0) (nI (sumf q.2.2.2 (pN q.1))) (nI 0) (nI 0) (nI 1) (nI 0) a15) (fun b170 t170 u170 => ?_)
    have s170 : ∀ j, j ≠ 63 → b170 j = f1 j := fun j h => (t170 j h).trans (s165 j h)
    refine rn_aload_n dX9_begin_170 rfl ?_
    refine rn_iconst (v := nI 0) dX9_begin_171 (by decide) ?_
    refine rn_put dX9_begin_172 lpX9_55 u170 rfl rfl (Nat.le_of_ble_eq_true rfl) ?_
    refine Wp.gen (e := WKE 0 (lcC (pW q.1) (pH q.1)) (rcC (pW q.1) (pH q.1)) 0 (sumf q.2.2.2 (pN q.1)) 0 0 true false false) (fun b175 t175 u175 => ?_)
    have s175 : ∀ j, j ≠ 63 → b175 j = f1 j := fun j h => (t175 j h).trans (s170 j h)
    refine rn_aload_n dX9_begin_175 rfl ?_
    refine rn_callV dX9_begin_176 lmX9_85 ⟨Nat.le_of_ble_eq_true rfl, Nat.le_of_ble_eq_true rfl⟩ (ct_openLevel g b175 (q := q) (st := []) u175 (hC.keep (fun j h => (s175 j (by omega)).trans (k1 j (by omega)))) hQ trivial (x1.keep (s175 65 (by decide)))) u175 rfl rfl (Nat.le_of_ble_eq_true rfl) ?_
    rintro _ f6 ⟨rfl, k6, X', hX', x3, x4⟩
    refine rn_vret dX9_begin_179 rfl ?_
    refine ⟨rfl, fun j h => (k6 j (by omega)).trans ((s175 j (by omega)).trans (k1 j h)), ⟨(k6 63 (by decide)).trans u175, ⟨C1, c1.keep ((k6 64 (by decide)).trans (s175 64 (by decide))), fun j k h => by cases h⟩, ⟨Y1, y1.keep ((k6 66 (by decide)).trans (s175 66 (by decide))), y2⟩, t1.keep ((k6 67 (by decide)).trans (s175 67 (by decide)))⟩, X', hX', fun j k h => (by cases h), x4⟩
  have loop3 : ∀ (d y : Nat) (f1 : Mm), pH q.1 - y = d → y ≤ pH q.1 → (∀ j, (j < 63 ∨ 67 < j) → f1 j = f j) → f1 63 = some (WKR a6 (lN (lcC (pW q.1) y)) (lN (rcC (pW q.1) y)) a9 a10 a11 a12 a13 a14 a15) → (∃ C, AR f1 64 36 C) → (∃ X, AR f1 65 36 X) → (∃ Y, AR f1 66 8 Y ∧ ∀ p, p < pN q.1 → Y p = nI (q.2.2.2 p)) → AL f1 67 4 (fun _ => 0) → Wp g MX9_begin 62 [some (.ref 63), some (.int (nI y))] [] f1 0 0 (fun r f' => r = none ∧ (∀ j, (j < 63 ∨ 67 < j) → f' j = f j) ∧ WK f' q ([], 0, 0) 0 true false false) := by
    intro d
    induction d using Nat.strongRecOn with
    | ind d ih =>
      intro y f1 hd hy k1 o1 h3 h4 h5 h6
      have hP1 : PB f1 1 q.1 := hP.keep (fun k h1 h2 => k1 k (by omega))
      by_cases hlt : y < pH q.1
      · have hm : (y + 1) * pW q.1 ≤ pH q.1 * pW q.1 := Nat.mul_le_mul_right _ hlt
        rw [Nat.mul_comm (pH q.1), Nat.add_mul, Nat.one_mul] at hm
        have hmy : pW q.1 * y ≤ 36 := by rw [Nat.mul_comm]; omega
        have b1 := lcC_lt (W := pW q.1) (H := y) (by omega) hmy
        have b2 := rcC_lt (W := pW q.1) (H := y) (by omega) hmy
        refine rn_iload_n dX9_begin_62 rfl ?_
        refine rn_aload_n dX9_begin_63 rfl ?_
        refine rn_get dX9_begin_64 lfX9_58 o1 rfl ?_
        refine rn_get dX9_begin_67 lfX9_76 hP1.1 rfl ?_
        refine rn_icmp_ge (tgt := 129) dX9_begin_70 (by decide) (fun c70 => ?_) (fun c70 => ?_)
        · exact absurd (ge_ex c70 (by omega) (by omega)) (by omega)
        · refine rn_aload_n dX9_begin_73 rfl ?_
          refine rn_dup dX9_begin_74 rfl ?_
          refine rn_get dX9_begin_75 lfX9_29 o1 rfl ?_
          refine rn_lconst (v := 1) dX9_begin_78 (by decide) ?_
          refine rn_iload_n dX9_begin_79 rfl ?_
          refine rn_aload_n dX9_begin_80 rfl ?_
          refine rn_get dX9_begin_81 lfX9_58 o1 rfl ?_
          refine rn_get dX9_begin_84 lfX9_79 hP1.1 rfl ?_
          refine rn_imul dX9_begin_87 ?_
          rw [pk_mul]
          refine rn_lshl dX9_begin_88 ?_
          rw [sh1 (by omega)]
          refine rn_lor dX9_begin_89 ?_
          rw [wb_or (by omega) (Nat.pow_lt_pow_right (by decide) (by omega))]
          refine rn_put dX9_begin_90 lpX9_29 o1 rfl rfl (Nat.le_of_ble_eq_true rfl) ?_
          refine Wp.gen (e := WKR a6 (lN (lcC (pW q.1) (y + 1))) (lN (rcC (pW q.1) y)) a9 a10 a11 a12 a13 a14 a15) (fun f2 k2 o2 => ?_)
          refine rn_aload_n dX9_begin_93 rfl ?_
          refine rn_dup dX9_begin_94 rfl ?_
          refine rn_get dX9_begin_95 lfX9_32 o2 rfl ?_
          refine rn_lconst (v := 1) dX9_begin_98 (by decide) ?_
          refine rn_iload_n dX9_begin_99 rfl ?_
          refine rn_aload_n dX9_begin_100 rfl ?_
          refine rn_get dX9_begin_101 lfX9_58 o2 rfl ?_
          refine rn_get dX9_begin_104 lfX9_79 ((k2 1 (by decide)).trans hP1.1) rfl ?_
          refine rn_imul dX9_begin_107 ?_
          rw [pk_mul]
          refine rn_aload_n dX9_begin_108 rfl ?_
          refine rn_get dX9_begin_109 lfX9_58 o2 rfl ?_
          refine rn_get dX9_begin_112 lfX9_79 ((k2 1 (by decide)).trans hP1.1) rfl ?_
          refine rn_iadd dX9_begin_115 ?_
          rw [nI_add]
          refine rn_iconst (v := nI 1) dX9_begin_116 (by decide) ?_
          refine rn_isub dX9_begin_117 ?_
          rw [pk_sub (by omega)]
          refine rn_lshl dX9_begin_118 ?_
          rw [sh1 (by omega)]
          refine rn_lor dX9_begin_119 ?_
          rw [wb_or (by omega) (Nat.pow_lt_pow_right (by decide) (by omega))]
          refine rn_put dX9_begin_120 lpX9_32 o2 rfl rfl (Nat.le_of_ble_eq_true rfl) ?_
          refine Wp.gen (e := WKR a6 (lN (lcC (pW q.1) (y + 1))) (lN (rcC (pW q.1) (y + 1))) a9 a10 a11 a12 a13 a14 a15) (fun f3 k3 o3 => ?_)
          have k4 : ∀ j, j ≠ 63 → f3 j = f1 j := fun j h => (k3 j h).trans (k2 j h)
          refine rn_iinc (v := nI (y + 1)) dX9_begin_123 rfl (nI_1 y) (Nat.le_of_ble_eq_true rfl) rfl ?_
          refine rn_goto (tgt := 62) dX9_begin_126 (by decide) ?_
          obtain ⟨C1, c1⟩ := h3
          obtain ⟨X1, x1⟩ := h4
          obtain ⟨Y1, y1, y2⟩ := h5
          exact ih _ (by omega) (y + 1) f3 rfl (by omega) (fun j h => (k4 j (by omega)).trans (k1 j h)) o3 ⟨C1, c1.keep (k4 64 (by decide))⟩ ⟨X1, x1.keep (k4 65 (by decide))⟩ ⟨Y1, y1.keep (k4 66 (by decide)), y2⟩ (h6.keep (k4 67 (by decide)))
      · have hy2 : y = pH q.1 := by omega
        subst hy2
        refine rn_iload_n dX9_begin_62 rfl ?_
        refine rn_aload_n dX9_begin_63 rfl ?_
        refine rn_get dX9_begin_64 lfX9_58 o1 rfl ?_
        refine rn_get dX9_begin_67 lfX9_76 hP1.1 rfl ?_
        refine rn_icmp_ge (tgt := 129) dX9_begin_70 (by decide) (fun c70 => ?_) (fun c70 => ?_)
        · exact tail f1 _ k1 o1 h3 h4 h5 h6
        · exact absurd (ge_in c70 (by omega)) (by omega)
  have loop2 : ∀ (d c : Nat) (f1 : Mm) (b : Nat → Int64), 4 - c = d → c ≤ 4 → (∀ j, j ≠ 66 → j ≠ 67 → f1 j = f j) → (∃ Y, AR f1 66 8 Y ∧ ∀ p, p < pN q.1 → Y p = nI (q.2.2.2 p)) → f1 67 = some (.inl (1, 4, .inr (.inl b))) → (∀ i, i < c → b i = lN 0) → Wp g MX9_begin 32 [some (.ref 63), some (.int (nI c))] [] f1 0 0 (fun r f' => r = none ∧ (∀ j, (j < 63 ∨ 67 < j) → f' j = f j) ∧ WK f' q ([], 0, 0) 0 true false false) := by
    intro d
    induction d using Nat.strongRecOn with
    | ind d ih =>
      intro c f1 b hd hc k1 h5 hb hbe
      have o1 := (k1 63 (by decide) (by decide)).trans hO
      by_cases hlt : c < 4
      · refine rn_iload_n dX9_begin_32 rfl ?_
        refine rn_iconst (v := nI 4) dX9_begin_33 (by decide) ?_
        refine rn_icmp_ge (tgt := 50) dX9_begin_34 (by decide) (fun c34 => ?_) (fun c34 => ?_)
        · exact absurd (ge_ex c34 (by omega) (by decide)) (by omega)
        · refine rn_aload_n dX9_begin_37 rfl ?_
          refine rn_get dX9_begin_38 lfX9_21 o1 rfl ?_
          refine rn_iload_n dX9_begin_41 rfl ?_
          refine rn_lconst (v := 0) dX9_begin_42 (by decide) ?_
          refine rn_last dX9_begin_43 hb (vp_in_nI hlt (by decide)) ?_
          refine rn_iinc (v := nI (c + 1)) dX9_begin_44 rfl (nI_1 c) (Nat.le_of_ble_eq_true rfl) rfl ?_
          refine rn_goto (tgt := 32) dX9_begin_47 (by decide) ?_
          obtain ⟨Y1, y1, y2⟩ := h5
          refine ih _ (by omega) (c + 1) _ _ rfl (by omega) (fun j h1 h2 => (up_ne h2).trans (k1 j h1 h2)) ⟨Y1, y1.keep (up_ne (by decide)), y2⟩ (up_same _ _ _) (fun i hi => ?_)
          rw [nI_clamp (by omega)]
          by_cases e : i = c
          · rw [e]; simp [vp_updL]; rfl
          · simp [vp_updL, e]; exact hbe i (by omega)
      · have hc2 : c = 4 := by omega
        subst hc2
        refine rn_iload_n dX9_begin_32 rfl ?_
        refine rn_iconst (v := nI 4) dX9_begin_33 (by decide) ?_
        refine rn_icmp_ge (tgt := 50) dX9_begin_34 (by decide) (fun c34 => ?_) (fun c34 => ?_)
        · refine rn_aload_n dX9_begin_50 rfl ?_
          refine rn_lconst (v := 0) dX9_begin_51 (by decide) ?_
          refine rn_put dX9_begin_52 lpX9_29 o1 rfl rfl (Nat.le_of_ble_eq_true rfl) ?_
          refine Wp.gen (e := WKR a6 0 a8 a9 a10 a11 a12 a13 a14 a15) (fun f2 k2 o2 => ?_)
          refine rn_aload_n dX9_begin_55 rfl ?_
          refine rn_lconst (v := 0) dX9_begin_56 (by decide) ?_
          refine rn_put dX9_begin_57 lpX9_32 o2 rfl rfl (Nat.le_of_ble_eq_true rfl) ?_
          refine Wp.gen (e := WKR a6 0 0 a9 a10 a11 a12 a13 a14 a15) (fun f3 k3 o3 => ?_)
          have k4 : ∀ j, j ≠ 63 → f3 j = f1 j := fun j h => (k3 j h).trans (k2 j h)
          refine rn_iconst (v := nI 0) dX9_begin_60 (by decide) ?_
          refine rn_istore_n dX9_begin_61 (Nat.le_of_ble_eq_true rfl) rfl ?_
          obtain ⟨Y1, y1, y2⟩ := h5
          exact loop3 _ 0 f3 rfl (by omega) (fun j h => (k4 j (by omega)).trans (k1 j (by omega) (by omega))) o3 ⟨C, hCh.keep ((k4 64 (by decide)).trans (k1 64 (by decide) (by decide)))⟩ ⟨X, hX.keep ((k4 65 (by decide)).trans (k1 65 (by decide) (by decide)))⟩ ⟨Y1, y1.keep (k4 66 (by decide)), y2⟩ ⟨b, (k4 67 (by decide)).trans hb, hbe⟩
        · exact absurd (ge_in c34 (by decide)) (by decide)
  have loop1 : ∀ (d c : Nat) (f1 : Mm) (Y1 : Nat → Int32), 8 - c = d → c ≤ 8 → (∀ j, j ≠ 66 → f1 j = f j) → AR f1 66 8 Y1 → (∀ i, i < c → Y1 i = pX q.1 i) → Wp g MX9_begin 2 [some (.ref 63), some (.int (nI c))] [] f1 0 0 (fun r f' => r = none ∧ (∀ j, (j < 63 ∨ 67 < j) → f' j = f j) ∧ WK f' q ([], 0, 0) 0 true false false) := by
    intro d
    induction d using Nat.strongRecOn with
    | ind d ih =>
      intro c f1 Y1 hd hc k1 hY1 hYe
      have o1 := (k1 63 (by decide)).trans hO
      have hP1 : PB f1 1 q.1 := hP.keep (fun k h1 h2 => k1 k (by omega))
      by_cases hlt : c < 8
      · refine rn_iload_n dX9_begin_2 rfl ?_
        refine rn_bipush (v := nI 8) dX9_begin_3 (by decide) ?_
        refine rn_icmp_ge (tgt := 30) dX9_begin_5 (by decide) (fun c5 => ?_) (fun c5 => ?_)
        · exact absurd (ge_ex c5 (by omega) (by decide)) (by omega)
        · refine rn_aload_n dX9_begin_8 rfl ?_
          refine rn_get dX9_begin_9 lfX9_18 o1 rfl ?_
          refine rn_iload_n dX9_begin_12 rfl ?_
          refine rn_aload_n dX9_begin_13 rfl ?_
          refine rn_get dX9_begin_14 lfX9_58 o1 rfl ?_
          refine rn_iload_n dX9_begin_17 rfl ?_
          refine rn_callV dX9_begin_18 lmX9_66 ⟨Nat.le_of_ble_eq_true rfl, Nat.le_of_ble_eq_true rfl⟩ (ct_copiesOf g f1 (nI c) hP1) hP1.1 rfl rfl (Nat.le_of_ble_eq_true rfl) ?_
          rintro _ _ ⟨rfl, rfl⟩
          rw [atf_nI hlt (by decide)]
          refine rn_callS dX9_begin_21 lmX9_72 ⟨Nat.le_of_ble_eq_true rfl, Nat.le_of_ble_eq_true rfl⟩ (ct_put g f1 (nI c) _ (by decide) hY1) rfl rfl (Nat.le_of_ble_eq_true rfl) ?_
          rintro _ f2 ⟨rfl, a2, k2⟩
          rw [ptf_nI hlt (by decide)] at a2
          refine rn_iinc (v := nI (c + 1)) dX9_begin_24 rfl (nI_1 c) (Nat.le_of_ble_eq_true rfl) rfl ?_
          refine rn_goto (tgt := 2) dX9_begin_27 (by decide) ?_
          refine ih _ (by omega) (c + 1) f2 _ rfl (by omega) (fun j h => (k2 j h).trans (k1 j h)) a2 (fun i hi => ?_)
          by_cases e : i = c
          · rw [e, upd_eq]
          · rw [upd_ne e]; exact hYe i (by omega)
      · have hc2 : c = 8 := by omega
        subst hc2
        obtain ⟨b, hb, hbe⟩ := id hT
        refine rn_iload_n dX9_begin_2 rfl ?_
        refine rn_bipush (v := nI 8) dX9_begin_3 (by decide) ?_
        refine rn_icmp_ge (tgt := 30) dX9_begin_5 (by decide) (fun c5 => ?_) (fun c5 => ?_)
        · refine rn_iconst (v := nI 0) dX9_begin_30 (by decide) ?_
          refine rn_istore_n dX9_begin_31 (Nat.le_of_ble_eq_true rfl) rfl ?_
          exact loop2 4 0 f1 b rfl (by omega) (fun j h1 h2 => k1 j h1) ⟨Y1, hY1, fun p hp => (hYe p (by omega)).trans (hcp p hp)⟩ ((k1 67 (by decide)).trans hb) (fun i hi => by omega)
        · exact absurd (ge_in c5 (by decide)) (by decide)
  refine rn_iconst (v := nI 0) dX9_begin_0 (by decide) ?_
  refine rn_istore_n dX9_begin_1 (Nat.le_of_ble_eq_true rfl) rfl ?_
  exact loop1 8 0 f Y rfl (by omega) (fun _ _ => rfl) hY (fun i hi => by omega)
