/-- what advance does where the run comes to z -/
def AVp (f : Mm) (q : SQ) (z : Nat × SX) (cn : Nat) (r : Option Value) (f' : Mm) : Prop := (∀ j, (j < 63 ∨ 67 < j) → f' j = f j) ∧ ((z.1 = 0 ∧ r = some (.int 1) ∧ WK f' q z.2 (cn + 1) false false false) ∨ (¬ z.1 = 0 ∧ r = some (.int 0) ∧ WKo f' z.2.2.2 cn (decide (z.1 = 2))))
theorem nI_m1 {k : Nat} (h : k < 2 ^ 31) : ¬ nI k = -1 := fun e => absurd (show nI k < 0 by rw [e]; decide) (nI_pos h)
theorem av_done (g : GG) (f : Mm) {q : SQ} {z : Nat × SX} {cn i : Nat} {f1 : Mm} {w2 w3 : Option Value} (ho : WKo f1 z.2.2.2 cn (decide (z.1 = 2))) (hz : ¬ z.1 = 0) (hk : ∀ j, (j < 63 ∨ 67 < j) → f1 j = f j) : Wp g MX9_advance 2 [some (.ref 63), some (.int (nI i)), w2, w3] [] f1 0 0 (fun r f' => AVp f q z cn r f') := by
  obtain ⟨⟨tk, L, R, lv, cc, un, o1⟩, har⟩ := id ho
  refine rn_iload_n dX9_advance_2 rfl ?_
  refine rn_ldc dX9_advance_3 lcX9_88 ?_
  refine rn_icmp_ge (tgt := 130) dX9_advance_5 (by decide) (fun c5 => ?_) (fun c5 => ?_)
  · refine rn_iconst (v := nI 0) dX9_advance_130 (by decide) ?_
    refine rn_zret dX9_advance_131 rfl rfl ?_
    exact ⟨hk, Or.inr ⟨hz, rfl, ho⟩⟩
  · refine rn_aload_n dX9_advance_8 rfl ?_
    refine rn_get dX9_advance_9 lfX9_52 o1 rfl ?_
    refine rn_if_ne (tgt := 130) dX9_advance_12 (by decide) (fun c12 => ?_) (fun c12 => ?_)
    · refine rn_iconst (v := nI 0) dX9_advance_130 (by decide) ?_
      refine rn_zret dX9_advance_131 rfl rfl ?_
      exact ⟨hk, Or.inr ⟨hz, rfl, ho⟩⟩
    · exact absurd c12 (by decide)
theorem av_back (g : GG) (f : Mm) {q : SQ} {z : Nat × SX} {cn i : Nat} {f1 : Mm} {w2 w3 : Option Value} {x : SX} {un : Bool} {T : Int32 → Prop} (hi : IV q x) (hW : WKc f1 q x.1 x.2.2 cn un false false) (hN : WKn f1 q x.1 T) (hC : CXw f1 q) (hQ : QV q) (hk : ∀ j, (j < 63 ∨ 67 < j) → f1 j = f j) (hz : x.1 = [] → z = (1, x)) (hkk : ∀ k t f2 w2 w3, x.1 = k :: t → WK f2 q (t, k + 1, x.2.2) cn un false false → (∀ j, (j < 63 ∨ 67 < j) → f2 j = f j) → Wp g MX9_advance 2 [some (.ref 63), some (.int (nI (i + 1))), w2, w3] [] f2 0 0 (fun r f' => AVp f q z cn r f')) : Wp g MX9_advance 89 [some (.ref 63), some (.int (nI i)), w2, w3] [] f1 0 0 (fun r f' => AVp f q z cn r f') := by
  refine rn_aload_n dX9_advance_89 rfl ?_
  refine rn_callV dX9_advance_90 lmX9_101 ⟨Nat.le_of_ble_eq_true rfl, Nat.le_of_ble_eq_true rfl⟩ (ct_stepBack g f1 hW hN hC hQ hi.2) hW.1 rfl rfl (Nat.le_of_ble_eq_true rfl) ?_
  rintro _ f2 ⟨rfl, k2, ⟨e, h1, h2⟩ | ⟨k, t, e, h1⟩⟩
  · have hz2 := hz e
    refine rn_goto (tgt := 124) dX9_advance_93 (by decide) ?_
    refine rn_iinc (v := nI (i + 1)) dX9_advance_124 rfl (nI_1 i) (Nat.le_of_ble_eq_true rfl) rfl ?_
    refine rn_goto (tgt := 2) dX9_advance_127 (by decide) ?_
    have ho : WKo f2 z.2.2.2 cn (decide (z.1 = 2)) := by
      rw [hz2]
      exact ⟨⟨_, _, _, _, _, _, h1.1⟩, h1.ar h2⟩
    exact av_done g f ho (by rw [hz2]; exact (show ¬ (1 : Nat) = 0 by decide)) (fun j h => (k2 j h).trans (hk j h))
  · refine rn_goto (tgt := 124) dX9_advance_93 (by decide) ?_
    refine rn_iinc (v := nI (i + 1)) dX9_advance_124 rfl (nI_1 i) (Nat.le_of_ble_eq_true rfl) rfl ?_
    refine rn_goto (tgt := 2) dX9_advance_127 (by decide) ?_
    exact hkk k t f2 _ _ e h1 (fun j h => (k2 j h).trans (hk j h))
theorem av_71 (g : GG) {i : Nat} {f1 : Mm} {w3 : Option Value} {Q : Option Value → Mm → Prop} (h : Wp g MX9_advance 89 [some (.ref 63), some (.int (nI i)), some (.int (nI 1)), some (.int (-1))] [] f1 0 0 Q) : Wp g MX9_advance 71 [some (.ref 63), some (.int (nI i)), some (.int (nI 1)), w3] [] f1 0 0 Q := by
  refine rn_iload_n dX9_advance_71 rfl ?_
  refine rn_if_eq (tgt := 79) dX9_advance_72 (by decide) (fun c72 => ?_) (fun c72 => ?_)
  · exact absurd c72 (by decide)
  · refine rn_iconst (v := (-1)) dX9_advance_75 (by decide) ?_
    refine rn_goto (tgt := 83) dX9_advance_76 (by decide) ?_
    refine rn_istore_n dX9_advance_83 (Nat.le_of_ble_eq_true rfl) rfl ?_
    refine rn_iload_n dX9_advance_84 rfl ?_
    refine rn_iconst (v := (-1)) dX9_advance_85 (by decide) ?_
    refine rn_icmp_ne (tgt := 96) dX9_advance_86 (by decide) (fun c86 => ?_) (fun c86 => ?_)
    · exact absurd rfl c86
    · exact h
theorem av_loop (g : GG) (f : Mm) {q : SQ} {cn : Nat} (hC : CXw f q) (hQ : QV q) : ∀ (n : Nat) (x : SX) (i : Nat) (f1 : Mm) (un : Bool) (w2 w3 : Option Value), pot x = n → i + pot x ≤ 50000 → IV q x → x.2.1 ≤ q.2.1.length → WK f1 q x cn un false false → (cvS q.2.1 x.1 = opP q.1 → un = true) → (∀ j, (j < 63 ∨ 67 < j) → f1 j = f j) → Wp g MX9_advance 2 [some (.ref 63), some (.int (nI i)), w2, w3] [] f1 0 0 (fun r f' => AVp f q (RnS q x) cn r f') := by
  intro n
  induction n using Nat.strongRecOn with
  | ind n ih =>
    intro x i f1 un w2 w3 hn hb hi hfr hW hun hk
    have hC1 : CXw f1 q := hC.keep (fun j h => hk j (by omega))
    have hO := hW.1.1
    have hL := hC1.2.1
    have hcv := cv_lt hQ hi.2
    have hop := hQ.op
    have goB : stS q x = bkS x → ∀ (f2 : Mm) (w2 w3 : Option Value), WKc f2 q x.1 x.2.2 cn un false false → WKn f2 q x.1 (fun v => ¬ cvS q.2.1 x.1 = opP q.1 → v = nI (plf q x.1 x.2.1)) → (∀ j, (j < 63 ∨ 67 < j) → f2 j = f j) → Wp g MX9_advance 89 [some (.ref 63), some (.int (nI i)), w2, w3] [] f2 0 0 (fun r f' => AVp f q (RnS q x) cn r f') := fun hs f2 w2 w3 h1 h2 hk2 => by
      refine av_back g f hi h1 h2 (hC.keep (fun j h => hk2 j (by omega))) hQ hk2 (fun e => RnS_nil hs e) (fun k t f3 u2 u3 e h3 hk3 => ?_)
      rw [RnS_cons hs hi.1 e]
      have hi2 := hi.2
      rw [e] at hi2
      have hp : pot (t, k + 1, x.2.2) + 1 = pot x := by
        unfold pot
        rw [e]
        show 2 * (20000 - x.2.2) + t.length + 1 = 2 * (20000 - x.2.2) + (t.length + 1)
        omega
      exact ih (pot (t, k + 1, x.2.2)) (by omega) (t, k + 1, x.2.2) (i + 1) f3 un u2 u3 rfl (by omega) ⟨hi.1, hi2.1⟩ hi2.2.1 h3 (fun e2 => absurd e2 hi2.2.2.2.1) hk3
    have h60 : ¬ (60010 : Int32) ≤ nI i := fun h => absurd (ge_ex (b := 60010) h (by omega) (by decide)) (by omega)
    by_cases hf : cvS q.2.1 x.1 = opP q.1
    · have e27 : lg_cmp (lN (cvS q.2.1 x.1)) (lN (opP q.1)) = 0 := (lg_cmp_eq _ _).mpr (by rw [hf])
      have hun1 := hun hf
      subst hun1
      refine rn_iload_n dX9_advance_2 rfl ?_
      refine rn_ldc dX9_advance_3 lcX9_88 ?_
      refine rn_icmp_ge (tgt := 130) dX9_advance_5 (by decide) (fun c5 => ?_) (fun c5 => ?_)
      · exact absurd c5 h60
      · refine rn_aload_n dX9_advance_8 rfl ?_
        refine rn_get dX9_advance_9 lfX9_52 hO rfl ?_
        refine rn_if_ne (tgt := 130) dX9_advance_12 (by decide) (fun c12 => ?_) (fun c12 => ?_)
        · exact absurd (show bI false = 0 from rfl) c12
        · refine rn_aload_n dX9_advance_15 rfl ?_
          refine rn_get dX9_advance_16 lfX9_25 hO rfl ?_
          refine rn_aload_n dX9_advance_19 rfl ?_
          refine rn_get dX9_advance_20 lfX9_62 hO rfl ?_
          refine rn_get dX9_advance_23 lfX9_89 hL.1 rfl ?_
          refine rn_lcmp dX9_advance_26 ?_
          refine rn_if_ne (tgt := 34) dX9_advance_27 (by decide) (fun c27 => ?_) (fun c27 => ?_)
          · exact absurd e27 c27
          · refine rn_iconst (v := nI 1) dX9_advance_30 (by decide) ?_
            refine rn_goto (tgt := 35) dX9_advance_31 (by decide) ?_
            refine rn_istore_n dX9_advance_35 (Nat.le_of_ble_eq_true rfl) rfl ?_
            refine rn_iload_n dX9_advance_36 rfl ?_
            refine rn_if_eq (tgt := 71) dX9_advance_37 (by decide) (fun c37 => ?_) (fun c37 => ?_)
            · exact absurd c37 (by decide)
            · refine rn_aload_n dX9_advance_40 rfl ?_
              refine rn_get dX9_advance_41 lfX9_48 hO rfl ?_
              refine rn_if_eq (tgt := 71) dX9_advance_44 (by decide) (fun c44 => ?_) (fun c44 => ?_)
              · exact absurd c44 (by decide)
              · refine rn_aload_n dX9_advance_47 rfl ?_
                refine rn_callV dX9_advance_48 lmX9_94 ⟨Nat.le_of_ble_eq_true rfl, Nat.le_of_ble_eq_true rfl⟩ (ct_isCover g f1 hW.1 hC1 hQ hi.2) hO rfl rfl (Nat.le_of_ble_eq_true rfl) ?_
                rintro _ _ ⟨rfl, rfl⟩
                refine rn_if_eq (tgt := 71) dX9_advance_51 (by decide) (fun c51 => ?_) (fun c51 => ?_)
                · exact av_71 g (goB (stS_fb hf (bI_0.mp c51)) f1 _ _ hW.1 hW.2 hk)
                · refine rn_aload_n dX9_advance_54 rfl ?_
                  refine rn_iconst (v := nI 0) dX9_advance_55 (by decide) ?_
                  refine rn_put dX9_advance_56 lpX9_48 hO rfl rfl (Nat.le_of_ble_eq_true rfl) ?_
                  refine Wp.gen (e := WKE (cvS q.2.1 x.1) (lcC (pW q.1) (pH q.1)) (rcC (pW q.1) (pH q.1)) x.1.length (sumf q.2.2.2 (pN q.1)) x.2.2 cn false false false) (fun f2 k2 o2 => ?_)
                  refine rn_aload_n dX9_advance_59 rfl ?_
                  refine rn_dup dX9_advance_60 rfl ?_
                  refine rn_get dX9_advance_61 lfX9_45 o2 rfl ?_
                  refine rn_iconst (v := nI 1) dX9_advance_64 (by decide) ?_
                  refine rn_iadd dX9_advance_65 ?_
                  rw [nI_add]
                  refine rn_put dX9_advance_66 lpX9_45 o2 rfl rfl (Nat.le_of_ble_eq_true rfl) ?_
                  refine Wp.gen (e := WKE (cvS q.2.1 x.1) (lcC (pW q.1) (pH q.1)) (rcC (pW q.1) (pH q.1)) x.1.length (sumf q.2.2.2 (pN q.1)) x.2.2 (cn + 1) false false false) (fun f3 k3 o3 => ?_)
                  have k4 : ∀ j, j ≠ 63 → f3 j = f1 j := fun j h => (k3 j h).trans (k2 j h)
                  refine rn_iconst (v := nI 1) dX9_advance_69 (by decide) ?_
                  refine rn_zret dX9_advance_70 rfl rfl ?_
                  rw [RnS_l (stS_cov hf (bI_n0.mp c51))]
                  obtain ⟨⟨-, ⟨C, h2, h3⟩, ⟨Y, h4, h5⟩, h6⟩, X, h7, h8, h9⟩ := id hW
                  exact ⟨fun j h => (k4 j (by omega)).trans (hk j h), Or.inl ⟨rfl, rfl, ⟨o3, ⟨C, h2.keep (k4 64 (by decide)), h3⟩, ⟨Y, h4.keep (k4 66 (by decide)), h5⟩, h6.keep (k4 67 (by decide))⟩, X, h7.keep (k4 65 (by decide)), h8, h9⟩⟩
    · have e27 : ¬ lg_cmp (lN (cvS q.2.1 x.1)) (lN (opP q.1)) = 0 := fun h => hf ((lb_eq (by omega) (by omega)).mp ((lg_cmp_eq _ _).mp h))
      have hNx : WKn f1 q x.1 (fun v => v = nI (plf q x.1 x.2.1)) := by
        obtain ⟨X, h1, h2, h3⟩ := hW.2
        exact ⟨X, h1, h2, h3 hf⟩
      have at79 : Wp g MX9_advance 79 [some (.ref 63), some (.int (nI i)), some (.int (nI 0)), w3] [] f1 0 0 (fun r f' => AVp f q (RnS q x) cn r f') := by
        refine rn_aload_n dX9_advance_79 rfl ?_
        refine rn_callV dX9_advance_80 lmX9_98 ⟨Nat.le_of_ble_eq_true rfl, Nat.le_of_ble_eq_true rfl⟩ (ct_nextThatFits g f1 hW.1 hNx hC1 hQ hi.2 hf hfr) hO rfl rfl (Nat.le_of_ble_eq_true rfl) ?_
        rintro _ f2 ⟨k2, ⟨h1, rfl, rfl⟩ | ⟨k, h1, rfl, h3⟩⟩
        · refine rn_istore_n dX9_advance_83 (Nat.le_of_ble_eq_true rfl) rfl ?_
          refine rn_iload_n dX9_advance_84 rfl ?_
          refine rn_iconst (v := (-1)) dX9_advance_85 (by decide) ?_
          refine rn_icmp_ne (tgt := 96) dX9_advance_86 (by decide) (fun c86 => ?_) (fun c86 => ?_)
          · exact absurd rfl c86
          · exact goB (stS_nb hf h1) f1 _ _ hW.1 hW.2 hk
        · obtain ⟨s1, s2, s3⟩ := fnS_spec h1
          obtain ⟨g1, g2, g3, -⟩ := fkS_iff.mp s3
          have hl := hQ.2.1.2.1
          have hi3 : IVs q (k :: x.1) := ⟨hi.2, s2, g2, hf, g1, g3⟩
          have hW2 : WKc f2 q x.1 x.2.2 cn un false false := hW.1.keep (fun j a b c => k2 j c)
          have hO2 := hW2.1
          have hk2 : ∀ j, (j < 63 ∨ 67 < j) → f2 j = f j := fun j h => (k2 j (by omega)).trans (hk j h)
          have htr := hi.1
          refine rn_istore_n dX9_advance_83 (Nat.le_of_ble_eq_true rfl) rfl ?_
          refine rn_iload_n dX9_advance_84 rfl ?_
          refine rn_iconst (v := (-1)) dX9_advance_85 (by decide) ?_
          refine rn_icmp_ne (tgt := 96) dX9_advance_86 (by decide) (fun c86 => ?_) (fun c86 => ?_)
          · refine rn_aload_n dX9_advance_96 rfl ?_
            refine rn_get dX9_advance_97 lfX9_42 hO2 rfl ?_
            refine rn_sipush (v := nI 20000) dX9_advance_100 (by decide) ?_
            refine rn_icmp_ge (tgt := 114) dX9_advance_103 (by decide) (fun c103 => ?_) (fun c103 => ?_)
            · refine rn_aload_n dX9_advance_114 rfl ?_
              refine rn_iconst (v := nI 1) dX9_advance_115 (by decide) ?_
              refine rn_put dX9_advance_116 lpX9_52 hO2 rfl rfl (Nat.le_of_ble_eq_true rfl) ?_
              refine Wp.gen (e := WKE (cvS q.2.1 x.1) (lcC (pW q.1) (pH q.1)) (rcC (pW q.1) (pH q.1)) x.1.length (sumf q.2.2.2 (pN q.1)) x.2.2 cn un true false) (fun f3 k3 o3 => ?_)
              refine rn_aload_n dX9_advance_119 rfl ?_
              refine rn_iconst (v := nI 1) dX9_advance_120 (by decide) ?_
              refine rn_put dX9_advance_121 lpX9_55 o3 rfl rfl (Nat.le_of_ble_eq_true rfl) ?_
              skip
              refine rn_iinc (v := nI (i + 1)) dX9_advance_124 rfl (nI_1 i) (Nat.le_of_ble_eq_true rfl) rfl ?_
              refine rn_goto (tgt := 2) dX9_advance_127 (by decide) ?_
              have ht := ge_ex (b := 20000) c103 (by omega) (by decide)
              have hz : RnS q x = (2, x) := RnS_l (stS_cut hf h1 (by omega))
              rw [hz]
              refine Wp.gen (e := WKE (cvS q.2.1 x.1) (lcC (pW q.1) (pH q.1)) (rcC (pW q.1) (pH q.1)) x.1.length (sumf q.2.2.2 (pN q.1)) x.2.2 cn un true true) (fun f4 k4 o4 => ?_)
              exact av_done g f ⟨⟨_, _, _, _, _, _, o4⟩, (hW2.ar h3).keep (fun j a b => (k4 j (by omega)).trans (k3 j (by omega)))⟩ (show ¬ (2 : Nat) = 0 by decide) (fun j h => (k4 j (by omega)).trans ((k3 j (by omega)).trans (hk2 j h)))
            · refine rn_aload_n dX9_advance_106 rfl ?_
              refine rn_iload_n dX9_advance_107 rfl ?_
              refine rn_callV dX9_advance_108 lmX9_104 ⟨Nat.le_of_ble_eq_true rfl, Nat.le_of_ble_eq_true rfl⟩ (ct_stepOn g f2 hW2 h3 (hC.keep (fun j h => hk2 j (by omega))) hQ hi3) hO2 rfl rfl (Nat.le_of_ble_eq_true rfl) ?_
              rintro _ f3 ⟨rfl, k3, h4⟩
              refine rn_goto (tgt := 124) dX9_advance_111 (by decide) ?_
              skip
              refine rn_iinc (v := nI (i + 1)) dX9_advance_124 rfl (nI_1 i) (Nat.le_of_ble_eq_true rfl) rfl ?_
              refine rn_goto (tgt := 2) dX9_advance_127 (by decide) ?_
              have ht := ge_in (b := 20000) c103 (by omega)
              have hs := stS_on hf h1 (by omega)
              have hp := stS_pot hs hi.1
              rw [RnS_r hs hi.1]
              exact ih (pot (k :: x.1, 0, x.2.2 + 1)) (by omega) (k :: x.1, 0, x.2.2 + 1) (i + 1) f3 true _ _ rfl (by omega) (stS_IV hs hi) (Nat.zero_le _) h4 (fun _ => rfl) (fun j h => (k3 j h).trans (hk2 j h))
          · exact absurd c86 (nI_m1 (by omega))
      refine rn_iload_n dX9_advance_2 rfl ?_
      refine rn_ldc dX9_advance_3 lcX9_88 ?_
      refine rn_icmp_ge (tgt := 130) dX9_advance_5 (by decide) (fun c5 => ?_) (fun c5 => ?_)
      · exact absurd c5 h60
      · refine rn_aload_n dX9_advance_8 rfl ?_
        refine rn_get dX9_advance_9 lfX9_52 hO rfl ?_
        refine rn_if_ne (tgt := 130) dX9_advance_12 (by decide) (fun c12 => ?_) (fun c12 => ?_)
        · exact absurd (show bI false = 0 from rfl) c12
        · refine rn_aload_n dX9_advance_15 rfl ?_
          refine rn_get dX9_advance_16 lfX9_25 hO rfl ?_
          refine rn_aload_n dX9_advance_19 rfl ?_
          refine rn_get dX9_advance_20 lfX9_62 hO rfl ?_
          refine rn_get dX9_advance_23 lfX9_89 hL.1 rfl ?_
          refine rn_lcmp dX9_advance_26 ?_
          refine rn_if_ne (tgt := 34) dX9_advance_27 (by decide) (fun c27 => ?_) (fun c27 => ?_)
          · refine rn_iconst (v := nI 0) dX9_advance_34 (by decide) ?_
            refine rn_istore_n dX9_advance_35 (Nat.le_of_ble_eq_true rfl) rfl ?_
            refine rn_iload_n dX9_advance_36 rfl ?_
            refine rn_if_eq (tgt := 71) dX9_advance_37 (by decide) (fun c37 => ?_) (fun c37 => ?_)
            · refine rn_iload_n dX9_advance_71 rfl ?_
              refine rn_if_eq (tgt := 79) dX9_advance_72 (by decide) (fun c72 => ?_) (fun c72 => ?_)
              · exact at79
              · exact absurd (show nI 0 = 0 from rfl) c72
            · exact absurd (show nI 0 = 0 from rfl) c37
          · exact absurd c27 e27
/-- from a cover that was seen -/
def WKs (f : Mm) (q : SQ) (n : Nat) : Prop := (n = 0 ∧ WK f q ([], 0, 0) 0 true false false) ∨ ∃ m, n = m + 1 ∧ (sqS q m).1 = 0 ∧ WK f q (sqS q m).2 (m + 1) false false false
theorem ct_advance (g : GG) (f : Mm) {q : SQ} {n : Nat} (hC : CXw f q) (hQ : QV q) (hS : WKs f q n) : Ct g MX9_advance [.ref 63] f 0 0 (fun r f' => AVp f q (sqS q n) n r f') := by
  refine Ct.of ok_MX9_advance (Nat.le_of_ble_eq_true rfl) ?_
  change Wp g MX9_advance 0 [some (.ref 63), none, none, none] [] f 0 0 _
  rcases hS with ⟨rfl, hW⟩ | ⟨m, rfl, h0, hW⟩
  · refine rn_iconst (v := nI 0) dX9_advance_0 (by decide) ?_
    refine rn_istore_n dX9_advance_1 (Nat.le_of_ble_eq_true rfl) rfl ?_
    exact av_loop g f hC hQ _ ([], 0, 0) 0 f true _ _ rfl (by decide) (IV_0 q) (Nat.zero_le _) hW (fun _ => rfl) (fun _ _ => rfl)
  · have he := sqS_end q m
    have hi := he.1
    have hf := (he.2.2.1 h0).1
    rw [sqS_s h0]
    generalize (sqS q m).2 = x at *
    have hO := hW.1.1
    have hL := hC.2.1
    have e27 : lg_cmp (lN (cvS q.2.1 x.1)) (lN (opP q.1)) = 0 := (lg_cmp_eq _ _).mpr (by rw [hf])
    have hpo : pot x ≤ 40100 := by
      have := (len_low hQ hi.2).2
      unfold pot
      omega
    have goB : ∀ w3, Wp g MX9_advance 89 [some (.ref 63), some (.int (nI 0)), some (.int (nI 1)), w3] [] f 0 0 (fun r f' => AVp f q (nxS q x) (m + 1) r f') := fun w3 => by
      refine av_back g f hi hW.1 hW.2 hC hQ (fun _ _ => rfl) (fun e => by rw [nxS, e]) (fun k t f3 u2 u3 e h3 hk3 => ?_)
      have hz : nxS q x = RnS q (t, k + 1, x.2.2) := by rw [nxS, e]
      rw [hz]
      have hi2 := hi.2
      rw [e] at hi2
      have hp : pot (t, k + 1, x.2.2) + 1 = pot x := by
        unfold pot
        rw [e]
        show 2 * (20000 - x.2.2) + t.length + 1 = 2 * (20000 - x.2.2) + (t.length + 1)
        omega
      exact av_loop g f hC hQ _ (t, k + 1, x.2.2) 1 f3 false u2 u3 rfl (by omega) ⟨hi.1, hi2.1⟩ hi2.2.1 h3 (fun e2 => absurd e2 hi2.2.2.2.1) hk3
    refine rn_iconst (v := nI 0) dX9_advance_0 (by decide) ?_
    refine rn_istore_n dX9_advance_1 (Nat.le_of_ble_eq_true rfl) rfl ?_
    refine rn_iload_n dX9_advance_2 rfl ?_
    refine rn_ldc dX9_advance_3 lcX9_88 ?_
    refine rn_icmp_ge (tgt := 130) dX9_advance_5 (by decide) (fun c5 => ?_) (fun c5 => ?_)
    · exact absurd c5 (by decide)
    · refine rn_aload_n dX9_advance_8 rfl ?_
      refine rn_get dX9_advance_9 lfX9_52 hO rfl ?_
      refine rn_if_ne (tgt := 130) dX9_advance_12 (by decide) (fun c12 => ?_) (fun c12 => ?_)
      · exact absurd (show bI false = 0 from rfl) c12
      · refine rn_aload_n dX9_advance_15 rfl ?_
        refine rn_get dX9_advance_16 lfX9_25 hO rfl ?_
        refine rn_aload_n dX9_advance_19 rfl ?_
        refine rn_get dX9_advance_20 lfX9_62 hO rfl ?_
        refine rn_get dX9_advance_23 lfX9_89 hL.1 rfl ?_
        refine rn_lcmp dX9_advance_26 ?_
        refine rn_if_ne (tgt := 34) dX9_advance_27 (by decide) (fun c27 => ?_) (fun c27 => ?_)
        · exact absurd e27 c27
        · refine rn_iconst (v := nI 1) dX9_advance_30 (by decide) ?_
          refine rn_goto (tgt := 35) dX9_advance_31 (by decide) ?_
          refine rn_istore_n dX9_advance_35 (Nat.le_of_ble_eq_true rfl) rfl ?_
          refine rn_iload_n dX9_advance_36 rfl ?_
          refine rn_if_eq (tgt := 71) dX9_advance_37 (by decide) (fun c37 => ?_) (fun c37 => ?_)
          · exact absurd c37 (by decide)
          · refine rn_aload_n dX9_advance_40 rfl ?_
            refine rn_get dX9_advance_41 lfX9_48 hO rfl ?_
            refine rn_if_eq (tgt := 71) dX9_advance_44 (by decide) (fun c44 => ?_) (fun c44 => ?_)
            · exact av_71 g (goB _)
            · exact absurd (show bI false = 0 from rfl) c44
