theorem CG.srch {f f' : Mm} (h : CG f) (e : ∀ k, 53 ≤ k → (k < 63 ∨ 69 < k) → k < 75 → f' k = f k) (hW : WKa f') (hO : ∃ a b c d, f' 68 = some (CVR a b c d)) (hZ : ∃ Z, AR f' 69 3672 Z) : CG f' := by
  obtain ⟨⟨a1, ⟨A, a2⟩, Z, a3⟩, ⟨⟨l, op, b1⟩, ⟨O, b2⟩, S, b3⟩, ⟨⟨n0, c1⟩, I, c2⟩, -, ⟨e1, st, e2⟩, ⟨m, f1⟩, ⟨C, f2⟩, Z3, f3⟩ := h
  exact ⟨⟨(e 53 (by omega) (by omega) (by omega)).trans a1, ⟨A, a2.keep (e 54 (by omega) (by omega) (by omega))⟩, Z, a3.keep (e 55 (by omega) (by omega) (by omega))⟩, ⟨⟨l, op, b1.keep (e 56 (by omega) (by omega) (by omega)) (e 57 (by omega) (by omega) (by omega)) (e 58 (by omega) (by omega) (by omega))⟩, ⟨O, b2.keep (e 59 (by omega) (by omega) (by omega))⟩, S, b3.keep (e 60 (by omega) (by omega) (by omega))⟩, ⟨⟨n0, (e 61 (by omega) (by omega) (by omega)).trans c1⟩, I, c2.keep (e 62 (by omega) (by omega) (by omega))⟩, ⟨hW, hO, hZ⟩, ⟨(e 70 (by omega) (by omega) (by omega)).trans e1, st, e2.keep (e 71 (by omega) (by omega) (by omega))⟩, ⟨m, (e 72 (by omega) (by omega) (by omega)).trans f1⟩, ⟨C, f2.keep (e 73 (by omega) (by omega) (by omega))⟩, Z3, f3.keep (e 74 (by omega) (by omega) (by omega))⟩
theorem CIf.srch {f f' : Mm} {P : PS} {H : List PS} {T : List Nat} {b2 b3 : Bool} (h : CIf f P H T true b2 b3) (hX : f' 0 = some (XE (bI true) (bI true) (bI b3))) (e : ∀ j, j ≠ 0 → (j < 63 ∨ 69 < j) → j < 75 → f' j = f j) (hS : SD f' P) : CIf f' P H T true true b3 := by
  obtain ⟨-, h2, h3, h4, h5, h6, -, h8⟩ := h
  refine ⟨hX, h2.keep (fun k a b => e k (by omega) (by omega) (by omega)), h3.keep (fun k a b => e k (by omega) (by omega) (by omega)), h4.keep (fun k a b => e k (by omega) (by omega) (by omega)), ?_, fun x => (h6 x).keep (fun k a b => e k (by omega) (by omega) (by omega)), fun _ => ⟨rfl, hS⟩, fun x => ⟨rfl, (h8 x).2.keep (e 71 (by omega) (by omega) (by omega))⟩⟩
  obtain ⟨n, Z, s1, s2, s3, s4, s5⟩ := hS
  exact h5.srch (fun k a b c => e k (by omega) b c) s3.a ⟨_, _, _, _, s2⟩ ⟨Z, s4⟩
theorem CIf.sft {f f' : Mm} {P : PS} {H : List PS} {T : List Nat} {b2 b3 : Bool} (h : CIf f P H T true b2 b3) (hX : f' 0 = some (XE (bI true) (bI b2) (bI true))) (e : ∀ j, j ≠ 0 → j ≠ 71 → j < 75 → f' j = f j) (hS : TD f' P) : CIf f' P H T true b2 true := by
  obtain ⟨-, h2, h3, h4, h5, h6, h7, -⟩ := h
  refine ⟨hX, h2.keep (fun k a b => e k (by omega) (by omega) (by omega)), h3.keep (fun k a b => e k (by omega) (by omega) (by omega)), h4.keep (fun k a b => e k (by omega) (by omega) (by omega)), ?_, fun x => (h6 x).keep (fun k a b => e k (by omega) (by omega) (by omega)), fun x => ⟨rfl, (h7 x).2.keep (fun k a b => e k (by omega) (by omega) (by omega))⟩, fun _ => ⟨rfl, hS⟩⟩
  obtain ⟨st, s1, -⟩ := hS
  obtain ⟨⟨a1, ⟨A, a2⟩, Z, a3⟩, ⟨⟨l, op, b1⟩, ⟨O, b2⟩, S, b3⟩, ⟨⟨n0, c1⟩, I, c2⟩, ⟨d1, ⟨x, y, z, t, d2⟩, Z2, d3⟩, ⟨e1, -⟩, ⟨m, f1⟩, ⟨C, f2⟩, Z3, f3⟩ := h5
  exact ⟨⟨(e 53 (by omega) (by omega) (by omega)).trans a1, ⟨A, a2.keep (e 54 (by omega) (by omega) (by omega))⟩, Z, a3.keep (e 55 (by omega) (by omega) (by omega))⟩, ⟨⟨l, op, b1.keep (e 56 (by omega) (by omega) (by omega)) (e 57 (by omega) (by omega) (by omega)) (e 58 (by omega) (by omega) (by omega))⟩, ⟨O, b2.keep (e 59 (by omega) (by omega) (by omega))⟩, S, b3.keep (e 60 (by omega) (by omega) (by omega))⟩, ⟨⟨n0, (e 61 (by omega) (by omega) (by omega)).trans c1⟩, I, c2.keep (e 62 (by omega) (by omega) (by omega))⟩, ⟨d1.keep (fun k a b => e k (by omega) (by omega) (by omega)), ⟨x, y, z, t, (e 68 (by omega) (by omega) (by omega)).trans d2⟩, Z2, d3.keep (e 69 (by omega) (by omega) (by omega))⟩, ⟨(e 70 (by omega) (by omega) (by omega)).trans e1, st, s1⟩, ⟨m, (e 72 (by omega) (by omega) (by omega)).trans f1⟩, ⟨C, f2.keep (e 73 (by omega) (by omega) (by omega))⟩, Z3, f3.keep (e 74 (by omega) (by omega) (by omega))⟩
theorem cc_searchAll (g : GG) (f : Mm) {P : PS} {H : List PS} {T : List Nat} {b1 b2 b3 : Bool} (hI : CIf f P H T b1 b2 b3) (hV : VPc P) : Ct g MX11_searchAll [.ref 0] f 0 0 (fun r f' => r = none ∧ (∀ j, 74 < j → f' j = f j) ∧ CIf f' P H T true true b3) := by
  refine Ct.of ok_MX11_searchAll (Nat.le_of_ble_eq_true rfl) ?_
  change Wp g MX11_searchAll 0 [some (.ref 0)] [] f 0 0 _
  obtain ⟨hX, -, -, -, -, -, d2, -⟩ := id hI
  cases b2 with
  | true =>
    obtain rfl := (d2 rfl).1
    refine rn_aload_n dX11_searchAll_0 rfl ?_
    refine rn_get dX11_searchAll_1 lfX11_87 hX rfl ?_
    refine rn_if_ne (tgt := 23) dX11_searchAll_4 (by decide) (fun c4 => ?_) (fun c4 => ?_)
    · refine rn_vret dX11_searchAll_23 rfl ?_
      exact ⟨rfl, fun _ _ => rfl, hI⟩
    · exact absurd c4 (by decide)
  | false =>
    have at23 : ∀ f', (∀ j, 74 < j → f' j = f j) → CIf f' P H T true true b3 → Wp g MX11_searchAll 23 [some (.ref 0)] [] f' 0 0 (fun r f' => r = none ∧ (∀ j, 74 < j → f' j = f j) ∧ CIf f' P H T true true b3) := fun f' x y => by
      refine rn_vret dX11_searchAll_23 rfl ?_
      exact ⟨rfl, x, y⟩
    refine rn_aload_n dX11_searchAll_0 rfl ?_
    refine rn_get dX11_searchAll_1 lfX11_87 hX rfl ?_
    refine rn_if_ne (tgt := 23) dX11_searchAll_4 (by decide) (fun c4 => ?_) (fun c4 => ?_)
    · exact absurd (show bI false = 0 from rfl) c4
    · refine rn_aload_n dX11_searchAll_7 rfl ?_
      refine rn_callV dX11_searchAll_8 lmX11_174 ⟨Nat.le_of_ble_eq_true rfl, Nat.le_of_ble_eq_true rfl⟩ (cc_placeAll g f hI hV) hX rfl rfl (Nat.le_of_ble_eq_true rfl) ?_
      rintro _ f1 ⟨rfl, k1, hI1⟩
      obtain ⟨hX1, hP1, -, -, ⟨-, -, -, ⟨w1, ⟨xa, xb, xc, xd, w2⟩, Z3, w3⟩, -⟩, hD1, -, -⟩ := id hI1
      obtain ⟨-, hL1, hO1, -⟩ := hD1 rfl
      refine rn_aload_n dX11_searchAll_11 rfl ?_
      refine rn_get dX11_searchAll_12 lfX11_65 hX1 rfl ?_
      refine rn_callV dX11_searchAll_15 lmX11_297 ⟨Nat.le_of_ble_eq_true rfl, Nat.le_of_ble_eq_true rfl⟩ (ct_collect g f1 (q := qP P) w2 w3 w1 ⟨hP1, hL1, hO1⟩ (VP.Q hV)) w2 rfl rfl (Nat.le_of_ble_eq_true rfl) ?_
      rintro _ f2 ⟨rfl, k2, n, hFn, hCV, hWK, Z', hZ', hRW⟩
      have o2 := (k2 0 (by omega)).trans hX1
      refine rn_aload_n dX11_searchAll_18 rfl ?_
      refine rn_iconst (v := nI 1) dX11_searchAll_19 (by decide) ?_
      refine rn_put dX11_searchAll_20 lpX11_87 o2 rfl rfl (Nat.le_of_ble_eq_true rfl) ?_
      refine Wp.gen (e := XE (bI true) (nI 1) (bI b3)) (fun f4 k4 o4 => ?_)
      exact at23 f4 (fun j hj => (k4 j (by omega)).trans ((k2 j (by omega)).trans (k1 j hj))) (hI1.srch o4 (fun j a b c => (k4 j a).trans (k2 j b)) (SD.keep (f := f2) ⟨n, Z', hFn, hCV, hWK, hZ', hRW⟩ (fun k a b => k4 k (by omega))))
theorem cc_siftAll (g : GG) (f : Mm) {P : PS} {H : List PS} {T : List Nat} {b1 b2 b3 : Bool} (hI : CIf f P H T b1 b2 b3) (hV : VPc P) : Ct g MX11_siftAll [.ref 0] f 0 0 (fun r f' => r = none ∧ (∀ j, 74 < j → f' j = f j) ∧ CIf f' P H T true b2 true) := by
  refine Ct.of ok_MX11_siftAll (Nat.le_of_ble_eq_true rfl) ?_
  change Wp g MX11_siftAll 0 [some (.ref 0)] [] f 0 0 _
  obtain ⟨hX, -, -, -, -, -, -, d3⟩ := id hI
  cases b3 with
  | true =>
    obtain rfl := (d3 rfl).1
    refine rn_aload_n dX11_siftAll_0 rfl ?_
    refine rn_get dX11_siftAll_1 lfX11_90 hX rfl ?_
    refine rn_if_ne (tgt := 27) dX11_siftAll_4 (by decide) (fun c4 => ?_) (fun c4 => ?_)
    · refine rn_vret dX11_siftAll_27 rfl ?_
      exact ⟨rfl, fun _ _ => rfl, hI⟩
    · exact absurd c4 (by decide)
  | false =>
    have at27 : ∀ f', (∀ j, 74 < j → f' j = f j) → CIf f' P H T true b2 true → Wp g MX11_siftAll 27 [some (.ref 0)] [] f' 0 0 (fun r f' => r = none ∧ (∀ j, 74 < j → f' j = f j) ∧ CIf f' P H T true b2 true) := fun f' x y => by
      refine rn_vret dX11_siftAll_27 rfl ?_
      exact ⟨rfl, x, y⟩
    have hLS := pl1_LSd hV.1 hV.2.1
    refine rn_aload_n dX11_siftAll_0 rfl ?_
    refine rn_get dX11_siftAll_1 lfX11_90 hX rfl ?_
    refine rn_if_ne (tgt := 27) dX11_siftAll_4 (by decide) (fun c4 => ?_) (fun c4 => ?_)
    · exact absurd (show bI false = 0 from rfl) c4
    · refine rn_aload_n dX11_siftAll_7 rfl ?_
      refine rn_callV dX11_siftAll_8 lmX11_174 ⟨Nat.le_of_ble_eq_true rfl, Nat.le_of_ble_eq_true rfl⟩ (cc_placeAll g f hI hV) hX rfl rfl (Nat.le_of_ble_eq_true rfl) ?_
      rintro _ f1 ⟨rfl, k1, hI1⟩
      obtain ⟨hX1, hP1, -, -, ⟨-, -, -, -, ⟨w1, st, w2⟩, -⟩, hD1, -, -⟩ := id hI1
      obtain ⟨-, hL1, hO1, -⟩ := hD1 rfl
      refine rn_aload_n dX11_siftAll_11 rfl ?_
      refine rn_get dX11_siftAll_12 lfX11_72 hX1 rfl ?_
      refine rn_aload_n dX11_siftAll_15 rfl ?_
      refine rn_get dX11_siftAll_16 lfX11_40 hX1 rfl ?_
      refine rn_callV dX11_siftAll_19 lmX11_300 ⟨Nat.le_of_ble_eq_true rfl, Nat.le_of_ble_eq_true rfl⟩ (ct_sift g f1 w1 w2 hL1 hLS.1 hLS.2.1 (opP_lt hV.1) hLS.2.2.2) w1 rfl rfl (Nat.le_of_ble_eq_true rfl) ?_
      rintro _ f2 ⟨rfl, k2, t, hZ2, hank⟩
      have o2 := (k2 0 (by omega)).trans hX1
      refine rn_aload_n dX11_siftAll_22 rfl ?_
      refine rn_iconst (v := nI 1) dX11_siftAll_23 (by decide) ?_
      refine rn_put dX11_siftAll_24 lpX11_90 o2 rfl rfl (Nat.le_of_ble_eq_true rfl) ?_
      refine Wp.gen (e := XE (bI true) (bI b2) (nI 1)) (fun f4 k4 o4 => ?_)
      exact at27 f4 (fun j hj => (k4 j (by omega)).trans ((k2 j (by omega)).trans (k1 j hj))) (hI1.sft o4 (fun j a b c => (k4 j a).trans (k2 j b)) (TD.keep (f := f2) ⟨_, hZ2, t, fun _ _ => rfl, hank⟩ (k4 71 (by omega))))
theorem cc_why (g : GG) (f : Mm) {q : SQ} {n : Nat} {b1 b2 b3 : Int32} (hX : f 0 = some (XE b1 b2 b3)) (hO : CVo f q n) : Ct g MX11_whyNoCover [.ref 0] f 0 0 (fun r f' => f = f' ∧ r = some (.int (whyN q n))) := by
  refine Ct.of ok_MX11_whyNoCover (Nat.le_of_ble_eq_true rfl) ?_
  change Wp g MX11_whyNoCover 0 [some (.ref 0)] [] f 0 0 _
  by_cases h2 : (sqS q n).1 = 2
  · rw [whyN, if_pos h2]
    rw [CVo, decide_eq_true h2] at hO
    refine rn_aload_n dX11_whyNoCover_0 rfl ?_
    refine rn_get dX11_whyNoCover_1 lfX11_65 hX rfl ?_
    refine rn_get dX11_whyNoCover_4 lfX11_238 hO rfl ?_
    refine rn_if_eq (tgt := 15) dX11_whyNoCover_7 (by decide) (fun c7 => ?_) (fun c7 => ?_)
    · refine rn_bipush (v := (-4)) dX11_whyNoCover_15 (by decide) ?_
      refine rn_iret dX11_whyNoCover_17 rfl ?_
      exact ⟨rfl, rfl⟩
    · exact absurd (show bI (!true) = 0 from rfl) c7
  · rw [whyN, if_neg h2]
    rw [CVo, decide_eq_false h2] at hO
    refine rn_aload_n dX11_whyNoCover_0 rfl ?_
    refine rn_get dX11_whyNoCover_1 lfX11_65 hX rfl ?_
    refine rn_get dX11_whyNoCover_4 lfX11_238 hO rfl ?_
    refine rn_if_eq (tgt := 15) dX11_whyNoCover_7 (by decide) (fun c7 => ?_) (fun c7 => ?_)
    · exact absurd c7 (by decide)
    · refine rn_bipush (v := (-9)) dX11_whyNoCover_10 (by decide) ?_
      refine rn_goto (tgt := 17) dX11_whyNoCover_12 (by decide) ?_
      refine rn_iret dX11_whyNoCover_17 rfl ?_
      exact ⟨rfl, rfl⟩
