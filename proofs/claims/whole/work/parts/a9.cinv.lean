-- the object's invariant
def CA (f : Mm) (H : List PS) : Prop := ∃ o R, HB f o H.length R ∧ ∀ i S, H[i]? = some S → R ((o + i) % 6) = S
def CR (f : Mm) (T : List Nat) : Prop := (∃ p c r s, f 45 = some (RDE T.length p c r s)) ∧ RDt f T ∧ ∃ D, PB f 47 D
def CG (f : Mm) : Prop := (f 53 = some FE ∧ (∃ A, AR f 54 64 A) ∧ ∃ Z, AR f 55 8 Z) ∧ ((∃ l op, PLc f l op) ∧ (∃ O, AR f 59 1280 O) ∧ ∃ S, AR f 60 37 S) ∧ ((∃ n0, f 61 = some (SYE n0)) ∧ ∃ I, AR f 62 288 I) ∧ (WKa f ∧ (∃ a b c d, f 68 = some (CVR a b c d)) ∧ ∃ Z, AR f 69 3672 Z) ∧ (f 70 = some SVE ∧ ∃ st, AZ f 71 1280 st) ∧ (∃ m, f 72 = some (WE m)) ∧ (∃ C, AR f 73 36 C) ∧ ∃ Z, AR f 74 8 Z
def PD (f : Mm) (P : PS) : Prop := FF f (pN P) (shP P) (frP P) ∧ PLc f (lP P) (opP P) ∧ ORD f (lP P) ∧ SYc f P (syL P 8)
def SD (f : Mm) (P : PS) : Prop := ∃ n Z, FnS (qP P) n ∧ CVo f (qP P) n ∧ WKv f (qP P) n ∧ AR f 69 3672 Z ∧ RWz (qP P) n Z
def TD (f : Mm) (P : PS) : Prop := ∃ st, AZ f 71 1280 st ∧ STK (lP P) (opP P) st
def CIf (f : Mm) (P : PS) (H : List PS) (T : List Nat) (b1 b2 b3 : Bool) : Prop := f 0 = some (XE (bI b1) (bI b2) (bI b3)) ∧ PB f 1 P ∧ CA f H ∧ CR f T ∧ CG f ∧ (b1 = true → PD f P) ∧ (b2 = true → b1 = true ∧ SD f P) ∧ (b3 = true → b1 = true ∧ TD f P)
def CI (f : Mm) (P : PS) (H : List PS) (T : List Nat) : Prop := ∃ b1 b2 b3, CIf f P H T b1 b2 b3
theorem CA.keep {f f' : Mm} {H : List PS} (h : CA f H) (e : ∀ k, 7 ≤ k → k < 45 → f' k = f k) : CA f' H := by
  obtain ⟨o, R, h1, h2⟩ := h
  exact ⟨o, R, h1.keep e, h2⟩
theorem CR.keep {f f' : Mm} {T : List Nat} (h : CR f T) (e : ∀ k, 45 ≤ k → k < 53 → f' k = f k) : CR f' T := by
  obtain ⟨⟨p, c, r, s, h1⟩, h2, D, h3⟩ := h
  exact ⟨⟨p, c, r, s, (e 45 (by omega) (by omega)).trans h1⟩, h2.keep (e 46 (by omega) (by omega)), D, h3.keep (fun k a b => e k (by omega) (by omega))⟩
theorem WKa.keep {f f' : Mm} (h : WKa f) (e : ∀ k, 63 ≤ k → k ≤ 67 → f' k = f k) : WKa f' := by
  obtain ⟨⟨a6, a7, a8, a9, a10, a11, a12, a13, a14, a15, h1⟩, h2⟩ := h
  exact ⟨⟨a6, a7, a8, a9, a10, a11, a12, a13, a14, a15, (e 63 (by omega) (by omega)).trans h1⟩, h2.keep (fun k a b => e k (by omega) b)⟩
theorem CG.keep {f f' : Mm} (h : CG f) (e : ∀ k, 53 ≤ k → k < 75 → f' k = f k) : CG f' := by
  obtain ⟨⟨a1, ⟨A, a2⟩, Z, a3⟩, ⟨⟨l, op, b1⟩, ⟨O, b2⟩, S, b3⟩, ⟨⟨n0, c1⟩, I, c2⟩, ⟨d1, ⟨x, y, z, t, d2⟩, Z2, d3⟩, ⟨e1, st, e2⟩, ⟨m, f1⟩, ⟨C, f2⟩, Z3, f3⟩ := h
  exact ⟨⟨(e 53 (by omega) (by omega)).trans a1, ⟨A, a2.keep (e 54 (by omega) (by omega))⟩, Z, a3.keep (e 55 (by omega) (by omega))⟩, ⟨⟨l, op, b1.keep (e 56 (by omega) (by omega)) (e 57 (by omega) (by omega)) (e 58 (by omega) (by omega))⟩, ⟨O, b2.keep (e 59 (by omega) (by omega))⟩, S, b3.keep (e 60 (by omega) (by omega))⟩, ⟨⟨n0, (e 61 (by omega) (by omega)).trans c1⟩, I, c2.keep (e 62 (by omega) (by omega))⟩, ⟨d1.keep (fun k a b => e k (by omega) (by omega)), ⟨x, y, z, t, (e 68 (by omega) (by omega)).trans d2⟩, Z2, d3.keep (e 69 (by omega) (by omega))⟩, ⟨(e 70 (by omega) (by omega)).trans e1, st, e2.keep (e 71 (by omega) (by omega))⟩, ⟨m, (e 72 (by omega) (by omega)).trans f1⟩, ⟨C, f2.keep (e 73 (by omega) (by omega))⟩, Z3, f3.keep (e 74 (by omega) (by omega))⟩
theorem PD.keep {f f' : Mm} {P : PS} (h : PD f P) (e : ∀ k, 53 ≤ k → k < 63 → f' k = f k) : PD f' P := by
  obtain ⟨⟨a1, A, Z, a2, a3, a4⟩, h2, ⟨O, S, b1, b2, b3⟩, h4⟩ := h
  exact ⟨⟨(e 53 (by omega) (by omega)).trans a1, A, Z, a2.keep (e 54 (by omega) (by omega)), a3.keep (e 55 (by omega) (by omega)), a4⟩, h2.keep (e 56 (by omega) (by omega)) (e 57 (by omega) (by omega)) (e 58 (by omega) (by omega)), ⟨O, S, b1.keep (e 59 (by omega) (by omega)), b2.keep (e 60 (by omega) (by omega)), b3⟩, h4.keep (e 61 (by omega) (by omega)) (e 62 (by omega) (by omega))⟩
theorem SD.keep {f f' : Mm} {P : PS} (h : SD f P) (e : ∀ k, 63 ≤ k → k < 70 → f' k = f k) : SD f' P := by
  obtain ⟨n, Z, h1, h2, h3, h4, h5⟩ := h
  exact ⟨n, Z, h1, (e 68 (by omega) (by omega)).trans h2, h3.keep (fun k a b => e k a (by omega)), h4.keep (e 69 (by omega) (by omega)), h5⟩
theorem TD.keep {f f' : Mm} {P : PS} (h : TD f P) (e : f' 71 = f 71) : TD f' P := by
  obtain ⟨st, h1, h2⟩ := h
  exact ⟨st, h1.keep e, h2⟩
theorem CIf.keep {f f' : Mm} {P : PS} {H : List PS} {T : List Nat} {b1 b2 b3 : Bool} (h : CIf f P H T b1 b2 b3) (e : ∀ j, j < 75 → f' j = f j) : CIf f' P H T b1 b2 b3 := by
  obtain ⟨h1, h2, h3, h4, h5, h6, h7, h8⟩ := h
  exact ⟨(e 0 (by omega)).trans h1, h2.keep (fun k a b => e k (by omega)), h3.keep (fun k a b => e k (by omega)), h4.keep (fun k a b => e k (by omega)), h5.keep (fun k a b => e k b), fun x => (h6 x).keep (fun k a b => e k (by omega)), fun x => ⟨(h7 x).1, (h7 x).2.keep (fun k a b => e k (by omega))⟩, fun x => ⟨(h8 x).1, (h8 x).2.keep (e 71 (by omega))⟩⟩
theorem CI.keep {f f' : Mm} {P : PS} {H : List PS} {T : List Nat} (h : CI f P H T) (e : ∀ j, j < 75 → f' j = f j) : CI f' P H T := by
  obtain ⟨b1, b2, b3, h⟩ := h
  exact ⟨b1, b2, b3, h.keep e⟩
/-- a change of the problem: what was derived is forgotten -/
theorem CIf.chg {f f' : Mm} {P P' : PS} {H H' : List PS} {T : List Nat} {b1 b2 b3 : Bool} (h : CIf f P H T b1 b2 b3) (hX : f' 0 = some (XE 0 0 0)) (hP : PB f' 1 P') (hA : CA f' H') (e : ∀ k, 45 ≤ k → k < 75 → f' k = f k) : CI f' P' H' T := by
  obtain ⟨h1, h2, h3, h4, h5, h6, h7, h8⟩ := h
  exact ⟨false, false, false, hX, hP, hA, h4.keep (fun k a b => e k a (by omega)), h5.keep (fun k a b => e k (by omega) b), fun x => (by cases x), fun x => (by cases x), fun x => (by cases x)⟩
theorem CA_push {f' : Mm} {H : List PS} {P : PS} {o : Nat} {R : Nat → PS} (hR : ∀ i S, H[i]? = some S → R ((o + i) % 6) = S) (h : HB f' (if H.length < 6 then o else (o + 1) % 6) (if H.length < 6 then H.length + 1 else H.length) (fun j => if j = (o + H.length) % 6 then P else R j)) (hl : H.length ≤ 6) : CA f' (psh H P) := by
  have hlen := psh_len (H := H) (P := P) hl
  by_cases hs : H.length < 6
  · rw [if_pos hs, if_pos hs] at h
    rw [if_pos hs] at hlen
    refine ⟨o, _, by rw [hlen]; exact h, fun i S hS => ?_⟩
    rw [psh, if_pos hs] at hS
    show (if (o + i) % 6 = (o + H.length) % 6 then P else R ((o + i) % 6)) = S
    by_cases hi : i < H.length
    · rw [List.getElem?_append_left hi] at hS
      rw [if_neg (by omega)]
      exact hR i S hS
    · rw [List.getElem?_append_right (by omega)] at hS
      have hi2 : i - H.length = 0 := by
        cases hd : i - H.length with
        | zero => rfl
        | succ d => rw [hd] at hS; cases hS
      rw [hi2] at hS
      have hi3 : i = H.length := by omega
      rw [if_pos (by rw [hi3])]
      exact Option.some.inj hS
  · have hl6 : H.length = 6 := by omega
    rw [if_neg hs, if_neg hs, hl6] at h
    rw [if_neg hs] at hlen
    refine ⟨(o + 1) % 6, _, by rw [hlen]; exact h, fun i S hS => ?_⟩
    rw [psh, if_neg hs] at hS
    have hdl : (H.drop 1).length = 5 := by rw [List.length_drop]; omega
    show (if ((o + 1) % 6 + i) % 6 = (o + 6) % 6 then P else R (((o + 1) % 6 + i) % 6)) = S
    by_cases hi : i < 5
    · rw [List.getElem?_append_left (by omega), List.getElem?_drop] at hS
      rw [if_neg (by omega), show ((o + 1) % 6 + i) % 6 = (o + (1 + i)) % 6 by omega]
      exact hR _ S hS
    · rw [List.getElem?_append_right (by omega), hdl] at hS
      have hi2 : i - 5 = 0 := by
        cases hd : i - 5 with
        | zero => rfl
        | succ d => rw [hd] at hS; cases hS
      rw [hi2] at hS
      rw [if_pos (by omega)]
      exact Option.some.inj hS
theorem CIf.no {f : Mm} {P : PS} {H : List PS} {T : List Nat} {b2 b3 : Bool} (h : CIf f P H T false b2 b3) : b2 = false ∧ b3 = false := by
  obtain ⟨-, -, -, -, -, -, d2, d3⟩ := h
  constructor
  · cases b2 with
    | false => rfl
    | true => exact absurd (d2 rfl).1 (by decide)
  · cases b3 with
    | false => rfl
    | true => exact absurd (d3 rfl).1 (by decide)
theorem cc_placeAll (g : GG) (f : Mm) {P : PS} {H : List PS} {T : List Nat} {b1 b2 b3 : Bool} (hI : CIf f P H T b1 b2 b3) (hV : VPc P) : Ct g MX11_placeAll [.ref 0] f 0 0 (fun r f' => r = none ∧ (∀ j, 74 < j → f' j = f j) ∧ CIf f' P H T true b2 b3) := by
  refine Ct.of ok_MX11_placeAll (Nat.le_of_ble_eq_true rfl) ?_
  change Wp g MX11_placeAll 0 [some (.ref 0)] [] f 0 0 _
  obtain ⟨hX, hP, hA, hR, hG, d1, d2, d3⟩ := id hI
  cases b1 with
  | true =>
    refine rn_aload_n dX11_placeAll_0 rfl ?_
    refine rn_get dX11_placeAll_1 lfX11_83 hX rfl ?_
    refine rn_if_ne (tgt := 49) dX11_placeAll_4 (by decide) (fun c4 => ?_) (fun c4 => ?_)
    · refine rn_vret dX11_placeAll_49 rfl ?_
      exact ⟨rfl, fun _ _ => rfl, hI⟩
    · exact absurd c4 (by decide)
  | false =>
    obtain ⟨rfl, rfl⟩ := hI.no
    obtain ⟨⟨a1, ⟨A, a2⟩, Z, a3⟩, ⟨⟨l, op, q1⟩, ⟨O, q2⟩, S, q3⟩, ⟨⟨n0, s1⟩, I, s2⟩, g4⟩ := id hG
    have at49 : ∀ f', (∀ j, 74 < j → f' j = f j) → CIf f' P H T true false false → Wp g MX11_placeAll 49 [some (.ref 0)] [] f' 0 0 (fun r f' => r = none ∧ (∀ j, 74 < j → f' j = f j) ∧ CIf f' P H T true false false) := fun f' x y => by
      refine rn_vret dX11_placeAll_49 rfl ?_
      exact ⟨rfl, x, y⟩
    refine rn_aload_n dX11_placeAll_0 rfl ?_
    refine rn_get dX11_placeAll_1 lfX11_83 hX rfl ?_
    refine rn_if_ne (tgt := 49) dX11_placeAll_4 (by decide) (fun c4 => ?_) (fun c4 => ?_)
    · exact absurd (show bI false = 0 from rfl) c4
    · refine rn_aload_n dX11_placeAll_7 rfl ?_
      refine rn_get dX11_placeAll_8 lfX11_33 hX rfl ?_
      refine rn_aload_n dX11_placeAll_11 rfl ?_
      refine rn_get dX11_placeAll_12 lfX11_12 hX rfl ?_
      refine rn_callV dX11_placeAll_15 lmX11_290 ⟨Nat.le_of_ble_eq_true rfl, Nat.le_of_ble_eq_true rfl⟩ (ct_fill1 g f a1 a2 a3 hP hV.1 hV.2.1) a1 rfl rfl (Nat.le_of_ble_eq_true rfl) ?_
      rintro _ f1 ⟨rfl, k1, hFF⟩
      have hP1 := hP.keep (fun k a b => k1 k (by omega) (by omega))
      have o1 := (k1 0 (by decide) (by decide)).trans hX
      refine rn_aload_n dX11_placeAll_18 rfl ?_
      refine rn_get dX11_placeAll_19 lfX11_40 o1 rfl ?_
      refine rn_aload_n dX11_placeAll_22 rfl ?_
      refine rn_get dX11_placeAll_23 lfX11_12 o1 rfl ?_
      refine rn_aload_n dX11_placeAll_26 rfl ?_
      refine rn_get dX11_placeAll_27 lfX11_33 o1 rfl ?_
      refine rn_callV dX11_placeAll_30 lmX11_293 ⟨Nat.le_of_ble_eq_true rfl, Nat.le_of_ble_eq_true rfl⟩ (ct_pfill g f1 hP1 hV.1 hV.2.1 (q1.keep (k1 56 (by decide) (by decide)) (k1 57 (by decide) (by decide)) (k1 58 (by decide) (by decide))) (q2.keep (k1 59 (by decide) (by decide))) (q3.keep (k1 60 (by decide) (by decide))) hFF) ((k1 56 (by decide) (by decide)).trans q1.1) rfl rfl (Nat.le_of_ble_eq_true rfl) ?_
      rintro _ f2 ⟨rfl, k2, hPL, hOR⟩
      have hP2 := hP1.keep (fun k a b => k2 k (by omega))
      have o2 := (k2 0 (by omega)).trans o1
      refine rn_aload_n dX11_placeAll_33 rfl ?_
      refine rn_get dX11_placeAll_34 lfX11_47 o2 rfl ?_
      refine rn_aload_n dX11_placeAll_37 rfl ?_
      refine rn_get dX11_placeAll_38 lfX11_12 o2 rfl ?_
      refine rn_callV dX11_placeAll_41 lmX11_296 ⟨Nat.le_of_ble_eq_true rfl, Nat.le_of_ble_eq_true rfl⟩ (ct_syfill g f2 hP2 hV.1 (((k2 61 (by omega)).trans (k1 61 (by decide) (by decide))).trans s1) (s2.keep ((k2 62 (by omega)).trans (k1 62 (by decide) (by decide))))) (((k2 61 (by omega)).trans (k1 61 (by decide) (by decide))).trans s1) rfl rfl (Nat.le_of_ble_eq_true rfl) ?_
      rintro _ f3 ⟨rfl, k3, hSY⟩
      have hP3 := hP2.keep (fun k a b => k3 k (by omega))
      have o3 := (k3 0 (by omega)).trans o2
      refine rn_aload_n dX11_placeAll_44 rfl ?_
      refine rn_iconst (v := nI 1) dX11_placeAll_45 (by decide) ?_
      refine rn_put dX11_placeAll_46 lpX11_83 o3 rfl rfl (Nat.le_of_ble_eq_true rfl) ?_
      refine Wp.gen (e := XE (nI 1) (bI false) (bI false)) (fun f4 k4 o4 => ?_)
      have kA : ∀ j, j ≠ 0 → (j < 53 ∨ 62 < j) → f4 j = f j := fun j x y => (k4 j x).trans ((k3 j (by omega)).trans ((k2 j (by omega)).trans (k1 j (by omega) (by omega))))
      obtain ⟨t1, A', Z', t2, t3, t4⟩ := id hFF
      obtain ⟨O', S', t5, t6, t7⟩ := id hOR
      obtain ⟨t8, I', t9, t10⟩ := id hSY
      have k34 : ∀ j, j ≠ 0 → (j < 61 ∨ 62 < j) → f4 j = f2 j := fun j x y => (k4 j x).trans (k3 j (by omega))
      have k24 : ∀ j, j ≠ 0 → (j < 56 ∨ 62 < j) → f4 j = f1 j := fun j x y => (k34 j x (by omega)).trans (k2 j (by omega))
      have hPD : PD f4 P := ⟨⟨(k24 53 (by omega) (by omega)).trans t1, A', Z', t2.keep (k24 54 (by omega) (by omega)), t3.keep (k24 55 (by omega) (by omega)), t4⟩, hPL.keep (k34 56 (by omega) (by omega)) (k34 57 (by omega) (by omega)) (k34 58 (by omega) (by omega)), ⟨O', S', t5.keep (k34 59 (by omega) (by omega)), t6.keep (k34 60 (by omega) (by omega)), t7⟩, hSY.keep (k4 61 (by omega)) (k4 62 (by omega))⟩
      have hG2 := hPD
      obtain ⟨⟨u1, A2, Z2, u2, u3, -⟩, u4, ⟨O2, S2, u5, u6, -⟩, u7, I2, u8, -⟩ := hG2
      obtain ⟨⟨w1, ⟨xa, xb, xc, xd, w2⟩, Z3, w3⟩, ⟨w4, st, w5⟩, ⟨m, w6⟩, ⟨C, w7⟩, Z4, w8⟩ := g4
      exact at49 f4 (fun j hj => kA j (by omega) (by omega)) ⟨o4, hP3.keep (fun k a b => k4 k (by omega)), hA.keep (fun k a b => kA k (by omega) (by omega)), hR.keep (fun k a b => kA k (by omega) (by omega)), ⟨⟨u1, ⟨A2, u2⟩, Z2, u3⟩, ⟨⟨_, _, u4⟩, ⟨O2, u5⟩, S2, u6⟩, ⟨⟨_, u7⟩, I2, u8⟩, ⟨w1.keep (fun k a b => kA k (by omega) (by omega)), ⟨xa, xb, xc, xd, (kA 68 (by omega) (by omega)).trans w2⟩, Z3, w3.keep (kA 69 (by omega) (by omega))⟩, ⟨(kA 70 (by omega) (by omega)).trans w4, st, w5.keep (kA 71 (by omega) (by omega))⟩, ⟨m, (kA 72 (by omega) (by omega)).trans w6⟩, ⟨C, w7.keep (kA 73 (by omega) (by omega))⟩, Z4, w8.keep (kA 74 (by omega) (by omega))⟩, fun _ => hPD, fun x => (by cases x), fun x => (by cases x)⟩
