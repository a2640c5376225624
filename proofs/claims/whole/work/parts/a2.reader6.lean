theorem shS_lt (T : List Nat) (p0 w R : Nat) : ∀ n, shk T p0 w R n < 2 ^ n
  | 0 => by rw [shk]; decide
  | n + 1 => by
    have ih := shS_lt T p0 w R n
    have h1 : shk T p0 w R n < 2 ^ (n + 1) := Nat.lt_of_lt_of_le ih (Nat.pow_le_pow_right (by decide) (by omega))
    rw [shk]
    split
    · exact Nat.or_lt_two_pow h1 (Nat.pow_lt_pow_right (by decide) (by omega))
    · exact h1
theorem ct_readPiece (g : GG) (f : Mm) {T : List Nat} {D : PS} {p c r s : Nat} (hO : f 45 = some (RDE T.length p c r s)) (hT : RDt f T) (hD : PB f 47 D) (hN : pN D < 8) (hp : p ≤ T.length) : Ct g MX5_readPiece [.ref 45] f 0 0 (fun r' f' => (∀ j, (j < 45 ∨ j = 46 ∨ 52 < j) → f' j = f j) ∧ r' = some (.int (bI (pcF T p).1)) ∧ (∃ c1 r1 s1, f' 45 = some (RDE T.length (pcF T p).2.1 c1 r1 s1)) ∧ PB f' 47 (if (pcF T p).1 = true then pAdd D (nI (pcF T p).2.2.1) (nI (pcF T p).2.2.2.1) (nI (pcF T p).2.2.2.2.1) (nI (pcF T p).2.2.2.2.2) else D)) := by
  refine Ct.of ok_MX5_readPiece (Nat.le_of_ble_eq_true rfl) ?_
  change Wp g MX5_readPiece 0 [some (.ref 45)] [] f 0 0 _
  have hl160 := hT.1
  refine rn_aload_n dX5_readPiece_0 rfl ?_
  refine rn_iconst (v := nI 0) dX5_readPiece_1 (by decide) ?_
  refine rn_put dX5_readPiece_2 lpX5_35 hO rfl rfl (Nat.le_of_ble_eq_true rfl) ?_
  refine Wp.gen (e := RDE T.length p c r 0) (fun f1 k1 o1 => ?_)
  refine rn_aload_n dX5_readPiece_5 rfl ?_
  refine rn_iconst (v := nI 4) dX5_readPiece_6 (by decide) ?_
  refine rn_iconst (v := nI 0) dX5_readPiece_7 (by decide) ?_
  refine rn_callV dX5_readPiece_8 lmX5_62 ⟨Nat.le_of_ble_eq_true rfl, Nat.le_of_ble_eq_true rfl⟩ (ct_readRowsS g f1 o1 (hT.keep (k1 46 (by decide))) rfl (show p ≤ 170 by omega)) o1 rfl rfl (Nat.le_of_ble_eq_true rfl) ?_
  rintro _ f2 ⟨k2, rfl, h2⟩
  skip
  have k12 : ∀ j, j ≠ 45 → f2 j = f j := fun j hj => (k2 j hj).trans (k1 j hj)
  have hD2 : PB f2 47 D := hD.keep (fun k a b => k12 k (by omega))
  rcases h2 with ⟨hz, c1, r1, s1, o2⟩ | ⟨hz, s1, hs1, hS1, o2⟩
  · have e0 : pcF T p = (false, (zS T p).2.2, (0, 0, 0, 0)) := by rw [pcF, if_pos hz]
    rw [e0, hz]
    refine rn_if_eq (tgt := 35) dX5_readPiece_11 (by decide) (fun c11 => ?_) (fun c11 => ?_)
    · refine rn_iconst (v := nI 0) dX5_readPiece_35 (by decide) ?_
      refine rn_zret dX5_readPiece_36 rfl rfl ?_
      exact ⟨fun j hj => k12 j (by omega), rfl, ⟨c1, r1, s1, o2⟩, hD2⟩
    · exact absurd (show bI false = 0 from rfl) c11
  · have hsh : s1 = shS T p := shB_uniq hS1 (shk_B _ _ _ _)
    rw [hz]
    cases hok : okC (shS T p) with
    | false =>
      have e0 : pcF T p = (false, (zS T p).2.2, (0, 0, 0, 0)) := by rw [pcF, if_neg (by rw [hz]; decide), if_pos hok]
      rw [e0]
      refine rn_if_eq (tgt := 35) dX5_readPiece_11 (by decide) (fun c11 => ?_) (fun c11 => ?_)
      · refine rn_iconst (v := nI 0) dX5_readPiece_35 (by decide) ?_
        refine rn_zret dX5_readPiece_36 rfl rfl ?_
        exact absurd c11 (by decide)
      · refine rn_aload_n dX5_readPiece_14 rfl ?_
        refine rn_get dX5_readPiece_15 lfX5_35 o2 rfl ?_
        refine rn_callS dX5_readPiece_18 lmX5_91 ⟨Nat.le_of_ble_eq_true rfl, Nat.le_of_ble_eq_true rfl⟩ (cb_isShape g f2 (nI s1)) rfl rfl (Nat.le_of_ble_eq_true rfl) ?_
        rintro _ _ ⟨rfl, rfl⟩
        rw [okSh_nI hs1, hsh, hok]
        refine rn_if_eq (tgt := 35) dX5_readPiece_21 (by decide) (fun c21 => ?_) (fun c21 => ?_)
        · refine rn_iconst (v := nI 0) dX5_readPiece_35 (by decide) ?_
          refine rn_zret dX5_readPiece_36 rfl rfl ?_
          exact ⟨fun j hj => k12 j (by omega), rfl, ⟨_, _, _, o2⟩, hD2⟩
        · exact absurd (show bI false = 0 from rfl) c21
    | true =>
      have e0 : pcF T p = ((otk T 3 ((zS T p).2.2, 0, 0, 0)).1, (otk T 3 ((zS T p).2.2, 0, 0, 0)).2.1, (nrC (shS T p), (otk T 3 ((zS T p).2.2, 0, 0, 0)).2.2.1, (otk T 3 ((zS T p).2.2, 0, 0, 0)).2.2.2.1, if (otk T 3 ((zS T p).2.2, 0, 0, 0)).2.2.2.2 = 0 then 1 else (otk T 3 ((zS T p).2.2, 0, 0, 0)).2.2.2.2)) := by rw [pcF, if_neg (by rw [hz]; decide), if_neg (by rw [hok]; decide)]
      rw [e0]
      have hpl := (rwS_le hz).1
      have at28 : ∀ (f3 : Mm), (∀ j, (j < 45 ∨ j = 46 ∨ 52 < j) → f3 j = f2 j) → f3 45 = some (RDE T.length (otk T 3 ((zS T p).2.2, 0, 0, 0)).2.1 (rl T false 4 p) (rwS T false 4 p).2.1 s1) → PB f3 47 (if (otk T 3 ((zS T p).2.2, 0, 0, 0)).1 = true then pAdd D (nI (nrC s1)) (nI (otk T 3 ((zS T p).2.2, 0, 0, 0)).2.2.1) (nI (otk T 3 ((zS T p).2.2, 0, 0, 0)).2.2.2.1) (nI (if (otk T 3 ((zS T p).2.2, 0, 0, 0)).2.2.2.2 = 0 then 1 else (otk T 3 ((zS T p).2.2, 0, 0, 0)).2.2.2.2)) else D) → Wp g MX5_readPiece 28 [some (.ref 45)] [.int (bI (otk T 3 ((zS T p).2.2, 0, 0, 0)).1)] f3 0 0 (fun r' f' => (∀ j, (j < 45 ∨ j = 46 ∨ 52 < j) → f' j = f j) ∧ r' = some (.int (bI (otk T 3 ((zS T p).2.2, 0, 0, 0)).1)) ∧ (∃ c1 r1 s1, f' 45 = some (RDE T.length (otk T 3 ((zS T p).2.2, 0, 0, 0)).2.1 c1 r1 s1)) ∧ PB f' 47 (if (otk T 3 ((zS T p).2.2, 0, 0, 0)).1 = true then pAdd D (nI (nrC (shS T p))) (nI (otk T 3 ((zS T p).2.2, 0, 0, 0)).2.2.1) (nI (otk T 3 ((zS T p).2.2, 0, 0, 0)).2.2.2.1) (nI (if (otk T 3 ((zS T p).2.2, 0, 0, 0)).2.2.2.2 = 0 then 1 else (otk T 3 ((zS T p).2.2, 0, 0, 0)).2.2.2.2)) else D)) := fun f3 k3 o3 h3 => by
        rw [hsh] at h3
        cases hb : (otk T 3 ((zS T p).2.2, 0, 0, 0)).1 with
        | true =>
          rw [hb] at h3
          refine rn_if_eq (tgt := 35) dX5_readPiece_28 (by decide) (fun c28 => ?_) (fun c28 => ?_)
          · exact absurd c28 (by decide)
          · refine rn_iconst (v := nI 1) dX5_readPiece_31 (by decide) ?_
            refine rn_goto (tgt := 36) dX5_readPiece_32 (by decide) ?_
            refine rn_zret dX5_readPiece_36 rfl rfl ?_
            exact ⟨fun j hj => (k3 j hj).trans (k12 j (by omega)), rfl, ⟨_, _, _, o3⟩, h3⟩
        | false =>
          rw [hb] at h3
          refine rn_if_eq (tgt := 35) dX5_readPiece_28 (by decide) (fun c28 => ?_) (fun c28 => ?_)
          · refine rn_iconst (v := nI 0) dX5_readPiece_35 (by decide) ?_
            refine rn_zret dX5_readPiece_36 rfl rfl ?_
            exact ⟨fun j hj => (k3 j hj).trans (k12 j (by omega)), rfl, ⟨_, _, _, o3⟩, h3⟩
          · exact absurd (show bI false = 0 from rfl) c28
      refine rn_if_eq (tgt := 35) dX5_readPiece_11 (by decide) (fun c11 => ?_) (fun c11 => ?_)
      · refine rn_iconst (v := nI 0) dX5_readPiece_35 (by decide) ?_
        refine rn_zret dX5_readPiece_36 rfl rfl ?_
        exact absurd c11 (by decide)
      · refine rn_aload_n dX5_readPiece_14 rfl ?_
        refine rn_get dX5_readPiece_15 lfX5_35 o2 rfl ?_
        refine rn_callS dX5_readPiece_18 lmX5_91 ⟨Nat.le_of_ble_eq_true rfl, Nat.le_of_ble_eq_true rfl⟩ (cb_isShape g f2 (nI s1)) rfl rfl (Nat.le_of_ble_eq_true rfl) ?_
        rintro _ _ ⟨rfl, rfl⟩
        rw [okSh_nI hs1, hsh, hok]
        refine rn_if_eq (tgt := 35) dX5_readPiece_21 (by decide) (fun c21 => ?_) (fun c21 => ?_)
        · refine rn_iconst (v := nI 0) dX5_readPiece_35 (by decide) ?_
          refine rn_zret dX5_readPiece_36 rfl rfl ?_
          exact absurd c21 (by decide)
        · refine rn_aload_n dX5_readPiece_24 rfl ?_
          refine rn_callV dX5_readPiece_25 lmX5_97 ⟨Nat.le_of_ble_eq_true rfl, Nat.le_of_ble_eq_true rfl⟩ (ct_readOptions g f2 o2 (hT.keep (k12 46 (by decide))) hD2 hN hpl hs1) o2 rfl rfl (Nat.le_of_ble_eq_true rfl) ?_
          rintro _ f3 ⟨k3, rfl, o3, h3⟩
          exact at28 f3 k3 o3 h3
theorem ct_readBoard (g : GG) (f : Mm) {T : List Nat} {D : PS} {c r s : Nat} (hO : f 45 = some (RDE T.length 0 c r s)) (hT : RDt f T) (hD : PB f 47 D) : Ct g MX5_readBoard [.ref 45] f 0 0 (fun r' f' => (∀ j, (j < 45 ∨ j = 46 ∨ 52 < j) → f' j = f j) ∧ r' = some (.int (bI (rwS T true 6 0).1)) ∧ (∃ c1 r1 s1, f' 45 = some (RDE T.length (rwS T true 6 0).2.2 c1 r1 s1)) ∧ ∃ D', PB f' 47 D' ∧ ((rwS T true 6 0).1 = true → pN D' = pN D ∧ pW D' = rl T true 6 0 ∧ pH D' = (rwS T true 6 0).2.1 ∧ ∀ i j, i < (rwS T true 6 0).2.1 → j < rl T true 6 0 → pC D' (i * rl T true 6 0 + j) = cvl (chI T (i * (rl T true 6 0 + 1) + j)))) := by
  refine Ct.of ok_MX5_readBoard (Nat.le_of_ble_eq_true rfl) ?_
  change Wp g MX5_readBoard 0 [some (.ref 45)] [] f 0 0 _
  refine rn_aload_n dX5_readBoard_0 rfl ?_
  refine rn_bipush (v := nI 6) dX5_readBoard_1 (by decide) ?_
  refine rn_iconst (v := nI 1) dX5_readBoard_3 (by decide) ?_
  refine rn_callV dX5_readBoard_4 lmX5_62 ⟨Nat.le_of_ble_eq_true rfl, Nat.le_of_ble_eq_true rfl⟩ (ct_readRowsB g f hO hT hD (show 0 ≤ 170 by decide)) hO rfl rfl (Nat.le_of_ble_eq_true rfl) ?_
  rintro _ f1 ⟨k1, rfl, h1⟩
  skip
  rcases h1 with ⟨hz, ⟨c1, r1, s1, o1, -⟩, D1, hD1⟩ | ⟨hz, ⟨s1, o1⟩, D1, hD1, hN1, hc1⟩
  · rw [hz]
    refine rn_if_ne (tgt := 12) dX5_readBoard_7 (by decide) (fun c7 => ?_) (fun c7 => ?_)
    · exact absurd (show bI false = 0 from rfl) c7
    · refine rn_iconst (v := nI 0) dX5_readBoard_10 (by decide) ?_
      refine rn_zret dX5_readBoard_11 rfl rfl ?_
      exact ⟨k1, rfl, ⟨c1, r1, s1, o1⟩, D1, hD1, fun h => by cases h⟩
  · rw [hz]
    have d1 := hD1.o (rl T true 6 0) (pH D1) (pMd D1) (pRu D1) (pN D1)
    have d2 := d1.o (rl T true 6 0) (rwS T true 6 0).2.1 (pMd D1) (pRu D1) (pN D1)
    refine rn_if_ne (tgt := 12) dX5_readBoard_7 (by decide) (fun c7 => ?_) (fun c7 => ?_)
    · refine rn_aload_n dX5_readBoard_12 rfl ?_
      refine rn_get dX5_readBoard_13 lfX5_22 o1 rfl ?_
      refine rn_aload_n dX5_readBoard_16 rfl ?_
      refine rn_get dX5_readBoard_17 lfX5_29 o1 rfl ?_
      refine rn_put dX5_readBoard_20 lpX5_66 hD1.1 rfl rfl (Nat.le_of_ble_eq_true rfl) ?_
      skip
      refine rn_aload_n dX5_readBoard_23 rfl ?_
      refine rn_get dX5_readBoard_24 lfX5_22 ((up_ne (by decide)).trans o1) rfl ?_
      refine rn_aload_n dX5_readBoard_27 rfl ?_
      refine rn_get dX5_readBoard_28 lfX5_32 ((up_ne (by decide)).trans o1) rfl ?_
      refine rn_put dX5_readBoard_31 lpX5_69 (up_same _ _ _) rfl rfl (Nat.le_of_ble_eq_true rfl) ?_
      refine rn_iconst (v := nI 1) dX5_readBoard_34 (by decide) ?_
      refine rn_zret dX5_readBoard_35 rfl rfl ?_
      refine ⟨fun j hj => (up_ne (by omega)).trans ((up_ne (by omega)).trans (k1 j hj)), rfl, ⟨_, _, _, (up_ne (by decide)).trans ((up_ne (by decide)).trans o1)⟩, _, d2, fun _ => ⟨hN1, rfl, rfl, fun i j hi hj => ?_⟩⟩
      have := hc1 i j hi hj
      rw [Nat.zero_add] at this
      exact this
    · exact absurd c7 (by decide)
theorem DRq.add {T : List Nat} {L : List Q4} {D : PS} {e : Q4} (h : DRq T L D) : DRq T (L ++ [e]) (pAdd D (nI e.1) (nI e.2.1) (nI e.2.2.1) (nI e.2.2.2)) := by
  obtain ⟨h1, h2, h3, h4, h5⟩ := h
  refine ⟨h1, h2, by show pN D + 1 = _; rw [List.length_append, List.length_singleton, h3], h4, fun i e' he => ?_⟩
  show upd (pS D) (pN D) (nI e.1) i = _ ∧ upd (pF D) (pN D) (nI e.2.1) i = _ ∧ upd (pK D) (pN D) (nI e.2.2.1) i = _ ∧ upd (pX D) (pN D) (nI e.2.2.2) i = _
  rcases get_push he with ⟨a, b⟩ | ⟨a, b⟩
  · rw [upd_ne (by omega), upd_ne (by omega), upd_ne (by omega), upd_ne (by omega)]
    exact h5 i e' b
  · rw [a, b, h3, upd_eq, upd_eq, upd_eq, upd_eq]
    exact ⟨rfl, rfl, rfl, rfl⟩
theorem pcF_le {T : List Nat} {p : Nat} (h : (pcF T p).1 = true) : (pcF T p).2.1 ≤ T.length := by
  unfold pcF at h ⊢
  split
  · rename_i h1
    rw [if_pos h1] at h; cases h
  · rename_i h1
    rw [if_neg h1] at h
    split
    · rename_i h2
      rw [if_pos h2] at h; cases h
    · have hz : (zS T p).1 = true := by cases hh : (zS T p).1 <;> simp_all
      exact (otk_le 3 (rwS_le hz).1 ⟨Nat.le_of_ble_eq_true rfl, Nat.zero_le _, Nat.zero_le _⟩).1
theorem rwk_lt {T : List Nat} {b : Bool} {w : Nat} (hw : w ≤ 6) : ∀ {d r p : Nat}, (rwk T b w d r p).2.2 ≤ p + 7 * d
  | 0, r, p => Nat.le_refl _
  | d + 1, r, p => by
    have h1 := rl_le T b w (p + 1)
    rw [rwk]
    split
    · split
      · have := rwk_lt (T := T) (b := b) (w := w) hw (d := d) (r := r + 1) (p := p + 1 + w)
        omega
      · show p + 1 + rl T b w (p + 1) ≤ p + 7 * (d + 1)
        omega
    · show p ≤ p + 7 * (d + 1)
      omega
theorem rwS_lt {T : List Nat} {b : Bool} {most p : Nat} (hm : most ≤ 6) (hp : p ≤ 200) : (rwS T b most p).2.2 < 300 := by
  have h1 := rl_le T b most p
  unfold rwS
  split
  · show p < 300
    omega
  · have := rwk_lt (T := T) (b := b) (w := rl T b most p) (by omega) (d := most - 1) (r := 1) (p := p + rl T b most p)
    omega
theorem pcF_lt {T : List Nat} {p : Nat} (hp : p ≤ 200) (hl : T.length ≤ 160) : (pcF T p).2.1 < 1000 := by
  have h1 := rwS_lt (T := T) (b := false) (most := 4) (p := p) (by decide) hp
  unfold pcF
  split
  · show (rwS T false 4 p).2.2 < 1000
    omega
  · split
    · show (rwS T false 4 p).2.2 < 1000
      omega
    · rename_i h2 h3
      have hz : (zS T p).1 = true := by cases hh : (zS T p).1 <;> simp_all
      have := (otk_le (T := T) 3 (x := ((zS T p).2.2, 0, 0, 0)) (rwS_le hz).1 ⟨Nat.le_of_ble_eq_true rfl, Nat.zero_le _, Nat.zero_le _⟩).1
      show (otk T 3 ((zS T p).2.2, 0, 0, 0)).2.1 < 1000
      omega
def rdP (T : List Nat) (D' : PS) (r' : Option Value) : Prop := match outL T with
  | .inl e => r' = some (.int (nI e)) ∧ e < 1000
  | .inr L => r' = some (.int (-1)) ∧ DRq T L D'
theorem rdP_l {T : List Nat} {D' : PS} {r' : Option Value} {e : Nat} (h : outL T = .inl e) (h1 : r' = some (.int (nI e))) (h2 : e < 1000) : rdP T D' r' := by
  unfold rdP; rw [h]; exact ⟨h1, h2⟩
theorem rdP_r {T : List Nat} {D' : PS} {r' : Option Value} {L : List Q4} (h : outL T = .inr L) (h1 : r' = some (.int (-1))) (h2 : DRq T L D') : rdP T D' r' := by
  unfold rdP; rw [h]; exact ⟨h1, h2⟩
theorem ct_read (g : GG) (f : Mm) {T : List Nat} {D : PS} {p c r s : Nat} (hO : f 45 = some (RDE T.length p c r s)) (hT : RDt f T) (hD : PB f 47 D) : Ct g MX5_read [.ref 45] f 0 0 (fun r' f' => (∀ j, (j < 45 ∨ j = 46 ∨ 52 < j) → f' j = f j) ∧ (∃ p1 c1 r1 s1, f' 45 = some (RDE T.length p1 c1 r1 s1)) ∧ ∃ D', PB f' 47 D' ∧ rdP T D' r') := by
  refine Ct.of ok_MX5_read (Nat.le_of_ble_eq_true rfl) ?_
  change Wp g MX5_read 0 [some (.ref 45), none] [] f 0 0 _
  have hl160 := hT.1
  have loop : ∀ (d p1 : Nat) (L : List Q4) (D1 : PS) (f1 : Mm), 8 - L.length = d → L.length ≤ 8 → p1 ≤ T.length → outL T = outc T d p1 L → (∀ j, (j < 45 ∨ j = 46 ∨ 52 < j) → f1 j = f j) → (∃ c1 r1 s1, f1 45 = some (RDE T.length p1 c1 r1 s1)) → PB f1 47 D1 → DRq T L D1 → Wp g MX5_read 27 [some (.ref 45), some (.int (nI L.length))] [] f1 0 0 (fun r' f' => (∀ j, (j < 45 ∨ j = 46 ∨ 52 < j) → f' j = f j) ∧ (∃ p1 c1 r1 s1, f' 45 = some (RDE T.length p1 c1 r1 s1)) ∧ ∃ D', PB f' 47 D' ∧ rdP T D' r') := by
    intro d
    induction d with
    | zero =>
      intro p1 L D1 f1 hd hL hp1 hout k1 hob hD1 hDR
      obtain ⟨c1, r1, s1, o1⟩ := hob
      have hL8 : L.length = 8 := by omega
      rw [hL8]
      rw [outc] at hout
      refine rn_iload_n dX5_read_27 rfl ?_
      refine rn_bipush (v := nI 8) dX5_read_28 (by decide) ?_
      refine rn_icmp_ge (tgt := 70) dX5_read_30 (by decide) (fun c30 => ?_) (fun c30 => ?_)
      · refine rn_aload_n dX5_read_70 rfl ?_
        refine rn_callV dX5_read_71 lmX5_55 ⟨Nat.le_of_ble_eq_true rfl, Nat.le_of_ble_eq_true rfl⟩ (ct_look g f1 o1 (hT.keep (k1 46 (by omega))) (show p1 < 1000 by omega)) o1 rfl rfl (Nat.le_of_ble_eq_true rfl) ?_
        rintro _ _ ⟨rfl, rfl⟩
        refine rn_iconst (v := (-1)) dX5_read_74 (by decide) ?_
        refine rn_icmp_ne (tgt := 82) dX5_read_75 (by decide) (fun c75 => ?_) (fun c75 => ?_)
        · refine rn_aload_n dX5_read_82 rfl ?_
          refine rn_get dX5_read_83 lfX5_26 o1 rfl ?_
          refine rn_iret dX5_read_86 rfl ?_
          rw [if_neg c75] at hout
          exact ⟨k1, ⟨p1, c1, r1, s1, o1⟩, D1, hD1, rdP_l hout rfl (by omega)⟩
        · refine rn_iconst (v := (-1)) dX5_read_78 (by decide) ?_
          refine rn_goto (tgt := 86) dX5_read_79 (by decide) ?_
          refine rn_iret dX5_read_86 rfl ?_
          rw [if_pos c75] at hout
          exact ⟨k1, ⟨p1, c1, r1, s1, o1⟩, D1, hD1, rdP_r hout rfl hDR⟩
      · exact absurd (ge_in c30 (by decide)) (by decide)
    | succ d ih =>
      intro p1 L D1 f1 hd hL hp1 hout k1 hob hD1 hDR
      obtain ⟨c1, r1, s1, o1⟩ := hob
      have hN1 : pN D1 < 8 := by rw [hDR.2.2.1]; omega
      have h52 : ∀ (f2 : Mm), chI T p1 = nI 124 → (∀ j, j ≠ 45 → f2 j = f1 j) → f2 45 = some (RDE T.length (p1 + 1) c1 r1 s1) → Wp g MX5_read 52 [some (.ref 45), some (.int (nI L.length))] [] f2 0 0 (fun r' f' => (∀ j, (j < 45 ∨ j = 46 ∨ 52 < j) → f' j = f j) ∧ (∃ p1 c1 r1 s1, f' 45 = some (RDE T.length p1 c1 r1 s1)) ∧ ∃ D', PB f' 47 D' ∧ rdP T D' r') := fun f2 hbar k2 o2 => by
        have hpl := chI_ne hbar (by decide)
        refine rn_aload_n dX5_read_52 rfl ?_
        refine rn_callV dX5_read_53 lmX5_59 ⟨Nat.le_of_ble_eq_true rfl, Nat.le_of_ble_eq_true rfl⟩ (ct_readPiece g f2 o2 (hT.keep ((k2 46 (by decide)).trans (k1 46 (by omega)))) (hD1.keep (fun k a b => k2 k (by omega))) hN1 (show p1 + 1 ≤ T.length by omega)) o2 rfl rfl (Nat.le_of_ble_eq_true rfl) ?_
        rintro _ f3 ⟨k3, rfl, ⟨c3, r3, s3, o3⟩, h3⟩
        have k13 : ∀ j, (j < 45 ∨ j = 46 ∨ 52 < j) → f3 j = f j := fun j hj => (k3 j hj).trans ((k2 j (by omega)).trans (k1 j hj))
        cases hb : (pcF T (p1 + 1)).1 with
        | true =>
          rw [hb, if_pos rfl] at h3
          refine rn_if_ne (tgt := 64) dX5_read_56 (by decide) (fun c56 => ?_) (fun c56 => ?_)
          · refine rn_iinc (v := nI (L.length + 1)) dX5_read_64 rfl (nI_1 _) (Nat.le_of_ble_eq_true rfl) rfl ?_
            refine rn_goto (tgt := 27) dX5_read_67 (by decide) ?_
            have e := ih (pcF T (p1 + 1)).2.1 (L ++ [(pcF T (p1 + 1)).2.2]) _ f3 (by rw [List.length_append, List.length_singleton]; omega) (by rw [List.length_append, List.length_singleton]; omega) (pcF_le hb) (by rw [hout, outc, if_pos hbar, if_pos hb]) k13 ⟨c3, r3, s3, o3⟩ h3 hDR.add
            rw [List.length_append, List.length_singleton] at e
            exact e
          · exact absurd c56 (by decide)
        | false =>
          rw [hb, if_neg (by decide)] at h3
          have hout2 : outL T = .inl (pcF T (p1 + 1)).2.1 := by rw [hout, outc, if_pos hbar, if_neg (by rw [hb]; decide)]
          have hle : (pcF T (p1 + 1)).2.1 < 1000 := pcF_lt (by omega) (by omega)
          refine rn_if_ne (tgt := 64) dX5_read_56 (by decide) (fun c56 => ?_) (fun c56 => ?_)
          · exact absurd (show bI false = 0 from rfl) c56
          · refine rn_aload_n dX5_read_59 rfl ?_
            refine rn_get dX5_read_60 lfX5_26 o3 rfl ?_
            refine rn_iret dX5_read_63 rfl ?_
            exact ⟨k13, ⟨_, _, _, _, o3⟩, D1, h3, rdP_l hout2 rfl hle⟩
      refine rn_iload_n dX5_read_27 rfl ?_
      refine rn_bipush (v := nI 8) dX5_read_28 (by decide) ?_
      refine rn_icmp_ge (tgt := 70) dX5_read_30 (by decide) (fun c30 => ?_) (fun c30 => ?_)
      · refine rn_aload_n dX5_read_70 rfl ?_
        refine rn_callV dX5_read_71 lmX5_55 ⟨Nat.le_of_ble_eq_true rfl, Nat.le_of_ble_eq_true rfl⟩ (ct_look g f1 o1 (hT.keep (k1 46 (by omega))) (show p1 < 1000 by omega)) o1 rfl rfl (Nat.le_of_ble_eq_true rfl) ?_
        rintro _ _ ⟨rfl, rfl⟩
        refine rn_iconst (v := (-1)) dX5_read_74 (by decide) ?_
        refine rn_icmp_ne (tgt := 82) dX5_read_75 (by decide) (fun c75 => ?_) (fun c75 => ?_)
        · refine rn_aload_n dX5_read_82 rfl ?_
          refine rn_get dX5_read_83 lfX5_26 o1 rfl ?_
          refine rn_iret dX5_read_86 rfl ?_
          exact absurd (ge_ex c30 (by omega) (by decide)) (by omega)
        · refine rn_iconst (v := (-1)) dX5_read_78 (by decide) ?_
          refine rn_goto (tgt := 86) dX5_read_79 (by decide) ?_
          refine rn_iret dX5_read_86 rfl ?_
          exact absurd (ge_ex c30 (by omega) (by decide)) (by omega)
      · refine rn_aload_n dX5_read_33 rfl ?_
        refine rn_callV dX5_read_34 lmX5_55 ⟨Nat.le_of_ble_eq_true rfl, Nat.le_of_ble_eq_true rfl⟩ (ct_look g f1 o1 (hT.keep (k1 46 (by omega))) (show p1 < 1000 by omega)) o1 rfl rfl (Nat.le_of_ble_eq_true rfl) ?_
        rintro _ _ ⟨rfl, rfl⟩
        refine rn_bipush (v := nI 124) dX5_read_37 (by decide) ?_
        refine rn_icmp_ne (tgt := 70) dX5_read_39 (by decide) (fun c39 => ?_) (fun c39 => ?_)
        · refine rn_aload_n dX5_read_70 rfl ?_
          refine rn_callV dX5_read_71 lmX5_55 ⟨Nat.le_of_ble_eq_true rfl, Nat.le_of_ble_eq_true rfl⟩ (ct_look g f1 o1 (hT.keep (k1 46 (by omega))) (show p1 < 1000 by omega)) o1 rfl rfl (Nat.le_of_ble_eq_true rfl) ?_
          rintro _ _ ⟨rfl, rfl⟩
          refine rn_iconst (v := (-1)) dX5_read_74 (by decide) ?_
          refine rn_icmp_ne (tgt := 82) dX5_read_75 (by decide) (fun c75 => ?_) (fun c75 => ?_)
          · refine rn_aload_n dX5_read_82 rfl ?_
            refine rn_get dX5_read_83 lfX5_26 o1 rfl ?_
            refine rn_iret dX5_read_86 rfl ?_
            rw [outc, if_neg c39, if_neg c75] at hout
            exact ⟨k1, ⟨p1, c1, r1, s1, o1⟩, D1, hD1, rdP_l hout rfl (by omega)⟩
          · refine rn_iconst (v := (-1)) dX5_read_78 (by decide) ?_
            refine rn_goto (tgt := 86) dX5_read_79 (by decide) ?_
            refine rn_iret dX5_read_86 rfl ?_
            rw [outc, if_neg c39, if_pos c75] at hout
            exact ⟨k1, ⟨p1, c1, r1, s1, o1⟩, D1, hD1, rdP_r hout rfl hDR⟩
        · refine rn_aload_n dX5_read_42 rfl ?_
          refine rn_dup dX5_read_43 rfl ?_
          refine rn_get dX5_read_44 lfX5_26 o1 rfl ?_
          refine rn_iconst (v := nI 1) dX5_read_47 (by decide) ?_
          refine rn_iadd dX5_read_48 ?_
          rw [nI_add]
          refine rn_put dX5_read_49 lpX5_26 o1 rfl rfl (Nat.le_of_ble_eq_true rfl) ?_
          refine Wp.gen (e := RDE T.length (p1 + 1) c1 r1 s1) (fun f2 k2 o2 => ?_)
          exact h52 f2 c39 k2 o2
  refine rn_aload_n dX5_read_0 rfl ?_
  refine rn_iconst (v := nI 0) dX5_read_1 (by decide) ?_
  refine rn_put dX5_read_2 lpX5_26 hO rfl rfl (Nat.le_of_ble_eq_true rfl) ?_
  refine Wp.gen (e := RDE T.length 0 c r s) (fun f1 k1 o1 => ?_)
  have hD1 : PB f1 47 D := hD.keep (fun k a b => k1 k (by omega))
  refine rn_aload_n dX5_read_5 rfl ?_
  refine rn_get dX5_read_6 lfX5_22 o1 rfl ?_
  refine rn_iconst (v := nI 0) dX5_read_9 (by decide) ?_
  refine rn_put dX5_read_10 lpX5_48 hD1.1 rfl rfl (Nat.le_of_ble_eq_true rfl) ?_
  refine Wp.gen (e := PO 47 (pW D, pH D, pMd D, pRu D, 0, D.2.2.2.2.2)) (fun f2 k2 o2 => ?_)
  have hD2 : PB f2 47 (pW D, pH D, pMd D, pRu D, 0, D.2.2.2.2.2) := ⟨o2, hD1.2.1.keep (k2 48 (by decide)), hD1.2.2.1.keep (k2 49 (by decide)), hD1.2.2.2.1.keep (k2 50 (by decide)), hD1.2.2.2.2.1.keep (k2 51 (by decide)), hD1.2.2.2.2.2.keep (k2 52 (by decide))⟩
  refine rn_aload_n dX5_read_13 rfl ?_
  refine rn_callV dX5_read_14 lmX5_51 ⟨Nat.le_of_ble_eq_true rfl, Nat.le_of_ble_eq_true rfl⟩ (ct_readBoard g f2 ((k2 45 (by decide)).trans o1) (hT.keep ((k2 46 (by decide)).trans (k1 46 (by decide)))) hD2) ((k2 45 (by decide)).trans o1) rfl rfl (Nat.le_of_ble_eq_true rfl) ?_
  rintro _ f3 ⟨k3, rfl, hob, D3, hD3, hz3⟩
  skip
  have k13 : ∀ j, (j < 45 ∨ j = 46 ∨ 52 < j) → f3 j = f j := fun j hj => (k3 j hj).trans ((k2 j (by omega)).trans (k1 j (by omega)))
  obtain ⟨c1, r1, s1, o3⟩ := id hob
  cases hz : (rwS T true 6 0).1 with
  | true =>
    obtain ⟨z1, z2, z3, z4⟩ := hz3 hz
    have go := loop 8 (rwS T true 6 0).2.2 [] D3 f3 rfl (by decide) (rwS_le hz).1 (by rw [outL, if_pos hz]) k13 hob hD3 ⟨z2, z3, z1, z4, fun i e he => by cases he⟩
    refine rn_if_ne (tgt := 25) dX5_read_17 (by decide) (fun c17 => ?_) (fun c17 => ?_)
    · refine rn_iconst (v := nI 0) dX5_read_25 (by decide) ?_
      refine rn_istore_n dX5_read_26 (Nat.le_of_ble_eq_true rfl) rfl ?_
      exact go
    · exact absurd c17 (by decide)
  | false =>
    have hout : outL T = .inl (rwS T true 6 0).2.2 := by rw [outL, if_neg (by rw [hz]; decide)]
    refine rn_if_ne (tgt := 25) dX5_read_17 (by decide) (fun c17 => ?_) (fun c17 => ?_)
    · exact absurd (show bI false = 0 from rfl) c17
    · refine rn_aload_n dX5_read_20 rfl ?_
      refine rn_get dX5_read_21 lfX5_26 o3 rfl ?_
      refine rn_iret dX5_read_24 rfl ?_
      exact ⟨k13, ⟨_, _, _, _, o3⟩, D3, hD3, rdP_l hout rfl (by have := rwS_lt (T := T) (b := true) (most := 6) (p := 0) (by decide) (by decide); omega)⟩
