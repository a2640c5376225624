def zr (x : Q4) : Nat := (if x.2.1 = 0 then 1 else 0) + ((if x.2.2.1 = 0 then 1 else 0) + (if x.2.2.2 = 0 then 1 else 0))
theorem opS_zr {T : List Nat} {x : Q4} : ((opS T x).1 = 1 → zr (opS T x).2 + 1 = zr x ∧ x.1 < (opS T x).2.1) ∧ (¬ (opS T x).1 = 0 → 0 < zr x) := by
  unfold opS
  split
  · rename_i h
    refine ⟨fun _ => ⟨?_, Nat.lt_succ_self _⟩, fun _ => ?_⟩
    · unfold zr
      dsimp only
      rw [if_pos h.2, if_neg (show ¬ (if chI T x.1 = nI 116 then 1 else 2) = 0 by split <;> decide)]
      omega
    · unfold zr; rw [if_pos h.2]; omega
  · split
    · rename_i h
      split
      · exact ⟨fun h2 => (by cases h2), fun _ => by unfold zr; rw [if_pos h.2]; omega⟩
      · rename_i h2
        refine ⟨fun _ => ⟨?_, by show x.1 < x.1 + 2; omega⟩, fun _ => by unfold zr; rw [if_pos h.2]; omega⟩
        unfold zr
        dsimp only
        rw [if_pos h.2, if_neg h2]
        omega
    · split
      · rename_i h
        split
        · exact ⟨fun h2 => (by cases h2), fun _ => by unfold zr; rw [if_pos h.2]; omega⟩
        · rename_i h2
          refine ⟨fun _ => ⟨?_, by show x.1 < x.1 + 2; omega⟩, fun _ => by unfold zr; rw [if_pos h.2]; omega⟩
          unfold zr
          dsimp only
          rw [if_pos h.2, if_neg h2]
          omega
      · exact ⟨fun h2 => (by cases h2), fun h2 => absurd rfl h2⟩
theorem opS_code (T : List Nat) (x : Q4) : (opS T x).1 = 0 ∨ (opS T x).1 = 1 ∨ (opS T x).1 = 2 := by
  unfold opS
  split
  · exact Or.inr (Or.inl rfl)
  · split
    · split
      · exact Or.inr (Or.inr rfl)
      · exact Or.inr (Or.inl rfl)
    · split
      · split
        · exact Or.inr (Or.inr rfl)
        · exact Or.inr (Or.inl rfl)
      · exact Or.inl rfl
theorem opS_0 {T : List Nat} {x : Q4} (h : (opS T x).1 = 0) : (opS T x).2 = x := by
  unfold opS at h ⊢
  split
  · rename_i h1; rw [if_pos h1] at h; cases h
  · rename_i h1
    rw [if_neg h1] at h
    split
    · rename_i h2
      rw [if_pos h2] at h
      split at h <;> cases h
    · rename_i h2
      rw [if_neg h2] at h
      split
      · rename_i h3
        rw [if_pos h3] at h
        split at h <;> cases h
      · rfl
theorem opS_stop {T : List Nat} {x : Q4} (h1 : ¬ chI T x.1 = nI 116) (h2 : ¬ chI T x.1 = nI 109) (h3 : ¬ chI T x.1 = nI 99) (h4 : ¬ chI T x.1 = nI 120) : (opS T x).1 = 0 := by
  rw [opS, if_neg (fun h => h.1.elim h1 h2), if_neg (fun h => h3 h.1), if_neg (fun h => h4 h.1)]
theorem chI_end {T : List Nat} {p : Nat} (h : T.length ≤ p) : chI T p = -1 := by rw [chI, List.getElem?_eq_none h]
theorem outc_bad {T : List Nat} {p : Nat} {L : List Q4} (h1 : ¬ chI T p = nI 124) (h2 : ¬ chI T p = -1) : ∀ n, outc T n p L = .inl p
  | 0 => by rw [outc, if_neg h2]
  | n + 1 => by rw [outc, if_neg h1, if_neg h2]
theorem wrg_bad {T : List Nat} {b : Bool} {z : Bool × Nat × Nat} (hz : z.1 = true) (h : wrg T b z = true) : ¬ chI T z.2.2 = nI 124 ∧ ¬ chI T z.2.2 = -1 ∧ ¬ chI T z.2.2 = nI 116 ∧ ¬ chI T z.2.2 = nI 109 ∧ ¬ chI T z.2.2 = nI 99 ∧ ¬ chI T z.2.2 = nI 120 := by
  rw [wrg, hz, Bool.not_true, Bool.false_or, Bool.or_eq_true, decide_eq_true_eq] at h
  rcases h with h | h
  · rw [h]; decide
  · have key : ∀ v : Int32, rowOk b v = false → ¬ chI T z.2.2 = v := fun v hv e => by rw [e, hv] at h; cases h
    cases b <;> exact ⟨key _ (by decide), key _ (by decide), key _ (by decide), key _ (by decide), key _ (by decide), key _ (by decide)⟩
theorem rwk_gt {T : List Nat} {b : Bool} {w : Nat} : ∀ {d r p : Nat}, p ≤ (rwk T b w d r p).2.2
  | 0, r, p => Nat.le_refl _
  | d + 1, r, p => by
    rw [rwk]
    split
    · split
      · have := rwk_gt (T := T) (b := b) (w := w) (d := d) (r := r + 1) (p := p + 1 + w)
        omega
      · show p ≤ p + 1 + rl T b w (p + 1)
        omega
    · exact Nat.le_refl _
theorem rwS_gt {T : List Nat} {p : Nat} (h : (rwS T false 4 (p + 1)).1 = true) : p < (rwS T false 4 (p + 1)).2.2 := by
  unfold rwS at h ⊢
  split at h
  · cases h
  · rename_i h0
    rw [if_neg h0]
    have := rwk_gt (T := T) (b := false) (w := rl T false 4 (p + 1)) (d := 4 - 1) (r := 1) (p := p + 1 + rl T false 4 (p + 1))
    omega
def KP (wi w : Nat → Int32) : Prop := ∀ i, (i < 13 ∨ 23 < i) → w i = wi i
theorem KP.up {wi w : Nat → Int32} {k : Nat} {v : Int32} (h : KP wi w) (hk : 13 ≤ k ∧ k ≤ 23) : KP wi (upd w k v) := fun i hi => (upd_ne (by omega)).trans (h i hi)
theorem KP.o {wi w w' : Nat → Int32} (h : KP wi w) (h2 : KO w w') : KP wi w' := fun i hi => (h2 i (by omega) (by omega) (by omega) (by omega) (by omega)).trans (h i hi)
theorem KP.r {wi w w' : Nat → Int32} (h : KP wi w) (h2 : KR w w') : KP wi w' := fun i hi => (h2 i (by omega)).trans (h i hi)
def PCp (f : Mm) (T : List Nat) (L : List Q4) (p : Nat) (D : PS) (wi : Nat → Int32) (cv : Int64) (f' : Mm) : Prop := (∀ j, j ≠ 75 → j ≠ 76 → f' j = f j) ∧ ∃ w s', KP wi w ∧ f' 75 = some (MO w cv) ∧ AR f' 76 73 s' ∧ ((w 14 = 1 ∧ ∃ e, e < 1000 ∧ w 13 = nI e ∧ outc T (8 - L.length) p L = .inl e) ∨ (w 14 = 0 ∧ ∃ p' e, p' ≤ T.length ∧ p < p' ∧ w 13 = nI p' ∧ L.length < 8 ∧ outc T (8 - L.length) p L = outc T (8 - (L.length + 1)) p' (L ++ [e]) ∧ SP s' (pAdd D (nI e.1) (nI e.2.1) (nI e.2.2.1) (nI e.2.2.2))))
theorem cm_readsPiece (g : GG) (f : Mm) {wi s : Nat → Int32} {cv : Int64} {T : List Nat} {L : List Q4} {D : PS} {p : Nat} (hM : f 75 = some (MO wi cv)) (hs : AR f 76 73 s) (hP : SP s D) (hV : VD D) (hn : pN D = L.length) (hT : TXm f T) (h4 : wi 4 = nI T.length) (h13 : wi 13 = nI p) (h14 : wi 14 = 0) (hp : p < T.length) : Ct g MX12_readsPiece [.ref 75] f 0 0 (fun r f' => r = none ∧ PCp f T L p D wi cv f') := by
  refine Ct.of ok_MX12_readsPiece (Nat.le_of_ble_eq_true rfl) ?_
  change Wp g MX12_readsPiece 0 [some (.ref 75)] [] f 0 0 _
  have hl160 : T.length ≤ 160 := by
    obtain ⟨_, _, h, _⟩ := hT
    exact h
  have v8 := hV.2.2.2.2
  have hL8 : L.length ≤ 8 := by omega
  obtain ⟨sb, hsb, hsbe⟩ := id hs
  have es4 : sb 4 = nI L.length := ((hsbe 4 (by omega)).trans hP.2.2.2.2.1).trans (by rw [hn])
  have hne : ¬ chI T p = -1 := by
    rw [chI, List.getElem?_eq_getElem hp]
    obtain ⟨_, _, _, hb⟩ := hT
    exact nI_m1 (by have := (hb p _ (List.getElem?_eq_getElem hp)).1; omega)
  -- no piece
  have bad : (¬ chI T p = nI 124 ∨ L.length = 8) → Wp g MX12_readsPiece 21 [some (.ref 75)] [.ref 75] f 0 0 (fun r f' => r = none ∧ PCp f T L p D wi cv f') := fun h => by
    have ho : outc T (8 - L.length) p L = .inl p := by
      rcases h with h | h
      · exact outc_bad h hne _
      · rw [h, show 8 - 8 = 0 from rfl, outc, if_neg hne]
    refine rn_iconst (v := nI 1) dX12_readsPiece_21 (by decide) ?_
    refine rn_goto (tgt := 26) dX12_readsPiece_22 (by decide) ?_
    refine rn_put dX12_readsPiece_26 lpX12_174 hM rfl rfl (Nat.le_of_ble_eq_true rfl) ?_
    rw [ms14]
    refine Wp.gen (e := MO (upd wi 14 (nI 1)) cv) (fun f1 k1 o1 => ?_)
    refine rn_aload_n dX12_readsPiece_29 rfl ?_
    refine rn_get dX12_readsPiece_30 lfX12_174 o1 rfl ?_
    rw [upd_eq]
    refine rn_if_eq (tgt := 37) dX12_readsPiece_33 (by decide) (fun c33 => ?_) (fun c33 => ?_)
    · exact absurd c33 (by decide)
    · refine rn_vret dX12_readsPiece_36 rfl ?_
      exact ⟨rfl, fun j a b => k1 j a, _, s, KP.up (fun _ _ => rfl) (by decide), o1, hs.keep (k1 76 (by decide)), Or.inl ⟨upd_eq _ _ _, p, by omega, (upd_ne (by decide)).trans h13, ho⟩⟩
  -- a piece
  have good : chI T p = nI 124 → L.length < 8 → Wp g MX12_readsPiece 25 [some (.ref 75)] [.ref 75] f 0 0 (fun r f' => r = none ∧ PCp f T L p D wi cv f') := fun hbar hlt => by
    have ho : outc T (8 - L.length) p L = if (pcF T (p + 1)).1 = true then outc T (8 - (L.length + 1)) (pcF T (p + 1)).2.1 (L ++ [(pcF T (p + 1)).2.2]) else .inl (pcF T (p + 1)).2.1 := by
      rw [show 8 - L.length = 8 - (L.length + 1) + 1 by omega, outc, if_pos hbar]
    -- it is wrong
    have wrong : ∀ (f1 : Mm) (w : Nat → Int32) (e : Nat), (∀ j, j ≠ 75 → j ≠ 76 → f1 j = f j) → KP wi w → f1 75 = some (MO w cv) → AR f1 76 73 s → w 14 = nI 1 → w 13 = nI e → e < 1000 → outc T (8 - L.length) p L = .inl e → Wp g MX12_readsPiece 93 [some (.ref 75)] [] f1 0 0 (fun r f' => r = none ∧ PCp f T L p D wi cv f') := fun f1 w e k1 hk o1 hs1 e14 e13 he hoe => by
      refine rn_aload_n dX12_readsPiece_93 rfl ?_
      refine rn_get dX12_readsPiece_94 lfX12_174 o1 rfl ?_
      rw [e14]
      refine rn_if_ne (tgt := 127) dX12_readsPiece_97 (by decide) (fun c97 => ?_) (fun c97 => ?_)
      · refine rn_aload_n dX12_readsPiece_127 rfl ?_
        refine rn_get dX12_readsPiece_128 lfX12_174 o1 rfl ?_
        rw [e14]
        refine rn_if_ne (tgt := 165) dX12_readsPiece_131 (by decide) (fun c131 => ?_) (fun c131 => ?_)
        · refine rn_vret dX12_readsPiece_165 rfl ?_
          exact ⟨rfl, k1, w, s, hk, o1, hs1, Or.inl ⟨e14, e, he, e13, hoe⟩⟩
        · exact absurd c131 (by decide)
      · exact absurd c97 (by decide)
    -- the options
    have opts : okC (shS T (p + 1)) = true → (zS T (p + 1)).1 = true → ∀ (d n : Nat) (x : Q4) (f1 : Mm) (w : Nat → Int32), T.length + 1 - x.1 = d → x.1 ≤ T.length → p < x.1 → zr x ≤ n → opOk x → otk T n x = otk T 3 ((zS T (p + 1)).2.2, 0, 0, 0) → (∀ j, j ≠ 75 → j ≠ 76 → f1 j = f j) → KP wi w → f1 75 = some (MO w cv) → AR f1 76 73 s → w 14 = 0 → OXw w x → w 19 = nI (shS T (p + 1)) → Wp g MX12_readsPiece 93 [some (.ref 75)] [] f1 0 0 (fun r f' => r = none ∧ PCp f T L p D wi cv f') := fun hokC hz => by
      have hshl : shS T (p + 1) < 65536 := shS_lt T (p + 1) _ _ 16
      have epc : pcF T (p + 1) = ((otk T 3 ((zS T (p + 1)).2.2, 0, 0, 0)).1, (otk T 3 ((zS T (p + 1)).2.2, 0, 0, 0)).2.1, (nrC (shS T (p + 1)), (otk T 3 ((zS T (p + 1)).2.2, 0, 0, 0)).2.2.1, (otk T 3 ((zS T (p + 1)).2.2, 0, 0, 0)).2.2.2.1, if (otk T 3 ((zS T (p + 1)).2.2, 0, 0, 0)).2.2.2.2 = 0 then 1 else (otk T 3 ((zS T (p + 1)).2.2, 0, 0, 0)).2.2.2.2)) := by rw [pcF, if_neg (by rw [hz]; decide), if_neg (by rw [hokC]; decide)]
      intro d
      induction d using Nat.strongRecOn with
      | ind d ih =>
        intro n x f1 w hd hx1 hpx hzr hok hot k1 hk o1 hs1 e14 hox e19
        have hT1 : TXm f1 T := hT.keep (k1 78 (by decide) (by decide))
        have q4 : w 4 = nI T.length := (hk 4 (by omega)).trans h4
        obtain ⟨e13, e21, e22, e23⟩ := id hox
        obtain ⟨a1, a2, a3⟩ := id hok
        -- it ends here
        have fin : (opS T x).1 = 0 → Wp g MX12_readsPiece 127 [some (.ref 75)] [] f1 0 0 (fun r f' => r = none ∧ PCp f T L p D wi cv f') := fun h0 => by
          rw [otk_stop h0] at hot
          rw [← hot] at epc
          have ho2 : outc T (8 - L.length) p L = outc T (8 - (L.length + 1)) x.1 (L ++ [(nrC (shS T (p + 1)), x.2.1, x.2.2.1, if x.2.2.2 = 0 then 1 else x.2.2.2)]) := by rw [ho, epc, if_pos rfl]
          have post : ∀ f2 : Mm, (∀ j, j ≠ 76 → f2 j = f1 j) → ∀ s' v, v = nI (if x.2.2.2 = 0 then 1 else x.2.2.2) → AR f2 76 73 s' → SP s' (pAdd D (nI (nrM (shS T (p + 1)))) (nI x.2.1) (nI x.2.2.1) v) → PCp f T L p D wi cv f2 := fun f2 k2 s' v hv hs' hSP' => by
            rw [hv, ← (ok_norm hshl hokC).1] at hSP'
            exact ⟨fun j a b => (k2 j b).trans (k1 j a b), w, s', hk, (k2 75 (by decide)).trans o1, hs', Or.inr ⟨e14, x.1, _, hx1, hpx, e13, hlt, ho2, hSP'⟩⟩
          refine rn_aload_n dX12_readsPiece_127 rfl ?_
          refine rn_get dX12_readsPiece_128 lfX12_174 o1 rfl ?_
          rw [e14]
          refine rn_if_ne (tgt := 165) dX12_readsPiece_131 (by decide) (fun c131 => ?_) (fun c131 => ?_)
          · refine rn_vret dX12_readsPiece_165 rfl ?_
            exact absurd (show (0 : Int32) = 0 from rfl) c131
          · refine rn_aload_n dX12_readsPiece_134 rfl ?_
            refine rn_aload_n dX12_readsPiece_135 rfl ?_
            refine rn_get dX12_readsPiece_136 lfX12_168 o1 rfl ?_
            rw [e19]
            refine rn_aload_n dX12_readsPiece_139 rfl ?_
            refine rn_get dX12_readsPiece_140 lfX12_188 o1 rfl ?_
            rw [e21]
            refine rn_aload_n dX12_readsPiece_143 rfl ?_
            refine rn_get dX12_readsPiece_144 lfX12_191 o1 rfl ?_
            rw [e22]
            refine rn_aload_n dX12_readsPiece_147 rfl ?_
            refine rn_get dX12_readsPiece_148 lfX12_194 o1 rfl ?_
            rw [e23]
            refine rn_if_ne (tgt := 158) dX12_readsPiece_151 (by decide) (fun c151 => ?_) (fun c151 => ?_)
            · refine rn_aload_n dX12_readsPiece_158 rfl ?_
              refine rn_get dX12_readsPiece_159 lfX12_194 o1 rfl ?_
              skip
              refine rn_callV dX12_readsPiece_162 lmX12_135 ⟨Nat.le_of_ble_eq_true rfl, Nat.le_of_ble_eq_true rfl⟩ (cm_adds g f1 (nI x.2.1) (nI x.2.2.1) _ o1 hs1 hP hV (by omega) hshl (ok_pos hshl hokC)) o1 rfl rfl (Nat.le_of_ble_eq_true rfl) ?_
              rintro _ f2 ⟨rfl, k2, s', hs', hSP'⟩
              refine rn_vret dX12_readsPiece_165 rfl ?_
              refine ⟨rfl, post f2 k2 s' _ ?_ hs' hSP'⟩
              rw [e23, if_neg (fun h => c151 (by rw [h]; rfl))]
            · refine rn_iconst (v := nI 1) dX12_readsPiece_154 (by decide) ?_
              refine rn_goto (tgt := 162) dX12_readsPiece_155 (by decide) ?_
              skip
              refine rn_callV dX12_readsPiece_162 lmX12_135 ⟨Nat.le_of_ble_eq_true rfl, Nat.le_of_ble_eq_true rfl⟩ (cm_adds g f1 (nI x.2.1) (nI x.2.2.1) _ o1 hs1 hP hV (by omega) hshl (ok_pos hshl hokC)) o1 rfl rfl (Nat.le_of_ble_eq_true rfl) ?_
              rintro _ f2 ⟨rfl, k2, s', hs', hSP'⟩
              refine rn_vret dX12_readsPiece_165 rfl ?_
              exact ⟨rfl, post f2 k2 s' _ (by rw [if_pos ((az (by omega)).mp c151)]) hs' hSP'⟩
        have h121 : x.1 < T.length → ¬ chI T x.1 = nI 124 → Wp g MX12_readsPiece 121 [some (.ref 75)] [.ref 75] f1 0 0 (fun r f' => r = none ∧ PCp f T L p D wi cv f') := fun hxl hxb => by
          have hxe : ¬ chI T x.1 = -1 := by
            rw [chI, List.getElem?_eq_getElem hxl]
            obtain ⟨_, _, _, hb⟩ := hT
            exact nI_m1 (by have := (hb x.1 _ (List.getElem?_eq_getElem hxl)).1; omega)
          refine rn_callV dX12_readsPiece_121 lmX12_201 ⟨Nat.le_of_ble_eq_true rfl, Nat.le_of_ble_eq_true rfl⟩ (cm_readsOption g f1 (p := x.1) (fr := x.2.1) (ti := x.2.2.1) (co := x.2.2.2) o1 hT1 q4 e14 hox hok (by omega)) o1 rfl rfl (Nat.le_of_ble_eq_true rfl) ?_
          rintro _ f2 ⟨rfl, k2, w2, hko, o2, hox2, g14⟩
          replace hox2 : OXw w2 (opS T x).2 := hox2
          replace g14 : w2 14 = bI (!decide ((opS T x).1 = 1)) := g14
          refine rn_goto (tgt := 93) dX12_readsPiece_124 (by decide) ?_
          have k12 : ∀ j, j ≠ 75 → j ≠ 76 → f2 j = f j := fun j a b => (k2 j a).trans (k1 j a b)
          have hs2 := hs1.keep (k2 76 (by decide))
          rcases opS_code T x with h0 | h1 | h2
          · rw [opS_0 h0] at hox2
            rw [h0] at g14
            rw [otk_stop h0] at hot
            rw [← hot] at epc
            refine wrong f2 w2 x.1 k12 (hk.o hko) o2 hs2 g14 hox2.1 (by omega) ?_
            rw [ho, epc, if_pos rfl]
            exact outc_bad hxb hxe _
          · rw [h1] at g14
            have hzr1 := (opS_zr (T := T) (x := x)).1 h1
            obtain ⟨n', rfl⟩ : ∃ n', n = n' + 1 := ⟨n - 1, by omega⟩
            have hle := opS_le (T := T) hx1
            refine ih _ (by omega) n' (opS T x).2 f2 w2 rfl hle.1 (by omega) (by omega) (opS_ok hok) ?_ k12 (hk.o hko) o2 hs2 g14 hox2 ((hko 19 (by decide) (by decide) (by decide) (by decide) (by decide)).trans e19)
            exact otk_go hot (by rw [← h1])
          · rw [h2] at g14
            have hzr1 := (opS_zr (T := T) (x := x)).2 (by rw [h2]; decide)
            obtain ⟨n', rfl⟩ : ∃ n', n = n' + 1 := ⟨n - 1, by omega⟩
            have hle := opS_le (T := T) hx1
            have hZ := otk_fail hot (x' := (opS T x).2) (by rw [← h2])
            rw [hZ] at epc
            refine wrong f2 w2 (opS T x).2.1 k12 (hk.o hko) o2 hs2 g14 hox2.1 (by omega) ?_
            rw [ho, epc, if_neg (show ¬ (false : Bool) = true by decide)]
        refine rn_aload_n dX12_readsPiece_93 rfl ?_
        refine rn_get dX12_readsPiece_94 lfX12_174 o1 rfl ?_
        rw [e14]
        refine rn_if_ne (tgt := 127) dX12_readsPiece_97 (by decide) (fun c97 => ?_) (fun c97 => ?_)
        · exact absurd (show (0 : Int32) = 0 from rfl) c97
        · refine rn_aload_n dX12_readsPiece_100 rfl ?_
          refine rn_get dX12_readsPiece_101 lfX12_159 o1 rfl ?_
          refine rn_aload_n dX12_readsPiece_104 rfl ?_
          refine rn_get dX12_readsPiece_105 lfX12_156 o1 rfl ?_
          rw [e13, q4]
          refine rn_icmp_ge (tgt := 127) dX12_readsPiece_108 (by decide) (fun c108 => ?_) (fun c108 => ?_)
          · have hge := ge_ex c108 (by omega) (by omega)
            have hend := chI_end hge
            exact fin (opS_stop (by rw [hend]; decide) (by rw [hend]; decide) (by rw [hend]; decide) (by rw [hend]; decide))
          · refine rn_aload_n dX12_readsPiece_111 rfl ?_
            refine rn_callV dX12_readsPiece_112 lmX12_178 ⟨Nat.le_of_ble_eq_true rfl, Nat.le_of_ble_eq_true rfl⟩ (cm_here g f1 o1 hT1 e13 q4 (by omega)) o1 rfl rfl (Nat.le_of_ble_eq_true rfl) ?_
            rintro _ _ ⟨rfl, rfl⟩
            refine rn_bipush (v := nI 124) dX12_readsPiece_115 (by decide) ?_
            refine rn_icmp_eq (tgt := 127) dX12_readsPiece_117 (by decide) (fun c117 => ?_) (fun c117 => ?_)
            · exact fin (opS_stop (by rw [c117]; decide) (by rw [c117]; decide) (by rw [c117]; decide) (by rw [c117]; decide))
            · refine rn_aload_n dX12_readsPiece_120 rfl ?_
              exact h121 (ge_in c108 (by omega)) c117
    have hp1 : p + 1 ≤ 170 := by omega
    have hz300 : (zS T (p + 1)).2.2 < 300 := rwS_lt (T := T) (b := false) (most := 4) (p := p + 1) (by decide) (by omega)
    have bad1 : ∀ {q : Prop}, (zS T (p + 1)).1 = false ∨ okC (shS T (p + 1)) = false → outc T (8 - L.length) p L = .inl (zS T (p + 1)).2.2 := fun {q} h => by
      have epc : pcF T (p + 1) = (false, (zS T (p + 1)).2.2, (0, 0, 0, 0)) := by
        by_cases hz : (zS T (p + 1)).1 = false
        · rw [pcF, if_pos hz]
        · rw [pcF, if_neg hz, if_pos (h.resolve_left hz)]
      rw [ho, epc, if_neg (show ¬ (false : Bool) = true by decide)]
    have at75 : ∀ (f3 : Mm) (w3 : Nat → Int32) (v : Bool), (∀ j, j ≠ 75 → j ≠ 76 → f3 j = f j) → KP wi w3 → f3 75 = some (MO w3 cv) → AR f3 76 73 s → w3 13 = nI (zS T (p + 1)).2.2 → (v = true → outc T (8 - L.length) p L = .inl (zS T (p + 1)).2.2) → (v = false → okC (shS T (p + 1)) = true ∧ (zS T (p + 1)).1 = true ∧ w3 19 = nI (shS T (p + 1))) → Wp g MX12_readsPiece 75 [some (.ref 75)] [.int (bI v), .ref 75] f3 0 0 (fun r f' => r = none ∧ PCp f T L p D wi cv f') := fun f3 w3 v k3 hk3 o3 hs3 g13 hv1 hv0 => by
      have aft : ∀ f4 : Mm, (∀ j, j ≠ 75 → f4 j = f3 j) → f4 75 = some (MO (upd w3 14 (bI v)) cv) → Wp g MX12_readsPiece 78 [some (.ref 75)] [] f4 0 0 (fun r f' => r = none ∧ PCp f T L p D wi cv f') := fun f4 k4 o4 => by
        refine rn_aload_n dX12_readsPiece_78 rfl ?_
        refine rn_iconst (v := nI 0) dX12_readsPiece_79 (by decide) ?_
        refine rn_put dX12_readsPiece_80 lpX12_188 o4 rfl rfl (Nat.le_of_ble_eq_true rfl) ?_
        rw [ms21]
        refine Wp.gen (e := MO (upd (upd w3 14 (bI v)) 21 (nI 0)) cv) (fun f5 k5 o5 => ?_)
        refine rn_aload_n dX12_readsPiece_83 rfl ?_
        refine rn_iconst (v := nI 0) dX12_readsPiece_84 (by decide) ?_
        refine rn_put dX12_readsPiece_85 lpX12_191 o5 rfl rfl (Nat.le_of_ble_eq_true rfl) ?_
        rw [ms22]
        refine Wp.gen (e := MO (upd (upd (upd w3 14 (bI v)) 21 (nI 0)) 22 (nI 0)) cv) (fun f6 k6 o6 => ?_)
        refine rn_aload_n dX12_readsPiece_88 rfl ?_
        refine rn_iconst (v := nI 0) dX12_readsPiece_89 (by decide) ?_
        refine rn_put dX12_readsPiece_90 lpX12_194 o6 rfl rfl (Nat.le_of_ble_eq_true rfl) ?_
        rw [ms23]
        skip
        refine Wp.gen (e := MO (upd (upd (upd (upd w3 14 (bI v)) 21 (nI 0)) 22 (nI 0)) 23 (nI 0)) cv) (fun f7 k7 o7 => ?_)
        have k37 : ∀ j, j ≠ 75 → f7 j = f3 j := fun j h => (k7 j h).trans ((k6 j h).trans ((k5 j h).trans (k4 j h)))
        have k07 : ∀ j, j ≠ 75 → j ≠ 76 → f7 j = f j := fun j a b => (k37 j a).trans (k3 j a b)
        have q13 : (upd (upd (upd (upd w3 14 (bI v)) 21 (nI 0)) 22 (nI 0)) 23 (nI 0)) 13 = nI (zS T (p + 1)).2.2 := (upd_ne (by decide)).trans ((upd_ne (by decide)).trans ((upd_ne (by decide)).trans ((upd_ne (by decide)).trans g13)))
        have q14 : (upd (upd (upd (upd w3 14 (bI v)) 21 (nI 0)) 22 (nI 0)) 23 (nI 0)) 14 = bI v := (upd_ne (by decide)).trans ((upd_ne (by decide)).trans ((upd_ne (by decide)).trans (upd_eq _ _ _)))
        have hkk : KP wi (upd (upd (upd (upd w3 14 (bI v)) 21 (nI 0)) 22 (nI 0)) 23 (nI 0)) := (((hk3.up (by decide)).up (by decide)).up (by decide)).up (by decide)
        cases v with
        | true => exact wrong f7 _ _ k07 hkk o7 (hs3.keep (k37 76 (by decide))) q14 q13 (by omega) (hv1 rfl)
        | false =>
          obtain ⟨h1, h2, h3⟩ := hv0 rfl
          have hzl := (rwS_le h2).1
          have hzp := (rwS_le h2).2
          refine opts h1 h2 _ 3 ((zS T (p + 1)).2.2, 0, 0, 0) f7 _ rfl hzl (rwS_gt h2) (Nat.le_refl _) ⟨Nat.le_of_ble_eq_true rfl, Nat.zero_le _, Nat.zero_le _⟩ rfl k07 hkk o7 (hs3.keep (k37 76 (by decide))) q14 ⟨q13, (upd_ne (by decide)).trans ((upd_ne (by decide)).trans (upd_eq _ _ _)), (upd_ne (by decide)).trans (upd_eq _ _ _), upd_eq _ _ _⟩ ((upd_ne (by decide)).trans ((upd_ne (by decide)).trans ((upd_ne (by decide)).trans ((upd_ne (by decide)).trans h3))))
      cases v with
      | true =>
        refine rn_put dX12_readsPiece_75 lpX12_174 o3 rfl rfl (Nat.le_of_ble_eq_true rfl) ?_
        rw [ms14]
        refine Wp.gen (e := MO (upd w3 14 (bI true)) cv) (fun f4 k4 o4 => ?_)
        exact aft f4 k4 o4
      | false =>
        refine rn_put dX12_readsPiece_75 lpX12_174 o3 rfl rfl (Nat.le_of_ble_eq_true rfl) ?_
        rw [ms14]
        refine Wp.gen (e := MO (upd w3 14 (bI false)) cv) (fun f4 k4 o4 => ?_)
        exact aft f4 k4 o4
    have at52 : ∀ (f3 : Mm) (w3 : Nat → Int32) (s1 : Nat), (∀ j, j ≠ 75 → j ≠ 76 → f3 j = f j) → KP wi w3 → f3 75 = some (MO w3 cv) → AR f3 76 73 s → w3 13 = nI (zS T (p + 1)).2.2 → w3 14 = bI (wrg T false (zS T (p + 1))) → s1 < 65536 → w3 19 = nI s1 → ((zS T (p + 1)).1 = true → s1 = shS T (p + 1)) → Wp g MX12_readsPiece 52 [some (.ref 75)] [] f3 0 0 (fun r f' => r = none ∧ PCp f T L p D wi cv f') := fun f3 w3 s1 k3 hk3 o3 hs3 g13 g14 hs1 g19 hsh => by
      have wr1 : wrg T false (zS T (p + 1)) = true → outc T (8 - L.length) p L = .inl (zS T (p + 1)).2.2 := fun hw => by
        cases hz : (zS T (p + 1)).1 with
        | false => exact bad1 (q := True) (Or.inl hz)
        | true =>
          cases hok : okC (shS T (p + 1)) with
          | false => exact bad1 (q := True) (Or.inr hok)
          | true =>
            obtain ⟨b1, b2, b3, b4, b5, b6⟩ := wrg_bad hz hw
            have hst : (opS T ((zS T (p + 1)).2.2, 0, 0, 0)).1 = 0 := opS_stop b3 b4 b5 b6
            have epc : pcF T (p + 1) = (true, (zS T (p + 1)).2.2, (nrC (shS T (p + 1)), 0, 0, 1)) := by
              rw [pcF, if_neg (by rw [hz]; decide), if_neg (by rw [hok]; decide), otk_stop hst]
              rfl
            rw [ho, epc, if_pos rfl]
            exact outc_bad b1 b2 _
      refine rn_aload_n dX12_readsPiece_52 rfl ?_
      refine rn_aload_n dX12_readsPiece_53 rfl ?_
      refine rn_get dX12_readsPiece_54 lfX12_174 o3 rfl ?_
      rw [g14]
      refine rn_if_ne (tgt := 70) dX12_readsPiece_57 (by decide) (fun c57 => ?_) (fun c57 => ?_)
      · refine rn_iconst (v := nI 1) dX12_readsPiece_70 (by decide) ?_
        refine rn_goto (tgt := 75) dX12_readsPiece_71 (by decide) ?_
        exact at75 f3 w3 true k3 hk3 o3 hs3 g13 (fun _ => wr1 (bI_n0.mp c57)) (fun h => by cases h)
      · refine rn_aload_n dX12_readsPiece_60 rfl ?_
        refine rn_get dX12_readsPiece_61 lfX12_168 o3 rfl ?_
        rw [g19]
        refine rn_callS dX12_readsPiece_64 lmX12_132 ⟨Nat.le_of_ble_eq_true rfl, Nat.le_of_ble_eq_true rfl⟩ (cmb_isShape g f3 (nI s1)) rfl rfl (Nat.le_of_ble_eq_true rfl) ?_
        rintro _ _ ⟨rfl, rfl⟩
        rw [okSh_nI hs1]
        refine rn_if_ne (tgt := 74) dX12_readsPiece_67 (by decide) (fun c67 => ?_) (fun c67 => ?_)
        · refine rn_iconst (v := nI 0) dX12_readsPiece_74 (by decide) ?_
          have hw := bI_0.mp c57
          have hz : (zS T (p + 1)).1 = true := by
            rw [wrg, Bool.or_eq_false_iff] at hw
            cases h : (zS T (p + 1)).1 with
            | true => rfl
            | false => rw [h] at hw; exact absurd hw.1 (by decide)
          have hok := bI_n0.mp c67
          rw [hsh hz] at hok g19
          exact at75 f3 w3 false k3 hk3 o3 hs3 g13 (fun h => by cases h) (fun _ => ⟨hok, hz, g19⟩)
        · refine rn_iconst (v := nI 1) dX12_readsPiece_70 (by decide) ?_
          refine rn_goto (tgt := 75) dX12_readsPiece_71 (by decide) ?_
          have hw := bI_0.mp c57
          have hz : (zS T (p + 1)).1 = true := by
            rw [wrg, Bool.or_eq_false_iff] at hw
            cases h : (zS T (p + 1)).1 with
            | true => rfl
            | false => rw [h] at hw; exact absurd hw.1 (by decide)
          have hok := bI_0.mp c67
          rw [hsh hz] at hok
          exact at75 f3 w3 true k3 hk3 o3 hs3 g13 (fun _ => bad1 (q := True) (Or.inr hok)) (fun h => by cases h)
    refine rn_iconst (v := nI 0) dX12_readsPiece_25 (by decide) ?_
    refine rn_put dX12_readsPiece_26 lpX12_174 hM rfl rfl (Nat.le_of_ble_eq_true rfl) ?_
    rw [ms14]
    refine Wp.gen (e := MO (upd wi 14 (nI 0)) cv) (fun f1 k1 o1 => ?_)
    refine rn_aload_n dX12_readsPiece_29 rfl ?_
    refine rn_get dX12_readsPiece_30 lfX12_174 o1 rfl ?_
    rw [upd_eq]
    refine rn_if_eq (tgt := 37) dX12_readsPiece_33 (by decide) (fun c33 => ?_) (fun c33 => ?_)
    · refine rn_aload_n dX12_readsPiece_37 rfl ?_
      refine rn_dup dX12_readsPiece_38 rfl ?_
      refine rn_get dX12_readsPiece_39 lfX12_159 o1 rfl ?_
      refine rn_iconst (v := nI 1) dX12_readsPiece_42 (by decide) ?_
      refine rn_iadd dX12_readsPiece_43 ?_
      rw [upd_ne (by decide), h13, nI_add]
      refine rn_put dX12_readsPiece_44 lpX12_159 o1 rfl rfl (Nat.le_of_ble_eq_true rfl) ?_
      rw [ms13]
      refine Wp.gen (e := MO (upd (upd wi 14 (nI 0)) 13 (nI (p + 1))) cv) (fun f2 k2 o2 => ?_)
      refine rn_aload_n dX12_readsPiece_47 rfl ?_
      refine rn_iconst (v := nI 0) dX12_readsPiece_48 (by decide) ?_
      refine rn_callV dX12_readsPiece_49 lmX12_197 ⟨Nat.le_of_ble_eq_true rfl, Nat.le_of_ble_eq_true rfl⟩ (cm_readsRowsS g f2 (p0 := p + 1) o2 (hT.keep ((k2 78 (by decide)).trans (k1 78 (by decide)))) ((upd_ne (by decide)).trans ((upd_ne (by decide)).trans h4)) (upd_eq _ _ _) ((upd_ne (by decide)).trans (upd_eq _ _ _)) hp1) o2 rfl rfl (Nat.le_of_ble_eq_true rfl) ?_
      rintro _ f3 ⟨rfl, k3, w3, hkr, o3, g13, g14, g16, g17, s1, hs1, g19, hsh⟩
      exact at52 f3 w3 s1 (fun j a b => (k3 j a).trans ((k2 j a).trans (k1 j a))) (((KP.up (fun _ _ => rfl) (by decide)).up (by decide)).r hkr) o3 (hs.keep ((k3 76 (by decide)).trans ((k2 76 (by decide)).trans (k1 76 (by decide))))) g13 g14 hs1 g19 (fun hz => shB_uniq (hsh hz) (shk_B _ _ _ _))
    · exact absurd (show nI 0 = 0 from rfl) c33
  refine rn_aload_n dX12_readsPiece_0 rfl ?_
  refine rn_aload_n dX12_readsPiece_1 rfl ?_
  refine rn_callV dX12_readsPiece_2 lmX12_178 ⟨Nat.le_of_ble_eq_true rfl, Nat.le_of_ble_eq_true rfl⟩ (cm_here g f hM hT h13 h4 (by omega)) hM rfl rfl (Nat.le_of_ble_eq_true rfl) ?_
  rintro _ _ ⟨rfl, rfl⟩
  refine rn_bipush (v := nI 124) dX12_readsPiece_5 (by decide) ?_
  refine rn_icmp_ne (tgt := 21) dX12_readsPiece_7 (by decide) (fun c7 => ?_) (fun c7 => ?_)
  · exact bad (Or.inl c7)
  · refine rn_aload_n dX12_readsPiece_10 rfl ?_
    refine rn_get dX12_readsPiece_11 lfX12_7 hM rfl ?_
    refine rn_iconst (v := nI 4) dX12_readsPiece_14 (by decide) ?_
    refine rn_iald dX12_readsPiece_15 hsb (vp_in_nI (show 4 < 73 by omega) (by decide)) ?_
    rw [nI_clamp (by decide), es4]
    refine rn_bipush (v := nI 8) dX12_readsPiece_16 (by decide) ?_
    refine rn_icmp_ne (tgt := 25) dX12_readsPiece_18 (by decide) (fun c18 => ?_) (fun c18 => ?_)
    · exact good c7 (by
        have : ¬ L.length = 8 := fun h => c18 (by rw [h])
        omega)
    · exact bad (Or.inr ((nI_eq (b := 8) (by omega) (by decide)).mp c18))
