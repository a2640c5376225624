theorem MSc.ld {f f' : Mm} (h : MSc f) (e : ∀ j, 79 ≤ j → j ≤ 92 → j ≠ 85 → j ≠ 86 → f' j = f j) (hB : ∃ B, AR f' 85 73 B) (hG : ∃ G, AR f' 86 36 G) : MSc f' := by
  obtain ⟨⟨F, h1⟩, ⟨l, h2⟩, h3, ⟨L, h4⟩, ⟨st, h5⟩, -, -⟩ := h
  exact ⟨⟨F, h1.keep (e 79 (by omega) (by omega) (by omega) (by omega))⟩, ⟨l, h2.keep (fun k a b => e k (by omega) (by omega) (by omega) (by omega))⟩, h3.keep (fun k a b => e k (by omega) (by omega) (by omega) (by omega)), ⟨L, h4.keep (e 91 (by omega) (by omega) (by omega) (by omega))⟩, ⟨st, h5.keep (e 92 (by omega) (by omega) (by omega) (by omega))⟩, hB, hG⟩
abbrev wT (T : List Nat) : Nat := rl T true 6 0
abbrev zT (T : List Nat) : Bool × Nat × Nat := rwS T true 6 0
def dmP (T : List Nat) (L : List Q4) (md ru : Nat) : PS := (wT T, (zT T).2.1, md, ru, L.length, fun i => cvl (chI T (i / wT T * (wT T + 1) + i % wT T)), fun i => nI (L.getD i (0, 0, 0, 0)).1, fun i => nI (L.getD i (0, 0, 0, 0)).2.1, fun i => nI (L.getD i (0, 0, 0, 0)).2.2.1, fun i => nI (L.getD i (0, 0, 0, 0)).2.2.2)
theorem SP.ext {s : Nat → Int32} {P P' : PS} (h : SP s P) (e1 : pW P' = pW P) (e2 : pH P' = pH P) (e3 : pMd P' = pMd P) (e4 : pRu P' = pRu P) (e5 : pN P' = pN P) (e6 : ∀ i, i < pW P * pH P → pC P' i = pC P i) (e7 : ∀ i, i < pN P → pS P' i = pS P i ∧ pF P' i = pF P i ∧ pK P' i = pK P i ∧ pX P' i = pX P i) : SP s P' := by
  obtain ⟨h1, h2, h3, h4, h5, h6, h7⟩ := h
  refine ⟨by rw [e1]; exact h1, by rw [e2]; exact h2, by rw [e3]; exact h3, by rw [e4]; exact h4, by rw [e5]; exact h5, fun i hi => ?_, fun i hi => ?_⟩
  · rw [e1, e2] at hi; rw [e6 i hi]; exact h6 i hi
  · rw [e5] at hi
    obtain ⟨a, b, c, d⟩ := e7 i hi
    rw [a, b, c, d]; exact h7 i hi
theorem getD_at {L : List Q4} {i : Nat} {e : Q4} (h : L[i]? = some e) : L.getD i (0, 0, 0, 0) = e := by rw [List.getD_eq_getElem?_getD, h]; rfl
theorem dm_add {s : Nat → Int32} {T : List Nat} {L : List Q4} {md ru : Nat} {e : Q4} (h : SP s (pAdd (dmP T L md ru) (nI e.1) (nI e.2.1) (nI e.2.2.1) (nI e.2.2.2))) : SP s (dmP T (L ++ [e]) md ru) := by
  refine h.ext rfl rfl rfl rfl (by show (L ++ [e]).length = L.length + 1; rw [List.length_append, List.length_singleton]) (fun _ _ => rfl) (fun i hi => ?_)
  have hi2 : i < L.length + 1 := hi
  show nI ((L ++ [e]).getD i (0, 0, 0, 0)).1 = upd (fun i => nI (L.getD i (0, 0, 0, 0)).1) L.length (nI e.1) i ∧ nI ((L ++ [e]).getD i (0, 0, 0, 0)).2.1 = upd (fun i => nI (L.getD i (0, 0, 0, 0)).2.1) L.length (nI e.2.1) i ∧ nI ((L ++ [e]).getD i (0, 0, 0, 0)).2.2.1 = upd (fun i => nI (L.getD i (0, 0, 0, 0)).2.2.1) L.length (nI e.2.2.1) i ∧ nI ((L ++ [e]).getD i (0, 0, 0, 0)).2.2.2 = upd (fun i => nI (L.getD i (0, 0, 0, 0)).2.2.2) L.length (nI e.2.2.2) i
  by_cases hie : i = L.length
  · rw [hie, getD_at (e := e) (by rw [List.getElem?_append_right (Nat.le_refl _), Nat.sub_self]; rfl), upd_eq, upd_eq, upd_eq, upd_eq]
    exact ⟨rfl, rfl, rfl, rfl⟩
  · have hl : (L ++ [e]).getD i (0, 0, 0, 0) = L.getD i (0, 0, 0, 0) := by rw [List.getD_eq_getElem?_getD, List.getD_eq_getElem?_getD, List.getElem?_append_left (by omega)]
    rw [hl, upd_ne hie, upd_ne hie, upd_ne hie, upd_ne hie]
    exact ⟨rfl, rfl, rfl, rfl⟩
theorem dm_DR {s : Nat → Int32} {T : List Nat} {L : List Q4} {P P' : PS} (hw : 0 < wT T) (h : SP s (dmP T L (pMd P) (pRu P))) (hD : DRq T L P') (hm : pMd P' = pMd P) (hr : pRu P' = pRu P) : SP s P' := by
  obtain ⟨h1, h2, h3, h4, h5⟩ := hD
  refine h.ext h1 h2 hm hr h3 (fun i hi => ?_) (fun i hi => ?_)
  · have hi2 : i < wT T * (zT T).2.1 := hi
    have ha : i / wT T < (zT T).2.1 := Nat.div_lt_of_lt_mul hi2
    have hb : i % wT T < wT T := Nat.mod_lt _ hw
    have := h4 _ _ ha hb
    rw [show i / wT T * wT T + i % wT T = i by rw [Nat.mul_comm]; exact Nat.div_add_mod i (wT T)] at this
    exact this
  · have hi2 : i < L.length := hi
    have hg : L[i]? = some L[i] := List.getElem?_eq_getElem hi2
    have := h5 i _ hg
    show pS P' i = nI (L.getD i (0, 0, 0, 0)).1 ∧ pF P' i = nI (L.getD i (0, 0, 0, 0)).2.1 ∧ pK P' i = nI (L.getD i (0, 0, 0, 0)).2.2.1 ∧ pX P' i = nI (L.getD i (0, 0, 0, 0)).2.2.2
    rw [getD_at hg]
    exact this
def LDm (P : PS) (H : List PS) (T : List Nat) (r : Option Value) (f' : Mm) : Prop := match outL T with
  | .inl e => MI f' P H T ∧ r = some (.int ((-10) - nI e))
  | .inr L => r = some (.int (nI L.length)) ∧ ∀ P', DRq T L P' → pMd P' = pMd P → pRu P' = pRu P → MI f' P' (psh H P) []
theorem LDm_l {P : PS} {H : List PS} {T : List Nat} {r : Option Value} {f' : Mm} {e : Nat} (h : outL T = .inl e) (h1 : MI f' P H T) (h2 : r = some (.int ((-10) - nI e))) : LDm P H T r f' := by
  unfold LDm; rw [h]; exact ⟨h1, h2⟩
theorem LDm_r {P : PS} {H : List PS} {T : List Nat} {r : Option Value} {f' : Mm} {L : List Q4} (h : outL T = .inr L) (h1 : r = some (.int (nI L.length))) (h2 : ∀ P', DRq T L P' → pMd P' = pMd P → pRu P' = pRu P → MI f' P' (psh H P) []) : LDm P H T r f' := by
  unfold LDm; rw [h]; exact ⟨h1, h2⟩
theorem cm_exchanges (g : GG) (f : Mm) {wi x y : Nat → Int32} {cv : Int64} (hM : f 75 = some (MO wi cv)) (hx : AR f 76 73 x) (hy : AR f 85 73 y) : Ct g MX12_exchanges [.ref 75] f 0 0 (fun r f' => r = none ∧ (∀ j, j ≠ 76 → j ≠ 85 → f' j = f j) ∧ AR f' 76 73 y ∧ AR f' 85 73 x) := by
  refine Ct.of ok_MX12_exchanges (Nat.le_of_ble_eq_true rfl) ?_
  change Wp g MX12_exchanges 0 [some (.ref 75), none, none] [] f 0 0 _
  have loop : ∀ (d k : Nat) (f1 : Mm) (u v : Nat → Int32) (w2 : Option Value), 73 - k = d → k ≤ 73 → (∀ j, j ≠ 76 → j ≠ 85 → f1 j = f j) → AR f1 76 73 u → AR f1 85 73 v → (∀ i, i < 73 → u i = if i < k then y i else x i) → (∀ i, i < 73 → v i = if i < k then x i else y i) → Wp g MX12_exchanges 2 [some (.ref 75), some (.int (nI k)), w2] [] f1 0 0 (fun r f' => r = none ∧ (∀ j, j ≠ 76 → j ≠ 85 → f' j = f j) ∧ AR f' 76 73 y ∧ AR f' 85 73 x) := by
    intro d
    induction d using Nat.strongRecOn with
    | ind d ih =>
      intro k f1 u v w2 hd hk k1 hu hv eu ev
      have o1 := (k1 75 (by decide) (by decide)).trans hM
      obtain ⟨ub, hub, hube⟩ := id hu
      obtain ⟨vb, hvb, hvbe⟩ := id hv
      by_cases hlt : k < 73
      · have euk : ub k = x k := by rw [hube k hlt, eu k hlt, if_neg (by omega)]
        have evk : vb k = y k := by rw [hvbe k hlt, ev k hlt, if_neg (by omega)]
        refine rn_iload_n dX12_exchanges_2 rfl ?_
        refine rn_bipush (v := nI 73) dX12_exchanges_3 (by decide) ?_
        refine rn_icmp_ge (tgt := 40) dX12_exchanges_5 (by decide) (fun c5 => ?_) (fun c5 => ?_)
        · exact absurd (ge_ex c5 (by omega) (by decide)) (by omega)
        · refine rn_aload_n dX12_exchanges_8 rfl ?_
          refine rn_get dX12_exchanges_9 lfX12_7 o1 rfl ?_
          refine rn_iload_n dX12_exchanges_12 rfl ?_
          refine rn_iald dX12_exchanges_13 hub (vp_in_nI hlt (by decide)) ?_
          rw [nI_clamp (by omega), euk]
          refine rn_istore_n dX12_exchanges_14 (Nat.le_of_ble_eq_true rfl) rfl ?_
          refine rn_aload_n dX12_exchanges_15 rfl ?_
          refine rn_get dX12_exchanges_16 lfX12_7 o1 rfl ?_
          refine rn_iload_n dX12_exchanges_19 rfl ?_
          refine rn_aload_n dX12_exchanges_20 rfl ?_
          refine rn_get dX12_exchanges_21 lfX12_39 o1 rfl ?_
          refine rn_iload_n dX12_exchanges_24 rfl ?_
          refine rn_iald dX12_exchanges_25 hvb (vp_in_nI hlt (by decide)) ?_
          rw [nI_clamp (by omega), evk]
          refine rn_iast dX12_exchanges_26 hub (vp_in_nI hlt (by decide)) ?_
          refine Wp.gen (e := .inl (0, 73, .inl (upd ub (nI k).toNatClampNeg (y k)))) (fun f2 k2 o2 => ?_)
          refine rn_aload_n dX12_exchanges_27 rfl ?_
          refine rn_get dX12_exchanges_28 lfX12_39 ((k2 75 (by decide)).trans o1) rfl ?_
          refine rn_iload_n dX12_exchanges_31 rfl ?_
          refine rn_iload_n dX12_exchanges_32 rfl ?_
          refine rn_iast dX12_exchanges_33 ((k2 85 (by decide)).trans hvb) (vp_in_nI hlt (by decide)) ?_
          refine Wp.gen (e := .inl (0, 73, .inl (upd vb (nI k).toNatClampNeg (x k)))) (fun f3 k3 o3 => ?_)
          refine rn_iinc (v := nI (k + 1)) dX12_exchanges_34 rfl (nI_1 k) (Nat.le_of_ble_eq_true rfl) rfl ?_
          refine rn_goto (tgt := 2) dX12_exchanges_37 (by decide) ?_
          refine ih _ (by omega) (k + 1) f3 (upd u k (y k)) (upd v k (x k)) _ rfl (by omega) (fun j a b => (k3 j b).trans ((k2 j a).trans (k1 j a b))) (AR.keep (f := f2) ⟨_, o2, fun i hi => ?_⟩ (k3 76 (by decide))) ⟨_, o3, fun i hi => ?_⟩ (fun i hi => ?_) (fun i hi => ?_)
          · rw [nI_clamp (by omega)]
            by_cases e : i = k
            · rw [e, upd_eq, upd_eq]
            · rw [upd_ne e, upd_ne e]; exact hube i hi
          · rw [nI_clamp (by omega)]
            by_cases e : i = k
            · rw [e, upd_eq, upd_eq]
            · rw [upd_ne e, upd_ne e]; exact hvbe i hi
          · by_cases e : i = k
            · rw [e, upd_eq, if_pos (by omega)]
            · rw [upd_ne e, eu i hi]
              by_cases e2 : i < k
              · rw [if_pos e2, if_pos (by omega)]
              · rw [if_neg e2, if_neg (by omega)]
          · by_cases e : i = k
            · rw [e, upd_eq, if_pos (by omega)]
            · rw [upd_ne e, ev i hi]
              by_cases e2 : i < k
              · rw [if_pos e2, if_pos (by omega)]
              · rw [if_neg e2, if_neg (by omega)]
      · have hke : k = 73 := by omega
        subst hke
        refine rn_iload_n dX12_exchanges_2 rfl ?_
        refine rn_bipush (v := nI 73) dX12_exchanges_3 (by decide) ?_
        refine rn_icmp_ge (tgt := 40) dX12_exchanges_5 (by decide) (fun c5 => ?_) (fun c5 => ?_)
        · refine rn_vret dX12_exchanges_40 rfl ?_
          exact ⟨rfl, k1, hu.to (fun i hi => by rw [eu i hi, if_pos hi]), hv.to (fun i hi => by rw [ev i hi, if_pos hi])⟩
        · exact absurd (ge_in c5 (by decide)) (by decide)
  refine rn_iconst (v := nI 0) dX12_exchanges_0 (by decide) ?_
  refine rn_istore_n dX12_exchanges_1 (Nat.le_of_ble_eq_true rfl) rfl ?_
  exact loop 73 0 f x y none rfl (by decide) (fun _ _ _ => rfl) hx hy (fun i hi => by rw [if_neg (by omega)]) (fun i hi => by rw [if_neg (by omega)])
theorem outc_end {T : List Nat} {p : Nat} {L : List Q4} (h : T.length ≤ p) : ∀ n, outc T n p L = .inr L
  | 0 => by rw [outc, if_pos (chI_end h)]
  | n + 1 => by rw [outc, if_neg (by rw [chI_end h]; decide), if_pos (chI_end h)]
theorem cm_load (g : GG) (f : Mm) {P : PS} {H : List PS} {T : List Nat} (hI : MI f P H T) (hV : VD P) : Ct g MX12_load [.ref 75] f 0 0 (fun r f' => (∀ j, j < 75 → f' j = f j) ∧ LDm P H T r f') := by
  refine Ct.of ok_MX12_load (Nat.le_of_ble_eq_true rfl) ?_
  change Wp g MX12_load 0 [some (.ref 75), none, none] [] f 0 0 _
  obtain ⟨wi, cv, s, pr, ⟨hM, hs, hP, hm⟩, hp, h2, hl, hPS, hT, h4⟩ := hI
  obtain ⟨-, -, -, -, -, ⟨B0, hB0⟩, G0, hG0⟩ := id hm
  have hl160 : T.length ≤ 160 := by
    obtain ⟨_, _, h, _⟩ := hT
    exact h
  have hW6 : wT T ≤ 6 := rl_le T true 6 0
  have hR : 1 ≤ (zT T).2.1 ∧ (zT T).2.1 ≤ 6 := rwS_r (T := T) (b := true) (most := 6) (p := 0) (by decide)
  -- the ends
  have endW : ∀ (f1 : Mm) (w s1 : Nat → Int32) (e : Nat), (∀ j, j ≠ 75 → j ≠ 76 → j ≠ 85 → j ≠ 86 → f1 j = f j) → KP wi w → f1 75 = some (MO w cv) → AR f1 76 73 s1 → AR f1 85 73 s → (∃ G, AR f1 86 36 G) → w 14 = 1 → w 13 = nI e → outL T = .inl e → ∀ w1 w2, Wp g MX12_load 181 [some (.ref 75), w1, w2] [] f1 0 0 (fun r f' => (∀ j, j < 75 → f' j = f j) ∧ LDm P H T r f') := fun f1 w s1 e k1 hk o1 hs1 hb1 hg1 e14 e13 hout w1 w2 => by
    refine rn_aload_n dX12_load_181 rfl ?_
    refine rn_callV dX12_load_182 lmX12_207 ⟨Nat.le_of_ble_eq_true rfl, Nat.le_of_ble_eq_true rfl⟩ (cm_exchanges g f1 o1 hs1 hb1) o1 rfl rfl (Nat.le_of_ble_eq_true rfl) ?_
    rintro _ f2 ⟨rfl, k2, hs2, hb2⟩
    refine rn_aload_n dX12_load_185 rfl ?_
    refine rn_get dX12_load_186 lfX12_174 ((k2 75 (by decide) (by decide)).trans o1) rfl ?_
    rw [e14]
    refine rn_if_eq (tgt := 200) dX12_load_189 (by decide) (fun c189 => ?_) (fun c189 => ?_)
    · exact absurd c189 (by decide)
    · refine rn_bipush (v := (-10)) dX12_load_192 (by decide) ?_
      refine rn_aload_n dX12_load_194 rfl ?_
      refine rn_get dX12_load_195 lfX12_159 ((k2 75 (by decide) (by decide)).trans o1) rfl ?_
      rw [e13]
      refine rn_isub dX12_load_198 ?_
      refine rn_iret dX12_load_199 rfl ?_
      obtain ⟨G1, hG1⟩ := hg1
      exact ⟨fun j hj => (k2 j (by omega) (by omega)).trans (k1 j (by omega) (by omega) (by omega) (by omega)), LDm_l hout ⟨w, cv, s, pr, ⟨(k2 75 (by decide) (by decide)).trans o1, hs2, hP, hm.ld (fun j a b c d => (k2 j (by omega) (by omega)).trans (k1 j (by omega) (by omega) c d)) ⟨s1, hb2⟩ ⟨G1, hG1.keep (k2 86 (by decide) (by decide))⟩⟩, hp.keep ((k2 77 (by decide) (by decide)).trans (k1 77 (by decide) (by decide) (by decide) (by decide))), (hk 2 (by omega)).trans h2, hl, hPS, hT.keep ((k2 78 (by decide) (by decide)).trans (k1 78 (by decide) (by decide) (by decide) (by decide))), (hk 4 (by omega)).trans h4⟩ rfl⟩
  have endS : ∀ (f1 : Mm) (w s1 : Nat → Int32) (L : List Q4), (∀ j, j ≠ 75 → j ≠ 76 → j ≠ 85 → j ≠ 86 → f1 j = f j) → KP wi w → f1 75 = some (MO w cv) → AR f1 76 73 s1 → AR f1 85 73 s → (∃ G, AR f1 86 36 G) → w 14 = 0 → outL T = .inr L → SP s1 (dmP T L (pMd P) (pRu P)) → 0 < wT T → ∀ w1 w2, Wp g MX12_load 181 [some (.ref 75), w1, w2] [] f1 0 0 (fun r f' => (∀ j, j < 75 → f' j = f j) ∧ LDm P H T r f') := fun f1 w s1 L k1 hk o1 hs1 hb1 hg1 e14 hout hSP hw0 w1 w2 => by
    obtain ⟨G1, hG1⟩ := hg1
    refine rn_aload_n dX12_load_181 rfl ?_
    refine rn_callV dX12_load_182 lmX12_207 ⟨Nat.le_of_ble_eq_true rfl, Nat.le_of_ble_eq_true rfl⟩ (cm_exchanges g f1 o1 hs1 hb1) o1 rfl rfl (Nat.le_of_ble_eq_true rfl) ?_
    rintro _ f2 ⟨rfl, k2, hs2, hb2⟩
    have o2 := (k2 75 (by decide) (by decide)).trans o1
    refine rn_aload_n dX12_load_185 rfl ?_
    refine rn_get dX12_load_186 lfX12_174 o2 rfl ?_
    rw [e14]
    refine rn_if_eq (tgt := 200) dX12_load_189 (by decide) (fun c189 => ?_) (fun c189 => ?_)
    · refine rn_aload_n dX12_load_200 rfl ?_
      refine rn_callV dX12_load_201 lmX12_123 ⟨Nat.le_of_ble_eq_true rfl, Nat.le_of_ble_eq_true rfl⟩ (cm_note g f2 (P := P) (H := H) o2 hs2 (hp.keep ((k2 77 (by decide) (by decide)).trans (k1 77 (by decide) (by decide) (by decide) (by decide)))) ((hk 2 (by omega)).trans h2) hl hPS hP hV) o2 rfl rfl (Nat.le_of_ble_eq_true rfl) ?_
      rintro _ f3 ⟨rfl, k3, o3, pr', hp', hPS'⟩
      refine rn_aload_n dX12_load_204 rfl ?_
      refine rn_callV dX12_load_205 lmX12_207 ⟨Nat.le_of_ble_eq_true rfl, Nat.le_of_ble_eq_true rfl⟩ (cm_exchanges g f3 o3 (hs2.keep (k3 76 (by decide) (by decide))) (hb2.keep (k3 85 (by decide) (by decide)))) o3 rfl rfl (Nat.le_of_ble_eq_true rfl) ?_
      rintro _ f4 ⟨rfl, k4, hs4, hb4⟩
      have o4 := (k4 75 (by decide) (by decide)).trans o3
      refine rn_aload_n dX12_load_208 rfl ?_
      refine rn_iconst (v := nI 0) dX12_load_209 (by decide) ?_
      refine rn_put dX12_load_210 lpX12_156 o4 rfl rfl (Nat.le_of_ble_eq_true rfl) ?_
      rw [ms4]
      refine Wp.gen (e := MO (upd (upd w 2 (nI (psh H P).length)) 4 (nI 0)) cv) (fun f5 k5 o5 => ?_)
      obtain ⟨sb, hsb, hsbe⟩ := id hs4
      have es4 : sb 4 = nI L.length := (hsbe 4 (by omega)).trans hSP.2.2.2.2.1
      have kk : ∀ j, j ≠ 75 → j ≠ 76 → j ≠ 77 → j ≠ 85 → j ≠ 86 → f5 j = f j := fun j a b c d e => (k5 j a).trans ((k4 j b d).trans ((k3 j a c).trans ((k2 j b d).trans (k1 j a b d e))))
      refine rn_aload_n dX12_load_213 rfl ?_
      refine rn_get dX12_load_214 lfX12_7 o5 rfl ?_
      refine rn_iconst (v := nI 4) dX12_load_217 (by decide) ?_
      refine rn_iald dX12_load_218 ((k5 76 (by decide)).trans hsb) (vp_in_nI (show 4 < 73 by omega) (by decide)) ?_
      rw [nI_clamp (by decide), es4]
      refine rn_iret dX12_load_219 rfl ?_
      obtain ⟨tb, htb, htb1, htb2⟩ := id hT
      refine ⟨fun j hj => kk j (by omega) (by omega) (by omega) (by omega) (by omega), LDm_r hout rfl (fun P' hD hmd hru => ⟨_, cv, s1, pr', ⟨o5, hs4.keep (k5 76 (by decide)), dm_DR hw0 hSP hD hmd hru, hm.ld (fun j a b c d => kk j (by omega) (by omega) (by omega) c d) ⟨s, (hb4.keep (k5 85 (by decide)))⟩ ⟨G1, hG1.keep ((k5 86 (by decide)).trans ((k4 86 (by decide) (by decide)).trans ((k3 86 (by decide) (by decide)).trans (k2 86 (by decide) (by decide)))))⟩⟩, hp'.keep ((k5 77 (by decide)).trans (k4 77 (by decide) (by decide))), (upd_ne (by decide)).trans (upd_eq _ _ _), psh_le hl, hPS', ⟨tb, (kk 78 (by decide) (by decide) (by decide) (by decide) (by decide)).trans htb, Nat.zero_le _, fun i c h => by cases h⟩, upd_eq _ _ _⟩)⟩
    · exact absurd (show (0 : Int32) = 0 from rfl) c189
  -- the pieces
  have loop2 : ∀ (d p : Nat) (L : List Q4) (f1 : Mm) (w s1 : Nat → Int32) (w1 w2 : Option Value), T.length + 1 - p = d → p ≤ T.length → L.length ≤ 8 → 0 < wT T → outL T = outc T (8 - L.length) p L → (∀ j, j ≠ 75 → j ≠ 76 → j ≠ 85 → j ≠ 86 → f1 j = f j) → KP wi w → f1 75 = some (MO w cv) → AR f1 76 73 s1 → AR f1 85 73 s → (∃ G, AR f1 86 36 G) → w 14 = 0 → w 13 = nI p → SP s1 (dmP T L (pMd P) (pRu P)) → Wp g MX12_load 156 [some (.ref 75), w1, w2] [] f1 0 0 (fun r f' => (∀ j, j < 75 → f' j = f j) ∧ LDm P H T r f') := by
    intro d
    induction d using Nat.strongRecOn with
    | ind d ih =>
      intro p L f1 w s1 w1 w2 hd hpl hL8 hw0 hout k1 hk o1 hs1 hb1 hg1 e14 e13 hSP
      have q4 : w 4 = nI T.length := (hk 4 (by omega)).trans h4
      have hT1 : TXm f1 T := hT.keep (k1 78 (by decide) (by decide) (by decide) (by decide))
      have hVD : VD (dmP T L (pMd P) (pRu P)) := ⟨hw0, hW6, hR.1, hR.2, hL8⟩
      have h175 : p < T.length → Wp g MX12_load 175 [some (.ref 75), w1, w2] [.ref 75] f1 0 0 (fun r f' => (∀ j, j < 75 → f' j = f j) ∧ LDm P H T r f') := fun hlt => by
        refine rn_callV dX12_load_175 lmX12_204 ⟨Nat.le_of_ble_eq_true rfl, Nat.le_of_ble_eq_true rfl⟩ (cm_readsPiece g f1 (L := L) o1 hs1 hSP hVD rfl hT1 q4 e13 e14 hlt) o1 rfl rfl (Nat.le_of_ble_eq_true rfl) ?_
        rintro _ f2 ⟨rfl, k2, w', s2, hk2, o2, hs2, hor⟩
        refine rn_goto (tgt := 156) dX12_load_178 (by decide) ?_
        have k12 : ∀ j, j ≠ 75 → j ≠ 76 → j ≠ 85 → j ≠ 86 → f2 j = f j := fun j a b c d => (k2 j a b).trans (k1 j a b c d)
        have hkk : KP wi w' := fun i hi => (hk2 i hi).trans (hk i hi)
        have hb2 := hb1.keep (k2 85 (by decide) (by decide))
        have hg2 : ∃ G, AR f2 86 36 G := by
          obtain ⟨G1, hG1⟩ := hg1
          exact ⟨G1, hG1.keep (k2 86 (by decide) (by decide))⟩
        rcases hor with ⟨g14, e, he, g13, ho⟩ | ⟨g14, p', e, hp', hpp, g13, hL, ho, hSP2⟩
        · have ee := endW f2 w' s2 e k12 hkk o2 hs2 hb2 hg2 g14 g13 (hout.trans ho) w1 w2
          refine rn_aload_n dX12_load_156 rfl ?_
          refine rn_get dX12_load_157 lfX12_174 o2 rfl ?_
          rw [g14]
          refine rn_if_ne (tgt := 181) dX12_load_160 (by decide) (fun c160 => ?_) (fun c160 => ?_)
          · exact ee
          · exact absurd c160 (by decide)
        · exact ih _ (by omega) p' (L ++ [e]) f2 w' s2 w1 w2 rfl hp' (by rw [List.length_append, List.length_singleton]; omega) hw0 (by rw [List.length_append, List.length_singleton]; exact hout.trans ho) k12 hkk o2 hs2 hb2 hg2 g14 g13 (dm_add hSP2)
      refine rn_aload_n dX12_load_156 rfl ?_
      refine rn_get dX12_load_157 lfX12_174 o1 rfl ?_
      rw [e14]
      refine rn_if_ne (tgt := 181) dX12_load_160 (by decide) (fun c160 => ?_) (fun c160 => ?_)
      · exact absurd (show (0 : Int32) = 0 from rfl) c160
      · refine rn_aload_n dX12_load_163 rfl ?_
        refine rn_get dX12_load_164 lfX12_159 o1 rfl ?_
        refine rn_aload_n dX12_load_167 rfl ?_
        refine rn_get dX12_load_168 lfX12_156 o1 rfl ?_
        rw [e13, q4]
        refine rn_icmp_ge (tgt := 181) dX12_load_171 (by decide) (fun c171 => ?_) (fun c171 => ?_)
        · exact endS f1 w s1 L k1 hk o1 hs1 hb1 hg1 e14 (hout.trans (outc_end (ge_ex c171 (by omega) (by omega)) _)) hSP hw0 w1 w2
        · refine rn_aload_n dX12_load_174 rfl ?_
          exact h175 (ge_in c171 (by omega))
  -- the cells
  have loop1 : ∀ (d c : Nat) (f1 : Mm) (w s1 G : Nat → Int32) (w2 : Option Value), 36 - c = d → c ≤ 36 → (∀ j, j ≠ 75 → j ≠ 76 → j ≠ 85 → j ≠ 86 → f1 j = f j) → KP wi w → f1 75 = some (MO w cv) → AR f1 76 73 s1 → AR f1 85 73 s → AR f1 86 36 G → w 13 = nI (zT T).2.2 → w 14 = bI (wrg T true (zT T)) → w 16 = nI (wT T) → w 17 = nI (zT T).2.1 → ((zT T).1 = true → ∀ i j, i < (zT T).2.1 → j < wT T → G (6 * i + j) = cvl (chI T (0 + i * (wT T + 1) + j))) → s1 0 = nI (wT T) → s1 1 = nI (zT T).2.1 → s1 2 = s 2 → s1 3 = s 3 → s1 4 = nI 0 → ((zT T).1 = true → 0 < wT T → ∀ i, i < c → i < wT T * (zT T).2.1 → s1 (5 + i) = cvl (chI T (i / wT T * (wT T + 1) + i % wT T))) → Wp g MX12_load 70 [some (.ref 75), some (.int (nI c)), w2] [] f1 0 0 (fun r f' => (∀ j, j < 75 → f' j = f j) ∧ LDm P H T r f') := by
    intro d
    induction d using Nat.strongRecOn with
    | ind d ih =>
      intro c f1 w s1 G w2 hd hc k1 hk o1 hs1 hb1 hg1 g13 g14 g16 g17 hG t0 t1 t2 t3 t4 t5
      obtain ⟨sb, hsb, hsbe⟩ := id hs1
      obtain ⟨gb, hgb, hgbe⟩ := id hg1
      by_cases hlt : c < 36
      · have sto : ∀ (v : Int32) (w2 : Option Value), ((zT T).1 = true → 0 < wT T → c < wT T * (zT T).2.1 → v = cvl (chI T (c / wT T * (wT T + 1) + c % wT T))) → Wp g MX12_load 149 [some (.ref 75), some (.int (nI c)), w2] [.int v, .int (nI (5 + c)), .ref 76] f1 0 0 (fun r f' => (∀ j, j < 75 → f' j = f j) ∧ LDm P H T r f') := fun v w2 hv => by
          refine rn_iast dX12_load_149 hsb (vp_in_nI (show 5 + c < 73 by omega) (by decide)) ?_
          refine Wp.gen (e := .inl (0, 73, .inl (upd sb (nI (5 + c)).toNatClampNeg v))) (fun f2 k2 o2 => ?_)
          refine rn_iinc (v := nI (c + 1)) dX12_load_150 rfl (nI_1 c) (Nat.le_of_ble_eq_true rfl) rfl ?_
          refine rn_goto (tgt := 70) dX12_load_153 (by decide) ?_
          refine ih _ (by omega) (c + 1) f2 w (upd s1 (5 + c) v) G _ rfl (by omega) (fun j a b c d => (k2 j b).trans (k1 j a b c d)) hk ((k2 75 (by decide)).trans o1) ⟨_, o2, fun i hi => ?_⟩ (hb1.keep (k2 85 (by decide))) (hg1.keep (k2 86 (by decide))) g13 g14 g16 g17 hG ((upd_ne (by omega)).trans t0) ((upd_ne (by omega)).trans t1) ((upd_ne (by omega)).trans t2) ((upd_ne (by omega)).trans t3) ((upd_ne (by omega)).trans t4) (fun hz hw i hi hi2 => ?_)
          · rw [nI_clamp (by omega)]
            by_cases e : i = 5 + c
            · rw [e, upd_eq, upd_eq]
            · rw [upd_ne e, upd_ne e]; exact hsbe i hi
          · by_cases e : i = c
            · rw [e, upd_eq]; rw [e] at hi2; exact hv hz hw hi2
            · rw [upd_ne (by omega)]; exact t5 hz hw i (by omega) hi2
        have no : (wT T = 0 ∨ (zT T).2.1 ≤ c / wT T) → ∀ w2, Wp g MX12_load 112 [some (.ref 75), some (.int (nI c)), w2] [.int (nI 0)] f1 0 0 (fun r f' => (∀ j, j < 75 → f' j = f j) ∧ LDm P H T r f') := fun h w2 => by
          refine rn_istore_n dX12_load_112 (Nat.le_of_ble_eq_true rfl) rfl ?_
          refine rn_aload_n dX12_load_113 rfl ?_
          refine rn_get dX12_load_114 lfX12_7 o1 rfl ?_
          refine rn_iconst (v := nI 5) dX12_load_117 (by decide) ?_
          refine rn_iload_n dX12_load_118 rfl ?_
          refine rn_iadd dX12_load_119 ?_
          rw [nI_add]
          refine rn_iload_n dX12_load_120 rfl ?_
          refine rn_if_eq (tgt := 148) dX12_load_121 (by decide) (fun c121 => ?_) (fun c121 => ?_)
          · refine rn_iconst (v := nI 0) dX12_load_148 (by decide) ?_
            refine sto _ _ (fun hz hw hi => ?_)
            exfalso
            have h1 : c / wT T < (zT T).2.1 := Nat.div_lt_of_lt_mul hi
            rcases h with h | h
            · omega
            · exact Nat.lt_irrefl _ (Nat.lt_of_lt_of_le h1 h)
          · exact absurd (show nI 0 = 0 from rfl) c121
        by_cases hw0 : wT T = 0
        · refine rn_iload_n dX12_load_70 rfl ?_
          refine rn_bipush (v := nI 36) dX12_load_71 (by decide) ?_
          refine rn_icmp_ge (tgt := 156) dX12_load_73 (by decide) (fun c73 => ?_) (fun c73 => ?_)
          · exact absurd (ge_ex c73 (by omega) (by decide)) (by omega)
          · refine rn_aload_n dX12_load_76 rfl ?_
            refine rn_get dX12_load_77 lfX12_171 o1 rfl ?_
            rw [g16, hw0]
            refine rn_if_le (tgt := 111) dX12_load_80 (by decide) (fun c80 => ?_) (fun c80 => ?_)
            · refine rn_iconst (v := nI 0) dX12_load_111 (by decide) ?_
              exact no (Or.inl hw0) _
            · exact absurd (show nI 0 ≤ 0 from by decide) c80
        · have hdiv : c / wT T ≤ c := Nat.div_le_self _ _
          have hmod : c % wT T < wT T := Nat.mod_lt _ (by omega)
          have yes : c / wT T < (zT T).2.1 → ∀ w2, Wp g MX12_load 112 [some (.ref 75), some (.int (nI c)), w2] [.int (nI 1)] f1 0 0 (fun r f' => (∀ j, j < 75 → f' j = f j) ∧ LDm P H T r f') := fun hlt2 w2 => by
            generalize hdq : c / wT T = dq at *
            generalize hmq : c % wT T = mq at *
            refine rn_istore_n dX12_load_112 (Nat.le_of_ble_eq_true rfl) rfl ?_
            refine rn_aload_n dX12_load_113 rfl ?_
            refine rn_get dX12_load_114 lfX12_7 o1 rfl ?_
            refine rn_iconst (v := nI 5) dX12_load_117 (by decide) ?_
            refine rn_iload_n dX12_load_118 rfl ?_
            refine rn_iadd dX12_load_119 ?_
            rw [nI_add]
            refine rn_iload_n dX12_load_120 rfl ?_
            refine rn_if_eq (tgt := 148) dX12_load_121 (by decide) (fun c121 => ?_) (fun c121 => ?_)
            · exact absurd c121 (by decide)
            · refine rn_aload_n dX12_load_124 rfl ?_
              refine rn_get dX12_load_125 lfX12_42 o1 rfl ?_
              refine rn_bipush (v := nI 6) dX12_load_128 (by decide) ?_
              refine rn_iload_n dX12_load_130 rfl ?_
              refine rn_aload_n dX12_load_131 rfl ?_
              refine rn_get dX12_load_132 lfX12_171 o1 rfl ?_
              rw [g16]
              refine rn_idiv dX12_load_135 (nI_ne0 (by omega) (by omega)) ?_
              rw [pk_div (by omega) (by omega) (by omega), hdq]
              refine rn_imul dX12_load_136 ?_
              rw [pk_mul]
              refine rn_iload_n dX12_load_137 rfl ?_
              refine rn_aload_n dX12_load_138 rfl ?_
              refine rn_get dX12_load_139 lfX12_171 o1 rfl ?_
              rw [g16]
              refine rn_irem dX12_load_142 (nI_ne0 (by omega) (by omega)) ?_
              rw [pk_rem (by omega) (by omega) (by omega), hmq]
              refine rn_iadd dX12_load_143 ?_
              rw [nI_add]
              refine rn_iald dX12_load_144 hgb (vp_in_nI (show 6 * dq + mq < 36 by omega) (by decide)) ?_
              rw [nI_clamp (by omega), hgbe _ (by omega)]
              refine rn_goto (tgt := 149) dX12_load_145 (by decide) ?_
              refine sto _ _ (fun hz hw hi => ?_)
              rw [hG hz dq mq hlt2 hmod, Nat.zero_add]
          refine rn_iload_n dX12_load_70 rfl ?_
          refine rn_bipush (v := nI 36) dX12_load_71 (by decide) ?_
          refine rn_icmp_ge (tgt := 156) dX12_load_73 (by decide) (fun c73 => ?_) (fun c73 => ?_)
          · exact absurd (ge_ex c73 (by omega) (by decide)) (by omega)
          · refine rn_aload_n dX12_load_76 rfl ?_
            refine rn_get dX12_load_77 lfX12_171 o1 rfl ?_
            rw [g16]
            refine rn_if_le (tgt := 111) dX12_load_80 (by decide) (fun c80 => ?_) (fun c80 => ?_)
            · refine rn_iconst (v := nI 0) dX12_load_111 (by decide) ?_
              exact absurd c80 (nI_nle (by omega) (by omega))
            · refine rn_iload_n dX12_load_83 rfl ?_
              refine rn_aload_n dX12_load_84 rfl ?_
              refine rn_get dX12_load_85 lfX12_171 o1 rfl ?_
              rw [g16]
              refine rn_if_le (tgt := 98) dX12_load_88 (by decide) (fun c88 => ?_) (fun c88 => ?_)
              · exact absurd c88 (nI_nle (by omega) (by omega))
              · refine rn_aload_n dX12_load_91 rfl ?_
                refine rn_get dX12_load_92 lfX12_171 o1 rfl ?_
                refine rn_goto (tgt := 99) dX12_load_95 (by decide) ?_
                rw [g16]
                refine rn_idiv dX12_load_99 (nI_ne0 (by omega) (by omega)) ?_
                rw [pk_div (by omega) (by omega) (by omega)]
                refine rn_aload_n dX12_load_100 rfl ?_
                refine rn_get dX12_load_101 lfX12_162 o1 rfl ?_
                rw [g17]
                refine rn_icmp_ge (tgt := 111) dX12_load_104 (by decide) (fun c104 => ?_) (fun c104 => ?_)
                · refine rn_iconst (v := nI 0) dX12_load_111 (by decide) ?_
                  exact no (Or.inr (ge_ex c104 (Nat.lt_of_le_of_lt hdiv (by omega)) (by omega))) _
                · refine rn_iconst (v := nI 1) dX12_load_107 (by decide) ?_
                  refine rn_goto (tgt := 112) dX12_load_108 (by decide) ?_
                  exact yes (ge_in c104 (Nat.lt_of_le_of_lt hdiv (by omega))) _
      · have hce : c = 36 := by omega
        subst hce
        have at156 : ∀ w2, Wp g MX12_load 156 [some (.ref 75), some (.int (nI 36)), w2] [] f1 0 0 (fun r f' => (∀ j, j < 75 → f' j = f j) ∧ LDm P H T r f') := fun w2 => by
          cases hw : wrg T true (zT T) with
          | true =>
            rw [hw] at g14
            have hout : outL T = .inl (zT T).2.2 := by
              cases hz : (zT T).1 with
              | false => rw [outL, if_neg (by rw [hz]; decide)]
              | true =>
                obtain ⟨b1, b2, -⟩ := wrg_bad hz hw
                rw [outL, if_pos hz]
                exact outc_bad b1 b2 _
            have ee := endW f1 w s1 _ k1 hk o1 hs1 hb1 ⟨G, hg1⟩ g14 g13 hout (some (.int (nI 36))) w2
            refine rn_aload_n dX12_load_156 rfl ?_
            refine rn_get dX12_load_157 lfX12_174 o1 rfl ?_
            rw [g14]
            refine rn_if_ne (tgt := 181) dX12_load_160 (by decide) (fun c160 => ?_) (fun c160 => ?_)
            · exact ee
            · exact absurd c160 (by decide)
          | false =>
            rw [hw] at g14
            have hz : (zT T).1 = true := by
              rw [wrg, Bool.or_eq_false_iff] at hw
              cases h : (zT T).1 with
              | true => rfl
              | false => rw [h] at hw; exact absurd hw.1 (by decide)
            obtain ⟨hzl, hw0⟩ := rwS_le hz
            have hwh : wT T * (zT T).2.1 ≤ 36 := Nat.mul_le_mul hW6 hR.2
            refine loop2 _ (zT T).2.2 [] f1 w s1 _ _ rfl hzl (by decide) hw0 (by rw [outL, if_pos hz]; rfl) k1 hk o1 hs1 hb1 ⟨G, hg1⟩ g14 g13 ⟨t0, t1, t2.trans hP.2.2.1, t3.trans hP.2.2.2.1, t4, fun i hi => ?_, fun i hi => absurd hi (Nat.not_lt_zero _)⟩
            have hi2 : i < wT T * (zT T).2.1 := hi
            exact t5 hz hw0 i (by omega) hi2
        refine rn_iload_n dX12_load_70 rfl ?_
        refine rn_bipush (v := nI 36) dX12_load_71 (by decide) ?_
        refine rn_icmp_ge (tgt := 156) dX12_load_73 (by decide) (fun c73 => ?_) (fun c73 => ?_)
        · exact at156 _
        · exact absurd (ge_in c73 (by decide)) (by decide)
  have loop0 : ∀ (d k : Nat) (f1 : Mm) (u : Nat → Int32), 73 - k = d → k ≤ 73 → (∀ j, j ≠ 85 → f1 j = f j) → AR f1 85 73 u → (∀ i, i < k → u i = s i) → Wp g MX12_load 2 [some (.ref 75), some (.int (nI k)), none] [] f1 0 0 (fun r f' => (∀ j, j < 75 → f' j = f j) ∧ LDm P H T r f') := by
    intro d
    induction d using Nat.strongRecOn with
    | ind d ih =>
      intro k f1 u hd hk k1 hu eu
      have o1 := (k1 75 (by decide)).trans hM
      obtain ⟨sb, hsb, hsbe⟩ := id (hs.keep (k1 76 (by decide)))
      obtain ⟨ub, hub, hube⟩ := id hu
      by_cases hlt : k < 73
      · refine rn_iload_n dX12_load_2 rfl ?_
        refine rn_bipush (v := nI 73) dX12_load_3 (by decide) ?_
        refine rn_icmp_ge (tgt := 26) dX12_load_5 (by decide) (fun c5 => ?_) (fun c5 => ?_)
        · exact absurd (ge_ex c5 (by omega) (by decide)) (by omega)
        · refine rn_aload_n dX12_load_8 rfl ?_
          refine rn_get dX12_load_9 lfX12_39 o1 rfl ?_
          refine rn_iload_n dX12_load_12 rfl ?_
          refine rn_aload_n dX12_load_13 rfl ?_
          refine rn_get dX12_load_14 lfX12_7 o1 rfl ?_
          refine rn_iload_n dX12_load_17 rfl ?_
          refine rn_iald dX12_load_18 hsb (vp_in_nI hlt (by decide)) ?_
          rw [nI_clamp (by omega), hsbe k hlt]
          refine rn_iast dX12_load_19 hub (vp_in_nI hlt (by decide)) ?_
          refine Wp.gen (e := .inl (0, 73, .inl (upd ub (nI k).toNatClampNeg (s k)))) (fun f2 k2 o2 => ?_)
          refine rn_iinc (v := nI (k + 1)) dX12_load_20 rfl (nI_1 k) (Nat.le_of_ble_eq_true rfl) rfl ?_
          refine rn_goto (tgt := 2) dX12_load_23 (by decide) ?_
          refine ih _ (by omega) (k + 1) f2 (upd u k (s k)) rfl (by omega) (fun j a => (k2 j a).trans (k1 j a)) ⟨_, o2, fun i hi => ?_⟩ (fun i hi => ?_)
          · rw [nI_clamp (by omega)]
            by_cases e : i = k
            · rw [e, upd_eq, upd_eq]
            · rw [upd_ne e, upd_ne e]; exact hube i hi
          · by_cases e : i = k
            · rw [e, upd_eq]
            · rw [upd_ne e]; exact eu i (by omega)
      · have hke : k = 73 := by omega
        subst hke
        have hb1 : AR f1 85 73 s := hu.to eu
        refine rn_iload_n dX12_load_2 rfl ?_
        refine rn_bipush (v := nI 73) dX12_load_3 (by decide) ?_
        refine rn_icmp_ge (tgt := 26) dX12_load_5 (by decide) (fun c5 => ?_) (fun c5 => ?_)
        · refine rn_aload_n dX12_load_26 rfl ?_
          refine rn_iconst (v := nI 0) dX12_load_27 (by decide) ?_
          refine rn_put dX12_load_28 lpX12_159 o1 rfl rfl (Nat.le_of_ble_eq_true rfl) ?_
          rw [ms13]
          refine Wp.gen (e := MO (upd wi 13 (nI 0)) cv) (fun f2 k2 o2 => ?_)
          refine rn_aload_n dX12_load_31 rfl ?_
          refine rn_iconst (v := nI 0) dX12_load_32 (by decide) ?_
          refine rn_put dX12_load_33 lpX12_174 o2 rfl rfl (Nat.le_of_ble_eq_true rfl) ?_
          rw [ms14]
          refine Wp.gen (e := MO (upd (upd wi 13 (nI 0)) 14 (nI 0)) cv) (fun f3 k3 o3 => ?_)
          have k13 : ∀ j, j ≠ 75 → f3 j = f1 j := fun j h => (k3 j h).trans (k2 j h)
          refine rn_aload_n dX12_load_36 rfl ?_
          refine rn_iconst (v := nI 1) dX12_load_37 (by decide) ?_
          refine rn_callV dX12_load_38 lmX12_197 ⟨Nat.le_of_ble_eq_true rfl, Nat.le_of_ble_eq_true rfl⟩ (cm_readsRowsB g f3 (p0 := 0) o3 (hT.keep ((k13 78 (by decide)).trans (k1 78 (by decide)))) ((upd_ne (by decide)).trans ((upd_ne (by decide)).trans h4)) ((upd_ne (by decide)).trans (upd_eq _ _ _)) (upd_eq _ _ _) (hG0.keep ((k13 86 (by decide)).trans (k1 86 (by decide)))) (by decide)) o3 rfl rfl (Nat.le_of_ble_eq_true rfl) ?_
          rintro _ f4 ⟨rfl, k4, w, hkr, o4, g13, g14, g16, g17, G, hG, hcG⟩
          have k14 : ∀ j, j ≠ 75 → j ≠ 86 → f4 j = f1 j := fun j a b => (k4 j a b).trans (k13 j a)
          have hs4 := hsb
          replace hs4 := (k14 76 (by decide) (by decide)).trans hsb
          refine rn_aload_n dX12_load_41 rfl ?_
          refine rn_get dX12_load_42 lfX12_7 o4 rfl ?_
          refine rn_iconst (v := nI 4) dX12_load_45 (by decide) ?_
          refine rn_iconst (v := nI 0) dX12_load_46 (by decide) ?_
          refine rn_iast dX12_load_47 hs4 (vp_in_nI (show 4 < 73 by omega) (by decide)) ?_
          refine Wp.gen (e := .inl (0, 73, .inl (upd sb (nI 4).toNatClampNeg (nI 0)))) (fun f5 k5 o5 => ?_)
          refine rn_aload_n dX12_load_48 rfl ?_
          refine rn_get dX12_load_49 lfX12_7 ((k5 75 (by decide)).trans o4) rfl ?_
          refine rn_iconst (v := nI 0) dX12_load_52 (by decide) ?_
          refine rn_aload_n dX12_load_53 rfl ?_
          refine rn_get dX12_load_54 lfX12_171 ((k5 75 (by decide)).trans o4) rfl ?_
          rw [g16]
          refine rn_iast dX12_load_57 o5 (vp_in_nI (show 0 < 73 by omega) (by decide)) ?_
          refine Wp.gen (e := .inl (0, 73, .inl (upd (upd sb (nI 4).toNatClampNeg (nI 0)) (nI 0).toNatClampNeg (nI (rl T true 6 0))))) (fun f6 k6 o6 => ?_)
          refine rn_aload_n dX12_load_58 rfl ?_
          refine rn_get dX12_load_59 lfX12_7 ((k6 75 (by decide)).trans ((k5 75 (by decide)).trans o4)) rfl ?_
          refine rn_iconst (v := nI 1) dX12_load_62 (by decide) ?_
          refine rn_aload_n dX12_load_63 rfl ?_
          refine rn_get dX12_load_64 lfX12_162 ((k6 75 (by decide)).trans ((k5 75 (by decide)).trans o4)) rfl ?_
          rw [g17]
          refine rn_iast dX12_load_67 o6 (vp_in_nI (show 1 < 73 by omega) (by decide)) ?_
          refine Wp.gen (e := .inl (0, 73, .inl (upd (upd (upd sb (nI 4).toNatClampNeg (nI 0)) (nI 0).toNatClampNeg (nI (rl T true 6 0))) (nI 1).toNatClampNeg (nI (rwS T true 6 0).2.1)))) (fun f7 k7 o7 => ?_)
          have k57 : ∀ j, j ≠ 76 → f7 j = f4 j := fun j h => (k7 j h).trans ((k6 j h).trans (k5 j h))
          refine rn_iconst (v := nI 0) dX12_load_68 (by decide) ?_
          refine rn_istore_n dX12_load_69 (Nat.le_of_ble_eq_true rfl) rfl ?_
          refine loop1 36 0 f7 w (upd (upd (upd sb 4 (nI 0)) 0 (nI (rl T true 6 0))) 1 (nI (rwS T true 6 0).2.1)) G none rfl (by decide) (fun j a b c d => (k57 j b).trans ((k14 j a d).trans (k1 j c))) (((KP.up (fun _ _ => rfl) (by decide)).up (by decide)).r hkr) ((k57 75 (by decide)).trans o4) ⟨_, o7, fun i hi => ?_⟩ (hb1.keep ((k57 85 (by decide)).trans (k14 85 (by decide) (by decide)))) (hG.keep (k57 86 (by decide))) g13 g14 g16 g17 hcG ?_ ?_ ?_ ?_ ?_ (fun hz hw i hi => by omega)
          · rw [nI_clamp (by decide), nI_clamp (by decide), nI_clamp (by decide)]
          · rw [upd_ne (by decide), upd_eq]
          · rw [upd_eq]
          · rw [upd_ne (by decide), upd_ne (by decide), upd_ne (by decide)]; exact hsbe 2 (by omega)
          · rw [upd_ne (by decide), upd_ne (by decide), upd_ne (by decide)]; exact hsbe 3 (by omega)
          · rw [upd_ne (by decide), upd_ne (by decide), upd_eq]
        · exact absurd (ge_in c5 (by decide)) (by decide)
  refine rn_iconst (v := nI 0) dX12_load_0 (by decide) ?_
  refine rn_istore_n dX12_load_1 (Nat.le_of_ble_eq_true rfl) rfl ?_
  exact loop0 73 0 f B0 rfl (by decide) (fun _ _ => rfl) hB0 (fun i hi => by omega)
