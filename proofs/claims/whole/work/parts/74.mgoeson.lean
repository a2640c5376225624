def MKar (f : Mm) : Prop := (∃ U, AR f 87 37 U) ∧ (∃ V, AR f 88 37 V) ∧ (∃ T, AL f 89 4 T) ∧ ∃ Y, AR f 90 8 Y
theorem MKar.keep {f f' : Mm} (h : MKar f) (e : ∀ k, 87 ≤ k → k ≤ 90 → f' k = f k) : MKar f' := by
  obtain ⟨⟨C, h1⟩, ⟨X, h2⟩, ⟨Y, h3⟩, T, h4⟩ := h
  exact ⟨⟨C, h1.keep (e 87 (by omega) (by omega))⟩, ⟨X, h2.keep (e 88 (by omega) (by omega))⟩, ⟨Y, h3.keep (e 89 (by omega) (by omega))⟩, T, h4.keep (e 90 (by omega) (by omega))⟩
theorem MKr.ar {f : Mm} {q : SQ} {x : SX} (h : MKr f q x) : MKar f := by
  obtain ⟨⟨U, h1, -⟩, ⟨V, h2, -⟩, h3, Y, h4, -⟩ := h
  exact ⟨⟨U, h1⟩, ⟨V, h2⟩, ⟨_, h3⟩, Y, h4⟩
def KW (wi wi' : Nat → Int32) : Prop := ∀ i, (i < 26 ∨ i = 35) → wi' i = wi i
theorem KW.up {wi w1 : Nat → Int32} {k : Nat} {v : Int32} (h : KW wi w1) (h1 : 26 ≤ k) (h2 : k < 35) : KW wi (upd w1 k v) := fun i hi => (upd_ne (by omega)).trans (h i hi)
def FRm (f f' : Mm) : Prop := ∀ j, j ≠ 75 → (j < 87 ∨ 90 < j) → f' j = f j
def GOp (f : Mm) (q : SQ) (z : Nat × SX) (n : Nat) (wi : Nat → Int32) (r : Option Value) (f' : Mm) : Prop := FRm f f' ∧ ((z.1 = 0 ∧ r = some (.int 1) ∧ ∃ w, KW wi w ∧ MK f' q z.2 w ∧ w 31 = nI (n + 1) ∧ w 32 = 0 ∧ w 33 = 0 ∧ w 34 = 0) ∨ (¬ z.1 = 0 ∧ r = some (.int 0) ∧ ∃ w cv, KW wi w ∧ f' 75 = some (MO w cv) ∧ w 31 = nI n ∧ w 32 = bI (decide (z.1 = 2)) ∧ w 30 = nI z.2.2.2 ∧ MKar f'))
theorem go_done (g : GG) (f : Mm) {q : SQ} {z : Nat × SX} {n : Nat} {wi w : Nat → Int32} {cv : Int64} {f1 : Mm} {w1 w3 w4 : Option Value} (hz : ¬ z.1 = 0) (hk : FRm f f1) (hw : KW wi w) (hM : f1 75 = some (MO w cv)) (h31 : w 31 = nI n) (h32 : w 32 = bI (decide (z.1 = 2))) (h33 : w 33 = nI 1) (h30 : w 30 = nI z.2.2.2) (har : MKar f1) : Wp g MX12_goesOn 21 [some (.ref 75), w1, none, w3, w4] [] f1 0 0 (fun r f' => GOp f q z n wi r f') := by
  refine rn_aload_n dX12_goesOn_21 rfl ?_
  refine rn_get dX12_goesOn_22 lfX12_230 hM rfl ?_
  rw [h33]
  refine rn_if_ne (tgt := 213) dX12_goesOn_25 (by decide) (fun c25 => ?_) (fun c25 => ?_)
  · refine rn_iconst (v := nI 0) dX12_goesOn_213 (by decide) ?_
    refine rn_zret dX12_goesOn_214 rfl rfl ?_
    exact ⟨hk, Or.inr ⟨hz, rfl, w, cv, hw, hM, h31, h32, h30, har⟩⟩
  · exact absurd c25 (by decide)
theorem go_loop (g : GG) (f : Mm) {q : SQ} {cn : Nat} {wi : Nat → Int32} (hC : CXm f q wi) (hQ : QV q) : ∀ (n : Nat) (x : SX) (f1 : Mm) (w : Nat → Int32) (w3 w4 : Option Value), pot x = n → IV q x → x.2.1 ≤ q.2.1.length → MK f1 q x w → w 31 = nI cn → w 32 = 0 → w 33 = 0 → w 34 = 0 → KW wi w → FRm f f1 → Wp g MX12_goesOn 21 [some (.ref 75), some (.long (lN (opP q.1))), none, w3, w4] [] f1 0 0 (fun r f' => GOp f q (RnS q x) cn wi r f') := by
  intro n
  induction n using Nat.strongRecOn with
  | ind n ih =>
    intro x f1 w w3 w4 hn hi hfr hK h31 h32 h33 h34 hw hk
    have hC1 : CXm f1 q w := hC.keep (fun k a b => hk k (by omega) (by omega)) (hw 12 (by omega))
    obtain ⟨hM, h26, h30, ⟨U, hU, hUe⟩, ⟨V, hV, hVe⟩, hT, Y, hY, hYe⟩ := id hK
    have hL := hC1.2.1
    have hcv := cv_lt hQ hi.2
    have hop := hQ.op
    have hl := hQ.2.1.2.1
    have after : stS q x = bkS x → ∀ (f2 : Mm) (u3 u4 : Option Value), (∀ j, j ≠ 75 → j ≠ 88 → j ≠ 89 → j ≠ 90 → f2 j = f1 j) → ((x.1 = [] ∧ MK f2 q x (upd w 33 (nI 1))) ∨ ∃ k t, x.1 = k :: t ∧ MK f2 q (t, k + 1, x.2.2) (upd w 26 (nI t.length))) → Wp g MX12_goesOn 21 [some (.ref 75), some (.long (lN (opP q.1))), none, u3, u4] [] f2 0 0 (fun r f' => GOp f q (RnS q x) cn wi r f') := fun hs f2 u3 u4 k2 h => by
      have hk2 : FRm f f2 := fun j a b => (k2 j a (by omega) (by omega) (by omega)).trans (hk j a b)
      rcases h with ⟨e, h1⟩ | ⟨k, t, e, h1⟩
      · rw [RnS_nil hs e]
        exact go_done g f (show ¬ (1 : Nat) = 0 by decide) hk2 (hw.up (by decide) (by decide)) h1.1 ((upd_ne (by decide)).trans h31) ((upd_ne (by decide)).trans h32) (upd_eq _ _ _) h1.2.2.1 h1.2.2.2.ar
      · rw [RnS_cons hs hi.1 e]
        have hi2 := hi.2
        rw [e] at hi2
        have hp : pot (t, k + 1, x.2.2) + 1 = pot x := by
          unfold pot
          rw [e]
          show 2 * (20000 - x.2.2) + t.length + 1 = 2 * (20000 - x.2.2) + (t.length + 1)
          omega
        exact ih (pot (t, k + 1, x.2.2)) (by omega) (t, k + 1, x.2.2) f2 _ u3 u4 rfl ⟨hi.1, hi2.1⟩ hi2.2.1 h1 ((upd_ne (by decide)).trans h31) ((upd_ne (by decide)).trans h32) ((upd_ne (by decide)).trans h33) ((upd_ne (by decide)).trans h34) (hw.up (by decide) (by decide)) hk2
    by_cases hf : cvS q.2.1 x.1 = opP q.1
    · have e34 : lg_cmp (lN (cvS q.2.1 x.1)) (lN (opP q.1)) = 0 := (lg_cmp_eq _ _).mpr (by rw [hf])
      refine rn_aload_n dX12_goesOn_21 rfl ?_
      refine rn_get dX12_goesOn_22 lfX12_230 hM rfl ?_
      rw [h33]
      refine rn_if_ne (tgt := 213) dX12_goesOn_25 (by decide) (fun c25 => ?_) (fun c25 => ?_)
      · exact absurd (show (0 : Int32) = 0 from rfl) c25
      · refine rn_aload_n dX12_goesOn_28 rfl ?_
        refine rn_get dX12_goesOn_29 lfX12_210 hM rfl ?_
        refine rn_lload_n dX12_goesOn_32 rfl ?_
        refine rn_lcmp dX12_goesOn_33 ?_
        refine rn_if_ne (tgt := 63) dX12_goesOn_34 (by decide) (fun c34 => ?_) (fun c34 => ?_)
        · exact absurd e34 c34
        · refine rn_aload_n dX12_goesOn_37 rfl ?_
          refine rn_callV dX12_goesOn_38 lmX12_247 ⟨Nat.le_of_ble_eq_true rfl, Nat.le_of_ble_eq_true rfl⟩ (cm_isCover g f1 hK hC1 hQ hi.2) hM rfl rfl (Nat.le_of_ble_eq_true rfl) ?_
          rintro _ _ ⟨rfl, rfl⟩
          refine rn_if_eq (tgt := 56) dX12_goesOn_41 (by decide) (fun c41 => ?_) (fun c41 => ?_)
          · refine rn_aload_n dX12_goesOn_56 rfl ?_
            refine rn_callV dX12_goesOn_57 lmX12_244 ⟨Nat.le_of_ble_eq_true rfl, Nat.le_of_ble_eq_true rfl⟩ (cm_goesBack g f1 hK hC1 hQ hi.2) hM rfl rfl (Nat.le_of_ble_eq_true rfl) ?_
            rintro _ f2 ⟨rfl, k2, h2⟩
            refine rn_goto (tgt := 21) dX12_goesOn_60 (by decide) ?_
            exact after (stS_fb hf (bI_0.mp c41)) f2 _ _ k2 h2
          · refine rn_aload_n dX12_goesOn_44 rfl ?_
            refine rn_dup dX12_goesOn_45 rfl ?_
            refine rn_get dX12_goesOn_46 lfX12_224 hM rfl ?_
            refine rn_iconst (v := nI 1) dX12_goesOn_49 (by decide) ?_
            refine rn_iadd dX12_goesOn_50 ?_
            rw [h31, nI_add]
            refine rn_put dX12_goesOn_51 lpX12_224 hM rfl rfl (Nat.le_of_ble_eq_true rfl) ?_
            rw [ms31]
            refine Wp.gen (e := MO (upd w 31 (nI (cn + 1))) (lN (cvS q.2.1 x.1))) (fun f2 k2 o2 => ?_)
            refine rn_iconst (v := nI 1) dX12_goesOn_54 (by decide) ?_
            refine rn_zret dX12_goesOn_55 rfl rfl ?_
            rw [RnS_l (stS_cov hf (bI_n0.mp c41))]
            exact ⟨fun j a b => (k2 j a).trans (hk j a b), Or.inl ⟨rfl, rfl, _, hw.up (by decide) (by decide), ⟨o2, (upd_ne (by decide)).trans h26, (upd_ne (by decide)).trans h30, hK.2.2.2.keep (fun k a b => k2 k (by omega))⟩, upd_eq _ _ _, (upd_ne (by decide)).trans h32, (upd_ne (by decide)).trans h33, (upd_ne (by decide)).trans h34⟩⟩
    · have e34 : ¬ lg_cmp (lN (cvS q.2.1 x.1)) (lN (opP q.1)) = 0 := fun h => hf ((lb_eq (by omega) (by omega)).mp ((lg_cmp_eq _ _).mp h))
      have hwp := wrm_pos hf
      have hwl := wrm_lt hQ hi.2
      have hlv := lvl_lt hQ hi.2 hf
      have hlo := wlo_lt hQ hi.2 hf
      obtain ⟨u, hu, hue⟩ := id hU
      obtain ⟨v, hv, hve⟩ := id hV
      have hv0 : v x.1.length = nI x.2.1 := (hve _ (by omega)).trans hVe
      obtain ⟨-, -, -, -, b5, g5, q5⟩ := id hL
      have h12 := hC1.2.2
      have atN : fnS q x.1 x.2.1 = none → Wp g MX12_goesOn 123 [some (.ref 75), some (.long (lN (opP q.1))), none, some (.int (nI (low (wrm q x.1)))), some (.int (nI q.2.1.length))] [] f1 0 0 (fun r f' => GOp f q (RnS q x) cn wi r f') := fun hfn => by
        refine rn_iload dX12_goesOn_123 rfl ?_
        refine rn_aload_n dX12_goesOn_125 rfl ?_
        refine rn_get dX12_goesOn_126 lfX12_106 hM rfl ?_
        rw [h12]
        refine rn_icmp_ne (tgt := 139) dX12_goesOn_129 (by decide) (fun c129 => ?_) (fun c129 => ?_)
        · exact absurd rfl c129
        · refine rn_aload_n dX12_goesOn_132 rfl ?_
          refine rn_callV dX12_goesOn_133 lmX12_244 ⟨Nat.le_of_ble_eq_true rfl, Nat.le_of_ble_eq_true rfl⟩ (cm_goesBack g f1 hK hC1 hQ hi.2) hM rfl rfl (Nat.le_of_ble_eq_true rfl) ?_
          rintro _ f2 ⟨rfl, k2, h2⟩
          refine rn_goto (tgt := 210) dX12_goesOn_136 (by decide) ?_
          refine rn_goto (tgt := 21) dX12_goesOn_210 (by decide) ?_
          exact after (stS_nb hf hfn) f2 _ _ k2 h2
      have atS : ∀ k, fnS q x.1 x.2.1 = some k → Wp g MX12_goesOn 123 [some (.ref 75), some (.long (lN (opP q.1))), none, some (.int (nI (low (wrm q x.1)))), some (.int (nI k))] [] f1 0 0 (fun r f' => GOp f q (RnS q x) cn wi r f') := fun k hfn => by
        obtain ⟨s1, s2, s3⟩ := fnS_spec hfn
        obtain ⟨y1, y2, y3, -⟩ := fkS_iff.mp s3
        have hi3 : IVs q (k :: x.1) := ⟨hi.2, s2, y2, hf, y1, y3⟩
        have htr := hi.1
        have hp := hQ.pc s2
        refine rn_iload dX12_goesOn_123 rfl ?_
        refine rn_aload_n dX12_goesOn_125 rfl ?_
        refine rn_get dX12_goesOn_126 lfX12_106 hM rfl ?_
        rw [h12]
        refine rn_icmp_ne (tgt := 139) dX12_goesOn_129 (by decide) (fun c129 => ?_) (fun c129 => ?_)
        · refine rn_aload_n dX12_goesOn_139 rfl ?_
          refine rn_get dX12_goesOn_140 lfX12_221 hM rfl ?_
          refine rn_sipush (v := nI 20000) dX12_goesOn_143 (by decide) ?_
          rw [h30]
          refine rn_icmp_ne (tgt := 162) dX12_goesOn_146 (by decide) (fun c146 => ?_) (fun c146 => ?_)
          · refine rn_aload_n dX12_goesOn_162 rfl ?_
            refine rn_dup dX12_goesOn_163 rfl ?_
            refine rn_get dX12_goesOn_164 lfX12_221 hM rfl ?_
            refine rn_iconst (v := nI 1) dX12_goesOn_167 (by decide) ?_
            refine rn_iadd dX12_goesOn_168 ?_
            rw [h30, nI_add]
            refine rn_put dX12_goesOn_169 lpX12_221 hM rfl rfl (Nat.le_of_ble_eq_true rfl) ?_
            rw [ms30]
            refine Wp.gen (e := MO (upd w 30 (nI (x.2.2 + 1))) (lN (cvS q.2.1 x.1))) (fun f2 k2 o2 => ?_)
            refine rn_aload_n dX12_goesOn_172 rfl ?_
            refine rn_get dX12_goesOn_173 lfX12_45 o2 rfl ?_
            refine rn_aload_n dX12_goesOn_176 rfl ?_
            refine rn_get dX12_goesOn_177 lfX12_218 o2 rfl ?_
            refine rn_iload dX12_goesOn_180 rfl ?_
            rw [upd_ne (by decide), h26]
            refine rn_iast dX12_goesOn_182 ((k2 87 (by decide)).trans hu) (vp_in_nI (show x.1.length < 37 by omega) (by decide)) ?_
            refine Wp.gen (e := .inl (0, 37, .inl (upd u (nI x.1.length).toNatClampNeg (nI k)))) (fun f3 k3 o3 => ?_)
            refine rn_aload_n dX12_goesOn_183 rfl ?_
            refine rn_dup dX12_goesOn_184 rfl ?_
            refine rn_get dX12_goesOn_185 lfX12_218 ((k3 75 (by decide)).trans o2) rfl ?_
            refine rn_iconst (v := nI 1) dX12_goesOn_188 (by decide) ?_
            refine rn_iadd dX12_goesOn_189 ?_
            rw [upd_ne (by decide), h26, nI_add]
            refine rn_put dX12_goesOn_190 lpX12_218 ((k3 75 (by decide)).trans o2) rfl rfl (Nat.le_of_ble_eq_true rfl) ?_
            rw [ms26]
            refine Wp.gen (e := MO (upd (upd w 30 (nI (x.2.2 + 1))) 26 (nI (x.1.length + 1))) (lN (cvS q.2.1 x.1))) (fun f4 k4 o4 => ?_)
            refine rn_aload_n dX12_goesOn_193 rfl ?_
            refine rn_get dX12_goesOn_194 lfX12_48 o4 rfl ?_
            refine rn_aload_n dX12_goesOn_197 rfl ?_
            refine rn_get dX12_goesOn_198 lfX12_218 o4 rfl ?_
            rw [upd_eq]
            refine rn_iconst (v := nI 0) dX12_goesOn_201 (by decide) ?_
            refine rn_iast dX12_goesOn_202 ((k4 88 (by decide)).trans ((k3 88 (by decide)).trans ((k2 88 (by decide)).trans hv))) (vp_in_nI (show x.1.length + 1 < 37 by omega) (by decide)) ?_
            refine Wp.gen (e := .inl (0, 37, .inl (upd v (nI (x.1.length + 1)).toNatClampNeg (nI 0)))) (fun f5 k5 o5 => ?_)
            have o6 := (k5 75 (by decide)).trans o4
            have k6 : ∀ j, j ≠ 75 → j ≠ 87 → j ≠ 88 → f5 j = f1 j := fun j a b c => (k5 j c).trans ((k4 j a).trans ((k3 j b).trans (k2 j a)))
            refine rn_aload_n dX12_goesOn_203 rfl ?_
            refine rn_iload dX12_goesOn_204 rfl ?_
            refine rn_iconst (v := nI 1) dX12_goesOn_206 (by decide) ?_
            refine rn_callV dX12_goesOn_207 lmX12_236 ⟨Nat.le_of_ble_eq_true rfl, Nat.le_of_ble_eq_true rfl⟩ (cm_turns g f5 (q := q) (k := k) (c0 := cvS q.2.1 x.1) true o6 (hC1.keep (fun j a b => k6 j (by omega) (by omega) (by omega)) ((upd_ne (by decide)).trans (upd_ne (by decide)))) hQ s2 (hT.keep (k6 89 (by decide) (by decide) (by decide))) (hY.keep (k6 90 (by decide) (by decide) (by decide))) (fun c _ => tn_lt hQ c hi.2) hcv) o6 rfl rfl (Nat.le_of_ble_eq_true rfl) ?_
            rintro _ f6 ⟨rfl, k7, o7, aT, aY⟩
            refine rn_goto (tgt := 21) dX12_goesOn_210 (by decide) ?_
            have ht : ¬ x.2.2 = 20000 := fun h => c146 (by rw [h])
            have hs := stS_on hf hfn ht
            have hpt := stS_pot hs hi.1
            rw [RnS_r hs hi.1]
            refine ih (pot (k :: x.1, 0, x.2.2 + 1)) (by omega) (k :: x.1, 0, x.2.2 + 1) f6 _ _ _ rfl (stS_IV hs hi) (Nat.zero_le _) ⟨o7, upd_eq _ _ _, (upd_ne (by decide)).trans (upd_eq _ _ _), ⟨upd U x.1.length (nI k), AR.keep (f := f3) ⟨_, o3, fun i hi2 => ?_⟩ ((k7 87 (by decide) (by decide) (by decide)).trans ((k5 87 (by decide)).trans (k4 87 (by decide)))), fun j k' h => ?_⟩, ⟨upd V (x.1.length + 1) (nI 0), AR.keep (f := f5) ⟨_, o5, fun i hi2 => ?_⟩ (k7 88 (by decide) (by decide) (by decide)), upd_eq _ _ _⟩, aT.to (fun c hc => ?_), _, aY, fun p' hp' => ?_⟩ ?_ ?_ ?_ ?_ ((hw.up (by decide) (by decide)).up (by decide) (by decide)) (fun j a b => (k7 j a (by omega) (by omega)).trans ((k6 j a (by omega) (by omega)).trans (hk j a b)))
            · rw [nI_clamp (by omega)]
              by_cases e : i = x.1.length
              · rw [e, upd_eq, upd_eq]
              · rw [upd_ne e, upd_ne e]; exact hue i hi2
            · rcases rev_push h with ⟨a, b⟩ | ⟨a, b⟩
              · rw [upd_ne (by omega)]; exact hUe j k' b
              · rw [a, b, upd_eq]
            · rw [nI_clamp (by omega)]
              by_cases e : i = x.1.length + 1
              · rw [e, upd_eq, upd_eq]
              · rw [upd_ne e, upd_ne e]; exact hve i hi2
            · show updN (fun c => tnS q.2.1 q.2.2.1 c x.1) (q.2.2.1 (qp q k)) (tnS q.2.1 q.2.2.1 (q.2.2.1 (qp q k)) x.1 ^^^ msk q.2.1 k) c = tnS q.2.1 q.2.2.1 c (k :: x.1)
              unfold updN
              rw [tn_c]
              by_cases e : q.2.2.1 (gp q.2.1 k).1 = c
              · rw [if_pos e, if_pos (show c = q.2.2.1 (qp q k) from e.symm), show q.2.2.1 (qp q k) = c from e]
              · rw [if_neg e, if_neg (fun h => e h.symm)]
            · show upd Y (qp q k) (Y (qp q k) + (if true then -1 else 1)) p' = nI (q.2.2.2 p' - usS q.2.1 p' (k :: x.1))
              rw [us_c]
              by_cases e : (gp q.2.1 k).1 = p'
              · rw [show qp q k = p' from e] at y3
                rw [if_pos e, show qp q k = p' from e, upd_eq, hYe p' hp']
                show nI (q.2.2.2 p' - usS q.2.1 p' x.1) + (-1) = _
                rw [show q.2.2.2 p' - usS q.2.1 p' x.1 = q.2.2.2 p' - (usS q.2.1 p' x.1 + 1) + 1 by omega, pk_m1]
              · rw [if_neg e, upd_ne (fun h => e h.symm)]; exact hYe p' hp'
            · exact (upd_ne (by decide)).trans ((upd_ne (by decide)).trans h31)
            · exact (upd_ne (by decide)).trans ((upd_ne (by decide)).trans h32)
            · exact (upd_ne (by decide)).trans ((upd_ne (by decide)).trans h33)
            · exact (upd_ne (by decide)).trans ((upd_ne (by decide)).trans h34)
          · refine rn_aload_n dX12_goesOn_149 rfl ?_
            refine rn_iconst (v := nI 1) dX12_goesOn_150 (by decide) ?_
            refine rn_put dX12_goesOn_151 lpX12_227 hM rfl rfl (Nat.le_of_ble_eq_true rfl) ?_
            rw [ms32]
            refine Wp.gen (e := MO (upd w 32 (nI 1)) (lN (cvS q.2.1 x.1))) (fun f2 k2 o2 => ?_)
            refine rn_aload_n dX12_goesOn_154 rfl ?_
            refine rn_iconst (v := nI 1) dX12_goesOn_155 (by decide) ?_
            refine rn_put dX12_goesOn_156 lpX12_230 o2 rfl rfl (Nat.le_of_ble_eq_true rfl) ?_
            rw [ms33]
            refine Wp.gen (e := MO (upd (upd w 32 (nI 1)) 33 (nI 1)) (lN (cvS q.2.1 x.1))) (fun f3 k3 o3 => ?_)
            refine rn_goto (tgt := 210) dX12_goesOn_159 (by decide) ?_
            refine rn_goto (tgt := 21) dX12_goesOn_210 (by decide) ?_
            have ht : x.2.2 = 20000 := (nI_eq (b := 20000) (by omega) (by decide)).mp c146
            rw [show RnS q x = (2, x) from RnS_l (stS_cut hf hfn ht)]
            exact go_done g f (show ¬ (2 : Nat) = 0 by decide) (fun j a b => (k3 j a).trans ((k2 j a).trans (hk j a b))) ((hw.up (by decide) (by decide)).up (by decide) (by decide)) o3 ((upd_ne (by decide)).trans ((upd_ne (by decide)).trans h31)) ((upd_ne (by decide)).trans (upd_eq _ _ _)) (upd_eq _ _ _) ((upd_ne (by decide)).trans ((upd_ne (by decide)).trans h30)) (hK.2.2.2.ar.keep (fun j a b => (k3 j (by omega)).trans (k2 j (by omega))))
        · exact absurd ((nI_eq (by omega) (by omega)).mp c129) (by omega)
      have loop : ∀ (d k : Nat), q.2.1.length - k = d → x.2.1 ≤ k → k ≤ q.2.1.length → (∀ i, x.2.1 ≤ i → i < k → fkS q x.1 i = false) → Wp g MX12_goesOn 88 [some (.ref 75), some (.long (lN (opP q.1))), none, some (.int (nI (low (wrm q x.1)))), some (.int (nI k))] [] f1 0 0 (fun r f' => GOp f q (RnS q x) cn wi r f') := by
        intro d
        induction d using Nat.strongRecOn with
        | ind d ih2 =>
          intro k hd hk1 hk2 hno
          by_cases hlt : k < q.2.1.length
          · have hmk := hQ.mk hlt
            have hlk : low (msk q.2.1 k) < 36 := low_lt36 hmk.1 hmk.2
            have e5 : b5 k = nI (loP q.2.1 k) := q5 k _ (gp_some hlt)
            have hlk2 : loP q.2.1 k < 36 := hlk
            have skip : fkS q x.1 k = false → Wp g MX12_goesOn 88 [some (.ref 75), some (.long (lN (opP q.1))), none, some (.int (nI (low (wrm q x.1)))), some (.int (nI (k + 1)))] [] f1 0 0 (fun r f' => GOp f q (RnS q x) cn wi r f') := fun hz => ih2 _ (by omega) (k + 1) rfl (by omega) (by omega) (fun i a b => by
              by_cases e : i = k
              · rw [e]; exact hz
              · exact hno i a (by omega))
            refine rn_iload dX12_goesOn_88 rfl ?_
            refine rn_aload_n dX12_goesOn_90 rfl ?_
            refine rn_get dX12_goesOn_91 lfX12_106 hM rfl ?_
            rw [h12]
            refine rn_icmp_ge (tgt := 123) dX12_goesOn_94 (by decide) (fun c94 => ?_) (fun c94 => ?_)
            · exact absurd (ge_ex c94 (by omega) (by omega)) (by omega)
            · refine rn_aload_n dX12_goesOn_97 rfl ?_
              refine rn_get dX12_goesOn_98 lfX12_36 hM rfl ?_
              refine rn_iload dX12_goesOn_101 rfl ?_
              refine rn_iald dX12_goesOn_103 g5 (vp_in_nI (show k < 2304 by omega) (by decide)) ?_
              rw [nI_clamp (by omega), e5]
              refine rn_iload_n dX12_goesOn_104 rfl ?_
              refine rn_icmp_ne (tgt := 117) dX12_goesOn_105 (by decide) (fun c105 => ?_) (fun c105 => ?_)
              · refine rn_iinc (v := nI (k + 1)) dX12_goesOn_117 rfl (nI_1 k) (Nat.le_of_ble_eq_true rfl) rfl ?_
                refine rn_goto (tgt := 88) dX12_goesOn_120 (by decide) ?_
                exact skip (by rw [fkS, decide_eq_false (fun h => c105 (by rw [h]))]; rfl)
              · refine rn_aload_n dX12_goesOn_108 rfl ?_
                refine rn_iload dX12_goesOn_109 rfl ?_
                refine rn_callV dX12_goesOn_111 lmX12_253 ⟨Nat.le_of_ble_eq_true rfl, Nat.le_of_ble_eq_true rfl⟩ (cm_fits g f1 hK hC1 hQ hi.2 hlt) hM rfl rfl (Nat.le_of_ble_eq_true rfl) ?_
                rintro _ _ ⟨rfl, rfl⟩
                refine rn_if_ne (tgt := 123) dX12_goesOn_114 (by decide) (fun c114 => ?_) (fun c114 => ?_)
                · have h1 := bI_n0.mp c114
                  exact atS k (fnS_some hk1 hlt (by rw [fkS, decide_eq_true ((nI_eq (by omega) (by omega)).mp c105), h1]; rfl) hno)
                · refine rn_iinc (v := nI (k + 1)) dX12_goesOn_117 rfl (nI_1 k) (Nat.le_of_ble_eq_true rfl) rfl ?_
                  refine rn_goto (tgt := 88) dX12_goesOn_120 (by decide) ?_
                  exact skip (by rw [fkS, bI_0.mp c114, Bool.and_false])
          · have hke : k = q.2.1.length := by omega
            subst hke
            refine rn_iload dX12_goesOn_88 rfl ?_
            refine rn_aload_n dX12_goesOn_90 rfl ?_
            refine rn_get dX12_goesOn_91 lfX12_106 hM rfl ?_
            rw [h12]
            refine rn_icmp_ge (tgt := 123) dX12_goesOn_94 (by decide) (fun c94 => ?_) (fun c94 => ?_)
            · exact atN (fnS_none hno)
            · exact absurd (ge_in c94 (by omega)) (by omega)
      refine rn_aload_n dX12_goesOn_21 rfl ?_
      refine rn_get dX12_goesOn_22 lfX12_230 hM rfl ?_
      rw [h33]
      refine rn_if_ne (tgt := 213) dX12_goesOn_25 (by decide) (fun c25 => ?_) (fun c25 => ?_)
      · exact absurd (show (0 : Int32) = 0 from rfl) c25
      · refine rn_aload_n dX12_goesOn_28 rfl ?_
        refine rn_get dX12_goesOn_29 lfX12_210 hM rfl ?_
        refine rn_lload_n dX12_goesOn_32 rfl ?_
        refine rn_lcmp dX12_goesOn_33 ?_
        refine rn_if_ne (tgt := 63) dX12_goesOn_34 (by decide) (fun c34 => ?_) (fun c34 => ?_)
        · refine rn_lload_n dX12_goesOn_63 rfl ?_
          refine rn_aload_n dX12_goesOn_64 rfl ?_
          refine rn_get dX12_goesOn_65 lfX12_210 hM rfl ?_
          refine rn_ldc2 dX12_goesOn_68 lcX12_251 ?_
          refine rn_lxor dX12_goesOn_71 ?_
          refine rn_land dX12_goesOn_72 ?_
          rw [rem_l hQ hi.2]
          refine rn_callS dX12_goesOn_73 lmX12_116 ⟨Nat.le_of_ble_eq_true rfl, Nat.le_of_ble_eq_true rfl⟩ (cm_lowest g f1 (n := wrm q x.1) hwp (by omega)) rfl rfl (Nat.le_of_ble_eq_true rfl) ?_
          rintro _ _ ⟨rfl, rfl⟩
          refine rn_istore_n dX12_goesOn_76 (Nat.le_of_ble_eq_true rfl) rfl ?_
          refine rn_aload_n dX12_goesOn_77 rfl ?_
          refine rn_get dX12_goesOn_78 lfX12_48 hM rfl ?_
          refine rn_aload_n dX12_goesOn_81 rfl ?_
          refine rn_get dX12_goesOn_82 lfX12_218 hM rfl ?_
          rw [h26]
          refine rn_iald dX12_goesOn_85 hv (vp_in_nI (show x.1.length < 37 by omega) (by decide)) ?_
          rw [nI_clamp (by omega), hv0]
          refine rn_istore dX12_goesOn_86 (Nat.le_of_ble_eq_true rfl) rfl ?_
          exact loop _ x.2.1 rfl (Nat.le_refl _) hfr (fun i a b => by omega)
        · exact absurd c34 e34
/-- ready for the cover n -/
def MKs (f : Mm) (q : SQ) (n : Nat) (wi : Nat → Int32) : Prop := wi 31 = nI n ∧ wi 32 = 0 ∧ wi 33 = 0 ∧ ((n = 0 ∧ wi 34 = 1 ∧ MK f q ([], 0, 0) wi) ∨ ∃ m, n = m + 1 ∧ (sqS q m).1 = 0 ∧ wi 34 = 0 ∧ MK f q (sqS q m).2 wi)
def GOs (f : Mm) (q : SQ) (n : Nat) (wi : Nat → Int32) (r : Option Value) (f' : Mm) : Prop := FRm f f' ∧ (((sqS q n).1 = 0 ∧ r = some (.int 1) ∧ ∃ w, KW wi w ∧ MKs f' q (n + 1) w) ∨ (¬ (sqS q n).1 = 0 ∧ r = some (.int 0) ∧ ∃ w cv, KW wi w ∧ f' 75 = some (MO w cv) ∧ w 31 = nI n ∧ w 32 = bI (decide ((sqS q n).1 = 2)) ∧ w 30 = nI (sqS q n).2.2.2 ∧ MKar f'))
theorem GOp.s {f f' : Mm} {q : SQ} {n : Nat} {wi : Nat → Int32} {r : Option Value} (h : GOp f q (sqS q n) n wi r f') : GOs f q n wi r f' := by
  obtain ⟨h1, ⟨h2, h3, w, h4, h5, h6, h7, h8, h9⟩ | ⟨h2, h3, w, cv, h4⟩⟩ := h
  · exact ⟨h1, Or.inl ⟨h2, h3, w, h4, h6, h7, h8, Or.inr ⟨n, rfl, h2, h9, h5⟩⟩⟩
  · exact ⟨h1, Or.inr ⟨h2, h3, w, cv, h4⟩⟩
theorem cm_goesOn (g : GG) (f : Mm) {q : SQ} {n : Nat} {wi : Nat → Int32} (hC : CXm f q wi) (hQ : QV q) (hS : MKs f q n wi) : Ct g MX12_goesOn [.ref 75] f 0 0 (fun r f' => GOs f q n wi r f') := by
  refine Ct.of ok_MX12_goesOn (Nat.le_of_ble_eq_true rfl) ?_
  change Wp g MX12_goesOn 0 [some (.ref 75), none, none, none, none] [] f 0 0 _
  refine Wp.mono (Q' := fun r f' => GOp f q (sqS q n) n wi r f') (fun r f' h => h.s) ?_
  obtain ⟨h31, h32, h33, h⟩ := hS
  obtain ⟨⟨s, hs, hP⟩, -, -⟩ := id hC
  rcases h with ⟨rfl, h34, hK⟩ | ⟨m, rfl, h0, h34, hK⟩
  · have hM := hK.1
    refine rn_aload_n dX12_goesOn_0 rfl ?_
    refine rn_callV dX12_goesOn_1 lmX12_240 ⟨Nat.le_of_ble_eq_true rfl, Nat.le_of_ble_eq_true rfl⟩ (cm_all g f hM hs hP hQ.1) hM rfl rfl (Nat.le_of_ble_eq_true rfl) ?_
    rintro _ _ ⟨rfl, rfl⟩
    refine rn_lstore_n dX12_goesOn_4 (Nat.le_of_ble_eq_true rfl) rfl ?_
    refine rn_aload_n dX12_goesOn_5 rfl ?_
    refine rn_get dX12_goesOn_6 lfX12_233 hM rfl ?_
    rw [h34]
    refine rn_if_ne (tgt := 16) dX12_goesOn_9 (by decide) (fun c9 => ?_) (fun c9 => ?_)
    · refine rn_aload_n dX12_goesOn_16 rfl ?_
      refine rn_iconst (v := nI 0) dX12_goesOn_17 (by decide) ?_
      refine rn_put dX12_goesOn_18 lpX12_233 hM rfl rfl (Nat.le_of_ble_eq_true rfl) ?_
      rw [ms34]
      refine Wp.gen (e := MO (upd wi 34 (nI 0)) (lN (cvS q.2.1 []))) (fun f2 k2 o2 => ?_)
      exact go_loop g f hC hQ _ ([], 0, 0) f2 _ _ _ rfl (IV_0 q) (Nat.zero_le _) ⟨o2, (upd_ne (by decide)).trans hK.2.1, (upd_ne (by decide)).trans hK.2.2.1, hK.2.2.2.keep (fun k a b => k2 k (by omega))⟩ ((upd_ne (by decide)).trans h31) ((upd_ne (by decide)).trans h32) ((upd_ne (by decide)).trans h33) (upd_eq _ _ _) (KW.up (fun _ _ => rfl) (by decide) (by decide)) (fun j a b => k2 j a)
    · exact absurd c9 (by decide)
  · have hM := hK.1
    have he := sqS_end q m
    have hi := he.1
    rw [sqS_s h0]
    generalize (sqS q m).2 = x at *
    have h13 : Wp g MX12_goesOn 13 [some (.ref 75), some (.long (lN (opP q.1))), none, none, none] [.ref 75] f 0 0 (fun r f' => GOp f q (nxS q x) (m + 1) wi r f') := by
      refine rn_callV dX12_goesOn_13 lmX12_244 ⟨Nat.le_of_ble_eq_true rfl, Nat.le_of_ble_eq_true rfl⟩ (cm_goesBack g f hK hC hQ hi.2) hM rfl rfl (Nat.le_of_ble_eq_true rfl) ?_
      rintro _ f2 ⟨rfl, k2, ⟨e, h1⟩ | ⟨k, t, e, h1⟩⟩
      · have hz : nxS q x = (1, x) := by rw [nxS, e]
        refine rn_aload_n dX12_goesOn_16 rfl ?_
        refine rn_iconst (v := nI 0) dX12_goesOn_17 (by decide) ?_
        refine rn_put dX12_goesOn_18 lpX12_233 h1.1 rfl rfl (Nat.le_of_ble_eq_true rfl) ?_
        rw [ms34]
        rw [hz]
        refine Wp.gen (e := MO (upd (upd wi 33 (nI 1)) 34 (nI 0)) (lN (cvS q.2.1 x.1))) (fun f3 k3 o3 => ?_)
        exact go_done g f (show ¬ (1 : Nat) = 0 by decide) (fun j a b => (k3 j a).trans (k2 j a (by omega) (by omega) (by omega))) ((KW.up (fun _ _ => rfl) (by decide) (by decide)).up (by decide) (by decide)) o3 ((upd_ne (by decide)).trans ((upd_ne (by decide)).trans h31)) ((upd_ne (by decide)).trans ((upd_ne (by decide)).trans h32)) ((upd_ne (by decide)).trans (upd_eq _ _ _)) ((upd_ne (by decide)).trans h1.2.2.1) (h1.2.2.2.ar.keep (fun k a b => k3 k (by omega)))
      · have hz : nxS q x = RnS q (t, k + 1, x.2.2) := by rw [nxS, e]
        have hi2 := hi.2
        rw [e] at hi2
        refine rn_aload_n dX12_goesOn_16 rfl ?_
        refine rn_iconst (v := nI 0) dX12_goesOn_17 (by decide) ?_
        refine rn_put dX12_goesOn_18 lpX12_233 h1.1 rfl rfl (Nat.le_of_ble_eq_true rfl) ?_
        rw [ms34]
        rw [hz]
        refine Wp.gen (e := MO (upd (upd wi 26 (nI t.length)) 34 (nI 0)) (lN (cvS q.2.1 t))) (fun f3 k3 o3 => ?_)
        exact go_loop g f hC hQ _ (t, k + 1, x.2.2) f3 _ _ _ rfl ⟨hi.1, hi2.1⟩ hi2.2.1 ⟨o3, (upd_ne (by decide)).trans h1.2.1, (upd_ne (by decide)).trans h1.2.2.1, h1.2.2.2.keep (fun k a b => k3 k (by omega))⟩ ((upd_ne (by decide)).trans ((upd_ne (by decide)).trans h31)) ((upd_ne (by decide)).trans ((upd_ne (by decide)).trans h32)) ((upd_ne (by decide)).trans ((upd_ne (by decide)).trans h33)) (upd_eq _ _ _) ((KW.up (fun _ _ => rfl) (by decide) (by decide)).up (by decide) (by decide)) (fun j a b => (k3 j a).trans (k2 j a (by omega) (by omega) (by omega)))
    refine rn_aload_n dX12_goesOn_0 rfl ?_
    refine rn_callV dX12_goesOn_1 lmX12_240 ⟨Nat.le_of_ble_eq_true rfl, Nat.le_of_ble_eq_true rfl⟩ (cm_all g f hM hs hP hQ.1) hM rfl rfl (Nat.le_of_ble_eq_true rfl) ?_
    rintro _ _ ⟨rfl, rfl⟩
    refine rn_lstore_n dX12_goesOn_4 (Nat.le_of_ble_eq_true rfl) rfl ?_
    refine rn_aload_n dX12_goesOn_5 rfl ?_
    refine rn_get dX12_goesOn_6 lfX12_233 hM rfl ?_
    rw [h34]
    refine rn_if_ne (tgt := 16) dX12_goesOn_9 (by decide) (fun c9 => ?_) (fun c9 => ?_)
    · exact absurd (show (0 : Int32) = 0 from rfl) c9
    · refine rn_aload_n dX12_goesOn_12 rfl ?_
      exact h13
