theorem dgt_in {T : List Nat} {p m : Nat} (hm : m < 100) (h1 : 1 ≤ m) (h : nI 49 ≤ chI T p ∧ chI T p ≤ nI (48 + m)) : chI T p - nI 48 = nI (dgt T p m) ∧ ¬ dgt T p m = 0 := by
  have hd : dgt T p m = (chI T p).toNatClampNeg - 48 := by unfold dgt; rw [if_pos h]
  obtain ⟨k, h2, h3, h4⟩ := rng (a := 49) (by omega) h (by omega)
  rw [hd, h4, nI_clamp (by omega)]
  exact ⟨pk_sub (by omega), by omega⟩
theorem dgt_out {T : List Nat} {p m : Nat} (h : ¬ (nI 49 ≤ chI T p ∧ chI T p ≤ nI (48 + m))) : dgt T p m = 0 := by unfold dgt; rw [if_neg h]
def KO (wi w : Nat → Int32) : Prop := ∀ i, i ≠ 13 → i ≠ 14 → i ≠ 21 → i ≠ 22 → i ≠ 23 → w i = wi i
theorem KO.up {wi w : Nat → Int32} {k : Nat} {v : Int32} (h : KO wi w) (hk : k = 13 ∨ k = 14 ∨ k = 21 ∨ k = 22 ∨ k = 23) : KO wi (upd w k v) := fun i a b c d e => (upd_ne (by omega)).trans (h i a b c d e)
def OXw (w : Nat → Int32) (x : Q4) : Prop := w 13 = nI x.1 ∧ w 21 = nI x.2.1 ∧ w 22 = nI x.2.2.1 ∧ w 23 = nI x.2.2.2
def OPp (f : Mm) (T : List Nat) (wi : Nat → Int32) (cv : Int64) (x : Q4) (f' : Mm) : Prop := (∀ j, j ≠ 75 → f' j = f j) ∧ ∃ w, KO wi w ∧ f' 75 = some (MO w cv) ∧ OXw w (opS T x).2 ∧ w 14 = bI (!decide ((opS T x).1 = 1))
theorem cm_readsOption (g : GG) (f : Mm) {wi : Nat → Int32} {cv : Int64} {T : List Nat} {p fr ti co : Nat} (hM : f 75 = some (MO wi cv)) (hT : TXm f T) (h4 : wi 4 = nI T.length) (h14 : wi 14 = 0) (hx : OXw wi (p, fr, ti, co)) (ho : opOk (p, fr, ti, co)) (hp : p ≤ 400) : Ct g MX12_readsOption [.ref 75] f 0 0 (fun r f' => r = none ∧ OPp f T wi cv (p, fr, ti, co) f') := by
  refine Ct.of ok_MX12_readsOption (Nat.le_of_ble_eq_true rfl) ?_
  change Wp g MX12_readsOption 0 [some (.ref 75), none, none] [] f 0 0 _
  obtain ⟨h13, h21, h22, h23⟩ := id hx
  replace h13 : wi 13 = nI p := h13
  replace h21 : wi 21 = nI fr := h21
  replace h22 : wi 22 = nI ti := h22
  replace h23 : wi 23 = nI co := h23
  obtain ⟨a1, a2, a3⟩ := id ho
  replace a1 : fr < 3 := a1
  replace a2 : ti ≤ 3 := a2
  replace a3 : co ≤ 9 := a3
  have frd : ∀ v : Nat, v = (if chI T p = nI 116 then 1 else 2) → (chI T p = nI 116 ∨ chI T p = nI 109) → fr = 0 → Wp g MX12_readsOption 36 [some (.ref 75), some (.int (chI T p)), none] [.int (nI v), .ref 75] f 0 0 (fun r f' => r = none ∧ OPp f T wi cv (p, fr, ti, co) f') := fun v hv hc h0 => by
    have e0 : opS T (p, fr, ti, co) = (1, p + 1, v, ti, co) := by rw [opS, if_pos ⟨hc, h0⟩, hv]
    refine rn_put dX12_readsOption_36 lpX12_188 hM rfl rfl (Nat.le_of_ble_eq_true rfl) ?_
    rw [ms21]
    refine Wp.gen (e := MO (upd wi 21 (nI v)) cv) (fun f1 k1 o1 => ?_)
    refine rn_aload_n dX12_readsOption_39 rfl ?_
    refine rn_dup dX12_readsOption_40 rfl ?_
    refine rn_get dX12_readsOption_41 lfX12_159 o1 rfl ?_
    refine rn_iconst (v := nI 1) dX12_readsOption_44 (by decide) ?_
    refine rn_iadd dX12_readsOption_45 ?_
    rw [upd_ne (by decide), h13, nI_add]
    refine rn_put dX12_readsOption_46 lpX12_159 o1 rfl rfl (Nat.le_of_ble_eq_true rfl) ?_
    rw [ms13]
    refine Wp.gen (e := MO (upd (upd wi 21 (nI v)) 13 (nI (p + 1))) cv) (fun f2 k2 o2 => ?_)
    refine rn_vret dX12_readsOption_49 rfl ?_
    refine ⟨rfl, fun j hj => (k2 j hj).trans (k1 j hj), _, (KO.up (fun _ _ _ _ _ _ => rfl) (by omega)).up (by omega), o2, ?_, ?_⟩
    · rw [e0]; exact ⟨upd_eq _ _ _, (upd_ne (by decide)).trans (upd_eq _ _ _), (upd_ne (by decide)).trans ((upd_ne (by decide)).trans h22), (upd_ne (by decide)).trans ((upd_ne (by decide)).trans h23)⟩
    · rw [e0, upd_ne (by decide), upd_ne (by decide), h14]; rfl
  have dig : ∀ (m : Nat) (it : Bool), m = (if it = true then 3 else 9) → (it = true → opS T (p, fr, ti, co) = if dgt T (p + 1) m = 0 then (2, p + 1, fr, ti, co) else (1, p + 2, fr, dgt T (p + 1) m, co)) → (it = false → opS T (p, fr, ti, co) = if dgt T (p + 1) m = 0 then (2, p + 1, fr, ti, co) else (1, p + 2, fr, ti, dgt T (p + 1) m)) → ∀ f1 : Mm, (∀ j, j ≠ 75 → f1 j = f j) → f1 75 = some (MO (upd wi 14 (nI 0)) cv) → Wp g MX12_readsOption 95 [some (.ref 75), some (.int (chI T p)), some (.int (bI it))] [] f1 0 0 (fun r f' => r = none ∧ OPp f T wi cv (p, fr, ti, co) f') := fun m it hm e1 e2 f1 k1 o1 => by
    have hm9 : m < 100 := by rw [hm]; split <;> decide
    have hm1 : 1 ≤ m := by rw [hm]; split <;> decide
    have fin : ∀ (f2 : Mm), (∀ j, j ≠ 75 → f2 j = f j) → f2 75 = some (MO (upd (upd wi 14 (nI 0)) 13 (nI (p + 1))) cv) → ∀ b : Bool, (b = true ↔ ¬ dgt T (p + 1) m = 0) → (b = true → chI T (p + 1) - nI 48 = nI (dgt T (p + 1) m)) → Wp g MX12_readsOption 133 [some (.ref 75), some (.int (chI T p)), some (.int (bI it))] [.int (bI b), .ref 75] f2 0 0 (fun r f' => r = none ∧ OPp f T wi cv (p, fr, ti, co) f') := fun f2 k2 o2 b hb hb2 => by
      cases b with
      | false =>
        have hz : dgt T (p + 1) m = 0 := Classical.byContradiction fun h => by have := hb.mpr h; cases this
        have e0 : opS T (p, fr, ti, co) = (2, p + 1, fr, ti, co) := by
          cases it with
          | true => rw [e1 rfl, if_pos hz]
          | false => rw [e2 rfl, if_pos hz]
        refine rn_if_ne (tgt := 140) dX12_readsOption_133 (by decide) (fun c133 => ?_) (fun c133 => ?_)
        · exact absurd (show bI false = 0 from rfl) c133
        · refine rn_iconst (v := nI 1) dX12_readsOption_136 (by decide) ?_
          refine rn_goto (tgt := 141) dX12_readsOption_137 (by decide) ?_
          refine rn_put dX12_readsOption_141 lpX12_174 o2 rfl rfl (Nat.le_of_ble_eq_true rfl) ?_
          rw [ms14]
          refine Wp.gen (e := MO (upd (upd (upd wi 14 (nI 0)) 13 (nI (p + 1))) 14 (nI 1)) cv) (fun f3 k3 o3 => ?_)
          refine rn_aload_n dX12_readsOption_144 rfl ?_
          refine rn_get dX12_readsOption_145 lfX12_174 o3 rfl ?_
          rw [upd_eq]
          refine rn_if_ne (tgt := 205) dX12_readsOption_148 (by decide) (fun c148 => ?_) (fun c148 => ?_)
          · refine rn_vret dX12_readsOption_205 rfl ?_
            refine ⟨rfl, fun j hj => (k3 j hj).trans (k2 j hj), _, ((KO.up (fun _ _ _ _ _ _ => rfl) (by omega)).up (by omega)).up (by omega), o3, ?_, ?_⟩
            · rw [e0]; exact ⟨(upd_ne (by decide)).trans (upd_eq _ _ _), (upd_ne (by decide)).trans ((upd_ne (by decide)).trans ((upd_ne (by decide)).trans h21)), (upd_ne (by decide)).trans ((upd_ne (by decide)).trans ((upd_ne (by decide)).trans h22)), (upd_ne (by decide)).trans ((upd_ne (by decide)).trans ((upd_ne (by decide)).trans h23))⟩
            · rw [e0, upd_eq]; rfl
          · exact absurd c148 (by decide)
      | true =>
        have hz := hb.mp rfl
        have hv := hb2 rfl
        have at144 : ∀ (f3 : Mm), (∀ j, j ≠ 75 → f3 j = f j) → f3 75 = some (MO (upd (upd (upd wi 14 (nI 0)) 13 (nI (p + 1))) 14 (nI 0)) cv) → Wp g MX12_readsOption 144 [some (.ref 75), some (.int (chI T p)), some (.int (bI it))] [] f3 0 0 (fun r f' => r = none ∧ OPp f T wi cv (p, fr, ti, co) f') := fun f3 k3 o3 => by
          have hT3 : TXm f3 T := hT.keep (k3 78 (by decide))
          have q13 : (upd (upd (upd wi 14 (nI 0)) 13 (nI (p + 1))) 14 (nI 0)) 13 = nI (p + 1) := (upd_ne (by decide)).trans (upd_eq _ _ _)
          have q4 : (upd (upd (upd wi 14 (nI 0)) 13 (nI (p + 1))) 14 (nI 0)) 4 = nI T.length := (upd_ne (by decide)).trans ((upd_ne (by decide)).trans ((upd_ne (by decide)).trans h4))
          have q14 : (upd (upd (upd wi 14 (nI 0)) 13 (nI (p + 1))) 14 (nI 0)) 14 = nI 0 := upd_eq _ _ _
          have q21 : (upd (upd (upd wi 14 (nI 0)) 13 (nI (p + 1))) 14 (nI 0)) 21 = nI fr := (upd_ne (by decide)).trans ((upd_ne (by decide)).trans ((upd_ne (by decide)).trans h21))
          have q22 : (upd (upd (upd wi 14 (nI 0)) 13 (nI (p + 1))) 14 (nI 0)) 22 = nI ti := (upd_ne (by decide)).trans ((upd_ne (by decide)).trans ((upd_ne (by decide)).trans h22))
          have q23 : (upd (upd (upd wi 14 (nI 0)) 13 (nI (p + 1))) 14 (nI 0)) 23 = nI co := (upd_ne (by decide)).trans ((upd_ne (by decide)).trans ((upd_ne (by decide)).trans h23))
          have hkO : KO wi (upd (upd (upd wi 14 (nI 0)) 13 (nI (p + 1))) 14 (nI 0)) := ((KO.up (fun _ _ _ _ _ _ => rfl) (by omega)).up (by omega)).up (by omega)
          generalize upd (upd (upd wi 14 (nI 0)) 13 (nI (p + 1))) 14 (nI 0) = w0 at *
          cases it with
          | true =>
            have e0 : opS T (p, fr, ti, co) = (1, p + 2, fr, dgt T (p + 1) m, co) := by rw [e1 rfl, if_neg hz]
            refine rn_aload_n dX12_readsOption_144 rfl ?_
            refine rn_get dX12_readsOption_145 lfX12_174 o3 rfl ?_
            rw [q14]
            refine rn_if_ne (tgt := 205) dX12_readsOption_148 (by decide) (fun c148 => ?_) (fun c148 => ?_)
            · first | exact absurd (show nI 0 = 0 from rfl) c148 | (refine Wp.gen (e := MO (upd (upd (upd w0 22 (nI (dgt T (p + 1) m))) 23 (nI co)) 13 (nI (p + 2))) cv) (fun f6 k6 o6 => ?_); refine rn_vret dX12_readsOption_205 rfl ?_; refine ⟨rfl, fun j hj => (k6 j hj).trans ((k5 j hj).trans ((k4 j hj).trans (k3 j hj))), _, ((hkO.up (by omega)).up (by omega)).up (by omega), o6, ?_, ?_⟩; exact (by rw [e0]; exact ⟨upd_eq _ _ _, (upd_ne (by decide)).trans ((upd_ne (by decide)).trans ((upd_ne (by decide)).trans q21)), (upd_ne (by decide)).trans ((upd_ne (by decide)).trans (upd_eq _ _ _)), (upd_ne (by decide)).trans (upd_eq _ _ _)⟩); exact (by rw [e0, upd_ne (by decide), upd_ne (by decide), upd_ne (by decide), q14]; rfl))
            · refine rn_aload_n dX12_readsOption_151 rfl ?_
              refine rn_iload_n dX12_readsOption_152 rfl ?_
              refine rn_if_eq (tgt := 166) dX12_readsOption_153 (by decide) (fun c153 => ?_) (fun c153 => ?_)
              · exact absurd c153 (by decide)
              · refine rn_aload_n dX12_readsOption_156 rfl ?_
                refine rn_callV dX12_readsOption_157 lmX12_178 ⟨Nat.le_of_ble_eq_true rfl, Nat.le_of_ble_eq_true rfl⟩ (cm_here g f3 o3 hT3 q13 q4 (by omega)) o3 rfl rfl (Nat.le_of_ble_eq_true rfl) ?_
                rintro _ _ ⟨rfl, rfl⟩
                refine rn_bipush (v := nI 48) dX12_readsOption_160 (by decide) ?_
                refine rn_isub dX12_readsOption_162 ?_
                rw [hv]
                refine rn_goto (tgt := 170) dX12_readsOption_163 (by decide) ?_
                refine rn_put dX12_readsOption_170 lpX12_191 o3 rfl rfl (Nat.le_of_ble_eq_true rfl) ?_
                rw [ms22]
                refine Wp.gen (e := MO (upd w0 22 (nI (dgt T (p + 1) m))) cv) (fun f4 k4 o4 => ?_)
                refine rn_aload_n dX12_readsOption_173 rfl ?_
                refine rn_iload_n dX12_readsOption_174 rfl ?_
                refine rn_if_eq (tgt := 185) dX12_readsOption_175 (by decide) (fun c175 => ?_) (fun c175 => ?_)
                · exact absurd c175 (by decide)
                · refine rn_aload_n dX12_readsOption_178 rfl ?_
                  refine rn_get dX12_readsOption_179 lfX12_194 o4 rfl ?_
                  refine rn_goto (tgt := 192) dX12_readsOption_182 (by decide) ?_
                  rw [upd_ne (by decide), q23]
                  refine rn_put dX12_readsOption_192 lpX12_194 o4 rfl rfl (Nat.le_of_ble_eq_true rfl) ?_
                  rw [ms23]
                  refine Wp.gen (e := MO (upd (upd w0 22 (nI (dgt T (p + 1) m))) 23 (nI co)) cv) (fun f5 k5 o5 => ?_)
                  refine rn_aload_n dX12_readsOption_195 rfl ?_
                  refine rn_dup dX12_readsOption_196 rfl ?_
                  refine rn_get dX12_readsOption_197 lfX12_159 o5 rfl ?_
                  refine rn_iconst (v := nI 1) dX12_readsOption_200 (by decide) ?_
                  refine rn_iadd dX12_readsOption_201 ?_
                  rw [upd_ne (by decide), upd_ne (by decide), q13, nI_add]
                  refine rn_put dX12_readsOption_202 lpX12_159 o5 rfl rfl (Nat.le_of_ble_eq_true rfl) ?_
                  rw [ms13]
                  first | exact absurd (show nI 0 = 0 from rfl) c148 | (refine Wp.gen (e := MO (upd (upd (upd w0 22 (nI (dgt T (p + 1) m))) 23 (nI co)) 13 (nI (p + 2))) cv) (fun f6 k6 o6 => ?_); refine rn_vret dX12_readsOption_205 rfl ?_; refine ⟨rfl, fun j hj => (k6 j hj).trans ((k5 j hj).trans ((k4 j hj).trans (k3 j hj))), _, ((hkO.up (by omega)).up (by omega)).up (by omega), o6, ?_, ?_⟩; exact (by rw [e0]; exact ⟨upd_eq _ _ _, (upd_ne (by decide)).trans ((upd_ne (by decide)).trans ((upd_ne (by decide)).trans q21)), (upd_ne (by decide)).trans ((upd_ne (by decide)).trans (upd_eq _ _ _)), (upd_ne (by decide)).trans (upd_eq _ _ _)⟩); exact (by rw [e0, upd_ne (by decide), upd_ne (by decide), upd_ne (by decide), q14]; rfl))
          | false =>
            have e0 : opS T (p, fr, ti, co) = (1, p + 2, fr, ti, dgt T (p + 1) m) := by rw [e2 rfl, if_neg hz]
            refine rn_aload_n dX12_readsOption_144 rfl ?_
            refine rn_get dX12_readsOption_145 lfX12_174 o3 rfl ?_
            rw [q14]
            refine rn_if_ne (tgt := 205) dX12_readsOption_148 (by decide) (fun c148 => ?_) (fun c148 => ?_)
            · first | exact absurd (show nI 0 = 0 from rfl) c148 | (refine Wp.gen (e := MO (upd (upd (upd w0 22 (nI ti)) 23 (nI (dgt T (p + 1) m))) 13 (nI (p + 2))) cv) (fun f6 k6 o6 => ?_); refine rn_vret dX12_readsOption_205 rfl ?_; refine ⟨rfl, fun j hj => (k6 j hj).trans ((k5 j hj).trans ((k4 j hj).trans (k3 j hj))), _, ((hkO.up (by omega)).up (by omega)).up (by omega), o6, ?_, ?_⟩; exact (by rw [e0]; exact ⟨upd_eq _ _ _, (upd_ne (by decide)).trans ((upd_ne (by decide)).trans ((upd_ne (by decide)).trans q21)), (upd_ne (by decide)).trans ((upd_ne (by decide)).trans (upd_eq _ _ _)), (upd_ne (by decide)).trans (upd_eq _ _ _)⟩); exact (by rw [e0, upd_ne (by decide), upd_ne (by decide), upd_ne (by decide), q14]; rfl))
            · refine rn_aload_n dX12_readsOption_151 rfl ?_
              refine rn_iload_n dX12_readsOption_152 rfl ?_
              refine rn_if_eq (tgt := 166) dX12_readsOption_153 (by decide) (fun c153 => ?_) (fun c153 => ?_)
              · refine rn_aload_n dX12_readsOption_166 rfl ?_
                refine rn_get dX12_readsOption_167 lfX12_191 o3 rfl ?_
                rw [q22]
                refine rn_put dX12_readsOption_170 lpX12_191 o3 rfl rfl (Nat.le_of_ble_eq_true rfl) ?_
                rw [ms22]
                refine Wp.gen (e := MO (upd w0 22 (nI ti)) cv) (fun f4 k4 o4 => ?_)
                refine rn_aload_n dX12_readsOption_173 rfl ?_
                refine rn_iload_n dX12_readsOption_174 rfl ?_
                refine rn_if_eq (tgt := 185) dX12_readsOption_175 (by decide) (fun c175 => ?_) (fun c175 => ?_)
                · refine rn_aload_n dX12_readsOption_185 rfl ?_
                  refine rn_callV dX12_readsOption_186 lmX12_178 ⟨Nat.le_of_ble_eq_true rfl, Nat.le_of_ble_eq_true rfl⟩ (cm_here g f4 o4 (hT3.keep (k4 78 (by decide))) ((upd_ne (by decide)).trans q13) ((upd_ne (by decide)).trans q4) (by omega)) o4 rfl rfl (Nat.le_of_ble_eq_true rfl) ?_
                  rintro _ _ ⟨rfl, rfl⟩
                  refine rn_bipush (v := nI 48) dX12_readsOption_189 (by decide) ?_
                  refine rn_isub dX12_readsOption_191 ?_
                  rw [hv]
                  refine rn_put dX12_readsOption_192 lpX12_194 o4 rfl rfl (Nat.le_of_ble_eq_true rfl) ?_
                  rw [ms23]
                  refine Wp.gen (e := MO (upd (upd w0 22 (nI ti)) 23 (nI (dgt T (p + 1) m))) cv) (fun f5 k5 o5 => ?_)
                  refine rn_aload_n dX12_readsOption_195 rfl ?_
                  refine rn_dup dX12_readsOption_196 rfl ?_
                  refine rn_get dX12_readsOption_197 lfX12_159 o5 rfl ?_
                  refine rn_iconst (v := nI 1) dX12_readsOption_200 (by decide) ?_
                  refine rn_iadd dX12_readsOption_201 ?_
                  rw [upd_ne (by decide), upd_ne (by decide), q13, nI_add]
                  refine rn_put dX12_readsOption_202 lpX12_159 o5 rfl rfl (Nat.le_of_ble_eq_true rfl) ?_
                  rw [ms13]
                  first | exact absurd (show nI 0 = 0 from rfl) c148 | (refine Wp.gen (e := MO (upd (upd (upd w0 22 (nI ti)) 23 (nI (dgt T (p + 1) m))) 13 (nI (p + 2))) cv) (fun f6 k6 o6 => ?_); refine rn_vret dX12_readsOption_205 rfl ?_; refine ⟨rfl, fun j hj => (k6 j hj).trans ((k5 j hj).trans ((k4 j hj).trans (k3 j hj))), _, ((hkO.up (by omega)).up (by omega)).up (by omega), o6, ?_, ?_⟩; exact (by rw [e0]; exact ⟨upd_eq _ _ _, (upd_ne (by decide)).trans ((upd_ne (by decide)).trans ((upd_ne (by decide)).trans q21)), (upd_ne (by decide)).trans ((upd_ne (by decide)).trans (upd_eq _ _ _)), (upd_ne (by decide)).trans (upd_eq _ _ _)⟩); exact (by rw [e0, upd_ne (by decide), upd_ne (by decide), upd_ne (by decide), q14]; rfl))
                · exact absurd (show bI false = 0 from rfl) c175
              · exact absurd (show bI false = 0 from rfl) c153
        refine rn_if_ne (tgt := 140) dX12_readsOption_133 (by decide) (fun c133 => ?_) (fun c133 => ?_)
        · refine rn_iconst (v := nI 0) dX12_readsOption_140 (by decide) ?_
          refine rn_put dX12_readsOption_141 lpX12_174 o2 rfl rfl (Nat.le_of_ble_eq_true rfl) ?_
          rw [ms14]
          refine Wp.gen (e := MO (upd (upd (upd wi 14 (nI 0)) 13 (nI (p + 1))) 14 (nI 0)) cv) (fun f3 k3 o3 => ?_)
          exact at144 f3 (fun j hj => (k3 j hj).trans (k2 j hj)) o3
        · exact absurd c133 (by decide)
    have pre : ∀ (f2 : Mm), (∀ j, j ≠ 75 → f2 j = f j) → f2 75 = some (MO (upd (upd wi 14 (nI 0)) 13 (nI (p + 1))) cv) → Wp g MX12_readsOption 133 [some (.ref 75), some (.int (chI T p)), some (.int (bI it))] [.int (bI (decide (nI 49 ≤ chI T (p + 1) ∧ chI T (p + 1) ≤ nI (48 + m)))), .ref 75] f2 0 0 (fun r f' => r = none ∧ OPp f T wi cv (p, fr, ti, co) f') := fun f2 k2 o2 => by
      refine fin f2 k2 o2 _ ?_ ?_
      · by_cases h : nI 49 ≤ chI T (p + 1) ∧ chI T (p + 1) ≤ nI (48 + m)
        · rw [decide_eq_true h]; exact ⟨fun _ => (dgt_in hm9 hm1 h).2, fun _ => rfl⟩
        · rw [decide_eq_false h]; exact ⟨fun h => (by cases h), fun h2 => absurd (dgt_out h) h2⟩
      · intro h
        exact (dgt_in hm9 hm1 (of_decide_eq_true h)).1
    have q13 : (upd (upd wi 14 (nI 0)) 13 (nI (p + 1))) 13 = nI (p + 1) := upd_eq _ _ _
    have q4 : (upd (upd wi 14 (nI 0)) 13 (nI (p + 1))) 4 = nI T.length := (upd_ne (by decide)).trans ((upd_ne (by decide)).trans h4)
    cases it with
    | true =>
      rw [if_pos rfl] at hm
      subst hm
      refine rn_aload_n dX12_readsOption_95 rfl ?_
      refine rn_get dX12_readsOption_96 lfX12_174 o1 rfl ?_
      rw [upd_eq]
      refine rn_if_ne (tgt := 144) dX12_readsOption_99 (by decide) (fun c99 => ?_) (fun c99 => ?_)
      · exact absurd (show nI 0 = 0 from rfl) c99
      · refine rn_aload_n dX12_readsOption_102 rfl ?_
        refine rn_dup dX12_readsOption_103 rfl ?_
        refine rn_get dX12_readsOption_104 lfX12_159 o1 rfl ?_
        refine rn_iconst (v := nI 1) dX12_readsOption_107 (by decide) ?_
        refine rn_iadd dX12_readsOption_108 ?_
        rw [upd_ne (by decide), h13, nI_add]
        refine rn_put dX12_readsOption_109 lpX12_159 o1 rfl rfl (Nat.le_of_ble_eq_true rfl) ?_
        rw [ms13]
        refine Wp.gen (e := MO (upd (upd wi 14 (nI 0)) 13 (nI (p + 1))) cv) (fun f2 k2 o2 => ?_)
        refine rn_aload_n dX12_readsOption_112 rfl ?_
        refine rn_aload_n dX12_readsOption_113 rfl ?_
        refine rn_callV dX12_readsOption_114 lmX12_178 ⟨Nat.le_of_ble_eq_true rfl, Nat.le_of_ble_eq_true rfl⟩ (cm_here g f2 o2 (hT.keep ((k2 78 (by decide)).trans (k1 78 (by decide)))) q13 q4 (by omega)) o2 rfl rfl (Nat.le_of_ble_eq_true rfl) ?_
        rintro _ _ ⟨rfl, rfl⟩
        refine rn_bipush (v := nI 49) dX12_readsOption_117 (by decide) ?_
        refine rn_iload_n dX12_readsOption_119 rfl ?_
        refine rn_if_eq (tgt := 128) dX12_readsOption_120 (by decide) (fun c120 => ?_) (fun c120 => ?_)
        · exact absurd c120 (by decide)
        · refine rn_bipush (v := nI 51) dX12_readsOption_123 (by decide) ?_
          refine rn_goto (tgt := 130) dX12_readsOption_125 (by decide) ?_
          refine rn_callS dX12_readsOption_130 lmX12_72 ⟨Nat.le_of_ble_eq_true rfl, Nat.le_of_ble_eq_true rfl⟩ (cm_in g f2 (chI T (p + 1)) (nI 49) (nI 51)) rfl rfl (Nat.le_of_ble_eq_true rfl) ?_
          rintro _ _ ⟨rfl, rfl⟩
          exact pre f2 (fun j hj => (k2 j hj).trans (k1 j hj)) o2
    | false =>
      rw [if_neg (by decide)] at hm
      subst hm
      refine rn_aload_n dX12_readsOption_95 rfl ?_
      refine rn_get dX12_readsOption_96 lfX12_174 o1 rfl ?_
      rw [upd_eq]
      refine rn_if_ne (tgt := 144) dX12_readsOption_99 (by decide) (fun c99 => ?_) (fun c99 => ?_)
      · exact absurd (show nI 0 = 0 from rfl) c99
      · refine rn_aload_n dX12_readsOption_102 rfl ?_
        refine rn_dup dX12_readsOption_103 rfl ?_
        refine rn_get dX12_readsOption_104 lfX12_159 o1 rfl ?_
        refine rn_iconst (v := nI 1) dX12_readsOption_107 (by decide) ?_
        refine rn_iadd dX12_readsOption_108 ?_
        rw [upd_ne (by decide), h13, nI_add]
        refine rn_put dX12_readsOption_109 lpX12_159 o1 rfl rfl (Nat.le_of_ble_eq_true rfl) ?_
        rw [ms13]
        refine Wp.gen (e := MO (upd (upd wi 14 (nI 0)) 13 (nI (p + 1))) cv) (fun f2 k2 o2 => ?_)
        refine rn_aload_n dX12_readsOption_112 rfl ?_
        refine rn_aload_n dX12_readsOption_113 rfl ?_
        refine rn_callV dX12_readsOption_114 lmX12_178 ⟨Nat.le_of_ble_eq_true rfl, Nat.le_of_ble_eq_true rfl⟩ (cm_here g f2 o2 (hT.keep ((k2 78 (by decide)).trans (k1 78 (by decide)))) q13 q4 (by omega)) o2 rfl rfl (Nat.le_of_ble_eq_true rfl) ?_
        rintro _ _ ⟨rfl, rfl⟩
        refine rn_bipush (v := nI 49) dX12_readsOption_117 (by decide) ?_
        refine rn_iload_n dX12_readsOption_119 rfl ?_
        refine rn_if_eq (tgt := 128) dX12_readsOption_120 (by decide) (fun c120 => ?_) (fun c120 => ?_)
        · refine rn_bipush (v := nI 57) dX12_readsOption_128 (by decide) ?_
          refine rn_callS dX12_readsOption_130 lmX12_72 ⟨Nat.le_of_ble_eq_true rfl, Nat.le_of_ble_eq_true rfl⟩ (cm_in g f2 (chI T (p + 1)) (nI 49) (nI 57)) rfl rfl (Nat.le_of_ble_eq_true rfl) ?_
          rintro _ _ ⟨rfl, rfl⟩
          exact pre f2 (fun j hj => (k2 j hj).trans (k1 j hj)) o2
        · exact absurd (show bI false = 0 from rfl) c120
  have at50 : ¬ ((chI T p = nI 116 ∨ chI T p = nI 109) ∧ fr = 0) → Wp g MX12_readsOption 50 [some (.ref 75), some (.int (chI T p)), none] [] f 0 0 (fun r f' => r = none ∧ OPp f T wi cv (p, fr, ti, co) f') := fun nA => by
    have at68n : ¬ (chI T p = nI 99 ∧ ti = 0) → Wp g MX12_readsOption 68 [some (.ref 75), some (.int (chI T p)), none] [.int (nI 0)] f 0 0 (fun r f' => r = none ∧ OPp f T wi cv (p, fr, ti, co) f') := fun nB => by
      have stp : ¬ (chI T p = nI 120 ∧ co = 0) → Wp g MX12_readsOption 87 [some (.ref 75), some (.int (chI T p)), some (.int (nI 0))] [.ref 75] f 0 0 (fun r f' => r = none ∧ OPp f T wi cv (p, fr, ti, co) f') := fun nC => by
        have e0 : opS T (p, fr, ti, co) = (0, p, fr, ti, co) := by rw [opS, if_neg nA, if_neg nB, if_neg nC]
        refine rn_iconst (v := nI 1) dX12_readsOption_87 (by decide) ?_
        refine rn_goto (tgt := 92) dX12_readsOption_88 (by decide) ?_
        refine rn_put dX12_readsOption_92 lpX12_174 hM rfl rfl (Nat.le_of_ble_eq_true rfl) ?_
        rw [ms14]
        refine Wp.gen (e := MO (upd wi 14 (nI 1)) cv) (fun f1 k1 o1 => ?_)
        refine rn_aload_n dX12_readsOption_95 rfl ?_
        refine rn_get dX12_readsOption_96 lfX12_174 o1 rfl ?_
        rw [upd_eq]
        refine rn_if_ne (tgt := 144) dX12_readsOption_99 (by decide) (fun c99 => ?_) (fun c99 => ?_)
        · refine rn_aload_n dX12_readsOption_144 rfl ?_
          refine rn_get dX12_readsOption_145 lfX12_174 o1 rfl ?_
          rw [upd_eq]
          refine rn_if_ne (tgt := 205) dX12_readsOption_148 (by decide) (fun c148 => ?_) (fun c148 => ?_)
          · refine rn_vret dX12_readsOption_205 rfl ?_
            refine ⟨rfl, k1, _, KO.up (fun _ _ _ _ _ _ => rfl) (by omega), o1, ?_, ?_⟩
            · rw [e0]; exact ⟨(upd_ne (by decide)).trans h13, (upd_ne (by decide)).trans h21, (upd_ne (by decide)).trans h22, (upd_ne (by decide)).trans h23⟩
            · rw [e0, upd_eq]; rfl
          · exact absurd c148 (by decide)
        · exact absurd c99 (by decide)
      refine rn_istore_n dX12_readsOption_68 (Nat.le_of_ble_eq_true rfl) rfl ?_
      refine rn_aload_n dX12_readsOption_69 rfl ?_
      refine rn_iload_n dX12_readsOption_70 rfl ?_
      refine rn_if_ne (tgt := 91) dX12_readsOption_71 (by decide) (fun c71 => ?_) (fun c71 => ?_)
      · exact absurd (show nI 0 = 0 from rfl) c71
      · refine rn_iload_n dX12_readsOption_74 rfl ?_
        refine rn_bipush (v := nI 120) dX12_readsOption_75 (by decide) ?_
        refine rn_icmp_ne (tgt := 87) dX12_readsOption_77 (by decide) (fun c77 => ?_) (fun c77 => ?_)
        · exact stp (fun h => c77 h.1)
        · refine rn_aload_n dX12_readsOption_80 rfl ?_
          refine rn_get dX12_readsOption_81 lfX12_194 hM rfl ?_
          rw [h23]
          refine rn_if_eq (tgt := 91) dX12_readsOption_84 (by decide) (fun c84 => ?_) (fun c84 => ?_)
          · refine rn_iconst (v := nI 0) dX12_readsOption_91 (by decide) ?_
            refine rn_put dX12_readsOption_92 lpX12_174 hM rfl rfl (Nat.le_of_ble_eq_true rfl) ?_
            rw [ms14]
            refine Wp.gen (e := MO (upd wi 14 (nI 0)) cv) (fun f1 k1 o1 => ?_)
            have hc0 : co = 0 := (az (by omega)).mp c84
            exact dig 9 false rfl (fun h => by cases h) (fun _ => by rw [opS, if_neg nA, if_neg nB, if_pos ⟨c77, hc0⟩]) f1 k1 o1
          · exact stp (fun h => c84 (by rw [h.2]; rfl))
    refine rn_iload_n dX12_readsOption_50 rfl ?_
    refine rn_bipush (v := nI 99) dX12_readsOption_51 (by decide) ?_
    refine rn_icmp_ne (tgt := 67) dX12_readsOption_53 (by decide) (fun c53 => ?_) (fun c53 => ?_)
    · refine rn_iconst (v := nI 0) dX12_readsOption_67 (by decide) ?_
      exact at68n (fun h => c53 h.1)
    · refine rn_aload_n dX12_readsOption_56 rfl ?_
      refine rn_get dX12_readsOption_57 lfX12_191 hM rfl ?_
      rw [h22]
      refine rn_if_ne (tgt := 67) dX12_readsOption_60 (by decide) (fun c60 => ?_) (fun c60 => ?_)
      · refine rn_iconst (v := nI 0) dX12_readsOption_67 (by decide) ?_
        exact at68n (fun h => c60 (by rw [h.2]; rfl))
      · refine rn_iconst (v := nI 1) dX12_readsOption_63 (by decide) ?_
        refine rn_goto (tgt := 68) dX12_readsOption_64 (by decide) ?_
        refine rn_istore_n dX12_readsOption_68 (Nat.le_of_ble_eq_true rfl) rfl ?_
        refine rn_aload_n dX12_readsOption_69 rfl ?_
        refine rn_iload_n dX12_readsOption_70 rfl ?_
        refine rn_if_ne (tgt := 91) dX12_readsOption_71 (by decide) (fun _ => ?_) (fun h => absurd h (by decide))
        refine rn_iconst (v := nI 0) dX12_readsOption_91 (by decide) ?_
        refine rn_put dX12_readsOption_92 lpX12_174 hM rfl rfl (Nat.le_of_ble_eq_true rfl) ?_
        rw [ms14]
        refine Wp.gen (e := MO (upd wi 14 (nI 0)) cv) (fun f1 k1 o1 => ?_)
        have ht0 : ti = 0 := (az (by omega)).mp c60
        exact dig 3 true rfl (fun _ => by rw [opS, if_neg nA, if_pos ⟨c53, ht0⟩]) (fun h => by cases h) f1 k1 o1
  refine rn_aload_n dX12_readsOption_0 rfl ?_
  refine rn_callV dX12_readsOption_1 lmX12_178 ⟨Nat.le_of_ble_eq_true rfl, Nat.le_of_ble_eq_true rfl⟩ (cm_here g f hM hT h13 h4 (by omega)) hM rfl rfl (Nat.le_of_ble_eq_true rfl) ?_
  rintro _ _ ⟨rfl, rfl⟩
  refine rn_istore_n dX12_readsOption_4 (Nat.le_of_ble_eq_true rfl) rfl ?_
  refine rn_iload_n dX12_readsOption_5 rfl ?_
  refine rn_bipush (v := nI 116) dX12_readsOption_6 (by decide) ?_
  refine rn_icmp_eq (tgt := 17) dX12_readsOption_8 (by decide) (fun c8 => ?_) (fun c8 => ?_)
  · refine rn_aload_n dX12_readsOption_17 rfl ?_
    refine rn_get dX12_readsOption_18 lfX12_188 hM rfl ?_
    rw [h21]
    refine rn_if_ne (tgt := 50) dX12_readsOption_21 (by decide) (fun c21 => ?_) (fun c21 => ?_)
    · exact at50 (fun h => c21 (by rw [h.2]; rfl))
    · refine rn_aload_n dX12_readsOption_24 rfl ?_
      refine rn_iload_n dX12_readsOption_25 rfl ?_
      refine rn_bipush (v := nI 116) dX12_readsOption_26 (by decide) ?_
      refine rn_icmp_ne (tgt := 35) dX12_readsOption_28 (by decide) (fun c28 => ?_) (fun c28 => ?_)
      · refine rn_iconst (v := nI 2) dX12_readsOption_35 (by decide) ?_
        exact absurd c8 c28
      · refine rn_iconst (v := nI 1) dX12_readsOption_31 (by decide) ?_
        refine rn_goto (tgt := 36) dX12_readsOption_32 (by decide) ?_
        exact frd 1 (by rw [if_pos c8]) (Or.inl c8) ((az (by omega)).mp c21)
  · refine rn_iload_n dX12_readsOption_11 rfl ?_
    refine rn_bipush (v := nI 109) dX12_readsOption_12 (by decide) ?_
    refine rn_icmp_ne (tgt := 50) dX12_readsOption_14 (by decide) (fun c14 => ?_) (fun c14 => ?_)
    · exact at50 (fun h => h.1.elim c8 c14)
    · refine rn_aload_n dX12_readsOption_17 rfl ?_
      refine rn_get dX12_readsOption_18 lfX12_188 hM rfl ?_
      rw [h21]
      refine rn_if_ne (tgt := 50) dX12_readsOption_21 (by decide) (fun c21 => ?_) (fun c21 => ?_)
      · exact at50 (fun h => c21 (by rw [h.2]; rfl))
      · refine rn_aload_n dX12_readsOption_24 rfl ?_
        refine rn_iload_n dX12_readsOption_25 rfl ?_
        refine rn_bipush (v := nI 116) dX12_readsOption_26 (by decide) ?_
        refine rn_icmp_ne (tgt := 35) dX12_readsOption_28 (by decide) (fun c28 => ?_) (fun c28 => ?_)
        · refine rn_iconst (v := nI 2) dX12_readsOption_35 (by decide) ?_
          exact frd 2 (by rw [if_neg c8]) (Or.inr c14) ((az (by omega)).mp c21)
        · refine rn_iconst (v := nI 1) dX12_readsOption_31 (by decide) ?_
          refine rn_goto (tgt := 36) dX12_readsOption_32 (by decide) ?_
          exact absurd c28 c8
