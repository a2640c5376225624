def KR (wi w : Nat → Int32) : Prop := ∀ i, (i < 13 ∨ i = 15 ∨ 19 < i) → w i = wi i
theorem KR.up {wi w : Nat → Int32} {k : Nat} {v : Int32} (h : KR wi w) (hk : 13 ≤ k ∧ k ≤ 19 ∧ k ≠ 15) : KR wi (upd w k v) := fun i hi => (upd_ne (by omega)).trans (h i hi)
def wrg (T : List Nat) (b : Bool) (z : Bool × Nat × Nat) : Bool := !z.1 || (decide (chI T z.2.2 = nI 47) || rowOk b (chI T z.2.2))
theorem upd_id {w : Nat → Int32} {k : Nat} {v : Int32} (h : w k = v) : upd w k v = w := by
  funext j
  by_cases e : j = k
  · rw [e, upd_eq, h]
  · rw [upd_ne e]
theorem cm_readsRowsB (g : GG) (f : Mm) {wi G : Nat → Int32} {cv : Int64} {T : List Nat} {p0 : Nat} (hM : f 75 = some (MO wi cv)) (hT : TXm f T) (h4 : wi 4 = nI T.length) (h13 : wi 13 = nI p0) (h14 : wi 14 = 0) (hG : AR f 86 36 G) (hp : p0 ≤ 170) : Ct g MX12_readsRows [.ref 75, .int (nI 1)] f 0 0 (fun r' f' => r' = none ∧ (∀ j, j ≠ 75 → j ≠ 86 → f' j = f j) ∧ ∃ w, KR wi w ∧ f' 75 = some (MO w cv) ∧ w 13 = nI (rwS T true 6 p0).2.2 ∧ w 14 = bI (wrg T true (rwS T true 6 p0)) ∧ w 16 = nI (rl T true 6 p0) ∧ w 17 = nI (rwS T true 6 p0).2.1 ∧ (∃ G1, AR f' 86 36 G1 ∧ ((rwS T true 6 p0).1 = true → ∀ i j, i < (rwS T true 6 p0).2.1 → j < (rl T true 6 p0) → G1 (6 * i + j) = cvl (chI T (p0 + i * ((rl T true 6 p0) + 1) + j))))) := by
  refine Ct.of ok_MX12_readsRows (Nat.le_of_ble_eq_true rfl) ?_
  change Wp g MX12_readsRows 0 [some (.ref 75), some (.int (nI 1)), none, none, none, none, none, none] [] f 0 0 _
  have hl160 : T.length ≤ 160 := by
    obtain ⟨_, _, h, _⟩ := hT
    exact h
  have hW6 : (rl T true 6 p0) ≤ 6 := rl_le T true 6 p0
  have ex : ∀ (f1 : Mm) (w : Nat → Int32) (r : Nat) (w1 w2 w3 w4 w5 w6 w7 : Option Value), (∀ j, j ≠ 75 → j ≠ 86 → f1 j = f j) → KR wi w → f1 75 = some (MO w cv) → w 13 = nI (rwS T true 6 p0).2.2 → w 14 = bI (wrg T true (rwS T true 6 p0)) → w 16 = nI (rl T true 6 p0) → w 17 = nI r → (rwS T true 6 p0).2.1 = r + 1 → (∃ G1, AR f1 86 36 G1 ∧ ((rwS T true 6 p0).1 = true → ∀ i j, i < (rwS T true 6 p0).2.1 → j < (rl T true 6 p0) → G1 (6 * i + j) = cvl (chI T (p0 + i * ((rl T true 6 p0) + 1) + j)))) → Wp g MX12_readsRows 289 [some (.ref 75), w1, w2, w3, w4, w5, w6, w7] [] f1 0 0 (fun r' f' => r' = none ∧ (∀ j, j ≠ 75 → j ≠ 86 → f' j = f j) ∧ ∃ w, KR wi w ∧ f' 75 = some (MO w cv) ∧ w 13 = nI (rwS T true 6 p0).2.2 ∧ w 14 = bI (wrg T true (rwS T true 6 p0)) ∧ w 16 = nI (rl T true 6 p0) ∧ w 17 = nI (rwS T true 6 p0).2.1 ∧ (∃ G1, AR f' 86 36 G1 ∧ ((rwS T true 6 p0).1 = true → ∀ i j, i < (rwS T true 6 p0).2.1 → j < (rl T true 6 p0) → G1 (6 * i + j) = cvl (chI T (p0 + i * ((rl T true 6 p0) + 1) + j))))) := fun f1 w r w1 w2 w3 w4 w5 w6 w7 k1 hk o1 e13 e14 e16 e17 hr hd => by
    refine rn_aload_n dX12_readsRows_289 rfl ?_
    refine rn_dup dX12_readsRows_290 rfl ?_
    refine rn_get dX12_readsRows_291 lfX12_162 o1 rfl ?_
    refine rn_iconst (v := nI 1) dX12_readsRows_294 (by decide) ?_
    refine rn_iadd dX12_readsRows_295 ?_
    rw [e17, nI_add]
    refine rn_put dX12_readsRows_296 lpX12_162 o1 rfl rfl (Nat.le_of_ble_eq_true rfl) ?_
    rw [ms17]
    refine Wp.gen (e := MO (upd w 17 (nI (r + 1))) cv) (fun f2 k2 o2 => ?_)
    refine rn_vret dX12_readsRows_299 rfl ?_
    obtain ⟨G1, hG1, hc1⟩ := hd
    exact ⟨rfl, fun j a b => (k2 j a).trans (k1 j a b), _, hk.up (by decide), o2, (upd_ne (by decide)).trans e13, (upd_ne (by decide)).trans e14, (upd_ne (by decide)).trans e16, by rw [upd_eq, hr], G1, hG1.keep (k2 86 (by decide)), hc1⟩
  have noM : ∀ (f1 : Mm) (w : Nat → Int32) (r c p : Nat) (zb : Bool) (w5 w7 : Option Value), (∀ j, j ≠ 75 → j ≠ 86 → f1 j = f j) → KR wi w → f1 75 = some (MO w cv) → w 13 = nI p → w 16 = nI (rl T true 6 p0) → w 17 = nI r → w 18 = nI c → (rwS T true 6 p0) = (zb, r + 1, p) → (∃ G1, AR f1 86 36 G1 ∧ ((rwS T true 6 p0).1 = true → ∀ i j, i < (rwS T true 6 p0).2.1 → j < (rl T true 6 p0) → G1 (6 * i + j) = cvl (chI T (p0 + i * ((rl T true 6 p0) + 1) + j)))) → Wp g MX12_readsRows 191 [some (.ref 75), some (.int (nI 1)), some (.int (nI 6)), some (.int (nI 1)), some (.int (chI T p)), w5, some (.int (bI zb)), w7] [.int (nI 0)] f1 0 0 (fun r' f' => r' = none ∧ (∀ j, j ≠ 75 → j ≠ 86 → f' j = f j) ∧ ∃ w, KR wi w ∧ f' 75 = some (MO w cv) ∧ w 13 = nI (rwS T true 6 p0).2.2 ∧ w 14 = bI (wrg T true (rwS T true 6 p0)) ∧ w 16 = nI (rl T true 6 p0) ∧ w 17 = nI (rwS T true 6 p0).2.1 ∧ (∃ G1, AR f' 86 36 G1 ∧ ((rwS T true 6 p0).1 = true → ∀ i j, i < (rwS T true 6 p0).2.1 → j < (rl T true 6 p0) → G1 (6 * i + j) = cvl (chI T (p0 + i * ((rl T true 6 p0) + 1) + j))))) := fun f1 w r c p zb w5 w7 k1 hk o1 e13 e16 e17 e18 hz hd => by
    have u17 := upd_id e17
    have u18 := upd_id e18
    have u13 := upd_id e13
    have fin : ∀ v : Bool, v = wrg T true (rwS T true 6 p0) → Wp g MX12_readsRows 283 [some (.ref 75), some (.int (nI 1)), some (.int (nI 6)), some (.int (nI 0)), some (.int (chI T p)), w5, some (.int (bI zb)), some (.int (nI 0))] [.int (bI v), .ref 75] f1 0 0 (fun r' f' => r' = none ∧ (∀ j, j ≠ 75 → j ≠ 86 → f' j = f j) ∧ ∃ w, KR wi w ∧ f' 75 = some (MO w cv) ∧ w 13 = nI (rwS T true 6 p0).2.2 ∧ w 14 = bI (wrg T true (rwS T true 6 p0)) ∧ w 16 = nI (rl T true 6 p0) ∧ w 17 = nI (rwS T true 6 p0).2.1 ∧ (∃ G1, AR f' 86 36 G1 ∧ ((rwS T true 6 p0).1 = true → ∀ i j, i < (rwS T true 6 p0).2.1 → j < (rl T true 6 p0) → G1 (6 * i + j) = cvl (chI T (p0 + i * ((rl T true 6 p0) + 1) + j))))) := fun v hv => by
      have go : ∀ (f2 : Mm), (∀ j, j ≠ 75 → f2 j = f1 j) → f2 75 = some (MO (upd w 14 (bI v)) cv) → Wp g MX12_readsRows 286 [some (.ref 75), some (.int (nI 1)), some (.int (nI 6)), some (.int (nI 0)), some (.int (chI T p)), w5, some (.int (bI zb)), some (.int (nI 0))] [] f2 0 0 (fun r' f' => r' = none ∧ (∀ j, j ≠ 75 → j ≠ 86 → f' j = f j) ∧ ∃ w, KR wi w ∧ f' 75 = some (MO w cv) ∧ w 13 = nI (rwS T true 6 p0).2.2 ∧ w 14 = bI (wrg T true (rwS T true 6 p0)) ∧ w 16 = nI (rl T true 6 p0) ∧ w 17 = nI (rwS T true 6 p0).2.1 ∧ (∃ G1, AR f' 86 36 G1 ∧ ((rwS T true 6 p0).1 = true → ∀ i j, i < (rwS T true 6 p0).2.1 → j < (rl T true 6 p0) → G1 (6 * i + j) = cvl (chI T (p0 + i * ((rl T true 6 p0) + 1) + j))))) := fun f2 k2 o2 => by
        obtain ⟨G1, hG1, hc1⟩ := hd
        have e := ex f2 (upd w 14 (bI v)) r (some (.int (nI 1))) (some (.int (nI 6))) (some (.int (nI 0))) (some (.int (chI T p))) w5 (some (.int (bI zb))) (some (.int (nI 0))) (fun j a b => (k2 j a).trans (k1 j a b)) (hk.up (by decide)) o2 (by rw [hz]; exact (upd_ne (by decide)).trans e13) (by rw [upd_eq, hv]) ((upd_ne (by decide)).trans e16) ((upd_ne (by decide)).trans e17) (by rw [hz]) ⟨G1, hG1.keep (k2 86 (by decide)), hc1⟩
        refine rn_goto (tgt := 33) dX12_readsRows_286 (by decide) ?_
        refine rn_iload_n dX12_readsRows_33 rfl ?_
        refine rn_if_eq (tgt := 289) dX12_readsRows_34 (by decide) (fun c34 => ?_) (fun c34 => ?_)
        · exact e
        · exact absurd (show nI 0 = 0 from rfl) c34
      cases v with
      | true =>
        refine rn_put dX12_readsRows_283 lpX12_174 o1 rfl rfl (Nat.le_of_ble_eq_true rfl) ?_
        rw [ms14]
        refine Wp.gen (e := MO (upd w 14 (bI true)) cv) (fun f2 k2 o2 => ?_)
        exact go f2 k2 o2
      | false =>
        refine rn_put dX12_readsRows_283 lpX12_174 o1 rfl rfl (Nat.le_of_ble_eq_true rfl) ?_
        rw [ms14]
        refine Wp.gen (e := MO (upd w 14 (bI false)) cv) (fun f2 k2 o2 => ?_)
        exact go f2 k2 o2
    refine rn_istore dX12_readsRows_191 (Nat.le_of_ble_eq_true rfl) rfl ?_
    refine rn_aload_n dX12_readsRows_193 rfl ?_
    refine rn_dup dX12_readsRows_194 rfl ?_
    refine rn_get dX12_readsRows_195 lfX12_162 o1 rfl ?_
    refine rn_iload dX12_readsRows_198 rfl ?_
    refine rn_if_eq (tgt := 207) dX12_readsRows_200 (by decide) (fun c200 => ?_) (fun c200 => ?_)
    · refine rn_iconst (v := nI 0) dX12_readsRows_207 (by decide) ?_
      refine rn_iadd dX12_readsRows_208 ?_
      rw [e17, show nI r + nI 0 = nI r from nI_add r 0]
      refine rn_put dX12_readsRows_209 lpX12_162 o1 rfl rfl (Nat.le_of_ble_eq_true rfl) ?_
      rw [ms17]
      rw [u17, up_self o1]
      refine rn_aload_n dX12_readsRows_212 rfl ?_
      refine rn_iload dX12_readsRows_213 rfl ?_
      refine rn_if_eq (tgt := 222) dX12_readsRows_215 (by decide) (fun c215 => ?_) (fun c215 => ?_)
      · refine rn_aload_n dX12_readsRows_222 rfl ?_
        refine rn_get dX12_readsRows_223 lfX12_165 o1 rfl ?_
        rw [e18]
        refine rn_put dX12_readsRows_226 lpX12_165 o1 rfl rfl (Nat.le_of_ble_eq_true rfl) ?_
        rw [ms18]
        rw [u18, up_self o1]
        refine rn_aload_n dX12_readsRows_229 rfl ?_
        refine rn_dup dX12_readsRows_230 rfl ?_
        refine rn_get dX12_readsRows_231 lfX12_159 o1 rfl ?_
        refine rn_iload dX12_readsRows_234 rfl ?_
        refine rn_if_eq (tgt := 243) dX12_readsRows_236 (by decide) (fun c236 => ?_) (fun c236 => ?_)
        · refine rn_iconst (v := nI 0) dX12_readsRows_243 (by decide) ?_
          refine rn_iadd dX12_readsRows_244 ?_
          rw [e13, show nI p + nI 0 = nI p from nI_add p 0]
          refine rn_put dX12_readsRows_245 lpX12_159 o1 rfl rfl (Nat.le_of_ble_eq_true rfl) ?_
          rw [ms13]
          rw [u13, up_self o1]
          refine rn_iload dX12_readsRows_248 rfl ?_
          refine rn_istore_n dX12_readsRows_250 (Nat.le_of_ble_eq_true rfl) rfl ?_
          refine rn_aload_n dX12_readsRows_251 rfl ?_
          refine rn_iload dX12_readsRows_252 rfl ?_
          refine rn_if_ne (tgt := 282) dX12_readsRows_254 (by decide) (fun c254 => ?_) (fun c254 => ?_)
          · refine rn_iconst (v := nI 0) dX12_readsRows_282 (by decide) ?_
            first | exact absurd (show nI 0 = 0 from rfl) c254 | exact fin false (by rw [wrg, hz, bI_n0.mp c259, decide_eq_false c266, show rowOk true (chI T p) = false from bI_0.mp c275]; rfl)
          · refine rn_iload dX12_readsRows_257 rfl ?_
            refine rn_if_eq (tgt := 278) dX12_readsRows_259 (by decide) (fun c259 => ?_) (fun c259 => ?_)
            · refine rn_iconst (v := nI 1) dX12_readsRows_278 (by decide) ?_
              refine rn_goto (tgt := 283) dX12_readsRows_279 (by decide) ?_
              first | exact fin true (by rw [wrg, hz, bI_0.mp c259]; rfl) | exact fin true (by rw [wrg, hz, decide_eq_true c266, Bool.true_or, Bool.or_true]) | exact fin true (by rw [wrg, hz, show rowOk true (chI T p) = true from bI_n0.mp c275, Bool.or_true, Bool.or_true])
            · refine rn_iload dX12_readsRows_262 rfl ?_
              refine rn_bipush (v := nI 47) dX12_readsRows_264 (by decide) ?_
              refine rn_icmp_eq (tgt := 278) dX12_readsRows_266 (by decide) (fun c266 => ?_) (fun c266 => ?_)
              · refine rn_iconst (v := nI 1) dX12_readsRows_278 (by decide) ?_
                refine rn_goto (tgt := 283) dX12_readsRows_279 (by decide) ?_
                first | exact fin true (by rw [wrg, hz, bI_0.mp c259]; rfl) | exact fin true (by rw [wrg, hz, decide_eq_true c266, Bool.true_or, Bool.or_true]) | exact fin true (by rw [wrg, hz, show rowOk true (chI T p) = true from bI_n0.mp c275, Bool.or_true, Bool.or_true])
              · refine rn_iload dX12_readsRows_269 rfl ?_
                refine rn_iload_n dX12_readsRows_271 rfl ?_
                refine rn_callS dX12_readsRows_272 lmX12_185 ⟨Nat.le_of_ble_eq_true rfl, Nat.le_of_ble_eq_true rfl⟩ (cm_isPartB g f1 (chI T p)) rfl rfl (Nat.le_of_ble_eq_true rfl) ?_
                rintro _ _ ⟨rfl, rfl⟩
                refine rn_if_eq (tgt := 282) dX12_readsRows_275 (by decide) (fun c275 => ?_) (fun c275 => ?_)
                · refine rn_iconst (v := nI 0) dX12_readsRows_282 (by decide) ?_
                  first | exact absurd (show nI 0 = 0 from rfl) c254 | exact fin false (by rw [wrg, hz, bI_n0.mp c259, decide_eq_false c266, show rowOk true (chI T p) = false from bI_0.mp c275]; rfl)
                · refine rn_iconst (v := nI 1) dX12_readsRows_278 (by decide) ?_
                  refine rn_goto (tgt := 283) dX12_readsRows_279 (by decide) ?_
                  first | exact fin true (by rw [wrg, hz, bI_0.mp c259]; rfl) | exact fin true (by rw [wrg, hz, decide_eq_true c266, Bool.true_or, Bool.or_true]) | exact fin true (by rw [wrg, hz, show rowOk true (chI T p) = true from bI_n0.mp c275, Bool.or_true, Bool.or_true])
        · exact absurd (show nI 0 = 0 from rfl) c236
      · exact absurd (show nI 0 = 0 from rfl) c215
    · exact absurd (show nI 0 = 0 from rfl) c200
  have loop : ∀ (d r c p : Nat) (f1 : Mm) (w : Nat → Int32) (w4 w5 w6 w7 : Option Value), 400 - p = d → (∀ j, j ≠ 75 → j ≠ 86 → f1 j = f j) → KR wi w → f1 75 = some (MO w cv) → w 13 = nI p → w 14 = 0 → w 16 = nI (if r = 0 then c else (rl T true 6 p0)) → w 17 = nI r → w 18 = nI c → r < 6 → c ≤ (if r = 0 then 6 else (rl T true 6 p0)) → p = p0 + r * ((rl T true 6 p0) + 1) + c → (∀ i, i < c → rowOk true (chI T (p0 + r * ((rl T true 6 p0) + 1) + i)) = true) → (r = 0 ∨ (1 ≤ r ∧ 0 < (rl T true 6 p0) ∧ (rwS T true 6 p0) = (if rl T true (rl T true 6 p0) (p0 + r * ((rl T true 6 p0) + 1)) = (rl T true 6 p0) then rwk T true (rl T true 6 p0) (6 - 1 - r) (r + 1) (p0 + r * ((rl T true 6 p0) + 1) + (rl T true 6 p0)) else (false, r + 1, p0 + r * ((rl T true 6 p0) + 1) + rl T true (rl T true 6 p0) (p0 + r * ((rl T true 6 p0) + 1)))))) → (∃ G1, AR f1 86 36 G1 ∧ ∀ i j, pdn r (rl T true 6 p0) c i j → G1 (6 * i + j) = cvl (chI T (p0 + i * ((rl T true 6 p0) + 1) + j))) → Wp g MX12_readsRows 33 [some (.ref 75), some (.int (nI 1)), some (.int (nI 6)), some (.int (nI 1)), w4, w5, w6, w7] [] f1 0 0 (fun r' f' => r' = none ∧ (∀ j, j ≠ 75 → j ≠ 86 → f' j = f j) ∧ ∃ w, KR wi w ∧ f' 75 = some (MO w cv) ∧ w 13 = nI (rwS T true 6 p0).2.2 ∧ w 14 = bI (wrg T true (rwS T true 6 p0)) ∧ w 16 = nI (rl T true 6 p0) ∧ w 17 = nI (rwS T true 6 p0).2.1 ∧ (∃ G1, AR f' 86 36 G1 ∧ ((rwS T true 6 p0).1 = true → ∀ i j, i < (rwS T true 6 p0).2.1 → j < (rl T true 6 p0) → G1 (6 * i + j) = cvl (chI T (p0 + i * ((rl T true 6 p0) + 1) + j))))) := by
    intro d
    induction d using Nat.strongRecOn with
    | ind d ih =>
      intro r c p f1 w w4 w5 w6 w7 hd k1 hk o1 e13 e14 e16 e17 e18 hr hc hpe hall hI3 hdat
      have hT1 : TXm f1 T := hT.keep (k1 78 (by decide) (by decide))
      have hmul : r * ((rl T true 6 p0) + 1) ≤ 6 * 7 := Nat.mul_le_mul (by omega) (by omega)
      have hc6 : c ≤ 6 := by
        by_cases h0 : r = 0
        · rw [if_pos h0] at hc; exact hc
        · rw [if_neg h0] at hc; omega
      have hp3 : p < 300 := by omega
      -- the end of a row
      have rend : (c = (if r = 0 then 6 else (rl T true 6 p0)) ∨ rowOk true (chI T p) = false) → ∀ (f2 : Mm) (w2 : Nat → Int32) (w5 : Int32) (w6 w7 : Option Value), (∀ j, j ≠ 75 → j ≠ 86 → f2 j = f j) → KR wi w2 → f2 75 = some (MO w2 cv) → w2 13 = nI p → w2 14 = 0 → w2 16 = nI (if r = 0 then c else (rl T true 6 p0)) → w2 17 = nI r → w2 18 = nI c → (∃ G1, AR f2 86 36 G1 ∧ ∀ i j, pdn r (rl T true 6 p0) c i j → G1 (6 * i + j) = cvl (chI T (p0 + i * ((rl T true 6 p0) + 1) + j))) → Wp g MX12_readsRows 139 [some (.ref 75), some (.int (nI 1)), some (.int (nI 6)), some (.int (nI 1)), some (.int (chI T p)), some (.int w5), w6, w7] [] f2 0 0 (fun r' f' => r' = none ∧ (∀ j, j ≠ 75 → j ≠ 86 → f' j = f j) ∧ ∃ w, KR wi w ∧ f' 75 = some (MO w cv) ∧ w 13 = nI (rwS T true 6 p0).2.2 ∧ w 14 = bI (wrg T true (rwS T true 6 p0)) ∧ w 16 = nI (rl T true 6 p0) ∧ w 17 = nI (rwS T true 6 p0).2.1 ∧ (∃ G1, AR f' 86 36 G1 ∧ ((rwS T true 6 p0).1 = true → ∀ i j, i < (rwS T true 6 p0).2.1 → j < (rl T true 6 p0) → G1 (6 * i + j) = cvl (chI T (p0 + i * ((rl T true 6 p0) + 1) + j))))) := fun hend f2 w2 w5 w6 w7 k2 hk2 o2 g13 g14 g16 g17 g18 hdat2 => by
        have hn : c = (if r = 0 then (rl T true 6 p0) else rl T true (rl T true 6 p0) (p0 + r * ((rl T true 6 p0) + 1))) := by
          by_cases h0 : r = 0
          · rw [if_pos h0]
            rw [if_pos h0] at hc hend
            refine (rl_eq hc (fun i hi => ?_) ?_).symm
            · have := hall i hi
              rw [h0, Nat.zero_mul, Nat.add_zero] at this
              exact this
            · rw [hpe, h0, Nat.zero_mul, Nat.add_zero] at hend
              exact hend
          · rw [if_neg h0]
            rw [if_neg h0] at hc hend
            rw [hpe] at hend
            exact (rl_eq hc hall hend).symm
        have rz : (rwS T true 6 p0) = if c = (rl T true 6 p0) ∧ 0 < (rl T true 6 p0) then rwk T true (rl T true 6 p0) (6 - 1 - r) (r + 1) p else (false, r + 1, p) := by
          rcases hI3 with h0 | ⟨h1, h2, h3⟩
          · rw [if_pos h0] at hn
            rw [rwS]
            by_cases hw0 : (rl T true 6 p0) = 0
            · rw [if_pos hw0, if_neg (by omega), hpe, h0, hn, hw0]
              simp
            · rw [if_neg hw0, if_pos ⟨hn, by omega⟩, hpe, h0, hn]
              simp
          · rw [if_neg (by omega)] at hn
            rw [h3, ← hn]
            by_cases hcw : c = (rl T true 6 p0)
            · rw [if_pos hcw, if_pos ⟨hcw, h2⟩, hpe, ← hcw]
            · rw [if_neg hcw, if_neg (fun h => hcw h.1), hpe]
        have hlenW : w2 16 = nI (rl T true 6 p0) := by
          rw [g16]
          by_cases h0 : r = 0
          · rw [if_pos h0]; rw [if_pos h0] at hn; rw [hn]
          · rw [if_neg h0]
        have dF0 : ∀ zb, (rwS T true 6 p0) = (zb, r + 1, p) → (zb = true → c = (rl T true 6 p0)) → (∃ G1, AR f2 86 36 G1 ∧ ((rwS T true 6 p0).1 = true → ∀ i j, i < (rwS T true 6 p0).2.1 → j < (rl T true 6 p0) → G1 (6 * i + j) = cvl (chI T (p0 + i * ((rl T true 6 p0) + 1) + j)))) := fun zb hz hzb => by
          obtain ⟨G1, hG1, hc1⟩ := hdat2
          refine ⟨G1, hG1, fun ht i j hi hj => hc1 i j ?_⟩
          rw [hz] at ht hi
          have hcW := hzb ht
          unfold pdn
          have hi2 : i < r + 1 := hi
          omega
        have whole : c = (rl T true 6 p0) → 0 < (rl T true 6 p0) → ∀ (w5 : Int32) w7, Wp g MX12_readsRows 162 [some (.ref 75), some (.int (nI 1)), some (.int (nI 6)), some (.int (nI 1)), some (.int (chI T p)), some (.int w5), w6, w7] [.int (nI 1)] f2 0 0 (fun r' f' => r' = none ∧ (∀ j, j ≠ 75 → j ≠ 86 → f' j = f j) ∧ ∃ w, KR wi w ∧ f' 75 = some (MO w cv) ∧ w 13 = nI (rwS T true 6 p0).2.2 ∧ w 14 = bI (wrg T true (rwS T true 6 p0)) ∧ w 16 = nI (rl T true 6 p0) ∧ w 17 = nI (rwS T true 6 p0).2.1 ∧ (∃ G1, AR f' 86 36 G1 ∧ ((rwS T true 6 p0).1 = true → ∀ i j, i < (rwS T true 6 p0).2.1 → j < (rl T true 6 p0) → G1 (6 * i + j) = cvl (chI T (p0 + i * ((rl T true 6 p0) + 1) + j))))) := fun hcw hw0 w5 w7 => by
          have rz1 : (rwS T true 6 p0) = rwk T true (rl T true 6 p0) (6 - 1 - r) (r + 1) p := by rw [rz, if_pos ⟨hcw, hw0⟩]
          have nm : (rwS T true 6 p0) = (true, r + 1, p) → ∀ w7, Wp g MX12_readsRows 190 [some (.ref 75), some (.int (nI 1)), some (.int (nI 6)), some (.int (nI 1)), some (.int (chI T p)), some (.int w5), some (.int (nI 1)), w7] [] f2 0 0 (fun r' f' => r' = none ∧ (∀ j, j ≠ 75 → j ≠ 86 → f' j = f j) ∧ ∃ w, KR wi w ∧ f' 75 = some (MO w cv) ∧ w 13 = nI (rwS T true 6 p0).2.2 ∧ w 14 = bI (wrg T true (rwS T true 6 p0)) ∧ w 16 = nI (rl T true 6 p0) ∧ w 17 = nI (rwS T true 6 p0).2.1 ∧ (∃ G1, AR f' 86 36 G1 ∧ ((rwS T true 6 p0).1 = true → ∀ i j, i < (rwS T true 6 p0).2.1 → j < (rl T true 6 p0) → G1 (6 * i + j) = cvl (chI T (p0 + i * ((rl T true 6 p0) + 1) + j))))) := fun hz w7 => by
            refine rn_iconst (v := nI 0) dX12_readsRows_190 (by decide) ?_
            exact noM f2 w2 r c p true _ _ k2 hk2 o2 g13 hlenW g17 g18 hz (dF0 true hz (fun _ => hcw))
          have more : chI T p = nI 47 → r + 1 < 6 → ∀ w7, Wp g MX12_readsRows 191 [some (.ref 75), some (.int (nI 1)), some (.int (nI 6)), some (.int (nI 1)), some (.int (chI T p)), some (.int w5), some (.int (nI 1)), w7] [.int (nI 1)] f2 0 0 (fun r' f' => r' = none ∧ (∀ j, j ≠ 75 → j ≠ 86 → f' j = f j) ∧ ∃ w, KR wi w ∧ f' 75 = some (MO w cv) ∧ w 13 = nI (rwS T true 6 p0).2.2 ∧ w 14 = bI (wrg T true (rwS T true 6 p0)) ∧ w 16 = nI (rl T true 6 p0) ∧ w 17 = nI (rwS T true 6 p0).2.1 ∧ (∃ G1, AR f' 86 36 G1 ∧ ((rwS T true 6 p0).1 = true → ∀ i j, i < (rwS T true 6 p0).2.1 → j < (rl T true 6 p0) → G1 (6 * i + j) = cvl (chI T (p0 + i * ((rl T true 6 p0) + 1) + j))))) := fun hx hr1 w7 => by
            have hpl := chI_ne hx (by decide)
            refine rn_istore dX12_readsRows_191 (Nat.le_of_ble_eq_true rfl) rfl ?_
            refine rn_aload_n dX12_readsRows_193 rfl ?_
            refine rn_dup dX12_readsRows_194 rfl ?_
            refine rn_get dX12_readsRows_195 lfX12_162 o2 rfl ?_
            refine rn_iload dX12_readsRows_198 rfl ?_
            refine rn_if_eq (tgt := 207) dX12_readsRows_200 (by decide) (fun c200 => ?_) (fun c200 => ?_)
            · exact absurd c200 (by decide)
            · refine rn_iconst (v := nI 1) dX12_readsRows_203 (by decide) ?_
              refine rn_goto (tgt := 208) dX12_readsRows_204 (by decide) ?_
              refine rn_iadd dX12_readsRows_208 ?_
              rw [g17, nI_add]
              refine rn_put dX12_readsRows_209 lpX12_162 o2 rfl rfl (Nat.le_of_ble_eq_true rfl) ?_
              rw [ms17]
              refine Wp.gen (e := MO (upd w2 17 (nI (r + 1))) cv) (fun f3 k3 o3 => ?_)
              refine rn_aload_n dX12_readsRows_212 rfl ?_
              refine rn_iload dX12_readsRows_213 rfl ?_
              refine rn_if_eq (tgt := 222) dX12_readsRows_215 (by decide) (fun c215 => ?_) (fun c215 => ?_)
              · exact absurd c215 (by decide)
              · refine rn_iconst (v := nI 0) dX12_readsRows_218 (by decide) ?_
                refine rn_goto (tgt := 226) dX12_readsRows_219 (by decide) ?_
                refine rn_put dX12_readsRows_226 lpX12_165 o3 rfl rfl (Nat.le_of_ble_eq_true rfl) ?_
                rw [ms18]
                refine Wp.gen (e := MO (upd (upd w2 17 (nI (r + 1))) 18 (nI 0)) cv) (fun f4 k4 o4 => ?_)
                refine rn_aload_n dX12_readsRows_229 rfl ?_
                refine rn_dup dX12_readsRows_230 rfl ?_
                refine rn_get dX12_readsRows_231 lfX12_159 o4 rfl ?_
                refine rn_iload dX12_readsRows_234 rfl ?_
                refine rn_if_eq (tgt := 243) dX12_readsRows_236 (by decide) (fun c236 => ?_) (fun c236 => ?_)
                · exact absurd c236 (by decide)
                · refine rn_iconst (v := nI 1) dX12_readsRows_239 (by decide) ?_
                  refine rn_goto (tgt := 244) dX12_readsRows_240 (by decide) ?_
                  refine rn_iadd dX12_readsRows_244 ?_
                  rw [upd_ne (by decide), upd_ne (by decide), g13, nI_add]
                  refine rn_put dX12_readsRows_245 lpX12_159 o4 rfl rfl (Nat.le_of_ble_eq_true rfl) ?_
                  rw [ms13]
                  refine Wp.gen (e := MO (upd (upd (upd w2 17 (nI (r + 1))) 18 (nI 0)) 13 (nI (p + 1))) cv) (fun f5 k5 o5 => ?_)
                  refine rn_iload dX12_readsRows_248 rfl ?_
                  refine rn_istore_n dX12_readsRows_250 (Nat.le_of_ble_eq_true rfl) rfl ?_
                  refine rn_aload_n dX12_readsRows_251 rfl ?_
                  refine rn_iload dX12_readsRows_252 rfl ?_
                  refine rn_if_ne (tgt := 282) dX12_readsRows_254 (by decide) (fun c254 => ?_) (fun c254 => ?_)
                  · refine rn_iconst (v := nI 0) dX12_readsRows_282 (by decide) ?_
                    refine rn_put dX12_readsRows_283 lpX12_174 o5 rfl rfl (Nat.le_of_ble_eq_true rfl) ?_
                    rw [ms14]
                    refine Wp.gen (e := MO (upd (upd (upd (upd w2 17 (nI (r + 1))) 18 (nI 0)) 13 (nI (p + 1))) 14 (nI 0)) cv) (fun f6 k6 o6 => ?_)
                    have k7 : ∀ j, j ≠ 75 → f6 j = f2 j := fun j h => (k6 j h).trans ((k5 j h).trans ((k4 j h).trans (k3 j h)))
                    refine rn_goto (tgt := 33) dX12_readsRows_286 (by decide) ?_
                    obtain ⟨G1, hG1, hc1⟩ := hdat2
                    refine ih _ (by omega) (r + 1) 0 (p + 1) f6 _ _ _ _ _ rfl (fun j a b => (k7 j a).trans (k2 j a b)) ((((hk2.up (by decide)).up (by decide)).up (by decide)).up (by decide)) o6 ((upd_ne (by decide)).trans (upd_eq _ _ _)) (upd_eq _ _ _) ?_ ((upd_ne (by decide)).trans ((upd_ne (by decide)).trans ((upd_ne (by decide)).trans (upd_eq _ _ _)))) ((upd_ne (by decide)).trans ((upd_ne (by decide)).trans (upd_eq _ _ _))) hr1 (Nat.zero_le _) (by rw [hpe, hcw, Nat.add_mul, Nat.one_mul]; omega) (fun i hi => by omega) (Or.inr ⟨by omega, hw0, ?_⟩) ⟨G1, hG1.keep (k7 86 (by decide)), fun i j hij => hc1 i j ?_⟩
                    · rw [if_neg (by omega)]; exact (upd_ne (by decide)).trans ((upd_ne (by decide)).trans ((upd_ne (by decide)).trans ((upd_ne (by decide)).trans hlenW)))
                    · rw [rz1, show 6 - 1 - r = (6 - 1 - (r + 1)) + 1 by omega, rwk, if_pos hx, show p0 + (r + 1) * ((rl T true 6 p0) + 1) = p + 1 by rw [hpe, hcw, Nat.add_mul, Nat.one_mul]; omega]
                    · unfold pdn at *; omega
                  · exact absurd c254 (by decide)
          refine rn_istore dX12_readsRows_162 (Nat.le_of_ble_eq_true rfl) rfl ?_
          refine rn_iload dX12_readsRows_164 rfl ?_
          refine rn_bipush (v := nI 47) dX12_readsRows_166 (by decide) ?_
          refine rn_icmp_ne (tgt := 190) dX12_readsRows_168 (by decide) (fun c168 => ?_) (fun c168 => ?_)
          · refine nm ?_ _
            rw [rz1]
            cases hq : (6 - 1 - r) with
            | zero => rfl
            | succ n => rw [rwk, if_neg c168]
          · refine rn_iload dX12_readsRows_171 rfl ?_
            refine rn_if_eq (tgt := 190) dX12_readsRows_173 (by decide) (fun c173 => ?_) (fun c173 => ?_)
            · exact absurd c173 (by decide)
            · refine rn_aload_n dX12_readsRows_176 rfl ?_
              refine rn_get dX12_readsRows_177 lfX12_162 o2 rfl ?_
              refine rn_iconst (v := nI 1) dX12_readsRows_180 (by decide) ?_
              refine rn_iadd dX12_readsRows_181 ?_
              rw [g17, nI_add]
              refine rn_iload_n dX12_readsRows_182 rfl ?_
              refine rn_icmp_ge (tgt := 190) dX12_readsRows_183 (by decide) (fun c183 => ?_) (fun c183 => ?_)
              · have hge := ge_ex c183 (by omega) (by decide)
                refine nm ?_ _
                rw [rz1, show 6 - 1 - r = 0 by omega, rwk]
              · refine rn_iconst (v := nI 1) dX12_readsRows_186 (by decide) ?_
                refine rn_goto (tgt := 191) dX12_readsRows_187 (by decide) ?_
                exact more c168 (ge_in c183 (by omega)) _
        have nwhole : ¬ (c = (rl T true 6 p0) ∧ 0 < (rl T true 6 p0)) → ∀ (w5 : Int32) w7, Wp g MX12_readsRows 162 [some (.ref 75), some (.int (nI 1)), some (.int (nI 6)), some (.int (nI 1)), some (.int (chI T p)), some (.int w5), w6, w7] [.int (nI 0)] f2 0 0 (fun r' f' => r' = none ∧ (∀ j, j ≠ 75 → j ≠ 86 → f' j = f j) ∧ ∃ w, KR wi w ∧ f' 75 = some (MO w cv) ∧ w 13 = nI (rwS T true 6 p0).2.2 ∧ w 14 = bI (wrg T true (rwS T true 6 p0)) ∧ w 16 = nI (rl T true 6 p0) ∧ w 17 = nI (rwS T true 6 p0).2.1 ∧ (∃ G1, AR f' 86 36 G1 ∧ ((rwS T true 6 p0).1 = true → ∀ i j, i < (rwS T true 6 p0).2.1 → j < (rl T true 6 p0) → G1 (6 * i + j) = cvl (chI T (p0 + i * ((rl T true 6 p0) + 1) + j))))) := fun hnw w5 w7 => by
          have hz : (rwS T true 6 p0) = (false, r + 1, p) := by rw [rz, if_neg hnw]
          have nm : ∀ w7, Wp g MX12_readsRows 190 [some (.ref 75), some (.int (nI 1)), some (.int (nI 6)), some (.int (nI 1)), some (.int (chI T p)), some (.int w5), some (.int (nI 0)), w7] [] f2 0 0 (fun r' f' => r' = none ∧ (∀ j, j ≠ 75 → j ≠ 86 → f' j = f j) ∧ ∃ w, KR wi w ∧ f' 75 = some (MO w cv) ∧ w 13 = nI (rwS T true 6 p0).2.2 ∧ w 14 = bI (wrg T true (rwS T true 6 p0)) ∧ w 16 = nI (rl T true 6 p0) ∧ w 17 = nI (rwS T true 6 p0).2.1 ∧ (∃ G1, AR f' 86 36 G1 ∧ ((rwS T true 6 p0).1 = true → ∀ i j, i < (rwS T true 6 p0).2.1 → j < (rl T true 6 p0) → G1 (6 * i + j) = cvl (chI T (p0 + i * ((rl T true 6 p0) + 1) + j))))) := fun w7 => by
            refine rn_iconst (v := nI 0) dX12_readsRows_190 (by decide) ?_
            exact noM f2 w2 r c p false _ _ k2 hk2 o2 g13 hlenW g17 g18 hz (dF0 false hz (fun h => by cases h))
          refine rn_istore dX12_readsRows_162 (Nat.le_of_ble_eq_true rfl) rfl ?_
          refine rn_iload dX12_readsRows_164 rfl ?_
          refine rn_bipush (v := nI 47) dX12_readsRows_166 (by decide) ?_
          refine rn_icmp_ne (tgt := 190) dX12_readsRows_168 (by decide) (fun c168 => ?_) (fun c168 => ?_)
          · exact nm _
          · refine rn_iload dX12_readsRows_171 rfl ?_
            refine rn_if_eq (tgt := 190) dX12_readsRows_173 (by decide) (fun c173 => ?_) (fun c173 => ?_)
            · exact nm _
            · exact absurd (show nI 0 = 0 from rfl) c173
        refine rn_aload_n dX12_readsRows_139 rfl ?_
        refine rn_get dX12_readsRows_140 lfX12_165 o2 rfl ?_
        rw [g18]
        refine rn_if_le (tgt := 161) dX12_readsRows_143 (by decide) (fun c143 => ?_) (fun c143 => ?_)
        · refine rn_iconst (v := nI 0) dX12_readsRows_161 (by decide) ?_
          have hc0 : c = 0 := Nat.eq_zero_of_not_pos fun q => absurd c143 (nI_nle q (by omega))
          exact nwhole (by omega) _ _
        · refine rn_aload_n dX12_readsRows_146 rfl ?_
          refine rn_get dX12_readsRows_147 lfX12_165 o2 rfl ?_
          refine rn_aload_n dX12_readsRows_150 rfl ?_
          refine rn_get dX12_readsRows_151 lfX12_171 o2 rfl ?_
          rw [g18, hlenW]
          refine rn_icmp_ne (tgt := 161) dX12_readsRows_154 (by decide) (fun c154 => ?_) (fun c154 => ?_)
          · refine rn_iconst (v := nI 0) dX12_readsRows_161 (by decide) ?_
            exact nwhole (fun h => c154 (by rw [h.1])) _ _
          · refine rn_iconst (v := nI 1) dX12_readsRows_157 (by decide) ?_
            refine rn_goto (tgt := 162) dX12_readsRows_158 (by decide) ?_
            have hcp : 0 < c := Nat.pos_of_ne_zero fun q => c143 (by rw [q]; decide)
            have hcw := (nI_eq (by omega) (by omega)).mp c154
            exact whole hcw (by omega) _ _
      -- a character of a row
      have step : c < (if r = 0 then 6 else (rl T true 6 p0)) → Wp g MX12_readsRows 84 [some (.ref 75), some (.int (nI 1)), some (.int (nI 6)), some (.int (nI 1)), some (.int (chI T p)), some (.int (nI 1)), w6, w7] [] f1 0 0 (fun r' f' => r' = none ∧ (∀ j, j ≠ 75 → j ≠ 86 → f' j = f j) ∧ ∃ w, KR wi w ∧ f' 75 = some (MO w cv) ∧ w 13 = nI (rwS T true 6 p0).2.2 ∧ w 14 = bI (wrg T true (rwS T true 6 p0)) ∧ w 16 = nI (rl T true 6 p0) ∧ w 17 = nI (rwS T true 6 p0).2.1 ∧ (∃ G1, AR f' 86 36 G1 ∧ ((rwS T true 6 p0).1 = true → ∀ i j, i < (rwS T true 6 p0).2.1 → j < (rl T true 6 p0) → G1 (6 * i + j) = cvl (chI T (p0 + i * ((rl T true 6 p0) + 1) + j))))) := fun hcr => by
        have hc4 : c < 6 := by
          by_cases h0 : r = 0
          · rw [if_pos h0] at hcr; exact hcr
          · rw [if_neg h0] at hcr; omega
        obtain ⟨G1, hG1, hc1⟩ := id hdat
        have hrc : 6 * r + c < 36 := by omega
        refine rn_aload_n dX12_readsRows_84 rfl ?_
        refine rn_iload dX12_readsRows_85 rfl ?_
        refine rn_iload_n dX12_readsRows_87 rfl ?_
        refine rn_callV dX12_readsRows_88 lmX12_181 ⟨Nat.le_of_ble_eq_true rfl, Nat.le_of_ble_eq_true rfl⟩ (cm_isInRowB g f1 (chI T p) o1 hG1 e17 e18 hrc) o1 rfl rfl (Nat.le_of_ble_eq_true rfl) ?_
        rintro _ f2 ⟨k2, rfl, hy2, hn2⟩
        have o2 := (k2 75 (by decide)).trans o1
        have k12 : ∀ j, j ≠ 75 → j ≠ 86 → f2 j = f j := fun j a b => (k2 j b).trans (k1 j a b)
        cases hok : rowOk true (chI T p) with
        | false =>
          have e := rend (Or.inr hok) f2 w (nI 1) w6 w7 k12 hk o2 e13 e14 e16 e17 e18 ⟨G1, by rw [hn2 hok]; exact hG1, hc1⟩
          refine rn_if_eq (tgt := 139) dX12_readsRows_91 (by decide) (fun c91 => ?_) (fun c91 => ?_)
          · exact e
          · exact absurd (show bI false = 0 from rfl) c91
        | true =>
          have hpl := chI_ok hok
          have nxt : ∀ (f3 : Mm) (v : Nat), v = (if r = 0 then c + 1 else (rl T true 6 p0)) → (∀ j, j ≠ 75 → f3 j = f2 j) → f3 75 = some (MO (upd w 18 (nI (c + 1))) cv) → Wp g MX12_readsRows 123 [some (.ref 75), some (.int (nI 1)), some (.int (nI 6)), some (.int (nI 1)), some (.int (chI T p)), some (.int (nI 1)), w6, w7] [.int (nI v), .ref 75] f3 0 0 (fun r' f' => r' = none ∧ (∀ j, j ≠ 75 → j ≠ 86 → f' j = f j) ∧ ∃ w, KR wi w ∧ f' 75 = some (MO w cv) ∧ w 13 = nI (rwS T true 6 p0).2.2 ∧ w 14 = bI (wrg T true (rwS T true 6 p0)) ∧ w 16 = nI (rl T true 6 p0) ∧ w 17 = nI (rwS T true 6 p0).2.1 ∧ (∃ G1, AR f' 86 36 G1 ∧ ((rwS T true 6 p0).1 = true → ∀ i j, i < (rwS T true 6 p0).2.1 → j < (rl T true 6 p0) → G1 (6 * i + j) = cvl (chI T (p0 + i * ((rl T true 6 p0) + 1) + j))))) := fun f3 v hv k3 o3 => by
            refine rn_put dX12_readsRows_123 lpX12_171 o3 rfl rfl (Nat.le_of_ble_eq_true rfl) ?_
            rw [ms16]
            refine Wp.gen (e := MO (upd (upd w 18 (nI (c + 1))) 16 (nI v)) cv) (fun f4 k4 o4 => ?_)
            refine rn_aload_n dX12_readsRows_126 rfl ?_
            refine rn_dup dX12_readsRows_127 rfl ?_
            refine rn_get dX12_readsRows_128 lfX12_159 o4 rfl ?_
            refine rn_iconst (v := nI 1) dX12_readsRows_131 (by decide) ?_
            refine rn_iadd dX12_readsRows_132 ?_
            rw [upd_ne (by decide), upd_ne (by decide), e13, nI_add]
            refine rn_put dX12_readsRows_133 lpX12_159 o4 rfl rfl (Nat.le_of_ble_eq_true rfl) ?_
            rw [ms13]
            refine Wp.gen (e := MO (upd (upd (upd w 18 (nI (c + 1))) 16 (nI v)) 13 (nI (p + 1))) cv) (fun f5 k5 o5 => ?_)
            have k6 : ∀ j, j ≠ 75 → f5 j = f2 j := fun j h => (k5 j h).trans ((k4 j h).trans (k3 j h))
            refine rn_goto (tgt := 286) dX12_readsRows_136 (by decide) ?_
            refine rn_goto (tgt := 33) dX12_readsRows_286 (by decide) ?_
            skip
            refine ih _ (by omega) r (c + 1) (p + 1) f5 _ _ _ _ _ rfl (fun j a b => (k6 j a).trans (k12 j a b)) (((hk.up (by decide)).up (by decide)).up (by decide)) o5 (upd_eq _ _ _) ((upd_ne (by decide)).trans ((upd_ne (by decide)).trans ((upd_ne (by decide)).trans e14))) (by rw [upd_ne (by decide), upd_eq, hv]) ((upd_ne (by decide)).trans ((upd_ne (by decide)).trans ((upd_ne (by decide)).trans e17))) ((upd_ne (by decide)).trans ((upd_ne (by decide)).trans (upd_eq _ _ _))) hr (by omega) (by omega) (fun i hi => ?_) hI3 ⟨upd G1 (6 * r + c) (cvl (chI T p)), (hy2 hok).keep (k6 86 (by decide)), fun i j hij => ?_⟩
            · by_cases e : i = c
              · rw [e, ← hpe]; exact hok
              · exact hall i (by omega)
            · by_cases e : i = r ∧ j = c
              · rw [e.1, e.2, upd_eq, hpe]
              · unfold pdn at hij
                have hj6 : j < 6 := by omega
                rw [upd_ne (by omega)]
                exact hc1 i j (by unfold pdn; omega)
          refine rn_if_eq (tgt := 139) dX12_readsRows_91 (by decide) (fun c91 => ?_) (fun c91 => ?_)
          · exact absurd c91 (by decide)
          · refine rn_aload_n dX12_readsRows_94 rfl ?_
            refine rn_dup dX12_readsRows_95 rfl ?_
            refine rn_get dX12_readsRows_96 lfX12_165 o2 rfl ?_
            refine rn_iconst (v := nI 1) dX12_readsRows_99 (by decide) ?_
            refine rn_iadd dX12_readsRows_100 ?_
            rw [e18, nI_add]
            refine rn_put dX12_readsRows_101 lpX12_165 o2 rfl rfl (Nat.le_of_ble_eq_true rfl) ?_
            rw [ms18]
            refine Wp.gen (e := MO (upd w 18 (nI (c + 1))) cv) (fun f3 k3 o3 => ?_)
            refine rn_aload_n dX12_readsRows_104 rfl ?_
            refine rn_aload_n dX12_readsRows_105 rfl ?_
            refine rn_get dX12_readsRows_106 lfX12_162 o3 rfl ?_
            rw [upd_ne (by decide), e17]
            refine rn_if_ne (tgt := 119) dX12_readsRows_109 (by decide) (fun c109 => ?_) (fun c109 => ?_)
            · refine rn_aload_n dX12_readsRows_119 rfl ?_
              refine rn_get dX12_readsRows_120 lfX12_171 o3 rfl ?_
              have h0 : ¬ r = 0 := fun h => c109 (by rw [h]; rfl)
              rw [show (upd w 18 (nI (c + 1))) 16 = nI (rl T true 6 p0) by rw [upd_ne (by decide), e16, if_neg h0]]
              exact nxt f3 _ (by rw [if_neg h0]) k3 o3
            · refine rn_aload_n dX12_readsRows_112 rfl ?_
              refine rn_get dX12_readsRows_113 lfX12_165 o3 rfl ?_
              refine rn_goto (tgt := 123) dX12_readsRows_116 (by decide) ?_
              have h0 : r = 0 := (az (by omega)).mp c109
              rw [upd_eq]
              exact nxt f3 _ (by rw [if_pos h0]) k3 o3
      refine rn_iload_n dX12_readsRows_33 rfl ?_
      refine rn_if_eq (tgt := 289) dX12_readsRows_34 (by decide) (fun c34 => ?_) (fun c34 => ?_)
      · exact absurd c34 (by decide)
      · refine rn_aload_n dX12_readsRows_37 rfl ?_
        refine rn_get dX12_readsRows_38 lfX12_174 o1 rfl ?_
        rw [e14]
        refine rn_if_ne (tgt := 289) dX12_readsRows_41 (by decide) (fun c41 => ?_) (fun c41 => ?_)
        · exact absurd (show (0 : Int32) = 0 from rfl) c41
        · refine rn_aload_n dX12_readsRows_44 rfl ?_
          refine rn_callV dX12_readsRows_45 lmX12_178 ⟨Nat.le_of_ble_eq_true rfl, Nat.le_of_ble_eq_true rfl⟩ (cm_here g f1 o1 hT1 e13 ((hk 4 (by omega)).trans h4) (by omega)) o1 rfl rfl (Nat.le_of_ble_eq_true rfl) ?_
          rintro _ _ ⟨rfl, rfl⟩
          refine rn_istore dX12_readsRows_48 (Nat.le_of_ble_eq_true rfl) rfl ?_
          refine rn_aload_n dX12_readsRows_50 rfl ?_
          refine rn_get dX12_readsRows_51 lfX12_165 o1 rfl ?_
          rw [e18]
          refine rn_aload_n dX12_readsRows_54 rfl ?_
          refine rn_get dX12_readsRows_55 lfX12_162 o1 rfl ?_
          rw [e17]
          refine rn_if_ne (tgt := 65) dX12_readsRows_58 (by decide) (fun c58 => ?_) (fun c58 => ?_)
          · refine rn_aload_n dX12_readsRows_65 rfl ?_
            refine rn_get dX12_readsRows_66 lfX12_171 o1 rfl ?_
            refine rn_icmp_ge (tgt := 76) dX12_readsRows_69 (by decide) (fun c69 => ?_) (fun c69 => ?_)
            · refine rn_iconst (v := nI 0) dX12_readsRows_76 (by decide) ?_
              refine rn_istore dX12_readsRows_77 (Nat.le_of_ble_eq_true rfl) rfl ?_
              refine rn_iload dX12_readsRows_79 rfl ?_
              refine rn_if_eq (tgt := 139) dX12_readsRows_81 (by decide) (fun c81 => ?_) (fun c81 => ?_)
              · first | exact absurd c81 (by decide) | exact rend (Or.inl (by rw [if_neg (fun h => c58 (by rw [h]; rfl))]; rw [if_neg (fun h => c58 (by rw [h]; rfl))] at hc; rw [e16, if_neg (fun h => c58 (by rw [h]; rfl))] at c69; have := ge_ex c69 (by omega) (by omega); omega)) f1 w _ _ _ k1 hk o1 e13 e14 e16 e17 e18 hdat | exact rend (Or.inl (by rw [if_pos ((az (by omega)).mp c58)]; rw [if_pos ((az (by omega)).mp c58)] at hc; have := ge_ex c69 (by omega) (by decide); omega)) f1 w _ _ _ k1 hk o1 e13 e14 e16 e17 e18 hdat
              · first | exact absurd c81 (by decide) | exact step (by rw [if_neg (fun h => c58 (by rw [h]; rfl))]; rw [e16, if_neg (fun h => c58 (by rw [h]; rfl))] at c69; exact ge_in c69 (by omega)) | exact step (by rw [if_pos ((az (by omega)).mp c58)]; exact ge_in c69 (by omega)) | exact absurd (show nI 0 = 0 from rfl) c81
            · refine rn_iconst (v := nI 1) dX12_readsRows_72 (by decide) ?_
              refine rn_goto (tgt := 77) dX12_readsRows_73 (by decide) ?_
              refine rn_istore dX12_readsRows_77 (Nat.le_of_ble_eq_true rfl) rfl ?_
              refine rn_iload dX12_readsRows_79 rfl ?_
              refine rn_if_eq (tgt := 139) dX12_readsRows_81 (by decide) (fun c81 => ?_) (fun c81 => ?_)
              · first | exact absurd c81 (by decide) | exact rend (Or.inl (by rw [if_neg (fun h => c58 (by rw [h]; rfl))]; rw [if_neg (fun h => c58 (by rw [h]; rfl))] at hc; rw [e16, if_neg (fun h => c58 (by rw [h]; rfl))] at c69; have := ge_ex c69 (by omega) (by omega); omega)) f1 w _ _ _ k1 hk o1 e13 e14 e16 e17 e18 hdat | exact rend (Or.inl (by rw [if_pos ((az (by omega)).mp c58)]; rw [if_pos ((az (by omega)).mp c58)] at hc; have := ge_ex c69 (by omega) (by decide); omega)) f1 w _ _ _ k1 hk o1 e13 e14 e16 e17 e18 hdat
              · first | exact absurd c81 (by decide) | exact step (by rw [if_neg (fun h => c58 (by rw [h]; rfl))]; rw [e16, if_neg (fun h => c58 (by rw [h]; rfl))] at c69; exact ge_in c69 (by omega)) | exact step (by rw [if_pos ((az (by omega)).mp c58)]; exact ge_in c69 (by omega)) | exact absurd (show nI 0 = 0 from rfl) c81
          · refine rn_iload_n dX12_readsRows_61 rfl ?_
            refine rn_goto (tgt := 69) dX12_readsRows_62 (by decide) ?_
            refine rn_icmp_ge (tgt := 76) dX12_readsRows_69 (by decide) (fun c69 => ?_) (fun c69 => ?_)
            · refine rn_iconst (v := nI 0) dX12_readsRows_76 (by decide) ?_
              refine rn_istore dX12_readsRows_77 (Nat.le_of_ble_eq_true rfl) rfl ?_
              refine rn_iload dX12_readsRows_79 rfl ?_
              refine rn_if_eq (tgt := 139) dX12_readsRows_81 (by decide) (fun c81 => ?_) (fun c81 => ?_)
              · first | exact absurd c81 (by decide) | exact rend (Or.inl (by rw [if_neg (fun h => c58 (by rw [h]; rfl))]; rw [if_neg (fun h => c58 (by rw [h]; rfl))] at hc; rw [e16, if_neg (fun h => c58 (by rw [h]; rfl))] at c69; have := ge_ex c69 (by omega) (by omega); omega)) f1 w _ _ _ k1 hk o1 e13 e14 e16 e17 e18 hdat | exact rend (Or.inl (by rw [if_pos ((az (by omega)).mp c58)]; rw [if_pos ((az (by omega)).mp c58)] at hc; have := ge_ex c69 (by omega) (by decide); omega)) f1 w _ _ _ k1 hk o1 e13 e14 e16 e17 e18 hdat
              · first | exact absurd c81 (by decide) | exact step (by rw [if_neg (fun h => c58 (by rw [h]; rfl))]; rw [e16, if_neg (fun h => c58 (by rw [h]; rfl))] at c69; exact ge_in c69 (by omega)) | exact step (by rw [if_pos ((az (by omega)).mp c58)]; exact ge_in c69 (by omega)) | exact absurd (show nI 0 = 0 from rfl) c81
            · refine rn_iconst (v := nI 1) dX12_readsRows_72 (by decide) ?_
              refine rn_goto (tgt := 77) dX12_readsRows_73 (by decide) ?_
              refine rn_istore dX12_readsRows_77 (Nat.le_of_ble_eq_true rfl) rfl ?_
              refine rn_iload dX12_readsRows_79 rfl ?_
              refine rn_if_eq (tgt := 139) dX12_readsRows_81 (by decide) (fun c81 => ?_) (fun c81 => ?_)
              · first | exact absurd c81 (by decide) | exact rend (Or.inl (by rw [if_neg (fun h => c58 (by rw [h]; rfl))]; rw [if_neg (fun h => c58 (by rw [h]; rfl))] at hc; rw [e16, if_neg (fun h => c58 (by rw [h]; rfl))] at c69; have := ge_ex c69 (by omega) (by omega); omega)) f1 w _ _ _ k1 hk o1 e13 e14 e16 e17 e18 hdat | exact rend (Or.inl (by rw [if_pos ((az (by omega)).mp c58)]; rw [if_pos ((az (by omega)).mp c58)] at hc; have := ge_ex c69 (by omega) (by decide); omega)) f1 w _ _ _ k1 hk o1 e13 e14 e16 e17 e18 hdat
              · first | exact absurd c81 (by decide) | exact step (by rw [if_neg (fun h => c58 (by rw [h]; rfl))]; rw [e16, if_neg (fun h => c58 (by rw [h]; rfl))] at c69; exact ge_in c69 (by omega)) | exact step (by rw [if_pos ((az (by omega)).mp c58)]; exact ge_in c69 (by omega)) | exact absurd (show nI 0 = 0 from rfl) c81
  refine rn_iload_n dX12_readsRows_0 rfl ?_
  refine rn_if_eq (tgt := 9) dX12_readsRows_1 (by decide) (fun c1 => ?_) (fun c1 => ?_)
  · refine rn_iconst (v := nI 4) dX12_readsRows_9 (by decide) ?_
    refine rn_istore_n dX12_readsRows_10 (Nat.le_of_ble_eq_true rfl) rfl ?_
    refine rn_aload_n dX12_readsRows_11 rfl ?_
    refine rn_iconst (v := nI 0) dX12_readsRows_12 (by decide) ?_
    refine rn_put dX12_readsRows_13 lpX12_171 hM rfl rfl (Nat.le_of_ble_eq_true rfl) ?_
    rw [ms16]
    refine Wp.gen (e := MO (upd wi 16 (nI 0)) cv) (fun f1 k1 o1 => ?_)
    refine rn_aload_n dX12_readsRows_16 rfl ?_
    refine rn_iconst (v := nI 0) dX12_readsRows_17 (by decide) ?_
    refine rn_put dX12_readsRows_18 lpX12_162 o1 rfl rfl (Nat.le_of_ble_eq_true rfl) ?_
    rw [ms17]
    refine Wp.gen (e := MO (upd (upd wi 16 (nI 0)) 17 (nI 0)) cv) (fun f2 k2 o2 => ?_)
    refine rn_aload_n dX12_readsRows_21 rfl ?_
    refine rn_iconst (v := nI 0) dX12_readsRows_22 (by decide) ?_
    refine rn_put dX12_readsRows_23 lpX12_165 o2 rfl rfl (Nat.le_of_ble_eq_true rfl) ?_
    rw [ms18]
    refine Wp.gen (e := MO (upd (upd (upd wi 16 (nI 0)) 17 (nI 0)) 18 (nI 0)) cv) (fun f3 k3 o3 => ?_)
    refine rn_aload_n dX12_readsRows_26 rfl ?_
    refine rn_iconst (v := nI 0) dX12_readsRows_27 (by decide) ?_
    refine rn_put dX12_readsRows_28 lpX12_168 o3 rfl rfl (Nat.le_of_ble_eq_true rfl) ?_
    rw [ms19]
    refine Wp.gen (e := MO (upd (upd (upd (upd wi 16 (nI 0)) 17 (nI 0)) 18 (nI 0)) 19 (nI 0)) cv) (fun f4 k4 o4 => ?_)
    have k5 : ∀ j, j ≠ 75 → f4 j = f j := fun j h => (k4 j h).trans ((k3 j h).trans ((k2 j h).trans (k1 j h)))
    refine rn_iconst (v := nI 1) dX12_readsRows_31 (by decide) ?_
    refine rn_istore_n dX12_readsRows_32 (Nat.le_of_ble_eq_true rfl) rfl ?_
    exact absurd c1 (by decide)
  · refine rn_bipush (v := nI 6) dX12_readsRows_4 (by decide) ?_
    refine rn_goto (tgt := 10) dX12_readsRows_6 (by decide) ?_
    refine rn_istore_n dX12_readsRows_10 (Nat.le_of_ble_eq_true rfl) rfl ?_
    refine rn_aload_n dX12_readsRows_11 rfl ?_
    refine rn_iconst (v := nI 0) dX12_readsRows_12 (by decide) ?_
    refine rn_put dX12_readsRows_13 lpX12_171 hM rfl rfl (Nat.le_of_ble_eq_true rfl) ?_
    rw [ms16]
    refine Wp.gen (e := MO (upd wi 16 (nI 0)) cv) (fun f1 k1 o1 => ?_)
    refine rn_aload_n dX12_readsRows_16 rfl ?_
    refine rn_iconst (v := nI 0) dX12_readsRows_17 (by decide) ?_
    refine rn_put dX12_readsRows_18 lpX12_162 o1 rfl rfl (Nat.le_of_ble_eq_true rfl) ?_
    rw [ms17]
    refine Wp.gen (e := MO (upd (upd wi 16 (nI 0)) 17 (nI 0)) cv) (fun f2 k2 o2 => ?_)
    refine rn_aload_n dX12_readsRows_21 rfl ?_
    refine rn_iconst (v := nI 0) dX12_readsRows_22 (by decide) ?_
    refine rn_put dX12_readsRows_23 lpX12_165 o2 rfl rfl (Nat.le_of_ble_eq_true rfl) ?_
    rw [ms18]
    refine Wp.gen (e := MO (upd (upd (upd wi 16 (nI 0)) 17 (nI 0)) 18 (nI 0)) cv) (fun f3 k3 o3 => ?_)
    refine rn_aload_n dX12_readsRows_26 rfl ?_
    refine rn_iconst (v := nI 0) dX12_readsRows_27 (by decide) ?_
    refine rn_put dX12_readsRows_28 lpX12_168 o3 rfl rfl (Nat.le_of_ble_eq_true rfl) ?_
    rw [ms19]
    refine Wp.gen (e := MO (upd (upd (upd (upd wi 16 (nI 0)) 17 (nI 0)) 18 (nI 0)) 19 (nI 0)) cv) (fun f4 k4 o4 => ?_)
    have k5 : ∀ j, j ≠ 75 → f4 j = f j := fun j h => (k4 j h).trans ((k3 j h).trans ((k2 j h).trans (k1 j h)))
    refine rn_iconst (v := nI 1) dX12_readsRows_31 (by decide) ?_
    refine rn_istore_n dX12_readsRows_32 (Nat.le_of_ble_eq_true rfl) rfl ?_
    exact loop _ 0 0 p0 f4 _ _ _ _ _ rfl (fun j a b => k5 j a) ((((KR.up (fun _ _ => rfl) (by decide)).up (by decide)).up (by decide)).up (by decide)) o4 ((upd_ne (by decide)).trans ((upd_ne (by decide)).trans ((upd_ne (by decide)).trans ((upd_ne (by decide)).trans h13)))) ((upd_ne (by decide)).trans ((upd_ne (by decide)).trans ((upd_ne (by decide)).trans ((upd_ne (by decide)).trans h14)))) ((upd_ne (by decide)).trans ((upd_ne (by decide)).trans ((upd_ne (by decide)).trans (upd_eq _ _ _)))) ((upd_ne (by decide)).trans ((upd_ne (by decide)).trans (upd_eq _ _ _))) ((upd_ne (by decide)).trans (upd_eq _ _ _)) (by decide) (Nat.zero_le _) (by omega) (fun i hi => by omega) (Or.inl rfl) ⟨G, hG.keep (k5 86 (by decide)), fun i j h => by unfold pdn at h; omega⟩
theorem cm_readsRowsS (g : GG) (f : Mm) {wi : Nat → Int32} {cv : Int64} {T : List Nat} {p0 : Nat} (hM : f 75 = some (MO wi cv)) (hT : TXm f T) (h4 : wi 4 = nI T.length) (h13 : wi 13 = nI p0) (h14 : wi 14 = 0) (hp : p0 ≤ 170) : Ct g MX12_readsRows [.ref 75, .int (nI 0)] f 0 0 (fun r' f' => r' = none ∧ (∀ j, j ≠ 75 → f' j = f j) ∧ ∃ w, KR wi w ∧ f' 75 = some (MO w cv) ∧ w 13 = nI (rwS T false 4 p0).2.2 ∧ w 14 = bI (wrg T false (rwS T false 4 p0)) ∧ w 16 = nI (rl T false 4 p0) ∧ w 17 = nI (rwS T false 4 p0).2.1 ∧ (∃ s1, s1 < 65536 ∧ w 19 = nI s1 ∧ ((rwS T false 4 p0).1 = true → shB T p0 (rl T false 4 p0) (fun i j => i < (rwS T false 4 p0).2.1 ∧ j < (rl T false 4 p0)) s1))) := by
  refine Ct.of ok_MX12_readsRows (Nat.le_of_ble_eq_true rfl) ?_
  change Wp g MX12_readsRows 0 [some (.ref 75), some (.int (nI 0)), none, none, none, none, none, none] [] f 0 0 _
  have hl160 : T.length ≤ 160 := by
    obtain ⟨_, _, h, _⟩ := hT
    exact h
  have hW6 : (rl T false 4 p0) ≤ 4 := rl_le T false 4 p0
  have ex : ∀ (f1 : Mm) (w : Nat → Int32) (r : Nat) (w1 w2 w3 w4 w5 w6 w7 : Option Value), (∀ j, j ≠ 75 → f1 j = f j) → KR wi w → f1 75 = some (MO w cv) → w 13 = nI (rwS T false 4 p0).2.2 → w 14 = bI (wrg T false (rwS T false 4 p0)) → w 16 = nI (rl T false 4 p0) → w 17 = nI r → (rwS T false 4 p0).2.1 = r + 1 → (∃ s1, s1 < 65536 ∧ w 19 = nI s1 ∧ ((rwS T false 4 p0).1 = true → shB T p0 (rl T false 4 p0) (fun i j => i < (rwS T false 4 p0).2.1 ∧ j < (rl T false 4 p0)) s1)) → Wp g MX12_readsRows 289 [some (.ref 75), w1, w2, w3, w4, w5, w6, w7] [] f1 0 0 (fun r' f' => r' = none ∧ (∀ j, j ≠ 75 → f' j = f j) ∧ ∃ w, KR wi w ∧ f' 75 = some (MO w cv) ∧ w 13 = nI (rwS T false 4 p0).2.2 ∧ w 14 = bI (wrg T false (rwS T false 4 p0)) ∧ w 16 = nI (rl T false 4 p0) ∧ w 17 = nI (rwS T false 4 p0).2.1 ∧ (∃ s1, s1 < 65536 ∧ w 19 = nI s1 ∧ ((rwS T false 4 p0).1 = true → shB T p0 (rl T false 4 p0) (fun i j => i < (rwS T false 4 p0).2.1 ∧ j < (rl T false 4 p0)) s1))) := fun f1 w r w1 w2 w3 w4 w5 w6 w7 k1 hk o1 e13 e14 e16 e17 hr hd => by
    refine rn_aload_n dX12_readsRows_289 rfl ?_
    refine rn_dup dX12_readsRows_290 rfl ?_
    refine rn_get dX12_readsRows_291 lfX12_162 o1 rfl ?_
    refine rn_iconst (v := nI 1) dX12_readsRows_294 (by decide) ?_
    refine rn_iadd dX12_readsRows_295 ?_
    rw [e17, nI_add]
    refine rn_put dX12_readsRows_296 lpX12_162 o1 rfl rfl (Nat.le_of_ble_eq_true rfl) ?_
    rw [ms17]
    refine Wp.gen (e := MO (upd w 17 (nI (r + 1))) cv) (fun f2 k2 o2 => ?_)
    refine rn_vret dX12_readsRows_299 rfl ?_
    obtain ⟨s1, hs1, e19, hc1⟩ := hd
    exact ⟨rfl, fun j a => (k2 j a).trans (k1 j a), _, hk.up (by decide), o2, (upd_ne (by decide)).trans e13, (upd_ne (by decide)).trans e14, (upd_ne (by decide)).trans e16, by rw [upd_eq, hr], s1, hs1, (upd_ne (by decide)).trans e19, hc1⟩
  have noM : ∀ (f1 : Mm) (w : Nat → Int32) (r c p : Nat) (zb : Bool) (w5 w7 : Option Value), (∀ j, j ≠ 75 → f1 j = f j) → KR wi w → f1 75 = some (MO w cv) → w 13 = nI p → w 16 = nI (rl T false 4 p0) → w 17 = nI r → w 18 = nI c → (rwS T false 4 p0) = (zb, r + 1, p) → (∃ s1, s1 < 65536 ∧ w 19 = nI s1 ∧ ((rwS T false 4 p0).1 = true → shB T p0 (rl T false 4 p0) (fun i j => i < (rwS T false 4 p0).2.1 ∧ j < (rl T false 4 p0)) s1)) → Wp g MX12_readsRows 191 [some (.ref 75), some (.int (nI 0)), some (.int (nI 4)), some (.int (nI 1)), some (.int (chI T p)), w5, some (.int (bI zb)), w7] [.int (nI 0)] f1 0 0 (fun r' f' => r' = none ∧ (∀ j, j ≠ 75 → f' j = f j) ∧ ∃ w, KR wi w ∧ f' 75 = some (MO w cv) ∧ w 13 = nI (rwS T false 4 p0).2.2 ∧ w 14 = bI (wrg T false (rwS T false 4 p0)) ∧ w 16 = nI (rl T false 4 p0) ∧ w 17 = nI (rwS T false 4 p0).2.1 ∧ (∃ s1, s1 < 65536 ∧ w 19 = nI s1 ∧ ((rwS T false 4 p0).1 = true → shB T p0 (rl T false 4 p0) (fun i j => i < (rwS T false 4 p0).2.1 ∧ j < (rl T false 4 p0)) s1))) := fun f1 w r c p zb w5 w7 k1 hk o1 e13 e16 e17 e18 hz hd => by
    have u17 := upd_id e17
    have u18 := upd_id e18
    have u13 := upd_id e13
    have fin : ∀ v : Bool, v = wrg T false (rwS T false 4 p0) → Wp g MX12_readsRows 283 [some (.ref 75), some (.int (nI 0)), some (.int (nI 4)), some (.int (nI 0)), some (.int (chI T p)), w5, some (.int (bI zb)), some (.int (nI 0))] [.int (bI v), .ref 75] f1 0 0 (fun r' f' => r' = none ∧ (∀ j, j ≠ 75 → f' j = f j) ∧ ∃ w, KR wi w ∧ f' 75 = some (MO w cv) ∧ w 13 = nI (rwS T false 4 p0).2.2 ∧ w 14 = bI (wrg T false (rwS T false 4 p0)) ∧ w 16 = nI (rl T false 4 p0) ∧ w 17 = nI (rwS T false 4 p0).2.1 ∧ (∃ s1, s1 < 65536 ∧ w 19 = nI s1 ∧ ((rwS T false 4 p0).1 = true → shB T p0 (rl T false 4 p0) (fun i j => i < (rwS T false 4 p0).2.1 ∧ j < (rl T false 4 p0)) s1))) := fun v hv => by
      have go : ∀ (f2 : Mm), (∀ j, j ≠ 75 → f2 j = f1 j) → f2 75 = some (MO (upd w 14 (bI v)) cv) → Wp g MX12_readsRows 286 [some (.ref 75), some (.int (nI 0)), some (.int (nI 4)), some (.int (nI 0)), some (.int (chI T p)), w5, some (.int (bI zb)), some (.int (nI 0))] [] f2 0 0 (fun r' f' => r' = none ∧ (∀ j, j ≠ 75 → f' j = f j) ∧ ∃ w, KR wi w ∧ f' 75 = some (MO w cv) ∧ w 13 = nI (rwS T false 4 p0).2.2 ∧ w 14 = bI (wrg T false (rwS T false 4 p0)) ∧ w 16 = nI (rl T false 4 p0) ∧ w 17 = nI (rwS T false 4 p0).2.1 ∧ (∃ s1, s1 < 65536 ∧ w 19 = nI s1 ∧ ((rwS T false 4 p0).1 = true → shB T p0 (rl T false 4 p0) (fun i j => i < (rwS T false 4 p0).2.1 ∧ j < (rl T false 4 p0)) s1))) := fun f2 k2 o2 => by
        obtain ⟨s1, hs1, e19, hc1⟩ := hd
        have e := ex f2 (upd w 14 (bI v)) r (some (.int (nI 0))) (some (.int (nI 4))) (some (.int (nI 0))) (some (.int (chI T p))) w5 (some (.int (bI zb))) (some (.int (nI 0))) (fun j a => (k2 j a).trans (k1 j a)) (hk.up (by decide)) o2 (by rw [hz]; exact (upd_ne (by decide)).trans e13) (by rw [upd_eq, hv]) ((upd_ne (by decide)).trans e16) ((upd_ne (by decide)).trans e17) (by rw [hz]) ⟨s1, hs1, (upd_ne (by decide)).trans e19, hc1⟩
        refine rn_goto (tgt := 33) dX12_readsRows_286 (by decide) ?_
        refine rn_iload_n dX12_readsRows_33 rfl ?_
        refine rn_if_eq (tgt := 289) dX12_readsRows_34 (by decide) (fun c34 => ?_) (fun c34 => ?_)
        · exact e
        · exact absurd (show nI 0 = 0 from rfl) c34
      cases v with
      | true =>
        refine rn_put dX12_readsRows_283 lpX12_174 o1 rfl rfl (Nat.le_of_ble_eq_true rfl) ?_
        rw [ms14]
        refine Wp.gen (e := MO (upd w 14 (bI true)) cv) (fun f2 k2 o2 => ?_)
        exact go f2 k2 o2
      | false =>
        refine rn_put dX12_readsRows_283 lpX12_174 o1 rfl rfl (Nat.le_of_ble_eq_true rfl) ?_
        rw [ms14]
        refine Wp.gen (e := MO (upd w 14 (bI false)) cv) (fun f2 k2 o2 => ?_)
        exact go f2 k2 o2
    refine rn_istore dX12_readsRows_191 (Nat.le_of_ble_eq_true rfl) rfl ?_
    refine rn_aload_n dX12_readsRows_193 rfl ?_
    refine rn_dup dX12_readsRows_194 rfl ?_
    refine rn_get dX12_readsRows_195 lfX12_162 o1 rfl ?_
    refine rn_iload dX12_readsRows_198 rfl ?_
    refine rn_if_eq (tgt := 207) dX12_readsRows_200 (by decide) (fun c200 => ?_) (fun c200 => ?_)
    · refine rn_iconst (v := nI 0) dX12_readsRows_207 (by decide) ?_
      refine rn_iadd dX12_readsRows_208 ?_
      rw [e17, show nI r + nI 0 = nI r from nI_add r 0]
      refine rn_put dX12_readsRows_209 lpX12_162 o1 rfl rfl (Nat.le_of_ble_eq_true rfl) ?_
      rw [ms17]
      rw [u17, up_self o1]
      refine rn_aload_n dX12_readsRows_212 rfl ?_
      refine rn_iload dX12_readsRows_213 rfl ?_
      refine rn_if_eq (tgt := 222) dX12_readsRows_215 (by decide) (fun c215 => ?_) (fun c215 => ?_)
      · refine rn_aload_n dX12_readsRows_222 rfl ?_
        refine rn_get dX12_readsRows_223 lfX12_165 o1 rfl ?_
        rw [e18]
        refine rn_put dX12_readsRows_226 lpX12_165 o1 rfl rfl (Nat.le_of_ble_eq_true rfl) ?_
        rw [ms18]
        rw [u18, up_self o1]
        refine rn_aload_n dX12_readsRows_229 rfl ?_
        refine rn_dup dX12_readsRows_230 rfl ?_
        refine rn_get dX12_readsRows_231 lfX12_159 o1 rfl ?_
        refine rn_iload dX12_readsRows_234 rfl ?_
        refine rn_if_eq (tgt := 243) dX12_readsRows_236 (by decide) (fun c236 => ?_) (fun c236 => ?_)
        · refine rn_iconst (v := nI 0) dX12_readsRows_243 (by decide) ?_
          refine rn_iadd dX12_readsRows_244 ?_
          rw [e13, show nI p + nI 0 = nI p from nI_add p 0]
          refine rn_put dX12_readsRows_245 lpX12_159 o1 rfl rfl (Nat.le_of_ble_eq_true rfl) ?_
          rw [ms13]
          rw [u13, up_self o1]
          refine rn_iload dX12_readsRows_248 rfl ?_
          refine rn_istore_n dX12_readsRows_250 (Nat.le_of_ble_eq_true rfl) rfl ?_
          refine rn_aload_n dX12_readsRows_251 rfl ?_
          refine rn_iload dX12_readsRows_252 rfl ?_
          refine rn_if_ne (tgt := 282) dX12_readsRows_254 (by decide) (fun c254 => ?_) (fun c254 => ?_)
          · refine rn_iconst (v := nI 0) dX12_readsRows_282 (by decide) ?_
            first | exact absurd (show nI 0 = 0 from rfl) c254 | exact fin false (by rw [wrg, hz, bI_n0.mp c259, decide_eq_false c266, show rowOk false (chI T p) = false from bI_0.mp c275]; rfl)
          · refine rn_iload dX12_readsRows_257 rfl ?_
            refine rn_if_eq (tgt := 278) dX12_readsRows_259 (by decide) (fun c259 => ?_) (fun c259 => ?_)
            · refine rn_iconst (v := nI 1) dX12_readsRows_278 (by decide) ?_
              refine rn_goto (tgt := 283) dX12_readsRows_279 (by decide) ?_
              first | exact fin true (by rw [wrg, hz, bI_0.mp c259]; rfl) | exact fin true (by rw [wrg, hz, decide_eq_true c266, Bool.true_or, Bool.or_true]) | exact fin true (by rw [wrg, hz, show rowOk false (chI T p) = true from bI_n0.mp c275, Bool.or_true, Bool.or_true])
            · refine rn_iload dX12_readsRows_262 rfl ?_
              refine rn_bipush (v := nI 47) dX12_readsRows_264 (by decide) ?_
              refine rn_icmp_eq (tgt := 278) dX12_readsRows_266 (by decide) (fun c266 => ?_) (fun c266 => ?_)
              · refine rn_iconst (v := nI 1) dX12_readsRows_278 (by decide) ?_
                refine rn_goto (tgt := 283) dX12_readsRows_279 (by decide) ?_
                first | exact fin true (by rw [wrg, hz, bI_0.mp c259]; rfl) | exact fin true (by rw [wrg, hz, decide_eq_true c266, Bool.true_or, Bool.or_true]) | exact fin true (by rw [wrg, hz, show rowOk false (chI T p) = true from bI_n0.mp c275, Bool.or_true, Bool.or_true])
              · refine rn_iload dX12_readsRows_269 rfl ?_
                refine rn_iload_n dX12_readsRows_271 rfl ?_
                refine rn_callS dX12_readsRows_272 lmX12_185 ⟨Nat.le_of_ble_eq_true rfl, Nat.le_of_ble_eq_true rfl⟩ (cm_isPartS g f1 (chI T p)) rfl rfl (Nat.le_of_ble_eq_true rfl) ?_
                rintro _ _ ⟨rfl, rfl⟩
                refine rn_if_eq (tgt := 282) dX12_readsRows_275 (by decide) (fun c275 => ?_) (fun c275 => ?_)
                · refine rn_iconst (v := nI 0) dX12_readsRows_282 (by decide) ?_
                  first | exact absurd (show nI 0 = 0 from rfl) c254 | exact fin false (by rw [wrg, hz, bI_n0.mp c259, decide_eq_false c266, show rowOk false (chI T p) = false from bI_0.mp c275]; rfl)
                · refine rn_iconst (v := nI 1) dX12_readsRows_278 (by decide) ?_
                  refine rn_goto (tgt := 283) dX12_readsRows_279 (by decide) ?_
                  first | exact fin true (by rw [wrg, hz, bI_0.mp c259]; rfl) | exact fin true (by rw [wrg, hz, decide_eq_true c266, Bool.true_or, Bool.or_true]) | exact fin true (by rw [wrg, hz, show rowOk false (chI T p) = true from bI_n0.mp c275, Bool.or_true, Bool.or_true])
        · exact absurd (show nI 0 = 0 from rfl) c236
      · exact absurd (show nI 0 = 0 from rfl) c215
    · exact absurd (show nI 0 = 0 from rfl) c200
  have loop : ∀ (d r c p : Nat) (f1 : Mm) (w : Nat → Int32) (w4 w5 w6 w7 : Option Value), 400 - p = d → (∀ j, j ≠ 75 → f1 j = f j) → KR wi w → f1 75 = some (MO w cv) → w 13 = nI p → w 14 = 0 → w 16 = nI (if r = 0 then c else (rl T false 4 p0)) → w 17 = nI r → w 18 = nI c → r < 4 → c ≤ (if r = 0 then 4 else (rl T false 4 p0)) → p = p0 + r * ((rl T false 4 p0) + 1) + c → (∀ i, i < c → rowOk false (chI T (p0 + r * ((rl T false 4 p0) + 1) + i)) = true) → (r = 0 ∨ (1 ≤ r ∧ 0 < (rl T false 4 p0) ∧ (rwS T false 4 p0) = (if rl T false (rl T false 4 p0) (p0 + r * ((rl T false 4 p0) + 1)) = (rl T false 4 p0) then rwk T false (rl T false 4 p0) (4 - 1 - r) (r + 1) (p0 + r * ((rl T false 4 p0) + 1) + (rl T false 4 p0)) else (false, r + 1, p0 + r * ((rl T false 4 p0) + 1) + rl T false (rl T false 4 p0) (p0 + r * ((rl T false 4 p0) + 1)))))) → (∃ s1, s1 < 65536 ∧ w 19 = nI s1 ∧ shB T p0 (rl T false 4 p0) (pdn r (rl T false 4 p0) c) s1) → Wp g MX12_readsRows 33 [some (.ref 75), some (.int (nI 0)), some (.int (nI 4)), some (.int (nI 1)), w4, w5, w6, w7] [] f1 0 0 (fun r' f' => r' = none ∧ (∀ j, j ≠ 75 → f' j = f j) ∧ ∃ w, KR wi w ∧ f' 75 = some (MO w cv) ∧ w 13 = nI (rwS T false 4 p0).2.2 ∧ w 14 = bI (wrg T false (rwS T false 4 p0)) ∧ w 16 = nI (rl T false 4 p0) ∧ w 17 = nI (rwS T false 4 p0).2.1 ∧ (∃ s1, s1 < 65536 ∧ w 19 = nI s1 ∧ ((rwS T false 4 p0).1 = true → shB T p0 (rl T false 4 p0) (fun i j => i < (rwS T false 4 p0).2.1 ∧ j < (rl T false 4 p0)) s1))) := by
    intro d
    induction d using Nat.strongRecOn with
    | ind d ih =>
      intro r c p f1 w w4 w5 w6 w7 hd k1 hk o1 e13 e14 e16 e17 e18 hr hc hpe hall hI3 hdat
      have hT1 : TXm f1 T := hT.keep (k1 78 (by decide))
      have hmul : r * ((rl T false 4 p0) + 1) ≤ 6 * 7 := Nat.mul_le_mul (by omega) (by omega)
      have hc6 : c ≤ 4 := by
        by_cases h0 : r = 0
        · rw [if_pos h0] at hc; exact hc
        · rw [if_neg h0] at hc; omega
      have hp3 : p < 300 := by omega
      -- the end of a row
      have rend : (c = (if r = 0 then 4 else (rl T false 4 p0)) ∨ rowOk false (chI T p) = false) → ∀ (f2 : Mm) (w2 : Nat → Int32) (w5 : Int32) (w6 w7 : Option Value), (∀ j, j ≠ 75 → f2 j = f j) → KR wi w2 → f2 75 = some (MO w2 cv) → w2 13 = nI p → w2 14 = 0 → w2 16 = nI (if r = 0 then c else (rl T false 4 p0)) → w2 17 = nI r → w2 18 = nI c → (∃ s1, s1 < 65536 ∧ w2 19 = nI s1 ∧ shB T p0 (rl T false 4 p0) (pdn r (rl T false 4 p0) c) s1) → Wp g MX12_readsRows 139 [some (.ref 75), some (.int (nI 0)), some (.int (nI 4)), some (.int (nI 1)), some (.int (chI T p)), some (.int w5), w6, w7] [] f2 0 0 (fun r' f' => r' = none ∧ (∀ j, j ≠ 75 → f' j = f j) ∧ ∃ w, KR wi w ∧ f' 75 = some (MO w cv) ∧ w 13 = nI (rwS T false 4 p0).2.2 ∧ w 14 = bI (wrg T false (rwS T false 4 p0)) ∧ w 16 = nI (rl T false 4 p0) ∧ w 17 = nI (rwS T false 4 p0).2.1 ∧ (∃ s1, s1 < 65536 ∧ w 19 = nI s1 ∧ ((rwS T false 4 p0).1 = true → shB T p0 (rl T false 4 p0) (fun i j => i < (rwS T false 4 p0).2.1 ∧ j < (rl T false 4 p0)) s1))) := fun hend f2 w2 w5 w6 w7 k2 hk2 o2 g13 g14 g16 g17 g18 hdat2 => by
        have hn : c = (if r = 0 then (rl T false 4 p0) else rl T false (rl T false 4 p0) (p0 + r * ((rl T false 4 p0) + 1))) := by
          by_cases h0 : r = 0
          · rw [if_pos h0]
            rw [if_pos h0] at hc hend
            refine (rl_eq hc (fun i hi => ?_) ?_).symm
            · have := hall i hi
              rw [h0, Nat.zero_mul, Nat.add_zero] at this
              exact this
            · rw [hpe, h0, Nat.zero_mul, Nat.add_zero] at hend
              exact hend
          · rw [if_neg h0]
            rw [if_neg h0] at hc hend
            rw [hpe] at hend
            exact (rl_eq hc hall hend).symm
        have rz : (rwS T false 4 p0) = if c = (rl T false 4 p0) ∧ 0 < (rl T false 4 p0) then rwk T false (rl T false 4 p0) (4 - 1 - r) (r + 1) p else (false, r + 1, p) := by
          rcases hI3 with h0 | ⟨h1, h2, h3⟩
          · rw [if_pos h0] at hn
            rw [rwS]
            by_cases hw0 : (rl T false 4 p0) = 0
            · rw [if_pos hw0, if_neg (by omega), hpe, h0, hn, hw0]
              simp
            · rw [if_neg hw0, if_pos ⟨hn, by omega⟩, hpe, h0, hn]
              simp
          · rw [if_neg (by omega)] at hn
            rw [h3, ← hn]
            by_cases hcw : c = (rl T false 4 p0)
            · rw [if_pos hcw, if_pos ⟨hcw, h2⟩, hpe, ← hcw]
            · rw [if_neg hcw, if_neg (fun h => hcw h.1), hpe]
        have hlenW : w2 16 = nI (rl T false 4 p0) := by
          rw [g16]
          by_cases h0 : r = 0
          · rw [if_pos h0]; rw [if_pos h0] at hn; rw [hn]
          · rw [if_neg h0]
        have dF0 : ∀ zb, (rwS T false 4 p0) = (zb, r + 1, p) → (zb = true → c = (rl T false 4 p0)) → (∃ s1, s1 < 65536 ∧ w2 19 = nI s1 ∧ ((rwS T false 4 p0).1 = true → shB T p0 (rl T false 4 p0) (fun i j => i < (rwS T false 4 p0).2.1 ∧ j < (rl T false 4 p0)) s1)) := fun zb hz hzb => by
          obtain ⟨s1, hs1, e19, hc1⟩ := hdat2
          refine ⟨s1, hs1, e19, fun ht => shB_ext hc1 (fun i j _ _ => ?_)⟩
          rw [hz] at ht ⊢
          have hcW := hzb ht
          unfold pdn
          show _ ↔ i < r + 1 ∧ _
          omega
        have whole : c = (rl T false 4 p0) → 0 < (rl T false 4 p0) → ∀ (w5 : Int32) w7, Wp g MX12_readsRows 162 [some (.ref 75), some (.int (nI 0)), some (.int (nI 4)), some (.int (nI 1)), some (.int (chI T p)), some (.int w5), w6, w7] [.int (nI 1)] f2 0 0 (fun r' f' => r' = none ∧ (∀ j, j ≠ 75 → f' j = f j) ∧ ∃ w, KR wi w ∧ f' 75 = some (MO w cv) ∧ w 13 = nI (rwS T false 4 p0).2.2 ∧ w 14 = bI (wrg T false (rwS T false 4 p0)) ∧ w 16 = nI (rl T false 4 p0) ∧ w 17 = nI (rwS T false 4 p0).2.1 ∧ (∃ s1, s1 < 65536 ∧ w 19 = nI s1 ∧ ((rwS T false 4 p0).1 = true → shB T p0 (rl T false 4 p0) (fun i j => i < (rwS T false 4 p0).2.1 ∧ j < (rl T false 4 p0)) s1))) := fun hcw hw0 w5 w7 => by
          have rz1 : (rwS T false 4 p0) = rwk T false (rl T false 4 p0) (4 - 1 - r) (r + 1) p := by rw [rz, if_pos ⟨hcw, hw0⟩]
          have nm : (rwS T false 4 p0) = (true, r + 1, p) → ∀ w7, Wp g MX12_readsRows 190 [some (.ref 75), some (.int (nI 0)), some (.int (nI 4)), some (.int (nI 1)), some (.int (chI T p)), some (.int w5), some (.int (nI 1)), w7] [] f2 0 0 (fun r' f' => r' = none ∧ (∀ j, j ≠ 75 → f' j = f j) ∧ ∃ w, KR wi w ∧ f' 75 = some (MO w cv) ∧ w 13 = nI (rwS T false 4 p0).2.2 ∧ w 14 = bI (wrg T false (rwS T false 4 p0)) ∧ w 16 = nI (rl T false 4 p0) ∧ w 17 = nI (rwS T false 4 p0).2.1 ∧ (∃ s1, s1 < 65536 ∧ w 19 = nI s1 ∧ ((rwS T false 4 p0).1 = true → shB T p0 (rl T false 4 p0) (fun i j => i < (rwS T false 4 p0).2.1 ∧ j < (rl T false 4 p0)) s1))) := fun hz w7 => by
            refine rn_iconst (v := nI 0) dX12_readsRows_190 (by decide) ?_
            exact noM f2 w2 r c p true _ _ k2 hk2 o2 g13 hlenW g17 g18 hz (dF0 true hz (fun _ => hcw))
          have more : chI T p = nI 47 → r + 1 < 4 → ∀ w7, Wp g MX12_readsRows 191 [some (.ref 75), some (.int (nI 0)), some (.int (nI 4)), some (.int (nI 1)), some (.int (chI T p)), some (.int w5), some (.int (nI 1)), w7] [.int (nI 1)] f2 0 0 (fun r' f' => r' = none ∧ (∀ j, j ≠ 75 → f' j = f j) ∧ ∃ w, KR wi w ∧ f' 75 = some (MO w cv) ∧ w 13 = nI (rwS T false 4 p0).2.2 ∧ w 14 = bI (wrg T false (rwS T false 4 p0)) ∧ w 16 = nI (rl T false 4 p0) ∧ w 17 = nI (rwS T false 4 p0).2.1 ∧ (∃ s1, s1 < 65536 ∧ w 19 = nI s1 ∧ ((rwS T false 4 p0).1 = true → shB T p0 (rl T false 4 p0) (fun i j => i < (rwS T false 4 p0).2.1 ∧ j < (rl T false 4 p0)) s1))) := fun hx hr1 w7 => by
            have hpl := chI_ne hx (by decide)
            refine rn_istore dX12_readsRows_191 (Nat.le_of_ble_eq_true rfl) rfl ?_
            refine rn_aload_n dX12_readsRows_193 rfl ?_
            refine rn_dup dX12_readsRows_194 rfl ?_
            refine rn_get dX12_readsRows_195 lfX12_162 o2 rfl ?_
            refine rn_iload dX12_readsRows_198 rfl ?_
            refine rn_if_eq (tgt := 207) dX12_readsRows_200 (by decide) (fun c200 => ?_) (fun c200 => ?_)
            · exact absurd c200 (by decide)
            · refine rn_iconst (v := nI 1) dX12_readsRows_203 (by decide) ?_
              refine rn_goto (tgt := 208) dX12_readsRows_204 (by decide) ?_
              refine rn_iadd dX12_readsRows_208 ?_
              rw [g17, nI_add]
              refine rn_put dX12_readsRows_209 lpX12_162 o2 rfl rfl (Nat.le_of_ble_eq_true rfl) ?_
              rw [ms17]
              refine Wp.gen (e := MO (upd w2 17 (nI (r + 1))) cv) (fun f3 k3 o3 => ?_)
              refine rn_aload_n dX12_readsRows_212 rfl ?_
              refine rn_iload dX12_readsRows_213 rfl ?_
              refine rn_if_eq (tgt := 222) dX12_readsRows_215 (by decide) (fun c215 => ?_) (fun c215 => ?_)
              · exact absurd c215 (by decide)
              · refine rn_iconst (v := nI 0) dX12_readsRows_218 (by decide) ?_
                refine rn_goto (tgt := 226) dX12_readsRows_219 (by decide) ?_
                refine rn_put dX12_readsRows_226 lpX12_165 o3 rfl rfl (Nat.le_of_ble_eq_true rfl) ?_
                rw [ms18]
                refine Wp.gen (e := MO (upd (upd w2 17 (nI (r + 1))) 18 (nI 0)) cv) (fun f4 k4 o4 => ?_)
                refine rn_aload_n dX12_readsRows_229 rfl ?_
                refine rn_dup dX12_readsRows_230 rfl ?_
                refine rn_get dX12_readsRows_231 lfX12_159 o4 rfl ?_
                refine rn_iload dX12_readsRows_234 rfl ?_
                refine rn_if_eq (tgt := 243) dX12_readsRows_236 (by decide) (fun c236 => ?_) (fun c236 => ?_)
                · exact absurd c236 (by decide)
                · refine rn_iconst (v := nI 1) dX12_readsRows_239 (by decide) ?_
                  refine rn_goto (tgt := 244) dX12_readsRows_240 (by decide) ?_
                  refine rn_iadd dX12_readsRows_244 ?_
                  rw [upd_ne (by decide), upd_ne (by decide), g13, nI_add]
                  refine rn_put dX12_readsRows_245 lpX12_159 o4 rfl rfl (Nat.le_of_ble_eq_true rfl) ?_
                  rw [ms13]
                  refine Wp.gen (e := MO (upd (upd (upd w2 17 (nI (r + 1))) 18 (nI 0)) 13 (nI (p + 1))) cv) (fun f5 k5 o5 => ?_)
                  refine rn_iload dX12_readsRows_248 rfl ?_
                  refine rn_istore_n dX12_readsRows_250 (Nat.le_of_ble_eq_true rfl) rfl ?_
                  refine rn_aload_n dX12_readsRows_251 rfl ?_
                  refine rn_iload dX12_readsRows_252 rfl ?_
                  refine rn_if_ne (tgt := 282) dX12_readsRows_254 (by decide) (fun c254 => ?_) (fun c254 => ?_)
                  · refine rn_iconst (v := nI 0) dX12_readsRows_282 (by decide) ?_
                    refine rn_put dX12_readsRows_283 lpX12_174 o5 rfl rfl (Nat.le_of_ble_eq_true rfl) ?_
                    rw [ms14]
                    refine Wp.gen (e := MO (upd (upd (upd (upd w2 17 (nI (r + 1))) 18 (nI 0)) 13 (nI (p + 1))) 14 (nI 0)) cv) (fun f6 k6 o6 => ?_)
                    have k7 : ∀ j, j ≠ 75 → f6 j = f2 j := fun j h => (k6 j h).trans ((k5 j h).trans ((k4 j h).trans (k3 j h)))
                    refine rn_goto (tgt := 33) dX12_readsRows_286 (by decide) ?_
                    obtain ⟨s1, hs1, e19, hc1⟩ := hdat2
                    refine ih _ (by omega) (r + 1) 0 (p + 1) f6 _ _ _ _ _ rfl (fun j a => (k7 j a).trans (k2 j a)) ((((hk2.up (by decide)).up (by decide)).up (by decide)).up (by decide)) o6 ((upd_ne (by decide)).trans (upd_eq _ _ _)) (upd_eq _ _ _) ?_ ((upd_ne (by decide)).trans ((upd_ne (by decide)).trans ((upd_ne (by decide)).trans (upd_eq _ _ _)))) ((upd_ne (by decide)).trans ((upd_ne (by decide)).trans (upd_eq _ _ _))) hr1 (Nat.zero_le _) (by rw [hpe, hcw, Nat.add_mul, Nat.one_mul]; omega) (fun i hi => by omega) (Or.inr ⟨by omega, hw0, ?_⟩) ⟨s1, hs1, (upd_ne (by decide)).trans ((upd_ne (by decide)).trans ((upd_ne (by decide)).trans ((upd_ne (by decide)).trans e19))), shB_ext hc1 (fun i j _ _ => ?_)⟩
                    · rw [if_neg (by omega)]; exact (upd_ne (by decide)).trans ((upd_ne (by decide)).trans ((upd_ne (by decide)).trans ((upd_ne (by decide)).trans hlenW)))
                    · rw [rz1, show 4 - 1 - r = (4 - 1 - (r + 1)) + 1 by omega, rwk, if_pos hx, show p0 + (r + 1) * ((rl T false 4 p0) + 1) = p + 1 by rw [hpe, hcw, Nat.add_mul, Nat.one_mul]; omega]
                    · unfold pdn at *; omega
                  · exact absurd c254 (by decide)
          refine rn_istore dX12_readsRows_162 (Nat.le_of_ble_eq_true rfl) rfl ?_
          refine rn_iload dX12_readsRows_164 rfl ?_
          refine rn_bipush (v := nI 47) dX12_readsRows_166 (by decide) ?_
          refine rn_icmp_ne (tgt := 190) dX12_readsRows_168 (by decide) (fun c168 => ?_) (fun c168 => ?_)
          · refine nm ?_ _
            rw [rz1]
            cases hq : (4 - 1 - r) with
            | zero => rfl
            | succ n => rw [rwk, if_neg c168]
          · refine rn_iload dX12_readsRows_171 rfl ?_
            refine rn_if_eq (tgt := 190) dX12_readsRows_173 (by decide) (fun c173 => ?_) (fun c173 => ?_)
            · exact absurd c173 (by decide)
            · refine rn_aload_n dX12_readsRows_176 rfl ?_
              refine rn_get dX12_readsRows_177 lfX12_162 o2 rfl ?_
              refine rn_iconst (v := nI 1) dX12_readsRows_180 (by decide) ?_
              refine rn_iadd dX12_readsRows_181 ?_
              rw [g17, nI_add]
              refine rn_iload_n dX12_readsRows_182 rfl ?_
              refine rn_icmp_ge (tgt := 190) dX12_readsRows_183 (by decide) (fun c183 => ?_) (fun c183 => ?_)
              · have hge := ge_ex c183 (by omega) (by decide)
                refine nm ?_ _
                rw [rz1, show 4 - 1 - r = 0 by omega, rwk]
              · refine rn_iconst (v := nI 1) dX12_readsRows_186 (by decide) ?_
                refine rn_goto (tgt := 191) dX12_readsRows_187 (by decide) ?_
                exact more c168 (ge_in c183 (by omega)) _
        have nwhole : ¬ (c = (rl T false 4 p0) ∧ 0 < (rl T false 4 p0)) → ∀ (w5 : Int32) w7, Wp g MX12_readsRows 162 [some (.ref 75), some (.int (nI 0)), some (.int (nI 4)), some (.int (nI 1)), some (.int (chI T p)), some (.int w5), w6, w7] [.int (nI 0)] f2 0 0 (fun r' f' => r' = none ∧ (∀ j, j ≠ 75 → f' j = f j) ∧ ∃ w, KR wi w ∧ f' 75 = some (MO w cv) ∧ w 13 = nI (rwS T false 4 p0).2.2 ∧ w 14 = bI (wrg T false (rwS T false 4 p0)) ∧ w 16 = nI (rl T false 4 p0) ∧ w 17 = nI (rwS T false 4 p0).2.1 ∧ (∃ s1, s1 < 65536 ∧ w 19 = nI s1 ∧ ((rwS T false 4 p0).1 = true → shB T p0 (rl T false 4 p0) (fun i j => i < (rwS T false 4 p0).2.1 ∧ j < (rl T false 4 p0)) s1))) := fun hnw w5 w7 => by
          have hz : (rwS T false 4 p0) = (false, r + 1, p) := by rw [rz, if_neg hnw]
          have nm : ∀ w7, Wp g MX12_readsRows 190 [some (.ref 75), some (.int (nI 0)), some (.int (nI 4)), some (.int (nI 1)), some (.int (chI T p)), some (.int w5), some (.int (nI 0)), w7] [] f2 0 0 (fun r' f' => r' = none ∧ (∀ j, j ≠ 75 → f' j = f j) ∧ ∃ w, KR wi w ∧ f' 75 = some (MO w cv) ∧ w 13 = nI (rwS T false 4 p0).2.2 ∧ w 14 = bI (wrg T false (rwS T false 4 p0)) ∧ w 16 = nI (rl T false 4 p0) ∧ w 17 = nI (rwS T false 4 p0).2.1 ∧ (∃ s1, s1 < 65536 ∧ w 19 = nI s1 ∧ ((rwS T false 4 p0).1 = true → shB T p0 (rl T false 4 p0) (fun i j => i < (rwS T false 4 p0).2.1 ∧ j < (rl T false 4 p0)) s1))) := fun w7 => by
            refine rn_iconst (v := nI 0) dX12_readsRows_190 (by decide) ?_
            exact noM f2 w2 r c p false _ _ k2 hk2 o2 g13 hlenW g17 g18 hz (dF0 false hz (fun h => by cases h))
          refine rn_istore dX12_readsRows_162 (Nat.le_of_ble_eq_true rfl) rfl ?_
          refine rn_iload dX12_readsRows_164 rfl ?_
          refine rn_bipush (v := nI 47) dX12_readsRows_166 (by decide) ?_
          refine rn_icmp_ne (tgt := 190) dX12_readsRows_168 (by decide) (fun c168 => ?_) (fun c168 => ?_)
          · exact nm _
          · refine rn_iload dX12_readsRows_171 rfl ?_
            refine rn_if_eq (tgt := 190) dX12_readsRows_173 (by decide) (fun c173 => ?_) (fun c173 => ?_)
            · exact nm _
            · exact absurd (show nI 0 = 0 from rfl) c173
        refine rn_aload_n dX12_readsRows_139 rfl ?_
        refine rn_get dX12_readsRows_140 lfX12_165 o2 rfl ?_
        rw [g18]
        refine rn_if_le (tgt := 161) dX12_readsRows_143 (by decide) (fun c143 => ?_) (fun c143 => ?_)
        · refine rn_iconst (v := nI 0) dX12_readsRows_161 (by decide) ?_
          have hc0 : c = 0 := Nat.eq_zero_of_not_pos fun q => absurd c143 (nI_nle q (by omega))
          exact nwhole (by omega) _ _
        · refine rn_aload_n dX12_readsRows_146 rfl ?_
          refine rn_get dX12_readsRows_147 lfX12_165 o2 rfl ?_
          refine rn_aload_n dX12_readsRows_150 rfl ?_
          refine rn_get dX12_readsRows_151 lfX12_171 o2 rfl ?_
          rw [g18, hlenW]
          refine rn_icmp_ne (tgt := 161) dX12_readsRows_154 (by decide) (fun c154 => ?_) (fun c154 => ?_)
          · refine rn_iconst (v := nI 0) dX12_readsRows_161 (by decide) ?_
            exact nwhole (fun h => c154 (by rw [h.1])) _ _
          · refine rn_iconst (v := nI 1) dX12_readsRows_157 (by decide) ?_
            refine rn_goto (tgt := 162) dX12_readsRows_158 (by decide) ?_
            have hcp : 0 < c := Nat.pos_of_ne_zero fun q => c143 (by rw [q]; decide)
            have hcw := (nI_eq (by omega) (by omega)).mp c154
            exact whole hcw (by omega) _ _
      -- a character of a row
      have step : c < (if r = 0 then 4 else (rl T false 4 p0)) → Wp g MX12_readsRows 84 [some (.ref 75), some (.int (nI 0)), some (.int (nI 4)), some (.int (nI 1)), some (.int (chI T p)), some (.int (nI 1)), w6, w7] [] f1 0 0 (fun r' f' => r' = none ∧ (∀ j, j ≠ 75 → f' j = f j) ∧ ∃ w, KR wi w ∧ f' 75 = some (MO w cv) ∧ w 13 = nI (rwS T false 4 p0).2.2 ∧ w 14 = bI (wrg T false (rwS T false 4 p0)) ∧ w 16 = nI (rl T false 4 p0) ∧ w 17 = nI (rwS T false 4 p0).2.1 ∧ (∃ s1, s1 < 65536 ∧ w 19 = nI s1 ∧ ((rwS T false 4 p0).1 = true → shB T p0 (rl T false 4 p0) (fun i j => i < (rwS T false 4 p0).2.1 ∧ j < (rl T false 4 p0)) s1))) := fun hcr => by
        have hc4 : c < 4 := by
          by_cases h0 : r = 0
          · rw [if_pos h0] at hcr; exact hcr
          · rw [if_neg h0] at hcr; omega
        obtain ⟨s1, hs1, e19, hc1⟩ := id hdat
        refine rn_aload_n dX12_readsRows_84 rfl ?_
        refine rn_iload dX12_readsRows_85 rfl ?_
        refine rn_iload_n dX12_readsRows_87 rfl ?_
        refine rn_callV dX12_readsRows_88 lmX12_181 ⟨Nat.le_of_ble_eq_true rfl, Nat.le_of_ble_eq_true rfl⟩ (cm_isInRowS g f1 (chI T p) o1 e17 e18 e19 hr hc4 hs1) o1 rfl rfl (Nat.le_of_ble_eq_true rfl) ?_
        rintro _ f2 ⟨k2, rfl, o2⟩
        have k12 : ∀ j, j ≠ 75 → f2 j = f j := fun j a => (k2 j a).trans (k1 j a)
        cases hok : rowOk false (chI T p) with
        | false =>
          have e := rend (Or.inr hok) f2 (upd w 19 (nI (if chI T p = nI 111 then s1 ||| 2 ^ (r * 4 + c) else s1))) (nI 1) w6 w7 k12 (hk.up (by decide)) o2 ((upd_ne (by decide)).trans e13) ((upd_ne (by decide)).trans e14) ((upd_ne (by decide)).trans e16) ((upd_ne (by decide)).trans e17) ((upd_ne (by decide)).trans e18) ⟨s1, hs1, by rw [upd_eq, if_neg (fun h => by rw [rowOk, if_neg (by decide), okO, decide_eq_true h] at hok; cases hok)], hc1⟩
          refine rn_if_eq (tgt := 139) dX12_readsRows_91 (by decide) (fun c91 => ?_) (fun c91 => ?_)
          · exact e
          · exact absurd (show bI false = 0 from rfl) c91
        | true =>
          have hpl := chI_ok hok
          have nxt : ∀ (f3 : Mm) (v : Nat), v = (if r = 0 then c + 1 else (rl T false 4 p0)) → (∀ j, j ≠ 75 → f3 j = f2 j) → f3 75 = some (MO (upd (upd w 19 (nI (if chI T p = nI 111 then s1 ||| 2 ^ (r * 4 + c) else s1))) 18 (nI (c + 1))) cv) → Wp g MX12_readsRows 123 [some (.ref 75), some (.int (nI 0)), some (.int (nI 4)), some (.int (nI 1)), some (.int (chI T p)), some (.int (nI 1)), w6, w7] [.int (nI v), .ref 75] f3 0 0 (fun r' f' => r' = none ∧ (∀ j, j ≠ 75 → f' j = f j) ∧ ∃ w, KR wi w ∧ f' 75 = some (MO w cv) ∧ w 13 = nI (rwS T false 4 p0).2.2 ∧ w 14 = bI (wrg T false (rwS T false 4 p0)) ∧ w 16 = nI (rl T false 4 p0) ∧ w 17 = nI (rwS T false 4 p0).2.1 ∧ (∃ s1, s1 < 65536 ∧ w 19 = nI s1 ∧ ((rwS T false 4 p0).1 = true → shB T p0 (rl T false 4 p0) (fun i j => i < (rwS T false 4 p0).2.1 ∧ j < (rl T false 4 p0)) s1))) := fun f3 v hv k3 o3 => by
            refine rn_put dX12_readsRows_123 lpX12_171 o3 rfl rfl (Nat.le_of_ble_eq_true rfl) ?_
            rw [ms16]
            refine Wp.gen (e := MO (upd (upd (upd w 19 (nI (if chI T p = nI 111 then s1 ||| 2 ^ (r * 4 + c) else s1))) 18 (nI (c + 1))) 16 (nI v)) cv) (fun f4 k4 o4 => ?_)
            refine rn_aload_n dX12_readsRows_126 rfl ?_
            refine rn_dup dX12_readsRows_127 rfl ?_
            refine rn_get dX12_readsRows_128 lfX12_159 o4 rfl ?_
            refine rn_iconst (v := nI 1) dX12_readsRows_131 (by decide) ?_
            refine rn_iadd dX12_readsRows_132 ?_
            rw [upd_ne (by decide), upd_ne (by decide), upd_ne (by decide), e13, nI_add]
            refine rn_put dX12_readsRows_133 lpX12_159 o4 rfl rfl (Nat.le_of_ble_eq_true rfl) ?_
            rw [ms13]
            refine Wp.gen (e := MO (upd (upd (upd (upd w 19 (nI (if chI T p = nI 111 then s1 ||| 2 ^ (r * 4 + c) else s1))) 18 (nI (c + 1))) 16 (nI v)) 13 (nI (p + 1))) cv) (fun f5 k5 o5 => ?_)
            have k6 : ∀ j, j ≠ 75 → f5 j = f2 j := fun j h => (k5 j h).trans ((k4 j h).trans (k3 j h))
            refine rn_goto (tgt := 286) dX12_readsRows_136 (by decide) ?_
            refine rn_goto (tgt := 33) dX12_readsRows_286 (by decide) ?_
            skip
            refine ih _ (by omega) r (c + 1) (p + 1) f5 _ _ _ _ _ rfl (fun j a => (k6 j a).trans (k12 j a)) ((((hk.up (by decide)).up (by decide)).up (by decide)).up (by decide)) o5 (upd_eq _ _ _) ((upd_ne (by decide)).trans ((upd_ne (by decide)).trans ((upd_ne (by decide)).trans ((upd_ne (by decide)).trans e14)))) (by rw [upd_ne (by decide), upd_eq, hv]) ((upd_ne (by decide)).trans ((upd_ne (by decide)).trans ((upd_ne (by decide)).trans ((upd_ne (by decide)).trans e17)))) ((upd_ne (by decide)).trans ((upd_ne (by decide)).trans (upd_eq _ _ _))) hr (by omega) (by omega) (fun i hi => ?_) hI3 ⟨if chI T p = nI 111 then s1 ||| 2 ^ (r * 4 + c) else s1, ?_, (upd_ne (by decide)).trans ((upd_ne (by decide)).trans ((upd_ne (by decide)).trans (upd_eq _ _ _))), shB_ext (shB_add hc1 hr hc4 hpe (by unfold pdn; omega)) (fun i j _ _ => by unfold pdn; omega)⟩
            · by_cases e : i = c
              · rw [e, ← hpe]; exact hok
              · exact hall i (by omega)
            · have hpw : 2 ^ (r * 4 + c) < 2 ^ 16 := Nat.pow_lt_pow_right (by decide) (by omega)
              split
              · exact Nat.or_lt_two_pow (n := 16) (by omega) hpw
              · exact hs1
          refine rn_if_eq (tgt := 139) dX12_readsRows_91 (by decide) (fun c91 => ?_) (fun c91 => ?_)
          · exact absurd c91 (by decide)
          · refine rn_aload_n dX12_readsRows_94 rfl ?_
            refine rn_dup dX12_readsRows_95 rfl ?_
            refine rn_get dX12_readsRows_96 lfX12_165 o2 rfl ?_
            refine rn_iconst (v := nI 1) dX12_readsRows_99 (by decide) ?_
            refine rn_iadd dX12_readsRows_100 ?_
            rw [upd_ne (by decide), e18, nI_add]
            refine rn_put dX12_readsRows_101 lpX12_165 o2 rfl rfl (Nat.le_of_ble_eq_true rfl) ?_
            rw [ms18]
            refine Wp.gen (e := MO (upd (upd w 19 (nI (if chI T p = nI 111 then s1 ||| 2 ^ (r * 4 + c) else s1))) 18 (nI (c + 1))) cv) (fun f3 k3 o3 => ?_)
            refine rn_aload_n dX12_readsRows_104 rfl ?_
            refine rn_aload_n dX12_readsRows_105 rfl ?_
            refine rn_get dX12_readsRows_106 lfX12_162 o3 rfl ?_
            rw [upd_ne (by decide), upd_ne (by decide), e17]
            refine rn_if_ne (tgt := 119) dX12_readsRows_109 (by decide) (fun c109 => ?_) (fun c109 => ?_)
            · refine rn_aload_n dX12_readsRows_119 rfl ?_
              refine rn_get dX12_readsRows_120 lfX12_171 o3 rfl ?_
              have h0 : ¬ r = 0 := fun h => c109 (by rw [h]; rfl)
              rw [show (upd (upd w 19 (nI (if chI T p = nI 111 then s1 ||| 2 ^ (r * 4 + c) else s1))) 18 (nI (c + 1))) 16 = nI (rl T false 4 p0) by rw [upd_ne (by decide), upd_ne (by decide), e16, if_neg h0]]
              exact nxt f3 _ (by rw [if_neg h0]) k3 o3
            · refine rn_aload_n dX12_readsRows_112 rfl ?_
              refine rn_get dX12_readsRows_113 lfX12_165 o3 rfl ?_
              refine rn_goto (tgt := 123) dX12_readsRows_116 (by decide) ?_
              have h0 : r = 0 := (az (by omega)).mp c109
              rw [upd_eq]
              exact nxt f3 _ (by rw [if_pos h0]) k3 o3
      refine rn_iload_n dX12_readsRows_33 rfl ?_
      refine rn_if_eq (tgt := 289) dX12_readsRows_34 (by decide) (fun c34 => ?_) (fun c34 => ?_)
      · exact absurd c34 (by decide)
      · refine rn_aload_n dX12_readsRows_37 rfl ?_
        refine rn_get dX12_readsRows_38 lfX12_174 o1 rfl ?_
        rw [e14]
        refine rn_if_ne (tgt := 289) dX12_readsRows_41 (by decide) (fun c41 => ?_) (fun c41 => ?_)
        · exact absurd (show (0 : Int32) = 0 from rfl) c41
        · refine rn_aload_n dX12_readsRows_44 rfl ?_
          refine rn_callV dX12_readsRows_45 lmX12_178 ⟨Nat.le_of_ble_eq_true rfl, Nat.le_of_ble_eq_true rfl⟩ (cm_here g f1 o1 hT1 e13 ((hk 4 (by omega)).trans h4) (by omega)) o1 rfl rfl (Nat.le_of_ble_eq_true rfl) ?_
          rintro _ _ ⟨rfl, rfl⟩
          refine rn_istore dX12_readsRows_48 (Nat.le_of_ble_eq_true rfl) rfl ?_
          refine rn_aload_n dX12_readsRows_50 rfl ?_
          refine rn_get dX12_readsRows_51 lfX12_165 o1 rfl ?_
          rw [e18]
          refine rn_aload_n dX12_readsRows_54 rfl ?_
          refine rn_get dX12_readsRows_55 lfX12_162 o1 rfl ?_
          rw [e17]
          refine rn_if_ne (tgt := 65) dX12_readsRows_58 (by decide) (fun c58 => ?_) (fun c58 => ?_)
          · refine rn_aload_n dX12_readsRows_65 rfl ?_
            refine rn_get dX12_readsRows_66 lfX12_171 o1 rfl ?_
            refine rn_icmp_ge (tgt := 76) dX12_readsRows_69 (by decide) (fun c69 => ?_) (fun c69 => ?_)
            · refine rn_iconst (v := nI 0) dX12_readsRows_76 (by decide) ?_
              refine rn_istore dX12_readsRows_77 (Nat.le_of_ble_eq_true rfl) rfl ?_
              refine rn_iload dX12_readsRows_79 rfl ?_
              refine rn_if_eq (tgt := 139) dX12_readsRows_81 (by decide) (fun c81 => ?_) (fun c81 => ?_)
              · first | exact absurd c81 (by decide) | exact rend (Or.inl (by rw [if_neg (fun h => c58 (by rw [h]; rfl))]; rw [if_neg (fun h => c58 (by rw [h]; rfl))] at hc; rw [e16, if_neg (fun h => c58 (by rw [h]; rfl))] at c69; have := ge_ex c69 (by omega) (by omega); omega)) f1 w _ _ _ k1 hk o1 e13 e14 e16 e17 e18 hdat | exact rend (Or.inl (by rw [if_pos ((az (by omega)).mp c58)]; rw [if_pos ((az (by omega)).mp c58)] at hc; have := ge_ex c69 (by omega) (by decide); omega)) f1 w _ _ _ k1 hk o1 e13 e14 e16 e17 e18 hdat
              · first | exact absurd c81 (by decide) | exact step (by rw [if_neg (fun h => c58 (by rw [h]; rfl))]; rw [e16, if_neg (fun h => c58 (by rw [h]; rfl))] at c69; exact ge_in c69 (by omega)) | exact step (by rw [if_pos ((az (by omega)).mp c58)]; exact ge_in c69 (by omega)) | exact absurd (show nI 0 = 0 from rfl) c81
            · refine rn_iconst (v := nI 1) dX12_readsRows_72 (by decide) ?_
              refine rn_goto (tgt := 77) dX12_readsRows_73 (by decide) ?_
              refine rn_istore dX12_readsRows_77 (Nat.le_of_ble_eq_true rfl) rfl ?_
              refine rn_iload dX12_readsRows_79 rfl ?_
              refine rn_if_eq (tgt := 139) dX12_readsRows_81 (by decide) (fun c81 => ?_) (fun c81 => ?_)
              · first | exact absurd c81 (by decide) | exact rend (Or.inl (by rw [if_neg (fun h => c58 (by rw [h]; rfl))]; rw [if_neg (fun h => c58 (by rw [h]; rfl))] at hc; rw [e16, if_neg (fun h => c58 (by rw [h]; rfl))] at c69; have := ge_ex c69 (by omega) (by omega); omega)) f1 w _ _ _ k1 hk o1 e13 e14 e16 e17 e18 hdat | exact rend (Or.inl (by rw [if_pos ((az (by omega)).mp c58)]; rw [if_pos ((az (by omega)).mp c58)] at hc; have := ge_ex c69 (by omega) (by decide); omega)) f1 w _ _ _ k1 hk o1 e13 e14 e16 e17 e18 hdat
              · first | exact absurd c81 (by decide) | exact step (by rw [if_neg (fun h => c58 (by rw [h]; rfl))]; rw [e16, if_neg (fun h => c58 (by rw [h]; rfl))] at c69; exact ge_in c69 (by omega)) | exact step (by rw [if_pos ((az (by omega)).mp c58)]; exact ge_in c69 (by omega)) | exact absurd (show nI 0 = 0 from rfl) c81
          · refine rn_iload_n dX12_readsRows_61 rfl ?_
            refine rn_goto (tgt := 69) dX12_readsRows_62 (by decide) ?_
            refine rn_icmp_ge (tgt := 76) dX12_readsRows_69 (by decide) (fun c69 => ?_) (fun c69 => ?_)
            · refine rn_iconst (v := nI 0) dX12_readsRows_76 (by decide) ?_
              refine rn_istore dX12_readsRows_77 (Nat.le_of_ble_eq_true rfl) rfl ?_
              refine rn_iload dX12_readsRows_79 rfl ?_
              refine rn_if_eq (tgt := 139) dX12_readsRows_81 (by decide) (fun c81 => ?_) (fun c81 => ?_)
              · first | exact absurd c81 (by decide) | exact rend (Or.inl (by rw [if_neg (fun h => c58 (by rw [h]; rfl))]; rw [if_neg (fun h => c58 (by rw [h]; rfl))] at hc; rw [e16, if_neg (fun h => c58 (by rw [h]; rfl))] at c69; have := ge_ex c69 (by omega) (by omega); omega)) f1 w _ _ _ k1 hk o1 e13 e14 e16 e17 e18 hdat | exact rend (Or.inl (by rw [if_pos ((az (by omega)).mp c58)]; rw [if_pos ((az (by omega)).mp c58)] at hc; have := ge_ex c69 (by omega) (by decide); omega)) f1 w _ _ _ k1 hk o1 e13 e14 e16 e17 e18 hdat
              · first | exact absurd c81 (by decide) | exact step (by rw [if_neg (fun h => c58 (by rw [h]; rfl))]; rw [e16, if_neg (fun h => c58 (by rw [h]; rfl))] at c69; exact ge_in c69 (by omega)) | exact step (by rw [if_pos ((az (by omega)).mp c58)]; exact ge_in c69 (by omega)) | exact absurd (show nI 0 = 0 from rfl) c81
            · refine rn_iconst (v := nI 1) dX12_readsRows_72 (by decide) ?_
              refine rn_goto (tgt := 77) dX12_readsRows_73 (by decide) ?_
              refine rn_istore dX12_readsRows_77 (Nat.le_of_ble_eq_true rfl) rfl ?_
              refine rn_iload dX12_readsRows_79 rfl ?_
              refine rn_if_eq (tgt := 139) dX12_readsRows_81 (by decide) (fun c81 => ?_) (fun c81 => ?_)
              · first | exact absurd c81 (by decide) | exact rend (Or.inl (by rw [if_neg (fun h => c58 (by rw [h]; rfl))]; rw [if_neg (fun h => c58 (by rw [h]; rfl))] at hc; rw [e16, if_neg (fun h => c58 (by rw [h]; rfl))] at c69; have := ge_ex c69 (by omega) (by omega); omega)) f1 w _ _ _ k1 hk o1 e13 e14 e16 e17 e18 hdat | exact rend (Or.inl (by rw [if_pos ((az (by omega)).mp c58)]; rw [if_pos ((az (by omega)).mp c58)] at hc; have := ge_ex c69 (by omega) (by decide); omega)) f1 w _ _ _ k1 hk o1 e13 e14 e16 e17 e18 hdat
              · first | exact absurd c81 (by decide) | exact step (by rw [if_neg (fun h => c58 (by rw [h]; rfl))]; rw [e16, if_neg (fun h => c58 (by rw [h]; rfl))] at c69; exact ge_in c69 (by omega)) | exact step (by rw [if_pos ((az (by omega)).mp c58)]; exact ge_in c69 (by omega)) | exact absurd (show nI 0 = 0 from rfl) c81
  refine rn_iload_n dX12_readsRows_0 rfl ?_
  refine rn_if_eq (tgt := 9) dX12_readsRows_1 (by decide) (fun c1 => ?_) (fun c1 => ?_)
  · refine rn_iconst (v := nI 4) dX12_readsRows_9 (by decide) ?_
    refine rn_istore_n dX12_readsRows_10 (Nat.le_of_ble_eq_true rfl) rfl ?_
    refine rn_aload_n dX12_readsRows_11 rfl ?_
    refine rn_iconst (v := nI 0) dX12_readsRows_12 (by decide) ?_
    refine rn_put dX12_readsRows_13 lpX12_171 hM rfl rfl (Nat.le_of_ble_eq_true rfl) ?_
    rw [ms16]
    refine Wp.gen (e := MO (upd wi 16 (nI 0)) cv) (fun f1 k1 o1 => ?_)
    refine rn_aload_n dX12_readsRows_16 rfl ?_
    refine rn_iconst (v := nI 0) dX12_readsRows_17 (by decide) ?_
    refine rn_put dX12_readsRows_18 lpX12_162 o1 rfl rfl (Nat.le_of_ble_eq_true rfl) ?_
    rw [ms17]
    refine Wp.gen (e := MO (upd (upd wi 16 (nI 0)) 17 (nI 0)) cv) (fun f2 k2 o2 => ?_)
    refine rn_aload_n dX12_readsRows_21 rfl ?_
    refine rn_iconst (v := nI 0) dX12_readsRows_22 (by decide) ?_
    refine rn_put dX12_readsRows_23 lpX12_165 o2 rfl rfl (Nat.le_of_ble_eq_true rfl) ?_
    rw [ms18]
    refine Wp.gen (e := MO (upd (upd (upd wi 16 (nI 0)) 17 (nI 0)) 18 (nI 0)) cv) (fun f3 k3 o3 => ?_)
    refine rn_aload_n dX12_readsRows_26 rfl ?_
    refine rn_iconst (v := nI 0) dX12_readsRows_27 (by decide) ?_
    refine rn_put dX12_readsRows_28 lpX12_168 o3 rfl rfl (Nat.le_of_ble_eq_true rfl) ?_
    rw [ms19]
    refine Wp.gen (e := MO (upd (upd (upd (upd wi 16 (nI 0)) 17 (nI 0)) 18 (nI 0)) 19 (nI 0)) cv) (fun f4 k4 o4 => ?_)
    have k5 : ∀ j, j ≠ 75 → f4 j = f j := fun j h => (k4 j h).trans ((k3 j h).trans ((k2 j h).trans (k1 j h)))
    refine rn_iconst (v := nI 1) dX12_readsRows_31 (by decide) ?_
    refine rn_istore_n dX12_readsRows_32 (Nat.le_of_ble_eq_true rfl) rfl ?_
    exact loop _ 0 0 p0 f4 _ _ _ _ _ rfl (fun j a => k5 j a) ((((KR.up (fun _ _ => rfl) (by decide)).up (by decide)).up (by decide)).up (by decide)) o4 ((upd_ne (by decide)).trans ((upd_ne (by decide)).trans ((upd_ne (by decide)).trans ((upd_ne (by decide)).trans h13)))) ((upd_ne (by decide)).trans ((upd_ne (by decide)).trans ((upd_ne (by decide)).trans ((upd_ne (by decide)).trans h14)))) ((upd_ne (by decide)).trans ((upd_ne (by decide)).trans ((upd_ne (by decide)).trans (upd_eq _ _ _)))) ((upd_ne (by decide)).trans ((upd_ne (by decide)).trans (upd_eq _ _ _))) ((upd_ne (by decide)).trans (upd_eq _ _ _)) (by decide) (Nat.zero_le _) (by omega) (fun i hi => by omega) (Or.inl rfl) ⟨0, by decide, upd_eq _ _ _, fun k => by
      rw [Nat.zero_testBit]
      constructor
      · intro h; cases h
      · rintro ⟨-, h, -⟩; unfold pdn at h; omega⟩
  · refine rn_bipush (v := nI 6) dX12_readsRows_4 (by decide) ?_
    refine rn_goto (tgt := 10) dX12_readsRows_6 (by decide) ?_
    refine rn_istore_n dX12_readsRows_10 (Nat.le_of_ble_eq_true rfl) rfl ?_
    refine rn_aload_n dX12_readsRows_11 rfl ?_
    refine rn_iconst (v := nI 0) dX12_readsRows_12 (by decide) ?_
    refine rn_put dX12_readsRows_13 lpX12_171 hM rfl rfl (Nat.le_of_ble_eq_true rfl) ?_
    rw [ms16]
    refine Wp.gen (e := MO (upd wi 16 (nI 0)) cv) (fun f1 k1 o1 => ?_)
    refine rn_aload_n dX12_readsRows_16 rfl ?_
    refine rn_iconst (v := nI 0) dX12_readsRows_17 (by decide) ?_
    refine rn_put dX12_readsRows_18 lpX12_162 o1 rfl rfl (Nat.le_of_ble_eq_true rfl) ?_
    rw [ms17]
    refine Wp.gen (e := MO (upd (upd wi 16 (nI 0)) 17 (nI 0)) cv) (fun f2 k2 o2 => ?_)
    refine rn_aload_n dX12_readsRows_21 rfl ?_
    refine rn_iconst (v := nI 0) dX12_readsRows_22 (by decide) ?_
    refine rn_put dX12_readsRows_23 lpX12_165 o2 rfl rfl (Nat.le_of_ble_eq_true rfl) ?_
    rw [ms18]
    refine Wp.gen (e := MO (upd (upd (upd wi 16 (nI 0)) 17 (nI 0)) 18 (nI 0)) cv) (fun f3 k3 o3 => ?_)
    refine rn_aload_n dX12_readsRows_26 rfl ?_
    refine rn_iconst (v := nI 0) dX12_readsRows_27 (by decide) ?_
    refine rn_put dX12_readsRows_28 lpX12_168 o3 rfl rfl (Nat.le_of_ble_eq_true rfl) ?_
    rw [ms19]
    refine Wp.gen (e := MO (upd (upd (upd (upd wi 16 (nI 0)) 17 (nI 0)) 18 (nI 0)) 19 (nI 0)) cv) (fun f4 k4 o4 => ?_)
    have k5 : ∀ j, j ≠ 75 → f4 j = f j := fun j h => (k4 j h).trans ((k3 j h).trans ((k2 j h).trans (k1 j h)))
    refine rn_iconst (v := nI 1) dX12_readsRows_31 (by decide) ?_
    refine rn_istore_n dX12_readsRows_32 (Nat.le_of_ble_eq_true rfl) rfl ?_
    exact absurd (show nI 0 = 0 from rfl) c1
