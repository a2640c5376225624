theorem rl_ok {T : List Nat} {b : Bool} : ∀ {m p i : Nat}, i < rl T b m p → rowOk b (chI T (p + i)) = true
  | 0, p, i, h => by rw [rl] at h; omega
  | m + 1, p, i, h => by
    rw [rl] at h
    split at h
    · rename_i hok
      cases i with
      | zero => exact hok
      | succ i =>
        have := rl_ok (T := T) (b := b) (m := m) (p := p + 1) (i := i) (by omega)
        rw [show p + (i + 1) = p + 1 + i by omega]
        exact this
    · omega
theorem rl_end {T : List Nat} {b : Bool} {m p : Nat} (h : 0 < rl T b m p) : p + rl T b m p ≤ T.length := by
  have := chI_ok (rl_ok (T := T) (b := b) (m := m) (p := p) (i := rl T b m p - 1) (by omega))
  omega
theorem rwk_le {T : List Nat} {b : Bool} {w : Nat} (hw : 0 < w) : ∀ {d r p : Nat}, p ≤ T.length → (rwk T b w d r p).1 = true → (rwk T b w d r p).2.2 ≤ T.length
  | 0, r, p, h, _ => h
  | d + 1, r, p, h, ht => by
    rw [rwk] at ht ⊢
    split
    · rename_i h1
      rw [if_pos h1] at ht
      split
      · rename_i h2
        rw [if_pos h2] at ht
        exact rwk_le hw (by have := rl_end (T := T) (b := b) (m := w) (p := p + 1) (by omega); omega) ht
      · rename_i h2
        rw [if_neg h2] at ht
        cases ht
    · exact h
theorem rwS_le {T : List Nat} {b : Bool} {most p : Nat} (h : (rwS T b most p).1 = true) : (rwS T b most p).2.2 ≤ T.length ∧ 0 < rl T b most p := by
  unfold rwS at h ⊢
  split at h
  · cases h
  · rename_i h0
    rw [if_neg h0]
    exact ⟨rwk_le (by omega) (rl_end (by omega)) h, by omega⟩
theorem rwk_r {T : List Nat} {b : Bool} {w : Nat} : ∀ {d r p : Nat}, r ≤ (rwk T b w d r p).2.1 ∧ (rwk T b w d r p).2.1 ≤ r + d
  | 0, r, p => ⟨Nat.le_refl _, Nat.le_refl _⟩
  | d + 1, r, p => by
    rw [rwk]
    split
    · split
      · have := rwk_r (T := T) (b := b) (w := w) (d := d) (r := r + 1) (p := p + 1 + w)
        omega
      · exact ⟨by show r ≤ r + 1; omega, by show r + 1 ≤ r + (d + 1); omega⟩
    · exact ⟨Nat.le_refl _, by show r ≤ r + (d + 1); omega⟩
theorem rwS_r {T : List Nat} {b : Bool} {most p : Nat} (hm : 1 ≤ most) : 1 ≤ (rwS T b most p).2.1 ∧ (rwS T b most p).2.1 ≤ most := by
  unfold rwS
  split
  · exact ⟨Nat.le_refl _, hm⟩
  · have := rwk_r (T := T) (b := b) (w := rl T b most p) (d := most - 1) (r := 1) (p := p + rl T b most p)
    omega

theorem ct_readRowsB (g : GG) (f : Mm) {T : List Nat} {D : PS} {p0 c r s : Nat} (hO : f 45 = some (RDE T.length p0 c r s)) (hT : RDt f T) (hD : PB f 47 D) (hp : p0 ≤ 170) : Ct g MX5_readRows [.ref 45, .int (nI 6), .int (nI 1)] f 0 0 (fun r' f' => (∀ j, (j < 45 ∨ j = 46 ∨ 52 < j) → f' j = f j) ∧ r' = some (.int (bI (rwS T true 6 p0).1)) ∧ (((rwS T true 6 p0).1 = false ∧ (∃ c1 r1 s1, f' 45 = some (RDE T.length (rwS T true 6 p0).2.2 c1 r1 s1) ∧ c1 ≤ 6) ∧ ∃ D1, PB f' 47 D1) ∨ ((rwS T true 6 p0).1 = true ∧ (∃ s1, f' 45 = some (RDE T.length (rwS T true 6 p0).2.2 (rl T true 6 p0) (rwS T true 6 p0).2.1 s1)) ∧ (∃ D1, PB f' 47 D1 ∧ pN D1 = pN D ∧ ∀ i j, i < (rwS T true 6 p0).2.1 → j < (rl T true 6 p0) → pC D1 (i * (rl T true 6 p0) + j) = cvl (chI T (p0 + i * ((rl T true 6 p0) + 1) + j)))))) := by
  refine Ct.of ok_MX5_readRows (Nat.le_of_ble_eq_true rfl) ?_
  change Wp g MX5_readRows 0 [some (.ref 45), some (.int (nI 6)), some (.int (nI 1)), none, none] [] f 0 0 _
  have hl160 := hT.1
  have at46 : ∀ (d r p rx : Nat) (f1 : Mm), 6 - r = d → 1 ≤ r → r ≤ 6 → 0 < (rl T true 6 p0) → (rl T true 6 p0) ≤ 6 → p + 1 = p0 + r * ((rl T true 6 p0) + 1) → rwS T true 6 p0 = rwk T true (rl T true 6 p0) d r p → (∀ j, (j < 45 ∨ j = 46 ∨ 52 < j) → f1 j = f j) → (∃ s1, f1 45 = some (RDE T.length p (rl T true 6 p0) rx s1)) → (∃ D1, PB f1 47 D1 ∧ pN D1 = pN D ∧ ∀ i j, i < r → j < (rl T true 6 p0) → pC D1 (i * (rl T true 6 p0) + j) = cvl (chI T (p0 + i * ((rl T true 6 p0) + 1) + j))) → Wp g MX5_readRows 46 [some (.ref 45), some (.int (nI 6)), some (.int (nI 1)), some (.int (nI (r - 1))), some (.int (nI (rl T true 6 p0)))] [] f1 0 0 (fun r' f' => (∀ j, (j < 45 ∨ j = 46 ∨ 52 < j) → f' j = f j) ∧ r' = some (.int (bI (rwS T true 6 p0).1)) ∧ (((rwS T true 6 p0).1 = false ∧ (∃ c1 r1 s1, f' 45 = some (RDE T.length (rwS T true 6 p0).2.2 c1 r1 s1) ∧ c1 ≤ 6) ∧ ∃ D1, PB f' 47 D1) ∨ ((rwS T true 6 p0).1 = true ∧ (∃ s1, f' 45 = some (RDE T.length (rwS T true 6 p0).2.2 (rl T true 6 p0) (rwS T true 6 p0).2.1 s1)) ∧ (∃ D1, PB f' 47 D1 ∧ pN D1 = pN D ∧ ∀ i j, i < (rwS T true 6 p0).2.1 → j < (rl T true 6 p0) → pC D1 (i * (rl T true 6 p0) + j) = cvl (chI T (p0 + i * ((rl T true 6 p0) + 1) + j)))))) := by
    intro d
    induction d with
    | zero =>
      intro r p rx f1 hd h1 h6 hw hw6 hp1 hz k1 hob hiv
      have hr : r = 6 := by omega
      subst hr
      obtain ⟨s1, o1⟩ := hob
      refine rn_aload_n dX5_readRows_46 rfl ?_
      refine rn_iload_n dX5_readRows_47 rfl ?_
      refine rn_iconst (v := nI 1) dX5_readRows_48 (by decide) ?_
      refine rn_iadd dX5_readRows_49 ?_
      rw [nI_add]
      refine rn_put dX5_readRows_50 lpX5_32 o1 rfl rfl (Nat.le_of_ble_eq_true rfl) ?_
      refine Wp.gen (e := RDE T.length p (rl T true 6 p0) 6 s1) (fun f2 k2 o2 => ?_)
      refine rn_aload_n dX5_readRows_53 rfl ?_
      refine rn_get dX5_readRows_54 lfX5_32 o2 rfl ?_
      refine rn_iload_n dX5_readRows_57 rfl ?_
      refine rn_icmp_eq (tgt := 70) dX5_readRows_58 (by decide) (fun c58 => ?_) (fun c58 => ?_)
      · refine rn_iconst (v := nI 1) dX5_readRows_70 (by decide) ?_
        refine rn_zret dX5_readRows_71 rfl rfl ?_
        exact ⟨fun j hj => (k2 j (by omega)).trans (k1 j hj), by rw [hz]; rfl, Or.inr ⟨by rw [hz]; rfl, ⟨s1, by rw [hz]; exact o2⟩, by
          obtain ⟨D1, hD1, hN1, hc1⟩ := hiv
          rw [hz]
          exact ⟨D1, hD1.keep (fun k a b => k2 k (by omega)), hN1, hc1⟩⟩⟩
      · exact absurd rfl c58
    | succ d ih =>
      intro r p rx f1 hd h1 h6 hw hw6 hp1 hz k1 hob hiv
      obtain ⟨s1, o1⟩ := hob
      have hmul0 : r * ((rl T true 6 p0) + 1) ≤ 6 * 7 := Nat.mul_le_mul (by omega) (by omega)
      have at72 : ∀ (f2 : Mm) (w4 : Option Value), (∀ j, j ≠ 45 → f2 j = f1 j) → f2 45 = some (RDE T.length p (rl T true 6 p0) r s1) → chI T p = nI 47 → Wp g MX5_readRows 72 [some (.ref 45), some (.int (nI 6)), some (.int (nI 1)), some (.int (nI (r - 1))), w4] [] f2 0 0 (fun r' f' => (∀ j, (j < 45 ∨ j = 46 ∨ 52 < j) → f' j = f j) ∧ r' = some (.int (bI (rwS T true 6 p0).1)) ∧ (((rwS T true 6 p0).1 = false ∧ (∃ c1 r1 s1, f' 45 = some (RDE T.length (rwS T true 6 p0).2.2 c1 r1 s1) ∧ c1 ≤ 6) ∧ ∃ D1, PB f' 47 D1) ∨ ((rwS T true 6 p0).1 = true ∧ (∃ s1, f' 45 = some (RDE T.length (rwS T true 6 p0).2.2 (rl T true 6 p0) (rwS T true 6 p0).2.1 s1)) ∧ (∃ D1, PB f' 47 D1 ∧ pN D1 = pN D ∧ ∀ i j, i < (rwS T true 6 p0).2.1 → j < (rl T true 6 p0) → pC D1 (i * (rl T true 6 p0) + j) = cvl (chI T (p0 + i * ((rl T true 6 p0) + 1) + j)))))) := fun f2 w4 k2 o2 c67 => by
        have hpl := chI_ne c67 (by decide)
        have h12 : ∀ (f3 : Mm) (w4 : Option Value), (∀ j, j ≠ 45 → f3 j = f2 j) → f3 45 = some (RDE T.length (p + 1) (rl T true 6 p0) r s1) → Wp g MX5_readRows 12 [some (.ref 45), some (.int (nI 6)), some (.int (nI 1)), some (.int (nI r)), w4] [] f3 0 0 (fun r' f' => (∀ j, (j < 45 ∨ j = 46 ∨ 52 < j) → f' j = f j) ∧ r' = some (.int (bI (rwS T true 6 p0).1)) ∧ (((rwS T true 6 p0).1 = false ∧ (∃ c1 r1 s1, f' 45 = some (RDE T.length (rwS T true 6 p0).2.2 c1 r1 s1) ∧ c1 ≤ 6) ∧ ∃ D1, PB f' 47 D1) ∨ ((rwS T true 6 p0).1 = true ∧ (∃ s1, f' 45 = some (RDE T.length (rwS T true 6 p0).2.2 (rl T true 6 p0) (rwS T true 6 p0).2.1 s1)) ∧ (∃ D1, PB f' 47 D1 ∧ pN D1 = pN D ∧ ∀ i j, i < (rwS T true 6 p0).2.1 → j < (rl T true 6 p0) → pC D1 (i * (rl T true 6 p0) + j) = cvl (chI T (p0 + i * ((rl T true 6 p0) + 1) + j)))))) := fun f3 w4 k3 o3 => by
          obtain ⟨D1, hD1, hN1, hc1⟩ := hiv
          have hmul : r * (rl T true 6 p0) + (rl T true 6 p0) ≤ 36 := by
            have : (r + 1) * (rl T true 6 p0) ≤ 6 * 6 := Nat.mul_le_mul (by omega) hw6
            rw [Nat.add_mul, Nat.one_mul] at this
            exact this
          refine rn_aload_n dX5_readRows_12 rfl ?_
          refine rn_iload_n dX5_readRows_13 rfl ?_
          refine rn_iload_n dX5_readRows_14 rfl ?_
          refine rn_callV dX5_readRows_15 lmX5_72 ⟨Nat.le_of_ble_eq_true rfl, Nat.le_of_ble_eq_true rfl⟩ (ct_readRowB g f3 (ro := r) o3 (hT.keep ((k3 46 (by decide)).trans ((k2 46 (by decide)).trans (k1 46 (by omega))))) (hD1.keep (fun k a b => (k3 k (by omega)).trans (k2 k (by omega)))) hw6 (show p + 1 ≤ 200 by omega) hmul) o3 rfl rfl (Nat.le_of_ble_eq_true rfl) ?_
          rintro _ f4 ⟨k4, rfl, o4, D4, hD4, hN4, hc4, hd4⟩
          have hrl := rl_le T true (rl T true 6 p0) (p + 1)
          by_cases hn : rl T true (rl T true 6 p0) (p + 1) = (rl T true 6 p0)
          · have go : Wp g MX5_readRows 46 [some (.ref 45), some (.int (nI 6)), some (.int (nI 1)), some (.int (nI (r + 1 - 1))), some (.int (nI (rl T true 6 p0)))] [] f4 0 0 (fun r' f' => (∀ j, (j < 45 ∨ j = 46 ∨ 52 < j) → f' j = f j) ∧ r' = some (.int (bI (rwS T true 6 p0).1)) ∧ (((rwS T true 6 p0).1 = false ∧ (∃ c1 r1 s1, f' 45 = some (RDE T.length (rwS T true 6 p0).2.2 c1 r1 s1) ∧ c1 ≤ 6) ∧ ∃ D1, PB f' 47 D1) ∨ ((rwS T true 6 p0).1 = true ∧ (∃ s1, f' 45 = some (RDE T.length (rwS T true 6 p0).2.2 (rl T true 6 p0) (rwS T true 6 p0).2.1 s1)) ∧ (∃ D1, PB f' 47 D1 ∧ pN D1 = pN D ∧ ∀ i j, i < (rwS T true 6 p0).2.1 → j < (rl T true 6 p0) → pC D1 (i * (rl T true 6 p0) + j) = cvl (chI T (p0 + i * ((rl T true 6 p0) + 1) + j)))))) := by
              refine ih (r + 1) (p + 1 + (rl T true 6 p0)) (r) f4 (by omega) (by omega) (by omega) hw hw6 (by rw [Nat.add_mul, Nat.one_mul]; omega) (by rw [hz, rwk, if_pos c67, if_pos hn]) (fun j hj => (k4 j hj).trans ((k3 j (by omega)).trans ((k2 j (by omega)).trans (k1 j hj)))) ⟨s1, by rw [hn] at o4; exact o4⟩ ⟨D4, hD4, hN4.trans hN1, fun i j hi hj => ?_⟩
              by_cases e : i = r
              · rw [e, hc4 j (by omega), show p + 1 + j = p0 + r * ((rl T true 6 p0) + 1) + j by omega]
              · have hlt2 : i * (rl T true 6 p0) + j < r * (rl T true 6 p0) := by
                  have : (i + 1) * (rl T true 6 p0) ≤ r * (rl T true 6 p0) := Nat.mul_le_mul_right _ (by omega)
                  rw [Nat.add_mul, Nat.one_mul] at this
                  omega
                rw [hd4 _ hlt2]
                exact hc1 i j (by omega) hj
            rw [Nat.add_sub_cancel] at go
            rw [hn] at o4 ⊢
            refine rn_istore dX5_readRows_18 (Nat.le_of_ble_eq_true rfl) rfl ?_
            refine rn_iload_n dX5_readRows_20 rfl ?_
            refine rn_if_ne (tgt := 30) dX5_readRows_21 (by decide) (fun c21 => ?_) (fun c21 => ?_)
            · refine rn_iload dX5_readRows_30 rfl ?_
              refine rn_if_eq (tgt := 44) dX5_readRows_32 (by decide) (fun c32 => ?_) (fun c32 => ?_)
              · exact absurd c32 (nI_ne0 hw (by omega))
              · refine rn_iload dX5_readRows_35 rfl ?_
                refine rn_aload_n dX5_readRows_37 rfl ?_
                refine rn_get dX5_readRows_38 lfX5_29 o4 rfl ?_
                refine rn_icmp_ge (tgt := 46) dX5_readRows_41 (by decide) (fun c41 => ?_) (fun c41 => ?_)
                · exact go
                · exact absurd (nI_le (Nat.le_refl _) (by omega)) c41
            · exact absurd c21 (nI_ne0 (by omega) (by omega))
          · refine rn_istore dX5_readRows_18 (Nat.le_of_ble_eq_true rfl) rfl ?_
            refine rn_iload_n dX5_readRows_20 rfl ?_
            refine rn_if_ne (tgt := 30) dX5_readRows_21 (by decide) (fun c21 => ?_) (fun c21 => ?_)
            · refine rn_iload dX5_readRows_30 rfl ?_
              refine rn_if_eq (tgt := 44) dX5_readRows_32 (by decide) (fun c32 => ?_) (fun c32 => ?_)
              · refine rn_iconst (v := nI 0) dX5_readRows_44 (by decide) ?_
                refine rn_zret dX5_readRows_45 rfl rfl ?_
                exact ⟨fun j hj => (k4 j hj).trans ((k3 j (by omega)).trans ((k2 j (by omega)).trans (k1 j hj))), by rw [hz, rwk, if_pos c67, if_neg hn]; rfl, Or.inl ⟨by rw [hz, rwk, if_pos c67, if_neg hn], ⟨_, _, _, by rw [hz, rwk, if_pos c67, if_neg hn]; exact o4, hw6⟩, D4, hD4⟩⟩
              · refine rn_iload dX5_readRows_35 rfl ?_
                refine rn_aload_n dX5_readRows_37 rfl ?_
                refine rn_get dX5_readRows_38 lfX5_29 o4 rfl ?_
                refine rn_icmp_ge (tgt := 46) dX5_readRows_41 (by decide) (fun c41 => ?_) (fun c41 => ?_)
                · exact absurd (ge_ex c41 (by omega) (by omega)) (by omega)
                · refine rn_iconst (v := nI 0) dX5_readRows_44 (by decide) ?_
                  refine rn_zret dX5_readRows_45 rfl rfl ?_
                  exact ⟨fun j hj => (k4 j hj).trans ((k3 j (by omega)).trans ((k2 j (by omega)).trans (k1 j hj))), by rw [hz, rwk, if_pos c67, if_neg hn]; rfl, Or.inl ⟨by rw [hz, rwk, if_pos c67, if_neg hn], ⟨_, _, _, by rw [hz, rwk, if_pos c67, if_neg hn]; exact o4, hw6⟩, D4, hD4⟩⟩
            · exact absurd c21 (nI_ne0 (by omega) (by omega))
        refine rn_aload_n dX5_readRows_72 rfl ?_
        refine rn_dup dX5_readRows_73 rfl ?_
        refine rn_get dX5_readRows_74 lfX5_26 o2 rfl ?_
        refine rn_iconst (v := nI 1) dX5_readRows_77 (by decide) ?_
        refine rn_iadd dX5_readRows_78 ?_
        rw [nI_add]
        refine rn_put dX5_readRows_79 lpX5_26 o2 rfl rfl (Nat.le_of_ble_eq_true rfl) ?_
        refine Wp.gen (e := RDE T.length (p + 1) (rl T true 6 p0) r s1) (fun f3 k3 o3 => ?_)
        refine rn_iinc (v := nI r) dX5_readRows_82 rfl ((by rw [show r = r - 1 + 1 by omega]; exact nI_1 _)) (Nat.le_of_ble_eq_true rfl) rfl ?_
        refine rn_goto (tgt := 7) dX5_readRows_85 (by decide) ?_
        refine rn_iload_n dX5_readRows_7 rfl ?_
        refine rn_iload_n dX5_readRows_8 rfl ?_
        refine rn_icmp_ge (tgt := 88) dX5_readRows_9 (by decide) (fun c9 => ?_) (fun c9 => ?_)
        · exact absurd (ge_ex c9 (by omega) (by decide)) (by omega)
        · exact h12 f3 _ k3 o3
      refine rn_aload_n dX5_readRows_46 rfl ?_
      refine rn_iload_n dX5_readRows_47 rfl ?_
      refine rn_iconst (v := nI 1) dX5_readRows_48 (by decide) ?_
      refine rn_iadd dX5_readRows_49 ?_
      rw [nI_add, show r - 1 + 1 = r by omega]
      refine rn_put dX5_readRows_50 lpX5_32 o1 rfl rfl (Nat.le_of_ble_eq_true rfl) ?_
      refine Wp.gen (e := RDE T.length p (rl T true 6 p0) r s1) (fun f2 k2 o2 => ?_)
      refine rn_aload_n dX5_readRows_53 rfl ?_
      refine rn_get dX5_readRows_54 lfX5_32 o2 rfl ?_
      refine rn_iload_n dX5_readRows_57 rfl ?_
      refine rn_icmp_eq (tgt := 70) dX5_readRows_58 (by decide) (fun c58 => ?_) (fun c58 => ?_)
      · refine rn_iconst (v := nI 1) dX5_readRows_70 (by decide) ?_
        refine rn_zret dX5_readRows_71 rfl rfl ?_
        exact absurd ((nI_eq (b := 6) (by omega) (by decide)).mp c58) (by omega)
      · refine rn_aload_n dX5_readRows_61 rfl ?_
        refine rn_callV dX5_readRows_62 lmX5_55 ⟨Nat.le_of_ble_eq_true rfl, Nat.le_of_ble_eq_true rfl⟩ (ct_look g f2 o2 (hT.keep ((k2 46 (by decide)).trans (k1 46 (by omega)))) (show p < 1000 by omega)) o2 rfl rfl (Nat.le_of_ble_eq_true rfl) ?_
        rintro _ _ ⟨rfl, rfl⟩
        refine rn_bipush (v := nI 47) dX5_readRows_65 (by decide) ?_
        refine rn_icmp_eq (tgt := 72) dX5_readRows_67 (by decide) (fun c67 => ?_) (fun c67 => ?_)
        · exact at72 f2 _ k2 o2 c67
        · refine rn_iconst (v := nI 1) dX5_readRows_70 (by decide) ?_
          refine rn_zret dX5_readRows_71 rfl rfl ?_
          exact ⟨fun j hj => (k2 j (by omega)).trans (k1 j hj), by rw [hz, rwk, if_neg c67]; rfl, Or.inr ⟨by rw [hz, rwk, if_neg c67], ⟨s1, by rw [hz, rwk, if_neg c67]; exact o2⟩, by
            obtain ⟨D1, hD1, hN1, hc1⟩ := hiv
            rw [hz, rwk, if_neg c67]
            exact ⟨D1, hD1.keep (fun k a b => k2 k (by omega)), hN1, hc1⟩⟩⟩
  have h12 : ∀ (f1 : Mm), (∀ j, j ≠ 45 → f1 j = f j) → f1 45 = some (RDE T.length p0 6 r s) → Wp g MX5_readRows 12 [some (.ref 45), some (.int (nI 6)), some (.int (nI 1)), some (.int (nI 0)), none] [] f1 0 0 (fun r' f' => (∀ j, (j < 45 ∨ j = 46 ∨ 52 < j) → f' j = f j) ∧ r' = some (.int (bI (rwS T true 6 p0).1)) ∧ (((rwS T true 6 p0).1 = false ∧ (∃ c1 r1 s1, f' 45 = some (RDE T.length (rwS T true 6 p0).2.2 c1 r1 s1) ∧ c1 ≤ 6) ∧ ∃ D1, PB f' 47 D1) ∨ ((rwS T true 6 p0).1 = true ∧ (∃ s1, f' 45 = some (RDE T.length (rwS T true 6 p0).2.2 (rl T true 6 p0) (rwS T true 6 p0).2.1 s1)) ∧ (∃ D1, PB f' 47 D1 ∧ pN D1 = pN D ∧ ∀ i j, i < (rwS T true 6 p0).2.1 → j < (rl T true 6 p0) → pC D1 (i * (rl T true 6 p0) + j) = cvl (chI T (p0 + i * ((rl T true 6 p0) + 1) + j)))))) := fun f1 k1 o1 => by
    refine rn_aload_n dX5_readRows_12 rfl ?_
    refine rn_iload_n dX5_readRows_13 rfl ?_
    refine rn_iload_n dX5_readRows_14 rfl ?_
    refine rn_callV dX5_readRows_15 lmX5_72 ⟨Nat.le_of_ble_eq_true rfl, Nat.le_of_ble_eq_true rfl⟩ (ct_readRowB g f1 (ro := 0) o1 (hT.keep (k1 46 (by decide))) (hD.keep (fun k a b => k1 k (by omega))) (show 6 ≤ 6 by decide) (show p0 ≤ 200 by omega) (by omega)) o1 rfl rfl (Nat.le_of_ble_eq_true rfl) ?_
    rintro _ f2 ⟨k2, rfl, o2, D2, hD2, hN2, hc2, hd2⟩
    have hrl := rl_le T true 6 p0
    by_cases h0 : (rl T true 6 p0) = 0
    · rw [h0] at o2 ⊢
      refine rn_istore dX5_readRows_18 (Nat.le_of_ble_eq_true rfl) rfl ?_
      refine rn_iload_n dX5_readRows_20 rfl ?_
      refine rn_if_ne (tgt := 30) dX5_readRows_21 (by decide) (fun h => absurd (show nI 0 = 0 from rfl) h) (fun _ => ?_)
      refine rn_aload_n dX5_readRows_24 rfl ?_
      refine rn_iload dX5_readRows_25 rfl ?_
      refine rn_put dX5_readRows_27 lpX5_29 o2 rfl rfl (Nat.le_of_ble_eq_true rfl) ?_
      refine Wp.gen (e := RDE T.length (p0 + 0) 0 r s) (fun f3 k3 o3 => ?_)
      refine rn_iload dX5_readRows_30 rfl ?_
      refine rn_if_eq (tgt := 44) dX5_readRows_32 (by decide) (fun c32 => ?_) (fun c32 => ?_)
      · refine rn_iconst (v := nI 0) dX5_readRows_44 (by decide) ?_
        refine rn_zret dX5_readRows_45 rfl rfl ?_
        exact ⟨fun j hj => (k3 j (by omega)).trans ((k2 j hj).trans (k1 j (by omega))), by rw [rwS, if_pos h0]; rfl, Or.inl ⟨by rw [rwS, if_pos h0], ⟨0, r, s, by rw [rwS, if_pos h0]; exact o3, by decide⟩, D2, hD2.keep (fun k a b => k3 k (by omega))⟩⟩
      · exact absurd (show nI 0 = 0 from rfl) c32
    · refine rn_istore dX5_readRows_18 (Nat.le_of_ble_eq_true rfl) rfl ?_
      refine rn_iload_n dX5_readRows_20 rfl ?_
      refine rn_if_ne (tgt := 30) dX5_readRows_21 (by decide) (fun h => absurd (show nI 0 = 0 from rfl) h) (fun _ => ?_)
      refine rn_aload_n dX5_readRows_24 rfl ?_
      refine rn_iload dX5_readRows_25 rfl ?_
      refine rn_put dX5_readRows_27 lpX5_29 o2 rfl rfl (Nat.le_of_ble_eq_true rfl) ?_
      refine Wp.gen (e := RDE T.length (p0 + (rl T true 6 p0)) (rl T true 6 p0) r s) (fun f3 k3 o3 => ?_)
      have go := at46 5 1 (p0 + (rl T true 6 p0)) r f3 rfl (by decide) (by decide) (by omega) hrl (by omega) (by rw [rwS, if_neg h0]) (fun j hj => (k3 j (by omega)).trans ((k2 j hj).trans (k1 j (by omega)))) ⟨s, o3⟩ ⟨D2, hD2.keep (fun k a b => k3 k (by omega)), hN2, fun i j hi hj => by rw [show i = 0 by omega, Nat.zero_mul, Nat.zero_mul, Nat.add_zero]; exact hc2 j hj⟩
      refine rn_iload dX5_readRows_30 rfl ?_
      refine rn_if_eq (tgt := 44) dX5_readRows_32 (by decide) (fun c32 => ?_) (fun c32 => ?_)
      · exact absurd c32 (nI_ne0 (by omega) (by omega))
      · refine rn_iload dX5_readRows_35 rfl ?_
        refine rn_aload_n dX5_readRows_37 rfl ?_
        refine rn_get dX5_readRows_38 lfX5_29 o3 rfl ?_
        refine rn_icmp_ge (tgt := 46) dX5_readRows_41 (by decide) (fun c41 => ?_) (fun c41 => ?_)
        · exact go
        · exact absurd (nI_le (Nat.le_refl _) (by omega)) c41
  refine rn_aload_n dX5_readRows_0 rfl ?_
  refine rn_iload_n dX5_readRows_1 rfl ?_
  refine rn_put dX5_readRows_2 lpX5_29 hO rfl rfl (Nat.le_of_ble_eq_true rfl) ?_
  refine Wp.gen (e := RDE T.length p0 6 r s) (fun f1 k1 o1 => ?_)
  refine rn_iconst (v := nI 0) dX5_readRows_5 (by decide) ?_
  refine rn_istore_n dX5_readRows_6 (Nat.le_of_ble_eq_true rfl) rfl ?_
  refine rn_iload_n dX5_readRows_7 rfl ?_
  refine rn_iload_n dX5_readRows_8 rfl ?_
  refine rn_icmp_ge (tgt := 88) dX5_readRows_9 (by decide) (fun c9 => ?_) (fun c9 => ?_)
  · exact absurd (ge_ex c9 (by decide) (by decide)) (by decide)
  · exact h12 f1 k1 o1
theorem ct_readRowsS (g : GG) (f : Mm) {T : List Nat} {p0 c r s : Nat} (hO : f 45 = some (RDE T.length p0 c r s)) (hT : RDt f T) (hs : s = 0) (hp : p0 ≤ 170) : Ct g MX5_readRows [.ref 45, .int (nI 4), .int (nI 0)] f 0 0 (fun r' f' => (∀ j, j ≠ 45 → f' j = f j) ∧ r' = some (.int (bI (rwS T false 4 p0).1)) ∧ (((rwS T false 4 p0).1 = false ∧ (∃ c1 r1 s1, f' 45 = some (RDE T.length (rwS T false 4 p0).2.2 c1 r1 s1))) ∨ ((rwS T false 4 p0).1 = true ∧ (∃ s1, s1 < 65536 ∧ shB T p0 (rl T false 4 p0) (fun i j => i < (rwS T false 4 p0).2.1 ∧ j < rl T false 4 p0) s1 ∧ f' 45 = some (RDE T.length (rwS T false 4 p0).2.2 (rl T false 4 p0) (rwS T false 4 p0).2.1 s1))))) := by
  refine Ct.of ok_MX5_readRows (Nat.le_of_ble_eq_true rfl) ?_
  change Wp g MX5_readRows 0 [some (.ref 45), some (.int (nI 4)), some (.int (nI 0)), none, none] [] f 0 0 _
  have hl160 := hT.1
  have at46 : ∀ (d r p rx : Nat) (f1 : Mm), 4 - r = d → 1 ≤ r → r ≤ 4 → 0 < (rl T false 4 p0) → (rl T false 4 p0) ≤ 4 → p + 1 = p0 + r * ((rl T false 4 p0) + 1) → rwS T false 4 p0 = rwk T false (rl T false 4 p0) d r p → (∀ j, j ≠ 45 → f1 j = f j) → (∃ s1, s1 < 65536 ∧ shB T p0 (rl T false 4 p0) (fun i j => i < r ∧ j < rl T false 4 p0) s1 ∧ f1 45 = some (RDE T.length p (rl T false 4 p0) rx s1)) → True → Wp g MX5_readRows 46 [some (.ref 45), some (.int (nI 4)), some (.int (nI 0)), some (.int (nI (r - 1))), some (.int (nI (rl T false 4 p0)))] [] f1 0 0 (fun r' f' => (∀ j, j ≠ 45 → f' j = f j) ∧ r' = some (.int (bI (rwS T false 4 p0).1)) ∧ (((rwS T false 4 p0).1 = false ∧ (∃ c1 r1 s1, f' 45 = some (RDE T.length (rwS T false 4 p0).2.2 c1 r1 s1))) ∨ ((rwS T false 4 p0).1 = true ∧ (∃ s1, s1 < 65536 ∧ shB T p0 (rl T false 4 p0) (fun i j => i < (rwS T false 4 p0).2.1 ∧ j < rl T false 4 p0) s1 ∧ f' 45 = some (RDE T.length (rwS T false 4 p0).2.2 (rl T false 4 p0) (rwS T false 4 p0).2.1 s1))))) := by
    intro d
    induction d with
    | zero =>
      intro r p rx f1 hd h1 h6 hw hw6 hp1 hz k1 hob hiv
      have hr : r = 4 := by omega
      subst hr
      obtain ⟨s1, hs1, hS1, o1⟩ := hob
      refine rn_aload_n dX5_readRows_46 rfl ?_
      refine rn_iload_n dX5_readRows_47 rfl ?_
      refine rn_iconst (v := nI 1) dX5_readRows_48 (by decide) ?_
      refine rn_iadd dX5_readRows_49 ?_
      rw [nI_add]
      refine rn_put dX5_readRows_50 lpX5_32 o1 rfl rfl (Nat.le_of_ble_eq_true rfl) ?_
      refine Wp.gen (e := RDE T.length p (rl T false 4 p0) 4 s1) (fun f2 k2 o2 => ?_)
      refine rn_aload_n dX5_readRows_53 rfl ?_
      refine rn_get dX5_readRows_54 lfX5_32 o2 rfl ?_
      refine rn_iload_n dX5_readRows_57 rfl ?_
      refine rn_icmp_eq (tgt := 70) dX5_readRows_58 (by decide) (fun c58 => ?_) (fun c58 => ?_)
      · refine rn_iconst (v := nI 1) dX5_readRows_70 (by decide) ?_
        refine rn_zret dX5_readRows_71 rfl rfl ?_
        exact ⟨fun j hj => (k2 j hj).trans (k1 j hj), by rw [hz]; rfl, Or.inr ⟨by rw [hz]; rfl, s1, hs1, by rw [hz]; exact hS1, by rw [hz]; exact o2⟩⟩
      · exact absurd rfl c58
    | succ d ih =>
      intro r p rx f1 hd h1 h6 hw hw6 hp1 hz k1 hob hiv
      obtain ⟨s1, hs1, hS1, o1⟩ := hob
      have hmul0 : r * ((rl T false 4 p0) + 1) ≤ 6 * 7 := Nat.mul_le_mul (by omega) (by omega)
      have at72 : ∀ (f2 : Mm) (w4 : Option Value), (∀ j, j ≠ 45 → f2 j = f1 j) → f2 45 = some (RDE T.length p (rl T false 4 p0) r s1) → chI T p = nI 47 → Wp g MX5_readRows 72 [some (.ref 45), some (.int (nI 4)), some (.int (nI 0)), some (.int (nI (r - 1))), w4] [] f2 0 0 (fun r' f' => (∀ j, j ≠ 45 → f' j = f j) ∧ r' = some (.int (bI (rwS T false 4 p0).1)) ∧ (((rwS T false 4 p0).1 = false ∧ (∃ c1 r1 s1, f' 45 = some (RDE T.length (rwS T false 4 p0).2.2 c1 r1 s1))) ∨ ((rwS T false 4 p0).1 = true ∧ (∃ s1, s1 < 65536 ∧ shB T p0 (rl T false 4 p0) (fun i j => i < (rwS T false 4 p0).2.1 ∧ j < rl T false 4 p0) s1 ∧ f' 45 = some (RDE T.length (rwS T false 4 p0).2.2 (rl T false 4 p0) (rwS T false 4 p0).2.1 s1))))) := fun f2 w4 k2 o2 c67 => by
        have hpl := chI_ne c67 (by decide)
        have h12 : ∀ (f3 : Mm) (w4 : Option Value), (∀ j, j ≠ 45 → f3 j = f2 j) → f3 45 = some (RDE T.length (p + 1) (rl T false 4 p0) r s1) → Wp g MX5_readRows 12 [some (.ref 45), some (.int (nI 4)), some (.int (nI 0)), some (.int (nI r)), w4] [] f3 0 0 (fun r' f' => (∀ j, j ≠ 45 → f' j = f j) ∧ r' = some (.int (bI (rwS T false 4 p0).1)) ∧ (((rwS T false 4 p0).1 = false ∧ (∃ c1 r1 s1, f' 45 = some (RDE T.length (rwS T false 4 p0).2.2 c1 r1 s1))) ∨ ((rwS T false 4 p0).1 = true ∧ (∃ s1, s1 < 65536 ∧ shB T p0 (rl T false 4 p0) (fun i j => i < (rwS T false 4 p0).2.1 ∧ j < rl T false 4 p0) s1 ∧ f' 45 = some (RDE T.length (rwS T false 4 p0).2.2 (rl T false 4 p0) (rwS T false 4 p0).2.1 s1))))) := fun f3 w4 k3 o3 => by
          skip
          refine rn_aload_n dX5_readRows_12 rfl ?_
          refine rn_iload_n dX5_readRows_13 rfl ?_
          refine rn_iload_n dX5_readRows_14 rfl ?_
          refine rn_callV dX5_readRows_15 lmX5_72 ⟨Nat.le_of_ble_eq_true rfl, Nat.le_of_ble_eq_true rfl⟩ (ct_readRowS g f3 (ro := r) (p0 := p0) (w := rl T false 4 p0) o3 (hT.keep ((k3 46 (by decide)).trans ((k2 46 (by decide)).trans (k1 46 (by decide))))) hw6 (show p + 1 ≤ 200 by omega) (by omega) hs1 (Or.inr rfl) hp1 hS1) o3 rfl rfl (Nat.le_of_ble_eq_true rfl) ?_
          rintro _ f4 ⟨k4, rfl, s4, hs4, o4, hS4⟩
          have hrl := rl_le T false (rl T false 4 p0) (p + 1)
          by_cases hn : rl T false (rl T false 4 p0) (p + 1) = (rl T false 4 p0)
          · have go : Wp g MX5_readRows 46 [some (.ref 45), some (.int (nI 4)), some (.int (nI 0)), some (.int (nI (r + 1 - 1))), some (.int (nI (rl T false 4 p0)))] [] f4 0 0 (fun r' f' => (∀ j, j ≠ 45 → f' j = f j) ∧ r' = some (.int (bI (rwS T false 4 p0).1)) ∧ (((rwS T false 4 p0).1 = false ∧ (∃ c1 r1 s1, f' 45 = some (RDE T.length (rwS T false 4 p0).2.2 c1 r1 s1))) ∨ ((rwS T false 4 p0).1 = true ∧ (∃ s1, s1 < 65536 ∧ shB T p0 (rl T false 4 p0) (fun i j => i < (rwS T false 4 p0).2.1 ∧ j < rl T false 4 p0) s1 ∧ f' 45 = some (RDE T.length (rwS T false 4 p0).2.2 (rl T false 4 p0) (rwS T false 4 p0).2.1 s1))))) := by
              exact ih (r + 1) (p + 1 + (rl T false 4 p0)) (r) f4 (by omega) (by omega) (by omega) hw hw6 (by rw [Nat.add_mul, Nat.one_mul]; omega) (by rw [hz, rwk, if_pos c67, if_pos hn]) (fun j hj => (k4 j hj).trans ((k3 j hj).trans ((k2 j hj).trans (k1 j hj)))) ⟨s4, hs4, shB_ext hS4 (fun i j _ _ => by unfold pdn; rw [hn]; omega), by rw [hn] at o4; exact o4⟩ trivial
            rw [Nat.add_sub_cancel] at go
            rw [hn] at o4 ⊢
            refine rn_istore dX5_readRows_18 (Nat.le_of_ble_eq_true rfl) rfl ?_
            refine rn_iload_n dX5_readRows_20 rfl ?_
            refine rn_if_ne (tgt := 30) dX5_readRows_21 (by decide) (fun c21 => ?_) (fun c21 => ?_)
            · refine rn_iload dX5_readRows_30 rfl ?_
              refine rn_if_eq (tgt := 44) dX5_readRows_32 (by decide) (fun c32 => ?_) (fun c32 => ?_)
              · exact absurd c32 (nI_ne0 hw (by omega))
              · refine rn_iload dX5_readRows_35 rfl ?_
                refine rn_aload_n dX5_readRows_37 rfl ?_
                refine rn_get dX5_readRows_38 lfX5_29 o4 rfl ?_
                refine rn_icmp_ge (tgt := 46) dX5_readRows_41 (by decide) (fun c41 => ?_) (fun c41 => ?_)
                · exact go
                · exact absurd (nI_le (Nat.le_refl _) (by omega)) c41
            · exact absurd c21 (nI_ne0 (by omega) (by omega))
          · refine rn_istore dX5_readRows_18 (Nat.le_of_ble_eq_true rfl) rfl ?_
            refine rn_iload_n dX5_readRows_20 rfl ?_
            refine rn_if_ne (tgt := 30) dX5_readRows_21 (by decide) (fun c21 => ?_) (fun c21 => ?_)
            · refine rn_iload dX5_readRows_30 rfl ?_
              refine rn_if_eq (tgt := 44) dX5_readRows_32 (by decide) (fun c32 => ?_) (fun c32 => ?_)
              · refine rn_iconst (v := nI 0) dX5_readRows_44 (by decide) ?_
                refine rn_zret dX5_readRows_45 rfl rfl ?_
                exact ⟨fun j hj => (k4 j hj).trans ((k3 j hj).trans ((k2 j hj).trans (k1 j hj))), by rw [hz, rwk, if_pos c67, if_neg hn]; rfl, Or.inl ⟨by rw [hz, rwk, if_pos c67, if_neg hn], _, _, _, by rw [hz, rwk, if_pos c67, if_neg hn]; exact o4⟩⟩
              · refine rn_iload dX5_readRows_35 rfl ?_
                refine rn_aload_n dX5_readRows_37 rfl ?_
                refine rn_get dX5_readRows_38 lfX5_29 o4 rfl ?_
                refine rn_icmp_ge (tgt := 46) dX5_readRows_41 (by decide) (fun c41 => ?_) (fun c41 => ?_)
                · exact absurd (ge_ex c41 (by omega) (by omega)) (by omega)
                · refine rn_iconst (v := nI 0) dX5_readRows_44 (by decide) ?_
                  refine rn_zret dX5_readRows_45 rfl rfl ?_
                  exact ⟨fun j hj => (k4 j hj).trans ((k3 j hj).trans ((k2 j hj).trans (k1 j hj))), by rw [hz, rwk, if_pos c67, if_neg hn]; rfl, Or.inl ⟨by rw [hz, rwk, if_pos c67, if_neg hn], _, _, _, by rw [hz, rwk, if_pos c67, if_neg hn]; exact o4⟩⟩
            · exact absurd c21 (nI_ne0 (by omega) (by omega))
        refine rn_aload_n dX5_readRows_72 rfl ?_
        refine rn_dup dX5_readRows_73 rfl ?_
        refine rn_get dX5_readRows_74 lfX5_26 o2 rfl ?_
        refine rn_iconst (v := nI 1) dX5_readRows_77 (by decide) ?_
        refine rn_iadd dX5_readRows_78 ?_
        rw [nI_add]
        refine rn_put dX5_readRows_79 lpX5_26 o2 rfl rfl (Nat.le_of_ble_eq_true rfl) ?_
        refine Wp.gen (e := RDE T.length (p + 1) (rl T false 4 p0) r s1) (fun f3 k3 o3 => ?_)
        refine rn_iinc (v := nI r) dX5_readRows_82 rfl ((by rw [show r = r - 1 + 1 by omega]; exact nI_1 _)) (Nat.le_of_ble_eq_true rfl) rfl ?_
        refine rn_goto (tgt := 7) dX5_readRows_85 (by decide) ?_
        refine rn_iload_n dX5_readRows_7 rfl ?_
        refine rn_iload_n dX5_readRows_8 rfl ?_
        refine rn_icmp_ge (tgt := 88) dX5_readRows_9 (by decide) (fun c9 => ?_) (fun c9 => ?_)
        · exact absurd (ge_ex c9 (by omega) (by decide)) (by omega)
        · exact h12 f3 _ k3 o3
      refine rn_aload_n dX5_readRows_46 rfl ?_
      refine rn_iload_n dX5_readRows_47 rfl ?_
      refine rn_iconst (v := nI 1) dX5_readRows_48 (by decide) ?_
      refine rn_iadd dX5_readRows_49 ?_
      rw [nI_add, show r - 1 + 1 = r by omega]
      refine rn_put dX5_readRows_50 lpX5_32 o1 rfl rfl (Nat.le_of_ble_eq_true rfl) ?_
      refine Wp.gen (e := RDE T.length p (rl T false 4 p0) r s1) (fun f2 k2 o2 => ?_)
      refine rn_aload_n dX5_readRows_53 rfl ?_
      refine rn_get dX5_readRows_54 lfX5_32 o2 rfl ?_
      refine rn_iload_n dX5_readRows_57 rfl ?_
      refine rn_icmp_eq (tgt := 70) dX5_readRows_58 (by decide) (fun c58 => ?_) (fun c58 => ?_)
      · refine rn_iconst (v := nI 1) dX5_readRows_70 (by decide) ?_
        refine rn_zret dX5_readRows_71 rfl rfl ?_
        exact absurd ((nI_eq (b := 4) (by omega) (by decide)).mp c58) (by omega)
      · refine rn_aload_n dX5_readRows_61 rfl ?_
        refine rn_callV dX5_readRows_62 lmX5_55 ⟨Nat.le_of_ble_eq_true rfl, Nat.le_of_ble_eq_true rfl⟩ (ct_look g f2 o2 (hT.keep ((k2 46 (by decide)).trans (k1 46 (by decide)))) (show p < 1000 by omega)) o2 rfl rfl (Nat.le_of_ble_eq_true rfl) ?_
        rintro _ _ ⟨rfl, rfl⟩
        refine rn_bipush (v := nI 47) dX5_readRows_65 (by decide) ?_
        refine rn_icmp_eq (tgt := 72) dX5_readRows_67 (by decide) (fun c67 => ?_) (fun c67 => ?_)
        · exact at72 f2 _ k2 o2 c67
        · refine rn_iconst (v := nI 1) dX5_readRows_70 (by decide) ?_
          refine rn_zret dX5_readRows_71 rfl rfl ?_
          exact ⟨fun j hj => (k2 j hj).trans (k1 j hj), by rw [hz, rwk, if_neg c67]; rfl, Or.inr ⟨by rw [hz, rwk, if_neg c67], s1, hs1, by rw [hz, rwk, if_neg c67]; exact hS1, by rw [hz, rwk, if_neg c67]; exact o2⟩⟩
  have hS0 : shB T p0 (rl T false 4 p0) (fun i j => i < 0 ∧ j < rl T false 4 p0) s := fun k => by
    rw [hs, Nat.zero_testBit]
    constructor
    · intro h; cases h
    · rintro ⟨-, h, -⟩; omega
  have h12 : ∀ (f1 : Mm), (∀ j, j ≠ 45 → f1 j = f j) → f1 45 = some (RDE T.length p0 4 r s) → Wp g MX5_readRows 12 [some (.ref 45), some (.int (nI 4)), some (.int (nI 0)), some (.int (nI 0)), none] [] f1 0 0 (fun r' f' => (∀ j, j ≠ 45 → f' j = f j) ∧ r' = some (.int (bI (rwS T false 4 p0).1)) ∧ (((rwS T false 4 p0).1 = false ∧ (∃ c1 r1 s1, f' 45 = some (RDE T.length (rwS T false 4 p0).2.2 c1 r1 s1))) ∨ ((rwS T false 4 p0).1 = true ∧ (∃ s1, s1 < 65536 ∧ shB T p0 (rl T false 4 p0) (fun i j => i < (rwS T false 4 p0).2.1 ∧ j < rl T false 4 p0) s1 ∧ f' 45 = some (RDE T.length (rwS T false 4 p0).2.2 (rl T false 4 p0) (rwS T false 4 p0).2.1 s1))))) := fun f1 k1 o1 => by
    refine rn_aload_n dX5_readRows_12 rfl ?_
    refine rn_iload_n dX5_readRows_13 rfl ?_
    refine rn_iload_n dX5_readRows_14 rfl ?_
    refine rn_callV dX5_readRows_15 lmX5_72 ⟨Nat.le_of_ble_eq_true rfl, Nat.le_of_ble_eq_true rfl⟩ (ct_readRowS g f1 (ro := 0) (p0 := p0) (w := rl T false 4 p0) o1 (hT.keep (k1 46 (by decide))) (show 4 ≤ 4 by decide) (show p0 ≤ 200 by omega) (by decide) (by omega) (Or.inl rfl) (by omega) hS0) o1 rfl rfl (Nat.le_of_ble_eq_true rfl) ?_
    rintro _ f2 ⟨k2, rfl, s2, hs2, o2, hS2⟩
    have hrl := rl_le T false 4 p0
    by_cases h0 : (rl T false 4 p0) = 0
    · rw [h0] at o2 ⊢
      refine rn_istore dX5_readRows_18 (Nat.le_of_ble_eq_true rfl) rfl ?_
      refine rn_iload_n dX5_readRows_20 rfl ?_
      refine rn_if_ne (tgt := 30) dX5_readRows_21 (by decide) (fun h => absurd (show nI 0 = 0 from rfl) h) (fun _ => ?_)
      refine rn_aload_n dX5_readRows_24 rfl ?_
      refine rn_iload dX5_readRows_25 rfl ?_
      refine rn_put dX5_readRows_27 lpX5_29 o2 rfl rfl (Nat.le_of_ble_eq_true rfl) ?_
      refine Wp.gen (e := RDE T.length (p0 + 0) 0 r s2) (fun f3 k3 o3 => ?_)
      refine rn_iload dX5_readRows_30 rfl ?_
      refine rn_if_eq (tgt := 44) dX5_readRows_32 (by decide) (fun c32 => ?_) (fun c32 => ?_)
      · refine rn_iconst (v := nI 0) dX5_readRows_44 (by decide) ?_
        refine rn_zret dX5_readRows_45 rfl rfl ?_
        exact ⟨fun j hj => (k3 j hj).trans ((k2 j hj).trans (k1 j hj)), by rw [rwS, if_pos h0]; rfl, Or.inl ⟨by rw [rwS, if_pos h0], 0, r, s2, by rw [rwS, if_pos h0]; exact o3⟩⟩
      · exact absurd (show nI 0 = 0 from rfl) c32
    · refine rn_istore dX5_readRows_18 (Nat.le_of_ble_eq_true rfl) rfl ?_
      refine rn_iload_n dX5_readRows_20 rfl ?_
      refine rn_if_ne (tgt := 30) dX5_readRows_21 (by decide) (fun h => absurd (show nI 0 = 0 from rfl) h) (fun _ => ?_)
      refine rn_aload_n dX5_readRows_24 rfl ?_
      refine rn_iload dX5_readRows_25 rfl ?_
      refine rn_put dX5_readRows_27 lpX5_29 o2 rfl rfl (Nat.le_of_ble_eq_true rfl) ?_
      refine Wp.gen (e := RDE T.length (p0 + (rl T false 4 p0)) (rl T false 4 p0) r s2) (fun f3 k3 o3 => ?_)
      have go := at46 3 1 (p0 + (rl T false 4 p0)) r f3 rfl (by decide) (by decide) (by omega) hrl (by omega) (by rw [rwS, if_neg h0]) (fun j hj => (k3 j hj).trans ((k2 j hj).trans (k1 j hj))) ⟨s2, hs2, shB_ext hS2 (fun i j _ _ => by unfold pdn; omega), o3⟩ trivial
      refine rn_iload dX5_readRows_30 rfl ?_
      refine rn_if_eq (tgt := 44) dX5_readRows_32 (by decide) (fun c32 => ?_) (fun c32 => ?_)
      · exact absurd c32 (nI_ne0 (by omega) (by omega))
      · refine rn_iload dX5_readRows_35 rfl ?_
        refine rn_aload_n dX5_readRows_37 rfl ?_
        refine rn_get dX5_readRows_38 lfX5_29 o3 rfl ?_
        refine rn_icmp_ge (tgt := 46) dX5_readRows_41 (by decide) (fun c41 => ?_) (fun c41 => ?_)
        · exact go
        · exact absurd (nI_le (Nat.le_refl _) (by omega)) c41
  refine rn_aload_n dX5_readRows_0 rfl ?_
  refine rn_iload_n dX5_readRows_1 rfl ?_
  refine rn_put dX5_readRows_2 lpX5_29 hO rfl rfl (Nat.le_of_ble_eq_true rfl) ?_
  refine Wp.gen (e := RDE T.length p0 4 r s) (fun f1 k1 o1 => ?_)
  refine rn_iconst (v := nI 0) dX5_readRows_5 (by decide) ?_
  refine rn_istore_n dX5_readRows_6 (Nat.le_of_ble_eq_true rfl) rfl ?_
  refine rn_iload_n dX5_readRows_7 rfl ?_
  refine rn_iload_n dX5_readRows_8 rfl ?_
  refine rn_icmp_ge (tgt := 88) dX5_readRows_9 (by decide) (fun c9 => ?_) (fun c9 => ?_)
  · exact absurd (ge_ex c9 (by decide) (by decide)) (by decide)
  · exact h12 f1 k1 o1
