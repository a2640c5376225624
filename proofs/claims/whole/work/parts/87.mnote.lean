-- the Model's state: the problem P, the past H (oldest first), the text T
theorem SP.cong {s s' : Nat → Int32} {P : PS} (h : SP s P) (hV : VD P) (e : ∀ k, k < 73 → s' k = s k) : SP s' P := by
  obtain ⟨h1, h2, h3, h4, h5, h6, h7⟩ := h
  have ha := hV.area
  have v8 := hV.2.2.2.2
  refine ⟨(e 0 (by omega)).trans h1, (e 1 (by omega)).trans h2, (e 2 (by omega)).trans h3, (e 3 (by omega)).trans h4, (e 4 (by omega)).trans h5, fun i hi => (e _ (by omega)).trans (h6 i hi), fun i hi => ?_⟩
  obtain ⟨a, b, c, d⟩ := h7 i hi
  exact ⟨(e _ (by omega)).trans a, (e _ (by omega)).trans b, (e _ (by omega)).trans c, (e _ (by omega)).trans d⟩
def PSr (pr : Nat → Int32) (H : List PS) : Prop := ∀ i S, H[i]? = some S → VD S ∧ SP (fun k => pr (73 * i + k)) S
def psh (H : List PS) (P : PS) : List PS := (if H.length < 6 then H else H.drop 1) ++ [P]
theorem psh_len {H : List PS} {P : PS} (h : H.length ≤ 6) : (psh H P).length = (if H.length < 6 then H.length + 1 else 6) := by
  unfold psh
  by_cases e : H.length < 6
  · rw [if_pos e, if_pos e, List.length_append, List.length_singleton]
  · rw [if_neg e, if_neg e, List.length_append, List.length_singleton, List.length_drop]; omega
theorem psh_le {H : List PS} {P : PS} (h : H.length ≤ 6) : (psh H P).length ≤ 6 := by
  rw [psh_len h]; split <;> omega
theorem gpush {α : Type} {l : List α} {e x : α} {k : Nat} (h : (l ++ [e])[k]? = some x) : (k < l.length ∧ l[k]? = some x) ∨ (k = l.length ∧ x = e) := get_push h
theorem cm_note (g : GG) (f : Mm) {wi s pr : Nat → Int32} {cv : Int64} {P : PS} {H : List PS} (hM : f 75 = some (MO wi cv)) (hs : AR f 76 73 s) (hp : AR f 77 438 pr) (hw : wi 2 = nI H.length) (hl : H.length ≤ 6) (hPS : PSr pr H) (hP : SP s P) (hV : VD P) : Ct g MX12_note [.ref 75] f 0 0 (fun r f' => r = none ∧ (∀ j, j ≠ 75 → j ≠ 77 → f' j = f j) ∧ f' 75 = some (MO (upd wi 2 (nI (psh H P).length)) cv) ∧ ∃ pr', AR f' 77 438 pr' ∧ PSr pr' (psh H P)) := by
  refine Ct.of ok_MX12_note (Nat.le_of_ble_eq_true rfl) ?_
  change Wp g MX12_note 0 [some (.ref 75), none] [] f 0 0 _
  obtain ⟨sb, hsb, hsbe⟩ := id hs
  have loopB : ∀ (d k m : Nat) (f1 : Mm) (p1 p0 : Nat → Int32) (w1 : Nat → Int32) (H1 : List PS), 73 - k = d → k ≤ 73 → H1.length = m → m < 6 → psh H P = H1 ++ [P] → (∀ j, j ≠ 75 → j ≠ 77 → f1 j = f j) → f1 75 = some (MO w1 cv) → w1 2 = nI m → upd w1 2 (nI (m + 1)) = upd wi 2 (nI (m + 1)) → AR f1 77 438 p1 → PSr p0 H1 → (∀ j, j < 73 * m → p1 j = p0 j) → (∀ j, j < k → p1 (73 * m + j) = s j) → Wp g MX12_note 51 [some (.ref 75), some (.int (nI k))] [] f1 0 0 (fun r f' => r = none ∧ (∀ j, j ≠ 75 → j ≠ 77 → f' j = f j) ∧ f' 75 = some (MO (upd wi 2 (nI (psh H P).length)) cv) ∧ ∃ pr', AR f' 77 438 pr' ∧ PSr pr' (psh H P)) := by
    intro d
    induction d using Nat.strongRecOn with
    | ind d ih =>
      intro k m f1 p1 p0 w1 H1 hd hk hm hm6 hpsh k1 o1 hw1 hwe hp1 hPS1 hlo hnew
      obtain ⟨pb, hpb, hpbe⟩ := id hp1
      by_cases hlt : k < 73
      · refine rn_iload_n dX12_note_51 rfl ?_
        refine rn_bipush (v := nI 73) dX12_note_52 (by decide) ?_
        refine rn_icmp_ge (tgt := 83) dX12_note_54 (by decide) (fun c54 => ?_) (fun c54 => ?_)
        · exact absurd (ge_ex c54 (by omega) (by decide)) (by omega)
        · refine rn_aload_n dX12_note_57 rfl ?_
          refine rn_get dX12_note_58 lfX12_13 o1 rfl ?_
          refine rn_bipush (v := nI 73) dX12_note_61 (by decide) ?_
          refine rn_aload_n dX12_note_63 rfl ?_
          refine rn_get dX12_note_64 lfX12_64 o1 rfl ?_
          rw [hw1]
          refine rn_imul dX12_note_67 ?_
          rw [pk_mul]
          refine rn_iload_n dX12_note_68 rfl ?_
          refine rn_iadd dX12_note_69 ?_
          rw [nI_add]
          refine rn_aload_n dX12_note_70 rfl ?_
          refine rn_get dX12_note_71 lfX12_7 o1 rfl ?_
          refine rn_iload_n dX12_note_74 rfl ?_
          refine rn_iald dX12_note_75 ((k1 76 (by decide) (by decide)).trans hsb) (vp_in_nI hlt (by decide)) ?_
          rw [nI_clamp (by omega), hsbe k hlt]
          refine rn_iast dX12_note_76 hpb (vp_in_nI (show 73 * m + k < 438 by omega) (by decide)) ?_
          refine Wp.gen (e := .inl (0, 438, .inl (upd pb (nI (73 * m + k)).toNatClampNeg (s k)))) (fun f2 k2 o2 => ?_)
          refine rn_iinc (v := nI (k + 1)) dX12_note_77 rfl (nI_1 k) (Nat.le_of_ble_eq_true rfl) rfl ?_
          refine rn_goto (tgt := 51) dX12_note_80 (by decide) ?_
          refine ih _ (by omega) (k + 1) m f2 (upd p1 (73 * m + k) (s k)) p0 w1 H1 rfl (by omega) hm hm6 hpsh (fun j a b => (k2 j b).trans (k1 j a b)) ((k2 75 (by decide)).trans o1) hw1 hwe ⟨_, o2, fun i hi => ?_⟩ hPS1 (fun j hj => ?_) (fun j hj => ?_)
          · rw [nI_clamp (by omega)]
            by_cases e : i = 73 * m + k
            · rw [e, upd_eq, upd_eq]
            · rw [upd_ne e, upd_ne e]; exact hpbe i hi
          · rw [upd_ne (by omega)]; exact hlo j hj
          · by_cases e : j = k
            · rw [e, upd_eq]
            · rw [upd_ne (by omega)]; exact hnew j (by omega)
      · have hke : k = 73 := by omega
        subst hke
        have hlen : (psh H P).length = m + 1 := by rw [hpsh, List.length_append, List.length_singleton, hm]
        refine rn_iload_n dX12_note_51 rfl ?_
        refine rn_bipush (v := nI 73) dX12_note_52 (by decide) ?_
        refine rn_icmp_ge (tgt := 83) dX12_note_54 (by decide) (fun c54 => ?_) (fun c54 => ?_)
        · refine rn_aload_n dX12_note_83 rfl ?_
          refine rn_dup dX12_note_84 rfl ?_
          refine rn_get dX12_note_85 lfX12_64 o1 rfl ?_
          refine rn_iconst (v := nI 1) dX12_note_88 (by decide) ?_
          refine rn_iadd dX12_note_89 ?_
          rw [hw1, nI_add]
          refine rn_put dX12_note_90 lpX12_64 o1 rfl rfl (Nat.le_of_ble_eq_true rfl) ?_
          rw [ms2]
          refine Wp.gen (e := MO (upd w1 2 (nI (m + 1))) cv) (fun f2 k2 o2 => ?_)
          refine rn_vret dX12_note_93 rfl ?_
          refine ⟨rfl, fun j a b => (k2 j a).trans (k1 j a b), by rw [hlen, ← hwe]; exact o2, p1, hp1.keep (k2 77 (by decide)), ?_⟩
          rw [hpsh]
          intro i S hS
          rcases get_push hS with ⟨a, b⟩ | ⟨a, b⟩
          · obtain ⟨hVS, hSS⟩ := hPS1 i S b
            exact ⟨hVS, hSS.cong hVS (fun k hk => hlo _ (by omega))⟩
          · rw [b, a, hm]
            exact ⟨hV, hP.cong hV (fun k hk => hnew k hk)⟩
        · exact absurd (ge_in c54 (by decide)) (by decide)
  have loopA : ∀ (d k : Nat) (f1 : Mm) (p1 : Nat → Int32), H.length = 6 → 365 - k = d → k ≤ 365 → (∀ j, j ≠ 75 → j ≠ 77 → f1 j = f j) → f1 75 = some (MO wi cv) → AR f1 77 438 p1 → (∀ j, j < k → p1 j = pr (j + 73)) → (∀ j, k ≤ j → p1 j = pr j) → Wp g MX12_note 11 [some (.ref 75), some (.int (nI k))] [] f1 0 0 (fun r f' => r = none ∧ (∀ j, j ≠ 75 → j ≠ 77 → f' j = f j) ∧ f' 75 = some (MO (upd wi 2 (nI (psh H P).length)) cv) ∧ ∃ pr', AR f' 77 438 pr' ∧ PSr pr' (psh H P)) := by
    intro d
    induction d using Nat.strongRecOn with
    | ind d ih =>
      intro k f1 p1 h6 hd hk k1 o1 hp1 hlo hhi
      obtain ⟨pb, hpb, hpbe⟩ := id hp1
      by_cases hlt : k < 365
      · refine rn_iload_n dX12_note_11 rfl ?_
        refine rn_sipush (v := nI 365) dX12_note_12 (by decide) ?_
        refine rn_icmp_ge (tgt := 39) dX12_note_15 (by decide) (fun c15 => ?_) (fun c15 => ?_)
        · exact absurd (ge_ex c15 (by omega) (by decide)) (by omega)
        · refine rn_aload_n dX12_note_18 rfl ?_
          refine rn_get dX12_note_19 lfX12_13 o1 rfl ?_
          refine rn_iload_n dX12_note_22 rfl ?_
          refine rn_aload_n dX12_note_23 rfl ?_
          refine rn_get dX12_note_24 lfX12_13 o1 rfl ?_
          refine rn_iload_n dX12_note_27 rfl ?_
          refine rn_bipush (v := nI 73) dX12_note_28 (by decide) ?_
          refine rn_iadd dX12_note_30 ?_
          rw [nI_add]
          refine rn_iald dX12_note_31 hpb (vp_in_nI (show k + 73 < 438 by omega) (by decide)) ?_
          rw [nI_clamp (by omega), hpbe _ (by omega), hhi _ (by omega)]
          refine rn_iast dX12_note_32 hpb (vp_in_nI (show k < 438 by omega) (by decide)) ?_
          refine Wp.gen (e := .inl (0, 438, .inl (upd pb (nI k).toNatClampNeg (pr (k + 73))))) (fun f2 k2 o2 => ?_)
          refine rn_iinc (v := nI (k + 1)) dX12_note_33 rfl (nI_1 k) (Nat.le_of_ble_eq_true rfl) rfl ?_
          refine rn_goto (tgt := 11) dX12_note_36 (by decide) ?_
          refine ih _ (by omega) (k + 1) f2 (upd p1 k (pr (k + 73))) h6 rfl (by omega) (fun j a b => (k2 j b).trans (k1 j a b)) ((k2 75 (by decide)).trans o1) ⟨_, o2, fun i hi => ?_⟩ (fun j hj => ?_) (fun j hj => ?_)
          · rw [nI_clamp (by omega)]
            by_cases e : i = k
            · rw [e, upd_eq, upd_eq]
            · rw [upd_ne e, upd_ne e]; exact hpbe i hi
          · by_cases e : j = k
            · rw [e, upd_eq]
            · rw [upd_ne e]; exact hlo j (by omega)
          · rw [upd_ne (by omega)]; exact hhi j (by omega)
      · have hke : k = 365 := by omega
        subst hke
        refine rn_iload_n dX12_note_11 rfl ?_
        refine rn_sipush (v := nI 365) dX12_note_12 (by decide) ?_
        refine rn_icmp_ge (tgt := 39) dX12_note_15 (by decide) (fun c15 => ?_) (fun c15 => ?_)
        · refine rn_aload_n dX12_note_39 rfl ?_
          refine rn_dup dX12_note_40 rfl ?_
          refine rn_get dX12_note_41 lfX12_64 o1 rfl ?_
          refine rn_iconst (v := nI 1) dX12_note_44 (by decide) ?_
          refine rn_isub dX12_note_45 ?_
          rw [hw, h6, show nI 6 - nI 1 = nI 5 from rfl]
          refine rn_put dX12_note_46 lpX12_64 o1 rfl rfl (Nat.le_of_ble_eq_true rfl) ?_
          rw [ms2]
          refine Wp.gen (e := MO (upd wi 2 (nI 5)) cv) (fun f2 k2 o2 => ?_)
          refine rn_iconst (v := nI 0) dX12_note_49 (by decide) ?_
          refine rn_istore_n dX12_note_50 (Nat.le_of_ble_eq_true rfl) rfl ?_
          refine loopB 73 0 5 f2 p1 p1 (upd wi 2 (nI 5)) (H.drop 1) rfl (by omega) (by rw [List.length_drop]; omega) (by omega) (by rw [psh, if_neg (by omega)]) (fun j a b => (k2 j a).trans (k1 j a b)) o2 (upd_eq _ _ _) (upd_uu _ _ _ _) (hp1.keep (k2 77 (by decide))) (fun i S hS => ?_) (fun _ _ => rfl) (fun j hj => by omega)
          rw [List.getElem?_drop] at hS
          have hi1 : 1 + i < H.length := (List.getElem?_eq_some_iff.mp hS).1
          obtain ⟨hVS, hSS⟩ := hPS (1 + i) S hS
          refine ⟨hVS, hSS.cong hVS (fun k hk => ?_)⟩
          rw [hlo _ (by omega), show 73 * i + k + 73 = 73 * (1 + i) + k by omega]
        · exact absurd (ge_in c15 (by decide)) (by decide)
  by_cases h6 : H.length = 6
  · refine rn_aload_n dX12_note_0 rfl ?_
    refine rn_get dX12_note_1 lfX12_64 hM rfl ?_
    refine rn_bipush (v := nI 6) dX12_note_4 (by decide) ?_
    rw [hw, h6]
    refine rn_icmp_ne (tgt := 49) dX12_note_6 (by decide) (fun c6 => ?_) (fun c6 => ?_)
    · exact absurd rfl c6
    · refine rn_iconst (v := nI 0) dX12_note_9 (by decide) ?_
      refine rn_istore_n dX12_note_10 (Nat.le_of_ble_eq_true rfl) rfl ?_
      exact loopA 365 0 f pr h6 rfl (by omega) (fun _ _ _ => rfl) hM hp (fun j hj => by omega) (fun _ _ => rfl)
  · refine rn_aload_n dX12_note_0 rfl ?_
    refine rn_get dX12_note_1 lfX12_64 hM rfl ?_
    refine rn_bipush (v := nI 6) dX12_note_4 (by decide) ?_
    rw [hw]
    refine rn_icmp_ne (tgt := 49) dX12_note_6 (by decide) (fun c6 => ?_) (fun c6 => ?_)
    · refine rn_iconst (v := nI 0) dX12_note_49 (by decide) ?_
      refine rn_istore_n dX12_note_50 (Nat.le_of_ble_eq_true rfl) rfl ?_
      exact loopB 73 0 H.length f pr pr wi H rfl (by omega) rfl (by omega) (by rw [psh, if_pos (by omega)]) (fun _ _ _ => rfl) hM hw rfl hp hPS (fun _ _ => rfl) (fun j hj => by omega)
    · exact absurd ((nI_eq (b := 6) (by omega) (by decide)).mp c6) h6
