theorem upd_uu (w : Nat → Int32) (k : Nat) (x y : Int32) : upd (upd w k x) k y = upd w k y := by
  funext j
  by_cases h : j = k <;> simp [upd, h]
theorem upd_eq (w : Nat → Int32) (k : Nat) (x : Int32) : upd w k x k = x := by simp [upd]
theorem upd_ne {w : Nat → Int32} {k j : Nat} {x : Int32} (h : j ≠ k) : upd w k x j = w j := by simp [upd, h]
def csq (s : Nat) : Nat → Nat
  | 0 => s
  | k + 1 => if k = 3 then miC (csq s k) else tnC (csq s k)
theorem csq_in {s : Nat} (hs : s ∈ shL) : ∀ k, csq s k ∈ shL
  | 0 => hs
  | k + 1 => by
    have h := shL_turn _ (csq_in hs k)
    simp only [csq]
    split
    · exact h.2.1
    · exact h.1
def may (fr k : Nat) : Bool := decide (fr = 2) || (decide (k = 0) || (decide (fr = 1) && decide (k < 4)))
def fsM (s fr : Nat) : Nat → List Nat
  | 0 => []
  | k + 1 => if may fr k then fsM s fr k ++ [csq s k] else fsM s fr k
theorem fsM_iff : ∀ s ∈ shL, ∀ fr, fr < 3 → ∀ x, x ∈ fsM s fr 8 ↔ x ∈ fsC s fr := by
  have h : ∀ s ∈ shL, ∀ fr : Fin 3, (∀ x ∈ fsM s fr.val 8, x ∈ fsC s fr.val) ∧ ∀ x ∈ fsC s fr.val, x ∈ fsM s fr.val 8 := by decide +kernel
  exact fun s hs fr hf x => ⟨(h s hs ⟨fr, hf⟩).1 x, (h s hs ⟨fr, hf⟩).2 x⟩
theorem cm_findsForms (g : GG) (f : Mm) {wi s F : Nat → Int32} {cv : Int64} {P : PS} {sh fr co cp : Nat → Nat} {p : Nat} (hM : f 75 = some (MO wi cv)) (hs : AR f 76 73 s) (hF : AR f 79 9 F) (hP : SP s P) (hV : VD P) (hN : VN P sh fr co cp) (hp : p < pN P) : Ct g MX12_findsForms [.ref 75, .int (nI p)] f 0 0 (fun r f' => r = none ∧ (∀ k, k ≠ 75 → k ≠ 79 → f' k = f k) ∧ f' 75 = some (MO (upd wi 6 (nI (fmN (sh p) (fr p)))) cv) ∧ ∃ F', AR f' 79 9 F' ∧ ∀ i, i < fmN (sh p) (fr p) → F' i = nI (fmA (sh p) (fr p) i)) := by
  refine Ct.of ok_MX12_findsForms (Nat.le_of_ble_eq_true rfl) ?_
  change Wp g MX12_findsForms 0 [some (.ref 75), some (.int (nI p)), none, none, none] [] f 0 0 _
  have v8 := hV.2.2.2.2
  obtain ⟨n1, n2, n3, n4, n5, n6, n7, n8, n9⟩ := hN p hp
  obtain ⟨e1, e2, e3, e4⟩ := hP.2.2.2.2.2.2 p hp
  have loop : ∀ (d k : Nat) (f1 : Mm) (B : Nat → Int32) (a : Nat → Nat) (n : Nat) (w4 : Option Value), 8 - k = d → k ≤ 8 → f1 75 = some (MO (upd wi 6 (nI n)) cv) → AR f1 79 9 B → (∀ q, q ≠ 75 → q ≠ 79 → f1 q = f q) → n ≤ k → (∀ i, i < n → B i = nI (a i)) → SS a n (fun x => x ∈ fsM (sh p) (fr p) k) → Wp g MX12_findsForms 14 [some (.ref 75), some (.int (nI p)), some (.int (nI (csq (sh p) k))), some (.int (nI k)), w4] [] f1 0 0 (fun r f' => r = none ∧ (∀ k, k ≠ 75 → k ≠ 79 → f' k = f k) ∧ f' 75 = some (MO (upd wi 6 (nI (fmN (sh p) (fr p)))) cv) ∧ ∃ F', AR f' 79 9 F' ∧ ∀ i, i < fmN (sh p) (fr p) → F' i = nI (fmA (sh p) (fr p) i)) := by
    intro d
    induction d using Nat.strongRecOn with
    | ind d ih =>
      intro k f1 B a n w4 hd hk o1 hB hfr hnk hb hS
      have hc := csq_in n2 k
      have hcl := shL_lt _ hc
      have hct := shL_turn _ hc
      have hs1 : AR f1 76 73 s := hs.keep (hfr 76 (by decide) (by decide))
      -- behind addsForm
      have tail : ∀ (f2 : Mm) (B2 : Nat → Int32) (a2 : Nat → Nat) (m : Nat) (x4 : Int32), k < 8 → f2 75 = some (MO (upd wi 6 (nI m)) cv) → AR f2 79 9 B2 → (∀ q, q ≠ 75 → q ≠ 79 → f2 q = f q) → m ≤ k + 1 → (∀ i, i < m → B2 i = nI (a2 i)) → SS a2 m (fun x => x ∈ fsM (sh p) (fr p) (k + 1)) → Wp g MX12_findsForms 66 [some (.ref 75), some (.int (nI p)), some (.int (nI (csq (sh p) k))), some (.int (nI k)), some (.int x4)] [] f2 0 0 (fun r f' => r = none ∧ (∀ k, k ≠ 75 → k ≠ 79 → f' k = f k) ∧ f' 75 = some (MO (upd wi 6 (nI (fmN (sh p) (fr p)))) cv) ∧ ∃ F', AR f' 79 9 F' ∧ ∀ i, i < fmN (sh p) (fr p) → F' i = nI (fmA (sh p) (fr p) i)) := by
        intro f2 B2 a2 m x4 hk8 o2 hB2 hfr2 hm hb2 hS2
        have tail2 : ∀ (w : Nat), w = (if k = 3 then 1 else 0) → Wp g MX12_findsForms 77 [some (.ref 75), some (.int (nI p)), some (.int (nI (csq (sh p) k))), some (.int (nI k)), some (.int x4)] [.int (nI w), .int (nI (csq (sh p) k))] f2 0 0 (fun r f' => r = none ∧ (∀ k, k ≠ 75 → k ≠ 79 → f' k = f k) ∧ f' 75 = some (MO (upd wi 6 (nI (fmN (sh p) (fr p)))) cv) ∧ ∃ F', AR f' 79 9 F' ∧ ∀ i, i < fmN (sh p) (fr p) → F' i = nI (fmA (sh p) (fr p) i)) := by
          intro w hw
          have hpos : 0 < tw (csq (sh p) k) w 16 := by
            unfold tw
            split
            · exact hct.2.2.2.2.1
            · exact hct.2.2.2.2.2
          have hval : nrM (tw (csq (sh p) k) w 16) = csq (sh p) (k + 1) := by
            unfold tw
            simp only [csq]
            by_cases h3 : k = 3
            · rw [if_pos h3] at hw
              rw [if_pos h3, if_neg (by omega)]
              exact hct.2.2.2.1
            · rw [if_neg h3] at hw
              rw [if_neg h3, if_pos hw]
              exact hct.2.2.1
          refine rn_callS dX12_findsForms_77 lmX12_103 ⟨Nat.le_of_ble_eq_true rfl, Nat.le_of_ble_eq_true rfl⟩ (cm_changed g f2 hcl.1 (by rw [hw]; split <;> omega) hpos) rfl rfl (Nat.le_of_ble_eq_true rfl) ?_
          rintro _ _ ⟨rfl, rfl⟩
          rw [hval]
          refine rn_istore_n dX12_findsForms_80 (Nat.le_of_ble_eq_true rfl) rfl ?_
          refine rn_iinc (v := nI (k + 1)) dX12_findsForms_81 rfl (nI_1 k) (Nat.le_of_ble_eq_true rfl) rfl ?_
          refine rn_goto (tgt := 14) dX12_findsForms_84 (by decide) ?_
          exact ih _ (by omega) (k + 1) f2 B2 a2 m (some (.int x4)) rfl (by omega) o2 hB2 hfr2 hm hb2 hS2
        refine rn_iload_n dX12_findsForms_66 rfl ?_
        refine rn_iload_n dX12_findsForms_67 rfl ?_
        refine rn_iconst (v := nI 3) dX12_findsForms_68 (by decide) ?_
        refine rn_icmp_ne (tgt := 76) dX12_findsForms_69 (by decide) (fun c69 => ?_) (fun c69 => ?_)
        · refine rn_iconst (v := nI 0) dX12_findsForms_76 (by decide) ?_
          have h3 : ¬ k = 3 := fun q => c69 (by rw [q])
          exact tail2 0 (by rw [if_neg h3])
        · refine rn_iconst (v := nI 1) dX12_findsForms_72 (by decide) ?_
          refine rn_goto (tgt := 77) dX12_findsForms_73 (by decide) ?_
          have h3 : k = 3 := (nI_eq (by omega) (by decide)).mp c69
          exact tail2 1 (by rw [if_pos h3])
      have mid : ∀ (b : Bool), k < 8 → b = may (fr p) k → Wp g MX12_findsForms 54 [some (.ref 75), some (.int (nI p)), some (.int (nI (csq (sh p) k))), some (.int (nI k)), w4] [.int (bI b)] f1 0 0 (fun r f' => r = none ∧ (∀ k, k ≠ 75 → k ≠ 79 → f' k = f k) ∧ f' 75 = some (MO (upd wi 6 (nI (fmN (sh p) (fr p)))) cv) ∧ ∃ F', AR f' 79 9 F' ∧ ∀ i, i < fmN (sh p) (fr p) → F' i = nI (fmA (sh p) (fr p) i)) := by
        intro b hk8 hbm
        refine rn_istore dX12_findsForms_54 (Nat.le_of_ble_eq_true rfl) rfl ?_
        refine rn_iload dX12_findsForms_56 rfl ?_
        refine rn_if_eq (tgt := 66) dX12_findsForms_58 (by decide) (fun c58 => ?_) (fun c58 => ?_)
        · have hmay : may (fr p) k = false := hbm ▸ bI_0.mp c58
          exact tail f1 B a n (bI b) hk8 o1 hB hfr (by omega) hb (hS.iff (fun x => by rw [fsM, hmay]; rfl))
        · refine rn_aload_n dX12_findsForms_61 rfl ?_
          refine rn_iload_n dX12_findsForms_62 rfl ?_
          refine rn_callV dX12_findsForms_63 lmX12_99 ⟨Nat.le_of_ble_eq_true rfl, Nat.le_of_ble_eq_true rfl⟩ (cm_addsForm g f1 (n := n) o1 hB hcl.1 (by omega) (upd_eq _ _ _) hb hS) o1 rfl rfl (Nat.le_of_ble_eq_true rfl) ?_
          rintro _ f2 ⟨rfl, k2, B2, a2, m, o2, hB2, hm, hb2, hS2⟩
          rw [upd_uu] at o2
          have hmay : may (fr p) k = true := hbm ▸ bI_n0.mp c58
          exact tail f2 B2 a2 m (bI b) hk8 o2 hB2 (fun q x y => (k2 q x y).trans (hfr q x y)) (by omega) hb2 (hS2.iff (fun x => by rw [fsM, hmay, if_pos rfl, List.mem_append, List.mem_singleton]))
      refine rn_iload_n dX12_findsForms_14 rfl ?_
      refine rn_bipush (v := nI 8) dX12_findsForms_15 (by decide) ?_
      refine rn_icmp_ge (tgt := 87) dX12_findsForms_17 (by decide) (fun c17 => ?_) (fun c17 => ?_)
      · refine rn_vret dX12_findsForms_87 rfl ?_
        have hk8 := ge_ex c17 (by omega) (by decide)
        have ek : k = 8 := by omega
        subst ek
        obtain ⟨u1, u2⟩ := (hS.iff (fsM_iff _ n2 _ n4)).uniq (FM_ss _ n2 _ n4) (fun x => Iff.rfl)
        exact ⟨rfl, hfr, by rw [← u1]; exact o1, B, hB, fun i hi => by rw [hb i (by omega), u2 i (by omega)]⟩
      · have hk8 := ge_in c17 (by omega)
        refine rn_aload_n dX12_findsForms_20 rfl ?_
        refine rn_iload_n dX12_findsForms_21 rfl ?_
        refine rn_iconst (v := nI 1) dX12_findsForms_22 (by decide) ?_
        refine rn_callV dX12_findsForms_23 lmX12_95 ⟨Nat.le_of_ble_eq_true rfl, Nat.le_of_ble_eq_true rfl⟩ (cm_its g f1 o1 hs1 (by omega) (by decide)) o1 rfl rfl (Nat.le_of_ble_eq_true rfl) ?_
        rintro _ _ ⟨rfl, rfl⟩
        rw [e2, n3]
        refine rn_iconst (v := nI 2) dX12_findsForms_26 (by decide) ?_
        refine rn_icmp_eq (tgt := 49) dX12_findsForms_27 (by decide) (fun c27 => ?_) (fun c27 => ?_)
        · refine rn_iconst (v := nI 1) dX12_findsForms_49 (by decide) ?_
          refine rn_goto (tgt := 54) dX12_findsForms_50 (by decide) ?_
          have h2 : fr p = 2 := (nI_eq (by omega) (by decide)).mp c27
          exact mid true hk8 (by simp [may, h2])
        · refine rn_iload_n dX12_findsForms_30 rfl ?_
          refine rn_if_eq (tgt := 49) dX12_findsForms_31 (by decide) (fun c31 => ?_) (fun c31 => ?_)
          · refine rn_iconst (v := nI 1) dX12_findsForms_49 (by decide) ?_
            refine rn_goto (tgt := 54) dX12_findsForms_50 (by decide) ?_
            have h0 : k = 0 := (nI_eq (b := 0) (by omega) (by decide)).mp c31
            exact mid true hk8 (by simp [may, h0])
          · refine rn_aload_n dX12_findsForms_34 rfl ?_
            refine rn_iload_n dX12_findsForms_35 rfl ?_
            refine rn_iconst (v := nI 1) dX12_findsForms_36 (by decide) ?_
            refine rn_callV dX12_findsForms_37 lmX12_95 ⟨Nat.le_of_ble_eq_true rfl, Nat.le_of_ble_eq_true rfl⟩ (cm_its g f1 o1 hs1 (by omega) (by decide)) o1 rfl rfl (Nat.le_of_ble_eq_true rfl) ?_
            rintro _ _ ⟨rfl, rfl⟩
            rw [e2, n3]
            refine rn_iconst (v := nI 1) dX12_findsForms_40 (by decide) ?_
            refine rn_icmp_ne (tgt := 53) dX12_findsForms_41 (by decide) (fun c41 => ?_) (fun c41 => ?_)
            · refine rn_iconst (v := nI 0) dX12_findsForms_53 (by decide) ?_
              have q2 : ¬ fr p = 2 := fun q => c27 (by rw [q])
              have q0 : ¬ k = 0 := fun q => c31 (by rw [q]; rfl)
              have q1 : ¬ fr p = 1 := fun q => c41 (by rw [q])
              exact mid false hk8 (by simp [may, q2, q0, q1])
            · refine rn_iload_n dX12_findsForms_44 rfl ?_
              refine rn_iconst (v := nI 4) dX12_findsForms_45 (by decide) ?_
              refine rn_icmp_ge (tgt := 53) dX12_findsForms_46 (by decide) (fun c46 => ?_) (fun c46 => ?_)
              · refine rn_iconst (v := nI 0) dX12_findsForms_53 (by decide) ?_
                have q2 : ¬ fr p = 2 := fun q => c27 (by rw [q])
                have q0 : ¬ k = 0 := fun q => c31 (by rw [q]; rfl)
                have q4 := ge_ex c46 (by omega) (by decide)
                exact mid false hk8 (by simp [may, q2, q0, show ¬ k < 4 by omega])
              · refine rn_iconst (v := nI 1) dX12_findsForms_49 (by decide) ?_
                refine rn_goto (tgt := 54) dX12_findsForms_50 (by decide) ?_
                have q1 : fr p = 1 := (nI_eq (by omega) (by decide)).mp c41
                have q4 := ge_in c46 (by omega)
                exact mid true hk8 (by simp [may, q1, q4])
  refine rn_aload_n dX12_findsForms_0 rfl ?_
  refine rn_iconst (v := nI 0) dX12_findsForms_1 (by decide) ?_
  refine rn_put dX12_findsForms_2 lpX12_92 hM rfl rfl (Nat.le_of_ble_eq_true rfl) ?_
  rw [ms6]
  refine rn_aload_n dX12_findsForms_5 rfl ?_
  refine rn_iload_n dX12_findsForms_6 rfl ?_
  refine rn_iconst (v := nI 0) dX12_findsForms_7 (by decide) ?_
  refine rn_callV dX12_findsForms_8 lmX12_95 ⟨Nat.le_of_ble_eq_true rfl, Nat.le_of_ble_eq_true rfl⟩ (cm_its g _ (p := p) (w := 0) (up_same _ _ _) (hs.keep (up_ne (by decide))) (by omega) (by decide)) (up_same _ _ _) rfl rfl (Nat.le_of_ble_eq_true rfl) ?_
  rintro _ _ ⟨rfl, rfl⟩
  rw [show 41 + 4 * p + 0 = 41 + 4 * p from rfl, e1, n1]
  refine rn_istore_n dX12_findsForms_11 (Nat.le_of_ble_eq_true rfl) rfl ?_
  refine rn_iconst (v := nI 0) dX12_findsForms_12 (by decide) ?_
  refine rn_istore_n dX12_findsForms_13 (Nat.le_of_ble_eq_true rfl) rfl ?_
  exact loop 8 0 _ F (fun _ => 0) 0 none rfl (by omega) (up_same _ _ _) (hF.keep (up_ne (by decide))) (fun q x y => up_ne x) (by omega) (fun i hi => absurd hi (by omega)) ⟨fun i j _ h => absurd h (by omega), fun x => ⟨fun ⟨j, h, _⟩ => absurd h (by omega), fun h => absurd h (by simp [fsM])⟩, fun j h => absurd h (by omega)⟩
