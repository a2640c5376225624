theorem pl1_all {P : PS} {sh fr co cp : Nat → Nat} (hV : VD P) (hN : VN P sh fr co cp) (Pr : PE → Prop) (h : ∀ p i c, p < pN P → i < fmN (sh p) (fr p) → c < pW P * pH P → ¬ ly P (fmA (sh p) (fr p) i) (co p) c = 0 → Pr (p, i, c, ly P (fmA (sh p) (fr p) i) (co p) c)) : ∀ e ∈ pl1 P sh fr co (pN P), Pr e := by
  have h3 : ∀ p i, p < pN P → i < fmN (sh p) (fr p) → ∀ c, c ≤ pW P * pH P → ∀ e ∈ pl3 P p i (fmA (sh p) (fr p) i) (co p) c, Pr e := by
    intro p i hp hi c
    induction c with
    | zero => intro _ e he; simp [pl3] at he
    | succ c ih =>
      intro hc e he
      rw [pl3, List.mem_append] at he
      rcases he with he | he
      · exact ih (by omega) e he
      · by_cases hz : ly P (fmA (sh p) (fr p) i) (co p) c = 0
        · rw [if_pos hz] at he; simp at he
        · rw [if_neg hz] at he
          rw [List.mem_singleton.mp he]
          exact h p i c hp hi (by omega) hz
  have h2 : ∀ p, p < pN P → ∀ i, i ≤ fmN (sh p) (fr p) → ∀ e ∈ pl2 P (sh p) (fr p) (co p) p i, Pr e := by
    intro p hp i
    induction i with
    | zero => intro _ e he; simp [pl2] at he
    | succ i ih =>
      intro hi e he
      rw [pl2, List.mem_append] at he
      rcases he with he | he
      · exact ih (by omega) e he
      · exact h3 p i hp (by omega) _ (Nat.le_refl _) e he
  have h1 : ∀ p, p ≤ pN P → ∀ e ∈ pl1 P sh fr co p, Pr e := by
    intro p
    induction p with
    | zero => intro _ e he; simp [pl1] at he
    | succ p ih =>
      intro hp e he
      rw [pl1, List.mem_append] at he
      rcases he with he | he
      · exact ih (by omega) e he
      · exact h2 p (by omega) _ (Nat.le_refl _) e he
  exact h1 (pN P) (Nat.le_refl _)
theorem pl1_msk {P : PS} {sh fr co cp : Nat → Nat} (hV : VD P) (hN : VN P sh fr co cp) : ∀ k, k < (pl1 P sh fr co (pN P)).length → (gp (pl1 P sh fr co (pN P)) k).2.2.2 < 2 ^ (pW P * pH P) := fun k hk =>
  pl1_all hV hN (fun e => e.2.2.2 < 2 ^ (pW P * pH P)) (fun p i c _ _ _ _ => ly_lt P _ _ c) _ (List.mem_of_getElem? (gp_some hk))
theorem cm_weights (g : GG) (f : Mm) {wi s : Nat → Int32} {cv : Int64} {P : PS} {l : List PE} {p a b m : Nat} (hM : f 75 = some (MO wi cv)) (hs : AR f 76 73 s) (hP : SP s P) (hV : VD P) (hL : PLm f l) (hw : wi 12 = nI l.length) (hl : l.length ≤ 1280) (hE : EVs l) (hmk : ∀ k, k < l.length → (gp l k).2.2.2 < 2 ^ (pW P * pH P)) (hp : p < 8) (ha5 : a < 5) (hb5 : b < 5) (hm : 1 ≤ m) (hm2 : m ≤ 5) : Ct g MX12_weights [.ref 75, .int (nI p), .int (nI a), .int (nI b), .int (nI m)] f 0 0 (fun r f' => f = f' ∧ r = some (.int (nI (wpk l (pW P) a b m p l.length)))) := by
  refine Ct.of ok_MX12_weights (Nat.le_of_ble_eq_true rfl) ?_
  change Wp g MX12_weights 0 [some (.ref 75), some (.int (nI p)), some (.int (nI a)), some (.int (nI b)), some (.int (nI m)), none, none] [] f 0 0 _
  obtain ⟨⟨b1, g1, q1⟩, -, -, ⟨b4, g4, q4⟩, -⟩ := id hL
  have h5 := pw_5 hm2
  have loop : ∀ (d k : Nat), l.length - k = d → k ≤ l.length → Wp g MX12_weights 6 [some (.ref 75), some (.int (nI p)), some (.int (nI a)), some (.int (nI b)), some (.int (nI m)), some (.int (nI (wpk l (pW P) a b m p k))), some (.int (nI k))] [] f 0 0 (fun r f' => f = f' ∧ r = some (.int (nI (wpk l (pW P) a b m p l.length)))) := by
    intro d
    induction d using Nat.strongRecOn with
    | ind d ih =>
      intro k hd hk
      have hwk := wpk_lt (l := l) (W := pW P) (a := a) (b := b) (p := p) hm k
      refine rn_iload dX12_weights_6 rfl ?_
      refine rn_aload_n dX12_weights_8 rfl ?_
      refine rn_get dX12_weights_9 lfX12_106 hM rfl ?_
      rw [hw]
      refine rn_icmp_ge (tgt := 58) dX12_weights_12 (by decide) (fun c12 => ?_) (fun c12 => ?_)
      · refine rn_iload dX12_weights_58 rfl ?_
        refine rn_iret dX12_weights_60 rfl ?_
        have hk2 := ge_ex c12 (by omega) (by omega)
        exact ⟨rfl, by rw [show k = l.length by omega]⟩
      · have hk2 := ge_in c12 (by omega)
        have hev := hE k hk2
        have hwl := wgt_lt (W := pW P) (a := a) (b := b) (n := (gp l k).2.2.2) hm
        have hpw : 2 ^ wgt (pW P) a b m (gp l k).2.2.2 < 2 ^ m := Nat.pow_lt_pow_right (by decide) hwl
        refine rn_iload dX12_weights_15 rfl ?_
        refine rn_aload_n dX12_weights_17 rfl ?_
        refine rn_get dX12_weights_18 lfX12_23 hM rfl ?_
        refine rn_iload dX12_weights_21 rfl ?_
        refine rn_iald dX12_weights_23 g1 (vp_in_nI (show k < 2304 by omega) (by decide)) ?_
        rw [nI_clamp (by omega), q1 k _ (gp_some hk2)]
        refine rn_iload_n dX12_weights_24 rfl ?_
        refine rn_icmp_ne (tgt := 48) dX12_weights_25 (by decide) (fun c25 => ?_) (fun c25 => ?_)
        · refine rn_iconst (v := nI 0) dX12_weights_48 (by decide) ?_
          refine rn_ior dX12_weights_49 ?_
          refine rn_istore dX12_weights_50 (Nat.le_of_ble_eq_true rfl) rfl ?_
          refine rn_iinc (v := nI (k + 1)) dX12_weights_52 rfl (nI_1 k) (Nat.le_of_ble_eq_true rfl) rfl ?_
          refine rn_goto (tgt := 6) dX12_weights_55 (by decide) ?_
          have hne : ¬ (gp l k).1 = p := fun q => c25 (by rw [q])
          have e := ih _ (by omega) (k + 1) rfl (by omega)
          rw [show wpk l (pW P) a b m p (k + 1) = wpk l (pW P) a b m p k ||| 0 by rw [wpk, if_neg hne], ← nb_or (by omega) (by decide)] at e
          exact e
        · refine rn_iconst (v := nI 1) dX12_weights_28 (by decide) ?_
          refine rn_aload_n dX12_weights_29 rfl ?_
          refine rn_aload_n dX12_weights_30 rfl ?_
          refine rn_get dX12_weights_31 lfX12_32 hM rfl ?_
          refine rn_iload dX12_weights_34 rfl ?_
          refine rn_lald dX12_weights_36 g4 (vp_in_nI (show k < 2304 by omega) (by decide)) ?_
          rw [nI_clamp (by omega), q4 k _ (gp_some hk2)]
          refine rn_iload_n dX12_weights_37 rfl ?_
          refine rn_iload_n dX12_weights_38 rfl ?_
          refine rn_iload dX12_weights_39 rfl ?_
          refine rn_callV dX12_weights_41 lmX12_289 ⟨Nat.le_of_ble_eq_true rfl, Nat.le_of_ble_eq_true rfl⟩ (cm_weight g f hM hs hP hV (hmk k hk2) ha5 hb5 hm hm2) hM rfl rfl (Nat.le_of_ble_eq_true rfl) ?_
          rintro _ _ ⟨rfl, rfl⟩
          refine rn_ishl dX12_weights_44 ?_
          rw [nb_shl (by omega) (by rw [Nat.one_mul]; omega), Nat.one_mul]
          refine rn_goto (tgt := 49) dX12_weights_45 (by decide) ?_
          refine rn_ior dX12_weights_49 ?_
          refine rn_istore dX12_weights_50 (Nat.le_of_ble_eq_true rfl) rfl ?_
          refine rn_iinc (v := nI (k + 1)) dX12_weights_52 rfl (nI_1 k) (Nat.le_of_ble_eq_true rfl) rfl ?_
          refine rn_goto (tgt := 6) dX12_weights_55 (by decide) ?_
          have heq : (gp l k).1 = p := (nI_eq (by have := hev.1; omega) (by omega)).mp c25
          have e := ih _ (by omega) (k + 1) rfl (by omega)
          rw [show wpk l (pW P) a b m p (k + 1) = wpk l (pW P) a b m p k ||| 2 ^ wgt (pW P) a b m (gp l k).2.2.2 by rw [wpk, if_pos heq], ← nb_or (by omega) (by omega)] at e
          exact e
  refine rn_iconst (v := nI 0) dX12_weights_0 (by decide) ?_
  refine rn_istore dX12_weights_1 (Nat.le_of_ble_eq_true rfl) rfl ?_
  refine rn_iconst (v := nI 0) dX12_weights_3 (by decide) ?_
  refine rn_istore dX12_weights_4 (Nat.le_of_ble_eq_true rfl) rfl ?_
  exact loop _ 0 rfl (by omega)
-- the Model's sums of one copy
def adv (S T m : Nat) : Nat → Nat
  | 0 => 0
  | v + 1 => adv S T m v ||| (if S.testBit (v / m) && T.testBit (v % m) then 2 ^ ((v / m + v % m) % m) else 0)
theorem adv_lt {S T m : Nat} (hm : 1 ≤ m) : ∀ v, adv S T m v < 2 ^ m
  | 0 => Nat.two_pow_pos _
  | v + 1 => by
    rw [adv]
    refine Nat.or_lt_two_pow (adv_lt hm v) ?_
    split
    · exact Nat.pow_lt_pow_right (by decide) (Nat.mod_lt _ (by omega))
    · exact Nat.two_pow_pos _
theorem adv_eq : ∀ m, m < 6 → ∀ S, S < 32 → ∀ T, T < 32 → adv S T m (m * m) = adk S T m m := by
  have h : ∀ m : Fin 6, ∀ S T : Fin 32, adv S.val T.val m.val (m.val * m.val) = adk S.val T.val m.val m.val := by decide +kernel
  exact fun m hm S hS T hT => h ⟨m, hm⟩ ⟨S, hS⟩ ⟨T, hT⟩
theorem adk_1 : ∀ m, m < 6 → ∀ S, S < 32 → ∀ T, T < 32 → S < 2 ^ m → S ||| adk S T m m = adk S (T ||| 1) m m := by
  have h : ∀ m : Fin 6, ∀ S T : Fin 32, S.val < 2 ^ m.val → S.val ||| adk S.val T.val m.val m.val = adk S.val (T.val ||| 1) m.val m.val := by decide +kernel
  exact fun m hm S hS T hT => h ⟨m, hm⟩ ⟨S, hS⟩ ⟨T, hT⟩
theorem cm_isProof (g : GG) (f : Mm) {wi s : Nat → Int32} {cv : Int64} {P : PS} {sh fr co cp : Nat → Nat} {l : List PE} {a b m : Nat} (hM : f 75 = some (MO wi cv)) (hs : AR f 76 73 s) (hP : SP s P) (hV : VD P) (hN : VN P sh fr co cp) (hL : PLm f l) (hw : wi 12 = nI l.length) (hl : l.length ≤ 1280) (hE : EVs l) (hmk : ∀ k, k < l.length → (gp l k).2.2.2 < 2 ^ (pW P * pH P)) (ha5 : a < 5) (hb5 : b < 5) (hm : 1 ≤ m) (hm2 : m ≤ 5) (hmd : pMd P ≤ 1) : Ct g MX12_isProof [.ref 75, .int (nI a), .int (nI b), .int (nI m)] f 0 0 (fun r f' => f = f' ∧ r = some (.int (bI (prf P l cp a b m)))) := by
  refine Ct.of ok_MX12_isProof (Nat.le_of_ble_eq_true rfl) ?_
  change Wp g MX12_isProof 0 [some (.ref 75), some (.int (nI a)), some (.int (nI b)), some (.int (nI m)), none, none, none, none, none, none, none] [] f 0 0 _
  have h5 := pw_5 hm2
  have har := hV.area
  have h36 := pw_36 har
  have hopk := opk_lt (pC P) (pW P * pH P)
  obtain ⟨v1, v2, v3, v4, v8⟩ := id hV
  obtain ⟨bs, hbs, hbse⟩ := id hs
  have hmm : m * m ≤ 25 := Nat.mul_le_mul hm2 hm2
  have loop1 : ∀ (d p : Nat) (w6 w7 w8 w9 w10 : Option Value), pN P - p = d → p ≤ pN P → Wp g MX12_isProof 6 [some (.ref 75), some (.int (nI a)), some (.int (nI b)), some (.int (nI m)), some (.int (nI (smp P l cp a b m p))), some (.int (nI p)), w6, w7, w8, w9, w10] [] f 0 0 (fun r f' => f = f' ∧ r = some (.int (bI (prf P l cp a b m)))) := by
    intro d
    induction d using Nat.strongRecOn with
    | ind d ih =>
      intro p w6 w7 w8 w9 w10 hd hp
      have hsl := smp_lt (P := P) (l := l) (cp := cp) (a := a) (b := b) hm p
      refine Wp.sub (lv' := [some (.ref 75), some (.int (nI a)), some (.int (nI b)), some (.int (nI m)), some (.int (nI (smp P l cp a b m p))), some (.int (nI p)), none, none, none, none, none]) (fun i v hv => ?_) ?_
      · match i, hv with
        | 0, hv => exact hv
        | 1, hv => exact hv
        | 2, hv => exact hv
        | 3, hv => exact hv
        | 4, hv => exact hv
        | 5, hv => exact hv
        | 6, hv => cases hv
        | 7, hv => cases hv
        | 8, hv => cases hv
        | 9, hv => cases hv
        | 10, hv => cases hv
      have loop2 : ∀ (e c S : Nat) (w8 w9 w10 : Option Value), p < pN P → cp p - c = e → c ≤ cp p → S < 2 ^ m → smc (stp P l a b m p) m (cp p - c) S = smp P l cp a b m (p + 1) → Wp g MX12_isProof 31 [some (.ref 75), some (.int (nI a)), some (.int (nI b)), some (.int (nI m)), some (.int (nI S)), some (.int (nI p)), some (.int (nI (wpk l (pW P) a b m p l.length))), some (.int (nI c)), w8, w9, w10] [] f 0 0 (fun r f' => f = f' ∧ r = some (.int (bI (prf P l cp a b m)))) := by
        intro e
        induction e using Nat.strongRecOn with
        | ind e ihe =>
          intro c S w8 w9 w10 hpN he hc hS hsm
          obtain ⟨n1, n2, n3, n4, n5, n6, n7, n8, n9⟩ := hN p hpN
          obtain ⟨e1, e2, e3, e4⟩ := hP.2.2.2.2.2.2 p hpN
          have hwk := wpk_lt (l := l) (W := pW P) (a := a) (b := b) (p := p) hm l.length
          generalize hT : wpk l (pW P) a b m p l.length = T at *
          refine Wp.sub (lv' := [some (.ref 75), some (.int (nI a)), some (.int (nI b)), some (.int (nI m)), some (.int (nI S)), some (.int (nI p)), some (.int (nI T)), some (.int (nI c)), none, none, none]) (fun i v hv => ?_) ?_
          · match i, hv with
            | 0, hv => exact hv
            | 1, hv => exact hv
            | 2, hv => exact hv
            | 3, hv => exact hv
            | 4, hv => exact hv
            | 5, hv => exact hv
            | 6, hv => exact hv
            | 7, hv => exact hv
            | 8, hv => cases hv
            | 9, hv => cases hv
            | 10, hv => cases hv
          have loop3 : ∀ (h v B : Nat) (w10 : Option Value), c < cp p → B < 2 ^ m → B ||| adk S T m m = adk S (stp P l a b m p) m m → m * m - v = h → v ≤ m * m → Wp g MX12_isProof 63 [some (.ref 75), some (.int (nI a)), some (.int (nI b)), some (.int (nI m)), some (.int (nI S)), some (.int (nI p)), some (.int (nI T)), some (.int (nI c)), some (.int (nI (B ||| adv S T m v))), some (.int (nI v)), w10] [] f 0 0 (fun r f' => f = f' ∧ r = some (.int (bI (prf P l cp a b m)))) := by
            intro h
            induction h using Nat.strongRecOn with
            | ind h ihh =>
              intro v B w10 hcc hB hBe hh hv
              have hadv := adv_lt (S := S) (T := T) hm v
              have hor := Nat.or_lt_two_pow hB hadv
              have hd5 : v / m ≤ v := Nat.div_le_self _ _
              have hvm : v % m < m := Nat.mod_lt _ (by omega)
              have hmod : (v / m + v % m) % m < m := Nat.mod_lt _ (by omega)
              have hpw : 2 ^ ((v / m + v % m) % m) < 2 ^ m := Nat.pow_lt_pow_right (by decide) hmod
              generalize hq1 : v / m = qd at *
              generalize hq2 : v % m = qr at *
              have hS0 : S / 2 ^ qd ≤ S := Nat.div_le_self _ _
              have hT0 : T / 2 ^ qr ≤ T := Nat.div_le_self _ _
              have back : ∀ (X : Nat) (w10 : Option Value), v < m * m → X = (if S.testBit qd && T.testBit qr then 2 ^ ((qd + qr) % m) else 0) → X < 2 ^ m → Wp g MX12_isProof 128 [some (.ref 75), some (.int (nI a)), some (.int (nI b)), some (.int (nI m)), some (.int (nI S)), some (.int (nI p)), some (.int (nI T)), some (.int (nI c)), some (.int (nI (B ||| adv S T m v))), some (.int (nI v)), w10] [.int (nI X), .int (nI (B ||| adv S T m v))] f 0 0 (fun r f' => f = f' ∧ r = some (.int (bI (prf P l cp a b m)))) := by
                intro X w10 hv2 hX hXl
                refine rn_ior dX12_isProof_128 ?_
                rw [nb_or (by omega) (by omega)]
                refine rn_istore dX12_isProof_129 (Nat.le_of_ble_eq_true rfl) rfl ?_
                refine rn_iinc (v := nI (v + 1)) dX12_isProof_131 rfl (nI_1 v) (Nat.le_of_ble_eq_true rfl) rfl ?_
                refine rn_goto (tgt := 63) dX12_isProof_134 (by decide) ?_
                have q := ihh (m * m - (v + 1)) (by omega) (v + 1) B w10 hcc hB hBe rfl (by omega)
                rw [show B ||| adv S T m (v + 1) = (B ||| adv S T m v) ||| X by rw [adv, hq1, hq2, ← hX, Nat.or_assoc]] at q
                exact q
              have mid : ∀ (bb : Bool), v < m * m → bb = (S.testBit qd && T.testBit qr) → Wp g MX12_isProof 102 [some (.ref 75), some (.int (nI a)), some (.int (nI b)), some (.int (nI m)), some (.int (nI S)), some (.int (nI p)), some (.int (nI T)), some (.int (nI c)), some (.int (nI (B ||| adv S T m v))), some (.int (nI v)), w10] [.int (bI bb)] f 0 0 (fun r f' => f = f' ∧ r = some (.int (bI (prf P l cp a b m)))) := by
                intro bb hv2 hbb
                refine rn_istore dX12_isProof_102 (Nat.le_of_ble_eq_true rfl) rfl ?_
                refine rn_iload dX12_isProof_104 rfl ?_
                refine rn_iload dX12_isProof_106 rfl ?_
                refine rn_if_eq (tgt := 127) dX12_isProof_108 (by decide) (fun c108 => ?_) (fun c108 => ?_)
                · refine rn_iconst (v := nI 0) dX12_isProof_127 (by decide) ?_
                  exact back 0 _ hv2 (by rw [← hbb, bI_0.mp c108]; rfl) (Nat.two_pow_pos _)
                · refine rn_iconst (v := nI 1) dX12_isProof_111 (by decide) ?_
                  refine rn_iload dX12_isProof_112 rfl ?_
                  refine rn_iload_n dX12_isProof_114 rfl ?_
                  refine rn_idiv dX12_isProof_115 (nI_ne0 (by omega) (by omega)) ?_
                  rw [pk_div (by omega) (by omega) (by omega), hq1]
                  refine rn_iload dX12_isProof_116 rfl ?_
                  refine rn_iload_n dX12_isProof_118 rfl ?_
                  refine rn_irem dX12_isProof_119 (nI_ne0 (by omega) (by omega)) ?_
                  rw [pk_rem (by omega) (by omega) (by omega), hq2]
                  refine rn_iadd dX12_isProof_120 ?_
                  rw [nI_add]
                  refine rn_iload_n dX12_isProof_121 rfl ?_
                  refine rn_irem dX12_isProof_122 (nI_ne0 (by omega) (by omega)) ?_
                  rw [pk_rem (by omega) (by omega) (by omega)]
                  refine rn_ishl dX12_isProof_123 ?_
                  rw [nb_shl (by omega) (by rw [Nat.one_mul]; omega), Nat.one_mul]
                  refine rn_goto (tgt := 128) dX12_isProof_124 (by decide) ?_
                  exact back _ _ hv2 (by rw [← hbb, bI_n0.mp c108, if_pos rfl]) hpw
              refine rn_iload dX12_isProof_63 rfl ?_
              refine rn_iload_n dX12_isProof_65 rfl ?_
              refine rn_iload_n dX12_isProof_66 rfl ?_
              refine rn_imul dX12_isProof_67 ?_
              rw [pk_mul]
              refine rn_icmp_ge (tgt := 137) dX12_isProof_68 (by decide) (fun c68 => ?_) (fun c68 => ?_)
              · refine rn_iload dX12_isProof_137 rfl ?_
                refine rn_istore dX12_isProof_139 (Nat.le_of_ble_eq_true rfl) rfl ?_
                refine rn_iinc (v := nI (c + 1)) dX12_isProof_141 rfl (nI_1 c) (Nat.le_of_ble_eq_true rfl) rfl ?_
                refine rn_goto (tgt := 31) dX12_isProof_144 (by decide) ?_
                have hv2 := ge_ex c68 (by omega) (by omega)
                have hve : v = m * m := by omega
                subst hve
                rw [adv_eq m (by omega) S (by omega) T (by omega), hBe]
                refine ihe _ (by omega) (c + 1) _ _ _ _ hpN rfl (by omega) (adk_ltm hm m) ?_
                rw [show cp p - c = (cp p - (c + 1)) + 1 by omega, smc] at hsm
                exact hsm
              · have hv2 := ge_in c68 (by omega)
                refine rn_iload dX12_isProof_71 rfl ?_
                refine rn_iload dX12_isProof_73 rfl ?_
                refine rn_iload_n dX12_isProof_75 rfl ?_
                refine rn_idiv dX12_isProof_76 (nI_ne0 (by omega) (by omega)) ?_
                rw [pk_div (by omega) (by omega) (by omega), hq1]
                refine rn_ishr dX12_isProof_77 ?_
                rw [nb_shr (by omega) (by omega)]
                refine rn_iconst (v := nI 1) dX12_isProof_78 (by decide) ?_
                refine rn_iand dX12_isProof_79 ?_
                rw [show (nI 1 : Int32) = nI (2 ^ 1 - 1) from rfl, nb_and (by omega) (by decide), Nat.and_two_pow_sub_one_eq_mod, show (2 ^ 1 : Nat) = 2 from rfl]
                refine rn_iconst (v := nI 1) dX12_isProof_80 (by decide) ?_
                refine rn_icmp_ne (tgt := 101) dX12_isProof_81 (by decide) (fun c81 => ?_) (fun c81 => ?_)
                · refine rn_iconst (v := nI 0) dX12_isProof_101 (by decide) ?_
                  exact mid false hv2 (by rw [show S.testBit qd = false by rw [tb_eq, decide_eq_false]; exact fun q => c81 (by rw [q]), Bool.false_and])
                · refine rn_iload dX12_isProof_84 rfl ?_
                  refine rn_iload dX12_isProof_86 rfl ?_
                  refine rn_iload_n dX12_isProof_88 rfl ?_
                  refine rn_irem dX12_isProof_89 (nI_ne0 (by omega) (by omega)) ?_
                  rw [pk_rem (by omega) (by omega) (by omega), hq2]
                  refine rn_ishr dX12_isProof_90 ?_
                  rw [nb_shr (by omega) (by omega)]
                  refine rn_iconst (v := nI 1) dX12_isProof_91 (by decide) ?_
                  refine rn_iand dX12_isProof_92 ?_
                  rw [show (nI 1 : Int32) = nI (2 ^ 1 - 1) from rfl, nb_and (by omega) (by decide), Nat.and_two_pow_sub_one_eq_mod, show (2 ^ 1 : Nat) = 2 from rfl]
                  refine rn_iconst (v := nI 1) dX12_isProof_93 (by decide) ?_
                  refine rn_icmp_ne (tgt := 101) dX12_isProof_94 (by decide) (fun c94 => ?_) (fun c94 => ?_)
                  · refine rn_iconst (v := nI 0) dX12_isProof_101 (by decide) ?_
                    exact mid false hv2 (by rw [show T.testBit qr = false by rw [tb_eq, decide_eq_false]; exact fun q => c94 (by rw [q]), Bool.and_false])
                  · refine rn_iconst (v := nI 1) dX12_isProof_97 (by decide) ?_
                    refine rn_goto (tgt := 102) dX12_isProof_98 (by decide) ?_
                    exact mid true hv2 (by rw [show S.testBit qd = true by rw [tb_eq, decide_eq_true]; exact (nI_eq (a := S / 2 ^ qd % 2) (b := 1) (by omega) (by decide)).mp c81, show T.testBit qr = true by rw [tb_eq, decide_eq_true]; exact (nI_eq (a := T / 2 ^ qr % 2) (b := 1) (by omega) (by decide)).mp c94]; rfl)
          refine rn_iload dX12_isProof_31 rfl ?_
          refine rn_aload_n dX12_isProof_33 rfl ?_
          refine rn_iload dX12_isProof_34 rfl ?_
          refine rn_iconst (v := nI 3) dX12_isProof_36 (by decide) ?_
          refine rn_callV dX12_isProof_37 lmX12_95 ⟨Nat.le_of_ble_eq_true rfl, Nat.le_of_ble_eq_true rfl⟩ (cm_its g f hM hs (by omega) (by decide)) hM rfl rfl (Nat.le_of_ble_eq_true rfl) ?_
          rintro _ _ ⟨rfl, rfl⟩
          rw [e4, n7]
          refine rn_icmp_ge (tgt := 147) dX12_isProof_40 (by decide) (fun c40 => ?_) (fun c40 => ?_)
          · refine rn_iinc (v := nI (p + 1)) dX12_isProof_147 rfl (nI_1 p) (Nat.le_of_ble_eq_true rfl) rfl ?_
            refine rn_goto (tgt := 6) dX12_isProof_150 (by decide) ?_
            have hc2 := ge_ex c40 (by omega) (by omega)
            rw [show cp p - c = 0 by omega, smc] at hsm
            subst hsm
            exact ih _ (by omega) (p + 1) _ _ _ _ _ rfl (by omega)
          · have hc2 := ge_in c40 (by omega)
            refine rn_aload_n dX12_isProof_43 rfl ?_
            refine rn_get dX12_isProof_44 lfX12_7 hM rfl ?_
            refine rn_iconst (v := nI 2) dX12_isProof_47 (by decide) ?_
            refine rn_iald dX12_isProof_48 hbs (vp_in_nI (show 2 < 73 by omega) (by decide)) ?_
            rw [nI_clamp (by decide), hbse 2 (by omega), hP.2.2.1]
            refine rn_if_ne (tgt := 57) dX12_isProof_49 (by decide) (fun c49 => ?_) (fun c49 => ?_)
            · refine rn_iconst (v := nI 0) dX12_isProof_57 (by decide) ?_
              refine rn_istore dX12_isProof_58 (Nat.le_of_ble_eq_true rfl) rfl ?_
              refine rn_iconst (v := nI 0) dX12_isProof_60 (by decide) ?_
              refine rn_istore dX12_isProof_61 (Nat.le_of_ble_eq_true rfl) rfl ?_
              have hne : ¬ pMd P = 0 := fun q => c49 (by rw [q]; rfl)
              have q := loop3 _ 0 0 none hc2 (Nat.two_pow_pos _) (by rw [Nat.zero_or, stp, if_neg hne, Nat.or_zero, hT]) rfl (by omega)
              rw [adv, Nat.or_zero] at q
              exact q
            · refine rn_iload dX12_isProof_52 rfl ?_
              refine rn_goto (tgt := 58) dX12_isProof_54 (by decide) ?_
              refine rn_istore dX12_isProof_58 (Nat.le_of_ble_eq_true rfl) rfl ?_
              refine rn_iconst (v := nI 0) dX12_isProof_60 (by decide) ?_
              refine rn_istore dX12_isProof_61 (Nat.le_of_ble_eq_true rfl) rfl ?_
              have he0 : pMd P = 0 := (az (by omega)).mp c49
              have q := loop3 _ 0 S none hc2 hS (by rw [stp, if_pos he0, hT]; exact adk_1 m (by omega) S (by omega) T (by omega) hS) rfl (by omega)
              rw [adv, Nat.or_zero] at q
              exact q
      have hwl := wgt_lt (W := pW P) (a := a) (b := b) (n := opk (pC P) (pW P * pH P)) hm
      refine rn_iload dX12_isProof_6 rfl ?_
      refine rn_aload_n dX12_isProof_8 rfl ?_
      refine rn_get dX12_isProof_9 lfX12_7 hM rfl ?_
      refine rn_iconst (v := nI 4) dX12_isProof_12 (by decide) ?_
      refine rn_iald dX12_isProof_13 hbs (vp_in_nI (show 4 < 73 by omega) (by decide)) ?_
      rw [nI_clamp (by decide), hbse 4 (by omega), hP.2.2.2.2.1]
      refine rn_icmp_ge (tgt := 153) dX12_isProof_14 (by decide) (fun c14 => ?_) (fun c14 => ?_)
      · have hp2 := ge_ex c14 (by omega) (by omega)
        have hpe : p = pN P := by omega
        subst hpe
        refine rn_iload dX12_isProof_153 rfl ?_
        refine rn_aload_n dX12_isProof_155 rfl ?_
        refine rn_aload_n dX12_isProof_156 rfl ?_
        refine rn_callV dX12_isProof_157 lmX12_240 ⟨Nat.le_of_ble_eq_true rfl, Nat.le_of_ble_eq_true rfl⟩ (cm_all g f hM hs hP hV) hM rfl rfl (Nat.le_of_ble_eq_true rfl) ?_
        rintro _ _ ⟨rfl, rfl⟩
        refine rn_iload_n dX12_isProof_160 rfl ?_
        refine rn_iload_n dX12_isProof_161 rfl ?_
        refine rn_iload_n dX12_isProof_162 rfl ?_
        refine rn_callV dX12_isProof_163 lmX12_289 ⟨Nat.le_of_ble_eq_true rfl, Nat.le_of_ble_eq_true rfl⟩ (cm_weight g f hM hs hP hV hopk ha5 hb5 hm hm2) hM rfl rfl (Nat.le_of_ble_eq_true rfl) ?_
        rintro _ _ ⟨rfl, rfl⟩
        refine rn_ishr dX12_isProof_166 ?_
        rw [nb_shr (by omega) (by omega)]
        refine rn_iconst (v := nI 1) dX12_isProof_167 (by decide) ?_
        refine rn_iand dX12_isProof_168 ?_
        rw [show (nI 1 : Int32) = nI (2 ^ 1 - 1) from rfl, nb_and (by have := Nat.div_le_self (smp P l cp a b m (pN P)) (2 ^ wgt (pW P) a b m (opk (pC P) (pW P * pH P))); omega) (by decide), Nat.and_two_pow_sub_one_eq_mod, show (2 ^ 1 : Nat) = 2 from rfl]
        refine rn_if_ne (tgt := 176) dX12_isProof_169 (by decide) (fun c169 => ?_) (fun c169 => ?_)
        · refine rn_iconst (v := nI 0) dX12_isProof_176 (by decide) ?_
          refine rn_zret dX12_isProof_177 rfl rfl ?_
          exact ⟨rfl, by rw [prf, n_bit1 c169]; rfl⟩
        · refine rn_iconst (v := nI 1) dX12_isProof_172 (by decide) ?_
          refine rn_goto (tgt := 177) dX12_isProof_173 (by decide) ?_
          refine rn_zret dX12_isProof_177 rfl rfl ?_
          exact ⟨rfl, by rw [prf, n_bit0 c169]; rfl⟩
      · have hp2 := ge_in c14 (by omega)
        refine rn_aload_n dX12_isProof_17 rfl ?_
        refine rn_iload dX12_isProof_18 rfl ?_
        refine rn_iload_n dX12_isProof_20 rfl ?_
        refine rn_iload_n dX12_isProof_21 rfl ?_
        refine rn_iload_n dX12_isProof_22 rfl ?_
        refine rn_callV dX12_isProof_23 lmX12_293 ⟨Nat.le_of_ble_eq_true rfl, Nat.le_of_ble_eq_true rfl⟩ (cm_weights g f hM hs hP hV hL hw hl hE hmk (p := p) (by omega) ha5 hb5 hm hm2) hM rfl rfl (Nat.le_of_ble_eq_true rfl) ?_
        rintro _ _ ⟨rfl, rfl⟩
        refine rn_istore dX12_isProof_26 (Nat.le_of_ble_eq_true rfl) rfl ?_
        refine rn_iconst (v := nI 0) dX12_isProof_28 (by decide) ?_
        refine rn_istore dX12_isProof_29 (Nat.le_of_ble_eq_true rfl) rfl ?_
        exact loop2 _ 0 _ none none none hp2 rfl (by omega) hsl rfl
  refine rn_iconst (v := nI 1) dX12_isProof_0 (by decide) ?_
  refine rn_istore dX12_isProof_1 (Nat.le_of_ble_eq_true rfl) rfl ?_
  refine rn_iconst (v := nI 0) dX12_isProof_3 (by decide) ?_
  refine rn_istore dX12_isProof_4 (Nat.le_of_ble_eq_true rfl) rfl ?_
  exact loop1 _ 0 none none none none none rfl (by omega)
