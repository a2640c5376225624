-- placements of a piece have the same number of cells
theorem layk_bits {P : PS} {t co x0 y0 : Nat} : ∀ {i m}, layk P t co x0 y0 i = some m → ∀ c, m.testBit c = true → ∃ k, k < i ∧ x0 + k % 4 < pW P ∧ c = (y0 + k / 4) * pW P + (x0 + k % 4)
  | 0, m, h, c, hc => by
    cases h
    rw [Nat.zero_testBit] at hc
    cases hc
  | i + 1, m, h, c, hc => by
    cases hp : layk P t co x0 y0 i with
    | none => simp only [layk, hp] at h; cases h
    | some m0 =>
      have ih := layk_bits hp
      cases hb : t.testBit i with
      | false =>
        rw [layk_skip hp hb] at h; cases h
        obtain ⟨k, a, b⟩ := ih c hc
        exact ⟨k, by omega, b⟩
      | true =>
        cases ho : lyOk P co (x0 + i % 4) (y0 + i / 4) with
        | false => rw [layk_off hp hb ho] at h; cases h
        | true =>
          rw [layk_on hp hb ho] at h
          cases h
          simp only [lyOk, Bool.and_eq_true, decide_eq_true_eq] at ho
          rw [Nat.testBit_or, Bool.or_eq_true, Nat.testBit_two_pow, decide_eq_true_eq] at hc
          rcases hc with hc | hc
          · obtain ⟨k, a, b⟩ := ih c hc
            exact ⟨k, by omega, b⟩
          · exact ⟨i, by omega, ho.1, hc.symm⟩
theorem layk_pop {P : PS} (hV : VD P) {t co x0 y0 : Nat} : ∀ {i m}, layk P t co x0 y0 i = some m → popk 36 m = cntB (fun j => t.testBit j) i
  | 0, m, h => by
    cases h
    show popk 36 0 = 0
    decide +kernel
  | i + 1, m, h => by
    cases hp : layk P t co x0 y0 i with
    | none => simp only [layk, hp] at h; cases h
    | some m0 =>
      have ih := layk_pop hV hp
      cases hb : t.testBit i with
      | false =>
        rw [layk_skip hp hb] at h; cases h
        rw [cntB_0 hb]; exact ih
      | true =>
        cases ho : lyOk P co (x0 + i % 4) (y0 + i / 4) with
        | false => rw [layk_off hp hb ho] at h; cases h
        | true =>
          rw [layk_on hp hb ho] at h
          cases h
          simp only [lyOk, Bool.and_eq_true, decide_eq_true_eq] at ho
          have hc := cell_lt ho.1 ho.2.1
          have ha := hV.area
          rw [pop_bit 36 _ _ (by omega), ih, cntB_1 hb]
          cases hz : m0.testBit ((y0 + i / 4) * pW P + (x0 + i % 4)) with
          | false => rfl
          | true =>
            obtain ⟨k, k1, k2, k3⟩ := layk_bits hp _ hz
            have d1 := dm (y0 + i / 4) ho.1
            rw [k3] at d1
            have d2 := dm (y0 + k / 4) k2
            rw [d2.1, d2.2] at d1
            omega
theorem FM_sz : ∀ s ∈ shL, ∀ fr, fr < 3 → ∀ x ∈ FM s fr, cntB (fun j => x.testBit j) 16 = cntB (fun j => s.testBit j) 16 := by decide +kernel
def SZq (q : SQ) : Prop := ∀ k k', k < q.2.1.length → k' < q.2.1.length → qp q k = qp q k' → popk 36 (msk q.2.1 k) = popk 36 (msk q.2.1 k')
theorem VP.SZ {P : PS} {sh fr co cp : Nat → Nat} (h : VP P sh fr co cp) : SZq (qOf P sh fr co cp) := by
  have key : ∀ e ∈ pl1 P sh fr co (pN P), popk 36 e.2.2.2 = cntB (fun j => (sh e.1).testBit j) 16 := by
    refine pl1_all h.1 h.2.1 _ (fun p i c hp hi hc hz => ?_)
    have hN := h.2.1 p hp
    have hx : fmA (sh p) (fr p) i ∈ FM (sh p) (fr p) := by
      unfold fmA
      rw [List.getD_eq_getElem?_getD, List.getElem?_eq_getElem hi]
      exact List.getElem_mem _
    have h1 := FM_sz (sh p) hN.2.1 (fr p) hN.2.2.2.1 _ hx
    show popk 36 (ly P (fmA (sh p) (fr p) i) (co p) c) = _
    rw [← h1]
    cases hl : layk P (fmA (sh p) (fr p) i) (co p) (c % pW P) (c / pW P) 16 with
    | none => exact absurd (ly_none (Nat.le_refl _) hl) hz
    | some m => rw [ly_some hl]; exact layk_pop h.1 hl
  intro k k' hk hk' e
  have e1 := key _ (List.mem_of_getElem? (gp_some hk))
  have e2 := key _ (List.mem_of_getElem? (gp_some hk'))
  rw [show msk (qOf P sh fr co cp).2.1 k = (gp (pl1 P sh fr co (pN P)) k).2.2.2 from rfl, e1, show msk (qOf P sh fr co cp).2.1 k' = (gp (pl1 P sh fr co (pN P)) k').2.2.2 from rfl, e2, show (gp (pl1 P sh fr co (pN P)) k).1 = (gp (pl1 P sh fr co (pN P)) k').1 from e]
-- images of masks
def imk (u : Nat → Nat) (m : Nat) : Nat → Nat
  | 0 => 0
  | c + 1 => if m.testBit c = true then imk u m c ||| 2 ^ u c else imk u m c
theorem imk_bit (u : Nat → Nat) (m d : Nat) : ∀ n, (imk u m n).testBit d = true ↔ ∃ c, c < n ∧ m.testBit c = true ∧ u c = d
  | 0 => by simp [imk]
  | n + 1 => by
    have ih := imk_bit u m d n
    rw [imk]
    by_cases hb : m.testBit n = true
    · rw [if_pos hb, Nat.testBit_or, Bool.or_eq_true, ih, Nat.testBit_two_pow, decide_eq_true_eq]
      constructor
      · rintro (⟨c, h1, h2⟩ | h)
        · exact ⟨c, by omega, h2⟩
        · exact ⟨n, by omega, hb, h⟩
      · rintro ⟨c, h1, h2, h3⟩
        by_cases e : c = n
        · rw [e] at h3; exact Or.inr h3
        · exact Or.inl ⟨c, by omega, h2, h3⟩
    · rw [if_neg hb, ih]
      constructor
      · rintro ⟨c, h1, h2⟩; exact ⟨c, by omega, h2⟩
      · rintro ⟨c, h1, h2, h3⟩
        by_cases e : c = n
        · rw [e] at h2; exact absurd h2 hb
        · exact ⟨c, by omega, h2, h3⟩
theorem imk_pop {u : Nat → Nat} {m : Nat} (h1 : ∀ c, m.testBit c = true → u c < 36) (h2 : ∀ c d, m.testBit c = true → m.testBit d = true → u c = u d → c = d) : ∀ n, popk 36 (imk u m n) = cntB (fun j => m.testBit j) n
  | 0 => by
    show popk 36 0 = 0
    decide +kernel
  | n + 1 => by
    have ih := imk_pop h1 h2 n
    rw [imk]
    by_cases hb : m.testBit n = true
    · rw [if_pos hb, cntB_1 hb, pop_bit 36 _ _ (h1 n hb), ih]
      cases hz : (imk u m n).testBit (u n) with
      | false => rfl
      | true =>
        obtain ⟨c, c1, c2, c3⟩ := (imk_bit u m (u n) n).mp hz
        have := h2 c n c2 hb c3
        omega
    · rw [if_neg hb, cntB_0 (by cases h : m.testBit n <;> simp_all), ih]
theorem imk_lt {u : Nat → Nat} {m : Nat} (h1 : ∀ c, m.testBit c = true → u c < 36) : ∀ n, imk u m n < 2 ^ 36
  | 0 => by rw [imk]; decide
  | n + 1 => by
    rw [imk]
    split
    · rename_i hb
      exact Nat.or_lt_two_pow (imk_lt h1 n) (Nat.pow_lt_pow_right (by decide) (h1 n hb))
    · exact imk_lt h1 n
theorem pop_cnt (m : Nat) : ∀ n, popk n m = cntB (fun j => m.testBit j) n := fun n => by
  rw [pop_sumf]
  induction n with
  | zero => rfl
  | succ n ih =>
    rw [sumf, ih]
    cases hb : m.testBit n with
    | true =>
      rw [cntB_1 (s := fun j => m.testBit j) hb]
      rw [tb_eq, decide_eq_true_eq] at hb
      omega
    | false =>
      rw [cntB_0 (s := fun j => m.testBit j) hb]
      rw [tb_eq, decide_eq_false_iff_not] at hb
      omega
def mnI (u : Nat → Nat) (m : Nat) : Nat → Nat
  | 0 => 36
  | c + 1 => if m.testBit c = true ∧ u c < mnI u m c then u c else mnI u m c
theorem mnI_36 (u : Nat → Nat) (m : Nat) : ∀ n, mnI u m n ≤ 36
  | 0 => Nat.le_refl _
  | n + 1 => by
    have ih := mnI_36 u m n
    rw [mnI]
    split <;> omega
theorem mnI_le {u : Nat → Nat} {m c : Nat} : ∀ {n}, c < n → m.testBit c = true → mnI u m n ≤ u c
  | 0, h, _ => by omega
  | n + 1, h, hb => by
    rw [mnI]
    by_cases e : c = n
    · rw [e] at hb ⊢
      split
      · exact Nat.le_refl _
      · rename_i hn
        exact Nat.le_of_not_lt fun q => hn ⟨hb, q⟩
    · have ih := mnI_le (u := u) (n := n) (c := c) (by omega) hb
      split <;> omega
theorem mnI_at {u : Nat → Nat} {m : Nat} : ∀ n, mnI u m n < 36 → ∃ c, c < n ∧ m.testBit c = true ∧ u c = mnI u m n
  | 0, h => by rw [mnI] at h; omega
  | n + 1, h => by
    rw [mnI] at h ⊢
    split
    · rename_i hn
      exact ⟨n, by omega, hn.1, rfl⟩
    · rename_i hn
      rw [if_neg hn] at h
      obtain ⟨c, h1, h2⟩ := mnI_at n h
      exact ⟨c, by omega, h2⟩
-- covers that are alike
def CVq (q : SQ) (A : List Nat) : Prop := IVs q A ∧ cvS q.2.1 A = opP q.1
abbrev ar (q : SQ) : Nat := pW q.1 * pH q.1
def mapE (q : SQ) (s : Nat) (A B : List Nat) : Prop := ∀ c k, plO q.2.1 A c = some k → ∃ k', plO q.2.1 B (img q.1 s c) = some k' ∧ qp q k' = qp q k ∧ ∀ e, e < ar q → ((msk q.2.1 k).testBit e = true ↔ (msk q.2.1 k').testBit (img q.1 s e) = true)
def mapC (q : SQ) (s : Nat) (A B : List Nat) : Prop := ∀ c k, plO q.2.1 A c = some k → ∃ k', plO q.2.1 B (img q.1 s c) = some k' ∧ plO q.2.1 B (img q.1 s (low (msk q.2.1 k))) = some k' ∧ qp q k' = qp q k
def labS (q : SQ) (u : Nat → Nat) (k : Nat) : Nat := 64 * qp q k + mnI u (msk q.2.1 k) (ar q)
def mapM (q : SQ) (s : Nat) (A B : List Nat) : Prop := ∀ c k, plO q.2.1 A c = some k → ∃ k', plO q.2.1 B (img q.1 s c) = some k' ∧ labS q (img q.1 s) k = labS q (fun c => c) k'
theorem mk_ar {q : SQ} (hQ : QV q) {k c : Nat} (hk : k < q.2.1.length) (hb : (msk q.2.1 k).testBit c = true) : c < ar q ∧ ¬ pC q.1 c = -1 := by
  have := or_sub (hQ.2.1.2.2.2 k hk) hb
  rw [opP, opk_bit, Bool.and_eq_true, decide_eq_true_eq, decide_eq_true_eq] at this
  exact this
theorem CVq.get {q : SQ} {A : List Nat} (hA : CVq q A) {c k : Nat} (h : plO q.2.1 A c = some k) : k ∈ A ∧ k < q.2.1.length ∧ (msk q.2.1 k).testBit c = true := ⟨(plO_mem h).1, IVs_get hA.1 k (plO_mem h).1, (plO_mem h).2⟩
theorem CVq.opc {q : SQ} {A : List Nat} (hA : CVq q A) {c : Nat} (hc : c < ar q) (ho : ¬ pC q.1 c = -1) : ∃ k, plO q.2.1 A c = some k := plO_some hA.1 (by rw [hA.2, opP, opk_bit, decide_eq_true hc, decide_eq_true ho]; rfl)
theorem mapE_C {q : SQ} {s : Nat} {A B : List Nat} (hQ : QV q) (hA : CVq q A) (hB : CVq q B) (h : mapE q s A B) : mapC q s A B := fun c k hk => by
  obtain ⟨k', h1, h2, h3⟩ := h c k hk
  obtain ⟨a1, a2, a3⟩ := hA.get hk
  obtain ⟨b1, b2, b3⟩ := hB.get h1
  have hm := hQ.mk a2
  have hlo := (low_tb hm.1 (show msk q.2.1 k < 2 ^ 64 by omega)).1
  have := (h3 _ (mk_ar hQ a2 hlo).1).mp hlo
  exact ⟨k', h1, plO_of hB.1 b1 this, h2⟩
theorem mapC_E {q : SQ} {s : Nat} {A B : List Nat} (hQ : QV q) (hZ : SZq q) (hs : s < 8) (hy : isSy q.1 s = true) (hA : CVq q A) (hB : CVq q B) (h : mapC q s A B) : mapE q s A B := fun c k hk => by
  obtain ⟨hok, -⟩ := isSy_ok hy
  obtain ⟨k', h1, h2, h3⟩ := h c k hk
  obtain ⟨a1, a2, a3⟩ := hA.get hk
  obtain ⟨b1, b2, b3⟩ := hB.get h1
  have ha := hQ.1.area
  have fw : ∀ e, (msk q.2.1 k).testBit e = true → (msk q.2.1 k').testBit (img q.1 s e) = true := fun e he => by
    obtain ⟨k2, g1, g2, g3⟩ := h e k (plO_of hA.1 a1 he)
    rw [h2] at g2
    cases g2
    exact (plO_mem g1).2
  refine ⟨k', h1, h3, fun e he => ⟨fw e, fun hb => ?_⟩⟩
  have hi1 : ∀ c, (msk q.2.1 k).testBit c = true → img q.1 s c < 36 := fun c hc => by
    have := img_lt hQ.1 hs hok (mk_ar hQ a2 hc).1
    omega
  have hi2 : ∀ c d, (msk q.2.1 k).testBit c = true → (msk q.2.1 k).testBit d = true → img q.1 s c = img q.1 s d → c = d := fun c d hc hd e => img_inj hQ.1 hs hok (mk_ar hQ a2 hc).1 (mk_ar hQ a2 hd).1 e
  have e1 := imk_pop hi1 hi2 36
  rw [← pop_cnt] at e1
  have e2 := (pop_sub 36 (imk (img q.1 s) (msk q.2.1 k) 36) (msk q.2.1 k') (fun j hj => by
    obtain ⟨c, c1, c2, c3⟩ := (imk_bit _ _ _ _).mp hj
    rw [← c3]; exact fw c c2)).2 (imk_lt hi1 36) (hQ.mk b2).2 (by rw [e1, hZ k' k b2 a2 h3]; exact Nat.le_refl _)
  rw [← e2] at hb
  obtain ⟨c, c1, c2, c3⟩ := (imk_bit _ _ _ _).mp hb
  rw [← img_inj hQ.1 hs hok (mk_ar hQ a2 c2).1 he c3]
  exact c2
/-- the least place of a placement -/
theorem mn_at {q : SQ} (hQ : QV q) {u : Nat → Nat} {k : Nat} (hk : k < q.2.1.length) (hu : ∀ c, c < ar q → u c < 36) : mnI u (msk q.2.1 k) (ar q) < 36 ∧ ∃ c, c < ar q ∧ (msk q.2.1 k).testBit c = true ∧ u c = mnI u (msk q.2.1 k) (ar q) := by
  have hm := hQ.mk hk
  have hlo := (low_tb hm.1 (show msk q.2.1 k < 2 ^ 64 by omega)).1
  have hc := (mk_ar hQ hk hlo).1
  have h1 := mnI_le (u := u) hc hlo
  have h2 := hu _ hc
  exact ⟨by omega, mnI_at _ (by omega)⟩
theorem mapE_M {q : SQ} {s : Nat} {A B : List Nat} (hQ : QV q) (hs : s < 8) (hy : isSy q.1 s = true) (hA : CVq q A) (hB : CVq q B) (h : mapE q s A B) : mapM q s A B := fun c k hk => by
  obtain ⟨hok, -⟩ := isSy_ok hy
  obtain ⟨k', h1, h2, h3⟩ := h c k hk
  obtain ⟨a1, a2, a3⟩ := hA.get hk
  obtain ⟨b1, b2, b3⟩ := hB.get h1
  have ha := hQ.1.area
  have hu1 : ∀ c, c < ar q → img q.1 s c < 36 := fun c hc => by
    have := img_lt hQ.1 hs hok hc
    omega
  have hu2 : ∀ c, c < ar q → (fun c : Nat => c) c < 36 := fun c hc => Nat.lt_of_lt_of_le hc ha
  obtain ⟨-, e, e1, e2, e3⟩ := mn_at hQ a2 hu1
  obtain ⟨-, d, d1, d2, d3⟩ := mn_at hQ b2 hu2
  refine ⟨k', h1, ?_⟩
  have l1 := mnI_le (u := fun c => c) (img_lt hQ.1 hs hok e1) ((h3 e e1).mp e2)
  obtain ⟨d0, f1, f2⟩ := img_onto hQ.1 hs hok d1
  rw [← f2] at d2
  have l2 : mnI (img q.1 s) (msk q.2.1 k) (ar q) ≤ img q.1 s d0 := mnI_le (u := img q.1 s) f1 ((h3 d0 f1).mpr d2)
  have d4 : d = mnI (fun c => c) (msk q.2.1 k') (ar q) := d3
  have l3 : mnI (fun c => c) (msk q.2.1 k') (ar q) ≤ img q.1 s e := l1
  have l4 : mnI (img q.1 s) (msk q.2.1 k) (ar q) = mnI (fun c => c) (msk q.2.1 k') (ar q) := by omega
  unfold labS
  rw [l4, show qp q k' = qp q k from h2]
theorem mapM_E {q : SQ} {s : Nat} {A B : List Nat} (hQ : QV q) (hs : s < 8) (hy : isSy q.1 s = true) (hA : CVq q A) (hB : CVq q B) (h : mapM q s A B) : mapE q s A B := fun c k hk => by
  obtain ⟨hok, hop⟩ := isSy_ok hy
  have ha := hQ.1.area
  have hu1 : ∀ c, c < ar q → img q.1 s c < 36 := fun c hc => by
    have := img_lt hQ.1 hs hok hc
    omega
  have hu2 : ∀ c, c < ar q → (fun c : Nat => c) c < 36 := fun c hc => Nat.lt_of_lt_of_le hc ha
  -- equal labels: equal pieces, equal least places
  have lab : ∀ {a b : Nat}, a < q.2.1.length → b < q.2.1.length → labS q (img q.1 s) a = labS q (fun c => c) b → qp q b = qp q a ∧ mnI (img q.1 s) (msk q.2.1 a) (ar q) = mnI (fun c => c) (msk q.2.1 b) (ar q) := fun {a b} h1 h2 h3 => by
    have l1 := (mn_at hQ h1 hu1).1
    have l2 := (mn_at hQ h2 hu2).1
    unfold labS at h3
    omega
  obtain ⟨k', h1, h2⟩ := h c k hk
  obtain ⟨a1, a2, a3⟩ := hA.get hk
  obtain ⟨b1, b2, b3⟩ := hB.get h1
  obtain ⟨p1, p2⟩ := lab a2 b2 h2
  -- the placement of B with this least place
  have uq : ∀ k2, k2 ∈ B → k2 < q.2.1.length → mnI (fun c => c) (msk q.2.1 k2) (ar q) = mnI (fun c => c) (msk q.2.1 k') (ar q) → k2 = k' := fun k2 m1 m2 m3 => by
    obtain ⟨-, d, d1, d2, d3⟩ := mn_at hQ m2 hu2
    obtain ⟨-, e, e1, e2, e3⟩ := mn_at hQ b2 hu2
    have : d = e := by omega
    rw [this] at d2
    have x1 := plO_of hB.1 m1 d2
    rw [plO_of hB.1 b1 e2] at x1
    cases x1
    rfl
  refine ⟨k', h1, p1, fun e he => ⟨fun hb => ?_, fun hb => ?_⟩⟩
  · obtain ⟨k2, g1, g2⟩ := h e k (plO_of hA.1 a1 hb)
    obtain ⟨x1, x2, x3⟩ := hB.get g1
    obtain ⟨y1, y2⟩ := lab a2 x2 g2
    rw [uq k2 x1 x2 (by omega)] at x3
    exact x3
  · have hne : ¬ pC q.1 e = -1 := by
      have := (mk_ar hQ b2 hb).2
      rw [hop e he] at this
      exact this
    obtain ⟨k1, hk1⟩ := hA.opc he hne
    obtain ⟨c1, c2, c3⟩ := hA.get hk1
    obtain ⟨k2, g1, g2⟩ := h e k1 hk1
    rw [plO_of hB.1 b1 hb] at g1
    cases g1
    obtain ⟨y1, y2⟩ := lab c2 b2 g2
    obtain ⟨-, d, d1, d2, d3⟩ := mn_at hQ c2 hu1
    obtain ⟨-, f, f1, f2, f3⟩ := mn_at hQ a2 hu1
    have hdf := img_inj hQ.1 hs hok d1 f1 (by omega)
    rw [hdf] at d2
    have x1 := plO_of hA.1 c1 d2
    rw [plO_of hA.1 a1 f2] at x1
    cases x1
    exact c3
theorem mapE_inv {q : SQ} {s : Nat} {A B : List Nat} (hQ : QV q) (hs : s < 8) (hy : isSy q.1 s = true) (hA : CVq q A) (hB : CVq q B) (h : mapE q s A B) : mapE q (invS s) B A := fun d k' hk' => by
  obtain ⟨hok, hop⟩ := isSy_ok hy
  have hok2 := symOk_inv hok
  have hinv : ∀ e, e < ar q → img q.1 s (img q.1 (invS s) e) = e := fun e he => by
    have := img_inv hQ.1 (invS_lt hs) hok2 he
    rw [invS_inv] at this
    exact this
  obtain ⟨b1, b2, b3⟩ := hB.get hk'
  obtain ⟨hd1, hd2⟩ := mk_ar hQ b2 b3
  have hc := img_lt hQ.1 (invS_lt hs) hok2 hd1
  obtain ⟨k, hk⟩ := hA.opc hc (by rw [← hop _ hc, hinv d hd1]; exact hd2)
  obtain ⟨k2, g1, g2, g3⟩ := h _ k hk
  rw [hinv d hd1, hk'] at g1
  cases g1
  refine ⟨k, hk, g2.symm, fun e he => ?_⟩
  have := g3 _ (img_lt hQ.1 (invS_lt hs) hok2 he)
  rw [hinv e he] at this
  exact this.symm
def alk (q : SQ) (A B : List Nat) : Prop := ∃ s, s < 8 ∧ isSy q.1 s = true ∧ mapE q s A B
theorem alk_symm {q : SQ} {A B : List Nat} (hQ : QV q) (hA : CVq q A) (hB : CVq q B) (h : alk q A B) : alk q B A := by
  obtain ⟨s, h1, h2, h3⟩ := h
  exact ⟨invS s, invS_lt h1, isSy_inv hQ.1 h1 h2, mapE_inv hQ h1 h2 hA hB h3⟩
