theorem ci_covers (g : GG) (f : Mm) {P : PS} {H : List PS} {T : List Nat} (hI : MI f P H T) (hV : VPc P) : Ct g MX12_covers [.ref 75] f 0 0 (fun r f' => (∀ j, j < 75 → f' j = f j) ∧ MI f' P H T ∧ ∃ n, FnS (qP P) n ∧ r = some (.int (if (sqS (qP P) n).1 = 2 then -4 else nI n))) := by
  obtain ⟨wi, cv, s, pr, hB, hp, h2, hl, hPS, hT, h4⟩ := hI
  refine Ct.mono (fun r f' h => ?_) (cm_covers g f hB hV)
  have h1 := MI_ro hB hp h2 hl hPS hT h4 h.1
  exact ⟨h1.1, h1.2, h.2⟩
theorem ci_tries (g : GG) (f : Mm) {P : PS} {H : List PS} {T : List Nat} (hI : MI f P H T) (hV : VPc P) : Ct g MX12_tries [.ref 75] f 0 0 (fun r f' => (∀ j, j < 75 → f' j = f j) ∧ MI f' P H T ∧ ∃ n, FnS (qP P) n ∧ r = some (.int (if (sqS (qP P) n).1 = 2 then -4 else nI (sqS (qP P) n).2.2.2))) := by
  obtain ⟨wi, cv, s, pr, hB, hp, h2, hl, hPS, hT, h4⟩ := hI
  refine Ct.mono (fun r f' h => ?_) (cm_tries g f hB hV)
  have h1 := MI_ro hB hp h2 hl hPS hT h4 h.1
  exact ⟨h1.1, h1.2, h.2⟩
theorem ci_fewest (g : GG) (f : Mm) {P : PS} {H : List PS} {T : List Nat} (hI : MI f P H T) (hV : VPc P) : Ct g MX12_fewest [.ref 75] f 0 0 (fun r f' => (∀ j, j < 75 → f' j = f j) ∧ MI f' P H T ∧ ∃ n, FnS (qP P) n ∧ r = some (.int (if (sqS (qP P) n).1 = 2 then -4 else if n = 0 then -9 else nI (mnS (qP P) n)))) := by
  obtain ⟨wi, cv, s, pr, hB, hp, h2, hl, hPS, hT, h4⟩ := hI
  refine Ct.mono (fun r f' h => ?_) (cm_fewest g f hB hV)
  have h1 := MI_ro hB hp h2 hl hPS hT h4 h.1
  exact ⟨h1.1, h1.2, h.2⟩
theorem ci_classes (g : GG) (f : Mm) {P : PS} {H : List PS} {T : List Nat} (hI : MI f P H T) (hV : VPc P) : Ct g MX12_classes [.ref 75] f 0 0 (fun r f' => (∀ j, j < 75 → f' j = f j) ∧ MI f' P H T ∧ ∃ n, FnS (qP P) n ∧ r = some (.int (if (sqS (qP P) n).1 = 2 then -4 else if 100 < n then -3 else nI (clsN (qP P) n)))) := by
  obtain ⟨wi, cv, s, pr, hB, hp, h2, hl, hPS, hT, h4⟩ := hI
  refine Ct.mono (fun r f' h => ?_) (cm_classes g f hB hV)
  have h1 := MI_ro hB hp h2 hl hPS hT h4 h.1
  exact ⟨h1.1, h1.2, h.2⟩
theorem ci_coverAt (g : GG) (f : Mm) {P : PS} {H : List PS} {T : List Nat} (x : Int32) (y : Int32) (hI : MI f P H T) (hV : VPc P) : Ct g MX12_coverAt [.ref 75, .int x, .int y] f 0 0 (fun r f' => (∀ j, j < 75 → f' j = f j) ∧ MI f' P H T ∧ ∃ n, FnS (qP P) n ∧ r = some (.int (aAt (qP P) n x y))) := by
  obtain ⟨wi, cv, s, pr, hB, hp, h2, hl, hPS, hT, h4⟩ := hI
  refine Ct.mono (fun r f' h => ?_) (cm_coverAt g f x y hB hV)
  have h1 := MI_ro hB hp h2 hl hPS hT h4 h.1
  exact ⟨h1.1, h1.2, h.2⟩
theorem ci_used (g : GG) (f : Mm) {P : PS} {H : List PS} {T : List Nat} (x : Int32) (y : Int32) (hI : MI f P H T) (hV : VPc P) : Ct g MX12_used [.ref 75, .int x, .int y] f 0 0 (fun r f' => (∀ j, j < 75 → f' j = f j) ∧ MI f' P H T ∧ ∃ n, FnS (qP P) n ∧ r = some (.int (aUs (qP P) n x y))) := by
  obtain ⟨wi, cv, s, pr, hB, hp, h2, hl, hPS, hT, h4⟩ := hI
  refine Ct.mono (fun r f' h => ?_) (cm_used g f x y hB hV)
  have h1 := MI_ro hB hp h2 hl hPS hT h4 h.1
  exact ⟨h1.1, h1.2, h.2⟩
theorem ci_alike (g : GG) (f : Mm) {P : PS} {H : List PS} {T : List Nat} (x : Int32) (y : Int32) (hI : MI f P H T) (hV : VPc P) : Ct g MX12_alike [.ref 75, .int x, .int y] f 0 0 (fun r f' => (∀ j, j < 75 → f' j = f j) ∧ MI f' P H T ∧ ∃ n, FnS (qP P) n ∧ r = some (.int (aAl (qP P) n x y))) := by
  obtain ⟨wi, cv, s, pr, hB, hp, h2, hl, hPS, hT, h4⟩ := hI
  refine Ct.mono (fun r f' h => ?_) (cm_alike g f x y hB hV)
  have h1 := MI_ro hB hp h2 hl hPS hT h4 h.1
  exact ⟨h1.1, h1.2, h.2⟩
theorem MR_us {f f1 : Mm} {wi s : Nat → Int32} {cv : Int64} {P : PS} {l : List PE} {a b : Int32} (hB : MB f wi cv s P) (k1 : ∀ k, k ≠ 75 → k ≠ 92 → (k < 79 ∨ 84 < k) → f1 k = f k) (hL : PLm f1 l) (hF : ∃ F, AR f1 79 9 F) (hZ : ∃ st, AZ f1 92 2304 st) (o : f1 75 = some (MO (mW wi a b) cv)) : MR f wi f1 := by
  obtain ⟨-, -, -, -, -, h3, ⟨L, h4⟩, -, ⟨B, h6⟩, G, h7⟩ := hB
  exact ⟨fun j hj => k1 j (by omega) (by omega) (by omega), ⟨hF, ⟨l, hL⟩, h3.keep (fun k a b => k1 k (by omega) (by omega) (by omega)), ⟨L, h4.keep (k1 91 (by omega) (by omega) (by omega))⟩, hZ, ⟨B, h6.keep (k1 85 (by omega) (by omega) (by omega))⟩, G, h7.keep (k1 86 (by omega) (by omega) (by omega))⟩, _, cv, o, mW_ne (by decide) (by decide), mW_ne (by decide) (by decide)⟩
def aX_useful (P : PS) (x : Int32) : Int32 := if inR x (pN P) then nI (usP P (lP P) x.toNatClampNeg) else -1
theorem ci_useful (g : GG) (f : Mm) {P : PS} {H : List PS} {T : List Nat} (x : Int32) (hI : MI f P H T) (hV : VPc P) : Ct g MX12_useful [.ref 75, .int x] f 0 0 (fun r f' => (∀ j, j < 75 → f' j = f j) ∧ MI f' P H T ∧ r = some (.int (aX_useful P x))) := by
  obtain ⟨wi, cv, s, pr, hB, hp, h2, hl, hPS, hT, h4⟩ := hI
  obtain ⟨hM, hs, hP, hm⟩ := id hB
  obtain ⟨⟨F, hF⟩, ⟨l0, hL⟩, -, -, ⟨st, hZ⟩, -⟩ := id hm
  refine Ct.mono (fun r f' h => ?_) (cm_useful g f x hM hs hF hL hZ hP hV.1 hV.2.1)
  obtain ⟨k1, ⟨l', hL'⟩, hF', ⟨a, b, o⟩, hZ', hr⟩ := h
  have h1 := MI_ro hB hp h2 hl hPS hT h4 (MR_us hB k1 hL' hF' hZ' o)
  exact ⟨h1.1, h1.2, hr⟩
def aX_usefulAt (P : PS) (x : Int32) : Int32 := if inR x (pW P * pH P) then (if pC P x.toNatClampNeg = -1 then (-9) else nI (usC P (lP P) x.toNatClampNeg)) else -1
theorem ci_usefulAt (g : GG) (f : Mm) {P : PS} {H : List PS} {T : List Nat} (x : Int32) (hI : MI f P H T) (hV : VPc P) : Ct g MX12_usefulAt [.ref 75, .int x] f 0 0 (fun r f' => (∀ j, j < 75 → f' j = f j) ∧ MI f' P H T ∧ r = some (.int (aX_usefulAt P x))) := by
  obtain ⟨wi, cv, s, pr, hB, hp, h2, hl, hPS, hT, h4⟩ := hI
  obtain ⟨hM, hs, hP, hm⟩ := id hB
  obtain ⟨⟨F, hF⟩, ⟨l0, hL⟩, -, -, ⟨st, hZ⟩, -⟩ := id hm
  refine Ct.mono (fun r f' h => ?_) (cm_usefulAt g f x hM hs hF hL hZ hP hV.1 hV.2.1)
  obtain ⟨k1, ⟨l', hL'⟩, hF', ⟨a, b, o⟩, hZ', hr⟩ := h
  have h1 := MI_ro hB hp h2 hl hPS hT h4 (MR_us hB k1 hL' hF' hZ' o)
  exact ⟨h1.1, h1.2, hr⟩
