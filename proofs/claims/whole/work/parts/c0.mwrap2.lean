theorem ci_piece (g : GG) (f : Mm) {P : PS} {H : List PS} {T : List Nat} (x : Int32) (y : Int32) (hI : MI f P H T) (hV : VPc P) : Ct g MX12_piece [.ref 75, .int x, .int y] f 0 0 (fun r f' => (∀ j, j < 75 → f' j = f j) ∧ MI f' P H T ∧ r = some (.int (aPie P x y))) := by
  obtain ⟨wi, cv, s, pr, hB, hp, h2, hl, hPS, hT, h4⟩ := hI
  refine Ct.mono (fun r f' h => ?_) (cm_piece g f x y hB hV)
  have h1 := MI_ro hB hp h2 hl hPS hT h4 h.1
  exact ⟨h1.1, h1.2, h.2⟩
theorem ci_form (g : GG) (f : Mm) {P : PS} {H : List PS} {T : List Nat} (x : Int32) (y : Int32) (hI : MI f P H T) (hV : VPc P) : Ct g MX12_form [.ref 75, .int x, .int y] f 0 0 (fun r f' => (∀ j, j < 75 → f' j = f j) ∧ MI f' P H T ∧ r = some (.int (aFo P x y))) := by
  obtain ⟨wi, cv, s, pr, hB, hp, h2, hl, hPS, hT, h4⟩ := hI
  refine Ct.mono (fun r f' h => ?_) (cm_form g f x y hB hV)
  have h1 := MI_ro hB hp h2 hl hPS hT h4 h.1
  exact ⟨h1.1, h1.2, h.2⟩
theorem ci_placement (g : GG) (f : Mm) {P : PS} {H : List PS} {T : List Nat} (x : Int32) (y : Int32) (hI : MI f P H T) (hV : VPc P) : Ct g MX12_placement [.ref 75, .int x, .int y] f 0 0 (fun r f' => (∀ j, j < 75 → f' j = f j) ∧ MI f' P H T ∧ r = some (.int (aPl P x y))) := by
  obtain ⟨wi, cv, s, pr, hB, hp, h2, hl, hPS, hT, h4⟩ := hI
  refine Ct.mono (fun r f' h => ?_) (cm_placement g f x y hB hV)
  have h1 := MI_ro hB hp h2 hl hPS hT h4 h.1
  exact ⟨h1.1, h1.2, h.2⟩
theorem ci_proof (g : GG) (f : Mm) {P : PS} {H : List PS} {T : List Nat} (hI : MI f P H T) (hV : VPc P) : Ct g MX12_proof [.ref 75] f 0 0 (fun r f' => (∀ j, j < 75 → f' j = f j) ∧ MI f' P H T ∧ ∃ v, r = some (.int v) ∧ PFr P v) := by
  obtain ⟨wi, cv, s, pr, hB, hp, h2, hl, hPS, hT, h4⟩ := hI
  refine Ct.mono (fun r f' h => ?_) (cm_proof g f hB hV)
  have h1 := MI_ro hB hp h2 hl hPS hT h4 h.1
  exact ⟨h1.1, h1.2, h.2⟩
theorem ci_proves (g : GG) (f : Mm) {P : PS} {H : List PS} {T : List Nat} {a b m : Nat} (hI : MI f P H T) (hV : VPc P) (g2 : 2 ≤ m) (g5 : m ≤ 5) (ha : a < m) (hb : b < m) : Ct g MX12_proves [.ref 75, .int (nI a), .int (nI b), .int (nI m)] f 0 0 (fun r f' => (∀ j, j < 75 → f' j = f j) ∧ MI f' P H T ∧ r = some (.int (bI (pfP P a b m)))) := by
  obtain ⟨wi, cv, s, pr, hB, hp, h2, hl, hPS, hT, h4⟩ := hI
  refine Ct.mono (fun r f' h => ?_) (cm_proves g f hB hV g2 g5 ha hb)
  have h1 := MI_ro hB hp h2 hl hPS hT h4 h.1
  exact ⟨h1.1, h1.2, h.2⟩
