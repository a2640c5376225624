-- BOTH SIDES: the object and the Model hold one problem, one past, one text
def JI (f : Mm) : Prop := ∃ P H T, CI f P H T ∧ MI f P H T ∧ VPc P ∧ ∀ S ∈ H, VPc S
def Jt (g : GG) (f : Mm) (Mc Md : MD) (as : List Value) : Prop := Ct g Mc (.ref 0 :: as) f 0 0 (fun r f1 => ∃ v, r = some (.int v) ∧ (∃ fs, f1 75 = some (.inr (11, fs))) ∧ Ct g Md (.ref 75 :: as) f1 0 0 (fun r' f2 => r' = some (.int v) ∧ JI f2))
theorem JI.o {f : Mm} (h : JI f) : ∃ fs, f 0 = some (.inr (10, fs)) := by
  obtain ⟨P, H, T, h1, -⟩ := h
  obtain ⟨b1, b2, b3, h⟩ := h1.X
  exact ⟨_, h⟩
theorem MI.o {f : Mm} {P : PS} {H : List PS} {T : List Nat} (h : MI f P H T) : ∃ fs, f 75 = some (.inr (11, fs)) := by
  obtain ⟨wi, cv, s, pr, hB, -⟩ := h
  exact ⟨_, hB.1⟩
theorem psh_ok {H : List PS} {P : PS} (hH : ∀ S ∈ H, VPc S) (hP : VPc P) : ∀ S ∈ psh H P, VPc S := by
  intro S hS
  unfold psh at hS
  rcases List.mem_append.mp hS with h | h
  · split at h
    · exact hH S h
    · exact hH S (List.mem_of_mem_drop h)
  · rw [List.mem_singleton.mp h]; exact hP
section Joint
variable {g : GG} {f : Mm} {P : PS} {H : List PS} {T : List Nat} {Mc Md : MD} {as : List Value}
theorem jt_mk {P' : PS} {H' : List PS} {T' : List Nat} {v : Int32} (hI : MI f P H T) (hV : VPc P') (hH : ∀ S ∈ H', VPc S) (hc : Ct g Mc (.ref 0 :: as) f 0 0 (fun r f' => (∀ j, 74 < j → f' j = f j) ∧ CI f' P' H' T' ∧ r = some (.int v)))
    (hm : ∀ f1, MI f1 P H T → Ct g Md (.ref 75 :: as) f1 0 0 (fun r f' => (∀ j, j < 75 → f' j = f1 j) ∧ MI f' P' H' T' ∧ r = some (.int v))) : Jt g f Mc Md as := by
  refine Ct.mono (fun r f1 h => ?_) hc
  obtain ⟨k1, h2, h3⟩ := h
  have hM : MI f1 P H T := hI.keep (fun j a _ => k1 j (by omega))
  exact ⟨v, h3, hM.o, Ct.mono (fun r' f2 h => ⟨h.2.2, P', H', T', h2.keep h.1, h.2.1, hV, hH⟩) (hm f1 hM)⟩
theorem jt_no {v : Int32} (hC : CI f P H T) (hI : MI f P H T) (hV : VPc P) (hH : ∀ S ∈ H, VPc S) (hc : Ct g Mc (.ref 0 :: as) f 0 0 (fun r f' => f = f' ∧ r = some (.int v)))
    (hm : Ct g Md (.ref 75 :: as) f 0 0 (fun r f' => f = f' ∧ r = some (.int v))) : Jt g f Mc Md as := by
  refine Ct.mono (fun r f1 h => ?_) hc
  obtain ⟨rfl, h3⟩ := h
  refine ⟨v, h3, hI.o, Ct.mono (fun r' f2 h => ?_) hm⟩
  obtain ⟨rfl, h5⟩ := h
  exact ⟨h5, P, H, T, hC, hI, hV, hH⟩
theorem jt_ex {F : Nat → Int32} (hI : MI f P H T) (hV : VPc P) (hH : ∀ S ∈ H, VPc S) (hc : Ct g Mc (.ref 0 :: as) f 0 0 (fun r f' => (∀ j, 74 < j → f' j = f j) ∧ CI f' P H T ∧ ∃ n, FnS (qP P) n ∧ r = some (.int (F n))))
    (hm : ∀ f1, MI f1 P H T → Ct g Md (.ref 75 :: as) f1 0 0 (fun r f' => (∀ j, j < 75 → f' j = f1 j) ∧ MI f' P H T ∧ ∃ n, FnS (qP P) n ∧ r = some (.int (F n)))) : Jt g f Mc Md as := by
  refine Ct.mono (fun r f1 h => ?_) hc
  obtain ⟨k1, h2, n, h3, h4⟩ := h
  have hM : MI f1 P H T := hI.keep (fun j a _ => k1 j (by omega))
  refine ⟨F n, h4, hM.o, Ct.mono (fun r' f2 h => ?_) (hm f1 hM)⟩
  obtain ⟨k2, m2, n', h5, h6⟩ := h
  rw [h5.uniq h3] at h6
  exact ⟨h6, P, H, T, h2.keep k2, m2, hV, hH⟩
end Joint
section Calls
variable {g : GG} {f : Mm}
theorem j_covers (h : JI f) : Jt g f MX11_covers MX12_covers [] := by
  obtain ⟨P, H, T, hC, hI, hV, hH⟩ := h
  exact jt_ex (F := fun n => if (sqS (qP P) n).1 = 2 then -4 else nI n) hI hV hH (cc_covers g f hC hV) (fun f1 h1 => ci_covers g f1 h1 hV)
theorem j_tries (h : JI f) : Jt g f MX11_tries MX12_tries [] := by
  obtain ⟨P, H, T, hC, hI, hV, hH⟩ := h
  exact jt_ex (F := fun n => if (sqS (qP P) n).1 = 2 then -4 else nI (sqS (qP P) n).2.2.2) hI hV hH (cc_tries g f hC hV) (fun f1 h1 => ci_tries g f1 h1 hV)
theorem j_fewest (h : JI f) : Jt g f MX11_fewest MX12_fewest [] := by
  obtain ⟨P, H, T, hC, hI, hV, hH⟩ := h
  exact jt_ex (F := fun n => if (sqS (qP P) n).1 = 2 then -4 else if n = 0 then -9 else nI (mnS (qP P) n)) hI hV hH (cc_fewest g f hC hV) (fun f1 h1 => ci_fewest g f1 h1 hV)
theorem j_classes (h : JI f) : Jt g f MX11_classes MX12_classes [] := by
  obtain ⟨P, H, T, hC, hI, hV, hH⟩ := h
  exact jt_ex (F := fun n => if (sqS (qP P) n).1 = 2 then -4 else if 100 < n then -3 else nI (clsN (qP P) n)) hI hV hH (cc_classes g f hC hV) (fun f1 h1 => ci_classes g f1 h1 hV)
theorem j_coverAt (h : JI f) (x y : Int32) : Jt g f MX11_coverAt MX12_coverAt [.int x, .int y] := by
  obtain ⟨P, H, T, hC, hI, hV, hH⟩ := h
  exact jt_ex (F := fun n => aAt (qP P) n x y) hI hV hH (cc_coverAt g f x y hC hV) (fun f1 h1 => ci_coverAt g f1 x y h1 hV)
theorem j_used (h : JI f) (x y : Int32) : Jt g f MX11_used MX12_used [.int x, .int y] := by
  obtain ⟨P, H, T, hC, hI, hV, hH⟩ := h
  exact jt_ex (F := fun n => aUs (qP P) n x y) hI hV hH (cc_used g f x y hC hV) (fun f1 h1 => ci_used g f1 x y h1 hV)
theorem j_alike (h : JI f) (x y : Int32) : Jt g f MX11_alike MX12_alike [.int x, .int y] := by
  obtain ⟨P, H, T, hC, hI, hV, hH⟩ := h
  exact jt_ex (F := fun n => aAl (qP P) n x y) hI hV hH (cc_alike g f x y hC hV) (fun f1 h1 => ci_alike g f1 x y h1 hV)
theorem j_useful (h : JI f) (x : Int32) : Jt g f MX11_useful MX12_useful [.int x] := by
  obtain ⟨P, H, T, hC, hI, hV, hH⟩ := h
  exact jt_mk hI hV hH (cc_useful g f x hC hV) (fun f1 h1 => ci_useful g f1 x h1 hV)
theorem j_usefulAt (h : JI f) (x : Int32) : Jt g f MX11_usefulAt MX12_usefulAt [.int x] := by
  obtain ⟨P, H, T, hC, hI, hV, hH⟩ := h
  exact jt_mk hI hV hH (cc_usefulAt g f x hC hV) (fun f1 h1 => ci_usefulAt g f1 x h1 hV)
theorem j_piece (h : JI f) (x y : Int32) : Jt g f MX11_piece MX12_piece [.int x, .int y] := by
  obtain ⟨P, H, T, hC, hI, hV, hH⟩ := h
  exact jt_mk hI hV hH (cc_piece g f x y hC hV) (fun f1 h1 => ci_piece g f1 x y h1 hV)
theorem j_form (h : JI f) (x y : Int32) : Jt g f MX11_form MX12_form [.int x, .int y] := by
  obtain ⟨P, H, T, hC, hI, hV, hH⟩ := h
  exact jt_mk hI hV hH (cc_form g f x y hC hV) (fun f1 h1 => ci_form g f1 x y h1 hV)
theorem j_placement (h : JI f) (x y : Int32) : Jt g f MX11_placement MX12_placement [.int x, .int y] := by
  obtain ⟨P, H, T, hC, hI, hV, hH⟩ := h
  exact jt_mk hI hV hH (cc_placement g f x y hC hV) (fun f1 h1 => ci_placement g f1 x y h1 hV)
theorem j_count (h : JI f) (x : Int32) : Jt g f MX11_count MX12_count [.int x] := by
  obtain ⟨P, H, T, hC, hI, hV, hH⟩ := h
  exact jt_mk hI hV hH (cc_count g f x hC hV) (fun f1 h1 => cm_count g f1 x h1 hV)
theorem j_colour (h : JI f) (x : Int32) : Jt g f MX11_colour MX12_colour [.int x] := by
  obtain ⟨P, H, T, hC, hI, hV, hH⟩ := h
  exact jt_no hC hI hV hH (cc_colour g f x hC hV.1) (cm_colour g f x hI hV.1)
theorem j_proof (h : JI f) : Jt g f MX11_proof MX12_proof [] := by
  obtain ⟨P, H, T, hC, hI, hV, hH⟩ := h
  refine Ct.mono (fun r f1 h => ?_) (cc_proof g f hC hV)
  obtain ⟨k1, h2, v, h3, h4⟩ := h
  have hM : MI f1 P H T := hI.keep (fun j a _ => k1 j (by omega))
  refine ⟨v, h3, hM.o, Ct.mono (fun r' f2 h => ?_) (ci_proof g f1 hM hV)⟩
  obtain ⟨k2, m2, v', h5, h6⟩ := h
  rw [h6.uniq h4] at h5
  exact ⟨h5, P, H, T, h2.keep k2, m2, hV, hH⟩
theorem j_clearText (h : JI f) : Jt g f MX11_clearText MX12_clearText [] := by
  obtain ⟨P, H, T, hC, hI, hV, hH⟩ := h
  exact jt_mk hI hV hH (cc_clearText g f hC) (fun f1 h1 => cm_clearText g f1 h1)
theorem j_appendCharacter (h : JI f) (x : Int32) : Jt g f MX11_appendCharacter MX12_appendCharacter [.int x] := by
  obtain ⟨P, H, T, hC, hI, hV, hH⟩ := h
  by_cases hx : nI 0 ≤ x ∧ x ≤ nI 255
  · have hl : T.length ≤ 160 := hC.R.2.1.1
    by_cases h6 : T.length = 160
    · exact jt_no hC hI hV hH (cc_appendFull g f hC hx h6) (cm_appendFull g f hI hx h6)
    · obtain ⟨k, -, k2, rfl⟩ := rng (by omega) hx (by omega)
      exact jt_mk hI hV hH (cc_append g f hC (by omega) (by omega)) (fun f1 h1 => cm_append g f1 h1 (by omega) (by omega))
  · exact jt_no hC hI hV hH (cc_appendNo g f hC hx) (cm_appendNo g f hI hx)
theorem j_setMode (h : JI f) (x : Int32) : Jt g f MX11_setMode MX12_setMode [.int x] := by
  obtain ⟨P, H, T, hC, hI, hV, hH⟩ := h
  by_cases hx : nI 0 ≤ x ∧ x ≤ nI 1
  · obtain ⟨k, -, k2, rfl⟩ := rng (by omega) hx (by omega)
    exact jt_mk hI (hV.mode k2) (psh_ok hH hV) (cc_setMode g f hC k2) (fun f1 h1 => cm_setMode g f1 h1 hV.1 k2)
  · exact jt_no hC hI hV hH (cc_setModeNo g f hC hx) (cm_setModeNo g f hI hx)
theorem j_setRule (h : JI f) (x : Int32) : Jt g f MX11_setRule MX12_setRule [.int x] := by
  obtain ⟨P, H, T, hC, hI, hV, hH⟩ := h
  by_cases hx : nI 0 ≤ x ∧ x ≤ nI 1
  · obtain ⟨k, -, k2, rfl⟩ := rng (by omega) hx (by omega)
    exact jt_mk hI (hV.rule k2) (psh_ok hH hV) (cc_setRule g f hC k2) (fun f1 h1 => cm_setRule g f1 h1 hV.1 k2)
  · exact jt_no hC hI hV hH (cc_setRuleNo g f hC hx) (cm_setRuleNo g f hI hx)
theorem j_setBoard (h : JI f) (x y : Int32) : Jt g f MX11_setBoard MX12_setBoard [.int x, .int y] := by
  obtain ⟨P, H, T, hC, hI, hV, hH⟩ := h
  by_cases hx : nI 1 ≤ x ∧ x ≤ nI 6
  · by_cases hy : nI 1 ≤ y ∧ y ≤ nI 6
    · obtain ⟨w, w1, w2, rfl⟩ := rng (by omega) hx (by omega)
      obtain ⟨t, t1, t2, rfl⟩ := rng (by omega) hy (by omega)
      exact jt_mk hI (hV.board w1 w2 t1 t2) (psh_ok hH hV) (cc_setBoard g f hC w1 w2 t1 t2) (fun f1 h1 => cm_setBoard g f1 h1 hV.1 w1 w2 t1 t2)
    · exact jt_no hC hI hV hH (cc_setBoardNo g f hC (Or.inr hy)) (cm_setBoardNo g f hI (Or.inr hy))
  · exact jt_no hC hI hV hH (cc_setBoardNo g f hC (Or.inl hx)) (cm_setBoardNo g f hI (Or.inl hx))
theorem VPc.ar {P : PS} (h : VPc P) : pW P * pH P ≤ 36 := Nat.mul_le_mul h.1.2.1 h.1.2.2.2.1
theorem inR_ff {x : Int32} {n : Nat} (h : ¬ inR x n = true) : inR x n = false := by cases hh : inR x n <;> simp_all
theorem j_setHole (h : JI f) (x y : Int32) : Jt g f MX11_setHole MX12_setHole [.int x, .int y] := by
  obtain ⟨P, H, T, hC, hI, hV, hH⟩ := h
  have ha := hV.ar
  by_cases hx : inR x (pW P * pH P) = true
  · by_cases hy : nI 0 ≤ y ∧ y ≤ nI 1
    · obtain ⟨c, hc, rfl⟩ := (inR_iff (by omega)).mp hx
      obtain ⟨o, -, ho, rfl⟩ := rng (by omega) hy (by omega)
      by_cases hd : (pC P c = -1) ↔ o = 1
      · exact jt_no hC hI hV hH (cc_setHoleIll g f hC hV.1 hc ho hd) (cm_setHoleIll g f hI hV.1 hc ho hd)
      · have hd2 : (pC P c = -1) ↔ ¬ o = 1 := by
          by_cases e1 : pC P c = -1
          · by_cases e2 : o = 1
            · exact absurd ⟨fun _ => e2, fun _ => e1⟩ hd
            · exact ⟨fun _ => e2, fun _ => e1⟩
          · by_cases e2 : o = 1
            · exact ⟨fun a => absurd a e1, fun a => absurd e2 a⟩
            · exact absurd ⟨fun a => absurd a e1, fun a => absurd a e2⟩ hd
        exact jt_mk hI hV.cell (psh_ok hH hV) (cc_setHole g f hC hV.1 hc ho hd2) (fun f1 h1 => cm_setHole g f1 h1 hV.1 hc ho hd2)
    · exact jt_no hC hI hV hH (cc_setHoleNo g f hC (Or.inr hy)) (cm_setCellNo g f hI hV.1 (Or.inr hy))
  · exact jt_no hC hI hV hH (cc_setHoleNo g f hC (Or.inl (inR_ff hx))) (cm_setCellNo g f hI hV.1 (Or.inl (inR_ff hx)))
theorem j_setColour (h : JI f) (x y : Int32) : Jt g f MX11_setColour MX12_setColour [.int x, .int y] := by
  obtain ⟨P, H, T, hC, hI, hV, hH⟩ := h
  have ha := hV.ar
  by_cases hx : inR x (pW P * pH P) = true
  · by_cases hy : nI 0 ≤ y ∧ y ≤ nI 3
    · obtain ⟨c, hc, rfl⟩ := (inR_iff (by omega)).mp hx
      obtain ⟨o, -, ho, rfl⟩ := rng (by omega) hy (by omega)
      by_cases hd : pC P c = -1
      · exact jt_no hC hI hV hH (cc_setColourIll g f hC hV.1 hc ho hd) (cm_setColourIll g f hI hV.1 hc ho hd)
      · exact jt_mk hI hV.cell (psh_ok hH hV) (cc_setColour g f hC hV.1 hc ho hd) (fun f1 h1 => cm_setColour g f1 h1 hV.1 hc ho hd)
    · exact jt_no hC hI hV hH (cc_setColourNo g f hC (Or.inr hy)) (cm_setColourNo g f hI hV.1 (Or.inr hy))
  · exact jt_no hC hI hV hH (cc_setColourNo g f hC (Or.inl (inR_ff hx))) (cm_setColourNo g f hI hV.1 (Or.inl (inR_ff hx)))
theorem j_setCopies (h : JI f) (x y : Int32) : Jt g f MX11_setCopies MX12_setCopies [.int x, .int y] := by
  obtain ⟨P, H, T, hC, hI, hV, hH⟩ := h
  have ha := hV.1.2.2.2.2
  by_cases hx : inR x (pN P) = true
  · by_cases hy : nI 1 ≤ y ∧ y ≤ nI 9
    · obtain ⟨p, hp, rfl⟩ := (inR_iff (by omega)).mp hx
      obtain ⟨k, k1, k9, rfl⟩ := rng (by omega) hy (by omega)
      exact jt_mk hI (hV.cop k1 k9) (psh_ok hH hV) (cc_setCopies g f hC hV.1 hp k1 k9) (fun f1 h1 => cm_setCopies g f1 h1 hV.1 hp k1 k9)
    · exact jt_no hC hI hV hH (cc_setCopiesNo g f hC (Or.inr hy)) (cm_setCopiesNo g f hI hV.1 (Or.inr hy))
  · exact jt_no hC hI hV hH (cc_setCopiesNo g f hC (Or.inl (inR_ff hx))) (cm_setCopiesNo g f hI hV.1 (Or.inl (inR_ff hx)))
theorem j_addPiece (h : JI f) (x y z : Int32) : Jt g f MX11_addPiece MX12_addPiece [.int x, .int y, .int z] := by
  obtain ⟨P, H, T, hC, hI, hV, hH⟩ := h
  by_cases hx : okSh x = true
  · by_cases hy : nI 0 ≤ y ∧ y ≤ nI 2
    · by_cases hz : nI 0 ≤ z ∧ z ≤ nI 3
      · by_cases hn : pN P = 8
        · exact jt_no hC hI hV hH (cc_addPieceFull g f hC hx hy hz hn) (cm_addPieceFull g f hI hx hy hz hn)
        · have hn2 : pN P < 8 := by have := hV.1.2.2.2.2; omega
          obtain ⟨s0, hs, rfl, hk⟩ := okSh_ex hx
          obtain ⟨a, -, a2, ea⟩ := rng (by omega) hy (by omega)
          obtain ⟨b, -, b2, eb⟩ := rng (by omega) hz (by omega)
          refine jt_mk hI ?_ (psh_ok hH hV) (cc_addPiece g f hC hs hk hy hz hn2) (fun f1 h1 => cm_addPiece g f1 h1 hV.1 hs hk hy hz hn2)
          rw [ea, eb]
          exact hV.add hn2 (ok_norm hs hk).2 a2 b2
      · exact jt_no hC hI hV hH (cc_addPieceNo g f hC (Or.inr (Or.inr hz))) (cm_addPieceNo g f hI (Or.inr (Or.inr hz)))
    · exact jt_no hC hI hV hH (cc_addPieceNo g f hC (Or.inr (Or.inl hy))) (cm_addPieceNo g f hI (Or.inr (Or.inl hy)))
  · have hx2 : okSh x = false := by cases hh : okSh x <;> simp_all
    exact jt_no hC hI hV hH (cc_addPieceNo g f hC (Or.inl hx2)) (cm_addPieceNo g f hI (Or.inl hx2))
theorem j_removePiece (h : JI f) (x : Int32) : Jt g f MX11_removePiece MX12_removePiece [.int x] := by
  obtain ⟨P, H, T, hC, hI, hV, hH⟩ := h
  have ha := hV.1.2.2.2.2
  by_cases hx : inR x (pN P) = true
  · obtain ⟨p, hp, rfl⟩ := (inR_iff (by omega)).mp hx
    refine Ct.mono (fun r f1 h => ?_) (cc_removePiece g f hC hV.1 hp)
    obtain ⟨S, hS, k1, h2, h3⟩ := h
    have hM : MI f1 P H T := hI.keep (fun j a _ => k1 j (by omega))
    exact ⟨_, h3, hM.o, Ct.mono (fun r' f2 h => ⟨h.2.2, S, _, T, h2.keep h.1, h.2.1, hV.drop hp hS, psh_ok hH hV⟩) (cm_removePiece g f1 hM hV.1 hp hS)⟩
  · exact jt_no hC hI hV hH (cc_removePieceNo g f hC (inR_ff hx)) (cm_removePieceNo g f hI hV.1 (inR_ff hx))
theorem j_undo (h : JI f) : Jt g f MX11_undo MX12_undo [] := by
  obtain ⟨P, H, T, hC, hI, hV, hH⟩ := h
  rcases List.eq_nil_or_concat H with rfl | ⟨H0, S, rfl⟩
  · exact jt_no hC hI hV hH (cc_undoNo g f hC) (cm_undoNo g f hI)
  · rw [List.concat_eq_append] at hC hI hH
    exact jt_mk hI (hH S (by simp)) (fun Z hZ => hH Z (by simp [hZ])) (cc_undo g f hC) (fun f1 h1 => cm_undo g f1 h1)
theorem j_load (h : JI f) : Jt g f MX11_load MX12_load [] := by
  obtain ⟨P, H, T, hC, hI, hV, hH⟩ := h
  refine Ct.mono (fun r f1 h => ?_) (cc_load g f hC)
  obtain ⟨k1, h2⟩ := h
  have hM : MI f1 P H T := hI.keep (fun j a _ => k1 j (by omega))
  have hm := cm_load g f1 hM hV.1
  unfold LDc at h2
  unfold LDm at hm
  cases ho : outL T with
  | inl e =>
    rw [ho] at h2 hm
    exact ⟨_, h2.2, hM.o, Ct.mono (fun r' f2 h => ⟨h.2.2, P, H, T, h2.1.keep h.1, h.2.1, hV, hH⟩) hm⟩
  | inr L =>
    rw [ho] at h2 hm
    obtain ⟨h3, P', hD, e1, e2, hC'⟩ := h2
    exact ⟨_, h3, hM.o, Ct.mono (fun r' f2 h => ⟨h.2.1, P', _, [], hC'.keep h.1, h.2.2 P' hD e1 e2, VPc.load ho hD (by rw [e1]; exact hV.2.2.1) (by rw [e2]; exact hV.2.2.2), psh_ok hH hV⟩) hm⟩
theorem j_proves (h : JI f) (x y z : Int32) : Jt g f MX11_proves MX12_proves [.int x, .int y, .int z] := by
  obtain ⟨P, H, T, hC, hI, hV, hH⟩ := h
  by_cases hz : nI 2 ≤ z ∧ z ≤ nI 5
  · by_cases hx : nI 0 ≤ x ∧ x ≤ z - nI 1
    · by_cases hy : nI 0 ≤ y ∧ y ≤ z - nI 1
      · obtain ⟨m, m2, m5, rfl⟩ := rng (by omega) hz (by omega)
        have em : nI m - nI 1 = nI (m - 1) := by
          apply Int32.toInt_inj.mp
          rw [pk_sub_toInt (by omega) (by decide), nI_toInt (by omega)]
          omega
        rw [em] at hx hy
        obtain ⟨a, -, a2, rfl⟩ := rng (by omega) hx (by omega)
        obtain ⟨b, -, b2, rfl⟩ := rng (by omega) hy (by omega)
        exact jt_mk hI hV hH (cc_proves g f hC hV m2 m5 (by omega) (by omega)) (fun f1 h1 => ci_proves g f1 h1 hV m2 m5 (by omega) (by omega))
      · exact jt_no hC hI hV hH (cc_provesNo g f hC (Or.inr (Or.inr hy))) (cm_provesNo g f hI (Or.inr (Or.inr hy)))
    · exact jt_no hC hI hV hH (cc_provesNo g f hC (Or.inr (Or.inl hx))) (cm_provesNo g f hI (Or.inr (Or.inl hx)))
  · exact jt_no hC hI hV hH (cc_provesNo g f hC (Or.inl hz)) (cm_provesNo g f hI (Or.inl hz))
end Calls
