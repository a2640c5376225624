-- the law's loop, its start
section Loop
variable {p : Program} {e : Env} {s : State} {m : MethodId} {below : List Frame} {meth : Method} {c : Code} {b L : Nat} {xs : Nat → Int32} {g : GG} {pc : Nat} {lvl lvl' : List (Nat × Value)} {st : List Value} {f : Mm} {cells slots : Nat}
theorem Lw.sub (h : ∀ ls, lv_has ls 4 lvl → lv_has ls 4 lvl') (kk : Lw p e s m below meth c b g pc lvl' st f cells slots) : Lw p e s m below meth c b g pc lvl st f cells slots := fun H locs hz hR hF hL ls hl => kk H locs hz hR hF hL ls (h ls hl)
theorem lq_ast {k : Fin 4} {i x : Nat} (C : LC p s m meth c b L xs g) (hd : decode code pc = .ok (.astore_n k, 1)) (hi : (k : Nat) = i) (hn : i < 4) (hl : (i, Value.ref x) :: lvl.filter (fun q => !(q.1 == i) && !(q.1 + 1 == i && q.2.category == 2)) = lvl') (kk : Lw p e s m below meth c b g (pc + 1) lvl' st f cells slots) : Lw p e s m below meth c b g pc lvl (.ref x :: st) f cells slots :=
  fun H locs hz hR hF hL ls hh => lv_astore_n C.1.1 C.1.2.1 hd hi hh hn hl (fun ls' hl' => kk H locs hz hR hF hL ls' hl')
theorem lq_ist {k : Fin 4} {i : Nat} {x : Int32} (C : LC p s m meth c b L xs g) (hd : decode code pc = .ok (.istore_n k, 1)) (hi : (k : Nat) = i) (hn : i < 4) (hl : (i, Value.int x) :: lvl.filter (fun q => !(q.1 == i) && !(q.1 + 1 == i && q.2.category == 2)) = lvl') (kk : Lw p e s m below meth c b g (pc + 1) lvl' st f cells slots) : Lw p e s m below meth c b g pc lvl (.int x :: st) f cells slots :=
  fun H locs hz hR hF hL ls hh => lv_istore_n C.1.1 C.1.2.1 hd hi hh hn hl (fun ls' hl' => kk H locs hz hR hF hL ls' hl')
theorem law_loop (C : LC p s m meth c b L xs g) (hL : L ≤ 2048) (hcl : cells ≤ 600000) (hsl : slots ≤ 7302250) : ∀ (n i : Nat) (f : Mm), i ≤ L → L + 1 ≤ i + n → JI f → Lw p e s m below meth c b g 18 (LL b g.2.2.2 (nI i)) [] f cells slots := by
  obtain ⟨hx, hb, hr0, hml, hown, hts, hX, hbl, hlocks, hgv⟩ := id C.1
  have hB := C.2.2
  intro n
  induction n with
  | zero =>
    intro i f h1 h2
    exact absurd h2 (by omega)
  | succ n ih =>
    intro i f hi hin hJ H locs hz hR hF hLo ls hl
    have hS : va_S (fun q : Nat => s.heap.size ≤ q) s.heap H locs := ⟨by omega, fun q h1 _ => hF q (by omega), fun q hq => by have := hLo q hq; show s.heap.size ≤ q.base; omega⟩
    refine lv_iload_n hx hb dL_law_18 rfl (lv_at hl 3 rfl) ?_
    refine lv_aload_n hx hb dL_law_19 rfl (lv_at hl 0 rfl) ?_
    refine va_slen hx hb hX hbl (Nat.not_le.mpr hbl) hS dL_law_20 ?_
    refine lv_iconst (v := nI 4) hx hb dL_law_21 (by decide) ?_
    refine lv_isub hx hb dL_law_22 ?_
    refine lv_icmp_gt (tgt := 870) hx hb dL_law_23 (by decide) (fun cg => ?_) (fun cg => ?_)
    · refine lv_iconst (v := 1) hx hb dL_law_870 (by decide) ?_
      refine va_forget (fun q hq => hS.2.2 q hq) ?_
      refine W.widen (k := 600000) (n := 7302250) hcl hsl ?_
      exact lw_ret hx hb hr0 hlocks dL_law_871
    · have hle : i + 4 ≤ L := by
        have q : ¬ (nI L - nI 4).toInt < (nI i).toInt := fun h => cg (Int32.lt_iff_toInt_lt.mpr h)
        rw [pk_sub_toInt (by omega) (by decide), nI_toInt (by omega)] at q
        omega
      refine lv_aload_n hx hb dL_law_26 rfl (lv_at hl 0 rfl) ?_
      refine lv_iload_n hx hb dL_law_27 rfl (lv_at hl 3 rfl) ?_
      refine va_sld hx hb hX hbl (Nat.not_le.mpr hbl) hS (vp_in_nI (by omega) (by omega)) dL_law_28 ?_
      refine lv_bipush (v := nI 31) hx hb dL_law_29 (by decide) ?_
      refine lv_iand hx hb dL_law_31 ?_
      have fin : ∀ f2, JI f2 → Lw p e s m below meth c b g 864 (LL b g.2.2.2 (nI i)) [] f2 cells slots := fun f2 hJ2 H locs hz hR hF hLo ls hl => by
        refine lv_iinc (v := nI (i + 4)) (lv' := [(3, .int (nI (i + 4))), (0, .ref b), (1, .ref (g.2.2.2 + 0)), (2, .ref (g.2.2.2 + 75))]) hx hb dL_law_864 hl (k := 3) rfl (by rw [show Int32.ofInt 4 = nI 4 from by decide, nI_add]) (by decide) rfl (fun ls hl => ?_)
        refine lv_goto (tgt := 18) hx hb dL_law_867 (by decide) ?_
        exact ih (i + 4) f2 hle (by omega) hJ2 H locs hz hR hF hLo ls (lv_sub hl [1, 2, 3, 0] rfl)
      obtain ⟨k, hk, ek⟩ := and31 (xs (nI i).toNatClampNeg)
      rw [ek]
      rcases (show (k = 0 ∨ k = 1 ∨ k = 2 ∨ k = 3 ∨ k = 4 ∨ k = 5 ∨ k = 6 ∨ k = 7 ∨ k = 8 ∨ k = 9 ∨ k = 10 ∨ k = 11 ∨ k = 12 ∨ k = 13 ∨ k = 14 ∨ k = 15 ∨ k = 16 ∨ k = 17 ∨ k = 18 ∨ k = 19 ∨ k = 20 ∨ k = 21 ∨ k = 22 ∨ k = 23 ∨ k = 24 ∨ k = 25 ∨ k = 26 ∨ k = 27 ∨ k = 28 ∨ k = 29 ∨ k = 30 ∨ k = 31) by omega) with rfl | rfl | rfl | rfl | rfl | rfl | rfl | rfl | rfl | rfl | rfl | rfl | rfl | rfl | rfl | rfl | rfl | rfl | rfl | rfl | rfl | rfl | rfl | rfl | rfl | rfl | rfl | rfl | rfl | rfl | rfl | rfl
      · refine lv_tableIn (tgt := 160) hx hb dL_law_32 (by decide) (by decide) (off := 128) (by decide) (by decide) ?_
        exact case_0 C hJ hle hL hcl hsl fin H locs hz hR hF hLo ls hl
      · refine lv_tableIn (tgt := 193) hx hb dL_law_32 (by decide) (by decide) (off := 161) (by decide) (by decide) ?_
        exact case_1 C hJ hle hL hcl hsl fin H locs hz hR hF hLo ls hl
      · refine lv_tableIn (tgt := 226) hx hb dL_law_32 (by decide) (by decide) (off := 194) (by decide) (by decide) ?_
        exact case_2 C hJ hle hL hcl hsl fin H locs hz hR hF hLo ls hl
      · refine lv_tableIn (tgt := 259) hx hb dL_law_32 (by decide) (by decide) (off := 227) (by decide) (by decide) ?_
        exact case_3 C hJ hle hL hcl hsl fin H locs hz hR hF hLo ls hl
      · refine lv_tableIn (tgt := 302) hx hb dL_law_32 (by decide) (by decide) (off := 270) (by decide) (by decide) ?_
        exact case_4 C hJ hle hL hcl hsl fin H locs hz hR hF hLo ls hl
      · refine lv_tableIn (tgt := 325) hx hb dL_law_32 (by decide) (by decide) (off := 293) (by decide) (by decide) ?_
        exact case_5 C hJ hle hL hcl hsl fin H locs hz hR hF hLo ls hl
      · refine lv_tableIn (tgt := 358) hx hb dL_law_32 (by decide) (by decide) (off := 326) (by decide) (by decide) ?_
        exact case_6 C hJ hle hL hcl hsl fin H locs hz hR hF hLo ls hl
      · refine lv_tableIn (tgt := 381) hx hb dL_law_32 (by decide) (by decide) (off := 349) (by decide) (by decide) ?_
        exact case_7 C hJ hle hL hcl hsl fin H locs hz hR hF hLo ls hl
      · refine lv_tableIn (tgt := 404) hx hb dL_law_32 (by decide) (by decide) (off := 372) (by decide) (by decide) ?_
        exact case_8 C hJ hle hL hcl hsl fin H locs hz hR hF hLo ls hl
      · refine lv_tableIn (tgt := 427) hx hb dL_law_32 (by decide) (by decide) (off := 395) (by decide) (by decide) ?_
        exact case_9 C hJ hle hL hcl hsl fin H locs hz hR hF hLo ls hl
      · refine lv_tableIn (tgt := 450) hx hb dL_law_32 (by decide) (by decide) (off := 418) (by decide) (by decide) ?_
        exact case_10 C hJ hle hL hcl hsl fin H locs hz hR hF hLo ls hl
      · refine lv_tableIn (tgt := 483) hx hb dL_law_32 (by decide) (by decide) (off := 451) (by decide) (by decide) ?_
        exact case_11 C hJ hle hL hcl hsl fin H locs hz hR hF hLo ls hl
      · refine lv_tableIn (tgt := 516) hx hb dL_law_32 (by decide) (by decide) (off := 484) (by decide) (by decide) ?_
        exact case_12 C hJ hle hL hcl hsl fin H locs hz hR hF hLo ls hl
      · refine lv_tableIn (tgt := 549) hx hb dL_law_32 (by decide) (by decide) (off := 517) (by decide) (by decide) ?_
        exact case_13 C hJ hle hL hcl hsl fin H locs hz hR hF hLo ls hl
      · refine lv_tableIn (tgt := 572) hx hb dL_law_32 (by decide) (by decide) (off := 540) (by decide) (by decide) ?_
        exact case_14 C hJ hle hL hcl hsl fin H locs hz hR hF hLo ls hl
      · refine lv_tableIn (tgt := 585) hx hb dL_law_32 (by decide) (by decide) (off := 553) (by decide) (by decide) ?_
        exact case_15 C hJ hle hL hcl hsl fin H locs hz hR hF hLo ls hl
      · refine lv_tableIn (tgt := 598) hx hb dL_law_32 (by decide) (by decide) (off := 566) (by decide) (by decide) ?_
        exact case_16 C hJ hle hL hcl hsl fin H locs hz hR hF hLo ls hl
      · refine lv_tableIn (tgt := 611) hx hb dL_law_32 (by decide) (by decide) (off := 579) (by decide) (by decide) ?_
        exact case_17 C hJ hle hL hcl hsl fin H locs hz hR hF hLo ls hl
      · refine lv_tableIn (tgt := 624) hx hb dL_law_32 (by decide) (by decide) (off := 592) (by decide) (by decide) ?_
        exact case_18 C hJ hle hL hcl hsl fin H locs hz hR hF hLo ls hl
      · refine lv_tableIn (tgt := 657) hx hb dL_law_32 (by decide) (by decide) (off := 625) (by decide) (by decide) ?_
        exact case_19 C hJ hle hL hcl hsl fin H locs hz hR hF hLo ls hl
      · refine lv_tableIn (tgt := 690) hx hb dL_law_32 (by decide) (by decide) (off := 658) (by decide) (by decide) ?_
        exact case_20 C hJ hle hL hcl hsl fin H locs hz hR hF hLo ls hl
      · refine lv_tableIn (tgt := 703) hx hb dL_law_32 (by decide) (by decide) (off := 671) (by decide) (by decide) ?_
        exact case_21 C hJ hle hL hcl hsl fin H locs hz hR hF hLo ls hl
      · refine lv_tableIn (tgt := 736) hx hb dL_law_32 (by decide) (by decide) (off := 704) (by decide) (by decide) ?_
        exact case_22 C hJ hle hL hcl hsl fin H locs hz hR hF hLo ls hl
      · refine lv_tableIn (tgt := 749) hx hb dL_law_32 (by decide) (by decide) (off := 717) (by decide) (by decide) ?_
        exact case_23 C hJ hle hL hcl hsl fin H locs hz hR hF hLo ls hl
      · refine lv_tableIn (tgt := 772) hx hb dL_law_32 (by decide) (by decide) (off := 740) (by decide) (by decide) ?_
        exact case_24 C hJ hle hL hcl hsl fin H locs hz hR hF hLo ls hl
      · refine lv_tableIn (tgt := 795) hx hb dL_law_32 (by decide) (by decide) (off := 763) (by decide) (by decide) ?_
        exact case_25 C hJ hle hL hcl hsl fin H locs hz hR hF hLo ls hl
      · refine lv_tableIn (tgt := 838) hx hb dL_law_32 (by decide) (by decide) (off := 806) (by decide) (by decide) ?_
        exact case_26 C hJ hle hL hcl hsl fin H locs hz hR hF hLo ls hl
      · refine lv_tableIn (tgt := 851) hx hb dL_law_32 (by decide) (by decide) (off := 819) (by decide) (by decide) ?_
        exact case_27 C hJ hle hL hcl hsl fin H locs hz hR hF hLo ls hl
      · refine lv_tableOut (tgt := 864) hx hb dL_law_32 (Or.inr (by decide)) (by decide) ?_
        exact fin f hJ H locs hz hR hF hLo ls hl
      · refine lv_tableOut (tgt := 864) hx hb dL_law_32 (Or.inr (by decide)) (by decide) ?_
        exact fin f hJ H locs hz hR hF hLo ls hl
      · refine lv_tableOut (tgt := 864) hx hb dL_law_32 (Or.inr (by decide)) (by decide) ?_
        exact fin f hJ H locs hz hR hF hLo ls hl
      · refine lv_tableOut (tgt := 864) hx hb dL_law_32 (Or.inr (by decide)) (by decide) ?_
        exact fin f hJ H locs hz hR hF hLo ls hl
end Loop
theorem VPc_0 : VPc P0 := ⟨⟨by decide, by decide, by decide, by decide, by decide⟩, fun q hq => absurd hq (Nat.not_lt_zero _), by decide, by decide⟩
/-- THE LAW, from its entry -/
theorem whole_start {p : Program} {e : Env} {s : State} {m : MethodId} {below : List Frame} {meth : Method} {c : Code} (l : Launch) (hflags : l.flags = flags0) {b L : Nat} {xs : Nat → Int32} (hL : L ≤ 2048) (C0 : lw_At p s m meth c b L xs) : W p l e room_1 s m #[Value.ref b] below meth c s.heap [] 0 0 (lw_Z below #[Value.ref b] s) (entryFrame m ([Value.ref b] : List Value).toArray 4) := by
  obtain ⟨D, cls, hK⟩ := kx_of l s.heap.size C0.2.2.2.2.2.1
  have C : LC p s m meth c b L xs (l, D, cls, s.heap.size) := ⟨C0, hK, rfl⟩
  have hx := C0.1
  have hb := C0.2.1
  have K : Lw p e s m below meth c b (l, D, cls, s.heap.size) 0 [(0, .ref b)] [] (fun _ => none) 0 0 := by
    have hz0 : FZ (fun _ => none) 0 := fun q => ⟨fun _ => Nat.zero_le _, fun _ => rfl⟩
    refine lq_new (z := 0) (ci := 10) (T := TX11) (N := 13) (fs := [.null, .null, .null, .null, .null, .null, .null, .null, .null, .null, .int 0, .int 0, .int 0]) C dL_law_0 lkL_7 liX11 lzX11 rfl inX11 tyX11 tyX11_ok (fun j hj => match j, hj with | 0, _ => rfl | 1, _ => rfl | 2, _ => rfl | 3, _ => rfl | 4, _ => rfl | 5, _ => rfl | 6, _ => rfl | 7, _ => rfl | 8, _ => rfl | 9, _ => rfl | 10, _ => rfl | 11, _ => rfl | 12, _ => rfl | j + 13, h => absurd h (by omega)) (fun _ => rfl) (Nat.le_of_ble_eq_true rfl) (Nat.le_of_ble_eq_true rfl) hz0 (fun f1 hz1 k1 s1 => ?_)
    refine Lw.go C (fun H locs ls hS hl w => lv_dup hx hb dL_law_3 rfl w) ?_
    refine lq_callI (as := []) C dL_law_4 lmL_9 ⟨Nat.le_of_ble_eq_true rfl, Nat.le_of_ble_eq_true rfl⟩ (ct_X11_init _ hz1 s1) rfl rfl (Nat.le_of_ble_eq_true rfl) (Nat.le_of_ble_eq_true rfl) (Nat.le_of_ble_eq_true rfl) ?_
    rintro _ f2 ⟨rfl, hz2, k2, hCI⟩
    refine lq_ast C dL_law_7 rfl (by decide) rfl ?_
    refine lq_new (z := 75) (ci := 11) (T := TX12) (N := 38) (fs := [.null, .null, .int 0, .null, .int 0, .null, .int 0, .null, .null, .null, .null, .null, .int 0, .int 0, .int 0, .null, .int 0, .int 0, .int 0, .int 0, .null, .int 0, .int 0, .int 0, .null, .null, .int 0, .long 0, .null, .null, .int 0, .int 0, .int 0, .int 0, .int 0, .int 0, .null, .null]) C dL_law_8 lkL_10 liX12 lzX12 rfl inX12 tyX12 tyX12_ok (fun j hj => match j, hj with | 0, _ => rfl | 1, _ => rfl | 2, _ => rfl | 3, _ => rfl | 4, _ => rfl | 5, _ => rfl | 6, _ => rfl | 7, _ => rfl | 8, _ => rfl | 9, _ => rfl | 10, _ => rfl | 11, _ => rfl | 12, _ => rfl | 13, _ => rfl | 14, _ => rfl | 15, _ => rfl | 16, _ => rfl | 17, _ => rfl | 18, _ => rfl | 19, _ => rfl | 20, _ => rfl | 21, _ => rfl | 22, _ => rfl | 23, _ => rfl | 24, _ => rfl | 25, _ => rfl | 26, _ => rfl | 27, _ => rfl | 28, _ => rfl | 29, _ => rfl | 30, _ => rfl | 31, _ => rfl | 32, _ => rfl | 33, _ => rfl | 34, _ => rfl | 35, _ => rfl | 36, _ => rfl | 37, _ => rfl | j + 38, h => absurd h (by omega)) (fun _ => rfl) (Nat.le_of_ble_eq_true rfl) (Nat.le_of_ble_eq_true rfl) hz2 (fun f3 hz3 k3 s3 => ?_)
    refine Lw.go C (fun H locs ls hS hl w => lv_dup hx hb dL_law_11 rfl w) ?_
    refine lq_callI (as := []) C dL_law_12 lmL_12 ⟨Nat.le_of_ble_eq_true rfl, Nat.le_of_ble_eq_true rfl⟩ (ct_X12_init _ hz3 s3) rfl rfl (Nat.le_of_ble_eq_true rfl) (Nat.le_of_ble_eq_true rfl) (Nat.le_of_ble_eq_true rfl) ?_
    rintro _ f4 ⟨rfl, hz4, k4, hMI⟩
    refine lq_ast C dL_law_15 rfl (by decide) rfl ?_
    refine Lw.go C (fun H locs ls hS hl w => lv_iconst (v := nI 0) hx hb dL_law_16 (by decide) w) ?_
    refine lq_ist C dL_law_17 rfl (by decide) rfl ?_
    refine Lw.sub (fun ls hl => lv_sub hl [3, 2, 1, 0] rfl) ?_
    exact law_loop C hL (Nat.le_of_ble_eq_true rfl) (Nat.le_of_ble_eq_true rfl) (L + 1) 0 f4 (Nat.zero_le L) (by omega) ⟨P0, [], [], hCI.keep (fun j hj => (k4 j hj).trans (k3 j (by omega))), hMI, VPc_0, fun S h => by cases h⟩
  have hl := lv_entry ([.ref b]) (n := 4) (Nat.le_of_ble_eq_true rfl)
  rw [lg_entry_eq]
  exact K s.heap [] rfl ⟨0, rfl, fun q => ⟨fun _ => Nat.zero_le _, fun _ => rfl⟩, fun k q h => by simp [cx] at h⟩ (fun _ _ => rfl) (fun _ h => by cases h) _ hl
