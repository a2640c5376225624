-- THE LAW: its context, its rows
theorem kx_arr {s : State} {A : Array Value} {ty : FieldType} (h : (Cond.arrayClass ty).before A s = true) : ∃ cA, ArrOfT s cA ty ∧ s.vm.findClass ("[" ++ ty.toString) = some cA := by
  obtain ⟨cA, kA, comp, f1, f2, f3⟩ := Cond.arrayClass_spec h
  exact ⟨cA, fun N z => ⟨(fun k h => by cases h), kA, f2, comp, f3⟩, f1⟩
theorem kx_of {s : State} {A : Array Value} (l : Launch) (B : Nat) (hts : ∀ w ∈ lw_tbl, w.before A s = true) : ∃ (D : va_G) (cls : Nat → ClassId), Kx (l, D, cls, B) s := by
  have hg : ∀ w ∈ gt, w.before A s = true := fun w hw => hts w (List.mem_filter.mp hw).1
  obtain ⟨c0, i0, k0⟩ := u_known hg inX0 (hg _ liX0)
  obtain ⟨c1, i1, k1⟩ := u_known hg inX1 (hg _ liX1)
  obtain ⟨c2, i2, k2⟩ := u_known hg inX2 (hg _ liX2)
  obtain ⟨c3, i3, k3⟩ := u_known hg inX3 (hg _ liX3)
  obtain ⟨c4, i4, k4⟩ := u_known hg inX4 (hg _ liX4)
  obtain ⟨c5, i5, k5⟩ := u_known hg inX5 (hg _ liX5)
  obtain ⟨c6, i6, k6⟩ := u_known hg inX7 (hg _ liX7)
  obtain ⟨c7, i7, k7⟩ := u_known hg inX8 (hg _ liX8)
  obtain ⟨c8, i8, k8⟩ := u_known hg inX9 (hg _ liX9)
  obtain ⟨c9, i9, k9⟩ := u_known hg inX10 (hg _ liX10)
  obtain ⟨c10, i10, k10⟩ := u_known hg inX11 (hg _ liX11)
  obtain ⟨c11, i11, k11⟩ := u_known hg inX12 (hg _ liX12)
  have hAO : va_AO RX4 s := va_AO.of (hts _ (List.mem_of_getElem? lo_over))
  obtain ⟨a0, r0, n0⟩ := kx_arr (hg _ la_int)
  obtain ⟨a1, r1, n1⟩ := kx_arr (hg _ la_long)
  obtain ⟨a2, r2, n2⟩ := kx_arr (hg _ la_byte)
  obtain ⟨a3, r3, n3⟩ := kx_arr (hg _ la_boolean)
  obtain ⟨comp, a4, kA, f1, -, f2, f3, f4⟩ := Cond.arrayOver_spec hAO
  refine ⟨(fun k => match k with | 0 => c0 | 1 => c1 | 2 => c2 | 3 => c3 | 4 => c4 | 5 => c5 | 6 => c6 | 7 => c7 | 8 => c8 | 9 => c9 | 10 => c10 | _ => c11, fun k => match k with | 0 => i0 | 1 => i1 | 2 => i2 | 3 => i3 | 4 => i4 | 5 => i5 | 6 => i6 | 7 => i7 | 8 => i8 | 9 => i9 | 10 => i10 | _ => i11), (fun k => match k with | 0 => a0 | 1 => a1 | 2 => a2 | 3 => a3 | _ => a4), ⟨fun k q hq => ?_, fun k q hq => ?_⟩, fun w hw => ?_, hAO⟩
  · match k, hq with
    | 0, hq => cases hq; exact k0
    | 1, hq => cases hq; exact k1
    | 2, hq => cases hq; exact k2
    | 3, hq => cases hq; exact k3
    | 4, hq => cases hq; exact k4
    | 5, hq => cases hq; exact k5
    | 6, hq => cases hq; exact k6
    | 7, hq => cases hq; exact k7
    | 8, hq => cases hq; exact k8
    | 9, hq => cases hq; exact k9
    | 10, hq => cases hq; exact k10
    | 11, hq => cases hq; exact k11
    | k + 12, hq => simp [vwCl] at hq
  · match k, hq with
    | 0, hq => cases hq; exact ⟨r0, n0⟩
    | 1, hq => cases hq; exact ⟨r1, n1⟩
    | 2, hq => cases hq; exact ⟨r2, n2⟩
    | 3, hq => cases hq; exact ⟨r3, n3⟩
    | 4, hq => cases hq; exact ⟨fun N z => ⟨(fun k h => by cases h), kA, f2, comp, f3⟩, kA, comp, f2, f3, f1, f4⟩
    | k + 5, hq => simp [tysG] at hq
  · have h1 := nt_nest hw
    have h2 := hts w (List.mem_filter.mp hw).1
    refine va_Nw.of ?_ h2
    unfold isNest at h1
    split at h1
    · rfl
    · rfl
    · cases h1
def LC (p : Program) (s : State) (m : MethodId) (meth : Method) (c : Code) (b L : Nat) (xs : Nat → Int32) (g : GG) : Prop := lw_At p s m meth c b L xs ∧ Kx g s ∧ g.2.2.2 = s.heap.size
abbrev LL (b B : Nat) (i : Int32) : List (Nat × Value) := [(0, .ref b), (1, .ref (B + 0)), (2, .ref (B + 75)), (3, .int i)]
/-- at pc of the law -/
def Lw (p : Program) (e : Env) (s : State) (m : MethodId) (below : List Frame) (meth : Method) (c : Code) (b : Nat) (g : GG) (pc : Nat) (lvl : List (Nat × Value)) (st : List Value) (f : Mm) (cells slots : Nat) : Prop :=
  ∀ (H : Heap) (locs : List Loc), H.size = s.heap.size + cells → rp g f H → (∀ q, q < g.2.2.2 → H[q]? = s.heap[q]?) → (∀ q ∈ locs, g.2.2.2 ≤ q.base) → ∀ ls : Array Slot, lv_has ls 4 lvl →
  W p g.1 e room_1 s m #[Value.ref b] below meth c H locs cells slots (lw_Z below #[Value.ref b] s) (F0 m pc ls st)
section Law
variable {p : Program} {e : Env} {s : State} {m : MethodId} {below : List Frame} {meth : Method} {c : Code} {b L : Nat} {xs : Nat → Int32} {g : GG} {pc : Nat} {lvl : List (Nat × Value)} {st : List Value} {f : Mm} {cells slots : Nat}
theorem LC.hg (C : LC p s m meth c b L xs g) : ∀ w ∈ gt, w.before #[Value.ref b] s = true := fun w hw => C.1.2.2.2.2.2.1 w (List.mem_filter.mp hw).1
theorem Lw.go {pc' : Nat} {st' : List Value} (C : LC p s m meth c b L xs g) (h : ∀ (H : Heap) (locs : List Loc) (ls : Array Slot), va_S (fun q : Nat => s.heap.size ≤ q) s.heap H locs → lv_has ls 4 lvl →
      W p g.1 e room_1 s m #[Value.ref b] below meth c H locs cells slots (lw_Z below #[Value.ref b] s) (F0 m pc' ls st') → W p g.1 e room_1 s m #[Value.ref b] below meth c H locs cells slots (lw_Z below #[Value.ref b] s) (F0 m pc ls st))
    (kk : Lw p e s m below meth c b g pc' lvl st' f cells slots) : Lw p e s m below meth c b g pc lvl st f cells slots := by
  intro H locs hz hR hF hL ls hl
  have hB := C.2.2
  exact h H locs ls ⟨by omega, fun q h1 _ => hF q (by omega), fun q hq => by have := hL q hq; show s.heap.size ≤ q.base; omega⟩ hl (kk H locs hz hR hF hL ls hl)
theorem lq_arg {i j : Nat} {ji : Int} (C : LC p s m meth c b L xs g) (hd0 : decode code pc = .ok (.aload_n 0, 1)) (hd1 : decode code (pc + 1) = .ok (.iload_n 3, 1)) (hd2 : decode code (pc + 2) = .ok (.iconst ji, 1)) (hj : Int32.ofInt ji = nI j) (hd3 : decode code (pc + 3) = .ok (.iadd, 1)) (hd4 : decode code (pc + 4) = .ok (.iaload, 1)) (hi : i + j < L) (hL : L ≤ 2048)
    (kk : Lw p e s m below meth c b g (pc + 5) (LL b g.2.2.2 (nI i)) (.int (xs (i + j)) :: st) f cells slots) : Lw p e s m below meth c b g pc (LL b g.2.2.2 (nI i)) st f cells slots := by
  obtain ⟨hx, hb, hr0, hml, hown, hts, hX, hbl, hlocks, hgv⟩ := id C.1
  refine Lw.go C (fun H locs ls hS hl w => ?_) kk
  refine lv_aload_n hx hb hd0 rfl (lv_at hl 0 rfl) ?_
  refine lv_iload_n hx hb hd1 rfl (lv_at hl 3 rfl) ?_
  refine lv_iconst (v := nI j) hx hb hd2 hj ?_
  refine lv_iadd hx hb hd3 ?_
  rw [nI_add]
  refine va_sld hx hb hX hbl (Nat.not_le.mpr hbl) hS (vp_in_nI hi (by omega)) hd4 ?_
  rw [nI_clamp (by omega)]
  exact w
theorem lq_x {i : Int32} (C : LC p s m meth c b L xs g) (hd : decode code pc = .ok (.aload_n 1, 1)) (kk : Lw p e s m below meth c b g (pc + 1) (LL b g.2.2.2 i) (.ref (g.2.2.2 + 0) :: st) f cells slots) : Lw p e s m below meth c b g pc (LL b g.2.2.2 i) st f cells slots :=
  Lw.go C (fun H locs ls hS hl w => lv_aload_n C.1.1 C.1.2.1 hd rfl (lv_at hl 1 rfl) w) kk
theorem lq_m {i : Int32} (C : LC p s m meth c b L xs g) (hd : decode code pc = .ok (.aload_n 2, 1)) (kk : Lw p e s m below meth c b g (pc + 1) (LL b g.2.2.2 i) (.ref (g.2.2.2 + 75) :: st) f cells slots) : Lw p e s m below meth c b g pc (LL b g.2.2.2 i) st f cells slots :=
  Lw.go C (fun H locs ls hS hl w => lv_aload_n C.1.1 C.1.2.1 hd rfl (lv_at hl 2 rfl) w) kk
theorem lq_eq {x : Int32} {off : Int} {tgt : Nat} (C : LC p s m meth c b L xs g) (hd : decode code pc = .ok (.if_icmp .eq off, 3)) (ht : (pc : Int) + off = (tgt : Int)) (kk : Lw p e s m below meth c b g tgt lvl st f cells slots) : Lw p e s m below meth c b g pc lvl (.int x :: .int x :: st) f cells slots :=
  Lw.go C (fun H locs ls hS hl w => lv_icmp_eq C.1.1 C.1.2.1 hd ht (fun _ => w) (fun q => absurd rfl q)) kk
theorem lq_after (C : LC p s m meth c b L xs g) {k1 n1 : Nat} {H : Heap} {locs : List Loc} (hz : H.size = s.heap.size + cells) (hF : ∀ q, q < g.2.2.2 → H[q]? = s.heap[q]?) (hL : ∀ q ∈ locs, g.2.2.2 ≤ q.base) {ls : Array Slot} (hl : lv_has ls 4 lvl) {st0 rest : List Value} {a : Array Value} {Q1 : Option Value → Mm → Prop}
    (run : va_Run p g.1 e room_1 s m #[Value.ref b] below meth c H locs cells slots k1 n1 (F0 m pc ls st0) rest (Qo g k1 Q1 a) (fun q => g.2.2.2 ≤ q))
    (kk : ∀ r f1, Q1 r f1 → Lw p e s m below meth c b g (pc + 3) lvl ((r.map (tV g.2.2.2)).toList ++ rest) f1 (cells + k1) (slots + n1)) : W p g.1 e room_1 s m #[Value.ref b] below meth c H locs cells slots (lw_Z below #[Value.ref b] s) (F0 m pc ls st0) := by
  intro T hT X
  obtain ⟨v, st₀, t, T', Lo, h0, X', hL1, e1, e2, ⟨r, f1, hv, hQ, hrp, hsz, hfr⟩, go⟩ := run T hT X
  have hv' : v = r.map (tV g.2.2.2) := by injection hv
  subst hv'
  have hw := kk r f1 hQ T'.heap (locs ++ Lo) (by rw [e1, hsz, h0, hz]; omega) (by rw [e1]; exact hrp) (fun q hq => by rw [e1, hfr q hq, h0]; exact hF q hq)
    (fun q hq => by
      rcases List.mem_append.mp hq with h | h
      · exact hL q h
      · exact hL1 q h) ls hl T' rfl X'
  obtain ⟨t2, a1, b1⟩ := hw
  exact ⟨t2, go t2 a1, b1⟩
theorem lq_callV {Mj : MD} {idx np ci q : Nat} {as rest : List Value} {fs : List Value} {Q1 : Option Value → Mm → Prop} (C : LC p s m meth c b L xs g) (hd : decode code pc = .ok (.invokevirtual idx, 3)) (hm : mVl RL idx Mj np ci) (hr : Mj.2.2.2.2.1 + 1 ≤ 10 ∧ 8 + (Mj.2.2.1 + 11) + Mj.2.2.2.2.2 ≤ 378)
    (hc : Ct g Mj (.ref q :: as) f 0 0 Q1) (ho : f q = some (.inr (ci, fs))) (hst : st = (as.map (tV g.2.2.2)).reverse ++ .ref (g.2.2.2 + q) :: rest) (hlen : as.length = np) (hcat : (rest.map fun v => v.category).sum ≤ 8) (hcl : cells ≤ 600000) (hsl : slots ≤ 7302250)
    (kk : ∀ r f1, Q1 r f1 → Lw p e s m below meth c b g (pc + 3) lvl ((r.map (tV g.2.2.2)).toList ++ rest) f1 cells slots) : Lw p e s m below meth c b g pc lvl st f cells slots := by
  intro H locs hz hR hF hL ls hl
  subst hst
  obtain ⟨hlk, hok, hin, hsel, T, N, hci⟩ := hm
  obtain ⟨hx, hb, hr0, hml, hown, hts, hX, hbl, hlocks, hgv⟩ := id C.1
  have hg := C.hg
  have hK := C.2.1
  have hR' := hR
  obtain ⟨z, hz0, hn, hP⟩ := hR
  have hq := rp_lt hn ho
  have hpre : PreV s H Mj.1.cls (g.2.2.2 + q) (Pcx g (.ref q :: as) f) (as.map (tV g.2.2.2)) :=
    ⟨Pcx.blind, va_recv hK.1 hP hci (cx_get hq ho), fun U hU hW => ⟨rfl, by rw [hU]; exact hR', Kx.warm hW hK⟩⟩
  have hroom : 2 * (F0 m pc ls ((as.map (tV g.2.2.2)).reverse ++ .ref (g.2.2.2 + q) :: rest)).monitorRoom + (rest.map fun v => v.category).sum ≤ 8 := lv_room hcat
  have hcells : cells + 0 ≤ room_1.cells ∧ slots + 0 ≤ room_1.slots := ⟨hcl, hsl⟩
  rcases hlk with hlk | ⟨host, hlk⟩
  · have cw : CallW room_1 s #[Value.ref b] RL Mj.1.cls idx Mj.1 Mj.2.1 Mj.2.2.1 Mj.2.2.2.1 (Cond.code Mj.1 Mj.2.1 Mj.2.2.1 Mj.2.2.2.1 :: gt) (rmM Mj 0 0) 0 0 np :=
      ⟨callB_of np hg (gt_good hok) rfl rfl rfl (hg _ hok.2.1) (hg _ hlk) ⟨hok.2.2.1, hok.2.2.2.1, hok.2.2.2.2.1⟩ hr, hg _ hin, hg _ hsel⟩
    exact lq_after C hz hF hL hl (va_runV (As := as.map (tV g.2.2.2)) (rest := rest) ⟨hx, hb, hml, hown, hg⟩ hc cw hpre rfl (by simpa using hlen) hl.1 rfl hroom hd hcells) kk
  · have cw := va_cnB (R := room_1) (rm := rmM Mj 0 0) (mc := 0) (ms := 0) np hg (gt_good hok) rfl rfl rfl (va_Nw.use rfl (hK.2.1 _ hlk)) (hg _ hok.2.1) ⟨hok.2.2.1, hok.2.2.2.1, hok.2.2.2.2.1⟩ hr
    exact lq_after C hz hF hL hl (va_runVN (As := as.map (tV g.2.2.2)) (rest := rest) ⟨hx, hb, hml, hown, hg⟩ hc ⟨cw, hg _ hin, hg _ hsel⟩ hpre rfl (by simpa using hlen) hl.1 rfl hroom hd hcells) kk
theorem lq_callI {Mj : MD} {idx np q k1 n1 : Nat} {as rest : List Value} {Q1 : Option Value → Mm → Prop} (C : LC p s m meth c b L xs g) (hd : decode code pc = .ok (.invokespecial idx, 3)) (hm : mIl RL idx Mj np) (hr : Mj.2.2.2.2.1 + 1 ≤ 10 ∧ 8 + (Mj.2.2.1 + 11) + Mj.2.2.2.2.2 ≤ 378)
    (hc : Ct g Mj (.ref q :: as) f k1 n1 Q1) (hst : st = (as.map (tV g.2.2.2)).reverse ++ .ref (g.2.2.2 + q) :: rest) (hlen : as.length = np) (hcat : (rest.map fun v => v.category).sum ≤ 8) (hcl : cells + k1 ≤ 600000) (hsl : slots + n1 ≤ 7302250)
    (kk : ∀ r f1, Q1 r f1 → Lw p e s m below meth c b g (pc + 3) lvl ((r.map (tV g.2.2.2)).toList ++ rest) f1 (cells + k1) (slots + n1)) : Lw p e s m below meth c b g pc lvl st f cells slots := by
  intro H locs hz hR hF hL ls hl
  subst hst
  obtain ⟨hlk, hok, hin, hname, hret⟩ := hm
  obtain ⟨hx, hb, hr0, hml, hown, hts, hX, hbl, hlocks, hgv⟩ := id C.1
  have hg := C.hg
  have hK := C.2.1
  have hpre : PreS s H (Pcx g (.ref q :: as) f) (.ref (g.2.2.2 + q) :: as.map (tV g.2.2.2)) := ⟨Pcx.blind, fun U hU hW => ⟨rfl, by rw [hU]; exact hR, Kx.warm hW hK⟩⟩
  have hroom : 2 * (F0 m pc ls ((as.map (tV g.2.2.2)).reverse ++ .ref (g.2.2.2 + q) :: rest)).monitorRoom + (rest.map fun v => v.category).sum ≤ 8 := lv_room hcat
  have hcells : cells + k1 ≤ room_1.cells ∧ slots + n1 ≤ room_1.slots := ⟨hcl, hsl⟩
  rcases hlk with hlk | ⟨host, hlk⟩
  · have cw : CallB room_1 s #[Value.ref b] RL idx Mj.1 Mj.2.1 Mj.2.2.1 none (Cond.code Mj.1 Mj.2.1 Mj.2.2.1 Mj.2.2.2.1 :: gt) (rmM Mj k1 n1) k1 n1 np :=
      callB_of np hg (gt_good hok) (by rw [hret]) rfl rfl (hg _ hok.2.1) (hg _ hlk) ⟨hok.2.2.1, hok.2.2.2.1, hok.2.2.2.2.1⟩ hr
    exact lq_after C hz hF hL hl (va_runI (As := as.map (tV g.2.2.2)) (rest := rest) ⟨hx, hb, hml, hown, hg⟩ hc ⟨cw, hname, hg _ hin⟩ hpre rfl (by simpa using hlen) hl.1 rfl hroom hd hcells) kk
  · have cw := va_cnB (R := room_1) (rm := rmM Mj k1 n1) (mc := k1) (ms := n1) (ret := none) np hg (gt_good hok) (by rw [hret]) rfl rfl (va_Nw.use rfl (hK.2.1 _ hlk)) (hg _ hok.2.1) ⟨hok.2.2.1, hok.2.2.2.1, hok.2.2.2.2.1⟩ hr
    exact lq_after C hz hF hL hl (va_runIN (As := as.map (tV g.2.2.2)) (rest := rest) ⟨hx, hb, hml, hown, hg⟩ hc ⟨cw, hname, hg _ hin⟩ hpre rfl (by simpa using hlen) hl.1 rfl hroom hd hcells) kk
theorem lq_new {idx ci z N : Nat} {Cn : String} {T : u_T} {fs : List Value} (C : LC p s m meth c b L xs g) (hd : decode code pc = .ok (.new idx, 3)) (hk : Cond.classLink RL idx Cn ∈ gt) (hi : Cond.instantiable Cn N ∈ gt) (hzi : Cond.initialized Cn ∈ gt) (hc : vwCl[ci]? = some (Cn, T, N)) (hin : ∀ w ∈ u_ws Cn T N, w ∈ gt) (ty : Nat → FieldType) (hty : ∀ k, k < N → parseFieldDescriptor (T k).2.2.1 = some (ty k)) (hfs : ∀ j, j < N → defaultValue (ty j) = vp_V fs j) (htv : ∀ b, fs.map (tV b) = fs)
    (hcl : cells + 1 ≤ 600000) (hsl : slots + N ≤ 7302250) (hfz : FZ f z) (kk : ∀ f1, FZ f1 (z + 1) → (∀ j, j ≠ z → f1 j = f j) → f1 z = some (.inr (ci, fs)) → Lw p e s m below meth c b g (pc + 3) lvl (.ref (g.2.2.2 + z) :: st) f1 (cells + 1) (slots + N)) : Lw p e s m below meth c b g pc lvl st f cells slots := by
  intro H locs hz1 hR hF hL ls hl
  obtain ⟨hx, hb, hr0, hml, hown, hts, hX, hbl, hlocks, hgv⟩ := id C.1
  have hg := C.hg
  have hK := C.2.1
  have hB := C.2.2
  obtain ⟨z0, hz0, hn, hP⟩ := hR
  have ez := fresh_at hn hfz.a hfz.b
  subst ez
  refine va_new (ci := ci) (fs := fs) (C := Cn) (T := T) (N := N) hx hb hg hin ty hty hown (hg _ hk) (hg _ hi) (hg _ hzi) hK.1 hP cx_D (va_S.start hL) (fun q hq => by show g.2.2.2 ≤ q; omega) hc hfs hcl hsl hd fun q H1 hP1 hD1 hS1 => W.bound fun hle => ?_
  obtain ⟨e1, e2⟩ := new_place hP1 hD1 (by omega)
  subst e1
  refine kk _ hfz.up (fun _ hj => up_ne hj) (up_same _ _ _) H1 locs (by omega) (rp_push hn e2 ?_) (fun q hq => ?_) hL ls hl
  · show va_P _ _ (_ ++ [(_, .inr (ci, fs.map (tV g.2.2.2)))]) _
    rw [htv]
    exact hP1
  · rw [hS1.2.1 q (by omega) (by show ¬ g.2.2.2 ≤ q; omega)]
    exact hF q hq
/-- both calls of a case -/
theorem lq_two {Mc Md : MD} {idx idx2 np : Nat} {as : List Value} {i : Int32} {pc2 : Nat} (C : LC p s m meth c b L xs g) (hJ : JI f) (ht : Jt g f Mc Md as) (hd : decode code pc = .ok (.invokevirtual idx, 3)) (hm : mVl RL idx Mc np 10) (hr : Mc.2.2.2.2.1 + 1 ≤ 10 ∧ 8 + (Mc.2.2.1 + 11) + Mc.2.2.2.2.2 ≤ 378)
    (hst : st = (as.map (tV g.2.2.2)).reverse ++ [.ref (g.2.2.2 + 0)]) (hlen : as.length = np) (hcl : cells ≤ 600000) (hsl : slots ≤ 7302250)
    (hd2 : decode code pc2 = .ok (.invokevirtual idx2, 3)) (hm2 : mVl RL idx2 Md np 11) (hr2 : Md.2.2.2.2.1 + 1 ≤ 10 ∧ 8 + (Md.2.2.1 + 11) + Md.2.2.2.2.2 ≤ 378)
    (mid : ∀ (v : Int32) f1, Lw p e s m below meth c b g pc2 (LL b g.2.2.2 i) ((as.map (tV g.2.2.2)).reverse ++ [.ref (g.2.2.2 + 75), .int v]) f1 cells slots → Lw p e s m below meth c b g (pc + 3) (LL b g.2.2.2 i) [.int v] f1 cells slots)
    (fin : ∀ (v : Int32) f2, JI f2 → Lw p e s m below meth c b g (pc2 + 3) (LL b g.2.2.2 i) [.int v, .int v] f2 cells slots) : Lw p e s m below meth c b g pc (LL b g.2.2.2 i) st f cells slots := by
  obtain ⟨fs, ho⟩ := hJ.o
  refine lq_callV C hd hm hr ht ho hst hlen (Nat.le_of_ble_eq_true rfl) hcl hsl ?_
  rintro r f1 ⟨v, rfl, ⟨fs2, ho2⟩, h2⟩
  refine mid v f1 ?_
  refine lq_callV C hd2 hm2 hr2 h2 ho2 rfl hlen (by show (Value.int v).category + 0 ≤ 8; exact Nat.le_of_ble_eq_true rfl) hcl hsl ?_
  rintro r' f2 ⟨rfl, hJ2⟩
  exact fin v f2 hJ2
end Law
theorem and31 (a : Int32) : ∃ k, k < 32 ∧ a &&& nI 31 = nI k := by
  refine ⟨(a &&& nI 31).toBitVec.toNat, ?_, ?_⟩
  · have h : (a &&& nI 31).toBitVec.toNat = a.toBitVec.toNat &&& 31 := by
      rw [Int32.toBitVec_and, BitVec.toNat_and]
      rfl
    rw [h]
    exact Nat.lt_of_le_of_lt Nat.and_le_right (by decide)
  · apply Int32.toBitVec_inj.mp
    show _ = (Int32.ofNat _).toBitVec
    rw [Int32.toBitVec_ofNat']
    simp
