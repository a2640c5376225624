-- THE FRAME: a judgement over a small memory (places instead of addresses), a row an instruction, out of the kit's rows
abbrev Ent : Type := (Nat × vp_A) ⊕ (Nat × List Value)
abbrev Mm : Type := Nat → Option Ent
abbrev GG : Type := Launch × va_G × (Nat → ClassId) × Nat
def tV (b : Nat) (v : Value) : Value := match v with
  | .ref a => .ref (b + a)
  | w => w
theorem tV_cat (b : Nat) (v : Value) : (tV b v).category = v.category := by cases v <;> rfl
def tA (b : Nat) (a : vp_A) : vp_A := (a.1, match a.2 with
  | .inl f => .inl f
  | .inr (.inl f) => .inr (.inl f)
  | .inr (.inr (.inl f)) => .inr (.inr (.inl f))
  | .inr (.inr (.inr (.inl f))) => .inr (.inr (.inr (.inl f)))
  | .inr (.inr (.inr (.inr f))) => .inr (.inr (.inr (.inr (fun j => (f j).map (fun q => b + q))))))
def tE (g : GG) (e : Ent) : va_E := match e with
  | .inl a => .inl (g.2.2.1 a.1, tA g.2.2.2 a.2)
  | .inr o => .inr (o.1, o.2.map (tV g.2.2.2))
def tysG (g : GG) : List (ClassId × FieldType) := [(g.2.2.1 0, .int), (g.2.2.1 1, .long), (g.2.2.1 2, .byte), (g.2.2.1 3, .boolean), (g.2.2.1 4, .object RX4)]
def cx (g : GG) (z : Nat) (f : Mm) : va_W := (List.range z).map (fun i => (g.2.2.2 + i, tE g ((f i).getD (.inr (0, [])))))
theorem cx_get {g : GG} {z q : Nat} {f : Mm} {e : Ent} (hq : q < z) (h : f q = some e) : (cx g z f)[q]? = some (g.2.2.2 + q, tE g e) := by
  simp [cx, hq, h]
theorem cx_any {g : GG} {z q : Nat} {f : Mm} {x : Nat × va_E} (h : (cx g z f)[q]? = some x) : q < z ∧ x.1 = g.2.2.2 + q := by
  have hq : q < z := by
    have := (List.getElem?_eq_some_iff.mp h).1
    simpa [cx] using this
  refine ⟨hq, ?_⟩
  simp [cx, hq] at h
  rw [← h]
theorem cx_set {g : GG} {z q : Nat} {f : Mm} {e : Ent} (hq : q < z) : (cx g z f).set q (g.2.2.2 + q, tE g e) = cx g z (va_up f q (some e)) := by
  apply List.ext_getElem?
  intro i
  by_cases hi : i = q
  · subst hi
    rw [List.getElem?_set_self (by simpa [cx] using hq)]
    rw [cx_get hq (e := e) (by simp [va_up])]
  · rw [List.getElem?_set_ne (Ne.symm hi)]
    by_cases hz : i < z
    · simp [cx, hz, va_up, hi]
    · simp [cx, hz]
theorem cx_push {g : GG} {z : Nat} {f : Mm} {e : Ent} : cx g z f ++ [(g.2.2.2 + z, tE g e)] = cx g (z + 1) (va_up f z (some e)) := by
  unfold cx
  rw [List.range_succ, List.map_append]
  congr 1
  · apply List.map_congr_left
    intro i hi
    have : i ≠ z := Nat.ne_of_lt (List.mem_range.mp hi)
    simp [va_up, this]
  · simp [va_up]
theorem cx_D {g : GG} {z : Nat} {f : Mm} : va_D (fun q => g.2.2.2 ≤ q) (cx g z f) := by
  refine ⟨fun i j p q hp hq h => ?_, fun k q hq => ?_⟩
  · have h1 := (cx_any hp).2
    have h2 := (cx_any hq).2
    omega
  · have h1 := (cx_any hq).2
    show g.2.2.2 ≤ q.1
    omega
/-- the heap holds the memory f, from the base on, and nothing else there -/
def rp (g : GG) (f : Mm) (H : Heap) : Prop := ∃ z, H.size = g.2.2.2 + z ∧ (∀ q, f q = none ↔ z ≤ q) ∧ va_P g.2.1 vwCl (cx g z f) H
theorem rp_lt {f : Mm} {z q : Nat} {e : Ent} (hn : ∀ q, f q = none ↔ z ≤ q) (h : f q = some e) : q < z := by
  rcases Nat.lt_or_ge q z with a | a
  · exact a
  · rw [(hn q).mpr a] at h; cases h
theorem rp_up {f : Mm} {z q : Nat} {e : Ent} (hn : ∀ q, f q = none ↔ z ≤ q) (hq : q < z) : ∀ j, va_up f q (some e) j = none ↔ z ≤ j := by
  intro j
  by_cases hj : j = q
  · subst hj
    simp [va_up]
    omega
  · simp [va_up, hj, hn j]
/-- the tables, as every method needs them -/
def Kx (g : GG) (U : State) : Prop := va_K g.2.1 vwCl (tysG g) U ∧ (∀ w ∈ nt, va_Nw w U) ∧ va_AO RX4 U
theorem nt_nest {w : Cond} (h : w ∈ nt) : isNest w = true := (List.mem_filter.mp h).2
theorem Kx.warm {g : GG} {s U : State} (hW : s.WarmedH U.vm) (h : Kx g s) : Kx g U := by
  refine ⟨va_K.moved hW.alike h.1, fun w hw => ?_, va_AO.moved hW.alike h.2.2⟩
  have h1 := nt_nest hw
  have h2 := h.2.1 w hw
  unfold isNest at h1
  split at h1
  · exact va_Nw.warmF hW h2
  · exact va_Nw.warmM hW h2
  · cases h1
theorem Kx.same {g : GG} {s U : State} (hv : s.vm = U.vm) (h : Kx g s) : Kx g U := by
  have hal : s.vm.Alike U.vm := by rw [hv]; exact Vm.Alike.refl _
  refine ⟨va_K.moved hal h.1, fun w hw => ?_, va_AO.moved hal h.2.2⟩
  have h1 := nt_nest hw
  refine va_Nw.same ?_ hv (h.2.1 w hw)
  unfold isNest at h1
  split at h1
  · rfl
  · rfl
  · cases h1
def Cx (g : GG) (M : MD) (p : Program) (s : State) (m : MethodId) (args : Array Value) (meth : Method) (c : Code) : Prop :=
  p.tables.exec = Jvm.exec ∧ c.code = M.2.1 ∧ meth.sig.returnType = M.2.2.2.1 ∧ c.maxLocals = M.2.2.1 ∧ s.vm.findClass M.1.cls = some m.cls ∧ (∀ w ∈ gt, w.before args s = true) ∧ meth.locks = false ∧ meth.name = M.1.name ∧ Kx g s ∧ g.2.2.2 ≤ s.heap.size
def rmM (M : MD) (K N : Nat) : Room := { frames := M.2.2.2.2.1, cells := K, slots := N, locals := M.2.2.2.2.2 }
def Qo (g : GG) (K : Nat) (Q : Option Value → Mm → Prop) : Array Value → State → Outcome → State → Prop := fun _ st o t =>
  ∃ (r : Option Value) (f : Mm), o = .returned (r.map (tV g.2.2.2)) ∧ Q r f ∧ rp g f t.heap ∧ t.heap.size = st.heap.size + K ∧ ∀ q, q < g.2.2.2 → t.heap[q]? = st.heap[q]?
/-- the locals by their slots -/
def lg : List (Option Value) → Nat → Option Value
  | [], _ => none
  | a :: _, 0 => a
  | _ :: l, i + 1 => lg l i
theorem lg_lt : ∀ {l : List (Option Value)} {i : Nat} {v : Value}, lg l i = some v → i < l.length
  | [], _, _, h => by simp [lg] at h
  | _ :: _, 0, _, _ => by simp
  | _ :: l, i + 1, v, h => by
    have := lg_lt (l := l) (i := i) (v := v) (by simpa [lg] using h)
    simpa using this
theorem lg_set : ∀ (l : List (Option Value)) (i : Nat) (a : Option Value) (j : Nat), lg (l.set i a) j = if j = i ∧ i < l.length then a else lg l j
  | [], i, a, j => by simp [lg]
  | b :: l, 0, a, 0 => by simp [lg]
  | b :: l, 0, a, j + 1 => by simp [lg]
  | b :: l, i + 1, a, 0 => by simp [lg]
  | b :: l, i + 1, a, j + 1 => by
    simp only [List.set_cons_succ, lg, lg_set l i a j, List.length_cons, Nat.add_lt_add_iff_right, Nat.add_right_cancel_iff]
def nlb (l : List (Option Value)) (i : Nat) : Bool := match i with
  | 0 => true
  | j + 1 => match lg l j with
    | some w => w.category != 2
    | none => true
theorem nlb_of {l : List (Option Value)} {i j : Nat} {w : Value} (h : nlb l i = true) (hj : j + 1 = i) (hw : lg l j = some w) : ¬ w.category = 2 := by
  subst hj
  simpa [nlb, hw] using h
def lh (g : GG) (ls : Array Slot) (nL : Nat) (lv : List (Option Value)) : Prop := ls.size = nL ∧ lv_wf ls ∧ ∀ (i : Nat) (v : Value), lg lv i = some v → ls[i]? = some (.val (tV g.2.2.2 v))
def lpr (b : Nat) (lv : List (Option Value)) : List (Nat × Value) := (List.range lv.length).filterMap (fun i => (lg lv i).map (fun v => (i, tV b v)))
theorem lpr_mem {b : Nat} {lv : List (Option Value)} {i : Nat} {v : Value} (h : lg lv i = some v) : (i, tV b v) ∈ lpr b lv :=
  List.mem_filterMap.mpr ⟨i, List.mem_range.mpr (lg_lt h), by rw [h]; rfl⟩
theorem lh.has {g : GG} {ls : Array Slot} {nL : Nat} {lv : List (Option Value)} (h : lh g ls nL lv) : lv_has ls nL (lpr g.2.2.2 lv) := by
  refine ⟨h.1, h.2.1, fun q hq => ?_⟩
  obtain ⟨i, -, hi⟩ := List.mem_filterMap.mp hq
  cases hv : lg lv i with
  | none => rw [hv] at hi; cases hi
  | some v =>
    rw [hv] at hi
    cases hi
    exact h.2.2 i v hv
theorem lh.sub {g : GG} {ls : Array Slot} {nL : Nat} {lv lv' : List (Option Value)} (h : lh g ls nL lv) (hs : ∀ (i : Nat) (v : Value), lg lv' i = some v → lg lv i = some v) : lh g ls nL lv' := ⟨h.1, h.2.1, fun i v hv => h.2.2 i v (hs i v hv)⟩
theorem lh.st1 {g : GG} {ls : Array Slot} {nL : Nat} {lv : List (Option Value)} {i : Nat} {x : Value} (hn : nlb lv i = true)
    (h : lv_has ls nL ((i, tV g.2.2.2 x) :: (lpr g.2.2.2 lv).filter (fun q => !(q.1 == i) && !(q.1 + 1 == i && q.2.category == 2)))) : lh g ls nL (lv.set i (some x)) := by
  refine ⟨h.1, h.2.1, fun j v hv => ?_⟩
  rw [lg_set] at hv
  split at hv
  · rename_i hc
    cases hv
    rw [hc.1]
    exact h.2.2 (i, tV g.2.2.2 x) List.mem_cons_self
  · rename_i hc
    by_cases hji : j = i
    · subst hji
      exact absurd ⟨rfl, lg_lt hv⟩ hc
    · refine h.2.2 (j, tV g.2.2.2 v) (List.mem_cons_of_mem _ (List.mem_filter.mpr ⟨lpr_mem hv, ?_⟩))
      simp only [Bool.and_eq_true, Bool.not_eq_true', beq_eq_false_iff_ne, ne_eq, Bool.and_eq_false_iff]
      refine ⟨hji, ?_⟩
      by_cases hj : j + 1 = i
      · exact Or.inr (by rw [tV_cat]; exact nlb_of hn hj hv)
      · exact Or.inl hj
theorem lh.st2 {g : GG} {ls : Array Slot} {nL : Nat} {lv : List (Option Value)} {i : Nat} {x : Value} (hn : nlb lv i = true)
    (h : lv_has ls nL ((i, tV g.2.2.2 x) :: (lpr g.2.2.2 lv).filter (fun q => !(q.1 == i) && (!(q.1 == i + 1) && !(q.1 + 1 == i && q.2.category == 2))))) : lh g ls nL ((lv.set i (some x)).set (i + 1) none) := by
  refine ⟨h.1, h.2.1, fun j v hv => ?_⟩
  rw [lg_set] at hv
  split at hv
  · cases hv
  · rename_i hc1
    rw [lg_set] at hv
    split at hv
    · rename_i hc
      cases hv
      rw [hc.1]
      exact h.2.2 (i, tV g.2.2.2 x) List.mem_cons_self
    · rename_i hc
      by_cases hji : j = i
      · subst hji
        exact absurd ⟨rfl, lg_lt hv⟩ hc
      · by_cases hj1 : j = i + 1
        · subst hj1
          exact absurd ⟨rfl, by rw [List.length_set]; exact lg_lt hv⟩ hc1
        · refine h.2.2 (j, tV g.2.2.2 v) (List.mem_cons_of_mem _ (List.mem_filter.mpr ⟨lpr_mem hv, ?_⟩))
          simp only [Bool.and_eq_true, Bool.not_eq_true', beq_eq_false_iff_ne, ne_eq, Bool.and_eq_false_iff]
          refine ⟨hji, hj1, ?_⟩
          by_cases hj : j + 1 = i
          · exact Or.inr (by rw [tV_cat]; exact nlb_of hn hj hv)
          · exact Or.inl hj
/-- THE JUDGEMENT: at pc, with the locals lv, the stack st and the memory f, the method comes to its end with Q; k cells (n slots) come on the way -/
def Wp (g : GG) (M : MD) (pc : Nat) (lv : List (Option Value)) (st : List Value) (f : Mm) (k n : Nat) (Q : Option Value → Mm → Prop) : Prop :=
  ∀ (p : Program) (e : Env) (s : State) (m : MethodId) (args : Array Value) (below : List Frame) (meth : Method) (c : Code), Cx g M p s m args meth c →
  ∀ (K0 N0 cells slots : Nat), cells + k = K0 → slots + n ≤ N0 → ∀ (H : Heap) (locs : List Loc), H.size = s.heap.size + cells → rp g f H → (∀ q, q < g.2.2.2 → H[q]? = s.heap[q]?) → (∀ q ∈ locs, g.2.2.2 ≤ q.base) → ∀ ls : Array Slot, lh g ls M.2.2.1 lv →
  W p g.1 e (rmM M K0 N0) s m args below meth c H locs cells slots (MQ below (Qo g K0 Q) args s K0 N0 (fun q => g.2.2.2 ≤ q)) (F0 m pc ls (st.map (tV g.2.2.2)))
/-- a method's contract -/
def Pcx (g : GG) (as : List Value) (f : Mm) : Array Value → State → Prop := fun a U => a = (as.map (tV g.2.2.2)).toArray ∧ rp g f U.heap ∧ Kx g U
def Ct (g : GG) (M : MD) (as : List Value) (f : Mm) (k n : Nat) (Q : Option Value → Mm → Prop) : Prop :=
  Met g.1 M.1 (Cond.code M.1 M.2.1 M.2.2.1 M.2.2.2.1 :: gt) (rmM M k n) (Pcx g as f) (Qo g k Q) k n (fun q => g.2.2.2 ≤ q)
theorem W.bound {p : Program} {l : Launch} {e : Env} {R : Room} {s : State} {m : MethodId} {args : Array Value} {below : List Frame} {meth : Method} {c : Code} {H : Heap} {locs : List Loc} {cells slots : Nat} {Q : State → Prop} {g : JFrame}
    (h : H.size ≤ s.heap.size + cells → W p l e R s m args below meth c H locs cells slots Q g) : W p l e R s m args below meth c H locs cells slots Q g :=
  fun T hT X => h (by rw [← hT]; exact X.heapSize) T hT X
section Rows
variable {g : GG} {M : MD} {pc : Nat} {lv : List (Option Value)} {st : List Value} {f : Mm} {k n : Nat} {Q : Option Value → Mm → Prop}
/-- instructions that leave heap and locals as they are -/
theorem Wp.go {pc' : Nat} {st' : List Value} (h : ∀ (p : Program) (e : Env) (s : State) (m : MethodId) (args : Array Value) (below : List Frame) (meth : Method) (c : Code), Cx g M p s m args meth c → ∀ (R : Room) (H : Heap) (locs : List Loc) (cells slots : Nat) (QQ : State → Prop) (ls : Array Slot), rp g f H → lh g ls M.2.2.1 lv →
      W p g.1 e R s m args below meth c H locs cells slots QQ (F0 m pc' ls (st'.map (tV g.2.2.2))) → W p g.1 e R s m args below meth c H locs cells slots QQ (F0 m pc ls (st.map (tV g.2.2.2))))
    (kk : Wp g M pc' lv st' f k n Q) : Wp g M pc lv st f k n Q := by
  intro p e s m args below meth c C K0 N0 cells slots h1 h2 H locs hz hR hF hL ls hl
  exact h p e s m args below meth c C _ H locs cells slots _ ls hR hl (kk p e s m args below meth c C K0 N0 cells slots h1 h2 H locs hz hR hF hL ls hl)
/-- fewer locals -/
theorem Wp.sub {lv' : List (Option Value)} (hs : ∀ (i : Nat) (v : Value), lg lv' i = some v → lg lv i = some v) (kk : Wp g M pc lv' st f k n Q) : Wp g M pc lv st f k n Q := by
  intro p e s m args below meth c C K0 N0 cells slots h1 h2 H locs hz hR hF hL ls hl
  exact kk p e s m args below meth c C K0 N0 cells slots h1 h2 H locs hz hR hF hL ls (hl.sub hs)
theorem Wp.mono {Q' : Option Value → Mm → Prop} (hq : ∀ r f', Q' r f' → Q r f') (kk : Wp g M pc lv st f k n Q') : Wp g M pc lv st f k n Q := by
  intro p e s m args below meth c C K0 N0 cells slots h1 h2 H locs hz hR hF hL ls hl T hT X
  obtain ⟨t, a, o, b1, b2, ⟨r, f', c1, c2, c3⟩, b4⟩ := kk p e s m args below meth c C K0 N0 cells slots h1 h2 H locs hz hR hF hL ls hl T hT X
  exact ⟨t, a, o, b1, b2, ⟨r, f', c1, hq r f' c2, c3⟩, b4⟩
theorem rn_iconst {i : Int} {v : Int32} (hd : decode M.2.1 pc = .ok (.iconst i, 1)) (hv : Int32.ofInt i = v) (kk : Wp g M (pc + 1) lv (.int v :: st) f k n Q) : Wp g M pc lv (st) f k n Q :=
  Wp.go (fun p e s m args below meth c C R H locs cells slots QQ ls hR hl => lv_iconst C.1 C.2.1 hd hv) kk
theorem rn_bipush {i : Int} {v : Int32} (hd : decode M.2.1 pc = .ok (.bipush i, 2)) (hv : (Int8.ofInt i).toInt32 = v) (kk : Wp g M (pc + 2) lv (.int v :: st) f k n Q) : Wp g M pc lv (st) f k n Q :=
  Wp.go (fun p e s m args below meth c C R H locs cells slots QQ ls hR hl => lv_bipush C.1 C.2.1 hd hv) kk
theorem rn_sipush {i : Int} {v : Int32} (hd : decode M.2.1 pc = .ok (.sipush i, 3)) (hv : (Int16.ofInt i).toInt32 = v) (kk : Wp g M (pc + 3) lv (.int v :: st) f k n Q) : Wp g M pc lv (st) f k n Q :=
  Wp.go (fun p e s m args below meth c C R H locs cells slots QQ ls hR hl => lv_sipush C.1 C.2.1 hd hv) kk
theorem rn_lconst {i : Fin 2} {v : Int64} (hd : decode M.2.1 pc = .ok (.lconst i, 1)) (hv : Int64.ofNat (i : Nat) = v) (kk : Wp g M (pc + 1) lv (.long v :: st) f k n Q) : Wp g M pc lv (st) f k n Q :=
  Wp.go (fun p e s m args below meth c C R H locs cells slots QQ ls hR hl => lv_lconst C.1 C.2.1 hd hv) kk
theorem rn_ldc {i : Nat} {v : Int32} (hd : decode M.2.1 pc = .ok (.ldc i, 2)) (hc : Cond.constant M.1.cls i v ∈ gt) (kk : Wp g M (pc + 2) lv (.int v :: st) f k n Q) : Wp g M pc lv (st) f k n Q :=
  Wp.go (fun p e s m args below meth c C R H locs cells slots QQ ls hR hl => lv_ldc C.1 C.2.1 C.2.2.2.2.1 (C.2.2.2.2.2.1 _ hc) hd) kk
theorem rn_ldcw {i : Nat} {v : Int32} (hd : decode M.2.1 pc = .ok (.ldc_w i, 3)) (hc : Cond.constant M.1.cls i v ∈ gt) (kk : Wp g M (pc + 3) lv (.int v :: st) f k n Q) : Wp g M pc lv (st) f k n Q :=
  Wp.go (fun p e s m args below meth c C R H locs cells slots QQ ls hR hl => lv_ldcw C.1 C.2.1 C.2.2.2.2.1 (C.2.2.2.2.2.1 _ hc) hd) kk
theorem rn_ldc2 {i : Nat} {v : Int64} (hd : decode M.2.1 pc = .ok (.ldc2_w i, 3)) (hc : Cond.constantLong M.1.cls i v ∈ gt) (kk : Wp g M (pc + 3) lv (.long v :: st) f k n Q) : Wp g M pc lv (st) f k n Q :=
  Wp.go (fun p e s m args below meth c C R H locs cells slots QQ ls hR hl => lv_ldc2 C.1 C.2.1 C.2.2.2.2.1 (C.2.2.2.2.2.1 _ hc) hd) kk
theorem rn_null  (hd : decode M.2.1 pc = .ok (.aconst_null, 1))  (kk : Wp g M (pc + 1) lv (.null :: st) f k n Q) : Wp g M pc lv (st) f k n Q :=
  Wp.go (fun p e s m args below meth c C R H locs cells slots QQ ls hR hl => lv_null C.1 C.2.1 hd) kk
theorem rn_iload_n {i : Fin 4} {x : Int32} (hd : decode M.2.1 pc = .ok (.iload_n i, 1)) (hv : lg lv (i : Nat) = some (.int x)) (kk : Wp g M (pc + 1) lv (.int x :: st) f k n Q) : Wp g M pc lv (st) f k n Q :=
  Wp.go (fun p e s m args below meth c C R H locs cells slots QQ ls hR hl => lv_iload_n C.1 C.2.1 hd rfl (hl.2.2 _ _ hv)) kk
theorem rn_iload {i : Nat} {x : Int32} (hd : decode M.2.1 pc = .ok (.iload i, 2)) (hv : lg lv i = some (.int x)) (kk : Wp g M (pc + 2) lv (.int x :: st) f k n Q) : Wp g M pc lv (st) f k n Q :=
  Wp.go (fun p e s m args below meth c C R H locs cells slots QQ ls hR hl => lv_iload C.1 C.2.1 hd (hl.2.2 _ _ hv)) kk
theorem rn_lload_n {i : Fin 4} {x : Int64} (hd : decode M.2.1 pc = .ok (.lload_n i, 1)) (hv : lg lv (i : Nat) = some (.long x)) (kk : Wp g M (pc + 1) lv (.long x :: st) f k n Q) : Wp g M pc lv (st) f k n Q :=
  Wp.go (fun p e s m args below meth c C R H locs cells slots QQ ls hR hl => lv_lload_n C.1 C.2.1 hd rfl (hl.2.2 _ _ hv)) kk
theorem rn_lload {i : Nat} {x : Int64} (hd : decode M.2.1 pc = .ok (.lload i, 2)) (hv : lg lv i = some (.long x)) (kk : Wp g M (pc + 2) lv (.long x :: st) f k n Q) : Wp g M pc lv (st) f k n Q :=
  Wp.go (fun p e s m args below meth c C R H locs cells slots QQ ls hR hl => lv_lload C.1 C.2.1 hd (hl.2.2 _ _ hv)) kk
theorem rn_aload_n {i : Fin 4} {x : Nat} (hd : decode M.2.1 pc = .ok (.aload_n i, 1)) (hv : lg lv (i : Nat) = some (.ref x)) (kk : Wp g M (pc + 1) lv (.ref x :: st) f k n Q) : Wp g M pc lv (st) f k n Q :=
  Wp.go (fun p e s m args below meth c C R H locs cells slots QQ ls hR hl => lv_aload_n C.1 C.2.1 hd rfl (hl.2.2 _ _ hv)) kk
theorem rn_aload {i : Nat} {x : Nat} (hd : decode M.2.1 pc = .ok (.aload i, 2)) (hv : lg lv i = some (.ref x)) (kk : Wp g M (pc + 2) lv (.ref x :: st) f k n Q) : Wp g M pc lv (st) f k n Q :=
  Wp.go (fun p e s m args below meth c C R H locs cells slots QQ ls hR hl => lv_aload C.1 C.2.1 hd (hl.2.2 _ _ hv)) kk
theorem rn_iadd {x : Int32} {y : Int32} (hd : decode M.2.1 pc = .ok (.iadd, 1))  (kk : Wp g M (pc + 1) lv (.int (x + y) :: st) f k n Q) : Wp g M pc lv (.int y :: .int x :: st) f k n Q :=
  Wp.go (fun p e s m args below meth c C R H locs cells slots QQ ls hR hl => lv_iadd C.1 C.2.1 hd) kk
theorem rn_isub {x : Int32} {y : Int32} (hd : decode M.2.1 pc = .ok (.isub, 1))  (kk : Wp g M (pc + 1) lv (.int (x - y) :: st) f k n Q) : Wp g M pc lv (.int y :: .int x :: st) f k n Q :=
  Wp.go (fun p e s m args below meth c C R H locs cells slots QQ ls hR hl => lv_isub C.1 C.2.1 hd) kk
theorem rn_imul {x : Int32} {y : Int32} (hd : decode M.2.1 pc = .ok (.imul, 1))  (kk : Wp g M (pc + 1) lv (.int (x * y) :: st) f k n Q) : Wp g M pc lv (.int y :: .int x :: st) f k n Q :=
  Wp.go (fun p e s m args below meth c C R H locs cells slots QQ ls hR hl => lv_imul C.1 C.2.1 hd) kk
theorem rn_iand {x : Int32} {y : Int32} (hd : decode M.2.1 pc = .ok (.iand, 1))  (kk : Wp g M (pc + 1) lv (.int (x &&& y) :: st) f k n Q) : Wp g M pc lv (.int y :: .int x :: st) f k n Q :=
  Wp.go (fun p e s m args below meth c C R H locs cells slots QQ ls hR hl => lv_iand C.1 C.2.1 hd) kk
theorem rn_ior {x : Int32} {y : Int32} (hd : decode M.2.1 pc = .ok (.ior, 1))  (kk : Wp g M (pc + 1) lv (.int (x ||| y) :: st) f k n Q) : Wp g M pc lv (.int y :: .int x :: st) f k n Q :=
  Wp.go (fun p e s m args below meth c C R H locs cells slots QQ ls hR hl => lv_ior C.1 C.2.1 hd) kk
theorem rn_ixor {x : Int32} {y : Int32} (hd : decode M.2.1 pc = .ok (.ixor, 1))  (kk : Wp g M (pc + 1) lv (.int (x ^^^ y) :: st) f k n Q) : Wp g M pc lv (.int y :: .int x :: st) f k n Q :=
  Wp.go (fun p e s m args below meth c C R H locs cells slots QQ ls hR hl => lv_ixor C.1 C.2.1 hd) kk
theorem rn_idiv {x : Int32} {y : Int32} (hd : decode M.2.1 pc = .ok (.idiv, 1)) (hne : ¬ y = 0) (kk : Wp g M (pc + 1) lv (.int (x / y) :: st) f k n Q) : Wp g M pc lv (.int y :: .int x :: st) f k n Q :=
  Wp.go (fun p e s m args below meth c C R H locs cells slots QQ ls hR hl => lv_idiv C.1 C.2.1 hd hne) kk
theorem rn_irem {x : Int32} {y : Int32} (hd : decode M.2.1 pc = .ok (.irem, 1)) (hne : ¬ y = 0) (kk : Wp g M (pc + 1) lv (.int (x - x / y * y) :: st) f k n Q) : Wp g M pc lv (.int y :: .int x :: st) f k n Q :=
  Wp.go (fun p e s m args below meth c C R H locs cells slots QQ ls hR hl => lv_irem C.1 C.2.1 hd hne) kk
theorem rn_ishl {x : Int32} {y : Int32} (hd : decode M.2.1 pc = .ok (.ishl, 1))  (kk : Wp g M (pc + 1) lv (.int (x <<< (y &&& 31)) :: st) f k n Q) : Wp g M pc lv (.int y :: .int x :: st) f k n Q :=
  Wp.go (fun p e s m args below meth c C R H locs cells slots QQ ls hR hl => lv_ishl C.1 C.2.1 hd) kk
theorem rn_ishr {x : Int32} {y : Int32} (hd : decode M.2.1 pc = .ok (.ishr, 1))  (kk : Wp g M (pc + 1) lv (.int (x >>> (y &&& 31)) :: st) f k n Q) : Wp g M pc lv (.int y :: .int x :: st) f k n Q :=
  Wp.go (fun p e s m args below meth c C R H locs cells slots QQ ls hR hl => lv_ishr C.1 C.2.1 hd) kk
theorem rn_iushr {x : Int32} {y : Int32} (hd : decode M.2.1 pc = .ok (.iushr, 1))  (kk : Wp g M (pc + 1) lv (.int ((x.toUInt32 >>> (y.toUInt32 &&& Int32.toUInt32 31)).toInt32) :: st) f k n Q) : Wp g M pc lv (.int y :: .int x :: st) f k n Q :=
  Wp.go (fun p e s m args below meth c C R H locs cells slots QQ ls hR hl => lv_iushr C.1 C.2.1 hd rfl) kk
theorem rn_ladd {x : Int64} {y : Int64} (hd : decode M.2.1 pc = .ok (.ladd, 1))  (kk : Wp g M (pc + 1) lv (.long (x + y) :: st) f k n Q) : Wp g M pc lv (.long y :: .long x :: st) f k n Q :=
  Wp.go (fun p e s m args below meth c C R H locs cells slots QQ ls hR hl => lv_ladd C.1 C.2.1 hd) kk
theorem rn_lsub {x : Int64} {y : Int64} (hd : decode M.2.1 pc = .ok (.lsub, 1))  (kk : Wp g M (pc + 1) lv (.long (x - y) :: st) f k n Q) : Wp g M pc lv (.long y :: .long x :: st) f k n Q :=
  Wp.go (fun p e s m args below meth c C R H locs cells slots QQ ls hR hl => lv_lsub C.1 C.2.1 hd) kk
theorem rn_land {x : Int64} {y : Int64} (hd : decode M.2.1 pc = .ok (.land, 1))  (kk : Wp g M (pc + 1) lv (.long (x &&& y) :: st) f k n Q) : Wp g M pc lv (.long y :: .long x :: st) f k n Q :=
  Wp.go (fun p e s m args below meth c C R H locs cells slots QQ ls hR hl => lv_land C.1 C.2.1 hd) kk
theorem rn_lor {x : Int64} {y : Int64} (hd : decode M.2.1 pc = .ok (.lor, 1))  (kk : Wp g M (pc + 1) lv (.long (x ||| y) :: st) f k n Q) : Wp g M pc lv (.long y :: .long x :: st) f k n Q :=
  Wp.go (fun p e s m args below meth c C R H locs cells slots QQ ls hR hl => lv_lor C.1 C.2.1 hd) kk
theorem rn_lxor {x : Int64} {y : Int64} (hd : decode M.2.1 pc = .ok (.lxor, 1))  (kk : Wp g M (pc + 1) lv (.long (x ^^^ y) :: st) f k n Q) : Wp g M pc lv (.long y :: .long x :: st) f k n Q :=
  Wp.go (fun p e s m args below meth c C R H locs cells slots QQ ls hR hl => lv_lxor C.1 C.2.1 hd) kk
theorem rn_lshl {x : Int64} {y : Int32} (hd : decode M.2.1 pc = .ok (.lshl, 1))  (kk : Wp g M (pc + 1) lv (.long (x <<< (y.toInt64 &&& 63)) :: st) f k n Q) : Wp g M pc lv (.int y :: .long x :: st) f k n Q :=
  Wp.go (fun p e s m args below meth c C R H locs cells slots QQ ls hR hl => lv_lshl C.1 C.2.1 hd rfl) kk
theorem rn_lshr {x : Int64} {y : Int32} (hd : decode M.2.1 pc = .ok (.lshr, 1))  (kk : Wp g M (pc + 1) lv (.long (x >>> (y.toInt64 &&& 63)) :: st) f k n Q) : Wp g M pc lv (.int y :: .long x :: st) f k n Q :=
  Wp.go (fun p e s m args below meth c C R H locs cells slots QQ ls hR hl => lv_lshr C.1 C.2.1 hd rfl) kk
theorem rn_lushr {x : Int64} {y : Int32} (hd : decode M.2.1 pc = .ok (.lushr, 1))  (kk : Wp g M (pc + 1) lv (.long ((x.toUInt64 >>> (y.toInt64.toUInt64 &&& Int64.toUInt64 63)).toInt64) :: st) f k n Q) : Wp g M pc lv (.int y :: .long x :: st) f k n Q :=
  Wp.go (fun p e s m args below meth c C R H locs cells slots QQ ls hR hl => lv_lushr C.1 C.2.1 hd rfl) kk
theorem rn_lcmp {x y : Int64} (hd : decode M.2.1 pc = .ok (.lcmp, 1))  (kk : Wp g M (pc + 1) lv (.int (lg_cmp x y) :: st) f k n Q) : Wp g M pc lv (.long y :: .long x :: st) f k n Q :=
  Wp.go (fun p e s m args below meth c C R H locs cells slots QQ ls hR hl => W.lcmp C.1 C.2.1 hd) kk
theorem rn_ineg {x : Int32} (hd : decode M.2.1 pc = .ok (.ineg, 1))  (kk : Wp g M (pc + 1) lv (.int (-x) :: st) f k n Q) : Wp g M pc lv (.int x :: st) f k n Q :=
  Wp.go (fun p e s m args below meth c C R H locs cells slots QQ ls hR hl => lv_ineg C.1 C.2.1 hd) kk
theorem rn_lneg {x : Int64} (hd : decode M.2.1 pc = .ok (.lneg, 1))  (kk : Wp g M (pc + 1) lv (.long (-x) :: st) f k n Q) : Wp g M pc lv (.long x :: st) f k n Q :=
  Wp.go (fun p e s m args below meth c C R H locs cells slots QQ ls hR hl => lv_lneg C.1 C.2.1 hd) kk
theorem rn_i2b {x : Int32} (hd : decode M.2.1 pc = .ok (.i2b, 1))  (kk : Wp g M (pc + 1) lv (.int x.toInt8.toInt32 :: st) f k n Q) : Wp g M pc lv (.int x :: st) f k n Q :=
  Wp.go (fun p e s m args below meth c C R H locs cells slots QQ ls hR hl => lv_i2b C.1 C.2.1 hd rfl) kk
theorem rn_l2i {x : Int64} (hd : decode M.2.1 pc = .ok (.l2i, 1))  (kk : Wp g M (pc + 1) lv (.int x.toInt32 :: st) f k n Q) : Wp g M pc lv (.long x :: st) f k n Q :=
  Wp.go (fun p e s m args below meth c C R H locs cells slots QQ ls hR hl => lv_l2i C.1 C.2.1 hd rfl) kk
theorem rn_i2l {x : Int32} (hd : decode M.2.1 pc = .ok (.i2l, 1))  (kk : Wp g M (pc + 1) lv (.long x.toInt64 :: st) f k n Q) : Wp g M pc lv (.int x :: st) f k n Q :=
  Wp.go (fun p e s m args below meth c C R H locs cells slots QQ ls hR hl => lv_i2l C.1 C.2.1 hd rfl) kk
theorem rn_dup {v : Value} (hd : decode M.2.1 pc = .ok (.dup, 1)) (hc : v.category = 1) (kk : Wp g M (pc + 1) lv (v :: v :: st) f k n Q) : Wp g M pc lv (v :: st) f k n Q :=
  Wp.go (fun p e s m args below meth c C R H locs cells slots QQ ls hR hl => lv_dup C.1 C.2.1 hd (by rw [tV_cat]; exact hc)) kk
theorem rn_dup2 {v w : Value} (hd : decode M.2.1 pc = .ok (.dup2, 1)) (hc : v.category = 1) (hc2 : w.category = 1) (kk : Wp g M (pc + 1) lv (v :: w :: v :: w :: st) f k n Q) : Wp g M pc lv (v :: w :: st) f k n Q :=
  Wp.go (fun p e s m args below meth c C R H locs cells slots QQ ls hR hl => lv_dup2_11 C.1 C.2.1 hd (by rw [tV_cat]; exact hc) (by rw [tV_cat]; exact hc2)) kk
theorem rn_pop {v : Value} (hd : decode M.2.1 pc = .ok (.pop, 1)) (hc : v.category = 1) (kk : Wp g M (pc + 1) lv (st) f k n Q) : Wp g M pc lv (v :: st) f k n Q :=
  Wp.go (fun p e s m args below meth c C R H locs cells slots QQ ls hR hl => lv_pop C.1 C.2.1 hd (by rw [tV_cat]; exact hc)) kk
theorem rn_istore_n {i : Fin 4} {x : Int32} (hd : decode M.2.1 pc = .ok (.istore_n i, 1)) (hn : (i : Nat) < M.2.2.1) (hb : nlb lv (i : Nat) = true) (kk : Wp g M (pc + 1) (lv.set (i : Nat) (some (.int x))) st f k n Q) : Wp g M pc lv (.int x :: st) f k n Q := by
  intro p e s m args below meth c C K0 N0 cells slots h1 h2 H locs hz hR hF hL ls hl
  exact lv_istore_n C.1 C.2.1 hd rfl hl.has hn rfl (fun ls' hl' => kk p e s m args below meth c C K0 N0 cells slots h1 h2 H locs hz hR hF hL ls' (lh.st1 (x := .int x) hb hl'))
theorem rn_istore {i : Nat} {x : Int32} (hd : decode M.2.1 pc = .ok (.istore i, 2)) (hn : i < M.2.2.1) (hb : nlb lv i = true) (kk : Wp g M (pc + 2) (lv.set i (some (.int x))) st f k n Q) : Wp g M pc lv (.int x :: st) f k n Q := by
  intro p e s m args below meth c C K0 N0 cells slots h1 h2 H locs hz hR hF hL ls hl
  exact lv_istore C.1 C.2.1 hd hl.has hn rfl (fun ls' hl' => kk p e s m args below meth c C K0 N0 cells slots h1 h2 H locs hz hR hF hL ls' (lh.st1 (x := .int x) hb hl'))
theorem rn_lstore_n {i : Fin 4} {x : Int64} (hd : decode M.2.1 pc = .ok (.lstore_n i, 1)) (hn : (i : Nat) + 1 < M.2.2.1) (hb : nlb lv (i : Nat) = true) (kk : Wp g M (pc + 1) ((lv.set (i : Nat) (some (.long x))).set ((i : Nat) + 1) none) st f k n Q) : Wp g M pc lv (.long x :: st) f k n Q := by
  intro p e s m args below meth c C K0 N0 cells slots h1 h2 H locs hz hR hF hL ls hl
  exact lv_lstore_n C.1 C.2.1 hd rfl hl.has hn rfl (fun ls' hl' => kk p e s m args below meth c C K0 N0 cells slots h1 h2 H locs hz hR hF hL ls' (lh.st2 (x := .long x) hb hl'))
theorem rn_lstore {i : Nat} {x : Int64} (hd : decode M.2.1 pc = .ok (.lstore i, 2)) (hn : i + 1 < M.2.2.1) (hb : nlb lv i = true) (kk : Wp g M (pc + 2) ((lv.set i (some (.long x))).set (i + 1) none) st f k n Q) : Wp g M pc lv (.long x :: st) f k n Q := by
  intro p e s m args below meth c C K0 N0 cells slots h1 h2 H locs hz hR hF hL ls hl
  exact lv_lstore C.1 C.2.1 hd hl.has hn rfl (fun ls' hl' => kk p e s m args below meth c C K0 N0 cells slots h1 h2 H locs hz hR hF hL ls' (lh.st2 (x := .long x) hb hl'))
theorem rn_astore_n {i : Fin 4} {x : Nat} (hd : decode M.2.1 pc = .ok (.astore_n i, 1)) (hn : (i : Nat) < M.2.2.1) (hb : nlb lv (i : Nat) = true) (kk : Wp g M (pc + 1) (lv.set (i : Nat) (some (.ref x))) st f k n Q) : Wp g M pc lv (.ref x :: st) f k n Q := by
  intro p e s m args below meth c C K0 N0 cells slots h1 h2 H locs hz hR hF hL ls hl
  exact lv_astore_n C.1 C.2.1 hd rfl hl.has hn rfl (fun ls' hl' => kk p e s m args below meth c C K0 N0 cells slots h1 h2 H locs hz hR hF hL ls' (lh.st1 (x := .ref x) hb hl'))
theorem rn_astore {i : Nat} {x : Nat} (hd : decode M.2.1 pc = .ok (.astore i, 2)) (hn : i < M.2.2.1) (hb : nlb lv i = true) (kk : Wp g M (pc + 2) (lv.set i (some (.ref x))) st f k n Q) : Wp g M pc lv (.ref x :: st) f k n Q := by
  intro p e s m args below meth c C K0 N0 cells slots h1 h2 H locs hz hR hF hL ls hl
  exact lv_astore C.1 C.2.1 hd hl.has hn rfl (fun ls' hl' => kk p e s m args below meth c C K0 N0 cells slots h1 h2 H locs hz hR hF hL ls' (lh.st1 (x := .ref x) hb hl'))
theorem rn_iinc {i : Nat} {d : Int} {x v : Int32} (hd : decode M.2.1 pc = .ok (.iinc i d, 3)) (hv : lg lv i = some (.int x)) (he : x + Int32.ofInt d = v) (hn : i < M.2.2.1) (hb : nlb lv i = true) (kk : Wp g M (pc + 3) (lv.set i (some (.int v))) st f k n Q) : Wp g M pc lv st f k n Q := by
  intro p e s m args below meth c C K0 N0 cells slots h1 h2 H locs hz hR hF hL ls hl
  obtain ⟨j, hj⟩ := List.getElem?_of_mem (lpr_mem (b := g.2.2.2) hv)
  exact lv_iinc C.1 C.2.1 hd hl.has hj he hn rfl (fun ls' hl' => kk p e s m args below meth c C K0 N0 cells slots h1 h2 H locs hz hR hF hL ls' (lh.st1 (x := .int v) hb hl'))
theorem rn_if_eq {x : Int32} {off : Int} {tgt : Nat} (hd : decode M.2.1 pc = .ok (.ifCond .eq off, 3)) (ht : (pc : Int) + off = (tgt : Int)) (kt : x = 0 → Wp g M tgt lv st f k n Q) (kf : ¬ x = 0 → Wp g M (pc + 3) lv st f k n Q) : Wp g M pc lv (.int x :: st) f k n Q := by
  intro p e s m args below meth c C K0 N0 cells slots h1 h2 H locs hz hR hF hL ls hl
  exact lv_if_eq C.1 C.2.1 hd ht (fun q => kt q p e s m args below meth c C K0 N0 cells slots h1 h2 H locs hz hR hF hL ls hl) (fun q => kf q p e s m args below meth c C K0 N0 cells slots h1 h2 H locs hz hR hF hL ls hl)
theorem rn_icmp_eq {x y : Int32} {off : Int} {tgt : Nat} (hd : decode M.2.1 pc = .ok (.if_icmp .eq off, 3)) (ht : (pc : Int) + off = (tgt : Int)) (kt : x = y → Wp g M tgt lv st f k n Q) (kf : ¬ x = y → Wp g M (pc + 3) lv st f k n Q) : Wp g M pc lv (.int y :: .int x :: st) f k n Q := by
  intro p e s m args below meth c C K0 N0 cells slots h1 h2 H locs hz hR hF hL ls hl
  exact lv_icmp_eq C.1 C.2.1 hd ht (fun q => kt q p e s m args below meth c C K0 N0 cells slots h1 h2 H locs hz hR hF hL ls hl) (fun q => kf q p e s m args below meth c C K0 N0 cells slots h1 h2 H locs hz hR hF hL ls hl)
theorem rn_if_ne {x : Int32} {off : Int} {tgt : Nat} (hd : decode M.2.1 pc = .ok (.ifCond .ne off, 3)) (ht : (pc : Int) + off = (tgt : Int)) (kt : ¬ x = 0 → Wp g M tgt lv st f k n Q) (kf : x = 0 → Wp g M (pc + 3) lv st f k n Q) : Wp g M pc lv (.int x :: st) f k n Q := by
  intro p e s m args below meth c C K0 N0 cells slots h1 h2 H locs hz hR hF hL ls hl
  exact lv_if_ne C.1 C.2.1 hd ht (fun q => kt q p e s m args below meth c C K0 N0 cells slots h1 h2 H locs hz hR hF hL ls hl) (fun q => kf q p e s m args below meth c C K0 N0 cells slots h1 h2 H locs hz hR hF hL ls hl)
theorem rn_icmp_ne {x y : Int32} {off : Int} {tgt : Nat} (hd : decode M.2.1 pc = .ok (.if_icmp .ne off, 3)) (ht : (pc : Int) + off = (tgt : Int)) (kt : ¬ x = y → Wp g M tgt lv st f k n Q) (kf : x = y → Wp g M (pc + 3) lv st f k n Q) : Wp g M pc lv (.int y :: .int x :: st) f k n Q := by
  intro p e s m args below meth c C K0 N0 cells slots h1 h2 H locs hz hR hF hL ls hl
  exact lv_icmp_ne C.1 C.2.1 hd ht (fun q => kt q p e s m args below meth c C K0 N0 cells slots h1 h2 H locs hz hR hF hL ls hl) (fun q => kf q p e s m args below meth c C K0 N0 cells slots h1 h2 H locs hz hR hF hL ls hl)
theorem rn_if_lt {x : Int32} {off : Int} {tgt : Nat} (hd : decode M.2.1 pc = .ok (.ifCond .lt off, 3)) (ht : (pc : Int) + off = (tgt : Int)) (kt : x < 0 → Wp g M tgt lv st f k n Q) (kf : ¬ x < 0 → Wp g M (pc + 3) lv st f k n Q) : Wp g M pc lv (.int x :: st) f k n Q := by
  intro p e s m args below meth c C K0 N0 cells slots h1 h2 H locs hz hR hF hL ls hl
  exact lv_if_lt C.1 C.2.1 hd ht (fun q => kt q p e s m args below meth c C K0 N0 cells slots h1 h2 H locs hz hR hF hL ls hl) (fun q => kf q p e s m args below meth c C K0 N0 cells slots h1 h2 H locs hz hR hF hL ls hl)
theorem rn_icmp_lt {x y : Int32} {off : Int} {tgt : Nat} (hd : decode M.2.1 pc = .ok (.if_icmp .lt off, 3)) (ht : (pc : Int) + off = (tgt : Int)) (kt : x < y → Wp g M tgt lv st f k n Q) (kf : ¬ x < y → Wp g M (pc + 3) lv st f k n Q) : Wp g M pc lv (.int y :: .int x :: st) f k n Q := by
  intro p e s m args below meth c C K0 N0 cells slots h1 h2 H locs hz hR hF hL ls hl
  exact lv_icmp_lt C.1 C.2.1 hd ht (fun q => kt q p e s m args below meth c C K0 N0 cells slots h1 h2 H locs hz hR hF hL ls hl) (fun q => kf q p e s m args below meth c C K0 N0 cells slots h1 h2 H locs hz hR hF hL ls hl)
theorem rn_if_ge {x : Int32} {off : Int} {tgt : Nat} (hd : decode M.2.1 pc = .ok (.ifCond .ge off, 3)) (ht : (pc : Int) + off = (tgt : Int)) (kt : 0 ≤ x → Wp g M tgt lv st f k n Q) (kf : ¬ 0 ≤ x → Wp g M (pc + 3) lv st f k n Q) : Wp g M pc lv (.int x :: st) f k n Q := by
  intro p e s m args below meth c C K0 N0 cells slots h1 h2 H locs hz hR hF hL ls hl
  exact lv_if_ge C.1 C.2.1 hd ht (fun q => kt q p e s m args below meth c C K0 N0 cells slots h1 h2 H locs hz hR hF hL ls hl) (fun q => kf q p e s m args below meth c C K0 N0 cells slots h1 h2 H locs hz hR hF hL ls hl)
theorem rn_icmp_ge {x y : Int32} {off : Int} {tgt : Nat} (hd : decode M.2.1 pc = .ok (.if_icmp .ge off, 3)) (ht : (pc : Int) + off = (tgt : Int)) (kt : y ≤ x → Wp g M tgt lv st f k n Q) (kf : ¬ y ≤ x → Wp g M (pc + 3) lv st f k n Q) : Wp g M pc lv (.int y :: .int x :: st) f k n Q := by
  intro p e s m args below meth c C K0 N0 cells slots h1 h2 H locs hz hR hF hL ls hl
  exact lv_icmp_ge C.1 C.2.1 hd ht (fun q => kt q p e s m args below meth c C K0 N0 cells slots h1 h2 H locs hz hR hF hL ls hl) (fun q => kf q p e s m args below meth c C K0 N0 cells slots h1 h2 H locs hz hR hF hL ls hl)
theorem rn_if_gt {x : Int32} {off : Int} {tgt : Nat} (hd : decode M.2.1 pc = .ok (.ifCond .gt off, 3)) (ht : (pc : Int) + off = (tgt : Int)) (kt : 0 < x → Wp g M tgt lv st f k n Q) (kf : ¬ 0 < x → Wp g M (pc + 3) lv st f k n Q) : Wp g M pc lv (.int x :: st) f k n Q := by
  intro p e s m args below meth c C K0 N0 cells slots h1 h2 H locs hz hR hF hL ls hl
  exact lv_if_gt C.1 C.2.1 hd ht (fun q => kt q p e s m args below meth c C K0 N0 cells slots h1 h2 H locs hz hR hF hL ls hl) (fun q => kf q p e s m args below meth c C K0 N0 cells slots h1 h2 H locs hz hR hF hL ls hl)
theorem rn_icmp_gt {x y : Int32} {off : Int} {tgt : Nat} (hd : decode M.2.1 pc = .ok (.if_icmp .gt off, 3)) (ht : (pc : Int) + off = (tgt : Int)) (kt : y < x → Wp g M tgt lv st f k n Q) (kf : ¬ y < x → Wp g M (pc + 3) lv st f k n Q) : Wp g M pc lv (.int y :: .int x :: st) f k n Q := by
  intro p e s m args below meth c C K0 N0 cells slots h1 h2 H locs hz hR hF hL ls hl
  exact lv_icmp_gt C.1 C.2.1 hd ht (fun q => kt q p e s m args below meth c C K0 N0 cells slots h1 h2 H locs hz hR hF hL ls hl) (fun q => kf q p e s m args below meth c C K0 N0 cells slots h1 h2 H locs hz hR hF hL ls hl)
theorem rn_if_le {x : Int32} {off : Int} {tgt : Nat} (hd : decode M.2.1 pc = .ok (.ifCond .le off, 3)) (ht : (pc : Int) + off = (tgt : Int)) (kt : x ≤ 0 → Wp g M tgt lv st f k n Q) (kf : ¬ x ≤ 0 → Wp g M (pc + 3) lv st f k n Q) : Wp g M pc lv (.int x :: st) f k n Q := by
  intro p e s m args below meth c C K0 N0 cells slots h1 h2 H locs hz hR hF hL ls hl
  exact lv_if_le C.1 C.2.1 hd ht (fun q => kt q p e s m args below meth c C K0 N0 cells slots h1 h2 H locs hz hR hF hL ls hl) (fun q => kf q p e s m args below meth c C K0 N0 cells slots h1 h2 H locs hz hR hF hL ls hl)
theorem rn_icmp_le {x y : Int32} {off : Int} {tgt : Nat} (hd : decode M.2.1 pc = .ok (.if_icmp .le off, 3)) (ht : (pc : Int) + off = (tgt : Int)) (kt : x ≤ y → Wp g M tgt lv st f k n Q) (kf : ¬ x ≤ y → Wp g M (pc + 3) lv st f k n Q) : Wp g M pc lv (.int y :: .int x :: st) f k n Q := by
  intro p e s m args below meth c C K0 N0 cells slots h1 h2 H locs hz hR hF hL ls hl
  exact lv_icmp_le C.1 C.2.1 hd ht (fun q => kt q p e s m args below meth c C K0 N0 cells slots h1 h2 H locs hz hR hF hL ls hl) (fun q => kf q p e s m args below meth c C K0 N0 cells slots h1 h2 H locs hz hR hF hL ls hl)
theorem rn_goto {off : Int} {tgt : Nat} (hd : decode M.2.1 pc = .ok (.goto off, 3)) (ht : (pc : Int) + off = (tgt : Int)) (kk : Wp g M tgt lv st f k n Q) : Wp g M pc lv st f k n Q :=
  Wp.go (fun p e s m args below meth c C R H locs cells slots QQ ls hR hl => lv_goto C.1 C.2.1 hd ht) kk
theorem rn_ifnull {x : Nat} {off : Int} (hd : decode M.2.1 pc = .ok (.ifnull off, 3)) (kk : Wp g M (pc + 3) lv st f k n Q) : Wp g M pc lv (.ref x :: st) f k n Q :=
  Wp.go (fun p e s m args below meth c C R H locs cells slots QQ ls hR hl => lv_ifnull C.1 C.2.1 hd) kk
theorem rn_ifnonnull {x : Nat} {off : Int} {tgt : Nat} (hd : decode M.2.1 pc = .ok (.ifnonnull off, 3)) (ht : (pc : Int) + off = (tgt : Int)) (kk : Wp g M tgt lv st f k n Q) : Wp g M pc lv (.ref x :: st) f k n Q :=
  Wp.go (fun p e s m args below meth c C R H locs cells slots QQ ls hR hl => lv_ifnonnull C.1 C.2.1 hd ht) kk
theorem rn_tableIn {dflt lo hi : Int} {offs : Array Int} {len : Nat} {x : Int32} {off : Int} {tgt : Nat} (hd : decode M.2.1 pc = .ok (.tableswitch dflt lo hi offs, len)) (h1 : ¬ x.toInt < lo) (h2 : ¬ hi < x.toInt) (ho : offs[(x.toInt - lo).toNat]? = some off) (ht : (pc : Int) + off = (tgt : Int)) (kk : Wp g M tgt lv st f k n Q) : Wp g M pc lv (.int x :: st) f k n Q :=
  Wp.go (fun p e s m args below meth c C R H locs cells slots QQ ls hR hl => lv_tableIn C.1 C.2.1 hd h1 h2 ho ht) kk
theorem rn_tableOut {dflt lo hi : Int} {offs : Array Int} {len : Nat} {x : Int32} {tgt : Nat} (hd : decode M.2.1 pc = .ok (.tableswitch dflt lo hi offs, len)) (h : x.toInt < lo ∨ hi < x.toInt) (ht : (pc : Int) + dflt = (tgt : Int)) (kk : Wp g M tgt lv st f k n Q) : Wp g M pc lv (.int x :: st) f k n Q :=
  Wp.go (fun p e s m args below meth c C R H locs cells slots QQ ls hR hl => lv_tableOut C.1 C.2.1 hd h ht) kk
theorem rn_iret {x : Int32} (hd : decode M.2.1 pc = .ok (.ireturn, 1)) (hr : M.2.2.2.1 = some .int) (hq : Q (some (.int x)) f) : Wp g M pc lv ([.int x]) f 0 n Q := by
  intro p e s m args below meth c C K0 N0 cells slots h1 h2 H locs hz hR hF hL ls hl
  have hlocks := C.2.2.2.2.2.2.1
  refine W.widen (k := K0) (n := N0) (by omega) (by omega) ?_
  exact W.iret (v := x) C.1 C.2.1 (by rw [C.2.2.1]; exact hr) (fun t ht hW => ⟨some (.int x), f, rfl, hq, by rw [ht]; exact hR, by rw [ht, hz]; omega, fun q hqb => by rw [ht]; exact hF q hqb⟩) hL hd
theorem rn_zret {x : Int32} (hd : decode M.2.1 pc = .ok (.ireturn, 1)) (hr : M.2.2.2.1 = some .boolean) (hx : narrow .boolean (.int x) = .int x) (hq : Q (some (.int x)) f) : Wp g M pc lv ([.int x]) f 0 n Q := by
  intro p e s m args below meth c C K0 N0 cells slots h1 h2 H locs hz hR hF hL ls hl
  have hlocks := C.2.2.2.2.2.2.1
  refine W.widen (k := K0) (n := N0) (by omega) (by omega) ?_
  exact W.zret (v := x) C.1 C.2.1 (by rw [C.2.2.1]; exact hr) hx (fun t ht hW => ⟨some (.int x), f, rfl, hq, by rw [ht]; exact hR, by rw [ht, hz]; omega, fun q hqb => by rw [ht]; exact hF q hqb⟩) hL hd
theorem rn_lret {x : Int64} (hd : decode M.2.1 pc = .ok (.lreturn, 1)) (hr : M.2.2.2.1 = some .long) (hq : Q (some (.long x)) f) : Wp g M pc lv ([.long x]) f 0 n Q := by
  intro p e s m args below meth c C K0 N0 cells slots h1 h2 H locs hz hR hF hL ls hl
  have hlocks := C.2.2.2.2.2.2.1
  refine W.widen (k := K0) (n := N0) (by omega) (by omega) ?_
  exact W.lret (v := x) C.1 C.2.1 (by rw [C.2.2.1]; exact hr) (fun t ht hW => ⟨some (.long x), f, rfl, hq, by rw [ht]; exact hR, by rw [ht, hz]; omega, fun q hqb => by rw [ht]; exact hF q hqb⟩) hL hd
theorem rn_vret (hd : decode M.2.1 pc = .ok (.return_, 1)) (hr : M.2.2.2.1 = none) (hq : Q (none) f) : Wp g M pc lv ([]) f 0 n Q := by
  intro p e s m args below meth c C K0 N0 cells slots h1 h2 H locs hz hR hF hL ls hl
  have hlocks := C.2.2.2.2.2.2.1
  refine W.widen (k := K0) (n := N0) (by omega) (by omega) ?_
  exact W.vret C.1 C.2.1 (by rw [C.2.2.1]; exact hr) (fun t ht hW => ⟨none, f, rfl, hq, by rw [ht]; exact hR, by rw [ht, hz]; omega, fun q hqb => by rw [ht]; exact hF q hqb⟩) hL hd
theorem rn_aretR {x : Nat} (hd : decode M.2.1 pc = .ok (.areturn, 1)) {rc : String} (hr : M.2.2.2.1 = some (.object rc)) (hq : Q (some (.ref x)) f) : Wp g M pc lv ([.ref x]) f 0 n Q := by
  intro p e s m args below meth c C K0 N0 cells slots h1 h2 H locs hz hR hF hL ls hl
  have hlocks := C.2.2.2.2.2.2.1
  refine W.widen (k := K0) (n := N0) (by omega) (by omega) ?_
  exact W.aret (v := .ref (g.2.2.2 + x)) C.1 C.2.1 (by rw [C.2.2.1]; exact hr) (Or.inl ⟨_, rfl⟩) (Or.inr ⟨_, rfl⟩) (fun t ht hW => ⟨some (.ref x), f, rfl, hq, by rw [ht]; exact hR, by rw [ht, hz]; omega, fun q hqb => by rw [ht]; exact hF q hqb⟩) hL hd
theorem rn_aretN (hd : decode M.2.1 pc = .ok (.areturn, 1)) {rc : String} (hr : M.2.2.2.1 = some (.object rc)) (hq : Q (some .null) f) : Wp g M pc lv ([.null]) f 0 n Q := by
  intro p e s m args below meth c C K0 N0 cells slots h1 h2 H locs hz hR hF hL ls hl
  have hlocks := C.2.2.2.2.2.2.1
  refine W.widen (k := K0) (n := N0) (by omega) (by omega) ?_
  exact W.aret (v := .null) C.1 C.2.1 (by rw [C.2.2.1]; exact hr) (Or.inl ⟨_, rfl⟩) (Or.inl rfl) (fun t ht hW => ⟨some .null, f, rfl, hq, by rw [ht]; exact hR, by rw [ht, hz]; omega, fun q hqb => by rw [ht]; exact hF q hqb⟩) hL hd
-- memory rows
theorem gt_K {p : Program} {s : State} {m : MethodId} {args : Array Value} {meth : Method} {c : Code} (C : Cx g M p s m args meth c) : va_K g.2.1 vwCl (tysG g) s := C.2.2.2.2.2.2.2.2.1.1
theorem rn_get {idx ci kf q : Nat} {fs : List Value} {v : Value} (hd : decode M.2.1 pc = .ok (.getfield idx, 3)) (hg : gfl M.1.cls idx ci kf) (ho : f q = some (.inr (ci, fs))) (hv : fs[kf]? = some v) (kk : Wp g M (pc + 3) lv (v :: st) f k n Q) : Wp g M pc lv (.ref q :: st) f k n Q := by
  refine Wp.go (fun p e s m args below meth c C R H locs cells slots QQ ls hR hl w => ?_) kk
  obtain ⟨cl, T, N, h1, h2, h3, h4⟩ := hg
  obtain ⟨z, hz, hn, hP⟩ := hR
  have hq := rp_lt hn ho
  rcases h4 with h4 | ⟨host, h4⟩
  · exact va_get (ci := ci) (v := tV g.2.2.2 v) (C := cl) (T := T) (N := N) C.1 C.2.1 C.2.2.2.2.2.1 h3 C.2.2.2.2.1 (gt_K C) hP q (cx_get hq ho) h1 kf h2 (C.2.2.2.2.2.1 _ h4) (fun _ h => h) (by simp [hv]) hd w
  · exact va_getN (ci := ci) (v := tV g.2.2.2 v) (C := cl) (T := T) (N := N) C.1 C.2.1 C.2.2.2.2.2.1 h3 C.2.2.2.2.1 (gt_K C) hP q (cx_get hq ho) h1 kf h2 (va_Nw.use rfl (C.2.2.2.2.2.2.2.2.1.2.1 _ h4)) (fun _ h => h) (by simp [hv]) hd w
theorem rp_put {g : GG} {f : Mm} {z q sz : Nat} {e : Ent} {H1 : Heap} (hn : ∀ q, f q = none ↔ z ≤ q) (hq : q < z) (hz : H1.size = g.2.2.2 + z) (hP : va_P g.2.1 vwCl ((cx g z f).set q (g.2.2.2 + q, tE g e)) H1) : rp g (va_up f q (some e)) H1 :=
  ⟨z, hz, rp_up hn hq, by rw [← cx_set hq]; exact hP⟩
/-- behind a store: the size is as it was, what lies below the base too -/
theorem st_after {g : GG} {s : State} {H H1 : Heap} {locs locs1 : List Loc} {cells : Nat} (hz : H.size = s.heap.size + cells) (hF : ∀ q, q < g.2.2.2 → H[q]? = s.heap[q]?) (hb : g.2.2.2 ≤ H.size) (hS : va_S (fun q => g.2.2.2 ≤ q) H H1 locs1) (hle : H1.size ≤ s.heap.size + cells) :
    H1.size = s.heap.size + cells ∧ (∀ q, q < g.2.2.2 → H1[q]? = s.heap[q]?) ∧ (∀ q ∈ locs1, g.2.2.2 ≤ q.base) := by
  refine ⟨?_, fun q hq => ?_, hS.2.2⟩
  · have := hS.1
    omega
  · rw [hS.2.1 q (by omega) (by show ¬ g.2.2.2 ≤ q; omega)]
    exact hF q hq
theorem va_S.start {A : Nat → Prop} {H : Heap} {locs : List Loc} (h : ∀ l ∈ locs, A l.base) : va_S A H H locs := ⟨Nat.le_refl _, fun _ _ _ => rfl, h⟩
theorem rn_put {idx ci kf q : Nat} {fs : List Value} {v : Value} {ty : FieldType} (hd : decode M.2.1 pc = .ok (.putfield idx, 3)) (hg : pfl M.1.cls idx ci kf ty) (ho : f q = some (.inr (ci, fs))) (hnw : narrow ty (tV g.2.2.2 v) = tV g.2.2.2 v) (hfit : fits ty (tV g.2.2.2 v) = true) (hl0 : kf < fs.length) (kk : Wp g M (pc + 3) lv st (va_up f q (some (.inr (ci, fs.set kf v)))) k n Q) : Wp g M pc lv (v :: .ref q :: st) f k n Q := by
  intro p e s m args below meth c C K0 N0 cells slots h1 h2 H locs hz hR hF hL ls hl
  obtain ⟨cl, T, N, ty0, g1, g2, g3, g4, g5, g6, g7, g8⟩ := hg
  obtain ⟨z, hz0, hn, hP⟩ := hR
  have hq := rp_lt hn ho
  have key : ∀ (H1 : Heap) (locs1 : List Loc), va_P g.2.1 vwCl ((cx g z f).set q (g.2.2.2 + q, .inr (ci, (fs.map (tV g.2.2.2)).set kf (tV g.2.2.2 v)))) H1 → va_D (fun q => g.2.2.2 ≤ q) ((cx g z f).set q (g.2.2.2 + q, .inr (ci, (fs.map (tV g.2.2.2)).set kf (tV g.2.2.2 v)))) → va_S (fun q => g.2.2.2 ≤ q) H H1 locs1 → W p g.1 e (rmM M K0 N0) s m args below meth c H1 locs1 cells slots (MQ below (Qo g K0 Q) args s K0 N0 (fun q => g.2.2.2 ≤ q)) (F0 m (pc + 3) ls (st.map (tV g.2.2.2))) := by
    intro H1 locs1 hP1 hD1 hS1
    refine W.bound fun hle => ?_
    obtain ⟨q1, q2, q3⟩ := st_after (locs := locs) hz hF (by omega) hS1 hle
    refine kk p e s m args below meth c C K0 N0 cells slots h1 h2 H1 locs1 q1 (rp_put (sz := 0) hn hq (by omega) ?_) q2 q3 ls hl
    have e1 : (fs.map (tV g.2.2.2)).set kf (tV g.2.2.2 v) = (fs.set kf v).map (tV g.2.2.2) := by rw [List.map_set]
    rw [e1] at hP1
    exact hP1
  rcases g8 with g8 | ⟨host, g8⟩
  · exact va_put (ci := ci) (v := tV g.2.2.2 v) (C := cl) (T := T) (N := N) C.1 C.2.1 C.2.2.2.2.2.1 g3 ty0 g4 g5 C.2.2.2.2.1 (gt_K C) hP cx_D (va_S.start hL) q (cx_get hq ho) g1 kf g2 (C.2.2.2.2.2.1 _ g8) (fun _ h => h) g6 g7 hnw hfit (by simpa using hl0) hd key
  · exact va_putN (ci := ci) (v := tV g.2.2.2 v) (C := cl) (T := T) (N := N) C.1 C.2.1 C.2.2.2.2.2.1 g3 ty0 g4 g5 C.2.2.2.2.1 (gt_K C) hP cx_D (va_S.start hL) q (cx_get hq ho) g1 kf g2 (va_Nw.use rfl (C.2.2.2.2.2.2.2.2.1.2.1 _ g8)) (fun _ h => h) g6 g7 hnw hfit (by simpa using hl0) hd key
theorem rn_putF {idx ci kf q : Nat} {fs : List Value} {v : Value} {ty : FieldType} (hd : decode M.2.1 pc = .ok (.putfield idx, 3)) (hg : pfF M.1.cls idx ci kf ty) (hini : M.1.name = "<init>") (ho : f q = some (.inr (ci, fs))) (hnw : narrow ty (tV g.2.2.2 v) = tV g.2.2.2 v) (hfit : fits ty (tV g.2.2.2 v) = true) (hl0 : kf < fs.length) (kk : Wp g M (pc + 3) lv st (va_up f q (some (.inr (ci, fs.set kf v)))) k n Q) : Wp g M pc lv (v :: .ref q :: st) f k n Q := by
  intro p e s m args below meth c C K0 N0 cells slots h1 h2 H locs hz hR hF hL ls hl
  obtain ⟨cl, T, N, ty0, g1, g2, g3, g4, g5, g6, g6b, g7, g8⟩ := hg
  obtain ⟨z, hz0, hn, hP⟩ := hR
  have hq := rp_lt hn ho
  refine va_putF (ci := ci) (v := tV g.2.2.2 v) (C := cl) (T := T) (N := N) C.1 C.2.1 C.2.2.2.2.2.1 g3 ty0 g4 g5 C.2.2.2.2.1 (gt_K C) hP cx_D (va_S.start hL) q (cx_get hq ho) g1 kf g2 (C.2.2.2.2.2.1 _ g8) (fun _ h => h) g6 (C.2.2.2.2.2.2.2.1.trans hini) g6b g7 hnw hfit (by simpa using hl0) hd ?_
  intro H1 locs1 hP1 hD1 hS1
  refine W.bound fun hle => ?_
  obtain ⟨q1, q2, q3⟩ := st_after (locs := locs) hz hF (by omega) hS1 hle
  refine kk p e s m args below meth c C K0 N0 cells slots h1 h2 H1 locs1 q1 (rp_put (sz := 0) hn hq (by omega) ?_) q2 q3 ls hl
  have e1 : (fs.map (tV g.2.2.2)).set kf (tV g.2.2.2 v) = (fs.set kf v).map (tV g.2.2.2) := by rw [List.map_set]
  rw [e1] at hP1
  exact hP1
theorem rn_alen {q t N : Nat} {x : (Nat → Int32) ⊕ (Nat → Int64) ⊕ (Nat → UInt32) ⊕ (Nat → UInt64) ⊕ (Nat → Option Nat)} (hd : decode M.2.1 pc = .ok (.arraylength, 1)) (ho : f q = some (.inl (t, N, x))) (ht : t < 5) (kk : Wp g M (pc + 1) lv (.int (nI N) :: st) f k n Q) : Wp g M pc lv (.ref q :: st) f k n Q := by
  refine Wp.go (fun p e s m args below meth c C R H locs cells slots QQ ls hR hl w => ?_) kk
  obtain ⟨z, hz, hn, hP⟩ := hR
  have hq := rp_lt hn ho
  obtain ⟨ty, hty⟩ : ∃ ty, (tysG g)[t]? = some (g.2.2.1 t, ty) := by
    rcases (show t = 0 ∨ t = 1 ∨ t = 2 ∨ t = 3 ∨ t = 4 by omega) with rfl | rfl | rfl | rfl | rfl <;> exact ⟨_, rfl⟩
  exact va_alen C.1 C.2.1 (gt_K C) hP q t (cx_get hq ho) hty rfl hd w
theorem rn_iald {q N : Nat} {a : Nat → Int32} {i : Int32} (hd : decode M.2.1 pc = .ok (.iaload, 1)) (ho : f q = some (.inl (0, N, .inl a))) (hi : vp_in i N) (kk : Wp g M (pc + 1) lv (.int (a i.toNatClampNeg) :: st) f k n Q) : Wp g M pc lv (.int i :: .ref q :: st) f k n Q := by
  refine Wp.go (fun p e s m args below meth c C R H locs cells slots QQ ls hR hl w => ?_) kk
  obtain ⟨z, hz, hn, hP⟩ := hR
  exact va_iald C.1 C.2.1 (gt_K C) hP q 0 (cx_get (rp_lt hn ho) ho) rfl hi hd w
theorem rn_lald {q N : Nat} {a : Nat → Int64} {i : Int32} (hd : decode M.2.1 pc = .ok (.laload, 1)) (ho : f q = some (.inl (1, N, .inr (.inl a)))) (hi : vp_in i N) (kk : Wp g M (pc + 1) lv (.long (a i.toNatClampNeg) :: st) f k n Q) : Wp g M pc lv (.int i :: .ref q :: st) f k n Q := by
  refine Wp.go (fun p e s m args below meth c C R H locs cells slots QQ ls hR hl w => ?_) kk
  obtain ⟨z, hz, hn, hP⟩ := hR
  exact va_lald C.1 C.2.1 (gt_K C) hP q 1 (cx_get (rp_lt hn ho) ho) rfl hi hd w
theorem rn_bald {q N : Nat} {a : Nat → Int32} {i : Int32} (hd : decode M.2.1 pc = .ok (.baload, 1)) (ho : f q = some (.inl (2, N, .inl a))) (hi : vp_in i N) (kk : Wp g M (pc + 1) lv (.int (a i.toNatClampNeg) :: st) f k n Q) : Wp g M pc lv (.int i :: .ref q :: st) f k n Q := by
  refine Wp.go (fun p e s m args below meth c C R H locs cells slots QQ ls hR hl w => ?_) kk
  obtain ⟨z, hz, hn, hP⟩ := hR
  exact va_bald C.1 C.2.1 (gt_K C) hP q 2 (cx_get (rp_lt hn ho) ho) rfl hi hd w
theorem rn_zald {q N : Nat} {a : Nat → Int32} {i : Int32} (hd : decode M.2.1 pc = .ok (.baload, 1)) (ho : f q = some (.inl (3, N, .inl a))) (hi : vp_in i N) (kk : Wp g M (pc + 1) lv (.int (a i.toNatClampNeg) :: st) f k n Q) : Wp g M pc lv (.int i :: .ref q :: st) f k n Q := by
  refine Wp.go (fun p e s m args below meth c C R H locs cells slots QQ ls hR hl w => ?_) kk
  obtain ⟨z, hz, hn, hP⟩ := hR
  exact va_zald C.1 C.2.1 (gt_K C) hP q 3 (cx_get (rp_lt hn ho) ho) rfl hi hd w
theorem rn_aald {q N r : Nat} {a : Nat → Option Nat} {i : Int32} (hd : decode M.2.1 pc = .ok (.aaload, 1)) (ho : f q = some (.inl (4, N, .inr (.inr (.inr (.inr a)))))) (hi : vp_in i N) (hr : a i.toNatClampNeg = some r) (kk : Wp g M (pc + 1) lv (.ref r :: st) f k n Q) : Wp g M pc lv (.int i :: .ref q :: st) f k n Q := by
  refine Wp.go (fun p e s m args below meth c C R H locs cells slots QQ ls hR hl w => ?_) kk
  obtain ⟨z, hz, hn, hP⟩ := hR
  refine va_aldq C.1 C.2.1 (gt_K C) hP q 4 (cx_get (rp_lt hn ho) ho) rfl hi hd ?_
  rw [hr]
  exact w
theorem rn_iast {q N : Nat} {a : Nat → Int32} {i x : Int32} (hd : decode M.2.1 pc = .ok (.iastore, 1)) (ho : f q = some (.inl (0, N, .inl a))) (hi : vp_in i N) (kk : Wp g M (pc + 1) lv st (va_up f q (some (.inl (0, N, .inl (upd a i.toNatClampNeg x))))) k n Q) : Wp g M pc lv (.int x :: .int i :: .ref q :: st) f k n Q := by
  intro p e s m args below meth c C K0 N0 cells slots h1 h2 H locs hz hR hF hL ls hl
  obtain ⟨z, hz0, hn, hP⟩ := hR
  have hq := rp_lt hn ho
  refine va_iast C.1 C.2.1 (gt_K C) hP cx_D (va_S.start hL) q 0 (cx_get hq ho) rfl hi hd fun H1 locs1 hP1 hD1 hS1 => W.bound fun hle => ?_
  obtain ⟨q1, q2, q3⟩ := st_after (locs := locs) hz hF (by omega) hS1 hle
  exact kk p e s m args below meth c C K0 N0 cells slots h1 h2 H1 locs1 q1 (rp_put (sz := 0) hn hq (by omega) hP1) q2 q3 ls hl
theorem rn_last {q N : Nat} {a : Nat → Int64} {i : Int32} {x : Int64} (hd : decode M.2.1 pc = .ok (.lastore, 1)) (ho : f q = some (.inl (1, N, .inr (.inl a)))) (hi : vp_in i N) (kk : Wp g M (pc + 1) lv st (va_up f q (some (.inl (1, N, .inr (.inl (vp_updL a i.toNatClampNeg x)))))) k n Q) : Wp g M pc lv (.long x :: .int i :: .ref q :: st) f k n Q := by
  intro p e s m args below meth c C K0 N0 cells slots h1 h2 H locs hz hR hF hL ls hl
  obtain ⟨z, hz0, hn, hP⟩ := hR
  have hq := rp_lt hn ho
  refine va_last C.1 C.2.1 (gt_K C) hP cx_D (va_S.start hL) q 1 (cx_get hq ho) rfl hi hd fun H1 locs1 hP1 hD1 hS1 => W.bound fun hle => ?_
  obtain ⟨q1, q2, q3⟩ := st_after (locs := locs) hz hF (by omega) hS1 hle
  exact kk p e s m args below meth c C K0 N0 cells slots h1 h2 H1 locs1 q1 (rp_put (sz := 0) hn hq (by omega) hP1) q2 q3 ls hl
theorem rn_bast {q N : Nat} {a : Nat → Int32} {i x : Int32} (hd : decode M.2.1 pc = .ok (.bastore, 1)) (ho : f q = some (.inl (2, N, .inl a))) (hi : vp_in i N) (kk : Wp g M (pc + 1) lv st (va_up f q (some (.inl (2, N, .inl (upd a i.toNatClampNeg (vp_nar .byte x)))))) k n Q) : Wp g M pc lv (.int x :: .int i :: .ref q :: st) f k n Q := by
  intro p e s m args below meth c C K0 N0 cells slots h1 h2 H locs hz hR hF hL ls hl
  obtain ⟨z, hz0, hn, hP⟩ := hR
  have hq := rp_lt hn ho
  refine va_bast C.1 C.2.1 (gt_K C) hP cx_D (va_S.start hL) q 2 (cx_get hq ho) rfl hi hd fun H1 locs1 hP1 hD1 hS1 => W.bound fun hle => ?_
  obtain ⟨q1, q2, q3⟩ := st_after (locs := locs) hz hF (by omega) hS1 hle
  exact kk p e s m args below meth c C K0 N0 cells slots h1 h2 H1 locs1 q1 (rp_put (sz := 0) hn hq (by omega) hP1) q2 q3 ls hl
theorem rn_zast {q N : Nat} {a : Nat → Int32} {i x : Int32} (hd : decode M.2.1 pc = .ok (.bastore, 1)) (ho : f q = some (.inl (3, N, .inl a))) (hi : vp_in i N) (kk : Wp g M (pc + 1) lv st (va_up f q (some (.inl (3, N, .inl (upd a i.toNatClampNeg (vp_nar .boolean x)))))) k n Q) : Wp g M pc lv (.int x :: .int i :: .ref q :: st) f k n Q := by
  intro p e s m args below meth c C K0 N0 cells slots h1 h2 H locs hz hR hF hL ls hl
  obtain ⟨z, hz0, hn, hP⟩ := hR
  have hq := rp_lt hn ho
  refine va_zast C.1 C.2.1 (gt_K C) hP cx_D (va_S.start hL) q 3 (cx_get hq ho) rfl hi hd fun H1 locs1 hP1 hD1 hS1 => W.bound fun hle => ?_
  obtain ⟨q1, q2, q3⟩ := st_after (locs := locs) hz hF (by omega) hS1 hle
  exact kk p e s m args below meth c C K0 N0 cells slots h1 h2 H1 locs1 q1 (rp_put (sz := 0) hn hq (by omega) hP1) q2 q3 ls hl
theorem rn_aast {q N x : Nat} {a : Nat → Option Nat} {i : Int32} {fs : List Value} (hd : decode M.2.1 pc = .ok (.aastore, 1)) (ho : f q = some (.inl (4, N, .inr (.inr (.inr (.inr a)))))) (hx : f x = some (.inr (4, fs))) (hi : vp_in i N) (kk : Wp g M (pc + 1) lv st (va_up f q (some (.inl (4, N, .inr (.inr (.inr (.inr (va_up a i.toNatClampNeg (some x))))))))) k n Q) : Wp g M pc lv (.ref x :: .int i :: .ref q :: st) f k n Q := by
  intro p e s m args below meth c C K0 N0 cells slots h1 h2 H locs hz hR hF hL ls hl
  obtain ⟨z, hz0, hn, hP⟩ := hR
  have hq := rp_lt hn ho
  have hxq := rp_lt hn hx
  refine va_astq (r := (RX4, TX4, 10)) C.1 C.2.1 (gt_K C) hP cx_D (va_S.start hL) q 4 x 4 (cx_get hq ho) rfl (cx_get hxq hx) rfl hi hd fun H1 locs1 hP1 hD1 hS1 => W.bound fun hle => ?_
  obtain ⟨q1, q2, q3⟩ := st_after (locs := locs) hz hF (by omega) hS1 hle
  refine kk p e s m args below meth c C K0 N0 cells slots h1 h2 H1 locs1 q1 (rp_put (sz := 0) hn hq (by omega) ?_) q2 q3 ls hl
  have e1 : (fun j => ((va_up a i.toNatClampNeg (some x)) j).map (fun q => g.2.2.2 + q)) = va_up (fun j => (a j).map (fun q => g.2.2.2 + q)) i.toNatClampNeg (some (g.2.2.2 + x)) := by
    funext j
    by_cases hj : j = i.toNatClampNeg
    · subst hj; simp [va_up]
    · simp [va_up, hj]
  show va_P _ _ (List.set _ _ (_, .inl (g.2.2.1 4, (N, .inr (.inr (.inr (.inr _))))))) _
  rw [e1]
  exact hP1
-- new cells
theorem new_place {g : GG} {f : Mm} {z q : Nat} {e : va_E} {H1 : Heap} (hP : va_P g.2.1 vwCl (cx g z f ++ [(q, e)]) H1) (hD : va_D (fun q => g.2.2.2 ≤ q) (cx g z f ++ [(q, e)])) (hle : H1.size ≤ g.2.2.2 + z + 1) : q = g.2.2.2 + z ∧ H1.size = g.2.2.2 + z + 1 := by
  have hlen : (cx g z f).length = z := by simp [cx]
  have hget : (cx g z f ++ [(q, e)])[z]? = some (q, e) := by rw [List.getElem?_append_right (by omega), hlen, Nat.sub_self]; rfl
  have h1 := (hP z _ hget).lt
  have h2 : g.2.2.2 ≤ q := hD.2 z _ hget
  have h3 : g.2.2.2 + z ≤ q := by
    rcases Nat.lt_or_ge q (g.2.2.2 + z) with a | a
    · exfalso
      have hi : q - g.2.2.2 < z := by omega
      have hg2 : (cx g z f ++ [(q, e)])[q - g.2.2.2]? = some (g.2.2.2 + (q - g.2.2.2), tE g ((f (q - g.2.2.2)).getD (.inr (0, [])))) := by
        rw [List.getElem?_append_left (by omega)]
        simp [cx, hi]
      have := hD.1 _ _ _ _ hg2 hget (by show g.2.2.2 + (q - g.2.2.2) = q; omega)
      omega
    · exact a
  dsimp only at h1
  omega
theorem rp_push {g : GG} {f : Mm} {z : Nat} {e : Ent} {H1 : Heap} (hn : ∀ q, f q = none ↔ z ≤ q) (hz : H1.size = g.2.2.2 + z + 1) (hP : va_P g.2.1 vwCl (cx g z f ++ [(g.2.2.2 + z, tE g e)]) H1) : rp g (va_up f z (some e)) H1 := by
  refine ⟨z + 1, by omega, fun j => ?_, by rw [← cx_push]; exact hP⟩
  by_cases hj : j = z
  · subst hj
    simp [va_up]
  · simp [va_up, hj, hn j]
    omega
theorem fresh_at {f : Mm} {z z0 : Nat} (hn : ∀ q, f q = none ↔ z0 ≤ q) (h1 : ∀ q, q < z → f q ≠ none) (h2 : f z = none) : z0 = z := by
  have a := (hn z).mp h2
  rcases Nat.lt_or_ge z0 z with b | b
  · exact absurd ((hn z0).mpr (Nat.le_refl _)) (h1 z0 b)
  · omega
theorem rn_new {idx ci z N : Nat} {C : String} {T : u_T} {fs : List Value} (hd : decode M.2.1 pc = .ok (.new idx, 3)) (hk : Cond.classLink M.1.cls idx C ∈ gt) (hi : Cond.instantiable C N ∈ gt) (hz : Cond.initialized C ∈ gt) (hc : vwCl[ci]? = some (C, T, N)) (hin : ∀ w ∈ u_ws C T N, w ∈ gt) (ty : Nat → FieldType) (hty : ∀ k, k < N → parseFieldDescriptor (T k).2.2.1 = some (ty k)) (hfs : ∀ j, j < N → defaultValue (ty j) = vp_V fs j) (htv : ∀ b, fs.map (tV b) = fs)
    (hf1 : ∀ q, q < z → f q ≠ none) (hf2 : f z = none) (kk : Wp g M (pc + 3) lv (.ref z :: st) (va_up f z (some (.inr (ci, fs)))) k n Q) : Wp g M pc lv st f (k + 1) (n + N) Q := by
  intro p e s m args below meth c C0 K0 N0 cells slots h1 h2 H locs hz1 hR hF hL ls hl
  obtain ⟨z0, hz0, hn, hP⟩ := hR
  have ez := fresh_at hn hf1 hf2
  subst ez
  have hb := C0.2.2.2.2.2.2.2.2.2
  refine va_new (ci := ci) (fs := fs) (C := C) (T := T) (N := N) C0.1 C0.2.1 C0.2.2.2.2.2.1 hin ty hty C0.2.2.2.2.1 (C0.2.2.2.2.2.1 _ hk) (C0.2.2.2.2.2.1 _ hi) (C0.2.2.2.2.2.1 _ hz) (gt_K C0) hP cx_D (va_S.start hL) (fun q hq => by show g.2.2.2 ≤ q; omega) hc hfs (by show cells + 1 ≤ K0; omega) (by show slots + N ≤ N0; omega) hd fun q H1 hP1 hD1 hS1 => W.bound fun hle => ?_
  obtain ⟨e1, e2⟩ := new_place hP1 hD1 (by omega)
  subst e1
  refine kk p e s m args below meth c C0 K0 N0 (cells + 1) (slots + N) (by omega) (by omega) H1 locs (by omega) (rp_push hn e2 ?_) (fun q hq => ?_) hL ls hl
  · show va_P _ _ (_ ++ [(_, .inr (ci, fs.map (tV g.2.2.2)))]) _
    rw [htv]
    exact hP1
  · rw [hS1.2.1 q (by omega) (by show ¬ g.2.2.2 ≤ q; omega)]
    exact hF q hq
theorem rn_newa {t z N : Nat} {atype : ArrayType} {ty : FieldType} {i : Int32} {a0 : vp_A} (hd : decode M.2.1 pc = .ok (.newarray atype, 2)) (hty : newarray.typeOf atype = ty) (ha : Cond.arrayClass ty ∈ gt) (htt : ∀ g : GG, (tysG g)[t]? = some (g.2.2.1 t, ty)) (hprim : ∀ C, ty ≠ .object C) (hcell : ∀ cA : ClassId, vp_cell cA a0 = arrV cA N (fun _ => defaultValue ty)) (hta : ∀ b, tA b a0 = a0) (hi0 : ¬ i < 0) (hi1 : i.toNatClampNeg = N) (hby : N * componentBytes ty ≤ 536870912)
    (hf1 : ∀ q, q < z → f q ≠ none) (hf2 : f z = none) (kk : Wp g M (pc + 2) lv (.ref z :: st) (va_up f z (some (.inl (t, a0)))) k n Q) : Wp g M pc lv (.int i :: st) f (k + 1) (n + N) Q := by
  intro p e s m args below meth c C0 K0 N0 cells slots h1 h2 H locs hz1 hR hF hL ls hl
  obtain ⟨z0, hz0, hn, hP⟩ := hR
  have ez := fresh_at hn hf1 hf2
  subst ez
  subst hty
  have hb := C0.2.2.2.2.2.2.2.2.2
  refine va_newa (atype := atype) (a0 := a0) (N' := N) C0.1 C0.2.1 (C0.2.2.2.2.2.1 _ ha) rfl (gt_K C0) hP cx_D (va_S.start hL) (fun q hq => by show g.2.2.2 ≤ q; omega) hcell hi0 hi1 hby (by show cells + 1 ≤ K0; omega) (by show slots + N ≤ N0; omega) hd fun q cA H1 hK1 hP1 hD1 hS1 => W.bound fun hle => ?_
  obtain ⟨e1, e2⟩ := new_place hP1 hD1 (by omega)
  subst e1
  have eA : cA = g.2.2.1 t := by
    have x1 := (hK1.2 5 (cA, newarray.typeOf atype) rfl).2
    have x2 := ((gt_K C0).2 t _ (htt g)).2
    cases atype <;> exact Option.some.inj (x1.symm.trans x2)
  subst eA
  refine kk p e s m args below meth c C0 K0 N0 (cells + 1) (slots + N) (by omega) (by omega) H1 locs (by omega) (rp_push hn e2 ?_) (fun q hq => ?_) hL ls hl
  · show va_P _ _ (_ ++ [(_, .inl (g.2.2.1 t, tA g.2.2.2 a0))]) _
    rw [hta]
    exact hP1
  · rw [hS1.2.1 q (by omega) (by show ¬ g.2.2.2 ≤ q; omega)]
    exact hF q hq
theorem rn_newq {z N idx : Nat} {i : Int32} (hd : decode M.2.1 pc = .ok (.anewarray idx, 3)) (hk : Cond.classLink M.1.cls idx RX4 ∈ gt) (hi0 : ¬ i < 0) (hi1 : i.toNatClampNeg = N) (hby : N * 4 ≤ 536870912)
    (hf1 : ∀ q, q < z → f q ≠ none) (hf2 : f z = none) (kk : Wp g M (pc + 3) lv (.ref z :: st) (va_up f z (some (.inl (4, N, .inr (.inr (.inr (.inr (fun _ => none)))))))) k n Q) : Wp g M pc lv (.int i :: st) f (k + 1) (n + N) Q := by
  intro p e s m args below meth c C0 K0 N0 cells slots h1 h2 H locs hz1 hR hF hL ls hl
  obtain ⟨z0, hz0, hn, hP⟩ := hR
  have ez := fresh_at hn hf1 hf2
  subst ez
  have hb := C0.2.2.2.2.2.2.2.2.2
  refine va_newq (N' := N) C0.1 C0.2.1 C0.2.2.2.2.1 (C0.2.2.2.2.2.1 _ hk) C0.2.2.2.2.2.2.2.2.1.2.2 (gt_K C0) hP cx_D (va_S.start hL) (fun q hq => by show g.2.2.2 ≤ q; omega) hi0 hi1 hby (by show cells + 1 ≤ K0; omega) (by show slots + N ≤ N0; omega) hd fun q cA H1 hK1 hP1 hD1 hS1 => W.bound fun hle => ?_
  obtain ⟨e1, e2⟩ := new_place hP1 hD1 (by omega)
  subst e1
  have eA : cA = g.2.2.1 4 := by
    obtain ⟨_, _, _, _, _, x1⟩ := (hK1.2 5 (cA, .object RX4) rfl).2
    obtain ⟨_, _, _, _, _, x2⟩ := ((gt_K C0).2 4 (g.2.2.1 4, .object RX4) rfl).2
    exact Option.some.inj (x1.symm.trans x2)
  subst eA
  refine kk p e s m args below meth c C0 K0 N0 (cells + 1) (slots + N) (by omega) (by omega) H1 locs (by omega) (rp_push hn e2 ?_) (fun q hq => ?_) hL ls hl
  · exact hP1
  · rw [hS1.2.1 q (by omega) (by show ¬ g.2.2.2 ≤ q; omega)]
    exact hF q hq
-- contracts and calls
theorem tV_args (b : Nat) : ∀ (vs : List Value) (i : Nat), lv_args i (vs.map (tV b)) = (lv_args i vs).map (fun q => (q.1, tV b q.2))
  | [], _ => rfl
  | v :: vs, i => by
    simp only [List.map_cons, lv_args, tV_cat, tV_args b vs]
/-- the locals at a method's start -/
def lin : List Value → List (Option Value)
  | [] => []
  | v :: vs => if v.category = 2 then some v :: none :: lin vs else some v :: lin vs
theorem lin_args : ∀ (vs : List Value) (i : Nat) (pre : List (Option Value)), pre.length = i → ∀ (j : Nat) (v : Value), i ≤ j → lg (pre ++ lin vs) j = some v → (j, v) ∈ lv_args i vs
  | [], i, pre, hp, j, v, hj, h => by
    have := lg_lt h
    simp [lin] at this
    omega
  | w :: vs, i, pre, hp, j, v, hj, h => by
    by_cases hc : w.category = 2
    · simp only [lv_args, hc, if_true]
      simp only [lin, hc, if_true] at h
      by_cases hji : j = i
      · subst hji
        have e : lg (pre ++ some w :: none :: lin vs) j = some w := by
          rw [← hp]
          clear hp hj h
          induction pre with
          | nil => rfl
          | cons a l ih => simpa [lg] using ih
        rw [e] at h
        cases h
        exact List.mem_cons_self
      · refine List.mem_cons_of_mem _ ?_
        by_cases hj1 : j = i + 1
        · exfalso
          subst hj1
          have e : lg (pre ++ some w :: none :: lin vs) (i + 1) = none := by
            rw [← hp]
            clear hp hj h hji
            induction pre with
            | nil => rfl
            | cons a l ih => simpa [lg] using ih
          rw [e] at h
          cases h
        · exact lin_args vs (i + 2) (pre ++ [some w, none]) (by simp [hp]) j v (by omega) (by simpa using h)
    · simp only [lv_args, hc, if_false]
      simp only [lin, hc, if_false] at h
      by_cases hji : j = i
      · subst hji
        have e : lg (pre ++ some w :: lin vs) j = some w := by
          rw [← hp]
          clear hp hj h
          induction pre with
          | nil => rfl
          | cons a l ih => simpa [lg] using ih
        rw [e] at h
        cases h
        exact List.mem_cons_self
      · exact List.mem_cons_of_mem _ (lin_args vs (i + 1) (pre ++ [some w]) (by simp [hp]) j v (by omega) (by simpa using h))
theorem lg_pad : ∀ (l : List (Option Value)) (m j : Nat) (v : Value), lg (l ++ List.replicate m none) j = some v → lg l j = some v
  | [], m, j, v, h => by
    exfalso
    induction m generalizing j with
    | zero => simp [lg] at h
    | succ m ih =>
      cases j with
      | zero => simp [lg, List.replicate_succ] at h
      | succ j => exact ih j (by simpa [lg, List.replicate_succ] using h)
  | a :: l, m, 0, v, h => by simpa [lg] using h
  | a :: l, m, j + 1, v, h => by
    have := lg_pad l m j v (by simpa [lg] using h)
    simpa [lg] using this
theorem lg_sl_len (b : Nat) (vs : List Value) : (lg_sl (vs.map (tV b))).length = (lin vs).length := by
  induction vs with
  | nil => rfl
  | cons v vs ih =>
    by_cases hc : v.category = 2
    · simp [lin, hc, lg_sl, tV_cat] at ih ⊢
      omega
    · simp [lin, hc, lg_sl, tV_cat] at ih ⊢
      omega
theorem Ct.of {as : List Value} {np : Nat} (hm : mOK M np) (hlen : (lin as).length ≤ M.2.2.1) (hw : Wp g M 0 (lin as ++ List.replicate (M.2.2.1 - (lin as).length) none) [] f k n Q) : Ct g M as f k n Q := by
  refine Met.ofW (cc := M.2.1) (maxL := M.2.2.1) (ret := M.2.2.2.1) hm.2.2.2.2.2 rfl ?_
  intro p e s m args below meth c s₁ B hml hv
  obtain ⟨rfl, hR, hK⟩ := hv
  have hts := atoms_spec (ws := Cond.code M.1 M.2.1 M.2.2.1 M.2.2.2.1 :: gt) B.pre
  have hown : s.vm.findClass M.1.cls = some m.cls := findClass_of_methodNamed B.named
  have hb : g.2.2.2 ≤ s.heap.size := by
    obtain ⟨z, hz, -⟩ := hR
    omega
  have C : Cx g M p s m (as.map (tV g.2.2.2)).toArray meth c := ⟨B.exec, B.bytes, B.returns, hml, hown, fun w hw => hts w (List.mem_cons_of_mem _ hw), B.notSynchronized, (name_of_methodNamed B.named B.method).1, hK, hb⟩
  have hl0 := lv_entry (as.map (tV g.2.2.2)) (n := M.2.2.1) (by rw [lg_sl_len]; exact hlen)
  rw [lg_entry_eq]
  refine hw p e s m _ below meth c C k n 0 0 (by omega) (by omega) s.heap [] rfl hR (fun _ _ => rfl) (fun _ h => by cases h) _ ⟨hl0.1, hl0.2.1, fun i v hi => ?_⟩
  refine hl0.2.2 (i, tV g.2.2.2 v) ?_
  rw [tV_args]
  exact List.mem_map.mpr ⟨(i, v), lin_args as 0 [] rfl i v (Nat.zero_le _) (lg_pad _ _ _ _ hi), rfl⟩
theorem Ct.mono {as : List Value} {Q' : Option Value → Mm → Prop} (hq : ∀ r f', Q' r f' → Q r f') (h : Ct g M as f k n Q') : Ct g M as f k n Q := by
  intro p e a1 a2 a3 s m args below h1 h2 h3 h4
  obtain ⟨t, o, b1, b2, b3, ⟨r, f', c1, c2, c3⟩, b5⟩ := h p e a1 a2 a3 s m args below h1 h2 h3 h4
  exact ⟨t, o, b1, b2, b3, ⟨r, f', c1, hq r f' c2, c3⟩, b5⟩
theorem Pcx.blind {as : List Value} : FrameBlind (Pcx g as f) := fun _ U _ _ h => ⟨h.1, h.2.1, Kx.same (s := U) rfl h.2.2⟩
theorem gt_good {M : MD} {np : Nat} (hm : mOK M np) : GoodIn gt (Cond.code M.1 M.2.1 M.2.2.1 M.2.2.2.1 :: gt) := by
  intro w hw
  rcases List.mem_cons.mp hw with rfl | h
  · exact ⟨hm.1, good_of_word (List.mem_filter.mp hm.1).2⟩
  · exact ⟨h, good_of_word (List.mem_filter.mp h).2⟩
/-- behind a call -/
theorem Wp.after {p : Program} {e : Env} {s : State} {m : MethodId} {args : Array Value} {below : List Frame} {meth : Method} {c : Code} (C : Cx g M p s m args meth c) {K0 N0 cells slots k1 n1 : Nat} (h1 : cells + (k1 + k) = K0) (h2 : slots + (n1 + n) ≤ N0) {H : Heap} {locs : List Loc} (hz : H.size = s.heap.size + cells) (hF : ∀ q, q < g.2.2.2 → H[q]? = s.heap[q]?) (hL : ∀ q ∈ locs, g.2.2.2 ≤ q.base) {ls : Array Slot} (hl : lh g ls M.2.2.1 lv) {st0 rest : List Value} {a : Array Value} {Q1 : Option Value → Mm → Prop}
    (run : va_Run p g.1 e (rmM M K0 N0) s m args below meth c H locs cells slots k1 n1 (F0 m pc ls st0) (rest.map (tV g.2.2.2)) (Qo g k1 Q1 a) (fun q => g.2.2.2 ≤ q))
    (kk : ∀ r f1, Q1 r f1 → Wp g M (pc + 3) lv (r.toList ++ rest) f1 k n Q) : W p g.1 e (rmM M K0 N0) s m args below meth c H locs cells slots (MQ below (Qo g K0 Q) args s K0 N0 (fun q => g.2.2.2 ≤ q)) (F0 m pc ls st0) := by
  intro T hT X
  obtain ⟨v, st₀, t, T', L, h0, X', hL1, e1, e2, ⟨r, f1, hv, hQ, hrp, hsz, hfr⟩, go⟩ := run T hT X
  have hv' : v = r.map (tV g.2.2.2) := by injection hv
  subst hv'
  have hw := kk r f1 hQ p e s m args below meth c C K0 N0 (cells + k1) (slots + n1) (by omega) (by omega) T'.heap (locs ++ L) (by rw [e1, hsz, h0, hz]; omega) (by rw [e1]; exact hrp) (fun q hq => by rw [e1, hfr q hq, h0]; exact hF q hq)
    (fun q hq => by
      rcases List.mem_append.mp hq with h | h
      · exact hL q h
      · exact hL1 q h) ls hl T' rfl X'
  obtain ⟨t2, a1, b1⟩ := hw
  refine ⟨t2, go t2 ?_, b1⟩
  have es : (r.toList ++ rest).map (tV g.2.2.2) = (r.map (tV g.2.2.2)).toList ++ rest.map (tV g.2.2.2) := by cases r <;> simp
  rw [es] at a1
  exact a1
theorem cat_map (b : Nat) (rest : List Value) : ((rest.map (tV b)).map fun v => v.category) = rest.map fun v => v.category := by
  rw [List.map_map]
  exact List.map_congr_left (fun v _ => tV_cat b v)
theorem rn_callV_k {Mj : MD} {idx np ci q k1 n1 : Nat} {as rest : List Value} {fs : List Value} {Q1 : Option Value → Mm → Prop} (hd : decode M.2.1 pc = .ok (.invokevirtual idx, 3)) (hm : mVl M.1.cls idx Mj np ci) (hr : Mj.2.2.2.2.1 + 1 ≤ M.2.2.2.2.1 ∧ 8 + (Mj.2.2.1 + 11) + Mj.2.2.2.2.2 ≤ M.2.2.2.2.2)
    (hc : Ct g Mj (.ref q :: as) f k1 n1 Q1) (ho : f q = some (.inr (ci, fs))) (hst : st = as.reverse ++ .ref q :: rest) (hlen : as.length = np) (hcat : (rest.map fun v => v.category).sum ≤ 8)
    (kk : ∀ r f1, Q1 r f1 → Wp g M (pc + 3) lv (r.toList ++ rest) f1 k n Q) : Wp g M pc lv st f (k1 + k) (n1 + n) Q := by
  intro p e s m args below meth c C K0 N0 cells slots h1 h2 H locs hz hR hF hL ls hl
  subst hst
  obtain ⟨hlk, hok, hin, hsel, T, N, hci⟩ := hm
  have hR' := hR
  obtain ⟨z, hz0, hn, hP⟩ := hR
  have hq := rp_lt hn ho
  have hpre : PreV s H Mj.1.cls (g.2.2.2 + q) (Pcx g (.ref q :: as) f) (as.map (tV g.2.2.2)) :=
    ⟨Pcx.blind, va_recv (gt_K C) hP hci (cx_get hq ho), fun U hU hW => ⟨rfl, by rw [hU]; exact hR', Kx.warm hW C.2.2.2.2.2.2.2.2.1⟩⟩
  have hstk : ((as.reverse ++ Value.ref q :: rest).map (tV g.2.2.2)) = (as.map (tV g.2.2.2)).reverse ++ .ref (g.2.2.2 + q) :: rest.map (tV g.2.2.2) := by simp [tV]
  have hroom : 2 * (F0 m pc ls ((as.reverse ++ Value.ref q :: rest).map (tV g.2.2.2))).monitorRoom + ((rest.map (tV g.2.2.2)).map fun v => v.category).sum ≤ 8 := lv_room (by rw [cat_map]; exact hcat)
  have hcells : cells + k1 ≤ (rmM M K0 N0).cells ∧ slots + n1 ≤ (rmM M K0 N0).slots := ⟨by show cells + k1 ≤ K0; omega, by show slots + n1 ≤ N0; omega⟩
  rcases hlk with hlk | ⟨host, hlk⟩
  · have cw : CallW (rmM M K0 N0) s args M.1.cls Mj.1.cls idx Mj.1 Mj.2.1 Mj.2.2.1 Mj.2.2.2.1 (Cond.code Mj.1 Mj.2.1 Mj.2.2.1 Mj.2.2.2.1 :: gt) (rmM Mj k1 n1) k1 n1 np :=
      ⟨callB_of np C.2.2.2.2.2.1 (gt_good hok) rfl rfl rfl (C.2.2.2.2.2.1 _ hok.2.1) (C.2.2.2.2.2.1 _ hlk) ⟨hok.2.2.1, hok.2.2.2.1, hok.2.2.2.2.1⟩ hr, C.2.2.2.2.2.1 _ hin, C.2.2.2.2.2.1 _ hsel⟩
    exact Wp.after C h1 h2 hz hF hL hl (va_runV (As := as.map (tV g.2.2.2)) (rest := rest.map (tV g.2.2.2)) ⟨C.1, C.2.1, C.2.2.2.1, C.2.2.2.2.1, C.2.2.2.2.2.1⟩ hc cw hpre rfl (by simpa using hlen) hl.1 hstk hroom hd hcells) kk
  · have cw := va_cnB (R := rmM M K0 N0) (rm := rmM Mj k1 n1) (mc := k1) (ms := n1) np C.2.2.2.2.2.1 (gt_good hok) rfl rfl rfl (C.2.2.2.2.2.2.2.2.1.2.1 _ hlk) (C.2.2.2.2.2.1 _ hok.2.1) ⟨hok.2.2.1, hok.2.2.2.1, hok.2.2.2.2.1⟩ hr
    exact Wp.after C h1 h2 hz hF hL hl (va_runVN (As := as.map (tV g.2.2.2)) (rest := rest.map (tV g.2.2.2)) ⟨C.1, C.2.1, C.2.2.2.1, C.2.2.2.2.1, C.2.2.2.2.2.1⟩ hc ⟨cw, C.2.2.2.2.2.1 _ hin, C.2.2.2.2.2.1 _ hsel⟩ hpre rfl (by simpa using hlen) hl.1 hstk hroom hd hcells) kk
theorem rn_callV {Mj : MD} {idx np ci q : Nat} {as rest : List Value} {fs : List Value} {Q1 : Option Value → Mm → Prop} (hd : decode M.2.1 pc = .ok (.invokevirtual idx, 3)) (hm : mVl M.1.cls idx Mj np ci) (hr : Mj.2.2.2.2.1 + 1 ≤ M.2.2.2.2.1 ∧ 8 + (Mj.2.2.1 + 11) + Mj.2.2.2.2.2 ≤ M.2.2.2.2.2)
    (hc : Ct g Mj (.ref q :: as) f 0 0 Q1) (ho : f q = some (.inr (ci, fs))) (hst : st = as.reverse ++ .ref q :: rest) (hlen : as.length = np) (hcat : (rest.map fun v => v.category).sum ≤ 8)
    (kk : ∀ r f1, Q1 r f1 → Wp g M (pc + 3) lv (r.toList ++ rest) f1 k n Q) : Wp g M pc lv st f k n Q := by
  have := rn_callV_k hd hm hr hc ho hst hlen hcat kk
  simpa using this
theorem rn_callS {Mj : MD} {idx np : Nat} {as rest : List Value} {Q1 : Option Value → Mm → Prop} (hd : decode M.2.1 pc = .ok (.invokestatic idx, 3)) (hm : mSl M.1.cls idx Mj np) (hr : Mj.2.2.2.2.1 + 1 ≤ M.2.2.2.2.1 ∧ 8 + (Mj.2.2.1 + 11) + Mj.2.2.2.2.2 ≤ M.2.2.2.2.2)
    (hc : Ct g Mj as f 0 0 Q1) (hst : st = as.reverse ++ rest) (hlen : as.length = np) (hcat : (rest.map fun v => v.category).sum ≤ 8)
    (kk : ∀ r f1, Q1 r f1 → Wp g M (pc + 3) lv (r.toList ++ rest) f1 k n Q) : Wp g M pc lv st f k n Q := by
  intro p e s m args below meth c C K0 N0 cells slots h1 h2 H locs hz hR hF hL ls hl
  subst hst
  obtain ⟨hlk, hok, hin⟩ := hm
  have hpre : PreS s H (Pcx g as f) (as.map (tV g.2.2.2)) := ⟨Pcx.blind, fun U hU hW => ⟨rfl, by rw [hU]; exact hR, Kx.warm hW C.2.2.2.2.2.2.2.2.1⟩⟩
  have hstk : ((as.reverse ++ rest).map (tV g.2.2.2)) = (as.map (tV g.2.2.2)).reverse ++ rest.map (tV g.2.2.2) := by simp
  have hroom : 2 * (F0 m pc ls ((as.reverse ++ rest).map (tV g.2.2.2))).monitorRoom + ((rest.map (tV g.2.2.2)).map fun v => v.category).sum ≤ 8 := lv_room (by rw [cat_map]; exact hcat)
  have hcells : cells + 0 ≤ (rmM M K0 N0).cells ∧ slots + 0 ≤ (rmM M K0 N0).slots := ⟨by show cells + 0 ≤ K0; omega, by show slots + 0 ≤ N0; omega⟩
  rcases hlk with hlk | ⟨host, hlk⟩
  · have cw : CallB (rmM M K0 N0) s args M.1.cls idx Mj.1 Mj.2.1 Mj.2.2.1 Mj.2.2.2.1 (Cond.code Mj.1 Mj.2.1 Mj.2.2.1 Mj.2.2.2.1 :: gt) (rmM Mj 0 0) 0 0 np :=
      callB_of np C.2.2.2.2.2.1 (gt_good hok) rfl rfl rfl (C.2.2.2.2.2.1 _ hok.2.1) (C.2.2.2.2.2.1 _ hlk) ⟨hok.2.2.1, hok.2.2.2.1, hok.2.2.2.2.1⟩ hr
    exact Wp.after C (k := k) (n := n) (k1 := 0) (n1 := 0) (by omega) (by omega) hz hF hL hl (va_runS (As := as.map (tV g.2.2.2)) (rest := rest.map (tV g.2.2.2)) ⟨C.1, C.2.1, C.2.2.2.1, C.2.2.2.2.1, C.2.2.2.2.2.1⟩ hc ⟨cw, C.2.2.2.2.2.1 _ hin⟩ hpre rfl (by simpa using hlen) hl.1 hstk hroom hd hcells) kk
  · have cw := va_cnB (R := rmM M K0 N0) (rm := rmM Mj 0 0) (mc := 0) (ms := 0) np C.2.2.2.2.2.1 (gt_good hok) rfl rfl rfl (C.2.2.2.2.2.2.2.2.1.2.1 _ hlk) (C.2.2.2.2.2.1 _ hok.2.1) ⟨hok.2.2.1, hok.2.2.2.1, hok.2.2.2.2.1⟩ hr
    exact Wp.after C (k := k) (n := n) (k1 := 0) (n1 := 0) (by omega) (by omega) hz hF hL hl (va_runSN (As := as.map (tV g.2.2.2)) (rest := rest.map (tV g.2.2.2)) ⟨C.1, C.2.1, C.2.2.2.1, C.2.2.2.2.1, C.2.2.2.2.2.1⟩ hc ⟨cw, C.2.2.2.2.2.1 _ hin, trivial⟩ hpre rfl (by simpa using hlen) hl.1 hstk hroom hd hcells) kk
theorem rn_callI {Mj : MD} {idx np q k1 n1 : Nat} {as rest : List Value} {Q1 : Option Value → Mm → Prop} (hd : decode M.2.1 pc = .ok (.invokespecial idx, 3)) (hm : mIl M.1.cls idx Mj np) (hr : Mj.2.2.2.2.1 + 1 ≤ M.2.2.2.2.1 ∧ 8 + (Mj.2.2.1 + 11) + Mj.2.2.2.2.2 ≤ M.2.2.2.2.2)
    (hc : Ct g Mj (.ref q :: as) f k1 n1 Q1) (hst : st = as.reverse ++ .ref q :: rest) (hlen : as.length = np) (hcat : (rest.map fun v => v.category).sum ≤ 8)
    (kk : ∀ r f1, Q1 r f1 → Wp g M (pc + 3) lv (r.toList ++ rest) f1 k n Q) : Wp g M pc lv st f (k1 + k) (n1 + n) Q := by
  intro p e s m args below meth c C K0 N0 cells slots h1 h2 H locs hz hR hF hL ls hl
  subst hst
  obtain ⟨hlk, hok, hin, hname, hret⟩ := hm
  have hpre : PreS s H (Pcx g (.ref q :: as) f) (.ref (g.2.2.2 + q) :: as.map (tV g.2.2.2)) := ⟨Pcx.blind, fun U hU hW => ⟨rfl, by rw [hU]; exact hR, Kx.warm hW C.2.2.2.2.2.2.2.2.1⟩⟩
  have hstk : ((as.reverse ++ Value.ref q :: rest).map (tV g.2.2.2)) = (as.map (tV g.2.2.2)).reverse ++ .ref (g.2.2.2 + q) :: rest.map (tV g.2.2.2) := by simp [tV]
  have hroom : 2 * (F0 m pc ls ((as.reverse ++ Value.ref q :: rest).map (tV g.2.2.2))).monitorRoom + ((rest.map (tV g.2.2.2)).map fun v => v.category).sum ≤ 8 := lv_room (by rw [cat_map]; exact hcat)
  have hcells : cells + k1 ≤ (rmM M K0 N0).cells ∧ slots + n1 ≤ (rmM M K0 N0).slots := ⟨by show cells + k1 ≤ K0; omega, by show slots + n1 ≤ N0; omega⟩
  rcases hlk with hlk | ⟨host, hlk⟩
  · have cw : CallB (rmM M K0 N0) s args M.1.cls idx Mj.1 Mj.2.1 Mj.2.2.1 none (Cond.code Mj.1 Mj.2.1 Mj.2.2.1 Mj.2.2.2.1 :: gt) (rmM Mj k1 n1) k1 n1 np :=
      callB_of np C.2.2.2.2.2.1 (gt_good hok) (by rw [hret]) rfl rfl (C.2.2.2.2.2.1 _ hok.2.1) (C.2.2.2.2.2.1 _ hlk) ⟨hok.2.2.1, hok.2.2.2.1, hok.2.2.2.2.1⟩ hr
    exact Wp.after C h1 h2 hz hF hL hl (va_runI (As := as.map (tV g.2.2.2)) (rest := rest.map (tV g.2.2.2)) ⟨C.1, C.2.1, C.2.2.2.1, C.2.2.2.2.1, C.2.2.2.2.2.1⟩ hc ⟨cw, hname, C.2.2.2.2.2.1 _ hin⟩ hpre rfl (by simpa using hlen) hl.1 hstk hroom hd hcells) kk
  · have cw := va_cnB (R := rmM M K0 N0) (rm := rmM Mj k1 n1) (mc := k1) (ms := n1) (ret := none) np C.2.2.2.2.2.1 (gt_good hok) (by rw [hret]) rfl rfl (C.2.2.2.2.2.2.2.2.1.2.1 _ hlk) (C.2.2.2.2.2.1 _ hok.2.1) ⟨hok.2.2.1, hok.2.2.2.1, hok.2.2.2.2.1⟩ hr
    exact Wp.after C h1 h2 hz hF hL hl (va_runIN (As := as.map (tV g.2.2.2)) (rest := rest.map (tV g.2.2.2)) ⟨C.1, C.2.1, C.2.2.2.1, C.2.2.2.2.1, C.2.2.2.2.2.1⟩ hc ⟨cw, hname, C.2.2.2.2.2.1 _ hin⟩ hpre rfl (by simpa using hlen) hl.1 hstk hroom hd hcells) kk
theorem rn_obj {idx q : Nat} {rest : List Value} (hd : decode M.2.1 pc = .ok (.invokespecial idx, 3)) (hlk : Cond.methodLink M.1.cls idx objectInit ∈ gt) (hr : 1 ≤ M.2.2.2.2.1 ∧ 20 ≤ M.2.2.2.2.2) (hcat : (rest.map fun v => v.category).sum ≤ 8) (kk : Wp g M (pc + 3) lv rest f k n Q) : Wp g M pc lv (.ref q :: rest) f k n Q := by
  intro p e s m args below meth c C K0 N0 cells slots h1 h2 H locs hz hR hF hL ls hl
  refine W.objInit C.1 C.2.1 C.2.2.2.2.1 (C.2.2.2.2.2.1 _ hlk) (C.2.2.2.2.2.1 _ lo_inst) (C.2.2.2.2.2.1 _ lo_code) rfl (by rw [C.2.2.2.1]; exact hl.1) (a := g.2.2.2 + q) (rest := rest.map (tV g.2.2.2)) rfl hd hr.1 ?_ ?_
  · show 2 * 0 + ((rest.map (tV g.2.2.2)).map fun v => v.category).sum + 12 ≤ M.2.2.2.2.2
    rw [cat_map]
    omega
  · exact kk p e s m args below meth c C K0 N0 cells slots h1 h2 H locs hz hR hF hL ls hl
theorem rn_max {idx : Nat} {x y : Int32} (hd : decode M.2.1 pc = .ok (.invokestatic idx, 3)) (hlk : Cond.methodLink M.1.cls idx yJ9_max_7cf53 ∈ gt) (hr : 1 ≤ M.2.2.2.2.1 ∧ 21 ≤ M.2.2.2.2.2) (hcat : (st.map fun v => v.category).sum ≤ 8) (kk : Wp g M (pc + 3) lv (.int (if x < y then y else x) :: st) f k n Q) : Wp g M pc lv (.int y :: .int x :: st) f k n Q := by
  intro p e s m args below meth c C K0 N0 cells slots h1 h2 H locs hz hR hF hL ls hl
  refine va_mmax C.1 C.2.1 (by rw [C.2.2.2.1]; exact hl.1.symm) C.2.2.2.2.1 (C.2.2.2.2.2.1 _ hlk) (C.2.2.2.2.2.1 _ lS_yJ9_max_7cf53) (C.2.2.2.2.2.1 _ lzJ9) (C.2.2.2.2.2.1 _ lC_yJ9_max_7cf53) hr.1 ?_ (by show cells ≤ K0; omega) (by show slots ≤ N0; omega) hd ?_
  · show ((st.map (tV g.2.2.2)).map fun v => v.category).sum + 13 ≤ M.2.2.2.2.2
    rw [cat_map]
    omega
  · exact kk p e s m args below meth c C K0 N0 cells slots h1 h2 H locs hz hR hF hL ls hl
theorem rn_min {idx : Nat} {x y : Int32} (hd : decode M.2.1 pc = .ok (.invokestatic idx, 3)) (hlk : Cond.methodLink M.1.cls idx yJ9_min_7cf53 ∈ gt) (hr : 1 ≤ M.2.2.2.2.1 ∧ 21 ≤ M.2.2.2.2.2) (hcat : (st.map fun v => v.category).sum ≤ 8) (kk : Wp g M (pc + 3) lv (.int (if y < x then y else x) :: st) f k n Q) : Wp g M pc lv (.int y :: .int x :: st) f k n Q := by
  intro p e s m args below meth c C K0 N0 cells slots h1 h2 H locs hz hR hF hL ls hl
  refine va_mmin C.1 C.2.1 (by rw [C.2.2.2.1]; exact hl.1.symm) C.2.2.2.2.1 (C.2.2.2.2.2.1 _ hlk) (C.2.2.2.2.2.1 _ lS_yJ9_min_7cf53) (C.2.2.2.2.2.1 _ lzJ9) (C.2.2.2.2.2.1 _ lC_yJ9_min_7cf53) hr.1 ?_ (by show cells ≤ K0; omega) (by show slots ≤ N0; omega) hd ?_
  · show ((st.map (tV g.2.2.2)).map fun v => v.category).sum + 13 ≤ M.2.2.2.2.2
    rw [cat_map]
    omega
  · exact kk p e s m args below meth c C K0 N0 cells slots h1 h2 H locs hz hR hF hL ls hl
end Rows
