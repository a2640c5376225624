-- MAKING: rows for constructors; a memory with z places
def FZ (f : Mm) (z : Nat) : Prop := ∀ q, f q = none ↔ z ≤ q
theorem FZ.up {f : Mm} {z : Nat} {e : Ent} (h : FZ f z) : FZ (va_up f z (some e)) (z + 1) := by
  intro j
  by_cases hj : j = z
  · subst hj
    rw [up_same]
    constructor
    · intro a; cases a
    · intro a; omega
  · rw [up_ne hj, h j]
    omega
theorem FZ.put {f : Mm} {z q : Nat} {e : Ent} (h : FZ f z) (hq : q < z) : FZ (va_up f q (some e)) z := rp_up h hq
theorem FZ.a {f : Mm} {z : Nat} (h : FZ f z) : ∀ q, q < z → f q ≠ none := fun q hq e => by have := (h q).mp e; omega
theorem FZ.b {f : Mm} {z : Nat} (h : FZ f z) : f z = none := (h z).mpr (Nat.le_refl _)
theorem FZ.lt {f : Mm} {z q : Nat} {e : Ent} (h : FZ f z) (ho : f q = some e) : q < z := rp_lt h ho
section Rows2
variable {g : GG} {M : MD} {pc : Nat} {lv : List (Option Value)} {st : List Value} {f : Mm} {k n kt nt2 : Nat} {Q : Option Value → Mm → Prop}
theorem rf_put {idx ci kf q z : Nat} {fs : List Value} {v : Value} {ty : FieldType} (hd : decode M.2.1 pc = .ok (.putfield idx, 3)) (hg : pfl M.1.cls idx ci kf ty) (ho : f q = some (.inr (ci, fs))) (hnw : narrow ty (tV g.2.2.2 v) = tV g.2.2.2 v) (hfit : fits ty (tV g.2.2.2 v) = true) (hl0 : kf < fs.length) (hz : FZ f z)
    (kk : ∀ f1, FZ f1 z → (∀ j, j ≠ q → f1 j = f j) → f1 q = some (.inr (ci, fs.set kf v)) → Wp g M (pc + 3) lv st f1 k n Q) : Wp g M pc lv (v :: .ref q :: st) f k n Q :=
  rn_put hd hg ho hnw hfit hl0 (kk _ (hz.put (hz.lt ho)) (fun _ hj => up_ne hj) (up_same _ _ _))
theorem rf_putF {idx ci kf q z : Nat} {fs : List Value} {v : Value} {ty : FieldType} (hd : decode M.2.1 pc = .ok (.putfield idx, 3)) (hg : pfF M.1.cls idx ci kf ty) (hini : M.1.name = "<init>") (ho : f q = some (.inr (ci, fs))) (hnw : narrow ty (tV g.2.2.2 v) = tV g.2.2.2 v) (hfit : fits ty (tV g.2.2.2 v) = true) (hl0 : kf < fs.length) (hz : FZ f z)
    (kk : ∀ f1, FZ f1 z → (∀ j, j ≠ q → f1 j = f j) → f1 q = some (.inr (ci, fs.set kf v)) → Wp g M (pc + 3) lv st f1 k n Q) : Wp g M pc lv (v :: .ref q :: st) f k n Q :=
  rn_putF hd hg hini ho hnw hfit hl0 (kk _ (hz.put (hz.lt ho)) (fun _ hj => up_ne hj) (up_same _ _ _))
theorem rf_new {idx ci z N : Nat} {C : String} {T : u_T} {fs : List Value} (hd : decode M.2.1 pc = .ok (.new idx, 3)) (hk : Cond.classLink M.1.cls idx C ∈ gt) (hi : Cond.instantiable C N ∈ gt) (hzi : Cond.initialized C ∈ gt) (hc : vwCl[ci]? = some (C, T, N)) (hin : ∀ w ∈ u_ws C T N, w ∈ gt) (ty : Nat → FieldType) (hty : ∀ k, k < N → parseFieldDescriptor (T k).2.2.1 = some (ty k)) (hfs : ∀ j, j < N → defaultValue (ty j) = vp_V fs j) (htv : ∀ b, fs.map (tV b) = fs)
    (hk2 : kt = k + 1) (hn2 : nt2 = n + N) (hz : FZ f z) (kk : ∀ f1, FZ f1 (z + 1) → (∀ j, j ≠ z → f1 j = f j) → f1 z = some (.inr (ci, fs)) → Wp g M (pc + 3) lv (.ref z :: st) f1 k n Q) : Wp g M pc lv st f kt nt2 Q := by
  subst hk2 hn2
  exact rn_new hd hk hi hzi hc hin ty hty hfs htv hz.a hz.b (kk _ hz.up (fun _ hj => up_ne hj) (up_same _ _ _))
theorem rf_callI {Mj : MD} {idx np q k1 n1 : Nat} {as rest : List Value} {Q1 : Option Value → Mm → Prop} (hd : decode M.2.1 pc = .ok (.invokespecial idx, 3)) (hm : mIl M.1.cls idx Mj np) (hr : Mj.2.2.2.2.1 + 1 ≤ M.2.2.2.2.1 ∧ 8 + (Mj.2.2.1 + 11) + Mj.2.2.2.2.2 ≤ M.2.2.2.2.2)
    (hc : Ct g Mj (.ref q :: as) f k1 n1 Q1) (hst : st = as.reverse ++ .ref q :: rest) (hlen : as.length = np) (hcat : (rest.map fun v => v.category).sum ≤ 8) (hk2 : kt = k1 + k) (hn2 : nt2 = n1 + n)
    (kk : ∀ r f1, Q1 r f1 → Wp g M (pc + 3) lv (r.toList ++ rest) f1 k n Q) : Wp g M pc lv st f kt nt2 Q := by
  subst hk2 hn2
  exact rn_callI hd hm hr hc hst hlen hcat kk
theorem nI_n0 {N : Nat} (hN : N ≤ 100000) : ¬ nI N < 0 ∧ (nI N).toNatClampNeg = N := ⟨nI_pos (by omega), nI_clamp (by omega)⟩
theorem rf_ia {z q N idx ci kf : Nat} {fs : List Value} (hd : decode M.2.1 pc = .ok (.newarray .int, 2)) (hd2 : decode M.2.1 (pc + 2) = .ok (.putfield idx, 3)) (hg : pfF M.1.cls idx ci kf (.array .int)) (hini : M.1.name = "<init>") (ho : f q = some (.inr (ci, fs))) (hl0 : kf < fs.length) (hN : N ≤ 100000) (hk2 : kt = k + 1) (hn2 : nt2 = n + N) (hz : FZ f z)
    (kk : ∀ f1, FZ f1 (z + 1) → (∀ j, j ≠ q → j ≠ z → f1 j = f j) → f1 q = some (.inr (ci, fs.set kf (.ref z))) → f1 z = some (.inl (0, N, .inl (fun _ => 0))) → Wp g M (pc + 2 + 3) lv st f1 k n Q) : Wp g M pc lv (.int (nI N) :: .ref q :: st) f kt nt2 Q := by
  subst hk2 hn2
  have hqz : q ≠ z := by have := hz.lt ho; omega
  refine rn_newa (t := 0) (a0 := (N, .inl (fun _ => 0))) (ty := .int) hd rfl la_int (fun _ => rfl) (fun C h => by cases h) (fun _ => rfl) (fun _ => rfl) (nI_n0 hN).1 (nI_n0 hN).2 (by show N * 4 ≤ 536870912; omega) hz.a hz.b ?_
  refine rn_putF hd2 hg hini ((up_ne hqz).trans ho) rfl rfl hl0 ?_
  exact kk _ (hz.up.put (by have := hz.lt ho; omega)) (fun j h1 h2 => (up_ne h1).trans (up_ne h2)) (up_same _ _ _) ((up_ne (Ne.symm hqz)).trans (up_same _ _ _))
theorem rf_ba {z q N idx ci kf : Nat} {fs : List Value} (hd : decode M.2.1 pc = .ok (.newarray .byte, 2)) (hd2 : decode M.2.1 (pc + 2) = .ok (.putfield idx, 3)) (hg : pfF M.1.cls idx ci kf (.array .byte)) (hini : M.1.name = "<init>") (ho : f q = some (.inr (ci, fs))) (hl0 : kf < fs.length) (hN : N ≤ 100000) (hk2 : kt = k + 1) (hn2 : nt2 = n + N) (hz : FZ f z)
    (kk : ∀ f1, FZ f1 (z + 1) → (∀ j, j ≠ q → j ≠ z → f1 j = f j) → f1 q = some (.inr (ci, fs.set kf (.ref z))) → f1 z = some (.inl (2, N, .inl (fun _ => 0))) → Wp g M (pc + 2 + 3) lv st f1 k n Q) : Wp g M pc lv (.int (nI N) :: .ref q :: st) f kt nt2 Q := by
  subst hk2 hn2
  have hqz : q ≠ z := by have := hz.lt ho; omega
  refine rn_newa (t := 2) (a0 := (N, .inl (fun _ => 0))) (ty := .byte) hd rfl la_byte (fun _ => rfl) (fun C h => by cases h) (fun _ => rfl) (fun _ => rfl) (nI_n0 hN).1 (nI_n0 hN).2 (by show N * 1 ≤ 536870912; omega) hz.a hz.b ?_
  refine rn_putF hd2 hg hini ((up_ne hqz).trans ho) rfl rfl hl0 ?_
  exact kk _ (hz.up.put (by have := hz.lt ho; omega)) (fun j h1 h2 => (up_ne h1).trans (up_ne h2)) (up_same _ _ _) ((up_ne (Ne.symm hqz)).trans (up_same _ _ _))
theorem rf_za {z q N idx ci kf : Nat} {fs : List Value} (hd : decode M.2.1 pc = .ok (.newarray .boolean, 2)) (hd2 : decode M.2.1 (pc + 2) = .ok (.putfield idx, 3)) (hg : pfF M.1.cls idx ci kf (.array .boolean)) (hini : M.1.name = "<init>") (ho : f q = some (.inr (ci, fs))) (hl0 : kf < fs.length) (hN : N ≤ 100000) (hk2 : kt = k + 1) (hn2 : nt2 = n + N) (hz : FZ f z)
    (kk : ∀ f1, FZ f1 (z + 1) → (∀ j, j ≠ q → j ≠ z → f1 j = f j) → f1 q = some (.inr (ci, fs.set kf (.ref z))) → f1 z = some (.inl (3, N, .inl (fun _ => 0))) → Wp g M (pc + 2 + 3) lv st f1 k n Q) : Wp g M pc lv (.int (nI N) :: .ref q :: st) f kt nt2 Q := by
  subst hk2 hn2
  have hqz : q ≠ z := by have := hz.lt ho; omega
  refine rn_newa (t := 3) (a0 := (N, .inl (fun _ => 0))) (ty := .boolean) hd rfl la_boolean (fun _ => rfl) (fun C h => by cases h) (fun _ => rfl) (fun _ => rfl) (nI_n0 hN).1 (nI_n0 hN).2 (by show N * 1 ≤ 536870912; omega) hz.a hz.b ?_
  refine rn_putF hd2 hg hini ((up_ne hqz).trans ho) rfl rfl hl0 ?_
  exact kk _ (hz.up.put (by have := hz.lt ho; omega)) (fun j h1 h2 => (up_ne h1).trans (up_ne h2)) (up_same _ _ _) ((up_ne (Ne.symm hqz)).trans (up_same _ _ _))
theorem rf_la {z q N idx ci kf : Nat} {fs : List Value} (hd : decode M.2.1 pc = .ok (.newarray .long, 2)) (hd2 : decode M.2.1 (pc + 2) = .ok (.putfield idx, 3)) (hg : pfF M.1.cls idx ci kf (.array .long)) (hini : M.1.name = "<init>") (ho : f q = some (.inr (ci, fs))) (hl0 : kf < fs.length) (hN : N ≤ 100000) (hk2 : kt = k + 1) (hn2 : nt2 = n + N) (hz : FZ f z)
    (kk : ∀ f1, FZ f1 (z + 1) → (∀ j, j ≠ q → j ≠ z → f1 j = f j) → f1 q = some (.inr (ci, fs.set kf (.ref z))) → f1 z = some (.inl (1, N, .inr (.inl (fun _ => 0)))) → Wp g M (pc + 2 + 3) lv st f1 k n Q) : Wp g M pc lv (.int (nI N) :: .ref q :: st) f kt nt2 Q := by
  subst hk2 hn2
  have hqz : q ≠ z := by have := hz.lt ho; omega
  refine rn_newa (t := 1) (a0 := (N, .inr (.inl (fun _ => 0)))) (ty := .long) hd rfl la_long (fun _ => rfl) (fun C h => by cases h) (fun _ => rfl) (fun _ => rfl) (nI_n0 hN).1 (nI_n0 hN).2 (by show N * 8 ≤ 536870912; omega) hz.a hz.b ?_
  refine rn_putF hd2 hg hini ((up_ne hqz).trans ho) rfl rfl hl0 ?_
  exact kk _ (hz.up.put (by have := hz.lt ho; omega)) (fun j h1 h2 => (up_ne h1).trans (up_ne h2)) (up_same _ _ _) ((up_ne (Ne.symm hqz)).trans (up_same _ _ _))
theorem rf_qa {z q N idx idx2 ci kf : Nat} {fs : List Value} {ty : FieldType} (hd : decode M.2.1 pc = .ok (.anewarray idx, 3)) (hd2 : decode M.2.1 (pc + 3) = .ok (.putfield idx2, 3)) (hk : Cond.classLink M.1.cls idx RX4 ∈ gt) (hg : pfF M.1.cls idx2 ci kf ty) (hini : M.1.name = "<init>") (ho : f q = some (.inr (ci, fs))) (hnw : ∀ b : Nat, narrow ty (.ref b) = .ref b) (hfit : ∀ b : Nat, fits ty (.ref b) = true) (hl0 : kf < fs.length) (hN : N ≤ 100000) (hk2 : kt = k + 1) (hn2 : nt2 = n + N) (hz : FZ f z)
    (kk : ∀ f1, FZ f1 (z + 1) → (∀ j, j ≠ q → j ≠ z → f1 j = f j) → f1 q = some (.inr (ci, fs.set kf (.ref z))) → f1 z = some (.inl (4, N, .inr (.inr (.inr (.inr (fun _ => none)))))) → Wp g M (pc + 3 + 3) lv st f1 k n Q) : Wp g M pc lv (.int (nI N) :: .ref q :: st) f kt nt2 Q := by
  subst hk2 hn2
  have hqz : q ≠ z := by have := hz.lt ho; omega
  refine rn_newq hd hk (nI_n0 hN).1 (nI_n0 hN).2 (by omega) hz.a hz.b ?_
  refine rn_putF hd2 hg hini ((up_ne hqz).trans ho) (hnw _) (hfit _) hl0 ?_
  exact kk _ (hz.up.put (by have := hz.lt ho; omega)) (fun j h1 h2 => (up_ne h1).trans (up_ne h2)) (up_same _ _ _) ((up_ne (Ne.symm hqz)).trans (up_same _ _ _))
end Rows2
