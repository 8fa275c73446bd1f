/-! Methods that make cells: the world is a list of cells that grows; k cells of n slots are new so far. -/
abbrev Tys : Type := List (ClassId × FieldType)
def NC (M : Mi) (p : Program) (s : State) (m : MethodId) (args : Array Value) (meth : Method) (c : Code) (A : Nat → Prop) : Prop :=
  p.tables.exec = Jvm.exec ∧ c.code = M.2.1 ∧ c.maxLocals = M.2.2.1 ∧ meth.sig.returnType = M.2.2.2 ∧ meth.locks = false ∧ s.vm.findClass M.1.cls = some m.cls ∧ (∀ w ∈ wsG, w.before args s = true) ∧ (∀ q : Nat, s.heap.size ≤ q → A q) ∧ meth.name = M.1.name
abbrev Nq (D : va_G) (Q : va_W → Tys → Prop) (A : Nat → Prop) : Array Value → State → Outcome → State → Prop := va_Qv (fun u : va_W × Tys => Q u.1 u.2) (fun u t => va_P D vwCl u.1 t.heap ∧ va_K D vwCl u.2 t ∧ va_D A u.1) A
def NX (l : Launch) (D : va_G) (M : Mi) (R : Room) (pc : Nat) (lv : List (Nat × Value)) (st : List Value) (ws : va_W) (ts : Tys) (k n : Nat) (Q : va_W → Tys → Prop) : Prop :=
  ∀ (p : Program) (e : Env) (s : State) (m : MethodId) (args : Array Value) (below : List Frame) (meth : Method) (c : Code) (A : Nat → Prop), NC M p s m args meth c A →
    ∀ (H : Heap) (locs : List Loc) (ls : Array Slot), va_P D vwCl ws H → va_K D vwCl ts s → va_D A ws → va_S A s.heap H locs → lv_has ls M.2.2.1 lv →
      W p l e R s m args below meth c H locs k n (MQ below (Nq D Q A) args s R.cells R.slots A) (F0 m pc ls st)
def NT (l : Launch) (D : va_G) (M : Mi) (R : Room) (av : List Value) (ws : va_W) (ts : Tys) (Q : va_W → Tys → Prop) : Prop :=
  ∀ sz : Nat, Met l M.1 (.code M.1 M.2.1 M.2.2.1 M.2.2.2 :: wsG) R (va_Pc av (fun U => U.heap.size = sz ∧ va_P D vwCl ws U.heap ∧ va_K D vwCl ts U ∧ va_D (fun _ => True) ws)) (Nq D Q (va_A ws sz)) R.cells R.slots (va_A ws sz)
section NR
variable {l : Launch} {D : va_G} {M : Mi} {R : Room} {pc : Nat} {lv lv' : List (Nat × Value)} {st : List Value} {ws ws' : va_W} {ts : Tys} {k n : Nat} {Q : va_W → Tys → Prop}
theorem nt_of {av : List Value} (hpl : plainName M.1.cls = true) (hn : (lg_sl av).length ≤ M.2.2.1) (hl : lv_args 0 av = lv) (h : NX l D M R 0 lv [] ws ts 0 0 Q) : NT l D M R av ws ts Q := by
  subst hl
  intro sz
  refine Met.ofW (cc := M.2.1) (maxL := M.2.2.1) (ret := M.2.2.2) hpl rfl ?_
  intro p e s m args below meth c s₁ B hml hv
  obtain ⟨rfl, hsz, hP, hK, hD0⟩ := hv
  have hts := atoms_spec (ws := .code M.1 M.2.1 M.2.2.1 M.2.2.2 :: wsG) B.pre
  subst hsz
  rw [lg_entry_eq]
  exact h p e s m _ below meth c (va_A ws s.heap.size) ⟨B.exec, B.bytes, hml, B.returns, B.notSynchronized, findClass_of_methodNamed B.named, fun w hw => hts w (List.mem_cons_of_mem _ hw), fun q hq => Or.inr hq, (name_of_methodNamed B.named B.method).1⟩ s.heap [] _ hP hK hD0.self va_S.rf (lv_entry av hn)
theorem n_iconst {z : Int} {v : Int32} (hd : decode M.2.1 pc = .ok (.iconst z, 1)) (hv : Int32.ofInt z = v) (kk : NX l D M R (pc + 1) lv (.int v :: st) ws ts k n Q) : NX l D M R pc lv st ws ts k n Q := by
  intro p e s m args below meth c A C H locs ls hP hK hD hS hl
  exact lv_iconst C.1 C.2.1 hd hv (kk p e s m args below meth c A C H locs ls hP hK hD hS hl)
theorem n_bipush {z : Int} {v : Int32} (hd : decode M.2.1 pc = .ok (.bipush z, 2)) (hv : (Int8.ofInt z).toInt32 = v) (kk : NX l D M R (pc + 2) lv (.int v :: st) ws ts k n Q) : NX l D M R pc lv st ws ts k n Q := by
  intro p e s m args below meth c A C H locs ls hP hK hD hS hl
  exact lv_bipush C.1 C.2.1 hd hv (kk p e s m args below meth c A C H locs ls hP hK hD hS hl)
theorem n_sipush {z : Int} {v : Int32} (hd : decode M.2.1 pc = .ok (.sipush z, 3)) (hv : (Int16.ofInt z).toInt32 = v) (kk : NX l D M R (pc + 3) lv (.int v :: st) ws ts k n Q) : NX l D M R pc lv st ws ts k n Q := by
  intro p e s m args below meth c A C H locs ls hP hK hD hS hl
  exact lv_sipush C.1 C.2.1 hd hv (kk p e s m args below meth c A C H locs ls hP hK hD hS hl)
theorem n_ldc2 {idx : Nat} {v : Int64} (hd : decode M.2.1 pc = .ok (.ldc2_w idx, 3)) (hw : Cond.constantLong M.1.cls idx v ∈ wsG) (kk : NX l D M R (pc + 3) lv (.long v :: st) ws ts k n Q) : NX l D M R pc lv st ws ts k n Q := by
  intro p e s m args below meth c A C H locs ls hP hK hD hS hl
  exact lv_ldc2 C.1 C.2.1 C.2.2.2.2.2.1 (C.2.2.2.2.2.2.1 _ hw) hd (kk p e s m args below meth c A C H locs ls hP hK hD hS hl)
theorem n_iload_n {kx : Fin 4} {i : Nat} {x : Int32} (hd : decode M.2.1 pc = .ok (.iload_n kx, 1)) (hi : (kx : Nat) = i) (j : Nat) (hj : lv[j]? = some (i, .int x)) (kk : NX l D M R (pc + 1) lv (.int x :: st) ws ts k n Q) : NX l D M R pc lv st ws ts k n Q := by
  intro p e s m args below meth c A C H locs ls hP hK hD hS hl
  exact lv_iload_n C.1 C.2.1 hd hi (lv_at hl j hj) (kk p e s m args below meth c A C H locs ls hP hK hD hS hl)
theorem n_aload_n {kx : Fin 4} {i : Nat} {x : Nat} (hd : decode M.2.1 pc = .ok (.aload_n kx, 1)) (hi : (kx : Nat) = i) (j : Nat) (hj : lv[j]? = some (i, .ref x)) (kk : NX l D M R (pc + 1) lv (.ref x :: st) ws ts k n Q) : NX l D M R pc lv st ws ts k n Q := by
  intro p e s m args below meth c A C H locs ls hP hK hD hS hl
  exact lv_aload_n C.1 C.2.1 hd hi (lv_at hl j hj) (kk p e s m args below meth c A C H locs ls hP hK hD hS hl)
theorem n_istore_n {kx : Fin 4} {i : Nat} {x : Int32} (hd : decode M.2.1 pc = .ok (.istore_n kx, 1)) (hi : (kx : Nat) = i) (hn : i < M.2.2.1) (hl' : (i, Value.int x) :: lv.filter (fun q => !(q.1 == i) && !(q.1 + 1 == i && q.2.category == 2)) = lv') (kk : NX l D M R (pc + 1) lv' st ws ts k n Q) : NX l D M R pc lv (.int x :: st) ws ts k n Q := by
  intro p e s m args below meth c A C H locs ls hP hK hD hS hl
  exact lv_istore_n C.1 C.2.1 hd hi hl hn hl' (fun ls' h' => kk p e s m args below meth c A C H locs ls' hP hK hD hS h')
theorem n_iinc {i : Nat} {z : Int} {x v : Int32} (hd : decode M.2.1 pc = .ok (.iinc i z, 3)) (j : Nat) (hj : lv[j]? = some (i, .int x)) (hv : x + Int32.ofInt z = v) (hn : i < M.2.2.1) (hl' : (i, Value.int v) :: lv.filter (fun q => !(q.1 == i) && !(q.1 + 1 == i && q.2.category == 2)) = lv') (kk : NX l D M R (pc + 3) lv' st ws ts k n Q) : NX l D M R pc lv st ws ts k n Q := by
  intro p e s m args below meth c A C H locs ls hP hK hD hS hl
  exact lv_iinc C.1 C.2.1 hd hl hj hv hn hl' (fun ls' h' => kk p e s m args below meth c A C H locs ls' hP hK hD hS h')
theorem n_dup {va : Value} (hd : decode M.2.1 pc = .ok (.dup, 1)) (hva : va.category = 1) (kk : NX l D M R (pc + 1) lv (va :: va :: st) ws ts k n Q) : NX l D M R pc lv (va :: st) ws ts k n Q := by
  intro p e s m args below meth c A C H locs ls hP hK hD hS hl
  exact lv_dup C.1 C.2.1 hd hva (kk p e s m args below meth c A C H locs ls hP hK hD hS hl)
theorem n_goto {off : Int} (hd : decode M.2.1 pc = .ok (.goto off, 3)) (tgt : Nat) (ht : (pc : Int) + off = (tgt : Int)) (kk : NX l D M R tgt lv st ws ts k n Q) : NX l D M R pc lv st ws ts k n Q := by
  intro p e s m args below meth c A C H locs ls hP hK hD hS hl
  exact lv_goto C.1 C.2.1 hd ht (kk p e s m args below meth c A C H locs ls hP hK hD hS hl)
theorem n_ge_in {x y : Int32} {off : Int} (hd : decode M.2.1 pc = .ok (.if_icmp .ge off, 3)) (tgt : Nat) (ht : (pc : Int) + off = (tgt : Int)) (hc : x < y) (kk : NX l D M R (pc + 3) lv st ws ts k n Q) : NX l D M R pc lv (.int y :: .int x :: st) ws ts k n Q := by
  intro p e s m args below meth c A C H locs ls hP hK hD hS hl
  refine lv_icmp_ge C.1 C.2.1 hd ht (fun g => ?_) (fun _ => kk p e s m args below meth c A C H locs ls hP hK hD hS hl)
  exact absurd hc (by simpa using g)
theorem n_ge_out {x y : Int32} {off : Int} (hd : decode M.2.1 pc = .ok (.if_icmp .ge off, 3)) (tgt : Nat) (ht : (pc : Int) + off = (tgt : Int)) (hc : ¬ x < y) (kk : NX l D M R tgt lv st ws ts k n Q) : NX l D M R pc lv (.int y :: .int x :: st) ws ts k n Q := by
  intro p e s m args below meth c A C H locs ls hP hK hD hS hl
  refine lv_icmp_ge C.1 C.2.1 hd ht (fun _ => kk p e s m args below meth c A C H locs ls hP hK hD hS hl) (fun g => ?_)
  exact absurd (show x < y by simpa using g) hc
theorem n_get {ci idx o f N : Nat} {Cl : String} {T : u_T} {ty : Nat → FieldType} {fs : List Value} {a : Nat} {v : Value} (hk : KC ci Cl T N ty) (ho : ws[o]? = some (a, .inr (ci, fs))) (hf : f < N) (hv : fs[f]? = some v) (hw : Cond.fieldLink M.1.cls idx (T f).1 (T f).2.1 (T f).2.2.1 ∈ wsG) (hd : decode M.2.1 pc = .ok (.getfield idx, 3)) (kk : NX l D M R (pc + 3) lv (v :: st) ws ts k n Q) : NX l D M R pc lv (.ref a :: st) ws ts k n Q := by
  obtain ⟨k1, k2, k3, k4⟩ := hk
  intro p e s m args below meth c A C H locs ls hP hK hD hS hl
  exact va_get C.1 C.2.1 C.2.2.2.2.2.2.1 k2 C.2.2.2.2.2.1 hK hP o ho k1 f hf (C.2.2.2.2.2.2.1 _ hw) (fun _ h => h) hv hd (kk p e s m args below meth c A C H locs ls hP hK hD hS hl)
theorem n_put {ci idx o f N : Nat} {Cl : String} {T : u_T} {ty : Nat → FieldType} {fs : List Value} {a : Nat} {v : Value} (hk : KC ci Cl T N ty) (ho : ws[o]? = some (a, .inr (ci, fs))) (hf : f < N) (hfl : f < fs.length) (hn : narrow (ty f) v = v) (hfit : fits (ty f) v = true) (hfin : (T f).2.2.2 = false) (hw : Cond.fieldLink M.1.cls idx (T f).1 (T f).2.1 (T f).2.2.1 ∈ wsG) (hd : decode M.2.1 pc = .ok (.putfield idx, 3)) (hws : ws.set o (a, .inr (ci, fs.set f v)) = ws') (kk : NX l D M R (pc + 3) lv st ws' ts k n Q) : NX l D M R pc lv (v :: .ref a :: st) ws ts k n Q := by
  subst hws
  obtain ⟨k1, k2, k3, k4⟩ := hk
  intro p e s m args below meth c A C H locs ls hP hK hD hS hl
  exact va_put C.1 C.2.1 C.2.2.2.2.2.2.1 k2 ty k3 k4 C.2.2.2.2.2.1 hK hP hD hS o ho k1 f hf (C.2.2.2.2.2.2.1 _ hw) (fun _ h => h) hfin (k3 f hf) hn hfit hfl hd (fun H1 locs1 hP1 hD1 hS1 => kk p e s m args below meth c A C H1 locs1 ls hP1 hK hD1 hS1 hl)
theorem n_putF {ci idx o f N : Nat} {Cl : String} {T : u_T} {ty : Nat → FieldType} {fs : List Value} {a : Nat} {v : Value} (hk : KC ci Cl T N ty) (ho : ws[o]? = some (a, .inr (ci, fs))) (hf : f < N) (hfl : f < fs.length) (hn : narrow (ty f) v = v) (hfit : fits (ty f) v = true) (hfin : (T f).2.2.2 = true) (hin : M.1.name = "<init>") (hdecl : (T f).1 = M.1.cls) (hw : Cond.fieldLink M.1.cls idx (T f).1 (T f).2.1 (T f).2.2.1 ∈ wsG) (hd : decode M.2.1 pc = .ok (.putfield idx, 3)) (hws : ws.set o (a, .inr (ci, fs.set f v)) = ws') (kk : NX l D M R (pc + 3) lv st ws' ts k n Q) : NX l D M R pc lv (v :: .ref a :: st) ws ts k n Q := by
  subst hws
  obtain ⟨k1, k2, k3, k4⟩ := hk
  intro p e s m args below meth c A C H locs ls hP hK hD hS hl
  exact va_putF C.1 C.2.1 C.2.2.2.2.2.2.1 k2 ty k3 k4 C.2.2.2.2.2.1 hK hP hD hS o ho k1 f hf (C.2.2.2.2.2.2.1 _ hw) (fun _ h => h) hfin (C.2.2.2.2.2.2.2.2.trans hin) hdecl (k3 f hf) hn hfit hfl hd (fun H1 locs1 hP1 hD1 hS1 => kk p e s m args below meth c A C H1 locs1 ls hP1 hK hD1 hS1 hl)
theorem n_iast {o t0 N : Nat} {a : Nat} {cA : ClassId} {f : Nat → Int32} {i v : Int32} (ho : ws[o]? = some (a, .inl (cA, N, .inl f))) (ht : ts[t0]? = some (cA, .int)) (hin : vp_in i N) (hd : decode M.2.1 pc = .ok (.iastore, 1)) (hws : ws.set o (a, .inl (cA, N, .inl (upd f i.toNatClampNeg v))) = ws') (kk : NX l D M R (pc + 1) lv st ws' ts k n Q) : NX l D M R pc lv (.int v :: .int i :: .ref a :: st) ws ts k n Q := by
  subst hws
  intro p e s m args below meth c A C H locs ls hP hK hD hS hl
  exact va_iast C.1 C.2.1 hK hP hD hS o t0 ho ht hin hd (fun H1 locs1 hP1 hD1 hS1 => kk p e s m args below meth c A C H1 locs1 ls hP1 hK hD1 hS1 hl)
theorem n_last {o t0 N : Nat} {a : Nat} {cA : ClassId} {f : Nat → Int64} {i : Int32} {v : Int64} (ho : ws[o]? = some (a, .inl (cA, N, .inr (.inl f)))) (ht : ts[t0]? = some (cA, .long)) (hin : vp_in i N) (hd : decode M.2.1 pc = .ok (.lastore, 1)) (hws : ws.set o (a, .inl (cA, N, .inr (.inl (vp_updL f i.toNatClampNeg v)))) = ws') (kk : NX l D M R (pc + 1) lv st ws' ts k n Q) : NX l D M R pc lv (.long v :: .int i :: .ref a :: st) ws ts k n Q := by
  subst hws
  intro p e s m args below meth c A C H locs ls hP hK hD hS hl
  exact va_last C.1 C.2.1 hK hP hD hS o t0 ho ht hin hd (fun H1 locs1 hP1 hD1 hS1 => kk p e s m args below meth c A C H1 locs1 ls hP1 hK hD1 hS1 hl)
theorem n_newI {z : Int32} {N : Nat} (hw : Cond.arrayClass .int ∈ wsG) (hz : ¬ z < 0) (hN : z.toNatClampNeg = N) (hb : N * componentBytes .int ≤ 536870912) (hc : k + 1 ≤ R.cells) (hs : n + N ≤ R.slots) (hd : decode M.2.1 pc = .ok (.newarray .int, 2)) (kk : ∀ (q : Nat) (cA : ClassId), NX l D M R (pc + 2) lv (.ref q :: st) (ws ++ [(q, .inl (cA, N, .inl (fun _ => 0)))]) (ts ++ [(cA, .int)]) (k + 1) (n + N) Q) : NX l D M R pc lv (.int z :: st) ws ts k n Q := by
  intro p e s m args below meth c A C H locs ls hP hK hD hS hl
  exact va_newa (atype := .int) (a0 := (N, .inl (fun _ => 0))) C.1 C.2.1 (C.2.2.2.2.2.2.1 _ hw) rfl hK hP hD hS C.2.2.2.2.2.2.2.1 (fun _ => rfl) hz hN hb hc hs hd (fun q cA H1 hK1 hP1 hD1 hS1 => kk q cA p e s m args below meth c A C H1 locs ls hP1 hK1 hD1 hS1 hl)
theorem n_newL {z : Int32} {N : Nat} (hw : Cond.arrayClass .long ∈ wsG) (hz : ¬ z < 0) (hN : z.toNatClampNeg = N) (hb : N * componentBytes .long ≤ 536870912) (hc : k + 1 ≤ R.cells) (hs : n + N ≤ R.slots) (hd : decode M.2.1 pc = .ok (.newarray .long, 2)) (kk : ∀ (q : Nat) (cA : ClassId), NX l D M R (pc + 2) lv (.ref q :: st) (ws ++ [(q, .inl (cA, N, .inr (.inl (fun _ => 0))))]) (ts ++ [(cA, .long)]) (k + 1) (n + N) Q) : NX l D M R pc lv (.int z :: st) ws ts k n Q := by
  intro p e s m args below meth c A C H locs ls hP hK hD hS hl
  exact va_newa (atype := .long) (a0 := (N, .inr (.inl (fun _ => 0)))) C.1 C.2.1 (C.2.2.2.2.2.2.1 _ hw) rfl hK hP hD hS C.2.2.2.2.2.2.2.1 (fun _ => rfl) hz hN hb hc hs hd (fun q cA H1 hK1 hP1 hD1 hS1 => kk q cA p e s m args below meth c A C H1 locs ls hP1 hK1 hD1 hS1 hl)
theorem n_new {ci idx N : Nat} {Cl : String} {T : u_T} {ty : Nat → FieldType} {fs : List Value} (hk : KC ci Cl T N ty) (hw : Cond.classLink M.1.cls idx Cl ∈ wsG) (hw2 : Cond.instantiable Cl N ∈ wsG) (hw3 : Cond.initialized Cl ∈ wsG) (hfs : ∀ j, j < N → defaultValue (ty j) = vp_V fs j) (hc : k + 1 ≤ R.cells) (hs : n + N ≤ R.slots) (hd : decode M.2.1 pc = .ok (.new idx, 3)) (kk : ∀ q : Nat, NX l D M R (pc + 3) lv (.ref q :: st) (ws ++ [(q, .inr (ci, fs))]) ts (k + 1) (n + N) Q) : NX l D M R pc lv st ws ts k n Q := by
  obtain ⟨k1, k2, k3, k4⟩ := hk
  intro p e s m args below meth c A C H locs ls hP hK hD hS hl
  exact va_new C.1 C.2.1 C.2.2.2.2.2.2.1 k2 ty k3 C.2.2.2.2.2.1 (C.2.2.2.2.2.2.1 _ hw) (C.2.2.2.2.2.2.1 _ hw2) (C.2.2.2.2.2.2.1 _ hw3) hK hP hD hS C.2.2.2.2.2.2.2.1 k1 hfs hc hs hd (fun q H1 hP1 hD1 hS1 => kk q p e s m args below meth c A C H1 locs ls hP1 hK hD1 hS1 hl)
theorem n_obj {idx a : Nat} (hw : Cond.methodLink M.1.cls idx Lib.objectInit ∈ wsG) (hw2 : Cond.instanceMethod Lib.objectInit ∈ wsG) (hw3 : Cond.code Lib.objectInit ⟨#[0xb1]⟩ 1 none ∈ wsG) (hd : decode M.2.1 pc = .ok (.invokespecial idx, 3)) (hf : 1 ≤ R.frames) (hlo : (st.map fun v => v.category).sum + 12 ≤ R.locals) (kk : NX l D M R (pc + 3) lv st ws ts k n Q) : NX l D M R pc lv (.ref a :: st) ws ts k n Q := by
  intro p e s m args below meth c A C H locs ls hP hK hD hS hl
  refine W.objInit C.1 C.2.1 C.2.2.2.2.2.1 (C.2.2.2.2.2.2.1 _ hw) (C.2.2.2.2.2.2.1 _ hw2) (C.2.2.2.2.2.2.1 _ hw3) rfl (hl.1.trans C.2.2.1.symm) rfl hd hf ?_ (kk p e s m args below meth c A C H locs ls hP hK hD hS hl)
  show 2 * 0 + _ + 12 ≤ _
  omega
theorem n_ret (hr : M.2.2.2 = none) (hd : decode M.2.1 pc = .ok (.return_, 1)) (hc : k ≤ R.cells) (hs : n ≤ R.slots) (hq : Q ws ts) : NX l D M R pc lv [] ws ts k n Q := by
  intro p e s m args below meth c A C H locs ls hP hK hD hS hl
  refine W.widen (k := R.cells) (n := R.slots) hc hs ?_
  exact W.vret C.1 C.2.1 (C.2.2.2.1.trans hr) (fun t ht hw => ⟨⟨(ws, ts), rfl, hq, by rw [ht]; exact hP, va_K.moved hw.alike hK, hD⟩, hS.F ht⟩) hS.2.2 hd C.2.2.2.2.1
/-- a constructor of the cell at b is called: the cells wc (places isC) go in, w1 come back, the rest wr (places isR) stay -/
theorem n_init {M' : Mi} {R' : Room} {idx b nn : Nat} {wc wr : va_W} {tc : Tys} {Q' : va_W → Tys → Prop} (av : List Value) {stk : List Value} (isC isR isT : List Nat) (hk : MK M' nn) (hi : Cond.instanceMethod M'.1 ∈ wsG) (hin : M'.1.name = "<init>") (hrn : M'.2.2.2 = none) (hlk : Cond.methodLink M.1.cls idx M'.1 ∈ wsG) (hn : av.length = nn) (hst : stk = av.reverse ++ .ref b :: st) (hW : (st.map fun v => v.category).sum ≤ 8) (hR : R'.frames + 1 ≤ R.frames ∧ 8 + (M'.2.2.1 + 11) + R'.locals ≤ R.locals) (hcs : k + R'.cells ≤ R.cells ∧ n + R'.slots ≤ R.slots)
    (hC : isC.map (fun i => ws[i]?) = wc.map some) (hRs : isR.map (fun i => ws[i]?) = wr.map some) (hnd : va_nd isR = true) (hndc : va_nd isC = true) (hdis : ∀ i ∈ isR, i ∉ isC) (hT : isT.filterMap (fun i => ts[i]?) = tc) (hd : decode M.2.1 pc = .ok (.invokespecial idx, 3)) (hct : NT l D M' R' (.ref b :: av) wc tc Q')
    (kk : ∀ (w1 : va_W) (t1 : Tys), Q' w1 t1 → NX l D M R (pc + 3) lv st (wr ++ w1) (ts ++ t1) (k + R'.cells) (n + R'.slots) Q) : NX l D M R pc lv stk ws ts k n Q := by
  subst hst
  obtain ⟨hk1, hk2, hk3⟩ := hk
  intro p e s m args below meth c A C H locs ls hP hK hD hS hl
  have hPc : va_P D vwCl wc H := hP.sub (ws' := wc) isC (by
    have h2 : isC.filterMap (fun i => ws[i]?) = (isC.map (fun i => ws[i]?)).filterMap id := by rw [List.filterMap_map]; rfl
    rw [h2, hC, List.filterMap_map]
    simp)
  have hDc : va_D A wc := hD.sub isC hndc hC
  have hKc : va_K D vwCl tc s := hK.sub isT hT
  have hFc := va_free (wc := wc) hD hS C.2.2.2.2.2.2.2.1 isC hC
  have hcw := cwI (R := R) (rm := R') (Ts := wsG) (ws' := wsG) (own := M.1.cls) (index := idx) (y := M'.1) (bytes := M'.2.1) (maxL := M'.2.2.1) nn C.2.2.2.2.2.2.1 (goodG (ws := .code M'.1 M'.2.1 M'.2.2.1 none :: wsG) (fun w hw => by
    rcases List.mem_cons.mp hw with h | h
    · rw [h, ← hrn]; exact hk2
    · exact h)) rfl rfl rfl (C.2.2.2.2.2.2.1 _ hk3) (C.2.2.2.2.2.2.1 _ hlk) (C.2.2.2.2.2.2.1 _ hi) hin hk1 hR
  have hM := hct H.size
  rw [hrn] at hM
  refine va_callv (va_runI (As := av) (rest := st) (Ts := wsG) ⟨C.1, C.2.1, C.2.2.1, C.2.2.2.2.2.1, C.2.2.2.2.2.2.1⟩ hM hcw ⟨fun a U g mk q => by obtain ⟨q0, q1, qP, qK, qD⟩ := q; exact ⟨q0, q1, qP, va_K.moved (u := U) (U := U.calling g mk a) (Vm.Alike.refl U.vm) qK, qD⟩, fun U hU hW => ⟨rfl, by rw [hU], by rw [hU]; exact hPc, va_K.moved hW.alike hKc, hDc.weaken (fun _ _ _ _ => trivial)⟩⟩ rfl hn hl.1 rfl (lv_room hW) hd hcs) hS (fun q _ h => hFc q h) hFc (fun u t H1 locs1 ht hvm hw hB hz1 hk1' hS1 => ?_)
  obtain ⟨w1, t1⟩ := u
  obtain ⟨hP1, hK1, hD1⟩ := hB
  rw [ht] at hP1
  have hK1 := va_K.moved hvm.symm hK1
  obtain ⟨hP2, hD2⟩ := va_join (wr := wr) (w1 := w1) hP hD isC isR hC hRs hnd hdis hk1' hFc hP1 hD1
  exact kk w1 t1 hw p e s m args below meth c A C H1 locs1 ls hP2 (hK.app hK1) hD2 hS1 hl
/-- a method of the same kind is called -/
theorem n_virt {M' : Mi} {R' : Room} {idx b nn ci o : Nat} {fs : List Value} {wc wr : va_W} {tc : Tys} {Q' : va_W → Tys → Prop} (av : List Value) {stk : List Value} (isC isR isT : List Nat) (hk : MV M' nn) (hrn : M'.2.2.2 = none) (hlk : Cond.methodLink M.1.cls idx M'.1 ∈ wsG) (hn : av.length = nn) (hst : stk = av.reverse ++ .ref b :: st) (hW : (st.map fun v => v.category).sum ≤ 8) (hR : R'.frames + 1 ≤ R.frames ∧ 8 + (M'.2.2.1 + 11) + R'.locals ≤ R.locals) (hcs : k + R'.cells ≤ R.cells ∧ n + R'.slots ≤ R.slots)
    (hob : wc[o]? = some (b, .inr (ci, fs))) (hcl : (vwCl[ci]?).map (fun q => q.1) = some M'.1.cls) (hC : isC.map (fun i => ws[i]?) = wc.map some) (hRs : isR.map (fun i => ws[i]?) = wr.map some) (hnd : va_nd isR = true) (hndc : va_nd isC = true) (hdis : ∀ i ∈ isR, i ∉ isC) (hT : isT.filterMap (fun i => ts[i]?) = tc) (hd : decode M.2.1 pc = .ok (.invokevirtual idx, 3)) (hct : NT l D M' R' (.ref b :: av) wc tc Q')
    (kk : ∀ (w1 : va_W) (t1 : Tys), Q' w1 t1 → NX l D M R (pc + 3) lv st (wr ++ w1) (ts ++ t1) (k + R'.cells) (n + R'.slots) Q) : NX l D M R pc lv stk ws ts k n Q := by
  subst hst
  obtain ⟨⟨hk1, hk2, hk3⟩, hk4, hk5⟩ := hk
  intro p e s m args below meth c A C H locs ls hP hK hD hS hl
  obtain ⟨qq, hq1, hq2⟩ := Option.map_eq_some_iff.mp hcl
  have hPc : va_P D vwCl wc H := hP.sub (ws' := wc) isC (by
    have h2 : isC.filterMap (fun i => ws[i]?) = (isC.map (fun i => ws[i]?)).filterMap id := by rw [List.filterMap_map]; rfl
    rw [h2, hC, List.filterMap_map]
    simp)
  have hDc : va_D A wc := hD.sub isC hndc hC
  have hKc : va_K D vwCl tc s := hK.sub isT hT
  have hFc := va_free (wc := wc) hD hS C.2.2.2.2.2.2.2.1 isC hC
  have hcw := cwV (R := R) (rm := R') (Ts := wsG) (own := M.1.cls) (C := M'.1.cls) (index := idx) (y := M'.1) (bytes := M'.2.1) (maxL := M'.2.2.1) (ret := M'.2.2.2) (ws := .code M'.1 M'.2.1 M'.2.2.1 M'.2.2.2 :: wsG) (ws' := wsG) nn C.2.2.2.2.2.2.1 (goodG (fun w hw => by
    simp only [wsV, List.mem_append, List.mem_cons, List.not_mem_nil, or_false] at hw
    rcases hw with (rfl | rfl | rfl | rfl) | rfl | hw
    · exact hlk
    · exact hk4
    · exact hk5
    · exact hk3
    · exact hk2
    · exact hw)) rfl rfl rfl ⟨rfl, hk1⟩ hR
  refine va_callv (va_runV (As := av) (rest := st) (Ts := wsG) ⟨C.1, C.2.1, C.2.2.1, C.2.2.2.2.2.1, C.2.2.2.2.2.2.1⟩ (hct H.size) hcw ⟨fun a U g mk q => by obtain ⟨q0, q1, qP, qK, qD⟩ := q; exact ⟨q0, q1, qP, va_K.moved (u := U) (U := U.calling g mk a) (Vm.Alike.refl U.vm) qK, qD⟩, hq2 ▸ va_recv hKc hPc hq1 hob, fun U hU hW => ⟨rfl, by rw [hU], by rw [hU]; exact hPc, va_K.moved hW.alike hKc, hDc.weaken (fun _ _ _ _ => trivial)⟩⟩ rfl hn hl.1 rfl (lv_room hW) hd hcs) hS (fun q _ h => hFc q h) hFc (fun u t H1 locs1 ht hvm hw hB hz1 hk1' hS1 => ?_)
  obtain ⟨w1, t1⟩ := u
  obtain ⟨hP1, hK1, hD1⟩ := hB
  rw [ht] at hP1
  have hK1 := va_K.moved hvm.symm hK1
  obtain ⟨hP2, hD2⟩ := va_join (wr := wr) (w1 := w1) hP hD isC isR hC hRs hnd hdis hk1' hFc hP1 hD1
  exact kk w1 t1 hw p e s m args below meth c A C H1 locs1 ls hP2 (hK.app hK1) hD2 hS1 hl
end NR
