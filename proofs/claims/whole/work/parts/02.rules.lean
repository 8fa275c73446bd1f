abbrev vwCl : List vw_C := [(RJ0, TJ0, 2), (RJx00060, TJx00060, 6), (RX0, TX0, 4), (RX1, TX1, 7), (RX3, TX3, 2), (RX5, TX5, 7), (RX6, TX6, 9), (RX7, TX7, 5), (RX8, TX8, 10), (RX10, TX10, 3), (RX11, TX11, 56)]
/-! A STATE of a fixed set of cells: place o, slot j holds an int (sI) or a long (sL). A layout says what the places are: (0, class, kinds of its fields: 0 int, 1 long, p + 2 the place p), (1, n, _) a row of n ints, (2, n, _) a row of n longs. -/
abbrev Sg : Type := (Nat → Nat → Int32) × (Nat → Nat → Int64)
def sI (σ : Sg) (o j : Nat) : Int32 := σ.1 o j
def sL (σ : Sg) (o j : Nat) : Int64 := σ.2 o j
def wI (σ : Sg) (o j : Nat) (v : Int32) : Sg := (fun a b => if a = o ∧ b = j then v else σ.1 a b, σ.2)
def wL (σ : Sg) (o j : Nat) (v : Int64) : Sg := (σ.1, fun a b => if a = o ∧ b = j then v else σ.2 a b)
abbrev Ds : Type := Nat × Nat × List Nat
def fV (ad : Nat → Nat) (σ : Sg) (i j t : Nat) : Value := match t with
  | 0 => .int (σ.1 i j)
  | 1 => .long (σ.2 i j)
  | p + 2 => .ref (ad p)
def cE (ad : Nat → Nat) (cA : Nat → ClassId) (σ : Sg) (i : Nat) (d : Ds) : va_E := match d.1 with
  | 0 => .inr (d.2.1, d.2.2.mapIdx (fun j t => fV ad σ i j t))
  | 1 => .inl (cA i, d.2.1, .inl (σ.1 i))
  | _ => .inl (cA i, d.2.1, .inr (.inl (σ.2 i)))
def pic (Ly : List Ds) (ad : Nat → Nat) (cA : Nat → ClassId) (σ : Sg) : va_W := Ly.mapIdx (fun i d => (ad i, cE ad cA σ i d))
def tys (Ly : List Ds) (cA : Nat → ClassId) : List (ClassId × FieldType) := Ly.mapIdx (fun i d => (cA i, if d.1 = 1 then .int else .long))
theorem pic_at {Ly : List Ds} {ad : Nat → Nat} {cA : Nat → ClassId} {σ : Sg} {i : Nat} {d : Ds} (h : Ly[i]? = some d) : (pic Ly ad cA σ)[i]? = some (ad i, cE ad cA σ i d) := by simp [pic, h]
theorem tys_at {Ly : List Ds} {cA : Nat → ClassId} {i : Nat} {d : Ds} (h : Ly[i]? = some d) : (tys Ly cA)[i]? = some (cA i, if d.1 = 1 then .int else .long) := by simp [tys, h]
theorem wI_row (σ : Sg) (o j : Nat) (v : Int32) : (wI σ o j v).1 o = upd (σ.1 o) j v := by
  funext b
  simp [wI, upd]
theorem wL_row (σ : Sg) (o j : Nat) (v : Int64) : (wL σ o j v).2 o = vp_updL (σ.2 o) j v := by
  funext b
  simp [wL, vp_updL]
theorem cE_wI_ne {ad : Nat → Nat} {cA : Nat → ClassId} {σ : Sg} {o j k : Nat} {v : Int32} {d : Ds} (h : k ≠ o) : cE ad cA (wI σ o j v) k d = cE ad cA σ k d := by
  have h1 : (wI σ o j v).1 k = σ.1 k := by funext b; simp [wI, h]
  unfold cE fV
  rw [h1]
  rfl
theorem cE_wL_ne {ad : Nat → Nat} {cA : Nat → ClassId} {σ : Sg} {o j k : Nat} {v : Int64} {d : Ds} (h : k ≠ o) : cE ad cA (wL σ o j v) k d = cE ad cA σ k d := by
  have h1 : (wL σ o j v).2 k = σ.2 k := by funext b; simp [wL, h]
  unfold cE fV
  rw [h1]
  rfl
theorem pic_set {Ly : List Ds} {ad : Nat → Nat} {cA : Nat → ClassId} {σ σ' : Sg} {o : Nat} {d : Ds} {x : va_E} (h : Ly[o]? = some d) (he : x = cE ad cA σ' o d) (hn : ∀ k d', k ≠ o → cE ad cA σ' k d' = cE ad cA σ k d') : (pic Ly ad cA σ).set o (ad o, x) = pic Ly ad cA σ' := by
  subst he
  have hl : o < (pic Ly ad cA σ).length := by simp only [pic, List.length_mapIdx]; exact (List.getElem?_eq_some_iff.mp h).1
  apply List.ext_getElem?
  intro k
  by_cases hk : k = o
  · subst hk
    rw [List.getElem?_set_self hl, pic_at h]
  · rw [List.getElem?_set_ne (Ne.symm hk)]
    simp only [pic, List.getElem?_mapIdx]
    cases Ly[k]? with
    | none => rfl
    | some d' => simp only [Option.map_some, hn k d' hk]
theorem pic_aI {Ly : List Ds} {ad : Nat → Nat} {cA : Nat → ClassId} {σ : Sg} {o n j : Nat} {x : List Nat} {v : Int32} (h : Ly[o]? = some (1, n, x)) : (pic Ly ad cA σ).set o (ad o, .inl (cA o, n, .inl (upd (σ.1 o) j v))) = pic Ly ad cA (wI σ o j v) :=
  pic_set h (by simp only [cE, wI_row]) (fun k d' hk => cE_wI_ne hk)
theorem pic_aL {Ly : List Ds} {ad : Nat → Nat} {cA : Nat → ClassId} {σ : Sg} {o n j : Nat} {x : List Nat} {v : Int64} (h : Ly[o]? = some (2, n, x)) : (pic Ly ad cA σ).set o (ad o, .inl (cA o, n, .inr (.inl (vp_updL (σ.2 o) j v)))) = pic Ly ad cA (wL σ o j v) :=
  pic_set h (by simp only [cE, wL_row]) (fun k d' hk => cE_wL_ne hk)
theorem fs_at {ad : Nat → Nat} {σ : Sg} {o f t : Nat} {ts : List Nat} (h : ts[f]? = some t) : (ts.mapIdx (fun j t => fV ad σ o j t))[f]? = some (fV ad σ o f t) := by simp [h]
theorem fs_set {ad : Nat → Nat} {σ σ' : Sg} {o f t : Nat} {ts : List Nat} {v : Value} (h : ts[f]? = some t) (hv : fV ad σ' o f t = v) (hn : ∀ j t', j ≠ f → fV ad σ' o j t' = fV ad σ o j t') : (ts.mapIdx (fun j t => fV ad σ o j t)).set f v = ts.mapIdx (fun j t => fV ad σ' o j t) := by
  subst hv
  have hl : f < (ts.mapIdx (fun j t => fV ad σ o j t)).length := by simp only [List.length_mapIdx]; exact (List.getElem?_eq_some_iff.mp h).1
  apply List.ext_getElem?
  intro k
  by_cases hk : k = f
  · subst hk
    rw [List.getElem?_set_self hl, fs_at h]
  · rw [List.getElem?_set_ne (Ne.symm hk)]
    simp only [List.getElem?_mapIdx]
    cases ts[k]? with
    | none => rfl
    | some t' => simp only [Option.map_some, hn k t' hk]
theorem fV_wI {ad : Nat → Nat} {σ : Sg} {o f j t : Nat} {v : Int32} (h : j ≠ f) : fV ad (wI σ o f v) o j t = fV ad σ o j t := by
  unfold fV
  split <;> simp [wI, h]
theorem fV_wL {ad : Nat → Nat} {σ : Sg} {o f j t : Nat} {v : Int64} (h : j ≠ f) : fV ad (wL σ o f v) o j t = fV ad σ o j t := by
  unfold fV
  split <;> simp [wL, h]
theorem pic_fI {Ly : List Ds} {ad : Nat → Nat} {cA : Nat → ClassId} {σ : Sg} {o ci f : Nat} {ts : List Nat} {v : Int32} (h : Ly[o]? = some (0, ci, ts)) (hf : ts[f]? = some 0) : (pic Ly ad cA σ).set o (ad o, .inr (ci, (ts.mapIdx (fun j t => fV ad σ o j t)).set f (.int v))) = pic Ly ad cA (wI σ o f v) :=
  pic_set h (by simp only [cE]; rw [fs_set hf (σ' := wI σ o f v) (by simp [fV, wI]) (fun j t' hj => fV_wI hj)]) (fun k d' hk => cE_wI_ne hk)
theorem pic_fL {Ly : List Ds} {ad : Nat → Nat} {cA : Nat → ClassId} {σ : Sg} {o ci f : Nat} {ts : List Nat} {v : Int64} (h : Ly[o]? = some (0, ci, ts)) (hf : ts[f]? = some 1) : (pic Ly ad cA σ).set o (ad o, .inr (ci, (ts.mapIdx (fun j t => fV ad σ o j t)).set f (.long v))) = pic Ly ad cA (wL σ o f v) :=
  pic_set h (by simp only [cE]; rw [fs_set hf (σ' := wL σ o f v) (by simp [fV, wL]) (fun j t' hj => fV_wL hj)]) (fun k d' hk => cE_wL_ne hk)
/-! the words that every method has, the rooms by depth -/
def wsG : List Cond := lw_tbl.filter goodWord
theorem wsG_of {w : Cond} (h : w ∈ lw_tbl) (g : goodWord w = true) : w ∈ wsG := List.mem_filter.mpr ⟨h, g⟩
theorem wsG_in {w : Cond} (h : w ∈ wsG) : w ∈ lw_tbl ∧ goodWord w = true := List.mem_filter.mp h
def rmd (d : Nat) : Room := { frames := d, cells := 0, slots := 0, locals := 60 * d }
/-- a method: its name, code, number of locals, what it returns -/
abbrev Mi : Type := MethodName × ByteArray × Nat × Option FieldType
/-- what is fixed: the launch, the tables' numbers, the addresses, the rows' array kinds, the two tables of Acts, the layout -/
abbrev Gx : Type := Launch × va_G × (Nat → Nat) × (Nat → ClassId) × (Nat × Nat) × List Ds
def gad (G : Gx) : Nat → Nat := G.2.2.1
def gcA (G : Gx) : Nat → ClassId := G.2.2.2.1
def gtM (G : Gx) : Nat := G.2.2.2.2.1.1
def gtG (G : Gx) : Nat := G.2.2.2.2.1.2
def gLy (G : Gx) : List Ds := G.2.2.2.2.2
abbrev gpic (G : Gx) (σ : Sg) : va_W := pic (gLy G) (gad G) (gcA G) σ
abbrev gtys (G : Gx) : List (ClassId × FieldType) := tys (gLy G) (gcA G)

def tbM : Nat → Int32 := fun j => ([0, 0, 0, 3, 0, 0, 0, 0, 0, 1, 1, 0, 1, 3, 2, 1, 1, 0, 1, 1, 0, 1, 1, 0, 1, 1, 0, 1, 1, 0, 1, 0, 0, 1, 0, 0, 1, 0, 0, 1, 0, 0, 1, 0, 0, 1, 1, 0, 1, 1, 1, 1, 0, 0, 1, 1, 0, 1, 1, 1, 1, 0, 0, 1, 5, 2, 1, 2, 0, 1, 2, 2, 1, 2, 0, 6, 1, 0, 1, 0, 0, 2, 0, 0, 1, 0, 0, 1, 0, 0, 4, 0, 0, 4, 1, 0] : List Int32).getD j 0
def tbG : Nat → Int32 := fun j => ([0, 0, 0, 7, 7, 8, 59] : List Int32).getD j 0
/-- the two tables of Acts, where nobody writes -/
def sMG (G : Gx) (A : Nat → Prop) (U : State) (H : Heap) : Prop := va_Z "SideWork$Acts" "MEANINGS" "[I" (.ref (gtM G)) A U H ∧ va_T .int (gtM G) 96 (fun j => .int (tbM j)) A U H ∧ va_Z "SideWork$Acts" "GREATEST" "[I" (.ref (gtG G)) A U H ∧ va_T .int (gtG G) 7 (fun j => .int (tbG j)) A U H
theorem sMG.moved {G : Gx} {A : Nat → Prop} {u U : State} {H : Heap} (hvm : u.vm.Alike U.vm) (h : sMG G A u H) : sMG G A U H := ⟨va_Z.moved hvm h.1, va_T.moved hvm h.2.1, va_Z.moved hvm h.2.2.1, va_T.moved hvm h.2.2.2⟩
theorem sMG.kept {G : Gx} {A : Nat → Prop} {U : State} {H H1 : Heap} (h : sMG G A U H) (hq : ∀ a : Nat, a < H.size → ¬ A a → H1[a]? = H[a]?) : sMG G A U H1 := ⟨h.1.kept hq, h.2.1.kept hq, h.2.2.1.kept hq, h.2.2.2.kept hq⟩
theorem sMG.narrow {G : Gx} {A B : Nat → Prop} {U : State} {H : Heap} (h : sMG G A U H) (hAB : ∀ q, B q → A q) : sMG G B U H := ⟨h.1.narrow hAB, h.2.1.narrow hAB, h.2.2.1.narrow hAB, h.2.2.2.narrow hAB⟩
/-- what holds of the machine all through a method -/
def XC (G : Gx) (M : Mi) (p : Program) (s : State) (m : MethodId) (args : Array Value) (meth : Method) (c : Code) (A : Nat → Prop) : Prop :=
  p.tables.exec = Jvm.exec ∧ c.code = M.2.1 ∧ c.maxLocals = M.2.2.1 ∧ meth.sig.returnType = M.2.2.2 ∧ meth.locks = false ∧ s.vm.findClass M.1.cls = some m.cls ∧ (∀ w ∈ wsG, w.before args s = true) ∧ va_K G.2.1 vwCl (gtys G) s ∧ (∀ q : Nat, s.heap.size ≤ q → A q) ∧ sMG G A s s.heap
/-- a method's end: its answer and its state as Q says -/
def Qx (G : Gx) (Q : Option Value → Sg → Prop) (A : Nat → Prop) : Array Value → State → Outcome → State → Prop := fun _ st oc t =>
  (∃ (v : Option Value) (σ : Sg), oc = .returned v ∧ Q v σ ∧ va_P G.2.1 vwCl (gpic G σ) t.heap ∧ va_K G.2.1 vwCl (gtys G) t ∧ va_D A (gpic G σ)) ∧ va_F A st t
/-- the machine, in the method M at pc, with these locals, this stack and this state, comes to the method's end, and Q holds there -/
def X (G : Gx) (M : Mi) (d pc : Nat) (lv : List (Nat × Value)) (st : List Value) (σ : Sg) (Q : Option Value → Sg → Prop) : Prop :=
  ∀ (p : Program) (e : Env) (s : State) (m : MethodId) (args : Array Value) (below : List Frame) (meth : Method) (c : Code) (A : Nat → Prop), XC G M p s m args meth c A →
    ∀ (H : Heap) (locs : List Loc) (ls : Array Slot), va_P G.2.1 vwCl (gpic G σ) H → va_D A (gpic G σ) → va_S A s.heap H locs → lv_has ls M.2.2.1 lv →
      W p G.1 e (rmd d) s m args below meth c H locs 0 0 (MQ below (Qx G Q A) args s 0 0 A) (F0 m pc ls st)
/-- the method M, called with av in the state σ, returns, and Q holds of its answer and its state -/
def CT (G : Gx) (M : Mi) (d : Nat) (av : List Value) (σ : Sg) (Q : Option Value → Sg → Prop) : Prop :=
  ∀ sz : Nat, Met G.1 M.1 (.code M.1 M.2.1 M.2.2.1 M.2.2.2 :: wsG) (rmd d)
    (va_Pc av (fun U => U.heap.size = sz ∧ va_P G.2.1 vwCl (gpic G σ) U.heap ∧ va_K G.2.1 vwCl (gtys G) U ∧ va_D (fun _ => True) (gpic G σ) ∧ sMG G (va_A (gpic G σ) sz) U U.heap))
    (Qx G Q (va_A (gpic G σ) sz)) 0 0 (va_A (gpic G σ) sz)
section XR
variable {G : Gx} {M : Mi} {d pc : Nat} {lv lv' : List (Nat × Value)} {st : List Value} {σ : Sg} {Q : Option Value → Sg → Prop}
theorem ct_of {av : List Value} (hpl : plainName M.1.cls = true) (hn : (lg_sl av).length ≤ M.2.2.1) (hl : lv_args 0 av = lv) (h : X G M d 0 lv [] σ Q) : CT G M d av σ Q := by
  subst hl
  intro sz
  refine Met.ofW (cc := M.2.1) (maxL := M.2.2.1) (ret := M.2.2.2) hpl rfl ?_
  intro p e s m args below meth c s₁ B hml hv
  obtain ⟨rfl, hsz, hP, hK, hD0, hT⟩ := hv
  have hts := atoms_spec (ws := .code M.1 M.2.1 M.2.2.1 M.2.2.2 :: wsG) B.pre
  subst hsz
  rw [lg_entry_eq]
  exact h p e s m _ below meth c (va_A (gpic G σ) s.heap.size) ⟨B.exec, B.bytes, hml, B.returns, B.notSynchronized, findClass_of_methodNamed B.named, fun w hw => hts w (List.mem_cons_of_mem _ hw), hK, fun q hq => Or.inr hq, hT⟩ s.heap [] _ hP hD0.self va_S.rf (lv_entry av hn)
theorem X.mono {Q' : Option Value → Sg → Prop} (h : X G M d pc lv st σ Q') (hq : ∀ v σ, Q' v σ → Q v σ) : X G M d pc lv st σ Q := by
  intro p e s m args below meth c A C H locs ls hP hD hS hl T hT XX
  obtain ⟨t, a, o, b1, b2, ⟨⟨v, σ', c1, c2, c3⟩, c4⟩, b4⟩ := h p e s m args below meth c A C H locs ls hP hD hS hl T hT XX
  exact ⟨t, a, o, b1, b2, ⟨⟨v, σ', c1, hq v σ' c2, c3⟩, c4⟩, b4⟩
theorem x_sub (ks : List Nat) (hk : lv_pick lv ks = lv') (h : X G M d pc lv' st σ Q) : X G M d pc lv st σ Q := by
  intro p e s m args below meth c A C H locs ls hP hD hS hl
  exact h p e s m args below meth c A C H locs ls hP hD hS (lv_sub hl ks hk)

theorem x_iconst {n : Int} {v : Int32} (hd : decode M.2.1 pc = .ok (.iconst n, 1)) (hv : Int32.ofInt n = v) (k : X G M d (pc + 1) lv (.int v :: st) σ Q) : X G M d pc lv (st) σ Q := by
  intro p e s m args below meth c A C H locs ls hP hD hS hl
  exact lv_iconst C.1 C.2.1 hd hv (k p e s m args below meth c A C H locs ls hP hD hS hl)
theorem x_bipush {n : Int} {v : Int32} (hd : decode M.2.1 pc = .ok (.bipush n, 2)) (hv : (Int8.ofInt n).toInt32 = v) (k : X G M d (pc + 2) lv (.int v :: st) σ Q) : X G M d pc lv (st) σ Q := by
  intro p e s m args below meth c A C H locs ls hP hD hS hl
  exact lv_bipush C.1 C.2.1 hd hv (k p e s m args below meth c A C H locs ls hP hD hS hl)
theorem x_sipush {n : Int} {v : Int32} (hd : decode M.2.1 pc = .ok (.sipush n, 3)) (hv : (Int16.ofInt n).toInt32 = v) (k : X G M d (pc + 3) lv (.int v :: st) σ Q) : X G M d pc lv (st) σ Q := by
  intro p e s m args below meth c A C H locs ls hP hD hS hl
  exact lv_sipush C.1 C.2.1 hd hv (k p e s m args below meth c A C H locs ls hP hD hS hl)
theorem x_lconst {n : Fin 2} {v : Int64} (hd : decode M.2.1 pc = .ok (.lconst n, 1)) (hv : Int64.ofNat (n : Nat) = v) (k : X G M d (pc + 1) lv (.long v :: st) σ Q) : X G M d pc lv (st) σ Q := by
  intro p e s m args below meth c A C H locs ls hP hD hS hl
  exact lv_lconst C.1 C.2.1 hd hv (k p e s m args below meth c A C H locs ls hP hD hS hl)
theorem x_iload_n {kk : Fin 4} {i : Nat} {x : Int32} (hd : decode M.2.1 pc = .ok (.iload_n kk, 1)) (hi : (kk : Nat) = i) (j : Nat) (hj : lv[j]? = some (i, .int x)) (k : X G M d (pc + 1) lv (.int x :: st) σ Q) : X G M d pc lv (st) σ Q := by
  intro p e s m args below meth c A C H locs ls hP hD hS hl
  exact lv_iload_n C.1 C.2.1 hd hi (lv_at hl j hj) (k p e s m args below meth c A C H locs ls hP hD hS hl)
theorem x_iload {i : Nat} {x : Int32} (hd : decode M.2.1 pc = .ok (.iload i, 2)) (j : Nat) (hj : lv[j]? = some (i, .int x)) (k : X G M d (pc + 2) lv (.int x :: st) σ Q) : X G M d pc lv (st) σ Q := by
  intro p e s m args below meth c A C H locs ls hP hD hS hl
  exact lv_iload C.1 C.2.1 hd (lv_at hl j hj) (k p e s m args below meth c A C H locs ls hP hD hS hl)
theorem x_lload_n {kk : Fin 4} {i : Nat} {x : Int64} (hd : decode M.2.1 pc = .ok (.lload_n kk, 1)) (hi : (kk : Nat) = i) (j : Nat) (hj : lv[j]? = some (i, .long x)) (k : X G M d (pc + 1) lv (.long x :: st) σ Q) : X G M d pc lv (st) σ Q := by
  intro p e s m args below meth c A C H locs ls hP hD hS hl
  exact lv_lload_n C.1 C.2.1 hd hi (lv_at hl j hj) (k p e s m args below meth c A C H locs ls hP hD hS hl)
theorem x_lload {i : Nat} {x : Int64} (hd : decode M.2.1 pc = .ok (.lload i, 2)) (j : Nat) (hj : lv[j]? = some (i, .long x)) (k : X G M d (pc + 2) lv (.long x :: st) σ Q) : X G M d pc lv (st) σ Q := by
  intro p e s m args below meth c A C H locs ls hP hD hS hl
  exact lv_lload C.1 C.2.1 hd (lv_at hl j hj) (k p e s m args below meth c A C H locs ls hP hD hS hl)
theorem x_aload_n {kk : Fin 4} {i : Nat} {x : Nat} (hd : decode M.2.1 pc = .ok (.aload_n kk, 1)) (hi : (kk : Nat) = i) (j : Nat) (hj : lv[j]? = some (i, .ref x)) (k : X G M d (pc + 1) lv (.ref x :: st) σ Q) : X G M d pc lv (st) σ Q := by
  intro p e s m args below meth c A C H locs ls hP hD hS hl
  exact lv_aload_n C.1 C.2.1 hd hi (lv_at hl j hj) (k p e s m args below meth c A C H locs ls hP hD hS hl)
theorem x_aload {i : Nat} {x : Nat} (hd : decode M.2.1 pc = .ok (.aload i, 2)) (j : Nat) (hj : lv[j]? = some (i, .ref x)) (k : X G M d (pc + 2) lv (.ref x :: st) σ Q) : X G M d pc lv (st) σ Q := by
  intro p e s m args below meth c A C H locs ls hP hD hS hl
  exact lv_aload C.1 C.2.1 hd (lv_at hl j hj) (k p e s m args below meth c A C H locs ls hP hD hS hl)
theorem x_istore_n {kk : Fin 4} {i : Nat} {x : Int32} (hd : decode M.2.1 pc = .ok (.istore_n kk, 1)) (hi : (kk : Nat) = i) (hn : i < M.2.2.1) (hl' : (i, Value.int x) :: lv.filter (fun q => !(q.1 == i) && !(q.1 + 1 == i && q.2.category == 2)) = lv') (k : X G M d (pc + 1) lv' st σ Q) : X G M d pc lv (.int x :: st) σ Q := by
  intro p e s m args below meth c A C H locs ls hP hD hS hl
  exact lv_istore_n C.1 C.2.1 hd hi hl hn hl' (fun ls' h' => k p e s m args below meth c A C H locs ls' hP hD hS h')
theorem x_istore {i : Nat} {x : Int32} (hd : decode M.2.1 pc = .ok (.istore i, 2)) (hn : i < M.2.2.1) (hl' : (i, Value.int x) :: lv.filter (fun q => !(q.1 == i) && !(q.1 + 1 == i && q.2.category == 2)) = lv') (k : X G M d (pc + 2) lv' st σ Q) : X G M d pc lv (.int x :: st) σ Q := by
  intro p e s m args below meth c A C H locs ls hP hD hS hl
  exact lv_istore C.1 C.2.1 hd hl hn hl' (fun ls' h' => k p e s m args below meth c A C H locs ls' hP hD hS h')
theorem x_astore_n {kk : Fin 4} {i : Nat} {x : Nat} (hd : decode M.2.1 pc = .ok (.astore_n kk, 1)) (hi : (kk : Nat) = i) (hn : i < M.2.2.1) (hl' : (i, Value.ref x) :: lv.filter (fun q => !(q.1 == i) && !(q.1 + 1 == i && q.2.category == 2)) = lv') (k : X G M d (pc + 1) lv' st σ Q) : X G M d pc lv (.ref x :: st) σ Q := by
  intro p e s m args below meth c A C H locs ls hP hD hS hl
  exact lv_astore_n C.1 C.2.1 hd hi hl hn hl' (fun ls' h' => k p e s m args below meth c A C H locs ls' hP hD hS h')
theorem x_astore {i : Nat} {x : Nat} (hd : decode M.2.1 pc = .ok (.astore i, 2)) (hn : i < M.2.2.1) (hl' : (i, Value.ref x) :: lv.filter (fun q => !(q.1 == i) && !(q.1 + 1 == i && q.2.category == 2)) = lv') (k : X G M d (pc + 2) lv' st σ Q) : X G M d pc lv (.ref x :: st) σ Q := by
  intro p e s m args below meth c A C H locs ls hP hD hS hl
  exact lv_astore C.1 C.2.1 hd hl hn hl' (fun ls' h' => k p e s m args below meth c A C H locs ls' hP hD hS h')
theorem x_lstore_n {kk : Fin 4} {i : Nat} {x : Int64} (hd : decode M.2.1 pc = .ok (.lstore_n kk, 1)) (hi : (kk : Nat) = i) (hn : i + 1 < M.2.2.1) (hl' : (i, Value.long x) :: lv.filter (fun q => !(q.1 == i) && (!(q.1 == i + 1) && !(q.1 + 1 == i && q.2.category == 2))) = lv') (k : X G M d (pc + 1) lv' st σ Q) : X G M d pc lv (.long x :: st) σ Q := by
  intro p e s m args below meth c A C H locs ls hP hD hS hl
  exact lv_lstore_n C.1 C.2.1 hd hi hl hn hl' (fun ls' h' => k p e s m args below meth c A C H locs ls' hP hD hS h')
theorem x_lstore {i : Nat} {x : Int64} (hd : decode M.2.1 pc = .ok (.lstore i, 2)) (hn : i + 1 < M.2.2.1) (hl' : (i, Value.long x) :: lv.filter (fun q => !(q.1 == i) && (!(q.1 == i + 1) && !(q.1 + 1 == i && q.2.category == 2))) = lv') (k : X G M d (pc + 2) lv' st σ Q) : X G M d pc lv (.long x :: st) σ Q := by
  intro p e s m args below meth c A C H locs ls hP hD hS hl
  exact lv_lstore C.1 C.2.1 hd hl hn hl' (fun ls' h' => k p e s m args below meth c A C H locs ls' hP hD hS h')
theorem x_iinc {i : Nat} {n : Int} {x v : Int32} (hd : decode M.2.1 pc = .ok (.iinc i n, 3)) (j : Nat) (hj : lv[j]? = some (i, .int x)) (hv : x + Int32.ofInt n = v) (hn : i < M.2.2.1) (hl' : (i, Value.int v) :: lv.filter (fun q => !(q.1 == i) && !(q.1 + 1 == i && q.2.category == 2)) = lv') (k : X G M d (pc + 3) lv' st σ Q) : X G M d pc lv st σ Q := by
  intro p e s m args below meth c A C H locs ls hP hD hS hl
  exact lv_iinc C.1 C.2.1 hd hl hj hv hn hl' (fun ls' h' => k p e s m args below meth c A C H locs ls' hP hD hS h')
theorem x_iadd {x y : Int32} (hd : decode M.2.1 pc = .ok (.iadd, 1)) (k : X G M d (pc + 1) lv (.int (x + y) :: st) σ Q) : X G M d pc lv (.int y :: .int x :: st) σ Q := by
  intro p e s m args below meth c A C H locs ls hP hD hS hl
  exact lv_iadd C.1 C.2.1 hd (k p e s m args below meth c A C H locs ls hP hD hS hl)
theorem x_isub {x y : Int32} (hd : decode M.2.1 pc = .ok (.isub, 1)) (k : X G M d (pc + 1) lv (.int (x - y) :: st) σ Q) : X G M d pc lv (.int y :: .int x :: st) σ Q := by
  intro p e s m args below meth c A C H locs ls hP hD hS hl
  exact lv_isub C.1 C.2.1 hd (k p e s m args below meth c A C H locs ls hP hD hS hl)
theorem x_imul {x y : Int32} (hd : decode M.2.1 pc = .ok (.imul, 1)) (k : X G M d (pc + 1) lv (.int (x * y) :: st) σ Q) : X G M d pc lv (.int y :: .int x :: st) σ Q := by
  intro p e s m args below meth c A C H locs ls hP hD hS hl
  exact lv_imul C.1 C.2.1 hd (k p e s m args below meth c A C H locs ls hP hD hS hl)
theorem x_iand {x y : Int32} (hd : decode M.2.1 pc = .ok (.iand, 1)) (k : X G M d (pc + 1) lv (.int (x &&& y) :: st) σ Q) : X G M d pc lv (.int y :: .int x :: st) σ Q := by
  intro p e s m args below meth c A C H locs ls hP hD hS hl
  exact lv_iand C.1 C.2.1 hd (k p e s m args below meth c A C H locs ls hP hD hS hl)
theorem x_idiv {x y : Int32} (hd : decode M.2.1 pc = .ok (.idiv, 1)) (hne : ¬ y = 0) (k : X G M d (pc + 1) lv (.int (x / y) :: st) σ Q) : X G M d pc lv (.int y :: .int x :: st) σ Q := by
  intro p e s m args below meth c A C H locs ls hP hD hS hl
  exact lv_idiv C.1 C.2.1 hd hne (k p e s m args below meth c A C H locs ls hP hD hS hl)
theorem x_irem {x y : Int32} (hd : decode M.2.1 pc = .ok (.irem, 1)) (hne : ¬ y = 0) (k : X G M d (pc + 1) lv (.int (x - x / y * y) :: st) σ Q) : X G M d pc lv (.int y :: .int x :: st) σ Q := by
  intro p e s m args below meth c A C H locs ls hP hD hS hl
  exact lv_irem C.1 C.2.1 hd hne (k p e s m args below meth c A C H locs ls hP hD hS hl)
theorem x_ineg {x : Int32} (hd : decode M.2.1 pc = .ok (.ineg, 1)) (k : X G M d (pc + 1) lv (.int (-x) :: st) σ Q) : X G M d pc lv (.int x :: st) σ Q := by
  intro p e s m args below meth c A C H locs ls hP hD hS hl
  exact lv_ineg C.1 C.2.1 hd (k p e s m args below meth c A C H locs ls hP hD hS hl)
theorem x_land {x y : Int64} (hd : decode M.2.1 pc = .ok (.land, 1)) (k : X G M d (pc + 1) lv (.long (x &&& y) :: st) σ Q) : X G M d pc lv (.long y :: .long x :: st) σ Q := by
  intro p e s m args below meth c A C H locs ls hP hD hS hl
  exact lv_land C.1 C.2.1 hd (k p e s m args below meth c A C H locs ls hP hD hS hl)
theorem x_lor {x y : Int64} (hd : decode M.2.1 pc = .ok (.lor, 1)) (k : X G M d (pc + 1) lv (.long (x ||| y) :: st) σ Q) : X G M d pc lv (.long y :: .long x :: st) σ Q := by
  intro p e s m args below meth c A C H locs ls hP hD hS hl
  exact lv_lor C.1 C.2.1 hd (k p e s m args below meth c A C H locs ls hP hD hS hl)
theorem x_ladd {x y : Int64} (hd : decode M.2.1 pc = .ok (.ladd, 1)) (k : X G M d (pc + 1) lv (.long (x + y) :: st) σ Q) : X G M d pc lv (.long y :: .long x :: st) σ Q := by
  intro p e s m args below meth c A C H locs ls hP hD hS hl
  exact lv_ladd C.1 C.2.1 hd (k p e s m args below meth c A C H locs ls hP hD hS hl)
theorem x_lsub {x y : Int64} (hd : decode M.2.1 pc = .ok (.lsub, 1)) (k : X G M d (pc + 1) lv (.long (x - y) :: st) σ Q) : X G M d pc lv (.long y :: .long x :: st) σ Q := by
  intro p e s m args below meth c A C H locs ls hP hD hS hl
  exact lv_lsub C.1 C.2.1 hd (k p e s m args below meth c A C H locs ls hP hD hS hl)
theorem x_lshl {x : Int64} {y : Int32} (hd : decode M.2.1 pc = .ok (.lshl, 1)) (k : X G M d (pc + 1) lv (.long (x <<< (y.toInt64 &&& 63)) :: st) σ Q) : X G M d pc lv (.int y :: .long x :: st) σ Q := by
  intro p e s m args below meth c A C H locs ls hP hD hS hl
  exact lv_lshl C.1 C.2.1 hd rfl (k p e s m args below meth c A C H locs ls hP hD hS hl)
theorem x_lshr {x : Int64} {y : Int32} (hd : decode M.2.1 pc = .ok (.lshr, 1)) (k : X G M d (pc + 1) lv (.long (x >>> (y.toInt64 &&& 63)) :: st) σ Q) : X G M d pc lv (.int y :: .long x :: st) σ Q := by
  intro p e s m args below meth c A C H locs ls hP hD hS hl
  exact lv_lshr C.1 C.2.1 hd rfl (k p e s m args below meth c A C H locs ls hP hD hS hl)
theorem x_i2l {x : Int32} (hd : decode M.2.1 pc = .ok (.i2l, 1)) (k : X G M d (pc + 1) lv (.long x.toInt64 :: st) σ Q) : X G M d pc lv (.int x :: st) σ Q := by
  intro p e s m args below meth c A C H locs ls hP hD hS hl
  exact lv_i2l C.1 C.2.1 hd rfl (k p e s m args below meth c A C H locs ls hP hD hS hl)
theorem x_l2i {x : Int64} (hd : decode M.2.1 pc = .ok (.l2i, 1)) (k : X G M d (pc + 1) lv (.int x.toInt32 :: st) σ Q) : X G M d pc lv (.long x :: st) σ Q := by
  intro p e s m args below meth c A C H locs ls hP hD hS hl
  exact lv_l2i C.1 C.2.1 hd rfl (k p e s m args below meth c A C H locs ls hP hD hS hl)
theorem x_lcmp {x y : Int64} (hd : decode M.2.1 pc = .ok (.lcmp, 1)) (k : X G M d (pc + 1) lv (.int (lg_cmp x y) :: st) σ Q) : X G M d pc lv (.long y :: .long x :: st) σ Q := by
  intro p e s m args below meth c A C H locs ls hP hD hS hl
  exact W.lcmp C.1 C.2.1 hd (k p e s m args below meth c A C H locs ls hP hD hS hl)
theorem x_dup {va : Value} (hd : decode M.2.1 pc = .ok (.dup, 1)) (hva : va.category = 1) (k : X G M d (pc + 1) lv (va :: va :: st) σ Q) : X G M d pc lv (va :: st) σ Q := by
  intro p e s m args below meth c A C H locs ls hP hD hS hl
  exact lv_dup C.1 C.2.1 hd hva (k p e s m args below meth c A C H locs ls hP hD hS hl)
theorem x_dup_x1 {va vb : Value} (hd : decode M.2.1 pc = .ok (.dup_x1, 1)) (hva : va.category = 1) (hvb : vb.category = 1) (k : X G M d (pc + 1) lv (va :: vb :: va :: st) σ Q) : X G M d pc lv (va :: vb :: st) σ Q := by
  intro p e s m args below meth c A C H locs ls hP hD hS hl
  exact lv_dup_x1 C.1 C.2.1 hd hva hvb (k p e s m args below meth c A C H locs ls hP hD hS hl)
theorem x_dup2 {va vb : Value} (hd : decode M.2.1 pc = .ok (.dup2, 1)) (hva : va.category = 1) (hvb : vb.category = 1) (k : X G M d (pc + 1) lv (va :: vb :: va :: vb :: st) σ Q) : X G M d pc lv (va :: vb :: st) σ Q := by
  intro p e s m args below meth c A C H locs ls hP hD hS hl
  exact lv_dup2_11 C.1 C.2.1 hd hva hvb (k p e s m args below meth c A C H locs ls hP hD hS hl)
theorem x_pop {va : Value} (hd : decode M.2.1 pc = .ok (.pop, 1)) (hva : va.category = 1) (k : X G M d (pc + 1) lv (st) σ Q) : X G M d pc lv (va :: st) σ Q := by
  intro p e s m args below meth c A C H locs ls hP hD hS hl
  exact lv_pop C.1 C.2.1 hd hva (k p e s m args below meth c A C H locs ls hP hD hS hl)
theorem x_ldc2 {idx : Nat} {v : Int64} (hd : decode M.2.1 pc = .ok (.ldc2_w idx, 3)) (hw : Cond.constantLong M.1.cls idx v ∈ wsG) (k : X G M d (pc + 3) lv (.long v :: st) σ Q) : X G M d pc lv (st) σ Q := by
  intro p e s m args below meth c A C H locs ls hP hD hS hl
  exact lv_ldc2 C.1 C.2.1 C.2.2.2.2.2.1 (C.2.2.2.2.2.2.1 _ hw) hd (k p e s m args below meth c A C H locs ls hP hD hS hl)
theorem x_ldc {idx : Nat} {v : Int32} (hd : decode M.2.1 pc = .ok (.ldc idx, 2)) (hw : Cond.constant M.1.cls idx v ∈ wsG) (k : X G M d (pc + 2) lv (.int v :: st) σ Q) : X G M d pc lv (st) σ Q := by
  intro p e s m args below meth c A C H locs ls hP hD hS hl
  exact lv_ldc C.1 C.2.1 C.2.2.2.2.2.1 (C.2.2.2.2.2.2.1 _ hw) hd (k p e s m args below meth c A C H locs ls hP hD hS hl)
theorem x_if_eq {x : Int32} {off : Int} (hd : decode M.2.1 pc = .ok (.ifCond .eq off, 3)) (tgt : Nat) (ht : (pc : Int) + off = (tgt : Int)) (kt : x = 0 → X G M d (tgt) lv st σ Q) (kf : ¬ x = 0 → X G M d (pc + 3) lv st σ Q) : X G M d pc lv (.int x :: st) σ Q := by
  intro p e s m args below meth c A C H locs ls hP hD hS hl
  exact lv_if_eq C.1 C.2.1 hd ht (fun h => kt h p e s m args below meth c A C H locs ls hP hD hS hl) (fun h => kf h p e s m args below meth c A C H locs ls hP hD hS hl)
theorem x_if_ne {x : Int32} {off : Int} (hd : decode M.2.1 pc = .ok (.ifCond .ne off, 3)) (tgt : Nat) (ht : (pc : Int) + off = (tgt : Int)) (kt : x = 0 → X G M d (pc + 3) lv st σ Q) (kf : ¬ x = 0 → X G M d (tgt) lv st σ Q) : X G M d pc lv (.int x :: st) σ Q := by
  intro p e s m args below meth c A C H locs ls hP hD hS hl
  exact lv_if_ne C.1 C.2.1 hd ht (fun h => kf (by simpa using h) p e s m args below meth c A C H locs ls hP hD hS hl) (fun h => kt (by simpa using h) p e s m args below meth c A C H locs ls hP hD hS hl)
theorem x_if_lt {x : Int32} {off : Int} (hd : decode M.2.1 pc = .ok (.ifCond .lt off, 3)) (tgt : Nat) (ht : (pc : Int) + off = (tgt : Int)) (kt : x < 0 → X G M d (tgt) lv st σ Q) (kf : ¬ x < 0 → X G M d (pc + 3) lv st σ Q) : X G M d pc lv (.int x :: st) σ Q := by
  intro p e s m args below meth c A C H locs ls hP hD hS hl
  exact lv_if_lt C.1 C.2.1 hd ht (fun h => kt h p e s m args below meth c A C H locs ls hP hD hS hl) (fun h => kf h p e s m args below meth c A C H locs ls hP hD hS hl)
theorem x_if_ge {x : Int32} {off : Int} (hd : decode M.2.1 pc = .ok (.ifCond .ge off, 3)) (tgt : Nat) (ht : (pc : Int) + off = (tgt : Int)) (kt : x < 0 → X G M d (pc + 3) lv st σ Q) (kf : ¬ x < 0 → X G M d (tgt) lv st σ Q) : X G M d pc lv (.int x :: st) σ Q := by
  intro p e s m args below meth c A C H locs ls hP hD hS hl
  exact lv_if_ge C.1 C.2.1 hd ht (fun h => kf (by simpa using h) p e s m args below meth c A C H locs ls hP hD hS hl) (fun h => kt (by simpa using h) p e s m args below meth c A C H locs ls hP hD hS hl)
theorem x_if_gt {x : Int32} {off : Int} (hd : decode M.2.1 pc = .ok (.ifCond .gt off, 3)) (tgt : Nat) (ht : (pc : Int) + off = (tgt : Int)) (kt : 0 < x → X G M d (tgt) lv st σ Q) (kf : ¬ 0 < x → X G M d (pc + 3) lv st σ Q) : X G M d pc lv (.int x :: st) σ Q := by
  intro p e s m args below meth c A C H locs ls hP hD hS hl
  exact lv_if_gt C.1 C.2.1 hd ht (fun h => kt h p e s m args below meth c A C H locs ls hP hD hS hl) (fun h => kf h p e s m args below meth c A C H locs ls hP hD hS hl)
theorem x_if_le {x : Int32} {off : Int} (hd : decode M.2.1 pc = .ok (.ifCond .le off, 3)) (tgt : Nat) (ht : (pc : Int) + off = (tgt : Int)) (kt : 0 < x → X G M d (pc + 3) lv st σ Q) (kf : ¬ 0 < x → X G M d (tgt) lv st σ Q) : X G M d pc lv (.int x :: st) σ Q := by
  intro p e s m args below meth c A C H locs ls hP hD hS hl
  exact lv_if_le C.1 C.2.1 hd ht (fun h => kf (by simpa using h) p e s m args below meth c A C H locs ls hP hD hS hl) (fun h => kt (by simpa using h) p e s m args below meth c A C H locs ls hP hD hS hl)
theorem x_icmp_eq {x y : Int32} {off : Int} (hd : decode M.2.1 pc = .ok (.if_icmp .eq off, 3)) (tgt : Nat) (ht : (pc : Int) + off = (tgt : Int)) (kt : x = y → X G M d (tgt) lv st σ Q) (kf : ¬ x = y → X G M d (pc + 3) lv st σ Q) : X G M d pc lv (.int y :: .int x :: st) σ Q := by
  intro p e s m args below meth c A C H locs ls hP hD hS hl
  exact lv_icmp_eq C.1 C.2.1 hd ht (fun h => kt h p e s m args below meth c A C H locs ls hP hD hS hl) (fun h => kf h p e s m args below meth c A C H locs ls hP hD hS hl)
theorem x_icmp_ne {x y : Int32} {off : Int} (hd : decode M.2.1 pc = .ok (.if_icmp .ne off, 3)) (tgt : Nat) (ht : (pc : Int) + off = (tgt : Int)) (kt : x = y → X G M d (pc + 3) lv st σ Q) (kf : ¬ x = y → X G M d (tgt) lv st σ Q) : X G M d pc lv (.int y :: .int x :: st) σ Q := by
  intro p e s m args below meth c A C H locs ls hP hD hS hl
  exact lv_icmp_ne C.1 C.2.1 hd ht (fun h => kf (by simpa using h) p e s m args below meth c A C H locs ls hP hD hS hl) (fun h => kt (by simpa using h) p e s m args below meth c A C H locs ls hP hD hS hl)
theorem x_icmp_lt {x y : Int32} {off : Int} (hd : decode M.2.1 pc = .ok (.if_icmp .lt off, 3)) (tgt : Nat) (ht : (pc : Int) + off = (tgt : Int)) (kt : x < y → X G M d (tgt) lv st σ Q) (kf : ¬ x < y → X G M d (pc + 3) lv st σ Q) : X G M d pc lv (.int y :: .int x :: st) σ Q := by
  intro p e s m args below meth c A C H locs ls hP hD hS hl
  exact lv_icmp_lt C.1 C.2.1 hd ht (fun h => kt h p e s m args below meth c A C H locs ls hP hD hS hl) (fun h => kf h p e s m args below meth c A C H locs ls hP hD hS hl)
theorem x_icmp_ge {x y : Int32} {off : Int} (hd : decode M.2.1 pc = .ok (.if_icmp .ge off, 3)) (tgt : Nat) (ht : (pc : Int) + off = (tgt : Int)) (kt : x < y → X G M d (pc + 3) lv st σ Q) (kf : ¬ x < y → X G M d (tgt) lv st σ Q) : X G M d pc lv (.int y :: .int x :: st) σ Q := by
  intro p e s m args below meth c A C H locs ls hP hD hS hl
  exact lv_icmp_ge C.1 C.2.1 hd ht (fun h => kf (by simpa using h) p e s m args below meth c A C H locs ls hP hD hS hl) (fun h => kt (by simpa using h) p e s m args below meth c A C H locs ls hP hD hS hl)
theorem x_icmp_gt {x y : Int32} {off : Int} (hd : decode M.2.1 pc = .ok (.if_icmp .gt off, 3)) (tgt : Nat) (ht : (pc : Int) + off = (tgt : Int)) (kt : y < x → X G M d (tgt) lv st σ Q) (kf : ¬ y < x → X G M d (pc + 3) lv st σ Q) : X G M d pc lv (.int y :: .int x :: st) σ Q := by
  intro p e s m args below meth c A C H locs ls hP hD hS hl
  exact lv_icmp_gt C.1 C.2.1 hd ht (fun h => kt h p e s m args below meth c A C H locs ls hP hD hS hl) (fun h => kf h p e s m args below meth c A C H locs ls hP hD hS hl)
theorem x_icmp_le {x y : Int32} {off : Int} (hd : decode M.2.1 pc = .ok (.if_icmp .le off, 3)) (tgt : Nat) (ht : (pc : Int) + off = (tgt : Int)) (kt : y < x → X G M d (pc + 3) lv st σ Q) (kf : ¬ y < x → X G M d (tgt) lv st σ Q) : X G M d pc lv (.int y :: .int x :: st) σ Q := by
  intro p e s m args below meth c A C H locs ls hP hD hS hl
  exact lv_icmp_le C.1 C.2.1 hd ht (fun h => kf (by simpa using h) p e s m args below meth c A C H locs ls hP hD hS hl) (fun h => kt (by simpa using h) p e s m args below meth c A C H locs ls hP hD hS hl)
theorem x_goto {off : Int} (hd : decode M.2.1 pc = .ok (.goto off, 3)) (tgt : Nat) (ht : (pc : Int) + off = (tgt : Int)) (k : X G M d tgt lv st σ Q) : X G M d pc lv st σ Q := by
  intro p e s m args below meth c A C H locs ls hP hD hS hl
  exact lv_goto C.1 C.2.1 hd ht (k p e s m args below meth c A C H locs ls hP hD hS hl)
theorem x_tblIn {x : Int32} {dflt lo hi off : Int} {offs : Array Int} {len : Nat} (v : Int32) (tgt : Nat) (hx : x = v) (hd : decode M.2.1 pc = .ok (.tableswitch dflt lo hi offs, len)) (h1 : ¬ v.toInt < lo) (h2 : ¬ hi < v.toInt) (ho : offs[(v.toInt - lo).toNat]? = some off) (ht : (pc : Int) + off = (tgt : Int)) (k : X G M d tgt lv st σ Q) : X G M d pc lv (.int x :: st) σ Q := by
  subst hx
  intro p e s m args below meth c A C H locs ls hP hD hS hl
  exact lv_tableIn C.1 C.2.1 hd h1 h2 ho ht (k p e s m args below meth c A C H locs ls hP hD hS hl)
theorem tbl_out {x : Int32} {lo hi : Int} (vs : List Int32) (hv : ∀ i : Int, lo ≤ i → i ≤ hi → Int32.ofInt i ∈ vs) (h : ∀ v ∈ vs, ¬ x = v) : x.toInt < lo ∨ hi < x.toInt := by
  by_cases h1 : x.toInt < lo
  · exact Or.inl h1
  · by_cases h2 : hi < x.toInt
    · exact Or.inr h2
    · have := hv x.toInt (by omega) (by omega)
      rw [Int32.ofInt_toInt] at this
      exact absurd rfl (h x this)
theorem tbl_vs {lo hi : Int} {vs : List Int32} (n : Nat) (hn : lo + n = hi + 1) (h : (List.range n).all (fun k => decide (Int32.ofInt (lo + k) ∈ vs)) = true) : ∀ i : Int, lo ≤ i → i ≤ hi → Int32.ofInt i ∈ vs := by
  intro i h1 h2
  have := List.all_eq_true.mp h (i - lo).toNat (List.mem_range.mpr (by omega))
  have e : lo + ((i - lo).toNat : Int) = i := by omega
  have this := of_decide_eq_true this
  rwa [e] at this
theorem x_tblOut {x : Int32} {dflt lo hi : Int} {offs : Array Int} {len : Nat} (vs : List Int32) (n tgt : Nat) (hn : lo + n = hi + 1) (hv : (List.range n).all (fun k => decide (Int32.ofInt (lo + k) ∈ vs)) = true) (hx : ∀ v ∈ vs, ¬ x = v) (hd : decode M.2.1 pc = .ok (.tableswitch dflt lo hi offs, len)) (ht : (pc : Int) + dflt = (tgt : Int)) (k : X G M d tgt lv st σ Q) : X G M d pc lv (.int x :: st) σ Q := by
  intro p e s m args below meth c A C H locs ls hP hD hS hl
  exact lv_tableOut C.1 C.2.1 hd (tbl_out vs (tbl_vs n hn hv) hx) ht (k p e s m args below meth c A C H locs ls hP hD hS hl)
theorem x_lookIn {x : Int32} {dflt off : Int} {ps : Array (Int × Int)} {len : Nat} (v : Int32) (tgt : Nat) (hx : x = v) (hd : decode M.2.1 pc = .ok (.lookupswitch dflt ps, len)) (hp : (ps.toList.zip (ps.toList.drop 1)).all (fun (a, next) => a.1 < next.1) = true) (ho : Op.lookupswitch.offset ps.toList dflt v.toInt = off) (ht : (pc : Int) + off = (tgt : Int)) (k : X G M d tgt lv st σ Q) : X G M d pc lv (.int x :: st) σ Q := by
  subst hx
  intro p e s m args below meth c A C H locs ls hP hD hS hl
  exact lv_lookup C.1 C.2.1 hd hp ho ht (k p e s m args below meth c A C H locs ls hP hD hS hl)
theorem x_lookOut {x : Int32} {dflt : Int} {ps : Array (Int × Int)} {len : Nat} (tgt : Nat) (hd : decode M.2.1 pc = .ok (.lookupswitch dflt ps, len)) (hp : (ps.toList.zip (ps.toList.drop 1)).all (fun (a, next) => a.1 < next.1) = true) (ho : Op.lookupswitch.offset ps.toList dflt x.toInt = dflt) (ht : (pc : Int) + dflt = (tgt : Int)) (k : X G M d tgt lv st σ Q) : X G M d pc lv (.int x :: st) σ Q := by
  intro p e s m args below meth c A C H locs ls hP hD hS hl
  exact lv_lookup C.1 C.2.1 hd hp ho ht (k p e s m args below meth c A C H locs ls hP hD hS hl)
/-- a class of the layout: its place in vwCl, its fields' words, types, names -/
def KC (ci : Nat) (C : String) (T : u_T) (N : Nat) (ty : Nat → FieldType) : Prop := vwCl[ci]? = some (C, T, N) ∧ (∀ w ∈ u_ws C T N, w ∈ wsG) ∧ (∀ k, k < N → parseFieldDescriptor (T k).2.2.1 = some (ty k)) ∧ (∀ a, a < N → ∀ b, b < N → a ≠ b → (T a).2.1 ≠ (T b).2.1)
/-- the field f, of kind t, of the object at o, as the entry idx of own names it -/
def FG (Ly : List Ds) (own : String) (idx o f t : Nat) : Prop := ∃ (ci : Nat) (C : String) (T : u_T) (N : Nat) (ty : Nat → FieldType) (ts : List Nat), KC ci C T N ty ∧ Ly[o]? = some (0, ci, ts) ∧ ts[f]? = some t ∧ f < N ∧ Cond.fieldLink own idx (T f).1 (T f).2.1 (T f).2.2.1 ∈ wsG
def FP (Ly : List Ds) (own : String) (idx o f t : Nat) : Prop := ∃ (ci : Nat) (C : String) (T : u_T) (N : Nat) (ty : Nat → FieldType) (ts : List Nat), KC ci C T N ty ∧ Ly[o]? = some (0, ci, ts) ∧ ts[f]? = some t ∧ f < N ∧ Cond.fieldLink own idx (T f).1 (T f).2.1 (T f).2.2.1 ∈ wsG ∧ (T f).2.2.2 = false ∧ ty f = (if t = 0 then .int else .long)
theorem x_get {Ly : List Ds} {idx o f t : Nat} (hG : gLy G = Ly) (hs : FG Ly M.1.cls idx o f t) (hd : decode M.2.1 pc = .ok (.getfield idx, 3)) (k : X G M d (pc + 3) lv (fV (gad G) σ o f t :: st) σ Q) : X G M d pc lv (.ref (gad G o) :: st) σ Q := by
  obtain ⟨ci, C', T, N, ty, ts, ⟨k1, k2, k3, k4⟩, h1, h2, h3, h4⟩ := hs
  subst hG
  intro p e s m args below meth c A C H locs ls hP hD hS hl
  exact va_get C.1 C.2.1 C.2.2.2.2.2.2.1 k2 C.2.2.2.2.2.1 C.2.2.2.2.2.2.2.1 hP o (pic_at h1) k1 f h3 (C.2.2.2.2.2.2.1 _ h4) (fun _ h => h) (fs_at h2) hd (k p e s m args below meth c A C H locs ls hP hD hS hl)
theorem x_getI {Ly : List Ds} {idx o f : Nat} (hG : gLy G = Ly) (hs : FG Ly M.1.cls idx o f 0) (hd : decode M.2.1 pc = .ok (.getfield idx, 3)) (k : X G M d (pc + 3) lv (.int (sI σ o f) :: st) σ Q) : X G M d pc lv (.ref (gad G o) :: st) σ Q := x_get hG hs hd k
theorem x_getL {Ly : List Ds} {idx o f : Nat} (hG : gLy G = Ly) (hs : FG Ly M.1.cls idx o f 1) (hd : decode M.2.1 pc = .ok (.getfield idx, 3)) (k : X G M d (pc + 3) lv (.long (sL σ o f) :: st) σ Q) : X G M d pc lv (.ref (gad G o) :: st) σ Q := x_get hG hs hd k
theorem x_getR {Ly : List Ds} {idx o f q : Nat} (hG : gLy G = Ly) (hs : FG Ly M.1.cls idx o f (q + 2)) (hd : decode M.2.1 pc = .ok (.getfield idx, 3)) (k : X G M d (pc + 3) lv (.ref (gad G q) :: st) σ Q) : X G M d pc lv (.ref (gad G o) :: st) σ Q := x_get hG hs hd k
theorem x_putI {Ly : List Ds} {idx o f : Nat} {v : Int32} (hG : gLy G = Ly) (hs : FP Ly M.1.cls idx o f 0) (hd : decode M.2.1 pc = .ok (.putfield idx, 3)) (k : X G M d (pc + 3) lv st (wI σ o f v) Q) : X G M d pc lv (.int v :: .ref (gad G o) :: st) σ Q := by
  obtain ⟨ci, C', T, N, ty, ts, ⟨k1, k2, k3, k4⟩, h1, h2, h3, h4, h5, h6⟩ := hs
  subst hG
  intro p e s m args below meth c A C H locs ls hP hD hS hl
  refine va_put C.1 C.2.1 C.2.2.2.2.2.2.1 k2 ty k3 k4 C.2.2.2.2.2.1 C.2.2.2.2.2.2.2.1 hP hD hS o (pic_at h1) k1 f h3 (C.2.2.2.2.2.2.1 _ h4) (fun _ h => h) h5 (ty := .int) (by rw [k3 f h3, h6]; rfl) rfl rfl (by rw [List.length_mapIdx]; exact (List.getElem?_eq_some_iff.mp h2).1) hd (fun H1 locs1 hP1 hD1 hS1 => ?_)
  rw [pic_fI h1 h2] at hP1 hD1
  exact k p e s m args below meth c A C H1 locs1 ls hP1 hD1 hS1 hl
theorem x_putL {Ly : List Ds} {idx o f : Nat} {v : Int64} (hG : gLy G = Ly) (hs : FP Ly M.1.cls idx o f 1) (hd : decode M.2.1 pc = .ok (.putfield idx, 3)) (k : X G M d (pc + 3) lv st (wL σ o f v) Q) : X G M d pc lv (.long v :: .ref (gad G o) :: st) σ Q := by
  obtain ⟨ci, C', T, N, ty, ts, ⟨k1, k2, k3, k4⟩, h1, h2, h3, h4, h5, h6⟩ := hs
  subst hG
  intro p e s m args below meth c A C H locs ls hP hD hS hl
  refine va_put C.1 C.2.1 C.2.2.2.2.2.2.1 k2 ty k3 k4 C.2.2.2.2.2.1 C.2.2.2.2.2.2.2.1 hP hD hS o (pic_at h1) k1 f h3 (C.2.2.2.2.2.2.1 _ h4) (fun _ h => h) h5 (ty := .long) (by rw [k3 f h3, h6]; rfl) rfl rfl (by rw [List.length_mapIdx]; exact (List.getElem?_eq_some_iff.mp h2).1) hd (fun H1 locs1 hP1 hD1 hS1 => ?_)
  rw [pic_fL h1 h2] at hP1 hD1
  exact k p e s m args below meth c A C H1 locs1 ls hP1 hD1 hS1 hl
theorem x_iald {Ly : List Ds} {o n : Nat} {x : List Nat} {i : Int32} (hG : gLy G = Ly) (ho : Ly[o]? = some (1, n, x)) (hd : decode M.2.1 pc = .ok (.iaload, 1)) (hin : vp_in i n) (k : X G M d (pc + 1) lv (.int (sI σ o i.toNatClampNeg) :: st) σ Q) : X G M d pc lv (.int i :: .ref (gad G o) :: st) σ Q := by
  subst hG
  intro p e s m args below meth c A C H locs ls hP hD hS hl
  exact va_iald C.1 C.2.1 C.2.2.2.2.2.2.2.1 hP o o (pic_at ho) (tys_at ho) hin hd (k p e s m args below meth c A C H locs ls hP hD hS hl)
theorem x_lald {Ly : List Ds} {o n : Nat} {x : List Nat} {i : Int32} (hG : gLy G = Ly) (ho : Ly[o]? = some (2, n, x)) (hd : decode M.2.1 pc = .ok (.laload, 1)) (hin : vp_in i n) (k : X G M d (pc + 1) lv (.long (sL σ o i.toNatClampNeg) :: st) σ Q) : X G M d pc lv (.int i :: .ref (gad G o) :: st) σ Q := by
  subst hG
  intro p e s m args below meth c A C H locs ls hP hD hS hl
  exact va_lald C.1 C.2.1 C.2.2.2.2.2.2.2.1 hP o o (pic_at ho) (tys_at ho) hin hd (k p e s m args below meth c A C H locs ls hP hD hS hl)
theorem x_iast {Ly : List Ds} {o n : Nat} {x : List Nat} {i v : Int32} (hG : gLy G = Ly) (ho : Ly[o]? = some (1, n, x)) (hd : decode M.2.1 pc = .ok (.iastore, 1)) (hin : vp_in i n) (k : X G M d (pc + 1) lv st (wI σ o i.toNatClampNeg v) Q) : X G M d pc lv (.int v :: .int i :: .ref (gad G o) :: st) σ Q := by
  subst hG
  intro p e s m args below meth c A C H locs ls hP hD hS hl
  refine va_iast C.1 C.2.1 C.2.2.2.2.2.2.2.1 hP hD hS o o (pic_at ho) (tys_at ho) hin hd (fun H1 locs1 hP1 hD1 hS1 => ?_)
  rw [pic_aI ho] at hP1 hD1
  exact k p e s m args below meth c A C H1 locs1 ls hP1 hD1 hS1 hl
theorem x_last {Ly : List Ds} {o n : Nat} {x : List Nat} {i : Int32} {v : Int64} (hG : gLy G = Ly) (ho : Ly[o]? = some (2, n, x)) (hd : decode M.2.1 pc = .ok (.lastore, 1)) (hin : vp_in i n) (k : X G M d (pc + 1) lv st (wL σ o i.toNatClampNeg v) Q) : X G M d pc lv (.long v :: .int i :: .ref (gad G o) :: st) σ Q := by
  subst hG
  intro p e s m args below meth c A C H locs ls hP hD hS hl
  refine va_last C.1 C.2.1 C.2.2.2.2.2.2.2.1 hP hD hS o o (pic_at ho) (tys_at ho) hin hd (fun H1 locs1 hP1 hD1 hS1 => ?_)
  rw [pic_aL ho] at hP1 hD1
  exact k p e s m args below meth c A C H1 locs1 ls hP1 hD1 hS1 hl
theorem x_alenI {Ly : List Ds} {o n : Nat} {x : List Nat} {v : Int32} (hG : gLy G = Ly) (ho : Ly[o]? = some (1, n, x)) (hv : Int32.ofNat n = v) (hd : decode M.2.1 pc = .ok (.arraylength, 1)) (k : X G M d (pc + 1) lv (.int v :: st) σ Q) : X G M d pc lv (.ref (gad G o) :: st) σ Q := by
  subst hG
  intro p e s m args below meth c A C H locs ls hP hD hS hl
  exact va_alen C.1 C.2.1 C.2.2.2.2.2.2.2.1 hP o o (pic_at ho) (tys_at ho) hv hd (k p e s m args below meth c A C H locs ls hP hD hS hl)
theorem x_alenL {Ly : List Ds} {o n : Nat} {x : List Nat} {v : Int32} (hG : gLy G = Ly) (ho : Ly[o]? = some (2, n, x)) (hv : Int32.ofNat n = v) (hd : decode M.2.1 pc = .ok (.arraylength, 1)) (k : X G M d (pc + 1) lv (.int v :: st) σ Q) : X G M d pc lv (.ref (gad G o) :: st) σ Q := by
  subst hG
  intro p e s m args below meth c A C H locs ls hP hD hS hl
  exact va_alen C.1 C.2.1 C.2.2.2.2.2.2.2.1 hP o o (pic_at ho) (tys_at ho) hv hd (k p e s m args below meth c A C H locs ls hP hD hS hl)
theorem x_getsM {idx : Nat} (hw : Cond.fieldLink M.1.cls idx "SideWork$Acts" "MEANINGS" "[I" ∈ wsG) (hd : decode M.2.1 pc = .ok (.getstatic idx, 3)) (k : X G M d (pc + 3) lv (.ref (gtM G) :: st) σ Q) : X G M d pc lv st σ Q := by
  intro p e s m args below meth c A C H locs ls hP hD hS hl
  exact va_gets C.1 C.2.1 C.2.2.2.2.2.2.2.2.2.1 hS C.2.2.2.2.2.1 (C.2.2.2.2.2.2.1 _ hw) (fun _ h => h) hd (k p e s m args below meth c A C H locs ls hP hD hS hl)
theorem x_getsG {idx : Nat} (hw : Cond.fieldLink M.1.cls idx "SideWork$Acts" "GREATEST" "[I" ∈ wsG) (hd : decode M.2.1 pc = .ok (.getstatic idx, 3)) (k : X G M d (pc + 3) lv (.ref (gtG G) :: st) σ Q) : X G M d pc lv st σ Q := by
  intro p e s m args below meth c A C H locs ls hP hD hS hl
  exact va_gets C.1 C.2.1 C.2.2.2.2.2.2.2.2.2.2.2.1 hS C.2.2.2.2.2.1 (C.2.2.2.2.2.2.1 _ hw) (fun _ h => h) hd (k p e s m args below meth c A C H locs ls hP hD hS hl)
theorem x_tbM {i : Int32} (hd : decode M.2.1 pc = .ok (.iaload, 1)) (hin : vp_in i 96) (k : X G M d (pc + 1) lv (.int (tbM i.toNatClampNeg) :: st) σ Q) : X G M d pc lv (.int i :: .ref (gtM G) :: st) σ Q := by
  intro p e s m args below meth c A C H locs ls hP hD hS hl
  exact va_ti C.1 C.2.1 C.2.2.2.2.2.2.2.2.2.2.1 hS hin rfl hd (k p e s m args below meth c A C H locs ls hP hD hS hl)
theorem x_tbG {i : Int32} (hd : decode M.2.1 pc = .ok (.iaload, 1)) (hin : vp_in i 7) (k : X G M d (pc + 1) lv (.int (tbG i.toNatClampNeg) :: st) σ Q) : X G M d pc lv (.int i :: .ref (gtG G) :: st) σ Q := by
  intro p e s m args below meth c A C H locs ls hP hD hS hl
  exact va_ti C.1 C.2.1 C.2.2.2.2.2.2.2.2.2.2.2.2 hS hin rfl hd (k p e s m args below meth c A C H locs ls hP hD hS hl)
theorem x_iret {v : Int32} (hr : M.2.2.2 = some .int) (hd : decode M.2.1 pc = .ok (.ireturn, 1)) (hq : Q (some (.int v)) σ) : X G M d pc lv [.int v] σ Q := by
  intro p e s m args below meth c A C H locs ls hP hD hS hl
  exact W.iret C.1 C.2.1 (C.2.2.2.1.trans hr) (fun t ht hw => ⟨⟨_, σ, rfl, hq, by rw [ht]; exact hP, va_K.moved hw.alike C.2.2.2.2.2.2.2.1, hD⟩, hS.F ht⟩) hS.2.2 hd C.2.2.2.2.1
theorem x_zret {v : Int32} (hr : M.2.2.2 = some .boolean) (hn : narrow .boolean (.int v) = .int v) (hd : decode M.2.1 pc = .ok (.ireturn, 1)) (hq : Q (some (.int v)) σ) : X G M d pc lv [.int v] σ Q := by
  intro p e s m args below meth c A C H locs ls hP hD hS hl
  exact W.zret C.1 C.2.1 (C.2.2.2.1.trans hr) hn (fun t ht hw => ⟨⟨_, σ, rfl, hq, by rw [ht]; exact hP, va_K.moved hw.alike C.2.2.2.2.2.2.2.1, hD⟩, hS.F ht⟩) hS.2.2 hd C.2.2.2.2.1
theorem x_lret {v : Int64} (hr : M.2.2.2 = some .long) (hd : decode M.2.1 pc = .ok (.lreturn, 1)) (hq : Q (some (.long v)) σ) : X G M d pc lv [.long v] σ Q := by
  intro p e s m args below meth c A C H locs ls hP hD hS hl
  exact W.lret C.1 C.2.1 (C.2.2.2.1.trans hr) (fun t ht hw => ⟨⟨_, σ, rfl, hq, by rw [ht]; exact hP, va_K.moved hw.alike C.2.2.2.2.2.2.2.1, hD⟩, hS.F ht⟩) hS.2.2 hd C.2.2.2.2.1
theorem x_vret (hr : M.2.2.2 = none) (hd : decode M.2.1 pc = .ok (.return_, 1)) (hq : Q none σ) : X G M d pc lv [] σ Q := by
  intro p e s m args below meth c A C H locs ls hP hD hS hl
  exact W.vret C.1 C.2.1 (C.2.2.2.1.trans hr) (fun t ht hw => ⟨⟨_, σ, rfl, hq, by rw [ht]; exact hP, va_K.moved hw.alike C.2.2.2.2.2.2.2.1, hD⟩, hS.F ht⟩) hS.2.2 hd C.2.2.2.2.1
/-! calls -/
def MK (M' : Mi) (n : Nat) : Prop := (M'.1.cls ≠ "java/lang/invoke/MethodHandle" ∧ M'.1.cls ≠ "java/lang/invoke/VarHandle" ∧ (parseMethodDescriptor M'.1.desc).map (fun d => d.parameters.length) = some n) ∧ Cond.code M'.1 M'.2.1 M'.2.2.1 M'.2.2.2 ∈ wsG ∧ Cond.initialized M'.1.cls ∈ wsG
def MV (M' : Mi) (n : Nat) : Prop := MK M' n ∧ Cond.instanceMethod M'.1 ∈ wsG ∧ Cond.selects M'.1.cls M'.1 M'.1 ∈ wsG
def MS (M' : Mi) (n : Nat) : Prop := MK M' n ∧ Cond.static M'.1 ∈ wsG
theorem goodG {ws : List Cond} (h : ∀ w ∈ ws, w ∈ wsG) : GoodIn wsG ws := fun w hw => ⟨h w hw, good_of_word (wsG_in (h w hw)).2⟩
theorem x_back {p : Program} {e : Env} {s : State} {m : MethodId} {args : Array Value} {below : List Frame} {meth : Method} {c : Code} {A : Nat → Prop} {H : Heap} {locs : List Loc} {ls : Array Slot} {Q' : Option Value → Sg → Prop} {a : Array Value} {rest stk : List Value}
    (C : XC G M p s m args meth c A) (hP : va_P G.2.1 vwCl (gpic G σ) H) (hD : va_D A (gpic G σ)) (hS : va_S A s.heap H locs) (hl : lv_has ls M.2.2.1 lv)
    (hr : va_Run p G.1 e (rmd d) s m args below meth c H locs 0 0 0 0 (F0 m pc ls stk) rest (Qx G Q' (va_A (gpic G σ) H.size) a) (va_A (gpic G σ) H.size))
    (k : ∀ (v : Option Value) (σ' : Sg), Q' v σ' → X G M d (pc + 3) lv (v.toList ++ rest) σ' Q) :
    W p G.1 e (rmd d) s m args below meth c H locs 0 0 (MQ below (Qx G Q A) args s 0 0 A) (F0 m pc ls stk) := by
  have hF : ∀ q, va_A (gpic G σ) H.size q → A q := by
    intro q h
    rcases h with ⟨i, e', h⟩ | h
    · exact hD.2 i (q, e') h
    · exact C.2.2.2.2.2.2.2.2.1 q (Nat.le_trans hS.1 h)
  intro T hT XX
  obtain ⟨v, st₀, t, T', L, h0, X', hL, e1, e2, ⟨⟨v', σ', hv, hq, hP1, hK1, hD1⟩, hz, hk⟩, stp⟩ := hr T hT XX
  cases hv
  rw [h0] at hz hk
  have hS1 : va_S A s.heap T'.heap (locs ++ L) := ⟨Nat.le_trans hS.1 (by rw [e1]; exact hz), fun q h1 h2 => by rw [e1, hk q (Nat.lt_of_lt_of_le h1 hS.1) (fun z => h2 (hF q z))]; exact hS.2.1 q h1 h2, fun q hq => by
      rcases List.mem_append.mp hq with h | h
      · exact hS.2.2 q h
      · exact hF _ (hL q h)⟩
  obtain ⟨t2, a1, b1⟩ := k v σ' hq p e s m args below meth c A C T'.heap (locs ++ L) ls (by rw [e1]; exact hP1) (hD1.weaken (fun i q _ h => hF _ h)) hS1 hl T' rfl X'
  exact ⟨t2, stp t2 a1, b1⟩
theorem x_pre {p : Program} {s : State} {m : MethodId} {args : Array Value} {meth : Method} {c : Code} {A : Nat → Prop} {H : Heap} {locs : List Loc} {av : List Value} (C : XC G M p s m args meth c A) (hP : va_P G.2.1 vwCl (gpic G σ) H) (hD : va_D A (gpic G σ)) (hS : va_S A s.heap H locs) :
    PreS s H (va_Pc av (fun U => U.heap.size = H.size ∧ va_P G.2.1 vwCl (gpic G σ) U.heap ∧ va_K G.2.1 vwCl (gtys G) U ∧ va_D (fun _ => True) (gpic G σ) ∧ sMG G (va_A (gpic G σ) H.size) U U.heap)) av := by
  refine ⟨fun a U g mk q => ?_, fun U hU hW => ⟨rfl, by rw [hU], by rw [hU]; exact hP, va_K.moved hW.alike C.2.2.2.2.2.2.2.1, hD.weaken (fun _ _ _ _ => trivial), ?_⟩⟩
  · obtain ⟨q0, q1, qP, qK, qD, qS⟩ := q
    exact ⟨q0, q1, qP, va_K.moved (u := U) (U := U.calling g mk a) (Vm.Alike.refl U.vm) qK, qD, sMG.moved (u := U) (U := U.calling g mk a) (Vm.Alike.refl U.vm) qS⟩
  · have hF : ∀ q, va_A (gpic G σ) H.size q → A q := by
      intro q h
      rcases h with ⟨i, e', h⟩ | h
      · exact hD.2 i (q, e') h
      · exact C.2.2.2.2.2.2.2.2.1 q (Nat.le_trans hS.1 h)
    rw [hU]
    exact ((C.2.2.2.2.2.2.2.2.2.kept (H1 := H) (fun a h1 h2 => hS.2.1 a h1 h2)).narrow hF).moved hW.alike
theorem x_callV {Ly : List Ds} {M' : Mi} {o ci idx n d' : Nat} {ts : List Nat} (av : List Value) {rest stk : List Value} {Q' : Option Value → Sg → Prop} (hG : gLy G = Ly) (hs : MV M' n) (hlk : Cond.methodLink M.1.cls idx M'.1 ∈ wsG) (hob : Ly[o]? = some (0, ci, ts)) (hcl : (vwCl[ci]?).map (fun q => q.1) = some M'.1.cls) (hn : av.length = n) (hR : d' + 1 ≤ d ∧ M'.2.2.1 ≤ 41) (hst : stk = av.reverse ++ .ref (gad G o) :: rest) (hW : (rest.map fun v => v.category).sum ≤ 8)
    (hd : decode M.2.1 pc = .ok (.invokevirtual idx, 3)) (hct : CT G M' d' (.ref (gad G o) :: av) σ Q') (k : ∀ (v : Option Value) (σ' : Sg), Q' v σ' → X G M d (pc + 3) lv (v.toList ++ rest) σ' Q) : X G M d pc lv stk σ Q := by
  obtain ⟨⟨hk1, hk2, hk3⟩, hk4, hk5⟩ := hs
  subst hG
  subst hst
  intro p e s m args below meth c A C H locs ls hP hD hS hl
  obtain ⟨q, hq1, hq2⟩ := Option.map_eq_some_iff.mp hcl
  have hp := x_pre (av := .ref (gad G o) :: av) C hP hD hS
  refine x_back C hP hD hS hl (va_runV (As := av) (rest := rest) (nL := M.2.2.1) (own := M.1.cls) (C := M'.1.cls) (Ts := wsG) ⟨C.1, C.2.1, C.2.2.1, C.2.2.2.2.2.1, C.2.2.2.2.2.2.1⟩ (hct H.size) (cwV (ws' := wsG) n C.2.2.2.2.2.2.1 (goodG (fun w hw => ?_)) rfl rfl rfl ⟨rfl, hk1⟩ ⟨hR.1, ?_⟩) ⟨hp.1, hq2 ▸ va_recv C.2.2.2.2.2.2.2.1 hP hq1 (pic_at hob), hp.2⟩ rfl hn hl.1 rfl (lv_room hW) hd ⟨Nat.le_refl 0, Nat.le_refl 0⟩) k
  · simp only [wsV, List.mem_append, List.mem_cons, List.not_mem_nil, or_false] at hw
    rcases hw with (rfl | rfl | rfl | rfl) | rfl | hw
    · exact hlk
    · exact hk4
    · exact hk5
    · exact hk3
    · exact hk2
    · exact hw
  · show 8 + (M'.2.2.1 + 11) + 60 * d' ≤ 60 * d
    omega
theorem x_callS {M' : Mi} {idx n d' : Nat} (av : List Value) {rest stk : List Value} {Q' : Option Value → Sg → Prop} (hs : MS M' n) (hlk : Cond.methodLink M.1.cls idx M'.1 ∈ wsG) (hn : av.length = n) (hR : d' + 1 ≤ d ∧ M'.2.2.1 ≤ 41) (hst : stk = av.reverse ++ rest) (hW : (rest.map fun v => v.category).sum ≤ 8)
    (hd : decode M.2.1 pc = .ok (.invokestatic idx, 3)) (hct : CT G M' d' av σ Q') (k : ∀ (v : Option Value) (σ' : Sg), Q' v σ' → X G M d (pc + 3) lv (v.toList ++ rest) σ' Q) : X G M d pc lv stk σ Q := by
  obtain ⟨⟨hk1, hk2, hk3⟩, hk4⟩ := hs
  subst hst
  intro p e s m args below meth c A C H locs ls hP hD hS hl
  have hp := x_pre (av := av) C hP hD hS
  refine x_back C hP hD hS hl (va_runS (As := av) (rest := rest) (nL := M.2.2.1) (own := M.1.cls) (Ts := wsG) ⟨C.1, C.2.1, C.2.2.1, C.2.2.2.2.2.1, C.2.2.2.2.2.2.1⟩ (hct H.size) (va_cwS (ws' := wsG) n C.2.2.2.2.2.2.1 (goodG (fun w hw => ?_)) rfl rfl rfl hk1 ⟨hR.1, ?_⟩) hp rfl hn hl.1 rfl (lv_room hW) hd ⟨Nat.le_refl 0, Nat.le_refl 0⟩) k
  · simp only [va_wsS, List.mem_append, List.mem_cons, List.not_mem_nil, or_false] at hw
    rcases hw with (rfl | rfl | rfl) | rfl | hw
    · exact hlk
    · exact hk4
    · exact hk3
    · exact hk2
    · exact hw
  · show 8 + (M'.2.2.1 + 11) + 60 * d' ≤ 60 * d
    omega
theorem x_getIv {Ly : List Ds} {idx o f : Nat} {v : Int32} (hG : gLy G = Ly) (hs : FG Ly M.1.cls idx o f 0) (hd : decode M.2.1 pc = .ok (.getfield idx, 3)) (hv : sI σ o f = v) (k : X G M d (pc + 3) lv (.int v :: st) σ Q) : X G M d pc lv (.ref (gad G o) :: st) σ Q := by
  subst hv
  exact x_get hG hs hd k
theorem x_getLv {Ly : List Ds} {idx o f : Nat} {v : Int64} (hG : gLy G = Ly) (hs : FG Ly M.1.cls idx o f 1) (hd : decode M.2.1 pc = .ok (.getfield idx, 3)) (hv : sL σ o f = v) (k : X G M d (pc + 3) lv (.long v :: st) σ Q) : X G M d pc lv (.ref (gad G o) :: st) σ Q := by
  subst hv
  exact x_get hG hs hd k
theorem x_ialdv {Ly : List Ds} {o n : Nat} {x : List Nat} {i v : Int32} (hG : gLy G = Ly) (ho : Ly[o]? = some (1, n, x)) (hd : decode M.2.1 pc = .ok (.iaload, 1)) (hin : vp_in i n) (hv : sI σ o i.toNatClampNeg = v) (k : X G M d (pc + 1) lv (.int v :: st) σ Q) : X G M d pc lv (.int i :: .ref (gad G o) :: st) σ Q := by
  subst hv
  exact x_iald hG ho hd hin k
theorem x_laldv {Ly : List Ds} {o n : Nat} {x : List Nat} {i : Int32} {v : Int64} (hG : gLy G = Ly) (ho : Ly[o]? = some (2, n, x)) (hd : decode M.2.1 pc = .ok (.laload, 1)) (hin : vp_in i n) (hv : sL σ o i.toNatClampNeg = v) (k : X G M d (pc + 1) lv (.long v :: st) σ Q) : X G M d pc lv (.int i :: .ref (gad G o) :: st) σ Q := by
  subst hv
  exact x_lald hG ho hd hin k
theorem x_case {x : Int32} (v : Int32) (k1 : x = v → X G M d pc lv (.int x :: st) σ Q) (k2 : ¬ x = v → X G M d pc lv (.int x :: st) σ Q) : X G M d pc lv (.int x :: st) σ Q := by
  by_cases h : x = v
  · exact k1 h
  · exact k2 h
theorem x_mmin {idx : Nat} {x y : Int32} (h1 : Cond.methodLink M.1.cls idx Lib.Math.min.name ∈ wsG) (h2 : Cond.static Lib.Math.min.name ∈ wsG) (h3 : Cond.initialized "java/lang/Math" ∈ wsG) (h4 : Cond.code Lib.Math.min.name Lib.Math.min.code 2 (some .int) ∈ wsG) (hR : 1 ≤ d) (hW : (st.map fun v => v.category).sum ≤ 8) (hd : decode M.2.1 pc = .ok (.invokestatic idx, 3)) (k : X G M d (pc + 3) lv (.int (if y < x then y else x) :: st) σ Q) : X G M d pc lv (.int y :: .int x :: st) σ Q := by
  intro p e s m args below meth c A C H locs ls hP hD hS hl
  exact va_mmin C.1 C.2.1 (C.2.2.1.trans hl.1.symm) C.2.2.2.2.2.1 (C.2.2.2.2.2.2.1 _ h1) (C.2.2.2.2.2.2.1 _ h2) (C.2.2.2.2.2.2.1 _ h3) (C.2.2.2.2.2.2.1 _ h4) hR (by show _ + 13 ≤ 60 * d; omega) (Nat.le_refl 0) (Nat.le_refl 0) hd (k p e s m args below meth c A C H locs ls hP hD hS hl)
end XR
/-! answers: an int, a long, none -/
def qi (Q : Int32 → Sg → Prop) : Option Value → Sg → Prop := fun v σ => ∃ r : Int32, v = some (.int r) ∧ Q r σ
def ql (Q : Int64 → Sg → Prop) : Option Value → Sg → Prop := fun v σ => ∃ r : Int64, v = some (.long r) ∧ Q r σ
def qv (Q : Sg → Prop) : Option Value → Sg → Prop := fun v σ => v = none ∧ Q σ
theorem rd_hit {σ : Sg} {o j : Nat} {v : Int32} : sI (wI σ o j v) o j = v := by simp [sI, wI]
theorem rd_no {σ : Sg} {o j a b : Nat} {v w : Int32} (h : o ≠ a) (hv : sI σ o j = v) : sI (wI σ a b w) o j = v := by subst hv; simp [sI, wI, h]
theorem rd_nj {σ : Sg} {o j a b : Nat} {v w : Int32} (h : j ≠ b) (hv : sI σ o j = v) : sI (wI σ a b w) o j = v := by subst hv; simp [sI, wI, h]
theorem rd_L {σ : Sg} {o j a b : Nat} {v : Int32} {w : Int64} (hv : sI σ o j = v) : sI (wL σ a b w) o j = v := hv
theorem rl_hit {σ : Sg} {o j : Nat} {v : Int64} : sL (wL σ o j v) o j = v := by simp [sL, wL]
theorem rl_no {σ : Sg} {o j a b : Nat} {v w : Int64} (h : o ≠ a) (hv : sL σ o j = v) : sL (wL σ a b w) o j = v := by subst hv; simp [sL, wL, h]
theorem rl_nj {σ : Sg} {o j a b : Nat} {v w : Int64} (h : j ≠ b) (hv : sL σ o j = v) : sL (wL σ a b w) o j = v := by subst hv; simp [sL, wL, h]
theorem rl_I {σ : Sg} {o j a b : Nat} {v : Int64} {w : Int32} (hv : sL σ o j = v) : sL (wI σ a b w) o j = v := hv
section XQ
variable {G : Gx} {M : Mi} {d pc : Nat} {lv : List (Nat × Value)} {σ : Sg} {Q : Option Value → Sg → Prop}
theorem x_callVi {Ly : List Ds} {M' : Mi} {o ci idx n d' : Nat} {ts : List Nat} (av : List Value) {rest stk : List Value} {Q' : Int32 → Sg → Prop} (hG : gLy G = Ly) (hs : MV M' n) (hlk : Cond.methodLink M.1.cls idx M'.1 ∈ wsG) (hob : Ly[o]? = some (0, ci, ts)) (hcl : (vwCl[ci]?).map (fun q => q.1) = some M'.1.cls) (hn : av.length = n) (hR : d' + 1 ≤ d ∧ M'.2.2.1 ≤ 41) (hst : stk = av.reverse ++ .ref (gad G o) :: rest) (hW : (rest.map fun v => v.category).sum ≤ 8)
    (hd : decode M.2.1 pc = .ok (.invokevirtual idx, 3)) (hct : CT G M' d' (.ref (gad G o) :: av) σ (qi Q')) (k : ∀ (r : Int32) (σ' : Sg), Q' r σ' → X G M d (pc + 3) lv (.int r :: rest) σ' Q) : X G M d pc lv stk σ Q :=
  x_callV av hG hs hlk hob hcl hn hR hst hW hd hct (fun v σ' hv => by obtain ⟨r, rfl, hq⟩ := hv; exact k r σ' hq)
theorem x_callSi {M' : Mi} {idx n d' : Nat} (av : List Value) {rest stk : List Value} {Q' : Int32 → Sg → Prop} (hs : MS M' n) (hlk : Cond.methodLink M.1.cls idx M'.1 ∈ wsG) (hn : av.length = n) (hR : d' + 1 ≤ d ∧ M'.2.2.1 ≤ 41) (hst : stk = av.reverse ++ rest) (hW : (rest.map fun v => v.category).sum ≤ 8)
    (hd : decode M.2.1 pc = .ok (.invokestatic idx, 3)) (hct : CT G M' d' av σ (qi Q')) (k : ∀ (r : Int32) (σ' : Sg), Q' r σ' → X G M d (pc + 3) lv (.int r :: rest) σ' Q) : X G M d pc lv stk σ Q :=
  x_callS av hs hlk hn hR hst hW hd hct (fun v σ' hv => by obtain ⟨r, rfl, hq⟩ := hv; exact k r σ' hq)
theorem x_callVl {Ly : List Ds} {M' : Mi} {o ci idx n d' : Nat} {ts : List Nat} (av : List Value) {rest stk : List Value} {Q' : Int64 → Sg → Prop} (hG : gLy G = Ly) (hs : MV M' n) (hlk : Cond.methodLink M.1.cls idx M'.1 ∈ wsG) (hob : Ly[o]? = some (0, ci, ts)) (hcl : (vwCl[ci]?).map (fun q => q.1) = some M'.1.cls) (hn : av.length = n) (hR : d' + 1 ≤ d ∧ M'.2.2.1 ≤ 41) (hst : stk = av.reverse ++ .ref (gad G o) :: rest) (hW : (rest.map fun v => v.category).sum ≤ 8)
    (hd : decode M.2.1 pc = .ok (.invokevirtual idx, 3)) (hct : CT G M' d' (.ref (gad G o) :: av) σ (ql Q')) (k : ∀ (r : Int64) (σ' : Sg), Q' r σ' → X G M d (pc + 3) lv (.long r :: rest) σ' Q) : X G M d pc lv stk σ Q :=
  x_callV av hG hs hlk hob hcl hn hR hst hW hd hct (fun v σ' hv => by obtain ⟨r, rfl, hq⟩ := hv; exact k r σ' hq)
theorem x_callSl {M' : Mi} {idx n d' : Nat} (av : List Value) {rest stk : List Value} {Q' : Int64 → Sg → Prop} (hs : MS M' n) (hlk : Cond.methodLink M.1.cls idx M'.1 ∈ wsG) (hn : av.length = n) (hR : d' + 1 ≤ d ∧ M'.2.2.1 ≤ 41) (hst : stk = av.reverse ++ rest) (hW : (rest.map fun v => v.category).sum ≤ 8)
    (hd : decode M.2.1 pc = .ok (.invokestatic idx, 3)) (hct : CT G M' d' av σ (ql Q')) (k : ∀ (r : Int64) (σ' : Sg), Q' r σ' → X G M d (pc + 3) lv (.long r :: rest) σ' Q) : X G M d pc lv stk σ Q :=
  x_callS av hs hlk hn hR hst hW hd hct (fun v σ' hv => by obtain ⟨r, rfl, hq⟩ := hv; exact k r σ' hq)
theorem x_callVv {Ly : List Ds} {M' : Mi} {o ci idx n d' : Nat} {ts : List Nat} (av : List Value) {rest stk : List Value} {Q' : Sg → Prop} (hG : gLy G = Ly) (hs : MV M' n) (hlk : Cond.methodLink M.1.cls idx M'.1 ∈ wsG) (hob : Ly[o]? = some (0, ci, ts)) (hcl : (vwCl[ci]?).map (fun q => q.1) = some M'.1.cls) (hn : av.length = n) (hR : d' + 1 ≤ d ∧ M'.2.2.1 ≤ 41) (hst : stk = av.reverse ++ .ref (gad G o) :: rest) (hW : (rest.map fun v => v.category).sum ≤ 8)
    (hd : decode M.2.1 pc = .ok (.invokevirtual idx, 3)) (hct : CT G M' d' (.ref (gad G o) :: av) σ (qv Q')) (k : ∀ (σ' : Sg), Q' σ' → X G M d (pc + 3) lv (rest) σ' Q) : X G M d pc lv stk σ Q :=
  x_callV av hG hs hlk hob hcl hn hR hst hW hd hct (fun v σ' hv => by obtain ⟨rfl, hq⟩ := hv; exact k σ' hq)
theorem x_callSv {M' : Mi} {idx n d' : Nat} (av : List Value) {rest stk : List Value} {Q' : Sg → Prop} (hs : MS M' n) (hlk : Cond.methodLink M.1.cls idx M'.1 ∈ wsG) (hn : av.length = n) (hR : d' + 1 ≤ d ∧ M'.2.2.1 ≤ 41) (hst : stk = av.reverse ++ rest) (hW : (rest.map fun v => v.category).sum ≤ 8)
    (hd : decode M.2.1 pc = .ok (.invokestatic idx, 3)) (hct : CT G M' d' av σ (qv Q')) (k : ∀ (σ' : Sg), Q' σ' → X G M d (pc + 3) lv (rest) σ' Q) : X G M d pc lv stk σ Q :=
  x_callS av hs hlk hn hR hst hW hd hct (fun v σ' hv => by obtain ⟨rfl, hq⟩ := hv; exact k σ' hq)
end XQ
def bz (v : Int32) : Prop := narrow .boolean (.int v) = .int v
theorem bz_0 : bz 0 := rfl
theorem bz_1 : bz 1 := rfl
