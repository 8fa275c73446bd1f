/-! the law's beginning -/
theorem cl_8 : Cond.classLink RL 8 RX10 ∈ wsG := inT1 (List.mem_of_getElem? (i := 19) rfl) rfl
theorem cl_16 : Cond.classLink RL 16 RX11 ∈ wsG := inT4 (List.mem_of_getElem? (i := 95) rfl) rfl
theorem iw_X10 : Cond.instantiable RX10 3 ∈ wsG := inT1 (List.mem_of_getElem? (i := 20) rfl) rfl
theorem iw_X11 : Cond.instantiable RX11 56 ∈ wsG := inT4 (List.mem_of_getElem? (i := 96) rfl) rfl
theorem ii_X10 : Cond.initialized RX10 ∈ wsG := inT1 (List.mem_of_getElem? (i := 1) rfl) rfl
theorem ii_X11 : Cond.initialized RX11 ∈ wsG := inT1 (List.mem_of_getElem? (i := 9) rfl) rfl
theorem im_X10 : Cond.instanceMethod yX10_init ∈ wsG := inT1 (List.mem_of_getElem? (i := 22) rfl) rfl
theorem im_X11 : Cond.instanceMethod yX11_init ∈ wsG := inT4 (List.mem_of_getElem? (i := 98) rfl) rfl
/-- a world of two pieces -/
theorem P_two {D : va_G} {w1 w2 : va_W} {H : Heap} (h : va_P D vwCl (w1 ++ w2) H) : va_P D vwCl w1 H ∧ va_P D vwCl w2 H := by
  refine ⟨fun k q hk => h k q ?_, fun k q hk => h (w1.length + k) q ?_⟩
  · rw [List.getElem?_append_left (List.getElem?_eq_some_iff.mp hk).1]
    exact hk
  · rw [List.getElem?_append_right (by omega), Nat.add_sub_cancel_left]
    exact hk
theorem D_two {A : Nat → Prop} {w1 w2 : va_W} (h : va_D A (w1 ++ w2)) : va_D A w1 ∧ va_D A w2 ∧ ∀ (i j : Nat) (p q : Nat × va_E), w1[i]? = some p → w2[j]? = some q → p.1 ≠ q.1 := by
  have l1 : ∀ {k : Nat} {q : Nat × va_E}, w1[k]? = some q → (w1 ++ w2)[k]? = some q := fun hk => by
    rw [List.getElem?_append_left (List.getElem?_eq_some_iff.mp hk).1]
    exact hk
  have l2 : ∀ {k : Nat} {q : Nat × va_E}, w2[k]? = some q → (w1 ++ w2)[w1.length + k]? = some q := fun hk => by
    rw [List.getElem?_append_right (by omega), Nat.add_sub_cancel_left]
    exact hk
  refine ⟨⟨fun i j p q hi hj e => h.1 i j p q (l1 hi) (l1 hj) e, fun k q hk => h.2 k q (l1 hk)⟩, ⟨fun i j p q hi hj e => ?_, fun k q hk => h.2 _ q (l2 hk)⟩, fun i j p q hi hj e => ?_⟩
  · have := h.1 _ _ p q (l2 hi) (l2 hj) e
    omega
  · have := h.1 _ _ p q (l1 hi) (l2 hj) e
    have h1 := (List.getElem?_eq_some_iff.mp hi).1
    omega
section BG
variable {l : Launch} {D : va_G} {p : Program} {e : Env} {s : State} {m : MethodId} {args : Array Value} {below : List Frame} {meth : Method} {c : Code} {H : Heap} {locs : List Loc} {ls : Array Slot} {cells slots pc : Nat} {QQ : State → Prop} {A : Nat → Prop}
theorem w_init {M' : Mi} {R R' : Room} {idx b : Nat} {wc : va_W} {Q' : va_W → Tys → Prop} {st : List Value} (hx : p.tables.exec = Jvm.exec) (hb : c.code = cL_law) (hml : c.maxLocals = 7) (hown : s.vm.findClass RL = some m.cls) (hG : ∀ w ∈ wsG, w.before args s = true) (hA : ∀ q : Nat, s.heap.size ≤ q → A q) (hk : MK M' 0) (hi : Cond.instanceMethod M'.1 ∈ wsG) (hin : M'.1.name = "<init>") (hrn : M'.2.2.2 = none) (hlk : Cond.methodLink RL idx M'.1 ∈ wsG) (hW : (st.map fun v => v.category).sum ≤ 8) (hR : R'.frames + 1 ≤ R.frames ∧ 8 + (M'.2.2.1 + 11) + R'.locals ≤ R.locals) (hcs : cells + R'.cells ≤ R.cells ∧ slots + R'.slots ≤ R.slots)
    (hd : decode cL_law pc = .ok (.invokespecial idx, 3)) (hct : NT l D M' R' [.ref b] wc [] Q') (hK : va_K D vwCl [] s) (hPc : va_P D vwCl wc H) (hDc : va_D A wc) (hS : va_S A s.heap H locs) (hsz : ls.size = 7)
    (kk : ∀ (w1 : va_W) (t1 : Tys) (H1 : Heap) (locs1 : List Loc), Q' w1 t1 → va_P D vwCl w1 H1 → va_K D vwCl t1 s → va_D (va_A wc H.size) w1 → (∀ q : Nat, q < H.size → ¬ va_A wc H.size q → H1[q]? = H[q]?) → va_S A s.heap H1 locs1 → W p l e R s m args below meth c H1 locs1 (cells + R'.cells) (slots + R'.slots) QQ (F0 m (pc + 3) ls st)) :
    W p l e R s m args below meth c H locs cells slots QQ (F0 m pc ls (.ref b :: st)) := by
  obtain ⟨hk1, hk2, hk3⟩ := hk
  have hFc : ∀ q, va_A wc H.size q → A q := fun q h => A_in hDc (fun q hq => hA q (Nat.le_trans hS.1 hq)) h
  have hcw := cwI (R := R) (rm := R') (Ts := wsG) (ws' := wsG) (own := RL) (index := idx) (y := M'.1) (bytes := M'.2.1) (maxL := M'.2.2.1) 0 hG (goodG (ws := .code M'.1 M'.2.1 M'.2.2.1 none :: wsG) (fun w hw => by
    rcases List.mem_cons.mp hw with h | h
    · rw [h, ← hrn]; exact hk2
    · exact h)) rfl rfl rfl (hG _ hk3) (hG _ hlk) (hG _ hi) hin hk1 hR
  have hM := hct H.size
  rw [hrn] at hM
  refine va_callv (va_runI (As := []) (rest := st) (nL := 7) (Ts := wsG) ⟨hx, hb, hml, hown, hG⟩ hM hcw ⟨fun a U g mk q => by obtain ⟨q0, q1, qP, qK, qD⟩ := q; exact ⟨q0, q1, qP, va_K.moved (u := U) (U := U.calling g mk a) (Vm.Alike.refl U.vm) qK, qD⟩, fun U hU hV => ⟨rfl, by rw [hU], by rw [hU]; exact hPc, va_K.moved hV.alike hK, hDc.weaken (fun _ _ _ _ => trivial)⟩⟩ rfl rfl hsz rfl (lv_room hW) hd hcs) hS (fun q _ h => hFc q h) hFc (fun u t H1 locs1 ht hvm hw hB hz1 hk1' hS1 => ?_)
  obtain ⟨w1, t1⟩ := u
  obtain ⟨hP1, hK1, hD1⟩ := hB
  rw [ht] at hP1
  exact kk w1 t1 H1 locs1 hw hP1 (va_K.moved hvm.symm hK1) hD1 hk1' hS1
end BG
