def R_law : String := "SideWorkLaw"
def lw_P (b : Addr) (xs : List Int32) (args : Array Value) (s : State) : Prop := args = #[.ref b] ∧ s.IntsAt b xs ∧ xs.length ≤ 2560 ∧ (Jvm.Cond.and given_1 narrow_1).before args s = true
def lw_Q (_ : Array Value) (s : State) (o : Outcome) (t : State) : Prop := o = .returned (some (.int 1)) ∧ Framed s o t [] 3134 153486
def lw_Z (below : List Frame) (a : Array Value) (s : State) : State → Prop := fun t => ∃ o, t.status = .running ∧ Ended t below o ∧ lw_Q a s o t
/-- the law's own end, with 1 on the stack, nothing written that was there before, its room as the claim has it -/
theorem lw_ret {p : Program} {l : Launch} {e : Env} {s : State} {m : MethodId} {below : List Frame} {meth : Method} {c : Code} {b : Nat} (hx : p.tables.exec = Jvm.exec) (hb : c.code = code) (hr : meth.sig.returnType = ret) (hlocks : meth.locks = false) {pc : Nat} {H : Heap} {ls : Array Slot} (hdg : decode code pc = .ok (.ireturn, 1)) : W p l e room_1 s m #[Value.ref b] below meth c H [] 3134 153486 (lw_Z below #[Value.ref b] s) (F0 m pc ls [.int 1]) := by
  intro T hT X
  obtain ⟨fs, hret, hrun, hended, hW, hframe⟩ := X.leave (v := some (.int 1)) (hlocks := hlocks) (fun h => by rw [hr] at h; cases h)
  have hmeth' : T.vm.method? m = some meth := X.method'
  refine ⟨T.setFrames fs, ?_, .returned (some (.int 1)), hrun, hended, rfl, ⟨_, rfl⟩, hW, hframe⟩
  jvm_step X.here [X.here.top, hx, hb, hdg, hmeth', hr, ret, narrow_b1]
  (try refine ⟨rfl, ?_⟩); (try refine ⟨rfl, ?_⟩)
  first | (intro acts; rw [hret _ acts rfl rfl rfl]) | rw [hret _ _ rfl rfl rfl]
  exact Steps.refl _
/-- what holds at the law's entry: the machine, the code, the tables' words (any of lw_tbl by 'hts w (by decide +kernel)'), the script of L ints xs at the cell b, what the Statement gives of the start (any of its parts by flat_of_before) -/
def lw_At (p : Program) (s : State) (m : MethodId) (meth : Method) (c : Code) (b L : Nat) (xs : Nat → Int32) : Prop :=
  p.tables.exec = Jvm.exec ∧ c.code = code ∧ meth.sig.returnType = ret ∧ c.maxLocals = 7 ∧ s.vm.findClass R_law = some m.cls ∧ (∀ w ∈ lw_tbl, w.before #[Value.ref b] s = true) ∧ va_X b L xs s s.heap ∧ b < s.heap.size ∧ meth.locks = false ∧ (Jvm.Cond.and given_1 narrow_1).before #[Value.ref b] s = true

/-! the law's walk: what holds all through it, and how it calls -/
abbrev mLw : Mi := (yL_law, cL_law, 7, ret)
abbrev gC (l : Launch) (D : va_G) (a1 : Nat → Nat) (c1 : Nat → ClassId) (tt : Nat × Nat) : Gx := (l, D, a1, c1, tt, LyC)
abbrev gM (l : Launch) (D : va_G) (a2 : Nat → Nat) (c2 : Nat → ClassId) (tt : Nat × Nat) : Gx := (l, D, a2, c2, tt, LyM)
abbrev nA (s : State) : Nat → Prop := fun q => s.heap.size ≤ q
def LC (l : Launch) (D : va_G) (a1 : Nat → Nat) (c1 : Nat → ClassId) (a2 : Nat → Nat) (c2 : Nat → ClassId) (tt : Nat × Nat) (o : Nat) (kO : ClassId) (sa b L : Nat) (xs : Nat → Int32) (p : Program) (s : State) (m : MethodId) (meth : Method) (c : Code) : Prop :=
  XC (gC l D a1 c1 tt) mLw p s m #[Value.ref b] meth c (nA s) ∧ XC (gM l D a2 c2 tt) mLw p s m #[Value.ref b] meth c (nA s) ∧ va_K D vwCl ((kO, .long) :: tys LyC c1) s ∧ TX sa (nA s) s s.heap ∧ l.stackTraces = false ∧ va_X b L xs s s.heap ∧ b < s.heap.size ∧ s.heap.size ≤ o ∧ (∀ i, i < LyC.length → ∀ j, j < LyM.length → a1 i ≠ a2 j) ∧ (∀ i, i < LyC.length → a1 i ≠ o) ∧ (∀ j, j < LyM.length → a2 j ≠ o)
def LW (D : va_G) (a1 : Nat → Nat) (c1 : Nat → ClassId) (a2 : Nat → Nat) (c2 : Nat → ClassId) (o : Nat) (kO : ClassId) (s : State) (σ μ : Sg) (f : Nat → Int64) (H : Heap) (locs : List Loc) : Prop :=
  va_P D vwCl (pic LyC a1 c1 σ) H ∧ va_P D vwCl (pic LyM a2 c2 μ) H ∧ va_P D vwCl [oc o kO f] H ∧ va_D (nA s) (pic LyC a1 c1 σ) ∧ va_D (nA s) (pic LyM a2 c2 μ) ∧ va_S (nA s) s.heap H locs
/-- the law's locals at turn j -/
abbrev lvj (j o b : Nat) (a1 a2 : Nat → Nat) : List (Nat × Value) := [(4, .int (nI (5 * j))), (3, .ref o), (2, .ref (a2 0)), (1, .ref (a1 0)), (0, .ref b)]
section LAW
variable {l : Launch} {D : va_G} {a1 a2 : Nat → Nat} {c1 c2 : Nat → ClassId} {tt : Nat × Nat} {o : Nat} {kO : ClassId} {sa b L : Nat} {xs : Nat → Int32} {p : Program} {e : Env} {s : State} {m : MethodId} {below : List Frame} {meth : Method} {c : Code} {H : Heap} {locs : List Loc} {ls : Array Slot} {kc ns j : Nat} {QQ : State → Prop} {σ μ : Sg} {f : Nat → Int64}
theorem LC.cls (C : LC l D a1 c1 a2 c2 tt o kO sa b L xs p s m meth c) (hW : LW D a1 c1 a2 c2 o kO s σ μ f H locs) {σ' : Sg} {H1 : Heap} {locs1 : List Loc} (hP1 : va_P D vwCl (pic LyC a1 c1 σ') H1) (hD1 : va_D (nA s) (pic LyC a1 c1 σ')) (hk : ∀ q : Nat, q < H.size → ¬ va_A (pic LyC a1 c1 σ) H.size q → H1[q]? = H[q]?) (hS1 : va_S (nA s) s.heap H1 locs1) : LW D a1 c1 a2 c2 o kO s σ' μ f H1 locs1 := by
  obtain ⟨h1, h2, h3, h4, h5, h6⟩ := hW
  refine ⟨hP1, h2.kept (fun k x hx => ?_), oc_kept h3 (hk _ (oc_lt h3) (ap_not (G := gC l D a1 c1 tt) (oc_lt h3) C.2.2.2.2.2.2.2.2.2.1)), hD1, h5, hS1⟩
  obtain ⟨e1, e2⟩ := pic_ad hx
  have hlt := (h2 k x hx).lt
  exact hk _ hlt (ap_not (G := gC l D a1 c1 tt) hlt (fun i hi => by rw [e2]; exact C.2.2.2.2.2.2.2.2.1 i hi k e1))
theorem LC.mod (C : LC l D a1 c1 a2 c2 tt o kO sa b L xs p s m meth c) (hW : LW D a1 c1 a2 c2 o kO s σ μ f H locs) {μ' : Sg} {H1 : Heap} {locs1 : List Loc} (hP1 : va_P D vwCl (pic LyM a2 c2 μ') H1) (hD1 : va_D (nA s) (pic LyM a2 c2 μ')) (hk : ∀ q : Nat, q < H.size → ¬ va_A (pic LyM a2 c2 μ) H.size q → H1[q]? = H[q]?) (hS1 : va_S (nA s) s.heap H1 locs1) : LW D a1 c1 a2 c2 o kO s σ μ' f H1 locs1 := by
  obtain ⟨h1, h2, h3, h4, h5, h6⟩ := hW
  refine ⟨h1.kept (fun k x hx => ?_), hP1, oc_kept h3 (hk _ (oc_lt h3) (ap_not (G := gM l D a2 c2 tt) (oc_lt h3) C.2.2.2.2.2.2.2.2.2.2)), h4, hD1, hS1⟩
  obtain ⟨e1, e2⟩ := pic_ad hx
  have hlt := (h1 k x hx).lt
  exact hk _ hlt (ap_not (G := gM l D a2 c2 tt) hlt (fun i hi => by rw [e2]; exact (C.2.2.2.2.2.2.2.2.1 k e1 i hi).symm))
theorem l_arg {pc : Nat} {rest : List Value} (n : Nat) {k : Int} (C : LC l D a1 c1 a2 c2 tt o kO sa b L xs p s m meth c) (hS : va_S (nA s) s.heap H locs) (hl : lv_has ls 7 (lvj j o b a1 a2)) (hn : 5 * j + n < L) (hL : L < 2 ^ 31) (hk : Int32.ofInt k = nI n) (d0 : decode cL_law pc = .ok (.aload_n 0, 1)) (d1 : decode cL_law (pc + 1) = .ok (.iload 4, 2)) (d2 : decode cL_law (pc + 1 + 2) = .ok (.iconst k, 1)) (d3 : decode cL_law (pc + 1 + 2 + 1) = .ok (.iadd, 1)) (d4 : decode cL_law (pc + 1 + 2 + 1 + 1) = .ok (.iaload, 1))
    (kk : W p l e room_1 s m #[Value.ref b] below meth c H locs kc ns QQ (F0 m (pc + 6) ls (.int (xs (5 * j + n)) :: rest))) : W p l e room_1 s m #[Value.ref b] below meth c H locs kc ns QQ (F0 m pc ls rest) := by
  refine lv_aload_n C.1.1 C.1.2.1 d0 rfl (lv_at hl 4 rfl) ?_
  refine lv_iload C.1.1 C.1.2.1 d1 (lv_at hl 0 rfl) ?_
  refine lv_iconst (v := nI n) C.1.1 C.1.2.1 d2 hk ?_
  refine lv_iadd C.1.1 C.1.2.1 d3 ?_
  rw [addN (5 * j) n rfl rfl]
  refine va_sld C.1.1 C.1.2.1 C.2.2.2.2.2.1 C.2.2.2.2.2.2.1 (fun q => absurd C.2.2.2.2.2.2.1 (Nat.not_lt.mpr q)) hS (vp_in_nI hn hL) d4 ?_
  rw [nI_clamp (by omega)]
  exact kk
theorem l_callC {M' : Mi} {idx nn d' pc : Nat} {Q : Int32 → Sg → Prop} {rest stk : List Value} {lv : List (Nat × Value)} (av : List Value) (hs : MV M' nn) (hcl : some RX10 = some M'.1.cls) (hlk : Cond.methodLink RL idx M'.1 ∈ wsG) (hn : av.length = nn) (hR : d' + 1 ≤ 19 ∧ 8 + (M'.2.2.1 + 11) + 60 * d' ≤ 10794) (hkn : kc ≤ 3134 ∧ ns ≤ 153486) (hst : stk = av.reverse ++ .ref (a1 0) :: rest) (hWd : (rest.map fun v => v.category).sum ≤ 8)
    (hd : decode cL_law pc = .ok (.invokevirtual idx, 3)) (hct : CT (gC l D a1 c1 tt) M' d' (.ref (a1 0) :: av) σ (qi Q)) (C : LC l D a1 c1 a2 c2 tt o kO sa b L xs p s m meth c) (hW : LW D a1 c1 a2 c2 o kO s σ μ f H locs) (hl : lv_has ls 7 lv)
    (kk : ∀ (r : Int32) (σ' : Sg) (H1 : Heap) (locs1 : List Loc), Q r σ' → LW D a1 c1 a2 c2 o kO s σ' μ f H1 locs1 → W p l e room_1 s m #[Value.ref b] below meth c H1 locs1 kc ns QQ (F0 m (pc + 3) ls (.int r :: rest))) : W p l e room_1 s m #[Value.ref b] below meth c H locs kc ns QQ (F0 m pc ls stk) :=
  w_callV (G := gC l D a1 c1 tt) (M := mLw) (R := room_1) (Q' := qi Q) (o := 0) av hs hlk rfl hcl hn hR hkn hst hWd hd hct C.1 hW.1 hW.2.2.2.1 hW.2.2.2.2.2 hl (fun v σ' H1 locs1 hq hP1 hD1 _ hk hS1 => by
    obtain ⟨r, rfl, hq⟩ := hq
    exact kk r σ' H1 locs1 hq (LC.cls C hW hP1 hD1 hk hS1))
theorem l_callM {M' : Mi} {idx nn d' pc : Nat} {Q : Int32 → Sg → Prop} {rest stk : List Value} {lv : List (Nat × Value)} (av : List Value) (hs : MV M' nn) (hcl : some RX11 = some M'.1.cls) (hlk : Cond.methodLink RL idx M'.1 ∈ wsG) (hn : av.length = nn) (hR : d' + 1 ≤ 19 ∧ 8 + (M'.2.2.1 + 11) + 60 * d' ≤ 10794) (hkn : kc ≤ 3134 ∧ ns ≤ 153486) (hst : stk = av.reverse ++ .ref (a2 0) :: rest) (hWd : (rest.map fun v => v.category).sum ≤ 8)
    (hd : decode cL_law pc = .ok (.invokevirtual idx, 3)) (hct : CT (gM l D a2 c2 tt) M' d' (.ref (a2 0) :: av) μ (qi Q)) (C : LC l D a1 c1 a2 c2 tt o kO sa b L xs p s m meth c) (hW : LW D a1 c1 a2 c2 o kO s σ μ f H locs) (hl : lv_has ls 7 lv)
    (kk : ∀ (r : Int32) (σ' : Sg) (H1 : Heap) (locs1 : List Loc), Q r σ' → LW D a1 c1 a2 c2 o kO s σ σ' f H1 locs1 → W p l e room_1 s m #[Value.ref b] below meth c H1 locs1 kc ns QQ (F0 m (pc + 3) ls (.int r :: rest))) : W p l e room_1 s m #[Value.ref b] below meth c H locs kc ns QQ (F0 m pc ls stk) :=
  w_callV (G := gM l D a2 c2 tt) (M := mLw) (R := room_1) (Q' := qi Q) (o := 0) av hs hlk rfl hcl hn hR hkn hst hWd hd hct C.2.1 hW.2.1 hW.2.2.2.2.1 hW.2.2.2.2.2 hl (fun v σ' H1 locs1 hq hP1 hD1 _ hk hS1 => by
    obtain ⟨r, rfl, hq⟩ := hq
    exact kk r σ' H1 locs1 hq (LC.mod C hW hP1 hD1 hk hS1))
set_option maxRecDepth 100000 in
set_option maxHeartbeats 4000000 in
theorem l_act (C : LC l D a1 c1 a2 c2 tt o kO sa b L xs p s m meth c) (hW : LW D a1 c1 a2 c2 o kO s σ μ f H locs) (hR : REL σ μ) (hl : lv_has ls 7 (lvj j o b a1 a2)) (h5 : 5 * j + 4 < L) (hL : L < 2 ^ 31) (hkn : kc ≤ 3134 ∧ ns ≤ 153486) (K : ∀ (σ' μ' : Sg) (H1 : Heap) (locs1 : List Loc), REL σ' μ' → LW D a1 c1 a2 c2 o kO s σ' μ' f H1 locs1 → W p l e room_1 s m #[Value.ref b] below meth c H1 locs1 kc ns QQ (F0 m 479 ls [])) : W p l e room_1 s m #[Value.ref b] below meth c H locs kc ns QQ (F0 m 100 ls []) := by
  have h := act_ok (x := xs (5 * j + 1)) (a := xs (5 * j + 2)) (b := xs (5 * j + 3)) (c := xs (5 * j + 4)) (Q := fun r σ' => ∀ K : Int32 → Sg → Prop, (∀ μ', REL σ' μ' → K r μ') → wX11_act μ (xs (5 * j + 1)) (xs (5 * j + 2)) (xs (5 * j + 3)) (xs (5 * j + 4)) K) hR (fun _ _ h => h)
  refine lv_aload_n C.1.1 C.1.2.1 dL_law_100 rfl (lv_at hl 3 rfl) ?_
  refine l_arg 1 C hW.2.2.2.2.2 hl (by omega) hL rfl dL_law_101 dL_law_102 dL_law_104 dL_law_105 dL_law_106 ?_
  refine l_arg 2 C hW.2.2.2.2.2 hl (by omega) hL rfl dL_law_107 dL_law_108 dL_law_110 dL_law_111 dL_law_112 ?_
  refine l_arg 3 C hW.2.2.2.2.2 hl (by omega) hL rfl dL_law_113 dL_law_114 dL_law_116 dL_law_117 dL_law_118 ?_
  refine l_arg 4 C hW.2.2.2.2.2 hl (by omega) hL rfl dL_law_119 dL_law_120 dL_law_122 dL_law_123 dL_law_124 ?_
  refine l_callC [.int (xs (5 * j + 1)), .int (xs (5 * j + 2)), .int (xs (5 * j + 3)), .int (xs (5 * j + 4))] mv_X10_act rfl lk_L_19 rfl ⟨Nat.le_of_ble_eq_true rfl, Nat.le_of_ble_eq_true rfl⟩ hkn rfl (Nat.le_of_ble_eq_true rfl) dL_law_125 (ct_X10_act rfl h) C hW hl (fun r σ1 H1 locs1 h1 hW1 => ?_)
  refine lv_aload_n C.1.1 C.1.2.1 dL_law_128 rfl (lv_at hl 2 rfl) ?_
  refine l_arg 1 C hW1.2.2.2.2.2 hl (by omega) hL rfl dL_law_129 dL_law_130 dL_law_132 dL_law_133 dL_law_134 ?_
  refine l_arg 2 C hW1.2.2.2.2.2 hl (by omega) hL rfl dL_law_135 dL_law_136 dL_law_138 dL_law_139 dL_law_140 ?_
  refine l_arg 3 C hW1.2.2.2.2.2 hl (by omega) hL rfl dL_law_141 dL_law_142 dL_law_144 dL_law_145 dL_law_146 ?_
  refine l_arg 4 C hW1.2.2.2.2.2 hl (by omega) hL rfl dL_law_147 dL_law_148 dL_law_150 dL_law_151 dL_law_152 ?_
  refine l_callM [.int (xs (5 * j + 1)), .int (xs (5 * j + 2)), .int (xs (5 * j + 3)), .int (xs (5 * j + 4))] mv_X11_act rfl lk_L_23 rfl ⟨Nat.le_of_ble_eq_true rfl, Nat.le_of_ble_eq_true rfl⟩ hkn rfl (Nat.le_of_ble_eq_true rfl) dL_law_153 (ct_X11_act rfl (h1 (fun r' μ' => r' = r ∧ REL σ1 μ') (fun μ' q => ⟨rfl, q⟩))) C hW1 hl (fun r2 μ1 H2 locs2 h2 hW2 => ?_)
  obtain ⟨rfl, h2⟩ := h2
  exact lv_icmp_eq (tgt := 479) C.1.1 C.1.2.1 dL_law_156 (by decide) (fun _ => K _ _ _ _ h2 hW2) (fun g => absurd rfl g)
set_option maxRecDepth 100000 in
set_option maxHeartbeats 4000000 in
theorem l_told (C : LC l D a1 c1 a2 c2 tt o kO sa b L xs p s m meth c) (hW : LW D a1 c1 a2 c2 o kO s σ μ f H locs) (hR : REL σ μ) (hl : lv_has ls 7 (lvj j o b a1 a2)) (h5 : 5 * j + 4 < L) (hL : L < 2 ^ 31) (hkn : kc ≤ 3134 ∧ ns ≤ 153486) (K : ∀ (σ' μ' : Sg) (H1 : Heap) (locs1 : List Loc), REL σ' μ' → LW D a1 c1 a2 c2 o kO s σ' μ' f H1 locs1 → W p l e room_1 s m #[Value.ref b] below meth c H1 locs1 kc ns QQ (F0 m 479 ls [])) : W p l e room_1 s m #[Value.ref b] below meth c H locs kc ns QQ (F0 m 161 ls []) := by
  have h := told_ok (x := xs (5 * j + 1)) (y := xs (5 * j + 2)) (Q := fun r σ' => ∀ K : Int32 → Sg → Prop, (∀ μ', REL σ' μ' → K r μ') → wX11_told μ (xs (5 * j + 1)) (xs (5 * j + 2)) K) hR (fun _ _ h => h)
  refine lv_aload_n C.1.1 C.1.2.1 dL_law_161 rfl (lv_at hl 3 rfl) ?_
  refine l_arg 1 C hW.2.2.2.2.2 hl (by omega) hL rfl dL_law_162 dL_law_163 dL_law_165 dL_law_166 dL_law_167 ?_
  refine l_arg 2 C hW.2.2.2.2.2 hl (by omega) hL rfl dL_law_168 dL_law_169 dL_law_171 dL_law_172 dL_law_173 ?_
  refine l_callC [.int (xs (5 * j + 1)), .int (xs (5 * j + 2))] mv_X10_told rfl lk_L_24 rfl ⟨Nat.le_of_ble_eq_true rfl, Nat.le_of_ble_eq_true rfl⟩ hkn rfl (Nat.le_of_ble_eq_true rfl) dL_law_174 (ct_X10_told rfl h) C hW hl (fun r σ1 H1 locs1 h1 hW1 => ?_)
  refine lv_aload_n C.1.1 C.1.2.1 dL_law_177 rfl (lv_at hl 2 rfl) ?_
  refine l_arg 1 C hW1.2.2.2.2.2 hl (by omega) hL rfl dL_law_178 dL_law_179 dL_law_181 dL_law_182 dL_law_183 ?_
  refine l_arg 2 C hW1.2.2.2.2.2 hl (by omega) hL rfl dL_law_184 dL_law_185 dL_law_187 dL_law_188 dL_law_189 ?_
  refine l_callM [.int (xs (5 * j + 1)), .int (xs (5 * j + 2))] mv_X11_told rfl lk_L_28 rfl ⟨Nat.le_of_ble_eq_true rfl, Nat.le_of_ble_eq_true rfl⟩ hkn rfl (Nat.le_of_ble_eq_true rfl) dL_law_190 (ct_X11_told rfl (h1 (fun r' μ' => r' = r ∧ REL σ1 μ') (fun μ' q => ⟨rfl, q⟩))) C hW1 hl (fun r2 μ1 H2 locs2 h2 hW2 => ?_)
  obtain ⟨rfl, h2⟩ := h2
  exact lv_icmp_eq (tgt := 479) C.1.1 C.1.2.1 dL_law_193 (by decide) (fun _ => K _ _ _ _ h2 hW2) (fun g => absurd rfl g)
set_option maxRecDepth 100000 in
set_option maxHeartbeats 4000000 in
theorem l_run (C : LC l D a1 c1 a2 c2 tt o kO sa b L xs p s m meth c) (hW : LW D a1 c1 a2 c2 o kO s σ μ f H locs) (hR : REL σ μ) (hl : lv_has ls 7 (lvj j o b a1 a2)) (h5 : 5 * j + 4 < L) (hL : L < 2 ^ 31) (hkn : kc ≤ 3134 ∧ ns ≤ 153486) (K : ∀ (σ' μ' : Sg) (H1 : Heap) (locs1 : List Loc), REL σ' μ' → LW D a1 c1 a2 c2 o kO s σ' μ' f H1 locs1 → W p l e room_1 s m #[Value.ref b] below meth c H1 locs1 kc ns QQ (F0 m 479 ls [])) : W p l e room_1 s m #[Value.ref b] below meth c H locs kc ns QQ (F0 m 198 ls []) := by
  have h := run_ok (x := xs (5 * j + 1)) (y := xs (5 * j + 2)) (Q := fun r σ' => ∀ K : Int32 → Sg → Prop, (∀ μ', REL σ' μ' → K r μ') → wX11_run μ (xs (5 * j + 1)) (xs (5 * j + 2)) K) hR (fun _ _ h => h)
  refine lv_aload_n C.1.1 C.1.2.1 dL_law_198 rfl (lv_at hl 3 rfl) ?_
  refine l_arg 1 C hW.2.2.2.2.2 hl (by omega) hL rfl dL_law_199 dL_law_200 dL_law_202 dL_law_203 dL_law_204 ?_
  refine l_arg 2 C hW.2.2.2.2.2 hl (by omega) hL rfl dL_law_205 dL_law_206 dL_law_208 dL_law_209 dL_law_210 ?_
  refine l_callC [.int (xs (5 * j + 1)), .int (xs (5 * j + 2))] mv_X10_run rfl lk_L_29 rfl ⟨Nat.le_of_ble_eq_true rfl, Nat.le_of_ble_eq_true rfl⟩ hkn rfl (Nat.le_of_ble_eq_true rfl) dL_law_211 (ct_X10_run rfl h) C hW hl (fun r σ1 H1 locs1 h1 hW1 => ?_)
  refine lv_aload_n C.1.1 C.1.2.1 dL_law_214 rfl (lv_at hl 2 rfl) ?_
  refine l_arg 1 C hW1.2.2.2.2.2 hl (by omega) hL rfl dL_law_215 dL_law_216 dL_law_218 dL_law_219 dL_law_220 ?_
  refine l_arg 2 C hW1.2.2.2.2.2 hl (by omega) hL rfl dL_law_221 dL_law_222 dL_law_224 dL_law_225 dL_law_226 ?_
  refine l_callM [.int (xs (5 * j + 1)), .int (xs (5 * j + 2))] mv_X11_run rfl lk_L_32 rfl ⟨Nat.le_of_ble_eq_true rfl, Nat.le_of_ble_eq_true rfl⟩ hkn rfl (Nat.le_of_ble_eq_true rfl) dL_law_227 (ct_X11_run rfl (h1 (fun r' μ' => r' = r ∧ REL σ1 μ') (fun μ' q => ⟨rfl, q⟩))) C hW1 hl (fun r2 μ1 H2 locs2 h2 hW2 => ?_)
  obtain ⟨rfl, h2⟩ := h2
  exact lv_icmp_eq (tgt := 479) C.1.1 C.1.2.1 dL_law_230 (by decide) (fun _ => K _ _ _ _ h2 hW2) (fun g => absurd rfl g)
set_option maxRecDepth 100000 in
set_option maxHeartbeats 4000000 in
theorem l_ended (C : LC l D a1 c1 a2 c2 tt o kO sa b L xs p s m meth c) (hW : LW D a1 c1 a2 c2 o kO s σ μ f H locs) (hR : REL σ μ) (hl : lv_has ls 7 (lvj j o b a1 a2)) (h5 : 5 * j + 4 < L) (hL : L < 2 ^ 31) (hkn : kc ≤ 3134 ∧ ns ≤ 153486) (K : ∀ (σ' μ' : Sg) (H1 : Heap) (locs1 : List Loc), REL σ' μ' → LW D a1 c1 a2 c2 o kO s σ' μ' f H1 locs1 → W p l e room_1 s m #[Value.ref b] below meth c H1 locs1 kc ns QQ (F0 m 479 ls [])) : W p l e room_1 s m #[Value.ref b] below meth c H locs kc ns QQ (F0 m 235 ls []) := by
  have h := ended_ok (x := xs (5 * j + 1)) (Q := fun r σ' => ∀ K : Int32 → Sg → Prop, (∀ μ', REL σ' μ' → K r μ') → wX11_ended μ (xs (5 * j + 1)) K) hR (fun _ _ h => h)
  refine lv_aload_n C.1.1 C.1.2.1 dL_law_235 rfl (lv_at hl 3 rfl) ?_
  refine l_arg 1 C hW.2.2.2.2.2 hl (by omega) hL rfl dL_law_236 dL_law_237 dL_law_239 dL_law_240 dL_law_241 ?_
  refine l_callC [.int (xs (5 * j + 1))] mv_X10_ended rfl lk_L_33 rfl ⟨Nat.le_of_ble_eq_true rfl, Nat.le_of_ble_eq_true rfl⟩ hkn rfl (Nat.le_of_ble_eq_true rfl) dL_law_242 (ct_X10_ended rfl h) C hW hl (fun r σ1 H1 locs1 h1 hW1 => ?_)
  refine lv_aload_n C.1.1 C.1.2.1 dL_law_245 rfl (lv_at hl 2 rfl) ?_
  refine l_arg 1 C hW1.2.2.2.2.2 hl (by omega) hL rfl dL_law_246 dL_law_247 dL_law_249 dL_law_250 dL_law_251 ?_
  refine l_callM [.int (xs (5 * j + 1))] mv_X11_ended rfl lk_L_36 rfl ⟨Nat.le_of_ble_eq_true rfl, Nat.le_of_ble_eq_true rfl⟩ hkn rfl (Nat.le_of_ble_eq_true rfl) dL_law_252 (ct_X11_ended rfl (h1 (fun r' μ' => r' = r ∧ REL σ1 μ') (fun μ' q => ⟨rfl, q⟩))) C hW1 hl (fun r2 μ1 H2 locs2 h2 hW2 => ?_)
  obtain ⟨rfl, h2⟩ := h2
  exact lv_icmp_eq (tgt := 479) C.1.1 C.1.2.1 dL_law_255 (by decide) (fun _ => K _ _ _ _ h2 hW2) (fun g => absurd rfl g)
set_option maxRecDepth 100000 in
set_option maxHeartbeats 4000000 in
theorem l_gave (C : LC l D a1 c1 a2 c2 tt o kO sa b L xs p s m meth c) (hW : LW D a1 c1 a2 c2 o kO s σ μ f H locs) (hR : REL σ μ) (hl : lv_has ls 7 (lvj j o b a1 a2)) (h5 : 5 * j + 4 < L) (hL : L < 2 ^ 31) (hkn : kc ≤ 3134 ∧ ns ≤ 153486) (K : ∀ (σ' μ' : Sg) (H1 : Heap) (locs1 : List Loc), REL σ' μ' → LW D a1 c1 a2 c2 o kO s σ' μ' f H1 locs1 → W p l e room_1 s m #[Value.ref b] below meth c H1 locs1 kc ns QQ (F0 m 479 ls [])) : W p l e room_1 s m #[Value.ref b] below meth c H locs kc ns QQ (F0 m 260 ls []) := by
  have h := gave_ok  (Q := fun r σ' => ∀ K : Int32 → Sg → Prop, (∀ μ', REL σ' μ' → K r μ') → wX11_gave μ  K) hR (fun _ _ h => h)
  refine lv_aload_n C.1.1 C.1.2.1 dL_law_260 rfl (lv_at hl 3 rfl) ?_
  refine l_callC [] mv_X10_gave rfl lk_L_37 rfl ⟨Nat.le_of_ble_eq_true rfl, Nat.le_of_ble_eq_true rfl⟩ hkn rfl (Nat.le_of_ble_eq_true rfl) dL_law_261 (ct_X10_gave rfl h) C hW hl (fun r σ1 H1 locs1 h1 hW1 => ?_)
  refine lv_aload_n C.1.1 C.1.2.1 dL_law_264 rfl (lv_at hl 2 rfl) ?_
  refine l_callM [] mv_X11_gave rfl lk_L_41 rfl ⟨Nat.le_of_ble_eq_true rfl, Nat.le_of_ble_eq_true rfl⟩ hkn rfl (Nat.le_of_ble_eq_true rfl) dL_law_265 (ct_X11_gave rfl (h1 (fun r' μ' => r' = r ∧ REL σ1 μ') (fun μ' q => ⟨rfl, q⟩))) C hW1 hl (fun r2 μ1 H2 locs2 h2 hW2 => ?_)
  obtain ⟨rfl, h2⟩ := h2
  exact lv_icmp_eq (tgt := 479) C.1.1 C.1.2.1 dL_law_268 (by decide) (fun _ => K _ _ _ _ h2 hW2) (fun g => absurd rfl g)
set_option maxRecDepth 100000 in
set_option maxHeartbeats 4000000 in
theorem l_box (C : LC l D a1 c1 a2 c2 tt o kO sa b L xs p s m meth c) (hW : LW D a1 c1 a2 c2 o kO s σ μ f H locs) (hR : REL σ μ) (hl : lv_has ls 7 (lvj j o b a1 a2)) (h5 : 5 * j + 4 < L) (hL : L < 2 ^ 31) (hkn : kc ≤ 3134 ∧ ns ≤ 153486) (K : ∀ (σ' μ' : Sg) (H1 : Heap) (locs1 : List Loc), REL σ' μ' → LW D a1 c1 a2 c2 o kO s σ' μ' f H1 locs1 → W p l e room_1 s m #[Value.ref b] below meth c H1 locs1 kc ns QQ (F0 m 479 ls [])) : W p l e room_1 s m #[Value.ref b] below meth c H locs kc ns QQ (F0 m 329 ls []) := by
  have h := box_ok (x := xs (5 * j + 1)) (Q := fun r σ' => ∀ K : Int32 → Sg → Prop, (∀ μ', REL σ' μ' → K r μ') → wX11_box μ (xs (5 * j + 1)) K) hR (fun _ _ h => h)
  refine lv_aload_n C.1.1 C.1.2.1 dL_law_329 rfl (lv_at hl 3 rfl) ?_
  refine l_arg 1 C hW.2.2.2.2.2 hl (by omega) hL rfl dL_law_330 dL_law_331 dL_law_333 dL_law_334 dL_law_335 ?_
  refine l_callC [.int (xs (5 * j + 1))] mv_X10_box rfl lk_L_51 rfl ⟨Nat.le_of_ble_eq_true rfl, Nat.le_of_ble_eq_true rfl⟩ hkn rfl (Nat.le_of_ble_eq_true rfl) dL_law_336 (ct_X10_box rfl h) C hW hl (fun r σ1 H1 locs1 h1 hW1 => ?_)
  refine lv_aload_n C.1.1 C.1.2.1 dL_law_339 rfl (lv_at hl 2 rfl) ?_
  refine l_arg 1 C hW1.2.2.2.2.2 hl (by omega) hL rfl dL_law_340 dL_law_341 dL_law_343 dL_law_344 dL_law_345 ?_
  refine l_callM [.int (xs (5 * j + 1))] mv_X11_box rfl lk_L_54 rfl ⟨Nat.le_of_ble_eq_true rfl, Nat.le_of_ble_eq_true rfl⟩ hkn rfl (Nat.le_of_ble_eq_true rfl) dL_law_346 (ct_X11_box rfl (h1 (fun r' μ' => r' = r ∧ REL σ1 μ') (fun μ' q => ⟨rfl, q⟩))) C hW1 hl (fun r2 μ1 H2 locs2 h2 hW2 => ?_)
  obtain ⟨rfl, h2⟩ := h2
  exact lv_icmp_eq (tgt := 479) C.1.1 C.1.2.1 dL_law_349 (by decide) (fun _ => K _ _ _ _ h2 hW2) (fun g => absurd rfl g)
set_option maxRecDepth 100000 in
set_option maxHeartbeats 4000000 in
theorem l_boxed (C : LC l D a1 c1 a2 c2 tt o kO sa b L xs p s m meth c) (hW : LW D a1 c1 a2 c2 o kO s σ μ f H locs) (hR : REL σ μ) (hl : lv_has ls 7 (lvj j o b a1 a2)) (h5 : 5 * j + 4 < L) (hL : L < 2 ^ 31) (hkn : kc ≤ 3134 ∧ ns ≤ 153486) (K : ∀ (σ' μ' : Sg) (H1 : Heap) (locs1 : List Loc), REL σ' μ' → LW D a1 c1 a2 c2 o kO s σ' μ' f H1 locs1 → W p l e room_1 s m #[Value.ref b] below meth c H1 locs1 kc ns QQ (F0 m 479 ls [])) : W p l e room_1 s m #[Value.ref b] below meth c H locs kc ns QQ (F0 m 354 ls []) := by
  have h := boxed_ok (x := xs (5 * j + 1)) (Q := fun r σ' => ∀ K : Int32 → Sg → Prop, (∀ μ', REL σ' μ' → K r μ') → wX11_boxed μ (xs (5 * j + 1)) K) hR (fun _ _ h => h)
  refine lv_aload_n C.1.1 C.1.2.1 dL_law_354 rfl (lv_at hl 3 rfl) ?_
  refine l_arg 1 C hW.2.2.2.2.2 hl (by omega) hL rfl dL_law_355 dL_law_356 dL_law_358 dL_law_359 dL_law_360 ?_
  refine l_callC [.int (xs (5 * j + 1))] mv_X10_boxed rfl lk_L_55 rfl ⟨Nat.le_of_ble_eq_true rfl, Nat.le_of_ble_eq_true rfl⟩ hkn rfl (Nat.le_of_ble_eq_true rfl) dL_law_361 (ct_X10_boxed rfl h) C hW hl (fun r σ1 H1 locs1 h1 hW1 => ?_)
  refine lv_aload_n C.1.1 C.1.2.1 dL_law_364 rfl (lv_at hl 2 rfl) ?_
  refine l_arg 1 C hW1.2.2.2.2.2 hl (by omega) hL rfl dL_law_365 dL_law_366 dL_law_368 dL_law_369 dL_law_370 ?_
  refine l_callM [.int (xs (5 * j + 1))] mv_X11_boxed rfl lk_L_58 rfl ⟨Nat.le_of_ble_eq_true rfl, Nat.le_of_ble_eq_true rfl⟩ hkn rfl (Nat.le_of_ble_eq_true rfl) dL_law_371 (ct_X11_boxed rfl (h1 (fun r' μ' => r' = r ∧ REL σ1 μ') (fun μ' q => ⟨rfl, q⟩))) C hW1 hl (fun r2 μ1 H2 locs2 h2 hW2 => ?_)
  obtain ⟨rfl, h2⟩ := h2
  exact lv_icmp_eq (tgt := 479) C.1.1 C.1.2.1 dL_law_374 (by decide) (fun _ => K _ _ _ _ h2 hW2) (fun g => absurd rfl g)
set_option maxRecDepth 100000 in
set_option maxHeartbeats 4000000 in
theorem l_same (C : LC l D a1 c1 a2 c2 tt o kO sa b L xs p s m meth c) (hW : LW D a1 c1 a2 c2 o kO s σ μ f H locs) (hR : REL σ μ) (hl : lv_has ls 7 (lvj j o b a1 a2)) (h5 : 5 * j + 4 < L) (hL : L < 2 ^ 31) (hkn : kc ≤ 3134 ∧ ns ≤ 153486) (K : ∀ (σ' μ' : Sg) (H1 : Heap) (locs1 : List Loc), REL σ' μ' → LW D a1 c1 a2 c2 o kO s σ' μ' f H1 locs1 → W p l e room_1 s m #[Value.ref b] below meth c H1 locs1 kc ns QQ (F0 m 479 ls [])) : W p l e room_1 s m #[Value.ref b] below meth c H locs kc ns QQ (F0 m 379 ls []) := by
  have h := same_ok (x := xs (5 * j + 1)) (y := xs (5 * j + 2)) (Q := fun r σ' => ∀ K : Int32 → Sg → Prop, (∀ μ', REL σ' μ' → K r μ') → wX11_same μ (xs (5 * j + 1)) (xs (5 * j + 2)) K) hR (fun _ _ h => h)
  refine lv_aload_n C.1.1 C.1.2.1 dL_law_379 rfl (lv_at hl 3 rfl) ?_
  refine l_arg 1 C hW.2.2.2.2.2 hl (by omega) hL rfl dL_law_380 dL_law_381 dL_law_383 dL_law_384 dL_law_385 ?_
  refine l_arg 2 C hW.2.2.2.2.2 hl (by omega) hL rfl dL_law_386 dL_law_387 dL_law_389 dL_law_390 dL_law_391 ?_
  refine l_callC [.int (xs (5 * j + 1)), .int (xs (5 * j + 2))] mv_X10_same rfl lk_L_59 rfl ⟨Nat.le_of_ble_eq_true rfl, Nat.le_of_ble_eq_true rfl⟩ hkn rfl (Nat.le_of_ble_eq_true rfl) dL_law_392 (ct_X10_same rfl h) C hW hl (fun r σ1 H1 locs1 h1 hW1 => ?_)
  refine lv_aload_n C.1.1 C.1.2.1 dL_law_395 rfl (lv_at hl 2 rfl) ?_
  refine l_arg 1 C hW1.2.2.2.2.2 hl (by omega) hL rfl dL_law_396 dL_law_397 dL_law_399 dL_law_400 dL_law_401 ?_
  refine l_arg 2 C hW1.2.2.2.2.2 hl (by omega) hL rfl dL_law_402 dL_law_403 dL_law_405 dL_law_406 dL_law_407 ?_
  refine l_callM [.int (xs (5 * j + 1)), .int (xs (5 * j + 2))] mv_X11_same rfl lk_L_62 rfl ⟨Nat.le_of_ble_eq_true rfl, Nat.le_of_ble_eq_true rfl⟩ hkn rfl (Nat.le_of_ble_eq_true rfl) dL_law_408 (ct_X11_same rfl (h1 (fun r' μ' => r' = r ∧ REL σ1 μ') (fun μ' q => ⟨rfl, q⟩))) C hW1 hl (fun r2 μ1 H2 locs2 h2 hW2 => ?_)
  obtain ⟨rfl, h2⟩ := h2
  exact lv_icmp_eq (tgt := 479) C.1.1 C.1.2.1 dL_law_411 (by decide) (fun _ => K _ _ _ _ h2 hW2) (fun g => absurd rfl g)
set_option maxRecDepth 100000 in
set_option maxHeartbeats 4000000 in
theorem l_out (C : LC l D a1 c1 a2 c2 tt o kO sa b L xs p s m meth c) (hW : LW D a1 c1 a2 c2 o kO s σ μ f H locs) (hR : REL σ μ) (hl : lv_has ls 7 (lvj j o b a1 a2)) (h5 : 5 * j + 4 < L) (hL : L < 2 ^ 31) (hkn : kc ≤ 3134 ∧ ns ≤ 153486) (K : ∀ (σ' μ' : Sg) (H1 : Heap) (locs1 : List Loc), REL σ' μ' → LW D a1 c1 a2 c2 o kO s σ' μ' f H1 locs1 → W p l e room_1 s m #[Value.ref b] below meth c H1 locs1 kc ns QQ (F0 m 479 ls [])) : W p l e room_1 s m #[Value.ref b] below meth c H locs kc ns QQ (F0 m 416 ls []) := by
  have h := out_ok (x := xs (5 * j + 1)) (Q := fun r σ' => ∀ K : Int32 → Sg → Prop, (∀ μ', REL σ' μ' → K r μ') → wX11_out μ (xs (5 * j + 1)) K) hR (fun _ _ h => h)
  refine lv_aload_n C.1.1 C.1.2.1 dL_law_416 rfl (lv_at hl 3 rfl) ?_
  refine l_arg 1 C hW.2.2.2.2.2 hl (by omega) hL rfl dL_law_417 dL_law_418 dL_law_420 dL_law_421 dL_law_422 ?_
  refine l_callC [.int (xs (5 * j + 1))] mv_X10_out rfl lk_L_63 rfl ⟨Nat.le_of_ble_eq_true rfl, Nat.le_of_ble_eq_true rfl⟩ hkn rfl (Nat.le_of_ble_eq_true rfl) dL_law_423 (ct_X10_out rfl h) C hW hl (fun r σ1 H1 locs1 h1 hW1 => ?_)
  refine lv_aload_n C.1.1 C.1.2.1 dL_law_426 rfl (lv_at hl 2 rfl) ?_
  refine l_arg 1 C hW1.2.2.2.2.2 hl (by omega) hL rfl dL_law_427 dL_law_428 dL_law_430 dL_law_431 dL_law_432 ?_
  refine l_callM [.int (xs (5 * j + 1))] mv_X11_out rfl lk_L_66 rfl ⟨Nat.le_of_ble_eq_true rfl, Nat.le_of_ble_eq_true rfl⟩ hkn rfl (Nat.le_of_ble_eq_true rfl) dL_law_433 (ct_X11_out rfl (h1 (fun r' μ' => r' = r ∧ REL σ1 μ') (fun μ' q => ⟨rfl, q⟩))) C hW1 hl (fun r2 μ1 H2 locs2 h2 hW2 => ?_)
  obtain ⟨rfl, h2⟩ := h2
  exact lv_icmp_eq (tgt := 479) C.1.1 C.1.2.1 dL_law_436 (by decide) (fun _ => K _ _ _ _ h2 hW2) (fun g => absurd rfl g)
set_option maxRecDepth 100000 in
set_option maxHeartbeats 4000000 in
theorem l_count (C : LC l D a1 c1 a2 c2 tt o kO sa b L xs p s m meth c) (hW : LW D a1 c1 a2 c2 o kO s σ μ f H locs) (hR : REL σ μ) (hl : lv_has ls 7 (lvj j o b a1 a2)) (h5 : 5 * j + 4 < L) (hL : L < 2 ^ 31) (hkn : kc ≤ 3134 ∧ ns ≤ 153486) (K : ∀ (σ' μ' : Sg) (H1 : Heap) (locs1 : List Loc), REL σ' μ' → LW D a1 c1 a2 c2 o kO s σ' μ' f H1 locs1 → W p l e room_1 s m #[Value.ref b] below meth c H1 locs1 kc ns QQ (F0 m 479 ls [])) : W p l e room_1 s m #[Value.ref b] below meth c H locs kc ns QQ (F0 m 441 ls []) := by
  have h := count_ok (x := xs (5 * j + 1)) (Q := fun r σ' => ∀ K : Int32 → Sg → Prop, (∀ μ', REL σ' μ' → K r μ') → wX11_count μ (xs (5 * j + 1)) K) hR (fun _ _ h => h)
  refine lv_aload_n C.1.1 C.1.2.1 dL_law_441 rfl (lv_at hl 3 rfl) ?_
  refine l_arg 1 C hW.2.2.2.2.2 hl (by omega) hL rfl dL_law_442 dL_law_443 dL_law_445 dL_law_446 dL_law_447 ?_
  refine l_callC [.int (xs (5 * j + 1))] mv_X10_count rfl lk_L_67 rfl ⟨Nat.le_of_ble_eq_true rfl, Nat.le_of_ble_eq_true rfl⟩ hkn rfl (Nat.le_of_ble_eq_true rfl) dL_law_448 (ct_X10_count rfl h) C hW hl (fun r σ1 H1 locs1 h1 hW1 => ?_)
  refine lv_aload_n C.1.1 C.1.2.1 dL_law_451 rfl (lv_at hl 2 rfl) ?_
  refine l_arg 1 C hW1.2.2.2.2.2 hl (by omega) hL rfl dL_law_452 dL_law_453 dL_law_455 dL_law_456 dL_law_457 ?_
  refine l_callM [.int (xs (5 * j + 1))] mv_X11_count rfl lk_L_70 rfl ⟨Nat.le_of_ble_eq_true rfl, Nat.le_of_ble_eq_true rfl⟩ hkn rfl (Nat.le_of_ble_eq_true rfl) dL_law_458 (ct_X11_count rfl (h1 (fun r' μ' => r' = r ∧ REL σ1 μ') (fun μ' q => ⟨rfl, q⟩))) C hW1 hl (fun r2 μ1 H2 locs2 h2 hW2 => ?_)
  obtain ⟨rfl, h2⟩ := h2
  exact lv_icmp_eq (tgt := 479) C.1.1 C.1.2.1 dL_law_461 (by decide) (fun _ => K _ _ _ _ h2 hW2) (fun g => absurd rfl g)
set_option maxRecDepth 100000 in
set_option maxHeartbeats 4000000 in
theorem l_clear (C : LC l D a1 c1 a2 c2 tt o kO sa b L xs p s m meth c) (hW : LW D a1 c1 a2 c2 o kO s σ μ f H locs) (hR : REL σ μ) (hl : lv_has ls 7 (lvj j o b a1 a2)) (h5 : 5 * j + 4 < L) (hL : L < 2 ^ 31) (hkn : kc ≤ 3134 ∧ ns ≤ 153486) (K : ∀ (σ' μ' : Sg) (H1 : Heap) (locs1 : List Loc), REL σ' μ' → LW D a1 c1 a2 c2 o kO s σ' μ' f H1 locs1 → W p l e room_1 s m #[Value.ref b] below meth c H1 locs1 kc ns QQ (F0 m 479 ls [])) : W p l e room_1 s m #[Value.ref b] below meth c H locs kc ns QQ (F0 m 466 ls []) := by
  have h := clear_ok  (Q := fun r σ' => ∀ K : Int32 → Sg → Prop, (∀ μ', REL σ' μ' → K r μ') → wX11_clear μ  K) hR (fun _ _ h => h)
  refine lv_aload_n C.1.1 C.1.2.1 dL_law_466 rfl (lv_at hl 3 rfl) ?_
  refine l_callC [] mv_X10_clear rfl lk_L_71 rfl ⟨Nat.le_of_ble_eq_true rfl, Nat.le_of_ble_eq_true rfl⟩ hkn rfl (Nat.le_of_ble_eq_true rfl) dL_law_467 (ct_X10_clear rfl h) C hW hl (fun r σ1 H1 locs1 h1 hW1 => ?_)
  refine lv_aload_n C.1.1 C.1.2.1 dL_law_470 rfl (lv_at hl 2 rfl) ?_
  refine l_callM [] mv_X11_clear rfl lk_L_74 rfl ⟨Nat.le_of_ble_eq_true rfl, Nat.le_of_ble_eq_true rfl⟩ hkn rfl (Nat.le_of_ble_eq_true rfl) dL_law_471 (ct_X11_clear rfl (h1 (fun r' μ' => r' = r ∧ REL σ1 μ') (fun μ' q => ⟨rfl, q⟩))) C hW1 hl (fun r2 μ1 H2 locs2 h2 hW2 => ?_)
  obtain ⟨rfl, h2⟩ := h2
  exact lv_icmp_eq (tgt := 479) C.1.1 C.1.2.1 dL_law_474 (by decide) (fun _ => K _ _ _ _ h2 hW2) (fun g => absurd rfl g)
end LAW
