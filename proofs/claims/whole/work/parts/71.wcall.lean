/-! calls of contracts out of any walk: what comes back, and what stayed as it was -/
section WC
variable {G : Gx} {M : Mi} {R : Room} {pc k n : Nat} {lv : List (Nat × Value)} {σ : Sg} {QQ : State → Prop}
variable {p : Program} {e : Env} {s : State} {m : MethodId} {args : Array Value} {below : List Frame} {meth : Method} {c : Code} {A : Nat → Prop} {H : Heap} {locs : List Loc} {ls : Array Slot} {Q' : Option Value → Sg → Prop} {a : Array Value} {rest stk : List Value}
theorem w_back (C : XC G M p s m args meth c A) (hP : va_P G.2.1 vwCl (gpic G σ) H) (hD : va_D A (gpic G σ)) (hS : va_S A s.heap H locs)
    (hr : va_Run p G.1 e R s m args below meth c H locs k n 0 0 (F0 m pc ls stk) rest (Qx G Q' (va_A (gpic G σ) H.size) a) (va_A (gpic G σ) H.size))
    (kk : ∀ (v : Option Value) (σ' : Sg) (H1 : Heap) (locs1 : List Loc), Q' v σ' → va_P G.2.1 vwCl (gpic G σ') H1 → va_D A (gpic G σ') → H.size ≤ H1.size → (∀ q : Nat, q < H.size → ¬ va_A (gpic G σ) H.size q → H1[q]? = H[q]?) → va_S A s.heap H1 locs1 → W p G.1 e R s m args below meth c H1 locs1 k n QQ (F0 m (pc + 3) ls (v.toList ++ rest))) :
    W p G.1 e R s m args below meth c H locs k n QQ (F0 m pc ls stk) := by
  have hF : ∀ q, va_A (gpic G σ) H.size q → A q := by
    intro q h
    rcases h with ⟨i, e', h⟩ | h
    · exact hD.2 i (q, e') h
    · exact C.2.2.2.2.2.2.2.2.1 q (Nat.le_trans hS.1 h)
  intro T hT XX
  obtain ⟨v, st₀, t, T', L, h0, X', hL, e1, e2, ⟨⟨v', σ', hv, hq, hP1, hK1, hD1⟩, hz, hk⟩, stp⟩ := hr T hT XX
  cases hv
  rw [h0] at hz hk
  have hS1 : va_S A s.heap T'.heap (locs ++ L) := ⟨Nat.le_trans hS.1 (by rw [e1]; exact hz), fun q h1 h2 => by rw [e1, hk q (Nat.lt_of_lt_of_le h1 hS.1) (fun z => h2 (hF q z))]; exact hS.2.1 q h1 h2, fun q hq => by
      rcases List.mem_append.mp hq with h | h
      · exact hS.2.2 q h
      · exact hF _ (hL q h)⟩
  obtain ⟨t2, a1, b1⟩ := kk v σ' T'.heap (locs ++ L) hq (by rw [e1]; exact hP1) (hD1.weaken (fun i q _ h => hF _ h)) (by rw [e1]; exact hz) (fun q h1 h2 => by rw [e1]; exact hk q h1 h2) hS1 T' rfl X'
  exact ⟨t2, stp t2 a1, b1⟩
theorem w_callV {M' : Mi} {o ci idx nn d' : Nat} {ts : List Nat} (av : List Value) (hs : MV M' nn) (hlk : Cond.methodLink M.1.cls idx M'.1 ∈ wsG) (hob : (gLy G)[o]? = some (0, ci, ts)) (hcl : (vwCl[ci]?).map (fun q => q.1) = some M'.1.cls) (hn : av.length = nn) (hR : d' + 1 ≤ R.frames ∧ 8 + (M'.2.2.1 + 11) + 60 * d' ≤ R.locals) (hkn : k ≤ R.cells ∧ n ≤ R.slots) (hst : stk = av.reverse ++ .ref (gad G o) :: rest) (hW : (rest.map fun v => v.category).sum ≤ 8)
    (hd : decode M.2.1 pc = .ok (.invokevirtual idx, 3)) (hct : CT G M' d' (.ref (gad G o) :: av) σ Q') (C : XC G M p s m args meth c A) (hP : va_P G.2.1 vwCl (gpic G σ) H) (hD : va_D A (gpic G σ)) (hS : va_S A s.heap H locs) (hl : lv_has ls M.2.2.1 lv)
    (kk : ∀ (v : Option Value) (σ' : Sg) (H1 : Heap) (locs1 : List Loc), Q' v σ' → va_P G.2.1 vwCl (gpic G σ') H1 → va_D A (gpic G σ') → H.size ≤ H1.size → (∀ q : Nat, q < H.size → ¬ va_A (gpic G σ) H.size q → H1[q]? = H[q]?) → va_S A s.heap H1 locs1 → W p G.1 e R s m args below meth c H1 locs1 k n QQ (F0 m (pc + 3) ls (v.toList ++ rest))) :
    W p G.1 e R s m args below meth c H locs k n QQ (F0 m pc ls stk) := by
  obtain ⟨⟨hk1, hk2, hk3⟩, hk4, hk5⟩ := hs
  subst hst
  obtain ⟨q, hq1, hq2⟩ := Option.map_eq_some_iff.mp hcl
  have hp := x_pre (av := .ref (gad G o) :: av) C hP hD hS
  refine w_back C hP hD hS (va_runV (As := av) (rest := rest) (nL := M.2.2.1) (own := M.1.cls) (C := M'.1.cls) (Ts := wsG) ⟨C.1, C.2.1, C.2.2.1, C.2.2.2.2.2.1, C.2.2.2.2.2.2.1⟩ (hct H.size) (cwV (ws' := wsG) nn C.2.2.2.2.2.2.1 (goodG (fun w hw => ?_)) rfl rfl rfl ⟨rfl, hk1⟩ hR) ⟨hp.1, hq2 ▸ va_recv C.2.2.2.2.2.2.2.1 hP hq1 (pic_at hob), hp.2⟩ rfl hn hl.1 rfl (lv_room hW) hd hkn) kk
  simp only [wsV, List.mem_append, List.mem_cons, List.not_mem_nil, or_false] at hw
  rcases hw with (rfl | rfl | rfl | rfl) | rfl | hw
  · exact hlk
  · exact hk4
  · exact hk5
  · exact hk3
  · exact hk2
  · exact hw
theorem w_callS {M' : Mi} {idx nn d' : Nat} (av : List Value) (hs : MS M' nn) (hlk : Cond.methodLink M.1.cls idx M'.1 ∈ wsG) (hn : av.length = nn) (hR : d' + 1 ≤ R.frames ∧ 8 + (M'.2.2.1 + 11) + 60 * d' ≤ R.locals) (hkn : k ≤ R.cells ∧ n ≤ R.slots) (hst : stk = av.reverse ++ rest) (hW : (rest.map fun v => v.category).sum ≤ 8)
    (hd : decode M.2.1 pc = .ok (.invokestatic idx, 3)) (hct : CT G M' d' av σ Q') (C : XC G M p s m args meth c A) (hP : va_P G.2.1 vwCl (gpic G σ) H) (hD : va_D A (gpic G σ)) (hS : va_S A s.heap H locs) (hl : lv_has ls M.2.2.1 lv)
    (kk : ∀ (v : Option Value) (σ' : Sg) (H1 : Heap) (locs1 : List Loc), Q' v σ' → va_P G.2.1 vwCl (gpic G σ') H1 → va_D A (gpic G σ') → H.size ≤ H1.size → (∀ q : Nat, q < H.size → ¬ va_A (gpic G σ) H.size q → H1[q]? = H[q]?) → va_S A s.heap H1 locs1 → W p G.1 e R s m args below meth c H1 locs1 k n QQ (F0 m (pc + 3) ls (v.toList ++ rest))) :
    W p G.1 e R s m args below meth c H locs k n QQ (F0 m pc ls stk) := by
  obtain ⟨⟨hk1, hk2, hk3⟩, hk4⟩ := hs
  subst hst
  have hp := x_pre (av := av) C hP hD hS
  refine w_back C hP hD hS (va_runS (As := av) (rest := rest) (nL := M.2.2.1) (own := M.1.cls) (Ts := wsG) ⟨C.1, C.2.1, C.2.2.1, C.2.2.2.2.2.1, C.2.2.2.2.2.2.1⟩ (hct H.size) (va_cwS (ws' := wsG) nn C.2.2.2.2.2.2.1 (goodG (fun w hw => ?_)) rfl rfl rfl hk1 hR) hp rfl hn hl.1 rfl (lv_room hW) hd hkn) kk
  simp only [va_wsS, List.mem_append, List.mem_cons, List.not_mem_nil, or_false] at hw
  rcases hw with (rfl | rfl | rfl) | rfl | hw
  · exact hlk
  · exact hk4
  · exact hk3
  · exact hk2
  · exact hw
end WC
