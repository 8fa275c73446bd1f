theorem lp_st : Cond.static yL_place ∈ wsG := inT4 (List.mem_of_getElem? (i := 8) rfl) rfl
theorem lp_in : Cond.initialized RL ∈ wsG := inT1 (List.mem_of_getElem? (i := 0) rfl) rfl
theorem A_cons {w : Nat × va_E} {ws : va_W} {n q : Nat} (h : va_A (w :: ws) n q) : q = w.1 ∨ va_A ws n q := by
  rcases h with ⟨k, x, h⟩ | h
  · cases k with
    | zero =>
      have h' : some w = some (q, x) := h
      exact Or.inl (congrArg Prod.fst (Option.some.inj h')).symm
    | succ k => exact Or.inr (Or.inl ⟨k, x, h⟩)
  · exact Or.inr (Or.inr h)
theorem A_in {A : Nat → Prop} {ws : va_W} {n q : Nat} (hD : va_D A ws) (hn : ∀ q, n ≤ q → A q) (h : va_A ws n q) : A q := by
  rcases h with ⟨k, x, h⟩ | h
  · exact hD.2 k (q, x) h
  · exact hn q h
section LAW2
variable {l : Launch} {D : va_G} {a1 a2 : Nat → Nat} {c1 c2 : Nat → ClassId} {tt : Nat × Nat} {o : Nat} {kO : ClassId} {sa b L : Nat} {xs : Nat → Int32} {p : Program} {e : Env} {s : State} {m : MethodId} {below : List Frame} {meth : Method} {c : Code} {H : Heap} {locs : List Loc} {ls : Array Slot} {kc ns j : Nat} {QQ : State → Prop} {σ μ : Sg} {f : Nat → Int64}
set_option maxRecDepth 100000 in
set_option maxHeartbeats 4000000 in
theorem l_lp {post : Int32 → (Nat → Int64) × Sg → Prop} {i : Int32} {lv : List (Nat × Value)} (hM : ∀ sz : Nat, Met l mLp.1 (.codeWith yL_place cL_place 4 (some .int) [(0, 9, 12, 13)] :: wsG) (rmn 9 1 6) (LPc (gC l D a1 c1 tt) σ i o kO f sa sz) (LPq (gC l D a1 c1 tt) o kO (va_A (oc o kO f :: pic LyC a1 c1 σ) sz) post) 1 6 (va_A (oc o kO f :: pic LyC a1 c1 σ) sz)) (C : LC l D a1 c1 a2 c2 tt o kO sa b L xs p s m meth c) (hW : LW D a1 c1 a2 c2 o kO s σ μ f H locs) (hl : lv_has ls 7 lv) (hkn : kc + 1 ≤ 3134 ∧ ns + 6 ≤ 153486)
    (kk : ∀ (r : Int32) (u : (Nat → Int64) × Sg) (H1 : Heap) (locs1 : List Loc), post r u → LW D a1 c1 a2 c2 o kO s u.2 μ u.1 H1 locs1 → W p l e room_1 s m #[Value.ref b] below meth c H1 locs1 (kc + 1) (ns + 6) QQ (F0 m 284 ls [.int r])) : W p l e room_1 s m #[Value.ref b] below meth c H locs kc ns QQ (F0 m 281 ls [.ref o, .int i, .ref (a1 0)]) := by
  have hS := hW.2.2.2.2.2
  have hF : ∀ q, va_A (oc o kO f :: pic LyC a1 c1 σ) H.size q → nA s q := by
    intro q h
    rcases A_cons h with h | h
    · show s.heap.size ≤ q
      rw [h]
      exact C.2.2.2.2.2.2.2.1
    · exact A_in hW.2.2.2.1 (fun q hq => Nat.le_trans hS.1 hq) h
  refine va_calli (post := post) (vx_runSW (R := room_1) (As := [.ref (a1 0), .int i, .ref o]) (rest := []) (nL := 7) (own := RL) (Ts := wsG) (index := 42) ⟨C.1.1, C.1.2.1, C.1.2.2.1, C.1.2.2.2.2.2.1, C.1.2.2.2.2.2.2.1⟩ (hM H.size) (vx_cwSW (R := room_1) (index := 42) (ws' := wsG) 3 C.1.2.2.2.2.2.2.1 (goodG (fun w hw => ?_)) rfl rfl rfl ⟨by decide +kernel, by decide +kernel, by decide +kernel⟩ ⟨Nat.le_of_ble_eq_true rfl, Nat.le_of_ble_eq_true rfl⟩) ⟨fun a U g mk q => ?_, fun U hU hV => ?_⟩ rfl rfl hl.1 rfl (lv_room (Nat.le_of_ble_eq_true rfl)) dL_law_281 hkn) hS (fun q _ h => hF q h) hF (fun r u t H1 locs1 ht hvm hp hB hz hk hS1 => ?_)
  · simp only [va_wsS, List.mem_append, List.mem_cons, List.not_mem_nil, or_false] at hw
    rcases hw with (rfl | rfl | rfl) | rfl | hw
    · exact lk_L_42
    · exact lp_st
    · exact lp_in
    · exact lp_w
    · exact hw
  · obtain ⟨q0, q1, qP, qK, qD, qS, qX⟩ := q
    exact ⟨q0, q1, qP, va_K.moved (u := U) (U := U.calling g mk a) (Vm.Alike.refl U.vm) qK, qD, sMG.moved (u := U) (U := U.calling g mk a) (Vm.Alike.refl U.vm) qS, TX.same (s := U) (U := U.calling g mk a) rfl (Vm.Alike.refl U.vm) qX⟩
  · exact ⟨rfl, by rw [hU], ⟨by rw [hU]; exact hW.2.2.1, by rw [hU]; exact hW.1⟩, va_K.moved hV.alike C.2.2.1, ⟨hW.2.2.2.1.weaken (fun _ _ _ _ => trivial), C.2.2.2.2.2.2.2.2.2.1⟩, by rw [hU]; exact ((C.1.2.2.2.2.2.2.2.2.2.kept (H1 := H) (fun a h1 h2 => hS.2.1 a h1 h2)).narrow hF).moved hV.alike, by rw [hU]; exact ((C.2.2.2.1.kept (H1 := H) (fun a h1 h2 => hS.2.1 a h1 h2)).narrow hF).warm hV⟩
  · obtain ⟨⟨hO1, hP1⟩, hD1⟩ := hB
    rw [ht] at hO1 hP1
    refine kk r u H1 locs1 hp ⟨hP1, hW.2.1.kept (fun k x hx => ?_), hO1, hD1.weaken (fun _ q _ h => hF _ h), hW.2.2.2.2.1, hS1⟩
    obtain ⟨e1, e2⟩ := pic_ad hx
    refine hk _ (hW.2.1 k x hx).lt (fun h => ?_)
    rcases A_cons h with h | h
    · exact C.2.2.2.2.2.2.2.2.2.2 k e1 (e2.symm.trans h)
    · exact ap_not (G := gC l D a1 c1 tt) (hW.2.1 k x hx).lt (fun i hi => by rw [e2]; exact C.2.2.2.2.2.2.2.2.1 i hi k e1) h
set_option maxRecDepth 100000 in
set_option maxHeartbeats 4000000 in
theorem l_placeT {t r : Int32} (C : LC l D a1 c1 a2 c2 tt o kO sa b L xs p s m meth c) (hW : LW D a1 c1 a2 c2 o kO s σ μ f H locs) (hl : lv_has ls 7 (lvj j o b a1 a2)) (h5 : 5 * j + 4 < L) (hL : L < 2 ^ 31) (hkn : kc ≤ 3134 ∧ ns ≤ 153486) (hM : ∀ K : Int32 → Sg → Prop, (∀ μ', REL σ μ' → sI μ' 0 55 = t → K r μ') → wX11_place μ (xs (5 * j + 1)) K) (hf : t = 0 → f 0 = r.toInt64) (K : ∀ (σ' μ' : Sg) (f' : Nat → Int64) (H1 : Heap) (locs1 : List Loc) (ls1 : Array Slot), REL σ' μ' → LW D a1 c1 a2 c2 o kO s σ' μ' f' H1 locs1 → lv_has ls1 7 (lvj j o b a1 a2) → W p l e room_1 s m #[Value.ref b] below meth c H1 locs1 kc ns QQ (F0 m 479 ls1 [])) : W p l e room_1 s m #[Value.ref b] below meth c H locs kc ns QQ (F0 m 284 ls [.int t]) := by
  refine lv_istore (lv' := (5, .int t) :: lvj j o b a1 a2) C.1.1 C.1.2.1 dL_law_284 hl (by decide) rfl (fun ls hl => ?_)
  refine lv_aload_n C.1.1 C.1.2.1 dL_law_286 rfl (lv_at hl 3 rfl) ?_
  refine l_arg 1 C hW.2.2.2.2.2 (lv_sub hl [1, 2, 3, 4, 5] rfl) (by omega) hL rfl dL_law_287 dL_law_288 dL_law_290 dL_law_291 dL_law_292 ?_
  refine l_callM [.int (xs (5 * j + 1))] mv_X11_place rfl lk_L_47 rfl ⟨Nat.le_of_ble_eq_true rfl, Nat.le_of_ble_eq_true rfl⟩ hkn rfl (Nat.le_of_ble_eq_true rfl) dL_law_293 (ct_X11_place rfl (hM (fun r' μ' => r' = r ∧ REL σ μ' ∧ sI μ' 0 55 = t) (fun μ' h1 h2 => ⟨rfl, h1, h2⟩))) C hW hl (fun r1 μ1 H1 locs1 h1 hW1 => ?_)
  obtain ⟨rfl, hR1, h55⟩ := h1
  refine lv_istore (lv' := (6, .int r1) :: (5, .int t) :: lvj j o b a1 a2) C.1.1 C.1.2.1 dL_law_296 hl (by decide) rfl (fun ls hl => ?_)
  refine lv_aload_n C.1.1 C.1.2.1 dL_law_298 rfl (lv_at hl 4 rfl) ?_
  have hth : wX11_thrown μ1 (fun r' μ' => r' = t ∧ REL σ μ') := ⟨h55, hR1⟩
  refine l_callM [] mv_X11_thrown rfl lk_L_48 rfl ⟨Nat.le_of_ble_eq_true rfl, Nat.le_of_ble_eq_true rfl⟩ hkn rfl (Nat.le_of_ble_eq_true rfl) dL_law_299 (ct_X11_thrown rfl hth) C hW1 hl (fun r2 μ2 H2 locs2 h2 hW2 => ?_)
  obtain ⟨rfl, hR2⟩ := h2
  have hls := lv_sub hl [2, 3, 4, 5, 6] (l' := lvj j o b a1 a2) rfl
  refine lv_iload C.1.1 C.1.2.1 dL_law_302 (lv_at hl 1 rfl) ?_
  refine lv_icmp_eq (tgt := 309) C.1.1 C.1.2.1 dL_law_304 (by decide) (fun _ => ?_) (fun g => absurd rfl g)
  refine lv_iload C.1.1 C.1.2.1 dL_law_309 (lv_at hl 1 rfl) ?_
  refine lv_if_ne (tgt := 326) C.1.1 C.1.2.1 dL_law_311 (by decide) (fun _ => ?_) (fun g => ?_)
  · exact lv_goto (tgt := 479) C.1.1 C.1.2.1 dL_law_326 (by decide) (K _ _ _ _ _ _ hR2 hW2 hls)
  · refine lv_aload_n C.1.1 C.1.2.1 dL_law_314 rfl (lv_at hl 3 rfl) ?_
    refine lv_iconst (v := 0) C.1.1 C.1.2.1 dL_law_315 rfl ?_
    refine va_lald C.1.1 C.1.2.1 C.2.2.1 hW2.2.2.1 0 0 rfl rfl (by unfold vp_in; decide) dL_law_316 ?_
    refine lv_iload C.1.1 C.1.2.1 dL_law_317 (lv_at hl 0 rfl) ?_
    refine lv_i2l (v := r1.toInt64) C.1.1 C.1.2.1 dL_law_319 rfl ?_
    refine W.lcmp C.1.1 C.1.2.1 dL_law_320 ?_
    refine lv_if_eq (tgt := 326) C.1.1 C.1.2.1 dL_law_321 (by decide) (fun _ => ?_) (fun g2 => absurd (cmp0.mpr (hf g)) g2)
    exact lv_goto (tgt := 479) C.1.1 C.1.2.1 dL_law_326 (by decide) (K _ _ _ _ _ _ hR2 hW2 hls)
set_option maxRecDepth 100000 in
set_option maxHeartbeats 4000000 in
theorem l_place (C : LC l D a1 c1 a2 c2 tt o kO sa b L xs p s m meth c) (hW : LW D a1 c1 a2 c2 o kO s σ μ f H locs) (hR : REL σ μ) (hl : lv_has ls 7 (lvj j o b a1 a2)) (h5 : 5 * j + 4 < L) (hL : L < 2 ^ 31) (hkn : kc + 1 ≤ 3134 ∧ ns + 6 ≤ 153486) (K : ∀ (σ' μ' : Sg) (f' : Nat → Int64) (H1 : Heap) (locs1 : List Loc) (ls1 : Array Slot), REL σ' μ' → LW D a1 c1 a2 c2 o kO s σ' μ' f' H1 locs1 → lv_has ls1 7 (lvj j o b a1 a2) → W p l e room_1 s m #[Value.ref b] below meth c H1 locs1 (kc + 1) (ns + 6) QQ (F0 m 479 ls1 [])) : W p l e room_1 s m #[Value.ref b] below meth c H locs kc ns QQ (F0 m 273 ls []) := by
  refine lv_aload_n C.1.1 C.1.2.1 dL_law_273 rfl (lv_at hl 3 rfl) ?_
  refine l_arg 1 C hW.2.2.2.2.2 hl (by omega) hL rfl dL_law_274 dL_law_275 dL_law_277 dL_law_278 dL_law_279 ?_
  refine lv_aload_n C.1.1 C.1.2.1 dL_law_280 rfl (lv_at hl 1 rfl) ?_
  rcases place_ok hR (xs (5 * j + 1)) with ⟨r, h1, h2⟩ | ⟨h0, len, h1, h3, h2⟩
  · refine l_lp (fun sz => lp_ok (G := gC l D a1 c1 tt) (o := o) (kO := kO) (f := f) (sa := sa) rfl h1 sz) C hW hl hkn (fun t u H1 locs1 hp hW1 => ?_)
    obtain ⟨rfl, v, ⟨rfl, hu⟩, hf⟩ := hp
    rw [← hu] at hW1
    exact l_placeT C hW1 hl h5 hL hkn h2 (fun _ => hf) K
  · refine l_lp (fun sz => lp_ex (G := gC l D a1 c1 tt) (o := o) (kO := kO) (f := f) (sa := sa) rfl C.2.2.2.2.1 h0 h1 h3 sz) C hW hl hkn (fun t u H1 locs1 hp hW1 => ?_)
    obtain ⟨rfl, hu⟩ := hp
    rw [← hu] at hW1
    exact l_placeT C hW1 hl h5 hL hkn h2 (fun g => absurd g ne10) K
theorem l_head (C : LC l D a1 c1 a2 c2 tt o kO sa b L xs p s m meth c) (hW : LW D a1 c1 a2 c2 o kO s σ μ f H locs) (hl : lv_has ls 7 (lvj j o b a1 a2)) (hj : 5 * j ≤ L) (hL : L < 2 ^ 31) (kx : L < 5 * j + 5 → W p l e room_1 s m #[Value.ref b] below meth c H locs kc ns QQ (F0 m 485 ls [])) (ki : 5 * j + 5 ≤ L → W p l e room_1 s m #[Value.ref b] below meth c H locs kc ns QQ (F0 m 32 ls [])) : W p l e room_1 s m #[Value.ref b] below meth c H locs kc ns QQ (F0 m 23 ls []) := by
  refine lv_iload C.1.1 C.1.2.1 dL_law_23 (lv_at hl 0 rfl) ?_
  refine lv_aload_n C.1.1 C.1.2.1 dL_law_25 rfl (lv_at hl 4 rfl) ?_
  refine va_slen C.1.1 C.1.2.1 C.2.2.2.2.2.1 C.2.2.2.2.2.2.1 (fun q => absurd C.2.2.2.2.2.2.1 (Nat.not_lt.mpr q)) hW.2.2.2.2.2 dL_law_26 ?_
  refine lv_iconst (v := 5) C.1.1 C.1.2.1 dL_law_27 rfl ?_
  refine lv_isub C.1.1 C.1.2.1 dL_law_28 ?_
  refine lv_icmp_gt (tgt := 485) C.1.1 C.1.2.1 dL_law_29 (by decide) (fun g => kx ?_) (fun g => ki ?_)
  · refine Nat.not_le.mp (fun h => ?_)
    rw [subN (x := Int32.ofNat L) (y := 5) L 5 rfl rfl (by omega)] at g
    exact absurd g (nltN (L - 5) (5 * j) rfl rfl (by omega) (by omega))
  · refine Nat.not_lt.mp (fun h => ?_)
    by_cases h5 : 5 ≤ L
    · rw [subN (x := Int32.ofNat L) (y := 5) L 5 rfl rfl h5] at g
      exact absurd (ltN (L - 5) (5 * j) rfl rfl (by omega) (by omega)) g
    · obtain rfl : j = 0 := by omega
      rcases (show L = 0 ∨ L = 1 ∨ L = 2 ∨ L = 3 ∨ L = 4 by omega) with rfl | rfl | rfl | rfl | rfl <;> exact absurd (by decide +kernel) g
set_option maxRecDepth 100000 in
set_option maxHeartbeats 4000000 in
theorem l_turn (C : LC l D a1 c1 a2 c2 tt o kO sa b L xs p s m meth c) (hW : LW D a1 c1 a2 c2 o kO s σ μ f H locs) (hR : REL σ μ) (hl : lv_has ls 7 (lvj j o b a1 a2)) (h5 : 5 * j + 4 < L) (hL : L < 2 ^ 31) (hkn : kc + 1 ≤ 3134 ∧ ns + 6 ≤ 153486) (K : ∀ (σ' μ' : Sg) (f' : Nat → Int64) (H1 : Heap) (locs1 : List Loc) (ls1 : Array Slot), REL σ' μ' → LW D a1 c1 a2 c2 o kO s σ' μ' f' H1 locs1 → lv_has ls1 7 (lvj j o b a1 a2) → W p l e room_1 s m #[Value.ref b] below meth c H1 locs1 (kc + 1) (ns + 6) QQ (F0 m 479 ls1 [])) : W p l e room_1 s m #[Value.ref b] below meth c H locs kc ns QQ (F0 m 32 ls []) := by
  refine lv_aload_n C.1.1 C.1.2.1 dL_law_32 rfl (lv_at hl 4 rfl) ?_
  refine lv_iload C.1.1 C.1.2.1 dL_law_33 (lv_at hl 0 rfl) ?_
  refine va_sld C.1.1 C.1.2.1 C.2.2.2.2.2.1 C.2.2.2.2.2.2.1 (fun q => absurd C.2.2.2.2.2.2.1 (Nat.not_lt.mpr q)) hW.2.2.2.2.2 (vp_in_nI (by omega) hL) dL_law_35 ?_
  refine lv_bipush (v := 15) C.1.1 C.1.2.1 dL_law_36 rfl ?_
  refine lv_iand C.1.1 C.1.2.1 dL_law_38 ?_
  generalize xs (nI (5 * j)).toNatClampNeg &&& (15 : Int32) = v
  by_cases g0 : v = 0
  · subst g0
    refine lv_tableIn (off := 61) (tgt := 100) C.1.1 C.1.2.1 dL_law_39 (by decide) (by decide) (by decide) (by decide) ?_
    refine W.widen (k := kc + 1) (n := ns + 6) (by omega) (by omega) ?_
    exact l_act C hW hR hl h5 hL hkn (fun σ' μ' H1 locs1 r w => K _ _ _ _ _ _ r w hl)
  by_cases g1 : v = 1
  · subst g1
    refine lv_tableIn (off := 122) (tgt := 161) C.1.1 C.1.2.1 dL_law_39 (by decide) (by decide) (by decide) (by decide) ?_
    refine W.widen (k := kc + 1) (n := ns + 6) (by omega) (by omega) ?_
    exact l_told C hW hR hl h5 hL hkn (fun σ' μ' H1 locs1 r w => K _ _ _ _ _ _ r w hl)
  by_cases g2 : v = 2
  · subst g2
    refine lv_tableIn (off := 159) (tgt := 198) C.1.1 C.1.2.1 dL_law_39 (by decide) (by decide) (by decide) (by decide) ?_
    refine W.widen (k := kc + 1) (n := ns + 6) (by omega) (by omega) ?_
    exact l_run C hW hR hl h5 hL hkn (fun σ' μ' H1 locs1 r w => K _ _ _ _ _ _ r w hl)
  by_cases g3 : v = 3
  · subst g3
    refine lv_tableIn (off := 196) (tgt := 235) C.1.1 C.1.2.1 dL_law_39 (by decide) (by decide) (by decide) (by decide) ?_
    refine W.widen (k := kc + 1) (n := ns + 6) (by omega) (by omega) ?_
    exact l_ended C hW hR hl h5 hL hkn (fun σ' μ' H1 locs1 r w => K _ _ _ _ _ _ r w hl)
  by_cases g4 : v = 4
  · subst g4
    refine lv_tableIn (off := 221) (tgt := 260) C.1.1 C.1.2.1 dL_law_39 (by decide) (by decide) (by decide) (by decide) ?_
    refine W.widen (k := kc + 1) (n := ns + 6) (by omega) (by omega) ?_
    exact l_gave C hW hR hl h5 hL hkn (fun σ' μ' H1 locs1 r w => K _ _ _ _ _ _ r w hl)
  by_cases g5 : v = 5
  · subst g5
    refine lv_tableIn (off := 234) (tgt := 273) C.1.1 C.1.2.1 dL_law_39 (by decide) (by decide) (by decide) (by decide) ?_
    exact l_place C hW hR hl h5 hL hkn K
  by_cases g6 : v = 6
  · subst g6
    refine lv_tableIn (off := 290) (tgt := 329) C.1.1 C.1.2.1 dL_law_39 (by decide) (by decide) (by decide) (by decide) ?_
    refine W.widen (k := kc + 1) (n := ns + 6) (by omega) (by omega) ?_
    exact l_box C hW hR hl h5 hL hkn (fun σ' μ' H1 locs1 r w => K _ _ _ _ _ _ r w hl)
  by_cases g7 : v = 7
  · subst g7
    refine lv_tableIn (off := 315) (tgt := 354) C.1.1 C.1.2.1 dL_law_39 (by decide) (by decide) (by decide) (by decide) ?_
    refine W.widen (k := kc + 1) (n := ns + 6) (by omega) (by omega) ?_
    exact l_boxed C hW hR hl h5 hL hkn (fun σ' μ' H1 locs1 r w => K _ _ _ _ _ _ r w hl)
  by_cases g8 : v = 8
  · subst g8
    refine lv_tableIn (off := 340) (tgt := 379) C.1.1 C.1.2.1 dL_law_39 (by decide) (by decide) (by decide) (by decide) ?_
    refine W.widen (k := kc + 1) (n := ns + 6) (by omega) (by omega) ?_
    exact l_same C hW hR hl h5 hL hkn (fun σ' μ' H1 locs1 r w => K _ _ _ _ _ _ r w hl)
  by_cases g9 : v = 9
  · subst g9
    refine lv_tableIn (off := 377) (tgt := 416) C.1.1 C.1.2.1 dL_law_39 (by decide) (by decide) (by decide) (by decide) ?_
    refine W.widen (k := kc + 1) (n := ns + 6) (by omega) (by omega) ?_
    exact l_out C hW hR hl h5 hL hkn (fun σ' μ' H1 locs1 r w => K _ _ _ _ _ _ r w hl)
  by_cases g10 : v = 10
  · subst g10
    refine lv_tableIn (off := 402) (tgt := 441) C.1.1 C.1.2.1 dL_law_39 (by decide) (by decide) (by decide) (by decide) ?_
    refine W.widen (k := kc + 1) (n := ns + 6) (by omega) (by omega) ?_
    exact l_count C hW hR hl h5 hL hkn (fun σ' μ' H1 locs1 r w => K _ _ _ _ _ _ r w hl)
  by_cases g11 : v = 11
  · subst g11
    refine lv_tableIn (off := 427) (tgt := 466) C.1.1 C.1.2.1 dL_law_39 (by decide) (by decide) (by decide) (by decide) ?_
    refine W.widen (k := kc + 1) (n := ns + 6) (by omega) (by omega) ?_
    exact l_clear C hW hR hl h5 hL hkn (fun σ' μ' H1 locs1 r w => K _ _ _ _ _ _ r w hl)
  refine lv_tableOut (tgt := 479) C.1.1 C.1.2.1 dL_law_39 (tbl_out [0, 1, 2, 3, 4, 5, 6, 7, 8, 9, 10, 11] (tbl_vs 12 (by decide) (by decide)) (List.forall_mem_cons.mpr ⟨g0, List.forall_mem_cons.mpr ⟨g1, List.forall_mem_cons.mpr ⟨g2, List.forall_mem_cons.mpr ⟨g3, List.forall_mem_cons.mpr ⟨g4, List.forall_mem_cons.mpr ⟨g5, List.forall_mem_cons.mpr ⟨g6, List.forall_mem_cons.mpr ⟨g7, List.forall_mem_cons.mpr ⟨g8, List.forall_mem_cons.mpr ⟨g9, List.forall_mem_cons.mpr ⟨g10, List.forall_mem_cons.mpr ⟨g11, List.forall_mem_nil _⟩⟩⟩⟩⟩⟩⟩⟩⟩⟩⟩⟩)) (by decide) ?_
  refine W.widen (k := kc + 1) (n := ns + 6) (by omega) (by omega) ?_
  exact K _ _ _ _ _ _ hR hW hl
theorem l_exit (C : LC l D a1 c1 a2 c2 tt o kO sa b L xs p s m meth c) (hW : LW D a1 c1 a2 c2 o kO s σ μ f H locs) (hkn : kc ≤ 3134 ∧ ns ≤ 153486) : W p l e room_1 s m #[Value.ref b] below meth c H locs kc ns (lw_Z below #[Value.ref b] s) (F0 m 485 ls []) := by
  refine lv_iconst (v := 1) C.1.1 C.1.2.1 dL_law_485 rfl ?_
  refine va_forget hW.2.2.2.2.2.2.2 ?_
  refine W.widen (k := 3134) (n := 153486) hkn.1 hkn.2 ?_
  exact lw_ret C.1.1 C.1.2.1 C.1.2.2.2.1 C.1.2.2.2.2.1 dL_law_486
theorem l_loop (C : LC l D a1 c1 a2 c2 tt o kO sa b L xs p s m meth c) (hL : L < 2 ^ 31) : ∀ (n j kc ns : Nat) (σ μ : Sg) (f : Nat → Int64) (H : Heap) (locs : List Loc) (ls : Array Slot), 5 * j ≤ L → L < 5 * (j + n) + 5 → kc + n ≤ 3134 → ns + 6 * n ≤ 153486 → REL σ μ → LW D a1 c1 a2 c2 o kO s σ μ f H locs → lv_has ls 7 (lvj j o b a1 a2) → W p l e room_1 s m #[Value.ref b] below meth c H locs kc ns (lw_Z below #[Value.ref b] s) (F0 m 23 ls []) := by
  intro n
  induction n with
  | zero =>
    intro j kc ns σ μ f H locs ls h1 h2 h3 h4 hR hW hl
    exact l_head C hW hl h1 hL (fun _ => l_exit C hW ⟨by omega, by omega⟩) (fun g => absurd g (by omega))
  | succ n ih =>
    intro j kc ns σ μ f H locs ls h1 h2 h3 h4 hR hW hl
    refine l_head C hW hl h1 hL (fun _ => l_exit C hW ⟨by omega, by omega⟩) (fun g => ?_)
    refine l_turn C hW hR hl (by omega) hL ⟨by omega, by omega⟩ (fun σ1 μ1 f1 H1 locs1 ls1 hR1 hW1 hl1 => ?_)
    refine lv_iinc (k := 0) (v := nI (5 * (j + 1))) (lv' := lvj (j + 1) o b a1 a2) C.1.1 C.1.2.1 dL_law_479 hl1 rfl (addN (5 * j) 5 rfl rfl) (by decide) rfl (fun ls2 hl2 => ?_)
    refine lv_goto (tgt := 23) C.1.1 C.1.2.1 dL_law_482 (by decide) ?_
    exact ih (j + 1) (kc + 1) (ns + 6) σ1 μ1 f1 H1 locs1 ls2 (by omega) (by omega) (by omega) (by omega) hR1 hW1 hl2
end LAW2
