abbrev mLp : Mi := (yL_place, cL_place, 4, some .int)
theorem lp_w : Cond.codeWith yL_place cL_place 4 (some .int) [(0, 9, 12, 13)] ∈ wsG := inT4 (List.mem_of_getElem? (i := 9) rfl) rfl
theorem lp_ck : Cond.classLink RL 13 RJx00060 ∈ wsG := inT4 (List.mem_of_getElem? (i := 10) rfl) rfl
/-- the row of one long, at o -/
abbrev oc (o : Nat) (kO : ClassId) (f : Nat → Int64) : Nat × va_E := (o, .inl (kO, 1, .inr (.inl f)))
theorem pic_ad {Ly : List Ds} {ad : Nat → Nat} {cA : Nat → ClassId} {σ : Sg} {i : Nat} {x : Nat × va_E} (h : (pic Ly ad cA σ)[i]? = some x) : i < Ly.length ∧ x.1 = ad i := by
  have hl : i < (pic Ly ad cA σ).length := (List.getElem?_eq_some_iff.mp h).1
  have hl2 : i < Ly.length := by simpa [pic] using hl
  refine ⟨hl2, ?_⟩
  rw [pic_at (List.getElem?_eq_getElem hl2)] at h
  cases h
  rfl
/-- a cell apart from the picture -/
theorem ap_not {G : Gx} {σ : Sg} {H : Heap} {q : Nat} (h1 : q < H.size) (h2 : ∀ k, k < (gLy G).length → gad G k ≠ q) : ¬ va_A (gpic G σ) H.size q := by
  intro h
  rcases h with ⟨k, x, hx⟩ | h
  · obtain ⟨a, b⟩ := pic_ad hx
    exact h2 k a b.symm
  · omega
theorem oc_lt {D : va_G} {o : Nat} {kO : ClassId} {f : Nat → Int64} {H : Heap} (h : va_P D vwCl [oc o kO f] H) : o < H.size := (h 0 (oc o kO f) rfl).lt
theorem oc_kept {D : va_G} {o : Nat} {kO : ClassId} {f : Nat → Int64} {H H1 : Heap} (h : va_P D vwCl [oc o kO f] H) (hq : H1[o]? = H[o]?) : va_P D vwCl [oc o kO f] H1 := h.kept (fun k x hx => by
  have hk : k < 1 := (List.getElem?_eq_some_iff.mp hx).1
  obtain rfl : k = 0 := by omega
  cases hx
  exact hq)
theorem oc_app {G : Gx} {σ : Sg} {A : Nat → Prop} {o : Nat} {kO : ClassId} {f : Nat → Int64} {H : Heap} (hO : va_P G.2.1 vwCl [oc o kO f] H) (hP : va_P G.2.1 vwCl (gpic G σ) H) (hD : va_D A (gpic G σ)) (hA : A o) (hap : ∀ k, k < (gLy G).length → gad G k ≠ o) : va_P G.2.1 vwCl (oc o kO f :: gpic G σ) H ∧ va_D A (oc o kO f :: gpic G σ) := by
  refine ⟨va_P.app hO hP, va_D.app (w1 := [oc o kO f]) ⟨fun i j x y hx hy _ => ?_, fun k x hx => ?_⟩ hD (fun i j x y hx hy hxy => ?_)⟩
  · have h1 : i < 1 := (List.getElem?_eq_some_iff.mp hx).1
    have h2 : j < 1 := (List.getElem?_eq_some_iff.mp hy).1
    omega
  · have hk : k < 1 := (List.getElem?_eq_some_iff.mp hx).1
    obtain rfl : k = 0 := by omega
    cases hx
    exact hA
  · have hk : i < 1 := (List.getElem?_eq_some_iff.mp hx).1
    obtain rfl : i = 0 := by omega
    cases hx
    obtain ⟨a, b⟩ := pic_ad hy
    exact hap j a (b.symm.trans hxy.symm)
theorem oc_out {G : Gx} {σ : Sg} {o : Nat} {kO : ClassId} {f : Nat → Int64} {H : Heap} (h : va_P G.2.1 vwCl (oc o kO f :: gpic G σ) H) : va_P G.2.1 vwCl [oc o kO f] H ∧ va_P G.2.1 vwCl (gpic G σ) H := by
  refine ⟨fun k x hx => ?_, fun k x hx => h (k + 1) x hx⟩
  have hk : k < 1 := (List.getElem?_eq_some_iff.mp hx).1
  obtain rfl : k = 0 := by omega
  exact h 0 x hx
/-- how the law's place is called -/
abbrev LPc (G : Gx) (σ : Sg) (i : Int32) (o : Nat) (kO : ClassId) (f : Nat → Int64) (sa sz : Nat) : Array Value → State → Prop := va_Pc [.ref (gad G 0), .int i, .ref o] (fun U => U.heap.size = sz ∧ (va_P G.2.1 vwCl [oc o kO f] U.heap ∧ va_P G.2.1 vwCl (gpic G σ) U.heap) ∧ va_K G.2.1 vwCl ((kO, .long) :: gtys G) U ∧ (va_D (fun _ => True) (gpic G σ) ∧ ∀ k, k < (gLy G).length → gad G k ≠ o) ∧ sMG G (va_A (oc o kO f :: gpic G σ) sz) U U.heap ∧ TX sa (va_A (oc o kO f :: gpic G σ) sz) U U.heap)
abbrev LPq (G : Gx) (o : Nat) (kO : ClassId) (A : Nat → Prop) (post : Int32 → (Nat → Int64) × Sg → Prop) : Array Value → State → Outcome → State → Prop := va_Qi post (fun (u : (Nat → Int64) × Sg) t => (va_P G.2.1 vwCl [oc o kO u.1] t.heap ∧ va_P G.2.1 vwCl (gpic G u.2) t.heap) ∧ va_D A (gpic G u.2)) A
section LP
variable {G : Gx} {σ : Sg} {sa o : Nat} {kO : ClassId} {f : Nat → Int64} {i : Int32} {p : Program} {e : Env} {s : State} {m : MethodId} {args : Array Value} {below : List Frame} {meth : Method} {c : Code} {A : Nat → Prop} {H : Heap} {locs : List Loc} {ls : Array Slot}
set_option maxRecDepth 100000 in
set_option maxHeartbeats 4000000 in
theorem lp_okW {Q : Int32 → Sg → Prop} (hG : gLy G = LyC) (h : wX10_placeN σ i Q) (C : XC G mLp p s m args meth c A) (hKo : va_K G.2.1 vwCl ((kO, .long) :: gtys G) s) (hAo : A o) (hap : ∀ k, k < (gLy G).length → gad G k ≠ o) (hO : va_P G.2.1 vwCl [oc o kO f] H) (hP : va_P G.2.1 vwCl (gpic G σ) H) (hD : va_D A (gpic G σ)) (hS : va_S A s.heap H locs) (hl : lv_has ls 4 [(0, .ref (gad G 0)), (1, .int i), (2, .ref o)]) : W p G.1 e (rmn 9 1 6) s m args below meth c H locs 0 0 (MQ below (LPq G o kO A (fun r u => r = 0 ∧ ∃ v : Int32, Q v u.2 ∧ u.1 0 = v.toInt64)) args s 1 6 A) (F0 m 0 ls []) := by
  refine lv_aload_n C.1 C.2.1 dL_place_0 rfl (lv_at hl 2 rfl) ?_
  refine lv_iconst (v := 0) C.1 C.2.1 dL_place_1 rfl ?_
  refine lv_aload_n C.1 C.2.1 dL_place_2 rfl (lv_at hl 0 rfl) ?_
  refine lv_iload_n C.1 C.2.1 dL_place_3 rfl (lv_at hl 1 rfl) ?_
  refine w_callV (Q' := qi Q) (o := 0) [_] mv_X10_place lk_L_7 (by rw [hG]; rfl) rfl rfl ⟨Nat.le_of_ble_eq_true rfl, Nat.le_of_ble_eq_true rfl⟩ ⟨Nat.le_of_ble_eq_true rfl, Nat.le_of_ble_eq_true rfl⟩ rfl (Nat.le_of_ble_eq_true rfl) dL_place_4 (ct_X10_placeN hG h) C hP hD hS hl (fun v σ' H1 locs1 hq hP1 hD1 hz hk hS1 => ?_)
  obtain ⟨r, rfl, hr⟩ := hq
  have hO1 := oc_kept hO (hk o (oc_lt hO) (ap_not (oc_lt hO) hap))
  obtain ⟨hPc, hDc⟩ := oc_app hO1 hP1 hD1 hAo hap
  change W p G.1 e (rmn 9 1 6) s m args below meth c H1 locs1 0 0 _ (F0 m 7 ls [.int r, .int 0, .ref o])
  refine lv_i2l (v := r.toInt64) C.1 C.2.1 dL_place_7 rfl ?_
  refine va_last C.1 C.2.1 hKo hPc hDc hS1 0 0 rfl rfl (by unfold vp_in; decide) dL_place_8 (fun H2 locs2 hP2 hD2 hS2 => ?_)
  have hP2 : va_P G.2.1 vwCl (oc o kO (vp_updL f 0 r.toInt64) :: gpic G σ') H2 := hP2
  obtain ⟨hO3, hP3⟩ := oc_out hP2
  refine lv_goto (tgt := 15) C.1 C.2.1 dL_place_9 (by decide) ?_
  refine lv_iconst (v := 0) C.1 C.2.1 dL_place_15 rfl ?_
  refine W.widen (k := 1) (n := 6) (Nat.le_of_ble_eq_true rfl) (Nat.le_of_ble_eq_true rfl) ?_
  exact W.iret C.1 C.2.1 C.2.2.2.1 (fun t ht hw => ⟨⟨0, (vp_updL f 0 r.toInt64, σ'), rfl, ⟨rfl, r, hr, rfl⟩, ⟨by rw [ht]; exact hO3, by rw [ht]; exact hP3⟩, hD1⟩, hS2.F ht⟩) hS2.2.2 dL_place_16 C.2.2.2.2.1
set_option maxRecDepth 100000 in
set_option maxHeartbeats 4000000 in
theorem lp_exW {len : Int32} (hG : gLy G = LyC) (hlt : G.1.stackTraces = false) (hrow : isRw (srt (sL σ 10 6))) (hlen : ∀ Q : Int32 → Sg → Prop, Q len σ → wX7_lengthOf σ (sL σ 10 6) Q) (hi : i < 0 ∨ ¬ i < len) (C : XC G mLp p s m args meth c A) (hX : TX sa A s s.heap) (htab : c.exceptionTable.toList = tableOf [(0, 9, 12, 13)]) (hap : ∀ k, k < (gLy G).length → gad G k ≠ o) (hO : va_P G.2.1 vwCl [oc o kO f] H) (hP : va_P G.2.1 vwCl (gpic G σ) H) (hD : va_D A (gpic G σ)) (hS : va_S A s.heap H locs) (hl : lv_has ls 4 [(0, .ref (gad G 0)), (1, .int i), (2, .ref o)]) : W p G.1 e (rmn 9 1 6) s m args below meth c H locs 0 0 (MQ below (LPq G o kO A (fun r u => r = 1 ∧ σ = u.2)) args s 1 6 A) (F0 m 0 ls []) := by
  have hF : ∀ q, va_A (gpic G σ) H.size q → A q := by
    intro q h
    rcases h with ⟨j, e', h⟩ | h
    · exact hD.2 j (q, e') h
    · exact C.2.2.2.2.2.2.2.2.1 q (Nat.le_trans hS.1 h)
  refine lv_aload_n C.1 C.2.1 dL_place_0 rfl (lv_at hl 2 rfl) ?_
  refine lv_iconst (v := 0) C.1 C.2.1 dL_place_1 rfl ?_
  refine lv_aload_n C.1 C.2.1 dL_place_2 rfl (lv_at hl 0 rfl) ?_
  refine lv_iload_n C.1 C.2.1 dL_place_3 rfl (lv_at hl 1 rfl) ?_
  have hp := x_pre (av := [.ref (gad G 0), .int i]) C hP hD hS
  have hXc : TX sa (va_A (gpic G σ) H.size) s H := (hX.kept (fun a h1 h2 => hS.2.1 a h1 h2)).narrow hF
  have hob : (gLy G)[0]? = some (0, 9, [3, 7, 0]) := by rw [hG]; rfl
  refine vx_calli (vx_runV (b := gad G 0) (As := [.int i]) (rest := [.int 0, .ref o]) (nL := 4) (own := RL) (C := RX10) (Ts := wsG) ⟨C.1, C.2.1, C.2.2.1, C.2.2.2.2.2.1, C.2.2.2.2.2.2.1⟩ (vt_X10_place (sa := sa) hG hlt hrow hlen hi H.size) (cwV (R := rmn 9 1 6) (index := 7) (ws' := wsG) 1 C.2.2.2.2.2.2.1 (goodG (fun w hw => ?_)) rfl rfl rfl ⟨rfl, mk_X10_place.1⟩ ⟨Nat.le_of_ble_eq_true rfl, Nat.le_of_ble_eq_true rfl⟩) ⟨fun a U g mk q => ?_, va_recv C.2.2.2.2.2.2.2.1 hP (q := (RX10, TX10, 3)) (ci := 9) rfl (pic_at hob), fun U hU hW => ?_⟩ rfl rfl hl.1 rfl (lv_room (Nat.le_of_ble_eq_true rfl)) dL_place_4 ⟨Nat.le_of_ble_eq_true rfl, Nat.le_of_ble_eq_true rfl⟩) hS (fun q _ h => hF q h) hF (fun q _ h => hF q h) (fun E ce q9 u t H1 locs1 ht hvm hpx hBX hz hk hS1 hcell hcv hcl => ?_) (fun r u t H1 locs1 ht hvm hw => hw.elim)
  · simp only [wsV, List.mem_append, List.mem_cons, List.not_mem_nil, or_false] at hw
    rcases hw with (rfl | rfl | rfl | rfl) | rfl | hw
    · exact lk_L_7
    · exact mv_X10_place.2.1
    · exact mv_X10_place.2.2
    · exact mk_X10_place.2.2
    · exact mk_X10_place.2.1
    · exact hw
  · obtain ⟨q0, q1, qP, qK, qD, qS, qX⟩ := q
    exact ⟨q0, q1, qP, va_K.moved (u := U) (U := U.calling g mk a) (Vm.Alike.refl U.vm) qK, qD, sMG.moved (u := U) (U := U.calling g mk a) (Vm.Alike.refl U.vm) qS, TX.same (s := U) (U := U.calling g mk a) rfl (Vm.Alike.refl U.vm) qX⟩
  · obtain ⟨a1, a2, a3, a4, a5, a6⟩ := hp.2 U hU hW
    exact ⟨a1, a2, a3, a4, a5, a6, by rw [hU]; exact hXc.warm hW⟩
  · subst hpx
    obtain ⟨rfl, hP1, hK1, hD1⟩ := hBX
    rw [ht] at hP1
    have hO1 := oc_kept hO (hk o (oc_lt hO) (ap_not (oc_lt hO) hap))
    refine vx_catch (own := RL) (name := RJx00060) C.2.2.2.2.2.1 [] ⟨0, 9, 12, 13⟩ [] htab (fun _ h => nomatch h) rfl (by decide) (C.2.2.2.2.2.2.1 _ lp_ck) (va_Nw.use rfl hX.1.1) hcell hcv hcl ?_
    refine lv_astore_n (lv' := [(3, .ref q9), (0, .ref (gad G 0)), (1, .int i), (2, .ref o)]) C.1 C.2.1 dL_place_12 rfl hl (by decide) rfl (fun ls hl => ?_)
    refine lv_iconst (v := 1) C.1 C.2.1 dL_place_13 rfl ?_
    exact W.iret C.1 C.2.1 C.2.2.2.1 (fun t ht hw => ⟨⟨1, (f, σ), rfl, ⟨rfl, rfl⟩, ⟨by rw [ht]; exact hO1, by rw [ht]; exact hP1⟩, hD1.weaken (fun _ q _ h => hF _ h)⟩, hS1.F ht⟩) hS1.2.2 dL_place_14 C.2.2.2.2.1
end LP
section LM
variable {G : Gx} {σ : Sg} {sa o : Nat} {kO : ClassId} {f : Nat → Int64} {i : Int32}
theorem lp_ctx {p : Program} {l : Launch} {e : Env} {s s₁ : State} {m : MethodId} {below : List Frame} {meth : Method} {c : Code} {A : Nat → Prop} {a : Array Value} (B : BodyLoose p l mLp.1 (headSpec (.codeWith yL_place cL_place 4 (some .int) [(0, 9, 12, 13)] :: wsG) (rmn 9 1 6)) cL_place 4 (some .int) e s m a below meth c s₁) (hml : c.maxLocals = 4) (hK : va_K G.2.1 vwCl ((kO, .long) :: gtys G) s) (hA : ∀ q : Nat, s.heap.size ≤ q → A q) (hT : sMG G A s s.heap) : XC G mLp p s m a meth c A := by
  have hts := atoms_spec (ws := .codeWith yL_place cL_place 4 (some .int) [(0, 9, 12, 13)] :: wsG) B.pre
  exact ⟨B.exec, B.bytes, hml, B.returns, B.notSynchronized, findClass_of_methodNamed B.named, fun w hw => hts w (List.mem_cons_of_mem _ hw), ⟨hK.1, fun k q h => hK.2 (k + 1) q h⟩, hA, hT⟩
theorem lp_ok {Q : Int32 → Sg → Prop} (hG : gLy G = LyC) (h : wX10_placeN σ i Q) (sz : Nat) : Met G.1 mLp.1 (.codeWith yL_place cL_place 4 (some .int) [(0, 9, 12, 13)] :: wsG) (rmn 9 1 6) (LPc G σ i o kO f sa sz) (LPq G o kO (va_A (oc o kO f :: gpic G σ) sz) (fun r u => r = 0 ∧ ∃ v : Int32, Q v u.2 ∧ u.1 0 = v.toInt64)) 1 6 (va_A (oc o kO f :: gpic G σ) sz) := by
  refine va_MetW (cc := cL_place) (maxL := 4) (ret := some .int) (hh := [(0, 9, 12, 13)]) rfl rfl ?_
  intro p e s m args below meth c s₁ B hml hv
  obtain ⟨rfl, hsz, ⟨hO, hP⟩, hK, ⟨hD0, hap⟩, hT, hX⟩ := hv
  subst hsz
  rw [lg_entry_eq]
  have hD : va_D (va_A (oc o kO f :: gpic G σ) s.heap.size) (gpic G σ) := ⟨hD0.1, fun k q h => Or.inl ⟨k + 1, q.2, h⟩⟩
  exact lp_okW hG h (lp_ctx B hml hK (fun q hq => Or.inr hq) hT) hK (Or.inl ⟨0, _, rfl⟩) hap hO hP hD va_S.rf (lv_entry [.ref (gad G 0), .int i, .ref o] (Nat.le_of_ble_eq_true rfl))
theorem lp_ex {len : Int32} (hG : gLy G = LyC) (hlt : G.1.stackTraces = false) (hrow : isRw (srt (sL σ 10 6))) (hlen : ∀ Q : Int32 → Sg → Prop, Q len σ → wX7_lengthOf σ (sL σ 10 6) Q) (hi : i < 0 ∨ ¬ i < len) (sz : Nat) : Met G.1 mLp.1 (.codeWith yL_place cL_place 4 (some .int) [(0, 9, 12, 13)] :: wsG) (rmn 9 1 6) (LPc G σ i o kO f sa sz) (LPq G o kO (va_A (oc o kO f :: gpic G σ) sz) (fun r u => r = 1 ∧ σ = u.2)) 1 6 (va_A (oc o kO f :: gpic G σ) sz) := by
  refine va_MetW (cc := cL_place) (maxL := 4) (ret := some .int) (hh := [(0, 9, 12, 13)]) rfl rfl ?_
  intro p e s m args below meth c s₁ B hml hv
  obtain ⟨rfl, hsz, ⟨hO, hP⟩, hK, ⟨hD0, hap⟩, hT, hX⟩ := hv
  subst hsz
  have hcw := atoms_spec (ws := .codeWith yL_place cL_place 4 (some .int) [(0, 9, 12, 13)] :: wsG) B.pre _ List.mem_cons_self
  have htab := vx_table (x := mLp.1) B hcw
  rw [lg_entry_eq]
  have hD : va_D (va_A (oc o kO f :: gpic G σ) s.heap.size) (gpic G σ) := ⟨hD0.1, fun k q h => Or.inl ⟨k + 1, q.2, h⟩⟩
  exact lp_exW hG hlt hrow hlen hi (lp_ctx B hml hK (fun q hq => Or.inr hq) hT) hX htab hap hO hP hD va_S.rf (lv_entry [.ref (gad G 0), .int i, .ref o] (Nat.le_of_ble_eq_true rfl))
end LM
