theorem w_get {G : Gx} {M : Mi} {R : Room} {pc k n : Nat} {σ : Sg} {QQ : State → Prop} {p : Program} {e : Env} {s : State} {m : MethodId} {args : Array Value} {below : List Frame} {meth : Method} {c : Code} {A : Nat → Prop} {H : Heap} {locs : List Loc} {ls : Array Slot} {st : List Value} {Ly : List Ds} {idx o f t : Nat} (hG : gLy G = Ly) (hs : FG Ly M.1.cls idx o f t) (hd : decode M.2.1 pc = .ok (.getfield idx, 3)) (C : XC G M p s m args meth c A) (hP : va_P G.2.1 vwCl (gpic G σ) H) (kk : W p G.1 e R s m args below meth c H locs k n QQ (F0 m (pc + 3) ls (fV (gad G) σ o f t :: st))) : W p G.1 e R s m args below meth c H locs k n QQ (F0 m pc ls (.ref (gad G o) :: st)) := by
  obtain ⟨ci, C', T, N, ty, ts, ⟨k1, k2, k3, k4⟩, h1, h2, h3, h4⟩ := hs
  subst hG
  exact va_get C.1 C.2.1 C.2.2.2.2.2.2.1 k2 C.2.2.2.2.2.1 C.2.2.2.2.2.2.2.1 hP o (pic_at h1) k1 f h3 (C.2.2.2.2.2.2.1 _ h4) (fun _ h => h) (fs_at h2) hd kk
/-! place, where it returns -/
def wX10_placeN (σ : Sg) (l1 : Int32) (Q : Int32 → Sg → Prop) : Prop :=
  wX9_isRow σ (sL σ 10 6) (fun r σ1 => (r = 0 → Q 0 σ1) ∧ (¬ r = 0 → (¬ l1 < 0 ∧ wX7_lengthOf σ1 (sL σ 10 6) (fun r2 σ2 => l1 < r2 ∧ wX7_cellOf σ2 (sL σ 10 6) l1 (fun r3 σ3 => wX7_read σ3 r3 (fun r4 σ4 => wX9_sort σ4 r4 (fun r5 σ5 => (r5 = 0 → wX9_number σ5 r4 (fun r6 σ6 => Q r6 σ6)) ∧ (r5 = 5 → Q 1 σ5) ∧ (r5 = 6 → Q 2 σ5) ∧ (¬ r5 = 0 → ¬ r5 = 5 → ¬ r5 = 6 → Q 0 σ5))))))))
set_option maxRecDepth 100000 in
set_option maxHeartbeats 4000000 in
theorem xX10_placeN {G : Gx} (hG : gLy G = LyC) {σ : Sg} {l1 : Int32} {Q : Int32 → Sg → Prop} (h : wX10_placeN σ l1 Q) : X G mX10_place 5 0 [(0, .ref (gad G 0)), (1, .int l1)] [] σ (qi Q) := by
  unfold wX10_placeN at h
  refine x_aload_n dX10_place_0 rfl 0 rfl ?_
  refine x_getR (q := 5) hG fg_X10_21 dX10_place_1 ?_
  refine x_getR (q := 10) hG fg_X10_48 dX10_place_4 ?_
  refine x_getL hG fg_X10_57 dX10_place_7 ?_
  refine x_lstore_n (lv' := [(2, .long (sL σ 10 6)), (0, .ref (gad G 0)), (1, .int l1)]) dX10_place_10 rfl (by decide) rfl ?_
  refine x_lload_n dX10_place_11 rfl 0 rfl ?_
  refine x_callSi [_] ms_X9_isRow lk_X10_88 rfl ⟨by decide, by decide⟩ rfl (Nat.le_of_ble_eq_true rfl) dX10_place_12 (ct_X9_isRow hG h) (fun r1 σ1 h => ?_)
  refine x_if_ne dX10_place_15 20 (by decide) (fun g => ?_) (fun g => ?_)
  · replace h := h.1 g
    refine x_iconst (v := (0 : Int32)) dX10_place_18 rfl ?_
    exact x_iret rfl dX10_place_19 ⟨_, rfl, h⟩
  · obtain ⟨hi, h⟩ := h.2 g
    refine x_iload_n dX10_place_20 rfl 2 rfl ?_
    refine x_if_lt dX10_place_21 39 (by decide) (fun g2 => absurd g2 hi) (fun g2 => ?_)
    refine x_iload_n dX10_place_24 rfl 2 rfl ?_
    refine x_aload_n dX10_place_25 rfl 1 rfl ?_
    refine x_getR (q := 5) hG fg_X10_21 dX10_place_26 ?_
    refine x_getR (q := 6) hG fg_X10_79 dX10_place_29 ?_
    refine x_lload_n dX10_place_32 rfl 0 rfl ?_
    refine x_callVi [_] hG mv_X7_lengthOf lk_X10_92 rfl rfl rfl ⟨by decide, by decide⟩ rfl (Nat.le_of_ble_eq_true rfl) dX10_place_33 (ct_X7_lengthOf hG h) (fun r2 σ2 h => ?_)
    obtain ⟨hlt, h⟩ := h
    refine x_icmp_lt dX10_place_36 49 (by decide) (fun _ => ?_) (fun g3 => absurd hlt g3)
    refine x_aload_n dX10_place_49 rfl 1 rfl ?_
    refine x_getR (q := 5) hG fg_X10_21 dX10_place_50 ?_
    refine x_getR (q := 6) hG fg_X10_79 dX10_place_53 ?_
    refine x_lload_n dX10_place_56 rfl 0 rfl ?_
    refine x_iload_n dX10_place_57 rfl 2 rfl ?_
    refine x_callSi [_, _] ms_X7_cellOf lk_X10_102 rfl ⟨by decide, by decide⟩ rfl (Nat.le_of_ble_eq_true rfl) dX10_place_58 (ct_X7_cellOf hG h) (fun r3 σ3 h => ?_)
    refine x_callVl [_] hG mv_X7_read lk_X10_106 rfl rfl rfl ⟨by decide, by decide⟩ rfl (Nat.le_of_ble_eq_true rfl) dX10_place_61 (ct_X7_read hG h) (fun r4 σ4 h => ?_)
    refine x_lstore (lv' := [(4, .long r4), (2, .long (sL σ 10 6)), (0, .ref (gad G 0)), (1, .int l1)]) dX10_place_64 (by decide) rfl ?_
    refine x_lload dX10_place_66 0 rfl ?_
    refine x_callSi [_] ms_X9_sort lk_X10_61 rfl ⟨by decide, by decide⟩ rfl (Nat.le_of_ble_eq_true rfl) dX10_place_68 (ct_X9_sort hG h) (fun r5 σ5 h => ?_)
    by_cases g0 : r5 = 0
    · refine x_lookIn (off := 33) (0 : Int32) 104 g0 dX10_place_71 (by decide) (by decide) (by decide) ?_
      replace h := h.1 g0
      refine x_lload dX10_place_104 0 rfl ?_
      refine x_callSi [_] ms_X9_number lk_X10_110 rfl ⟨by decide, by decide⟩ rfl (Nat.le_of_ble_eq_true rfl) dX10_place_106 (ct_X9_number hG h) (fun r6 σ6 h => ?_)
      exact x_iret rfl dX10_place_109 ⟨_, rfl, h⟩
    · by_cases g5 : r5 = 5
      · refine x_lookIn (off := 39) (5 : Int32) 110 g5 dX10_place_71 (by decide) (by decide) (by decide) ?_
        replace h := h.2.1 g5
        refine x_iconst (v := (1 : Int32)) dX10_place_110 rfl ?_
        exact x_iret rfl dX10_place_111 ⟨_, rfl, h⟩
      · by_cases g6 : r5 = 6
        · refine x_lookIn (off := 41) (6 : Int32) 112 g6 dX10_place_71 (by decide) (by decide) (by decide) ?_
          replace h := h.2.2.1 g6
          refine x_iconst (v := (2 : Int32)) dX10_place_112 rfl ?_
          exact x_iret rfl dX10_place_113 ⟨_, rfl, h⟩
        · refine x_lookOut 114 dX10_place_71 (by decide) (by refine (lv_osw g0 rfl).trans ?_; refine (lv_osw g5 rfl).trans ?_; refine (lv_osw g6 rfl).trans ?_; rfl) (by decide) ?_
          replace h := h.2.2.2 g0 g5 g6
          refine x_iconst (v := (0 : Int32)) dX10_place_114 rfl ?_
          exact x_iret rfl dX10_place_115 ⟨_, rfl, h⟩
theorem ct_X10_placeN {G : Gx} (hG : gLy G = LyC) {σ : Sg} {l1 : Int32} {Q : Int32 → Sg → Prop} (h : wX10_placeN σ l1 Q) : CT G mX10_place 5 [.ref (gad G 0), .int l1] σ (qi Q) := ct_of rfl (Nat.le_of_ble_eq_true rfl) rfl (xX10_placeN hG h)
/-! place, where it throws: what is known of the exception's kinds, of the text, of Throwable's two statics -/
def tx_n : List String := ["java/lang/IndexOutOfBoundsException", "java/lang/RuntimeException", "java/lang/Exception"]
def tx_m (Y : String) : MethodName := ⟨Y, "<init>", "(Ljava/lang/String;)V"⟩
def tx_w : List Cond := [.castable RJx00060 RJx00060, .declares (tx_m "java/lang/IndexOutOfBoundsException"), .declares (tx_m "java/lang/RuntimeException"), .declares (tx_m "java/lang/Exception"), .declares (tx_m "java/lang/Throwable")]
def TX (sa : Nat) (A : Nat → Prop) (U : State) (H : Heap) : Prop := (va_Nw (.castable RJx00060 RJx00060) U ∧ va_Nw (.declares (tx_m "java/lang/IndexOutOfBoundsException")) U ∧ va_Nw (.declares (tx_m "java/lang/RuntimeException")) U ∧ va_Nw (.declares (tx_m "java/lang/Exception")) U ∧ va_Nw (.declares (tx_m "java/lang/Throwable")) U) ∧ vk_R RX10 97 "it has no such place" sa U ∧ vx_Zq Bundle.tN "UNASSIGNED_STACK" Bundle.steD A U H ∧ vx_Zq Bundle.tN "SUPPRESSED_SENTINEL" Bundle.listD A U H
theorem TX.warm {sa : Nat} {A : Nat → Prop} {s U : State} {H : Heap} (hW : s.WarmedH U.vm) (h : TX sa A s H) : TX sa A U H := ⟨⟨va_Nw.warmC hW h.1.1, va_Nw.warmD hW h.1.2.1, va_Nw.warmD hW h.1.2.2.1, va_Nw.warmD hW h.1.2.2.2.1, va_Nw.warmD hW h.1.2.2.2.2⟩, vk_R.warm hW h.2.1, h.2.2.1.moved hW.alike, h.2.2.2.moved hW.alike⟩
theorem TX.same {sa : Nat} {A : Nat → Prop} {s U : State} {H : Heap} (hv : s.vm = U.vm) (ha : s.vm.Alike U.vm) (h : TX sa A s H) : TX sa A U H := ⟨⟨va_Nw.same rfl hv h.1.1, va_Nw.same rfl hv h.1.2.1, va_Nw.same rfl hv h.1.2.2.1, va_Nw.same rfl hv h.1.2.2.2.1, va_Nw.same rfl hv h.1.2.2.2.2⟩, vk_R.same hv.symm h.2.1, h.2.2.1.moved ha, h.2.2.2.moved ha⟩
theorem TX.kept {sa : Nat} {A : Nat → Prop} {U : State} {H H1 : Heap} (h : TX sa A U H) (hq : ∀ a : Nat, a < H.size → ¬ A a → H1[a]? = H[a]?) : TX sa A U H1 := ⟨h.1, h.2.1, h.2.2.1.kept hq, h.2.2.2.kept hq⟩
theorem TX.narrow {sa : Nat} {A B : Nat → Prop} {U : State} {H : Heap} (h : TX sa A U H) (hAB : ∀ q, B q → A q) : TX sa B U H := ⟨h.1, h.2.1, h.2.2.1.narrow hAB, h.2.2.2.narrow hAB⟩
set_option maxRecDepth 100000 in
theorem tx_good : (vx_atS RX10 99 RJx00060 tx_n).filter goodWord = ([13, 795, 752, 755, 758, 760, 796, 797, 25, 26, 746, 751, 756, 763, 789, 764, 790, 765, 791, 747, 749, 792, 744, 745, 762, 792, 732, 733, 734, 735, 735, 736, 737, 738, 738, 739, 740, 741, 741, 742, 743, 744, 812, 731, 788, 754, 770, 772, 776, 768, 761, 793, 766] : List Nat).filterMap (fun i => tables_1[i]?) := by decide +kernel
theorem tx_in : ∀ w ∈ (vx_atS RX10 99 RJx00060 tx_n).filter goodWord, w ∈ wsG := by
  intro w hw
  have hg := (List.mem_filter.mp hw).2
  rw [tx_good] at hw
  obtain ⟨i, -, hi⟩ := List.mem_filterMap.mp hw
  exact wsG_of (List.mem_append_right _ (List.mem_of_getElem? hi)) hg
set_option maxRecDepth 100000 in
theorem tx_bad : ∀ w ∈ (vx_atS RX10 99 RJx00060 tx_n).filter (fun w => !goodWord w), w ∈ tx_w := by decide +kernel
set_option maxRecDepth 100000 in
theorem tx_ot : ∀ w ∈ Cond.classLink RX10 95 RJx00060 :: Cond.initialized RJx00060 :: vx_atS RX10 99 RJx00060 tx_n, vx_ot w = true := by decide +kernel
theorem tx_ck : Cond.classLink RX10 95 RJx00060 ∈ wsG := inT4 (List.mem_of_getElem? (i := 90) rfl) rfl
theorem tx_in2 : Cond.initialized RJx00060 ∈ wsG := inT1 (List.mem_of_getElem? (i := 17) rfl) rfl
/-- what a call of place that throws leaves -/
abbrev PX (G : Gx) (σ : Sg) (A : Nat → Prop) : String → State → State → Prop := vx_X (fun u : Sg => σ = u) (fun E u t => E = RJx00060 ∧ va_P G.2.1 vwCl (gpic G u) t.heap ∧ va_K G.2.1 vwCl (gtys G) t ∧ va_D A (gpic G u)) A
abbrev PQ (A : Nat → Prop) : Array Value → State → Outcome → State → Prop := va_Qi (fun (_ : Int32) (_ : Sg) => False) (fun _ _ => True) A
section TH
variable {G : Gx} {σ : Sg} {sa : Nat} {p : Program} {e : Env} {s : State} {m : MethodId} {args : Array Value} {below : List Frame} {meth : Method} {c : Code} {A : Nat → Prop} {H : Heap} {locs : List Loc} {ls : Array Slot}
theorem w_throw {lv : List (Nat × Value)} (hlt : G.1.stackTraces = false) (C : XC G mX10_place p s m args meth c A) (hX : TX sa A s s.heap) (htab : ∀ x ∈ c.exceptionTable.toList, False) (hP : va_P G.2.1 vwCl (gpic G σ) H) (hD : va_D A (gpic G σ)) (hS : va_S A s.heap H locs) (hl : lv_has ls 6 lv) : W p G.1 e (rmn 8 1 6) s m args below meth c H locs 0 0 (vx_MQ below (PQ A) (PX G σ A) args s 1 6 A) (F0 m 39 ls []) := by
  refine vx_throwS (own := RX10) (cls := RJx00060) (text := "it has no such place") (names := tx_n) (ik := 95) (is := 97) (ic := 99) (sa := sa) (A := A) C.1 C.2.1 hlt C.2.2.2.2.2.1 (by decide +kernel) (by decide +kernel) (C.2.2.2.2.2.2.1 _ tx_ck) (C.2.2.2.2.2.2.1 _ tx_in2) hX.2.1 (vx_hat (fun w hw => C.2.2.2.2.2.2.1 _ (tx_in w hw)) tx_bad ?_) tx_ot hX.2.2.1 hX.2.2.2 hS (hl.1.trans C.2.2.1.symm) dX10_place_39 dX10_place_42 dX10_place_43 dX10_place_45 dX10_place_48 (fun x hx => (htab x hx).elim) (Nat.le_of_ble_eq_true rfl) (Nat.le_of_ble_eq_true rfl) (Nat.le_of_ble_eq_true rfl) (Nat.le_of_ble_eq_true rfl) C.2.2.2.2.1 (fun t ha hz hq => ?_) hS.2.2 (Nat.le_refl _) (Nat.le_refl _)
  · exact vx_c (va_Nw.use rfl hX.1.1) (vx_c (va_Nw.use rfl hX.1.2.1) (vx_c (va_Nw.use rfl hX.1.2.2.1) (vx_c (va_Nw.use rfl hX.1.2.2.2.1) (vx_c (va_Nw.use rfl hX.1.2.2.2.2) vx_n))))
  · refine ⟨σ, rfl, ⟨rfl, hP.kept (fun k x hx => hq x.1 (hP k x hx).lt), va_K.moved ha C.2.2.2.2.2.2.2.1, hD⟩, Nat.le_trans hS.1 hz, fun q h1 h2 => ?_⟩
    rw [hq q (Nat.lt_of_lt_of_le h1 hS.1)]
    exact hS.2.1 q h1 h2
set_option maxRecDepth 100000 in
set_option maxHeartbeats 4000000 in
theorem w_placeX {i len : Int32} (hG : gLy G = LyC) (hlt : G.1.stackTraces = false) (hrow : isRw (srt (sL σ 10 6))) (hlen : ∀ Q : Int32 → Sg → Prop, Q len σ → wX7_lengthOf σ (sL σ 10 6) Q) (hi : i < 0 ∨ ¬ i < len) (C : XC G mX10_place p s m args meth c A) (hX : TX sa A s s.heap) (htab : ∀ x ∈ c.exceptionTable.toList, False) (hP : va_P G.2.1 vwCl (gpic G σ) H) (hD : va_D A (gpic G σ)) (hS : va_S A s.heap H locs) (hl : lv_has ls 6 [(0, .ref (gad G 0)), (1, .int i)]) : W p G.1 e (rmn 8 1 6) s m args below meth c H locs 0 0 (vx_MQ below (PQ A) (PX G σ A) args s 1 6 A) (F0 m 0 ls []) := by
  refine lv_aload_n C.1 C.2.1 dX10_place_0 rfl (lv_at hl 0 rfl) ?_
  refine w_get (o := 0) (f := 1) (t := 7) hG fg_X10_21 dX10_place_1 C hP ?_
  refine w_get (o := 5) (f := 2) (t := 12) hG fg_X10_48 dX10_place_4 C hP ?_
  refine w_get (o := 10) (f := 6) (t := 1) hG fg_X10_57 dX10_place_7 C hP ?_
  refine lv_lstore_n (lv' := [(2, .long (sL σ 10 6)), (0, .ref (gad G 0)), (1, .int i)]) C.1 C.2.1 dX10_place_10 rfl hl (by decide) rfl (fun ls hl => ?_)
  refine lv_lload_n C.1 C.2.1 dX10_place_11 rfl (lv_at hl 0 rfl) ?_
  refine w_callS (Q' := qi (fun r σ' => r = 1 ∧ σ = σ')) [_] ms_X9_isRow lk_X10_88 rfl ⟨Nat.le_of_ble_eq_true rfl, Nat.le_of_ble_eq_true rfl⟩ ⟨Nat.le_of_ble_eq_true rfl, Nat.le_of_ble_eq_true rfl⟩ rfl (Nat.le_of_ble_eq_true rfl) dX10_place_12 (ct_X9_isRow hG (c_isRow (fun _ => ⟨rfl, rfl⟩) (fun g => absurd hrow g))) C hP hD hS hl (fun v σ' H1 locs1 hq hP1 hD1 hz hk hS1 => ?_)
  obtain ⟨r, rfl, rfl, rfl⟩ := hq
  change W p G.1 e (rmn 8 1 6) s m args below meth c H1 locs1 0 0 (vx_MQ below (PQ A) (PX G σ A) args s 1 6 A) (F0 m 15 ls [.int 1])
  refine lv_if_ne (tgt := 20) C.1 C.2.1 dX10_place_15 (by decide) (fun _ => ?_) (fun g => absurd (show (1 : Int32) = 0 by simpa using g) ne10)
  refine lv_iload_n C.1 C.2.1 dX10_place_20 rfl (lv_at hl 2 rfl) ?_
  refine lv_if_lt (tgt := 39) C.1 C.2.1 dX10_place_21 (by decide) (fun _ => w_throw hlt C hX htab hP1 hD1 hS1 hl) (fun g => ?_)
  refine lv_iload_n C.1 C.2.1 dX10_place_24 rfl (lv_at hl 2 rfl) ?_
  refine lv_aload_n C.1 C.2.1 dX10_place_25 rfl (lv_at hl 1 rfl) ?_
  refine w_get (o := 0) (f := 1) (t := 7) hG fg_X10_21 dX10_place_26 C hP1 ?_
  refine w_get (o := 5) (f := 1) (t := 8) hG fg_X10_79 dX10_place_29 C hP1 ?_
  refine lv_lload_n C.1 C.2.1 dX10_place_32 rfl (lv_at hl 0 rfl) ?_
  refine w_callV (Q' := qi (fun r σ' => r = len ∧ σ = σ')) (o := 6) [_] mv_X7_lengthOf lk_X10_92 (by rw [hG]; rfl) rfl rfl ⟨Nat.le_of_ble_eq_true rfl, Nat.le_of_ble_eq_true rfl⟩ ⟨Nat.le_of_ble_eq_true rfl, Nat.le_of_ble_eq_true rfl⟩ rfl (Nat.le_of_ble_eq_true rfl) dX10_place_33 (ct_X7_lengthOf hG (hlen _ ⟨rfl, rfl⟩)) C hP1 hD1 hS1 hl (fun v σ' H2 locs2 hq hP2 hD2 hz2 hk2 hS2 => ?_)
  obtain ⟨r, rfl, rfl, rfl⟩ := hq
  change W p G.1 e (rmn 8 1 6) s m args below meth c H2 locs2 0 0 (vx_MQ below (PQ A) (PX G σ A) args s 1 6 A) (F0 m 36 ls [.int r, .int i])
  refine lv_icmp_lt (tgt := 49) C.1 C.2.1 dX10_place_36 (by decide) (fun g2 => ?_) (fun _ => w_throw hlt C hX htab hP2 hD2 hS2 hl)
  rcases hi with hi | hi
  · exact absurd hi (by simpa using g)
  · exact absurd g2 hi
end TH
theorem vt_X10_place {G : Gx} {σ : Sg} {sa : Nat} {i len : Int32} (hG : gLy G = LyC) (hlt : G.1.stackTraces = false) (hrow : isRw (srt (sL σ 10 6))) (hlen : ∀ Q : Int32 → Sg → Prop, Q len σ → wX7_lengthOf σ (sL σ 10 6) Q) (hi : i < 0 ∨ ¬ i < len) (sz : Nat) : vx_Met G.1 mX10_place.1 (.code mX10_place.1 mX10_place.2.1 6 (some .int) :: wsG) (rmn 8 1 6) (va_Pc [.ref (gad G 0), .int i] (fun U => U.heap.size = sz ∧ va_P G.2.1 vwCl (gpic G σ) U.heap ∧ va_K G.2.1 vwCl (gtys G) U ∧ va_D (fun _ => True) (gpic G σ) ∧ sMG G (va_A (gpic G σ) sz) U U.heap ∧ TX sa (va_A (gpic G σ) sz) U U.heap)) (PQ (va_A (gpic G σ) sz)) (PX G σ (va_A (gpic G σ) sz)) 1 6 (va_A (gpic G σ) sz) := by
  refine vx_ofW (cc := cX10_place) (maxL := 6) (ret := some .int) rfl rfl ?_
  intro p e s m args below meth c s₁ B hml htab hv
  obtain ⟨rfl, hsz, hP, hK, hD0, hT, hX⟩ := hv
  have hts := atoms_spec (ws := .code mX10_place.1 mX10_place.2.1 6 (some .int) :: wsG) B.pre
  subst hsz
  rw [lg_entry_eq]
  exact w_placeX hG hlt hrow hlen hi ⟨B.exec, B.bytes, hml, B.returns, B.notSynchronized, findClass_of_methodNamed B.named, fun w hw => hts w (List.mem_cons_of_mem _ hw), hK, fun q hq => Or.inr hq, hT⟩ hX htab hP hD0.self va_S.rf (lv_entry [.ref (gad G 0), .int i] (Nat.le_of_ble_eq_true rfl))
