set_option maxRecDepth 100000 in
set_option maxHeartbeats 4000000 in
/-- from the entry, for every script of at most 2560 ints, the law comes to its end with true -/
theorem whole_begin {p : Program} {e : Env} {s : State} {m : MethodId} {below : List Frame} {meth : Method} {c : Code} (l : Launch) (hlt : l.stackTraces = false) {b L : Nat} {xs : Nat → Int32} (hL : L ≤ 2560) (C0 : lw_At p s m meth c b L xs) : W p l e room_1 s m #[Value.ref b] below meth c s.heap [] 0 0 (lw_Z below #[Value.ref b] s) (entryFrame m ([Value.ref b] : List Value).toArray 7) := by
  obtain ⟨hx, hb, hr, hml, hown, hts, hX, hbl, hlocks, hgv⟩ := id C0
  have hG : ∀ w ∈ wsG, w.before #[Value.ref b] s = true := fun w hw => hts w (wsG_in hw).1
  have hA : ∀ q : Nat, s.heap.size ≤ q → nA s q := fun _ h => h
  have hnA : ∀ a : Nat, a < s.heap.size → ¬ nA s a := fun a h => Nat.not_le.mpr h
  obtain ⟨D, hKn⟩ := start_D hts
  obtain ⟨tM, tG, hT⟩ := start_T hts hgv hnA
  obtain ⟨sa, hTX⟩ := start_X hts hgv hnA
  have hS : va_S (nA s) s.heap s.heap [] := va_S.rf
  have hK : va_K D vwCl [] s := ⟨hKn, fun k q h => by simp at h⟩
  have hP : va_P D vwCl [] s.heap := fun k q h => by simp at h
  have hD : va_D (nA s) [] := ⟨fun i j p q h => by simp at h, fun k q h => by simp at h⟩
  have hl := lv_entry ([.ref b]) (n := 7) (Nat.le_of_ble_eq_true rfl)
  rw [lg_entry_eq]
  generalize (lg_sl ([.ref b]) ++ List.replicate (7 - (lg_sl ([.ref b])).length) Slot.unset).toArray = ls at hl ⊢
  have hl : lv_has ls 7 [(0, .ref b)] := hl
  refine va_new (ci := 9) (fs := [.null, .null, .int 0]) (C := RX10) (T := TX10) (N := 3) hx hb hG KC_X10.2.1 tyX10 KC_X10.2.2.1 hown (hG _ cl_8) (hG _ iw_X10) (hG _ ii_X10) hK hP hD hS hA rfl (by decide +kernel) (Nat.le_of_ble_eq_true rfl) (Nat.le_of_ble_eq_true rfl) dL_law_0 (fun h0 H hP hD hS => ?_)
  have hP : va_P D vwCl [(h0, .inr (9, [.null, .null, .int 0]))] H := hP
  have hD : va_D (nA s) [(h0, .inr (9, [.null, .null, .int 0]))] := hD
  refine lv_dup hx hb dL_law_3 rfl ?_
  refine w_init hx hb hml hown hG hA mk_X10_init im_X10 rfl rfl lk_L_15 (Nat.le_of_ble_eq_true rfl) ⟨Nat.le_of_ble_eq_true rfl, Nat.le_of_ble_eq_true rfl⟩ ⟨Nat.le_of_ble_eq_true rfl, Nat.le_of_ble_eq_true rfl⟩ dL_law_4 (nt_X10_init l D h0) hK hP hD hS hl.1 (fun w1 t1 H1 locs1 hw1 hP1 hK1 hD1 _ hS1 => ?_)
  have hD1 : va_D (nA s) w1 := hD1.weaken (fun _ q _ h => A_in hD (fun q hq => Nat.le_trans hS.1 hq) h)
  refine lv_astore_n (lv' := [(1, .ref h0), (0, .ref b)]) hx hb dL_law_7 rfl hl (by decide) rfl (fun ls hl => ?_)
  refine va_new (ci := 10) (fs := [.int 0, .null, .null, .null, .null, .int 0, .int 0, .null, .null, .null, .null, .null, .null, .null, .null, .int 0, .null, .null, .null, .null, .int 0, .null, .null, .null, .int 0, .null, .int 0, .null, .null, .null, .null, .null, .null, .null, .null, .null, .int 0, .int 0, .int 0, .int 0, .int 0, .int 0, .int 0, .int 0, .int 0, .int 0, .int 0, .int 0, .int 0, .int 0, .int 0, .int 0, .int 0, .int 0, .int 0, .int 0]) (C := RX11) (T := TX11) (N := 56) hx hb hG KC_X11.2.1 tyX11 KC_X11.2.2.1 hown (hG _ cl_16) (hG _ iw_X11) (hG _ ii_X11) hK hP1 hD1 hS1 hA rfl (by decide +kernel) (Nat.le_of_ble_eq_true rfl) (Nat.le_of_ble_eq_true rfl) dL_law_8 (fun h1 H2 hP2 hD2 hS2 => ?_)
  obtain ⟨hPl, hPr⟩ := P_two hP2
  obtain ⟨hDl, hDr, hap⟩ := D_two hD2
  refine lv_dup hx hb dL_law_11 rfl ?_
  refine w_init hx hb hml hown hG hA mk_X11_init im_X11 rfl rfl lk_L_18 (Nat.le_of_ble_eq_true rfl) ⟨Nat.le_of_ble_eq_true rfl, Nat.le_of_ble_eq_true rfl⟩ ⟨Nat.le_of_ble_eq_true rfl, Nat.le_of_ble_eq_true rfl⟩ dL_law_12 (nt_X11_init l D h1) hK hPr hDr hS2 hl.1 (fun w2 t2 H3 locs3 hw2 hP3 hK3 hD3 hk3 hS3 => ?_)
  have hn1 : ∀ (k : Nat) (y : Nat × va_E), w1[k]? = some y → ¬ va_A [(h1, .inr (10, [.int 0, .null, .null, .null, .null, .int 0, .int 0, .null, .null, .null, .null, .null, .null, .null, .null, .int 0, .null, .null, .null, .null, .int 0, .null, .null, .null, .int 0, .null, .int 0, .null, .null, .null, .null, .null, .null, .null, .null, .null, .int 0, .int 0, .int 0, .int 0, .int 0, .int 0, .int 0, .int 0, .int 0, .int 0, .int 0, .int 0, .int 0, .int 0, .int 0, .int 0, .int 0, .int 0, .int 0, .int 0]))] H2.size y.1 := by
    intro k y hy h
    rcases A_cons h with h | ⟨k', x', h⟩ | h
    · exact hap k 0 y _ hy rfl h
    · simp at h
    · exact absurd (hPl k y hy).lt (Nat.not_lt.mpr h)
  have hPl : va_P D vwCl w1 H3 := hPl.kept (fun k y hy => hk3 y.1 (hPl k y hy).lt (hn1 k y hy))
  have hxx : ∀ (i j : Nat) (p q : Nat × va_E), w1[i]? = some p → w2[j]? = some q → p.1 ≠ q.1 := fun i j p q hi hj h => hn1 i p hi (by rw [h]; exact hD3.2 j q hj)
  have hDm : va_D (nA s) w2 := hD3.weaken (fun _ q _ h => A_in hDr (fun q hq => Nat.le_trans hS2.1 hq) h)
  refine lv_astore_n (lv' := [(2, .ref h1), (1, .ref h0), (0, .ref b)]) hx hb dL_law_15 rfl hl (by decide) rfl (fun ls hl => ?_)
  refine lv_iconst (v := 1) hx hb dL_law_16 rfl ?_
  refine va_newa (atype := .long) (a0 := (1, .inr (.inl (fun _ => 0)))) hx hb (hG _ aw_L) rfl hK (va_P.app hPl hP3) (va_D.app hDl hDm hxx) hS3 hA (fun _ => rfl) (by decide) rfl (by decide) (Nat.le_of_ble_eq_true rfl) (Nat.le_of_ble_eq_true rfl) dL_law_17 (fun o kO H4 hK4 hP4 hD4 hS4 => ?_)
  obtain ⟨hPa, hPo⟩ := P_two hP4
  obtain ⟨hDa, hDo, hao⟩ := D_two hD4
  obtain ⟨hPc, hPm⟩ := P_two hPa
  have ho : s.heap.size ≤ o := hDo.2 0 _ rfl
  have z1 := init_C hw1
  have z2 := init_M kO hw2
  clear hw1 hw2
  obtain ⟨a1, c1, e1, e2, hKc⟩ := z1
  obtain ⟨a2, c2, e3, e4, hKm⟩ := z2
  subst e2
  subst e4
  rw [e1] at hPc hDl hxx hao
  rw [e3] at hPm hDm hxx hao
  have hKo : va_K D vwCl [(kO, .long)] s := hK4
  have hK5 : va_K D vwCl ((kO, .long) :: tys LyC c1) s := hKo.app (hKc D s hK1)
  have hK6 : va_K D vwCl (tys LyM c2) s := hKm D s (hKo.app hK3)
  refine lv_astore_n (lv' := [(3, .ref o), (2, .ref (a2 0)), (1, .ref (a1 0)), (0, .ref b)]) hx hb dL_law_19 rfl hl (by decide) rfl (fun ls hl => ?_)
  refine lv_iconst (v := 0) hx hb dL_law_20 rfl ?_
  refine lv_istore (lv' := lvj 0 o b a1 a2) hx hb dL_law_21 hl (by decide) rfl (fun ls hl => ?_)
  have g1 : ∀ i, i < LyC.length → ∃ x, (pic LyC a1 c1 st0)[i]? = some (a1 i, x) := fun i hi => ⟨_, pic_at (List.getElem?_eq_getElem hi)⟩
  have g2 : ∀ i, i < LyM.length → ∃ x, (pic LyM a2 c2 sm0)[i]? = some (a2 i, x) := fun i hi => ⟨_, pic_at (List.getElem?_eq_getElem hi)⟩
  have q1 : ∀ i, i < LyC.length → ∀ j, j < LyM.length → a1 i ≠ a2 j := fun i hi j hj => by
    obtain ⟨x, hx⟩ := g1 i hi
    obtain ⟨y, hy⟩ := g2 j hj
    exact hxx i j _ _ hx hy
  have q2 : ∀ i, i < LyC.length → a1 i ≠ o := fun i hi => by
    obtain ⟨x, hx⟩ := g1 i hi
    exact hao i 0 _ _ (by rw [List.getElem?_append_left (List.getElem?_eq_some_iff.mp hx).1]; exact hx) rfl
  have q3 : ∀ j, j < LyM.length → a2 j ≠ o := fun j hj => by
    obtain ⟨y, hy⟩ := g2 j hj
    exact hao ((pic LyC a1 c1 st0).length + j) 0 _ _ (by rw [List.getElem?_append_right (Nat.le_add_right _ _), Nat.add_sub_cancel_left]; exact hy) rfl
  have hC : LC l D a1 c1 a2 c2 (tM, tG) o kO sa b L xs p s m meth c := ⟨⟨hx, hb, hml, hr, hlocks, hown, hG, hKc D s hK1, hA, hT⟩, ⟨hx, hb, hml, hr, hlocks, hown, hG, hK6, hA, hT⟩, hK5, hTX, hlt, hX, hbl, ho, q1, q2, q3⟩
  refine W.widen (k := 61) (n := 40196) (Nat.le_of_ble_eq_true rfl) (Nat.le_of_ble_eq_true rfl) ?_
  exact l_loop hC (by omega) 512 0 61 40196 st0 sm0 (fun _ => 0) H4 locs3 ls (by omega) (by omega) (by omega) (by omega) rel0 ⟨hPc, hPm, hPo, hDl, hDm, hS4⟩ hl
