/-! the statics and the kinds at the start -/
theorem tT1 {w : Cond} (h : w ∈ tables_1_1) : w ∈ lw_tbl := List.mem_append_right (k2_sels lw_privs) (show w ∈ tables_1 from List.mem_append_left _ h)
theorem tT2 {w : Cond} (h : w ∈ tables_1_2) : w ∈ lw_tbl := List.mem_append_right (k2_sels lw_privs) (show w ∈ tables_1 from List.mem_append_right _ (List.mem_append_left _ h))
theorem tT4 {w : Cond} (h : w ∈ tables_1_4) : w ∈ lw_tbl := List.mem_append_right (k2_sels lw_privs) (show w ∈ tables_1 from List.mem_append_right _ (List.mem_append_right _ (List.mem_append_right _ (List.mem_append_left _ h))))
set_option maxRecDepth 100000 in
theorem mM : ∀ j, j < 96 → Cond.eq (.elem (.static "SideWork$Acts" "MEANINGS" "[I") (.int (Int32.ofNat j))) (.int (tbM j)) ∈ flatC (Jvm.Cond.and given_1 narrow_1) := by decide +kernel
set_option maxRecDepth 100000 in
theorem mG : ∀ j, j < 7 → Cond.eq (.elem (.static "SideWork$Acts" "GREATEST" "[I") (.int (Int32.ofNat j))) (.int (tbG j)) ∈ flatC (Jvm.Cond.and given_1 narrow_1) := by decide +kernel
section ST
variable {args : Array Value} {s : State} {A : Nat → Prop}
theorem start_T (hts : ∀ w ∈ lw_tbl, w.before args s = true) (hg : (Jvm.Cond.and given_1 narrow_1).before args s = true) (hA : ∀ a : Nat, a < s.heap.size → ¬ A a) : ∃ tM tG : Nat, va_Z "SideWork$Acts" "MEANINGS" "[I" (.ref tM) A s s.heap ∧ va_T .int tM 96 (fun j => .int (tbM j)) A s s.heap ∧ va_Z "SideWork$Acts" "GREATEST" "[I" (.ref tG) A s s.heap ∧ va_T .int tG 7 (fun j => .int (tbG j)) A s s.heap := by
  have hs := flat_of_before _ hg
  obtain ⟨tM, e1, h1⟩ := va_Tof (tm := .static "SideWork$Acts" "MEANINGS" "[I") (ty := .int) (N := 96) (f := fun j => .int (tbM j)) (A := A) (by decide) (hs _ (by decide +kernel)) (va_eqt (z := Int32.ofNat 96) (hs _ (by decide +kernel))) (fun j hj => va_eqt (hs _ (mM j hj))) hA
  obtain ⟨tG, e2, h2⟩ := va_Tof (tm := .static "SideWork$Acts" "GREATEST" "[I") (ty := .int) (N := 7) (f := fun j => .int (tbG j)) (A := A) (by decide) (hs _ (by decide +kernel)) (va_eqt (z := Int32.ofNat 7) (hs _ (by decide +kernel))) (fun j hj => va_eqt (hs _ (mG j hj))) hA
  exact ⟨tM, tG, va_Zref (hts _ (tT2 (List.mem_of_getElem? (i := 24) rfl))) (hts _ (tT1 (List.mem_of_getElem? (i := 2) rfl))) e1 hA, h1, va_Zref (hts _ (tT2 (List.mem_of_getElem? (i := 38) rfl))) (hts _ (tT1 (List.mem_of_getElem? (i := 2) rfl))) e2 hA, h2⟩
theorem start_X (hts : ∀ w ∈ lw_tbl, w.before args s = true) (hg : (Jvm.Cond.and given_1 narrow_1).before args s = true) (hA : ∀ a : Nat, a < s.heap.size → ¬ A a) : ∃ sa : Nat, TX sa A s s.heap := by
  have hs := flat_of_before _ hg
  have hsr : (Cond.stringRef RX10 97 "it has no such place").before args s = true := hts _ (tT4 (List.mem_of_getElem? (i := 91) rfl))
  have hcur : ∃ cur, s.vm.findClass RX10 = some cur := by
    have h1 := hsr
    simp only [Cond.before, Cond.holds, Cond.value] at h1
    cases hc : s.vm.findClass RX10 with
    | none => simp [hc] at h1
    | some cur => exact ⟨cur, rfl⟩
  obtain ⟨cur, hcur⟩ := hcur
  obtain ⟨k, cf, i, a, -, -, -, -, -, hev⟩ := Cond.stringRef_spec hcur hsr
  exact ⟨a, ⟨va_Nw.of rfl (hts _ (tT4 (List.mem_of_getElem? (i := 59) rfl))), va_Nw.of rfl (hts _ (tT4 (List.mem_of_getElem? (i := 61) rfl))), va_Nw.of rfl (hts _ (tT4 (List.mem_of_getElem? (i := 63) rfl))), va_Nw.of rfl (hts _ (tT4 (List.mem_of_getElem? (i := 65) rfl))), va_Nw.of rfl (hts _ (tT4 (List.mem_of_getElem? (i := 67) rfl)))⟩, vk_R.of hsr hev, vx_Zqof (hts _ (tT4 (List.mem_of_getElem? (i := 28) rfl))) (hts _ (tT1 (List.mem_of_getElem? (i := 13) rfl))) (hs _ (by decide +kernel)) hA, vx_Zqof (hts _ (tT4 (List.mem_of_getElem? (i := 30) rfl))) (hts _ (tT1 (List.mem_of_getElem? (i := 13) rfl))) (hs _ (by decide +kernel)) hA⟩
set_option maxRecDepth 100000 in
theorem i_J0 : ∀ w ∈ u_ws RJ0 TJ0 2, w ∈ lw_tbl := by decide +kernel
set_option maxRecDepth 100000 in
theorem i_J60 : ∀ w ∈ u_ws RJx00060 TJx00060 6, w ∈ lw_tbl := by decide +kernel
theorem kn1 {C : String} {T : u_T} {N n : Nat} (hts : ∀ w ∈ lw_tbl, w.before args s = true) (hin : ∀ w ∈ u_ws C T N, w ∈ lw_tbl) (hi : Cond.instantiable C n ∈ lw_tbl) : ∃ x : ClassId × (Nat → Nat), ∀ q : vw_C, some (C, T, N) = some q → u_Kn s q.1 q.2.1 q.2.2 x.1 x.2 := by
  obtain ⟨a, i, hk⟩ := u_known hts hin (hts _ hi)
  exact ⟨(a, i), fun q hq => by cases hq; exact hk⟩
theorem start_D (hts : ∀ w ∈ lw_tbl, w.before args s = true) : ∃ D : va_G, ∀ (k : Nat) (q : vw_C), vwCl[k]? = some q → u_Kn s q.1 q.2.1 q.2.2 (D.1 k) (D.2 k) := by
  have inG : ∀ {C : String} {T : u_T} {N : Nat}, (∀ w ∈ u_ws C T N, w ∈ wsG) → ∀ w ∈ u_ws C T N, w ∈ lw_tbl := fun h w hw => (wsG_in (h w hw)).1
  have h0 := kn1 (n := 4) hts i_J0 (tT4 (List.mem_of_getElem? (i := 78) rfl))
  have h : ∀ k : Nat, ∃ x : ClassId × (Nat → Nat), ∀ q : vw_C, vwCl[k]? = some q → u_Kn s q.1 q.2.1 q.2.2 x.1 x.2 := by
    intro k
    match k with
    | 0 => exact h0
    | 1 => exact kn1 (n := 6) hts i_J60 (tT4 (List.mem_of_getElem? (i := 11) rfl))
    | 2 => exact kn1 hts (inG KC_X0.2.1) (wsG_in iw_X0).1
    | 3 => exact kn1 hts (inG KC_X1.2.1) (wsG_in iw_X1).1
    | 4 => exact kn1 hts (inG KC_X3.2.1) (wsG_in iw_X3).1
    | 5 => exact kn1 hts (inG KC_X5.2.1) (wsG_in iw_X5).1
    | 6 => exact kn1 hts (inG KC_X6.2.1) (wsG_in iw_X6).1
    | 7 => exact kn1 hts (inG KC_X7.2.1) (wsG_in iw_X7).1
    | 8 => exact kn1 hts (inG KC_X8.2.1) (wsG_in iw_X8).1
    | 9 => exact kn1 (n := 3) hts (inG KC_X10.2.1) (tT1 (List.mem_of_getElem? (i := 20) rfl))
    | 10 => exact kn1 (n := 56) hts (inG KC_X11.2.1) (tT4 (List.mem_of_getElem? (i := 96) rfl))
    | k + 11 =>
      obtain ⟨x, -⟩ := h0
      exact ⟨x, fun q hq => by simp at hq⟩
  obtain ⟨f, hf⟩ := Classical.axiomOfChoice h
  exact ⟨(fun k => (f k).1, fun k => (f k).2), fun k q hq => hf k q hq⟩
end ST
